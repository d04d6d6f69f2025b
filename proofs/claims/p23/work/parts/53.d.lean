section
-- 53.d
section
section
variable {TT : (Nat → Int32) → Int32 → (Nat → Int32) → Int32 → Int64 → Int64 → List Int32 → List (Nat → Int32) → (Nat → Int64) → Prop} {x y z m : q_S} {c d w : Int} {A X Y S : Int32} {C Z I D V N : Bool}
theorem q_cpu.fl {C' : Bool} (q : q_cpu A X Y S C Z I D V N x m) : q_cpu A X Y S C' Z I D V N (q_sI x 23 5 (q_F C' Z I D V N)) (q_sA m 15 (upd (m.1 15) 5 (q_b C'))) ∧ q_CX x (q_sI x 23 5 (q_F C' Z I D V N)) ∧ q_CM m (q_sA m 15 (upd (m.1 15) 5 (q_b C'))) := by
  obtain ⟨q1, q2, q3, q4, q5, q6, q7, q8, q9, q10, q11⟩ := q
  exact ⟨⟨q1, q2, q3, q4, rfl, rfl, q7, q8, q9, q10, q11⟩, q_CX_k 5 _ rfl, q_CM_f 5 _ rfl⟩
/-- the carry set or cleared -/
theorem q_sc (q : q_cpu A X Y S C Z I D V N x m) : dz_N149_87_t x 1 = q_sI x 23 5 (q_F true Z I D V N) ∧ dz_N149_87_f x 1 = q_sI x 23 5 (q_F false Z I D V N) := by
  obtain ⟨q1, q2, q3, q4, q5, q6, q7, q8, q9, q10, q11⟩ := q
  obtain ⟨f1, f2, -⟩ := q_Ft C Z I D V N
  unfold dz_N149_87_t dz_N149_87_f
  rw [q5, f1, f2]
  exact ⟨rfl, rfl⟩
theorem q_cmp (q : q_cpu A X Y S C Z I D V N x m) (a v : Int32) : ∃ y m2, dz_N151_87 x a v = y ∧ (cond (decide (a < v)) (q_let (dz_M261_64 (q_sA m 15 (upd (m.1 15) 5 (vp_nar .boolean 0))) ((a - v) &&& 255)) fun r995 => some r995.1) (q_let (dz_M261_64 (q_sA m 15 (upd (m.1 15) 5 (vp_nar .boolean 1))) ((a - v) &&& 255)) fun r996 => some r996.1)) = some m2 ∧ q_cpu A X Y S (!decide (a < v)) (decide ((a - v) &&& 255 = 0)) I D V (decide (127 < (a - v) &&& 255)) y m2 ∧ q_CX x y ∧ q_CM m m2 := by
  obtain ⟨s1, s2⟩ := q_sc q
  have n1 : vp_nar .boolean 1 = q_b true := by decide
  have n0 : vp_nar .boolean 0 = q_b false := by decide
  unfold dz_N151_87 q_let
  rw [s1, s2, n1, n0]
  cases decide (a < v) with
  | true =>
    obtain ⟨t1, t2, t3⟩ := q.fl (C' := false)
    obtain ⟨j1, j2, j3, j4, j5⟩ := q_jud t1 ((a - v) &&& 255)
    exact ⟨_, _, rfl, rfl, j3, t2.trans j4, t3.trans j5⟩
  | false =>
    obtain ⟨t1, t2, t3⟩ := q.fl (C' := true)
    obtain ⟨j1, j2, j3, j4, j5⟩ := q_jud t1 ((a - v) &&& 255)
    exact ⟨_, _, rfl, rfl, j3, t2.trans j4, t3.trans j5⟩
/-- numbers 0 to 3 set -/
theorem q_cpu.wa (q : q_cpu A X Y S C Z I D V N x m) (v : Int32) : q_cpu v X Y S C Z I D V N (q_sI x 23 0 v) (q_sA m 14 (upd (m.1 14) 0 v)) := by
  obtain ⟨q1, q2, q3, q4, q5, q6, q7, q8, q9, q10, q11⟩ := q
  exact ⟨⟨rfl, rfl⟩, q2, q3, q4, q5, q6, q7, q8, q9, q10, q11⟩
theorem q_cpu.wx (q : q_cpu A X Y S C Z I D V N x m) (v : Int32) : q_cpu A v Y S C Z I D V N (q_sI x 23 1 v) (q_sA m 14 (upd (m.1 14) 1 v)) := by
  obtain ⟨q1, q2, q3, q4, q5, q6, q7, q8, q9, q10, q11⟩ := q
  exact ⟨q1, ⟨rfl, rfl⟩, q3, q4, q5, q6, q7, q8, q9, q10, q11⟩
theorem q_cpu.wy (q : q_cpu A X Y S C Z I D V N x m) (v : Int32) : q_cpu A X v S C Z I D V N (q_sI x 23 2 v) (q_sA m 14 (upd (m.1 14) 2 v)) := by
  obtain ⟨q1, q2, q3, q4, q5, q6, q7, q8, q9, q10, q11⟩ := q
  exact ⟨q1, q2, ⟨rfl, rfl⟩, q4, q5, q6, q7, q8, q9, q10, q11⟩
theorem q_cpu.ws (q : q_cpu A X Y S C Z I D V N x m) (v : Int32) : q_cpu A X Y v C Z I D V N (q_sI x 23 3 v) (q_sA m 14 (upd (m.1 14) 3 v)) := by
  obtain ⟨q1, q2, q3, q4, q5, q6, q7, q8, q9, q10, q11⟩ := q
  exact ⟨q1, q2, q3, ⟨rfl, rfl⟩, q5, q6, q7, q8, q9, q10, q11⟩
/-- a word of the processor becomes a result -/
theorem q_bec (q : q_cpu A X Y S C Z I D V N x m) (v : Int32) : (dz_M262_64 m 0 v = some (q_sA (dz_M261_64 m v).1 14 (upd ((dz_M261_64 m v).1.1 14) 0 v)) ∧ q_cpu v X Y S C (decide (v = 0)) I D V (decide (127 < v)) (q_sI (dz_N150_87 x v).1 23 0 v) (q_sA (dz_M261_64 m v).1 14 (upd ((dz_M261_64 m v).1.1 14) 0 v))) ∧ (dz_M262_64 m 1 v = some (q_sA (dz_M261_64 m v).1 14 (upd ((dz_M261_64 m v).1.1 14) 1 v)) ∧ q_cpu A v Y S C (decide (v = 0)) I D V (decide (127 < v)) (q_sI (dz_N150_87 x v).1 23 1 v) (q_sA (dz_M261_64 m v).1 14 (upd ((dz_M261_64 m v).1.1 14) 1 v))) ∧ (dz_M262_64 m 2 v = some (q_sA (dz_M261_64 m v).1 14 (upd ((dz_M261_64 m v).1.1 14) 2 v)) ∧ q_cpu A X v S C (decide (v = 0)) I D V (decide (127 < v)) (q_sI (dz_N150_87 x v).1 23 2 v) (q_sA (dz_M261_64 m v).1 14 (upd ((dz_M261_64 m v).1.1 14) 2 v))) := by
  obtain ⟨j1, j2, j3, j4, j5⟩ := q_jud q v
  refine ⟨⟨?_, j3.wa v⟩, ⟨?_, j3.wx v⟩, ⟨?_, j3.wy v⟩⟩
  · unfold dz_M262_64 q_let
    dsimp only
    rw [j2]; rfl
  · unfold dz_M262_64 q_let
    dsimp only
    rw [j2]; rfl
  · unfold dz_M262_64 q_let
    dsimp only
    rw [j2]; rfl
theorem q_257 (q : q_cpu A X Y S C Z I D V N x m) (v : Int32) : dz_M257_64 m 5 v = some (cond C v 0) := by
  obtain ⟨q1, q2, q3, q4, q5, q6, q7, q8, q9, q10, q11⟩ := q
  show cond (decide (m.1 15 5 = 0)) (some 0) (some v) = _
  rw [q6]
  cases C <;> rfl
/-- the binary sum -/
theorem q_bin (q : q_cpu A X Y S C Z I D V N x m) (hA : q_rgz 0 255 A) {v : Int32} (hv : q_rgz 0 255 v) : ∃ y m2 C' V', dz_N156_87 x v = y ∧ dz_M264_64 m v = some m2 ∧ q_cpu (((A + v) + q_b C) &&& 255) X Y S C' (decide (((A + v) + q_b C) &&& 255 = 0)) I D V' (decide (127 < ((A + v) + q_b C) &&& 255)) y (q_sA (q_sA m2 15 (upd (m2.1 15) 4 (q_b (decide (((A + v) + q_b C) &&& 255 = 0))))) 15 (upd (upd (m2.1 15) 4 (q_b (decide (((A + v) + q_b C) &&& 255 = 0)))) 0 (q_b (decide (127 < ((A + v) + q_b C) &&& 255))))) ∧ q_CX x y ∧ q_CM m m2 ∧ m2.1 14 0 = ((A + v) + q_b C) &&& 255 ∧ m2.1 15 2 = q_b D := by
  have e257 := q_257 q 1
  have c1 : cond C (1 : Int32) 0 = q_b C := rfl
  rw [c1] at e257
  have qq := q
  obtain ⟨q1, q2, q3, q4, q5, q6, q7, q8, q9, q10, q11⟩ := q
  obtain ⟨b1, b2, -⟩ := q_Fb C Z I D V N
  have n1 : vp_nar .boolean 1 = q_b true := by decide
  have n0 : vp_nar .boolean 0 = q_b false := by decide
  have a0 := hA.1
  have a1 := hA.2
  have v0 := hv.1
  have v1 := hv.2
  have bc : 0 ≤ (q_b C).toInt ∧ (q_b C).toInt ≤ 1 := by cases C <;> decide
  have s1 : (A + v).toInt = A.toInt + v.toInt := q_addI ⟨by omega, by omega⟩ ⟨by omega, by omega⟩
  have s2 : ((A + v) + q_b C).toInt = A.toInt + v.toInt + (q_b C).toInt := by rw [q_addI ⟨by omega, by omega⟩ ⟨by omega, by omega⟩, s1]
  have em : ((A + v) + q_b C) - ((A + v) + q_b C) / 256 * 256 = ((A + v) + q_b C) &&& 255 := q_m8z (u := 511) ⟨by omega, by omega⟩
  unfold dz_N156_87 dz_M264_64
  rw [e257, Option.bind_some, q1.1, q1.2, q5, b1, em, n1, n0]
  generalize (A + v) + q_b C = S9 at *
  unfold dz_N149_87_t dz_N149_87_f q_let
  dsimp only
  rw [q5]
  obtain ⟨f1, f2, f3, f4, f5, f6, f7, f8, f9⟩ := q_Ft C Z I D V N
  rw [f7, f8]
  have jt : ∀ (C' V' : Bool), (dz_N150_87 (q_sI (q_sI x 23 5 (q_F C Z I D V' N)) 23 5 (q_F C' Z I D V' N)) (S9 &&& 255)) = (q_sI (q_sI (q_sI x 23 5 (q_F C Z I D V' N)) 23 5 (q_F C' Z I D V' N)) 23 5 (q_F C' (decide (S9 &&& 255 = 0)) I D V' (decide (127 < S9 &&& 255))), S9 &&& 255) := fun C' V' => by
    obtain ⟨j1, j2, j3, j4⟩ := q_Fj C' Z I D V' N
    unfold dz_N150_87
    show (cond (decide (S9 &&& 255 = 0)) (cond (decide (127 < S9 &&& 255)) (q_sI _ 23 5 (((q_F C' Z I D V' N &&& (-131)) ||| 2) ||| 128), S9 &&& 255) (q_sI _ 23 5 (((q_F C' Z I D V' N &&& (-131)) ||| 2) ||| 0), S9 &&& 255)) (cond (decide (127 < S9 &&& 255)) (q_sI _ 23 5 (((q_F C' Z I D V' N &&& (-131)) ||| 0) ||| 128), S9 &&& 255) (q_sI _ 23 5 (((q_F C' Z I D V' N &&& (-131)) ||| 0) ||| 0), S9 &&& 255))) = _
    rw [j1, j2, j3, j4]
    cases decide (S9 &&& 255 = 0) <;> cases decide (127 < S9 &&& 255) <;> rfl
  have g : ∀ V', (q_F C Z I D V' N ||| 1 = q_F true Z I D V' N) ∧ (q_F C Z I D V' N &&& ((1 : Int32) ^^^ (-1)) = q_F false Z I D V' N) := fun V' => ⟨(q_Ft C Z I D V' N).1, (q_Ft C Z I D V' N).2.1⟩
  have e5 : ∀ v9 : Int32, (q_sI x 23 5 v9).2.1 23 5 = v9 := fun _ => rfl
  simp only [e5, (g true).1, (g true).2, (g false).1, (g false).2, jt]
  have cx : ∀ a b e : Int32, q_CX x (q_sI (q_sI (q_sI (q_sI x 23 5 a) 23 5 b) 23 5 e) 23 0 (S9 &&& 255)) := fun a b e => (((q_CX_k 5 a rfl).trans (q_CX_k 5 b rfl)).trans (q_CX_k 5 e rfl)).trans (q_CX_k 0 _ rfl)
  cases decide (((A ^^^ S9) &&& (v ^^^ S9)) &&& 128 = 0) with
  | true =>
    cases decide (255 < S9) with
    | true => exact ⟨_, _, true, false, rfl, rfl, ⟨⟨rfl, rfl⟩, q2, q3, q4, rfl, rfl, rfl, q8, q9, rfl, rfl⟩, cx _ _ _, ((q_CM_f 1 _ rfl).trans (q_CM_f 5 _ rfl)).trans (q_CM_n 0 _ rfl), rfl, q9⟩
    | false => exact ⟨_, _, false, false, rfl, rfl, ⟨⟨rfl, rfl⟩, q2, q3, q4, rfl, rfl, rfl, q8, q9, rfl, rfl⟩, cx _ _ _, ((q_CM_f 1 _ rfl).trans (q_CM_f 5 _ rfl)).trans (q_CM_n 0 _ rfl), rfl, q9⟩
  | false =>
    cases decide (255 < S9) with
    | true => exact ⟨_, _, true, true, rfl, rfl, ⟨⟨rfl, rfl⟩, q2, q3, q4, rfl, rfl, rfl, q8, q9, rfl, rfl⟩, cx _ _ _, ((q_CM_f 1 _ rfl).trans (q_CM_f 5 _ rfl)).trans (q_CM_n 0 _ rfl), rfl, q9⟩
    | false => exact ⟨_, _, false, true, rfl, rfl, ⟨⟨rfl, rfl⟩, q2, q3, q4, rfl, rfl, rfl, q8, q9, rfl, rfl⟩, cx _ _ _, ((q_CM_f 1 _ rfl).trans (q_CM_f 5 _ rfl)).trans (q_CM_n 0 _ rfl), rfl, q9⟩
end
end
section
section
variable {TT : (Nat → Int32) → Int32 → (Nat → Int32) → Int32 → Int64 → Int64 → List Int32 → List (Nat → Int32) → (Nat → Int64) → Prop} {x y z m : q_S} {c d w : Int} {A X Y S : Int32} {C Z I D V N : Bool}
theorem q_261 (m : q_S) (v : Int32) : (dz_M261_64 m v).1 = q_sA (q_sA m 15 (upd (m.1 15) 4 (q_b (decide (v = 0))))) 15 (upd (upd (m.1 15) 4 (q_b (decide (v = 0)))) 0 (q_b (decide (127 < v)))) := by
  have n1 : vp_nar .boolean 1 = q_b true := by decide
  have n0 : vp_nar .boolean 0 = q_b false := by decide
  unfold dz_M261_64 q_let
  rw [n1, n0]
  cases decide (v = 0) <;> cases decide (127 < v) <;> rfl
theorem q_sIv (s : q_S) (i k : Nat) (v : Int32) : (q_sI s i k v).2.1 i k = v := by
  show cond (Nat.beq i i) (cond (Nat.beq k k) v (s.2.1 i k)) (s.2.1 i k) = v
  rw [Nat.beq_refl, Nat.beq_refl]; rfl
theorem q_sIn (s : q_S) (i k j : Nat) (v : Int32) (h : Nat.beq j k = false) : (q_sI s i k v).2.1 i j = s.2.1 i j := by
  show cond (Nat.beq i i) (cond (Nat.beq j k) v (s.2.1 i j)) (s.2.1 i j) = _
  rw [Nat.beq_refl, h]; rfl
theorem q_150 {s : q_S} (hs : s.2.1 23 5 = q_F C Z I D V N) (v : Int32) : dz_N150_87 s v = (q_sI s 23 5 (q_F C (decide (v = 0)) I D V (decide (127 < v))), v) := by
  obtain ⟨j1, j2, j3, j4⟩ := q_Fj C Z I D V N
  unfold dz_N150_87
  rw [hs, j1, j2, j3, j4]
  cases decide (v = 0) <;> cases decide (127 < v) <;> rfl
/-- what follows a decimal sum: the carry, the result -/
theorem q_fin {a A2 : Int32} {m2 : q_S} (c2 : Bool) (q : q_cpu a X Y S C Z I D V N y (dz_M261_64 m2 a).1) : q_cpu A2 X Y S c2 (decide (A2 = 0)) I D V (decide (127 < A2)) (q_sI (dz_N150_87 (cond c2 (dz_N149_87_t y 1) (dz_N149_87_f y 1)) A2).1 23 0 (dz_N150_87 (cond c2 (dz_N149_87_t y 1) (dz_N149_87_f y 1)) A2).2) (dz_M261_64 (q_sA (q_sA m2 15 (upd (m2.1 15) 5 (q_b c2))) 14 (upd (m2.1 14) 0 A2)) A2).1 ∧ q_CX y (q_sI (dz_N150_87 (cond c2 (dz_N149_87_t y 1) (dz_N149_87_f y 1)) A2).1 23 0 (dz_N150_87 (cond c2 (dz_N149_87_t y 1) (dz_N149_87_f y 1)) A2).2) ∧ q_CM m2 (dz_M261_64 (q_sA (q_sA m2 15 (upd (m2.1 15) 5 (q_b c2))) 14 (upd (m2.1 14) 0 A2)) A2).1 := by
  obtain ⟨s1, s2⟩ := q_sc q
  rw [s1, s2, show (cond c2 (q_sI y 23 5 (q_F true Z I D V N)) (q_sI y 23 5 (q_F false Z I D V N))) = q_sI y 23 5 (q_F c2 Z I D V N) by cases c2 <;> rfl]
  rw [q_261] at q
  obtain ⟨q1, q2, q3, q4, q5, q6, q7, q8, q9, q10, q11⟩ := q
  have jt := q_150 (s := q_sI y 23 5 (q_F c2 Z I D V N)) (q_sIv _ _ _ _) A2
  rw [jt, q_261]
  have hN : ∀ k, Nat.beq k 5 = false → Nat.beq k 0 = false → (q_sI (q_sI (q_sI y 23 5 (q_F c2 Z I D V N)) 23 5 (q_F c2 (decide (A2 = 0)) I D V (decide (127 < A2)))) 23 0 A2).2.1 23 k = y.2.1 23 k := fun k h5 h0 => (q_sIn _ _ _ _ _ h0).trans ((q_sIn _ _ _ _ _ h5).trans (q_sIn _ _ _ _ _ h5))
  have e14 : ∀ (s : q_S) (f g : Nat → Int32), (q_sA (q_sA s 15 f) 15 g).1 14 = s.1 14 := fun s f g => (q_sA2 _ _ rfl).trans (q_sA2 _ _ rfl)
  have e15 : ∀ (s : q_S) (f g : Nat → Int32), (q_sA (q_sA s 15 f) 15 g).1 15 = g := fun s f g => q_sA1 _ _ _
  rw [e14] at q1 q2 q3 q4
  rw [e15] at q6 q7 q8 q9 q10 q11
  have m14 : (q_sA (q_sA m2 15 (upd (m2.1 15) 5 (q_b c2))) 14 (upd (m2.1 14) 0 A2)).1 14 = upd (m2.1 14) 0 A2 := q_sA1 _ _ _
  have m15 : (q_sA (q_sA m2 15 (upd (m2.1 15) 5 (q_b c2))) 14 (upd (m2.1 14) 0 A2)).1 15 = upd (m2.1 15) 5 (q_b c2) := (q_sA2 _ _ rfl).trans (q_sA1 _ _ _)
  refine ⟨?_, ((q_CX_k 5 _ rfl).trans (q_CX_k 5 _ rfl)).trans (q_CX_k 0 _ rfl), (((q_CM_f 5 _ rfl).trans (q_CM_n 0 _ rfl)).trans (q_CM_f 4 _ rfl)).trans (q_CM_f 0 _ rfl)⟩
  unfold q_cpu
  rw [e14, e15, m14, m15, hN 1 rfl rfl, hN 2 rfl rfl, hN 3 rfl rfl]
  refine ⟨⟨q_sIv _ _ _ _, q_upE _ _ rfl⟩, ⟨q2.1, (q_upN _ _ (by decide)).trans q2.2⟩, ⟨q3.1, (q_upN _ _ (by decide)).trans q3.2⟩, ⟨q4.1, (q_upN _ _ (by decide)).trans q4.2⟩, (q_sIn _ _ _ _ _ rfl).trans (q_sIv _ _ _ _), ?_, ?_, ?_, ?_, ?_, q_upE _ _ rfl⟩
  · exact (q_upN _ _ (by decide)).trans ((q_upN _ _ (by decide)).trans (q_upE _ _ rfl))
  · exact (q_upN _ _ (by decide)).trans (q_upE _ _ rfl)
  · rw [q_upN _ _ (by decide), q_upN _ _ (by decide)] at q8; exact (q_upN _ _ (by decide)).trans ((q_upN _ _ (by decide)).trans ((q_upN _ _ (by decide)).trans q8))
  · rw [q_upN _ _ (by decide), q_upN _ _ (by decide)] at q9; exact (q_upN _ _ (by decide)).trans ((q_upN _ _ (by decide)).trans ((q_upN _ _ (by decide)).trans q9))
  · rw [q_upN _ _ (by decide), q_upN _ _ (by decide)] at q10; exact (q_upN _ _ (by decide)).trans ((q_upN _ _ (by decide)).trans ((q_upN _ _ (by decide)).trans q10))
theorem q_mn10 (a : Int32) : a + (-10) = a - 10 := by first | (rw [Int32.sub_eq_add_neg]; done) | (rw [Int32.sub_eq_add_neg]; rfl)
theorem q_mn1z (a : Int32) : a + (-1) = a - 1 := by first | (rw [Int32.sub_eq_add_neg]; done) | (rw [Int32.sub_eq_add_neg]; rfl)
theorem q_s0' (a : Int32) : a - 0 = a := Int32.sub_zero a
/-- a sum, binary or decimal -/
theorem q_adc (q : q_cpu A X Y S C Z I D V N x m) (hA : q_rgz 0 255 A) {v : Int32} (hv : q_rgz 0 255 v) : ∃ m2 A' C' Z' V' N', dz_M267_64_t m v = some m2 ∧ q_cpu A' X Y S C' Z' I D V' N' (dz_N154_87 x v) m2 ∧ q_CX x (dz_N154_87 x v) ∧ q_CM m m2 := by
  obtain ⟨y, m1, C1, V1, b1, b2, b3, b4, b5, b6, b7⟩ := q_bin q hA hv
  have e257 := q_257 q 1
  obtain ⟨t1, t2, t3⟩ := q_Fb C Z I D V N
  have qx := q.1.1
  have qm := q.1.2
  have q5 := q.2.2.2.2.1
  rw [← q_261] at b3
  have y5 := b3.2.2.2.2.1
  obtain ⟨u1, u2, u3⟩ := q_Fb C1 (decide (((A + v) + q_b C) &&& 255 = 0)) I D V1 (decide (127 < ((A + v) + q_b C) &&& 255))
  have n1 : vp_nar .boolean 1 = q_b true := by decide
  have n0 : vp_nar .boolean 0 = q_b false := by decide
  unfold dz_M267_64_t dz_N154_87 q_let
  dsimp only
  rw [e257, Option.bind_some, b2, Option.bind_some, b1, qx, qm, q5, t1, y5, u2, b7]
  have c1 : cond C (1 : Int32) 0 = q_b C := rfl
  rw [c1]
  cases D with
  | false =>
    refine ⟨(dz_M261_64 m1 (m1.1 14 0)).1, _, _, _, _, _, ?_, by rw [b6]; exact b3, b4, b5.trans ?_⟩
    · show (dz_M267_64_t_56 m1 v A (q_b C)) = _
      unfold dz_M267_64_t_56 q_let
      rw [b7]; rfl
    · rw [q_261]; exact (q_CM_f 4 _ rfl).trans (q_CM_f 0 _ rfl)
  | true =>
    show ∃ m2 A' C' Z' V' N', some (dz_M261_64 (dz_M265_64 m1 A v (q_b C)) ((dz_M265_64 m1 A v (q_b C)).1 14 0)).1 = some m2 ∧ _
    unfold dz_M265_64 dz_N154_87_64 q_let
    rw [n1, n0]
    simp only [q_mn10]
    simp only [Int32.add_zero, Int32.sub_zero]
    generalize (A - A / 16 * 16) + (v - v / 16 * 16) + q_b C = lo
    generalize (A / 16) + (v / 16) = hi
    cases decide (9 < lo) with
    | true =>
      cases decide (9 < hi + 1) with
      | true =>
        obtain ⟨f1, f2, f3⟩ := q_fin (A2 := ((16 * (hi + 1 - 10)) + (lo - 10)) &&& 255) true b3
        simp only [cond_true, cond_false] at f1 f2
        refine ⟨_, _, _, _, _, _, ?_, f1, b4.trans f2, b5.trans f3⟩
        rfl
      | false =>
        obtain ⟨f1, f2, f3⟩ := q_fin (A2 := ((16 * (hi + 1)) + (lo - 10)) &&& 255) false b3
        simp only [cond_true, cond_false] at f1 f2
        refine ⟨_, _, _, _, _, _, ?_, f1, b4.trans f2, b5.trans f3⟩
        rfl
    | false =>
      cases decide (9 < hi) with
      | true =>
        obtain ⟨f1, f2, f3⟩ := q_fin (A2 := ((16 * (hi - 10)) + lo) &&& 255) true b3
        simp only [cond_true, cond_false] at f1 f2
        refine ⟨_, _, _, _, _, _, ?_, f1, b4.trans f2, b5.trans f3⟩
        rfl
      | false =>
        obtain ⟨f1, f2, f3⟩ := q_fin (A2 := ((16 * hi) + lo) &&& 255) false b3
        simp only [cond_true, cond_false] at f1 f2
        refine ⟨_, _, _, _, _, _, ?_, f1, b4.trans f2, b5.trans f3⟩
        rfl
/-- a difference -/
theorem q_sbc (q : q_cpu A X Y S C Z I D V N x m) (hA : q_rgz 0 255 A) {v : Int32} (hv : q_rgz 0 255 v) : ∃ m2 A' C' Z' V' N', dz_M267_64_f m v = some m2 ∧ q_cpu A' X Y S C' Z' I D V' N' (dz_N155_87 x v) m2 ∧ q_CX x (dz_N155_87 x v) ∧ q_CM m m2 := by
  have v0 := hv.1
  have v1 := hv.2
  have z255 : (255 : Int32).toInt = 255 := rfl
  have ev : ((255 : Int32) - v).toInt = 255 - v.toInt := by rw [q_subI ⟨by decide, by decide⟩ ⟨by omega, by omega⟩]; rfl
  obtain ⟨y, m1, C1, V1, b1, b2, b3, b4, b5, b6, b7⟩ := q_bin q hA (v := (255 : Int32) - v) ⟨by omega, by omega⟩
  have e257 := q_257 q 1
  obtain ⟨t1, t2, t3⟩ := q_Fb C Z I D V N
  have qx := q.1.1
  have qm := q.1.2
  have q5 := q.2.2.2.2.1
  rw [← q_261] at b3
  have y5 := b3.2.2.2.2.1
  obtain ⟨u1, u2, u3⟩ := q_Fb C1 (decide (((A + ((255 : Int32) - v)) + q_b C) &&& 255 = 0)) I D V1 (decide (127 < ((A + ((255 : Int32) - v)) + q_b C) &&& 255))
  have n1 : vp_nar .boolean 1 = q_b true := by decide
  have n0 : vp_nar .boolean 0 = q_b false := by decide
  unfold dz_M267_64_f dz_N155_87 q_let
  dsimp only
  rw [e257, Option.bind_some, b2, Option.bind_some, b1, qx, qm, q5, t1, y5, u2, b7]
  have c1 : cond C (1 : Int32) 0 = q_b C := rfl
  rw [c1]
  cases D with
  | false =>
    refine ⟨(dz_M261_64 m1 (m1.1 14 0)).1, _, _, _, _, _, ?_, by rw [b6]; exact b3, b4, b5.trans ?_⟩
    · show (dz_M267_64_f_56 m1 v A (q_b C)) = _
      unfold dz_M267_64_f_56 q_let
      rw [b7]; rfl
    · rw [q_261]; exact (q_CM_f 4 _ rfl).trans (q_CM_f 0 _ rfl)
  | true =>
    have h56 : dz_M267_64_f_56 m1 v A (q_b C) = some (dz_M261_64 (dz_M266_64 m1 A v (q_b C)) ((dz_M266_64 m1 A v (q_b C)).1 14 0)).1 := by
      unfold dz_M267_64_f_56 q_let
      rw [b7]; rfl
    show ∃ m2 A' C' Z' V' N', dz_M267_64_f_56 m1 v A (q_b C) = some m2 ∧ _
    rw [h56]
    unfold dz_M266_64 dz_N155_87_68 q_let
    rw [n1, n0]
    simp only [q_mn1z]
    simp only [Int32.add_zero, Int32.sub_zero]
    generalize ((A - A / 16 * 16) - (v - v / 16 * 16)) - 1 + q_b C = lo
    generalize (A / 16) - (v / 16) = hi
    cases decide (lo < 0) with
    | true =>
      cases decide (hi - 1 < 0) with
      | true =>
        obtain ⟨f1, f2, f3⟩ := q_fin (A2 := ((16 * (hi - 1 + 10)) + (lo + 10)) &&& 255) false b3
        simp only [cond_true, cond_false] at f1 f2
        refine ⟨_, _, _, _, _, _, ?_, f1, b4.trans f2, b5.trans f3⟩
        rfl
      | false =>
        obtain ⟨f1, f2, f3⟩ := q_fin (A2 := ((16 * (hi - 1)) + (lo + 10)) &&& 255) true b3
        simp only [cond_true, cond_false] at f1 f2
        refine ⟨_, _, _, _, _, _, ?_, f1, b4.trans f2, b5.trans f3⟩
        rfl
    | false =>
      cases decide (hi < 0) with
      | true =>
        obtain ⟨f1, f2, f3⟩ := q_fin (A2 := ((16 * (hi + 10)) + lo) &&& 255) false b3
        simp only [cond_true, cond_false] at f1 f2
        refine ⟨_, _, _, _, _, _, ?_, f1, b4.trans f2, b5.trans f3⟩
        rfl
      | false =>
        obtain ⟨f1, f2, f3⟩ := q_fin (A2 := ((16 * hi) + lo) &&& 255) true b3
        simp only [cond_true, cond_false] at f1 f2
        refine ⟨_, _, _, _, _, _, ?_, f1, b4.trans f2, b5.trans f3⟩
        rfl
end
end
section
section
variable {TT : (Nat → Int32) → Int32 → (Nat → Int32) → Int32 → Int64 → Int64 → List Int32 → List (Nat → Int32) → (Nat → Int64) → Prop} {x y z m : q_S} {c d w : Int}
theorem q_Sd {S : Int32} (h : q_rgz 0 255 S) : (S - 1) &&& 255 = (S + 255) - (S + 255) / 256 * 256 := by
  have a := h.1
  have b := h.2
  have e1 : (S + 255).toInt = S.toInt + 255 := q_addI ⟨by omega, by omega⟩ ⟨by decide, by decide⟩
  by_cases k : S.toInt = 0
  · rw [show S = 0 from Int32.toInt_inj.mp k]; decide
  · have e2 : (S - 1).toInt = S.toInt - 1 := q_subI ⟨by omega, by omega⟩ ⟨by decide, by decide⟩
    apply Int32.toInt_inj.mp
    rw [q_rem_eq (by omega) (by decide), e1, q_andI 8 (by decide) (l := 0) (u := 254) ⟨by omega, by omega⟩ (by decide) (show (255 : Int32).toInt = 2 ^ 8 - 1 from rfl), e2]
    show (S.toInt - 1) % 256 = (S.toInt + 255) % 256
    omega
theorem q_Su {S : Int32} (h : q_rgz 0 255 S) : (S + 1) &&& 255 = (S + 1) - (S + 1) / 256 * 256 := by
  have a := h.1
  have b := h.2
  have e1 : (S + 1).toInt = S.toInt + 1 := q_addI ⟨by omega, by omega⟩ ⟨by decide, by decide⟩
  exact (q_m8z (u := 256) ⟨by omega, by omega⟩).symm
theorem q_R_s (h : q_R TT x m) (v : Int32) : q_R TT (q_sI x 23 3 v) (q_sA m 14 (upd (m.1 14) 3 v)) := by
  obtain ⟨h1, h2, h3, h4, h5, ⟨⟨p1, p2, p3, p4⟩, p5⟩, h7, h8⟩ := h
  exact ⟨h1, h2, h3, h4, h5, ⟨⟨p1, p2, p3, rfl⟩, p5⟩, h7, h8⟩
theorem q_R_p (h : q_R TT x m) (v : Int32) : q_R TT (q_sI x 23 4 v) (q_sA m 14 (upd (m.1 14) 4 v)) := by
  obtain ⟨h1, h2, h3, h4, h5, ⟨p1, p2, p3⟩, h7, h8⟩ := h
  exact ⟨h1, h2, h3, h4, h5, ⟨p1, fun _ => rfl, p3⟩, h7, h8⟩
/-- what pushes and pulls leave as they are: all words of the processor but S -/
def q_PX (x y : q_S) : Prop := (∀ k, Nat.beq k 3 = false → y.2.1 23 k = x.2.1 23 k)
def q_PM (m m2 : q_S) : Prop := m2.1 15 = m.1 15 ∧ (∀ k, (Nat.ble 5 k && Nat.ble k 9 || Nat.beq k 3) = false → m2.1 14 k = m.1 14 k)
theorem q_PX.trans (h : q_PX x y) (g : q_PX y z) : q_PX x z := fun k hk => (g k hk).trans (h k hk)
theorem q_PM.trans (h : q_PM x y) (g : q_PM y z) : q_PM x z := ⟨g.1.trans h.1, fun k hk => (g.2 k hk).trans (h.2 k hk)⟩
theorem q_push (h : q_R TT x m) (hI : q_Iv c d w m) (v : Int32) (hv : q_rgz 0 255 v) : ∃ y m2, dz_N146_87_65 x v = some y ∧ dz_M255_64 m v = some m2 ∧ q_R TT y m2 ∧ q_Iv c d w m2 ∧ q_PX x y ∧ q_PM m m2 := by
  obtain ⟨m9, e9, i9⟩ := dzj_M255_64 c d w m hI v hv
  suffices H : ∃ y m2, dz_N146_87_65 x v = some y ∧ dz_M255_64 m v = some m2 ∧ q_R TT y m2 ∧ q_PX x y ∧ q_PM m m2 by
    obtain ⟨y, m2, a1, a2, a3, a4, a5⟩ := H
    rw [e9] at a2
    cases a2
    exact ⟨y, m9, a1, e9, a3, i9, a4, a5⟩
  have gS := h.cpu.2.2.2
  have rS : q_rgz 0 255 (m.1 14 3) := hI.1 14 3
  have a := rS.1
  have b := rS.2
  have z1 : (3840 : Int32).toInt = 3840 := rfl
  have z2 : (256 : Int32).toInt = 256 := rfl
  have eA : ((256 : Int32) + m.1 14 3).toInt = 256 + (m.1 14 3).toInt := by rw [q_addI ⟨by decide, by decide⟩ ⟨by omega, by omega⟩]; omega
  have rA : q_rgz 0 4095 ((256 : Int32) + m.1 14 3) := ⟨by omega, by omega⟩
  obtain ⟨y, m2, w1, w2, w3, w4, w5, w6⟩ := q_wr94 h hI ((256 : Int32) + m.1 14 3) v rA hv
  have e215 : dz_M215_64 m ((256 : Int32) + m.1 14 3) v = some (q_sA m 1 (upd (m.1 1) ((256 : Int32) + m.1 14 3).toNatClampNeg v)) := by
    unfold dz_M215_64
    rw [q_202F (Or.inl (by omega)), q_in_rg rA (by decide) (by decide)]; rfl
  rw [e215] at w2
  cases w2
  have ys : y.2.1 23 3 = m.1 14 3 := by rw [w5.1 23 rfl]; exact gS
  refine ⟨q_sI y 23 3 (((y.2.1 23 3) - 1) &&& 255), _, ?_, ?_, q_R_s w3 _, fun k hk => ?_, ⟨rfl, fun k hk => ?_⟩⟩
  · unfold dz_N146_87_65
    rw [gS, w1]; rfl
  · unfold dz_M255_64
    rw [q_in_rg rA (by decide) (by decide), ys, q_Sd rS]; rfl
  · rw [q_sIn _ _ _ _ _ hk, w5.1 23 rfl]
  · exact q_upN _ _ (fun e => by subst e; cases hk)
theorem q_pull (h : q_R TT x m) (hI : q_Iv c d w m) : ∃ y v m2, dz_N147_87_65 x = (y, v) ∧ dz_M256_64 m = some (m2, v) ∧ q_R TT y m2 ∧ q_Iv c d w m2 ∧ q_PX x y ∧ q_PM m m2 ∧ q_rgz 0 255 v := by
  obtain ⟨⟨m9, v9⟩, e9, i9, r9⟩ := dzj_M256_64 c d w m hI
  suffices H : ∃ y v m2, dz_N147_87_65 x = (y, v) ∧ dz_M256_64 m = some (m2, v) ∧ q_R TT y m2 ∧ q_PX x y ∧ q_PM m m2 by
    obtain ⟨y, v, m2, a1, a2, a3, a4, a5⟩ := H
    rw [e9] at a2
    cases a2
    exact ⟨y, v9, m9, a1, e9, a3, i9, a4, a5, r9⟩
  have gS := h.cpu.2.2.2
  have rS : q_rgz 0 255 (m.1 14 3) := hI.1 14 3
  have r2 := q_rg_and (m.1 14 3 + 1) 255 (U := 255) (by decide) rfl
  have a := r2.1
  have b := r2.2
  have z2 : (256 : Int32).toInt = 256 := rfl
  have eA : ((256 : Int32) + ((m.1 14 3 + 1) &&& 255)).toInt = 256 + ((m.1 14 3 + 1) &&& 255).toInt := by rw [q_addI ⟨by decide, by decide⟩ ⟨by omega, by omega⟩]; omega
  have rA : q_rgz 0 4095 ((256 : Int32) + ((m.1 14 3 + 1) &&& 255)) := ⟨by omega, by omega⟩
  have kA : ((256 : Int32) + ((m.1 14 3 + 1) &&& 255)).toNatClampNeg = ((256 : Int32) + ((m.1 14 3 + 1) &&& 255)).toInt.toNat := rfl
  refine ⟨q_sI x 23 3 ((m.1 14 3 + 1) &&& 255), m.1 1 ((256 : Int32) + ((m.1 14 3 + 1) &&& 255)).toNatClampNeg, q_sA m 14 (upd (m.1 14) 3 ((m.1 14 3 + 1) &&& 255)), ?_, ?_, q_R_s h _, fun k hk => q_sIn _ _ _ _ _ hk, ⟨rfl, fun k hk => q_upN _ _ (fun e => by subst e; cases hk)⟩⟩
  · unfold dz_N147_87_65 dz_N120_66 q_let
    rw [gS]
    show (q_sI x 23 3 ((m.1 14 3 + 1) &&& 255), x.1 3 (((256 : Int32) + ((m.1 14 3 + 1) &&& 255)) &&& 4095).toNatClampNeg) = _
    rw [q_a12 rA, h.r1.1 _ (by omega)]
  · have q := q_upE (m.1 14) (i := 3) (j := 3) ((m.1 14 3 + 1) &&& 255) rfl
    unfold dz_M256_64
    rw [← q_Su rS, q, q_in_rg rA (by decide) (by decide)]; rfl
/-- an interrupt, or brk -/
theorem q_int (h : q_R TT x m) (hI : q_Iv c d w m) (from_ vec : Int32) (brk : Bool) (hf : q_rgz 0 4095 from_) : ∃ y m2, dz_N148_87_65 x from_ (cond brk (((x.2.1 23 5) ||| 32) ||| 16) ((x.2.1 23 5) ||| 32)) vec = some y ∧ dz_M260_64 m vec from_ (cond brk 16 0) = some m2 ∧ q_R TT y m2 ∧ q_Iv c d w m2 := by
  obtain ⟨m9, e9, i9⟩ := dzj_M260_64 c d w m hI vec from_ (cond brk 16 0) hf (by cases brk <;> exact ⟨by decide, by decide⟩)
  suffices H : ∃ y m2, dz_N148_87_65 x from_ (cond brk (((x.2.1 23 5) ||| 32) ||| 16) ((x.2.1 23 5) ||| 32)) vec = some y ∧ dz_M260_64 m vec from_ (cond brk 16 0) = some m2 ∧ q_R TT y m2 by
    obtain ⟨y, m2, a1, a2, a3⟩ := H
    rw [e9] at a2
    cases a2
    exact ⟨y, m9, a1, e9, a3, i9⟩
  have f0 := hf.1
  have f1 := hf.2
  have s8 : from_ >>> ((8 &&& 31 : Int32)) = from_ / 256 := by
    apply Int32.toInt_inj.mp
    rw [q_shrI 8 rfl (by decide), q_toInt_div f0 (by decide)]; rfl
  have r8 : q_rgz 0 255 (from_ / 256) := q_rg_le (q_rg_div (c := 256) (U := 15) hf (by decide) rfl (by decide) (by decide)) (by decide) (by decide)
  have m8 : from_ &&& 255 = from_ - from_ / 256 * 256 := (q_m8z hf).symm
  have rm : q_rgz 0 255 (from_ &&& 255) := q_rg_and _ 255 (by decide) rfl
  obtain ⟨y1, m1, a1, a2, a3, a4, a5, a6⟩ := q_push h hI (from_ / 256) r8
  obtain ⟨y2, m2, b1, b2, b3, b4, b5, b6⟩ := q_push a3 a4 (from_ &&& 255) rm
  obtain ⟨A, X, Y, S, C, Z, I, D, V, N, q, -⟩ := q_cpu_of b3 b4
  have q' := q
  obtain ⟨q1, q2, q3, q4, q5, q6, q7, q8, q9, q10, q11⟩ := q
  have xF : x.2.1 23 5 = q_F C Z I D V N := by rw [← q5, (a5.trans b5) 5 rfl]
  obtain ⟨-, -, t3, t4⟩ := q_Fb C Z I D V N
  generalize hst : cond brk (((x.2.1 23 5) ||| 32) ||| 16) ((x.2.1 23 5) ||| 32) = st
  have est : st = (((((q_b C + 2 * q_b Z) + 4 * q_b I) + 8 * q_b D) + cond brk 16 0) + 32) + 64 * q_b V + 128 * q_b N := by
    rw [← hst, xF]
    cases brk with
    | true => exact t4
    | false => exact t3
  have e258 : dz_M258_64 m2 (cond brk 16 0) = some st := by
    have bit : ∀ (k : Nat) (K v : Int32) (b : Bool), K.toNatClampNeg = k → q_in K 8 = true → m2.1 15 k = q_b b → dz_M257_64 m2 K v = some (v * q_b b) := fun k K v b hk hi hb => by
      unfold dz_M257_64
      rw [hi, hk, hb]
      cases b with
      | true => show some v = some (v * 1); rw [Int32.mul_one]
      | false => show some 0 = some (v * 0); rw [Int32.mul_zero]
    unfold dz_M258_64
    rw [bit 5 5 1 C rfl rfl q6, bit 4 4 2 Z rfl rfl q7, bit 3 3 4 I rfl rfl q8, bit 2 2 8 D rfl rfl q9, bit 1 1 64 V rfl rfl q10, bit 0 0 128 N rfl rfl q11]
    simp only [Option.bind_some]
    rw [est, Int32.one_mul]
  have rst : q_rgz 0 255 st := by
    obtain ⟨r, hr1, hr2⟩ := dzj_M258_64 c d w m2 b4 (cond brk 16 0) (by cases brk <;> exact ⟨by decide, by decide⟩)
    rw [e258] at hr1
    cases hr1
    exact hr2
  obtain ⟨y3, m3, c1, c2, c3, c4, c5, c6⟩ := q_push b3 b4 st rst
  -- the mask, the vector
  have y5 : y3.2.1 23 5 = q_F C Z I D V N := by rw [c5 5 rfl, q5]
  obtain ⟨ft1, ft2, ft3, ft4, ft5, -⟩ := q_Ft C Z I D V N
  obtain ⟨A', X', Y', S', C', Z', I', D', V', N', q9', -⟩ := q_cpu_of c3 c4
  obtain ⟨u1, u2, u3, u4, u5, u6, u7, u8, u9, u10, u11⟩ := q9'
  have n1 : vp_nar .boolean 1 = q_b true := by decide
  have c415 := c6.1
  have R4 : q_R TT (q_sI y3 23 5 (q_F C Z true D V N)) (q_sA m3 15 (upd (m3.1 15) 3 (q_b true))) := by
    refine q_R_C c3 (q_CX_k 5 _ rfl) (q_CM_f 3 _ rfl) (A := A') (X := X') (Y := Y') (S := S') (C := C) (Z := Z) (I := true) (D := D) (V := V) (N := N) ⟨u1, u2, u3, u4, q_sIv _ _ _ _, ?_, ?_, ?_, ?_, ?_, ?_⟩
    · show upd (m3.1 15) 3 (q_b true) 5 = _; rw [q_upN _ _ (by decide), c415]; exact q6
    · show upd (m3.1 15) 3 (q_b true) 4 = _; rw [q_upN _ _ (by decide), c415]; exact q7
    · show upd (m3.1 15) 3 (q_b true) 3 = _; exact q_upE _ _ rfl
    · show upd (m3.1 15) 3 (q_b true) 2 = _; rw [q_upN _ _ (by decide), c415]; exact q9
    · show upd (m3.1 15) 3 (q_b true) 1 = _; rw [q_upN _ _ (by decide), c415]; exact q10
    · show upd (m3.1 15) 3 (q_b true) 0 = _; rw [q_upN _ _ (by decide), c415]; exact q11
  have I4 : q_Iv c d w (q_sA m3 15 (upd (m3.1 15) 3 (q_b true))) := q_Iv_A (i := 15) c4 (q_hf_up (c4.1 15) (q_s15 ⟨by decide, by decide⟩))
  obtain ⟨lo, hi, m5, d1, d2, d3, d4, d5, d6, -⟩ := q_word R4 I4 vec
  refine ⟨q_sI (q_sI y3 23 5 (q_F C Z true D V N)) 23 4 ((lo + (256 * hi)) &&& 4095), q_sA m5 14 (upd (m5.1 14) 4 ((lo + (256 * hi)) &&& 4095)), ?_, ?_, q_R_p d5 _⟩
  · unfold dz_N148_87_65 dz_N92_65
    rw [s8, a1, Option.bind_some, b1, Option.bind_some, c1, Option.bind_some, y5, ft5, d1, Option.bind_some, d2]; rfl
  · unfold dz_M260_64
    rw [a2, Option.bind_some, ← m8, b2, Option.bind_some, e258, Option.bind_some, c2, Option.bind_some, n1, d3]; rfl
end
end
section
section
variable {TT : (Nat → Int32) → Int32 → (Nat → Int32) → Int32 → Int64 → Int64 → List Int32 → List (Nat → Int32) → (Nat → Int64) → Prop} {x y z m : q_S} {c d w : Int}
/-- reading as an instruction does: hits are 0 behind that -/
theorem q_load (h : q_R TT x m) (hI : q_Iv c d w m) (a : Int32) (ha : q_rgz 0 4095 a) : ∃ y v m2, dz_N93_65 x a = some (y, v) ∧ dz_M268_64 m a = some (m2, v) ∧ q_R TT y m2 ∧ q_Iv c d w m2 ∧ q_rgz 0 255 v ∧ y.2 = x.2 := by
  obtain ⟨⟨m9, v9⟩, e9, i9, r9⟩ := dzj_M268_64 c d w m hI a ha
  suffices H : ∃ y v m2, dz_N93_65 x a = some (y, v) ∧ dz_M268_64 m a = some (m2, v) ∧ q_R TT y m2 ∧ y.2 = x.2 by
    obtain ⟨y, v, m2, a1, a2, a3, a4⟩ := H
    rw [e9] at a2
    cases a2
    exact ⟨y, v9, m9, a1, e9, a3, i9, r9, a4⟩
  obtain ⟨v, m2, b1, b2, b3, b4, b5, b6⟩ := q_rdz h hI a ha
  have z1 : (3869 : Int32).toInt = 3869 := rfl
  have z2 : (3870 : Int32).toInt = 3870 := rfl
  unfold dz_N93_65 dz_M268_64
  rw [b1, b2, Option.bind_some, Option.bind_some]
  by_cases k1 : a.toInt = 3869
  · rw [q_eq_T (show a.toInt = (3869 : Int32).toInt by omega), q_eq_F (show ¬ a.toInt = (3870 : Int32).toInt by omega)]
    exact ⟨_, v, _, rfl, rfl, q_R_h1 b4 0, rfl⟩
  · rw [q_eq_F (show ¬ a.toInt = (3869 : Int32).toInt by omega)]
    by_cases k2 : a.toInt = 3870
    · rw [q_eq_T (show a.toInt = (3870 : Int32).toInt by omega)]
      exact ⟨_, v, _, rfl, rfl, q_R_h2 b4 0, rfl⟩
    · rw [q_eq_F (show ¬ a.toInt = (3870 : Int32).toInt by omega)]
      exact ⟨_, v, _, rfl, rfl, b4, rfl⟩
theorem q_263 (m : q_S) (k v : Int32) (a : Int32) (hk : q_in k 24 = true) (ha : (m.1 14) (k.toNatClampNeg) = a) : dz_M263_64 m k v = (cond (decide (a < v)) (q_let (dz_M261_64 (q_sA m 15 (upd (m.1 15) 5 (vp_nar .boolean 0))) ((a - v) &&& 255)) fun r995 => some r995.1) (q_let (dz_M261_64 (q_sA m 15 (upd (m.1 15) 5 (vp_nar .boolean 1))) ((a - v) &&& 255)) fun r996 => some r996.1)) := by
  unfold dz_M263_64
  rw [hk, ha]; rfl
/-- bit: three flags -/
theorem q_bitf {A X Y S : Int32} {C Z I D V N : Bool} (q : q_cpu A X Y S C Z I D V N x m) {v : Int32} (hv : q_rgz 0 255 v) : ∃ m2, dz_M269_64 m 20 v = some m2 ∧ (∃ Z' V' N', q_cpu A X Y S C Z' I D V' N' (dz_N152_87 x 20 v) m2) ∧ q_CX x (dz_N152_87 x 20 v) ∧ q_CM m m2 := by
  have n1 : vp_nar .boolean 1 = q_b true := by decide
  have n0 : vp_nar .boolean 0 = q_b false := by decide
  have h7 := q_c0 (s := m) (g := v) (p := 128) (k := 7) 7 (by decide) hv (by decide) rfl rfl
  have h6 := q_c0 (s := m) (g := v) (p := 64) (k := 6) 6 (by decide) hv (by decide) rfl rfl
  have i206 : ∀ (s : q_S) (a b : Int32), dz_M206 s a b = dz_M206 m a b := fun _ _ _ => rfl
  obtain ⟨q1, q2, q3, q4, q5, q6, q7, q8, q9, q10, q11⟩ := q
  have fz : ∀ Z, q_F C Z I D V N ||| 2 = q_F C true I D V N ∧ q_F C Z I D V N &&& ((2 : Int32) ^^^ (-1)) = q_F C false I D V N := fun Z => by
    obtain ⟨-, -, -, -, -, -, -, -, f9, f10, -⟩ := q_Ft C Z I D V N
    exact ⟨f9, f10⟩
  have fn : ∀ Z N, q_F C Z I D V N ||| 128 = q_F C Z I D V true ∧ q_F C Z I D V N &&& ((128 : Int32) ^^^ (-1)) = q_F C Z I D V false := fun Z N => by
    obtain ⟨-, -, -, -, -, -, -, -, -, -, f11, f12⟩ := q_Ft C Z I D V N
    exact ⟨f11, f12⟩
  have fv : ∀ Z V N, q_F C Z I D V N ||| 64 = q_F C Z I D true N ∧ q_F C Z I D V N &&& ((64 : Int32) ^^^ (-1)) = q_F C Z I D false N := fun Z V N => by
    obtain ⟨-, -, -, -, -, -, f7, f8, -⟩ := q_Ft C Z I D V N
    exact ⟨f7, f8⟩
  have tX : dz_N152_87 x 20 v = q_sI (q_sI (q_sI x 23 5 (q_F C (decide (A &&& v = 0)) I D V N)) 23 5 (q_F C (decide (A &&& v = 0)) I D V (dz_M206 m v 7))) 23 5 (q_F C (decide (A &&& v = 0)) I D (dz_M206 m v 6) (dz_M206 m v 7)) := by
    show (cond (decide ((x.2.1 23 0) &&& v = 0)) (q_let (dz_N149_87_t x 2) fun r295 => cond (decide (v &&& 128 = 0)) (q_let (dz_N149_87_f r295 128) fun r296 => cond (decide (v &&& 64 = 0)) (q_let (dz_N149_87_f r296 64) fun r297 => r297) (q_let (dz_N149_87_t r296 64) fun r298 => r298)) (q_let (dz_N149_87_t r295 128) fun r299 => cond (decide (v &&& 64 = 0)) (q_let (dz_N149_87_f r299 64) fun r300 => r300) (q_let (dz_N149_87_t r299 64) fun r301 => r301))) (q_let (dz_N149_87_f x 2) fun r302 => cond (decide (v &&& 128 = 0)) (q_let (dz_N149_87_f r302 128) fun r303 => cond (decide (v &&& 64 = 0)) (q_let (dz_N149_87_f r303 64) fun r304 => r304) (q_let (dz_N149_87_t r303 64) fun r305 => r305)) (q_let (dz_N149_87_t r302 128) fun r306 => cond (decide (v &&& 64 = 0)) (q_let (dz_N149_87_f r306 64) fun r307 => r307) (q_let (dz_N149_87_t r306 64) fun r308 => r308)))) = _
    rw [q1.1, h7, h6]
    unfold dz_N149_87_t dz_N149_87_f q_let
    dsimp only
    rw [q5, (fz Z).1, (fz Z).2]
    simp only [q_sIv, (fn _ _).1, (fn _ _).2, (fv _ _ _).1, (fv _ _ _).2]
    cases decide (A &&& v = 0) <;> cases dz_M206 m v 7 <;> cases dz_M206 m v 6 <;> rfl
  have tM : dz_M269_64 m 20 v = some (q_sA (q_sA (q_sA m 15 (upd (m.1 15) 4 (q_b (decide (A &&& v = 0))))) 15 (upd (upd (m.1 15) 4 (q_b (decide (A &&& v = 0)))) 0 (q_b (dz_M206 m v 7)))) 15 (upd (upd (upd (m.1 15) 4 (q_b (decide (A &&& v = 0)))) 0 (q_b (dz_M206 m v 7))) 1 (q_b (dz_M206 m v 6)))) := by
    unfold dz_M269_64 q_let
    simp only [show decide ((20 : Int32) < 0) = false from rfl, show decide ((16 : Int32) < 20) = true from rfl, cond_true, cond_false, i206 _ v 7, i206 _ v 6, q1.2, n1, n0]
    cases decide (A &&& v = 0) <;> cases dz_M206 m v 7 <;> cases dz_M206 m v 6 <;> rfl
  rw [tX, tM]
  refine ⟨_, rfl, ⟨decide (A &&& v = 0), dz_M206 m v 6, dz_M206 m v 7, ?_⟩, ((q_CX_k 5 _ rfl).trans (q_CX_k 5 _ rfl)).trans (q_CX_k 5 _ rfl), ((q_CM_f 4 _ rfl).trans (q_CM_f 0 _ rfl)).trans (q_CM_f 1 _ rfl)⟩
  have hN : ∀ k, Nat.beq k 5 = false → ∀ a b e : Int32, (q_sI (q_sI (q_sI x 23 5 a) 23 5 b) 23 5 e).2.1 23 k = x.2.1 23 k := fun k h5 a b e => (q_sIn _ _ _ _ _ h5).trans ((q_sIn _ _ _ _ _ h5).trans (q_sIn _ _ _ _ _ h5))
  have e14 : ∀ (s : q_S) (f g k : Nat → Int32), (q_sA (q_sA (q_sA s 15 f) 15 g) 15 k).1 14 = s.1 14 := fun s f g k => (q_sA2 _ _ rfl).trans ((q_sA2 _ _ rfl).trans (q_sA2 _ _ rfl))
  unfold q_cpu
  rw [e14, q_sA1, hN 0 rfl, hN 1 rfl, hN 2 rfl, hN 3 rfl]
  refine ⟨q1, q2, q3, q4, q_sIv _ _ _ _, ?_, ?_, ?_, ?_, q_upE _ _ rfl, ?_⟩
  · exact (q_upN _ _ (by decide)).trans ((q_upN _ _ (by decide)).trans ((q_upN _ _ (by decide)).trans q6))
  · exact (q_upN _ _ (by decide)).trans ((q_upN _ _ (by decide)).trans (q_upE _ _ rfl))
  · exact (q_upN _ _ (by decide)).trans ((q_upN _ _ (by decide)).trans ((q_upN _ _ (by decide)).trans q8))
  · exact (q_upN _ _ (by decide)).trans ((q_upN _ _ (by decide)).trans ((q_upN _ _ (by decide)).trans q9))
  · exact (q_upN _ _ (by decide)).trans (q_upE _ _ rfl)
end
end
section
section
variable {TT : (Nat → Int32) → Int32 → (Nat → Int32) → Int32 → Int64 → Int64 → List Int32 → List (Nat → Int32) → (Nat → Int64) → Prop} {x y z m : q_S} {c d w : Int}
/-- an operation that reads -/
theorem q_ops (h : q_R TT x m) (hI : q_Iv c d w m) (op v : Int32) (ho : q_rgz 0 20 op) (hw : dz_M245 m op = false) (hv : q_rgz 0 255 v) : ∃ m2, dz_M269_64 m op v = some m2 ∧ q_R TT (dz_N152_87 x op v) m2 ∧ q_Iv c d w m2 := by
  obtain ⟨m9, e9, i9⟩ := dzj_M269_64 c d w m hI op v hv
  suffices H : ∃ m2, dz_M269_64 m op v = some m2 ∧ q_R TT (dz_N152_87 x op v) m2 by
    obtain ⟨m2, a1, a2⟩ := H
    rw [e9] at a1
    cases a1
    exact ⟨m9, e9, a2, i9⟩
  obtain ⟨A, X, Y, S, C, Z, I, D, V, N, q, rA, rX, rY, rS⟩ := q_cpu_of h hI
  have a0 := ho.1
  have a1 := ho.2
  have jX : ∀ u : Int32, (dz_N150_87 x u).2 = u := fun u => (q_jud q u).1
  have cx : ∀ u : Int32, q_CX x (dz_N150_87 x u).1 := fun u => (q_jud q u).2.2.2.1
  have cm : ∀ u : Int32, q_CM m (dz_M261_64 m u).1 := fun u => (q_jud q u).2.2.2.2
  have Aq := q.1.1
  have Am := q.1.2
  rcases (by omega : op.toInt = 0 ∨ op.toInt = 1 ∨ op.toInt = 2 ∨ op.toInt = 3 ∨ op.toInt = 4 ∨ op.toInt = 5 ∨ op.toInt = 6 ∨ op.toInt = 7 ∨ op.toInt = 8 ∨ op.toInt = 9 ∨ op.toInt = 10 ∨ op.toInt = 11 ∨ op.toInt = 12 ∨ op.toInt = 13 ∨ op.toInt = 14 ∨ op.toInt = 15 ∨ op.toInt = 16 ∨ op.toInt = 17 ∨ op.toInt = 18 ∨ op.toInt = 19 ∨ op.toInt = 20) with e | e | e | e | e | e | e | e | e | e | e | e | e | e | e | e | e | e | e | e | e
  · rw [show op = 0 from Int32.toInt_inj.mp e]
    have tX : dz_N152_87 x 0 v = q_sI (dz_N150_87 x (v)).1 23 0 (v) := by
      show q_sI (dz_N150_87 x (v)).1 23 0 (dz_N150_87 x (v)).2 = _
      rw [jX]
    rw [tX]
    obtain ⟨⟨b1, b2⟩, -, -⟩ := q_bec q v
    refine ⟨_, ?_, q_R_C h ((cx v).trans (q_CX_k 0 v rfl)) ((cm v).trans (q_CM_n 0 v rfl)) b2⟩
    · show ((dz_M262_64 m 0 v).bind fun r1106 => some r1106) = _
      rw [b1]; rfl
  · rw [show op = 1 from Int32.toInt_inj.mp e]
    have tX : dz_N152_87 x 1 v = q_sI (dz_N150_87 x (v)).1 23 1 (v) := by
      show q_sI (dz_N150_87 x (v)).1 23 1 (dz_N150_87 x (v)).2 = _
      rw [jX]
    rw [tX]
    obtain ⟨-, ⟨b1, b2⟩, -⟩ := q_bec q v
    refine ⟨_, ?_, q_R_C h ((cx v).trans (q_CX_k 1 v rfl)) ((cm v).trans (q_CM_n 1 v rfl)) b2⟩
    · show ((dz_M262_64 m 1 v).bind fun r1106 => some r1106) = _
      rw [b1]; rfl
  · rw [show op = 2 from Int32.toInt_inj.mp e]
    have tX : dz_N152_87 x 2 v = q_sI (dz_N150_87 x (v)).1 23 2 (v) := by
      show q_sI (dz_N150_87 x (v)).1 23 2 (dz_N150_87 x (v)).2 = _
      rw [jX]
    rw [tX]
    obtain ⟨-, -, ⟨b1, b2⟩⟩ := q_bec q v
    refine ⟨_, ?_, q_R_C h ((cx v).trans (q_CX_k 2 v rfl)) ((cm v).trans (q_CM_n 2 v rfl)) b2⟩
    · show ((dz_M262_64 m 2 v).bind fun r1106 => some r1106) = _
      rw [b1]; rfl
  · rw [show op = 3 from Int32.toInt_inj.mp e] at hw; cases hw
  · rw [show op = 4 from Int32.toInt_inj.mp e] at hw; cases hw
  · rw [show op = 5 from Int32.toInt_inj.mp e] at hw; cases hw
  · rw [show op = 6 from Int32.toInt_inj.mp e]
    obtain ⟨m2, A', C', Z', V', N', b1, b2, b3, b4⟩ := q_adc q rA hv
    refine ⟨m2, ?_, q_R_C h b3 b4 b2⟩
    show ((dz_M267_64_t m v).bind fun r1171 => some r1171) = _
    rw [b1]; rfl
  · rw [show op = 7 from Int32.toInt_inj.mp e]
    obtain ⟨m2, A', C', Z', V', N', b1, b2, b3, b4⟩ := q_sbc q rA hv
    refine ⟨m2, ?_, q_R_C h b3 b4 b2⟩
    show ((dz_M267_64_f m v).bind fun r1171 => some r1171) = _
    rw [b1]; rfl
  · rw [show op = 8 from Int32.toInt_inj.mp e]
    have tX : dz_N152_87 x 8 v = q_sI (dz_N150_87 x (A &&& v)).1 23 0 (A &&& v) := by
      show q_sI (dz_N150_87 x ((x.2.1 23 0) &&& v)).1 23 0 (dz_N150_87 x ((x.2.1 23 0) &&& v)).2 = _
      rw [Aq, jX]
    rw [tX]
    obtain ⟨⟨b1, b2⟩, -, -⟩ := q_bec q (A &&& v)
    refine ⟨_, ?_, q_R_C h ((cx (A &&& v)).trans (q_CX_k 0 (A &&& v) rfl)) ((cm (A &&& v)).trans (q_CM_n 0 (A &&& v) rfl)) b2⟩
    · show ((dz_M262_64 m 0 ((m.1 14 0) &&& v)).bind fun r1106 => some r1106) = _
      rw [Am, b1]; rfl
  · rw [show op = 9 from Int32.toInt_inj.mp e]
    have tX : dz_N152_87 x 9 v = q_sI (dz_N150_87 x (A ||| v)).1 23 0 (A ||| v) := by
      show q_sI (dz_N150_87 x ((x.2.1 23 0) ||| v)).1 23 0 (dz_N150_87 x ((x.2.1 23 0) ||| v)).2 = _
      rw [Aq, jX]
    rw [tX]
    obtain ⟨⟨b1, b2⟩, -, -⟩ := q_bec q (A ||| v)
    refine ⟨_, ?_, q_R_C h ((cx (A ||| v)).trans (q_CX_k 0 (A ||| v) rfl)) ((cm (A ||| v)).trans (q_CM_n 0 (A ||| v) rfl)) b2⟩
    · show ((dz_M262_64 m 0 ((m.1 14 0) ||| v)).bind fun r1106 => some r1106) = _
      rw [Am, b1]; rfl
  · rw [show op = 10 from Int32.toInt_inj.mp e]
    have tX : dz_N152_87 x 10 v = q_sI (dz_N150_87 x (A ^^^ v)).1 23 0 (A ^^^ v) := by
      show q_sI (dz_N150_87 x ((x.2.1 23 0) ^^^ v)).1 23 0 (dz_N150_87 x ((x.2.1 23 0) ^^^ v)).2 = _
      rw [Aq, jX]
    rw [tX]
    obtain ⟨⟨b1, b2⟩, -, -⟩ := q_bec q (A ^^^ v)
    refine ⟨_, ?_, q_R_C h ((cx (A ^^^ v)).trans (q_CX_k 0 (A ^^^ v) rfl)) ((cm (A ^^^ v)).trans (q_CM_n 0 (A ^^^ v) rfl)) b2⟩
    · show ((dz_M262_64 m 0 ((m.1 14 0) ^^^ v)).bind fun r1106 => some r1106) = _
      rw [Am, b1]; rfl
  · rw [show op = 11 from Int32.toInt_inj.mp e]
    obtain ⟨y, m2, b1, b2, b3, b4, b5⟩ := q_cmp q A v
    refine ⟨m2, ?_, ?_⟩
    · show ((dz_M263_64 m 0 v).bind fun r => some r) = _
      rw [q_263 m 0 v A rfl Am, b2]; rfl
    · show q_R TT (dz_N151_87 x (x.2.1 23 0) v) m2
      rw [Aq, b1]; exact q_R_C h b4 b5 b3
  · rw [show op = 12 from Int32.toInt_inj.mp e]
    obtain ⟨y, m2, b1, b2, b3, b4, b5⟩ := q_cmp q X v
    refine ⟨m2, ?_, ?_⟩
    · show ((dz_M263_64 m 1 v).bind fun r => some r) = _
      rw [q_263 m 1 v X rfl q.2.1.2, b2]; rfl
    · show q_R TT (dz_N151_87 x (x.2.1 23 1) v) m2
      rw [q.2.1.1, b1]; exact q_R_C h b4 b5 b3
  · rw [show op = 13 from Int32.toInt_inj.mp e]
    obtain ⟨y, m2, b1, b2, b3, b4, b5⟩ := q_cmp q Y v
    refine ⟨m2, ?_, ?_⟩
    · show ((dz_M263_64 m 2 v).bind fun r => some r) = _
      rw [q_263 m 2 v Y rfl q.2.2.1.2, b2]; rfl
    · show q_R TT (dz_N151_87 x (x.2.1 23 2) v) m2
      rw [q.2.2.1.1, b1]; exact q_R_C h b4 b5 b3
  · rw [show op = 14 from Int32.toInt_inj.mp e] at hw; cases hw
  · rw [show op = 15 from Int32.toInt_inj.mp e] at hw; cases hw
  · rw [show op = 16 from Int32.toInt_inj.mp e]
    have tX : dz_N152_87 x 16 v = q_sI (q_sI (dz_N150_87 x v).1 23 1 v) 23 0 v := by
      show q_sI (q_sI (dz_N150_87 x v).1 23 1 (dz_N150_87 x v).2) 23 0 v = _
      rw [jX]
    rw [tX]
    obtain ⟨⟨b1, b2⟩, -, -⟩ := q_bec q v
    refine ⟨q_sA (q_sA (dz_M261_64 m v).1 14 (upd ((dz_M261_64 m v).1.1 14) 0 v)) 14 (upd (upd ((dz_M261_64 m v).1.1 14) 0 v) 1 v), ?_, q_R_C h (((cx v).trans (q_CX_k 1 v rfl)).trans (q_CX_k 0 v rfl)) (((cm v).trans (q_CM_n 0 v rfl)).trans (q_CM_n 1 v rfl)) ?_ (A := v) (X := v) (Y := Y) (S := S) (C := C) (Z := decide (v = 0)) (I := I) (D := D) (V := V) (N := decide (127 < v))⟩
    · show ((dz_M262_64 m 0 v).bind fun r => some (q_sA r 14 (upd (r.1 14) 1 v))) = _
      rw [b1]; rfl
    · obtain ⟨j1, j2, j3, j4, j5⟩ := q_jud q v
      have t := (j3.wx v).wa v
      obtain ⟨t1, t2, t3, t4, t5, t6⟩ := t
      exact ⟨⟨t1.1, rfl⟩, ⟨t2.1, rfl⟩, ⟨t3.1, t3.2⟩, ⟨t4.1, t4.2⟩, t5, t6⟩
  · rw [show op = 17 from Int32.toInt_inj.mp e] at hw; cases hw
  · rw [show op = 18 from Int32.toInt_inj.mp e] at hw; cases hw
  · rw [show op = 19 from Int32.toInt_inj.mp e] at hw; cases hw
  · rw [show op = 20 from Int32.toInt_inj.mp e]
    obtain ⟨m2, b1, ⟨Z', V', N', b2⟩, b3, b4⟩ := q_bitf q hv
    exact ⟨m2, b1, q_R_C h b3 b4 b2⟩
end
end
section
section
variable {TT : (Nat → Int32) → Int32 → (Nat → Int32) → Int32 → Int64 → Int64 → List Int32 → List (Nat → Int32) → (Nat → Int64) → Prop} {x y z m : q_S} {c d w : Int}
/-- an operation that writes -/
theorem q_chg (h : q_R TT x m) (hI : q_Iv c d w m) (op a : Int32) (ho : q_rgz 0 20 op) (hw : dz_M245 m op = true) (ha : q_rgz 0 4095 a) : ∃ y m2, dz_N153_87_65 x op a = some y ∧ dz_M270_64 m op a = some m2 ∧ q_R TT y m2 ∧ q_Iv c d w m2 := by
  obtain ⟨m9, e9, i9⟩ := dzj_M270_64 c d w m hI op a ha
  suffices H : ∃ y m2, dz_N153_87_65 x op a = some y ∧ dz_M270_64 m op a = some m2 ∧ q_R TT y m2 by
    obtain ⟨y, m2, a1, a2, a3⟩ := H
    rw [e9] at a2
    cases a2
    exact ⟨y, m9, a1, e9, a3, i9⟩
  obtain ⟨A, X, Y, S, C, Z, I, D, V, N, q, rA, rX, rY, rS⟩ := q_cpu_of h hI
  have a0 := ho.1
  have a1 := ho.2
  -- a plain write
  have st : ∀ v : Int32, q_rgz 0 255 v → ∃ y m2, ((dz_N94_65 x a v).bind fun r => some r) = some y ∧ ((dz_M215_64 m a v).bind fun r => some r) = some m2 ∧ q_R TT y m2 := fun v hv => by
    obtain ⟨y, m2, w1, w2, w3, w4, w5, w6⟩ := q_wr94 h hI a v ha hv
    exact ⟨y, m2, by rw [w1]; rfl, by rw [w2]; rfl, w3⟩
  -- a write of what was read, and then
  have ch : ∀ u : Int32 → Int32, (∀ v, q_rgz 0 255 (u v)) → ∃ y v m2 m3 z A' X' Y' S' C' Z' I' D' V' N', dz_N93_65 x a = some (y, v) ∧ dz_M268_64 m a = some (m2, v) ∧ dz_N94_65 y a (u v) = some z ∧ dz_M215_64 m2 a (u v) = some m3 ∧ q_R TT z m3 ∧ q_Iv c d w m3 ∧ q_cpu A' X' Y' S' C' Z' I' D' V' N' z m3 ∧ q_rgz 0 255 A' := fun u hu => by
    obtain ⟨y, v, m2, l1, l2, l3, l4, l5, l6⟩ := q_load h hI a ha
    obtain ⟨z, m3, w1, w2, w3, w4, w5, w6⟩ := q_wr94 l3 l4 a (u v) ha (hu v)
    obtain ⟨A', X', Y', S', C', Z', I', D', V', N', q', rA', -⟩ := q_cpu_of w3 w4
    exact ⟨y, v, m2, m3, z, A', X', Y', S', C', Z', I', D', V', N', l1, l2, w1, w2, w3, w4, q', rA'⟩
  have r255 : ∀ v : Int32, q_rgz 0 255 (v &&& 255) := fun v => q_rg_and v 255 (by decide) rfl
  have em : ∀ v : Int32, v + (-1) = v - 1 := q_mn1z
  rcases (by omega : op.toInt = 0 ∨ op.toInt = 1 ∨ op.toInt = 2 ∨ op.toInt = 3 ∨ op.toInt = 4 ∨ op.toInt = 5 ∨ op.toInt = 6 ∨ op.toInt = 7 ∨ op.toInt = 8 ∨ op.toInt = 9 ∨ op.toInt = 10 ∨ op.toInt = 11 ∨ op.toInt = 12 ∨ op.toInt = 13 ∨ op.toInt = 14 ∨ op.toInt = 15 ∨ op.toInt = 16 ∨ op.toInt = 17 ∨ op.toInt = 18 ∨ op.toInt = 19 ∨ op.toInt = 20) with e | e | e | e | e | e | e | e | e | e | e | e | e | e | e | e | e | e | e | e | e
  · rw [show op = 0 from Int32.toInt_inj.mp e] at hw; cases hw
  · rw [show op = 1 from Int32.toInt_inj.mp e] at hw; cases hw
  · rw [show op = 2 from Int32.toInt_inj.mp e] at hw; cases hw
  · rw [show op = 3 from Int32.toInt_inj.mp e]
    obtain ⟨y, m2, b1, b2, b3⟩ := st A rA
    refine ⟨y, m2, ?_, ?_, b3⟩
    · show ((dz_N94_65 x a (x.2.1 23 0)).bind fun r => some r) = _
      rw [q.1.1]; exact b1
    · show ((dz_M215_64 m a (m.1 14 0)).bind fun r => some r) = _
      rw [q.1.2]; exact b2
  · rw [show op = 4 from Int32.toInt_inj.mp e]
    obtain ⟨y, m2, b1, b2, b3⟩ := st X rX
    refine ⟨y, m2, ?_, ?_, b3⟩
    · show ((dz_N94_65 x a (x.2.1 23 1)).bind fun r => some r) = _
      rw [q.2.1.1]; exact b1
    · show ((dz_M215_64 m a (m.1 14 1)).bind fun r => some r) = _
      rw [q.2.1.2]; exact b2
  · rw [show op = 5 from Int32.toInt_inj.mp e]
    obtain ⟨y, m2, b1, b2, b3⟩ := st Y rY
    refine ⟨y, m2, ?_, ?_, b3⟩
    · show ((dz_N94_65 x a (x.2.1 23 2)).bind fun r => some r) = _
      rw [q.2.2.1.1]; exact b1
    · show ((dz_M215_64 m a (m.1 14 2)).bind fun r => some r) = _
      rw [q.2.2.1.2]; exact b2
  · rw [show op = 6 from Int32.toInt_inj.mp e] at hw; cases hw
  · rw [show op = 7 from Int32.toInt_inj.mp e] at hw; cases hw
  · rw [show op = 8 from Int32.toInt_inj.mp e] at hw; cases hw
  · rw [show op = 9 from Int32.toInt_inj.mp e] at hw; cases hw
  · rw [show op = 10 from Int32.toInt_inj.mp e] at hw; cases hw
  · rw [show op = 11 from Int32.toInt_inj.mp e] at hw; cases hw
  · rw [show op = 12 from Int32.toInt_inj.mp e] at hw; cases hw
  · rw [show op = 13 from Int32.toInt_inj.mp e] at hw; cases hw
  · rw [show op = 14 from Int32.toInt_inj.mp e]
    obtain ⟨y, v, m2, m3, z, A', X', Y', S', C', Z', I', D', V', N', l1, l2, w1, w2, w3, w4, q', rA'⟩ := ch (fun v => (v + 1) &&& 255) (fun v => r255 _)
    obtain ⟨j1, j2, j3, j4, j5⟩ := q_jud q' ((v + 1) &&& 255)
    refine ⟨(dz_N150_87 z ((v + 1) &&& 255)).1, (dz_M261_64 m3 ((v + 1) &&& 255)).1, ?_, ?_, q_R_C w3 j4 j5 j3⟩
    · show ((dz_N93_65 x a).bind fun r322 => (dz_N94_65 r322.1 a ((r322.2 + 1) &&& 255)).bind fun r323 => some (dz_N150_87 r323 ((r322.2 + 1) &&& 255)).1) = _
      rw [l1, Option.bind_some, w1]; rfl
    · show ((dz_M268_64 m a).bind fun r1024 => (dz_M215_64 r1024.1 a ((r1024.2 + 1) &&& 255)).bind fun r994 => some (dz_M261_64 r994 ((r1024.2 + 1) &&& 255)).1) = _
      rw [l2, Option.bind_some, w2]; rfl
  · rw [show op = 15 from Int32.toInt_inj.mp e]
    obtain ⟨y, v, m2, m3, z, A', X', Y', S', C', Z', I', D', V', N', l1, l2, w1, w2, w3, w4, q', rA'⟩ := ch (fun v => (v - 1) &&& 255) (fun v => r255 _)
    obtain ⟨j1, j2, j3, j4, j5⟩ := q_jud q' ((v - 1) &&& 255)
    refine ⟨(dz_N150_87 z ((v - 1) &&& 255)).1, (dz_M261_64 m3 ((v - 1) &&& 255)).1, ?_, ?_, q_R_C w3 j4 j5 j3⟩
    · show ((dz_N93_65 x a).bind fun r327 => (dz_N94_65 r327.1 a ((r327.2 + (-1)) &&& 255)).bind fun r328 => some (dz_N150_87 r328 ((r327.2 + (-1)) &&& 255)).1) = _
      rw [l1, Option.bind_some]
      simp only [em]
      rw [w1]; rfl
    · show ((dz_M268_64 m a).bind fun r1024 => (dz_M215_64 r1024.1 a ((r1024.2 - 1) &&& 255)).bind fun r994 => some (dz_M261_64 r994 ((r1024.2 - 1) &&& 255)).1) = _
      rw [l2, Option.bind_some, w2]; rfl
  · rw [show op = 16 from Int32.toInt_inj.mp e] at hw; cases hw
  · rw [show op = 17 from Int32.toInt_inj.mp e]
    obtain ⟨y, m2, b1, b2, b3⟩ := st (A &&& X) (q_rg_le (q_rg_and1 rA (by decide)) (by decide) (by decide))
    refine ⟨y, m2, ?_, ?_, b3⟩
    · show ((dz_N94_65 x a ((x.2.1 23 0) &&& (x.2.1 23 1))).bind fun r => some r) = _
      rw [q.1.1, q.2.1.1]; exact b1
    · show ((dz_M215_64 m a ((m.1 14 0) &&& (m.1 14 1))).bind fun r => some r) = _
      rw [q.1.2, q.2.1.2]; exact b2
  · rw [show op = 18 from Int32.toInt_inj.mp e]
    obtain ⟨y, v, m2, m3, z, A', X', Y', S', C', Z', I', D', V', N', l1, l2, w1, w2, w3, w4, q', rA'⟩ := ch (fun v => (v - 1) &&& 255) (fun v => r255 _)
    obtain ⟨y9, m4, b1, b2, b3, b4, b5⟩ := q_cmp q' A' ((v - 1) &&& 255)
    refine ⟨y9, m4, ?_, ?_, q_R_C w3 b4 b5 b3⟩
    · show ((dz_N93_65 x a).bind fun r327 => (dz_N94_65 r327.1 a ((r327.2 + (-1)) &&& 255)).bind fun r328 => some (dz_N151_87 r328 (r328.2.1 23 0) ((r327.2 + (-1)) &&& 255))) = _
      rw [l1, Option.bind_some]
      simp only [em]
      rw [w1, Option.bind_some, q'.1.1, b1]
    · show ((dz_M268_64 m a).bind fun r1024 => (dz_M215_64 r1024.1 a ((r1024.2 - 1) &&& 255)).bind fun r994 => (dz_M263_64 r994 0 ((r1024.2 - 1) &&& 255)).bind fun r => some r) = _
      rw [l2, Option.bind_some, w2, Option.bind_some, q_263 m3 0 _ A' rfl q'.1.2, b2]; rfl
  · rw [show op = 19 from Int32.toInt_inj.mp e]
    obtain ⟨y, v, m2, m3, z, A', X', Y', S', C', Z', I', D', V', N', l1, l2, w1, w2, w3, w4, q', rA'⟩ := ch (fun v => (v + 1) &&& 255) (fun v => r255 _)
    obtain ⟨m4, A9, C9, Z9, V9, N9, b1, b2, b3, b4⟩ := q_sbc q' rA' (r255 (v + 1))
    refine ⟨dz_N155_87 z ((v + 1) &&& 255), m4, ?_, ?_, q_R_C w3 b3 b4 b2⟩
    · show ((dz_N93_65 x a).bind fun r322 => (dz_N94_65 r322.1 a ((r322.2 + 1) &&& 255)).bind fun r323 => some (dz_N155_87 r323 ((r322.2 + 1) &&& 255))) = _
      rw [l1, Option.bind_some, w1]; rfl
    · show ((dz_M268_64 m a).bind fun r1024 => (dz_M215_64 r1024.1 a ((r1024.2 + 1) &&& 255)).bind fun r994 => (dz_M267_64_f r994 ((r1024.2 + 1) &&& 255)).bind fun r => some r) = _
      rw [l2, Option.bind_some, w2, Option.bind_some, b1]; rfl
  · rw [show op = 20 from Int32.toInt_inj.mp e] at hw; cases hw
end
end
end
section
-- 54.a
section
variable {TT : (Nat → Int32) → Int32 → (Nat → Int32) → Int32 → Int64 → Int64 → List Int32 → List (Nat → Int32) → (Nat → Int64) → Prop} {x y z m : q_S} {c d w : Int} {A X Y S : Int32} {C Z I D V N : Bool}
theorem q_shg (q : q_cpu A X Y S C Z I D V N x m) (b : Bool) (v : Int32) : ∃ m2, dz_M262_64 (q_sA m 15 (upd (m.1 15) 5 (vp_nar .boolean (q_b b)))) 0 v = some m2 ∧ q_cpu v X Y S b (decide (v = 0)) I D V (decide (127 < v)) (q_sI (dz_N150_87 (cond b (dz_N149_87_t x 1) (dz_N149_87_f x 1)) v).1 23 0 v) m2 ∧ q_CX x (q_sI (dz_N150_87 (cond b (dz_N149_87_t x 1) (dz_N149_87_f x 1)) v).1 23 0 v) ∧ q_CM m m2 := by
  obtain ⟨s1, s2⟩ := q_sc q
  obtain ⟨t1, t2, t3⟩ := q.fl (C' := b)
  obtain ⟨⟨b1, b2⟩, -, -⟩ := q_bec t1 v
  obtain ⟨j1, j2, j3, j4, j5⟩ := q_jud t1 v
  rw [s1, s2, show (cond b (q_sI x 23 5 (q_F true Z I D V N)) (q_sI x 23 5 (q_F false Z I D V N))) = q_sI x 23 5 (q_F b Z I D V N) by cases b <;> rfl, q_nb]
  exact ⟨_, b1, b2, (t2.trans j4).trans (q_CX_k 0 v rfl), (t3.trans j5).trans (q_CM_n 0 v rfl)⟩
theorem q_hi (m : q_S) {A : Int32} (h : q_rgz 0 255 A) : dz_M206 m A 7 = decide (127 < A) := by
  rw [q_has 7 h (by decide) rfl (by decide)]
  have a := h.1
  have b := h.2
  have z : (127 : Int32).toInt = 127 := rfl
  by_cases k : 127 < A.toInt
  · rw [q_lt_T (show (127 : Int32).toInt < A.toInt by omega), decide_eq_true (show A.toInt / 2 ^ 7 % 2 = 1 by simp only [Int.reducePow]; omega)]
  · rw [q_lt_F (show A.toInt ≤ (127 : Int32).toInt by omega), decide_eq_false (show ¬ A.toInt / 2 ^ 7 % 2 = 1 by simp only [Int.reducePow]; omega)]
theorem q_loz (m : q_S) {A : Int32} (h : q_rgz 0 255 A) : dz_M206 m A 0 = decide (A - A / 2 * 2 = 1) := by
  rw [q_has 0 h (by decide) rfl (by decide)]
  have a := h.1
  have b := h.2
  have e : (A - A / 2 * 2).toInt = A.toInt % 2 := q_rem_eq a (by decide)
  have z : (1 : Int32).toInt = 1 := rfl
  by_cases k : A.toInt % 2 = 1
  · rw [q_eq_T (show (A - A / 2 * 2).toInt = (1 : Int32).toInt by omega), decide_eq_true (show A.toInt / 2 ^ 0 % 2 = 1 by simp only [Int.reducePow]; omega)]
  · rw [q_eq_F (show ¬ (A - A / 2 * 2).toInt = (1 : Int32).toInt by omega), decide_eq_false (show ¬ A.toInt / 2 ^ 0 % 2 = 1 by simp only [Int.reducePow]; omega)]
theorem q_c128 (h : q_R TT x m) (hI : q_Iv c d w m) (p : Int32) : ∃ y m1, dz_N157_87_65 x 128 = some y ∧ dz_M273_64 m 128 p = some (q_sA m1 14 (upd (m1.1 14) 4 ((p + 1) &&& 4095))) ∧ q_R TT y m1 := by
  obtain ⟨A, X, Y, S, C, Z, I, D, V, N, q, rA, rX, rY, rS⟩ := q_cpu_of h hI
  obtain ⟨-, ⟨b1, b2⟩, -⟩ := q_bec q ((X + 1) &&& 255)
  obtain ⟨j1, j2, j3, j4, j5⟩ := q_jud q ((X + 1) &&& 255)
  refine ⟨q_sI (dz_N150_87 x ((X + 1) &&& 255)).1 23 1 ((X + 1) &&& 255), _, ?_, ?_, q_R_C h (j4.trans (q_CX_k 1 ((X + 1) &&& 255) rfl)) (j5.trans (q_CM_n 1 ((X + 1) &&& 255) rfl)) b2⟩
  · show some (q_sI (dz_N150_87 x (((x.2.1 23 1) + 1) &&& 255)).1 23 1 (dz_N150_87 x (((x.2.1 23 1) + 1) &&& 255)).2) = _
    rw [q.2.1.1, j1]
  · show ((dz_M262_64 m 1 (((m.1 14 1) + 1) &&& 255)).bind fun r => some (q_sA r 14 (upd (r.1 14) 4 ((p + 1) &&& 4095)))) = _
    rw [q.2.1.2, b1]; rfl
theorem q_c129 (h : q_R TT x m) (hI : q_Iv c d w m) (p : Int32) : ∃ y m1, dz_N157_87_65 x 129 = some y ∧ dz_M273_64 m 129 p = some (q_sA m1 14 (upd (m1.1 14) 4 ((p + 1) &&& 4095))) ∧ q_R TT y m1 := by
  obtain ⟨A, X, Y, S, C, Z, I, D, V, N, q, rA, rX, rY, rS⟩ := q_cpu_of h hI
  obtain ⟨-, ⟨b1, b2⟩, -⟩ := q_bec q ((X - 1) &&& 255)
  obtain ⟨j1, j2, j3, j4, j5⟩ := q_jud q ((X - 1) &&& 255)
  refine ⟨q_sI (dz_N150_87 x ((X - 1) &&& 255)).1 23 1 ((X - 1) &&& 255), _, ?_, ?_, q_R_C h (j4.trans (q_CX_k 1 ((X - 1) &&& 255) rfl)) (j5.trans (q_CM_n 1 ((X - 1) &&& 255) rfl)) b2⟩
  · show some (q_sI (dz_N150_87 x (((x.2.1 23 1) - 1) &&& 255)).1 23 1 (dz_N150_87 x (((x.2.1 23 1) - 1) &&& 255)).2) = _
    rw [q.2.1.1, j1]
  · show ((dz_M262_64 m 1 (((m.1 14 1) - 1) &&& 255)).bind fun r => some (q_sA r 14 (upd (r.1 14) 4 ((p + 1) &&& 4095)))) = _
    rw [q.2.1.2, b1]; rfl
theorem q_c130 (h : q_R TT x m) (hI : q_Iv c d w m) (p : Int32) : ∃ y m1, dz_N157_87_65 x 130 = some y ∧ dz_M273_64 m 130 p = some (q_sA m1 14 (upd (m1.1 14) 4 ((p + 1) &&& 4095))) ∧ q_R TT y m1 := by
  obtain ⟨A, X, Y, S, C, Z, I, D, V, N, q, rA, rX, rY, rS⟩ := q_cpu_of h hI
  obtain ⟨-, -, ⟨b1, b2⟩⟩ := q_bec q ((Y + 1) &&& 255)
  obtain ⟨j1, j2, j3, j4, j5⟩ := q_jud q ((Y + 1) &&& 255)
  refine ⟨q_sI (dz_N150_87 x ((Y + 1) &&& 255)).1 23 2 ((Y + 1) &&& 255), _, ?_, ?_, q_R_C h (j4.trans (q_CX_k 2 ((Y + 1) &&& 255) rfl)) (j5.trans (q_CM_n 2 ((Y + 1) &&& 255) rfl)) b2⟩
  · show some (q_sI (dz_N150_87 x (((x.2.1 23 2) + 1) &&& 255)).1 23 2 (dz_N150_87 x (((x.2.1 23 2) + 1) &&& 255)).2) = _
    rw [q.2.2.1.1, j1]
  · show ((dz_M262_64 m 2 (((m.1 14 2) + 1) &&& 255)).bind fun r => some (q_sA r 14 (upd (r.1 14) 4 ((p + 1) &&& 4095)))) = _
    rw [q.2.2.1.2, b1]; rfl
theorem q_c131 (h : q_R TT x m) (hI : q_Iv c d w m) (p : Int32) : ∃ y m1, dz_N157_87_65 x 131 = some y ∧ dz_M273_64 m 131 p = some (q_sA m1 14 (upd (m1.1 14) 4 ((p + 1) &&& 4095))) ∧ q_R TT y m1 := by
  obtain ⟨A, X, Y, S, C, Z, I, D, V, N, q, rA, rX, rY, rS⟩ := q_cpu_of h hI
  obtain ⟨-, -, ⟨b1, b2⟩⟩ := q_bec q ((Y - 1) &&& 255)
  obtain ⟨j1, j2, j3, j4, j5⟩ := q_jud q ((Y - 1) &&& 255)
  refine ⟨q_sI (dz_N150_87 x ((Y - 1) &&& 255)).1 23 2 ((Y - 1) &&& 255), _, ?_, ?_, q_R_C h (j4.trans (q_CX_k 2 ((Y - 1) &&& 255) rfl)) (j5.trans (q_CM_n 2 ((Y - 1) &&& 255) rfl)) b2⟩
  · show some (q_sI (dz_N150_87 x (((x.2.1 23 2) - 1) &&& 255)).1 23 2 (dz_N150_87 x (((x.2.1 23 2) - 1) &&& 255)).2) = _
    rw [q.2.2.1.1, j1]
  · show ((dz_M262_64 m 2 (((m.1 14 2) - 1) &&& 255)).bind fun r => some (q_sA r 14 (upd (r.1 14) 4 ((p + 1) &&& 4095)))) = _
    rw [q.2.2.1.2, b1]; rfl
theorem q_c132 (h : q_R TT x m) (hI : q_Iv c d w m) (p : Int32) : ∃ y m1, dz_N157_87_65 x 132 = some y ∧ dz_M273_64 m 132 p = some (q_sA m1 14 (upd (m1.1 14) 4 ((p + 1) &&& 4095))) ∧ q_R TT y m1 := by
  obtain ⟨A, X, Y, S, C, Z, I, D, V, N, q, rA, rX, rY, rS⟩ := q_cpu_of h hI
  obtain ⟨-, ⟨b1, b2⟩, -⟩ := q_bec q (A)
  obtain ⟨j1, j2, j3, j4, j5⟩ := q_jud q (A)
  refine ⟨q_sI (dz_N150_87 x (A)).1 23 1 (A), _, ?_, ?_, q_R_C h (j4.trans (q_CX_k 1 (A) rfl)) (j5.trans (q_CM_n 1 (A) rfl)) b2⟩
  · show some (q_sI (dz_N150_87 x (x.2.1 23 0)).1 23 1 (dz_N150_87 x (x.2.1 23 0)).2) = _
    rw [q.1.1, j1]
  · show ((dz_M262_64 m 1 (m.1 14 0)).bind fun r => some (q_sA r 14 (upd (r.1 14) 4 ((p + 1) &&& 4095)))) = _
    rw [q.1.2, b1]; rfl
theorem q_c133 (h : q_R TT x m) (hI : q_Iv c d w m) (p : Int32) : ∃ y m1, dz_N157_87_65 x 133 = some y ∧ dz_M273_64 m 133 p = some (q_sA m1 14 (upd (m1.1 14) 4 ((p + 1) &&& 4095))) ∧ q_R TT y m1 := by
  obtain ⟨A, X, Y, S, C, Z, I, D, V, N, q, rA, rX, rY, rS⟩ := q_cpu_of h hI
  obtain ⟨⟨b1, b2⟩, -, -⟩ := q_bec q (X)
  obtain ⟨j1, j2, j3, j4, j5⟩ := q_jud q (X)
  refine ⟨q_sI (dz_N150_87 x (X)).1 23 0 (X), _, ?_, ?_, q_R_C h (j4.trans (q_CX_k 0 (X) rfl)) (j5.trans (q_CM_n 0 (X) rfl)) b2⟩
  · show some (q_sI (dz_N150_87 x (x.2.1 23 1)).1 23 0 (dz_N150_87 x (x.2.1 23 1)).2) = _
    rw [q.2.1.1, j1]
  · show ((dz_M262_64 m 0 (m.1 14 1)).bind fun r => some (q_sA r 14 (upd (r.1 14) 4 ((p + 1) &&& 4095)))) = _
    rw [q.2.1.2, b1]; rfl
theorem q_c134 (h : q_R TT x m) (hI : q_Iv c d w m) (p : Int32) : ∃ y m1, dz_N157_87_65 x 134 = some y ∧ dz_M273_64 m 134 p = some (q_sA m1 14 (upd (m1.1 14) 4 ((p + 1) &&& 4095))) ∧ q_R TT y m1 := by
  obtain ⟨A, X, Y, S, C, Z, I, D, V, N, q, rA, rX, rY, rS⟩ := q_cpu_of h hI
  obtain ⟨-, -, ⟨b1, b2⟩⟩ := q_bec q (A)
  obtain ⟨j1, j2, j3, j4, j5⟩ := q_jud q (A)
  refine ⟨q_sI (dz_N150_87 x (A)).1 23 2 (A), _, ?_, ?_, q_R_C h (j4.trans (q_CX_k 2 (A) rfl)) (j5.trans (q_CM_n 2 (A) rfl)) b2⟩
  · show some (q_sI (dz_N150_87 x (x.2.1 23 0)).1 23 2 (dz_N150_87 x (x.2.1 23 0)).2) = _
    rw [q.1.1, j1]
  · show ((dz_M262_64 m 2 (m.1 14 0)).bind fun r => some (q_sA r 14 (upd (r.1 14) 4 ((p + 1) &&& 4095)))) = _
    rw [q.1.2, b1]; rfl
theorem q_c135 (h : q_R TT x m) (hI : q_Iv c d w m) (p : Int32) : ∃ y m1, dz_N157_87_65 x 135 = some y ∧ dz_M273_64 m 135 p = some (q_sA m1 14 (upd (m1.1 14) 4 ((p + 1) &&& 4095))) ∧ q_R TT y m1 := by
  obtain ⟨A, X, Y, S, C, Z, I, D, V, N, q, rA, rX, rY, rS⟩ := q_cpu_of h hI
  obtain ⟨⟨b1, b2⟩, -, -⟩ := q_bec q (Y)
  obtain ⟨j1, j2, j3, j4, j5⟩ := q_jud q (Y)
  refine ⟨q_sI (dz_N150_87 x (Y)).1 23 0 (Y), _, ?_, ?_, q_R_C h (j4.trans (q_CX_k 0 (Y) rfl)) (j5.trans (q_CM_n 0 (Y) rfl)) b2⟩
  · show some (q_sI (dz_N150_87 x (x.2.1 23 2)).1 23 0 (dz_N150_87 x (x.2.1 23 2)).2) = _
    rw [q.2.2.1.1, j1]
  · show ((dz_M262_64 m 0 (m.1 14 2)).bind fun r => some (q_sA r 14 (upd (r.1 14) 4 ((p + 1) &&& 4095)))) = _
    rw [q.2.2.1.2, b1]; rfl
theorem q_c136 (h : q_R TT x m) (hI : q_Iv c d w m) (p : Int32) : ∃ y m1, dz_N157_87_65 x 136 = some y ∧ dz_M273_64 m 136 p = some (q_sA m1 14 (upd (m1.1 14) 4 ((p + 1) &&& 4095))) ∧ q_R TT y m1 := by
  obtain ⟨A, X, Y, S, C, Z, I, D, V, N, q, rA, rX, rY, rS⟩ := q_cpu_of h hI
  obtain ⟨-, ⟨b1, b2⟩, -⟩ := q_bec q (S)
  obtain ⟨j1, j2, j3, j4, j5⟩ := q_jud q (S)
  refine ⟨q_sI (dz_N150_87 x (S)).1 23 1 (S), _, ?_, ?_, q_R_C h (j4.trans (q_CX_k 1 (S) rfl)) (j5.trans (q_CM_n 1 (S) rfl)) b2⟩
  · show some (q_sI (dz_N150_87 x (x.2.1 23 3)).1 23 1 (dz_N150_87 x (x.2.1 23 3)).2) = _
    rw [q.2.2.2.1.1, j1]
  · show ((dz_M262_64 m 1 (m.1 14 3)).bind fun r => some (q_sA r 14 (upd (r.1 14) 4 ((p + 1) &&& 4095)))) = _
    rw [q.2.2.2.1.2, b1]; rfl
theorem q_c137 (h : q_R TT x m) (hI : q_Iv c d w m) (p : Int32) : ∃ y m1, dz_N157_87_65 x 137 = some y ∧ dz_M273_64 m 137 p = some (q_sA m1 14 (upd (m1.1 14) 4 ((p + 1) &&& 4095))) ∧ q_R TT y m1 := by
  obtain ⟨A, X, Y, S, C, Z, I, D, V, N, q, rA, rX, rY, rS⟩ := q_cpu_of h hI
  have t := q.ws X
  refine ⟨q_sI x 23 3 X, q_sA m 14 (upd (m.1 14) 3 X), ?_, ?_, q_R_C h (q_CX_k 3 X rfl) (q_CM_n 3 X rfl) t⟩
  · show some (q_sI x 23 3 (x.2.1 23 1)) = _
    rw [q.2.1.1]
  · show some (q_sA (q_sA m 14 (upd (m.1 14) 3 (m.1 14 1))) 14 (upd (upd (m.1 14) 3 (m.1 14 1)) 4 ((p + 1) &&& 4095))) = _
    rw [q.2.1.2]; rfl
theorem q_c138 (h : q_R TT x m) (hI : q_Iv c d w m) (p : Int32) : ∃ y m1, dz_N157_87_65 x 138 = some y ∧ dz_M273_64 m 138 p = some (q_sA m1 14 (upd (m1.1 14) 4 ((p + 1) &&& 4095))) ∧ q_R TT y m1 := by
  obtain ⟨A, X, Y, S, C, Z, I, D, V, N, q, rA, rX, rY, rS⟩ := q_cpu_of h hI
  obtain ⟨y, m1, a1, a2, a3, -⟩ := q_push h hI A rA
  refine ⟨y, m1, ?_, ?_, a3⟩
  · show ((dz_N146_87_65 x (x.2.1 23 0)).bind fun r177 => some r177) = _
    rw [q.1.1, a1]; rfl
  · show ((dz_M255_64 m (m.1 14 0)).bind fun r => some (q_sA r 14 (upd (r.1 14) 4 ((p + 1) &&& 4095)))) = _
    rw [q.1.2, a2]; rfl
theorem q_c139 (h : q_R TT x m) (hI : q_Iv c d w m) (p : Int32) : ∃ y m1, dz_N157_87_65 x 139 = some y ∧ dz_M273_64 m 139 p = some (q_sA m1 14 (upd (m1.1 14) 4 ((p + 1) &&& 4095))) ∧ q_R TT y m1 := by
  obtain ⟨A, X, Y, S, C, Z, I, D, V, N, q, rA, rX, rY, rS⟩ := q_cpu_of h hI
  obtain ⟨y, v, m1, a1, a2, a3, a4, a5, a6, a7⟩ := q_pull h hI
  obtain ⟨A', X', Y', S', C', Z', I', D', V', N', q', -⟩ := q_cpu_of a3 a4
  obtain ⟨⟨b1, b2⟩, -, -⟩ := q_bec q' v
  obtain ⟨j1, j2, j3, j4, j5⟩ := q_jud q' v
  refine ⟨q_sI (dz_N150_87 y v).1 23 0 v, _, ?_, ?_, q_R_C a3 (j4.trans (q_CX_k 0 v rfl)) (j5.trans (q_CM_n 0 v rfl)) b2⟩
  · show some (q_sI (dz_N150_87 (dz_N147_87_65 x).1 (dz_N147_87_65 x).2).1 23 0 (dz_N150_87 (dz_N147_87_65 x).1 (dz_N147_87_65 x).2).2) = _
    rw [a1, j1]
  · show ((dz_M256_64 m).bind fun r934 => (dz_M262_64 r934.1 0 r934.2).bind fun r => some (q_sA r 14 (upd (r.1 14) 4 ((p + 1) &&& 4095)))) = _
    rw [a2, Option.bind_some, b1]; rfl
theorem q_c142 (h : q_R TT x m) (hI : q_Iv c d w m) (p : Int32) : ∃ y m1, dz_N157_87_65 x 142 = some y ∧ dz_M273_64 m 142 p = some (q_sA m1 14 (upd (m1.1 14) 4 ((p + 1) &&& 4095))) ∧ q_R TT y m1 := by
  obtain ⟨A, X, Y, S, C, Z, I, D, V, N, q, rA, rX, rY, rS⟩ := q_cpu_of h hI
  obtain ⟨q1, q2, q3, q4, q5, q6, q7, q8, q9, q10, q11⟩ := q
  obtain ⟨f1, -⟩ := q_Ft C Z I D V N
  have n1 : vp_nar .boolean 1 = q_b true := by decide
  refine ⟨q_sI x 23 5 (q_F true Z I D V N), q_sA m 15 (upd (m.1 15) 5 (q_b true)), ?_, ?_, q_R_C h (q_CX_k 5 _ rfl) (q_CM_f 5 _ rfl) (⟨q1, q2, q3, q4, q_sIv _ _ _ _, rfl, q7, q8, q9, q10, q11⟩ : q_cpu A X Y S true Z I D V N (q_sI x 23 5 (q_F true Z I D V N)) (q_sA m 15 (upd (m.1 15) 5 (q_b true))))⟩
  · show some (q_sI x 23 5 ((x.2.1 23 5) ||| 1)) = _
    rw [q5, f1]
  · show some (q_sA (q_sA m 15 (upd (m.1 15) 5 (vp_nar .boolean 1))) 14 (upd (m.1 14) 4 ((p + 1) &&& 4095))) = _
    rw [n1]; rfl
theorem q_c143 (h : q_R TT x m) (hI : q_Iv c d w m) (p : Int32) : ∃ y m1, dz_N157_87_65 x 143 = some y ∧ dz_M273_64 m 143 p = some (q_sA m1 14 (upd (m1.1 14) 4 ((p + 1) &&& 4095))) ∧ q_R TT y m1 := by
  obtain ⟨A, X, Y, S, C, Z, I, D, V, N, q, rA, rX, rY, rS⟩ := q_cpu_of h hI
  obtain ⟨q1, q2, q3, q4, q5, q6, q7, q8, q9, q10, q11⟩ := q
  obtain ⟨-, f1, -⟩ := q_Ft C Z I D V N
  have n1 : vp_nar .boolean 0 = q_b false := by decide
  refine ⟨q_sI x 23 5 (q_F false Z I D V N), q_sA m 15 (upd (m.1 15) 5 (q_b false)), ?_, ?_, q_R_C h (q_CX_k 5 _ rfl) (q_CM_f 5 _ rfl) (⟨q1, q2, q3, q4, q_sIv _ _ _ _, rfl, q7, q8, q9, q10, q11⟩ : q_cpu A X Y S false Z I D V N (q_sI x 23 5 (q_F false Z I D V N)) (q_sA m 15 (upd (m.1 15) 5 (q_b false))))⟩
  · show some (q_sI x 23 5 ((x.2.1 23 5) &&& ((1 : Int32) ^^^ (-1)))) = _
    rw [q5, f1]
  · show some (q_sA (q_sA m 15 (upd (m.1 15) 5 (vp_nar .boolean 0))) 14 (upd (m.1 14) 4 ((p + 1) &&& 4095))) = _
    rw [n1]; rfl
theorem q_c144 (h : q_R TT x m) (hI : q_Iv c d w m) (p : Int32) : ∃ y m1, dz_N157_87_65 x 144 = some y ∧ dz_M273_64 m 144 p = some (q_sA m1 14 (upd (m1.1 14) 4 ((p + 1) &&& 4095))) ∧ q_R TT y m1 := by
  obtain ⟨A, X, Y, S, C, Z, I, D, V, N, q, rA, rX, rY, rS⟩ := q_cpu_of h hI
  obtain ⟨q1, q2, q3, q4, q5, q6, q7, q8, q9, q10, q11⟩ := q
  obtain ⟨-, -, f1, -⟩ := q_Ft C Z I D V N
  have n1 : vp_nar .boolean 1 = q_b true := by decide
  refine ⟨q_sI x 23 5 (q_F C Z I true V N), q_sA m 15 (upd (m.1 15) 2 (q_b true)), ?_, ?_, q_R_C h (q_CX_k 5 _ rfl) (q_CM_f 2 _ rfl) (⟨q1, q2, q3, q4, q_sIv _ _ _ _, q6, q7, q8, rfl, q10, q11⟩ : q_cpu A X Y S C Z I true V N (q_sI x 23 5 (q_F C Z I true V N)) (q_sA m 15 (upd (m.1 15) 2 (q_b true))))⟩
  · show some (q_sI x 23 5 ((x.2.1 23 5) ||| 8)) = _
    rw [q5, f1]
  · show some (q_sA (q_sA m 15 (upd (m.1 15) 2 (vp_nar .boolean 1))) 14 (upd (m.1 14) 4 ((p + 1) &&& 4095))) = _
    rw [n1]; rfl
theorem q_c145 (h : q_R TT x m) (hI : q_Iv c d w m) (p : Int32) : ∃ y m1, dz_N157_87_65 x 145 = some y ∧ dz_M273_64 m 145 p = some (q_sA m1 14 (upd (m1.1 14) 4 ((p + 1) &&& 4095))) ∧ q_R TT y m1 := by
  obtain ⟨A, X, Y, S, C, Z, I, D, V, N, q, rA, rX, rY, rS⟩ := q_cpu_of h hI
  obtain ⟨q1, q2, q3, q4, q5, q6, q7, q8, q9, q10, q11⟩ := q
  obtain ⟨-, -, -, f1, -⟩ := q_Ft C Z I D V N
  have n1 : vp_nar .boolean 0 = q_b false := by decide
  refine ⟨q_sI x 23 5 (q_F C Z I false V N), q_sA m 15 (upd (m.1 15) 2 (q_b false)), ?_, ?_, q_R_C h (q_CX_k 5 _ rfl) (q_CM_f 2 _ rfl) (⟨q1, q2, q3, q4, q_sIv _ _ _ _, q6, q7, q8, rfl, q10, q11⟩ : q_cpu A X Y S C Z I false V N (q_sI x 23 5 (q_F C Z I false V N)) (q_sA m 15 (upd (m.1 15) 2 (q_b false))))⟩
  · show some (q_sI x 23 5 ((x.2.1 23 5) &&& ((8 : Int32) ^^^ (-1)))) = _
    rw [q5, f1]
  · show some (q_sA (q_sA m 15 (upd (m.1 15) 2 (vp_nar .boolean 0))) 14 (upd (m.1 14) 4 ((p + 1) &&& 4095))) = _
    rw [n1]; rfl
theorem q_c146 (h : q_R TT x m) (hI : q_Iv c d w m) (p : Int32) : ∃ y m1, dz_N157_87_65 x 146 = some y ∧ dz_M273_64 m 146 p = some (q_sA m1 14 (upd (m1.1 14) 4 ((p + 1) &&& 4095))) ∧ q_R TT y m1 := by
  obtain ⟨A, X, Y, S, C, Z, I, D, V, N, q, rA, rX, rY, rS⟩ := q_cpu_of h hI
  obtain ⟨q1, q2, q3, q4, q5, q6, q7, q8, q9, q10, q11⟩ := q
  obtain ⟨-, -, -, -, f1, -⟩ := q_Ft C Z I D V N
  have n1 : vp_nar .boolean 1 = q_b true := by decide
  refine ⟨q_sI x 23 5 (q_F C Z true D V N), q_sA m 15 (upd (m.1 15) 3 (q_b true)), ?_, ?_, q_R_C h (q_CX_k 5 _ rfl) (q_CM_f 3 _ rfl) (⟨q1, q2, q3, q4, q_sIv _ _ _ _, q6, q7, rfl, q9, q10, q11⟩ : q_cpu A X Y S C Z true D V N (q_sI x 23 5 (q_F C Z true D V N)) (q_sA m 15 (upd (m.1 15) 3 (q_b true))))⟩
  · show some (q_sI x 23 5 ((x.2.1 23 5) ||| 4)) = _
    rw [q5, f1]
  · show some (q_sA (q_sA m 15 (upd (m.1 15) 3 (vp_nar .boolean 1))) 14 (upd (m.1 14) 4 ((p + 1) &&& 4095))) = _
    rw [n1]; rfl
theorem q_c147 (h : q_R TT x m) (hI : q_Iv c d w m) (p : Int32) : ∃ y m1, dz_N157_87_65 x 147 = some y ∧ dz_M273_64 m 147 p = some (q_sA m1 14 (upd (m1.1 14) 4 ((p + 1) &&& 4095))) ∧ q_R TT y m1 := by
  obtain ⟨A, X, Y, S, C, Z, I, D, V, N, q, rA, rX, rY, rS⟩ := q_cpu_of h hI
  obtain ⟨q1, q2, q3, q4, q5, q6, q7, q8, q9, q10, q11⟩ := q
  obtain ⟨-, -, -, -, -, f1, -⟩ := q_Ft C Z I D V N
  have n1 : vp_nar .boolean 0 = q_b false := by decide
  refine ⟨q_sI x 23 5 (q_F C Z false D V N), q_sA m 15 (upd (m.1 15) 3 (q_b false)), ?_, ?_, q_R_C h (q_CX_k 5 _ rfl) (q_CM_f 3 _ rfl) (⟨q1, q2, q3, q4, q_sIv _ _ _ _, q6, q7, rfl, q9, q10, q11⟩ : q_cpu A X Y S C Z false D V N (q_sI x 23 5 (q_F C Z false D V N)) (q_sA m 15 (upd (m.1 15) 3 (q_b false))))⟩
  · show some (q_sI x 23 5 ((x.2.1 23 5) &&& ((4 : Int32) ^^^ (-1)))) = _
    rw [q5, f1]
  · show some (q_sA (q_sA m 15 (upd (m.1 15) 3 (vp_nar .boolean 0))) 14 (upd (m.1 14) 4 ((p + 1) &&& 4095))) = _
    rw [n1]; rfl
theorem q_c148 (h : q_R TT x m) (hI : q_Iv c d w m) (p : Int32) : ∃ y m1, dz_N157_87_65 x 148 = some y ∧ dz_M273_64 m 148 p = some (q_sA m1 14 (upd (m1.1 14) 4 ((p + 1) &&& 4095))) ∧ q_R TT y m1 := by
  obtain ⟨A, X, Y, S, C, Z, I, D, V, N, q, rA, rX, rY, rS⟩ := q_cpu_of h hI
  obtain ⟨q1, q2, q3, q4, q5, q6, q7, q8, q9, q10, q11⟩ := q
  obtain ⟨-, -, -, -, -, -, -, f1, -⟩ := q_Ft C Z I D V N
  have n1 : vp_nar .boolean 0 = q_b false := by decide
  refine ⟨q_sI x 23 5 (q_F C Z I D false N), q_sA m 15 (upd (m.1 15) 1 (q_b false)), ?_, ?_, q_R_C h (q_CX_k 5 _ rfl) (q_CM_f 1 _ rfl) (⟨q1, q2, q3, q4, q_sIv _ _ _ _, q6, q7, q8, q9, rfl, q11⟩ : q_cpu A X Y S C Z I D false N (q_sI x 23 5 (q_F C Z I D false N)) (q_sA m 15 (upd (m.1 15) 1 (q_b false))))⟩
  · show some (q_sI x 23 5 ((x.2.1 23 5) &&& ((64 : Int32) ^^^ (-1)))) = _
    rw [q5, f1]
  · show some (q_sA (q_sA m 15 (upd (m.1 15) 1 (vp_nar .boolean 0))) 14 (upd (m.1 14) 4 ((p + 1) &&& 4095))) = _
    rw [n1]; rfl
theorem q_c149 (h : q_R TT x m) (hI : q_Iv c d w m) (p : Int32) : ∃ y m1, dz_N157_87_65 x 149 = some y ∧ dz_M273_64 m 149 p = some (q_sA m1 14 (upd (m1.1 14) 4 ((p + 1) &&& 4095))) ∧ q_R TT y m1 := by
  obtain ⟨A, X, Y, S, C, Z, I, D, V, N, q, rA, rX, rY, rS⟩ := q_cpu_of h hI
  exact ⟨x, m, rfl, rfl, h⟩
theorem q_c150 (h : q_R TT x m) (hI : q_Iv c d w m) (p : Int32) : ∃ y m1, dz_N157_87_65 x 150 = some y ∧ dz_M273_64 m 150 p = some (q_sA m1 14 (upd (m1.1 14) 4 ((p + 1) &&& 4095))) ∧ q_R TT y m1 := by
  obtain ⟨A, X, Y, S, C, Z, I, D, V, N, q, rA, rX, rY, rS⟩ := q_cpu_of h hI
  obtain ⟨m2, b1, b2, b3, b4⟩ := q_shg q (decide (127 < A)) ((2 * A) &&& 255)
  have e257 := q_257 q 1
  obtain ⟨f1, -⟩ := q_Fb C Z I D V N
  obtain ⟨s1, s2⟩ := q_sc q
  have sA : (cond (decide (127 < A)) (dz_N149_87_t x 1) (dz_N149_87_f x 1)).2.1 23 0 = A := by
    rw [s1, s2]
    cases decide (127 < A) <;> exact (q_sIn _ _ _ _ _ rfl).trans q.1.1
  have jX : ∀ s u, (dz_N150_87 s u).2 = u := fun s u => by
    unfold dz_N150_87
    cases decide (u = 0) <;> cases decide (127 < u) <;> rfl
  refine ⟨_, m2, ?_, ?_, q_R_C h b3 b4 b2⟩
  · show some (cond (decide (127 < x.2.1 23 0)) (q_sI (dz_N150_87 (dz_N149_87_t x 1) ((2 * ((dz_N149_87_t x 1).2.1 23 0)) &&& 255)).1 23 0 (dz_N150_87 (dz_N149_87_t x 1) ((2 * ((dz_N149_87_t x 1).2.1 23 0)) &&& 255)).2) (q_sI (dz_N150_87 (dz_N149_87_f x 1) ((2 * ((dz_N149_87_f x 1).2.1 23 0)) &&& 255)).1 23 0 (dz_N150_87 (dz_N149_87_f x 1) ((2 * ((dz_N149_87_f x 1).2.1 23 0)) &&& 255)).2)) = _
    rw [q.1.1]
    cases hb : decide (127 < A) with
    | true => rw [hb] at sA; rw [cond_true] at sA ⊢; rw [cond_true, sA, jX]
    | false => rw [hb] at sA; rw [cond_false] at sA ⊢; rw [cond_false, sA, jX]
  · have tM : dz_M272_64 m 150 = some m2 := by
      show ((dz_M257_64 m 5 1).bind fun r => cond (dz_M206 m (m.1 14 0) 7) ((dz_M262_64 (q_sA m 15 (upd (m.1 15) 5 (vp_nar .boolean 1))) 0 (((m.1 14 0) * 2) &&& 255)).bind fun r => some r) ((dz_M262_64 (q_sA m 15 (upd (m.1 15) 5 (vp_nar .boolean 0))) 0 (((m.1 14 0) * 2) &&& 255)).bind fun r => some r)) = _
      rw [e257, Option.bind_some, q.1.2, q_hi m rA, Int32.mul_comm A 2]
      cases hb : decide (127 < A) with
      | true =>
        rw [hb] at b1
        have b9 : dz_M262_64 (q_sA m 15 (upd (m.1 15) 5 (vp_nar .boolean 1))) 0 ((2 * A) &&& 255) = some m2 := b1
        rw [cond_true, b9]; rfl
      | false =>
        rw [hb] at b1
        have b9 : dz_M262_64 (q_sA m 15 (upd (m.1 15) 5 (vp_nar .boolean 0))) 0 ((2 * A) &&& 255) = some m2 := b1
        rw [cond_false, b9]; rfl
    show ((dz_M272_64 m 150).bind fun r => some (q_sA r 14 (upd (r.1 14) 4 ((p + 1) &&& 4095)))) = _
    rw [tM]; rfl
theorem q_c151 (h : q_R TT x m) (hI : q_Iv c d w m) (p : Int32) : ∃ y m1, dz_N157_87_65 x 151 = some y ∧ dz_M273_64 m 151 p = some (q_sA m1 14 (upd (m1.1 14) 4 ((p + 1) &&& 4095))) ∧ q_R TT y m1 := by
  obtain ⟨A, X, Y, S, C, Z, I, D, V, N, q, rA, rX, rY, rS⟩ := q_cpu_of h hI
  obtain ⟨m2, b1, b2, b3, b4⟩ := q_shg q (decide (A - A / 2 * 2 = 1)) (A / 2)
  have e257 := q_257 q 1
  obtain ⟨f1, -⟩ := q_Fb C Z I D V N
  obtain ⟨s1, s2⟩ := q_sc q
  have sA : (cond (decide (A - A / 2 * 2 = 1)) (dz_N149_87_t x 1) (dz_N149_87_f x 1)).2.1 23 0 = A := by
    rw [s1, s2]
    cases decide (A - A / 2 * 2 = 1) <;> exact (q_sIn _ _ _ _ _ rfl).trans q.1.1
  have jX : ∀ s u, (dz_N150_87 s u).2 = u := fun s u => by
    unfold dz_N150_87
    cases decide (u = 0) <;> cases decide (127 < u) <;> rfl
  refine ⟨_, m2, ?_, ?_, q_R_C h b3 b4 b2⟩
  · show some (cond (decide ((x.2.1 23 0) - (x.2.1 23 0) / 2 * 2 = 1)) (q_sI (dz_N150_87 (dz_N149_87_t x 1) (((dz_N149_87_t x 1).2.1 23 0) / 2)).1 23 0 (dz_N150_87 (dz_N149_87_t x 1) (((dz_N149_87_t x 1).2.1 23 0) / 2)).2) (q_sI (dz_N150_87 (dz_N149_87_f x 1) (((dz_N149_87_f x 1).2.1 23 0) / 2)).1 23 0 (dz_N150_87 (dz_N149_87_f x 1) (((dz_N149_87_f x 1).2.1 23 0) / 2)).2)) = _
    rw [q.1.1]
    cases hb : decide (A - A / 2 * 2 = 1) with
    | true => rw [hb] at sA; rw [cond_true] at sA ⊢; rw [cond_true, sA, jX]
    | false => rw [hb] at sA; rw [cond_false] at sA ⊢; rw [cond_false, sA, jX]
  · have tM : dz_M272_64 m 151 = some m2 := by
      show ((dz_M257_64 m 5 1).bind fun r => cond (dz_M206 m (m.1 14 0) 0) ((dz_M262_64 (q_sA m 15 (upd (m.1 15) 5 (vp_nar .boolean 1))) 0 ((m.1 14 0) / 2)).bind fun r => some r) ((dz_M262_64 (q_sA m 15 (upd (m.1 15) 5 (vp_nar .boolean 0))) 0 ((m.1 14 0) / 2)).bind fun r => some r)) = _
      rw [e257, Option.bind_some, q.1.2, q_loz m rA]
      cases hb : decide (A - A / 2 * 2 = 1) with
      | true =>
        rw [hb] at b1
        have b9 : dz_M262_64 (q_sA m 15 (upd (m.1 15) 5 (vp_nar .boolean 1))) 0 (A / 2) = some m2 := b1
        rw [cond_true, b9]; rfl
      | false =>
        rw [hb] at b1
        have b9 : dz_M262_64 (q_sA m 15 (upd (m.1 15) 5 (vp_nar .boolean 0))) 0 (A / 2) = some m2 := b1
        rw [cond_false, b9]; rfl
    show ((dz_M272_64 m 151).bind fun r => some (q_sA r 14 (upd (r.1 14) 4 ((p + 1) &&& 4095)))) = _
    rw [tM]; rfl
theorem q_c152 (h : q_R TT x m) (hI : q_Iv c d w m) (p : Int32) : ∃ y m1, dz_N157_87_65 x 152 = some y ∧ dz_M273_64 m 152 p = some (q_sA m1 14 (upd (m1.1 14) 4 ((p + 1) &&& 4095))) ∧ q_R TT y m1 := by
  obtain ⟨A, X, Y, S, C, Z, I, D, V, N, q, rA, rX, rY, rS⟩ := q_cpu_of h hI
  obtain ⟨m2, b1, b2, b3, b4⟩ := q_shg q (decide (127 < A)) (((2 * A) + q_b C) &&& 255)
  have e257 := q_257 q 1
  obtain ⟨f1, -⟩ := q_Fb C Z I D V N
  obtain ⟨s1, s2⟩ := q_sc q
  have sA : (cond (decide (127 < A)) (dz_N149_87_t x 1) (dz_N149_87_f x 1)).2.1 23 0 = A := by
    rw [s1, s2]
    cases decide (127 < A) <;> exact (q_sIn _ _ _ _ _ rfl).trans q.1.1
  have jX : ∀ s u, (dz_N150_87 s u).2 = u := fun s u => by
    unfold dz_N150_87
    cases decide (u = 0) <;> cases decide (127 < u) <;> rfl
  refine ⟨_, m2, ?_, ?_, q_R_C h b3 b4 b2⟩
  · show some (cond (decide (127 < x.2.1 23 0)) (q_sI (dz_N150_87 (dz_N149_87_t x 1) (((2 * ((dz_N149_87_t x 1).2.1 23 0)) + ((x.2.1 23 5) &&& 1)) &&& 255)).1 23 0 (dz_N150_87 (dz_N149_87_t x 1) (((2 * ((dz_N149_87_t x 1).2.1 23 0)) + ((x.2.1 23 5) &&& 1)) &&& 255)).2) (q_sI (dz_N150_87 (dz_N149_87_f x 1) (((2 * ((dz_N149_87_f x 1).2.1 23 0)) + ((x.2.1 23 5) &&& 1)) &&& 255)).1 23 0 (dz_N150_87 (dz_N149_87_f x 1) (((2 * ((dz_N149_87_f x 1).2.1 23 0)) + ((x.2.1 23 5) &&& 1)) &&& 255)).2)) = _
    rw [q.1.1, q.2.2.2.2.1, f1]
    cases hb : decide (127 < A) with
    | true => rw [hb] at sA; rw [cond_true] at sA ⊢; rw [cond_true, sA, jX]
    | false => rw [hb] at sA; rw [cond_false] at sA ⊢; rw [cond_false, sA, jX]
  · have tM : dz_M272_64 m 152 = some m2 := by
      show ((dz_M257_64 m 5 1).bind fun r => cond (dz_M206 m (m.1 14 0) 7) ((dz_M262_64 (q_sA m 15 (upd (m.1 15) 5 (vp_nar .boolean 1))) 0 ((((m.1 14 0) * 2) + r) &&& 255)).bind fun r => some r) ((dz_M262_64 (q_sA m 15 (upd (m.1 15) 5 (vp_nar .boolean 0))) 0 ((((m.1 14 0) * 2) + r) &&& 255)).bind fun r => some r)) = _
      rw [e257, Option.bind_some, q.1.2, q_hi m rA, Int32.mul_comm A 2, show (cond C (1 : Int32) 0) = q_b C from rfl]
      cases hb : decide (127 < A) with
      | true =>
        rw [hb] at b1
        have b9 : dz_M262_64 (q_sA m 15 (upd (m.1 15) 5 (vp_nar .boolean 1))) 0 (((2 * A) + q_b C) &&& 255) = some m2 := b1
        rw [cond_true, b9]; rfl
      | false =>
        rw [hb] at b1
        have b9 : dz_M262_64 (q_sA m 15 (upd (m.1 15) 5 (vp_nar .boolean 0))) 0 (((2 * A) + q_b C) &&& 255) = some m2 := b1
        rw [cond_false, b9]; rfl
    show ((dz_M272_64 m 152).bind fun r => some (q_sA r 14 (upd (r.1 14) 4 ((p + 1) &&& 4095)))) = _
    rw [tM]; rfl
theorem q_c153 (h : q_R TT x m) (hI : q_Iv c d w m) (p : Int32) : ∃ y m1, dz_N157_87_65 x 153 = some y ∧ dz_M273_64 m 153 p = some (q_sA m1 14 (upd (m1.1 14) 4 ((p + 1) &&& 4095))) ∧ q_R TT y m1 := by
  obtain ⟨A, X, Y, S, C, Z, I, D, V, N, q, rA, rX, rY, rS⟩ := q_cpu_of h hI
  obtain ⟨m2, b1, b2, b3, b4⟩ := q_shg q (decide (A - A / 2 * 2 = 1)) ((A / 2) + (128 * q_b C))
  have e257 := q_257 q 1
  obtain ⟨f1, -⟩ := q_Fb C Z I D V N
  obtain ⟨s1, s2⟩ := q_sc q
  have sA : (cond (decide (A - A / 2 * 2 = 1)) (dz_N149_87_t x 1) (dz_N149_87_f x 1)).2.1 23 0 = A := by
    rw [s1, s2]
    cases decide (A - A / 2 * 2 = 1) <;> exact (q_sIn _ _ _ _ _ rfl).trans q.1.1
  have jX : ∀ s u, (dz_N150_87 s u).2 = u := fun s u => by
    unfold dz_N150_87
    cases decide (u = 0) <;> cases decide (127 < u) <;> rfl
  refine ⟨_, m2, ?_, ?_, q_R_C h b3 b4 b2⟩
  · show some (cond (decide ((x.2.1 23 0) - (x.2.1 23 0) / 2 * 2 = 1)) (q_sI (dz_N150_87 (dz_N149_87_t x 1) ((((dz_N149_87_t x 1).2.1 23 0) / 2) + (128 * ((x.2.1 23 5) &&& 1)))).1 23 0 (dz_N150_87 (dz_N149_87_t x 1) ((((dz_N149_87_t x 1).2.1 23 0) / 2) + (128 * ((x.2.1 23 5) &&& 1)))).2) (q_sI (dz_N150_87 (dz_N149_87_f x 1) ((((dz_N149_87_f x 1).2.1 23 0) / 2) + (128 * ((x.2.1 23 5) &&& 1)))).1 23 0 (dz_N150_87 (dz_N149_87_f x 1) ((((dz_N149_87_f x 1).2.1 23 0) / 2) + (128 * ((x.2.1 23 5) &&& 1)))).2)) = _
    rw [q.1.1, q.2.2.2.2.1, f1]
    cases hb : decide (A - A / 2 * 2 = 1) with
    | true => rw [hb] at sA; rw [cond_true] at sA ⊢; rw [cond_true, sA, jX]
    | false => rw [hb] at sA; rw [cond_false] at sA ⊢; rw [cond_false, sA, jX]
  · have tM : dz_M272_64 m 153 = some m2 := by
      show ((dz_M257_64 m 5 1).bind fun r => cond (dz_M206 m (m.1 14 0) 0) ((dz_M262_64 (q_sA m 15 (upd (m.1 15) 5 (vp_nar .boolean 1))) 0 (((m.1 14 0) / 2) + (128 * r))).bind fun r => some r) ((dz_M262_64 (q_sA m 15 (upd (m.1 15) 5 (vp_nar .boolean 0))) 0 (((m.1 14 0) / 2) + (128 * r))).bind fun r => some r)) = _
      rw [e257, Option.bind_some, q.1.2, q_loz m rA, show (cond C (1 : Int32) 0) = q_b C from rfl]
      cases hb : decide (A - A / 2 * 2 = 1) with
      | true =>
        rw [hb] at b1
        have b9 : dz_M262_64 (q_sA m 15 (upd (m.1 15) 5 (vp_nar .boolean 1))) 0 ((A / 2) + (128 * q_b C)) = some m2 := b1
        rw [cond_true, b9]; rfl
      | false =>
        rw [hb] at b1
        have b9 : dz_M262_64 (q_sA m 15 (upd (m.1 15) 5 (vp_nar .boolean 0))) 0 ((A / 2) + (128 * q_b C)) = some m2 := b1
        rw [cond_false, b9]; rfl
    show ((dz_M272_64 m 153).bind fun r => some (q_sA r 14 (upd (r.1 14) 4 ((p + 1) &&& 4095)))) = _
    rw [tM]; rfl
end
end
section
-- 54.b
section
variable {TT : (Nat → Int32) → Int32 → (Nat → Int32) → Int32 → Int64 → Int64 → List Int32 → List (Nat → Int32) → (Nat → Int64) → Prop} {x y z m : q_S} {c d w : Int} {A X Y S : Int32} {C Z I D V N : Bool}
/-- the status as it is pushed -/
theorem q_st258 (q : q_cpu A X Y S C Z I D V N x m) (hI : q_Iv c d w m) (brk : Bool) : dz_M258_64 m (cond brk 16 0) = some (cond brk (((x.2.1 23 5) ||| 32) ||| 16) ((x.2.1 23 5) ||| 32)) ∧ q_rgz 0 255 (cond brk (((x.2.1 23 5) ||| 32) ||| 16) ((x.2.1 23 5) ||| 32)) := by
  obtain ⟨q1, q2, q3, q4, q5, q6, q7, q8, q9, q10, q11⟩ := q
  obtain ⟨-, -, t3, t4⟩ := q_Fb C Z I D V N
  generalize hst : cond brk (((x.2.1 23 5) ||| 32) ||| 16) ((x.2.1 23 5) ||| 32) = st
  have est : st = (((((q_b C + 2 * q_b Z) + 4 * q_b I) + 8 * q_b D) + cond brk 16 0) + 32) + 64 * q_b V + 128 * q_b N := by
    rw [← hst, q5]
    cases brk with
    | true => exact t4
    | false => exact t3
  have e258 : dz_M258_64 m (cond brk 16 0) = some st := by
    have bit : ∀ (k : Nat) (K v : Int32) (b : Bool), K.toNatClampNeg = k → q_in K 8 = true → m.1 15 k = q_b b → dz_M257_64 m K v = some (v * q_b b) := fun k K v b hk hi hb => by
      unfold dz_M257_64
      rw [hi, hk, hb]
      cases b with
      | true => show some v = some (v * 1); rw [Int32.mul_one]
      | false => show some 0 = some (v * 0); rw [Int32.mul_zero]
    unfold dz_M258_64
    rw [bit 5 5 1 C rfl rfl q6, bit 4 4 2 Z rfl rfl q7, bit 3 3 4 I rfl rfl q8, bit 2 2 8 D rfl rfl q9, bit 1 1 64 V rfl rfl q10, bit 0 0 128 N rfl rfl q11]
    simp only [Option.bind_some]
    rw [est, Int32.one_mul]
  refine ⟨e258, ?_⟩
  obtain ⟨r, hr1, hr2⟩ := dzj_M258_64 c d w m hI (cond brk 16 0) (by cases brk <;> exact ⟨by decide, by decide⟩)
  rw [e258] at hr1
  cases hr1
  exact hr2
theorem q_206s (s t : q_S) (a k : Int32) : dz_M206 s a k = dz_M206 t a k := rfl
def q_zz0 : q_S := (fun _ _ => 0, fun _ _ => 0, fun _ _ => 0)
set_option maxRecDepth 16384 in
theorem q_T207 : ∀ n, n < 256 → (Int32.ofNat n) &&& 207 = q_F (dz_M206 q_zz0 (Int32.ofNat n) 0) (dz_M206 q_zz0 (Int32.ofNat n) 1) (dz_M206 q_zz0 (Int32.ofNat n) 2) (dz_M206 q_zz0 (Int32.ofNat n) 3) (dz_M206 q_zz0 (Int32.ofNat n) 6) (dz_M206 q_zz0 (Int32.ofNat n) 7) := by decide
set_option maxHeartbeats 4000000 in
theorem q_259 (m : q_S) (v : Int32) : q_CM m (dz_M259_64 m v) ∧ (dz_M259_64 m v).1 15 5 = q_b (dz_M206 q_zz0 v 0) ∧ (dz_M259_64 m v).1 15 4 = q_b (dz_M206 q_zz0 v 1) ∧ (dz_M259_64 m v).1 15 3 = q_b (dz_M206 q_zz0 v 2) ∧ (dz_M259_64 m v).1 15 2 = q_b (dz_M206 q_zz0 v 3) ∧ (dz_M259_64 m v).1 15 1 = q_b (dz_M206 q_zz0 v 6) ∧ (dz_M259_64 m v).1 15 0 = q_b (dz_M206 q_zz0 v 7) ∧ (dz_M259_64 m v).1 14 = m.1 14 := by
  have n1 : vp_nar .boolean 1 = q_b true := by decide
  have n0 : vp_nar .boolean 0 = q_b false := by decide
  have e : ∀ s k, dz_M206 s v k = dz_M206 q_zz0 v k := fun _ _ => rfl
  unfold dz_M259_64 q_let
  simp only [e, n1, n0]
  generalize dz_M206 q_zz0 v 0 = b0
  generalize dz_M206 q_zz0 v 1 = b1
  generalize dz_M206 q_zz0 v 2 = b2
  generalize dz_M206 q_zz0 v 3 = b3
  generalize dz_M206 q_zz0 v 6 = b6
  generalize dz_M206 q_zz0 v 7 = b7
  have key : ∀ (m : q_S) (v0 v1 v2 v3 v6 v7 : Int32), q_CM m (q_sA (q_sA (q_sA (q_sA (q_sA (q_sA m 15 (upd (m.1 15) 5 v0)) 15 (upd (upd (m.1 15) 5 v0) 4 v1)) 15 (upd (upd (upd (m.1 15) 5 v0) 4 v1) 3 v2)) 15 (upd (upd (upd (upd (m.1 15) 5 v0) 4 v1) 3 v2) 2 v3)) 15 (upd (upd (upd (upd (upd (m.1 15) 5 v0) 4 v1) 3 v2) 2 v3) 1 v6)) 15 (upd (upd (upd (upd (upd (upd (m.1 15) 5 v0) 4 v1) 3 v2) 2 v3) 1 v6) 0 v7)) := fun m v0 v1 v2 v3 v6 v7 =>
    (((((q_CM_f 5 _ rfl).trans (q_CM_f 4 _ rfl)).trans (q_CM_f 3 _ rfl)).trans (q_CM_f 2 _ rfl)).trans (q_CM_f 1 _ rfl)).trans (q_CM_f 0 _ rfl)
  cases b0 <;> cases b1 <;> cases b2 <;> cases b3 <;> cases b6 <;> cases b7 <;> exact ⟨key m _ _ _ _ _ _, rfl, rfl, rfl, rfl, rfl, rfl, rfl⟩
theorem q_plp (q : q_cpu A X Y S C Z I D V N x m) {v : Int32} (hv : q_rgz 0 255 v) (h : q_R TT x m) : q_R TT (q_sI x 23 5 (v &&& 207)) (dz_M259_64 m v) := by
  obtain ⟨q1, q2, q3, q4, -⟩ := q
  obtain ⟨e0, e1, e2, e3, e4, e5, e6, e7⟩ := q_259 m v
  have e9 : v &&& 207 = q_F (dz_M206 q_zz0 v 0) (dz_M206 q_zz0 v 1) (dz_M206 q_zz0 v 2) (dz_M206 q_zz0 v 3) (dz_M206 q_zz0 v 6) (dz_M206 q_zz0 v 7) := by
    have hn := hv.1
    have hu := hv.2
    have := q_T207 v.toInt.toNat (by omega)
    rw [q_ofn hv] at this
    exact this
  rw [e9]
  refine q_R_C h (q_CX_k 5 _ rfl) e0 (A := A) (X := X) (Y := Y) (S := S) ⟨⟨q1.1, ?_⟩, ⟨q2.1, ?_⟩, ⟨q3.1, ?_⟩, ⟨q4.1, ?_⟩, rfl, e1, e2, e3, e4, e5, e6⟩
  · rw [e7]; exact q1.2
  · rw [e7]; exact q2.2
  · rw [e7]; exact q3.2
  · rw [e7]; exact q4.2
theorem q_c140 (h : q_R TT x m) (hI : q_Iv c d w m) (p : Int32) : ∃ y m1, dz_N157_87_65 x 140 = some y ∧ dz_M273_64 m 140 p = some (q_sA m1 14 (upd (m1.1 14) 4 ((p + 1) &&& 4095))) ∧ q_R TT y m1 := by
  obtain ⟨A, X, Y, S, C, Z, I, D, V, N, q, rA, rX, rY, rS⟩ := q_cpu_of h hI
  obtain ⟨s1, s2⟩ := q_st258 q hI true
  obtain ⟨y, m1, a1, a2, a3, -⟩ := q_push h hI _ s2
  refine ⟨y, m1, ?_, ?_, a3⟩
  · show ((dz_N146_87_65 x (((x.2.1 23 5) ||| 32) ||| 16)).bind fun r => some r) = _
    have a1' : dz_N146_87_65 x (((x.2.1 23 5) ||| 32) ||| 16) = some y := a1
    rw [a1']; rfl
  · show ((dz_M258_64 m 16).bind fun r31 => (dz_M255_64 m r31).bind fun r => some (q_sA r 14 (upd (r.1 14) 4 ((p + 1) &&& 4095)))) = _
    have s1' : dz_M258_64 m 16 = some (((x.2.1 23 5) ||| 32) ||| 16) := s1
    have a2' : dz_M255_64 m (((x.2.1 23 5) ||| 32) ||| 16) = some m1 := a2
    rw [s1', Option.bind_some, a2']; rfl
theorem q_c141 (h : q_R TT x m) (hI : q_Iv c d w m) (p : Int32) : ∃ y m1, dz_N157_87_65 x 141 = some y ∧ dz_M273_64 m 141 p = some (q_sA m1 14 (upd (m1.1 14) 4 ((p + 1) &&& 4095))) ∧ q_R TT y m1 := by
  obtain ⟨y, v, m1, a1, a2, a3, a4, a5, a6, a7⟩ := q_pull h hI
  obtain ⟨A', X', Y', S', C', Z', I', D', V', N', q', -⟩ := q_cpu_of a3 a4
  refine ⟨q_sI y 23 5 (v &&& 207), dz_M259_64 m1 v, ?_, ?_, q_plp q' a7 a3⟩
  · show some (q_sI (dz_N147_87_65 x).1 23 5 ((dz_N147_87_65 x).2 &&& 207)) = _
    rw [a1]
  · show ((dz_M256_64 m).bind fun r34 => some (q_sA (dz_M259_64 r34.1 r34.2) 14 (upd ((dz_M259_64 r34.1 r34.2).1 14) 4 ((p + 1) &&& 4095)))) = _
    rw [a2]; rfl
end
end
section
-- 54.c
section
variable {TT : (Nat → Int32) → Int32 → (Nat → Int32) → Int32 → Int64 → Int64 → List Int32 → List (Nat → Int32) → (Nat → Int64) → Prop} {x y z m : q_S} {c d w : Int}
/-- the codes 128 to 153 -/
theorem q_cod (h : q_R TT x m) (hI : q_Iv c d w m) (p a : Int32) (ha : q_rgz 128 153 a) : ∃ y m1, dz_N157_87_65 x a = some y ∧ dz_M273_64 m a p = some (q_sA m1 14 (upd (m1.1 14) 4 ((p + 1) &&& 4095))) ∧ q_R TT y m1 := by
  have a0 := ha.1
  have a1 := ha.2
  rcases (by omega : a.toInt = 128 ∨ a.toInt = 129 ∨ a.toInt = 130 ∨ a.toInt = 131 ∨ a.toInt = 132 ∨ a.toInt = 133 ∨ a.toInt = 134 ∨ a.toInt = 135 ∨ a.toInt = 136 ∨ a.toInt = 137 ∨ a.toInt = 138 ∨ a.toInt = 139 ∨ a.toInt = 140 ∨ a.toInt = 141 ∨ a.toInt = 142 ∨ a.toInt = 143 ∨ a.toInt = 144 ∨ a.toInt = 145 ∨ a.toInt = 146 ∨ a.toInt = 147 ∨ a.toInt = 148 ∨ a.toInt = 149 ∨ a.toInt = 150 ∨ a.toInt = 151 ∨ a.toInt = 152 ∨ a.toInt = 153) with e | e | e | e | e | e | e | e | e | e | e | e | e | e | e | e | e | e | e | e | e | e | e | e | e | e
  · rw [show a = 128 from Int32.toInt_inj.mp e]; exact q_c128 h hI p
  · rw [show a = 129 from Int32.toInt_inj.mp e]; exact q_c129 h hI p
  · rw [show a = 130 from Int32.toInt_inj.mp e]; exact q_c130 h hI p
  · rw [show a = 131 from Int32.toInt_inj.mp e]; exact q_c131 h hI p
  · rw [show a = 132 from Int32.toInt_inj.mp e]; exact q_c132 h hI p
  · rw [show a = 133 from Int32.toInt_inj.mp e]; exact q_c133 h hI p
  · rw [show a = 134 from Int32.toInt_inj.mp e]; exact q_c134 h hI p
  · rw [show a = 135 from Int32.toInt_inj.mp e]; exact q_c135 h hI p
  · rw [show a = 136 from Int32.toInt_inj.mp e]; exact q_c136 h hI p
  · rw [show a = 137 from Int32.toInt_inj.mp e]; exact q_c137 h hI p
  · rw [show a = 138 from Int32.toInt_inj.mp e]; exact q_c138 h hI p
  · rw [show a = 139 from Int32.toInt_inj.mp e]; exact q_c139 h hI p
  · rw [show a = 140 from Int32.toInt_inj.mp e]; exact q_c140 h hI p
  · rw [show a = 141 from Int32.toInt_inj.mp e]; exact q_c141 h hI p
  · rw [show a = 142 from Int32.toInt_inj.mp e]; exact q_c142 h hI p
  · rw [show a = 143 from Int32.toInt_inj.mp e]; exact q_c143 h hI p
  · rw [show a = 144 from Int32.toInt_inj.mp e]; exact q_c144 h hI p
  · rw [show a = 145 from Int32.toInt_inj.mp e]; exact q_c145 h hI p
  · rw [show a = 146 from Int32.toInt_inj.mp e]; exact q_c146 h hI p
  · rw [show a = 147 from Int32.toInt_inj.mp e]; exact q_c147 h hI p
  · rw [show a = 148 from Int32.toInt_inj.mp e]; exact q_c148 h hI p
  · rw [show a = 149 from Int32.toInt_inj.mp e]; exact q_c149 h hI p
  · rw [show a = 150 from Int32.toInt_inj.mp e]; exact q_c150 h hI p
  · rw [show a = 151 from Int32.toInt_inj.mp e]; exact q_c151 h hI p
  · rw [show a = 152 from Int32.toInt_inj.mp e]; exact q_c152 h hI p
  · rw [show a = 153 from Int32.toInt_inj.mp e]; exact q_c153 h hI p
theorem q_T4 : ∀ n, n < 27 → dz_M246 q_zz0 (Int32.ofNat (128 + n)) = 1 := by decide
theorem q_T5 : ∀ n, n < 8 → dz_M246 q_zz0 (Int32.ofNat (160 + n)) = 2 := by decide
theorem q_len (t : q_S) {a : Int32} (h : q_rgz 0 255 a) : (decide (dz_M244 t a < 0) = true → 128 ≤ a.toInt) ∧ (128 ≤ a.toInt → a.toInt < 155 → dz_M246 t a = 1) ∧ (160 ≤ a.toInt → a.toInt < 168 → dz_M246 t a = 2) := by
  have a1 := h.2
  have a0 := h.1
  refine ⟨fun q => ?_, fun q r => ?_, fun q r => ?_⟩
  · by_cases k : 128 ≤ a.toInt
    · exact k
    · have e8 : (a / 8).toInt = a.toInt / 8 := q_toInt_div a0 (by decide)
      have z0 : (0 : Int32).toInt = 0 := rfl
      unfold dz_M244 at q
      rw [q_lt_T (show a.toInt < (128 : Int32).toInt by show a.toInt < 128; omega), cond_true, q_lt_F (show (0 : Int32).toInt ≤ (a / 8).toInt by omega)] at q
      cases q
  · have t2 := q_T4 (a.toInt.toNat - 128) (by omega)
    rw [show 128 + (a.toInt.toNat - 128) = a.toInt.toNat by omega, q_ofn h] at t2
    exact t2
  · have t2 := q_T5 (a.toInt.toNat - 160) (by omega)
    rw [show 160 + (a.toInt.toNat - 160) = a.toInt.toNat by omega, q_ofn h] at t2
    exact t2
/-- a word of two pulled bytes -/
theorem q_wrd {l g : Int32} (hl : q_rgz 0 255 l) (hg : q_rgz 0 255 g) : (l + 256 * g).toInt = l.toInt + 256 * g.toInt := by
  have l0 := hl.1
  have l1 := hl.2
  have g0 := hg.1
  have g1 := hg.2
  have e : (256 * g).toInt = 256 * g.toInt := q_mulI (n := 256) rfl (by decide) (by decide) ⟨by omega, by omega⟩
  rw [q_addI ⟨by omega, by omega⟩ ⟨by omega, by omega⟩, e]
theorem q_a1 {a : Int32} (h : q_rgz 0 70000 a) : ((a &&& 4095) + 1) &&& 4095 = (a + 1) &&& 4095 := by
  have a0 := h.1
  have a1 := h.2
  have k : (4095 : Int32).toInt = 2 ^ 12 - 1 := rfl
  have e1 : (a &&& 4095).toInt = a.toInt % 4096 := q_andI 12 (by decide) h (by decide) k
  have e2 : ((a &&& 4095) + 1).toInt = a.toInt % 4096 + 1 := by rw [q_addI ⟨by omega, by omega⟩ ⟨by decide, by decide⟩, e1]; rfl
  have e3 : (a + 1).toInt = a.toInt + 1 := q_addI ⟨by omega, by omega⟩ ⟨by decide, by decide⟩
  apply Int32.toInt_inj.mp
  rw [q_andI 12 (by decide) (l := 0) (u := 4096) ⟨by omega, by omega⟩ (by decide) k, q_andI 12 (by decide) (l := 0) (u := 70001) ⟨by omega, by omega⟩ (by decide) k, e2, e3]
  show (a.toInt % 4096 + 1) % 4096 = (a.toInt + 1) % 4096
  omega
/-- what rts and rti pull -/
theorem q_ret (h : q_R TT x m) (hI : q_Iv c d w m) (k : Int32) (hk : k = 0 ∨ k = 1) : ∃ y v m2, dz_N160_87_65 x = (y, v) ∧ dz_M274_64 m k = some (m2, (v + k) &&& 4095) ∧ q_R TT y m2 ∧ q_Iv c d w m2 ∧ q_rgz 0 4095 v := by
  obtain ⟨y1, l, m1, a1, a2, a3, a4, a5, a6, a7⟩ := q_pull h hI
  obtain ⟨y2, g, m2, b1, b2, b3, b4, b5, b6, b7⟩ := q_pull a3 a4
  have ew := q_wrd a7 b7
  have l0 := a7.1
  have l1 := a7.2
  have g0 := b7.1
  have g1 := b7.2
  refine ⟨y2, (l + 256 * g) &&& 4095, m2, ?_, ?_, b3, b4, q_rg_and _ 4095 (by decide) rfl⟩
  · unfold dz_N160_87_65 q_let
    rw [a1]
    dsimp only
    rw [b1]
  · unfold dz_M274_64
    rw [a2, Option.bind_some, b2, Option.bind_some]
    show some (m2, ((l + 256 * g) + k) &&& 4095) = _
    rcases hk with e | e
    · rw [e, Int32.add_zero, Int32.add_zero, q_a12 (q_rg_and _ 4095 (by decide) rfl)]
    · rw [e, q_a1 ⟨by omega, by omega⟩]
/-- the word behind a code -/
theorem q_ab (h : q_R TT x m) (hI : q_Iv c d w m) (hP : x.2.1 23 4 = m.1 14 4) : ∃ B m2, dz_N145_87_65 x 3 = some B ∧ dz_M248_64 m (m.1 14 4 + 1) = some (m2, B) ∧ q_rgz 0 4095 B ∧ q_eq33 m m2 ∧ q_R TT x m2 ∧ q_Iv c d w m2 := by
  obtain ⟨lo, hi, m2, w1, w2, w3, w4, w5, w6, w7, w8⟩ := q_word h hI (m.1 14 4 + 1)
  rw [q_p11] at w2
  refine ⟨_, m2, ?_, w3, q_rg_and _ 4095 (by decide) rfl, w4, w5, w6⟩
  unfold dz_N145_87_65 dz_N140_87 q_let
  dsimp only
  rw [hP, w1, w2]
  rfl
theorem q_jam (h : q_R TT x m) (hL : x.2.1 23 9 = 0) (v u : Int32) : q_R TT (q_sI (q_sI x 23 7 1) 23 4 v) (q_sA (q_sA m 15 (upd (m.1 15) 7 (vp_nar .boolean 1))) 14 (upd (m.1 14) 4 u)) := by
  obtain ⟨h1, h2, h3, h4, h5, ⟨p1, p2, p3, p4, p5, p6, p7, p8, p9, p10, p11⟩, h7, h8⟩ := h
  exact ⟨h1, h2, h3, h4, h5, ⟨p1, fun q => absurd (show (1 : Int32) = 0 from q) (by decide), p3, rfl, p5, p6, p7, p8, p9, p10, ⟨Or.inr hL, p11.2⟩⟩, h7, h8⟩
end
end
section
-- 54.d
section
variable {TT : (Nat → Int32) → Int32 → (Nat → Int32) → Int32 → Int64 → Int64 → List Int32 → List (Nat → Int32) → (Nat → Int64) → Prop} {x y z m : q_S} {c d w : Int}
/-- jmp, jsr, jmi -/
theorem q_jump (h : q_R TT x m) (hI : q_Iv c d w m) (hP : x.2.1 23 4 = m.1 14 4) (v r5 : Int32) (hv : v.toInt = 157 ∨ v.toInt = 158 ∨ v.toInt = 159) : ∃ y q m2, dz_N158_87_65 x v r5 = some (y, q) ∧ dz_M275_64 m v (m.1 14 4) = some m2 ∧ q_R TT (q_sI y 23 4 q) m2 := by
  obtain ⟨B, m2, a1, a2, a3, a4, a5, a6⟩ := q_ab h hI hP
  rcases hv with e | e | e
  · rw [show v = 157 from Int32.toInt_inj.mp e]
    refine ⟨x, B, q_sA m2 14 (upd (m2.1 14) 4 B), ?_, ?_, q_R_p a5 B⟩
    · show ((dz_N145_87_65 x 3).bind fun r18 => some (x, r18)) = _
      rw [a1]; rfl
    · show ((dz_M248_64 m (m.1 14 4 + 1)).bind fun r2 => dz_M275_64_43 r2.1 157 r2.2) = _
      rw [a2]; rfl
  · rw [show v = 158 from Int32.toInt_inj.mp e]
    have rf : q_rgz 0 4095 ((m.1 14 4 + 2) &&& 4095) := q_rg_and _ 4095 (by decide) rfl
    generalize hf : (m.1 14 4 + 2) &&& 4095 = f at rf
    have f0 := rf.1
    have f1 := rf.2
    have s8 : f >>> ((8 &&& 31 : Int32)) = f / 256 := by
      apply Int32.toInt_inj.mp
      rw [q_shrI 8 rfl (by decide), q_toInt_div f0 (by decide)]; rfl
    have r8 : q_rgz 0 255 (f / 256) := q_rg_le (q_rg_div (c := 256) (U := 15) rf (by decide) rfl (by decide) (by decide)) (by decide) (by decide)
    have m8 : f &&& 255 = f - f / 256 * 256 := (q_m8z rf).symm
    have rm : q_rgz 0 255 (f &&& 255) := q_rg_and _ 255 (by decide) rfl
    obtain ⟨y1, m3, b1, b2, b3, b4, b5, b6⟩ := q_push a5 a6 (f / 256) r8
    obtain ⟨y2, m4, c1, c2, c3, c4, c5, c6⟩ := q_push b3 b4 (f &&& 255) rm
    refine ⟨y2, B, q_sA m4 14 (upd (m4.1 14) 4 B), ?_, ?_, q_R_p c3 B⟩
    · show ((dz_N145_87_65 x 3).bind fun r19 => (dz_N146_87_65 x (((x.2.1 23 4 + 2) &&& 4095) >>> ((8 &&& 31) : Int32))).bind fun r21 => (dz_N146_87_65 r21 (((r21.2.1 23 4 + 2) &&& 4095) &&& 255)).bind fun r23 => some (r23, r19)) = _
      rw [a1, Option.bind_some, hP, hf, s8, b1, Option.bind_some, b5 4 rfl, hP, hf, c1]; rfl
    · show ((dz_M248_64 m (m.1 14 4 + 1)).bind fun r2 => (dz_M255_64 r2.1 (((m.1 14 4 + 2) &&& 4095) / 256)).bind fun r4 => (dz_M255_64 r4 (((m.1 14 4 + 2) &&& 4095) - ((m.1 14 4 + 2) &&& 4095) / 256 * 256)).bind fun r5 => dz_M275_64_43 r5 158 r2.2) = _
      rw [a2, Option.bind_some, hf, ← m8, b2, Option.bind_some, c2]; rfl
  · rw [show v = 159 from Int32.toInt_inj.mp e]
    have B0 := a3.1
    have B1 := a3.2
    have z1 : (1 : Int32).toInt = 1 := rfl
    have e1 : (B + 1).toInt = B.toInt + 1 := q_addI ⟨by omega, by omega⟩ ⟨by decide, by decide⟩
    have em : (B + 1) - (B + 1) / 256 * 256 = (B + 1) &&& 255 := q_m8z (u := 4096) ⟨by omega, by omega⟩
    have rl := q_rg_and (B + 1) 255 (U := 255) (by decide) rfl
    have l0 := rl.1
    have l1 := rl.2
    have ed : (B / 256).toInt = B.toInt / 256 := q_toInt_div B0 (by decide)
    have eh : (B / 256 * 256).toInt = 256 * (B.toInt / 256) := by
      rw [Int32.mul_comm, q_mulI (n := 256) rfl (by decide) (by decide) ⟨by omega, by omega⟩, ed]
    have ea : ((B / 256) * 256 + ((B + 1) &&& 255)).toInt = 256 * (B.toInt / 256) + ((B + 1) &&& 255).toInt := by
      rw [q_addI ⟨by omega, by omega⟩ ⟨by omega, by omega⟩, eh]
    have ra : q_rgz 0 4095 ((B / 256) * 256 + ((B + 1) &&& 255)) := ⟨by omega, by omega⟩
    obtain ⟨l, m3, b1, b2, b3, b4, b5, b6⟩ := q_byte a5 a6 B
    obtain ⟨g, m4, c1, c2, c3, c4, c5, c6⟩ := q_byte b4 b5 ((B / 256) * 256 + ((B + 1) &&& 255))
    rw [q_a12 a3] at b1
    rw [q_a12 ra] at c1
    refine ⟨x, (l + 256 * g) &&& 4095, q_sA m4 14 (upd (m4.1 14) 4 ((l + 256 * g) &&& 4095)), ?_, ?_, q_R_p c4 _⟩
    · show ((dz_N145_87_65 x 3).bind fun r24 => (dz_N159_87_65 x r24).bind fun r25 => some (x, r25)) = _
      rw [a1, Option.bind_some]
      unfold dz_N159_87_65
      rw [b1, Option.bind_some, c1]; rfl
    · show ((dz_M248_64 m (m.1 14 4 + 1)).bind fun r2 => dz_M275_64_43 r2.1 159 r2.2) = _
      rw [a2, Option.bind_some]
      show ((dz_M247_64 m2 B).bind fun r6 => (dz_M247_64 r6.1 (((B / 256) * 256) + ((B + 1) - (B + 1) / 256 * 256))).bind fun r7 => q_let (dz_M213 r7.1 (r6.2 + (256 * r7.2))) fun r8 => some (q_sA r7.1 14 (upd (r7.1.1 14) 4 r8))) = _
      rw [em, b2, Option.bind_some, c2]; rfl
/-- an operation with its mode -/
theorem q_opm (h : q_R TT x m) (hI : q_Iv c d w m) (hP : x.2.1 23 4 = m.1 14 4) (v op mode r5 : Int32) (ho : q_rgz 0 20 op) (hm : q_rgz 0 7 mode) : ∃ y m2, dz_N142_87_65_142 x v op mode r5 = some (q_sI y 23 4 r5) ∧ dz_M271_64 m op mode (m.1 14 4) = some m2 ∧ q_R TT y m2 := by
  have o0 := ho.1
  have o1 := ho.2
  have m0 := hm.1
  have m1 := hm.2
  have z0 : (0 : Int32).toInt = 0 := rfl
  have ew := (q_opw x m ho).1
  unfold dz_N142_87_65_142 dz_M271_64 q_let
  dsimp only
  rw [q_lt_F (show (0 : Int32).toInt ≤ op.toInt by omega), cond_false, ew]
  by_cases k : mode.toInt = 0
  · rw [q_eq_T (show mode.toInt = (0 : Int32).toInt by omega), q_lt_F (show mode.toInt ≤ (0 : Int32).toInt by omega), cond_true, cond_false, cond_true]
    obtain ⟨u, m2, a1, a2, a3, a4, a5, a6⟩ := q_byte h hI (m.1 14 4 + 1)
    have a1' : dz_N90_65 x (dz_N140_87 x 1) = some u := by
      unfold dz_N140_87
      rw [hP]
      exact a1
    rw [a1', Option.bind_some, a2, Option.bind_some]
    cases hw : dz_M245 m op with
    | true =>
      refine ⟨dz_N152_87 x op u, m, rfl, rfl, ?_⟩
      have : dz_N152_87 x op u = x := by
        rcases (by omega : op.toInt = 0 ∨ op.toInt = 1 ∨ op.toInt = 2 ∨ op.toInt = 3 ∨ op.toInt = 4 ∨ op.toInt = 5 ∨ op.toInt = 6 ∨ op.toInt = 7 ∨ op.toInt = 8 ∨ op.toInt = 9 ∨ op.toInt = 10 ∨ op.toInt = 11 ∨ op.toInt = 12 ∨ op.toInt = 13 ∨ op.toInt = 14 ∨ op.toInt = 15 ∨ op.toInt = 16 ∨ op.toInt = 17 ∨ op.toInt = 18 ∨ op.toInt = 19 ∨ op.toInt = 20) with e | e | e | e | e | e | e | e | e | e | e | e | e | e | e | e | e | e | e | e | e
        · rw [show op = 0 from Int32.toInt_inj.mp e] at hw; cases hw
        · rw [show op = 1 from Int32.toInt_inj.mp e] at hw; cases hw
        · rw [show op = 2 from Int32.toInt_inj.mp e] at hw; cases hw
        · rw [show op = 3 from Int32.toInt_inj.mp e]; rfl
        · rw [show op = 4 from Int32.toInt_inj.mp e]; rfl
        · rw [show op = 5 from Int32.toInt_inj.mp e]; rfl
        · rw [show op = 6 from Int32.toInt_inj.mp e] at hw; cases hw
        · rw [show op = 7 from Int32.toInt_inj.mp e] at hw; cases hw
        · rw [show op = 8 from Int32.toInt_inj.mp e] at hw; cases hw
        · rw [show op = 9 from Int32.toInt_inj.mp e] at hw; cases hw
        · rw [show op = 10 from Int32.toInt_inj.mp e] at hw; cases hw
        · rw [show op = 11 from Int32.toInt_inj.mp e] at hw; cases hw
        · rw [show op = 12 from Int32.toInt_inj.mp e] at hw; cases hw
        · rw [show op = 13 from Int32.toInt_inj.mp e] at hw; cases hw
        · rw [show op = 14 from Int32.toInt_inj.mp e]; rfl
        · rw [show op = 15 from Int32.toInt_inj.mp e]; rfl
        · rw [show op = 16 from Int32.toInt_inj.mp e] at hw; cases hw
        · rw [show op = 17 from Int32.toInt_inj.mp e]; rfl
        · rw [show op = 18 from Int32.toInt_inj.mp e]; rfl
        · rw [show op = 19 from Int32.toInt_inj.mp e]; rfl
        · rw [show op = 20 from Int32.toInt_inj.mp e] at hw; cases hw
      rw [this]; exact h
    | false =>
      obtain ⟨m3, b1, b2, b3⟩ := q_ops a4 a5 op u ho hw a6
      exact ⟨_, m3, rfl, by rw [cond_false, b1]; rfl, b2⟩
  · rw [q_eq_F (show ¬ mode.toInt = (0 : Int32).toInt by omega), q_lt_T (show (0 : Int32).toInt < mode.toInt by omega), cond_false, cond_true, cond_false]
    obtain ⟨B, m2, m3, a1, a2, a3, a4, a5, a6, a7, a8, a9, a10⟩ := q_addr h hI hP mode ⟨by omega, by omega⟩
    have e144 : dz_N144_87_65 x mode = some ((B + dz_N143_87 x mode) &&& 4095) := by
      unfold dz_N144_87_65
      rw [a1]; rfl
    rw [e144, a7, Option.bind_some, Option.bind_some, Option.bind_some, Option.bind_some]
    have rB := q_rg_and (B + dz_N143_87 x mode) 4095 (U := 4095) (by decide) rfl
    dsimp only
    generalize (B + dz_N143_87 x mode) &&& 4095 = B2 at *
    cases hw : dz_M245 m op with
    | true =>
      obtain ⟨y, m4, b1, b2, b3, b4⟩ := q_chg a9 a10 op B2 ho hw rB
      exact ⟨y, m4, by rw [cond_true, b1]; rfl, by rw [cond_true, b2]; rfl, b3⟩
    | false =>
      obtain ⟨y, u, m4, b1, b2, b3, b4, b5, b6⟩ := q_load a9 a10 B2 rB
      obtain ⟨m5, c1, c2, c3⟩ := q_ops b3 b4 op u ho hw b5
      exact ⟨_, m5, by rw [cond_false, b1]; rfl, by rw [cond_false, b2, Option.bind_some, c1]; rfl, c2⟩
end
end
section
-- 54.e
section
variable {TT : (Nat → Int32) → Int32 → (Nat → Int32) → Int32 → Int64 → Int64 → List Int32 → List (Nat → Int32) → (Nat → Int64) → Prop} {x y z m : q_S} {c d w : Int}
/-- an instruction, as the class carries it out behind the trace -/
def q_nx (s : q_S) (p f : Int32) : Option q_S := (dz_N90_65 s p).bind fun r2 => q_let (dz_N186 s r2) fun r3 => q_let (dz_N190 s r2) fun r4 => q_let (dz_N140_87 s r4) fun r5 => cond (decide (r2 = 154)) ((dz_N148_87_65 s r5 ((f ||| 32) ||| 16) 3838).bind fun r6 => some r6) (cond (decide (r3 < 0)) (cond (decide (r2 < 154)) ((dz_N157_87_65 s r2).bind fun r7 => some (q_sI r7 23 4 r5)) (dz_N142_87_65_142 s r2 r3 (r2 &&& 7) r5)) (dz_N142_87_65_142 s r2 r3 (r2 &&& 7) r5))
theorem q_276 (s : q_S) (p v : Int32) {s1 : q_S} (e : dz_M247_64 s p = some (s1, v)) : dz_M276_64 s p = q_let (dz_M244 s1 v) fun r3 => cond (decide (r3 < 0)) (cond (decide (v = 154)) (q_let (dz_M213 s1 (p + 1)) fun r4 => (dz_M260_64 s1 3838 r4 16).bind fun r5 => dz_M276_64_194 r5 p) (cond (decide (v = 155)) ((dz_M256_64 s1).bind fun r6 => q_let (dz_M259_64 r6.1 r6.2) fun r7 => (dz_M274_64 r7 0).bind fun r8 => dz_M276_64_194 (q_sA r8.1 14 (upd (r8.1.1 14) 4 r8.2)) p) (cond (decide (v = 156)) ((dz_M274_64 s1 1).bind fun r9 => dz_M276_64_194 (q_sA r9.1 14 (upd (r9.1.1 14) 4 r9.2)) p) (q_let (dz_M202 s1 v 157 159) fun r10 => cond r10 ((dz_M275_64 s1 v p).bind fun r11 => dz_M276_64_194 r11 p) (q_let (dz_M202 s1 v 160 167) fun r12 => cond r12 (q_let (dz_M252_64 s1 v) fun r13 => cond r13 ((dz_M253_64 s1 p).bind fun r14 => dz_M276_64_194 (q_sA r14.1 14 (upd (r14.1.1 14) 4 r14.2)) p) (q_let (dz_M213 s1 (p + 2)) fun r15 => dz_M276_64_194 (q_sA s1 14 (upd (s1.1 14) 4 r15)) p)) ((dz_M273_64 s1 v p).bind fun r16 => dz_M276_64_194 r16 p)))))) (q_let (dz_M246 s1 v) fun r17 => (dz_M271_64 s1 r3 (v - v / 8 * 8) p).bind fun r18 => q_let (dz_M213 r18 (p + r17)) fun r19 => dz_M276_64_194 (q_sA r18 14 (upd (r18.1 14) 4 r19)) p) := by
  unfold dz_M276_64
  rw [e]; rfl
theorem q_ins (h : q_R TT x m) (hI : q_Iv c d w m) (hJ : x.2.1 23 7 = 0) (hL : x.2.1 23 9 = 0) : ∃ y m2, q_nx x (x.2.1 23 4) (x.2.1 23 5) = some y ∧ dz_M276_64 m (m.1 14 4) = dz_M276_64_194 m2 (m.1 14 4) ∧ q_R TT y m2 := by
  have hP := h.r6.2.1 hJ
  have rP : q_rgz 0 4095 (m.1 14 4) := hI.1 14 4
  obtain ⟨v, m1, a1, a2, a3, a4, a5, a6⟩ := q_byte h hI (m.1 14 4)
  rw [q_a12 rP] at a1
  have P1 : x.2.1 23 4 = m1.1 14 4 := by rw [a3.1 14 rfl]; exact hP
  have E1 : m1.1 14 4 = m.1 14 4 := by rw [a3.1 14 rfl]
  obtain ⟨t1, t2, t3, t4, t5, t6⟩ := q_code x m1 a6
  obtain ⟨l1, l2, l3⟩ := q_len m1 a6
  have v0 := a6.1
  have v1 := a6.2
  have k154 : (154 : Int32).toInt = 154 := rfl
  have k155 : (155 : Int32).toInt = 155 := rfl
  have k156 : (156 : Int32).toInt = 156 := rfl
  have k157 : (157 : Int32).toInt = 157 := rfl
  have k159 : (159 : Int32).toInt = 159 := rfl
  have k160 : (160 : Int32).toInt = 160 := rfl
  have k167 : (167 : Int32).toInt = 167 := rfl
  have z0 : (0 : Int32).toInt = 0 := rfl
  have e8 := q_m7z a6
  rw [q_276 m (m.1 14 4) v a2]
  unfold q_nx dz_N140_87
  rw [hP, a1, Option.bind_some]
  unfold q_let
  dsimp only
  rw [t1, t2]
  cases ho : decide (dz_M244 m1 v < 0) with
  | false =>
    have ro := t6 ho
    have ro0 := ro.1
    have nv : ¬ v.toInt = 154 := fun q => by
      rw [show v = 154 from Int32.toInt_inj.mp q] at ho
      cases ho
    rw [q_eq_F (show ¬ v.toInt = (154 : Int32).toInt by omega), cond_false, cond_false, cond_false]
    have rm := q_rg_and v 7 (U := 7) (by decide) rfl
    obtain ⟨y, m2, b1, b2, b3⟩ := q_opm a4 a5 P1 v (dz_M244 m1 v) (v &&& 7) ((m.1 14 4 + dz_M246 m1 v) &&& 4095) ro rm
    rw [E1] at b2
    exact ⟨_, _, b1, by rw [e8, b2]; rfl, q_R_p b3 _⟩
  | true =>
    have v128 := l1 ho
    rw [cond_true, cond_true]
    by_cases k : v.toInt < 154
    · rw [q_eq_F (show ¬ v.toInt = (154 : Int32).toInt by omega), q_lt_T (show v.toInt < (154 : Int32).toInt by omega), l2 v128 (by omega), cond_false, cond_true, cond_false, q_eq_F (show ¬ v.toInt = (155 : Int32).toInt by omega), cond_false, q_eq_F (show ¬ v.toInt = (156 : Int32).toInt by omega), cond_false, q_202F (v := v) (Or.inl (by omega)), cond_false, q_202F (v := v) (Or.inl (by omega)), cond_false]
      obtain ⟨y, m2, b1, b2, b3⟩ := q_cod a4 a5 (m.1 14 4) v ⟨v128, by omega⟩
      exact ⟨_, _, by rw [b1]; rfl, by rw [b2]; rfl, q_R_p b3 _⟩
    by_cases k4 : v.toInt = 154
    · rw [q_eq_T (show v.toInt = (154 : Int32).toInt by omega), cond_true, cond_true, l2 v128 (by omega)]
      obtain ⟨y, m2, b1, b2, b3, b4⟩ := q_int a4 a5 ((m.1 14 4 + 1) &&& 4095) 3838 true (q_rg_and _ 4095 (by decide) rfl)
      have b1' : dz_N148_87_65 x ((m.1 14 4 + 1) &&& 4095) ((x.2.1 23 5 ||| 32) ||| 16) 3838 = some y := b1
      have b2' : dz_M260_64 m1 3838 (dz_M213 m1 (m.1 14 4 + 1)) 16 = some m2 := b2
      exact ⟨y, m2, by rw [b1']; rfl, by rw [b2']; rfl, b3⟩
    rw [q_eq_F (show ¬ v.toInt = (154 : Int32).toInt by omega), cond_false, cond_false, q_lt_F (show (154 : Int32).toInt ≤ v.toInt by omega), cond_false]
    unfold dz_N142_87_65_142
    rw [ho, cond_true]
    by_cases k5 : v.toInt = 155
    · rw [show v = 155 from Int32.toInt_inj.mp k5]
      obtain ⟨y1, u, m2, b1, b2, b3, b4, b5, b6, b7⟩ := q_pull a4 a5
      obtain ⟨A', X', Y', S', C', Z', I', D', V', N', q', -⟩ := q_cpu_of b3 b4
      have r1 := q_plp q' b7 b3
      have i1 := dzj_M259_64 c d w m2 b4 u
      obtain ⟨y2, q, m3, c1, c2, c3, c4, c5⟩ := q_ret r1 i1 0 (Or.inl rfl)
      rw [Int32.add_zero, q_a12 c5] at c2
      refine ⟨q_sI y2 23 4 q, q_sA m3 14 (upd (m3.1 14) 4 q), ?_, ?_, q_R_p c3 q⟩
      · show ((some ((dz_N160_87_65 (q_sI (dz_N147_87_65 x).1 23 5 ((dz_N147_87_65 x).2 &&& 207))).1, (dz_N160_87_65 (q_sI (dz_N147_87_65 x).1 23 5 ((dz_N147_87_65 x).2 &&& 207))).2)).bind fun r8 => some (q_sI r8.1 23 4 r8.2)) = _
        rw [b1]
        dsimp only
        rw [c1]; rfl
      · show ((dz_M256_64 m1).bind fun r6 => (dz_M274_64 (dz_M259_64 r6.1 r6.2) 0).bind fun r8 => dz_M276_64_194 (q_sA r8.1 14 (upd (r8.1.1 14) 4 r8.2)) (m.1 14 4)) = _
        rw [b2, Option.bind_some, c2]; rfl
    by_cases k6 : v.toInt = 156
    · rw [show v = 156 from Int32.toInt_inj.mp k6]
      obtain ⟨y2, q, m3, c1, c2, c3, c4, c5⟩ := q_ret a4 a5 1 (Or.inr rfl)
      refine ⟨q_sI y2 23 4 ((q + 1) &&& 4095), q_sA m3 14 (upd (m3.1 14) 4 ((q + 1) &&& 4095)), ?_, ?_, q_R_p c3 _⟩
      · show ((some ((dz_N160_87_65 x).1, (((dz_N160_87_65 x).2 + 1) &&& 4095))).bind fun r8 => some (q_sI r8.1 23 4 r8.2)) = _
        rw [c1]; rfl
      · show ((dz_M274_64 m1 1).bind fun r9 => dz_M276_64_194 (q_sA r9.1 14 (upd (r9.1.1 14) 4 r9.2)) (m.1 14 4)) = _
        rw [c2]; rfl
    rw [q_eq_F (show ¬ v.toInt = (155 : Int32).toInt by omega), q_eq_F (show ¬ v.toInt = (156 : Int32).toInt by omega), cond_false, cond_false]
    by_cases k9 : v.toInt ≤ 159
    · rw [q_202T (v := v) (lo := 157) (hi := 159) (by omega) (by omega), cond_true]
      obtain ⟨y, q, m2, b1, b2, b3⟩ := q_jump a4 a5 P1 v ((m.1 14 4 + dz_M246 m1 v) &&& 4095) (by omega)
      rw [E1] at b2
      exact ⟨_, m2, by rw [b1]; rfl, by rw [b2]; rfl, b3⟩
    rw [q_202F (v := v) (lo := 157) (hi := 159) (Or.inr (by omega)), cond_false]
    unfold dz_N158_87_65 q_let
    dsimp only
    rw [q_lt_F (show (155 : Int32).toInt ≤ v.toInt by omega), cond_false, q_lt_T (show (159 : Int32).toInt < v.toInt by show 159 < v.toInt; omega), cond_true, t3]
    by_cases kb : v.toInt ≤ 167
    · rw [q_202T (v := v) (lo := 160) (hi := 167) (by omega) (by omega), cond_true, cond_true, q_taken a4 a5 ⟨by omega, by omega⟩]
      cases dz_M252_64 m1 v with
      | false =>
        rw [l3 (by omega) (by omega)]
        exact ⟨_, _, rfl, rfl, q_R_p a4 _⟩
      | true =>
        obtain ⟨u, m2, b1, b2, b3, b4, b5⟩ := q_targ a4 a5 P1
        rw [E1] at b2
        rw [cond_true, cond_true, b1, b2]
        exact ⟨_, _, rfl, rfl, q_R_p b4 _⟩
    · rw [q_202F (v := v) (lo := 160) (hi := 167) (Or.inr (by omega)), cond_false, cond_false]
      refine ⟨_, q_sA (q_sA m1 15 (upd (m1.1 15) 7 (vp_nar .boolean 1))) 14 (upd (m1.1 14) 4 ((m.1 14 4 + 1) &&& 4095)), rfl, ?_, q_jam a4 hL _ _⟩
      unfold dz_M273_64
      rw [q_lt_F (show (128 : Int32).toInt ≤ v.toInt by show 128 ≤ v.toInt; omega), cond_false, q_lt_T (show (153 : Int32).toInt < v.toInt by show 153 < v.toInt; omega), cond_true]
      rfl
end
end
section
-- 54.f
section
variable {TT TT2 : (Nat → Int32) → Int32 → (Nat → Int32) → Int32 → Int64 → Int64 → List Int32 → List (Nat → Int32) → (Nat → Int64) → Prop} {x y z m : q_S} {c d w : Int} {K : Int64} {F : List Int32} {W : List (Nat → Int32)} {Q : Nat → Int64}
/-- the traces -/
def q_TT0 (K : Int64) (F : List Int32) (W : List (Nat → Int32)) (Q : Nat → Int64) (f : Nat → Int32) (n : Int32) (g : Nat → Int32) (k : Int32) (a b : Int64) (F2 : List Int32) (W2 : List (Nat → Int32)) (Q2 : Nat → Int64) : Prop := (∀ j, j < 16 → f j = g j) ∧ n = k ∧ a + K = b ∧ F2 = F ∧ W2 = W ∧ Q2 = Q
theorem q_R_dn (h : q_R TT x m) : q_R TT (q_sI x 23 10 (x.2.1 23 10 + 1)) (q_sA m 14 (upd (m.1 14) 19 (m.1 14 19 + 1))) := by
  obtain ⟨h1, h2, h3, h4, h5, ⟨p1, p2, p3, p4, p5, p6, p7, p8, p9, p10, p11⟩, h7, h8⟩ := h
  refine ⟨h1, h2, h3, h4, h5, ⟨p1, p2, p3, p4, p5, p6, ?_, p8, p9, p10, p11⟩, h7, h8⟩
  show x.2.1 23 10 + 1 = m.1 14 19 + 1
  rw [p7]
theorem q_R_cx (h : q_R TT x m) (f : Nat → Int32) (n : Int32) (t : TT2 f n (m.1 9) (m.1 14 20) (x.2.2 0 4) (m.2.2 0 16) [m.2.1 0 17, m.2.1 0 34, m.2.1 0 35, m.2.1 0 39] [m.1 16, m.1 17, m.1 18, m.1 19, m.1 20, m.1 21, m.1 22, m.1 23, m.1 24, m.1 25, m.1 26, m.1 27, m.1 28, m.1 29, m.1 30, m.1 31, m.1 32] (m.2.2 31)) : q_R TT2 (q_sI (q_sA x 24 f) 23 11 n) m := by
  obtain ⟨h1, h2, h3, h4, h5, ⟨p1, p2, p3, p4, p5, p6, p7, p8, p9, p10, p11⟩, h7, h8⟩ := h
  exact ⟨h1, h2, h3, h4, h5, ⟨p1, p2, p3, p4, p5, p6, p7, p8, t, p10, p11⟩, h7, h8⟩
theorem q_R_cm (h : q_R TT x m) (g : Nat → Int32) (k : Int32) (t : TT2 (x.1 24) (x.2.1 23 11) g k (x.2.2 0 4) (m.2.2 0 16) [m.2.1 0 17, m.2.1 0 34, m.2.1 0 35, m.2.1 0 39] [m.1 16, m.1 17, m.1 18, m.1 19, m.1 20, m.1 21, m.1 22, m.1 23, m.1 24, m.1 25, m.1 26, m.1 27, m.1 28, m.1 29, m.1 30, m.1 31, m.1 32] (m.2.2 31)) : q_R TT2 x (q_sA (q_sA m 9 g) 14 (upd (m.1 14) 20 k)) := by
  obtain ⟨h1, h2, h3, h4, h5, ⟨p1, p2, p3, p4, p5, p6, p7, p8, p9, p10, p11⟩, h7, h8⟩ := h
  exact ⟨h1, h2, h3, h4, h5, ⟨p1, p2, p3, p4, p5, p6, p7, p8, t, p10, p11⟩, h7, h8⟩
theorem q_R_t (h : q_R TT x m) : TT (x.1 24) (x.2.1 23 11) (m.1 9) (m.1 14 20) (x.2.2 0 4) (m.2.2 0 16) [m.2.1 0 17, m.2.1 0 34, m.2.1 0 35, m.2.1 0 39] [m.1 16, m.1 17, m.1 18, m.1 19, m.1 20, m.1 21, m.1 22, m.1 23, m.1 24, m.1 25, m.1 26, m.1 27, m.1 28, m.1 29, m.1 30, m.1 31, m.1 32] (m.2.2 31) := h.r6.2.2.2.2.2.2.2.2.1
/-- the last cycle of an instruction or of an interrupt -/
theorem q_fnsh (h : q_R (q_TT0 K F W Q) x m) (hI : q_Iv c d w m) (hd : c ≤ 1000000 ∧ d ≤ 1000000) (hJ : x.2.1 23 7 = 0) (hL : x.2.1 23 9 = 0) : ∃ y m2, dz_N142_87_65 x = some y ∧ (cond (decide (0 < m.1 14 18)) ((dz_M260_64 (q_sA m 14 (upd (m.1 14) 19 (m.1 14 19 + 1))) (m.1 14 18) (m.1 14 4) 0).bind fun r4 => some r4) ((dz_M276_64 (q_sA m 14 (upd (m.1 14) 19 (m.1 14 19 + 1))) (m.1 14 4)).bind fun r5 => some r5)) = some m2 ∧ q_R (q_TT0 K F W Q) y m2 := by
  have hP := h.r6.2.1 hJ
  have z0 : (0 : Int32).toInt = 0 := rfl
  have rV : q_rgz 0 4095 (m.1 14 18) := hI.1 14 18
  have rV0 := rV.1
  have rP : q_rgz 0 4095 (m.1 14 4) := hI.1 14 4
  have eV : x.2.1 23 8 = m.1 14 18 := h.r6.2.2.2.2.1
  have R1 := q_R_dn h
  have r19 : q_rgz (q_la 14 19) (q_ha d 14 19) (m.1 14 19 + 1) := q_rg_full _
  have I1 : q_Iv c d w (q_sA m 14 (upd (m.1 14) 19 (m.1 14 19 + 1))) := q_Iv_n hI 19 _ r19
  unfold dz_N142_87_65
  rw [eV]
  by_cases k : (m.1 14 18).toInt = 0
  · rw [q_eq_T (show (m.1 14 18).toInt = (0 : Int32).toInt by omega), q_lt_F (show (m.1 14 18).toInt ≤ (0 : Int32).toInt by omega), cond_true, cond_false]
    have t := q_R_t h
    obtain ⟨t1, t2, t3⟩ := t
    have rk0 : 0 ≤ (m.1 14 20).toInt := (hI.1 14 20).1
    have e16 : (m.1 14 20) &&& 15 = (m.1 14 20) - (m.1 14 20) / 16 * 16 := by
      have hb := Int32.toInt_lt (m.1 14 20)
      apply Int32.toInt_inj.mp
      rw [q_rem_eq rk0 (by decide), q_andI 4 (by decide) (l := 0) (u := 2147483647) ⟨rk0, by omega⟩ (by decide) (show (15 : Int32).toInt = 2 ^ 4 - 1 from rfl)]
      rfl
    have R2 := q_R_cx (TT2 := fun f n g k a b F2 W2 Q2 => q_TT0 K F W Q f n (upd g ((k - k / 16 * 16).toNatClampNeg) (m.1 14 4)) (k + 1) a b F2 W2 Q2) R1 (upd (x.1 24) (((x.2.1 23 11) &&& 15).toNatClampNeg) (x.2.1 23 4)) (x.2.1 23 11 + 1) (by
      refine ⟨fun j hj => ?_, ?_, t3⟩
      · show upd (x.1 24) (((x.2.1 23 11) &&& 15).toNatClampNeg) (x.2.1 23 4) j = upd (m.1 9) (((m.1 14 20) - (m.1 14 20) / 16 * 16).toNatClampNeg) (m.1 14 4) j
        rw [t2, e16, hP]
        by_cases q : j = ((m.1 14 20) - (m.1 14 20) / 16 * 16).toNatClampNeg
        · rw [q_upE _ _ q, q_upE _ _ q]
        · rw [q_upN _ _ q, q_upN _ _ q]; exact t1 j hj
      · show x.2.1 23 11 + 1 = m.1 14 20 + 1
        rw [t2])
    obtain ⟨y, m2, a1, a2, a3⟩ := q_ins R2 I1 hJ hL
    obtain ⟨m9, e9, -⟩ := dzj_M276_64 c d w _ I1 (m.1 14 4) hd
    have a2' : dz_M276_64 (q_sA m 14 (upd (m.1 14) 19 (m.1 14 19 + 1))) (m.1 14 4) = dz_M276_64_194 m2 (m.1 14 4) := a2
    refine ⟨y, m9, a1, by rw [e9]; rfl, ?_⟩
    rw [a2'] at e9
    unfold dz_M276_64_194 at e9
    cases hq : q_in (((m2.1 14) 20) - ((m2.1 14) 20) / 16 * 16) 16 with
    | false => rw [hq] at e9; cases e9
    | true =>
      rw [hq, cond_true] at e9
      cases e9
      exact q_R_cm a3 _ _ (q_R_t a3)
  · rw [q_eq_F (show ¬ (m.1 14 18).toInt = (0 : Int32).toInt by omega), q_lt_T (show (0 : Int32).toInt < (m.1 14 18).toInt by omega), cond_false, cond_true]
    obtain ⟨y, m2, b1, b2, b3, b4⟩ := q_int R1 I1 (m.1 14 4) (m.1 14 18) false rP
    have b1' : dz_N148_87_65 (q_sI x 23 10 (x.2.1 23 10 + 1)) (x.2.1 23 4) (x.2.1 23 5 ||| 32) (m.1 14 18) = some y := by rw [hP]; exact b1
    have b2' : dz_M260_64 (q_sA m 14 (upd (m.1 14) 19 (m.1 14 19 + 1))) (m.1 14 18) (m.1 14 4) 0 = some m2 := b2
    exact ⟨y, m2, by rw [b1']; rfl, by rw [b2']; rfl, b3⟩
end
end
section
-- 54.g
section
variable {TT TT2 : (Nat → Int32) → Int32 → (Nat → Int32) → Int32 → Int64 → Int64 → List Int32 → List (Nat → Int32) → (Nat → Int64) → Prop} {x y z m : q_S} {c d w : Int} {K : Int64} {F : List Int32} {W : List (Nat → Int32)} {Q : Nat → Int64}
/-- the processor's part of a cycle -/
def q_cx (x : q_S) : Option q_S := (cond (decide (x.2.1 23 9 = 0)) (dz_N136_87_65 x) (some x)).bind fun r => q_let (dz_N141_87 r) fun r4 => cond r4.2 (dz_N142_87_65 r4.1) (some r4.1)
theorem q_prc (h : q_R (q_TT0 K F W Q) x m) (hI : q_Iv c d w m) (hd : c ≤ 1000000 ∧ d ≤ 1000000) (hJ : x.2.1 23 7 = 0) (h1 : 1 ≤ (x.2.1 23 9).toInt) : ∃ y m2, (q_let (dz_N141_87 x) fun r4 => cond r4.2 (dz_N142_87_65 r4.1) (some r4.1)) = some y ∧ dz_M278_64_25 m = some m2 ∧ q_R (q_TT0 K F W Q) y m2 := by
  have eL : x.2.1 23 9 = m.1 14 17 := h.r6.2.2.2.2.2.1
  have z0 : (0 : Int32).toInt = 0 := rfl
  have r9 := h.r6.2.2.2.2.2.2.2.2.2.2.2
  have r91 := r9.2
  have e1 : ((x.2.1 23 9) - 1).toInt = (x.2.1 23 9).toInt - 1 := q_subI ⟨by omega, by omega⟩ ⟨by decide, by decide⟩
  have R1 := q_R_left h hJ ((x.2.1 23 9) - 1) ⟨by omega, by omega⟩
  have I1 : q_Iv c d w (q_sA m 14 (upd (m.1 14) 17 ((x.2.1 23 9) - 1))) := q_Iv_n hI 17 _ (q_rg_full _)
  unfold dz_N141_87 dz_M278_64_25
  rw [q_upE (m.1 14) _ (rfl : 17 = 17), ← eL, q_eq_F (show ¬ (x.2.1 23 9).toInt = (0 : Int32).toInt by omega), cond_false]
  by_cases k : (x.2.1 23 9).toInt = 1
  · rw [q_eq_T (show ((x.2.1 23 9) - 1).toInt = (0 : Int32).toInt by omega), q_lt_F (show ((x.2.1 23 9) - 1).toInt ≤ (0 : Int32).toInt by omega), cond_true, cond_false]
    obtain ⟨y, m2, b1, b2, b3⟩ := q_fnsh R1 I1 hd hJ (by show (x.2.1 23 9) - 1 = 0; exact Int32.toInt_inj.mp (by omega))
    exact ⟨y, m2, b1, b2, b3⟩
  · rw [q_eq_F (show ¬ ((x.2.1 23 9) - 1).toInt = (0 : Int32).toInt by omega), q_lt_T (show (0 : Int32).toInt < ((x.2.1 23 9) - 1).toInt by omega), cond_true, cond_false]
    exact ⟨_, _, rfl, rfl, R1⟩
theorem q_proc (h : q_R (q_TT0 K F W Q) x m) (hI : q_Iv c d w m) (hd : c ≤ 1000000 ∧ d ≤ 1000000) : ∃ y m2, q_cx x = some y ∧ dz_M278_64 m = some m2 ∧ q_R (q_TT0 K F W Q) y m2 ∧ q_Iv c (d + 1) w m2 := by
  obtain ⟨m9, e9, i9⟩ := dzj_M278_64 c d w m hI hd
  suffices H : ∃ y m2, q_cx x = some y ∧ dz_M278_64 m = some m2 ∧ q_R (q_TT0 K F W Q) y m2 by
    obtain ⟨y, m2, a1, a2, a3⟩ := H
    rw [e9] at a2
    cases a2
    exact ⟨y, m9, a1, e9, a3, i9⟩
  have eJ : x.2.1 23 7 = m.1 15 7 := h.r6.2.2.2.1
  have eL : x.2.1 23 9 = m.1 14 17 := h.r6.2.2.2.2.2.1
  have z0 : (0 : Int32).toInt = 0 := rfl
  obtain ⟨rj, r9⟩ := h.r6.2.2.2.2.2.2.2.2.2.2
  unfold q_cx dz_M278_64
  rw [← eJ, ← eL]
  by_cases J : x.2.1 23 7 = 0
  · rw [decide_eq_true J, cond_true]
    by_cases L : x.2.1 23 9 = 0
    · rw [decide_eq_true L, cond_true, cond_true]
      obtain ⟨y1, m1, a1, a2, a3, a4, a5, a6⟩ := q_beg h hI J
      obtain ⟨y, m2, b1, b2, b3⟩ := q_prc a3 a4 hd a5 (by have := a6.1; omega)
      exact ⟨y, m2, by rw [a1]; exact b1, by rw [a2]; exact b2, b3⟩
    · rw [decide_eq_false L, cond_false, cond_false]
      have l0 := r9.1
      have : ¬ (x.2.1 23 9).toInt = 0 := fun q => L (Int32.toInt_inj.mp q)
      obtain ⟨y, m2, b1, b2, b3⟩ := q_prc h hI hd J (by omega)
      exact ⟨y, m2, b1, b2, b3⟩
  · rw [decide_eq_false J, cond_false]
    have L : x.2.1 23 9 = 0 := rj.resolve_left J
    refine ⟨x, m, ?_, rfl, h⟩
    have e136 : dz_N136_87_65 x = some x := by
      unfold dz_N136_87_65
      rw [decide_eq_false J]
      cases decide (((x.1 4) 10) &&& ((x.1 4) 11) = 0) <;> rfl
    rw [decide_eq_true L, cond_true, e136, Option.bind_some]
    unfold dz_N141_87
    rw [decide_eq_true L]
    rfl
theorem q_R_tm (h : q_R (q_TT0 K F W Q) x m) (k : Int64) : q_R (q_TT0 (K + k) F W Q) (q_sJ x 1 8 ((x.2.2 1 8) + 1)) (q_sJ (q_sJ m 0 16 ((m.2.2 0 16) + k)) 0 15 ((m.2.2 0 15) + 1)) := by
  obtain ⟨h1, h2, h3, h4, h5, ⟨p1, p2, p3, p4, p5, p6, p7, p8, p9, p10, p11⟩, h7, h8⟩ := h
  refine ⟨h1, h2, h3, h4, h5, ⟨p1, p2, p3, p4, p5, p6, p7, p8, ⟨p9.1, p9.2.1, ?_, p9.2.2.2⟩, p10, p11⟩, h7, ⟨h8.1, ?_⟩⟩
  · show x.2.2 0 4 + (K + k) = m.2.2 0 16 + k
    rw [← p9.2.2.1, Int64.add_assoc]
  · show (x.2.2 1 8) + 1 = (m.2.2 0 15) + 1
    rw [h8.2]
theorem q_NF_t (h : q_NF x y) (g : q_NF y z) : q_NF x z := ⟨fun i hi => (g.1 i hi).trans (h.1 i hi), fun i hi => (g.2.1 i hi).trans (h.2.1 i hi), g.2.2.trans h.2.2⟩
theorem q_127_77 (x : q_S) : q_NF x (dz_N127_77_66 x) := q_NF_t (q_NF_t (q_NF_t (q_NF_A 15 _ rfl) (q_NF_A 16 _ rfl)) (q_NF_I 13 2 _ rfl)) (q_NF_I 13 3 _ rfl)
theorem q_127_82 (x : q_S) : q_NF x (dz_N127_82_66 x) := q_NF_t (q_NF_t (q_NF_t (q_NF_A 20 _ rfl) (q_NF_A 21 _ rfl)) (q_NF_I 18 2 _ rfl)) (q_NF_I 18 3 _ rfl)
/-- the end of a cycle -/
def q_kb (b : Bool) : Int64 := cond b 1 0
theorem q_tme (h : q_R (q_TT0 K F W Q) x m) (hI : q_Iv c d w m) (hd : c ≤ 1000000 ∧ d ≤ 1000001) (b : Bool) : ∃ m2, dz_M235_64_117 m (q_b b) = some (m2, b) ∧ q_R (q_TT0 (K + q_kb b) F W Q) (dz_N107_65 x) m2 ∧ q_Iv (c + 1) d w m2 := by
  obtain ⟨⟨m9, b9⟩, e9, i9⟩ := dzj_M235_64_117 c d w m hI (q_b b) (by cases b <;> exact ⟨by decide, by decide⟩) hd
  have e : dz_M235_64_117 m (q_b b) = some (q_sJ (q_sJ m 0 16 ((m.2.2 0 16) + q_kb b)) 0 15 ((m.2.2 0 15) + 1), b) := by
    cases b <;> rfl
  rw [e] at e9
  cases e9
  refine ⟨_, e, ?_, i9⟩
  have R1 := q_R_tm h (q_kb b)
  unfold dz_N107_65
  cases decide (lg_cmp (((x.2.2 1 8) + 1) - ((x.2.2 1 8) + 1) / 960 * 960) 0 = 0) with
  | false => exact R1
  | true =>
    rw [cond_true]
    cases decide (lg_cmp ((((x.2.2 1 8) + 1) / 960) - (((x.2.2 1 8) + 1) / 960) / 2 * 2) 0 = 0) with
    | true => exact q_R_NF R1 (q_127_77 _)
    | false => exact q_R_NF R1 (q_127_82 _)
/-- a cycle of the class -/
def q_cyw (x : q_S) : Option (q_S × Bool) := (dz_N83_64 x).bind fun r1 => cond r1.2 (some (dz_N107_65 r1.1, true)) ((q_cx r1.1).bind fun r => some (dz_N107_65 r, false))
theorem q_cycle (h : q_R (q_TT0 K F W Q) x m) (hI : q_Iv c d w m) (hd : c ≤ 1000000 ∧ d ≤ 1000000) : ∃ y m2 b, q_cyw x = some (y, b) ∧ dz_M235_64 m = some (m2, b) ∧ q_R (q_TT0 (K + q_kb b) F W Q) y m2 ∧ q_Iv (c + 1) (d + 1) w m2 := by
  obtain ⟨y, m2, b, a1, a2, a3, a4, -, -⟩ := q_pass h hI
  rw [a2]
  unfold q_cyw
  rw [a1, Option.bind_some]
  cases b with
  | true =>
    obtain ⟨m3, b1, b2, b3⟩ := q_tme a3 a4 (by omega) true
    exact ⟨_, m3, true, rfl, b1, b2, q_Iv_mono b3 (by omega) (by omega) (by omega)⟩
  | false =>
    obtain ⟨y2, m3, b1, b2, b3, b4⟩ := q_proc a3 a4 hd
    obtain ⟨m4, c1, c2, c3⟩ := q_tme b3 b4 (by omega) false
    refine ⟨_, m4, false, by dsimp only; rw [cond_false, b1]; rfl, ?_, c2, c3⟩
    show ((dz_M278_64 m2).bind fun r13 => dz_M235_64_117 r13 0) = _
    rw [b2]
    exact c1
theorem q_35f (k : q_S → Int32 → Int32 → Int32 → Int32 → Int32 → Option (q_S × Int32)) (x : q_S) (v1 v2 v3 v4 v5 : Int32) : dz_N82_64_f_35 k x v1 v2 v3 v4 v5 = (q_cyw x).bind fun r => k r.1 v1 v2 v3 (v4 + 1) (cond r.2 (v5 + 1) v5) := by
  have e69 : ∀ s, dz_N82_64_f_69 k s v1 v2 v3 v4 v5 = (q_let (dz_N141_87 s) fun r4 => cond r4.2 (dz_N142_87_65 r4.1) (some r4.1)).bind fun r => k (dz_N107_65 r) v1 v2 v3 (v4 + 1) v5 := fun s => by
    unfold dz_N82_64_f_69 q_let
    dsimp only
    cases (dz_N141_87 s).2 with
    | true =>
      rw [cond_true, cond_true]
    | false =>
      rw [cond_false, cond_false]; rfl
  unfold dz_N82_64_f_35 q_cyw q_cx q_let
  dsimp only
  cases h1 : dz_N83_64 x with
  | none => rfl
  | some r1 =>
    rw [Option.bind_some, Option.bind_some]
    cases h2 : r1.2 with
    | true => rw [cond_true, cond_true]; rfl
    | false =>
      rw [cond_false, cond_false]
      cases h3 : decide (r1.1.2.1 23 9 = 0) with
      | true =>
        rw [cond_true, cond_true]
        cases h4 : dz_N136_87_65 r1.1 with
        | none => rfl
        | some r3 =>
          rw [Option.bind_some, Option.bind_some, e69]
          unfold q_let
          dsimp only
          cases cond (dz_N141_87 r3).2 (dz_N142_87_65 (dz_N141_87 r3).1) (some (dz_N141_87 r3).1) <;> rfl
      | false =>
        rw [cond_false, cond_false, e69, Option.bind_some]
        unfold q_let
        dsimp only
        cases cond (dz_N141_87 r1.1).2 (dz_N142_87_65 (dz_N141_87 r1.1).1) (some (dz_N141_87 r1.1).1) <;> rfl
theorem q_35t (k : q_S → Int32 → Int32 → Int32 → Int32 → Int32 → Option (q_S × Int32)) (x : q_S) (v1 v2 v3 v4 v5 : Int32) : dz_N82_64_t_35 k x v1 v2 v3 v4 v5 = (q_cyw x).bind fun r => k r.1 v1 v2 v3 (v4 + 1) (cond r.2 (v5 + 1) v5) := by
  have e69 : ∀ s, dz_N82_64_t_69 k s v1 v2 v3 v4 v5 = (q_let (dz_N141_87 s) fun r4 => cond r4.2 (dz_N142_87_65 r4.1) (some r4.1)).bind fun r => k (dz_N107_65 r) v1 v2 v3 (v4 + 1) v5 := fun s => by
    unfold dz_N82_64_t_69 q_let
    dsimp only
    cases (dz_N141_87 s).2 with
    | true =>
      rw [cond_true, cond_true]
    | false =>
      rw [cond_false, cond_false]; rfl
  unfold dz_N82_64_t_35 q_cyw q_cx q_let
  dsimp only
  cases h1 : dz_N83_64 x with
  | none => rfl
  | some r1 =>
    rw [Option.bind_some, Option.bind_some]
    cases h2 : r1.2 with
    | true => rw [cond_true, cond_true]; rfl
    | false =>
      rw [cond_false, cond_false]
      cases h3 : decide (r1.1.2.1 23 9 = 0) with
      | true =>
        rw [cond_true, cond_true]
        cases h4 : dz_N136_87_65 r1.1 with
        | none => rfl
        | some r3 =>
          rw [Option.bind_some, Option.bind_some, e69]
          unfold q_let
          dsimp only
          cases cond (dz_N141_87 r3).2 (dz_N142_87_65 (dz_N141_87 r3).1) (some (dz_N141_87 r3).1) <;> rfl
      | false =>
        rw [cond_false, cond_false, e69, Option.bind_some]
        unfold q_let
        dsimp only
        cases cond (dz_N141_87 r1.1).2 (dz_N142_87_65 (dz_N141_87 r1.1).1) (some (dz_N141_87 r1.1).1) <;> rfl
end
end
section
-- 54.h
section
variable {TT TT2 : (Nat → Int32) → Int32 → (Nat → Int32) → Int32 → Int64 → Int64 → List Int32 → List (Nat → Int32) → (Nat → Int64) → Prop} {x y z m : q_S} {c d w : Int} {K : Int64} {F : List Int32} {W : List (Nat → Int32)} {Q : Nat → Int64}
theorem q_l64 {a : Int32} (h : q_rgz 0 100000 a) (b : Bool) : a.toInt64 + q_kb b = (cond b (a + 1) a).toInt64 := by
  have a0 := h.1
  have a1 := h.2
  cases b with
  | false => show a.toInt64 + 0 = a.toInt64; rw [Int64.add_zero]
  | true =>
    show a.toInt64 + 1 = (a + 1).toInt64
    have e1 : (a + 1).toInt = a.toInt + 1 := q_addI ⟨by omega, by omega⟩ ⟨by decide, by decide⟩
    apply Int64.toInt_inj.mp
    rw [Int32.toInt_toInt64, e1, Int64.toInt_add, Int32.toInt_toInt64]
    show Int.bmod (a.toInt + 1) (2 ^ 64) = _
    rw [Int.bmod_def]
    omega
/-- a run's loop -/
theorem q_lpR : ∀ (n f g : Nat) (x m : q_S) (c d : Int) (v1 v3 v4 v5 : Int32), q_R (q_TT0 v5.toInt64 F W Q) x m → q_Iv c d w m → c + n ≤ 1000000 → d + n ≤ 1000000 → v4.toInt + n = v1.toInt → 0 ≤ v5.toInt → v5.toInt ≤ v4.toInt → v1.toInt ≤ 1000 → n ≤ f → n ≤ g → ∃ y m2 r, dz_N82_64_f_14 (f + 1) x v1 0 v3 v4 v5 = some (q_sJ y 0 4 ((y.2.2 0 4) + r.toInt64), r) ∧ dz_M236_64_29 (g + 1) m v1 v5 v4 = some (dz_M205_64 m2, r) ∧ q_R (q_TT0 r.toInt64 F W Q) y m2 ∧ q_Iv (c + n) (d + n) w m2 ∧ 0 ≤ r.toInt ∧ r.toInt ≤ v1.toInt := by
  intro n
  induction n with
  | zero =>
    intro f g x m c d v1 v3 v4 v5 h hI hc hd hn h0 h5 hv hf hg
    refine ⟨x, m, v5, ?_, ?_, h, q_Iv_mono hI (by omega) (by omega) (by omega), h0, by omega⟩
    · rw [dzs_N82_64_f_14]
      dsimp only
      rw [q_lt_F (by omega), cond_false]
      rfl
    · rw [dzs_M236_64_29]
      dsimp only
      rw [q_lt_F (by omega), cond_false]
      rfl
  | succ n ih =>
    intro f g x m c d v1 v3 v4 v5 h hI hc hd hn h0 h5 hv hf hg
    obtain ⟨f, rfl⟩ : ∃ f', f = f' + 1 := ⟨f - 1, by omega⟩
    obtain ⟨g, rfl⟩ : ∃ g', g = g' + 1 := ⟨g - 1, by omega⟩
    obtain ⟨y, m2, b, a1, a2, a3, a4⟩ := q_cycle h hI (by omega)
    have e4 : (v4 + 1).toInt = v4.toInt + 1 := q_addI ⟨by omega, by omega⟩ ⟨by decide, by decide⟩
    have e5 : (v5 + 1).toInt = v5.toInt + 1 := q_addI ⟨by omega, by omega⟩ ⟨by decide, by decide⟩
    have a3' : q_R (q_TT0 (cond b (v5 + 1) v5).toInt64 F W Q) y m2 := by
      rw [← q_l64 ⟨h0, by omega⟩ b]
      exact a3
    have hb : 0 ≤ (cond b (v5 + 1) v5).toInt ∧ (cond b (v5 + 1) v5).toInt ≤ (v4 + 1).toInt := by
      cases b with
      | true => rw [cond_true]; omega
      | false => rw [cond_false]; omega
    obtain ⟨y2, m3, r, b1, b2, b3, b4, b5, b6⟩ := ih f g y m2 (c + 1) (d + 1) v1 v3 (v4 + 1) (cond b (v5 + 1) v5) a3' a4 (by omega) (by omega) (by omega) hb.1 hb.2 hv (by omega) (by omega)
    refine ⟨y2, m3, r, ?_, ?_, b3, q_Iv_mono b4 (by omega) (by omega) (by omega), b5, b6⟩
    · rw [dzs_N82_64_f_14]
      generalize dz_N82_64_f_14 (f + 1) = k at b1 ⊢
      dsimp only
      rw [q_lt_T (by omega), cond_true, decide_eq_true (rfl : (0 : Int32) = 0), cond_true, q_35f, a1]
      exact b1
    · rw [dzs_M236_64_29]
      generalize dz_M236_64_29 (g + 1) = k at b2 ⊢
      dsimp only
      rw [q_lt_T (by omega), cond_true, a2, Option.bind_some]
      cases b with
      | true => exact b2
      | false => rw [cond_false, Int32.add_zero]; exact b2
/-- a step's loop -/
theorem q_lpS : ∀ (n f g : Nat) (x m : q_S) (c d : Int) (v3 v4 v5 : Int32), q_R (q_TT0 v5.toInt64 F W Q) x m → q_Iv c d w m → c + n ≤ 1000000 → d + n ≤ 1000000 → v4.toInt + n = 200 → 0 ≤ v5.toInt → v5.toInt ≤ v4.toInt → n ≤ f → n ≤ g → ∃ (y m2 : q_S) (r v : Int32), dz_N82_64_t_14 (f + 1) x 200 1 v3 v4 v5 = some (q_sJ y 0 4 ((y.2.2 0 4) + v.toInt64), r) ∧ dz_M237_64_34 (g + 1) m v3 v4 = some (dz_M205_64 m2, r) ∧ q_R (q_TT0 v.toInt64 F W Q) y m2 ∧ q_Iv (c + n) (d + n) w m2 ∧ 0 ≤ r.toInt ∧ r.toInt ≤ 200 := by
  intro n
  induction n with
  | zero =>
    intro f g x m c d v3 v4 v5 h hI hc hd hn h0 h5 hf hg
    refine ⟨x, m, v4, v5, ?_, ?_, h, q_Iv_mono hI (by omega) (by omega) (by omega), by omega, by omega⟩
    · rw [dzs_N82_64_t_14]
      dsimp only
      rw [q_lt_F (by show (200 : Int) ≤ _; omega), cond_false]
      rfl
    · rw [dzs_M237_64_34]
      dsimp only
      rw [q_lt_F (by show (200 : Int) ≤ _; omega), cond_false]
      rfl
  | succ n ih =>
    intro f g x m c d v3 v4 v5 h hI hc hd hn h0 h5 hf hg
    obtain ⟨f, rfl⟩ : ∃ f', f = f' + 1 := ⟨f - 1, by omega⟩
    obtain ⟨g, rfl⟩ : ∃ g', g = g' + 1 := ⟨g - 1, by omega⟩
    have eD : x.2.1 23 10 = m.1 14 19 := h.r6.2.2.2.2.2.2.1
    by_cases kD : m.1 14 19 = v3
    · obtain ⟨y, m2, b, a1, a2, a3, a4⟩ := q_cycle h hI (by omega)
      have e4 : (v4 + 1).toInt = v4.toInt + 1 := q_addI ⟨by omega, by omega⟩ ⟨by decide, by decide⟩
      have e5 : (v5 + 1).toInt = v5.toInt + 1 := q_addI ⟨by omega, by omega⟩ ⟨by decide, by decide⟩
      have a3' : q_R (q_TT0 (cond b (v5 + 1) v5).toInt64 F W Q) y m2 := by
        rw [← q_l64 ⟨h0, by omega⟩ b]
        exact a3
      have hb : 0 ≤ (cond b (v5 + 1) v5).toInt ∧ (cond b (v5 + 1) v5).toInt ≤ (v4 + 1).toInt := by
        cases b with
        | true => rw [cond_true]; omega
        | false => rw [cond_false]; omega
      obtain ⟨y2, m3, r, v, b1, b2, b3, b4, b5, b6⟩ := ih f g y m2 (c + 1) (d + 1) v3 (v4 + 1) (cond b (v5 + 1) v5) a3' a4 (by omega) (by omega) (by omega) hb.1 hb.2 (by omega) (by omega)
      refine ⟨y2, m3, r, v, ?_, ?_, b3, q_Iv_mono b4 (by omega) (by omega) (by omega), b5, b6⟩
      · rw [dzs_N82_64_t_14]
        generalize dz_N82_64_t_14 (f + 1) = k at b1 ⊢
        dsimp only
        rw [q_lt_T (by show _ < (200 : Int); omega), cond_true, decide_eq_false (show ¬ (1 : Int32) = 0 by decide), cond_false, eD, decide_eq_true kD, cond_true, q_35t, a1]
        exact b1
      · rw [dzs_M237_64_34]
        generalize dz_M237_64_34 (g + 1) = k at b2 ⊢
        dsimp only
        rw [q_lt_T (by show _ < (200 : Int); omega), cond_true, decide_eq_true kD, cond_true, a2, Option.bind_some]
        cases b with
        | true => exact b2
        | false => exact b2
    · refine ⟨x, m, v4, v5, ?_, ?_, h, q_Iv_mono hI (by omega) (by omega) (by omega), by omega, by omega⟩
      · rw [dzs_N82_64_t_14]
        generalize dz_N82_64_t_14 (f + 1) = k
        dsimp only
        rw [q_lt_T (by show _ < (200 : Int); omega), cond_true, decide_eq_false (show ¬ (1 : Int32) = 0 by decide), cond_false, eD, decide_eq_false kD, cond_false]
        rfl
      · rw [dzs_M237_64_34]
        generalize dz_M237_64_34 (g + 1) = k
        dsimp only
        rw [q_lt_T (by show _ < (200 : Int); omega), cond_true, decide_eq_false kD, cond_false]
        rfl
theorem q_R_pc (h : q_R (q_TT0 K F W Q) x m) : q_R (q_TT0 0 F W Q) (q_sJ x 0 4 ((x.2.2 0 4) + K)) m := by
  obtain ⟨h1, h2, h3, h4, h5, ⟨p1, p2, p3, p4, p5, p6, p7, p8, p9, p10, p11⟩, h7, h8⟩ := h
  refine ⟨h1, h2, h3, h4, h5, ⟨p1, p2, p3, p4, p5, p6, p7, p8, ⟨p9.1, p9.2.1, ?_, p9.2.2.2⟩, p10, p11⟩, h7, h8⟩
  show (x.2.2 0 4 + K) + 0 = m.2.2 0 16
  rw [Int64.add_zero, p9.2.2.1]
/-- run -/
theorem q_run82 (h : q_R (q_TT0 0 F W Q) x m) (hI : q_Iv c d w m) (n : Int32) (hn : q_rgz 1 1000 n) (hc : c + 1000 ≤ 1000000) (hd : d + 1000 ≤ 1000000) : ∃ y m2 r, dz_N82_64_f x n = some (y, r) ∧ dz_M236_64_29 5000 m n 0 0 = some (dz_M205_64 m2, r) ∧ q_R (q_TT0 0 F W Q) y m2 ∧ q_Iv (c + 1000) (d + 1000) w m2 := by
  have n0 := hn.1
  have n1 := hn.2
  have z0 : (0 : Int32).toInt = 0 := rfl
  obtain ⟨y, m2, r, a1, a2, a3, a4, a5, a6⟩ := q_lpR (w := w) n.toInt.toNat 2147483649 4999 x m c d n (x.2.1 23 10) 0 0 h hI (by omega) (by omega) (by omega) (by omega) (by omega) (by omega) (by omega) (by omega)
  exact ⟨_, m2, r, a1, a2, q_R_pc a3, q_Iv_mono a4 (by omega) (by omega) (by omega)⟩
/-- step -/
theorem q_stp82 (h : q_R (q_TT0 0 F W Q) x m) (hI : q_Iv c d w m) (hc : c + 1000 ≤ 1000000) (hd : d + 1000 ≤ 1000000) : ∃ y m2 r, dz_N82_64_t x 200 = some (y, r) ∧ dz_M237_64_34 5000 m (m.1 14 19) 0 = some (dz_M205_64 m2, r) ∧ q_R (q_TT0 0 F W Q) y m2 ∧ q_Iv (c + 1000) (d + 1000) w m2 := by
  have z0 : (0 : Int32).toInt = 0 := rfl
  have eD : x.2.1 23 10 = m.1 14 19 := h.r6.2.2.2.2.2.2.1
  obtain ⟨y, m2, r, v, a1, a2, a3, a4, a5, a6⟩ := q_lpS (w := w) 200 2147483649 4999 x m c d (x.2.1 23 10) 0 0 h hI (by omega) (by omega) (by omega) (by omega) (by omega) (by omega) (by omega)
  rw [eD] at a2
  exact ⟨_, m2, r, a1, a2, q_R_pc a3, q_Iv_mono a4 (by omega) (by omega) (by omega)⟩
end
end
section
-- 54.i
section
variable {TT TT2 : (Nat → Int32) → Int32 → (Nat → Int32) → Int32 → Int64 → Int64 → List Int32 → List (Nat → Int32) → (Nat → Int64) → Prop} {x y z m : q_S} {c d w : Int} {K : Int64} {F : List Int32} {W : List (Nat → Int32)} {Q : Nat → Int64}
def q_svF (m : q_S) : List Int32 := [m.2.1 0 17, m.2.1 0 34, m.2.1 0 35, m.2.1 0 39]
def q_svW (m : q_S) : List (Nat → Int32) := [m.1 16, m.1 17, m.1 18, m.1 19, m.1 20, m.1 21, m.1 22, m.1 23, m.1 24, m.1 25, m.1 26, m.1 27, m.1 28, m.1 29, m.1 30, m.1 31, m.1 32]
/-- class and model alike; what is saved is m0's -/
def q_RO (m0 x m : q_S) : Prop := q_R (q_TT0 0 (q_svF m0) (q_svW m0) (m0.2.2 31)) x m
/-- what an action leaves as it was -/
def q_Act (m m2 : q_S) : Prop := q_svW m2 = q_svW m ∧ m2.2.2 31 = m.2.2 31 ∧ m2.2.1 0 17 = m.2.1 0 17 ∧ m2.2.1 0 34 = cond (decide (m.2.1 0 34 < 0)) (m.2.1 0 34) (m.2.1 0 34 + 1) ∧ m2.2.1 0 35 = m.2.1 0 35 ∧ m2.2.1 0 39 = 0
def q_mok (m : q_S) : q_S := q_sI m 0 39 0
theorem q_RO_F (h : q_R (q_TT0 0 F W Q) x m) : F = q_svF m ∧ W = q_svW m ∧ Q = m.2.2 31 := by
  obtain ⟨-, -, -, a, b, e⟩ := q_R_t h
  exact ⟨a.symm, b.symm, e.symm⟩
theorem q_R_TT (h : q_R TT x m) (t : TT2 (x.1 24) (x.2.1 23 11) (m.1 9) (m.1 14 20) (x.2.2 0 4) (m.2.2 0 16) [m.2.1 0 17, m.2.1 0 34, m.2.1 0 35, m.2.1 0 39] [m.1 16, m.1 17, m.1 18, m.1 19, m.1 20, m.1 21, m.1 22, m.1 23, m.1 24, m.1 25, m.1 26, m.1 27, m.1 28, m.1 29, m.1 30, m.1 31, m.1 32] (m.2.2 31)) : q_R TT2 x m := by
  obtain ⟨h1, h2, h3, h4, h5, ⟨p1, p2, p3, p4, p5, p6, p7, p8, p9, p10, p11⟩, h7, h8⟩ := h
  exact ⟨h1, h2, h3, h4, h5, ⟨p1, p2, p3, p4, p5, p6, p7, p8, t, p10, p11⟩, h7, h8⟩
theorem q_RO_own (h : q_R (q_TT0 0 F W Q) x m) : q_RO m x m := by
  have t := q_R_t h
  exact q_R_TT h ⟨t.1, t.2.1, t.2.2.1, rfl, rfl, rfl⟩
/-- a model's own word changes -/
theorem q_RO_I (h : q_RO m x m) (k : Nat) (v : Int32) (hk : (Nat.beq k 17 || (Nat.beq k 34 || (Nat.beq k 35 || Nat.beq k 39))) = true) : q_RO (q_sI m 0 k v) x (q_sI m 0 k v) := by
  have t := q_R_t h
  obtain ⟨h1, h2, h3, h4, h5, ⟨p1, p2, p3, p4, p5, p6, p7, p8, p9, p10, p11⟩, h7, h8⟩ := h
  exact ⟨h1, h2, h3, h4, h5, ⟨p1, p2, p3, p4, p5, p6, p7, p8, ⟨t.1, t.2.1, t.2.2.1, rfl, rfl, rfl⟩, p10, p11⟩, h7, h8⟩
theorem q_yM205 (m : q_S) : dz_M205_64 m = cond (decide (m.2.1 0 34 < 0)) m (q_sI m 0 34 (m.2.1 0 34 + 1)) := rfl
/-- the end of an action -/
theorem q_actE (h : q_RO (q_mok m) y z) : q_RO (dz_M205_64 z) y (dz_M205_64 z) ∧ q_Act m (dz_M205_64 z) := by
  obtain ⟨f1, f2, f3⟩ := q_RO_F h
  have f1' : [m.2.1 0 17, m.2.1 0 34, m.2.1 0 35, (0 : Int32)] = [z.2.1 0 17, z.2.1 0 34, z.2.1 0 35, z.2.1 0 39] := f1
  injection f1' with a1 b1
  injection b1 with a2 b2
  injection b2 with a3 b3
  injection b3 with a4 b4
  have o := q_RO_own h
  rw [q_yM205]
  unfold q_Act
  rw [a1, a2, a3]
  cases e : decide (z.2.1 0 34 < 0) with
  | true => exact ⟨o, f2.symm, f3.symm, rfl, rfl, rfl, a4.symm⟩
  | false => exact ⟨q_RO_I o 34 _ rfl, f2.symm, f3.symm, rfl, rfl, rfl, a4.symm⟩
theorem q_R_rom (h : q_R TT x m) (k : Nat) (v : Int32) : q_R TT (q_sA x 5 (upd (x.1 5) k v)) (q_sA m 2 (upd (m.1 2) k v)) := by
  obtain ⟨⟨a1, a2, a3⟩, h2⟩ := h
  refine ⟨⟨a1, fun j hj => ?_, a3⟩, h2⟩
  show upd (x.1 5) k v j = upd (m.1 2) k v j
  by_cases e : j = k
  · rw [q_upE _ _ e, q_upE _ _ e]
  · rw [q_upN _ _ e, q_upN _ _ e]; exact a2 j hj
theorem q_R_car (h : q_R TT x m) (k : Nat) (v : Int32) : q_R TT (q_sA x 6 (upd (x.1 6) k v)) (q_sA m 3 (upd (m.1 3) k v)) := by
  obtain ⟨⟨a1, a2, a3⟩, h2⟩ := h
  refine ⟨⟨a1, a2, fun j hj => ?_⟩, h2⟩
  show upd (x.1 6) k v j = upd (m.1 3) k v j
  by_cases e : j = k
  · rw [q_upE _ _ e, q_upE _ _ e]
  · rw [q_upN _ _ e, q_upN _ _ e]; exact a3 j hj
theorem q_yM200 (m : q_S) : dz_M200_64 m 0 = (q_mok m, false) := rfl
theorem q_ROk (h : q_RO m x m) : q_RO (q_mok m) x (q_mok m) := q_RO_I h 39 0 rfl
theorem q_Ivk (hI : q_Iv c d w m) : q_Iv c d w (q_mok m) := q_Iv_I (i := 0) (m := 39) hI (q_rg_full _)
/-- poke -/
theorem q_aPoke (h : q_RO m x m) (hI : q_Iv c d w m) (a b e0 : Int32) (ha : q_rgz 0 4095 a) (hb : q_rgz 0 255 b) : ∃ y m2 r, dz_N79_64 x 0 a b e0 = some (y, r) ∧ dz_M216_64 m a b = some (m2, r) ∧ q_RO m2 y m2 ∧ q_Act m m2 := by
  have a0 := ha.1
  have a1 := ha.2
  have b0 := hb.1
  have b1 := hb.2
  have h0 := q_ROk h
  obtain ⟨v, m1, e1, e2, e3, e4, e5, e6⟩ := q_rdz h0 (q_Ivk hI) a ha
  obtain ⟨y, m2, f1, f2, f3, f4, f5, f6⟩ := q_wr94 e4 e5 a b ha hb
  obtain ⟨g1, g2⟩ := q_actE f3
  refine ⟨y, dz_M205_64 m2, v, ?_, ?_, g1, g2⟩
  · show ((dz_N97_65 x a b).bind fun r2 => some (r2.1, r2.2)) = _
    unfold dz_N97_65
    rw [e1, Option.bind_some, f1]; rfl
  · unfold dz_M216_64 dz_M204 dz_M203 q_let
    dsimp only
    rw [q_202T (v := a) (by show (0 : Int) ≤ _; omega) (by show _ ≤ (4095 : Int); omega), q_202T (v := b) (by show (0 : Int) ≤ _; omega) (by show _ ≤ (255 : Int); omega), q_yM200]
    show ((dz_M214_64 (q_mok m) a).bind fun r15 => (dz_M215_64 r15.1 a b).bind fun r16 => some (dz_M205_64 r16, r15.2)) = _
    rw [e2, Option.bind_some, f2]; rfl
theorem q_aRom (h : q_RO m x m) (a b e0 : Int32) (ha : q_rgz 0 511 a) (hb : q_rgz 0 255 b) : ∃ y m2 r, dz_N79_64 x 1 a b e0 = some (y, r) ∧ dz_M217_64 m a b = some (m2, r) ∧ q_RO m2 y m2 ∧ q_Act m m2 := by
  have a0 := ha.1
  have a1 := ha.2
  have b0 := hb.1
  have b1 := hb.2
  have h0 := q_ROk h
  have e9 : a &&& 511 = a := by
    apply Int32.toInt_inj.mp
    rw [q_andI 9 (by decide) ha (by decide) (show (511 : Int32).toInt = 2 ^ 9 - 1 from rfl)]
    show a.toInt % 512 = _
    omega
  have f3 := q_R_rom h0 a.toNatClampNeg b
  obtain ⟨g1, g2⟩ := q_actE f3
  have ek : a.toNatClampNeg = a.toInt.toNat := rfl
  refine ⟨_, _, m.1 2 a.toNatClampNeg, ?_, ?_, g1, g2⟩
  · show some (dz_N98_65 x a b) = _
    unfold dz_N98_65
    rw [e9, h.r1.2.1 _ (by omega)]
  · unfold dz_M217_64 dz_M203 q_let
    dsimp only
    rw [q_202T (v := a) (by show (0 : Int) ≤ _; omega) (by show _ ≤ (511 : Int); omega), q_202T (v := b) (by show (0 : Int) ≤ _; omega) (by show _ ≤ (255 : Int); omega), q_yM200, q_in_rg ha (by decide) (by decide)]
    rfl
theorem q_aCar (h : q_RO m x m) (a b e0 : Int32) (ha : q_rgz 0 3 a) (hb : q_rgz 0 511 b) (he : q_rgz 0 255 e0) : ∃ y m2 r, dz_N79_64 x 2 a b e0 = some (y, r) ∧ dz_M218_64 m a b e0 = some (m2, r) ∧ q_RO m2 y m2 ∧ q_Act m m2 := by
  have a0 := ha.1
  have a1 := ha.2
  have b0 := hb.1
  have b1 := hb.2
  have c0 := he.1
  have c1 := he.2
  have h0 := q_ROk h
  have em : (512 * a).toInt = 512 * a.toInt := q_mulI (n := 512) rfl (by decide) (by decide) ⟨by omega, by omega⟩
  have ei : ((512 * a) + b).toInt = 512 * a.toInt + b.toInt := by rw [q_addI ⟨by omega, by omega⟩ ⟨by omega, by omega⟩, em]
  have ri : q_rgz 0 2047 ((512 * a) + b) := ⟨by omega, by omega⟩
  have e9 : ((512 * a) + b) &&& 2047 = (512 * a) + b := by
    apply Int32.toInt_inj.mp
    rw [q_andI 11 (by decide) ri (by decide) (show (2047 : Int32).toInt = 2 ^ 11 - 1 from rfl)]
    show _ % 2048 = _
    omega
  have f3 := q_R_car h0 ((512 * a) + b).toNatClampNeg e0
  obtain ⟨g1, g2⟩ := q_actE f3
  have ek : ((512 * a) + b).toNatClampNeg = ((512 * a) + b).toInt.toNat := rfl
  refine ⟨_, _, m.1 3 ((512 * a) + b).toNatClampNeg, ?_, ?_, g1, g2⟩
  · show some (dz_N99_65 x ((512 * a) + b) e0) = _
    unfold dz_N99_65
    rw [e9, h.r1.2.2 _ (by omega)]
  · unfold dz_M218_64 dz_M203 q_let
    dsimp only
    rw [q_202T (v := a) (by show (0 : Int) ≤ _; omega) (by show _ ≤ (3 : Int); omega), q_202T (v := b) (by show (0 : Int) ≤ _; omega) (by show _ ≤ (511 : Int); omega), q_202T (v := e0) (by show (0 : Int) ≤ _; omega) (by show _ ≤ (255 : Int); omega), q_yM200, q_in_rg ri (by decide) (by decide)]
    rfl
theorem q_aJoy (h : q_RO m x m) (a b e0 : Int32) (ha : q_rgz 0 15 a) : ∃ y m2 r, dz_N79_64 x 10 a b e0 = some (y, r) ∧ dz_M300_64 m a = (m2, r) ∧ q_RO m2 y m2 ∧ q_Act m m2 := by
  have a0 := ha.1
  have a1 := ha.2
  have h0 := q_ROk h
  have f3 : q_RO (q_mok m) (q_sI x 10 2 a) (q_sA (q_mok m) 14 (upd ((q_mok m).1 14) 12 a)) := by
    obtain ⟨h1, h2, h3, h4, ⟨p1, p2⟩, h6, h7, h8⟩ := h0
    exact ⟨h1, h2, h3, h4, ⟨rfl, p2⟩, h6, h7, h8⟩
  obtain ⟨g1, g2⟩ := q_actE f3
  refine ⟨_, _, m.1 14 12, ?_, ?_, g1, g2⟩
  · show some (q_sI x 10 2 a, x.2.1 10 2) = _
    rw [h.r5.1]
  · unfold dz_M300_64 q_let
    dsimp only
    rw [q_202T (v := a) (by show (0 : Int) ≤ _; omega) (by show _ ≤ (15 : Int); omega), q_yM200]
    rfl
end
end
section
-- 54.j
section
variable {TT TT2 : (Nat → Int32) → Int32 → (Nat → Int32) → Int32 → Int64 → Int64 → List Int32 → List (Nat → Int32) → (Nat → Int64) → Prop} {x y z m : q_S} {c d w : Int} {K : Int64} {F : List Int32} {W : List (Nat → Int32)} {Q : Nat → Int64}
/-- run -/
theorem q_aRun (h : q_RO m x m) (hI : q_Iv c d w m) (n b e0 : Int32) (hn : q_rgz 1 1000 n) (hc : c + 1000 ≤ 1000000) (hd : d + 1000 ≤ 1000000) : ∃ y m2 r, dz_N79_64 x 7 n b e0 = some (y, r) ∧ dz_M236_64 m n = some (m2, r) ∧ q_RO m2 y m2 ∧ q_Act m m2 := by
  have n0 := hn.1
  have n1 := hn.2
  obtain ⟨y, m2, r, a1, a2, a3, a4⟩ := q_run82 (q_ROk h) (q_Ivk hI) n hn hc hd
  obtain ⟨g1, g2⟩ := q_actE a3
  refine ⟨y, _, r, ?_, ?_, g1, g2⟩
  · show ((dz_N82_64_f x n).bind fun r9 => some (r9.1, r9.2)) = _
    rw [a1]; rfl
  · unfold dz_M236_64 q_let
    dsimp only
    rw [q_202T (v := n) (by show (1 : Int) ≤ _; omega) (by show _ ≤ (1000 : Int); omega), q_yM200]
    exact a2
/-- step -/
theorem q_aStep (h : q_RO m x m) (hI : q_Iv c d w m) (a b e0 : Int32) (hJ : x.2.1 23 7 = 0) (hc : c + 1000 ≤ 1000000) (hd : d + 1000 ≤ 1000000) : ∃ y m2 r, dz_N79_64 x 8 a b e0 = some (y, r) ∧ dz_M237_64 m = some (m2, r) ∧ q_RO m2 y m2 ∧ q_Act m m2 := by
  obtain ⟨y, m2, r, a1, a2, a3, a4⟩ := q_stp82 (q_ROk h) (q_Ivk hI) hc hd
  obtain ⟨g1, g2⟩ := q_actE a3
  have eJ : x.2.1 23 7 = m.1 15 7 := h.r6.2.2.2.1
  refine ⟨y, _, r, ?_, ?_, g1, g2⟩
  · show ((dz_N82_64_t x 200).bind fun r9 => some (r9.1, r9.2)) = _
    rw [a1]; rfl
  · unfold dz_M237_64 q_let
    rw [← eJ, decide_eq_true hJ, cond_true, q_yM200]
    dsimp only
    rw [cond_false]
    exact a2
theorem q_R_k0 (h : q_R TT x m) (v : Int32) : q_R TT (q_sI x 23 0 v) (q_sA m 14 (upd (m.1 14) 0 v)) := by
  obtain ⟨h1, h2, h3, h4, h5, ⟨⟨p1, p2, p3, p4⟩, p5⟩, h7, h8⟩ := h
  exact ⟨h1, h2, h3, h4, h5, ⟨⟨rfl, p2, p3, p4⟩, p5⟩, h7, h8⟩
theorem q_R_k1 (h : q_R TT x m) (v : Int32) : q_R TT (q_sI x 23 1 v) (q_sA m 14 (upd (m.1 14) 1 v)) := by
  obtain ⟨h1, h2, h3, h4, h5, ⟨⟨p1, p2, p3, p4⟩, p5⟩, h7, h8⟩ := h
  exact ⟨h1, h2, h3, h4, h5, ⟨⟨p1, rfl, p3, p4⟩, p5⟩, h7, h8⟩
theorem q_R_k2 (h : q_R TT x m) (v : Int32) : q_R TT (q_sI x 23 2 v) (q_sA m 14 (upd (m.1 14) 2 v)) := by
  obtain ⟨h1, h2, h3, h4, h5, ⟨⟨p1, p2, p3, p4⟩, p5⟩, h7, h8⟩ := h
  exact ⟨h1, h2, h3, h4, h5, ⟨⟨p1, p2, rfl, p4⟩, p5⟩, h7, h8⟩
/-- setRegister -/
theorem q_X184_24 (x : q_S) (a1 a2 a3 a4 : Int32) : (dz_X184_98 x a1 a2 a3 a4).2.1 24 = x.2.1 24 := by
  unfold dz_X184_98
  cases decide (x.2.1 34 7 = 0) with
  | true => rfl
  | false =>
    rw [cond_false]
    cases decide (x.2.1 34 5 < 0) with
    | true => rfl
    | false =>
      rw [cond_false]
      cases decide (x.2.1 34 5 < 512) with
      | true => rfl
      | false => rfl
theorem q_aReg (h : q_RO m x m) (a b e0 : Int32) (ha : q_rgz 0 4 a) (b0 : 0 ≤ b.toInt) (b4 : a.toInt = 4 → b.toInt ≤ 4095) (b3 : ¬ a.toInt = 4 → b.toInt ≤ 255) (hl : (m.1 14 17).toInt ≤ 0) : ∃ y m2 r r', dz_N79_64 x 4 a b e0 = some (y, r) ∧ dz_M289_64 m a b = some (m2, r') ∧ q_RO m2 y m2 ∧ q_Act m m2 ∧ ((a.toInt = 4 → x.2.1 23 7 = 0) → r = r') := by
  have a0 := ha.1
  have a1 := ha.2
  have h0 := q_ROk h
  obtain ⟨g0, g1, g2, g3⟩ := h.cpu
  rcases (by omega : a.toInt = 0 ∨ a.toInt = 1 ∨ a.toInt = 2 ∨ a.toInt = 3 ∨ a.toInt = 4) with e | e | e | e | e
  · obtain ⟨f1, f2⟩ := q_actE (q_R_k0 h0 b)
    have := b3 (by omega)
    rw [show a = 0 from Int32.toInt_inj.mp e]
    refine ⟨_, _, x.2.1 23 0, m.1 14 0, rfl, ?_, f1, f2, fun _ => g0⟩
    unfold dz_M289_64 q_let
    dsimp only
    rw [q_202T (v := 0) (lo := 0) (hi := 4) (by decide) (by decide), q_202T (v := b) (lo := 0) (hi := 255) (by show (0 : Int) ≤ _; omega) (by show _ ≤ (255 : Int); omega), q_lt_F (show (m.1 14 17).toInt ≤ (0 : Int32).toInt from hl), q_yM200]
    rfl
  · obtain ⟨f1, f2⟩ := q_actE (q_R_k1 h0 b)
    have := b3 (by omega)
    rw [show a = 1 from Int32.toInt_inj.mp e]
    refine ⟨_, _, x.2.1 23 1, m.1 14 1, rfl, ?_, f1, f2, fun _ => g1⟩
    unfold dz_M289_64 q_let
    dsimp only
    rw [q_202T (v := 1) (lo := 0) (hi := 4) (by decide) (by decide), q_202T (v := b) (lo := 0) (hi := 255) (by show (0 : Int) ≤ _; omega) (by show _ ≤ (255 : Int); omega), q_lt_F (show (m.1 14 17).toInt ≤ (0 : Int32).toInt from hl), q_yM200]
    rfl
  · obtain ⟨f1, f2⟩ := q_actE (q_R_k2 h0 b)
    have := b3 (by omega)
    rw [show a = 2 from Int32.toInt_inj.mp e]
    refine ⟨_, _, x.2.1 23 2, m.1 14 2, rfl, ?_, f1, f2, fun _ => g2⟩
    unfold dz_M289_64 q_let
    dsimp only
    rw [q_202T (v := 2) (lo := 0) (hi := 4) (by decide) (by decide), q_202T (v := b) (lo := 0) (hi := 255) (by show (0 : Int) ≤ _; omega) (by show _ ≤ (255 : Int); omega), q_lt_F (show (m.1 14 17).toInt ≤ (0 : Int32).toInt from hl), q_yM200]
    rfl
  · obtain ⟨f1, f2⟩ := q_actE (q_R_s h0 b)
    have := b3 (by omega)
    rw [show a = 3 from Int32.toInt_inj.mp e]
    refine ⟨_, _, x.2.1 23 3, m.1 14 3, rfl, ?_, f1, f2, fun _ => g3⟩
    unfold dz_M289_64 q_let
    dsimp only
    rw [q_202T (v := 3) (lo := 0) (hi := 4) (by decide) (by decide), q_202T (v := b) (lo := 0) (hi := 255) (by show (0 : Int) ≤ _; omega) (by show _ ≤ (255 : Int); omega), q_lt_F (show (m.1 14 17).toInt ≤ (0 : Int32).toInt from hl), q_yM200]
    rfl
  · obtain ⟨f1, f2⟩ := q_actE (q_R_p h0 b)
    have := b4 e
    rw [show a = 4 from Int32.toInt_inj.mp e]
    refine ⟨_, _, x.2.1 23 4, m.1 14 4, rfl, ?_, f1, f2, fun q => h.r6.2.1 (q rfl)⟩
    unfold dz_M289_64 q_let
    dsimp only
    rw [q_202T (v := 4) (lo := 0) (hi := 4) (by decide) (by decide), q_202T (v := b) (lo := 0) (hi := 4095) (by show (0 : Int) ≤ _; omega) (by show _ ≤ (4095 : Int); omega), q_lt_F (show (m.1 14 17).toInt ≤ (0 : Int32).toInt from hl), q_yM200]
    rfl
theorem q_or14 : ∀ n, n < 16 → (Int32.ofNat n ||| 14) &&& 15 = Int32.ofNat n ||| 14 ∧ q_rgz 0 255 (Int32.ofNat n ||| 14) := by
  unfold q_rgz
  decide
theorem q_sAcm (s : q_S) (i j : Nat) (f g : Nat → Int32) (h : Nat.beq i j = false) : q_sA (q_sA s i f) j g = q_sA (q_sA s j g) i f := by
  have e : (q_sA (q_sA s i f) j g).1 = (q_sA (q_sA s j g) i f).1 := by
    funext k
    show cond (Nat.beq k j) g (cond (Nat.beq k i) f (s.1 k)) = cond (Nat.beq k i) f (cond (Nat.beq k j) g (s.1 k))
    cases e1 : Nat.beq k j with
    | false => cases Nat.beq k i <;> rfl
    | true =>
      cases e2 : Nat.beq k i with
      | false => rfl
      | true =>
        rw [← Nat.eq_of_beq_eq_true e1, ← Nat.eq_of_beq_eq_true e2, Nat.beq_refl] at h
        cases h
  exact Prod.ext e rfl
/-- freeze -/
theorem q_aFrz (h : q_RO m x m) (hI : q_Iv c d w m) (a b e0 : Int32) : ∃ y m2 r, dz_N79_64 x 6 a b e0 = some (y, r) ∧ dz_M292_64 m = (m2, r) ∧ q_RO m2 y m2 ∧ q_Act m m2 := by
  have h0 := q_ROk h
  have g : x.1 4 0 = m.1 4 0 := h.g 0
  have r0 : q_rgz 0 15 (m.1 4 0) := hI.1 4 0
  have r00 := r0.1
  have r01 := r0.2
  obtain ⟨o1, o2⟩ := q_or14 (m.1 4 0).toInt.toNat (by omega)
  rw [q_ofn r0] at o1 o2
  obtain ⟨y, m2, f1, f2, f3, f4, f5, f6⟩ := q_wr94 h0 (q_Ivk hI) 3840 ((m.1 4 0) ||| 14) ⟨by decide, by decide⟩ o2
  have e212 : dz_M212_64 (q_mok m) 0 ((m.1 4 0) ||| 14) = dz_M212_64_126 (4999 + 1) (q_mok m) 0 (((m.1 4 0) ||| 14) &&& 15) 0 := by
    show dz_M212_64_126 5000 (q_mok m) 0 (((m.1 4 0) ||| 14) &&& (((1 : Int32) <<< ((4 : Int32) &&& 31)) - 1)) 0 = _
    rw [show ((1 : Int32) <<< ((4 : Int32) &&& 31)) - 1 = 15 by decide]
  have e215 : dz_M215_64 (q_mok m) 3840 ((m.1 4 0) ||| 14) = some (q_sA (q_mok m) 4 (upd ((q_mok m).1 4) 0 ((m.1 4 0) ||| 14))) := by
    show ((dz_M212_64 (q_mok m) 0 ((m.1 4 0) ||| 14)).bind fun r4 => some r4) = _
    rw [e212, o1, q_126 0 _ 4999 _ rfl]
    rfl
  rw [e215] at f2
  cases f2
  have f7 := q_R_fz f3 true
  obtain ⟨g1, g2⟩ := q_actE f7
  refine ⟨_, _, x.1 4 0, ?_, ?_, g1, g2⟩
  · show ((dz_N81_64 x).bind fun r8 => some (r8.1, r8.2)) = _
    unfold dz_N81_64
    rw [g, f1]; rfl
  · unfold dz_M292_64 q_let
    dsimp only
    rw [g, q_sAcm _ 15 4 _ _ rfl]
    rfl
end
end
section
-- 54.k
section
variable {TT TT2 : (Nat → Int32) → Int32 → (Nat → Int32) → Int32 → Int64 → Int64 → List Int32 → List (Nat → Int32) → (Nat → Int64) → Prop} {x y z m : q_S} {c d w : Int} {K : Int64} {F : List Int32} {W : List (Nat → Int32)} {Q : Nat → Int64}
theorem q_205A (z : q_S) : (dz_M205_64 z).1 = z.1 := by
  rw [q_yM205]
  cases decide (z.2.1 0 34 < 0) <;> rfl
/-- addPulse -/
theorem q_aPul (h : q_RO m x m) (hI : q_Iv c d w m) (a b e0 : Int32) (ha : q_rgz 1 999 a) (hn : (m.1 14 13).toInt < 40) : ∃ y m2 r, dz_N79_64 x 11 a b e0 = some (y, r) ∧ dz_M301_64 m a = some (m2, r) ∧ q_RO m2 y m2 ∧ q_Act m m2 := by
  have a0 := ha.1
  have a1 := ha.2
  have h0 := q_ROk h
  have z0 : (0 : Int32).toInt = 0 := rfl
  have z1 : (1 : Int32).toInt = 1 := rfl
  have z40 : (40 : Int32).toInt = 40 := rfl
  have n0 : 0 ≤ (m.1 14 13).toInt := (hI.1 14 13).1
  have pl0 : 0 ≤ (m.1 14 14).toInt := (hI.1 14 14).1
  have e2 : x.2.1 8 1 = m.1 14 13 := h.r4.2.1
  have ek : (m.1 14 13).toNatClampNeg = (m.1 14 13).toInt.toNat := rfl
  have ep : (m.1 14 14).toNatClampNeg = (m.1 14 14).toInt.toNat := rfl
  have en : ((m.1 14 13) + 1).toInt = (m.1 14 13).toInt + 1 := q_addI ⟨by omega, by omega⟩ ⟨by decide, by decide⟩
  have ekn : ((m.1 14 13) + 1).toNatClampNeg = ((m.1 14 13) + 1).toInt.toNat := rfl
  -- the tape of both, whatever the time left is
  have tp : ∀ t : Int32, (if (m.1 14 14).toInt < (m.1 14 13).toInt then t = m.1 14 15 else t = a) → q_RO (q_mok m) (q_sI (q_sA x 9 (upd (x.1 9) (m.1 14 13).toNatClampNeg a)) 8 1 ((m.1 14 13) + 1)) (q_sA (q_sA (q_sA (q_mok m) 14 (upd ((q_mok m).1 14) 15 t)) 8 (upd ((q_mok m).1 8) (m.1 14 13).toNatClampNeg a)) 14 (upd (upd ((q_mok m).1 14) 15 t) 13 ((m.1 14 13) + 1))) := fun t ht => by
    obtain ⟨h1, h2, h3, ⟨b1, b2, b3, b4, b5, b6, b7, b8⟩, h5, h6, h7, h8⟩ := h0
    have b2' : x.2.1 8 1 = m.1 14 13 := b2
    have b3' : x.2.1 8 2 = m.1 14 14 := b3
    rw [b2', b3'] at b5
    rw [b2'] at b6
    rw [b2', b3'] at b7 b8
    refine ⟨h1, h2, h3, ⟨fun k hk => ?_, rfl, b3, b4, ?_, fun k hk => ?_, fun q => ?_, fun q => ?_⟩, h5, h6, h7, h8⟩
    · show upd (x.1 9) (m.1 14 13).toNatClampNeg a k = upd (m.1 8) (m.1 14 13).toNatClampNeg a k
      by_cases e : k = (m.1 14 13).toNatClampNeg
      · rw [q_upE _ _ e, q_upE _ _ e]
      · rw [q_upN _ _ e, q_upN _ _ e]; exact b1 k hk
    · show (x.2.1 8 2).toInt ≤ ((m.1 14 13) + 1).toInt
      rw [b3']; omega
    · have hk' : k < ((m.1 14 13) + 1).toNatClampNeg := hk
      show q_rgz 1 999 (upd (x.1 9) (m.1 14 13).toNatClampNeg a k)
      by_cases e : k = (m.1 14 13).toNatClampNeg
      · rw [q_upE _ _ e]; exact ha
      · rw [q_upN _ _ e]; exact b6 k (by omega)
    · show t.toInt = (upd (x.1 9) (m.1 14 13).toNatClampNeg a (x.2.1 8 2).toNatClampNeg).toInt - (x.2.1 8 3).toInt ∧ 0 ≤ (x.2.1 8 3).toInt ∧ (x.2.1 8 3).toInt < (upd (x.1 9) (m.1 14 13).toNatClampNeg a (x.2.1 8 2).toNatClampNeg).toInt
      rw [b3']
      by_cases e : (m.1 14 14).toInt < (m.1 14 13).toInt
      · rw [if_pos e] at ht
        rw [q_upN _ _ (by omega), ht]
        exact b7 e
      · rw [if_neg e] at ht
        have e9 : (m.1 14 14).toInt = (m.1 14 13).toInt := by omega
        rw [q_upE _ _ (by omega), ht, b8 e, z0]
        omega
    · have q' : ¬ (x.2.1 8 2).toInt < ((m.1 14 13) + 1).toInt := q
      rw [b3'] at q'
      omega
  have eX : dz_N79_64 x 11 a b e0 = some (q_sI (q_sA x 9 (upd (x.1 9) (m.1 14 13).toNatClampNeg a)) 8 1 ((m.1 14 13) + 1), (m.1 14 13) + 1) := by
    show some (dz_N175_72 x a) = _
    unfold dz_N175_72
    rw [e2, q_lt_F (show (0 : Int32).toInt ≤ (m.1 14 13).toInt by omega), q_lt_T (show (m.1 14 13).toInt < (40 : Int32).toInt by omega)]
    rfl
  have hin : q_in (m.1 14 13) 40 = true := q_in_rg (l := 0) (u := 39) ⟨n0, by omega⟩ (by decide) (by decide)
  have eM : dz_M301_64 m a = cond (decide (m.1 14 14 < m.1 14 13)) (dz_M301_64_56 (q_mok m) a) (dz_M301_64_56 (q_sA (q_mok m) 14 (upd ((q_mok m).1 14) 15 a)) a) := by
    unfold dz_M301_64 q_let
    dsimp only
    rw [q_202T (v := a) (by show (1 : Int) ≤ _; omega) (by show _ ≤ (999 : Int); omega), q_eq_F (show ¬ (m.1 14 13).toInt = (40 : Int32).toInt by omega), q_yM200]
    dsimp only
    rw [cond_true, cond_false, cond_false, q_209]
    rfl
  by_cases e : (m.1 14 14).toInt < (m.1 14 13).toInt
  · have t := tp (m.1 14 15) (by rw [if_pos e])
    have es : q_sA (q_sA (q_mok m) 8 (upd ((q_mok m).1 8) (m.1 14 13).toNatClampNeg a)) 14 (upd ((q_mok m).1 14) 13 ((m.1 14 13) + 1)) = q_sA (q_sA (q_sA (q_mok m) 14 (upd ((q_mok m).1 14) 15 (m.1 14 15))) 8 (upd ((q_mok m).1 8) (m.1 14 13).toNatClampNeg a)) 14 (upd (upd ((q_mok m).1 14) 15 (m.1 14 15)) 13 ((m.1 14 13) + 1)) := by
      have eu : upd ((q_mok m).1 14) 15 (m.1 14 15) = (q_mok m).1 14 := by
        funext k
        by_cases e9 : k = 15
        · rw [q_upE _ _ e9, e9]; rfl
        · rw [q_upN _ _ e9]
      rw [eu]
      have ei : q_sA (q_mok m) 14 ((q_mok m).1 14) = q_mok m := by
        refine Prod.ext ?_ rfl
        funext k
        show cond (Nat.beq k 14) ((q_mok m).1 14) ((q_mok m).1 k) = (q_mok m).1 k
        cases e9 : Nat.beq k 14 with
        | false => rfl
        | true => rw [Nat.eq_of_beq_eq_true e9]; rfl
      rw [ei]
    rw [← es] at t
    obtain ⟨g1, g2⟩ := q_actE t
    refine ⟨_, _, (m.1 14 13) + 1, eX, ?_, g1, g2⟩
    rw [eM, q_lt_T e, cond_true]
    unfold dz_M301_64_56 q_let
    dsimp only
    rw [q_205A]
    show cond (q_in (m.1 14 13) 40) _ none = _
    rw [hin]
    rfl
  · have t := tp a (by rw [if_neg e])
    obtain ⟨g1, g2⟩ := q_actE t
    refine ⟨_, _, (m.1 14 13) + 1, eX, ?_, g1, g2⟩
    rw [eM, q_lt_F (by omega), cond_false]
    unfold dz_M301_64_56 q_let
    dsimp only
    rw [q_205A]
    show cond (q_in (m.1 14 13) 40) _ none = _
    rw [hin]
    rfl
/-- rewind -/
theorem q_aRew (h : q_RO m x m) (hI : q_Iv c d w m) (a b e0 : Int32) : ∃ y m2 r, dz_N79_64 x 12 a b e0 = some (y, r) ∧ dz_M302_64 m = (m2, r) ∧ q_RO m2 y m2 ∧ q_Act m m2 := by
  have h0 := q_ROk h
  have z0 : (0 : Int32).toInt = 0 := rfl
  have n0 : 0 ≤ (m.1 14 13).toInt := (hI.1 14 13).1
  have ek : (m.1 14 13).toNatClampNeg = (m.1 14 13).toInt.toNat := rfl
  have tp : ∀ t : Int32, (if 0 < (m.1 14 13).toInt then t = m.1 8 0 else t = 0) → q_RO (q_mok m) (q_sI (q_sI x 8 2 0) 8 3 0) (q_sA (q_sA (q_mok m) 14 (upd ((q_mok m).1 14) 14 0)) 14 (upd (upd ((q_mok m).1 14) 14 0) 15 t)) := fun t ht => by
    obtain ⟨h1, h2, h3, ⟨b1, b2, b3, b4, b5, b6, b7, b8⟩, h5, h6, h7, h8⟩ := h0
    have b2' : x.2.1 8 1 = m.1 14 13 := b2
    rw [b2'] at b6
    refine ⟨h1, h2, h3, ⟨b1, b2, rfl, b4, ?_, (fun k hk => b6 k (by have hk' : k < (x.2.1 8 1).toNatClampNeg := hk; rw [b2'] at hk'; exact hk')), fun q => ?_, fun q => rfl⟩, h5, h6, h7, h8⟩
    · show (0 : Int32).toInt ≤ (x.2.1 8 1).toInt
      rw [b2']; omega
    · show t.toInt = (x.1 9 0).toInt - (0 : Int32).toInt ∧ (0 : Int) ≤ (0 : Int32).toInt ∧ (0 : Int32).toInt < (x.1 9 0).toInt
      have q' : (0 : Int32).toInt < (x.2.1 8 1).toInt := q
      rw [b2'] at q'
      rw [if_pos (by omega)] at ht
      have r := b6 0 (by omega)
      have r1 := r.1
      have e1 : x.1 9 0 = m.1 8 0 := b1 0 (by omega)
      rw [ht, ← e1]
      omega
  have eM : dz_M302_64 m = cond (decide ((0 : Int32) < m.1 14 13)) (dz_M205_64 (q_sA (q_sA (q_mok m) 14 (upd ((q_mok m).1 14) 14 0)) 14 (upd (upd ((q_mok m).1 14) 14 0) 15 (m.1 8 0))), m.1 14 14) (dz_M205_64 (q_sA (q_sA (q_mok m) 14 (upd ((q_mok m).1 14) 14 0)) 14 (upd (upd ((q_mok m).1 14) 14 0) 15 0)), m.1 14 14) := by
    unfold dz_M302_64 q_let
    rw [q_209]
    rfl
  have eX : dz_N79_64 x 12 a b e0 = some (q_sI (q_sI x 8 2 0) 8 3 0, m.1 14 14) := by
    show some (q_sI (q_sI x 8 2 0) 8 3 0, x.2.1 8 2) = _
    rw [h.r4.2.2.1]
  rw [eM]
  by_cases e : 0 < (m.1 14 13).toInt
  · obtain ⟨g1, g2⟩ := q_actE (tp (m.1 8 0) (by rw [if_pos e]))
    exact ⟨_, _, m.1 14 14, eX, by rw [q_lt_T (by omega), cond_true], g1, g2⟩
  · obtain ⟨g1, g2⟩ := q_actE (tp 0 (by rw [if_neg e]))
    exact ⟨_, _, m.1 14 14, eX, by rw [q_lt_F (by omega), cond_false], g1, g2⟩
end
end
section
-- 54.l
section
variable {TT TT2 : (Nat → Int32) → Int32 → (Nat → Int32) → Int32 → Int64 → Int64 → List Int32 → List (Nat → Int32) → (Nat → Int64) → Prop} {x y z m : q_S} {c d w : Int} {K : Int64} {F : List Int32} {W : List (Nat → Int32)} {Q : Nat → Int64}
theorem q_sAsA (s : q_S) (i : Nat) (f g : Nat → Int32) : q_sA (q_sA s i f) i g = q_sA s i g := by
  refine Prod.ext ?_ rfl
  funext k
  show cond (Nat.beq k i) g (cond (Nat.beq k i) f (s.1 k)) = cond (Nat.beq k i) g (s.1 k)
  cases Nat.beq k i <;> rfl
theorem q_sAid (s : q_S) (i : Nat) : q_sA s i (s.1 i) = s := by
  refine Prod.ext ?_ rfl
  funext k
  show cond (Nat.beq k i) (s.1 i) (s.1 k) = s.1 k
  cases e : Nat.beq k i with
  | false => rfl
  | true => rw [Nat.eq_of_beq_eq_true e]; rfl
/-- assemble: what is behind its checks, in the model -/
def q_asM (s : q_S) (a b e0 : Int32) : Option (q_S × Int32) := (dz_M215_64 s a b).bind fun r28 => q_let (dz_M246 r28 b) fun r29 => cond (decide (1 < r29)) (q_let (dz_M213 r28 (a + 1)) fun r30 => (dz_M215_64 r28 r30 (e0 - e0 / 256 * 256)).bind fun r31 => dz_M279_64_90 r31 a b e0) (dz_M279_64_90 r28 a b e0)
theorem q_246s (s t : q_S) (b : Int32) : dz_M246 s b = dz_M246 t b := rfl
theorem q_aAsm (h : q_RO m x m) (hI : q_Iv c d w m) (a b e0 : Int32) (ha : q_rgz 0 4095 a) (hb : q_rgz 0 255 b) (he : q_rgz 0 4095 e0) (hl : (dz_M246 m b).toInt = 2 → e0.toInt ≤ 255) : ∃ y m2 r, dz_N79_64 x 3 a b e0 = some (y, r) ∧ dz_M279_64 m a b e0 = some (m2, r) ∧ q_RO m2 y m2 ∧ q_Act m m2 := by
  have a0 := ha.1
  have a1 := ha.2
  have b0 := hb.1
  have b1 := hb.2
  have c0 := he.1
  have c1 := he.2
  have z1 : (1 : Int32).toInt = 1 := rfl
  have z2 : (2 : Int32).toInt = 2 := rfl
  have h0 := q_ROk h
  obtain ⟨-, t2, -⟩ := q_code x m hb
  have e8 : b &&& 255 = b := by
    apply Int32.toInt_inj.mp
    rw [q_andI 8 (by decide) hb (by decide) (show (255 : Int32).toInt = 2 ^ 8 - 1 from rfl)]
    show b.toInt % 256 = _
    omega
  have s8 : e0 >>> ((8 &&& 31 : Int32)) = e0 / 256 := by
    apply Int32.toInt_inj.mp
    rw [q_shrI 8 rfl (by decide), q_toInt_div c0 (by decide)]; rfl
  have m8 : e0 &&& 255 = e0 - e0 / 256 * 256 := (q_m8z he).symm
  have r8 : q_rgz 0 255 (e0 / 256) := q_rg_le (q_rg_div (c := 256) (U := 15) he (by decide) rfl (by decide) (by decide)) (by decide) (by decide)
  have rm : q_rgz 0 255 (e0 &&& 255) := q_rg_and _ 255 (by decide) rfl
  have ra1 : q_rgz 0 4095 ((a + 1) &&& 4095) := q_rg_and _ 4095 (by decide) rfl
  have ra2 : q_rgz 0 4095 ((a + 2) &&& 4095) := q_rg_and _ 4095 (by decide) rfl
  -- the last byte and the result
  have lst : ∀ x1 m1, q_RO (q_mok m) x1 m1 → q_Iv c d w m1 → ∃ y m2, dz_N100_65_34 x1 a e0 (dz_M246 m b) = some (y, (a + dz_M246 m b) &&& 4095) ∧ dz_M279_64_90 m1 a b e0 = some (dz_M205_64 m2, (a + dz_M246 m b) &&& 4095) ∧ q_RO (q_mok m) y m2 := fun x1 m1 R1 I1 => by
    unfold dz_N100_65_34 dz_M279_64_90 q_let
    dsimp only
    rw [q_246s m1 m b]
    cases decide (2 < dz_M246 m b) with
    | false => exact ⟨x1, m1, rfl, rfl, R1⟩
    | true =>
      obtain ⟨y, m2, f1, f2, f3, -⟩ := q_wr94 R1 I1 ((a + 2) &&& 4095) (e0 / 256) ra2 r8
      have f2' : dz_M215_64 m1 (dz_M213 m1 (a + 2)) (e0 / 256) = some m2 := f2
      exact ⟨y, m2, by rw [cond_true, s8, f1]; rfl, by rw [cond_true, f2']; rfl, f3⟩
  obtain ⟨y1, m1, f1, f2, f3, f4, -⟩ := q_wr94 h0 (q_Ivk hI) a b ha hb
  have key : ∃ y m2, dz_N100_65 x a b e0 = some (y, (a + dz_M246 m b) &&& 4095) ∧ q_asM (q_mok m) a b e0 = some (dz_M205_64 m2, (a + dz_M246 m b) &&& 4095) ∧ q_RO (q_mok m) y m2 := by
    unfold dz_N100_65 q_asM q_let
    dsimp only
    rw [t2, f1, f2, Option.bind_some, Option.bind_some, q_246s m1 m b]
    cases decide (1 < dz_M246 m b) with
    | false => exact lst y1 m1 f3 f4
    | true =>
      obtain ⟨y2, m2, g1, g2, g3, g4, -⟩ := q_wr94 f3 f4 ((a + 1) &&& 4095) (e0 &&& 255) ra1 rm
      have g2' : dz_M215_64 m1 (dz_M213 m1 (a + 1)) (e0 - e0 / 256 * 256) = some m2 := by rw [← m8]; exact g2
      rw [cond_true, cond_true, g1, g2', Option.bind_some, Option.bind_some]
      exact lst y2 m2 g3 g4
  obtain ⟨y, m2, k1, k2, k3⟩ := key
  obtain ⟨g1, g2⟩ := q_actE k3
  refine ⟨y, _, (a + dz_M246 m b) &&& 4095, ?_, ?_, g1, g2⟩
  · show ((dz_N100_65 x a b e0).bind fun r5 => some (r5.1, r5.2)) = _
    rw [k1]; rfl
  · rw [← k2]
    unfold dz_M279_64 dz_M204 dz_M203 q_let
    dsimp only
    rw [q_202T (v := a) (by show (0 : Int) ≤ _; omega) (by show _ ≤ (4095 : Int); omega), q_202T (v := b) (by show (0 : Int) ≤ _; omega) (by show _ ≤ (255 : Int); omega), e8]
    by_cases k : (dz_M246 m b).toInt = 2
    · have := hl k
      rw [q_eq_T (show (dz_M246 m b).toInt = (2 : Int32).toInt by omega), q_202T (v := e0) (lo := 0) (hi := 255) (by show (0 : Int) ≤ _; omega) (by show _ ≤ (255 : Int); omega), q_yM200]
      rfl
    · rw [q_eq_F (show ¬ (dz_M246 m b).toInt = (2 : Int32).toInt by omega), q_202T (v := e0) (lo := 0) (hi := 4095) (by show (0 : Int) ≤ _; omega) (by show _ ≤ (4095 : Int); omega), q_yM200]
      rfl
end
end
section
-- 54.m
section
variable {TT TT2 : (Nat → Int32) → Int32 → (Nat → Int32) → Int32 → Int64 → Int64 → List Int32 → List (Nat → Int32) → (Nat → Int64) → Prop} {x y z m : q_S} {c d w : Int} {K : Int64} {F : List Int32} {W : List (Nat → Int32)} {Q : Nat → Int64}
/-- the loops that put a value into a row -/
theorem q_lp4 (v1 : Int32) : ∀ (n f : Nat) (s : q_S) (v2 : Int32), v2.toInt + n = 48 → 0 ≤ v2.toInt → n ≤ f → ∃ g, dz_N318_68_5 (f + 1) s v1 v2 48 = some (q_sA s 4 g) ∧ (∀ k : Nat, (k : Int) < v2.toInt ∨ 48 ≤ k → g k = s.1 4 k) ∧ (∀ k : Nat, v2.toInt ≤ (k : Int) → k < 48 → g k = v1) := by
  intro n
  induction n with
  | zero =>
    intro f s v2 h1 h2 h3
    refine ⟨s.1 4, ?_, fun _ _ => rfl, fun k hk hk2 => absurd hk (by omega)⟩
    rw [dzs_N318_68_5]
    dsimp only
    rw [q_lt_F (by show (48 : Int) ≤ _; omega), cond_false, q_sAid]
  | succ n ih =>
    intro f s v2 h1 h2 h3
    obtain ⟨f, rfl⟩ : ∃ f', f = f' + 1 := ⟨f - 1, by omega⟩
    have e1 : (v2 + 1).toInt = v2.toInt + 1 := q_addI ⟨by omega, by omega⟩ ⟨by decide, by decide⟩
    have ek : v2.toNatClampNeg = v2.toInt.toNat := rfl
    obtain ⟨g, a1, a2, a3⟩ := ih f (q_sA s 4 (upd (s.1 4) v2.toNatClampNeg v1)) (v2 + 1) (by omega) (by omega) (by omega)
    have hu : ∀ k, (q_sA s 4 (upd (s.1 4) v2.toNatClampNeg v1)).1 4 k = upd (s.1 4) v2.toNatClampNeg v1 k := fun _ => rfl
    refine ⟨g, ?_, fun k hk => ?_, fun k hk hk2 => ?_⟩
    · rw [dzs_N318_68_5]
      generalize dz_N318_68_5 (f + 1) = kk at a1 ⊢
      dsimp only
      rw [q_lt_T (by show _ < (48 : Int); omega), cond_true, q_in_rg (l := 0) (u := 47) ⟨h2, by omega⟩ (by decide) (by decide), cond_true, a1, q_sAsA]
    · rw [a2 k (by omega), hu, q_upN _ _ (by omega)]
    · by_cases e : k = v2.toNatClampNeg
      · rw [a2 k (by omega), hu, q_upE _ _ e]
      · exact a3 k (by omega) hk2
theorem q_lpM7 : ∀ (n f : Nat) (s : q_S) (v1 : Int32), v1.toInt + n = 48 → 0 ≤ v1.toInt → n ≤ f → ∃ g, dz_M291_64_7 (f + 1) s v1 = dz_M291_64_28 5000 (q_sA s 4 g) 0 ∧ (∀ k : Nat, (k : Int) < v1.toInt ∨ 48 ≤ k → g k = s.1 4 k) ∧ (∀ k : Nat, v1.toInt ≤ (k : Int) → k < 48 → g k = 0) := by
  intro n
  induction n with
  | zero =>
    intro f s v2 h1 h2 h3
    refine ⟨s.1 4, ?_, fun _ _ => rfl, fun k hk hk2 => absurd hk (by omega)⟩
    rw [dzs_M291_64_7]
    generalize dz_M291_64_28 5000 = kk
    dsimp only
    rw [q_lt_F (by show (48 : Int) ≤ _; omega), cond_false, q_sAid]
  | succ n ih =>
    intro f s v2 h1 h2 h3
    obtain ⟨f, rfl⟩ : ∃ f', f = f' + 1 := ⟨f - 1, by omega⟩
    have e1 : (v2 + 1).toInt = v2.toInt + 1 := q_addI ⟨by omega, by omega⟩ ⟨by decide, by decide⟩
    have ek : v2.toNatClampNeg = v2.toInt.toNat := rfl
    obtain ⟨g, a1, a2, a3⟩ := ih f (q_sA s 4 (upd (s.1 4) v2.toNatClampNeg 0)) (v2 + 1) (by omega) (by omega) (by omega)
    have hu : ∀ k, (q_sA s 4 (upd (s.1 4) v2.toNatClampNeg 0)).1 4 k = upd (s.1 4) v2.toNatClampNeg 0 k := fun _ => rfl
    refine ⟨g, ?_, fun k hk => ?_, fun k hk hk2 => ?_⟩
    · rw [dzs_M291_64_7]
      generalize dz_M291_64_7 (f + 1) = kk at a1 ⊢
      generalize dz_M291_64_28 5000 = kk2 at a1 ⊢
      dsimp only
      rw [q_lt_T (by show _ < (48 : Int); omega), cond_true, q_in_rg (l := 0) (u := 47) ⟨h2, by omega⟩ (by decide) (by decide), cond_true, a1, q_sAsA]
    · rw [a2 k (by omega), hu, q_upN _ _ (by omega)]
    · by_cases e : k = v2.toNatClampNeg
      · rw [a2 k (by omega), hu, q_upE _ _ e]
      · exact a3 k (by omega) hk2
def q_z28 (s : q_S) (g : Nat → Int32) : q_S := q_sA s 14 (upd (upd g 3 255) 17 0)
theorem q_lpM28 : ∀ (n f : Nat) (s : q_S) (v1 : Int32), v1.toInt + n = 12 → 0 ≤ v1.toInt → n ≤ f → ∃ g, dz_M291_64_28 (f + 1) s v1 = dz_M291_64_66 5000 (q_z28 s g) 0 ∧ (∀ k : Nat, (k : Int) < v1.toInt ∨ 12 ≤ k → g k = s.1 14 k) ∧ (∀ k : Nat, v1.toInt ≤ (k : Int) → k < 12 → g k = 0) := by
  intro n
  induction n with
  | zero =>
    intro f s v2 h1 h2 h3
    refine ⟨s.1 14, ?_, fun _ _ => rfl, fun k hk hk2 => absurd hk (by omega)⟩
    rw [dzs_M291_64_28]
    generalize dz_M291_64_66 5000 = kk
    unfold q_z28 q_let
    dsimp only
    rw [q_lt_F (by show (12 : Int) ≤ _; omega), cond_false, q_sAsA]
    rfl
  | succ n ih =>
    intro f s v2 h1 h2 h3
    obtain ⟨f, rfl⟩ : ∃ f', f = f' + 1 := ⟨f - 1, by omega⟩
    have e1 : (v2 + 1).toInt = v2.toInt + 1 := q_addI ⟨by omega, by omega⟩ ⟨by decide, by decide⟩
    have ek : v2.toNatClampNeg = v2.toInt.toNat := rfl
    obtain ⟨g, a1, a2, a3⟩ := ih f (q_sA s 14 (upd (s.1 14) v2.toNatClampNeg 0)) (v2 + 1) (by omega) (by omega) (by omega)
    have hu : ∀ k, (q_sA s 14 (upd (s.1 14) v2.toNatClampNeg 0)).1 14 k = upd (s.1 14) v2.toNatClampNeg 0 k := fun _ => rfl
    unfold q_z28 at a1 ⊢
    refine ⟨g, ?_, fun k hk => ?_, fun k hk hk2 => ?_⟩
    · rw [dzs_M291_64_28]
      generalize dz_M291_64_28 (f + 1) = kk at a1 ⊢
      generalize dz_M291_64_66 5000 = kk2 at a1 ⊢
      dsimp only
      rw [q_lt_T (by show _ < (12 : Int); omega), cond_true, q_in_rg (l := 0) (u := 11) ⟨h2, by omega⟩ (by decide) (by decide), cond_true, a1, q_sAsA]
    · rw [a2 k (by omega), hu, q_upN _ _ (by omega)]
    · by_cases e : k = v2.toNatClampNeg
      · rw [a2 k (by omega), hu, q_upE _ _ e]
      · exact a3 k (by omega) hk2
def q_z66 (s : q_S) : Option (q_S × Int32) := (dz_M248_64 s 3836).bind fun r2 => q_let (dz_M205_64 (q_sA r2.1 14 (upd (r2.1.1 14) 4 r2.2))) fun r3 => some (r3, ((r3.1 14) 4))
theorem q_lpM66 : ∀ (n f : Nat) (s : q_S) (v1 : Int32), v1.toInt + n = 8 → 0 ≤ v1.toInt → n ≤ f → ∃ g, dz_M291_64_66 (f + 1) s v1 = q_z66 (q_sA s 15 g) ∧ (∀ k : Nat, (k : Int) < v1.toInt ∨ 8 ≤ k → g k = s.1 15 k) ∧ (∀ k : Nat, v1.toInt ≤ (k : Int) → k < 8 → g k = q_b (Nat.beq k 3)) := by
  intro n
  induction n with
  | zero =>
    intro f s v2 h1 h2 h3
    refine ⟨s.1 15, ?_, fun _ _ => rfl, fun k hk hk2 => absurd hk (by omega)⟩
    rw [dzs_M291_64_66]
    dsimp only
    rw [q_lt_F (by show (8 : Int) ≤ _; omega), cond_false, q_sAid]
    rfl
  | succ n ih =>
    intro f s v2 h1 h2 h3
    obtain ⟨f, rfl⟩ : ∃ f', f = f' + 1 := ⟨f - 1, by omega⟩
    have e1 : (v2 + 1).toInt = v2.toInt + 1 := q_addI ⟨by omega, by omega⟩ ⟨by decide, by decide⟩
    have ek : v2.toNatClampNeg = v2.toInt.toNat := rfl
    have z3 : (3 : Int32).toInt = 3 := rfl
    obtain ⟨g, a1, a2, a3⟩ := ih f (q_sA s 15 (upd (s.1 15) v2.toNatClampNeg (q_b (Nat.beq v2.toNatClampNeg 3)))) (v2 + 1) (by omega) (by omega) (by omega)
    have hu : ∀ k, (q_sA s 15 (upd (s.1 15) v2.toNatClampNeg (q_b (Nat.beq v2.toNatClampNeg 3)))).1 15 k = upd (s.1 15) v2.toNatClampNeg (q_b (Nat.beq v2.toNatClampNeg 3)) k := fun _ => rfl
    refine ⟨g, ?_, fun k hk => ?_, fun k hk hk2 => ?_⟩
    · rw [dzs_M291_64_66]
      generalize dz_M291_64_66 (f + 1) = kk at a1 ⊢
      dsimp only
      rw [q_lt_T (by show _ < (8 : Int); omega), cond_true, q_in_rg (l := 0) (u := 7) ⟨h2, by omega⟩ (by decide) (by decide)]
      rw [q_sAsA] at a1
      by_cases e3 : v2.toInt = 3
      · rw [show v2 = 3 from Int32.toInt_inj.mp e3] at a1 ⊢
        exact a1
      · rw [q_eq_F (by omega), cond_false, cond_true]
        have e9 : Nat.beq v2.toNatClampNeg 3 = false := by
          cases e9 : Nat.beq v2.toNatClampNeg 3 with
          | false => rfl
          | true => exact absurd (Nat.eq_of_beq_eq_true e9) (by omega)
        rw [e9] at a1
        exact a1
    · rw [a2 k (by omega), hu, q_upN _ _ (by omega)]
    · by_cases e : k = v2.toNatClampNeg
      · rw [a2 k (by omega), hu, q_upE _ _ e, e]
      · exact a3 k (by omega) hk2
theorem q_N318b (s : q_S) : dz_N318_71 s 0 = some (q_sA s 7 (upd (upd (s.1 7) 0 0) 1 0)) := by
  unfold dz_N318_71
  rw [show (5000 : Nat) = 4997 + 1 + 1 + 1 from rfl, dzs_N318_71_5]
  show dz_N318_71_5 (4997 + 1 + 1) (q_sA s 7 (upd (s.1 7) 0 0)) 0 1 2 = _
  rw [dzs_N318_71_5]
  show dz_N318_71_5 (4997 + 1) (q_sA (q_sA s 7 (upd (s.1 7) 0 0)) 7 (upd (upd (s.1 7) 0 0) 1 0)) 0 2 2 = _
  rw [dzs_N318_71_5]
  show some (q_sA (q_sA s 7 (upd (s.1 7) 0 0)) 7 (upd (upd (s.1 7) 0 0) 1 0)) = _
  rw [q_sAsA s 7 (upd (s.1 7) 0 0) (upd (upd (s.1 7) 0 0) 1 0)]
end
end
section
-- 54.n
section
variable {TT TT2 : (Nat → Int32) → Int32 → (Nat → Int32) → Int32 → Int64 → Int64 → List Int32 → List (Nat → Int32) → (Nat → Int64) → Prop} {x y z m : q_S} {c d w : Int} {K : Int64} {F : List Int32} {W : List (Nat → Int32)} {Q : Nat → Int64}
theorem q_NFI (h : q_NF x y) (i k : Nat) (v : Int32) : q_NF (q_sI x i k v) (q_sI y i k v) := by
  refine ⟨h.1, fun j hj => ?_, h.2.2⟩
  funext n
  show cond (Nat.beq j i) (cond (Nat.beq n k) v (y.2.1 j n)) (y.2.1 j n) = cond (Nat.beq j i) (cond (Nat.beq n k) v (x.2.1 j n)) (x.2.1 j n)
  rw [h.2.1 j hj]
theorem q_NFA (h : q_NF x y) (i : Nat) {f g : Nat → Int32} (e : g = f) : q_NF (q_sA x i f) (q_sA y i g) := by
  refine ⟨fun j hj => ?_, h.2.1, h.2.2⟩
  show cond (Nat.beq j i) g (y.1 j) = cond (Nat.beq j i) f (x.1 j)
  rw [e, h.1 j hj]
/-- the class' machine after a reset, before the new P -/
def q_xr (x : q_S) (g4 : Nat → Int32) : q_S := q_sI (q_sI (q_sI (q_sI (q_sI (q_sI (q_sI (q_sI (q_sA (q_sA x 4 g4) 7 (upd (upd (x.1 7) 0 0) 1 0)) 23 0 0) 23 1 0) 23 2 0) 23 3 255) 23 5 4) 23 6 0) 23 7 0) 23 9 0
def q_mr (m : q_S) (f4 f14 f15 : Nat → Int32) : q_S := q_sA (q_sA (q_sA m 4 f4) 14 (upd (upd f14 3 255) 17 0)) 15 f15
theorem q_xrR (h : q_RO m x m) {g4 f4 f14 f15 : Nat → Int32} (a1 : ∀ k : Nat, k < 48 → g4 k = 0) (a2 : ∀ k : Nat, k < 48 → f4 k = 0) (a3 : ∀ k : Nat, k < 12 → f14 k = 0) (a4 : ∀ k : Nat, 12 ≤ k → f14 k = m.1 14 k) (a5 : ∀ k : Nat, k < 8 → f15 k = q_b (Nat.beq k 3)) : q_R (q_TT0 0 (q_svF m) (q_svW m) (m.2.2 31)) (q_sI (q_xr x g4) 23 4 0) (q_mr m f4 f14 f15) := by
  have hJ0 : m.1 15 7 = m.1 15 7 := rfl
  have t := q_R_t h
  obtain ⟨h1, h2, h3, h4, h5, ⟨p1, p2, p3, p4, p5, p6, p7, p8, p9, p10, p11⟩, h7, h8⟩ := h
  have u14 : ∀ k, k ≠ 3 → k ≠ 17 → (q_mr m f4 f14 f15).1 14 k = f14 k := fun k b1 b2 => by
    show upd (upd f14 3 255) 17 0 k = f14 k
    rw [q_upN _ _ b2, q_upN _ _ b1]
  have e7 : (q_sI (q_xr x g4) 23 4 0).1 7 0 = 0 ∧ (q_sI (q_xr x g4) 23 4 0).1 7 1 = 0 := by
    constructor
    · show upd (upd (x.1 7) 0 0) 1 0 0 = 0
      rw [q_upN _ _ (by decide), q_upE _ _ rfl]
    · show upd (upd (x.1 7) 0 0) 1 0 1 = 0
      rw [q_upE _ _ rfl]
  refine ⟨h1, ?_, ?_, ?_, ?_, ?_, h7, ?_⟩
  · refine ⟨⟨fun k hk _ => ?_, fun k hk hk2 => a1 k hk2⟩, ?_, ?_, ?_⟩
    · show g4 k = f4 k
      rw [a1 k (by omega), a2 k (by omega)]
    · rw [u14 9 (by decide) (by decide), a3 9 (by decide)]; exact a1 10 (by decide)
    · rw [u14 10 (by decide) (by decide), a3 10 (by decide)]; exact a1 29 (by decide)
    · rw [u14 11 (by decide) (by decide), a3 11 (by decide)]; exact a1 30 (by decide)
  · have g12 : (q_sI (q_xr x g4) 23 4 0).1 4 12 = 0 := a1 12 (by decide)
    have g13 : (q_sI (q_xr x g4) 23 4 0).1 4 13 = 0 := a1 13 (by decide)
    have g14 : (q_sI (q_xr x g4) 23 4 0).1 4 14 = 0 := a1 14 (by decide)
    have g15 : (q_sI (q_xr x g4) 23 4 0).1 4 15 = 0 := a1 15 (by decide)
    unfold q_R3
    rw [g12, g13, g14, g15, u14 7 (by decide) (by decide), u14 8 (by decide) (by decide), u14 5 (by decide) (by decide), u14 6 (by decide) (by decide), a3 7 (by decide), a3 8 (by decide), a3 5 (by decide), a3 6 (by decide), e7.1, e7.2]
    exact ⟨⟨⟨by decide, by decide⟩, ⟨by decide, by decide⟩, ⟨by decide, by decide⟩, ⟨by decide, by decide⟩⟩, by decide, by decide, rfl, rfl⟩
  · unfold q_R4
    rw [u14 13 (by decide) (by decide), u14 14 (by decide) (by decide), u14 16 (by decide) (by decide), u14 15 (by decide) (by decide), a4 13 (by decide), a4 14 (by decide), a4 16 (by decide), a4 15 (by decide)]
    exact h4
  · unfold q_R5
    rw [u14 12 (by decide) (by decide), a4 12 (by decide)]
    exact h5
  · have e3 : (q_mr m f4 f14 f15).1 14 3 = 255 := by
      show upd (upd f14 3 255) 17 0 3 = 255
      rw [q_upN _ _ (by decide), q_upE _ _ rfl]
    have e17 : (q_mr m f4 f14 f15).1 14 17 = 0 := by
      show upd (upd f14 3 255) 17 0 17 = 0
      rw [q_upE _ _ rfl]
    unfold q_R6
    rw [e3, e17, u14 0 (by decide) (by decide), u14 1 (by decide) (by decide), u14 2 (by decide) (by decide), u14 4 (by decide) (by decide), u14 18 (by decide) (by decide), u14 19 (by decide) (by decide), u14 20 (by decide) (by decide), a3 0 (by decide), a3 1 (by decide), a3 2 (by decide), a3 4 (by decide), a4 18 (by decide), a4 19 (by decide), a4 20 (by decide)]
    have c6 : (q_mr m f4 f14 f15).1 15 6 = 0 := a5 6 (by decide)
    have c7 : (q_mr m f4 f14 f15).1 15 7 = 0 := a5 7 (by decide)
    have c5 : (q_mr m f4 f14 f15).1 15 5 = 0 := a5 5 (by decide)
    have c4 : (q_mr m f4 f14 f15).1 15 4 = 0 := a5 4 (by decide)
    have c3 : (q_mr m f4 f14 f15).1 15 3 = 1 := a5 3 (by decide)
    have c2 : (q_mr m f4 f14 f15).1 15 2 = 0 := a5 2 (by decide)
    have c1 : (q_mr m f4 f14 f15).1 15 1 = 0 := a5 1 (by decide)
    have c0 : (q_mr m f4 f14 f15).1 15 0 = 0 := a5 0 (by decide)
    rw [c6, c7, c5, c4, c3, c2, c1, c0]
    exact ⟨⟨rfl, rfl, rfl, rfl⟩, fun _ => rfl, rfl, rfl, p5, rfl, p7, p8, t, by show (4 : Int32) = 0 + 2 * 0 + 4 * 1 + 8 * 0 + 64 * 0 + 128 * 0; decide, Or.inl rfl, by show q_rgz 0 9 (0 : Int32); exact ⟨by decide, by decide⟩⟩
  · exact ⟨⟨h8.1.1, by rw [show (q_sI (q_xr x g4) 23 4 0).1 4 1 = 0 from a1 1 (by decide)]; exact ⟨by decide, by decide⟩⟩, h8.2⟩
theorem q_rgla {i k : Nat} (hk : q_la i k ≤ 0) (hk2 : 0 ≤ q_ha d i k) : q_rgz (q_la i k) (q_ha d i k) 0 := ⟨hk, hk2⟩
theorem q_xrI (hI : q_Iv c d w m) {f4 f14 f15 : Nat → Int32} (a2 : ∀ k : Nat, k < 48 → f4 k = 0) (b2 : ∀ k : Nat, 48 ≤ k → f4 k = m.1 4 k) (a3 : ∀ k : Nat, k < 12 → f14 k = 0) (a4 : ∀ k : Nat, 12 ≤ k → f14 k = m.1 14 k) (a5 : ∀ k : Nat, k < 8 → f15 k = q_b (Nat.beq k 3)) (b5 : ∀ k : Nat, 8 ≤ k → f15 k = m.1 15 k) : q_Iv c d w (q_mr m f4 f14 f15) := by
  refine q_Iv_A (i := 15) (q_Iv_A (i := 14) (q_Iv_A (i := 4) hI fun k => ?_) (q_hf_up (q_hf_up (fun k => ?_) ?_) ?_)) fun k => ?_
  · by_cases e : k < 48
    · rw [a2 k e]
      refine ⟨by show (0 : Int) ≤ 0; decide, ?_⟩
      show (0 : Int) ≤ q_hg k
      unfold q_hg
      cases Nat.beq k 0 <;> cases Nat.beq k 44 <;> decide
    · rw [b2 k (by omega)]; exact hI.1 4 k
  · by_cases e : k < 12
    · rw [a3 k e]
      rcases (by omega : k = 0 ∨ k = 1 ∨ k = 2 ∨ k = 3 ∨ k = 4 ∨ k = 5 ∨ k = 6 ∨ k = 7 ∨ k = 8 ∨ k = 9 ∨ k = 10 ∨ k = 11) with e | e | e | e | e | e | e | e | e | e | e | e <;> subst e <;> first | exact ⟨by show (0 : Int) ≤ 0; decide, by show (0 : Int) ≤ 255; decide⟩ | exact ⟨by show (0 : Int) ≤ 0; decide, by show (0 : Int) ≤ 4095; decide⟩ | exact ⟨by show (0 : Int) ≤ 0; decide, by show (0 : Int) ≤ 65535; decide⟩ | exact ⟨by show (0 : Int) ≤ 0; decide, by show (0 : Int) ≤ 15; decide⟩
    · rw [a4 k (by omega)]; exact hI.1 14 k
  · exact ⟨by show (0 : Int) ≤ 255; decide, by show (255 : Int) ≤ 255; decide⟩
  · exact q_rg_full _
  · by_cases e : k < 8
    · rw [a5 k e]
      show q_rgz 0 1 _
      cases Nat.beq k 3 <;> exact ⟨by decide, by decide⟩
    · rw [b5 k (by omega)]; exact hI.1 15 k
theorem q_92P (x : q_S) (v : Int32) : dz_N92_65 (q_sI x 23 4 v) 3836 = dz_N92_65 x 3836 := rfl
/-- reset -/
theorem q_aRes (h : q_RO m x m) (hI : q_Iv c d w m) (a b e0 : Int32) : ∃ y m2 r, dz_N79_64 x 5 a b e0 = some (y, r) ∧ dz_M291_64 m = some (m2, r) ∧ q_RO m2 y m2 ∧ q_Act m m2 := by
  have h0 := q_ROk h
  have z0 : (0 : Int32).toInt = 0 := rfl
  obtain ⟨g4, b1, b2, b3⟩ := q_lp4 0 48 4999 x 0 (by rw [z0]; rfl) (by omega) (by omega)
  obtain ⟨f4, c1, c2, c3⟩ := q_lpM7 48 4999 (q_mok m) 0 (by rw [z0]; rfl) (by omega) (by omega)
  obtain ⟨f14, d1, d2, d3⟩ := q_lpM28 12 4999 (q_sA (q_mok m) 4 f4) 0 (by rw [z0]; rfl) (by omega) (by omega)
  obtain ⟨f15, e1, e2, e3⟩ := q_lpM66 8 4999 (q_z28 (q_sA (q_mok m) 4 f4) f14) 0 (by rw [z0]; rfl) (by omega) (by omega)
  have R1 : q_RO (q_mok m) (q_sI (q_xr x g4) 23 4 0) (q_mr (q_mok m) f4 f14 f15) := q_xrR h0 (fun k hk => b3 k (by omega) hk) (fun k hk => c3 k (by omega) hk) (fun k hk => d3 k (by omega) hk) (fun k hk => d2 k (Or.inr hk)) (fun k hk => e3 k (by omega) hk)
  have I1 : q_Iv c d w (q_mr (q_mok m) f4 f14 f15) := q_xrI (q_Ivk hI) (fun k hk => c3 k (by omega) hk) (fun k hk => c2 k (Or.inr hk)) (fun k hk => d3 k (by omega) hk) (fun k hk => d2 k (Or.inr hk)) (fun k hk => e3 k (by omega) hk) (fun k hk => e2 k (Or.inr hk))
  have e113 : dz_N113_66 x = some (q_sA x 4 g4) := by
    show ((dz_N318_68_5 (4999 + 1) x 0 0 48).bind fun r2 => some r2) = _
    rw [b1]; rfl
  have key : ∃ r3, dz_N96_65 x = some (q_sA r3 7 (upd (upd (r3.1 7) 0 0) 1 0)) ∧ q_NF (q_sA x 4 g4) r3 := by
    unfold dz_N96_65 q_let
    rw [e113, Option.bind_some]
    dsimp only
    rw [q_N318b, q_N318b]
    cases decide (lg_cmp ((((q_sA x 4 g4).2.2 1 8) / 960) - (((q_sA x 4 g4).2.2 1 8) / 960) / 2 * 2) 0 = 0) with
    | true => exact ⟨_, rfl, q_kp77 _ _ _⟩
    | false => exact ⟨_, rfl, q_kp82 _ _ _⟩
  obtain ⟨r3, k1, k2⟩ := key
  have nf := q_NFI (q_NFI (q_NFI (q_NFI (q_NFI (q_NFI (q_NFI (q_NFI (q_NFA k2 7 (f := upd (upd (x.1 7) 0 0) 1 0) (g := upd (upd (r3.1 7) 0 0) 1 0) (by rw [k2.1 7 rfl]; rfl)) 23 0 0) 23 1 0) 23 2 0) 23 3 255) 23 5 4) 23 6 0) 23 7 0) 23 9 0
  have nf2 : q_NF (q_xr x g4) _ := nf
  generalize hs : q_sI (q_sI (q_sI (q_sI (q_sI (q_sI (q_sI (q_sI (q_sA r3 7 (upd (upd (r3.1 7) 0 0) 1 0)) 23 0 0) 23 1 0) 23 2 0) 23 3 255) 23 5 4) 23 6 0) 23 7 0) 23 9 0 = s at nf2
  have R2 : q_RO (q_mok m) (q_sI s 23 4 0) (q_mr (q_mok m) f4 f14 f15) := q_R_NF R1 (q_NFI nf2 23 4 0)
  obtain ⟨lo, hi, m2, w1, w2, w3, w4, w5, w6, w7, w8⟩ := q_word R2 I1 3836
  have e92 : dz_N92_65 s 3836 = some ((lo + 256 * hi) &&& 4095) := by
    rw [← q_92P s 0]
    unfold dz_N92_65
    rw [w1, Option.bind_some, w2, Option.bind_some]
  have R3 : q_RO (q_mok m) (q_sI (q_sI s 23 4 0) 23 4 ((lo + 256 * hi) &&& 4095)) (q_sA m2 14 (upd (m2.1 14) 4 ((lo + 256 * hi) &&& 4095))) := q_R_p w5 _
  have eI : q_sI (q_sI s 23 4 0) 23 4 ((lo + 256 * hi) &&& 4095) = q_sI s 23 4 ((lo + 256 * hi) &&& 4095) := by
    have e : (q_sI (q_sI s 23 4 0) 23 4 ((lo + 256 * hi) &&& 4095)).2.1 = (q_sI s 23 4 ((lo + 256 * hi) &&& 4095)).2.1 := by
      funext i n
      show cond (Nat.beq i 23) (cond (Nat.beq n 4) ((lo + 256 * hi) &&& 4095) (cond (Nat.beq i 23) (cond (Nat.beq n 4) 0 (s.2.1 i n)) (s.2.1 i n))) (cond (Nat.beq i 23) (cond (Nat.beq n 4) 0 (s.2.1 i n)) (s.2.1 i n)) = cond (Nat.beq i 23) (cond (Nat.beq n 4) ((lo + 256 * hi) &&& 4095) (s.2.1 i n)) (s.2.1 i n)
      cases Nat.beq i 23 <;> cases Nat.beq n 4 <;> rfl
    exact Prod.ext rfl (Prod.ext e rfl)
  rw [eI] at R3
  obtain ⟨g1, g2⟩ := q_actE R3
  refine ⟨_, _, (lo + 256 * hi) &&& 4095, ?_, ?_, g1, g2⟩
  · show ((dz_N80_64 x).bind fun r7 => some (r7.1, r7.2)) = _
    unfold dz_N80_64 dz_N135_87_65
    rw [k1, Option.bind_some, hs, e92]
    rfl
  · have e291 : dz_M291_64 m = q_z66 (q_mr (q_mok m) f4 f14 f15) := by
      show dz_M291_64_7 (4999 + 1) (q_mok m) 0 = _
      rw [c1]
      show dz_M291_64_28 (4999 + 1) (q_sA (q_mok m) 4 f4) 0 = _
      rw [d1]
      show dz_M291_64_66 (4999 + 1) (q_z28 (q_sA (q_mok m) 4 f4) f14) 0 = _
      rw [e1]
      rfl
    rw [e291]
    unfold q_z66 q_let
    rw [w3, Option.bind_some]
    dsimp only
    rw [q_205A]
    have eu : (q_sA m2 14 (upd (m2.1 14) 4 ((lo + 256 * hi) &&& 4095))).1 14 4 = (lo + 256 * hi) &&& 4095 := by
      show upd (m2.1 14) 4 ((lo + 256 * hi) &&& 4095) 4 = _
      exact q_upE _ _ rfl
    rw [eu]
end
end
section
-- 54.o
section
variable {TT TT2 : (Nat → Int32) → Int32 → (Nat → Int32) → Int32 → Int64 → Int64 → List Int32 → List (Nat → Int32) → (Nat → Int64) → Prop} {x y z m : q_S} {c d w : Int} {K : Int64} {F : List Int32} {W : List (Nat → Int32)} {Q : Nat → Int64}
/-- the class' sum over pressed keys reads their rows alone -/
theorem q_c51 (k7 k7' : q_S → Int32 → Int32 → Int32 → Option Int32) (s s' : q_S) (h : s.1 11 = s'.1 11) (hk : ∀ v2 v3 v4, k7 s v2 v3 v4 = k7' s' v2 v3 v4) : ∀ (f : Nat) (v2 v3 v4 v5 : Int32), dz_N182_74_51 k7 f s v2 v3 v4 v5 = dz_N182_74_51 k7' f s' v2 v3 v4 v5 := by
  intro f
  induction f with
  | zero => intro v2 v3 v4 v5; rfl
  | succ f ih =>
    intro v2 v3 v4 v5
    rw [dzs_N182_74_51, dzs_N182_74_51]
    dsimp only
    rw [h, hk, ih, ih]
theorem q_c16 (k7 k7' : q_S → Int32 → Int32 → Int32 → Option Int32) (s s' : q_S) (h : s.1 11 = s'.1 11) (hk : ∀ v2 v3 v4, k7 s v2 v3 v4 = k7' s' v2 v3 v4) : ∀ (f : Nat) (v2 v3 v4 v5 : Int32), dz_N182_74_16 k7 f s v2 v3 v4 v5 = dz_N182_74_16 k7' f s' v2 v3 v4 v5 := by
  intro f
  induction f with
  | zero => intro v2 v3 v4 v5; rfl
  | succ f ih =>
    intro v2 v3 v4 v5
    rw [dzs_N182_74_16, dzs_N182_74_16]
    generalize e51 : dz_N182_74_51 k7 5000 s v2 v3 v4 0 = r51
    generalize e51' : dz_N182_74_51 k7' 5000 s' v2 v3 v4 0 = r51'
    have e9 : r51 = r51' := by rw [← e51, ← e51']; exact q_c51 k7 k7' s s' h hk 5000 v2 v3 v4 0
    dsimp only
    rw [h, ih, ih, e9]
theorem q_c7 (s s' : q_S) (h : s.1 11 = s'.1 11) : ∀ (f : Nat) (v2 v3 v4 : Int32), dz_N182_74_7 f s v2 v3 v4 = dz_N182_74_7 f s' v2 v3 v4 := by
  intro f
  induction f with
  | zero => intro v2 v3 v4; rfl
  | succ f ih =>
    intro v2 v3 v4
    rw [dzs_N182_74_7, dzs_N182_74_7]
    dsimp only
    rw [q_c16 (dz_N182_74_7 f) (dz_N182_74_7 f) s s' h ih 5000 v2 v3 v4 0]
theorem q_cs182 (s : q_S) (r : Int32) : dz_N182_74 s r = q_cs (s.1 11) r := by
  unfold q_cs dz_N182_74
  generalize (5000 : Nat) = N
  exact q_c7 s (fun _ => s.1 11, fun _ _ => 0, fun _ _ => 0) rfl N r 0 0
/-- the class' loop that sums the pressed keys for each choice of columns -/
theorem q_lp45 : ∀ (n f : Nat) (s : q_S) (v5 v6 : Int32), q_iN s → v6.toInt + n = 16 → 0 ≤ v6.toInt → n ≤ f → ∃ g, dz_N181_74_45 (f + 1) s v5 v6 = some (q_sA s 12 g, v5) ∧ (∀ k : Nat, (k : Int) < v6.toInt → g k = s.1 12 k) ∧ (∀ r : Int32, v6.toInt ≤ r.toInt → r.toInt ≤ 15 → q_cs (s.1 11) r = some (g r.toNatClampNeg)) := by
  intro n
  induction n with
  | zero =>
    intro f s v5 v6 hN h1 h2 h3
    refine ⟨s.1 12, ?_, fun _ _ => rfl, fun k hk hk2 => absurd hk (by omega)⟩
    rw [dzs_N181_74_45]
    dsimp only
    rw [q_lt_T (by show (15 : Int) < _; omega), cond_true, q_sAid]
  | succ n ih =>
    intro f s v5 v6 hN h1 h2 h3
    obtain ⟨f, rfl⟩ : ∃ f', f = f' + 1 := ⟨f - 1, by omega⟩
    have e1 : (v6 + 1).toInt = v6.toInt + 1 := q_addI ⟨by omega, by omega⟩ ⟨by decide, by decide⟩
    have ek : v6.toNatClampNeg = v6.toInt.toNat := rfl
    obtain ⟨r2, er, -⟩ := dzj_N182_74 s hN v6
    obtain ⟨g, a1, a2, a3⟩ := ih f (q_sA s 12 (upd (s.1 12) v6.toNatClampNeg r2)) v5 (v6 + 1) hN (by omega) (by omega) (by omega)
    have hu : ∀ k, (q_sA s 12 (upd (s.1 12) v6.toNatClampNeg r2)).1 12 k = upd (s.1 12) v6.toNatClampNeg r2 k := fun _ => rfl
    refine ⟨g, ?_, fun k hk => ?_, fun r hr hr2 => ?_⟩
    · rw [dzs_N181_74_45]
      generalize dz_N181_74_45 (f + 1) = kk at a1 ⊢
      dsimp only
      rw [q_lt_F (by show _ ≤ (15 : Int); omega), cond_false, er, Option.bind_some, q_in_rg (l := 0) (u := 15) ⟨h2, by omega⟩ (by decide) (by decide), cond_true, a1, q_sAsA]
    · rw [a2 k (by omega), hu, q_upN _ _ (by omega)]
    · by_cases e : r.toInt = v6.toInt
      · rw [show r = v6 from Int32.toInt_inj.mp e, a2 _ (by omega), hu, q_upE _ _ rfl, ← q_cs182, er]
      · exact a3 r (by omega) hr2
def q_k4 (p q r s : Bool) : Int32 := q_b p + 2 * q_b q + 4 * q_b r + 8 * q_b s
theorem q_k4t : ∀ p q r s v, (((q_k4 p q r s) &&& (((1 : Int32) <<< ((0 : Int32) &&& 31)) ^^^ (-1))) ||| (q_b v <<< ((0 : Int32) &&& 31)) = q_k4 v q r s ∧ ((q_k4 p q r s) >>> ((0 : Int32) &&& 31)) &&& 1 = q_b p) ∧ (((q_k4 p q r s) &&& (((1 : Int32) <<< ((1 : Int32) &&& 31)) ^^^ (-1))) ||| (q_b v <<< ((1 : Int32) &&& 31)) = q_k4 p v r s ∧ ((q_k4 p q r s) >>> ((1 : Int32) &&& 31)) &&& 1 = q_b q) ∧ (((q_k4 p q r s) &&& (((1 : Int32) <<< ((2 : Int32) &&& 31)) ^^^ (-1))) ||| (q_b v <<< ((2 : Int32) &&& 31)) = q_k4 p q v s ∧ ((q_k4 p q r s) >>> ((2 : Int32) &&& 31)) &&& 1 = q_b r) ∧ (((q_k4 p q r s) &&& (((1 : Int32) <<< ((3 : Int32) &&& 31)) ^^^ (-1))) ||| (q_b v <<< ((3 : Int32) &&& 31)) = q_k4 p q r v ∧ ((q_k4 p q r s) >>> ((3 : Int32) &&& 31)) &&& 1 = q_b s) := by decide
/-- key -/
theorem q_aKey (h : q_RO m x m) (hI : q_Iv c d w m) (a b : Int32) (v : Bool) (ha : q_rgz 0 3 a) (hb : q_rgz 0 3 b) : ∃ y m2 r, dz_N79_64 x 9 a b (q_b v) = some (y, q_b r) ∧ dz_M298_64 m a b (q_b v) = some (m2, r) ∧ q_RO m2 y m2 ∧ q_Act m m2 := by
  have a0 := ha.1
  have a1 := ha.2
  have b0 := hb.1
  have b1 := hb.2
  have h0 := q_ROk h
  have z0 : (0 : Int32).toInt = 0 := rfl
  have ea : a &&& 3 = a := by
    apply Int32.toInt_inj.mp
    rw [q_andI 2 (by decide) ha (by decide) (show (3 : Int32).toInt = 2 ^ 2 - 1 from rfl)]
    show a.toInt % 4 = _
    omega
  have e4 : (4 * a).toInt = 4 * a.toInt := q_mulI (n := 4) rfl (by decide) (by decide) ⟨by omega, by omega⟩
  have ei : ((4 * a) + b).toInt = 4 * a.toInt + b.toInt := by rw [q_addI ⟨by omega, by omega⟩ ⟨by omega, by omega⟩, e4]
  have ri : q_rgz 0 15 ((4 * a) + b) := ⟨by omega, by omega⟩
  have ek : ((4 * a) + b).toNatClampNeg = 4 * a.toNatClampNeg + b.toInt.toNat := by
    show ((4 * a) + b).toInt.toNat = 4 * a.toInt.toNat + b.toInt.toNat
    omega
  have ka : a.toNatClampNeg < 4 := by
    show a.toInt.toNat < 4
    omega
  have g7 : ∀ k, m.1 7 k = q_b (decide (m.1 7 k = 1)) := fun k => q_bOf (hI.1 7 k)
  have hN : q_iN x := by
    have i6 : q_rgz 0 1 (m.1 15 6) := hI.1 15 6
    have i7 : q_rgz 0 1 (m.1 15 7) := hI.1 15 7
    exact ⟨by rw [h.r6.2.2.1]; exact i6, by rw [h.r6.2.2.2.1]; exact i7⟩
  -- the row of the class, as Booleans
  generalize hA : a.toNatClampNeg = A at *
  have e11 : x.1 11 A = q_k4 (decide (m.1 7 (4 * A) = 1)) (decide (m.1 7 (4 * A + 1) = 1)) (decide (m.1 7 (4 * A + 2) = 1)) (decide (m.1 7 (4 * A + 3) = 1)) := by
    unfold q_k4
    rw [← g7, ← g7, ← g7, ← g7]
    exact h.r5.2.1 A ka
  -- the new row, and what the key was
  have row : ∃ new, ((x.1 11 A) &&& (((1 : Int32) <<< (b &&& 31)) ^^^ (-1))) ||| (q_b v <<< (b &&& 31)) = new ∧ new = upd (m.1 7) (4 * A + b.toInt.toNat) (q_b v) (4 * A) + 2 * upd (m.1 7) (4 * A + b.toInt.toNat) (q_b v) (4 * A + 1) + 4 * upd (m.1 7) (4 * A + b.toInt.toNat) (q_b v) (4 * A + 2) + 8 * upd (m.1 7) (4 * A + b.toInt.toNat) (q_b v) (4 * A + 3) ∧ ((x.1 11 A) >>> (b &&& 31)) &&& 1 = q_b (decide (m.1 7 (4 * A + b.toInt.toNat) = 1)) := by
    rw [e11]
    obtain ⟨⟨t1, t2⟩, ⟨t3, t4⟩, ⟨t5, t6⟩, t7, t8⟩ := q_k4t (decide (m.1 7 (4 * A) = 1)) (decide (m.1 7 (4 * A + 1) = 1)) (decide (m.1 7 (4 * A + 2) = 1)) (decide (m.1 7 (4 * A + 3) = 1)) v
    rcases (by omega : b.toInt = 0 ∨ b.toInt = 1 ∨ b.toInt = 2 ∨ b.toInt = 3) with e | e | e | e
    · rw [show b = 0 from Int32.toInt_inj.mp e]
      refine ⟨_, t1, ?_, t2⟩
      unfold q_k4
      rw [← g7, ← g7, ← g7]
      show _ = upd (m.1 7) (4 * A) (q_b v) (4 * A) + 2 * upd (m.1 7) (4 * A) (q_b v) (4 * A + 1) + 4 * upd (m.1 7) (4 * A) (q_b v) (4 * A + 2) + 8 * upd (m.1 7) (4 * A) (q_b v) (4 * A + 3)
      rw [q_upE _ _ rfl, q_upN _ _ (by omega), q_upN _ _ (by omega), q_upN _ _ (by omega)]
    · rw [show b = 1 from Int32.toInt_inj.mp e]
      refine ⟨_, t3, ?_, t4⟩
      unfold q_k4
      rw [← g7, ← g7, ← g7]
      show _ = upd (m.1 7) (4 * A + 1) (q_b v) (4 * A) + 2 * upd (m.1 7) (4 * A + 1) (q_b v) (4 * A + 1) + 4 * upd (m.1 7) (4 * A + 1) (q_b v) (4 * A + 2) + 8 * upd (m.1 7) (4 * A + 1) (q_b v) (4 * A + 3)
      rw [q_upN _ _ (by omega), q_upE _ _ rfl, q_upN _ _ (by omega), q_upN _ _ (by omega)]
    · rw [show b = 2 from Int32.toInt_inj.mp e]
      refine ⟨_, t5, ?_, t6⟩
      unfold q_k4
      rw [← g7, ← g7, ← g7]
      show _ = upd (m.1 7) (4 * A + 2) (q_b v) (4 * A) + 2 * upd (m.1 7) (4 * A + 2) (q_b v) (4 * A + 1) + 4 * upd (m.1 7) (4 * A + 2) (q_b v) (4 * A + 2) + 8 * upd (m.1 7) (4 * A + 2) (q_b v) (4 * A + 3)
      rw [q_upN _ _ (by omega), q_upN _ _ (by omega), q_upE _ _ rfl, q_upN _ _ (by omega)]
    · rw [show b = 3 from Int32.toInt_inj.mp e]
      refine ⟨_, t7, ?_, t8⟩
      unfold q_k4
      rw [← g7, ← g7, ← g7]
      show _ = upd (m.1 7) (4 * A + 3) (q_b v) (4 * A) + 2 * upd (m.1 7) (4 * A + 3) (q_b v) (4 * A + 1) + 4 * upd (m.1 7) (4 * A + 3) (q_b v) (4 * A + 2) + 8 * upd (m.1 7) (4 * A + 3) (q_b v) (4 * A + 3)
      rw [q_upN _ _ (by omega), q_upN _ _ (by omega), q_upN _ _ (by omega), q_upE _ _ rfl]
  obtain ⟨new, n1, n2, n3⟩ := row
  obtain ⟨g, l1, l2, l3⟩ := q_lp45 16 4999 (q_sA x 11 (upd (x.1 11) A new)) (q_b (decide (m.1 7 (4 * A + b.toInt.toNat) = 1))) 0 hN (by rw [z0]; rfl) (by omega) (by omega)
  have f3 : q_RO (q_mok m) (q_sA (q_sA x 11 (upd (x.1 11) A new)) 12 g) (q_sA (q_mok m) 7 (upd ((q_mok m).1 7) (4 * A + b.toInt.toNat) (q_b v))) := by
    obtain ⟨h1, h2, h3, h4, ⟨p1, p2, p3⟩, h6, h7, h8⟩ := h0
    refine ⟨h1, h2, h3, h4, ⟨p1, fun r hr => ?_, fun r hr => l3 r (by have := hr.1; omega) hr.2⟩, h6, h7, h8⟩
    show upd (x.1 11) A new r = upd (m.1 7) (4 * A + b.toInt.toNat) (q_b v) (4 * r) + 2 * upd (m.1 7) (4 * A + b.toInt.toNat) (q_b v) (4 * r + 1) + 4 * upd (m.1 7) (4 * A + b.toInt.toNat) (q_b v) (4 * r + 2) + 8 * upd (m.1 7) (4 * A + b.toInt.toNat) (q_b v) (4 * r + 3)
    by_cases e : r = A
    · rw [q_upE _ _ e, e]; exact n2
    · rw [q_upN _ _ e, q_upN _ _ (by omega), q_upN _ _ (by omega), q_upN _ _ (by omega), q_upN _ _ (by omega)]
      exact p2 r hr
  obtain ⟨g1, g2⟩ := q_actE f3
  refine ⟨_, _, decide (m.1 7 (4 * A + b.toInt.toNat) = 1), ?_, ?_, g1, g2⟩
  · show ((dz_N181_74 x a b (q_b v)).bind fun r11 => some (r11.1, r11.2)) = _
    unfold dz_N181_74 q_let
    dsimp only
    rw [ea, hA, n1, n3]
    have l1' : dz_N181_74_45 5000 (q_sA x 11 (upd (x.1 11) A new)) (q_b (decide (m.1 7 (4 * A + b.toInt.toNat) = 1))) 0 = _ := l1
    rw [l1']; rfl
  · have hz : q_z1 (m.1 7 (4 * A + b.toInt.toNat)) = true := q_z1_rg (hI.1 7 _)
    unfold dz_M298_64 q_let
    dsimp only
    rw [q_202T (v := a) (lo := 0) (hi := 3) (by show (0 : Int) ≤ _; omega) (by show _ ≤ (3 : Int); omega), q_202T (v := b) (lo := 0) (hi := 3) (by show (0 : Int) ≤ _; omega) (by show _ ≤ (3 : Int); omega), q_yM200, q_in_rg ri (by decide) (by decide), ek, q_nb]
    show cond (q_z1 (m.1 7 (4 * A + b.toInt.toNat))) _ none = _
    rw [hz]
    rfl
end
end
section
-- 54.p
section
variable {TT TT2 : (Nat → Int32) → Int32 → (Nat → Int32) → Int32 → Int64 → Int64 → List Int32 → List (Nat → Int32) → (Nat → Int64) → Prop} {x y z m : q_S} {c d w : Int} {K : Int64} {F : List Int32} {W : List (Nat → Int32)} {Q : Nat → Int64}
theorem q_in_nat {i : Int32} {n : Nat} (h : q_in i n = true) : i.toNatClampNeg < n := by
  unfold q_in at h
  rw [Bool.and_eq_true] at h
  exact of_decide_eq_true h.2
theorem q_d51 (k7 k7' : q_S → Int32 → Int32 → Int32 → Option Int32) (s s' : q_S) (h : ∀ k, k < 4 → s.1 11 k = s'.1 11 k) (hk : ∀ v2 v3 v4, k7 s v2 v3 v4 = k7' s' v2 v3 v4) : ∀ (f : Nat) (v2 v3 v4 v5 : Int32), dz_N182_74_51 k7 f s v2 v3 v4 v5 = dz_N182_74_51 k7' f s' v2 v3 v4 v5 := by
  intro f
  induction f with
  | zero => intro v2 v3 v4 v5; rfl
  | succ f ih =>
    intro v2 v3 v4 v5
    rw [dzs_N182_74_51, dzs_N182_74_51]
    dsimp only
    cases e : q_in v5 4 with
    | false => rw [hk]; rfl
    | true => rw [h v5.toNatClampNeg (q_in_nat e), hk, ih, ih]
theorem q_d16 (k7 k7' : q_S → Int32 → Int32 → Int32 → Option Int32) (s s' : q_S) (h : ∀ k, k < 4 → s.1 11 k = s'.1 11 k) (hk : ∀ v2 v3 v4, k7 s v2 v3 v4 = k7' s' v2 v3 v4) : ∀ (f : Nat) (v2 v3 v4 v5 : Int32), dz_N182_74_16 k7 f s v2 v3 v4 v5 = dz_N182_74_16 k7' f s' v2 v3 v4 v5 := by
  intro f
  induction f with
  | zero => intro v2 v3 v4 v5; rfl
  | succ f ih =>
    intro v2 v3 v4 v5
    rw [dzs_N182_74_16, dzs_N182_74_16]
    generalize e51 : dz_N182_74_51 k7 5000 s v2 v3 v4 0 = r51
    generalize e51' : dz_N182_74_51 k7' 5000 s' v2 v3 v4 0 = r51'
    have e9 : r51 = r51' := by rw [← e51, ← e51']; exact q_d51 k7 k7' s s' h hk 5000 v2 v3 v4 0
    dsimp only
    cases e : q_in v5 4 with
    | false => simp only [cond_false, ih, e9]
    | true => rw [h v5.toNatClampNeg (q_in_nat e), ih, ih, e9]
theorem q_d7 (s s' : q_S) (h : ∀ k, k < 4 → s.1 11 k = s'.1 11 k) : ∀ (f : Nat) (v2 v3 v4 : Int32), dz_N182_74_7 f s v2 v3 v4 = dz_N182_74_7 f s' v2 v3 v4 := by
  intro f
  induction f with
  | zero => intro v2 v3 v4; rfl
  | succ f ih =>
    intro v2 v3 v4
    rw [dzs_N182_74_7, dzs_N182_74_7]
    dsimp only
    rw [q_d16 (dz_N182_74_7 f) (dz_N182_74_7 f) s s' h ih 5000 v2 v3 v4 0]
theorem q_csP {f g : Nat → Int32} (h : ∀ k, k < 4 → f k = g k) (r : Int32) : q_cs f r = q_cs g r := by
  unfold q_cs dz_N182_74
  generalize (5000 : Nat) = N
  exact q_d7 (fun _ => f, fun _ _ => 0, fun _ _ => 0) (fun _ => g, fun _ _ => 0, fun _ _ => 0) h N r 0 0
/-- alike in all that the relation reads -/
def q_agX (x y : q_S) : Prop := (∀ k, k < 4096 → y.1 3 k = x.1 3 k) ∧ (∀ k, k < 48 → y.1 4 k = x.1 4 k) ∧ (∀ k, k < 512 → y.1 5 k = x.1 5 k) ∧ (∀ k, k < 2048 → y.1 6 k = x.1 6 k) ∧ (∀ k, k < 2 → y.1 7 k = x.1 7 k) ∧ (∀ k, k < 40 → y.1 9 k = x.1 9 k) ∧ (∀ k, k < 4 → y.1 11 k = x.1 11 k) ∧ (∀ k, k < 16 → y.1 12 k = x.1 12 k) ∧ (∀ k, k < 16 → y.1 24 k = x.1 24 k) ∧ (∀ k, k < 3 → y.1 26 k = x.1 26 k) ∧ (∀ k, k < 3 → y.1 27 k = x.1 27 k) ∧ (∀ k, k < 3 → y.1 28 k = x.1 28 k) ∧ (∀ k, k < 3 → y.1 29 k = x.1 29 k) ∧ (∀ k, k < 40 → y.1 30 k = x.1 30 k) ∧ (∀ k, k < 1024 → y.1 31 k = x.1 31 k) ∧ y.2.1 8 1 = x.2.1 8 1 ∧ y.2.1 8 2 = x.2.1 8 2 ∧ y.2.1 8 3 = x.2.1 8 3 ∧ y.2.1 8 4 = x.2.1 8 4 ∧ y.2.1 10 2 = x.2.1 10 2 ∧ y.2.1 23 0 = x.2.1 23 0 ∧ y.2.1 23 1 = x.2.1 23 1 ∧ y.2.1 23 2 = x.2.1 23 2 ∧ y.2.1 23 3 = x.2.1 23 3 ∧ y.2.1 23 4 = x.2.1 23 4 ∧ y.2.1 23 5 = x.2.1 23 5 ∧ y.2.1 23 6 = x.2.1 23 6 ∧ y.2.1 23 7 = x.2.1 23 7 ∧ y.2.1 23 8 = x.2.1 23 8 ∧ y.2.1 23 9 = x.2.1 23 9 ∧ y.2.1 23 10 = x.2.1 23 10 ∧ y.2.1 23 11 = x.2.1 23 11 ∧ y.2.2 1 8 = x.2.2 1 8 ∧ y.2.2 0 4 = x.2.2 0 4
def q_agM (m z : q_S) : Prop := (∀ k, k < 4096 → z.1 1 k = m.1 1 k) ∧ (∀ k, k < 512 → z.1 2 k = m.1 2 k) ∧ (∀ k, k < 2048 → z.1 3 k = m.1 3 k) ∧ (∀ k, k < 48 → z.1 4 k = m.1 4 k) ∧ (∀ k, k < 1024 → z.1 5 k = m.1 5 k) ∧ (∀ k, k < 40 → z.1 6 k = m.1 6 k) ∧ (∀ k, k < 16 → z.1 7 k = m.1 7 k) ∧ (∀ k, k < 40 → z.1 8 k = m.1 8 k) ∧ (∀ k, k < 16 → z.1 9 k = m.1 9 k) ∧ (∀ k, k < 3 → z.1 10 k = m.1 10 k) ∧ (∀ k, k < 3 → z.1 11 k = m.1 11 k) ∧ (∀ k, k < 3 → z.1 12 k = m.1 12 k) ∧ (∀ k, k < 3 → z.1 13 k = m.1 13 k) ∧ (∀ k, k < 24 → z.1 14 k = m.1 14 k) ∧ (∀ k, k < 8 → z.1 15 k = m.1 15 k) ∧ z.2.2 0 15 = m.2.2 0 15 ∧ z.2.2 0 16 = m.2.2 0 16
theorem q_R_ag (h : q_R TT x m) (ax : q_agX x y) (am : q_agM m z) (hn : (m.1 14 13).toInt ≤ 40) (hp : 0 ≤ (m.1 14 14).toInt) (t : TT2 (y.1 24) (y.2.1 23 11) (z.1 9) (z.1 14 20) (y.2.2 0 4) (z.2.2 0 16) [z.2.1 0 17, z.2.1 0 34, z.2.1 0 35, z.2.1 0 39] [z.1 16, z.1 17, z.1 18, z.1 19, z.1 20, z.1 21, z.1 22, z.1 23, z.1 24, z.1 25, z.1 26, z.1 27, z.1 28, z.1 29, z.1 30, z.1 31, z.1 32] (z.2.2 31)) : q_R TT2 y z := by
  obtain ⟨a3, a4, a5, a6, a7, a9, a11, a12, a24, a26, a27, a28, a29, a30, a31, i8_1, i8_2, i8_3, i8_4, i10_2, i23_0, i23_1, i23_2, i23_3, i23_4, i23_5, i23_6, i23_7, i23_8, i23_9, i23_10, i23_11, j8, j4⟩ := ax
  obtain ⟨m1, m2, m3, m4, m5, m6, m7, m8, m9, m10, m11, m12, m13, m14, m15, n15, n16⟩ := am
  obtain ⟨⟨h1a, h1b, h1c⟩, ⟨⟨h2a, h2b⟩, h2c, h2d, h2e⟩, h3, ⟨b1, b2, b3, b4, b5, b6, b7, b8⟩, ⟨c1, c2, c3⟩, ⟨⟨p1, p1b, p1c, p1d⟩, p2, p3, p4, p5, p6, p7, p8, p9, p10, p11⟩, ⟨h7a, h7b⟩, ⟨⟨h8a, h8b⟩, h8c⟩⟩ := h
  have f0 := m14 0 (by decide)
  have f1 := m14 1 (by decide)
  have f2 := m14 2 (by decide)
  have f3 := m14 3 (by decide)
  have f4 := m14 4 (by decide)
  have f5 := m14 5 (by decide)
  have f6 := m14 6 (by decide)
  have f7 := m14 7 (by decide)
  have f8 := m14 8 (by decide)
  have f9 := m14 9 (by decide)
  have f10 := m14 10 (by decide)
  have f11 := m14 11 (by decide)
  have f12 := m14 12 (by decide)
  have f13 := m14 13 (by decide)
  have f14 := m14 14 (by decide)
  have f15 := m14 15 (by decide)
  have f16 := m14 16 (by decide)
  have f17 := m14 17 (by decide)
  have f18 := m14 18 (by decide)
  have f19 := m14 19 (by decide)
  have kp : (m.1 14 14).toNatClampNeg = (m.1 14 14).toInt.toNat := rfl
  have kn : (m.1 14 13).toNatClampNeg = (m.1 14 13).toInt.toNat := rfl
  refine ⟨⟨fun k hk => ?_, fun k hk => ?_, fun k hk => ?_⟩, ⟨⟨fun k hk hq => ?_, fun k hk hk2 => ?_⟩, ?_, ?_, ?_⟩, ?_, ⟨fun k hk => ?_, ?_, ?_, ?_, ?_, fun k hk => ?_, ?_, ?_⟩, ⟨?_, fun r hr => ?_, fun r hr => ?_⟩, ⟨⟨?_, ?_, ?_, ?_⟩, ?_, ?_, ?_, ?_, ?_, ?_, trivial, t, ?_, ?_⟩, ⟨fun k hk => ?_, fun k hk => ?_⟩, ⟨⟨fun k hk => ?_, ?_⟩, ?_⟩⟩
  · rw [a3 k hk, m1 k hk]; exact h1a k hk
  · rw [a5 k hk, m2 k hk]; exact h1b k hk
  · rw [a6 k hk, m3 k hk]; exact h1c k hk
  · rw [a4 k (by omega), m4 k (by omega)]; exact h2a k hk hq
  · rw [a4 k hk2]; exact h2b k hk hk2
  · rw [a4 10 (by decide), f9]; exact h2c
  · rw [a4 29 (by decide), f10]; exact h2d
  · rw [a4 30 (by decide), f11]; exact h2e
  · unfold q_R3 at h3 ⊢
    rw [a4 12 (by decide), a4 13 (by decide), a4 14 (by decide), a4 15 (by decide), f7, f8, f5, f6, a7 0 (by decide), a7 1 (by decide)]
    exact h3
  · rw [a9 k hk, m8 k hk]; exact b1 k hk
  · rw [i8_1, f13]; exact b2
  · rw [i8_2, f14]; exact b3
  · rw [i8_4, f16]; exact b4
  · rw [i8_2, i8_1]; exact b5
  · rw [i8_1] at hk
    have hk' := hk
    rw [b2] at hk'
    rw [a9 k (by omega)]; exact b6 k hk
  · intro q
    rw [i8_2, i8_1] at q
    have q' := q
    rw [b2, b3] at q'
    rw [f15, i8_2, i8_3, a9 (x.2.1 8 2).toNatClampNeg (by rw [b3]; omega)]
    exact b7 q
  · intro q
    rw [i8_2, i8_1] at q
    rw [i8_3]
    exact b8 q
  · rw [i10_2, f12]; exact c1
  · rw [a11 r hr, m7 _ (by omega), m7 _ (by omega), m7 _ (by omega), m7 _ (by omega)]; exact c2 r hr
  · have r0 := hr.1
    have r1 := hr.2
    have e : r.toNatClampNeg = r.toInt.toNat := rfl
    rw [a12 _ (by omega), q_csP a11 r]
    exact c3 r hr
  · rw [i23_0, f0]; exact p1
  · rw [i23_1, f1]; exact p1b
  · rw [i23_2, f2]; exact p1c
  · rw [i23_3, f3]; exact p1d
  · rw [i23_7, i23_4, f4]; exact p2
  · rw [i23_6, m15 6 (by decide)]; exact p3
  · rw [i23_7, m15 7 (by decide)]; exact p4
  · rw [i23_8, f18]; exact p5
  · rw [i23_9, f17]; exact p6
  · rw [i23_10, f19]; exact p7
  · rw [i23_5, m15 0 (by decide), m15 1 (by decide), m15 2 (by decide), m15 3 (by decide), m15 4 (by decide), m15 5 (by decide)]; exact p10
  · rw [i23_7, i23_9]; exact p11
  · rw [a26 k hk, a27 k hk, a28 k hk, a29 k hk, m10 k hk, m11 k hk, m12 k hk, m13 k hk]; exact h7a k hk
  · rw [a30 k hk, m6 k hk]; exact h7b k hk
  · rw [a31 k hk, m5 k hk]; exact h8a k hk
  · rw [a4 1 (by decide)]; exact h8b
  · rw [j8, n15]; exact h8c
end
end
section
-- 54.q
section
variable {TT TT2 : (Nat → Int32) → Int32 → (Nat → Int32) → Int32 → Int64 → Int64 → List Int32 → List (Nat → Int32) → (Nat → Int64) → Prop} {x y z m : q_S} {c d w : Int} {K : Int64} {F : List Int32} {W : List (Nat → Int32)} {Q : Nat → Int64}
theorem q_cpy0 {f g : Nat → Int32} {n k : Nat} (h : k < n) : va_cpy f g 0 0 n k = f k := by
  show (if 0 ≤ k ∧ k < 0 + n then f (0 + (k - 0)) else g k) = f k
  rw [if_pos ⟨Nat.zero_le k, by omega⟩, Nat.zero_add, Nat.sub_zero]
theorem q_cpyI {f g : Nat → Int32} {t n k : Nat} (h : k < n) : va_cpy f g t 0 n k = f (t + k) := by
  show (if 0 ≤ k ∧ k < 0 + n then f (t + (k - 0)) else g k) = f (t + k)
  rw [if_pos ⟨Nat.zero_le k, by omega⟩, Nat.sub_zero]
theorem q_cpyO {f g : Nat → Int32} {t n k : Nat} (h : k < n) : va_cpy f g 0 t n (t + k) = f k := by
  show (if t ≤ t + k ∧ t + k < t + n then f (0 + (t + k - t)) else g (t + k)) = f k
  rw [if_pos ⟨by omega, by omega⟩, Nat.zero_add, Nat.add_sub_cancel_left]
theorem q_cpyN {f g : Nat → Int32} {t n k : Nat} (h : k < t ∨ t + n ≤ k) : va_cpy f g 0 t n k = g k := by
  show (if t ≤ k ∧ k < t + n then f (0 + (k - t)) else g k) = g k
  rw [if_neg (by omega)]
/-- the machine that another becomes -/
def q_src (s : q_S) : q_S := (fun j => s.1 (j + 32), fun j => s.2.1 (j + 32), fun j => s.2.2 (j + 32))
theorem q_bcm (s : q_S) (h6 : q_rgz 0 1 (s.2.1 55 6)) (h7 : q_rgz 0 1 (s.2.1 55 7)) : ∃ r, dz_W77_64_96 s = some r ∧ q_agX (q_src s) r ∧ q_src r = q_src s ∧ r.2.2 0 4 = s.2.2 32 4 ∧ r.1 24 = va_cpy (s.1 56) (s.1 24) 0 0 16 := by
  unfold dz_W77_64_96 dz_W131_87_119 q_let
  dsimp only
  rw [show q_z1 ((dz_W85_65_97 s).2.1 55 6) = true from q_z1_rg h6, show q_z1 ((dz_W85_65_97 s).2.1 55 7) = true from q_z1_rg h7]
  refine ⟨_, rfl, ⟨?_, ?_, ?_, ?_, ?_, ?_, ?_, ?_, ?_, ?_, ?_, ?_, ?_, ?_, ?_, ?_, ?_, ?_, ?_, ?_, ?_, ?_, ?_, ?_, ?_, ?_, ?_, ?_, ?_, ?_, ?_, ?_, ?_, ?_⟩, ?_, rfl, rfl⟩
  · intro k hk
    show va_cpy (s.1 35) (s.1 3) 0 0 4096 k = s.1 35 k
    exact q_cpy0 hk
  · intro k hk
    show va_cpy (s.1 36) (s.1 4) 0 0 48 k = s.1 36 k
    exact q_cpy0 hk
  · intro k hk
    show va_cpy (s.1 37) (s.1 5) 0 0 512 k = s.1 37 k
    exact q_cpy0 hk
  · intro k hk
    show va_cpy (s.1 38) (s.1 6) 0 0 2048 k = s.1 38 k
    exact q_cpy0 hk
  · intro k hk
    show va_cpy (s.1 39) (s.1 7) 0 0 2 k = s.1 39 k
    exact q_cpy0 hk
  · intro k hk
    show va_cpy (s.1 41) (s.1 9) 0 0 40 k = s.1 41 k
    exact q_cpy0 hk
  · intro k hk
    show va_cpy (s.1 43) (s.1 11) 0 0 4 k = s.1 43 k
    exact q_cpy0 hk
  · intro k hk
    show va_cpy (s.1 44) (s.1 12) 0 0 16 k = s.1 44 k
    exact q_cpy0 hk
  · intro k hk
    show va_cpy (s.1 56) (s.1 24) 0 0 16 k = s.1 56 k
    exact q_cpy0 hk
  · intro k hk
    show va_cpy (s.1 58) (s.1 26) 0 0 3 k = s.1 58 k
    exact q_cpy0 hk
  · intro k hk
    show va_cpy (s.1 59) (s.1 27) 0 0 3 k = s.1 59 k
    exact q_cpy0 hk
  · intro k hk
    show va_cpy (s.1 60) (s.1 28) 0 0 3 k = s.1 60 k
    exact q_cpy0 hk
  · intro k hk
    show va_cpy (s.1 61) (s.1 29) 0 0 3 k = s.1 61 k
    exact q_cpy0 hk
  · intro k hk
    show va_cpy (s.1 62) (s.1 30) 0 0 40 k = s.1 62 k
    exact q_cpy0 hk
  · intro k hk
    show va_cpy (s.1 63) (s.1 31) 0 0 1024 k = s.1 63 k
    exact q_cpy0 hk
  · rfl
  · rfl
  · rfl
  · rfl
  · rfl
  · rfl
  · rfl
  · rfl
  · rfl
  · rfl
  · rfl
  · rfl
  · rfl
  · rfl
  · rfl
  · rfl
  · rfl
  · rfl
  · rfl
  · rfl
end
end
section
-- 54.r
section
variable {TT TT2 : (Nat → Int32) → Int32 → (Nat → Int32) → Int32 → Int64 → Int64 → List Int32 → List (Nat → Int32) → (Nat → Int64) → Prop} {x y z m : q_S} {c d w : Int} {K : Int64} {F : List Int32} {W : List (Nat → Int32)} {Q : Nat → Int64}
/-- the model behind a save, and behind a restore -/
def q_svd (t : Nat) (m : q_S) : q_S := q_sI (q_sL (q_sL (q_sv t m) 31 (vp_updL (m.2.2 31) (2 * t) (m.2.2 0 15))) 31 (vp_updL (vp_updL (m.2.2 31) (2 * t) (m.2.2 0 15)) (2 * t + 1) (m.2.2 0 16))) 0 17 ((m.2.1 0 17) + 1)
def q_rsd (t : Nat) (m : q_S) : q_S := q_sI (q_sJ (q_sJ (q_rsz t m) 0 15 (m.2.2 31 (2 * t))) 0 16 (m.2.2 31 (2 * t + 1))) 0 34 (-1)
theorem q_ix2 {a : Int32} {t : Nat} (ht : t < 3) (hx : a.toInt = (t : Int)) : (2 * a).toNatClampNeg = 2 * t ∧ ((2 * a) + 1).toNatClampNeg = 2 * t + 1 ∧ q_in (2 * a) 6 = true ∧ q_in ((2 * a) + 1) 6 = true := by
  have e : (2 * a).toInt = 2 * a.toInt := q_mulI (n := 2) rfl (by decide) (by decide) ⟨by omega, by omega⟩
  have e1 : ((2 * a) + 1).toInt = 2 * a.toInt + 1 := by rw [q_addI ⟨by omega, by omega⟩ ⟨by decide, by decide⟩, e]; rfl
  refine ⟨?_, ?_, q_in_rg (l := 0) (u := 5) ⟨by omega, by omega⟩ (by decide) (by decide), q_in_rg (l := 0) (u := 5) ⟨by omega, by omega⟩ (by decide) (by decide)⟩
  · show (2 * a).toInt.toNat = 2 * t
    omega
  · show ((2 * a) + 1).toInt.toNat = 2 * t + 1
    omega
theorem q_306e (hI : q_Iv c d w m) {t : Nat} (ht : t < 3) (hx : (m.2.1 0 17).toInt = (t : Int)) : dz_M306_64 m = some (q_svd t (q_mok m), m.2.1 0 17) := by
  obtain ⟨k1, k2, k3, k4⟩ := q_ix2 ht hx
  have z3 : (3 : Int32).toInt = 3 := rfl
  obtain ⟨r, e1, e2⟩ := q_sv_run c d w (q_mok m) (q_Ivk hI) (m.2.1 0 17) t ht hx rfl (fun r1487 => cond (q_in (2 * (m.2.1 0 17)) 6) (cond (q_in ((2 * (m.2.1 0 17)) + 1) 6) (q_let ((q_sL r1487 31 (vp_updL (r1487.2.2 31) ((2 * (m.2.1 0 17)).toNatClampNeg) (r1487.2.2 0 15)))) fun r1488 => some ((q_sI (q_sL r1488 31 (vp_updL (r1488.2.2 31) (((2 * (m.2.1 0 17)) + 1).toNatClampNeg) (r1487.2.2 0 16))) 0 17 ((r1488.2.1 0 17) + 1)), (m.2.1 0 17))) none) none) (fun r => r = (q_svd t (q_mok m), m.2.1 0 17)) ⟨_, by rw [k3, k4, k1, k2]; rfl, rfl⟩
  rw [e2] at e1
  unfold dz_M306_64
  rw [q_eq_F (by omega), cond_false, q_yM200]
  exact e1
theorem q_308e (hI : q_Iv c d w m) {t : Nat} {a : Int32} (ht : t < 3) (hx : a.toInt = (t : Int)) (hs : (t : Int) < (m.2.1 0 17).toInt) : ∃ r, dz_M308_64 m a = some (q_rsd t (q_mok m), r) ∧ dz_M307_64 (q_mok m) a = some r := by
  obtain ⟨k1, k2, k3, k4⟩ := q_ix2 ht hx
  have z0 : (0 : Int32).toInt = 0 := rfl
  have g : q_rgz 0 3 (m.2.1 0 17) := hI.2.1 0 17
  have g1 := g.2
  have es : ((m.2.1 0 17) - 1).toInt = (m.2.1 0 17).toInt - 1 := q_subI ⟨by omega, by omega⟩ ⟨by decide, by decide⟩
  obtain ⟨r0, er, -⟩ := dzj_M307_64 c d w (q_mok m) (q_Ivk hI) a ⟨by omega, by omega⟩
  obtain ⟨r, e1, e2⟩ := q_rs_run (q_mok m) a t ht hx (fun r1526 => cond (q_in (2 * a) 6) (cond (q_in ((2 * a) + 1) 6) (some ((q_sI (q_sJ (q_sJ r1526 0 15 ((r1526.2.2 31) ((2 * a).toNatClampNeg))) 0 16 ((r1526.2.2 31) (((2 * a) + 1).toNatClampNeg))) 0 34 (-1)), r0)) none) none) (fun r => r = (q_rsd t (q_mok m), r0)) ⟨_, by rw [k3, k4, k1, k2]; rfl, rfl⟩
  rw [e2] at e1
  refine ⟨r0, ?_, er⟩
  unfold dz_M308_64 q_let
  rw [q_202T (v := a) (by omega) (by omega)]
  dsimp only
  rw [cond_true, q_yM200]
  dsimp only
  rw [cond_false, er]
  exact e1
def q_TTs (f : Nat → Int32) (n : Int32) (g : Nat → Int32) (k : Int32) (a b : Int64) (_F2 : List Int32) (_W2 : List (Nat → Int32)) (_Q2 : Nat → Int64) : Prop := (∀ j, j < 16 → f j = g j) ∧ n = k ∧ a = b
def q_mz (i : Nat) : Nat := [0, 4096, 512, 2048, 48, 1024, 40, 16, 40, 16, 3, 3, 3, 3, 24, 8].getD i 0
/-- the model that a save keeps, out of the saved rows -/
def q_ms (t : Nat) (W : List (Nat → Int32)) (Q : Nat → Int64) : q_S := (fun i k => W.getD (i - 1) (fun _ => 0) (q_mz i * t + k), fun _ _ => 0, fun _ k => cond (Nat.beq k 15) (Q (2 * t)) (Q (2 * t + 1)))
theorem q_nr1 {a : Int32} (h : q_rgz 0 1 a) : vp_nar .boolean a = a := by
  rw [q_bOf h, q_nb]
theorem q_upL1 (f : Nat → Int64) (i j : Nat) (v : Int64) (h : j = i) : vp_updL f i v j = v := if_pos h
theorem q_upL0 (f : Nat → Int64) (i j : Nat) (v : Int64) (h : ¬ j = i) : vp_updL f i v j = f j := if_neg h
theorem q_agRs (hI : q_Iv c d w m) (t : Nat) (ht : t < 3) : q_agM (q_ms t (q_svW m) (m.2.2 31)) (q_rsd t (q_mok m)) := by
  refine ⟨?_, ?_, ?_, ?_, ?_, ?_, ?_, ?_, ?_, ?_, ?_, ?_, ?_, ?_, ?_, ?_, ?_⟩
  · intro k hk
    show va_cpy (m.1 16) (m.1 1) (4096 * t) 0 4096 k = m.1 16 (4096 * t + k)
    exact q_cpyI hk
  · intro k hk
    show va_cpy (m.1 17) (m.1 2) (512 * t) 0 512 k = m.1 17 (512 * t + k)
    exact q_cpyI hk
  · intro k hk
    show va_cpy (m.1 18) (m.1 3) (2048 * t) 0 2048 k = m.1 18 (2048 * t + k)
    exact q_cpyI hk
  · intro k hk
    show va_cpy (m.1 19) (m.1 4) (48 * t) 0 48 k = m.1 19 (48 * t + k)
    exact q_cpyI hk
  · intro k hk
    show va_cpy (m.1 20) (m.1 5) (1024 * t) 0 1024 k = m.1 20 (1024 * t + k)
    exact q_cpyI hk
  · intro k hk
    show va_cpy (m.1 21) (m.1 6) (40 * t) 0 40 k = m.1 21 (40 * t + k)
    exact q_cpyI hk
  · intro k hk
    show va_cpy (fun i => vp_nar .boolean (m.1 22 i)) (m.1 7) (16 * t) 0 16 k = m.1 22 (16 * t + k)
    rw [q_cpyI hk]
    exact q_nr1 (hI.1 22 _)
  · intro k hk
    show va_cpy (m.1 23) (m.1 8) (40 * t) 0 40 k = m.1 23 (40 * t + k)
    exact q_cpyI hk
  · intro k hk
    show va_cpy (m.1 24) (m.1 9) (16 * t) 0 16 k = m.1 24 (16 * t + k)
    exact q_cpyI hk
  · intro k hk
    show va_cpy (m.1 25) (m.1 10) (3 * t) 0 3 k = m.1 25 (3 * t + k)
    exact q_cpyI hk
  · intro k hk
    show va_cpy (m.1 26) (m.1 11) (3 * t) 0 3 k = m.1 26 (3 * t + k)
    exact q_cpyI hk
  · intro k hk
    show va_cpy (m.1 27) (m.1 12) (3 * t) 0 3 k = m.1 27 (3 * t + k)
    exact q_cpyI hk
  · intro k hk
    show va_cpy (m.1 28) (m.1 13) (3 * t) 0 3 k = m.1 28 (3 * t + k)
    exact q_cpyI hk
  · intro k hk
    show va_cpy (m.1 29) (m.1 14) (24 * t) 0 24 k = m.1 29 (24 * t + k)
    exact q_cpyI hk
  · intro k hk
    show va_cpy (fun i => vp_nar .boolean (m.1 30 i)) (m.1 15) (8 * t) 0 8 k = m.1 30 (8 * t + k)
    rw [q_cpyI hk]
    exact q_nr1 (hI.1 30 _)
  · rfl
  · rfl
theorem q_agSv (hI : q_Iv c d w m) (t : Nat) : q_agM m (q_ms t (q_svW (q_svd t (q_mok m))) ((q_svd t (q_mok m)).2.2 31)) := by
  refine ⟨?_, ?_, ?_, ?_, ?_, ?_, ?_, ?_, ?_, ?_, ?_, ?_, ?_, ?_, ?_, ?_, ?_⟩
  · intro k hk
    show va_cpy (m.1 1) (m.1 16) 0 (4096 * t) 4096 (4096 * t + k) = m.1 1 k
    exact q_cpyO hk
  · intro k hk
    show va_cpy (m.1 2) (m.1 17) 0 (512 * t) 512 (512 * t + k) = m.1 2 k
    exact q_cpyO hk
  · intro k hk
    show va_cpy (m.1 3) (m.1 18) 0 (2048 * t) 2048 (2048 * t + k) = m.1 3 k
    exact q_cpyO hk
  · intro k hk
    show va_cpy (m.1 4) (m.1 19) 0 (48 * t) 48 (48 * t + k) = m.1 4 k
    exact q_cpyO hk
  · intro k hk
    show va_cpy (m.1 5) (m.1 20) 0 (1024 * t) 1024 (1024 * t + k) = m.1 5 k
    exact q_cpyO hk
  · intro k hk
    show va_cpy (m.1 6) (m.1 21) 0 (40 * t) 40 (40 * t + k) = m.1 6 k
    exact q_cpyO hk
  · intro k hk
    show va_cpy (fun i => vp_nar .boolean (m.1 7 i)) (m.1 22) 0 (16 * t) 16 (16 * t + k) = m.1 7 k
    rw [q_cpyO hk]
    exact q_nr1 (hI.1 7 _)
  · intro k hk
    show va_cpy (m.1 8) (m.1 23) 0 (40 * t) 40 (40 * t + k) = m.1 8 k
    exact q_cpyO hk
  · intro k hk
    show va_cpy (m.1 9) (m.1 24) 0 (16 * t) 16 (16 * t + k) = m.1 9 k
    exact q_cpyO hk
  · intro k hk
    show va_cpy (m.1 10) (m.1 25) 0 (3 * t) 3 (3 * t + k) = m.1 10 k
    exact q_cpyO hk
  · intro k hk
    show va_cpy (m.1 11) (m.1 26) 0 (3 * t) 3 (3 * t + k) = m.1 11 k
    exact q_cpyO hk
  · intro k hk
    show va_cpy (m.1 12) (m.1 27) 0 (3 * t) 3 (3 * t + k) = m.1 12 k
    exact q_cpyO hk
  · intro k hk
    show va_cpy (m.1 13) (m.1 28) 0 (3 * t) 3 (3 * t + k) = m.1 13 k
    exact q_cpyO hk
  · intro k hk
    show va_cpy (m.1 14) (m.1 29) 0 (24 * t) 24 (24 * t + k) = m.1 14 k
    exact q_cpyO hk
  · intro k hk
    show va_cpy (fun i => vp_nar .boolean (m.1 15 i)) (m.1 30) 0 (8 * t) 8 (8 * t + k) = m.1 15 k
    rw [q_cpyO hk]
    exact q_nr1 (hI.1 15 _)
  · show vp_updL (vp_updL (m.2.2 31) (2 * t) (m.2.2 0 15)) (2 * t + 1) (m.2.2 0 16) (2 * t) = m.2.2 0 15
    rw [q_upL0 _ _ _ _ (by omega), q_upL1 _ _ _ _ rfl]
  · show vp_updL (vp_updL (m.2.2 31) (2 * t) (m.2.2 0 15)) (2 * t + 1) (m.2.2 0 16) (2 * t + 1) = m.2.2 0 16
    rw [q_upL1 _ _ _ _ rfl]
theorem q_agSu (t u : Nat) (hu : ¬ u = t) : q_agM (q_ms u (q_svW m) (m.2.2 31)) (q_ms u (q_svW (q_svd t (q_mok m))) ((q_svd t (q_mok m)).2.2 31)) := by
  refine ⟨?_, ?_, ?_, ?_, ?_, ?_, ?_, ?_, ?_, ?_, ?_, ?_, ?_, ?_, ?_, ?_, ?_⟩
  · intro k hk
    show va_cpy (m.1 1) (m.1 16) 0 (4096 * t) 4096 (4096 * u + k) = m.1 16 (4096 * u + k)
    exact q_cpyN (by omega)
  · intro k hk
    show va_cpy (m.1 2) (m.1 17) 0 (512 * t) 512 (512 * u + k) = m.1 17 (512 * u + k)
    exact q_cpyN (by omega)
  · intro k hk
    show va_cpy (m.1 3) (m.1 18) 0 (2048 * t) 2048 (2048 * u + k) = m.1 18 (2048 * u + k)
    exact q_cpyN (by omega)
  · intro k hk
    show va_cpy (m.1 4) (m.1 19) 0 (48 * t) 48 (48 * u + k) = m.1 19 (48 * u + k)
    exact q_cpyN (by omega)
  · intro k hk
    show va_cpy (m.1 5) (m.1 20) 0 (1024 * t) 1024 (1024 * u + k) = m.1 20 (1024 * u + k)
    exact q_cpyN (by omega)
  · intro k hk
    show va_cpy (m.1 6) (m.1 21) 0 (40 * t) 40 (40 * u + k) = m.1 21 (40 * u + k)
    exact q_cpyN (by omega)
  · intro k hk
    show va_cpy (fun i => vp_nar .boolean (m.1 7 i)) (m.1 22) 0 (16 * t) 16 (16 * u + k) = m.1 22 (16 * u + k)
    exact q_cpyN (by omega)
  · intro k hk
    show va_cpy (m.1 8) (m.1 23) 0 (40 * t) 40 (40 * u + k) = m.1 23 (40 * u + k)
    exact q_cpyN (by omega)
  · intro k hk
    show va_cpy (m.1 9) (m.1 24) 0 (16 * t) 16 (16 * u + k) = m.1 24 (16 * u + k)
    exact q_cpyN (by omega)
  · intro k hk
    show va_cpy (m.1 10) (m.1 25) 0 (3 * t) 3 (3 * u + k) = m.1 25 (3 * u + k)
    exact q_cpyN (by omega)
  · intro k hk
    show va_cpy (m.1 11) (m.1 26) 0 (3 * t) 3 (3 * u + k) = m.1 26 (3 * u + k)
    exact q_cpyN (by omega)
  · intro k hk
    show va_cpy (m.1 12) (m.1 27) 0 (3 * t) 3 (3 * u + k) = m.1 27 (3 * u + k)
    exact q_cpyN (by omega)
  · intro k hk
    show va_cpy (m.1 13) (m.1 28) 0 (3 * t) 3 (3 * u + k) = m.1 28 (3 * u + k)
    exact q_cpyN (by omega)
  · intro k hk
    show va_cpy (m.1 14) (m.1 29) 0 (24 * t) 24 (24 * u + k) = m.1 29 (24 * u + k)
    exact q_cpyN (by omega)
  · intro k hk
    show va_cpy (fun i => vp_nar .boolean (m.1 15 i)) (m.1 30) 0 (8 * t) 8 (8 * u + k) = m.1 30 (8 * u + k)
    exact q_cpyN (by omega)
  · show vp_updL (vp_updL (m.2.2 31) (2 * t) (m.2.2 0 15)) (2 * t + 1) (m.2.2 0 16) (2 * u) = m.2.2 31 (2 * u)
    rw [q_upL0 _ _ _ _ (by omega), q_upL0 _ _ _ _ (by omega)]
  · show vp_updL (vp_updL (m.2.2 31) (2 * t) (m.2.2 0 15)) (2 * t + 1) (m.2.2 0 16) (2 * u + 1) = m.2.2 31 (2 * u + 1)
    rw [q_upL0 _ _ _ _ (by omega), q_upL0 _ _ _ _ (by omega)]
end
end
section
-- 54.s
section
variable {x y z m m2 : q_S} {c d w : Int}
/-- the class' machine, its snapshots, the machine of the recording, as they stand in the class' heap -/
def q_vwM (x : q_S) : q_S := q_vw 32 1 73 x
def q_vwS (u : Nat) (x : q_S) : q_S := q_vw 32 (76 + 32 * u) 73 x
def q_vwR (x : q_S) : q_S := q_vw 32 35 73 x
/-- the record: off in both, or on with as many actions; k turns have gone by -/
def q_RK (k : Int) (x m : q_S) : Prop := (x.2.1 34 7 = 0 ∧ m.2.1 0 34 = -1 ∨ x.2.1 34 7 = 1 ∧ m.2.1 0 34 = x.2.1 34 5) ∧ 0 ≤ (x.2.1 34 5).toInt ∧ (x.2.1 34 5).toInt ≤ k ∧ 0 ≤ (x.2.1 34 6).toInt ∧ (x.2.1 34 6).toInt ≤ (x.2.1 34 5).toInt
/-- a letter of the class' line, as it is read -/
def q_chr (v : Int32) : Int32 := ((v &&& 255).toUInt32 % 65536).toInt32
/-- the class' heap beside the model's -/
def q_LX (k : Int) (m x : q_S) : Prop := q_RO m (q_vwM x) m ∧ x.2.1 0 2 = m.2.1 0 17 ∧ ((0 : Int) < (m.2.1 0 17).toInt → q_R q_TTs (q_vwS 0 x) (q_ms 0 (q_svW m) (m.2.2 31))) ∧ ((1 : Int) < (m.2.1 0 17).toInt → q_R q_TTs (q_vwS 1 x) (q_ms 1 (q_svW m) (m.2.2 31))) ∧ ((2 : Int) < (m.2.1 0 17).toInt → q_R q_TTs (q_vwS 2 x) (q_ms 2 (q_svW m) (m.2.2 31))) ∧ q_iN (q_vwR x) ∧ q_RK k x m ∧ q_rgz 0 16 (x.2.1 71 3) ∧ m.2.1 0 35 = x.2.1 71 3 ∧ ∀ i, i < (x.2.1 71 3).toNatClampNeg → q_chr (x.1 72 i) = m.1 32 i
/-- a call that is refused -/
theorem q_LXbad {k : Int} (h : q_LX k m x) (v : Int32) : q_LX (k + 1) (q_sI m 0 39 v) x := by
  obtain ⟨h1, h2, h3, h4, h5, h6, ⟨r1, r2, r3, r4, r5⟩, h8⟩ := h
  exact ⟨q_RO_I h1 39 v rfl, h2, h3, h4, h5, h6, ⟨r1, r2, by omega, r4, r5⟩, h8⟩
/-- what is kept of an action -/
theorem q_keep {k : Int} (h : q_RK k x m) (hk : k < 512) (a1 a2 a3 a4 : Int32) : dz_X184_98 x a1 a2 a3 a4 = x ∧ x.2.1 34 7 = 0 ∧ m.2.1 0 34 = -1 ∨ dz_X184_98 x a1 a2 a3 a4 = q_sI (q_sA (q_sA (q_sA (q_sA x 67 (upd (x.1 67) ((x.2.1 34 5).toNatClampNeg) a1)) 68 (upd (x.1 68) ((x.2.1 34 5).toNatClampNeg) a2)) 69 (upd (x.1 69) ((x.2.1 34 5).toNatClampNeg) a3)) 70 (upd (x.1 70) ((x.2.1 34 5).toNatClampNeg) a4)) 34 5 ((x.2.1 34 5) + 1) ∧ x.2.1 34 7 = 1 ∧ m.2.1 0 34 = x.2.1 34 5 := by
  obtain ⟨r1, r2, r3, r4, r5⟩ := h
  unfold dz_X184_98
  rcases r1 with ⟨e1, e2⟩ | ⟨e1, e2⟩
  · rw [e1]; exact Or.inl ⟨rfl, rfl, e2⟩
  · rw [e1, q_lt_F (show (0 : Int32).toInt ≤ (x.2.1 34 5).toInt from r2), q_lt_T (show (x.2.1 34 5).toInt < (512 : Int32).toInt by show _ < (512 : Int); omega)]
    exact Or.inr ⟨rfl, rfl, e2⟩
/-- an action -/
theorem q_LXact {k : Int} (h : q_LX k m x) (hk : k < 512) (a1 a2 a3 a4 : Int32) (g : Nat → Int64) (hy : q_RO m2 y m2) (ha : q_Act m m2) : q_LX (k + 1) m2 (q_sL (q_pt 32 3 1 73 (dz_X184_98 x a1 a2 a3 a4) y) 172 g) := by
  obtain ⟨h1, h2, h3, h4, h5, h6, h7, h8⟩ := h
  obtain ⟨b1, b2, b3, b4, b5, b6⟩ := ha
  have b32 : m2.1 32 = m.1 32 := congrArg (fun W => W.getD 16 (fun _ => 0)) b1
  have kp := q_keep h7 hk a1 a2 a3 a4
  obtain ⟨r1, r2, r3, r4, r5⟩ := h7
  unfold q_LX
  rw [b1, b2, b3]
  rcases kp with ⟨e0, e1, e2⟩ | ⟨e0, e1, e2⟩
  · rw [e0]
    refine ⟨hy, h2, h3, h4, h5, h6, ⟨Or.inl ⟨e1, ?_⟩, r2, ?_, r4, r5⟩, h8.1, b5.trans h8.2.1, fun i hi => (h8.2.2 i hi).trans (congrFun b32 i).symm⟩
    · rw [b4, e2]; rfl
    · show (x.2.1 34 5).toInt ≤ k + 1
      omega
  · rw [e0]
    have e5 : ((x.2.1 34 5) + 1).toInt = (x.2.1 34 5).toInt + 1 := q_addI ⟨by omega, by omega⟩ ⟨by decide, by decide⟩
    refine ⟨hy, h2, h3, h4, h5, h6, ⟨Or.inr ⟨e1, ?_⟩, ?_, ?_, r4, ?_⟩, h8.1, b5.trans h8.2.1, fun i hi => (h8.2.2 i hi).trans (congrFun b32 i).symm⟩
    · rw [b4, e2, q_lt_F (show (0 : Int32).toInt ≤ (x.2.1 34 5).toInt from r2)]; rfl
    · show 0 ≤ ((x.2.1 34 5) + 1).toInt
      omega
    · show ((x.2.1 34 5) + 1).toInt ≤ k + 1
      omega
    · show (x.2.1 34 6).toInt ≤ ((x.2.1 34 5) + 1).toInt
      omega
end
end
section
-- 54.t
section
variable {x y z m m2 : q_S} {c d w k : Int}
/-- a turn: class and model give an answer, and stand beside one another as before -/
def q_TN {T : Type} (k : Int) (ox : Option (q_S × Int32 × Nat)) (om : Option (q_S × T)) (cv : T → Int64) (ex : Prop) : Prop := ∃ r0 r1, ox = some r0 ∧ om = some r1 ∧ q_LX (k + 1) r1.1 r0.1 ∧ r0.2.2 ≤ 1 ∧ r1.1.2.1 0 39 = r0.2.1 ∧ (ex → r0.2.1 = 0 → r0.1.2.2 172 0 = cv r1.2)
theorem q_TNbad {T : Type} {cv : T → Int64} {ex : Prop} {ox : Option (q_S × Int32 × Nat)} {om : Option (q_S × T)} (h : q_LX k m x) (v : Int32) (t : T) (hv : ¬ v = 0) (e1 : ox = some (x, v, 1)) (e2 : om = some (q_sI m 0 39 v, t)) : q_TN k ox om cv ex :=
  ⟨_, _, e1, e2, q_LXbad h v, Nat.le_refl _, rfl, fun _ q => absurd q hv⟩
theorem q_TNok {T : Type} {cv : T → Int64} {ex : Prop} {ox : Option (q_S × Int32 × Nat)} {om : Option (q_S × T)} (h : q_LX k m x) (hk : k < 512) (a1 a2 a3 a4 : Int32) (f : Nat → Int64) (v : Int64) (t : T) (hy : q_RO m2 y m2) (ha : q_Act m m2) (e1 : ox = some (q_sL (q_pt 32 3 1 73 (dz_X184_98 x a1 a2 a3 a4) y) 172 (vp_updL f 0 v), 0, 0)) (e2 : om = some (m2, t)) (e3 : ex → v = cv t) : q_TN k ox om cv ex :=
  ⟨_, _, e1, e2, q_LXact h hk a1 a2 a3 a4 _ hy ha, Nat.zero_le _, ha.2.2.2.2.2, fun q _ => by
    show vp_updL f 0 v 0 = cv t
    rw [q_upL1 _ _ _ _ rfl, e3 q]⟩
theorem q_ROkp (h : q_RO m (q_vwM x) m) (a1 a2 a3 a4 : Int32) : q_RO m (q_vw 32 1 73 (dz_X184_98 x a1 a2 a3 a4)) m := by
  unfold dz_X184_98
  cases decide (x.2.1 34 7 = 0) with
  | true => exact h
  | false =>
    rw [cond_false]
    cases decide (x.2.1 34 5 < 0) with
    | true => exact h
    | false =>
      rw [cond_false]
      cases decide (x.2.1 34 5 < 512) with
      | true => exact h
      | false => exact h
theorem q_tPoke (h : q_LX k m x) (hI : q_Iv c d w m) (hk : k < 512) (a b : Int32) : q_TN k (dz_X0_64_236 x a b) (dz_M216_64 m a b) Int32.toInt64 True := by
  have z0 : (0 : Int32).toInt = 0 := rfl
  have z255 : (255 : Int32).toInt = 255 := rfl
  have z256 : (256 : Int32).toInt = 256 := rfl
  have z4095 : (4095 : Int32).toInt = 4095 := rfl
  have z4096 : (4096 : Int32).toInt = 4096 := rfl
  by_cases l_a : a.toInt < 0
  · refine q_TNbad h 1 0 (by decide) ?_ ?_
    · unfold dz_X0_64_236
      rw [q_lt_T (show a.toInt < (0 : Int32).toInt by omega)]
      rfl
    · unfold dz_M216_64 dz_M204 dz_M203 q_let
      dsimp only
      rw [q_202F (v := a) (lo := 0) (hi := 4095) (Or.inl (by omega))]
      rfl
  by_cases u_a : 4095 < a.toInt
  · refine q_TNbad h 1 0 (by decide) ?_ ?_
    · unfold dz_X0_64_236
      rw [q_lt_F (show (0 : Int32).toInt ≤ a.toInt by omega), q_lt_F (show (4096 : Int32).toInt ≤ a.toInt by omega)]
      rfl
    · unfold dz_M216_64 dz_M204 dz_M203 q_let
      dsimp only
      rw [q_202F (v := a) (lo := 0) (hi := 4095) (Or.inr (by omega))]
      rfl
  by_cases l_b : b.toInt < 0
  · refine q_TNbad h 2 0 (by decide) ?_ ?_
    · unfold dz_X0_64_236
      rw [q_lt_F (show (0 : Int32).toInt ≤ a.toInt by omega), q_lt_T (show a.toInt < (4096 : Int32).toInt by omega), q_lt_T (show b.toInt < (0 : Int32).toInt by omega)]
      rfl
    · unfold dz_M216_64 dz_M204 dz_M203 q_let
      dsimp only
      rw [q_202T (v := a) (lo := 0) (hi := 4095) (by omega) (by omega), q_202F (v := b) (lo := 0) (hi := 255) (Or.inl (by omega))]
      rfl
  by_cases u_b : 255 < b.toInt
  · refine q_TNbad h 2 0 (by decide) ?_ ?_
    · unfold dz_X0_64_236
      rw [q_lt_F (show (0 : Int32).toInt ≤ a.toInt by omega), q_lt_T (show a.toInt < (4096 : Int32).toInt by omega), q_lt_F (show (0 : Int32).toInt ≤ b.toInt by omega), q_lt_T (show (255 : Int32).toInt < b.toInt by omega)]
      rfl
    · unfold dz_M216_64 dz_M204 dz_M203 q_let
      dsimp only
      rw [q_202T (v := a) (lo := 0) (hi := 4095) (by omega) (by omega), q_202F (v := b) (lo := 0) (hi := 255) (Or.inr (by omega))]
      rfl
  obtain ⟨y, m2, r, e1, e2, e3, e4⟩ := q_aPoke (q_ROkp h.1 0 a b 0) hI a b 0 ⟨by omega, by omega⟩ ⟨by omega, by omega⟩
  refine q_TNok h hk 0 a b 0 ((q_pt 32 3 1 73 (dz_X184_98 x 0 a b 0) y).2.2 172) r.toInt64 r e3 e4 ?_ e2 (fun _ => rfl)
  unfold dz_X0_64_236 q_let
  rw [q_lt_F (show (0 : Int32).toInt ≤ a.toInt by omega), q_lt_T (show a.toInt < (4096 : Int32).toInt by omega), q_lt_F (show (0 : Int32).toInt ≤ b.toInt by omega), q_lt_F (show b.toInt ≤ (255 : Int32).toInt by omega)]
  dsimp only
  simp only [cond_true, cond_false]
  rw [e1]
  rfl
theorem q_tRom (h : q_LX k m x) (hI : q_Iv c d w m) (hk : k < 512) (a b : Int32) : q_TN k (dz_X1_64_236 x a b) (dz_M217_64 m a b) Int32.toInt64 True := by
  have z0 : (0 : Int32).toInt = 0 := rfl
  have z255 : (255 : Int32).toInt = 255 := rfl
  have z256 : (256 : Int32).toInt = 256 := rfl
  have z511 : (511 : Int32).toInt = 511 := rfl
  have z512 : (512 : Int32).toInt = 512 := rfl
  by_cases l_a : a.toInt < 0
  · refine q_TNbad h 1 0 (by decide) ?_ ?_
    · unfold dz_X1_64_236
      rw [q_lt_T (show a.toInt < (0 : Int32).toInt by omega)]
      rfl
    · unfold dz_M217_64 dz_M203 q_let
      dsimp only
      rw [q_202F (v := a) (lo := 0) (hi := 511) (Or.inl (by omega))]
      rfl
  by_cases u_a : 511 < a.toInt
  · refine q_TNbad h 1 0 (by decide) ?_ ?_
    · unfold dz_X1_64_236
      rw [q_lt_F (show (0 : Int32).toInt ≤ a.toInt by omega), q_lt_F (show (512 : Int32).toInt ≤ a.toInt by omega)]
      rfl
    · unfold dz_M217_64 dz_M203 q_let
      dsimp only
      rw [q_202F (v := a) (lo := 0) (hi := 511) (Or.inr (by omega))]
      rfl
  by_cases l_b : b.toInt < 0
  · refine q_TNbad h 2 0 (by decide) ?_ ?_
    · unfold dz_X1_64_236
      rw [q_lt_F (show (0 : Int32).toInt ≤ a.toInt by omega), q_lt_T (show a.toInt < (512 : Int32).toInt by omega), q_lt_T (show b.toInt < (0 : Int32).toInt by omega)]
      rfl
    · unfold dz_M217_64 dz_M203 q_let
      dsimp only
      rw [q_202T (v := a) (lo := 0) (hi := 511) (by omega) (by omega), q_202F (v := b) (lo := 0) (hi := 255) (Or.inl (by omega))]
      rfl
  by_cases u_b : 255 < b.toInt
  · refine q_TNbad h 2 0 (by decide) ?_ ?_
    · unfold dz_X1_64_236
      rw [q_lt_F (show (0 : Int32).toInt ≤ a.toInt by omega), q_lt_T (show a.toInt < (512 : Int32).toInt by omega), q_lt_F (show (0 : Int32).toInt ≤ b.toInt by omega), q_lt_T (show (255 : Int32).toInt < b.toInt by omega)]
      rfl
    · unfold dz_M217_64 dz_M203 q_let
      dsimp only
      rw [q_202T (v := a) (lo := 0) (hi := 511) (by omega) (by omega), q_202F (v := b) (lo := 0) (hi := 255) (Or.inr (by omega))]
      rfl
  obtain ⟨y, m2, r, e1, e2, e3, e4⟩ := q_aRom (q_ROkp h.1 1 a b 0) a b 0 ⟨by omega, by omega⟩ ⟨by omega, by omega⟩
  refine q_TNok h hk 1 a b 0 ((q_pt 32 3 1 73 (dz_X184_98 x 1 a b 0) y).2.2 172) r.toInt64 r e3 e4 ?_ e2 (fun _ => rfl)
  unfold dz_X1_64_236 q_let
  rw [q_lt_F (show (0 : Int32).toInt ≤ a.toInt by omega), q_lt_T (show a.toInt < (512 : Int32).toInt by omega), q_lt_F (show (0 : Int32).toInt ≤ b.toInt by omega), q_lt_F (show b.toInt ≤ (255 : Int32).toInt by omega)]
  dsimp only
  simp only [cond_true, cond_false]
  rw [e1]
  rfl
theorem q_tCar (h : q_LX k m x) (hI : q_Iv c d w m) (hk : k < 512) (a b e0 : Int32) : q_TN k (dz_X2_64_236 x a b e0) (dz_M218_64 m a b e0) Int32.toInt64 True := by
  have z0 : (0 : Int32).toInt = 0 := rfl
  have z3 : (3 : Int32).toInt = 3 := rfl
  have z4 : (4 : Int32).toInt = 4 := rfl
  have z255 : (255 : Int32).toInt = 255 := rfl
  have z256 : (256 : Int32).toInt = 256 := rfl
  have z511 : (511 : Int32).toInt = 511 := rfl
  have z512 : (512 : Int32).toInt = 512 := rfl
  by_cases l_a : a.toInt < 0
  · refine q_TNbad h 1 0 (by decide) ?_ ?_
    · unfold dz_X2_64_236
      rw [q_lt_T (show a.toInt < (0 : Int32).toInt by omega)]
      rfl
    · unfold dz_M218_64 dz_M203 q_let
      dsimp only
      rw [q_202F (v := a) (lo := 0) (hi := 3) (Or.inl (by omega))]
      rfl
  by_cases u_a : 3 < a.toInt
  · refine q_TNbad h 1 0 (by decide) ?_ ?_
    · unfold dz_X2_64_236
      rw [q_lt_F (show (0 : Int32).toInt ≤ a.toInt by omega), q_lt_F (show (4 : Int32).toInt ≤ a.toInt by omega)]
      rfl
    · unfold dz_M218_64 dz_M203 q_let
      dsimp only
      rw [q_202F (v := a) (lo := 0) (hi := 3) (Or.inr (by omega))]
      rfl
  by_cases l_b : b.toInt < 0
  · refine q_TNbad h 1 0 (by decide) ?_ ?_
    · unfold dz_X2_64_236
      rw [q_lt_F (show (0 : Int32).toInt ≤ a.toInt by omega), q_lt_T (show a.toInt < (4 : Int32).toInt by omega), q_lt_T (show b.toInt < (0 : Int32).toInt by omega)]
      rfl
    · unfold dz_M218_64 dz_M203 q_let
      dsimp only
      rw [q_202T (v := a) (lo := 0) (hi := 3) (by omega) (by omega), q_202F (v := b) (lo := 0) (hi := 511) (Or.inl (by omega))]
      rfl
  by_cases u_b : 511 < b.toInt
  · refine q_TNbad h 1 0 (by decide) ?_ ?_
    · unfold dz_X2_64_236
      rw [q_lt_F (show (0 : Int32).toInt ≤ a.toInt by omega), q_lt_T (show a.toInt < (4 : Int32).toInt by omega), q_lt_F (show (0 : Int32).toInt ≤ b.toInt by omega), q_lt_F (show (512 : Int32).toInt ≤ b.toInt by omega)]
      rfl
    · unfold dz_M218_64 dz_M203 q_let
      dsimp only
      rw [q_202T (v := a) (lo := 0) (hi := 3) (by omega) (by omega), q_202F (v := b) (lo := 0) (hi := 511) (Or.inr (by omega))]
      rfl
  by_cases l_e0 : e0.toInt < 0
  · refine q_TNbad h 2 0 (by decide) ?_ ?_
    · unfold dz_X2_64_236
      rw [q_lt_F (show (0 : Int32).toInt ≤ a.toInt by omega), q_lt_T (show a.toInt < (4 : Int32).toInt by omega), q_lt_F (show (0 : Int32).toInt ≤ b.toInt by omega), q_lt_T (show b.toInt < (512 : Int32).toInt by omega), q_lt_T (show e0.toInt < (0 : Int32).toInt by omega)]
      rfl
    · unfold dz_M218_64 dz_M203 q_let
      dsimp only
      rw [q_202T (v := a) (lo := 0) (hi := 3) (by omega) (by omega), q_202T (v := b) (lo := 0) (hi := 511) (by omega) (by omega), q_202F (v := e0) (lo := 0) (hi := 255) (Or.inl (by omega))]
      rfl
  by_cases u_e0 : 255 < e0.toInt
  · refine q_TNbad h 2 0 (by decide) ?_ ?_
    · unfold dz_X2_64_236
      rw [q_lt_F (show (0 : Int32).toInt ≤ a.toInt by omega), q_lt_T (show a.toInt < (4 : Int32).toInt by omega), q_lt_F (show (0 : Int32).toInt ≤ b.toInt by omega), q_lt_T (show b.toInt < (512 : Int32).toInt by omega), q_lt_F (show (0 : Int32).toInt ≤ e0.toInt by omega), q_lt_T (show (255 : Int32).toInt < e0.toInt by omega)]
      rfl
    · unfold dz_M218_64 dz_M203 q_let
      dsimp only
      rw [q_202T (v := a) (lo := 0) (hi := 3) (by omega) (by omega), q_202T (v := b) (lo := 0) (hi := 511) (by omega) (by omega), q_202F (v := e0) (lo := 0) (hi := 255) (Or.inr (by omega))]
      rfl
  obtain ⟨y, m2, r, e1, e2, e3, e4⟩ := q_aCar (q_ROkp h.1 2 a b e0) a b e0 ⟨by omega, by omega⟩ ⟨by omega, by omega⟩ ⟨by omega, by omega⟩
  refine q_TNok h hk 2 a b e0 ((q_pt 32 3 1 73 (dz_X184_98 x 2 a b e0) y).2.2 172) r.toInt64 r e3 e4 ?_ e2 (fun _ => rfl)
  unfold dz_X2_64_236 q_let
  rw [q_lt_F (show (0 : Int32).toInt ≤ a.toInt by omega), q_lt_T (show a.toInt < (4 : Int32).toInt by omega), q_lt_F (show (0 : Int32).toInt ≤ b.toInt by omega), q_lt_T (show b.toInt < (512 : Int32).toInt by omega), q_lt_F (show (0 : Int32).toInt ≤ e0.toInt by omega), q_lt_F (show e0.toInt ≤ (255 : Int32).toInt by omega)]
  dsimp only
  simp only [cond_true, cond_false]
  rw [e1]
  rfl
theorem q_tRun (h : q_LX k m x) (hI : q_Iv c d w m) (hk : k < 512) (n : Int32) (hc : c + 1000 ≤ 1000000) (hd : d + 1000 ≤ 1000000) : q_TN k (dz_X11_64_236 x n) (dz_M236_64 m n) Int32.toInt64 True := by
  have z0 : (0 : Int32).toInt = 0 := rfl
  have z1 : (1 : Int32).toInt = 1 := rfl
  have z1000 : (1000 : Int32).toInt = 1000 := rfl
  have z1001 : (1001 : Int32).toInt = 1001 := rfl
  by_cases l_n : n.toInt < 1
  · refine q_TNbad h 1 0 (by decide) ?_ ?_
    · unfold dz_X11_64_236
      rw [q_lt_T (show n.toInt < (1 : Int32).toInt by omega)]
      rfl
    · unfold dz_M236_64 q_let
      dsimp only
      rw [q_202F (v := n) (lo := 1) (hi := 1000) (Or.inl (by omega))]
      rfl
  by_cases u_n : 1000 < n.toInt
  · refine q_TNbad h 1 0 (by decide) ?_ ?_
    · unfold dz_X11_64_236
      rw [q_lt_F (show (1 : Int32).toInt ≤ n.toInt by omega), q_lt_T (show (1000 : Int32).toInt < n.toInt by omega)]
      rfl
    · unfold dz_M236_64 q_let
      dsimp only
      rw [q_202F (v := n) (lo := 1) (hi := 1000) (Or.inr (by omega))]
      rfl
  obtain ⟨y, m2, r, e1, e2, e3, e4⟩ := q_aRun (q_ROkp h.1 7 n 0 0) hI n 0 0 ⟨by omega, by omega⟩ hc hd
  refine q_TNok h hk 7 n 0 0 ((q_pt 32 3 1 73 (dz_X184_98 x 7 n 0 0) y).2.2 172) r.toInt64 r e3 e4 ?_ e2 (fun _ => rfl)
  unfold dz_X11_64_236 q_let
  rw [q_lt_F (show (1 : Int32).toInt ≤ n.toInt by omega), q_lt_F (show n.toInt ≤ (1000 : Int32).toInt by omega)]
  dsimp only
  simp only [cond_true, cond_false]
  rw [e1]
  rfl
theorem q_tJoy (h : q_LX k m x) (hI : q_Iv c d w m) (hk : k < 512) (a : Int32) : q_TN k (dz_X20_64_236 x a) (some (dz_M300_64 m a)) Int32.toInt64 True := by
  have z0 : (0 : Int32).toInt = 0 := rfl
  have z15 : (15 : Int32).toInt = 15 := rfl
  have z16 : (16 : Int32).toInt = 16 := rfl
  by_cases l_a : a.toInt < 0
  · refine q_TNbad h 1 0 (by decide) ?_ ?_
    · unfold dz_X20_64_236
      rw [q_lt_T (show a.toInt < (0 : Int32).toInt by omega)]
      rfl
    · unfold dz_M300_64 q_let
      dsimp only
      rw [q_202F (v := a) (lo := 0) (hi := 15) (Or.inl (by omega))]
      rfl
  by_cases u_a : 15 < a.toInt
  · refine q_TNbad h 1 0 (by decide) ?_ ?_
    · unfold dz_X20_64_236
      rw [q_lt_F (show (0 : Int32).toInt ≤ a.toInt by omega), q_lt_T (show (15 : Int32).toInt < a.toInt by omega)]
      rfl
    · unfold dz_M300_64 q_let
      dsimp only
      rw [q_202F (v := a) (lo := 0) (hi := 15) (Or.inr (by omega))]
      rfl
  obtain ⟨y, m2, r, e1, e2, e3, e4⟩ := q_aJoy (q_ROkp h.1 10 a 0 0) a 0 0 ⟨by omega, by omega⟩
  refine q_TNok h hk 10 a 0 0 ((q_pt 32 3 1 73 (dz_X184_98 x 10 a 0 0) y).2.2 172) r.toInt64 r e3 e4 ?_ (congrArg some e2) (fun _ => rfl)
  unfold dz_X20_64_236 q_let
  rw [q_lt_F (show (0 : Int32).toInt ≤ a.toInt by omega), q_lt_F (show a.toInt ≤ (15 : Int32).toInt by omega)]
  dsimp only
  simp only [cond_true, cond_false]
  rw [e1]
  rfl
end
end
section
-- 54.u
section
variable {x y z m m2 : q_S} {c d w k : Int}
theorem q_tPul (h : q_LX k m x) (hI : q_Iv c d w m) (hk : k < 512) (a : Int32) : q_TN k (dz_X21_64_236 x a) (dz_M301_64 m a) Int32.toInt64 True := by
  have z0 : (0 : Int32).toInt = 0 := rfl
  have z1 : (1 : Int32).toInt = 1 := rfl
  have z999 : (999 : Int32).toInt = 999 := rfl
  have z1000 : (1000 : Int32).toInt = 1000 := rfl
  by_cases l_a : a.toInt < 1
  · refine q_TNbad h 1 0 (by decide) ?_ ?_
    · unfold dz_X21_64_236
      rw [q_lt_T (show a.toInt < (1 : Int32).toInt by omega)]
      rfl
    · unfold dz_M301_64 q_let
      dsimp only
      rw [q_202F (v := a) (lo := 1) (hi := 999) (Or.inl (by omega))]
      rfl
  by_cases u_a : 999 < a.toInt
  · refine q_TNbad h 1 0 (by decide) ?_ ?_
    · unfold dz_X21_64_236
      rw [q_lt_F (show (1 : Int32).toInt ≤ a.toInt by omega), q_lt_T (show (999 : Int32).toInt < a.toInt by omega)]
      rfl
    · unfold dz_M301_64 q_let
      dsimp only
      rw [q_202F (v := a) (lo := 1) (hi := 999) (Or.inr (by omega))]
      rfl
  have eC : x.2.1 9 1 = m.1 14 13 := h.1.r4.2.1
  have z40 : (40 : Int32).toInt = 40 := rfl
  have c40 : (m.1 14 13).toInt ≤ 40 := (hI.1 14 13).2
  by_cases full : (m.1 14 13).toInt = 40
  · refine q_TNbad h 2 0 (by decide) ?_ ?_
    · unfold dz_X21_64_236
      rw [q_lt_F (show (1 : Int32).toInt ≤ a.toInt by omega), q_lt_F (show a.toInt ≤ (999 : Int32).toInt by omega), eC, q_lt_F (show (40 : Int32).toInt ≤ (m.1 14 13).toInt by omega)]
      rfl
    · unfold dz_M301_64 q_let
      dsimp only
      rw [q_202T (v := a) (lo := 1) (hi := 999) (by omega) (by omega), q_eq_T (show (m.1 14 13).toInt = (40 : Int32).toInt by omega)]
      rfl
  obtain ⟨y, m2, r, e1, e2, e3, e4⟩ := q_aPul (q_ROkp h.1 11 a 0 0) hI a 0 0 ⟨by omega, by omega⟩ (by omega)
  refine q_TNok h hk 11 a 0 0 ((q_pt 32 3 1 73 (dz_X184_98 x 11 a 0 0) y).2.2 172) r.toInt64 r e3 e4 ?_ e2 (fun _ => rfl)
  unfold dz_X21_64_236 q_let
  rw [q_lt_F (show (1 : Int32).toInt ≤ a.toInt by omega), q_lt_F (show a.toInt ≤ (999 : Int32).toInt by omega), eC, q_lt_T (show (m.1 14 13).toInt < (40 : Int32).toInt by omega)]
  dsimp only
  simp only [cond_true, cond_false]
  rw [e1]
  rfl
theorem q_tKeyf (h : q_LX k m x) (hI : q_Iv c d w m) (hk : k < 512) (a b : Int32) : q_TN k (dz_X18_64_f_236 x a b) (dz_M298_64 m a b 0) q_kb True := by
  have z0 : (0 : Int32).toInt = 0 := rfl
  have z3 : (3 : Int32).toInt = 3 := rfl
  have z4 : (4 : Int32).toInt = 4 := rfl
  by_cases l_a : a.toInt < 0
  · refine q_TNbad h 1 false (by decide) ?_ ?_
    · unfold dz_X18_64_f_236
      rw [q_lt_T (show a.toInt < (0 : Int32).toInt by omega)]
      rfl
    · unfold dz_M298_64 q_let
      dsimp only
      rw [q_202F (v := a) (lo := 0) (hi := 3) (Or.inl (by omega))]
      rfl
  by_cases u_a : 3 < a.toInt
  · refine q_TNbad h 1 false (by decide) ?_ ?_
    · unfold dz_X18_64_f_236
      rw [q_lt_F (show (0 : Int32).toInt ≤ a.toInt by omega), q_lt_F (show (4 : Int32).toInt ≤ a.toInt by omega)]
      rfl
    · unfold dz_M298_64 q_let
      dsimp only
      rw [q_202F (v := a) (lo := 0) (hi := 3) (Or.inr (by omega))]
      rfl
  by_cases l_b : b.toInt < 0
  · refine q_TNbad h 1 false (by decide) ?_ ?_
    · unfold dz_X18_64_f_236
      rw [q_lt_F (show (0 : Int32).toInt ≤ a.toInt by omega), q_lt_T (show a.toInt < (4 : Int32).toInt by omega), q_lt_T (show b.toInt < (0 : Int32).toInt by omega)]
      rfl
    · unfold dz_M298_64 q_let
      dsimp only
      rw [q_202T (v := a) (lo := 0) (hi := 3) (by omega) (by omega), q_202F (v := b) (lo := 0) (hi := 3) (Or.inl (by omega))]
      rfl
  by_cases u_b : 3 < b.toInt
  · refine q_TNbad h 1 false (by decide) ?_ ?_
    · unfold dz_X18_64_f_236
      rw [q_lt_F (show (0 : Int32).toInt ≤ a.toInt by omega), q_lt_T (show a.toInt < (4 : Int32).toInt by omega), q_lt_F (show (0 : Int32).toInt ≤ b.toInt by omega), q_lt_F (show (4 : Int32).toInt ≤ b.toInt by omega)]
      rfl
    · unfold dz_M298_64 q_let
      dsimp only
      rw [q_202T (v := a) (lo := 0) (hi := 3) (by omega) (by omega), q_202F (v := b) (lo := 0) (hi := 3) (Or.inr (by omega))]
      rfl
  obtain ⟨y, m2, r, e1, e2, e3, e4⟩ := q_aKey (q_ROkp h.1 9 a b 0) hI a b false ⟨by omega, by omega⟩ ⟨by omega, by omega⟩
  refine q_TNok h hk 9 a b 0 ((q_pt 32 3 1 73 (dz_X184_98 x 9 a b 0) y).2.2 172) (q_kb r) r e3 e4 ?_ e2 (fun _ => rfl)
  unfold dz_X18_64_f_236 q_let
  rw [q_lt_F (show (0 : Int32).toInt ≤ a.toInt by omega), q_lt_T (show a.toInt < (4 : Int32).toInt by omega), q_lt_F (show (0 : Int32).toInt ≤ b.toInt by omega), q_lt_T (show b.toInt < (4 : Int32).toInt by omega)]
  dsimp only
  simp only [cond_true, cond_false]
  have e1' : dz_N79_64 (q_vw 32 1 73 (dz_X184_98 x 9 a b 0)) 9 a b 0 = some (y, q_b r) := e1
  rw [e1']
  cases r <;> rfl
theorem q_tKeyt (h : q_LX k m x) (hI : q_Iv c d w m) (hk : k < 512) (a b : Int32) : q_TN k (dz_X18_64_t_236 x a b) (dz_M298_64 m a b 1) q_kb True := by
  have z0 : (0 : Int32).toInt = 0 := rfl
  have z3 : (3 : Int32).toInt = 3 := rfl
  have z4 : (4 : Int32).toInt = 4 := rfl
  by_cases l_a : a.toInt < 0
  · refine q_TNbad h 1 false (by decide) ?_ ?_
    · unfold dz_X18_64_t_236
      rw [q_lt_T (show a.toInt < (0 : Int32).toInt by omega)]
      rfl
    · unfold dz_M298_64 q_let
      dsimp only
      rw [q_202F (v := a) (lo := 0) (hi := 3) (Or.inl (by omega))]
      rfl
  by_cases u_a : 3 < a.toInt
  · refine q_TNbad h 1 false (by decide) ?_ ?_
    · unfold dz_X18_64_t_236
      rw [q_lt_F (show (0 : Int32).toInt ≤ a.toInt by omega), q_lt_F (show (4 : Int32).toInt ≤ a.toInt by omega)]
      rfl
    · unfold dz_M298_64 q_let
      dsimp only
      rw [q_202F (v := a) (lo := 0) (hi := 3) (Or.inr (by omega))]
      rfl
  by_cases l_b : b.toInt < 0
  · refine q_TNbad h 1 false (by decide) ?_ ?_
    · unfold dz_X18_64_t_236
      rw [q_lt_F (show (0 : Int32).toInt ≤ a.toInt by omega), q_lt_T (show a.toInt < (4 : Int32).toInt by omega), q_lt_T (show b.toInt < (0 : Int32).toInt by omega)]
      rfl
    · unfold dz_M298_64 q_let
      dsimp only
      rw [q_202T (v := a) (lo := 0) (hi := 3) (by omega) (by omega), q_202F (v := b) (lo := 0) (hi := 3) (Or.inl (by omega))]
      rfl
  by_cases u_b : 3 < b.toInt
  · refine q_TNbad h 1 false (by decide) ?_ ?_
    · unfold dz_X18_64_t_236
      rw [q_lt_F (show (0 : Int32).toInt ≤ a.toInt by omega), q_lt_T (show a.toInt < (4 : Int32).toInt by omega), q_lt_F (show (0 : Int32).toInt ≤ b.toInt by omega), q_lt_F (show (4 : Int32).toInt ≤ b.toInt by omega)]
      rfl
    · unfold dz_M298_64 q_let
      dsimp only
      rw [q_202T (v := a) (lo := 0) (hi := 3) (by omega) (by omega), q_202F (v := b) (lo := 0) (hi := 3) (Or.inr (by omega))]
      rfl
  obtain ⟨y, m2, r, e1, e2, e3, e4⟩ := q_aKey (q_ROkp h.1 9 a b 1) hI a b true ⟨by omega, by omega⟩ ⟨by omega, by omega⟩
  refine q_TNok h hk 9 a b 1 ((q_pt 32 3 1 73 (dz_X184_98 x 9 a b 1) y).2.2 172) (q_kb r) r e3 e4 ?_ e2 (fun _ => rfl)
  unfold dz_X18_64_t_236 q_let
  rw [q_lt_F (show (0 : Int32).toInt ≤ a.toInt by omega), q_lt_T (show a.toInt < (4 : Int32).toInt by omega), q_lt_F (show (0 : Int32).toInt ≤ b.toInt by omega), q_lt_T (show b.toInt < (4 : Int32).toInt by omega)]
  dsimp only
  simp only [cond_true, cond_false]
  have e1' : dz_N79_64 (q_vw 32 1 73 (dz_X184_98 x 9 a b 1)) 9 a b 1 = some (y, q_b r) := e1
  rw [e1']
  cases r <;> rfl
theorem q_tStep (h : q_LX k m x) (hI : q_Iv c d w m) (hk : k < 512) (hc : c + 1000 ≤ 1000000) (hd : d + 1000 ≤ 1000000) : q_TN k (dz_X12_64_236 x) (dz_M237_64 m) Int32.toInt64 True := by
  have eJ : x.2.1 24 7 = m.1 15 7 := h.1.r6.2.2.2.1
  by_cases J : x.2.1 24 7 = 0
  · have J' : (q_vw 32 1 73 (dz_X184_98 x 8 0 0 0)).2.1 23 7 = 0 := by
      have e := (q_ROkp h.1 8 0 0 0).r6.2.2.2.1
      rw [e, ← eJ]
      exact J
    obtain ⟨y, m2, r, e1, e2, e3, e4⟩ := q_aStep (q_ROkp h.1 8 0 0 0) hI 0 0 0 J' hc hd
    refine q_TNok h hk 8 0 0 0 ((q_pt 32 3 1 73 (dz_X184_98 x 8 0 0 0) y).2.2 172) r.toInt64 r e3 e4 ?_ e2 (fun _ => rfl)
    unfold dz_X12_64_236 q_let
    rw [decide_eq_true J]
    dsimp only
    simp only [cond_true]
    rw [e1]
    rfl
  · refine q_TNbad h 1 0 (by decide) ?_ ?_
    · unfold dz_X12_64_236
      rw [decide_eq_false J]
      rfl
    · unfold dz_M237_64
      rw [← eJ, decide_eq_false J]
      rfl
theorem q_tRes (h : q_LX k m x) (hI : q_Iv c d w m) (hk : k < 512) : ∃ r0 r1, dz_X40_64 x = some r0 ∧ dz_M291_64 m = some r1 ∧ q_LX (k + 1) r1.1 r0.1 ∧ r1.1.2.1 0 39 = 0 ∧ r0.2 = r1.2 := by
  obtain ⟨y, m2, r, e1, e2, e3, e4⟩ := q_aRes (q_ROkp h.1 5 0 0 0) hI 0 0 0
  refine ⟨(q_pt 32 3 1 73 (dz_X184_98 x 5 0 0 0) y, r), (m2, r), ?_, e2, q_LXact h hk 5 0 0 0 ((q_pt 32 3 1 73 (dz_X184_98 x 5 0 0 0) y).2.2 172) e3 e4, e4.2.2.2.2.2, rfl⟩
  unfold dz_X40_64 q_let
  dsimp only
  rw [e1]
  rfl
theorem q_tFrz (h : q_LX k m x) (hI : q_Iv c d w m) (hk : k < 512) : ∃ r0 r1, dz_X41_64 x = some r0 ∧ dz_M292_64 m = r1 ∧ q_LX (k + 1) r1.1 r0.1 ∧ r1.1.2.1 0 39 = 0 ∧ r0.2 = r1.2 := by
  obtain ⟨y, m2, r, e1, e2, e3, e4⟩ := q_aFrz (q_ROkp h.1 6 0 0 0) hI 0 0 0
  refine ⟨(q_pt 32 3 1 73 (dz_X184_98 x 6 0 0 0) y, r), (m2, r), ?_, e2, q_LXact h hk 6 0 0 0 ((q_pt 32 3 1 73 (dz_X184_98 x 6 0 0 0) y).2.2 172) e3 e4, e4.2.2.2.2.2, rfl⟩
  unfold dz_X41_64 q_let
  dsimp only
  rw [e1]
  rfl
theorem q_tRew (h : q_LX k m x) (hI : q_Iv c d w m) (hk : k < 512) : ∃ r0 r1, dz_X58_64 x = some r0 ∧ dz_M302_64 m = r1 ∧ q_LX (k + 1) r1.1 r0.1 ∧ r1.1.2.1 0 39 = 0 ∧ r0.2 = r1.2 := by
  obtain ⟨y, m2, r, e1, e2, e3, e4⟩ := q_aRew (q_ROkp h.1 12 0 0 0) hI 0 0 0
  refine ⟨(q_pt 32 3 1 73 (dz_X184_98 x 12 0 0 0) y, r), (m2, r), ?_, e2, q_LXact h hk 12 0 0 0 ((q_pt 32 3 1 73 (dz_X184_98 x 12 0 0 0) y).2.2 172) e3 e4, e4.2.2.2.2.2, rfl⟩
  unfold dz_X58_64 q_let
  dsimp only
  rw [e1]
  rfl
end
end
section
-- 54.v
section
variable {x y z m m2 : q_S} {c d w k : Int}
theorem q_tReg (h : q_LX k m x) (hI : q_Iv c d w m) (hk : k < 512) (a b : Int32) : q_TN k (dz_X10_64_236 x a b) (dz_M289_64 m a b) Int32.toInt64 (a.toInt = 4 → x.2.1 24 7 = 0) := by
  have z0 : (0 : Int32).toInt = 0 := rfl
  have z4 : (4 : Int32).toInt = 4 := rfl
  have z5 : (5 : Int32).toInt = 5 := rfl
  have z255 : (255 : Int32).toInt = 255 := rfl
  have z4095 : (4095 : Int32).toInt = 4095 := rfl
  have eL : x.2.1 24 9 = m.1 14 17 := h.1.r6.2.2.2.2.2.1
  by_cases l_a : a.toInt < 0
  · refine q_TNbad h 1 0 (by decide) ?_ ?_
    · unfold dz_X10_64_236
      rw [q_lt_T (show a.toInt < (0 : Int32).toInt by omega)]
      rfl
    · unfold dz_M289_64 q_let
      dsimp only
      rw [q_202F (v := a) (lo := 0) (hi := 4) (Or.inl (by omega))]
      rfl
  by_cases u_a : 4 < a.toInt
  · refine q_TNbad h 1 0 (by decide) ?_ ?_
    · unfold dz_X10_64_236
      rw [q_lt_F (show (0 : Int32).toInt ≤ a.toInt by omega), q_lt_F (show (5 : Int32).toInt ≤ a.toInt by omega)]
      rfl
    · unfold dz_M289_64 q_let
      dsimp only
      rw [q_202F (v := a) (lo := 0) (hi := 4) (Or.inr (by omega))]
      rfl
  by_cases a4 : a.toInt = 4
  · by_cases hbl : b.toInt < 0
    · refine q_TNbad h 2 0 (by decide) ?_ ?_
      · unfold dz_X10_64_236
        rw [q_lt_F (show (0 : Int32).toInt ≤ a.toInt by omega), q_lt_T (show a.toInt < (5 : Int32).toInt by omega), q_eq_T (show a.toInt = (4 : Int32).toInt by omega), q_lt_T (show b.toInt < (0 : Int32).toInt by omega)]
        rfl
      · unfold dz_M289_64 q_let
        dsimp only
        rw [q_202T (v := a) (lo := 0) (hi := 4) (by omega) (by omega), q_eq_T (show a.toInt = (4 : Int32).toInt by omega), q_202F (v := b) (lo := 0) (hi := 4095) (Or.inl (by omega))]
        rfl
    by_cases hbu : 4095 < b.toInt
    · refine q_TNbad h 2 0 (by decide) ?_ ?_
      · unfold dz_X10_64_236
        rw [q_lt_F (show (0 : Int32).toInt ≤ a.toInt by omega), q_lt_T (show a.toInt < (5 : Int32).toInt by omega), q_eq_T (show a.toInt = (4 : Int32).toInt by omega), q_lt_F (show (0 : Int32).toInt ≤ b.toInt by omega), q_lt_T (show (4095 : Int32).toInt < b.toInt by omega)]
        rfl
      · unfold dz_M289_64 q_let
        dsimp only
        rw [q_202T (v := a) (lo := 0) (hi := 4) (by omega) (by omega), q_eq_T (show a.toInt = (4 : Int32).toInt by omega), q_202F (v := b) (lo := 0) (hi := 4095) (Or.inr (by omega))]
        rfl
    by_cases hl : 0 < (m.1 14 17).toInt
    · refine q_TNbad h 3 0 (by decide) ?_ ?_
      · unfold dz_X10_64_236
        rw [q_lt_F (show (0 : Int32).toInt ≤ a.toInt by omega), q_lt_T (show a.toInt < (5 : Int32).toInt by omega), q_eq_T (show a.toInt = (4 : Int32).toInt by omega), q_lt_F (show (0 : Int32).toInt ≤ b.toInt by omega), q_lt_F (show b.toInt ≤ (4095 : Int32).toInt by omega), eL, q_lt_T (show (0 : Int32).toInt < (m.1 14 17).toInt by omega)]
        rfl
      · unfold dz_M289_64 q_let
        dsimp only
        rw [q_202T (v := a) (lo := 0) (hi := 4) (by omega) (by omega), q_eq_T (show a.toInt = (4 : Int32).toInt by omega), q_202T (v := b) (lo := 0) (hi := 4095) (by omega) (by omega), q_lt_T (show (0 : Int32).toInt < (m.1 14 17).toInt by omega)]
        rfl
    obtain ⟨y, m2, r, r', e1, e2, e3, e4, e5⟩ := q_aReg (q_ROkp h.1 4 a b 0) a b 0 ⟨by omega, by omega⟩ (by omega) (by omega) (by omega) (by omega)
    refine q_TNok h hk 4 a b 0 ((q_pt 32 3 1 73 (dz_X184_98 x 4 a b 0) y).2.2 172) r.toInt64 r' e3 e4 ?_ e2 (fun q => by rw [e5 (fun w => by show (dz_X184_98 x 4 a b 0).2.1 24 7 = 0; rw [q_X184_24]; exact q w)])
    unfold dz_X10_64_236 q_let
    rw [q_lt_F (show (0 : Int32).toInt ≤ a.toInt by omega), q_lt_T (show a.toInt < (5 : Int32).toInt by omega), q_eq_T (show a.toInt = (4 : Int32).toInt by omega), q_lt_F (show (0 : Int32).toInt ≤ b.toInt by omega), q_lt_F (show b.toInt ≤ (4095 : Int32).toInt by omega), eL, q_lt_F (show (m.1 14 17).toInt ≤ (0 : Int32).toInt by omega)]
    dsimp only
    simp only [cond_true, cond_false]
    rw [e1]
    rfl
  · by_cases hbl : b.toInt < 0
    · refine q_TNbad h 2 0 (by decide) ?_ ?_
      · unfold dz_X10_64_236
        rw [q_lt_F (show (0 : Int32).toInt ≤ a.toInt by omega), q_lt_T (show a.toInt < (5 : Int32).toInt by omega), q_eq_F (show ¬ a.toInt = (4 : Int32).toInt by omega), q_lt_T (show b.toInt < (0 : Int32).toInt by omega)]
        rfl
      · unfold dz_M289_64 q_let
        dsimp only
        rw [q_202T (v := a) (lo := 0) (hi := 4) (by omega) (by omega), q_eq_F (show ¬ a.toInt = (4 : Int32).toInt by omega), q_202F (v := b) (lo := 0) (hi := 255) (Or.inl (by omega))]
        rfl
    by_cases hbu : 255 < b.toInt
    · refine q_TNbad h 2 0 (by decide) ?_ ?_
      · unfold dz_X10_64_236
        rw [q_lt_F (show (0 : Int32).toInt ≤ a.toInt by omega), q_lt_T (show a.toInt < (5 : Int32).toInt by omega), q_eq_F (show ¬ a.toInt = (4 : Int32).toInt by omega), q_lt_F (show (0 : Int32).toInt ≤ b.toInt by omega), q_lt_T (show (255 : Int32).toInt < b.toInt by omega)]
        rfl
      · unfold dz_M289_64 q_let
        dsimp only
        rw [q_202T (v := a) (lo := 0) (hi := 4) (by omega) (by omega), q_eq_F (show ¬ a.toInt = (4 : Int32).toInt by omega), q_202F (v := b) (lo := 0) (hi := 255) (Or.inr (by omega))]
        rfl
    by_cases hl : 0 < (m.1 14 17).toInt
    · refine q_TNbad h 3 0 (by decide) ?_ ?_
      · unfold dz_X10_64_236
        rw [q_lt_F (show (0 : Int32).toInt ≤ a.toInt by omega), q_lt_T (show a.toInt < (5 : Int32).toInt by omega), q_eq_F (show ¬ a.toInt = (4 : Int32).toInt by omega), q_lt_F (show (0 : Int32).toInt ≤ b.toInt by omega), q_lt_F (show b.toInt ≤ (255 : Int32).toInt by omega), eL, q_lt_T (show (0 : Int32).toInt < (m.1 14 17).toInt by omega)]
        rfl
      · unfold dz_M289_64 q_let
        dsimp only
        rw [q_202T (v := a) (lo := 0) (hi := 4) (by omega) (by omega), q_eq_F (show ¬ a.toInt = (4 : Int32).toInt by omega), q_202T (v := b) (lo := 0) (hi := 255) (by omega) (by omega), q_lt_T (show (0 : Int32).toInt < (m.1 14 17).toInt by omega)]
        rfl
    obtain ⟨y, m2, r, r', e1, e2, e3, e4, e5⟩ := q_aReg (q_ROkp h.1 4 a b 0) a b 0 ⟨by omega, by omega⟩ (by omega) (by omega) (by omega) (by omega)
    refine q_TNok h hk 4 a b 0 ((q_pt 32 3 1 73 (dz_X184_98 x 4 a b 0) y).2.2 172) r.toInt64 r' e3 e4 ?_ e2 (fun q => by rw [e5 (fun w => by show (dz_X184_98 x 4 a b 0).2.1 24 7 = 0; rw [q_X184_24]; exact q w)])
    unfold dz_X10_64_236 q_let
    rw [q_lt_F (show (0 : Int32).toInt ≤ a.toInt by omega), q_lt_T (show a.toInt < (5 : Int32).toInt by omega), q_eq_F (show ¬ a.toInt = (4 : Int32).toInt by omega), q_lt_F (show (0 : Int32).toInt ≤ b.toInt by omega), q_lt_F (show b.toInt ≤ (255 : Int32).toInt by omega), eL, q_lt_F (show (m.1 14 17).toInt ≤ (0 : Int32).toInt by omega)]
    dsimp only
    simp only [cond_true, cond_false]
    rw [e1]
    rfl
theorem q_tAsm (h : q_LX k m x) (hI : q_Iv c d w m) (hk : k < 512) (a b e0 : Int32) : q_TN k (dz_X5_64_236 x a b e0) (dz_M279_64 m a b e0) Int32.toInt64 True := by
  have z0 : (0 : Int32).toInt = 0 := rfl
  have z2 : (2 : Int32).toInt = 2 := rfl
  have z255 : (255 : Int32).toInt = 255 := rfl
  have z4095 : (4095 : Int32).toInt = 4095 := rfl
  have z4096 : (4096 : Int32).toInt = 4096 := rfl
  by_cases l_a : a.toInt < 0
  · refine q_TNbad h 1 0 (by decide) ?_ ?_
    · unfold dz_X5_64_236
      rw [q_lt_T (show a.toInt < (0 : Int32).toInt by omega)]
      rfl
    · unfold dz_M279_64 dz_M204 dz_M203 q_let
      dsimp only
      rw [q_202F (v := a) (lo := 0) (hi := 4095) (Or.inl (by omega))]; rfl
  by_cases u_a : 4095 < a.toInt
  · refine q_TNbad h 1 0 (by decide) ?_ ?_
    · unfold dz_X5_64_236
      rw [q_lt_F (show (0 : Int32).toInt ≤ a.toInt by omega), q_lt_F (show (4096 : Int32).toInt ≤ a.toInt by omega)]
      rfl
    · unfold dz_M279_64 dz_M204 dz_M203 q_let
      dsimp only
      rw [q_202F (v := a) (lo := 0) (hi := 4095) (Or.inr (by omega))]; rfl
  by_cases l_b : b.toInt < 0
  · refine q_TNbad h 2 0 (by decide) ?_ ?_
    · unfold dz_X5_64_236
      rw [q_lt_F (show (0 : Int32).toInt ≤ a.toInt by omega), q_lt_T (show a.toInt < (4096 : Int32).toInt by omega), q_lt_T (show b.toInt < (0 : Int32).toInt by omega)]
      rfl
    · unfold dz_M279_64 dz_M204 dz_M203 q_let
      dsimp only
      rw [q_202T (v := a) (lo := 0) (hi := 4095) (by omega) (by omega), q_202F (v := b) (lo := 0) (hi := 255) (Or.inl (by omega))]; rfl
  by_cases u_b : 255 < b.toInt
  · refine q_TNbad h 2 0 (by decide) ?_ ?_
    · unfold dz_X5_64_236
      rw [q_lt_F (show (0 : Int32).toInt ≤ a.toInt by omega), q_lt_T (show a.toInt < (4096 : Int32).toInt by omega), q_lt_F (show (0 : Int32).toInt ≤ b.toInt by omega), q_lt_T (show (255 : Int32).toInt < b.toInt by omega)]
      rfl
    · unfold dz_M279_64 dz_M204 dz_M203 q_let
      dsimp only
      rw [q_202T (v := a) (lo := 0) (hi := 4095) (by omega) (by omega), q_202F (v := b) (lo := 0) (hi := 255) (Or.inr (by omega))]; rfl
  have hb : q_rgz 0 255 b := ⟨by omega, by omega⟩
  have e8 : b &&& 255 = b := by
    apply Int32.toInt_inj.mp
    rw [q_andI 8 (by decide) hb (by decide) (show (255 : Int32).toInt = 2 ^ 8 - 1 from rfl)]
    show b.toInt % 256 = _
    omega
  have t2 := (q_code (q_vw 32 1 73 x) m hb).2.1
  by_cases l_e : e0.toInt < 0
  · refine q_TNbad h 2 0 (by decide) ?_ ?_
    · unfold dz_X5_64_236
      rw [q_lt_F (show (0 : Int32).toInt ≤ a.toInt by omega), q_lt_T (show a.toInt < (4096 : Int32).toInt by omega), q_lt_F (show (0 : Int32).toInt ≤ b.toInt by omega), q_lt_F (show b.toInt ≤ (255 : Int32).toInt by omega), q_lt_T (show e0.toInt < (0 : Int32).toInt by omega)]
      rfl
    · unfold dz_M279_64 dz_M204 dz_M203 q_let
      dsimp only
      rw [q_202T (v := a) (lo := 0) (hi := 4095) (by omega) (by omega), q_202T (v := b) (lo := 0) (hi := 255) (by omega) (by omega), e8, q_202F (v := e0) (lo := 0) (hi := 255) (Or.inl (by omega)), q_202F (v := e0) (lo := 0) (hi := 4095) (Or.inl (by omega))]
      cases decide (dz_M246 m b = 2) <;> rfl
  by_cases u_e : 4095 < e0.toInt
  · refine q_TNbad h 2 0 (by decide) ?_ ?_
    · unfold dz_X5_64_236
      rw [q_lt_F (show (0 : Int32).toInt ≤ a.toInt by omega), q_lt_T (show a.toInt < (4096 : Int32).toInt by omega), q_lt_F (show (0 : Int32).toInt ≤ b.toInt by omega), q_lt_F (show b.toInt ≤ (255 : Int32).toInt by omega), q_lt_F (show (0 : Int32).toInt ≤ e0.toInt by omega), q_lt_T (show (4095 : Int32).toInt < e0.toInt by omega)]
      rfl
    · unfold dz_M279_64 dz_M204 dz_M203 q_let
      dsimp only
      rw [q_202T (v := a) (lo := 0) (hi := 4095) (by omega) (by omega), q_202T (v := b) (lo := 0) (hi := 255) (by omega) (by omega), e8, q_202F (v := e0) (lo := 0) (hi := 255) (Or.inr (by omega)), q_202F (v := e0) (lo := 0) (hi := 4095) (Or.inr (by omega))]
      cases decide (dz_M246 m b = 2) <;> rfl
  have fin : ∀ y r, dz_N79_64 (q_vw 32 1 73 (dz_X184_98 x 3 a b e0)) 3 a b e0 = some (y, r) → ((dz_M246 m b).toInt = 2 → e0.toInt ≤ 255) → dz_X5_64_236 x a b e0 = some (q_sL (q_pt 32 3 1 73 (dz_X184_98 x 3 a b e0) y) 172 (vp_updL ((q_pt 32 3 1 73 (dz_X184_98 x 3 a b e0) y).2.2 172) 0 r.toInt64), 0, 0) := fun y r e1 hl => by
    unfold dz_X5_64_236 q_let
    dsimp only
    rw [q_lt_F (show (0 : Int32).toInt ≤ a.toInt by omega), q_lt_T (show a.toInt < (4096 : Int32).toInt by omega), q_lt_F (show (0 : Int32).toInt ≤ b.toInt by omega), q_lt_F (show b.toInt ≤ (255 : Int32).toInt by omega), q_lt_F (show (0 : Int32).toInt ≤ e0.toInt by omega), q_lt_F (show e0.toInt ≤ (4095 : Int32).toInt by omega), t2, e1]
    by_cases k2 : (dz_M246 m b).toInt = 2
    · have := hl k2
      rw [q_eq_T (show (dz_M246 m b).toInt = (2 : Int32).toInt by omega), q_lt_F (show e0.toInt ≤ (255 : Int32).toInt by omega)]
      rfl
    · rw [q_eq_F (show ¬ (dz_M246 m b).toInt = (2 : Int32).toInt by omega)]
      rfl
  by_cases w2 : (dz_M246 m b).toInt = 2 ∧ 255 < e0.toInt
  · obtain ⟨k2, k3⟩ := w2
    refine q_TNbad h 2 0 (by decide) ?_ ?_
    · unfold dz_X5_64_236 q_let
      dsimp only
      rw [q_lt_F (show (0 : Int32).toInt ≤ a.toInt by omega), q_lt_T (show a.toInt < (4096 : Int32).toInt by omega), q_lt_F (show (0 : Int32).toInt ≤ b.toInt by omega), q_lt_F (show b.toInt ≤ (255 : Int32).toInt by omega), q_lt_F (show (0 : Int32).toInt ≤ e0.toInt by omega), q_lt_F (show e0.toInt ≤ (4095 : Int32).toInt by omega), t2, q_eq_T (show (dz_M246 m b).toInt = (2 : Int32).toInt by omega), q_lt_T (show (255 : Int32).toInt < e0.toInt by omega)]
      rfl
    · unfold dz_M279_64 dz_M204 dz_M203 q_let
      dsimp only
      rw [q_202T (v := a) (lo := 0) (hi := 4095) (by omega) (by omega), q_202T (v := b) (lo := 0) (hi := 255) (by omega) (by omega), e8, q_eq_T (show (dz_M246 m b).toInt = (2 : Int32).toInt by omega), q_202F (v := e0) (lo := 0) (hi := 255) (Or.inr (by omega))]
      rfl
  have hl : (dz_M246 m b).toInt = 2 → e0.toInt ≤ 255 := fun q => by omega
  obtain ⟨y, m2, r, e1, e2, e3, e4⟩ := q_aAsm (q_ROkp h.1 3 a b e0) hI a b e0 ⟨by omega, by omega⟩ hb ⟨by omega, by omega⟩ hl
  exact q_TNok h hk 3 a b e0 ((q_pt 32 3 1 73 (dz_X184_98 x 3 a b e0) y).2.2 172) r.toInt64 r e3 e4 (fin y r e1 hl) e2 (fun _ => rfl)
end
end
section
-- 54.w
section
variable {x y z m m2 : q_S} {c d w k : Int}
theorem q_agMr (m : q_S) (t : Nat) : q_agM m (q_svd t (q_mok m)) := ⟨fun _ _ => rfl, fun _ _ => rfl, fun _ _ => rfl, fun _ _ => rfl, fun _ _ => rfl, fun _ _ => rfl, fun _ _ => rfl, fun _ _ => rfl, fun _ _ => rfl, fun _ _ => rfl, fun _ _ => rfl, fun _ _ => rfl, fun _ _ => rfl, fun _ _ => rfl, fun _ _ => rfl, rfl, rfl⟩
/-- flags of the class' machine are 0 or 1 -/
theorem q_iNof {TT : (Nat → Int32) → Int32 → (Nat → Int32) → Int32 → Int64 → Int64 → List Int32 → List (Nat → Int32) → (Nat → Int64) → Prop} (h : q_R TT x m) (h6 : q_rgz 0 1 (m.1 15 6)) (h7 : q_rgz 0 1 (m.1 15 7)) : q_iN x := ⟨by rw [h.r6.2.2.1]; exact h6, by rw [h.r6.2.2.2.1]; exact h7⟩
theorem q_agXr (x : q_S) : q_agX x x := ⟨fun _ _ => rfl, fun _ _ => rfl, fun _ _ => rfl, fun _ _ => rfl, fun _ _ => rfl, fun _ _ => rfl, fun _ _ => rfl, fun _ _ => rfl, fun _ _ => rfl, fun _ _ => rfl, fun _ _ => rfl, fun _ _ => rfl, fun _ _ => rfl, fun _ _ => rfl, fun _ _ => rfl, rfl, rfl, rfl, rfl, rfl, rfl, rfl, rfl, rfl, rfl, rfl, rfl, rfl, rfl, rfl, rfl, rfl, rfl, rfl⟩
def q_x0 (x r : q_S) : q_S := q_sL (q_sI (q_pt 32 32 76 1 x r) 0 2 1) 172 (vp_updL ((q_pt 32 32 76 1 x r).2.2 172) 0 0)
theorem q_tSav0 (h : q_LX k m x) (hI : q_Iv c d w m) (hs : m.2.1 0 17 = 0) : q_TN k (dz_X22_64_236 x) (dz_M306_64 m) Int32.toInt64 True := by
  obtain ⟨h1, h2, h3, h4, h5, h6, ⟨r1, r2, r3, r4, r5⟩, h8⟩ := h
  have hn : (m.1 14 13).toInt ≤ 40 := (hI.1 14 13).2
  have hp : 0 ≤ (m.1 14 14).toInt := (hI.1 14 14).1
  have hsI : (m.2.1 0 17).toInt = (0 : Nat) := by rw [hs]; rfl
  have tt := q_R_t h1
  obtain ⟨i6, i7⟩ := q_iNof h1 (hI.1 15 6) (hI.1 15 7)
  obtain ⟨r, a1, a2, a3, a4, a5⟩ := q_bcm (q_vw 32 76 1 x) i6 i7
  have A := a2
  obtain ⟨-, -, -, -, -, -, -, -, -, -, -, -, -, -, -, -, -, -, -, -, -, -, -, -, -, -, -, -, -, -, -, e11, -, -⟩ := A
  refine ⟨(q_x0 x r, 0, 0), (q_svd 0 (q_mok m), m.2.1 0 17), ?_, q_306e hI (by decide) hsI, ⟨?_, ?_, ?_, ?_, ?_, h6, ⟨r1, r2, by show (x.2.1 34 5).toInt ≤ k + 1; omega, r4, r5⟩, h8⟩, Nat.zero_le _, rfl, fun _ _ => ?_⟩
  rotate_left
  · have s1 : q_R (q_TT0 0 (q_svF m) (q_svW m) (m.2.2 31)) (q_src r) m := by rw [a3]; exact h1
    have s2 : q_RO (q_svd 0 (q_mok m)) (q_src r) (q_svd 0 (q_mok m)) := q_R_ag s1 (q_agXr _) (q_agMr m 0) hn hp (by
      have t9 := q_R_t s1
      exact ⟨t9.1, t9.2.1, t9.2.2.1, rfl, rfl, rfl⟩)
    exact s2
  · show ((1 : Int32)) = (m.2.1 0 17) + 1
    rw [hs]; rfl
  · intro _
    refine q_R_ag h1 (x := q_vwM x) (y := q_vwS 0 (q_x0 x r)) a2 (q_agSv hI 0) hn hp ?_
    exact ⟨fun j hj => Eq.trans (a2.2.2.2.2.2.2.2.2.1 j hj) (Eq.trans (tt.1 j hj) ((q_agSv hI 0).2.2.2.2.2.2.2.2.1 j hj).symm), e11.trans (tt.2.1.trans ((q_agSv hI 0).2.2.2.2.2.2.2.2.2.2.2.2.2.1 20 (by decide)).symm), by
      have e16 := (q_agSv hI 0).2.2.2.2.2.2.2.2.2.2.2.2.2.2.2.2
      have e4 : (q_vwS 0 (q_x0 x r)).2.2 0 4 = (q_vwM x).2.2 0 4 := a4
      have e0 := tt.2.2.1
      rw [Int64.add_zero] at e0
      exact (e4.trans e0).trans e16.symm⟩
  · intro q
    have q' : (1 : Int) < ((m.2.1 0 17) + 1).toInt := q
    rw [show m.2.1 0 17 = 0 from hs] at q'
    exact absurd q' (by decide)
  · intro q
    have q' : (2 : Int) < ((m.2.1 0 17) + 1).toInt := q
    rw [show m.2.1 0 17 = 0 from hs] at q'
    exact absurd q' (by decide)
  · show vp_updL ((q_pt 32 32 76 1 x r).2.2 172) 0 (0 : Int64) 0 = (m.2.1 0 17).toInt64
    rw [q_upL1 _ _ _ _ rfl, hs]; rfl
  · unfold dz_X22_64_236
    rw [show x.2.1 0 2 = 0 from h2.trans hs, a1]
    rfl
def q_x1 (x r : q_S) : q_S := q_sL (q_sI (q_pt 32 32 108 1 x r) 0 2 2) 172 (vp_updL ((q_pt 32 32 108 1 x r).2.2 172) 0 1)
theorem q_tSav1 (h : q_LX k m x) (hI : q_Iv c d w m) (hs : m.2.1 0 17 = 1) : q_TN k (dz_X22_64_236 x) (dz_M306_64 m) Int32.toInt64 True := by
  obtain ⟨h1, h2, h3, h4, h5, h6, ⟨r1, r2, r3, r4, r5⟩, h8⟩ := h
  have hn : (m.1 14 13).toInt ≤ 40 := (hI.1 14 13).2
  have hp : 0 ≤ (m.1 14 14).toInt := (hI.1 14 14).1
  have hsI : (m.2.1 0 17).toInt = (1 : Nat) := by rw [hs]; rfl
  have tt := q_R_t h1
  obtain ⟨i6, i7⟩ := q_iNof h1 (hI.1 15 6) (hI.1 15 7)
  obtain ⟨r, a1, a2, a3, a4, a5⟩ := q_bcm (q_vw 32 108 1 x) i6 i7
  have A := a2
  obtain ⟨-, -, -, -, -, -, -, -, -, -, -, -, -, -, -, -, -, -, -, -, -, -, -, -, -, -, -, -, -, -, -, e11, -, -⟩ := A
  refine ⟨(q_x1 x r, 0, 0), (q_svd 1 (q_mok m), m.2.1 0 17), ?_, q_306e hI (by decide) hsI, ⟨?_, ?_, ?_, ?_, ?_, h6, ⟨r1, r2, by show (x.2.1 34 5).toInt ≤ k + 1; omega, r4, r5⟩, h8⟩, Nat.zero_le _, rfl, fun _ _ => ?_⟩
  rotate_left
  · have s1 : q_R (q_TT0 0 (q_svF m) (q_svW m) (m.2.2 31)) (q_src r) m := by rw [a3]; exact h1
    have s2 : q_RO (q_svd 1 (q_mok m)) (q_src r) (q_svd 1 (q_mok m)) := q_R_ag s1 (q_agXr _) (q_agMr m 1) hn hp (by
      have t9 := q_R_t s1
      exact ⟨t9.1, t9.2.1, t9.2.2.1, rfl, rfl, rfl⟩)
    exact s2
  · show ((2 : Int32)) = (m.2.1 0 17) + 1
    rw [hs]; rfl
  · intro _
    have hu := h3 (by omega)
    have tu := q_R_t hu
    refine q_R_ag hu (q_agXr _) (q_agSu 1 0 (by decide)) (by show (m.1 29 (24 * 0 + 13)).toInt ≤ 40; exact (hI.1 29 (24 * 0 + 13)).2) (by show 0 ≤ (m.1 29 (24 * 0 + 14)).toInt; exact (hI.1 29 (24 * 0 + 14)).1) ?_
    exact ⟨fun j hj => Eq.trans (tu.1 j hj) ((q_agSu (m := m) 1 0 (by decide)).2.2.2.2.2.2.2.2.1 j hj).symm, tu.2.1.trans ((q_agSu (m := m) 1 0 (by decide)).2.2.2.2.2.2.2.2.2.2.2.2.2.1 20 (by decide)).symm, tu.2.2.trans ((q_agSu (m := m) 1 0 (by decide)).2.2.2.2.2.2.2.2.2.2.2.2.2.2.2.2).symm⟩
  · intro _
    refine q_R_ag h1 (x := q_vwM x) (y := q_vwS 1 (q_x1 x r)) a2 (q_agSv hI 1) hn hp ?_
    exact ⟨fun j hj => Eq.trans (a2.2.2.2.2.2.2.2.2.1 j hj) (Eq.trans (tt.1 j hj) ((q_agSv hI 1).2.2.2.2.2.2.2.2.1 j hj).symm), e11.trans (tt.2.1.trans ((q_agSv hI 1).2.2.2.2.2.2.2.2.2.2.2.2.2.1 20 (by decide)).symm), by
      have e16 := (q_agSv hI 1).2.2.2.2.2.2.2.2.2.2.2.2.2.2.2.2
      have e4 : (q_vwS 1 (q_x1 x r)).2.2 0 4 = (q_vwM x).2.2 0 4 := a4
      have e0 := tt.2.2.1
      rw [Int64.add_zero] at e0
      exact (e4.trans e0).trans e16.symm⟩
  · intro q
    have q' : (2 : Int) < ((m.2.1 0 17) + 1).toInt := q
    rw [show m.2.1 0 17 = 1 from hs] at q'
    exact absurd q' (by decide)
  · show vp_updL ((q_pt 32 32 108 1 x r).2.2 172) 0 (1 : Int64) 0 = (m.2.1 0 17).toInt64
    rw [q_upL1 _ _ _ _ rfl, hs]; rfl
  · unfold dz_X22_64_236
    rw [show x.2.1 0 2 = 1 from h2.trans hs, a1]
    rfl
def q_x2 (x r : q_S) : q_S := q_sL (q_sI (q_pt 32 32 140 1 x r) 0 2 3) 172 (vp_updL ((q_pt 32 32 140 1 x r).2.2 172) 0 2)
theorem q_tSav2 (h : q_LX k m x) (hI : q_Iv c d w m) (hs : m.2.1 0 17 = 2) : q_TN k (dz_X22_64_236 x) (dz_M306_64 m) Int32.toInt64 True := by
  obtain ⟨h1, h2, h3, h4, h5, h6, ⟨r1, r2, r3, r4, r5⟩, h8⟩ := h
  have hn : (m.1 14 13).toInt ≤ 40 := (hI.1 14 13).2
  have hp : 0 ≤ (m.1 14 14).toInt := (hI.1 14 14).1
  have hsI : (m.2.1 0 17).toInt = (2 : Nat) := by rw [hs]; rfl
  have tt := q_R_t h1
  obtain ⟨i6, i7⟩ := q_iNof h1 (hI.1 15 6) (hI.1 15 7)
  obtain ⟨r, a1, a2, a3, a4, a5⟩ := q_bcm (q_vw 32 140 1 x) i6 i7
  have A := a2
  obtain ⟨-, -, -, -, -, -, -, -, -, -, -, -, -, -, -, -, -, -, -, -, -, -, -, -, -, -, -, -, -, -, -, e11, -, -⟩ := A
  refine ⟨(q_x2 x r, 0, 0), (q_svd 2 (q_mok m), m.2.1 0 17), ?_, q_306e hI (by decide) hsI, ⟨?_, ?_, ?_, ?_, ?_, h6, ⟨r1, r2, by show (x.2.1 34 5).toInt ≤ k + 1; omega, r4, r5⟩, h8⟩, Nat.zero_le _, rfl, fun _ _ => ?_⟩
  rotate_left
  · have s1 : q_R (q_TT0 0 (q_svF m) (q_svW m) (m.2.2 31)) (q_src r) m := by rw [a3]; exact h1
    have s2 : q_RO (q_svd 2 (q_mok m)) (q_src r) (q_svd 2 (q_mok m)) := q_R_ag s1 (q_agXr _) (q_agMr m 2) hn hp (by
      have t9 := q_R_t s1
      exact ⟨t9.1, t9.2.1, t9.2.2.1, rfl, rfl, rfl⟩)
    exact s2
  · show ((3 : Int32)) = (m.2.1 0 17) + 1
    rw [hs]; rfl
  · intro _
    have hu := h3 (by omega)
    have tu := q_R_t hu
    refine q_R_ag hu (q_agXr _) (q_agSu 2 0 (by decide)) (by show (m.1 29 (24 * 0 + 13)).toInt ≤ 40; exact (hI.1 29 (24 * 0 + 13)).2) (by show 0 ≤ (m.1 29 (24 * 0 + 14)).toInt; exact (hI.1 29 (24 * 0 + 14)).1) ?_
    exact ⟨fun j hj => Eq.trans (tu.1 j hj) ((q_agSu (m := m) 2 0 (by decide)).2.2.2.2.2.2.2.2.1 j hj).symm, tu.2.1.trans ((q_agSu (m := m) 2 0 (by decide)).2.2.2.2.2.2.2.2.2.2.2.2.2.1 20 (by decide)).symm, tu.2.2.trans ((q_agSu (m := m) 2 0 (by decide)).2.2.2.2.2.2.2.2.2.2.2.2.2.2.2.2).symm⟩
  · intro _
    have hu := h4 (by omega)
    have tu := q_R_t hu
    refine q_R_ag hu (q_agXr _) (q_agSu 2 1 (by decide)) (by show (m.1 29 (24 * 1 + 13)).toInt ≤ 40; exact (hI.1 29 (24 * 1 + 13)).2) (by show 0 ≤ (m.1 29 (24 * 1 + 14)).toInt; exact (hI.1 29 (24 * 1 + 14)).1) ?_
    exact ⟨fun j hj => Eq.trans (tu.1 j hj) ((q_agSu (m := m) 2 1 (by decide)).2.2.2.2.2.2.2.2.1 j hj).symm, tu.2.1.trans ((q_agSu (m := m) 2 1 (by decide)).2.2.2.2.2.2.2.2.2.2.2.2.2.1 20 (by decide)).symm, tu.2.2.trans ((q_agSu (m := m) 2 1 (by decide)).2.2.2.2.2.2.2.2.2.2.2.2.2.2.2.2).symm⟩
  · intro _
    refine q_R_ag h1 (x := q_vwM x) (y := q_vwS 2 (q_x2 x r)) a2 (q_agSv hI 2) hn hp ?_
    exact ⟨fun j hj => Eq.trans (a2.2.2.2.2.2.2.2.2.1 j hj) (Eq.trans (tt.1 j hj) ((q_agSv hI 2).2.2.2.2.2.2.2.2.1 j hj).symm), e11.trans (tt.2.1.trans ((q_agSv hI 2).2.2.2.2.2.2.2.2.2.2.2.2.2.1 20 (by decide)).symm), by
      have e16 := (q_agSv hI 2).2.2.2.2.2.2.2.2.2.2.2.2.2.2.2.2
      have e4 : (q_vwS 2 (q_x2 x r)).2.2 0 4 = (q_vwM x).2.2 0 4 := a4
      have e0 := tt.2.2.1
      rw [Int64.add_zero] at e0
      exact (e4.trans e0).trans e16.symm⟩
  · show vp_updL ((q_pt 32 32 140 1 x r).2.2 172) 0 (2 : Int64) 0 = (m.2.1 0 17).toInt64
    rw [q_upL1 _ _ _ _ rfl, hs]; rfl
  · unfold dz_X22_64_236
    rw [show x.2.1 0 2 = 2 from h2.trans hs, a1]
    rfl
theorem q_tSav (h : q_LX k m x) (hI : q_Iv c d w m) : q_TN k (dz_X22_64_236 x) (dz_M306_64 m) Int32.toInt64 True := by
  have g : q_rgz 0 3 (m.2.1 0 17) := hI.2.1 0 17
  have g0 := g.1
  have g1 := g.2
  rcases (by omega : (m.2.1 0 17).toInt = 0 ∨ (m.2.1 0 17).toInt = 1 ∨ (m.2.1 0 17).toInt = 2 ∨ (m.2.1 0 17).toInt = 3) with e | e | e | e
  · exact q_tSav0 h hI (Int32.toInt_inj.mp e)
  · exact q_tSav1 h hI (Int32.toInt_inj.mp e)
  · exact q_tSav2 h hI (Int32.toInt_inj.mp e)
  · have e3 : m.2.1 0 17 = 3 := Int32.toInt_inj.mp e
    refine q_TNbad h 1 0 (by decide) ?_ ?_
    · unfold dz_X22_64_236
      rw [show x.2.1 0 2 = 3 from h.2.1.trans e3]
      rfl
    · unfold dz_M306_64
      rw [e3]
      rfl
end
end
section
-- 54.x
section
variable {x y z m m2 : q_S} {c d w k : Int}
/-- what differs is counted alike -/
theorem q_lpDf {s z : q_S} (u : Nat) (a : Int32) (hu : u < 3) (ha : a.toInt = u) (h1 : ∀ j, j < 4096 → s.1 3 j = z.1 1 j) (h2 : ∀ j, j < 4096 → s.1 35 j = z.1 16 (4096 * u + j)) : ∀ (n f g : Nat) (v2 v3 : Int32), v3.toInt + n = 4096 → 0 ≤ v3.toInt → n ≤ f → n ≤ g → ∃ r, dz_W111_66_98_4 (f + 1) s v2 v3 = some r ∧ dz_M307_64_4 (g + 1) z a v2 v3 = some r := by
  intro n
  induction n with
  | zero =>
    intro f g v2 v3 hn h0 hf hg
    refine ⟨v2, ?_, ?_⟩
    · rw [dzs_W111_66_98_4]
      dsimp only
      rw [q_lt_F (by show (4096 : Int) ≤ _; omega)]
      rfl
    · rw [dzs_M307_64_4]
      dsimp only
      rw [q_lt_F (by show (4096 : Int) ≤ _; omega)]
      rfl
  | succ n ih =>
    intro f g v2 v3 hn h0 hf hg
    obtain ⟨f, rfl⟩ : ∃ f', f = f' + 1 := ⟨f - 1, by omega⟩
    obtain ⟨g, rfl⟩ : ∃ g', g = g' + 1 := ⟨g - 1, by omega⟩
    have e2 : (v3 + 1).toInt = v3.toInt + 1 := q_addI ⟨by omega, by omega⟩ ⟨by decide, by decide⟩
    have em : (4096 * a).toInt = 4096 * (u : Int) := by
      rcases (by omega : u = 0 ∨ u = 1 ∨ u = 2) with rfl | rfl | rfl
      · rw [show a = 0 from Int32.toInt_inj.mp ha]; decide
      · rw [show a = 1 from Int32.toInt_inj.mp ha]; decide
      · rw [show a = 2 from Int32.toInt_inj.mp ha]; decide
    have ei : ((4096 * a) + v3).toInt = 4096 * (u : Int) + v3.toInt := by rw [q_addI ⟨by omega, by omega⟩ ⟨by omega, by omega⟩, em]
    have en : v3.toNatClampNeg < 4096 := by show v3.toInt.toNat < 4096; omega
    have ej : ((4096 * a) + v3).toNatClampNeg = 4096 * u + v3.toNatClampNeg := by
      show ((4096 * a) + v3).toInt.toNat = 4096 * u + v3.toInt.toNat
      omega
    obtain ⟨r, c1, c2⟩ := ih f g (cond (decide (z.1 1 v3.toNatClampNeg = z.1 16 (4096 * u + v3.toNatClampNeg))) v2 (v2 + 1)) (v3 + 1) (by omega) (by omega) (by omega) (by omega)
    have hin : q_in v3 4096 = true := q_in_rg (l := 0) (u := 4095) ⟨h0, by omega⟩ (by decide) (by decide)
    have hin2 : q_in ((4096 * a) + v3) 12288 = true := q_in_rg (l := 0) (u := 12287) ⟨by omega, by omega⟩ (by decide) (by decide)
    refine ⟨r, ?_, ?_⟩
    · rw [dzs_W111_66_98_4]
      generalize dz_W111_66_98_4 (f + 1) = kk at c1 ⊢
      dsimp only
      rw [q_lt_T (by show _ < (4096 : Int); omega), cond_true, hin, cond_true, h1 _ en, h2 _ en]
      cases q : decide (z.1 1 v3.toNatClampNeg = z.1 16 (4096 * u + v3.toNatClampNeg)) with
      | true => rw [q] at c1; exact c1
      | false => rw [q] at c1; exact c1
    · rw [dzs_M307_64_4]
      generalize dz_M307_64_4 (g + 1) = kk at c2 ⊢
      dsimp only
      rw [q_lt_T (by show _ < (4096 : Int); omega), cond_true, hin, cond_true, hin2, cond_true, ej]
      cases q : decide (z.1 1 v3.toNatClampNeg = z.1 16 (4096 * u + v3.toNatClampNeg)) with
      | true => rw [q] at c2; rw [cond_true, Int32.add_zero]; exact c2
      | false => rw [q] at c2; exact c2
theorem q_dfeq {s z : q_S} (u : Nat) (a : Int32) (hu : u < 3) (ha : a.toInt = u) (h1 : ∀ j, j < 4096 → s.1 3 j = z.1 1 j) (h2 : ∀ j, j < 4096 → s.1 35 j = z.1 16 (4096 * u + j)) {v r : Int32} (e1 : dz_W111_66_98 s = some v) (e2 : dz_M307_64 z a = some r) : v = r := by
  obtain ⟨r9, c1, c2⟩ := q_lpDf u a hu ha h1 h2 4096 4999 4999 0 0 (by decide) (by decide) (by decide) (by decide)
  have c1' : dz_W111_66_98 s = some r9 := c1
  have c2' : dz_M307_64 z a = some r9 := c2
  rw [e1] at c1'
  rw [e2] at c2'
  exact (Option.some.inj c1').trans (Option.some.inj c2').symm
def q_y0 (x r : q_S) (v : Int64) : q_S := q_sL (q_sI (q_pt 32 32 1 76 x r) 34 7 0) 172 (vp_updL ((q_pt 32 32 1 76 x r).2.2 172) 0 v)
theorem q_tRst0 (h : q_LX k m x) (hI : q_Iv c d w m) (hs : (0 : Int) < (m.2.1 0 17).toInt) : q_TN k (dz_X23_64_236 x 0) (dz_M308_64 m 0) Int32.toInt64 True := by
  obtain ⟨h1, h2, h3, h4, h5, h6, ⟨r1, r2, r3, r4, r5⟩, h8⟩ := h
  have hu := h3 hs
  have g3 : (m.2.1 0 17).toInt ≤ 3 := (hI.2.1 0 17).2
  obtain ⟨i6, i7⟩ := q_iNof h1 (hI.1 15 6) (hI.1 15 7)
  obtain ⟨s6, s7⟩ := q_iNof hu (hI.1 30 (8 * 0 + 6)) (hI.1 30 (8 * 0 + 7))
  obtain ⟨r, a1, a2, a3, a4, a5⟩ := q_bcm (q_vw 32 1 76 x) s6 s7
  obtain ⟨v, w1, -⟩ := dzj_W111_66_98 (q_vw 32 1 76 x) ⟨⟨i6, i7⟩, s6, s7⟩
  obtain ⟨rv, e1, e7⟩ := q_308e hI (t := 0) (a := 0) (by decide) rfl hs
  have ev : v = rv := q_dfeq (s := q_vw 32 1 76 x) (z := q_mok m) 0 0 (by decide) rfl (fun j hj => h1.r1.1 j hj) (fun j hj => hu.r1.1 j hj) w1 e7
  have tu := q_R_t hu
  have am := q_agRs hI 0 (by decide)
  have A := a2
  obtain ⟨-, -, -, -, -, -, -, -, -, -, -, -, -, -, -, -, -, -, -, -, -, -, -, -, -, -, -, -, -, -, -, e11, -, -⟩ := A
  have M1 : q_RO (q_rsd 0 (q_mok m)) (q_vwM (q_y0 x r v.toInt64)) (q_rsd 0 (q_mok m)) := by
    refine q_R_ag hu (x := q_vwS 0 x) (y := q_vwM (q_y0 x r v.toInt64)) a2 am (by show (m.1 29 (24 * 0 + 13)).toInt ≤ 40; exact (hI.1 29 (24 * 0 + 13)).2) (by show 0 ≤ (m.1 29 (24 * 0 + 14)).toInt; exact (hI.1 29 (24 * 0 + 14)).1) ?_
    exact ⟨fun j hj => Eq.trans (a2.2.2.2.2.2.2.2.2.1 j hj) (Eq.trans (tu.1 j hj) (am.2.2.2.2.2.2.2.2.1 j hj).symm), e11.trans (tu.2.1.trans (am.2.2.2.2.2.2.2.2.2.2.2.2.2.1 20 (by decide)).symm), by
      have e16 := am.2.2.2.2.2.2.2.2.2.2.2.2.2.2.2.2
      have e4 : (q_vwM (q_y0 x r v.toInt64)).2.2 0 4 = (q_vwS 0 x).2.2 0 4 := a4
      rw [Int64.add_zero]
      exact (e4.trans tu.2.2).trans e16.symm, rfl, rfl, rfl⟩
  have s1 : q_R q_TTs (q_src r) (q_ms 0 (q_svW m) (m.2.2 31)) := by rw [a3]; exact hu
  refine ⟨(q_y0 x r v.toInt64, 0, 0), (q_rsd 0 (q_mok m), rv), ?_, e1, ⟨M1, h2, fun _ => s1, h4, h5, h6, ⟨Or.inl ⟨rfl, rfl⟩, r2, by show (x.2.1 34 5).toInt ≤ k + 1; omega, r4, r5⟩, h8⟩, Nat.zero_le _, rfl, fun _ _ => by
    show vp_updL ((q_pt 32 32 1 76 x r).2.2 172) 0 v.toInt64 0 = rv.toInt64
    rw [q_upL1 _ _ _ _ rfl, ev]⟩
  have z0 : (0 : Int32).toInt = 0 := rfl
  unfold dz_X23_64_236
  rw [h2, q_lt_F (show (0 : Int32).toInt ≤ (0 : Int32).toInt by decide), q_lt_T (show (0 : Int32).toInt < (m.2.1 0 17).toInt by omega)]
  show ((dz_W111_66_98 (q_vw 32 1 76 x)).bind fun r1 => (dz_W77_64_96 (q_vw 32 1 76 x)).bind fun r2 => some ((q_sL (q_sI (q_pt 32 32 1 76 x r2) 34 7 0) 172 (vp_updL ((q_pt 32 32 1 76 x r2).2.2 172) 0 r1.toInt64)), 0, 0)) = _
  rw [w1, a1]
  rfl
def q_y1 (x r : q_S) (v : Int64) : q_S := q_sL (q_sI (q_pt 32 32 1 108 x r) 34 7 0) 172 (vp_updL ((q_pt 32 32 1 108 x r).2.2 172) 0 v)
theorem q_tRst1 (h : q_LX k m x) (hI : q_Iv c d w m) (hs : (1 : Int) < (m.2.1 0 17).toInt) : q_TN k (dz_X23_64_236 x 1) (dz_M308_64 m 1) Int32.toInt64 True := by
  obtain ⟨h1, h2, h3, h4, h5, h6, ⟨r1, r2, r3, r4, r5⟩, h8⟩ := h
  have hu := h4 hs
  have g3 : (m.2.1 0 17).toInt ≤ 3 := (hI.2.1 0 17).2
  obtain ⟨i6, i7⟩ := q_iNof h1 (hI.1 15 6) (hI.1 15 7)
  obtain ⟨s6, s7⟩ := q_iNof hu (hI.1 30 (8 * 1 + 6)) (hI.1 30 (8 * 1 + 7))
  obtain ⟨r, a1, a2, a3, a4, a5⟩ := q_bcm (q_vw 32 1 108 x) s6 s7
  obtain ⟨v, w1, -⟩ := dzj_W111_66_98 (q_vw 32 1 108 x) ⟨⟨i6, i7⟩, s6, s7⟩
  obtain ⟨rv, e1, e7⟩ := q_308e hI (t := 1) (a := 1) (by decide) rfl hs
  have ev : v = rv := q_dfeq (s := q_vw 32 1 108 x) (z := q_mok m) 1 1 (by decide) rfl (fun j hj => h1.r1.1 j hj) (fun j hj => hu.r1.1 j hj) w1 e7
  have tu := q_R_t hu
  have am := q_agRs hI 1 (by decide)
  have A := a2
  obtain ⟨-, -, -, -, -, -, -, -, -, -, -, -, -, -, -, -, -, -, -, -, -, -, -, -, -, -, -, -, -, -, -, e11, -, -⟩ := A
  have M1 : q_RO (q_rsd 1 (q_mok m)) (q_vwM (q_y1 x r v.toInt64)) (q_rsd 1 (q_mok m)) := by
    refine q_R_ag hu (x := q_vwS 1 x) (y := q_vwM (q_y1 x r v.toInt64)) a2 am (by show (m.1 29 (24 * 1 + 13)).toInt ≤ 40; exact (hI.1 29 (24 * 1 + 13)).2) (by show 0 ≤ (m.1 29 (24 * 1 + 14)).toInt; exact (hI.1 29 (24 * 1 + 14)).1) ?_
    exact ⟨fun j hj => Eq.trans (a2.2.2.2.2.2.2.2.2.1 j hj) (Eq.trans (tu.1 j hj) (am.2.2.2.2.2.2.2.2.1 j hj).symm), e11.trans (tu.2.1.trans (am.2.2.2.2.2.2.2.2.2.2.2.2.2.1 20 (by decide)).symm), by
      have e16 := am.2.2.2.2.2.2.2.2.2.2.2.2.2.2.2.2
      have e4 : (q_vwM (q_y1 x r v.toInt64)).2.2 0 4 = (q_vwS 1 x).2.2 0 4 := a4
      rw [Int64.add_zero]
      exact (e4.trans tu.2.2).trans e16.symm, rfl, rfl, rfl⟩
  have s1 : q_R q_TTs (q_src r) (q_ms 1 (q_svW m) (m.2.2 31)) := by rw [a3]; exact hu
  refine ⟨(q_y1 x r v.toInt64, 0, 0), (q_rsd 1 (q_mok m), rv), ?_, e1, ⟨M1, h2, h3, fun _ => s1, h5, h6, ⟨Or.inl ⟨rfl, rfl⟩, r2, by show (x.2.1 34 5).toInt ≤ k + 1; omega, r4, r5⟩, h8⟩, Nat.zero_le _, rfl, fun _ _ => by
    show vp_updL ((q_pt 32 32 1 108 x r).2.2 172) 0 v.toInt64 0 = rv.toInt64
    rw [q_upL1 _ _ _ _ rfl, ev]⟩
  have z0 : (1 : Int32).toInt = 1 := rfl
  unfold dz_X23_64_236
  rw [h2, q_lt_F (show (0 : Int32).toInt ≤ (1 : Int32).toInt by decide), q_lt_T (show (1 : Int32).toInt < (m.2.1 0 17).toInt by omega)]
  show ((dz_W111_66_98 (q_vw 32 1 108 x)).bind fun r1 => (dz_W77_64_96 (q_vw 32 1 108 x)).bind fun r2 => some ((q_sL (q_sI (q_pt 32 32 1 108 x r2) 34 7 0) 172 (vp_updL ((q_pt 32 32 1 108 x r2).2.2 172) 0 r1.toInt64)), 0, 0)) = _
  rw [w1, a1]
  rfl
def q_y2 (x r : q_S) (v : Int64) : q_S := q_sL (q_sI (q_pt 32 32 1 140 x r) 34 7 0) 172 (vp_updL ((q_pt 32 32 1 140 x r).2.2 172) 0 v)
theorem q_tRst2 (h : q_LX k m x) (hI : q_Iv c d w m) (hs : (2 : Int) < (m.2.1 0 17).toInt) : q_TN k (dz_X23_64_236 x 2) (dz_M308_64 m 2) Int32.toInt64 True := by
  obtain ⟨h1, h2, h3, h4, h5, h6, ⟨r1, r2, r3, r4, r5⟩, h8⟩ := h
  have hu := h5 hs
  have g3 : (m.2.1 0 17).toInt ≤ 3 := (hI.2.1 0 17).2
  obtain ⟨i6, i7⟩ := q_iNof h1 (hI.1 15 6) (hI.1 15 7)
  obtain ⟨s6, s7⟩ := q_iNof hu (hI.1 30 (8 * 2 + 6)) (hI.1 30 (8 * 2 + 7))
  obtain ⟨r, a1, a2, a3, a4, a5⟩ := q_bcm (q_vw 32 1 140 x) s6 s7
  obtain ⟨v, w1, -⟩ := dzj_W111_66_98 (q_vw 32 1 140 x) ⟨⟨i6, i7⟩, s6, s7⟩
  obtain ⟨rv, e1, e7⟩ := q_308e hI (t := 2) (a := 2) (by decide) rfl hs
  have ev : v = rv := q_dfeq (s := q_vw 32 1 140 x) (z := q_mok m) 2 2 (by decide) rfl (fun j hj => h1.r1.1 j hj) (fun j hj => hu.r1.1 j hj) w1 e7
  have tu := q_R_t hu
  have am := q_agRs hI 2 (by decide)
  have A := a2
  obtain ⟨-, -, -, -, -, -, -, -, -, -, -, -, -, -, -, -, -, -, -, -, -, -, -, -, -, -, -, -, -, -, -, e11, -, -⟩ := A
  have M1 : q_RO (q_rsd 2 (q_mok m)) (q_vwM (q_y2 x r v.toInt64)) (q_rsd 2 (q_mok m)) := by
    refine q_R_ag hu (x := q_vwS 2 x) (y := q_vwM (q_y2 x r v.toInt64)) a2 am (by show (m.1 29 (24 * 2 + 13)).toInt ≤ 40; exact (hI.1 29 (24 * 2 + 13)).2) (by show 0 ≤ (m.1 29 (24 * 2 + 14)).toInt; exact (hI.1 29 (24 * 2 + 14)).1) ?_
    exact ⟨fun j hj => Eq.trans (a2.2.2.2.2.2.2.2.2.1 j hj) (Eq.trans (tu.1 j hj) (am.2.2.2.2.2.2.2.2.1 j hj).symm), e11.trans (tu.2.1.trans (am.2.2.2.2.2.2.2.2.2.2.2.2.2.1 20 (by decide)).symm), by
      have e16 := am.2.2.2.2.2.2.2.2.2.2.2.2.2.2.2.2
      have e4 : (q_vwM (q_y2 x r v.toInt64)).2.2 0 4 = (q_vwS 2 x).2.2 0 4 := a4
      rw [Int64.add_zero]
      exact (e4.trans tu.2.2).trans e16.symm, rfl, rfl, rfl⟩
  have s1 : q_R q_TTs (q_src r) (q_ms 2 (q_svW m) (m.2.2 31)) := by rw [a3]; exact hu
  refine ⟨(q_y2 x r v.toInt64, 0, 0), (q_rsd 2 (q_mok m), rv), ?_, e1, ⟨M1, h2, h3, h4, fun _ => s1, h6, ⟨Or.inl ⟨rfl, rfl⟩, r2, by show (x.2.1 34 5).toInt ≤ k + 1; omega, r4, r5⟩, h8⟩, Nat.zero_le _, rfl, fun _ _ => by
    show vp_updL ((q_pt 32 32 1 140 x r).2.2 172) 0 v.toInt64 0 = rv.toInt64
    rw [q_upL1 _ _ _ _ rfl, ev]⟩
  have z0 : (2 : Int32).toInt = 2 := rfl
  unfold dz_X23_64_236
  rw [h2, q_lt_F (show (0 : Int32).toInt ≤ (2 : Int32).toInt by decide), q_lt_T (show (2 : Int32).toInt < (m.2.1 0 17).toInt by omega)]
  show ((dz_W111_66_98 (q_vw 32 1 140 x)).bind fun r1 => (dz_W77_64_96 (q_vw 32 1 140 x)).bind fun r2 => some ((q_sL (q_sI (q_pt 32 32 1 140 x r2) 34 7 0) 172 (vp_updL ((q_pt 32 32 1 140 x r2).2.2 172) 0 r1.toInt64)), 0, 0)) = _
  rw [w1, a1]
  rfl
theorem q_tRst (h : q_LX k m x) (hI : q_Iv c d w m) (a : Int32) : q_TN k (dz_X23_64_236 x a) (dz_M308_64 m a) Int32.toInt64 True := by
  have g : q_rgz 0 3 (m.2.1 0 17) := hI.2.1 0 17
  have g0 := g.1
  have g1 := g.2
  have z0 : (0 : Int32).toInt = 0 := rfl
  have es : ((m.2.1 0 17) - 1).toInt = (m.2.1 0 17).toInt - 1 := q_subI ⟨by omega, by omega⟩ ⟨by decide, by decide⟩
  by_cases l : a.toInt < 0
  · refine q_TNbad h 1 0 (by decide) ?_ ?_
    · unfold dz_X23_64_236
      rw [q_lt_T (by omega)]
      rfl
    · unfold dz_M308_64 q_let
      dsimp only
      rw [q_202F (v := a) (lo := 0) (hi := (m.2.1 0 17) - 1) (Or.inl (by omega))]
      rfl
  by_cases u : (m.2.1 0 17).toInt ≤ a.toInt
  · refine q_TNbad h 1 0 (by decide) ?_ ?_
    · unfold dz_X23_64_236
      rw [q_lt_F (show (0 : Int32).toInt ≤ a.toInt by omega), h.2.1, q_lt_F u]
      rfl
    · unfold dz_M308_64 q_let
      dsimp only
      rw [q_202F (v := a) (lo := 0) (hi := (m.2.1 0 17) - 1) (Or.inr (by omega))]
      rfl
  rcases (by omega : a.toInt = 0 ∨ a.toInt = 1 ∨ a.toInt = 2) with e | e | e
  · rw [show a = 0 from Int32.toInt_inj.mp e]; exact q_tRst0 h hI (by omega)
  · rw [show a = 1 from Int32.toInt_inj.mp e]; exact q_tRst1 h hI (by omega)
  · rw [show a = 2 from Int32.toInt_inj.mp e]; exact q_tRst2 h hI (by omega)
/-- startRecord -/
theorem q_tSrc (h : q_LX k m x) (hI : q_Iv c d w m) (hk : 0 ≤ k) : ∃ r0 r1, dz_X63_64 x = some r0 ∧ dz_M310_64 m = r1 ∧ q_LX (k + 1) r1.1 r0.1 ∧ r1.1.2.1 0 39 = 0 ∧ r0.2 = r1.2 := by
  obtain ⟨h1, h2, h3, h4, h5, h6, ⟨r1, r2, r3, r4, r5⟩, h8⟩ := h
  obtain ⟨i6, i7⟩ := q_iNof h1 (hI.1 15 6) (hI.1 15 7)
  obtain ⟨r, a1, a2, a3, a4, a5⟩ := q_bcm (q_vw 32 35 1 x) i6 i7
  have e183 : dz_X183_98_65 x = some (q_sI (q_sI (q_sI (q_pt 32 32 35 1 x r) 34 5 0) 34 6 0) 34 7 1) := by
    unfold dz_X183_98_65
    rw [a1]; rfl
  have s1 : q_RO m (q_src r) m := by rw [a3]; exact h1
  have M1 := q_RO_I (q_RO_I s1 34 0 rfl) 39 0 rfl
  have A := a2
  obtain ⟨-, -, -, -, -, -, -, -, -, -, -, -, -, -, -, -, -, -, -, -, -, -, -, -, -, -, e6, e7, -, -, -, -, -, -⟩ := A
  have LX : q_LX (k + 1) (q_sI (q_sI m 0 34 0) 0 39 0) (q_sI (q_sI (q_sI (q_pt 32 32 35 1 x r) 34 5 0) 34 6 0) 34 7 1) := by
    refine ⟨M1, h2, h3, h4, h5, ⟨?_, ?_⟩, ⟨Or.inr ⟨rfl, rfl⟩, by show (0 : Int) ≤ (0 : Int32).toInt; decide, by show (0 : Int32).toInt ≤ k + 1; show (0 : Int) ≤ k + 1; omega, by show (0 : Int) ≤ (0 : Int32).toInt; decide, by show (0 : Int32).toInt ≤ (0 : Int32).toInt; decide⟩, h8⟩
    · show q_rgz 0 1 (r.2.1 23 6)
      rw [e6]; exact i6
    · show q_rgz 0 1 (r.2.1 23 7)
      rw [e7]; exact i7
  rcases r1 with ⟨q1, q2⟩ | ⟨q1, q2⟩
  · refine ⟨(_, 0), (_, 0), ?_, ?_, LX, rfl, rfl⟩
    · unfold dz_X63_64
      rw [q1, e183]; rfl
    · unfold dz_M310_64
      rw [q2]; rfl
  · refine ⟨(_, x.2.1 34 5), (_, x.2.1 34 5), ?_, ?_, LX, rfl, rfl⟩
    · unfold dz_X63_64
      rw [q1, e183]; rfl
    · unfold dz_M310_64
      rw [q2]
      by_cases q : 0 < (x.2.1 34 5).toInt
      · rw [if_pos (show (0 : Int32) < x.2.1 34 5 from Int32.lt_iff_toInt_lt.mpr q)]; rfl
      · have e0 : x.2.1 34 5 = 0 := Int32.toInt_inj.mp (by show (x.2.1 34 5).toInt = 0; omega)
        rw [e0]; rfl
end
end
section
-- 54.y
section
variable {x y z m m2 : q_S} {c d w k : Int}
theorem q_LX33 (h : q_LX k m x) (e : q_eq33 m z) : q_LX k z x := by
  obtain ⟨h1, h2, h3, h4, h5, h6, h7, h8⟩ := h
  have t := q_R_t h1
  have h1' : q_RO z (q_vwM x) z := q_RO_own (q_R_33 h1 e)
  obtain ⟨e1, e2⟩ := e
  have eW : q_svW z = q_svW m := by
    unfold q_svW
    rw [e1 16 rfl, e1 17 rfl, e1 18 rfl, e1 19 rfl, e1 20 rfl, e1 21 rfl, e1 22 rfl, e1 23 rfl, e1 24 rfl, e1 25 rfl, e1 26 rfl, e1 27 rfl, e1 28 rfl, e1 29 rfl, e1 30 rfl, e1 31 rfl, e1 32 rfl]
  unfold q_LX q_RK at *
  rw [eW, e2, e1 32 rfl]
  exact ⟨h1', h2, h3, h4, h5, h6, h7, h8⟩
/-- a call that reads -/
theorem q_TNrd {T : Type} {cv : T → Int64} {ex : Prop} {ox : Option (q_S × Int32 × Nat)} {om : Option (q_S × T)} (h : q_LX k m x) (f : Nat → Int64) (v : Int64) (t : T) (e : q_eq33 (q_mok m) z) (e1 : ox = some (q_sL x 172 (vp_updL f 0 v), 0, 0)) (e2 : om = some (z, t)) (e3 : ex → v = cv t) : q_TN k ox om cv ex :=
  ⟨_, _, e1, e2, q_LX33 (q_LXbad h 0) e, Nat.zero_le _, by show z.2.1 0 39 = 0; rw [e.2]; rfl, fun q _ => by
    show vp_updL f 0 v 0 = cv t
    rw [q_upL1 _ _ _ _ rfl, e3 q]⟩
theorem q_tPeek (h : q_LX k m x) (hI : q_Iv c d w m) (a : Int32) : q_TN k (dz_X3_64_236 x a) (dz_M219_64 m a) Int32.toInt64 True := by
  have z0 : (0 : Int32).toInt = 0 := rfl
  have z4095 : (4095 : Int32).toInt = 4095 := rfl
  have z4096 : (4096 : Int32).toInt = 4096 := rfl
  by_cases l_a : a.toInt < 0
  · refine q_TNbad h 1 0 (by decide) ?_ ?_
    · unfold dz_X3_64_236
      rw [q_lt_T (show a.toInt < (0 : Int32).toInt by omega)]
      rfl
    · unfold dz_M219_64 dz_M204 q_let
      dsimp only
      rw [q_202F (v := a) (lo := 0) (hi := 4095) (Or.inl (by omega))]
      rfl
  by_cases u_a : 4095 < a.toInt
  · refine q_TNbad h 1 0 (by decide) ?_ ?_
    · unfold dz_X3_64_236
      rw [q_lt_F (show (0 : Int32).toInt ≤ a.toInt by omega), q_lt_F (show (4096 : Int32).toInt ≤ a.toInt by omega)]
      rfl
    · unfold dz_M219_64 dz_M204 q_let
      dsimp only
      rw [q_202F (v := a) (lo := 0) (hi := 4095) (Or.inr (by omega))]
      rfl
  obtain ⟨v, m1, e1, e2, e3, e4, e5, e6⟩ := q_rdz (q_ROk h.1) (q_Ivk hI) a ⟨by omega, by omega⟩
  refine q_TNrd h (x.2.2 172) v.toInt64 v e3 ?_ ?_ (fun _ => rfl)
  · have e1' : dz_N90_65 (q_vw 32 1 73 x) a = some v := e1
    unfold dz_X3_64_236
    rw [q_lt_F (show (0 : Int32).toInt ≤ a.toInt by omega), q_lt_T (show a.toInt < (4096 : Int32).toInt by omega), e1']
    rfl
  · unfold dz_M219_64 dz_M204 q_let
    dsimp only
    rw [q_202T (v := a) (lo := 0) (hi := 4095) (by omega) (by omega), q_yM200]
    show ((dz_M214_64 (q_mok m) a).bind fun r8 => some (r8.1, r8.2)) = _
    rw [e2]; rfl
theorem q_tRam (h : q_LX k m x) (hI : q_Iv c d w m) (a : Int32) : q_TN k (some (dz_X4_64_236 x a)) (dz_M220_64 m a) Int32.toInt64 True := by
  have z0 : (0 : Int32).toInt = 0 := rfl
  have z4095 : (4095 : Int32).toInt = 4095 := rfl
  have z4096 : (4096 : Int32).toInt = 4096 := rfl
  by_cases l_a : a.toInt < 0
  · refine q_TNbad h 1 0 (by decide) ?_ ?_
    · unfold dz_X4_64_236
      rw [q_lt_T (show a.toInt < (0 : Int32).toInt by omega)]
      rfl
    · unfold dz_M220_64 dz_M204 q_let
      dsimp only
      rw [q_202F (v := a) (lo := 0) (hi := 4095) (Or.inl (by omega))]
      rfl
  by_cases u_a : 4095 < a.toInt
  · refine q_TNbad h 1 0 (by decide) ?_ ?_
    · unfold dz_X4_64_236
      rw [q_lt_F (show (0 : Int32).toInt ≤ a.toInt by omega), q_lt_F (show (4096 : Int32).toInt ≤ a.toInt by omega)]
      rfl
    · unfold dz_M220_64 dz_M204 q_let
      dsimp only
      rw [q_202F (v := a) (lo := 0) (hi := 4095) (Or.inr (by omega))]
      rfl
  have ra : q_rgz 0 4095 a := ⟨by omega, by omega⟩
  refine q_TNrd h (x.2.2 172) ((m.1 1) a.toNatClampNeg).toInt64 ((m.1 1) a.toNatClampNeg) (q_eq33_refl _) ?_ ?_ (fun _ => rfl)
  · have e := h.1.r1.1 a.toNatClampNeg (by show a.toInt.toNat < 4096; omega)
    have e' : x.1 4 a.toNatClampNeg = m.1 1 a.toNatClampNeg := e
    unfold dz_X4_64_236
    rw [q_lt_F (show (0 : Int32).toInt ≤ a.toInt by omega), q_lt_T (show a.toInt < (4096 : Int32).toInt by omega), q_a12 ra, e']
    rfl
  · unfold dz_M220_64 dz_M204 q_let
    dsimp only
    rw [q_202T (v := a) (lo := 0) (hi := 4095) (by omega) (by omega), q_yM200, q_in_rg ra (by decide) (by decide)]
    rfl
theorem q_tSmp (h : q_LX k m x) (hI : q_Iv c d w m) (a : Int32) : q_TN k (some (dz_X16_64_236 x a)) (dz_M296_64 m a) Int32.toInt64 True := by
  have z0 : (0 : Int32).toInt = 0 := rfl
  have z39 : (39 : Int32).toInt = 39 := rfl
  have z40 : (40 : Int32).toInt = 40 := rfl
  by_cases l_a : a.toInt < 0
  · refine q_TNbad h 1 0 (by decide) ?_ ?_
    · unfold dz_X16_64_236
      rw [q_lt_T (show a.toInt < (0 : Int32).toInt by omega)]
      rfl
    · unfold dz_M296_64 q_let
      dsimp only
      rw [q_202F (v := a) (lo := 0) (hi := 39) (Or.inl (by omega))]
      rfl
  by_cases u_a : 39 < a.toInt
  · refine q_TNbad h 1 0 (by decide) ?_ ?_
    · unfold dz_X16_64_236
      rw [q_lt_F (show (0 : Int32).toInt ≤ a.toInt by omega), q_lt_F (show (40 : Int32).toInt ≤ a.toInt by omega)]
      rfl
    · unfold dz_M296_64 q_let
      dsimp only
      rw [q_202F (v := a) (lo := 0) (hi := 39) (Or.inr (by omega))]
      rfl
  have ra : q_rgz 0 39 a := ⟨by omega, by omega⟩
  refine q_TNrd h (x.2.2 172) ((m.1 6) a.toNatClampNeg).toInt64 ((m.1 6) a.toNatClampNeg) (q_eq33_refl _) ?_ ?_ (fun _ => rfl)
  · have e := h.1.r7.2 a.toNatClampNeg (by show a.toInt.toNat < 40; omega)
    have e' : x.1 31 a.toNatClampNeg = m.1 6 a.toNatClampNeg := e
    unfold dz_X16_64_236
    rw [q_lt_F (show (0 : Int32).toInt ≤ a.toInt by omega), q_lt_T (show a.toInt < (40 : Int32).toInt by omega), e']
    rfl
  · unfold dz_M296_64 q_let
    dsimp only
    rw [q_202T (v := a) (lo := 0) (hi := 39) (by omega) (by omega), q_yM200, q_in_rg ra (by decide) (by decide)]
    rfl
end
end
section
-- 54.z
section
variable {x y z m m2 : q_S} {c d w k : Int}
theorem q_tLvl (h : q_LX k m x) (hI : q_Iv c d w m) (a : Int32) : q_TN k (some (dz_X17_64_236 x a)) (dz_M297_64 m a) Int32.toInt64 True := by
  have z0 : (0 : Int32).toInt = 0 := rfl
  have z2 : (2 : Int32).toInt = 2 := rfl
  have z3 : (3 : Int32).toInt = 3 := rfl
  by_cases l_a : a.toInt < 0
  · refine q_TNbad h 1 0 (by decide) ?_ ?_
    · unfold dz_X17_64_236
      rw [q_lt_T (show a.toInt < (0 : Int32).toInt by omega)]
      rfl
    · unfold dz_M297_64 q_let
      dsimp only
      rw [q_202F (v := a) (lo := 0) (hi := 2) (Or.inl (by omega))]
      rfl
  by_cases u_a : 2 < a.toInt
  · refine q_TNbad h 1 0 (by decide) ?_ ?_
    · unfold dz_X17_64_236
      rw [q_lt_F (show (0 : Int32).toInt ≤ a.toInt by omega), q_lt_F (show (3 : Int32).toInt ≤ a.toInt by omega)]
      rfl
    · unfold dz_M297_64 q_let
      dsimp only
      rw [q_202F (v := a) (lo := 0) (hi := 2) (Or.inr (by omega))]
      rfl
  have ra : q_rgz 0 2 a := ⟨by omega, by omega⟩
  refine q_TNrd h (x.2.2 172) ((m.1 11) a.toNatClampNeg).toInt64 ((m.1 11) a.toNatClampNeg) (q_eq33_refl _) ?_ ?_ (fun _ => rfl)
  · have e := (h.1.r7.1 a.toNatClampNeg (by show a.toInt.toNat < 3; omega)).2.1
    have e' : x.1 28 a.toNatClampNeg = m.1 11 a.toNatClampNeg := e
    unfold dz_X17_64_236
    rw [q_lt_F (show (0 : Int32).toInt ≤ a.toInt by omega), q_lt_T (show a.toInt < (3 : Int32).toInt by omega), e']
    rfl
  · unfold dz_M297_64 q_let
    dsimp only
    rw [q_202T (v := a) (lo := 0) (hi := 2) (by omega) (by omega), q_yM200, q_in_rg ra (by decide) (by decide)]
    rfl
theorem q_tPix (h : q_LX k m x) (hI : q_Iv c d w m) (a b : Int32) : q_TN k (some (dz_X14_64_236 x a b)) (dz_M294_64 m a b) Int32.toInt64 True := by
  have z0 : (0 : Int32).toInt = 0 := rfl
  have z31 : (31 : Int32).toInt = 31 := rfl
  have z32 : (32 : Int32).toInt = 32 := rfl
  by_cases l_a : a.toInt < 0
  · refine q_TNbad h 1 0 (by decide) ?_ ?_
    · unfold dz_X14_64_236
      rw [q_lt_T (show a.toInt < (0 : Int32).toInt by omega)]
      rfl
    · unfold dz_M294_64 dz_M293_64 q_let
      dsimp only
      rw [q_202F (v := a) (lo := 0) (hi := 31) (Or.inl (by omega))]
      rfl
  by_cases u_a : 31 < a.toInt
  · refine q_TNbad h 1 0 (by decide) ?_ ?_
    · unfold dz_X14_64_236
      rw [q_lt_F (show (0 : Int32).toInt ≤ a.toInt by omega), q_lt_F (show (32 : Int32).toInt ≤ a.toInt by omega)]
      rfl
    · unfold dz_M294_64 dz_M293_64 q_let
      dsimp only
      rw [q_202F (v := a) (lo := 0) (hi := 31) (Or.inr (by omega))]
      rfl
  by_cases l_b : b.toInt < 0
  · refine q_TNbad h 1 0 (by decide) ?_ ?_
    · unfold dz_X14_64_236
      rw [q_lt_F (show (0 : Int32).toInt ≤ a.toInt by omega), q_lt_T (show a.toInt < (32 : Int32).toInt by omega), q_lt_T (show b.toInt < (0 : Int32).toInt by omega)]
      rfl
    · unfold dz_M294_64 dz_M293_64 q_let
      dsimp only
      rw [q_202T (v := a) (lo := 0) (hi := 31) (by omega) (by omega), q_202F (v := b) (lo := 0) (hi := 31) (Or.inl (by omega))]
      rfl
  by_cases u_b : 31 < b.toInt
  · refine q_TNbad h 1 0 (by decide) ?_ ?_
    · unfold dz_X14_64_236
      rw [q_lt_F (show (0 : Int32).toInt ≤ a.toInt by omega), q_lt_T (show a.toInt < (32 : Int32).toInt by omega), q_lt_F (show (0 : Int32).toInt ≤ b.toInt by omega), q_lt_F (show (32 : Int32).toInt ≤ b.toInt by omega)]
      rfl
    · unfold dz_M294_64 dz_M293_64 q_let
      dsimp only
      rw [q_202T (v := a) (lo := 0) (hi := 31) (by omega) (by omega), q_202F (v := b) (lo := 0) (hi := 31) (Or.inr (by omega))]
      rfl
  have e32 : (32 * b).toInt = 32 * b.toInt := q_mulI (n := 32) rfl (by decide) (by decide) ⟨by omega, by omega⟩
  have ei : ((32 * b) + a).toInt = 32 * b.toInt + a.toInt := by rw [q_addI ⟨by omega, by omega⟩ ⟨by omega, by omega⟩, e32]
  have ri : q_rgz 0 1023 ((32 * b) + a) := ⟨by omega, by omega⟩
  have e9 : ((32 * b) + a) &&& 1023 = (32 * b) + a := by
    apply Int32.toInt_inj.mp
    rw [q_andI 10 (by decide) ri (by decide) (show (1023 : Int32).toInt = 2 ^ 10 - 1 from rfl)]
    show _ % 1024 = _
    omega
  refine q_TNrd h (x.2.2 172) ((m.1 5) ((32 * b) + a).toNatClampNeg).toInt64 ((m.1 5) ((32 * b) + a).toNatClampNeg) (q_eq33_refl _) ?_ ?_ (fun _ => rfl)
  · have e := h.1.r8.1.1 ((32 * b) + a).toNatClampNeg (by show ((32 * b) + a).toInt.toNat < 1024; omega)
    have e' : x.1 32 ((32 * b) + a).toNatClampNeg = m.1 5 ((32 * b) + a).toNatClampNeg := e
    unfold dz_X14_64_236
    rw [q_lt_F (show (0 : Int32).toInt ≤ a.toInt by omega), q_lt_T (show a.toInt < (32 : Int32).toInt by omega), q_lt_F (show (0 : Int32).toInt ≤ b.toInt by omega), q_lt_T (show b.toInt < (32 : Int32).toInt by omega), e9, e']
    rfl
  · unfold dz_M294_64 dz_M293_64 q_let
    dsimp only
    rw [q_202T (v := a) (lo := 0) (hi := 31) (by omega) (by omega), q_202T (v := b) (lo := 0) (hi := 31) (by omega) (by omega), q_yM200, q_in_rg ri (by decide) (by decide)]
    rfl
/-- what a read-only call of the model leaves, whatever it answers -/
theorem q_tDif (h : q_LX k m x) (hI : q_Iv c d w m) (a : Int32) : q_TN k (dz_X24_64_236 x a) (dz_M309_64 m a) Int32.toInt64 True := by
  have g : q_rgz 0 3 (m.2.1 0 17) := hI.2.1 0 17
  have g0 := g.1
  have g1 := g.2
  have z0 : (0 : Int32).toInt = 0 := rfl
  have es : ((m.2.1 0 17) - 1).toInt = (m.2.1 0 17).toInt - 1 := q_subI ⟨by omega, by omega⟩ ⟨by decide, by decide⟩
  by_cases l : a.toInt < 0
  · refine q_TNbad h 1 0 (by decide) ?_ ?_
    · unfold dz_X24_64_236
      rw [q_lt_T (by omega)]
      rfl
    · unfold dz_M309_64 q_let
      dsimp only
      rw [q_202F (v := a) (lo := 0) (hi := (m.2.1 0 17) - 1) (Or.inl (by omega))]
      rfl
  by_cases u : (m.2.1 0 17).toInt ≤ a.toInt
  · refine q_TNbad h 1 0 (by decide) ?_ ?_
    · unfold dz_X24_64_236
      rw [q_lt_F (show (0 : Int32).toInt ≤ a.toInt by omega), h.2.1, q_lt_F u]
      rfl
    · unfold dz_M309_64 q_let
      dsimp only
      rw [q_202F (v := a) (lo := 0) (hi := (m.2.1 0 17) - 1) (Or.inr (by omega))]
      rfl
  obtain ⟨r0, er, -⟩ := dzj_M307_64 c d w (q_mok m) (q_Ivk hI) a ⟨by omega, by omega⟩
  have eM : dz_M309_64 m a = some (q_mok m, r0) := by
    unfold dz_M309_64 q_let
    dsimp only
    rw [q_202T (v := a) (by omega) (by omega), q_yM200]
    dsimp only
    rw [cond_true, cond_false, er]
    rfl
  obtain ⟨i6, i7⟩ := q_iNof h.1 (hI.1 15 6) (hI.1 15 7)
  rcases (by omega : a.toInt = 0 ∨ a.toInt = 1 ∨ a.toInt = 2) with e | e | e
  · obtain ⟨s6, s7⟩ := q_iNof (h.2.2.1 (by omega)) (hI.1 30 (8 * 0 + 6)) (hI.1 30 (8 * 0 + 7))
    obtain ⟨v, w1, -⟩ := dzj_W111_66_98 (q_vw 32 1 76 x) ⟨⟨i6, i7⟩, s6, s7⟩
    have ev : v = r0 := q_dfeq (s := q_vw 32 1 76 x) (z := q_mok m) 0 a (by decide) e (fun j hj => h.1.r1.1 j hj) (fun j hj => (h.2.2.1 (by omega)).r1.1 j hj) w1 er
    refine q_TNrd h (x.2.2 172) v.toInt64 r0 (q_eq33_refl _) ?_ eM (fun _ => by rw [ev])
    unfold dz_X24_64_236
    rw [h.2.1, q_lt_F (show (0 : Int32).toInt ≤ a.toInt by omega), q_lt_T (show a.toInt < (m.2.1 0 17).toInt by omega), show a = 0 from Int32.toInt_inj.mp e, q_lt_T (show (0 : Int32).toInt < (m.2.1 0 17).toInt by show (0 : Int) < _; omega)]
    show ((dz_W111_66_98 (q_vw 32 1 76 x)).bind fun r1 => some ((q_sL x 172 (vp_updL (x.2.2 172) 0 r1.toInt64)), 0, 0)) = _
    rw [w1]
    rfl
  · obtain ⟨s6, s7⟩ := q_iNof (h.2.2.2.1 (by omega)) (hI.1 30 (8 * 1 + 6)) (hI.1 30 (8 * 1 + 7))
    obtain ⟨v, w1, -⟩ := dzj_W111_66_98 (q_vw 32 1 108 x) ⟨⟨i6, i7⟩, s6, s7⟩
    have ev : v = r0 := q_dfeq (s := q_vw 32 1 108 x) (z := q_mok m) 1 a (by decide) e (fun j hj => h.1.r1.1 j hj) (fun j hj => (h.2.2.2.1 (by omega)).r1.1 j hj) w1 er
    refine q_TNrd h (x.2.2 172) v.toInt64 r0 (q_eq33_refl _) ?_ eM (fun _ => by rw [ev])
    unfold dz_X24_64_236
    rw [h.2.1, q_lt_F (show (0 : Int32).toInt ≤ a.toInt by omega), q_lt_T (show a.toInt < (m.2.1 0 17).toInt by omega), show a = 1 from Int32.toInt_inj.mp e, q_lt_T (show (1 : Int32).toInt < (m.2.1 0 17).toInt by show (1 : Int) < _; omega)]
    show ((dz_W111_66_98 (q_vw 32 1 108 x)).bind fun r1 => some ((q_sL x 172 (vp_updL (x.2.2 172) 0 r1.toInt64)), 0, 0)) = _
    rw [w1]
    rfl
  · obtain ⟨s6, s7⟩ := q_iNof (h.2.2.2.2.1 (by omega)) (hI.1 30 (8 * 2 + 6)) (hI.1 30 (8 * 2 + 7))
    obtain ⟨v, w1, -⟩ := dzj_W111_66_98 (q_vw 32 1 140 x) ⟨⟨i6, i7⟩, s6, s7⟩
    have ev : v = r0 := q_dfeq (s := q_vw 32 1 140 x) (z := q_mok m) 2 a (by decide) e (fun j hj => h.1.r1.1 j hj) (fun j hj => (h.2.2.2.2.1 (by omega)).r1.1 j hj) w1 er
    refine q_TNrd h (x.2.2 172) v.toInt64 r0 (q_eq33_refl _) ?_ eM (fun _ => by rw [ev])
    unfold dz_X24_64_236
    rw [h.2.1, q_lt_F (show (0 : Int32).toInt ≤ a.toInt by omega), q_lt_T (show a.toInt < (m.2.1 0 17).toInt by omega), show a = 2 from Int32.toInt_inj.mp e, q_lt_T (show (2 : Int32).toInt < (m.2.1 0 17).toInt by show (2 : Int) < _; omega)]
    show ((dz_W111_66_98 (q_vw 32 1 140 x)).bind fun r1 => some ((q_sL x 172 (vp_updL (x.2.2 172) 0 r1.toInt64)), 0, 0)) = _
    rw [w1]
    rfl
theorem q_tRcd (h : q_LX k m x) : q_TN k (some (dz_X25_64_236 x)) (some (dz_M311_64 m)) Int32.toInt64 True := by
  obtain ⟨r1, r2, -⟩ := h.2.2.2.2.2.2.1
  rcases r1 with ⟨q1, q2⟩ | ⟨q1, q2⟩
  · refine q_TNbad h 1 0 (by decide) ?_ ?_
    · unfold dz_X25_64_236
      rw [q1]; rfl
    · unfold dz_M311_64
      rw [q2]; rfl
  · refine q_TNrd h (x.2.2 172) (x.2.1 34 5).toInt64 (x.2.1 34 5) (q_eq33_refl _) ?_ ?_ (fun _ => rfl)
    · unfold dz_X25_64_236
      rw [q1]; rfl
    · unfold dz_M311_64
      rw [q2, q_lt_F (show (0 : Int32).toInt ≤ (x.2.1 34 5).toInt from r2), q_yM200]
      show some (q_mok m, m.2.1 0 34) = _
      rw [q2]
end
end
section
-- 55.a
section
variable {x y z m m2 : q_S} {c d w k : Int}
theorem q_tIsP (h : q_LX k m x) (hI : q_Iv c d w m) : ∃ b, dz_X45_64 x = some b ∧ dz_M239_64 m = some (q_mok m, b) := by
  obtain ⟨b, e1, e2⟩ := q_pic (q_ROk h.1) (q_Ivk hI)
  have e1' : dz_N102_65 (q_vw 32 1 73 x) = some b := e1
  have e2' : dz_M225_64 (q_sI m 0 39 0) = some b := e2
  refine ⟨b, ?_, ?_⟩
  · unfold dz_X45_64
    rw [e1']
    cases b <;> rfl
  · unfold dz_M239_64
    rw [e2']
    cases b <;> rfl
theorem q_tJam (h : q_LX k m x) (hI : q_Iv c d w m) : ∃ b, dz_X48_64 x = some b ∧ dz_M242_64 m = some (q_mok m, b) := by
  have e : x.2.1 24 7 = m.1 15 7 := h.1.r6.2.2.2.1
  have hz : q_z1 (m.1 15 7) = true := q_z1_rg (hI.1 15 7)
  refine ⟨decide (m.1 15 7 = 1), ?_, ?_⟩
  · unfold dz_X48_64
    rw [e, hz]; rfl
  · unfold dz_M242_64
    rw [hz]; rfl
theorem q_tSta (h : q_LX k m x) (hI : q_Iv c d w m) : dz_M290_64 m = some (q_mok m, dz_X39_64 x) := by
  obtain ⟨A, X, Y, S, C, Z, I, D, V, N, q, rA, rX, rY, rS⟩ := q_cpu_of h.1 hI
  obtain ⟨s1, -⟩ := q_st258 q hI true
  have s1' : dz_M258_64 m 16 = some (dz_X39_64 x) := s1
  unfold dz_M290_64
  rw [s1']; rfl
theorem q_tCyc (h : q_LX k m x) : dz_M238_64 m = (q_mok m, dz_X44_64 x) := by
  have e : x.2.2 2 8 = m.2.2 0 15 := h.1.r8.2
  show (q_mok m, m.2.2 0 15) = (q_mok m, x.2.2 2 8)
  rw [e]
theorem q_tUnd (h : q_LX k m x) : dz_M240_64 m = (q_mok m, dz_X46_64 x) := by
  have e : x.2.1 24 9 = m.1 14 17 := h.1.r6.2.2.2.2.2.1
  show (q_mok m, m.1 14 17) = (q_mok m, x.2.1 24 9)
  rw [e]
theorem q_tDon (h : q_LX k m x) : dz_M241_64 m = (q_mok m, dz_X47_64 x) := by
  have e : x.2.1 24 10 = m.1 14 19 := h.1.r6.2.2.2.2.2.2.1
  show (q_mok m, m.1 14 19) = (q_mok m, x.2.1 24 10)
  rw [e]
theorem q_tPic (h : q_LX k m x) : dz_M314_64 m = (q_mok m, dz_X67_64 x) := by
  have e := (q_R_t h.1).2.2.1
  rw [Int64.add_zero] at e
  have e' : x.2.2 1 4 = m.2.2 0 16 := e
  show (q_mok m, m.2.2 0 16) = (q_mok m, x.2.2 1 4)
  rw [e']
/-- compare's loops -/
theorem q_lpC {v1 v2 v3 : Int32} (h3 : v3.toInt ≤ 4096) : ∀ (n f g : Nat) (z : q_S) (v4 v5 : Int32), q_eq33 (q_mok m) z → q_RO (q_mok m) (q_vwM x) z → q_Iv c d w z → v5.toInt + n = v3.toInt → 0 ≤ v5.toInt → n ≤ f → n ≤ g → ∃ z' r, dz_X36_22 (f + 1) x v1 v2 v3 v4 v5 = some r ∧ dz_M221_64_49 (g + 1) z v1 v2 v3 v4 v5 = some (z', r) ∧ q_eq33 (q_mok m) z' := by
  intro n
  induction n with
  | zero =>
    intro f g z v4 v5 he h hI hn h0 hf hg
    refine ⟨z, v4, ?_, ?_, he⟩
    · rw [dzs_X36_22]
      dsimp only
      rw [q_lt_F (by omega)]
      rfl
    · rw [dzs_M221_64_49]
      dsimp only
      rw [q_lt_F (by omega)]
      rfl
  | succ n ih =>
    intro f g z v4 v5 he h hI hn h0 hf hg
    obtain ⟨f, rfl⟩ : ∃ f', f = f' + 1 := ⟨f - 1, by omega⟩
    obtain ⟨g, rfl⟩ : ∃ g', g = g' + 1 := ⟨g - 1, by omega⟩
    have e5 : (v5 + 1).toInt = v5.toInt + 1 := q_addI ⟨by omega, by omega⟩ ⟨by decide, by decide⟩
    obtain ⟨u1, z1, a1, a2, a3, a4, a5, a6⟩ := q_rdz h hI ((v1 + v5) &&& 4095) (q_rg_and _ 4095 (by decide) rfl)
    obtain ⟨u2, z2, b1, b2, b3, b4, b5, b6⟩ := q_rdz a4 a5 ((v2 + v5) &&& 4095) (q_rg_and _ 4095 (by decide) rfl)
    have a1' : dz_N90_65 (q_vw 32 1 73 x) ((v1 + v5) &&& 4095) = some u1 := a1
    have b1' : dz_N90_65 (q_vw 32 1 73 x) ((v2 + v5) &&& 4095) = some u2 := b1
    obtain ⟨z', r, c1, c2, c3⟩ := ih f g z2 (cond (decide (u1 = u2)) v4 (v4 + 1)) (v5 + 1) ((he.trans a3).trans b3) b4 b5 (by omega) (by omega) (by omega) (by omega)
    refine ⟨z', r, ?_, ?_, c3⟩
    · rw [dzs_X36_22]
      generalize dz_X36_22 (f + 1) = kk at c1 ⊢
      dsimp only
      rw [q_lt_T (by omega), cond_true, a1', Option.bind_some, b1', Option.bind_some]
      cases e : decide (u1 = u2) with
      | true => rw [e] at c1; exact c1
      | false => rw [e] at c1; exact c1
    · rw [dzs_M221_64_49]
      generalize dz_M221_64_49 (g + 1) = kk at c2 ⊢
      unfold q_let dz_M213
      dsimp only
      rw [q_lt_T (by omega), cond_true, a2, Option.bind_some, b2, Option.bind_some]
      cases e : decide (u1 = u2) with
      | true => rw [e] at c2; rw [cond_true, Int32.add_zero]; exact c2
      | false => rw [e] at c2; exact c2
theorem q_tCmp (h : q_LX k m x) (hI : q_Iv c d w m) (a b e0 : Int32) : q_TN k (dz_X8_64_236 x a b e0) (dz_M221_64 m a b e0) Int32.toInt64 True := by
  have z0 : (0 : Int32).toInt = 0 := rfl
  have z1 : (1 : Int32).toInt = 1 := rfl
  have z4095 : (4095 : Int32).toInt = 4095 := rfl
  have z4096 : (4096 : Int32).toInt = 4096 := rfl
  have z4097 : (4097 : Int32).toInt = 4097 := rfl
  by_cases l_a : a.toInt < 0
  · refine q_TNbad h 1 0 (by decide) ?_ ?_
    · unfold dz_X8_64_236
      rw [q_lt_T (show a.toInt < (0 : Int32).toInt by omega)]
      rfl
    · unfold dz_M221_64 dz_M204 q_let
      dsimp only
      rw [q_202F (v := a) (lo := 0) (hi := 4095) (Or.inl (by omega))]
      rfl
  by_cases u_a : 4095 < a.toInt
  · refine q_TNbad h 1 0 (by decide) ?_ ?_
    · unfold dz_X8_64_236
      rw [q_lt_F (show (0 : Int32).toInt ≤ a.toInt by omega), q_lt_F (show (4096 : Int32).toInt ≤ a.toInt by omega)]
      rfl
    · unfold dz_M221_64 dz_M204 q_let
      dsimp only
      rw [q_202F (v := a) (lo := 0) (hi := 4095) (Or.inr (by omega))]
      rfl
  by_cases l_b : b.toInt < 0
  · refine q_TNbad h 1 0 (by decide) ?_ ?_
    · unfold dz_X8_64_236
      rw [q_lt_F (show (0 : Int32).toInt ≤ a.toInt by omega), q_lt_T (show a.toInt < (4096 : Int32).toInt by omega), q_lt_T (show b.toInt < (0 : Int32).toInt by omega)]
      rfl
    · unfold dz_M221_64 dz_M204 q_let
      dsimp only
      rw [q_202T (v := a) (lo := 0) (hi := 4095) (by omega) (by omega), q_202F (v := b) (lo := 0) (hi := 4095) (Or.inl (by omega))]
      rfl
  by_cases u_b : 4095 < b.toInt
  · refine q_TNbad h 1 0 (by decide) ?_ ?_
    · unfold dz_X8_64_236
      rw [q_lt_F (show (0 : Int32).toInt ≤ a.toInt by omega), q_lt_T (show a.toInt < (4096 : Int32).toInt by omega), q_lt_F (show (0 : Int32).toInt ≤ b.toInt by omega), q_lt_F (show (4096 : Int32).toInt ≤ b.toInt by omega)]
      rfl
    · unfold dz_M221_64 dz_M204 q_let
      dsimp only
      rw [q_202T (v := a) (lo := 0) (hi := 4095) (by omega) (by omega), q_202F (v := b) (lo := 0) (hi := 4095) (Or.inr (by omega))]
      rfl
  by_cases l_e0 : e0.toInt < 1
  · refine q_TNbad h 2 0 (by decide) ?_ ?_
    · unfold dz_X8_64_236
      rw [q_lt_F (show (0 : Int32).toInt ≤ a.toInt by omega), q_lt_T (show a.toInt < (4096 : Int32).toInt by omega), q_lt_F (show (0 : Int32).toInt ≤ b.toInt by omega), q_lt_T (show b.toInt < (4096 : Int32).toInt by omega), q_lt_T (show e0.toInt < (1 : Int32).toInt by omega)]
      rfl
    · unfold dz_M221_64 dz_M204 q_let
      dsimp only
      rw [q_202T (v := a) (lo := 0) (hi := 4095) (by omega) (by omega), q_202T (v := b) (lo := 0) (hi := 4095) (by omega) (by omega), q_202F (v := e0) (lo := 1) (hi := 4096) (Or.inl (by omega))]
      rfl
  by_cases u_e0 : 4096 < e0.toInt
  · refine q_TNbad h 2 0 (by decide) ?_ ?_
    · unfold dz_X8_64_236
      rw [q_lt_F (show (0 : Int32).toInt ≤ a.toInt by omega), q_lt_T (show a.toInt < (4096 : Int32).toInt by omega), q_lt_F (show (0 : Int32).toInt ≤ b.toInt by omega), q_lt_T (show b.toInt < (4096 : Int32).toInt by omega), q_lt_F (show (1 : Int32).toInt ≤ e0.toInt by omega), q_lt_T (show (4096 : Int32).toInt < e0.toInt by omega)]
      rfl
    · unfold dz_M221_64 dz_M204 q_let
      dsimp only
      rw [q_202T (v := a) (lo := 0) (hi := 4095) (by omega) (by omega), q_202T (v := b) (lo := 0) (hi := 4095) (by omega) (by omega), q_202F (v := e0) (lo := 1) (hi := 4096) (Or.inr (by omega))]
      rfl
  have zz : (0 : Int32).toInt = 0 := rfl
  obtain ⟨z', r, c1, c2, c3⟩ := q_lpC (m := m) (x := x) (c := c) (d := d) (w := w) (v1 := a) (v2 := b) (v3 := e0) (by omega) e0.toInt.toNat 4999 4999 (q_mok m) 0 0 (q_eq33_refl _) (q_ROk h.1) (q_Ivk hI) (by omega) (by omega) (by omega) (by omega)
  refine q_TNrd h (x.2.2 172) r.toInt64 r c3 ?_ ?_ (fun _ => rfl)
  · unfold dz_X8_64_236
    rw [q_lt_F (show (0 : Int32).toInt ≤ a.toInt by omega), q_lt_T (show a.toInt < (4096 : Int32).toInt by omega), q_lt_F (show (0 : Int32).toInt ≤ b.toInt by omega), q_lt_T (show b.toInt < (4096 : Int32).toInt by omega), q_lt_F (show (1 : Int32).toInt ≤ e0.toInt by omega), q_lt_F (show e0.toInt ≤ (4096 : Int32).toInt by omega)]
    simp only [cond_true, cond_false]
    have c1' : dz_X36_22 5000 x a b e0 0 0 = some r := c1
    rw [c1']
    rfl
  · unfold dz_M221_64 dz_M204 q_let
    dsimp only
    rw [q_202T (v := a) (lo := 0) (hi := 4095) (by omega) (by omega), q_202T (v := b) (lo := 0) (hi := 4095) (by omega) (by omega), q_202T (v := e0) (lo := 1) (hi := 4096) (by omega) (by omega), q_yM200]
    simp only [cond_true, cond_false]
    exact c2
end
end
section
-- 55.b
section
variable {x y z m m2 : q_S} {c d w k : Int}
theorem q_tGet (h : q_LX k m x) (hI : q_Iv c d w m) (a : Int32) : q_TN k (some (dz_X9_64_236 x a)) (dz_M288_64 m a) Int32.toInt64 (a.toInt = 4 → x.2.1 24 7 = 0) := by
  have z0 : (0 : Int32).toInt = 0 := rfl
  have z4 : (4 : Int32).toInt = 4 := rfl
  have z5 : (5 : Int32).toInt = 5 := rfl
  by_cases l_a : a.toInt < 0
  · refine q_TNbad h 1 0 (by decide) ?_ ?_
    · unfold dz_X9_64_236
      rw [q_lt_T (show a.toInt < (0 : Int32).toInt by omega)]
      rfl
    · unfold dz_M288_64 q_let
      dsimp only
      rw [q_202F (v := a) (lo := 0) (hi := 4) (Or.inl (by omega))]
      rfl
  by_cases u_a : 4 < a.toInt
  · refine q_TNbad h 1 0 (by decide) ?_ ?_
    · unfold dz_X9_64_236
      rw [q_lt_F (show (0 : Int32).toInt ≤ a.toInt by omega), q_lt_F (show (5 : Int32).toInt ≤ a.toInt by omega)]
      rfl
    · unfold dz_M288_64 q_let
      dsimp only
      rw [q_202F (v := a) (lo := 0) (hi := 4) (Or.inr (by omega))]
      rfl
  have ra : q_rgz 0 23 a := ⟨by omega, by omega⟩
  obtain ⟨g0, g1, g2, g3⟩ := h.1.cpu
  refine q_TNrd h (x.2.2 172) (dz_N133_87 (q_vw 32 1 73 x) a).toInt64 ((m.1 14) a.toNatClampNeg) (q_eq33_refl _) ?_ ?_ (fun q => ?_)
  · unfold dz_X9_64_236
    rw [q_lt_F (show (0 : Int32).toInt ≤ a.toInt by omega), q_lt_T (show a.toInt < (5 : Int32).toInt by omega)]
    rfl
  · unfold dz_M288_64 q_let
    dsimp only
    rw [q_202T (v := a) (lo := 0) (hi := 4) (by omega) (by omega), q_yM200, q_in_rg ra (by decide) (by decide)]
    rfl
  · rcases (by omega : a.toInt = 0 ∨ a.toInt = 1 ∨ a.toInt = 2 ∨ a.toInt = 3 ∨ a.toInt = 4) with e | e | e | e | e
    · rw [show a = 0 from Int32.toInt_inj.mp e]; exact congrArg Int32.toInt64 g0
    · rw [show a = 1 from Int32.toInt_inj.mp e]; exact congrArg Int32.toInt64 g1
    · rw [show a = 2 from Int32.toInt_inj.mp e]; exact congrArg Int32.toInt64 g2
    · rw [show a = 3 from Int32.toInt_inj.mp e]; exact congrArg Int32.toInt64 g3
    · rw [show a = 4 from Int32.toInt_inj.mp e]; exact congrArg Int32.toInt64 (h.1.r6.2.1 (q e))
/-- sumOfPicture -/
theorem q_lpSum (h : ∀ j, j < 1024 → x.1 32 j = m.1 5 j) : ∀ (n f g : Nat) (v1 v2 : Int32), v2.toInt + n = 1024 → 0 ≤ v2.toInt → n ≤ f → n ≤ g → ∃ r, dz_X66_64_4 (f + 1) x v1 v2 = some r ∧ dz_M313_64_9 (g + 1) m v1 v2 = some (m, r) := by
  intro n
  induction n with
  | zero =>
    intro f g v1 v2 hn h0 hf hg
    refine ⟨v1, ?_, ?_⟩
    · rw [dzs_X66_64_4]
      dsimp only
      rw [q_lt_F (by show (1024 : Int) ≤ _; omega)]
      rfl
    · rw [dzs_M313_64_9]
      dsimp only
      rw [q_lt_F (by show (1024 : Int) ≤ _; omega)]
      rfl
  | succ n ih =>
    intro f g v1 v2 hn h0 hf hg
    obtain ⟨f, rfl⟩ : ∃ f', f = f' + 1 := ⟨f - 1, by omega⟩
    obtain ⟨g, rfl⟩ : ∃ g', g = g' + 1 := ⟨g - 1, by omega⟩
    have e2 : (v2 + 1).toInt = v2.toInt + 1 := q_addI ⟨by omega, by omega⟩ ⟨by decide, by decide⟩
    obtain ⟨r, c1, c2⟩ := ih f g ((31 * v1) + (m.1 5 v2.toNatClampNeg)) (v2 + 1) (by omega) (by omega) (by omega) (by omega)
    have e := h v2.toNatClampNeg (by show v2.toInt.toNat < 1024; omega)
    have hin : q_in v2 1024 = true := q_in_rg (l := 0) (u := 1023) ⟨h0, by omega⟩ (by decide) (by decide)
    refine ⟨r, ?_, ?_⟩
    · rw [dzs_X66_64_4]
      generalize dz_X66_64_4 (f + 1) = kk at c1 ⊢
      unfold q_let
      dsimp only
      rw [q_lt_T (by show _ < (1024 : Int); omega), cond_true, hin, cond_true, e]
      exact c1
    · rw [dzs_M313_64_9]
      generalize dz_M313_64_9 (g + 1) = kk at c2 ⊢
      dsimp only
      rw [q_lt_T (by show _ < (1024 : Int); omega), cond_true, hin, cond_true]
      exact c2
theorem q_tSum (h : q_LX k m x) : ∃ r, dz_X66_64 x = some r ∧ dz_M313_64 m = some (q_mok m, r) := by
  have z0 : (0 : Int32).toInt = 0 := rfl
  obtain ⟨r, c1, c2⟩ := q_lpSum (m := q_mok m) (x := x) (fun j hj => h.1.r8.1.1 j hj) 1024 4999 4999 0 0 (by omega) (by omega) (by omega) (by omega)
  exact ⟨r, c1, c2⟩
end
end
section
-- 55.c
section
variable {x y z m m2 : q_S} {c d w k : Int}
theorem q_tCol (h : q_LX k m x) (hI : q_Iv c d w m) (a : Int32) : q_TN k (some (dz_X19_64_236 x a)) (dz_M299_64 m a) Int32.toInt64 True := by
  have z0 : (0 : Int32).toInt = 0 := rfl
  have z15 : (15 : Int32).toInt = 15 := rfl
  have z16 : (16 : Int32).toInt = 16 := rfl
  by_cases l_a : a.toInt < 0
  · refine q_TNbad h 1 0 (by decide) ?_ ?_
    · unfold dz_X19_64_236
      rw [q_lt_T (show a.toInt < (0 : Int32).toInt by omega)]
      rfl
    · unfold dz_M299_64 q_let
      dsimp only
      rw [q_202F (v := a) (lo := 0) (hi := 15) (Or.inl (by omega))]
      rfl
  by_cases u_a : 15 < a.toInt
  · refine q_TNbad h 1 0 (by decide) ?_ ?_
    · unfold dz_X19_64_236
      rw [q_lt_F (show (0 : Int32).toInt ≤ a.toInt by omega), q_lt_T (show (15 : Int32).toInt < a.toInt by omega)]
      rfl
    · unfold dz_M299_64 q_let
      dsimp only
      rw [q_202F (v := a) (lo := 0) (hi := 15) (Or.inr (by omega))]
      rfl
  have ra : q_rgz 0 15 a := ⟨by omega, by omega⟩
  obtain ⟨m1, e1, e2⟩ := q_seen (q_ROk h.1) (q_Ivk hI) a ⟨by omega, by omega⟩
  refine q_TNrd h (x.2.2 172) (x.1 13 (a &&& 15).toNatClampNeg).toInt64 (x.1 13 (a &&& 15).toNatClampNeg) e2 ?_ ?_ (fun _ => rfl)
  · unfold dz_X19_64_236
    rw [q_lt_F (show (0 : Int32).toInt ≤ a.toInt by omega), q_lt_F (show a.toInt ≤ (15 : Int32).toInt by omega)]
    rfl
  · unfold dz_M299_64 q_let
    dsimp only
    rw [q_202T (v := a) (lo := 0) (hi := 15) (by omega) (by omega), q_yM200]
    simp only [cond_true, cond_false]
    rw [e1]
    rfl
/-- solidShare -/
theorem q_lpSol (b : Int32) (hb : m.1 4 3 = b) (h : ∀ j, j < 1024 → x.1 32 j = m.1 5 j) : ∀ (n f g : Nat) (v1 v2 : Int32), v2.toInt + n = 1024 → 0 ≤ v2.toInt → n ≤ f → n ≤ g → ∃ r, dz_X68_64_20 (f + 1) x b v1 v2 = some r ∧ dz_M315_64_9 (g + 1) m v1 v2 = some (m, r) ∧ q_nnf r = true := by
  intro n
  induction n with
  | zero =>
    intro f g v1 v2 hn h0 hf hg
    refine ⟨FP.fdiv (FP.i2f v1) 1149239296, ?_, ?_, q_nnS v1⟩
    · rw [dzs_X68_64_20]
      dsimp only
      rw [q_lt_F (by show (1024 : Int) ≤ _; omega), q_nnS]
      rfl
    · rw [dzs_M315_64_9]
      dsimp only
      rw [q_lt_F (by show (1024 : Int) ≤ _; omega), q_nnS]
      rfl
  | succ n ih =>
    intro f g v1 v2 hn h0 hf hg
    obtain ⟨f, rfl⟩ : ∃ f', f = f' + 1 := ⟨f - 1, by omega⟩
    obtain ⟨g, rfl⟩ : ∃ g', g = g' + 1 := ⟨g - 1, by omega⟩
    have e2 : (v2 + 1).toInt = v2.toInt + 1 := q_addI ⟨by omega, by omega⟩ ⟨by decide, by decide⟩
    obtain ⟨r, c1, c2, c3⟩ := ih f g (cond (decide (m.1 5 v2.toNatClampNeg = b)) v1 (v1 + 1)) (v2 + 1) (by omega) (by omega) (by omega) (by omega)
    have e := h v2.toNatClampNeg (by show v2.toInt.toNat < 1024; omega)
    have hin : q_in v2 1024 = true := q_in_rg (l := 0) (u := 1023) ⟨h0, by omega⟩ (by decide) (by decide)
    refine ⟨r, ?_, ?_, c3⟩
    · rw [dzs_X68_64_20]
      generalize dz_X68_64_20 (f + 1) = kk at c1 ⊢
      dsimp only
      rw [q_lt_T (by show _ < (1024 : Int); omega), cond_true, hin, cond_true, e]
      cases q : decide (m.1 5 v2.toNatClampNeg = b) with
      | true => rw [q] at c1; exact c1
      | false => rw [q] at c1; exact c1
    · rw [dzs_M315_64_9]
      generalize dz_M315_64_9 (g + 1) = kk at c2 ⊢
      dsimp only
      rw [q_lt_T (by show _ < (1024 : Int); omega), cond_true, hin, cond_true, hb]
      cases q : decide (m.1 5 v2.toNatClampNeg = b) with
      | true => rw [q] at c2; rw [cond_true, Int32.add_zero]; exact c2
      | false => rw [q] at c2; exact c2
theorem q_tSol (h : q_LX k m x) : ∃ r, dz_X68_64 x = some r ∧ dz_M315_64 m = some (q_mok m, r) ∧ q_nnf r = true := by
  have z0 : (0 : Int32).toInt = 0 := rfl
  have e3 : x.1 5 3 = m.1 4 3 := h.1.g 3
  obtain ⟨r, c1, c2, c3⟩ := q_lpSol (m := q_mok m) (x := x) (x.1 5 3) e3.symm (fun j hj => h.1.r8.1.1 j hj) 1024 4999 4999 0 0 (by omega) (by omega) (by omega) (by omega)
  exact ⟨r, c1, c2, c3⟩
/-- meanSample -/
theorem q_lpMen (h : ∀ j, j < 40 → x.1 31 j = m.1 6 j) : ∀ (n f g : Nat) (v1 v2 : Int32), v2.toInt + n = 40 → 0 ≤ v2.toInt → n ≤ f → n ≤ g → ∃ r, dz_X69_64_4 (f + 1) x v1 v2 = some r ∧ dz_M316_64_9 (g + 1) m v1 v2 = some (m, r) := by
  intro n
  induction n with
  | zero =>
    intro f g v1 v2 hn h0 hf hg
    refine ⟨FP.ddiv (FP.i2d v1) 4630826316843712512, ?_, ?_⟩
    · rw [dzs_X69_64_4]
      dsimp only
      rw [q_lt_F (by show (40 : Int) ≤ _; omega), q_nnM]
      rfl
    · rw [dzs_M316_64_9]
      dsimp only
      rw [q_lt_F (by show (40 : Int) ≤ _; omega), q_nnM]
      rfl
  | succ n ih =>
    intro f g v1 v2 hn h0 hf hg
    obtain ⟨f, rfl⟩ : ∃ f', f = f' + 1 := ⟨f - 1, by omega⟩
    obtain ⟨g, rfl⟩ : ∃ g', g = g' + 1 := ⟨g - 1, by omega⟩
    have e2 : (v2 + 1).toInt = v2.toInt + 1 := q_addI ⟨by omega, by omega⟩ ⟨by decide, by decide⟩
    obtain ⟨r, c1, c2⟩ := ih f g (v1 + (m.1 6 v2.toNatClampNeg)) (v2 + 1) (by omega) (by omega) (by omega) (by omega)
    have e := h v2.toNatClampNeg (by show v2.toInt.toNat < 40; omega)
    have hin : q_in v2 40 = true := q_in_rg (l := 0) (u := 39) ⟨h0, by omega⟩ (by decide) (by decide)
    refine ⟨r, ?_, ?_⟩
    · rw [dzs_X69_64_4]
      generalize dz_X69_64_4 (f + 1) = kk at c1 ⊢
      unfold q_let
      dsimp only
      rw [q_lt_T (by show _ < (40 : Int); omega), cond_true, hin, cond_true, e]
      exact c1
    · rw [dzs_M316_64_9]
      generalize dz_M316_64_9 (g + 1) = kk at c2 ⊢
      dsimp only
      rw [q_lt_T (by show _ < (40 : Int); omega), cond_true, hin, cond_true]
      exact c2
theorem q_tMen (h : q_LX k m x) : ∃ r, dz_X69_64 x = some r ∧ dz_M316_64 m = some (q_mok m, r) := by
  have z0 : (0 : Int32).toInt = 0 := rfl
  obtain ⟨r, c1, c2⟩ := q_lpMen (m := q_mok m) (x := x) (fun j hj => h.1.r7.2 j hj) 40 4999 4999 0 0 (by omega) (by omega) (by omega) (by omega)
  exact ⟨r, c1, c2⟩
/-- isSame's loop: the recording's machine alone changes -/
theorem q_lpSam (hI : q_Iv c d w m) (hk : k ≤ 512) : ∀ (n f : Nat) (s : q_S) (v2 : Int32), q_LX k m s → 0 ≤ v2.toInt → v2.toInt + n = (s.2.1 34 5).toInt → n ≤ f → ∃ r, dz_X65_27 (f + 1) s v2 = some r ∧ q_LX k m r.1 := by
  intro n
  induction n with
  | zero =>
    intro f s v2 h h0 hn hf
    obtain ⟨h1, h2, h3, h4, h5, h6, ⟨r1, r2, r3, r4, r5⟩, h8⟩ := h
    obtain ⟨i6, i7⟩ := q_iNof h1 (hI.1 15 6) (hI.1 15 7)
    obtain ⟨b, e, -⟩ := dzj_W78_64_96 (q_vw 32 35 1 (q_sI s 34 6 (s.2.1 34 5))) ⟨⟨h6.1, h6.2⟩, i6, i7⟩
    refine ⟨(q_sI s 34 6 (s.2.1 34 5), b), ?_, h1, h2, h3, h4, h5, h6, ⟨r1, r2, r3, r2, Int.le_refl _⟩, h8⟩
    rw [dzs_X65_27]
    dsimp only
    rw [q_lt_F (by omega), cond_false, e]
    cases b <;> rfl
  | succ n ih =>
    intro f s v2 h h0 hn hf
    obtain ⟨f, rfl⟩ : ∃ f', f = f' + 1 := ⟨f - 1, by omega⟩
    have hh := h
    obtain ⟨h1, h2, h3, h4, h5, h6, ⟨r1, r2, r3, r4, r5⟩, h8⟩ := hh
    have e2 : (v2 + 1).toInt = v2.toInt + 1 := q_addI ⟨by omega, by omega⟩ ⟨by decide, by decide⟩
    obtain ⟨r, er, hr⟩ := dzj_N79_64 (q_vw 32 35 73 s) h6 ((s.1 67) ((v2 &&& 511).toNatClampNeg)) ((s.1 68) ((v2 &&& 511).toNatClampNeg)) ((s.1 69) ((v2 &&& 511).toNatClampNeg)) ((s.1 70) ((v2 &&& 511).toNatClampNeg))
    have h' : q_LX k m (q_pt 32 3 35 73 s r.1) := ⟨h1, h2, h3, h4, h5, hr, ⟨r1, r2, r3, r4, r5⟩, h8⟩
    obtain ⟨r', c1, c2⟩ := ih f (q_pt 32 3 35 73 s r.1) (v2 + 1) h' (by omega) (by show (v2 + 1).toInt + n = (s.2.1 34 5).toInt; omega) (by omega)
    refine ⟨r', ?_, c2⟩
    rw [dzs_X65_27]
    generalize dz_X65_27 (f + 1) = kk at c1 ⊢
    unfold q_let
    dsimp only
    rw [q_lt_T (by omega), cond_true, q_in_and (x := v2) (m := 511) (n := 512) (by decide), cond_true, er]
    exact c1
theorem q_tSam (h : q_LX k m x) (hI : q_Iv c d w m) (hk : k ≤ 512) : q_TN k (dz_X26_64_236 x) (some (dz_M312_64 m)) q_kb False := by
  obtain ⟨r1, r2, r3, r4, r5⟩ := h.2.2.2.2.2.2.1
  rcases r1 with ⟨q1, q2⟩ | ⟨q1, q2⟩
  · refine q_TNbad h 1 false (by decide) ?_ ?_
    · unfold dz_X26_64_236
      rw [q1]; rfl
    · unfold dz_M312_64
      rw [q2]; rfl
  · obtain ⟨⟨s, b⟩, e, hs⟩ := q_lpSam hI hk ((x.2.1 34 5).toInt - (x.2.1 34 6).toInt).toNat 4999 x (x.2.1 34 6) h r4 (by omega) (by omega)
    have e' : dz_X65_27 5000 x (x.2.1 34 6) = some (s, b) := e
    have eM : dz_M312_64 m = (q_mok m, true) := by
      unfold dz_M312_64
      rw [q2, q_lt_F (show (0 : Int32).toInt ≤ (x.2.1 34 5).toInt from r2)]
      rfl
    rw [eM]
    refine q_TNrd hs (s.2.2 172) (q_kb b) true (q_eq33_refl _) ?_ rfl (fun q => q.elim)
    unfold dz_X26_64_236
    rw [q1, e']
    cases b <;> rfl
end
end
section
-- 55.d
section
variable {x y z m m2 : q_S} {c d w k : Int}
/-- traceAt -/
theorem q_tTra (h : q_LX k m x) (hI : q_Iv c d w m) (hd : d ≤ 1000000) (a : Int32) : q_TN k (some (dz_X13_64_236 x a)) (dz_M243_64 m a) Int32.toInt64 True := by
  have t := q_R_t h.1
  have en : x.2.1 24 11 = m.1 14 20 := t.2.1
  have n0 : 0 ≤ (m.1 14 20).toInt := (hI.1 14 20).1
  have n1 : (m.1 14 20).toInt ≤ d := (hI.1 14 20).2
  have z0 : (0 : Int32).toInt = 0 := rfl
  have z1 : (1 : Int32).toInt = 1 := rfl
  have z16 : (16 : Int32).toInt = 16 := rfl
  -- how many there are
  have hN : ∃ N : Int32, (if (m.1 14 20) < (16 : Int32) then (m.1 14 20) else (16 : Int32)) = N ∧ 0 ≤ N.toInt ∧ N.toInt ≤ 16 ∧ N.toInt ≤ (m.1 14 20).toInt ∧ (∀ v : q_S × Int32 × Nat, ∀ u : q_S × Int32 × Nat, cond (decide (m.1 14 20 < 16)) (cond (decide (a < 0)) u (cond (decide (a < m.1 14 20)) v u)) (cond (decide (a < 0)) u (cond (decide (a < 16)) v u)) = cond (decide (a < 0)) u (cond (decide (a < N)) v u)) := by
    by_cases q : (m.1 14 20).toInt < 16
    · have q' : (m.1 14 20) < (16 : Int32) := Int32.lt_iff_toInt_lt.mpr (by omega)
      exact ⟨m.1 14 20, if_pos q', n0, by omega, Int.le_refl _, fun v u => by rw [decide_eq_true q']; rfl⟩
    · have q' : ¬ (m.1 14 20) < (16 : Int32) := fun w => q (by have := Int32.lt_iff_toInt_lt.mp w; omega)
      exact ⟨16, if_neg q', by omega, by omega, by omega, fun v u => by rw [decide_eq_false q']; rfl⟩
  obtain ⟨N, eN, N0, N16, Nn, eX⟩ := hN
  have eX13 : dz_X13_64_236 x a = cond (decide (a < 0)) ((x, 1, 1)) (cond (decide (a < N)) (((q_sL x 172 (vp_updL (x.2.2 172) 0 (((x.1 25) (((((m.1 14 20) - 1) - a) &&& 15).toNatClampNeg)).toInt64))), 0, 0)) ((x, 1, 1))) := by
    unfold dz_X13_64_236
    rw [en]
    exact eX _ _
  have es : (N - 1).toInt = N.toInt - 1 := q_subI ⟨by omega, by omega⟩ ⟨by decide, by decide⟩
  rw [eX13]
  by_cases l : a.toInt < 0
  · refine q_TNbad h 1 0 (by decide) ?_ ?_
    · rw [q_lt_T (by omega)]; rfl
    · unfold dz_M243_64 q_let
      dsimp only
      rw [eN, q_202F (v := a) (lo := 0) (hi := N - 1) (Or.inl (by omega))]
      rfl
  by_cases u : N.toInt ≤ a.toInt
  · refine q_TNbad h 1 0 (by decide) ?_ ?_
    · rw [q_lt_F (show (0 : Int32).toInt ≤ a.toInt by omega), q_lt_F u]; rfl
    · unfold dz_M243_64 q_let
      dsimp only
      rw [eN, q_202F (v := a) (lo := 0) (hi := N - 1) (Or.inr (by omega))]
      rfl
  have e1 : ((m.1 14 20) - 1).toInt = (m.1 14 20).toInt - 1 := q_subI ⟨by omega, by omega⟩ ⟨by decide, by decide⟩
  have e2 : (((m.1 14 20) - 1) - a).toInt = (m.1 14 20).toInt - 1 - a.toInt := by rw [q_subI ⟨by omega, by omega⟩ ⟨by omega, by omega⟩, e1]
  have e16 : (((m.1 14 20) - 1) - a) - (((m.1 14 20) - 1) - a) / 16 * 16 = (((m.1 14 20) - 1) - a) &&& 15 := by
    apply Int32.toInt_inj.mp
    rw [q_rem_eq (by omega) (by decide), q_andI 4 (by decide) (l := 0) (u := 1000000) ⟨by omega, by omega⟩ (by decide) (show (15 : Int32).toInt = 2 ^ 4 - 1 from rfl)]
    rfl
  have r15 := q_rg_and (((m.1 14 20) - 1) - a) 15 (U := 15) (by decide) rfl
  have r0 := r15.1
  have r1 := r15.2
  generalize hj : (((m.1 14 20) - 1) - a) &&& 15 = j at *
  have ej := t.1 j.toNatClampNeg (by show j.toInt.toNat < 16; omega)
  have ej' : x.1 25 j.toNatClampNeg = m.1 9 j.toNatClampNeg := ej
  refine q_TNrd h (x.2.2 172) ((m.1 9) j.toNatClampNeg).toInt64 ((m.1 9) j.toNatClampNeg) (q_eq33_refl _) ?_ ?_ (fun _ => rfl)
  · rw [q_lt_F (show (0 : Int32).toInt ≤ a.toInt by omega), q_lt_T (by omega), ej']
    rfl
  · unfold dz_M243_64 q_let
    dsimp only
    rw [eN, q_202T (v := a) (lo := 0) (hi := N - 1) (by omega) (by omega), q_yM200]
    simp only [cond_true, cond_false]
    show cond (q_in ((((m.1 14 20) - 1) - a) - (((m.1 14 20) - 1) - a) / 16 * 16) 16) (some (q_mok m, m.1 9 ((((m.1 14 20) - 1) - a) - (((m.1 14 20) - 1) - a) / 16 * 16).toNatClampNeg)) none = _
    rw [e16, q_in_rg r15 (by decide) (by decide)]
    rfl
end
end
section
-- 55.e
section
variable {x y z m m2 : q_S} {c d w k : Int}
/-- the scratch scene's two rows alone change -/
def q_NS (x y : q_S) : Prop := y.2 = x.2 ∧ ∀ i, (Nat.beq i 33 || Nat.beq i 34) = false → y.1 i = x.1 i
theorem q_NS_r (x : q_S) : q_NS x x := ⟨rfl, fun _ _ => rfl⟩
theorem q_NS.trans (h : q_NS x y) (g : q_NS y z) : q_NS x z := ⟨g.1.trans h.1, fun i hi => (g.2 i hi).trans (h.2 i hi)⟩
theorem q_NS_A (i : Nat) (f : Nat → Int32) (hi : (Nat.beq i 33 || Nat.beq i 34) = true) : q_NS x (q_sA x i f) := by
  refine ⟨rfl, fun j hj => q_uA_ne _ _ ?_⟩
  cases e : Nat.beq j i with
  | false => rfl
  | true => rw [Nat.eq_of_beq_eq_true e, hi] at hj; cases hj
theorem q_ns318 : ∀ (n : Nat) (s y : q_S) (v1 v2 v3 : Int32), dz_N318_98_5 n s v1 v2 v3 = some y → q_NS s y := by
  intro n
  induction n with
  | zero => intro s y v1 v2 v3 h; cases h
  | succ n ih =>
    intro s y v1 v2 v3 h
    rw [dzs_N318_98_5] at h
    dsimp only at h
    cases e : decide (v2 < v3) with
    | false => rw [e] at h; cases h; exact q_NS_r s
    | true =>
      rw [e, cond_true] at h
      cases e2 : q_in v2 48 with
      | false => rw [e2] at h; cases h
      | true => rw [e2] at h; exact (q_NS_A 34 _ rfl).trans (ih _ _ _ _ _ h)
theorem q_ns113 {s y : q_S} (h : dz_N113_96 s = some y) : q_NS s y := by
  unfold dz_N113_96 dz_N318_98 at h
  cases e : dz_N318_98_5 5000 s 0 0 48 with
  | none => rw [e] at h; cases h
  | some r => rw [e] at h; cases h; exact q_ns318 _ _ _ _ _ _ e
theorem q_ns112 (s : q_S) (a b : Int32) : q_NS s (dz_N112_96 s a b) := by
  unfold dz_N112_96
  cases decide (a - 3840 < 0) with
  | true => exact q_NS_A 33 _ rfl
  | false =>
    rw [cond_false]
    cases decide (a - 3840 < 48) with
    | false => exact q_NS_A 33 _ rfl
    | true =>
      rw [cond_true]
      cases decide ((fun j => q_o1.getD j 0) ((a - 3840).toNatClampNeg) = 0) with
      | true => exact q_NS_r s
      | false => exact q_NS_A 34 _ rfl
theorem q_ns129_77 : ∀ (n : Nat) (s y : q_S) (v1 v3 : Int32), dz_N129_77_96_10 n s v1 v3 = some y → q_NS s y := by
  intro n
  induction n with
  | zero => intro s y v1 v3 h; cases h
  | succ n ih =>
    intro s y v1 v3 h
    rw [dzs_N129_77_96_10] at h
    unfold q_let at h
    dsimp only at h
    cases e1 : decide (v3 < s.2.1 13 2) with
    | false => rw [e1] at h; cases h; exact q_NS_r s
    | true =>
      rw [e1, cond_true] at h
      cases e2 : decide (v3 < 3072) with
      | false => rw [e2] at h; cases h; exact q_NS_r s
      | true =>
        rw [e2, cond_true] at h
        cases e3 : q_in v3 3072 with
        | false => rw [e3] at h; cases h
        | true =>
          rw [e3, cond_true] at h
          cases e4 : decide (v1 < ((s.1 17) (v3.toNatClampNeg)) >>> ((21 &&& 31) : Int32)) with
          | true => rw [e4] at h; cases h; exact q_NS_r s
          | false =>
            rw [e4, cond_false] at h
            cases e5 : decide ((((s.1 17) (v3.toNatClampNeg)) >>> ((8 &&& 31) : Int32)) &&& 8191 = 4096) with
            | true =>
              rw [e5, cond_true] at h
              cases e6 : dz_N113_96 s with
              | none => rw [e6] at h; cases h
              | some r => rw [e6] at h; exact (q_ns113 e6).trans (ih _ _ _ _ h)
            | false => rw [e5, cond_false] at h; exact (q_ns112 s _ _).trans (ih _ _ _ _ h)
theorem q_ns129_82 : ∀ (n : Nat) (s y : q_S) (v1 v3 : Int32), dz_N129_82_96_10 n s v1 v3 = some y → q_NS s y := by
  intro n
  induction n with
  | zero => intro s y v1 v3 h; cases h
  | succ n ih =>
    intro s y v1 v3 h
    rw [dzs_N129_82_96_10] at h
    unfold q_let at h
    dsimp only at h
    cases e1 : decide (v3 < s.2.1 18 2) with
    | false => rw [e1] at h; cases h; exact q_NS_r s
    | true =>
      rw [e1, cond_true] at h
      cases e2 : decide (v3 < 3072) with
      | false => rw [e2] at h; cases h; exact q_NS_r s
      | true =>
        rw [e2, cond_true] at h
        cases e3 : q_in v3 3072 with
        | false => rw [e3] at h; cases h
        | true =>
          rw [e3, cond_true] at h
          cases e4 : decide (v1 < ((s.1 22) (v3.toNatClampNeg)) >>> ((21 &&& 31) : Int32)) with
          | true => rw [e4] at h; cases h; exact q_NS_r s
          | false =>
            rw [e4, cond_false] at h
            cases e5 : decide ((((s.1 22) (v3.toNatClampNeg)) >>> ((8 &&& 31) : Int32)) &&& 8191 = 4096) with
            | true =>
              rw [e5, cond_true] at h
              cases e6 : dz_N113_96 s with
              | none => rw [e6] at h; cases h
              | some r => rw [e6] at h; exact (q_ns113 e6).trans (ih _ _ _ _ h)
            | false => rw [e5, cond_false] at h; exact (q_ns112 s _ _).trans (ih _ _ _ _ h)
end
end
section
-- 55.f
section
variable {TT : (Nat → Int32) → Int32 → (Nat → Int32) → Int32 → Int64 → Int64 → List Int32 → List (Nat → Int32) → (Nat → Int64) → Prop} {x y z m m2 : q_S} {c d w k : Int}
theorem q_nsK (s y : q_S) (a1 a2 r : Int32) (h : (q_let (dz_N119_96 s a1 a2) fun r3 => (dz_N122_96 s a1 a2).bind fun r4 => (dz_N123_96 s r3 r4).bind fun r5 => some (s, r5)) = some (y, r)) : y = s := by
  unfold q_let at h
  dsimp only at h
  cases e1 : dz_N122_96 s a1 a2 with
  | none => rw [e1] at h; cases h
  | some r4 =>
    rw [e1, Option.bind_some] at h
    cases e2 : dz_N123_96 s (dz_N119_96 s a1 a2) r4 with
    | none => rw [e2] at h; cases h
    | some r5 => rw [e2] at h; cases h; rfl
theorem q_nsT77 (s y : q_S) (p a1 a2 r : Int32) (h : ((dz_N129_77_96 s p).bind fun r2 => q_let (dz_N119_96 r2 a1 a2) fun r3 => (dz_N122_96 r2 a1 a2).bind fun r4 => (dz_N123_96 r2 r3 r4).bind fun r5 => some (r2, r5)) = some (y, r)) : q_NS s y := by
  cases e : dz_N129_77_96 s p with
  | none => rw [e] at h; cases h
  | some r2 =>
    rw [e, Option.bind_some] at h
    rw [q_nsK _ _ _ _ _ h]
    have e' : dz_N129_77_96_10 5000 (dz_N110_96_78 s) p 0 = some r2 := e
    exact ((q_NS_A 33 _ rfl).trans (q_NS_A 34 _ rfl)).trans (q_ns129_77 _ _ _ _ _ e')
theorem q_nsT82 (s y : q_S) (p a1 a2 r : Int32) (h : ((dz_N129_82_96 s p).bind fun r2 => q_let (dz_N119_96 r2 a1 a2) fun r3 => (dz_N122_96 r2 a1 a2).bind fun r4 => (dz_N123_96 r2 r3 r4).bind fun r5 => some (r2, r5)) = some (y, r)) : q_NS s y := by
  cases e : dz_N129_82_96 s p with
  | none => rw [e] at h; cases h
  | some r2 =>
    rw [e, Option.bind_some] at h
    rw [q_nsK _ _ _ _ _ h]
    have e' : dz_N129_82_96_10 5000 (dz_N110_96_83 s) p 0 = some r2 := e
    exact ((q_NS_A 33 _ rfl).trans (q_NS_A 34 _ rfl)).trans (q_ns129_82 _ _ _ _ _ e')
theorem q_ns108 (s y : q_S) (a1 a2 r : Int32) (h : dz_N108_65_96 s a1 a2 = some (y, r)) : q_NS s y := by
  unfold dz_N108_65_96 at h
  cases e1 : decide (lg_cmp (((s.2.2 1 8) / 960) - ((s.2.2 1 8) / 960) / 2 * 2) 0 = 0) with
  | true =>
    rw [e1, cond_true] at h
    cases e2 : decide ((24 * (a2 + 4)) + ((a1 / 2) + 4) < s.2.1 13 3) with
    | true => rw [e2, cond_true] at h; exact q_nsT77 _ _ _ _ _ _ h
    | false =>
      rw [e2, cond_false] at h
      cases e3 : decide ((24 * (a2 + 4)) + ((a1 / 2) + 4) < s.2.1 18 3) with
      | true => rw [e3, cond_true] at h; exact q_nsT82 _ _ _ _ _ _ h
      | false => rw [e3, cond_false] at h; cases h; exact q_NS_r s
  | false =>
    rw [e1, cond_false] at h
    cases e2 : decide ((24 * (a2 + 4)) + ((a1 / 2) + 4) < s.2.1 18 3) with
    | true => rw [e2, cond_true] at h; exact q_nsT82 _ _ _ _ _ _ h
    | false =>
      rw [e2, cond_false] at h
      cases e3 : decide ((24 * (a2 + 4)) + ((a1 / 2) + 4) < s.2.1 13 3) with
      | true => rw [e3, cond_true] at h; exact q_nsT77 _ _ _ _ _ _ h
      | false => rw [e3, cond_false] at h; cases h; exact q_NS_r s
theorem q_R_NS (h : q_R TT x m) (e : q_NS x y) : q_R TT y m := by
  obtain ⟨e2, e1⟩ := e
  unfold q_R q_R1 q_R2 q_R3 q_R4 q_R5 q_R6 q_R7 q_R8 at *
  rw [e2]
  simp only [e1 3 rfl, e1 4 rfl, e1 5 rfl, e1 6 rfl, e1 7 rfl, e1 9 rfl, e1 11 rfl, e1 12 rfl, e1 24 rfl, e1 26 rfl, e1 27 rfl, e1 28 rfl, e1 29 rfl, e1 30 rfl, e1 31 rfl]
  exact h
theorem q_tAgn (h : q_LX k m x) (hI : q_Iv c d w m) (a b : Int32) : q_TN k (dz_X15_64_236 x a b) (dz_M295_64 m a b) Int32.toInt64 False := by
  have z0 : (0 : Int32).toInt = 0 := rfl
  have z31 : (31 : Int32).toInt = 31 := rfl
  have z32 : (32 : Int32).toInt = 32 := rfl
  by_cases l_a : a.toInt < 0
  · refine q_TNbad h 1 0 (by decide) ?_ ?_
    · unfold dz_X15_64_236
      rw [q_lt_T (show a.toInt < (0 : Int32).toInt by omega)]
      rfl
    · unfold dz_M295_64 dz_M293_64 q_let
      dsimp only
      rw [q_202F (v := a) (lo := 0) (hi := 31) (Or.inl (by omega))]
      rfl
  by_cases u_a : 31 < a.toInt
  · refine q_TNbad h 1 0 (by decide) ?_ ?_
    · unfold dz_X15_64_236
      rw [q_lt_F (show (0 : Int32).toInt ≤ a.toInt by omega), q_lt_F (show (32 : Int32).toInt ≤ a.toInt by omega)]
      rfl
    · unfold dz_M295_64 dz_M293_64 q_let
      dsimp only
      rw [q_202F (v := a) (lo := 0) (hi := 31) (Or.inr (by omega))]
      rfl
  by_cases l_b : b.toInt < 0
  · refine q_TNbad h 1 0 (by decide) ?_ ?_
    · unfold dz_X15_64_236
      rw [q_lt_F (show (0 : Int32).toInt ≤ a.toInt by omega), q_lt_T (show a.toInt < (32 : Int32).toInt by omega), q_lt_T (show b.toInt < (0 : Int32).toInt by omega)]
      rfl
    · unfold dz_M295_64 dz_M293_64 q_let
      dsimp only
      rw [q_202T (v := a) (lo := 0) (hi := 31) (by omega) (by omega), q_202F (v := b) (lo := 0) (hi := 31) (Or.inl (by omega))]
      rfl
  by_cases u_b : 31 < b.toInt
  · refine q_TNbad h 1 0 (by decide) ?_ ?_
    · unfold dz_X15_64_236
      rw [q_lt_F (show (0 : Int32).toInt ≤ a.toInt by omega), q_lt_T (show a.toInt < (32 : Int32).toInt by omega), q_lt_F (show (0 : Int32).toInt ≤ b.toInt by omega), q_lt_F (show (32 : Int32).toInt ≤ b.toInt by omega)]
      rfl
    · unfold dz_M295_64 dz_M293_64 q_let
      dsimp only
      rw [q_202T (v := a) (lo := 0) (hi := 31) (by omega) (by omega), q_202F (v := b) (lo := 0) (hi := 31) (Or.inr (by omega))]
      rfl
  have e32 : (32 * b).toInt = 32 * b.toInt := q_mulI (n := 32) rfl (by decide) (by decide) ⟨by omega, by omega⟩
  have ei : ((32 * b) + a).toInt = 32 * b.toInt + a.toInt := by rw [q_addI ⟨by omega, by omega⟩ ⟨by omega, by omega⟩, e32]
  have ri : q_rgz 0 1023 ((32 * b) + a) := ⟨by omega, by omega⟩
  have hN : q_iN (q_vw 32 1 73 x) := q_iNof h.1 (hI.1 15 6) (hI.1 15 7)
  obtain ⟨⟨y, r⟩, e, -⟩ := dzj_N108_65_96 (q_vw 32 1 73 x) hN a b
  have hy : q_RO m y m := q_R_NS h.1 (q_ns108 _ _ _ _ _ e)
  have LX : q_LX k m (q_sL (q_pt 32 3 1 73 x y) 172 (vp_updL ((q_pt 32 3 1 73 x y).2.2 172) 0 r.toInt64)) := ⟨hy, h.2⟩
  have eM : dz_M295_64 m a b = some (q_mok m, m.1 5 ((32 * b) + a).toNatClampNeg) := by
    unfold dz_M295_64 dz_M293_64 q_let
    dsimp only
    rw [q_202T (v := a) (lo := 0) (hi := 31) (by omega) (by omega), q_202T (v := b) (lo := 0) (hi := 31) (by omega) (by omega), q_yM200, q_in_rg ri (by decide) (by decide)]
    rfl
  refine ⟨(q_sL (q_pt 32 3 1 73 x y) 172 (vp_updL ((q_pt 32 3 1 73 x y).2.2 172) 0 r.toInt64), 0, 0), _, ?_, eM, q_LXbad LX 0, Nat.zero_le _, rfl, fun q => q.elim⟩
  unfold dz_X15_64_236
  rw [q_lt_F (show (0 : Int32).toInt ≤ a.toInt by omega), q_lt_T (show a.toInt < (32 : Int32).toInt by omega), q_lt_F (show (0 : Int32).toInt ≤ b.toInt by omega), q_lt_T (show b.toInt < (32 : Int32).toInt by omega), e]
  rfl
end
end
section
-- 55.g
section
variable {x y z m m2 : q_S} {c d w k : Int}
theorem q_tLft (h : q_LX k m x) : dz_M303_64 m = (q_mok m, dz_X59_64 x) := by
  have e1 : x.2.1 9 1 = m.1 14 13 := h.1.r4.2.1
  have e2 : x.2.1 9 2 = m.1 14 14 := h.1.r4.2.2.1
  show (q_mok m, (m.1 14 13) - (m.1 14 14)) = (q_mok m, (x.2.1 9 1) - (x.2.1 9 2))
  rw [e1, e2]
theorem q_beqF {i n : Nat} (h : ¬ i = n) : Nat.beq i n = false := by
  cases e : Nat.beq i n with
  | false => rfl
  | true => exact absurd (Nat.eq_of_beq_eq_true e) h
theorem q_bnd34 {i k : Nat} (h : 34 ≤ i) : q_la i k = -2147483648 ∧ q_ha d i k = 2147483647 ∧ q_lfz i k = -2147483648 ∧ q_hf w i k = 2147483647 := by
  have b : Nat.ble 34 i = true := Nat.ble_eq_true_of_le h
  refine ⟨?_, ?_, ?_, ?_⟩
  · unfold q_la
    rw [q_beqF (show ¬ i = 14 by omega), q_beqF (show ¬ i = 29 by omega), b, Bool.or_true]
    rfl
  · unfold q_ha
    rw [q_beqF (show ¬ i = 14 by omega), q_beqF (show ¬ i = 29 by omega), q_beqF (show ¬ i = 4 by omega), q_beqF (show ¬ i = 19 by omega), b, Bool.or_true]
    rfl
  · unfold q_lfz
    rw [q_beqF (show ¬ i = 0 by omega)]
    rfl
  · unfold q_hf
    rw [q_beqF (show ¬ i = 0 by omega)]
    rfl
theorem q_eN34 {i : Nat} (h : i < 34) : q_eN 34 172 0 i = 172 + i := by
  unfold q_eN
  rw [show Nat.blt i 34 = true from Nat.ble_eq_true_of_le h]
  rfl
theorem q_ps34 {T : Type} {i : Nat} (h : i < 34) (f : Nat → T) (e : T) : q_ps 34 0 172 0 (172 + i) f e = f i := by
  unfold q_ps
  rw [show Nat.ble 172 (172 + i) = true from Nat.ble_eq_true_of_le (by omega), show Nat.blt (172 + i) (172 + 34) = true from Nat.ble_eq_true_of_le (by omega)]
  show f (172 + i - 172) = f i
  rw [Nat.add_sub_cancel_left]
/-- the model's ranges, said of its cells in the law's heap -/
theorem q_IvV {r : q_S} (h : q_Iv c d w r) (T : q_S) : q_Iv c d w (q_vw 34 172 0 (q_pt 34 0 172 0 T r)) := by
  refine ⟨fun i k => ?_, fun i k => ?_, fun i k hi => ?_⟩
  · by_cases e : i < 34
    · show q_rgz _ _ (q_ps 34 0 172 0 (q_eN 34 172 0 i) r.1 (T.1 (q_eN 34 172 0 i)) k)
      rw [q_eN34 e, q_ps34 e]
      exact h.1 i k
    · obtain ⟨b1, b2, -, -⟩ := q_bnd34 (d := d) (w := w) (i := i) (k := k) (by omega)
      rw [b1, b2]
      exact q_rg_full _
  · by_cases e : i < 34
    · show q_rgz _ _ (q_ps 34 0 172 0 (q_eN 34 172 0 i) r.2.1 (T.2.1 (q_eN 34 172 0 i)) k)
      rw [q_eN34 e, q_ps34 e]
      exact h.2.1 i k
    · obtain ⟨-, -, b1, b2⟩ := q_bnd34 (d := d) (w := w) (i := i) (k := k) (by omega)
      rw [b1, b2]
      exact q_rg_full _
  · by_cases e : i < 34
    · show q_rgL _ _ (q_ps 34 0 172 0 (q_eN 34 172 0 i) r.2.2 (T.2.2 (q_eN 34 172 0 i)) k)
      rw [q_eN34 e, q_ps34 e]
      exact h.2.2 i k hi
    · rw [Nat.ble_eq_true_of_le (by omega : 34 ≤ i)] at hi
      cases hi
end
end
section
-- 55.h
section
variable {x y z m m2 S T : q_S} {c d w k : Int}
/-- class and model beside one another, said of the law's heap behind a turn -/
theorem q_LXV (h : q_LX k m x) (S : q_S) : q_LX k (q_vw 34 172 0 (q_pt 34 0 172 0 (q_pt 172 1 0 206 S x) m)) (q_vw 172 0 206 (q_pt 34 0 172 0 (q_pt 172 1 0 206 S x) m)) := by
  obtain ⟨h1, h2, h3, h4, h5, h6, h7, h8⟩ := h
  exact ⟨h1, h2, h3, h4, h5, h6, h7, h8⟩
/-- the class' turn leaves the model's cells -/
theorem q_LXW (h : q_LX k (q_vw 34 172 0 S) (q_vw 172 0 206 S)) (y : q_S) : q_LX k (q_vw 34 172 0 (q_pt 172 1 0 206 S y)) (q_vw 172 0 206 S) := by
  obtain ⟨h1, h2, h3, h4, h5, h6, h7, h8⟩ := h
  exact ⟨h1, h2, h3, h4, h5, h6, h7, h8⟩
end
end
section
-- 56.aa
section
variable {TT : (Nat → Int32) → Int32 → (Nat → Int32) → Int32 → Int64 → Int64 → List Int32 → List (Nat → Int32) → (Nat → Int64) → Prop} {x y z m m2 b b2 : q_S} {c d w k : Int} {n : Nat}
/-- the model as it was but for its line and its live keys -/
def q_eqL (m z : q_S) : Prop := (∀ i, Nat.beq i 33 = false → Nat.beq i 32 = false → z.1 i = m.1 i) ∧ (∀ i k, (Nat.beq i 0 && Nat.beq k 35) = false → z.2.1 i k = m.2.1 i k) ∧ z.2.2 = m.2.2
theorem q_eqL_r (m : q_S) : q_eqL m m := ⟨fun _ _ _ => rfl, fun _ _ _ => rfl, rfl⟩
theorem q_eqL_33 (e : q_eqL m z) (f : q_eq33 z y) : q_eqL m y := ⟨fun i h1 h2 => (f.1 i h1).trans (e.1 i h1 h2), fun i k h => by rw [f.2]; exact e.2.1 i k h, by rw [f.2]; exact e.2.2⟩
theorem q_eqL_I (e : q_eqL m z) (v : Int32) : q_eqL m (q_sI z 0 35 v) := by
  refine ⟨e.1, fun i k h => ?_, e.2.2⟩
  show cond (Nat.beq i 0) (cond (Nat.beq k 35) v (z.2.1 i k)) (z.2.1 i k) = _
  cases e0 : Nat.beq i 0 with
  | false => exact e.2.1 i k h
  | true =>
    rw [e0, Bool.true_and] at h
    rw [h]
    exact e.2.1 i k (by rw [h]; exact Bool.and_false _)
theorem q_eqL_A (e : q_eqL m z) (f : Nat → Int32) : q_eqL m (q_sA z 32 f) :=
  ⟨fun i h1 h2 => (q_uA_ne _ _ h2).trans (e.1 i h1 h2), e.2.1, e.2.2⟩
/-- the relation reads these alone of the model -/
def q_eq15 (m z : q_S) : Prop := (∀ i, 1 ≤ i → i ≤ 15 → z.1 i = m.1 i) ∧ z.2.2 0 15 = m.2.2 0 15 ∧ z.2.2 0 16 = m.2.2 0 16
theorem q_R_15 (h : q_R q_TTs x m) (e : q_eq15 m z) : q_R q_TTs x z := by
  obtain ⟨e1, e2, e3⟩ := e
  unfold q_R q_R1 q_R2 q_R3 q_R4 q_R5 q_R6 q_R7 q_R8 q_TTs at *
  rw [e2, e3]
  simp only [e1 1 (by decide) (by decide), e1 2 (by decide) (by decide), e1 3 (by decide) (by decide), e1 4 (by decide) (by decide), e1 5 (by decide) (by decide), e1 6 (by decide) (by decide), e1 7 (by decide) (by decide), e1 8 (by decide) (by decide), e1 9 (by decide) (by decide), e1 10 (by decide) (by decide), e1 11 (by decide) (by decide), e1 12 (by decide) (by decide), e1 13 (by decide) (by decide), e1 14 (by decide) (by decide), e1 15 (by decide) (by decide)]
  exact h
theorem q_eqL_15 (e : q_eqL m z) : q_eq15 m z := ⟨fun i h1 h2 => e.1 i (q_beqF (by omega)) (q_beqF (by omega)), by rw [e.2.2], by rw [e.2.2]⟩
theorem q_eqL_ms (e : q_eqL m z) (u : Nat) (Q : Nat → Int64) : q_eq15 (q_ms u (q_svW m) Q) (q_ms u (q_svW z) Q) := by
  refine ⟨fun i h1 h2 => ?_, rfl, rfl⟩
  rcases (by omega : i = 1 ∨ i = 2 ∨ i = 3 ∨ i = 4 ∨ i = 5 ∨ i = 6 ∨ i = 7 ∨ i = 8 ∨ i = 9 ∨ i = 10 ∨ i = 11 ∨ i = 12 ∨ i = 13 ∨ i = 14 ∨ i = 15) with rfl | rfl | rfl | rfl | rfl | rfl | rfl | rfl | rfl | rfl | rfl | rfl | rfl | rfl | rfl
  · funext k; exact congrFun (e.1 16 rfl rfl) _
  · funext k; exact congrFun (e.1 17 rfl rfl) _
  · funext k; exact congrFun (e.1 18 rfl rfl) _
  · funext k; exact congrFun (e.1 19 rfl rfl) _
  · funext k; exact congrFun (e.1 20 rfl rfl) _
  · funext k; exact congrFun (e.1 21 rfl rfl) _
  · funext k; exact congrFun (e.1 22 rfl rfl) _
  · funext k; exact congrFun (e.1 23 rfl rfl) _
  · funext k; exact congrFun (e.1 24 rfl rfl) _
  · funext k; exact congrFun (e.1 25 rfl rfl) _
  · funext k; exact congrFun (e.1 26 rfl rfl) _
  · funext k; exact congrFun (e.1 27 rfl rfl) _
  · funext k; exact congrFun (e.1 28 rfl rfl) _
  · funext k; exact congrFun (e.1 29 rfl rfl) _
  · funext k; exact congrFun (e.1 30 rfl rfl) _
/-- alike, whatever is said of what is saved -/
theorem q_RO_s (h : q_RO m x m) : q_R q_TTs x m := by
  have t := q_R_t h
  exact q_R_TT h ⟨t.1, t.2.1, by have := t.2.2.1; rwa [Int64.add_zero] at this⟩
theorem q_RO_of (h : q_R q_TTs x m) : q_RO m x m := by
  have t := q_R_t h
  exact q_R_TT h ⟨t.1, t.2.1, by rw [Int64.add_zero]; exact t.2.2, rfl, rfl, rfl⟩
/-- a letter -/
theorem q_l7 : ∀ j, j < 128 → q_chr (vp_nar .byte (Int32.ofNat j).toInt8.toInt32) = Int32.ofNat j ∧ q_chr (Int32.ofNat j) = Int32.ofNat j ∧ vp_nar .char (Int32.ofNat j) = Int32.ofNat j := by decide +kernel
theorem q_l7r {v : Int32} (h : q_rgz 0 127 v) : q_chr (vp_nar .byte v.toInt8.toInt32) = v ∧ q_chr v = v ∧ vp_nar .char v = v := by
  have h0 := h.1
  have h1 := h.2
  have t := q_l7 v.toInt.toNat (by omega)
  rw [q_ofn h] at t
  exact t
/-- n letters stand, alike in the class' builder b and in the model z; the rest of the model as in m -/
def q_WL (c d : Int) (m : q_S) (n : Nat) (b z : q_S) : Prop := q_eqL m z ∧ q_Iv c d n z ∧ (b.2.1 0 3).toInt = n ∧ z.2.1 0 35 = b.2.1 0 3 ∧ ∀ i, i < n → q_chr (b.1 1 i) = z.1 32 i
def q_bp (b : q_S) (n : Nat) (v : Int32) : q_S := q_sA (q_sI b 0 3 (b.2.1 0 3 + 1)) 1 (upd (b.1 1) n (vp_nar .byte v.toInt8.toInt32))
def q_zp (z : q_S) (n : Nat) (v : Int32) : q_S := q_sI (q_sA z 32 (upd (z.1 32) n v)) 0 35 (z.2.1 0 35 + 1)
theorem q_b332 {v : Int32} (h0 : 0 ≤ v.toInt) (h : v.toInt ≤ 16) : dz_B332_64 b v = some b := by
  unfold dz_B332_64
  have e : (v - 16).toInt = v.toInt - 16 := q_subI ⟨by omega, by omega⟩ ⟨by decide, by decide⟩
  have z0 : (0 : Int32).toInt = 0 := rfl
  rw [q_lt_F (by omega)]
  rfl
end
end
section
-- 56.ab
section
variable {TT : (Nat → Int32) → Int32 → (Nat → Int32) → Int32 → Int64 → Int64 → List Int32 → List (Nat → Int32) → (Nat → Int64) → Prop} {x y z m m2 b b2 : q_S} {c d w k : Int} {n : Nat}
theorem q_wC (h : q_WL c d m n b z) (hn : n < 16) (v : Int32) (hv : q_rgz 0 127 v) : dz_B325_64 b v = some (q_bp b n v) ∧ dz_M280_64 z v = some (q_zp z n v) ∧ q_WL c d m (n + 1) (q_bp b n v) (q_zp z n v) := by
  obtain ⟨h1, h2, h3, h4, h5⟩ := h
  have v0 := hv.1
  have v1 := hv.2
  have z255 : (255 : Int32).toInt = 255 := rfl
  obtain ⟨l1, l2, l3⟩ := q_l7r hv
  have e1 : (b.2.1 0 3 + 1).toInt = n + 1 := by rw [q_addI ⟨by omega, by omega⟩ ⟨by decide, by decide⟩, h3]; rfl
  have hN : (b.2.1 0 3).toNatClampNeg = n := by show (b.2.1 0 3).toInt.toNat = n; omega
  have rc : q_rgz 0 15 (b.2.1 0 3) := ⟨by omega, by omega⟩
  have eM : dz_M280_64 z v = some (q_zp z n v) := by
    unfold dz_M280_64
    rw [h4, q_in_rg rc (by decide) (by decide), l3, hN, ← h4]
    rfl
  have eZ : q_Iv c d ((n + 1 : Nat) : Int) (q_zp z n v) := by
    obtain ⟨r, er, hr⟩ := dzj_M280_64 c d n z h2 v (by omega)
    rw [eM] at er
    cases er
    exact q_Iv_mono hr (Int.le_refl _) (Int.le_refl _) (by omega)
  refine ⟨?_, eM, q_eqL_I (q_eqL_A h1 _) _, eZ, ?_, ?_, fun i hi => ?_⟩
  · have eb : dz_B353 b v = true := by
      unfold dz_B353
      rw [q_lt_F (by omega)]
      rfl
    unfold dz_B325_64 dz_B339_64
    rw [q_b332 (by omega) (by omega), Option.bind_some]
    show ((cond (dz_B353 b v) (cond (q_in (b.2.1 0 3) 16) (some (q_sA (q_sI b 0 3 ((b.2.1 0 3) + 1)) 1 (upd (b.1 1) ((b.2.1 0 3).toNatClampNeg) (vp_nar .byte v.toInt8.toInt32)))) none) (dz_B339_64_45 b v)).bind fun r2 => some r2) = _
    rw [eb, cond_true, q_in_rg rc (by decide) (by decide), hN]
    rfl
  · show (b.2.1 0 3 + 1).toInt = ((n + 1 : Nat) : Int)
    omega
  · show z.2.1 0 35 + 1 = b.2.1 0 3 + 1
    rw [h4]
  · show q_chr (upd (b.1 1) n (vp_nar .byte v.toInt8.toInt32) i) = upd (z.1 32) n v i
    by_cases q : i = n
    · simp only [upd, if_pos q]
      exact l1
    · simp only [upd, if_neg q]
      exact h5 i (by omega)
/-- another builder with the same letters -/
theorem q_WLt (h : q_WL c d m n b z) (e3 : (b2.2.1 0 3).toInt = n) (hc : ∀ i, i < n → q_chr (b2.1 1 i) = z.1 32 i) : q_WL c d m n b2 z := by
  obtain ⟨h1, h2, h3, h4, h5⟩ := h
  exact ⟨h1, h2, e3, by rw [h4]; exact Int32.toInt_inj.mp (by omega), hc⟩
/-- two letters at once -/
theorem q_wS2 (h : q_WL c d m n b z) (hn : n + 2 ≤ 16) (src : Nat → Int32) (r0 : q_rgz 0 127 (src 0)) (r1 : q_rgz 0 127 (src 1)) : ∃ z1 z2, dz_M280_64 z (src 0) = some z1 ∧ dz_M280_64 z1 (src 1) = some z2 ∧ q_WL c d m (n + 2) (q_sI (q_sA b 1 (va_cpy src (b.1 1) 0 n 2)) 0 3 (b.2.1 0 3 + 2)) z2 := by
  obtain ⟨-, m1, w1⟩ := q_wC h (by omega) _ r0
  obtain ⟨-, m2, w2⟩ := q_wC w1 (by omega) _ r1
  have h3 := h.2.2.1
  refine ⟨_, _, m1, m2, q_WLt w2 ?_ fun i hi => ?_⟩
  · show (b.2.1 0 3 + 2).toInt = ((n + 2 : Nat) : Int)
    rw [q_addI ⟨by omega, by omega⟩ ⟨by decide, by decide⟩, h3]; rfl
  · show q_chr (va_cpy src (b.1 1) 0 n 2 i) = upd (upd (z.1 32) n (src 0)) (n + 1) (src 1) i
    rcases (by omega : i < n ∨ i = n ∨ i = n + 1) with q | q | q
    · simp only [va_cpy, upd, if_neg (show ¬ (n ≤ i ∧ i < n + 2) by omega), if_neg (show ¬ i = n by omega), if_neg (show ¬ i = n + 1 by omega)]
      exact h.2.2.2.2 i q
    · simp only [va_cpy, upd, if_pos (show n ≤ i ∧ i < n + 2 by omega), if_pos q, if_neg (show ¬ i = n + 1 by omega), show 0 + (i - n) = 0 by omega]
      exact (q_l7r r0).2.1
    · simp only [va_cpy, upd, if_pos (show n ≤ i ∧ i < n + 2 by omega), if_pos q, show 0 + (i - n) = 1 by omega]
      exact (q_l7r r1).2.1
/-- three letters at once -/
theorem q_wS3 (h : q_WL c d m n b z) (hn : n + 3 ≤ 16) (src : Nat → Int32) (r0 : q_rgz 0 127 (src 0)) (r1 : q_rgz 0 127 (src 1)) (r2 : q_rgz 0 127 (src 2)) : ∃ z1 z2 z3, dz_M280_64 z (src 0) = some z1 ∧ dz_M280_64 z1 (src 1) = some z2 ∧ dz_M280_64 z2 (src 2) = some z3 ∧ q_WL c d m (n + 3) (q_sI (q_sA b 1 (va_cpy src (b.1 1) 0 n 3)) 0 3 (b.2.1 0 3 + 3)) z3 := by
  obtain ⟨-, m1, w1⟩ := q_wC h (by omega) _ r0
  obtain ⟨-, m2, w2⟩ := q_wC w1 (by omega) _ r1
  obtain ⟨-, m3, w3⟩ := q_wC w2 (by omega) _ r2
  have h3 := h.2.2.1
  refine ⟨_, _, _, m1, m2, m3, q_WLt w3 ?_ fun i hi => ?_⟩
  · show (b.2.1 0 3 + 3).toInt = ((n + 3 : Nat) : Int)
    rw [q_addI ⟨by omega, by omega⟩ ⟨by decide, by decide⟩, h3]; rfl
  · show q_chr (va_cpy src (b.1 1) 0 n 3 i) = upd (upd (upd (z.1 32) n (src 0)) (n + 1) (src 1)) (n + 1 + 1) (src 2) i
    rcases (by omega : i < n ∨ i = n ∨ i = n + 1 ∨ i = n + 1 + 1) with q | q | q | q
    · simp only [va_cpy, upd, if_neg (show ¬ (n ≤ i ∧ i < n + 3) by omega), if_neg (show ¬ i = n by omega), if_neg (show ¬ i = n + 1 by omega), if_neg (show ¬ i = n + 1 + 1 by omega)]
      exact h.2.2.2.2 i q
    · simp only [va_cpy, upd, if_pos (show n ≤ i ∧ i < n + 3 by omega), if_pos q, if_neg (show ¬ i = n + 1 by omega), if_neg (show ¬ i = n + 1 + 1 by omega), show 0 + (i - n) = 0 by omega]
      exact (q_l7r r0).2.1
    · simp only [va_cpy, upd, if_pos (show n ≤ i ∧ i < n + 3 by omega), if_pos q, if_neg (show ¬ i = n + 1 + 1 by omega), show 0 + (i - n) = 1 by omega]
      exact (q_l7r r1).2.1
    · simp only [va_cpy, upd, if_pos (show n ≤ i ∧ i < n + 3 by omega), if_pos q, show 0 + (i - n) = 2 by omega]
      exact (q_l7r r2).2.1
theorem q_sl0 (a : Int32) : a <<< ((0 &&& 31 : Int32)) = a := by
  rw [show (0 &&& 31 : Int32) = 0 by decide]
  exact Int32.shiftLeft_zero
end
end
section
-- 56.ac
section
variable {TT : (Nat → Int32) → Int32 → (Nat → Int32) → Int32 → Int64 → Int64 → List Int32 → List (Nat → Int32) → (Nat → Int64) → Prop} {x y z m m2 b b2 : q_S} {c d w k : Int} {n : Nat}
theorem q_w324_14 (h3 : (b.2.1 0 3).toInt = n) (hn : n + 3 ≤ 16) : dz_B324_64_14 b = some (q_sI (q_sA b 1 (va_cpy (fun j => q_o42.getD j 0) (b.1 1) 0 n 3)) 0 3 (b.2.1 0 3 + 3)) := by
  have e1 : (b.2.1 0 3 + 3).toInt = n + 3 := by rw [q_addI ⟨by omega, by omega⟩ ⟨by decide, by decide⟩, h3]; rfl
  have hN : (b.2.1 0 3).toNatClampNeg = n := by show (b.2.1 0 3).toInt.toNat = n; omega
  have e2 : dz_B344_14 b = 3 := by show ((3 : Int32) >>> ((0 : Int32) &&& 31)) = 3; decide
  have e3 : q_cpk (b.2.1 0 3) 3 16 = true := by
    unfold q_cpk
    rw [hN, q_lt_F (show (0 : Int32).toInt ≤ _ by show (0 : Int) ≤ _; omega), decide_eq_true (show n + 3 ≤ 16 from hn)]
    rfl
  unfold dz_B324_64_14 dz_B337_64_14
  rw [e2]
  unfold q_let
  dsimp only
  rw [q_b332 (by omega) (by omega), Option.bind_some]
  unfold dz_B343_64_14
  rw [show dz_B342_64_14 b = some b from rfl, Option.bind_some]
  have e4 : dz_B346_14_65 b (b.2.1 0 3) 0 = some (q_sA b 1 (va_cpy (fun j => q_o42.getD j 0) (b.1 1) 0 n 3)) := by
    show cond (q_cpk ((b.2.1 0 3) <<< ((0 : Int32) &&& 31)) 3 16) (some (q_sA b 1 (va_cpy (fun j => q_o42.getD j 0) (b.1 1) 0 (((b.2.1 0 3) <<< ((0 : Int32) &&& 31)).toNatClampNeg) 3))) none = _
    rw [q_sl0, e3, hN]
    rfl
  rw [e4]
  rfl
theorem q_w324_15 (h3 : (b.2.1 0 3).toInt = n) (hn : n + 2 ≤ 16) : dz_B324_64_15 b = some (q_sI (q_sA b 1 (va_cpy (fun j => q_o43.getD j 0) (b.1 1) 0 n 2)) 0 3 (b.2.1 0 3 + 2)) := by
  have e1 : (b.2.1 0 3 + 2).toInt = n + 2 := by rw [q_addI ⟨by omega, by omega⟩ ⟨by decide, by decide⟩, h3]; rfl
  have hN : (b.2.1 0 3).toNatClampNeg = n := by show (b.2.1 0 3).toInt.toNat = n; omega
  have e2 : dz_B344_15 b = 2 := by show ((2 : Int32) >>> ((0 : Int32) &&& 31)) = 2; decide
  have e3 : q_cpk (b.2.1 0 3) 2 16 = true := by
    unfold q_cpk
    rw [hN, q_lt_F (show (0 : Int32).toInt ≤ _ by show (0 : Int) ≤ _; omega), decide_eq_true (show n + 2 ≤ 16 from hn)]
    rfl
  unfold dz_B324_64_15 dz_B337_64_15
  rw [e2]
  unfold q_let
  dsimp only
  rw [q_b332 (by omega) (by omega), Option.bind_some]
  unfold dz_B343_64_15
  rw [show dz_B342_64_15 b = some b from rfl, Option.bind_some]
  have e4 : dz_B346_15_65 b (b.2.1 0 3) 0 = some (q_sA b 1 (va_cpy (fun j => q_o43.getD j 0) (b.1 1) 0 n 2)) := by
    show cond (q_cpk ((b.2.1 0 3) <<< ((0 : Int32) &&& 31)) 2 16) (some (q_sA b 1 (va_cpy (fun j => q_o43.getD j 0) (b.1 1) 0 (((b.2.1 0 3) <<< ((0 : Int32) &&& 31)).toNatClampNeg) 2))) none = _
    rw [q_sl0, e3, hN]
    rfl
  rw [e4]
  rfl
theorem q_w324_16 (h3 : (b.2.1 0 3).toInt = n) (hn : n + 2 ≤ 16) : dz_B324_64_16 b = some (q_sI (q_sA b 1 (va_cpy (fun j => q_o44.getD j 0) (b.1 1) 0 n 2)) 0 3 (b.2.1 0 3 + 2)) := by
  have e1 : (b.2.1 0 3 + 2).toInt = n + 2 := by rw [q_addI ⟨by omega, by omega⟩ ⟨by decide, by decide⟩, h3]; rfl
  have hN : (b.2.1 0 3).toNatClampNeg = n := by show (b.2.1 0 3).toInt.toNat = n; omega
  have e2 : dz_B344_16 b = 2 := by show ((2 : Int32) >>> ((0 : Int32) &&& 31)) = 2; decide
  have e3 : q_cpk (b.2.1 0 3) 2 16 = true := by
    unfold q_cpk
    rw [hN, q_lt_F (show (0 : Int32).toInt ≤ _ by show (0 : Int) ≤ _; omega), decide_eq_true (show n + 2 ≤ 16 from hn)]
    rfl
  unfold dz_B324_64_16 dz_B337_64_16
  rw [e2]
  unfold q_let
  dsimp only
  rw [q_b332 (by omega) (by omega), Option.bind_some]
  unfold dz_B343_64_16
  rw [show dz_B342_64_16 b = some b from rfl, Option.bind_some]
  have e4 : dz_B346_16_65 b (b.2.1 0 3) 0 = some (q_sA b 1 (va_cpy (fun j => q_o44.getD j 0) (b.1 1) 0 n 2)) := by
    show cond (q_cpk ((b.2.1 0 3) <<< ((0 : Int32) &&& 31)) 2 16) (some (q_sA b 1 (va_cpy (fun j => q_o44.getD j 0) (b.1 1) 0 (((b.2.1 0 3) <<< ((0 : Int32) &&& 31)).toNatClampNeg) 2))) none = _
    rw [q_sl0, e3, hN]
    rfl
  rw [e4]
  rfl
theorem q_w324_17 (h3 : (b.2.1 0 3).toInt = n) (hn : n + 3 ≤ 16) : dz_B324_64_17 b = some (q_sI (q_sA b 1 (va_cpy (fun j => q_o45.getD j 0) (b.1 1) 0 n 3)) 0 3 (b.2.1 0 3 + 3)) := by
  have e1 : (b.2.1 0 3 + 3).toInt = n + 3 := by rw [q_addI ⟨by omega, by omega⟩ ⟨by decide, by decide⟩, h3]; rfl
  have hN : (b.2.1 0 3).toNatClampNeg = n := by show (b.2.1 0 3).toInt.toNat = n; omega
  have e2 : dz_B344_17 b = 3 := by show ((3 : Int32) >>> ((0 : Int32) &&& 31)) = 3; decide
  have e3 : q_cpk (b.2.1 0 3) 3 16 = true := by
    unfold q_cpk
    rw [hN, q_lt_F (show (0 : Int32).toInt ≤ _ by show (0 : Int) ≤ _; omega), decide_eq_true (show n + 3 ≤ 16 from hn)]
    rfl
  unfold dz_B324_64_17 dz_B337_64_17
  rw [e2]
  unfold q_let
  dsimp only
  rw [q_b332 (by omega) (by omega), Option.bind_some]
  unfold dz_B343_64_17
  rw [show dz_B342_64_17 b = some b from rfl, Option.bind_some]
  have e4 : dz_B346_17_65 b (b.2.1 0 3) 0 = some (q_sA b 1 (va_cpy (fun j => q_o45.getD j 0) (b.1 1) 0 n 3)) := by
    show cond (q_cpk ((b.2.1 0 3) <<< ((0 : Int32) &&& 31)) 3 16) (some (q_sA b 1 (va_cpy (fun j => q_o45.getD j 0) (b.1 1) 0 (((b.2.1 0 3) <<< ((0 : Int32) &&& 31)).toNatClampNeg) 3))) none = _
    rw [q_sl0, e3, hN]
    rfl
  rw [e4]
  rfl
end
end
section
-- 56.ad
section
variable {TT : (Nat → Int32) → Int32 → (Nat → Int32) → Int32 → Int64 → Int64 → List Int32 → List (Nat → Int32) → (Nat → Int64) → Prop} {x y z m m2 b b2 : q_S} {c d w k : Int} {n : Nat}
theorem q_w324_18 (h3 : (b.2.1 0 3).toInt = n) (hn : n + 3 ≤ 16) : dz_B324_64_18 b = some (q_sI (q_sA b 1 (va_cpy (fun j => q_o46.getD j 0) (b.1 1) 0 n 3)) 0 3 (b.2.1 0 3 + 3)) := by
  have e1 : (b.2.1 0 3 + 3).toInt = n + 3 := by rw [q_addI ⟨by omega, by omega⟩ ⟨by decide, by decide⟩, h3]; rfl
  have hN : (b.2.1 0 3).toNatClampNeg = n := by show (b.2.1 0 3).toInt.toNat = n; omega
  have e2 : dz_B344_18 b = 3 := by show ((3 : Int32) >>> ((0 : Int32) &&& 31)) = 3; decide
  have e3 : q_cpk (b.2.1 0 3) 3 16 = true := by
    unfold q_cpk
    rw [hN, q_lt_F (show (0 : Int32).toInt ≤ _ by show (0 : Int) ≤ _; omega), decide_eq_true (show n + 3 ≤ 16 from hn)]
    rfl
  unfold dz_B324_64_18 dz_B337_64_18
  rw [e2]
  unfold q_let
  dsimp only
  rw [q_b332 (by omega) (by omega), Option.bind_some]
  unfold dz_B343_64_18
  rw [show dz_B342_64_18 b = some b from rfl, Option.bind_some]
  have e4 : dz_B346_18_65 b (b.2.1 0 3) 0 = some (q_sA b 1 (va_cpy (fun j => q_o46.getD j 0) (b.1 1) 0 n 3)) := by
    show cond (q_cpk ((b.2.1 0 3) <<< ((0 : Int32) &&& 31)) 3 16) (some (q_sA b 1 (va_cpy (fun j => q_o46.getD j 0) (b.1 1) 0 (((b.2.1 0 3) <<< ((0 : Int32) &&& 31)).toNatClampNeg) 3))) none = _
    rw [q_sl0, e3, hN]
    rfl
  rw [e4]
  rfl
/-- digits -/
theorem q_negI {v : Int32} (h : q_rgz 0 100000 v) : (-v).toInt = - v.toInt := by
  have h0 := h.1
  have h1 := h.2
  have z0 : (0 : Int32).toInt = 0 := rfl
  rw [← Int32.zero_sub, q_subI ⟨by decide, by decide⟩ ⟨by omega, by omega⟩]
  omega
theorem q_yt67 : ∀ j, j < 100 → q_chr (vp_nar .byte (q_o6.getD j 0)) = Int32.ofNat (48 + j % 10) ∧ q_chr (vp_nar .byte (q_o7.getD j 0)) = Int32.ofNat (48 + j / 10) := by decide +kernel
theorem q_yt48 : ∀ j, j < 10 → (((48 : Int32) + Int32.ofNat j).toUInt32 % 65536).toInt32 = Int32.ofNat (48 + j) ∧ q_rgz 0 127 (Int32.ofNat (48 + j)) := by
  unfold q_rgz
  decide +kernel
def q_dg (v : Int32) : Int32 := (((48 : Int32) + (v - v / 10 * 10)).toUInt32 % 65536).toInt32
theorem q_dgI {v : Int32} (h0 : 0 ≤ v.toInt) : q_dg v = Int32.ofNat (48 + v.toInt.toNat % 10) ∧ q_rgz 0 127 (q_dg v) := by
  have e : (v - v / 10 * 10).toInt = v.toInt % 10 := q_rem_eq h0 (by decide)
  have t := q_yt48 (v.toInt.toNat % 10) (by omega)
  have e2 : v - v / 10 * 10 = Int32.ofNat (v.toInt.toNat % 10) := by
    apply Int32.toInt_inj.mp
    rw [e, Int32.toInt_ofNat_of_lt (by omega)]
    omega
  unfold q_dg
  rw [e2]
  exact ⟨t.1, by rw [t.1]; exact t.2⟩
theorem q_281a {v : Int32} (f : Nat) (h : v.toInt < 10) : dzr_M281_64 (f + 1) z v = (dz_M280_64 z (q_dg v)).bind fun r => some r := by
  rw [dzs_M281_64]
  dsimp only
  rw [q_lt_T (show v.toInt < (10 : Int32).toInt from h)]
  rfl
theorem q_281b {v : Int32} (f : Nat) (h : 10 ≤ v.toInt) : dzr_M281_64 (f + 1) z v = (dzr_M281_64 f z (v / 10)).bind fun r2 => (dz_M280_64 r2 (q_dg v)).bind fun r => some r := by
  rw [dzs_M281_64]
  dsimp only
  rw [q_lt_F (show (10 : Int32).toInt ≤ v.toInt from h)]
  rfl
theorem q_div10 {v : Int32} (h : 0 ≤ v.toInt) : (v / 10).toInt = v.toInt / 10 := q_toInt_div h (by decide)
theorem q_321s {v v2 v3 v1 : Int32} (f : Nat) (h : v3.toInt < 10) : dz_B321_16 (f + 1) b v v1 v2 v3 = cond (decide (v2 < v)) (some (v3 + v1)) (dz_B321_16 f b v v1 (10 * v2) (v3 + 1)) := by
  rw [dzs_B321_16]
  dsimp only
  rw [q_lt_T (show v3.toInt < (10 : Int32).toInt from h)]
  rfl
/-- how many digits -/
theorem q_321 {v : Int32} (h : q_rgz 0 4095 v) : dz_B321 b v = some (if v.toInt < 10 then 1 else if v.toInt < 100 then 2 else if v.toInt < 1000 then 3 else 4) := by
  have h0 := h.1
  have h1 := h.2
  have z0 : (0 : Int32).toInt = 0 := rfl
  have en := q_negI (q_rg_le h (Int.le_refl _) (by decide))
  have key : ∀ f, dz_B321_16 (f + 4) b (-v) 0 (-10) 1 = some (if v.toInt < 10 then 1 else if v.toInt < 100 then 2 else if v.toInt < 1000 then 3 else 4) := by
    intro f
    rw [q_321s (f + 3) (by decide)]
    by_cases c1 : v.toInt < 10
    · rw [q_lt_T (show (-10 : Int32).toInt < (-v).toInt by show (-10 : Int) < _; omega), if_pos c1]
      rfl
    rw [q_lt_F (show (-v).toInt ≤ (-10 : Int32).toInt by show _ ≤ (-10 : Int); omega), if_neg c1, cond_false, show (10 : Int32) * (-10) = -100 by decide, show (1 : Int32) + 1 = 2 by decide, q_321s (f + 2) (by decide)]
    by_cases c2 : v.toInt < 100
    · rw [q_lt_T (show (-100 : Int32).toInt < (-v).toInt by show (-100 : Int) < _; omega), if_pos c2]
      rfl
    rw [q_lt_F (show (-v).toInt ≤ (-100 : Int32).toInt by show _ ≤ (-100 : Int); omega), if_neg c2, cond_false, show (10 : Int32) * (-100) = -1000 by decide, show (2 : Int32) + 1 = 3 by decide, q_321s (f + 1) (by decide)]
    by_cases c3 : v.toInt < 1000
    · rw [q_lt_T (show (-1000 : Int32).toInt < (-v).toInt by show (-1000 : Int) < _; omega), if_pos c3]
      rfl
    rw [q_lt_F (show (-v).toInt ≤ (-1000 : Int32).toInt by show _ ≤ (-1000 : Int); omega), if_neg c3, cond_false, show (10 : Int32) * (-1000) = -10000 by decide, show (3 : Int32) + 1 = 4 by decide, q_321s f (by decide)]
    rw [q_lt_T (show (-10000 : Int32).toInt < (-v).toInt by show (-10000 : Int) < _; omega)]
    rfl
  unfold dz_B321
  rw [q_lt_F (by omega)]
  exact key 4996
/-- the last two digits, by tables -/
def q_yb1 (b : q_S) (e : Nat) (j : Nat) : q_S := q_sA b 1 (upd (b.1 1) e (vp_nar .byte (q_o6.getD j 0)))
def q_yb2 (b : q_S) (e : Nat) (j : Nat) : q_S := q_sA (q_yb1 b (e + 1) j) 1 (upd ((q_yb1 b (e + 1) j).1 1) e (vp_nar .byte (q_o7.getD j 0)))
end
end
section
-- 56.ae
section
variable {TT : (Nat → Int32) → Int32 → (Nat → Int32) → Int32 → Int64 → Int64 → List Int32 → List (Nat → Int32) → (Nat → Int64) → Prop} {x y z m m2 b b2 : q_S} {c d w k : Int} {n : Nat}
theorem q_ym1 {e : Int32} {p : Nat} (h : e.toInt = p + 1) (hp : p ≤ 1000) : (e + (-1)).toInt = p ∧ (e + (-1)).toNatClampNeg = p := by
  have a : (e + (-1)).toInt = p := by
    rw [q_addI ⟨by omega, by omega⟩ ⟨by decide, by decide⟩, h]
    show (p : Int) + 1 + (-1) = p
    omega
  exact ⟨a, by show (e + (-1)).toInt.toNat = p; omega⟩
theorem q_320a {v e : Int32} {p : Nat} (f : Nat) (h : q_rgz 0 9 v) (he : e.toInt = p + 1) (hp : p < 16) : ∃ e2, dz_B320_65_22 (f + 1) b (-v) e 0 = some (q_yb1 b p v.toInt.toNat, e2) := by
  have h0 := h.1
  have h1 := h.2
  have en := q_negI (q_rg_le h (Int.le_refl _) (by decide))
  obtain ⟨a1, a2⟩ := q_ym1 he (by omega)
  refine ⟨e + (-1), ?_⟩
  rw [dzs_B320_65_22]
  unfold q_let
  dsimp only
  rw [q_lt_T (show (-100 : Int32).toInt < (-v).toInt by show (-100 : Int) < _; omega), q_lt_F (show (-9 : Int32).toInt ≤ (-v).toInt by show (-9 : Int) ≤ _; omega), Int32.neg_neg, q_in_rg h (by decide) (by decide), q_in_rg (x := e + (-1)) (l := p) (u := p) ⟨by omega, by omega⟩ (by omega) (by omega), a2]
  rfl
theorem q_320b {v e : Int32} {p : Nat} (f : Nat) (h : q_rgz 10 99 v) (he : e.toInt = p + 2) (hp : p + 1 < 16) : ∃ e2, dz_B320_65_22 (f + 1) b (-v) e 0 = some (q_yb2 b p v.toInt.toNat, e2) := by
  have h0 := h.1
  have h1 := h.2
  have en := q_negI (q_rg_le h (by decide) (by decide))
  obtain ⟨a1, a2⟩ := q_ym1 (p := p + 1) (e := e) (by omega) (by omega)
  obtain ⟨a3, a4⟩ := q_ym1 (p := p) (e := e + (-1)) (by omega) (by omega)
  refine ⟨e + (-1) + (-1), ?_⟩
  rw [dzs_B320_65_22]
  unfold q_let
  dsimp only
  rw [q_lt_T (show (-100 : Int32).toInt < (-v).toInt by show (-100 : Int) < _; omega), q_lt_T (show (-v).toInt < (-9 : Int32).toInt by show _ < (-9 : Int); omega), Int32.neg_neg, q_in_rg h (by decide) (by decide), q_in_rg (x := e + (-1)) (l := p + 1) (u := p + 1) ⟨by omega, by omega⟩ (by omega) (by omega), q_in_rg (x := e + (-1) + (-1)) (l := p) (u := p) ⟨by omega, by omega⟩ (by omega) (by omega), a2, a4]
  rfl
theorem q_320c {v e : Int32} {p : Nat} (f : Nat) (h : q_rgz 100 4095 v) (he : e.toInt = p + 2) (hp : p + 1 < 16) : dz_B320_65_22 (f + 1) b (-v) e 0 = dz_B320_65_22 f (q_yb2 b p (v.toInt.toNat % 100)) (-(v / 100)) (e + (-1) + (-1)) 0 := by
  have h0 := h.1
  have h1 := h.2
  have en := q_negI (q_rg_le h (by decide) (by decide))
  have ed : (v / 100).toInt = v.toInt / 100 := q_toInt_div (by omega) (by decide)
  have en2 := q_negI (v := v / 100) ⟨by omega, by omega⟩
  have eq : (-v) / 100 = -(v / 100) := by
    apply Int32.toInt_inj.mp
    rw [Int32.toInt_div_of_ne_right _ _ (by decide), en, en2, ed, Int.neg_tdiv, show (100 : Int32).toInt = 100 from rfl, Int.tdiv_eq_ediv_of_nonneg (by omega)]
  have em : ((-(v / 100)) * 100).toInt = -(v.toInt / 100) * 100 := by
    rw [Int32.mul_comm, q_mulI (n := 100) rfl (by decide) (by decide) ⟨by omega, by omega⟩, en2, ed]
    omega
  have ex : ((-(v / 100)) * 100 - (-v)).toInt = v.toInt % 100 := by
    rw [q_subI ⟨by omega, by omega⟩ ⟨by omega, by omega⟩, em, en]
    omega
  have ek : ((-(v / 100)) * 100 - (-v)).toNatClampNeg = v.toInt.toNat % 100 := by
    show ((-(v / 100)) * 100 - (-v)).toInt.toNat = _
    omega
  obtain ⟨a1, a2⟩ := q_ym1 (p := p + 1) (e := e) (by omega) (by omega)
  obtain ⟨a3, a4⟩ := q_ym1 (p := p) (e := e + (-1)) (by omega) (by omega)
  rw [dzs_B320_65_22]
  unfold q_let
  generalize dz_B320_65_22 f = kk
  dsimp only
  rw [q_lt_F (show (-v).toInt ≤ (-100 : Int32).toInt by show _ ≤ (-100 : Int); omega), eq, q_in_rg (x := (-(v / 100)) * 100 - (-v)) (l := 0) (u := 99) ⟨by omega, by omega⟩ (by decide) (by decide), q_in_rg (x := e + (-1)) (l := p + 1) (u := p + 1) ⟨by omega, by omega⟩ (by omega) (by omega), q_in_rg (x := e + (-1) + (-1)) (l := p) (u := p) ⟨by omega, by omega⟩ (by omega) (by omega), a2, a4, ek]
  rfl
theorem q_yw326 {v : Int32} {k : Int32} {b2 : q_S} {e2 : Int32} (hv : 0 ≤ v.toInt) (h1 : dz_B321 b v = some k) (h0 : 0 ≤ (b.2.1 0 3 + k).toInt) (h2 : (b.2.1 0 3 + k).toInt ≤ 16) (h3 : dz_B320_65_22 5000 b (-v) (b.2.1 0 3 + k) 0 = some (b2, e2)) : dz_B326_64 b v = some (q_sI b2 0 3 (b.2.1 0 3 + k)) := by
  unfold dz_B326_64 dz_B340_64 q_let
  dsimp only
  rw [h1, Option.bind_some, q_b332 h0 h2, Option.bind_some]
  show ((cond true ((dz_B320_65 b v (b.2.1 0 3 + k)).bind fun r7 => some (q_sI r7.1 0 3 (b.2.1 0 3 + k))) none).bind fun r2 => some r2) = _
  unfold dz_B320_65
  rw [q_lt_F (show (0 : Int32).toInt ≤ v.toInt from hv), cond_false, h3]
  rfl
theorem q_wD1 (h : q_WL c d m n b z) (hn : n + 1 ≤ 16) (v : Int32) (hv : q_rgz 0 9 v) : ∃ b2 z2, dz_B326_64 b v = some b2 ∧ dz_M281_64 z v = some z2 ∧ q_WL c d m (n + 1) b2 z2 := by
  have v0 := hv.1
  have v1 := hv.2
  have h3 := h.2.2.1
  have eL : (b.2.1 0 3 + 1).toInt = n + 1 := by rw [q_addI ⟨by omega, by omega⟩ ⟨by decide, by decide⟩, h3]; rfl
  have e321 := q_321 (b := b) (v := v) ⟨by omega, by omega⟩
  rw [if_pos (show v.toInt < 10 by omega)] at e321
  obtain ⟨g0, r0⟩ := q_dgI (v := v) (by omega)
  obtain ⟨-, m0, w0⟩ := q_wC h (by omega) (q_dg v) r0
  obtain ⟨e2, c1⟩ := q_320a (b := b) (v := v) (e := b.2.1 0 3 + 1) (p := n) 4999 ⟨by omega, by omega⟩ (by omega) (by omega)
  refine ⟨_, _, q_yw326 (by omega) e321 (by omega) (by omega) c1, ?_, q_WLt w0 (by show (b.2.1 0 3 + 1).toInt = ((n + 1 : Nat) : Int); omega) fun i hi => ?_⟩
  · unfold dz_M281_64
    rw [q_281a 13 (by omega), m0]
    rfl
  · show q_chr ((upd (b.1 1) n (vp_nar .byte (q_o6.getD v.toInt.toNat 0))) i) = (upd (z.1 32) (n) (q_dg v)) i
    rcases (by omega : i < n ∨ i = n) with q | q
    · simp only [upd, if_neg (show ¬ i = n by omega)]
      exact h.2.2.2.2 i q
    · simp only [upd, if_pos (show i = n by omega)]
      rw [(q_yt67 v.toInt.toNat (by omega)).1, g0]
end
end
section
-- 56.af
section
variable {TT : (Nat → Int32) → Int32 → (Nat → Int32) → Int32 → Int64 → Int64 → List Int32 → List (Nat → Int32) → (Nat → Int64) → Prop} {x y z m m2 b b2 : q_S} {c d w k : Int} {n : Nat}
theorem q_wD2 (h : q_WL c d m n b z) (hn : n + 2 ≤ 16) (v : Int32) (hv : q_rgz 10 99 v) : ∃ b2 z2, dz_B326_64 b v = some b2 ∧ dz_M281_64 z v = some z2 ∧ q_WL c d m (n + 2) b2 z2 := by
  have v0 := hv.1
  have v1 := hv.2
  have h3 := h.2.2.1
  have eL : (b.2.1 0 3 + 2).toInt = n + 2 := by rw [q_addI ⟨by omega, by omega⟩ ⟨by decide, by decide⟩, h3]; rfl
  have e321 := q_321 (b := b) (v := v) ⟨by omega, by omega⟩
  rw [if_neg (show ¬ v.toInt < 10 by omega), if_pos (show v.toInt < 100 by omega)] at e321
  have d1 : (v / 10).toInt = v.toInt / 10 := q_div10 (by omega)
  obtain ⟨g0, r0⟩ := q_dgI (v := v) (by omega)
  obtain ⟨g1, r1⟩ := q_dgI (v := v / 10) (by omega)
  obtain ⟨-, m0, w0⟩ := q_wC h (by omega) (q_dg (v / 10)) r1
  obtain ⟨-, m1, w1⟩ := q_wC w0 (by omega) (q_dg v) r0
  obtain ⟨e2, c1⟩ := q_320b (b := b) (v := v) (e := b.2.1 0 3 + 2) (p := n) 4999 ⟨by omega, by omega⟩ (by omega) (by omega)
  refine ⟨_, _, q_yw326 (by omega) e321 (by omega) (by omega) c1, ?_, q_WLt w1 (by show (b.2.1 0 3 + 2).toInt = ((n + 2 : Nat) : Int); omega) fun i hi => ?_⟩
  · unfold dz_M281_64
    rw [q_281b 13 (by omega), q_281a 12 (by omega)]
    rw [m0]
    simp only [Option.bind_some, m0, m1]
  · show q_chr ((upd (upd (b.1 1) (n + 1) (vp_nar .byte (q_o6.getD v.toInt.toNat 0))) n (vp_nar .byte (q_o7.getD v.toInt.toNat 0))) i) = (upd (upd (z.1 32) (n) (q_dg (v / 10))) (n + 1) (q_dg v)) i
    rcases (by omega : i < n ∨ i = n ∨ i = n + 1) with q | q | q
    · simp only [upd, if_neg (show ¬ i = n by omega), if_neg (show ¬ i = n + 1 by omega)]
      exact h.2.2.2.2 i q
    · simp only [upd, if_pos (show i = n by omega), if_neg (show ¬ i = n + 1 by omega)]
      rw [(q_yt67 v.toInt.toNat (by omega)).2, g1]
      exact congrArg (fun j => Int32.ofNat (48 + j)) (show v.toInt.toNat / 10 = (v / 10).toInt.toNat % 10 by omega)
    · simp only [upd, if_neg (show ¬ i = n by omega), if_pos (show i = n + 1 by omega)]
      rw [(q_yt67 v.toInt.toNat (by omega)).1, g0]
theorem q_dgs {v : Int32} (h0 : 0 ≤ v.toInt) : (v / 10).toInt = v.toInt / 10 ∧ (v / 10 / 10).toInt = v.toInt / 100 ∧ (v / 10 / 10 / 10).toInt = v.toInt / 1000 := by
  have d1 : (v / 10).toInt = v.toInt / 10 := q_div10 h0
  have d2 : (v / 10 / 10).toInt = v.toInt / 100 := by rw [q_div10 (by omega), d1]; omega
  refine ⟨d1, d2, ?_⟩
  rw [q_div10 (by omega), d2]
  omega
theorem q_dg0 {v : Int32} (h0 : 0 ≤ v.toInt) : q_dg v = Int32.ofNat (48 + v.toInt.toNat % 10) ∧ q_rgz 0 127 (q_dg v) := q_dgI h0
theorem q_dg1 {v : Int32} (h0 : 0 ≤ v.toInt) : q_dg (v / 10) = Int32.ofNat (48 + v.toInt.toNat / 10 % 10) ∧ q_rgz 0 127 (q_dg (v / 10)) := by
  obtain ⟨d1, -⟩ := q_dgs h0
  have t := q_dgI (v := v / 10) (by omega)
  rw [show (v / 10).toInt.toNat = v.toInt.toNat / 10 by omega] at t
  exact t
theorem q_dg2 {v : Int32} (h0 : 0 ≤ v.toInt) : q_dg (v / 10 / 10) = Int32.ofNat (48 + v.toInt.toNat / 100 % 10) ∧ q_rgz 0 127 (q_dg (v / 10 / 10)) := by
  obtain ⟨-, d2, -⟩ := q_dgs h0
  have t := q_dgI (v := v / 10 / 10) (by omega)
  rw [show (v / 10 / 10).toInt.toNat = v.toInt.toNat / 100 by omega] at t
  exact t
theorem q_dg3 {v : Int32} (h0 : 0 ≤ v.toInt) : q_dg (v / 10 / 10 / 10) = Int32.ofNat (48 + v.toInt.toNat / 1000 % 10) ∧ q_rgz 0 127 (q_dg (v / 10 / 10 / 10)) := by
  obtain ⟨-, -, d3⟩ := q_dgs h0
  have t := q_dgI (v := v / 10 / 10 / 10) (by omega)
  rw [show (v / 10 / 10 / 10).toInt.toNat = v.toInt.toNat / 1000 by omega] at t
  exact t
theorem q_281_3 {v : Int32} {z1 z2 z3 : q_S} (h0 : 100 ≤ v.toInt) (h1 : v.toInt ≤ 999) (m0 : dz_M280_64 z (q_dg (v / 10 / 10)) = some z1) (m1 : dz_M280_64 z1 (q_dg (v / 10)) = some z2) (m2 : dz_M280_64 z2 (q_dg v) = some z3) (f : Nat) : dzr_M281_64 (f + 3) z v = some z3 := by
  obtain ⟨d1, d2, -⟩ := q_dgs (v := v) (by omega)
  rw [q_281b (f + 2) (by omega), q_281b (f + 1) (by omega), q_281a f (by omega), m0]
  simp only [Option.bind_some, m1, m2]
theorem q_281_4 {v : Int32} {z1 z2 z3 z4 : q_S} (h0 : 1000 ≤ v.toInt) (h1 : v.toInt ≤ 9999) (m0 : dz_M280_64 z (q_dg (v / 10 / 10 / 10)) = some z1) (m1 : dz_M280_64 z1 (q_dg (v / 10 / 10)) = some z2) (m2 : dz_M280_64 z2 (q_dg (v / 10)) = some z3) (m3 : dz_M280_64 z3 (q_dg v) = some z4) (f : Nat) : dzr_M281_64 (f + 4) z v = some z4 := by
  obtain ⟨d1, d2, d3⟩ := q_dgs (v := v) (by omega)
  rw [q_281b (f + 3) (by omega), q_281b (f + 2) (by omega), q_281b (f + 1) (by omega), q_281a f (by omega), m0]
  simp only [Option.bind_some, m1, m2, m3]
theorem q_320_3 {v e : Int32} {p : Nat} (f : Nat) (h : q_rgz 100 999 v) (he : e.toInt = p + 3) (hp : p + 2 < 16) : ∃ e2, dz_B320_65_22 (f + 2) b (-v) e 0 = some (q_yb1 (q_yb2 b (p + 1) (v.toInt.toNat % 100)) p (v.toInt.toNat / 100), e2) := by
  have h0 := h.1
  have h1 := h.2
  have dh : (v / 100).toInt = v.toInt / 100 := q_toInt_div (by omega) (by decide)
  have c0 := q_320c (b := b) (v := v) (e := e) (p := p + 1) (f + 1) ⟨h0, by omega⟩ (by omega) (by omega)
  obtain ⟨a1, -⟩ := q_ym1 (p := p + 1 + 1) (e := e) (by omega) (by omega)
  obtain ⟨a3, -⟩ := q_ym1 (p := p + 1) (e := e + (-1)) a1 (by omega)
  obtain ⟨e2, c1⟩ := q_320a (b := q_yb2 b (p + 1) (v.toInt.toNat % 100)) (v := v / 100) (e := e + (-1) + (-1)) (p := p) f ⟨by omega, by omega⟩ a3 (by omega)
  rw [show (v / 100).toInt.toNat = v.toInt.toNat / 100 by omega] at c1
  exact ⟨e2, c0.trans c1⟩
theorem q_320_4 {v e : Int32} {p : Nat} (f : Nat) (h : q_rgz 1000 4095 v) (he : e.toInt = p + 4) (hp : p + 3 < 16) : ∃ e2, dz_B320_65_22 (f + 2) b (-v) e 0 = some (q_yb2 (q_yb2 b (p + 2) (v.toInt.toNat % 100)) p (v.toInt.toNat / 100), e2) := by
  have h0 := h.1
  have h1 := h.2
  have dh : (v / 100).toInt = v.toInt / 100 := q_toInt_div (by omega) (by decide)
  have c0 := q_320c (b := b) (v := v) (e := e) (p := p + 2) (f + 1) ⟨by omega, by omega⟩ (by omega) (by omega)
  obtain ⟨a1, -⟩ := q_ym1 (p := p + 2 + 1) (e := e) (by omega) (by omega)
  obtain ⟨a3, -⟩ := q_ym1 (p := p + 2) (e := e + (-1)) a1 (by omega)
  obtain ⟨e2, c1⟩ := q_320b (b := q_yb2 b (p + 2) (v.toInt.toNat % 100)) (v := v / 100) (e := e + (-1) + (-1)) (p := p) f ⟨by omega, by omega⟩ a3 (by omega)
  rw [show (v / 100).toInt.toNat = v.toInt.toNat / 100 by omega] at c1
  exact ⟨e2, c0.trans c1⟩
theorem q_nd1 (N : Nat) : N % 100 / 10 = N / 10 % 10 := by omega
theorem q_nd2 (N : Nat) : N % 100 % 10 = N % 10 := by omega
theorem q_nd3 (N : Nat) : N / 100 / 10 = N / 1000 := by omega
theorem q_cg {a c : Nat} (h : a = c) : Int32.ofNat (48 + a) = Int32.ofNat (48 + c) := by rw [h]
end
end
section
-- 56.ag
section
variable {TT : (Nat → Int32) → Int32 → (Nat → Int32) → Int32 → Int64 → Int64 → List Int32 → List (Nat → Int32) → (Nat → Int64) → Prop} {x y z m m2 b b2 : q_S} {c d w k : Int} {n : Nat}
theorem q_wD3 (h : q_WL c d m n b z) (hn : n + 3 ≤ 16) (v : Int32) (hv : q_rgz 100 999 v) : ∃ b2 z2, dz_B326_64 b v = some b2 ∧ dz_M281_64 z v = some z2 ∧ q_WL c d m (n + 3) b2 z2 := by
  have v0 := hv.1
  have v1 := hv.2
  have vp : 0 ≤ v.toInt := by omega
  have h3 := h.2.2.1
  have eL : (b.2.1 0 3 + 3).toInt = n + 3 := by rw [q_addI ⟨by omega, by omega⟩ ⟨by decide, by decide⟩, h3]; rfl
  have e321 := q_321 (b := b) (v := v) ⟨vp, by omega⟩
  rw [if_neg (show ¬ v.toInt < 10 by omega), if_neg (show ¬ v.toInt < 100 by omega), if_pos (show v.toInt < 1000 by omega)] at e321
  obtain ⟨g0, r0⟩ := q_dg0 vp
  obtain ⟨g1, r1⟩ := q_dg1 vp
  obtain ⟨g2, r2⟩ := q_dg2 vp
  obtain ⟨-, m0, w0⟩ := q_wC h (by omega) (q_dg (v / 10 / 10)) r2
  obtain ⟨-, m1, w1⟩ := q_wC w0 (by omega) (q_dg (v / 10)) r1
  obtain ⟨-, m2, w2⟩ := q_wC w1 (by omega) (q_dg (v)) r0
  obtain ⟨e2, c1⟩ := q_320_3 (b := b) (v := v) (e := b.2.1 0 3 + 3) (p := n) 4998 hv eL (by omega)
  have lt : v.toInt.toNat / 100 < 100 := by omega
  have l2 : v.toInt.toNat % 100 < 100 := Nat.mod_lt _ (by decide)
  have l3 : v.toInt.toNat / 100 < 10 := by omega
  have t1 := q_yt67 _ l2
  have t2 := q_yt67 _ lt
  refine ⟨_, _, q_yw326 vp e321 (by omega) (by omega) c1, q_281_3 v0 (by omega) m0 m1 m2 11, q_WLt w2 (by show (b.2.1 0 3 + 3).toInt = ((n + 3 : Nat) : Int); omega) fun i hi => ?_⟩
  show q_chr ((upd (upd (upd (b.1 1) (n + 1 + 1) (vp_nar .byte (q_o6.getD (v.toInt.toNat % 100) 0))) (n + 1) (vp_nar .byte (q_o7.getD (v.toInt.toNat % 100) 0))) n (vp_nar .byte (q_o6.getD (v.toInt.toNat / 100) 0))) i) = (upd (upd (upd (z.1 32) (n) (q_dg (v / 10 / 10))) (n + 1) (q_dg (v / 10))) (n + 1 + 1) (q_dg (v))) i
  clear c1 e321 m0 m1 m2
  have hq : i < n ∨ i = n ∨ i = n + 1 ∨ i = n + 2 := by clear eL v0 v1 vp h3 lt l2 l3; omega
  clear eL v0 v1 vp h3
  rcases hq with q | q | q | q
  · simp only [upd, if_neg (show ¬ i = n by clear lt l2 l3; omega), if_neg (show ¬ i = n + 1 by clear lt l2 l3; omega), if_neg (show ¬ i = n + 1 + 1 by clear lt l2 l3; omega), if_neg (show ¬ i = n + 2 by clear lt l2 l3; omega)]
    exact h.2.2.2.2 i q
  · simp only [upd, if_pos (show i = n by clear lt l2 l3; omega), if_neg (show ¬ i = n + 1 by clear lt l2 l3; omega), if_neg (show ¬ i = n + 1 + 1 by clear lt l2 l3; omega), if_neg (show ¬ i = n + 2 by clear lt l2 l3; omega)]
    rw [t2.1, g2]
  · simp only [upd, if_neg (show ¬ i = n by clear lt l2 l3; omega), if_pos (show i = n + 1 by clear lt l2 l3; omega), if_neg (show ¬ i = n + 1 + 1 by clear lt l2 l3; omega), if_neg (show ¬ i = n + 2 by clear lt l2 l3; omega)]
    rw [t1.2, g1]
    exact q_cg (q_nd1 _)
  · simp only [upd, if_neg (show ¬ i = n by clear lt l2 l3; omega), if_neg (show ¬ i = n + 1 by clear lt l2 l3; omega), if_pos (show i = n + 1 + 1 by clear lt l2 l3; omega), if_pos (show i = n + 2 by clear lt l2 l3; omega)]
    rw [t1.1, g0]
    exact q_cg (q_nd2 _)
theorem q_wD4 (h : q_WL c d m n b z) (hn : n + 4 ≤ 16) (v : Int32) (hv : q_rgz 1000 4095 v) : ∃ b2 z2, dz_B326_64 b v = some b2 ∧ dz_M281_64 z v = some z2 ∧ q_WL c d m (n + 4) b2 z2 := by
  have v0 := hv.1
  have v1 := hv.2
  have vp : 0 ≤ v.toInt := by omega
  have h3 := h.2.2.1
  have eL : (b.2.1 0 3 + 4).toInt = n + 4 := by rw [q_addI ⟨by omega, by omega⟩ ⟨by decide, by decide⟩, h3]; rfl
  have e321 := q_321 (b := b) (v := v) ⟨vp, by omega⟩
  rw [if_neg (show ¬ v.toInt < 10 by omega), if_neg (show ¬ v.toInt < 100 by omega), if_neg (show ¬ v.toInt < 1000 by omega)] at e321
  obtain ⟨g0, r0⟩ := q_dg0 vp
  obtain ⟨g1, r1⟩ := q_dg1 vp
  obtain ⟨g2, r2⟩ := q_dg2 vp
  obtain ⟨g3, r3⟩ := q_dg3 vp
  obtain ⟨-, m0, w0⟩ := q_wC h (by omega) (q_dg (v / 10 / 10 / 10)) r3
  obtain ⟨-, m1, w1⟩ := q_wC w0 (by omega) (q_dg (v / 10 / 10)) r2
  obtain ⟨-, m2, w2⟩ := q_wC w1 (by omega) (q_dg (v / 10)) r1
  obtain ⟨-, m3, w3⟩ := q_wC w2 (by omega) (q_dg (v)) r0
  obtain ⟨e2, c1⟩ := q_320_4 (b := b) (v := v) (e := b.2.1 0 3 + 4) (p := n) 4998 hv eL (by omega)
  have lt : v.toInt.toNat / 100 < 100 := by omega
  have l2 : v.toInt.toNat % 100 < 100 := Nat.mod_lt _ (by decide)
  have l3 : v.toInt.toNat / 100 < 100 := by omega
  have t1 := q_yt67 _ l2
  have t2 := q_yt67 _ lt
  refine ⟨_, _, q_yw326 vp e321 (by omega) (by omega) c1, q_281_4 v0 (by omega) m0 m1 m2 m3 10, q_WLt w3 (by show (b.2.1 0 3 + 4).toInt = ((n + 4 : Nat) : Int); omega) fun i hi => ?_⟩
  show q_chr ((upd (upd (upd (upd (b.1 1) (n + 2 + 1) (vp_nar .byte (q_o6.getD (v.toInt.toNat % 100) 0))) (n + 2) (vp_nar .byte (q_o7.getD (v.toInt.toNat % 100) 0))) (n + 1) (vp_nar .byte (q_o6.getD (v.toInt.toNat / 100) 0))) n (vp_nar .byte (q_o7.getD (v.toInt.toNat / 100) 0))) i) = (upd (upd (upd (upd (z.1 32) (n) (q_dg (v / 10 / 10 / 10))) (n + 1) (q_dg (v / 10 / 10))) (n + 1 + 1) (q_dg (v / 10))) (n + 1 + 1 + 1) (q_dg (v))) i
  clear c1 e321 m0 m1 m2 m3
  have hq : i < n ∨ i = n ∨ i = n + 1 ∨ i = n + 2 ∨ i = n + 3 := by clear eL v0 v1 vp h3 lt l2 l3; omega
  clear eL v0 v1 vp h3
  rcases hq with q | q | q | q | q
  · simp only [upd, if_neg (show ¬ i = n by clear lt l2 l3; omega), if_neg (show ¬ i = n + 1 by clear lt l2 l3; omega), if_neg (show ¬ i = n + 1 + 1 by clear lt l2 l3; omega), if_neg (show ¬ i = n + 2 by clear lt l2 l3; omega), if_neg (show ¬ i = n + 1 + 1 + 1 by clear lt l2 l3; omega), if_neg (show ¬ i = n + 2 + 1 by clear lt l2 l3; omega), if_neg (show ¬ i = n + 3 by clear lt l2 l3; omega)]
    exact h.2.2.2.2 i q
  · simp only [upd, if_pos (show i = n by clear lt l2 l3; omega), if_neg (show ¬ i = n + 1 by clear lt l2 l3; omega), if_neg (show ¬ i = n + 1 + 1 by clear lt l2 l3; omega), if_neg (show ¬ i = n + 2 by clear lt l2 l3; omega), if_neg (show ¬ i = n + 1 + 1 + 1 by clear lt l2 l3; omega), if_neg (show ¬ i = n + 2 + 1 by clear lt l2 l3; omega), if_neg (show ¬ i = n + 3 by clear lt l2 l3; omega)]
    rw [t2.2, g3]
    exact q_cg (by rw [q_nd3, Nat.mod_eq_of_lt (by omega)])
  · simp only [upd, if_neg (show ¬ i = n by clear lt l2 l3; omega), if_pos (show i = n + 1 by clear lt l2 l3; omega), if_neg (show ¬ i = n + 1 + 1 by clear lt l2 l3; omega), if_neg (show ¬ i = n + 2 by clear lt l2 l3; omega), if_neg (show ¬ i = n + 1 + 1 + 1 by clear lt l2 l3; omega), if_neg (show ¬ i = n + 2 + 1 by clear lt l2 l3; omega), if_neg (show ¬ i = n + 3 by clear lt l2 l3; omega)]
    rw [t2.1, g2]
  · simp only [upd, if_neg (show ¬ i = n by clear lt l2 l3; omega), if_neg (show ¬ i = n + 1 by clear lt l2 l3; omega), if_pos (show i = n + 1 + 1 by clear lt l2 l3; omega), if_pos (show i = n + 2 by clear lt l2 l3; omega), if_neg (show ¬ i = n + 1 + 1 + 1 by clear lt l2 l3; omega), if_neg (show ¬ i = n + 2 + 1 by clear lt l2 l3; omega), if_neg (show ¬ i = n + 3 by clear lt l2 l3; omega)]
    rw [t1.2, g1]
    exact q_cg (q_nd1 _)
  · simp only [upd, if_neg (show ¬ i = n by clear lt l2 l3; omega), if_neg (show ¬ i = n + 1 by clear lt l2 l3; omega), if_neg (show ¬ i = n + 1 + 1 by clear lt l2 l3; omega), if_neg (show ¬ i = n + 2 by clear lt l2 l3; omega), if_pos (show i = n + 1 + 1 + 1 by clear lt l2 l3; omega), if_pos (show i = n + 2 + 1 by clear lt l2 l3; omega), if_pos (show i = n + 3 by clear lt l2 l3; omega)]
    rw [t1.1, g0]
    exact q_cg (q_nd2 _)
end
end
section
-- 56.ah
section
variable {TT : (Nat → Int32) → Int32 → (Nat → Int32) → Int32 → Int64 → Int64 → List Int32 → List (Nat → Int32) → (Nat → Int64) → Prop} {x y z m m2 b b2 : q_S} {c d w k : Int} {n : Nat}
/-- a number -/
theorem q_wD (h : q_WL c d m n b z) (v : Int32) (hv : q_rgz 0 4095 v) (hn : n + 4 ≤ 16 ∨ v.toInt ≤ 255 ∧ n + 3 ≤ 16) : ∃ b2 z2 n2, dz_B326_64 b v = some b2 ∧ dz_M281_64 z v = some z2 ∧ q_WL c d m n2 b2 z2 ∧ n2 ≤ n + 4 ∧ (v.toInt ≤ 255 → n2 ≤ n + 3) := by
  have v0 := hv.1
  have v1 := hv.2
  by_cases c1 : v.toInt < 10
  · obtain ⟨b2, z2, e1, e2, e3⟩ := q_wD1 h (by omega) v ⟨by omega, by omega⟩
    exact ⟨b2, z2, _, e1, e2, e3, by omega, fun _ => by omega⟩
  by_cases c2 : v.toInt < 100
  · obtain ⟨b2, z2, e1, e2, e3⟩ := q_wD2 h (by omega) v ⟨by omega, by omega⟩
    exact ⟨b2, z2, _, e1, e2, e3, by omega, fun _ => by omega⟩
  by_cases c3 : v.toInt < 1000
  · obtain ⟨b2, z2, e1, e2, e3⟩ := q_wD3 h (by omega) v ⟨by omega, by omega⟩
    exact ⟨b2, z2, _, e1, e2, e3, by omega, fun _ => by omega⟩
  · obtain ⟨b2, z2, e1, e2, e3⟩ := q_wD4 h (by omega) v ⟨by omega, by omega⟩
    exact ⟨b2, z2, _, e1, e2, e3, by omega, fun q => by omega⟩
end
end
section
-- 56.ba
section
variable {TT : (Nat → Int32) → Int32 → (Nat → Int32) → Int32 → Int64 → Int64 → List Int32 → List (Nat → Int32) → (Nat → Int64) → Prop} {x y z m m2 b b2 : q_S} {c d w k : Int} {n : Nat}
theorem q_yt345 : ∀ j, j < 63 → dz_B345_12 q_s0 (Int32.ofNat j) = some (q_o4.getD j 0) ∧ q_rgz 0 127 (q_o4.getD j 0) := by
  unfold q_rgz
  decide +kernel
theorem q_yt345b : ∀ j, j < 120 → dz_B345_13 q_s0 (Int32.ofNat j) = some (q_o5.getD j 0) ∧ q_rgz 0 127 (q_o5.getD j 0) := by
  unfold q_rgz
  decide +kernel
/-- what the codes say of a line -/
theorem q_tlnA : ∀ j, j < 256 → (dz_M285 q_s0 (Int32.ofNat j) = true → dz_N190 q_s0 (Int32.ofNat j) = 1 ∧ dz_B185 q_s0 (Int32.ofNat j) = -1 ∧ decide (3 * (Int32.ofNat j - 128) < 0) = false ∧ decide (3 * (Int32.ofNat j - 128) + 2 < 120) = false) := by decide +kernel
theorem q_tlnB : ∀ j, j < 256 → (dz_M285 q_s0 (Int32.ofNat j) = false → decide (dz_M244 q_s0 (Int32.ofNat j) < 0) = true → dz_B185 q_s0 (Int32.ofNat j) = -1 ∧ decide (3 * (Int32.ofNat j - 128) < 0) = false ∧ decide (3 * (Int32.ofNat j - 128) + 2 < 120) = true ∧ (0 ≤ (3 * (Int32.ofNat j - 128)).toInt ∧ (3 * (Int32.ofNat j - 128)).toInt ≤ 117) ∧ 128 ≤ j ∧ j < 168) := by decide +kernel
theorem q_tlnC : ∀ j, j < 256 → (decide (dz_M244 q_s0 (Int32.ofNat j) < 0) = false → dz_B185 q_s0 (Int32.ofNat j) = dz_M244 q_s0 (Int32.ofNat j) ∧ decide (3 * dz_M244 q_s0 (Int32.ofNat j) < 0) = false ∧ decide (3 * dz_M244 q_s0 (Int32.ofNat j) + 2 < 63) = true ∧ 0 ≤ (3 * dz_M244 q_s0 (Int32.ofNat j)).toInt ∧ (3 * dz_M244 q_s0 (Int32.ofNat j)).toInt ≤ 60) := by decide +kernel
theorem q_tlnD : ∀ j, j < 256 → (decide (dz_M244 q_s0 (Int32.ofNat j) < 0) = false → dz_N187 q_s0 (Int32.ofNat j) = false ∧ dz_N196 q_s0 (Int32.ofNat j) = Int32.ofNat j - Int32.ofNat j / 8 * 8 ∧ dz_M285 q_s0 (Int32.ofNat j) = false ∧ dz_N190 q_s0 (Int32.ofNat j) = cond (dz_M202 q_s0 (Int32.ofNat j - Int32.ofNat j / 8 * 8) 3 5) 3 2) := by decide +kernel
theorem q_wL12 (h : q_WL c d m n b z) (hn : n + 3 ≤ 16) (v : Int32) (hv : q_rgz 0 60 v) (f : Nat) : ∃ b2 z1 z2 z3, dz_B193_64_62_12 (f + 4) b v v = some b2 ∧ dz_M280_64 z (q_o4.getD v.toInt.toNat 0) = some z1 ∧ dz_M280_64 z1 (q_o4.getD (v.toInt.toNat + 1) 0) = some z2 ∧ dz_M280_64 z2 (q_o4.getD (v.toInt.toNat + 2) 0) = some z3 ∧ q_WL c d m (n + 3) b2 z3 := by
  have v0 := hv.1
  have v1 := hv.2
  have t0 := q_yt345 v.toInt.toNat (by omega)
  have t1 := q_yt345 (v.toInt.toNat + 1) (by omega)
  have t2 := q_yt345 (v.toInt.toNat + 2) (by omega)
  have i1 : (v + 1).toInt = v.toInt + 1 := q_addI ⟨by omega, by omega⟩ ⟨by decide, by decide⟩
  have i2 : (v + 1 + 1).toInt = v.toInt + 2 := by rw [q_addI ⟨by omega, by omega⟩ ⟨by decide, by decide⟩, i1]; show v.toInt + 1 + 1 = _; omega
  have i3 : (v + 1 + 1 + 1).toInt = v.toInt + 3 := by rw [q_addI ⟨by omega, by omega⟩ ⟨by decide, by decide⟩, i2]; show v.toInt + 2 + 1 = _; omega
  have i9 : (v + 2).toInt = v.toInt + 2 := q_addI ⟨by omega, by omega⟩ ⟨by decide, by decide⟩
  rw [q_ofn (u := 60) hv] at t0
  rw [show v.toInt.toNat + 1 = (v + 1).toInt.toNat by omega, q_ofn (u := 61) ⟨by omega, by omega⟩] at t1
  rw [show v.toInt.toNat + 2 = (v + 1 + 1).toInt.toNat by omega, q_ofn (u := 62) ⟨by omega, by omega⟩] at t2
  rw [show v.toInt.toNat + 1 = (v + 1).toInt.toNat by omega, show v.toInt.toNat + 2 = (v + 1 + 1).toInt.toNat by omega]
  obtain ⟨p1, m1, w1⟩ := q_wC h (by omega) _ t0.2
  obtain ⟨p2, m2, w2⟩ := q_wC w1 (by omega) _ t1.2
  obtain ⟨p3, m3, w3⟩ := q_wC w2 (by omega) _ t2.2
  refine ⟨_, _, _, _, ?_, m1, m2, m3, w3⟩
  have u0 : ∀ s, dz_B345_12 s v = some (q_o4.getD v.toInt.toNat 0) := fun s => t0.1
  have u1 : ∀ s, dz_B345_12 s (v + 1) = some (q_o4.getD (v + 1).toInt.toNat 0) := fun s => t1.1
  have u2 : ∀ s, dz_B345_12 s (v + 1 + 1) = some (q_o4.getD (v + 1 + 1).toInt.toNat 0) := fun s => t2.1
  rw [dzs_B193_64_62_12]
  dsimp only
  rw [q_lt_F (show v.toInt ≤ (v + 2).toInt by omega), cond_false, u0, Option.bind_some, p1, Option.bind_some, dzs_B193_64_62_12]
  dsimp only
  rw [q_lt_F (show (v + 1).toInt ≤ (v + 2).toInt by omega), cond_false, u1, Option.bind_some, p2, Option.bind_some, dzs_B193_64_62_12]
  dsimp only
  rw [q_lt_F (show (v + 1 + 1).toInt ≤ (v + 2).toInt by omega), cond_false, u2, Option.bind_some, p3, Option.bind_some, dzs_B193_64_62_12]
  dsimp only
  rw [q_lt_T (show (v + 2).toInt < (v + 1 + 1 + 1).toInt by omega)]
  rfl
theorem q_w282a {v : Int32} {op : Int32} {z1 z2 z3 : q_S} (hop : decide (op < 0) = false) (hv : q_rgz 0 60 (3 * op)) (e1 : dz_M280_64 z (q_o4.getD (3 * op).toInt.toNat 0) = some z1) (e2 : dz_M280_64 z1 (q_o4.getD ((3 * op).toInt.toNat + 1) 0) = some z2) (e3 : dz_M280_64 z2 (q_o4.getD ((3 * op).toInt.toNat + 2) 0) = some z3) (f : Nat) : dz_M282_64_7 (f + 4) z v op 0 = some z3 := by
  have v0 := hv.1
  have v1 := hv.2
  have i0 : ((3 * op) + 0).toInt = (3 * op).toInt := by rw [Int32.add_zero]
  have i1 : ((3 * op) + 1).toInt = (3 * op).toInt + 1 := q_addI ⟨by omega, by omega⟩ ⟨by decide, by decide⟩
  have i2 : ((3 * op) + 2).toInt = (3 * op).toInt + 2 := q_addI ⟨by omega, by omega⟩ ⟨by decide, by decide⟩
  have n0 : ((3 * op) + 0).toNatClampNeg = (3 * op).toInt.toNat := by rw [Int32.add_zero]; rfl
  have n1 : ((3 * op) + 1).toNatClampNeg = (3 * op).toInt.toNat + 1 := by show ((3 * op) + 1).toInt.toNat = _; omega
  have n2 : ((3 * op) + 2).toNatClampNeg = (3 * op).toInt.toNat + 2 := by show ((3 * op) + 2).toInt.toNat = _; omega
  rw [dzs_M282_64_7]
  dsimp only
  rw [show decide ((0 : Int32) < 3) = true by decide, cond_true, hop, cond_false, q_in_rg (x := (3 * op) + 0) (n := 63) (l := 0) (u := 62) ⟨by omega, by omega⟩ (by decide) (by decide), cond_true, n0, e1, Option.bind_some, show (0 : Int32) + 1 = 1 by decide, dzs_M282_64_7]
  dsimp only
  rw [show decide ((1 : Int32) < 3) = true by decide, cond_true, hop, cond_false, q_in_rg (x := (3 * op) + 1) (n := 63) (l := 0) (u := 62) ⟨by omega, by omega⟩ (by decide) (by decide), cond_true, n1, e2, Option.bind_some, show (1 : Int32) + 1 = 2 by decide, dzs_M282_64_7]
  dsimp only
  rw [show decide ((2 : Int32) < 3) = true by decide, cond_true, hop, cond_false, q_in_rg (x := (3 * op) + 2) (n := 63) (l := 0) (u := 62) ⟨by omega, by omega⟩ (by decide) (by decide), cond_true, n2, e3, Option.bind_some, show (2 : Int32) + 1 = 3 by decide, dzs_M282_64_7]
  rfl
end
end
