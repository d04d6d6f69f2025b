section
variable {TT : (Nat → Int32) → Int32 → (Nat → Int32) → Int32 → Int64 → Int64 → List Int32 → List (Nat → Int32) → (Nat → Int64) → Prop} {x y z m : q_S} {c d w : Int} {A X Y S : Int32} {C Z I D V N : Bool}
/-- the status as it is pushed -/
theorem q_st258 (q : q_cpu A X Y S C Z I D V N x m) (hI : q_Iv c d w m) (brk : Bool) : dz_M257_64 m (cond brk 16 0) = some (cond brk (((x.2.1 23 5) ||| 32) ||| 16) ((x.2.1 23 5) ||| 32)) ∧ q_rgz 0 255 (cond brk (((x.2.1 23 5) ||| 32) ||| 16) ((x.2.1 23 5) ||| 32)) := by
  obtain ⟨q1, q2, q3, q4, q5, q6, q7, q8, q9, q10, q11⟩ := q
  obtain ⟨-, -, t3, t4⟩ := q_Fb C Z I D V N
  generalize hst : cond brk (((x.2.1 23 5) ||| 32) ||| 16) ((x.2.1 23 5) ||| 32) = st
  have est : st = (((((q_b C + 2 * q_b Z) + 4 * q_b I) + 8 * q_b D) + cond brk 16 0) + 32) + 64 * q_b V + 128 * q_b N := by
    rw [← hst, q5]
    cases brk with
    | true => exact t4
    | false => exact t3
  have e258 : dz_M257_64 m (cond brk 16 0) = some st := by
    have bit : ∀ (k : Nat) (K v : Int32) (b : Bool), K.toNatClampNeg = k → q_in K 8 = true → m.1 15 k = q_b b → dz_M256_64 m K v = some (v * q_b b) := fun k K v b hk hi hb => by
      unfold dz_M256_64
      rw [hi, hk, hb]
      cases b with
      | true => show some v = some (v * 1); rw [Int32.mul_one]
      | false => show some 0 = some (v * 0); rw [Int32.mul_zero]
    unfold dz_M257_64
    rw [bit 5 5 1 C rfl rfl q6, bit 4 4 2 Z rfl rfl q7, bit 3 3 4 I rfl rfl q8, bit 2 2 8 D rfl rfl q9, bit 1 1 64 V rfl rfl q10, bit 0 0 128 N rfl rfl q11]
    simp only [Option.bind_some]
    rw [est, Int32.one_mul]
  refine ⟨e258, ?_⟩
  obtain ⟨r, hr1, hr2⟩ := dzj_M257_64 c d w m hI (cond brk 16 0) (by cases brk <;> exact ⟨by decide, by decide⟩)
  rw [e258] at hr1
  cases hr1
  exact hr2
theorem q_206s (s t : q_S) (a k : Int32) : dz_M205 s a k = dz_M205 t a k := rfl
def q_zz0 : q_S := (fun _ _ => 0, fun _ _ => 0, fun _ _ => 0)
set_option maxRecDepth 16384 in
theorem q_T207 : ∀ n, n < 256 → (Int32.ofNat n) &&& 207 = q_F (dz_M205 q_zz0 (Int32.ofNat n) 0) (dz_M205 q_zz0 (Int32.ofNat n) 1) (dz_M205 q_zz0 (Int32.ofNat n) 2) (dz_M205 q_zz0 (Int32.ofNat n) 3) (dz_M205 q_zz0 (Int32.ofNat n) 6) (dz_M205 q_zz0 (Int32.ofNat n) 7) := by decide
set_option maxHeartbeats 4000000 in
theorem q_259 (m : q_S) (v : Int32) : q_CM m (dz_M258_64 m v) ∧ (dz_M258_64 m v).1 15 5 = q_b (dz_M205 q_zz0 v 0) ∧ (dz_M258_64 m v).1 15 4 = q_b (dz_M205 q_zz0 v 1) ∧ (dz_M258_64 m v).1 15 3 = q_b (dz_M205 q_zz0 v 2) ∧ (dz_M258_64 m v).1 15 2 = q_b (dz_M205 q_zz0 v 3) ∧ (dz_M258_64 m v).1 15 1 = q_b (dz_M205 q_zz0 v 6) ∧ (dz_M258_64 m v).1 15 0 = q_b (dz_M205 q_zz0 v 7) ∧ (dz_M258_64 m v).1 14 = m.1 14 := by
  have n1 : vp_nar .boolean 1 = q_b true := by decide
  have n0 : vp_nar .boolean 0 = q_b false := by decide
  have e : ∀ s k, dz_M205 s v k = dz_M205 q_zz0 v k := fun _ _ => rfl
  unfold dz_M258_64 q_let
  simp only [e, n1, n0]
  generalize dz_M205 q_zz0 v 0 = b0
  generalize dz_M205 q_zz0 v 1 = b1
  generalize dz_M205 q_zz0 v 2 = b2
  generalize dz_M205 q_zz0 v 3 = b3
  generalize dz_M205 q_zz0 v 6 = b6
  generalize dz_M205 q_zz0 v 7 = b7
  have key : ∀ (m : q_S) (v0 v1 v2 v3 v6 v7 : Int32), q_CM m (q_sA (q_sA (q_sA (q_sA (q_sA (q_sA m 15 (upd (m.1 15) 5 v0)) 15 (upd (upd (m.1 15) 5 v0) 4 v1)) 15 (upd (upd (upd (m.1 15) 5 v0) 4 v1) 3 v2)) 15 (upd (upd (upd (upd (m.1 15) 5 v0) 4 v1) 3 v2) 2 v3)) 15 (upd (upd (upd (upd (upd (m.1 15) 5 v0) 4 v1) 3 v2) 2 v3) 1 v6)) 15 (upd (upd (upd (upd (upd (upd (m.1 15) 5 v0) 4 v1) 3 v2) 2 v3) 1 v6) 0 v7)) := fun m v0 v1 v2 v3 v6 v7 =>
    (((((q_CM_f 5 _ rfl).trans (q_CM_f 4 _ rfl)).trans (q_CM_f 3 _ rfl)).trans (q_CM_f 2 _ rfl)).trans (q_CM_f 1 _ rfl)).trans (q_CM_f 0 _ rfl)
  cases b0 <;> cases b1 <;> cases b2 <;> cases b3 <;> cases b6 <;> cases b7 <;> exact ⟨key m _ _ _ _ _ _, rfl, rfl, rfl, rfl, rfl, rfl, rfl⟩
theorem q_plp (q : q_cpu A X Y S C Z I D V N x m) {v : Int32} (hv : q_rgz 0 255 v) (h : q_R TT x m) : q_R TT (q_sI x 23 5 (v &&& 207)) (dz_M258_64 m v) := by
  obtain ⟨q1, q2, q3, q4, -⟩ := q
  obtain ⟨e0, e1, e2, e3, e4, e5, e6, e7⟩ := q_259 m v
  have e9 : v &&& 207 = q_F (dz_M205 q_zz0 v 0) (dz_M205 q_zz0 v 1) (dz_M205 q_zz0 v 2) (dz_M205 q_zz0 v 3) (dz_M205 q_zz0 v 6) (dz_M205 q_zz0 v 7) := by
    have hn := hv.1
    have hu := hv.2
    have := q_T207 v.toInt.toNat (by omega)
    rw [q_ofn hv] at this
    exact this
  rw [e9]
  refine q_R_C h (q_CX_k 5 _ rfl) e0 (A := A) (X := X) (Y := Y) (S := S) ⟨⟨q1.1, ?_⟩, ⟨q2.1, ?_⟩, ⟨q3.1, ?_⟩, ⟨q4.1, ?_⟩, rfl, e1, e2, e3, e4, e5, e6⟩
  · rw [e7]; exact q1.2
  · rw [e7]; exact q2.2
  · rw [e7]; exact q3.2
  · rw [e7]; exact q4.2
theorem q_c140 (h : q_R TT x m) (hI : q_Iv c d w m) (p : Int32) : ∃ y m1, dz_N157_87_65 x 140 = some y ∧ dz_M272_64 m 140 p = some (q_sA m1 14 (upd (m1.1 14) 4 ((p + 1) &&& 4095))) ∧ q_R TT y m1 := by
  obtain ⟨A, X, Y, S, C, Z, I, D, V, N, q, rA, rX, rY, rS⟩ := q_cpu_of h hI
  obtain ⟨s1, s2⟩ := q_st258 q hI true
  obtain ⟨y, m1, a1, a2, a3, -⟩ := q_push h hI _ s2
  refine ⟨y, m1, ?_, ?_, a3⟩
  · show ((dz_N146_87_65 x (((x.2.1 23 5) ||| 32) ||| 16)).bind fun r => some r) = _
    have a1' : dz_N146_87_65 x (((x.2.1 23 5) ||| 32) ||| 16) = some y := a1
    rw [a1']; rfl
  · show ((dz_M257_64 m 16).bind fun r31 => (dz_M254_64 m r31).bind fun r => some (q_sA r 14 (upd (r.1 14) 4 ((p + 1) &&& 4095)))) = _
    have s1' : dz_M257_64 m 16 = some (((x.2.1 23 5) ||| 32) ||| 16) := s1
    have a2' : dz_M254_64 m (((x.2.1 23 5) ||| 32) ||| 16) = some m1 := a2
    rw [s1', Option.bind_some, a2']; rfl
theorem q_c141 (h : q_R TT x m) (hI : q_Iv c d w m) (p : Int32) : ∃ y m1, dz_N157_87_65 x 141 = some y ∧ dz_M272_64 m 141 p = some (q_sA m1 14 (upd (m1.1 14) 4 ((p + 1) &&& 4095))) ∧ q_R TT y m1 := by
  obtain ⟨y, v, m1, a1, a2, a3, a4, a5, a6, a7⟩ := q_pull h hI
  obtain ⟨A', X', Y', S', C', Z', I', D', V', N', q', -⟩ := q_cpu_of a3 a4
  refine ⟨q_sI y 23 5 (v &&& 207), dz_M258_64 m1 v, ?_, ?_, q_plp q' a7 a3⟩
  · show some (q_sI (dz_N147_87_65 x).1 23 5 ((dz_N147_87_65 x).2 &&& 207)) = _
    rw [a1]
  · show ((dz_M255_64 m).bind fun r34 => some (q_sA (dz_M258_64 r34.1 r34.2) 14 (upd ((dz_M258_64 r34.1 r34.2).1 14) 4 ((p + 1) &&& 4095)))) = _
    rw [a2]; rfl
end
