section
variable {TT : (Nat → Int32) → Int32 → (Nat → Int32) → Int32 → Int64 → Int64 → List Int32 → List (Nat → Int32) → (Nat → Int64) → Prop} {x y z m : q_S} {c d w : Int}
/-- an instruction, as the class carries it out behind the trace -/
def q_nx (s : q_S) (p f : Int32) : Option q_S := (dz_N90_65 s p).bind fun r2 => q_let (dz_N186 s r2) fun r3 => q_let (dz_N190 s r2) fun r4 => q_let (dz_N140_87 s r4) fun r5 => cond (decide (r2 = 154)) ((dz_N148_87_65 s r5 ((f ||| 32) ||| 16) 3838).bind fun r6 => some r6) (cond (decide (r3 < 0)) (cond (decide (r2 < 154)) ((dz_N157_87_65 s r2).bind fun r7 => some (q_sI r7 23 4 r5)) (dz_N142_87_65_142 s r2 r3 (r2 &&& 7) r5)) (dz_N142_87_65_142 s r2 r3 (r2 &&& 7) r5))
theorem q_276 (s : q_S) (p v : Int32) {s1 : q_S} (e : dz_M246_64 s p = some (s1, v)) : dz_M275_64 s p = q_let (dz_M243 s1 v) fun r3 => cond (decide (r3 < 0)) (cond (decide (v = 154)) (q_let (dz_M212 s1 (p + 1)) fun r4 => (dz_M259_64 s1 3838 r4 16).bind fun r5 => dz_M275_64_194 r5 p) (cond (decide (v = 155)) ((dz_M255_64 s1).bind fun r6 => q_let (dz_M258_64 r6.1 r6.2) fun r7 => (dz_M273_64 r7 0).bind fun r8 => dz_M275_64_194 (q_sA r8.1 14 (upd (r8.1.1 14) 4 r8.2)) p) (cond (decide (v = 156)) ((dz_M273_64 s1 1).bind fun r9 => dz_M275_64_194 (q_sA r9.1 14 (upd (r9.1.1 14) 4 r9.2)) p) (q_let (dz_M201 s1 v 157 159) fun r10 => cond r10 ((dz_M274_64 s1 v p).bind fun r11 => dz_M275_64_194 r11 p) (q_let (dz_M201 s1 v 160 167) fun r12 => cond r12 (q_let (dz_M251_64 s1 v) fun r13 => cond r13 ((dz_M252_64 s1 p).bind fun r14 => dz_M275_64_194 (q_sA r14.1 14 (upd (r14.1.1 14) 4 r14.2)) p) (q_let (dz_M212 s1 (p + 2)) fun r15 => dz_M275_64_194 (q_sA s1 14 (upd (s1.1 14) 4 r15)) p)) ((dz_M272_64 s1 v p).bind fun r16 => dz_M275_64_194 r16 p)))))) (q_let (dz_M245 s1 v) fun r17 => (dz_M270_64 s1 r3 (v - v / 8 * 8) p).bind fun r18 => q_let (dz_M212 r18 (p + r17)) fun r19 => dz_M275_64_194 (q_sA r18 14 (upd (r18.1 14) 4 r19)) p) := by
  unfold dz_M275_64
  rw [e]; rfl
theorem q_ins (h : q_R TT x m) (hI : q_Iv c d w m) (hJ : x.2.1 23 7 = 0) (hL : x.2.1 23 9 = 0) : ∃ y m2, q_nx x (x.2.1 23 4) (x.2.1 23 5) = some y ∧ dz_M275_64 m (m.1 14 4) = dz_M275_64_194 m2 (m.1 14 4) ∧ q_R TT y m2 := by
  have hP := h.r6.2.1 hJ
  have rP : q_rgz 0 4095 (m.1 14 4) := hI.1 14 4
  obtain ⟨v, m1, a1, a2, a3, a4, a5, a6⟩ := q_byte h hI (m.1 14 4)
  rw [q_a12 rP] at a1
  have P1 : x.2.1 23 4 = m1.1 14 4 := by rw [a3.1 14 rfl]; exact hP
  have E1 : m1.1 14 4 = m.1 14 4 := by rw [a3.1 14 rfl]
  obtain ⟨t1, t2, t3, t4, t5, t6⟩ := q_code x m1 a6
  obtain ⟨l1, l2, l3⟩ := q_len m1 a6
  have v0 := a6.1
  have v1 := a6.2
  have k154 : (154 : Int32).toInt = 154 := rfl
  have k155 : (155 : Int32).toInt = 155 := rfl
  have k156 : (156 : Int32).toInt = 156 := rfl
  have k157 : (157 : Int32).toInt = 157 := rfl
  have k159 : (159 : Int32).toInt = 159 := rfl
  have k160 : (160 : Int32).toInt = 160 := rfl
  have k167 : (167 : Int32).toInt = 167 := rfl
  have z0 : (0 : Int32).toInt = 0 := rfl
  have e8 := q_m7z a6
  rw [q_276 m (m.1 14 4) v a2]
  unfold q_nx dz_N140_87
  rw [hP, a1, Option.bind_some]
  unfold q_let
  dsimp only
  rw [t1, t2]
  cases ho : decide (dz_M243 m1 v < 0) with
  | false =>
    have ro := t6 ho
    have ro0 := ro.1
    have nv : ¬ v.toInt = 154 := fun q => by
      rw [show v = 154 from Int32.toInt_inj.mp q] at ho
      cases ho
    rw [q_eq_F (show ¬ v.toInt = (154 : Int32).toInt by omega), cond_false, cond_false, cond_false]
    have rm := q_rg_and v 7 (U := 7) (by decide) rfl
    obtain ⟨y, m2, b1, b2, b3⟩ := q_opm a4 a5 P1 v (dz_M243 m1 v) (v &&& 7) ((m.1 14 4 + dz_M245 m1 v) &&& 4095) ro rm
    rw [E1] at b2
    exact ⟨_, _, b1, by rw [e8, b2]; rfl, q_R_p b3 _⟩
  | true =>
    have v128 := l1 ho
    rw [cond_true, cond_true]
    by_cases k : v.toInt < 154
    · rw [q_eq_F (show ¬ v.toInt = (154 : Int32).toInt by omega), q_lt_T (show v.toInt < (154 : Int32).toInt by omega), l2 v128 (by omega), cond_false, cond_true, cond_false, q_eq_F (show ¬ v.toInt = (155 : Int32).toInt by omega), cond_false, q_eq_F (show ¬ v.toInt = (156 : Int32).toInt by omega), cond_false, q_202F (v := v) (Or.inl (by omega)), cond_false, q_202F (v := v) (Or.inl (by omega)), cond_false]
      obtain ⟨y, m2, b1, b2, b3⟩ := q_cod a4 a5 (m.1 14 4) v ⟨v128, by omega⟩
      exact ⟨_, _, by rw [b1]; rfl, by rw [b2]; rfl, q_R_p b3 _⟩
    by_cases k4 : v.toInt = 154
    · rw [q_eq_T (show v.toInt = (154 : Int32).toInt by omega), cond_true, cond_true, l2 v128 (by omega)]
      obtain ⟨y, m2, b1, b2, b3, b4⟩ := q_int a4 a5 ((m.1 14 4 + 1) &&& 4095) 3838 true (q_rg_and _ 4095 (by decide) rfl)
      have b1' : dz_N148_87_65 x ((m.1 14 4 + 1) &&& 4095) ((x.2.1 23 5 ||| 32) ||| 16) 3838 = some y := b1
      have b2' : dz_M259_64 m1 3838 (dz_M212 m1 (m.1 14 4 + 1)) 16 = some m2 := b2
      exact ⟨y, m2, by rw [b1']; rfl, by rw [b2']; rfl, b3⟩
    rw [q_eq_F (show ¬ v.toInt = (154 : Int32).toInt by omega), cond_false, cond_false, q_lt_F (show (154 : Int32).toInt ≤ v.toInt by omega), cond_false]
    unfold dz_N142_87_65_142
    rw [ho, cond_true]
    by_cases k5 : v.toInt = 155
    · rw [show v = 155 from Int32.toInt_inj.mp k5]
      obtain ⟨y1, u, m2, b1, b2, b3, b4, b5, b6, b7⟩ := q_pull a4 a5
      obtain ⟨A', X', Y', S', C', Z', I', D', V', N', q', -⟩ := q_cpu_of b3 b4
      have r1 := q_plp q' b7 b3
      have i1 := dzj_M258_64 c d w m2 b4 u
      obtain ⟨y2, q, m3, c1, c2, c3, c4, c5⟩ := q_ret r1 i1 0 (Or.inl rfl)
      rw [Int32.add_zero, q_a12 c5] at c2
      refine ⟨q_sI y2 23 4 q, q_sA m3 14 (upd (m3.1 14) 4 q), ?_, ?_, q_R_p c3 q⟩
      · show ((some ((dz_N160_87_65 (q_sI (dz_N147_87_65 x).1 23 5 ((dz_N147_87_65 x).2 &&& 207))).1, (dz_N160_87_65 (q_sI (dz_N147_87_65 x).1 23 5 ((dz_N147_87_65 x).2 &&& 207))).2)).bind fun r8 => some (q_sI r8.1 23 4 r8.2)) = _
        rw [b1]
        dsimp only
        rw [c1]; rfl
      · show ((dz_M255_64 m1).bind fun r6 => (dz_M273_64 (dz_M258_64 r6.1 r6.2) 0).bind fun r8 => dz_M275_64_194 (q_sA r8.1 14 (upd (r8.1.1 14) 4 r8.2)) (m.1 14 4)) = _
        rw [b2, Option.bind_some, c2]; rfl
    by_cases k6 : v.toInt = 156
    · rw [show v = 156 from Int32.toInt_inj.mp k6]
      obtain ⟨y2, q, m3, c1, c2, c3, c4, c5⟩ := q_ret a4 a5 1 (Or.inr rfl)
      refine ⟨q_sI y2 23 4 ((q + 1) &&& 4095), q_sA m3 14 (upd (m3.1 14) 4 ((q + 1) &&& 4095)), ?_, ?_, q_R_p c3 _⟩
      · show ((some ((dz_N160_87_65 x).1, (((dz_N160_87_65 x).2 + 1) &&& 4095))).bind fun r8 => some (q_sI r8.1 23 4 r8.2)) = _
        rw [c1]; rfl
      · show ((dz_M273_64 m1 1).bind fun r9 => dz_M275_64_194 (q_sA r9.1 14 (upd (r9.1.1 14) 4 r9.2)) (m.1 14 4)) = _
        rw [c2]; rfl
    rw [q_eq_F (show ¬ v.toInt = (155 : Int32).toInt by omega), q_eq_F (show ¬ v.toInt = (156 : Int32).toInt by omega), cond_false, cond_false]
    by_cases k9 : v.toInt ≤ 159
    · rw [q_202T (v := v) (lo := 157) (hi := 159) (by omega) (by omega), cond_true]
      obtain ⟨y, q, m2, b1, b2, b3⟩ := q_jump a4 a5 P1 v ((m.1 14 4 + dz_M245 m1 v) &&& 4095) (by omega)
      rw [E1] at b2
      exact ⟨_, m2, by rw [b1]; rfl, by rw [b2]; rfl, b3⟩
    rw [q_202F (v := v) (lo := 157) (hi := 159) (Or.inr (by omega)), cond_false]
    unfold dz_N158_87_65 q_let
    dsimp only
    rw [q_lt_F (show (155 : Int32).toInt ≤ v.toInt by omega), cond_false, q_lt_T (show (159 : Int32).toInt < v.toInt by show 159 < v.toInt; omega), cond_true, t3]
    by_cases kb : v.toInt ≤ 167
    · rw [q_202T (v := v) (lo := 160) (hi := 167) (by omega) (by omega), cond_true, cond_true, q_taken a4 a5 ⟨by omega, by omega⟩]
      cases dz_M251_64 m1 v with
      | false =>
        rw [l3 (by omega) (by omega)]
        exact ⟨_, _, rfl, rfl, q_R_p a4 _⟩
      | true =>
        obtain ⟨u, m2, b1, b2, b3, b4, b5⟩ := q_targ a4 a5 P1
        rw [E1] at b2
        rw [cond_true, cond_true, b1, b2]
        exact ⟨_, _, rfl, rfl, q_R_p b4 _⟩
    · rw [q_202F (v := v) (lo := 160) (hi := 167) (Or.inr (by omega)), cond_false, cond_false]
      refine ⟨_, q_sA (q_sA m1 15 (upd (m1.1 15) 7 (vp_nar .boolean 1))) 14 (upd (m1.1 14) 4 ((m.1 14 4 + 1) &&& 4095)), rfl, ?_, q_jam a4 hL _ _⟩
      unfold dz_M272_64
      rw [q_lt_F (show (128 : Int32).toInt ≤ v.toInt by show 128 ≤ v.toInt; omega), cond_false, q_lt_T (show (153 : Int32).toInt < v.toInt by show 153 < v.toInt; omega), cond_true]
      rfl
end
