section
variable {TT : (Nat → Int32) → Int32 → (Nat → Int32) → Int32 → Int64 → Int64 → List Int32 → List (Nat → Int32) → (Nat → Int64) → Prop} {x y z m : q_S} {c d w : Int}
/-- jmp, jsr, jmi -/
theorem q_jump (h : q_R TT x m) (hI : q_Iv c d w m) (hP : x.2.1 23 4 = m.1 14 4) (v r5 : Int32) (hv : v.toInt = 157 ∨ v.toInt = 158 ∨ v.toInt = 159) : ∃ y q m2, dz_N158_87_65 x v r5 = some (y, q) ∧ dz_M274_64 m v (m.1 14 4) = some m2 ∧ q_R TT (q_sI y 23 4 q) m2 := by
  obtain ⟨B, m2, a1, a2, a3, a4, a5, a6⟩ := q_ab h hI hP
  rcases hv with e | e | e
  · rw [show v = 157 from Int32.toInt_inj.mp e]
    refine ⟨x, B, q_sA m2 14 (upd (m2.1 14) 4 B), ?_, ?_, q_R_p a5 B⟩
    · show ((dz_N145_87_65 x 3).bind fun r18 => some (x, r18)) = _
      rw [a1]; rfl
    · show ((dz_M247_64 m (m.1 14 4 + 1)).bind fun r2 => dz_M274_64_43 r2.1 157 r2.2) = _
      rw [a2]; rfl
  · rw [show v = 158 from Int32.toInt_inj.mp e]
    have rf : q_rgz 0 4095 ((m.1 14 4 + 2) &&& 4095) := q_rg_and _ 4095 (by decide) rfl
    generalize hf : (m.1 14 4 + 2) &&& 4095 = f at rf
    have f0 := rf.1
    have f1 := rf.2
    have s8 : f >>> ((8 &&& 31 : Int32)) = f / 256 := by
      apply Int32.toInt_inj.mp
      rw [q_shrI 8 rfl (by decide), q_toInt_div f0 (by decide)]; rfl
    have r8 : q_rgz 0 255 (f / 256) := q_rg_le (q_rg_div (c := 256) (U := 15) rf (by decide) rfl (by decide) (by decide)) (by decide) (by decide)
    have m8 : f &&& 255 = f - f / 256 * 256 := (q_m8z rf).symm
    have rm : q_rgz 0 255 (f &&& 255) := q_rg_and _ 255 (by decide) rfl
    obtain ⟨y1, m3, b1, b2, b3, b4, b5, b6⟩ := q_push a5 a6 (f / 256) r8
    obtain ⟨y2, m4, c1, c2, c3, c4, c5, c6⟩ := q_push b3 b4 (f &&& 255) rm
    refine ⟨y2, B, q_sA m4 14 (upd (m4.1 14) 4 B), ?_, ?_, q_R_p c3 B⟩
    · show ((dz_N145_87_65 x 3).bind fun r19 => (dz_N146_87_65 x (((x.2.1 23 4 + 2) &&& 4095) >>> ((8 &&& 31) : Int32))).bind fun r21 => (dz_N146_87_65 r21 (((r21.2.1 23 4 + 2) &&& 4095) &&& 255)).bind fun r23 => some (r23, r19)) = _
      rw [a1, Option.bind_some, hP, hf, s8, b1, Option.bind_some, b5 4 rfl, hP, hf, c1]; rfl
    · show ((dz_M247_64 m (m.1 14 4 + 1)).bind fun r2 => (dz_M254_64 r2.1 (((m.1 14 4 + 2) &&& 4095) / 256)).bind fun r4 => (dz_M254_64 r4 (((m.1 14 4 + 2) &&& 4095) - ((m.1 14 4 + 2) &&& 4095) / 256 * 256)).bind fun r5 => dz_M274_64_43 r5 158 r2.2) = _
      rw [a2, Option.bind_some, hf, ← m8, b2, Option.bind_some, c2]; rfl
  · rw [show v = 159 from Int32.toInt_inj.mp e]
    have B0 := a3.1
    have B1 := a3.2
    have z1 : (1 : Int32).toInt = 1 := rfl
    have e1 : (B + 1).toInt = B.toInt + 1 := q_addI ⟨by omega, by omega⟩ ⟨by decide, by decide⟩
    have em : (B + 1) - (B + 1) / 256 * 256 = (B + 1) &&& 255 := q_m8z (u := 4096) ⟨by omega, by omega⟩
    have rl := q_rg_and (B + 1) 255 (U := 255) (by decide) rfl
    have l0 := rl.1
    have l1 := rl.2
    have ed : (B / 256).toInt = B.toInt / 256 := q_toInt_div B0 (by decide)
    have eh : (B / 256 * 256).toInt = 256 * (B.toInt / 256) := by
      rw [Int32.mul_comm, q_mulI (n := 256) rfl (by decide) (by decide) ⟨by omega, by omega⟩, ed]
    have ea : ((B / 256) * 256 + ((B + 1) &&& 255)).toInt = 256 * (B.toInt / 256) + ((B + 1) &&& 255).toInt := by
      rw [q_addI ⟨by omega, by omega⟩ ⟨by omega, by omega⟩, eh]
    have ra : q_rgz 0 4095 ((B / 256) * 256 + ((B + 1) &&& 255)) := ⟨by omega, by omega⟩
    obtain ⟨l, m3, b1, b2, b3, b4, b5, b6⟩ := q_byte a5 a6 B
    obtain ⟨g, m4, c1, c2, c3, c4, c5, c6⟩ := q_byte b4 b5 ((B / 256) * 256 + ((B + 1) &&& 255))
    rw [q_a12 a3] at b1
    rw [q_a12 ra] at c1
    refine ⟨x, (l + 256 * g) &&& 4095, q_sA m4 14 (upd (m4.1 14) 4 ((l + 256 * g) &&& 4095)), ?_, ?_, q_R_p c4 _⟩
    · show ((dz_N145_87_65 x 3).bind fun r24 => (dz_N159_87_65 x r24).bind fun r25 => some (x, r25)) = _
      rw [a1, Option.bind_some]
      unfold dz_N159_87_65
      rw [b1, Option.bind_some, c1]; rfl
    · show ((dz_M247_64 m (m.1 14 4 + 1)).bind fun r2 => dz_M274_64_43 r2.1 159 r2.2) = _
      rw [a2, Option.bind_some]
      show ((dz_M246_64 m2 B).bind fun r6 => (dz_M246_64 r6.1 (((B / 256) * 256) + ((B + 1) - (B + 1) / 256 * 256))).bind fun r7 => q_let (dz_M212 r7.1 (r6.2 + (256 * r7.2))) fun r8 => some (q_sA r7.1 14 (upd (r7.1.1 14) 4 r8))) = _
      rw [em, b2, Option.bind_some, c2]; rfl
/-- an operation with its mode -/
theorem q_opm (h : q_R TT x m) (hI : q_Iv c d w m) (hP : x.2.1 23 4 = m.1 14 4) (v op mode r5 : Int32) (ho : q_rgz 0 20 op) (hm : q_rgz 0 7 mode) : ∃ y m2, dz_N142_87_65_142 x v op mode r5 = some (q_sI y 23 4 r5) ∧ dz_M270_64 m op mode (m.1 14 4) = some m2 ∧ q_R TT y m2 := by
  have o0 := ho.1
  have o1 := ho.2
  have m0 := hm.1
  have m1 := hm.2
  have z0 : (0 : Int32).toInt = 0 := rfl
  have ew := (q_opw x m ho).1
  unfold dz_N142_87_65_142 dz_M270_64 q_let
  dsimp only
  rw [q_lt_F (show (0 : Int32).toInt ≤ op.toInt by omega), cond_false, ew]
  by_cases k : mode.toInt = 0
  · rw [q_eq_T (show mode.toInt = (0 : Int32).toInt by omega), q_lt_F (show mode.toInt ≤ (0 : Int32).toInt by omega), cond_true, cond_false, cond_true]
    obtain ⟨u, m2, a1, a2, a3, a4, a5, a6⟩ := q_byte h hI (m.1 14 4 + 1)
    have a1' : dz_N90_65 x (dz_N140_87 x 1) = some u := by
      unfold dz_N140_87
      rw [hP]
      exact a1
    rw [a1', Option.bind_some, a2, Option.bind_some]
    cases hw : dz_M244 m op with
    | true =>
      refine ⟨dz_N152_87 x op u, m, rfl, rfl, ?_⟩
      have : dz_N152_87 x op u = x := by
        rcases (by omega : op.toInt = 0 ∨ op.toInt = 1 ∨ op.toInt = 2 ∨ op.toInt = 3 ∨ op.toInt = 4 ∨ op.toInt = 5 ∨ op.toInt = 6 ∨ op.toInt = 7 ∨ op.toInt = 8 ∨ op.toInt = 9 ∨ op.toInt = 10 ∨ op.toInt = 11 ∨ op.toInt = 12 ∨ op.toInt = 13 ∨ op.toInt = 14 ∨ op.toInt = 15 ∨ op.toInt = 16 ∨ op.toInt = 17 ∨ op.toInt = 18 ∨ op.toInt = 19 ∨ op.toInt = 20) with e | e | e | e | e | e | e | e | e | e | e | e | e | e | e | e | e | e | e | e | e
        · rw [show op = 0 from Int32.toInt_inj.mp e] at hw; cases hw
        · rw [show op = 1 from Int32.toInt_inj.mp e] at hw; cases hw
        · rw [show op = 2 from Int32.toInt_inj.mp e] at hw; cases hw
        · rw [show op = 3 from Int32.toInt_inj.mp e]; rfl
        · rw [show op = 4 from Int32.toInt_inj.mp e]; rfl
        · rw [show op = 5 from Int32.toInt_inj.mp e]; rfl
        · rw [show op = 6 from Int32.toInt_inj.mp e] at hw; cases hw
        · rw [show op = 7 from Int32.toInt_inj.mp e] at hw; cases hw
        · rw [show op = 8 from Int32.toInt_inj.mp e] at hw; cases hw
        · rw [show op = 9 from Int32.toInt_inj.mp e] at hw; cases hw
        · rw [show op = 10 from Int32.toInt_inj.mp e] at hw; cases hw
        · rw [show op = 11 from Int32.toInt_inj.mp e] at hw; cases hw
        · rw [show op = 12 from Int32.toInt_inj.mp e] at hw; cases hw
        · rw [show op = 13 from Int32.toInt_inj.mp e] at hw; cases hw
        · rw [show op = 14 from Int32.toInt_inj.mp e]; rfl
        · rw [show op = 15 from Int32.toInt_inj.mp e]; rfl
        · rw [show op = 16 from Int32.toInt_inj.mp e] at hw; cases hw
        · rw [show op = 17 from Int32.toInt_inj.mp e]; rfl
        · rw [show op = 18 from Int32.toInt_inj.mp e]; rfl
        · rw [show op = 19 from Int32.toInt_inj.mp e]; rfl
        · rw [show op = 20 from Int32.toInt_inj.mp e] at hw; cases hw
      rw [this]; exact h
    | false =>
      obtain ⟨m3, b1, b2, b3⟩ := q_ops a4 a5 op u ho hw a6
      exact ⟨_, m3, rfl, by rw [cond_false, b1]; rfl, b2⟩
  · rw [q_eq_F (show ¬ mode.toInt = (0 : Int32).toInt by omega), q_lt_T (show (0 : Int32).toInt < mode.toInt by omega), cond_false, cond_true, cond_false]
    obtain ⟨B, m2, m3, a1, a2, a3, a4, a5, a6, a7, a8, a9, a10⟩ := q_addr h hI hP mode ⟨by omega, by omega⟩
    have e144 : dz_N144_87_65 x mode = some ((B + dz_N143_87 x mode) &&& 4095) := by
      unfold dz_N144_87_65
      rw [a1]; rfl
    rw [e144, a7, Option.bind_some, Option.bind_some, Option.bind_some, Option.bind_some]
    have rB := q_rg_and (B + dz_N143_87 x mode) 4095 (U := 4095) (by decide) rfl
    dsimp only
    generalize (B + dz_N143_87 x mode) &&& 4095 = B2 at *
    cases hw : dz_M244 m op with
    | true =>
      obtain ⟨y, m4, b1, b2, b3, b4⟩ := q_chg a9 a10 op B2 ho hw rB
      exact ⟨y, m4, by rw [cond_true, b1]; rfl, by rw [cond_true, b2]; rfl, b3⟩
    | false =>
      obtain ⟨y, u, m4, b1, b2, b3, b4, b5, b6⟩ := q_load a9 a10 B2 rB
      obtain ⟨m5, c1, c2, c3⟩ := q_ops b3 b4 op u ho hw b5
      exact ⟨_, m5, by rw [cond_false, b1]; rfl, by rw [cond_false, b2, Option.bind_some, c1]; rfl, c2⟩
end
