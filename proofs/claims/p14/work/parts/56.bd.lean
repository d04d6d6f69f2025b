section
variable {TT : (Nat → Int32) → Int32 → (Nat → Int32) → Int32 → Int64 → Int64 → List Int32 → List (Nat → Int32) → (Nat → Int64) → Prop} {x y z m m2 b b2 : q_S} {c d w k : Int} {n : Nat}
/-- behind the operand's number -/
theorem q_wT (h : q_WL c d m n b z) (v : Int32) (hv : q_rgz 0 7 v) (hn : n + 3 ≤ 16) : ∃ b2 z2 n2, (cond (decide (v < 2)) (some b) (cond (decide (8 < v)) (some b) (cond (decide (v = 2)) ((dz_B323_64_15 b).bind fun r5 => some r5) (cond (decide (v = 3)) (some b) (cond (decide (v = 4)) ((dz_B323_64_15 b).bind fun r6 => some r6) (cond (decide (v = 5)) ((dz_B323_64_16 b).bind fun r7 => some r7) (cond (decide (v = 6)) ((dz_B323_64_17 b).bind fun r8 => some r8) (cond (decide (v = 7)) ((dz_B323_64_18 b).bind fun r9 => some r9) ((dz_B324_64 b 41).bind fun r10 => some r10))))))))) = some b2 ∧ (cond (decide (v = 6)) ((dz_M279_64 z 41).bind fun r8 => dz_M282_64_69 r8 v) (dz_M282_64_69 z v)) = some z2 ∧ q_WL c d m n2 b2 z2 ∧ n2 ≤ 16 := by
  have v0 := hv.1
  have v1 := hv.2
  have h3 := h.2.2.1
  rcases (by omega : v.toInt = 0 ∨ v.toInt = 1 ∨ v.toInt = 2 ∨ v.toInt = 3 ∨ v.toInt = 4 ∨ v.toInt = 5 ∨ v.toInt = 6 ∨ v.toInt = 7) with e | e | e | e | e | e | e | e
  · obtain rfl : v = 0 := Int32.toInt_inj.mp e
    exact ⟨b, z, n, rfl, rfl, h, by omega⟩
  · obtain rfl : v = 1 := Int32.toInt_inj.mp e
    exact ⟨b, z, n, rfl, rfl, h, by omega⟩
  · obtain rfl : v = 2 := Int32.toInt_inj.mp e
    obtain ⟨z1, z2, e1, e2, e3⟩ := q_wS2 h (by omega) (fun j => q_o43.getD j 0) ⟨by decide, by decide⟩ ⟨by decide, by decide⟩
    have e1 : dz_M279_64 z 44 = some z1 := e1
    have e2 : dz_M279_64 z1 120 = some z2 := e2
    refine ⟨_, z2, n + 2, by show ((dz_B323_64_15 b).bind fun r => some r) = _; rw [q_w324_15 h3 (by omega)]; rfl, ?_, e3, by omega⟩
    show ((dz_M279_64 z 44).bind fun r9 => (dz_M279_64 r9 120).bind fun r10 => some r10) = some z2
    rw [e1, Option.bind_some, e2]
    rfl
  · obtain rfl : v = 3 := Int32.toInt_inj.mp e
    exact ⟨b, z, n, rfl, rfl, h, by omega⟩
  · obtain rfl : v = 4 := Int32.toInt_inj.mp e
    obtain ⟨z1, z2, e1, e2, e3⟩ := q_wS2 h (by omega) (fun j => q_o43.getD j 0) ⟨by decide, by decide⟩ ⟨by decide, by decide⟩
    have e1 : dz_M279_64 z 44 = some z1 := e1
    have e2 : dz_M279_64 z1 120 = some z2 := e2
    refine ⟨_, z2, n + 2, by show ((dz_B323_64_15 b).bind fun r => some r) = _; rw [q_w324_15 h3 (by omega)]; rfl, ?_, e3, by omega⟩
    show ((dz_M279_64 z 44).bind fun r9 => (dz_M279_64 r9 120).bind fun r10 => some r10) = some z2
    rw [e1, Option.bind_some, e2]
    rfl
  · obtain rfl : v = 5 := Int32.toInt_inj.mp e
    obtain ⟨z1, z2, e1, e2, e3⟩ := q_wS2 h (by omega) (fun j => q_o44.getD j 0) ⟨by decide, by decide⟩ ⟨by decide, by decide⟩
    have e1 : dz_M279_64 z 44 = some z1 := e1
    have e2 : dz_M279_64 z1 121 = some z2 := e2
    refine ⟨_, z2, n + 2, by show ((dz_B323_64_16 b).bind fun r => some r) = _; rw [q_w324_16 h3 (by omega)]; rfl, ?_, e3, by omega⟩
    show ((dz_M279_64 z 44).bind fun r9 => (dz_M279_64 r9 121).bind fun r10 => some r10) = some z2
    rw [e1, Option.bind_some, e2]
    rfl
  · obtain rfl : v = 6 := Int32.toInt_inj.mp e
    obtain ⟨z1, z2, z3, e1, e2, e3, e4⟩ := q_wS3 h (by omega) (fun j => q_o45.getD j 0) ⟨by decide, by decide⟩ ⟨by decide, by decide⟩ ⟨by decide, by decide⟩
    have e1 : dz_M279_64 z 41 = some z1 := e1
    have e2 : dz_M279_64 z1 44 = some z2 := e2
    have e3 : dz_M279_64 z2 121 = some z3 := e3
    refine ⟨_, z3, n + 3, by show ((dz_B323_64_17 b).bind fun r => some r) = _; rw [q_w324_17 h3 (by omega)]; rfl, ?_, e4, by omega⟩
    show ((dz_M279_64 z 41).bind fun r8 => (dz_M279_64 r8 44).bind fun r9 => (dz_M279_64 r9 121).bind fun r10 => some r10) = some z3
    rw [e1, Option.bind_some, e2, Option.bind_some, e3]
    rfl
  · obtain rfl : v = 7 := Int32.toInt_inj.mp e
    obtain ⟨z1, z2, z3, e1, e2, e3, e4⟩ := q_wS3 h (by omega) (fun j => q_o46.getD j 0) ⟨by decide, by decide⟩ ⟨by decide, by decide⟩ ⟨by decide, by decide⟩
    have e1 : dz_M279_64 z 44 = some z1 := e1
    have e2 : dz_M279_64 z1 120 = some z2 := e2
    have e3 : dz_M279_64 z2 41 = some z3 := e3
    refine ⟨_, z3, n + 3, by show ((dz_B323_64_18 b).bind fun r => some r) = _; rw [q_w324_18 h3 (by omega)]; rfl, ?_, e4, by omega⟩
    show ((dz_M279_64 z 44).bind fun r8 => (dz_M279_64 r8 120).bind fun r9 => (dz_M279_64 r9 41).bind fun r10 => some r10) = some z3
    rw [e1, Option.bind_some, e2, Option.bind_some, e3]
    rfl
end
