section
variable {TT : (Nat → Int32) → Int32 → (Nat → Int32) → Int32 → Int64 → Int64 → List Int32 → List (Nat → Int32) → (Nat → Int64) → Prop} {x y z m m2 b b2 : q_S} {c d w k : Int} {n : Nat}
theorem q_wL13 (h : q_WL c d m n b z) (hn : n + 3 ≤ 16) (v : Int32) (hv : q_rgz 0 117 v) (f : Nat) : ∃ b2 z1 z2 z3, dz_B193_64_62_13 (f + 4) b v v = some b2 ∧ dz_M279_64 z (q_o5.getD v.toInt.toNat 0) = some z1 ∧ dz_M279_64 z1 (q_o5.getD (v.toInt.toNat + 1) 0) = some z2 ∧ dz_M279_64 z2 (q_o5.getD (v.toInt.toNat + 2) 0) = some z3 ∧ q_WL c d m (n + 3) b2 z3 := by
  have v0 := hv.1
  have v1 := hv.2
  have t0 := q_yt345b v.toInt.toNat (by omega)
  have t1 := q_yt345b (v.toInt.toNat + 1) (by omega)
  have t2 := q_yt345b (v.toInt.toNat + 2) (by omega)
  have i1 : (v + 1).toInt = v.toInt + 1 := q_addI ⟨by omega, by omega⟩ ⟨by decide, by decide⟩
  have i2 : (v + 1 + 1).toInt = v.toInt + 2 := by rw [q_addI ⟨by omega, by omega⟩ ⟨by decide, by decide⟩, i1]; show v.toInt + 1 + 1 = _; omega
  have i3 : (v + 1 + 1 + 1).toInt = v.toInt + 3 := by rw [q_addI ⟨by omega, by omega⟩ ⟨by decide, by decide⟩, i2]; show v.toInt + 2 + 1 = _; omega
  have i9 : (v + 2).toInt = v.toInt + 2 := q_addI ⟨by omega, by omega⟩ ⟨by decide, by decide⟩
  rw [q_ofn (u := 117) hv] at t0
  rw [show v.toInt.toNat + 1 = (v + 1).toInt.toNat by omega, q_ofn (u := 118) ⟨by omega, by omega⟩] at t1
  rw [show v.toInt.toNat + 2 = (v + 1 + 1).toInt.toNat by omega, q_ofn (u := 119) ⟨by omega, by omega⟩] at t2
  rw [show v.toInt.toNat + 1 = (v + 1).toInt.toNat by omega, show v.toInt.toNat + 2 = (v + 1 + 1).toInt.toNat by omega]
  obtain ⟨p1, m1, w1⟩ := q_wC h (by omega) _ t0.2
  obtain ⟨p2, m2, w2⟩ := q_wC w1 (by omega) _ t1.2
  obtain ⟨p3, m3, w3⟩ := q_wC w2 (by omega) _ t2.2
  refine ⟨_, _, _, _, ?_, m1, m2, m3, w3⟩
  have u0 : ∀ s, dz_B344_13 s v = some (q_o5.getD v.toInt.toNat 0) := fun s => t0.1
  have u1 : ∀ s, dz_B344_13 s (v + 1) = some (q_o5.getD (v + 1).toInt.toNat 0) := fun s => t1.1
  have u2 : ∀ s, dz_B344_13 s (v + 1 + 1) = some (q_o5.getD (v + 1 + 1).toInt.toNat 0) := fun s => t2.1
  rw [dzs_B193_64_62_13]
  dsimp only
  rw [q_lt_F (show v.toInt ≤ (v + 2).toInt by omega), cond_false, u0, Option.bind_some, p1, Option.bind_some, dzs_B193_64_62_13]
  dsimp only
  rw [q_lt_F (show (v + 1).toInt ≤ (v + 2).toInt by omega), cond_false, u1, Option.bind_some, p2, Option.bind_some, dzs_B193_64_62_13]
  dsimp only
  rw [q_lt_F (show (v + 1 + 1).toInt ≤ (v + 2).toInt by omega), cond_false, u2, Option.bind_some, p3, Option.bind_some, dzs_B193_64_62_13]
  dsimp only
  rw [q_lt_T (show (v + 2).toInt < (v + 1 + 1 + 1).toInt by omega)]
  rfl
theorem q_w282b {v : Int32} {op : Int32} {z1 z2 z3 : q_S} (hop : decide (op < 0) = true) (hv : q_rgz 0 117 (3 * (v - 128))) (e1 : dz_M279_64 z (q_o5.getD (3 * (v - 128)).toInt.toNat 0) = some z1) (e2 : dz_M279_64 z1 (q_o5.getD ((3 * (v - 128)).toInt.toNat + 1) 0) = some z2) (e3 : dz_M279_64 z2 (q_o5.getD ((3 * (v - 128)).toInt.toNat + 2) 0) = some z3) (f : Nat) : dz_M281_64_7 (f + 4) z v op 0 = some z3 := by
  have v0 := hv.1
  have v1 := hv.2
  have i0 : ((3 * (v - 128)) + 0).toInt = (3 * (v - 128)).toInt := by rw [Int32.add_zero]
  have i1 : ((3 * (v - 128)) + 1).toInt = (3 * (v - 128)).toInt + 1 := q_addI ⟨by omega, by omega⟩ ⟨by decide, by decide⟩
  have i2 : ((3 * (v - 128)) + 2).toInt = (3 * (v - 128)).toInt + 2 := q_addI ⟨by omega, by omega⟩ ⟨by decide, by decide⟩
  have n0 : ((3 * (v - 128)) + 0).toNatClampNeg = (3 * (v - 128)).toInt.toNat := by rw [Int32.add_zero]; rfl
  have n1 : ((3 * (v - 128)) + 1).toNatClampNeg = (3 * (v - 128)).toInt.toNat + 1 := by show ((3 * (v - 128)) + 1).toInt.toNat = _; omega
  have n2 : ((3 * (v - 128)) + 2).toNatClampNeg = (3 * (v - 128)).toInt.toNat + 2 := by show ((3 * (v - 128)) + 2).toInt.toNat = _; omega
  rw [dzs_M281_64_7]
  dsimp only
  rw [show decide ((0 : Int32) < 3) = true by decide, cond_true, hop, cond_true, q_in_rg (x := (3 * (v - 128)) + 0) (n := 120) (l := 0) (u := 119) ⟨by omega, by omega⟩ (by decide) (by decide), cond_true, n0, e1, Option.bind_some, show (0 : Int32) + 1 = 1 by decide, dzs_M281_64_7]
  dsimp only
  rw [show decide ((1 : Int32) < 3) = true by decide, cond_true, hop, cond_true, q_in_rg (x := (3 * (v - 128)) + 1) (n := 120) (l := 0) (u := 119) ⟨by omega, by omega⟩ (by decide) (by decide), cond_true, n1, e2, Option.bind_some, show (1 : Int32) + 1 = 2 by decide, dzs_M281_64_7]
  dsimp only
  rw [show decide ((2 : Int32) < 3) = true by decide, cond_true, hop, cond_true, q_in_rg (x := (3 * (v - 128)) + 2) (n := 120) (l := 0) (u := 119) ⟨by omega, by omega⟩ (by decide) (by decide), cond_true, n2, e3, Option.bind_some, show (2 : Int32) + 1 = 3 by decide, dzs_M281_64_7]
  rfl
theorem q_lnc (s : q_S) {a : Int32} (ha : q_rgz 0 255 a) : (dz_M284 s a = true → dz_N190 s a = 1 ∧ dz_B185 s a = -1 ∧ decide (3 * (a - 128) < 0) = false ∧ decide (3 * (a - 128) + 2 < 120) = false) ∧ (dz_M284 s a = false → decide (dz_M243 s a < 0) = true → dz_B185 s a = -1 ∧ decide (3 * (a - 128) < 0) = false ∧ decide (3 * (a - 128) + 2 < 120) = true ∧ q_rgz 0 117 (3 * (a - 128)) ∧ 128 ≤ a.toInt ∧ a.toInt < 168) ∧ (decide (dz_M243 s a < 0) = false → dz_B185 s a = dz_M243 s a ∧ decide (3 * dz_M243 s a < 0) = false ∧ decide (3 * dz_M243 s a + 2 < 63) = true ∧ q_rgz 0 60 (3 * dz_M243 s a) ∧ dz_N187 s a = false ∧ dz_N196 s a = a - a / 8 * 8 ∧ q_rgz 0 7 (a - a / 8 * 8) ∧ dz_M284 s a = false ∧ dz_N190 s a = cond (dz_M201 s (a - a / 8 * 8) 3 5) 3 2) := by
  have a0 := ha.1
  have a1 := ha.2
  have tA := q_tlnA a.toInt.toNat (by omega)
  have tB := q_tlnB a.toInt.toNat (by omega)
  have tC := q_tlnC a.toInt.toNat (by omega)
  have tD := q_tlnD a.toInt.toNat (by omega)
  rw [q_ofn ha] at tA tB tC tD
  refine ⟨tA, fun h1 h2 => ?_, fun h1 => ?_⟩
  · obtain ⟨b1, b2, b3, b4, b5, b6⟩ := tB h1 h2
    exact ⟨b1, b2, b3, b4, by omega, by omega⟩
  · obtain ⟨c1, c2, c3, c4, c5⟩ := tC h1
    obtain ⟨d1, d2, d3, d4⟩ := tD h1
    exact ⟨c1, c2, c3, ⟨c4, c5⟩, d1, d2, q_rg_rem (c := 8) ha (by decide) rfl (by decide) (by decide), d3, d4⟩
end
