section
-- 56.bb
section
variable {TT : (Nat → Int32) → Int32 → (Nat → Int32) → Int32 → Int64 → Int64 → List Int32 → List (Nat → Int32) → (Nat → Int64) → Prop} {x y z m m2 b b2 : q_S} {c d w k : Int} {n : Nat}
theorem q_wL13 (h : q_WL c d m n b z) (hn : n + 3 ≤ 16) (v : Int32) (hv : q_rgz 0 117 v) (f : Nat) : ∃ b2 z1 z2 z3, dz_B193_64_62_13 (f + 4) b v v = some b2 ∧ dz_M280_64 z (q_o5.getD v.toInt.toNat 0) = some z1 ∧ dz_M280_64 z1 (q_o5.getD (v.toInt.toNat + 1) 0) = some z2 ∧ dz_M280_64 z2 (q_o5.getD (v.toInt.toNat + 2) 0) = some z3 ∧ q_WL c d m (n + 3) b2 z3 := by
  have v0 := hv.1
  have v1 := hv.2
  have t0 := q_yt345b v.toInt.toNat (by omega)
  have t1 := q_yt345b (v.toInt.toNat + 1) (by omega)
  have t2 := q_yt345b (v.toInt.toNat + 2) (by omega)
  have i1 : (v + 1).toInt = v.toInt + 1 := q_addI ⟨by omega, by omega⟩ ⟨by decide, by decide⟩
  have i2 : (v + 1 + 1).toInt = v.toInt + 2 := by rw [q_addI ⟨by omega, by omega⟩ ⟨by decide, by decide⟩, i1]; show v.toInt + 1 + 1 = _; omega
  have i3 : (v + 1 + 1 + 1).toInt = v.toInt + 3 := by rw [q_addI ⟨by omega, by omega⟩ ⟨by decide, by decide⟩, i2]; show v.toInt + 2 + 1 = _; omega
  have i9 : (v + 2).toInt = v.toInt + 2 := q_addI ⟨by omega, by omega⟩ ⟨by decide, by decide⟩
  rw [q_ofn (u := 117) hv] at t0
  rw [show v.toInt.toNat + 1 = (v + 1).toInt.toNat by omega, q_ofn (u := 118) ⟨by omega, by omega⟩] at t1
  rw [show v.toInt.toNat + 2 = (v + 1 + 1).toInt.toNat by omega, q_ofn (u := 119) ⟨by omega, by omega⟩] at t2
  rw [show v.toInt.toNat + 1 = (v + 1).toInt.toNat by omega, show v.toInt.toNat + 2 = (v + 1 + 1).toInt.toNat by omega]
  obtain ⟨p1, m1, w1⟩ := q_wC h (by omega) _ t0.2
  obtain ⟨p2, m2, w2⟩ := q_wC w1 (by omega) _ t1.2
  obtain ⟨p3, m3, w3⟩ := q_wC w2 (by omega) _ t2.2
  refine ⟨_, _, _, _, ?_, m1, m2, m3, w3⟩
  have u0 : ∀ s, dz_B345_13 s v = some (q_o5.getD v.toInt.toNat 0) := fun s => t0.1
  have u1 : ∀ s, dz_B345_13 s (v + 1) = some (q_o5.getD (v + 1).toInt.toNat 0) := fun s => t1.1
  have u2 : ∀ s, dz_B345_13 s (v + 1 + 1) = some (q_o5.getD (v + 1 + 1).toInt.toNat 0) := fun s => t2.1
  rw [dzs_B193_64_62_13]
  dsimp only
  rw [q_lt_F (show v.toInt ≤ (v + 2).toInt by omega), cond_false, u0, Option.bind_some, p1, Option.bind_some, dzs_B193_64_62_13]
  dsimp only
  rw [q_lt_F (show (v + 1).toInt ≤ (v + 2).toInt by omega), cond_false, u1, Option.bind_some, p2, Option.bind_some, dzs_B193_64_62_13]
  dsimp only
  rw [q_lt_F (show (v + 1 + 1).toInt ≤ (v + 2).toInt by omega), cond_false, u2, Option.bind_some, p3, Option.bind_some, dzs_B193_64_62_13]
  dsimp only
  rw [q_lt_T (show (v + 2).toInt < (v + 1 + 1 + 1).toInt by omega)]
  rfl
theorem q_w282b {v : Int32} {op : Int32} {z1 z2 z3 : q_S} (hop : decide (op < 0) = true) (hv : q_rgz 0 117 (3 * (v - 128))) (e1 : dz_M280_64 z (q_o5.getD (3 * (v - 128)).toInt.toNat 0) = some z1) (e2 : dz_M280_64 z1 (q_o5.getD ((3 * (v - 128)).toInt.toNat + 1) 0) = some z2) (e3 : dz_M280_64 z2 (q_o5.getD ((3 * (v - 128)).toInt.toNat + 2) 0) = some z3) (f : Nat) : dz_M282_64_7 (f + 4) z v op 0 = some z3 := by
  have v0 := hv.1
  have v1 := hv.2
  have i0 : ((3 * (v - 128)) + 0).toInt = (3 * (v - 128)).toInt := by rw [Int32.add_zero]
  have i1 : ((3 * (v - 128)) + 1).toInt = (3 * (v - 128)).toInt + 1 := q_addI ⟨by omega, by omega⟩ ⟨by decide, by decide⟩
  have i2 : ((3 * (v - 128)) + 2).toInt = (3 * (v - 128)).toInt + 2 := q_addI ⟨by omega, by omega⟩ ⟨by decide, by decide⟩
  have n0 : ((3 * (v - 128)) + 0).toNatClampNeg = (3 * (v - 128)).toInt.toNat := by rw [Int32.add_zero]; rfl
  have n1 : ((3 * (v - 128)) + 1).toNatClampNeg = (3 * (v - 128)).toInt.toNat + 1 := by show ((3 * (v - 128)) + 1).toInt.toNat = _; omega
  have n2 : ((3 * (v - 128)) + 2).toNatClampNeg = (3 * (v - 128)).toInt.toNat + 2 := by show ((3 * (v - 128)) + 2).toInt.toNat = _; omega
  rw [dzs_M282_64_7]
  dsimp only
  rw [show decide ((0 : Int32) < 3) = true by decide, cond_true, hop, cond_true, q_in_rg (x := (3 * (v - 128)) + 0) (n := 120) (l := 0) (u := 119) ⟨by omega, by omega⟩ (by decide) (by decide), cond_true, n0, e1, Option.bind_some, show (0 : Int32) + 1 = 1 by decide, dzs_M282_64_7]
  dsimp only
  rw [show decide ((1 : Int32) < 3) = true by decide, cond_true, hop, cond_true, q_in_rg (x := (3 * (v - 128)) + 1) (n := 120) (l := 0) (u := 119) ⟨by omega, by omega⟩ (by decide) (by decide), cond_true, n1, e2, Option.bind_some, show (1 : Int32) + 1 = 2 by decide, dzs_M282_64_7]
  dsimp only
  rw [show decide ((2 : Int32) < 3) = true by decide, cond_true, hop, cond_true, q_in_rg (x := (3 * (v - 128)) + 2) (n := 120) (l := 0) (u := 119) ⟨by omega, by omega⟩ (by decide) (by decide), cond_true, n2, e3, Option.bind_some, show (2 : Int32) + 1 = 3 by decide, dzs_M282_64_7]
  rfl
theorem q_lnc (s : q_S) {a : Int32} (ha : q_rgz 0 255 a) : (dz_M285 s a = true → dz_N190 s a = 1 ∧ dz_B185 s a = -1 ∧ decide (3 * (a - 128) < 0) = false ∧ decide (3 * (a - 128) + 2 < 120) = false) ∧ (dz_M285 s a = false → decide (dz_M244 s a < 0) = true → dz_B185 s a = -1 ∧ decide (3 * (a - 128) < 0) = false ∧ decide (3 * (a - 128) + 2 < 120) = true ∧ q_rgz 0 117 (3 * (a - 128)) ∧ 128 ≤ a.toInt ∧ a.toInt < 168) ∧ (decide (dz_M244 s a < 0) = false → dz_B185 s a = dz_M244 s a ∧ decide (3 * dz_M244 s a < 0) = false ∧ decide (3 * dz_M244 s a + 2 < 63) = true ∧ q_rgz 0 60 (3 * dz_M244 s a) ∧ dz_N187 s a = false ∧ dz_N196 s a = a - a / 8 * 8 ∧ q_rgz 0 7 (a - a / 8 * 8) ∧ dz_M285 s a = false ∧ dz_N190 s a = cond (dz_M202 s (a - a / 8 * 8) 3 5) 3 2) := by
  have a0 := ha.1
  have a1 := ha.2
  have tA := q_tlnA a.toInt.toNat (by omega)
  have tB := q_tlnB a.toInt.toNat (by omega)
  have tC := q_tlnC a.toInt.toNat (by omega)
  have tD := q_tlnD a.toInt.toNat (by omega)
  rw [q_ofn ha] at tA tB tC tD
  refine ⟨tA, fun h1 h2 => ?_, fun h1 => ?_⟩
  · obtain ⟨b1, b2, b3, b4, b5, b6⟩ := tB h1 h2
    exact ⟨b1, b2, b3, b4, by omega, by omega⟩
  · obtain ⟨c1, c2, c3, c4, c5⟩ := tC h1
    obtain ⟨d1, d2, d3, d4⟩ := tD h1
    exact ⟨c1, c2, c3, ⟨c4, c5⟩, d1, d2, q_rg_rem (c := 8) ha (by decide) rfl (by decide) (by decide), d3, d4⟩
end
end
section
-- 56.bc
section
variable {TT : (Nat → Int32) → Int32 → (Nat → Int32) → Int32 → Int64 → Int64 → List Int32 → List (Nat → Int32) → (Nat → Int64) → Prop} {x y z m m2 b b2 : q_S} {c d w k : Int} {n : Nat}
/-- the name of a code -/
theorem q_wN (h : q_WL c d m n b z) (hn : n + 3 ≤ 16) (a : Int32) (ha : q_rgz 0 255 a) (hj : dz_M285 z a = false) : ∃ b2 z2, dz_B193_64 b a = some b2 ∧ dz_M282_64 z a = some z2 ∧ q_WL c d m (n + 3) b2 z2 := by
  obtain ⟨-, t2, t3⟩ := q_lnc z ha
  cases ho : decide (dz_M244 z a < 0) with
  | true =>
    obtain ⟨g1, g2, g3, g4, -, -⟩ := t2 hj ho
    obtain ⟨b2, z1, z2, z3, e1, e2, e3, e4, e5⟩ := q_wL13 h hn (3 * (a - 128)) g4 4996
    have g1' : dz_B185 b a = -1 := g1
    refine ⟨b2, z3, ?_, q_w282b ho g4 e2 e3 e4 4996, e5⟩
    unfold dz_B193_64 q_let
    dsimp only
    rw [g1', show decide ((-1 : Int32) < 0) = true by decide, cond_true, g2, cond_false, show dz_B344_13 b = 120 by show ((120 : Int32) >>> ((0 : Int32) &&& 31)) = 120; decide, g3, cond_true]
    exact e1
  | false =>
    obtain ⟨g1, g2, g3, g4, -⟩ := t3 ho
    obtain ⟨b2, z1, z2, z3, e1, e2, e3, e4, e5⟩ := q_wL12 h hn (3 * dz_M244 z a) g4 4996
    have g1' : dz_B185 b a = dz_M244 z a := g1
    refine ⟨b2, z3, ?_, q_w282a ho g4 e2 e3 e4 4996, e5⟩
    unfold dz_B193_64 q_let
    dsimp only
    rw [g1', ho, cond_false, g2, cond_false, show dz_B344_12 b = 63 by show ((63 : Int32) >>> ((0 : Int32) &&& 31)) = 63; decide, g3, cond_true]
    exact e1
/-- a code that jams -/
theorem q_wJ (h : q_WL c d m n b z) (hn : n + 3 ≤ 16) (a : Int32) (ha : q_rgz 0 255 a) (hj : dz_M285 z a = true) : ∃ b2 z1 z2 z3, dz_B193_64 b a = some b2 ∧ dz_M280_64 z 106 = some z1 ∧ dz_M280_64 z1 97 = some z2 ∧ dz_M280_64 z2 109 = some z3 ∧ q_WL c d m (n + 3) b2 z3 := by
  obtain ⟨t1, -⟩ := q_lnc z ha
  obtain ⟨-, g1, g2, g3⟩ := t1 hj
  have g1' : dz_B185 b a = -1 := g1
  obtain ⟨z1, z2, z3, e1, e2, e3, e4⟩ := q_wS3 h hn (fun j => q_o42.getD j 0) ⟨by decide, by decide⟩ ⟨by decide, by decide⟩ ⟨by decide, by decide⟩
  refine ⟨_, z1, z2, z3, ?_, e1, e2, e3, e4⟩
  unfold dz_B193_64 q_let
  dsimp only
  rw [g1', show decide ((-1 : Int32) < 0) = true by decide, cond_true, g2, cond_false, show dz_B344_13 b = 120 by show ((120 : Int32) >>> ((0 : Int32) &&& 31)) = 120; decide, g3, cond_false, q_w324_14 h.2.2.1 hn]
  rfl
theorem q_eqD {a b : Int32} (h : ¬ a.toInt = b.toInt) : decide (a = b) = false := decide_eq_false (fun q => h (by rw [q]))
end
end
section
-- 56.bd
section
variable {TT : (Nat → Int32) → Int32 → (Nat → Int32) → Int32 → Int64 → Int64 → List Int32 → List (Nat → Int32) → (Nat → Int64) → Prop} {x y z m m2 b b2 : q_S} {c d w k : Int} {n : Nat}
/-- behind the operand's number -/
theorem q_wT (h : q_WL c d m n b z) (v : Int32) (hv : q_rgz 0 7 v) (hn : n + 3 ≤ 16) : ∃ b2 z2 n2, (cond (decide (v < 2)) (some b) (cond (decide (8 < v)) (some b) (cond (decide (v = 2)) ((dz_B324_64_15 b).bind fun r5 => some r5) (cond (decide (v = 3)) (some b) (cond (decide (v = 4)) ((dz_B324_64_15 b).bind fun r6 => some r6) (cond (decide (v = 5)) ((dz_B324_64_16 b).bind fun r7 => some r7) (cond (decide (v = 6)) ((dz_B324_64_17 b).bind fun r8 => some r8) (cond (decide (v = 7)) ((dz_B324_64_18 b).bind fun r9 => some r9) ((dz_B325_64 b 41).bind fun r10 => some r10))))))))) = some b2 ∧ (cond (decide (v = 6)) ((dz_M280_64 z 41).bind fun r8 => dz_M283_64_69 r8 v) (dz_M283_64_69 z v)) = some z2 ∧ q_WL c d m n2 b2 z2 ∧ n2 ≤ 16 := by
  have v0 := hv.1
  have v1 := hv.2
  have h3 := h.2.2.1
  rcases (by omega : v.toInt = 0 ∨ v.toInt = 1 ∨ v.toInt = 2 ∨ v.toInt = 3 ∨ v.toInt = 4 ∨ v.toInt = 5 ∨ v.toInt = 6 ∨ v.toInt = 7) with e | e | e | e | e | e | e | e
  · obtain rfl : v = 0 := Int32.toInt_inj.mp e
    exact ⟨b, z, n, rfl, rfl, h, by omega⟩
  · obtain rfl : v = 1 := Int32.toInt_inj.mp e
    exact ⟨b, z, n, rfl, rfl, h, by omega⟩
  · obtain rfl : v = 2 := Int32.toInt_inj.mp e
    obtain ⟨z1, z2, e1, e2, e3⟩ := q_wS2 h (by omega) (fun j => q_o43.getD j 0) ⟨by decide, by decide⟩ ⟨by decide, by decide⟩
    have e1 : dz_M280_64 z 44 = some z1 := e1
    have e2 : dz_M280_64 z1 120 = some z2 := e2
    refine ⟨_, z2, n + 2, by show ((dz_B324_64_15 b).bind fun r => some r) = _; rw [q_w324_15 h3 (by omega)]; rfl, ?_, e3, by omega⟩
    show ((dz_M280_64 z 44).bind fun r9 => (dz_M280_64 r9 120).bind fun r10 => some r10) = some z2
    rw [e1, Option.bind_some, e2]
    rfl
  · obtain rfl : v = 3 := Int32.toInt_inj.mp e
    exact ⟨b, z, n, rfl, rfl, h, by omega⟩
  · obtain rfl : v = 4 := Int32.toInt_inj.mp e
    obtain ⟨z1, z2, e1, e2, e3⟩ := q_wS2 h (by omega) (fun j => q_o43.getD j 0) ⟨by decide, by decide⟩ ⟨by decide, by decide⟩
    have e1 : dz_M280_64 z 44 = some z1 := e1
    have e2 : dz_M280_64 z1 120 = some z2 := e2
    refine ⟨_, z2, n + 2, by show ((dz_B324_64_15 b).bind fun r => some r) = _; rw [q_w324_15 h3 (by omega)]; rfl, ?_, e3, by omega⟩
    show ((dz_M280_64 z 44).bind fun r9 => (dz_M280_64 r9 120).bind fun r10 => some r10) = some z2
    rw [e1, Option.bind_some, e2]
    rfl
  · obtain rfl : v = 5 := Int32.toInt_inj.mp e
    obtain ⟨z1, z2, e1, e2, e3⟩ := q_wS2 h (by omega) (fun j => q_o44.getD j 0) ⟨by decide, by decide⟩ ⟨by decide, by decide⟩
    have e1 : dz_M280_64 z 44 = some z1 := e1
    have e2 : dz_M280_64 z1 121 = some z2 := e2
    refine ⟨_, z2, n + 2, by show ((dz_B324_64_16 b).bind fun r => some r) = _; rw [q_w324_16 h3 (by omega)]; rfl, ?_, e3, by omega⟩
    show ((dz_M280_64 z 44).bind fun r9 => (dz_M280_64 r9 121).bind fun r10 => some r10) = some z2
    rw [e1, Option.bind_some, e2]
    rfl
  · obtain rfl : v = 6 := Int32.toInt_inj.mp e
    obtain ⟨z1, z2, z3, e1, e2, e3, e4⟩ := q_wS3 h (by omega) (fun j => q_o45.getD j 0) ⟨by decide, by decide⟩ ⟨by decide, by decide⟩ ⟨by decide, by decide⟩
    have e1 : dz_M280_64 z 41 = some z1 := e1
    have e2 : dz_M280_64 z1 44 = some z2 := e2
    have e3 : dz_M280_64 z2 121 = some z3 := e3
    refine ⟨_, z3, n + 3, by show ((dz_B324_64_17 b).bind fun r => some r) = _; rw [q_w324_17 h3 (by omega)]; rfl, ?_, e4, by omega⟩
    show ((dz_M280_64 z 41).bind fun r8 => (dz_M280_64 r8 44).bind fun r9 => (dz_M280_64 r9 121).bind fun r10 => some r10) = some z3
    rw [e1, Option.bind_some, e2, Option.bind_some, e3]
    rfl
  · obtain rfl : v = 7 := Int32.toInt_inj.mp e
    obtain ⟨z1, z2, z3, e1, e2, e3, e4⟩ := q_wS3 h (by omega) (fun j => q_o46.getD j 0) ⟨by decide, by decide⟩ ⟨by decide, by decide⟩ ⟨by decide, by decide⟩
    have e1 : dz_M280_64 z 44 = some z1 := e1
    have e2 : dz_M280_64 z1 120 = some z2 := e2
    have e3 : dz_M280_64 z2 41 = some z3 := e3
    refine ⟨_, z3, n + 3, by show ((dz_B324_64_18 b).bind fun r => some r) = _; rw [q_w324_18 h3 (by omega)]; rfl, ?_, e4, by omega⟩
    show ((dz_M280_64 z 44).bind fun r8 => (dz_M280_64 r8 120).bind fun r9 => (dz_M280_64 r9 41).bind fun r10 => some r10) = some z3
    rw [e1, Option.bind_some, e2, Option.bind_some, e3]
    rfl
end
end
section
-- 56.ca
section
variable {TT : (Nat → Int32) → Int32 → (Nat → Int32) → Int32 → Int64 → Int64 → List Int32 → List (Nat → Int32) → (Nat → Int64) → Prop} {x y z m m2 b b2 : q_S} {c d w k : Int} {n : Nat}
theorem q_ps_ps {T : Type} (n n2 b1 b2 k : Nat) (f g : Nat → T) (e : T) : q_ps n n2 b1 b2 k f (q_ps n n2 b1 b2 k g e) = q_ps n n2 b1 b2 k f e := by
  unfold q_ps
  cases (Nat.ble b1 k && Nat.blt k (b1 + n)) with
  | true => rfl
  | false =>
    cases (Nat.ble b2 k && Nat.blt k (b2 + n2)) with
    | true => rfl
    | false => rfl
theorem q_ptB (s r t : q_S) : q_pt 2 0 71 0 (q_pt 2 0 71 0 s r) t = q_pt 2 0 71 0 s t := by
  unfold q_pt
  simp only [q_ps_ps]
theorem q_psB {T : Type} (j : Nat) (f : Nat → T) (e : T) : q_ps 2 0 71 0 (q_eN 32 1 73 j) f e = e := by
  refine q_ps_out (fun i hi q => ?_) f e
  rw [q_eN1 (show i < 2 by omega)] at q
  rcases Nat.lt_or_ge j 32 with g | g
  · rw [q_eN1 g] at q; omega
  · rw [q_eN2 g] at q; omega
theorem q_vwB (s r : q_S) : q_vw 32 1 73 (q_pt 2 0 71 0 s r) = q_vw 32 1 73 s := by
  unfold q_vw q_pt
  simp only [q_psB]
theorem q_WL33 (h : q_WL c d m n b z) (e : q_eq33 z y) (hI : q_Iv c d n y) : q_WL c d m n b y :=
  ⟨q_eqL_33 h.1 e, hI, h.2.2.1, by rw [e.2]; exact h.2.2.2.1, by rw [e.1 32 rfl]; exact h.2.2.2.2⟩
theorem q_yw328 (hc : 0 ≤ (b.2.1 0 3).toInt) : ∃ r, dz_B328_64 b 0 = some r ∧ r.2.1 0 3 = 0 := by
  have e1 : dz_B332_64 b 0 = some b := q_b332 (by decide) (by decide)
  unfold dz_B328_64 dz_B335_64
  rw [show decide ((0 : Int32) < 0) = false by decide, cond_false, e1, Option.bind_some, q_lt_F (show (0 : Int32).toInt ≤ (b.2.1 0 3).toInt from hc), cond_false]
  cases decide (0 < b.2.1 0 3) with
  | true => exact ⟨_, rfl, rfl⟩
  | false => exact ⟨_, rfl, rfl⟩
/-- the operand's number and what is behind it -/
theorem q_yw27 (h : q_WL c d m n b z) {l W a : Int32} (hl : q_rgz 0 7 l) (hW : q_rgz 0 4095 W) (hn : n ≤ 9 ∨ n ≤ 10 ∧ W.toInt ≤ 255) (hr : ∀ (u : Int) z, q_eqL m z → q_Iv c d u z → ∃ z2, cond (dz_M202 z l 3 5) (dz_M248_64 z (a + 1)) (dz_M247_64 z (a + 1)) = some (z2, W) ∧ q_eq33 z z2 ∧ q_Iv c d u z2) : ∃ b2 z2 n2, dz_B196_64_34 b l W = some b2 ∧ dz_M283_64_27 z l a = some z2 ∧ q_WL c d m n2 b2 z2 ∧ n2 ≤ 16 := by
  obtain ⟨z1, p1, p2, p3⟩ := hr n z h.1 h.2.1
  have w1 := q_WL33 h p2 p3
  obtain ⟨b3, z3, n3, d1, d2, d3, d4, d5⟩ := q_wD w1 W hW (by omega)
  obtain ⟨b4, z4, n4, t1, t2, t3, t4⟩ := q_wT d3 l hl (by
    rcases hn with q | q
    · omega
    · have := d5 q.2
      omega)
  refine ⟨b4, z4, n4, ?_, ?_, t3, t4⟩
  · unfold dz_B196_64_34
    rw [d1]
    exact t1
  · unfold dz_M283_64_27 q_let
    dsimp only
    cases e : dz_M202 z l 3 5 with
    | true =>
      rw [e, cond_true] at p1
      rw [cond_true, p1, Option.bind_some]
      dsimp only
      rw [d2, Option.bind_some]
      exact t2
    | false =>
      rw [e, cond_false] at p1
      rw [cond_false, p1, Option.bind_some]
      dsimp only
      rw [d2, Option.bind_some]
      exact t2
/-- the operand of a code with a mode -/
theorem q_yw283 (h : q_WL c d m n b z) (hn : n ≤ 8) {l W a : Int32} (hl : q_rgz 0 7 l) (hW : q_rgz 0 4095 W) (hb : W.toInt ≤ 255 ∨ 3 ≤ l.toInt ∧ l.toInt ≤ 5) (hr : ∀ (u : Int) z, q_eqL m z → q_Iv c d u z → ∃ z2, cond (dz_M202 z l 3 5) (dz_M248_64 z (a + 1)) (dz_M247_64 z (a + 1)) = some (z2, W) ∧ q_eq33 z z2 ∧ q_Iv c d u z2) : ∃ b2 z2 n2, dz_B196_64 b l W = some b2 ∧ dz_M283_64 z l a = some z2 ∧ q_WL c d m n2 b2 z2 ∧ n2 ≤ 16 := by
  have l0 := hl.1
  have l1 := hl.2
  have z0 : (0 : Int32).toInt = 0 := rfl
  have z5 : (5 : Int32).toInt = 5 := rfl
  have z6 : (6 : Int32).toInt = 6 := rfl
  obtain ⟨e1, c1, w1⟩ := q_wC h (by omega) 32 ⟨by decide, by decide⟩
  by_cases q0 : l.toInt = 0
  · obtain ⟨e2, c2, w2⟩ := q_wC w1 (by omega) 35 ⟨by decide, by decide⟩
    obtain ⟨b2, z2, n2, f1, f2, f3, f4⟩ := q_yw27 w2 hl hW (by omega) hr
    refine ⟨b2, z2, n2, ?_, ?_, f3, f4⟩
    · unfold dz_B196_64
      rw [e1, Option.bind_some, q_eq_T (show l.toInt = (0 : Int32).toInt by omega), cond_true, e2, Option.bind_some]
      exact f1
    · unfold dz_M283_64
      rw [c1, Option.bind_some, q_eq_T (show l.toInt = (0 : Int32).toInt by omega), cond_true, c2, Option.bind_some]
      unfold dz_M283_64_16
      rw [q_lt_F (show l.toInt ≤ (5 : Int32).toInt by omega), cond_false]
      exact f2
  by_cases q6 : l.toInt < 6
  · obtain ⟨b2, z2, n2, f1, f2, f3, f4⟩ := q_yw27 w1 hl hW (by omega) hr
    refine ⟨b2, z2, n2, ?_, ?_, f3, f4⟩
    · unfold dz_B196_64
      rw [e1, Option.bind_some, q_eq_F (show ¬ l.toInt = (0 : Int32).toInt by omega), cond_false, q_lt_T (show l.toInt < (6 : Int32).toInt by omega), cond_true]
      exact f1
    · unfold dz_M283_64
      rw [c1, Option.bind_some, q_eq_F (show ¬ l.toInt = (0 : Int32).toInt by omega), cond_false]
      unfold dz_M283_64_16
      rw [q_lt_F (show l.toInt ≤ (5 : Int32).toInt by omega), cond_false]
      exact f2
  · obtain ⟨e2, c2, w2⟩ := q_wC w1 (by omega) 40 ⟨by decide, by decide⟩
    obtain ⟨b2, z2, n2, f1, f2, f3, f4⟩ := q_yw27 w2 hl hW (by omega) hr
    refine ⟨b2, z2, n2, ?_, ?_, f3, f4⟩
    · unfold dz_B196_64
      rw [e1, Option.bind_some, q_eq_F (show ¬ l.toInt = (0 : Int32).toInt by omega), cond_false, q_lt_F (show (6 : Int32).toInt ≤ l.toInt by omega), cond_false, e2, Option.bind_some]
      exact f1
    · unfold dz_M283_64
      rw [c1, Option.bind_some, q_eq_F (show ¬ l.toInt = (0 : Int32).toInt by omega), cond_false]
      unfold dz_M283_64_16
      rw [q_lt_T (show (5 : Int32).toInt < l.toInt by omega), cond_true, c2, Option.bind_some]
      exact f2
theorem q_tl2a : ∀ i, i < 29 → dz_N190 q_s0 (Int32.ofNat (128 + i)) = 1 ∧ dz_M246 q_s0 (Int32.ofNat (128 + i)) = 1 := by decide +kernel
theorem q_tl2b : ∀ i, i < 3 → dz_N190 q_s0 (Int32.ofNat (157 + i)) = 3 ∧ dz_M246 q_s0 (Int32.ofNat (157 + i)) = 3 ∧ dz_N187 q_s0 (Int32.ofNat (157 + i)) = false ∧ dz_N196 q_s0 (Int32.ofNat (157 + i)) = cond (decide (Int32.ofNat (157 + i) = 159)) 8 3 := by decide +kernel
theorem q_tl2c : ∀ i, i < 8 → dz_N190 q_s0 (Int32.ofNat (160 + i)) = 2 ∧ dz_M246 q_s0 (Int32.ofNat (160 + i)) = 2 ∧ dz_N187 q_s0 (Int32.ofNat (160 + i)) = true ∧ decide (Int32.ofNat (160 + i) = 159) = false := by decide +kernel
theorem q_ln2 (s t : q_S) {a : Int32} (h1 : 128 ≤ a.toInt) (h2 : a.toInt < 168) : (a.toInt < 157 → dz_N190 s a = 1 ∧ dz_M246 t a = 1) ∧ (157 ≤ a.toInt → a.toInt < 160 → dz_N190 s a = 3 ∧ dz_M246 t a = 3 ∧ dz_N187 s a = false ∧ dz_N196 s a = cond (decide (a = 159)) 8 3) ∧ (160 ≤ a.toInt → dz_N190 s a = 2 ∧ dz_M246 t a = 2 ∧ dz_N187 s a = true ∧ decide (a = 159) = false) := by
  have e : Int32.ofNat a.toInt.toNat = a := q_ofn (u := 167) ⟨by omega, by omega⟩
  refine ⟨fun q => ?_, fun q1 q2 => ?_, fun q => ?_⟩
  · have t1 := q_tl2a (a.toInt.toNat - 128) (by omega)
    rw [show 128 + (a.toInt.toNat - 128) = a.toInt.toNat by omega, e] at t1
    exact t1
  · have t1 := q_tl2b (a.toInt.toNat - 157) (by omega)
    rw [show 157 + (a.toInt.toNat - 157) = a.toInt.toNat by omega, e] at t1
    exact t1
  · have t1 := q_tl2c (a.toInt.toNat - 160) (by omega)
    rw [show 160 + (a.toInt.toNat - 160) = a.toInt.toNat by omega, e] at t1
    exact t1
theorem q_196_3 (b : q_S) (W : Int32) : dz_B196_64 b 3 W = (dz_B325_64 b 32).bind fun r2 => (dz_B326_64 r2 W).bind fun r4 => some r4 := rfl
theorem q_196_8 (b : q_S) (W : Int32) : dz_B196_64 b 8 W = (dz_B325_64 b 32).bind fun r2 => (dz_B325_64 r2 40).bind fun r3 => (dz_B326_64 r3 W).bind fun r4 => (dz_B325_64 r4 41).bind fun r10 => some r10 := rfl
/-- the line, as the class writes it, its puts taken together -/
def q_lx (x : q_S) (a : Int32) : Option q_S := (dz_N90_65 (q_vw 32 1 73 x) a).bind fun r2 => (dz_N90_65 (q_vw 32 1 73 x) ((a + 1) &&& 4095)).bind fun r4 => (dz_B328_64 (q_vw 2 71 0 x) 0).bind fun r5 => (dz_B326_64 (q_vw 2 71 0 (q_pt 2 0 71 0 x r5)) a).bind fun r6 => (dz_B325_64 (q_vw 2 71 0 (q_pt 2 0 71 0 x r6)) 32).bind fun r7 => (dz_B193_64 (q_vw 2 71 0 (q_pt 2 0 71 0 x r7)) r2).bind fun r8 => cond (decide (dz_N190 (q_vw 32 1 73 x) r2 = 1)) (some (q_pt 2 0 71 0 x r8)) (cond (dz_N187 (q_vw 32 1 73 x) r2) ((dz_B325_64 (q_vw 2 71 0 (q_pt 2 0 71 0 x r8)) 32).bind fun r10 => (dz_B326_64 (q_vw 2 71 0 (q_pt 2 0 71 0 x r10)) (dz_N193 (q_vw 32 1 73 x) a r4)).bind fun r12 => some (q_pt 2 0 71 0 x r12)) (cond (decide (dz_N190 (q_vw 32 1 73 x) r2 = 2)) ((dz_B196_64 (q_vw 2 71 0 (q_pt 2 0 71 0 x r8)) (dz_N196 (q_vw 32 1 73 x) r2) r4).bind fun r14 => some (q_pt 2 0 71 0 x r14)) ((dz_N92_65 (q_vw 32 1 73 x) (a + 1)).bind fun r15 => (dz_B196_64 (q_vw 2 71 0 (q_pt 2 0 71 0 x r8)) (dz_N196 (q_vw 32 1 73 x) r2) r15).bind fun r17 => some (q_pt 2 0 71 0 x r17))))
theorem q_lx_eq (x : q_S) (a : Int32) : dz_X194_135_66 x a = q_lx x a := by
  unfold dz_X194_135_66 q_lx q_let
  simp only [q_ptB, q_vwB]
/-- the line, as the model writes it -/
def q_yml (s : q_S) (a1 : Int32) : Option (q_S × Int32) := (dz_M247_64 s a1).bind fun r18 => (dz_M281_64 (q_sI r18.1 0 35 0) a1).bind fun r19 => (dz_M280_64 r19 32).bind fun r20 => q_let (dz_M285 r20 r18.2) fun r21 => cond r21 ((dz_M280_64 r20 106).bind fun r22 => (dz_M280_64 r22 97).bind fun r23 => (dz_M280_64 r23 109).bind fun r24 => some (r24, (r24.2.1 0 35))) ((dz_M282_64 r20 r18.2).bind fun r25 => q_let (dz_M244 r25 r18.2) fun r26 => cond (decide (r26 < 0)) ((dz_M284_64 r25 r18.2 a1).bind fun r27 => some (r27, (r27.2.1 0 35))) ((dz_M283_64 r25 (r18.2 - r18.2 / 8 * 8) a1).bind fun r28 => some (r28, (r28.2.1 0 35))))
end
end
section
-- 56.cb
section
variable {TT : (Nat → Int32) → Int32 → (Nat → Int32) → Int32 → Int64 → Int64 → List Int32 → List (Nat → Int32) → (Nat → Int64) → Prop} {x y z m m2 b b2 : q_S} {c d w k : Int} {n : Nat}
theorem q_wlin (h : q_R q_TTs (q_vw 32 1 73 x) m) (hI : q_Iv c d w m) (hc : 0 ≤ (x.2.1 71 3).toInt) (a : Int32) (ha : q_rgz 0 4095 a) : ∃ r z2 n2, q_lx x a = some (q_pt 2 0 71 0 x r) ∧ q_yml m a = some (z2, z2.2.1 0 35) ∧ q_WL c d m n2 r z2 ∧ n2 ≤ 16 := by
  have rA1 : q_rgz 0 4095 ((a + 1) &&& 4095) := q_rg_and _ 4095 (by decide) rfl
  have rA2 : q_rgz 0 4095 ((a + 1 + 1) &&& 4095) := q_rg_and _ 4095 (by decide) rfl
  obtain ⟨v, m1, e1, e2, e3, e4, e5, rv⟩ := q_rdz h hI a ha
  obtain ⟨nr, -, f1, -, -, -, -, rn⟩ := q_rdz h hI ((a + 1) &&& 4095) rA1
  obtain ⟨hi, -, g1, -, -, -, -, rh⟩ := q_rdz h hI ((a + 1 + 1) &&& 4095) rA2
  have rd1 : ∀ (u : Int) z, q_eqL m z → q_Iv c d u z → ∃ z2, dz_M247_64 z (a + 1) = some (z2, nr) ∧ q_eq33 z z2 ∧ q_Iv c d u z2 := fun u z q qI => by
    obtain ⟨v', z2, a1, a2, a3, -, a5, -⟩ := q_rdz (q_R_15 h (q_eqL_15 q)) qI ((a + 1) &&& 4095) rA1
    rw [f1] at a1
    cases a1
    refine ⟨z2, ?_, a3, a5⟩
    show (dz_M214_64 z ((a + 1) &&& 4095)).bind (fun r4 => some (r4.1, r4.2)) = _
    rw [a2]; rfl
  have rd2 : ∀ (u : Int) z, q_eqL m z → q_Iv c d u z → ∃ z2, dz_M247_64 z (a + 1 + 1) = some (z2, hi) ∧ q_eq33 z z2 ∧ q_Iv c d u z2 := fun u z q qI => by
    obtain ⟨v', z2, a1, a2, a3, -, a5, -⟩ := q_rdz (q_R_15 h (q_eqL_15 q)) qI ((a + 1 + 1) &&& 4095) rA2
    rw [g1] at a1
    cases a1
    refine ⟨z2, ?_, a3, a5⟩
    show (dz_M214_64 z ((a + 1 + 1) &&& 4095)).bind (fun r4 => some (r4.1, r4.2)) = _
    rw [a2]; rfl
  have rdw : ∀ (u : Int) z, q_eqL m z → q_Iv c d u z → ∃ z2, dz_M248_64 z (a + 1) = some (z2, (nr + (256 * hi)) &&& 4095) ∧ q_eq33 z z2 ∧ q_Iv c d u z2 := fun u z q qI => by
    obtain ⟨z2, a1, a2, a3⟩ := rd1 u z q qI
    obtain ⟨z3, b1, b2, b3⟩ := rd2 u z2 (q_eqL_33 q a2) a3
    refine ⟨z3, ?_, a2.trans b2, b3⟩
    unfold dz_M248_64
    rw [a1, Option.bind_some]
    dsimp only
    rw [b1]; rfl
  have rdb : ∀ (u : Int) z, q_eqL m z → q_Iv c d u z → ∃ z2, dz_M253_64 z a = some (z2, dz_N193 (q_vw 32 1 73 x) a nr) ∧ q_eq33 z z2 ∧ q_Iv c d u z2 := fun u z q qI => by
    obtain ⟨z2, a1, a2, a3⟩ := rd1 u z q qI
    refine ⟨z2, ?_, a2, a3⟩
    unfold dz_M253_64 dz_N193
    rw [a1, Option.bind_some]
    dsimp only
    cases decide (127 < nr) <;> rfl
  have e92 : dz_N92_65 (q_vw 32 1 73 x) (a + 1) = some ((nr + (256 * hi)) &&& 4095) := by
    unfold dz_N92_65
    rw [f1, Option.bind_some, g1]
    rfl
  have rW : q_rgz 0 4095 ((nr + (256 * hi)) &&& 4095) := q_rg_and _ 4095 (by decide) rfl
  have rT : q_rgz 0 4095 (dz_N193 (q_vw 32 1 73 x) a nr) := by
    unfold dz_N193
    cases decide (127 < nr) with
    | true => exact q_rg_and _ 4095 (by decide) rfl
    | false => exact q_rg_and _ 4095 (by decide) rfl
  have eM : dz_M247_64 m a = some (m1, v) := by
    show (dz_M214_64 m (a &&& 4095)).bind (fun r4 => some (r4.1, r4.2)) = _
    rw [q_a12 ha, e2]; rfl
  obtain ⟨r5, a5, k5⟩ := q_yw328 (b := q_vw 2 71 0 x) hc
  have W0 : q_WL c d m 0 (q_vw 2 71 0 (q_pt 2 0 71 0 x r5)) (q_sI m1 0 35 0) := by
    refine ⟨q_eqL_I (q_eqL_33 (q_eqL_r m) e3) 0, q_Iv_w0 e5 ⟨by decide, by decide⟩, ?_, ?_, fun i hi => absurd hi (Nat.not_lt_zero i)⟩
    · show (r5.2.1 0 3).toInt = ((0 : Nat) : Int)
      rw [k5]; rfl
    · show (0 : Int32) = r5.2.1 0 3
      rw [k5]
  obtain ⟨r6, z6, n6, a6, c6, w6, l6, -⟩ := q_wD W0 a ha (Or.inl (by omega))
  have w6' : q_WL c d m n6 (q_vw 2 71 0 (q_pt 2 0 71 0 x r6)) z6 := w6
  obtain ⟨a7, c7, w7⟩ := q_wC w6' (by omega) 32 ⟨by decide, by decide⟩
  generalize q_bp (q_vw 2 71 0 (q_pt 2 0 71 0 x r6)) n6 32 = r7 at a7 w7
  generalize q_zp z6 n6 32 = z7 at c7 w7
  have w7' : q_WL c d m (n6 + 1) (q_vw 2 71 0 (q_pt 2 0 71 0 x r7)) z7 := w7
  have EX : ∀ T : Option q_S, ((dz_B193_64 (q_vw 2 71 0 (q_pt 2 0 71 0 x r7)) v).bind fun r8 => cond (decide (dz_N190 (q_vw 32 1 73 x) v = 1)) (some (q_pt 2 0 71 0 x r8)) (cond (dz_N187 (q_vw 32 1 73 x) v) ((dz_B325_64 (q_vw 2 71 0 (q_pt 2 0 71 0 x r8)) 32).bind fun r10 => (dz_B326_64 (q_vw 2 71 0 (q_pt 2 0 71 0 x r10)) (dz_N193 (q_vw 32 1 73 x) a nr)).bind fun r12 => some (q_pt 2 0 71 0 x r12)) (cond (decide (dz_N190 (q_vw 32 1 73 x) v = 2)) ((dz_B196_64 (q_vw 2 71 0 (q_pt 2 0 71 0 x r8)) (dz_N196 (q_vw 32 1 73 x) v) nr).bind fun r14 => some (q_pt 2 0 71 0 x r14)) ((dz_N92_65 (q_vw 32 1 73 x) (a + 1)).bind fun r15 => (dz_B196_64 (q_vw 2 71 0 (q_pt 2 0 71 0 x r8)) (dz_N196 (q_vw 32 1 73 x) v) r15).bind fun r17 => some (q_pt 2 0 71 0 x r17))))) = T → q_lx x a = T := fun T q => by
    unfold q_lx
    rw [e1, Option.bind_some, f1, Option.bind_some, a5, Option.bind_some, a6, Option.bind_some, a7, Option.bind_some]
    exact q
  have EM : ∀ T : Option (q_S × Int32), (cond (dz_M285 z7 v) ((dz_M280_64 z7 106).bind fun r22 => (dz_M280_64 r22 97).bind fun r23 => (dz_M280_64 r23 109).bind fun r24 => some (r24, (r24.2.1 0 35))) ((dz_M282_64 z7 v).bind fun r25 => cond (decide (dz_M244 r25 v < 0)) ((dz_M284_64 r25 v a).bind fun r27 => some (r27, (r27.2.1 0 35))) ((dz_M283_64 r25 (v - v / 8 * 8) a).bind fun r28 => some (r28, (r28.2.1 0 35))))) = T → q_yml m a = T := fun T q => by
    unfold q_yml q_let
    rw [eM, Option.bind_some]
    dsimp only
    rw [c6, Option.bind_some, c7, Option.bind_some]
    exact q
  obtain ⟨t1, t2, t3⟩ := q_lnc z7 rv
  cases hj : dz_M285 z7 v with
  | true =>
    obtain ⟨r8, z1, z2, z3, p1, p2, p3, p4, p5⟩ := q_wJ w7' (by omega) v rv hj
    obtain ⟨i1, -⟩ := t1 hj
    have i1' : dz_N190 (q_vw 32 1 73 x) v = 1 := i1
    refine ⟨r8, z3, _, EX _ ?_, EM _ ?_, p5, by omega⟩
    · rw [p1, Option.bind_some, i1']
      rfl
    · rw [hj, cond_true, p2, Option.bind_some, p3, Option.bind_some, p4]
      rfl
  | false =>
    obtain ⟨r8, z8, p1, p2, p3⟩ := q_wN w7' (by omega) v rv hj
    have w8 : q_WL c d m (n6 + 1 + 3) (q_vw 2 71 0 (q_pt 2 0 71 0 x r8)) z8 := p3
    cases ho : decide (dz_M244 z7 v < 0) with
    | true =>
      have ho' : decide (dz_M244 z8 v < 0) = true := ho
      obtain ⟨-, -, -, -, j1, j2⟩ := t2 hj ho
      obtain ⟨u1, u2, u3⟩ := q_ln2 (q_vw 32 1 73 x) z8 j1 j2
      by_cases q1 : v.toInt < 157
      · obtain ⟨i1, i2⟩ := u1 q1
        refine ⟨r8, z8, _, EX _ ?_, EM _ ?_, p3, by omega⟩
        · rw [p1, Option.bind_some, i1]
          rfl
        · rw [hj, cond_false, p2, Option.bind_some, ho', cond_true]
          unfold dz_M284_64 q_let
          rw [i2]
          rfl
      by_cases q2 : v.toInt < 160
      · obtain ⟨i1, i2, i3, i4⟩ := u2 (by omega) q2
        obtain ⟨a10, c10, w10⟩ := q_wC w8 (by omega) 32 ⟨by decide, by decide⟩
        cases h9 : decide (v = 159) with
        | true =>
          obtain ⟨a11, c11, w11⟩ := q_wC w10 (by omega) 40 ⟨by decide, by decide⟩
          obtain ⟨z12, p12, s12, I12⟩ := rdw _ _ w11.1 w11.2.1
          obtain ⟨b13, z13, n13, a13, c13, w13, l13, -⟩ := q_wD (q_WL33 w11 s12 I12) _ rW (Or.inl (by omega))
          obtain ⟨a14, c14, w14⟩ := q_wC w13 (by omega) 41 ⟨by decide, by decide⟩
          refine ⟨_, _, _, EX _ ?_, EM _ ?_, w14, by omega⟩
          · rw [p1, Option.bind_some, i1, i3, i4, h9, e92]
            show ((dz_B196_64 (q_vw 2 71 0 (q_pt 2 0 71 0 x r8)) 8 ((nr + (256 * hi)) &&& 4095)).bind fun r17 => some (q_pt 2 0 71 0 x r17)) = _
            rw [q_196_8, a10, Option.bind_some, a11, Option.bind_some, a13, Option.bind_some, a14]
            rfl
          · rw [hj, cond_false, p2, Option.bind_some, ho', cond_true]
            unfold dz_M284_64 q_let
            rw [i2]
            show (((dz_M280_64 z8 32).bind fun r4 => cond (decide (v = 159)) ((dz_M280_64 r4 40).bind fun r5 => dz_M284_64_28 r5 v a) (dz_M284_64_28 r4 v a)).bind fun r27 => some (r27, (r27.2.1 0 35))) = _
            rw [c10, Option.bind_some, h9, cond_true, c11, Option.bind_some]
            unfold dz_M284_64_28 q_let
            rw [show dz_M246 (q_zp (q_zp z8 (n6 + 1 + 3) 32) (n6 + 1 + 3 + 1) 40) v = 3 from i2, h9]
            show (((dz_M248_64 (q_zp (q_zp z8 (n6 + 1 + 3) 32) (n6 + 1 + 3 + 1) 40) (a + 1)).bind fun r10 => (dz_M281_64 r10.1 r10.2).bind fun r11 => (dz_M280_64 r11 41).bind fun r12 => some r12).bind fun r27 => some (r27, (r27.2.1 0 35))) = _
            rw [p12, Option.bind_some]
            dsimp only
            rw [c13, Option.bind_some, c14]
            rfl
        | false =>
          obtain ⟨z12, p12, s12, I12⟩ := rdw _ _ w10.1 w10.2.1
          obtain ⟨b13, z13, n13, a13, c13, w13, l13, -⟩ := q_wD (q_WL33 w10 s12 I12) _ rW (Or.inl (by omega))
          refine ⟨_, _, _, EX _ ?_, EM _ ?_, w13, by omega⟩
          · rw [p1, Option.bind_some, i1, i3, i4, h9, e92]
            show ((dz_B196_64 (q_vw 2 71 0 (q_pt 2 0 71 0 x r8)) 3 ((nr + (256 * hi)) &&& 4095)).bind fun r17 => some (q_pt 2 0 71 0 x r17)) = _
            rw [q_196_3, a10, Option.bind_some, a13]
            rfl
          · rw [hj, cond_false, p2, Option.bind_some, ho', cond_true]
            unfold dz_M284_64 q_let
            rw [i2]
            show (((dz_M280_64 z8 32).bind fun r4 => cond (decide (v = 159)) ((dz_M280_64 r4 40).bind fun r5 => dz_M284_64_28 r5 v a) (dz_M284_64_28 r4 v a)).bind fun r27 => some (r27, (r27.2.1 0 35))) = _
            rw [c10, Option.bind_some, h9, cond_false]
            unfold dz_M284_64_28 q_let
            rw [show dz_M246 (q_zp z8 (n6 + 1 + 3) 32) v = 3 from i2, h9]
            show (((dz_M248_64 (q_zp z8 (n6 + 1 + 3) 32) (a + 1)).bind fun r10 => (dz_M281_64 r10.1 r10.2).bind fun r11 => some r11).bind fun r27 => some (r27, (r27.2.1 0 35))) = _
            rw [p12, Option.bind_some]
            dsimp only
            rw [c13]
            rfl
      · obtain ⟨i1, i2, i3, i4⟩ := u3 (by omega)
        obtain ⟨a10, c10, w10⟩ := q_wC w8 (by omega) 32 ⟨by decide, by decide⟩
        have w10' : q_WL c d m (n6 + 1 + 3 + 1) (q_vw 2 71 0 (q_pt 2 0 71 0 x (q_bp (q_vw 2 71 0 (q_pt 2 0 71 0 x r8)) (n6 + 1 + 3) 32))) (q_zp z8 (n6 + 1 + 3) 32) := w10
        obtain ⟨z12, p12, s12, I12⟩ := rdb _ _ w10.1 w10.2.1
        obtain ⟨b13, z13, n13, a13, c13, w13, l13, -⟩ := q_wD (q_WL33 w10' s12 I12) _ rT (Or.inl (by omega))
        refine ⟨_, _, _, EX _ ?_, EM _ ?_, w13, by omega⟩
        · rw [p1, Option.bind_some, i1, i3]
          show ((dz_B325_64 (q_vw 2 71 0 (q_pt 2 0 71 0 x r8)) 32).bind fun r10 => (dz_B326_64 (q_vw 2 71 0 (q_pt 2 0 71 0 x r10)) (dz_N193 (q_vw 32 1 73 x) a nr)).bind fun r12 => some (q_pt 2 0 71 0 x r12)) = _
          rw [a10, Option.bind_some, a13]
          rfl
        · rw [hj, cond_false, p2, Option.bind_some, ho', cond_true]
          unfold dz_M284_64 q_let
          rw [i2]
          show (((dz_M280_64 z8 32).bind fun r4 => cond (decide (v = 159)) ((dz_M280_64 r4 40).bind fun r5 => dz_M284_64_28 r5 v a) (dz_M284_64_28 r4 v a)).bind fun r27 => some (r27, (r27.2.1 0 35))) = _
          rw [c10, Option.bind_some, i4, cond_false]
          unfold dz_M284_64_28 q_let
          rw [show dz_M246 (q_zp z8 (n6 + 1 + 3) 32) v = 2 from i2, i4]
          show (((dz_M253_64 (q_zp z8 (n6 + 1 + 3) 32) a).bind fun r7 => (dz_M281_64 r7.1 r7.2).bind fun r8 => some r8).bind fun r27 => some (r27, (r27.2.1 0 35))) = _
          rw [p12, Option.bind_some]
          dsimp only
          rw [c13]
          rfl
    | false =>
      have ho' : decide (dz_M244 z8 v < 0) = false := ho
      obtain ⟨-, -, -, -, j5, j6, j7, -, j9⟩ := t3 ho
      have j5' : dz_N187 (q_vw 32 1 73 x) v = false := j5
      have j6' : dz_N196 (q_vw 32 1 73 x) v = v - v / 8 * 8 := j6
      cases hm : dz_M202 z7 (v - v / 8 * 8) 3 5 with
      | true =>
        have g35 : q_rgz 3 5 (v - v / 8 * 8) := q_p202 hm (q_rg_lit (n := 3) rfl) (q_rg_lit (n := 5) rfl)
        rw [hm] at j9
        have j9' : dz_N190 (q_vw 32 1 73 x) v = 3 := j9
        obtain ⟨b13, z13, n13, a13, c13, w13, l13⟩ := q_yw283 w8 (by omega) (a := a) j7 rW (Or.inr ⟨g35.1, g35.2⟩) (fun u z q qI => by
          rw [show dz_M202 z (v - v / 8 * 8) 3 5 = true from hm, cond_true]
          exact rdw u z q qI)
        refine ⟨_, _, _, EX _ ?_, EM _ ?_, w13, l13⟩
        · rw [p1, Option.bind_some, j9', j5', j6', e92]
          show ((dz_B196_64 (q_vw 2 71 0 (q_pt 2 0 71 0 x r8)) (v - v / 8 * 8) ((nr + (256 * hi)) &&& 4095)).bind fun r17 => some (q_pt 2 0 71 0 x r17)) = _
          rw [a13]
          rfl
        · rw [hj, cond_false, p2, Option.bind_some, ho', cond_false, c13]
          rfl
      | false =>
        rw [hm] at j9
        have j9' : dz_N190 (q_vw 32 1 73 x) v = 2 := j9
        obtain ⟨b13, z13, n13, a13, c13, w13, l13⟩ := q_yw283 w8 (by omega) (a := a) j7 (q_rg_le rn (by decide) (by decide)) (Or.inl rn.2) (fun u z q qI => by
          rw [show dz_M202 z (v - v / 8 * 8) 3 5 = false from hm, cond_false]
          exact rd1 u z q qI)
        refine ⟨_, _, _, EX _ ?_, EM _ ?_, w13, l13⟩
        · rw [p1, Option.bind_some, j9', j5', j6']
          show ((dz_B196_64 (q_vw 2 71 0 (q_pt 2 0 71 0 x r8)) (v - v / 8 * 8) nr).bind fun r14 => some (q_pt 2 0 71 0 x r14)) = _
          rw [a13]
          rfl
        · rw [hj, cond_false, p2, Option.bind_some, ho', cond_false, c13]
          rfl
end
end
section
-- 56.d
section
variable {x y z m m2 : q_S} {c d w k : Int}
/-- the line is written anew -/
theorem q_LXlin {n : Nat} {r : q_S} (h : q_LX k m x) (g : q_WL c d (q_mok m) n r z) (hn : n ≤ 16) (f : Nat → Int64) : q_LX (k + 1) z (q_sL (q_pt 2 0 71 0 x r) 172 f) := by
  obtain ⟨h1, h2, h3, h4, h5, h6, ⟨r1, r2, r3, r4, r5⟩, h8⟩ := h
  obtain ⟨g1, g2, g3, g4, g5⟩ := g
  have e17 : z.2.1 0 17 = m.2.1 0 17 := g1.2.1 0 17 rfl
  have e34 : z.2.1 0 34 = m.2.1 0 34 := g1.2.1 0 34 rfl
  have e31 : z.2.2 = m.2.2 := g1.2.2
  have hs := q_RO_of (q_R_15 (q_RO_s (q_ROk h1)) (q_eqL_15 g1))
  have s0 : (0 : Int) < (m.2.1 0 17).toInt → q_R q_TTs (q_vwS 0 x) (q_ms 0 (q_svW z) (m.2.2 31)) := fun q => q_R_15 (h3 q) (q_eqL_ms g1 0 _)
  have s1 : (1 : Int) < (m.2.1 0 17).toInt → q_R q_TTs (q_vwS 1 x) (q_ms 1 (q_svW z) (m.2.2 31)) := fun q => q_R_15 (h4 q) (q_eqL_ms g1 1 _)
  have s2 : (2 : Int) < (m.2.1 0 17).toInt → q_R q_TTs (q_vwS 2 x) (q_ms 2 (q_svW z) (m.2.2 31)) := fun q => q_R_15 (h5 q) (q_eqL_ms g1 2 _)
  unfold q_LX q_RK
  rw [e17, e31, e34]
  refine ⟨hs, h2, s0, s1, s2, h6, ⟨r1, r2, ?_, r4, r5⟩, ⟨?_, ?_⟩, g4, fun i hi => g5 i ?_⟩
  · show (x.2.1 34 5).toInt ≤ k + 1
    omega
  · show 0 ≤ (r.2.1 0 3).toInt
    omega
  · show (r.2.1 0 3).toInt ≤ 16
    omega
  · have hi' : i < (r.2.1 0 3).toInt.toNat := hi
    omega
theorem q_tWl (h : q_LX k m x) (hI : q_Iv c d w m) (a : Int32) : q_TN k (dz_X6_64_236 x a) (dz_M286_64 m a) Int32.toInt64 True := by
  have z0 : (0 : Int32).toInt = 0 := rfl
  have z4095 : (4095 : Int32).toInt = 4095 := rfl
  have z4096 : (4096 : Int32).toInt = 4096 := rfl
  by_cases l_a : a.toInt < 0
  · refine q_TNbad h 1 0 (by decide) ?_ ?_
    · unfold dz_X6_64_236
      rw [q_lt_T (show a.toInt < (0 : Int32).toInt by omega)]
      rfl
    · unfold dz_M286_64 dz_M204 q_let
      dsimp only
      rw [q_202F (v := a) (lo := 0) (hi := 4095) (Or.inl (by omega))]
      rfl
  by_cases u_a : 4095 < a.toInt
  · refine q_TNbad h 1 0 (by decide) ?_ ?_
    · unfold dz_X6_64_236
      rw [q_lt_F (show (0 : Int32).toInt ≤ a.toInt by omega), q_lt_F (show (4096 : Int32).toInt ≤ a.toInt by omega)]
      rfl
    · unfold dz_M286_64 dz_M204 q_let
      dsimp only
      rw [q_202F (v := a) (lo := 0) (hi := 4095) (Or.inr (by omega))]
      rfl
  obtain ⟨r, z2, n2, e1, e2, e3, e4⟩ := q_wlin (q_RO_s (q_ROk h.1)) (q_Ivk hI) h.2.2.2.2.2.2.2.1.1 a ⟨by omega, by omega⟩
  refine ⟨(q_sL (q_pt 2 0 71 0 x r) 172 (vp_updL ((q_pt 2 0 71 0 x r).2.2 172) 0 (r.2.1 0 3).toInt64), 0, 0), (z2, z2.2.1 0 35), ?_, ?_, q_LXlin h e3 e4 _, Nat.zero_le _, (e3.1.2.1 0 39 rfl).trans rfl, fun _ _ => ?_⟩
  · unfold dz_X6_64_236
    rw [q_lt_F (show (0 : Int32).toInt ≤ a.toInt by omega), q_lt_T (show a.toInt < (4096 : Int32).toInt by omega), q_lx_eq, e1]
    rfl
  · have e5 : dz_M286_64 m a = q_yml (q_mok m) a := by
      unfold dz_M286_64 q_yml
      rw [show dz_M204 m a = false by unfold dz_M204 q_let; rw [q_202T (v := a) (lo := 0) (hi := 4095) (by omega) (by omega)]; rfl]
      rfl
    rw [e5, e2]
  · show vp_updL ((q_pt 2 0 71 0 x r).2.2 172) 0 (r.2.1 0 3).toInt64 0 = (z2.2.1 0 35).toInt64
    rw [q_upL1 _ _ _ _ rfl, e3.2.2.2.1]
theorem q_tLat (h : q_LX k m x) (hI : q_Iv c d w m) (a : Int32) : q_TN k (dz_X7_64_236 x a) (dz_M287_64 m a) Int32.toInt64 True := by
  obtain ⟨p1, p2, p3⟩ := h.2.2.2.2.2.2.2
  have p10 := p1.1
  have p11 := p1.2
  have z0 : (0 : Int32).toInt = 0 := rfl
  have es : (m.2.1 0 35 - 1).toInt = (x.2.1 71 3).toInt - 1 := by
    rw [p2]
    exact q_subI ⟨by omega, by omega⟩ ⟨by decide, by decide⟩
  by_cases l : a.toInt < 0
  · refine q_TNbad h 1 32 (by decide) ?_ ?_
    · unfold dz_X7_64_236 q_let
      dsimp only
      rw [q_lt_T (show a.toInt < (0 : Int32).toInt by omega)]
      rfl
    · unfold dz_M287_64 q_let
      dsimp only
      rw [q_202F (v := a) (lo := 0) (hi := m.2.1 0 35 - 1) (Or.inl (by omega))]
      rfl
  by_cases u : (x.2.1 71 3).toInt ≤ a.toInt
  · refine q_TNbad h 1 32 (by decide) ?_ ?_
    · unfold dz_X7_64_236 q_let
      dsimp only
      rw [q_lt_F (show (0 : Int32).toInt ≤ a.toInt by omega), q_lt_F (show (dz_B329_64 (q_vw 2 71 0 x)).toInt ≤ a.toInt from u)]
      rfl
    · unfold dz_M287_64 q_let
      dsimp only
      rw [q_202F (v := a) (lo := 0) (hi := m.2.1 0 35 - 1) (Or.inr (by omega))]
      rfl
  have hi : a.toNatClampNeg < (x.2.1 71 3).toNatClampNeg := by
    show a.toInt.toNat < (x.2.1 71 3).toInt.toNat
    omega
  have e3 := p3 _ hi
  have rr : q_rgz 0 65535 (m.1 32 a.toNatClampNeg) := q_r32 hI _
  have rq : q_rgz 0 65535 (q_chr (x.1 72 a.toNatClampNeg)) := by rw [e3]; exact rr
  have ra : q_rgz 0 15 a := ⟨by omega, by omega⟩
  refine q_TNrd h (x.2.2 172) (q_chr (x.1 72 a.toNatClampNeg)).toInt64 (m.1 32 a.toNatClampNeg) (q_eq33_refl _) ?_ ?_ (fun _ => by rw [e3])
  · have e49 : dz_B349 (q_vw 2 71 0 x) a (x.2.1 71 3) = some () := by
      unfold dz_B349 dz_B371
      rw [q_lt_F (show (0 : Int32).toInt ≤ a.toInt by omega), q_lt_T (show a.toInt < (x.2.1 71 3).toInt by omega)]
      rfl
    have e27 : dz_B327_64 (q_vw 2 71 0 x) a = some (q_chr (x.1 72 a.toNatClampNeg)) := by
      show ((q_let (if (16 : Int32) < x.2.1 71 3 then 16 else x.2.1 71 3) fun x3 => (dz_B349 (q_vw 2 71 0 x) a x3).bind fun _ => cond (q_in a 16) (cond (decide (vp_nar .char (q_chr (x.1 72 a.toNatClampNeg)) = q_chr (x.1 72 a.toNatClampNeg))) (some (q_chr (x.1 72 a.toNatClampNeg))) none) none).bind fun r2 => cond (decide (vp_nar .char r2 = r2)) (some r2) none) = _
      rw [if_neg (show ¬ (16 : Int32) < x.2.1 71 3 from fun q => by
        have := Int32.lt_iff_toInt_lt.mp q
        have z16 : (16 : Int32).toInt = 16 := rfl
        omega)]
      unfold q_let
      dsimp only
      rw [e49, Option.bind_some, q_in_rg ra (by decide) (by decide), q_ch_rg rq]
      show cond (decide (vp_nar .char (q_chr (x.1 72 a.toNatClampNeg)) = q_chr (x.1 72 a.toNatClampNeg))) (some (q_chr (x.1 72 a.toNatClampNeg))) none = _
      rw [q_ch_rg rq]
      rfl
    unfold dz_X7_64_236
    rw [e27]
    show cond (decide (a < 0)) (some (x, 1, 1)) (cond (decide (a < x.2.1 71 3)) (cond (decide (vp_nar .char (q_chr (x.1 72 a.toNatClampNeg)) = q_chr (x.1 72 a.toNatClampNeg))) (some (q_sL x 172 (vp_updL (x.2.2 172) 0 (q_chr (x.1 72 a.toNatClampNeg)).toInt64), 0, 0)) none) (some (x, 1, 1))) = _
    rw [q_lt_F (show (0 : Int32).toInt ≤ a.toInt by omega), q_lt_T (show a.toInt < (x.2.1 71 3).toInt by omega), q_ch_rg rq]
    rfl
  · unfold dz_M287_64 q_let
    dsimp only
    rw [q_202T (v := a) (lo := 0) (hi := m.2.1 0 35 - 1) (by omega) (by omega), q_yM200]
    show cond (q_in a 40) (cond (decide (vp_nar .char (m.1 32 a.toNatClampNeg) = m.1 32 a.toNatClampNeg)) (some (q_mok m, m.1 32 a.toNatClampNeg)) none) none = _
    rw [q_in_rg (n := 40) ra (by decide) (by decide), q_ch_rg rr]
    rfl
end
end
section
-- 56.e
section
variable {x y z m m2 S T : q_S} {c d w : Int} {k : Nat}
/-- a float that is no NaN becomes a double that is none -/
theorem q_f2dnn {r : UInt32} (h : q_nnf r = true) : q_nnd (FP.f2d r) = true := by
  obtain ⟨a1, a2, -⟩ := q_b32
  have hn : ¬ FP.Core.decode FP.Core.b32 r.toNat = .nan := by
    unfold q_nnf at h
    have h := of_decide_eq_true h
    have e2 : (0x7fffffff : UInt32).toNat = 2 ^ 31 - 1 := by decide
    have e3 : (0x7f800000 : UInt32).toNat = 255 * 2 ^ 23 := by decide
    rw [UInt32.le_iff_toNat_le, UInt32.toNat_and, e2, e3, Nat.and_two_pow_sub_one_eq_mod] at h
    unfold FP.Core.decode FP.Core.fieldE FP.Core.fieldT
    rw [a1, a2]
    split
    · rename_i he
      rw [if_pos (by omega)]
      exact fun q => by cases q
    · split
      · exact fun q => by cases q
      · exact fun q => by cases q
  have e : FP.f2d r = FP.Core.f2d r := by
    unfold FP.f2d
    rw [if_neg]
    intro q
    exact hn (of_decide_eq_true q)
  rw [e]
  exact q_nnd_wf (q_wf_round q_hp64 q_hq64 _ hn)
theorem q_cmp0 (a : Int64) : decide (lg_cmp a a = 0) = true := by
  unfold lg_cmp
  rw [if_neg (show ¬ a > a from fun h => by have := Int64.lt_iff_toInt_lt.mp h; omega), if_pos rfl]
  rfl
/-- the class' call leaves the model's cells -/
theorem q_psW {T : Type} {i : Nat} (h : i < 34) (f : Nat → T) (e : T) : q_ps 172 1 0 206 (172 + i) f e = e := by
  unfold q_ps
  rw [q_bltF (show 0 + 172 ≤ 172 + i by omega), q_bleF (show 172 + i < 206 by omega), Bool.and_false]
  rfl
theorem q_IvW (h : q_Iv c d w (q_vw 34 172 0 S)) (y : q_S) : q_Iv c d w (q_vw 34 172 0 (q_pt 172 1 0 206 S y)) := by
  refine ⟨fun i j => ?_, fun i j => ?_, fun i j hi => ?_⟩
  · by_cases e : i < 34
    · have g := h.1 i j
      have g : q_rgz (q_la i j) (q_ha d i j) (S.1 (q_eN 34 172 0 i) j) := g
      show q_rgz _ _ (q_ps 172 1 0 206 (q_eN 34 172 0 i) y.1 (S.1 (q_eN 34 172 0 i)) j)
      rw [q_eN34 e] at g ⊢
      rw [q_psW e]
      exact g
    · obtain ⟨b1, b2, -, -⟩ := q_bnd34 (d := d) (w := w) (i := i) (k := j) (by omega)
      rw [b1, b2]
      exact q_rg_full _
  · by_cases e : i < 34
    · have g := h.2.1 i j
      have g : q_rgz (q_lfz i j) (q_hf w i j) (S.2.1 (q_eN 34 172 0 i) j) := g
      show q_rgz _ _ (q_ps 172 1 0 206 (q_eN 34 172 0 i) y.2.1 (S.2.1 (q_eN 34 172 0 i)) j)
      rw [q_eN34 e] at g ⊢
      rw [q_psW e]
      exact g
    · obtain ⟨-, -, b1, b2⟩ := q_bnd34 (d := d) (w := w) (i := i) (k := j) (by omega)
      rw [b1, b2]
      exact q_rg_full _
  · by_cases e : i < 34
    · have g := h.2.2 i j hi
      have g : q_rgL 0 c (S.2.2 (q_eN 34 172 0 i) j) := g
      show q_rgL _ _ (q_ps 172 1 0 206 (q_eN 34 172 0 i) y.2.2 (S.2.2 (q_eN 34 172 0 i)) j)
      rw [q_eN34 e] at g ⊢
      rw [q_psW e]
      exact g
    · rw [Nat.ble_eq_true_of_le (by omega : 34 ≤ i)] at hi
      cases hi
theorem q_LXup {k : Int} (h : q_LX k m x) : q_LX (k + 1) m x := by
  obtain ⟨h1, h2, h3, h4, h5, h6, ⟨r1, r2, r3, r4, r5⟩, h8⟩ := h
  exact ⟨h1, h2, h3, h4, h5, h6, ⟨r1, r2, by omega, r4, r5⟩, h8⟩
theorem q_LXM {k : Int} (h : q_LX k m (q_vw 172 0 206 S)) : q_LX k (q_vw 34 172 0 (q_pt 34 0 172 0 S m)) (q_vw 172 0 206 (q_pt 34 0 172 0 S m)) := by
  obtain ⟨h1, h2, h3, h4, h5, h6, h7, h8⟩ := h
  exact ⟨h1, h2, h3, h4, h5, h6, h7, h8⟩
/-- what stands at the law's head behind k turns -/
def q_IV (k : Nat) (S : q_S) : Prop := q_LX k (q_vw 34 172 0 S) (q_vw 172 0 206 S) ∧ q_Iv (1000 * k) (1000 * k) 40 (q_vw 34 172 0 S)
theorem q_IVup (h : q_Iv (1000 * k) (1000 * k) 40 m) : q_Iv (1000 * (k + 1 : Nat)) (1000 * (k + 1 : Nat)) 40 m := q_Iv_mono h (by omega) (by omega) (Int.le_refl _)
/-- a turn that calls both -/
theorem q_trn {T : Type} {ox : Option (q_S × Int32 × Nat)} {F : q_S → Option (q_S × T)} {cv : T → Int64} {ex : Prop} {P : q_S × T → Prop} (h : q_IV k S) (hT : ∀ m, q_LX k m (q_vw 172 0 206 S) → q_Iv (1000 * k) (1000 * k) 40 m → q_TN k ox (F m) cv ex) (hJ : ∀ m, q_Iv (1000 * k) (1000 * k) 40 m → q_Ex (F m) P) (hP : ∀ x, P x → q_Iv (1000 * (k + 1 : Nat)) (1000 * (k + 1 : Nat)) 40 x.1) : ∃ r0 r1, ox = some r0 ∧ F (q_vw 34 172 0 (q_pt 172 1 0 206 S r0.1)) = some r1 ∧ q_IV (k + 1) (q_pt 34 0 172 0 (q_pt 172 1 0 206 S r0.1) r1.1) ∧ r0.2.2 ≤ 1 ∧ r1.1.2.1 0 39 = r0.2.1 ∧ (ex → r0.2.1 = 0 → r0.1.2.2 172 0 = cv r1.2) := by
  obtain ⟨r0, -, e0, -⟩ := hT _ h.1 h.2
  have I1 := q_IvW h.2 r0.1
  obtain ⟨r0', r1, e0', e1, hL, hn, hc, hx⟩ := hT _ (q_LXW h.1 r0.1) I1
  rw [e0] at e0'
  cases e0'
  obtain ⟨r1', e1', p⟩ := hJ _ I1
  rw [e1] at e1'
  cases e1'
  exact ⟨r0, r1, e0, e1, ⟨q_LXV hL S, q_IvV (hP r1 p) _⟩, hn, hc, hx⟩
theorem q_trw {T U : Type} {ox : Option (q_S × U)} {F : q_S → Option (q_S × T)} {Q : q_S × U → q_S × T → Prop} {P : q_S × T → Prop} (h : q_IV k S) (hT : ∀ m, q_LX k m (q_vw 172 0 206 S) → q_Iv (1000 * k) (1000 * k) 40 m → ∃ r0 r1, ox = some r0 ∧ F m = some r1 ∧ q_LX (k + 1) r1.1 r0.1 ∧ Q r0 r1) (hJ : ∀ m, q_Iv (1000 * k) (1000 * k) 40 m → q_Ex (F m) P) (hP : ∀ x, P x → q_Iv (1000 * (k + 1 : Nat)) (1000 * (k + 1 : Nat)) 40 x.1) : ∃ r0 r1, ox = some r0 ∧ F (q_vw 34 172 0 (q_pt 172 1 0 206 S r0.1)) = some r1 ∧ q_IV (k + 1) (q_pt 34 0 172 0 (q_pt 172 1 0 206 S r0.1) r1.1) ∧ Q r0 r1 := by
  obtain ⟨r0, -, e0, -⟩ := hT _ h.1 h.2
  have I1 := q_IvW h.2 r0.1
  obtain ⟨r0', r1, e0', e1, hL, hx⟩ := hT _ (q_LXW h.1 r0.1) I1
  rw [e0] at e0'
  cases e0'
  obtain ⟨r1', e1', p⟩ := hJ _ I1
  rw [e1] at e1'
  cases e1'
  exact ⟨r0, r1, e0, e1, ⟨q_LXV hL S, q_IvV (hP r1 p) _⟩, hx⟩
/-- a turn that reads -/
theorem q_rdn (h : q_IV k S) : q_IV (k + 1) (q_pt 34 0 172 0 S (q_mok (q_vw 34 172 0 S))) :=
  ⟨q_LXM (q_LXbad h.1 0), q_IvV (q_IVup (q_Ivk h.2)) _⟩
/-- a turn that does nothing -/
theorem q_nop (h : q_IV k S) : q_IV (k + 1) S := ⟨q_LXup h.1, q_IVup h.2⟩
end
end
section
-- 56.f
theorem q_cLe (b : Bool) {x y : Int} (h1 : x ≤ 0) (h2 : y ≤ 0) : cond b x y ≤ 0 := by cases b <;> assumption
theorem q_cGe (b : Bool) {x y : Int} (h1 : 0 ≤ x) (h2 : 0 ≤ y) : 0 ≤ cond b x y := by cases b <;> assumption
theorem q_lr0 (k : Nat) : q_lr 14 k ≤ 0 := q_cLe _ (q_cLe _ (by decide) (by decide)) (by decide)
theorem q_la0 (i k : Nat) : q_la i k ≤ 0 := q_cLe _ (q_lr0 k) (q_cLe _ (q_lr0 _) (q_cLe _ (by decide) (by decide)))
theorem q_hn0 (k : Nat) : 0 ≤ q_hn 0 k := q_cGe _ (by decide) (q_cGe _ (by decide) (q_cGe _ (by decide) (q_cGe _ (by decide) (q_cGe _ (by decide) (q_cGe _ (by decide) (q_cGe _ (by decide) (q_cGe _ (by decide) (by decide))))))))
theorem q_hg0 (k : Nat) : 0 ≤ q_hg k := q_cGe _ (by decide) (q_cGe _ (by decide) (by decide))
theorem q_ha0 (i k : Nat) : 0 ≤ q_ha 0 i k := q_cGe _ (q_hn0 k) (q_cGe _ (q_hn0 _) (q_cGe _ (q_hg0 k) (q_cGe _ (q_hg0 _) (q_cGe _ (by decide) (q_cGe _ (by decide) (q_cGe _ (by decide) (q_cGe _ (by decide) (q_cGe _ (by decide) (q_cGe _ (by decide) (by decide))))))))))
theorem q_z0 (i k : Nat) : q_rgz (q_la i k) (q_ha 0 i k) 0 := ⟨q_la0 i k, q_ha0 i k⟩
theorem q_am0 (i k : Nat) : q_rgz (q_la i k) (q_ha 0 i k) (q_AM i k) := by
  unfold q_AM
  cases e15 : Nat.beq i 15 with
  | true =>
    rw [Nat.eq_of_beq_eq_true e15]
    exact q_hf_up (l := q_la 15) (u := q_ha 0 15) (f := fun _ => 0) (fun k => q_z0 15 k) (j := 3) (v := 1) ⟨by decide, by decide⟩ k
  | false =>
    cases e14 : Nat.beq i 14 with
    | true =>
      rw [Nat.eq_of_beq_eq_true e14]
      exact q_hf_up (l := q_la 14) (u := q_ha 0 14) (f := fun _ => 0) (fun k => q_z0 14 k) (j := 3) (v := 255) ⟨by decide, by decide⟩ k
    | false =>
      cases e13 : Nat.beq i 13 with
      | true =>
        rw [Nat.eq_of_beq_eq_true e13]
        exact q_hf_up (l := q_la 13) (u := q_ha 0 13) (q_hf_up (l := q_la 13) (u := q_ha 0 13) (q_hf_up (l := q_la 13) (u := q_ha 0 13) (f := fun _ => 0) (fun k => q_z0 13 k) (j := 0) (v := 1) ⟨by decide, by decide⟩) (j := 1) (v := 1) ⟨by decide, by decide⟩) (j := 2) (v := 1) ⟨by decide, by decide⟩ k
      | false => exact q_z0 i k
theorem q_im0 (i k : Nat) : q_rgz (q_lfz i k) (q_hf 40 i k) (q_IM i k) := by
  have z : q_rgz (q_lfz i k) (q_hf 40 i k) 0 := ⟨q_cLe _ (by decide) (by decide), q_cGe _ (q_cGe _ (by decide) (q_cGe _ (by decide) (q_cGe _ (by decide) (by decide)))) (by decide)⟩
  unfold q_IM
  cases e : (Nat.beq i 0 && Nat.beq k 34) with
  | false => exact z
  | true =>
    rw [Bool.and_eq_true] at e
    rw [Nat.eq_of_beq_eq_true e.1, Nat.eq_of_beq_eq_true e.2]
    exact ⟨by decide, by decide⟩
theorem q_aL34 {i : Nat} (h : i < 34) : q_AL (172 + i) = q_AM i := by
  unfold q_AL
  rw [q_bltF (show 172 ≤ 172 + i by omega), q_bltT (show 172 + i < 206 by omega), Nat.add_sub_cancel_left]
  rfl
theorem q_iL34 {i : Nat} (k : Nat) (h : i < 34) : q_IL (172 + i) k = q_IM i k := by
  unfold q_IL
  rw [q_bltF (show 172 ≤ 172 + i by omega), q_bltT (show 172 + i < 206 by omega), Nat.add_sub_cancel_left]
  rfl
theorem q_Iv0 : q_Iv 0 0 40 (q_vw 34 172 0 q_SL0) := by
  refine ⟨fun i k => ?_, fun i k => ?_, fun i k hi => ⟨Int.le_refl _, Int.le_refl _⟩⟩
  · by_cases e : i < 34
    · show q_rgz _ _ (q_AL (q_eN 34 172 0 i) k)
      rw [q_eN34 e, q_aL34 e]
      exact q_am0 i k
    · obtain ⟨b1, b2, -, -⟩ := q_bnd34 (d := 0) (w := 40) (i := i) (k := k) (by omega)
      rw [b1, b2]
      exact q_rg_full _
  · by_cases e : i < 34
    · show q_rgz _ _ (q_IL (q_eN 34 172 0 i) k)
      rw [q_eN34 e, q_iL34 k e]
      exact q_im0 i k
    · obtain ⟨-, -, b1, b2⟩ := q_bnd34 (d := 0) (w := 40) (i := i) (k := k) (by omega)
      rw [b1, b2]
      exact q_rg_full _
theorem q_cs0 : ∀ n, n < 16 → q_cs (fun _ => 0) (Int32.ofNat n) = some 0 := by decide +kernel
theorem q_LX0 : q_LX 0 (q_vw 34 172 0 q_SL0) (q_vw 172 0 206 q_SL0) := by
  refine ⟨⟨⟨fun _ _ => rfl, fun _ _ => rfl, fun _ _ => rfl⟩, ⟨⟨fun _ _ _ => rfl, fun _ _ _ => rfl⟩, rfl, rfl, rfl⟩, ⟨⟨⟨by decide, by decide⟩, ⟨by decide, by decide⟩, ⟨by decide, by decide⟩, ⟨by decide, by decide⟩⟩, rfl, rfl, rfl, rfl⟩, ⟨fun _ _ => rfl, rfl, rfl, rfl, by decide, fun _ h => absurd h (Nat.not_lt_zero _), fun h => absurd h (by decide), fun _ => rfl⟩, ⟨rfl, fun _ _ => rfl, fun r hr => ?_⟩, ⟨⟨rfl, rfl, rfl, rfl⟩, fun _ => rfl, rfl, rfl, rfl, rfl, rfl, trivial, ⟨fun _ _ => rfl, rfl, rfl, rfl, rfl, rfl⟩, rfl, Or.inl rfl, ⟨by decide, by decide⟩⟩, ⟨fun _ _ => ⟨rfl, rfl, rfl, rfl⟩, fun _ _ => rfl⟩, ⟨⟨fun _ _ => rfl, ⟨by decide, by decide⟩⟩, rfl⟩⟩, rfl, fun h => absurd h (by decide), fun h => absurd h (by decide), fun h => absurd h (by decide), ⟨⟨by decide, by decide⟩, ⟨by decide, by decide⟩⟩, ⟨Or.inl ⟨rfl, rfl⟩, by decide, by decide, by decide, by decide⟩, ⟨by decide, by decide⟩, rfl, fun _ h => absurd h (Nat.not_lt_zero _)⟩
  show q_cs (fun _ => 0) r = some 0
  have t := q_cs0 r.toInt.toNat (by have := hr.1; have := hr.2; omega)
  rw [q_ofn hr] at t
  exact t
theorem q_IV0 : q_IV 0 q_SL0 := ⟨q_LX0, q_Iv0⟩
end
section
-- 57.law
/-! ===== the turns of the law ===== -/
set_option maxHeartbeats 4000000 in
theorem q_lw0 (z L : Nat) (xs : Nat → Int32) (S : q_S) (c n : Nat) (i : Int32) (hx0 : q_in i L = true) (hx1 : q_in (i + 1) L = true) (hx2 : q_in (i + 2) L = true) (hx3 : q_in (i + 3) L = true) (hi : decide (Int32.ofNat L - 4 < i) = false) (hv : xs i.toNatClampNeg &&& 63 = 0) (r0 : q_S × Int32 × Nat) (er0 : dz_X0_64_236 (q_vw 172 0 206 S) (xs ((i + 1).toNatClampNeg)) (xs ((i + 2).toNatClampNeg)) = some r0) (r1 : q_S × Int32) (er1 : dz_M216_64 (q_vw 34 172 0 (q_pt 172 1 0 206 S r0.1)) (xs ((i + 1).toNatClampNeg)) (xs ((i + 2).toNatClampNeg)) = some r1) {o : q_Out} (h : q_Ru (q_TBs z L xs) 20 376 (23, [(4, .int (i + 4)), (3, .ref 270), (2, .ref 236), (1, .ref 64), (0, .ref 0)], [], (q_kL (q_pt 34 0 172 0 (q_pt 172 1 0 206 S r0.1) r1.1) (c + r0.2.2) (n + 6 * r0.2.2))) o) : q_Ru (q_TBs z L xs) 20 376 (23, [(4, .int i), (3, .ref 270), (2, .ref 236), (1, .ref 64), (0, .ref 0)], [], (q_kL S c n)) o := by
  refine q_Ru_seg (g2 := (29, [(4, .int i), (3, .ref 270), (2, .ref 236), (1, .ref 64), (0, .ref 0)], [.int ((Int32.ofNat L) - 4), .int i], (q_kL S c n))) 5 (fun _ _ => rfl) ?_
  refine q_Ru_rsF (g2 := (32, [(4, .int i), (3, .ref 270), (2, .ref 236), (1, .ref 64), (0, .ref 0)], [], (q_kL S c n))) rfl rfl hi ?_
  refine q_Ru_seg (g2 := (35, [(4, .int i), (3, .ref 270), (2, .ref 236), (1, .ref 64), (0, .ref 0)], [.int i, .ref 0], (q_kL S c n))) 2 (fun _ _ => rfl) ?_
  refine q_Ru_rsT (g2 := (36, [(4, .int i), (3, .ref 270), (2, .ref 236), (1, .ref 64), (0, .ref 0)], [.int (xs (i.toNatClampNeg))], (q_kL S c n))) rfl rfl hx0 ?_
  refine q_Ru_seg (g2 := (39, [(4, .int i), (3, .ref 270), (2, .ref 236), (1, .ref 64), (0, .ref 0)], [.int ((xs (i.toNatClampNeg)) &&& 63)], (q_kL S c n))) 2 (fun _ _ => rfl) ?_
  rw [hv]
  refine q_Ru_seg (g2 := (226, [(4, .int i), (3, .ref 270), (2, .ref 236), (1, .ref 64), (0, .ref 0)], [.int (i + 1), .ref 0, .ref 64], (q_kL S c n))) 6 (fun _ _ => rfl) ?_
  refine q_Ru_rsT (g2 := (227, [(4, .int i), (3, .ref 270), (2, .ref 236), (1, .ref 64), (0, .ref 0)], [.int (xs ((i + 1).toNatClampNeg)), .ref 64], (q_kL S c n))) rfl rfl hx1 ?_
  refine q_Ru_seg (g2 := (232, [(4, .int i), (3, .ref 270), (2, .ref 236), (1, .ref 64), (0, .ref 0)], [.int (i + 2), .ref 0, .int (xs ((i + 1).toNatClampNeg)), .ref 64], (q_kL S c n))) 4 (fun _ _ => rfl) ?_
  refine q_Ru_rsT (g2 := (233, [(4, .int i), (3, .ref 270), (2, .ref 236), (1, .ref 64), (0, .ref 0)], [.int (xs ((i + 2).toNatClampNeg)), .int (xs ((i + 1).toNatClampNeg)), .ref 64], (q_kL S c n))) rfl rfl hx2 ?_
  refine q_Ru_seg (g2 := (234, [(4, .int i), (3, .ref 270), (2, .ref 236), (1, .ref 64), (0, .ref 0)], [.ref 270, .int (xs ((i + 2).toNatClampNeg)), .int (xs ((i + 1).toNatClampNeg)), .ref 64], (q_kL S c n))) 1 (fun _ _ => rfl) ?_
  refine q_Ru_call (v := (some (.int r0.2.1))) (h2 := (q_kL (q_pt 172 1 0 206 S r0.1) (c + r0.2.2) (n + 6 * r0.2.2))) rfl rfl ?_ ?_
  · exact (q_emXL rfl (fun _ => rfl) (dzt_X0_64_236 z L xs (q_vw 172 0 206 S) c n (xs ((i + 1).toNatClampNeg)) (xs ((i + 2).toNatClampNeg)) r0 er0)).le (Nat.le_of_ble_eq_true rfl)
  show q_Ru _ _ _ (237, [(4, .int i), (3, .ref 270), (2, .ref 236), (1, .ref 64), (0, .ref 0)], [.int r0.2.1], (q_kL (q_pt 172 1 0 206 S r0.1) (c + r0.2.2) (n + 6 * r0.2.2))) _
  refine q_Ru_seg (g2 := (245, [(5, .int r0.2.1), (4, .int i), (3, .ref 270), (2, .ref 236), (1, .ref 64), (0, .ref 0)], [.int (i + 1), .ref 0, .ref 236], (q_kL (q_pt 172 1 0 206 S r0.1) (c + r0.2.2) (n + 6 * r0.2.2)))) 6 (fun _ _ => rfl) ?_
  refine q_Ru_rsT (g2 := (246, [(5, .int r0.2.1), (4, .int i), (3, .ref 270), (2, .ref 236), (1, .ref 64), (0, .ref 0)], [.int (xs ((i + 1).toNatClampNeg)), .ref 236], (q_kL (q_pt 172 1 0 206 S r0.1) (c + r0.2.2) (n + 6 * r0.2.2)))) rfl rfl hx1 ?_
  refine q_Ru_seg (g2 := (251, [(5, .int r0.2.1), (4, .int i), (3, .ref 270), (2, .ref 236), (1, .ref 64), (0, .ref 0)], [.int (i + 2), .ref 0, .int (xs ((i + 1).toNatClampNeg)), .ref 236], (q_kL (q_pt 172 1 0 206 S r0.1) (c + r0.2.2) (n + 6 * r0.2.2)))) 4 (fun _ _ => rfl) ?_
  refine q_Ru_rsT (g2 := (252, [(5, .int r0.2.1), (4, .int i), (3, .ref 270), (2, .ref 236), (1, .ref 64), (0, .ref 0)], [.int (xs ((i + 2).toNatClampNeg)), .int (xs ((i + 1).toNatClampNeg)), .ref 236], (q_kL (q_pt 172 1 0 206 S r0.1) (c + r0.2.2) (n + 6 * r0.2.2)))) rfl rfl hx2 ?_
  refine q_Ru_call (v := (some (.int r1.2))) (h2 := (q_kL (q_pt 34 0 172 0 (q_pt 172 1 0 206 S r0.1) r1.1) (c + r0.2.2) (n + 6 * r0.2.2))) rfl rfl ?_ ?_
  · exact (q_emML rfl (fun _ => rfl) ((dzt_M216_64 (q_vw 34 172 0 (q_pt 172 1 0 206 S r0.1)) (c + r0.2.2) (n + 6 * r0.2.2) (xs ((i + 1).toNatClampNeg)) (xs ((i + 2).toNatClampNeg)) r1 er1).tb q_TB0_le)).le (Nat.le_of_ble_eq_true rfl)
  show q_Ru _ _ _ (255, [(5, .int r0.2.1), (4, .int i), (3, .ref 270), (2, .ref 236), (1, .ref 64), (0, .ref 0)], [.int r1.2], (q_kL (q_pt 34 0 172 0 (q_pt 172 1 0 206 S r0.1) r1.1) (c + r0.2.2) (n + 6 * r0.2.2))) _
  refine q_Ru_seg (g2 := (23, [(4, .int (i + 4)), (6, .int r1.2), (5, .int r0.2.1), (3, .ref 270), (2, .ref 236), (1, .ref 64), (0, .ref 0)], [], (q_kL (q_pt 34 0 172 0 (q_pt 172 1 0 206 S r0.1) r1.1) (c + r0.2.2) (n + 6 * r0.2.2)))) 4 (fun _ _ => rfl) ?_
  exact q_Ru_xt (q_xt_mk (q_mn1 0 rfl (q_mn1 3 rfl (q_mn1 4 rfl (q_mn1 5 rfl (q_mn1 6 rfl q_mn0))))) rfl) h
set_option maxHeartbeats 4000000 in
theorem q_lw1 (z L : Nat) (xs : Nat → Int32) (S : q_S) (c n : Nat) (i : Int32) (hx0 : q_in i L = true) (hx1 : q_in (i + 1) L = true) (hx2 : q_in (i + 2) L = true) (hx3 : q_in (i + 3) L = true) (hi : decide (Int32.ofNat L - 4 < i) = false) (hv : xs i.toNatClampNeg &&& 63 = 1) (r0 : q_S × Int32 × Nat) (er0 : dz_X1_64_236 (q_vw 172 0 206 S) (xs ((i + 1).toNatClampNeg)) (xs ((i + 2).toNatClampNeg)) = some r0) (r1 : q_S × Int32) (er1 : dz_M217_64 (q_vw 34 172 0 (q_pt 172 1 0 206 S r0.1)) (xs ((i + 1).toNatClampNeg)) (xs ((i + 2).toNatClampNeg)) = some r1) {o : q_Out} (h : q_Ru (q_TBs z L xs) 20 376 (23, [(4, .int (i + 4)), (3, .ref 270), (2, .ref 236), (1, .ref 64), (0, .ref 0)], [], (q_kL (q_pt 34 0 172 0 (q_pt 172 1 0 206 S r0.1) r1.1) (c + r0.2.2) (n + 6 * r0.2.2))) o) : q_Ru (q_TBs z L xs) 20 376 (23, [(4, .int i), (3, .ref 270), (2, .ref 236), (1, .ref 64), (0, .ref 0)], [], (q_kL S c n)) o := by
  refine q_Ru_seg (g2 := (29, [(4, .int i), (3, .ref 270), (2, .ref 236), (1, .ref 64), (0, .ref 0)], [.int ((Int32.ofNat L) - 4), .int i], (q_kL S c n))) 5 (fun _ _ => rfl) ?_
  refine q_Ru_rsF (g2 := (32, [(4, .int i), (3, .ref 270), (2, .ref 236), (1, .ref 64), (0, .ref 0)], [], (q_kL S c n))) rfl rfl hi ?_
  refine q_Ru_seg (g2 := (35, [(4, .int i), (3, .ref 270), (2, .ref 236), (1, .ref 64), (0, .ref 0)], [.int i, .ref 0], (q_kL S c n))) 2 (fun _ _ => rfl) ?_
  refine q_Ru_rsT (g2 := (36, [(4, .int i), (3, .ref 270), (2, .ref 236), (1, .ref 64), (0, .ref 0)], [.int (xs (i.toNatClampNeg))], (q_kL S c n))) rfl rfl hx0 ?_
  refine q_Ru_seg (g2 := (39, [(4, .int i), (3, .ref 270), (2, .ref 236), (1, .ref 64), (0, .ref 0)], [.int ((xs (i.toNatClampNeg)) &&& 63)], (q_kL S c n))) 2 (fun _ _ => rfl) ?_
  rw [hv]
  refine q_Ru_seg (g2 := (266, [(4, .int i), (3, .ref 270), (2, .ref 236), (1, .ref 64), (0, .ref 0)], [.int (i + 1), .ref 0, .ref 64], (q_kL S c n))) 6 (fun _ _ => rfl) ?_
  refine q_Ru_rsT (g2 := (267, [(4, .int i), (3, .ref 270), (2, .ref 236), (1, .ref 64), (0, .ref 0)], [.int (xs ((i + 1).toNatClampNeg)), .ref 64], (q_kL S c n))) rfl rfl hx1 ?_
  refine q_Ru_seg (g2 := (272, [(4, .int i), (3, .ref 270), (2, .ref 236), (1, .ref 64), (0, .ref 0)], [.int (i + 2), .ref 0, .int (xs ((i + 1).toNatClampNeg)), .ref 64], (q_kL S c n))) 4 (fun _ _ => rfl) ?_
  refine q_Ru_rsT (g2 := (273, [(4, .int i), (3, .ref 270), (2, .ref 236), (1, .ref 64), (0, .ref 0)], [.int (xs ((i + 2).toNatClampNeg)), .int (xs ((i + 1).toNatClampNeg)), .ref 64], (q_kL S c n))) rfl rfl hx2 ?_
  refine q_Ru_seg (g2 := (274, [(4, .int i), (3, .ref 270), (2, .ref 236), (1, .ref 64), (0, .ref 0)], [.ref 270, .int (xs ((i + 2).toNatClampNeg)), .int (xs ((i + 1).toNatClampNeg)), .ref 64], (q_kL S c n))) 1 (fun _ _ => rfl) ?_
  refine q_Ru_call (v := (some (.int r0.2.1))) (h2 := (q_kL (q_pt 172 1 0 206 S r0.1) (c + r0.2.2) (n + 6 * r0.2.2))) rfl rfl ?_ ?_
  · exact (q_emXL rfl (fun _ => rfl) (dzt_X1_64_236 z L xs (q_vw 172 0 206 S) c n (xs ((i + 1).toNatClampNeg)) (xs ((i + 2).toNatClampNeg)) r0 er0)).le (Nat.le_of_ble_eq_true rfl)
  show q_Ru _ _ _ (277, [(4, .int i), (3, .ref 270), (2, .ref 236), (1, .ref 64), (0, .ref 0)], [.int r0.2.1], (q_kL (q_pt 172 1 0 206 S r0.1) (c + r0.2.2) (n + 6 * r0.2.2))) _
  refine q_Ru_seg (g2 := (285, [(5, .int r0.2.1), (4, .int i), (3, .ref 270), (2, .ref 236), (1, .ref 64), (0, .ref 0)], [.int (i + 1), .ref 0, .ref 236], (q_kL (q_pt 172 1 0 206 S r0.1) (c + r0.2.2) (n + 6 * r0.2.2)))) 6 (fun _ _ => rfl) ?_
  refine q_Ru_rsT (g2 := (286, [(5, .int r0.2.1), (4, .int i), (3, .ref 270), (2, .ref 236), (1, .ref 64), (0, .ref 0)], [.int (xs ((i + 1).toNatClampNeg)), .ref 236], (q_kL (q_pt 172 1 0 206 S r0.1) (c + r0.2.2) (n + 6 * r0.2.2)))) rfl rfl hx1 ?_
  refine q_Ru_seg (g2 := (291, [(5, .int r0.2.1), (4, .int i), (3, .ref 270), (2, .ref 236), (1, .ref 64), (0, .ref 0)], [.int (i + 2), .ref 0, .int (xs ((i + 1).toNatClampNeg)), .ref 236], (q_kL (q_pt 172 1 0 206 S r0.1) (c + r0.2.2) (n + 6 * r0.2.2)))) 4 (fun _ _ => rfl) ?_
  refine q_Ru_rsT (g2 := (292, [(5, .int r0.2.1), (4, .int i), (3, .ref 270), (2, .ref 236), (1, .ref 64), (0, .ref 0)], [.int (xs ((i + 2).toNatClampNeg)), .int (xs ((i + 1).toNatClampNeg)), .ref 236], (q_kL (q_pt 172 1 0 206 S r0.1) (c + r0.2.2) (n + 6 * r0.2.2)))) rfl rfl hx2 ?_
  refine q_Ru_call (v := (some (.int r1.2))) (h2 := (q_kL (q_pt 34 0 172 0 (q_pt 172 1 0 206 S r0.1) r1.1) (c + r0.2.2) (n + 6 * r0.2.2))) rfl rfl ?_ ?_
  · exact (q_emML rfl (fun _ => rfl) ((dzt_M217_64 (q_vw 34 172 0 (q_pt 172 1 0 206 S r0.1)) (c + r0.2.2) (n + 6 * r0.2.2) (xs ((i + 1).toNatClampNeg)) (xs ((i + 2).toNatClampNeg)) r1 er1).tb q_TB0_le)).le (Nat.le_of_ble_eq_true rfl)
  show q_Ru _ _ _ (295, [(5, .int r0.2.1), (4, .int i), (3, .ref 270), (2, .ref 236), (1, .ref 64), (0, .ref 0)], [.int r1.2], (q_kL (q_pt 34 0 172 0 (q_pt 172 1 0 206 S r0.1) r1.1) (c + r0.2.2) (n + 6 * r0.2.2))) _
  refine q_Ru_seg (g2 := (23, [(4, .int (i + 4)), (6, .int r1.2), (5, .int r0.2.1), (3, .ref 270), (2, .ref 236), (1, .ref 64), (0, .ref 0)], [], (q_kL (q_pt 34 0 172 0 (q_pt 172 1 0 206 S r0.1) r1.1) (c + r0.2.2) (n + 6 * r0.2.2)))) 4 (fun _ _ => rfl) ?_
  exact q_Ru_xt (q_xt_mk (q_mn1 0 rfl (q_mn1 3 rfl (q_mn1 4 rfl (q_mn1 5 rfl (q_mn1 6 rfl q_mn0))))) rfl) h
set_option maxHeartbeats 4000000 in
theorem q_lw2 (z L : Nat) (xs : Nat → Int32) (S : q_S) (c n : Nat) (i : Int32) (hx0 : q_in i L = true) (hx1 : q_in (i + 1) L = true) (hx2 : q_in (i + 2) L = true) (hx3 : q_in (i + 3) L = true) (hi : decide (Int32.ofNat L - 4 < i) = false) (hv : xs i.toNatClampNeg &&& 63 = 2) (r0 : q_S × Int32 × Nat) (er0 : dz_X2_64_236 (q_vw 172 0 206 S) (xs ((i + 1).toNatClampNeg)) (xs ((i + 2).toNatClampNeg)) (xs ((i + 3).toNatClampNeg)) = some r0) (r1 : q_S × Int32) (er1 : dz_M218_64 (q_vw 34 172 0 (q_pt 172 1 0 206 S r0.1)) (xs ((i + 1).toNatClampNeg)) (xs ((i + 2).toNatClampNeg)) (xs ((i + 3).toNatClampNeg)) = some r1) {o : q_Out} (h : q_Ru (q_TBs z L xs) 20 376 (23, [(4, .int (i + 4)), (3, .ref 270), (2, .ref 236), (1, .ref 64), (0, .ref 0)], [], (q_kL (q_pt 34 0 172 0 (q_pt 172 1 0 206 S r0.1) r1.1) (c + r0.2.2) (n + 6 * r0.2.2))) o) : q_Ru (q_TBs z L xs) 20 376 (23, [(4, .int i), (3, .ref 270), (2, .ref 236), (1, .ref 64), (0, .ref 0)], [], (q_kL S c n)) o := by
  refine q_Ru_seg (g2 := (29, [(4, .int i), (3, .ref 270), (2, .ref 236), (1, .ref 64), (0, .ref 0)], [.int ((Int32.ofNat L) - 4), .int i], (q_kL S c n))) 5 (fun _ _ => rfl) ?_
  refine q_Ru_rsF (g2 := (32, [(4, .int i), (3, .ref 270), (2, .ref 236), (1, .ref 64), (0, .ref 0)], [], (q_kL S c n))) rfl rfl hi ?_
  refine q_Ru_seg (g2 := (35, [(4, .int i), (3, .ref 270), (2, .ref 236), (1, .ref 64), (0, .ref 0)], [.int i, .ref 0], (q_kL S c n))) 2 (fun _ _ => rfl) ?_
  refine q_Ru_rsT (g2 := (36, [(4, .int i), (3, .ref 270), (2, .ref 236), (1, .ref 64), (0, .ref 0)], [.int (xs (i.toNatClampNeg))], (q_kL S c n))) rfl rfl hx0 ?_
  refine q_Ru_seg (g2 := (39, [(4, .int i), (3, .ref 270), (2, .ref 236), (1, .ref 64), (0, .ref 0)], [.int ((xs (i.toNatClampNeg)) &&& 63)], (q_kL S c n))) 2 (fun _ _ => rfl) ?_
  rw [hv]
  refine q_Ru_seg (g2 := (306, [(4, .int i), (3, .ref 270), (2, .ref 236), (1, .ref 64), (0, .ref 0)], [.int (i + 1), .ref 0, .ref 64], (q_kL S c n))) 6 (fun _ _ => rfl) ?_
  refine q_Ru_rsT (g2 := (307, [(4, .int i), (3, .ref 270), (2, .ref 236), (1, .ref 64), (0, .ref 0)], [.int (xs ((i + 1).toNatClampNeg)), .ref 64], (q_kL S c n))) rfl rfl hx1 ?_
  refine q_Ru_seg (g2 := (312, [(4, .int i), (3, .ref 270), (2, .ref 236), (1, .ref 64), (0, .ref 0)], [.int (i + 2), .ref 0, .int (xs ((i + 1).toNatClampNeg)), .ref 64], (q_kL S c n))) 4 (fun _ _ => rfl) ?_
  refine q_Ru_rsT (g2 := (313, [(4, .int i), (3, .ref 270), (2, .ref 236), (1, .ref 64), (0, .ref 0)], [.int (xs ((i + 2).toNatClampNeg)), .int (xs ((i + 1).toNatClampNeg)), .ref 64], (q_kL S c n))) rfl rfl hx2 ?_
  refine q_Ru_seg (g2 := (318, [(4, .int i), (3, .ref 270), (2, .ref 236), (1, .ref 64), (0, .ref 0)], [.int (i + 3), .ref 0, .int (xs ((i + 2).toNatClampNeg)), .int (xs ((i + 1).toNatClampNeg)), .ref 64], (q_kL S c n))) 4 (fun _ _ => rfl) ?_
  refine q_Ru_rsT (g2 := (319, [(4, .int i), (3, .ref 270), (2, .ref 236), (1, .ref 64), (0, .ref 0)], [.int (xs ((i + 3).toNatClampNeg)), .int (xs ((i + 2).toNatClampNeg)), .int (xs ((i + 1).toNatClampNeg)), .ref 64], (q_kL S c n))) rfl rfl hx3 ?_
  refine q_Ru_seg (g2 := (320, [(4, .int i), (3, .ref 270), (2, .ref 236), (1, .ref 64), (0, .ref 0)], [.ref 270, .int (xs ((i + 3).toNatClampNeg)), .int (xs ((i + 2).toNatClampNeg)), .int (xs ((i + 1).toNatClampNeg)), .ref 64], (q_kL S c n))) 1 (fun _ _ => rfl) ?_
  refine q_Ru_call (v := (some (.int r0.2.1))) (h2 := (q_kL (q_pt 172 1 0 206 S r0.1) (c + r0.2.2) (n + 6 * r0.2.2))) rfl rfl ?_ ?_
  · exact (q_emXL rfl (fun _ => rfl) (dzt_X2_64_236 z L xs (q_vw 172 0 206 S) c n (xs ((i + 1).toNatClampNeg)) (xs ((i + 2).toNatClampNeg)) (xs ((i + 3).toNatClampNeg)) r0 er0)).le (Nat.le_of_ble_eq_true rfl)
  show q_Ru _ _ _ (323, [(4, .int i), (3, .ref 270), (2, .ref 236), (1, .ref 64), (0, .ref 0)], [.int r0.2.1], (q_kL (q_pt 172 1 0 206 S r0.1) (c + r0.2.2) (n + 6 * r0.2.2))) _
  refine q_Ru_seg (g2 := (331, [(5, .int r0.2.1), (4, .int i), (3, .ref 270), (2, .ref 236), (1, .ref 64), (0, .ref 0)], [.int (i + 1), .ref 0, .ref 236], (q_kL (q_pt 172 1 0 206 S r0.1) (c + r0.2.2) (n + 6 * r0.2.2)))) 6 (fun _ _ => rfl) ?_
  refine q_Ru_rsT (g2 := (332, [(5, .int r0.2.1), (4, .int i), (3, .ref 270), (2, .ref 236), (1, .ref 64), (0, .ref 0)], [.int (xs ((i + 1).toNatClampNeg)), .ref 236], (q_kL (q_pt 172 1 0 206 S r0.1) (c + r0.2.2) (n + 6 * r0.2.2)))) rfl rfl hx1 ?_
  refine q_Ru_seg (g2 := (337, [(5, .int r0.2.1), (4, .int i), (3, .ref 270), (2, .ref 236), (1, .ref 64), (0, .ref 0)], [.int (i + 2), .ref 0, .int (xs ((i + 1).toNatClampNeg)), .ref 236], (q_kL (q_pt 172 1 0 206 S r0.1) (c + r0.2.2) (n + 6 * r0.2.2)))) 4 (fun _ _ => rfl) ?_
  refine q_Ru_rsT (g2 := (338, [(5, .int r0.2.1), (4, .int i), (3, .ref 270), (2, .ref 236), (1, .ref 64), (0, .ref 0)], [.int (xs ((i + 2).toNatClampNeg)), .int (xs ((i + 1).toNatClampNeg)), .ref 236], (q_kL (q_pt 172 1 0 206 S r0.1) (c + r0.2.2) (n + 6 * r0.2.2)))) rfl rfl hx2 ?_
  refine q_Ru_seg (g2 := (343, [(5, .int r0.2.1), (4, .int i), (3, .ref 270), (2, .ref 236), (1, .ref 64), (0, .ref 0)], [.int (i + 3), .ref 0, .int (xs ((i + 2).toNatClampNeg)), .int (xs ((i + 1).toNatClampNeg)), .ref 236], (q_kL (q_pt 172 1 0 206 S r0.1) (c + r0.2.2) (n + 6 * r0.2.2)))) 4 (fun _ _ => rfl) ?_
  refine q_Ru_rsT (g2 := (344, [(5, .int r0.2.1), (4, .int i), (3, .ref 270), (2, .ref 236), (1, .ref 64), (0, .ref 0)], [.int (xs ((i + 3).toNatClampNeg)), .int (xs ((i + 2).toNatClampNeg)), .int (xs ((i + 1).toNatClampNeg)), .ref 236], (q_kL (q_pt 172 1 0 206 S r0.1) (c + r0.2.2) (n + 6 * r0.2.2)))) rfl rfl hx3 ?_
  refine q_Ru_call (v := (some (.int r1.2))) (h2 := (q_kL (q_pt 34 0 172 0 (q_pt 172 1 0 206 S r0.1) r1.1) (c + r0.2.2) (n + 6 * r0.2.2))) rfl rfl ?_ ?_
  · exact (q_emML rfl (fun _ => rfl) ((dzt_M218_64 (q_vw 34 172 0 (q_pt 172 1 0 206 S r0.1)) (c + r0.2.2) (n + 6 * r0.2.2) (xs ((i + 1).toNatClampNeg)) (xs ((i + 2).toNatClampNeg)) (xs ((i + 3).toNatClampNeg)) r1 er1).tb q_TB0_le)).le (Nat.le_of_ble_eq_true rfl)
  show q_Ru _ _ _ (347, [(5, .int r0.2.1), (4, .int i), (3, .ref 270), (2, .ref 236), (1, .ref 64), (0, .ref 0)], [.int r1.2], (q_kL (q_pt 34 0 172 0 (q_pt 172 1 0 206 S r0.1) r1.1) (c + r0.2.2) (n + 6 * r0.2.2))) _
  refine q_Ru_seg (g2 := (23, [(4, .int (i + 4)), (6, .int r1.2), (5, .int r0.2.1), (3, .ref 270), (2, .ref 236), (1, .ref 64), (0, .ref 0)], [], (q_kL (q_pt 34 0 172 0 (q_pt 172 1 0 206 S r0.1) r1.1) (c + r0.2.2) (n + 6 * r0.2.2)))) 4 (fun _ _ => rfl) ?_
  exact q_Ru_xt (q_xt_mk (q_mn1 0 rfl (q_mn1 3 rfl (q_mn1 4 rfl (q_mn1 5 rfl (q_mn1 6 rfl q_mn0))))) rfl) h
set_option maxHeartbeats 4000000 in
theorem q_lw3 (z L : Nat) (xs : Nat → Int32) (S : q_S) (c n : Nat) (i : Int32) (hx0 : q_in i L = true) (hx1 : q_in (i + 1) L = true) (hx2 : q_in (i + 2) L = true) (hx3 : q_in (i + 3) L = true) (hi : decide (Int32.ofNat L - 4 < i) = false) (hv : xs i.toNatClampNeg &&& 63 = 3) (r0 : q_S × Int32 × Nat) (er0 : dz_X3_64_236 (q_vw 172 0 206 S) (xs ((i + 1).toNatClampNeg)) = some r0) (r1 : q_S × Int32) (er1 : dz_M219_64 (q_vw 34 172 0 (q_pt 172 1 0 206 S r0.1)) (xs ((i + 1).toNatClampNeg)) = some r1) {o : q_Out} (h : q_Ru (q_TBs z L xs) 20 376 (23, [(4, .int (i + 4)), (3, .ref 270), (2, .ref 236), (1, .ref 64), (0, .ref 0)], [], (q_kL (q_pt 34 0 172 0 (q_pt 172 1 0 206 S r0.1) r1.1) (c + r0.2.2) (n + 6 * r0.2.2))) o) : q_Ru (q_TBs z L xs) 20 376 (23, [(4, .int i), (3, .ref 270), (2, .ref 236), (1, .ref 64), (0, .ref 0)], [], (q_kL S c n)) o := by
  refine q_Ru_seg (g2 := (29, [(4, .int i), (3, .ref 270), (2, .ref 236), (1, .ref 64), (0, .ref 0)], [.int ((Int32.ofNat L) - 4), .int i], (q_kL S c n))) 5 (fun _ _ => rfl) ?_
  refine q_Ru_rsF (g2 := (32, [(4, .int i), (3, .ref 270), (2, .ref 236), (1, .ref 64), (0, .ref 0)], [], (q_kL S c n))) rfl rfl hi ?_
  refine q_Ru_seg (g2 := (35, [(4, .int i), (3, .ref 270), (2, .ref 236), (1, .ref 64), (0, .ref 0)], [.int i, .ref 0], (q_kL S c n))) 2 (fun _ _ => rfl) ?_
  refine q_Ru_rsT (g2 := (36, [(4, .int i), (3, .ref 270), (2, .ref 236), (1, .ref 64), (0, .ref 0)], [.int (xs (i.toNatClampNeg))], (q_kL S c n))) rfl rfl hx0 ?_
  refine q_Ru_seg (g2 := (39, [(4, .int i), (3, .ref 270), (2, .ref 236), (1, .ref 64), (0, .ref 0)], [.int ((xs (i.toNatClampNeg)) &&& 63)], (q_kL S c n))) 2 (fun _ _ => rfl) ?_
  rw [hv]
  refine q_Ru_seg (g2 := (358, [(4, .int i), (3, .ref 270), (2, .ref 236), (1, .ref 64), (0, .ref 0)], [.int (i + 1), .ref 0, .ref 64], (q_kL S c n))) 6 (fun _ _ => rfl) ?_
  refine q_Ru_rsT (g2 := (359, [(4, .int i), (3, .ref 270), (2, .ref 236), (1, .ref 64), (0, .ref 0)], [.int (xs ((i + 1).toNatClampNeg)), .ref 64], (q_kL S c n))) rfl rfl hx1 ?_
  refine q_Ru_seg (g2 := (360, [(4, .int i), (3, .ref 270), (2, .ref 236), (1, .ref 64), (0, .ref 0)], [.ref 270, .int (xs ((i + 1).toNatClampNeg)), .ref 64], (q_kL S c n))) 1 (fun _ _ => rfl) ?_
  refine q_Ru_call (v := (some (.int r0.2.1))) (h2 := (q_kL (q_pt 172 1 0 206 S r0.1) (c + r0.2.2) (n + 6 * r0.2.2))) rfl rfl ?_ ?_
  · exact (q_emXL rfl (fun _ => rfl) (dzt_X3_64_236 z L xs (q_vw 172 0 206 S) c n (xs ((i + 1).toNatClampNeg)) r0 er0)).le (Nat.le_of_ble_eq_true rfl)
  show q_Ru _ _ _ (363, [(4, .int i), (3, .ref 270), (2, .ref 236), (1, .ref 64), (0, .ref 0)], [.int r0.2.1], (q_kL (q_pt 172 1 0 206 S r0.1) (c + r0.2.2) (n + 6 * r0.2.2))) _
  refine q_Ru_seg (g2 := (371, [(5, .int r0.2.1), (4, .int i), (3, .ref 270), (2, .ref 236), (1, .ref 64), (0, .ref 0)], [.int (i + 1), .ref 0, .ref 236], (q_kL (q_pt 172 1 0 206 S r0.1) (c + r0.2.2) (n + 6 * r0.2.2)))) 6 (fun _ _ => rfl) ?_
  refine q_Ru_rsT (g2 := (372, [(5, .int r0.2.1), (4, .int i), (3, .ref 270), (2, .ref 236), (1, .ref 64), (0, .ref 0)], [.int (xs ((i + 1).toNatClampNeg)), .ref 236], (q_kL (q_pt 172 1 0 206 S r0.1) (c + r0.2.2) (n + 6 * r0.2.2)))) rfl rfl hx1 ?_
  refine q_Ru_call (v := (some (.int r1.2))) (h2 := (q_kL (q_pt 34 0 172 0 (q_pt 172 1 0 206 S r0.1) r1.1) (c + r0.2.2) (n + 6 * r0.2.2))) rfl rfl ?_ ?_
  · exact (q_emML rfl (fun _ => rfl) ((dzt_M219_64 (q_vw 34 172 0 (q_pt 172 1 0 206 S r0.1)) (c + r0.2.2) (n + 6 * r0.2.2) (xs ((i + 1).toNatClampNeg)) r1 er1).tb q_TB0_le)).le (Nat.le_of_ble_eq_true rfl)
  show q_Ru _ _ _ (375, [(5, .int r0.2.1), (4, .int i), (3, .ref 270), (2, .ref 236), (1, .ref 64), (0, .ref 0)], [.int r1.2], (q_kL (q_pt 34 0 172 0 (q_pt 172 1 0 206 S r0.1) r1.1) (c + r0.2.2) (n + 6 * r0.2.2))) _
  refine q_Ru_seg (g2 := (23, [(4, .int (i + 4)), (6, .int r1.2), (5, .int r0.2.1), (3, .ref 270), (2, .ref 236), (1, .ref 64), (0, .ref 0)], [], (q_kL (q_pt 34 0 172 0 (q_pt 172 1 0 206 S r0.1) r1.1) (c + r0.2.2) (n + 6 * r0.2.2)))) 4 (fun _ _ => rfl) ?_
  exact q_Ru_xt (q_xt_mk (q_mn1 0 rfl (q_mn1 3 rfl (q_mn1 4 rfl (q_mn1 5 rfl (q_mn1 6 rfl q_mn0))))) rfl) h
set_option maxHeartbeats 4000000 in
theorem q_lw4 (z L : Nat) (xs : Nat → Int32) (S : q_S) (c n : Nat) (i : Int32) (hx0 : q_in i L = true) (hx1 : q_in (i + 1) L = true) (hx2 : q_in (i + 2) L = true) (hx3 : q_in (i + 3) L = true) (hi : decide (Int32.ofNat L - 4 < i) = false) (hv : xs i.toNatClampNeg &&& 63 = 4) (r0 : q_S × Int32 × Nat) (er0 : dz_X4_64_236 (q_vw 172 0 206 S) (xs ((i + 1).toNatClampNeg)) = r0) (r1 : q_S × Int32) (er1 : dz_M220_64 (q_vw 34 172 0 (q_pt 172 1 0 206 S r0.1)) (xs ((i + 1).toNatClampNeg)) = some r1) {o : q_Out} (h : q_Ru (q_TBs z L xs) 20 376 (23, [(4, .int (i + 4)), (3, .ref 270), (2, .ref 236), (1, .ref 64), (0, .ref 0)], [], (q_kL (q_pt 34 0 172 0 (q_pt 172 1 0 206 S r0.1) r1.1) (c + r0.2.2) (n + 6 * r0.2.2))) o) : q_Ru (q_TBs z L xs) 20 376 (23, [(4, .int i), (3, .ref 270), (2, .ref 236), (1, .ref 64), (0, .ref 0)], [], (q_kL S c n)) o := by
  refine q_Ru_seg (g2 := (29, [(4, .int i), (3, .ref 270), (2, .ref 236), (1, .ref 64), (0, .ref 0)], [.int ((Int32.ofNat L) - 4), .int i], (q_kL S c n))) 5 (fun _ _ => rfl) ?_
  refine q_Ru_rsF (g2 := (32, [(4, .int i), (3, .ref 270), (2, .ref 236), (1, .ref 64), (0, .ref 0)], [], (q_kL S c n))) rfl rfl hi ?_
  refine q_Ru_seg (g2 := (35, [(4, .int i), (3, .ref 270), (2, .ref 236), (1, .ref 64), (0, .ref 0)], [.int i, .ref 0], (q_kL S c n))) 2 (fun _ _ => rfl) ?_
  refine q_Ru_rsT (g2 := (36, [(4, .int i), (3, .ref 270), (2, .ref 236), (1, .ref 64), (0, .ref 0)], [.int (xs (i.toNatClampNeg))], (q_kL S c n))) rfl rfl hx0 ?_
  refine q_Ru_seg (g2 := (39, [(4, .int i), (3, .ref 270), (2, .ref 236), (1, .ref 64), (0, .ref 0)], [.int ((xs (i.toNatClampNeg)) &&& 63)], (q_kL S c n))) 2 (fun _ _ => rfl) ?_
  rw [hv]
  refine q_Ru_seg (g2 := (386, [(4, .int i), (3, .ref 270), (2, .ref 236), (1, .ref 64), (0, .ref 0)], [.int (i + 1), .ref 0, .ref 64], (q_kL S c n))) 6 (fun _ _ => rfl) ?_
  refine q_Ru_rsT (g2 := (387, [(4, .int i), (3, .ref 270), (2, .ref 236), (1, .ref 64), (0, .ref 0)], [.int (xs ((i + 1).toNatClampNeg)), .ref 64], (q_kL S c n))) rfl rfl hx1 ?_
  refine q_Ru_seg (g2 := (388, [(4, .int i), (3, .ref 270), (2, .ref 236), (1, .ref 64), (0, .ref 0)], [.ref 270, .int (xs ((i + 1).toNatClampNeg)), .ref 64], (q_kL S c n))) 1 (fun _ _ => rfl) ?_
  refine q_Ru_call (v := (some (.int r0.2.1))) (h2 := (q_kL (q_pt 172 1 0 206 S r0.1) (c + r0.2.2) (n + 6 * r0.2.2))) rfl rfl ?_ ?_
  · exact (q_emXL rfl (fun _ => rfl) (q_cE (φ := (q_oEX c n)) er0 (dzt_X4_64_236 z L xs (q_vw 172 0 206 S) c n (xs ((i + 1).toNatClampNeg))))).le (Nat.le_of_ble_eq_true rfl)
  show q_Ru _ _ _ (391, [(4, .int i), (3, .ref 270), (2, .ref 236), (1, .ref 64), (0, .ref 0)], [.int r0.2.1], (q_kL (q_pt 172 1 0 206 S r0.1) (c + r0.2.2) (n + 6 * r0.2.2))) _
  refine q_Ru_seg (g2 := (399, [(5, .int r0.2.1), (4, .int i), (3, .ref 270), (2, .ref 236), (1, .ref 64), (0, .ref 0)], [.int (i + 1), .ref 0, .ref 236], (q_kL (q_pt 172 1 0 206 S r0.1) (c + r0.2.2) (n + 6 * r0.2.2)))) 6 (fun _ _ => rfl) ?_
  refine q_Ru_rsT (g2 := (400, [(5, .int r0.2.1), (4, .int i), (3, .ref 270), (2, .ref 236), (1, .ref 64), (0, .ref 0)], [.int (xs ((i + 1).toNatClampNeg)), .ref 236], (q_kL (q_pt 172 1 0 206 S r0.1) (c + r0.2.2) (n + 6 * r0.2.2)))) rfl rfl hx1 ?_
  refine q_Ru_call (v := (some (.int r1.2))) (h2 := (q_kL (q_pt 34 0 172 0 (q_pt 172 1 0 206 S r0.1) r1.1) (c + r0.2.2) (n + 6 * r0.2.2))) rfl rfl ?_ ?_
  · exact (q_emML rfl (fun _ => rfl) ((dzt_M220_64 (q_vw 34 172 0 (q_pt 172 1 0 206 S r0.1)) (c + r0.2.2) (n + 6 * r0.2.2) (xs ((i + 1).toNatClampNeg)) r1 er1).tb q_TB0_le)).le (Nat.le_of_ble_eq_true rfl)
  show q_Ru _ _ _ (403, [(5, .int r0.2.1), (4, .int i), (3, .ref 270), (2, .ref 236), (1, .ref 64), (0, .ref 0)], [.int r1.2], (q_kL (q_pt 34 0 172 0 (q_pt 172 1 0 206 S r0.1) r1.1) (c + r0.2.2) (n + 6 * r0.2.2))) _
  refine q_Ru_seg (g2 := (23, [(4, .int (i + 4)), (6, .int r1.2), (5, .int r0.2.1), (3, .ref 270), (2, .ref 236), (1, .ref 64), (0, .ref 0)], [], (q_kL (q_pt 34 0 172 0 (q_pt 172 1 0 206 S r0.1) r1.1) (c + r0.2.2) (n + 6 * r0.2.2)))) 4 (fun _ _ => rfl) ?_
  exact q_Ru_xt (q_xt_mk (q_mn1 0 rfl (q_mn1 3 rfl (q_mn1 4 rfl (q_mn1 5 rfl (q_mn1 6 rfl q_mn0))))) rfl) h
set_option maxHeartbeats 4000000 in
theorem q_lw5 (z L : Nat) (xs : Nat → Int32) (S : q_S) (c n : Nat) (i : Int32) (hx0 : q_in i L = true) (hx1 : q_in (i + 1) L = true) (hx2 : q_in (i + 2) L = true) (hx3 : q_in (i + 3) L = true) (hi : decide (Int32.ofNat L - 4 < i) = false) (hv : xs i.toNatClampNeg &&& 63 = 5) (r0 : q_S × Int32 × Nat) (er0 : dz_X5_64_236 (q_vw 172 0 206 S) (xs ((i + 1).toNatClampNeg)) (xs ((i + 2).toNatClampNeg)) (xs ((i + 3).toNatClampNeg)) = some r0) (r1 : q_S × Int32) (er1 : dz_M279_64 (q_vw 34 172 0 (q_pt 172 1 0 206 S r0.1)) (xs ((i + 1).toNatClampNeg)) (xs ((i + 2).toNatClampNeg)) (xs ((i + 3).toNatClampNeg)) = some r1) {o : q_Out} (h : q_Ru (q_TBs z L xs) 20 376 (23, [(4, .int (i + 4)), (3, .ref 270), (2, .ref 236), (1, .ref 64), (0, .ref 0)], [], (q_kL (q_pt 34 0 172 0 (q_pt 172 1 0 206 S r0.1) r1.1) (c + r0.2.2) (n + 6 * r0.2.2))) o) : q_Ru (q_TBs z L xs) 20 376 (23, [(4, .int i), (3, .ref 270), (2, .ref 236), (1, .ref 64), (0, .ref 0)], [], (q_kL S c n)) o := by
  refine q_Ru_seg (g2 := (29, [(4, .int i), (3, .ref 270), (2, .ref 236), (1, .ref 64), (0, .ref 0)], [.int ((Int32.ofNat L) - 4), .int i], (q_kL S c n))) 5 (fun _ _ => rfl) ?_
  refine q_Ru_rsF (g2 := (32, [(4, .int i), (3, .ref 270), (2, .ref 236), (1, .ref 64), (0, .ref 0)], [], (q_kL S c n))) rfl rfl hi ?_
  refine q_Ru_seg (g2 := (35, [(4, .int i), (3, .ref 270), (2, .ref 236), (1, .ref 64), (0, .ref 0)], [.int i, .ref 0], (q_kL S c n))) 2 (fun _ _ => rfl) ?_
  refine q_Ru_rsT (g2 := (36, [(4, .int i), (3, .ref 270), (2, .ref 236), (1, .ref 64), (0, .ref 0)], [.int (xs (i.toNatClampNeg))], (q_kL S c n))) rfl rfl hx0 ?_
  refine q_Ru_seg (g2 := (39, [(4, .int i), (3, .ref 270), (2, .ref 236), (1, .ref 64), (0, .ref 0)], [.int ((xs (i.toNatClampNeg)) &&& 63)], (q_kL S c n))) 2 (fun _ _ => rfl) ?_
  rw [hv]
  refine q_Ru_seg (g2 := (414, [(4, .int i), (3, .ref 270), (2, .ref 236), (1, .ref 64), (0, .ref 0)], [.int (i + 1), .ref 0, .ref 64], (q_kL S c n))) 6 (fun _ _ => rfl) ?_
  refine q_Ru_rsT (g2 := (415, [(4, .int i), (3, .ref 270), (2, .ref 236), (1, .ref 64), (0, .ref 0)], [.int (xs ((i + 1).toNatClampNeg)), .ref 64], (q_kL S c n))) rfl rfl hx1 ?_
  refine q_Ru_seg (g2 := (420, [(4, .int i), (3, .ref 270), (2, .ref 236), (1, .ref 64), (0, .ref 0)], [.int (i + 2), .ref 0, .int (xs ((i + 1).toNatClampNeg)), .ref 64], (q_kL S c n))) 4 (fun _ _ => rfl) ?_
  refine q_Ru_rsT (g2 := (421, [(4, .int i), (3, .ref 270), (2, .ref 236), (1, .ref 64), (0, .ref 0)], [.int (xs ((i + 2).toNatClampNeg)), .int (xs ((i + 1).toNatClampNeg)), .ref 64], (q_kL S c n))) rfl rfl hx2 ?_
  refine q_Ru_seg (g2 := (426, [(4, .int i), (3, .ref 270), (2, .ref 236), (1, .ref 64), (0, .ref 0)], [.int (i + 3), .ref 0, .int (xs ((i + 2).toNatClampNeg)), .int (xs ((i + 1).toNatClampNeg)), .ref 64], (q_kL S c n))) 4 (fun _ _ => rfl) ?_
  refine q_Ru_rsT (g2 := (427, [(4, .int i), (3, .ref 270), (2, .ref 236), (1, .ref 64), (0, .ref 0)], [.int (xs ((i + 3).toNatClampNeg)), .int (xs ((i + 2).toNatClampNeg)), .int (xs ((i + 1).toNatClampNeg)), .ref 64], (q_kL S c n))) rfl rfl hx3 ?_
  refine q_Ru_seg (g2 := (428, [(4, .int i), (3, .ref 270), (2, .ref 236), (1, .ref 64), (0, .ref 0)], [.ref 270, .int (xs ((i + 3).toNatClampNeg)), .int (xs ((i + 2).toNatClampNeg)), .int (xs ((i + 1).toNatClampNeg)), .ref 64], (q_kL S c n))) 1 (fun _ _ => rfl) ?_
  refine q_Ru_call (v := (some (.int r0.2.1))) (h2 := (q_kL (q_pt 172 1 0 206 S r0.1) (c + r0.2.2) (n + 6 * r0.2.2))) rfl rfl ?_ ?_
  · exact (q_emXL rfl (fun _ => rfl) (dzt_X5_64_236 z L xs (q_vw 172 0 206 S) c n (xs ((i + 1).toNatClampNeg)) (xs ((i + 2).toNatClampNeg)) (xs ((i + 3).toNatClampNeg)) r0 er0)).le (Nat.le_of_ble_eq_true rfl)
  show q_Ru _ _ _ (431, [(4, .int i), (3, .ref 270), (2, .ref 236), (1, .ref 64), (0, .ref 0)], [.int r0.2.1], (q_kL (q_pt 172 1 0 206 S r0.1) (c + r0.2.2) (n + 6 * r0.2.2))) _
  refine q_Ru_seg (g2 := (439, [(5, .int r0.2.1), (4, .int i), (3, .ref 270), (2, .ref 236), (1, .ref 64), (0, .ref 0)], [.int (i + 1), .ref 0, .ref 236], (q_kL (q_pt 172 1 0 206 S r0.1) (c + r0.2.2) (n + 6 * r0.2.2)))) 6 (fun _ _ => rfl) ?_
  refine q_Ru_rsT (g2 := (440, [(5, .int r0.2.1), (4, .int i), (3, .ref 270), (2, .ref 236), (1, .ref 64), (0, .ref 0)], [.int (xs ((i + 1).toNatClampNeg)), .ref 236], (q_kL (q_pt 172 1 0 206 S r0.1) (c + r0.2.2) (n + 6 * r0.2.2)))) rfl rfl hx1 ?_
  refine q_Ru_seg (g2 := (445, [(5, .int r0.2.1), (4, .int i), (3, .ref 270), (2, .ref 236), (1, .ref 64), (0, .ref 0)], [.int (i + 2), .ref 0, .int (xs ((i + 1).toNatClampNeg)), .ref 236], (q_kL (q_pt 172 1 0 206 S r0.1) (c + r0.2.2) (n + 6 * r0.2.2)))) 4 (fun _ _ => rfl) ?_
  refine q_Ru_rsT (g2 := (446, [(5, .int r0.2.1), (4, .int i), (3, .ref 270), (2, .ref 236), (1, .ref 64), (0, .ref 0)], [.int (xs ((i + 2).toNatClampNeg)), .int (xs ((i + 1).toNatClampNeg)), .ref 236], (q_kL (q_pt 172 1 0 206 S r0.1) (c + r0.2.2) (n + 6 * r0.2.2)))) rfl rfl hx2 ?_
  refine q_Ru_seg (g2 := (451, [(5, .int r0.2.1), (4, .int i), (3, .ref 270), (2, .ref 236), (1, .ref 64), (0, .ref 0)], [.int (i + 3), .ref 0, .int (xs ((i + 2).toNatClampNeg)), .int (xs ((i + 1).toNatClampNeg)), .ref 236], (q_kL (q_pt 172 1 0 206 S r0.1) (c + r0.2.2) (n + 6 * r0.2.2)))) 4 (fun _ _ => rfl) ?_
  refine q_Ru_rsT (g2 := (452, [(5, .int r0.2.1), (4, .int i), (3, .ref 270), (2, .ref 236), (1, .ref 64), (0, .ref 0)], [.int (xs ((i + 3).toNatClampNeg)), .int (xs ((i + 2).toNatClampNeg)), .int (xs ((i + 1).toNatClampNeg)), .ref 236], (q_kL (q_pt 172 1 0 206 S r0.1) (c + r0.2.2) (n + 6 * r0.2.2)))) rfl rfl hx3 ?_
  refine q_Ru_call (v := (some (.int r1.2))) (h2 := (q_kL (q_pt 34 0 172 0 (q_pt 172 1 0 206 S r0.1) r1.1) (c + r0.2.2) (n + 6 * r0.2.2))) rfl rfl ?_ ?_
  · exact (q_emML rfl (fun _ => rfl) ((dzt_M279_64 (q_vw 34 172 0 (q_pt 172 1 0 206 S r0.1)) (c + r0.2.2) (n + 6 * r0.2.2) (xs ((i + 1).toNatClampNeg)) (xs ((i + 2).toNatClampNeg)) (xs ((i + 3).toNatClampNeg)) r1 er1).tb q_TB0_le)).le (Nat.le_of_ble_eq_true rfl)
  show q_Ru _ _ _ (455, [(5, .int r0.2.1), (4, .int i), (3, .ref 270), (2, .ref 236), (1, .ref 64), (0, .ref 0)], [.int r1.2], (q_kL (q_pt 34 0 172 0 (q_pt 172 1 0 206 S r0.1) r1.1) (c + r0.2.2) (n + 6 * r0.2.2))) _
  refine q_Ru_seg (g2 := (23, [(4, .int (i + 4)), (6, .int r1.2), (5, .int r0.2.1), (3, .ref 270), (2, .ref 236), (1, .ref 64), (0, .ref 0)], [], (q_kL (q_pt 34 0 172 0 (q_pt 172 1 0 206 S r0.1) r1.1) (c + r0.2.2) (n + 6 * r0.2.2)))) 4 (fun _ _ => rfl) ?_
  exact q_Ru_xt (q_xt_mk (q_mn1 0 rfl (q_mn1 3 rfl (q_mn1 4 rfl (q_mn1 5 rfl (q_mn1 6 rfl q_mn0))))) rfl) h
set_option maxHeartbeats 4000000 in
theorem q_lw6 (z L : Nat) (xs : Nat → Int32) (S : q_S) (c n : Nat) (i : Int32) (hx0 : q_in i L = true) (hx1 : q_in (i + 1) L = true) (hx2 : q_in (i + 2) L = true) (hx3 : q_in (i + 3) L = true) (hi : decide (Int32.ofNat L - 4 < i) = false) (hv : xs i.toNatClampNeg &&& 63 = 6) (r0 : q_S × Int32 × Nat) (er0 : dz_X6_64_236 (q_vw 172 0 206 S) (xs ((i + 1).toNatClampNeg)) = some r0) (r1 : q_S × Int32) (er1 : dz_M286_64 (q_vw 34 172 0 (q_pt 172 1 0 206 S r0.1)) (xs ((i + 1).toNatClampNeg)) = some r1) {o : q_Out} (h : q_Ru (q_TBs z L xs) 20 376 (23, [(4, .int (i + 4)), (3, .ref 270), (2, .ref 236), (1, .ref 64), (0, .ref 0)], [], (q_kL (q_pt 34 0 172 0 (q_pt 172 1 0 206 S r0.1) r1.1) (c + r0.2.2) (n + 6 * r0.2.2))) o) : q_Ru (q_TBs z L xs) 20 376 (23, [(4, .int i), (3, .ref 270), (2, .ref 236), (1, .ref 64), (0, .ref 0)], [], (q_kL S c n)) o := by
  refine q_Ru_seg (g2 := (29, [(4, .int i), (3, .ref 270), (2, .ref 236), (1, .ref 64), (0, .ref 0)], [.int ((Int32.ofNat L) - 4), .int i], (q_kL S c n))) 5 (fun _ _ => rfl) ?_
  refine q_Ru_rsF (g2 := (32, [(4, .int i), (3, .ref 270), (2, .ref 236), (1, .ref 64), (0, .ref 0)], [], (q_kL S c n))) rfl rfl hi ?_
  refine q_Ru_seg (g2 := (35, [(4, .int i), (3, .ref 270), (2, .ref 236), (1, .ref 64), (0, .ref 0)], [.int i, .ref 0], (q_kL S c n))) 2 (fun _ _ => rfl) ?_
  refine q_Ru_rsT (g2 := (36, [(4, .int i), (3, .ref 270), (2, .ref 236), (1, .ref 64), (0, .ref 0)], [.int (xs (i.toNatClampNeg))], (q_kL S c n))) rfl rfl hx0 ?_
  refine q_Ru_seg (g2 := (39, [(4, .int i), (3, .ref 270), (2, .ref 236), (1, .ref 64), (0, .ref 0)], [.int ((xs (i.toNatClampNeg)) &&& 63)], (q_kL S c n))) 2 (fun _ _ => rfl) ?_
  rw [hv]
  refine q_Ru_seg (g2 := (466, [(4, .int i), (3, .ref 270), (2, .ref 236), (1, .ref 64), (0, .ref 0)], [.int (i + 1), .ref 0, .ref 64], (q_kL S c n))) 6 (fun _ _ => rfl) ?_
  refine q_Ru_rsT (g2 := (467, [(4, .int i), (3, .ref 270), (2, .ref 236), (1, .ref 64), (0, .ref 0)], [.int (xs ((i + 1).toNatClampNeg)), .ref 64], (q_kL S c n))) rfl rfl hx1 ?_
  refine q_Ru_seg (g2 := (468, [(4, .int i), (3, .ref 270), (2, .ref 236), (1, .ref 64), (0, .ref 0)], [.ref 270, .int (xs ((i + 1).toNatClampNeg)), .ref 64], (q_kL S c n))) 1 (fun _ _ => rfl) ?_
  refine q_Ru_call (v := (some (.int r0.2.1))) (h2 := (q_kL (q_pt 172 1 0 206 S r0.1) (c + r0.2.2) (n + 6 * r0.2.2))) rfl rfl ?_ ?_
  · exact (q_emXL rfl (fun _ => rfl) (dzt_X6_64_236 z L xs (q_vw 172 0 206 S) c n (xs ((i + 1).toNatClampNeg)) r0 er0)).le (Nat.le_of_ble_eq_true rfl)
  show q_Ru _ _ _ (471, [(4, .int i), (3, .ref 270), (2, .ref 236), (1, .ref 64), (0, .ref 0)], [.int r0.2.1], (q_kL (q_pt 172 1 0 206 S r0.1) (c + r0.2.2) (n + 6 * r0.2.2))) _
  refine q_Ru_seg (g2 := (479, [(5, .int r0.2.1), (4, .int i), (3, .ref 270), (2, .ref 236), (1, .ref 64), (0, .ref 0)], [.int (i + 1), .ref 0, .ref 236], (q_kL (q_pt 172 1 0 206 S r0.1) (c + r0.2.2) (n + 6 * r0.2.2)))) 6 (fun _ _ => rfl) ?_
  refine q_Ru_rsT (g2 := (480, [(5, .int r0.2.1), (4, .int i), (3, .ref 270), (2, .ref 236), (1, .ref 64), (0, .ref 0)], [.int (xs ((i + 1).toNatClampNeg)), .ref 236], (q_kL (q_pt 172 1 0 206 S r0.1) (c + r0.2.2) (n + 6 * r0.2.2)))) rfl rfl hx1 ?_
  refine q_Ru_call (v := (some (.int r1.2))) (h2 := (q_kL (q_pt 34 0 172 0 (q_pt 172 1 0 206 S r0.1) r1.1) (c + r0.2.2) (n + 6 * r0.2.2))) rfl rfl ?_ ?_
  · exact (q_emML rfl (fun _ => rfl) ((dzt_M286_64 (q_vw 34 172 0 (q_pt 172 1 0 206 S r0.1)) (c + r0.2.2) (n + 6 * r0.2.2) (xs ((i + 1).toNatClampNeg)) r1 er1).tb q_TB0_le)).le (Nat.le_of_ble_eq_true rfl)
  show q_Ru _ _ _ (483, [(5, .int r0.2.1), (4, .int i), (3, .ref 270), (2, .ref 236), (1, .ref 64), (0, .ref 0)], [.int r1.2], (q_kL (q_pt 34 0 172 0 (q_pt 172 1 0 206 S r0.1) r1.1) (c + r0.2.2) (n + 6 * r0.2.2))) _
  refine q_Ru_seg (g2 := (23, [(4, .int (i + 4)), (6, .int r1.2), (5, .int r0.2.1), (3, .ref 270), (2, .ref 236), (1, .ref 64), (0, .ref 0)], [], (q_kL (q_pt 34 0 172 0 (q_pt 172 1 0 206 S r0.1) r1.1) (c + r0.2.2) (n + 6 * r0.2.2)))) 4 (fun _ _ => rfl) ?_
  exact q_Ru_xt (q_xt_mk (q_mn1 0 rfl (q_mn1 3 rfl (q_mn1 4 rfl (q_mn1 5 rfl (q_mn1 6 rfl q_mn0))))) rfl) h
set_option maxHeartbeats 4000000 in
theorem q_lw7 (z L : Nat) (xs : Nat → Int32) (S : q_S) (c n : Nat) (i : Int32) (hx0 : q_in i L = true) (hx1 : q_in (i + 1) L = true) (hx2 : q_in (i + 2) L = true) (hx3 : q_in (i + 3) L = true) (hi : decide (Int32.ofNat L - 4 < i) = false) (hv : xs i.toNatClampNeg &&& 63 = 7) (r0 : q_S × Int32 × Nat) (er0 : dz_X7_64_236 (q_vw 172 0 206 S) (xs ((i + 1).toNatClampNeg)) = some r0) (r1 : q_S × Int32) (er1 : dz_M287_64 (q_vw 34 172 0 (q_pt 172 1 0 206 S r0.1)) (xs ((i + 1).toNatClampNeg)) = some r1) {o : q_Out} (h : q_Ru (q_TBs z L xs) 20 376 (23, [(4, .int (i + 4)), (3, .ref 270), (2, .ref 236), (1, .ref 64), (0, .ref 0)], [], (q_kL (q_pt 34 0 172 0 (q_pt 172 1 0 206 S r0.1) r1.1) (c + r0.2.2) (n + 6 * r0.2.2))) o) : q_Ru (q_TBs z L xs) 20 376 (23, [(4, .int i), (3, .ref 270), (2, .ref 236), (1, .ref 64), (0, .ref 0)], [], (q_kL S c n)) o := by
  refine q_Ru_seg (g2 := (29, [(4, .int i), (3, .ref 270), (2, .ref 236), (1, .ref 64), (0, .ref 0)], [.int ((Int32.ofNat L) - 4), .int i], (q_kL S c n))) 5 (fun _ _ => rfl) ?_
  refine q_Ru_rsF (g2 := (32, [(4, .int i), (3, .ref 270), (2, .ref 236), (1, .ref 64), (0, .ref 0)], [], (q_kL S c n))) rfl rfl hi ?_
  refine q_Ru_seg (g2 := (35, [(4, .int i), (3, .ref 270), (2, .ref 236), (1, .ref 64), (0, .ref 0)], [.int i, .ref 0], (q_kL S c n))) 2 (fun _ _ => rfl) ?_
  refine q_Ru_rsT (g2 := (36, [(4, .int i), (3, .ref 270), (2, .ref 236), (1, .ref 64), (0, .ref 0)], [.int (xs (i.toNatClampNeg))], (q_kL S c n))) rfl rfl hx0 ?_
  refine q_Ru_seg (g2 := (39, [(4, .int i), (3, .ref 270), (2, .ref 236), (1, .ref 64), (0, .ref 0)], [.int ((xs (i.toNatClampNeg)) &&& 63)], (q_kL S c n))) 2 (fun _ _ => rfl) ?_
  rw [hv]
  refine q_Ru_seg (g2 := (494, [(4, .int i), (3, .ref 270), (2, .ref 236), (1, .ref 64), (0, .ref 0)], [.int (i + 1), .ref 0, .ref 64], (q_kL S c n))) 6 (fun _ _ => rfl) ?_
  refine q_Ru_rsT (g2 := (495, [(4, .int i), (3, .ref 270), (2, .ref 236), (1, .ref 64), (0, .ref 0)], [.int (xs ((i + 1).toNatClampNeg)), .ref 64], (q_kL S c n))) rfl rfl hx1 ?_
  refine q_Ru_seg (g2 := (496, [(4, .int i), (3, .ref 270), (2, .ref 236), (1, .ref 64), (0, .ref 0)], [.ref 270, .int (xs ((i + 1).toNatClampNeg)), .ref 64], (q_kL S c n))) 1 (fun _ _ => rfl) ?_
  refine q_Ru_call (v := (some (.int r0.2.1))) (h2 := (q_kL (q_pt 172 1 0 206 S r0.1) (c + r0.2.2) (n + 6 * r0.2.2))) rfl rfl ?_ ?_
  · exact (q_emXL rfl (fun _ => rfl) (dzt_X7_64_236 z L xs (q_vw 172 0 206 S) c n (xs ((i + 1).toNatClampNeg)) r0 er0)).le (Nat.le_of_ble_eq_true rfl)
  show q_Ru _ _ _ (499, [(4, .int i), (3, .ref 270), (2, .ref 236), (1, .ref 64), (0, .ref 0)], [.int r0.2.1], (q_kL (q_pt 172 1 0 206 S r0.1) (c + r0.2.2) (n + 6 * r0.2.2))) _
  refine q_Ru_seg (g2 := (507, [(5, .int r0.2.1), (4, .int i), (3, .ref 270), (2, .ref 236), (1, .ref 64), (0, .ref 0)], [.int (i + 1), .ref 0, .ref 236], (q_kL (q_pt 172 1 0 206 S r0.1) (c + r0.2.2) (n + 6 * r0.2.2)))) 6 (fun _ _ => rfl) ?_
  refine q_Ru_rsT (g2 := (508, [(5, .int r0.2.1), (4, .int i), (3, .ref 270), (2, .ref 236), (1, .ref 64), (0, .ref 0)], [.int (xs ((i + 1).toNatClampNeg)), .ref 236], (q_kL (q_pt 172 1 0 206 S r0.1) (c + r0.2.2) (n + 6 * r0.2.2)))) rfl rfl hx1 ?_
  refine q_Ru_call (v := (some (.int r1.2))) (h2 := (q_kL (q_pt 34 0 172 0 (q_pt 172 1 0 206 S r0.1) r1.1) (c + r0.2.2) (n + 6 * r0.2.2))) rfl rfl ?_ ?_
  · exact (q_emML rfl (fun _ => rfl) ((dzt_M287_64 (q_vw 34 172 0 (q_pt 172 1 0 206 S r0.1)) (c + r0.2.2) (n + 6 * r0.2.2) (xs ((i + 1).toNatClampNeg)) r1 er1).tb q_TB0_le)).le (Nat.le_of_ble_eq_true rfl)
  show q_Ru _ _ _ (511, [(5, .int r0.2.1), (4, .int i), (3, .ref 270), (2, .ref 236), (1, .ref 64), (0, .ref 0)], [.int r1.2], (q_kL (q_pt 34 0 172 0 (q_pt 172 1 0 206 S r0.1) r1.1) (c + r0.2.2) (n + 6 * r0.2.2))) _
  refine q_Ru_seg (g2 := (23, [(4, .int (i + 4)), (6, .int r1.2), (5, .int r0.2.1), (3, .ref 270), (2, .ref 236), (1, .ref 64), (0, .ref 0)], [], (q_kL (q_pt 34 0 172 0 (q_pt 172 1 0 206 S r0.1) r1.1) (c + r0.2.2) (n + 6 * r0.2.2)))) 4 (fun _ _ => rfl) ?_
  exact q_Ru_xt (q_xt_mk (q_mn1 0 rfl (q_mn1 3 rfl (q_mn1 4 rfl (q_mn1 5 rfl (q_mn1 6 rfl q_mn0))))) rfl) h
set_option maxHeartbeats 4000000 in
theorem q_lw8 (z L : Nat) (xs : Nat → Int32) (S : q_S) (c n : Nat) (i : Int32) (hx0 : q_in i L = true) (hx1 : q_in (i + 1) L = true) (hx2 : q_in (i + 2) L = true) (hx3 : q_in (i + 3) L = true) (hi : decide (Int32.ofNat L - 4 < i) = false) (hv : xs i.toNatClampNeg &&& 63 = 8) (r0 : q_S × Int32 × Nat) (er0 : dz_X8_64_236 (q_vw 172 0 206 S) (xs ((i + 1).toNatClampNeg)) (xs ((i + 2).toNatClampNeg)) (xs ((i + 3).toNatClampNeg)) = some r0) (r1 : q_S × Int32) (er1 : dz_M221_64 (q_vw 34 172 0 (q_pt 172 1 0 206 S r0.1)) (xs ((i + 1).toNatClampNeg)) (xs ((i + 2).toNatClampNeg)) (xs ((i + 3).toNatClampNeg)) = some r1) {o : q_Out} (h : q_Ru (q_TBs z L xs) 20 376 (23, [(4, .int (i + 4)), (3, .ref 270), (2, .ref 236), (1, .ref 64), (0, .ref 0)], [], (q_kL (q_pt 34 0 172 0 (q_pt 172 1 0 206 S r0.1) r1.1) (c + r0.2.2) (n + 6 * r0.2.2))) o) : q_Ru (q_TBs z L xs) 20 376 (23, [(4, .int i), (3, .ref 270), (2, .ref 236), (1, .ref 64), (0, .ref 0)], [], (q_kL S c n)) o := by
  refine q_Ru_seg (g2 := (29, [(4, .int i), (3, .ref 270), (2, .ref 236), (1, .ref 64), (0, .ref 0)], [.int ((Int32.ofNat L) - 4), .int i], (q_kL S c n))) 5 (fun _ _ => rfl) ?_
  refine q_Ru_rsF (g2 := (32, [(4, .int i), (3, .ref 270), (2, .ref 236), (1, .ref 64), (0, .ref 0)], [], (q_kL S c n))) rfl rfl hi ?_
  refine q_Ru_seg (g2 := (35, [(4, .int i), (3, .ref 270), (2, .ref 236), (1, .ref 64), (0, .ref 0)], [.int i, .ref 0], (q_kL S c n))) 2 (fun _ _ => rfl) ?_
  refine q_Ru_rsT (g2 := (36, [(4, .int i), (3, .ref 270), (2, .ref 236), (1, .ref 64), (0, .ref 0)], [.int (xs (i.toNatClampNeg))], (q_kL S c n))) rfl rfl hx0 ?_
  refine q_Ru_seg (g2 := (39, [(4, .int i), (3, .ref 270), (2, .ref 236), (1, .ref 64), (0, .ref 0)], [.int ((xs (i.toNatClampNeg)) &&& 63)], (q_kL S c n))) 2 (fun _ _ => rfl) ?_
  rw [hv]
  refine q_Ru_seg (g2 := (522, [(4, .int i), (3, .ref 270), (2, .ref 236), (1, .ref 64), (0, .ref 0)], [.int (i + 1), .ref 0, .ref 64], (q_kL S c n))) 6 (fun _ _ => rfl) ?_
  refine q_Ru_rsT (g2 := (523, [(4, .int i), (3, .ref 270), (2, .ref 236), (1, .ref 64), (0, .ref 0)], [.int (xs ((i + 1).toNatClampNeg)), .ref 64], (q_kL S c n))) rfl rfl hx1 ?_
  refine q_Ru_seg (g2 := (528, [(4, .int i), (3, .ref 270), (2, .ref 236), (1, .ref 64), (0, .ref 0)], [.int (i + 2), .ref 0, .int (xs ((i + 1).toNatClampNeg)), .ref 64], (q_kL S c n))) 4 (fun _ _ => rfl) ?_
  refine q_Ru_rsT (g2 := (529, [(4, .int i), (3, .ref 270), (2, .ref 236), (1, .ref 64), (0, .ref 0)], [.int (xs ((i + 2).toNatClampNeg)), .int (xs ((i + 1).toNatClampNeg)), .ref 64], (q_kL S c n))) rfl rfl hx2 ?_
  refine q_Ru_seg (g2 := (534, [(4, .int i), (3, .ref 270), (2, .ref 236), (1, .ref 64), (0, .ref 0)], [.int (i + 3), .ref 0, .int (xs ((i + 2).toNatClampNeg)), .int (xs ((i + 1).toNatClampNeg)), .ref 64], (q_kL S c n))) 4 (fun _ _ => rfl) ?_
  refine q_Ru_rsT (g2 := (535, [(4, .int i), (3, .ref 270), (2, .ref 236), (1, .ref 64), (0, .ref 0)], [.int (xs ((i + 3).toNatClampNeg)), .int (xs ((i + 2).toNatClampNeg)), .int (xs ((i + 1).toNatClampNeg)), .ref 64], (q_kL S c n))) rfl rfl hx3 ?_
  refine q_Ru_seg (g2 := (536, [(4, .int i), (3, .ref 270), (2, .ref 236), (1, .ref 64), (0, .ref 0)], [.ref 270, .int (xs ((i + 3).toNatClampNeg)), .int (xs ((i + 2).toNatClampNeg)), .int (xs ((i + 1).toNatClampNeg)), .ref 64], (q_kL S c n))) 1 (fun _ _ => rfl) ?_
  refine q_Ru_call (v := (some (.int r0.2.1))) (h2 := (q_kL (q_pt 172 1 0 206 S r0.1) (c + r0.2.2) (n + 6 * r0.2.2))) rfl rfl ?_ ?_
  · exact (q_emXL rfl (fun _ => rfl) (dzt_X8_64_236 z L xs (q_vw 172 0 206 S) c n (xs ((i + 1).toNatClampNeg)) (xs ((i + 2).toNatClampNeg)) (xs ((i + 3).toNatClampNeg)) r0 er0)).le (Nat.le_of_ble_eq_true rfl)
  show q_Ru _ _ _ (539, [(4, .int i), (3, .ref 270), (2, .ref 236), (1, .ref 64), (0, .ref 0)], [.int r0.2.1], (q_kL (q_pt 172 1 0 206 S r0.1) (c + r0.2.2) (n + 6 * r0.2.2))) _
  refine q_Ru_seg (g2 := (547, [(5, .int r0.2.1), (4, .int i), (3, .ref 270), (2, .ref 236), (1, .ref 64), (0, .ref 0)], [.int (i + 1), .ref 0, .ref 236], (q_kL (q_pt 172 1 0 206 S r0.1) (c + r0.2.2) (n + 6 * r0.2.2)))) 6 (fun _ _ => rfl) ?_
  refine q_Ru_rsT (g2 := (548, [(5, .int r0.2.1), (4, .int i), (3, .ref 270), (2, .ref 236), (1, .ref 64), (0, .ref 0)], [.int (xs ((i + 1).toNatClampNeg)), .ref 236], (q_kL (q_pt 172 1 0 206 S r0.1) (c + r0.2.2) (n + 6 * r0.2.2)))) rfl rfl hx1 ?_
  refine q_Ru_seg (g2 := (553, [(5, .int r0.2.1), (4, .int i), (3, .ref 270), (2, .ref 236), (1, .ref 64), (0, .ref 0)], [.int (i + 2), .ref 0, .int (xs ((i + 1).toNatClampNeg)), .ref 236], (q_kL (q_pt 172 1 0 206 S r0.1) (c + r0.2.2) (n + 6 * r0.2.2)))) 4 (fun _ _ => rfl) ?_
  refine q_Ru_rsT (g2 := (554, [(5, .int r0.2.1), (4, .int i), (3, .ref 270), (2, .ref 236), (1, .ref 64), (0, .ref 0)], [.int (xs ((i + 2).toNatClampNeg)), .int (xs ((i + 1).toNatClampNeg)), .ref 236], (q_kL (q_pt 172 1 0 206 S r0.1) (c + r0.2.2) (n + 6 * r0.2.2)))) rfl rfl hx2 ?_
  refine q_Ru_seg (g2 := (559, [(5, .int r0.2.1), (4, .int i), (3, .ref 270), (2, .ref 236), (1, .ref 64), (0, .ref 0)], [.int (i + 3), .ref 0, .int (xs ((i + 2).toNatClampNeg)), .int (xs ((i + 1).toNatClampNeg)), .ref 236], (q_kL (q_pt 172 1 0 206 S r0.1) (c + r0.2.2) (n + 6 * r0.2.2)))) 4 (fun _ _ => rfl) ?_
  refine q_Ru_rsT (g2 := (560, [(5, .int r0.2.1), (4, .int i), (3, .ref 270), (2, .ref 236), (1, .ref 64), (0, .ref 0)], [.int (xs ((i + 3).toNatClampNeg)), .int (xs ((i + 2).toNatClampNeg)), .int (xs ((i + 1).toNatClampNeg)), .ref 236], (q_kL (q_pt 172 1 0 206 S r0.1) (c + r0.2.2) (n + 6 * r0.2.2)))) rfl rfl hx3 ?_
  refine q_Ru_call (v := (some (.int r1.2))) (h2 := (q_kL (q_pt 34 0 172 0 (q_pt 172 1 0 206 S r0.1) r1.1) (c + r0.2.2) (n + 6 * r0.2.2))) rfl rfl ?_ ?_
  · exact (q_emML rfl (fun _ => rfl) ((dzt_M221_64 (q_vw 34 172 0 (q_pt 172 1 0 206 S r0.1)) (c + r0.2.2) (n + 6 * r0.2.2) (xs ((i + 1).toNatClampNeg)) (xs ((i + 2).toNatClampNeg)) (xs ((i + 3).toNatClampNeg)) r1 er1).tb q_TB0_le)).le (Nat.le_of_ble_eq_true rfl)
  show q_Ru _ _ _ (563, [(5, .int r0.2.1), (4, .int i), (3, .ref 270), (2, .ref 236), (1, .ref 64), (0, .ref 0)], [.int r1.2], (q_kL (q_pt 34 0 172 0 (q_pt 172 1 0 206 S r0.1) r1.1) (c + r0.2.2) (n + 6 * r0.2.2))) _
  refine q_Ru_seg (g2 := (23, [(4, .int (i + 4)), (6, .int r1.2), (5, .int r0.2.1), (3, .ref 270), (2, .ref 236), (1, .ref 64), (0, .ref 0)], [], (q_kL (q_pt 34 0 172 0 (q_pt 172 1 0 206 S r0.1) r1.1) (c + r0.2.2) (n + 6 * r0.2.2)))) 4 (fun _ _ => rfl) ?_
  exact q_Ru_xt (q_xt_mk (q_mn1 0 rfl (q_mn1 3 rfl (q_mn1 4 rfl (q_mn1 5 rfl (q_mn1 6 rfl q_mn0))))) rfl) h
set_option maxHeartbeats 4000000 in
theorem q_lw9 (z L : Nat) (xs : Nat → Int32) (S : q_S) (c n : Nat) (i : Int32) (hx0 : q_in i L = true) (hx1 : q_in (i + 1) L = true) (hx2 : q_in (i + 2) L = true) (hx3 : q_in (i + 3) L = true) (hi : decide (Int32.ofNat L - 4 < i) = false) (hv : xs i.toNatClampNeg &&& 63 = 9) (r0 : q_S × Int32 × Nat) (er0 : dz_X9_64_236 (q_vw 172 0 206 S) (xs ((i + 1).toNatClampNeg)) = r0) (r1 : q_S × Int32) (er1 : dz_M288_64 (q_vw 34 172 0 (q_pt 172 1 0 206 S r0.1)) (xs ((i + 1).toNatClampNeg)) = some r1) {o : q_Out} (h : q_Ru (q_TBs z L xs) 20 376 (23, [(4, .int (i + 4)), (3, .ref 270), (2, .ref 236), (1, .ref 64), (0, .ref 0)], [], (q_kL (q_pt 34 0 172 0 (q_pt 172 1 0 206 S r0.1) r1.1) (c + r0.2.2) (n + 6 * r0.2.2))) o) : q_Ru (q_TBs z L xs) 20 376 (23, [(4, .int i), (3, .ref 270), (2, .ref 236), (1, .ref 64), (0, .ref 0)], [], (q_kL S c n)) o := by
  refine q_Ru_seg (g2 := (29, [(4, .int i), (3, .ref 270), (2, .ref 236), (1, .ref 64), (0, .ref 0)], [.int ((Int32.ofNat L) - 4), .int i], (q_kL S c n))) 5 (fun _ _ => rfl) ?_
  refine q_Ru_rsF (g2 := (32, [(4, .int i), (3, .ref 270), (2, .ref 236), (1, .ref 64), (0, .ref 0)], [], (q_kL S c n))) rfl rfl hi ?_
  refine q_Ru_seg (g2 := (35, [(4, .int i), (3, .ref 270), (2, .ref 236), (1, .ref 64), (0, .ref 0)], [.int i, .ref 0], (q_kL S c n))) 2 (fun _ _ => rfl) ?_
  refine q_Ru_rsT (g2 := (36, [(4, .int i), (3, .ref 270), (2, .ref 236), (1, .ref 64), (0, .ref 0)], [.int (xs (i.toNatClampNeg))], (q_kL S c n))) rfl rfl hx0 ?_
  refine q_Ru_seg (g2 := (39, [(4, .int i), (3, .ref 270), (2, .ref 236), (1, .ref 64), (0, .ref 0)], [.int ((xs (i.toNatClampNeg)) &&& 63)], (q_kL S c n))) 2 (fun _ _ => rfl) ?_
  rw [hv]
  refine q_Ru_seg (g2 := (574, [(4, .int i), (3, .ref 270), (2, .ref 236), (1, .ref 64), (0, .ref 0)], [.int (i + 1), .ref 0, .ref 64], (q_kL S c n))) 6 (fun _ _ => rfl) ?_
  refine q_Ru_rsT (g2 := (575, [(4, .int i), (3, .ref 270), (2, .ref 236), (1, .ref 64), (0, .ref 0)], [.int (xs ((i + 1).toNatClampNeg)), .ref 64], (q_kL S c n))) rfl rfl hx1 ?_
  refine q_Ru_seg (g2 := (576, [(4, .int i), (3, .ref 270), (2, .ref 236), (1, .ref 64), (0, .ref 0)], [.ref 270, .int (xs ((i + 1).toNatClampNeg)), .ref 64], (q_kL S c n))) 1 (fun _ _ => rfl) ?_
  refine q_Ru_call (v := (some (.int r0.2.1))) (h2 := (q_kL (q_pt 172 1 0 206 S r0.1) (c + r0.2.2) (n + 6 * r0.2.2))) rfl rfl ?_ ?_
  · exact (q_emXL rfl (fun _ => rfl) (q_cE (φ := (q_oEX c n)) er0 (dzt_X9_64_236 z L xs (q_vw 172 0 206 S) c n (xs ((i + 1).toNatClampNeg))))).le (Nat.le_of_ble_eq_true rfl)
  show q_Ru _ _ _ (579, [(4, .int i), (3, .ref 270), (2, .ref 236), (1, .ref 64), (0, .ref 0)], [.int r0.2.1], (q_kL (q_pt 172 1 0 206 S r0.1) (c + r0.2.2) (n + 6 * r0.2.2))) _
  refine q_Ru_seg (g2 := (587, [(5, .int r0.2.1), (4, .int i), (3, .ref 270), (2, .ref 236), (1, .ref 64), (0, .ref 0)], [.int (i + 1), .ref 0, .ref 236], (q_kL (q_pt 172 1 0 206 S r0.1) (c + r0.2.2) (n + 6 * r0.2.2)))) 6 (fun _ _ => rfl) ?_
  refine q_Ru_rsT (g2 := (588, [(5, .int r0.2.1), (4, .int i), (3, .ref 270), (2, .ref 236), (1, .ref 64), (0, .ref 0)], [.int (xs ((i + 1).toNatClampNeg)), .ref 236], (q_kL (q_pt 172 1 0 206 S r0.1) (c + r0.2.2) (n + 6 * r0.2.2)))) rfl rfl hx1 ?_
  refine q_Ru_call (v := (some (.int r1.2))) (h2 := (q_kL (q_pt 34 0 172 0 (q_pt 172 1 0 206 S r0.1) r1.1) (c + r0.2.2) (n + 6 * r0.2.2))) rfl rfl ?_ ?_
  · exact (q_emML rfl (fun _ => rfl) ((dzt_M288_64 (q_vw 34 172 0 (q_pt 172 1 0 206 S r0.1)) (c + r0.2.2) (n + 6 * r0.2.2) (xs ((i + 1).toNatClampNeg)) r1 er1).tb q_TB0_le)).le (Nat.le_of_ble_eq_true rfl)
  show q_Ru _ _ _ (591, [(5, .int r0.2.1), (4, .int i), (3, .ref 270), (2, .ref 236), (1, .ref 64), (0, .ref 0)], [.int r1.2], (q_kL (q_pt 34 0 172 0 (q_pt 172 1 0 206 S r0.1) r1.1) (c + r0.2.2) (n + 6 * r0.2.2))) _
  refine q_Ru_seg (g2 := (23, [(4, .int (i + 4)), (6, .int r1.2), (5, .int r0.2.1), (3, .ref 270), (2, .ref 236), (1, .ref 64), (0, .ref 0)], [], (q_kL (q_pt 34 0 172 0 (q_pt 172 1 0 206 S r0.1) r1.1) (c + r0.2.2) (n + 6 * r0.2.2)))) 4 (fun _ _ => rfl) ?_
  exact q_Ru_xt (q_xt_mk (q_mn1 0 rfl (q_mn1 3 rfl (q_mn1 4 rfl (q_mn1 5 rfl (q_mn1 6 rfl q_mn0))))) rfl) h
set_option maxHeartbeats 4000000 in
theorem q_lw10 (z L : Nat) (xs : Nat → Int32) (S : q_S) (c n : Nat) (i : Int32) (hx0 : q_in i L = true) (hx1 : q_in (i + 1) L = true) (hx2 : q_in (i + 2) L = true) (hx3 : q_in (i + 3) L = true) (hi : decide (Int32.ofNat L - 4 < i) = false) (hv : xs i.toNatClampNeg &&& 63 = 10) (r0 : q_S × Int32 × Nat) (er0 : dz_X10_64_236 (q_vw 172 0 206 S) (xs ((i + 1).toNatClampNeg)) (xs ((i + 2).toNatClampNeg)) = some r0) (r1 : q_S × Int32) (er1 : dz_M289_64 (q_vw 34 172 0 (q_pt 172 1 0 206 S r0.1)) (xs ((i + 1).toNatClampNeg)) (xs ((i + 2).toNatClampNeg)) = some r1) {o : q_Out} (h : q_Ru (q_TBs z L xs) 20 376 (23, [(4, .int (i + 4)), (3, .ref 270), (2, .ref 236), (1, .ref 64), (0, .ref 0)], [], (q_kL (q_pt 34 0 172 0 (q_pt 172 1 0 206 S r0.1) r1.1) (c + r0.2.2) (n + 6 * r0.2.2))) o) : q_Ru (q_TBs z L xs) 20 376 (23, [(4, .int i), (3, .ref 270), (2, .ref 236), (1, .ref 64), (0, .ref 0)], [], (q_kL S c n)) o := by
  refine q_Ru_seg (g2 := (29, [(4, .int i), (3, .ref 270), (2, .ref 236), (1, .ref 64), (0, .ref 0)], [.int ((Int32.ofNat L) - 4), .int i], (q_kL S c n))) 5 (fun _ _ => rfl) ?_
  refine q_Ru_rsF (g2 := (32, [(4, .int i), (3, .ref 270), (2, .ref 236), (1, .ref 64), (0, .ref 0)], [], (q_kL S c n))) rfl rfl hi ?_
  refine q_Ru_seg (g2 := (35, [(4, .int i), (3, .ref 270), (2, .ref 236), (1, .ref 64), (0, .ref 0)], [.int i, .ref 0], (q_kL S c n))) 2 (fun _ _ => rfl) ?_
  refine q_Ru_rsT (g2 := (36, [(4, .int i), (3, .ref 270), (2, .ref 236), (1, .ref 64), (0, .ref 0)], [.int (xs (i.toNatClampNeg))], (q_kL S c n))) rfl rfl hx0 ?_
  refine q_Ru_seg (g2 := (39, [(4, .int i), (3, .ref 270), (2, .ref 236), (1, .ref 64), (0, .ref 0)], [.int ((xs (i.toNatClampNeg)) &&& 63)], (q_kL S c n))) 2 (fun _ _ => rfl) ?_
  rw [hv]
  refine q_Ru_seg (g2 := (602, [(4, .int i), (3, .ref 270), (2, .ref 236), (1, .ref 64), (0, .ref 0)], [.int (i + 1), .ref 0, .ref 64], (q_kL S c n))) 6 (fun _ _ => rfl) ?_
  refine q_Ru_rsT (g2 := (603, [(4, .int i), (3, .ref 270), (2, .ref 236), (1, .ref 64), (0, .ref 0)], [.int (xs ((i + 1).toNatClampNeg)), .ref 64], (q_kL S c n))) rfl rfl hx1 ?_
  refine q_Ru_seg (g2 := (608, [(4, .int i), (3, .ref 270), (2, .ref 236), (1, .ref 64), (0, .ref 0)], [.int (i + 2), .ref 0, .int (xs ((i + 1).toNatClampNeg)), .ref 64], (q_kL S c n))) 4 (fun _ _ => rfl) ?_
  refine q_Ru_rsT (g2 := (609, [(4, .int i), (3, .ref 270), (2, .ref 236), (1, .ref 64), (0, .ref 0)], [.int (xs ((i + 2).toNatClampNeg)), .int (xs ((i + 1).toNatClampNeg)), .ref 64], (q_kL S c n))) rfl rfl hx2 ?_
  refine q_Ru_seg (g2 := (610, [(4, .int i), (3, .ref 270), (2, .ref 236), (1, .ref 64), (0, .ref 0)], [.ref 270, .int (xs ((i + 2).toNatClampNeg)), .int (xs ((i + 1).toNatClampNeg)), .ref 64], (q_kL S c n))) 1 (fun _ _ => rfl) ?_
  refine q_Ru_call (v := (some (.int r0.2.1))) (h2 := (q_kL (q_pt 172 1 0 206 S r0.1) (c + r0.2.2) (n + 6 * r0.2.2))) rfl rfl ?_ ?_
  · exact (q_emXL rfl (fun _ => rfl) (dzt_X10_64_236 z L xs (q_vw 172 0 206 S) c n (xs ((i + 1).toNatClampNeg)) (xs ((i + 2).toNatClampNeg)) r0 er0)).le (Nat.le_of_ble_eq_true rfl)
  show q_Ru _ _ _ (613, [(4, .int i), (3, .ref 270), (2, .ref 236), (1, .ref 64), (0, .ref 0)], [.int r0.2.1], (q_kL (q_pt 172 1 0 206 S r0.1) (c + r0.2.2) (n + 6 * r0.2.2))) _
  refine q_Ru_seg (g2 := (621, [(5, .int r0.2.1), (4, .int i), (3, .ref 270), (2, .ref 236), (1, .ref 64), (0, .ref 0)], [.int (i + 1), .ref 0, .ref 236], (q_kL (q_pt 172 1 0 206 S r0.1) (c + r0.2.2) (n + 6 * r0.2.2)))) 6 (fun _ _ => rfl) ?_
  refine q_Ru_rsT (g2 := (622, [(5, .int r0.2.1), (4, .int i), (3, .ref 270), (2, .ref 236), (1, .ref 64), (0, .ref 0)], [.int (xs ((i + 1).toNatClampNeg)), .ref 236], (q_kL (q_pt 172 1 0 206 S r0.1) (c + r0.2.2) (n + 6 * r0.2.2)))) rfl rfl hx1 ?_
  refine q_Ru_seg (g2 := (627, [(5, .int r0.2.1), (4, .int i), (3, .ref 270), (2, .ref 236), (1, .ref 64), (0, .ref 0)], [.int (i + 2), .ref 0, .int (xs ((i + 1).toNatClampNeg)), .ref 236], (q_kL (q_pt 172 1 0 206 S r0.1) (c + r0.2.2) (n + 6 * r0.2.2)))) 4 (fun _ _ => rfl) ?_
  refine q_Ru_rsT (g2 := (628, [(5, .int r0.2.1), (4, .int i), (3, .ref 270), (2, .ref 236), (1, .ref 64), (0, .ref 0)], [.int (xs ((i + 2).toNatClampNeg)), .int (xs ((i + 1).toNatClampNeg)), .ref 236], (q_kL (q_pt 172 1 0 206 S r0.1) (c + r0.2.2) (n + 6 * r0.2.2)))) rfl rfl hx2 ?_
  refine q_Ru_call (v := (some (.int r1.2))) (h2 := (q_kL (q_pt 34 0 172 0 (q_pt 172 1 0 206 S r0.1) r1.1) (c + r0.2.2) (n + 6 * r0.2.2))) rfl rfl ?_ ?_
  · exact (q_emML rfl (fun _ => rfl) ((dzt_M289_64 (q_vw 34 172 0 (q_pt 172 1 0 206 S r0.1)) (c + r0.2.2) (n + 6 * r0.2.2) (xs ((i + 1).toNatClampNeg)) (xs ((i + 2).toNatClampNeg)) r1 er1).tb q_TB0_le)).le (Nat.le_of_ble_eq_true rfl)
  show q_Ru _ _ _ (631, [(5, .int r0.2.1), (4, .int i), (3, .ref 270), (2, .ref 236), (1, .ref 64), (0, .ref 0)], [.int r1.2], (q_kL (q_pt 34 0 172 0 (q_pt 172 1 0 206 S r0.1) r1.1) (c + r0.2.2) (n + 6 * r0.2.2))) _
  refine q_Ru_seg (g2 := (23, [(4, .int (i + 4)), (6, .int r1.2), (5, .int r0.2.1), (3, .ref 270), (2, .ref 236), (1, .ref 64), (0, .ref 0)], [], (q_kL (q_pt 34 0 172 0 (q_pt 172 1 0 206 S r0.1) r1.1) (c + r0.2.2) (n + 6 * r0.2.2)))) 4 (fun _ _ => rfl) ?_
  exact q_Ru_xt (q_xt_mk (q_mn1 0 rfl (q_mn1 3 rfl (q_mn1 4 rfl (q_mn1 5 rfl (q_mn1 6 rfl q_mn0))))) rfl) h
set_option maxHeartbeats 4000000 in
theorem q_lw11 (z L : Nat) (xs : Nat → Int32) (S : q_S) (c n : Nat) (i : Int32) (hx0 : q_in i L = true) (hx1 : q_in (i + 1) L = true) (hx2 : q_in (i + 2) L = true) (hx3 : q_in (i + 3) L = true) (hi : decide (Int32.ofNat L - 4 < i) = false) (hv : xs i.toNatClampNeg &&& 63 = 11) (r0 : q_S × Int32) (er0 : dz_M290_64 (q_vw 34 172 0 S) = some r0) {o : q_Out} (h : q_Ru (q_TBs z L xs) 20 376 (23, [(4, .int (i + 4)), (3, .ref 270), (2, .ref 236), (1, .ref 64), (0, .ref 0)], [], (q_kL (q_pt 34 0 172 0 S r0.1) c n)) o) : q_Ru (q_TBs z L xs) 20 376 (23, [(4, .int i), (3, .ref 270), (2, .ref 236), (1, .ref 64), (0, .ref 0)], [], (q_kL S c n)) o := by
  refine q_Ru_seg (g2 := (29, [(4, .int i), (3, .ref 270), (2, .ref 236), (1, .ref 64), (0, .ref 0)], [.int ((Int32.ofNat L) - 4), .int i], (q_kL S c n))) 5 (fun _ _ => rfl) ?_
  refine q_Ru_rsF (g2 := (32, [(4, .int i), (3, .ref 270), (2, .ref 236), (1, .ref 64), (0, .ref 0)], [], (q_kL S c n))) rfl rfl hi ?_
  refine q_Ru_seg (g2 := (35, [(4, .int i), (3, .ref 270), (2, .ref 236), (1, .ref 64), (0, .ref 0)], [.int i, .ref 0], (q_kL S c n))) 2 (fun _ _ => rfl) ?_
  refine q_Ru_rsT (g2 := (36, [(4, .int i), (3, .ref 270), (2, .ref 236), (1, .ref 64), (0, .ref 0)], [.int (xs (i.toNatClampNeg))], (q_kL S c n))) rfl rfl hx0 ?_
  refine q_Ru_seg (g2 := (39, [(4, .int i), (3, .ref 270), (2, .ref 236), (1, .ref 64), (0, .ref 0)], [.int ((xs (i.toNatClampNeg)) &&& 63)], (q_kL S c n))) 2 (fun _ _ => rfl) ?_
  rw [hv]
  refine q_Ru_seg (g2 := (637, [(4, .int i), (3, .ref 270), (2, .ref 236), (1, .ref 64), (0, .ref 0)], [.ref 64], (q_kL S c n))) 2 (fun _ _ => rfl) ?_
  refine q_Ru_call (v := (some (.int (dz_X39_64 (q_vw 172 0 206 S))))) (h2 := (q_kL S c n)) rfl rfl ?_ ?_
  · exact (q_emXLp rfl (fun _ => rfl) (dzt_X39_64 z L xs (q_vw 172 0 206 S) c n)).le (Nat.le_of_ble_eq_true rfl)
  show q_Ru _ _ _ (640, [(4, .int i), (3, .ref 270), (2, .ref 236), (1, .ref 64), (0, .ref 0)], [.int (dz_X39_64 (q_vw 172 0 206 S))], (q_kL S c n)) _
  refine q_Ru_seg (g2 := (642, [(4, .int i), (3, .ref 270), (2, .ref 236), (1, .ref 64), (0, .ref 0)], [.ref 236], (q_kL S c n))) 2 (fun _ _ => rfl) ?_
  refine q_Ru_call (v := (some (.int r0.2))) (h2 := (q_kL (q_pt 34 0 172 0 S r0.1) c n)) rfl rfl ?_ ?_
  · exact (q_emML rfl (fun _ => rfl) ((dzt_M290_64 (q_vw 34 172 0 S) c n r0 er0).tb q_TB0_le)).le (Nat.le_of_ble_eq_true rfl)
  show q_Ru _ _ _ (645, [(4, .int i), (3, .ref 270), (2, .ref 236), (1, .ref 64), (0, .ref 0)], [.int r0.2], (q_kL (q_pt 34 0 172 0 S r0.1) c n)) _
  refine q_Ru_seg (g2 := (23, [(4, .int (i + 4)), (3, .ref 270), (2, .ref 236), (1, .ref 64), (0, .ref 0)], [], (q_kL (q_pt 34 0 172 0 S r0.1) c n))) 4 (fun _ _ => rfl) ?_
  exact q_Ru_xt (q_xt_mk (q_mn1 0 rfl (q_mn1 1 rfl (q_mn1 2 rfl (q_mn1 3 rfl (q_mn1 4 rfl q_mn0))))) rfl) h
set_option maxHeartbeats 4000000 in
theorem q_lw12 (z L : Nat) (xs : Nat → Int32) (S : q_S) (c n : Nat) (i : Int32) (hx0 : q_in i L = true) (hx1 : q_in (i + 1) L = true) (hx2 : q_in (i + 2) L = true) (hx3 : q_in (i + 3) L = true) (hi : decide (Int32.ofNat L - 4 < i) = false) (hv : xs i.toNatClampNeg &&& 63 = 12) (r0 : q_S × Int32) (er0 : dz_X40_64 (q_vw 172 0 206 S) = some r0) (r1 : q_S × Int32) (er1 : dz_M291_64 (q_vw 34 172 0 (q_pt 172 1 0 206 S r0.1)) = some r1) {o : q_Out} (h : q_Ru (q_TBs z L xs) 20 376 (23, [(4, .int (i + 4)), (3, .ref 270), (2, .ref 236), (1, .ref 64), (0, .ref 0)], [], (q_kL (q_pt 34 0 172 0 (q_pt 172 1 0 206 S r0.1) r1.1) c n)) o) : q_Ru (q_TBs z L xs) 20 376 (23, [(4, .int i), (3, .ref 270), (2, .ref 236), (1, .ref 64), (0, .ref 0)], [], (q_kL S c n)) o := by
  refine q_Ru_seg (g2 := (29, [(4, .int i), (3, .ref 270), (2, .ref 236), (1, .ref 64), (0, .ref 0)], [.int ((Int32.ofNat L) - 4), .int i], (q_kL S c n))) 5 (fun _ _ => rfl) ?_
  refine q_Ru_rsF (g2 := (32, [(4, .int i), (3, .ref 270), (2, .ref 236), (1, .ref 64), (0, .ref 0)], [], (q_kL S c n))) rfl rfl hi ?_
  refine q_Ru_seg (g2 := (35, [(4, .int i), (3, .ref 270), (2, .ref 236), (1, .ref 64), (0, .ref 0)], [.int i, .ref 0], (q_kL S c n))) 2 (fun _ _ => rfl) ?_
  refine q_Ru_rsT (g2 := (36, [(4, .int i), (3, .ref 270), (2, .ref 236), (1, .ref 64), (0, .ref 0)], [.int (xs (i.toNatClampNeg))], (q_kL S c n))) rfl rfl hx0 ?_
  refine q_Ru_seg (g2 := (39, [(4, .int i), (3, .ref 270), (2, .ref 236), (1, .ref 64), (0, .ref 0)], [.int ((xs (i.toNatClampNeg)) &&& 63)], (q_kL S c n))) 2 (fun _ _ => rfl) ?_
  rw [hv]
  refine q_Ru_seg (g2 := (650, [(4, .int i), (3, .ref 270), (2, .ref 236), (1, .ref 64), (0, .ref 0)], [.ref 64], (q_kL S c n))) 2 (fun _ _ => rfl) ?_
  refine q_Ru_call (v := (some (.int r0.2))) (h2 := (q_kL (q_pt 172 1 0 206 S r0.1) c n)) rfl rfl ?_ ?_
  · exact (q_emXL rfl (fun _ => rfl) (dzt_X40_64 z L xs (q_vw 172 0 206 S) c n r0 er0)).le (Nat.le_of_ble_eq_true rfl)
  show q_Ru _ _ _ (653, [(4, .int i), (3, .ref 270), (2, .ref 236), (1, .ref 64), (0, .ref 0)], [.int r0.2], (q_kL (q_pt 172 1 0 206 S r0.1) c n)) _
  refine q_Ru_seg (g2 := (655, [(4, .int i), (3, .ref 270), (2, .ref 236), (1, .ref 64), (0, .ref 0)], [.ref 236], (q_kL (q_pt 172 1 0 206 S r0.1) c n))) 2 (fun _ _ => rfl) ?_
  refine q_Ru_call (v := (some (.int r1.2))) (h2 := (q_kL (q_pt 34 0 172 0 (q_pt 172 1 0 206 S r0.1) r1.1) c n)) rfl rfl ?_ ?_
  · exact (q_emML rfl (fun _ => rfl) ((dzt_M291_64 (q_vw 34 172 0 (q_pt 172 1 0 206 S r0.1)) c n r1 er1).tb q_TB0_le)).le (Nat.le_of_ble_eq_true rfl)
  show q_Ru _ _ _ (658, [(4, .int i), (3, .ref 270), (2, .ref 236), (1, .ref 64), (0, .ref 0)], [.int r1.2], (q_kL (q_pt 34 0 172 0 (q_pt 172 1 0 206 S r0.1) r1.1) c n)) _
  refine q_Ru_seg (g2 := (23, [(4, .int (i + 4)), (3, .ref 270), (2, .ref 236), (1, .ref 64), (0, .ref 0)], [], (q_kL (q_pt 34 0 172 0 (q_pt 172 1 0 206 S r0.1) r1.1) c n))) 4 (fun _ _ => rfl) ?_
  exact q_Ru_xt (q_xt_mk (q_mn1 0 rfl (q_mn1 1 rfl (q_mn1 2 rfl (q_mn1 3 rfl (q_mn1 4 rfl q_mn0))))) rfl) h
set_option maxHeartbeats 4000000 in
theorem q_lw13 (z L : Nat) (xs : Nat → Int32) (S : q_S) (c n : Nat) (i : Int32) (hx0 : q_in i L = true) (hx1 : q_in (i + 1) L = true) (hx2 : q_in (i + 2) L = true) (hx3 : q_in (i + 3) L = true) (hi : decide (Int32.ofNat L - 4 < i) = false) (hv : xs i.toNatClampNeg &&& 63 = 13) (r0 : q_S × Int32) (er0 : dz_X41_64 (q_vw 172 0 206 S) = some r0) (r1 : q_S × Int32) (er1 : dz_M292_64 (q_vw 34 172 0 (q_pt 172 1 0 206 S r0.1)) = r1) {o : q_Out} (h : q_Ru (q_TBs z L xs) 20 376 (23, [(4, .int (i + 4)), (3, .ref 270), (2, .ref 236), (1, .ref 64), (0, .ref 0)], [], (q_kL (q_pt 34 0 172 0 (q_pt 172 1 0 206 S r0.1) r1.1) c n)) o) : q_Ru (q_TBs z L xs) 20 376 (23, [(4, .int i), (3, .ref 270), (2, .ref 236), (1, .ref 64), (0, .ref 0)], [], (q_kL S c n)) o := by
  refine q_Ru_seg (g2 := (29, [(4, .int i), (3, .ref 270), (2, .ref 236), (1, .ref 64), (0, .ref 0)], [.int ((Int32.ofNat L) - 4), .int i], (q_kL S c n))) 5 (fun _ _ => rfl) ?_
  refine q_Ru_rsF (g2 := (32, [(4, .int i), (3, .ref 270), (2, .ref 236), (1, .ref 64), (0, .ref 0)], [], (q_kL S c n))) rfl rfl hi ?_
  refine q_Ru_seg (g2 := (35, [(4, .int i), (3, .ref 270), (2, .ref 236), (1, .ref 64), (0, .ref 0)], [.int i, .ref 0], (q_kL S c n))) 2 (fun _ _ => rfl) ?_
  refine q_Ru_rsT (g2 := (36, [(4, .int i), (3, .ref 270), (2, .ref 236), (1, .ref 64), (0, .ref 0)], [.int (xs (i.toNatClampNeg))], (q_kL S c n))) rfl rfl hx0 ?_
  refine q_Ru_seg (g2 := (39, [(4, .int i), (3, .ref 270), (2, .ref 236), (1, .ref 64), (0, .ref 0)], [.int ((xs (i.toNatClampNeg)) &&& 63)], (q_kL S c n))) 2 (fun _ _ => rfl) ?_
  rw [hv]
  refine q_Ru_seg (g2 := (663, [(4, .int i), (3, .ref 270), (2, .ref 236), (1, .ref 64), (0, .ref 0)], [.ref 64], (q_kL S c n))) 2 (fun _ _ => rfl) ?_
  refine q_Ru_call (v := (some (.int r0.2))) (h2 := (q_kL (q_pt 172 1 0 206 S r0.1) c n)) rfl rfl ?_ ?_
  · exact (q_emXL rfl (fun _ => rfl) (dzt_X41_64 z L xs (q_vw 172 0 206 S) c n r0 er0)).le (Nat.le_of_ble_eq_true rfl)
  show q_Ru _ _ _ (666, [(4, .int i), (3, .ref 270), (2, .ref 236), (1, .ref 64), (0, .ref 0)], [.int r0.2], (q_kL (q_pt 172 1 0 206 S r0.1) c n)) _
  refine q_Ru_seg (g2 := (668, [(4, .int i), (3, .ref 270), (2, .ref 236), (1, .ref 64), (0, .ref 0)], [.ref 236], (q_kL (q_pt 172 1 0 206 S r0.1) c n))) 2 (fun _ _ => rfl) ?_
  refine q_Ru_call (v := (some (.int r1.2))) (h2 := (q_kL (q_pt 34 0 172 0 (q_pt 172 1 0 206 S r0.1) r1.1) c n)) rfl rfl ?_ ?_
  · exact (q_emML rfl (fun _ => rfl) ((q_cE (φ := (q_oIM c n)) er1 (dzt_M292_64 (q_vw 34 172 0 (q_pt 172 1 0 206 S r0.1)) c n)).tb q_TB0_le)).le (Nat.le_of_ble_eq_true rfl)
  show q_Ru _ _ _ (671, [(4, .int i), (3, .ref 270), (2, .ref 236), (1, .ref 64), (0, .ref 0)], [.int r1.2], (q_kL (q_pt 34 0 172 0 (q_pt 172 1 0 206 S r0.1) r1.1) c n)) _
  refine q_Ru_seg (g2 := (23, [(4, .int (i + 4)), (3, .ref 270), (2, .ref 236), (1, .ref 64), (0, .ref 0)], [], (q_kL (q_pt 34 0 172 0 (q_pt 172 1 0 206 S r0.1) r1.1) c n))) 4 (fun _ _ => rfl) ?_
  exact q_Ru_xt (q_xt_mk (q_mn1 0 rfl (q_mn1 1 rfl (q_mn1 2 rfl (q_mn1 3 rfl (q_mn1 4 rfl q_mn0))))) rfl) h
set_option maxHeartbeats 4000000 in
theorem q_lw14 (z L : Nat) (xs : Nat → Int32) (S : q_S) (c n : Nat) (i : Int32) (hx0 : q_in i L = true) (hx1 : q_in (i + 1) L = true) (hx2 : q_in (i + 2) L = true) (hx3 : q_in (i + 3) L = true) (hi : decide (Int32.ofNat L - 4 < i) = false) (hv : xs i.toNatClampNeg &&& 63 = 14) (r0 : q_S × Int32 × Nat) (er0 : dz_X11_64_236 (q_vw 172 0 206 S) (xs ((i + 1).toNatClampNeg)) = some r0) (r1 : q_S × Int32) (er1 : dz_M236_64 (q_vw 34 172 0 (q_pt 172 1 0 206 S r0.1)) (xs ((i + 1).toNatClampNeg)) = some r1) {o : q_Out} (h : q_Ru (q_TBs z L xs) 20 376 (23, [(4, .int (i + 4)), (3, .ref 270), (2, .ref 236), (1, .ref 64), (0, .ref 0)], [], (q_kL (q_pt 34 0 172 0 (q_pt 172 1 0 206 S r0.1) r1.1) (c + r0.2.2) (n + 6 * r0.2.2))) o) : q_Ru (q_TBs z L xs) 20 376 (23, [(4, .int i), (3, .ref 270), (2, .ref 236), (1, .ref 64), (0, .ref 0)], [], (q_kL S c n)) o := by
  refine q_Ru_seg (g2 := (29, [(4, .int i), (3, .ref 270), (2, .ref 236), (1, .ref 64), (0, .ref 0)], [.int ((Int32.ofNat L) - 4), .int i], (q_kL S c n))) 5 (fun _ _ => rfl) ?_
  refine q_Ru_rsF (g2 := (32, [(4, .int i), (3, .ref 270), (2, .ref 236), (1, .ref 64), (0, .ref 0)], [], (q_kL S c n))) rfl rfl hi ?_
  refine q_Ru_seg (g2 := (35, [(4, .int i), (3, .ref 270), (2, .ref 236), (1, .ref 64), (0, .ref 0)], [.int i, .ref 0], (q_kL S c n))) 2 (fun _ _ => rfl) ?_
  refine q_Ru_rsT (g2 := (36, [(4, .int i), (3, .ref 270), (2, .ref 236), (1, .ref 64), (0, .ref 0)], [.int (xs (i.toNatClampNeg))], (q_kL S c n))) rfl rfl hx0 ?_
  refine q_Ru_seg (g2 := (39, [(4, .int i), (3, .ref 270), (2, .ref 236), (1, .ref 64), (0, .ref 0)], [.int ((xs (i.toNatClampNeg)) &&& 63)], (q_kL S c n))) 2 (fun _ _ => rfl) ?_
  rw [hv]
  refine q_Ru_seg (g2 := (681, [(4, .int i), (3, .ref 270), (2, .ref 236), (1, .ref 64), (0, .ref 0)], [.int (i + 1), .ref 0, .ref 64], (q_kL S c n))) 6 (fun _ _ => rfl) ?_
  refine q_Ru_rsT (g2 := (682, [(4, .int i), (3, .ref 270), (2, .ref 236), (1, .ref 64), (0, .ref 0)], [.int (xs ((i + 1).toNatClampNeg)), .ref 64], (q_kL S c n))) rfl rfl hx1 ?_
  refine q_Ru_seg (g2 := (683, [(4, .int i), (3, .ref 270), (2, .ref 236), (1, .ref 64), (0, .ref 0)], [.ref 270, .int (xs ((i + 1).toNatClampNeg)), .ref 64], (q_kL S c n))) 1 (fun _ _ => rfl) ?_
  refine q_Ru_call (v := (some (.int r0.2.1))) (h2 := (q_kL (q_pt 172 1 0 206 S r0.1) (c + r0.2.2) (n + 6 * r0.2.2))) rfl rfl ?_ ?_
  · exact (q_emXL rfl (fun _ => rfl) (dzt_X11_64_236 z L xs (q_vw 172 0 206 S) c n (xs ((i + 1).toNatClampNeg)) r0 er0)).le (Nat.le_of_ble_eq_true rfl)
  show q_Ru _ _ _ (686, [(4, .int i), (3, .ref 270), (2, .ref 236), (1, .ref 64), (0, .ref 0)], [.int r0.2.1], (q_kL (q_pt 172 1 0 206 S r0.1) (c + r0.2.2) (n + 6 * r0.2.2))) _
  refine q_Ru_seg (g2 := (694, [(5, .int r0.2.1), (4, .int i), (3, .ref 270), (2, .ref 236), (1, .ref 64), (0, .ref 0)], [.int (i + 1), .ref 0, .ref 236], (q_kL (q_pt 172 1 0 206 S r0.1) (c + r0.2.2) (n + 6 * r0.2.2)))) 6 (fun _ _ => rfl) ?_
  refine q_Ru_rsT (g2 := (695, [(5, .int r0.2.1), (4, .int i), (3, .ref 270), (2, .ref 236), (1, .ref 64), (0, .ref 0)], [.int (xs ((i + 1).toNatClampNeg)), .ref 236], (q_kL (q_pt 172 1 0 206 S r0.1) (c + r0.2.2) (n + 6 * r0.2.2)))) rfl rfl hx1 ?_
  refine q_Ru_call (v := (some (.int r1.2))) (h2 := (q_kL (q_pt 34 0 172 0 (q_pt 172 1 0 206 S r0.1) r1.1) (c + r0.2.2) (n + 6 * r0.2.2))) rfl rfl ?_ ?_
  · exact (q_emML rfl (fun _ => rfl) ((dzt_M236_64 (q_vw 34 172 0 (q_pt 172 1 0 206 S r0.1)) (c + r0.2.2) (n + 6 * r0.2.2) (xs ((i + 1).toNatClampNeg)) r1 er1).tb q_TB0_le)).le (Nat.le_of_ble_eq_true rfl)
  show q_Ru _ _ _ (698, [(5, .int r0.2.1), (4, .int i), (3, .ref 270), (2, .ref 236), (1, .ref 64), (0, .ref 0)], [.int r1.2], (q_kL (q_pt 34 0 172 0 (q_pt 172 1 0 206 S r0.1) r1.1) (c + r0.2.2) (n + 6 * r0.2.2))) _
  refine q_Ru_seg (g2 := (23, [(4, .int (i + 4)), (6, .int r1.2), (5, .int r0.2.1), (3, .ref 270), (2, .ref 236), (1, .ref 64), (0, .ref 0)], [], (q_kL (q_pt 34 0 172 0 (q_pt 172 1 0 206 S r0.1) r1.1) (c + r0.2.2) (n + 6 * r0.2.2)))) 4 (fun _ _ => rfl) ?_
  exact q_Ru_xt (q_xt_mk (q_mn1 0 rfl (q_mn1 3 rfl (q_mn1 4 rfl (q_mn1 5 rfl (q_mn1 6 rfl q_mn0))))) rfl) h
set_option maxHeartbeats 4000000 in
theorem q_lw15 (z L : Nat) (xs : Nat → Int32) (S : q_S) (c n : Nat) (i : Int32) (hx0 : q_in i L = true) (hx1 : q_in (i + 1) L = true) (hx2 : q_in (i + 2) L = true) (hx3 : q_in (i + 3) L = true) (hi : decide (Int32.ofNat L - 4 < i) = false) (hv : xs i.toNatClampNeg &&& 63 = 15) (r0 : q_S × Int32 × Nat) (er0 : dz_X12_64_236 (q_vw 172 0 206 S) = some r0) (r1 : q_S × Int32) (er1 : dz_M237_64 (q_vw 34 172 0 (q_pt 172 1 0 206 S r0.1)) = some r1) {o : q_Out} (h : q_Ru (q_TBs z L xs) 20 376 (23, [(4, .int (i + 4)), (3, .ref 270), (2, .ref 236), (1, .ref 64), (0, .ref 0)], [], (q_kL (q_pt 34 0 172 0 (q_pt 172 1 0 206 S r0.1) r1.1) (c + r0.2.2) (n + 6 * r0.2.2))) o) : q_Ru (q_TBs z L xs) 20 376 (23, [(4, .int i), (3, .ref 270), (2, .ref 236), (1, .ref 64), (0, .ref 0)], [], (q_kL S c n)) o := by
  refine q_Ru_seg (g2 := (29, [(4, .int i), (3, .ref 270), (2, .ref 236), (1, .ref 64), (0, .ref 0)], [.int ((Int32.ofNat L) - 4), .int i], (q_kL S c n))) 5 (fun _ _ => rfl) ?_
  refine q_Ru_rsF (g2 := (32, [(4, .int i), (3, .ref 270), (2, .ref 236), (1, .ref 64), (0, .ref 0)], [], (q_kL S c n))) rfl rfl hi ?_
  refine q_Ru_seg (g2 := (35, [(4, .int i), (3, .ref 270), (2, .ref 236), (1, .ref 64), (0, .ref 0)], [.int i, .ref 0], (q_kL S c n))) 2 (fun _ _ => rfl) ?_
  refine q_Ru_rsT (g2 := (36, [(4, .int i), (3, .ref 270), (2, .ref 236), (1, .ref 64), (0, .ref 0)], [.int (xs (i.toNatClampNeg))], (q_kL S c n))) rfl rfl hx0 ?_
  refine q_Ru_seg (g2 := (39, [(4, .int i), (3, .ref 270), (2, .ref 236), (1, .ref 64), (0, .ref 0)], [.int ((xs (i.toNatClampNeg)) &&& 63)], (q_kL S c n))) 2 (fun _ _ => rfl) ?_
  rw [hv]
  refine q_Ru_seg (g2 := (705, [(4, .int i), (3, .ref 270), (2, .ref 236), (1, .ref 64), (0, .ref 0)], [.ref 270, .ref 64], (q_kL S c n))) 3 (fun _ _ => rfl) ?_
  refine q_Ru_call (v := (some (.int r0.2.1))) (h2 := (q_kL (q_pt 172 1 0 206 S r0.1) (c + r0.2.2) (n + 6 * r0.2.2))) rfl rfl ?_ ?_
  · exact (q_emXL rfl (fun _ => rfl) (dzt_X12_64_236 z L xs (q_vw 172 0 206 S) c n r0 er0)).le (Nat.le_of_ble_eq_true rfl)
  show q_Ru _ _ _ (708, [(4, .int i), (3, .ref 270), (2, .ref 236), (1, .ref 64), (0, .ref 0)], [.int r0.2.1], (q_kL (q_pt 172 1 0 206 S r0.1) (c + r0.2.2) (n + 6 * r0.2.2))) _
  refine q_Ru_seg (g2 := (711, [(5, .int r0.2.1), (4, .int i), (3, .ref 270), (2, .ref 236), (1, .ref 64), (0, .ref 0)], [.ref 236], (q_kL (q_pt 172 1 0 206 S r0.1) (c + r0.2.2) (n + 6 * r0.2.2)))) 2 (fun _ _ => rfl) ?_
  refine q_Ru_call (v := (some (.int r1.2))) (h2 := (q_kL (q_pt 34 0 172 0 (q_pt 172 1 0 206 S r0.1) r1.1) (c + r0.2.2) (n + 6 * r0.2.2))) rfl rfl ?_ ?_
  · exact (q_emML rfl (fun _ => rfl) ((dzt_M237_64 (q_vw 34 172 0 (q_pt 172 1 0 206 S r0.1)) (c + r0.2.2) (n + 6 * r0.2.2) r1 er1).tb q_TB0_le)).le (Nat.le_of_ble_eq_true rfl)
  show q_Ru _ _ _ (714, [(5, .int r0.2.1), (4, .int i), (3, .ref 270), (2, .ref 236), (1, .ref 64), (0, .ref 0)], [.int r1.2], (q_kL (q_pt 34 0 172 0 (q_pt 172 1 0 206 S r0.1) r1.1) (c + r0.2.2) (n + 6 * r0.2.2))) _
  refine q_Ru_seg (g2 := (23, [(4, .int (i + 4)), (6, .int r1.2), (5, .int r0.2.1), (3, .ref 270), (2, .ref 236), (1, .ref 64), (0, .ref 0)], [], (q_kL (q_pt 34 0 172 0 (q_pt 172 1 0 206 S r0.1) r1.1) (c + r0.2.2) (n + 6 * r0.2.2)))) 4 (fun _ _ => rfl) ?_
  exact q_Ru_xt (q_xt_mk (q_mn1 0 rfl (q_mn1 3 rfl (q_mn1 4 rfl (q_mn1 5 rfl (q_mn1 6 rfl q_mn0))))) rfl) h
set_option maxHeartbeats 4000000 in
theorem q_lw16 (z L : Nat) (xs : Nat → Int32) (S : q_S) (c n : Nat) (i : Int32) (hx0 : q_in i L = true) (hx1 : q_in (i + 1) L = true) (hx2 : q_in (i + 2) L = true) (hx3 : q_in (i + 3) L = true) (hi : decide (Int32.ofNat L - 4 < i) = false) (hv : xs i.toNatClampNeg &&& 63 = 16) (r0 : q_S × Int64) (er0 : dz_M238_64 (q_vw 34 172 0 S) = r0) {o : q_Out} (h : q_Ru (q_TBs z L xs) 20 376 (23, [(4, .int (i + 4)), (3, .ref 270), (2, .ref 236), (1, .ref 64), (0, .ref 0)], [], (q_kL (q_pt 34 0 172 0 S r0.1) c n)) o) : q_Ru (q_TBs z L xs) 20 376 (23, [(4, .int i), (3, .ref 270), (2, .ref 236), (1, .ref 64), (0, .ref 0)], [], (q_kL S c n)) o := by
  refine q_Ru_seg (g2 := (29, [(4, .int i), (3, .ref 270), (2, .ref 236), (1, .ref 64), (0, .ref 0)], [.int ((Int32.ofNat L) - 4), .int i], (q_kL S c n))) 5 (fun _ _ => rfl) ?_
  refine q_Ru_rsF (g2 := (32, [(4, .int i), (3, .ref 270), (2, .ref 236), (1, .ref 64), (0, .ref 0)], [], (q_kL S c n))) rfl rfl hi ?_
  refine q_Ru_seg (g2 := (35, [(4, .int i), (3, .ref 270), (2, .ref 236), (1, .ref 64), (0, .ref 0)], [.int i, .ref 0], (q_kL S c n))) 2 (fun _ _ => rfl) ?_
  refine q_Ru_rsT (g2 := (36, [(4, .int i), (3, .ref 270), (2, .ref 236), (1, .ref 64), (0, .ref 0)], [.int (xs (i.toNatClampNeg))], (q_kL S c n))) rfl rfl hx0 ?_
  refine q_Ru_seg (g2 := (39, [(4, .int i), (3, .ref 270), (2, .ref 236), (1, .ref 64), (0, .ref 0)], [.int ((xs (i.toNatClampNeg)) &&& 63)], (q_kL S c n))) 2 (fun _ _ => rfl) ?_
  rw [hv]
  refine q_Ru_seg (g2 := (720, [(4, .int i), (3, .ref 270), (2, .ref 236), (1, .ref 64), (0, .ref 0)], [.ref 64], (q_kL S c n))) 2 (fun _ _ => rfl) ?_
  refine q_Ru_call (v := (some (.long (dz_X44_64 (q_vw 172 0 206 S))))) (h2 := (q_kL S c n)) rfl rfl ?_ ?_
  · exact (q_emXLp rfl (fun _ => rfl) (dzt_X44_64 z L xs (q_vw 172 0 206 S) c n)).le (Nat.le_of_ble_eq_true rfl)
  show q_Ru _ _ _ (723, [(4, .int i), (3, .ref 270), (2, .ref 236), (1, .ref 64), (0, .ref 0)], [.long (dz_X44_64 (q_vw 172 0 206 S))], (q_kL S c n)) _
  refine q_Ru_seg (g2 := (725, [(4, .int i), (3, .ref 270), (2, .ref 236), (1, .ref 64), (0, .ref 0)], [.ref 236], (q_kL S c n))) 2 (fun _ _ => rfl) ?_
  refine q_Ru_call (v := (some (.long r0.2))) (h2 := (q_kL (q_pt 34 0 172 0 S r0.1) c n)) rfl rfl ?_ ?_
  · exact (q_emML rfl (fun _ => rfl) ((q_cE (φ := (q_oKM c n)) er0 (dzt_M238_64 (q_vw 34 172 0 S) c n)).tb q_TB0_le)).le (Nat.le_of_ble_eq_true rfl)
  show q_Ru _ _ _ (728, [(4, .int i), (3, .ref 270), (2, .ref 236), (1, .ref 64), (0, .ref 0)], [.long r0.2], (q_kL (q_pt 34 0 172 0 S r0.1) c n)) _
  refine q_Ru_seg (g2 := (23, [(4, .int (i + 4)), (3, .ref 270), (2, .ref 236), (1, .ref 64), (0, .ref 0)], [], (q_kL (q_pt 34 0 172 0 S r0.1) c n))) 4 (fun _ _ => rfl) ?_
  exact q_Ru_xt (q_xt_mk (q_mn1 0 rfl (q_mn1 1 rfl (q_mn1 2 rfl (q_mn1 3 rfl (q_mn1 4 rfl q_mn0))))) rfl) h
set_option maxHeartbeats 4000000 in
theorem q_lw17 (z L : Nat) (xs : Nat → Int32) (S : q_S) (c n : Nat) (i : Int32) (hx0 : q_in i L = true) (hx1 : q_in (i + 1) L = true) (hx2 : q_in (i + 2) L = true) (hx3 : q_in (i + 3) L = true) (hi : decide (Int32.ofNat L - 4 < i) = false) (hv : xs i.toNatClampNeg &&& 63 = 17) (r0 : Bool) (er0 : dz_X45_64 (q_vw 172 0 206 S) = some r0) (r1 : q_S × Bool) (er1 : dz_M239_64 (q_vw 34 172 0 S) = some r1) {o : q_Out} (h : q_Ru (q_TBs z L xs) 20 376 (23, [(4, .int (i + 4)), (3, .ref 270), (2, .ref 236), (1, .ref 64), (0, .ref 0)], [], (q_kL (q_pt 34 0 172 0 S r1.1) c n)) o) : q_Ru (q_TBs z L xs) 20 376 (23, [(4, .int i), (3, .ref 270), (2, .ref 236), (1, .ref 64), (0, .ref 0)], [], (q_kL S c n)) o := by
  refine q_Ru_seg (g2 := (29, [(4, .int i), (3, .ref 270), (2, .ref 236), (1, .ref 64), (0, .ref 0)], [.int ((Int32.ofNat L) - 4), .int i], (q_kL S c n))) 5 (fun _ _ => rfl) ?_
  refine q_Ru_rsF (g2 := (32, [(4, .int i), (3, .ref 270), (2, .ref 236), (1, .ref 64), (0, .ref 0)], [], (q_kL S c n))) rfl rfl hi ?_
  refine q_Ru_seg (g2 := (35, [(4, .int i), (3, .ref 270), (2, .ref 236), (1, .ref 64), (0, .ref 0)], [.int i, .ref 0], (q_kL S c n))) 2 (fun _ _ => rfl) ?_
  refine q_Ru_rsT (g2 := (36, [(4, .int i), (3, .ref 270), (2, .ref 236), (1, .ref 64), (0, .ref 0)], [.int (xs (i.toNatClampNeg))], (q_kL S c n))) rfl rfl hx0 ?_
  refine q_Ru_seg (g2 := (39, [(4, .int i), (3, .ref 270), (2, .ref 236), (1, .ref 64), (0, .ref 0)], [.int ((xs (i.toNatClampNeg)) &&& 63)], (q_kL S c n))) 2 (fun _ _ => rfl) ?_
  rw [hv]
  refine q_Ru_seg (g2 := (733, [(4, .int i), (3, .ref 270), (2, .ref 236), (1, .ref 64), (0, .ref 0)], [.ref 64], (q_kL S c n))) 2 (fun _ _ => rfl) ?_
  refine q_Ru_call (v := (some (.int (q_b r0)))) (h2 := (q_kL S c n)) rfl rfl ?_ ?_
  · exact (q_emXLp rfl (fun _ => rfl) (dzt_X45_64 z L xs (q_vw 172 0 206 S) c n r0 er0)).le (Nat.le_of_ble_eq_true rfl)
  show q_Ru _ _ _ (736, [(4, .int i), (3, .ref 270), (2, .ref 236), (1, .ref 64), (0, .ref 0)], [.int (q_b r0)], (q_kL S c n)) _
  refine q_Ru_seg (g2 := (738, [(4, .int i), (3, .ref 270), (2, .ref 236), (1, .ref 64), (0, .ref 0)], [.ref 236], (q_kL S c n))) 2 (fun _ _ => rfl) ?_
  refine q_Ru_call (v := (some (.int (q_b r1.2)))) (h2 := (q_kL (q_pt 34 0 172 0 S r1.1) c n)) rfl rfl ?_ ?_
  · exact (q_emML rfl (fun _ => rfl) ((dzt_M239_64 (q_vw 34 172 0 S) c n r1 er1).tb q_TB0_le)).le (Nat.le_of_ble_eq_true rfl)
  show q_Ru _ _ _ (741, [(4, .int i), (3, .ref 270), (2, .ref 236), (1, .ref 64), (0, .ref 0)], [.int (q_b r1.2)], (q_kL (q_pt 34 0 172 0 S r1.1) c n)) _
  refine q_Ru_seg (g2 := (23, [(4, .int (i + 4)), (3, .ref 270), (2, .ref 236), (1, .ref 64), (0, .ref 0)], [], (q_kL (q_pt 34 0 172 0 S r1.1) c n))) 4 (fun _ _ => rfl) ?_
  exact q_Ru_xt (q_xt_mk (q_mn1 0 rfl (q_mn1 1 rfl (q_mn1 2 rfl (q_mn1 3 rfl (q_mn1 4 rfl q_mn0))))) rfl) h
set_option maxHeartbeats 4000000 in
theorem q_lw18 (z L : Nat) (xs : Nat → Int32) (S : q_S) (c n : Nat) (i : Int32) (hx0 : q_in i L = true) (hx1 : q_in (i + 1) L = true) (hx2 : q_in (i + 2) L = true) (hx3 : q_in (i + 3) L = true) (hi : decide (Int32.ofNat L - 4 < i) = false) (hv : xs i.toNatClampNeg &&& 63 = 18) (r0 : q_S × Int32) (er0 : dz_M240_64 (q_vw 34 172 0 S) = r0) {o : q_Out} (h : q_Ru (q_TBs z L xs) 20 376 (23, [(4, .int (i + 4)), (3, .ref 270), (2, .ref 236), (1, .ref 64), (0, .ref 0)], [], (q_kL (q_pt 34 0 172 0 S r0.1) c n)) o) : q_Ru (q_TBs z L xs) 20 376 (23, [(4, .int i), (3, .ref 270), (2, .ref 236), (1, .ref 64), (0, .ref 0)], [], (q_kL S c n)) o := by
  refine q_Ru_seg (g2 := (29, [(4, .int i), (3, .ref 270), (2, .ref 236), (1, .ref 64), (0, .ref 0)], [.int ((Int32.ofNat L) - 4), .int i], (q_kL S c n))) 5 (fun _ _ => rfl) ?_
  refine q_Ru_rsF (g2 := (32, [(4, .int i), (3, .ref 270), (2, .ref 236), (1, .ref 64), (0, .ref 0)], [], (q_kL S c n))) rfl rfl hi ?_
  refine q_Ru_seg (g2 := (35, [(4, .int i), (3, .ref 270), (2, .ref 236), (1, .ref 64), (0, .ref 0)], [.int i, .ref 0], (q_kL S c n))) 2 (fun _ _ => rfl) ?_
  refine q_Ru_rsT (g2 := (36, [(4, .int i), (3, .ref 270), (2, .ref 236), (1, .ref 64), (0, .ref 0)], [.int (xs (i.toNatClampNeg))], (q_kL S c n))) rfl rfl hx0 ?_
  refine q_Ru_seg (g2 := (39, [(4, .int i), (3, .ref 270), (2, .ref 236), (1, .ref 64), (0, .ref 0)], [.int ((xs (i.toNatClampNeg)) &&& 63)], (q_kL S c n))) 2 (fun _ _ => rfl) ?_
  rw [hv]
  refine q_Ru_seg (g2 := (746, [(4, .int i), (3, .ref 270), (2, .ref 236), (1, .ref 64), (0, .ref 0)], [.ref 64], (q_kL S c n))) 2 (fun _ _ => rfl) ?_
  refine q_Ru_call (v := (some (.int (dz_X46_64 (q_vw 172 0 206 S))))) (h2 := (q_kL S c n)) rfl rfl ?_ ?_
  · exact (q_emXLp rfl (fun _ => rfl) (dzt_X46_64 z L xs (q_vw 172 0 206 S) c n)).le (Nat.le_of_ble_eq_true rfl)
  show q_Ru _ _ _ (749, [(4, .int i), (3, .ref 270), (2, .ref 236), (1, .ref 64), (0, .ref 0)], [.int (dz_X46_64 (q_vw 172 0 206 S))], (q_kL S c n)) _
  refine q_Ru_seg (g2 := (751, [(4, .int i), (3, .ref 270), (2, .ref 236), (1, .ref 64), (0, .ref 0)], [.ref 236], (q_kL S c n))) 2 (fun _ _ => rfl) ?_
  refine q_Ru_call (v := (some (.int r0.2))) (h2 := (q_kL (q_pt 34 0 172 0 S r0.1) c n)) rfl rfl ?_ ?_
  · exact (q_emML rfl (fun _ => rfl) ((q_cE (φ := (q_oIM c n)) er0 (dzt_M240_64 (q_vw 34 172 0 S) c n)).tb q_TB0_le)).le (Nat.le_of_ble_eq_true rfl)
  show q_Ru _ _ _ (754, [(4, .int i), (3, .ref 270), (2, .ref 236), (1, .ref 64), (0, .ref 0)], [.int r0.2], (q_kL (q_pt 34 0 172 0 S r0.1) c n)) _
  refine q_Ru_seg (g2 := (23, [(4, .int (i + 4)), (3, .ref 270), (2, .ref 236), (1, .ref 64), (0, .ref 0)], [], (q_kL (q_pt 34 0 172 0 S r0.1) c n))) 4 (fun _ _ => rfl) ?_
  exact q_Ru_xt (q_xt_mk (q_mn1 0 rfl (q_mn1 1 rfl (q_mn1 2 rfl (q_mn1 3 rfl (q_mn1 4 rfl q_mn0))))) rfl) h
set_option maxHeartbeats 4000000 in
theorem q_lw19 (z L : Nat) (xs : Nat → Int32) (S : q_S) (c n : Nat) (i : Int32) (hx0 : q_in i L = true) (hx1 : q_in (i + 1) L = true) (hx2 : q_in (i + 2) L = true) (hx3 : q_in (i + 3) L = true) (hi : decide (Int32.ofNat L - 4 < i) = false) (hv : xs i.toNatClampNeg &&& 63 = 19) (r0 : q_S × Int32) (er0 : dz_M241_64 (q_vw 34 172 0 S) = r0) {o : q_Out} (h : q_Ru (q_TBs z L xs) 20 376 (23, [(4, .int (i + 4)), (3, .ref 270), (2, .ref 236), (1, .ref 64), (0, .ref 0)], [], (q_kL (q_pt 34 0 172 0 S r0.1) c n)) o) : q_Ru (q_TBs z L xs) 20 376 (23, [(4, .int i), (3, .ref 270), (2, .ref 236), (1, .ref 64), (0, .ref 0)], [], (q_kL S c n)) o := by
  refine q_Ru_seg (g2 := (29, [(4, .int i), (3, .ref 270), (2, .ref 236), (1, .ref 64), (0, .ref 0)], [.int ((Int32.ofNat L) - 4), .int i], (q_kL S c n))) 5 (fun _ _ => rfl) ?_
  refine q_Ru_rsF (g2 := (32, [(4, .int i), (3, .ref 270), (2, .ref 236), (1, .ref 64), (0, .ref 0)], [], (q_kL S c n))) rfl rfl hi ?_
  refine q_Ru_seg (g2 := (35, [(4, .int i), (3, .ref 270), (2, .ref 236), (1, .ref 64), (0, .ref 0)], [.int i, .ref 0], (q_kL S c n))) 2 (fun _ _ => rfl) ?_
  refine q_Ru_rsT (g2 := (36, [(4, .int i), (3, .ref 270), (2, .ref 236), (1, .ref 64), (0, .ref 0)], [.int (xs (i.toNatClampNeg))], (q_kL S c n))) rfl rfl hx0 ?_
  refine q_Ru_seg (g2 := (39, [(4, .int i), (3, .ref 270), (2, .ref 236), (1, .ref 64), (0, .ref 0)], [.int ((xs (i.toNatClampNeg)) &&& 63)], (q_kL S c n))) 2 (fun _ _ => rfl) ?_
  rw [hv]
  refine q_Ru_seg (g2 := (759, [(4, .int i), (3, .ref 270), (2, .ref 236), (1, .ref 64), (0, .ref 0)], [.ref 64], (q_kL S c n))) 2 (fun _ _ => rfl) ?_
  refine q_Ru_call (v := (some (.int (dz_X47_64 (q_vw 172 0 206 S))))) (h2 := (q_kL S c n)) rfl rfl ?_ ?_
  · exact (q_emXLp rfl (fun _ => rfl) (dzt_X47_64 z L xs (q_vw 172 0 206 S) c n)).le (Nat.le_of_ble_eq_true rfl)
  show q_Ru _ _ _ (762, [(4, .int i), (3, .ref 270), (2, .ref 236), (1, .ref 64), (0, .ref 0)], [.int (dz_X47_64 (q_vw 172 0 206 S))], (q_kL S c n)) _
  refine q_Ru_seg (g2 := (764, [(4, .int i), (3, .ref 270), (2, .ref 236), (1, .ref 64), (0, .ref 0)], [.ref 236], (q_kL S c n))) 2 (fun _ _ => rfl) ?_
  refine q_Ru_call (v := (some (.int r0.2))) (h2 := (q_kL (q_pt 34 0 172 0 S r0.1) c n)) rfl rfl ?_ ?_
  · exact (q_emML rfl (fun _ => rfl) ((q_cE (φ := (q_oIM c n)) er0 (dzt_M241_64 (q_vw 34 172 0 S) c n)).tb q_TB0_le)).le (Nat.le_of_ble_eq_true rfl)
  show q_Ru _ _ _ (767, [(4, .int i), (3, .ref 270), (2, .ref 236), (1, .ref 64), (0, .ref 0)], [.int r0.2], (q_kL (q_pt 34 0 172 0 S r0.1) c n)) _
  refine q_Ru_seg (g2 := (23, [(4, .int (i + 4)), (3, .ref 270), (2, .ref 236), (1, .ref 64), (0, .ref 0)], [], (q_kL (q_pt 34 0 172 0 S r0.1) c n))) 4 (fun _ _ => rfl) ?_
  exact q_Ru_xt (q_xt_mk (q_mn1 0 rfl (q_mn1 1 rfl (q_mn1 2 rfl (q_mn1 3 rfl (q_mn1 4 rfl q_mn0))))) rfl) h
set_option maxHeartbeats 4000000 in
theorem q_lw20 (z L : Nat) (xs : Nat → Int32) (S : q_S) (c n : Nat) (i : Int32) (hx0 : q_in i L = true) (hx1 : q_in (i + 1) L = true) (hx2 : q_in (i + 2) L = true) (hx3 : q_in (i + 3) L = true) (hi : decide (Int32.ofNat L - 4 < i) = false) (hv : xs i.toNatClampNeg &&& 63 = 20) (r0 : Bool) (er0 : dz_X48_64 (q_vw 172 0 206 S) = some r0) (r1 : q_S × Bool) (er1 : dz_M242_64 (q_vw 34 172 0 S) = some r1) {o : q_Out} (h : q_Ru (q_TBs z L xs) 20 376 (23, [(4, .int (i + 4)), (3, .ref 270), (2, .ref 236), (1, .ref 64), (0, .ref 0)], [], (q_kL (q_pt 34 0 172 0 S r1.1) c n)) o) : q_Ru (q_TBs z L xs) 20 376 (23, [(4, .int i), (3, .ref 270), (2, .ref 236), (1, .ref 64), (0, .ref 0)], [], (q_kL S c n)) o := by
  refine q_Ru_seg (g2 := (29, [(4, .int i), (3, .ref 270), (2, .ref 236), (1, .ref 64), (0, .ref 0)], [.int ((Int32.ofNat L) - 4), .int i], (q_kL S c n))) 5 (fun _ _ => rfl) ?_
  refine q_Ru_rsF (g2 := (32, [(4, .int i), (3, .ref 270), (2, .ref 236), (1, .ref 64), (0, .ref 0)], [], (q_kL S c n))) rfl rfl hi ?_
  refine q_Ru_seg (g2 := (35, [(4, .int i), (3, .ref 270), (2, .ref 236), (1, .ref 64), (0, .ref 0)], [.int i, .ref 0], (q_kL S c n))) 2 (fun _ _ => rfl) ?_
  refine q_Ru_rsT (g2 := (36, [(4, .int i), (3, .ref 270), (2, .ref 236), (1, .ref 64), (0, .ref 0)], [.int (xs (i.toNatClampNeg))], (q_kL S c n))) rfl rfl hx0 ?_
  refine q_Ru_seg (g2 := (39, [(4, .int i), (3, .ref 270), (2, .ref 236), (1, .ref 64), (0, .ref 0)], [.int ((xs (i.toNatClampNeg)) &&& 63)], (q_kL S c n))) 2 (fun _ _ => rfl) ?_
  rw [hv]
  refine q_Ru_seg (g2 := (772, [(4, .int i), (3, .ref 270), (2, .ref 236), (1, .ref 64), (0, .ref 0)], [.ref 64], (q_kL S c n))) 2 (fun _ _ => rfl) ?_
  refine q_Ru_call (v := (some (.int (q_b r0)))) (h2 := (q_kL S c n)) rfl rfl ?_ ?_
  · exact (q_emXLp rfl (fun _ => rfl) (dzt_X48_64 z L xs (q_vw 172 0 206 S) c n r0 er0)).le (Nat.le_of_ble_eq_true rfl)
  show q_Ru _ _ _ (775, [(4, .int i), (3, .ref 270), (2, .ref 236), (1, .ref 64), (0, .ref 0)], [.int (q_b r0)], (q_kL S c n)) _
  refine q_Ru_seg (g2 := (777, [(4, .int i), (3, .ref 270), (2, .ref 236), (1, .ref 64), (0, .ref 0)], [.ref 236], (q_kL S c n))) 2 (fun _ _ => rfl) ?_
  refine q_Ru_call (v := (some (.int (q_b r1.2)))) (h2 := (q_kL (q_pt 34 0 172 0 S r1.1) c n)) rfl rfl ?_ ?_
  · exact (q_emML rfl (fun _ => rfl) ((dzt_M242_64 (q_vw 34 172 0 S) c n r1 er1).tb q_TB0_le)).le (Nat.le_of_ble_eq_true rfl)
  show q_Ru _ _ _ (780, [(4, .int i), (3, .ref 270), (2, .ref 236), (1, .ref 64), (0, .ref 0)], [.int (q_b r1.2)], (q_kL (q_pt 34 0 172 0 S r1.1) c n)) _
  refine q_Ru_seg (g2 := (23, [(4, .int (i + 4)), (3, .ref 270), (2, .ref 236), (1, .ref 64), (0, .ref 0)], [], (q_kL (q_pt 34 0 172 0 S r1.1) c n))) 4 (fun _ _ => rfl) ?_
  exact q_Ru_xt (q_xt_mk (q_mn1 0 rfl (q_mn1 1 rfl (q_mn1 2 rfl (q_mn1 3 rfl (q_mn1 4 rfl q_mn0))))) rfl) h
set_option maxHeartbeats 4000000 in
theorem q_lw21tf (z L : Nat) (xs : Nat → Int32) (S : q_S) (c n : Nat) (i : Int32) (hx0 : q_in i L = true) (hx1 : q_in (i + 1) L = true) (hx2 : q_in (i + 2) L = true) (hx3 : q_in (i + 3) L = true) (hi : decide (Int32.ofNat L - 4 < i) = false) (hv : xs i.toNatClampNeg &&& 63 = 21) (r0 : q_S × Int32 × Nat) (er0 : dz_X13_64_236 (q_vw 172 0 206 S) (xs ((i + 1).toNatClampNeg)) = r0) (r1 : q_S × Int32) (er1 : dz_M243_64 (q_vw 34 172 0 (q_pt 172 1 0 206 S r0.1)) (xs ((i + 1).toNatClampNeg)) = some r1) (hc0 : decide ((dz_M199_64 (q_vw 34 172 0 (q_pt 34 0 172 0 (q_pt 172 1 0 206 S r0.1) r1.1))) = r0.2.1) = true) (hc1 : decide (r0.2.1 = 0) = false) {o : q_Out} (h : q_Ru (q_TBs z L xs) 20 376 (23, [(4, .int (i + 4)), (3, .ref 270), (2, .ref 236), (1, .ref 64), (0, .ref 0)], [], (q_kL (q_pt 34 0 172 0 (q_pt 172 1 0 206 S r0.1) r1.1) (c + r0.2.2) (n + 6 * r0.2.2))) o) : q_Ru (q_TBs z L xs) 20 376 (23, [(4, .int i), (3, .ref 270), (2, .ref 236), (1, .ref 64), (0, .ref 0)], [], (q_kL S c n)) o := by
  refine q_Ru_seg (g2 := (29, [(4, .int i), (3, .ref 270), (2, .ref 236), (1, .ref 64), (0, .ref 0)], [.int ((Int32.ofNat L) - 4), .int i], (q_kL S c n))) 5 (fun _ _ => rfl) ?_
  refine q_Ru_rsF (g2 := (32, [(4, .int i), (3, .ref 270), (2, .ref 236), (1, .ref 64), (0, .ref 0)], [], (q_kL S c n))) rfl rfl hi ?_
  refine q_Ru_seg (g2 := (35, [(4, .int i), (3, .ref 270), (2, .ref 236), (1, .ref 64), (0, .ref 0)], [.int i, .ref 0], (q_kL S c n))) 2 (fun _ _ => rfl) ?_
  refine q_Ru_rsT (g2 := (36, [(4, .int i), (3, .ref 270), (2, .ref 236), (1, .ref 64), (0, .ref 0)], [.int (xs (i.toNatClampNeg))], (q_kL S c n))) rfl rfl hx0 ?_
  refine q_Ru_seg (g2 := (39, [(4, .int i), (3, .ref 270), (2, .ref 236), (1, .ref 64), (0, .ref 0)], [.int ((xs (i.toNatClampNeg)) &&& 63)], (q_kL S c n))) 2 (fun _ _ => rfl) ?_
  rw [hv]
  refine q_Ru_seg (g2 := (790, [(4, .int i), (3, .ref 270), (2, .ref 236), (1, .ref 64), (0, .ref 0)], [.int (i + 1), .ref 0, .ref 64], (q_kL S c n))) 6 (fun _ _ => rfl) ?_
  refine q_Ru_rsT (g2 := (791, [(4, .int i), (3, .ref 270), (2, .ref 236), (1, .ref 64), (0, .ref 0)], [.int (xs ((i + 1).toNatClampNeg)), .ref 64], (q_kL S c n))) rfl rfl hx1 ?_
  refine q_Ru_seg (g2 := (792, [(4, .int i), (3, .ref 270), (2, .ref 236), (1, .ref 64), (0, .ref 0)], [.ref 270, .int (xs ((i + 1).toNatClampNeg)), .ref 64], (q_kL S c n))) 1 (fun _ _ => rfl) ?_
  refine q_Ru_call (v := (some (.int r0.2.1))) (h2 := (q_kL (q_pt 172 1 0 206 S r0.1) (c + r0.2.2) (n + 6 * r0.2.2))) rfl rfl ?_ ?_
  · exact (q_emXL rfl (fun _ => rfl) (q_cE (φ := (q_oEX c n)) er0 (dzt_X13_64_236 z L xs (q_vw 172 0 206 S) c n (xs ((i + 1).toNatClampNeg))))).le (Nat.le_of_ble_eq_true rfl)
  show q_Ru _ _ _ (795, [(4, .int i), (3, .ref 270), (2, .ref 236), (1, .ref 64), (0, .ref 0)], [.int r0.2.1], (q_kL (q_pt 172 1 0 206 S r0.1) (c + r0.2.2) (n + 6 * r0.2.2))) _
  refine q_Ru_seg (g2 := (803, [(5, .int r0.2.1), (4, .int i), (3, .ref 270), (2, .ref 236), (1, .ref 64), (0, .ref 0)], [.int (i + 1), .ref 0, .ref 236], (q_kL (q_pt 172 1 0 206 S r0.1) (c + r0.2.2) (n + 6 * r0.2.2)))) 6 (fun _ _ => rfl) ?_
  refine q_Ru_rsT (g2 := (804, [(5, .int r0.2.1), (4, .int i), (3, .ref 270), (2, .ref 236), (1, .ref 64), (0, .ref 0)], [.int (xs ((i + 1).toNatClampNeg)), .ref 236], (q_kL (q_pt 172 1 0 206 S r0.1) (c + r0.2.2) (n + 6 * r0.2.2)))) rfl rfl hx1 ?_
  refine q_Ru_call (v := (some (.int r1.2))) (h2 := (q_kL (q_pt 34 0 172 0 (q_pt 172 1 0 206 S r0.1) r1.1) (c + r0.2.2) (n + 6 * r0.2.2))) rfl rfl ?_ ?_
  · exact (q_emML rfl (fun _ => rfl) ((dzt_M243_64 (q_vw 34 172 0 (q_pt 172 1 0 206 S r0.1)) (c + r0.2.2) (n + 6 * r0.2.2) (xs ((i + 1).toNatClampNeg)) r1 er1).tb q_TB0_le)).le (Nat.le_of_ble_eq_true rfl)
  show q_Ru _ _ _ (807, [(5, .int r0.2.1), (4, .int i), (3, .ref 270), (2, .ref 236), (1, .ref 64), (0, .ref 0)], [.int r1.2], (q_kL (q_pt 34 0 172 0 (q_pt 172 1 0 206 S r0.1) r1.1) (c + r0.2.2) (n + 6 * r0.2.2))) _
  refine q_Ru_seg (g2 := (810, [(6, .int r1.2), (5, .int r0.2.1), (4, .int i), (3, .ref 270), (2, .ref 236), (1, .ref 64), (0, .ref 0)], [.ref 236], (q_kL (q_pt 34 0 172 0 (q_pt 172 1 0 206 S r0.1) r1.1) (c + r0.2.2) (n + 6 * r0.2.2)))) 2 (fun _ _ => rfl) ?_
  refine q_Ru_call (v := (some (.int (dz_M199_64 (q_vw 34 172 0 (q_pt 34 0 172 0 (q_pt 172 1 0 206 S r0.1) r1.1)))))) (h2 := (q_kL (q_pt 34 0 172 0 (q_pt 172 1 0 206 S r0.1) r1.1) (c + r0.2.2) (n + 6 * r0.2.2))) rfl rfl ?_ ?_
  · exact (q_emMLp rfl (fun _ => rfl) ((dzt_M199_64 (q_vw 34 172 0 (q_pt 34 0 172 0 (q_pt 172 1 0 206 S r0.1) r1.1)) (c + r0.2.2) (n + 6 * r0.2.2)).tb q_TB0_le)).le (Nat.le_of_ble_eq_true rfl)
  show q_Ru _ _ _ (813, [(6, .int r1.2), (5, .int r0.2.1), (4, .int i), (3, .ref 270), (2, .ref 236), (1, .ref 64), (0, .ref 0)], [.int (dz_M199_64 (q_vw 34 172 0 (q_pt 34 0 172 0 (q_pt 172 1 0 206 S r0.1) r1.1)))], (q_kL (q_pt 34 0 172 0 (q_pt 172 1 0 206 S r0.1) r1.1) (c + r0.2.2) (n + 6 * r0.2.2))) _
  refine q_Ru_seg (g2 := (815, [(6, .int r1.2), (5, .int r0.2.1), (4, .int i), (3, .ref 270), (2, .ref 236), (1, .ref 64), (0, .ref 0)], [.int r0.2.1, .int (dz_M199_64 (q_vw 34 172 0 (q_pt 34 0 172 0 (q_pt 172 1 0 206 S r0.1) r1.1)))], (q_kL (q_pt 34 0 172 0 (q_pt 172 1 0 206 S r0.1) r1.1) (c + r0.2.2) (n + 6 * r0.2.2)))) 1 (fun _ _ => rfl) ?_
  refine q_Ru_rsT (g2 := (820, [(6, .int r1.2), (5, .int r0.2.1), (4, .int i), (3, .ref 270), (2, .ref 236), (1, .ref 64), (0, .ref 0)], [], (q_kL (q_pt 34 0 172 0 (q_pt 172 1 0 206 S r0.1) r1.1) (c + r0.2.2) (n + 6 * r0.2.2)))) rfl rfl hc0 ?_
  refine q_Ru_seg (g2 := (822, [(6, .int r1.2), (5, .int r0.2.1), (4, .int i), (3, .ref 270), (2, .ref 236), (1, .ref 64), (0, .ref 0)], [.int r0.2.1], (q_kL (q_pt 34 0 172 0 (q_pt 172 1 0 206 S r0.1) r1.1) (c + r0.2.2) (n + 6 * r0.2.2)))) 1 (fun _ _ => rfl) ?_
  refine q_Ru_rsT (g2 := (837, [(6, .int r1.2), (5, .int r0.2.1), (4, .int i), (3, .ref 270), (2, .ref 236), (1, .ref 64), (0, .ref 0)], [], (q_kL (q_pt 34 0 172 0 (q_pt 172 1 0 206 S r0.1) r1.1) (c + r0.2.2) (n + 6 * r0.2.2)))) rfl rfl (q_d_neF hc1) ?_
  refine q_Ru_seg (g2 := (23, [(4, .int (i + 4)), (6, .int r1.2), (5, .int r0.2.1), (3, .ref 270), (2, .ref 236), (1, .ref 64), (0, .ref 0)], [], (q_kL (q_pt 34 0 172 0 (q_pt 172 1 0 206 S r0.1) r1.1) (c + r0.2.2) (n + 6 * r0.2.2)))) 3 (fun _ _ => rfl) ?_
  exact q_Ru_xt (q_xt_mk (q_mn1 0 rfl (q_mn1 3 rfl (q_mn1 4 rfl (q_mn1 5 rfl (q_mn1 6 rfl q_mn0))))) rfl) h
set_option maxHeartbeats 4000000 in
theorem q_lw21ttt (z L : Nat) (xs : Nat → Int32) (S : q_S) (c n : Nat) (i : Int32) (hx0 : q_in i L = true) (hx1 : q_in (i + 1) L = true) (hx2 : q_in (i + 2) L = true) (hx3 : q_in (i + 3) L = true) (hi : decide (Int32.ofNat L - 4 < i) = false) (hv : xs i.toNatClampNeg &&& 63 = 21) (r0 : q_S × Int32 × Nat) (er0 : dz_X13_64_236 (q_vw 172 0 206 S) (xs ((i + 1).toNatClampNeg)) = r0) (r1 : q_S × Int32) (er1 : dz_M243_64 (q_vw 34 172 0 (q_pt 172 1 0 206 S r0.1)) (xs ((i + 1).toNatClampNeg)) = some r1) (hc0 : decide ((dz_M199_64 (q_vw 34 172 0 (q_pt 34 0 172 0 (q_pt 172 1 0 206 S r0.1) r1.1))) = r0.2.1) = true) (hc1 : decide (r0.2.1 = 0) = true) (hc2 : decide (lg_cmp (((q_pt 34 0 172 0 (q_pt 172 1 0 206 S r0.1) r1.1).2.2 206) 0) r1.2.toInt64 = 0) = true) {o : q_Out} (h : q_Ru (q_TBs z L xs) 20 376 (23, [(4, .int (i + 4)), (3, .ref 270), (2, .ref 236), (1, .ref 64), (0, .ref 0)], [], (q_kL (q_pt 34 0 172 0 (q_pt 172 1 0 206 S r0.1) r1.1) (c + r0.2.2) (n + 6 * r0.2.2))) o) : q_Ru (q_TBs z L xs) 20 376 (23, [(4, .int i), (3, .ref 270), (2, .ref 236), (1, .ref 64), (0, .ref 0)], [], (q_kL S c n)) o := by
  refine q_Ru_seg (g2 := (29, [(4, .int i), (3, .ref 270), (2, .ref 236), (1, .ref 64), (0, .ref 0)], [.int ((Int32.ofNat L) - 4), .int i], (q_kL S c n))) 5 (fun _ _ => rfl) ?_
  refine q_Ru_rsF (g2 := (32, [(4, .int i), (3, .ref 270), (2, .ref 236), (1, .ref 64), (0, .ref 0)], [], (q_kL S c n))) rfl rfl hi ?_
  refine q_Ru_seg (g2 := (35, [(4, .int i), (3, .ref 270), (2, .ref 236), (1, .ref 64), (0, .ref 0)], [.int i, .ref 0], (q_kL S c n))) 2 (fun _ _ => rfl) ?_
  refine q_Ru_rsT (g2 := (36, [(4, .int i), (3, .ref 270), (2, .ref 236), (1, .ref 64), (0, .ref 0)], [.int (xs (i.toNatClampNeg))], (q_kL S c n))) rfl rfl hx0 ?_
  refine q_Ru_seg (g2 := (39, [(4, .int i), (3, .ref 270), (2, .ref 236), (1, .ref 64), (0, .ref 0)], [.int ((xs (i.toNatClampNeg)) &&& 63)], (q_kL S c n))) 2 (fun _ _ => rfl) ?_
  rw [hv]
  refine q_Ru_seg (g2 := (790, [(4, .int i), (3, .ref 270), (2, .ref 236), (1, .ref 64), (0, .ref 0)], [.int (i + 1), .ref 0, .ref 64], (q_kL S c n))) 6 (fun _ _ => rfl) ?_
  refine q_Ru_rsT (g2 := (791, [(4, .int i), (3, .ref 270), (2, .ref 236), (1, .ref 64), (0, .ref 0)], [.int (xs ((i + 1).toNatClampNeg)), .ref 64], (q_kL S c n))) rfl rfl hx1 ?_
  refine q_Ru_seg (g2 := (792, [(4, .int i), (3, .ref 270), (2, .ref 236), (1, .ref 64), (0, .ref 0)], [.ref 270, .int (xs ((i + 1).toNatClampNeg)), .ref 64], (q_kL S c n))) 1 (fun _ _ => rfl) ?_
  refine q_Ru_call (v := (some (.int r0.2.1))) (h2 := (q_kL (q_pt 172 1 0 206 S r0.1) (c + r0.2.2) (n + 6 * r0.2.2))) rfl rfl ?_ ?_
  · exact (q_emXL rfl (fun _ => rfl) (q_cE (φ := (q_oEX c n)) er0 (dzt_X13_64_236 z L xs (q_vw 172 0 206 S) c n (xs ((i + 1).toNatClampNeg))))).le (Nat.le_of_ble_eq_true rfl)
  show q_Ru _ _ _ (795, [(4, .int i), (3, .ref 270), (2, .ref 236), (1, .ref 64), (0, .ref 0)], [.int r0.2.1], (q_kL (q_pt 172 1 0 206 S r0.1) (c + r0.2.2) (n + 6 * r0.2.2))) _
  refine q_Ru_seg (g2 := (803, [(5, .int r0.2.1), (4, .int i), (3, .ref 270), (2, .ref 236), (1, .ref 64), (0, .ref 0)], [.int (i + 1), .ref 0, .ref 236], (q_kL (q_pt 172 1 0 206 S r0.1) (c + r0.2.2) (n + 6 * r0.2.2)))) 6 (fun _ _ => rfl) ?_
  refine q_Ru_rsT (g2 := (804, [(5, .int r0.2.1), (4, .int i), (3, .ref 270), (2, .ref 236), (1, .ref 64), (0, .ref 0)], [.int (xs ((i + 1).toNatClampNeg)), .ref 236], (q_kL (q_pt 172 1 0 206 S r0.1) (c + r0.2.2) (n + 6 * r0.2.2)))) rfl rfl hx1 ?_
  refine q_Ru_call (v := (some (.int r1.2))) (h2 := (q_kL (q_pt 34 0 172 0 (q_pt 172 1 0 206 S r0.1) r1.1) (c + r0.2.2) (n + 6 * r0.2.2))) rfl rfl ?_ ?_
  · exact (q_emML rfl (fun _ => rfl) ((dzt_M243_64 (q_vw 34 172 0 (q_pt 172 1 0 206 S r0.1)) (c + r0.2.2) (n + 6 * r0.2.2) (xs ((i + 1).toNatClampNeg)) r1 er1).tb q_TB0_le)).le (Nat.le_of_ble_eq_true rfl)
  show q_Ru _ _ _ (807, [(5, .int r0.2.1), (4, .int i), (3, .ref 270), (2, .ref 236), (1, .ref 64), (0, .ref 0)], [.int r1.2], (q_kL (q_pt 34 0 172 0 (q_pt 172 1 0 206 S r0.1) r1.1) (c + r0.2.2) (n + 6 * r0.2.2))) _
  refine q_Ru_seg (g2 := (810, [(6, .int r1.2), (5, .int r0.2.1), (4, .int i), (3, .ref 270), (2, .ref 236), (1, .ref 64), (0, .ref 0)], [.ref 236], (q_kL (q_pt 34 0 172 0 (q_pt 172 1 0 206 S r0.1) r1.1) (c + r0.2.2) (n + 6 * r0.2.2)))) 2 (fun _ _ => rfl) ?_
  refine q_Ru_call (v := (some (.int (dz_M199_64 (q_vw 34 172 0 (q_pt 34 0 172 0 (q_pt 172 1 0 206 S r0.1) r1.1)))))) (h2 := (q_kL (q_pt 34 0 172 0 (q_pt 172 1 0 206 S r0.1) r1.1) (c + r0.2.2) (n + 6 * r0.2.2))) rfl rfl ?_ ?_
  · exact (q_emMLp rfl (fun _ => rfl) ((dzt_M199_64 (q_vw 34 172 0 (q_pt 34 0 172 0 (q_pt 172 1 0 206 S r0.1) r1.1)) (c + r0.2.2) (n + 6 * r0.2.2)).tb q_TB0_le)).le (Nat.le_of_ble_eq_true rfl)
  show q_Ru _ _ _ (813, [(6, .int r1.2), (5, .int r0.2.1), (4, .int i), (3, .ref 270), (2, .ref 236), (1, .ref 64), (0, .ref 0)], [.int (dz_M199_64 (q_vw 34 172 0 (q_pt 34 0 172 0 (q_pt 172 1 0 206 S r0.1) r1.1)))], (q_kL (q_pt 34 0 172 0 (q_pt 172 1 0 206 S r0.1) r1.1) (c + r0.2.2) (n + 6 * r0.2.2))) _
  refine q_Ru_seg (g2 := (815, [(6, .int r1.2), (5, .int r0.2.1), (4, .int i), (3, .ref 270), (2, .ref 236), (1, .ref 64), (0, .ref 0)], [.int r0.2.1, .int (dz_M199_64 (q_vw 34 172 0 (q_pt 34 0 172 0 (q_pt 172 1 0 206 S r0.1) r1.1)))], (q_kL (q_pt 34 0 172 0 (q_pt 172 1 0 206 S r0.1) r1.1) (c + r0.2.2) (n + 6 * r0.2.2)))) 1 (fun _ _ => rfl) ?_
  refine q_Ru_rsT (g2 := (820, [(6, .int r1.2), (5, .int r0.2.1), (4, .int i), (3, .ref 270), (2, .ref 236), (1, .ref 64), (0, .ref 0)], [], (q_kL (q_pt 34 0 172 0 (q_pt 172 1 0 206 S r0.1) r1.1) (c + r0.2.2) (n + 6 * r0.2.2)))) rfl rfl hc0 ?_
  refine q_Ru_seg (g2 := (822, [(6, .int r1.2), (5, .int r0.2.1), (4, .int i), (3, .ref 270), (2, .ref 236), (1, .ref 64), (0, .ref 0)], [.int r0.2.1], (q_kL (q_pt 34 0 172 0 (q_pt 172 1 0 206 S r0.1) r1.1) (c + r0.2.2) (n + 6 * r0.2.2)))) 1 (fun _ _ => rfl) ?_
  refine q_Ru_rsF (g2 := (825, [(6, .int r1.2), (5, .int r0.2.1), (4, .int i), (3, .ref 270), (2, .ref 236), (1, .ref 64), (0, .ref 0)], [], (q_kL (q_pt 34 0 172 0 (q_pt 172 1 0 206 S r0.1) r1.1) (c + r0.2.2) (n + 6 * r0.2.2)))) rfl rfl (q_d_neT hc1) ?_
  refine q_Ru_seg (g2 := (832, [(6, .int r1.2), (5, .int r0.2.1), (4, .int i), (3, .ref 270), (2, .ref 236), (1, .ref 64), (0, .ref 0)], [.int (lg_cmp (((q_pt 34 0 172 0 (q_pt 172 1 0 206 S r0.1) r1.1).2.2 206) 0) r1.2.toInt64)], (q_kL (q_pt 34 0 172 0 (q_pt 172 1 0 206 S r0.1) r1.1) (c + r0.2.2) (n + 6 * r0.2.2)))) 6 (fun _ _ => rfl) ?_
  refine q_Ru_rsT (g2 := (837, [(6, .int r1.2), (5, .int r0.2.1), (4, .int i), (3, .ref 270), (2, .ref 236), (1, .ref 64), (0, .ref 0)], [], (q_kL (q_pt 34 0 172 0 (q_pt 172 1 0 206 S r0.1) r1.1) (c + r0.2.2) (n + 6 * r0.2.2)))) rfl rfl hc2 ?_
  refine q_Ru_seg (g2 := (23, [(4, .int (i + 4)), (6, .int r1.2), (5, .int r0.2.1), (3, .ref 270), (2, .ref 236), (1, .ref 64), (0, .ref 0)], [], (q_kL (q_pt 34 0 172 0 (q_pt 172 1 0 206 S r0.1) r1.1) (c + r0.2.2) (n + 6 * r0.2.2)))) 3 (fun _ _ => rfl) ?_
  exact q_Ru_xt (q_xt_mk (q_mn1 0 rfl (q_mn1 3 rfl (q_mn1 4 rfl (q_mn1 5 rfl (q_mn1 6 rfl q_mn0))))) rfl) h
set_option maxHeartbeats 4000000 in
theorem q_lw22 (z L : Nat) (xs : Nat → Int32) (S : q_S) (c n : Nat) (i : Int32) (hx0 : q_in i L = true) (hx1 : q_in (i + 1) L = true) (hx2 : q_in (i + 2) L = true) (hx3 : q_in (i + 3) L = true) (hi : decide (Int32.ofNat L - 4 < i) = false) (hv : xs i.toNatClampNeg &&& 63 = 22) (r0 : q_S × Int32 × Nat) (er0 : dz_X14_64_236 (q_vw 172 0 206 S) (xs ((i + 1).toNatClampNeg)) (xs ((i + 2).toNatClampNeg)) = r0) (r1 : q_S × Int32) (er1 : dz_M294_64 (q_vw 34 172 0 (q_pt 172 1 0 206 S r0.1)) (xs ((i + 1).toNatClampNeg)) (xs ((i + 2).toNatClampNeg)) = some r1) {o : q_Out} (h : q_Ru (q_TBs z L xs) 20 376 (23, [(4, .int (i + 4)), (3, .ref 270), (2, .ref 236), (1, .ref 64), (0, .ref 0)], [], (q_kL (q_pt 34 0 172 0 (q_pt 172 1 0 206 S r0.1) r1.1) (c + r0.2.2) (n + 6 * r0.2.2))) o) : q_Ru (q_TBs z L xs) 20 376 (23, [(4, .int i), (3, .ref 270), (2, .ref 236), (1, .ref 64), (0, .ref 0)], [], (q_kL S c n)) o := by
  refine q_Ru_seg (g2 := (29, [(4, .int i), (3, .ref 270), (2, .ref 236), (1, .ref 64), (0, .ref 0)], [.int ((Int32.ofNat L) - 4), .int i], (q_kL S c n))) 5 (fun _ _ => rfl) ?_
  refine q_Ru_rsF (g2 := (32, [(4, .int i), (3, .ref 270), (2, .ref 236), (1, .ref 64), (0, .ref 0)], [], (q_kL S c n))) rfl rfl hi ?_
  refine q_Ru_seg (g2 := (35, [(4, .int i), (3, .ref 270), (2, .ref 236), (1, .ref 64), (0, .ref 0)], [.int i, .ref 0], (q_kL S c n))) 2 (fun _ _ => rfl) ?_
  refine q_Ru_rsT (g2 := (36, [(4, .int i), (3, .ref 270), (2, .ref 236), (1, .ref 64), (0, .ref 0)], [.int (xs (i.toNatClampNeg))], (q_kL S c n))) rfl rfl hx0 ?_
  refine q_Ru_seg (g2 := (39, [(4, .int i), (3, .ref 270), (2, .ref 236), (1, .ref 64), (0, .ref 0)], [.int ((xs (i.toNatClampNeg)) &&& 63)], (q_kL S c n))) 2 (fun _ _ => rfl) ?_
  rw [hv]
  refine q_Ru_seg (g2 := (846, [(4, .int i), (3, .ref 270), (2, .ref 236), (1, .ref 64), (0, .ref 0)], [.int (i + 1), .ref 0, .ref 64], (q_kL S c n))) 6 (fun _ _ => rfl) ?_
  refine q_Ru_rsT (g2 := (847, [(4, .int i), (3, .ref 270), (2, .ref 236), (1, .ref 64), (0, .ref 0)], [.int (xs ((i + 1).toNatClampNeg)), .ref 64], (q_kL S c n))) rfl rfl hx1 ?_
  refine q_Ru_seg (g2 := (852, [(4, .int i), (3, .ref 270), (2, .ref 236), (1, .ref 64), (0, .ref 0)], [.int (i + 2), .ref 0, .int (xs ((i + 1).toNatClampNeg)), .ref 64], (q_kL S c n))) 4 (fun _ _ => rfl) ?_
  refine q_Ru_rsT (g2 := (853, [(4, .int i), (3, .ref 270), (2, .ref 236), (1, .ref 64), (0, .ref 0)], [.int (xs ((i + 2).toNatClampNeg)), .int (xs ((i + 1).toNatClampNeg)), .ref 64], (q_kL S c n))) rfl rfl hx2 ?_
  refine q_Ru_seg (g2 := (854, [(4, .int i), (3, .ref 270), (2, .ref 236), (1, .ref 64), (0, .ref 0)], [.ref 270, .int (xs ((i + 2).toNatClampNeg)), .int (xs ((i + 1).toNatClampNeg)), .ref 64], (q_kL S c n))) 1 (fun _ _ => rfl) ?_
  refine q_Ru_call (v := (some (.int r0.2.1))) (h2 := (q_kL (q_pt 172 1 0 206 S r0.1) (c + r0.2.2) (n + 6 * r0.2.2))) rfl rfl ?_ ?_
  · exact (q_emXL rfl (fun _ => rfl) (q_cE (φ := (q_oEX c n)) er0 (dzt_X14_64_236 z L xs (q_vw 172 0 206 S) c n (xs ((i + 1).toNatClampNeg)) (xs ((i + 2).toNatClampNeg))))).le (Nat.le_of_ble_eq_true rfl)
  show q_Ru _ _ _ (857, [(4, .int i), (3, .ref 270), (2, .ref 236), (1, .ref 64), (0, .ref 0)], [.int r0.2.1], (q_kL (q_pt 172 1 0 206 S r0.1) (c + r0.2.2) (n + 6 * r0.2.2))) _
  refine q_Ru_seg (g2 := (865, [(5, .int r0.2.1), (4, .int i), (3, .ref 270), (2, .ref 236), (1, .ref 64), (0, .ref 0)], [.int (i + 1), .ref 0, .ref 236], (q_kL (q_pt 172 1 0 206 S r0.1) (c + r0.2.2) (n + 6 * r0.2.2)))) 6 (fun _ _ => rfl) ?_
  refine q_Ru_rsT (g2 := (866, [(5, .int r0.2.1), (4, .int i), (3, .ref 270), (2, .ref 236), (1, .ref 64), (0, .ref 0)], [.int (xs ((i + 1).toNatClampNeg)), .ref 236], (q_kL (q_pt 172 1 0 206 S r0.1) (c + r0.2.2) (n + 6 * r0.2.2)))) rfl rfl hx1 ?_
  refine q_Ru_seg (g2 := (871, [(5, .int r0.2.1), (4, .int i), (3, .ref 270), (2, .ref 236), (1, .ref 64), (0, .ref 0)], [.int (i + 2), .ref 0, .int (xs ((i + 1).toNatClampNeg)), .ref 236], (q_kL (q_pt 172 1 0 206 S r0.1) (c + r0.2.2) (n + 6 * r0.2.2)))) 4 (fun _ _ => rfl) ?_
  refine q_Ru_rsT (g2 := (872, [(5, .int r0.2.1), (4, .int i), (3, .ref 270), (2, .ref 236), (1, .ref 64), (0, .ref 0)], [.int (xs ((i + 2).toNatClampNeg)), .int (xs ((i + 1).toNatClampNeg)), .ref 236], (q_kL (q_pt 172 1 0 206 S r0.1) (c + r0.2.2) (n + 6 * r0.2.2)))) rfl rfl hx2 ?_
  refine q_Ru_call (v := (some (.int r1.2))) (h2 := (q_kL (q_pt 34 0 172 0 (q_pt 172 1 0 206 S r0.1) r1.1) (c + r0.2.2) (n + 6 * r0.2.2))) rfl rfl ?_ ?_
  · exact (q_emML rfl (fun _ => rfl) ((dzt_M294_64 (q_vw 34 172 0 (q_pt 172 1 0 206 S r0.1)) (c + r0.2.2) (n + 6 * r0.2.2) (xs ((i + 1).toNatClampNeg)) (xs ((i + 2).toNatClampNeg)) r1 er1).tb q_TB0_le)).le (Nat.le_of_ble_eq_true rfl)
  show q_Ru _ _ _ (875, [(5, .int r0.2.1), (4, .int i), (3, .ref 270), (2, .ref 236), (1, .ref 64), (0, .ref 0)], [.int r1.2], (q_kL (q_pt 34 0 172 0 (q_pt 172 1 0 206 S r0.1) r1.1) (c + r0.2.2) (n + 6 * r0.2.2))) _
  refine q_Ru_seg (g2 := (23, [(4, .int (i + 4)), (6, .int r1.2), (5, .int r0.2.1), (3, .ref 270), (2, .ref 236), (1, .ref 64), (0, .ref 0)], [], (q_kL (q_pt 34 0 172 0 (q_pt 172 1 0 206 S r0.1) r1.1) (c + r0.2.2) (n + 6 * r0.2.2)))) 4 (fun _ _ => rfl) ?_
  exact q_Ru_xt (q_xt_mk (q_mn1 0 rfl (q_mn1 3 rfl (q_mn1 4 rfl (q_mn1 5 rfl (q_mn1 6 rfl q_mn0))))) rfl) h
set_option maxHeartbeats 4000000 in
theorem q_lw23 (z L : Nat) (xs : Nat → Int32) (S : q_S) (c n : Nat) (i : Int32) (hx0 : q_in i L = true) (hx1 : q_in (i + 1) L = true) (hx2 : q_in (i + 2) L = true) (hx3 : q_in (i + 3) L = true) (hi : decide (Int32.ofNat L - 4 < i) = false) (hv : xs i.toNatClampNeg &&& 63 = 23) (r0 : q_S × Int32 × Nat) (er0 : dz_X15_64_236 (q_vw 172 0 206 S) (xs ((i + 1).toNatClampNeg)) (xs ((i + 2).toNatClampNeg)) = some r0) (r1 : q_S × Int32) (er1 : dz_M295_64 (q_vw 34 172 0 (q_pt 172 1 0 206 S r0.1)) (xs ((i + 1).toNatClampNeg)) (xs ((i + 2).toNatClampNeg)) = some r1) {o : q_Out} (h : q_Ru (q_TBs z L xs) 20 376 (23, [(4, .int (i + 4)), (3, .ref 270), (2, .ref 236), (1, .ref 64), (0, .ref 0)], [], (q_kL (q_pt 34 0 172 0 (q_pt 172 1 0 206 S r0.1) r1.1) (c + r0.2.2) (n + 6 * r0.2.2))) o) : q_Ru (q_TBs z L xs) 20 376 (23, [(4, .int i), (3, .ref 270), (2, .ref 236), (1, .ref 64), (0, .ref 0)], [], (q_kL S c n)) o := by
  refine q_Ru_seg (g2 := (29, [(4, .int i), (3, .ref 270), (2, .ref 236), (1, .ref 64), (0, .ref 0)], [.int ((Int32.ofNat L) - 4), .int i], (q_kL S c n))) 5 (fun _ _ => rfl) ?_
  refine q_Ru_rsF (g2 := (32, [(4, .int i), (3, .ref 270), (2, .ref 236), (1, .ref 64), (0, .ref 0)], [], (q_kL S c n))) rfl rfl hi ?_
  refine q_Ru_seg (g2 := (35, [(4, .int i), (3, .ref 270), (2, .ref 236), (1, .ref 64), (0, .ref 0)], [.int i, .ref 0], (q_kL S c n))) 2 (fun _ _ => rfl) ?_
  refine q_Ru_rsT (g2 := (36, [(4, .int i), (3, .ref 270), (2, .ref 236), (1, .ref 64), (0, .ref 0)], [.int (xs (i.toNatClampNeg))], (q_kL S c n))) rfl rfl hx0 ?_
  refine q_Ru_seg (g2 := (39, [(4, .int i), (3, .ref 270), (2, .ref 236), (1, .ref 64), (0, .ref 0)], [.int ((xs (i.toNatClampNeg)) &&& 63)], (q_kL S c n))) 2 (fun _ _ => rfl) ?_
  rw [hv]
  refine q_Ru_seg (g2 := (886, [(4, .int i), (3, .ref 270), (2, .ref 236), (1, .ref 64), (0, .ref 0)], [.int (i + 1), .ref 0, .ref 64], (q_kL S c n))) 6 (fun _ _ => rfl) ?_
  refine q_Ru_rsT (g2 := (887, [(4, .int i), (3, .ref 270), (2, .ref 236), (1, .ref 64), (0, .ref 0)], [.int (xs ((i + 1).toNatClampNeg)), .ref 64], (q_kL S c n))) rfl rfl hx1 ?_
  refine q_Ru_seg (g2 := (892, [(4, .int i), (3, .ref 270), (2, .ref 236), (1, .ref 64), (0, .ref 0)], [.int (i + 2), .ref 0, .int (xs ((i + 1).toNatClampNeg)), .ref 64], (q_kL S c n))) 4 (fun _ _ => rfl) ?_
  refine q_Ru_rsT (g2 := (893, [(4, .int i), (3, .ref 270), (2, .ref 236), (1, .ref 64), (0, .ref 0)], [.int (xs ((i + 2).toNatClampNeg)), .int (xs ((i + 1).toNatClampNeg)), .ref 64], (q_kL S c n))) rfl rfl hx2 ?_
  refine q_Ru_seg (g2 := (894, [(4, .int i), (3, .ref 270), (2, .ref 236), (1, .ref 64), (0, .ref 0)], [.ref 270, .int (xs ((i + 2).toNatClampNeg)), .int (xs ((i + 1).toNatClampNeg)), .ref 64], (q_kL S c n))) 1 (fun _ _ => rfl) ?_
  refine q_Ru_call (v := (some (.int r0.2.1))) (h2 := (q_kL (q_pt 172 1 0 206 S r0.1) (c + r0.2.2) (n + 6 * r0.2.2))) rfl rfl ?_ ?_
  · exact (q_emXL rfl (fun _ => rfl) (dzt_X15_64_236 z L xs (q_vw 172 0 206 S) c n (xs ((i + 1).toNatClampNeg)) (xs ((i + 2).toNatClampNeg)) r0 er0)).le (Nat.le_of_ble_eq_true rfl)
  show q_Ru _ _ _ (897, [(4, .int i), (3, .ref 270), (2, .ref 236), (1, .ref 64), (0, .ref 0)], [.int r0.2.1], (q_kL (q_pt 172 1 0 206 S r0.1) (c + r0.2.2) (n + 6 * r0.2.2))) _
  refine q_Ru_seg (g2 := (905, [(5, .int r0.2.1), (4, .int i), (3, .ref 270), (2, .ref 236), (1, .ref 64), (0, .ref 0)], [.int (i + 1), .ref 0, .ref 236], (q_kL (q_pt 172 1 0 206 S r0.1) (c + r0.2.2) (n + 6 * r0.2.2)))) 6 (fun _ _ => rfl) ?_
  refine q_Ru_rsT (g2 := (906, [(5, .int r0.2.1), (4, .int i), (3, .ref 270), (2, .ref 236), (1, .ref 64), (0, .ref 0)], [.int (xs ((i + 1).toNatClampNeg)), .ref 236], (q_kL (q_pt 172 1 0 206 S r0.1) (c + r0.2.2) (n + 6 * r0.2.2)))) rfl rfl hx1 ?_
  refine q_Ru_seg (g2 := (911, [(5, .int r0.2.1), (4, .int i), (3, .ref 270), (2, .ref 236), (1, .ref 64), (0, .ref 0)], [.int (i + 2), .ref 0, .int (xs ((i + 1).toNatClampNeg)), .ref 236], (q_kL (q_pt 172 1 0 206 S r0.1) (c + r0.2.2) (n + 6 * r0.2.2)))) 4 (fun _ _ => rfl) ?_
  refine q_Ru_rsT (g2 := (912, [(5, .int r0.2.1), (4, .int i), (3, .ref 270), (2, .ref 236), (1, .ref 64), (0, .ref 0)], [.int (xs ((i + 2).toNatClampNeg)), .int (xs ((i + 1).toNatClampNeg)), .ref 236], (q_kL (q_pt 172 1 0 206 S r0.1) (c + r0.2.2) (n + 6 * r0.2.2)))) rfl rfl hx2 ?_
  refine q_Ru_call (v := (some (.int r1.2))) (h2 := (q_kL (q_pt 34 0 172 0 (q_pt 172 1 0 206 S r0.1) r1.1) (c + r0.2.2) (n + 6 * r0.2.2))) rfl rfl ?_ ?_
  · exact (q_emML rfl (fun _ => rfl) ((dzt_M295_64 (q_vw 34 172 0 (q_pt 172 1 0 206 S r0.1)) (c + r0.2.2) (n + 6 * r0.2.2) (xs ((i + 1).toNatClampNeg)) (xs ((i + 2).toNatClampNeg)) r1 er1).tb q_TB0_le)).le (Nat.le_of_ble_eq_true rfl)
  show q_Ru _ _ _ (915, [(5, .int r0.2.1), (4, .int i), (3, .ref 270), (2, .ref 236), (1, .ref 64), (0, .ref 0)], [.int r1.2], (q_kL (q_pt 34 0 172 0 (q_pt 172 1 0 206 S r0.1) r1.1) (c + r0.2.2) (n + 6 * r0.2.2))) _
  refine q_Ru_seg (g2 := (23, [(4, .int (i + 4)), (6, .int r1.2), (5, .int r0.2.1), (3, .ref 270), (2, .ref 236), (1, .ref 64), (0, .ref 0)], [], (q_kL (q_pt 34 0 172 0 (q_pt 172 1 0 206 S r0.1) r1.1) (c + r0.2.2) (n + 6 * r0.2.2)))) 4 (fun _ _ => rfl) ?_
  exact q_Ru_xt (q_xt_mk (q_mn1 0 rfl (q_mn1 3 rfl (q_mn1 4 rfl (q_mn1 5 rfl (q_mn1 6 rfl q_mn0))))) rfl) h
set_option maxHeartbeats 4000000 in
theorem q_lw24 (z L : Nat) (xs : Nat → Int32) (S : q_S) (c n : Nat) (i : Int32) (hx0 : q_in i L = true) (hx1 : q_in (i + 1) L = true) (hx2 : q_in (i + 2) L = true) (hx3 : q_in (i + 3) L = true) (hi : decide (Int32.ofNat L - 4 < i) = false) (hv : xs i.toNatClampNeg &&& 63 = 24) (r0 : q_S × Int32 × Nat) (er0 : dz_X16_64_236 (q_vw 172 0 206 S) (xs ((i + 1).toNatClampNeg)) = r0) (r1 : q_S × Int32) (er1 : dz_M296_64 (q_vw 34 172 0 (q_pt 172 1 0 206 S r0.1)) (xs ((i + 1).toNatClampNeg)) = some r1) {o : q_Out} (h : q_Ru (q_TBs z L xs) 20 376 (23, [(4, .int (i + 4)), (3, .ref 270), (2, .ref 236), (1, .ref 64), (0, .ref 0)], [], (q_kL (q_pt 34 0 172 0 (q_pt 172 1 0 206 S r0.1) r1.1) (c + r0.2.2) (n + 6 * r0.2.2))) o) : q_Ru (q_TBs z L xs) 20 376 (23, [(4, .int i), (3, .ref 270), (2, .ref 236), (1, .ref 64), (0, .ref 0)], [], (q_kL S c n)) o := by
  refine q_Ru_seg (g2 := (29, [(4, .int i), (3, .ref 270), (2, .ref 236), (1, .ref 64), (0, .ref 0)], [.int ((Int32.ofNat L) - 4), .int i], (q_kL S c n))) 5 (fun _ _ => rfl) ?_
  refine q_Ru_rsF (g2 := (32, [(4, .int i), (3, .ref 270), (2, .ref 236), (1, .ref 64), (0, .ref 0)], [], (q_kL S c n))) rfl rfl hi ?_
  refine q_Ru_seg (g2 := (35, [(4, .int i), (3, .ref 270), (2, .ref 236), (1, .ref 64), (0, .ref 0)], [.int i, .ref 0], (q_kL S c n))) 2 (fun _ _ => rfl) ?_
  refine q_Ru_rsT (g2 := (36, [(4, .int i), (3, .ref 270), (2, .ref 236), (1, .ref 64), (0, .ref 0)], [.int (xs (i.toNatClampNeg))], (q_kL S c n))) rfl rfl hx0 ?_
  refine q_Ru_seg (g2 := (39, [(4, .int i), (3, .ref 270), (2, .ref 236), (1, .ref 64), (0, .ref 0)], [.int ((xs (i.toNatClampNeg)) &&& 63)], (q_kL S c n))) 2 (fun _ _ => rfl) ?_
  rw [hv]
  refine q_Ru_seg (g2 := (926, [(4, .int i), (3, .ref 270), (2, .ref 236), (1, .ref 64), (0, .ref 0)], [.int (i + 1), .ref 0, .ref 64], (q_kL S c n))) 6 (fun _ _ => rfl) ?_
  refine q_Ru_rsT (g2 := (927, [(4, .int i), (3, .ref 270), (2, .ref 236), (1, .ref 64), (0, .ref 0)], [.int (xs ((i + 1).toNatClampNeg)), .ref 64], (q_kL S c n))) rfl rfl hx1 ?_
  refine q_Ru_seg (g2 := (928, [(4, .int i), (3, .ref 270), (2, .ref 236), (1, .ref 64), (0, .ref 0)], [.ref 270, .int (xs ((i + 1).toNatClampNeg)), .ref 64], (q_kL S c n))) 1 (fun _ _ => rfl) ?_
  refine q_Ru_call (v := (some (.int r0.2.1))) (h2 := (q_kL (q_pt 172 1 0 206 S r0.1) (c + r0.2.2) (n + 6 * r0.2.2))) rfl rfl ?_ ?_
  · exact (q_emXL rfl (fun _ => rfl) (q_cE (φ := (q_oEX c n)) er0 (dzt_X16_64_236 z L xs (q_vw 172 0 206 S) c n (xs ((i + 1).toNatClampNeg))))).le (Nat.le_of_ble_eq_true rfl)
  show q_Ru _ _ _ (931, [(4, .int i), (3, .ref 270), (2, .ref 236), (1, .ref 64), (0, .ref 0)], [.int r0.2.1], (q_kL (q_pt 172 1 0 206 S r0.1) (c + r0.2.2) (n + 6 * r0.2.2))) _
  refine q_Ru_seg (g2 := (939, [(5, .int r0.2.1), (4, .int i), (3, .ref 270), (2, .ref 236), (1, .ref 64), (0, .ref 0)], [.int (i + 1), .ref 0, .ref 236], (q_kL (q_pt 172 1 0 206 S r0.1) (c + r0.2.2) (n + 6 * r0.2.2)))) 6 (fun _ _ => rfl) ?_
  refine q_Ru_rsT (g2 := (940, [(5, .int r0.2.1), (4, .int i), (3, .ref 270), (2, .ref 236), (1, .ref 64), (0, .ref 0)], [.int (xs ((i + 1).toNatClampNeg)), .ref 236], (q_kL (q_pt 172 1 0 206 S r0.1) (c + r0.2.2) (n + 6 * r0.2.2)))) rfl rfl hx1 ?_
  refine q_Ru_call (v := (some (.int r1.2))) (h2 := (q_kL (q_pt 34 0 172 0 (q_pt 172 1 0 206 S r0.1) r1.1) (c + r0.2.2) (n + 6 * r0.2.2))) rfl rfl ?_ ?_
  · exact (q_emML rfl (fun _ => rfl) ((dzt_M296_64 (q_vw 34 172 0 (q_pt 172 1 0 206 S r0.1)) (c + r0.2.2) (n + 6 * r0.2.2) (xs ((i + 1).toNatClampNeg)) r1 er1).tb q_TB0_le)).le (Nat.le_of_ble_eq_true rfl)
  show q_Ru _ _ _ (943, [(5, .int r0.2.1), (4, .int i), (3, .ref 270), (2, .ref 236), (1, .ref 64), (0, .ref 0)], [.int r1.2], (q_kL (q_pt 34 0 172 0 (q_pt 172 1 0 206 S r0.1) r1.1) (c + r0.2.2) (n + 6 * r0.2.2))) _
  refine q_Ru_seg (g2 := (23, [(4, .int (i + 4)), (6, .int r1.2), (5, .int r0.2.1), (3, .ref 270), (2, .ref 236), (1, .ref 64), (0, .ref 0)], [], (q_kL (q_pt 34 0 172 0 (q_pt 172 1 0 206 S r0.1) r1.1) (c + r0.2.2) (n + 6 * r0.2.2)))) 4 (fun _ _ => rfl) ?_
  exact q_Ru_xt (q_xt_mk (q_mn1 0 rfl (q_mn1 3 rfl (q_mn1 4 rfl (q_mn1 5 rfl (q_mn1 6 rfl q_mn0))))) rfl) h
set_option maxHeartbeats 4000000 in
theorem q_lw25 (z L : Nat) (xs : Nat → Int32) (S : q_S) (c n : Nat) (i : Int32) (hx0 : q_in i L = true) (hx1 : q_in (i + 1) L = true) (hx2 : q_in (i + 2) L = true) (hx3 : q_in (i + 3) L = true) (hi : decide (Int32.ofNat L - 4 < i) = false) (hv : xs i.toNatClampNeg &&& 63 = 25) (r0 : q_S × Int32 × Nat) (er0 : dz_X17_64_236 (q_vw 172 0 206 S) (xs ((i + 1).toNatClampNeg)) = r0) (r1 : q_S × Int32) (er1 : dz_M297_64 (q_vw 34 172 0 (q_pt 172 1 0 206 S r0.1)) (xs ((i + 1).toNatClampNeg)) = some r1) {o : q_Out} (h : q_Ru (q_TBs z L xs) 20 376 (23, [(4, .int (i + 4)), (3, .ref 270), (2, .ref 236), (1, .ref 64), (0, .ref 0)], [], (q_kL (q_pt 34 0 172 0 (q_pt 172 1 0 206 S r0.1) r1.1) (c + r0.2.2) (n + 6 * r0.2.2))) o) : q_Ru (q_TBs z L xs) 20 376 (23, [(4, .int i), (3, .ref 270), (2, .ref 236), (1, .ref 64), (0, .ref 0)], [], (q_kL S c n)) o := by
  refine q_Ru_seg (g2 := (29, [(4, .int i), (3, .ref 270), (2, .ref 236), (1, .ref 64), (0, .ref 0)], [.int ((Int32.ofNat L) - 4), .int i], (q_kL S c n))) 5 (fun _ _ => rfl) ?_
  refine q_Ru_rsF (g2 := (32, [(4, .int i), (3, .ref 270), (2, .ref 236), (1, .ref 64), (0, .ref 0)], [], (q_kL S c n))) rfl rfl hi ?_
  refine q_Ru_seg (g2 := (35, [(4, .int i), (3, .ref 270), (2, .ref 236), (1, .ref 64), (0, .ref 0)], [.int i, .ref 0], (q_kL S c n))) 2 (fun _ _ => rfl) ?_
  refine q_Ru_rsT (g2 := (36, [(4, .int i), (3, .ref 270), (2, .ref 236), (1, .ref 64), (0, .ref 0)], [.int (xs (i.toNatClampNeg))], (q_kL S c n))) rfl rfl hx0 ?_
  refine q_Ru_seg (g2 := (39, [(4, .int i), (3, .ref 270), (2, .ref 236), (1, .ref 64), (0, .ref 0)], [.int ((xs (i.toNatClampNeg)) &&& 63)], (q_kL S c n))) 2 (fun _ _ => rfl) ?_
  rw [hv]
  refine q_Ru_seg (g2 := (954, [(4, .int i), (3, .ref 270), (2, .ref 236), (1, .ref 64), (0, .ref 0)], [.int (i + 1), .ref 0, .ref 64], (q_kL S c n))) 6 (fun _ _ => rfl) ?_
  refine q_Ru_rsT (g2 := (955, [(4, .int i), (3, .ref 270), (2, .ref 236), (1, .ref 64), (0, .ref 0)], [.int (xs ((i + 1).toNatClampNeg)), .ref 64], (q_kL S c n))) rfl rfl hx1 ?_
  refine q_Ru_seg (g2 := (956, [(4, .int i), (3, .ref 270), (2, .ref 236), (1, .ref 64), (0, .ref 0)], [.ref 270, .int (xs ((i + 1).toNatClampNeg)), .ref 64], (q_kL S c n))) 1 (fun _ _ => rfl) ?_
  refine q_Ru_call (v := (some (.int r0.2.1))) (h2 := (q_kL (q_pt 172 1 0 206 S r0.1) (c + r0.2.2) (n + 6 * r0.2.2))) rfl rfl ?_ ?_
  · exact (q_emXL rfl (fun _ => rfl) (q_cE (φ := (q_oEX c n)) er0 (dzt_X17_64_236 z L xs (q_vw 172 0 206 S) c n (xs ((i + 1).toNatClampNeg))))).le (Nat.le_of_ble_eq_true rfl)
  show q_Ru _ _ _ (959, [(4, .int i), (3, .ref 270), (2, .ref 236), (1, .ref 64), (0, .ref 0)], [.int r0.2.1], (q_kL (q_pt 172 1 0 206 S r0.1) (c + r0.2.2) (n + 6 * r0.2.2))) _
  refine q_Ru_seg (g2 := (967, [(5, .int r0.2.1), (4, .int i), (3, .ref 270), (2, .ref 236), (1, .ref 64), (0, .ref 0)], [.int (i + 1), .ref 0, .ref 236], (q_kL (q_pt 172 1 0 206 S r0.1) (c + r0.2.2) (n + 6 * r0.2.2)))) 6 (fun _ _ => rfl) ?_
  refine q_Ru_rsT (g2 := (968, [(5, .int r0.2.1), (4, .int i), (3, .ref 270), (2, .ref 236), (1, .ref 64), (0, .ref 0)], [.int (xs ((i + 1).toNatClampNeg)), .ref 236], (q_kL (q_pt 172 1 0 206 S r0.1) (c + r0.2.2) (n + 6 * r0.2.2)))) rfl rfl hx1 ?_
  refine q_Ru_call (v := (some (.int r1.2))) (h2 := (q_kL (q_pt 34 0 172 0 (q_pt 172 1 0 206 S r0.1) r1.1) (c + r0.2.2) (n + 6 * r0.2.2))) rfl rfl ?_ ?_
  · exact (q_emML rfl (fun _ => rfl) ((dzt_M297_64 (q_vw 34 172 0 (q_pt 172 1 0 206 S r0.1)) (c + r0.2.2) (n + 6 * r0.2.2) (xs ((i + 1).toNatClampNeg)) r1 er1).tb q_TB0_le)).le (Nat.le_of_ble_eq_true rfl)
  show q_Ru _ _ _ (971, [(5, .int r0.2.1), (4, .int i), (3, .ref 270), (2, .ref 236), (1, .ref 64), (0, .ref 0)], [.int r1.2], (q_kL (q_pt 34 0 172 0 (q_pt 172 1 0 206 S r0.1) r1.1) (c + r0.2.2) (n + 6 * r0.2.2))) _
  refine q_Ru_seg (g2 := (23, [(4, .int (i + 4)), (6, .int r1.2), (5, .int r0.2.1), (3, .ref 270), (2, .ref 236), (1, .ref 64), (0, .ref 0)], [], (q_kL (q_pt 34 0 172 0 (q_pt 172 1 0 206 S r0.1) r1.1) (c + r0.2.2) (n + 6 * r0.2.2)))) 4 (fun _ _ => rfl) ?_
  exact q_Ru_xt (q_xt_mk (q_mn1 0 rfl (q_mn1 3 rfl (q_mn1 4 rfl (q_mn1 5 rfl (q_mn1 6 rfl q_mn0))))) rfl) h
set_option maxHeartbeats 4000000 in
theorem q_lw26t (z L : Nat) (xs : Nat → Int32) (S : q_S) (c n : Nat) (i : Int32) (hx0 : q_in i L = true) (hx1 : q_in (i + 1) L = true) (hx2 : q_in (i + 2) L = true) (hx3 : q_in (i + 3) L = true) (hi : decide (Int32.ofNat L - 4 < i) = false) (hv : xs i.toNatClampNeg &&& 63 = 26) (r0 : q_S × Int32 × Nat) (er0 : dz_X18_64_f_236 (q_vw 172 0 206 S) (xs ((i + 1).toNatClampNeg)) (xs ((i + 2).toNatClampNeg)) = some r0) (r1 : q_S × Bool) (er1 : dz_M298_64 (q_vw 34 172 0 (q_pt 172 1 0 206 S r0.1)) (xs ((i + 1).toNatClampNeg)) (xs ((i + 2).toNatClampNeg)) 0 = some r1) (hc0 : decide (xs ((i + 3).toNatClampNeg) = 0) = true) {o : q_Out} (h : q_Ru (q_TBs z L xs) 20 376 (23, [(4, .int (i + 4)), (3, .ref 270), (2, .ref 236), (1, .ref 64), (0, .ref 0)], [], (q_kL (q_pt 34 0 172 0 (q_pt 172 1 0 206 S r0.1) r1.1) (c + r0.2.2) (n + 6 * r0.2.2))) o) : q_Ru (q_TBs z L xs) 20 376 (23, [(4, .int i), (3, .ref 270), (2, .ref 236), (1, .ref 64), (0, .ref 0)], [], (q_kL S c n)) o := by
  refine q_Ru_seg (g2 := (29, [(4, .int i), (3, .ref 270), (2, .ref 236), (1, .ref 64), (0, .ref 0)], [.int ((Int32.ofNat L) - 4), .int i], (q_kL S c n))) 5 (fun _ _ => rfl) ?_
  refine q_Ru_rsF (g2 := (32, [(4, .int i), (3, .ref 270), (2, .ref 236), (1, .ref 64), (0, .ref 0)], [], (q_kL S c n))) rfl rfl hi ?_
  refine q_Ru_seg (g2 := (35, [(4, .int i), (3, .ref 270), (2, .ref 236), (1, .ref 64), (0, .ref 0)], [.int i, .ref 0], (q_kL S c n))) 2 (fun _ _ => rfl) ?_
  refine q_Ru_rsT (g2 := (36, [(4, .int i), (3, .ref 270), (2, .ref 236), (1, .ref 64), (0, .ref 0)], [.int (xs (i.toNatClampNeg))], (q_kL S c n))) rfl rfl hx0 ?_
  refine q_Ru_seg (g2 := (39, [(4, .int i), (3, .ref 270), (2, .ref 236), (1, .ref 64), (0, .ref 0)], [.int ((xs (i.toNatClampNeg)) &&& 63)], (q_kL S c n))) 2 (fun _ _ => rfl) ?_
  rw [hv]
  refine q_Ru_seg (g2 := (982, [(4, .int i), (3, .ref 270), (2, .ref 236), (1, .ref 64), (0, .ref 0)], [.int (i + 1), .ref 0, .ref 64], (q_kL S c n))) 6 (fun _ _ => rfl) ?_
  refine q_Ru_rsT (g2 := (983, [(4, .int i), (3, .ref 270), (2, .ref 236), (1, .ref 64), (0, .ref 0)], [.int (xs ((i + 1).toNatClampNeg)), .ref 64], (q_kL S c n))) rfl rfl hx1 ?_
  refine q_Ru_seg (g2 := (988, [(4, .int i), (3, .ref 270), (2, .ref 236), (1, .ref 64), (0, .ref 0)], [.int (i + 2), .ref 0, .int (xs ((i + 1).toNatClampNeg)), .ref 64], (q_kL S c n))) 4 (fun _ _ => rfl) ?_
  refine q_Ru_rsT (g2 := (989, [(4, .int i), (3, .ref 270), (2, .ref 236), (1, .ref 64), (0, .ref 0)], [.int (xs ((i + 2).toNatClampNeg)), .int (xs ((i + 1).toNatClampNeg)), .ref 64], (q_kL S c n))) rfl rfl hx2 ?_
  refine q_Ru_seg (g2 := (994, [(4, .int i), (3, .ref 270), (2, .ref 236), (1, .ref 64), (0, .ref 0)], [.int (i + 3), .ref 0, .int (xs ((i + 2).toNatClampNeg)), .int (xs ((i + 1).toNatClampNeg)), .ref 64], (q_kL S c n))) 4 (fun _ _ => rfl) ?_
  refine q_Ru_rsT (g2 := (995, [(4, .int i), (3, .ref 270), (2, .ref 236), (1, .ref 64), (0, .ref 0)], [.int (xs ((i + 3).toNatClampNeg)), .int (xs ((i + 2).toNatClampNeg)), .int (xs ((i + 1).toNatClampNeg)), .ref 64], (q_kL S c n))) rfl rfl hx3 ?_
  refine q_Ru_rsT (g2 := (1002, [(4, .int i), (3, .ref 270), (2, .ref 236), (1, .ref 64), (0, .ref 0)], [.int (xs ((i + 2).toNatClampNeg)), .int (xs ((i + 1).toNatClampNeg)), .ref 64], (q_kL S c n))) rfl rfl hc0 ?_
  refine q_Ru_seg (g2 := (1004, [(4, .int i), (3, .ref 270), (2, .ref 236), (1, .ref 64), (0, .ref 0)], [.ref 270, .int 0, .int (xs ((i + 2).toNatClampNeg)), .int (xs ((i + 1).toNatClampNeg)), .ref 64], (q_kL S c n))) 2 (fun _ _ => rfl) ?_
  refine q_Ru_call (v := (some (.int r0.2.1))) (h2 := (q_kL (q_pt 172 1 0 206 S r0.1) (c + r0.2.2) (n + 6 * r0.2.2))) rfl rfl ?_ ?_
  · exact (q_emXL rfl (fun _ => rfl) (dzt_X18_64_f_236 z L xs (q_vw 172 0 206 S) c n (xs ((i + 1).toNatClampNeg)) (xs ((i + 2).toNatClampNeg)) r0 er0)).le (Nat.le_of_ble_eq_true rfl)
  show q_Ru _ _ _ (1007, [(4, .int i), (3, .ref 270), (2, .ref 236), (1, .ref 64), (0, .ref 0)], [.int r0.2.1], (q_kL (q_pt 172 1 0 206 S r0.1) (c + r0.2.2) (n + 6 * r0.2.2))) _
  refine q_Ru_seg (g2 := (1015, [(5, .int r0.2.1), (4, .int i), (3, .ref 270), (2, .ref 236), (1, .ref 64), (0, .ref 0)], [.int (i + 1), .ref 0, .ref 236], (q_kL (q_pt 172 1 0 206 S r0.1) (c + r0.2.2) (n + 6 * r0.2.2)))) 6 (fun _ _ => rfl) ?_
  refine q_Ru_rsT (g2 := (1016, [(5, .int r0.2.1), (4, .int i), (3, .ref 270), (2, .ref 236), (1, .ref 64), (0, .ref 0)], [.int (xs ((i + 1).toNatClampNeg)), .ref 236], (q_kL (q_pt 172 1 0 206 S r0.1) (c + r0.2.2) (n + 6 * r0.2.2)))) rfl rfl hx1 ?_
  refine q_Ru_seg (g2 := (1021, [(5, .int r0.2.1), (4, .int i), (3, .ref 270), (2, .ref 236), (1, .ref 64), (0, .ref 0)], [.int (i + 2), .ref 0, .int (xs ((i + 1).toNatClampNeg)), .ref 236], (q_kL (q_pt 172 1 0 206 S r0.1) (c + r0.2.2) (n + 6 * r0.2.2)))) 4 (fun _ _ => rfl) ?_
  refine q_Ru_rsT (g2 := (1022, [(5, .int r0.2.1), (4, .int i), (3, .ref 270), (2, .ref 236), (1, .ref 64), (0, .ref 0)], [.int (xs ((i + 2).toNatClampNeg)), .int (xs ((i + 1).toNatClampNeg)), .ref 236], (q_kL (q_pt 172 1 0 206 S r0.1) (c + r0.2.2) (n + 6 * r0.2.2)))) rfl rfl hx2 ?_
  refine q_Ru_seg (g2 := (1027, [(5, .int r0.2.1), (4, .int i), (3, .ref 270), (2, .ref 236), (1, .ref 64), (0, .ref 0)], [.int (i + 3), .ref 0, .int (xs ((i + 2).toNatClampNeg)), .int (xs ((i + 1).toNatClampNeg)), .ref 236], (q_kL (q_pt 172 1 0 206 S r0.1) (c + r0.2.2) (n + 6 * r0.2.2)))) 4 (fun _ _ => rfl) ?_
  refine q_Ru_rsT (g2 := (1028, [(5, .int r0.2.1), (4, .int i), (3, .ref 270), (2, .ref 236), (1, .ref 64), (0, .ref 0)], [.int (xs ((i + 3).toNatClampNeg)), .int (xs ((i + 2).toNatClampNeg)), .int (xs ((i + 1).toNatClampNeg)), .ref 236], (q_kL (q_pt 172 1 0 206 S r0.1) (c + r0.2.2) (n + 6 * r0.2.2)))) rfl rfl hx3 ?_
  refine q_Ru_rsT (g2 := (1035, [(5, .int r0.2.1), (4, .int i), (3, .ref 270), (2, .ref 236), (1, .ref 64), (0, .ref 0)], [.int (xs ((i + 2).toNatClampNeg)), .int (xs ((i + 1).toNatClampNeg)), .ref 236], (q_kL (q_pt 172 1 0 206 S r0.1) (c + r0.2.2) (n + 6 * r0.2.2)))) rfl rfl hc0 ?_
  refine q_Ru_seg (g2 := (1036, [(5, .int r0.2.1), (4, .int i), (3, .ref 270), (2, .ref 236), (1, .ref 64), (0, .ref 0)], [.int 0, .int (xs ((i + 2).toNatClampNeg)), .int (xs ((i + 1).toNatClampNeg)), .ref 236], (q_kL (q_pt 172 1 0 206 S r0.1) (c + r0.2.2) (n + 6 * r0.2.2)))) 1 (fun _ _ => rfl) ?_
  refine q_Ru_call (v := (some (.int (q_b r1.2)))) (h2 := (q_kL (q_pt 34 0 172 0 (q_pt 172 1 0 206 S r0.1) r1.1) (c + r0.2.2) (n + 6 * r0.2.2))) rfl rfl ?_ ?_
  · exact (q_emML rfl (fun _ => rfl) ((dzt_M298_64 (q_vw 34 172 0 (q_pt 172 1 0 206 S r0.1)) (c + r0.2.2) (n + 6 * r0.2.2) (xs ((i + 1).toNatClampNeg)) (xs ((i + 2).toNatClampNeg)) 0 r1 er1).tb q_TB0_le)).le (Nat.le_of_ble_eq_true rfl)
  show q_Ru _ _ _ (1039, [(5, .int r0.2.1), (4, .int i), (3, .ref 270), (2, .ref 236), (1, .ref 64), (0, .ref 0)], [.int (q_b r1.2)], (q_kL (q_pt 34 0 172 0 (q_pt 172 1 0 206 S r0.1) r1.1) (c + r0.2.2) (n + 6 * r0.2.2))) _
  refine q_Ru_seg (g2 := (23, [(4, .int (i + 4)), (6, .int (q_b r1.2)), (5, .int r0.2.1), (3, .ref 270), (2, .ref 236), (1, .ref 64), (0, .ref 0)], [], (q_kL (q_pt 34 0 172 0 (q_pt 172 1 0 206 S r0.1) r1.1) (c + r0.2.2) (n + 6 * r0.2.2)))) 4 (fun _ _ => rfl) ?_
  exact q_Ru_xt (q_xt_mk (q_mn1 0 rfl (q_mn1 3 rfl (q_mn1 4 rfl (q_mn1 5 rfl (q_mn1 6 rfl q_mn0))))) rfl) h
set_option maxHeartbeats 4000000 in
theorem q_lw26f (z L : Nat) (xs : Nat → Int32) (S : q_S) (c n : Nat) (i : Int32) (hx0 : q_in i L = true) (hx1 : q_in (i + 1) L = true) (hx2 : q_in (i + 2) L = true) (hx3 : q_in (i + 3) L = true) (hi : decide (Int32.ofNat L - 4 < i) = false) (hv : xs i.toNatClampNeg &&& 63 = 26) (r0 : q_S × Int32 × Nat) (er0 : dz_X18_64_t_236 (q_vw 172 0 206 S) (xs ((i + 1).toNatClampNeg)) (xs ((i + 2).toNatClampNeg)) = some r0) (r1 : q_S × Bool) (er1 : dz_M298_64 (q_vw 34 172 0 (q_pt 172 1 0 206 S r0.1)) (xs ((i + 1).toNatClampNeg)) (xs ((i + 2).toNatClampNeg)) 1 = some r1) (hc0 : decide (xs ((i + 3).toNatClampNeg) = 0) = false) {o : q_Out} (h : q_Ru (q_TBs z L xs) 20 376 (23, [(4, .int (i + 4)), (3, .ref 270), (2, .ref 236), (1, .ref 64), (0, .ref 0)], [], (q_kL (q_pt 34 0 172 0 (q_pt 172 1 0 206 S r0.1) r1.1) (c + r0.2.2) (n + 6 * r0.2.2))) o) : q_Ru (q_TBs z L xs) 20 376 (23, [(4, .int i), (3, .ref 270), (2, .ref 236), (1, .ref 64), (0, .ref 0)], [], (q_kL S c n)) o := by
  refine q_Ru_seg (g2 := (29, [(4, .int i), (3, .ref 270), (2, .ref 236), (1, .ref 64), (0, .ref 0)], [.int ((Int32.ofNat L) - 4), .int i], (q_kL S c n))) 5 (fun _ _ => rfl) ?_
  refine q_Ru_rsF (g2 := (32, [(4, .int i), (3, .ref 270), (2, .ref 236), (1, .ref 64), (0, .ref 0)], [], (q_kL S c n))) rfl rfl hi ?_
  refine q_Ru_seg (g2 := (35, [(4, .int i), (3, .ref 270), (2, .ref 236), (1, .ref 64), (0, .ref 0)], [.int i, .ref 0], (q_kL S c n))) 2 (fun _ _ => rfl) ?_
  refine q_Ru_rsT (g2 := (36, [(4, .int i), (3, .ref 270), (2, .ref 236), (1, .ref 64), (0, .ref 0)], [.int (xs (i.toNatClampNeg))], (q_kL S c n))) rfl rfl hx0 ?_
  refine q_Ru_seg (g2 := (39, [(4, .int i), (3, .ref 270), (2, .ref 236), (1, .ref 64), (0, .ref 0)], [.int ((xs (i.toNatClampNeg)) &&& 63)], (q_kL S c n))) 2 (fun _ _ => rfl) ?_
  rw [hv]
  refine q_Ru_seg (g2 := (982, [(4, .int i), (3, .ref 270), (2, .ref 236), (1, .ref 64), (0, .ref 0)], [.int (i + 1), .ref 0, .ref 64], (q_kL S c n))) 6 (fun _ _ => rfl) ?_
  refine q_Ru_rsT (g2 := (983, [(4, .int i), (3, .ref 270), (2, .ref 236), (1, .ref 64), (0, .ref 0)], [.int (xs ((i + 1).toNatClampNeg)), .ref 64], (q_kL S c n))) rfl rfl hx1 ?_
  refine q_Ru_seg (g2 := (988, [(4, .int i), (3, .ref 270), (2, .ref 236), (1, .ref 64), (0, .ref 0)], [.int (i + 2), .ref 0, .int (xs ((i + 1).toNatClampNeg)), .ref 64], (q_kL S c n))) 4 (fun _ _ => rfl) ?_
  refine q_Ru_rsT (g2 := (989, [(4, .int i), (3, .ref 270), (2, .ref 236), (1, .ref 64), (0, .ref 0)], [.int (xs ((i + 2).toNatClampNeg)), .int (xs ((i + 1).toNatClampNeg)), .ref 64], (q_kL S c n))) rfl rfl hx2 ?_
  refine q_Ru_seg (g2 := (994, [(4, .int i), (3, .ref 270), (2, .ref 236), (1, .ref 64), (0, .ref 0)], [.int (i + 3), .ref 0, .int (xs ((i + 2).toNatClampNeg)), .int (xs ((i + 1).toNatClampNeg)), .ref 64], (q_kL S c n))) 4 (fun _ _ => rfl) ?_
  refine q_Ru_rsT (g2 := (995, [(4, .int i), (3, .ref 270), (2, .ref 236), (1, .ref 64), (0, .ref 0)], [.int (xs ((i + 3).toNatClampNeg)), .int (xs ((i + 2).toNatClampNeg)), .int (xs ((i + 1).toNatClampNeg)), .ref 64], (q_kL S c n))) rfl rfl hx3 ?_
  refine q_Ru_rsF (g2 := (998, [(4, .int i), (3, .ref 270), (2, .ref 236), (1, .ref 64), (0, .ref 0)], [.int (xs ((i + 2).toNatClampNeg)), .int (xs ((i + 1).toNatClampNeg)), .ref 64], (q_kL S c n))) rfl rfl hc0 ?_
  refine q_Ru_seg (g2 := (1004, [(4, .int i), (3, .ref 270), (2, .ref 236), (1, .ref 64), (0, .ref 0)], [.ref 270, .int 1, .int (xs ((i + 2).toNatClampNeg)), .int (xs ((i + 1).toNatClampNeg)), .ref 64], (q_kL S c n))) 3 (fun _ _ => rfl) ?_
  refine q_Ru_call (v := (some (.int r0.2.1))) (h2 := (q_kL (q_pt 172 1 0 206 S r0.1) (c + r0.2.2) (n + 6 * r0.2.2))) rfl rfl ?_ ?_
  · exact (q_emXL rfl (fun _ => rfl) (dzt_X18_64_t_236 z L xs (q_vw 172 0 206 S) c n (xs ((i + 1).toNatClampNeg)) (xs ((i + 2).toNatClampNeg)) r0 er0)).le (Nat.le_of_ble_eq_true rfl)
  show q_Ru _ _ _ (1007, [(4, .int i), (3, .ref 270), (2, .ref 236), (1, .ref 64), (0, .ref 0)], [.int r0.2.1], (q_kL (q_pt 172 1 0 206 S r0.1) (c + r0.2.2) (n + 6 * r0.2.2))) _
  refine q_Ru_seg (g2 := (1015, [(5, .int r0.2.1), (4, .int i), (3, .ref 270), (2, .ref 236), (1, .ref 64), (0, .ref 0)], [.int (i + 1), .ref 0, .ref 236], (q_kL (q_pt 172 1 0 206 S r0.1) (c + r0.2.2) (n + 6 * r0.2.2)))) 6 (fun _ _ => rfl) ?_
  refine q_Ru_rsT (g2 := (1016, [(5, .int r0.2.1), (4, .int i), (3, .ref 270), (2, .ref 236), (1, .ref 64), (0, .ref 0)], [.int (xs ((i + 1).toNatClampNeg)), .ref 236], (q_kL (q_pt 172 1 0 206 S r0.1) (c + r0.2.2) (n + 6 * r0.2.2)))) rfl rfl hx1 ?_
  refine q_Ru_seg (g2 := (1021, [(5, .int r0.2.1), (4, .int i), (3, .ref 270), (2, .ref 236), (1, .ref 64), (0, .ref 0)], [.int (i + 2), .ref 0, .int (xs ((i + 1).toNatClampNeg)), .ref 236], (q_kL (q_pt 172 1 0 206 S r0.1) (c + r0.2.2) (n + 6 * r0.2.2)))) 4 (fun _ _ => rfl) ?_
  refine q_Ru_rsT (g2 := (1022, [(5, .int r0.2.1), (4, .int i), (3, .ref 270), (2, .ref 236), (1, .ref 64), (0, .ref 0)], [.int (xs ((i + 2).toNatClampNeg)), .int (xs ((i + 1).toNatClampNeg)), .ref 236], (q_kL (q_pt 172 1 0 206 S r0.1) (c + r0.2.2) (n + 6 * r0.2.2)))) rfl rfl hx2 ?_
  refine q_Ru_seg (g2 := (1027, [(5, .int r0.2.1), (4, .int i), (3, .ref 270), (2, .ref 236), (1, .ref 64), (0, .ref 0)], [.int (i + 3), .ref 0, .int (xs ((i + 2).toNatClampNeg)), .int (xs ((i + 1).toNatClampNeg)), .ref 236], (q_kL (q_pt 172 1 0 206 S r0.1) (c + r0.2.2) (n + 6 * r0.2.2)))) 4 (fun _ _ => rfl) ?_
  refine q_Ru_rsT (g2 := (1028, [(5, .int r0.2.1), (4, .int i), (3, .ref 270), (2, .ref 236), (1, .ref 64), (0, .ref 0)], [.int (xs ((i + 3).toNatClampNeg)), .int (xs ((i + 2).toNatClampNeg)), .int (xs ((i + 1).toNatClampNeg)), .ref 236], (q_kL (q_pt 172 1 0 206 S r0.1) (c + r0.2.2) (n + 6 * r0.2.2)))) rfl rfl hx3 ?_
  refine q_Ru_rsF (g2 := (1031, [(5, .int r0.2.1), (4, .int i), (3, .ref 270), (2, .ref 236), (1, .ref 64), (0, .ref 0)], [.int (xs ((i + 2).toNatClampNeg)), .int (xs ((i + 1).toNatClampNeg)), .ref 236], (q_kL (q_pt 172 1 0 206 S r0.1) (c + r0.2.2) (n + 6 * r0.2.2)))) rfl rfl hc0 ?_
  refine q_Ru_seg (g2 := (1036, [(5, .int r0.2.1), (4, .int i), (3, .ref 270), (2, .ref 236), (1, .ref 64), (0, .ref 0)], [.int 1, .int (xs ((i + 2).toNatClampNeg)), .int (xs ((i + 1).toNatClampNeg)), .ref 236], (q_kL (q_pt 172 1 0 206 S r0.1) (c + r0.2.2) (n + 6 * r0.2.2)))) 2 (fun _ _ => rfl) ?_
  refine q_Ru_call (v := (some (.int (q_b r1.2)))) (h2 := (q_kL (q_pt 34 0 172 0 (q_pt 172 1 0 206 S r0.1) r1.1) (c + r0.2.2) (n + 6 * r0.2.2))) rfl rfl ?_ ?_
  · exact (q_emML rfl (fun _ => rfl) ((dzt_M298_64 (q_vw 34 172 0 (q_pt 172 1 0 206 S r0.1)) (c + r0.2.2) (n + 6 * r0.2.2) (xs ((i + 1).toNatClampNeg)) (xs ((i + 2).toNatClampNeg)) 1 r1 er1).tb q_TB0_le)).le (Nat.le_of_ble_eq_true rfl)
  show q_Ru _ _ _ (1039, [(5, .int r0.2.1), (4, .int i), (3, .ref 270), (2, .ref 236), (1, .ref 64), (0, .ref 0)], [.int (q_b r1.2)], (q_kL (q_pt 34 0 172 0 (q_pt 172 1 0 206 S r0.1) r1.1) (c + r0.2.2) (n + 6 * r0.2.2))) _
  refine q_Ru_seg (g2 := (23, [(4, .int (i + 4)), (6, .int (q_b r1.2)), (5, .int r0.2.1), (3, .ref 270), (2, .ref 236), (1, .ref 64), (0, .ref 0)], [], (q_kL (q_pt 34 0 172 0 (q_pt 172 1 0 206 S r0.1) r1.1) (c + r0.2.2) (n + 6 * r0.2.2)))) 4 (fun _ _ => rfl) ?_
  exact q_Ru_xt (q_xt_mk (q_mn1 0 rfl (q_mn1 3 rfl (q_mn1 4 rfl (q_mn1 5 rfl (q_mn1 6 rfl q_mn0))))) rfl) h
set_option maxHeartbeats 4000000 in
theorem q_lw27 (z L : Nat) (xs : Nat → Int32) (S : q_S) (c n : Nat) (i : Int32) (hx0 : q_in i L = true) (hx1 : q_in (i + 1) L = true) (hx2 : q_in (i + 2) L = true) (hx3 : q_in (i + 3) L = true) (hi : decide (Int32.ofNat L - 4 < i) = false) (hv : xs i.toNatClampNeg &&& 63 = 27) (r0 : q_S × Int32 × Nat) (er0 : dz_X19_64_236 (q_vw 172 0 206 S) (xs ((i + 1).toNatClampNeg)) = r0) (r1 : q_S × Int32) (er1 : dz_M299_64 (q_vw 34 172 0 (q_pt 172 1 0 206 S r0.1)) (xs ((i + 1).toNatClampNeg)) = some r1) {o : q_Out} (h : q_Ru (q_TBs z L xs) 20 376 (23, [(4, .int (i + 4)), (3, .ref 270), (2, .ref 236), (1, .ref 64), (0, .ref 0)], [], (q_kL (q_pt 34 0 172 0 (q_pt 172 1 0 206 S r0.1) r1.1) (c + r0.2.2) (n + 6 * r0.2.2))) o) : q_Ru (q_TBs z L xs) 20 376 (23, [(4, .int i), (3, .ref 270), (2, .ref 236), (1, .ref 64), (0, .ref 0)], [], (q_kL S c n)) o := by
  refine q_Ru_seg (g2 := (29, [(4, .int i), (3, .ref 270), (2, .ref 236), (1, .ref 64), (0, .ref 0)], [.int ((Int32.ofNat L) - 4), .int i], (q_kL S c n))) 5 (fun _ _ => rfl) ?_
  refine q_Ru_rsF (g2 := (32, [(4, .int i), (3, .ref 270), (2, .ref 236), (1, .ref 64), (0, .ref 0)], [], (q_kL S c n))) rfl rfl hi ?_
  refine q_Ru_seg (g2 := (35, [(4, .int i), (3, .ref 270), (2, .ref 236), (1, .ref 64), (0, .ref 0)], [.int i, .ref 0], (q_kL S c n))) 2 (fun _ _ => rfl) ?_
  refine q_Ru_rsT (g2 := (36, [(4, .int i), (3, .ref 270), (2, .ref 236), (1, .ref 64), (0, .ref 0)], [.int (xs (i.toNatClampNeg))], (q_kL S c n))) rfl rfl hx0 ?_
  refine q_Ru_seg (g2 := (39, [(4, .int i), (3, .ref 270), (2, .ref 236), (1, .ref 64), (0, .ref 0)], [.int ((xs (i.toNatClampNeg)) &&& 63)], (q_kL S c n))) 2 (fun _ _ => rfl) ?_
  rw [hv]
  refine q_Ru_seg (g2 := (1050, [(4, .int i), (3, .ref 270), (2, .ref 236), (1, .ref 64), (0, .ref 0)], [.int (i + 1), .ref 0, .ref 64], (q_kL S c n))) 6 (fun _ _ => rfl) ?_
  refine q_Ru_rsT (g2 := (1051, [(4, .int i), (3, .ref 270), (2, .ref 236), (1, .ref 64), (0, .ref 0)], [.int (xs ((i + 1).toNatClampNeg)), .ref 64], (q_kL S c n))) rfl rfl hx1 ?_
  refine q_Ru_seg (g2 := (1052, [(4, .int i), (3, .ref 270), (2, .ref 236), (1, .ref 64), (0, .ref 0)], [.ref 270, .int (xs ((i + 1).toNatClampNeg)), .ref 64], (q_kL S c n))) 1 (fun _ _ => rfl) ?_
  refine q_Ru_call (v := (some (.int r0.2.1))) (h2 := (q_kL (q_pt 172 1 0 206 S r0.1) (c + r0.2.2) (n + 6 * r0.2.2))) rfl rfl ?_ ?_
  · exact (q_emXL rfl (fun _ => rfl) (q_cE (φ := (q_oEX c n)) er0 (dzt_X19_64_236 z L xs (q_vw 172 0 206 S) c n (xs ((i + 1).toNatClampNeg))))).le (Nat.le_of_ble_eq_true rfl)
  show q_Ru _ _ _ (1055, [(4, .int i), (3, .ref 270), (2, .ref 236), (1, .ref 64), (0, .ref 0)], [.int r0.2.1], (q_kL (q_pt 172 1 0 206 S r0.1) (c + r0.2.2) (n + 6 * r0.2.2))) _
  refine q_Ru_seg (g2 := (1063, [(5, .int r0.2.1), (4, .int i), (3, .ref 270), (2, .ref 236), (1, .ref 64), (0, .ref 0)], [.int (i + 1), .ref 0, .ref 236], (q_kL (q_pt 172 1 0 206 S r0.1) (c + r0.2.2) (n + 6 * r0.2.2)))) 6 (fun _ _ => rfl) ?_
  refine q_Ru_rsT (g2 := (1064, [(5, .int r0.2.1), (4, .int i), (3, .ref 270), (2, .ref 236), (1, .ref 64), (0, .ref 0)], [.int (xs ((i + 1).toNatClampNeg)), .ref 236], (q_kL (q_pt 172 1 0 206 S r0.1) (c + r0.2.2) (n + 6 * r0.2.2)))) rfl rfl hx1 ?_
  refine q_Ru_call (v := (some (.int r1.2))) (h2 := (q_kL (q_pt 34 0 172 0 (q_pt 172 1 0 206 S r0.1) r1.1) (c + r0.2.2) (n + 6 * r0.2.2))) rfl rfl ?_ ?_
  · exact (q_emML rfl (fun _ => rfl) ((dzt_M299_64 (q_vw 34 172 0 (q_pt 172 1 0 206 S r0.1)) (c + r0.2.2) (n + 6 * r0.2.2) (xs ((i + 1).toNatClampNeg)) r1 er1).tb q_TB0_le)).le (Nat.le_of_ble_eq_true rfl)
  show q_Ru _ _ _ (1067, [(5, .int r0.2.1), (4, .int i), (3, .ref 270), (2, .ref 236), (1, .ref 64), (0, .ref 0)], [.int r1.2], (q_kL (q_pt 34 0 172 0 (q_pt 172 1 0 206 S r0.1) r1.1) (c + r0.2.2) (n + 6 * r0.2.2))) _
  refine q_Ru_seg (g2 := (23, [(4, .int (i + 4)), (6, .int r1.2), (5, .int r0.2.1), (3, .ref 270), (2, .ref 236), (1, .ref 64), (0, .ref 0)], [], (q_kL (q_pt 34 0 172 0 (q_pt 172 1 0 206 S r0.1) r1.1) (c + r0.2.2) (n + 6 * r0.2.2)))) 4 (fun _ _ => rfl) ?_
  exact q_Ru_xt (q_xt_mk (q_mn1 0 rfl (q_mn1 3 rfl (q_mn1 4 rfl (q_mn1 5 rfl (q_mn1 6 rfl q_mn0))))) rfl) h
set_option maxHeartbeats 4000000 in
theorem q_lw28 (z L : Nat) (xs : Nat → Int32) (S : q_S) (c n : Nat) (i : Int32) (hx0 : q_in i L = true) (hx1 : q_in (i + 1) L = true) (hx2 : q_in (i + 2) L = true) (hx3 : q_in (i + 3) L = true) (hi : decide (Int32.ofNat L - 4 < i) = false) (hv : xs i.toNatClampNeg &&& 63 = 28) (r0 : q_S × Int32 × Nat) (er0 : dz_X20_64_236 (q_vw 172 0 206 S) (xs ((i + 1).toNatClampNeg)) = some r0) (r1 : q_S × Int32) (er1 : dz_M300_64 (q_vw 34 172 0 (q_pt 172 1 0 206 S r0.1)) (xs ((i + 1).toNatClampNeg)) = r1) {o : q_Out} (h : q_Ru (q_TBs z L xs) 20 376 (23, [(4, .int (i + 4)), (3, .ref 270), (2, .ref 236), (1, .ref 64), (0, .ref 0)], [], (q_kL (q_pt 34 0 172 0 (q_pt 172 1 0 206 S r0.1) r1.1) (c + r0.2.2) (n + 6 * r0.2.2))) o) : q_Ru (q_TBs z L xs) 20 376 (23, [(4, .int i), (3, .ref 270), (2, .ref 236), (1, .ref 64), (0, .ref 0)], [], (q_kL S c n)) o := by
  refine q_Ru_seg (g2 := (29, [(4, .int i), (3, .ref 270), (2, .ref 236), (1, .ref 64), (0, .ref 0)], [.int ((Int32.ofNat L) - 4), .int i], (q_kL S c n))) 5 (fun _ _ => rfl) ?_
  refine q_Ru_rsF (g2 := (32, [(4, .int i), (3, .ref 270), (2, .ref 236), (1, .ref 64), (0, .ref 0)], [], (q_kL S c n))) rfl rfl hi ?_
  refine q_Ru_seg (g2 := (35, [(4, .int i), (3, .ref 270), (2, .ref 236), (1, .ref 64), (0, .ref 0)], [.int i, .ref 0], (q_kL S c n))) 2 (fun _ _ => rfl) ?_
  refine q_Ru_rsT (g2 := (36, [(4, .int i), (3, .ref 270), (2, .ref 236), (1, .ref 64), (0, .ref 0)], [.int (xs (i.toNatClampNeg))], (q_kL S c n))) rfl rfl hx0 ?_
  refine q_Ru_seg (g2 := (39, [(4, .int i), (3, .ref 270), (2, .ref 236), (1, .ref 64), (0, .ref 0)], [.int ((xs (i.toNatClampNeg)) &&& 63)], (q_kL S c n))) 2 (fun _ _ => rfl) ?_
  rw [hv]
  refine q_Ru_seg (g2 := (1078, [(4, .int i), (3, .ref 270), (2, .ref 236), (1, .ref 64), (0, .ref 0)], [.int (i + 1), .ref 0, .ref 64], (q_kL S c n))) 6 (fun _ _ => rfl) ?_
  refine q_Ru_rsT (g2 := (1079, [(4, .int i), (3, .ref 270), (2, .ref 236), (1, .ref 64), (0, .ref 0)], [.int (xs ((i + 1).toNatClampNeg)), .ref 64], (q_kL S c n))) rfl rfl hx1 ?_
  refine q_Ru_seg (g2 := (1080, [(4, .int i), (3, .ref 270), (2, .ref 236), (1, .ref 64), (0, .ref 0)], [.ref 270, .int (xs ((i + 1).toNatClampNeg)), .ref 64], (q_kL S c n))) 1 (fun _ _ => rfl) ?_
  refine q_Ru_call (v := (some (.int r0.2.1))) (h2 := (q_kL (q_pt 172 1 0 206 S r0.1) (c + r0.2.2) (n + 6 * r0.2.2))) rfl rfl ?_ ?_
  · exact (q_emXL rfl (fun _ => rfl) (dzt_X20_64_236 z L xs (q_vw 172 0 206 S) c n (xs ((i + 1).toNatClampNeg)) r0 er0)).le (Nat.le_of_ble_eq_true rfl)
  show q_Ru _ _ _ (1083, [(4, .int i), (3, .ref 270), (2, .ref 236), (1, .ref 64), (0, .ref 0)], [.int r0.2.1], (q_kL (q_pt 172 1 0 206 S r0.1) (c + r0.2.2) (n + 6 * r0.2.2))) _
  refine q_Ru_seg (g2 := (1091, [(5, .int r0.2.1), (4, .int i), (3, .ref 270), (2, .ref 236), (1, .ref 64), (0, .ref 0)], [.int (i + 1), .ref 0, .ref 236], (q_kL (q_pt 172 1 0 206 S r0.1) (c + r0.2.2) (n + 6 * r0.2.2)))) 6 (fun _ _ => rfl) ?_
  refine q_Ru_rsT (g2 := (1092, [(5, .int r0.2.1), (4, .int i), (3, .ref 270), (2, .ref 236), (1, .ref 64), (0, .ref 0)], [.int (xs ((i + 1).toNatClampNeg)), .ref 236], (q_kL (q_pt 172 1 0 206 S r0.1) (c + r0.2.2) (n + 6 * r0.2.2)))) rfl rfl hx1 ?_
  refine q_Ru_call (v := (some (.int r1.2))) (h2 := (q_kL (q_pt 34 0 172 0 (q_pt 172 1 0 206 S r0.1) r1.1) (c + r0.2.2) (n + 6 * r0.2.2))) rfl rfl ?_ ?_
  · exact (q_emML rfl (fun _ => rfl) ((q_cE (φ := (q_oIM (c + r0.2.2) (n + 6 * r0.2.2))) er1 (dzt_M300_64 (q_vw 34 172 0 (q_pt 172 1 0 206 S r0.1)) (c + r0.2.2) (n + 6 * r0.2.2) (xs ((i + 1).toNatClampNeg)))).tb q_TB0_le)).le (Nat.le_of_ble_eq_true rfl)
  show q_Ru _ _ _ (1095, [(5, .int r0.2.1), (4, .int i), (3, .ref 270), (2, .ref 236), (1, .ref 64), (0, .ref 0)], [.int r1.2], (q_kL (q_pt 34 0 172 0 (q_pt 172 1 0 206 S r0.1) r1.1) (c + r0.2.2) (n + 6 * r0.2.2))) _
  refine q_Ru_seg (g2 := (23, [(4, .int (i + 4)), (6, .int r1.2), (5, .int r0.2.1), (3, .ref 270), (2, .ref 236), (1, .ref 64), (0, .ref 0)], [], (q_kL (q_pt 34 0 172 0 (q_pt 172 1 0 206 S r0.1) r1.1) (c + r0.2.2) (n + 6 * r0.2.2)))) 4 (fun _ _ => rfl) ?_
  exact q_Ru_xt (q_xt_mk (q_mn1 0 rfl (q_mn1 3 rfl (q_mn1 4 rfl (q_mn1 5 rfl (q_mn1 6 rfl q_mn0))))) rfl) h
set_option maxHeartbeats 4000000 in
theorem q_lw29 (z L : Nat) (xs : Nat → Int32) (S : q_S) (c n : Nat) (i : Int32) (hx0 : q_in i L = true) (hx1 : q_in (i + 1) L = true) (hx2 : q_in (i + 2) L = true) (hx3 : q_in (i + 3) L = true) (hi : decide (Int32.ofNat L - 4 < i) = false) (hv : xs i.toNatClampNeg &&& 63 = 29) (r0 : q_S × Int32 × Nat) (er0 : dz_X21_64_236 (q_vw 172 0 206 S) (xs ((i + 1).toNatClampNeg)) = some r0) (r1 : q_S × Int32) (er1 : dz_M301_64 (q_vw 34 172 0 (q_pt 172 1 0 206 S r0.1)) (xs ((i + 1).toNatClampNeg)) = some r1) {o : q_Out} (h : q_Ru (q_TBs z L xs) 20 376 (23, [(4, .int (i + 4)), (3, .ref 270), (2, .ref 236), (1, .ref 64), (0, .ref 0)], [], (q_kL (q_pt 34 0 172 0 (q_pt 172 1 0 206 S r0.1) r1.1) (c + r0.2.2) (n + 6 * r0.2.2))) o) : q_Ru (q_TBs z L xs) 20 376 (23, [(4, .int i), (3, .ref 270), (2, .ref 236), (1, .ref 64), (0, .ref 0)], [], (q_kL S c n)) o := by
  refine q_Ru_seg (g2 := (29, [(4, .int i), (3, .ref 270), (2, .ref 236), (1, .ref 64), (0, .ref 0)], [.int ((Int32.ofNat L) - 4), .int i], (q_kL S c n))) 5 (fun _ _ => rfl) ?_
  refine q_Ru_rsF (g2 := (32, [(4, .int i), (3, .ref 270), (2, .ref 236), (1, .ref 64), (0, .ref 0)], [], (q_kL S c n))) rfl rfl hi ?_
  refine q_Ru_seg (g2 := (35, [(4, .int i), (3, .ref 270), (2, .ref 236), (1, .ref 64), (0, .ref 0)], [.int i, .ref 0], (q_kL S c n))) 2 (fun _ _ => rfl) ?_
  refine q_Ru_rsT (g2 := (36, [(4, .int i), (3, .ref 270), (2, .ref 236), (1, .ref 64), (0, .ref 0)], [.int (xs (i.toNatClampNeg))], (q_kL S c n))) rfl rfl hx0 ?_
  refine q_Ru_seg (g2 := (39, [(4, .int i), (3, .ref 270), (2, .ref 236), (1, .ref 64), (0, .ref 0)], [.int ((xs (i.toNatClampNeg)) &&& 63)], (q_kL S c n))) 2 (fun _ _ => rfl) ?_
  rw [hv]
  refine q_Ru_seg (g2 := (1106, [(4, .int i), (3, .ref 270), (2, .ref 236), (1, .ref 64), (0, .ref 0)], [.int (i + 1), .ref 0, .ref 64], (q_kL S c n))) 6 (fun _ _ => rfl) ?_
  refine q_Ru_rsT (g2 := (1107, [(4, .int i), (3, .ref 270), (2, .ref 236), (1, .ref 64), (0, .ref 0)], [.int (xs ((i + 1).toNatClampNeg)), .ref 64], (q_kL S c n))) rfl rfl hx1 ?_
  refine q_Ru_seg (g2 := (1108, [(4, .int i), (3, .ref 270), (2, .ref 236), (1, .ref 64), (0, .ref 0)], [.ref 270, .int (xs ((i + 1).toNatClampNeg)), .ref 64], (q_kL S c n))) 1 (fun _ _ => rfl) ?_
  refine q_Ru_call (v := (some (.int r0.2.1))) (h2 := (q_kL (q_pt 172 1 0 206 S r0.1) (c + r0.2.2) (n + 6 * r0.2.2))) rfl rfl ?_ ?_
  · exact (q_emXL rfl (fun _ => rfl) (dzt_X21_64_236 z L xs (q_vw 172 0 206 S) c n (xs ((i + 1).toNatClampNeg)) r0 er0)).le (Nat.le_of_ble_eq_true rfl)
  show q_Ru _ _ _ (1111, [(4, .int i), (3, .ref 270), (2, .ref 236), (1, .ref 64), (0, .ref 0)], [.int r0.2.1], (q_kL (q_pt 172 1 0 206 S r0.1) (c + r0.2.2) (n + 6 * r0.2.2))) _
  refine q_Ru_seg (g2 := (1119, [(5, .int r0.2.1), (4, .int i), (3, .ref 270), (2, .ref 236), (1, .ref 64), (0, .ref 0)], [.int (i + 1), .ref 0, .ref 236], (q_kL (q_pt 172 1 0 206 S r0.1) (c + r0.2.2) (n + 6 * r0.2.2)))) 6 (fun _ _ => rfl) ?_
  refine q_Ru_rsT (g2 := (1120, [(5, .int r0.2.1), (4, .int i), (3, .ref 270), (2, .ref 236), (1, .ref 64), (0, .ref 0)], [.int (xs ((i + 1).toNatClampNeg)), .ref 236], (q_kL (q_pt 172 1 0 206 S r0.1) (c + r0.2.2) (n + 6 * r0.2.2)))) rfl rfl hx1 ?_
  refine q_Ru_call (v := (some (.int r1.2))) (h2 := (q_kL (q_pt 34 0 172 0 (q_pt 172 1 0 206 S r0.1) r1.1) (c + r0.2.2) (n + 6 * r0.2.2))) rfl rfl ?_ ?_
  · exact (q_emML rfl (fun _ => rfl) ((dzt_M301_64 (q_vw 34 172 0 (q_pt 172 1 0 206 S r0.1)) (c + r0.2.2) (n + 6 * r0.2.2) (xs ((i + 1).toNatClampNeg)) r1 er1).tb q_TB0_le)).le (Nat.le_of_ble_eq_true rfl)
  show q_Ru _ _ _ (1123, [(5, .int r0.2.1), (4, .int i), (3, .ref 270), (2, .ref 236), (1, .ref 64), (0, .ref 0)], [.int r1.2], (q_kL (q_pt 34 0 172 0 (q_pt 172 1 0 206 S r0.1) r1.1) (c + r0.2.2) (n + 6 * r0.2.2))) _
  refine q_Ru_seg (g2 := (23, [(4, .int (i + 4)), (6, .int r1.2), (5, .int r0.2.1), (3, .ref 270), (2, .ref 236), (1, .ref 64), (0, .ref 0)], [], (q_kL (q_pt 34 0 172 0 (q_pt 172 1 0 206 S r0.1) r1.1) (c + r0.2.2) (n + 6 * r0.2.2)))) 4 (fun _ _ => rfl) ?_
  exact q_Ru_xt (q_xt_mk (q_mn1 0 rfl (q_mn1 3 rfl (q_mn1 4 rfl (q_mn1 5 rfl (q_mn1 6 rfl q_mn0))))) rfl) h
set_option maxHeartbeats 4000000 in
theorem q_lw30 (z L : Nat) (xs : Nat → Int32) (S : q_S) (c n : Nat) (i : Int32) (hx0 : q_in i L = true) (hx1 : q_in (i + 1) L = true) (hx2 : q_in (i + 2) L = true) (hx3 : q_in (i + 3) L = true) (hi : decide (Int32.ofNat L - 4 < i) = false) (hv : xs i.toNatClampNeg &&& 63 = 30) (r0 : q_S × Int32) (er0 : dz_X58_64 (q_vw 172 0 206 S) = some r0) (r1 : q_S × Int32) (er1 : dz_M302_64 (q_vw 34 172 0 (q_pt 172 1 0 206 S r0.1)) = r1) {o : q_Out} (h : q_Ru (q_TBs z L xs) 20 376 (23, [(4, .int (i + 4)), (3, .ref 270), (2, .ref 236), (1, .ref 64), (0, .ref 0)], [], (q_kL (q_pt 34 0 172 0 (q_pt 172 1 0 206 S r0.1) r1.1) c n)) o) : q_Ru (q_TBs z L xs) 20 376 (23, [(4, .int i), (3, .ref 270), (2, .ref 236), (1, .ref 64), (0, .ref 0)], [], (q_kL S c n)) o := by
  refine q_Ru_seg (g2 := (29, [(4, .int i), (3, .ref 270), (2, .ref 236), (1, .ref 64), (0, .ref 0)], [.int ((Int32.ofNat L) - 4), .int i], (q_kL S c n))) 5 (fun _ _ => rfl) ?_
  refine q_Ru_rsF (g2 := (32, [(4, .int i), (3, .ref 270), (2, .ref 236), (1, .ref 64), (0, .ref 0)], [], (q_kL S c n))) rfl rfl hi ?_
  refine q_Ru_seg (g2 := (35, [(4, .int i), (3, .ref 270), (2, .ref 236), (1, .ref 64), (0, .ref 0)], [.int i, .ref 0], (q_kL S c n))) 2 (fun _ _ => rfl) ?_
  refine q_Ru_rsT (g2 := (36, [(4, .int i), (3, .ref 270), (2, .ref 236), (1, .ref 64), (0, .ref 0)], [.int (xs (i.toNatClampNeg))], (q_kL S c n))) rfl rfl hx0 ?_
  refine q_Ru_seg (g2 := (39, [(4, .int i), (3, .ref 270), (2, .ref 236), (1, .ref 64), (0, .ref 0)], [.int ((xs (i.toNatClampNeg)) &&& 63)], (q_kL S c n))) 2 (fun _ _ => rfl) ?_
  rw [hv]
  refine q_Ru_seg (g2 := (1129, [(4, .int i), (3, .ref 270), (2, .ref 236), (1, .ref 64), (0, .ref 0)], [.ref 64], (q_kL S c n))) 2 (fun _ _ => rfl) ?_
  refine q_Ru_call (v := (some (.int r0.2))) (h2 := (q_kL (q_pt 172 1 0 206 S r0.1) c n)) rfl rfl ?_ ?_
  · exact (q_emXL rfl (fun _ => rfl) (dzt_X58_64 z L xs (q_vw 172 0 206 S) c n r0 er0)).le (Nat.le_of_ble_eq_true rfl)
  show q_Ru _ _ _ (1132, [(4, .int i), (3, .ref 270), (2, .ref 236), (1, .ref 64), (0, .ref 0)], [.int r0.2], (q_kL (q_pt 172 1 0 206 S r0.1) c n)) _
  refine q_Ru_seg (g2 := (1134, [(4, .int i), (3, .ref 270), (2, .ref 236), (1, .ref 64), (0, .ref 0)], [.ref 236], (q_kL (q_pt 172 1 0 206 S r0.1) c n))) 2 (fun _ _ => rfl) ?_
  refine q_Ru_call (v := (some (.int r1.2))) (h2 := (q_kL (q_pt 34 0 172 0 (q_pt 172 1 0 206 S r0.1) r1.1) c n)) rfl rfl ?_ ?_
  · exact (q_emML rfl (fun _ => rfl) ((q_cE (φ := (q_oIM c n)) er1 (dzt_M302_64 (q_vw 34 172 0 (q_pt 172 1 0 206 S r0.1)) c n)).tb q_TB0_le)).le (Nat.le_of_ble_eq_true rfl)
  show q_Ru _ _ _ (1137, [(4, .int i), (3, .ref 270), (2, .ref 236), (1, .ref 64), (0, .ref 0)], [.int r1.2], (q_kL (q_pt 34 0 172 0 (q_pt 172 1 0 206 S r0.1) r1.1) c n)) _
  refine q_Ru_seg (g2 := (23, [(4, .int (i + 4)), (3, .ref 270), (2, .ref 236), (1, .ref 64), (0, .ref 0)], [], (q_kL (q_pt 34 0 172 0 (q_pt 172 1 0 206 S r0.1) r1.1) c n))) 4 (fun _ _ => rfl) ?_
  exact q_Ru_xt (q_xt_mk (q_mn1 0 rfl (q_mn1 1 rfl (q_mn1 2 rfl (q_mn1 3 rfl (q_mn1 4 rfl q_mn0))))) rfl) h
set_option maxHeartbeats 4000000 in
theorem q_lw31 (z L : Nat) (xs : Nat → Int32) (S : q_S) (c n : Nat) (i : Int32) (hx0 : q_in i L = true) (hx1 : q_in (i + 1) L = true) (hx2 : q_in (i + 2) L = true) (hx3 : q_in (i + 3) L = true) (hi : decide (Int32.ofNat L - 4 < i) = false) (hv : xs i.toNatClampNeg &&& 63 = 31) (r0 : q_S × Int32) (er0 : dz_M303_64 (q_vw 34 172 0 S) = r0) {o : q_Out} (h : q_Ru (q_TBs z L xs) 20 376 (23, [(4, .int (i + 4)), (3, .ref 270), (2, .ref 236), (1, .ref 64), (0, .ref 0)], [], (q_kL (q_pt 34 0 172 0 S r0.1) c n)) o) : q_Ru (q_TBs z L xs) 20 376 (23, [(4, .int i), (3, .ref 270), (2, .ref 236), (1, .ref 64), (0, .ref 0)], [], (q_kL S c n)) o := by
  refine q_Ru_seg (g2 := (29, [(4, .int i), (3, .ref 270), (2, .ref 236), (1, .ref 64), (0, .ref 0)], [.int ((Int32.ofNat L) - 4), .int i], (q_kL S c n))) 5 (fun _ _ => rfl) ?_
  refine q_Ru_rsF (g2 := (32, [(4, .int i), (3, .ref 270), (2, .ref 236), (1, .ref 64), (0, .ref 0)], [], (q_kL S c n))) rfl rfl hi ?_
  refine q_Ru_seg (g2 := (35, [(4, .int i), (3, .ref 270), (2, .ref 236), (1, .ref 64), (0, .ref 0)], [.int i, .ref 0], (q_kL S c n))) 2 (fun _ _ => rfl) ?_
  refine q_Ru_rsT (g2 := (36, [(4, .int i), (3, .ref 270), (2, .ref 236), (1, .ref 64), (0, .ref 0)], [.int (xs (i.toNatClampNeg))], (q_kL S c n))) rfl rfl hx0 ?_
  refine q_Ru_seg (g2 := (39, [(4, .int i), (3, .ref 270), (2, .ref 236), (1, .ref 64), (0, .ref 0)], [.int ((xs (i.toNatClampNeg)) &&& 63)], (q_kL S c n))) 2 (fun _ _ => rfl) ?_
  rw [hv]
  refine q_Ru_seg (g2 := (1142, [(4, .int i), (3, .ref 270), (2, .ref 236), (1, .ref 64), (0, .ref 0)], [.ref 64], (q_kL S c n))) 2 (fun _ _ => rfl) ?_
  refine q_Ru_call (v := (some (.int (dz_X59_64 (q_vw 172 0 206 S))))) (h2 := (q_kL S c n)) rfl rfl ?_ ?_
  · exact (q_emXLp rfl (fun _ => rfl) (dzt_X59_64 z L xs (q_vw 172 0 206 S) c n)).le (Nat.le_of_ble_eq_true rfl)
  show q_Ru _ _ _ (1145, [(4, .int i), (3, .ref 270), (2, .ref 236), (1, .ref 64), (0, .ref 0)], [.int (dz_X59_64 (q_vw 172 0 206 S))], (q_kL S c n)) _
  refine q_Ru_seg (g2 := (1147, [(4, .int i), (3, .ref 270), (2, .ref 236), (1, .ref 64), (0, .ref 0)], [.ref 236], (q_kL S c n))) 2 (fun _ _ => rfl) ?_
  refine q_Ru_call (v := (some (.int r0.2))) (h2 := (q_kL (q_pt 34 0 172 0 S r0.1) c n)) rfl rfl ?_ ?_
  · exact (q_emML rfl (fun _ => rfl) ((q_cE (φ := (q_oIM c n)) er0 (dzt_M303_64 (q_vw 34 172 0 S) c n)).tb q_TB0_le)).le (Nat.le_of_ble_eq_true rfl)
  show q_Ru _ _ _ (1150, [(4, .int i), (3, .ref 270), (2, .ref 236), (1, .ref 64), (0, .ref 0)], [.int r0.2], (q_kL (q_pt 34 0 172 0 S r0.1) c n)) _
  refine q_Ru_seg (g2 := (23, [(4, .int (i + 4)), (3, .ref 270), (2, .ref 236), (1, .ref 64), (0, .ref 0)], [], (q_kL (q_pt 34 0 172 0 S r0.1) c n))) 4 (fun _ _ => rfl) ?_
  exact q_Ru_xt (q_xt_mk (q_mn1 0 rfl (q_mn1 1 rfl (q_mn1 2 rfl (q_mn1 3 rfl (q_mn1 4 rfl q_mn0))))) rfl) h
set_option maxHeartbeats 4000000 in
theorem q_lw32 (z L : Nat) (xs : Nat → Int32) (S : q_S) (c n : Nat) (i : Int32) (hx0 : q_in i L = true) (hx1 : q_in (i + 1) L = true) (hx2 : q_in (i + 2) L = true) (hx3 : q_in (i + 3) L = true) (hi : decide (Int32.ofNat L - 4 < i) = false) (hv : xs i.toNatClampNeg &&& 63 = 32) (r0 : q_S × Int32 × Nat) (er0 : dz_X22_64_236 (q_vw 172 0 206 S) = some r0) (r1 : q_S × Int32) (er1 : dz_M306_64 (q_vw 34 172 0 (q_pt 172 1 0 206 S r0.1)) = some r1) {o : q_Out} (h : q_Ru (q_TBs z L xs) 20 376 (23, [(4, .int (i + 4)), (3, .ref 270), (2, .ref 236), (1, .ref 64), (0, .ref 0)], [], (q_kL (q_pt 34 0 172 0 (q_pt 172 1 0 206 S r0.1) r1.1) (c + r0.2.2) (n + 6 * r0.2.2))) o) : q_Ru (q_TBs z L xs) 20 376 (23, [(4, .int i), (3, .ref 270), (2, .ref 236), (1, .ref 64), (0, .ref 0)], [], (q_kL S c n)) o := by
  refine q_Ru_seg (g2 := (29, [(4, .int i), (3, .ref 270), (2, .ref 236), (1, .ref 64), (0, .ref 0)], [.int ((Int32.ofNat L) - 4), .int i], (q_kL S c n))) 5 (fun _ _ => rfl) ?_
  refine q_Ru_rsF (g2 := (32, [(4, .int i), (3, .ref 270), (2, .ref 236), (1, .ref 64), (0, .ref 0)], [], (q_kL S c n))) rfl rfl hi ?_
  refine q_Ru_seg (g2 := (35, [(4, .int i), (3, .ref 270), (2, .ref 236), (1, .ref 64), (0, .ref 0)], [.int i, .ref 0], (q_kL S c n))) 2 (fun _ _ => rfl) ?_
  refine q_Ru_rsT (g2 := (36, [(4, .int i), (3, .ref 270), (2, .ref 236), (1, .ref 64), (0, .ref 0)], [.int (xs (i.toNatClampNeg))], (q_kL S c n))) rfl rfl hx0 ?_
  refine q_Ru_seg (g2 := (39, [(4, .int i), (3, .ref 270), (2, .ref 236), (1, .ref 64), (0, .ref 0)], [.int ((xs (i.toNatClampNeg)) &&& 63)], (q_kL S c n))) 2 (fun _ _ => rfl) ?_
  rw [hv]
  refine q_Ru_seg (g2 := (1156, [(4, .int i), (3, .ref 270), (2, .ref 236), (1, .ref 64), (0, .ref 0)], [.ref 270, .ref 64], (q_kL S c n))) 3 (fun _ _ => rfl) ?_
  refine q_Ru_call (v := (some (.int r0.2.1))) (h2 := (q_kL (q_pt 172 1 0 206 S r0.1) (c + r0.2.2) (n + 6 * r0.2.2))) rfl rfl ?_ ?_
  · exact (q_emXL rfl (fun _ => rfl) (dzt_X22_64_236 z L xs (q_vw 172 0 206 S) c n r0 er0)).le (Nat.le_of_ble_eq_true rfl)
  show q_Ru _ _ _ (1159, [(4, .int i), (3, .ref 270), (2, .ref 236), (1, .ref 64), (0, .ref 0)], [.int r0.2.1], (q_kL (q_pt 172 1 0 206 S r0.1) (c + r0.2.2) (n + 6 * r0.2.2))) _
  refine q_Ru_seg (g2 := (1162, [(5, .int r0.2.1), (4, .int i), (3, .ref 270), (2, .ref 236), (1, .ref 64), (0, .ref 0)], [.ref 236], (q_kL (q_pt 172 1 0 206 S r0.1) (c + r0.2.2) (n + 6 * r0.2.2)))) 2 (fun _ _ => rfl) ?_
  refine q_Ru_call (v := (some (.int r1.2))) (h2 := (q_kL (q_pt 34 0 172 0 (q_pt 172 1 0 206 S r0.1) r1.1) (c + r0.2.2) (n + 6 * r0.2.2))) rfl rfl ?_ ?_
  · exact (q_emML rfl (fun _ => rfl) ((dzt_M306_64 (q_vw 34 172 0 (q_pt 172 1 0 206 S r0.1)) (c + r0.2.2) (n + 6 * r0.2.2) r1 er1).tb q_TB0_le)).le (Nat.le_of_ble_eq_true rfl)
  show q_Ru _ _ _ (1165, [(5, .int r0.2.1), (4, .int i), (3, .ref 270), (2, .ref 236), (1, .ref 64), (0, .ref 0)], [.int r1.2], (q_kL (q_pt 34 0 172 0 (q_pt 172 1 0 206 S r0.1) r1.1) (c + r0.2.2) (n + 6 * r0.2.2))) _
  refine q_Ru_seg (g2 := (23, [(4, .int (i + 4)), (6, .int r1.2), (5, .int r0.2.1), (3, .ref 270), (2, .ref 236), (1, .ref 64), (0, .ref 0)], [], (q_kL (q_pt 34 0 172 0 (q_pt 172 1 0 206 S r0.1) r1.1) (c + r0.2.2) (n + 6 * r0.2.2)))) 4 (fun _ _ => rfl) ?_
  exact q_Ru_xt (q_xt_mk (q_mn1 0 rfl (q_mn1 3 rfl (q_mn1 4 rfl (q_mn1 5 rfl (q_mn1 6 rfl q_mn0))))) rfl) h
set_option maxHeartbeats 4000000 in
theorem q_lw33 (z L : Nat) (xs : Nat → Int32) (S : q_S) (c n : Nat) (i : Int32) (hx0 : q_in i L = true) (hx1 : q_in (i + 1) L = true) (hx2 : q_in (i + 2) L = true) (hx3 : q_in (i + 3) L = true) (hi : decide (Int32.ofNat L - 4 < i) = false) (hv : xs i.toNatClampNeg &&& 63 = 33) (r0 : q_S × Int32 × Nat) (er0 : dz_X23_64_236 (q_vw 172 0 206 S) (xs ((i + 1).toNatClampNeg)) = some r0) (r1 : q_S × Int32) (er1 : dz_M308_64 (q_vw 34 172 0 (q_pt 172 1 0 206 S r0.1)) (xs ((i + 1).toNatClampNeg)) = some r1) {o : q_Out} (h : q_Ru (q_TBs z L xs) 20 376 (23, [(4, .int (i + 4)), (3, .ref 270), (2, .ref 236), (1, .ref 64), (0, .ref 0)], [], (q_kL (q_pt 34 0 172 0 (q_pt 172 1 0 206 S r0.1) r1.1) (c + r0.2.2) (n + 6 * r0.2.2))) o) : q_Ru (q_TBs z L xs) 20 376 (23, [(4, .int i), (3, .ref 270), (2, .ref 236), (1, .ref 64), (0, .ref 0)], [], (q_kL S c n)) o := by
  refine q_Ru_seg (g2 := (29, [(4, .int i), (3, .ref 270), (2, .ref 236), (1, .ref 64), (0, .ref 0)], [.int ((Int32.ofNat L) - 4), .int i], (q_kL S c n))) 5 (fun _ _ => rfl) ?_
  refine q_Ru_rsF (g2 := (32, [(4, .int i), (3, .ref 270), (2, .ref 236), (1, .ref 64), (0, .ref 0)], [], (q_kL S c n))) rfl rfl hi ?_
  refine q_Ru_seg (g2 := (35, [(4, .int i), (3, .ref 270), (2, .ref 236), (1, .ref 64), (0, .ref 0)], [.int i, .ref 0], (q_kL S c n))) 2 (fun _ _ => rfl) ?_
  refine q_Ru_rsT (g2 := (36, [(4, .int i), (3, .ref 270), (2, .ref 236), (1, .ref 64), (0, .ref 0)], [.int (xs (i.toNatClampNeg))], (q_kL S c n))) rfl rfl hx0 ?_
  refine q_Ru_seg (g2 := (39, [(4, .int i), (3, .ref 270), (2, .ref 236), (1, .ref 64), (0, .ref 0)], [.int ((xs (i.toNatClampNeg)) &&& 63)], (q_kL S c n))) 2 (fun _ _ => rfl) ?_
  rw [hv]
  refine q_Ru_seg (g2 := (1176, [(4, .int i), (3, .ref 270), (2, .ref 236), (1, .ref 64), (0, .ref 0)], [.int (i + 1), .ref 0, .ref 64], (q_kL S c n))) 6 (fun _ _ => rfl) ?_
  refine q_Ru_rsT (g2 := (1177, [(4, .int i), (3, .ref 270), (2, .ref 236), (1, .ref 64), (0, .ref 0)], [.int (xs ((i + 1).toNatClampNeg)), .ref 64], (q_kL S c n))) rfl rfl hx1 ?_
  refine q_Ru_seg (g2 := (1178, [(4, .int i), (3, .ref 270), (2, .ref 236), (1, .ref 64), (0, .ref 0)], [.ref 270, .int (xs ((i + 1).toNatClampNeg)), .ref 64], (q_kL S c n))) 1 (fun _ _ => rfl) ?_
  refine q_Ru_call (v := (some (.int r0.2.1))) (h2 := (q_kL (q_pt 172 1 0 206 S r0.1) (c + r0.2.2) (n + 6 * r0.2.2))) rfl rfl ?_ ?_
  · exact (q_emXL rfl (fun _ => rfl) (dzt_X23_64_236 z L xs (q_vw 172 0 206 S) c n (xs ((i + 1).toNatClampNeg)) r0 er0)).le (Nat.le_of_ble_eq_true rfl)
  show q_Ru _ _ _ (1181, [(4, .int i), (3, .ref 270), (2, .ref 236), (1, .ref 64), (0, .ref 0)], [.int r0.2.1], (q_kL (q_pt 172 1 0 206 S r0.1) (c + r0.2.2) (n + 6 * r0.2.2))) _
  refine q_Ru_seg (g2 := (1189, [(5, .int r0.2.1), (4, .int i), (3, .ref 270), (2, .ref 236), (1, .ref 64), (0, .ref 0)], [.int (i + 1), .ref 0, .ref 236], (q_kL (q_pt 172 1 0 206 S r0.1) (c + r0.2.2) (n + 6 * r0.2.2)))) 6 (fun _ _ => rfl) ?_
  refine q_Ru_rsT (g2 := (1190, [(5, .int r0.2.1), (4, .int i), (3, .ref 270), (2, .ref 236), (1, .ref 64), (0, .ref 0)], [.int (xs ((i + 1).toNatClampNeg)), .ref 236], (q_kL (q_pt 172 1 0 206 S r0.1) (c + r0.2.2) (n + 6 * r0.2.2)))) rfl rfl hx1 ?_
  refine q_Ru_call (v := (some (.int r1.2))) (h2 := (q_kL (q_pt 34 0 172 0 (q_pt 172 1 0 206 S r0.1) r1.1) (c + r0.2.2) (n + 6 * r0.2.2))) rfl rfl ?_ ?_
  · exact (q_emML rfl (fun _ => rfl) ((dzt_M308_64 (q_vw 34 172 0 (q_pt 172 1 0 206 S r0.1)) (c + r0.2.2) (n + 6 * r0.2.2) (xs ((i + 1).toNatClampNeg)) r1 er1).tb q_TB0_le)).le (Nat.le_of_ble_eq_true rfl)
  show q_Ru _ _ _ (1193, [(5, .int r0.2.1), (4, .int i), (3, .ref 270), (2, .ref 236), (1, .ref 64), (0, .ref 0)], [.int r1.2], (q_kL (q_pt 34 0 172 0 (q_pt 172 1 0 206 S r0.1) r1.1) (c + r0.2.2) (n + 6 * r0.2.2))) _
  refine q_Ru_seg (g2 := (23, [(4, .int (i + 4)), (6, .int r1.2), (5, .int r0.2.1), (3, .ref 270), (2, .ref 236), (1, .ref 64), (0, .ref 0)], [], (q_kL (q_pt 34 0 172 0 (q_pt 172 1 0 206 S r0.1) r1.1) (c + r0.2.2) (n + 6 * r0.2.2)))) 4 (fun _ _ => rfl) ?_
  exact q_Ru_xt (q_xt_mk (q_mn1 0 rfl (q_mn1 3 rfl (q_mn1 4 rfl (q_mn1 5 rfl (q_mn1 6 rfl q_mn0))))) rfl) h
set_option maxHeartbeats 4000000 in
theorem q_lw34 (z L : Nat) (xs : Nat → Int32) (S : q_S) (c n : Nat) (i : Int32) (hx0 : q_in i L = true) (hx1 : q_in (i + 1) L = true) (hx2 : q_in (i + 2) L = true) (hx3 : q_in (i + 3) L = true) (hi : decide (Int32.ofNat L - 4 < i) = false) (hv : xs i.toNatClampNeg &&& 63 = 34) (r0 : q_S × Int32 × Nat) (er0 : dz_X24_64_236 (q_vw 172 0 206 S) (xs ((i + 1).toNatClampNeg)) = some r0) (r1 : q_S × Int32) (er1 : dz_M309_64 (q_vw 34 172 0 (q_pt 172 1 0 206 S r0.1)) (xs ((i + 1).toNatClampNeg)) = some r1) {o : q_Out} (h : q_Ru (q_TBs z L xs) 20 376 (23, [(4, .int (i + 4)), (3, .ref 270), (2, .ref 236), (1, .ref 64), (0, .ref 0)], [], (q_kL (q_pt 34 0 172 0 (q_pt 172 1 0 206 S r0.1) r1.1) (c + r0.2.2) (n + 6 * r0.2.2))) o) : q_Ru (q_TBs z L xs) 20 376 (23, [(4, .int i), (3, .ref 270), (2, .ref 236), (1, .ref 64), (0, .ref 0)], [], (q_kL S c n)) o := by
  refine q_Ru_seg (g2 := (29, [(4, .int i), (3, .ref 270), (2, .ref 236), (1, .ref 64), (0, .ref 0)], [.int ((Int32.ofNat L) - 4), .int i], (q_kL S c n))) 5 (fun _ _ => rfl) ?_
  refine q_Ru_rsF (g2 := (32, [(4, .int i), (3, .ref 270), (2, .ref 236), (1, .ref 64), (0, .ref 0)], [], (q_kL S c n))) rfl rfl hi ?_
  refine q_Ru_seg (g2 := (35, [(4, .int i), (3, .ref 270), (2, .ref 236), (1, .ref 64), (0, .ref 0)], [.int i, .ref 0], (q_kL S c n))) 2 (fun _ _ => rfl) ?_
  refine q_Ru_rsT (g2 := (36, [(4, .int i), (3, .ref 270), (2, .ref 236), (1, .ref 64), (0, .ref 0)], [.int (xs (i.toNatClampNeg))], (q_kL S c n))) rfl rfl hx0 ?_
  refine q_Ru_seg (g2 := (39, [(4, .int i), (3, .ref 270), (2, .ref 236), (1, .ref 64), (0, .ref 0)], [.int ((xs (i.toNatClampNeg)) &&& 63)], (q_kL S c n))) 2 (fun _ _ => rfl) ?_
  rw [hv]
  refine q_Ru_seg (g2 := (1204, [(4, .int i), (3, .ref 270), (2, .ref 236), (1, .ref 64), (0, .ref 0)], [.int (i + 1), .ref 0, .ref 64], (q_kL S c n))) 6 (fun _ _ => rfl) ?_
  refine q_Ru_rsT (g2 := (1205, [(4, .int i), (3, .ref 270), (2, .ref 236), (1, .ref 64), (0, .ref 0)], [.int (xs ((i + 1).toNatClampNeg)), .ref 64], (q_kL S c n))) rfl rfl hx1 ?_
  refine q_Ru_seg (g2 := (1206, [(4, .int i), (3, .ref 270), (2, .ref 236), (1, .ref 64), (0, .ref 0)], [.ref 270, .int (xs ((i + 1).toNatClampNeg)), .ref 64], (q_kL S c n))) 1 (fun _ _ => rfl) ?_
  refine q_Ru_call (v := (some (.int r0.2.1))) (h2 := (q_kL (q_pt 172 1 0 206 S r0.1) (c + r0.2.2) (n + 6 * r0.2.2))) rfl rfl ?_ ?_
  · exact (q_emXL rfl (fun _ => rfl) (dzt_X24_64_236 z L xs (q_vw 172 0 206 S) c n (xs ((i + 1).toNatClampNeg)) r0 er0)).le (Nat.le_of_ble_eq_true rfl)
  show q_Ru _ _ _ (1209, [(4, .int i), (3, .ref 270), (2, .ref 236), (1, .ref 64), (0, .ref 0)], [.int r0.2.1], (q_kL (q_pt 172 1 0 206 S r0.1) (c + r0.2.2) (n + 6 * r0.2.2))) _
  refine q_Ru_seg (g2 := (1217, [(5, .int r0.2.1), (4, .int i), (3, .ref 270), (2, .ref 236), (1, .ref 64), (0, .ref 0)], [.int (i + 1), .ref 0, .ref 236], (q_kL (q_pt 172 1 0 206 S r0.1) (c + r0.2.2) (n + 6 * r0.2.2)))) 6 (fun _ _ => rfl) ?_
  refine q_Ru_rsT (g2 := (1218, [(5, .int r0.2.1), (4, .int i), (3, .ref 270), (2, .ref 236), (1, .ref 64), (0, .ref 0)], [.int (xs ((i + 1).toNatClampNeg)), .ref 236], (q_kL (q_pt 172 1 0 206 S r0.1) (c + r0.2.2) (n + 6 * r0.2.2)))) rfl rfl hx1 ?_
  refine q_Ru_call (v := (some (.int r1.2))) (h2 := (q_kL (q_pt 34 0 172 0 (q_pt 172 1 0 206 S r0.1) r1.1) (c + r0.2.2) (n + 6 * r0.2.2))) rfl rfl ?_ ?_
  · exact (q_emML rfl (fun _ => rfl) ((dzt_M309_64 (q_vw 34 172 0 (q_pt 172 1 0 206 S r0.1)) (c + r0.2.2) (n + 6 * r0.2.2) (xs ((i + 1).toNatClampNeg)) r1 er1).tb q_TB0_le)).le (Nat.le_of_ble_eq_true rfl)
  show q_Ru _ _ _ (1221, [(5, .int r0.2.1), (4, .int i), (3, .ref 270), (2, .ref 236), (1, .ref 64), (0, .ref 0)], [.int r1.2], (q_kL (q_pt 34 0 172 0 (q_pt 172 1 0 206 S r0.1) r1.1) (c + r0.2.2) (n + 6 * r0.2.2))) _
  refine q_Ru_seg (g2 := (23, [(4, .int (i + 4)), (6, .int r1.2), (5, .int r0.2.1), (3, .ref 270), (2, .ref 236), (1, .ref 64), (0, .ref 0)], [], (q_kL (q_pt 34 0 172 0 (q_pt 172 1 0 206 S r0.1) r1.1) (c + r0.2.2) (n + 6 * r0.2.2)))) 4 (fun _ _ => rfl) ?_
  exact q_Ru_xt (q_xt_mk (q_mn1 0 rfl (q_mn1 3 rfl (q_mn1 4 rfl (q_mn1 5 rfl (q_mn1 6 rfl q_mn0))))) rfl) h
set_option maxHeartbeats 4000000 in
theorem q_lw35 (z L : Nat) (xs : Nat → Int32) (S : q_S) (c n : Nat) (i : Int32) (hx0 : q_in i L = true) (hx1 : q_in (i + 1) L = true) (hx2 : q_in (i + 2) L = true) (hx3 : q_in (i + 3) L = true) (hi : decide (Int32.ofNat L - 4 < i) = false) (hv : xs i.toNatClampNeg &&& 63 = 35) (r0 : q_S × Int32) (er0 : dz_X63_64 (q_vw 172 0 206 S) = some r0) (r1 : q_S × Int32) (er1 : dz_M310_64 (q_vw 34 172 0 (q_pt 172 1 0 206 S r0.1)) = r1) {o : q_Out} (h : q_Ru (q_TBs z L xs) 20 376 (23, [(4, .int (i + 4)), (3, .ref 270), (2, .ref 236), (1, .ref 64), (0, .ref 0)], [], (q_kL (q_pt 34 0 172 0 (q_pt 172 1 0 206 S r0.1) r1.1) c n)) o) : q_Ru (q_TBs z L xs) 20 376 (23, [(4, .int i), (3, .ref 270), (2, .ref 236), (1, .ref 64), (0, .ref 0)], [], (q_kL S c n)) o := by
  refine q_Ru_seg (g2 := (29, [(4, .int i), (3, .ref 270), (2, .ref 236), (1, .ref 64), (0, .ref 0)], [.int ((Int32.ofNat L) - 4), .int i], (q_kL S c n))) 5 (fun _ _ => rfl) ?_
  refine q_Ru_rsF (g2 := (32, [(4, .int i), (3, .ref 270), (2, .ref 236), (1, .ref 64), (0, .ref 0)], [], (q_kL S c n))) rfl rfl hi ?_
  refine q_Ru_seg (g2 := (35, [(4, .int i), (3, .ref 270), (2, .ref 236), (1, .ref 64), (0, .ref 0)], [.int i, .ref 0], (q_kL S c n))) 2 (fun _ _ => rfl) ?_
  refine q_Ru_rsT (g2 := (36, [(4, .int i), (3, .ref 270), (2, .ref 236), (1, .ref 64), (0, .ref 0)], [.int (xs (i.toNatClampNeg))], (q_kL S c n))) rfl rfl hx0 ?_
  refine q_Ru_seg (g2 := (39, [(4, .int i), (3, .ref 270), (2, .ref 236), (1, .ref 64), (0, .ref 0)], [.int ((xs (i.toNatClampNeg)) &&& 63)], (q_kL S c n))) 2 (fun _ _ => rfl) ?_
  rw [hv]
  refine q_Ru_seg (g2 := (1227, [(4, .int i), (3, .ref 270), (2, .ref 236), (1, .ref 64), (0, .ref 0)], [.ref 64], (q_kL S c n))) 2 (fun _ _ => rfl) ?_
  refine q_Ru_call (v := (some (.int r0.2))) (h2 := (q_kL (q_pt 172 1 0 206 S r0.1) c n)) rfl rfl ?_ ?_
  · exact (q_emXL rfl (fun _ => rfl) (dzt_X63_64 z L xs (q_vw 172 0 206 S) c n r0 er0)).le (Nat.le_of_ble_eq_true rfl)
  show q_Ru _ _ _ (1230, [(4, .int i), (3, .ref 270), (2, .ref 236), (1, .ref 64), (0, .ref 0)], [.int r0.2], (q_kL (q_pt 172 1 0 206 S r0.1) c n)) _
  refine q_Ru_seg (g2 := (1232, [(4, .int i), (3, .ref 270), (2, .ref 236), (1, .ref 64), (0, .ref 0)], [.ref 236], (q_kL (q_pt 172 1 0 206 S r0.1) c n))) 2 (fun _ _ => rfl) ?_
  refine q_Ru_call (v := (some (.int r1.2))) (h2 := (q_kL (q_pt 34 0 172 0 (q_pt 172 1 0 206 S r0.1) r1.1) c n)) rfl rfl ?_ ?_
  · exact (q_emML rfl (fun _ => rfl) ((q_cE (φ := (q_oIM c n)) er1 (dzt_M310_64 (q_vw 34 172 0 (q_pt 172 1 0 206 S r0.1)) c n)).tb q_TB0_le)).le (Nat.le_of_ble_eq_true rfl)
  show q_Ru _ _ _ (1235, [(4, .int i), (3, .ref 270), (2, .ref 236), (1, .ref 64), (0, .ref 0)], [.int r1.2], (q_kL (q_pt 34 0 172 0 (q_pt 172 1 0 206 S r0.1) r1.1) c n)) _
  refine q_Ru_seg (g2 := (23, [(4, .int (i + 4)), (3, .ref 270), (2, .ref 236), (1, .ref 64), (0, .ref 0)], [], (q_kL (q_pt 34 0 172 0 (q_pt 172 1 0 206 S r0.1) r1.1) c n))) 4 (fun _ _ => rfl) ?_
  exact q_Ru_xt (q_xt_mk (q_mn1 0 rfl (q_mn1 1 rfl (q_mn1 2 rfl (q_mn1 3 rfl (q_mn1 4 rfl q_mn0))))) rfl) h
set_option maxHeartbeats 4000000 in
theorem q_lw36 (z L : Nat) (xs : Nat → Int32) (S : q_S) (c n : Nat) (i : Int32) (hx0 : q_in i L = true) (hx1 : q_in (i + 1) L = true) (hx2 : q_in (i + 2) L = true) (hx3 : q_in (i + 3) L = true) (hi : decide (Int32.ofNat L - 4 < i) = false) (hv : xs i.toNatClampNeg &&& 63 = 36) (r0 : q_S × Int32 × Nat) (er0 : dz_X25_64_236 (q_vw 172 0 206 S) = r0) (r1 : q_S × Int32) (er1 : dz_M311_64 (q_vw 34 172 0 (q_pt 172 1 0 206 S r0.1)) = r1) {o : q_Out} (h : q_Ru (q_TBs z L xs) 20 376 (23, [(4, .int (i + 4)), (3, .ref 270), (2, .ref 236), (1, .ref 64), (0, .ref 0)], [], (q_kL (q_pt 34 0 172 0 (q_pt 172 1 0 206 S r0.1) r1.1) (c + r0.2.2) (n + 6 * r0.2.2))) o) : q_Ru (q_TBs z L xs) 20 376 (23, [(4, .int i), (3, .ref 270), (2, .ref 236), (1, .ref 64), (0, .ref 0)], [], (q_kL S c n)) o := by
  refine q_Ru_seg (g2 := (29, [(4, .int i), (3, .ref 270), (2, .ref 236), (1, .ref 64), (0, .ref 0)], [.int ((Int32.ofNat L) - 4), .int i], (q_kL S c n))) 5 (fun _ _ => rfl) ?_
  refine q_Ru_rsF (g2 := (32, [(4, .int i), (3, .ref 270), (2, .ref 236), (1, .ref 64), (0, .ref 0)], [], (q_kL S c n))) rfl rfl hi ?_
  refine q_Ru_seg (g2 := (35, [(4, .int i), (3, .ref 270), (2, .ref 236), (1, .ref 64), (0, .ref 0)], [.int i, .ref 0], (q_kL S c n))) 2 (fun _ _ => rfl) ?_
  refine q_Ru_rsT (g2 := (36, [(4, .int i), (3, .ref 270), (2, .ref 236), (1, .ref 64), (0, .ref 0)], [.int (xs (i.toNatClampNeg))], (q_kL S c n))) rfl rfl hx0 ?_
  refine q_Ru_seg (g2 := (39, [(4, .int i), (3, .ref 270), (2, .ref 236), (1, .ref 64), (0, .ref 0)], [.int ((xs (i.toNatClampNeg)) &&& 63)], (q_kL S c n))) 2 (fun _ _ => rfl) ?_
  rw [hv]
  refine q_Ru_seg (g2 := (1241, [(4, .int i), (3, .ref 270), (2, .ref 236), (1, .ref 64), (0, .ref 0)], [.ref 270, .ref 64], (q_kL S c n))) 3 (fun _ _ => rfl) ?_
  refine q_Ru_call (v := (some (.int r0.2.1))) (h2 := (q_kL (q_pt 172 1 0 206 S r0.1) (c + r0.2.2) (n + 6 * r0.2.2))) rfl rfl ?_ ?_
  · exact (q_emXL rfl (fun _ => rfl) (q_cE (φ := (q_oEX c n)) er0 (dzt_X25_64_236 z L xs (q_vw 172 0 206 S) c n))).le (Nat.le_of_ble_eq_true rfl)
  show q_Ru _ _ _ (1244, [(4, .int i), (3, .ref 270), (2, .ref 236), (1, .ref 64), (0, .ref 0)], [.int r0.2.1], (q_kL (q_pt 172 1 0 206 S r0.1) (c + r0.2.2) (n + 6 * r0.2.2))) _
  refine q_Ru_seg (g2 := (1247, [(5, .int r0.2.1), (4, .int i), (3, .ref 270), (2, .ref 236), (1, .ref 64), (0, .ref 0)], [.ref 236], (q_kL (q_pt 172 1 0 206 S r0.1) (c + r0.2.2) (n + 6 * r0.2.2)))) 2 (fun _ _ => rfl) ?_
  refine q_Ru_call (v := (some (.int r1.2))) (h2 := (q_kL (q_pt 34 0 172 0 (q_pt 172 1 0 206 S r0.1) r1.1) (c + r0.2.2) (n + 6 * r0.2.2))) rfl rfl ?_ ?_
  · exact (q_emML rfl (fun _ => rfl) ((q_cE (φ := (q_oIM (c + r0.2.2) (n + 6 * r0.2.2))) er1 (dzt_M311_64 (q_vw 34 172 0 (q_pt 172 1 0 206 S r0.1)) (c + r0.2.2) (n + 6 * r0.2.2))).tb q_TB0_le)).le (Nat.le_of_ble_eq_true rfl)
  show q_Ru _ _ _ (1250, [(5, .int r0.2.1), (4, .int i), (3, .ref 270), (2, .ref 236), (1, .ref 64), (0, .ref 0)], [.int r1.2], (q_kL (q_pt 34 0 172 0 (q_pt 172 1 0 206 S r0.1) r1.1) (c + r0.2.2) (n + 6 * r0.2.2))) _
  refine q_Ru_seg (g2 := (23, [(4, .int (i + 4)), (6, .int r1.2), (5, .int r0.2.1), (3, .ref 270), (2, .ref 236), (1, .ref 64), (0, .ref 0)], [], (q_kL (q_pt 34 0 172 0 (q_pt 172 1 0 206 S r0.1) r1.1) (c + r0.2.2) (n + 6 * r0.2.2)))) 4 (fun _ _ => rfl) ?_
  exact q_Ru_xt (q_xt_mk (q_mn1 0 rfl (q_mn1 3 rfl (q_mn1 4 rfl (q_mn1 5 rfl (q_mn1 6 rfl q_mn0))))) rfl) h
set_option maxHeartbeats 4000000 in
theorem q_lw37 (z L : Nat) (xs : Nat → Int32) (S : q_S) (c n : Nat) (i : Int32) (hx0 : q_in i L = true) (hx1 : q_in (i + 1) L = true) (hx2 : q_in (i + 2) L = true) (hx3 : q_in (i + 3) L = true) (hi : decide (Int32.ofNat L - 4 < i) = false) (hv : xs i.toNatClampNeg &&& 63 = 37) (r0 : q_S × Int32 × Nat) (er0 : dz_X26_64_236 (q_vw 172 0 206 S) = some r0) (r1 : q_S × Bool) (er1 : dz_M312_64 (q_vw 34 172 0 (q_pt 172 1 0 206 S r0.1)) = r1) {o : q_Out} (h : q_Ru (q_TBs z L xs) 20 376 (23, [(4, .int (i + 4)), (3, .ref 270), (2, .ref 236), (1, .ref 64), (0, .ref 0)], [], (q_kL (q_pt 34 0 172 0 (q_pt 172 1 0 206 S r0.1) r1.1) (c + r0.2.2) (n + 6 * r0.2.2))) o) : q_Ru (q_TBs z L xs) 20 376 (23, [(4, .int i), (3, .ref 270), (2, .ref 236), (1, .ref 64), (0, .ref 0)], [], (q_kL S c n)) o := by
  refine q_Ru_seg (g2 := (29, [(4, .int i), (3, .ref 270), (2, .ref 236), (1, .ref 64), (0, .ref 0)], [.int ((Int32.ofNat L) - 4), .int i], (q_kL S c n))) 5 (fun _ _ => rfl) ?_
  refine q_Ru_rsF (g2 := (32, [(4, .int i), (3, .ref 270), (2, .ref 236), (1, .ref 64), (0, .ref 0)], [], (q_kL S c n))) rfl rfl hi ?_
  refine q_Ru_seg (g2 := (35, [(4, .int i), (3, .ref 270), (2, .ref 236), (1, .ref 64), (0, .ref 0)], [.int i, .ref 0], (q_kL S c n))) 2 (fun _ _ => rfl) ?_
  refine q_Ru_rsT (g2 := (36, [(4, .int i), (3, .ref 270), (2, .ref 236), (1, .ref 64), (0, .ref 0)], [.int (xs (i.toNatClampNeg))], (q_kL S c n))) rfl rfl hx0 ?_
  refine q_Ru_seg (g2 := (39, [(4, .int i), (3, .ref 270), (2, .ref 236), (1, .ref 64), (0, .ref 0)], [.int ((xs (i.toNatClampNeg)) &&& 63)], (q_kL S c n))) 2 (fun _ _ => rfl) ?_
  rw [hv]
  refine q_Ru_seg (g2 := (1257, [(4, .int i), (3, .ref 270), (2, .ref 236), (1, .ref 64), (0, .ref 0)], [.ref 270, .ref 64], (q_kL S c n))) 3 (fun _ _ => rfl) ?_
  refine q_Ru_call (v := (some (.int r0.2.1))) (h2 := (q_kL (q_pt 172 1 0 206 S r0.1) (c + r0.2.2) (n + 6 * r0.2.2))) rfl rfl ?_ ?_
  · exact (q_emXL rfl (fun _ => rfl) (dzt_X26_64_236 z L xs (q_vw 172 0 206 S) c n r0 er0)).le (Nat.le_of_ble_eq_true rfl)
  show q_Ru _ _ _ (1260, [(4, .int i), (3, .ref 270), (2, .ref 236), (1, .ref 64), (0, .ref 0)], [.int r0.2.1], (q_kL (q_pt 172 1 0 206 S r0.1) (c + r0.2.2) (n + 6 * r0.2.2))) _
  refine q_Ru_seg (g2 := (1263, [(5, .int r0.2.1), (4, .int i), (3, .ref 270), (2, .ref 236), (1, .ref 64), (0, .ref 0)], [.ref 236], (q_kL (q_pt 172 1 0 206 S r0.1) (c + r0.2.2) (n + 6 * r0.2.2)))) 2 (fun _ _ => rfl) ?_
  refine q_Ru_call (v := (some (.int (q_b r1.2)))) (h2 := (q_kL (q_pt 34 0 172 0 (q_pt 172 1 0 206 S r0.1) r1.1) (c + r0.2.2) (n + 6 * r0.2.2))) rfl rfl ?_ ?_
  · exact (q_emML rfl (fun _ => rfl) ((q_cE (φ := (q_oJM (c + r0.2.2) (n + 6 * r0.2.2))) er1 (dzt_M312_64 (q_vw 34 172 0 (q_pt 172 1 0 206 S r0.1)) (c + r0.2.2) (n + 6 * r0.2.2))).tb q_TB0_le)).le (Nat.le_of_ble_eq_true rfl)
  show q_Ru _ _ _ (1266, [(5, .int r0.2.1), (4, .int i), (3, .ref 270), (2, .ref 236), (1, .ref 64), (0, .ref 0)], [.int (q_b r1.2)], (q_kL (q_pt 34 0 172 0 (q_pt 172 1 0 206 S r0.1) r1.1) (c + r0.2.2) (n + 6 * r0.2.2))) _
  refine q_Ru_seg (g2 := (23, [(4, .int (i + 4)), (6, .int (q_b r1.2)), (5, .int r0.2.1), (3, .ref 270), (2, .ref 236), (1, .ref 64), (0, .ref 0)], [], (q_kL (q_pt 34 0 172 0 (q_pt 172 1 0 206 S r0.1) r1.1) (c + r0.2.2) (n + 6 * r0.2.2)))) 4 (fun _ _ => rfl) ?_
  exact q_Ru_xt (q_xt_mk (q_mn1 0 rfl (q_mn1 3 rfl (q_mn1 4 rfl (q_mn1 5 rfl (q_mn1 6 rfl q_mn0))))) rfl) h
set_option maxHeartbeats 4000000 in
theorem q_lw38 (z L : Nat) (xs : Nat → Int32) (S : q_S) (c n : Nat) (i : Int32) (hx0 : q_in i L = true) (hx1 : q_in (i + 1) L = true) (hx2 : q_in (i + 2) L = true) (hx3 : q_in (i + 3) L = true) (hi : decide (Int32.ofNat L - 4 < i) = false) (hv : xs i.toNatClampNeg &&& 63 = 38) (r0 : Int32) (er0 : dz_X66_64 (q_vw 172 0 206 S) = some r0) (r1 : q_S × Int32) (er1 : dz_M313_64 (q_vw 34 172 0 S) = some r1) {o : q_Out} (h : q_Ru (q_TBs z L xs) 20 376 (23, [(4, .int (i + 4)), (3, .ref 270), (2, .ref 236), (1, .ref 64), (0, .ref 0)], [], (q_kL (q_pt 34 0 172 0 S r1.1) c n)) o) : q_Ru (q_TBs z L xs) 20 376 (23, [(4, .int i), (3, .ref 270), (2, .ref 236), (1, .ref 64), (0, .ref 0)], [], (q_kL S c n)) o := by
  refine q_Ru_seg (g2 := (29, [(4, .int i), (3, .ref 270), (2, .ref 236), (1, .ref 64), (0, .ref 0)], [.int ((Int32.ofNat L) - 4), .int i], (q_kL S c n))) 5 (fun _ _ => rfl) ?_
  refine q_Ru_rsF (g2 := (32, [(4, .int i), (3, .ref 270), (2, .ref 236), (1, .ref 64), (0, .ref 0)], [], (q_kL S c n))) rfl rfl hi ?_
  refine q_Ru_seg (g2 := (35, [(4, .int i), (3, .ref 270), (2, .ref 236), (1, .ref 64), (0, .ref 0)], [.int i, .ref 0], (q_kL S c n))) 2 (fun _ _ => rfl) ?_
  refine q_Ru_rsT (g2 := (36, [(4, .int i), (3, .ref 270), (2, .ref 236), (1, .ref 64), (0, .ref 0)], [.int (xs (i.toNatClampNeg))], (q_kL S c n))) rfl rfl hx0 ?_
  refine q_Ru_seg (g2 := (39, [(4, .int i), (3, .ref 270), (2, .ref 236), (1, .ref 64), (0, .ref 0)], [.int ((xs (i.toNatClampNeg)) &&& 63)], (q_kL S c n))) 2 (fun _ _ => rfl) ?_
  rw [hv]
  refine q_Ru_seg (g2 := (1272, [(4, .int i), (3, .ref 270), (2, .ref 236), (1, .ref 64), (0, .ref 0)], [.ref 64], (q_kL S c n))) 2 (fun _ _ => rfl) ?_
  refine q_Ru_call (v := (some (.int r0))) (h2 := (q_kL S c n)) rfl rfl ?_ ?_
  · exact (q_emXLp rfl (fun _ => rfl) (dzt_X66_64 z L xs (q_vw 172 0 206 S) c n r0 er0)).le (Nat.le_of_ble_eq_true rfl)
  show q_Ru _ _ _ (1275, [(4, .int i), (3, .ref 270), (2, .ref 236), (1, .ref 64), (0, .ref 0)], [.int r0], (q_kL S c n)) _
  refine q_Ru_seg (g2 := (1277, [(4, .int i), (3, .ref 270), (2, .ref 236), (1, .ref 64), (0, .ref 0)], [.ref 236], (q_kL S c n))) 2 (fun _ _ => rfl) ?_
  refine q_Ru_call (v := (some (.int r1.2))) (h2 := (q_kL (q_pt 34 0 172 0 S r1.1) c n)) rfl rfl ?_ ?_
  · exact (q_emML rfl (fun _ => rfl) ((dzt_M313_64 (q_vw 34 172 0 S) c n r1 er1).tb q_TB0_le)).le (Nat.le_of_ble_eq_true rfl)
  show q_Ru _ _ _ (1280, [(4, .int i), (3, .ref 270), (2, .ref 236), (1, .ref 64), (0, .ref 0)], [.int r1.2], (q_kL (q_pt 34 0 172 0 S r1.1) c n)) _
  refine q_Ru_seg (g2 := (23, [(4, .int (i + 4)), (3, .ref 270), (2, .ref 236), (1, .ref 64), (0, .ref 0)], [], (q_kL (q_pt 34 0 172 0 S r1.1) c n))) 4 (fun _ _ => rfl) ?_
  exact q_Ru_xt (q_xt_mk (q_mn1 0 rfl (q_mn1 1 rfl (q_mn1 2 rfl (q_mn1 3 rfl (q_mn1 4 rfl q_mn0))))) rfl) h
set_option maxHeartbeats 4000000 in
theorem q_lw39 (z L : Nat) (xs : Nat → Int32) (S : q_S) (c n : Nat) (i : Int32) (hx0 : q_in i L = true) (hx1 : q_in (i + 1) L = true) (hx2 : q_in (i + 2) L = true) (hx3 : q_in (i + 3) L = true) (hi : decide (Int32.ofNat L - 4 < i) = false) (hv : xs i.toNatClampNeg &&& 63 = 39) (r0 : q_S × Int64) (er0 : dz_M314_64 (q_vw 34 172 0 S) = r0) {o : q_Out} (h : q_Ru (q_TBs z L xs) 20 376 (23, [(4, .int (i + 4)), (3, .ref 270), (2, .ref 236), (1, .ref 64), (0, .ref 0)], [], (q_kL (q_pt 34 0 172 0 S r0.1) c n)) o) : q_Ru (q_TBs z L xs) 20 376 (23, [(4, .int i), (3, .ref 270), (2, .ref 236), (1, .ref 64), (0, .ref 0)], [], (q_kL S c n)) o := by
  refine q_Ru_seg (g2 := (29, [(4, .int i), (3, .ref 270), (2, .ref 236), (1, .ref 64), (0, .ref 0)], [.int ((Int32.ofNat L) - 4), .int i], (q_kL S c n))) 5 (fun _ _ => rfl) ?_
  refine q_Ru_rsF (g2 := (32, [(4, .int i), (3, .ref 270), (2, .ref 236), (1, .ref 64), (0, .ref 0)], [], (q_kL S c n))) rfl rfl hi ?_
  refine q_Ru_seg (g2 := (35, [(4, .int i), (3, .ref 270), (2, .ref 236), (1, .ref 64), (0, .ref 0)], [.int i, .ref 0], (q_kL S c n))) 2 (fun _ _ => rfl) ?_
  refine q_Ru_rsT (g2 := (36, [(4, .int i), (3, .ref 270), (2, .ref 236), (1, .ref 64), (0, .ref 0)], [.int (xs (i.toNatClampNeg))], (q_kL S c n))) rfl rfl hx0 ?_
  refine q_Ru_seg (g2 := (39, [(4, .int i), (3, .ref 270), (2, .ref 236), (1, .ref 64), (0, .ref 0)], [.int ((xs (i.toNatClampNeg)) &&& 63)], (q_kL S c n))) 2 (fun _ _ => rfl) ?_
  rw [hv]
  refine q_Ru_seg (g2 := (1285, [(4, .int i), (3, .ref 270), (2, .ref 236), (1, .ref 64), (0, .ref 0)], [.ref 64], (q_kL S c n))) 2 (fun _ _ => rfl) ?_
  refine q_Ru_call (v := (some (.long (dz_X67_64 (q_vw 172 0 206 S))))) (h2 := (q_kL S c n)) rfl rfl ?_ ?_
  · exact (q_emXLp rfl (fun _ => rfl) (dzt_X67_64 z L xs (q_vw 172 0 206 S) c n)).le (Nat.le_of_ble_eq_true rfl)
  show q_Ru _ _ _ (1288, [(4, .int i), (3, .ref 270), (2, .ref 236), (1, .ref 64), (0, .ref 0)], [.long (dz_X67_64 (q_vw 172 0 206 S))], (q_kL S c n)) _
  refine q_Ru_seg (g2 := (1290, [(4, .int i), (3, .ref 270), (2, .ref 236), (1, .ref 64), (0, .ref 0)], [.ref 236], (q_kL S c n))) 2 (fun _ _ => rfl) ?_
  refine q_Ru_call (v := (some (.long r0.2))) (h2 := (q_kL (q_pt 34 0 172 0 S r0.1) c n)) rfl rfl ?_ ?_
  · exact (q_emML rfl (fun _ => rfl) ((q_cE (φ := (q_oKM c n)) er0 (dzt_M314_64 (q_vw 34 172 0 S) c n)).tb q_TB0_le)).le (Nat.le_of_ble_eq_true rfl)
  show q_Ru _ _ _ (1293, [(4, .int i), (3, .ref 270), (2, .ref 236), (1, .ref 64), (0, .ref 0)], [.long r0.2], (q_kL (q_pt 34 0 172 0 S r0.1) c n)) _
  refine q_Ru_seg (g2 := (23, [(4, .int (i + 4)), (3, .ref 270), (2, .ref 236), (1, .ref 64), (0, .ref 0)], [], (q_kL (q_pt 34 0 172 0 S r0.1) c n))) 4 (fun _ _ => rfl) ?_
  exact q_Ru_xt (q_xt_mk (q_mn1 0 rfl (q_mn1 1 rfl (q_mn1 2 rfl (q_mn1 3 rfl (q_mn1 4 rfl q_mn0))))) rfl) h
set_option maxHeartbeats 4000000 in
theorem q_lw40 (z L : Nat) (xs : Nat → Int32) (S : q_S) (c n : Nat) (i : Int32) (hx0 : q_in i L = true) (hx1 : q_in (i + 1) L = true) (hx2 : q_in (i + 2) L = true) (hx3 : q_in (i + 3) L = true) (hi : decide (Int32.ofNat L - 4 < i) = false) (hv : xs i.toNatClampNeg &&& 63 = 40) (r0 : UInt32) (er0 : dz_X68_64 (q_vw 172 0 206 S) = some r0) (r1 : q_S × UInt32) (er1 : dz_M315_64 (q_vw 34 172 0 S) = some r1) (hn0 : q_nnd (FP.f2d r0) = true) (hn1 : q_nnd (FP.f2d r1.2) = true) {o : q_Out} (h : q_Ru (q_TBs z L xs) 20 376 (23, [(4, .int (i + 4)), (3, .ref 270), (2, .ref 236), (1, .ref 64), (0, .ref 0)], [], (q_kL (q_pt 34 0 172 0 S r1.1) c n)) o) : q_Ru (q_TBs z L xs) 20 376 (23, [(4, .int i), (3, .ref 270), (2, .ref 236), (1, .ref 64), (0, .ref 0)], [], (q_kL S c n)) o := by
  refine q_Ru_seg (g2 := (29, [(4, .int i), (3, .ref 270), (2, .ref 236), (1, .ref 64), (0, .ref 0)], [.int ((Int32.ofNat L) - 4), .int i], (q_kL S c n))) 5 (fun _ _ => rfl) ?_
  refine q_Ru_rsF (g2 := (32, [(4, .int i), (3, .ref 270), (2, .ref 236), (1, .ref 64), (0, .ref 0)], [], (q_kL S c n))) rfl rfl hi ?_
  refine q_Ru_seg (g2 := (35, [(4, .int i), (3, .ref 270), (2, .ref 236), (1, .ref 64), (0, .ref 0)], [.int i, .ref 0], (q_kL S c n))) 2 (fun _ _ => rfl) ?_
  refine q_Ru_rsT (g2 := (36, [(4, .int i), (3, .ref 270), (2, .ref 236), (1, .ref 64), (0, .ref 0)], [.int (xs (i.toNatClampNeg))], (q_kL S c n))) rfl rfl hx0 ?_
  refine q_Ru_seg (g2 := (39, [(4, .int i), (3, .ref 270), (2, .ref 236), (1, .ref 64), (0, .ref 0)], [.int ((xs (i.toNatClampNeg)) &&& 63)], (q_kL S c n))) 2 (fun _ _ => rfl) ?_
  rw [hv]
  refine q_Ru_seg (g2 := (1298, [(4, .int i), (3, .ref 270), (2, .ref 236), (1, .ref 64), (0, .ref 0)], [.ref 64], (q_kL S c n))) 2 (fun _ _ => rfl) ?_
  refine q_Ru_call (v := (some (.float r0))) (h2 := (q_kL S c n)) rfl rfl ?_ ?_
  · exact (q_emXLp rfl (fun _ => rfl) (dzt_X68_64 z L xs (q_vw 172 0 206 S) c n r0 er0)).le (Nat.le_of_ble_eq_true rfl)
  show q_Ru _ _ _ (1301, [(4, .int i), (3, .ref 270), (2, .ref 236), (1, .ref 64), (0, .ref 0)], [.float r0], (q_kL S c n)) _
  refine q_Ru_st1 (g2 := (1302, [(4, .int i), (3, .ref 270), (2, .ref 236), (1, .ref 64), (0, .ref 0)], [.double (FP.f2d r0)], (q_kL S c n))) rfl (q_f2dv hn0) ?_
  refine q_Ru_seg (g2 := (1305, [(5, .double (FP.f2d r0)), (4, .int i), (3, .ref 270), (2, .ref 236), (1, .ref 64), (0, .ref 0)], [.ref 236], (q_kL S c n))) 2 (fun _ _ => rfl) ?_
  refine q_Ru_call (v := (some (.float r1.2))) (h2 := (q_kL (q_pt 34 0 172 0 S r1.1) c n)) rfl rfl ?_ ?_
  · exact (q_emML rfl (fun _ => rfl) ((dzt_M315_64 (q_vw 34 172 0 S) c n r1 er1).tb q_TB0_le)).le (Nat.le_of_ble_eq_true rfl)
  show q_Ru _ _ _ (1308, [(5, .double (FP.f2d r0)), (4, .int i), (3, .ref 270), (2, .ref 236), (1, .ref 64), (0, .ref 0)], [.float r1.2], (q_kL (q_pt 34 0 172 0 S r1.1) c n)) _
  refine q_Ru_st1 (g2 := (1309, [(5, .double (FP.f2d r0)), (4, .int i), (3, .ref 270), (2, .ref 236), (1, .ref 64), (0, .ref 0)], [.double (FP.f2d r1.2)], (q_kL (q_pt 34 0 172 0 S r1.1) c n))) rfl (q_f2dv hn1) ?_
  refine q_Ru_seg (g2 := (23, [(4, .int (i + 4)), (7, .double (FP.f2d r1.2)), (5, .double (FP.f2d r0)), (3, .ref 270), (2, .ref 236), (1, .ref 64), (0, .ref 0)], [], (q_kL (q_pt 34 0 172 0 S r1.1) c n))) 4 (fun _ _ => rfl) ?_
  exact q_Ru_xt (q_xt_mk (q_mn1 0 rfl (q_mn1 3 rfl (q_mn1 4 rfl (q_mn1 5 rfl (q_mn1 6 rfl q_mn0))))) rfl) h
set_option maxHeartbeats 4000000 in
theorem q_lw41 (z L : Nat) (xs : Nat → Int32) (S : q_S) (c n : Nat) (i : Int32) (hx0 : q_in i L = true) (hx1 : q_in (i + 1) L = true) (hx2 : q_in (i + 2) L = true) (hx3 : q_in (i + 3) L = true) (hi : decide (Int32.ofNat L - 4 < i) = false) (hv : xs i.toNatClampNeg &&& 63 = 41) (r0 : UInt64) (er0 : dz_X69_64 (q_vw 172 0 206 S) = some r0) (r1 : q_S × UInt64) (er1 : dz_M316_64 (q_vw 34 172 0 S) = some r1) {o : q_Out} (h : q_Ru (q_TBs z L xs) 20 376 (23, [(4, .int (i + 4)), (3, .ref 270), (2, .ref 236), (1, .ref 64), (0, .ref 0)], [], (q_kL (q_pt 34 0 172 0 S r1.1) c n)) o) : q_Ru (q_TBs z L xs) 20 376 (23, [(4, .int i), (3, .ref 270), (2, .ref 236), (1, .ref 64), (0, .ref 0)], [], (q_kL S c n)) o := by
  refine q_Ru_seg (g2 := (29, [(4, .int i), (3, .ref 270), (2, .ref 236), (1, .ref 64), (0, .ref 0)], [.int ((Int32.ofNat L) - 4), .int i], (q_kL S c n))) 5 (fun _ _ => rfl) ?_
  refine q_Ru_rsF (g2 := (32, [(4, .int i), (3, .ref 270), (2, .ref 236), (1, .ref 64), (0, .ref 0)], [], (q_kL S c n))) rfl rfl hi ?_
  refine q_Ru_seg (g2 := (35, [(4, .int i), (3, .ref 270), (2, .ref 236), (1, .ref 64), (0, .ref 0)], [.int i, .ref 0], (q_kL S c n))) 2 (fun _ _ => rfl) ?_
  refine q_Ru_rsT (g2 := (36, [(4, .int i), (3, .ref 270), (2, .ref 236), (1, .ref 64), (0, .ref 0)], [.int (xs (i.toNatClampNeg))], (q_kL S c n))) rfl rfl hx0 ?_
  refine q_Ru_seg (g2 := (39, [(4, .int i), (3, .ref 270), (2, .ref 236), (1, .ref 64), (0, .ref 0)], [.int ((xs (i.toNatClampNeg)) &&& 63)], (q_kL S c n))) 2 (fun _ _ => rfl) ?_
  rw [hv]
  refine q_Ru_seg (g2 := (1315, [(4, .int i), (3, .ref 270), (2, .ref 236), (1, .ref 64), (0, .ref 0)], [.ref 64], (q_kL S c n))) 2 (fun _ _ => rfl) ?_
  refine q_Ru_call (v := (some (.double r0))) (h2 := (q_kL S c n)) rfl rfl ?_ ?_
  · exact (q_emXLp rfl (fun _ => rfl) (dzt_X69_64 z L xs (q_vw 172 0 206 S) c n r0 er0)).le (Nat.le_of_ble_eq_true rfl)
  show q_Ru _ _ _ (1318, [(4, .int i), (3, .ref 270), (2, .ref 236), (1, .ref 64), (0, .ref 0)], [.double r0], (q_kL S c n)) _
  refine q_Ru_seg (g2 := (1321, [(5, .double r0), (4, .int i), (3, .ref 270), (2, .ref 236), (1, .ref 64), (0, .ref 0)], [.ref 236], (q_kL S c n))) 2 (fun _ _ => rfl) ?_
  refine q_Ru_call (v := (some (.double r1.2))) (h2 := (q_kL (q_pt 34 0 172 0 S r1.1) c n)) rfl rfl ?_ ?_
  · exact (q_emML rfl (fun _ => rfl) ((dzt_M316_64 (q_vw 34 172 0 S) c n r1 er1).tb q_TB0_le)).le (Nat.le_of_ble_eq_true rfl)
  show q_Ru _ _ _ (1324, [(5, .double r0), (4, .int i), (3, .ref 270), (2, .ref 236), (1, .ref 64), (0, .ref 0)], [.double r1.2], (q_kL (q_pt 34 0 172 0 S r1.1) c n)) _
  refine q_Ru_seg (g2 := (23, [(4, .int (i + 4)), (7, .double r1.2), (5, .double r0), (3, .ref 270), (2, .ref 236), (1, .ref 64), (0, .ref 0)], [], (q_kL (q_pt 34 0 172 0 S r1.1) c n))) 4 (fun _ _ => rfl) ?_
  exact q_Ru_xt (q_xt_mk (q_mn1 0 rfl (q_mn1 3 rfl (q_mn1 4 rfl (q_mn1 5 rfl (q_mn1 6 rfl q_mn0))))) rfl) h
set_option maxHeartbeats 4000000 in
theorem q_lw42 (z L : Nat) (xs : Nat → Int32) (S : q_S) (c n : Nat) (i : Int32) (hx0 : q_in i L = true) (hx1 : q_in (i + 1) L = true) (hx2 : q_in (i + 2) L = true) (hx3 : q_in (i + 3) L = true) (hi : decide (Int32.ofNat L - 4 < i) = false) (hv : xs i.toNatClampNeg &&& 63 = 42) {o : q_Out} (h : q_Ru (q_TBs z L xs) 20 376 (23, [(4, .int (i + 4)), (3, .ref 270), (2, .ref 236), (1, .ref 64), (0, .ref 0)], [], (q_kL S c n)) o) : q_Ru (q_TBs z L xs) 20 376 (23, [(4, .int i), (3, .ref 270), (2, .ref 236), (1, .ref 64), (0, .ref 0)], [], (q_kL S c n)) o := by
  refine q_Ru_seg (g2 := (29, [(4, .int i), (3, .ref 270), (2, .ref 236), (1, .ref 64), (0, .ref 0)], [.int ((Int32.ofNat L) - 4), .int i], (q_kL S c n))) 5 (fun _ _ => rfl) ?_
  refine q_Ru_rsF (g2 := (32, [(4, .int i), (3, .ref 270), (2, .ref 236), (1, .ref 64), (0, .ref 0)], [], (q_kL S c n))) rfl rfl hi ?_
  refine q_Ru_seg (g2 := (35, [(4, .int i), (3, .ref 270), (2, .ref 236), (1, .ref 64), (0, .ref 0)], [.int i, .ref 0], (q_kL S c n))) 2 (fun _ _ => rfl) ?_
  refine q_Ru_rsT (g2 := (36, [(4, .int i), (3, .ref 270), (2, .ref 236), (1, .ref 64), (0, .ref 0)], [.int (xs (i.toNatClampNeg))], (q_kL S c n))) rfl rfl hx0 ?_
  refine q_Ru_seg (g2 := (39, [(4, .int i), (3, .ref 270), (2, .ref 236), (1, .ref 64), (0, .ref 0)], [.int ((xs (i.toNatClampNeg)) &&& 63)], (q_kL S c n))) 2 (fun _ _ => rfl) ?_
  rw [hv]
  refine q_Ru_seg (g2 := (23, [(4, .int (i + 4)), (3, .ref 270), (2, .ref 236), (1, .ref 64), (0, .ref 0)], [], (q_kL S c n))) 3 (fun _ _ => rfl) ?_
  exact q_Ru_xt (q_xt_mk (q_mn1 0 rfl (q_mn1 1 rfl (q_mn1 2 rfl (q_mn1 3 rfl (q_mn1 4 rfl q_mn0))))) rfl) h
end
section
-- 58.aa
section
variable {z L : Nat} {xs : Nat → Int32} {S : q_S} {c n k : Nat} {i : Int32}
/-- the next turn's head is reached -/
def q_NX (z L : Nat) (xs : Nat → Int32) (i : Int32) (S : q_S) (c n k : Nat) : Prop := ∃ S2 c2 n2, q_IV (k + 1) S2 ∧ c2 ≤ c + 1 ∧ n2 ≤ n + 6 ∧ ∀ o, q_Ru (q_TBs z L xs) 20 376 (23, [(4, .int (i + 4)), (3, .ref 270), (2, .ref 236), (1, .ref 64), (0, .ref 0)], [], (q_kL S2 c2 n2)) o → q_Ru (q_TBs z L xs) 20 376 (23, [(4, .int i), (3, .ref 270), (2, .ref 236), (1, .ref 64), (0, .ref 0)], [], (q_kL S c n)) o
def q_XS (L : Nat) (i : Int32) : Prop := q_in i L = true ∧ q_in (i + 1) L = true ∧ q_in (i + 2) L = true ∧ q_in (i + 3) L = true ∧ decide (Int32.ofNat L - 4 < i) = false
theorem q_st0 (h : q_IV k S) (hk : k < 512) (hx : q_XS L i) (hv : xs i.toNatClampNeg &&& 63 = 0) : q_NX z L xs i S c n k := by
  obtain ⟨hx0, hx1, hx2, hx3, hi⟩ := hx
  obtain ⟨r0, r1, e0, e1, hN, hE, hC, hX⟩ := q_trn (ox := (dz_X0_64_236 (q_vw 172 0 206 S) (xs ((i + 1).toNatClampNeg)) (xs ((i + 2).toNatClampNeg)))) (F := fun m => dz_M216_64 m (xs ((i + 1).toNatClampNeg)) (xs ((i + 2).toNatClampNeg))) (cv := Int32.toInt64) (ex := True) h (fun m h1 h2 => q_tPoke h1 h2 (by omega) (xs ((i + 1).toNatClampNeg)) (xs ((i + 2).toNatClampNeg))) (fun m h2 => dzj_M216_64 _ _ 40 m h2 (xs ((i + 1).toNatClampNeg)) (xs ((i + 2).toNatClampNeg))) (fun x p => q_IVup p.1)
  exact ⟨_, _, _, hN, Nat.add_le_add_left hE c, by omega, fun o ho => q_lw0 z L xs S c n i hx0 hx1 hx2 hx3 hi hv r0 e0 r1 e1 ho⟩
theorem q_st1 (h : q_IV k S) (hk : k < 512) (hx : q_XS L i) (hv : xs i.toNatClampNeg &&& 63 = 1) : q_NX z L xs i S c n k := by
  obtain ⟨hx0, hx1, hx2, hx3, hi⟩ := hx
  obtain ⟨r0, r1, e0, e1, hN, hE, hC, hX⟩ := q_trn (ox := (dz_X1_64_236 (q_vw 172 0 206 S) (xs ((i + 1).toNatClampNeg)) (xs ((i + 2).toNatClampNeg)))) (F := fun m => dz_M217_64 m (xs ((i + 1).toNatClampNeg)) (xs ((i + 2).toNatClampNeg))) (cv := Int32.toInt64) (ex := True) h (fun m h1 h2 => q_tRom h1 h2 (by omega) (xs ((i + 1).toNatClampNeg)) (xs ((i + 2).toNatClampNeg))) (fun m h2 => dzj_M217_64 _ _ 40 m h2 (xs ((i + 1).toNatClampNeg)) (xs ((i + 2).toNatClampNeg))) (fun x p => q_IVup p.1)
  exact ⟨_, _, _, hN, Nat.add_le_add_left hE c, by omega, fun o ho => q_lw1 z L xs S c n i hx0 hx1 hx2 hx3 hi hv r0 e0 r1 e1 ho⟩
theorem q_st2 (h : q_IV k S) (hk : k < 512) (hx : q_XS L i) (hv : xs i.toNatClampNeg &&& 63 = 2) : q_NX z L xs i S c n k := by
  obtain ⟨hx0, hx1, hx2, hx3, hi⟩ := hx
  obtain ⟨r0, r1, e0, e1, hN, hE, hC, hX⟩ := q_trn (ox := (dz_X2_64_236 (q_vw 172 0 206 S) (xs ((i + 1).toNatClampNeg)) (xs ((i + 2).toNatClampNeg)) (xs ((i + 3).toNatClampNeg)))) (F := fun m => dz_M218_64 m (xs ((i + 1).toNatClampNeg)) (xs ((i + 2).toNatClampNeg)) (xs ((i + 3).toNatClampNeg))) (cv := Int32.toInt64) (ex := True) h (fun m h1 h2 => q_tCar h1 h2 (by omega) (xs ((i + 1).toNatClampNeg)) (xs ((i + 2).toNatClampNeg)) (xs ((i + 3).toNatClampNeg))) (fun m h2 => dzj_M218_64 _ _ 40 m h2 (xs ((i + 1).toNatClampNeg)) (xs ((i + 2).toNatClampNeg)) (xs ((i + 3).toNatClampNeg))) (fun x p => q_IVup p.1)
  exact ⟨_, _, _, hN, Nat.add_le_add_left hE c, by omega, fun o ho => q_lw2 z L xs S c n i hx0 hx1 hx2 hx3 hi hv r0 e0 r1 e1 ho⟩
theorem q_st3 (h : q_IV k S) (hk : k < 512) (hx : q_XS L i) (hv : xs i.toNatClampNeg &&& 63 = 3) : q_NX z L xs i S c n k := by
  obtain ⟨hx0, hx1, hx2, hx3, hi⟩ := hx
  obtain ⟨r0, r1, e0, e1, hN, hE, hC, hX⟩ := q_trn (ox := (dz_X3_64_236 (q_vw 172 0 206 S) (xs ((i + 1).toNatClampNeg)))) (F := fun m => dz_M219_64 m (xs ((i + 1).toNatClampNeg))) (cv := Int32.toInt64) (ex := True) h (fun m h1 h2 => q_tPeek h1 h2 (xs ((i + 1).toNatClampNeg))) (fun m h2 => dzj_M219_64 _ _ 40 m h2 (xs ((i + 1).toNatClampNeg))) (fun x p => q_IVup p.1)
  exact ⟨_, _, _, hN, Nat.add_le_add_left hE c, by omega, fun o ho => q_lw3 z L xs S c n i hx0 hx1 hx2 hx3 hi hv r0 e0 r1 e1 ho⟩
theorem q_st4 (h : q_IV k S) (hk : k < 512) (hx : q_XS L i) (hv : xs i.toNatClampNeg &&& 63 = 4) : q_NX z L xs i S c n k := by
  obtain ⟨hx0, hx1, hx2, hx3, hi⟩ := hx
  obtain ⟨r0, r1, e0, e1, hN, hE, hC, hX⟩ := q_trn (ox := (some (dz_X4_64_236 (q_vw 172 0 206 S) (xs ((i + 1).toNatClampNeg))))) (F := fun m => dz_M220_64 m (xs ((i + 1).toNatClampNeg))) (cv := Int32.toInt64) (ex := True) h (fun m h1 h2 => q_tRam h1 h2 (xs ((i + 1).toNatClampNeg))) (fun m h2 => dzj_M220_64 _ _ 40 m h2 (xs ((i + 1).toNatClampNeg))) (fun x p => q_IVup p.1)
  have e0 := Option.some.inj e0
  exact ⟨_, _, _, hN, Nat.add_le_add_left hE c, by omega, fun o ho => q_lw4 z L xs S c n i hx0 hx1 hx2 hx3 hi hv r0 e0 r1 e1 ho⟩
theorem q_st5 (h : q_IV k S) (hk : k < 512) (hx : q_XS L i) (hv : xs i.toNatClampNeg &&& 63 = 5) : q_NX z L xs i S c n k := by
  obtain ⟨hx0, hx1, hx2, hx3, hi⟩ := hx
  obtain ⟨r0, r1, e0, e1, hN, hE, hC, hX⟩ := q_trn (ox := (dz_X5_64_236 (q_vw 172 0 206 S) (xs ((i + 1).toNatClampNeg)) (xs ((i + 2).toNatClampNeg)) (xs ((i + 3).toNatClampNeg)))) (F := fun m => dz_M279_64 m (xs ((i + 1).toNatClampNeg)) (xs ((i + 2).toNatClampNeg)) (xs ((i + 3).toNatClampNeg))) (cv := Int32.toInt64) (ex := True) h (fun m h1 h2 => q_tAsm h1 h2 (by omega) (xs ((i + 1).toNatClampNeg)) (xs ((i + 2).toNatClampNeg)) (xs ((i + 3).toNatClampNeg))) (fun m h2 => dzj_M279_64 _ _ 40 m h2 (xs ((i + 1).toNatClampNeg)) (xs ((i + 2).toNatClampNeg)) (xs ((i + 3).toNatClampNeg))) (fun x p => q_IVup p)
  exact ⟨_, _, _, hN, Nat.add_le_add_left hE c, by omega, fun o ho => q_lw5 z L xs S c n i hx0 hx1 hx2 hx3 hi hv r0 e0 r1 e1 ho⟩
theorem q_st6 (h : q_IV k S) (hk : k < 512) (hx : q_XS L i) (hv : xs i.toNatClampNeg &&& 63 = 6) : q_NX z L xs i S c n k := by
  obtain ⟨hx0, hx1, hx2, hx3, hi⟩ := hx
  obtain ⟨r0, r1, e0, e1, hN, hE, hC, hX⟩ := q_trn (ox := (dz_X6_64_236 (q_vw 172 0 206 S) (xs ((i + 1).toNatClampNeg)))) (F := fun m => dz_M286_64 m (xs ((i + 1).toNatClampNeg))) (cv := Int32.toInt64) (ex := True) h (fun m h1 h2 => q_tWl h1 h2 (xs ((i + 1).toNatClampNeg))) (fun m h2 => dzj_M286_64 _ _ 40 m h2 (xs ((i + 1).toNatClampNeg))) (fun x p => q_IVup p)
  exact ⟨_, _, _, hN, Nat.add_le_add_left hE c, by omega, fun o ho => q_lw6 z L xs S c n i hx0 hx1 hx2 hx3 hi hv r0 e0 r1 e1 ho⟩
theorem q_st7 (h : q_IV k S) (hk : k < 512) (hx : q_XS L i) (hv : xs i.toNatClampNeg &&& 63 = 7) : q_NX z L xs i S c n k := by
  obtain ⟨hx0, hx1, hx2, hx3, hi⟩ := hx
  obtain ⟨r0, r1, e0, e1, hN, hE, hC, hX⟩ := q_trn (ox := (dz_X7_64_236 (q_vw 172 0 206 S) (xs ((i + 1).toNatClampNeg)))) (F := fun m => dz_M287_64 m (xs ((i + 1).toNatClampNeg))) (cv := Int32.toInt64) (ex := True) h (fun m h1 h2 => q_tLat h1 h2 (xs ((i + 1).toNatClampNeg))) (fun m h2 => dzj_M287_64 _ _ 40 m h2 (xs ((i + 1).toNatClampNeg))) (fun x p => q_IVup p)
  exact ⟨_, _, _, hN, Nat.add_le_add_left hE c, by omega, fun o ho => q_lw7 z L xs S c n i hx0 hx1 hx2 hx3 hi hv r0 e0 r1 e1 ho⟩
theorem q_st8 (h : q_IV k S) (hk : k < 512) (hx : q_XS L i) (hv : xs i.toNatClampNeg &&& 63 = 8) : q_NX z L xs i S c n k := by
  obtain ⟨hx0, hx1, hx2, hx3, hi⟩ := hx
  obtain ⟨r0, r1, e0, e1, hN, hE, hC, hX⟩ := q_trn (ox := (dz_X8_64_236 (q_vw 172 0 206 S) (xs ((i + 1).toNatClampNeg)) (xs ((i + 2).toNatClampNeg)) (xs ((i + 3).toNatClampNeg)))) (F := fun m => dz_M221_64 m (xs ((i + 1).toNatClampNeg)) (xs ((i + 2).toNatClampNeg)) (xs ((i + 3).toNatClampNeg))) (cv := Int32.toInt64) (ex := True) h (fun m h1 h2 => q_tCmp h1 h2 (xs ((i + 1).toNatClampNeg)) (xs ((i + 2).toNatClampNeg)) (xs ((i + 3).toNatClampNeg))) (fun m h2 => dzj_M221_64 _ _ 40 m h2 (xs ((i + 1).toNatClampNeg)) (xs ((i + 2).toNatClampNeg)) (xs ((i + 3).toNatClampNeg))) (fun x p => q_IVup p.1)
  exact ⟨_, _, _, hN, Nat.add_le_add_left hE c, by omega, fun o ho => q_lw8 z L xs S c n i hx0 hx1 hx2 hx3 hi hv r0 e0 r1 e1 ho⟩
theorem q_st9 (h : q_IV k S) (hk : k < 512) (hx : q_XS L i) (hv : xs i.toNatClampNeg &&& 63 = 9) : q_NX z L xs i S c n k := by
  obtain ⟨hx0, hx1, hx2, hx3, hi⟩ := hx
  obtain ⟨r0, r1, e0, e1, hN, hE, hC, hX⟩ := q_trn (ox := (some (dz_X9_64_236 (q_vw 172 0 206 S) (xs ((i + 1).toNatClampNeg))))) (F := fun m => dz_M288_64 m (xs ((i + 1).toNatClampNeg))) (cv := Int32.toInt64) (ex := ((xs ((i + 1).toNatClampNeg)).toInt = 4 → (q_vw 172 0 206 S).2.1 24 7 = 0)) h (fun m h1 h2 => q_tGet h1 h2 (xs ((i + 1).toNatClampNeg))) (fun m h2 => dzj_M288_64 _ _ 40 m h2 (xs ((i + 1).toNatClampNeg))) (fun x p => q_IVup p)
  have e0 := Option.some.inj e0
  exact ⟨_, _, _, hN, Nat.add_le_add_left hE c, by omega, fun o ho => q_lw9 z L xs S c n i hx0 hx1 hx2 hx3 hi hv r0 e0 r1 e1 ho⟩
theorem q_st10 (h : q_IV k S) (hk : k < 512) (hx : q_XS L i) (hv : xs i.toNatClampNeg &&& 63 = 10) : q_NX z L xs i S c n k := by
  obtain ⟨hx0, hx1, hx2, hx3, hi⟩ := hx
  obtain ⟨r0, r1, e0, e1, hN, hE, hC, hX⟩ := q_trn (ox := (dz_X10_64_236 (q_vw 172 0 206 S) (xs ((i + 1).toNatClampNeg)) (xs ((i + 2).toNatClampNeg)))) (F := fun m => dz_M289_64 m (xs ((i + 1).toNatClampNeg)) (xs ((i + 2).toNatClampNeg))) (cv := Int32.toInt64) (ex := ((xs ((i + 1).toNatClampNeg)).toInt = 4 → (q_vw 172 0 206 S).2.1 24 7 = 0)) h (fun m h1 h2 => q_tReg h1 h2 (by omega) (xs ((i + 1).toNatClampNeg)) (xs ((i + 2).toNatClampNeg))) (fun m h2 => dzj_M289_64 _ _ 40 m h2 (xs ((i + 1).toNatClampNeg)) (xs ((i + 2).toNatClampNeg))) (fun x p => q_IVup p)
  exact ⟨_, _, _, hN, Nat.add_le_add_left hE c, by omega, fun o ho => q_lw10 z L xs S c n i hx0 hx1 hx2 hx3 hi hv r0 e0 r1 e1 ho⟩
theorem q_st11 (h : q_IV k S) (hk : k < 512) (hx : q_XS L i) (hv : xs i.toNatClampNeg &&& 63 = 11) : q_NX z L xs i S c n k := by
  obtain ⟨hx0, hx1, hx2, hx3, hi⟩ := hx
  have e0 := q_tSta h.1 h.2
  exact ⟨_, _, _, q_rdn h, Nat.le_add_right c 1, Nat.le_add_right n 6, fun o ho => q_lw11 z L xs S c n i hx0 hx1 hx2 hx3 hi hv _ e0 ho⟩
theorem q_st12 (h : q_IV k S) (hk : k < 512) (hx : q_XS L i) (hv : xs i.toNatClampNeg &&& 63 = 12) : q_NX z L xs i S c n k := by
  obtain ⟨hx0, hx1, hx2, hx3, hi⟩ := hx
  have hk9 : (k : Int) < 512 := by omega
  have hk8 : 0 ≤ (k : Int) := by omega
  obtain ⟨r0, r1, e0, e1, hN, hQ⟩ := q_trw (ox := dz_X40_64 (q_vw 172 0 206 S)) (F := fun m => dz_M291_64 m) (Q := fun r0 r1 => r1.1.2.1 0 39 = 0 ∧ r0.2 = r1.2) h (fun m h1 h2 => q_tRes h1 h2 hk9) (fun m h2 => dzj_M291_64 _ _ 40 m h2) (fun x p => q_IVup p)
  exact ⟨_, _, _, hN, Nat.le_add_right c 1, Nat.le_add_right n 6, fun o ho => q_lw12 z L xs S c n i hx0 hx1 hx2 hx3 hi hv r0 e0 r1 e1 ho⟩
theorem q_st13 (h : q_IV k S) (hk : k < 512) (hx : q_XS L i) (hv : xs i.toNatClampNeg &&& 63 = 13) : q_NX z L xs i S c n k := by
  obtain ⟨hx0, hx1, hx2, hx3, hi⟩ := hx
  have hk9 : (k : Int) < 512 := by omega
  have hk8 : 0 ≤ (k : Int) := by omega
  obtain ⟨r0, r1, e0, e1, hN, hQ⟩ := q_trw (ox := dz_X41_64 (q_vw 172 0 206 S)) (F := fun m => some (dz_M292_64 m)) (Q := fun r0 r1 => r1.1.2.1 0 39 = 0 ∧ r0.2 = r1.2) h (fun m h1 h2 => by
    obtain ⟨r0, r1, e0, e1, g⟩ := q_tFrz h1 h2 hk9
    exact ⟨r0, r1, e0, congrArg some e1, g⟩) (fun m h2 => q_E_x (dzj_M292_64 _ _ 40 m h2)) (fun x p => q_IVup p)
  have e1 := Option.some.inj e1
  exact ⟨_, _, _, hN, Nat.le_add_right c 1, Nat.le_add_right n 6, fun o ho => q_lw13 z L xs S c n i hx0 hx1 hx2 hx3 hi hv r0 e0 r1 e1 ho⟩
theorem q_st14 (h : q_IV k S) (hk : k < 512) (hx : q_XS L i) (hv : xs i.toNatClampNeg &&& 63 = 14) : q_NX z L xs i S c n k := by
  obtain ⟨hx0, hx1, hx2, hx3, hi⟩ := hx
  obtain ⟨r0, r1, e0, e1, hN, hE, hC, hX⟩ := q_trn (ox := (dz_X11_64_236 (q_vw 172 0 206 S) (xs ((i + 1).toNatClampNeg)))) (F := fun m => dz_M236_64 m (xs ((i + 1).toNatClampNeg))) (cv := Int32.toInt64) (ex := True) h (fun m h1 h2 => q_tRun h1 h2 (by omega) (xs ((i + 1).toNatClampNeg)) (by omega) (by omega)) (fun m h2 => dzj_M236_64 _ _ 40 ⟨by omega, by omega⟩ m h2 (xs ((i + 1).toNatClampNeg))) (fun x p => q_Iv_mono p (by omega) (by omega) (Int.le_refl _))
  exact ⟨_, _, _, hN, Nat.add_le_add_left hE c, by omega, fun o ho => q_lw14 z L xs S c n i hx0 hx1 hx2 hx3 hi hv r0 e0 r1 e1 ho⟩
theorem q_st15 (h : q_IV k S) (hk : k < 512) (hx : q_XS L i) (hv : xs i.toNatClampNeg &&& 63 = 15) : q_NX z L xs i S c n k := by
  obtain ⟨hx0, hx1, hx2, hx3, hi⟩ := hx
  obtain ⟨r0, r1, e0, e1, hN, hE, hC, hX⟩ := q_trn (ox := (dz_X12_64_236 (q_vw 172 0 206 S))) (F := fun m => dz_M237_64 m) (cv := Int32.toInt64) (ex := True) h (fun m h1 h2 => q_tStep h1 h2 (by omega) (by omega) (by omega)) (fun m h2 => dzj_M237_64 _ _ 40 ⟨by omega, by omega⟩ m h2) (fun x p => q_Iv_mono p (by omega) (by omega) (Int.le_refl _))
  exact ⟨_, _, _, hN, Nat.add_le_add_left hE c, by omega, fun o ho => q_lw15 z L xs S c n i hx0 hx1 hx2 hx3 hi hv r0 e0 r1 e1 ho⟩
theorem q_st16 (h : q_IV k S) (hk : k < 512) (hx : q_XS L i) (hv : xs i.toNatClampNeg &&& 63 = 16) : q_NX z L xs i S c n k := by
  obtain ⟨hx0, hx1, hx2, hx3, hi⟩ := hx
  have e0 := q_tCyc h.1
  exact ⟨_, _, _, q_rdn h, Nat.le_add_right c 1, Nat.le_add_right n 6, fun o ho => q_lw16 z L xs S c n i hx0 hx1 hx2 hx3 hi hv _ e0 ho⟩
theorem q_st17 (h : q_IV k S) (hk : k < 512) (hx : q_XS L i) (hv : xs i.toNatClampNeg &&& 63 = 17) : q_NX z L xs i S c n k := by
  obtain ⟨hx0, hx1, hx2, hx3, hi⟩ := hx
  obtain ⟨b, e0, e1⟩ := q_tIsP h.1 h.2
  exact ⟨_, _, _, q_rdn h, Nat.le_add_right c 1, Nat.le_add_right n 6, fun o ho => q_lw17 z L xs S c n i hx0 hx1 hx2 hx3 hi hv _ e0 _ e1 ho⟩
theorem q_st18 (h : q_IV k S) (hk : k < 512) (hx : q_XS L i) (hv : xs i.toNatClampNeg &&& 63 = 18) : q_NX z L xs i S c n k := by
  obtain ⟨hx0, hx1, hx2, hx3, hi⟩ := hx
  have e0 := q_tUnd h.1
  exact ⟨_, _, _, q_rdn h, Nat.le_add_right c 1, Nat.le_add_right n 6, fun o ho => q_lw18 z L xs S c n i hx0 hx1 hx2 hx3 hi hv _ e0 ho⟩
theorem q_st19 (h : q_IV k S) (hk : k < 512) (hx : q_XS L i) (hv : xs i.toNatClampNeg &&& 63 = 19) : q_NX z L xs i S c n k := by
  obtain ⟨hx0, hx1, hx2, hx3, hi⟩ := hx
  have e0 := q_tDon h.1
  exact ⟨_, _, _, q_rdn h, Nat.le_add_right c 1, Nat.le_add_right n 6, fun o ho => q_lw19 z L xs S c n i hx0 hx1 hx2 hx3 hi hv _ e0 ho⟩
theorem q_st20 (h : q_IV k S) (hk : k < 512) (hx : q_XS L i) (hv : xs i.toNatClampNeg &&& 63 = 20) : q_NX z L xs i S c n k := by
  obtain ⟨hx0, hx1, hx2, hx3, hi⟩ := hx
  obtain ⟨b, e0, e1⟩ := q_tJam h.1 h.2
  exact ⟨_, _, _, q_rdn h, Nat.le_add_right c 1, Nat.le_add_right n 6, fun o ho => q_lw20 z L xs S c n i hx0 hx1 hx2 hx3 hi hv _ e0 _ e1 ho⟩
theorem q_st21 (h : q_IV k S) (hk : k < 512) (hx : q_XS L i) (hv : xs i.toNatClampNeg &&& 63 = 21) : q_NX z L xs i S c n k := by
  obtain ⟨hx0, hx1, hx2, hx3, hi⟩ := hx
  obtain ⟨r0, r1, e0, e1, hN, hE, hC, hX⟩ := q_trn (ox := (some (dz_X13_64_236 (q_vw 172 0 206 S) (xs ((i + 1).toNatClampNeg))))) (F := fun m => dz_M243_64 m (xs ((i + 1).toNatClampNeg))) (cv := Int32.toInt64) (ex := True) h (fun m h1 h2 => q_tTra h1 h2 (by omega) (xs ((i + 1).toNatClampNeg))) (fun m h2 => dzj_M243_64 _ _ 40 (by omega) m h2 (xs ((i + 1).toNatClampNeg))) (fun x p => q_IVup p)
  have e0 := Option.some.inj e0
  have hT : decide (dz_M199_64 (q_vw 34 172 0 (q_pt 34 0 172 0 (q_pt 172 1 0 206 S r0.1) r1.1)) = r0.2.1) = true := decide_eq_true hC
  cases hk0 : decide (r0.2.1 = 0) with
  | false => exact ⟨_, _, _, hN, Nat.add_le_add_left hE c, by omega, fun o ho => q_lw21tf z L xs S c n i hx0 hx1 hx2 hx3 hi hv r0 e0 r1 e1 hT hk0 ho⟩
  | true =>
    have hV := hX trivial (of_decide_eq_true hk0)
    have hO : (q_pt 34 0 172 0 (q_pt 172 1 0 206 S r0.1) r1.1).2.2 206 0 = r0.1.2.2 172 0 := rfl
    exact ⟨_, _, _, hN, Nat.add_le_add_left hE c, by omega, fun o ho => q_lw21ttt z L xs S c n i hx0 hx1 hx2 hx3 hi hv r0 e0 r1 e1 hT hk0 (by
      show decide (lg_cmp (((q_pt 34 0 172 0 (q_pt 172 1 0 206 S r0.1) r1.1).2.2 206) 0) r1.2.toInt64 = 0) = true
      rw [hO, hV]
      exact q_cmp0 _) ho⟩
theorem q_st22 (h : q_IV k S) (hk : k < 512) (hx : q_XS L i) (hv : xs i.toNatClampNeg &&& 63 = 22) : q_NX z L xs i S c n k := by
  obtain ⟨hx0, hx1, hx2, hx3, hi⟩ := hx
  obtain ⟨r0, r1, e0, e1, hN, hE, hC, hX⟩ := q_trn (ox := (some (dz_X14_64_236 (q_vw 172 0 206 S) (xs ((i + 1).toNatClampNeg)) (xs ((i + 2).toNatClampNeg))))) (F := fun m => dz_M294_64 m (xs ((i + 1).toNatClampNeg)) (xs ((i + 2).toNatClampNeg))) (cv := Int32.toInt64) (ex := True) h (fun m h1 h2 => q_tPix h1 h2 (xs ((i + 1).toNatClampNeg)) (xs ((i + 2).toNatClampNeg))) (fun m h2 => dzj_M294_64 _ _ 40 m h2 (xs ((i + 1).toNatClampNeg)) (xs ((i + 2).toNatClampNeg))) (fun x p => q_IVup p)
  have e0 := Option.some.inj e0
  exact ⟨_, _, _, hN, Nat.add_le_add_left hE c, by omega, fun o ho => q_lw22 z L xs S c n i hx0 hx1 hx2 hx3 hi hv r0 e0 r1 e1 ho⟩
theorem q_st23 (h : q_IV k S) (hk : k < 512) (hx : q_XS L i) (hv : xs i.toNatClampNeg &&& 63 = 23) : q_NX z L xs i S c n k := by
  obtain ⟨hx0, hx1, hx2, hx3, hi⟩ := hx
  obtain ⟨r0, r1, e0, e1, hN, hE, hC, hX⟩ := q_trn (ox := (dz_X15_64_236 (q_vw 172 0 206 S) (xs ((i + 1).toNatClampNeg)) (xs ((i + 2).toNatClampNeg)))) (F := fun m => dz_M295_64 m (xs ((i + 1).toNatClampNeg)) (xs ((i + 2).toNatClampNeg))) (cv := Int32.toInt64) (ex := False) h (fun m h1 h2 => q_tAgn h1 h2 (xs ((i + 1).toNatClampNeg)) (xs ((i + 2).toNatClampNeg))) (fun m h2 => dzj_M295_64 _ _ 40 m h2 (xs ((i + 1).toNatClampNeg)) (xs ((i + 2).toNatClampNeg))) (fun x p => q_IVup p)
  exact ⟨_, _, _, hN, Nat.add_le_add_left hE c, by omega, fun o ho => q_lw23 z L xs S c n i hx0 hx1 hx2 hx3 hi hv r0 e0 r1 e1 ho⟩
theorem q_st24 (h : q_IV k S) (hk : k < 512) (hx : q_XS L i) (hv : xs i.toNatClampNeg &&& 63 = 24) : q_NX z L xs i S c n k := by
  obtain ⟨hx0, hx1, hx2, hx3, hi⟩ := hx
  obtain ⟨r0, r1, e0, e1, hN, hE, hC, hX⟩ := q_trn (ox := (some (dz_X16_64_236 (q_vw 172 0 206 S) (xs ((i + 1).toNatClampNeg))))) (F := fun m => dz_M296_64 m (xs ((i + 1).toNatClampNeg))) (cv := Int32.toInt64) (ex := True) h (fun m h1 h2 => q_tSmp h1 h2 (xs ((i + 1).toNatClampNeg))) (fun m h2 => dzj_M296_64 _ _ 40 m h2 (xs ((i + 1).toNatClampNeg))) (fun x p => q_IVup p)
  have e0 := Option.some.inj e0
  exact ⟨_, _, _, hN, Nat.add_le_add_left hE c, by omega, fun o ho => q_lw24 z L xs S c n i hx0 hx1 hx2 hx3 hi hv r0 e0 r1 e1 ho⟩
theorem q_st25 (h : q_IV k S) (hk : k < 512) (hx : q_XS L i) (hv : xs i.toNatClampNeg &&& 63 = 25) : q_NX z L xs i S c n k := by
  obtain ⟨hx0, hx1, hx2, hx3, hi⟩ := hx
  obtain ⟨r0, r1, e0, e1, hN, hE, hC, hX⟩ := q_trn (ox := (some (dz_X17_64_236 (q_vw 172 0 206 S) (xs ((i + 1).toNatClampNeg))))) (F := fun m => dz_M297_64 m (xs ((i + 1).toNatClampNeg))) (cv := Int32.toInt64) (ex := True) h (fun m h1 h2 => q_tLvl h1 h2 (xs ((i + 1).toNatClampNeg))) (fun m h2 => dzj_M297_64 _ _ 40 m h2 (xs ((i + 1).toNatClampNeg))) (fun x p => q_IVup p)
  have e0 := Option.some.inj e0
  exact ⟨_, _, _, hN, Nat.add_le_add_left hE c, by omega, fun o ho => q_lw25 z L xs S c n i hx0 hx1 hx2 hx3 hi hv r0 e0 r1 e1 ho⟩
theorem q_st26t (h : q_IV k S) (hk : k < 512) (hx : q_XS L i) (hv : xs i.toNatClampNeg &&& 63 = 26) (hc0 : decide (xs ((i + 3).toNatClampNeg) = 0) = true) : q_NX z L xs i S c n k := by
  obtain ⟨hx0, hx1, hx2, hx3, hi⟩ := hx
  obtain ⟨r0, r1, e0, e1, hN, hE, hC, hX⟩ := q_trn (ox := (dz_X18_64_f_236 (q_vw 172 0 206 S) (xs ((i + 1).toNatClampNeg)) (xs ((i + 2).toNatClampNeg)))) (F := fun m => dz_M298_64 m (xs ((i + 1).toNatClampNeg)) (xs ((i + 2).toNatClampNeg)) 0) (cv := q_kb) (ex := True) h (fun m h1 h2 => q_tKeyf h1 h2 (by omega) (xs ((i + 1).toNatClampNeg)) (xs ((i + 2).toNatClampNeg))) (fun m h2 => dzj_M298_64 _ _ 40 m h2 (xs ((i + 1).toNatClampNeg)) (xs ((i + 2).toNatClampNeg)) 0 ⟨by decide, by decide⟩) (fun x p => q_IVup p)
  exact ⟨_, _, _, hN, Nat.add_le_add_left hE c, by omega, fun o ho => q_lw26t z L xs S c n i hx0 hx1 hx2 hx3 hi hv r0 e0 r1 e1 hc0 ho⟩
theorem q_st26f (h : q_IV k S) (hk : k < 512) (hx : q_XS L i) (hv : xs i.toNatClampNeg &&& 63 = 26) (hc0 : decide (xs ((i + 3).toNatClampNeg) = 0) = false) : q_NX z L xs i S c n k := by
  obtain ⟨hx0, hx1, hx2, hx3, hi⟩ := hx
  obtain ⟨r0, r1, e0, e1, hN, hE, hC, hX⟩ := q_trn (ox := (dz_X18_64_t_236 (q_vw 172 0 206 S) (xs ((i + 1).toNatClampNeg)) (xs ((i + 2).toNatClampNeg)))) (F := fun m => dz_M298_64 m (xs ((i + 1).toNatClampNeg)) (xs ((i + 2).toNatClampNeg)) 1) (cv := q_kb) (ex := True) h (fun m h1 h2 => q_tKeyt h1 h2 (by omega) (xs ((i + 1).toNatClampNeg)) (xs ((i + 2).toNatClampNeg))) (fun m h2 => dzj_M298_64 _ _ 40 m h2 (xs ((i + 1).toNatClampNeg)) (xs ((i + 2).toNatClampNeg)) 1 ⟨by decide, by decide⟩) (fun x p => q_IVup p)
  exact ⟨_, _, _, hN, Nat.add_le_add_left hE c, by omega, fun o ho => q_lw26f z L xs S c n i hx0 hx1 hx2 hx3 hi hv r0 e0 r1 e1 hc0 ho⟩
theorem q_st27 (h : q_IV k S) (hk : k < 512) (hx : q_XS L i) (hv : xs i.toNatClampNeg &&& 63 = 27) : q_NX z L xs i S c n k := by
  obtain ⟨hx0, hx1, hx2, hx3, hi⟩ := hx
  obtain ⟨r0, r1, e0, e1, hN, hE, hC, hX⟩ := q_trn (ox := (some (dz_X19_64_236 (q_vw 172 0 206 S) (xs ((i + 1).toNatClampNeg))))) (F := fun m => dz_M299_64 m (xs ((i + 1).toNatClampNeg))) (cv := Int32.toInt64) (ex := True) h (fun m h1 h2 => q_tCol h1 h2 (xs ((i + 1).toNatClampNeg))) (fun m h2 => dzj_M299_64 _ _ 40 m h2 (xs ((i + 1).toNatClampNeg))) (fun x p => q_IVup p)
  have e0 := Option.some.inj e0
  exact ⟨_, _, _, hN, Nat.add_le_add_left hE c, by omega, fun o ho => q_lw27 z L xs S c n i hx0 hx1 hx2 hx3 hi hv r0 e0 r1 e1 ho⟩
theorem q_st28 (h : q_IV k S) (hk : k < 512) (hx : q_XS L i) (hv : xs i.toNatClampNeg &&& 63 = 28) : q_NX z L xs i S c n k := by
  obtain ⟨hx0, hx1, hx2, hx3, hi⟩ := hx
  obtain ⟨r0, r1, e0, e1, hN, hE, hC, hX⟩ := q_trn (ox := (dz_X20_64_236 (q_vw 172 0 206 S) (xs ((i + 1).toNatClampNeg)))) (F := fun m => some (dz_M300_64 m (xs ((i + 1).toNatClampNeg)))) (cv := Int32.toInt64) (ex := True) h (fun m h1 h2 => q_tJoy h1 h2 (by omega) (xs ((i + 1).toNatClampNeg))) (fun m h2 => q_E_x (dzj_M300_64 _ _ 40 m h2 (xs ((i + 1).toNatClampNeg)))) (fun x p => q_IVup p)
  have e1 := Option.some.inj e1
  exact ⟨_, _, _, hN, Nat.add_le_add_left hE c, by omega, fun o ho => q_lw28 z L xs S c n i hx0 hx1 hx2 hx3 hi hv r0 e0 r1 e1 ho⟩
theorem q_st29 (h : q_IV k S) (hk : k < 512) (hx : q_XS L i) (hv : xs i.toNatClampNeg &&& 63 = 29) : q_NX z L xs i S c n k := by
  obtain ⟨hx0, hx1, hx2, hx3, hi⟩ := hx
  obtain ⟨r0, r1, e0, e1, hN, hE, hC, hX⟩ := q_trn (ox := (dz_X21_64_236 (q_vw 172 0 206 S) (xs ((i + 1).toNatClampNeg)))) (F := fun m => dz_M301_64 m (xs ((i + 1).toNatClampNeg))) (cv := Int32.toInt64) (ex := True) h (fun m h1 h2 => q_tPul h1 h2 (by omega) (xs ((i + 1).toNatClampNeg))) (fun m h2 => dzj_M301_64 _ _ 40 m h2 (xs ((i + 1).toNatClampNeg))) (fun x p => q_IVup p)
  exact ⟨_, _, _, hN, Nat.add_le_add_left hE c, by omega, fun o ho => q_lw29 z L xs S c n i hx0 hx1 hx2 hx3 hi hv r0 e0 r1 e1 ho⟩
theorem q_st30 (h : q_IV k S) (hk : k < 512) (hx : q_XS L i) (hv : xs i.toNatClampNeg &&& 63 = 30) : q_NX z L xs i S c n k := by
  obtain ⟨hx0, hx1, hx2, hx3, hi⟩ := hx
  have hk9 : (k : Int) < 512 := by omega
  have hk8 : 0 ≤ (k : Int) := by omega
  obtain ⟨r0, r1, e0, e1, hN, hQ⟩ := q_trw (ox := dz_X58_64 (q_vw 172 0 206 S)) (F := fun m => some (dz_M302_64 m)) (Q := fun r0 r1 => r1.1.2.1 0 39 = 0 ∧ r0.2 = r1.2) h (fun m h1 h2 => by
    obtain ⟨r0, r1, e0, e1, g⟩ := q_tRew h1 h2 hk9
    exact ⟨r0, r1, e0, congrArg some e1, g⟩) (fun m h2 => q_E_x (dzj_M302_64 _ _ 40 m h2)) (fun x p => q_IVup p)
  have e1 := Option.some.inj e1
  exact ⟨_, _, _, hN, Nat.le_add_right c 1, Nat.le_add_right n 6, fun o ho => q_lw30 z L xs S c n i hx0 hx1 hx2 hx3 hi hv r0 e0 r1 e1 ho⟩
theorem q_st31 (h : q_IV k S) (hk : k < 512) (hx : q_XS L i) (hv : xs i.toNatClampNeg &&& 63 = 31) : q_NX z L xs i S c n k := by
  obtain ⟨hx0, hx1, hx2, hx3, hi⟩ := hx
  have e0 := q_tLft h.1
  exact ⟨_, _, _, q_rdn h, Nat.le_add_right c 1, Nat.le_add_right n 6, fun o ho => q_lw31 z L xs S c n i hx0 hx1 hx2 hx3 hi hv _ e0 ho⟩
theorem q_st32 (h : q_IV k S) (hk : k < 512) (hx : q_XS L i) (hv : xs i.toNatClampNeg &&& 63 = 32) : q_NX z L xs i S c n k := by
  obtain ⟨hx0, hx1, hx2, hx3, hi⟩ := hx
  obtain ⟨r0, r1, e0, e1, hN, hE, hC, hX⟩ := q_trn (ox := (dz_X22_64_236 (q_vw 172 0 206 S))) (F := fun m => dz_M306_64 m) (cv := Int32.toInt64) (ex := True) h (fun m h1 h2 => q_tSav h1 h2) (fun m h2 => dzj_M306_64 _ _ 40 m h2) (fun x p => q_IVup p)
  exact ⟨_, _, _, hN, Nat.add_le_add_left hE c, by omega, fun o ho => q_lw32 z L xs S c n i hx0 hx1 hx2 hx3 hi hv r0 e0 r1 e1 ho⟩
theorem q_st33 (h : q_IV k S) (hk : k < 512) (hx : q_XS L i) (hv : xs i.toNatClampNeg &&& 63 = 33) : q_NX z L xs i S c n k := by
  obtain ⟨hx0, hx1, hx2, hx3, hi⟩ := hx
  obtain ⟨r0, r1, e0, e1, hN, hE, hC, hX⟩ := q_trn (ox := (dz_X23_64_236 (q_vw 172 0 206 S) (xs ((i + 1).toNatClampNeg)))) (F := fun m => dz_M308_64 m (xs ((i + 1).toNatClampNeg))) (cv := Int32.toInt64) (ex := True) h (fun m h1 h2 => q_tRst h1 h2 (xs ((i + 1).toNatClampNeg))) (fun m h2 => dzj_M308_64 _ _ 40 m h2 (xs ((i + 1).toNatClampNeg))) (fun x p => q_IVup p)
  exact ⟨_, _, _, hN, Nat.add_le_add_left hE c, by omega, fun o ho => q_lw33 z L xs S c n i hx0 hx1 hx2 hx3 hi hv r0 e0 r1 e1 ho⟩
theorem q_st34 (h : q_IV k S) (hk : k < 512) (hx : q_XS L i) (hv : xs i.toNatClampNeg &&& 63 = 34) : q_NX z L xs i S c n k := by
  obtain ⟨hx0, hx1, hx2, hx3, hi⟩ := hx
  obtain ⟨r0, r1, e0, e1, hN, hE, hC, hX⟩ := q_trn (ox := (dz_X24_64_236 (q_vw 172 0 206 S) (xs ((i + 1).toNatClampNeg)))) (F := fun m => dz_M309_64 m (xs ((i + 1).toNatClampNeg))) (cv := Int32.toInt64) (ex := True) h (fun m h1 h2 => q_tDif h1 h2 (xs ((i + 1).toNatClampNeg))) (fun m h2 => dzj_M309_64 _ _ 40 m h2 (xs ((i + 1).toNatClampNeg))) (fun x p => q_IVup p)
  exact ⟨_, _, _, hN, Nat.add_le_add_left hE c, by omega, fun o ho => q_lw34 z L xs S c n i hx0 hx1 hx2 hx3 hi hv r0 e0 r1 e1 ho⟩
theorem q_st35 (h : q_IV k S) (hk : k < 512) (hx : q_XS L i) (hv : xs i.toNatClampNeg &&& 63 = 35) : q_NX z L xs i S c n k := by
  obtain ⟨hx0, hx1, hx2, hx3, hi⟩ := hx
  have hk9 : (k : Int) < 512 := by omega
  have hk8 : 0 ≤ (k : Int) := by omega
  obtain ⟨r0, r1, e0, e1, hN, hQ⟩ := q_trw (ox := dz_X63_64 (q_vw 172 0 206 S)) (F := fun m => some (dz_M310_64 m)) (Q := fun r0 r1 => r1.1.2.1 0 39 = 0 ∧ r0.2 = r1.2) h (fun m h1 h2 => by
    obtain ⟨r0, r1, e0, e1, g⟩ := q_tSrc h1 h2 hk8
    exact ⟨r0, r1, e0, congrArg some e1, g⟩) (fun m h2 => q_E_x (dzj_M310_64 _ _ 40 m h2)) (fun x p => q_IVup p)
  have e1 := Option.some.inj e1
  exact ⟨_, _, _, hN, Nat.le_add_right c 1, Nat.le_add_right n 6, fun o ho => q_lw35 z L xs S c n i hx0 hx1 hx2 hx3 hi hv r0 e0 r1 e1 ho⟩
theorem q_st36 (h : q_IV k S) (hk : k < 512) (hx : q_XS L i) (hv : xs i.toNatClampNeg &&& 63 = 36) : q_NX z L xs i S c n k := by
  obtain ⟨hx0, hx1, hx2, hx3, hi⟩ := hx
  obtain ⟨r0, r1, e0, e1, hN, hE, hC, hX⟩ := q_trn (ox := (some (dz_X25_64_236 (q_vw 172 0 206 S)))) (F := fun m => some (dz_M311_64 m)) (cv := Int32.toInt64) (ex := True) h (fun m h1 h2 => q_tRcd h1) (fun m h2 => q_E_x (dzj_M311_64 _ _ 40 m h2)) (fun x p => q_IVup p)
  have e0 := Option.some.inj e0
  have e1 := Option.some.inj e1
  exact ⟨_, _, _, hN, Nat.add_le_add_left hE c, by omega, fun o ho => q_lw36 z L xs S c n i hx0 hx1 hx2 hx3 hi hv r0 e0 r1 e1 ho⟩
theorem q_st37 (h : q_IV k S) (hk : k < 512) (hx : q_XS L i) (hv : xs i.toNatClampNeg &&& 63 = 37) : q_NX z L xs i S c n k := by
  obtain ⟨hx0, hx1, hx2, hx3, hi⟩ := hx
  obtain ⟨r0, r1, e0, e1, hN, hE, hC, hX⟩ := q_trn (ox := (dz_X26_64_236 (q_vw 172 0 206 S))) (F := fun m => some (dz_M312_64 m)) (cv := q_kb) (ex := False) h (fun m h1 h2 => q_tSam h1 h2 (by omega)) (fun m h2 => q_E_x (dzj_M312_64 _ _ 40 m h2)) (fun x p => q_IVup p)
  have e1 := Option.some.inj e1
  exact ⟨_, _, _, hN, Nat.add_le_add_left hE c, by omega, fun o ho => q_lw37 z L xs S c n i hx0 hx1 hx2 hx3 hi hv r0 e0 r1 e1 ho⟩
theorem q_st38 (h : q_IV k S) (hk : k < 512) (hx : q_XS L i) (hv : xs i.toNatClampNeg &&& 63 = 38) : q_NX z L xs i S c n k := by
  obtain ⟨hx0, hx1, hx2, hx3, hi⟩ := hx
  obtain ⟨r, e0, e1⟩ := q_tSum h.1
  exact ⟨_, _, _, q_rdn h, Nat.le_add_right c 1, Nat.le_add_right n 6, fun o ho => q_lw38 z L xs S c n i hx0 hx1 hx2 hx3 hi hv _ e0 _ e1 ho⟩
end
end
section
-- 58.ab
section
variable {z L : Nat} {xs : Nat → Int32} {S : q_S} {c n k : Nat} {i : Int32}
theorem q_st39 (h : q_IV k S) (hk : k < 512) (hx : q_XS L i) (hv : xs i.toNatClampNeg &&& 63 = 39) : q_NX z L xs i S c n k := by
  obtain ⟨hx0, hx1, hx2, hx3, hi⟩ := hx
  have e0 := q_tPic h.1
  exact ⟨_, _, _, q_rdn h, Nat.le_add_right c 1, Nat.le_add_right n 6, fun o ho => q_lw39 z L xs S c n i hx0 hx1 hx2 hx3 hi hv _ e0 ho⟩
theorem q_st40 (h : q_IV k S) (hk : k < 512) (hx : q_XS L i) (hv : xs i.toNatClampNeg &&& 63 = 40) : q_NX z L xs i S c n k := by
  obtain ⟨hx0, hx1, hx2, hx3, hi⟩ := hx
  obtain ⟨r, e0, e1, e2⟩ := q_tSol h.1
  exact ⟨_, _, _, q_rdn h, Nat.le_add_right c 1, Nat.le_add_right n 6, fun o ho => q_lw40 z L xs S c n i hx0 hx1 hx2 hx3 hi hv _ e0 _ e1 (q_f2dnn e2) (q_f2dnn e2) ho⟩
theorem q_st41 (h : q_IV k S) (hk : k < 512) (hx : q_XS L i) (hv : xs i.toNatClampNeg &&& 63 = 41) : q_NX z L xs i S c n k := by
  obtain ⟨hx0, hx1, hx2, hx3, hi⟩ := hx
  obtain ⟨r, e0, e1⟩ := q_tMen h.1
  exact ⟨_, _, _, q_rdn h, Nat.le_add_right c 1, Nat.le_add_right n 6, fun o ho => q_lw41 z L xs S c n i hx0 hx1 hx2 hx3 hi hv _ e0 _ e1 ho⟩
theorem q_st42 (h : q_IV k S) (hk : k < 512) (hx : q_XS L i) (hv : xs i.toNatClampNeg &&& 63 = 42) : q_NX z L xs i S c n k := by
  obtain ⟨hx0, hx1, hx2, hx3, hi⟩ := hx
  exact ⟨_, _, _, q_nop h, Nat.le_add_right c 1, Nat.le_add_right n 6, fun o ho => q_lw42 z L xs S c n i hx0 hx1 hx2 hx3 hi hv ho⟩
set_option maxHeartbeats 4000000 in
theorem q_lw43 (z L : Nat) (xs : Nat → Int32) (S : q_S) (c n : Nat) (i : Int32) (hx0 : q_in i L = true) (hx1 : q_in (i + 1) L = true) (hx2 : q_in (i + 2) L = true) (hx3 : q_in (i + 3) L = true) (hi : decide (Int32.ofNat L - 4 < i) = false) (hv : xs i.toNatClampNeg &&& 63 = 43) {o : q_Out} (h : q_Ru (q_TBs z L xs) 20 376 (23, [(4, .int (i + 4)), (3, .ref 270), (2, .ref 236), (1, .ref 64), (0, .ref 0)], [], (q_kL S c n)) o) : q_Ru (q_TBs z L xs) 20 376 (23, [(4, .int i), (3, .ref 270), (2, .ref 236), (1, .ref 64), (0, .ref 0)], [], (q_kL S c n)) o := by
  refine q_Ru_seg (g2 := (29, [(4, .int i), (3, .ref 270), (2, .ref 236), (1, .ref 64), (0, .ref 0)], [.int ((Int32.ofNat L) - 4), .int i], (q_kL S c n))) 5 (fun _ _ => rfl) ?_
  refine q_Ru_rsF (g2 := (32, [(4, .int i), (3, .ref 270), (2, .ref 236), (1, .ref 64), (0, .ref 0)], [], (q_kL S c n))) rfl rfl hi ?_
  refine q_Ru_seg (g2 := (35, [(4, .int i), (3, .ref 270), (2, .ref 236), (1, .ref 64), (0, .ref 0)], [.int i, .ref 0], (q_kL S c n))) 2 (fun _ _ => rfl) ?_
  refine q_Ru_rsT (g2 := (36, [(4, .int i), (3, .ref 270), (2, .ref 236), (1, .ref 64), (0, .ref 0)], [.int (xs (i.toNatClampNeg))], (q_kL S c n))) rfl rfl hx0 ?_
  refine q_Ru_seg (g2 := (39, [(4, .int i), (3, .ref 270), (2, .ref 236), (1, .ref 64), (0, .ref 0)], [.int ((xs (i.toNatClampNeg)) &&& 63)], (q_kL S c n))) 2 (fun _ _ => rfl) ?_
  rw [hv]
  refine q_Ru_seg (g2 := (23, [(4, .int (i + 4)), (3, .ref 270), (2, .ref 236), (1, .ref 64), (0, .ref 0)], [], (q_kL S c n))) 3 (fun _ _ => rfl) ?_
  exact q_Ru_xt (q_xt_mk (q_mn1 0 rfl (q_mn1 1 rfl (q_mn1 2 rfl (q_mn1 3 rfl (q_mn1 4 rfl q_mn0))))) rfl) h
theorem q_st43 (h : q_IV k S) (hk : k < 512) (hx : q_XS L i) (hv : xs i.toNatClampNeg &&& 63 = 43) : q_NX z L xs i S c n k := by
  obtain ⟨hx0, hx1, hx2, hx3, hi⟩ := hx
  exact ⟨_, _, _, q_nop h, Nat.le_add_right c 1, Nat.le_add_right n 6, fun o ho => q_lw43 z L xs S c n i hx0 hx1 hx2 hx3 hi hv ho⟩
set_option maxHeartbeats 4000000 in
theorem q_lw44 (z L : Nat) (xs : Nat → Int32) (S : q_S) (c n : Nat) (i : Int32) (hx0 : q_in i L = true) (hx1 : q_in (i + 1) L = true) (hx2 : q_in (i + 2) L = true) (hx3 : q_in (i + 3) L = true) (hi : decide (Int32.ofNat L - 4 < i) = false) (hv : xs i.toNatClampNeg &&& 63 = 44) {o : q_Out} (h : q_Ru (q_TBs z L xs) 20 376 (23, [(4, .int (i + 4)), (3, .ref 270), (2, .ref 236), (1, .ref 64), (0, .ref 0)], [], (q_kL S c n)) o) : q_Ru (q_TBs z L xs) 20 376 (23, [(4, .int i), (3, .ref 270), (2, .ref 236), (1, .ref 64), (0, .ref 0)], [], (q_kL S c n)) o := by
  refine q_Ru_seg (g2 := (29, [(4, .int i), (3, .ref 270), (2, .ref 236), (1, .ref 64), (0, .ref 0)], [.int ((Int32.ofNat L) - 4), .int i], (q_kL S c n))) 5 (fun _ _ => rfl) ?_
  refine q_Ru_rsF (g2 := (32, [(4, .int i), (3, .ref 270), (2, .ref 236), (1, .ref 64), (0, .ref 0)], [], (q_kL S c n))) rfl rfl hi ?_
  refine q_Ru_seg (g2 := (35, [(4, .int i), (3, .ref 270), (2, .ref 236), (1, .ref 64), (0, .ref 0)], [.int i, .ref 0], (q_kL S c n))) 2 (fun _ _ => rfl) ?_
  refine q_Ru_rsT (g2 := (36, [(4, .int i), (3, .ref 270), (2, .ref 236), (1, .ref 64), (0, .ref 0)], [.int (xs (i.toNatClampNeg))], (q_kL S c n))) rfl rfl hx0 ?_
  refine q_Ru_seg (g2 := (39, [(4, .int i), (3, .ref 270), (2, .ref 236), (1, .ref 64), (0, .ref 0)], [.int ((xs (i.toNatClampNeg)) &&& 63)], (q_kL S c n))) 2 (fun _ _ => rfl) ?_
  rw [hv]
  refine q_Ru_seg (g2 := (23, [(4, .int (i + 4)), (3, .ref 270), (2, .ref 236), (1, .ref 64), (0, .ref 0)], [], (q_kL S c n))) 3 (fun _ _ => rfl) ?_
  exact q_Ru_xt (q_xt_mk (q_mn1 0 rfl (q_mn1 1 rfl (q_mn1 2 rfl (q_mn1 3 rfl (q_mn1 4 rfl q_mn0))))) rfl) h
theorem q_st44 (h : q_IV k S) (hk : k < 512) (hx : q_XS L i) (hv : xs i.toNatClampNeg &&& 63 = 44) : q_NX z L xs i S c n k := by
  obtain ⟨hx0, hx1, hx2, hx3, hi⟩ := hx
  exact ⟨_, _, _, q_nop h, Nat.le_add_right c 1, Nat.le_add_right n 6, fun o ho => q_lw44 z L xs S c n i hx0 hx1 hx2 hx3 hi hv ho⟩
set_option maxHeartbeats 4000000 in
theorem q_lw45 (z L : Nat) (xs : Nat → Int32) (S : q_S) (c n : Nat) (i : Int32) (hx0 : q_in i L = true) (hx1 : q_in (i + 1) L = true) (hx2 : q_in (i + 2) L = true) (hx3 : q_in (i + 3) L = true) (hi : decide (Int32.ofNat L - 4 < i) = false) (hv : xs i.toNatClampNeg &&& 63 = 45) {o : q_Out} (h : q_Ru (q_TBs z L xs) 20 376 (23, [(4, .int (i + 4)), (3, .ref 270), (2, .ref 236), (1, .ref 64), (0, .ref 0)], [], (q_kL S c n)) o) : q_Ru (q_TBs z L xs) 20 376 (23, [(4, .int i), (3, .ref 270), (2, .ref 236), (1, .ref 64), (0, .ref 0)], [], (q_kL S c n)) o := by
  refine q_Ru_seg (g2 := (29, [(4, .int i), (3, .ref 270), (2, .ref 236), (1, .ref 64), (0, .ref 0)], [.int ((Int32.ofNat L) - 4), .int i], (q_kL S c n))) 5 (fun _ _ => rfl) ?_
  refine q_Ru_rsF (g2 := (32, [(4, .int i), (3, .ref 270), (2, .ref 236), (1, .ref 64), (0, .ref 0)], [], (q_kL S c n))) rfl rfl hi ?_
  refine q_Ru_seg (g2 := (35, [(4, .int i), (3, .ref 270), (2, .ref 236), (1, .ref 64), (0, .ref 0)], [.int i, .ref 0], (q_kL S c n))) 2 (fun _ _ => rfl) ?_
  refine q_Ru_rsT (g2 := (36, [(4, .int i), (3, .ref 270), (2, .ref 236), (1, .ref 64), (0, .ref 0)], [.int (xs (i.toNatClampNeg))], (q_kL S c n))) rfl rfl hx0 ?_
  refine q_Ru_seg (g2 := (39, [(4, .int i), (3, .ref 270), (2, .ref 236), (1, .ref 64), (0, .ref 0)], [.int ((xs (i.toNatClampNeg)) &&& 63)], (q_kL S c n))) 2 (fun _ _ => rfl) ?_
  rw [hv]
  refine q_Ru_seg (g2 := (23, [(4, .int (i + 4)), (3, .ref 270), (2, .ref 236), (1, .ref 64), (0, .ref 0)], [], (q_kL S c n))) 3 (fun _ _ => rfl) ?_
  exact q_Ru_xt (q_xt_mk (q_mn1 0 rfl (q_mn1 1 rfl (q_mn1 2 rfl (q_mn1 3 rfl (q_mn1 4 rfl q_mn0))))) rfl) h
theorem q_st45 (h : q_IV k S) (hk : k < 512) (hx : q_XS L i) (hv : xs i.toNatClampNeg &&& 63 = 45) : q_NX z L xs i S c n k := by
  obtain ⟨hx0, hx1, hx2, hx3, hi⟩ := hx
  exact ⟨_, _, _, q_nop h, Nat.le_add_right c 1, Nat.le_add_right n 6, fun o ho => q_lw45 z L xs S c n i hx0 hx1 hx2 hx3 hi hv ho⟩
set_option maxHeartbeats 4000000 in
theorem q_lw46 (z L : Nat) (xs : Nat → Int32) (S : q_S) (c n : Nat) (i : Int32) (hx0 : q_in i L = true) (hx1 : q_in (i + 1) L = true) (hx2 : q_in (i + 2) L = true) (hx3 : q_in (i + 3) L = true) (hi : decide (Int32.ofNat L - 4 < i) = false) (hv : xs i.toNatClampNeg &&& 63 = 46) {o : q_Out} (h : q_Ru (q_TBs z L xs) 20 376 (23, [(4, .int (i + 4)), (3, .ref 270), (2, .ref 236), (1, .ref 64), (0, .ref 0)], [], (q_kL S c n)) o) : q_Ru (q_TBs z L xs) 20 376 (23, [(4, .int i), (3, .ref 270), (2, .ref 236), (1, .ref 64), (0, .ref 0)], [], (q_kL S c n)) o := by
  refine q_Ru_seg (g2 := (29, [(4, .int i), (3, .ref 270), (2, .ref 236), (1, .ref 64), (0, .ref 0)], [.int ((Int32.ofNat L) - 4), .int i], (q_kL S c n))) 5 (fun _ _ => rfl) ?_
  refine q_Ru_rsF (g2 := (32, [(4, .int i), (3, .ref 270), (2, .ref 236), (1, .ref 64), (0, .ref 0)], [], (q_kL S c n))) rfl rfl hi ?_
  refine q_Ru_seg (g2 := (35, [(4, .int i), (3, .ref 270), (2, .ref 236), (1, .ref 64), (0, .ref 0)], [.int i, .ref 0], (q_kL S c n))) 2 (fun _ _ => rfl) ?_
  refine q_Ru_rsT (g2 := (36, [(4, .int i), (3, .ref 270), (2, .ref 236), (1, .ref 64), (0, .ref 0)], [.int (xs (i.toNatClampNeg))], (q_kL S c n))) rfl rfl hx0 ?_
  refine q_Ru_seg (g2 := (39, [(4, .int i), (3, .ref 270), (2, .ref 236), (1, .ref 64), (0, .ref 0)], [.int ((xs (i.toNatClampNeg)) &&& 63)], (q_kL S c n))) 2 (fun _ _ => rfl) ?_
  rw [hv]
  refine q_Ru_seg (g2 := (23, [(4, .int (i + 4)), (3, .ref 270), (2, .ref 236), (1, .ref 64), (0, .ref 0)], [], (q_kL S c n))) 3 (fun _ _ => rfl) ?_
  exact q_Ru_xt (q_xt_mk (q_mn1 0 rfl (q_mn1 1 rfl (q_mn1 2 rfl (q_mn1 3 rfl (q_mn1 4 rfl q_mn0))))) rfl) h
theorem q_st46 (h : q_IV k S) (hk : k < 512) (hx : q_XS L i) (hv : xs i.toNatClampNeg &&& 63 = 46) : q_NX z L xs i S c n k := by
  obtain ⟨hx0, hx1, hx2, hx3, hi⟩ := hx
  exact ⟨_, _, _, q_nop h, Nat.le_add_right c 1, Nat.le_add_right n 6, fun o ho => q_lw46 z L xs S c n i hx0 hx1 hx2 hx3 hi hv ho⟩
set_option maxHeartbeats 4000000 in
theorem q_lw47 (z L : Nat) (xs : Nat → Int32) (S : q_S) (c n : Nat) (i : Int32) (hx0 : q_in i L = true) (hx1 : q_in (i + 1) L = true) (hx2 : q_in (i + 2) L = true) (hx3 : q_in (i + 3) L = true) (hi : decide (Int32.ofNat L - 4 < i) = false) (hv : xs i.toNatClampNeg &&& 63 = 47) {o : q_Out} (h : q_Ru (q_TBs z L xs) 20 376 (23, [(4, .int (i + 4)), (3, .ref 270), (2, .ref 236), (1, .ref 64), (0, .ref 0)], [], (q_kL S c n)) o) : q_Ru (q_TBs z L xs) 20 376 (23, [(4, .int i), (3, .ref 270), (2, .ref 236), (1, .ref 64), (0, .ref 0)], [], (q_kL S c n)) o := by
  refine q_Ru_seg (g2 := (29, [(4, .int i), (3, .ref 270), (2, .ref 236), (1, .ref 64), (0, .ref 0)], [.int ((Int32.ofNat L) - 4), .int i], (q_kL S c n))) 5 (fun _ _ => rfl) ?_
  refine q_Ru_rsF (g2 := (32, [(4, .int i), (3, .ref 270), (2, .ref 236), (1, .ref 64), (0, .ref 0)], [], (q_kL S c n))) rfl rfl hi ?_
  refine q_Ru_seg (g2 := (35, [(4, .int i), (3, .ref 270), (2, .ref 236), (1, .ref 64), (0, .ref 0)], [.int i, .ref 0], (q_kL S c n))) 2 (fun _ _ => rfl) ?_
  refine q_Ru_rsT (g2 := (36, [(4, .int i), (3, .ref 270), (2, .ref 236), (1, .ref 64), (0, .ref 0)], [.int (xs (i.toNatClampNeg))], (q_kL S c n))) rfl rfl hx0 ?_
  refine q_Ru_seg (g2 := (39, [(4, .int i), (3, .ref 270), (2, .ref 236), (1, .ref 64), (0, .ref 0)], [.int ((xs (i.toNatClampNeg)) &&& 63)], (q_kL S c n))) 2 (fun _ _ => rfl) ?_
  rw [hv]
  refine q_Ru_seg (g2 := (23, [(4, .int (i + 4)), (3, .ref 270), (2, .ref 236), (1, .ref 64), (0, .ref 0)], [], (q_kL S c n))) 3 (fun _ _ => rfl) ?_
  exact q_Ru_xt (q_xt_mk (q_mn1 0 rfl (q_mn1 1 rfl (q_mn1 2 rfl (q_mn1 3 rfl (q_mn1 4 rfl q_mn0))))) rfl) h
theorem q_st47 (h : q_IV k S) (hk : k < 512) (hx : q_XS L i) (hv : xs i.toNatClampNeg &&& 63 = 47) : q_NX z L xs i S c n k := by
  obtain ⟨hx0, hx1, hx2, hx3, hi⟩ := hx
  exact ⟨_, _, _, q_nop h, Nat.le_add_right c 1, Nat.le_add_right n 6, fun o ho => q_lw47 z L xs S c n i hx0 hx1 hx2 hx3 hi hv ho⟩
set_option maxHeartbeats 4000000 in
theorem q_lw48 (z L : Nat) (xs : Nat → Int32) (S : q_S) (c n : Nat) (i : Int32) (hx0 : q_in i L = true) (hx1 : q_in (i + 1) L = true) (hx2 : q_in (i + 2) L = true) (hx3 : q_in (i + 3) L = true) (hi : decide (Int32.ofNat L - 4 < i) = false) (hv : xs i.toNatClampNeg &&& 63 = 48) {o : q_Out} (h : q_Ru (q_TBs z L xs) 20 376 (23, [(4, .int (i + 4)), (3, .ref 270), (2, .ref 236), (1, .ref 64), (0, .ref 0)], [], (q_kL S c n)) o) : q_Ru (q_TBs z L xs) 20 376 (23, [(4, .int i), (3, .ref 270), (2, .ref 236), (1, .ref 64), (0, .ref 0)], [], (q_kL S c n)) o := by
  refine q_Ru_seg (g2 := (29, [(4, .int i), (3, .ref 270), (2, .ref 236), (1, .ref 64), (0, .ref 0)], [.int ((Int32.ofNat L) - 4), .int i], (q_kL S c n))) 5 (fun _ _ => rfl) ?_
  refine q_Ru_rsF (g2 := (32, [(4, .int i), (3, .ref 270), (2, .ref 236), (1, .ref 64), (0, .ref 0)], [], (q_kL S c n))) rfl rfl hi ?_
  refine q_Ru_seg (g2 := (35, [(4, .int i), (3, .ref 270), (2, .ref 236), (1, .ref 64), (0, .ref 0)], [.int i, .ref 0], (q_kL S c n))) 2 (fun _ _ => rfl) ?_
  refine q_Ru_rsT (g2 := (36, [(4, .int i), (3, .ref 270), (2, .ref 236), (1, .ref 64), (0, .ref 0)], [.int (xs (i.toNatClampNeg))], (q_kL S c n))) rfl rfl hx0 ?_
  refine q_Ru_seg (g2 := (39, [(4, .int i), (3, .ref 270), (2, .ref 236), (1, .ref 64), (0, .ref 0)], [.int ((xs (i.toNatClampNeg)) &&& 63)], (q_kL S c n))) 2 (fun _ _ => rfl) ?_
  rw [hv]
  refine q_Ru_seg (g2 := (23, [(4, .int (i + 4)), (3, .ref 270), (2, .ref 236), (1, .ref 64), (0, .ref 0)], [], (q_kL S c n))) 3 (fun _ _ => rfl) ?_
  exact q_Ru_xt (q_xt_mk (q_mn1 0 rfl (q_mn1 1 rfl (q_mn1 2 rfl (q_mn1 3 rfl (q_mn1 4 rfl q_mn0))))) rfl) h
theorem q_st48 (h : q_IV k S) (hk : k < 512) (hx : q_XS L i) (hv : xs i.toNatClampNeg &&& 63 = 48) : q_NX z L xs i S c n k := by
  obtain ⟨hx0, hx1, hx2, hx3, hi⟩ := hx
  exact ⟨_, _, _, q_nop h, Nat.le_add_right c 1, Nat.le_add_right n 6, fun o ho => q_lw48 z L xs S c n i hx0 hx1 hx2 hx3 hi hv ho⟩
set_option maxHeartbeats 4000000 in
theorem q_lw49 (z L : Nat) (xs : Nat → Int32) (S : q_S) (c n : Nat) (i : Int32) (hx0 : q_in i L = true) (hx1 : q_in (i + 1) L = true) (hx2 : q_in (i + 2) L = true) (hx3 : q_in (i + 3) L = true) (hi : decide (Int32.ofNat L - 4 < i) = false) (hv : xs i.toNatClampNeg &&& 63 = 49) {o : q_Out} (h : q_Ru (q_TBs z L xs) 20 376 (23, [(4, .int (i + 4)), (3, .ref 270), (2, .ref 236), (1, .ref 64), (0, .ref 0)], [], (q_kL S c n)) o) : q_Ru (q_TBs z L xs) 20 376 (23, [(4, .int i), (3, .ref 270), (2, .ref 236), (1, .ref 64), (0, .ref 0)], [], (q_kL S c n)) o := by
  refine q_Ru_seg (g2 := (29, [(4, .int i), (3, .ref 270), (2, .ref 236), (1, .ref 64), (0, .ref 0)], [.int ((Int32.ofNat L) - 4), .int i], (q_kL S c n))) 5 (fun _ _ => rfl) ?_
  refine q_Ru_rsF (g2 := (32, [(4, .int i), (3, .ref 270), (2, .ref 236), (1, .ref 64), (0, .ref 0)], [], (q_kL S c n))) rfl rfl hi ?_
  refine q_Ru_seg (g2 := (35, [(4, .int i), (3, .ref 270), (2, .ref 236), (1, .ref 64), (0, .ref 0)], [.int i, .ref 0], (q_kL S c n))) 2 (fun _ _ => rfl) ?_
  refine q_Ru_rsT (g2 := (36, [(4, .int i), (3, .ref 270), (2, .ref 236), (1, .ref 64), (0, .ref 0)], [.int (xs (i.toNatClampNeg))], (q_kL S c n))) rfl rfl hx0 ?_
  refine q_Ru_seg (g2 := (39, [(4, .int i), (3, .ref 270), (2, .ref 236), (1, .ref 64), (0, .ref 0)], [.int ((xs (i.toNatClampNeg)) &&& 63)], (q_kL S c n))) 2 (fun _ _ => rfl) ?_
  rw [hv]
  refine q_Ru_seg (g2 := (23, [(4, .int (i + 4)), (3, .ref 270), (2, .ref 236), (1, .ref 64), (0, .ref 0)], [], (q_kL S c n))) 3 (fun _ _ => rfl) ?_
  exact q_Ru_xt (q_xt_mk (q_mn1 0 rfl (q_mn1 1 rfl (q_mn1 2 rfl (q_mn1 3 rfl (q_mn1 4 rfl q_mn0))))) rfl) h
theorem q_st49 (h : q_IV k S) (hk : k < 512) (hx : q_XS L i) (hv : xs i.toNatClampNeg &&& 63 = 49) : q_NX z L xs i S c n k := by
  obtain ⟨hx0, hx1, hx2, hx3, hi⟩ := hx
  exact ⟨_, _, _, q_nop h, Nat.le_add_right c 1, Nat.le_add_right n 6, fun o ho => q_lw49 z L xs S c n i hx0 hx1 hx2 hx3 hi hv ho⟩
set_option maxHeartbeats 4000000 in
theorem q_lw50 (z L : Nat) (xs : Nat → Int32) (S : q_S) (c n : Nat) (i : Int32) (hx0 : q_in i L = true) (hx1 : q_in (i + 1) L = true) (hx2 : q_in (i + 2) L = true) (hx3 : q_in (i + 3) L = true) (hi : decide (Int32.ofNat L - 4 < i) = false) (hv : xs i.toNatClampNeg &&& 63 = 50) {o : q_Out} (h : q_Ru (q_TBs z L xs) 20 376 (23, [(4, .int (i + 4)), (3, .ref 270), (2, .ref 236), (1, .ref 64), (0, .ref 0)], [], (q_kL S c n)) o) : q_Ru (q_TBs z L xs) 20 376 (23, [(4, .int i), (3, .ref 270), (2, .ref 236), (1, .ref 64), (0, .ref 0)], [], (q_kL S c n)) o := by
  refine q_Ru_seg (g2 := (29, [(4, .int i), (3, .ref 270), (2, .ref 236), (1, .ref 64), (0, .ref 0)], [.int ((Int32.ofNat L) - 4), .int i], (q_kL S c n))) 5 (fun _ _ => rfl) ?_
  refine q_Ru_rsF (g2 := (32, [(4, .int i), (3, .ref 270), (2, .ref 236), (1, .ref 64), (0, .ref 0)], [], (q_kL S c n))) rfl rfl hi ?_
  refine q_Ru_seg (g2 := (35, [(4, .int i), (3, .ref 270), (2, .ref 236), (1, .ref 64), (0, .ref 0)], [.int i, .ref 0], (q_kL S c n))) 2 (fun _ _ => rfl) ?_
  refine q_Ru_rsT (g2 := (36, [(4, .int i), (3, .ref 270), (2, .ref 236), (1, .ref 64), (0, .ref 0)], [.int (xs (i.toNatClampNeg))], (q_kL S c n))) rfl rfl hx0 ?_
  refine q_Ru_seg (g2 := (39, [(4, .int i), (3, .ref 270), (2, .ref 236), (1, .ref 64), (0, .ref 0)], [.int ((xs (i.toNatClampNeg)) &&& 63)], (q_kL S c n))) 2 (fun _ _ => rfl) ?_
  rw [hv]
  refine q_Ru_seg (g2 := (23, [(4, .int (i + 4)), (3, .ref 270), (2, .ref 236), (1, .ref 64), (0, .ref 0)], [], (q_kL S c n))) 3 (fun _ _ => rfl) ?_
  exact q_Ru_xt (q_xt_mk (q_mn1 0 rfl (q_mn1 1 rfl (q_mn1 2 rfl (q_mn1 3 rfl (q_mn1 4 rfl q_mn0))))) rfl) h
theorem q_st50 (h : q_IV k S) (hk : k < 512) (hx : q_XS L i) (hv : xs i.toNatClampNeg &&& 63 = 50) : q_NX z L xs i S c n k := by
  obtain ⟨hx0, hx1, hx2, hx3, hi⟩ := hx
  exact ⟨_, _, _, q_nop h, Nat.le_add_right c 1, Nat.le_add_right n 6, fun o ho => q_lw50 z L xs S c n i hx0 hx1 hx2 hx3 hi hv ho⟩
set_option maxHeartbeats 4000000 in
theorem q_lw51 (z L : Nat) (xs : Nat → Int32) (S : q_S) (c n : Nat) (i : Int32) (hx0 : q_in i L = true) (hx1 : q_in (i + 1) L = true) (hx2 : q_in (i + 2) L = true) (hx3 : q_in (i + 3) L = true) (hi : decide (Int32.ofNat L - 4 < i) = false) (hv : xs i.toNatClampNeg &&& 63 = 51) {o : q_Out} (h : q_Ru (q_TBs z L xs) 20 376 (23, [(4, .int (i + 4)), (3, .ref 270), (2, .ref 236), (1, .ref 64), (0, .ref 0)], [], (q_kL S c n)) o) : q_Ru (q_TBs z L xs) 20 376 (23, [(4, .int i), (3, .ref 270), (2, .ref 236), (1, .ref 64), (0, .ref 0)], [], (q_kL S c n)) o := by
  refine q_Ru_seg (g2 := (29, [(4, .int i), (3, .ref 270), (2, .ref 236), (1, .ref 64), (0, .ref 0)], [.int ((Int32.ofNat L) - 4), .int i], (q_kL S c n))) 5 (fun _ _ => rfl) ?_
  refine q_Ru_rsF (g2 := (32, [(4, .int i), (3, .ref 270), (2, .ref 236), (1, .ref 64), (0, .ref 0)], [], (q_kL S c n))) rfl rfl hi ?_
  refine q_Ru_seg (g2 := (35, [(4, .int i), (3, .ref 270), (2, .ref 236), (1, .ref 64), (0, .ref 0)], [.int i, .ref 0], (q_kL S c n))) 2 (fun _ _ => rfl) ?_
  refine q_Ru_rsT (g2 := (36, [(4, .int i), (3, .ref 270), (2, .ref 236), (1, .ref 64), (0, .ref 0)], [.int (xs (i.toNatClampNeg))], (q_kL S c n))) rfl rfl hx0 ?_
  refine q_Ru_seg (g2 := (39, [(4, .int i), (3, .ref 270), (2, .ref 236), (1, .ref 64), (0, .ref 0)], [.int ((xs (i.toNatClampNeg)) &&& 63)], (q_kL S c n))) 2 (fun _ _ => rfl) ?_
  rw [hv]
  refine q_Ru_seg (g2 := (23, [(4, .int (i + 4)), (3, .ref 270), (2, .ref 236), (1, .ref 64), (0, .ref 0)], [], (q_kL S c n))) 3 (fun _ _ => rfl) ?_
  exact q_Ru_xt (q_xt_mk (q_mn1 0 rfl (q_mn1 1 rfl (q_mn1 2 rfl (q_mn1 3 rfl (q_mn1 4 rfl q_mn0))))) rfl) h
theorem q_st51 (h : q_IV k S) (hk : k < 512) (hx : q_XS L i) (hv : xs i.toNatClampNeg &&& 63 = 51) : q_NX z L xs i S c n k := by
  obtain ⟨hx0, hx1, hx2, hx3, hi⟩ := hx
  exact ⟨_, _, _, q_nop h, Nat.le_add_right c 1, Nat.le_add_right n 6, fun o ho => q_lw51 z L xs S c n i hx0 hx1 hx2 hx3 hi hv ho⟩
set_option maxHeartbeats 4000000 in
theorem q_lw52 (z L : Nat) (xs : Nat → Int32) (S : q_S) (c n : Nat) (i : Int32) (hx0 : q_in i L = true) (hx1 : q_in (i + 1) L = true) (hx2 : q_in (i + 2) L = true) (hx3 : q_in (i + 3) L = true) (hi : decide (Int32.ofNat L - 4 < i) = false) (hv : xs i.toNatClampNeg &&& 63 = 52) {o : q_Out} (h : q_Ru (q_TBs z L xs) 20 376 (23, [(4, .int (i + 4)), (3, .ref 270), (2, .ref 236), (1, .ref 64), (0, .ref 0)], [], (q_kL S c n)) o) : q_Ru (q_TBs z L xs) 20 376 (23, [(4, .int i), (3, .ref 270), (2, .ref 236), (1, .ref 64), (0, .ref 0)], [], (q_kL S c n)) o := by
  refine q_Ru_seg (g2 := (29, [(4, .int i), (3, .ref 270), (2, .ref 236), (1, .ref 64), (0, .ref 0)], [.int ((Int32.ofNat L) - 4), .int i], (q_kL S c n))) 5 (fun _ _ => rfl) ?_
  refine q_Ru_rsF (g2 := (32, [(4, .int i), (3, .ref 270), (2, .ref 236), (1, .ref 64), (0, .ref 0)], [], (q_kL S c n))) rfl rfl hi ?_
  refine q_Ru_seg (g2 := (35, [(4, .int i), (3, .ref 270), (2, .ref 236), (1, .ref 64), (0, .ref 0)], [.int i, .ref 0], (q_kL S c n))) 2 (fun _ _ => rfl) ?_
  refine q_Ru_rsT (g2 := (36, [(4, .int i), (3, .ref 270), (2, .ref 236), (1, .ref 64), (0, .ref 0)], [.int (xs (i.toNatClampNeg))], (q_kL S c n))) rfl rfl hx0 ?_
  refine q_Ru_seg (g2 := (39, [(4, .int i), (3, .ref 270), (2, .ref 236), (1, .ref 64), (0, .ref 0)], [.int ((xs (i.toNatClampNeg)) &&& 63)], (q_kL S c n))) 2 (fun _ _ => rfl) ?_
  rw [hv]
  refine q_Ru_seg (g2 := (23, [(4, .int (i + 4)), (3, .ref 270), (2, .ref 236), (1, .ref 64), (0, .ref 0)], [], (q_kL S c n))) 3 (fun _ _ => rfl) ?_
  exact q_Ru_xt (q_xt_mk (q_mn1 0 rfl (q_mn1 1 rfl (q_mn1 2 rfl (q_mn1 3 rfl (q_mn1 4 rfl q_mn0))))) rfl) h
theorem q_st52 (h : q_IV k S) (hk : k < 512) (hx : q_XS L i) (hv : xs i.toNatClampNeg &&& 63 = 52) : q_NX z L xs i S c n k := by
  obtain ⟨hx0, hx1, hx2, hx3, hi⟩ := hx
  exact ⟨_, _, _, q_nop h, Nat.le_add_right c 1, Nat.le_add_right n 6, fun o ho => q_lw52 z L xs S c n i hx0 hx1 hx2 hx3 hi hv ho⟩
set_option maxHeartbeats 4000000 in
theorem q_lw53 (z L : Nat) (xs : Nat → Int32) (S : q_S) (c n : Nat) (i : Int32) (hx0 : q_in i L = true) (hx1 : q_in (i + 1) L = true) (hx2 : q_in (i + 2) L = true) (hx3 : q_in (i + 3) L = true) (hi : decide (Int32.ofNat L - 4 < i) = false) (hv : xs i.toNatClampNeg &&& 63 = 53) {o : q_Out} (h : q_Ru (q_TBs z L xs) 20 376 (23, [(4, .int (i + 4)), (3, .ref 270), (2, .ref 236), (1, .ref 64), (0, .ref 0)], [], (q_kL S c n)) o) : q_Ru (q_TBs z L xs) 20 376 (23, [(4, .int i), (3, .ref 270), (2, .ref 236), (1, .ref 64), (0, .ref 0)], [], (q_kL S c n)) o := by
  refine q_Ru_seg (g2 := (29, [(4, .int i), (3, .ref 270), (2, .ref 236), (1, .ref 64), (0, .ref 0)], [.int ((Int32.ofNat L) - 4), .int i], (q_kL S c n))) 5 (fun _ _ => rfl) ?_
  refine q_Ru_rsF (g2 := (32, [(4, .int i), (3, .ref 270), (2, .ref 236), (1, .ref 64), (0, .ref 0)], [], (q_kL S c n))) rfl rfl hi ?_
  refine q_Ru_seg (g2 := (35, [(4, .int i), (3, .ref 270), (2, .ref 236), (1, .ref 64), (0, .ref 0)], [.int i, .ref 0], (q_kL S c n))) 2 (fun _ _ => rfl) ?_
  refine q_Ru_rsT (g2 := (36, [(4, .int i), (3, .ref 270), (2, .ref 236), (1, .ref 64), (0, .ref 0)], [.int (xs (i.toNatClampNeg))], (q_kL S c n))) rfl rfl hx0 ?_
  refine q_Ru_seg (g2 := (39, [(4, .int i), (3, .ref 270), (2, .ref 236), (1, .ref 64), (0, .ref 0)], [.int ((xs (i.toNatClampNeg)) &&& 63)], (q_kL S c n))) 2 (fun _ _ => rfl) ?_
  rw [hv]
  refine q_Ru_seg (g2 := (23, [(4, .int (i + 4)), (3, .ref 270), (2, .ref 236), (1, .ref 64), (0, .ref 0)], [], (q_kL S c n))) 3 (fun _ _ => rfl) ?_
  exact q_Ru_xt (q_xt_mk (q_mn1 0 rfl (q_mn1 1 rfl (q_mn1 2 rfl (q_mn1 3 rfl (q_mn1 4 rfl q_mn0))))) rfl) h
theorem q_st53 (h : q_IV k S) (hk : k < 512) (hx : q_XS L i) (hv : xs i.toNatClampNeg &&& 63 = 53) : q_NX z L xs i S c n k := by
  obtain ⟨hx0, hx1, hx2, hx3, hi⟩ := hx
  exact ⟨_, _, _, q_nop h, Nat.le_add_right c 1, Nat.le_add_right n 6, fun o ho => q_lw53 z L xs S c n i hx0 hx1 hx2 hx3 hi hv ho⟩
set_option maxHeartbeats 4000000 in
theorem q_lw54 (z L : Nat) (xs : Nat → Int32) (S : q_S) (c n : Nat) (i : Int32) (hx0 : q_in i L = true) (hx1 : q_in (i + 1) L = true) (hx2 : q_in (i + 2) L = true) (hx3 : q_in (i + 3) L = true) (hi : decide (Int32.ofNat L - 4 < i) = false) (hv : xs i.toNatClampNeg &&& 63 = 54) {o : q_Out} (h : q_Ru (q_TBs z L xs) 20 376 (23, [(4, .int (i + 4)), (3, .ref 270), (2, .ref 236), (1, .ref 64), (0, .ref 0)], [], (q_kL S c n)) o) : q_Ru (q_TBs z L xs) 20 376 (23, [(4, .int i), (3, .ref 270), (2, .ref 236), (1, .ref 64), (0, .ref 0)], [], (q_kL S c n)) o := by
  refine q_Ru_seg (g2 := (29, [(4, .int i), (3, .ref 270), (2, .ref 236), (1, .ref 64), (0, .ref 0)], [.int ((Int32.ofNat L) - 4), .int i], (q_kL S c n))) 5 (fun _ _ => rfl) ?_
  refine q_Ru_rsF (g2 := (32, [(4, .int i), (3, .ref 270), (2, .ref 236), (1, .ref 64), (0, .ref 0)], [], (q_kL S c n))) rfl rfl hi ?_
  refine q_Ru_seg (g2 := (35, [(4, .int i), (3, .ref 270), (2, .ref 236), (1, .ref 64), (0, .ref 0)], [.int i, .ref 0], (q_kL S c n))) 2 (fun _ _ => rfl) ?_
  refine q_Ru_rsT (g2 := (36, [(4, .int i), (3, .ref 270), (2, .ref 236), (1, .ref 64), (0, .ref 0)], [.int (xs (i.toNatClampNeg))], (q_kL S c n))) rfl rfl hx0 ?_
  refine q_Ru_seg (g2 := (39, [(4, .int i), (3, .ref 270), (2, .ref 236), (1, .ref 64), (0, .ref 0)], [.int ((xs (i.toNatClampNeg)) &&& 63)], (q_kL S c n))) 2 (fun _ _ => rfl) ?_
  rw [hv]
  refine q_Ru_seg (g2 := (23, [(4, .int (i + 4)), (3, .ref 270), (2, .ref 236), (1, .ref 64), (0, .ref 0)], [], (q_kL S c n))) 3 (fun _ _ => rfl) ?_
  exact q_Ru_xt (q_xt_mk (q_mn1 0 rfl (q_mn1 1 rfl (q_mn1 2 rfl (q_mn1 3 rfl (q_mn1 4 rfl q_mn0))))) rfl) h
theorem q_st54 (h : q_IV k S) (hk : k < 512) (hx : q_XS L i) (hv : xs i.toNatClampNeg &&& 63 = 54) : q_NX z L xs i S c n k := by
  obtain ⟨hx0, hx1, hx2, hx3, hi⟩ := hx
  exact ⟨_, _, _, q_nop h, Nat.le_add_right c 1, Nat.le_add_right n 6, fun o ho => q_lw54 z L xs S c n i hx0 hx1 hx2 hx3 hi hv ho⟩
set_option maxHeartbeats 4000000 in
theorem q_lw55 (z L : Nat) (xs : Nat → Int32) (S : q_S) (c n : Nat) (i : Int32) (hx0 : q_in i L = true) (hx1 : q_in (i + 1) L = true) (hx2 : q_in (i + 2) L = true) (hx3 : q_in (i + 3) L = true) (hi : decide (Int32.ofNat L - 4 < i) = false) (hv : xs i.toNatClampNeg &&& 63 = 55) {o : q_Out} (h : q_Ru (q_TBs z L xs) 20 376 (23, [(4, .int (i + 4)), (3, .ref 270), (2, .ref 236), (1, .ref 64), (0, .ref 0)], [], (q_kL S c n)) o) : q_Ru (q_TBs z L xs) 20 376 (23, [(4, .int i), (3, .ref 270), (2, .ref 236), (1, .ref 64), (0, .ref 0)], [], (q_kL S c n)) o := by
  refine q_Ru_seg (g2 := (29, [(4, .int i), (3, .ref 270), (2, .ref 236), (1, .ref 64), (0, .ref 0)], [.int ((Int32.ofNat L) - 4), .int i], (q_kL S c n))) 5 (fun _ _ => rfl) ?_
  refine q_Ru_rsF (g2 := (32, [(4, .int i), (3, .ref 270), (2, .ref 236), (1, .ref 64), (0, .ref 0)], [], (q_kL S c n))) rfl rfl hi ?_
  refine q_Ru_seg (g2 := (35, [(4, .int i), (3, .ref 270), (2, .ref 236), (1, .ref 64), (0, .ref 0)], [.int i, .ref 0], (q_kL S c n))) 2 (fun _ _ => rfl) ?_
  refine q_Ru_rsT (g2 := (36, [(4, .int i), (3, .ref 270), (2, .ref 236), (1, .ref 64), (0, .ref 0)], [.int (xs (i.toNatClampNeg))], (q_kL S c n))) rfl rfl hx0 ?_
  refine q_Ru_seg (g2 := (39, [(4, .int i), (3, .ref 270), (2, .ref 236), (1, .ref 64), (0, .ref 0)], [.int ((xs (i.toNatClampNeg)) &&& 63)], (q_kL S c n))) 2 (fun _ _ => rfl) ?_
  rw [hv]
  refine q_Ru_seg (g2 := (23, [(4, .int (i + 4)), (3, .ref 270), (2, .ref 236), (1, .ref 64), (0, .ref 0)], [], (q_kL S c n))) 3 (fun _ _ => rfl) ?_
  exact q_Ru_xt (q_xt_mk (q_mn1 0 rfl (q_mn1 1 rfl (q_mn1 2 rfl (q_mn1 3 rfl (q_mn1 4 rfl q_mn0))))) rfl) h
theorem q_st55 (h : q_IV k S) (hk : k < 512) (hx : q_XS L i) (hv : xs i.toNatClampNeg &&& 63 = 55) : q_NX z L xs i S c n k := by
  obtain ⟨hx0, hx1, hx2, hx3, hi⟩ := hx
  exact ⟨_, _, _, q_nop h, Nat.le_add_right c 1, Nat.le_add_right n 6, fun o ho => q_lw55 z L xs S c n i hx0 hx1 hx2 hx3 hi hv ho⟩
set_option maxHeartbeats 4000000 in
theorem q_lw56 (z L : Nat) (xs : Nat → Int32) (S : q_S) (c n : Nat) (i : Int32) (hx0 : q_in i L = true) (hx1 : q_in (i + 1) L = true) (hx2 : q_in (i + 2) L = true) (hx3 : q_in (i + 3) L = true) (hi : decide (Int32.ofNat L - 4 < i) = false) (hv : xs i.toNatClampNeg &&& 63 = 56) {o : q_Out} (h : q_Ru (q_TBs z L xs) 20 376 (23, [(4, .int (i + 4)), (3, .ref 270), (2, .ref 236), (1, .ref 64), (0, .ref 0)], [], (q_kL S c n)) o) : q_Ru (q_TBs z L xs) 20 376 (23, [(4, .int i), (3, .ref 270), (2, .ref 236), (1, .ref 64), (0, .ref 0)], [], (q_kL S c n)) o := by
  refine q_Ru_seg (g2 := (29, [(4, .int i), (3, .ref 270), (2, .ref 236), (1, .ref 64), (0, .ref 0)], [.int ((Int32.ofNat L) - 4), .int i], (q_kL S c n))) 5 (fun _ _ => rfl) ?_
  refine q_Ru_rsF (g2 := (32, [(4, .int i), (3, .ref 270), (2, .ref 236), (1, .ref 64), (0, .ref 0)], [], (q_kL S c n))) rfl rfl hi ?_
  refine q_Ru_seg (g2 := (35, [(4, .int i), (3, .ref 270), (2, .ref 236), (1, .ref 64), (0, .ref 0)], [.int i, .ref 0], (q_kL S c n))) 2 (fun _ _ => rfl) ?_
  refine q_Ru_rsT (g2 := (36, [(4, .int i), (3, .ref 270), (2, .ref 236), (1, .ref 64), (0, .ref 0)], [.int (xs (i.toNatClampNeg))], (q_kL S c n))) rfl rfl hx0 ?_
  refine q_Ru_seg (g2 := (39, [(4, .int i), (3, .ref 270), (2, .ref 236), (1, .ref 64), (0, .ref 0)], [.int ((xs (i.toNatClampNeg)) &&& 63)], (q_kL S c n))) 2 (fun _ _ => rfl) ?_
  rw [hv]
  refine q_Ru_seg (g2 := (23, [(4, .int (i + 4)), (3, .ref 270), (2, .ref 236), (1, .ref 64), (0, .ref 0)], [], (q_kL S c n))) 3 (fun _ _ => rfl) ?_
  exact q_Ru_xt (q_xt_mk (q_mn1 0 rfl (q_mn1 1 rfl (q_mn1 2 rfl (q_mn1 3 rfl (q_mn1 4 rfl q_mn0))))) rfl) h
theorem q_st56 (h : q_IV k S) (hk : k < 512) (hx : q_XS L i) (hv : xs i.toNatClampNeg &&& 63 = 56) : q_NX z L xs i S c n k := by
  obtain ⟨hx0, hx1, hx2, hx3, hi⟩ := hx
  exact ⟨_, _, _, q_nop h, Nat.le_add_right c 1, Nat.le_add_right n 6, fun o ho => q_lw56 z L xs S c n i hx0 hx1 hx2 hx3 hi hv ho⟩
end
end
section
-- 58.ac
section
variable {z L : Nat} {xs : Nat → Int32} {S : q_S} {c n k : Nat} {i : Int32}
set_option maxHeartbeats 4000000 in
theorem q_lw57 (z L : Nat) (xs : Nat → Int32) (S : q_S) (c n : Nat) (i : Int32) (hx0 : q_in i L = true) (hx1 : q_in (i + 1) L = true) (hx2 : q_in (i + 2) L = true) (hx3 : q_in (i + 3) L = true) (hi : decide (Int32.ofNat L - 4 < i) = false) (hv : xs i.toNatClampNeg &&& 63 = 57) {o : q_Out} (h : q_Ru (q_TBs z L xs) 20 376 (23, [(4, .int (i + 4)), (3, .ref 270), (2, .ref 236), (1, .ref 64), (0, .ref 0)], [], (q_kL S c n)) o) : q_Ru (q_TBs z L xs) 20 376 (23, [(4, .int i), (3, .ref 270), (2, .ref 236), (1, .ref 64), (0, .ref 0)], [], (q_kL S c n)) o := by
  refine q_Ru_seg (g2 := (29, [(4, .int i), (3, .ref 270), (2, .ref 236), (1, .ref 64), (0, .ref 0)], [.int ((Int32.ofNat L) - 4), .int i], (q_kL S c n))) 5 (fun _ _ => rfl) ?_
  refine q_Ru_rsF (g2 := (32, [(4, .int i), (3, .ref 270), (2, .ref 236), (1, .ref 64), (0, .ref 0)], [], (q_kL S c n))) rfl rfl hi ?_
  refine q_Ru_seg (g2 := (35, [(4, .int i), (3, .ref 270), (2, .ref 236), (1, .ref 64), (0, .ref 0)], [.int i, .ref 0], (q_kL S c n))) 2 (fun _ _ => rfl) ?_
  refine q_Ru_rsT (g2 := (36, [(4, .int i), (3, .ref 270), (2, .ref 236), (1, .ref 64), (0, .ref 0)], [.int (xs (i.toNatClampNeg))], (q_kL S c n))) rfl rfl hx0 ?_
  refine q_Ru_seg (g2 := (39, [(4, .int i), (3, .ref 270), (2, .ref 236), (1, .ref 64), (0, .ref 0)], [.int ((xs (i.toNatClampNeg)) &&& 63)], (q_kL S c n))) 2 (fun _ _ => rfl) ?_
  rw [hv]
  refine q_Ru_seg (g2 := (23, [(4, .int (i + 4)), (3, .ref 270), (2, .ref 236), (1, .ref 64), (0, .ref 0)], [], (q_kL S c n))) 3 (fun _ _ => rfl) ?_
  exact q_Ru_xt (q_xt_mk (q_mn1 0 rfl (q_mn1 1 rfl (q_mn1 2 rfl (q_mn1 3 rfl (q_mn1 4 rfl q_mn0))))) rfl) h
theorem q_st57 (h : q_IV k S) (hk : k < 512) (hx : q_XS L i) (hv : xs i.toNatClampNeg &&& 63 = 57) : q_NX z L xs i S c n k := by
  obtain ⟨hx0, hx1, hx2, hx3, hi⟩ := hx
  exact ⟨_, _, _, q_nop h, Nat.le_add_right c 1, Nat.le_add_right n 6, fun o ho => q_lw57 z L xs S c n i hx0 hx1 hx2 hx3 hi hv ho⟩
set_option maxHeartbeats 4000000 in
theorem q_lw58 (z L : Nat) (xs : Nat → Int32) (S : q_S) (c n : Nat) (i : Int32) (hx0 : q_in i L = true) (hx1 : q_in (i + 1) L = true) (hx2 : q_in (i + 2) L = true) (hx3 : q_in (i + 3) L = true) (hi : decide (Int32.ofNat L - 4 < i) = false) (hv : xs i.toNatClampNeg &&& 63 = 58) {o : q_Out} (h : q_Ru (q_TBs z L xs) 20 376 (23, [(4, .int (i + 4)), (3, .ref 270), (2, .ref 236), (1, .ref 64), (0, .ref 0)], [], (q_kL S c n)) o) : q_Ru (q_TBs z L xs) 20 376 (23, [(4, .int i), (3, .ref 270), (2, .ref 236), (1, .ref 64), (0, .ref 0)], [], (q_kL S c n)) o := by
  refine q_Ru_seg (g2 := (29, [(4, .int i), (3, .ref 270), (2, .ref 236), (1, .ref 64), (0, .ref 0)], [.int ((Int32.ofNat L) - 4), .int i], (q_kL S c n))) 5 (fun _ _ => rfl) ?_
  refine q_Ru_rsF (g2 := (32, [(4, .int i), (3, .ref 270), (2, .ref 236), (1, .ref 64), (0, .ref 0)], [], (q_kL S c n))) rfl rfl hi ?_
  refine q_Ru_seg (g2 := (35, [(4, .int i), (3, .ref 270), (2, .ref 236), (1, .ref 64), (0, .ref 0)], [.int i, .ref 0], (q_kL S c n))) 2 (fun _ _ => rfl) ?_
  refine q_Ru_rsT (g2 := (36, [(4, .int i), (3, .ref 270), (2, .ref 236), (1, .ref 64), (0, .ref 0)], [.int (xs (i.toNatClampNeg))], (q_kL S c n))) rfl rfl hx0 ?_
  refine q_Ru_seg (g2 := (39, [(4, .int i), (3, .ref 270), (2, .ref 236), (1, .ref 64), (0, .ref 0)], [.int ((xs (i.toNatClampNeg)) &&& 63)], (q_kL S c n))) 2 (fun _ _ => rfl) ?_
  rw [hv]
  refine q_Ru_seg (g2 := (23, [(4, .int (i + 4)), (3, .ref 270), (2, .ref 236), (1, .ref 64), (0, .ref 0)], [], (q_kL S c n))) 3 (fun _ _ => rfl) ?_
  exact q_Ru_xt (q_xt_mk (q_mn1 0 rfl (q_mn1 1 rfl (q_mn1 2 rfl (q_mn1 3 rfl (q_mn1 4 rfl q_mn0))))) rfl) h
theorem q_st58 (h : q_IV k S) (hk : k < 512) (hx : q_XS L i) (hv : xs i.toNatClampNeg &&& 63 = 58) : q_NX z L xs i S c n k := by
  obtain ⟨hx0, hx1, hx2, hx3, hi⟩ := hx
  exact ⟨_, _, _, q_nop h, Nat.le_add_right c 1, Nat.le_add_right n 6, fun o ho => q_lw58 z L xs S c n i hx0 hx1 hx2 hx3 hi hv ho⟩
set_option maxHeartbeats 4000000 in
theorem q_lw59 (z L : Nat) (xs : Nat → Int32) (S : q_S) (c n : Nat) (i : Int32) (hx0 : q_in i L = true) (hx1 : q_in (i + 1) L = true) (hx2 : q_in (i + 2) L = true) (hx3 : q_in (i + 3) L = true) (hi : decide (Int32.ofNat L - 4 < i) = false) (hv : xs i.toNatClampNeg &&& 63 = 59) {o : q_Out} (h : q_Ru (q_TBs z L xs) 20 376 (23, [(4, .int (i + 4)), (3, .ref 270), (2, .ref 236), (1, .ref 64), (0, .ref 0)], [], (q_kL S c n)) o) : q_Ru (q_TBs z L xs) 20 376 (23, [(4, .int i), (3, .ref 270), (2, .ref 236), (1, .ref 64), (0, .ref 0)], [], (q_kL S c n)) o := by
  refine q_Ru_seg (g2 := (29, [(4, .int i), (3, .ref 270), (2, .ref 236), (1, .ref 64), (0, .ref 0)], [.int ((Int32.ofNat L) - 4), .int i], (q_kL S c n))) 5 (fun _ _ => rfl) ?_
  refine q_Ru_rsF (g2 := (32, [(4, .int i), (3, .ref 270), (2, .ref 236), (1, .ref 64), (0, .ref 0)], [], (q_kL S c n))) rfl rfl hi ?_
  refine q_Ru_seg (g2 := (35, [(4, .int i), (3, .ref 270), (2, .ref 236), (1, .ref 64), (0, .ref 0)], [.int i, .ref 0], (q_kL S c n))) 2 (fun _ _ => rfl) ?_
  refine q_Ru_rsT (g2 := (36, [(4, .int i), (3, .ref 270), (2, .ref 236), (1, .ref 64), (0, .ref 0)], [.int (xs (i.toNatClampNeg))], (q_kL S c n))) rfl rfl hx0 ?_
  refine q_Ru_seg (g2 := (39, [(4, .int i), (3, .ref 270), (2, .ref 236), (1, .ref 64), (0, .ref 0)], [.int ((xs (i.toNatClampNeg)) &&& 63)], (q_kL S c n))) 2 (fun _ _ => rfl) ?_
  rw [hv]
  refine q_Ru_seg (g2 := (23, [(4, .int (i + 4)), (3, .ref 270), (2, .ref 236), (1, .ref 64), (0, .ref 0)], [], (q_kL S c n))) 3 (fun _ _ => rfl) ?_
  exact q_Ru_xt (q_xt_mk (q_mn1 0 rfl (q_mn1 1 rfl (q_mn1 2 rfl (q_mn1 3 rfl (q_mn1 4 rfl q_mn0))))) rfl) h
theorem q_st59 (h : q_IV k S) (hk : k < 512) (hx : q_XS L i) (hv : xs i.toNatClampNeg &&& 63 = 59) : q_NX z L xs i S c n k := by
  obtain ⟨hx0, hx1, hx2, hx3, hi⟩ := hx
  exact ⟨_, _, _, q_nop h, Nat.le_add_right c 1, Nat.le_add_right n 6, fun o ho => q_lw59 z L xs S c n i hx0 hx1 hx2 hx3 hi hv ho⟩
set_option maxHeartbeats 4000000 in
theorem q_lw60 (z L : Nat) (xs : Nat → Int32) (S : q_S) (c n : Nat) (i : Int32) (hx0 : q_in i L = true) (hx1 : q_in (i + 1) L = true) (hx2 : q_in (i + 2) L = true) (hx3 : q_in (i + 3) L = true) (hi : decide (Int32.ofNat L - 4 < i) = false) (hv : xs i.toNatClampNeg &&& 63 = 60) {o : q_Out} (h : q_Ru (q_TBs z L xs) 20 376 (23, [(4, .int (i + 4)), (3, .ref 270), (2, .ref 236), (1, .ref 64), (0, .ref 0)], [], (q_kL S c n)) o) : q_Ru (q_TBs z L xs) 20 376 (23, [(4, .int i), (3, .ref 270), (2, .ref 236), (1, .ref 64), (0, .ref 0)], [], (q_kL S c n)) o := by
  refine q_Ru_seg (g2 := (29, [(4, .int i), (3, .ref 270), (2, .ref 236), (1, .ref 64), (0, .ref 0)], [.int ((Int32.ofNat L) - 4), .int i], (q_kL S c n))) 5 (fun _ _ => rfl) ?_
  refine q_Ru_rsF (g2 := (32, [(4, .int i), (3, .ref 270), (2, .ref 236), (1, .ref 64), (0, .ref 0)], [], (q_kL S c n))) rfl rfl hi ?_
  refine q_Ru_seg (g2 := (35, [(4, .int i), (3, .ref 270), (2, .ref 236), (1, .ref 64), (0, .ref 0)], [.int i, .ref 0], (q_kL S c n))) 2 (fun _ _ => rfl) ?_
  refine q_Ru_rsT (g2 := (36, [(4, .int i), (3, .ref 270), (2, .ref 236), (1, .ref 64), (0, .ref 0)], [.int (xs (i.toNatClampNeg))], (q_kL S c n))) rfl rfl hx0 ?_
  refine q_Ru_seg (g2 := (39, [(4, .int i), (3, .ref 270), (2, .ref 236), (1, .ref 64), (0, .ref 0)], [.int ((xs (i.toNatClampNeg)) &&& 63)], (q_kL S c n))) 2 (fun _ _ => rfl) ?_
  rw [hv]
  refine q_Ru_seg (g2 := (23, [(4, .int (i + 4)), (3, .ref 270), (2, .ref 236), (1, .ref 64), (0, .ref 0)], [], (q_kL S c n))) 3 (fun _ _ => rfl) ?_
  exact q_Ru_xt (q_xt_mk (q_mn1 0 rfl (q_mn1 1 rfl (q_mn1 2 rfl (q_mn1 3 rfl (q_mn1 4 rfl q_mn0))))) rfl) h
theorem q_st60 (h : q_IV k S) (hk : k < 512) (hx : q_XS L i) (hv : xs i.toNatClampNeg &&& 63 = 60) : q_NX z L xs i S c n k := by
  obtain ⟨hx0, hx1, hx2, hx3, hi⟩ := hx
  exact ⟨_, _, _, q_nop h, Nat.le_add_right c 1, Nat.le_add_right n 6, fun o ho => q_lw60 z L xs S c n i hx0 hx1 hx2 hx3 hi hv ho⟩
set_option maxHeartbeats 4000000 in
theorem q_lw61 (z L : Nat) (xs : Nat → Int32) (S : q_S) (c n : Nat) (i : Int32) (hx0 : q_in i L = true) (hx1 : q_in (i + 1) L = true) (hx2 : q_in (i + 2) L = true) (hx3 : q_in (i + 3) L = true) (hi : decide (Int32.ofNat L - 4 < i) = false) (hv : xs i.toNatClampNeg &&& 63 = 61) {o : q_Out} (h : q_Ru (q_TBs z L xs) 20 376 (23, [(4, .int (i + 4)), (3, .ref 270), (2, .ref 236), (1, .ref 64), (0, .ref 0)], [], (q_kL S c n)) o) : q_Ru (q_TBs z L xs) 20 376 (23, [(4, .int i), (3, .ref 270), (2, .ref 236), (1, .ref 64), (0, .ref 0)], [], (q_kL S c n)) o := by
  refine q_Ru_seg (g2 := (29, [(4, .int i), (3, .ref 270), (2, .ref 236), (1, .ref 64), (0, .ref 0)], [.int ((Int32.ofNat L) - 4), .int i], (q_kL S c n))) 5 (fun _ _ => rfl) ?_
  refine q_Ru_rsF (g2 := (32, [(4, .int i), (3, .ref 270), (2, .ref 236), (1, .ref 64), (0, .ref 0)], [], (q_kL S c n))) rfl rfl hi ?_
  refine q_Ru_seg (g2 := (35, [(4, .int i), (3, .ref 270), (2, .ref 236), (1, .ref 64), (0, .ref 0)], [.int i, .ref 0], (q_kL S c n))) 2 (fun _ _ => rfl) ?_
  refine q_Ru_rsT (g2 := (36, [(4, .int i), (3, .ref 270), (2, .ref 236), (1, .ref 64), (0, .ref 0)], [.int (xs (i.toNatClampNeg))], (q_kL S c n))) rfl rfl hx0 ?_
  refine q_Ru_seg (g2 := (39, [(4, .int i), (3, .ref 270), (2, .ref 236), (1, .ref 64), (0, .ref 0)], [.int ((xs (i.toNatClampNeg)) &&& 63)], (q_kL S c n))) 2 (fun _ _ => rfl) ?_
  rw [hv]
  refine q_Ru_seg (g2 := (23, [(4, .int (i + 4)), (3, .ref 270), (2, .ref 236), (1, .ref 64), (0, .ref 0)], [], (q_kL S c n))) 3 (fun _ _ => rfl) ?_
  exact q_Ru_xt (q_xt_mk (q_mn1 0 rfl (q_mn1 1 rfl (q_mn1 2 rfl (q_mn1 3 rfl (q_mn1 4 rfl q_mn0))))) rfl) h
theorem q_st61 (h : q_IV k S) (hk : k < 512) (hx : q_XS L i) (hv : xs i.toNatClampNeg &&& 63 = 61) : q_NX z L xs i S c n k := by
  obtain ⟨hx0, hx1, hx2, hx3, hi⟩ := hx
  exact ⟨_, _, _, q_nop h, Nat.le_add_right c 1, Nat.le_add_right n 6, fun o ho => q_lw61 z L xs S c n i hx0 hx1 hx2 hx3 hi hv ho⟩
set_option maxHeartbeats 4000000 in
theorem q_lw62 (z L : Nat) (xs : Nat → Int32) (S : q_S) (c n : Nat) (i : Int32) (hx0 : q_in i L = true) (hx1 : q_in (i + 1) L = true) (hx2 : q_in (i + 2) L = true) (hx3 : q_in (i + 3) L = true) (hi : decide (Int32.ofNat L - 4 < i) = false) (hv : xs i.toNatClampNeg &&& 63 = 62) {o : q_Out} (h : q_Ru (q_TBs z L xs) 20 376 (23, [(4, .int (i + 4)), (3, .ref 270), (2, .ref 236), (1, .ref 64), (0, .ref 0)], [], (q_kL S c n)) o) : q_Ru (q_TBs z L xs) 20 376 (23, [(4, .int i), (3, .ref 270), (2, .ref 236), (1, .ref 64), (0, .ref 0)], [], (q_kL S c n)) o := by
  refine q_Ru_seg (g2 := (29, [(4, .int i), (3, .ref 270), (2, .ref 236), (1, .ref 64), (0, .ref 0)], [.int ((Int32.ofNat L) - 4), .int i], (q_kL S c n))) 5 (fun _ _ => rfl) ?_
  refine q_Ru_rsF (g2 := (32, [(4, .int i), (3, .ref 270), (2, .ref 236), (1, .ref 64), (0, .ref 0)], [], (q_kL S c n))) rfl rfl hi ?_
  refine q_Ru_seg (g2 := (35, [(4, .int i), (3, .ref 270), (2, .ref 236), (1, .ref 64), (0, .ref 0)], [.int i, .ref 0], (q_kL S c n))) 2 (fun _ _ => rfl) ?_
  refine q_Ru_rsT (g2 := (36, [(4, .int i), (3, .ref 270), (2, .ref 236), (1, .ref 64), (0, .ref 0)], [.int (xs (i.toNatClampNeg))], (q_kL S c n))) rfl rfl hx0 ?_
  refine q_Ru_seg (g2 := (39, [(4, .int i), (3, .ref 270), (2, .ref 236), (1, .ref 64), (0, .ref 0)], [.int ((xs (i.toNatClampNeg)) &&& 63)], (q_kL S c n))) 2 (fun _ _ => rfl) ?_
  rw [hv]
  refine q_Ru_seg (g2 := (23, [(4, .int (i + 4)), (3, .ref 270), (2, .ref 236), (1, .ref 64), (0, .ref 0)], [], (q_kL S c n))) 3 (fun _ _ => rfl) ?_
  exact q_Ru_xt (q_xt_mk (q_mn1 0 rfl (q_mn1 1 rfl (q_mn1 2 rfl (q_mn1 3 rfl (q_mn1 4 rfl q_mn0))))) rfl) h
theorem q_st62 (h : q_IV k S) (hk : k < 512) (hx : q_XS L i) (hv : xs i.toNatClampNeg &&& 63 = 62) : q_NX z L xs i S c n k := by
  obtain ⟨hx0, hx1, hx2, hx3, hi⟩ := hx
  exact ⟨_, _, _, q_nop h, Nat.le_add_right c 1, Nat.le_add_right n 6, fun o ho => q_lw62 z L xs S c n i hx0 hx1 hx2 hx3 hi hv ho⟩
set_option maxHeartbeats 4000000 in
theorem q_lw63 (z L : Nat) (xs : Nat → Int32) (S : q_S) (c n : Nat) (i : Int32) (hx0 : q_in i L = true) (hx1 : q_in (i + 1) L = true) (hx2 : q_in (i + 2) L = true) (hx3 : q_in (i + 3) L = true) (hi : decide (Int32.ofNat L - 4 < i) = false) (hv : xs i.toNatClampNeg &&& 63 = 63) {o : q_Out} (h : q_Ru (q_TBs z L xs) 20 376 (23, [(4, .int (i + 4)), (3, .ref 270), (2, .ref 236), (1, .ref 64), (0, .ref 0)], [], (q_kL S c n)) o) : q_Ru (q_TBs z L xs) 20 376 (23, [(4, .int i), (3, .ref 270), (2, .ref 236), (1, .ref 64), (0, .ref 0)], [], (q_kL S c n)) o := by
  refine q_Ru_seg (g2 := (29, [(4, .int i), (3, .ref 270), (2, .ref 236), (1, .ref 64), (0, .ref 0)], [.int ((Int32.ofNat L) - 4), .int i], (q_kL S c n))) 5 (fun _ _ => rfl) ?_
  refine q_Ru_rsF (g2 := (32, [(4, .int i), (3, .ref 270), (2, .ref 236), (1, .ref 64), (0, .ref 0)], [], (q_kL S c n))) rfl rfl hi ?_
  refine q_Ru_seg (g2 := (35, [(4, .int i), (3, .ref 270), (2, .ref 236), (1, .ref 64), (0, .ref 0)], [.int i, .ref 0], (q_kL S c n))) 2 (fun _ _ => rfl) ?_
  refine q_Ru_rsT (g2 := (36, [(4, .int i), (3, .ref 270), (2, .ref 236), (1, .ref 64), (0, .ref 0)], [.int (xs (i.toNatClampNeg))], (q_kL S c n))) rfl rfl hx0 ?_
  refine q_Ru_seg (g2 := (39, [(4, .int i), (3, .ref 270), (2, .ref 236), (1, .ref 64), (0, .ref 0)], [.int ((xs (i.toNatClampNeg)) &&& 63)], (q_kL S c n))) 2 (fun _ _ => rfl) ?_
  rw [hv]
  refine q_Ru_seg (g2 := (23, [(4, .int (i + 4)), (3, .ref 270), (2, .ref 236), (1, .ref 64), (0, .ref 0)], [], (q_kL S c n))) 3 (fun _ _ => rfl) ?_
  exact q_Ru_xt (q_xt_mk (q_mn1 0 rfl (q_mn1 1 rfl (q_mn1 2 rfl (q_mn1 3 rfl (q_mn1 4 rfl q_mn0))))) rfl) h
theorem q_st63 (h : q_IV k S) (hk : k < 512) (hx : q_XS L i) (hv : xs i.toNatClampNeg &&& 63 = 63) : q_NX z L xs i S c n k := by
  obtain ⟨hx0, hx1, hx2, hx3, hi⟩ := hx
  exact ⟨_, _, _, q_nop h, Nat.le_add_right c 1, Nat.le_add_right n 6, fun o ho => q_lw63 z L xs S c n i hx0 hx1 hx2 hx3 hi hv ho⟩
end
end
section
-- 58.b
section
variable {z L : Nat} {xs : Nat → Int32} {S : q_S} {c n k : Nat} {i : Int32}
theorem q_sall (h : q_IV k S) (hk : k < 512) (hx : q_XS L i) : q_NX z L xs i S c n k := by
  have r : q_rgz 0 63 (xs i.toNatClampNeg &&& 63) := q_rg_and (xs i.toNatClampNeg) 63 (by decide) rfl
  have r0 := r.1
  have r1 := r.2
  have key : ∀ j : Nat, j < 64 → (xs i.toNatClampNeg &&& 63).toInt = j → q_NX z L xs i S c n k := by
    intro j hj e
    by_cases g0_64 : j < 32
    · by_cases g0_32 : j < 16
      · by_cases g0_16 : j < 8
        · by_cases g0_8 : j < 4
          · by_cases g0_4 : j < 2
            · by_cases g0_2 : j < 1
              · exact q_st0 h hk hx (Int32.toInt_inj.mp (by show _ = (0 : Int); omega))
              · exact q_st1 h hk hx (Int32.toInt_inj.mp (by show _ = (1 : Int); omega))
            · by_cases g2_4 : j < 3
              · exact q_st2 h hk hx (Int32.toInt_inj.mp (by show _ = (2 : Int); omega))
              · exact q_st3 h hk hx (Int32.toInt_inj.mp (by show _ = (3 : Int); omega))
          · by_cases g4_8 : j < 6
            · by_cases g4_6 : j < 5
              · exact q_st4 h hk hx (Int32.toInt_inj.mp (by show _ = (4 : Int); omega))
              · exact q_st5 h hk hx (Int32.toInt_inj.mp (by show _ = (5 : Int); omega))
            · by_cases g6_8 : j < 7
              · exact q_st6 h hk hx (Int32.toInt_inj.mp (by show _ = (6 : Int); omega))
              · exact q_st7 h hk hx (Int32.toInt_inj.mp (by show _ = (7 : Int); omega))
        · by_cases g8_16 : j < 12
          · by_cases g8_12 : j < 10
            · by_cases g8_10 : j < 9
              · exact q_st8 h hk hx (Int32.toInt_inj.mp (by show _ = (8 : Int); omega))
              · exact q_st9 h hk hx (Int32.toInt_inj.mp (by show _ = (9 : Int); omega))
            · by_cases g10_12 : j < 11
              · exact q_st10 h hk hx (Int32.toInt_inj.mp (by show _ = (10 : Int); omega))
              · exact q_st11 h hk hx (Int32.toInt_inj.mp (by show _ = (11 : Int); omega))
          · by_cases g12_16 : j < 14
            · by_cases g12_14 : j < 13
              · exact q_st12 h hk hx (Int32.toInt_inj.mp (by show _ = (12 : Int); omega))
              · exact q_st13 h hk hx (Int32.toInt_inj.mp (by show _ = (13 : Int); omega))
            · by_cases g14_16 : j < 15
              · exact q_st14 h hk hx (Int32.toInt_inj.mp (by show _ = (14 : Int); omega))
              · exact q_st15 h hk hx (Int32.toInt_inj.mp (by show _ = (15 : Int); omega))
      · by_cases g16_32 : j < 24
        · by_cases g16_24 : j < 20
          · by_cases g16_20 : j < 18
            · by_cases g16_18 : j < 17
              · exact q_st16 h hk hx (Int32.toInt_inj.mp (by show _ = (16 : Int); omega))
              · exact q_st17 h hk hx (Int32.toInt_inj.mp (by show _ = (17 : Int); omega))
            · by_cases g18_20 : j < 19
              · exact q_st18 h hk hx (Int32.toInt_inj.mp (by show _ = (18 : Int); omega))
              · exact q_st19 h hk hx (Int32.toInt_inj.mp (by show _ = (19 : Int); omega))
          · by_cases g20_24 : j < 22
            · by_cases g20_22 : j < 21
              · exact q_st20 h hk hx (Int32.toInt_inj.mp (by show _ = (20 : Int); omega))
              · exact q_st21 h hk hx (Int32.toInt_inj.mp (by show _ = (21 : Int); omega))
            · by_cases g22_24 : j < 23
              · exact q_st22 h hk hx (Int32.toInt_inj.mp (by show _ = (22 : Int); omega))
              · exact q_st23 h hk hx (Int32.toInt_inj.mp (by show _ = (23 : Int); omega))
        · by_cases g24_32 : j < 28
          · by_cases g24_28 : j < 26
            · by_cases g24_26 : j < 25
              · exact q_st24 h hk hx (Int32.toInt_inj.mp (by show _ = (24 : Int); omega))
              · exact q_st25 h hk hx (Int32.toInt_inj.mp (by show _ = (25 : Int); omega))
            · by_cases g26_28 : j < 27
              · have hv : xs i.toNatClampNeg &&& 63 = 26 := Int32.toInt_inj.mp (by show _ = (26 : Int); omega)
                cases hc0 : decide (xs ((i + 3).toNatClampNeg) = 0) with
                | true => exact q_st26t h hk hx hv hc0
                | false => exact q_st26f h hk hx hv hc0
              · exact q_st27 h hk hx (Int32.toInt_inj.mp (by show _ = (27 : Int); omega))
          · by_cases g28_32 : j < 30
            · by_cases g28_30 : j < 29
              · exact q_st28 h hk hx (Int32.toInt_inj.mp (by show _ = (28 : Int); omega))
              · exact q_st29 h hk hx (Int32.toInt_inj.mp (by show _ = (29 : Int); omega))
            · by_cases g30_32 : j < 31
              · exact q_st30 h hk hx (Int32.toInt_inj.mp (by show _ = (30 : Int); omega))
              · exact q_st31 h hk hx (Int32.toInt_inj.mp (by show _ = (31 : Int); omega))
    · by_cases g32_64 : j < 48
      · by_cases g32_48 : j < 40
        · by_cases g32_40 : j < 36
          · by_cases g32_36 : j < 34
            · by_cases g32_34 : j < 33
              · exact q_st32 h hk hx (Int32.toInt_inj.mp (by show _ = (32 : Int); omega))
              · exact q_st33 h hk hx (Int32.toInt_inj.mp (by show _ = (33 : Int); omega))
            · by_cases g34_36 : j < 35
              · exact q_st34 h hk hx (Int32.toInt_inj.mp (by show _ = (34 : Int); omega))
              · exact q_st35 h hk hx (Int32.toInt_inj.mp (by show _ = (35 : Int); omega))
          · by_cases g36_40 : j < 38
            · by_cases g36_38 : j < 37
              · exact q_st36 h hk hx (Int32.toInt_inj.mp (by show _ = (36 : Int); omega))
              · exact q_st37 h hk hx (Int32.toInt_inj.mp (by show _ = (37 : Int); omega))
            · by_cases g38_40 : j < 39
              · exact q_st38 h hk hx (Int32.toInt_inj.mp (by show _ = (38 : Int); omega))
              · exact q_st39 h hk hx (Int32.toInt_inj.mp (by show _ = (39 : Int); omega))
        · by_cases g40_48 : j < 44
          · by_cases g40_44 : j < 42
            · by_cases g40_42 : j < 41
              · exact q_st40 h hk hx (Int32.toInt_inj.mp (by show _ = (40 : Int); omega))
              · exact q_st41 h hk hx (Int32.toInt_inj.mp (by show _ = (41 : Int); omega))
            · by_cases g42_44 : j < 43
              · exact q_st42 h hk hx (Int32.toInt_inj.mp (by show _ = (42 : Int); omega))
              · exact q_st43 h hk hx (Int32.toInt_inj.mp (by show _ = (43 : Int); omega))
          · by_cases g44_48 : j < 46
            · by_cases g44_46 : j < 45
              · exact q_st44 h hk hx (Int32.toInt_inj.mp (by show _ = (44 : Int); omega))
              · exact q_st45 h hk hx (Int32.toInt_inj.mp (by show _ = (45 : Int); omega))
            · by_cases g46_48 : j < 47
              · exact q_st46 h hk hx (Int32.toInt_inj.mp (by show _ = (46 : Int); omega))
              · exact q_st47 h hk hx (Int32.toInt_inj.mp (by show _ = (47 : Int); omega))
      · by_cases g48_64 : j < 56
        · by_cases g48_56 : j < 52
          · by_cases g48_52 : j < 50
            · by_cases g48_50 : j < 49
              · exact q_st48 h hk hx (Int32.toInt_inj.mp (by show _ = (48 : Int); omega))
              · exact q_st49 h hk hx (Int32.toInt_inj.mp (by show _ = (49 : Int); omega))
            · by_cases g50_52 : j < 51
              · exact q_st50 h hk hx (Int32.toInt_inj.mp (by show _ = (50 : Int); omega))
              · exact q_st51 h hk hx (Int32.toInt_inj.mp (by show _ = (51 : Int); omega))
          · by_cases g52_56 : j < 54
            · by_cases g52_54 : j < 53
              · exact q_st52 h hk hx (Int32.toInt_inj.mp (by show _ = (52 : Int); omega))
              · exact q_st53 h hk hx (Int32.toInt_inj.mp (by show _ = (53 : Int); omega))
            · by_cases g54_56 : j < 55
              · exact q_st54 h hk hx (Int32.toInt_inj.mp (by show _ = (54 : Int); omega))
              · exact q_st55 h hk hx (Int32.toInt_inj.mp (by show _ = (55 : Int); omega))
        · by_cases g56_64 : j < 60
          · by_cases g56_60 : j < 58
            · by_cases g56_58 : j < 57
              · exact q_st56 h hk hx (Int32.toInt_inj.mp (by show _ = (56 : Int); omega))
              · exact q_st57 h hk hx (Int32.toInt_inj.mp (by show _ = (57 : Int); omega))
            · by_cases g58_60 : j < 59
              · exact q_st58 h hk hx (Int32.toInt_inj.mp (by show _ = (58 : Int); omega))
              · exact q_st59 h hk hx (Int32.toInt_inj.mp (by show _ = (59 : Int); omega))
          · by_cases g60_64 : j < 62
            · by_cases g60_62 : j < 61
              · exact q_st60 h hk hx (Int32.toInt_inj.mp (by show _ = (60 : Int); omega))
              · exact q_st61 h hk hx (Int32.toInt_inj.mp (by show _ = (61 : Int); omega))
            · by_cases g62_64 : j < 63
              · exact q_st62 h hk hx (Int32.toInt_inj.mp (by show _ = (62 : Int); omega))
              · exact q_st63 h hk hx (Int32.toInt_inj.mp (by show _ = (63 : Int); omega))
  exact key (xs i.toNatClampNeg &&& 63).toInt.toNat (by omega) (by omega)
theorem q_lwA (hL : L ≤ 2048) : ∀ (t k : Nat) (i : Int32) (S : q_S) (c n : Nat), i.toInt = 4 * k → L ≤ 4 * (k + t) → k ≤ 512 → q_IV k S → ∃ S2 c2 n2, q_Ru (q_TBs z L xs) 20 376 (23, [(4, .int i), (3, .ref 270), (2, .ref 236), (1, .ref 64), (0, .ref 0)], [], (q_kL S c n)) (.inl (some (.int 1)), q_kL S2 c2 n2) ∧ c2 ≤ c + t ∧ n2 ≤ n + 6 * t := by
  intro t
  have e4 : (4 : Int32).toInt = 4 := rfl
  have eL : (Int32.ofNat L).toInt = L := Int32.toInt_ofNat_of_lt (by omega)
  have eLm : (Int32.ofNat L - 4).toInt = (L : Int) - 4 := by rw [q_subI ⟨by omega, by omega⟩ ⟨by decide, by decide⟩, eL]; rfl
  induction t with
  | zero =>
    intro k i S c n hi hk h5 h
    exact ⟨S, c, n, q_lwE z L xs S c n i (q_lt_T (by omega)), Nat.le_refl _, Nat.le_refl _⟩
  | succ t ih =>
    intro k i S c n hi hk h5 h
    by_cases q : (L : Int) - 4 < i.toInt
    · exact ⟨S, c, n, q_lwE z L xs S c n i (q_lt_T (by omega)), by omega, by omega⟩
    · have e1 : (i + 1).toInt = i.toInt + 1 := q_addI ⟨by omega, by omega⟩ ⟨by decide, by decide⟩
      have e2 : (i + 2).toInt = i.toInt + 2 := q_addI ⟨by omega, by omega⟩ ⟨by decide, by decide⟩
      have e3 : (i + 3).toInt = i.toInt + 3 := q_addI ⟨by omega, by omega⟩ ⟨by decide, by decide⟩
      have e9 : (i + 4).toInt = i.toInt + 4 := q_addI ⟨by omega, by omega⟩ ⟨by decide, by decide⟩
      have hx : q_XS L i := ⟨q_in_rg (l := 0) (u := (L : Int) - 1) ⟨by omega, by omega⟩ (by decide) (by omega), q_in_rg (l := 0) (u := (L : Int) - 1) ⟨by omega, by omega⟩ (by decide) (by omega), q_in_rg (l := 0) (u := (L : Int) - 1) ⟨by omega, by omega⟩ (by decide) (by omega), q_in_rg (l := 0) (u := (L : Int) - 1) ⟨by omega, by omega⟩ (by decide) (by omega), q_lt_F (by omega)⟩
      obtain ⟨S2, c2, n2, g1, g2, g3, g4⟩ := q_sall (z := z) (xs := xs) (c := c) (n := n) h (by omega) hx
      obtain ⟨S3, c3, n3, f1, f2, f3⟩ := ih (k + 1) (i + 4) S2 c2 n2 (by omega) (by omega) (by omega) g1
      exact ⟨S3, c3, n3, g4 _ f1, by omega, by omega⟩
end
end
section
-- 58.c
theorem q_run : ∀ (z L : Nat) (xs : Nat → Int32), (z = 98 ∨ z = 99) → L ≤ 2048 → ∃ (n d : Nat) (h : q_H), d ≤ 800 ∧ q_loop (q_exec q_mt (q_mtab (q_TBs z L xs)) n d) (q_mtab (q_TBs z L xs) 376) n (0, [(0, .ref 0)], [], ([], 0, 0)) = some (.inl (some (.int 1)), h) ∧ h.2.1 ≤ 601024 ∧ h.2.2 ≤ 7293034 := by
  intro z L xs _ hL
  obtain ⟨S2, c2, n2, ⟨n, e⟩, g1, g2⟩ : ∃ S2 c2 n2, q_Ru (q_TBs z L xs) 20 376 (0, [(0, .ref 0)], [], ([], 0, 0)) (.inl (some (.int 1)), q_kL S2 c2 n2) ∧ c2 ≤ 207 + 512 ∧ n2 ≤ 149582 + 6 * 512 := by
    obtain ⟨S2, c2, n2, e, g1, g2⟩ := q_lwA (z := z) (xs := xs) hL 512 0 0 q_SL0 207 149582 (by decide) (by omega) (by decide) q_IV0
    exact ⟨S2, c2, n2, q_lwS e, by omega, by omega⟩
  exact ⟨n, 20, q_kL S2 c2 n2, by decide, e, by show c2 ≤ 601024; omega, by show n2 ≤ 7293034; omega⟩
end
