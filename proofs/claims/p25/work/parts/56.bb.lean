section
-- 56.bb
section
variable {TT : (Nat → Int32) → Int32 → (Nat → Int32) → Int32 → Int64 → Int64 → List Int32 → List (Nat → Int32) → (Nat → Int64) → Prop} {x y z m m2 b b2 : q_S} {c d w k : Int} {n : Nat}
theorem q_wL13 (h : q_WL c d m n b z) (hn : n + 3 ≤ 16) (v : Int32) (hv : q_rgz 0 117 v) (f : Nat) : ∃ b2 z1 z2 z3, dz_B193_64_62_13 (f + 4) b v v = some b2 ∧ dz_M280_64 z (q_o5.getD v.toInt.toNat 0) = some z1 ∧ dz_M280_64 z1 (q_o5.getD (v.toInt.toNat + 1) 0) = some z2 ∧ dz_M280_64 z2 (q_o5.getD (v.toInt.toNat + 2) 0) = some z3 ∧ q_WL c d m (n + 3) b2 z3 := by
  have v0 := hv.1
  have v1 := hv.2
  have t0 := q_yt345b v.toInt.toNat (by omega)
  have t1 := q_yt345b (v.toInt.toNat + 1) (by omega)
  have t2 := q_yt345b (v.toInt.toNat + 2) (by omega)
  have i1 : (v + 1).toInt = v.toInt + 1 := q_addI ⟨by omega, by omega⟩ ⟨by decide, by decide⟩
  have i2 : (v + 1 + 1).toInt = v.toInt + 2 := by rw [q_addI ⟨by omega, by omega⟩ ⟨by decide, by decide⟩, i1]; show v.toInt + 1 + 1 = _; omega
  have i3 : (v + 1 + 1 + 1).toInt = v.toInt + 3 := by rw [q_addI ⟨by omega, by omega⟩ ⟨by decide, by decide⟩, i2]; show v.toInt + 2 + 1 = _; omega
  have i9 : (v + 2).toInt = v.toInt + 2 := q_addI ⟨by omega, by omega⟩ ⟨by decide, by decide⟩
  rw [q_ofn (u := 117) hv] at t0
  rw [show v.toInt.toNat + 1 = (v + 1).toInt.toNat by omega, q_ofn (u := 118) ⟨by omega, by omega⟩] at t1
  rw [show v.toInt.toNat + 2 = (v + 1 + 1).toInt.toNat by omega, q_ofn (u := 119) ⟨by omega, by omega⟩] at t2
  rw [show v.toInt.toNat + 1 = (v + 1).toInt.toNat by omega, show v.toInt.toNat + 2 = (v + 1 + 1).toInt.toNat by omega]
  obtain ⟨p1, m1, w1⟩ := q_wC h (by omega) _ t0.2
  obtain ⟨p2, m2, w2⟩ := q_wC w1 (by omega) _ t1.2
  obtain ⟨p3, m3, w3⟩ := q_wC w2 (by omega) _ t2.2
  refine ⟨_, _, _, _, ?_, m1, m2, m3, w3⟩
  have u0 : ∀ s, dz_B345_13 s v = some (q_o5.getD v.toInt.toNat 0) := fun s => t0.1
  have u1 : ∀ s, dz_B345_13 s (v + 1) = some (q_o5.getD (v + 1).toInt.toNat 0) := fun s => t1.1
  have u2 : ∀ s, dz_B345_13 s (v + 1 + 1) = some (q_o5.getD (v + 1 + 1).toInt.toNat 0) := fun s => t2.1
  rw [dzs_B193_64_62_13]
  dsimp only
  rw [q_lt_F (show v.toInt ≤ (v + 2).toInt by omega), cond_false, u0, Option.bind_some, p1, Option.bind_some, dzs_B193_64_62_13]
  dsimp only
  rw [q_lt_F (show (v + 1).toInt ≤ (v + 2).toInt by omega), cond_false, u1, Option.bind_some, p2, Option.bind_some, dzs_B193_64_62_13]
  dsimp only
  rw [q_lt_F (show (v + 1 + 1).toInt ≤ (v + 2).toInt by omega), cond_false, u2, Option.bind_some, p3, Option.bind_some, dzs_B193_64_62_13]
  dsimp only
  rw [q_lt_T (show (v + 2).toInt < (v + 1 + 1 + 1).toInt by omega)]
  rfl
theorem q_w282b {v : Int32} {op : Int32} {z1 z2 z3 : q_S} (hop : decide (op < 0) = true) (hv : q_rgz 0 117 (3 * (v - 128))) (e1 : dz_M280_64 z (q_o5.getD (3 * (v - 128)).toInt.toNat 0) = some z1) (e2 : dz_M280_64 z1 (q_o5.getD ((3 * (v - 128)).toInt.toNat + 1) 0) = some z2) (e3 : dz_M280_64 z2 (q_o5.getD ((3 * (v - 128)).toInt.toNat + 2) 0) = some z3) (f : Nat) : dz_M282_64_7 (f + 4) z v op 0 = some z3 := by
  have v0 := hv.1
  have v1 := hv.2
  have i0 : ((3 * (v - 128)) + 0).toInt = (3 * (v - 128)).toInt := by rw [Int32.add_zero]
  have i1 : ((3 * (v - 128)) + 1).toInt = (3 * (v - 128)).toInt + 1 := q_addI ⟨by omega, by omega⟩ ⟨by decide, by decide⟩
  have i2 : ((3 * (v - 128)) + 2).toInt = (3 * (v - 128)).toInt + 2 := q_addI ⟨by omega, by omega⟩ ⟨by decide, by decide⟩
  have n0 : ((3 * (v - 128)) + 0).toNatClampNeg = (3 * (v - 128)).toInt.toNat := by rw [Int32.add_zero]; rfl
  have n1 : ((3 * (v - 128)) + 1).toNatClampNeg = (3 * (v - 128)).toInt.toNat + 1 := by show ((3 * (v - 128)) + 1).toInt.toNat = _; omega
  have n2 : ((3 * (v - 128)) + 2).toNatClampNeg = (3 * (v - 128)).toInt.toNat + 2 := by show ((3 * (v - 128)) + 2).toInt.toNat = _; omega
  rw [dzs_M282_64_7]
  dsimp only
  rw [show decide ((0 : Int32) < 3) = true by decide, cond_true, hop, cond_true, q_in_rg (x := (3 * (v - 128)) + 0) (n := 120) (l := 0) (u := 119) ⟨by omega, by omega⟩ (by decide) (by decide), cond_true, n0, e1, Option.bind_some, show (0 : Int32) + 1 = 1 by decide, dzs_M282_64_7]
  dsimp only
  rw [show decide ((1 : Int32) < 3) = true by decide, cond_true, hop, cond_true, q_in_rg (x := (3 * (v - 128)) + 1) (n := 120) (l := 0) (u := 119) ⟨by omega, by omega⟩ (by decide) (by decide), cond_true, n1, e2, Option.bind_some, show (1 : Int32) + 1 = 2 by decide, dzs_M282_64_7]
  dsimp only
  rw [show decide ((2 : Int32) < 3) = true by decide, cond_true, hop, cond_true, q_in_rg (x := (3 * (v - 128)) + 2) (n := 120) (l := 0) (u := 119) ⟨by omega, by omega⟩ (by decide) (by decide), cond_true, n2, e3, Option.bind_some, show (2 : Int32) + 1 = 3 by decide, dzs_M282_64_7]
  rfl
theorem q_lnc (s : q_S) {a : Int32} (ha : q_rgz 0 255 a) : (dz_M285 s a = true → dz_N190 s a = 1 ∧ dz_B185 s a = -1 ∧ decide (3 * (a - 128) < 0) = false ∧ decide (3 * (a - 128) + 2 < 120) = false) ∧ (dz_M285 s a = false → decide (dz_M244 s a < 0) = true → dz_B185 s a = -1 ∧ decide (3 * (a - 128) < 0) = false ∧ decide (3 * (a - 128) + 2 < 120) = true ∧ q_rgz 0 117 (3 * (a - 128)) ∧ 128 ≤ a.toInt ∧ a.toInt < 168) ∧ (decide (dz_M244 s a < 0) = false → dz_B185 s a = dz_M244 s a ∧ decide (3 * dz_M244 s a < 0) = false ∧ decide (3 * dz_M244 s a + 2 < 63) = true ∧ q_rgz 0 60 (3 * dz_M244 s a) ∧ dz_N187 s a = false ∧ dz_N196 s a = a - a / 8 * 8 ∧ q_rgz 0 7 (a - a / 8 * 8) ∧ dz_M285 s a = false ∧ dz_N190 s a = cond (dz_M202 s (a - a / 8 * 8) 3 5) 3 2) := by
  have a0 := ha.1
  have a1 := ha.2
  have tA := q_tlnA a.toInt.toNat (by omega)
  have tB := q_tlnB a.toInt.toNat (by omega)
  have tC := q_tlnC a.toInt.toNat (by omega)
  have tD := q_tlnD a.toInt.toNat (by omega)
  rw [q_ofn ha] at tA tB tC tD
  refine ⟨tA, fun h1 h2 => ?_, fun h1 => ?_⟩
  · obtain ⟨b1, b2, b3, b4, b5, b6⟩ := tB h1 h2
    exact ⟨b1, b2, b3, b4, by omega, by omega⟩
  · obtain ⟨c1, c2, c3, c4, c5⟩ := tC h1
    obtain ⟨d1, d2, d3, d4⟩ := tD h1
    exact ⟨c1, c2, c3, ⟨c4, c5⟩, d1, d2, q_rg_rem (c := 8) ha (by decide) rfl (by decide) (by decide), d3, d4⟩
end
end
section
-- 56.bc
section
variable {TT : (Nat → Int32) → Int32 → (Nat → Int32) → Int32 → Int64 → Int64 → List Int32 → List (Nat → Int32) → (Nat → Int64) → Prop} {x y z m m2 b b2 : q_S} {c d w k : Int} {n : Nat}
/-- the name of a code -/
theorem q_wN (h : q_WL c d m n b z) (hn : n + 3 ≤ 16) (a : Int32) (ha : q_rgz 0 255 a) (hj : dz_M285 z a = false) : ∃ b2 z2, dz_B193_64 b a = some b2 ∧ dz_M282_64 z a = some z2 ∧ q_WL c d m (n + 3) b2 z2 := by
  obtain ⟨-, t2, t3⟩ := q_lnc z ha
  cases ho : decide (dz_M244 z a < 0) with
  | true =>
    obtain ⟨g1, g2, g3, g4, -, -⟩ := t2 hj ho
    obtain ⟨b2, z1, z2, z3, e1, e2, e3, e4, e5⟩ := q_wL13 h hn (3 * (a - 128)) g4 4996
    have g1' : dz_B185 b a = -1 := g1
    refine ⟨b2, z3, ?_, q_w282b ho g4 e2 e3 e4 4996, e5⟩
    unfold dz_B193_64 q_let
    dsimp only
    rw [g1', show decide ((-1 : Int32) < 0) = true by decide, cond_true, g2, cond_false, show dz_B344_13 b = 120 by show ((120 : Int32) >>> ((0 : Int32) &&& 31)) = 120; decide, g3, cond_true]
    exact e1
  | false =>
    obtain ⟨g1, g2, g3, g4, -⟩ := t3 ho
    obtain ⟨b2, z1, z2, z3, e1, e2, e3, e4, e5⟩ := q_wL12 h hn (3 * dz_M244 z a) g4 4996
    have g1' : dz_B185 b a = dz_M244 z a := g1
    refine ⟨b2, z3, ?_, q_w282a ho g4 e2 e3 e4 4996, e5⟩
    unfold dz_B193_64 q_let
    dsimp only
    rw [g1', ho, cond_false, g2, cond_false, show dz_B344_12 b = 63 by show ((63 : Int32) >>> ((0 : Int32) &&& 31)) = 63; decide, g3, cond_true]
    exact e1
/-- a code that jams -/
theorem q_wJ (h : q_WL c d m n b z) (hn : n + 3 ≤ 16) (a : Int32) (ha : q_rgz 0 255 a) (hj : dz_M285 z a = true) : ∃ b2 z1 z2 z3, dz_B193_64 b a = some b2 ∧ dz_M280_64 z 106 = some z1 ∧ dz_M280_64 z1 97 = some z2 ∧ dz_M280_64 z2 109 = some z3 ∧ q_WL c d m (n + 3) b2 z3 := by
  obtain ⟨t1, -⟩ := q_lnc z ha
  obtain ⟨-, g1, g2, g3⟩ := t1 hj
  have g1' : dz_B185 b a = -1 := g1
  obtain ⟨z1, z2, z3, e1, e2, e3, e4⟩ := q_wS3 h hn (fun j => q_o42.getD j 0) ⟨by decide, by decide⟩ ⟨by decide, by decide⟩ ⟨by decide, by decide⟩
  refine ⟨_, z1, z2, z3, ?_, e1, e2, e3, e4⟩
  unfold dz_B193_64 q_let
  dsimp only
  rw [g1', show decide ((-1 : Int32) < 0) = true by decide, cond_true, g2, cond_false, show dz_B344_13 b = 120 by show ((120 : Int32) >>> ((0 : Int32) &&& 31)) = 120; decide, g3, cond_false, q_w324_14 h.2.2.1 hn]
  rfl
theorem q_eqD {a b : Int32} (h : ¬ a.toInt = b.toInt) : decide (a = b) = false := decide_eq_false (fun q => h (by rw [q]))
end
end
section
-- 56.bd
section
variable {TT : (Nat → Int32) → Int32 → (Nat → Int32) → Int32 → Int64 → Int64 → List Int32 → List (Nat → Int32) → (Nat → Int64) → Prop} {x y z m m2 b b2 : q_S} {c d w k : Int} {n : Nat}
/-- behind the operand's number -/
theorem q_wT (h : q_WL c d m n b z) (v : Int32) (hv : q_rgz 0 7 v) (hn : n + 3 ≤ 16) : ∃ b2 z2 n2, (cond (decide (v < 2)) (some b) (cond (decide (8 < v)) (some b) (cond (decide (v = 2)) ((dz_B324_64_15 b).bind fun r5 => some r5) (cond (decide (v = 3)) (some b) (cond (decide (v = 4)) ((dz_B324_64_15 b).bind fun r6 => some r6) (cond (decide (v = 5)) ((dz_B324_64_16 b).bind fun r7 => some r7) (cond (decide (v = 6)) ((dz_B324_64_17 b).bind fun r8 => some r8) (cond (decide (v = 7)) ((dz_B324_64_18 b).bind fun r9 => some r9) ((dz_B325_64 b 41).bind fun r10 => some r10))))))))) = some b2 ∧ (cond (decide (v = 6)) ((dz_M280_64 z 41).bind fun r8 => dz_M283_64_69 r8 v) (dz_M283_64_69 z v)) = some z2 ∧ q_WL c d m n2 b2 z2 ∧ n2 ≤ 16 := by
  have v0 := hv.1
  have v1 := hv.2
  have h3 := h.2.2.1
  rcases (by omega : v.toInt = 0 ∨ v.toInt = 1 ∨ v.toInt = 2 ∨ v.toInt = 3 ∨ v.toInt = 4 ∨ v.toInt = 5 ∨ v.toInt = 6 ∨ v.toInt = 7) with e | e | e | e | e | e | e | e
  · obtain rfl : v = 0 := Int32.toInt_inj.mp e
    exact ⟨b, z, n, rfl, rfl, h, by omega⟩
  · obtain rfl : v = 1 := Int32.toInt_inj.mp e
    exact ⟨b, z, n, rfl, rfl, h, by omega⟩
  · obtain rfl : v = 2 := Int32.toInt_inj.mp e
    obtain ⟨z1, z2, e1, e2, e3⟩ := q_wS2 h (by omega) (fun j => q_o43.getD j 0) ⟨by decide, by decide⟩ ⟨by decide, by decide⟩
    have e1 : dz_M280_64 z 44 = some z1 := e1
    have e2 : dz_M280_64 z1 120 = some z2 := e2
    refine ⟨_, z2, n + 2, by show ((dz_B324_64_15 b).bind fun r => some r) = _; rw [q_w324_15 h3 (by omega)]; rfl, ?_, e3, by omega⟩
    show ((dz_M280_64 z 44).bind fun r9 => (dz_M280_64 r9 120).bind fun r10 => some r10) = some z2
    rw [e1, Option.bind_some, e2]
    rfl
  · obtain rfl : v = 3 := Int32.toInt_inj.mp e
    exact ⟨b, z, n, rfl, rfl, h, by omega⟩
  · obtain rfl : v = 4 := Int32.toInt_inj.mp e
    obtain ⟨z1, z2, e1, e2, e3⟩ := q_wS2 h (by omega) (fun j => q_o43.getD j 0) ⟨by decide, by decide⟩ ⟨by decide, by decide⟩
    have e1 : dz_M280_64 z 44 = some z1 := e1
    have e2 : dz_M280_64 z1 120 = some z2 := e2
    refine ⟨_, z2, n + 2, by show ((dz_B324_64_15 b).bind fun r => some r) = _; rw [q_w324_15 h3 (by omega)]; rfl, ?_, e3, by omega⟩
    show ((dz_M280_64 z 44).bind fun r9 => (dz_M280_64 r9 120).bind fun r10 => some r10) = some z2
    rw [e1, Option.bind_some, e2]
    rfl
  · obtain rfl : v = 5 := Int32.toInt_inj.mp e
    obtain ⟨z1, z2, e1, e2, e3⟩ := q_wS2 h (by omega) (fun j => q_o44.getD j 0) ⟨by decide, by decide⟩ ⟨by decide, by decide⟩
    have e1 : dz_M280_64 z 44 = some z1 := e1
    have e2 : dz_M280_64 z1 121 = some z2 := e2
    refine ⟨_, z2, n + 2, by show ((dz_B324_64_16 b).bind fun r => some r) = _; rw [q_w324_16 h3 (by omega)]; rfl, ?_, e3, by omega⟩
    show ((dz_M280_64 z 44).bind fun r9 => (dz_M280_64 r9 121).bind fun r10 => some r10) = some z2
    rw [e1, Option.bind_some, e2]
    rfl
  · obtain rfl : v = 6 := Int32.toInt_inj.mp e
    obtain ⟨z1, z2, z3, e1, e2, e3, e4⟩ := q_wS3 h (by omega) (fun j => q_o45.getD j 0) ⟨by decide, by decide⟩ ⟨by decide, by decide⟩ ⟨by decide, by decide⟩
    have e1 : dz_M280_64 z 41 = some z1 := e1
    have e2 : dz_M280_64 z1 44 = some z2 := e2
    have e3 : dz_M280_64 z2 121 = some z3 := e3
    refine ⟨_, z3, n + 3, by show ((dz_B324_64_17 b).bind fun r => some r) = _; rw [q_w324_17 h3 (by omega)]; rfl, ?_, e4, by omega⟩
    show ((dz_M280_64 z 41).bind fun r8 => (dz_M280_64 r8 44).bind fun r9 => (dz_M280_64 r9 121).bind fun r10 => some r10) = some z3
    rw [e1, Option.bind_some, e2, Option.bind_some, e3]
    rfl
  · obtain rfl : v = 7 := Int32.toInt_inj.mp e
    obtain ⟨z1, z2, z3, e1, e2, e3, e4⟩ := q_wS3 h (by omega) (fun j => q_o46.getD j 0) ⟨by decide, by decide⟩ ⟨by decide, by decide⟩ ⟨by decide, by decide⟩
    have e1 : dz_M280_64 z 44 = some z1 := e1
    have e2 : dz_M280_64 z1 120 = some z2 := e2
    have e3 : dz_M280_64 z2 41 = some z3 := e3
    refine ⟨_, z3, n + 3, by show ((dz_B324_64_18 b).bind fun r => some r) = _; rw [q_w324_18 h3 (by omega)]; rfl, ?_, e4, by omega⟩
    show ((dz_M280_64 z 44).bind fun r8 => (dz_M280_64 r8 120).bind fun r9 => (dz_M280_64 r9 41).bind fun r10 => some r10) = some z3
    rw [e1, Option.bind_some, e2, Option.bind_some, e3]
    rfl
end
end
section
-- 56.ca
section
variable {TT : (Nat → Int32) → Int32 → (Nat → Int32) → Int32 → Int64 → Int64 → List Int32 → List (Nat → Int32) → (Nat → Int64) → Prop} {x y z m m2 b b2 : q_S} {c d w k : Int} {n : Nat}
theorem q_ps_ps {T : Type} (n n2 b1 b2 k : Nat) (f g : Nat → T) (e : T) : q_ps n n2 b1 b2 k f (q_ps n n2 b1 b2 k g e) = q_ps n n2 b1 b2 k f e := by
  unfold q_ps
  cases (Nat.ble b1 k && Nat.blt k (b1 + n)) with
  | true => rfl
  | false =>
    cases (Nat.ble b2 k && Nat.blt k (b2 + n2)) with
    | true => rfl
    | false => rfl
theorem q_ptB (s r t : q_S) : q_pt 2 0 71 0 (q_pt 2 0 71 0 s r) t = q_pt 2 0 71 0 s t := by
  unfold q_pt
  simp only [q_ps_ps]
theorem q_psB {T : Type} (j : Nat) (f : Nat → T) (e : T) : q_ps 2 0 71 0 (q_eN 32 1 73 j) f e = e := by
  refine q_ps_out (fun i hi q => ?_) f e
  rw [q_eN1 (show i < 2 by omega)] at q
  rcases Nat.lt_or_ge j 32 with g | g
  · rw [q_eN1 g] at q; omega
  · rw [q_eN2 g] at q; omega
theorem q_vwB (s r : q_S) : q_vw 32 1 73 (q_pt 2 0 71 0 s r) = q_vw 32 1 73 s := by
  unfold q_vw q_pt
  simp only [q_psB]
theorem q_WL33 (h : q_WL c d m n b z) (e : q_eq33 z y) (hI : q_Iv c d n y) : q_WL c d m n b y :=
  ⟨q_eqL_33 h.1 e, hI, h.2.2.1, by rw [e.2]; exact h.2.2.2.1, by rw [e.1 32 rfl]; exact h.2.2.2.2⟩
theorem q_yw328 (hc : 0 ≤ (b.2.1 0 3).toInt) : ∃ r, dz_B328_64 b 0 = some r ∧ r.2.1 0 3 = 0 := by
  have e1 : dz_B332_64 b 0 = some b := q_b332 (by decide) (by decide)
  unfold dz_B328_64 dz_B335_64
  rw [show decide ((0 : Int32) < 0) = false by decide, cond_false, e1, Option.bind_some, q_lt_F (show (0 : Int32).toInt ≤ (b.2.1 0 3).toInt from hc), cond_false]
  cases decide (0 < b.2.1 0 3) with
  | true => exact ⟨_, rfl, rfl⟩
  | false => exact ⟨_, rfl, rfl⟩
/-- the operand's number and what is behind it -/
theorem q_yw27 (h : q_WL c d m n b z) {l W a : Int32} (hl : q_rgz 0 7 l) (hW : q_rgz 0 4095 W) (hn : n ≤ 9 ∨ n ≤ 10 ∧ W.toInt ≤ 255) (hr : ∀ (u : Int) z, q_eqL m z → q_Iv c d u z → ∃ z2, cond (dz_M202 z l 3 5) (dz_M248_64 z (a + 1)) (dz_M247_64 z (a + 1)) = some (z2, W) ∧ q_eq33 z z2 ∧ q_Iv c d u z2) : ∃ b2 z2 n2, dz_B196_64_34 b l W = some b2 ∧ dz_M283_64_27 z l a = some z2 ∧ q_WL c d m n2 b2 z2 ∧ n2 ≤ 16 := by
  obtain ⟨z1, p1, p2, p3⟩ := hr n z h.1 h.2.1
  have w1 := q_WL33 h p2 p3
  obtain ⟨b3, z3, n3, d1, d2, d3, d4, d5⟩ := q_wD w1 W hW (by omega)
  obtain ⟨b4, z4, n4, t1, t2, t3, t4⟩ := q_wT d3 l hl (by
    rcases hn with q | q
    · omega
    · have := d5 q.2
      omega)
  refine ⟨b4, z4, n4, ?_, ?_, t3, t4⟩
  · unfold dz_B196_64_34
    rw [d1]
    exact t1
  · unfold dz_M283_64_27 q_let
    dsimp only
    cases e : dz_M202 z l 3 5 with
    | true =>
      rw [e, cond_true] at p1
      rw [cond_true, p1, Option.bind_some]
      dsimp only
      rw [d2, Option.bind_some]
      exact t2
    | false =>
      rw [e, cond_false] at p1
      rw [cond_false, p1, Option.bind_some]
      dsimp only
      rw [d2, Option.bind_some]
      exact t2
/-- the operand of a code with a mode -/
theorem q_yw283 (h : q_WL c d m n b z) (hn : n ≤ 8) {l W a : Int32} (hl : q_rgz 0 7 l) (hW : q_rgz 0 4095 W) (hb : W.toInt ≤ 255 ∨ 3 ≤ l.toInt ∧ l.toInt ≤ 5) (hr : ∀ (u : Int) z, q_eqL m z → q_Iv c d u z → ∃ z2, cond (dz_M202 z l 3 5) (dz_M248_64 z (a + 1)) (dz_M247_64 z (a + 1)) = some (z2, W) ∧ q_eq33 z z2 ∧ q_Iv c d u z2) : ∃ b2 z2 n2, dz_B196_64 b l W = some b2 ∧ dz_M283_64 z l a = some z2 ∧ q_WL c d m n2 b2 z2 ∧ n2 ≤ 16 := by
  have l0 := hl.1
  have l1 := hl.2
  have z0 : (0 : Int32).toInt = 0 := rfl
  have z5 : (5 : Int32).toInt = 5 := rfl
  have z6 : (6 : Int32).toInt = 6 := rfl
  obtain ⟨e1, c1, w1⟩ := q_wC h (by omega) 32 ⟨by decide, by decide⟩
  by_cases q0 : l.toInt = 0
  · obtain ⟨e2, c2, w2⟩ := q_wC w1 (by omega) 35 ⟨by decide, by decide⟩
    obtain ⟨b2, z2, n2, f1, f2, f3, f4⟩ := q_yw27 w2 hl hW (by omega) hr
    refine ⟨b2, z2, n2, ?_, ?_, f3, f4⟩
    · unfold dz_B196_64
      rw [e1, Option.bind_some, q_eq_T (show l.toInt = (0 : Int32).toInt by omega), cond_true, e2, Option.bind_some]
      exact f1
    · unfold dz_M283_64
      rw [c1, Option.bind_some, q_eq_T (show l.toInt = (0 : Int32).toInt by omega), cond_true, c2, Option.bind_some]
      unfold dz_M283_64_16
      rw [q_lt_F (show l.toInt ≤ (5 : Int32).toInt by omega), cond_false]
      exact f2
  by_cases q6 : l.toInt < 6
  · obtain ⟨b2, z2, n2, f1, f2, f3, f4⟩ := q_yw27 w1 hl hW (by omega) hr
    refine ⟨b2, z2, n2, ?_, ?_, f3, f4⟩
    · unfold dz_B196_64
      rw [e1, Option.bind_some, q_eq_F (show ¬ l.toInt = (0 : Int32).toInt by omega), cond_false, q_lt_T (show l.toInt < (6 : Int32).toInt by omega), cond_true]
      exact f1
    · unfold dz_M283_64
      rw [c1, Option.bind_some, q_eq_F (show ¬ l.toInt = (0 : Int32).toInt by omega), cond_false]
      unfold dz_M283_64_16
      rw [q_lt_F (show l.toInt ≤ (5 : Int32).toInt by omega), cond_false]
      exact f2
  · obtain ⟨e2, c2, w2⟩ := q_wC w1 (by omega) 40 ⟨by decide, by decide⟩
    obtain ⟨b2, z2, n2, f1, f2, f3, f4⟩ := q_yw27 w2 hl hW (by omega) hr
    refine ⟨b2, z2, n2, ?_, ?_, f3, f4⟩
    · unfold dz_B196_64
      rw [e1, Option.bind_some, q_eq_F (show ¬ l.toInt = (0 : Int32).toInt by omega), cond_false, q_lt_F (show (6 : Int32).toInt ≤ l.toInt by omega), cond_false, e2, Option.bind_some]
      exact f1
    · unfold dz_M283_64
      rw [c1, Option.bind_some, q_eq_F (show ¬ l.toInt = (0 : Int32).toInt by omega), cond_false]
      unfold dz_M283_64_16
      rw [q_lt_T (show (5 : Int32).toInt < l.toInt by omega), cond_true, c2, Option.bind_some]
      exact f2
theorem q_tl2a : ∀ i, i < 29 → dz_N190 q_s0 (Int32.ofNat (128 + i)) = 1 ∧ dz_M246 q_s0 (Int32.ofNat (128 + i)) = 1 := by decide +kernel
theorem q_tl2b : ∀ i, i < 3 → dz_N190 q_s0 (Int32.ofNat (157 + i)) = 3 ∧ dz_M246 q_s0 (Int32.ofNat (157 + i)) = 3 ∧ dz_N187 q_s0 (Int32.ofNat (157 + i)) = false ∧ dz_N196 q_s0 (Int32.ofNat (157 + i)) = cond (decide (Int32.ofNat (157 + i) = 159)) 8 3 := by decide +kernel
theorem q_tl2c : ∀ i, i < 8 → dz_N190 q_s0 (Int32.ofNat (160 + i)) = 2 ∧ dz_M246 q_s0 (Int32.ofNat (160 + i)) = 2 ∧ dz_N187 q_s0 (Int32.ofNat (160 + i)) = true ∧ decide (Int32.ofNat (160 + i) = 159) = false := by decide +kernel
theorem q_ln2 (s t : q_S) {a : Int32} (h1 : 128 ≤ a.toInt) (h2 : a.toInt < 168) : (a.toInt < 157 → dz_N190 s a = 1 ∧ dz_M246 t a = 1) ∧ (157 ≤ a.toInt → a.toInt < 160 → dz_N190 s a = 3 ∧ dz_M246 t a = 3 ∧ dz_N187 s a = false ∧ dz_N196 s a = cond (decide (a = 159)) 8 3) ∧ (160 ≤ a.toInt → dz_N190 s a = 2 ∧ dz_M246 t a = 2 ∧ dz_N187 s a = true ∧ decide (a = 159) = false) := by
  have e : Int32.ofNat a.toInt.toNat = a := q_ofn (u := 167) ⟨by omega, by omega⟩
  refine ⟨fun q => ?_, fun q1 q2 => ?_, fun q => ?_⟩
  · have t1 := q_tl2a (a.toInt.toNat - 128) (by omega)
    rw [show 128 + (a.toInt.toNat - 128) = a.toInt.toNat by omega, e] at t1
    exact t1
  · have t1 := q_tl2b (a.toInt.toNat - 157) (by omega)
    rw [show 157 + (a.toInt.toNat - 157) = a.toInt.toNat by omega, e] at t1
    exact t1
  · have t1 := q_tl2c (a.toInt.toNat - 160) (by omega)
    rw [show 160 + (a.toInt.toNat - 160) = a.toInt.toNat by omega, e] at t1
    exact t1
theorem q_196_3 (b : q_S) (W : Int32) : dz_B196_64 b 3 W = (dz_B325_64 b 32).bind fun r2 => (dz_B326_64 r2 W).bind fun r4 => some r4 := rfl
theorem q_196_8 (b : q_S) (W : Int32) : dz_B196_64 b 8 W = (dz_B325_64 b 32).bind fun r2 => (dz_B325_64 r2 40).bind fun r3 => (dz_B326_64 r3 W).bind fun r4 => (dz_B325_64 r4 41).bind fun r10 => some r10 := rfl
/-- the line, as the class writes it, its puts taken together -/
def q_lx (x : q_S) (a : Int32) : Option q_S := (dz_N90_65 (q_vw 32 1 73 x) a).bind fun r2 => (dz_N90_65 (q_vw 32 1 73 x) ((a + 1) &&& 4095)).bind fun r4 => (dz_B328_64 (q_vw 2 71 0 x) 0).bind fun r5 => (dz_B326_64 (q_vw 2 71 0 (q_pt 2 0 71 0 x r5)) a).bind fun r6 => (dz_B325_64 (q_vw 2 71 0 (q_pt 2 0 71 0 x r6)) 32).bind fun r7 => (dz_B193_64 (q_vw 2 71 0 (q_pt 2 0 71 0 x r7)) r2).bind fun r8 => cond (decide (dz_N190 (q_vw 32 1 73 x) r2 = 1)) (some (q_pt 2 0 71 0 x r8)) (cond (dz_N187 (q_vw 32 1 73 x) r2) ((dz_B325_64 (q_vw 2 71 0 (q_pt 2 0 71 0 x r8)) 32).bind fun r10 => (dz_B326_64 (q_vw 2 71 0 (q_pt 2 0 71 0 x r10)) (dz_N193 (q_vw 32 1 73 x) a r4)).bind fun r12 => some (q_pt 2 0 71 0 x r12)) (cond (decide (dz_N190 (q_vw 32 1 73 x) r2 = 2)) ((dz_B196_64 (q_vw 2 71 0 (q_pt 2 0 71 0 x r8)) (dz_N196 (q_vw 32 1 73 x) r2) r4).bind fun r14 => some (q_pt 2 0 71 0 x r14)) ((dz_N92_65 (q_vw 32 1 73 x) (a + 1)).bind fun r15 => (dz_B196_64 (q_vw 2 71 0 (q_pt 2 0 71 0 x r8)) (dz_N196 (q_vw 32 1 73 x) r2) r15).bind fun r17 => some (q_pt 2 0 71 0 x r17))))
theorem q_lx_eq (x : q_S) (a : Int32) : dz_X194_135_66 x a = q_lx x a := by
  unfold dz_X194_135_66 q_lx q_let
  simp only [q_ptB, q_vwB]
/-- the line, as the model writes it -/
def q_yml (s : q_S) (a1 : Int32) : Option (q_S × Int32) := (dz_M247_64 s a1).bind fun r18 => (dz_M281_64 (q_sI r18.1 0 35 0) a1).bind fun r19 => (dz_M280_64 r19 32).bind fun r20 => q_let (dz_M285 r20 r18.2) fun r21 => cond r21 ((dz_M280_64 r20 106).bind fun r22 => (dz_M280_64 r22 97).bind fun r23 => (dz_M280_64 r23 109).bind fun r24 => some (r24, (r24.2.1 0 35))) ((dz_M282_64 r20 r18.2).bind fun r25 => q_let (dz_M244 r25 r18.2) fun r26 => cond (decide (r26 < 0)) ((dz_M284_64 r25 r18.2 a1).bind fun r27 => some (r27, (r27.2.1 0 35))) ((dz_M283_64 r25 (r18.2 - r18.2 / 8 * 8) a1).bind fun r28 => some (r28, (r28.2.1 0 35))))
end
end
section
-- 56.cb
section
variable {TT : (Nat → Int32) → Int32 → (Nat → Int32) → Int32 → Int64 → Int64 → List Int32 → List (Nat → Int32) → (Nat → Int64) → Prop} {x y z m m2 b b2 : q_S} {c d w k : Int} {n : Nat}
theorem q_wlin (h : q_R q_TTs (q_vw 32 1 73 x) m) (hI : q_Iv c d w m) (hc : 0 ≤ (x.2.1 71 3).toInt) (a : Int32) (ha : q_rgz 0 4095 a) : ∃ r z2 n2, q_lx x a = some (q_pt 2 0 71 0 x r) ∧ q_yml m a = some (z2, z2.2.1 0 35) ∧ q_WL c d m n2 r z2 ∧ n2 ≤ 16 := by
  have rA1 : q_rgz 0 4095 ((a + 1) &&& 4095) := q_rg_and _ 4095 (by decide) rfl
  have rA2 : q_rgz 0 4095 ((a + 1 + 1) &&& 4095) := q_rg_and _ 4095 (by decide) rfl
  obtain ⟨v, m1, e1, e2, e3, e4, e5, rv⟩ := q_rdz h hI a ha
  obtain ⟨nr, -, f1, -, -, -, -, rn⟩ := q_rdz h hI ((a + 1) &&& 4095) rA1
  obtain ⟨hi, -, g1, -, -, -, -, rh⟩ := q_rdz h hI ((a + 1 + 1) &&& 4095) rA2
  have rd1 : ∀ (u : Int) z, q_eqL m z → q_Iv c d u z → ∃ z2, dz_M247_64 z (a + 1) = some (z2, nr) ∧ q_eq33 z z2 ∧ q_Iv c d u z2 := fun u z q qI => by
    obtain ⟨v', z2, a1, a2, a3, -, a5, -⟩ := q_rdz (q_R_15 h (q_eqL_15 q)) qI ((a + 1) &&& 4095) rA1
    rw [f1] at a1
    cases a1
    refine ⟨z2, ?_, a3, a5⟩
    show (dz_M214_64 z ((a + 1) &&& 4095)).bind (fun r4 => some (r4.1, r4.2)) = _
    rw [a2]; rfl
  have rd2 : ∀ (u : Int) z, q_eqL m z → q_Iv c d u z → ∃ z2, dz_M247_64 z (a + 1 + 1) = some (z2, hi) ∧ q_eq33 z z2 ∧ q_Iv c d u z2 := fun u z q qI => by
    obtain ⟨v', z2, a1, a2, a3, -, a5, -⟩ := q_rdz (q_R_15 h (q_eqL_15 q)) qI ((a + 1 + 1) &&& 4095) rA2
    rw [g1] at a1
    cases a1
    refine ⟨z2, ?_, a3, a5⟩
    show (dz_M214_64 z ((a + 1 + 1) &&& 4095)).bind (fun r4 => some (r4.1, r4.2)) = _
    rw [a2]; rfl
  have rdw : ∀ (u : Int) z, q_eqL m z → q_Iv c d u z → ∃ z2, dz_M248_64 z (a + 1) = some (z2, (nr + (256 * hi)) &&& 4095) ∧ q_eq33 z z2 ∧ q_Iv c d u z2 := fun u z q qI => by
    obtain ⟨z2, a1, a2, a3⟩ := rd1 u z q qI
    obtain ⟨z3, b1, b2, b3⟩ := rd2 u z2 (q_eqL_33 q a2) a3
    refine ⟨z3, ?_, a2.trans b2, b3⟩
    unfold dz_M248_64
    rw [a1, Option.bind_some]
    dsimp only
    rw [b1]; rfl
  have rdb : ∀ (u : Int) z, q_eqL m z → q_Iv c d u z → ∃ z2, dz_M253_64 z a = some (z2, dz_N193 (q_vw 32 1 73 x) a nr) ∧ q_eq33 z z2 ∧ q_Iv c d u z2 := fun u z q qI => by
    obtain ⟨z2, a1, a2, a3⟩ := rd1 u z q qI
    refine ⟨z2, ?_, a2, a3⟩
    unfold dz_M253_64 dz_N193
    rw [a1, Option.bind_some]
    dsimp only
    cases decide (127 < nr) <;> rfl
  have e92 : dz_N92_65 (q_vw 32 1 73 x) (a + 1) = some ((nr + (256 * hi)) &&& 4095) := by
    unfold dz_N92_65
    rw [f1, Option.bind_some, g1]
    rfl
  have rW : q_rgz 0 4095 ((nr + (256 * hi)) &&& 4095) := q_rg_and _ 4095 (by decide) rfl
  have rT : q_rgz 0 4095 (dz_N193 (q_vw 32 1 73 x) a nr) := by
    unfold dz_N193
    cases decide (127 < nr) with
    | true => exact q_rg_and _ 4095 (by decide) rfl
    | false => exact q_rg_and _ 4095 (by decide) rfl
  have eM : dz_M247_64 m a = some (m1, v) := by
    show (dz_M214_64 m (a &&& 4095)).bind (fun r4 => some (r4.1, r4.2)) = _
    rw [q_a12 ha, e2]; rfl
  obtain ⟨r5, a5, k5⟩ := q_yw328 (b := q_vw 2 71 0 x) hc
  have W0 : q_WL c d m 0 (q_vw 2 71 0 (q_pt 2 0 71 0 x r5)) (q_sI m1 0 35 0) := by
    refine ⟨q_eqL_I (q_eqL_33 (q_eqL_r m) e3) 0, q_Iv_w0 e5 ⟨by decide, by decide⟩, ?_, ?_, fun i hi => absurd hi (Nat.not_lt_zero i)⟩
    · show (r5.2.1 0 3).toInt = ((0 : Nat) : Int)
      rw [k5]; rfl
    · show (0 : Int32) = r5.2.1 0 3
      rw [k5]
  obtain ⟨r6, z6, n6, a6, c6, w6, l6, -⟩ := q_wD W0 a ha (Or.inl (by omega))
  have w6' : q_WL c d m n6 (q_vw 2 71 0 (q_pt 2 0 71 0 x r6)) z6 := w6
  obtain ⟨a7, c7, w7⟩ := q_wC w6' (by omega) 32 ⟨by decide, by decide⟩
  generalize q_bp (q_vw 2 71 0 (q_pt 2 0 71 0 x r6)) n6 32 = r7 at a7 w7
  generalize q_zp z6 n6 32 = z7 at c7 w7
  have w7' : q_WL c d m (n6 + 1) (q_vw 2 71 0 (q_pt 2 0 71 0 x r7)) z7 := w7
  have EX : ∀ T : Option q_S, ((dz_B193_64 (q_vw 2 71 0 (q_pt 2 0 71 0 x r7)) v).bind fun r8 => cond (decide (dz_N190 (q_vw 32 1 73 x) v = 1)) (some (q_pt 2 0 71 0 x r8)) (cond (dz_N187 (q_vw 32 1 73 x) v) ((dz_B325_64 (q_vw 2 71 0 (q_pt 2 0 71 0 x r8)) 32).bind fun r10 => (dz_B326_64 (q_vw 2 71 0 (q_pt 2 0 71 0 x r10)) (dz_N193 (q_vw 32 1 73 x) a nr)).bind fun r12 => some (q_pt 2 0 71 0 x r12)) (cond (decide (dz_N190 (q_vw 32 1 73 x) v = 2)) ((dz_B196_64 (q_vw 2 71 0 (q_pt 2 0 71 0 x r8)) (dz_N196 (q_vw 32 1 73 x) v) nr).bind fun r14 => some (q_pt 2 0 71 0 x r14)) ((dz_N92_65 (q_vw 32 1 73 x) (a + 1)).bind fun r15 => (dz_B196_64 (q_vw 2 71 0 (q_pt 2 0 71 0 x r8)) (dz_N196 (q_vw 32 1 73 x) v) r15).bind fun r17 => some (q_pt 2 0 71 0 x r17))))) = T → q_lx x a = T := fun T q => by
    unfold q_lx
    rw [e1, Option.bind_some, f1, Option.bind_some, a5, Option.bind_some, a6, Option.bind_some, a7, Option.bind_some]
    exact q
  have EM : ∀ T : Option (q_S × Int32), (cond (dz_M285 z7 v) ((dz_M280_64 z7 106).bind fun r22 => (dz_M280_64 r22 97).bind fun r23 => (dz_M280_64 r23 109).bind fun r24 => some (r24, (r24.2.1 0 35))) ((dz_M282_64 z7 v).bind fun r25 => cond (decide (dz_M244 r25 v < 0)) ((dz_M284_64 r25 v a).bind fun r27 => some (r27, (r27.2.1 0 35))) ((dz_M283_64 r25 (v - v / 8 * 8) a).bind fun r28 => some (r28, (r28.2.1 0 35))))) = T → q_yml m a = T := fun T q => by
    unfold q_yml q_let
    rw [eM, Option.bind_some]
    dsimp only
    rw [c6, Option.bind_some, c7, Option.bind_some]
    exact q
  obtain ⟨t1, t2, t3⟩ := q_lnc z7 rv
  cases hj : dz_M285 z7 v with
  | true =>
    obtain ⟨r8, z1, z2, z3, p1, p2, p3, p4, p5⟩ := q_wJ w7' (by omega) v rv hj
    obtain ⟨i1, -⟩ := t1 hj
    have i1' : dz_N190 (q_vw 32 1 73 x) v = 1 := i1
    refine ⟨r8, z3, _, EX _ ?_, EM _ ?_, p5, by omega⟩
    · rw [p1, Option.bind_some, i1']
      rfl
    · rw [hj, cond_true, p2, Option.bind_some, p3, Option.bind_some, p4]
      rfl
  | false =>
    obtain ⟨r8, z8, p1, p2, p3⟩ := q_wN w7' (by omega) v rv hj
    have w8 : q_WL c d m (n6 + 1 + 3) (q_vw 2 71 0 (q_pt 2 0 71 0 x r8)) z8 := p3
    cases ho : decide (dz_M244 z7 v < 0) with
    | true =>
      have ho' : decide (dz_M244 z8 v < 0) = true := ho
      obtain ⟨-, -, -, -, j1, j2⟩ := t2 hj ho
      obtain ⟨u1, u2, u3⟩ := q_ln2 (q_vw 32 1 73 x) z8 j1 j2
      by_cases q1 : v.toInt < 157
      · obtain ⟨i1, i2⟩ := u1 q1
        refine ⟨r8, z8, _, EX _ ?_, EM _ ?_, p3, by omega⟩
        · rw [p1, Option.bind_some, i1]
          rfl
        · rw [hj, cond_false, p2, Option.bind_some, ho', cond_true]
          unfold dz_M284_64 q_let
          rw [i2]
          rfl
      by_cases q2 : v.toInt < 160
      · obtain ⟨i1, i2, i3, i4⟩ := u2 (by omega) q2
        obtain ⟨a10, c10, w10⟩ := q_wC w8 (by omega) 32 ⟨by decide, by decide⟩
        cases h9 : decide (v = 159) with
        | true =>
          obtain ⟨a11, c11, w11⟩ := q_wC w10 (by omega) 40 ⟨by decide, by decide⟩
          obtain ⟨z12, p12, s12, I12⟩ := rdw _ _ w11.1 w11.2.1
          obtain ⟨b13, z13, n13, a13, c13, w13, l13, -⟩ := q_wD (q_WL33 w11 s12 I12) _ rW (Or.inl (by omega))
          obtain ⟨a14, c14, w14⟩ := q_wC w13 (by omega) 41 ⟨by decide, by decide⟩
          refine ⟨_, _, _, EX _ ?_, EM _ ?_, w14, by omega⟩
          · rw [p1, Option.bind_some, i1, i3, i4, h9, e92]
            show ((dz_B196_64 (q_vw 2 71 0 (q_pt 2 0 71 0 x r8)) 8 ((nr + (256 * hi)) &&& 4095)).bind fun r17 => some (q_pt 2 0 71 0 x r17)) = _
            rw [q_196_8, a10, Option.bind_some, a11, Option.bind_some, a13, Option.bind_some, a14]
            rfl
          · rw [hj, cond_false, p2, Option.bind_some, ho', cond_true]
            unfold dz_M284_64 q_let
            rw [i2]
            show (((dz_M280_64 z8 32).bind fun r4 => cond (decide (v = 159)) ((dz_M280_64 r4 40).bind fun r5 => dz_M284_64_28 r5 v a) (dz_M284_64_28 r4 v a)).bind fun r27 => some (r27, (r27.2.1 0 35))) = _
            rw [c10, Option.bind_some, h9, cond_true, c11, Option.bind_some]
            unfold dz_M284_64_28 q_let
            rw [show dz_M246 (q_zp (q_zp z8 (n6 + 1 + 3) 32) (n6 + 1 + 3 + 1) 40) v = 3 from i2, h9]
            show (((dz_M248_64 (q_zp (q_zp z8 (n6 + 1 + 3) 32) (n6 + 1 + 3 + 1) 40) (a + 1)).bind fun r10 => (dz_M281_64 r10.1 r10.2).bind fun r11 => (dz_M280_64 r11 41).bind fun r12 => some r12).bind fun r27 => some (r27, (r27.2.1 0 35))) = _
            rw [p12, Option.bind_some]
            dsimp only
            rw [c13, Option.bind_some, c14]
            rfl
        | false =>
          obtain ⟨z12, p12, s12, I12⟩ := rdw _ _ w10.1 w10.2.1
          obtain ⟨b13, z13, n13, a13, c13, w13, l13, -⟩ := q_wD (q_WL33 w10 s12 I12) _ rW (Or.inl (by omega))
          refine ⟨_, _, _, EX _ ?_, EM _ ?_, w13, by omega⟩
          · rw [p1, Option.bind_some, i1, i3, i4, h9, e92]
            show ((dz_B196_64 (q_vw 2 71 0 (q_pt 2 0 71 0 x r8)) 3 ((nr + (256 * hi)) &&& 4095)).bind fun r17 => some (q_pt 2 0 71 0 x r17)) = _
            rw [q_196_3, a10, Option.bind_some, a13]
            rfl
          · rw [hj, cond_false, p2, Option.bind_some, ho', cond_true]
            unfold dz_M284_64 q_let
            rw [i2]
            show (((dz_M280_64 z8 32).bind fun r4 => cond (decide (v = 159)) ((dz_M280_64 r4 40).bind fun r5 => dz_M284_64_28 r5 v a) (dz_M284_64_28 r4 v a)).bind fun r27 => some (r27, (r27.2.1 0 35))) = _
            rw [c10, Option.bind_some, h9, cond_false]
            unfold dz_M284_64_28 q_let
            rw [show dz_M246 (q_zp z8 (n6 + 1 + 3) 32) v = 3 from i2, h9]
            show (((dz_M248_64 (q_zp z8 (n6 + 1 + 3) 32) (a + 1)).bind fun r10 => (dz_M281_64 r10.1 r10.2).bind fun r11 => some r11).bind fun r27 => some (r27, (r27.2.1 0 35))) = _
            rw [p12, Option.bind_some]
            dsimp only
            rw [c13]
            rfl
      · obtain ⟨i1, i2, i3, i4⟩ := u3 (by omega)
        obtain ⟨a10, c10, w10⟩ := q_wC w8 (by omega) 32 ⟨by decide, by decide⟩
        have w10' : q_WL c d m (n6 + 1 + 3 + 1) (q_vw 2 71 0 (q_pt 2 0 71 0 x (q_bp (q_vw 2 71 0 (q_pt 2 0 71 0 x r8)) (n6 + 1 + 3) 32))) (q_zp z8 (n6 + 1 + 3) 32) := w10
        obtain ⟨z12, p12, s12, I12⟩ := rdb _ _ w10.1 w10.2.1
        obtain ⟨b13, z13, n13, a13, c13, w13, l13, -⟩ := q_wD (q_WL33 w10' s12 I12) _ rT (Or.inl (by omega))
        refine ⟨_, _, _, EX _ ?_, EM _ ?_, w13, by omega⟩
        · rw [p1, Option.bind_some, i1, i3]
          show ((dz_B325_64 (q_vw 2 71 0 (q_pt 2 0 71 0 x r8)) 32).bind fun r10 => (dz_B326_64 (q_vw 2 71 0 (q_pt 2 0 71 0 x r10)) (dz_N193 (q_vw 32 1 73 x) a nr)).bind fun r12 => some (q_pt 2 0 71 0 x r12)) = _
          rw [a10, Option.bind_some, a13]
          rfl
        · rw [hj, cond_false, p2, Option.bind_some, ho', cond_true]
          unfold dz_M284_64 q_let
          rw [i2]
          show (((dz_M280_64 z8 32).bind fun r4 => cond (decide (v = 159)) ((dz_M280_64 r4 40).bind fun r5 => dz_M284_64_28 r5 v a) (dz_M284_64_28 r4 v a)).bind fun r27 => some (r27, (r27.2.1 0 35))) = _
          rw [c10, Option.bind_some, i4, cond_false]
          unfold dz_M284_64_28 q_let
          rw [show dz_M246 (q_zp z8 (n6 + 1 + 3) 32) v = 2 from i2, i4]
          show (((dz_M253_64 (q_zp z8 (n6 + 1 + 3) 32) a).bind fun r7 => (dz_M281_64 r7.1 r7.2).bind fun r8 => some r8).bind fun r27 => some (r27, (r27.2.1 0 35))) = _
          rw [p12, Option.bind_some]
          dsimp only
          rw [c13]
          rfl
    | false =>
      have ho' : decide (dz_M244 z8 v < 0) = false := ho
      obtain ⟨-, -, -, -, j5, j6, j7, -, j9⟩ := t3 ho
      have j5' : dz_N187 (q_vw 32 1 73 x) v = false := j5
      have j6' : dz_N196 (q_vw 32 1 73 x) v = v - v / 8 * 8 := j6
      cases hm : dz_M202 z7 (v - v / 8 * 8) 3 5 with
      | true =>
        have g35 : q_rgz 3 5 (v - v / 8 * 8) := q_p202 hm (q_rg_lit (n := 3) rfl) (q_rg_lit (n := 5) rfl)
        rw [hm] at j9
        have j9' : dz_N190 (q_vw 32 1 73 x) v = 3 := j9
        obtain ⟨b13, z13, n13, a13, c13, w13, l13⟩ := q_yw283 w8 (by omega) (a := a) j7 rW (Or.inr ⟨g35.1, g35.2⟩) (fun u z q qI => by
          rw [show dz_M202 z (v - v / 8 * 8) 3 5 = true from hm, cond_true]
          exact rdw u z q qI)
        refine ⟨_, _, _, EX _ ?_, EM _ ?_, w13, l13⟩
        · rw [p1, Option.bind_some, j9', j5', j6', e92]
          show ((dz_B196_64 (q_vw 2 71 0 (q_pt 2 0 71 0 x r8)) (v - v / 8 * 8) ((nr + (256 * hi)) &&& 4095)).bind fun r17 => some (q_pt 2 0 71 0 x r17)) = _
          rw [a13]
          rfl
        · rw [hj, cond_false, p2, Option.bind_some, ho', cond_false, c13]
          rfl
      | false =>
        rw [hm] at j9
        have j9' : dz_N190 (q_vw 32 1 73 x) v = 2 := j9
        obtain ⟨b13, z13, n13, a13, c13, w13, l13⟩ := q_yw283 w8 (by omega) (a := a) j7 (q_rg_le rn (by decide) (by decide)) (Or.inl rn.2) (fun u z q qI => by
          rw [show dz_M202 z (v - v / 8 * 8) 3 5 = false from hm, cond_false]
          exact rd1 u z q qI)
        refine ⟨_, _, _, EX _ ?_, EM _ ?_, w13, l13⟩
        · rw [p1, Option.bind_some, j9', j5', j6']
          show ((dz_B196_64 (q_vw 2 71 0 (q_pt 2 0 71 0 x r8)) (v - v / 8 * 8) nr).bind fun r14 => some (q_pt 2 0 71 0 x r14)) = _
          rw [a13]
          rfl
        · rw [hj, cond_false, p2, Option.bind_some, ho', cond_false, c13]
          rfl
end
end
section
-- 56.d
section
variable {x y z m m2 : q_S} {c d w k : Int}
/-- the line is written anew -/
theorem q_LXlin {n : Nat} {r : q_S} (h : q_LX k m x) (g : q_WL c d (q_mok m) n r z) (hn : n ≤ 16) (f : Nat → Int64) : q_LX (k + 1) z (q_sL (q_pt 2 0 71 0 x r) 172 f) := by
  obtain ⟨h1, h2, h3, h4, h5, h6, ⟨r1, r2, r3, r4, r5⟩, h8⟩ := h
  obtain ⟨g1, g2, g3, g4, g5⟩ := g
  have e17 : z.2.1 0 17 = m.2.1 0 17 := g1.2.1 0 17 rfl
  have e34 : z.2.1 0 34 = m.2.1 0 34 := g1.2.1 0 34 rfl
  have e31 : z.2.2 = m.2.2 := g1.2.2
  have hs := q_RO_of (q_R_15 (q_RO_s (q_ROk h1)) (q_eqL_15 g1))
  have s0 : (0 : Int) < (m.2.1 0 17).toInt → q_R q_TTs (q_vwS 0 x) (q_ms 0 (q_svW z) (m.2.2 31)) := fun q => q_R_15 (h3 q) (q_eqL_ms g1 0 _)
  have s1 : (1 : Int) < (m.2.1 0 17).toInt → q_R q_TTs (q_vwS 1 x) (q_ms 1 (q_svW z) (m.2.2 31)) := fun q => q_R_15 (h4 q) (q_eqL_ms g1 1 _)
  have s2 : (2 : Int) < (m.2.1 0 17).toInt → q_R q_TTs (q_vwS 2 x) (q_ms 2 (q_svW z) (m.2.2 31)) := fun q => q_R_15 (h5 q) (q_eqL_ms g1 2 _)
  unfold q_LX q_RK
  rw [e17, e31, e34]
  refine ⟨hs, h2, s0, s1, s2, h6, ⟨r1, r2, ?_, r4, r5⟩, ⟨?_, ?_⟩, g4, fun i hi => g5 i ?_⟩
  · show (x.2.1 34 5).toInt ≤ k + 1
    omega
  · show 0 ≤ (r.2.1 0 3).toInt
    omega
  · show (r.2.1 0 3).toInt ≤ 16
    omega
  · have hi' : i < (r.2.1 0 3).toInt.toNat := hi
    omega
theorem q_tWl (h : q_LX k m x) (hI : q_Iv c d w m) (a : Int32) : q_TN k (dz_X6_64_236 x a) (dz_M286_64 m a) Int32.toInt64 True := by
  have z0 : (0 : Int32).toInt = 0 := rfl
  have z4095 : (4095 : Int32).toInt = 4095 := rfl
  have z4096 : (4096 : Int32).toInt = 4096 := rfl
  by_cases l_a : a.toInt < 0
  · refine q_TNbad h 1 0 (by decide) ?_ ?_
    · unfold dz_X6_64_236
      rw [q_lt_T (show a.toInt < (0 : Int32).toInt by omega)]
      rfl
    · unfold dz_M286_64 dz_M204 q_let
      dsimp only
      rw [q_202F (v := a) (lo := 0) (hi := 4095) (Or.inl (by omega))]
      rfl
  by_cases u_a : 4095 < a.toInt
  · refine q_TNbad h 1 0 (by decide) ?_ ?_
    · unfold dz_X6_64_236
      rw [q_lt_F (show (0 : Int32).toInt ≤ a.toInt by omega), q_lt_F (show (4096 : Int32).toInt ≤ a.toInt by omega)]
      rfl
    · unfold dz_M286_64 dz_M204 q_let
      dsimp only
      rw [q_202F (v := a) (lo := 0) (hi := 4095) (Or.inr (by omega))]
      rfl
  obtain ⟨r, z2, n2, e1, e2, e3, e4⟩ := q_wlin (q_RO_s (q_ROk h.1)) (q_Ivk hI) h.2.2.2.2.2.2.2.1.1 a ⟨by omega, by omega⟩
  refine ⟨(q_sL (q_pt 2 0 71 0 x r) 172 (vp_updL ((q_pt 2 0 71 0 x r).2.2 172) 0 (r.2.1 0 3).toInt64), 0, 0), (z2, z2.2.1 0 35), ?_, ?_, q_LXlin h e3 e4 _, Nat.zero_le _, (e3.1.2.1 0 39 rfl).trans rfl, fun _ _ => ?_⟩
  · unfold dz_X6_64_236
    rw [q_lt_F (show (0 : Int32).toInt ≤ a.toInt by omega), q_lt_T (show a.toInt < (4096 : Int32).toInt by omega), q_lx_eq, e1]
    rfl
  · have e5 : dz_M286_64 m a = q_yml (q_mok m) a := by
      unfold dz_M286_64 q_yml
      rw [show dz_M204 m a = false by unfold dz_M204 q_let; rw [q_202T (v := a) (lo := 0) (hi := 4095) (by omega) (by omega)]; rfl]
      rfl
    rw [e5, e2]
  · show vp_updL ((q_pt 2 0 71 0 x r).2.2 172) 0 (r.2.1 0 3).toInt64 0 = (z2.2.1 0 35).toInt64
    rw [q_upL1 _ _ _ _ rfl, e3.2.2.2.1]
theorem q_tLat (h : q_LX k m x) (hI : q_Iv c d w m) (a : Int32) : q_TN k (dz_X7_64_236 x a) (dz_M287_64 m a) Int32.toInt64 True := by
  obtain ⟨p1, p2, p3⟩ := h.2.2.2.2.2.2.2
  have p10 := p1.1
  have p11 := p1.2
  have z0 : (0 : Int32).toInt = 0 := rfl
  have es : (m.2.1 0 35 - 1).toInt = (x.2.1 71 3).toInt - 1 := by
    rw [p2]
    exact q_subI ⟨by omega, by omega⟩ ⟨by decide, by decide⟩
  by_cases l : a.toInt < 0
  · refine q_TNbad h 1 32 (by decide) ?_ ?_
    · unfold dz_X7_64_236 q_let
      dsimp only
      rw [q_lt_T (show a.toInt < (0 : Int32).toInt by omega)]
      rfl
    · unfold dz_M287_64 q_let
      dsimp only
      rw [q_202F (v := a) (lo := 0) (hi := m.2.1 0 35 - 1) (Or.inl (by omega))]
      rfl
  by_cases u : (x.2.1 71 3).toInt ≤ a.toInt
  · refine q_TNbad h 1 32 (by decide) ?_ ?_
    · unfold dz_X7_64_236 q_let
      dsimp only
      rw [q_lt_F (show (0 : Int32).toInt ≤ a.toInt by omega), q_lt_F (show (dz_B329_64 (q_vw 2 71 0 x)).toInt ≤ a.toInt from u)]
      rfl
    · unfold dz_M287_64 q_let
      dsimp only
      rw [q_202F (v := a) (lo := 0) (hi := m.2.1 0 35 - 1) (Or.inr (by omega))]
      rfl
  have hi : a.toNatClampNeg < (x.2.1 71 3).toNatClampNeg := by
    show a.toInt.toNat < (x.2.1 71 3).toInt.toNat
    omega
  have e3 := p3 _ hi
  have rr : q_rgz 0 65535 (m.1 32 a.toNatClampNeg) := q_r32 hI _
  have rq : q_rgz 0 65535 (q_chr (x.1 72 a.toNatClampNeg)) := by rw [e3]; exact rr
  have ra : q_rgz 0 15 a := ⟨by omega, by omega⟩
  refine q_TNrd h (x.2.2 172) (q_chr (x.1 72 a.toNatClampNeg)).toInt64 (m.1 32 a.toNatClampNeg) (q_eq33_refl _) ?_ ?_ (fun _ => by rw [e3])
  · have e49 : dz_B349 (q_vw 2 71 0 x) a (x.2.1 71 3) = some () := by
      unfold dz_B349 dz_B371
      rw [q_lt_F (show (0 : Int32).toInt ≤ a.toInt by omega), q_lt_T (show a.toInt < (x.2.1 71 3).toInt by omega)]
      rfl
    have e27 : dz_B327_64 (q_vw 2 71 0 x) a = some (q_chr (x.1 72 a.toNatClampNeg)) := by
      show ((q_let (if (16 : Int32) < x.2.1 71 3 then 16 else x.2.1 71 3) fun x3 => (dz_B349 (q_vw 2 71 0 x) a x3).bind fun _ => cond (q_in a 16) (cond (decide (vp_nar .char (q_chr (x.1 72 a.toNatClampNeg)) = q_chr (x.1 72 a.toNatClampNeg))) (some (q_chr (x.1 72 a.toNatClampNeg))) none) none).bind fun r2 => cond (decide (vp_nar .char r2 = r2)) (some r2) none) = _
      rw [if_neg (show ¬ (16 : Int32) < x.2.1 71 3 from fun q => by
        have := Int32.lt_iff_toInt_lt.mp q
        have z16 : (16 : Int32).toInt = 16 := rfl
        omega)]
      unfold q_let
      dsimp only
      rw [e49, Option.bind_some, q_in_rg ra (by decide) (by decide), q_ch_rg rq]
      show cond (decide (vp_nar .char (q_chr (x.1 72 a.toNatClampNeg)) = q_chr (x.1 72 a.toNatClampNeg))) (some (q_chr (x.1 72 a.toNatClampNeg))) none = _
      rw [q_ch_rg rq]
      rfl
    unfold dz_X7_64_236
    rw [e27]
    show cond (decide (a < 0)) (some (x, 1, 1)) (cond (decide (a < x.2.1 71 3)) (cond (decide (vp_nar .char (q_chr (x.1 72 a.toNatClampNeg)) = q_chr (x.1 72 a.toNatClampNeg))) (some (q_sL x 172 (vp_updL (x.2.2 172) 0 (q_chr (x.1 72 a.toNatClampNeg)).toInt64), 0, 0)) none) (some (x, 1, 1))) = _
    rw [q_lt_F (show (0 : Int32).toInt ≤ a.toInt by omega), q_lt_T (show a.toInt < (x.2.1 71 3).toInt by omega), q_ch_rg rq]
    rfl
  · unfold dz_M287_64 q_let
    dsimp only
    rw [q_202T (v := a) (lo := 0) (hi := m.2.1 0 35 - 1) (by omega) (by omega), q_yM200]
    show cond (q_in a 40) (cond (decide (vp_nar .char (m.1 32 a.toNatClampNeg) = m.1 32 a.toNatClampNeg)) (some (q_mok m, m.1 32 a.toNatClampNeg)) none) none = _
    rw [q_in_rg (n := 40) ra (by decide) (by decide), q_ch_rg rr]
    rfl
end
end
section
-- 56.e
section
variable {x y z m m2 S T : q_S} {c d w : Int} {k : Nat}
/-- a float that is no NaN becomes a double that is none -/
theorem q_f2dnn {r : UInt32} (h : q_nnf r = true) : q_nnd (FP.f2d r) = true := by
  obtain ⟨a1, a2, -⟩ := q_b32
  have hn : ¬ FP.Core.decode FP.Core.b32 r.toNat = .nan := by
    unfold q_nnf at h
    have h := of_decide_eq_true h
    have e2 : (0x7fffffff : UInt32).toNat = 2 ^ 31 - 1 := by decide
    have e3 : (0x7f800000 : UInt32).toNat = 255 * 2 ^ 23 := by decide
    rw [UInt32.le_iff_toNat_le, UInt32.toNat_and, e2, e3, Nat.and_two_pow_sub_one_eq_mod] at h
    unfold FP.Core.decode FP.Core.fieldE FP.Core.fieldT
    rw [a1, a2]
    split
    · rename_i he
      rw [if_pos (by omega)]
      exact fun q => by cases q
    · split
      · exact fun q => by cases q
      · exact fun q => by cases q
  have e : FP.f2d r = FP.Core.f2d r := by
    unfold FP.f2d
    rw [if_neg]
    intro q
    exact hn (of_decide_eq_true q)
  rw [e]
  exact q_nnd_wf (q_wf_round q_hp64 q_hq64 _ hn)
theorem q_cmp0 (a : Int64) : decide (lg_cmp a a = 0) = true := by
  unfold lg_cmp
  rw [if_neg (show ¬ a > a from fun h => by have := Int64.lt_iff_toInt_lt.mp h; omega), if_pos rfl]
  rfl
/-- the class' call leaves the model's cells -/
theorem q_psW {T : Type} {i : Nat} (h : i < 34) (f : Nat → T) (e : T) : q_ps 172 1 0 206 (172 + i) f e = e := by
  unfold q_ps
  rw [q_bltF (show 0 + 172 ≤ 172 + i by omega), q_bleF (show 172 + i < 206 by omega), Bool.and_false]
  rfl
theorem q_IvW (h : q_Iv c d w (q_vw 34 172 0 S)) (y : q_S) : q_Iv c d w (q_vw 34 172 0 (q_pt 172 1 0 206 S y)) := by
  refine ⟨fun i j => ?_, fun i j => ?_, fun i j hi => ?_⟩
  · by_cases e : i < 34
    · have g := h.1 i j
      have g : q_rgz (q_la i j) (q_ha d i j) (S.1 (q_eN 34 172 0 i) j) := g
      show q_rgz _ _ (q_ps 172 1 0 206 (q_eN 34 172 0 i) y.1 (S.1 (q_eN 34 172 0 i)) j)
      rw [q_eN34 e] at g ⊢
      rw [q_psW e]
      exact g
    · obtain ⟨b1, b2, -, -⟩ := q_bnd34 (d := d) (w := w) (i := i) (k := j) (by omega)
      rw [b1, b2]
      exact q_rg_full _
  · by_cases e : i < 34
    · have g := h.2.1 i j
      have g : q_rgz (q_lfz i j) (q_hf w i j) (S.2.1 (q_eN 34 172 0 i) j) := g
      show q_rgz _ _ (q_ps 172 1 0 206 (q_eN 34 172 0 i) y.2.1 (S.2.1 (q_eN 34 172 0 i)) j)
      rw [q_eN34 e] at g ⊢
      rw [q_psW e]
      exact g
    · obtain ⟨-, -, b1, b2⟩ := q_bnd34 (d := d) (w := w) (i := i) (k := j) (by omega)
      rw [b1, b2]
      exact q_rg_full _
  · by_cases e : i < 34
    · have g := h.2.2 i j hi
      have g : q_rgL 0 c (S.2.2 (q_eN 34 172 0 i) j) := g
      show q_rgL _ _ (q_ps 172 1 0 206 (q_eN 34 172 0 i) y.2.2 (S.2.2 (q_eN 34 172 0 i)) j)
      rw [q_eN34 e] at g ⊢
      rw [q_psW e]
      exact g
    · rw [Nat.ble_eq_true_of_le (by omega : 34 ≤ i)] at hi
      cases hi
theorem q_LXup {k : Int} (h : q_LX k m x) : q_LX (k + 1) m x := by
  obtain ⟨h1, h2, h3, h4, h5, h6, ⟨r1, r2, r3, r4, r5⟩, h8⟩ := h
  exact ⟨h1, h2, h3, h4, h5, h6, ⟨r1, r2, by omega, r4, r5⟩, h8⟩
theorem q_LXM {k : Int} (h : q_LX k m (q_vw 172 0 206 S)) : q_LX k (q_vw 34 172 0 (q_pt 34 0 172 0 S m)) (q_vw 172 0 206 (q_pt 34 0 172 0 S m)) := by
  obtain ⟨h1, h2, h3, h4, h5, h6, h7, h8⟩ := h
  exact ⟨h1, h2, h3, h4, h5, h6, h7, h8⟩
/-- what stands at the law's head behind k turns -/
def q_IV (k : Nat) (S : q_S) : Prop := q_LX k (q_vw 34 172 0 S) (q_vw 172 0 206 S) ∧ q_Iv (1000 * k) (1000 * k) 40 (q_vw 34 172 0 S)
theorem q_IVup (h : q_Iv (1000 * k) (1000 * k) 40 m) : q_Iv (1000 * (k + 1 : Nat)) (1000 * (k + 1 : Nat)) 40 m := q_Iv_mono h (by omega) (by omega) (Int.le_refl _)
/-- a turn that calls both -/
theorem q_trn {T : Type} {ox : Option (q_S × Int32 × Nat)} {F : q_S → Option (q_S × T)} {cv : T → Int64} {ex : Prop} {P : q_S × T → Prop} (h : q_IV k S) (hT : ∀ m, q_LX k m (q_vw 172 0 206 S) → q_Iv (1000 * k) (1000 * k) 40 m → q_TN k ox (F m) cv ex) (hJ : ∀ m, q_Iv (1000 * k) (1000 * k) 40 m → q_Ex (F m) P) (hP : ∀ x, P x → q_Iv (1000 * (k + 1 : Nat)) (1000 * (k + 1 : Nat)) 40 x.1) : ∃ r0 r1, ox = some r0 ∧ F (q_vw 34 172 0 (q_pt 172 1 0 206 S r0.1)) = some r1 ∧ q_IV (k + 1) (q_pt 34 0 172 0 (q_pt 172 1 0 206 S r0.1) r1.1) ∧ r0.2.2 ≤ 1 ∧ r1.1.2.1 0 39 = r0.2.1 ∧ (ex → r0.2.1 = 0 → r0.1.2.2 172 0 = cv r1.2) := by
  obtain ⟨r0, -, e0, -⟩ := hT _ h.1 h.2
  have I1 := q_IvW h.2 r0.1
  obtain ⟨r0', r1, e0', e1, hL, hn, hc, hx⟩ := hT _ (q_LXW h.1 r0.1) I1
  rw [e0] at e0'
  cases e0'
  obtain ⟨r1', e1', p⟩ := hJ _ I1
  rw [e1] at e1'
  cases e1'
  exact ⟨r0, r1, e0, e1, ⟨q_LXV hL S, q_IvV (hP r1 p) _⟩, hn, hc, hx⟩
theorem q_trw {T U : Type} {ox : Option (q_S × U)} {F : q_S → Option (q_S × T)} {Q : q_S × U → q_S × T → Prop} {P : q_S × T → Prop} (h : q_IV k S) (hT : ∀ m, q_LX k m (q_vw 172 0 206 S) → q_Iv (1000 * k) (1000 * k) 40 m → ∃ r0 r1, ox = some r0 ∧ F m = some r1 ∧ q_LX (k + 1) r1.1 r0.1 ∧ Q r0 r1) (hJ : ∀ m, q_Iv (1000 * k) (1000 * k) 40 m → q_Ex (F m) P) (hP : ∀ x, P x → q_Iv (1000 * (k + 1 : Nat)) (1000 * (k + 1 : Nat)) 40 x.1) : ∃ r0 r1, ox = some r0 ∧ F (q_vw 34 172 0 (q_pt 172 1 0 206 S r0.1)) = some r1 ∧ q_IV (k + 1) (q_pt 34 0 172 0 (q_pt 172 1 0 206 S r0.1) r1.1) ∧ Q r0 r1 := by
  obtain ⟨r0, -, e0, -⟩ := hT _ h.1 h.2
  have I1 := q_IvW h.2 r0.1
  obtain ⟨r0', r1, e0', e1, hL, hx⟩ := hT _ (q_LXW h.1 r0.1) I1
  rw [e0] at e0'
  cases e0'
  obtain ⟨r1', e1', p⟩ := hJ _ I1
  rw [e1] at e1'
  cases e1'
  exact ⟨r0, r1, e0, e1, ⟨q_LXV hL S, q_IvV (hP r1 p) _⟩, hx⟩
/-- a turn that reads -/
theorem q_rdn (h : q_IV k S) : q_IV (k + 1) (q_pt 34 0 172 0 S (q_mok (q_vw 34 172 0 S))) :=
  ⟨q_LXM (q_LXbad h.1 0), q_IvV (q_IVup (q_Ivk h.2)) _⟩
/-- a turn that does nothing -/
theorem q_nop (h : q_IV k S) : q_IV (k + 1) S := ⟨q_LXup h.1, q_IVup h.2⟩
end
end
section
-- 56.f
theorem q_cLe (b : Bool) {x y : Int} (h1 : x ≤ 0) (h2 : y ≤ 0) : cond b x y ≤ 0 := by cases b <;> assumption
theorem q_cGe (b : Bool) {x y : Int} (h1 : 0 ≤ x) (h2 : 0 ≤ y) : 0 ≤ cond b x y := by cases b <;> assumption
theorem q_lr0 (k : Nat) : q_lr 14 k ≤ 0 := q_cLe _ (q_cLe _ (by decide) (by decide)) (by decide)
theorem q_la0 (i k : Nat) : q_la i k ≤ 0 := q_cLe _ (q_lr0 k) (q_cLe _ (q_lr0 _) (q_cLe _ (by decide) (by decide)))
theorem q_hn0 (k : Nat) : 0 ≤ q_hn 0 k := q_cGe _ (by decide) (q_cGe _ (by decide) (q_cGe _ (by decide) (q_cGe _ (by decide) (q_cGe _ (by decide) (q_cGe _ (by decide) (q_cGe _ (by decide) (q_cGe _ (by decide) (by decide))))))))
theorem q_hg0 (k : Nat) : 0 ≤ q_hg k := q_cGe _ (by decide) (q_cGe _ (by decide) (by decide))
theorem q_ha0 (i k : Nat) : 0 ≤ q_ha 0 i k := q_cGe _ (q_hn0 k) (q_cGe _ (q_hn0 _) (q_cGe _ (q_hg0 k) (q_cGe _ (q_hg0 _) (q_cGe _ (by decide) (q_cGe _ (by decide) (q_cGe _ (by decide) (q_cGe _ (by decide) (q_cGe _ (by decide) (q_cGe _ (by decide) (by decide))))))))))
theorem q_z0 (i k : Nat) : q_rgz (q_la i k) (q_ha 0 i k) 0 := ⟨q_la0 i k, q_ha0 i k⟩
theorem q_am0 (i k : Nat) : q_rgz (q_la i k) (q_ha 0 i k) (q_AM i k) := by
  unfold q_AM
  cases e15 : Nat.beq i 15 with
  | true =>
    rw [Nat.eq_of_beq_eq_true e15]
    exact q_hf_up (l := q_la 15) (u := q_ha 0 15) (f := fun _ => 0) (fun k => q_z0 15 k) (j := 3) (v := 1) ⟨by decide, by decide⟩ k
  | false =>
    cases e14 : Nat.beq i 14 with
    | true =>
      rw [Nat.eq_of_beq_eq_true e14]
      exact q_hf_up (l := q_la 14) (u := q_ha 0 14) (f := fun _ => 0) (fun k => q_z0 14 k) (j := 3) (v := 255) ⟨by decide, by decide⟩ k
    | false =>
      cases e13 : Nat.beq i 13 with
      | true =>
        rw [Nat.eq_of_beq_eq_true e13]
        exact q_hf_up (l := q_la 13) (u := q_ha 0 13) (q_hf_up (l := q_la 13) (u := q_ha 0 13) (q_hf_up (l := q_la 13) (u := q_ha 0 13) (f := fun _ => 0) (fun k => q_z0 13 k) (j := 0) (v := 1) ⟨by decide, by decide⟩) (j := 1) (v := 1) ⟨by decide, by decide⟩) (j := 2) (v := 1) ⟨by decide, by decide⟩ k
      | false => exact q_z0 i k
theorem q_im0 (i k : Nat) : q_rgz (q_lfz i k) (q_hf 40 i k) (q_IM i k) := by
  have z : q_rgz (q_lfz i k) (q_hf 40 i k) 0 := ⟨q_cLe _ (by decide) (by decide), q_cGe _ (q_cGe _ (by decide) (q_cGe _ (by decide) (q_cGe _ (by decide) (by decide)))) (by decide)⟩
  unfold q_IM
  cases e : (Nat.beq i 0 && Nat.beq k 34) with
  | false => exact z
  | true =>
    rw [Bool.and_eq_true] at e
    rw [Nat.eq_of_beq_eq_true e.1, Nat.eq_of_beq_eq_true e.2]
    exact ⟨by decide, by decide⟩
theorem q_aL34 {i : Nat} (h : i < 34) : q_AL (172 + i) = q_AM i := by
  unfold q_AL
  rw [q_bltF (show 172 ≤ 172 + i by omega), q_bltT (show 172 + i < 206 by omega), Nat.add_sub_cancel_left]
  rfl
theorem q_iL34 {i : Nat} (k : Nat) (h : i < 34) : q_IL (172 + i) k = q_IM i k := by
  unfold q_IL
  rw [q_bltF (show 172 ≤ 172 + i by omega), q_bltT (show 172 + i < 206 by omega), Nat.add_sub_cancel_left]
  rfl
theorem q_Iv0 : q_Iv 0 0 40 (q_vw 34 172 0 q_SL0) := by
  refine ⟨fun i k => ?_, fun i k => ?_, fun i k hi => ⟨Int.le_refl _, Int.le_refl _⟩⟩
  · by_cases e : i < 34
    · show q_rgz _ _ (q_AL (q_eN 34 172 0 i) k)
      rw [q_eN34 e, q_aL34 e]
      exact q_am0 i k
    · obtain ⟨b1, b2, -, -⟩ := q_bnd34 (d := 0) (w := 40) (i := i) (k := k) (by omega)
      rw [b1, b2]
      exact q_rg_full _
  · by_cases e : i < 34
    · show q_rgz _ _ (q_IL (q_eN 34 172 0 i) k)
      rw [q_eN34 e, q_iL34 k e]
      exact q_im0 i k
    · obtain ⟨-, -, b1, b2⟩ := q_bnd34 (d := 0) (w := 40) (i := i) (k := k) (by omega)
      rw [b1, b2]
      exact q_rg_full _
theorem q_cs0 : ∀ n, n < 16 → q_cs (fun _ => 0) (Int32.ofNat n) = some 0 := by decide +kernel
theorem q_LX0 : q_LX 0 (q_vw 34 172 0 q_SL0) (q_vw 172 0 206 q_SL0) := by
  refine ⟨⟨⟨fun _ _ => rfl, fun _ _ => rfl, fun _ _ => rfl⟩, ⟨⟨fun _ _ _ => rfl, fun _ _ _ => rfl⟩, rfl, rfl, rfl⟩, ⟨⟨⟨by decide, by decide⟩, ⟨by decide, by decide⟩, ⟨by decide, by decide⟩, ⟨by decide, by decide⟩⟩, rfl, rfl, rfl, rfl⟩, ⟨fun _ _ => rfl, rfl, rfl, rfl, by decide, fun _ h => absurd h (Nat.not_lt_zero _), fun h => absurd h (by decide), fun _ => rfl⟩, ⟨rfl, fun _ _ => rfl, fun r hr => ?_⟩, ⟨⟨rfl, rfl, rfl, rfl⟩, fun _ => rfl, rfl, rfl, rfl, rfl, rfl, trivial, ⟨fun _ _ => rfl, rfl, rfl, rfl, rfl, rfl⟩, rfl, Or.inl rfl, ⟨by decide, by decide⟩⟩, ⟨fun _ _ => ⟨rfl, rfl, rfl, rfl⟩, fun _ _ => rfl⟩, ⟨⟨fun _ _ => rfl, ⟨by decide, by decide⟩⟩, rfl⟩⟩, rfl, fun h => absurd h (by decide), fun h => absurd h (by decide), fun h => absurd h (by decide), ⟨⟨by decide, by decide⟩, ⟨by decide, by decide⟩⟩, ⟨Or.inl ⟨rfl, rfl⟩, by decide, by decide, by decide, by decide⟩, ⟨by decide, by decide⟩, rfl, fun _ h => absurd h (Nat.not_lt_zero _)⟩
  show q_cs (fun _ => 0) r = some 0
  have t := q_cs0 r.toInt.toNat (by have := hr.1; have := hr.2; omega)
  rw [q_ofn hr] at t
  exact t
theorem q_IV0 : q_IV 0 q_SL0 := ⟨q_LX0, q_Iv0⟩
end
section
-- 57.law
/-! ===== the turns of the law ===== -/
set_option maxHeartbeats 4000000 in
theorem q_lw0 (z L : Nat) (xs : Nat → Int32) (S : q_S) (c n : Nat) (i : Int32) (hx0 : q_in i L = true) (hx1 : q_in (i + 1) L = true) (hx2 : q_in (i + 2) L = true) (hx3 : q_in (i + 3) L = true) (hi : decide (Int32.ofNat L - 4 < i) = false) (hv : xs i.toNatClampNeg &&& 63 = 0) (r0 : q_S × Int32 × Nat) (er0 : dz_X0_64_236 (q_vw 172 0 206 S) (xs ((i + 1).toNatClampNeg)) (xs ((i + 2).toNatClampNeg)) = some r0) (r1 : q_S × Int32) (er1 : dz_M216_64 (q_vw 34 172 0 (q_pt 172 1 0 206 S r0.1)) (xs ((i + 1).toNatClampNeg)) (xs ((i + 2).toNatClampNeg)) = some r1) {o : q_Out} (h : q_Ru (q_TBs z L xs) 20 376 (23, [(4, .int (i + 4)), (3, .ref 270), (2, .ref 236), (1, .ref 64), (0, .ref 0)], [], (q_kL (q_pt 34 0 172 0 (q_pt 172 1 0 206 S r0.1) r1.1) (c + r0.2.2) (n + 6 * r0.2.2))) o) : q_Ru (q_TBs z L xs) 20 376 (23, [(4, .int i), (3, .ref 270), (2, .ref 236), (1, .ref 64), (0, .ref 0)], [], (q_kL S c n)) o := by
  refine q_Ru_seg (g2 := (29, [(4, .int i), (3, .ref 270), (2, .ref 236), (1, .ref 64), (0, .ref 0)], [.int ((Int32.ofNat L) - 4), .int i], (q_kL S c n))) 5 (fun _ _ => rfl) ?_
  refine q_Ru_rsF (g2 := (32, [(4, .int i), (3, .ref 270), (2, .ref 236), (1, .ref 64), (0, .ref 0)], [], (q_kL S c n))) rfl rfl hi ?_
  refine q_Ru_seg (g2 := (35, [(4, .int i), (3, .ref 270), (2, .ref 236), (1, .ref 64), (0, .ref 0)], [.int i, .ref 0], (q_kL S c n))) 2 (fun _ _ => rfl) ?_
  refine q_Ru_rsT (g2 := (36, [(4, .int i), (3, .ref 270), (2, .ref 236), (1, .ref 64), (0, .ref 0)], [.int (xs (i.toNatClampNeg))], (q_kL S c n))) rfl rfl hx0 ?_
  refine q_Ru_seg (g2 := (39, [(4, .int i), (3, .ref 270), (2, .ref 236), (1, .ref 64), (0, .ref 0)], [.int ((xs (i.toNatClampNeg)) &&& 63)], (q_kL S c n))) 2 (fun _ _ => rfl) ?_
  rw [hv]
  refine q_Ru_seg (g2 := (226, [(4, .int i), (3, .ref 270), (2, .ref 236), (1, .ref 64), (0, .ref 0)], [.int (i + 1), .ref 0, .ref 64], (q_kL S c n))) 6 (fun _ _ => rfl) ?_
  refine q_Ru_rsT (g2 := (227, [(4, .int i), (3, .ref 270), (2, .ref 236), (1, .ref 64), (0, .ref 0)], [.int (xs ((i + 1).toNatClampNeg)), .ref 64], (q_kL S c n))) rfl rfl hx1 ?_
  refine q_Ru_seg (g2 := (232, [(4, .int i), (3, .ref 270), (2, .ref 236), (1, .ref 64), (0, .ref 0)], [.int (i + 2), .ref 0, .int (xs ((i + 1).toNatClampNeg)), .ref 64], (q_kL S c n))) 4 (fun _ _ => rfl) ?_
  refine q_Ru_rsT (g2 := (233, [(4, .int i), (3, .ref 270), (2, .ref 236), (1, .ref 64), (0, .ref 0)], [.int (xs ((i + 2).toNatClampNeg)), .int (xs ((i + 1).toNatClampNeg)), .ref 64], (q_kL S c n))) rfl rfl hx2 ?_
  refine q_Ru_seg (g2 := (234, [(4, .int i), (3, .ref 270), (2, .ref 236), (1, .ref 64), (0, .ref 0)], [.ref 270, .int (xs ((i + 2).toNatClampNeg)), .int (xs ((i + 1).toNatClampNeg)), .ref 64], (q_kL S c n))) 1 (fun _ _ => rfl) ?_
  refine q_Ru_call (v := (some (.int r0.2.1))) (h2 := (q_kL (q_pt 172 1 0 206 S r0.1) (c + r0.2.2) (n + 6 * r0.2.2))) rfl rfl ?_ ?_
  · exact (q_emXL rfl (fun _ => rfl) (dzt_X0_64_236 z L xs (q_vw 172 0 206 S) c n (xs ((i + 1).toNatClampNeg)) (xs ((i + 2).toNatClampNeg)) r0 er0)).le (Nat.le_of_ble_eq_true rfl)
  show q_Ru _ _ _ (237, [(4, .int i), (3, .ref 270), (2, .ref 236), (1, .ref 64), (0, .ref 0)], [.int r0.2.1], (q_kL (q_pt 172 1 0 206 S r0.1) (c + r0.2.2) (n + 6 * r0.2.2))) _
  refine q_Ru_seg (g2 := (245, [(5, .int r0.2.1), (4, .int i), (3, .ref 270), (2, .ref 236), (1, .ref 64), (0, .ref 0)], [.int (i + 1), .ref 0, .ref 236], (q_kL (q_pt 172 1 0 206 S r0.1) (c + r0.2.2) (n + 6 * r0.2.2)))) 6 (fun _ _ => rfl) ?_
  refine q_Ru_rsT (g2 := (246, [(5, .int r0.2.1), (4, .int i), (3, .ref 270), (2, .ref 236), (1, .ref 64), (0, .ref 0)], [.int (xs ((i + 1).toNatClampNeg)), .ref 236], (q_kL (q_pt 172 1 0 206 S r0.1) (c + r0.2.2) (n + 6 * r0.2.2)))) rfl rfl hx1 ?_
  refine q_Ru_seg (g2 := (251, [(5, .int r0.2.1), (4, .int i), (3, .ref 270), (2, .ref 236), (1, .ref 64), (0, .ref 0)], [.int (i + 2), .ref 0, .int (xs ((i + 1).toNatClampNeg)), .ref 236], (q_kL (q_pt 172 1 0 206 S r0.1) (c + r0.2.2) (n + 6 * r0.2.2)))) 4 (fun _ _ => rfl) ?_
  refine q_Ru_rsT (g2 := (252, [(5, .int r0.2.1), (4, .int i), (3, .ref 270), (2, .ref 236), (1, .ref 64), (0, .ref 0)], [.int (xs ((i + 2).toNatClampNeg)), .int (xs ((i + 1).toNatClampNeg)), .ref 236], (q_kL (q_pt 172 1 0 206 S r0.1) (c + r0.2.2) (n + 6 * r0.2.2)))) rfl rfl hx2 ?_
  refine q_Ru_call (v := (some (.int r1.2))) (h2 := (q_kL (q_pt 34 0 172 0 (q_pt 172 1 0 206 S r0.1) r1.1) (c + r0.2.2) (n + 6 * r0.2.2))) rfl rfl ?_ ?_
  · exact (q_emML rfl (fun _ => rfl) ((dzt_M216_64 (q_vw 34 172 0 (q_pt 172 1 0 206 S r0.1)) (c + r0.2.2) (n + 6 * r0.2.2) (xs ((i + 1).toNatClampNeg)) (xs ((i + 2).toNatClampNeg)) r1 er1).tb q_TB0_le)).le (Nat.le_of_ble_eq_true rfl)
  show q_Ru _ _ _ (255, [(5, .int r0.2.1), (4, .int i), (3, .ref 270), (2, .ref 236), (1, .ref 64), (0, .ref 0)], [.int r1.2], (q_kL (q_pt 34 0 172 0 (q_pt 172 1 0 206 S r0.1) r1.1) (c + r0.2.2) (n + 6 * r0.2.2))) _
  refine q_Ru_seg (g2 := (23, [(4, .int (i + 4)), (6, .int r1.2), (5, .int r0.2.1), (3, .ref 270), (2, .ref 236), (1, .ref 64), (0, .ref 0)], [], (q_kL (q_pt 34 0 172 0 (q_pt 172 1 0 206 S r0.1) r1.1) (c + r0.2.2) (n + 6 * r0.2.2)))) 4 (fun _ _ => rfl) ?_
  exact q_Ru_xt (q_xt_mk (q_mn1 0 rfl (q_mn1 3 rfl (q_mn1 4 rfl (q_mn1 5 rfl (q_mn1 6 rfl q_mn0))))) rfl) h
set_option maxHeartbeats 4000000 in
theorem q_lw1 (z L : Nat) (xs : Nat → Int32) (S : q_S) (c n : Nat) (i : Int32) (hx0 : q_in i L = true) (hx1 : q_in (i + 1) L = true) (hx2 : q_in (i + 2) L = true) (hx3 : q_in (i + 3) L = true) (hi : decide (Int32.ofNat L - 4 < i) = false) (hv : xs i.toNatClampNeg &&& 63 = 1) (r0 : q_S × Int32 × Nat) (er0 : dz_X1_64_236 (q_vw 172 0 206 S) (xs ((i + 1).toNatClampNeg)) (xs ((i + 2).toNatClampNeg)) = some r0) (r1 : q_S × Int32) (er1 : dz_M217_64 (q_vw 34 172 0 (q_pt 172 1 0 206 S r0.1)) (xs ((i + 1).toNatClampNeg)) (xs ((i + 2).toNatClampNeg)) = some r1) {o : q_Out} (h : q_Ru (q_TBs z L xs) 20 376 (23, [(4, .int (i + 4)), (3, .ref 270), (2, .ref 236), (1, .ref 64), (0, .ref 0)], [], (q_kL (q_pt 34 0 172 0 (q_pt 172 1 0 206 S r0.1) r1.1) (c + r0.2.2) (n + 6 * r0.2.2))) o) : q_Ru (q_TBs z L xs) 20 376 (23, [(4, .int i), (3, .ref 270), (2, .ref 236), (1, .ref 64), (0, .ref 0)], [], (q_kL S c n)) o := by
  refine q_Ru_seg (g2 := (29, [(4, .int i), (3, .ref 270), (2, .ref 236), (1, .ref 64), (0, .ref 0)], [.int ((Int32.ofNat L) - 4), .int i], (q_kL S c n))) 5 (fun _ _ => rfl) ?_
  refine q_Ru_rsF (g2 := (32, [(4, .int i), (3, .ref 270), (2, .ref 236), (1, .ref 64), (0, .ref 0)], [], (q_kL S c n))) rfl rfl hi ?_
  refine q_Ru_seg (g2 := (35, [(4, .int i), (3, .ref 270), (2, .ref 236), (1, .ref 64), (0, .ref 0)], [.int i, .ref 0], (q_kL S c n))) 2 (fun _ _ => rfl) ?_
  refine q_Ru_rsT (g2 := (36, [(4, .int i), (3, .ref 270), (2, .ref 236), (1, .ref 64), (0, .ref 0)], [.int (xs (i.toNatClampNeg))], (q_kL S c n))) rfl rfl hx0 ?_
  refine q_Ru_seg (g2 := (39, [(4, .int i), (3, .ref 270), (2, .ref 236), (1, .ref 64), (0, .ref 0)], [.int ((xs (i.toNatClampNeg)) &&& 63)], (q_kL S c n))) 2 (fun _ _ => rfl) ?_
  rw [hv]
  refine q_Ru_seg (g2 := (266, [(4, .int i), (3, .ref 270), (2, .ref 236), (1, .ref 64), (0, .ref 0)], [.int (i + 1), .ref 0, .ref 64], (q_kL S c n))) 6 (fun _ _ => rfl) ?_
  refine q_Ru_rsT (g2 := (267, [(4, .int i), (3, .ref 270), (2, .ref 236), (1, .ref 64), (0, .ref 0)], [.int (xs ((i + 1).toNatClampNeg)), .ref 64], (q_kL S c n))) rfl rfl hx1 ?_
  refine q_Ru_seg (g2 := (272, [(4, .int i), (3, .ref 270), (2, .ref 236), (1, .ref 64), (0, .ref 0)], [.int (i + 2), .ref 0, .int (xs ((i + 1).toNatClampNeg)), .ref 64], (q_kL S c n))) 4 (fun _ _ => rfl) ?_
  refine q_Ru_rsT (g2 := (273, [(4, .int i), (3, .ref 270), (2, .ref 236), (1, .ref 64), (0, .ref 0)], [.int (xs ((i + 2).toNatClampNeg)), .int (xs ((i + 1).toNatClampNeg)), .ref 64], (q_kL S c n))) rfl rfl hx2 ?_
  refine q_Ru_seg (g2 := (274, [(4, .int i), (3, .ref 270), (2, .ref 236), (1, .ref 64), (0, .ref 0)], [.ref 270, .int (xs ((i + 2).toNatClampNeg)), .int (xs ((i + 1).toNatClampNeg)), .ref 64], (q_kL S c n))) 1 (fun _ _ => rfl) ?_
  refine q_Ru_call (v := (some (.int r0.2.1))) (h2 := (q_kL (q_pt 172 1 0 206 S r0.1) (c + r0.2.2) (n + 6 * r0.2.2))) rfl rfl ?_ ?_
  · exact (q_emXL rfl (fun _ => rfl) (dzt_X1_64_236 z L xs (q_vw 172 0 206 S) c n (xs ((i + 1).toNatClampNeg)) (xs ((i + 2).toNatClampNeg)) r0 er0)).le (Nat.le_of_ble_eq_true rfl)
  show q_Ru _ _ _ (277, [(4, .int i), (3, .ref 270), (2, .ref 236), (1, .ref 64), (0, .ref 0)], [.int r0.2.1], (q_kL (q_pt 172 1 0 206 S r0.1) (c + r0.2.2) (n + 6 * r0.2.2))) _
  refine q_Ru_seg (g2 := (285, [(5, .int r0.2.1), (4, .int i), (3, .ref 270), (2, .ref 236), (1, .ref 64), (0, .ref 0)], [.int (i + 1), .ref 0, .ref 236], (q_kL (q_pt 172 1 0 206 S r0.1) (c + r0.2.2) (n + 6 * r0.2.2)))) 6 (fun _ _ => rfl) ?_
  refine q_Ru_rsT (g2 := (286, [(5, .int r0.2.1), (4, .int i), (3, .ref 270), (2, .ref 236), (1, .ref 64), (0, .ref 0)], [.int (xs ((i + 1).toNatClampNeg)), .ref 236], (q_kL (q_pt 172 1 0 206 S r0.1) (c + r0.2.2) (n + 6 * r0.2.2)))) rfl rfl hx1 ?_
  refine q_Ru_seg (g2 := (291, [(5, .int r0.2.1), (4, .int i), (3, .ref 270), (2, .ref 236), (1, .ref 64), (0, .ref 0)], [.int (i + 2), .ref 0, .int (xs ((i + 1).toNatClampNeg)), .ref 236], (q_kL (q_pt 172 1 0 206 S r0.1) (c + r0.2.2) (n + 6 * r0.2.2)))) 4 (fun _ _ => rfl) ?_
  refine q_Ru_rsT (g2 := (292, [(5, .int r0.2.1), (4, .int i), (3, .ref 270), (2, .ref 236), (1, .ref 64), (0, .ref 0)], [.int (xs ((i + 2).toNatClampNeg)), .int (xs ((i + 1).toNatClampNeg)), .ref 236], (q_kL (q_pt 172 1 0 206 S r0.1) (c + r0.2.2) (n + 6 * r0.2.2)))) rfl rfl hx2 ?_
  refine q_Ru_call (v := (some (.int r1.2))) (h2 := (q_kL (q_pt 34 0 172 0 (q_pt 172 1 0 206 S r0.1) r1.1) (c + r0.2.2) (n + 6 * r0.2.2))) rfl rfl ?_ ?_
  · exact (q_emML rfl (fun _ => rfl) ((dzt_M217_64 (q_vw 34 172 0 (q_pt 172 1 0 206 S r0.1)) (c + r0.2.2) (n + 6 * r0.2.2) (xs ((i + 1).toNatClampNeg)) (xs ((i + 2).toNatClampNeg)) r1 er1).tb q_TB0_le)).le (Nat.le_of_ble_eq_true rfl)
  show q_Ru _ _ _ (295, [(5, .int r0.2.1), (4, .int i), (3, .ref 270), (2, .ref 236), (1, .ref 64), (0, .ref 0)], [.int r1.2], (q_kL (q_pt 34 0 172 0 (q_pt 172 1 0 206 S r0.1) r1.1) (c + r0.2.2) (n + 6 * r0.2.2))) _
  refine q_Ru_seg (g2 := (23, [(4, .int (i + 4)), (6, .int r1.2), (5, .int r0.2.1), (3, .ref 270), (2, .ref 236), (1, .ref 64), (0, .ref 0)], [], (q_kL (q_pt 34 0 172 0 (q_pt 172 1 0 206 S r0.1) r1.1) (c + r0.2.2) (n + 6 * r0.2.2)))) 4 (fun _ _ => rfl) ?_
  exact q_Ru_xt (q_xt_mk (q_mn1 0 rfl (q_mn1 3 rfl (q_mn1 4 rfl (q_mn1 5 rfl (q_mn1 6 rfl q_mn0))))) rfl) h
set_option maxHeartbeats 4000000 in
theorem q_lw2 (z L : Nat) (xs : Nat → Int32) (S : q_S) (c n : Nat) (i : Int32) (hx0 : q_in i L = true) (hx1 : q_in (i + 1) L = true) (hx2 : q_in (i + 2) L = true) (hx3 : q_in (i + 3) L = true) (hi : decide (Int32.ofNat L - 4 < i) = false) (hv : xs i.toNatClampNeg &&& 63 = 2) (r0 : q_S × Int32 × Nat) (er0 : dz_X2_64_236 (q_vw 172 0 206 S) (xs ((i + 1).toNatClampNeg)) (xs ((i + 2).toNatClampNeg)) (xs ((i + 3).toNatClampNeg)) = some r0) (r1 : q_S × Int32) (er1 : dz_M218_64 (q_vw 34 172 0 (q_pt 172 1 0 206 S r0.1)) (xs ((i + 1).toNatClampNeg)) (xs ((i + 2).toNatClampNeg)) (xs ((i + 3).toNatClampNeg)) = some r1) {o : q_Out} (h : q_Ru (q_TBs z L xs) 20 376 (23, [(4, .int (i + 4)), (3, .ref 270), (2, .ref 236), (1, .ref 64), (0, .ref 0)], [], (q_kL (q_pt 34 0 172 0 (q_pt 172 1 0 206 S r0.1) r1.1) (c + r0.2.2) (n + 6 * r0.2.2))) o) : q_Ru (q_TBs z L xs) 20 376 (23, [(4, .int i), (3, .ref 270), (2, .ref 236), (1, .ref 64), (0, .ref 0)], [], (q_kL S c n)) o := by
  refine q_Ru_seg (g2 := (29, [(4, .int i), (3, .ref 270), (2, .ref 236), (1, .ref 64), (0, .ref 0)], [.int ((Int32.ofNat L) - 4), .int i], (q_kL S c n))) 5 (fun _ _ => rfl) ?_
  refine q_Ru_rsF (g2 := (32, [(4, .int i), (3, .ref 270), (2, .ref 236), (1, .ref 64), (0, .ref 0)], [], (q_kL S c n))) rfl rfl hi ?_
  refine q_Ru_seg (g2 := (35, [(4, .int i), (3, .ref 270), (2, .ref 236), (1, .ref 64), (0, .ref 0)], [.int i, .ref 0], (q_kL S c n))) 2 (fun _ _ => rfl) ?_
  refine q_Ru_rsT (g2 := (36, [(4, .int i), (3, .ref 270), (2, .ref 236), (1, .ref 64), (0, .ref 0)], [.int (xs (i.toNatClampNeg))], (q_kL S c n))) rfl rfl hx0 ?_
  refine q_Ru_seg (g2 := (39, [(4, .int i), (3, .ref 270), (2, .ref 236), (1, .ref 64), (0, .ref 0)], [.int ((xs (i.toNatClampNeg)) &&& 63)], (q_kL S c n))) 2 (fun _ _ => rfl) ?_
  rw [hv]
  refine q_Ru_seg (g2 := (306, [(4, .int i), (3, .ref 270), (2, .ref 236), (1, .ref 64), (0, .ref 0)], [.int (i + 1), .ref 0, .ref 64], (q_kL S c n))) 6 (fun _ _ => rfl) ?_
  refine q_Ru_rsT (g2 := (307, [(4, .int i), (3, .ref 270), (2, .ref 236), (1, .ref 64), (0, .ref 0)], [.int (xs ((i + 1).toNatClampNeg)), .ref 64], (q_kL S c n))) rfl rfl hx1 ?_
  refine q_Ru_seg (g2 := (312, [(4, .int i), (3, .ref 270), (2, .ref 236), (1, .ref 64), (0, .ref 0)], [.int (i + 2), .ref 0, .int (xs ((i + 1).toNatClampNeg)), .ref 64], (q_kL S c n))) 4 (fun _ _ => rfl) ?_
  refine q_Ru_rsT (g2 := (313, [(4, .int i), (3, .ref 270), (2, .ref 236), (1, .ref 64), (0, .ref 0)], [.int (xs ((i + 2).toNatClampNeg)), .int (xs ((i + 1).toNatClampNeg)), .ref 64], (q_kL S c n))) rfl rfl hx2 ?_
  refine q_Ru_seg (g2 := (318, [(4, .int i), (3, .ref 270), (2, .ref 236), (1, .ref 64), (0, .ref 0)], [.int (i + 3), .ref 0, .int (xs ((i + 2).toNatClampNeg)), .int (xs ((i + 1).toNatClampNeg)), .ref 64], (q_kL S c n))) 4 (fun _ _ => rfl) ?_
  refine q_Ru_rsT (g2 := (319, [(4, .int i), (3, .ref 270), (2, .ref 236), (1, .ref 64), (0, .ref 0)], [.int (xs ((i + 3).toNatClampNeg)), .int (xs ((i + 2).toNatClampNeg)), .int (xs ((i + 1).toNatClampNeg)), .ref 64], (q_kL S c n))) rfl rfl hx3 ?_
  refine q_Ru_seg (g2 := (320, [(4, .int i), (3, .ref 270), (2, .ref 236), (1, .ref 64), (0, .ref 0)], [.ref 270, .int (xs ((i + 3).toNatClampNeg)), .int (xs ((i + 2).toNatClampNeg)), .int (xs ((i + 1).toNatClampNeg)), .ref 64], (q_kL S c n))) 1 (fun _ _ => rfl) ?_
  refine q_Ru_call (v := (some (.int r0.2.1))) (h2 := (q_kL (q_pt 172 1 0 206 S r0.1) (c + r0.2.2) (n + 6 * r0.2.2))) rfl rfl ?_ ?_
  · exact (q_emXL rfl (fun _ => rfl) (dzt_X2_64_236 z L xs (q_vw 172 0 206 S) c n (xs ((i + 1).toNatClampNeg)) (xs ((i + 2).toNatClampNeg)) (xs ((i + 3).toNatClampNeg)) r0 er0)).le (Nat.le_of_ble_eq_true rfl)
  show q_Ru _ _ _ (323, [(4, .int i), (3, .ref 270), (2, .ref 236), (1, .ref 64), (0, .ref 0)], [.int r0.2.1], (q_kL (q_pt 172 1 0 206 S r0.1) (c + r0.2.2) (n + 6 * r0.2.2))) _
  refine q_Ru_seg (g2 := (331, [(5, .int r0.2.1), (4, .int i), (3, .ref 270), (2, .ref 236), (1, .ref 64), (0, .ref 0)], [.int (i + 1), .ref 0, .ref 236], (q_kL (q_pt 172 1 0 206 S r0.1) (c + r0.2.2) (n + 6 * r0.2.2)))) 6 (fun _ _ => rfl) ?_
  refine q_Ru_rsT (g2 := (332, [(5, .int r0.2.1), (4, .int i), (3, .ref 270), (2, .ref 236), (1, .ref 64), (0, .ref 0)], [.int (xs ((i + 1).toNatClampNeg)), .ref 236], (q_kL (q_pt 172 1 0 206 S r0.1) (c + r0.2.2) (n + 6 * r0.2.2)))) rfl rfl hx1 ?_
  refine q_Ru_seg (g2 := (337, [(5, .int r0.2.1), (4, .int i), (3, .ref 270), (2, .ref 236), (1, .ref 64), (0, .ref 0)], [.int (i + 2), .ref 0, .int (xs ((i + 1).toNatClampNeg)), .ref 236], (q_kL (q_pt 172 1 0 206 S r0.1) (c + r0.2.2) (n + 6 * r0.2.2)))) 4 (fun _ _ => rfl) ?_
  refine q_Ru_rsT (g2 := (338, [(5, .int r0.2.1), (4, .int i), (3, .ref 270), (2, .ref 236), (1, .ref 64), (0, .ref 0)], [.int (xs ((i + 2).toNatClampNeg)), .int (xs ((i + 1).toNatClampNeg)), .ref 236], (q_kL (q_pt 172 1 0 206 S r0.1) (c + r0.2.2) (n + 6 * r0.2.2)))) rfl rfl hx2 ?_
  refine q_Ru_seg (g2 := (343, [(5, .int r0.2.1), (4, .int i), (3, .ref 270), (2, .ref 236), (1, .ref 64), (0, .ref 0)], [.int (i + 3), .ref 0, .int (xs ((i + 2).toNatClampNeg)), .int (xs ((i + 1).toNatClampNeg)), .ref 236], (q_kL (q_pt 172 1 0 206 S r0.1) (c + r0.2.2) (n + 6 * r0.2.2)))) 4 (fun _ _ => rfl) ?_
  refine q_Ru_rsT (g2 := (344, [(5, .int r0.2.1), (4, .int i), (3, .ref 270), (2, .ref 236), (1, .ref 64), (0, .ref 0)], [.int (xs ((i + 3).toNatClampNeg)), .int (xs ((i + 2).toNatClampNeg)), .int (xs ((i + 1).toNatClampNeg)), .ref 236], (q_kL (q_pt 172 1 0 206 S r0.1) (c + r0.2.2) (n + 6 * r0.2.2)))) rfl rfl hx3 ?_
  refine q_Ru_call (v := (some (.int r1.2))) (h2 := (q_kL (q_pt 34 0 172 0 (q_pt 172 1 0 206 S r0.1) r1.1) (c + r0.2.2) (n + 6 * r0.2.2))) rfl rfl ?_ ?_
  · exact (q_emML rfl (fun _ => rfl) ((dzt_M218_64 (q_vw 34 172 0 (q_pt 172 1 0 206 S r0.1)) (c + r0.2.2) (n + 6 * r0.2.2) (xs ((i + 1).toNatClampNeg)) (xs ((i + 2).toNatClampNeg)) (xs ((i + 3).toNatClampNeg)) r1 er1).tb q_TB0_le)).le (Nat.le_of_ble_eq_true rfl)
  show q_Ru _ _ _ (347, [(5, .int r0.2.1), (4, .int i), (3, .ref 270), (2, .ref 236), (1, .ref 64), (0, .ref 0)], [.int r1.2], (q_kL (q_pt 34 0 172 0 (q_pt 172 1 0 206 S r0.1) r1.1) (c + r0.2.2) (n + 6 * r0.2.2))) _
  refine q_Ru_seg (g2 := (23, [(4, .int (i + 4)), (6, .int r1.2), (5, .int r0.2.1), (3, .ref 270), (2, .ref 236), (1, .ref 64), (0, .ref 0)], [], (q_kL (q_pt 34 0 172 0 (q_pt 172 1 0 206 S r0.1) r1.1) (c + r0.2.2) (n + 6 * r0.2.2)))) 4 (fun _ _ => rfl) ?_
  exact q_Ru_xt (q_xt_mk (q_mn1 0 rfl (q_mn1 3 rfl (q_mn1 4 rfl (q_mn1 5 rfl (q_mn1 6 rfl q_mn0))))) rfl) h
set_option maxHeartbeats 4000000 in
theorem q_lw3 (z L : Nat) (xs : Nat → Int32) (S : q_S) (c n : Nat) (i : Int32) (hx0 : q_in i L = true) (hx1 : q_in (i + 1) L = true) (hx2 : q_in (i + 2) L = true) (hx3 : q_in (i + 3) L = true) (hi : decide (Int32.ofNat L - 4 < i) = false) (hv : xs i.toNatClampNeg &&& 63 = 3) (r0 : q_S × Int32 × Nat) (er0 : dz_X3_64_236 (q_vw 172 0 206 S) (xs ((i + 1).toNatClampNeg)) = some r0) (r1 : q_S × Int32) (er1 : dz_M219_64 (q_vw 34 172 0 (q_pt 172 1 0 206 S r0.1)) (xs ((i + 1).toNatClampNeg)) = some r1) {o : q_Out} (h : q_Ru (q_TBs z L xs) 20 376 (23, [(4, .int (i + 4)), (3, .ref 270), (2, .ref 236), (1, .ref 64), (0, .ref 0)], [], (q_kL (q_pt 34 0 172 0 (q_pt 172 1 0 206 S r0.1) r1.1) (c + r0.2.2) (n + 6 * r0.2.2))) o) : q_Ru (q_TBs z L xs) 20 376 (23, [(4, .int i), (3, .ref 270), (2, .ref 236), (1, .ref 64), (0, .ref 0)], [], (q_kL S c n)) o := by
  refine q_Ru_seg (g2 := (29, [(4, .int i), (3, .ref 270), (2, .ref 236), (1, .ref 64), (0, .ref 0)], [.int ((Int32.ofNat L) - 4), .int i], (q_kL S c n))) 5 (fun _ _ => rfl) ?_
  refine q_Ru_rsF (g2 := (32, [(4, .int i), (3, .ref 270), (2, .ref 236), (1, .ref 64), (0, .ref 0)], [], (q_kL S c n))) rfl rfl hi ?_
  refine q_Ru_seg (g2 := (35, [(4, .int i), (3, .ref 270), (2, .ref 236), (1, .ref 64), (0, .ref 0)], [.int i, .ref 0], (q_kL S c n))) 2 (fun _ _ => rfl) ?_
  refine q_Ru_rsT (g2 := (36, [(4, .int i), (3, .ref 270), (2, .ref 236), (1, .ref 64), (0, .ref 0)], [.int (xs (i.toNatClampNeg))], (q_kL S c n))) rfl rfl hx0 ?_
  refine q_Ru_seg (g2 := (39, [(4, .int i), (3, .ref 270), (2, .ref 236), (1, .ref 64), (0, .ref 0)], [.int ((xs (i.toNatClampNeg)) &&& 63)], (q_kL S c n))) 2 (fun _ _ => rfl) ?_
  rw [hv]
  refine q_Ru_seg (g2 := (358, [(4, .int i), (3, .ref 270), (2, .ref 236), (1, .ref 64), (0, .ref 0)], [.int (i + 1), .ref 0, .ref 64], (q_kL S c n))) 6 (fun _ _ => rfl) ?_
  refine q_Ru_rsT (g2 := (359, [(4, .int i), (3, .ref 270), (2, .ref 236), (1, .ref 64), (0, .ref 0)], [.int (xs ((i + 1).toNatClampNeg)), .ref 64], (q_kL S c n))) rfl rfl hx1 ?_
  refine q_Ru_seg (g2 := (360, [(4, .int i), (3, .ref 270), (2, .ref 236), (1, .ref 64), (0, .ref 0)], [.ref 270, .int (xs ((i + 1).toNatClampNeg)), .ref 64], (q_kL S c n))) 1 (fun _ _ => rfl) ?_
  refine q_Ru_call (v := (some (.int r0.2.1))) (h2 := (q_kL (q_pt 172 1 0 206 S r0.1) (c + r0.2.2) (n + 6 * r0.2.2))) rfl rfl ?_ ?_
  · exact (q_emXL rfl (fun _ => rfl) (dzt_X3_64_236 z L xs (q_vw 172 0 206 S) c n (xs ((i + 1).toNatClampNeg)) r0 er0)).le (Nat.le_of_ble_eq_true rfl)
  show q_Ru _ _ _ (363, [(4, .int i), (3, .ref 270), (2, .ref 236), (1, .ref 64), (0, .ref 0)], [.int r0.2.1], (q_kL (q_pt 172 1 0 206 S r0.1) (c + r0.2.2) (n + 6 * r0.2.2))) _
  refine q_Ru_seg (g2 := (371, [(5, .int r0.2.1), (4, .int i), (3, .ref 270), (2, .ref 236), (1, .ref 64), (0, .ref 0)], [.int (i + 1), .ref 0, .ref 236], (q_kL (q_pt 172 1 0 206 S r0.1) (c + r0.2.2) (n + 6 * r0.2.2)))) 6 (fun _ _ => rfl) ?_
  refine q_Ru_rsT (g2 := (372, [(5, .int r0.2.1), (4, .int i), (3, .ref 270), (2, .ref 236), (1, .ref 64), (0, .ref 0)], [.int (xs ((i + 1).toNatClampNeg)), .ref 236], (q_kL (q_pt 172 1 0 206 S r0.1) (c + r0.2.2) (n + 6 * r0.2.2)))) rfl rfl hx1 ?_
  refine q_Ru_call (v := (some (.int r1.2))) (h2 := (q_kL (q_pt 34 0 172 0 (q_pt 172 1 0 206 S r0.1) r1.1) (c + r0.2.2) (n + 6 * r0.2.2))) rfl rfl ?_ ?_
  · exact (q_emML rfl (fun _ => rfl) ((dzt_M219_64 (q_vw 34 172 0 (q_pt 172 1 0 206 S r0.1)) (c + r0.2.2) (n + 6 * r0.2.2) (xs ((i + 1).toNatClampNeg)) r1 er1).tb q_TB0_le)).le (Nat.le_of_ble_eq_true rfl)
  show q_Ru _ _ _ (375, [(5, .int r0.2.1), (4, .int i), (3, .ref 270), (2, .ref 236), (1, .ref 64), (0, .ref 0)], [.int r1.2], (q_kL (q_pt 34 0 172 0 (q_pt 172 1 0 206 S r0.1) r1.1) (c + r0.2.2) (n + 6 * r0.2.2))) _
  refine q_Ru_seg (g2 := (23, [(4, .int (i + 4)), (6, .int r1.2), (5, .int r0.2.1), (3, .ref 270), (2, .ref 236), (1, .ref 64), (0, .ref 0)], [], (q_kL (q_pt 34 0 172 0 (q_pt 172 1 0 206 S r0.1) r1.1) (c + r0.2.2) (n + 6 * r0.2.2)))) 4 (fun _ _ => rfl) ?_
  exact q_Ru_xt (q_xt_mk (q_mn1 0 rfl (q_mn1 3 rfl (q_mn1 4 rfl (q_mn1 5 rfl (q_mn1 6 rfl q_mn0))))) rfl) h
set_option maxHeartbeats 4000000 in
theorem q_lw4 (z L : Nat) (xs : Nat → Int32) (S : q_S) (c n : Nat) (i : Int32) (hx0 : q_in i L = true) (hx1 : q_in (i + 1) L = true) (hx2 : q_in (i + 2) L = true) (hx3 : q_in (i + 3) L = true) (hi : decide (Int32.ofNat L - 4 < i) = false) (hv : xs i.toNatClampNeg &&& 63 = 4) (r0 : q_S × Int32 × Nat) (er0 : dz_X4_64_236 (q_vw 172 0 206 S) (xs ((i + 1).toNatClampNeg)) = r0) (r1 : q_S × Int32) (er1 : dz_M220_64 (q_vw 34 172 0 (q_pt 172 1 0 206 S r0.1)) (xs ((i + 1).toNatClampNeg)) = some r1) {o : q_Out} (h : q_Ru (q_TBs z L xs) 20 376 (23, [(4, .int (i + 4)), (3, .ref 270), (2, .ref 236), (1, .ref 64), (0, .ref 0)], [], (q_kL (q_pt 34 0 172 0 (q_pt 172 1 0 206 S r0.1) r1.1) (c + r0.2.2) (n + 6 * r0.2.2))) o) : q_Ru (q_TBs z L xs) 20 376 (23, [(4, .int i), (3, .ref 270), (2, .ref 236), (1, .ref 64), (0, .ref 0)], [], (q_kL S c n)) o := by
  refine q_Ru_seg (g2 := (29, [(4, .int i), (3, .ref 270), (2, .ref 236), (1, .ref 64), (0, .ref 0)], [.int ((Int32.ofNat L) - 4), .int i], (q_kL S c n))) 5 (fun _ _ => rfl) ?_
  refine q_Ru_rsF (g2 := (32, [(4, .int i), (3, .ref 270), (2, .ref 236), (1, .ref 64), (0, .ref 0)], [], (q_kL S c n))) rfl rfl hi ?_
  refine q_Ru_seg (g2 := (35, [(4, .int i), (3, .ref 270), (2, .ref 236), (1, .ref 64), (0, .ref 0)], [.int i, .ref 0], (q_kL S c n))) 2 (fun _ _ => rfl) ?_
  refine q_Ru_rsT (g2 := (36, [(4, .int i), (3, .ref 270), (2, .ref 236), (1, .ref 64), (0, .ref 0)], [.int (xs (i.toNatClampNeg))], (q_kL S c n))) rfl rfl hx0 ?_
  refine q_Ru_seg (g2 := (39, [(4, .int i), (3, .ref 270), (2, .ref 236), (1, .ref 64), (0, .ref 0)], [.int ((xs (i.toNatClampNeg)) &&& 63)], (q_kL S c n))) 2 (fun _ _ => rfl) ?_
  rw [hv]
  refine q_Ru_seg (g2 := (386, [(4, .int i), (3, .ref 270), (2, .ref 236), (1, .ref 64), (0, .ref 0)], [.int (i + 1), .ref 0, .ref 64], (q_kL S c n))) 6 (fun _ _ => rfl) ?_
  refine q_Ru_rsT (g2 := (387, [(4, .int i), (3, .ref 270), (2, .ref 236), (1, .ref 64), (0, .ref 0)], [.int (xs ((i + 1).toNatClampNeg)), .ref 64], (q_kL S c n))) rfl rfl hx1 ?_
  refine q_Ru_seg (g2 := (388, [(4, .int i), (3, .ref 270), (2, .ref 236), (1, .ref 64), (0, .ref 0)], [.ref 270, .int (xs ((i + 1).toNatClampNeg)), .ref 64], (q_kL S c n))) 1 (fun _ _ => rfl) ?_
  refine q_Ru_call (v := (some (.int r0.2.1))) (h2 := (q_kL (q_pt 172 1 0 206 S r0.1) (c + r0.2.2) (n + 6 * r0.2.2))) rfl rfl ?_ ?_
  · exact (q_emXL rfl (fun _ => rfl) (q_cE (φ := (q_oEX c n)) er0 (dzt_X4_64_236 z L xs (q_vw 172 0 206 S) c n (xs ((i + 1).toNatClampNeg))))).le (Nat.le_of_ble_eq_true rfl)
  show q_Ru _ _ _ (391, [(4, .int i), (3, .ref 270), (2, .ref 236), (1, .ref 64), (0, .ref 0)], [.int r0.2.1], (q_kL (q_pt 172 1 0 206 S r0.1) (c + r0.2.2) (n + 6 * r0.2.2))) _
  refine q_Ru_seg (g2 := (399, [(5, .int r0.2.1), (4, .int i), (3, .ref 270), (2, .ref 236), (1, .ref 64), (0, .ref 0)], [.int (i + 1), .ref 0, .ref 236], (q_kL (q_pt 172 1 0 206 S r0.1) (c + r0.2.2) (n + 6 * r0.2.2)))) 6 (fun _ _ => rfl) ?_
  refine q_Ru_rsT (g2 := (400, [(5, .int r0.2.1), (4, .int i), (3, .ref 270), (2, .ref 236), (1, .ref 64), (0, .ref 0)], [.int (xs ((i + 1).toNatClampNeg)), .ref 236], (q_kL (q_pt 172 1 0 206 S r0.1) (c + r0.2.2) (n + 6 * r0.2.2)))) rfl rfl hx1 ?_
  refine q_Ru_call (v := (some (.int r1.2))) (h2 := (q_kL (q_pt 34 0 172 0 (q_pt 172 1 0 206 S r0.1) r1.1) (c + r0.2.2) (n + 6 * r0.2.2))) rfl rfl ?_ ?_
  · exact (q_emML rfl (fun _ => rfl) ((dzt_M220_64 (q_vw 34 172 0 (q_pt 172 1 0 206 S r0.1)) (c + r0.2.2) (n + 6 * r0.2.2) (xs ((i + 1).toNatClampNeg)) r1 er1).tb q_TB0_le)).le (Nat.le_of_ble_eq_true rfl)
  show q_Ru _ _ _ (403, [(5, .int r0.2.1), (4, .int i), (3, .ref 270), (2, .ref 236), (1, .ref 64), (0, .ref 0)], [.int r1.2], (q_kL (q_pt 34 0 172 0 (q_pt 172 1 0 206 S r0.1) r1.1) (c + r0.2.2) (n + 6 * r0.2.2))) _
  refine q_Ru_seg (g2 := (23, [(4, .int (i + 4)), (6, .int r1.2), (5, .int r0.2.1), (3, .ref 270), (2, .ref 236), (1, .ref 64), (0, .ref 0)], [], (q_kL (q_pt 34 0 172 0 (q_pt 172 1 0 206 S r0.1) r1.1) (c + r0.2.2) (n + 6 * r0.2.2)))) 4 (fun _ _ => rfl) ?_
  exact q_Ru_xt (q_xt_mk (q_mn1 0 rfl (q_mn1 3 rfl (q_mn1 4 rfl (q_mn1 5 rfl (q_mn1 6 rfl q_mn0))))) rfl) h
set_option maxHeartbeats 4000000 in
theorem q_lw5 (z L : Nat) (xs : Nat → Int32) (S : q_S) (c n : Nat) (i : Int32) (hx0 : q_in i L = true) (hx1 : q_in (i + 1) L = true) (hx2 : q_in (i + 2) L = true) (hx3 : q_in (i + 3) L = true) (hi : decide (Int32.ofNat L - 4 < i) = false) (hv : xs i.toNatClampNeg &&& 63 = 5) (r0 : q_S × Int32 × Nat) (er0 : dz_X5_64_236 (q_vw 172 0 206 S) (xs ((i + 1).toNatClampNeg)) (xs ((i + 2).toNatClampNeg)) (xs ((i + 3).toNatClampNeg)) = some r0) (r1 : q_S × Int32) (er1 : dz_M279_64 (q_vw 34 172 0 (q_pt 172 1 0 206 S r0.1)) (xs ((i + 1).toNatClampNeg)) (xs ((i + 2).toNatClampNeg)) (xs ((i + 3).toNatClampNeg)) = some r1) {o : q_Out} (h : q_Ru (q_TBs z L xs) 20 376 (23, [(4, .int (i + 4)), (3, .ref 270), (2, .ref 236), (1, .ref 64), (0, .ref 0)], [], (q_kL (q_pt 34 0 172 0 (q_pt 172 1 0 206 S r0.1) r1.1) (c + r0.2.2) (n + 6 * r0.2.2))) o) : q_Ru (q_TBs z L xs) 20 376 (23, [(4, .int i), (3, .ref 270), (2, .ref 236), (1, .ref 64), (0, .ref 0)], [], (q_kL S c n)) o := by
  refine q_Ru_seg (g2 := (29, [(4, .int i), (3, .ref 270), (2, .ref 236), (1, .ref 64), (0, .ref 0)], [.int ((Int32.ofNat L) - 4), .int i], (q_kL S c n))) 5 (fun _ _ => rfl) ?_
  refine q_Ru_rsF (g2 := (32, [(4, .int i), (3, .ref 270), (2, .ref 236), (1, .ref 64), (0, .ref 0)], [], (q_kL S c n))) rfl rfl hi ?_
  refine q_Ru_seg (g2 := (35, [(4, .int i), (3, .ref 270), (2, .ref 236), (1, .ref 64), (0, .ref 0)], [.int i, .ref 0], (q_kL S c n))) 2 (fun _ _ => rfl) ?_
  refine q_Ru_rsT (g2 := (36, [(4, .int i), (3, .ref 270), (2, .ref 236), (1, .ref 64), (0, .ref 0)], [.int (xs (i.toNatClampNeg))], (q_kL S c n))) rfl rfl hx0 ?_
  refine q_Ru_seg (g2 := (39, [(4, .int i), (3, .ref 270), (2, .ref 236), (1, .ref 64), (0, .ref 0)], [.int ((xs (i.toNatClampNeg)) &&& 63)], (q_kL S c n))) 2 (fun _ _ => rfl) ?_
  rw [hv]
  refine q_Ru_seg (g2 := (414, [(4, .int i), (3, .ref 270), (2, .ref 236), (1, .ref 64), (0, .ref 0)], [.int (i + 1), .ref 0, .ref 64], (q_kL S c n))) 6 (fun _ _ => rfl) ?_
  refine q_Ru_rsT (g2 := (415, [(4, .int i), (3, .ref 270), (2, .ref 236), (1, .ref 64), (0, .ref 0)], [.int (xs ((i + 1).toNatClampNeg)), .ref 64], (q_kL S c n))) rfl rfl hx1 ?_
  refine q_Ru_seg (g2 := (420, [(4, .int i), (3, .ref 270), (2, .ref 236), (1, .ref 64), (0, .ref 0)], [.int (i + 2), .ref 0, .int (xs ((i + 1).toNatClampNeg)), .ref 64], (q_kL S c n))) 4 (fun _ _ => rfl) ?_
  refine q_Ru_rsT (g2 := (421, [(4, .int i), (3, .ref 270), (2, .ref 236), (1, .ref 64), (0, .ref 0)], [.int (xs ((i + 2).toNatClampNeg)), .int (xs ((i + 1).toNatClampNeg)), .ref 64], (q_kL S c n))) rfl rfl hx2 ?_
  refine q_Ru_seg (g2 := (426, [(4, .int i), (3, .ref 270), (2, .ref 236), (1, .ref 64), (0, .ref 0)], [.int (i + 3), .ref 0, .int (xs ((i + 2).toNatClampNeg)), .int (xs ((i + 1).toNatClampNeg)), .ref 64], (q_kL S c n))) 4 (fun _ _ => rfl) ?_
  refine q_Ru_rsT (g2 := (427, [(4, .int i), (3, .ref 270), (2, .ref 236), (1, .ref 64), (0, .ref 0)], [.int (xs ((i + 3).toNatClampNeg)), .int (xs ((i + 2).toNatClampNeg)), .int (xs ((i + 1).toNatClampNeg)), .ref 64], (q_kL S c n))) rfl rfl hx3 ?_
  refine q_Ru_seg (g2 := (428, [(4, .int i), (3, .ref 270), (2, .ref 236), (1, .ref 64), (0, .ref 0)], [.ref 270, .int (xs ((i + 3).toNatClampNeg)), .int (xs ((i + 2).toNatClampNeg)), .int (xs ((i + 1).toNatClampNeg)), .ref 64], (q_kL S c n))) 1 (fun _ _ => rfl) ?_
  refine q_Ru_call (v := (some (.int r0.2.1))) (h2 := (q_kL (q_pt 172 1 0 206 S r0.1) (c + r0.2.2) (n + 6 * r0.2.2))) rfl rfl ?_ ?_
  · exact (q_emXL rfl (fun _ => rfl) (dzt_X5_64_236 z L xs (q_vw 172 0 206 S) c n (xs ((i + 1).toNatClampNeg)) (xs ((i + 2).toNatClampNeg)) (xs ((i + 3).toNatClampNeg)) r0 er0)).le (Nat.le_of_ble_eq_true rfl)
  show q_Ru _ _ _ (431, [(4, .int i), (3, .ref 270), (2, .ref 236), (1, .ref 64), (0, .ref 0)], [.int r0.2.1], (q_kL (q_pt 172 1 0 206 S r0.1) (c + r0.2.2) (n + 6 * r0.2.2))) _
  refine q_Ru_seg (g2 := (439, [(5, .int r0.2.1), (4, .int i), (3, .ref 270), (2, .ref 236), (1, .ref 64), (0, .ref 0)], [.int (i + 1), .ref 0, .ref 236], (q_kL (q_pt 172 1 0 206 S r0.1) (c + r0.2.2) (n + 6 * r0.2.2)))) 6 (fun _ _ => rfl) ?_
  refine q_Ru_rsT (g2 := (440, [(5, .int r0.2.1), (4, .int i), (3, .ref 270), (2, .ref 236), (1, .ref 64), (0, .ref 0)], [.int (xs ((i + 1).toNatClampNeg)), .ref 236], (q_kL (q_pt 172 1 0 206 S r0.1) (c + r0.2.2) (n + 6 * r0.2.2)))) rfl rfl hx1 ?_
  refine q_Ru_seg (g2 := (445, [(5, .int r0.2.1), (4, .int i), (3, .ref 270), (2, .ref 236), (1, .ref 64), (0, .ref 0)], [.int (i + 2), .ref 0, .int (xs ((i + 1).toNatClampNeg)), .ref 236], (q_kL (q_pt 172 1 0 206 S r0.1) (c + r0.2.2) (n + 6 * r0.2.2)))) 4 (fun _ _ => rfl) ?_
  refine q_Ru_rsT (g2 := (446, [(5, .int r0.2.1), (4, .int i), (3, .ref 270), (2, .ref 236), (1, .ref 64), (0, .ref 0)], [.int (xs ((i + 2).toNatClampNeg)), .int (xs ((i + 1).toNatClampNeg)), .ref 236], (q_kL (q_pt 172 1 0 206 S r0.1) (c + r0.2.2) (n + 6 * r0.2.2)))) rfl rfl hx2 ?_
  refine q_Ru_seg (g2 := (451, [(5, .int r0.2.1), (4, .int i), (3, .ref 270), (2, .ref 236), (1, .ref 64), (0, .ref 0)], [.int (i + 3), .ref 0, .int (xs ((i + 2).toNatClampNeg)), .int (xs ((i + 1).toNatClampNeg)), .ref 236], (q_kL (q_pt 172 1 0 206 S r0.1) (c + r0.2.2) (n + 6 * r0.2.2)))) 4 (fun _ _ => rfl) ?_
  refine q_Ru_rsT (g2 := (452, [(5, .int r0.2.1), (4, .int i), (3, .ref 270), (2, .ref 236), (1, .ref 64), (0, .ref 0)], [.int (xs ((i + 3).toNatClampNeg)), .int (xs ((i + 2).toNatClampNeg)), .int (xs ((i + 1).toNatClampNeg)), .ref 236], (q_kL (q_pt 172 1 0 206 S r0.1) (c + r0.2.2) (n + 6 * r0.2.2)))) rfl rfl hx3 ?_
  refine q_Ru_call (v := (some (.int r1.2))) (h2 := (q_kL (q_pt 34 0 172 0 (q_pt 172 1 0 206 S r0.1) r1.1) (c + r0.2.2) (n + 6 * r0.2.2))) rfl rfl ?_ ?_
  · exact (q_emML rfl (fun _ => rfl) ((dzt_M279_64 (q_vw 34 172 0 (q_pt 172 1 0 206 S r0.1)) (c + r0.2.2) (n + 6 * r0.2.2) (xs ((i + 1).toNatClampNeg)) (xs ((i + 2).toNatClampNeg)) (xs ((i + 3).toNatClampNeg)) r1 er1).tb q_TB0_le)).le (Nat.le_of_ble_eq_true rfl)
  show q_Ru _ _ _ (455, [(5, .int r0.2.1), (4, .int i), (3, .ref 270), (2, .ref 236), (1, .ref 64), (0, .ref 0)], [.int r1.2], (q_kL (q_pt 34 0 172 0 (q_pt 172 1 0 206 S r0.1) r1.1) (c + r0.2.2) (n + 6 * r0.2.2))) _
  refine q_Ru_seg (g2 := (23, [(4, .int (i + 4)), (6, .int r1.2), (5, .int r0.2.1), (3, .ref 270), (2, .ref 236), (1, .ref 64), (0, .ref 0)], [], (q_kL (q_pt 34 0 172 0 (q_pt 172 1 0 206 S r0.1) r1.1) (c + r0.2.2) (n + 6 * r0.2.2)))) 4 (fun _ _ => rfl) ?_
  exact q_Ru_xt (q_xt_mk (q_mn1 0 rfl (q_mn1 3 rfl (q_mn1 4 rfl (q_mn1 5 rfl (q_mn1 6 rfl q_mn0))))) rfl) h
set_option maxHeartbeats 4000000 in
theorem q_lw6 (z L : Nat) (xs : Nat → Int32) (S : q_S) (c n : Nat) (i : Int32) (hx0 : q_in i L = true) (hx1 : q_in (i + 1) L = true) (hx2 : q_in (i + 2) L = true) (hx3 : q_in (i + 3) L = true) (hi : decide (Int32.ofNat L - 4 < i) = false) (hv : xs i.toNatClampNeg &&& 63 = 6) (r0 : q_S × Int32 × Nat) (er0 : dz_X6_64_236 (q_vw 172 0 206 S) (xs ((i + 1).toNatClampNeg)) = some r0) (r1 : q_S × Int32) (er1 : dz_M286_64 (q_vw 34 172 0 (q_pt 172 1 0 206 S r0.1)) (xs ((i + 1).toNatClampNeg)) = some r1) {o : q_Out} (h : q_Ru (q_TBs z L xs) 20 376 (23, [(4, .int (i + 4)), (3, .ref 270), (2, .ref 236), (1, .ref 64), (0, .ref 0)], [], (q_kL (q_pt 34 0 172 0 (q_pt 172 1 0 206 S r0.1) r1.1) (c + r0.2.2) (n + 6 * r0.2.2))) o) : q_Ru (q_TBs z L xs) 20 376 (23, [(4, .int i), (3, .ref 270), (2, .ref 236), (1, .ref 64), (0, .ref 0)], [], (q_kL S c n)) o := by
  refine q_Ru_seg (g2 := (29, [(4, .int i), (3, .ref 270), (2, .ref 236), (1, .ref 64), (0, .ref 0)], [.int ((Int32.ofNat L) - 4), .int i], (q_kL S c n))) 5 (fun _ _ => rfl) ?_
  refine q_Ru_rsF (g2 := (32, [(4, .int i), (3, .ref 270), (2, .ref 236), (1, .ref 64), (0, .ref 0)], [], (q_kL S c n))) rfl rfl hi ?_
  refine q_Ru_seg (g2 := (35, [(4, .int i), (3, .ref 270), (2, .ref 236), (1, .ref 64), (0, .ref 0)], [.int i, .ref 0], (q_kL S c n))) 2 (fun _ _ => rfl) ?_
  refine q_Ru_rsT (g2 := (36, [(4, .int i), (3, .ref 270), (2, .ref 236), (1, .ref 64), (0, .ref 0)], [.int (xs (i.toNatClampNeg))], (q_kL S c n))) rfl rfl hx0 ?_
  refine q_Ru_seg (g2 := (39, [(4, .int i), (3, .ref 270), (2, .ref 236), (1, .ref 64), (0, .ref 0)], [.int ((xs (i.toNatClampNeg)) &&& 63)], (q_kL S c n))) 2 (fun _ _ => rfl) ?_
  rw [hv]
  refine q_Ru_seg (g2 := (466, [(4, .int i), (3, .ref 270), (2, .ref 236), (1, .ref 64), (0, .ref 0)], [.int (i + 1), .ref 0, .ref 64], (q_kL S c n))) 6 (fun _ _ => rfl) ?_
  refine q_Ru_rsT (g2 := (467, [(4, .int i), (3, .ref 270), (2, .ref 236), (1, .ref 64), (0, .ref 0)], [.int (xs ((i + 1).toNatClampNeg)), .ref 64], (q_kL S c n))) rfl rfl hx1 ?_
  refine q_Ru_seg (g2 := (468, [(4, .int i), (3, .ref 270), (2, .ref 236), (1, .ref 64), (0, .ref 0)], [.ref 270, .int (xs ((i + 1).toNatClampNeg)), .ref 64], (q_kL S c n))) 1 (fun _ _ => rfl) ?_
  refine q_Ru_call (v := (some (.int r0.2.1))) (h2 := (q_kL (q_pt 172 1 0 206 S r0.1) (c + r0.2.2) (n + 6 * r0.2.2))) rfl rfl ?_ ?_
  · exact (q_emXL rfl (fun _ => rfl) (dzt_X6_64_236 z L xs (q_vw 172 0 206 S) c n (xs ((i + 1).toNatClampNeg)) r0 er0)).le (Nat.le_of_ble_eq_true rfl)
  show q_Ru _ _ _ (471, [(4, .int i), (3, .ref 270), (2, .ref 236), (1, .ref 64), (0, .ref 0)], [.int r0.2.1], (q_kL (q_pt 172 1 0 206 S r0.1) (c + r0.2.2) (n + 6 * r0.2.2))) _
  refine q_Ru_seg (g2 := (479, [(5, .int r0.2.1), (4, .int i), (3, .ref 270), (2, .ref 236), (1, .ref 64), (0, .ref 0)], [.int (i + 1), .ref 0, .ref 236], (q_kL (q_pt 172 1 0 206 S r0.1) (c + r0.2.2) (n + 6 * r0.2.2)))) 6 (fun _ _ => rfl) ?_
  refine q_Ru_rsT (g2 := (480, [(5, .int r0.2.1), (4, .int i), (3, .ref 270), (2, .ref 236), (1, .ref 64), (0, .ref 0)], [.int (xs ((i + 1).toNatClampNeg)), .ref 236], (q_kL (q_pt 172 1 0 206 S r0.1) (c + r0.2.2) (n + 6 * r0.2.2)))) rfl rfl hx1 ?_
  refine q_Ru_call (v := (some (.int r1.2))) (h2 := (q_kL (q_pt 34 0 172 0 (q_pt 172 1 0 206 S r0.1) r1.1) (c + r0.2.2) (n + 6 * r0.2.2))) rfl rfl ?_ ?_
  · exact (q_emML rfl (fun _ => rfl) ((dzt_M286_64 (q_vw 34 172 0 (q_pt 172 1 0 206 S r0.1)) (c + r0.2.2) (n + 6 * r0.2.2) (xs ((i + 1).toNatClampNeg)) r1 er1).tb q_TB0_le)).le (Nat.le_of_ble_eq_true rfl)
  show q_Ru _ _ _ (483, [(5, .int r0.2.1), (4, .int i), (3, .ref 270), (2, .ref 236), (1, .ref 64), (0, .ref 0)], [.int r1.2], (q_kL (q_pt 34 0 172 0 (q_pt 172 1 0 206 S r0.1) r1.1) (c + r0.2.2) (n + 6 * r0.2.2))) _
  refine q_Ru_seg (g2 := (23, [(4, .int (i + 4)), (6, .int r1.2), (5, .int r0.2.1), (3, .ref 270), (2, .ref 236), (1, .ref 64), (0, .ref 0)], [], (q_kL (q_pt 34 0 172 0 (q_pt 172 1 0 206 S r0.1) r1.1) (c + r0.2.2) (n + 6 * r0.2.2)))) 4 (fun _ _ => rfl) ?_
  exact q_Ru_xt (q_xt_mk (q_mn1 0 rfl (q_mn1 3 rfl (q_mn1 4 rfl (q_mn1 5 rfl (q_mn1 6 rfl q_mn0))))) rfl) h
set_option maxHeartbeats 4000000 in
theorem q_lw7 (z L : Nat) (xs : Nat → Int32) (S : q_S) (c n : Nat) (i : Int32) (hx0 : q_in i L = true) (hx1 : q_in (i + 1) L = true) (hx2 : q_in (i + 2) L = true) (hx3 : q_in (i + 3) L = true) (hi : decide (Int32.ofNat L - 4 < i) = false) (hv : xs i.toNatClampNeg &&& 63 = 7) (r0 : q_S × Int32 × Nat) (er0 : dz_X7_64_236 (q_vw 172 0 206 S) (xs ((i + 1).toNatClampNeg)) = some r0) (r1 : q_S × Int32) (er1 : dz_M287_64 (q_vw 34 172 0 (q_pt 172 1 0 206 S r0.1)) (xs ((i + 1).toNatClampNeg)) = some r1) {o : q_Out} (h : q_Ru (q_TBs z L xs) 20 376 (23, [(4, .int (i + 4)), (3, .ref 270), (2, .ref 236), (1, .ref 64), (0, .ref 0)], [], (q_kL (q_pt 34 0 172 0 (q_pt 172 1 0 206 S r0.1) r1.1) (c + r0.2.2) (n + 6 * r0.2.2))) o) : q_Ru (q_TBs z L xs) 20 376 (23, [(4, .int i), (3, .ref 270), (2, .ref 236), (1, .ref 64), (0, .ref 0)], [], (q_kL S c n)) o := by
  refine q_Ru_seg (g2 := (29, [(4, .int i), (3, .ref 270), (2, .ref 236), (1, .ref 64), (0, .ref 0)], [.int ((Int32.ofNat L) - 4), .int i], (q_kL S c n))) 5 (fun _ _ => rfl) ?_
  refine q_Ru_rsF (g2 := (32, [(4, .int i), (3, .ref 270), (2, .ref 236), (1, .ref 64), (0, .ref 0)], [], (q_kL S c n))) rfl rfl hi ?_
  refine q_Ru_seg (g2 := (35, [(4, .int i), (3, .ref 270), (2, .ref 236), (1, .ref 64), (0, .ref 0)], [.int i, .ref 0], (q_kL S c n))) 2 (fun _ _ => rfl) ?_
  refine q_Ru_rsT (g2 := (36, [(4, .int i), (3, .ref 270), (2, .ref 236), (1, .ref 64), (0, .ref 0)], [.int (xs (i.toNatClampNeg))], (q_kL S c n))) rfl rfl hx0 ?_
  refine q_Ru_seg (g2 := (39, [(4, .int i), (3, .ref 270), (2, .ref 236), (1, .ref 64), (0, .ref 0)], [.int ((xs (i.toNatClampNeg)) &&& 63)], (q_kL S c n))) 2 (fun _ _ => rfl) ?_
  rw [hv]
  refine q_Ru_seg (g2 := (494, [(4, .int i), (3, .ref 270), (2, .ref 236), (1, .ref 64), (0, .ref 0)], [.int (i + 1), .ref 0, .ref 64], (q_kL S c n))) 6 (fun _ _ => rfl) ?_
  refine q_Ru_rsT (g2 := (495, [(4, .int i), (3, .ref 270), (2, .ref 236), (1, .ref 64), (0, .ref 0)], [.int (xs ((i + 1).toNatClampNeg)), .ref 64], (q_kL S c n))) rfl rfl hx1 ?_
  refine q_Ru_seg (g2 := (496, [(4, .int i), (3, .ref 270), (2, .ref 236), (1, .ref 64), (0, .ref 0)], [.ref 270, .int (xs ((i + 1).toNatClampNeg)), .ref 64], (q_kL S c n))) 1 (fun _ _ => rfl) ?_
  refine q_Ru_call (v := (some (.int r0.2.1))) (h2 := (q_kL (q_pt 172 1 0 206 S r0.1) (c + r0.2.2) (n + 6 * r0.2.2))) rfl rfl ?_ ?_
  · exact (q_emXL rfl (fun _ => rfl) (dzt_X7_64_236 z L xs (q_vw 172 0 206 S) c n (xs ((i + 1).toNatClampNeg)) r0 er0)).le (Nat.le_of_ble_eq_true rfl)
  show q_Ru _ _ _ (499, [(4, .int i), (3, .ref 270), (2, .ref 236), (1, .ref 64), (0, .ref 0)], [.int r0.2.1], (q_kL (q_pt 172 1 0 206 S r0.1) (c + r0.2.2) (n + 6 * r0.2.2))) _
  refine q_Ru_seg (g2 := (507, [(5, .int r0.2.1), (4, .int i), (3, .ref 270), (2, .ref 236), (1, .ref 64), (0, .ref 0)], [.int (i + 1), .ref 0, .ref 236], (q_kL (q_pt 172 1 0 206 S r0.1) (c + r0.2.2) (n + 6 * r0.2.2)))) 6 (fun _ _ => rfl) ?_
  refine q_Ru_rsT (g2 := (508, [(5, .int r0.2.1), (4, .int i), (3, .ref 270), (2, .ref 236), (1, .ref 64), (0, .ref 0)], [.int (xs ((i + 1).toNatClampNeg)), .ref 236], (q_kL (q_pt 172 1 0 206 S r0.1) (c + r0.2.2) (n + 6 * r0.2.2)))) rfl rfl hx1 ?_
  refine q_Ru_call (v := (some (.int r1.2))) (h2 := (q_kL (q_pt 34 0 172 0 (q_pt 172 1 0 206 S r0.1) r1.1) (c + r0.2.2) (n + 6 * r0.2.2))) rfl rfl ?_ ?_
  · exact (q_emML rfl (fun _ => rfl) ((dzt_M287_64 (q_vw 34 172 0 (q_pt 172 1 0 206 S r0.1)) (c + r0.2.2) (n + 6 * r0.2.2) (xs ((i + 1).toNatClampNeg)) r1 er1).tb q_TB0_le)).le (Nat.le_of_ble_eq_true rfl)
  show q_Ru _ _ _ (511, [(5, .int r0.2.1), (4, .int i), (3, .ref 270), (2, .ref 236), (1, .ref 64), (0, .ref 0)], [.int r1.2], (q_kL (q_pt 34 0 172 0 (q_pt 172 1 0 206 S r0.1) r1.1) (c + r0.2.2) (n + 6 * r0.2.2))) _
  refine q_Ru_seg (g2 := (23, [(4, .int (i + 4)), (6, .int r1.2), (5, .int r0.2.1), (3, .ref 270), (2, .ref 236), (1, .ref 64), (0, .ref 0)], [], (q_kL (q_pt 34 0 172 0 (q_pt 172 1 0 206 S r0.1) r1.1) (c + r0.2.2) (n + 6 * r0.2.2)))) 4 (fun _ _ => rfl) ?_
  exact q_Ru_xt (q_xt_mk (q_mn1 0 rfl (q_mn1 3 rfl (q_mn1 4 rfl (q_mn1 5 rfl (q_mn1 6 rfl q_mn0))))) rfl) h
set_option maxHeartbeats 4000000 in
theorem q_lw8 (z L : Nat) (xs : Nat → Int32) (S : q_S) (c n : Nat) (i : Int32) (hx0 : q_in i L = true) (hx1 : q_in (i + 1) L = true) (hx2 : q_in (i + 2) L = true) (hx3 : q_in (i + 3) L = true) (hi : decide (Int32.ofNat L - 4 < i) = false) (hv : xs i.toNatClampNeg &&& 63 = 8) (r0 : q_S × Int32 × Nat) (er0 : dz_X8_64_236 (q_vw 172 0 206 S) (xs ((i + 1).toNatClampNeg)) (xs ((i + 2).toNatClampNeg)) (xs ((i + 3).toNatClampNeg)) = some r0) (r1 : q_S × Int32) (er1 : dz_M221_64 (q_vw 34 172 0 (q_pt 172 1 0 206 S r0.1)) (xs ((i + 1).toNatClampNeg)) (xs ((i + 2).toNatClampNeg)) (xs ((i + 3).toNatClampNeg)) = some r1) {o : q_Out} (h : q_Ru (q_TBs z L xs) 20 376 (23, [(4, .int (i + 4)), (3, .ref 270), (2, .ref 236), (1, .ref 64), (0, .ref 0)], [], (q_kL (q_pt 34 0 172 0 (q_pt 172 1 0 206 S r0.1) r1.1) (c + r0.2.2) (n + 6 * r0.2.2))) o) : q_Ru (q_TBs z L xs) 20 376 (23, [(4, .int i), (3, .ref 270), (2, .ref 236), (1, .ref 64), (0, .ref 0)], [], (q_kL S c n)) o := by
  refine q_Ru_seg (g2 := (29, [(4, .int i), (3, .ref 270), (2, .ref 236), (1, .ref 64), (0, .ref 0)], [.int ((Int32.ofNat L) - 4), .int i], (q_kL S c n))) 5 (fun _ _ => rfl) ?_
  refine q_Ru_rsF (g2 := (32, [(4, .int i), (3, .ref 270), (2, .ref 236), (1, .ref 64), (0, .ref 0)], [], (q_kL S c n))) rfl rfl hi ?_
  refine q_Ru_seg (g2 := (35, [(4, .int i), (3, .ref 270), (2, .ref 236), (1, .ref 64), (0, .ref 0)], [.int i, .ref 0], (q_kL S c n))) 2 (fun _ _ => rfl) ?_
  refine q_Ru_rsT (g2 := (36, [(4, .int i), (3, .ref 270), (2, .ref 236), (1, .ref 64), (0, .ref 0)], [.int (xs (i.toNatClampNeg))], (q_kL S c n))) rfl rfl hx0 ?_
  refine q_Ru_seg (g2 := (39, [(4, .int i), (3, .ref 270), (2, .ref 236), (1, .ref 64), (0, .ref 0)], [.int ((xs (i.toNatClampNeg)) &&& 63)], (q_kL S c n))) 2 (fun _ _ => rfl) ?_
  rw [hv]
  refine q_Ru_seg (g2 := (522, [(4, .int i), (3, .ref 270), (2, .ref 236), (1, .ref 64), (0, .ref 0)], [.int (i + 1), .ref 0, .ref 64], (q_kL S c n))) 6 (fun _ _ => rfl) ?_
  refine q_Ru_rsT (g2 := (523, [(4, .int i), (3, .ref 270), (2, .ref 236), (1, .ref 64), (0, .ref 0)], [.int (xs ((i + 1).toNatClampNeg)), .ref 64], (q_kL S c n))) rfl rfl hx1 ?_
  refine q_Ru_seg (g2 := (528, [(4, .int i), (3, .ref 270), (2, .ref 236), (1, .ref 64), (0, .ref 0)], [.int (i + 2), .ref 0, .int (xs ((i + 1).toNatClampNeg)), .ref 64], (q_kL S c n))) 4 (fun _ _ => rfl) ?_
  refine q_Ru_rsT (g2 := (529, [(4, .int i), (3, .ref 270), (2, .ref 236), (1, .ref 64), (0, .ref 0)], [.int (xs ((i + 2).toNatClampNeg)), .int (xs ((i + 1).toNatClampNeg)), .ref 64], (q_kL S c n))) rfl rfl hx2 ?_
  refine q_Ru_seg (g2 := (534, [(4, .int i), (3, .ref 270), (2, .ref 236), (1, .ref 64), (0, .ref 0)], [.int (i + 3), .ref 0, .int (xs ((i + 2).toNatClampNeg)), .int (xs ((i + 1).toNatClampNeg)), .ref 64], (q_kL S c n))) 4 (fun _ _ => rfl) ?_
  refine q_Ru_rsT (g2 := (535, [(4, .int i), (3, .ref 270), (2, .ref 236), (1, .ref 64), (0, .ref 0)], [.int (xs ((i + 3).toNatClampNeg)), .int (xs ((i + 2).toNatClampNeg)), .int (xs ((i + 1).toNatClampNeg)), .ref 64], (q_kL S c n))) rfl rfl hx3 ?_
  refine q_Ru_seg (g2 := (536, [(4, .int i), (3, .ref 270), (2, .ref 236), (1, .ref 64), (0, .ref 0)], [.ref 270, .int (xs ((i + 3).toNatClampNeg)), .int (xs ((i + 2).toNatClampNeg)), .int (xs ((i + 1).toNatClampNeg)), .ref 64], (q_kL S c n))) 1 (fun _ _ => rfl) ?_
  refine q_Ru_call (v := (some (.int r0.2.1))) (h2 := (q_kL (q_pt 172 1 0 206 S r0.1) (c + r0.2.2) (n + 6 * r0.2.2))) rfl rfl ?_ ?_
  · exact (q_emXL rfl (fun _ => rfl) (dzt_X8_64_236 z L xs (q_vw 172 0 206 S) c n (xs ((i + 1).toNatClampNeg)) (xs ((i + 2).toNatClampNeg)) (xs ((i + 3).toNatClampNeg)) r0 er0)).le (Nat.le_of_ble_eq_true rfl)
  show q_Ru _ _ _ (539, [(4, .int i), (3, .ref 270), (2, .ref 236), (1, .ref 64), (0, .ref 0)], [.int r0.2.1], (q_kL (q_pt 172 1 0 206 S r0.1) (c + r0.2.2) (n + 6 * r0.2.2))) _
  refine q_Ru_seg (g2 := (547, [(5, .int r0.2.1), (4, .int i), (3, .ref 270), (2, .ref 236), (1, .ref 64), (0, .ref 0)], [.int (i + 1), .ref 0, .ref 236], (q_kL (q_pt 172 1 0 206 S r0.1) (c + r0.2.2) (n + 6 * r0.2.2)))) 6 (fun _ _ => rfl) ?_
  refine q_Ru_rsT (g2 := (548, [(5, .int r0.2.1), (4, .int i), (3, .ref 270), (2, .ref 236), (1, .ref 64), (0, .ref 0)], [.int (xs ((i + 1).toNatClampNeg)), .ref 236], (q_kL (q_pt 172 1 0 206 S r0.1) (c + r0.2.2) (n + 6 * r0.2.2)))) rfl rfl hx1 ?_
  refine q_Ru_seg (g2 := (553, [(5, .int r0.2.1), (4, .int i), (3, .ref 270), (2, .ref 236), (1, .ref 64), (0, .ref 0)], [.int (i + 2), .ref 0, .int (xs ((i + 1).toNatClampNeg)), .ref 236], (q_kL (q_pt 172 1 0 206 S r0.1) (c + r0.2.2) (n + 6 * r0.2.2)))) 4 (fun _ _ => rfl) ?_
  refine q_Ru_rsT (g2 := (554, [(5, .int r0.2.1), (4, .int i), (3, .ref 270), (2, .ref 236), (1, .ref 64), (0, .ref 0)], [.int (xs ((i + 2).toNatClampNeg)), .int (xs ((i + 1).toNatClampNeg)), .ref 236], (q_kL (q_pt 172 1 0 206 S r0.1) (c + r0.2.2) (n + 6 * r0.2.2)))) rfl rfl hx2 ?_
  refine q_Ru_seg (g2 := (559, [(5, .int r0.2.1), (4, .int i), (3, .ref 270), (2, .ref 236), (1, .ref 64), (0, .ref 0)], [.int (i + 3), .ref 0, .int (xs ((i + 2).toNatClampNeg)), .int (xs ((i + 1).toNatClampNeg)), .ref 236], (q_kL (q_pt 172 1 0 206 S r0.1) (c + r0.2.2) (n + 6 * r0.2.2)))) 4 (fun _ _ => rfl) ?_
  refine q_Ru_rsT (g2 := (560, [(5, .int r0.2.1), (4, .int i), (3, .ref 270), (2, .ref 236), (1, .ref 64), (0, .ref 0)], [.int (xs ((i + 3).toNatClampNeg)), .int (xs ((i + 2).toNatClampNeg)), .int (xs ((i + 1).toNatClampNeg)), .ref 236], (q_kL (q_pt 172 1 0 206 S r0.1) (c + r0.2.2) (n + 6 * r0.2.2)))) rfl rfl hx3 ?_
  refine q_Ru_call (v := (some (.int r1.2))) (h2 := (q_kL (q_pt 34 0 172 0 (q_pt 172 1 0 206 S r0.1) r1.1) (c + r0.2.2) (n + 6 * r0.2.2))) rfl rfl ?_ ?_
  · exact (q_emML rfl (fun _ => rfl) ((dzt_M221_64 (q_vw 34 172 0 (q_pt 172 1 0 206 S r0.1)) (c + r0.2.2) (n + 6 * r0.2.2) (xs ((i + 1).toNatClampNeg)) (xs ((i + 2).toNatClampNeg)) (xs ((i + 3).toNatClampNeg)) r1 er1).tb q_TB0_le)).le (Nat.le_of_ble_eq_true rfl)
  show q_Ru _ _ _ (563, [(5, .int r0.2.1), (4, .int i), (3, .ref 270), (2, .ref 236), (1, .ref 64), (0, .ref 0)], [.int r1.2], (q_kL (q_pt 34 0 172 0 (q_pt 172 1 0 206 S r0.1) r1.1) (c + r0.2.2) (n + 6 * r0.2.2))) _
  refine q_Ru_seg (g2 := (23, [(4, .int (i + 4)), (6, .int r1.2), (5, .int r0.2.1), (3, .ref 270), (2, .ref 236), (1, .ref 64), (0, .ref 0)], [], (q_kL (q_pt 34 0 172 0 (q_pt 172 1 0 206 S r0.1) r1.1) (c + r0.2.2) (n + 6 * r0.2.2)))) 4 (fun _ _ => rfl) ?_
  exact q_Ru_xt (q_xt_mk (q_mn1 0 rfl (q_mn1 3 rfl (q_mn1 4 rfl (q_mn1 5 rfl (q_mn1 6 rfl q_mn0))))) rfl) h
set_option maxHeartbeats 4000000 in
theorem q_lw9 (z L : Nat) (xs : Nat → Int32) (S : q_S) (c n : Nat) (i : Int32) (hx0 : q_in i L = true) (hx1 : q_in (i + 1) L = true) (hx2 : q_in (i + 2) L = true) (hx3 : q_in (i + 3) L = true) (hi : decide (Int32.ofNat L - 4 < i) = false) (hv : xs i.toNatClampNeg &&& 63 = 9) (r0 : q_S × Int32 × Nat) (er0 : dz_X9_64_236 (q_vw 172 0 206 S) (xs ((i + 1).toNatClampNeg)) = r0) (r1 : q_S × Int32) (er1 : dz_M288_64 (q_vw 34 172 0 (q_pt 172 1 0 206 S r0.1)) (xs ((i + 1).toNatClampNeg)) = some r1) {o : q_Out} (h : q_Ru (q_TBs z L xs) 20 376 (23, [(4, .int (i + 4)), (3, .ref 270), (2, .ref 236), (1, .ref 64), (0, .ref 0)], [], (q_kL (q_pt 34 0 172 0 (q_pt 172 1 0 206 S r0.1) r1.1) (c + r0.2.2) (n + 6 * r0.2.2))) o) : q_Ru (q_TBs z L xs) 20 376 (23, [(4, .int i), (3, .ref 270), (2, .ref 236), (1, .ref 64), (0, .ref 0)], [], (q_kL S c n)) o := by
  refine q_Ru_seg (g2 := (29, [(4, .int i), (3, .ref 270), (2, .ref 236), (1, .ref 64), (0, .ref 0)], [.int ((Int32.ofNat L) - 4), .int i], (q_kL S c n))) 5 (fun _ _ => rfl) ?_
  refine q_Ru_rsF (g2 := (32, [(4, .int i), (3, .ref 270), (2, .ref 236), (1, .ref 64), (0, .ref 0)], [], (q_kL S c n))) rfl rfl hi ?_
  refine q_Ru_seg (g2 := (35, [(4, .int i), (3, .ref 270), (2, .ref 236), (1, .ref 64), (0, .ref 0)], [.int i, .ref 0], (q_kL S c n))) 2 (fun _ _ => rfl) ?_
  refine q_Ru_rsT (g2 := (36, [(4, .int i), (3, .ref 270), (2, .ref 236), (1, .ref 64), (0, .ref 0)], [.int (xs (i.toNatClampNeg))], (q_kL S c n))) rfl rfl hx0 ?_
  refine q_Ru_seg (g2 := (39, [(4, .int i), (3, .ref 270), (2, .ref 236), (1, .ref 64), (0, .ref 0)], [.int ((xs (i.toNatClampNeg)) &&& 63)], (q_kL S c n))) 2 (fun _ _ => rfl) ?_
  rw [hv]
  refine q_Ru_seg (g2 := (574, [(4, .int i), (3, .ref 270), (2, .ref 236), (1, .ref 64), (0, .ref 0)], [.int (i + 1), .ref 0, .ref 64], (q_kL S c n))) 6 (fun _ _ => rfl) ?_
  refine q_Ru_rsT (g2 := (575, [(4, .int i), (3, .ref 270), (2, .ref 236), (1, .ref 64), (0, .ref 0)], [.int (xs ((i + 1).toNatClampNeg)), .ref 64], (q_kL S c n))) rfl rfl hx1 ?_
  refine q_Ru_seg (g2 := (576, [(4, .int i), (3, .ref 270), (2, .ref 236), (1, .ref 64), (0, .ref 0)], [.ref 270, .int (xs ((i + 1).toNatClampNeg)), .ref 64], (q_kL S c n))) 1 (fun _ _ => rfl) ?_
  refine q_Ru_call (v := (some (.int r0.2.1))) (h2 := (q_kL (q_pt 172 1 0 206 S r0.1) (c + r0.2.2) (n + 6 * r0.2.2))) rfl rfl ?_ ?_
  · exact (q_emXL rfl (fun _ => rfl) (q_cE (φ := (q_oEX c n)) er0 (dzt_X9_64_236 z L xs (q_vw 172 0 206 S) c n (xs ((i + 1).toNatClampNeg))))).le (Nat.le_of_ble_eq_true rfl)
  show q_Ru _ _ _ (579, [(4, .int i), (3, .ref 270), (2, .ref 236), (1, .ref 64), (0, .ref 0)], [.int r0.2.1], (q_kL (q_pt 172 1 0 206 S r0.1) (c + r0.2.2) (n + 6 * r0.2.2))) _
  refine q_Ru_seg (g2 := (587, [(5, .int r0.2.1), (4, .int i), (3, .ref 270), (2, .ref 236), (1, .ref 64), (0, .ref 0)], [.int (i + 1), .ref 0, .ref 236], (q_kL (q_pt 172 1 0 206 S r0.1) (c + r0.2.2) (n + 6 * r0.2.2)))) 6 (fun _ _ => rfl) ?_
  refine q_Ru_rsT (g2 := (588, [(5, .int r0.2.1), (4, .int i), (3, .ref 270), (2, .ref 236), (1, .ref 64), (0, .ref 0)], [.int (xs ((i + 1).toNatClampNeg)), .ref 236], (q_kL (q_pt 172 1 0 206 S r0.1) (c + r0.2.2) (n + 6 * r0.2.2)))) rfl rfl hx1 ?_
  refine q_Ru_call (v := (some (.int r1.2))) (h2 := (q_kL (q_pt 34 0 172 0 (q_pt 172 1 0 206 S r0.1) r1.1) (c + r0.2.2) (n + 6 * r0.2.2))) rfl rfl ?_ ?_
  · exact (q_emML rfl (fun _ => rfl) ((dzt_M288_64 (q_vw 34 172 0 (q_pt 172 1 0 206 S r0.1)) (c + r0.2.2) (n + 6 * r0.2.2) (xs ((i + 1).toNatClampNeg)) r1 er1).tb q_TB0_le)).le (Nat.le_of_ble_eq_true rfl)
  show q_Ru _ _ _ (591, [(5, .int r0.2.1), (4, .int i), (3, .ref 270), (2, .ref 236), (1, .ref 64), (0, .ref 0)], [.int r1.2], (q_kL (q_pt 34 0 172 0 (q_pt 172 1 0 206 S r0.1) r1.1) (c + r0.2.2) (n + 6 * r0.2.2))) _
  refine q_Ru_seg (g2 := (23, [(4, .int (i + 4)), (6, .int r1.2), (5, .int r0.2.1), (3, .ref 270), (2, .ref 236), (1, .ref 64), (0, .ref 0)], [], (q_kL (q_pt 34 0 172 0 (q_pt 172 1 0 206 S r0.1) r1.1) (c + r0.2.2) (n + 6 * r0.2.2)))) 4 (fun _ _ => rfl) ?_
  exact q_Ru_xt (q_xt_mk (q_mn1 0 rfl (q_mn1 3 rfl (q_mn1 4 rfl (q_mn1 5 rfl (q_mn1 6 rfl q_mn0))))) rfl) h
set_option maxHeartbeats 4000000 in
theorem q_lw10 (z L : Nat) (xs : Nat → Int32) (S : q_S) (c n : Nat) (i : Int32) (hx0 : q_in i L = true) (hx1 : q_in (i + 1) L = true) (hx2 : q_in (i + 2) L = true) (hx3 : q_in (i + 3) L = true) (hi : decide (Int32.ofNat L - 4 < i) = false) (hv : xs i.toNatClampNeg &&& 63 = 10) (r0 : q_S × Int32 × Nat) (er0 : dz_X10_64_236 (q_vw 172 0 206 S) (xs ((i + 1).toNatClampNeg)) (xs ((i + 2).toNatClampNeg)) = some r0) (r1 : q_S × Int32) (er1 : dz_M289_64 (q_vw 34 172 0 (q_pt 172 1 0 206 S r0.1)) (xs ((i + 1).toNatClampNeg)) (xs ((i + 2).toNatClampNeg)) = some r1) {o : q_Out} (h : q_Ru (q_TBs z L xs) 20 376 (23, [(4, .int (i + 4)), (3, .ref 270), (2, .ref 236), (1, .ref 64), (0, .ref 0)], [], (q_kL (q_pt 34 0 172 0 (q_pt 172 1 0 206 S r0.1) r1.1) (c + r0.2.2) (n + 6 * r0.2.2))) o) : q_Ru (q_TBs z L xs) 20 376 (23, [(4, .int i), (3, .ref 270), (2, .ref 236), (1, .ref 64), (0, .ref 0)], [], (q_kL S c n)) o := by
  refine q_Ru_seg (g2 := (29, [(4, .int i), (3, .ref 270), (2, .ref 236), (1, .ref 64), (0, .ref 0)], [.int ((Int32.ofNat L) - 4), .int i], (q_kL S c n))) 5 (fun _ _ => rfl) ?_
  refine q_Ru_rsF (g2 := (32, [(4, .int i), (3, .ref 270), (2, .ref 236), (1, .ref 64), (0, .ref 0)], [], (q_kL S c n))) rfl rfl hi ?_
  refine q_Ru_seg (g2 := (35, [(4, .int i), (3, .ref 270), (2, .ref 236), (1, .ref 64), (0, .ref 0)], [.int i, .ref 0], (q_kL S c n))) 2 (fun _ _ => rfl) ?_
  refine q_Ru_rsT (g2 := (36, [(4, .int i), (3, .ref 270), (2, .ref 236), (1, .ref 64), (0, .ref 0)], [.int (xs (i.toNatClampNeg))], (q_kL S c n))) rfl rfl hx0 ?_
  refine q_Ru_seg (g2 := (39, [(4, .int i), (3, .ref 270), (2, .ref 236), (1, .ref 64), (0, .ref 0)], [.int ((xs (i.toNatClampNeg)) &&& 63)], (q_kL S c n))) 2 (fun _ _ => rfl) ?_
  rw [hv]
  refine q_Ru_seg (g2 := (602, [(4, .int i), (3, .ref 270), (2, .ref 236), (1, .ref 64), (0, .ref 0)], [.int (i + 1), .ref 0, .ref 64], (q_kL S c n))) 6 (fun _ _ => rfl) ?_
  refine q_Ru_rsT (g2 := (603, [(4, .int i), (3, .ref 270), (2, .ref 236), (1, .ref 64), (0, .ref 0)], [.int (xs ((i + 1).toNatClampNeg)), .ref 64], (q_kL S c n))) rfl rfl hx1 ?_
  refine q_Ru_seg (g2 := (608, [(4, .int i), (3, .ref 270), (2, .ref 236), (1, .ref 64), (0, .ref 0)], [.int (i + 2), .ref 0, .int (xs ((i + 1).toNatClampNeg)), .ref 64], (q_kL S c n))) 4 (fun _ _ => rfl) ?_
  refine q_Ru_rsT (g2 := (609, [(4, .int i), (3, .ref 270), (2, .ref 236), (1, .ref 64), (0, .ref 0)], [.int (xs ((i + 2).toNatClampNeg)), .int (xs ((i + 1).toNatClampNeg)), .ref 64], (q_kL S c n))) rfl rfl hx2 ?_
  refine q_Ru_seg (g2 := (610, [(4, .int i), (3, .ref 270), (2, .ref 236), (1, .ref 64), (0, .ref 0)], [.ref 270, .int (xs ((i + 2).toNatClampNeg)), .int (xs ((i + 1).toNatClampNeg)), .ref 64], (q_kL S c n))) 1 (fun _ _ => rfl) ?_
  refine q_Ru_call (v := (some (.int r0.2.1))) (h2 := (q_kL (q_pt 172 1 0 206 S r0.1) (c + r0.2.2) (n + 6 * r0.2.2))) rfl rfl ?_ ?_
  · exact (q_emXL rfl (fun _ => rfl) (dzt_X10_64_236 z L xs (q_vw 172 0 206 S) c n (xs ((i + 1).toNatClampNeg)) (xs ((i + 2).toNatClampNeg)) r0 er0)).le (Nat.le_of_ble_eq_true rfl)
  show q_Ru _ _ _ (613, [(4, .int i), (3, .ref 270), (2, .ref 236), (1, .ref 64), (0, .ref 0)], [.int r0.2.1], (q_kL (q_pt 172 1 0 206 S r0.1) (c + r0.2.2) (n + 6 * r0.2.2))) _
  refine q_Ru_seg (g2 := (621, [(5, .int r0.2.1), (4, .int i), (3, .ref 270), (2, .ref 236), (1, .ref 64), (0, .ref 0)], [.int (i + 1), .ref 0, .ref 236], (q_kL (q_pt 172 1 0 206 S r0.1) (c + r0.2.2) (n + 6 * r0.2.2)))) 6 (fun _ _ => rfl) ?_
  refine q_Ru_rsT (g2 := (622, [(5, .int r0.2.1), (4, .int i), (3, .ref 270), (2, .ref 236), (1, .ref 64), (0, .ref 0)], [.int (xs ((i + 1).toNatClampNeg)), .ref 236], (q_kL (q_pt 172 1 0 206 S r0.1) (c + r0.2.2) (n + 6 * r0.2.2)))) rfl rfl hx1 ?_
  refine q_Ru_seg (g2 := (627, [(5, .int r0.2.1), (4, .int i), (3, .ref 270), (2, .ref 236), (1, .ref 64), (0, .ref 0)], [.int (i + 2), .ref 0, .int (xs ((i + 1).toNatClampNeg)), .ref 236], (q_kL (q_pt 172 1 0 206 S r0.1) (c + r0.2.2) (n + 6 * r0.2.2)))) 4 (fun _ _ => rfl) ?_
  refine q_Ru_rsT (g2 := (628, [(5, .int r0.2.1), (4, .int i), (3, .ref 270), (2, .ref 236), (1, .ref 64), (0, .ref 0)], [.int (xs ((i + 2).toNatClampNeg)), .int (xs ((i + 1).toNatClampNeg)), .ref 236], (q_kL (q_pt 172 1 0 206 S r0.1) (c + r0.2.2) (n + 6 * r0.2.2)))) rfl rfl hx2 ?_
  refine q_Ru_call (v := (some (.int r1.2))) (h2 := (q_kL (q_pt 34 0 172 0 (q_pt 172 1 0 206 S r0.1) r1.1) (c + r0.2.2) (n + 6 * r0.2.2))) rfl rfl ?_ ?_
  · exact (q_emML rfl (fun _ => rfl) ((dzt_M289_64 (q_vw 34 172 0 (q_pt 172 1 0 206 S r0.1)) (c + r0.2.2) (n + 6 * r0.2.2) (xs ((i + 1).toNatClampNeg)) (xs ((i + 2).toNatClampNeg)) r1 er1).tb q_TB0_le)).le (Nat.le_of_ble_eq_true rfl)
  show q_Ru _ _ _ (631, [(5, .int r0.2.1), (4, .int i), (3, .ref 270), (2, .ref 236), (1, .ref 64), (0, .ref 0)], [.int r1.2], (q_kL (q_pt 34 0 172 0 (q_pt 172 1 0 206 S r0.1) r1.1) (c + r0.2.2) (n + 6 * r0.2.2))) _
  refine q_Ru_seg (g2 := (23, [(4, .int (i + 4)), (6, .int r1.2), (5, .int r0.2.1), (3, .ref 270), (2, .ref 236), (1, .ref 64), (0, .ref 0)], [], (q_kL (q_pt 34 0 172 0 (q_pt 172 1 0 206 S r0.1) r1.1) (c + r0.2.2) (n + 6 * r0.2.2)))) 4 (fun _ _ => rfl) ?_
  exact q_Ru_xt (q_xt_mk (q_mn1 0 rfl (q_mn1 3 rfl (q_mn1 4 rfl (q_mn1 5 rfl (q_mn1 6 rfl q_mn0))))) rfl) h
set_option maxHeartbeats 4000000 in
theorem q_lw11 (z L : Nat) (xs : Nat → Int32) (S : q_S) (c n : Nat) (i : Int32) (hx0 : q_in i L = true) (hx1 : q_in (i + 1) L = true) (hx2 : q_in (i + 2) L = true) (hx3 : q_in (i + 3) L = true) (hi : decide (Int32.ofNat L - 4 < i) = false) (hv : xs i.toNatClampNeg &&& 63 = 11) (r0 : q_S × Int32) (er0 : dz_M290_64 (q_vw 34 172 0 S) = some r0) {o : q_Out} (h : q_Ru (q_TBs z L xs) 20 376 (23, [(4, .int (i + 4)), (3, .ref 270), (2, .ref 236), (1, .ref 64), (0, .ref 0)], [], (q_kL (q_pt 34 0 172 0 S r0.1) c n)) o) : q_Ru (q_TBs z L xs) 20 376 (23, [(4, .int i), (3, .ref 270), (2, .ref 236), (1, .ref 64), (0, .ref 0)], [], (q_kL S c n)) o := by
  refine q_Ru_seg (g2 := (29, [(4, .int i), (3, .ref 270), (2, .ref 236), (1, .ref 64), (0, .ref 0)], [.int ((Int32.ofNat L) - 4), .int i], (q_kL S c n))) 5 (fun _ _ => rfl) ?_
  refine q_Ru_rsF (g2 := (32, [(4, .int i), (3, .ref 270), (2, .ref 236), (1, .ref 64), (0, .ref 0)], [], (q_kL S c n))) rfl rfl hi ?_
  refine q_Ru_seg (g2 := (35, [(4, .int i), (3, .ref 270), (2, .ref 236), (1, .ref 64), (0, .ref 0)], [.int i, .ref 0], (q_kL S c n))) 2 (fun _ _ => rfl) ?_
  refine q_Ru_rsT (g2 := (36, [(4, .int i), (3, .ref 270), (2, .ref 236), (1, .ref 64), (0, .ref 0)], [.int (xs (i.toNatClampNeg))], (q_kL S c n))) rfl rfl hx0 ?_
  refine q_Ru_seg (g2 := (39, [(4, .int i), (3, .ref 270), (2, .ref 236), (1, .ref 64), (0, .ref 0)], [.int ((xs (i.toNatClampNeg)) &&& 63)], (q_kL S c n))) 2 (fun _ _ => rfl) ?_
  rw [hv]
  refine q_Ru_seg (g2 := (637, [(4, .int i), (3, .ref 270), (2, .ref 236), (1, .ref 64), (0, .ref 0)], [.ref 64], (q_kL S c n))) 2 (fun _ _ => rfl) ?_
  refine q_Ru_call (v := (some (.int (dz_X39_64 (q_vw 172 0 206 S))))) (h2 := (q_kL S c n)) rfl rfl ?_ ?_
  · exact (q_emXLp rfl (fun _ => rfl) (dzt_X39_64 z L xs (q_vw 172 0 206 S) c n)).le (Nat.le_of_ble_eq_true rfl)
  show q_Ru _ _ _ (640, [(4, .int i), (3, .ref 270), (2, .ref 236), (1, .ref 64), (0, .ref 0)], [.int (dz_X39_64 (q_vw 172 0 206 S))], (q_kL S c n)) _
  refine q_Ru_seg (g2 := (642, [(4, .int i), (3, .ref 270), (2, .ref 236), (1, .ref 64), (0, .ref 0)], [.ref 236], (q_kL S c n))) 2 (fun _ _ => rfl) ?_
  refine q_Ru_call (v := (some (.int r0.2))) (h2 := (q_kL (q_pt 34 0 172 0 S r0.1) c n)) rfl rfl ?_ ?_
  · exact (q_emML rfl (fun _ => rfl) ((dzt_M290_64 (q_vw 34 172 0 S) c n r0 er0).tb q_TB0_le)).le (Nat.le_of_ble_eq_true rfl)
  show q_Ru _ _ _ (645, [(4, .int i), (3, .ref 270), (2, .ref 236), (1, .ref 64), (0, .ref 0)], [.int r0.2], (q_kL (q_pt 34 0 172 0 S r0.1) c n)) _
  refine q_Ru_seg (g2 := (23, [(4, .int (i + 4)), (3, .ref 270), (2, .ref 236), (1, .ref 64), (0, .ref 0)], [], (q_kL (q_pt 34 0 172 0 S r0.1) c n))) 4 (fun _ _ => rfl) ?_
  exact q_Ru_xt (q_xt_mk (q_mn1 0 rfl (q_mn1 1 rfl (q_mn1 2 rfl (q_mn1 3 rfl (q_mn1 4 rfl q_mn0))))) rfl) h
set_option maxHeartbeats 4000000 in
theorem q_lw12 (z L : Nat) (xs : Nat → Int32) (S : q_S) (c n : Nat) (i : Int32) (hx0 : q_in i L = true) (hx1 : q_in (i + 1) L = true) (hx2 : q_in (i + 2) L = true) (hx3 : q_in (i + 3) L = true) (hi : decide (Int32.ofNat L - 4 < i) = false) (hv : xs i.toNatClampNeg &&& 63 = 12) (r0 : q_S × Int32) (er0 : dz_X40_64 (q_vw 172 0 206 S) = some r0) (r1 : q_S × Int32) (er1 : dz_M291_64 (q_vw 34 172 0 (q_pt 172 1 0 206 S r0.1)) = some r1) {o : q_Out} (h : q_Ru (q_TBs z L xs) 20 376 (23, [(4, .int (i + 4)), (3, .ref 270), (2, .ref 236), (1, .ref 64), (0, .ref 0)], [], (q_kL (q_pt 34 0 172 0 (q_pt 172 1 0 206 S r0.1) r1.1) c n)) o) : q_Ru (q_TBs z L xs) 20 376 (23, [(4, .int i), (3, .ref 270), (2, .ref 236), (1, .ref 64), (0, .ref 0)], [], (q_kL S c n)) o := by
  refine q_Ru_seg (g2 := (29, [(4, .int i), (3, .ref 270), (2, .ref 236), (1, .ref 64), (0, .ref 0)], [.int ((Int32.ofNat L) - 4), .int i], (q_kL S c n))) 5 (fun _ _ => rfl) ?_
  refine q_Ru_rsF (g2 := (32, [(4, .int i), (3, .ref 270), (2, .ref 236), (1, .ref 64), (0, .ref 0)], [], (q_kL S c n))) rfl rfl hi ?_
  refine q_Ru_seg (g2 := (35, [(4, .int i), (3, .ref 270), (2, .ref 236), (1, .ref 64), (0, .ref 0)], [.int i, .ref 0], (q_kL S c n))) 2 (fun _ _ => rfl) ?_
  refine q_Ru_rsT (g2 := (36, [(4, .int i), (3, .ref 270), (2, .ref 236), (1, .ref 64), (0, .ref 0)], [.int (xs (i.toNatClampNeg))], (q_kL S c n))) rfl rfl hx0 ?_
  refine q_Ru_seg (g2 := (39, [(4, .int i), (3, .ref 270), (2, .ref 236), (1, .ref 64), (0, .ref 0)], [.int ((xs (i.toNatClampNeg)) &&& 63)], (q_kL S c n))) 2 (fun _ _ => rfl) ?_
  rw [hv]
  refine q_Ru_seg (g2 := (650, [(4, .int i), (3, .ref 270), (2, .ref 236), (1, .ref 64), (0, .ref 0)], [.ref 64], (q_kL S c n))) 2 (fun _ _ => rfl) ?_
  refine q_Ru_call (v := (some (.int r0.2))) (h2 := (q_kL (q_pt 172 1 0 206 S r0.1) c n)) rfl rfl ?_ ?_
  · exact (q_emXL rfl (fun _ => rfl) (dzt_X40_64 z L xs (q_vw 172 0 206 S) c n r0 er0)).le (Nat.le_of_ble_eq_true rfl)
  show q_Ru _ _ _ (653, [(4, .int i), (3, .ref 270), (2, .ref 236), (1, .ref 64), (0, .ref 0)], [.int r0.2], (q_kL (q_pt 172 1 0 206 S r0.1) c n)) _
  refine q_Ru_seg (g2 := (655, [(4, .int i), (3, .ref 270), (2, .ref 236), (1, .ref 64), (0, .ref 0)], [.ref 236], (q_kL (q_pt 172 1 0 206 S r0.1) c n))) 2 (fun _ _ => rfl) ?_
  refine q_Ru_call (v := (some (.int r1.2))) (h2 := (q_kL (q_pt 34 0 172 0 (q_pt 172 1 0 206 S r0.1) r1.1) c n)) rfl rfl ?_ ?_
  · exact (q_emML rfl (fun _ => rfl) ((dzt_M291_64 (q_vw 34 172 0 (q_pt 172 1 0 206 S r0.1)) c n r1 er1).tb q_TB0_le)).le (Nat.le_of_ble_eq_true rfl)
  show q_Ru _ _ _ (658, [(4, .int i), (3, .ref 270), (2, .ref 236), (1, .ref 64), (0, .ref 0)], [.int r1.2], (q_kL (q_pt 34 0 172 0 (q_pt 172 1 0 206 S r0.1) r1.1) c n)) _
  refine q_Ru_seg (g2 := (23, [(4, .int (i + 4)), (3, .ref 270), (2, .ref 236), (1, .ref 64), (0, .ref 0)], [], (q_kL (q_pt 34 0 172 0 (q_pt 172 1 0 206 S r0.1) r1.1) c n))) 4 (fun _ _ => rfl) ?_
  exact q_Ru_xt (q_xt_mk (q_mn1 0 rfl (q_mn1 1 rfl (q_mn1 2 rfl (q_mn1 3 rfl (q_mn1 4 rfl q_mn0))))) rfl) h
set_option maxHeartbeats 4000000 in
theorem q_lw13 (z L : Nat) (xs : Nat → Int32) (S : q_S) (c n : Nat) (i : Int32) (hx0 : q_in i L = true) (hx1 : q_in (i + 1) L = true) (hx2 : q_in (i + 2) L = true) (hx3 : q_in (i + 3) L = true) (hi : decide (Int32.ofNat L - 4 < i) = false) (hv : xs i.toNatClampNeg &&& 63 = 13) (r0 : q_S × Int32) (er0 : dz_X41_64 (q_vw 172 0 206 S) = some r0) (r1 : q_S × Int32) (er1 : dz_M292_64 (q_vw 34 172 0 (q_pt 172 1 0 206 S r0.1)) = r1) {o : q_Out} (h : q_Ru (q_TBs z L xs) 20 376 (23, [(4, .int (i + 4)), (3, .ref 270), (2, .ref 236), (1, .ref 64), (0, .ref 0)], [], (q_kL (q_pt 34 0 172 0 (q_pt 172 1 0 206 S r0.1) r1.1) c n)) o) : q_Ru (q_TBs z L xs) 20 376 (23, [(4, .int i), (3, .ref 270), (2, .ref 236), (1, .ref 64), (0, .ref 0)], [], (q_kL S c n)) o := by
  refine q_Ru_seg (g2 := (29, [(4, .int i), (3, .ref 270), (2, .ref 236), (1, .ref 64), (0, .ref 0)], [.int ((Int32.ofNat L) - 4), .int i], (q_kL S c n))) 5 (fun _ _ => rfl) ?_
  refine q_Ru_rsF (g2 := (32, [(4, .int i), (3, .ref 270), (2, .ref 236), (1, .ref 64), (0, .ref 0)], [], (q_kL S c n))) rfl rfl hi ?_
  refine q_Ru_seg (g2 := (35, [(4, .int i), (3, .ref 270), (2, .ref 236), (1, .ref 64), (0, .ref 0)], [.int i, .ref 0], (q_kL S c n))) 2 (fun _ _ => rfl) ?_
  refine q_Ru_rsT (g2 := (36, [(4, .int i), (3, .ref 270), (2, .ref 236), (1, .ref 64), (0, .ref 0)], [.int (xs (i.toNatClampNeg))], (q_kL S c n))) rfl rfl hx0 ?_
  refine q_Ru_seg (g2 := (39, [(4, .int i), (3, .ref 270), (2, .ref 236), (1, .ref 64), (0, .ref 0)], [.int ((xs (i.toNatClampNeg)) &&& 63)], (q_kL S c n))) 2 (fun _ _ => rfl) ?_
  rw [hv]
  refine q_Ru_seg (g2 := (663, [(4, .int i), (3, .ref 270), (2, .ref 236), (1, .ref 64), (0, .ref 0)], [.ref 64], (q_kL S c n))) 2 (fun _ _ => rfl) ?_
  refine q_Ru_call (v := (some (.int r0.2))) (h2 := (q_kL (q_pt 172 1 0 206 S r0.1) c n)) rfl rfl ?_ ?_
  · exact (q_emXL rfl (fun _ => rfl) (dzt_X41_64 z L xs (q_vw 172 0 206 S) c n r0 er0)).le (Nat.le_of_ble_eq_true rfl)
  show q_Ru _ _ _ (666, [(4, .int i), (3, .ref 270), (2, .ref 236), (1, .ref 64), (0, .ref 0)], [.int r0.2], (q_kL (q_pt 172 1 0 206 S r0.1) c n)) _
  refine q_Ru_seg (g2 := (668, [(4, .int i), (3, .ref 270), (2, .ref 236), (1, .ref 64), (0, .ref 0)], [.ref 236], (q_kL (q_pt 172 1 0 206 S r0.1) c n))) 2 (fun _ _ => rfl) ?_
  refine q_Ru_call (v := (some (.int r1.2))) (h2 := (q_kL (q_pt 34 0 172 0 (q_pt 172 1 0 206 S r0.1) r1.1) c n)) rfl rfl ?_ ?_
  · exact (q_emML rfl (fun _ => rfl) ((q_cE (φ := (q_oIM c n)) er1 (dzt_M292_64 (q_vw 34 172 0 (q_pt 172 1 0 206 S r0.1)) c n)).tb q_TB0_le)).le (Nat.le_of_ble_eq_true rfl)
  show q_Ru _ _ _ (671, [(4, .int i), (3, .ref 270), (2, .ref 236), (1, .ref 64), (0, .ref 0)], [.int r1.2], (q_kL (q_pt 34 0 172 0 (q_pt 172 1 0 206 S r0.1) r1.1) c n)) _
  refine q_Ru_seg (g2 := (23, [(4, .int (i + 4)), (3, .ref 270), (2, .ref 236), (1, .ref 64), (0, .ref 0)], [], (q_kL (q_pt 34 0 172 0 (q_pt 172 1 0 206 S r0.1) r1.1) c n))) 4 (fun _ _ => rfl) ?_
  exact q_Ru_xt (q_xt_mk (q_mn1 0 rfl (q_mn1 1 rfl (q_mn1 2 rfl (q_mn1 3 rfl (q_mn1 4 rfl q_mn0))))) rfl) h
set_option maxHeartbeats 4000000 in
theorem q_lw14 (z L : Nat) (xs : Nat → Int32) (S : q_S) (c n : Nat) (i : Int32) (hx0 : q_in i L = true) (hx1 : q_in (i + 1) L = true) (hx2 : q_in (i + 2) L = true) (hx3 : q_in (i + 3) L = true) (hi : decide (Int32.ofNat L - 4 < i) = false) (hv : xs i.toNatClampNeg &&& 63 = 14) (r0 : q_S × Int32 × Nat) (er0 : dz_X11_64_236 (q_vw 172 0 206 S) (xs ((i + 1).toNatClampNeg)) = some r0) (r1 : q_S × Int32) (er1 : dz_M236_64 (q_vw 34 172 0 (q_pt 172 1 0 206 S r0.1)) (xs ((i + 1).toNatClampNeg)) = some r1) {o : q_Out} (h : q_Ru (q_TBs z L xs) 20 376 (23, [(4, .int (i + 4)), (3, .ref 270), (2, .ref 236), (1, .ref 64), (0, .ref 0)], [], (q_kL (q_pt 34 0 172 0 (q_pt 172 1 0 206 S r0.1) r1.1) (c + r0.2.2) (n + 6 * r0.2.2))) o) : q_Ru (q_TBs z L xs) 20 376 (23, [(4, .int i), (3, .ref 270), (2, .ref 236), (1, .ref 64), (0, .ref 0)], [], (q_kL S c n)) o := by
  refine q_Ru_seg (g2 := (29, [(4, .int i), (3, .ref 270), (2, .ref 236), (1, .ref 64), (0, .ref 0)], [.int ((Int32.ofNat L) - 4), .int i], (q_kL S c n))) 5 (fun _ _ => rfl) ?_
  refine q_Ru_rsF (g2 := (32, [(4, .int i), (3, .ref 270), (2, .ref 236), (1, .ref 64), (0, .ref 0)], [], (q_kL S c n))) rfl rfl hi ?_
  refine q_Ru_seg (g2 := (35, [(4, .int i), (3, .ref 270), (2, .ref 236), (1, .ref 64), (0, .ref 0)], [.int i, .ref 0], (q_kL S c n))) 2 (fun _ _ => rfl) ?_
  refine q_Ru_rsT (g2 := (36, [(4, .int i), (3, .ref 270), (2, .ref 236), (1, .ref 64), (0, .ref 0)], [.int (xs (i.toNatClampNeg))], (q_kL S c n))) rfl rfl hx0 ?_
  refine q_Ru_seg (g2 := (39, [(4, .int i), (3, .ref 270), (2, .ref 236), (1, .ref 64), (0, .ref 0)], [.int ((xs (i.toNatClampNeg)) &&& 63)], (q_kL S c n))) 2 (fun _ _ => rfl) ?_
  rw [hv]
  refine q_Ru_seg (g2 := (681, [(4, .int i), (3, .ref 270), (2, .ref 236), (1, .ref 64), (0, .ref 0)], [.int (i + 1), .ref 0, .ref 64], (q_kL S c n))) 6 (fun _ _ => rfl) ?_
  refine q_Ru_rsT (g2 := (682, [(4, .int i), (3, .ref 270), (2, .ref 236), (1, .ref 64), (0, .ref 0)], [.int (xs ((i + 1).toNatClampNeg)), .ref 64], (q_kL S c n))) rfl rfl hx1 ?_
  refine q_Ru_seg (g2 := (683, [(4, .int i), (3, .ref 270), (2, .ref 236), (1, .ref 64), (0, .ref 0)], [.ref 270, .int (xs ((i + 1).toNatClampNeg)), .ref 64], (q_kL S c n))) 1 (fun _ _ => rfl) ?_
  refine q_Ru_call (v := (some (.int r0.2.1))) (h2 := (q_kL (q_pt 172 1 0 206 S r0.1) (c + r0.2.2) (n + 6 * r0.2.2))) rfl rfl ?_ ?_
  · exact (q_emXL rfl (fun _ => rfl) (dzt_X11_64_236 z L xs (q_vw 172 0 206 S) c n (xs ((i + 1).toNatClampNeg)) r0 er0)).le (Nat.le_of_ble_eq_true rfl)
  show q_Ru _ _ _ (686, [(4, .int i), (3, .ref 270), (2, .ref 236), (1, .ref 64), (0, .ref 0)], [.int r0.2.1], (q_kL (q_pt 172 1 0 206 S r0.1) (c + r0.2.2) (n + 6 * r0.2.2))) _
  refine q_Ru_seg (g2 := (694, [(5, .int r0.2.1), (4, .int i), (3, .ref 270), (2, .ref 236), (1, .ref 64), (0, .ref 0)], [.int (i + 1), .ref 0, .ref 236], (q_kL (q_pt 172 1 0 206 S r0.1) (c + r0.2.2) (n + 6 * r0.2.2)))) 6 (fun _ _ => rfl) ?_
  refine q_Ru_rsT (g2 := (695, [(5, .int r0.2.1), (4, .int i), (3, .ref 270), (2, .ref 236), (1, .ref 64), (0, .ref 0)], [.int (xs ((i + 1).toNatClampNeg)), .ref 236], (q_kL (q_pt 172 1 0 206 S r0.1) (c + r0.2.2) (n + 6 * r0.2.2)))) rfl rfl hx1 ?_
  refine q_Ru_call (v := (some (.int r1.2))) (h2 := (q_kL (q_pt 34 0 172 0 (q_pt 172 1 0 206 S r0.1) r1.1) (c + r0.2.2) (n + 6 * r0.2.2))) rfl rfl ?_ ?_
  · exact (q_emML rfl (fun _ => rfl) ((dzt_M236_64 (q_vw 34 172 0 (q_pt 172 1 0 206 S r0.1)) (c + r0.2.2) (n + 6 * r0.2.2) (xs ((i + 1).toNatClampNeg)) r1 er1).tb q_TB0_le)).le (Nat.le_of_ble_eq_true rfl)
  show q_Ru _ _ _ (698, [(5, .int r0.2.1), (4, .int i), (3, .ref 270), (2, .ref 236), (1, .ref 64), (0, .ref 0)], [.int r1.2], (q_kL (q_pt 34 0 172 0 (q_pt 172 1 0 206 S r0.1) r1.1) (c + r0.2.2) (n + 6 * r0.2.2))) _
  refine q_Ru_seg (g2 := (23, [(4, .int (i + 4)), (6, .int r1.2), (5, .int r0.2.1), (3, .ref 270), (2, .ref 236), (1, .ref 64), (0, .ref 0)], [], (q_kL (q_pt 34 0 172 0 (q_pt 172 1 0 206 S r0.1) r1.1) (c + r0.2.2) (n + 6 * r0.2.2)))) 4 (fun _ _ => rfl) ?_
  exact q_Ru_xt (q_xt_mk (q_mn1 0 rfl (q_mn1 3 rfl (q_mn1 4 rfl (q_mn1 5 rfl (q_mn1 6 rfl q_mn0))))) rfl) h
set_option maxHeartbeats 4000000 in
theorem q_lw15 (z L : Nat) (xs : Nat → Int32) (S : q_S) (c n : Nat) (i : Int32) (hx0 : q_in i L = true) (hx1 : q_in (i + 1) L = true) (hx2 : q_in (i + 2) L = true) (hx3 : q_in (i + 3) L = true) (hi : decide (Int32.ofNat L - 4 < i) = false) (hv : xs i.toNatClampNeg &&& 63 = 15) (r0 : q_S × Int32 × Nat) (er0 : dz_X12_64_236 (q_vw 172 0 206 S) = some r0) (r1 : q_S × Int32) (er1 : dz_M237_64 (q_vw 34 172 0 (q_pt 172 1 0 206 S r0.1)) = some r1) {o : q_Out} (h : q_Ru (q_TBs z L xs) 20 376 (23, [(4, .int (i + 4)), (3, .ref 270), (2, .ref 236), (1, .ref 64), (0, .ref 0)], [], (q_kL (q_pt 34 0 172 0 (q_pt 172 1 0 206 S r0.1) r1.1) (c + r0.2.2) (n + 6 * r0.2.2))) o) : q_Ru (q_TBs z L xs) 20 376 (23, [(4, .int i), (3, .ref 270), (2, .ref 236), (1, .ref 64), (0, .ref 0)], [], (q_kL S c n)) o := by
  refine q_Ru_seg (g2 := (29, [(4, .int i), (3, .ref 270), (2, .ref 236), (1, .ref 64), (0, .ref 0)], [.int ((Int32.ofNat L) - 4), .int i], (q_kL S c n))) 5 (fun _ _ => rfl) ?_
  refine q_Ru_rsF (g2 := (32, [(4, .int i), (3, .ref 270), (2, .ref 236), (1, .ref 64), (0, .ref 0)], [], (q_kL S c n))) rfl rfl hi ?_
  refine q_Ru_seg (g2 := (35, [(4, .int i), (3, .ref 270), (2, .ref 236), (1, .ref 64), (0, .ref 0)], [.int i, .ref 0], (q_kL S c n))) 2 (fun _ _ => rfl) ?_
  refine q_Ru_rsT (g2 := (36, [(4, .int i), (3, .ref 270), (2, .ref 236), (1, .ref 64), (0, .ref 0)], [.int (xs (i.toNatClampNeg))], (q_kL S c n))) rfl rfl hx0 ?_
  refine q_Ru_seg (g2 := (39, [(4, .int i), (3, .ref 270), (2, .ref 236), (1, .ref 64), (0, .ref 0)], [.int ((xs (i.toNatClampNeg)) &&& 63)], (q_kL S c n))) 2 (fun _ _ => rfl) ?_
  rw [hv]
  refine q_Ru_seg (g2 := (705, [(4, .int i), (3, .ref 270), (2, .ref 236), (1, .ref 64), (0, .ref 0)], [.ref 270, .ref 64], (q_kL S c n))) 3 (fun _ _ => rfl) ?_
  refine q_Ru_call (v := (some (.int r0.2.1))) (h2 := (q_kL (q_pt 172 1 0 206 S r0.1) (c + r0.2.2) (n + 6 * r0.2.2))) rfl rfl ?_ ?_
  · exact (q_emXL rfl (fun _ => rfl) (dzt_X12_64_236 z L xs (q_vw 172 0 206 S) c n r0 er0)).le (Nat.le_of_ble_eq_true rfl)
  show q_Ru _ _ _ (708, [(4, .int i), (3, .ref 270), (2, .ref 236), (1, .ref 64), (0, .ref 0)], [.int r0.2.1], (q_kL (q_pt 172 1 0 206 S r0.1) (c + r0.2.2) (n + 6 * r0.2.2))) _
  refine q_Ru_seg (g2 := (711, [(5, .int r0.2.1), (4, .int i), (3, .ref 270), (2, .ref 236), (1, .ref 64), (0, .ref 0)], [.ref 236], (q_kL (q_pt 172 1 0 206 S r0.1) (c + r0.2.2) (n + 6 * r0.2.2)))) 2 (fun _ _ => rfl) ?_
  refine q_Ru_call (v := (some (.int r1.2))) (h2 := (q_kL (q_pt 34 0 172 0 (q_pt 172 1 0 206 S r0.1) r1.1) (c + r0.2.2) (n + 6 * r0.2.2))) rfl rfl ?_ ?_
  · exact (q_emML rfl (fun _ => rfl) ((dzt_M237_64 (q_vw 34 172 0 (q_pt 172 1 0 206 S r0.1)) (c + r0.2.2) (n + 6 * r0.2.2) r1 er1).tb q_TB0_le)).le (Nat.le_of_ble_eq_true rfl)
  show q_Ru _ _ _ (714, [(5, .int r0.2.1), (4, .int i), (3, .ref 270), (2, .ref 236), (1, .ref 64), (0, .ref 0)], [.int r1.2], (q_kL (q_pt 34 0 172 0 (q_pt 172 1 0 206 S r0.1) r1.1) (c + r0.2.2) (n + 6 * r0.2.2))) _
  refine q_Ru_seg (g2 := (23, [(4, .int (i + 4)), (6, .int r1.2), (5, .int r0.2.1), (3, .ref 270), (2, .ref 236), (1, .ref 64), (0, .ref 0)], [], (q_kL (q_pt 34 0 172 0 (q_pt 172 1 0 206 S r0.1) r1.1) (c + r0.2.2) (n + 6 * r0.2.2)))) 4 (fun _ _ => rfl) ?_
  exact q_Ru_xt (q_xt_mk (q_mn1 0 rfl (q_mn1 3 rfl (q_mn1 4 rfl (q_mn1 5 rfl (q_mn1 6 rfl q_mn0))))) rfl) h
set_option maxHeartbeats 4000000 in
theorem q_lw16 (z L : Nat) (xs : Nat → Int32) (S : q_S) (c n : Nat) (i : Int32) (hx0 : q_in i L = true) (hx1 : q_in (i + 1) L = true) (hx2 : q_in (i + 2) L = true) (hx3 : q_in (i + 3) L = true) (hi : decide (Int32.ofNat L - 4 < i) = false) (hv : xs i.toNatClampNeg &&& 63 = 16) (r0 : q_S × Int64) (er0 : dz_M238_64 (q_vw 34 172 0 S) = r0) {o : q_Out} (h : q_Ru (q_TBs z L xs) 20 376 (23, [(4, .int (i + 4)), (3, .ref 270), (2, .ref 236), (1, .ref 64), (0, .ref 0)], [], (q_kL (q_pt 34 0 172 0 S r0.1) c n)) o) : q_Ru (q_TBs z L xs) 20 376 (23, [(4, .int i), (3, .ref 270), (2, .ref 236), (1, .ref 64), (0, .ref 0)], [], (q_kL S c n)) o := by
  refine q_Ru_seg (g2 := (29, [(4, .int i), (3, .ref 270), (2, .ref 236), (1, .ref 64), (0, .ref 0)], [.int ((Int32.ofNat L) - 4), .int i], (q_kL S c n))) 5 (fun _ _ => rfl) ?_
  refine q_Ru_rsF (g2 := (32, [(4, .int i), (3, .ref 270), (2, .ref 236), (1, .ref 64), (0, .ref 0)], [], (q_kL S c n))) rfl rfl hi ?_
  refine q_Ru_seg (g2 := (35, [(4, .int i), (3, .ref 270), (2, .ref 236), (1, .ref 64), (0, .ref 0)], [.int i, .ref 0], (q_kL S c n))) 2 (fun _ _ => rfl) ?_
  refine q_Ru_rsT (g2 := (36, [(4, .int i), (3, .ref 270), (2, .ref 236), (1, .ref 64), (0, .ref 0)], [.int (xs (i.toNatClampNeg))], (q_kL S c n))) rfl rfl hx0 ?_
  refine q_Ru_seg (g2 := (39, [(4, .int i), (3, .ref 270), (2, .ref 236), (1, .ref 64), (0, .ref 0)], [.int ((xs (i.toNatClampNeg)) &&& 63)], (q_kL S c n))) 2 (fun _ _ => rfl) ?_
  rw [hv]
  refine q_Ru_seg (g2 := (720, [(4, .int i), (3, .ref 270), (2, .ref 236), (1, .ref 64), (0, .ref 0)], [.ref 64], (q_kL S c n))) 2 (fun _ _ => rfl) ?_
  refine q_Ru_call (v := (some (.long (dz_X44_64 (q_vw 172 0 206 S))))) (h2 := (q_kL S c n)) rfl rfl ?_ ?_
  · exact (q_emXLp rfl (fun _ => rfl) (dzt_X44_64 z L xs (q_vw 172 0 206 S) c n)).le (Nat.le_of_ble_eq_true rfl)
  show q_Ru _ _ _ (723, [(4, .int i), (3, .ref 270), (2, .ref 236), (1, .ref 64), (0, .ref 0)], [.long (dz_X44_64 (q_vw 172 0 206 S))], (q_kL S c n)) _
  refine q_Ru_seg (g2 := (725, [(4, .int i), (3, .ref 270), (2, .ref 236), (1, .ref 64), (0, .ref 0)], [.ref 236], (q_kL S c n))) 2 (fun _ _ => rfl) ?_
  refine q_Ru_call (v := (some (.long r0.2))) (h2 := (q_kL (q_pt 34 0 172 0 S r0.1) c n)) rfl rfl ?_ ?_
  · exact (q_emML rfl (fun _ => rfl) ((q_cE (φ := (q_oKM c n)) er0 (dzt_M238_64 (q_vw 34 172 0 S) c n)).tb q_TB0_le)).le (Nat.le_of_ble_eq_true rfl)
  show q_Ru _ _ _ (728, [(4, .int i), (3, .ref 270), (2, .ref 236), (1, .ref 64), (0, .ref 0)], [.long r0.2], (q_kL (q_pt 34 0 172 0 S r0.1) c n)) _
  refine q_Ru_seg (g2 := (23, [(4, .int (i + 4)), (3, .ref 270), (2, .ref 236), (1, .ref 64), (0, .ref 0)], [], (q_kL (q_pt 34 0 172 0 S r0.1) c n))) 4 (fun _ _ => rfl) ?_
  exact q_Ru_xt (q_xt_mk (q_mn1 0 rfl (q_mn1 1 rfl (q_mn1 2 rfl (q_mn1 3 rfl (q_mn1 4 rfl q_mn0))))) rfl) h
set_option maxHeartbeats 4000000 in
theorem q_lw17 (z L : Nat) (xs : Nat → Int32) (S : q_S) (c n : Nat) (i : Int32) (hx0 : q_in i L = true) (hx1 : q_in (i + 1) L = true) (hx2 : q_in (i + 2) L = true) (hx3 : q_in (i + 3) L = true) (hi : decide (Int32.ofNat L - 4 < i) = false) (hv : xs i.toNatClampNeg &&& 63 = 17) (r0 : Bool) (er0 : dz_X45_64 (q_vw 172 0 206 S) = some r0) (r1 : q_S × Bool) (er1 : dz_M239_64 (q_vw 34 172 0 S) = some r1) {o : q_Out} (h : q_Ru (q_TBs z L xs) 20 376 (23, [(4, .int (i + 4)), (3, .ref 270), (2, .ref 236), (1, .ref 64), (0, .ref 0)], [], (q_kL (q_pt 34 0 172 0 S r1.1) c n)) o) : q_Ru (q_TBs z L xs) 20 376 (23, [(4, .int i), (3, .ref 270), (2, .ref 236), (1, .ref 64), (0, .ref 0)], [], (q_kL S c n)) o := by
  refine q_Ru_seg (g2 := (29, [(4, .int i), (3, .ref 270), (2, .ref 236), (1, .ref 64), (0, .ref 0)], [.int ((Int32.ofNat L) - 4), .int i], (q_kL S c n))) 5 (fun _ _ => rfl) ?_
  refine q_Ru_rsF (g2 := (32, [(4, .int i), (3, .ref 270), (2, .ref 236), (1, .ref 64), (0, .ref 0)], [], (q_kL S c n))) rfl rfl hi ?_
  refine q_Ru_seg (g2 := (35, [(4, .int i), (3, .ref 270), (2, .ref 236), (1, .ref 64), (0, .ref 0)], [.int i, .ref 0], (q_kL S c n))) 2 (fun _ _ => rfl) ?_
  refine q_Ru_rsT (g2 := (36, [(4, .int i), (3, .ref 270), (2, .ref 236), (1, .ref 64), (0, .ref 0)], [.int (xs (i.toNatClampNeg))], (q_kL S c n))) rfl rfl hx0 ?_
  refine q_Ru_seg (g2 := (39, [(4, .int i), (3, .ref 270), (2, .ref 236), (1, .ref 64), (0, .ref 0)], [.int ((xs (i.toNatClampNeg)) &&& 63)], (q_kL S c n))) 2 (fun _ _ => rfl) ?_
  rw [hv]
  refine q_Ru_seg (g2 := (733, [(4, .int i), (3, .ref 270), (2, .ref 236), (1, .ref 64), (0, .ref 0)], [.ref 64], (q_kL S c n))) 2 (fun _ _ => rfl) ?_
  refine q_Ru_call (v := (some (.int (q_b r0)))) (h2 := (q_kL S c n)) rfl rfl ?_ ?_
  · exact (q_emXLp rfl (fun _ => rfl) (dzt_X45_64 z L xs (q_vw 172 0 206 S) c n r0 er0)).le (Nat.le_of_ble_eq_true rfl)
  show q_Ru _ _ _ (736, [(4, .int i), (3, .ref 270), (2, .ref 236), (1, .ref 64), (0, .ref 0)], [.int (q_b r0)], (q_kL S c n)) _
  refine q_Ru_seg (g2 := (738, [(4, .int i), (3, .ref 270), (2, .ref 236), (1, .ref 64), (0, .ref 0)], [.ref 236], (q_kL S c n))) 2 (fun _ _ => rfl) ?_
  refine q_Ru_call (v := (some (.int (q_b r1.2)))) (h2 := (q_kL (q_pt 34 0 172 0 S r1.1) c n)) rfl rfl ?_ ?_
  · exact (q_emML rfl (fun _ => rfl) ((dzt_M239_64 (q_vw 34 172 0 S) c n r1 er1).tb q_TB0_le)).le (Nat.le_of_ble_eq_true rfl)
  show q_Ru _ _ _ (741, [(4, .int i), (3, .ref 270), (2, .ref 236), (1, .ref 64), (0, .ref 0)], [.int (q_b r1.2)], (q_kL (q_pt 34 0 172 0 S r1.1) c n)) _
  refine q_Ru_seg (g2 := (23, [(4, .int (i + 4)), (3, .ref 270), (2, .ref 236), (1, .ref 64), (0, .ref 0)], [], (q_kL (q_pt 34 0 172 0 S r1.1) c n))) 4 (fun _ _ => rfl) ?_
  exact q_Ru_xt (q_xt_mk (q_mn1 0 rfl (q_mn1 1 rfl (q_mn1 2 rfl (q_mn1 3 rfl (q_mn1 4 rfl q_mn0))))) rfl) h
set_option maxHeartbeats 4000000 in
theorem q_lw18 (z L : Nat) (xs : Nat → Int32) (S : q_S) (c n : Nat) (i : Int32) (hx0 : q_in i L = true) (hx1 : q_in (i + 1) L = true) (hx2 : q_in (i + 2) L = true) (hx3 : q_in (i + 3) L = true) (hi : decide (Int32.ofNat L - 4 < i) = false) (hv : xs i.toNatClampNeg &&& 63 = 18) (r0 : q_S × Int32) (er0 : dz_M240_64 (q_vw 34 172 0 S) = r0) {o : q_Out} (h : q_Ru (q_TBs z L xs) 20 376 (23, [(4, .int (i + 4)), (3, .ref 270), (2, .ref 236), (1, .ref 64), (0, .ref 0)], [], (q_kL (q_pt 34 0 172 0 S r0.1) c n)) o) : q_Ru (q_TBs z L xs) 20 376 (23, [(4, .int i), (3, .ref 270), (2, .ref 236), (1, .ref 64), (0, .ref 0)], [], (q_kL S c n)) o := by
  refine q_Ru_seg (g2 := (29, [(4, .int i), (3, .ref 270), (2, .ref 236), (1, .ref 64), (0, .ref 0)], [.int ((Int32.ofNat L) - 4), .int i], (q_kL S c n))) 5 (fun _ _ => rfl) ?_
  refine q_Ru_rsF (g2 := (32, [(4, .int i), (3, .ref 270), (2, .ref 236), (1, .ref 64), (0, .ref 0)], [], (q_kL S c n))) rfl rfl hi ?_
  refine q_Ru_seg (g2 := (35, [(4, .int i), (3, .ref 270), (2, .ref 236), (1, .ref 64), (0, .ref 0)], [.int i, .ref 0], (q_kL S c n))) 2 (fun _ _ => rfl) ?_
  refine q_Ru_rsT (g2 := (36, [(4, .int i), (3, .ref 270), (2, .ref 236), (1, .ref 64), (0, .ref 0)], [.int (xs (i.toNatClampNeg))], (q_kL S c n))) rfl rfl hx0 ?_
  refine q_Ru_seg (g2 := (39, [(4, .int i), (3, .ref 270), (2, .ref 236), (1, .ref 64), (0, .ref 0)], [.int ((xs (i.toNatClampNeg)) &&& 63)], (q_kL S c n))) 2 (fun _ _ => rfl) ?_
  rw [hv]
  refine q_Ru_seg (g2 := (746, [(4, .int i), (3, .ref 270), (2, .ref 236), (1, .ref 64), (0, .ref 0)], [.ref 64], (q_kL S c n))) 2 (fun _ _ => rfl) ?_
  refine q_Ru_call (v := (some (.int (dz_X46_64 (q_vw 172 0 206 S))))) (h2 := (q_kL S c n)) rfl rfl ?_ ?_
  · exact (q_emXLp rfl (fun _ => rfl) (dzt_X46_64 z L xs (q_vw 172 0 206 S) c n)).le (Nat.le_of_ble_eq_true rfl)
  show q_Ru _ _ _ (749, [(4, .int i), (3, .ref 270), (2, .ref 236), (1, .ref 64), (0, .ref 0)], [.int (dz_X46_64 (q_vw 172 0 206 S))], (q_kL S c n)) _
  refine q_Ru_seg (g2 := (751, [(4, .int i), (3, .ref 270), (2, .ref 236), (1, .ref 64), (0, .ref 0)], [.ref 236], (q_kL S c n))) 2 (fun _ _ => rfl) ?_
  refine q_Ru_call (v := (some (.int r0.2))) (h2 := (q_kL (q_pt 34 0 172 0 S r0.1) c n)) rfl rfl ?_ ?_
  · exact (q_emML rfl (fun _ => rfl) ((q_cE (φ := (q_oIM c n)) er0 (dzt_M240_64 (q_vw 34 172 0 S) c n)).tb q_TB0_le)).le (Nat.le_of_ble_eq_true rfl)
  show q_Ru _ _ _ (754, [(4, .int i), (3, .ref 270), (2, .ref 236), (1, .ref 64), (0, .ref 0)], [.int r0.2], (q_kL (q_pt 34 0 172 0 S r0.1) c n)) _
  refine q_Ru_seg (g2 := (23, [(4, .int (i + 4)), (3, .ref 270), (2, .ref 236), (1, .ref 64), (0, .ref 0)], [], (q_kL (q_pt 34 0 172 0 S r0.1) c n))) 4 (fun _ _ => rfl) ?_
  exact q_Ru_xt (q_xt_mk (q_mn1 0 rfl (q_mn1 1 rfl (q_mn1 2 rfl (q_mn1 3 rfl (q_mn1 4 rfl q_mn0))))) rfl) h
set_option maxHeartbeats 4000000 in
theorem q_lw19 (z L : Nat) (xs : Nat → Int32) (S : q_S) (c n : Nat) (i : Int32) (hx0 : q_in i L = true) (hx1 : q_in (i + 1) L = true) (hx2 : q_in (i + 2) L = true) (hx3 : q_in (i + 3) L = true) (hi : decide (Int32.ofNat L - 4 < i) = false) (hv : xs i.toNatClampNeg &&& 63 = 19) (r0 : q_S × Int32) (er0 : dz_M241_64 (q_vw 34 172 0 S) = r0) {o : q_Out} (h : q_Ru (q_TBs z L xs) 20 376 (23, [(4, .int (i + 4)), (3, .ref 270), (2, .ref 236), (1, .ref 64), (0, .ref 0)], [], (q_kL (q_pt 34 0 172 0 S r0.1) c n)) o) : q_Ru (q_TBs z L xs) 20 376 (23, [(4, .int i), (3, .ref 270), (2, .ref 236), (1, .ref 64), (0, .ref 0)], [], (q_kL S c n)) o := by
  refine q_Ru_seg (g2 := (29, [(4, .int i), (3, .ref 270), (2, .ref 236), (1, .ref 64), (0, .ref 0)], [.int ((Int32.ofNat L) - 4), .int i], (q_kL S c n))) 5 (fun _ _ => rfl) ?_
  refine q_Ru_rsF (g2 := (32, [(4, .int i), (3, .ref 270), (2, .ref 236), (1, .ref 64), (0, .ref 0)], [], (q_kL S c n))) rfl rfl hi ?_
  refine q_Ru_seg (g2 := (35, [(4, .int i), (3, .ref 270), (2, .ref 236), (1, .ref 64), (0, .ref 0)], [.int i, .ref 0], (q_kL S c n))) 2 (fun _ _ => rfl) ?_
  refine q_Ru_rsT (g2 := (36, [(4, .int i), (3, .ref 270), (2, .ref 236), (1, .ref 64), (0, .ref 0)], [.int (xs (i.toNatClampNeg))], (q_kL S c n))) rfl rfl hx0 ?_
  refine q_Ru_seg (g2 := (39, [(4, .int i), (3, .ref 270), (2, .ref 236), (1, .ref 64), (0, .ref 0)], [.int ((xs (i.toNatClampNeg)) &&& 63)], (q_kL S c n))) 2 (fun _ _ => rfl) ?_
  rw [hv]
  refine q_Ru_seg (g2 := (759, [(4, .int i), (3, .ref 270), (2, .ref 236), (1, .ref 64), (0, .ref 0)], [.ref 64], (q_kL S c n))) 2 (fun _ _ => rfl) ?_
  refine q_Ru_call (v := (some (.int (dz_X47_64 (q_vw 172 0 206 S))))) (h2 := (q_kL S c n)) rfl rfl ?_ ?_
  · exact (q_emXLp rfl (fun _ => rfl) (dzt_X47_64 z L xs (q_vw 172 0 206 S) c n)).le (Nat.le_of_ble_eq_true rfl)
  show q_Ru _ _ _ (762, [(4, .int i), (3, .ref 270), (2, .ref 236), (1, .ref 64), (0, .ref 0)], [.int (dz_X47_64 (q_vw 172 0 206 S))], (q_kL S c n)) _
  refine q_Ru_seg (g2 := (764, [(4, .int i), (3, .ref 270), (2, .ref 236), (1, .ref 64), (0, .ref 0)], [.ref 236], (q_kL S c n))) 2 (fun _ _ => rfl) ?_
  refine q_Ru_call (v := (some (.int r0.2))) (h2 := (q_kL (q_pt 34 0 172 0 S r0.1) c n)) rfl rfl ?_ ?_
  · exact (q_emML rfl (fun _ => rfl) ((q_cE (φ := (q_oIM c n)) er0 (dzt_M241_64 (q_vw 34 172 0 S) c n)).tb q_TB0_le)).le (Nat.le_of_ble_eq_true rfl)
  show q_Ru _ _ _ (767, [(4, .int i), (3, .ref 270), (2, .ref 236), (1, .ref 64), (0, .ref 0)], [.int r0.2], (q_kL (q_pt 34 0 172 0 S r0.1) c n)) _
  refine q_Ru_seg (g2 := (23, [(4, .int (i + 4)), (3, .ref 270), (2, .ref 236), (1, .ref 64), (0, .ref 0)], [], (q_kL (q_pt 34 0 172 0 S r0.1) c n))) 4 (fun _ _ => rfl) ?_
  exact q_Ru_xt (q_xt_mk (q_mn1 0 rfl (q_mn1 1 rfl (q_mn1 2 rfl (q_mn1 3 rfl (q_mn1 4 rfl q_mn0))))) rfl) h
set_option maxHeartbeats 4000000 in
theorem q_lw20 (z L : Nat) (xs : Nat → Int32) (S : q_S) (c n : Nat) (i : Int32) (hx0 : q_in i L = true) (hx1 : q_in (i + 1) L = true) (hx2 : q_in (i + 2) L = true) (hx3 : q_in (i + 3) L = true) (hi : decide (Int32.ofNat L - 4 < i) = false) (hv : xs i.toNatClampNeg &&& 63 = 20) (r0 : Bool) (er0 : dz_X48_64 (q_vw 172 0 206 S) = some r0) (r1 : q_S × Bool) (er1 : dz_M242_64 (q_vw 34 172 0 S) = some r1) {o : q_Out} (h : q_Ru (q_TBs z L xs) 20 376 (23, [(4, .int (i + 4)), (3, .ref 270), (2, .ref 236), (1, .ref 64), (0, .ref 0)], [], (q_kL (q_pt 34 0 172 0 S r1.1) c n)) o) : q_Ru (q_TBs z L xs) 20 376 (23, [(4, .int i), (3, .ref 270), (2, .ref 236), (1, .ref 64), (0, .ref 0)], [], (q_kL S c n)) o := by
  refine q_Ru_seg (g2 := (29, [(4, .int i), (3, .ref 270), (2, .ref 236), (1, .ref 64), (0, .ref 0)], [.int ((Int32.ofNat L) - 4), .int i], (q_kL S c n))) 5 (fun _ _ => rfl) ?_
  refine q_Ru_rsF (g2 := (32, [(4, .int i), (3, .ref 270), (2, .ref 236), (1, .ref 64), (0, .ref 0)], [], (q_kL S c n))) rfl rfl hi ?_
  refine q_Ru_seg (g2 := (35, [(4, .int i), (3, .ref 270), (2, .ref 236), (1, .ref 64), (0, .ref 0)], [.int i, .ref 0], (q_kL S c n))) 2 (fun _ _ => rfl) ?_
  refine q_Ru_rsT (g2 := (36, [(4, .int i), (3, .ref 270), (2, .ref 236), (1, .ref 64), (0, .ref 0)], [.int (xs (i.toNatClampNeg))], (q_kL S c n))) rfl rfl hx0 ?_
  refine q_Ru_seg (g2 := (39, [(4, .int i), (3, .ref 270), (2, .ref 236), (1, .ref 64), (0, .ref 0)], [.int ((xs (i.toNatClampNeg)) &&& 63)], (q_kL S c n))) 2 (fun _ _ => rfl) ?_
  rw [hv]
  refine q_Ru_seg (g2 := (772, [(4, .int i), (3, .ref 270), (2, .ref 236), (1, .ref 64), (0, .ref 0)], [.ref 64], (q_kL S c n))) 2 (fun _ _ => rfl) ?_
  refine q_Ru_call (v := (some (.int (q_b r0)))) (h2 := (q_kL S c n)) rfl rfl ?_ ?_
  · exact (q_emXLp rfl (fun _ => rfl) (dzt_X48_64 z L xs (q_vw 172 0 206 S) c n r0 er0)).le (Nat.le_of_ble_eq_true rfl)
  show q_Ru _ _ _ (775, [(4, .int i), (3, .ref 270), (2, .ref 236), (1, .ref 64), (0, .ref 0)], [.int (q_b r0)], (q_kL S c n)) _
  refine q_Ru_seg (g2 := (777, [(4, .int i), (3, .ref 270), (2, .ref 236), (1, .ref 64), (0, .ref 0)], [.ref 236], (q_kL S c n))) 2 (fun _ _ => rfl) ?_
  refine q_Ru_call (v := (some (.int (q_b r1.2)))) (h2 := (q_kL (q_pt 34 0 172 0 S r1.1) c n)) rfl rfl ?_ ?_
  · exact (q_emML rfl (fun _ => rfl) ((dzt_M242_64 (q_vw 34 172 0 S) c n r1 er1).tb q_TB0_le)).le (Nat.le_of_ble_eq_true rfl)
  show q_Ru _ _ _ (780, [(4, .int i), (3, .ref 270), (2, .ref 236), (1, .ref 64), (0, .ref 0)], [.int (q_b r1.2)], (q_kL (q_pt 34 0 172 0 S r1.1) c n)) _
  refine q_Ru_seg (g2 := (23, [(4, .int (i + 4)), (3, .ref 270), (2, .ref 236), (1, .ref 64), (0, .ref 0)], [], (q_kL (q_pt 34 0 172 0 S r1.1) c n))) 4 (fun _ _ => rfl) ?_
  exact q_Ru_xt (q_xt_mk (q_mn1 0 rfl (q_mn1 1 rfl (q_mn1 2 rfl (q_mn1 3 rfl (q_mn1 4 rfl q_mn0))))) rfl) h
set_option maxHeartbeats 4000000 in
theorem q_lw21 (z L : Nat) (xs : Nat → Int32) (S : q_S) (c n : Nat) (i : Int32) (hx0 : q_in i L = true) (hx1 : q_in (i + 1) L = true) (hx2 : q_in (i + 2) L = true) (hx3 : q_in (i + 3) L = true) (hi : decide (Int32.ofNat L - 4 < i) = false) (hv : xs i.toNatClampNeg &&& 63 = 21) (r0 : q_S × Int32 × Nat) (er0 : dz_X13_64_236 (q_vw 172 0 206 S) (xs ((i + 1).toNatClampNeg)) = r0) (r1 : q_S × Int32) (er1 : dz_M243_64 (q_vw 34 172 0 (q_pt 172 1 0 206 S r0.1)) (xs ((i + 1).toNatClampNeg)) = some r1) {o : q_Out} (h : q_Ru (q_TBs z L xs) 20 376 (23, [(4, .int (i + 4)), (3, .ref 270), (2, .ref 236), (1, .ref 64), (0, .ref 0)], [], (q_kL (q_pt 34 0 172 0 (q_pt 172 1 0 206 S r0.1) r1.1) (c + r0.2.2) (n + 6 * r0.2.2))) o) : q_Ru (q_TBs z L xs) 20 376 (23, [(4, .int i), (3, .ref 270), (2, .ref 236), (1, .ref 64), (0, .ref 0)], [], (q_kL S c n)) o := by
  refine q_Ru_seg (g2 := (29, [(4, .int i), (3, .ref 270), (2, .ref 236), (1, .ref 64), (0, .ref 0)], [.int ((Int32.ofNat L) - 4), .int i], (q_kL S c n))) 5 (fun _ _ => rfl) ?_
  refine q_Ru_rsF (g2 := (32, [(4, .int i), (3, .ref 270), (2, .ref 236), (1, .ref 64), (0, .ref 0)], [], (q_kL S c n))) rfl rfl hi ?_
  refine q_Ru_seg (g2 := (35, [(4, .int i), (3, .ref 270), (2, .ref 236), (1, .ref 64), (0, .ref 0)], [.int i, .ref 0], (q_kL S c n))) 2 (fun _ _ => rfl) ?_
  refine q_Ru_rsT (g2 := (36, [(4, .int i), (3, .ref 270), (2, .ref 236), (1, .ref 64), (0, .ref 0)], [.int (xs (i.toNatClampNeg))], (q_kL S c n))) rfl rfl hx0 ?_
  refine q_Ru_seg (g2 := (39, [(4, .int i), (3, .ref 270), (2, .ref 236), (1, .ref 64), (0, .ref 0)], [.int ((xs (i.toNatClampNeg)) &&& 63)], (q_kL S c n))) 2 (fun _ _ => rfl) ?_
  rw [hv]
  refine q_Ru_seg (g2 := (790, [(4, .int i), (3, .ref 270), (2, .ref 236), (1, .ref 64), (0, .ref 0)], [.int (i + 1), .ref 0, .ref 64], (q_kL S c n))) 6 (fun _ _ => rfl) ?_
  refine q_Ru_rsT (g2 := (791, [(4, .int i), (3, .ref 270), (2, .ref 236), (1, .ref 64), (0, .ref 0)], [.int (xs ((i + 1).toNatClampNeg)), .ref 64], (q_kL S c n))) rfl rfl hx1 ?_
  refine q_Ru_seg (g2 := (792, [(4, .int i), (3, .ref 270), (2, .ref 236), (1, .ref 64), (0, .ref 0)], [.ref 270, .int (xs ((i + 1).toNatClampNeg)), .ref 64], (q_kL S c n))) 1 (fun _ _ => rfl) ?_
  refine q_Ru_call (v := (some (.int r0.2.1))) (h2 := (q_kL (q_pt 172 1 0 206 S r0.1) (c + r0.2.2) (n + 6 * r0.2.2))) rfl rfl ?_ ?_
  · exact (q_emXL rfl (fun _ => rfl) (q_cE (φ := (q_oEX c n)) er0 (dzt_X13_64_236 z L xs (q_vw 172 0 206 S) c n (xs ((i + 1).toNatClampNeg))))).le (Nat.le_of_ble_eq_true rfl)
  show q_Ru _ _ _ (795, [(4, .int i), (3, .ref 270), (2, .ref 236), (1, .ref 64), (0, .ref 0)], [.int r0.2.1], (q_kL (q_pt 172 1 0 206 S r0.1) (c + r0.2.2) (n + 6 * r0.2.2))) _
  refine q_Ru_seg (g2 := (803, [(5, .int r0.2.1), (4, .int i), (3, .ref 270), (2, .ref 236), (1, .ref 64), (0, .ref 0)], [.int (i + 1), .ref 0, .ref 236], (q_kL (q_pt 172 1 0 206 S r0.1) (c + r0.2.2) (n + 6 * r0.2.2)))) 6 (fun _ _ => rfl) ?_
  refine q_Ru_rsT (g2 := (804, [(5, .int r0.2.1), (4, .int i), (3, .ref 270), (2, .ref 236), (1, .ref 64), (0, .ref 0)], [.int (xs ((i + 1).toNatClampNeg)), .ref 236], (q_kL (q_pt 172 1 0 206 S r0.1) (c + r0.2.2) (n + 6 * r0.2.2)))) rfl rfl hx1 ?_
  refine q_Ru_call (v := (some (.int r1.2))) (h2 := (q_kL (q_pt 34 0 172 0 (q_pt 172 1 0 206 S r0.1) r1.1) (c + r0.2.2) (n + 6 * r0.2.2))) rfl rfl ?_ ?_
  · exact (q_emML rfl (fun _ => rfl) ((dzt_M243_64 (q_vw 34 172 0 (q_pt 172 1 0 206 S r0.1)) (c + r0.2.2) (n + 6 * r0.2.2) (xs ((i + 1).toNatClampNeg)) r1 er1).tb q_TB0_le)).le (Nat.le_of_ble_eq_true rfl)
  show q_Ru _ _ _ (807, [(5, .int r0.2.1), (4, .int i), (3, .ref 270), (2, .ref 236), (1, .ref 64), (0, .ref 0)], [.int r1.2], (q_kL (q_pt 34 0 172 0 (q_pt 172 1 0 206 S r0.1) r1.1) (c + r0.2.2) (n + 6 * r0.2.2))) _
  refine q_Ru_seg (g2 := (23, [(4, .int (i + 4)), (6, .int r1.2), (5, .int r0.2.1), (3, .ref 270), (2, .ref 236), (1, .ref 64), (0, .ref 0)], [], (q_kL (q_pt 34 0 172 0 (q_pt 172 1 0 206 S r0.1) r1.1) (c + r0.2.2) (n + 6 * r0.2.2)))) 4 (fun _ _ => rfl) ?_
  exact q_Ru_xt (q_xt_mk (q_mn1 0 rfl (q_mn1 3 rfl (q_mn1 4 rfl (q_mn1 5 rfl (q_mn1 6 rfl q_mn0))))) rfl) h
set_option maxHeartbeats 4000000 in
theorem q_lw22 (z L : Nat) (xs : Nat → Int32) (S : q_S) (c n : Nat) (i : Int32) (hx0 : q_in i L = true) (hx1 : q_in (i + 1) L = true) (hx2 : q_in (i + 2) L = true) (hx3 : q_in (i + 3) L = true) (hi : decide (Int32.ofNat L - 4 < i) = false) (hv : xs i.toNatClampNeg &&& 63 = 22) (r0 : q_S × Int32 × Nat) (er0 : dz_X14_64_236 (q_vw 172 0 206 S) (xs ((i + 1).toNatClampNeg)) (xs ((i + 2).toNatClampNeg)) = r0) (r1 : q_S × Int32) (er1 : dz_M294_64 (q_vw 34 172 0 (q_pt 172 1 0 206 S r0.1)) (xs ((i + 1).toNatClampNeg)) (xs ((i + 2).toNatClampNeg)) = some r1) {o : q_Out} (h : q_Ru (q_TBs z L xs) 20 376 (23, [(4, .int (i + 4)), (3, .ref 270), (2, .ref 236), (1, .ref 64), (0, .ref 0)], [], (q_kL (q_pt 34 0 172 0 (q_pt 172 1 0 206 S r0.1) r1.1) (c + r0.2.2) (n + 6 * r0.2.2))) o) : q_Ru (q_TBs z L xs) 20 376 (23, [(4, .int i), (3, .ref 270), (2, .ref 236), (1, .ref 64), (0, .ref 0)], [], (q_kL S c n)) o := by
  refine q_Ru_seg (g2 := (29, [(4, .int i), (3, .ref 270), (2, .ref 236), (1, .ref 64), (0, .ref 0)], [.int ((Int32.ofNat L) - 4), .int i], (q_kL S c n))) 5 (fun _ _ => rfl) ?_
  refine q_Ru_rsF (g2 := (32, [(4, .int i), (3, .ref 270), (2, .ref 236), (1, .ref 64), (0, .ref 0)], [], (q_kL S c n))) rfl rfl hi ?_
  refine q_Ru_seg (g2 := (35, [(4, .int i), (3, .ref 270), (2, .ref 236), (1, .ref 64), (0, .ref 0)], [.int i, .ref 0], (q_kL S c n))) 2 (fun _ _ => rfl) ?_
  refine q_Ru_rsT (g2 := (36, [(4, .int i), (3, .ref 270), (2, .ref 236), (1, .ref 64), (0, .ref 0)], [.int (xs (i.toNatClampNeg))], (q_kL S c n))) rfl rfl hx0 ?_
  refine q_Ru_seg (g2 := (39, [(4, .int i), (3, .ref 270), (2, .ref 236), (1, .ref 64), (0, .ref 0)], [.int ((xs (i.toNatClampNeg)) &&& 63)], (q_kL S c n))) 2 (fun _ _ => rfl) ?_
  rw [hv]
  refine q_Ru_seg (g2 := (818, [(4, .int i), (3, .ref 270), (2, .ref 236), (1, .ref 64), (0, .ref 0)], [.int (i + 1), .ref 0, .ref 64], (q_kL S c n))) 6 (fun _ _ => rfl) ?_
  refine q_Ru_rsT (g2 := (819, [(4, .int i), (3, .ref 270), (2, .ref 236), (1, .ref 64), (0, .ref 0)], [.int (xs ((i + 1).toNatClampNeg)), .ref 64], (q_kL S c n))) rfl rfl hx1 ?_
  refine q_Ru_seg (g2 := (824, [(4, .int i), (3, .ref 270), (2, .ref 236), (1, .ref 64), (0, .ref 0)], [.int (i + 2), .ref 0, .int (xs ((i + 1).toNatClampNeg)), .ref 64], (q_kL S c n))) 4 (fun _ _ => rfl) ?_
  refine q_Ru_rsT (g2 := (825, [(4, .int i), (3, .ref 270), (2, .ref 236), (1, .ref 64), (0, .ref 0)], [.int (xs ((i + 2).toNatClampNeg)), .int (xs ((i + 1).toNatClampNeg)), .ref 64], (q_kL S c n))) rfl rfl hx2 ?_
  refine q_Ru_seg (g2 := (826, [(4, .int i), (3, .ref 270), (2, .ref 236), (1, .ref 64), (0, .ref 0)], [.ref 270, .int (xs ((i + 2).toNatClampNeg)), .int (xs ((i + 1).toNatClampNeg)), .ref 64], (q_kL S c n))) 1 (fun _ _ => rfl) ?_
  refine q_Ru_call (v := (some (.int r0.2.1))) (h2 := (q_kL (q_pt 172 1 0 206 S r0.1) (c + r0.2.2) (n + 6 * r0.2.2))) rfl rfl ?_ ?_
  · exact (q_emXL rfl (fun _ => rfl) (q_cE (φ := (q_oEX c n)) er0 (dzt_X14_64_236 z L xs (q_vw 172 0 206 S) c n (xs ((i + 1).toNatClampNeg)) (xs ((i + 2).toNatClampNeg))))).le (Nat.le_of_ble_eq_true rfl)
  show q_Ru _ _ _ (829, [(4, .int i), (3, .ref 270), (2, .ref 236), (1, .ref 64), (0, .ref 0)], [.int r0.2.1], (q_kL (q_pt 172 1 0 206 S r0.1) (c + r0.2.2) (n + 6 * r0.2.2))) _
  refine q_Ru_seg (g2 := (837, [(5, .int r0.2.1), (4, .int i), (3, .ref 270), (2, .ref 236), (1, .ref 64), (0, .ref 0)], [.int (i + 1), .ref 0, .ref 236], (q_kL (q_pt 172 1 0 206 S r0.1) (c + r0.2.2) (n + 6 * r0.2.2)))) 6 (fun _ _ => rfl) ?_
  refine q_Ru_rsT (g2 := (838, [(5, .int r0.2.1), (4, .int i), (3, .ref 270), (2, .ref 236), (1, .ref 64), (0, .ref 0)], [.int (xs ((i + 1).toNatClampNeg)), .ref 236], (q_kL (q_pt 172 1 0 206 S r0.1) (c + r0.2.2) (n + 6 * r0.2.2)))) rfl rfl hx1 ?_
  refine q_Ru_seg (g2 := (843, [(5, .int r0.2.1), (4, .int i), (3, .ref 270), (2, .ref 236), (1, .ref 64), (0, .ref 0)], [.int (i + 2), .ref 0, .int (xs ((i + 1).toNatClampNeg)), .ref 236], (q_kL (q_pt 172 1 0 206 S r0.1) (c + r0.2.2) (n + 6 * r0.2.2)))) 4 (fun _ _ => rfl) ?_
  refine q_Ru_rsT (g2 := (844, [(5, .int r0.2.1), (4, .int i), (3, .ref 270), (2, .ref 236), (1, .ref 64), (0, .ref 0)], [.int (xs ((i + 2).toNatClampNeg)), .int (xs ((i + 1).toNatClampNeg)), .ref 236], (q_kL (q_pt 172 1 0 206 S r0.1) (c + r0.2.2) (n + 6 * r0.2.2)))) rfl rfl hx2 ?_
  refine q_Ru_call (v := (some (.int r1.2))) (h2 := (q_kL (q_pt 34 0 172 0 (q_pt 172 1 0 206 S r0.1) r1.1) (c + r0.2.2) (n + 6 * r0.2.2))) rfl rfl ?_ ?_
  · exact (q_emML rfl (fun _ => rfl) ((dzt_M294_64 (q_vw 34 172 0 (q_pt 172 1 0 206 S r0.1)) (c + r0.2.2) (n + 6 * r0.2.2) (xs ((i + 1).toNatClampNeg)) (xs ((i + 2).toNatClampNeg)) r1 er1).tb q_TB0_le)).le (Nat.le_of_ble_eq_true rfl)
  show q_Ru _ _ _ (847, [(5, .int r0.2.1), (4, .int i), (3, .ref 270), (2, .ref 236), (1, .ref 64), (0, .ref 0)], [.int r1.2], (q_kL (q_pt 34 0 172 0 (q_pt 172 1 0 206 S r0.1) r1.1) (c + r0.2.2) (n + 6 * r0.2.2))) _
  refine q_Ru_seg (g2 := (23, [(4, .int (i + 4)), (6, .int r1.2), (5, .int r0.2.1), (3, .ref 270), (2, .ref 236), (1, .ref 64), (0, .ref 0)], [], (q_kL (q_pt 34 0 172 0 (q_pt 172 1 0 206 S r0.1) r1.1) (c + r0.2.2) (n + 6 * r0.2.2)))) 4 (fun _ _ => rfl) ?_
  exact q_Ru_xt (q_xt_mk (q_mn1 0 rfl (q_mn1 3 rfl (q_mn1 4 rfl (q_mn1 5 rfl (q_mn1 6 rfl q_mn0))))) rfl) h
set_option maxHeartbeats 4000000 in
theorem q_lw23tf (z L : Nat) (xs : Nat → Int32) (S : q_S) (c n : Nat) (i : Int32) (hx0 : q_in i L = true) (hx1 : q_in (i + 1) L = true) (hx2 : q_in (i + 2) L = true) (hx3 : q_in (i + 3) L = true) (hi : decide (Int32.ofNat L - 4 < i) = false) (hv : xs i.toNatClampNeg &&& 63 = 23) (r0 : q_S × Int32 × Nat) (er0 : dz_X15_64_236 (q_vw 172 0 206 S) (xs ((i + 1).toNatClampNeg)) (xs ((i + 2).toNatClampNeg)) = some r0) (r1 : q_S × Int32) (er1 : dz_M295_64 (q_vw 34 172 0 (q_pt 172 1 0 206 S r0.1)) (xs ((i + 1).toNatClampNeg)) (xs ((i + 2).toNatClampNeg)) = some r1) (hc0 : decide ((dz_M199_64 (q_vw 34 172 0 (q_pt 34 0 172 0 (q_pt 172 1 0 206 S r0.1) r1.1))) = r0.2.1) = true) (hc1 : decide (r0.2.1 = 0) = false) {o : q_Out} (h : q_Ru (q_TBs z L xs) 20 376 (23, [(4, .int (i + 4)), (3, .ref 270), (2, .ref 236), (1, .ref 64), (0, .ref 0)], [], (q_kL (q_pt 34 0 172 0 (q_pt 172 1 0 206 S r0.1) r1.1) (c + r0.2.2) (n + 6 * r0.2.2))) o) : q_Ru (q_TBs z L xs) 20 376 (23, [(4, .int i), (3, .ref 270), (2, .ref 236), (1, .ref 64), (0, .ref 0)], [], (q_kL S c n)) o := by
  refine q_Ru_seg (g2 := (29, [(4, .int i), (3, .ref 270), (2, .ref 236), (1, .ref 64), (0, .ref 0)], [.int ((Int32.ofNat L) - 4), .int i], (q_kL S c n))) 5 (fun _ _ => rfl) ?_
  refine q_Ru_rsF (g2 := (32, [(4, .int i), (3, .ref 270), (2, .ref 236), (1, .ref 64), (0, .ref 0)], [], (q_kL S c n))) rfl rfl hi ?_
  refine q_Ru_seg (g2 := (35, [(4, .int i), (3, .ref 270), (2, .ref 236), (1, .ref 64), (0, .ref 0)], [.int i, .ref 0], (q_kL S c n))) 2 (fun _ _ => rfl) ?_
  refine q_Ru_rsT (g2 := (36, [(4, .int i), (3, .ref 270), (2, .ref 236), (1, .ref 64), (0, .ref 0)], [.int (xs (i.toNatClampNeg))], (q_kL S c n))) rfl rfl hx0 ?_
  refine q_Ru_seg (g2 := (39, [(4, .int i), (3, .ref 270), (2, .ref 236), (1, .ref 64), (0, .ref 0)], [.int ((xs (i.toNatClampNeg)) &&& 63)], (q_kL S c n))) 2 (fun _ _ => rfl) ?_
  rw [hv]
  refine q_Ru_seg (g2 := (858, [(4, .int i), (3, .ref 270), (2, .ref 236), (1, .ref 64), (0, .ref 0)], [.int (i + 1), .ref 0, .ref 64], (q_kL S c n))) 6 (fun _ _ => rfl) ?_
  refine q_Ru_rsT (g2 := (859, [(4, .int i), (3, .ref 270), (2, .ref 236), (1, .ref 64), (0, .ref 0)], [.int (xs ((i + 1).toNatClampNeg)), .ref 64], (q_kL S c n))) rfl rfl hx1 ?_
  refine q_Ru_seg (g2 := (864, [(4, .int i), (3, .ref 270), (2, .ref 236), (1, .ref 64), (0, .ref 0)], [.int (i + 2), .ref 0, .int (xs ((i + 1).toNatClampNeg)), .ref 64], (q_kL S c n))) 4 (fun _ _ => rfl) ?_
  refine q_Ru_rsT (g2 := (865, [(4, .int i), (3, .ref 270), (2, .ref 236), (1, .ref 64), (0, .ref 0)], [.int (xs ((i + 2).toNatClampNeg)), .int (xs ((i + 1).toNatClampNeg)), .ref 64], (q_kL S c n))) rfl rfl hx2 ?_
  refine q_Ru_seg (g2 := (866, [(4, .int i), (3, .ref 270), (2, .ref 236), (1, .ref 64), (0, .ref 0)], [.ref 270, .int (xs ((i + 2).toNatClampNeg)), .int (xs ((i + 1).toNatClampNeg)), .ref 64], (q_kL S c n))) 1 (fun _ _ => rfl) ?_
  refine q_Ru_call (v := (some (.int r0.2.1))) (h2 := (q_kL (q_pt 172 1 0 206 S r0.1) (c + r0.2.2) (n + 6 * r0.2.2))) rfl rfl ?_ ?_
  · exact (q_emXL rfl (fun _ => rfl) (dzt_X15_64_236 z L xs (q_vw 172 0 206 S) c n (xs ((i + 1).toNatClampNeg)) (xs ((i + 2).toNatClampNeg)) r0 er0)).le (Nat.le_of_ble_eq_true rfl)
  show q_Ru _ _ _ (869, [(4, .int i), (3, .ref 270), (2, .ref 236), (1, .ref 64), (0, .ref 0)], [.int r0.2.1], (q_kL (q_pt 172 1 0 206 S r0.1) (c + r0.2.2) (n + 6 * r0.2.2))) _
  refine q_Ru_seg (g2 := (877, [(5, .int r0.2.1), (4, .int i), (3, .ref 270), (2, .ref 236), (1, .ref 64), (0, .ref 0)], [.int (i + 1), .ref 0, .ref 236], (q_kL (q_pt 172 1 0 206 S r0.1) (c + r0.2.2) (n + 6 * r0.2.2)))) 6 (fun _ _ => rfl) ?_
  refine q_Ru_rsT (g2 := (878, [(5, .int r0.2.1), (4, .int i), (3, .ref 270), (2, .ref 236), (1, .ref 64), (0, .ref 0)], [.int (xs ((i + 1).toNatClampNeg)), .ref 236], (q_kL (q_pt 172 1 0 206 S r0.1) (c + r0.2.2) (n + 6 * r0.2.2)))) rfl rfl hx1 ?_
  refine q_Ru_seg (g2 := (883, [(5, .int r0.2.1), (4, .int i), (3, .ref 270), (2, .ref 236), (1, .ref 64), (0, .ref 0)], [.int (i + 2), .ref 0, .int (xs ((i + 1).toNatClampNeg)), .ref 236], (q_kL (q_pt 172 1 0 206 S r0.1) (c + r0.2.2) (n + 6 * r0.2.2)))) 4 (fun _ _ => rfl) ?_
  refine q_Ru_rsT (g2 := (884, [(5, .int r0.2.1), (4, .int i), (3, .ref 270), (2, .ref 236), (1, .ref 64), (0, .ref 0)], [.int (xs ((i + 2).toNatClampNeg)), .int (xs ((i + 1).toNatClampNeg)), .ref 236], (q_kL (q_pt 172 1 0 206 S r0.1) (c + r0.2.2) (n + 6 * r0.2.2)))) rfl rfl hx2 ?_
  refine q_Ru_call (v := (some (.int r1.2))) (h2 := (q_kL (q_pt 34 0 172 0 (q_pt 172 1 0 206 S r0.1) r1.1) (c + r0.2.2) (n + 6 * r0.2.2))) rfl rfl ?_ ?_
  · exact (q_emML rfl (fun _ => rfl) ((dzt_M295_64 (q_vw 34 172 0 (q_pt 172 1 0 206 S r0.1)) (c + r0.2.2) (n + 6 * r0.2.2) (xs ((i + 1).toNatClampNeg)) (xs ((i + 2).toNatClampNeg)) r1 er1).tb q_TB0_le)).le (Nat.le_of_ble_eq_true rfl)
  show q_Ru _ _ _ (887, [(5, .int r0.2.1), (4, .int i), (3, .ref 270), (2, .ref 236), (1, .ref 64), (0, .ref 0)], [.int r1.2], (q_kL (q_pt 34 0 172 0 (q_pt 172 1 0 206 S r0.1) r1.1) (c + r0.2.2) (n + 6 * r0.2.2))) _
  refine q_Ru_seg (g2 := (890, [(6, .int r1.2), (5, .int r0.2.1), (4, .int i), (3, .ref 270), (2, .ref 236), (1, .ref 64), (0, .ref 0)], [.ref 236], (q_kL (q_pt 34 0 172 0 (q_pt 172 1 0 206 S r0.1) r1.1) (c + r0.2.2) (n + 6 * r0.2.2)))) 2 (fun _ _ => rfl) ?_
  refine q_Ru_call (v := (some (.int (dz_M199_64 (q_vw 34 172 0 (q_pt 34 0 172 0 (q_pt 172 1 0 206 S r0.1) r1.1)))))) (h2 := (q_kL (q_pt 34 0 172 0 (q_pt 172 1 0 206 S r0.1) r1.1) (c + r0.2.2) (n + 6 * r0.2.2))) rfl rfl ?_ ?_
  · exact (q_emMLp rfl (fun _ => rfl) ((dzt_M199_64 (q_vw 34 172 0 (q_pt 34 0 172 0 (q_pt 172 1 0 206 S r0.1) r1.1)) (c + r0.2.2) (n + 6 * r0.2.2)).tb q_TB0_le)).le (Nat.le_of_ble_eq_true rfl)
  show q_Ru _ _ _ (893, [(6, .int r1.2), (5, .int r0.2.1), (4, .int i), (3, .ref 270), (2, .ref 236), (1, .ref 64), (0, .ref 0)], [.int (dz_M199_64 (q_vw 34 172 0 (q_pt 34 0 172 0 (q_pt 172 1 0 206 S r0.1) r1.1)))], (q_kL (q_pt 34 0 172 0 (q_pt 172 1 0 206 S r0.1) r1.1) (c + r0.2.2) (n + 6 * r0.2.2))) _
  refine q_Ru_seg (g2 := (895, [(6, .int r1.2), (5, .int r0.2.1), (4, .int i), (3, .ref 270), (2, .ref 236), (1, .ref 64), (0, .ref 0)], [.int r0.2.1, .int (dz_M199_64 (q_vw 34 172 0 (q_pt 34 0 172 0 (q_pt 172 1 0 206 S r0.1) r1.1)))], (q_kL (q_pt 34 0 172 0 (q_pt 172 1 0 206 S r0.1) r1.1) (c + r0.2.2) (n + 6 * r0.2.2)))) 1 (fun _ _ => rfl) ?_
  refine q_Ru_rsT (g2 := (900, [(6, .int r1.2), (5, .int r0.2.1), (4, .int i), (3, .ref 270), (2, .ref 236), (1, .ref 64), (0, .ref 0)], [], (q_kL (q_pt 34 0 172 0 (q_pt 172 1 0 206 S r0.1) r1.1) (c + r0.2.2) (n + 6 * r0.2.2)))) rfl rfl hc0 ?_
  refine q_Ru_seg (g2 := (902, [(6, .int r1.2), (5, .int r0.2.1), (4, .int i), (3, .ref 270), (2, .ref 236), (1, .ref 64), (0, .ref 0)], [.int r0.2.1], (q_kL (q_pt 34 0 172 0 (q_pt 172 1 0 206 S r0.1) r1.1) (c + r0.2.2) (n + 6 * r0.2.2)))) 1 (fun _ _ => rfl) ?_
  refine q_Ru_rsT (g2 := (917, [(6, .int r1.2), (5, .int r0.2.1), (4, .int i), (3, .ref 270), (2, .ref 236), (1, .ref 64), (0, .ref 0)], [], (q_kL (q_pt 34 0 172 0 (q_pt 172 1 0 206 S r0.1) r1.1) (c + r0.2.2) (n + 6 * r0.2.2)))) rfl rfl (q_d_neF hc1) ?_
  refine q_Ru_seg (g2 := (23, [(4, .int (i + 4)), (6, .int r1.2), (5, .int r0.2.1), (3, .ref 270), (2, .ref 236), (1, .ref 64), (0, .ref 0)], [], (q_kL (q_pt 34 0 172 0 (q_pt 172 1 0 206 S r0.1) r1.1) (c + r0.2.2) (n + 6 * r0.2.2)))) 3 (fun _ _ => rfl) ?_
  exact q_Ru_xt (q_xt_mk (q_mn1 0 rfl (q_mn1 3 rfl (q_mn1 4 rfl (q_mn1 5 rfl (q_mn1 6 rfl q_mn0))))) rfl) h
set_option maxHeartbeats 4000000 in
theorem q_lw23ttt (z L : Nat) (xs : Nat → Int32) (S : q_S) (c n : Nat) (i : Int32) (hx0 : q_in i L = true) (hx1 : q_in (i + 1) L = true) (hx2 : q_in (i + 2) L = true) (hx3 : q_in (i + 3) L = true) (hi : decide (Int32.ofNat L - 4 < i) = false) (hv : xs i.toNatClampNeg &&& 63 = 23) (r0 : q_S × Int32 × Nat) (er0 : dz_X15_64_236 (q_vw 172 0 206 S) (xs ((i + 1).toNatClampNeg)) (xs ((i + 2).toNatClampNeg)) = some r0) (r1 : q_S × Int32) (er1 : dz_M295_64 (q_vw 34 172 0 (q_pt 172 1 0 206 S r0.1)) (xs ((i + 1).toNatClampNeg)) (xs ((i + 2).toNatClampNeg)) = some r1) (hc0 : decide ((dz_M199_64 (q_vw 34 172 0 (q_pt 34 0 172 0 (q_pt 172 1 0 206 S r0.1) r1.1))) = r0.2.1) = true) (hc1 : decide (r0.2.1 = 0) = true) (hc2 : decide (lg_cmp (((q_pt 34 0 172 0 (q_pt 172 1 0 206 S r0.1) r1.1).2.2 206) 0) r1.2.toInt64 = 0) = true) {o : q_Out} (h : q_Ru (q_TBs z L xs) 20 376 (23, [(4, .int (i + 4)), (3, .ref 270), (2, .ref 236), (1, .ref 64), (0, .ref 0)], [], (q_kL (q_pt 34 0 172 0 (q_pt 172 1 0 206 S r0.1) r1.1) (c + r0.2.2) (n + 6 * r0.2.2))) o) : q_Ru (q_TBs z L xs) 20 376 (23, [(4, .int i), (3, .ref 270), (2, .ref 236), (1, .ref 64), (0, .ref 0)], [], (q_kL S c n)) o := by
  refine q_Ru_seg (g2 := (29, [(4, .int i), (3, .ref 270), (2, .ref 236), (1, .ref 64), (0, .ref 0)], [.int ((Int32.ofNat L) - 4), .int i], (q_kL S c n))) 5 (fun _ _ => rfl) ?_
  refine q_Ru_rsF (g2 := (32, [(4, .int i), (3, .ref 270), (2, .ref 236), (1, .ref 64), (0, .ref 0)], [], (q_kL S c n))) rfl rfl hi ?_
  refine q_Ru_seg (g2 := (35, [(4, .int i), (3, .ref 270), (2, .ref 236), (1, .ref 64), (0, .ref 0)], [.int i, .ref 0], (q_kL S c n))) 2 (fun _ _ => rfl) ?_
  refine q_Ru_rsT (g2 := (36, [(4, .int i), (3, .ref 270), (2, .ref 236), (1, .ref 64), (0, .ref 0)], [.int (xs (i.toNatClampNeg))], (q_kL S c n))) rfl rfl hx0 ?_
  refine q_Ru_seg (g2 := (39, [(4, .int i), (3, .ref 270), (2, .ref 236), (1, .ref 64), (0, .ref 0)], [.int ((xs (i.toNatClampNeg)) &&& 63)], (q_kL S c n))) 2 (fun _ _ => rfl) ?_
  rw [hv]
  refine q_Ru_seg (g2 := (858, [(4, .int i), (3, .ref 270), (2, .ref 236), (1, .ref 64), (0, .ref 0)], [.int (i + 1), .ref 0, .ref 64], (q_kL S c n))) 6 (fun _ _ => rfl) ?_
  refine q_Ru_rsT (g2 := (859, [(4, .int i), (3, .ref 270), (2, .ref 236), (1, .ref 64), (0, .ref 0)], [.int (xs ((i + 1).toNatClampNeg)), .ref 64], (q_kL S c n))) rfl rfl hx1 ?_
  refine q_Ru_seg (g2 := (864, [(4, .int i), (3, .ref 270), (2, .ref 236), (1, .ref 64), (0, .ref 0)], [.int (i + 2), .ref 0, .int (xs ((i + 1).toNatClampNeg)), .ref 64], (q_kL S c n))) 4 (fun _ _ => rfl) ?_
  refine q_Ru_rsT (g2 := (865, [(4, .int i), (3, .ref 270), (2, .ref 236), (1, .ref 64), (0, .ref 0)], [.int (xs ((i + 2).toNatClampNeg)), .int (xs ((i + 1).toNatClampNeg)), .ref 64], (q_kL S c n))) rfl rfl hx2 ?_
  refine q_Ru_seg (g2 := (866, [(4, .int i), (3, .ref 270), (2, .ref 236), (1, .ref 64), (0, .ref 0)], [.ref 270, .int (xs ((i + 2).toNatClampNeg)), .int (xs ((i + 1).toNatClampNeg)), .ref 64], (q_kL S c n))) 1 (fun _ _ => rfl) ?_
  refine q_Ru_call (v := (some (.int r0.2.1))) (h2 := (q_kL (q_pt 172 1 0 206 S r0.1) (c + r0.2.2) (n + 6 * r0.2.2))) rfl rfl ?_ ?_
  · exact (q_emXL rfl (fun _ => rfl) (dzt_X15_64_236 z L xs (q_vw 172 0 206 S) c n (xs ((i + 1).toNatClampNeg)) (xs ((i + 2).toNatClampNeg)) r0 er0)).le (Nat.le_of_ble_eq_true rfl)
  show q_Ru _ _ _ (869, [(4, .int i), (3, .ref 270), (2, .ref 236), (1, .ref 64), (0, .ref 0)], [.int r0.2.1], (q_kL (q_pt 172 1 0 206 S r0.1) (c + r0.2.2) (n + 6 * r0.2.2))) _
  refine q_Ru_seg (g2 := (877, [(5, .int r0.2.1), (4, .int i), (3, .ref 270), (2, .ref 236), (1, .ref 64), (0, .ref 0)], [.int (i + 1), .ref 0, .ref 236], (q_kL (q_pt 172 1 0 206 S r0.1) (c + r0.2.2) (n + 6 * r0.2.2)))) 6 (fun _ _ => rfl) ?_
  refine q_Ru_rsT (g2 := (878, [(5, .int r0.2.1), (4, .int i), (3, .ref 270), (2, .ref 236), (1, .ref 64), (0, .ref 0)], [.int (xs ((i + 1).toNatClampNeg)), .ref 236], (q_kL (q_pt 172 1 0 206 S r0.1) (c + r0.2.2) (n + 6 * r0.2.2)))) rfl rfl hx1 ?_
  refine q_Ru_seg (g2 := (883, [(5, .int r0.2.1), (4, .int i), (3, .ref 270), (2, .ref 236), (1, .ref 64), (0, .ref 0)], [.int (i + 2), .ref 0, .int (xs ((i + 1).toNatClampNeg)), .ref 236], (q_kL (q_pt 172 1 0 206 S r0.1) (c + r0.2.2) (n + 6 * r0.2.2)))) 4 (fun _ _ => rfl) ?_
  refine q_Ru_rsT (g2 := (884, [(5, .int r0.2.1), (4, .int i), (3, .ref 270), (2, .ref 236), (1, .ref 64), (0, .ref 0)], [.int (xs ((i + 2).toNatClampNeg)), .int (xs ((i + 1).toNatClampNeg)), .ref 236], (q_kL (q_pt 172 1 0 206 S r0.1) (c + r0.2.2) (n + 6 * r0.2.2)))) rfl rfl hx2 ?_
  refine q_Ru_call (v := (some (.int r1.2))) (h2 := (q_kL (q_pt 34 0 172 0 (q_pt 172 1 0 206 S r0.1) r1.1) (c + r0.2.2) (n + 6 * r0.2.2))) rfl rfl ?_ ?_
  · exact (q_emML rfl (fun _ => rfl) ((dzt_M295_64 (q_vw 34 172 0 (q_pt 172 1 0 206 S r0.1)) (c + r0.2.2) (n + 6 * r0.2.2) (xs ((i + 1).toNatClampNeg)) (xs ((i + 2).toNatClampNeg)) r1 er1).tb q_TB0_le)).le (Nat.le_of_ble_eq_true rfl)
  show q_Ru _ _ _ (887, [(5, .int r0.2.1), (4, .int i), (3, .ref 270), (2, .ref 236), (1, .ref 64), (0, .ref 0)], [.int r1.2], (q_kL (q_pt 34 0 172 0 (q_pt 172 1 0 206 S r0.1) r1.1) (c + r0.2.2) (n + 6 * r0.2.2))) _
  refine q_Ru_seg (g2 := (890, [(6, .int r1.2), (5, .int r0.2.1), (4, .int i), (3, .ref 270), (2, .ref 236), (1, .ref 64), (0, .ref 0)], [.ref 236], (q_kL (q_pt 34 0 172 0 (q_pt 172 1 0 206 S r0.1) r1.1) (c + r0.2.2) (n + 6 * r0.2.2)))) 2 (fun _ _ => rfl) ?_
  refine q_Ru_call (v := (some (.int (dz_M199_64 (q_vw 34 172 0 (q_pt 34 0 172 0 (q_pt 172 1 0 206 S r0.1) r1.1)))))) (h2 := (q_kL (q_pt 34 0 172 0 (q_pt 172 1 0 206 S r0.1) r1.1) (c + r0.2.2) (n + 6 * r0.2.2))) rfl rfl ?_ ?_
  · exact (q_emMLp rfl (fun _ => rfl) ((dzt_M199_64 (q_vw 34 172 0 (q_pt 34 0 172 0 (q_pt 172 1 0 206 S r0.1) r1.1)) (c + r0.2.2) (n + 6 * r0.2.2)).tb q_TB0_le)).le (Nat.le_of_ble_eq_true rfl)
  show q_Ru _ _ _ (893, [(6, .int r1.2), (5, .int r0.2.1), (4, .int i), (3, .ref 270), (2, .ref 236), (1, .ref 64), (0, .ref 0)], [.int (dz_M199_64 (q_vw 34 172 0 (q_pt 34 0 172 0 (q_pt 172 1 0 206 S r0.1) r1.1)))], (q_kL (q_pt 34 0 172 0 (q_pt 172 1 0 206 S r0.1) r1.1) (c + r0.2.2) (n + 6 * r0.2.2))) _
  refine q_Ru_seg (g2 := (895, [(6, .int r1.2), (5, .int r0.2.1), (4, .int i), (3, .ref 270), (2, .ref 236), (1, .ref 64), (0, .ref 0)], [.int r0.2.1, .int (dz_M199_64 (q_vw 34 172 0 (q_pt 34 0 172 0 (q_pt 172 1 0 206 S r0.1) r1.1)))], (q_kL (q_pt 34 0 172 0 (q_pt 172 1 0 206 S r0.1) r1.1) (c + r0.2.2) (n + 6 * r0.2.2)))) 1 (fun _ _ => rfl) ?_
  refine q_Ru_rsT (g2 := (900, [(6, .int r1.2), (5, .int r0.2.1), (4, .int i), (3, .ref 270), (2, .ref 236), (1, .ref 64), (0, .ref 0)], [], (q_kL (q_pt 34 0 172 0 (q_pt 172 1 0 206 S r0.1) r1.1) (c + r0.2.2) (n + 6 * r0.2.2)))) rfl rfl hc0 ?_
  refine q_Ru_seg (g2 := (902, [(6, .int r1.2), (5, .int r0.2.1), (4, .int i), (3, .ref 270), (2, .ref 236), (1, .ref 64), (0, .ref 0)], [.int r0.2.1], (q_kL (q_pt 34 0 172 0 (q_pt 172 1 0 206 S r0.1) r1.1) (c + r0.2.2) (n + 6 * r0.2.2)))) 1 (fun _ _ => rfl) ?_
  refine q_Ru_rsF (g2 := (905, [(6, .int r1.2), (5, .int r0.2.1), (4, .int i), (3, .ref 270), (2, .ref 236), (1, .ref 64), (0, .ref 0)], [], (q_kL (q_pt 34 0 172 0 (q_pt 172 1 0 206 S r0.1) r1.1) (c + r0.2.2) (n + 6 * r0.2.2)))) rfl rfl (q_d_neT hc1) ?_
  refine q_Ru_seg (g2 := (912, [(6, .int r1.2), (5, .int r0.2.1), (4, .int i), (3, .ref 270), (2, .ref 236), (1, .ref 64), (0, .ref 0)], [.int (lg_cmp (((q_pt 34 0 172 0 (q_pt 172 1 0 206 S r0.1) r1.1).2.2 206) 0) r1.2.toInt64)], (q_kL (q_pt 34 0 172 0 (q_pt 172 1 0 206 S r0.1) r1.1) (c + r0.2.2) (n + 6 * r0.2.2)))) 6 (fun _ _ => rfl) ?_
  refine q_Ru_rsT (g2 := (917, [(6, .int r1.2), (5, .int r0.2.1), (4, .int i), (3, .ref 270), (2, .ref 236), (1, .ref 64), (0, .ref 0)], [], (q_kL (q_pt 34 0 172 0 (q_pt 172 1 0 206 S r0.1) r1.1) (c + r0.2.2) (n + 6 * r0.2.2)))) rfl rfl hc2 ?_
  refine q_Ru_seg (g2 := (23, [(4, .int (i + 4)), (6, .int r1.2), (5, .int r0.2.1), (3, .ref 270), (2, .ref 236), (1, .ref 64), (0, .ref 0)], [], (q_kL (q_pt 34 0 172 0 (q_pt 172 1 0 206 S r0.1) r1.1) (c + r0.2.2) (n + 6 * r0.2.2)))) 3 (fun _ _ => rfl) ?_
  exact q_Ru_xt (q_xt_mk (q_mn1 0 rfl (q_mn1 3 rfl (q_mn1 4 rfl (q_mn1 5 rfl (q_mn1 6 rfl q_mn0))))) rfl) h
set_option maxHeartbeats 4000000 in
theorem q_lw24 (z L : Nat) (xs : Nat → Int32) (S : q_S) (c n : Nat) (i : Int32) (hx0 : q_in i L = true) (hx1 : q_in (i + 1) L = true) (hx2 : q_in (i + 2) L = true) (hx3 : q_in (i + 3) L = true) (hi : decide (Int32.ofNat L - 4 < i) = false) (hv : xs i.toNatClampNeg &&& 63 = 24) (r0 : q_S × Int32 × Nat) (er0 : dz_X16_64_236 (q_vw 172 0 206 S) (xs ((i + 1).toNatClampNeg)) = r0) (r1 : q_S × Int32) (er1 : dz_M296_64 (q_vw 34 172 0 (q_pt 172 1 0 206 S r0.1)) (xs ((i + 1).toNatClampNeg)) = some r1) {o : q_Out} (h : q_Ru (q_TBs z L xs) 20 376 (23, [(4, .int (i + 4)), (3, .ref 270), (2, .ref 236), (1, .ref 64), (0, .ref 0)], [], (q_kL (q_pt 34 0 172 0 (q_pt 172 1 0 206 S r0.1) r1.1) (c + r0.2.2) (n + 6 * r0.2.2))) o) : q_Ru (q_TBs z L xs) 20 376 (23, [(4, .int i), (3, .ref 270), (2, .ref 236), (1, .ref 64), (0, .ref 0)], [], (q_kL S c n)) o := by
  refine q_Ru_seg (g2 := (29, [(4, .int i), (3, .ref 270), (2, .ref 236), (1, .ref 64), (0, .ref 0)], [.int ((Int32.ofNat L) - 4), .int i], (q_kL S c n))) 5 (fun _ _ => rfl) ?_
  refine q_Ru_rsF (g2 := (32, [(4, .int i), (3, .ref 270), (2, .ref 236), (1, .ref 64), (0, .ref 0)], [], (q_kL S c n))) rfl rfl hi ?_
  refine q_Ru_seg (g2 := (35, [(4, .int i), (3, .ref 270), (2, .ref 236), (1, .ref 64), (0, .ref 0)], [.int i, .ref 0], (q_kL S c n))) 2 (fun _ _ => rfl) ?_
  refine q_Ru_rsT (g2 := (36, [(4, .int i), (3, .ref 270), (2, .ref 236), (1, .ref 64), (0, .ref 0)], [.int (xs (i.toNatClampNeg))], (q_kL S c n))) rfl rfl hx0 ?_
  refine q_Ru_seg (g2 := (39, [(4, .int i), (3, .ref 270), (2, .ref 236), (1, .ref 64), (0, .ref 0)], [.int ((xs (i.toNatClampNeg)) &&& 63)], (q_kL S c n))) 2 (fun _ _ => rfl) ?_
  rw [hv]
  refine q_Ru_seg (g2 := (926, [(4, .int i), (3, .ref 270), (2, .ref 236), (1, .ref 64), (0, .ref 0)], [.int (i + 1), .ref 0, .ref 64], (q_kL S c n))) 6 (fun _ _ => rfl) ?_
  refine q_Ru_rsT (g2 := (927, [(4, .int i), (3, .ref 270), (2, .ref 236), (1, .ref 64), (0, .ref 0)], [.int (xs ((i + 1).toNatClampNeg)), .ref 64], (q_kL S c n))) rfl rfl hx1 ?_
  refine q_Ru_seg (g2 := (928, [(4, .int i), (3, .ref 270), (2, .ref 236), (1, .ref 64), (0, .ref 0)], [.ref 270, .int (xs ((i + 1).toNatClampNeg)), .ref 64], (q_kL S c n))) 1 (fun _ _ => rfl) ?_
  refine q_Ru_call (v := (some (.int r0.2.1))) (h2 := (q_kL (q_pt 172 1 0 206 S r0.1) (c + r0.2.2) (n + 6 * r0.2.2))) rfl rfl ?_ ?_
  · exact (q_emXL rfl (fun _ => rfl) (q_cE (φ := (q_oEX c n)) er0 (dzt_X16_64_236 z L xs (q_vw 172 0 206 S) c n (xs ((i + 1).toNatClampNeg))))).le (Nat.le_of_ble_eq_true rfl)
  show q_Ru _ _ _ (931, [(4, .int i), (3, .ref 270), (2, .ref 236), (1, .ref 64), (0, .ref 0)], [.int r0.2.1], (q_kL (q_pt 172 1 0 206 S r0.1) (c + r0.2.2) (n + 6 * r0.2.2))) _
  refine q_Ru_seg (g2 := (939, [(5, .int r0.2.1), (4, .int i), (3, .ref 270), (2, .ref 236), (1, .ref 64), (0, .ref 0)], [.int (i + 1), .ref 0, .ref 236], (q_kL (q_pt 172 1 0 206 S r0.1) (c + r0.2.2) (n + 6 * r0.2.2)))) 6 (fun _ _ => rfl) ?_
  refine q_Ru_rsT (g2 := (940, [(5, .int r0.2.1), (4, .int i), (3, .ref 270), (2, .ref 236), (1, .ref 64), (0, .ref 0)], [.int (xs ((i + 1).toNatClampNeg)), .ref 236], (q_kL (q_pt 172 1 0 206 S r0.1) (c + r0.2.2) (n + 6 * r0.2.2)))) rfl rfl hx1 ?_
  refine q_Ru_call (v := (some (.int r1.2))) (h2 := (q_kL (q_pt 34 0 172 0 (q_pt 172 1 0 206 S r0.1) r1.1) (c + r0.2.2) (n + 6 * r0.2.2))) rfl rfl ?_ ?_
  · exact (q_emML rfl (fun _ => rfl) ((dzt_M296_64 (q_vw 34 172 0 (q_pt 172 1 0 206 S r0.1)) (c + r0.2.2) (n + 6 * r0.2.2) (xs ((i + 1).toNatClampNeg)) r1 er1).tb q_TB0_le)).le (Nat.le_of_ble_eq_true rfl)
  show q_Ru _ _ _ (943, [(5, .int r0.2.1), (4, .int i), (3, .ref 270), (2, .ref 236), (1, .ref 64), (0, .ref 0)], [.int r1.2], (q_kL (q_pt 34 0 172 0 (q_pt 172 1 0 206 S r0.1) r1.1) (c + r0.2.2) (n + 6 * r0.2.2))) _
  refine q_Ru_seg (g2 := (23, [(4, .int (i + 4)), (6, .int r1.2), (5, .int r0.2.1), (3, .ref 270), (2, .ref 236), (1, .ref 64), (0, .ref 0)], [], (q_kL (q_pt 34 0 172 0 (q_pt 172 1 0 206 S r0.1) r1.1) (c + r0.2.2) (n + 6 * r0.2.2)))) 4 (fun _ _ => rfl) ?_
  exact q_Ru_xt (q_xt_mk (q_mn1 0 rfl (q_mn1 3 rfl (q_mn1 4 rfl (q_mn1 5 rfl (q_mn1 6 rfl q_mn0))))) rfl) h
set_option maxHeartbeats 4000000 in
theorem q_lw25 (z L : Nat) (xs : Nat → Int32) (S : q_S) (c n : Nat) (i : Int32) (hx0 : q_in i L = true) (hx1 : q_in (i + 1) L = true) (hx2 : q_in (i + 2) L = true) (hx3 : q_in (i + 3) L = true) (hi : decide (Int32.ofNat L - 4 < i) = false) (hv : xs i.toNatClampNeg &&& 63 = 25) (r0 : q_S × Int32 × Nat) (er0 : dz_X17_64_236 (q_vw 172 0 206 S) (xs ((i + 1).toNatClampNeg)) = r0) (r1 : q_S × Int32) (er1 : dz_M297_64 (q_vw 34 172 0 (q_pt 172 1 0 206 S r0.1)) (xs ((i + 1).toNatClampNeg)) = some r1) {o : q_Out} (h : q_Ru (q_TBs z L xs) 20 376 (23, [(4, .int (i + 4)), (3, .ref 270), (2, .ref 236), (1, .ref 64), (0, .ref 0)], [], (q_kL (q_pt 34 0 172 0 (q_pt 172 1 0 206 S r0.1) r1.1) (c + r0.2.2) (n + 6 * r0.2.2))) o) : q_Ru (q_TBs z L xs) 20 376 (23, [(4, .int i), (3, .ref 270), (2, .ref 236), (1, .ref 64), (0, .ref 0)], [], (q_kL S c n)) o := by
  refine q_Ru_seg (g2 := (29, [(4, .int i), (3, .ref 270), (2, .ref 236), (1, .ref 64), (0, .ref 0)], [.int ((Int32.ofNat L) - 4), .int i], (q_kL S c n))) 5 (fun _ _ => rfl) ?_
  refine q_Ru_rsF (g2 := (32, [(4, .int i), (3, .ref 270), (2, .ref 236), (1, .ref 64), (0, .ref 0)], [], (q_kL S c n))) rfl rfl hi ?_
  refine q_Ru_seg (g2 := (35, [(4, .int i), (3, .ref 270), (2, .ref 236), (1, .ref 64), (0, .ref 0)], [.int i, .ref 0], (q_kL S c n))) 2 (fun _ _ => rfl) ?_
  refine q_Ru_rsT (g2 := (36, [(4, .int i), (3, .ref 270), (2, .ref 236), (1, .ref 64), (0, .ref 0)], [.int (xs (i.toNatClampNeg))], (q_kL S c n))) rfl rfl hx0 ?_
  refine q_Ru_seg (g2 := (39, [(4, .int i), (3, .ref 270), (2, .ref 236), (1, .ref 64), (0, .ref 0)], [.int ((xs (i.toNatClampNeg)) &&& 63)], (q_kL S c n))) 2 (fun _ _ => rfl) ?_
  rw [hv]
  refine q_Ru_seg (g2 := (954, [(4, .int i), (3, .ref 270), (2, .ref 236), (1, .ref 64), (0, .ref 0)], [.int (i + 1), .ref 0, .ref 64], (q_kL S c n))) 6 (fun _ _ => rfl) ?_
  refine q_Ru_rsT (g2 := (955, [(4, .int i), (3, .ref 270), (2, .ref 236), (1, .ref 64), (0, .ref 0)], [.int (xs ((i + 1).toNatClampNeg)), .ref 64], (q_kL S c n))) rfl rfl hx1 ?_
  refine q_Ru_seg (g2 := (956, [(4, .int i), (3, .ref 270), (2, .ref 236), (1, .ref 64), (0, .ref 0)], [.ref 270, .int (xs ((i + 1).toNatClampNeg)), .ref 64], (q_kL S c n))) 1 (fun _ _ => rfl) ?_
  refine q_Ru_call (v := (some (.int r0.2.1))) (h2 := (q_kL (q_pt 172 1 0 206 S r0.1) (c + r0.2.2) (n + 6 * r0.2.2))) rfl rfl ?_ ?_
  · exact (q_emXL rfl (fun _ => rfl) (q_cE (φ := (q_oEX c n)) er0 (dzt_X17_64_236 z L xs (q_vw 172 0 206 S) c n (xs ((i + 1).toNatClampNeg))))).le (Nat.le_of_ble_eq_true rfl)
  show q_Ru _ _ _ (959, [(4, .int i), (3, .ref 270), (2, .ref 236), (1, .ref 64), (0, .ref 0)], [.int r0.2.1], (q_kL (q_pt 172 1 0 206 S r0.1) (c + r0.2.2) (n + 6 * r0.2.2))) _
  refine q_Ru_seg (g2 := (967, [(5, .int r0.2.1), (4, .int i), (3, .ref 270), (2, .ref 236), (1, .ref 64), (0, .ref 0)], [.int (i + 1), .ref 0, .ref 236], (q_kL (q_pt 172 1 0 206 S r0.1) (c + r0.2.2) (n + 6 * r0.2.2)))) 6 (fun _ _ => rfl) ?_
  refine q_Ru_rsT (g2 := (968, [(5, .int r0.2.1), (4, .int i), (3, .ref 270), (2, .ref 236), (1, .ref 64), (0, .ref 0)], [.int (xs ((i + 1).toNatClampNeg)), .ref 236], (q_kL (q_pt 172 1 0 206 S r0.1) (c + r0.2.2) (n + 6 * r0.2.2)))) rfl rfl hx1 ?_
  refine q_Ru_call (v := (some (.int r1.2))) (h2 := (q_kL (q_pt 34 0 172 0 (q_pt 172 1 0 206 S r0.1) r1.1) (c + r0.2.2) (n + 6 * r0.2.2))) rfl rfl ?_ ?_
  · exact (q_emML rfl (fun _ => rfl) ((dzt_M297_64 (q_vw 34 172 0 (q_pt 172 1 0 206 S r0.1)) (c + r0.2.2) (n + 6 * r0.2.2) (xs ((i + 1).toNatClampNeg)) r1 er1).tb q_TB0_le)).le (Nat.le_of_ble_eq_true rfl)
  show q_Ru _ _ _ (971, [(5, .int r0.2.1), (4, .int i), (3, .ref 270), (2, .ref 236), (1, .ref 64), (0, .ref 0)], [.int r1.2], (q_kL (q_pt 34 0 172 0 (q_pt 172 1 0 206 S r0.1) r1.1) (c + r0.2.2) (n + 6 * r0.2.2))) _
  refine q_Ru_seg (g2 := (23, [(4, .int (i + 4)), (6, .int r1.2), (5, .int r0.2.1), (3, .ref 270), (2, .ref 236), (1, .ref 64), (0, .ref 0)], [], (q_kL (q_pt 34 0 172 0 (q_pt 172 1 0 206 S r0.1) r1.1) (c + r0.2.2) (n + 6 * r0.2.2)))) 4 (fun _ _ => rfl) ?_
  exact q_Ru_xt (q_xt_mk (q_mn1 0 rfl (q_mn1 3 rfl (q_mn1 4 rfl (q_mn1 5 rfl (q_mn1 6 rfl q_mn0))))) rfl) h
set_option maxHeartbeats 4000000 in
theorem q_lw26t (z L : Nat) (xs : Nat → Int32) (S : q_S) (c n : Nat) (i : Int32) (hx0 : q_in i L = true) (hx1 : q_in (i + 1) L = true) (hx2 : q_in (i + 2) L = true) (hx3 : q_in (i + 3) L = true) (hi : decide (Int32.ofNat L - 4 < i) = false) (hv : xs i.toNatClampNeg &&& 63 = 26) (r0 : q_S × Int32 × Nat) (er0 : dz_X18_64_f_236 (q_vw 172 0 206 S) (xs ((i + 1).toNatClampNeg)) (xs ((i + 2).toNatClampNeg)) = some r0) (r1 : q_S × Bool) (er1 : dz_M298_64 (q_vw 34 172 0 (q_pt 172 1 0 206 S r0.1)) (xs ((i + 1).toNatClampNeg)) (xs ((i + 2).toNatClampNeg)) 0 = some r1) (hc0 : decide (xs ((i + 3).toNatClampNeg) = 0) = true) {o : q_Out} (h : q_Ru (q_TBs z L xs) 20 376 (23, [(4, .int (i + 4)), (3, .ref 270), (2, .ref 236), (1, .ref 64), (0, .ref 0)], [], (q_kL (q_pt 34 0 172 0 (q_pt 172 1 0 206 S r0.1) r1.1) (c + r0.2.2) (n + 6 * r0.2.2))) o) : q_Ru (q_TBs z L xs) 20 376 (23, [(4, .int i), (3, .ref 270), (2, .ref 236), (1, .ref 64), (0, .ref 0)], [], (q_kL S c n)) o := by
  refine q_Ru_seg (g2 := (29, [(4, .int i), (3, .ref 270), (2, .ref 236), (1, .ref 64), (0, .ref 0)], [.int ((Int32.ofNat L) - 4), .int i], (q_kL S c n))) 5 (fun _ _ => rfl) ?_
  refine q_Ru_rsF (g2 := (32, [(4, .int i), (3, .ref 270), (2, .ref 236), (1, .ref 64), (0, .ref 0)], [], (q_kL S c n))) rfl rfl hi ?_
  refine q_Ru_seg (g2 := (35, [(4, .int i), (3, .ref 270), (2, .ref 236), (1, .ref 64), (0, .ref 0)], [.int i, .ref 0], (q_kL S c n))) 2 (fun _ _ => rfl) ?_
  refine q_Ru_rsT (g2 := (36, [(4, .int i), (3, .ref 270), (2, .ref 236), (1, .ref 64), (0, .ref 0)], [.int (xs (i.toNatClampNeg))], (q_kL S c n))) rfl rfl hx0 ?_
  refine q_Ru_seg (g2 := (39, [(4, .int i), (3, .ref 270), (2, .ref 236), (1, .ref 64), (0, .ref 0)], [.int ((xs (i.toNatClampNeg)) &&& 63)], (q_kL S c n))) 2 (fun _ _ => rfl) ?_
  rw [hv]
  refine q_Ru_seg (g2 := (982, [(4, .int i), (3, .ref 270), (2, .ref 236), (1, .ref 64), (0, .ref 0)], [.int (i + 1), .ref 0, .ref 64], (q_kL S c n))) 6 (fun _ _ => rfl) ?_
  refine q_Ru_rsT (g2 := (983, [(4, .int i), (3, .ref 270), (2, .ref 236), (1, .ref 64), (0, .ref 0)], [.int (xs ((i + 1).toNatClampNeg)), .ref 64], (q_kL S c n))) rfl rfl hx1 ?_
  refine q_Ru_seg (g2 := (988, [(4, .int i), (3, .ref 270), (2, .ref 236), (1, .ref 64), (0, .ref 0)], [.int (i + 2), .ref 0, .int (xs ((i + 1).toNatClampNeg)), .ref 64], (q_kL S c n))) 4 (fun _ _ => rfl) ?_
  refine q_Ru_rsT (g2 := (989, [(4, .int i), (3, .ref 270), (2, .ref 236), (1, .ref 64), (0, .ref 0)], [.int (xs ((i + 2).toNatClampNeg)), .int (xs ((i + 1).toNatClampNeg)), .ref 64], (q_kL S c n))) rfl rfl hx2 ?_
  refine q_Ru_seg (g2 := (994, [(4, .int i), (3, .ref 270), (2, .ref 236), (1, .ref 64), (0, .ref 0)], [.int (i + 3), .ref 0, .int (xs ((i + 2).toNatClampNeg)), .int (xs ((i + 1).toNatClampNeg)), .ref 64], (q_kL S c n))) 4 (fun _ _ => rfl) ?_
  refine q_Ru_rsT (g2 := (995, [(4, .int i), (3, .ref 270), (2, .ref 236), (1, .ref 64), (0, .ref 0)], [.int (xs ((i + 3).toNatClampNeg)), .int (xs ((i + 2).toNatClampNeg)), .int (xs ((i + 1).toNatClampNeg)), .ref 64], (q_kL S c n))) rfl rfl hx3 ?_
  refine q_Ru_rsT (g2 := (1002, [(4, .int i), (3, .ref 270), (2, .ref 236), (1, .ref 64), (0, .ref 0)], [.int (xs ((i + 2).toNatClampNeg)), .int (xs ((i + 1).toNatClampNeg)), .ref 64], (q_kL S c n))) rfl rfl hc0 ?_
  refine q_Ru_seg (g2 := (1004, [(4, .int i), (3, .ref 270), (2, .ref 236), (1, .ref 64), (0, .ref 0)], [.ref 270, .int 0, .int (xs ((i + 2).toNatClampNeg)), .int (xs ((i + 1).toNatClampNeg)), .ref 64], (q_kL S c n))) 2 (fun _ _ => rfl) ?_
  refine q_Ru_call (v := (some (.int r0.2.1))) (h2 := (q_kL (q_pt 172 1 0 206 S r0.1) (c + r0.2.2) (n + 6 * r0.2.2))) rfl rfl ?_ ?_
  · exact (q_emXL rfl (fun _ => rfl) (dzt_X18_64_f_236 z L xs (q_vw 172 0 206 S) c n (xs ((i + 1).toNatClampNeg)) (xs ((i + 2).toNatClampNeg)) r0 er0)).le (Nat.le_of_ble_eq_true rfl)
  show q_Ru _ _ _ (1007, [(4, .int i), (3, .ref 270), (2, .ref 236), (1, .ref 64), (0, .ref 0)], [.int r0.2.1], (q_kL (q_pt 172 1 0 206 S r0.1) (c + r0.2.2) (n + 6 * r0.2.2))) _
  refine q_Ru_seg (g2 := (1015, [(5, .int r0.2.1), (4, .int i), (3, .ref 270), (2, .ref 236), (1, .ref 64), (0, .ref 0)], [.int (i + 1), .ref 0, .ref 236], (q_kL (q_pt 172 1 0 206 S r0.1) (c + r0.2.2) (n + 6 * r0.2.2)))) 6 (fun _ _ => rfl) ?_
  refine q_Ru_rsT (g2 := (1016, [(5, .int r0.2.1), (4, .int i), (3, .ref 270), (2, .ref 236), (1, .ref 64), (0, .ref 0)], [.int (xs ((i + 1).toNatClampNeg)), .ref 236], (q_kL (q_pt 172 1 0 206 S r0.1) (c + r0.2.2) (n + 6 * r0.2.2)))) rfl rfl hx1 ?_
  refine q_Ru_seg (g2 := (1021, [(5, .int r0.2.1), (4, .int i), (3, .ref 270), (2, .ref 236), (1, .ref 64), (0, .ref 0)], [.int (i + 2), .ref 0, .int (xs ((i + 1).toNatClampNeg)), .ref 236], (q_kL (q_pt 172 1 0 206 S r0.1) (c + r0.2.2) (n + 6 * r0.2.2)))) 4 (fun _ _ => rfl) ?_
  refine q_Ru_rsT (g2 := (1022, [(5, .int r0.2.1), (4, .int i), (3, .ref 270), (2, .ref 236), (1, .ref 64), (0, .ref 0)], [.int (xs ((i + 2).toNatClampNeg)), .int (xs ((i + 1).toNatClampNeg)), .ref 236], (q_kL (q_pt 172 1 0 206 S r0.1) (c + r0.2.2) (n + 6 * r0.2.2)))) rfl rfl hx2 ?_
  refine q_Ru_seg (g2 := (1027, [(5, .int r0.2.1), (4, .int i), (3, .ref 270), (2, .ref 236), (1, .ref 64), (0, .ref 0)], [.int (i + 3), .ref 0, .int (xs ((i + 2).toNatClampNeg)), .int (xs ((i + 1).toNatClampNeg)), .ref 236], (q_kL (q_pt 172 1 0 206 S r0.1) (c + r0.2.2) (n + 6 * r0.2.2)))) 4 (fun _ _ => rfl) ?_
  refine q_Ru_rsT (g2 := (1028, [(5, .int r0.2.1), (4, .int i), (3, .ref 270), (2, .ref 236), (1, .ref 64), (0, .ref 0)], [.int (xs ((i + 3).toNatClampNeg)), .int (xs ((i + 2).toNatClampNeg)), .int (xs ((i + 1).toNatClampNeg)), .ref 236], (q_kL (q_pt 172 1 0 206 S r0.1) (c + r0.2.2) (n + 6 * r0.2.2)))) rfl rfl hx3 ?_
  refine q_Ru_rsT (g2 := (1035, [(5, .int r0.2.1), (4, .int i), (3, .ref 270), (2, .ref 236), (1, .ref 64), (0, .ref 0)], [.int (xs ((i + 2).toNatClampNeg)), .int (xs ((i + 1).toNatClampNeg)), .ref 236], (q_kL (q_pt 172 1 0 206 S r0.1) (c + r0.2.2) (n + 6 * r0.2.2)))) rfl rfl hc0 ?_
  refine q_Ru_seg (g2 := (1036, [(5, .int r0.2.1), (4, .int i), (3, .ref 270), (2, .ref 236), (1, .ref 64), (0, .ref 0)], [.int 0, .int (xs ((i + 2).toNatClampNeg)), .int (xs ((i + 1).toNatClampNeg)), .ref 236], (q_kL (q_pt 172 1 0 206 S r0.1) (c + r0.2.2) (n + 6 * r0.2.2)))) 1 (fun _ _ => rfl) ?_
  refine q_Ru_call (v := (some (.int (q_b r1.2)))) (h2 := (q_kL (q_pt 34 0 172 0 (q_pt 172 1 0 206 S r0.1) r1.1) (c + r0.2.2) (n + 6 * r0.2.2))) rfl rfl ?_ ?_
  · exact (q_emML rfl (fun _ => rfl) ((dzt_M298_64 (q_vw 34 172 0 (q_pt 172 1 0 206 S r0.1)) (c + r0.2.2) (n + 6 * r0.2.2) (xs ((i + 1).toNatClampNeg)) (xs ((i + 2).toNatClampNeg)) 0 r1 er1).tb q_TB0_le)).le (Nat.le_of_ble_eq_true rfl)
  show q_Ru _ _ _ (1039, [(5, .int r0.2.1), (4, .int i), (3, .ref 270), (2, .ref 236), (1, .ref 64), (0, .ref 0)], [.int (q_b r1.2)], (q_kL (q_pt 34 0 172 0 (q_pt 172 1 0 206 S r0.1) r1.1) (c + r0.2.2) (n + 6 * r0.2.2))) _
  refine q_Ru_seg (g2 := (23, [(4, .int (i + 4)), (6, .int (q_b r1.2)), (5, .int r0.2.1), (3, .ref 270), (2, .ref 236), (1, .ref 64), (0, .ref 0)], [], (q_kL (q_pt 34 0 172 0 (q_pt 172 1 0 206 S r0.1) r1.1) (c + r0.2.2) (n + 6 * r0.2.2)))) 4 (fun _ _ => rfl) ?_
  exact q_Ru_xt (q_xt_mk (q_mn1 0 rfl (q_mn1 3 rfl (q_mn1 4 rfl (q_mn1 5 rfl (q_mn1 6 rfl q_mn0))))) rfl) h
set_option maxHeartbeats 4000000 in
theorem q_lw26f (z L : Nat) (xs : Nat → Int32) (S : q_S) (c n : Nat) (i : Int32) (hx0 : q_in i L = true) (hx1 : q_in (i + 1) L = true) (hx2 : q_in (i + 2) L = true) (hx3 : q_in (i + 3) L = true) (hi : decide (Int32.ofNat L - 4 < i) = false) (hv : xs i.toNatClampNeg &&& 63 = 26) (r0 : q_S × Int32 × Nat) (er0 : dz_X18_64_t_236 (q_vw 172 0 206 S) (xs ((i + 1).toNatClampNeg)) (xs ((i + 2).toNatClampNeg)) = some r0) (r1 : q_S × Bool) (er1 : dz_M298_64 (q_vw 34 172 0 (q_pt 172 1 0 206 S r0.1)) (xs ((i + 1).toNatClampNeg)) (xs ((i + 2).toNatClampNeg)) 1 = some r1) (hc0 : decide (xs ((i + 3).toNatClampNeg) = 0) = false) {o : q_Out} (h : q_Ru (q_TBs z L xs) 20 376 (23, [(4, .int (i + 4)), (3, .ref 270), (2, .ref 236), (1, .ref 64), (0, .ref 0)], [], (q_kL (q_pt 34 0 172 0 (q_pt 172 1 0 206 S r0.1) r1.1) (c + r0.2.2) (n + 6 * r0.2.2))) o) : q_Ru (q_TBs z L xs) 20 376 (23, [(4, .int i), (3, .ref 270), (2, .ref 236), (1, .ref 64), (0, .ref 0)], [], (q_kL S c n)) o := by
  refine q_Ru_seg (g2 := (29, [(4, .int i), (3, .ref 270), (2, .ref 236), (1, .ref 64), (0, .ref 0)], [.int ((Int32.ofNat L) - 4), .int i], (q_kL S c n))) 5 (fun _ _ => rfl) ?_
  refine q_Ru_rsF (g2 := (32, [(4, .int i), (3, .ref 270), (2, .ref 236), (1, .ref 64), (0, .ref 0)], [], (q_kL S c n))) rfl rfl hi ?_
  refine q_Ru_seg (g2 := (35, [(4, .int i), (3, .ref 270), (2, .ref 236), (1, .ref 64), (0, .ref 0)], [.int i, .ref 0], (q_kL S c n))) 2 (fun _ _ => rfl) ?_
  refine q_Ru_rsT (g2 := (36, [(4, .int i), (3, .ref 270), (2, .ref 236), (1, .ref 64), (0, .ref 0)], [.int (xs (i.toNatClampNeg))], (q_kL S c n))) rfl rfl hx0 ?_
  refine q_Ru_seg (g2 := (39, [(4, .int i), (3, .ref 270), (2, .ref 236), (1, .ref 64), (0, .ref 0)], [.int ((xs (i.toNatClampNeg)) &&& 63)], (q_kL S c n))) 2 (fun _ _ => rfl) ?_
  rw [hv]
  refine q_Ru_seg (g2 := (982, [(4, .int i), (3, .ref 270), (2, .ref 236), (1, .ref 64), (0, .ref 0)], [.int (i + 1), .ref 0, .ref 64], (q_kL S c n))) 6 (fun _ _ => rfl) ?_
  refine q_Ru_rsT (g2 := (983, [(4, .int i), (3, .ref 270), (2, .ref 236), (1, .ref 64), (0, .ref 0)], [.int (xs ((i + 1).toNatClampNeg)), .ref 64], (q_kL S c n))) rfl rfl hx1 ?_
  refine q_Ru_seg (g2 := (988, [(4, .int i), (3, .ref 270), (2, .ref 236), (1, .ref 64), (0, .ref 0)], [.int (i + 2), .ref 0, .int (xs ((i + 1).toNatClampNeg)), .ref 64], (q_kL S c n))) 4 (fun _ _ => rfl) ?_
  refine q_Ru_rsT (g2 := (989, [(4, .int i), (3, .ref 270), (2, .ref 236), (1, .ref 64), (0, .ref 0)], [.int (xs ((i + 2).toNatClampNeg)), .int (xs ((i + 1).toNatClampNeg)), .ref 64], (q_kL S c n))) rfl rfl hx2 ?_
  refine q_Ru_seg (g2 := (994, [(4, .int i), (3, .ref 270), (2, .ref 236), (1, .ref 64), (0, .ref 0)], [.int (i + 3), .ref 0, .int (xs ((i + 2).toNatClampNeg)), .int (xs ((i + 1).toNatClampNeg)), .ref 64], (q_kL S c n))) 4 (fun _ _ => rfl) ?_
  refine q_Ru_rsT (g2 := (995, [(4, .int i), (3, .ref 270), (2, .ref 236), (1, .ref 64), (0, .ref 0)], [.int (xs ((i + 3).toNatClampNeg)), .int (xs ((i + 2).toNatClampNeg)), .int (xs ((i + 1).toNatClampNeg)), .ref 64], (q_kL S c n))) rfl rfl hx3 ?_
  refine q_Ru_rsF (g2 := (998, [(4, .int i), (3, .ref 270), (2, .ref 236), (1, .ref 64), (0, .ref 0)], [.int (xs ((i + 2).toNatClampNeg)), .int (xs ((i + 1).toNatClampNeg)), .ref 64], (q_kL S c n))) rfl rfl hc0 ?_
  refine q_Ru_seg (g2 := (1004, [(4, .int i), (3, .ref 270), (2, .ref 236), (1, .ref 64), (0, .ref 0)], [.ref 270, .int 1, .int (xs ((i + 2).toNatClampNeg)), .int (xs ((i + 1).toNatClampNeg)), .ref 64], (q_kL S c n))) 3 (fun _ _ => rfl) ?_
  refine q_Ru_call (v := (some (.int r0.2.1))) (h2 := (q_kL (q_pt 172 1 0 206 S r0.1) (c + r0.2.2) (n + 6 * r0.2.2))) rfl rfl ?_ ?_
  · exact (q_emXL rfl (fun _ => rfl) (dzt_X18_64_t_236 z L xs (q_vw 172 0 206 S) c n (xs ((i + 1).toNatClampNeg)) (xs ((i + 2).toNatClampNeg)) r0 er0)).le (Nat.le_of_ble_eq_true rfl)
  show q_Ru _ _ _ (1007, [(4, .int i), (3, .ref 270), (2, .ref 236), (1, .ref 64), (0, .ref 0)], [.int r0.2.1], (q_kL (q_pt 172 1 0 206 S r0.1) (c + r0.2.2) (n + 6 * r0.2.2))) _
  refine q_Ru_seg (g2 := (1015, [(5, .int r0.2.1), (4, .int i), (3, .ref 270), (2, .ref 236), (1, .ref 64), (0, .ref 0)], [.int (i + 1), .ref 0, .ref 236], (q_kL (q_pt 172 1 0 206 S r0.1) (c + r0.2.2) (n + 6 * r0.2.2)))) 6 (fun _ _ => rfl) ?_
  refine q_Ru_rsT (g2 := (1016, [(5, .int r0.2.1), (4, .int i), (3, .ref 270), (2, .ref 236), (1, .ref 64), (0, .ref 0)], [.int (xs ((i + 1).toNatClampNeg)), .ref 236], (q_kL (q_pt 172 1 0 206 S r0.1) (c + r0.2.2) (n + 6 * r0.2.2)))) rfl rfl hx1 ?_
  refine q_Ru_seg (g2 := (1021, [(5, .int r0.2.1), (4, .int i), (3, .ref 270), (2, .ref 236), (1, .ref 64), (0, .ref 0)], [.int (i + 2), .ref 0, .int (xs ((i + 1).toNatClampNeg)), .ref 236], (q_kL (q_pt 172 1 0 206 S r0.1) (c + r0.2.2) (n + 6 * r0.2.2)))) 4 (fun _ _ => rfl) ?_
  refine q_Ru_rsT (g2 := (1022, [(5, .int r0.2.1), (4, .int i), (3, .ref 270), (2, .ref 236), (1, .ref 64), (0, .ref 0)], [.int (xs ((i + 2).toNatClampNeg)), .int (xs ((i + 1).toNatClampNeg)), .ref 236], (q_kL (q_pt 172 1 0 206 S r0.1) (c + r0.2.2) (n + 6 * r0.2.2)))) rfl rfl hx2 ?_
  refine q_Ru_seg (g2 := (1027, [(5, .int r0.2.1), (4, .int i), (3, .ref 270), (2, .ref 236), (1, .ref 64), (0, .ref 0)], [.int (i + 3), .ref 0, .int (xs ((i + 2).toNatClampNeg)), .int (xs ((i + 1).toNatClampNeg)), .ref 236], (q_kL (q_pt 172 1 0 206 S r0.1) (c + r0.2.2) (n + 6 * r0.2.2)))) 4 (fun _ _ => rfl) ?_
  refine q_Ru_rsT (g2 := (1028, [(5, .int r0.2.1), (4, .int i), (3, .ref 270), (2, .ref 236), (1, .ref 64), (0, .ref 0)], [.int (xs ((i + 3).toNatClampNeg)), .int (xs ((i + 2).toNatClampNeg)), .int (xs ((i + 1).toNatClampNeg)), .ref 236], (q_kL (q_pt 172 1 0 206 S r0.1) (c + r0.2.2) (n + 6 * r0.2.2)))) rfl rfl hx3 ?_
  refine q_Ru_rsF (g2 := (1031, [(5, .int r0.2.1), (4, .int i), (3, .ref 270), (2, .ref 236), (1, .ref 64), (0, .ref 0)], [.int (xs ((i + 2).toNatClampNeg)), .int (xs ((i + 1).toNatClampNeg)), .ref 236], (q_kL (q_pt 172 1 0 206 S r0.1) (c + r0.2.2) (n + 6 * r0.2.2)))) rfl rfl hc0 ?_
  refine q_Ru_seg (g2 := (1036, [(5, .int r0.2.1), (4, .int i), (3, .ref 270), (2, .ref 236), (1, .ref 64), (0, .ref 0)], [.int 1, .int (xs ((i + 2).toNatClampNeg)), .int (xs ((i + 1).toNatClampNeg)), .ref 236], (q_kL (q_pt 172 1 0 206 S r0.1) (c + r0.2.2) (n + 6 * r0.2.2)))) 2 (fun _ _ => rfl) ?_
  refine q_Ru_call (v := (some (.int (q_b r1.2)))) (h2 := (q_kL (q_pt 34 0 172 0 (q_pt 172 1 0 206 S r0.1) r1.1) (c + r0.2.2) (n + 6 * r0.2.2))) rfl rfl ?_ ?_
  · exact (q_emML rfl (fun _ => rfl) ((dzt_M298_64 (q_vw 34 172 0 (q_pt 172 1 0 206 S r0.1)) (c + r0.2.2) (n + 6 * r0.2.2) (xs ((i + 1).toNatClampNeg)) (xs ((i + 2).toNatClampNeg)) 1 r1 er1).tb q_TB0_le)).le (Nat.le_of_ble_eq_true rfl)
  show q_Ru _ _ _ (1039, [(5, .int r0.2.1), (4, .int i), (3, .ref 270), (2, .ref 236), (1, .ref 64), (0, .ref 0)], [.int (q_b r1.2)], (q_kL (q_pt 34 0 172 0 (q_pt 172 1 0 206 S r0.1) r1.1) (c + r0.2.2) (n + 6 * r0.2.2))) _
  refine q_Ru_seg (g2 := (23, [(4, .int (i + 4)), (6, .int (q_b r1.2)), (5, .int r0.2.1), (3, .ref 270), (2, .ref 236), (1, .ref 64), (0, .ref 0)], [], (q_kL (q_pt 34 0 172 0 (q_pt 172 1 0 206 S r0.1) r1.1) (c + r0.2.2) (n + 6 * r0.2.2)))) 4 (fun _ _ => rfl) ?_
  exact q_Ru_xt (q_xt_mk (q_mn1 0 rfl (q_mn1 3 rfl (q_mn1 4 rfl (q_mn1 5 rfl (q_mn1 6 rfl q_mn0))))) rfl) h
set_option maxHeartbeats 4000000 in
theorem q_lw27 (z L : Nat) (xs : Nat → Int32) (S : q_S) (c n : Nat) (i : Int32) (hx0 : q_in i L = true) (hx1 : q_in (i + 1) L = true) (hx2 : q_in (i + 2) L = true) (hx3 : q_in (i + 3) L = true) (hi : decide (Int32.ofNat L - 4 < i) = false) (hv : xs i.toNatClampNeg &&& 63 = 27) (r0 : q_S × Int32 × Nat) (er0 : dz_X19_64_236 (q_vw 172 0 206 S) (xs ((i + 1).toNatClampNeg)) = r0) (r1 : q_S × Int32) (er1 : dz_M299_64 (q_vw 34 172 0 (q_pt 172 1 0 206 S r0.1)) (xs ((i + 1).toNatClampNeg)) = some r1) {o : q_Out} (h : q_Ru (q_TBs z L xs) 20 376 (23, [(4, .int (i + 4)), (3, .ref 270), (2, .ref 236), (1, .ref 64), (0, .ref 0)], [], (q_kL (q_pt 34 0 172 0 (q_pt 172 1 0 206 S r0.1) r1.1) (c + r0.2.2) (n + 6 * r0.2.2))) o) : q_Ru (q_TBs z L xs) 20 376 (23, [(4, .int i), (3, .ref 270), (2, .ref 236), (1, .ref 64), (0, .ref 0)], [], (q_kL S c n)) o := by
  refine q_Ru_seg (g2 := (29, [(4, .int i), (3, .ref 270), (2, .ref 236), (1, .ref 64), (0, .ref 0)], [.int ((Int32.ofNat L) - 4), .int i], (q_kL S c n))) 5 (fun _ _ => rfl) ?_
  refine q_Ru_rsF (g2 := (32, [(4, .int i), (3, .ref 270), (2, .ref 236), (1, .ref 64), (0, .ref 0)], [], (q_kL S c n))) rfl rfl hi ?_
  refine q_Ru_seg (g2 := (35, [(4, .int i), (3, .ref 270), (2, .ref 236), (1, .ref 64), (0, .ref 0)], [.int i, .ref 0], (q_kL S c n))) 2 (fun _ _ => rfl) ?_
  refine q_Ru_rsT (g2 := (36, [(4, .int i), (3, .ref 270), (2, .ref 236), (1, .ref 64), (0, .ref 0)], [.int (xs (i.toNatClampNeg))], (q_kL S c n))) rfl rfl hx0 ?_
  refine q_Ru_seg (g2 := (39, [(4, .int i), (3, .ref 270), (2, .ref 236), (1, .ref 64), (0, .ref 0)], [.int ((xs (i.toNatClampNeg)) &&& 63)], (q_kL S c n))) 2 (fun _ _ => rfl) ?_
  rw [hv]
  refine q_Ru_seg (g2 := (1050, [(4, .int i), (3, .ref 270), (2, .ref 236), (1, .ref 64), (0, .ref 0)], [.int (i + 1), .ref 0, .ref 64], (q_kL S c n))) 6 (fun _ _ => rfl) ?_
  refine q_Ru_rsT (g2 := (1051, [(4, .int i), (3, .ref 270), (2, .ref 236), (1, .ref 64), (0, .ref 0)], [.int (xs ((i + 1).toNatClampNeg)), .ref 64], (q_kL S c n))) rfl rfl hx1 ?_
  refine q_Ru_seg (g2 := (1052, [(4, .int i), (3, .ref 270), (2, .ref 236), (1, .ref 64), (0, .ref 0)], [.ref 270, .int (xs ((i + 1).toNatClampNeg)), .ref 64], (q_kL S c n))) 1 (fun _ _ => rfl) ?_
  refine q_Ru_call (v := (some (.int r0.2.1))) (h2 := (q_kL (q_pt 172 1 0 206 S r0.1) (c + r0.2.2) (n + 6 * r0.2.2))) rfl rfl ?_ ?_
  · exact (q_emXL rfl (fun _ => rfl) (q_cE (φ := (q_oEX c n)) er0 (dzt_X19_64_236 z L xs (q_vw 172 0 206 S) c n (xs ((i + 1).toNatClampNeg))))).le (Nat.le_of_ble_eq_true rfl)
  show q_Ru _ _ _ (1055, [(4, .int i), (3, .ref 270), (2, .ref 236), (1, .ref 64), (0, .ref 0)], [.int r0.2.1], (q_kL (q_pt 172 1 0 206 S r0.1) (c + r0.2.2) (n + 6 * r0.2.2))) _
  refine q_Ru_seg (g2 := (1063, [(5, .int r0.2.1), (4, .int i), (3, .ref 270), (2, .ref 236), (1, .ref 64), (0, .ref 0)], [.int (i + 1), .ref 0, .ref 236], (q_kL (q_pt 172 1 0 206 S r0.1) (c + r0.2.2) (n + 6 * r0.2.2)))) 6 (fun _ _ => rfl) ?_
  refine q_Ru_rsT (g2 := (1064, [(5, .int r0.2.1), (4, .int i), (3, .ref 270), (2, .ref 236), (1, .ref 64), (0, .ref 0)], [.int (xs ((i + 1).toNatClampNeg)), .ref 236], (q_kL (q_pt 172 1 0 206 S r0.1) (c + r0.2.2) (n + 6 * r0.2.2)))) rfl rfl hx1 ?_
  refine q_Ru_call (v := (some (.int r1.2))) (h2 := (q_kL (q_pt 34 0 172 0 (q_pt 172 1 0 206 S r0.1) r1.1) (c + r0.2.2) (n + 6 * r0.2.2))) rfl rfl ?_ ?_
  · exact (q_emML rfl (fun _ => rfl) ((dzt_M299_64 (q_vw 34 172 0 (q_pt 172 1 0 206 S r0.1)) (c + r0.2.2) (n + 6 * r0.2.2) (xs ((i + 1).toNatClampNeg)) r1 er1).tb q_TB0_le)).le (Nat.le_of_ble_eq_true rfl)
  show q_Ru _ _ _ (1067, [(5, .int r0.2.1), (4, .int i), (3, .ref 270), (2, .ref 236), (1, .ref 64), (0, .ref 0)], [.int r1.2], (q_kL (q_pt 34 0 172 0 (q_pt 172 1 0 206 S r0.1) r1.1) (c + r0.2.2) (n + 6 * r0.2.2))) _
  refine q_Ru_seg (g2 := (23, [(4, .int (i + 4)), (6, .int r1.2), (5, .int r0.2.1), (3, .ref 270), (2, .ref 236), (1, .ref 64), (0, .ref 0)], [], (q_kL (q_pt 34 0 172 0 (q_pt 172 1 0 206 S r0.1) r1.1) (c + r0.2.2) (n + 6 * r0.2.2)))) 4 (fun _ _ => rfl) ?_
  exact q_Ru_xt (q_xt_mk (q_mn1 0 rfl (q_mn1 3 rfl (q_mn1 4 rfl (q_mn1 5 rfl (q_mn1 6 rfl q_mn0))))) rfl) h
set_option maxHeartbeats 4000000 in
theorem q_lw28 (z L : Nat) (xs : Nat → Int32) (S : q_S) (c n : Nat) (i : Int32) (hx0 : q_in i L = true) (hx1 : q_in (i + 1) L = true) (hx2 : q_in (i + 2) L = true) (hx3 : q_in (i + 3) L = true) (hi : decide (Int32.ofNat L - 4 < i) = false) (hv : xs i.toNatClampNeg &&& 63 = 28) (r0 : q_S × Int32 × Nat) (er0 : dz_X20_64_236 (q_vw 172 0 206 S) (xs ((i + 1).toNatClampNeg)) = some r0) (r1 : q_S × Int32) (er1 : dz_M300_64 (q_vw 34 172 0 (q_pt 172 1 0 206 S r0.1)) (xs ((i + 1).toNatClampNeg)) = r1) {o : q_Out} (h : q_Ru (q_TBs z L xs) 20 376 (23, [(4, .int (i + 4)), (3, .ref 270), (2, .ref 236), (1, .ref 64), (0, .ref 0)], [], (q_kL (q_pt 34 0 172 0 (q_pt 172 1 0 206 S r0.1) r1.1) (c + r0.2.2) (n + 6 * r0.2.2))) o) : q_Ru (q_TBs z L xs) 20 376 (23, [(4, .int i), (3, .ref 270), (2, .ref 236), (1, .ref 64), (0, .ref 0)], [], (q_kL S c n)) o := by
  refine q_Ru_seg (g2 := (29, [(4, .int i), (3, .ref 270), (2, .ref 236), (1, .ref 64), (0, .ref 0)], [.int ((Int32.ofNat L) - 4), .int i], (q_kL S c n))) 5 (fun _ _ => rfl) ?_
  refine q_Ru_rsF (g2 := (32, [(4, .int i), (3, .ref 270), (2, .ref 236), (1, .ref 64), (0, .ref 0)], [], (q_kL S c n))) rfl rfl hi ?_
  refine q_Ru_seg (g2 := (35, [(4, .int i), (3, .ref 270), (2, .ref 236), (1, .ref 64), (0, .ref 0)], [.int i, .ref 0], (q_kL S c n))) 2 (fun _ _ => rfl) ?_
  refine q_Ru_rsT (g2 := (36, [(4, .int i), (3, .ref 270), (2, .ref 236), (1, .ref 64), (0, .ref 0)], [.int (xs (i.toNatClampNeg))], (q_kL S c n))) rfl rfl hx0 ?_
  refine q_Ru_seg (g2 := (39, [(4, .int i), (3, .ref 270), (2, .ref 236), (1, .ref 64), (0, .ref 0)], [.int ((xs (i.toNatClampNeg)) &&& 63)], (q_kL S c n))) 2 (fun _ _ => rfl) ?_
  rw [hv]
  refine q_Ru_seg (g2 := (1078, [(4, .int i), (3, .ref 270), (2, .ref 236), (1, .ref 64), (0, .ref 0)], [.int (i + 1), .ref 0, .ref 64], (q_kL S c n))) 6 (fun _ _ => rfl) ?_
  refine q_Ru_rsT (g2 := (1079, [(4, .int i), (3, .ref 270), (2, .ref 236), (1, .ref 64), (0, .ref 0)], [.int (xs ((i + 1).toNatClampNeg)), .ref 64], (q_kL S c n))) rfl rfl hx1 ?_
  refine q_Ru_seg (g2 := (1080, [(4, .int i), (3, .ref 270), (2, .ref 236), (1, .ref 64), (0, .ref 0)], [.ref 270, .int (xs ((i + 1).toNatClampNeg)), .ref 64], (q_kL S c n))) 1 (fun _ _ => rfl) ?_
  refine q_Ru_call (v := (some (.int r0.2.1))) (h2 := (q_kL (q_pt 172 1 0 206 S r0.1) (c + r0.2.2) (n + 6 * r0.2.2))) rfl rfl ?_ ?_
  · exact (q_emXL rfl (fun _ => rfl) (dzt_X20_64_236 z L xs (q_vw 172 0 206 S) c n (xs ((i + 1).toNatClampNeg)) r0 er0)).le (Nat.le_of_ble_eq_true rfl)
  show q_Ru _ _ _ (1083, [(4, .int i), (3, .ref 270), (2, .ref 236), (1, .ref 64), (0, .ref 0)], [.int r0.2.1], (q_kL (q_pt 172 1 0 206 S r0.1) (c + r0.2.2) (n + 6 * r0.2.2))) _
  refine q_Ru_seg (g2 := (1091, [(5, .int r0.2.1), (4, .int i), (3, .ref 270), (2, .ref 236), (1, .ref 64), (0, .ref 0)], [.int (i + 1), .ref 0, .ref 236], (q_kL (q_pt 172 1 0 206 S r0.1) (c + r0.2.2) (n + 6 * r0.2.2)))) 6 (fun _ _ => rfl) ?_
  refine q_Ru_rsT (g2 := (1092, [(5, .int r0.2.1), (4, .int i), (3, .ref 270), (2, .ref 236), (1, .ref 64), (0, .ref 0)], [.int (xs ((i + 1).toNatClampNeg)), .ref 236], (q_kL (q_pt 172 1 0 206 S r0.1) (c + r0.2.2) (n + 6 * r0.2.2)))) rfl rfl hx1 ?_
  refine q_Ru_call (v := (some (.int r1.2))) (h2 := (q_kL (q_pt 34 0 172 0 (q_pt 172 1 0 206 S r0.1) r1.1) (c + r0.2.2) (n + 6 * r0.2.2))) rfl rfl ?_ ?_
  · exact (q_emML rfl (fun _ => rfl) ((q_cE (φ := (q_oIM (c + r0.2.2) (n + 6 * r0.2.2))) er1 (dzt_M300_64 (q_vw 34 172 0 (q_pt 172 1 0 206 S r0.1)) (c + r0.2.2) (n + 6 * r0.2.2) (xs ((i + 1).toNatClampNeg)))).tb q_TB0_le)).le (Nat.le_of_ble_eq_true rfl)
  show q_Ru _ _ _ (1095, [(5, .int r0.2.1), (4, .int i), (3, .ref 270), (2, .ref 236), (1, .ref 64), (0, .ref 0)], [.int r1.2], (q_kL (q_pt 34 0 172 0 (q_pt 172 1 0 206 S r0.1) r1.1) (c + r0.2.2) (n + 6 * r0.2.2))) _
  refine q_Ru_seg (g2 := (23, [(4, .int (i + 4)), (6, .int r1.2), (5, .int r0.2.1), (3, .ref 270), (2, .ref 236), (1, .ref 64), (0, .ref 0)], [], (q_kL (q_pt 34 0 172 0 (q_pt 172 1 0 206 S r0.1) r1.1) (c + r0.2.2) (n + 6 * r0.2.2)))) 4 (fun _ _ => rfl) ?_
  exact q_Ru_xt (q_xt_mk (q_mn1 0 rfl (q_mn1 3 rfl (q_mn1 4 rfl (q_mn1 5 rfl (q_mn1 6 rfl q_mn0))))) rfl) h
set_option maxHeartbeats 4000000 in
theorem q_lw29 (z L : Nat) (xs : Nat → Int32) (S : q_S) (c n : Nat) (i : Int32) (hx0 : q_in i L = true) (hx1 : q_in (i + 1) L = true) (hx2 : q_in (i + 2) L = true) (hx3 : q_in (i + 3) L = true) (hi : decide (Int32.ofNat L - 4 < i) = false) (hv : xs i.toNatClampNeg &&& 63 = 29) (r0 : q_S × Int32 × Nat) (er0 : dz_X21_64_236 (q_vw 172 0 206 S) (xs ((i + 1).toNatClampNeg)) = some r0) (r1 : q_S × Int32) (er1 : dz_M301_64 (q_vw 34 172 0 (q_pt 172 1 0 206 S r0.1)) (xs ((i + 1).toNatClampNeg)) = some r1) {o : q_Out} (h : q_Ru (q_TBs z L xs) 20 376 (23, [(4, .int (i + 4)), (3, .ref 270), (2, .ref 236), (1, .ref 64), (0, .ref 0)], [], (q_kL (q_pt 34 0 172 0 (q_pt 172 1 0 206 S r0.1) r1.1) (c + r0.2.2) (n + 6 * r0.2.2))) o) : q_Ru (q_TBs z L xs) 20 376 (23, [(4, .int i), (3, .ref 270), (2, .ref 236), (1, .ref 64), (0, .ref 0)], [], (q_kL S c n)) o := by
  refine q_Ru_seg (g2 := (29, [(4, .int i), (3, .ref 270), (2, .ref 236), (1, .ref 64), (0, .ref 0)], [.int ((Int32.ofNat L) - 4), .int i], (q_kL S c n))) 5 (fun _ _ => rfl) ?_
  refine q_Ru_rsF (g2 := (32, [(4, .int i), (3, .ref 270), (2, .ref 236), (1, .ref 64), (0, .ref 0)], [], (q_kL S c n))) rfl rfl hi ?_
  refine q_Ru_seg (g2 := (35, [(4, .int i), (3, .ref 270), (2, .ref 236), (1, .ref 64), (0, .ref 0)], [.int i, .ref 0], (q_kL S c n))) 2 (fun _ _ => rfl) ?_
  refine q_Ru_rsT (g2 := (36, [(4, .int i), (3, .ref 270), (2, .ref 236), (1, .ref 64), (0, .ref 0)], [.int (xs (i.toNatClampNeg))], (q_kL S c n))) rfl rfl hx0 ?_
  refine q_Ru_seg (g2 := (39, [(4, .int i), (3, .ref 270), (2, .ref 236), (1, .ref 64), (0, .ref 0)], [.int ((xs (i.toNatClampNeg)) &&& 63)], (q_kL S c n))) 2 (fun _ _ => rfl) ?_
  rw [hv]
  refine q_Ru_seg (g2 := (1106, [(4, .int i), (3, .ref 270), (2, .ref 236), (1, .ref 64), (0, .ref 0)], [.int (i + 1), .ref 0, .ref 64], (q_kL S c n))) 6 (fun _ _ => rfl) ?_
  refine q_Ru_rsT (g2 := (1107, [(4, .int i), (3, .ref 270), (2, .ref 236), (1, .ref 64), (0, .ref 0)], [.int (xs ((i + 1).toNatClampNeg)), .ref 64], (q_kL S c n))) rfl rfl hx1 ?_
  refine q_Ru_seg (g2 := (1108, [(4, .int i), (3, .ref 270), (2, .ref 236), (1, .ref 64), (0, .ref 0)], [.ref 270, .int (xs ((i + 1).toNatClampNeg)), .ref 64], (q_kL S c n))) 1 (fun _ _ => rfl) ?_
  refine q_Ru_call (v := (some (.int r0.2.1))) (h2 := (q_kL (q_pt 172 1 0 206 S r0.1) (c + r0.2.2) (n + 6 * r0.2.2))) rfl rfl ?_ ?_
  · exact (q_emXL rfl (fun _ => rfl) (dzt_X21_64_236 z L xs (q_vw 172 0 206 S) c n (xs ((i + 1).toNatClampNeg)) r0 er0)).le (Nat.le_of_ble_eq_true rfl)
  show q_Ru _ _ _ (1111, [(4, .int i), (3, .ref 270), (2, .ref 236), (1, .ref 64), (0, .ref 0)], [.int r0.2.1], (q_kL (q_pt 172 1 0 206 S r0.1) (c + r0.2.2) (n + 6 * r0.2.2))) _
  refine q_Ru_seg (g2 := (1119, [(5, .int r0.2.1), (4, .int i), (3, .ref 270), (2, .ref 236), (1, .ref 64), (0, .ref 0)], [.int (i + 1), .ref 0, .ref 236], (q_kL (q_pt 172 1 0 206 S r0.1) (c + r0.2.2) (n + 6 * r0.2.2)))) 6 (fun _ _ => rfl) ?_
  refine q_Ru_rsT (g2 := (1120, [(5, .int r0.2.1), (4, .int i), (3, .ref 270), (2, .ref 236), (1, .ref 64), (0, .ref 0)], [.int (xs ((i + 1).toNatClampNeg)), .ref 236], (q_kL (q_pt 172 1 0 206 S r0.1) (c + r0.2.2) (n + 6 * r0.2.2)))) rfl rfl hx1 ?_
  refine q_Ru_call (v := (some (.int r1.2))) (h2 := (q_kL (q_pt 34 0 172 0 (q_pt 172 1 0 206 S r0.1) r1.1) (c + r0.2.2) (n + 6 * r0.2.2))) rfl rfl ?_ ?_
  · exact (q_emML rfl (fun _ => rfl) ((dzt_M301_64 (q_vw 34 172 0 (q_pt 172 1 0 206 S r0.1)) (c + r0.2.2) (n + 6 * r0.2.2) (xs ((i + 1).toNatClampNeg)) r1 er1).tb q_TB0_le)).le (Nat.le_of_ble_eq_true rfl)
  show q_Ru _ _ _ (1123, [(5, .int r0.2.1), (4, .int i), (3, .ref 270), (2, .ref 236), (1, .ref 64), (0, .ref 0)], [.int r1.2], (q_kL (q_pt 34 0 172 0 (q_pt 172 1 0 206 S r0.1) r1.1) (c + r0.2.2) (n + 6 * r0.2.2))) _
  refine q_Ru_seg (g2 := (23, [(4, .int (i + 4)), (6, .int r1.2), (5, .int r0.2.1), (3, .ref 270), (2, .ref 236), (1, .ref 64), (0, .ref 0)], [], (q_kL (q_pt 34 0 172 0 (q_pt 172 1 0 206 S r0.1) r1.1) (c + r0.2.2) (n + 6 * r0.2.2)))) 4 (fun _ _ => rfl) ?_
  exact q_Ru_xt (q_xt_mk (q_mn1 0 rfl (q_mn1 3 rfl (q_mn1 4 rfl (q_mn1 5 rfl (q_mn1 6 rfl q_mn0))))) rfl) h
set_option maxHeartbeats 4000000 in
theorem q_lw30 (z L : Nat) (xs : Nat → Int32) (S : q_S) (c n : Nat) (i : Int32) (hx0 : q_in i L = true) (hx1 : q_in (i + 1) L = true) (hx2 : q_in (i + 2) L = true) (hx3 : q_in (i + 3) L = true) (hi : decide (Int32.ofNat L - 4 < i) = false) (hv : xs i.toNatClampNeg &&& 63 = 30) (r0 : q_S × Int32) (er0 : dz_X58_64 (q_vw 172 0 206 S) = some r0) (r1 : q_S × Int32) (er1 : dz_M302_64 (q_vw 34 172 0 (q_pt 172 1 0 206 S r0.1)) = r1) {o : q_Out} (h : q_Ru (q_TBs z L xs) 20 376 (23, [(4, .int (i + 4)), (3, .ref 270), (2, .ref 236), (1, .ref 64), (0, .ref 0)], [], (q_kL (q_pt 34 0 172 0 (q_pt 172 1 0 206 S r0.1) r1.1) c n)) o) : q_Ru (q_TBs z L xs) 20 376 (23, [(4, .int i), (3, .ref 270), (2, .ref 236), (1, .ref 64), (0, .ref 0)], [], (q_kL S c n)) o := by
  refine q_Ru_seg (g2 := (29, [(4, .int i), (3, .ref 270), (2, .ref 236), (1, .ref 64), (0, .ref 0)], [.int ((Int32.ofNat L) - 4), .int i], (q_kL S c n))) 5 (fun _ _ => rfl) ?_
  refine q_Ru_rsF (g2 := (32, [(4, .int i), (3, .ref 270), (2, .ref 236), (1, .ref 64), (0, .ref 0)], [], (q_kL S c n))) rfl rfl hi ?_
  refine q_Ru_seg (g2 := (35, [(4, .int i), (3, .ref 270), (2, .ref 236), (1, .ref 64), (0, .ref 0)], [.int i, .ref 0], (q_kL S c n))) 2 (fun _ _ => rfl) ?_
  refine q_Ru_rsT (g2 := (36, [(4, .int i), (3, .ref 270), (2, .ref 236), (1, .ref 64), (0, .ref 0)], [.int (xs (i.toNatClampNeg))], (q_kL S c n))) rfl rfl hx0 ?_
  refine q_Ru_seg (g2 := (39, [(4, .int i), (3, .ref 270), (2, .ref 236), (1, .ref 64), (0, .ref 0)], [.int ((xs (i.toNatClampNeg)) &&& 63)], (q_kL S c n))) 2 (fun _ _ => rfl) ?_
  rw [hv]
  refine q_Ru_seg (g2 := (1129, [(4, .int i), (3, .ref 270), (2, .ref 236), (1, .ref 64), (0, .ref 0)], [.ref 64], (q_kL S c n))) 2 (fun _ _ => rfl) ?_
  refine q_Ru_call (v := (some (.int r0.2))) (h2 := (q_kL (q_pt 172 1 0 206 S r0.1) c n)) rfl rfl ?_ ?_
  · exact (q_emXL rfl (fun _ => rfl) (dzt_X58_64 z L xs (q_vw 172 0 206 S) c n r0 er0)).le (Nat.le_of_ble_eq_true rfl)
  show q_Ru _ _ _ (1132, [(4, .int i), (3, .ref 270), (2, .ref 236), (1, .ref 64), (0, .ref 0)], [.int r0.2], (q_kL (q_pt 172 1 0 206 S r0.1) c n)) _
  refine q_Ru_seg (g2 := (1134, [(4, .int i), (3, .ref 270), (2, .ref 236), (1, .ref 64), (0, .ref 0)], [.ref 236], (q_kL (q_pt 172 1 0 206 S r0.1) c n))) 2 (fun _ _ => rfl) ?_
  refine q_Ru_call (v := (some (.int r1.2))) (h2 := (q_kL (q_pt 34 0 172 0 (q_pt 172 1 0 206 S r0.1) r1.1) c n)) rfl rfl ?_ ?_
  · exact (q_emML rfl (fun _ => rfl) ((q_cE (φ := (q_oIM c n)) er1 (dzt_M302_64 (q_vw 34 172 0 (q_pt 172 1 0 206 S r0.1)) c n)).tb q_TB0_le)).le (Nat.le_of_ble_eq_true rfl)
  show q_Ru _ _ _ (1137, [(4, .int i), (3, .ref 270), (2, .ref 236), (1, .ref 64), (0, .ref 0)], [.int r1.2], (q_kL (q_pt 34 0 172 0 (q_pt 172 1 0 206 S r0.1) r1.1) c n)) _
  refine q_Ru_seg (g2 := (23, [(4, .int (i + 4)), (3, .ref 270), (2, .ref 236), (1, .ref 64), (0, .ref 0)], [], (q_kL (q_pt 34 0 172 0 (q_pt 172 1 0 206 S r0.1) r1.1) c n))) 4 (fun _ _ => rfl) ?_
  exact q_Ru_xt (q_xt_mk (q_mn1 0 rfl (q_mn1 1 rfl (q_mn1 2 rfl (q_mn1 3 rfl (q_mn1 4 rfl q_mn0))))) rfl) h
set_option maxHeartbeats 4000000 in
theorem q_lw31 (z L : Nat) (xs : Nat → Int32) (S : q_S) (c n : Nat) (i : Int32) (hx0 : q_in i L = true) (hx1 : q_in (i + 1) L = true) (hx2 : q_in (i + 2) L = true) (hx3 : q_in (i + 3) L = true) (hi : decide (Int32.ofNat L - 4 < i) = false) (hv : xs i.toNatClampNeg &&& 63 = 31) (r0 : q_S × Int32) (er0 : dz_M303_64 (q_vw 34 172 0 S) = r0) {o : q_Out} (h : q_Ru (q_TBs z L xs) 20 376 (23, [(4, .int (i + 4)), (3, .ref 270), (2, .ref 236), (1, .ref 64), (0, .ref 0)], [], (q_kL (q_pt 34 0 172 0 S r0.1) c n)) o) : q_Ru (q_TBs z L xs) 20 376 (23, [(4, .int i), (3, .ref 270), (2, .ref 236), (1, .ref 64), (0, .ref 0)], [], (q_kL S c n)) o := by
  refine q_Ru_seg (g2 := (29, [(4, .int i), (3, .ref 270), (2, .ref 236), (1, .ref 64), (0, .ref 0)], [.int ((Int32.ofNat L) - 4), .int i], (q_kL S c n))) 5 (fun _ _ => rfl) ?_
  refine q_Ru_rsF (g2 := (32, [(4, .int i), (3, .ref 270), (2, .ref 236), (1, .ref 64), (0, .ref 0)], [], (q_kL S c n))) rfl rfl hi ?_
  refine q_Ru_seg (g2 := (35, [(4, .int i), (3, .ref 270), (2, .ref 236), (1, .ref 64), (0, .ref 0)], [.int i, .ref 0], (q_kL S c n))) 2 (fun _ _ => rfl) ?_
  refine q_Ru_rsT (g2 := (36, [(4, .int i), (3, .ref 270), (2, .ref 236), (1, .ref 64), (0, .ref 0)], [.int (xs (i.toNatClampNeg))], (q_kL S c n))) rfl rfl hx0 ?_
  refine q_Ru_seg (g2 := (39, [(4, .int i), (3, .ref 270), (2, .ref 236), (1, .ref 64), (0, .ref 0)], [.int ((xs (i.toNatClampNeg)) &&& 63)], (q_kL S c n))) 2 (fun _ _ => rfl) ?_
  rw [hv]
  refine q_Ru_seg (g2 := (1142, [(4, .int i), (3, .ref 270), (2, .ref 236), (1, .ref 64), (0, .ref 0)], [.ref 64], (q_kL S c n))) 2 (fun _ _ => rfl) ?_
  refine q_Ru_call (v := (some (.int (dz_X59_64 (q_vw 172 0 206 S))))) (h2 := (q_kL S c n)) rfl rfl ?_ ?_
  · exact (q_emXLp rfl (fun _ => rfl) (dzt_X59_64 z L xs (q_vw 172 0 206 S) c n)).le (Nat.le_of_ble_eq_true rfl)
  show q_Ru _ _ _ (1145, [(4, .int i), (3, .ref 270), (2, .ref 236), (1, .ref 64), (0, .ref 0)], [.int (dz_X59_64 (q_vw 172 0 206 S))], (q_kL S c n)) _
  refine q_Ru_seg (g2 := (1147, [(4, .int i), (3, .ref 270), (2, .ref 236), (1, .ref 64), (0, .ref 0)], [.ref 236], (q_kL S c n))) 2 (fun _ _ => rfl) ?_
  refine q_Ru_call (v := (some (.int r0.2))) (h2 := (q_kL (q_pt 34 0 172 0 S r0.1) c n)) rfl rfl ?_ ?_
  · exact (q_emML rfl (fun _ => rfl) ((q_cE (φ := (q_oIM c n)) er0 (dzt_M303_64 (q_vw 34 172 0 S) c n)).tb q_TB0_le)).le (Nat.le_of_ble_eq_true rfl)
  show q_Ru _ _ _ (1150, [(4, .int i), (3, .ref 270), (2, .ref 236), (1, .ref 64), (0, .ref 0)], [.int r0.2], (q_kL (q_pt 34 0 172 0 S r0.1) c n)) _
  refine q_Ru_seg (g2 := (23, [(4, .int (i + 4)), (3, .ref 270), (2, .ref 236), (1, .ref 64), (0, .ref 0)], [], (q_kL (q_pt 34 0 172 0 S r0.1) c n))) 4 (fun _ _ => rfl) ?_
  exact q_Ru_xt (q_xt_mk (q_mn1 0 rfl (q_mn1 1 rfl (q_mn1 2 rfl (q_mn1 3 rfl (q_mn1 4 rfl q_mn0))))) rfl) h
set_option maxHeartbeats 4000000 in
theorem q_lw32 (z L : Nat) (xs : Nat → Int32) (S : q_S) (c n : Nat) (i : Int32) (hx0 : q_in i L = true) (hx1 : q_in (i + 1) L = true) (hx2 : q_in (i + 2) L = true) (hx3 : q_in (i + 3) L = true) (hi : decide (Int32.ofNat L - 4 < i) = false) (hv : xs i.toNatClampNeg &&& 63 = 32) (r0 : q_S × Int32 × Nat) (er0 : dz_X22_64_236 (q_vw 172 0 206 S) = some r0) (r1 : q_S × Int32) (er1 : dz_M306_64 (q_vw 34 172 0 (q_pt 172 1 0 206 S r0.1)) = some r1) {o : q_Out} (h : q_Ru (q_TBs z L xs) 20 376 (23, [(4, .int (i + 4)), (3, .ref 270), (2, .ref 236), (1, .ref 64), (0, .ref 0)], [], (q_kL (q_pt 34 0 172 0 (q_pt 172 1 0 206 S r0.1) r1.1) (c + r0.2.2) (n + 6 * r0.2.2))) o) : q_Ru (q_TBs z L xs) 20 376 (23, [(4, .int i), (3, .ref 270), (2, .ref 236), (1, .ref 64), (0, .ref 0)], [], (q_kL S c n)) o := by
  refine q_Ru_seg (g2 := (29, [(4, .int i), (3, .ref 270), (2, .ref 236), (1, .ref 64), (0, .ref 0)], [.int ((Int32.ofNat L) - 4), .int i], (q_kL S c n))) 5 (fun _ _ => rfl) ?_
  refine q_Ru_rsF (g2 := (32, [(4, .int i), (3, .ref 270), (2, .ref 236), (1, .ref 64), (0, .ref 0)], [], (q_kL S c n))) rfl rfl hi ?_
  refine q_Ru_seg (g2 := (35, [(4, .int i), (3, .ref 270), (2, .ref 236), (1, .ref 64), (0, .ref 0)], [.int i, .ref 0], (q_kL S c n))) 2 (fun _ _ => rfl) ?_
  refine q_Ru_rsT (g2 := (36, [(4, .int i), (3, .ref 270), (2, .ref 236), (1, .ref 64), (0, .ref 0)], [.int (xs (i.toNatClampNeg))], (q_kL S c n))) rfl rfl hx0 ?_
  refine q_Ru_seg (g2 := (39, [(4, .int i), (3, .ref 270), (2, .ref 236), (1, .ref 64), (0, .ref 0)], [.int ((xs (i.toNatClampNeg)) &&& 63)], (q_kL S c n))) 2 (fun _ _ => rfl) ?_
  rw [hv]
  refine q_Ru_seg (g2 := (1156, [(4, .int i), (3, .ref 270), (2, .ref 236), (1, .ref 64), (0, .ref 0)], [.ref 270, .ref 64], (q_kL S c n))) 3 (fun _ _ => rfl) ?_
  refine q_Ru_call (v := (some (.int r0.2.1))) (h2 := (q_kL (q_pt 172 1 0 206 S r0.1) (c + r0.2.2) (n + 6 * r0.2.2))) rfl rfl ?_ ?_
  · exact (q_emXL rfl (fun _ => rfl) (dzt_X22_64_236 z L xs (q_vw 172 0 206 S) c n r0 er0)).le (Nat.le_of_ble_eq_true rfl)
  show q_Ru _ _ _ (1159, [(4, .int i), (3, .ref 270), (2, .ref 236), (1, .ref 64), (0, .ref 0)], [.int r0.2.1], (q_kL (q_pt 172 1 0 206 S r0.1) (c + r0.2.2) (n + 6 * r0.2.2))) _
  refine q_Ru_seg (g2 := (1162, [(5, .int r0.2.1), (4, .int i), (3, .ref 270), (2, .ref 236), (1, .ref 64), (0, .ref 0)], [.ref 236], (q_kL (q_pt 172 1 0 206 S r0.1) (c + r0.2.2) (n + 6 * r0.2.2)))) 2 (fun _ _ => rfl) ?_
  refine q_Ru_call (v := (some (.int r1.2))) (h2 := (q_kL (q_pt 34 0 172 0 (q_pt 172 1 0 206 S r0.1) r1.1) (c + r0.2.2) (n + 6 * r0.2.2))) rfl rfl ?_ ?_
  · exact (q_emML rfl (fun _ => rfl) ((dzt_M306_64 (q_vw 34 172 0 (q_pt 172 1 0 206 S r0.1)) (c + r0.2.2) (n + 6 * r0.2.2) r1 er1).tb q_TB0_le)).le (Nat.le_of_ble_eq_true rfl)
  show q_Ru _ _ _ (1165, [(5, .int r0.2.1), (4, .int i), (3, .ref 270), (2, .ref 236), (1, .ref 64), (0, .ref 0)], [.int r1.2], (q_kL (q_pt 34 0 172 0 (q_pt 172 1 0 206 S r0.1) r1.1) (c + r0.2.2) (n + 6 * r0.2.2))) _
  refine q_Ru_seg (g2 := (23, [(4, .int (i + 4)), (6, .int r1.2), (5, .int r0.2.1), (3, .ref 270), (2, .ref 236), (1, .ref 64), (0, .ref 0)], [], (q_kL (q_pt 34 0 172 0 (q_pt 172 1 0 206 S r0.1) r1.1) (c + r0.2.2) (n + 6 * r0.2.2)))) 4 (fun _ _ => rfl) ?_
  exact q_Ru_xt (q_xt_mk (q_mn1 0 rfl (q_mn1 3 rfl (q_mn1 4 rfl (q_mn1 5 rfl (q_mn1 6 rfl q_mn0))))) rfl) h
set_option maxHeartbeats 4000000 in
theorem q_lw33 (z L : Nat) (xs : Nat → Int32) (S : q_S) (c n : Nat) (i : Int32) (hx0 : q_in i L = true) (hx1 : q_in (i + 1) L = true) (hx2 : q_in (i + 2) L = true) (hx3 : q_in (i + 3) L = true) (hi : decide (Int32.ofNat L - 4 < i) = false) (hv : xs i.toNatClampNeg &&& 63 = 33) (r0 : q_S × Int32 × Nat) (er0 : dz_X23_64_236 (q_vw 172 0 206 S) (xs ((i + 1).toNatClampNeg)) = some r0) (r1 : q_S × Int32) (er1 : dz_M308_64 (q_vw 34 172 0 (q_pt 172 1 0 206 S r0.1)) (xs ((i + 1).toNatClampNeg)) = some r1) {o : q_Out} (h : q_Ru (q_TBs z L xs) 20 376 (23, [(4, .int (i + 4)), (3, .ref 270), (2, .ref 236), (1, .ref 64), (0, .ref 0)], [], (q_kL (q_pt 34 0 172 0 (q_pt 172 1 0 206 S r0.1) r1.1) (c + r0.2.2) (n + 6 * r0.2.2))) o) : q_Ru (q_TBs z L xs) 20 376 (23, [(4, .int i), (3, .ref 270), (2, .ref 236), (1, .ref 64), (0, .ref 0)], [], (q_kL S c n)) o := by
  refine q_Ru_seg (g2 := (29, [(4, .int i), (3, .ref 270), (2, .ref 236), (1, .ref 64), (0, .ref 0)], [.int ((Int32.ofNat L) - 4), .int i], (q_kL S c n))) 5 (fun _ _ => rfl) ?_
  refine q_Ru_rsF (g2 := (32, [(4, .int i), (3, .ref 270), (2, .ref 236), (1, .ref 64), (0, .ref 0)], [], (q_kL S c n))) rfl rfl hi ?_
  refine q_Ru_seg (g2 := (35, [(4, .int i), (3, .ref 270), (2, .ref 236), (1, .ref 64), (0, .ref 0)], [.int i, .ref 0], (q_kL S c n))) 2 (fun _ _ => rfl) ?_
  refine q_Ru_rsT (g2 := (36, [(4, .int i), (3, .ref 270), (2, .ref 236), (1, .ref 64), (0, .ref 0)], [.int (xs (i.toNatClampNeg))], (q_kL S c n))) rfl rfl hx0 ?_
  refine q_Ru_seg (g2 := (39, [(4, .int i), (3, .ref 270), (2, .ref 236), (1, .ref 64), (0, .ref 0)], [.int ((xs (i.toNatClampNeg)) &&& 63)], (q_kL S c n))) 2 (fun _ _ => rfl) ?_
  rw [hv]
  refine q_Ru_seg (g2 := (1176, [(4, .int i), (3, .ref 270), (2, .ref 236), (1, .ref 64), (0, .ref 0)], [.int (i + 1), .ref 0, .ref 64], (q_kL S c n))) 6 (fun _ _ => rfl) ?_
  refine q_Ru_rsT (g2 := (1177, [(4, .int i), (3, .ref 270), (2, .ref 236), (1, .ref 64), (0, .ref 0)], [.int (xs ((i + 1).toNatClampNeg)), .ref 64], (q_kL S c n))) rfl rfl hx1 ?_
  refine q_Ru_seg (g2 := (1178, [(4, .int i), (3, .ref 270), (2, .ref 236), (1, .ref 64), (0, .ref 0)], [.ref 270, .int (xs ((i + 1).toNatClampNeg)), .ref 64], (q_kL S c n))) 1 (fun _ _ => rfl) ?_
  refine q_Ru_call (v := (some (.int r0.2.1))) (h2 := (q_kL (q_pt 172 1 0 206 S r0.1) (c + r0.2.2) (n + 6 * r0.2.2))) rfl rfl ?_ ?_
  · exact (q_emXL rfl (fun _ => rfl) (dzt_X23_64_236 z L xs (q_vw 172 0 206 S) c n (xs ((i + 1).toNatClampNeg)) r0 er0)).le (Nat.le_of_ble_eq_true rfl)
  show q_Ru _ _ _ (1181, [(4, .int i), (3, .ref 270), (2, .ref 236), (1, .ref 64), (0, .ref 0)], [.int r0.2.1], (q_kL (q_pt 172 1 0 206 S r0.1) (c + r0.2.2) (n + 6 * r0.2.2))) _
  refine q_Ru_seg (g2 := (1189, [(5, .int r0.2.1), (4, .int i), (3, .ref 270), (2, .ref 236), (1, .ref 64), (0, .ref 0)], [.int (i + 1), .ref 0, .ref 236], (q_kL (q_pt 172 1 0 206 S r0.1) (c + r0.2.2) (n + 6 * r0.2.2)))) 6 (fun _ _ => rfl) ?_
  refine q_Ru_rsT (g2 := (1190, [(5, .int r0.2.1), (4, .int i), (3, .ref 270), (2, .ref 236), (1, .ref 64), (0, .ref 0)], [.int (xs ((i + 1).toNatClampNeg)), .ref 236], (q_kL (q_pt 172 1 0 206 S r0.1) (c + r0.2.2) (n + 6 * r0.2.2)))) rfl rfl hx1 ?_
  refine q_Ru_call (v := (some (.int r1.2))) (h2 := (q_kL (q_pt 34 0 172 0 (q_pt 172 1 0 206 S r0.1) r1.1) (c + r0.2.2) (n + 6 * r0.2.2))) rfl rfl ?_ ?_
  · exact (q_emML rfl (fun _ => rfl) ((dzt_M308_64 (q_vw 34 172 0 (q_pt 172 1 0 206 S r0.1)) (c + r0.2.2) (n + 6 * r0.2.2) (xs ((i + 1).toNatClampNeg)) r1 er1).tb q_TB0_le)).le (Nat.le_of_ble_eq_true rfl)
  show q_Ru _ _ _ (1193, [(5, .int r0.2.1), (4, .int i), (3, .ref 270), (2, .ref 236), (1, .ref 64), (0, .ref 0)], [.int r1.2], (q_kL (q_pt 34 0 172 0 (q_pt 172 1 0 206 S r0.1) r1.1) (c + r0.2.2) (n + 6 * r0.2.2))) _
  refine q_Ru_seg (g2 := (23, [(4, .int (i + 4)), (6, .int r1.2), (5, .int r0.2.1), (3, .ref 270), (2, .ref 236), (1, .ref 64), (0, .ref 0)], [], (q_kL (q_pt 34 0 172 0 (q_pt 172 1 0 206 S r0.1) r1.1) (c + r0.2.2) (n + 6 * r0.2.2)))) 4 (fun _ _ => rfl) ?_
  exact q_Ru_xt (q_xt_mk (q_mn1 0 rfl (q_mn1 3 rfl (q_mn1 4 rfl (q_mn1 5 rfl (q_mn1 6 rfl q_mn0))))) rfl) h
set_option maxHeartbeats 4000000 in
theorem q_lw34 (z L : Nat) (xs : Nat → Int32) (S : q_S) (c n : Nat) (i : Int32) (hx0 : q_in i L = true) (hx1 : q_in (i + 1) L = true) (hx2 : q_in (i + 2) L = true) (hx3 : q_in (i + 3) L = true) (hi : decide (Int32.ofNat L - 4 < i) = false) (hv : xs i.toNatClampNeg &&& 63 = 34) (r0 : q_S × Int32 × Nat) (er0 : dz_X24_64_236 (q_vw 172 0 206 S) (xs ((i + 1).toNatClampNeg)) = some r0) (r1 : q_S × Int32) (er1 : dz_M309_64 (q_vw 34 172 0 (q_pt 172 1 0 206 S r0.1)) (xs ((i + 1).toNatClampNeg)) = some r1) {o : q_Out} (h : q_Ru (q_TBs z L xs) 20 376 (23, [(4, .int (i + 4)), (3, .ref 270), (2, .ref 236), (1, .ref 64), (0, .ref 0)], [], (q_kL (q_pt 34 0 172 0 (q_pt 172 1 0 206 S r0.1) r1.1) (c + r0.2.2) (n + 6 * r0.2.2))) o) : q_Ru (q_TBs z L xs) 20 376 (23, [(4, .int i), (3, .ref 270), (2, .ref 236), (1, .ref 64), (0, .ref 0)], [], (q_kL S c n)) o := by
  refine q_Ru_seg (g2 := (29, [(4, .int i), (3, .ref 270), (2, .ref 236), (1, .ref 64), (0, .ref 0)], [.int ((Int32.ofNat L) - 4), .int i], (q_kL S c n))) 5 (fun _ _ => rfl) ?_
  refine q_Ru_rsF (g2 := (32, [(4, .int i), (3, .ref 270), (2, .ref 236), (1, .ref 64), (0, .ref 0)], [], (q_kL S c n))) rfl rfl hi ?_
  refine q_Ru_seg (g2 := (35, [(4, .int i), (3, .ref 270), (2, .ref 236), (1, .ref 64), (0, .ref 0)], [.int i, .ref 0], (q_kL S c n))) 2 (fun _ _ => rfl) ?_
  refine q_Ru_rsT (g2 := (36, [(4, .int i), (3, .ref 270), (2, .ref 236), (1, .ref 64), (0, .ref 0)], [.int (xs (i.toNatClampNeg))], (q_kL S c n))) rfl rfl hx0 ?_
  refine q_Ru_seg (g2 := (39, [(4, .int i), (3, .ref 270), (2, .ref 236), (1, .ref 64), (0, .ref 0)], [.int ((xs (i.toNatClampNeg)) &&& 63)], (q_kL S c n))) 2 (fun _ _ => rfl) ?_
  rw [hv]
  refine q_Ru_seg (g2 := (1204, [(4, .int i), (3, .ref 270), (2, .ref 236), (1, .ref 64), (0, .ref 0)], [.int (i + 1), .ref 0, .ref 64], (q_kL S c n))) 6 (fun _ _ => rfl) ?_
  refine q_Ru_rsT (g2 := (1205, [(4, .int i), (3, .ref 270), (2, .ref 236), (1, .ref 64), (0, .ref 0)], [.int (xs ((i + 1).toNatClampNeg)), .ref 64], (q_kL S c n))) rfl rfl hx1 ?_
  refine q_Ru_seg (g2 := (1206, [(4, .int i), (3, .ref 270), (2, .ref 236), (1, .ref 64), (0, .ref 0)], [.ref 270, .int (xs ((i + 1).toNatClampNeg)), .ref 64], (q_kL S c n))) 1 (fun _ _ => rfl) ?_
  refine q_Ru_call (v := (some (.int r0.2.1))) (h2 := (q_kL (q_pt 172 1 0 206 S r0.1) (c + r0.2.2) (n + 6 * r0.2.2))) rfl rfl ?_ ?_
  · exact (q_emXL rfl (fun _ => rfl) (dzt_X24_64_236 z L xs (q_vw 172 0 206 S) c n (xs ((i + 1).toNatClampNeg)) r0 er0)).le (Nat.le_of_ble_eq_true rfl)
  show q_Ru _ _ _ (1209, [(4, .int i), (3, .ref 270), (2, .ref 236), (1, .ref 64), (0, .ref 0)], [.int r0.2.1], (q_kL (q_pt 172 1 0 206 S r0.1) (c + r0.2.2) (n + 6 * r0.2.2))) _
  refine q_Ru_seg (g2 := (1217, [(5, .int r0.2.1), (4, .int i), (3, .ref 270), (2, .ref 236), (1, .ref 64), (0, .ref 0)], [.int (i + 1), .ref 0, .ref 236], (q_kL (q_pt 172 1 0 206 S r0.1) (c + r0.2.2) (n + 6 * r0.2.2)))) 6 (fun _ _ => rfl) ?_
  refine q_Ru_rsT (g2 := (1218, [(5, .int r0.2.1), (4, .int i), (3, .ref 270), (2, .ref 236), (1, .ref 64), (0, .ref 0)], [.int (xs ((i + 1).toNatClampNeg)), .ref 236], (q_kL (q_pt 172 1 0 206 S r0.1) (c + r0.2.2) (n + 6 * r0.2.2)))) rfl rfl hx1 ?_
  refine q_Ru_call (v := (some (.int r1.2))) (h2 := (q_kL (q_pt 34 0 172 0 (q_pt 172 1 0 206 S r0.1) r1.1) (c + r0.2.2) (n + 6 * r0.2.2))) rfl rfl ?_ ?_
  · exact (q_emML rfl (fun _ => rfl) ((dzt_M309_64 (q_vw 34 172 0 (q_pt 172 1 0 206 S r0.1)) (c + r0.2.2) (n + 6 * r0.2.2) (xs ((i + 1).toNatClampNeg)) r1 er1).tb q_TB0_le)).le (Nat.le_of_ble_eq_true rfl)
  show q_Ru _ _ _ (1221, [(5, .int r0.2.1), (4, .int i), (3, .ref 270), (2, .ref 236), (1, .ref 64), (0, .ref 0)], [.int r1.2], (q_kL (q_pt 34 0 172 0 (q_pt 172 1 0 206 S r0.1) r1.1) (c + r0.2.2) (n + 6 * r0.2.2))) _
  refine q_Ru_seg (g2 := (23, [(4, .int (i + 4)), (6, .int r1.2), (5, .int r0.2.1), (3, .ref 270), (2, .ref 236), (1, .ref 64), (0, .ref 0)], [], (q_kL (q_pt 34 0 172 0 (q_pt 172 1 0 206 S r0.1) r1.1) (c + r0.2.2) (n + 6 * r0.2.2)))) 4 (fun _ _ => rfl) ?_
  exact q_Ru_xt (q_xt_mk (q_mn1 0 rfl (q_mn1 3 rfl (q_mn1 4 rfl (q_mn1 5 rfl (q_mn1 6 rfl q_mn0))))) rfl) h
set_option maxHeartbeats 4000000 in
theorem q_lw35 (z L : Nat) (xs : Nat → Int32) (S : q_S) (c n : Nat) (i : Int32) (hx0 : q_in i L = true) (hx1 : q_in (i + 1) L = true) (hx2 : q_in (i + 2) L = true) (hx3 : q_in (i + 3) L = true) (hi : decide (Int32.ofNat L - 4 < i) = false) (hv : xs i.toNatClampNeg &&& 63 = 35) (r0 : q_S × Int32) (er0 : dz_X63_64 (q_vw 172 0 206 S) = some r0) (r1 : q_S × Int32) (er1 : dz_M310_64 (q_vw 34 172 0 (q_pt 172 1 0 206 S r0.1)) = r1) {o : q_Out} (h : q_Ru (q_TBs z L xs) 20 376 (23, [(4, .int (i + 4)), (3, .ref 270), (2, .ref 236), (1, .ref 64), (0, .ref 0)], [], (q_kL (q_pt 34 0 172 0 (q_pt 172 1 0 206 S r0.1) r1.1) c n)) o) : q_Ru (q_TBs z L xs) 20 376 (23, [(4, .int i), (3, .ref 270), (2, .ref 236), (1, .ref 64), (0, .ref 0)], [], (q_kL S c n)) o := by
  refine q_Ru_seg (g2 := (29, [(4, .int i), (3, .ref 270), (2, .ref 236), (1, .ref 64), (0, .ref 0)], [.int ((Int32.ofNat L) - 4), .int i], (q_kL S c n))) 5 (fun _ _ => rfl) ?_
  refine q_Ru_rsF (g2 := (32, [(4, .int i), (3, .ref 270), (2, .ref 236), (1, .ref 64), (0, .ref 0)], [], (q_kL S c n))) rfl rfl hi ?_
  refine q_Ru_seg (g2 := (35, [(4, .int i), (3, .ref 270), (2, .ref 236), (1, .ref 64), (0, .ref 0)], [.int i, .ref 0], (q_kL S c n))) 2 (fun _ _ => rfl) ?_
  refine q_Ru_rsT (g2 := (36, [(4, .int i), (3, .ref 270), (2, .ref 236), (1, .ref 64), (0, .ref 0)], [.int (xs (i.toNatClampNeg))], (q_kL S c n))) rfl rfl hx0 ?_
  refine q_Ru_seg (g2 := (39, [(4, .int i), (3, .ref 270), (2, .ref 236), (1, .ref 64), (0, .ref 0)], [.int ((xs (i.toNatClampNeg)) &&& 63)], (q_kL S c n))) 2 (fun _ _ => rfl) ?_
  rw [hv]
  refine q_Ru_seg (g2 := (1227, [(4, .int i), (3, .ref 270), (2, .ref 236), (1, .ref 64), (0, .ref 0)], [.ref 64], (q_kL S c n))) 2 (fun _ _ => rfl) ?_
  refine q_Ru_call (v := (some (.int r0.2))) (h2 := (q_kL (q_pt 172 1 0 206 S r0.1) c n)) rfl rfl ?_ ?_
  · exact (q_emXL rfl (fun _ => rfl) (dzt_X63_64 z L xs (q_vw 172 0 206 S) c n r0 er0)).le (Nat.le_of_ble_eq_true rfl)
  show q_Ru _ _ _ (1230, [(4, .int i), (3, .ref 270), (2, .ref 236), (1, .ref 64), (0, .ref 0)], [.int r0.2], (q_kL (q_pt 172 1 0 206 S r0.1) c n)) _
  refine q_Ru_seg (g2 := (1232, [(4, .int i), (3, .ref 270), (2, .ref 236), (1, .ref 64), (0, .ref 0)], [.ref 236], (q_kL (q_pt 172 1 0 206 S r0.1) c n))) 2 (fun _ _ => rfl) ?_
  refine q_Ru_call (v := (some (.int r1.2))) (h2 := (q_kL (q_pt 34 0 172 0 (q_pt 172 1 0 206 S r0.1) r1.1) c n)) rfl rfl ?_ ?_
  · exact (q_emML rfl (fun _ => rfl) ((q_cE (φ := (q_oIM c n)) er1 (dzt_M310_64 (q_vw 34 172 0 (q_pt 172 1 0 206 S r0.1)) c n)).tb q_TB0_le)).le (Nat.le_of_ble_eq_true rfl)
  show q_Ru _ _ _ (1235, [(4, .int i), (3, .ref 270), (2, .ref 236), (1, .ref 64), (0, .ref 0)], [.int r1.2], (q_kL (q_pt 34 0 172 0 (q_pt 172 1 0 206 S r0.1) r1.1) c n)) _
  refine q_Ru_seg (g2 := (23, [(4, .int (i + 4)), (3, .ref 270), (2, .ref 236), (1, .ref 64), (0, .ref 0)], [], (q_kL (q_pt 34 0 172 0 (q_pt 172 1 0 206 S r0.1) r1.1) c n))) 4 (fun _ _ => rfl) ?_
  exact q_Ru_xt (q_xt_mk (q_mn1 0 rfl (q_mn1 1 rfl (q_mn1 2 rfl (q_mn1 3 rfl (q_mn1 4 rfl q_mn0))))) rfl) h
set_option maxHeartbeats 4000000 in
theorem q_lw36 (z L : Nat) (xs : Nat → Int32) (S : q_S) (c n : Nat) (i : Int32) (hx0 : q_in i L = true) (hx1 : q_in (i + 1) L = true) (hx2 : q_in (i + 2) L = true) (hx3 : q_in (i + 3) L = true) (hi : decide (Int32.ofNat L - 4 < i) = false) (hv : xs i.toNatClampNeg &&& 63 = 36) (r0 : q_S × Int32 × Nat) (er0 : dz_X25_64_236 (q_vw 172 0 206 S) = r0) (r1 : q_S × Int32) (er1 : dz_M311_64 (q_vw 34 172 0 (q_pt 172 1 0 206 S r0.1)) = r1) {o : q_Out} (h : q_Ru (q_TBs z L xs) 20 376 (23, [(4, .int (i + 4)), (3, .ref 270), (2, .ref 236), (1, .ref 64), (0, .ref 0)], [], (q_kL (q_pt 34 0 172 0 (q_pt 172 1 0 206 S r0.1) r1.1) (c + r0.2.2) (n + 6 * r0.2.2))) o) : q_Ru (q_TBs z L xs) 20 376 (23, [(4, .int i), (3, .ref 270), (2, .ref 236), (1, .ref 64), (0, .ref 0)], [], (q_kL S c n)) o := by
  refine q_Ru_seg (g2 := (29, [(4, .int i), (3, .ref 270), (2, .ref 236), (1, .ref 64), (0, .ref 0)], [.int ((Int32.ofNat L) - 4), .int i], (q_kL S c n))) 5 (fun _ _ => rfl) ?_
  refine q_Ru_rsF (g2 := (32, [(4, .int i), (3, .ref 270), (2, .ref 236), (1, .ref 64), (0, .ref 0)], [], (q_kL S c n))) rfl rfl hi ?_
  refine q_Ru_seg (g2 := (35, [(4, .int i), (3, .ref 270), (2, .ref 236), (1, .ref 64), (0, .ref 0)], [.int i, .ref 0], (q_kL S c n))) 2 (fun _ _ => rfl) ?_
  refine q_Ru_rsT (g2 := (36, [(4, .int i), (3, .ref 270), (2, .ref 236), (1, .ref 64), (0, .ref 0)], [.int (xs (i.toNatClampNeg))], (q_kL S c n))) rfl rfl hx0 ?_
  refine q_Ru_seg (g2 := (39, [(4, .int i), (3, .ref 270), (2, .ref 236), (1, .ref 64), (0, .ref 0)], [.int ((xs (i.toNatClampNeg)) &&& 63)], (q_kL S c n))) 2 (fun _ _ => rfl) ?_
  rw [hv]
  refine q_Ru_seg (g2 := (1241, [(4, .int i), (3, .ref 270), (2, .ref 236), (1, .ref 64), (0, .ref 0)], [.ref 270, .ref 64], (q_kL S c n))) 3 (fun _ _ => rfl) ?_
  refine q_Ru_call (v := (some (.int r0.2.1))) (h2 := (q_kL (q_pt 172 1 0 206 S r0.1) (c + r0.2.2) (n + 6 * r0.2.2))) rfl rfl ?_ ?_
  · exact (q_emXL rfl (fun _ => rfl) (q_cE (φ := (q_oEX c n)) er0 (dzt_X25_64_236 z L xs (q_vw 172 0 206 S) c n))).le (Nat.le_of_ble_eq_true rfl)
  show q_Ru _ _ _ (1244, [(4, .int i), (3, .ref 270), (2, .ref 236), (1, .ref 64), (0, .ref 0)], [.int r0.2.1], (q_kL (q_pt 172 1 0 206 S r0.1) (c + r0.2.2) (n + 6 * r0.2.2))) _
  refine q_Ru_seg (g2 := (1247, [(5, .int r0.2.1), (4, .int i), (3, .ref 270), (2, .ref 236), (1, .ref 64), (0, .ref 0)], [.ref 236], (q_kL (q_pt 172 1 0 206 S r0.1) (c + r0.2.2) (n + 6 * r0.2.2)))) 2 (fun _ _ => rfl) ?_
  refine q_Ru_call (v := (some (.int r1.2))) (h2 := (q_kL (q_pt 34 0 172 0 (q_pt 172 1 0 206 S r0.1) r1.1) (c + r0.2.2) (n + 6 * r0.2.2))) rfl rfl ?_ ?_
  · exact (q_emML rfl (fun _ => rfl) ((q_cE (φ := (q_oIM (c + r0.2.2) (n + 6 * r0.2.2))) er1 (dzt_M311_64 (q_vw 34 172 0 (q_pt 172 1 0 206 S r0.1)) (c + r0.2.2) (n + 6 * r0.2.2))).tb q_TB0_le)).le (Nat.le_of_ble_eq_true rfl)
  show q_Ru _ _ _ (1250, [(5, .int r0.2.1), (4, .int i), (3, .ref 270), (2, .ref 236), (1, .ref 64), (0, .ref 0)], [.int r1.2], (q_kL (q_pt 34 0 172 0 (q_pt 172 1 0 206 S r0.1) r1.1) (c + r0.2.2) (n + 6 * r0.2.2))) _
  refine q_Ru_seg (g2 := (23, [(4, .int (i + 4)), (6, .int r1.2), (5, .int r0.2.1), (3, .ref 270), (2, .ref 236), (1, .ref 64), (0, .ref 0)], [], (q_kL (q_pt 34 0 172 0 (q_pt 172 1 0 206 S r0.1) r1.1) (c + r0.2.2) (n + 6 * r0.2.2)))) 4 (fun _ _ => rfl) ?_
  exact q_Ru_xt (q_xt_mk (q_mn1 0 rfl (q_mn1 3 rfl (q_mn1 4 rfl (q_mn1 5 rfl (q_mn1 6 rfl q_mn0))))) rfl) h
set_option maxHeartbeats 4000000 in
theorem q_lw37 (z L : Nat) (xs : Nat → Int32) (S : q_S) (c n : Nat) (i : Int32) (hx0 : q_in i L = true) (hx1 : q_in (i + 1) L = true) (hx2 : q_in (i + 2) L = true) (hx3 : q_in (i + 3) L = true) (hi : decide (Int32.ofNat L - 4 < i) = false) (hv : xs i.toNatClampNeg &&& 63 = 37) (r0 : q_S × Int32 × Nat) (er0 : dz_X26_64_236 (q_vw 172 0 206 S) = some r0) (r1 : q_S × Bool) (er1 : dz_M312_64 (q_vw 34 172 0 (q_pt 172 1 0 206 S r0.1)) = r1) {o : q_Out} (h : q_Ru (q_TBs z L xs) 20 376 (23, [(4, .int (i + 4)), (3, .ref 270), (2, .ref 236), (1, .ref 64), (0, .ref 0)], [], (q_kL (q_pt 34 0 172 0 (q_pt 172 1 0 206 S r0.1) r1.1) (c + r0.2.2) (n + 6 * r0.2.2))) o) : q_Ru (q_TBs z L xs) 20 376 (23, [(4, .int i), (3, .ref 270), (2, .ref 236), (1, .ref 64), (0, .ref 0)], [], (q_kL S c n)) o := by
  refine q_Ru_seg (g2 := (29, [(4, .int i), (3, .ref 270), (2, .ref 236), (1, .ref 64), (0, .ref 0)], [.int ((Int32.ofNat L) - 4), .int i], (q_kL S c n))) 5 (fun _ _ => rfl) ?_
  refine q_Ru_rsF (g2 := (32, [(4, .int i), (3, .ref 270), (2, .ref 236), (1, .ref 64), (0, .ref 0)], [], (q_kL S c n))) rfl rfl hi ?_
  refine q_Ru_seg (g2 := (35, [(4, .int i), (3, .ref 270), (2, .ref 236), (1, .ref 64), (0, .ref 0)], [.int i, .ref 0], (q_kL S c n))) 2 (fun _ _ => rfl) ?_
  refine q_Ru_rsT (g2 := (36, [(4, .int i), (3, .ref 270), (2, .ref 236), (1, .ref 64), (0, .ref 0)], [.int (xs (i.toNatClampNeg))], (q_kL S c n))) rfl rfl hx0 ?_
  refine q_Ru_seg (g2 := (39, [(4, .int i), (3, .ref 270), (2, .ref 236), (1, .ref 64), (0, .ref 0)], [.int ((xs (i.toNatClampNeg)) &&& 63)], (q_kL S c n))) 2 (fun _ _ => rfl) ?_
  rw [hv]
  refine q_Ru_seg (g2 := (1257, [(4, .int i), (3, .ref 270), (2, .ref 236), (1, .ref 64), (0, .ref 0)], [.ref 270, .ref 64], (q_kL S c n))) 3 (fun _ _ => rfl) ?_
  refine q_Ru_call (v := (some (.int r0.2.1))) (h2 := (q_kL (q_pt 172 1 0 206 S r0.1) (c + r0.2.2) (n + 6 * r0.2.2))) rfl rfl ?_ ?_
  · exact (q_emXL rfl (fun _ => rfl) (dzt_X26_64_236 z L xs (q_vw 172 0 206 S) c n r0 er0)).le (Nat.le_of_ble_eq_true rfl)
  show q_Ru _ _ _ (1260, [(4, .int i), (3, .ref 270), (2, .ref 236), (1, .ref 64), (0, .ref 0)], [.int r0.2.1], (q_kL (q_pt 172 1 0 206 S r0.1) (c + r0.2.2) (n + 6 * r0.2.2))) _
  refine q_Ru_seg (g2 := (1263, [(5, .int r0.2.1), (4, .int i), (3, .ref 270), (2, .ref 236), (1, .ref 64), (0, .ref 0)], [.ref 236], (q_kL (q_pt 172 1 0 206 S r0.1) (c + r0.2.2) (n + 6 * r0.2.2)))) 2 (fun _ _ => rfl) ?_
  refine q_Ru_call (v := (some (.int (q_b r1.2)))) (h2 := (q_kL (q_pt 34 0 172 0 (q_pt 172 1 0 206 S r0.1) r1.1) (c + r0.2.2) (n + 6 * r0.2.2))) rfl rfl ?_ ?_
  · exact (q_emML rfl (fun _ => rfl) ((q_cE (φ := (q_oJM (c + r0.2.2) (n + 6 * r0.2.2))) er1 (dzt_M312_64 (q_vw 34 172 0 (q_pt 172 1 0 206 S r0.1)) (c + r0.2.2) (n + 6 * r0.2.2))).tb q_TB0_le)).le (Nat.le_of_ble_eq_true rfl)
  show q_Ru _ _ _ (1266, [(5, .int r0.2.1), (4, .int i), (3, .ref 270), (2, .ref 236), (1, .ref 64), (0, .ref 0)], [.int (q_b r1.2)], (q_kL (q_pt 34 0 172 0 (q_pt 172 1 0 206 S r0.1) r1.1) (c + r0.2.2) (n + 6 * r0.2.2))) _
  refine q_Ru_seg (g2 := (23, [(4, .int (i + 4)), (6, .int (q_b r1.2)), (5, .int r0.2.1), (3, .ref 270), (2, .ref 236), (1, .ref 64), (0, .ref 0)], [], (q_kL (q_pt 34 0 172 0 (q_pt 172 1 0 206 S r0.1) r1.1) (c + r0.2.2) (n + 6 * r0.2.2)))) 4 (fun _ _ => rfl) ?_
  exact q_Ru_xt (q_xt_mk (q_mn1 0 rfl (q_mn1 3 rfl (q_mn1 4 rfl (q_mn1 5 rfl (q_mn1 6 rfl q_mn0))))) rfl) h
set_option maxHeartbeats 4000000 in
theorem q_lw38 (z L : Nat) (xs : Nat → Int32) (S : q_S) (c n : Nat) (i : Int32) (hx0 : q_in i L = true) (hx1 : q_in (i + 1) L = true) (hx2 : q_in (i + 2) L = true) (hx3 : q_in (i + 3) L = true) (hi : decide (Int32.ofNat L - 4 < i) = false) (hv : xs i.toNatClampNeg &&& 63 = 38) (r0 : Int32) (er0 : dz_X66_64 (q_vw 172 0 206 S) = some r0) (r1 : q_S × Int32) (er1 : dz_M313_64 (q_vw 34 172 0 S) = some r1) {o : q_Out} (h : q_Ru (q_TBs z L xs) 20 376 (23, [(4, .int (i + 4)), (3, .ref 270), (2, .ref 236), (1, .ref 64), (0, .ref 0)], [], (q_kL (q_pt 34 0 172 0 S r1.1) c n)) o) : q_Ru (q_TBs z L xs) 20 376 (23, [(4, .int i), (3, .ref 270), (2, .ref 236), (1, .ref 64), (0, .ref 0)], [], (q_kL S c n)) o := by
  refine q_Ru_seg (g2 := (29, [(4, .int i), (3, .ref 270), (2, .ref 236), (1, .ref 64), (0, .ref 0)], [.int ((Int32.ofNat L) - 4), .int i], (q_kL S c n))) 5 (fun _ _ => rfl) ?_
  refine q_Ru_rsF (g2 := (32, [(4, .int i), (3, .ref 270), (2, .ref 236), (1, .ref 64), (0, .ref 0)], [], (q_kL S c n))) rfl rfl hi ?_
  refine q_Ru_seg (g2 := (35, [(4, .int i), (3, .ref 270), (2, .ref 236), (1, .ref 64), (0, .ref 0)], [.int i, .ref 0], (q_kL S c n))) 2 (fun _ _ => rfl) ?_
  refine q_Ru_rsT (g2 := (36, [(4, .int i), (3, .ref 270), (2, .ref 236), (1, .ref 64), (0, .ref 0)], [.int (xs (i.toNatClampNeg))], (q_kL S c n))) rfl rfl hx0 ?_
  refine q_Ru_seg (g2 := (39, [(4, .int i), (3, .ref 270), (2, .ref 236), (1, .ref 64), (0, .ref 0)], [.int ((xs (i.toNatClampNeg)) &&& 63)], (q_kL S c n))) 2 (fun _ _ => rfl) ?_
  rw [hv]
  refine q_Ru_seg (g2 := (1272, [(4, .int i), (3, .ref 270), (2, .ref 236), (1, .ref 64), (0, .ref 0)], [.ref 64], (q_kL S c n))) 2 (fun _ _ => rfl) ?_
  refine q_Ru_call (v := (some (.int r0))) (h2 := (q_kL S c n)) rfl rfl ?_ ?_
  · exact (q_emXLp rfl (fun _ => rfl) (dzt_X66_64 z L xs (q_vw 172 0 206 S) c n r0 er0)).le (Nat.le_of_ble_eq_true rfl)
  show q_Ru _ _ _ (1275, [(4, .int i), (3, .ref 270), (2, .ref 236), (1, .ref 64), (0, .ref 0)], [.int r0], (q_kL S c n)) _
  refine q_Ru_seg (g2 := (1277, [(4, .int i), (3, .ref 270), (2, .ref 236), (1, .ref 64), (0, .ref 0)], [.ref 236], (q_kL S c n))) 2 (fun _ _ => rfl) ?_
  refine q_Ru_call (v := (some (.int r1.2))) (h2 := (q_kL (q_pt 34 0 172 0 S r1.1) c n)) rfl rfl ?_ ?_
  · exact (q_emML rfl (fun _ => rfl) ((dzt_M313_64 (q_vw 34 172 0 S) c n r1 er1).tb q_TB0_le)).le (Nat.le_of_ble_eq_true rfl)
  show q_Ru _ _ _ (1280, [(4, .int i), (3, .ref 270), (2, .ref 236), (1, .ref 64), (0, .ref 0)], [.int r1.2], (q_kL (q_pt 34 0 172 0 S r1.1) c n)) _
  refine q_Ru_seg (g2 := (23, [(4, .int (i + 4)), (3, .ref 270), (2, .ref 236), (1, .ref 64), (0, .ref 0)], [], (q_kL (q_pt 34 0 172 0 S r1.1) c n))) 4 (fun _ _ => rfl) ?_
  exact q_Ru_xt (q_xt_mk (q_mn1 0 rfl (q_mn1 1 rfl (q_mn1 2 rfl (q_mn1 3 rfl (q_mn1 4 rfl q_mn0))))) rfl) h
set_option maxHeartbeats 4000000 in
theorem q_lw39 (z L : Nat) (xs : Nat → Int32) (S : q_S) (c n : Nat) (i : Int32) (hx0 : q_in i L = true) (hx1 : q_in (i + 1) L = true) (hx2 : q_in (i + 2) L = true) (hx3 : q_in (i + 3) L = true) (hi : decide (Int32.ofNat L - 4 < i) = false) (hv : xs i.toNatClampNeg &&& 63 = 39) (r0 : q_S × Int64) (er0 : dz_M314_64 (q_vw 34 172 0 S) = r0) {o : q_Out} (h : q_Ru (q_TBs z L xs) 20 376 (23, [(4, .int (i + 4)), (3, .ref 270), (2, .ref 236), (1, .ref 64), (0, .ref 0)], [], (q_kL (q_pt 34 0 172 0 S r0.1) c n)) o) : q_Ru (q_TBs z L xs) 20 376 (23, [(4, .int i), (3, .ref 270), (2, .ref 236), (1, .ref 64), (0, .ref 0)], [], (q_kL S c n)) o := by
  refine q_Ru_seg (g2 := (29, [(4, .int i), (3, .ref 270), (2, .ref 236), (1, .ref 64), (0, .ref 0)], [.int ((Int32.ofNat L) - 4), .int i], (q_kL S c n))) 5 (fun _ _ => rfl) ?_
  refine q_Ru_rsF (g2 := (32, [(4, .int i), (3, .ref 270), (2, .ref 236), (1, .ref 64), (0, .ref 0)], [], (q_kL S c n))) rfl rfl hi ?_
  refine q_Ru_seg (g2 := (35, [(4, .int i), (3, .ref 270), (2, .ref 236), (1, .ref 64), (0, .ref 0)], [.int i, .ref 0], (q_kL S c n))) 2 (fun _ _ => rfl) ?_
  refine q_Ru_rsT (g2 := (36, [(4, .int i), (3, .ref 270), (2, .ref 236), (1, .ref 64), (0, .ref 0)], [.int (xs (i.toNatClampNeg))], (q_kL S c n))) rfl rfl hx0 ?_
  refine q_Ru_seg (g2 := (39, [(4, .int i), (3, .ref 270), (2, .ref 236), (1, .ref 64), (0, .ref 0)], [.int ((xs (i.toNatClampNeg)) &&& 63)], (q_kL S c n))) 2 (fun _ _ => rfl) ?_
  rw [hv]
  refine q_Ru_seg (g2 := (1285, [(4, .int i), (3, .ref 270), (2, .ref 236), (1, .ref 64), (0, .ref 0)], [.ref 64], (q_kL S c n))) 2 (fun _ _ => rfl) ?_
  refine q_Ru_call (v := (some (.long (dz_X67_64 (q_vw 172 0 206 S))))) (h2 := (q_kL S c n)) rfl rfl ?_ ?_
  · exact (q_emXLp rfl (fun _ => rfl) (dzt_X67_64 z L xs (q_vw 172 0 206 S) c n)).le (Nat.le_of_ble_eq_true rfl)
  show q_Ru _ _ _ (1288, [(4, .int i), (3, .ref 270), (2, .ref 236), (1, .ref 64), (0, .ref 0)], [.long (dz_X67_64 (q_vw 172 0 206 S))], (q_kL S c n)) _
  refine q_Ru_seg (g2 := (1290, [(4, .int i), (3, .ref 270), (2, .ref 236), (1, .ref 64), (0, .ref 0)], [.ref 236], (q_kL S c n))) 2 (fun _ _ => rfl) ?_
  refine q_Ru_call (v := (some (.long r0.2))) (h2 := (q_kL (q_pt 34 0 172 0 S r0.1) c n)) rfl rfl ?_ ?_
  · exact (q_emML rfl (fun _ => rfl) ((q_cE (φ := (q_oKM c n)) er0 (dzt_M314_64 (q_vw 34 172 0 S) c n)).tb q_TB0_le)).le (Nat.le_of_ble_eq_true rfl)
  show q_Ru _ _ _ (1293, [(4, .int i), (3, .ref 270), (2, .ref 236), (1, .ref 64), (0, .ref 0)], [.long r0.2], (q_kL (q_pt 34 0 172 0 S r0.1) c n)) _
  refine q_Ru_seg (g2 := (23, [(4, .int (i + 4)), (3, .ref 270), (2, .ref 236), (1, .ref 64), (0, .ref 0)], [], (q_kL (q_pt 34 0 172 0 S r0.1) c n))) 4 (fun _ _ => rfl) ?_
  exact q_Ru_xt (q_xt_mk (q_mn1 0 rfl (q_mn1 1 rfl (q_mn1 2 rfl (q_mn1 3 rfl (q_mn1 4 rfl q_mn0))))) rfl) h
set_option maxHeartbeats 4000000 in
theorem q_lw40 (z L : Nat) (xs : Nat → Int32) (S : q_S) (c n : Nat) (i : Int32) (hx0 : q_in i L = true) (hx1 : q_in (i + 1) L = true) (hx2 : q_in (i + 2) L = true) (hx3 : q_in (i + 3) L = true) (hi : decide (Int32.ofNat L - 4 < i) = false) (hv : xs i.toNatClampNeg &&& 63 = 40) (r0 : UInt32) (er0 : dz_X68_64 (q_vw 172 0 206 S) = some r0) (r1 : q_S × UInt32) (er1 : dz_M315_64 (q_vw 34 172 0 S) = some r1) (hn0 : q_nnd (FP.f2d r0) = true) (hn1 : q_nnd (FP.f2d r1.2) = true) {o : q_Out} (h : q_Ru (q_TBs z L xs) 20 376 (23, [(4, .int (i + 4)), (3, .ref 270), (2, .ref 236), (1, .ref 64), (0, .ref 0)], [], (q_kL (q_pt 34 0 172 0 S r1.1) c n)) o) : q_Ru (q_TBs z L xs) 20 376 (23, [(4, .int i), (3, .ref 270), (2, .ref 236), (1, .ref 64), (0, .ref 0)], [], (q_kL S c n)) o := by
  refine q_Ru_seg (g2 := (29, [(4, .int i), (3, .ref 270), (2, .ref 236), (1, .ref 64), (0, .ref 0)], [.int ((Int32.ofNat L) - 4), .int i], (q_kL S c n))) 5 (fun _ _ => rfl) ?_
  refine q_Ru_rsF (g2 := (32, [(4, .int i), (3, .ref 270), (2, .ref 236), (1, .ref 64), (0, .ref 0)], [], (q_kL S c n))) rfl rfl hi ?_
  refine q_Ru_seg (g2 := (35, [(4, .int i), (3, .ref 270), (2, .ref 236), (1, .ref 64), (0, .ref 0)], [.int i, .ref 0], (q_kL S c n))) 2 (fun _ _ => rfl) ?_
  refine q_Ru_rsT (g2 := (36, [(4, .int i), (3, .ref 270), (2, .ref 236), (1, .ref 64), (0, .ref 0)], [.int (xs (i.toNatClampNeg))], (q_kL S c n))) rfl rfl hx0 ?_
  refine q_Ru_seg (g2 := (39, [(4, .int i), (3, .ref 270), (2, .ref 236), (1, .ref 64), (0, .ref 0)], [.int ((xs (i.toNatClampNeg)) &&& 63)], (q_kL S c n))) 2 (fun _ _ => rfl) ?_
  rw [hv]
  refine q_Ru_seg (g2 := (1298, [(4, .int i), (3, .ref 270), (2, .ref 236), (1, .ref 64), (0, .ref 0)], [.ref 64], (q_kL S c n))) 2 (fun _ _ => rfl) ?_
  refine q_Ru_call (v := (some (.float r0))) (h2 := (q_kL S c n)) rfl rfl ?_ ?_
  · exact (q_emXLp rfl (fun _ => rfl) (dzt_X68_64 z L xs (q_vw 172 0 206 S) c n r0 er0)).le (Nat.le_of_ble_eq_true rfl)
  show q_Ru _ _ _ (1301, [(4, .int i), (3, .ref 270), (2, .ref 236), (1, .ref 64), (0, .ref 0)], [.float r0], (q_kL S c n)) _
  refine q_Ru_st1 (g2 := (1302, [(4, .int i), (3, .ref 270), (2, .ref 236), (1, .ref 64), (0, .ref 0)], [.double (FP.f2d r0)], (q_kL S c n))) rfl (q_f2dv hn0) ?_
  refine q_Ru_seg (g2 := (1305, [(5, .double (FP.f2d r0)), (4, .int i), (3, .ref 270), (2, .ref 236), (1, .ref 64), (0, .ref 0)], [.ref 236], (q_kL S c n))) 2 (fun _ _ => rfl) ?_
  refine q_Ru_call (v := (some (.float r1.2))) (h2 := (q_kL (q_pt 34 0 172 0 S r1.1) c n)) rfl rfl ?_ ?_
  · exact (q_emML rfl (fun _ => rfl) ((dzt_M315_64 (q_vw 34 172 0 S) c n r1 er1).tb q_TB0_le)).le (Nat.le_of_ble_eq_true rfl)
  show q_Ru _ _ _ (1308, [(5, .double (FP.f2d r0)), (4, .int i), (3, .ref 270), (2, .ref 236), (1, .ref 64), (0, .ref 0)], [.float r1.2], (q_kL (q_pt 34 0 172 0 S r1.1) c n)) _
  refine q_Ru_st1 (g2 := (1309, [(5, .double (FP.f2d r0)), (4, .int i), (3, .ref 270), (2, .ref 236), (1, .ref 64), (0, .ref 0)], [.double (FP.f2d r1.2)], (q_kL (q_pt 34 0 172 0 S r1.1) c n))) rfl (q_f2dv hn1) ?_
  refine q_Ru_seg (g2 := (23, [(4, .int (i + 4)), (7, .double (FP.f2d r1.2)), (5, .double (FP.f2d r0)), (3, .ref 270), (2, .ref 236), (1, .ref 64), (0, .ref 0)], [], (q_kL (q_pt 34 0 172 0 S r1.1) c n))) 4 (fun _ _ => rfl) ?_
  exact q_Ru_xt (q_xt_mk (q_mn1 0 rfl (q_mn1 3 rfl (q_mn1 4 rfl (q_mn1 5 rfl (q_mn1 6 rfl q_mn0))))) rfl) h
set_option maxHeartbeats 4000000 in
theorem q_lw41 (z L : Nat) (xs : Nat → Int32) (S : q_S) (c n : Nat) (i : Int32) (hx0 : q_in i L = true) (hx1 : q_in (i + 1) L = true) (hx2 : q_in (i + 2) L = true) (hx3 : q_in (i + 3) L = true) (hi : decide (Int32.ofNat L - 4 < i) = false) (hv : xs i.toNatClampNeg &&& 63 = 41) (r0 : UInt64) (er0 : dz_X69_64 (q_vw 172 0 206 S) = some r0) (r1 : q_S × UInt64) (er1 : dz_M316_64 (q_vw 34 172 0 S) = some r1) {o : q_Out} (h : q_Ru (q_TBs z L xs) 20 376 (23, [(4, .int (i + 4)), (3, .ref 270), (2, .ref 236), (1, .ref 64), (0, .ref 0)], [], (q_kL (q_pt 34 0 172 0 S r1.1) c n)) o) : q_Ru (q_TBs z L xs) 20 376 (23, [(4, .int i), (3, .ref 270), (2, .ref 236), (1, .ref 64), (0, .ref 0)], [], (q_kL S c n)) o := by
  refine q_Ru_seg (g2 := (29, [(4, .int i), (3, .ref 270), (2, .ref 236), (1, .ref 64), (0, .ref 0)], [.int ((Int32.ofNat L) - 4), .int i], (q_kL S c n))) 5 (fun _ _ => rfl) ?_
  refine q_Ru_rsF (g2 := (32, [(4, .int i), (3, .ref 270), (2, .ref 236), (1, .ref 64), (0, .ref 0)], [], (q_kL S c n))) rfl rfl hi ?_
  refine q_Ru_seg (g2 := (35, [(4, .int i), (3, .ref 270), (2, .ref 236), (1, .ref 64), (0, .ref 0)], [.int i, .ref 0], (q_kL S c n))) 2 (fun _ _ => rfl) ?_
  refine q_Ru_rsT (g2 := (36, [(4, .int i), (3, .ref 270), (2, .ref 236), (1, .ref 64), (0, .ref 0)], [.int (xs (i.toNatClampNeg))], (q_kL S c n))) rfl rfl hx0 ?_
  refine q_Ru_seg (g2 := (39, [(4, .int i), (3, .ref 270), (2, .ref 236), (1, .ref 64), (0, .ref 0)], [.int ((xs (i.toNatClampNeg)) &&& 63)], (q_kL S c n))) 2 (fun _ _ => rfl) ?_
  rw [hv]
  refine q_Ru_seg (g2 := (1315, [(4, .int i), (3, .ref 270), (2, .ref 236), (1, .ref 64), (0, .ref 0)], [.ref 64], (q_kL S c n))) 2 (fun _ _ => rfl) ?_
  refine q_Ru_call (v := (some (.double r0))) (h2 := (q_kL S c n)) rfl rfl ?_ ?_
  · exact (q_emXLp rfl (fun _ => rfl) (dzt_X69_64 z L xs (q_vw 172 0 206 S) c n r0 er0)).le (Nat.le_of_ble_eq_true rfl)
  show q_Ru _ _ _ (1318, [(4, .int i), (3, .ref 270), (2, .ref 236), (1, .ref 64), (0, .ref 0)], [.double r0], (q_kL S c n)) _
  refine q_Ru_seg (g2 := (1321, [(5, .double r0), (4, .int i), (3, .ref 270), (2, .ref 236), (1, .ref 64), (0, .ref 0)], [.ref 236], (q_kL S c n))) 2 (fun _ _ => rfl) ?_
  refine q_Ru_call (v := (some (.double r1.2))) (h2 := (q_kL (q_pt 34 0 172 0 S r1.1) c n)) rfl rfl ?_ ?_
  · exact (q_emML rfl (fun _ => rfl) ((dzt_M316_64 (q_vw 34 172 0 S) c n r1 er1).tb q_TB0_le)).le (Nat.le_of_ble_eq_true rfl)
  show q_Ru _ _ _ (1324, [(5, .double r0), (4, .int i), (3, .ref 270), (2, .ref 236), (1, .ref 64), (0, .ref 0)], [.double r1.2], (q_kL (q_pt 34 0 172 0 S r1.1) c n)) _
  refine q_Ru_seg (g2 := (23, [(4, .int (i + 4)), (7, .double r1.2), (5, .double r0), (3, .ref 270), (2, .ref 236), (1, .ref 64), (0, .ref 0)], [], (q_kL (q_pt 34 0 172 0 S r1.1) c n))) 4 (fun _ _ => rfl) ?_
  exact q_Ru_xt (q_xt_mk (q_mn1 0 rfl (q_mn1 3 rfl (q_mn1 4 rfl (q_mn1 5 rfl (q_mn1 6 rfl q_mn0))))) rfl) h
set_option maxHeartbeats 4000000 in
theorem q_lw42 (z L : Nat) (xs : Nat → Int32) (S : q_S) (c n : Nat) (i : Int32) (hx0 : q_in i L = true) (hx1 : q_in (i + 1) L = true) (hx2 : q_in (i + 2) L = true) (hx3 : q_in (i + 3) L = true) (hi : decide (Int32.ofNat L - 4 < i) = false) (hv : xs i.toNatClampNeg &&& 63 = 42) {o : q_Out} (h : q_Ru (q_TBs z L xs) 20 376 (23, [(4, .int (i + 4)), (3, .ref 270), (2, .ref 236), (1, .ref 64), (0, .ref 0)], [], (q_kL S c n)) o) : q_Ru (q_TBs z L xs) 20 376 (23, [(4, .int i), (3, .ref 270), (2, .ref 236), (1, .ref 64), (0, .ref 0)], [], (q_kL S c n)) o := by
  refine q_Ru_seg (g2 := (29, [(4, .int i), (3, .ref 270), (2, .ref 236), (1, .ref 64), (0, .ref 0)], [.int ((Int32.ofNat L) - 4), .int i], (q_kL S c n))) 5 (fun _ _ => rfl) ?_
  refine q_Ru_rsF (g2 := (32, [(4, .int i), (3, .ref 270), (2, .ref 236), (1, .ref 64), (0, .ref 0)], [], (q_kL S c n))) rfl rfl hi ?_
  refine q_Ru_seg (g2 := (35, [(4, .int i), (3, .ref 270), (2, .ref 236), (1, .ref 64), (0, .ref 0)], [.int i, .ref 0], (q_kL S c n))) 2 (fun _ _ => rfl) ?_
  refine q_Ru_rsT (g2 := (36, [(4, .int i), (3, .ref 270), (2, .ref 236), (1, .ref 64), (0, .ref 0)], [.int (xs (i.toNatClampNeg))], (q_kL S c n))) rfl rfl hx0 ?_
  refine q_Ru_seg (g2 := (39, [(4, .int i), (3, .ref 270), (2, .ref 236), (1, .ref 64), (0, .ref 0)], [.int ((xs (i.toNatClampNeg)) &&& 63)], (q_kL S c n))) 2 (fun _ _ => rfl) ?_
  rw [hv]
  refine q_Ru_seg (g2 := (23, [(4, .int (i + 4)), (3, .ref 270), (2, .ref 236), (1, .ref 64), (0, .ref 0)], [], (q_kL S c n))) 3 (fun _ _ => rfl) ?_
  exact q_Ru_xt (q_xt_mk (q_mn1 0 rfl (q_mn1 1 rfl (q_mn1 2 rfl (q_mn1 3 rfl (q_mn1 4 rfl q_mn0))))) rfl) h
end
section
-- 57.pa
section
variable {s t y : q_S} {D : Nat → Prop} {g h : (Nat → Int32) × (Nat → Int32)}
theorem q_upc {f f2 : Nat → Int32} {i k : Nat} {v : Int32} (e : f k = f2 k) : upd f i v k = upd f2 i v k := by
  unfold upd
  split
  · rfl
  · exact e
/-- a write, done once more in a scene (its RAM, its registers) -/
def q_pu (a v : Int32) (g : (Nat → Int32) × (Nat → Int32)) : (Nat → Int32) × (Nat → Int32) :=
  cond (decide (a - 3840 < 0)) (upd g.1 ((a &&& 4095).toNatClampNeg) (v &&& 255), g.2) (cond (decide (a - 3840 < 48)) (cond (decide ((fun j => q_o1.getD j 0) ((a - 3840).toNatClampNeg) = 0)) g (g.1, upd g.2 ((a - 3840).toNatClampNeg) (v &&& ((fun j => q_o1.getD j 0) ((a - 3840).toNatClampNeg))))) (upd g.1 ((a &&& 4095).toNatClampNeg) (v &&& 255), g.2))
theorem q_pu66 (s : q_S) (a v : Int32) : ((dz_N112_66 s a v).1 3, (dz_N112_66 s a v).1 4) = q_pu a v (s.1 3, s.1 4) := by
  unfold dz_N112_66 q_pu
  cases decide (a - 3840 < 0) with
  | true => rfl
  | false =>
    cases decide (a - 3840 < 48) with
    | false => rfl
    | true =>
      cases decide ((fun j => q_o1.getD j 0) ((a - 3840).toNatClampNeg) = 0) with
      | true => rfl
      | false => rfl
theorem q_pu96 (s : q_S) (a v : Int32) : ((dz_N112_96 s a v).1 33, (dz_N112_96 s a v).1 34) = q_pu a v (s.1 33, s.1 34) := by
  unfold dz_N112_96 q_pu
  cases decide (a - 3840 < 0) with
  | true => rfl
  | false =>
    cases decide (a - 3840 < 48) with
    | false => rfl
    | true =>
      cases decide ((fun j => q_o1.getD j 0) ((a - 3840).toNatClampNeg) = 0) with
      | true => rfl
      | false => rfl
/-- alike in the RAM, and in the registers that D names -/
def q_sp (D : Nat → Prop) (g h : (Nat → Int32) × (Nat → Int32)) : Prop := (∀ k, k < 4096 → g.1 k = h.1 k) ∧ ∀ k, k < 48 → D k → g.2 k = h.2 k
theorem q_sp_r (g : (Nat → Int32) × (Nat → Int32)) : q_sp D g g := ⟨fun _ _ => rfl, fun _ _ _ => rfl⟩
theorem q_sp.symm (e : q_sp D g h) : q_sp D h g := ⟨fun k hk => (e.1 k hk).symm, fun k hk d => (e.2 k hk d).symm⟩
theorem q_sp.trans {l : (Nat → Int32) × (Nat → Int32)} (e : q_sp D g h) (f : q_sp D h l) : q_sp D g l := ⟨fun k hk => (e.1 k hk).trans (f.1 k hk), fun k hk d => (e.2 k hk d).trans (f.2 k hk d)⟩
theorem q_sp_le {D2 : Nat → Prop} (d : ∀ k, D2 k → D k) (e : q_sp D g h) : q_sp D2 g h := ⟨e.1, fun k hk d2 => e.2 k hk (d k d2)⟩
theorem q_sp_pu (a v : Int32) (e : q_sp D g h) : q_sp D (q_pu a v g) (q_pu a v h) := by
  unfold q_pu
  cases decide (a - 3840 < 0) with
  | true => exact ⟨fun k hk => q_upc (e.1 k hk), e.2⟩
  | false =>
    cases decide (a - 3840 < 48) with
    | false => exact ⟨fun k hk => q_upc (e.1 k hk), e.2⟩
    | true =>
      cases decide ((fun j => q_o1.getD j 0) ((a - 3840).toNatClampNeg) = 0) with
      | true => exact e
      | false => exact ⟨e.1, fun k hk d => q_upc (e.2 k hk d)⟩
/-- what stands in a frame's writes, done once more -/
def q_ap (w : Int32) (g : (Nat → Int32) × (Nat → Int32)) : (Nat → Int32) × (Nat → Int32) := cond (decide ((w >>> ((8 &&& 31) : Int32)) &&& 8191 = 4096)) (g.1, fun _ => 0) (q_pu ((w >>> ((8 &&& 31) : Int32)) &&& 8191) (w &&& 255) g)
theorem q_sp_ap (w : Int32) (e : q_sp D g h) : q_sp D (q_ap w g) (q_ap w h) := by
  unfold q_ap
  cases decide ((w >>> ((8 &&& 31) : Int32)) &&& 8191 = 4096) with
  | true => exact ⟨e.1, fun _ _ _ => rfl⟩
  | false => exact q_sp_pu _ _ e
/-- n of them, from the j-th on, up to those behind a time -/
def q_rp (W : Nat → Int32) (v : Int32) (n : Nat) : Nat → (Nat → Int32) × (Nat → Int32) → (Nat → Int32) × (Nat → Int32) := Nat.rec (motive := fun _ => Nat → (Nat → Int32) × (Nat → Int32) → (Nat → Int32) × (Nat → Int32)) (fun _ g => g) (fun _ r j g => cond (decide (v < (W j) >>> ((21 &&& 31) : Int32))) g (r (j + 1) (q_ap (W j) g))) n
theorem q_rp_s (W : Nat → Int32) (v : Int32) (n j : Nat) (g : (Nat → Int32) × (Nat → Int32)) : q_rp W v (n + 1) j g = cond (decide (v < (W j) >>> ((21 &&& 31) : Int32))) g (q_rp W v n (j + 1) (q_ap (W j) g)) := rfl
theorem q_sp_rp (W : Nat → Int32) (v : Int32) : ∀ (n j : Nat) (g h : (Nat → Int32) × (Nat → Int32)), q_sp D g h → q_sp D (q_rp W v n j g) (q_rp W v n j h) := by
  intro n
  induction n with
  | zero => intro j g h e; exact e
  | succ n ih =>
    intro j g h e
    rw [q_rp_s, q_rp_s]
    cases decide (v < (W j) >>> ((21 &&& 31) : Int32)) with
    | true => exact e
    | false => exact ih _ _ _ (q_sp_ap _ e)
/-- the cells of W that it asks of -/
theorem q_rp_W {W W2 : Nat → Int32} (v : Int32) : ∀ (n j : Nat) (g : (Nat → Int32) × (Nat → Int32)), (∀ i, j ≤ i → i < j + n → W i = W2 i) → q_rp W v n j g = q_rp W2 v n j g := by
  intro n
  induction n with
  | zero => intro j g e; rfl
  | succ n ih =>
    intro j g e
    rw [q_rp_s, q_rp_s, e j (Nat.le_refl j) (by omega), ih (j + 1) _ (fun i h1 h2 => e i (by omega) (by omega))]
/-- one more write, behind the time: nothing new -/
theorem q_rp_late {W : Nat → Int32} {v : Int32} : ∀ (n j : Nat) (g : (Nat → Int32) × (Nat → Int32)), v < (W (j + n)) >>> ((21 &&& 31) : Int32) → q_rp W v (n + 1) j g = q_rp W v n j g := by
  intro n
  induction n with
  | zero => intro j g e; rw [q_rp_s, show decide (v < (W j) >>> ((21 &&& 31) : Int32)) = true from decide_eq_true e]; rfl
  | succ n ih =>
    intro j g e
    rw [q_rp_s W v (n + 1), q_rp_s W v n j g, ih (j + 1) _ (by rw [show j + 1 + n = j + (n + 1) by omega]; exact e)]
/-- one more write, none behind the time: it is done once more -/
theorem q_rp_next {W : Nat → Int32} {v : Int32} : ∀ (n j : Nat) (g : (Nat → Int32) × (Nat → Int32)), (∀ i, j ≤ i → i < j + n + 1 → ¬ v < (W i) >>> ((21 &&& 31) : Int32)) → q_rp W v (n + 1) j g = q_ap (W (j + n)) (q_rp W v n j g) := by
  intro n
  induction n with
  | zero => intro j g e; rw [q_rp_s, show decide (v < (W j) >>> ((21 &&& 31) : Int32)) = false from decide_eq_false (e j (Nat.le_refl j) (by omega))]; rfl
  | succ n ih =>
    intro j g e
    rw [q_rp_s W v (n + 1), q_rp_s W v n j g, show decide (v < (W j) >>> ((21 &&& 31) : Int32)) = false from decide_eq_false (e j (Nat.le_refl j) (by omega)), cond_false, cond_false, ih (j + 1) _ (fun i h1 h2 => e i (by omega) (by omega)), show j + 1 + n = j + (n + 1) by omega]
/-- none is behind two times: they are alike -/
theorem q_rp_v {W : Nat → Int32} {v v2 : Int32} : ∀ (n j : Nat) (g : (Nat → Int32) × (Nat → Int32)), (∀ i, j ≤ i → i < j + n → ¬ v < (W i) >>> ((21 &&& 31) : Int32)) → (∀ i, j ≤ i → i < j + n → ¬ v2 < (W i) >>> ((21 &&& 31) : Int32)) → q_rp W v n j g = q_rp W v2 n j g := by
  intro n
  induction n with
  | zero => intro j g e e2; rfl
  | succ n ih =>
    intro j g e e2
    rw [q_rp_s, q_rp_s, decide_eq_false (e j (Nat.le_refl j) (by omega)), decide_eq_false (e2 j (Nat.le_refl j) (by omega)), cond_false, cond_false, ih (j + 1) _ (fun i h1 h2 => e i (by omega) (by omega)) (fun i h1 h2 => e2 i (by omega) (by omega))]
theorem q_318_96 : ∀ (n f : Nat) (s y : q_S) (v2 : Int32), v2.toInt + n = 48 → 0 ≤ v2.toInt → dz_N318_98_5 f s 0 v2 48 = some y → y.1 33 = s.1 33 ∧ (∀ k, k < v2.toNatClampNeg → y.1 34 k = s.1 34 k) ∧ ∀ k, v2.toNatClampNeg ≤ k → k < 48 → y.1 34 k = 0 := by
  intro n
  have z48 : (48 : Int32).toInt = 48 := rfl
  induction n with
  | zero =>
    intro f s y v2 hn h0 e
    cases f with
    | zero => cases e
    | succ f =>
      rw [dzs_N318_98_5] at e
      dsimp only at e
      rw [q_lt_F (show (48 : Int32).toInt ≤ v2.toInt by omega)] at e
      cases e
      refine ⟨rfl, fun _ _ => rfl, fun k h1 h2 => ?_⟩
      have : v2.toNatClampNeg = v2.toInt.toNat := rfl
      omega
  | succ n ih =>
    intro f s y v2 hn h0 e
    cases f with
    | zero => cases e
    | succ f =>
      have e1 : (v2 + 1).toInt = v2.toInt + 1 := q_addI ⟨by omega, by omega⟩ ⟨by decide, by decide⟩
      have hin : q_in v2 48 = true := q_in_rg (l := 0) (u := 47) ⟨h0, by omega⟩ (by decide) (by decide)
      rw [dzs_N318_98_5] at e
      dsimp only at e
      rw [q_lt_T (show v2.toInt < (48 : Int32).toInt by omega), cond_true, hin, cond_true] at e
      obtain ⟨a1, a2, a3⟩ := ih f _ _ _ (by omega) (by omega) e
      have en : v2.toNatClampNeg = v2.toInt.toNat := rfl
      have en1 : (v2 + 1).toNatClampNeg = v2.toInt.toNat + 1 := by show (v2 + 1).toInt.toNat = _; omega
      refine ⟨a1, fun k hk => (a2 k (by omega)).trans (if_neg (by omega)), fun k h1 h2 => ?_⟩
      by_cases q : k = v2.toNatClampNeg
      · exact (a2 k (by omega)).trans (if_pos q)
      · exact a3 k (by omega) h2
theorem q_113_96 (e : dz_N113_96 s = some y) : y.1 33 = s.1 33 ∧ ∀ k, k < 48 → y.1 34 k = 0 := by
  unfold dz_N113_96 dz_N318_98 at e
  cases e1 : dz_N318_98_5 5000 s 0 0 48 with
  | none => rw [e1] at e; cases e
  | some r =>
    rw [e1] at e
    cases e
    obtain ⟨a1, -, a3⟩ := q_318_96 48 5000 _ _ 0 (by decide) (by decide) e1
    exact ⟨a1, fun k hk => a3 k (Nat.zero_le k) hk⟩
theorem q_rp77 : ∀ (n f : Nat) (s y : q_S) (v1 v3 : Int32) (g : (Nat → Int32) × (Nat → Int32)), v3.toInt + n = (s.2.1 13 2).toInt → 0 ≤ v3.toInt → (s.2.1 13 2).toInt ≤ 3072 → q_sp (fun _ => True) (s.1 33, s.1 34) g → dz_N129_77_96_10 f s v1 v3 = some y → q_sp (fun _ => True) (y.1 33, y.1 34) (q_rp (s.1 17) v1 n v3.toNatClampNeg g) := by
  intro n
  have z3 : (3072 : Int32).toInt = 3072 := rfl
  induction n with
  | zero =>
    intro f s y v1 v3 g hn h0 hc hg e
    cases f with
    | zero => cases e
    | succ f =>
      rw [dzs_N129_77_96_10] at e
      dsimp only at e
      rw [q_lt_F (show (s.2.1 13 2).toInt ≤ v3.toInt by omega)] at e
      cases e
      exact hg
  | succ n ih =>
    intro f s y v1 v3 g hn h0 hc hg e
    cases f with
    | zero => cases e
    | succ f =>
      have e1 : (v3 + 1).toInt = v3.toInt + 1 := q_addI ⟨by omega, by omega⟩ ⟨by decide, by decide⟩
      have en1 : (v3 + 1).toNatClampNeg = v3.toNatClampNeg + 1 := by show (v3 + 1).toInt.toNat = v3.toInt.toNat + 1; omega
      have hin : q_in v3 3072 = true := q_in_rg (l := 0) (u := 3071) ⟨h0, by omega⟩ (by decide) (by decide)
      rw [dzs_N129_77_96_10] at e
      unfold q_let at e
      dsimp only at e
      rw [q_lt_T (show v3.toInt < (s.2.1 13 2).toInt by omega), cond_true, q_lt_T (show v3.toInt < (3072 : Int32).toInt by omega), cond_true, hin, cond_true] at e
      rw [q_rp_s]
      cases e4 : decide (v1 < ((s.1 17) (v3.toNatClampNeg)) >>> ((21 &&& 31) : Int32)) with
      | true => rw [e4] at e; cases e; exact hg
      | false =>
        rw [e4, cond_false] at e
        rw [cond_false]
        unfold q_ap
        cases e5 : decide ((((s.1 17) (v3.toNatClampNeg)) >>> ((8 &&& 31) : Int32)) &&& 8191 = 4096) with
        | true =>
          rw [e5, cond_true] at e
          cases e6 : dz_N113_96 s with
          | none => rw [e6] at e; cases e
          | some r =>
            rw [e6, Option.bind_some] at e
            obtain ⟨n2, n1⟩ := q_ns113 e6
            obtain ⟨a1, a2⟩ := q_113_96 e6
            have ec : r.2.1 13 2 = s.2.1 13 2 := by rw [n2]
            have q := ih f r y v1 (v3 + 1) (g.1, fun _ => 0) (by rw [ec]; omega) (by omega) (by rw [ec]; exact hc) ⟨fun k hk => (congrFun a1 k).trans (hg.1 k hk), fun k hk _ => a2 k hk⟩ e
            rw [n1 17 rfl, en1] at q
            exact q
        | false =>
          rw [e5, cond_false] at e
          obtain ⟨n2, n1⟩ := q_ns112 s ((((s.1 17) (v3.toNatClampNeg)) >>> ((8 &&& 31) : Int32)) &&& 8191) (((s.1 17) (v3.toNatClampNeg)) &&& 255)
          have pu := q_pu96 s ((((s.1 17) (v3.toNatClampNeg)) >>> ((8 &&& 31) : Int32)) &&& 8191) (((s.1 17) (v3.toNatClampNeg)) &&& 255)
          generalize dz_N112_96 s ((((s.1 17) (v3.toNatClampNeg)) >>> ((8 &&& 31) : Int32)) &&& 8191) (((s.1 17) (v3.toNatClampNeg)) &&& 255) = r at e n2 n1 pu
          have ec : r.2.1 13 2 = s.2.1 13 2 := by rw [n2]
          have q := ih f r y v1 (v3 + 1) (q_pu ((((s.1 17) (v3.toNatClampNeg)) >>> ((8 &&& 31) : Int32)) &&& 8191) (((s.1 17) (v3.toNatClampNeg)) &&& 255) g) (by rw [ec]; omega) (by omega) (by rw [ec]; exact hc) (by rw [pu]; exact q_sp_pu _ _ hg) e
          rw [n1 17 rfl, en1] at q
          exact q
theorem q_rpl77 {v1 : Int32} (h0 : 0 ≤ (s.2.1 13 2).toInt) (hc : (s.2.1 13 2).toInt ≤ 3072) (e : dz_N129_77_96 s v1 = some y) : q_sp (fun _ => True) (y.1 33, y.1 34) (q_rp (s.1 17) v1 (s.2.1 13 2).toInt.toNat 0 (s.1 15, s.1 16)) := by
  unfold dz_N129_77_96 q_let at e
  refine q_rp77 (s.2.1 13 2).toInt.toNat 5000 (dz_N110_96_78 s) y v1 0 (s.1 15, s.1 16) (by show (0 : Int) + _ = (s.2.1 13 2).toInt; omega) (by decide) hc ⟨fun k hk => ?_, fun k hk _ => ?_⟩ e
  · show va_cpy (s.1 15) (s.1 33) 0 0 4096 k = s.1 15 k
    unfold va_cpy
    rw [if_pos ⟨Nat.zero_le _, by omega⟩, Nat.zero_add, Nat.sub_zero]
  · show va_cpy (s.1 16) (s.1 34) 0 0 48 k = s.1 16 k
    unfold va_cpy
    rw [if_pos ⟨Nat.zero_le _, by omega⟩, Nat.zero_add, Nat.sub_zero]
theorem q_rp82 : ∀ (n f : Nat) (s y : q_S) (v1 v3 : Int32) (g : (Nat → Int32) × (Nat → Int32)), v3.toInt + n = (s.2.1 18 2).toInt → 0 ≤ v3.toInt → (s.2.1 18 2).toInt ≤ 3072 → q_sp (fun _ => True) (s.1 33, s.1 34) g → dz_N129_82_96_10 f s v1 v3 = some y → q_sp (fun _ => True) (y.1 33, y.1 34) (q_rp (s.1 22) v1 n v3.toNatClampNeg g) := by
  intro n
  have z3 : (3072 : Int32).toInt = 3072 := rfl
  induction n with
  | zero =>
    intro f s y v1 v3 g hn h0 hc hg e
    cases f with
    | zero => cases e
    | succ f =>
      rw [dzs_N129_82_96_10] at e
      dsimp only at e
      rw [q_lt_F (show (s.2.1 18 2).toInt ≤ v3.toInt by omega)] at e
      cases e
      exact hg
  | succ n ih =>
    intro f s y v1 v3 g hn h0 hc hg e
    cases f with
    | zero => cases e
    | succ f =>
      have e1 : (v3 + 1).toInt = v3.toInt + 1 := q_addI ⟨by omega, by omega⟩ ⟨by decide, by decide⟩
      have en1 : (v3 + 1).toNatClampNeg = v3.toNatClampNeg + 1 := by show (v3 + 1).toInt.toNat = v3.toInt.toNat + 1; omega
      have hin : q_in v3 3072 = true := q_in_rg (l := 0) (u := 3071) ⟨h0, by omega⟩ (by decide) (by decide)
      rw [dzs_N129_82_96_10] at e
      unfold q_let at e
      dsimp only at e
      rw [q_lt_T (show v3.toInt < (s.2.1 18 2).toInt by omega), cond_true, q_lt_T (show v3.toInt < (3072 : Int32).toInt by omega), cond_true, hin, cond_true] at e
      rw [q_rp_s]
      cases e4 : decide (v1 < ((s.1 22) (v3.toNatClampNeg)) >>> ((21 &&& 31) : Int32)) with
      | true => rw [e4] at e; cases e; exact hg
      | false =>
        rw [e4, cond_false] at e
        rw [cond_false]
        unfold q_ap
        cases e5 : decide ((((s.1 22) (v3.toNatClampNeg)) >>> ((8 &&& 31) : Int32)) &&& 8191 = 4096) with
        | true =>
          rw [e5, cond_true] at e
          cases e6 : dz_N113_96 s with
          | none => rw [e6] at e; cases e
          | some r =>
            rw [e6, Option.bind_some] at e
            obtain ⟨n2, n1⟩ := q_ns113 e6
            obtain ⟨a1, a2⟩ := q_113_96 e6
            have ec : r.2.1 18 2 = s.2.1 18 2 := by rw [n2]
            have q := ih f r y v1 (v3 + 1) (g.1, fun _ => 0) (by rw [ec]; omega) (by omega) (by rw [ec]; exact hc) ⟨fun k hk => (congrFun a1 k).trans (hg.1 k hk), fun k hk _ => a2 k hk⟩ e
            rw [n1 22 rfl, en1] at q
            exact q
        | false =>
          rw [e5, cond_false] at e
          obtain ⟨n2, n1⟩ := q_ns112 s ((((s.1 22) (v3.toNatClampNeg)) >>> ((8 &&& 31) : Int32)) &&& 8191) (((s.1 22) (v3.toNatClampNeg)) &&& 255)
          have pu := q_pu96 s ((((s.1 22) (v3.toNatClampNeg)) >>> ((8 &&& 31) : Int32)) &&& 8191) (((s.1 22) (v3.toNatClampNeg)) &&& 255)
          generalize dz_N112_96 s ((((s.1 22) (v3.toNatClampNeg)) >>> ((8 &&& 31) : Int32)) &&& 8191) (((s.1 22) (v3.toNatClampNeg)) &&& 255) = r at e n2 n1 pu
          have ec : r.2.1 18 2 = s.2.1 18 2 := by rw [n2]
          have q := ih f r y v1 (v3 + 1) (q_pu ((((s.1 22) (v3.toNatClampNeg)) >>> ((8 &&& 31) : Int32)) &&& 8191) (((s.1 22) (v3.toNatClampNeg)) &&& 255) g) (by rw [ec]; omega) (by omega) (by rw [ec]; exact hc) (by rw [pu]; exact q_sp_pu _ _ hg) e
          rw [n1 22 rfl, en1] at q
          exact q
theorem q_rpl82 {v1 : Int32} (h0 : 0 ≤ (s.2.1 18 2).toInt) (hc : (s.2.1 18 2).toInt ≤ 3072) (e : dz_N129_82_96 s v1 = some y) : q_sp (fun _ => True) (y.1 33, y.1 34) (q_rp (s.1 22) v1 (s.2.1 18 2).toInt.toNat 0 (s.1 20, s.1 21)) := by
  unfold dz_N129_82_96 q_let at e
  refine q_rp82 (s.2.1 18 2).toInt.toNat 5000 (dz_N110_96_83 s) y v1 0 (s.1 20, s.1 21) (by show (0 : Int) + _ = (s.2.1 18 2).toInt; omega) (by decide) hc ⟨fun k hk => ?_, fun k hk _ => ?_⟩ e
  · show va_cpy (s.1 20) (s.1 33) 0 0 4096 k = s.1 20 k
    unfold va_cpy
    rw [if_pos ⟨Nat.zero_le _, by omega⟩, Nat.zero_add, Nat.sub_zero]
  · show va_cpy (s.1 21) (s.1 34) 0 0 48 k = s.1 21 k
    unfold va_cpy
    rw [if_pos ⟨Nat.zero_le _, by omega⟩, Nat.zero_add, Nat.sub_zero]
/-- all registers but the flags and the hits -/
def q_Dn (k : Nat) : Prop := k ≠ 10 ∧ k ≠ 29 ∧ k ≠ 30
theorem q_c120 (h : q_sp q_Dn (s.1 3, s.1 4) (t.1 3, t.1 4)) (x : Int32) : dz_N120_66 s x = dz_N120_66 t x := by
  have r := q_rg_and (U := 4095) x 4095 (by decide) rfl
  have r1 := r.1
  have r2 := r.2
  exact h.1 _ (by show (x &&& 4095).toInt.toNat < 4096; omega)
theorem q_c118 (h : q_sp q_Dn (s.1 3, s.1 4) (t.1 3, t.1 4)) (a v : Int32) (hk : a.toNatClampNeg < 48) (d : q_Dn a.toNatClampNeg) : dz_N118_66 s a v = dz_N118_66 t a v := by
  unfold dz_N118_66
  rw [show s.1 4 a.toNatClampNeg = t.1 4 a.toNatClampNeg from h.2 _ hk d]
theorem q_c121 (h : q_sp q_Dn (s.1 3, s.1 4) (t.1 3, t.1 4)) (v : Int32) : dz_N121_66 s v = dz_N121_66 t v := by
  unfold dz_N121_66
  rw [show s.1 4 1 = t.1 4 1 from h.2 1 (by decide) (by unfold q_Dn; decide)]
theorem q_c119 (h : q_sp q_Dn (s.1 3, s.1 4) (t.1 3, t.1 4)) (a b : Int32) : dz_N119_66 s a b = dz_N119_66 t a b := by
  have e1 : s.1 4 1 = t.1 4 1 := h.2 1 (by decide) (by unfold q_Dn; decide)
  have e2 : s.1 4 2 = t.1 4 2 := h.2 2 (by decide) (by unfold q_Dn; decide)
  have e7 : s.1 4 7 = t.1 4 7 := h.2 7 (by decide) (by unfold q_Dn; decide)
  have e8 : s.1 4 8 = t.1 4 8 := h.2 8 (by decide) (by unfold q_Dn; decide)
  unfold dz_N119_66 dz_N114_66 dz_N115_66 q_let
  dsimp only
  rw [e1, e2, e7, e8]
  simp only [q_c120 h]
theorem q_c122 (h : q_sp q_Dn (s.1 3, s.1 4) (t.1 3, t.1 4)) : ∀ (n : Nat) (v1 v2 v3 v4 : Int32), 0 ≤ v4.toInt → v4.toInt ≤ 4 → dz_N122_66_5 n s v1 v2 v3 v4 = dz_N122_66_5 n t v1 v2 v3 v4 := by
  intro n
  have e7 : s.1 4 7 = t.1 4 7 := h.2 7 (by decide) (by unfold q_Dn; decide)
  induction n with
  | zero => intro v1 v2 v3 v4 h0 h4; rfl
  | succ n ih =>
    intro v1 v2 v3 v4 h0 h4
    rw [dzs_N122_66_5 n s, dzs_N122_66_5 n t]
    generalize dz_N122_66_5 n = kk at ih ⊢
    dsimp only
    by_cases q : v4.toInt < 4
    · have e4 : (v4 + 1).toInt = v4.toInt + 1 := q_addI ⟨by omega, by omega⟩ ⟨by decide, by decide⟩
      have i20 : ((20 : Int32) + v4).toInt = 20 + v4.toInt := q_addI ⟨by decide, by decide⟩ ⟨by omega, by omega⟩
      have i24 : ((24 : Int32) + v4).toInt = 24 + v4.toInt := q_addI ⟨by decide, by decide⟩ ⟨by omega, by omega⟩
      have n20 : ((20 : Int32) + v4).toNatClampNeg = 20 + v4.toInt.toNat := by show ((20 : Int32) + v4).toInt.toNat = _; omega
      have n24 : ((24 : Int32) + v4).toNatClampNeg = 24 + v4.toInt.toNat := by show ((24 : Int32) + v4).toInt.toNat = _; omega
      have c18 := q_c118 h 18 v4 (by decide) (by unfold q_Dn; decide)
      have c17 := q_c118 h 17 v4 (by decide) (by unfold q_Dn; decide)
      have c20 : s.1 4 ((20 : Int32) + v4).toNatClampNeg = t.1 4 ((20 : Int32) + v4).toNatClampNeg := h.2 _ (by omega) (by unfold q_Dn; omega)
      have c24 : s.1 4 ((24 : Int32) + v4).toNatClampNeg = t.1 4 ((24 : Int32) + v4).toNatClampNeg := h.2 _ (by omega) (by unfold q_Dn; omega)
      have ih9 : ∀ v1 v2 x, kk s v1 v2 x (v4 + 1) = kk t v1 v2 x (v4 + 1) := fun v1 v2 x => ih v1 v2 x (v4 + 1) (by omega) (by omega)
      unfold q_let
      dsimp only
      rw [c18, c17, c20, c24, e7]
      simp only [q_c120 h, ih9]
    · rw [q_lt_F (show (4 : Int32).toInt ≤ v4.toInt by show (4 : Int) ≤ _; omega)]
      rfl
theorem q_c123 (h : q_sp q_Dn (s.1 3, s.1 4) (t.1 3, t.1 4)) : ∀ (n : Nat) (v1 v2 v3 : Int32), 0 ≤ v3.toInt → v3.toInt ≤ 4 → dz_N123_66_2 n s v1 v2 v3 = dz_N123_66_2 n t v1 v2 v3 := by
  intro n
  have e28 : s.1 4 28 = t.1 4 28 := h.2 28 (by decide) (by unfold q_Dn; decide)
  induction n with
  | zero => intro v1 v2 v3 h0 h4; rfl
  | succ n ih =>
    intro v1 v2 v3 h0 h4
    have r := q_rg_and (U := 3) v1 3 (by decide) rfl
    have r1 := r.1
    have r2 := r.2
    have i3 : ((3 : Int32) + (v1 &&& 3)).toInt = 3 + (v1 &&& 3).toInt := q_addI ⟨by decide, by decide⟩ ⟨by omega, by omega⟩
    have n3 : ((3 : Int32) + (v1 &&& 3)).toNatClampNeg = 3 + (v1 &&& 3).toInt.toNat := by show ((3 : Int32) + (v1 &&& 3)).toInt.toNat = _; omega
    have c3 : s.1 4 ((3 : Int32) + (v1 &&& 3)).toNatClampNeg = t.1 4 ((3 : Int32) + (v1 &&& 3)).toNatClampNeg := h.2 _ (by omega) (by unfold q_Dn; omega)
    rw [dzs_N123_66_2 n s, dzs_N123_66_2 n t]
    generalize dz_N123_66_2 n = kk at ih ⊢
    dsimp only
    by_cases q : v3.toInt < 4
    · have e4 : (v3 + 1).toInt = v3.toInt + 1 := q_addI ⟨by omega, by omega⟩ ⟨by decide, by decide⟩
      have c19 := q_c118 h 19 v3 (by decide) (by unfold q_Dn; decide)
      have ih9 : ∀ v1 v2, kk s v1 v2 (v3 + 1) = kk t v1 v2 (v3 + 1) := fun v1 v2 => ih v1 v2 (v3 + 1) (by omega) (by omega)
      unfold dz_N123_66_39 q_let
      dsimp only
      rw [c19, c3, e28]
      simp only [q_c121 h, ih9]
    · rw [q_lt_F (show (4 : Int32).toInt ≤ v3.toInt by show (4 : Int) ≤ _; omega), c3]
      rfl
/-- a pixel's colour, out of RAM and registers -/
def q_col (s : q_S) (a b : Int32) : Option Int32 := (dz_N122_66 s a b).bind fun r => dz_N123_66 s (dz_N119_66 s a b) r
theorem q_col_c (h : q_sp q_Dn (s.1 3, s.1 4) (t.1 3, t.1 4)) (a b : Int32) : q_col s a b = q_col t a b := by
  have e1 : dz_N122_66 s a b = dz_N122_66 t a b := q_c122 h 5000 a b 0 0 (by decide) (by decide)
  have e2 : ∀ x y, dz_N123_66 s x y = dz_N123_66 t x y := fun x y => q_c123 h 5000 x y 0 (by decide) (by decide)
  unfold q_col
  rw [e1, q_c119 h]
  simp only [e2]
/-- a scene alone -/
def q_sn (g : (Nat → Int32) × (Nat → Int32)) : q_S := (fun i => cond (Nat.beq i 3) g.1 (cond (Nat.beq i 4) g.2 (fun _ => 0)), fun _ _ => 0, fun _ _ => 0)
theorem q_c122b (s : q_S) : ∀ n, dz_N122_96_5 n s = dz_N122_66_5 n (q_sn (s.1 33, s.1 34)) := by
  intro n
  induction n with
  | zero => rfl
  | succ n ih =>
    funext v1 v2 v3 v4
    rw [dzs_N122_96_5 n s, dzs_N122_66_5 n (q_sn (s.1 33, s.1 34))]
    generalize dz_N122_96_5 n = k1 at ih ⊢
    generalize dz_N122_66_5 n = k2 at ih ⊢
    dsimp only
    rw [ih]
    rfl
theorem q_c123b (s : q_S) : ∀ n, dz_N123_96_2 n s = dz_N123_66_2 n (q_sn (s.1 33, s.1 34)) := by
  intro n
  induction n with
  | zero => rfl
  | succ n ih =>
    funext v1 v2 v3
    rw [dzs_N123_96_2 n s, dzs_N123_66_2 n (q_sn (s.1 33, s.1 34))]
    generalize dz_N123_96_2 n = k1 at ih ⊢
    generalize dz_N123_66_2 n = k2 at ih ⊢
    dsimp only
    rw [ih]
    rfl
def q_cl (g : (Nat → Int32) × (Nat → Int32)) (a b : Int32) : Option Int32 := q_col (q_sn g) a b
theorem q_cl_c (e : q_sp q_Dn g h) (a b : Int32) : q_cl g a b = q_cl h a b := q_col_c (s := q_sn g) (t := q_sn h) e a b
theorem q_cl_s (s : q_S) (a b : Int32) : q_col s a b = q_cl (s.1 3, s.1 4) a b := q_col_c (s := s) (t := q_sn (s.1 3, s.1 4)) (q_sp_r _) a b
theorem q_col96 (s : q_S) (a b : Int32) : ((dz_N122_96 s a b).bind fun r => dz_N123_96 s (dz_N119_96 s a b) r) = q_cl (s.1 33, s.1 34) a b := by
  unfold q_cl q_col dz_N122_96 dz_N122_66 dz_N123_96 dz_N123_66
  rw [q_c122b, q_c123b]
  rfl
end
end
section
-- 57.pb
section
variable {s t y r : q_S} {c d u : Int} {g g2 : (Nat → Int32) × (Nat → Int32)} {e : Bool}
theorem q_lgc (a : Int64) : decide (lg_cmp a 0 = 0) = decide (a.toInt = 0) := by
  have z : (0 : Int64).toInt = 0 := rfl
  by_cases q : a.toInt = 0
  · rw [decide_eq_true q, Int64.toInt_inj.mp (q.trans z.symm)]
    rfl
  · rw [decide_eq_false q]
    apply decide_eq_false
    unfold lg_cmp
    by_cases q2 : a > 0
    · rw [if_pos q2]; decide
    · rw [if_neg q2, if_neg (fun q3 => q (by rw [q3]; rfl))]; decide
/-- is the even frame the present one -/
def q_evb (s : q_S) : Bool := decide (lg_cmp (((s.2.2 1 8) / 960) - ((s.2.2 1 8) / 960) / 2 * 2) 0 = 0)
theorem q_evI (h : 0 ≤ (s.2.2 1 8).toInt) : q_evb s = decide ((s.2.2 1 8).toInt / 960 % 2 = 0) := by
  have e1 : ((s.2.2 1 8) / 960).toInt = (s.2.2 1 8).toInt / 960 := q64_div h (by decide)
  have e2 : (((s.2.2 1 8) / 960) - ((s.2.2 1 8) / 960) / 2 * 2).toInt = (s.2.2 1 8).toInt / 960 % 2 := by
    rw [q64_rem (by omega) (by decide), e1]; rfl
  unfold q_evb
  rw [q_lgc, e2]
theorem q_86I (h : 0 ≤ (s.2.2 1 8).toInt) : (dz_N86_65 s).toInt = (s.2.2 1 8).toInt % 960 := by
  have e : ((s.2.2 1 8) - (s.2.2 1 8) / 960 * 960).toInt = (s.2.2 1 8).toInt % 960 := q64_rem h (by decide)
  show (((s.2.2 1 8) - (s.2.2 1 8) / 960 * 960).toInt32).toInt = _
  rw [q64_32 (by omega) (by omega), e]
theorem q_87I (h : 0 ≤ (s.2.2 1 8).toInt) : (dz_N87_65 s).toInt = (s.2.2 1 8).toInt % 24 := by
  have e : ((s.2.2 1 8) - (s.2.2 1 8) / 24 * 24).toInt = (s.2.2 1 8).toInt % 24 := q64_rem h (by decide)
  show (((s.2.2 1 8) - (s.2.2 1 8) / 24 * 24).toInt32).toInt = _
  rw [q64_32 (by omega) (by omega), e]
/-- a frame's start, writes, how many, time; what it finds at a time -/
def q_fS (e : Bool) (s : q_S) : (Nat → Int32) × (Nat → Int32) := cond e (s.1 15, s.1 16) (s.1 20, s.1 21)
def q_fW (e : Bool) (s : q_S) : Nat → Int32 := cond e (s.1 17) (s.1 22)
def q_fN (e : Bool) (s : q_S) : Int := (cond e (s.2.1 13 2) (s.2.1 18 2)).toInt
def q_fT (e : Bool) (s : q_S) : Int := (cond e (s.2.1 13 3) (s.2.1 18 3)).toInt
def q_fR (e : Bool) (v : Int32) (s : q_S) : (Nat → Int32) × (Nat → Int32) := q_rp (q_fW e s) v (q_fN e s).toNat 0 (q_fS e s)
/-- when a pixel is drawn -/
def q_mo (a b : Int32) : Int32 := (24 * (b + 4)) + ((a / 2) + 4)
def q_px (e : Bool) (s : q_S) (a b : Int32) : Prop :=
  ((q_mo a b).toInt < q_fT e s → some (s.1 31 ((32 * b) + a).toNatClampNeg) = q_cl (q_fR e (q_mo a b) s) a b) ∧
  (q_fT e s ≤ (q_mo a b).toInt → (q_mo a b).toInt < q_fT (!e) s → some (s.1 31 ((32 * b) + a).toNatClampNeg) = q_cl (q_fR (!e) (q_mo a b) s) a b) ∧
  (q_fT e s ≤ (q_mo a b).toInt → q_fT (!e) s ≤ (q_mo a b).toInt → s.1 31 ((32 * b) + a).toNatClampNeg = 0)
def q_iQ (e : Bool) (c d u : Int) (g : (Nat → Int32) × (Nat → Int32)) (s : q_S) : Prop :=
  q_evb s = e ∧ (0 ≤ (s.2.2 1 8).toInt ∧ (s.2.2 1 8).toInt ≤ u) ∧ q_fT e s = (s.2.2 1 8).toInt % 960 + d ∧ (0 ≤ q_fN e s ∧ q_fN e s ≤ c) ∧
  (∀ i : Nat, (i : Int) < q_fN e s → ((q_fW e s i) >>> ((21 &&& 31) : Int32)).toInt ≤ q_fT e s) ∧ q_sp q_Dn (q_fR e 2000 s) g ∧
  (0 ≤ q_fN (!e) s ∧ q_fN (!e) s < 3072) ∧ ∀ a b : Int32, q_rgz 0 31 a → q_rgz 0 31 b → q_px e s a b
def q_iP (c d u : Int) (s : q_S) : Prop := c < 3072 → u ≤ 1000000 → ∃ e, q_iQ e c d u (s.1 3, s.1 4) s
theorem q_iQ_g (k : q_sp q_Dn g g2) (h : q_iQ e c d u g s) : q_iQ e c d u g2 s := by
  obtain ⟨h1, h2, h3, h4, h5, h6, h7, h8⟩ := h
  exact ⟨h1, h2, h3, h4, h5, h6.trans k, h7, h8⟩
theorem q_iQ_eq (h15 : t.1 15 = s.1 15) (h16 : t.1 16 = s.1 16) (h17 : t.1 17 = s.1 17) (h20 : t.1 20 = s.1 20) (h21 : t.1 21 = s.1 21) (h22 : t.1 22 = s.1 22) (h31 : t.1 31 = s.1 31) (i2 : t.2.1 13 2 = s.2.1 13 2) (i3 : t.2.1 13 3 = s.2.1 13 3) (j2 : t.2.1 18 2 = s.2.1 18 2) (j3 : t.2.1 18 3 = s.2.1 18 3) (l : t.2.2 1 8 = s.2.2 1 8) (h : q_iQ e c d u g s) : q_iQ e c d u g t := by
  unfold q_iQ q_px q_evb q_fR q_fS q_fW q_fN q_fT at *
  rw [h15, h16, h17, h20, h21, h22, h31, i2, i3, j2, j3, l]
  exact h
theorem q_iP_eq (h3 : t.1 3 = s.1 3) (h4 : t.1 4 = s.1 4) (h15 : t.1 15 = s.1 15) (h16 : t.1 16 = s.1 16) (h17 : t.1 17 = s.1 17) (h20 : t.1 20 = s.1 20) (h21 : t.1 21 = s.1 21) (h22 : t.1 22 = s.1 22) (h31 : t.1 31 = s.1 31) (i2 : t.2.1 13 2 = s.2.1 13 2) (i3 : t.2.1 13 3 = s.2.1 13 3) (j2 : t.2.1 18 2 = s.2.1 18 2) (j3 : t.2.1 18 3 = s.2.1 18 3) (l : t.2.2 1 8 = s.2.2 1 8) (h : q_iP c d u s) : q_iP c d u t := fun hc hu => by
  obtain ⟨e, q⟩ := h hc hu
  refine ⟨e, ?_⟩
  rw [h3, h4]
  exact q_iQ_eq h15 h16 h17 h20 h21 h22 h31 i2 i3 j2 j3 l q
/-- the flags and the hits may change -/
theorem q_iP_4 {k : Nat} (v : Int32) (hk : ¬ q_Dn k) (h : q_iP c d u s) : q_iP c d u (q_sA s 4 (upd (s.1 4) k v)) := fun hc hu => by
  obtain ⟨e, q⟩ := h hc hu
  have q2 : q_iQ e c d u (s.1 3, s.1 4) (q_sA s 4 (upd (s.1 4) k v)) := q_iQ_eq (s := s) rfl rfl rfl rfl rfl rfl rfl rfl rfl rfl rfl rfl q
  refine ⟨e, q_iQ_g (g := (s.1 3, s.1 4)) ⟨fun _ _ => rfl, fun j _ dj => ?_⟩ q2⟩
  have n : ¬ j = k := fun z => hk (by rw [← z]; exact dj)
  exact (show upd (s.1 4) k v j = s.1 4 j from if_neg n).symm
theorem q_iP_mono {c2 u2 : Int} (hc2 : c ≤ c2) (hu2 : u ≤ u2) (h : q_iP c d u s) : q_iP c2 d u2 s := fun hc hu => by
  obtain ⟨e, h1, h2, h3, h4, h5, h6, h7, h8⟩ := h (by omega) (by omega)
  exact ⟨e, h1, ⟨h2.1, by omega⟩, h3, ⟨h4.1, by omega⟩, h5, h6, h7, h8⟩
/-- what a write is kept as -/
theorem q_wrd9 {t a v : Int32} (ht : q_rgz 0 960 t) (ha : q_rgz 0 4096 a) (hv : q_rgz 0 255 v) : ((((t <<< (21 &&& 31)) + (a <<< (8 &&& 31))) + v) >>> ((21 &&& 31) : Int32)).toInt = t.toInt ∧ ((((t <<< (21 &&& 31)) + (a <<< (8 &&& 31))) + v) >>> ((8 &&& 31) : Int32)) &&& 8191 = a ∧ (((t <<< (21 &&& 31)) + (a <<< (8 &&& 31))) + v) &&& 255 = v := by
  have e1 : (t <<< (21 &&& 31)).toInt = t.toInt * 2 ^ 21 := q_shlI 21 (by decide) (by decide) ht (by decide) (by decide)
  have e2 : (a <<< (8 &&& 31)).toInt = a.toInt * 2 ^ 8 := q_shlI 8 (by decide) (by decide) ha (by decide) (by decide)
  obtain ⟨t0, t1⟩ := ht
  obtain ⟨a0, a1⟩ := ha
  obtain ⟨v0, v1⟩ := hv
  have e3 : ((t <<< (21 &&& 31)) + (a <<< (8 &&& 31))).toInt = t.toInt * 2097152 + a.toInt * 256 := by rw [q_add9 (by omega) (by omega)]; omega
  have e4 : (((t <<< (21 &&& 31)) + (a <<< (8 &&& 31))) + v).toInt = t.toInt * 2097152 + a.toInt * 256 + v.toInt := by rw [q_add9 (by omega) (by omega)]; omega
  generalize ((t <<< (21 &&& 31)) + (a <<< (8 &&& 31))) + v = w at e4 ⊢
  have s21 : (w >>> ((21 &&& 31) : Int32)).toInt = w.toInt / 2 ^ 21 := q_shrI 21 (by decide) (by decide)
  have s8 : (w >>> ((8 &&& 31) : Int32)).toInt = w.toInt / 2 ^ 8 := q_shrI 8 (by decide) (by decide)
  refine ⟨?_, ?_, ?_⟩
  · rw [s21, e4]; omega
  · apply Int32.toInt_inj.mp
    rw [q_andI 13 (by decide) (l := 0) (u := 2147483647) ⟨by rw [s8, e4]; omega, by rw [s8, e4]; omega⟩ (by decide) (show (8191 : Int32).toInt = 2 ^ 13 - 1 by decide), s8, e4]
    omega
  · apply Int32.toInt_inj.mp
    rw [q_andI 8 (by decide) (l := 0) (u := 2147483647) ⟨by rw [e4]; omega, by rw [e4]; omega⟩ (by decide) (show (255 : Int32).toInt = 2 ^ 8 - 1 by decide), e4]
    omega
theorem q_nlt {v w : Int32} (h : w.toInt ≤ v.toInt) : ¬ v < w := fun q => by have := Int32.lt_iff_toInt_lt.mp q; omega
/-- a write is kept -/
theorem q_kpp77 {a v : Int32} (ha : q_rgz 0 4096 a) (hv : q_rgz 0 255 v) (hd : 0 ≤ d ∧ d ≤ 1) (hc : c + 1 < 3072) (h : q_iQ true c d u g r) : q_iQ true (c + 1) d u (cond (decide (a = 4096)) (g.1, fun _ => 0) (q_pu a v g)) (dz_N128_77 r a v) := by
  obtain ⟨he, ⟨y0, y1⟩, ht, ⟨n0, n1⟩, hw, hcur, hot, hp⟩ := h
  have n0 : 0 ≤ (r.2.1 13 2).toInt := n0
  have n1 : (r.2.1 13 2).toInt ≤ c := n1
  have ht : (r.2.1 13 3).toInt = (r.2.2 1 8).toInt % 960 + d := ht
  have hw : ∀ i : Nat, (i : Int) < (r.2.1 13 2).toInt → ((r.1 17 i) >>> ((21 &&& 31) : Int32)).toInt ≤ (r.2.1 13 3).toInt := hw
  have z0 : (0 : Int32).toInt = 0 := rfl
  have z3 : (3072 : Int32).toInt = 3072 := rfl
  have z2 : (2000 : Int32).toInt = 2000 := rfl
  obtain ⟨w1, w2, w3⟩ := q_wrd9 (t := r.2.1 13 3) ⟨by omega, by omega⟩ ha hv
  unfold dz_N128_77
  rw [q_lt_F (show (0 : Int32).toInt ≤ (r.2.1 13 2).toInt by omega), cond_false, q_lt_T (show (r.2.1 13 2).toInt < (3072 : Int32).toInt by omega), cond_true]
  have eN : ((r.2.1 13 2) + 1).toInt = (r.2.1 13 2).toInt + 1 := q_addI ⟨by omega, by omega⟩ ⟨by decide, by decide⟩
  have en : (r.2.1 13 2).toNatClampNeg = (r.2.1 13 2).toInt.toNat := rfl
  generalize hW : ((((r.2.1 13 3) <<< (21 &&& 31)) + (a <<< (8 &&& 31))) + v) = w at w1 w2 w3 ⊢
  have hw2 : ∀ i : Nat, (i : Int) < (r.2.1 13 2).toInt + 1 → ((upd (r.1 17) ((r.2.1 13 2).toNatClampNeg) w i) >>> ((21 &&& 31) : Int32)).toInt ≤ (r.2.1 13 3).toInt := by
    intro i hi
    unfold upd
    by_cases q : i = (r.2.1 13 2).toNatClampNeg
    · rw [if_pos q, w1]; exact Int.le_refl _
    · rw [if_neg q]; exact hw i (by omega)
  have e9 : ∀ V, q_rp (upd (r.1 17) ((r.2.1 13 2).toNatClampNeg) w) V (r.2.1 13 2).toInt.toNat 0 (q_fS true r) = q_fR true V r := fun V => q_rp_W V _ _ _ (fun i _ hi => if_neg (by omega))
  have eT : ((r.2.1 13 2) + 1).toInt.toNat = (r.2.1 13 2).toInt.toNat + 1 := by omega
  refine ⟨he, ⟨y0, y1⟩, ht, ⟨by show 0 ≤ ((r.2.1 13 2) + 1).toInt; omega, by show ((r.2.1 13 2) + 1).toInt ≤ c + 1; omega⟩, ?_, ?_, hot, fun i j hi hj => ?_⟩
  · intro i hi
    have hi : (i : Int) < ((r.2.1 13 2) + 1).toInt := hi
    exact hw2 i (by omega)
  · show q_sp q_Dn (q_rp (upd (r.1 17) ((r.2.1 13 2).toNatClampNeg) w) 2000 ((r.2.1 13 2) + 1).toInt.toNat 0 (q_fS true r)) _
    rw [eT, q_rp_next _ _ _ (fun i _ hi => q_nlt (by have := hw2 i (by omega); omega)), e9 2000, Nat.zero_add, show upd (r.1 17) ((r.2.1 13 2).toNatClampNeg) w (r.2.1 13 2).toInt.toNat = w from if_pos rfl]
    have q := q_sp_ap w hcur
    unfold q_ap at q ⊢
    rw [w2, w3] at q ⊢
    exact q
  · obtain ⟨p1, p2, p3⟩ := hp i j hi hj
    refine ⟨fun hm => ?_, p2, p3⟩
    have hm : (q_mo i j).toInt < (r.2.1 13 3).toInt := hm
    have q := p1 hm
    show some (r.1 31 ((32 * j) + i).toNatClampNeg) = q_cl (q_rp (upd (r.1 17) ((r.2.1 13 2).toNatClampNeg) w) (q_mo i j) ((r.2.1 13 2) + 1).toInt.toNat 0 (q_fS true r)) i j
    rw [eT, q_rp_late _ _ _ (by rw [Nat.zero_add, show upd (r.1 17) ((r.2.1 13 2).toNatClampNeg) w (r.2.1 13 2).toInt.toNat = w from if_pos rfl]; exact Int32.lt_iff_toInt_lt.mpr (by omega)), e9 (q_mo i j)]
    exact q
/-- a write is kept -/
theorem q_kpp82 {a v : Int32} (ha : q_rgz 0 4096 a) (hv : q_rgz 0 255 v) (hd : 0 ≤ d ∧ d ≤ 1) (hc : c + 1 < 3072) (h : q_iQ false c d u g r) : q_iQ false (c + 1) d u (cond (decide (a = 4096)) (g.1, fun _ => 0) (q_pu a v g)) (dz_N128_82 r a v) := by
  obtain ⟨he, ⟨y0, y1⟩, ht, ⟨n0, n1⟩, hw, hcur, hot, hp⟩ := h
  have n0 : 0 ≤ (r.2.1 18 2).toInt := n0
  have n1 : (r.2.1 18 2).toInt ≤ c := n1
  have ht : (r.2.1 18 3).toInt = (r.2.2 1 8).toInt % 960 + d := ht
  have hw : ∀ i : Nat, (i : Int) < (r.2.1 18 2).toInt → ((r.1 22 i) >>> ((21 &&& 31) : Int32)).toInt ≤ (r.2.1 18 3).toInt := hw
  have z0 : (0 : Int32).toInt = 0 := rfl
  have z3 : (3072 : Int32).toInt = 3072 := rfl
  have z2 : (2000 : Int32).toInt = 2000 := rfl
  obtain ⟨w1, w2, w3⟩ := q_wrd9 (t := r.2.1 18 3) ⟨by omega, by omega⟩ ha hv
  unfold dz_N128_82
  rw [q_lt_F (show (0 : Int32).toInt ≤ (r.2.1 18 2).toInt by omega), cond_false, q_lt_T (show (r.2.1 18 2).toInt < (3072 : Int32).toInt by omega), cond_true]
  have eN : ((r.2.1 18 2) + 1).toInt = (r.2.1 18 2).toInt + 1 := q_addI ⟨by omega, by omega⟩ ⟨by decide, by decide⟩
  have en : (r.2.1 18 2).toNatClampNeg = (r.2.1 18 2).toInt.toNat := rfl
  generalize hW : ((((r.2.1 18 3) <<< (21 &&& 31)) + (a <<< (8 &&& 31))) + v) = w at w1 w2 w3 ⊢
  have hw2 : ∀ i : Nat, (i : Int) < (r.2.1 18 2).toInt + 1 → ((upd (r.1 22) ((r.2.1 18 2).toNatClampNeg) w i) >>> ((21 &&& 31) : Int32)).toInt ≤ (r.2.1 18 3).toInt := by
    intro i hi
    unfold upd
    by_cases q : i = (r.2.1 18 2).toNatClampNeg
    · rw [if_pos q, w1]; exact Int.le_refl _
    · rw [if_neg q]; exact hw i (by omega)
  have e9 : ∀ V, q_rp (upd (r.1 22) ((r.2.1 18 2).toNatClampNeg) w) V (r.2.1 18 2).toInt.toNat 0 (q_fS false r) = q_fR false V r := fun V => q_rp_W V _ _ _ (fun i _ hi => if_neg (by omega))
  have eT : ((r.2.1 18 2) + 1).toInt.toNat = (r.2.1 18 2).toInt.toNat + 1 := by omega
  refine ⟨he, ⟨y0, y1⟩, ht, ⟨by show 0 ≤ ((r.2.1 18 2) + 1).toInt; omega, by show ((r.2.1 18 2) + 1).toInt ≤ c + 1; omega⟩, ?_, ?_, hot, fun i j hi hj => ?_⟩
  · intro i hi
    have hi : (i : Int) < ((r.2.1 18 2) + 1).toInt := hi
    exact hw2 i (by omega)
  · show q_sp q_Dn (q_rp (upd (r.1 22) ((r.2.1 18 2).toNatClampNeg) w) 2000 ((r.2.1 18 2) + 1).toInt.toNat 0 (q_fS false r)) _
    rw [eT, q_rp_next _ _ _ (fun i _ hi => q_nlt (by have := hw2 i (by omega); omega)), e9 2000, Nat.zero_add, show upd (r.1 22) ((r.2.1 18 2).toNatClampNeg) w (r.2.1 18 2).toInt.toNat = w from if_pos rfl]
    have q := q_sp_ap w hcur
    unfold q_ap at q ⊢
    rw [w2, w3] at q ⊢
    exact q
  · obtain ⟨p1, p2, p3⟩ := hp i j hi hj
    refine ⟨fun hm => ?_, p2, p3⟩
    have hm : (q_mo i j).toInt < (r.2.1 18 3).toInt := hm
    have q := p1 hm
    show some (r.1 31 ((32 * j) + i).toNatClampNeg) = q_cl (q_rp (upd (r.1 22) ((r.2.1 18 2).toNatClampNeg) w) (q_mo i j) ((r.2.1 18 2) + 1).toInt.toNat 0 (q_fS false r)) i j
    rw [eT, q_rp_late _ _ _ (by rw [Nat.zero_add, show upd (r.1 22) ((r.2.1 18 2).toNatClampNeg) w (r.2.1 18 2).toInt.toNat = w from if_pos rfl]; exact Int32.lt_iff_toInt_lt.mpr (by omega)), e9 (q_mo i j)]
    exact q
theorem q_112k (s : q_S) (a v : Int32) : (dz_N112_66 s a v).2 = s.2 ∧ ∀ i, (Nat.beq i 3 || Nat.beq i 4) = false → (dz_N112_66 s a v).1 i = s.1 i := by
  have k3 : ∀ f : Nat → Int32, (q_sA s 3 f).2 = s.2 ∧ ∀ i, (Nat.beq i 3 || Nat.beq i 4) = false → (q_sA s 3 f).1 i = s.1 i := fun f => ⟨rfl, fun i hi => q_uA_ne _ _ (by cases h : Nat.beq i 3 with | false => rfl | true => rw [h] at hi; cases hi)⟩
  have k4 : ∀ f : Nat → Int32, (q_sA s 4 f).2 = s.2 ∧ ∀ i, (Nat.beq i 3 || Nat.beq i 4) = false → (q_sA s 4 f).1 i = s.1 i := fun f => ⟨rfl, fun i hi => q_uA_ne _ _ (by cases h : Nat.beq i 4 with | false => rfl | true => rw [h, Bool.or_true] at hi; cases hi)⟩
  unfold dz_N112_66
  cases decide (a - 3840 < 0) with
  | true => exact k3 _
  | false =>
    cases decide (a - 3840 < 48) with
    | false => exact k3 _
    | true =>
      cases decide ((fun j => q_o1.getD j 0) ((a - 3840).toNatClampNeg) = 0) with
      | true => exact ⟨rfl, fun _ _ => rfl⟩
      | false => exact k4 _
theorem q_iQ_2 (h2 : t.2 = s.2) (h1 : ∀ i, (Nat.beq i 3 || Nat.beq i 4) = false → t.1 i = s.1 i) (h : q_iQ e c d u g s) : q_iQ e c d u g t := q_iQ_eq (h1 15 rfl) (h1 16 rfl) (h1 17 rfl) (h1 20 rfl) (h1 21 rfl) (h1 22 rfl) (h1 31 rfl) (by rw [h2]) (by rw [h2]) (by rw [h2]) (by rw [h2]) (by rw [h2]) h
theorem q_keep34 (r : q_S) (a v : Int32) : (dz_N128_77 r a v).1 3 = r.1 3 ∧ (dz_N128_77 r a v).1 4 = r.1 4 ∧ (dz_N128_82 r a v).1 3 = r.1 3 ∧ (dz_N128_82 r a v).1 4 = r.1 4 := by
  unfold dz_N128_77 dz_N128_82
  refine ⟨?_, ?_, ?_, ?_⟩
  · cases decide (r.2.1 13 2 < 0) <;> cases decide (r.2.1 13 2 < 3072) <;> rfl
  · cases decide (r.2.1 13 2 < 0) <;> cases decide (r.2.1 13 2 < 3072) <;> rfl
  · cases decide (r.2.1 18 2 < 0) <;> cases decide (r.2.1 18 2 < 3072) <;> rfl
  · cases decide (r.2.1 18 2 < 0) <;> cases decide (r.2.1 18 2 < 3072) <;> rfl
/-- a write -/
theorem q_iP_put {a v : Int32} (ha : q_rgz 0 4095 a) (hv : q_rgz 0 255 v) (hd : 0 ≤ d ∧ d ≤ 1) (h : q_iP c d u s) : q_iP (c + 1) d u (cond (q_evb (dz_N112_66 s a v)) (dz_N128_77 (dz_N112_66 s a v) a v) (dz_N128_82 (dz_N112_66 s a v) a v)) := fun hc hu => by
  obtain ⟨e, q⟩ := h (by omega) hu
  obtain ⟨k2, k1⟩ := q_112k s a v
  have pu := q_pu66 s a v
  have q2 := q_iQ_2 k2 k1 q
  generalize dz_N112_66 s a v = r at k2 k1 pu q2
  have na : decide (a = 4096) = false := decide_eq_false (fun z => by have h9 := ha.2; rw [z] at h9; exact absurd h9 (by decide))
  obtain ⟨p3, p4, p5, p6⟩ := q_keep34 r a v
  cases e with
  | true =>
    rw [show q_evb r = true from q2.1, cond_true]
    have w := q_kpp77 (v := v) ⟨ha.1, Int.le_trans ha.2 (by decide)⟩ hv hd hc q2
    rw [na, cond_false, ← pu] at w
    exact ⟨true, by rw [p3, p4]; exact w⟩
  | false =>
    rw [show q_evb r = false from q2.1, cond_false]
    have w := q_kpp82 (v := v) ⟨ha.1, Int.le_trans ha.2 (by decide)⟩ hv hd hc q2
    rw [na, cond_false, ← pu] at w
    exact ⟨false, by rw [p5, p6]; exact w⟩
/-- the registers are cleared -/
theorem q_318_66 : ∀ (n f : Nat) (s y : q_S) (v2 : Int32), v2.toInt + n = 48 → 0 ≤ v2.toInt → dz_N318_68_5 f s 0 v2 48 = some y → y.2 = s.2 ∧ (∀ i, Nat.beq i 4 = false → y.1 i = s.1 i) ∧ ∀ k, v2.toNatClampNeg ≤ k → k < 48 → y.1 4 k = 0 := by
  have F : ∀ (n f : Nat) (s y : q_S) (v2 : Int32), v2.toInt + n = 48 → 0 ≤ v2.toInt → dz_N318_68_5 f s 0 v2 48 = some y → (y.2 = s.2 ∧ ∀ i, Nat.beq i 4 = false → y.1 i = s.1 i) ∧ (∀ k, k < v2.toNatClampNeg → y.1 4 k = s.1 4 k) ∧ ∀ k, v2.toNatClampNeg ≤ k → k < 48 → y.1 4 k = 0 := by
    intro n
    have z48 : (48 : Int32).toInt = 48 := rfl
    induction n with
    | zero =>
      intro f s y v2 hn h0 e
      cases f with
      | zero => cases e
      | succ f =>
        rw [dzs_N318_68_5] at e
        dsimp only at e
        rw [q_lt_F (show (48 : Int32).toInt ≤ v2.toInt by omega)] at e
        cases e
        refine ⟨⟨rfl, fun _ _ => rfl⟩, fun _ _ => rfl, fun k h1 h2 => ?_⟩
        have : v2.toNatClampNeg = v2.toInt.toNat := rfl
        omega
    | succ n ih =>
      intro f s y v2 hn h0 e
      cases f with
      | zero => cases e
      | succ f =>
        have e1 : (v2 + 1).toInt = v2.toInt + 1 := q_addI ⟨by omega, by omega⟩ ⟨by decide, by decide⟩
        have hin : q_in v2 48 = true := q_in_rg (l := 0) (u := 47) ⟨h0, by omega⟩ (by decide) (by decide)
        rw [dzs_N318_68_5] at e
        dsimp only at e
        rw [q_lt_T (show v2.toInt < (48 : Int32).toInt by omega), cond_true, hin, cond_true] at e
        obtain ⟨⟨b1, b2⟩, a2, a3⟩ := ih f _ _ _ (by omega) (by omega) e
        have en : v2.toNatClampNeg = v2.toInt.toNat := rfl
        have en1 : (v2 + 1).toNatClampNeg = v2.toInt.toNat + 1 := by show (v2 + 1).toInt.toNat = _; omega
        refine ⟨⟨b1, fun i hi => (b2 i hi).trans (q_uA_ne _ _ hi)⟩, fun k hk => (a2 k (by omega)).trans (if_neg (by omega)), fun k h1 h2 => ?_⟩
        by_cases q : k = v2.toNatClampNeg
        · exact (a2 k (by omega)).trans (if_pos q)
        · exact a3 k (by omega) h2
  intro n f s y v2 hn h0 e
  obtain ⟨⟨b1, b2⟩, -, a3⟩ := F n f s y v2 hn h0 e
  exact ⟨b1, b2, a3⟩
theorem q_113_66 (e : dz_N113_66 s = some y) : y.2 = s.2 ∧ (∀ i, Nat.beq i 4 = false → y.1 i = s.1 i) ∧ ∀ k, k < 48 → y.1 4 k = 0 := by
  unfold dz_N113_66 dz_N318_68 at e
  cases e1 : dz_N318_68_5 5000 s 0 0 48 with
  | none => rw [e1] at e; cases e
  | some r =>
    rw [e1] at e
    cases e
    obtain ⟨a1, a2, a3⟩ := q_318_66 48 5000 _ _ 0 (by decide) (by decide) e1
    exact ⟨a1, a2, fun k hk => a3 k (Nat.zero_le k) hk⟩
/-- cleared, and kept -/
theorem q_iP_clr (hd : 0 ≤ d ∧ d ≤ 1) (e1 : dz_N113_66 s = some r) (h : q_iP c d u s) : q_iP (c + 1) d u (cond (q_evb r) (dz_N128_77 r 4096 0) (dz_N128_82 r 4096 0)) := fun hc hu => by
  obtain ⟨e, q⟩ := h (by omega) hu
  obtain ⟨k2, k1, k3⟩ := q_113_66 e1
  have q2 := q_iQ_2 k2 (fun i hi => k1 i (by cases b : Nat.beq i 4 with | false => rfl | true => rw [b, Bool.or_true] at hi; cases hi)) q
  have e3 : r.1 3 = s.1 3 := k1 3 rfl
  obtain ⟨p3, p4, p5, p6⟩ := q_keep34 r 4096 0
  have G : q_sp q_Dn (cond (decide ((4096 : Int32) = 4096)) ((s.1 3, s.1 4).1, fun _ => 0) (q_pu 4096 0 (s.1 3, s.1 4))) (r.1 3, r.1 4) := by
    rw [decide_eq_true rfl, cond_true]
    exact ⟨fun k _ => (congrFun e3 k).symm, fun k hk _ => (k3 k hk).symm⟩
  cases e with
  | true =>
    rw [show q_evb r = true from q2.1, cond_true]
    have w := q_iQ_g G (q_kpp77 (a := 4096) (v := 0) ⟨by decide, by decide⟩ ⟨by decide, by decide⟩ hd hc q2)
    exact ⟨true, by rw [p3, p4]; exact w⟩
  | false =>
    rw [show q_evb r = false from q2.1, cond_false]
    have w := q_iQ_g G (q_kpp82 (a := 4096) (v := 0) ⟨by decide, by decide⟩ ⟨by decide, by decide⟩ hd hc q2)
    exact ⟨false, by rw [p5, p6]; exact w⟩
end
end
section
-- 57.pc
section
variable {s t y r : q_S} {c d u : Int} {g g2 : (Nat → Int32) × (Nat → Int32)} {e : Bool}
theorem q_moI {a b : Int32} (ha : q_rgz 0 31 a) (hb : q_rgz 0 31 b) : (q_mo a b).toInt = 24 * (b.toInt + 4) + (a.toInt / 2 + 4) := by
  obtain ⟨a0, a1⟩ := ha
  obtain ⟨b0, b1⟩ := hb
  have eb : (b + 4).toInt = b.toInt + 4 := q_addI ⟨by omega, by omega⟩ ⟨by decide, by decide⟩
  have e24 : (24 * (b + 4)).toInt = 24 * (b + 4).toInt := q_mulI (n := 24) rfl (by decide) (by decide) ⟨by omega, by omega⟩
  have ea : (a / 2).toInt = a.toInt / 2 := q_toInt_div (by omega) (by decide)
  have ea4 : (a / 2 + 4).toInt = (a / 2).toInt + 4 := q_addI ⟨by omega, by omega⟩ ⟨by decide, by decide⟩
  have et : ((24 * (b + 4)) + ((a / 2) + 4)).toInt = (24 * (b + 4)).toInt + ((a / 2) + 4).toInt := q_addI ⟨by omega, by omega⟩ ⟨by omega, by omega⟩
  show ((24 * (b + 4)) + ((a / 2) + 4)).toInt = _
  omega
theorem q_ixI {a b : Int32} (ha : q_rgz 0 31 a) (hb : q_rgz 0 31 b) : ((32 * b) + a).toNatClampNeg = (32 * b.toInt + a.toInt).toNat ∧ (((32 * b) + a) &&& 1023).toNatClampNeg = (32 * b.toInt + a.toInt).toNat := by
  obtain ⟨a0, a1⟩ := ha
  obtain ⟨b0, b1⟩ := hb
  have e32 : (32 * b).toInt = 32 * b.toInt := q_mulI (n := 32) rfl (by decide) (by decide) ⟨by omega, by omega⟩
  have es : ((32 * b) + a).toInt = (32 * b).toInt + a.toInt := q_addI ⟨by omega, by omega⟩ ⟨by omega, by omega⟩
  have em : (((32 * b) + a) &&& 1023).toInt = ((32 * b) + a).toInt % 2 ^ 10 := q_andI 10 (by decide) (l := 0) (u := 1023) ⟨by omega, by omega⟩ (by decide) (show (1023 : Int32).toInt = 2 ^ 10 - 1 by decide)
  constructor
  · show ((32 * b) + a).toInt.toNat = _
    omega
  · show (((32 * b) + a) &&& 1023).toInt.toNat = _
    omega
/-- all but row 31, the flags and the hits -/
def q_si (s t : q_S) : Prop := t.2 = s.2 ∧ (∀ i, (Nat.beq i 4 || Nat.beq i 31) = false → t.1 i = s.1 i) ∧ ∀ k, q_Dn k → t.1 4 k = s.1 4 k
theorem q_si_r (s : q_S) : q_si s s := ⟨rfl, fun _ _ => rfl, fun _ _ => rfl⟩
theorem q_si.trans (h : q_si s t) (h2 : q_si t y) : q_si s y := ⟨h2.1.trans h.1, fun i hi => (h2.2.1 i hi).trans (h.2.1 i hi), fun k hk => (h2.2.2 k hk).trans (h.2.2 k hk)⟩
theorem q_si4 {k : Nat} (v : Int32) (hk : ¬ q_Dn k) : q_si s (q_sA s 4 (upd (s.1 4) k v)) := ⟨rfl, fun i hi => q_uA_ne _ _ (by cases b : Nat.beq i 4 with | false => rfl | true => rw [b] at hi; cases hi), fun j dj => if_neg (fun z : j = k => hk (by rw [← z]; exact dj))⟩
theorem q_si31 (f : Nat → Int32) : q_si s (q_sA s 31 f) := ⟨rfl, fun i hi => q_uA_ne _ _ (by cases b : Nat.beq i 31 with | false => rfl | true => rw [b, Bool.or_true] at hi; cases hi), fun _ _ => rfl⟩
theorem q_si_sp (h : q_si s t) : q_sp q_Dn (t.1 3, t.1 4) (s.1 3, s.1 4) := ⟨fun k _ => congrFun (h.2.1 3 rfl) k, fun k _ dk => h.2.2 k dk⟩
theorem q_D29 : ¬ q_Dn 29 := by unfold q_Dn; decide
theorem q_D30 : ¬ q_Dn 30 := by unfold q_Dn; decide
theorem q_D10 : ¬ q_Dn 10 := by unfold q_Dn; decide
theorem q_124s (s : q_S) (a b : Int32) : q_si s (dz_N124_66 s a b) ∧ (dz_N124_66 s a b).1 31 = s.1 31 := by
  have G : ∀ s : q_S, q_si s (dz_N124_66_19 s a b) ∧ (dz_N124_66_19 s a b).1 31 = s.1 31 := fun s => by
    unfold dz_N124_66_19 q_let
    dsimp only
    cases dz_N121_66 s a with
    | true => exact ⟨q_si4 _ q_D30, rfl⟩
    | false => exact ⟨q_si_r s, rfl⟩
  unfold dz_N124_66 q_let
  dsimp only
  cases decide (1 < dz_N323 s b) with
  | true =>
    obtain ⟨h1, h2⟩ := G (q_sA s 4 (upd (s.1 4) 29 (((s.1 4) 29) ||| b)))
    exact ⟨(q_si4 _ q_D29).trans h1, h2⟩
  | false => exact G s
/-- one pixel -/
theorem q_draw1 {f : Nat} {v2 v4 v5 : Int32} (hv : v5.toInt ≤ v4.toInt + 1) (h4 : (v4 + 1).toInt = v4.toInt + 1) (h : dz_N103_65_95_47 (f + 1) s v2 v4 v5 = some y) : ∃ t p, q_si s t ∧ t.1 31 = upd (s.1 31) ((((32 * v2) + v5) &&& 1023).toNatClampNeg) p ∧ some p = q_col s v5 v2 ∧ dz_N103_65_95_47 f t v2 v4 (v5 + 1) = some y := by
  rw [dzs_N103_65_95_47] at h
  unfold q_let at h
  generalize hk : dz_N103_65_95_47 f = kk at h ⊢
  dsimp only at h
  rw [q_lt_F (show v5.toInt ≤ (v4 + 1).toInt by omega), cond_false] at h
  cases e1 : dz_N122_66 s v5 v2 with
  | none => rw [e1] at h; cases h
  | some r4 =>
    rw [e1, Option.bind_some] at h
    obtain ⟨g1, g2⟩ := q_124s s (dz_N119_66 s v5 v2) r4
    have e3 : dz_N123_66 (dz_N124_66 s (dz_N119_66 s v5 v2) r4) (dz_N119_66 s v5 v2) r4 = dz_N123_66 s (dz_N119_66 s v5 v2) r4 := q_c123 (q_si_sp g1) 5000 _ _ 0 (by decide) (by decide)
    rw [e3] at h
    have ec : q_col s v5 v2 = dz_N123_66 s (dz_N119_66 s v5 v2) r4 := by
      unfold q_col
      rw [e1]
      rfl
    cases e2 : dz_N123_66 s (dz_N119_66 s v5 v2) r4 with
    | none => rw [e2] at h; cases h
    | some p =>
      rw [e2, Option.bind_some] at h
      refine ⟨_, p, g1.trans (q_si31 _), ?_, (ec.trans e2).symm, h⟩
      show upd ((dz_N124_66 s (dz_N119_66 s v5 v2) r4).1 31) _ p = _
      rw [g2]
/-- all writes are before the present time: they all are done once more -/
theorem q_fRv {v v2 : Int32} {T : Int} (hw : ∀ i : Nat, (i : Int) < q_fN e s → ((q_fW e s i) >>> ((21 &&& 31) : Int32)).toInt ≤ T) (h1 : T ≤ v.toInt) (h2 : T ≤ v2.toInt) : q_fR e v s = q_fR e v2 s :=
  q_rp_v _ _ _ (fun i _ hi => q_nlt (by have := hw i (by omega); omega)) (fun i _ hi => q_nlt (by have := hw i (by omega); omega))
/-- what a drawing leaves: two pixels, or none -/
theorem q_iP_dr {d1 : Int} (hd : d1 = d + 1) (h2 : (∀ e, q_evb s = e → q_fT e t = q_fT e s + 1 ∧ q_fT (!e) t = q_fT (!e) s ∧ t.2.2 1 8 = s.2.2 1 8 ∧ ∀ e2, q_fN e2 t = q_fN e2 s)) (h1 : ∀ i, (Nat.beq i 4 || Nat.beq i 31) = false → t.1 i = s.1 i) (h4 : ∀ k, q_Dn k → t.1 4 k = s.1 4 k)
    (hO : ∀ a b : Int32, q_rgz 0 31 a → q_rgz 0 31 b → ¬ (q_mo a b).toInt = (s.2.2 1 8).toInt % 960 → t.1 31 ((32 * b) + a).toNatClampNeg = s.1 31 ((32 * b) + a).toNatClampNeg)
    (hN : ∀ a b : Int32, q_rgz 0 31 a → q_rgz 0 31 b → (q_mo a b).toInt = (s.2.2 1 8).toInt % 960 → some (t.1 31 ((32 * b) + a).toNatClampNeg) = q_col s a b)
    (hd0 : d = 0) (h : q_iP c d u s) : q_iP c d1 u t := fun hc hu => by
  obtain ⟨e, he, ⟨y0, y1⟩, ht, hn, hw, hcur, hot, hp⟩ := h hc hu
  obtain ⟨t1, t2, l8, tn⟩ := h2 e he
  have z2 : (2000 : Int32).toInt = 2000 := rfl
  have eS : ∀ e2, q_fS e2 t = q_fS e2 s := fun e2 => by
    unfold q_fS
    rw [h1 15 rfl, h1 16 rfl, h1 20 rfl, h1 21 rfl]
  have eW : ∀ e2, q_fW e2 t = q_fW e2 s := fun e2 => by
    unfold q_fW
    rw [h1 17 rfl, h1 22 rfl]
  have eR : ∀ e2 v, q_fR e2 v t = q_fR e2 v s := fun e2 v => by
    unfold q_fR
    rw [eS, eW, tn]
  refine ⟨e, by unfold q_evb; rw [l8]; exact he, by rw [l8]; exact ⟨y0, y1⟩, by rw [l8, t1]; omega, by rw [tn]; exact hn, fun i hi => ?_, ?_, by rw [tn]; exact hot, fun a b ha hb => ?_⟩
  · rw [tn] at hi
    rw [eW, t1]
    have := hw i hi
    omega
  · rw [eR]
    exact hcur.trans ⟨fun k _ => (congrFun (h1 3 rfl) k).symm, fun k _ dk => (h4 k dk).symm⟩
  · obtain ⟨p1, p2, p3⟩ := hp a b ha hb
    have o1 := hO a b ha hb
    refine ⟨fun hm => ?_, fun hm1 hm2 => ?_, fun hm1 hm2 => ?_⟩
    · rw [eR]
      rw [t1] at hm
      by_cases q : (q_mo a b).toInt = (s.2.2 1 8).toInt % 960
      · rw [hN a b ha hb q, q_cl_s, q_fRv (v2 := 2000) hw (by omega) (by omega)]
        exact (q_cl_c hcur a b).symm
      · rw [o1 q]
        exact p1 (by omega)
    · rw [eR]
      rw [t1] at hm1
      rw [t2] at hm2
      rw [o1 (by omega)]
      exact p2 (by omega) hm2
    · rw [t1] at hm1
      rw [t2] at hm2
      rw [o1 (by omega)]
      exact p3 (by omega) hm2
theorem q_tikk (s : q_S) (e : Bool) (he : q_evb s = e) (d : Int) (hT : q_fT e s = (s.2.2 1 8).toInt % 960 + d) (hd : 0 ≤ d ∧ d ≤ 1) : ∀ e2, q_evb s = e2 → q_fT e2 (cond e (q_sI s 13 3 ((s.2.1 13 3) + 1)) (q_sI s 18 3 ((s.2.1 18 3) + 1))) = q_fT e2 s + 1 ∧ q_fT (!e2) (cond e (q_sI s 13 3 ((s.2.1 13 3) + 1)) (q_sI s 18 3 ((s.2.1 18 3) + 1))) = q_fT (!e2) s ∧ (cond e (q_sI s 13 3 ((s.2.1 13 3) + 1)) (q_sI s 18 3 ((s.2.1 18 3) + 1))).2.2 1 8 = s.2.2 1 8 ∧ ∀ e3, q_fN e3 (cond e (q_sI s 13 3 ((s.2.1 13 3) + 1)) (q_sI s 18 3 ((s.2.1 18 3) + 1))) = q_fN e3 s := by
  intro e2 he2
  rw [he] at he2
  subst he2
  cases e with
  | true =>
    have hT : (s.2.1 13 3).toInt = (s.2.2 1 8).toInt % 960 + d := hT
    have a : ((s.2.1 13 3) + 1).toInt = (s.2.1 13 3).toInt + 1 := q_addI ⟨by omega, by omega⟩ ⟨by decide, by decide⟩
    exact ⟨a, rfl, rfl, fun e3 => by cases e3 <;> rfl⟩
  | false =>
    have hT : (s.2.1 18 3).toInt = (s.2.2 1 8).toInt % 960 + d := hT
    have a : ((s.2.1 18 3) + 1).toInt = (s.2.1 18 3).toInt + 1 := q_addI ⟨by omega, by omega⟩ ⟨by decide, by decide⟩
    exact ⟨a, rfl, rfl, fun e3 => by cases e3 <;> rfl⟩
theorem q_tikk_r (s : q_S) (e : Bool) : (cond e (q_sI s 13 3 ((s.2.1 13 3) + 1)) (q_sI s 18 3 ((s.2.1 18 3) + 1))).1 = s.1 := by cases e <;> rfl
theorem q_tikks (s : q_S) : cond (decide (lg_cmp (((s.2.2 1 8) / 960) - ((s.2.2 1 8) / 960) / 2 * 2) 0 = 0)) (some (q_sI s 13 3 ((s.2.1 13 3) + 1))) (some (q_sI s 18 3 ((s.2.1 18 3) + 1))) = some (cond (q_evb s) (q_sI s 13 3 ((s.2.1 13 3) + 1)) (q_sI s 18 3 ((s.2.1 18 3) + 1))) := by
  show cond (q_evb s) _ _ = _
  cases q_evb s <;> rfl
/-- no pixel stands at this time -/
theorem q_iP_out (hno : ∀ a b : Int32, q_rgz 0 31 a → q_rgz 0 31 b → ¬ (q_mo a b).toInt = (s.2.2 1 8).toInt % 960) (h : q_iP c 0 u s) : q_iP c 1 u (cond (q_evb s) (q_sI s 13 3 ((s.2.1 13 3) + 1)) (q_sI s 18 3 ((s.2.1 18 3) + 1))) := fun hc hu => by
  obtain ⟨e, q⟩ := h hc hu
  have he := q.1
  have hT := q.2.2.1
  refine q_iP_dr (s := s) (d := 0) rfl ?_ (fun i _ => by rw [q_tikk_r]) (fun k _ => by rw [q_tikk_r]) (fun _ _ _ _ _ => by rw [q_tikk_r]) (fun a b ha hb z => absurd z (hno a b ha hb)) rfl h hc hu
  rw [he]
  exact fun e2 h2 => q_tikk s e he 0 hT ⟨by decide, by decide⟩ e2 (he.trans h2)
theorem q_iP_103 (h : q_iP c 0 u s) (e1 : dz_N103_65_95 s = some y) : q_iP c 1 u y := by
  intro hc hu
  have h0 : 0 ≤ (s.2.2 1 8).toInt := by
    obtain ⟨e, q⟩ := h hc hu
    exact q.2.1.1
  have i86 := q_86I h0
  have i87 := q_87I h0
  have z0 : (0 : Int32).toInt = 0 := rfl
  have z4 : (4 : Int32).toInt = 4 := rfl
  have z32 : (32 : Int32).toInt = 32 := rfl
  have z19 : (19 : Int32).toInt = 19 := rfl
  have e24 : (dz_N86_65 s / 24).toInt = (dz_N86_65 s).toInt / 24 := q_toInt_div (by omega) (by decide)
  have ev2 : (dz_N86_65 s / 24 - 4).toInt = (dz_N86_65 s / 24).toInt - 4 := q_subI ⟨by omega, by omega⟩ ⟨by decide, by decide⟩
  unfold dz_N103_65_95 q_let at e1
  dsimp only at e1
  have out : (∀ a b : Int32, q_rgz 0 31 a → q_rgz 0 31 b → ¬ (q_mo a b).toInt = (s.2.2 1 8).toInt % 960) → some (cond (q_evb s) (q_sI s 13 3 ((s.2.1 13 3) + 1)) (q_sI s 18 3 ((s.2.1 18 3) + 1))) = some y → q_iP c 1 u y := fun hno q => by
    cases q
    exact q_iP_out hno h
  have geo : ∀ a b : Int32, q_rgz 0 31 a → q_rgz 0 31 b → (q_mo a b).toInt = (s.2.2 1 8).toInt % 960 → b.toInt = (dz_N86_65 s / 24 - 4).toInt ∧ a.toInt / 2 + 4 = (dz_N87_65 s).toInt := fun a b ha hb hq => by
    have e := q_moI ha hb
    obtain ⟨a0, a1⟩ := ha
    obtain ⟨b0, b1⟩ := hb
    omega
  by_cases l1 : (dz_N86_65 s / 24 - 4).toInt < 0
  · rw [q_lt_T (show (dz_N86_65 s / 24 - 4).toInt < (0 : Int32).toInt by omega), cond_true, q_tikks] at e1
    exact out (fun a b ha hb hq => by obtain ⟨q1, q2⟩ := geo a b ha hb hq; have := hb.1; omega) e1 hc hu
  rw [q_lt_F (show (0 : Int32).toInt ≤ (dz_N86_65 s / 24 - 4).toInt by omega), cond_false] at e1
  by_cases l2 : 32 ≤ (dz_N86_65 s / 24 - 4).toInt
  · rw [q_lt_F (show (32 : Int32).toInt ≤ (dz_N86_65 s / 24 - 4).toInt by omega), cond_false, q_tikks] at e1
    exact out (fun a b ha hb hq => by obtain ⟨q1, q2⟩ := geo a b ha hb hq; have := hb.2; omega) e1 hc hu
  rw [q_lt_T (show (dz_N86_65 s / 24 - 4).toInt < (32 : Int32).toInt by omega), cond_true] at e1
  by_cases l3 : (dz_N87_65 s).toInt < 4
  · rw [q_lt_T (show (dz_N87_65 s).toInt < (4 : Int32).toInt by omega), cond_true, q_tikks] at e1
    exact out (fun a b ha hb hq => by obtain ⟨q1, q2⟩ := geo a b ha hb hq; have := ha.1; omega) e1 hc hu
  rw [q_lt_F (show (4 : Int32).toInt ≤ (dz_N87_65 s).toInt by omega), cond_false] at e1
  by_cases l4 : 19 < (dz_N87_65 s).toInt
  · rw [q_lt_T (show (19 : Int32).toInt < (dz_N87_65 s).toInt by omega), cond_true, q_tikks] at e1
    exact out (fun a b ha hb hq => by obtain ⟨q1, q2⟩ := geo a b ha hb hq; have := ha.2; omega) e1 hc hu
  rw [q_lt_F (show (dz_N87_65 s).toInt ≤ (19 : Int32).toInt by omega), cond_false] at e1
  have ec4 : (dz_N87_65 s - 4).toInt = (dz_N87_65 s).toInt - 4 := q_subI ⟨by omega, by omega⟩ ⟨by decide, by decide⟩
  have ec2 : (2 * (dz_N87_65 s - 4)).toInt = 2 * (dz_N87_65 s - 4).toInt := q_mulI (n := 2) rfl (by decide) (by decide) ⟨by omega, by omega⟩
  generalize dz_N86_65 s / 24 - 4 = v2 at *
  generalize 2 * (dz_N87_65 s - 4) = v4 at *
  have e41 : (v4 + 1).toInt = v4.toInt + 1 := q_addI ⟨by omega, by omega⟩ ⟨by decide, by decide⟩
  have e411 : (v4 + 1 + 1).toInt = (v4 + 1).toInt + 1 := q_addI ⟨by omega, by omega⟩ ⟨by decide, by decide⟩
  obtain ⟨t1, p0, g1, x1, c1, e1⟩ := q_draw1 (by omega) e41 e1
  obtain ⟨t2, p1, g2, x2, c2, e1⟩ := q_draw1 (by omega) e41 e1
  rw [dzs_N103_65_95_47] at e1
  dsimp only at e1
  rw [q_lt_T (show (v4 + 1).toInt < (v4 + 1 + 1).toInt by omega), cond_true, q_tikks] at e1
  cases e1
  have G := g1.trans g2
  have c2 : some p1 = q_col s (v4 + 1) v2 := c2.trans (q_col_c (q_si_sp g1) _ _)
  obtain ⟨e, q⟩ := h hc hu
  have he := q.1
  have hT := q.2.2.1
  have he2 : q_evb t2 = e := by unfold q_evb; rw [G.1]; exact he
  have rv4 : q_rgz 0 31 v4 := ⟨by omega, by omega⟩
  have rv5 : q_rgz 0 31 (v4 + 1) := ⟨by omega, by omega⟩
  have rv2 : q_rgz 0 31 v2 := ⟨by omega, by omega⟩
  have i1 := (q_ixI rv4 rv2).2
  have i2 := (q_ixI rv5 rv2).2
  refine q_iP_dr (s := s) (d := 0) rfl ?_ (fun i hi => by rw [q_tikk_r]; exact G.2.1 i hi) (fun k dk => by rw [q_tikk_r]; exact G.2.2 k dk) (fun a b ha hb z => ?_) (fun a b ha hb z => ?_) rfl h hc hu
  · have k := q_tikk t2 e he2 0 (by unfold q_fT at hT ⊢; rw [G.1]; exact hT) ⟨by decide, by decide⟩
    rw [he2]
    unfold q_fT q_fN at k ⊢
    rw [G.1] at k ⊢
    intro e3 h3
    exact k e3 (by unfold q_evb at h3 ⊢; rw [G.1]; exact h3)
  · rw [q_tikk_r, x2, x1, (q_ixI ha hb).1, i1, i2]
    have em := q_moI ha hb
    obtain ⟨a0, a1⟩ := ha
    obtain ⟨b0, b1⟩ := hb
    unfold upd
    rw [if_neg (by omega), if_neg (by omega)]
  · obtain ⟨q1, q2⟩ := geo a b ha hb z
    obtain rfl : b = v2 := Int32.toInt_inj.mp q1
    rw [q_tikk_r, x2, x1, (q_ixI ha hb).1, i1, i2]
    have a0 := ha.1
    unfold upd
    by_cases k : a.toInt = v4.toInt
    · obtain rfl : a = v4 := Int32.toInt_inj.mp k
      rw [if_neg (by omega), if_pos rfl]
      exact c1
    · obtain rfl : a = v4 + 1 := Int32.toInt_inj.mp (by omega)
      rw [if_pos rfl]
      exact c2
theorem q_cpT {f k2 : Nat → Int32} {n k : Nat} (hk : k < n) : va_cpy f k2 0 0 n k = f k := by
  unfold va_cpy
  rw [if_pos ⟨Nat.zero_le _, by omega⟩, Nat.zero_add, Nat.sub_zero]
/-- a cycle's end -/
theorem q_iP_107 {c2 : Int} (hc : c < 3072) (h : q_iP c 1 u s) (h2 : 0 ≤ c2) (h3 : ((s.2.2 1 8).toInt + 1) % 960 = 0 ∨ c ≤ c2) : q_iP c2 0 (u + 1) (dz_N107_65 s) := fun _ hu => by
  obtain ⟨e, he, ⟨y0, y1⟩, ht, ⟨n0, n1⟩, hw, hcur, hot, hp⟩ := h hc (by omega)
  have h0 := y0
  have eJ : ((s.2.2 1 8) + 1).toInt = (s.2.2 1 8).toInt + 1 := by
    rw [Int64.toInt_add]
    exact Int.bmod_eq_of_le (by show -(2 ^ 64 / 2 : Int) ≤ _ + 1; omega) (by show _ + 1 < ((2 ^ 64 + 1) / 2 : Int); omega)
  have em : (((s.2.2 1 8) + 1) - ((s.2.2 1 8) + 1) / 960 * 960).toInt = ((s.2.2 1 8).toInt + 1) % 960 := by
    rw [q64_rem (by omega) (by decide), eJ]; rfl
  have ev := q_evI h0
  rw [he] at ev
  have ev2 : q_evb (q_sJ s 1 8 ((s.2.2 1 8) + 1)) = decide (((s.2.2 1 8).toInt + 1) / 960 % 2 = 0) := by
    rw [q_evI (by show 0 ≤ ((s.2.2 1 8) + 1).toInt; omega)]
    show decide (((s.2.2 1 8) + 1).toInt / 960 % 2 = 0) = _
    rw [eJ]
  have T0 : 0 ≤ (s.2.2 1 8).toInt % 960 := by omega
  unfold dz_N107_65
  rw [q_lgc, em]
  by_cases q : ((s.2.2 1 8).toInt + 1) % 960 = 0
  · rw [decide_eq_true q, cond_true]
    have fl : q_evb (q_sJ s 1 8 ((s.2.2 1 8) + 1)) = !e := by
      rw [ev2, ev]
      by_cases p : (s.2.2 1 8).toInt / 960 % 2 = 0
      · rw [decide_eq_true p, decide_eq_false (by omega)]; rfl
      · rw [decide_eq_false p, decide_eq_true (by omega)]; rfl
    have mo : ∀ a b : Int32, q_rgz 0 31 a → q_rgz 0 31 b → 0 ≤ (q_mo a b).toInt ∧ (q_mo a b).toInt < 960 := fun a b ha hb => by
      rw [q_moI ha hb]
      obtain ⟨a0, a1⟩ := ha
      obtain ⟨b0, b1⟩ := hb
      omega
    cases e with

    | true =>
      rw [show decide (lg_cmp ((((s.2.2 1 8) + 1) / 960) - (((s.2.2 1 8) + 1) / 960) / 2 * 2) 0 = 0) = false from fl, cond_false]
      have n0 : 0 ≤ (s.2.1 13 2).toInt := n0
      have n1 : (s.2.1 13 2).toInt ≤ c := n1
      have ht : (s.2.1 13 3).toInt = (s.2.2 1 8).toInt % 960 + 1 := ht
      have z0 : (0 : Int32).toInt = 0 := rfl
      refine ⟨false, fl, ⟨?_, ?_⟩, ?_, ⟨?_, ?_⟩, ?_, ?_, ⟨n0, by show (s.2.1 13 2).toInt < 3072; omega⟩, fun a b ha hb => ⟨?_, ?_, ?_⟩⟩
      · show 0 ≤ ((s.2.2 1 8) + 1).toInt
        omega
      · show ((s.2.2 1 8) + 1).toInt ≤ u + 1
        omega
      · show (0 : Int32).toInt = ((s.2.2 1 8) + 1).toInt % 960 + 0
        omega
      · exact Int.le_refl 0
      · show (0 : Int32).toInt ≤ c2
        omega
      · intro i hi
        have hi : (i : Int) < (0 : Int32).toInt := hi
        omega
      · exact ⟨fun k hk => q_cpT hk, fun k hk _ => q_cpT hk⟩
      · intro hm
        have hm : (q_mo a b).toInt < (0 : Int32).toInt := hm
        have := (mo a b ha hb).1
        omega
      · intro _ hm
        exact (hp a b ha hb).1 hm
      · intro _ hm
        have hm : (s.2.1 13 3).toInt ≤ (q_mo a b).toInt := hm
        have := (mo a b ha hb).2
        omega
    | false =>
      rw [show decide (lg_cmp ((((s.2.2 1 8) + 1) / 960) - (((s.2.2 1 8) + 1) / 960) / 2 * 2) 0 = 0) = true from fl, cond_true]
      have n0 : 0 ≤ (s.2.1 18 2).toInt := n0
      have n1 : (s.2.1 18 2).toInt ≤ c := n1
      have ht : (s.2.1 18 3).toInt = (s.2.2 1 8).toInt % 960 + 1 := ht
      have z0 : (0 : Int32).toInt = 0 := rfl
      refine ⟨true, fl, ⟨?_, ?_⟩, ?_, ⟨?_, ?_⟩, ?_, ?_, ⟨n0, by show (s.2.1 18 2).toInt < 3072; omega⟩, fun a b ha hb => ⟨?_, ?_, ?_⟩⟩
      · show 0 ≤ ((s.2.2 1 8) + 1).toInt
        omega
      · show ((s.2.2 1 8) + 1).toInt ≤ u + 1
        omega
      · show (0 : Int32).toInt = ((s.2.2 1 8) + 1).toInt % 960 + 0
        omega
      · exact Int.le_refl 0
      · show (0 : Int32).toInt ≤ c2
        omega
      · intro i hi
        have hi : (i : Int) < (0 : Int32).toInt := hi
        omega
      · exact ⟨fun k hk => q_cpT hk, fun k hk _ => q_cpT hk⟩
      · intro hm
        have hm : (q_mo a b).toInt < (0 : Int32).toInt := hm
        have := (mo a b ha hb).1
        omega
      · intro _ hm
        exact (hp a b ha hb).1 hm
      · intro _ hm
        have hm : (s.2.1 18 3).toInt ≤ (q_mo a b).toInt := hm
        have := (mo a b ha hb).2
        omega
  · rw [decide_eq_false q, cond_false]
    have fl : q_evb (q_sJ s 1 8 ((s.2.2 1 8) + 1)) = e := by
      rw [ev2, ev]
      by_cases p : (s.2.2 1 8).toInt / 960 % 2 = 0
      · rw [decide_eq_true p, decide_eq_true (by omega)]
      · rw [decide_eq_false p, decide_eq_false (by omega)]
    refine ⟨e, fl, ⟨?_, ?_⟩, ?_, ⟨n0, by show q_fN e s ≤ c2; omega⟩, hw, hcur, hot, hp⟩
    · show 0 ≤ ((s.2.2 1 8) + 1).toInt
      omega
    · show ((s.2.2 1 8) + 1).toInt ≤ u + 1
      omega
    · show q_fT e s = ((s.2.2 1 8) + 1).toInt % 960 + 0
      omega
theorem q_108t {a b v : Int32} (h : ((dz_N122_96 r a b).bind fun r4 => (dz_N123_96 r (dz_N119_96 r a b) r4).bind fun r5 => some (r, r5)) = some (y, v)) : q_cl (r.1 33, r.1 34) a b = some v := by
  rw [← q_col96]
  cases e1 : dz_N122_96 r a b with
  | none => rw [e1] at h; cases h
  | some r4 =>
    rw [e1, Option.bind_some] at h
    rw [Option.bind_some]
    cases e2 : dz_N123_96 r (dz_N119_96 r a b) r4 with
    | none => rw [e2] at h; cases h
    | some r5 => rw [e2] at h; cases h; rfl
/-- the answer is the pixel -/
theorem q_108P {a b v : Int32} (ha : q_rgz 0 31 a) (hb : q_rgz 0 31 b) (hc : c < 3072) (hu : u ≤ 1000000) (h : q_iP c 0 u s) (e1 : dz_N108_65_96 s a b = some (y, v)) : v = s.1 31 ((32 * b) + a).toNatClampNeg := by
  obtain ⟨e, he, -, -, ⟨n0, n1⟩, -, -, ⟨o0, o1⟩, hp⟩ := h hc hu
  obtain ⟨p1, p2, p3⟩ := hp a b ha hb
  unfold dz_N108_65_96 q_let at e1
  dsimp only at e1
  cases e with
  | true =>
    have n0 : 0 ≤ (s.2.1 13 2).toInt := n0
    have n1 : (s.2.1 13 2).toInt ≤ c := n1
    have o0 : 0 ≤ (s.2.1 18 2).toInt := o0
    have o1 : (s.2.1 18 2).toInt < 3072 := o1
    rw [show decide (lg_cmp (((s.2.2 1 8) / 960) - ((s.2.2 1 8) / 960) / 2 * 2) 0 = 0) = true from he, cond_true] at e1
    by_cases m1 : (q_mo a b).toInt < (s.2.1 13 3).toInt
    · rw [q_lt_T (show ((24 * (b + 4)) + ((a / 2) + 4)).toInt < (s.2.1 13 3).toInt from m1), cond_true] at e1
      cases e3 : dz_N129_77_96 s ((24 * (b + 4)) + ((a / 2) + 4)) with
      | none => rw [e3] at e1; cases e1
      | some r2 =>
        rw [e3, Option.bind_some] at e1
        have k := (q_cl_c (q_sp_le (fun _ _ => trivial) (q_rpl77 n0 (by omega) e3)) a b).symm.trans (q_108t e1)
        exact (Option.some.inj ((p1 m1).trans k)).symm
    rw [q_lt_F (show (s.2.1 13 3).toInt ≤ ((24 * (b + 4)) + ((a / 2) + 4)).toInt from Int.not_lt.mp m1), cond_false] at e1
    by_cases m2 : (q_mo a b).toInt < (s.2.1 18 3).toInt
    · rw [q_lt_T (show ((24 * (b + 4)) + ((a / 2) + 4)).toInt < (s.2.1 18 3).toInt from m2), cond_true] at e1
      cases e3 : dz_N129_82_96 s ((24 * (b + 4)) + ((a / 2) + 4)) with
      | none => rw [e3] at e1; cases e1
      | some r2 =>
        rw [e3, Option.bind_some] at e1
        have k := (q_cl_c (q_sp_le (fun _ _ => trivial) (q_rpl82 o0 (by omega) e3)) a b).symm.trans (q_108t e1)
        exact (Option.some.inj ((p2 (Int.not_lt.mp m1) m2).trans k)).symm
    rw [q_lt_F (show (s.2.1 18 3).toInt ≤ ((24 * (b + 4)) + ((a / 2) + 4)).toInt from Int.not_lt.mp m2), cond_false] at e1
    cases e1
    exact (p3 (Int.not_lt.mp m1) (Int.not_lt.mp m2)).symm
  | false =>
    have n0 : 0 ≤ (s.2.1 18 2).toInt := n0
    have n1 : (s.2.1 18 2).toInt ≤ c := n1
    have o0 : 0 ≤ (s.2.1 13 2).toInt := o0
    have o1 : (s.2.1 13 2).toInt < 3072 := o1
    rw [show decide (lg_cmp (((s.2.2 1 8) / 960) - ((s.2.2 1 8) / 960) / 2 * 2) 0 = 0) = false from he, cond_false] at e1
    by_cases m1 : (q_mo a b).toInt < (s.2.1 18 3).toInt
    · rw [q_lt_T (show ((24 * (b + 4)) + ((a / 2) + 4)).toInt < (s.2.1 18 3).toInt from m1), cond_true] at e1
      cases e3 : dz_N129_82_96 s ((24 * (b + 4)) + ((a / 2) + 4)) with
      | none => rw [e3] at e1; cases e1
      | some r2 =>
        rw [e3, Option.bind_some] at e1
        have k := (q_cl_c (q_sp_le (fun _ _ => trivial) (q_rpl82 n0 (by omega) e3)) a b).symm.trans (q_108t e1)
        exact (Option.some.inj ((p1 m1).trans k)).symm
    rw [q_lt_F (show (s.2.1 18 3).toInt ≤ ((24 * (b + 4)) + ((a / 2) + 4)).toInt from Int.not_lt.mp m1), cond_false] at e1
    by_cases m2 : (q_mo a b).toInt < (s.2.1 13 3).toInt
    · rw [q_lt_T (show ((24 * (b + 4)) + ((a / 2) + 4)).toInt < (s.2.1 13 3).toInt from m2), cond_true] at e1
      cases e3 : dz_N129_77_96 s ((24 * (b + 4)) + ((a / 2) + 4)) with
      | none => rw [e3] at e1; cases e1
      | some r2 =>
        rw [e3, Option.bind_some] at e1
        have k := (q_cl_c (q_sp_le (fun _ _ => trivial) (q_rpl77 o0 (by omega) e3)) a b).symm.trans (q_108t e1)
        exact (Option.some.inj ((p2 (Int.not_lt.mp m1) m2).trans k)).symm
    rw [q_lt_F (show (s.2.1 13 3).toInt ≤ ((24 * (b + 4)) + ((a / 2) + 4)).toInt from Int.not_lt.mp m2), cond_false] at e1
    cases e1
    exact (p3 (Int.not_lt.mp m1) (Int.not_lt.mp m2)).symm
end
end
section
-- 57.pd
section
variable {s y r : q_S} {c d u K : Int} {t : Int64} {l : Int32}
theorem q_bqF {i j : Nat} (h : ¬ j = i) : Nat.beq i j = false := by
  cases e : Nat.beq i j with
  | false => rfl
  | true => exact absurd (Nat.eq_of_beq_eq_true e).symm h
def q_iX (c d u : Int) (t : Int64) (l : Int32) (s : q_S) : Prop := q_iN s ∧ q_iP c d u s ∧ s.2.2 1 8 = t ∧ s.2.1 23 9 = l
theorem q_iX6 (h : q_iX c d u t l s) : q_rgz 0 1 (s.2.1 23 6) := h.1.1
theorem q_iX7 (h : q_iX c d u t l s) : q_rgz 0 1 (s.2.1 23 7) := h.1.2
theorem q_iX_A {i : Nat} {f : Nat → Int32} (h : q_iX c d u t l s) (n : ¬ (i = 3 ∨ i = 4 ∨ i = 15 ∨ i = 16 ∨ i = 17 ∨ i = 20 ∨ i = 21 ∨ i = 22 ∨ i = 31)) : q_iX c d u t l (q_sA s i f) := by
  have k : ∀ j, ¬ i = j → (q_sA s i f).1 j = s.1 j := fun j hj => q_uA_ne _ _ (q_bqF hj)
  exact ⟨h.1, q_iP_eq (s := s) (k 3 (by omega)) (k 4 (by omega)) (k 15 (by omega)) (k 16 (by omega)) (k 17 (by omega)) (k 20 (by omega)) (k 21 (by omega)) (k 22 (by omega)) (k 31 (by omega)) rfl rfl rfl rfl rfl h.2.1, h.2.2⟩
theorem q_iX_4 {k : Nat} {v : Int32} (h : q_iX c d u t l s) (hk : ¬ q_Dn k) : q_iX c d u t l (q_sA s 4 (upd (s.1 4) k v)) := ⟨h.1, q_iP_4 v hk h.2.1, h.2.2⟩
theorem q_iX_J {i k : Nat} {x : Int64} (h : q_iX c d u t l s) (n : ¬ i = 1) : q_iX c d u t l (q_sJ s i k x) := by
  have e8 : (q_sJ s i k x).2.2 1 8 = s.2.2 1 8 := congrFun (q_uI_ne _ _ (q_bqF n)) 8
  exact ⟨h.1, q_iP_eq (s := s) rfl rfl rfl rfl rfl rfl rfl rfl rfl rfl rfl rfl rfl e8 h.2.1, e8.trans h.2.2.1, h.2.2.2⟩
theorem q_iX_L {i : Nat} {f : Nat → Int64} (h : q_iX c d u t l s) (n : ¬ i = 1) : q_iX c d u t l (q_sL s i f) := by
  have e8 : (q_sL s i f).2.2 1 8 = s.2.2 1 8 := congrFun (q_uA_ne _ _ (q_bqF n)) 8
  exact ⟨h.1, q_iP_eq (s := s) rfl rfl rfl rfl rfl rfl rfl rfl rfl rfl rfl rfl rfl e8 h.2.1, e8.trans h.2.2.1, h.2.2.2⟩
theorem q_iX_I {i m : Nat} {x : Int32} (h : q_iX c d u t l s) (n : ¬ (i = 13 ∨ i = 18)) (n2 : ¬ (i = 23 ∧ (m = 6 ∨ m = 7))) (n3 : ¬ (i = 23 ∧ 9 = m)) : q_iX c d u t l (q_sI s i m x) := by
  have k : ∀ j l, ¬ i = j → (q_sI s i m x).2.1 j l = s.2.1 j l := fun j l hj => congrFun (q_uI_ne _ _ (q_bqF hj)) l
  exact ⟨q_iN_I h.1 n2, q_iP_eq (s := s) rfl rfl rfl rfl rfl rfl rfl rfl rfl (k 13 2 (by omega)) (k 13 3 (by omega)) (k 18 2 (by omega)) (k 18 3 (by omega)) rfl h.2.1, h.2.2.1, Eq.trans (q_uI_n2 (fun z => n3 ⟨z.1, z.2.symm⟩)) h.2.2.2⟩
theorem q_iX_F6 {x : Int32} (h : q_iX c d u t l s) (r : q_rgz 0 1 x) : q_iX c d u t l (q_sI s 23 6 x) := ⟨q_iN_F6 h.1 r, q_iP_eq (s := s) rfl rfl rfl rfl rfl rfl rfl rfl rfl rfl rfl rfl rfl rfl h.2.1, h.2.2⟩
theorem q_iX_F7 {x : Int32} (h : q_iX c d u t l s) (r : q_rgz 0 1 x) : q_iX c d u t l (q_sI s 23 7 x) := ⟨q_iN_F7 h.1 r, q_iP_eq (s := s) rfl rfl rfl rfl rfl rfl rfl rfl rfl rfl rfl rfl rfl rfl h.2.1, h.2.2⟩
end
section
variable {c d u : Int} {t : Int64} {l : Int32}
theorem dzq_N91_65  (s : q_S) (hI : q_iX c d u t l s) (a1 : Int32) (a2 : Int32) : (fun _ => True) (dz_N91_65 s a1 a2) := trivial
set_option maxHeartbeats 4000000 in
theorem dzq_N90_65_73  (s : q_S) (hI : q_iX c d u t l s) (v1 : Int32) (v3 : Int32) : q_Ex (dz_N90_65_73 s v1 v3) (fun _ => True) := by
  unfold dz_N90_65_73
  cases h83 : decide (v3 &&& 2 = 2) with
  | true =>
    have g84 := q_rg_eqT h83 (q_rg_lit (n := 2) (x := 2) rfl)
    refine q_E_T ?_
    cases h85 : decide (v1 < 2048) with
    | true =>
      have g86 := (q_rg_ltT1 (l := -2147483648) (U := 2047) h85 (q_rg_full _) (q_rg_lit (n := 2048) (x := 2048) rfl) (by decide))
      refine q_E_T ?_
      exact q_E_x trivial
    | false =>
      have g87 := (q_rg_ltF1 (l2 := 2048) (u := 2147483647) h85 (q_rg_full _) (q_rg_lit (n := 2048) (x := 2048) rfl))
      refine q_E_F ?_
      cases h88 : decide (v1 < 2560) with
      | true =>
        have g89 := (q_rg_ltT1 (l := 2048) (U := 2559) h88 g87 (q_rg_lit (n := 2560) (x := 2560) rfl) (by decide))
        refine q_E_T ?_
        refine q_E_A (q_in_rg (q_rg_sub (L := 0) (U := 2047) (q_rg_add (L := 2048) (U := 4095) (q_rg_mul (L := 0) (U := 1536) (q_rg_lit (n := 512) (x := 512) rfl) (q_rg_and (v3 >>> ((2 &&& 31) : Int32)) 3 (U := 3) (by decide) rfl) (by decide) (by decide) (by decide) (by decide) (by decide) (by decide)) g89 (by decide) (by decide) (by decide) (by decide)) (q_rg_lit (n := 2048) (x := 2048) rfl) (by decide) (by decide) (by decide) (by decide)) (by decide) (by decide)) ?_
        exact q_E_x trivial
      | false =>
        have g90 := (q_rg_ltF1 (l2 := 2560) (u := 2147483647) h88 g87 (q_rg_lit (n := 2560) (x := 2560) rfl))
        refine q_E_F ?_
        exact q_E_x trivial
  | false =>
    have g91 := (q_rg_neU (l := 0) (u := 2) (n := 2) (U := 1) h83 (q_rg_and v3 2 (U := 2) (by decide) rfl) rfl (by decide) (by decide))
    refine q_E_F ?_
    exact q_E_x trivial
set_option maxHeartbeats 4000000 in
theorem dzq_N90_65_31  (s : q_S) (hI : q_iX c d u t l s) (v1 : Int32) : q_Ex (dz_N90_65_31 s v1) (fun _ => True) := by
  unfold dz_N90_65_31
  cases h92 : decide (((s.1 4) 0) &&& 1 = 1) with
  | true =>
    have g93 := q_rg_eqT h92 (q_rg_lit (n := 1) (x := 1) rfl)
    refine q_E_T ?_
    cases h94 : decide (v1 < 3072) with
    | true =>
      have g95 := (q_rg_ltT1 (l := -2147483648) (U := 3071) h94 (q_rg_full _) (q_rg_lit (n := 3072) (x := 3072) rfl) (by decide))
      refine q_E_T ?_
      exact dzq_N90_65_73 (s) hI (v1) ((s.1 4) 0)
    | false =>
      have g96 := (q_rg_ltF1 (l2 := 3072) (u := 2147483647) h94 (q_rg_full _) (q_rg_lit (n := 3072) (x := 3072) rfl))
      refine q_E_F ?_
      cases h97 : decide (v1 < 3584) with
      | true =>
        have g98 := (q_rg_ltT1 (l := 3072) (U := 3583) h97 g96 (q_rg_lit (n := 3584) (x := 3584) rfl) (by decide))
        refine q_E_T ?_
        exact q_E_x trivial
      | false =>
        have g99 := (q_rg_ltF1 (l2 := 3584) (u := 2147483647) h97 g96 (q_rg_lit (n := 3584) (x := 3584) rfl))
        refine q_E_F ?_
        exact dzq_N90_65_73 (s) hI (v1) ((s.1 4) 0)
  | false =>
    have g100 := (q_rg_neU (l := 0) (u := 1) (n := 1) (U := 0) h92 (q_rg_and ((s.1 4) 0) 1 (U := 1) (by decide) rfl) rfl (by decide) (by decide))
    refine q_E_F ?_
    exact dzq_N90_65_73 (s) hI (v1) ((s.1 4) 0)
set_option maxHeartbeats 4000000 in
theorem dzq_N90_65  (s : q_S) (hI : q_iX c d u t l s) (a1 : Int32) : q_Ex (dz_N90_65 s a1) (fun _ => True) := by
  unfold dz_N90_65
  cases h101 : decide (a1 - 3840 < 0) with
  | true =>
    have g102 := (q_rg_ltT1 (l := -2147483648) (U := -1) h101 (q_rg_full _) (q_rg_lit (n := 0) (x := 0) rfl) (by decide))
    refine q_E_T ?_
    exact dzq_N90_65_31 (s) hI (a1)
  | false =>
    have g103 := (q_rg_ltF1 (l2 := 0) (u := 2147483647) h101 (q_rg_full _) (q_rg_lit (n := 0) (x := 0) rfl))
    refine q_E_F ?_
    cases h104 : decide (a1 - 3840 < 48) with
    | true =>
      have g105 := (q_rg_ltT1 (l := 0) (U := 47) h104 g103 (q_rg_lit (n := 48) (x := 48) rfl) (by decide))
      refine q_E_T ?_
      have j106 := dzq_N91_65 (s) hI (a1 - 3840) ((s.1 4) ((a1 - 3840).toNatClampNeg))
      refine q_E_L ?_
      generalize dz_N91_65 s (a1 - 3840) ((s.1 4) ((a1 - 3840).toNatClampNeg)) = r1 at j106 ⊢
      exact q_E_x trivial
    | false =>
      have g107 := (q_rg_ltF1 (l2 := 48) (u := 2147483647) h104 g103 (q_rg_lit (n := 48) (x := 48) rfl))
      refine q_E_F ?_
      exact dzq_N90_65_31 (s) hI (a1)
set_option maxHeartbeats 4000000 in
theorem dzqb_N95_65_2  (k2 : q_S → Int32 → Int32 → Option (q_S)) (M2 : Int) (tk2 : ∀ (s : q_S), q_iX c d u t l s → ∀ (v1 : Int32) (v2 : Int32), q_rgz 0 2 v2 → ((2 - v2.toInt).toNat : Int) ≤ M2 → q_Ex (k2 s v1 v2) (q_iX c d u t l)) (s : q_S) (hI : q_iX c d u t l s) (v1 : Int32) (v2 : Int32) (rv2 : q_rgz 0 2 v2) (m2 : ((2 - v2.toInt).toNat : Int) ≤ M2 + 1) : q_Ex (cond (decide (v2 < 2)) (cond (decide ((v1 >>> (v2 &&& 31)) &&& 1 = 1)) (cond (q_in ((12 : Int32) + (2 * v2)) 48) (cond (q_in (((12 : Int32) + (2 * v2)) + 1) 48) (cond (q_in v2 2) (k2 (q_sA s 7 (upd (s.1 7) (v2.toNatClampNeg) (((s.1 4) (((12 : Int32) + (2 * v2)).toNatClampNeg)) + (256 * ((s.1 4) ((((12 : Int32) + (2 * v2)) + 1).toNatClampNeg)))))) v1 (v2 + 1)) none) none) none) (k2 s v1 (v2 + 1))) (some s)) (q_iX c d u t l) := by
  cases h122 : decide (v2 < 2) with
  | true =>
    have g123 := (q_rg_ltT1 (l := 0) (U := 1) h122 rv2 (q_rg_lit (n := 2) (x := 2) rfl) (by decide))
    refine q_E_T ?_
    cases h124 : decide ((v1 >>> (v2 &&& 31)) &&& 1 = 1) with
    | true =>
      have g125 := q_rg_eqT h124 (q_rg_lit (n := 1) (x := 1) rfl)
      refine q_E_T ?_
      refine q_E_A (q_in_rg (q_rg_add (L := 12) (U := 14) (q_rg_lit (n := 12) (x := 12) rfl) (q_rg_mul (L := 0) (U := 2) (q_rg_lit (n := 2) (x := 2) rfl) g123 (by decide) (by decide) (by decide) (by decide) (by decide) (by decide)) (by decide) (by decide) (by decide) (by decide)) (by decide) (by decide)) ?_
      refine q_E_A (q_in_rg (q_rg_add (L := 13) (U := 15) (q_rg_add (L := 12) (U := 14) (q_rg_lit (n := 12) (x := 12) rfl) (q_rg_mul (L := 0) (U := 2) (q_rg_lit (n := 2) (x := 2) rfl) g123 (by decide) (by decide) (by decide) (by decide) (by decide) (by decide)) (by decide) (by decide) (by decide) (by decide)) (q_rg_lit (n := 1) (x := 1) rfl) (by decide) (by decide) (by decide) (by decide)) (by decide) (by decide)) ?_
      refine q_E_A (q_in_rg g123 (by decide) (by decide)) ?_
      exact tk2 (q_sA s 7 (upd (s.1 7) (v2.toNatClampNeg) (((s.1 4) (((12 : Int32) + (2 * v2)).toNatClampNeg)) + (256 * ((s.1 4) ((((12 : Int32) + (2 * v2)) + 1).toNatClampNeg)))))) (q_iX_A (i := 7) hI (by decide)) (v1) (v2 + 1) (q_rg_le (L := 0) (U := 2) (q_rg_add (L := 1) (U := 2) g123 (q_rg_lit (n := 1) (x := 1) rfl) (by decide) (by decide) (by decide) (by decide)) (by decide) (by decide)) (q_meu g123 m2 (by decide) (by decide))
    | false =>
      have g126 := (q_rg_neU (l := 0) (u := 1) (n := 1) (U := 0) h124 (q_rg_and (v1 >>> (v2 &&& 31)) 1 (U := 1) (by decide) rfl) rfl (by decide) (by decide))
      refine q_E_F ?_
      exact tk2 (s) hI (v1) (v2 + 1) (q_rg_le (L := 0) (U := 2) (q_rg_add (L := 1) (U := 2) g123 (q_rg_lit (n := 1) (x := 1) rfl) (by decide) (by decide) (by decide) (by decide)) (by decide) (by decide)) (q_meu g123 m2 (by decide) (by decide))
  | false =>
    have g127 := (q_rg_ltF1 (l2 := 2) (u := 2) h122 rv2 (q_rg_lit (n := 2) (x := 2) rfl))
    refine q_E_F ?_
    exact q_E_x hI
theorem dzq_N95_65_2  : ∀ (m : Nat) (s : q_S) (hI : q_iX c d u t l s) (v1 : Int32) (v2 : Int32) (rv2 : q_rgz 0 2 v2), ((2 - v2.toInt).toNat : Int) ≤ (m : Int) → q_Ex (dz_N95_65_2 (m + 1) s v1 v2) (q_iX c d u t l) := by
  intro m
  induction m with
  | zero => intro s hI v1 v2 rv2 hm; rw [dzs_N95_65_2]; exact dzqb_N95_65_2 (dz_N95_65_2 0) (-1) (fun s hI v1 v2 rv2 hm => absurd hm (by omega)) s hI v1 v2 rv2 (by omega)
  | succ m ih => intro s hI v1 v2 rv2 hm; rw [dzs_N95_65_2]; exact dzqb_N95_65_2 (dz_N95_65_2 (m + 1)) (m : Int) (fun s hI v1 v2 rv2 hm => ih s hI v1 v2 rv2 hm) s hI v1 v2 rv2 (by omega)
set_option maxHeartbeats 4000000 in
theorem dzq_N95_65  (s : q_S) (hI : q_iX c d u t l s) (a1 : Int32) : q_Ex (dz_N95_65 s a1) (q_iX c d u t l) := by
  unfold dz_N95_65
  exact dzq_N95_65_2 4999 (s) hI (a1) (0) (q_rg_le (L := 0) (U := 2) (q_rg_lit (n := 0) (x := 0) rfl) (by decide) (by decide)) (q_meu0 (q_rg_lit (n := 0) (x := 0) rfl) (by decide) (by decide))
set_option maxHeartbeats 4000000 in
theorem dzq_N98_65  (s : q_S) (hI : q_iX c d u t l s) (a1 : Int32) (a2 : Int32) : (fun (x : q_S × Int32) => q_iX c d u t l x.1) (dz_N98_65 s a1 a2) := by
  refine q_S_of (P := (fun (x : q_S × Int32) => q_iX c d u t l x.1)) ?_
  unfold dz_N98_65
  exact q_E_x (q_iX_A (i := 5) hI (by decide))
set_option maxHeartbeats 4000000 in
theorem dzq_N99_65  (s : q_S) (hI : q_iX c d u t l s) (a1 : Int32) (a2 : Int32) : (fun (x : q_S × Int32) => q_iX c d u t l x.1) (dz_N99_65 s a1 a2) := by
  refine q_S_of (P := (fun (x : q_S × Int32) => q_iX c d u t l x.1)) ?_
  unfold dz_N99_65
  exact q_E_x (q_iX_A (i := 6) hI (by decide))
theorem dzq_N186  (s : q_S) (hI : q_iX c d u t l s) (a0 : Int32) : (fun _ => True) (dz_N186 s a0) := trivial
theorem dzq_N190  (s : q_S) (hI : q_iX c d u t l s) (a0 : Int32) : (fun _ => True) (dz_N190 s a0) := trivial
theorem dzq_N133_87  (s : q_S) (hI : q_iX c d u t l s) (a1 : Int32) : (fun _ => True) (dz_N133_87 s a1) := trivial
set_option maxHeartbeats 4000000 in
theorem dzq_N134_87  (s : q_S) (hI : q_iX c d u t l s) (a1 : Int32) (a2 : Int32) : (fun (x : q_S × Int32) => q_iX c d u t l x.1) (dz_N134_87 s a1 a2) := by
  refine q_S_of (P := (fun (x : q_S × Int32) => q_iX c d u t l x.1)) ?_
  unfold dz_N134_87
  have j230 := dzq_N133_87 (s) hI (a1)
  refine q_S_L ?_
  generalize dz_N133_87 s a1 = r1 at j230 ⊢
  cases h231 : decide (a1 < 0) with
  | true =>
    have g232 := (q_rg_ltT1 (l := -2147483648) (U := -1) h231 (q_rg_full _) (q_rg_lit (n := 0) (x := 0) rfl) (by decide))
    refine q_S_T ?_
    exact q_E_x (q_iX_I (i := 23) (m := 4) hI (by decide) (by decide) (by decide))
  | false =>
    have g233 := (q_rg_ltF1 (l2 := 0) (u := 2147483647) h231 (q_rg_full _) (q_rg_lit (n := 0) (x := 0) rfl))
    refine q_S_F ?_
    cases h234 : decide (3 < a1) with
    | true =>
      have g235 := (q_rg_ltT2 (L := 4) (u2 := 2147483647) h234 (q_rg_lit (n := 3) (x := 3) rfl) g233 (by decide))
      refine q_S_T ?_
      exact q_E_x (q_iX_I (i := 23) (m := 4) hI (by decide) (by decide) (by decide))
    | false =>
      have g236 := (q_rg_ltF2 (l2 := 0) (u := 3) h234 (q_rg_lit (n := 3) (x := 3) rfl) g233)
      refine q_S_F ?_
      cases h237 : decide (a1 = 0) with
      | true =>
        have g238 := q_rg_eqT h237 (q_rg_lit (n := 0) (x := 0) rfl)
        refine q_S_T ?_
        exact q_E_x (q_iX_I (i := 23) (m := 0) hI (by decide) (by decide) (by decide))
      | false =>
        have g239 := (q_rg_neL (l := 0) (u := 3) (n := 0) (L := 1) h237 g236 rfl (by decide) (by decide))
        refine q_S_F ?_
        cases h240 : decide (a1 = 1) with
        | true =>
          have g241 := q_rg_eqT h240 (q_rg_lit (n := 1) (x := 1) rfl)
          refine q_S_T ?_
          exact q_E_x (q_iX_I (i := 23) (m := 1) hI (by decide) (by decide) (by decide))
        | false =>
          have g242 := (q_rg_neL (l := 1) (u := 3) (n := 1) (L := 2) h240 g239 rfl (by decide) (by decide))
          refine q_S_F ?_
          cases h243 : decide (a1 = 2) with
          | true =>
            have g244 := q_rg_eqT h243 (q_rg_lit (n := 2) (x := 2) rfl)
            refine q_S_T ?_
            exact q_E_x (q_iX_I (i := 23) (m := 2) hI (by decide) (by decide) (by decide))
          | false =>
            have g245 := (q_rg_neL (l := 2) (u := 3) (n := 2) (L := 3) h243 g242 rfl (by decide) (by decide))
            refine q_S_F ?_
            exact q_E_x (q_iX_I (i := 23) (m := 3) hI (by decide) (by decide) (by decide))
set_option maxHeartbeats 4000000 in
theorem dzq_N92_65  (s : q_S) (hI : q_iX c d u t l s) (a1 : Int32) : q_Ex (dz_N92_65 s a1) (fun _ => True) := by
  unfold dz_N92_65
  obtain ⟨r2, e251, j250⟩ := dzq_N90_65 (s) hI (a1 &&& 4095)
  rw [e251]
  refine q_E_B ?_
  obtain ⟨r3, e253, j252⟩ := dzq_N90_65 (s) hI ((a1 + 1) &&& 4095)
  rw [e253]
  refine q_E_B ?_
  exact q_E_x trivial
theorem dzq_N87_65  (s : q_S) (hI : q_iX c d u t l s) : (fun _ => True) (dz_N87_65 s) := trivial
theorem dzq_N86_65  (s : q_S) (hI : q_iX c d u t l s) : (fun _ => True) (dz_N86_65 s) := trivial
set_option maxHeartbeats 4000000 in
theorem dzq_N101_65  (s : q_S) (hI : q_iX c d u t l s) : (q_iX c d u t l) (dz_N101_65 s) := by
  refine q_S_of (P := (q_iX c d u t l)) ?_
  unfold dz_N101_65
  have j259 := dzq_N87_65 (s) hI
  refine q_S_L ?_
  generalize dz_N87_65 s = r1 at j259 ⊢
  cases h260 : decide (r1 = 0) with
  | true =>
    have g261 := q_rg_eqT h260 (q_rg_lit (n := 0) (x := 0) rfl)
    refine q_S_T ?_
    have j262 := dzq_N86_65 (s) hI
    refine q_S_L ?_
    generalize dz_N86_65 s = r2 at j262 ⊢
    cases h263 : decide (r2 / 24 = (s.1 4) 9) with
    | true =>
      refine q_S_T ?_
      exact q_E_x (q_iX_4 hI q_D10)
    | false =>
      refine q_S_F ?_
      exact q_E_x hI
  | false =>
    refine q_S_F ?_
    exact q_E_x hI
theorem dzq_N323  (s : q_S) (hI : q_iX c d u t l s) (a0 : Int32) : (fun _ => True) (dz_N323 s a0) := trivial
set_option maxHeartbeats 4000000 in
theorem dzq_N105_65  (s : q_S) (hI : q_iX c d u t l s) (a1 : Int32) : q_Ex (dz_N105_65 s a1) (fun (x : q_S × Bool) => q_iX c d u t l x.1) := by
  unfold dz_N105_65
  cases h279 : decide (0 < (s.1 7) ((a1 &&& 1).toNatClampNeg)) with
  | true =>
    have g280 := (q_rg_ltT2 (L := 1) (u2 := 2147483647) h279 (q_rg_lit (n := 0) (x := 0) rfl) (q_rg_full _) (by decide))
    refine q_E_T ?_
    exact q_E_x (q_iX_A (i := 7) hI (by decide))
  | false =>
    have g281 := (q_rg_ltF2 (l2 := -2147483648) (u := 0) h279 (q_rg_lit (n := 0) (x := 0) rfl) (q_rg_full _))
    refine q_E_F ?_
    obtain ⟨r2, e283, j282⟩ := dzq_N95_65 (s) hI ((1 : Int32) <<< ((a1 &&& 1) &&& 31))
    rw [e283]
    refine q_E_B ?_
    exact q_E_x (q_iX_4 j282 q_D10)
set_option maxHeartbeats 4000000 in
theorem dzq_N104_65_26  (s : q_S) (hI : q_iX c d u t l s) (v1 : Int32) (v2 : Int32) (rv2 : q_rgz 0 1 v2) : q_Ex (dz_N104_65_26 s v1 v2) (q_iX c d u t l) := by
  unfold dz_N104_65_26
  cases h311 : decide (v1 &&& 2 = 2) with
  | true =>
    have g312 := q_rg_eqT h311 (q_rg_lit (n := 2) (x := 2) rfl)
    refine q_E_T ?_
    cases h313 : decide (v1 &&& 4 = 0) with
    | true =>
      have g314 := q_rg_eqT h313 (q_rg_lit (n := 0) (x := 0) rfl)
      refine q_E_T ?_
      obtain ⟨r3, e316, j315⟩ := dzq_N105_65 (s) hI (1)
      rw [e316]
      refine q_E_B ?_
      cases h317 : r3.2 with
      | true =>
        refine q_E_T ?_
        exact q_E_x j315
      | false =>
        refine q_E_F ?_
        exact q_E_x j315
    | false =>
      have g318 := (q_rg_neL (l := 0) (u := 4) (n := 0) (L := 1) h313 (q_rg_and v1 4 (U := 4) (by decide) rfl) rfl (by decide) (by decide))
      refine q_E_F ?_
      cases h319 : decide (v2 = 0) with
      | true =>
        have g320 := q_rg_eqT h319 (q_rg_lit (n := 0) (x := 0) rfl)
        refine q_E_T ?_
        exact q_E_x hI
      | false =>
        have g321 := (q_rg_neL (l := 0) (u := 1) (n := 0) (L := 1) h319 rv2 rfl (by decide) (by decide))
        refine q_E_F ?_
        obtain ⟨r4, e323, j322⟩ := dzq_N105_65 (s) hI (1)
        rw [e323]
        refine q_E_B ?_
        cases h324 : r4.2 with
        | true =>
          refine q_E_T ?_
          exact q_E_x j322
        | false =>
          refine q_E_F ?_
          exact q_E_x j322
  | false =>
    have g325 := (q_rg_neU (l := 0) (u := 2) (n := 2) (U := 1) h311 (q_rg_and v1 2 (U := 2) (by decide) rfl) rfl (by decide) (by decide))
    refine q_E_F ?_
    exact q_E_x hI
set_option maxHeartbeats 4000000 in
theorem dzq_N104_65  (s : q_S) (hI : q_iX c d u t l s) : q_Ex (dz_N104_65 s) (q_iX c d u t l) := by
  unfold dz_N104_65
  cases h326 : decide (((s.1 4) 16) &&& 1 = 1) with
  | true =>
    have g327 := q_rg_eqT h326 (q_rg_lit (n := 1) (x := 1) rfl)
    refine q_E_T ?_
    obtain ⟨r2, e329, j328⟩ := dzq_N105_65 (s) hI (0)
    rw [e329]
    refine q_E_B ?_
    cases h330 : r2.2 with
    | true =>
      refine q_E_T ?_
      exact dzq_N104_65_26 (r2.1) j328 ((s.1 4) 16) (1) (q_rg_le (L := 0) (U := 1) (q_rg_lit (n := 1) (x := 1) rfl) (by decide) (by decide))
    | false =>
      refine q_E_F ?_
      exact dzq_N104_65_26 (r2.1) j328 ((s.1 4) 16) (0) (q_rg_le (L := 0) (U := 1) (q_rg_lit (n := 0) (x := 0) rfl) (by decide) (by decide))
  | false =>
    have g331 := (q_rg_neU (l := 0) (u := 1) (n := 1) (U := 0) h326 (q_rg_and ((s.1 4) 16) 1 (U := 1) (by decide) rfl) rfl (by decide) (by decide))
    refine q_E_F ?_
    exact dzq_N104_65_26 (s) hI ((s.1 4) 16) (0) (q_rg_le (L := 0) (U := 1) (q_rg_lit (n := 0) (x := 0) rfl) (by decide) (by decide))
set_option maxHeartbeats 4000000 in
theorem dzq_N177_72  (s : q_S) (hI : q_iX c d u t l s) : (fun (x : q_S × Bool) => q_iX c d u t l x.1) (dz_N177_72 s) := by
  refine q_S_of (P := (fun (x : q_S × Bool) => q_iX c d u t l x.1)) ?_
  unfold dz_N177_72
  cases h344 : decide (s.2.1 8 2 < 0) with
  | true =>
    have g345 := (q_rg_ltT1 (l := -2147483648) (U := -1) h344 (q_rg_full _) (q_rg_lit (n := 0) (x := 0) rfl) (by decide))
    refine q_S_T ?_
    exact q_E_x hI
  | false =>
    have g346 := (q_rg_ltF1 (l2 := 0) (u := 2147483647) h344 (q_rg_full _) (q_rg_lit (n := 0) (x := 0) rfl))
    refine q_S_F ?_
    cases h347 : decide (s.2.1 8 2 < s.2.1 8 1) with
    | true =>
      have g348 := (q_rg_ltT1 (l := 0) (U := 2147483646) h347 g346 (q_rg_full _) (by decide))
      have g349 := (q_rg_ltT2 (L := 1) (u2 := 2147483647) h347 g346 (q_rg_full _) (by decide))
      refine q_S_T ?_
      cases h350 : decide (s.2.1 8 2 < 40) with
      | true =>
        have g351 := (q_rg_ltT1 (l := 0) (U := 39) h350 g348 (q_rg_lit (n := 40) (x := 40) rfl) (by decide))
        refine q_S_T ?_
        cases h352 : decide ((s.2.1 8 3) + 1 < (s.1 9) ((s.2.1 8 2).toNatClampNeg)) with
        | true =>
          have g353 := (q_rg_ltT1 (l := -2147483648) (U := 2147483646) h352 (q_rg_full _) (q_rg_full _) (by decide))
          have g354 := (q_rg_ltT2 (L := -2147483647) (u2 := 2147483647) h352 (q_rg_full _) (q_rg_full _) (by decide))
          refine q_S_T ?_
          exact q_E_x (q_iX_I (i := 8) (m := 3) hI (by decide) (by decide) (by decide))
        | false =>
          refine q_S_F ?_
          exact q_E_x (q_iX_I (i := 8) (m := 4) (q_iX_I (i := 8) (m := 2) (q_iX_I (i := 8) (m := 3) hI (by decide) (by decide) (by decide)) (by decide) (by decide) (by decide)) (by decide) (by decide) (by decide))
      | false =>
        have g355 := (q_rg_ltF1 (l2 := 40) (u := 2147483646) h350 g348 (q_rg_lit (n := 40) (x := 40) rfl))
        refine q_S_F ?_
        exact q_E_x hI
    | false =>
      refine q_S_F ?_
      exact q_E_x hI
set_option maxHeartbeats 4000000 in
theorem dzq_N106_65  (s : q_S) (hI : q_iX c d u t l s) : (q_iX c d u t l) (dz_N106_65 s) := by
  refine q_S_of (P := (q_iX c d u t l)) ?_
  unfold dz_N106_65
  cases h360 : decide ((s.1 4) 44 = 1) with
  | true =>
    have g361 := q_rg_eqT h360 (q_rg_lit (n := 1) (x := 1) rfl)
    refine q_S_T ?_
    have j362 := dzq_N177_72 (s) hI
    refine q_S_L ?_
    generalize dz_N177_72 s = r1 at j362 ⊢
    cases h363 : r1.2 with
    | true =>
      refine q_S_T ?_
      exact q_E_x (q_iX_4 j362 q_D10)
    | false =>
      refine q_S_F ?_
      exact q_E_x j362
  | false =>
    refine q_S_F ?_
    exact q_E_x hI
set_option maxHeartbeats 4000000 in
theorem dzq_N169_89_59  (s : q_S) (hI : q_iX c d u t l s) (v1 : Int32) (v4 : Int32) (rv1 : q_rgz 0 2 v1) : q_Ex (dz_N169_89_59 s v1 v4) (q_iX c d u t l) := by
  unfold dz_N169_89_59
  refine q_E_A (q_in_rg rv1 (by decide) (by decide)) ?_
  exact q_E_x (q_iX_A (i := 29) hI (by decide))
set_option maxHeartbeats 4000000 in
theorem dzq_N169_89  (s : q_S) (hI : q_iX c d u t l s) (a1 : Int32) (a2 : Int32) : q_Ex (dz_N169_89 s a1 a2) (q_iX c d u t l) := by
  unfold dz_N169_89
  cases h390 : decide (a1 < 0) with
  | true =>
    have g391 := (q_rg_ltT1 (l := -2147483648) (U := -1) h390 (q_rg_full _) (q_rg_lit (n := 0) (x := 0) rfl) (by decide))
    refine q_E_T ?_
    exact q_E_x hI
  | false =>
    have g392 := (q_rg_ltF1 (l2 := 0) (u := 2147483647) h390 (q_rg_full _) (q_rg_lit (n := 0) (x := 0) rfl))
    refine q_E_F ?_
    cases h393 : decide (a1 < 3) with
    | true =>
      have g394 := (q_rg_ltT1 (l := 0) (U := 2) h393 g392 (q_rg_lit (n := 3) (x := 3) rfl) (by decide))
      refine q_E_T ?_
      cases h395 : decide (65535 < ((s.1 26) (a1.toNatClampNeg)) + a2) with
      | true =>
        have g396 := (q_rg_ltT2 (L := 65536) (u2 := 2147483647) h395 (q_rg_lit (n := 65535) (x := 65535) rfl) (q_rg_full _) (by decide))
        refine q_E_T ?_
        cases h397 : decide (((s.1 29) (a1.toNatClampNeg)) &&& 3 = 1) with
        | true =>
          have g398 := q_rg_eqT h397 (q_rg_lit (n := 1) (x := 1) rfl)
          refine q_E_T ?_
          exact dzq_N169_89_59 (q_sA s 26 (upd (s.1 26) (a1.toNatClampNeg) ((((s.1 26) (a1.toNatClampNeg)) + a2) - (((s.1 26) (a1.toNatClampNeg)) + a2) / 65536 * 65536))) (q_iX_A (i := 26) hI (by decide)) (a1) ((s.1 29) (a1.toNatClampNeg)) (q_rg_le (L := 0) (U := 2) g394 (by decide) (by decide))
        | false =>
          refine q_E_F ?_
          cases h399 : decide (((s.1 29) (a1.toNatClampNeg)) &&& 3 = 2) with
          | true =>
            have g400 := q_rg_eqT h399 (q_rg_lit (n := 2) (x := 2) rfl)
            refine q_E_T ?_
            exact dzq_N169_89_59 (q_sA s 26 (upd (s.1 26) (a1.toNatClampNeg) ((((s.1 26) (a1.toNatClampNeg)) + a2) - (((s.1 26) (a1.toNatClampNeg)) + a2) / 65536 * 65536))) (q_iX_A (i := 26) hI (by decide)) (a1) ((s.1 29) (a1.toNatClampNeg)) (q_rg_le (L := 0) (U := 2) g394 (by decide) (by decide))
          | false =>
            refine q_E_F ?_
            exact q_E_x (q_iX_A (i := 29) (q_iX_A (i := 26) hI (by decide)) (by decide))
      | false =>
        have g401 := (q_rg_ltF2 (l2 := -2147483648) (u := 65535) h395 (q_rg_lit (n := 65535) (x := 65535) rfl) (q_rg_full _))
        refine q_E_F ?_
        exact q_E_x (q_iX_A (i := 26) hI (by decide))
    | false =>
      have g402 := (q_rg_ltF1 (l2 := 3) (u := 2147483647) h393 g392 (q_rg_lit (n := 3) (x := 3) rfl))
      refine q_E_F ?_
      exact q_E_x hI
set_option maxHeartbeats 4000000 in
theorem dzq_N170_89_t_80  (s : q_S) (hI : q_iX c d u t l s) (v1 : Int32) (v2 : Int32) (rv1 : q_rgz 0 2 v1) (rv2 : q_rgz 1 1 v2) : q_Ex (dz_N170_89_t_80 s v1 v2) (q_iX c d u t l) := by
  unfold dz_N170_89_t_80
  cases h428 : decide (v2 = 0) with
  | true =>
    exact (q_rg_no (q_rg_le (L := 1) (U := 0) ⟨rv2.1, (q_rg_eqT h428 (q_rg_lit (n := 0) (x := 0) rfl)).2⟩ (by decide) (by decide)) (by decide)).elim
  | false =>
    refine q_E_F ?_
    exact q_E_x hI
set_option maxHeartbeats 4000000 in
theorem dzq_N170_89_t  (s : q_S) (hI : q_iX c d u t l s) (a1 : Int32) (a3 : Int32) : q_Ex (dz_N170_89_t s a1 a3) (q_iX c d u t l) := by
  unfold dz_N170_89_t
  cases h429 : decide (a1 < 0) with
  | true =>
    have g430 := (q_rg_ltT1 (l := -2147483648) (U := -1) h429 (q_rg_full _) (q_rg_lit (n := 0) (x := 0) rfl) (by decide))
    refine q_E_T ?_
    exact q_E_x hI
  | false =>
    have g431 := (q_rg_ltF1 (l2 := 0) (u := 2147483647) h429 (q_rg_full _) (q_rg_lit (n := 0) (x := 0) rfl))
    refine q_E_F ?_
    cases h432 : decide (a1 < 3) with
    | true =>
      have g433 := (q_rg_ltT1 (l := 0) (U := 2) h432 g431 (q_rg_lit (n := 3) (x := 3) rfl) (by decide))
      refine q_E_T ?_
      cases h434 : decide (a3 - a3 / 16 * 16 < (upd (s.1 28) (a1.toNatClampNeg) (((s.1 28) (a1.toNatClampNeg)) + 1)) (a1.toNatClampNeg)) with
      | true =>
        have g435 := (q_rg_ltT1 (l := -2147483648) (U := 2147483646) h434 (q_rg_full _) (q_rg_full _) (by decide))
        have g436 := (q_rg_ltT2 (L := -2147483647) (u2 := 2147483647) h434 (q_rg_full _) (q_rg_full _) (by decide))
        refine q_E_T ?_
        cases h437 : decide ((s.1 27) (a1.toNatClampNeg) < 15) with
        | true =>
          have g438 := (q_rg_ltT1 (l := -2147483648) (U := 14) h437 (q_rg_full _) (q_rg_lit (n := 15) (x := 15) rfl) (by decide))
          refine q_E_T ?_
          exact q_E_x (q_iX_A (i := 27) (q_iX_A (i := 28) hI (by decide)) (by decide))
        | false =>
          have g439 := (q_rg_ltF1 (l2 := 15) (u := 2147483647) h437 (q_rg_full _) (q_rg_lit (n := 15) (x := 15) rfl))
          refine q_E_F ?_
          exact dzq_N170_89_t_80 (q_sA s 28 (upd (upd (s.1 28) (a1.toNatClampNeg) (((s.1 28) (a1.toNatClampNeg)) + 1)) (a1.toNatClampNeg) 0)) (q_iX_A (i := 28) hI (by decide)) (a1) (1) (q_rg_le (L := 0) (U := 2) g433 (by decide) (by decide)) (q_rg_le (L := 1) (U := 1) (q_rg_lit (n := 1) (x := 1) rfl) (by decide) (by decide))
      | false =>
        refine q_E_F ?_
        exact q_E_x (q_iX_A (i := 28) hI (by decide))
    | false =>
      have g440 := (q_rg_ltF1 (l2 := 3) (u := 2147483647) h432 g431 (q_rg_lit (n := 3) (x := 3) rfl))
      refine q_E_F ?_
      exact q_E_x hI
set_option maxHeartbeats 4000000 in
theorem dzq_N170_89_f_80  (s : q_S) (hI : q_iX c d u t l s) (v1 : Int32) (v2 : Int32) (rv1 : q_rgz 0 2 v1) (rv2 : q_rgz 0 0 v2) : q_Ex (dz_N170_89_f_80 s v1 v2) (q_iX c d u t l) := by
  unfold dz_N170_89_f_80
  cases h464 : decide (v2 = 0) with
  | true =>
    have g465 := q_rg_eqT h464 (q_rg_lit (n := 0) (x := 0) rfl)
    refine q_E_T ?_
    refine q_E_A (q_in_rg rv1 (by decide) (by decide)) ?_
    cases h466 : decide (0 < (s.1 27) (v1.toNatClampNeg)) with
    | true =>
      have g467 := (q_rg_ltT2 (L := 1) (u2 := 2147483647) h466 (q_rg_lit (n := 0) (x := 0) rfl) (q_rg_full _) (by decide))
      refine q_E_T ?_
      exact q_E_x (q_iX_A (i := 27) hI (by decide))
    | false =>
      have g468 := (q_rg_ltF2 (l2 := -2147483648) (u := 0) h466 (q_rg_lit (n := 0) (x := 0) rfl) (q_rg_full _))
      refine q_E_F ?_
      exact q_E_x hI
  | false =>
    exact (q_rg_no (q_rg_neL (l := 0) (u := 0) (n := 0) (L := 1) h464 rv2 rfl (by decide) (by decide)) (by decide)).elim
set_option maxHeartbeats 4000000 in
theorem dzq_N170_89_f  (s : q_S) (hI : q_iX c d u t l s) (a1 : Int32) (a3 : Int32) : q_Ex (dz_N170_89_f s a1 a3) (q_iX c d u t l) := by
  unfold dz_N170_89_f
  cases h469 : decide (a1 < 0) with
  | true =>
    have g470 := (q_rg_ltT1 (l := -2147483648) (U := -1) h469 (q_rg_full _) (q_rg_lit (n := 0) (x := 0) rfl) (by decide))
    refine q_E_T ?_
    exact q_E_x hI
  | false =>
    have g471 := (q_rg_ltF1 (l2 := 0) (u := 2147483647) h469 (q_rg_full _) (q_rg_lit (n := 0) (x := 0) rfl))
    refine q_E_F ?_
    cases h472 : decide (a1 < 3) with
    | true =>
      have g473 := (q_rg_ltT1 (l := 0) (U := 2) h472 g471 (q_rg_lit (n := 3) (x := 3) rfl) (by decide))
      refine q_E_T ?_
      cases h474 : decide (a3 / 16 < (upd (s.1 28) (a1.toNatClampNeg) (((s.1 28) (a1.toNatClampNeg)) + 1)) (a1.toNatClampNeg)) with
      | true =>
        have g475 := (q_rg_ltT1 (l := -2147483648) (U := 2147483646) h474 (q_rg_full _) (q_rg_full _) (by decide))
        have g476 := (q_rg_ltT2 (L := -2147483647) (u2 := 2147483647) h474 (q_rg_full _) (q_rg_full _) (by decide))
        refine q_E_T ?_
        exact dzq_N170_89_f_80 (q_sA s 28 (upd (upd (s.1 28) (a1.toNatClampNeg) (((s.1 28) (a1.toNatClampNeg)) + 1)) (a1.toNatClampNeg) 0)) (q_iX_A (i := 28) hI (by decide)) (a1) (0) (q_rg_le (L := 0) (U := 2) g473 (by decide) (by decide)) (q_rg_le (L := 0) (U := 0) (q_rg_lit (n := 0) (x := 0) rfl) (by decide) (by decide))
      | false =>
        refine q_E_F ?_
        exact q_E_x (q_iX_A (i := 28) hI (by decide))
    | false =>
      have g477 := (q_rg_ltF1 (l2 := 3) (u := 2147483647) h472 g471 (q_rg_lit (n := 3) (x := 3) rfl))
      refine q_E_F ?_
      exact q_E_x hI
theorem dzq_N172  (s : q_S) (hI : q_iX c d u t l s) (a0 : Int32) (a1 : Int32) (a2 : Int32) : (fun _ => True) (dz_N172 s a0 a1 a2) := trivial
set_option maxHeartbeats 4000000 in
theorem dzq_N171_89  (s : q_S) (hI : q_iX c d u t l s) (a1 : Int32) (a2 : Int32) : q_Ex (dz_N171_89 s a1 a2) (fun _ => True) := by
  unfold dz_N171_89
  cases h530 : decide (a1 < 0) with
  | true =>
    have g531 := (q_rg_ltT1 (l := -2147483648) (U := -1) h530 (q_rg_full _) (q_rg_lit (n := 0) (x := 0) rfl) (by decide))
    refine q_E_T ?_
    exact q_E_x trivial
  | false =>
    have g532 := (q_rg_ltF1 (l2 := 0) (u := 2147483647) h530 (q_rg_full _) (q_rg_lit (n := 0) (x := 0) rfl))
    refine q_E_F ?_
    cases h533 : decide (a1 < 3) with
    | true =>
      have g534 := (q_rg_ltT1 (l := 0) (U := 2) h533 g532 (q_rg_lit (n := 3) (x := 3) rfl) (by decide))
      refine q_E_T ?_
      have j535 := dzq_N172 (s) hI ((a2 >>> ((1 &&& 31) : Int32)) &&& 3) ((s.1 26) (a1.toNatClampNeg)) ((s.1 29) (a1.toNatClampNeg))
      refine q_E_L ?_
      generalize dz_N172 s ((a2 >>> ((1 &&& 31) : Int32)) &&& 3) ((s.1 26) (a1.toNatClampNeg)) ((s.1 29) (a1.toNatClampNeg)) = r2 at j535 ⊢
      cases h536 : decide (a1 = 0) with
      | true =>
        have g537 := q_rg_eqT h536 (q_rg_lit (n := 0) (x := 0) rfl)
        refine q_E_T ?_
        cases h538 : decide (a2 &&& 8 = 8) with
        | true =>
          have g539 := q_rg_eqT h538 (q_rg_lit (n := 8) (x := 8) rfl)
          refine q_E_T ?_
          cases h540 : decide ((s.1 26) 2 < 32768) with
          | true =>
            have g541 := (q_rg_ltT1 (l := -2147483648) (U := 32767) h540 (q_rg_full _) (q_rg_lit (n := 32768) (x := 32768) rfl) (by decide))
            refine q_E_T ?_
            exact q_E_x trivial
          | false =>
            have g542 := (q_rg_ltF1 (l2 := 32768) (u := 2147483647) h540 (q_rg_full _) (q_rg_lit (n := 32768) (x := 32768) rfl))
            refine q_E_F ?_
            exact q_E_x trivial
        | false =>
          have g543 := (q_rg_neU (l := 0) (u := 8) (n := 8) (U := 7) h538 (q_rg_and a2 8 (U := 8) (by decide) rfl) rfl (by decide) (by decide))
          refine q_E_F ?_
          exact q_E_x trivial
      | false =>
        have g544 := (q_rg_neL (l := 0) (u := 2) (n := 0) (L := 1) h536 g534 rfl (by decide) (by decide))
        refine q_E_F ?_
        cases h545 : decide (a2 &&& 8 = 8) with
        | true =>
          have g546 := q_rg_eqT h545 (q_rg_lit (n := 8) (x := 8) rfl)
          refine q_E_T ?_
          refine q_E_A (q_in_rg (q_rg_sub (L := 0) (U := 1) g544 (q_rg_lit (n := 1) (x := 1) rfl) (by decide) (by decide) (by decide) (by decide)) (by decide) (by decide)) ?_
          cases h547 : decide ((s.1 26) ((a1 - 1).toNatClampNeg) < 32768) with
          | true =>
            have g548 := (q_rg_ltT1 (l := -2147483648) (U := 32767) h547 (q_rg_full _) (q_rg_lit (n := 32768) (x := 32768) rfl) (by decide))
            refine q_E_T ?_
            exact q_E_x trivial
          | false =>
            have g549 := (q_rg_ltF1 (l2 := 32768) (u := 2147483647) h547 (q_rg_full _) (q_rg_lit (n := 32768) (x := 32768) rfl))
            refine q_E_F ?_
            exact q_E_x trivial
        | false =>
          have g550 := (q_rg_neU (l := 0) (u := 8) (n := 8) (U := 7) h545 (q_rg_and a2 8 (U := 8) (by decide) rfl) rfl (by decide) (by decide))
          refine q_E_F ?_
          exact q_E_x trivial
    | false =>
      have g551 := (q_rg_ltF1 (l2 := 3) (u := 2147483647) h533 g532 (q_rg_lit (n := 3) (x := 3) rfl))
      refine q_E_F ?_
      exact q_E_x trivial
set_option maxHeartbeats 4000000 in
theorem dzqb_N168_89_68_92  (k92 : q_S → Int32 → Int32 → Int32 → Option (q_S)) (M92 : Int) (tk92 : ∀ (s : q_S), q_iX c d u t l s → ∀ (v2 : Int32) (v3 : Int32) (v4 : Int32), q_rgz 0 39 v2 → q_rgz 0 3 v4 → ((3 - v4.toInt).toNat : Int) ≤ M92 → q_Ex (k92 s v2 v3 v4) (q_iX c d u t l)) (s : q_S) (hI : q_iX c d u t l s) (v2 : Int32) (v3 : Int32) (v4 : Int32) (rv2 : q_rgz 0 39 v2) (rv4 : q_rgz 0 3 v4) (m92 : ((3 - v4.toInt).toNat : Int) ≤ M92 + 1) : q_Ex (cond (decide (v4 < 3)) (cond (q_in (((32 : Int32) + (4 * v4)) + 2) 48) ((dz_N171_89 s v4 ((s.1 4) ((((32 : Int32) + (4 * v4)) + 2).toNatClampNeg))).bind fun r4 => cond (q_in v4 3) (k92 s v2 (v3 + (r4 * ((s.1 27) (v4.toNatClampNeg)))) (v4 + 1)) none) none) (cond (q_in v2 40) (some (q_sA s 30 (upd (s.1 30) (v2.toNatClampNeg) (v3 / 15)))) none)) (q_iX c d u t l) := by
  cases h712 : decide (v4 < 3) with
  | true =>
    have g713 := (q_rg_ltT1 (l := 0) (U := 2) h712 rv4 (q_rg_lit (n := 3) (x := 3) rfl) (by decide))
    refine q_E_T ?_
    refine q_E_A (q_in_rg (q_rg_add (L := 34) (U := 42) (q_rg_add (L := 32) (U := 40) (q_rg_lit (n := 32) (x := 32) rfl) (q_rg_mul (L := 0) (U := 8) (q_rg_lit (n := 4) (x := 4) rfl) g713 (by decide) (by decide) (by decide) (by decide) (by decide) (by decide)) (by decide) (by decide) (by decide) (by decide)) (q_rg_lit (n := 2) (x := 2) rfl) (by decide) (by decide) (by decide) (by decide)) (by decide) (by decide)) ?_
    obtain ⟨r4, e715, j714⟩ := dzq_N171_89 (s) hI (v4) ((s.1 4) ((((32 : Int32) + (4 * v4)) + 2).toNatClampNeg))
    rw [e715]
    refine q_E_B ?_
    refine q_E_A (q_in_rg g713 (by decide) (by decide)) ?_
    exact tk92 (s) hI (v2) (v3 + (r4 * ((s.1 27) (v4.toNatClampNeg)))) (v4 + 1) (q_rg_le (L := 0) (U := 39) rv2 (by decide) (by decide)) (q_rg_le (L := 0) (U := 3) (q_rg_add (L := 1) (U := 3) g713 (q_rg_lit (n := 1) (x := 1) rfl) (by decide) (by decide) (by decide) (by decide)) (by decide) (by decide)) (q_meu g713 m92 (by decide) (by decide))
  | false =>
    have g716 := (q_rg_ltF1 (l2 := 3) (u := 3) h712 rv4 (q_rg_lit (n := 3) (x := 3) rfl))
    refine q_E_F ?_
    refine q_E_A (q_in_rg rv2 (by decide) (by decide)) ?_
    exact q_E_x (q_iX_A (i := 30) hI (by decide))
theorem dzq_N168_89_68_92  : ∀ (m : Nat) (s : q_S) (hI : q_iX c d u t l s) (v2 : Int32) (v3 : Int32) (v4 : Int32) (rv2 : q_rgz 0 39 v2) (rv4 : q_rgz 0 3 v4), ((3 - v4.toInt).toNat : Int) ≤ (m : Int) → q_Ex (dz_N168_89_68_92 (m + 1) s v2 v3 v4) (q_iX c d u t l) := by
  intro m
  induction m with
  | zero => intro s hI v2 v3 v4 rv2 rv4 hm; rw [dzs_N168_89_68_92]; exact dzqb_N168_89_68_92 (dz_N168_89_68_92 0) (-1) (fun s hI v2 v3 v4 rv2 rv4 hm => absurd hm (by omega)) s hI v2 v3 v4 rv2 rv4 (by omega)
  | succ m ih => intro s hI v2 v3 v4 rv2 rv4 hm; rw [dzs_N168_89_68_92]; exact dzqb_N168_89_68_92 (dz_N168_89_68_92 (m + 1)) (m : Int) (fun s hI v2 v3 v4 rv2 rv4 hm => ih s hI v2 v3 v4 rv2 rv4 hm) s hI v2 v3 v4 rv2 rv4 (by omega)
set_option maxHeartbeats 4000000 in
theorem dzqb_N168_89_68_20  (k20 : q_S → Int32 → Int32 → Option (q_S)) (M20 : Int) (tk20 : ∀ (s : q_S), q_iX c d u t l s → ∀ (v2 : Int32) (v3 : Int32), q_rgz 0 39 v2 → q_rgz 0 3 v3 → ((3 - v3.toInt).toNat : Int) ≤ M20 → q_Ex (k20 s v2 v3) (q_iX c d u t l)) (s : q_S) (hI : q_iX c d u t l s) (v2 : Int32) (v3 : Int32) (rv2 : q_rgz 0 39 v2) (rv3 : q_rgz 0 3 v3) (m20 : ((3 - v3.toInt).toNat : Int) ≤ M20 + 1) : q_Ex (cond (decide (v3 < 3)) (cond (q_in ((32 : Int32) + (4 * v3)) 48) (cond (q_in (((32 : Int32) + (4 * v3)) + 1) 48) ((dz_N169_89 s v3 (((s.1 4) (((32 : Int32) + (4 * v3)).toNatClampNeg)) + (256 * ((s.1 4) ((((32 : Int32) + (4 * v3)) + 1).toNatClampNeg))))).bind fun r1 => cond (q_in (((32 : Int32) + (4 * v3)) + 2) 48) (cond (decide (((r1.1 4) ((((32 : Int32) + (4 * v3)) + 2).toNatClampNeg)) &&& 1 = 1)) (cond (q_in (((32 : Int32) + (4 * v3)) + 3) 48) ((dz_N170_89_t r1 v3 ((r1.1 4) ((((32 : Int32) + (4 * v3)) + 3).toNatClampNeg))).bind fun r2 => k20 r2 v2 (v3 + 1)) none) (cond (q_in (((32 : Int32) + (4 * v3)) + 3) 48) ((dz_N170_89_f r1 v3 ((r1.1 4) ((((32 : Int32) + (4 * v3)) + 3).toNatClampNeg))).bind fun r3 => k20 r3 v2 (v3 + 1)) none)) none) none) none) (dz_N168_89_68_92 5000 s v2 0 0)) (q_iX c d u t l) := by
  cases h717 : decide (v3 < 3) with
  | true =>
    have g718 := (q_rg_ltT1 (l := 0) (U := 2) h717 rv3 (q_rg_lit (n := 3) (x := 3) rfl) (by decide))
    refine q_E_T ?_
    refine q_E_A (q_in_rg (q_rg_add (L := 32) (U := 40) (q_rg_lit (n := 32) (x := 32) rfl) (q_rg_mul (L := 0) (U := 8) (q_rg_lit (n := 4) (x := 4) rfl) g718 (by decide) (by decide) (by decide) (by decide) (by decide) (by decide)) (by decide) (by decide) (by decide) (by decide)) (by decide) (by decide)) ?_
    refine q_E_A (q_in_rg (q_rg_add (L := 33) (U := 41) (q_rg_add (L := 32) (U := 40) (q_rg_lit (n := 32) (x := 32) rfl) (q_rg_mul (L := 0) (U := 8) (q_rg_lit (n := 4) (x := 4) rfl) g718 (by decide) (by decide) (by decide) (by decide) (by decide) (by decide)) (by decide) (by decide) (by decide) (by decide)) (q_rg_lit (n := 1) (x := 1) rfl) (by decide) (by decide) (by decide) (by decide)) (by decide) (by decide)) ?_
    obtain ⟨r1, e720, j719⟩ := dzq_N169_89 (s) hI (v3) (((s.1 4) (((32 : Int32) + (4 * v3)).toNatClampNeg)) + (256 * ((s.1 4) ((((32 : Int32) + (4 * v3)) + 1).toNatClampNeg))))
    rw [e720]
    refine q_E_B ?_
    refine q_E_A (q_in_rg (q_rg_add (L := 34) (U := 42) (q_rg_add (L := 32) (U := 40) (q_rg_lit (n := 32) (x := 32) rfl) (q_rg_mul (L := 0) (U := 8) (q_rg_lit (n := 4) (x := 4) rfl) g718 (by decide) (by decide) (by decide) (by decide) (by decide) (by decide)) (by decide) (by decide) (by decide) (by decide)) (q_rg_lit (n := 2) (x := 2) rfl) (by decide) (by decide) (by decide) (by decide)) (by decide) (by decide)) ?_
    cases h721 : decide (((r1.1 4) ((((32 : Int32) + (4 * v3)) + 2).toNatClampNeg)) &&& 1 = 1) with
    | true =>
      have g722 := q_rg_eqT h721 (q_rg_lit (n := 1) (x := 1) rfl)
      refine q_E_T ?_
      refine q_E_A (q_in_rg (q_rg_add (L := 35) (U := 43) (q_rg_add (L := 32) (U := 40) (q_rg_lit (n := 32) (x := 32) rfl) (q_rg_mul (L := 0) (U := 8) (q_rg_lit (n := 4) (x := 4) rfl) g718 (by decide) (by decide) (by decide) (by decide) (by decide) (by decide)) (by decide) (by decide) (by decide) (by decide)) (q_rg_lit (n := 3) (x := 3) rfl) (by decide) (by decide) (by decide) (by decide)) (by decide) (by decide)) ?_
      obtain ⟨r2, e724, j723⟩ := dzq_N170_89_t (r1) j719 (v3) ((r1.1 4) ((((32 : Int32) + (4 * v3)) + 3).toNatClampNeg))
      rw [e724]
      refine q_E_B ?_
      exact tk20 (r2) j723 (v2) (v3 + 1) (q_rg_le (L := 0) (U := 39) rv2 (by decide) (by decide)) (q_rg_le (L := 0) (U := 3) (q_rg_add (L := 1) (U := 3) g718 (q_rg_lit (n := 1) (x := 1) rfl) (by decide) (by decide) (by decide) (by decide)) (by decide) (by decide)) (q_meu g718 m20 (by decide) (by decide))
    | false =>
      have g725 := (q_rg_neU (l := 0) (u := 1) (n := 1) (U := 0) h721 (q_rg_and ((r1.1 4) ((((32 : Int32) + (4 * v3)) + 2).toNatClampNeg)) 1 (U := 1) (by decide) rfl) rfl (by decide) (by decide))
      refine q_E_F ?_
      refine q_E_A (q_in_rg (q_rg_add (L := 35) (U := 43) (q_rg_add (L := 32) (U := 40) (q_rg_lit (n := 32) (x := 32) rfl) (q_rg_mul (L := 0) (U := 8) (q_rg_lit (n := 4) (x := 4) rfl) g718 (by decide) (by decide) (by decide) (by decide) (by decide) (by decide)) (by decide) (by decide) (by decide) (by decide)) (q_rg_lit (n := 3) (x := 3) rfl) (by decide) (by decide) (by decide) (by decide)) (by decide) (by decide)) ?_
      obtain ⟨r3, e727, j726⟩ := dzq_N170_89_f (r1) j719 (v3) ((r1.1 4) ((((32 : Int32) + (4 * v3)) + 3).toNatClampNeg))
      rw [e727]
      refine q_E_B ?_
      exact tk20 (r3) j726 (v2) (v3 + 1) (q_rg_le (L := 0) (U := 39) rv2 (by decide) (by decide)) (q_rg_le (L := 0) (U := 3) (q_rg_add (L := 1) (U := 3) g718 (q_rg_lit (n := 1) (x := 1) rfl) (by decide) (by decide) (by decide) (by decide)) (by decide) (by decide)) (q_meu g718 m20 (by decide) (by decide))
  | false =>
    have g728 := (q_rg_ltF1 (l2 := 3) (u := 3) h717 rv3 (q_rg_lit (n := 3) (x := 3) rfl))
    refine q_E_F ?_
    exact dzq_N168_89_68_92 4999 (s) hI (v2) (0) (0) (q_rg_le (L := 0) (U := 39) rv2 (by decide) (by decide)) (q_rg_le (L := 0) (U := 3) (q_rg_lit (n := 0) (x := 0) rfl) (by decide) (by decide)) (q_meu0 (q_rg_lit (n := 0) (x := 0) rfl) (by decide) (by decide))
theorem dzq_N168_89_68_20  : ∀ (m : Nat) (s : q_S) (hI : q_iX c d u t l s) (v2 : Int32) (v3 : Int32) (rv2 : q_rgz 0 39 v2) (rv3 : q_rgz 0 3 v3), ((3 - v3.toInt).toNat : Int) ≤ (m : Int) → q_Ex (dz_N168_89_68_20 (m + 1) s v2 v3) (q_iX c d u t l) := by
  intro m
  induction m with
  | zero => intro s hI v2 v3 rv2 rv3 hm; rw [dzs_N168_89_68_20]; exact dzqb_N168_89_68_20 (dz_N168_89_68_20 0) (-1) (fun s hI v2 v3 rv2 rv3 hm => absurd hm (by omega)) s hI v2 v3 rv2 rv3 (by omega)
  | succ m ih => intro s hI v2 v3 rv2 rv3 hm; rw [dzs_N168_89_68_20]; exact dzqb_N168_89_68_20 (dz_N168_89_68_20 (m + 1)) (m : Int) (fun s hI v2 v3 rv2 rv3 hm => ih s hI v2 v3 rv2 rv3 hm) s hI v2 v3 rv2 rv3 (by omega)
set_option maxHeartbeats 4000000 in
theorem dzq_N168_89_68  (s : q_S) (hI : q_iX c d u t l s) (a2 : Int32) : q_Ex (dz_N168_89_68 s a2) (q_iX c d u t l) := by
  unfold dz_N168_89_68
  cases h729 : decide (a2 < 0) with
  | true =>
    have g730 := (q_rg_ltT1 (l := -2147483648) (U := -1) h729 (q_rg_full _) (q_rg_lit (n := 0) (x := 0) rfl) (by decide))
    refine q_E_T ?_
    exact q_E_x hI
  | false =>
    have g731 := (q_rg_ltF1 (l2 := 0) (u := 2147483647) h729 (q_rg_full _) (q_rg_lit (n := 0) (x := 0) rfl))
    refine q_E_F ?_
    cases h732 : decide (a2 < 40) with
    | true =>
      have g733 := (q_rg_ltT1 (l := 0) (U := 39) h732 g731 (q_rg_lit (n := 40) (x := 40) rfl) (by decide))
      refine q_E_T ?_
      exact dzq_N168_89_68_20 4999 (s) hI (a2) (0) (q_rg_le (L := 0) (U := 39) g733 (by decide) (by decide)) (q_rg_le (L := 0) (U := 3) (q_rg_lit (n := 0) (x := 0) rfl) (by decide) (by decide)) (q_meu0 (q_rg_lit (n := 0) (x := 0) rfl) (by decide) (by decide))
    | false =>
      have g734 := (q_rg_ltF1 (l2 := 40) (u := 2147483647) h732 g731 (q_rg_lit (n := 40) (x := 40) rfl))
      refine q_E_F ?_
      exact q_E_x hI
theorem dzq_N187  (s : q_S) (hI : q_iX c d u t l s) (a0 : Int32) : (fun _ => True) (dz_N187 s a0) := trivial
theorem dzq_N140_87  (s : q_S) (hI : q_iX c d u t l s) (a1 : Int32) : (fun _ => True) (dz_N140_87 s a1) := trivial
theorem dzq_N161_87  (s : q_S) (hI : q_iX c d u t l s) (a1 : Int32) : (fun _ => True) (dz_N161_87 s a1) := trivial
theorem dzq_N193  (s : q_S) (hI : q_iX c d u t l s) (a0 : Int32) (a1 : Int32) : (fun _ => True) (dz_N193 s a0 a1) := trivial
theorem dzq_N139_87  (s : q_S) (hI : q_iX c d u t l s) (a1 : Int32) : (fun _ => True) (dz_N139_87 s a1) := trivial
theorem dzq_N138_87  (s : q_S) (hI : q_iX c d u t l s) (a1 : Int32) (a2 : Int32) : (fun _ => True) (dz_N138_87 s a1 a2) := trivial
theorem dzq_N192  (s : q_S) (hI : q_iX c d u t l s) (a0 : Int32) : (fun _ => True) (dz_N192 s a0) := trivial
theorem dzq_N189  (s : q_S) (hI : q_iX c d u t l s) (a0 : Int32) : (fun _ => True) (dz_N189 s a0) := trivial
theorem dzq_N143_87  (s : q_S) (hI : q_iX c d u t l s) (a1 : Int32) : (fun _ => True) (dz_N143_87 s a1) := trivial
theorem dzq_N188  (s : q_S) (hI : q_iX c d u t l s) (a0 : Int32) : (fun _ => True) (dz_N188 s a0) := trivial
set_option maxHeartbeats 4000000 in
theorem dzqb_N182_74_51  (k7 : q_S → Int32 → Int32 → Int32 → Option (Int32)) (M7 : Int) (tk7 : ∀ (s : q_S), q_iX c d u t l s → ∀ (v2 : Int32) (v3 : Int32) (v4 : Int32), q_rgz 0 4 v4 → ((4 - v4.toInt).toNat : Int) ≤ M7 → q_Ex (k7 s v2 v3 v4) (fun _ => True)) (k51 : q_S → Int32 → Int32 → Int32 → Int32 → Option (Int32)) (M51 : Int) (tk51 : ∀ (s : q_S), q_iX c d u t l s → ∀ (v2 : Int32) (v3 : Int32) (v4 : Int32) (v5 : Int32), q_rgz 0 3 v4 → q_rgz 0 4 v5 → ((4 - v4.toInt).toNat : Int) ≤ M7 + 1 → ((4 - v5.toInt).toNat : Int) ≤ M51 → q_Ex (k51 s v2 v3 v4 v5) (fun _ => True)) (s : q_S) (hI : q_iX c d u t l s) (v2 : Int32) (v3 : Int32) (v4 : Int32) (v5 : Int32) (rv4 : q_rgz 0 3 v4) (rv5 : q_rgz 0 4 v5) (m7 : ((4 - v4.toInt).toNat : Int) ≤ M7 + 1) (m51 : ((4 - v5.toInt).toNat : Int) ≤ M51 + 1) : q_Ex (cond (decide (v5 < 4)) (cond (q_in v5 4) (cond (decide (((s.1 11) (v5.toNatClampNeg)) &&& v3 = 0)) (k51 s v2 v3 v4 (v5 + 1)) (k51 s (v2 ||| ((1 : Int32) <<< (v5 &&& 31))) v3 v4 (v5 + 1))) none) (k7 s v2 v3 (v4 + 1))) (fun _ => True) := by
  cases h1011 : decide (v5 < 4) with
  | true =>
    have g1012 := (q_rg_ltT1 (l := 0) (U := 3) h1011 rv5 (q_rg_lit (n := 4) (x := 4) rfl) (by decide))
    refine q_E_T ?_
    refine q_E_A (q_in_rg g1012 (by decide) (by decide)) ?_
    cases h1013 : decide (((s.1 11) (v5.toNatClampNeg)) &&& v3 = 0) with
    | true =>
      have g1014 := q_rg_eqT h1013 (q_rg_lit (n := 0) (x := 0) rfl)
      refine q_E_T ?_
      exact tk51 (s) hI (v2) (v3) (v4) (v5 + 1) (q_rg_le (L := 0) (U := 3) rv4 (by decide) (by decide)) (q_rg_le (L := 0) (U := 4) (q_rg_add (L := 1) (U := 4) g1012 (q_rg_lit (n := 1) (x := 1) rfl) (by decide) (by decide) (by decide) (by decide)) (by decide) (by decide)) m7 (q_meu g1012 m51 (by decide) (by decide))
    | false =>
      refine q_E_F ?_
      exact tk51 (s) hI (v2 ||| ((1 : Int32) <<< (v5 &&& 31))) (v3) (v4) (v5 + 1) (q_rg_le (L := 0) (U := 3) rv4 (by decide) (by decide)) (q_rg_le (L := 0) (U := 4) (q_rg_add (L := 1) (U := 4) g1012 (q_rg_lit (n := 1) (x := 1) rfl) (by decide) (by decide) (by decide) (by decide)) (by decide) (by decide)) m7 (q_meu g1012 m51 (by decide) (by decide))
  | false =>
    have g1015 := (q_rg_ltF1 (l2 := 4) (u := 4) h1011 rv5 (q_rg_lit (n := 4) (x := 4) rfl))
    refine q_E_F ?_
    exact tk7 (s) hI (v2) (v3) (v4 + 1) (q_rg_le (L := 0) (U := 4) (q_rg_add (L := 1) (U := 4) rv4 (q_rg_lit (n := 1) (x := 1) rfl) (by decide) (by decide) (by decide) (by decide)) (by decide) (by decide)) (q_meu rv4 m7 (by decide) (by decide))
theorem dzq_N182_74_51  (k7 : q_S → Int32 → Int32 → Int32 → Option (Int32)) (M7 : Int) (tk7 : ∀ (s : q_S), q_iX c d u t l s → ∀ (v2 : Int32) (v3 : Int32) (v4 : Int32), q_rgz 0 4 v4 → ((4 - v4.toInt).toNat : Int) ≤ M7 → q_Ex (k7 s v2 v3 v4) (fun _ => True)) : ∀ (m : Nat) (s : q_S) (hI : q_iX c d u t l s) (v2 : Int32) (v3 : Int32) (v4 : Int32) (v5 : Int32) (rv4 : q_rgz 0 3 v4) (rv5 : q_rgz 0 4 v5) (m7 : ((4 - v4.toInt).toNat : Int) ≤ M7 + 1), ((4 - v5.toInt).toNat : Int) ≤ (m : Int) → q_Ex (dz_N182_74_51 k7 (m + 1) s v2 v3 v4 v5) (fun _ => True) := by
  intro m
  induction m with
  | zero => intro s hI v2 v3 v4 v5 rv4 rv5 m7 hm; rw [dzs_N182_74_51]; exact dzqb_N182_74_51 k7 M7 tk7 (dz_N182_74_51 k7 0) (-1) (fun s hI v2 v3 v4 v5 rv4 rv5 m7 hm => absurd hm (by omega)) s hI v2 v3 v4 v5 rv4 rv5 m7 (by omega)
  | succ m ih => intro s hI v2 v3 v4 v5 rv4 rv5 m7 hm; rw [dzs_N182_74_51]; exact dzqb_N182_74_51 k7 M7 tk7 (dz_N182_74_51 k7 (m + 1)) (m : Int) (fun s hI v2 v3 v4 v5 rv4 rv5 m7 hm => ih s hI v2 v3 v4 v5 rv4 rv5 m7 hm) s hI v2 v3 v4 v5 rv4 rv5 m7 (by omega)
set_option maxHeartbeats 4000000 in
theorem dzqb_N182_74_16  (k7 : q_S → Int32 → Int32 → Int32 → Option (Int32)) (M7 : Int) (tk7 : ∀ (s : q_S), q_iX c d u t l s → ∀ (v2 : Int32) (v3 : Int32) (v4 : Int32), q_rgz 0 4 v4 → ((4 - v4.toInt).toNat : Int) ≤ M7 → q_Ex (k7 s v2 v3 v4) (fun _ => True)) (k16 : q_S → Int32 → Int32 → Int32 → Int32 → Option (Int32)) (M16 : Int) (tk16 : ∀ (s : q_S), q_iX c d u t l s → ∀ (v2 : Int32) (v3 : Int32) (v4 : Int32) (v5 : Int32), q_rgz 0 3 v4 → q_rgz 0 4 v5 → ((4 - v4.toInt).toNat : Int) ≤ M7 + 1 → ((4 - v5.toInt).toNat : Int) ≤ M16 → q_Ex (k16 s v2 v3 v4 v5) (fun _ => True)) (s : q_S) (hI : q_iX c d u t l s) (v2 : Int32) (v3 : Int32) (v4 : Int32) (v5 : Int32) (rv4 : q_rgz 0 3 v4) (rv5 : q_rgz 0 4 v5) (m7 : ((4 - v4.toInt).toNat : Int) ≤ M7 + 1) (m16 : ((4 - v5.toInt).toNat : Int) ≤ M16 + 1) : q_Ex (cond (decide (v5 < 4)) (cond (decide ((v2 >>> (v5 &&& 31)) &&& 1 = 1)) (cond (q_in v5 4) (k16 s v2 (v3 ||| ((s.1 11) (v5.toNatClampNeg))) v4 (v5 + 1)) none) (k16 s v2 v3 v4 (v5 + 1))) (dz_N182_74_51 k7 5000 s v2 v3 v4 0)) (fun _ => True) := by
  cases h1016 : decide (v5 < 4) with
  | true =>
    have g1017 := (q_rg_ltT1 (l := 0) (U := 3) h1016 rv5 (q_rg_lit (n := 4) (x := 4) rfl) (by decide))
    refine q_E_T ?_
    cases h1018 : decide ((v2 >>> (v5 &&& 31)) &&& 1 = 1) with
    | true =>
      have g1019 := q_rg_eqT h1018 (q_rg_lit (n := 1) (x := 1) rfl)
      refine q_E_T ?_
      refine q_E_A (q_in_rg g1017 (by decide) (by decide)) ?_
      exact tk16 (s) hI (v2) (v3 ||| ((s.1 11) (v5.toNatClampNeg))) (v4) (v5 + 1) (q_rg_le (L := 0) (U := 3) rv4 (by decide) (by decide)) (q_rg_le (L := 0) (U := 4) (q_rg_add (L := 1) (U := 4) g1017 (q_rg_lit (n := 1) (x := 1) rfl) (by decide) (by decide) (by decide) (by decide)) (by decide) (by decide)) m7 (q_meu g1017 m16 (by decide) (by decide))
    | false =>
      have g1020 := (q_rg_neU (l := 0) (u := 1) (n := 1) (U := 0) h1018 (q_rg_and (v2 >>> (v5 &&& 31)) 1 (U := 1) (by decide) rfl) rfl (by decide) (by decide))
      refine q_E_F ?_
      exact tk16 (s) hI (v2) (v3) (v4) (v5 + 1) (q_rg_le (L := 0) (U := 3) rv4 (by decide) (by decide)) (q_rg_le (L := 0) (U := 4) (q_rg_add (L := 1) (U := 4) g1017 (q_rg_lit (n := 1) (x := 1) rfl) (by decide) (by decide) (by decide) (by decide)) (by decide) (by decide)) m7 (q_meu g1017 m16 (by decide) (by decide))
  | false =>
    have g1021 := (q_rg_ltF1 (l2 := 4) (u := 4) h1016 rv5 (q_rg_lit (n := 4) (x := 4) rfl))
    refine q_E_F ?_
    exact dzq_N182_74_51 k7 M7 tk7 4999 (s) hI (v2) (v3) (v4) (0) (q_rg_le (L := 0) (U := 3) rv4 (by decide) (by decide)) (q_rg_le (L := 0) (U := 4) (q_rg_lit (n := 0) (x := 0) rfl) (by decide) (by decide)) m7 (q_meu0 (q_rg_lit (n := 0) (x := 0) rfl) (by decide) (by decide))
theorem dzq_N182_74_16  (k7 : q_S → Int32 → Int32 → Int32 → Option (Int32)) (M7 : Int) (tk7 : ∀ (s : q_S), q_iX c d u t l s → ∀ (v2 : Int32) (v3 : Int32) (v4 : Int32), q_rgz 0 4 v4 → ((4 - v4.toInt).toNat : Int) ≤ M7 → q_Ex (k7 s v2 v3 v4) (fun _ => True)) : ∀ (m : Nat) (s : q_S) (hI : q_iX c d u t l s) (v2 : Int32) (v3 : Int32) (v4 : Int32) (v5 : Int32) (rv4 : q_rgz 0 3 v4) (rv5 : q_rgz 0 4 v5) (m7 : ((4 - v4.toInt).toNat : Int) ≤ M7 + 1), ((4 - v5.toInt).toNat : Int) ≤ (m : Int) → q_Ex (dz_N182_74_16 k7 (m + 1) s v2 v3 v4 v5) (fun _ => True) := by
  intro m
  induction m with
  | zero => intro s hI v2 v3 v4 v5 rv4 rv5 m7 hm; rw [dzs_N182_74_16]; exact dzqb_N182_74_16 k7 M7 tk7 (dz_N182_74_16 k7 0) (-1) (fun s hI v2 v3 v4 v5 rv4 rv5 m7 hm => absurd hm (by omega)) s hI v2 v3 v4 v5 rv4 rv5 m7 (by omega)
  | succ m ih => intro s hI v2 v3 v4 v5 rv4 rv5 m7 hm; rw [dzs_N182_74_16]; exact dzqb_N182_74_16 k7 M7 tk7 (dz_N182_74_16 k7 (m + 1)) (m : Int) (fun s hI v2 v3 v4 v5 rv4 rv5 m7 hm => ih s hI v2 v3 v4 v5 rv4 rv5 m7 hm) s hI v2 v3 v4 v5 rv4 rv5 m7 (by omega)
set_option maxHeartbeats 4000000 in
theorem dzqb_N182_74_7  (k7 : q_S → Int32 → Int32 → Int32 → Option (Int32)) (M7 : Int) (tk7 : ∀ (s : q_S), q_iX c d u t l s → ∀ (v2 : Int32) (v3 : Int32) (v4 : Int32), q_rgz 0 4 v4 → ((4 - v4.toInt).toNat : Int) ≤ M7 → q_Ex (k7 s v2 v3 v4) (fun _ => True)) (s : q_S) (hI : q_iX c d u t l s) (v2 : Int32) (v3 : Int32) (v4 : Int32) (rv4 : q_rgz 0 4 v4) (m7 : ((4 - v4.toInt).toNat : Int) ≤ M7 + 1) : q_Ex (cond (decide (v4 < 4)) (dz_N182_74_16 k7 5000 s v2 v3 v4 0) (some v3)) (fun _ => True) := by
  cases h1022 : decide (v4 < 4) with
  | true =>
    have g1023 := (q_rg_ltT1 (l := 0) (U := 3) h1022 rv4 (q_rg_lit (n := 4) (x := 4) rfl) (by decide))
    refine q_E_T ?_
    exact dzq_N182_74_16 k7 M7 tk7 4999 (s) hI (v2) (v3) (v4) (0) (q_rg_le (L := 0) (U := 3) g1023 (by decide) (by decide)) (q_rg_le (L := 0) (U := 4) (q_rg_lit (n := 0) (x := 0) rfl) (by decide) (by decide)) m7 (q_meu0 (q_rg_lit (n := 0) (x := 0) rfl) (by decide) (by decide))
  | false =>
    have g1024 := (q_rg_ltF1 (l2 := 4) (u := 4) h1022 rv4 (q_rg_lit (n := 4) (x := 4) rfl))
    refine q_E_F ?_
    exact q_E_x trivial
theorem dzq_N182_74_7  : ∀ (m : Nat) (s : q_S) (hI : q_iX c d u t l s) (v2 : Int32) (v3 : Int32) (v4 : Int32) (rv4 : q_rgz 0 4 v4), ((4 - v4.toInt).toNat : Int) ≤ (m : Int) → q_Ex (dz_N182_74_7 (m + 1) s v2 v3 v4) (fun _ => True) := by
  intro m
  induction m with
  | zero => intro s hI v2 v3 v4 rv4 hm; rw [dzs_N182_74_7]; exact dzqb_N182_74_7 (dz_N182_74_7 0) (-1) (fun s hI v2 v3 v4 rv4 hm => absurd hm (by omega)) s hI v2 v3 v4 rv4 (by omega)
  | succ m ih => intro s hI v2 v3 v4 rv4 hm; rw [dzs_N182_74_7]; exact dzqb_N182_74_7 (dz_N182_74_7 (m + 1)) (m : Int) (fun s hI v2 v3 v4 rv4 hm => ih s hI v2 v3 v4 rv4 hm) s hI v2 v3 v4 rv4 (by omega)
set_option maxHeartbeats 4000000 in
theorem dzq_N182_74  (s : q_S) (hI : q_iX c d u t l s) (a1 : Int32) : q_Ex (dz_N182_74 s a1) (fun _ => True) := by
  unfold dz_N182_74
  exact dzq_N182_74_7 4999 (s) hI (a1) (0) (0) (q_rg_le (L := 0) (U := 4) (q_rg_lit (n := 0) (x := 0) rfl) (by decide) (by decide)) (q_meu0 (q_rg_lit (n := 0) (x := 0) rfl) (by decide) (by decide))
set_option maxHeartbeats 4000000 in
theorem dzqb_N181_74_45  (k45 : q_S → Int32 → Int32 → Option (q_S × Int32)) (M45 : Int) (tk45 : ∀ (s : q_S), q_iX c d u t l s → ∀ (v5 : Int32) (v6 : Int32), q_rgz 0 1 v5 → q_rgz 0 16 v6 → ((16 - v6.toInt).toNat : Int) ≤ M45 → q_Ex (k45 s v5 v6) (fun (x : q_S × Int32) => q_iX c d u t l x.1)) (s : q_S) (hI : q_iX c d u t l s) (v5 : Int32) (v6 : Int32) (rv5 : q_rgz 0 1 v5) (rv6 : q_rgz 0 16 v6) (m45 : ((16 - v6.toInt).toNat : Int) ≤ M45 + 1) : q_Ex (cond (decide (15 < v6)) (some (s, v5)) ((dz_N182_74 s v6).bind fun r2 => cond (q_in v6 16) (k45 (q_sA s 12 (upd (s.1 12) (v6.toNatClampNeg) r2)) v5 (v6 + 1)) none)) (fun (x : q_S × Int32) => q_iX c d u t l x.1) := by
  cases h1062 : decide (15 < v6) with
  | true =>
    have g1063 := (q_rg_ltT2 (L := 16) (u2 := 16) h1062 (q_rg_lit (n := 15) (x := 15) rfl) rv6 (by decide))
    refine q_E_T ?_
    exact q_E_x hI
  | false =>
    have g1064 := (q_rg_ltF2 (l2 := 0) (u := 15) h1062 (q_rg_lit (n := 15) (x := 15) rfl) rv6)
    refine q_E_F ?_
    obtain ⟨r2, e1066, j1065⟩ := dzq_N182_74 (s) hI (v6)
    rw [e1066]
    refine q_E_B ?_
    refine q_E_A (q_in_rg g1064 (by decide) (by decide)) ?_
    exact tk45 (q_sA s 12 (upd (s.1 12) (v6.toNatClampNeg) r2)) (q_iX_A (i := 12) hI (by decide)) (v5) (v6 + 1) (q_rg_le (L := 0) (U := 1) rv5 (by decide) (by decide)) (q_rg_le (L := 0) (U := 16) (q_rg_add (L := 1) (U := 16) g1064 (q_rg_lit (n := 1) (x := 1) rfl) (by decide) (by decide) (by decide) (by decide)) (by decide) (by decide)) (q_meu g1064 m45 (by decide) (by decide))
theorem dzq_N181_74_45  : ∀ (m : Nat) (s : q_S) (hI : q_iX c d u t l s) (v5 : Int32) (v6 : Int32) (rv5 : q_rgz 0 1 v5) (rv6 : q_rgz 0 16 v6), ((16 - v6.toInt).toNat : Int) ≤ (m : Int) → q_Ex (dz_N181_74_45 (m + 1) s v5 v6) (fun (x : q_S × Int32) => q_iX c d u t l x.1) := by
  intro m
  induction m with
  | zero => intro s hI v5 v6 rv5 rv6 hm; rw [dzs_N181_74_45]; exact dzqb_N181_74_45 (dz_N181_74_45 0) (-1) (fun s hI v5 v6 rv5 rv6 hm => absurd hm (by omega)) s hI v5 v6 rv5 rv6 (by omega)
  | succ m ih => intro s hI v5 v6 rv5 rv6 hm; rw [dzs_N181_74_45]; exact dzqb_N181_74_45 (dz_N181_74_45 (m + 1)) (m : Int) (fun s hI v5 v6 rv5 rv6 hm => ih s hI v5 v6 rv5 rv6 hm) s hI v5 v6 rv5 rv6 (by omega)
set_option maxHeartbeats 4000000 in
theorem dzq_N181_74  (s : q_S) (hI : q_iX c d u t l s) (a1 : Int32) (a2 : Int32) (a3 : Int32) : q_Ex (dz_N181_74 s a1 a2 a3) (fun (x : q_S × Int32) => q_iX c d u t l x.1) := by
  unfold dz_N181_74
  have j1067 : q_rgz 0 1 ((((s.1 11) ((a1 &&& 3).toNatClampNeg)) >>> (a2 &&& 31)) &&& 1) := (q_rg_and (((s.1 11) ((a1 &&& 3).toNatClampNeg)) >>> (a2 &&& 31)) 1 (U := 1) (by decide) rfl)
  refine q_E_L ?_
  generalize ((((s.1 11) ((a1 &&& 3).toNatClampNeg)) >>> (a2 &&& 31)) &&& 1) = x1 at j1067 ⊢
  exact dzq_N181_74_45 4999 (q_sA s 11 (upd (s.1 11) ((a1 &&& 3).toNatClampNeg) ((((s.1 11) ((a1 &&& 3).toNatClampNeg)) &&& (((1 : Int32) <<< (a2 &&& 31)) ^^^ (-1))) ||| (a3 <<< (a2 &&& 31))))) (q_iX_A (i := 11) hI (by decide)) (x1) (0) (q_rg_le (L := 0) (U := 1) j1067 (by decide) (by decide)) (q_rg_le (L := 0) (U := 16) (q_rg_lit (n := 0) (x := 0) rfl) (by decide) (by decide)) (q_meu0 (q_rg_lit (n := 0) (x := 0) rfl) (by decide) (by decide))
set_option maxHeartbeats 4000000 in
theorem dzq_N180_74  (s : q_S) (hI : q_iX c d u t l s) (a1 : Int32) : (fun (x : q_S × Int32) => q_iX c d u t l x.1) (dz_N180_74 s a1) := by
  refine q_S_of (P := (fun (x : q_S × Int32) => q_iX c d u t l x.1)) ?_
  unfold dz_N180_74
  exact q_E_x (q_iX_I (i := 10) (m := 2) hI (by decide) (by decide) (by decide))
set_option maxHeartbeats 4000000 in
theorem dzq_N175_72  (s : q_S) (hI : q_iX c d u t l s) (a1 : Int32) : (fun (x : q_S × Int32) => q_iX c d u t l x.1) (dz_N175_72 s a1) := by
  refine q_S_of (P := (fun (x : q_S × Int32) => q_iX c d u t l x.1)) ?_
  unfold dz_N175_72
  cases h1074 : decide (s.2.1 8 1 < 0) with
  | true =>
    have g1075 := (q_rg_ltT1 (l := -2147483648) (U := -1) h1074 (q_rg_full _) (q_rg_lit (n := 0) (x := 0) rfl) (by decide))
    refine q_S_T ?_
    exact q_E_x hI
  | false =>
    have g1076 := (q_rg_ltF1 (l2 := 0) (u := 2147483647) h1074 (q_rg_full _) (q_rg_lit (n := 0) (x := 0) rfl))
    refine q_S_F ?_
    cases h1077 : decide (s.2.1 8 1 < 40) with
    | true =>
      have g1078 := (q_rg_ltT1 (l := 0) (U := 39) h1077 g1076 (q_rg_lit (n := 40) (x := 40) rfl) (by decide))
      refine q_S_T ?_
      exact q_E_x (q_iX_I (i := 8) (m := 1) (q_iX_A (i := 9) hI (by decide)) (by decide) (by decide) (by decide))
    | false =>
      have g1079 := (q_rg_ltF1 (l2 := 40) (u := 2147483647) h1077 g1076 (q_rg_lit (n := 40) (x := 40) rfl))
      refine q_S_F ?_
      exact q_E_x hI
set_option maxHeartbeats 4000000 in
theorem dzq_N176_72  (s : q_S) (hI : q_iX c d u t l s) : (fun (x : q_S × Int32) => q_iX c d u t l x.1) (dz_N176_72 s) := by
  refine q_S_of (P := (fun (x : q_S × Int32) => q_iX c d u t l x.1)) ?_
  unfold dz_N176_72
  exact q_E_x (q_iX_I (i := 8) (m := 3) (q_iX_I (i := 8) (m := 2) hI (by decide) (by decide) (by decide)) (by decide) (by decide) (by decide))
end
end
