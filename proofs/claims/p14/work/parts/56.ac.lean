section
variable {TT : (Nat → Int32) → Int32 → (Nat → Int32) → Int32 → Int64 → Int64 → List Int32 → List (Nat → Int32) → (Nat → Int64) → Prop} {x y z m m2 b b2 : q_S} {c d w k : Int} {n : Nat}
theorem q_w324_14 (h3 : (b.2.1 0 3).toInt = n) (hn : n + 3 ≤ 16) : dz_B323_64_14 b = some (q_sI (q_sA b 1 (va_cpy (fun j => q_o42.getD j 0) (b.1 1) 0 n 3)) 0 3 (b.2.1 0 3 + 3)) := by
  have e1 : (b.2.1 0 3 + 3).toInt = n + 3 := by rw [q_addI ⟨by omega, by omega⟩ ⟨by decide, by decide⟩, h3]; rfl
  have hN : (b.2.1 0 3).toNatClampNeg = n := by show (b.2.1 0 3).toInt.toNat = n; omega
  have e2 : dz_B343_14 b = 3 := by show ((3 : Int32) >>> ((0 : Int32) &&& 31)) = 3; decide
  have e3 : q_cpk (b.2.1 0 3) 3 16 = true := by
    unfold q_cpk
    rw [hN, q_lt_F (show (0 : Int32).toInt ≤ _ by show (0 : Int) ≤ _; omega), decide_eq_true (show n + 3 ≤ 16 from hn)]
    rfl
  unfold dz_B323_64_14 dz_B336_64_14
  rw [e2]
  unfold q_let
  dsimp only
  rw [q_b332 (by omega) (by omega), Option.bind_some]
  unfold dz_B342_64_14
  rw [show dz_B341_64_14 b = some b from rfl, Option.bind_some]
  have e4 : dz_B345_14_65 b (b.2.1 0 3) 0 = some (q_sA b 1 (va_cpy (fun j => q_o42.getD j 0) (b.1 1) 0 n 3)) := by
    show cond (q_cpk ((b.2.1 0 3) <<< ((0 : Int32) &&& 31)) 3 16) (some (q_sA b 1 (va_cpy (fun j => q_o42.getD j 0) (b.1 1) 0 (((b.2.1 0 3) <<< ((0 : Int32) &&& 31)).toNatClampNeg) 3))) none = _
    rw [q_sl0, e3, hN]
    rfl
  rw [e4]
  rfl
theorem q_w324_15 (h3 : (b.2.1 0 3).toInt = n) (hn : n + 2 ≤ 16) : dz_B323_64_15 b = some (q_sI (q_sA b 1 (va_cpy (fun j => q_o43.getD j 0) (b.1 1) 0 n 2)) 0 3 (b.2.1 0 3 + 2)) := by
  have e1 : (b.2.1 0 3 + 2).toInt = n + 2 := by rw [q_addI ⟨by omega, by omega⟩ ⟨by decide, by decide⟩, h3]; rfl
  have hN : (b.2.1 0 3).toNatClampNeg = n := by show (b.2.1 0 3).toInt.toNat = n; omega
  have e2 : dz_B343_15 b = 2 := by show ((2 : Int32) >>> ((0 : Int32) &&& 31)) = 2; decide
  have e3 : q_cpk (b.2.1 0 3) 2 16 = true := by
    unfold q_cpk
    rw [hN, q_lt_F (show (0 : Int32).toInt ≤ _ by show (0 : Int) ≤ _; omega), decide_eq_true (show n + 2 ≤ 16 from hn)]
    rfl
  unfold dz_B323_64_15 dz_B336_64_15
  rw [e2]
  unfold q_let
  dsimp only
  rw [q_b332 (by omega) (by omega), Option.bind_some]
  unfold dz_B342_64_15
  rw [show dz_B341_64_15 b = some b from rfl, Option.bind_some]
  have e4 : dz_B345_15_65 b (b.2.1 0 3) 0 = some (q_sA b 1 (va_cpy (fun j => q_o43.getD j 0) (b.1 1) 0 n 2)) := by
    show cond (q_cpk ((b.2.1 0 3) <<< ((0 : Int32) &&& 31)) 2 16) (some (q_sA b 1 (va_cpy (fun j => q_o43.getD j 0) (b.1 1) 0 (((b.2.1 0 3) <<< ((0 : Int32) &&& 31)).toNatClampNeg) 2))) none = _
    rw [q_sl0, e3, hN]
    rfl
  rw [e4]
  rfl
theorem q_w324_16 (h3 : (b.2.1 0 3).toInt = n) (hn : n + 2 ≤ 16) : dz_B323_64_16 b = some (q_sI (q_sA b 1 (va_cpy (fun j => q_o44.getD j 0) (b.1 1) 0 n 2)) 0 3 (b.2.1 0 3 + 2)) := by
  have e1 : (b.2.1 0 3 + 2).toInt = n + 2 := by rw [q_addI ⟨by omega, by omega⟩ ⟨by decide, by decide⟩, h3]; rfl
  have hN : (b.2.1 0 3).toNatClampNeg = n := by show (b.2.1 0 3).toInt.toNat = n; omega
  have e2 : dz_B343_16 b = 2 := by show ((2 : Int32) >>> ((0 : Int32) &&& 31)) = 2; decide
  have e3 : q_cpk (b.2.1 0 3) 2 16 = true := by
    unfold q_cpk
    rw [hN, q_lt_F (show (0 : Int32).toInt ≤ _ by show (0 : Int) ≤ _; omega), decide_eq_true (show n + 2 ≤ 16 from hn)]
    rfl
  unfold dz_B323_64_16 dz_B336_64_16
  rw [e2]
  unfold q_let
  dsimp only
  rw [q_b332 (by omega) (by omega), Option.bind_some]
  unfold dz_B342_64_16
  rw [show dz_B341_64_16 b = some b from rfl, Option.bind_some]
  have e4 : dz_B345_16_65 b (b.2.1 0 3) 0 = some (q_sA b 1 (va_cpy (fun j => q_o44.getD j 0) (b.1 1) 0 n 2)) := by
    show cond (q_cpk ((b.2.1 0 3) <<< ((0 : Int32) &&& 31)) 2 16) (some (q_sA b 1 (va_cpy (fun j => q_o44.getD j 0) (b.1 1) 0 (((b.2.1 0 3) <<< ((0 : Int32) &&& 31)).toNatClampNeg) 2))) none = _
    rw [q_sl0, e3, hN]
    rfl
  rw [e4]
  rfl
theorem q_w324_17 (h3 : (b.2.1 0 3).toInt = n) (hn : n + 3 ≤ 16) : dz_B323_64_17 b = some (q_sI (q_sA b 1 (va_cpy (fun j => q_o45.getD j 0) (b.1 1) 0 n 3)) 0 3 (b.2.1 0 3 + 3)) := by
  have e1 : (b.2.1 0 3 + 3).toInt = n + 3 := by rw [q_addI ⟨by omega, by omega⟩ ⟨by decide, by decide⟩, h3]; rfl
  have hN : (b.2.1 0 3).toNatClampNeg = n := by show (b.2.1 0 3).toInt.toNat = n; omega
  have e2 : dz_B343_17 b = 3 := by show ((3 : Int32) >>> ((0 : Int32) &&& 31)) = 3; decide
  have e3 : q_cpk (b.2.1 0 3) 3 16 = true := by
    unfold q_cpk
    rw [hN, q_lt_F (show (0 : Int32).toInt ≤ _ by show (0 : Int) ≤ _; omega), decide_eq_true (show n + 3 ≤ 16 from hn)]
    rfl
  unfold dz_B323_64_17 dz_B336_64_17
  rw [e2]
  unfold q_let
  dsimp only
  rw [q_b332 (by omega) (by omega), Option.bind_some]
  unfold dz_B342_64_17
  rw [show dz_B341_64_17 b = some b from rfl, Option.bind_some]
  have e4 : dz_B345_17_65 b (b.2.1 0 3) 0 = some (q_sA b 1 (va_cpy (fun j => q_o45.getD j 0) (b.1 1) 0 n 3)) := by
    show cond (q_cpk ((b.2.1 0 3) <<< ((0 : Int32) &&& 31)) 3 16) (some (q_sA b 1 (va_cpy (fun j => q_o45.getD j 0) (b.1 1) 0 (((b.2.1 0 3) <<< ((0 : Int32) &&& 31)).toNatClampNeg) 3))) none = _
    rw [q_sl0, e3, hN]
    rfl
  rw [e4]
  rfl
end
