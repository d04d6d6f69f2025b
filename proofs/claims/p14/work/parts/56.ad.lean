section
variable {TT : (Nat → Int32) → Int32 → (Nat → Int32) → Int32 → Int64 → Int64 → List Int32 → List (Nat → Int32) → (Nat → Int64) → Prop} {x y z m m2 b b2 : q_S} {c d w k : Int} {n : Nat}
theorem q_w324_18 (h3 : (b.2.1 0 3).toInt = n) (hn : n + 3 ≤ 16) : dz_B323_64_18 b = some (q_sI (q_sA b 1 (va_cpy (fun j => q_o46.getD j 0) (b.1 1) 0 n 3)) 0 3 (b.2.1 0 3 + 3)) := by
  have e1 : (b.2.1 0 3 + 3).toInt = n + 3 := by rw [q_addI ⟨by omega, by omega⟩ ⟨by decide, by decide⟩, h3]; rfl
  have hN : (b.2.1 0 3).toNatClampNeg = n := by show (b.2.1 0 3).toInt.toNat = n; omega
  have e2 : dz_B343_18 b = 3 := by show ((3 : Int32) >>> ((0 : Int32) &&& 31)) = 3; decide
  have e3 : q_cpk (b.2.1 0 3) 3 16 = true := by
    unfold q_cpk
    rw [hN, q_lt_F (show (0 : Int32).toInt ≤ _ by show (0 : Int) ≤ _; omega), decide_eq_true (show n + 3 ≤ 16 from hn)]
    rfl
  unfold dz_B323_64_18 dz_B336_64_18
  rw [e2]
  unfold q_let
  dsimp only
  rw [q_b332 (by omega) (by omega), Option.bind_some]
  unfold dz_B342_64_18
  rw [show dz_B341_64_18 b = some b from rfl, Option.bind_some]
  have e4 : dz_B345_18_65 b (b.2.1 0 3) 0 = some (q_sA b 1 (va_cpy (fun j => q_o46.getD j 0) (b.1 1) 0 n 3)) := by
    show cond (q_cpk ((b.2.1 0 3) <<< ((0 : Int32) &&& 31)) 3 16) (some (q_sA b 1 (va_cpy (fun j => q_o46.getD j 0) (b.1 1) 0 (((b.2.1 0 3) <<< ((0 : Int32) &&& 31)).toNatClampNeg) 3))) none = _
    rw [q_sl0, e3, hN]
    rfl
  rw [e4]
  rfl
/-- digits -/
theorem q_negI {v : Int32} (h : q_rgz 0 100000 v) : (-v).toInt = - v.toInt := by
  have h0 := h.1
  have h1 := h.2
  have z0 : (0 : Int32).toInt = 0 := rfl
  rw [← Int32.zero_sub, q_subI ⟨by decide, by decide⟩ ⟨by omega, by omega⟩]
  omega
theorem q_yt67 : ∀ j, j < 100 → q_chr (vp_nar .byte (q_o6.getD j 0)) = Int32.ofNat (48 + j % 10) ∧ q_chr (vp_nar .byte (q_o7.getD j 0)) = Int32.ofNat (48 + j / 10) := by decide +kernel
theorem q_yt48 : ∀ j, j < 10 → (((48 : Int32) + Int32.ofNat j).toUInt32 % 65536).toInt32 = Int32.ofNat (48 + j) ∧ q_rgz 0 127 (Int32.ofNat (48 + j)) := by
  unfold q_rgz
  decide +kernel
def q_dg (v : Int32) : Int32 := (((48 : Int32) + (v - v / 10 * 10)).toUInt32 % 65536).toInt32
theorem q_dgI {v : Int32} (h0 : 0 ≤ v.toInt) : q_dg v = Int32.ofNat (48 + v.toInt.toNat % 10) ∧ q_rgz 0 127 (q_dg v) := by
  have e : (v - v / 10 * 10).toInt = v.toInt % 10 := q_rem_eq h0 (by decide)
  have t := q_yt48 (v.toInt.toNat % 10) (by omega)
  have e2 : v - v / 10 * 10 = Int32.ofNat (v.toInt.toNat % 10) := by
    apply Int32.toInt_inj.mp
    rw [e, Int32.toInt_ofNat_of_lt (by omega)]
    omega
  unfold q_dg
  rw [e2]
  exact ⟨t.1, by rw [t.1]; exact t.2⟩
theorem q_281a {v : Int32} (f : Nat) (h : v.toInt < 10) : dzr_M280_64 (f + 1) z v = (dz_M279_64 z (q_dg v)).bind fun r => some r := by
  rw [dzs_M280_64]
  dsimp only
  rw [q_lt_T (show v.toInt < (10 : Int32).toInt from h)]
  rfl
theorem q_281b {v : Int32} (f : Nat) (h : 10 ≤ v.toInt) : dzr_M280_64 (f + 1) z v = (dzr_M280_64 f z (v / 10)).bind fun r2 => (dz_M279_64 r2 (q_dg v)).bind fun r => some r := by
  rw [dzs_M280_64]
  dsimp only
  rw [q_lt_F (show (10 : Int32).toInt ≤ v.toInt from h)]
  rfl
theorem q_div10 {v : Int32} (h : 0 ≤ v.toInt) : (v / 10).toInt = v.toInt / 10 := q_toInt_div h (by decide)
theorem q_321s {v v2 v3 v1 : Int32} (f : Nat) (h : v3.toInt < 10) : dz_B320_16 (f + 1) b v v1 v2 v3 = cond (decide (v2 < v)) (some (v3 + v1)) (dz_B320_16 f b v v1 (10 * v2) (v3 + 1)) := by
  rw [dzs_B320_16]
  dsimp only
  rw [q_lt_T (show v3.toInt < (10 : Int32).toInt from h)]
  rfl
/-- how many digits -/
theorem q_321 {v : Int32} (h : q_rgz 0 4095 v) : dz_B320 b v = some (if v.toInt < 10 then 1 else if v.toInt < 100 then 2 else if v.toInt < 1000 then 3 else 4) := by
  have h0 := h.1
  have h1 := h.2
  have z0 : (0 : Int32).toInt = 0 := rfl
  have en := q_negI (q_rg_le h (Int.le_refl _) (by decide))
  have key : ∀ f, dz_B320_16 (f + 4) b (-v) 0 (-10) 1 = some (if v.toInt < 10 then 1 else if v.toInt < 100 then 2 else if v.toInt < 1000 then 3 else 4) := by
    intro f
    rw [q_321s (f + 3) (by decide)]
    by_cases c1 : v.toInt < 10
    · rw [q_lt_T (show (-10 : Int32).toInt < (-v).toInt by show (-10 : Int) < _; omega), if_pos c1]
      rfl
    rw [q_lt_F (show (-v).toInt ≤ (-10 : Int32).toInt by show _ ≤ (-10 : Int); omega), if_neg c1, cond_false, show (10 : Int32) * (-10) = -100 by decide, show (1 : Int32) + 1 = 2 by decide, q_321s (f + 2) (by decide)]
    by_cases c2 : v.toInt < 100
    · rw [q_lt_T (show (-100 : Int32).toInt < (-v).toInt by show (-100 : Int) < _; omega), if_pos c2]
      rfl
    rw [q_lt_F (show (-v).toInt ≤ (-100 : Int32).toInt by show _ ≤ (-100 : Int); omega), if_neg c2, cond_false, show (10 : Int32) * (-100) = -1000 by decide, show (2 : Int32) + 1 = 3 by decide, q_321s (f + 1) (by decide)]
    by_cases c3 : v.toInt < 1000
    · rw [q_lt_T (show (-1000 : Int32).toInt < (-v).toInt by show (-1000 : Int) < _; omega), if_pos c3]
      rfl
    rw [q_lt_F (show (-v).toInt ≤ (-1000 : Int32).toInt by show _ ≤ (-1000 : Int); omega), if_neg c3, cond_false, show (10 : Int32) * (-1000) = -10000 by decide, show (3 : Int32) + 1 = 4 by decide, q_321s f (by decide)]
    rw [q_lt_T (show (-10000 : Int32).toInt < (-v).toInt by show (-10000 : Int) < _; omega)]
    rfl
  unfold dz_B320
  rw [q_lt_F (by omega)]
  exact key 4996
/-- the last two digits, by tables -/
def q_yb1 (b : q_S) (e : Nat) (j : Nat) : q_S := q_sA b 1 (upd (b.1 1) e (vp_nar .byte (q_o6.getD j 0)))
def q_yb2 (b : q_S) (e : Nat) (j : Nat) : q_S := q_sA (q_yb1 b (e + 1) j) 1 (upd ((q_yb1 b (e + 1) j).1 1) e (vp_nar .byte (q_o7.getD j 0)))
end
