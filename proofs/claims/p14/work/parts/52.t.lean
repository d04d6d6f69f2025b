section
variable {K b : Nat → Bool} {s m : q_S} {r : Int32}
/-- four Booleans as a mask -/
def q_bm4 (a0 a1 a2 a3 : Bool) : Int32 := Int32.ofNat (q_yn1 a0 + 2 * q_yn1 a1 + 4 * q_yn1 a2 + 8 * q_yn1 a3)
def q_mL (b : Nat → Bool) : Int32 := q_bm4 (b 0) (b 1) (b 2) (b 3)
def q_mC (b : Nat → Bool) : Int32 := q_bm4 (b 4) (b 5) (b 6) (b 7)
theorem q_bm4t0 : ∀ a0 a1 a2 a3 : Bool, decide ((q_bm4 a0 a1 a2 a3 >>> ((0 : Int32) &&& 31)) &&& 1 = 1) = a0 := by decide +kernel
theorem q_bm4s0 : ∀ a0 a1 a2 a3 : Bool, q_bm4 a0 a1 a2 a3 ||| ((1 : Int32) <<< ((0 : Int32) &&& 31)) = q_bm4 true a1 a2 a3 := by decide +kernel
theorem q_bm4t1 : ∀ a0 a1 a2 a3 : Bool, decide ((q_bm4 a0 a1 a2 a3 >>> ((1 : Int32) &&& 31)) &&& 1 = 1) = a1 := by decide +kernel
theorem q_bm4s1 : ∀ a0 a1 a2 a3 : Bool, q_bm4 a0 a1 a2 a3 ||| ((1 : Int32) <<< ((1 : Int32) &&& 31)) = q_bm4 a0 true a2 a3 := by decide +kernel
theorem q_bm4t2 : ∀ a0 a1 a2 a3 : Bool, decide ((q_bm4 a0 a1 a2 a3 >>> ((2 : Int32) &&& 31)) &&& 1 = 1) = a2 := by decide +kernel
theorem q_bm4s2 : ∀ a0 a1 a2 a3 : Bool, q_bm4 a0 a1 a2 a3 ||| ((1 : Int32) <<< ((2 : Int32) &&& 31)) = q_bm4 a0 a1 true a3 := by decide +kernel
theorem q_bm4t3 : ∀ a0 a1 a2 a3 : Bool, decide ((q_bm4 a0 a1 a2 a3 >>> ((3 : Int32) &&& 31)) &&& 1 = 1) = a3 := by decide +kernel
theorem q_bm4s3 : ∀ a0 a1 a2 a3 : Bool, q_bm4 a0 a1 a2 a3 ||| ((1 : Int32) <<< ((3 : Int32) &&& 31)) = q_bm4 a0 a1 a2 true := by decide +kernel
theorem q_bm4o : ∀ a0 a1 a2 a3 c0 c1 c2 c3 : Bool, q_bm4 a0 a1 a2 a3 ||| q_bm4 c0 c1 c2 c3 = q_bm4 (a0 || c0) (a1 || c1) (a2 || c2) (a3 || c3) := by decide +kernel
theorem q_bm4a : ∀ a0 a1 a2 a3 c0 c1 c2 c3 : Bool, decide (q_bm4 a0 a1 a2 a3 &&& q_bm4 c0 c1 c2 c3 = 0) = !((a0 && c0) || (a1 && c1) || (a2 && c2) || (a3 && c3)) := by decide +kernel
theorem q_bm4k : ∀ a0 a1 a2 a3 : Bool, q_b a0 + 2 * q_b a1 + 4 * q_b a2 + 8 * q_b a3 = q_bm4 a0 a1 a2 a3 := by decide +kernel
theorem q_bm4f : ∀ a0 a1 a2 a3 : Bool, (0 : Int32) + cond a0 1 0 + cond a1 2 0 + cond a2 4 0 + cond a3 8 0 = q_bm4 a0 a1 a2 a3 := by decide +kernel
def q_sz : q_S := (fun _ _ => 0, fun _ _ => 0, fun _ _ => 0)
theorem q_bm4r : ∀ n, n < 256 → Int32.ofNat n &&& 15 = q_bm4 (dz_M205 q_sz (Int32.ofNat n) 0) (dz_M205 q_sz (Int32.ofNat n) 1) (dz_M205 q_sz (Int32.ofNat n) 2) (dz_M205 q_sz (Int32.ofNat n) 3) := by decide +kernel
theorem q_ys16_0 (k7 : q_S → Int32 → Int32 → Int32 → Option Int32) (f : Nat) (l0 l1 l2 l3 c0 c1 c2 c3 k0 k1 k2 k3 : Bool) (v4 : Int32) (hF : s.1 11 0 = q_bm4 k0 k1 k2 k3) : dz_N182_74_16 k7 (f + 1) s (q_bm4 l0 l1 l2 l3) (q_bm4 c0 c1 c2 c3) v4 0 = dz_N182_74_16 k7 f s (q_bm4 l0 l1 l2 l3) (q_bm4 (c0 || (l0 && k0)) (c1 || (l0 && k1)) (c2 || (l0 && k2)) (c3 || (l0 && k3))) v4 1 := by
  rw [dzs_N182_74_16]
  generalize dz_N182_74_16 k7 f = kk
  dsimp only
  rw [show decide ((0 : Int32) < 4) = true by decide, cond_true, q_bm4t0, show q_in (0 : Int32) 4 = true by decide, cond_true, show (0 : Int32).toNatClampNeg = 0 by decide, show (0 : Int32) + 1 = 1 by decide, hF, q_bm4o]
  cases l0 with
  | true => simp only [Bool.true_and, cond_true]
  | false => simp only [Bool.false_and, Bool.or_false, cond_false]
theorem q_ys51_0 (k7 : q_S → Int32 → Int32 → Int32 → Option Int32) (f : Nat) (l0 l1 l2 l3 c0 c1 c2 c3 k0 k1 k2 k3 : Bool) (v4 : Int32) (hF : s.1 11 0 = q_bm4 k0 k1 k2 k3) : dz_N182_74_51 k7 (f + 1) s (q_bm4 l0 l1 l2 l3) (q_bm4 c0 c1 c2 c3) v4 0 = dz_N182_74_51 k7 f s (q_bm4 (l0 || ((k0 && c0) || (k1 && c1) || (k2 && c2) || (k3 && c3))) l1 l2 l3) (q_bm4 c0 c1 c2 c3) v4 1 := by
  rw [dzs_N182_74_51]
  generalize dz_N182_74_51 k7 f = kk
  dsimp only
  rw [show decide ((0 : Int32) < 4) = true by decide, cond_true, show q_in (0 : Int32) 4 = true by decide, cond_true, show (0 : Int32).toNatClampNeg = 0 by decide, show (0 : Int32) + 1 = 1 by decide, hF, q_bm4a, q_bm4s0]
  cases ((k0 && c0) || (k1 && c1) || (k2 && c2) || (k3 && c3)) with
  | true => simp only [Bool.or_true, Bool.not_true, cond_false]
  | false => simp only [Bool.or_false, Bool.not_false, cond_true]
theorem q_ys16_1 (k7 : q_S → Int32 → Int32 → Int32 → Option Int32) (f : Nat) (l0 l1 l2 l3 c0 c1 c2 c3 k0 k1 k2 k3 : Bool) (v4 : Int32) (hF : s.1 11 1 = q_bm4 k0 k1 k2 k3) : dz_N182_74_16 k7 (f + 1) s (q_bm4 l0 l1 l2 l3) (q_bm4 c0 c1 c2 c3) v4 1 = dz_N182_74_16 k7 f s (q_bm4 l0 l1 l2 l3) (q_bm4 (c0 || (l1 && k0)) (c1 || (l1 && k1)) (c2 || (l1 && k2)) (c3 || (l1 && k3))) v4 2 := by
  rw [dzs_N182_74_16]
  generalize dz_N182_74_16 k7 f = kk
  dsimp only
  rw [show decide ((1 : Int32) < 4) = true by decide, cond_true, q_bm4t1, show q_in (1 : Int32) 4 = true by decide, cond_true, show (1 : Int32).toNatClampNeg = 1 by decide, show (1 : Int32) + 1 = 2 by decide, hF, q_bm4o]
  cases l1 with
  | true => simp only [Bool.true_and, cond_true]
  | false => simp only [Bool.false_and, Bool.or_false, cond_false]
theorem q_ys51_1 (k7 : q_S → Int32 → Int32 → Int32 → Option Int32) (f : Nat) (l0 l1 l2 l3 c0 c1 c2 c3 k0 k1 k2 k3 : Bool) (v4 : Int32) (hF : s.1 11 1 = q_bm4 k0 k1 k2 k3) : dz_N182_74_51 k7 (f + 1) s (q_bm4 l0 l1 l2 l3) (q_bm4 c0 c1 c2 c3) v4 1 = dz_N182_74_51 k7 f s (q_bm4 l0 (l1 || ((k0 && c0) || (k1 && c1) || (k2 && c2) || (k3 && c3))) l2 l3) (q_bm4 c0 c1 c2 c3) v4 2 := by
  rw [dzs_N182_74_51]
  generalize dz_N182_74_51 k7 f = kk
  dsimp only
  rw [show decide ((1 : Int32) < 4) = true by decide, cond_true, show q_in (1 : Int32) 4 = true by decide, cond_true, show (1 : Int32).toNatClampNeg = 1 by decide, show (1 : Int32) + 1 = 2 by decide, hF, q_bm4a, q_bm4s1]
  cases ((k0 && c0) || (k1 && c1) || (k2 && c2) || (k3 && c3)) with
  | true => simp only [Bool.or_true, Bool.not_true, cond_false]
  | false => simp only [Bool.or_false, Bool.not_false, cond_true]
theorem q_ys16_2 (k7 : q_S → Int32 → Int32 → Int32 → Option Int32) (f : Nat) (l0 l1 l2 l3 c0 c1 c2 c3 k0 k1 k2 k3 : Bool) (v4 : Int32) (hF : s.1 11 2 = q_bm4 k0 k1 k2 k3) : dz_N182_74_16 k7 (f + 1) s (q_bm4 l0 l1 l2 l3) (q_bm4 c0 c1 c2 c3) v4 2 = dz_N182_74_16 k7 f s (q_bm4 l0 l1 l2 l3) (q_bm4 (c0 || (l2 && k0)) (c1 || (l2 && k1)) (c2 || (l2 && k2)) (c3 || (l2 && k3))) v4 3 := by
  rw [dzs_N182_74_16]
  generalize dz_N182_74_16 k7 f = kk
  dsimp only
  rw [show decide ((2 : Int32) < 4) = true by decide, cond_true, q_bm4t2, show q_in (2 : Int32) 4 = true by decide, cond_true, show (2 : Int32).toNatClampNeg = 2 by decide, show (2 : Int32) + 1 = 3 by decide, hF, q_bm4o]
  cases l2 with
  | true => simp only [Bool.true_and, cond_true]
  | false => simp only [Bool.false_and, Bool.or_false, cond_false]
theorem q_ys51_2 (k7 : q_S → Int32 → Int32 → Int32 → Option Int32) (f : Nat) (l0 l1 l2 l3 c0 c1 c2 c3 k0 k1 k2 k3 : Bool) (v4 : Int32) (hF : s.1 11 2 = q_bm4 k0 k1 k2 k3) : dz_N182_74_51 k7 (f + 1) s (q_bm4 l0 l1 l2 l3) (q_bm4 c0 c1 c2 c3) v4 2 = dz_N182_74_51 k7 f s (q_bm4 l0 l1 (l2 || ((k0 && c0) || (k1 && c1) || (k2 && c2) || (k3 && c3))) l3) (q_bm4 c0 c1 c2 c3) v4 3 := by
  rw [dzs_N182_74_51]
  generalize dz_N182_74_51 k7 f = kk
  dsimp only
  rw [show decide ((2 : Int32) < 4) = true by decide, cond_true, show q_in (2 : Int32) 4 = true by decide, cond_true, show (2 : Int32).toNatClampNeg = 2 by decide, show (2 : Int32) + 1 = 3 by decide, hF, q_bm4a, q_bm4s2]
  cases ((k0 && c0) || (k1 && c1) || (k2 && c2) || (k3 && c3)) with
  | true => simp only [Bool.or_true, Bool.not_true, cond_false]
  | false => simp only [Bool.or_false, Bool.not_false, cond_true]
theorem q_ys16_3 (k7 : q_S → Int32 → Int32 → Int32 → Option Int32) (f : Nat) (l0 l1 l2 l3 c0 c1 c2 c3 k0 k1 k2 k3 : Bool) (v4 : Int32) (hF : s.1 11 3 = q_bm4 k0 k1 k2 k3) : dz_N182_74_16 k7 (f + 1) s (q_bm4 l0 l1 l2 l3) (q_bm4 c0 c1 c2 c3) v4 3 = dz_N182_74_16 k7 f s (q_bm4 l0 l1 l2 l3) (q_bm4 (c0 || (l3 && k0)) (c1 || (l3 && k1)) (c2 || (l3 && k2)) (c3 || (l3 && k3))) v4 4 := by
  rw [dzs_N182_74_16]
  generalize dz_N182_74_16 k7 f = kk
  dsimp only
  rw [show decide ((3 : Int32) < 4) = true by decide, cond_true, q_bm4t3, show q_in (3 : Int32) 4 = true by decide, cond_true, show (3 : Int32).toNatClampNeg = 3 by decide, show (3 : Int32) + 1 = 4 by decide, hF, q_bm4o]
  cases l3 with
  | true => simp only [Bool.true_and, cond_true]
  | false => simp only [Bool.false_and, Bool.or_false, cond_false]
theorem q_ys51_3 (k7 : q_S → Int32 → Int32 → Int32 → Option Int32) (f : Nat) (l0 l1 l2 l3 c0 c1 c2 c3 k0 k1 k2 k3 : Bool) (v4 : Int32) (hF : s.1 11 3 = q_bm4 k0 k1 k2 k3) : dz_N182_74_51 k7 (f + 1) s (q_bm4 l0 l1 l2 l3) (q_bm4 c0 c1 c2 c3) v4 3 = dz_N182_74_51 k7 f s (q_bm4 l0 l1 l2 (l3 || ((k0 && c0) || (k1 && c1) || (k2 && c2) || (k3 && c3)))) (q_bm4 c0 c1 c2 c3) v4 4 := by
  rw [dzs_N182_74_51]
  generalize dz_N182_74_51 k7 f = kk
  dsimp only
  rw [show decide ((3 : Int32) < 4) = true by decide, cond_true, show q_in (3 : Int32) 4 = true by decide, cond_true, show (3 : Int32).toNatClampNeg = 3 by decide, show (3 : Int32) + 1 = 4 by decide, hF, q_bm4a, q_bm4s3]
  cases ((k0 && c0) || (k1 && c1) || (k2 && c2) || (k3 && c3)) with
  | true => simp only [Bool.or_true, Bool.not_true, cond_false]
  | false => simp only [Bool.or_false, Bool.not_false, cond_true]
/-- a turn of the class -/
theorem q_ys7 (hF : s.1 11 0 = q_bm4 (K 0) (K 1) (K 2) (K 3) ∧ s.1 11 1 = q_bm4 (K 4) (K 5) (K 6) (K 7) ∧ s.1 11 2 = q_bm4 (K 8) (K 9) (K 10) (K 11) ∧ s.1 11 3 = q_bm4 (K 12) (K 13) (K 14) (K 15)) (f : Nat) (b : Nat → Bool) (v4 v5 : Int32) (h4 : decide (v4 < 4) = true) (h5 : v4 + 1 = v5) : dz_N182_74_7 (f + 1) s (q_mL b) (q_mC b) v4 = dz_N182_74_7 f s (q_mL (q_pp K b)) (q_mC (q_pp K b)) v5 := by
  obtain ⟨f0, f1, f2, f3⟩ := hF
  rw [dzs_N182_74_7]
  generalize dz_N182_74_7 f = k7
  dsimp only
  rw [h4, cond_true]
  unfold q_mL q_mC
  refine (q_ys16_0 k7 4999 _ _ _ _ _ _ _ _ _ _ _ _ v4 f0).trans ?_
  refine (q_ys16_1 k7 4998 _ _ _ _ _ _ _ _ _ _ _ _ v4 f1).trans ?_
  refine (q_ys16_2 k7 4997 _ _ _ _ _ _ _ _ _ _ _ _ v4 f2).trans ?_
  refine (q_ys16_3 k7 4996 _ _ _ _ _ _ _ _ _ _ _ _ v4 f3).trans ?_
  rw [show (4996 : Nat) = 4995 + 1 from rfl, dzs_N182_74_16]
  dsimp only
  rw [show decide ((4 : Int32) < 4) = false by decide, cond_false]
  refine (q_ys51_0 k7 4999 _ _ _ _ _ _ _ _ _ _ _ _ v4 f0).trans ?_
  refine (q_ys51_1 k7 4998 _ _ _ _ _ _ _ _ _ _ _ _ v4 f1).trans ?_
  refine (q_ys51_2 k7 4997 _ _ _ _ _ _ _ _ _ _ _ _ v4 f2).trans ?_
  refine (q_ys51_3 k7 4996 _ _ _ _ _ _ _ _ _ _ _ _ v4 f3).trans ?_
  rw [show (4996 : Nat) = 4995 + 1 from rfl, dzs_N182_74_51]
  dsimp only
  rw [show decide ((4 : Int32) < 4) = false by decide, cond_false, h5]
  rfl
/-- what the class sees -/
theorem q_csP0 (hF : s.1 11 0 = q_bm4 (K 0) (K 1) (K 2) (K 3) ∧ s.1 11 1 = q_bm4 (K 4) (K 5) (K 6) (K 7) ∧ s.1 11 2 = q_bm4 (K 8) (K 9) (K 10) (K 11) ∧ s.1 11 3 = q_bm4 (K 12) (K 13) (K 14) (K 15)) (b : Nat → Bool) (hb : ∀ i, 4 ≤ i → b i = false) : dz_N182_74 s (q_mL b) = some (q_mC (q_it (q_pp K) 4 b)) := by
  have e0 : (0 : Int32) = q_mC b := by
    unfold q_mC
    rw [hb 4 (by decide), hb 5 (by decide), hb 6 (by decide), hb 7 (by decide)]
    decide
  have e : dz_N182_74 s (q_mL b) = dz_N182_74_7 5000 s (q_mL b) (q_mC b) 0 := by
    unfold dz_N182_74
    rw [← e0]
  rw [e]
  refine (q_ys7 hF 4999 _ 0 1 (by decide) (by decide)).trans ?_
  refine (q_ys7 hF 4998 _ 1 2 (by decide) (by decide)).trans ?_
  refine (q_ys7 hF 4997 _ 2 3 (by decide) (by decide)).trans ?_
  refine (q_ys7 hF 4996 _ 3 4 (by decide) (by decide)).trans ?_
  rw [show (4996 : Nat) = 4995 + 1 from rfl, dzs_N182_74_7]
  dsimp only
  rw [show decide ((4 : Int32) < 4) = false by decide, cond_false]
  rfl
/-- the model's row of live keys -/
def q_bl (s : q_S) (b : Nat → Bool) : Prop := ∀ i, i < 8 → s.1 33 i = q_b (b i)
def q_ye3 (s t : q_S) : Prop := (∀ i, Nat.beq i 33 = false → t.1 i = s.1 i) ∧ t.2 = s.2
theorem q_ye3_r (s : q_S) : q_ye3 s s := ⟨fun _ _ => rfl, rfl⟩
theorem q_ye3_t {s t u : q_S} (h : q_ye3 s t) (g : q_ye3 t u) : q_ye3 s u := ⟨fun i hi => (g.1 i hi).trans (h.1 i hi), g.2.trans h.2⟩
theorem q_ye3_A (s : q_S) (f : Nat → Int32) : q_ye3 s (q_sA s 33 f) := ⟨fun i hi => by
  show cond (Nat.beq i 33) f (s.1 i) = s.1 i
  rw [hi]; rfl, rfl⟩
/-- two cells of the row are written -/
def q_yw2 (s : q_S) (i j : Nat) (v w : Int32) : q_S := q_sA (q_sA s 33 (upd (s.1 33) i v)) 33 (upd ((q_sA s 33 (upd (s.1 33) i v)).1 33) j w)
theorem q_yw2_e (s : q_S) (i j : Nat) (v w : Int32) : q_ye3 s (q_yw2 s i j v w) := q_ye3_t (q_ye3_A s _) (q_ye3_A _ _)
theorem q_yw2_v (s : q_S) (i j : Nat) (v w : Int32) (n : Nat) : (q_yw2 s i j v w).1 33 n = upd (upd (s.1 33) i v) j w n := rfl
theorem q_bz (b : Bool) : decide (q_b b = 0) = !b := by cases b <;> decide
theorem q_ynb1 : vp_nar .boolean 1 = 1 := by decide
theorem q_ynb0 : vp_nar .boolean 0 = 0 := by decide
theorem q_43s (k35 : q_S → Int32 → Option (q_S × Int32)) (f : Nat) {j : Nat} (v2 v3 : Int32) (hj : j < 16) (hv : v3.toInt = j) (hb : q_bl s b) (hK : s.1 7 j = q_b (K j)) : ∃ t, dz_M207_64_43 k35 (f + 1) s v2 v3 = dz_M207_64_43 k35 f t v2 (v3 + 1) ∧ q_bl t (q_k1 K j b) ∧ q_ye3 s t := by
  have z4 : (4 : Int32).toInt = 4 := rfl
  have z16 : (16 : Int32).toInt = 16 := rfl
  have n3 : v3.toNatClampNeg = j := by show v3.toInt.toNat = j; omega
  have d1 : (v3 / 4).toInt = j / 4 := by rw [q_toInt_div (by omega) (by decide), hv]; rfl
  have d2 : (v3 / 4).toNatClampNeg = j / 4 := by show (v3 / 4).toInt.toNat = j / 4; omega
  have m1 : (v3 - v3 / 4 * 4).toInt = j % 4 := by rw [q_rem_eq (by omega) (by decide), hv]; rfl
  have m2 : ((4 : Int32) + (v3 - v3 / 4 * 4)).toInt = 4 + j % 4 := by
    rw [q_add9 (a := 4) (c := v3 - v3 / 4 * 4) (by show _ ≤ (4 : Int) + _; omega) (by show (4 : Int) + _ ≤ _; omega), m1]; rfl
  have m3 : ((4 : Int32) + (v3 - v3 / 4 * 4)).toNatClampNeg = 4 + j % 4 := by show ((4 : Int32) + (v3 - v3 / 4 * 4)).toInt.toNat = _; omega
  have i1 : q_in v3 16 = true := q_in_rg (l := 0) (u := 15) ⟨by omega, by omega⟩ (by decide) (by decide)
  have i2 : q_in (v3 / 4) 8 = true := q_in_rg (l := 0) (u := 3) ⟨by omega, by omega⟩ (by decide) (by decide)
  have i3 : q_in ((4 : Int32) + (v3 - v3 / 4 * 4)) 8 = true := q_in_rg (l := 4) (u := 7) ⟨by omega, by omega⟩ (by decide) (by decide)
  have l1 : decide (v3 < 16) = true := decide_eq_true (Int32.lt_iff_toInt_lt.mpr (by omega))
  have b1 := hb (j / 4) (by omega)
  have b2 := hb (4 + j % 4) (by omega)
  have wr : ∀ v : Bool, v = (b (j / 4) || b (4 + j % 4)) → K j = true → q_bl (q_yw2 s (j / 4) (4 + j % 4) (q_b v) (q_b v)) (q_k1 K j b) := fun v e hK i hi => by
    rw [q_yw2_v]
    unfold q_k1
    rw [hK, Bool.true_and]
    by_cases p : i = 4 + j % 4
    · rw [q_nbT p, Bool.or_true, cond_true]
      simp only [upd, if_pos p]
      rw [e]
    · by_cases q : i = j / 4
      · rw [q_nbT q, Bool.true_or, cond_true]
        simp only [upd, if_neg p, if_pos q]
        rw [e]
      · rw [q_nbF p, q_nbF q]
        simp only [upd, if_neg p, if_neg q]
        exact hb i hi
  have e85 : dz_M207_64_85 k35 (dz_M207_64_43 k35 f) s v2 v3 = dz_M207_64_43 k35 f (q_yw2 s (j / 4) (4 + j % 4) 1 1) v2 (v3 + 1) := by
    unfold dz_M207_64_85 q_let
    rw [i2, i3, d2, m3, q_ynb1]
    rfl
  rw [dzs_M207_64_43]
  dsimp only
  rw [l1, cond_true, i1, cond_true, n3, hK, q_bz, i2, d2, b1, q_bz, i3, m3, b2, q_bz, e85]
  cases hk : K j with
  | false =>
    refine ⟨s, rfl, fun i hi => ?_, q_ye3_r s⟩
    unfold q_k1
    rw [hk, Bool.false_and]
    exact hb i hi
  | true =>
    cases h1 : b (j / 4) with
    | true =>
      exact ⟨q_yw2 s (j / 4) (4 + j % 4) 1 1, rfl, wr true (by rw [h1]; rfl) hk, q_yw2_e _ _ _ _ _⟩
    | false =>
      cases h2 : b (4 + j % 4) with
      | true => exact ⟨q_yw2 s (j / 4) (4 + j % 4) 1 1, rfl, wr true (by rw [h1, h2]; rfl) hk, q_yw2_e _ _ _ _ _⟩
      | false =>
        refine ⟨q_yw2 s (j / 4) (4 + j % 4) 0 0, ?_, wr false (by rw [h1, h2]; rfl) hk, q_yw2_e _ _ _ _ _⟩
        unfold q_let
        rw [q_ynb0]
        rfl
theorem q_43w (k35 : q_S → Int32 → Option (q_S × Int32)) (f : Nat) (v2 : Int32) : ∀ (n j : Nat) (s : q_S) (v3 : Int32), j + n = 16 → v3.toInt = j → q_bl s (q_kNn K j b) → (∀ i, i < 16 → s.1 7 i = q_b (K i)) → ∃ t, dz_M207_64_43 k35 (f + n + 1) s v2 v3 = k35 t (v2 + 1) ∧ q_bl t (q_kNn K 16 b) ∧ q_ye3 s t := by
  intro n
  induction n with
  | zero =>
    intro j s v3 hj hv hb hK
    refine ⟨s, ?_, ?_, q_ye3_r s⟩
    · rw [dzs_M207_64_43]
      dsimp only
      rw [show decide (v3 < 16) = false from decide_eq_false (fun q => by have := Int32.lt_iff_toInt_lt.mp q; have z16 : (16 : Int32).toInt = 16 := rfl; omega)]
      rfl
    · rw [show (16 : Nat) = j by omega]; exact hb
  | succ n ih =>
    intro j s v3 hj hv hb hK
    obtain ⟨t, e1, e2, e3⟩ := q_43s (K := K) k35 (f + n + 1) v2 v3 (by omega : j < 16) hv hb (hK j (by omega))
    have ev : (v3 + 1).toInt = (j + 1 : Nat) := by
      rw [q_add9 (a := v3) (c := 1) (by show _ ≤ v3.toInt + 1; omega) (by show v3.toInt + 1 ≤ _; omega), hv]; rfl
    obtain ⟨u, g1, g2, g3⟩ := ih (j + 1) t (v3 + 1) (by omega) ev e2 (fun i hi => by rw [e3.1 7 rfl]; exact hK i hi)
    exact ⟨u, e1.trans g1, g2, q_ye3_t e3 g3⟩
theorem q_35w (f : Nat) : ∀ (n t : Nat) (s : q_S) (v2 : Int32), t + n = 8 → v2.toInt = t → q_bl s (q_it (q_kNn K 16) t b) → (∀ i, i < 16 → s.1 7 i = q_b (K i)) → ∃ u, dz_M207_64_35 (f + n + 1) s v2 = dz_M207_64_130 5000 u 0 0 ∧ q_bl u (q_it (q_kNn K 16) 8 b) ∧ q_ye3 s u := by
  intro n
  induction n with
  | zero =>
    intro t s v2 ht hv hb hK
    refine ⟨s, ?_, ?_, q_ye3_r s⟩
    · rw [dzs_M207_64_35]
      dsimp only
      rw [show decide (v2 < 8) = false from decide_eq_false (fun q => by have := Int32.lt_iff_toInt_lt.mp q; have z8 : (8 : Int32).toInt = 8 := rfl; omega)]
      rfl
    · rw [show (8 : Nat) = t by omega]; exact hb
  | succ n ih =>
    intro t s v2 ht hv hb hK
    obtain ⟨u, e1, e2, e3⟩ := q_43w (K := K) (dz_M207_64_35 (f + n + 1)) 4983 v2 16 0 s 0 rfl rfl hb hK
    have ev : (v2 + 1).toInt = (t + 1 : Nat) := by
      rw [q_add9 (a := v2) (c := 1) (by show _ ≤ v2.toInt + 1; omega) (by show v2.toInt + 1 ≤ _; omega), hv]; rfl
    obtain ⟨u2, g1, g2, g3⟩ := ih (t + 1) u (v2 + 1) (by omega) ev e2 (fun i hi => by rw [e3.1 7 rfl]; exact hK i hi)
    refine ⟨u2, ?_, g2, q_ye3_t e3 g3⟩
    rw [dzs_M207_64_35]
    dsimp only
    rw [show decide (v2 < 8) = true from decide_eq_true (Int32.lt_iff_toInt_lt.mpr (by show v2.toInt < 8; omega)), cond_true]
    exact Eq.trans e1 g1
theorem q_130_0 (f : Nat) (hb : q_bl s b) (v2 : Int32) : dz_M207_64_130 (f + 1) s v2 0 = dz_M207_64_130 f s (v2 + cond (b 4) 1 0) 1 := by
  rw [dzs_M207_64_130]
  generalize dz_M207_64_130 f = kk
  dsimp only
  rw [show decide ((0 : Int32) < 4) = true by decide, cond_true, show (4 : Int32) + 0 = 4 by decide, show q_in (4 : Int32) 8 = true by decide, cond_true, show (4 : Int32).toNatClampNeg = 4 by decide, hb 4 (by decide), q_bz, show (0 : Int32) + 1 = 1 by decide, show (1 : Int32) <<< ((0 : Int32) &&& 31) = 1 by decide]
  cases b 4 with
  | true => rfl
  | false => rfl
theorem q_2_0 (f : Nat) (r : Int32) : dz_M207_64_2 (f + 1) s r 0 = dz_M207_64_2 f (q_yw2 s 0 4 (q_b (dz_M205 q_sz r 0)) 0) r 1 := by
  rw [dzs_M207_64_2]
  generalize dz_M207_64_2 f = kk
  unfold q_let
  dsimp only
  rw [show decide ((0 : Int32) < 4) = true by decide, cond_true, show (4 : Int32) + 0 = 4 by decide, show q_in (4 : Int32) 8 = true by decide, cond_true, show q_in (0 : Int32) 8 = true by decide, cond_true, show (4 : Int32).toNatClampNeg = 4 by decide, show (0 : Int32).toNatClampNeg = 0 by decide, show (0 : Int32) + 1 = 1 by decide, q_ynb1, q_ynb0, show dz_M205 s r 0 = dz_M205 q_sz r 0 from rfl]
  cases dz_M205 q_sz r 0 with
  | true => rfl
  | false => rfl
theorem q_130_1 (f : Nat) (hb : q_bl s b) (v2 : Int32) : dz_M207_64_130 (f + 1) s v2 1 = dz_M207_64_130 f s (v2 + cond (b 5) 2 0) 2 := by
  rw [dzs_M207_64_130]
  generalize dz_M207_64_130 f = kk
  dsimp only
  rw [show decide ((1 : Int32) < 4) = true by decide, cond_true, show (4 : Int32) + 1 = 5 by decide, show q_in (5 : Int32) 8 = true by decide, cond_true, show (5 : Int32).toNatClampNeg = 5 by decide, hb 5 (by decide), q_bz, show (1 : Int32) + 1 = 2 by decide, show (1 : Int32) <<< ((1 : Int32) &&& 31) = 2 by decide]
  cases b 5 with
  | true => rfl
  | false => rfl
theorem q_2_1 (f : Nat) (r : Int32) : dz_M207_64_2 (f + 1) s r 1 = dz_M207_64_2 f (q_yw2 s 1 5 (q_b (dz_M205 q_sz r 1)) 0) r 2 := by
  rw [dzs_M207_64_2]
  generalize dz_M207_64_2 f = kk
  unfold q_let
  dsimp only
  rw [show decide ((1 : Int32) < 4) = true by decide, cond_true, show (4 : Int32) + 1 = 5 by decide, show q_in (5 : Int32) 8 = true by decide, cond_true, show q_in (1 : Int32) 8 = true by decide, cond_true, show (5 : Int32).toNatClampNeg = 5 by decide, show (1 : Int32).toNatClampNeg = 1 by decide, show (1 : Int32) + 1 = 2 by decide, q_ynb1, q_ynb0, show dz_M205 s r 1 = dz_M205 q_sz r 1 from rfl]
  cases dz_M205 q_sz r 1 with
  | true => rfl
  | false => rfl
theorem q_130_2 (f : Nat) (hb : q_bl s b) (v2 : Int32) : dz_M207_64_130 (f + 1) s v2 2 = dz_M207_64_130 f s (v2 + cond (b 6) 4 0) 3 := by
  rw [dzs_M207_64_130]
  generalize dz_M207_64_130 f = kk
  dsimp only
  rw [show decide ((2 : Int32) < 4) = true by decide, cond_true, show (4 : Int32) + 2 = 6 by decide, show q_in (6 : Int32) 8 = true by decide, cond_true, show (6 : Int32).toNatClampNeg = 6 by decide, hb 6 (by decide), q_bz, show (2 : Int32) + 1 = 3 by decide, show (1 : Int32) <<< ((2 : Int32) &&& 31) = 4 by decide]
  cases b 6 with
  | true => rfl
  | false => rfl
theorem q_2_2 (f : Nat) (r : Int32) : dz_M207_64_2 (f + 1) s r 2 = dz_M207_64_2 f (q_yw2 s 2 6 (q_b (dz_M205 q_sz r 2)) 0) r 3 := by
  rw [dzs_M207_64_2]
  generalize dz_M207_64_2 f = kk
  unfold q_let
  dsimp only
  rw [show decide ((2 : Int32) < 4) = true by decide, cond_true, show (4 : Int32) + 2 = 6 by decide, show q_in (6 : Int32) 8 = true by decide, cond_true, show q_in (2 : Int32) 8 = true by decide, cond_true, show (6 : Int32).toNatClampNeg = 6 by decide, show (2 : Int32).toNatClampNeg = 2 by decide, show (2 : Int32) + 1 = 3 by decide, q_ynb1, q_ynb0, show dz_M205 s r 2 = dz_M205 q_sz r 2 from rfl]
  cases dz_M205 q_sz r 2 with
  | true => rfl
  | false => rfl
theorem q_130_3 (f : Nat) (hb : q_bl s b) (v2 : Int32) : dz_M207_64_130 (f + 1) s v2 3 = dz_M207_64_130 f s (v2 + cond (b 7) 8 0) 4 := by
  rw [dzs_M207_64_130]
  generalize dz_M207_64_130 f = kk
  dsimp only
  rw [show decide ((3 : Int32) < 4) = true by decide, cond_true, show (4 : Int32) + 3 = 7 by decide, show q_in (7 : Int32) 8 = true by decide, cond_true, show (7 : Int32).toNatClampNeg = 7 by decide, hb 7 (by decide), q_bz, show (3 : Int32) + 1 = 4 by decide, show (1 : Int32) <<< ((3 : Int32) &&& 31) = 8 by decide]
  cases b 7 with
  | true => rfl
  | false => rfl
theorem q_2_3 (f : Nat) (r : Int32) : dz_M207_64_2 (f + 1) s r 3 = dz_M207_64_2 f (q_yw2 s 3 7 (q_b (dz_M205 q_sz r 3)) 0) r 4 := by
  rw [dzs_M207_64_2]
  generalize dz_M207_64_2 f = kk
  unfold q_let
  dsimp only
  rw [show decide ((3 : Int32) < 4) = true by decide, cond_true, show (4 : Int32) + 3 = 7 by decide, show q_in (7 : Int32) 8 = true by decide, cond_true, show q_in (3 : Int32) 8 = true by decide, cond_true, show (7 : Int32).toNatClampNeg = 7 by decide, show (3 : Int32).toNatClampNeg = 3 by decide, show (3 : Int32) + 1 = 4 by decide, q_ynb1, q_ynb0, show dz_M205 s r 3 = dz_M205 q_sz r 3 from rfl]
  cases dz_M205 q_sz r 3 with
  | true => rfl
  | false => rfl
def q_b0 (r : Int32) : Nat → Bool := fun i => cond (Nat.beq i 0) (dz_M205 q_sz r 0) (cond (Nat.beq i 1) (dz_M205 q_sz r 1) (cond (Nat.beq i 2) (dz_M205 q_sz r 2) (cond (Nat.beq i 3) (dz_M205 q_sz r 3) false)))
theorem q_b0_4 (r : Int32) (i : Nat) (h : 4 ≤ i) : q_b0 r i = false := by
  unfold q_b0
  rw [q_nbF (show ¬ i = 0 by omega), q_nbF (show ¬ i = 1 by omega), q_nbF (show ¬ i = 2 by omega), q_nbF (show ¬ i = 3 by omega)]
  rfl
/-- what the model sees is what the class sees -/
theorem q_kzM (m : q_S) (K : Nat → Bool) (hK : ∀ i, i < 16 → m.1 7 i = q_b (K i)) (F : Nat → Int32) (hF : ∀ r, r < 4 → F r = m.1 7 (4 * r) + 2 * m.1 7 (4 * r + 1) + 4 * m.1 7 (4 * r + 2) + 8 * m.1 7 (4 * r + 3)) (r : Int32) (h0 : 0 ≤ r.toInt) (h1 : r.toInt ≤ 255) (W : Int32) (hW : dz_N182_74 (fun _ => F, fun _ _ => 0, fun _ _ => 0) (r &&& 15) = some W) : ∃ m2, dz_M207_64 m r = some (m2, W) ∧ (∀ i, Nat.beq i 33 = false → m2.1 i = m.1 i) ∧ m2.2 = m.2 := by
  have eo : Int32.ofNat r.toInt.toNat = r := by
    have a1 := Int32.toInt_lt r
    apply Int32.toInt_inj.mp
    rw [Int32.toInt_ofNat_of_lt (by omega)]
    omega
  have t := q_bm4r r.toInt.toNat (by omega)
  rw [eo] at t
  have f0 : F 0 = q_bm4 (K 0) (K 1) (K 2) (K 3) := by
    rw [← q_bm4k, ← hK 0 (by decide), ← hK 1 (by decide), ← hK 2 (by decide), ← hK 3 (by decide)]
    exact hF 0 (by decide)
  have f1 : F 1 = q_bm4 (K 4) (K 5) (K 6) (K 7) := by
    rw [← q_bm4k, ← hK 4 (by decide), ← hK 5 (by decide), ← hK 6 (by decide), ← hK 7 (by decide)]
    exact hF 1 (by decide)
  have f2 : F 2 = q_bm4 (K 8) (K 9) (K 10) (K 11) := by
    rw [← q_bm4k, ← hK 8 (by decide), ← hK 9 (by decide), ← hK 10 (by decide), ← hK 11 (by decide)]
    exact hF 2 (by decide)
  have f3 : F 3 = q_bm4 (K 12) (K 13) (K 14) (K 15) := by
    rw [← q_bm4k, ← hK 12 (by decide), ← hK 13 (by decide), ← hK 14 (by decide), ← hK 15 (by decide)]
    exact hF 3 (by decide)
  have cs := q_csP0 (K := K) (s := (fun _ => F, fun _ _ => 0, fun _ _ => 0)) ⟨f0, f1, f2, f3⟩ (q_b0 r) (q_b0_4 r)
  rw [show q_mL (q_b0 r) = r &&& 15 from t.symm, hW] at cs
  have eW : W = q_mC (q_it (q_pp K) 4 (q_b0 r)) := Option.some.inj cs
  -- the rows asked for
  obtain ⟨s4, g1, g2, g3⟩ : ∃ s4, dz_M207_64 m r = dz_M207_64_35 5000 s4 0 ∧ q_bl s4 (q_b0 r) ∧ q_ye3 m s4 := by
    refine ⟨q_yw2 (q_yw2 (q_yw2 (q_yw2 m 0 4 (q_b (dz_M205 q_sz r 0)) 0) 1 5 (q_b (dz_M205 q_sz r 1)) 0) 2 6 (q_b (dz_M205 q_sz r 2)) 0) 3 7 (q_b (dz_M205 q_sz r 3)) 0, ?_, fun i hi => ?_, q_ye3_t (q_ye3_t (q_ye3_t (q_yw2_e _ _ _ _ _) (q_yw2_e _ _ _ _ _)) (q_yw2_e _ _ _ _ _)) (q_yw2_e _ _ _ _ _)⟩
    · unfold dz_M207_64
      refine (q_2_0 4999 r).trans ((q_2_1 4998 r).trans ((q_2_2 4997 r).trans ((q_2_3 4996 r).trans ?_)))
      rw [show (4996 : Nat) = 4995 + 1 from rfl, dzs_M207_64_2]
      generalize dz_M207_64_2 4995 = kk
      dsimp only
      rw [show decide ((4 : Int32) < 4) = false by decide, cond_false]
    · rcases q_i8 hi with rfl | rfl | rfl | rfl | rfl | rfl | rfl | rfl <;> rfl
  have hK4 : ∀ i, i < 16 → s4.1 7 i = q_b (K i) := fun i hi => by rw [g3.1 7 rfl]; exact hK i hi
  obtain ⟨u, k1, k2, k3⟩ := q_35w (K := K) (b := q_b0 r) 4991 8 0 s4 0 rfl rfl g2 hK4
  refine ⟨u, ?_, (q_ye3_t g3 k3).1, (q_ye3_t g3 k3).2⟩
  rw [g1]
  refine Eq.trans k1 ?_
  refine (q_130_0 4999 k2 _).trans ((q_130_1 4998 k2 _).trans ((q_130_2 4997 k2 _).trans ((q_130_3 4996 k2 _).trans ?_)))
  rw [show (4996 : Nat) = 4995 + 1 from rfl, dzs_M207_64_130]
  dsimp only
  rw [show decide ((4 : Int32) < 4) = false by decide, cond_false, q_bm4f, eW]
  unfold q_mC
  rw [q_same K (q_b0 r) (q_b0_4 r) 4 (by decide), q_same K (q_b0 r) (q_b0_4 r) 5 (by decide), q_same K (q_b0 r) (q_b0_4 r) 6 (by decide), q_same K (q_b0 r) (q_b0_4 r) 7 (by decide)]
end
