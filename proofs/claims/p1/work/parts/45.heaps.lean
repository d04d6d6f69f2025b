/-! ===== the heaps of the class and of the model ===== -/
def q_uA {T : Type} (A : Nat → Nat → T) (i : Nat) (f : Nat → T) (j : Nat) : Nat → T := cond (Nat.beq j i) f (A j)
def q_uI {T : Type} (A : Nat → Nat → T) (i k : Nat) (x : T) (j m : Nat) : T := cond (Nat.beq j i) (cond (Nat.beq m k) x (A j m)) (A j m)
theorem q_d_neT {p : Prop} {i9 : Decidable p} (h : decide p = true) : decide (¬ p) = false := by simpa using h
theorem q_d_neF {p : Prop} {i9 : Decidable p} (h : decide p = false) : decide (¬ p) = true := by simpa using h
theorem q_d_geT {x y : Int32} (h : decide (x < y) = true) : decide (y ≤ x) = false := decide_eq_false (Int32.not_le.mpr (of_decide_eq_true h))
theorem q_d_geF {x y : Int32} (h : decide (x < y) = false) : decide (y ≤ x) = true := decide_eq_true (Int32.not_lt.mp (of_decide_eq_false h))
def q_cX (A : Nat → Nat → Int32) (I : Nat → Nat → Int32) (J : Nat → Nat → Int64) : List q_C := [.inr (13, [.ref 65, .ref 97, .int (I 0 2), .null, .ref 98, .ref 100]), .inr (7, [.ref 66, .ref 88, .ref 90, .ref 96, .long (J 1 4)]), .inr (4, [.ref 67, .ref 70, .ref 71, .ref 72, .ref 73, .ref 75, .ref 78, .ref 83, .long (J 2 8)]), .inr (10, [.ref 68, .ref 69]), .inl (0, 4096, .inl (A 4)), .inl (0, 48, .inl (A 5)), .inl (0, 512, .inl (A 6)), .inl (0, 2048, .inl (A 7)), .inl (0, 2, .inl (A 8)), .inr (11, [.ref 74, .int (I 9 1), .int (I 9 2), .int (I 9 3), .int (I 9 4)]), .inl (0, 40, .inl (A 10)), .inr (6, [.ref 76, .ref 77, .int (I 11 2)]), .inl (0, 4, .inl (A 12)), .inl (0, 16, .inl (A 13)), .inr (5, [.ref 79, .ref 82, .int (I 14 2), .int (I 14 3)]), .inr (10, [.ref 80, .ref 81]), .inl (0, 4096, .inl (A 16)), .inl (0, 48, .inl (A 17)), .inl (0, 3072, .inl (A 18)), .inr (5, [.ref 84, .ref 87, .int (I 19 2), .int (I 19 3)]), .inr (10, [.ref 85, .ref 86]), .inl (0, 4096, .inl (A 21)), .inl (0, 48, .inl (A 22)), .inl (0, 3072, .inl (A 23)), .inr (8, [.int (I 24 0), .int (I 24 1), .int (I 24 2), .int (I 24 3), .int (I 24 4), .int (I 24 5), .int (I 24 6), .int (I 24 7), .int (I 24 8), .int (I 24 9), .int (I 24 10), .int (I 24 11), .ref 89]), .inl (0, 16, .inl (A 25)), .inr (12, [.ref 91, .ref 92, .ref 93, .ref 94, .ref 95]), .inl (0, 3, .inl (A 27)), .inl (0, 3, .inl (A 28)), .inl (0, 3, .inl (A 29)), .inl (0, 3, .inl (A 30)), .inl (0, 40, .inl (A 31)), .inl (0, 1024, .inl (A 32)), .inl (5, 3, .inr (.inr (.inr (.inr fun _ => none)))), .inr (1, [.ref 99, .int (I 34 1), .int (I 34 2), .int (I 34 3)]), .inl (4, 16, .inl (A 35)), .inr (10, [.ref 101, .ref 102]), .inl (0, 4096, .inl (A 37)), .inl (0, 48, .inl (A 38)), .inl (2, 1, .inr (.inl (J 39)))]
def q_cM (A : Nat → Nat → Int32) (I : Nat → Nat → Int32) (J : Nat → Nat → Int64) : List q_C := [.inr (14, [.ref 65, .ref 66, .ref 67, .ref 68, .ref 69, .ref 70, .ref 71, .ref 72, .ref 73, .ref 74, .ref 75, .ref 76, .ref 77, .ref 78, .ref 79, .long (J 0 15), .long (J 0 16), .int (I 0 17), .ref 80, .ref 81, .ref 82, .ref 83, .ref 84, .ref 85, .ref 86, .ref 87, .ref 88, .ref 89, .ref 90, .ref 91, .ref 92, .ref 93, .ref 94, .ref 95, .int (I 0 34), .int (I 0 35), .ref 96, .ref 97, .int (I 0 38), .int (I 0 39)]), .inl (0, 4096, .inl (A 1)), .inl (0, 512, .inl (A 2)), .inl (0, 2048, .inl (A 3)), .inl (0, 48, .inl (A 4)), .inl (0, 1024, .inl (A 5)), .inl (0, 40, .inl (A 6)), .inl (1, 16, .inl (A 7)), .inl (0, 40, .inl (A 8)), .inl (0, 16, .inl (A 9)), .inl (0, 3, .inl (A 10)), .inl (0, 3, .inl (A 11)), .inl (0, 3, .inl (A 12)), .inl (0, 3, .inl (A 13)), .inl (0, 24, .inl (A 14)), .inl (1, 8, .inl (A 15)), .inl (0, 12288, .inl (A 16)), .inl (0, 1536, .inl (A 17)), .inl (0, 6144, .inl (A 18)), .inl (0, 144, .inl (A 19)), .inl (0, 3072, .inl (A 20)), .inl (0, 120, .inl (A 21)), .inl (1, 48, .inl (A 22)), .inl (0, 120, .inl (A 23)), .inl (0, 48, .inl (A 24)), .inl (0, 9, .inl (A 25)), .inl (0, 9, .inl (A 26)), .inl (0, 9, .inl (A 27)), .inl (0, 9, .inl (A 28)), .inl (0, 72, .inl (A 29)), .inl (1, 24, .inl (A 30)), .inl (2, 6, .inr (.inl (J 31))), .inl (3, 40, .inl (A 32)), .inl (1, 8, .inl (A 33))]
def q_AX (i : Nat) : Nat → Int32 := cond (Nat.beq i 30) (upd (upd (upd (fun _ => 0) 0 1) 1 1) 2 1) (fun _ => 0)
def q_IX (i k : Nat) : Int32 := cond (Nat.beq i 24 && Nat.beq k 5) 4 (cond (Nat.beq i 24 && Nat.beq k 3) 255 (0))
def q_AM (i : Nat) : Nat → Int32 := cond (Nat.beq i 15) (upd (fun _ => 0) 3 1) (cond (Nat.beq i 14) (upd (fun _ => 0) 3 255) (cond (Nat.beq i 13) (upd (upd (upd (fun _ => 0) 0 1) 1 1) 2 1) (fun _ => 0)))
def q_IM (i k : Nat) : Int32 := cond (Nat.beq i 0 && Nat.beq k 34) (-1) (0)
def q_J0 (i k : Nat) : Int64 := 0
theorem q_newX {TB : Nat → Option (Nat × Nat × (Nat → Int32))} : q_Ca TB 6 27 [.ref 64] ([.inr (13, [.null, .null, .int 0, .null, .null, .null])], 1, 6) (.inl none, (q_cX q_AX q_IX q_J0).take 39, 39, 26519) := ⟨200, rfl⟩
theorem q_newM {TB : Nat → Option (Nat × Nat × (Nat → Int32))} : q_Ca TB 2 198 [.ref 64] ([.inr (14, [.null, .null, .null, .null, .null, .null, .null, .null, .null, .null, .null, .null, .null, .null, .null, .long 0, .long 0, .int 0, .null, .null, .null, .null, .null, .null, .null, .null, .null, .null, .null, .null, .null, .null, .null, .null, .int 0, .int 0, .null, .null, .int 0, .int 0])], 1, 40) (.inl none, q_cM q_AM q_IM q_J0, 34, 31630) := ⟨400, rfl⟩
theorem q_in_rng {x : Int32} {n : Nat} (h1 : decide (x < 0) = false) (h2 : decide (x < Int32.ofNat n) = true) (hn : n < 2 ^ 31 := by decide) : q_in x n = true := by
  unfold q_in
  have a : ¬ x < 0 := of_decide_eq_false h1
  have b : x < Int32.ofNat n := of_decide_eq_true h2
  rw [Int32.lt_iff_toInt_lt] at a b
  rw [Int32.toInt_ofNat_of_lt hn] at b
  have e : (0 : Int32).toInt = 0 := rfl
  rw [e] at a
  have c : x.toNatClampNeg < n := by
    show x.toInt.toNat < n
    omega
  rw [h1, decide_eq_true c]; rfl
theorem q_in_rng9 {x m : Int32} {n : Nat} (h1 : decide (x < 0) = false) (h2 : decide (m < x) = false) (hn : m.toInt < (n : Int) := by decide) : q_in x n = true := by
  unfold q_in
  have a : ¬ x < 0 := of_decide_eq_false h1
  have b : ¬ m < x := of_decide_eq_false h2
  rw [Int32.lt_iff_toInt_lt] at a b
  have e : (0 : Int32).toInt = 0 := rfl
  rw [e] at a
  have c : x.toNatClampNeg < n := by
    show x.toInt.toNat < n
    omega
  rw [h1, decide_eq_true c]; rfl
theorem q_and_bd (x m : Int32) (hm : ¬ m < 0) : 0 ≤ (x &&& m).toInt ∧ (x &&& m).toInt ≤ m.toInt := by
  have e : (x &&& m).toBitVec = x.toBitVec &&& m.toBitVec := rfl
  have hm2 : ¬ m.toBitVec.toInt < 0 := by
    rw [Int32.lt_iff_toInt_lt] at hm
    exact hm
  have hmsb : m.toBitVec.msb = false := by
    cases h : m.toBitVec.msb with
    | false => rfl
    | true => exact absurd (BitVec.toInt_neg_of_msb_true h) hm2
  have hmsb2 : (x.toBitVec &&& m.toBitVec).msb = false := by rw [BitVec.msb_and, hmsb, Bool.and_false]
  have e1 : (x &&& m).toInt = ((x.toBitVec &&& m.toBitVec).toNat : Int) := by
    show ((x &&& m).toBitVec).toInt = _
    rw [e, BitVec.toInt_eq_toNat_of_msb hmsb2]
  have e2 : m.toInt = (m.toBitVec.toNat : Int) := BitVec.toInt_eq_toNat_of_msb hmsb
  rw [e1, e2, BitVec.toNat_and]
  have h9 : x.toBitVec.toNat &&& m.toBitVec.toNat ≤ m.toBitVec.toNat := Nat.and_le_right
  exact ⟨Int.natCast_nonneg _, by exact_mod_cast h9⟩
theorem q_in_and {x m : Int32} {n : Nat} (h : m.toNatClampNeg < n) (hm : ¬ m < 0 := by decide) : q_in (x &&& m) n = true := by
  obtain ⟨h1, h2⟩ := q_and_bd x m hm
  unfold q_in
  have a : decide ((x &&& m) < 0) = false := decide_eq_false (by
    rw [Int32.lt_iff_toInt_lt]
    have e : (0 : Int32).toInt = 0 := rfl
    omega)
  have c : (x &&& m).toNatClampNeg < n := by
    have h3 : m.toInt.toNat < n := h
    show (x &&& m).toInt.toNat < n
    omega
  rw [a, decide_eq_true c]; rfl
theorem q_lo1 {x c : Int32} (h : decide (x < c) = false) : c.toInt ≤ x.toInt := by
  have a : ¬ x < c := of_decide_eq_false h
  rw [Int32.lt_iff_toInt_lt] at a
  omega
theorem q_lo2 {x c : Int32} (h : decide (c < x) = true) : c.toInt + 1 ≤ x.toInt := by
  have a : c < x := of_decide_eq_true h
  rw [Int32.lt_iff_toInt_lt] at a
  omega
theorem q_hi1 {x c : Int32} (h : decide (x < c) = true) : x.toInt ≤ c.toInt - 1 := by
  have a : x < c := of_decide_eq_true h
  rw [Int32.lt_iff_toInt_lt] at a
  omega
theorem q_hi2 {x c : Int32} (h : decide (c < x) = false) : x.toInt ≤ c.toInt := by
  have a : ¬ c < x := of_decide_eq_false h
  rw [Int32.lt_iff_toInt_lt] at a
  omega
theorem q_no {P : Prop} {l u x : Int} (h1 : l ≤ x) (h2 : x ≤ u) (h3 : u < l) : P := absurd (Int.le_trans h1 h2) (Int.not_le.mpr h3)
/-- an op of the class ends with r and, at 0, with w in the row; one of the model with v and with r as its place of a throw -/
def q_opX (k : Nat) (as : List Value) (r : Int32) (w : Int64) : Prop := ∃ (h2 : q_H) (f : Nat → Int64), q_Ca q_TB0 12 k (.ref 64 :: (as ++ [.ref 103])) (q_cX q_AX q_IX q_J0, 40, 26520) (.inl (some (.int r)), h2) ∧ h2.1[39]? = some (.inl (2, 1, .inr (.inl f))) ∧ (r = 0 → f 0 = w) ∧ h2.2.1 ≤ 100000 ∧ h2.2.2 ≤ 1000000
def q_opM (k : Nat) (as : List Value) (r : Int32) (v : Value) : Prop := ∃ (h2 : q_H) (fs : List Value), q_Ca q_TB0 12 k (.ref 64 :: as) (q_cM q_AM q_IM q_J0, 34, 31630) (.inl (some v), h2) ∧ h2.1[0]? = some (.inr (14, fs)) ∧ fs[39]? = some (.int r) ∧ h2.2.1 ≤ 100000 ∧ h2.2.2 ≤ 1000000
/-- .. of those that need no row: the same answer -/
def q_opY (kX kM : Nat) : Prop := ∃ (v : Value) (h2 h3 : q_H), q_Ca q_TB0 12 kX [.ref 64] (q_cX q_AX q_IX q_J0, 40, 26520) (.inl (some v), h2) ∧ q_Ca q_TB0 12 kM [.ref 64] (q_cM q_AM q_IM q_J0, 34, 31630) (.inl (some v), h3) ∧ h2.2.1 ≤ 100000 ∧ h2.2.2 ≤ 1000000 ∧ h3.2.1 ≤ 100000 ∧ h3.2.2 ≤ 1000000
theorem q_in_bd {x : Int32} {L U : Int} {n : Nat} (h1 : L ≤ x.toInt) (h2 : x.toInt ≤ U) (h3 : 0 ≤ L := by decide) (h4 : U < (n : Int) := by decide) : q_in x n = true := by
  unfold q_in
  have a : decide (x < 0) = false := decide_eq_false (by
    rw [Int32.lt_iff_toInt_lt]
    have e : (0 : Int32).toInt = 0 := rfl
    omega)
  have c : x.toNatClampNeg < n := by
    show x.toInt.toNat < n
    omega
  rw [a, decide_eq_true c]; rfl
theorem q_in_lin {k v a : Int32} {V M : Int} {n : Nat} (h1 : 0 ≤ v.toInt) (h2 : v.toInt ≤ V) (h3 : 0 ≤ a.toInt) (h4 : a.toInt ≤ M) (hk : 0 ≤ k.toInt := by decide) (hn : k.toInt * V + M < (n : Int) := by decide) (hn2 : n < 2 ^ 31 := by decide) : q_in (k * v + a) n = true := by
  have b1 : k.toInt * v.toInt ≤ k.toInt * V := Int.mul_le_mul_of_nonneg_left h2 hk
  have b2 : 0 ≤ k.toInt * v.toInt := Int.mul_nonneg hk h1
  have e1 : (k * v).toInt = k.toInt * v.toInt := by
    rw [Int32.toInt_mul]
    exact Int.bmod_eq_of_le (by omega) (by omega)
  have e2 : (k * v + a).toInt = k.toInt * v.toInt + a.toInt := by
    rw [Int32.toInt_add, e1]
    exact Int.bmod_eq_of_le (by omega) (by omega)
  exact q_in_bd (L := 0) (U := k.toInt * V + M) (by omega) (by omega) (by omega) (by omega)
theorem q_en {x : Int32} {l : Int} {n : Nat} (h1 : l ≤ x.toInt) (h2 : x.toInt ≤ l + (n : Int)) : ∃ j : Nat, j ≤ n ∧ x = Int32.ofInt (l + (j : Int)) := by
  refine ⟨(x.toInt - l).toNat, by omega, ?_⟩
  have e : l + (((x.toInt - l).toNat : Nat) : Int) = x.toInt := by omega
  rw [e, Int32.ofInt_toInt]
theorem q_sub_t {a c : Int32} {l u : Int} (h1 : l ≤ a.toInt) (h2 : a.toInt ≤ u) (hl : 0 ≤ l := by decide) (hu : u ≤ 1000000 := by decide) (hc : 0 ≤ c.toInt := by decide) (hc2 : c.toInt ≤ 1000000 := by decide) : (a - c).toInt = a.toInt - c.toInt := by
  rw [Int32.toInt_sub]
  exact Int.bmod_eq_of_le (by omega) (by omega)
theorem q_sub_lo {a c : Int32} {l u L : Int} (M : Int) (h : L ≤ (a - c).toInt) (h1 : l ≤ a.toInt) (h2 : a.toInt ≤ u) (hM : M = L + c.toInt := by decide) (hl : 0 ≤ l := by decide) (hu : u ≤ 1000000 := by decide) (hc : 0 ≤ c.toInt := by decide) (hc2 : c.toInt ≤ 1000000 := by decide) : M ≤ a.toInt := by
  rw [q_sub_t h1 h2 hl hu hc hc2] at h
  omega
theorem q_sub_hi {a c : Int32} {l u U : Int} (M : Int) (h : (a - c).toInt ≤ U) (h1 : l ≤ a.toInt) (h2 : a.toInt ≤ u) (hM : M = U + c.toInt := by decide) (hl : 0 ≤ l := by decide) (hu : u ≤ 1000000 := by decide) (hc : 0 ≤ c.toInt := by decide) (hc2 : c.toInt ≤ 1000000 := by decide) : a.toInt ≤ M := by
  rw [q_sub_t h1 h2 hl hu hc hc2] at h
  omega
theorem q_sub_lo9 {a c : Int32} {l u : Int} (M : Int) (h1 : l ≤ a.toInt) (h2 : a.toInt ≤ u) (hM : M = l - c.toInt := by decide) (hl : 0 ≤ l := by decide) (hu : u ≤ 1000000 := by decide) (hc : 0 ≤ c.toInt := by decide) (hc2 : c.toInt ≤ 1000000 := by decide) : M ≤ (a - c).toInt := by
  rw [q_sub_t h1 h2 hl hu hc hc2]
  omega
theorem q_sub_hi9 {a c : Int32} {l u : Int} (M : Int) (h1 : l ≤ a.toInt) (h2 : a.toInt ≤ u) (hM : M = u - c.toInt := by decide) (hl : 0 ≤ l := by decide) (hu : u ≤ 1000000 := by decide) (hc : 0 ≤ c.toInt := by decide) (hc2 : c.toInt ≤ 1000000 := by decide) : (a - c).toInt ≤ M := by
  rw [q_sub_t h1 h2 hl hu hc hc2]
  omega
theorem q_and_lo (x m : Int32) (hm : ¬ m < 0 := by decide) : 0 ≤ (x &&& m).toInt := (q_and_bd x m hm).1
theorem q_and_hi (x m : Int32) (U : Int) (hU : m.toInt = U := by decide) (hm : ¬ m < 0 := by decide) : (x &&& m).toInt ≤ U := by
  have h := (q_and_bd x m hm).2
  omega

