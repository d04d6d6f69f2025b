/-! ===== the heaps of the class and of the model ===== -/
def q_uA {T : Type} (A : Nat → Nat → T) (i : Nat) (f : Nat → T) (j : Nat) : Nat → T := cond (Nat.beq j i) f (A j)
def q_uI {T : Type} (A : Nat → Nat → T) (i k : Nat) (x : T) (j m : Nat) : T := cond (Nat.beq j i) (cond (Nat.beq m k) x (A j m)) (A j m)
theorem q_d_neT {p : Prop} {i9 : Decidable p} (h : decide p = true) : decide (¬ p) = false := by simpa using h
theorem q_d_neF {p : Prop} {i9 : Decidable p} (h : decide p = false) : decide (¬ p) = true := by simpa using h
theorem q_d_geT {x y : Int32} (h : decide (x < y) = true) : decide (y ≤ x) = false := decide_eq_false (Int32.not_le.mpr (of_decide_eq_true h))
theorem q_d_geF {x y : Int32} (h : decide (x < y) = false) : decide (y ≤ x) = true := decide_eq_true (Int32.not_lt.mp (of_decide_eq_false h))
def q_cX (A : Nat → Nat → Int32) (I : Nat → Nat → Int32) (J : Nat → Nat → Int64) : List q_C := [.inr (13, [.ref 65, .ref 97, .int (I 0 2), .ref 98, .ref 135, .ref 137]), .inr (7, [.ref 66, .ref 88, .ref 90, .ref 96, .long (J 1 4)]), .inr (4, [.ref 67, .ref 70, .ref 71, .ref 72, .ref 73, .ref 75, .ref 78, .ref 83, .long (J 2 8)]), .inr (10, [.ref 68, .ref 69]), .inl (0, 4096, .inl (A 4)), .inl (0, 48, .inl (A 5)), .inl (0, 512, .inl (A 6)), .inl (0, 2048, .inl (A 7)), .inl (0, 2, .inl (A 8)), .inr (11, [.ref 74, .int (I 9 1), .int (I 9 2), .int (I 9 3), .int (I 9 4)]), .inl (0, 40, .inl (A 10)), .inr (6, [.ref 76, .ref 77, .int (I 11 2)]), .inl (0, 4, .inl (A 12)), .inl (0, 16, .inl (A 13)), .inr (5, [.ref 79, .ref 82, .int (I 14 2), .int (I 14 3)]), .inr (10, [.ref 80, .ref 81]), .inl (0, 4096, .inl (A 16)), .inl (0, 48, .inl (A 17)), .inl (0, 3072, .inl (A 18)), .inr (5, [.ref 84, .ref 87, .int (I 19 2), .int (I 19 3)]), .inr (10, [.ref 85, .ref 86]), .inl (0, 4096, .inl (A 21)), .inl (0, 48, .inl (A 22)), .inl (0, 3072, .inl (A 23)), .inr (8, [.int (I 24 0), .int (I 24 1), .int (I 24 2), .int (I 24 3), .int (I 24 4), .int (I 24 5), .int (I 24 6), .int (I 24 7), .int (I 24 8), .int (I 24 9), .int (I 24 10), .int (I 24 11), .ref 89]), .inl (0, 16, .inl (A 25)), .inr (12, [.ref 91, .ref 92, .ref 93, .ref 94, .ref 95]), .inl (0, 3, .inl (A 27)), .inl (0, 3, .inl (A 28)), .inl (0, 3, .inl (A 29)), .inl (0, 3, .inl (A 30)), .inl (0, 40, .inl (A 31)), .inl (0, 1024, .inl (A 32)), .inl (5, 3, .inr (.inr (.inr (.inr (va_up (va_up (va_up (fun _ => none) 0 (some 140)) 1 (some 172)) 2 (some 204)))))), .inr (9, [.ref 99, .ref 131, .ref 132, .ref 133, .ref 134, .int (I 34 5), .int (I 34 6), .int (I 34 7)]), .inr (7, [.ref 100, .ref 122, .ref 124, .ref 130, .long (J 35 4)]), .inr (4, [.ref 101, .ref 104, .ref 105, .ref 106, .ref 107, .ref 109, .ref 112, .ref 117, .long (J 36 8)]), .inr (10, [.ref 102, .ref 103]), .inl (0, 4096, .inl (A 38)), .inl (0, 48, .inl (A 39)), .inl (0, 512, .inl (A 40)), .inl (0, 2048, .inl (A 41)), .inl (0, 2, .inl (A 42)), .inr (11, [.ref 108, .int (I 43 1), .int (I 43 2), .int (I 43 3), .int (I 43 4)]), .inl (0, 40, .inl (A 44)), .inr (6, [.ref 110, .ref 111, .int (I 45 2)]), .inl (0, 4, .inl (A 46)), .inl (0, 16, .inl (A 47)), .inr (5, [.ref 113, .ref 116, .int (I 48 2), .int (I 48 3)]), .inr (10, [.ref 114, .ref 115]), .inl (0, 4096, .inl (A 50)), .inl (0, 48, .inl (A 51)), .inl (0, 3072, .inl (A 52)), .inr (5, [.ref 118, .ref 121, .int (I 53 2), .int (I 53 3)]), .inr (10, [.ref 119, .ref 120]), .inl (0, 4096, .inl (A 55)), .inl (0, 48, .inl (A 56)), .inl (0, 3072, .inl (A 57)), .inr (8, [.int (I 58 0), .int (I 58 1), .int (I 58 2), .int (I 58 3), .int (I 58 4), .int (I 58 5), .int (I 58 6), .int (I 58 7), .int (I 58 8), .int (I 58 9), .int (I 58 10), .int (I 58 11), .ref 123]), .inl (0, 16, .inl (A 59)), .inr (12, [.ref 125, .ref 126, .ref 127, .ref 128, .ref 129]), .inl (0, 3, .inl (A 61)), .inl (0, 3, .inl (A 62)), .inl (0, 3, .inl (A 63)), .inl (0, 3, .inl (A 64)), .inl (0, 40, .inl (A 65)), .inl (0, 1024, .inl (A 66)), .inl (0, 512, .inl (A 67)), .inl (0, 512, .inl (A 68)), .inl (0, 512, .inl (A 69)), .inl (0, 512, .inl (A 70)), .inr (1, [.ref 136, .int 0, .int (I 71 2), .int (I 71 3)]), .inl (4, 16, .inl (A 72)), .inr (10, [.ref 138, .ref 139]), .inl (0, 4096, .inl (A 74)), .inl (0, 48, .inl (A 75)), .inr (7, [.ref 141, .ref 163, .ref 165, .ref 171, .long (J 76 4)]), .inr (4, [.ref 142, .ref 145, .ref 146, .ref 147, .ref 148, .ref 150, .ref 153, .ref 158, .long (J 77 8)]), .inr (10, [.ref 143, .ref 144]), .inl (0, 4096, .inl (A 79)), .inl (0, 48, .inl (A 80)), .inl (0, 512, .inl (A 81)), .inl (0, 2048, .inl (A 82)), .inl (0, 2, .inl (A 83)), .inr (11, [.ref 149, .int (I 84 1), .int (I 84 2), .int (I 84 3), .int (I 84 4)]), .inl (0, 40, .inl (A 85)), .inr (6, [.ref 151, .ref 152, .int (I 86 2)]), .inl (0, 4, .inl (A 87)), .inl (0, 16, .inl (A 88)), .inr (5, [.ref 154, .ref 157, .int (I 89 2), .int (I 89 3)]), .inr (10, [.ref 155, .ref 156]), .inl (0, 4096, .inl (A 91)), .inl (0, 48, .inl (A 92)), .inl (0, 3072, .inl (A 93)), .inr (5, [.ref 159, .ref 162, .int (I 94 2), .int (I 94 3)]), .inr (10, [.ref 160, .ref 161]), .inl (0, 4096, .inl (A 96)), .inl (0, 48, .inl (A 97)), .inl (0, 3072, .inl (A 98)), .inr (8, [.int (I 99 0), .int (I 99 1), .int (I 99 2), .int (I 99 3), .int (I 99 4), .int (I 99 5), .int (I 99 6), .int (I 99 7), .int (I 99 8), .int (I 99 9), .int (I 99 10), .int (I 99 11), .ref 164]), .inl (0, 16, .inl (A 100)), .inr (12, [.ref 166, .ref 167, .ref 168, .ref 169, .ref 170]), .inl (0, 3, .inl (A 102)), .inl (0, 3, .inl (A 103)), .inl (0, 3, .inl (A 104)), .inl (0, 3, .inl (A 105)), .inl (0, 40, .inl (A 106)), .inl (0, 1024, .inl (A 107)), .inr (7, [.ref 173, .ref 195, .ref 197, .ref 203, .long (J 108 4)]), .inr (4, [.ref 174, .ref 177, .ref 178, .ref 179, .ref 180, .ref 182, .ref 185, .ref 190, .long (J 109 8)]), .inr (10, [.ref 175, .ref 176]), .inl (0, 4096, .inl (A 111)), .inl (0, 48, .inl (A 112)), .inl (0, 512, .inl (A 113)), .inl (0, 2048, .inl (A 114)), .inl (0, 2, .inl (A 115)), .inr (11, [.ref 181, .int (I 116 1), .int (I 116 2), .int (I 116 3), .int (I 116 4)]), .inl (0, 40, .inl (A 117)), .inr (6, [.ref 183, .ref 184, .int (I 118 2)]), .inl (0, 4, .inl (A 119)), .inl (0, 16, .inl (A 120)), .inr (5, [.ref 186, .ref 189, .int (I 121 2), .int (I 121 3)]), .inr (10, [.ref 187, .ref 188]), .inl (0, 4096, .inl (A 123)), .inl (0, 48, .inl (A 124)), .inl (0, 3072, .inl (A 125)), .inr (5, [.ref 191, .ref 194, .int (I 126 2), .int (I 126 3)]), .inr (10, [.ref 192, .ref 193]), .inl (0, 4096, .inl (A 128)), .inl (0, 48, .inl (A 129)), .inl (0, 3072, .inl (A 130)), .inr (8, [.int (I 131 0), .int (I 131 1), .int (I 131 2), .int (I 131 3), .int (I 131 4), .int (I 131 5), .int (I 131 6), .int (I 131 7), .int (I 131 8), .int (I 131 9), .int (I 131 10), .int (I 131 11), .ref 196]), .inl (0, 16, .inl (A 132)), .inr (12, [.ref 198, .ref 199, .ref 200, .ref 201, .ref 202]), .inl (0, 3, .inl (A 134)), .inl (0, 3, .inl (A 135)), .inl (0, 3, .inl (A 136)), .inl (0, 3, .inl (A 137)), .inl (0, 40, .inl (A 138)), .inl (0, 1024, .inl (A 139)), .inr (7, [.ref 205, .ref 227, .ref 229, .ref 235, .long (J 140 4)]), .inr (4, [.ref 206, .ref 209, .ref 210, .ref 211, .ref 212, .ref 214, .ref 217, .ref 222, .long (J 141 8)]), .inr (10, [.ref 207, .ref 208]), .inl (0, 4096, .inl (A 143)), .inl (0, 48, .inl (A 144)), .inl (0, 512, .inl (A 145)), .inl (0, 2048, .inl (A 146)), .inl (0, 2, .inl (A 147)), .inr (11, [.ref 213, .int (I 148 1), .int (I 148 2), .int (I 148 3), .int (I 148 4)]), .inl (0, 40, .inl (A 149)), .inr (6, [.ref 215, .ref 216, .int (I 150 2)]), .inl (0, 4, .inl (A 151)), .inl (0, 16, .inl (A 152)), .inr (5, [.ref 218, .ref 221, .int (I 153 2), .int (I 153 3)]), .inr (10, [.ref 219, .ref 220]), .inl (0, 4096, .inl (A 155)), .inl (0, 48, .inl (A 156)), .inl (0, 3072, .inl (A 157)), .inr (5, [.ref 223, .ref 226, .int (I 158 2), .int (I 158 3)]), .inr (10, [.ref 224, .ref 225]), .inl (0, 4096, .inl (A 160)), .inl (0, 48, .inl (A 161)), .inl (0, 3072, .inl (A 162)), .inr (8, [.int (I 163 0), .int (I 163 1), .int (I 163 2), .int (I 163 3), .int (I 163 4), .int (I 163 5), .int (I 163 6), .int (I 163 7), .int (I 163 8), .int (I 163 9), .int (I 163 10), .int (I 163 11), .ref 228]), .inl (0, 16, .inl (A 164)), .inr (12, [.ref 230, .ref 231, .ref 232, .ref 233, .ref 234]), .inl (0, 3, .inl (A 166)), .inl (0, 3, .inl (A 167)), .inl (0, 3, .inl (A 168)), .inl (0, 3, .inl (A 169)), .inl (0, 40, .inl (A 170)), .inl (0, 1024, .inl (A 171)), .inl (2, 1, .inr (.inl (J 172)))]
def q_cM (A : Nat → Nat → Int32) (I : Nat → Nat → Int32) (J : Nat → Nat → Int64) : List q_C := [.inr (14, [.ref 65, .ref 66, .ref 67, .ref 68, .ref 69, .ref 70, .ref 71, .ref 72, .ref 73, .ref 74, .ref 75, .ref 76, .ref 77, .ref 78, .ref 79, .long (J 0 15), .long (J 0 16), .int (I 0 17), .ref 80, .ref 81, .ref 82, .ref 83, .ref 84, .ref 85, .ref 86, .ref 87, .ref 88, .ref 89, .ref 90, .ref 91, .ref 92, .ref 93, .ref 94, .ref 95, .int (I 0 34), .int (I 0 35), .ref 96, .ref 97, .int (I 0 38), .int (I 0 39)]), .inl (0, 4096, .inl (A 1)), .inl (0, 512, .inl (A 2)), .inl (0, 2048, .inl (A 3)), .inl (0, 48, .inl (A 4)), .inl (0, 1024, .inl (A 5)), .inl (0, 40, .inl (A 6)), .inl (1, 16, .inl (A 7)), .inl (0, 40, .inl (A 8)), .inl (0, 16, .inl (A 9)), .inl (0, 3, .inl (A 10)), .inl (0, 3, .inl (A 11)), .inl (0, 3, .inl (A 12)), .inl (0, 3, .inl (A 13)), .inl (0, 24, .inl (A 14)), .inl (1, 8, .inl (A 15)), .inl (0, 12288, .inl (A 16)), .inl (0, 1536, .inl (A 17)), .inl (0, 6144, .inl (A 18)), .inl (0, 144, .inl (A 19)), .inl (0, 3072, .inl (A 20)), .inl (0, 120, .inl (A 21)), .inl (1, 48, .inl (A 22)), .inl (0, 120, .inl (A 23)), .inl (0, 48, .inl (A 24)), .inl (0, 9, .inl (A 25)), .inl (0, 9, .inl (A 26)), .inl (0, 9, .inl (A 27)), .inl (0, 9, .inl (A 28)), .inl (0, 72, .inl (A 29)), .inl (1, 24, .inl (A 30)), .inl (2, 6, .inr (.inl (J 31))), .inl (3, 40, .inl (A 32)), .inl (1, 8, .inl (A 33))]
def q_AX (i : Nat) : Nat → Int32 := cond (Nat.beq i 169) (upd (upd (upd (fun _ => 0) 0 1) 1 1) 2 1) (cond (Nat.beq i 137) (upd (upd (upd (fun _ => 0) 0 1) 1 1) 2 1) (cond (Nat.beq i 105) (upd (upd (upd (fun _ => 0) 0 1) 1 1) 2 1) (cond (Nat.beq i 64) (upd (upd (upd (fun _ => 0) 0 1) 1 1) 2 1) (cond (Nat.beq i 30) (upd (upd (upd (fun _ => 0) 0 1) 1 1) 2 1) (fun _ => 0)))))
def q_IX (i k : Nat) : Int32 := cond (Nat.beq i 163 && Nat.beq k 5) 4 (cond (Nat.beq i 163 && Nat.beq k 3) 255 (cond (Nat.beq i 131 && Nat.beq k 5) 4 (cond (Nat.beq i 131 && Nat.beq k 3) 255 (cond (Nat.beq i 99 && Nat.beq k 5) 4 (cond (Nat.beq i 99 && Nat.beq k 3) 255 (cond (Nat.beq i 58 && Nat.beq k 5) 4 (cond (Nat.beq i 58 && Nat.beq k 3) 255 (cond (Nat.beq i 24 && Nat.beq k 5) 4 (cond (Nat.beq i 24 && Nat.beq k 3) 255 (0))))))))))
def q_AM (i : Nat) : Nat → Int32 := cond (Nat.beq i 15) (upd (fun _ => 0) 3 1) (cond (Nat.beq i 14) (upd (fun _ => 0) 3 255) (cond (Nat.beq i 13) (upd (upd (upd (fun _ => 0) 0 1) 1 1) 2 1) (fun _ => 0)))
def q_IM (i k : Nat) : Int32 := cond (Nat.beq i 0 && Nat.beq k 34) (-1) (0)
def q_J0 (i k : Nat) : Int64 := 0
set_option maxRecDepth 1000000 in
theorem q_newX {TB : Nat → Option (Nat × Nat × (Nat → Int32))} : q_Ca TB 7 27 [.ref 64] ([.inr (13, [.null, .null, .int 0, .null, .null, .null])], 1, 6) (.inl none, (q_cX q_AX q_IX q_J0).take 172, 172, 117951) := ⟨400, rfl⟩
set_option maxRecDepth 1000000 in
theorem q_newM {TB : Nat → Option (Nat × Nat × (Nat → Int32))} : q_Ca TB 2 197 [.ref 64] ([.inr (14, [.null, .null, .null, .null, .null, .null, .null, .null, .null, .null, .null, .null, .null, .null, .null, .long 0, .long 0, .int 0, .null, .null, .null, .null, .null, .null, .null, .null, .null, .null, .null, .null, .null, .null, .null, .null, .int 0, .int 0, .null, .null, .int 0, .int 0])], 1, 40) (.inl none, q_cM q_AM q_IM q_J0, 34, 31630) := ⟨400, rfl⟩
theorem q_in_rng {x : Int32} {n : Nat} (h1 : decide (x < 0) = false) (h2 : decide (x < Int32.ofNat n) = true) (hn : n < 2 ^ 31 := by decide) : q_in x n = true := by
  unfold q_in
  have a : ¬ x < 0 := of_decide_eq_false h1
  have b : x < Int32.ofNat n := of_decide_eq_true h2
  rw [Int32.lt_iff_toInt_lt] at a b
  rw [Int32.toInt_ofNat_of_lt hn] at b
  have e : (0 : Int32).toInt = 0 := rfl
  rw [e] at a
  have c : x.toNatClampNeg < n := by
    show x.toInt.toNat < n
    omega
  rw [h1, decide_eq_true c]; rfl
theorem q_in_rng9 {x m : Int32} {n : Nat} (h1 : decide (x < 0) = false) (h2 : decide (m < x) = false) (hn : m.toInt < (n : Int) := by decide) : q_in x n = true := by
  unfold q_in
  have a : ¬ x < 0 := of_decide_eq_false h1
  have b : ¬ m < x := of_decide_eq_false h2
  rw [Int32.lt_iff_toInt_lt] at a b
  have e : (0 : Int32).toInt = 0 := rfl
  rw [e] at a
  have c : x.toNatClampNeg < n := by
    show x.toInt.toNat < n
    omega
  rw [h1, decide_eq_true c]; rfl
theorem q_and_bd (x m : Int32) (hm : ¬ m < 0) : 0 ≤ (x &&& m).toInt ∧ (x &&& m).toInt ≤ m.toInt := by
  have e : (x &&& m).toBitVec = x.toBitVec &&& m.toBitVec := rfl
  have hm2 : ¬ m.toBitVec.toInt < 0 := by
    rw [Int32.lt_iff_toInt_lt] at hm
    exact hm
  have hmsb : m.toBitVec.msb = false := by
    cases h : m.toBitVec.msb with
    | false => rfl
    | true => exact absurd (BitVec.toInt_neg_of_msb_true h) hm2
  have hmsb2 : (x.toBitVec &&& m.toBitVec).msb = false := by rw [BitVec.msb_and, hmsb, Bool.and_false]
  have e1 : (x &&& m).toInt = ((x.toBitVec &&& m.toBitVec).toNat : Int) := by
    show ((x &&& m).toBitVec).toInt = _
    rw [e, BitVec.toInt_eq_toNat_of_msb hmsb2]
  have e2 : m.toInt = (m.toBitVec.toNat : Int) := BitVec.toInt_eq_toNat_of_msb hmsb
  rw [e1, e2, BitVec.toNat_and]
  have h9 : x.toBitVec.toNat &&& m.toBitVec.toNat ≤ m.toBitVec.toNat := Nat.and_le_right
  exact ⟨Int.natCast_nonneg _, by exact_mod_cast h9⟩
theorem q_in_and {x m : Int32} {n : Nat} (h : m.toNatClampNeg < n) (hm : ¬ m < 0 := by decide) : q_in (x &&& m) n = true := by
  obtain ⟨h1, h2⟩ := q_and_bd x m hm
  unfold q_in
  have a : decide ((x &&& m) < 0) = false := decide_eq_false (by
    rw [Int32.lt_iff_toInt_lt]
    have e : (0 : Int32).toInt = 0 := rfl
    omega)
  have c : (x &&& m).toNatClampNeg < n := by
    have h3 : m.toInt.toNat < n := h
    show (x &&& m).toInt.toNat < n
    omega
  rw [a, decide_eq_true c]; rfl
theorem q_lo1 {x c : Int32} (h : decide (x < c) = false) : c.toInt ≤ x.toInt := by
  have a : ¬ x < c := of_decide_eq_false h
  rw [Int32.lt_iff_toInt_lt] at a
  omega
theorem q_lo2 {x c : Int32} (h : decide (c < x) = true) : c.toInt + 1 ≤ x.toInt := by
  have a : c < x := of_decide_eq_true h
  rw [Int32.lt_iff_toInt_lt] at a
  omega
theorem q_hi1 {x c : Int32} (h : decide (x < c) = true) : x.toInt ≤ c.toInt - 1 := by
  have a : x < c := of_decide_eq_true h
  rw [Int32.lt_iff_toInt_lt] at a
  omega
theorem q_hi2 {x c : Int32} (h : decide (c < x) = false) : x.toInt ≤ c.toInt := by
  have a : ¬ c < x := of_decide_eq_false h
  rw [Int32.lt_iff_toInt_lt] at a
  omega
theorem q_no {P : Prop} {l u x : Int} (h1 : l ≤ x) (h2 : x ≤ u) (h3 : u < l) : P := absurd (Int.le_trans h1 h2) (Int.not_le.mpr h3)
theorem q_in_bd {x : Int32} {L U : Int} {n : Nat} (h1 : L ≤ x.toInt) (h2 : x.toInt ≤ U) (h3 : 0 ≤ L := by decide) (h4 : U < (n : Int) := by decide) : q_in x n = true := by
  unfold q_in
  have a : decide (x < 0) = false := decide_eq_false (by
    rw [Int32.lt_iff_toInt_lt]
    have e : (0 : Int32).toInt = 0 := rfl
    omega)
  have c : x.toNatClampNeg < n := by
    show x.toInt.toNat < n
    omega
  rw [a, decide_eq_true c]; rfl
theorem q_in_lin {k v a : Int32} {V M : Int} {n : Nat} (h1 : 0 ≤ v.toInt) (h2 : v.toInt ≤ V) (h3 : 0 ≤ a.toInt) (h4 : a.toInt ≤ M) (hk : 0 ≤ k.toInt := by decide) (hn : k.toInt * V + M < (n : Int) := by decide) (hn2 : n < 2 ^ 31 := by decide) : q_in (k * v + a) n = true := by
  have b1 : k.toInt * v.toInt ≤ k.toInt * V := Int.mul_le_mul_of_nonneg_left h2 hk
  have b2 : 0 ≤ k.toInt * v.toInt := Int.mul_nonneg hk h1
  have e1 : (k * v).toInt = k.toInt * v.toInt := by
    rw [Int32.toInt_mul]
    exact Int.bmod_eq_of_le (by omega) (by omega)
  have e2 : (k * v + a).toInt = k.toInt * v.toInt + a.toInt := by
    rw [Int32.toInt_add, e1]
    exact Int.bmod_eq_of_le (by omega) (by omega)
  exact q_in_bd (L := 0) (U := k.toInt * V + M) (by omega) (by omega) (by omega) (by omega)
theorem q_en {x : Int32} {l : Int} {n : Nat} (h1 : l ≤ x.toInt) (h2 : x.toInt ≤ l + (n : Int)) : ∃ j : Nat, j ≤ n ∧ x = Int32.ofInt (l + (j : Int)) := by
  refine ⟨(x.toInt - l).toNat, by omega, ?_⟩
  have e : l + (((x.toInt - l).toNat : Nat) : Int) = x.toInt := by omega
  rw [e, Int32.ofInt_toInt]
theorem q_sub_t {a c : Int32} {l u : Int} (h1 : l ≤ a.toInt) (h2 : a.toInt ≤ u) (hl : 0 ≤ l := by decide) (hu : u ≤ 1000000 := by decide) (hc : 0 ≤ c.toInt := by decide) (hc2 : c.toInt ≤ 1000000 := by decide) : (a - c).toInt = a.toInt - c.toInt := by
  rw [Int32.toInt_sub]
  exact Int.bmod_eq_of_le (by omega) (by omega)
theorem q_sub_lo {a c : Int32} {l u L : Int} (M : Int) (h : L ≤ (a - c).toInt) (h1 : l ≤ a.toInt) (h2 : a.toInt ≤ u) (hM : M = L + c.toInt := by decide) (hl : 0 ≤ l := by decide) (hu : u ≤ 1000000 := by decide) (hc : 0 ≤ c.toInt := by decide) (hc2 : c.toInt ≤ 1000000 := by decide) : M ≤ a.toInt := by
  rw [q_sub_t h1 h2 hl hu hc hc2] at h
  omega
theorem q_sub_hi {a c : Int32} {l u U : Int} (M : Int) (h : (a - c).toInt ≤ U) (h1 : l ≤ a.toInt) (h2 : a.toInt ≤ u) (hM : M = U + c.toInt := by decide) (hl : 0 ≤ l := by decide) (hu : u ≤ 1000000 := by decide) (hc : 0 ≤ c.toInt := by decide) (hc2 : c.toInt ≤ 1000000 := by decide) : a.toInt ≤ M := by
  rw [q_sub_t h1 h2 hl hu hc hc2] at h
  omega
theorem q_sub_lo9 {a c : Int32} {l u : Int} (M : Int) (h1 : l ≤ a.toInt) (h2 : a.toInt ≤ u) (hM : M = l - c.toInt := by decide) (hl : 0 ≤ l := by decide) (hu : u ≤ 1000000 := by decide) (hc : 0 ≤ c.toInt := by decide) (hc2 : c.toInt ≤ 1000000 := by decide) : M ≤ (a - c).toInt := by
  rw [q_sub_t h1 h2 hl hu hc hc2]
  omega
theorem q_sub_hi9 {a c : Int32} {l u : Int} (M : Int) (h1 : l ≤ a.toInt) (h2 : a.toInt ≤ u) (hM : M = u - c.toInt := by decide) (hl : 0 ≤ l := by decide) (hu : u ≤ 1000000 := by decide) (hc : 0 ≤ c.toInt := by decide) (hc2 : c.toInt ≤ 1000000 := by decide) : (a - c).toInt ≤ M := by
  rw [q_sub_t h1 h2 hl hu hc hc2]
  omega
theorem q_and_lo (x m : Int32) (hm : ¬ m < 0 := by decide) : 0 ≤ (x &&& m).toInt := (q_and_bd x m hm).1
theorem q_and_hi (x m : Int32) (U : Int) (hU : m.toInt = U := by decide) (hm : ¬ m < 0 := by decide) : (x &&& m).toInt ≤ U := by
  have h := (q_and_bd x m hm).2
  omega

