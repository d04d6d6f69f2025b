section
/-! ===== the class' machine x (kind N) beside the model m ===== -/
def q_pl (k : Nat) : Bool := !(Nat.beq k 10 || (Nat.beq k 12 || (Nat.beq k 13 || (Nat.beq k 14 || (Nat.beq k 15 || (Nat.beq k 29 || Nat.beq k 30))))))
/-- RAM, ROM, cartridge -/
def q_R1 (x m : q_S) : Prop := (∀ k, k < 4096 → x.1 3 k = m.1 1 k) ∧ (∀ k, k < 512 → x.1 5 k = m.1 2 k) ∧ (∀ k, k < 2048 → x.1 6 k = m.1 3 k)
/-- registers -/
def q_R2 (x m : q_S) : Prop := ((∀ k, k < 45 → q_pl k = true → x.1 4 k = m.1 4 k) ∧ (∀ k, 45 ≤ k → k < 48 → x.1 4 k = 0)) ∧ x.1 4 10 = m.1 14 9 ∧ x.1 4 29 = m.1 14 10 ∧ x.1 4 30 = m.1 14 11
/-- latches and counts -/
def q_R3 (x m : q_S) : Prop := (q_rgz 0 255 (x.1 4 12) ∧ q_rgz 0 255 (x.1 4 13) ∧ q_rgz 0 255 (x.1 4 14) ∧ q_rgz 0 255 (x.1 4 15)) ∧ m.1 14 7 = x.1 4 12 + 256 * x.1 4 13 ∧ m.1 14 8 = x.1 4 14 + 256 * x.1 4 15 ∧ x.1 7 0 = m.1 14 5 ∧ x.1 7 1 = m.1 14 6
/-- the tape -/
def q_R4 (x m : q_S) : Prop := (∀ k, k < 40 → x.1 9 k = m.1 8 k) ∧ x.2.1 8 1 = m.1 14 13 ∧ x.2.1 8 2 = m.1 14 14 ∧ x.2.1 8 4 = m.1 14 16 ∧ (x.2.1 8 2).toInt ≤ (x.2.1 8 1).toInt ∧ (∀ k, k < (x.2.1 8 1).toNatClampNeg → q_rgz 1 999 (x.1 9 k)) ∧ ((x.2.1 8 2).toInt < (x.2.1 8 1).toInt → (m.1 14 15).toInt = (x.1 9 (x.2.1 8 2).toNatClampNeg).toInt - (x.2.1 8 3).toInt ∧ 0 ≤ (x.2.1 8 3).toInt ∧ (x.2.1 8 3).toInt < (x.1 9 (x.2.1 8 2).toNatClampNeg).toInt) ∧ (¬ (x.2.1 8 2).toInt < (x.2.1 8 1).toInt → x.2.1 8 3 = 0)
/-- what the class' own sum over pressed rows gives -/
def q_cs (f : Nat → Int32) (r : Int32) : Option Int32 := dz_N182_74 (fun _ => f, fun _ _ => 0, fun _ _ => 0) r
/-- the keys: what the class keeps as seen is what its own sum over the pressed ones gives -/
def q_R5 (x m : q_S) : Prop := x.2.1 10 2 = m.1 14 12 ∧ (∀ r, r < 4 → x.1 11 r = m.1 7 (4 * r) + 2 * m.1 7 (4 * r + 1) + 4 * m.1 7 (4 * r + 2) + 8 * m.1 7 (4 * r + 3)) ∧ (∀ r : Int32, q_rgz 0 15 r → q_cs (x.1 11) r = some (x.1 12 r.toNatClampNeg))
/-- the processor; TT: what is said of the traces -/
def q_R6 (TT : (Nat → Int32) → Int32 → (Nat → Int32) → Int32 → Int64 → Int64 → List Int32 → List (Nat → Int32) → (Nat → Int64) → Prop) (x m : q_S) : Prop := (x.2.1 23 0 = m.1 14 0 ∧ x.2.1 23 1 = m.1 14 1 ∧ x.2.1 23 2 = m.1 14 2 ∧ x.2.1 23 3 = m.1 14 3) ∧ (x.2.1 23 7 = 0 → x.2.1 23 4 = m.1 14 4) ∧ x.2.1 23 6 = m.1 15 6 ∧ x.2.1 23 7 = m.1 15 7 ∧ x.2.1 23 8 = m.1 14 18 ∧ x.2.1 23 9 = m.1 14 17 ∧ x.2.1 23 10 = m.1 14 19 ∧ True ∧ TT (x.1 24) (x.2.1 23 11) (m.1 9) (m.1 14 20) (x.2.2 0 4) (m.2.2 0 16) [m.2.1 0 17, m.2.1 0 34, m.2.1 0 35, m.2.1 0 39] [m.1 16, m.1 17, m.1 18, m.1 19, m.1 20, m.1 21, m.1 22, m.1 23, m.1 24, m.1 25, m.1 26, m.1 27, m.1 28, m.1 29, m.1 30, m.1 31, m.1 32] (m.2.2 31) ∧ x.2.1 23 5 = m.1 15 5 + 2 * m.1 15 4 + 4 * m.1 15 3 + 8 * m.1 15 2 + 64 * m.1 15 1 + 128 * m.1 15 0 ∧ ((x.2.1 23 7 = 0 ∨ x.2.1 23 9 = 0) ∧ q_rgz 0 9 (x.2.1 23 9))
/-- the voices -/
def q_R7 (x m : q_S) : Prop := (∀ k, k < 3 → x.1 26 k = m.1 10 k ∧ x.1 27 k = m.1 11 k ∧ x.1 28 k = m.1 12 k ∧ x.1 29 k = m.1 13 k) ∧ (∀ k, k < 40 → x.1 30 k = m.1 6 k)
/-- the picture and the time -/
def q_R8 (x m : q_S) : Prop := ((∀ k, k < 1024 → x.1 31 k = m.1 5 k) ∧ q_rgz 0 3 (x.1 4 1)) ∧ x.2.2 1 8 = m.2.2 0 15
def q_R (TT : (Nat → Int32) → Int32 → (Nat → Int32) → Int32 → Int64 → Int64 → List Int32 → List (Nat → Int32) → (Nat → Int64) → Prop) (x m : q_S) : Prop := q_R1 x m ∧ q_R2 x m ∧ q_R3 x m ∧ q_R4 x m ∧ q_R5 x m ∧ q_R6 TT x m ∧ q_R7 x m ∧ q_R8 x m
section
variable {TT : (Nat → Int32) → Int32 → (Nat → Int32) → Int32 → Int64 → Int64 → List Int32 → List (Nat → Int32) → (Nat → Int64) → Prop} {x m : q_S} {c d w : Int}
theorem q_R.r1 (h : q_R TT x m) : q_R1 x m := h.1
theorem q_R.r2 (h : q_R TT x m) : q_R2 x m := h.2.1
theorem q_R.r3 (h : q_R TT x m) : q_R3 x m := h.2.2.1
theorem q_R.r4 (h : q_R TT x m) : q_R4 x m := h.2.2.2.1
theorem q_R.r5 (h : q_R TT x m) : q_R5 x m := h.2.2.2.2.1
theorem q_R.r6 (h : q_R TT x m) : q_R6 TT x m := h.2.2.2.2.2.1
theorem q_R.r7 (h : q_R TT x m) : q_R7 x m := h.2.2.2.2.2.2.1
theorem q_R.r8 (h : q_R TT x m) : q_R8 x m := h.2.2.2.2.2.2.2
/-- a register -/
theorem q_R.g (h : q_R TT x m) (k : Nat) (hk : k < 45 := by decide) (hp : q_pl k = true := by decide) : x.1 4 k = m.1 4 k := h.r2.1.1 k hk hp
theorem q_nat_rg {a : Int32} {n : Int} (h : q_rgz 0 (n - 1) a) : ((a.toNatClampNeg : Nat) : Int) = a.toInt ∧ (a.toNatClampNeg : Int) < n := by
  have h1 := h.1
  have h2 := h.2
  have e : a.toNatClampNeg = a.toInt.toNat := rfl
  omega
theorem q_lt_T {a b : Int32} (h : a.toInt < b.toInt) : decide (a < b) = true := decide_eq_true (Int32.lt_iff_toInt_lt.mpr h)
theorem q_lt_F {a b : Int32} (h : b.toInt ≤ a.toInt) : decide (a < b) = false := decide_eq_false (fun z => by have := Int32.lt_iff_toInt_lt.mp z; omega)
theorem q_eq_T {a b : Int32} (h : a.toInt = b.toInt) : decide (a = b) = true := decide_eq_true (Int32.toInt_inj.mp h)
theorem q_eq_F {a b : Int32} (h : ¬ a.toInt = b.toInt) : decide (a = b) = false := decide_eq_false (fun z => h (by rw [z]))
theorem q_ltT {a b : Int32} (h : decide (a < b) = true) : a.toInt < b.toInt := Int32.lt_iff_toInt_lt.mp (of_decide_eq_true h)
theorem q_ltF {a b : Int32} (h : decide (a < b) = false) : b.toInt ≤ a.toInt := Int.not_lt.mp (fun z => of_decide_eq_false h (Int32.lt_iff_toInt_lt.mpr z))
theorem q_eqT {a b : Int32} (h : decide (a = b) = true) : a = b := of_decide_eq_true h
theorem q_eqF {a b : Int32} (h : decide (a = b) = false) : ¬ a.toInt = b.toInt := fun z => of_decide_eq_false h (Int32.toInt_inj.mp z)
theorem q_addI {a b : Int32} (h : q_rgz (-1000000) 1000000 a) (h2 : q_rgz (-1000000) 1000000 b) : (a + b).toInt = a.toInt + b.toInt := by
  unfold q_rgz at *
  exact q_add9 (by omega) (by omega)
theorem q_subI {a b : Int32} (h : q_rgz (-1000000) 1000000 a) (h2 : q_rgz (-1000000) 1000000 b) : (a - b).toInt = a.toInt - b.toInt := by
  unfold q_rgz at *
  rw [Int32.toInt_sub]
  exact Int.bmod_eq_of_le (by omega) (by omega)
theorem q_mulI {a b : Int32} {n : Int} (hb : b.toInt = n) (h0 : 0 ≤ n) (h1 : n ≤ 1000) (h : q_rgz (-100000) 100000 a) : (b * a).toInt = n * a.toInt := by
  unfold q_rgz at *
  have e1 : n * a.toInt ≤ 1000 * 100000 := by
    have := Int.mul_le_mul_of_nonneg_left h.2 h0
    omega
  have e2 : -(1000 * 100000) ≤ n * a.toInt := by
    have := Int.mul_le_mul_of_nonneg_left h.1 h0
    omega
  rw [Int32.toInt_mul, hb]
  exact Int.bmod_eq_of_le (by omega) (by omega)
/-- masks of the lowest bits -/
theorem q_andI {a : Int32} {l u : Int} (n : Nat) (hn : n < 31) (h : q_rgz l u a) (h0 : 0 ≤ l) {k : Int32} (hk : k.toInt = 2 ^ n - 1) : (a &&& k).toInt = a.toInt % 2 ^ n := by
  obtain ⟨p1, p2⟩ := q_nn h h0
  have hp : (2 : Int) ^ n = ((2 ^ n : Nat) : Int) := by push_cast; rfl
  have hpos : 0 < 2 ^ n := Nat.pos_of_ne_zero (by exact Nat.ne_of_gt (Nat.two_pow_pos n))
  have kk := q_nn (x := k) (l := 0) (u := 2 ^ n - 1) ⟨by rw [hk]; omega, by rw [hk]; omega⟩ (by decide)
  have kn : k.toBitVec.toNat = 2 ^ n - 1 := by have := kk.1; omega
  have e : (a &&& k).toBitVec = a.toBitVec &&& k.toBitVec := rfl
  have mm : (a.toBitVec &&& k.toBitVec).msb = false := by rw [BitVec.msb_and, p2]; rfl
  have e1 : (a &&& k).toInt = ((a.toBitVec.toNat % 2 ^ n : Nat) : Int) := by
    show ((a &&& k).toBitVec).toInt = _
    rw [e, BitVec.toInt_eq_toNat_of_msb mm, BitVec.toNat_and, kn, Nat.and_two_pow_sub_one_eq_mod]
  rw [e1, p1, hp]
  exact_mod_cast rfl
theorem q_shn {b : Int32} {n : Nat} (hb : b.toInt = (n : Int)) (hn : n < 32) : (b.toBitVec.smod 32).toNat = n := by
  obtain ⟨p1, p2⟩ := q_nn (x := b) (l := 0) (u := n) ⟨by omega, by omega⟩ (by decide)
  rw [BitVec.smod_eq, p2, show (32 : BitVec 32).msb = false from rfl]
  show (b.toBitVec.umod 32).toNat = n
  rw [BitVec.umod_eq, BitVec.toNat_umod]
  show b.toBitVec.toNat % 32 = n
  omega
theorem q_shrI {a b : Int32} (n : Nat) (hb : b.toInt = (n : Int)) (hn : n < 32) : (a >>> b).toInt = a.toInt / 2 ^ n := by
  show ((a >>> b).toBitVec).toInt = _
  have e : (a >>> b).toBitVec = a.toBitVec.sshiftRight' (b.toBitVec.smod 32) := rfl
  rw [e, BitVec.toInt_sshiftRight', q_shn hb hn, Int.shiftRight_eq_div_pow]
  show a.toInt / ((2 ^ n : Nat) : Int) = _
  rw [show ((2 ^ n : Nat) : Int) = 2 ^ n by push_cast; rfl]
theorem q_shlI {a b : Int32} {l u : Int} (n : Nat) (hb : b.toInt = (n : Int)) (hn : n < 32) (h : q_rgz l u a) (h0 : 0 ≤ l) (hu : u * 2 ^ n < 2147483648) : (a <<< b).toInt = a.toInt * 2 ^ n := by
  obtain ⟨p1, p2⟩ := q_nn h h0
  have e : (a <<< b).toBitVec = a.toBitVec <<< (b.toBitVec.smod 32) := rfl
  have pos : (0 : Int) < 2 ^ n := Int.pow_pos (by decide)
  have hm : a.toInt * 2 ^ n ≤ u * 2 ^ n := Int.mul_le_mul_of_nonneg_right h.2 (Int.le_of_lt pos)
  have h00 : 0 ≤ a.toInt * 2 ^ n := Int.mul_nonneg (Int.le_trans h0 h.1) (Int.le_of_lt pos)
  have cN : a.toInt * 2 ^ n = ((a.toBitVec.toNat * 2 ^ n : Nat) : Int) := by rw [p1]; push_cast; rfl
  have lt : a.toBitVec.toNat * 2 ^ n < 2147483648 := by omega
  have e2 : (a <<< b).toBitVec.toNat = a.toBitVec.toNat * 2 ^ n := by
    rw [e, BitVec.shiftLeft_eq', q_shn hb hn, BitVec.toNat_shiftLeft, Nat.shiftLeft_eq]
    exact Nat.mod_eq_of_lt (by omega)
  show ((a <<< b).toBitVec).toInt = _
  rw [BitVec.toInt_eq_toNat_of_lt (by rw [e2]; omega), e2, cN]
theorem q_sh31 {k : Int32} {n : Nat} (hk : k.toInt = (n : Int)) (hn : n < 32) : (k &&& 31).toInt = (n : Int) := by
  rw [q_andI 5 (by decide) (l := 0) (u := n) ⟨by omega, by omega⟩ (by decide) (show (31 : Int32).toInt = 2 ^ 5 - 1 from rfl), hk]
  omega
end
end
section
/-! ===== reading ===== -/
def q_eq33 (m m2 : q_S) : Prop := (∀ i, Nat.beq i 33 = false → m2.1 i = m.1 i) ∧ m2.2 = m.2
section
variable {TT : (Nat → Int32) → Int32 → (Nat → Int32) → Int32 → Int64 → Int64 → List Int32 → List (Nat → Int32) → (Nat → Int64) → Prop} {x m : q_S} {c d w : Int}
theorem q_R_33 {m2 : q_S} (h : q_R TT x m) (e : q_eq33 m m2) : q_R TT x m2 := by
  obtain ⟨e1, e2⟩ := e
  unfold q_R q_R1 q_R2 q_R3 q_R4 q_R5 q_R6 q_R7 q_R8 at *
  rw [e2]
  simp only [e1 1 rfl, e1 2 rfl, e1 3 rfl, e1 4 rfl, e1 5 rfl, e1 6 rfl, e1 7 rfl, e1 8 rfl, e1 9 rfl, e1 10 rfl, e1 11 rfl, e1 12 rfl, e1 13 rfl, e1 14 rfl, e1 15 rfl, e1 16 rfl, e1 17 rfl, e1 18 rfl, e1 19 rfl, e1 20 rfl, e1 21 rfl, e1 22 rfl, e1 23 rfl, e1 24 rfl, e1 25 rfl, e1 26 rfl, e1 27 rfl, e1 28 rfl, e1 29 rfl, e1 30 rfl, e1 31 rfl, e1 32 rfl]
  exact h
theorem q_eq33_refl (m : q_S) : q_eq33 m m := ⟨fun _ _ => rfl, rfl⟩
theorem q_202T {s : q_S} {v lo hi : Int32} (h1 : lo.toInt ≤ v.toInt) (h2 : v.toInt ≤ hi.toInt) : dz_M201 s v lo hi = true := by
  unfold dz_M201
  rw [q_lt_F h1, q_lt_F h2]; rfl
theorem q_202F {s : q_S} {v lo hi : Int32} (h : v.toInt < lo.toInt ∨ hi.toInt < v.toInt) : dz_M201 s v lo hi = false := by
  unfold dz_M201
  cases h1 : decide (v < lo) with
  | true => rfl
  | false =>
    have := q_ltF h1
    rw [q_lt_T (show hi.toInt < v.toInt by omega)]; rfl
theorem q_nat_and2p (a n : Nat) : a &&& 2 ^ n = a / 2 ^ n % 2 * 2 ^ n := by
  have hb := Nat.testBit_eq_decide_div_mod_eq (x := a) (i := n)
  apply Nat.eq_of_testBit_eq
  intro i
  rw [Nat.testBit_and, Nat.testBit_two_pow]
  rcases Nat.mod_two_eq_zero_or_one (a / 2 ^ n) with q | q
  · rw [q, Nat.zero_mul, Nat.zero_testBit]
    by_cases e : n = i
    · subst e; rw [hb, q]; simp
    · simp [e]
  · rw [q, Nat.one_mul, Nat.testBit_two_pow]
    by_cases e : n = i
    · subst e; rw [hb, q]; simp
    · simp [e]
theorem q_and2p {a : Int32} {l u : Int} (n : Nat) (hn : n < 31) (h : q_rgz l u a) (h0 : 0 ≤ l) {k : Int32} (hk : k.toInt = 2 ^ n) : (a &&& k).toInt = a.toInt / 2 ^ n % 2 * 2 ^ n := by
  obtain ⟨p1, p2⟩ := q_nn h h0
  have pos : (0 : Int) < 2 ^ n := Int.pow_pos (by decide)
  have kk := q_nn (x := k) (l := 0) (u := 2 ^ n) ⟨by rw [hk]; omega, by rw [hk]; omega⟩ (by decide)
  have hp : (2 : Int) ^ n = ((2 ^ n : Nat) : Int) := by push_cast; rfl
  have kn : k.toBitVec.toNat = 2 ^ n := by have := kk.1; omega
  have e : (a &&& k).toBitVec = a.toBitVec &&& k.toBitVec := rfl
  have mm : (a.toBitVec &&& k.toBitVec).msb = false := by rw [BitVec.msb_and, p2]; rfl
  have e1 : (a &&& k).toInt = ((a.toBitVec.toNat / 2 ^ n % 2 * 2 ^ n : Nat) : Int) := by
    show ((a &&& k).toBitVec).toInt = _
    rw [e, BitVec.toInt_eq_toNat_of_msb mm, BitVec.toNat_and, kn, q_nat_and2p]
  rw [e1, p1, hp]
  push_cast
  rfl
theorem q_has {s : q_S} {a k : Int32} {l u : Int} (n : Nat) (h : q_rgz l u a) (h0 : 0 ≤ l) (hk : k.toInt = (n : Int)) (hn : n < 32) : dz_M205 s a k = decide (a.toInt / 2 ^ n % 2 = 1) := by
  unfold dz_M205
  have pos : (0 : Int) < 2 ^ n := Int.pow_pos (by decide)
  have e := q_shrI (a := a) (b := k &&& 31) n (q_sh31 hk hn) hn
  have g : 0 ≤ a.toInt / 2 ^ n := Int.ediv_nonneg (Int.le_trans h0 h.1) (Int.le_of_lt pos)
  have e2 : ((a >>> (k &&& 31)) &&& 1).toInt = a.toInt / 2 ^ n % 2 := by
    rw [q_andI 1 (by decide) (l := 0) (u := a.toInt / 2 ^ n) ⟨by rw [e]; exact g, by rw [e]; exact Int.le_refl _⟩ (by decide) (show (1 : Int32).toInt = 2 ^ 1 - 1 from rfl), e]
    rfl
  by_cases q : a.toInt / 2 ^ n % 2 = 1
  · rw [q_eq_T (show ((a >>> (k &&& 31)) &&& 1).toInt = (1 : Int32).toInt by rw [e2, q]; rfl), decide_eq_true q]; rfl
  · rw [q_eq_F (show ¬ ((a >>> (k &&& 31)) &&& 1).toInt = (1 : Int32).toInt by rw [e2]; exact q), decide_eq_false q]; rfl
theorem q_lineX (h : q_R TT x m) (hI : q_Iv c d w m) : ((((x.2.2 1 8) - (x.2.2 1 8) / 960 * 960).toInt32) / 24) = dz_M206_64 m := by
  apply Int32.toInt_inj.mp
  rw [q_line hI, h.r8.2]
  have e := q_cyc hI 960 (n := 960) rfl (by decide) (by decide)
  have e1 := (hI.2.2 0 15 rfl).1
  rw [q_toInt_div (by rw [e]; omega) (by decide), e]
  show (m.2.2 0 15).toInt % 960 / 24 = _
  omega
theorem q_colX (h : q_R TT x m) : dz_N87_65 x = ((m.2.2 0 15) - (m.2.2 0 15) / 24 * 24).toInt32 := by
  unfold dz_N87_65
  rw [h.r8.2]
/-- what is seen of the keys -/
theorem q_seen (h : q_R TT x m) (hI : q_Iv c d w m) (r : Int32) (hr : q_rgz 0 255 r) : ∃ m2, dz_M207_64 m r = some (m2, x.1 12 (r &&& 15).toNatClampNeg) ∧ q_eq33 m m2 := by
  obtain ⟨-, c2, c3⟩ := h.r5
  have hk : ∀ i, i < 16 → m.1 7 i = q_b (decide (m.1 7 i = 1)) := fun i _ => by
    have g : q_rgz 0 1 (m.1 7 i) := hI.1 7 i
    have g0 := g.1
    have g1 := g.2
    rcases (by omega : (m.1 7 i).toInt = 0 ∨ (m.1 7 i).toInt = 1) with e | e
    · rw [show m.1 7 i = 0 from Int32.toInt_inj.mp e]; rfl
    · rw [show m.1 7 i = 1 from Int32.toInt_inj.mp e]; rfl
  have rr : q_rgz 0 15 (r &&& 15) := q_rg_and _ 15 (by decide) rfl
  exact q_kzM m (fun i => decide (m.1 7 i = 1)) hk (x.1 11) c2 r hr.1 hr.2 _ (c3 (r &&& 15) rr)
theorem q_rr (h : q_R TT x m) (hI : q_Iv c d w m) (r : Int32) (hr : q_rgz 0 47 r) : ∃ m2, dz_M209_64 m r = some (m2, dz_N91_65 x r (x.1 4 r.toNatClampNeg)) ∧ q_eq33 m m2 := by
  obtain ⟨p0, p1⟩ := hr
  have rn : r.toNatClampNeg = r.toInt.toNat := rfl
  by_cases k9 : r.toInt = 9
  · have e : r = 9 := Int32.toInt_inj.mp k9
    subst e
    refine ⟨m, ?_, q_eq33_refl m⟩
    show some (m, dz_M206_64 m) = some (m, (((x.2.2 1 8) - (x.2.2 1 8) / 960 * 960).toInt32) / 24)
    rw [q_lineX h hI]
  by_cases k10 : r.toInt = 10
  · have e : r = 10 := Int32.toInt_inj.mp k10
    subst e
    refine ⟨m, ?_, q_eq33_refl m⟩
    show some (m, m.1 14 9) = some (m, x.1 4 10)
    rw [h.r2.2.1]
  have rd (a : Int32) (ha : q_rgz 0 65535 a) : (a - a / 256 * 256) = a &&& 255 ∧ (a / 256 - a / 256 / 256 * 256) = a >>> ((8 &&& 31 : Int32)) := by
    have a0 := ha.1
    have a1 := ha.2
    have d1 : (a / 256).toInt = a.toInt / 256 := q_toInt_div a0 (by decide)
    constructor
    · apply Int32.toInt_inj.mp
      rw [q_rem_eq a0 (by decide), q_andI 8 (by decide) ha (by decide) (show (255 : Int32).toInt = 2 ^ 8 - 1 from rfl)]
      rfl
    · apply Int32.toInt_inj.mp
      rw [q_rem_eq (by rw [d1]; omega) (by decide), d1, q_shrI 8 (show ((8 &&& 31 : Int32)).toInt = ((8 : Nat) : Int) from rfl) (by decide)]
      show a.toInt / 256 % 256 = a.toInt / 256
      omega
  by_cases k12 : r.toInt = 12
  · have e : r = 12 := Int32.toInt_inj.mp k12
    subst e
    refine ⟨m, ?_, q_eq33_refl m⟩
    show some (m, (m.1 14 5) - (m.1 14 5) / 256 * 256) = some (m, (x.1 7 0) &&& 255)
    rw [h.r3.2.2.2.1, (rd _ (hI.1 14 5)).1]
  by_cases k13 : r.toInt = 13
  · have e : r = 13 := Int32.toInt_inj.mp k13
    subst e
    refine ⟨m, ?_, q_eq33_refl m⟩
    show some (m, (m.1 14 5) / 256 - (m.1 14 5) / 256 / 256 * 256) = some (m, (x.1 7 0) >>> ((8 &&& 31 : Int32)))
    rw [h.r3.2.2.2.1, (rd _ (hI.1 14 5)).2]
  by_cases k14 : r.toInt = 14
  · have e : r = 14 := Int32.toInt_inj.mp k14
    subst e
    refine ⟨m, ?_, q_eq33_refl m⟩
    show some (m, (m.1 14 6) - (m.1 14 6) / 256 * 256) = some (m, (x.1 7 1) &&& 255)
    rw [h.r3.2.2.2.2, (rd _ (hI.1 14 6)).1]
  by_cases k15 : r.toInt = 15
  · have e : r = 15 := Int32.toInt_inj.mp k15
    subst e
    refine ⟨m, ?_, q_eq33_refl m⟩
    show some (m, (m.1 14 6) / 256 - (m.1 14 6) / 256 / 256 * 256) = some (m, (x.1 7 1) >>> ((8 &&& 31 : Int32)))
    rw [h.r3.2.2.2.2, (rd _ (hI.1 14 6)).2]
  by_cases k29 : r.toInt = 29
  · have e : r = 29 := Int32.toInt_inj.mp k29
    subst e
    refine ⟨m, ?_, q_eq33_refl m⟩
    show some (m, m.1 14 10) = some (m, x.1 4 29)
    rw [h.r2.2.2.1]
  by_cases k30 : r.toInt = 30
  · have e : r = 30 := Int32.toInt_inj.mp k30
    subst e
    refine ⟨m, ?_, q_eq33_refl m⟩
    show some (m, m.1 14 11) = some (m, x.1 4 30)
    rw [h.r2.2.2.2]
  by_cases k31 : r.toInt = 31
  · have e : r = 31 := Int32.toInt_inj.mp k31
    subst e
    obtain ⟨m2, e2, q2⟩ := q_seen h hI (m.1 4 31) (hI.1 4 31)
    refine ⟨m2, ?_, q2⟩
    show ((dz_M207_64 m (m.1 4 31)).bind fun r422 => some (r422.1, (r422.2 + (16 * ((r422.1.1 14) 12))))) = some (m2, (x.1 12 ((x.1 4 31) &&& 15).toNatClampNeg) + (16 * (x.2.1 10 2)))
    rw [e2, h.g 31, h.r5.1, ← q2.1 14 rfl]
    rfl
  have nT : ∀ n : Int32, ¬ r.toInt = n.toInt → decide (r = n) = false := fun n hn => q_eq_F hn
  have e202 : dz_M201 m r 12 15 = false := q_202F (by
    have z : (12 : Int32).toInt = 12 := rfl
    have z2 : (15 : Int32).toInt = 15 := rfl
    omega)
  by_cases k44 : r.toInt = 44
  · have e : r = 44 := Int32.toInt_inj.mp k44
    subst e
    refine ⟨m, ?_, q_eq33_refl m⟩
    show q_let (dz_M208_64 m) (fun r423 => cond r423 (some (m, ((((m.1 4) 44) + (2 * ((m.1 14) 16))) + 4))) (some (m, ((((m.1 4) 44) + (2 * ((m.1 14) 16))) + 0)))) = some (m, cond (decide (x.2.1 8 2 < x.2.1 8 1)) ((((x.1 4 44) + (2 * (x.2.1 8 4))) + 4)) ((((x.1 4 44) + (2 * (x.2.1 8 4))) + 0)))
    rw [h.g 44, h.r4.2.1, h.r4.2.2.1, h.r4.2.2.2.1]
    unfold dz_M208_64 q_let
    cases decide (m.1 14 14 < m.1 14 13) <;> rfl
  refine ⟨m, ?_, q_eq33_refl m⟩
  unfold dz_M209_64 dz_N91_65
  rw [nT 9 k9, nT 10 k10, nT 12 k12, nT 13 k13, nT 14 k14, nT 15 k15, nT 31 k31, nT 44 k44, nT 29 k29, nT 30 k30, e202]
  have z44 : (44 : Int32).toInt = 44 := rfl
  by_cases g : 44 < r.toInt
  · rw [q_lt_T (show (44 : Int32).toInt < r.toInt by omega)]
    show some (m, (0 : Int32)) = some (m, x.1 4 r.toNatClampNeg)
    rw [h.r2.1.2 r.toNatClampNeg (by omega) (by omega)]
  · rw [q_lt_F (show r.toInt ≤ (44 : Int32).toInt by omega), q_in_rg (n := 48) (l := 0) (u := 47) ⟨p0, p1⟩ (by decide) (by decide)]
    show some (m, m.1 4 r.toNatClampNeg) = some (m, x.1 4 r.toNatClampNeg)
    have pl : q_pl r.toNatClampNeg = true := by
      have hb : ∀ n : Nat, ¬ r.toInt = (n : Int) → Nat.beq r.toNatClampNeg n = false := fun n hn => by
        cases e9 : Nat.beq r.toNatClampNeg n with
        | false => rfl
        | true => have := Nat.eq_of_beq_eq_true e9; omega
      unfold q_pl
      rw [hb 10 k10, hb 12 k12, hb 13 k13, hb 14 k14, hb 15 k15, hb 29 k29, hb 30 k30]
      rfl
    rw [h.r2.1.1 r.toNatClampNeg (by omega) pl]
/-- the class reads as the model does -/
theorem q_rdz (h : q_R TT x m) (hI : q_Iv c d w m) (a : Int32) (ha : q_rgz 0 4095 a) : ∃ v m2, dz_N90_65 x a = some v ∧ dz_M213_64 m a = some (m2, v) ∧ q_eq33 m m2 ∧ q_R TT x m2 ∧ q_Iv c d w m2 ∧ q_rgz 0 255 v := by
  obtain ⟨⟨m3, v3⟩, e3, i3, r3⟩ := dzj_M213_64 c d w m hI a ha
  suffices H : ∃ m2 v, dz_N90_65 x a = some v ∧ dz_M213_64 m a = some (m2, v) ∧ q_eq33 m m2 by
    obtain ⟨m2, v, g1, g2, g3⟩ := H
    rw [e3] at g2
    cases g2
    exact ⟨v3, m3, g1, e3, g3, q_R_33 h g3, i3, r3⟩
  have p0 := ha.1
  have p1 := ha.2
  have z0 : (0 : Int32).toInt = 0 := rfl
  have n1 : (1 : Int32).toInt = 1 := rfl
  have z48 : (48 : Int32).toInt = 48 := rfl
  have e1 : (a - 3840).toInt = a.toInt - 3840 := q_subI (q_rg_le ha (by decide) (by decide)) ⟨by decide, by decide⟩
  have z1 : (3840 : Int32).toInt = 3840 := rfl
  have z2 : (3887 : Int32).toInt = 3887 := rfl
  have z3 : (3072 : Int32).toInt = 3072 := rfl
  have z4 : (3583 : Int32).toInt = 3583 := rfl
  have z5 : (3584 : Int32).toInt = 3584 := rfl
  have z6 : (2048 : Int32).toInt = 2048 := rfl
  have z7 : (2559 : Int32).toInt = 2559 := rfl
  have z8 : (2560 : Int32).toInt = 2560 := rfl
  by_cases k : 3840 ≤ a.toInt ∧ a.toInt ≤ 3887
  · have r := q_rr h hI (a - 3840) ⟨by omega, by omega⟩
    obtain ⟨m2, e2, q2⟩ := r
    refine ⟨m2, dz_N91_65 x (a - 3840) (x.1 4 (a - 3840).toNatClampNeg), ?_, ?_, q2⟩
    · unfold dz_N90_65
      rw [q_lt_F (show (0 : Int32).toInt ≤ (a - 3840).toInt by omega), q_lt_T (show (a - 3840).toInt < (48 : Int32).toInt by omega)]
      rfl
    · unfold dz_M213_64
      rw [q_202T (by omega) (by omega)]
      show ((dz_M209_64 m (a - 3840)).bind fun r434 => some (r434.1, r434.2)) = _
      rw [e2]; rfl
  -- no register
  have nX : dz_N90_65 x a = dz_N90_65_31 x a := by
    unfold dz_N90_65
    by_cases g : (a - 3840).toInt < 0
    · rw [q_lt_T (show (a - 3840).toInt < (0 : Int32).toInt by omega)]; rfl
    · rw [q_lt_F (show (0 : Int32).toInt ≤ (a - 3840).toInt by omega), q_lt_F (show (48 : Int32).toInt ≤ (a - 3840).toInt by omega)]; rfl
  have nM : dz_M213_64 m a = cond (dz_M201 m a 3072 3583) (cond (dz_M205 m (m.1 4 0) 0) (cond (q_in (a - 3072) 512) (some (m, ((m.1 2) ((a - 3072).toNatClampNeg)))) none) (dz_M213_64_60 m a)) (dz_M213_64_60 m a) := by
    unfold dz_M213_64
    rw [q_202F (by omega)]; rfl
  rw [nX, nM]
  have g0 : x.1 4 0 = m.1 4 0 := h.g 0
  have b0 : q_rgz 0 15 (m.1 4 0) := hI.1 4 0
  have b00 := b0.1
  have b01 := b0.2
  have am : a &&& 4095 = a := by
    apply Int32.toInt_inj.mp
    rw [q_andI 12 (by decide) ha (by decide) (show (4095 : Int32).toInt = 2 ^ 12 - 1 from rfl)]
    show a.toInt % 4096 = _
    omega
  have an : a.toNatClampNeg = a.toInt.toNat := rfl
  have ramE : x.1 3 a.toNatClampNeg = m.1 1 a.toNatClampNeg := h.r1.1 _ (by omega)
  have inR : q_in a 4096 = true := q_in_rg ha (by decide) (by decide)
  -- behind the ROM
  have tail : ∃ m2 v, dz_N90_65_73 x a (x.1 4 0) = some v ∧ dz_M213_64_60 m a = some (m2, v) ∧ q_eq33 m m2 := by
    have e7 : ((x.1 4 0) &&& 2).toInt = (m.1 4 0).toInt / 2 % 2 * 2 := by rw [g0]; exact q_and2p 1 (by decide) b0 (by decide) rfl
    have hh : dz_M205 m (m.1 4 0) 1 = decide ((m.1 4 0).toInt / 2 % 2 = 1) := q_has 1 b0 (by decide) rfl (by decide)
    unfold dz_N90_65_73 dz_M213_64_60
    rw [am]
    by_cases kc : 2048 ≤ a.toInt ∧ a.toInt ≤ 2559
    · rw [q_202T (by omega) (by omega), q_lt_F (show (2048 : Int32).toInt ≤ a.toInt by omega), q_lt_T (show a.toInt < (2560 : Int32).toInt by omega)]
      by_cases kb : (m.1 4 0).toInt / 2 % 2 = 1
      · rw [q_eq_T (show ((x.1 4 0) &&& 2).toInt = (2 : Int32).toInt by rw [e7, kb]; rfl)]
        have s1 : ((x.1 4 0) >>> ((2 &&& 31 : Int32))).toInt = (m.1 4 0).toInt / 4 := by rw [g0]; exact q_shrI 2 rfl (by decide)
        have s2 : (((x.1 4 0) >>> ((2 &&& 31 : Int32))) &&& 3) = m.1 4 0 / 4 := by
          apply Int32.toInt_inj.mp
          rw [q_andI 2 (by decide) (l := 0) (u := 3) ⟨by rw [s1]; omega, by rw [s1]; omega⟩ (by decide) (show (3 : Int32).toInt = 2 ^ 2 - 1 from rfl), s1, q_toInt_div b00 (by decide)]
          show (m.1 4 0).toInt / 4 % 4 = (m.1 4 0).toInt / 4
          omega
        rw [s2]
        have d4 : q_rgz 0 3 (m.1 4 0 / 4) := q_rg_div (c := 4) (U := 3) b0 (by decide) rfl (by decide) (by decide)
        have i1 : (512 * (m.1 4 0 / 4)).toInt = 512 * (m.1 4 0 / 4).toInt := q_mulI (n := 512) rfl (by decide) (by decide) (q_rg_le d4 (by decide) (by decide))
        have d40 := d4.1
        have d41 := d4.2
        have i2 : ((512 * (m.1 4 0 / 4)) + a).toInt = 512 * (m.1 4 0 / 4).toInt + a.toInt := by
          rw [q_addI ⟨by rw [i1]; omega, by rw [i1]; omega⟩ (q_rg_le ha (by decide) (by decide)), i1]
        have i3 : (((512 * (m.1 4 0 / 4)) + a) - 2048).toInt = 512 * (m.1 4 0 / 4).toInt + a.toInt - 2048 := by
          rw [q_subI ⟨by rw [i2]; omega, by rw [i2]; omega⟩ ⟨by decide, by decide⟩, i2]; rfl
        have rI : q_rgz 0 2047 (((512 * (m.1 4 0 / 4)) + a) - 2048) := ⟨by rw [i3]; omega, by rw [i3]; omega⟩
        rw [q_in_rg rI (by decide) (by decide), hh, decide_eq_true kb]
        have ne : (((512 * (m.1 4 0 / 4)) + a) - 2048).toNatClampNeg = (((512 * (m.1 4 0 / 4)) + a) - 2048).toInt.toNat := rfl
        refine ⟨m, _, rfl, ?_, q_eq33_refl m⟩
        show some (m, m.1 3 _) = some (m, x.1 6 _)
        rw [h.r1.2.2 _ (by omega)]
      · rw [q_eq_F (show ¬ ((x.1 4 0) &&& 2).toInt = (2 : Int32).toInt by rw [e7]; intro z; have z9 : (2 : Int32).toInt = 2 := rfl; omega), hh, decide_eq_false kb, inR]
        refine ⟨m, _, rfl, ?_, q_eq33_refl m⟩
        show some (m, m.1 1 _) = some (m, x.1 3 _)
        rw [ramE]
    · rw [q_202F (by omega), inR]
      refine ⟨m, m.1 1 a.toNatClampNeg, ?_, rfl, q_eq33_refl m⟩
      rw [ramE]
      cases decide ((x.1 4 0) &&& 2 = 2) with
      | false => rfl
      | true =>
        by_cases g : a.toInt < 2048
        · rw [q_lt_T (show a.toInt < (2048 : Int32).toInt by omega)]; rfl
        · rw [q_lt_F (show (2048 : Int32).toInt ≤ a.toInt by omega), q_lt_F (show (2560 : Int32).toInt ≤ a.toInt by omega)]; rfl
  have e6 : ((x.1 4 0) &&& 1).toInt = (m.1 4 0).toInt / 1 % 2 * 1 := by rw [g0]; exact q_and2p 0 (by decide) b0 (by decide) rfl
  have hh : dz_M205 m (m.1 4 0) 0 = decide ((m.1 4 0).toInt / 1 % 2 = 1) := q_has 0 b0 (by decide) rfl (by decide)
  unfold dz_N90_65_31
  by_cases kr : 3072 ≤ a.toInt ∧ a.toInt ≤ 3583
  · rw [q_202T (by omega) (by omega), q_lt_F (show (3072 : Int32).toInt ≤ a.toInt by omega), q_lt_T (show a.toInt < (3584 : Int32).toInt by omega), hh]
    by_cases kb : (m.1 4 0).toInt / 1 % 2 = 1
    · have ea : (a - 3072).toInt = a.toInt - 3072 := q_subI (q_rg_le ha (by decide) (by decide)) ⟨by decide, by decide⟩
      have en : (a - 3072).toNatClampNeg = (a - 3072).toInt.toNat := rfl
      rw [q_eq_T (show ((x.1 4 0) &&& 1).toInt = (1 : Int32).toInt by rw [e6, kb]; rfl), decide_eq_true kb, q_in_rg (n := 512) (l := 0) (u := 511) ⟨by omega, by omega⟩ (by decide) (by decide)]
      refine ⟨m, _, rfl, ?_, q_eq33_refl m⟩
      show some (m, m.1 2 _) = some (m, x.1 5 _)
      rw [h.r1.2.1 _ (by omega)]
    · rw [q_eq_F (show ¬ ((x.1 4 0) &&& 1).toInt = (1 : Int32).toInt by rw [e6]; omega), decide_eq_false kb]
      exact tail
  · rw [q_202F (by omega)]
    have nT : (cond (decide ((x.1 4 0) &&& 1 = 1)) (cond (decide (a < 3072)) (dz_N90_65_73 x a (x.1 4 0)) (cond (decide (a < 3584)) (some ((x.1 5) ((a - 3072).toNatClampNeg))) (dz_N90_65_73 x a (x.1 4 0)))) (dz_N90_65_73 x a (x.1 4 0))) = dz_N90_65_73 x a (x.1 4 0) := by
      cases decide ((x.1 4 0) &&& 1 = 1) with
      | false => rfl
      | true =>
        by_cases g : a.toInt < 3072
        · rw [q_lt_T (show a.toInt < (3072 : Int32).toInt by omega)]; rfl
        · rw [q_lt_F (show (3072 : Int32).toInt ≤ a.toInt by omega), q_lt_F (show (3584 : Int32).toInt ≤ a.toInt by omega)]; rfl
    rw [nT]
    exact tail
end
end
section
/-! ===== writing ===== -/
/-- y is x but for the two frames that the class keeps -/
def q_NF (x y : q_S) : Prop := (∀ i, (Nat.beq i 15 || (Nat.beq i 16 || (Nat.beq i 17 || (Nat.beq i 20 || (Nat.beq i 21 || Nat.beq i 22))))) = false → y.1 i = x.1 i) ∧ (∀ i, (Nat.beq i 13 || Nat.beq i 18) = false → y.2.1 i = x.2.1 i) ∧ y.2.2 = x.2.2
section
variable {TT : (Nat → Int32) → Int32 → (Nat → Int32) → Int32 → Int64 → Int64 → List Int32 → List (Nat → Int32) → (Nat → Int64) → Prop} {x y z m : q_S} {c d w : Int}
theorem q_NF_refl (x : q_S) : q_NF x x := ⟨fun _ _ => rfl, fun _ _ => rfl, rfl⟩
theorem q_NF.trans (h : q_NF x y) (g : q_NF y z) : q_NF x z := ⟨fun i hi => (g.1 i hi).trans (h.1 i hi), fun i hi => (g.2.1 i hi).trans (h.2.1 i hi), g.2.2.trans h.2.2⟩
theorem q_R_NF (h : q_R TT x m) (e : q_NF x y) : q_R TT y m := by
  obtain ⟨e1, e2, e3⟩ := e
  unfold q_R q_R1 q_R2 q_R3 q_R4 q_R5 q_R6 q_R7 q_R8 at *
  rw [e3]
  simp only [e1 3 rfl, e1 4 rfl, e1 5 rfl, e1 6 rfl, e1 7 rfl, e1 9 rfl, e1 11 rfl, e1 12 rfl, e1 24 rfl, e1 26 rfl, e1 27 rfl, e1 28 rfl, e1 29 rfl, e1 30 rfl, e1 31 rfl, e2 8 rfl, e2 10 rfl, e2 23 rfl]
  exact h
theorem q_uA_ne {T : Type} (A : Nat → Nat → T) {i j : Nat} (f : Nat → T) (h : Nat.beq j i = false) : q_uA A i f j = A j := by
  show cond (Nat.beq j i) f (A j) = A j
  rw [h]; rfl
theorem q_uI_ne {T : Type} (A : Nat → Nat → T) {i j k : Nat} (v : T) (h : Nat.beq j i = false) : q_uI A i k v j = A j := by
  funext n
  show cond (Nat.beq j i) (cond (Nat.beq n k) v (A j n)) (A j n) = A j n
  rw [h]; rfl
theorem q_or6 {a b c d e f : Bool} (h : (a || (b || (c || (d || (e || f))))) = false) : a = false ∧ b = false ∧ c = false ∧ d = false ∧ e = false ∧ f = false := by
  cases a <;> cases b <;> cases c <;> cases d <;> cases e <;> cases f <;> first | exact ⟨rfl, rfl, rfl, rfl, rfl, rfl⟩ | cases h
theorem q_or2 {a b : Bool} (h : (a || b) = false) : a = false ∧ b = false := by
  cases a <;> cases b <;> first | exact ⟨rfl, rfl⟩ | cases h
theorem q_NF_A (i : Nat) (f : Nat → Int32) (hi : (Nat.beq i 15 || (Nat.beq i 16 || (Nat.beq i 17 || (Nat.beq i 20 || (Nat.beq i 21 || Nat.beq i 22))))) = true) : q_NF x (q_sA x i f) := by
  refine ⟨fun j hj => ?_, fun _ _ => rfl, rfl⟩
  show q_uA x.1 i f j = x.1 j
  refine q_uA_ne _ _ ?_
  cases e : Nat.beq j i with
  | false => rfl
  | true => rw [Nat.eq_of_beq_eq_true e, hi] at hj; cases hj
theorem q_NF_I (i k : Nat) (v : Int32) (hi : (Nat.beq i 13 || Nat.beq i 18) = true) : q_NF x (q_sI x i k v) := by
  refine ⟨fun _ _ => rfl, fun j hj => ?_, rfl⟩
  show q_uI x.2.1 i k v j = x.2.1 j
  refine q_uI_ne _ _ ?_
  cases e : Nat.beq j i with
  | false => rfl
  | true => rw [Nat.eq_of_beq_eq_true e, hi] at hj; cases hj
theorem q_kp77 (s : q_S) (a v : Int32) : q_NF s (dz_N128_77 s a v) := by
  unfold dz_N128_77
  cases decide (s.2.1 13 2 < 0) with
  | true => exact q_NF_refl s
  | false =>
    cases decide (s.2.1 13 2 < 3072) with
    | true => exact (q_NF_A 17 _ rfl).trans (q_NF_I 13 2 _ rfl)
    | false => exact q_NF_refl s
theorem q_kp82 (s : q_S) (a v : Int32) : q_NF s (dz_N128_82 s a v) := by
  unfold dz_N128_82
  cases decide (s.2.1 18 2 < 0) with
  | true => exact q_NF_refl s
  | false =>
    cases decide (s.2.1 18 2 < 3072) with
    | true => exact (q_NF_A 22 _ rfl).trans (q_NF_I 18 2 _ rfl)
    | false => exact q_NF_refl s
theorem q_kp (r : q_S) (b : Bool) (a v : Int32) : ∃ y, (cond b (q_let (dz_N128_77 r a v) fun r9 => some r9) (q_let (dz_N128_82 r a v) fun r10 => some r10)) = some y ∧ q_NF r y := by
  cases b with
  | true => exact ⟨_, rfl, q_kp77 r a v⟩
  | false => exact ⟨_, rfl, q_kp82 r a v⟩
theorem q_N95 (x : q_S) (v : Int32) : dz_N95_65 x v = some (cond (decide ((v >>> ((0 + 1 : Int32) &&& 31)) &&& 1 = 1))
    (q_sA (cond (decide ((v >>> ((0 : Int32) &&& 31)) &&& 1 = 1)) (q_sA x 7 (upd (x.1 7) 0 (x.1 4 12 + 256 * x.1 4 13))) x) 7 (upd ((cond (decide ((v >>> ((0 : Int32) &&& 31)) &&& 1 = 1)) (q_sA x 7 (upd (x.1 7) 0 (x.1 4 12 + 256 * x.1 4 13))) x).1 7) 1 (x.1 4 14 + 256 * x.1 4 15)))
    (cond (decide ((v >>> ((0 : Int32) &&& 31)) &&& 1 = 1)) (q_sA x 7 (upd (x.1 7) 0 (x.1 4 12 + 256 * x.1 4 13))) x)) := by
  have s0 : ∀ (m : Nat) (s : q_S), dz_N95_65_2 (m + 1) s v 0 = cond (decide ((v >>> ((0 : Int32) &&& 31)) &&& 1 = 1)) (dz_N95_65_2 m (q_sA s 7 (upd (s.1 7) 0 (s.1 4 12 + 256 * s.1 4 13))) v (0 + 1)) (dz_N95_65_2 m s v (0 + 1)) := fun m s => by
    rw [dzs_N95_65_2]; generalize dz_N95_65_2 m = k; rfl
  have s1 : ∀ (m : Nat) (s : q_S), dz_N95_65_2 (m + 1) s v (0 + 1) = cond (decide ((v >>> ((0 + 1 : Int32) &&& 31)) &&& 1 = 1)) (dz_N95_65_2 m (q_sA s 7 (upd (s.1 7) 1 (s.1 4 14 + 256 * s.1 4 15))) v (0 + 1 + 1)) (dz_N95_65_2 m s v (0 + 1 + 1)) := fun m s => by
    rw [dzs_N95_65_2]; generalize dz_N95_65_2 m = k; rfl
  have s2 : ∀ (m : Nat) (s : q_S), dz_N95_65_2 (m + 1) s v (0 + 1 + 1) = some s := fun m s => by
    rw [dzs_N95_65_2]; generalize dz_N95_65_2 m = k; rfl
  unfold dz_N95_65
  rw [show (5000 : Nat) = 4997 + 1 + 1 + 1 from rfl, s0]
  generalize (4997 : Nat) = n
  cases decide ((v >>> ((0 : Int32) &&& 31)) &&& 1 = 1) with
  | true =>
    rw [cond_true, s1]
    cases decide ((v >>> ((0 + 1 : Int32) &&& 31)) &&& 1 = 1) with
    | true => rw [cond_true, s2]; rfl
    | false => rw [cond_false, s2]; rfl
  | false =>
    rw [cond_false, s1]
    cases decide ((v >>> ((0 + 1 : Int32) &&& 31)) &&& 1 = 1) with
    | true => rw [cond_true, s2]; rfl
    | false => rw [cond_false, s2]; rfl
end
end
section
section
variable {TT : (Nat → Int32) → Int32 → (Nat → Int32) → Int32 → Int64 → Int64 → List Int32 → List (Nat → Int32) → (Nat → Int64) → Prop} {x y z m : q_S} {c d w : Int}
theorem q_upE (f : Nat → Int32) {i j : Nat} (v : Int32) (e : j = i) : upd f i v j = v := if_pos e
theorem q_upN (f : Nat → Int32) {i j : Nat} (v : Int32) (e : ¬ j = i) : upd f i v j = f j := if_neg e
theorem q_pl_ne {k : Nat} (h : q_pl k = true) : ¬ 10 = k ∧ ¬ 12 = k ∧ ¬ 13 = k ∧ ¬ 14 = k ∧ ¬ 15 = k ∧ ¬ 29 = k ∧ ¬ 30 = k := by
  refine ⟨?_, ?_, ?_, ?_, ?_, ?_, ?_⟩ <;> (intro e; subst e; cases h)
/-- a register that both keep alike -/
theorem q_R_reg (h : q_R TT x m) {k : Nat} (hk : k < 45) (hp : q_pl k = true) (v : Int32) (hv1 : k = 1 → q_rgz 0 3 v) : q_R TT (q_sA x 4 (upd (x.1 4) k v)) (q_sA m 4 (upd (m.1 4) k v)) := by
  obtain ⟨n1, n2, n3, n4, n5, n6, n7⟩ := q_pl_ne hp
  obtain ⟨h1, h2, h3, h4, h5, h6, h7, ⟨h8, h9⟩, h10⟩ := h
  obtain ⟨⟨a1, a2⟩, a3, a4, a5⟩ := h2
  obtain ⟨⟨b1, b2, b3, b4⟩, b5, b6, b7⟩ := h3
  refine ⟨h1, ⟨⟨fun j hj hq => ?_, fun j hj hj2 => ?_⟩, ?_, ?_, ?_⟩, ⟨⟨?_, ?_, ?_, ?_⟩, ?_, ?_, b7⟩, h4, h5, h6, h7, ⟨h8, ?_⟩, h10⟩
  · show upd (x.1 4) k v j = upd (m.1 4) k v j
    by_cases e : j = k
    · rw [q_upE _ _ e, q_upE _ _ e]
    · rw [q_upN _ _ e, q_upN _ _ e]; exact a1 j hj hq
  · show upd (x.1 4) k v j = 0
    rw [q_upN _ _ (by omega)]; exact a2 j hj hj2
  · show upd (x.1 4) k v 10 = _; rw [q_upN _ _ n1]; exact a3
  · show upd (x.1 4) k v 29 = _; rw [q_upN _ _ n6]; exact a4
  · show upd (x.1 4) k v 30 = _; rw [q_upN _ _ n7]; exact a5
  · show q_rgz 0 255 (upd (x.1 4) k v 12); rw [q_upN _ _ n2]; exact b1
  · show q_rgz 0 255 (upd (x.1 4) k v 13); rw [q_upN _ _ n3]; exact b2
  · show q_rgz 0 255 (upd (x.1 4) k v 14); rw [q_upN _ _ n4]; exact b3
  · show q_rgz 0 255 (upd (x.1 4) k v 15); rw [q_upN _ _ n5]; exact b4
  · show _ = upd (x.1 4) k v 12 + 256 * upd (x.1 4) k v 13; rw [q_upN _ _ n2, q_upN _ _ n3]; exact b5
  · show _ = upd (x.1 4) k v 14 + 256 * upd (x.1 4) k v 15; rw [q_upN _ _ n4, q_upN _ _ n5]; exact b6
  · show q_rgz 0 3 (upd (x.1 4) k v 1)
    by_cases e : 1 = k
    · rw [q_upE _ _ e]; exact hv1 e.symm
    · rw [q_upN _ _ e]; exact h9
/-- FLAGS, and the two rows of hits: the class' registers 10, 29, 30, the model's numbers 9, 10, 11 -/
theorem q_R_fl (h : q_R TT x m) (v : Int32) : q_R TT (q_sA x 4 (upd (x.1 4) 10 v)) (q_sA m 14 (upd (m.1 14) 9 v)) := by
  obtain ⟨h1, ⟨⟨a1, a2⟩, a3, a4, a5⟩, h3, h4⟩ := h
  refine ⟨h1, ⟨⟨fun j hj hq => ?_, fun j hj hj2 => ?_⟩, rfl, a4, a5⟩, h3, h4⟩
  · show upd (x.1 4) 10 v j = _
    rw [q_upN _ _ (fun e => by subst e; cases hq)]; exact a1 j hj hq
  · show upd (x.1 4) 10 v j = _
    rw [q_upN _ _ (by omega)]; exact a2 j hj hj2
theorem q_R_h1 (h : q_R TT x m) (v : Int32) : q_R TT (q_sA x 4 (upd (x.1 4) 29 v)) (q_sA m 14 (upd (m.1 14) 10 v)) := by
  obtain ⟨h1, ⟨⟨a1, a2⟩, a3, a4, a5⟩, h3, h4⟩ := h
  refine ⟨h1, ⟨⟨fun j hj hq => ?_, fun j hj hj2 => ?_⟩, a3, rfl, a5⟩, h3, h4⟩
  · show upd (x.1 4) 29 v j = _
    rw [q_upN _ _ (fun e => by subst e; cases hq)]; exact a1 j hj hq
  · show upd (x.1 4) 29 v j = _
    rw [q_upN _ _ (by omega)]; exact a2 j hj hj2
theorem q_R_h2 (h : q_R TT x m) (v : Int32) : q_R TT (q_sA x 4 (upd (x.1 4) 30 v)) (q_sA m 14 (upd (m.1 14) 11 v)) := by
  obtain ⟨h1, ⟨⟨a1, a2⟩, a3, a4, a5⟩, h3, h4⟩ := h
  refine ⟨h1, ⟨⟨fun j hj hq => ?_, fun j hj hj2 => ?_⟩, a3, a4, rfl⟩, h3, h4⟩
  · show upd (x.1 4) 30 v j = _
    rw [q_upN _ _ (fun e => by subst e; cases hq)]; exact a1 j hj hq
  · show upd (x.1 4) 30 v j = _
    rw [q_upN _ _ (by omega)]; exact a2 j hj hj2
/-- a latch: registers k and k + 1 of the class, number n of the model -/
theorem q_R_lt (h : q_R TT x m) {k n : Nat} (v u : Int32) (hk : (k = 12 ∧ u = v + 256 * x.1 4 13 ∧ n = 7) ∨ (k = 13 ∧ u = x.1 4 12 + 256 * v ∧ n = 7) ∨ (k = 14 ∧ u = v + 256 * x.1 4 15 ∧ n = 8) ∨ (k = 15 ∧ u = x.1 4 14 + 256 * v ∧ n = 8)) (hv : q_rgz 0 255 v) : q_R TT (q_sA x 4 (upd (x.1 4) k v)) (q_sA m 14 (upd (m.1 14) n u)) := by
  obtain ⟨h1, ⟨⟨a1, a2⟩, a3, a4, a5⟩, ⟨⟨b1, b2, b3, b4⟩, b5, b6, b7⟩, h4⟩ := h
  have g1 : ∀ k, (k = 12 ∨ k = 13 ∨ k = 14 ∨ k = 15) → ∀ j, j < 45 → q_pl j = true → upd (x.1 4) k v j = m.1 4 j := fun k hk j hj hq => by
    obtain ⟨n1, n2, n3, n4, n5, n6, n7⟩ := q_pl_ne hq
    rw [q_upN _ _ (by omega)]; exact a1 j hj hq
  have g2 : ∀ k, (k = 12 ∨ k = 13 ∨ k = 14 ∨ k = 15) → ∀ j, 45 ≤ j → j < 48 → upd (x.1 4) k v j = 0 := fun k hk j hj hj2 => by
    rw [q_upN _ _ (by omega)]; exact a2 j hj hj2
  rcases hk with ⟨e1, e2, e3⟩ | ⟨e1, e2, e3⟩ | ⟨e1, e2, e3⟩ | ⟨e1, e2, e3⟩
  · subst e1; subst e3
    exact ⟨h1, ⟨⟨g1 12 (by omega), g2 12 (by omega)⟩, a3, a4, a5⟩, ⟨⟨hv, b2, b3, b4⟩, e2, b6, b7⟩, h4⟩
  · subst e1; subst e3
    exact ⟨h1, ⟨⟨g1 13 (by omega), g2 13 (by omega)⟩, a3, a4, a5⟩, ⟨⟨b1, hv, b3, b4⟩, e2, b6, b7⟩, h4⟩
  · subst e1; subst e3
    exact ⟨h1, ⟨⟨g1 14 (by omega), g2 14 (by omega)⟩, a3, a4, a5⟩, ⟨⟨b1, b2, hv, b4⟩, b5, e2, b7⟩, h4⟩
  · subst e1; subst e3
    exact ⟨h1, ⟨⟨g1 15 (by omega), g2 15 (by omega)⟩, a3, a4, a5⟩, ⟨⟨b1, b2, b3, hv⟩, b5, e2, b7⟩, h4⟩
/-- a count -/
theorem q_R_ct (h : q_R TT x m) {k : Nat} (hk : k < 2) (v : Int32) : q_R TT (q_sA x 7 (upd (x.1 7) k v)) (q_sA m 14 (upd (m.1 14) (5 + k) v)) := by
  obtain ⟨h1, h2, ⟨b, b5, b6, b7, b8⟩, h4⟩ := h
  rcases (by omega : k = 0 ∨ k = 1) with e | e
  · subst e; exact ⟨h1, h2, ⟨b, b5, b6, rfl, b8⟩, h4⟩
  · subst e; exact ⟨h1, h2, ⟨b, b5, b6, b7, rfl⟩, h4⟩
theorem q_R_ram (h : q_R TT x m) (k : Nat) (v : Int32) : q_R TT (q_sA x 3 (upd (x.1 3) k v)) (q_sA m 1 (upd (m.1 1) k v)) := by
  obtain ⟨⟨a1, a2⟩, h2⟩ := h
  refine ⟨⟨fun j hj => ?_, a2⟩, h2⟩
  show upd (x.1 3) k v j = upd (m.1 1) k v j
  by_cases e : j = k
  · rw [q_upE _ _ e, q_upE _ _ e]
  · rw [q_upN _ _ e, q_upN _ _ e]; exact a1 j hj
/-- what a write leaves as it is -/
def q_XF (x y : q_S) : Prop := (∀ i, (Nat.beq i 13 || Nat.beq i 18) = false → y.2.1 i = x.2.1 i) ∧ y.2.2 = x.2.2
def q_MF (m m2 : q_S) : Prop := m2.1 15 = m.1 15 ∧ m2.2 = m.2 ∧ ∀ k, (Nat.ble 5 k && Nat.ble k 9) = false → m2.1 14 k = m.1 14 k
theorem q_XF_refl (x : q_S) : q_XF x x := ⟨fun _ _ => rfl, rfl⟩
theorem q_MF_refl (m : q_S) : q_MF m m := ⟨rfl, rfl, fun _ _ => rfl⟩
theorem q_XF.trans (h : q_XF x y) (g : q_XF y z) : q_XF x z := ⟨fun i hi => (g.1 i hi).trans (h.1 i hi), g.2.trans h.2⟩
theorem q_MF.trans (h : q_MF x y) (g : q_MF y z) : q_MF x z := ⟨g.1.trans h.1, g.2.1.trans h.2.1, fun k hk => (g.2.2 k hk).trans (h.2.2 k hk)⟩
theorem q_NF.xf (h : q_NF x y) : q_XF x y := h.2
theorem q_eq33.mf (h : q_eq33 x y) : q_MF x y := ⟨h.1 15 rfl, h.2, fun k _ => by rw [h.1 14 rfl]⟩
set_option maxRecDepth 16384 in
theorem q_mk : ∀ n, n < 45 → q_pl n = true → q_o1.getD n 0 = ((1 : Int32) <<< (dz_M210 (fun _ _ => 0, fun _ _ => 0, fun _ _ => 0) (Int32.ofNat n) &&& 31)) - 1 ∧ ¬ q_o1.getD n 0 = 0 := by decide
theorem q_211 (s : q_S) (a : Int32) : dz_M210 s a = dz_M210 (fun _ _ => 0, fun _ _ => 0, fun _ _ => 0) a := rfl
end
end
section
section
variable {TT : (Nat → Int32) → Int32 → (Nat → Int32) → Int32 → Int64 → Int64 → List Int32 → List (Nat → Int32) → (Nat → Int64) → Prop} {x y z m : q_S} {c d w : Int}
theorem q_112r {s : q_S} {a v : Int32} (ha : q_rgz 0 4095 a) (hn : ¬ (3840 ≤ a.toInt ∧ a.toInt ≤ 3887)) (hv : q_rgz 0 255 v) : dz_N112_66 s a v = q_sA s 3 (upd (s.1 3) a.toNatClampNeg v) := by
  have p0 := ha.1
  have p1 := ha.2
  have e1 : (a - 3840).toInt = a.toInt - 3840 := q_subI (q_rg_le ha (by decide) (by decide)) ⟨by decide, by decide⟩
  have am : a &&& 4095 = a := by
    apply Int32.toInt_inj.mp
    rw [q_andI 12 (by decide) ha (by decide) (show (4095 : Int32).toInt = 2 ^ 12 - 1 from rfl)]
    show a.toInt % 4096 = _
    omega
  have vm : v &&& 255 = v := by
    have v0 := hv.1
    have v1 := hv.2
    apply Int32.toInt_inj.mp
    rw [q_andI 8 (by decide) hv (by decide) (show (255 : Int32).toInt = 2 ^ 8 - 1 from rfl)]
    show v.toInt % 256 = _
    omega
  have z0 : (0 : Int32).toInt = 0 := rfl
  have z48 : (48 : Int32).toInt = 48 := rfl
  unfold dz_N112_66
  rw [am, vm]
  by_cases g : a.toInt < 3840
  · rw [q_lt_T (show (a - 3840).toInt < (0 : Int32).toInt by omega)]; rfl
  · rw [q_lt_F (show (0 : Int32).toInt ≤ (a - 3840).toInt by omega), q_lt_F (show (48 : Int32).toInt ≤ (a - 3840).toInt by omega)]; rfl
theorem q_112g {s : q_S} {a v : Int32} {k : Nat} (hk : k < 48) (ha : a.toInt = 3840 + (k : Int)) : dz_N112_66 s a v = cond (decide (q_o1.getD k 0 = 0)) s (q_sA s 4 (upd (s.1 4) k (v &&& q_o1.getD k 0))) ∧ (a - 3840).toInt = (k : Int) ∧ (a - 3840).toNatClampNeg = k := by
  have e1 : (a - 3840).toInt = a.toInt - 3840 := q_subI ⟨by omega, by omega⟩ ⟨by decide, by decide⟩
  have e2 : (a - 3840).toInt = (k : Int) := by omega
  have e3 : (a - 3840).toNatClampNeg = k := by show (a - 3840).toInt.toNat = k; omega
  have z0 : (0 : Int32).toInt = 0 := rfl
  have z48 : (48 : Int32).toInt = 48 := rfl
  refine ⟨?_, e2, e3⟩
  unfold dz_N112_66
  rw [q_lt_F (show (0 : Int32).toInt ≤ (a - 3840).toInt by omega), q_lt_T (show (a - 3840).toInt < (48 : Int32).toInt by omega), e3]
  rfl
theorem q_01 (a : Int32) : a &&& 1 = 0 ∨ a &&& 1 = 1 := by
  have h := q_rg_and a 1 (U := 1) (by decide) rfl
  have h1 := h.1
  have h2 := h.2
  rcases (by omega : (a &&& 1).toInt = 0 ∨ (a &&& 1).toInt = 1) with e | e
  · exact Or.inl (Int32.toInt_inj.mp e)
  · exact Or.inr (Int32.toInt_inj.mp e)
theorem q_bit1 (A B : Int32) : (A &&& (B ^^^ (-1))) &&& 1 = (A &&& 1) &&& ((B &&& 1) ^^^ 1) := by
  apply Int32.toBitVec_inj.mp
  show (A.toBitVec &&& (B.toBitVec ^^^ (-1 : BitVec 32))) &&& 1 = (A.toBitVec &&& 1) &&& ((B.toBitVec &&& 1) ^^^ 1)
  generalize A.toBitVec = A
  generalize B.toBitVec = B
  rw [show (-1 : BitVec 32) = BitVec.allOnes 32 from rfl]
  apply BitVec.eq_of_getLsbD_eq
  intro i hi
  simp only [BitVec.getLsbD_and, BitVec.getLsbD_xor, BitVec.getLsbD_allOnes, hi, decide_true]
  cases A.getLsbD i <;> cases B.getLsbD i <;> cases (1 : BitVec 32).getLsbD i <;> rfl
theorem q_start (s : q_S) (v g n : Int32) (hn : (-1 : Int32) >>> (n &&& 31) = -1) : decide (((v &&& (g ^^^ (-1))) >>> (n &&& 31)) &&& 1 = 1) = (dz_M205 s v n && !dz_M205 s g n) := by
  unfold dz_M205
  rw [Int32.shiftRight_and, Int32.shiftRight_xor, hn, q_bit1]
  rcases q_01 (v >>> (n &&& 31)) with e | e <;> rcases q_01 (g >>> (n &&& 31)) with e2 | e2 <;> rw [e, e2] <;> rfl
theorem q_126 (b v3 : Int32) : ∀ (n : Nat) (s : q_S), decide (b = 16) = false → dz_M211_64_126 (n + 1) s b v3 0 = cond (q_in b 48) (some (q_sA s 4 (upd (s.1 4) (b.toNatClampNeg) v3))) none := fun n s hb => by
  rw [dzs_M211_64_126]
  dsimp only
  rw [hb]; rfl
/-- both start timers alike -/
theorem q_126t (s : q_S) (v3 : Int32) : dz_M211_64_126 5000 s 16 v3 0 = some (
    let s1 := cond (dz_M205 s v3 0 && !dz_M205 s (s.1 4 16) 0) (q_sA s 14 (upd (s.1 14) 5 (s.1 14 7))) s
    let s2 := cond (dz_M205 s v3 (0 + 1) && !dz_M205 s (s.1 4 16) (0 + 1)) (q_sA s1 14 (upd (s1.1 14) 6 (s1.1 14 8))) s1
    q_sA s2 4 (upd (s2.1 4) 16 v3)) := by
  have s0 : ∀ (n : Nat) (s : q_S), dz_M211_64_126 (n + 1) s 16 v3 0 = cond (dz_M205 s v3 0) (cond (dz_M205 s (s.1 4 16) 0) (dz_M211_64_126 n s 16 v3 (0 + 1)) (dz_M211_64_126 n (q_sA s 14 (upd (s.1 14) 5 (s.1 14 7))) 16 v3 (0 + 1))) (dz_M211_64_126 n s 16 v3 (0 + 1)) := fun n s => by
    rw [dzs_M211_64_126]; generalize dz_M211_64_126 n = k; rfl
  have s1 : ∀ (n : Nat) (s : q_S), dz_M211_64_126 (n + 1) s 16 v3 (0 + 1) = cond (dz_M205 s v3 (0 + 1)) (cond (dz_M205 s (s.1 4 16) (0 + 1)) (dz_M211_64_126 n s 16 v3 (0 + 1 + 1)) (dz_M211_64_126 n (q_sA s 14 (upd (s.1 14) 6 (s.1 14 8))) 16 v3 (0 + 1 + 1))) (dz_M211_64_126 n s 16 v3 (0 + 1 + 1)) := fun n s => by
    rw [dzs_M211_64_126]; generalize dz_M211_64_126 n = k; rfl
  have s2 : ∀ (n : Nat) (s : q_S), dz_M211_64_126 (n + 1) s 16 v3 (0 + 1 + 1) = some (q_sA s 4 (upd (s.1 4) 16 v3)) := fun n s => by
    rw [dzs_M211_64_126]; generalize dz_M211_64_126 n = k; rfl
  have hs : ∀ (s t : q_S) (a k : Int32), dz_M205 s a k = dz_M205 t a k := fun _ _ _ _ => rfl
  rw [show (5000 : Nat) = 4997 + 1 + 1 + 1 from rfl, s0]
  generalize (4997 : Nat) = n
  cases h1 : dz_M205 s v3 0 <;> cases h2 : dz_M205 s (s.1 4 16) 0 <;> simp only [cond_true, cond_false, s1, Bool.not_true, Bool.not_false, Bool.and_true, Bool.and_false, Bool.true_and, Bool.false_and]
  all_goals
    cases h3 : dz_M205 s v3 (0 + 1) <;> cases h4 : dz_M205 s (s.1 4 16) (0 + 1) <;> simp only [hs _ s, cond_true, cond_false, s2, h3, h4, Bool.not_true, Bool.not_false, Bool.and_true, Bool.and_false, Bool.true_and, Bool.false_and]
  all_goals
    have e4 : dz_M205 s ((q_sA s 14 (upd (s.1 14) 5 (s.1 14 7))).1 4 16) (0 + 1) = dz_M205 s (s.1 4 16) (0 + 1) := rfl
    rw [e4, h4]; simp only [cond_true, cond_false, s2]
end
end
section
section
variable {TT : (Nat → Int32) → Int32 → (Nat → Int32) → Int32 → Int64 → Int64 → List Int32 → List (Nat → Int32) → (Nat → Int64) → Prop} {x y z m : q_S} {c d w : Int}
theorem q_94 (x : q_S) (a v : Int32) (h1 : decide (a = 3850) = false) (h2 : decide (a = 3856) = false) : ∃ y, dz_N94_65 x a v = some y ∧ q_NF (dz_N112_66 x a v) y := by
  unfold dz_N94_65
  rw [h1, h2]
  exact q_kp (dz_N112_66 x a v) _ a v
theorem q_94a (x : q_S) (v : Int32) : ∃ y, dz_N94_65 x 3850 v = some y ∧ q_NF (q_sA x 4 (upd (x.1 4) 10 ((x.1 4 10) &&& (v ^^^ (-1))))) y := by
  have e : dz_N112_66 (q_sA x 4 (upd (x.1 4) 10 ((x.1 4 10) &&& (v ^^^ (-1))))) 3850 v = q_sA x 4 (upd (x.1 4) 10 ((x.1 4 10) &&& (v ^^^ (-1)))) := by
    obtain ⟨g1, -, -⟩ := q_112g (s := q_sA x 4 (upd (x.1 4) 10 ((x.1 4 10) &&& (v ^^^ (-1))))) (a := 3850) (v := v) (k := 10) (by decide) (by decide)
    rw [g1]; rfl
  have t : dz_N94_65 x 3850 v = (q_let (dz_N112_66 (q_sA x 4 (upd (x.1 4) 10 (((x.1 4) 10) &&& (v ^^^ (-1))))) 3850 v) fun r8 => cond (decide (lg_cmp (((r8.2.2 1 8) / 960) - ((r8.2.2 1 8) / 960) / 2 * 2) 0 = 0)) (q_let (dz_N128_77 r8 3850 v) fun r9 => some r9) (q_let (dz_N128_82 r8 3850 v) fun r10 => some r10)) := rfl
  rw [t, e]
  exact q_kp _ _ 3850 v
theorem q_has7 (s : q_S) (v k9 : Int32) (h : ((7 : Int32) >>> (k9 &&& 31)) &&& 1 = 1) : dz_M205 s (v &&& 7) k9 = dz_M205 s v k9 := by
  unfold dz_M205
  rw [Int32.shiftRight_and, Int32.and_assoc, h]
theorem q_tM (m : q_S) (v : Int32) : dz_M211_64 m 16 v = dz_M211_64_126 5000 m 16 (v &&& (((1 : Int32) <<< (dz_M210 m 16 &&& 31)) - 1)) 0 := by
  unfold dz_M211_64
  simp only [show decide ((44 : Int32) < 16) = false from rfl, show decide ((16 : Int32) = 29) = false from rfl, show decide ((16 : Int32) = 30) = false from rfl, show decide ((16 : Int32) = 10) = false from rfl, show dz_M201 m 16 12 15 = false from rfl, cond_false, q_let]
theorem q_94b (x m : q_S) (v : Int32) (h : q_R TT x m) : ∃ y m2, dz_N94_65 x 3856 v = some y ∧ dz_M211_64 m 16 v = some m2 ∧ q_R TT y m2 ∧ q_XF x y ∧ q_MF m m2 := by
  have hn1 : (-1 : Int32) >>> ((0 : Int32) &&& 31) = -1 := by decide
  have hn2 : (-1 : Int32) >>> ((0 + 1 : Int32) &&& 31) = -1 := by decide
  have e7 : ((1 : Int32) <<< ((3 : Int32) &&& 31)) - 1 = 7 := by decide
  have g16 : x.1 4 16 = m.1 4 16 := h.g 16
  have tX : dz_N94_65 x 3856 v = (dz_N95_65 x (v &&& (((x.1 4) 16) ^^^ (-1)))).bind fun r11 => q_let (dz_N112_66 r11 3856 v) fun r12 => cond (decide (lg_cmp (((r12.2.2 1 8) / 960) - ((r12.2.2 1 8) / 960) / 2 * 2) 0 = 0)) (q_let (dz_N128_77 r12 3856 v) fun r13 => some r13) (q_let (dz_N128_82 r12 3856 v) fun r14 => some r14) := rfl
  rw [q_tM, show dz_M210 m 16 = 3 from rfl, e7, q_126t, tX, q_N95, q_start m v (x.1 4 16) 0 hn1, q_start m v (x.1 4 16) (0 + 1) hn2, g16, q_has7 m v 0 (by decide), q_has7 m v (0 + 1) (by decide)]
  generalize (dz_M205 m v 0 && !dz_M205 m (m.1 4 16) 0) = b0
  generalize (dz_M205 m v (0 + 1) && !dz_M205 m (m.1 4 16) (0 + 1)) = b1
  have s1 : ∃ x1 m1, x1 = cond b0 (q_sA x 7 (upd (x.1 7) 0 (x.1 4 12 + 256 * x.1 4 13))) x ∧ m1 = cond b0 (q_sA m 14 (upd (m.1 14) 5 (m.1 14 7))) m ∧ q_R TT x1 m1 ∧ q_XF x x1 ∧ q_MF m m1 ∧ x1.1 4 = x.1 4 := by
    cases b0 with
    | false => exact ⟨_, _, rfl, rfl, h, q_XF_refl x, q_MF_refl m, rfl⟩
    | true =>
      refine ⟨_, _, rfl, rfl, ?_, ⟨fun _ _ => rfl, rfl⟩, ⟨rfl, rfl, fun j hj => q_upN _ _ (fun e => by subst e; cases hj)⟩, rfl⟩
      rw [cond_true, cond_true, ← h.r3.2.1]
      exact q_R_ct h (k := 0) (by decide) _
  obtain ⟨x1, m1, ex, em, r1, f1, f2, f3⟩ := s1
  have s2 : ∃ x2 m2, x2 = cond b1 (q_sA x1 7 (upd (x1.1 7) 1 (x.1 4 14 + 256 * x.1 4 15))) x1 ∧ m2 = cond b1 (q_sA m1 14 (upd (m1.1 14) 6 (m1.1 14 8))) m1 ∧ q_R TT x2 m2 ∧ q_XF x x2 ∧ q_MF m m2 := by
    cases b1 with
    | false => exact ⟨_, _, rfl, rfl, r1, f1, f2⟩
    | true =>
      refine ⟨_, _, rfl, rfl, ?_, f1.trans ⟨fun _ _ => rfl, rfl⟩, f2.trans ⟨rfl, rfl, fun j hj => q_upN _ _ (fun e => by subst e; cases hj)⟩⟩
      rw [cond_true, cond_true, ← f3, ← r1.r3.2.2.1]
      exact q_R_ct r1 (k := 1) (by decide) _
  obtain ⟨x2, m2, ex2, em2, r2, f4, f5⟩ := s2
  rw [← ex, ← ex2]
  dsimp only
  rw [← em, ← em2]
  obtain ⟨g1, -, -⟩ := q_112g (s := x2) (a := 3856) (v := v) (k := 16) (by decide) (by decide)
  have g2 : dz_N112_66 x2 3856 v = q_sA x2 4 (upd (x2.1 4) 16 (v &&& 7)) := by rw [g1]; rfl
  obtain ⟨y, hy, ny⟩ := q_kp (q_sA x2 4 (upd (x2.1 4) 16 (v &&& 7))) (decide (lg_cmp (((x2.2.2 1 8) / 960) - ((x2.2.2 1 8) / 960) / 2 * 2) 0 = 0)) 3856 v
  refine ⟨y, q_sA m2 4 (upd (m2.1 4) 16 (v &&& 7)), ?_, rfl, q_R_NF (q_R_reg r2 (by decide) rfl _ (fun e => by cases e)) ny, f4.trans (q_XF.trans ⟨fun _ _ => rfl, rfl⟩ ny.xf), f5.trans ⟨rfl, rfl, fun _ _ => rfl⟩⟩
  rw [Option.bind_some, g2]
  exact hy
theorem q_latI {p q v : Int32} (hp : q_rgz 0 255 p) (hq : q_rgz 0 255 q) (hv : q_rgz 0 255 v) : ((p + 256 * q) / 256) * 256 + v = v + 256 * q ∧ ((p + 256 * q) - (p + 256 * q) / 256 * 256) + 256 * v = p + 256 * v := by
  have a1 := hp.1
  have a2 := hp.2
  have b1 := hq.1
  have b2 := hq.2
  have c1 := hv.1
  have c2 := hv.2
  have e1 : (256 * q).toInt = 256 * q.toInt := q_mulI (n := 256) rfl (by decide) (by decide) ⟨by omega, by omega⟩
  have e2 : (p + 256 * q).toInt = p.toInt + 256 * q.toInt := by rw [q_addI ⟨by omega, by omega⟩ ⟨by omega, by omega⟩, e1]
  have e3 : ((p + 256 * q) / 256).toInt = q.toInt := by
    rw [q_toInt_div (by omega) (by decide), e2]
    show (p.toInt + 256 * q.toInt) / 256 = q.toInt
    omega
  have e4 : ((p + 256 * q) / 256) = q := Int32.toInt_inj.mp e3
  have e5 : (p + 256 * q) - (p + 256 * q) / 256 * 256 = p := by
    apply Int32.toInt_inj.mp
    rw [q_rem_eq (by omega) (by decide), e2]
    show (p.toInt + 256 * q.toInt) % 256 = p.toInt
    omega
  constructor
  · rw [e4, Int32.mul_comm q 256, Int32.add_comm]
  · rw [e5]
/-- the class writes as the model does -/
theorem q_wr94 (h : q_R TT x m) (hI : q_Iv c d w m) (a v : Int32) (ha : q_rgz 0 4095 a) (hv : q_rgz 0 255 v) : ∃ y m2, dz_N94_65 x a v = some y ∧ dz_M214_64 m a v = some m2 ∧ q_R TT y m2 ∧ q_Iv c d w m2 ∧ q_XF x y ∧ q_MF m m2 := by
  obtain ⟨m3, e3, i3⟩ := dzj_M214_64 c d w m hI a v ha hv
  suffices H : ∃ y m2, dz_N94_65 x a v = some y ∧ dz_M214_64 m a v = some m2 ∧ q_R TT y m2 ∧ q_XF x y ∧ q_MF m m2 by
    obtain ⟨y, m2, g1, g2, g3, g4, g5⟩ := H
    rw [e3] at g2
    cases g2
    exact ⟨y, m3, g1, e3, g3, i3, g4, g5⟩
  have p0 := ha.1
  have p1 := ha.2
  have z1 : (3840 : Int32).toInt = 3840 := rfl
  have z2 : (3887 : Int32).toInt = 3887 := rfl
  have z3 : (3850 : Int32).toInt = 3850 := rfl
  have z4 : (3856 : Int32).toInt = 3856 := rfl
  by_cases k : 3840 ≤ a.toInt ∧ a.toInt ≤ 3887
  · obtain ⟨k, ka, hk⟩ : ∃ k : Nat, a.toInt = 3840 + (k : Int) ∧ k < 48 := ⟨(a.toInt - 3840).toNat, by omega, by omega⟩
    have eM : dz_M214_64 m a v = (dz_M211_64 m (a - 3840) v).bind fun r442 => some r442 := by
      unfold dz_M214_64
      rw [q_202T (by omega) (by omega)]; rfl
    rw [eM]
    obtain ⟨g1, g2, g3⟩ := q_112g (s := x) (v := v) hk ka
    by_cases k10 : k = 10
    · subst k10
      have ea : a = 3850 := Int32.toInt_inj.mp (by omega)
      subst ea
      obtain ⟨y, hy⟩ := q_94a x v
      refine ⟨y, q_sA m 14 (upd (m.1 14) 9 ((m.1 14 9) &&& (v ^^^ (-1)))), hy.1, rfl, ?_, ?_, ?_⟩
      · refine q_R_NF ?_ hy.2
        rw [h.r2.2.1]
        exact q_R_fl h _
      · exact q_XF.trans ⟨fun _ _ => rfl, rfl⟩ hy.2.xf
      · exact ⟨rfl, rfl, fun j hj => q_upN _ _ (fun e => by subst e; cases hj)⟩
    by_cases k16 : k = 16
    · subst k16
      have ea : a = 3856 := Int32.toInt_inj.mp (by omega)
      subst ea
      obtain ⟨y, m2, t1, t2, t3, t4, t5⟩ := q_94b x m v h
      refine ⟨y, m2, t1, ?_, t3, t4, t5⟩
      show (dz_M211_64 m 16 v).bind _ = _
      rw [t2]; rfl
    by_cases kl : k = 12 ∨ k = 13 ∨ k = 14 ∨ k = 15
    · obtain ⟨⟨b1, b2, b3, b4⟩, b5, b6, b7⟩ := h.r3
      obtain ⟨y, hy, ny⟩ := q_94 x a v (q_eq_F (by omega)) (q_eq_F (by omega))
      have vm : v &&& 255 = v := by
        have v0 := hv.1
        have v1 := hv.2
        apply Int32.toInt_inj.mp
        rw [q_andI 8 (by decide) hv (by decide) (show (255 : Int32).toInt = 2 ^ 8 - 1 from rfl)]
        show v.toInt % 256 = _
        omega
      rw [g1] at ny
      rcases kl with e | e | e | e
      · subst e
        have ea : a = 3852 := Int32.toInt_inj.mp (by rw [ka]; rfl)
        subst ea
        refine ⟨y, q_sA m 14 (upd (m.1 14) 7 (((m.1 14 7) / 256) * 256 + v)), hy, rfl, q_R_NF ?_ ny, q_XF.trans ⟨fun _ _ => rfl, rfl⟩ ny.xf, ⟨rfl, rfl, fun j hj => q_upN _ _ (fun e => by subst e; cases hj)⟩⟩
        show q_R TT (q_sA x 4 (upd (x.1 4) 12 (v &&& 255))) _
        rw [vm]
        exact q_R_lt h _ _ (Or.inl ⟨rfl, by rw [b5]; exact (q_latI b1 b2 hv).1, rfl⟩) hv
      · subst e
        have ea : a = 3853 := Int32.toInt_inj.mp (by rw [ka]; rfl)
        subst ea
        refine ⟨y, q_sA m 14 (upd (m.1 14) 7 ((m.1 14 7) - (m.1 14 7) / 256 * 256 + 256 * v)), hy, rfl, q_R_NF ?_ ny, q_XF.trans ⟨fun _ _ => rfl, rfl⟩ ny.xf, ⟨rfl, rfl, fun j hj => q_upN _ _ (fun e => by subst e; cases hj)⟩⟩
        show q_R TT (q_sA x 4 (upd (x.1 4) 13 (v &&& 255))) _
        rw [vm]
        exact q_R_lt h _ _ (Or.inr (Or.inl ⟨rfl, by rw [b5]; exact (q_latI b1 b2 hv).2, rfl⟩)) hv
      · subst e
        have ea : a = 3854 := Int32.toInt_inj.mp (by rw [ka]; rfl)
        subst ea
        refine ⟨y, q_sA m 14 (upd (m.1 14) 8 (((m.1 14 8) / 256) * 256 + v)), hy, rfl, q_R_NF ?_ ny, q_XF.trans ⟨fun _ _ => rfl, rfl⟩ ny.xf, ⟨rfl, rfl, fun j hj => q_upN _ _ (fun e => by subst e; cases hj)⟩⟩
        show q_R TT (q_sA x 4 (upd (x.1 4) 14 (v &&& 255))) _
        rw [vm]
        exact q_R_lt h _ _ (Or.inr (Or.inr (Or.inl ⟨rfl, by rw [b6]; exact (q_latI b3 b4 hv).1, rfl⟩))) hv
      · subst e
        have ea : a = 3855 := Int32.toInt_inj.mp (by rw [ka]; rfl)
        subst ea
        refine ⟨y, q_sA m 14 (upd (m.1 14) 8 ((m.1 14 8) - (m.1 14 8) / 256 * 256 + 256 * v)), hy, rfl, q_R_NF ?_ ny, q_XF.trans ⟨fun _ _ => rfl, rfl⟩ ny.xf, ⟨rfl, rfl, fun j hj => q_upN _ _ (fun e => by subst e; cases hj)⟩⟩
        show q_R TT (q_sA x 4 (upd (x.1 4) 15 (v &&& 255))) _
        rw [vm]
        exact q_R_lt h _ _ (Or.inr (Or.inr (Or.inr ⟨rfl, by rw [b6]; exact (q_latI b3 b4 hv).2, rfl⟩))) hv
    -- the others
    obtain ⟨y, hy, ny⟩ := q_94 x a v (q_eq_F (by omega)) (q_eq_F (by omega))
    rw [g1] at ny
    have z44 : (44 : Int32).toInt = 44 := rfl
    by_cases kn : 44 < k ∨ k = 29 ∨ k = 30
    · have mz : q_o1.getD k 0 = 0 := by
        have t : ∀ n, n < 48 → (44 < n ∨ n = 29 ∨ n = 30) → q_o1.getD n 0 = 0 := by decide
        exact t k hk kn
      rw [mz] at ny
      refine ⟨y, m, hy, ?_, q_R_NF h ny, ny.xf, q_MF_refl m⟩
      unfold dz_M211_64
      rcases kn with e | e | e
      · rw [q_lt_T (show (44 : Int32).toInt < (a - 3840).toInt by omega)]; rfl
      · rw [q_lt_F (show (a - 3840).toInt ≤ (44 : Int32).toInt by omega), q_eq_T (show (a - 3840).toInt = (29 : Int32).toInt by rw [g2, e]; rfl)]; rfl
      · rw [q_lt_F (show (a - 3840).toInt ≤ (44 : Int32).toInt by omega), q_eq_F (show ¬ (a - 3840).toInt = (29 : Int32).toInt by rw [g2, e]; decide), q_eq_T (show (a - 3840).toInt = (30 : Int32).toInt by rw [g2, e]; rfl)]; rfl
    · have k45 : k < 45 := by omega
      have kp : q_pl k = true := by
        have t : ∀ n, n < 45 → ¬ n = 10 → ¬ (n = 12 ∨ n = 13 ∨ n = 14 ∨ n = 15) → ¬ (44 < n ∨ n = 29 ∨ n = 30) → q_pl n = true := by decide
        exact t k k45 k10 kl kn
      obtain ⟨q1, q2⟩ := q_mk k k45 kp
      have ek : Int32.ofNat k = a - 3840 := by
        apply Int32.toInt_inj.mp
        rw [g2, Int32.toInt_ofNat_of_lt (by omega)]
      rw [decide_eq_false q2] at ny
      refine ⟨y, q_sA m 4 (upd (m.1 4) k (v &&& q_o1.getD k 0)), hy, ?_, q_R_NF (q_R_reg h k45 kp _ (fun e => by subst e; exact q_rg_and v 3 (U := 3) (by decide) rfl)) ny, q_XF.trans ⟨fun _ _ => rfl, rfl⟩ ny.xf, ⟨rfl, rfl, fun _ _ => rfl⟩⟩
      have f29 : ¬ (a - 3840).toInt = (29 : Int32).toInt := by rw [g2]; show ¬ (k : Int) = 29; omega
      have f30 : ¬ (a - 3840).toInt = (30 : Int32).toInt := by rw [g2]; show ¬ (k : Int) = 30; omega
      have f10 : ¬ (a - 3840).toInt = (10 : Int32).toInt := by rw [g2]; show ¬ (k : Int) = 10; omega
      have f16 : ¬ (a - 3840).toInt = (16 : Int32).toInt := by rw [g2]; show ¬ (k : Int) = 16; omega
      have e202 : dz_M201 m (a - 3840) 12 15 = false := q_202F (by
        have z : (12 : Int32).toInt = 12 := rfl
        have z2 : (15 : Int32).toInt = 15 := rfl
        omega)
      unfold dz_M211_64
      rw [q_lt_F (show (a - 3840).toInt ≤ (44 : Int32).toInt by omega), q_eq_F f29, q_eq_F f30]
      show (q_let (dz_M210 m (a - 3840)) fun r427 => cond (decide (a - 3840 = 10)) _ (q_let (dz_M201 m (a - 3840) 12 15) fun r428 => cond r428 _ (dz_M211_64_126 5000 m (a - 3840) (v &&& (((1 : Int32) <<< (r427 &&& 31)) - 1)) 0))).bind (fun r442 => some r442) = _
      rw [q_eq_F f10, e202, q_211]
      show (dz_M211_64_126 5000 m (a - 3840) (v &&& (((1 : Int32) <<< (dz_M210 (fun _ _ => 0, fun _ _ => 0, fun _ _ => 0) (a - 3840) &&& 31)) - 1)) 0).bind (fun r442 => some r442) = _
      rw [← ek, ← q1, ek, show (5000 : Nat) = 4999 + 1 from rfl, q_126 (a - 3840) _ 4999 m (q_eq_F f16), q_in_rg (n := 48) (l := 0) (u := 47) ⟨by omega, by omega⟩ (by decide) (by decide), g3]
      rfl
  · obtain ⟨y, hy, ny⟩ := q_94 x a v (q_eq_F (by omega)) (q_eq_F (by omega))
    rw [q_112r ha k hv] at ny
    refine ⟨y, q_sA m 1 (upd (m.1 1) a.toNatClampNeg v), hy, ?_, q_R_NF (q_R_ram h _ _) ny, q_XF.trans ⟨fun _ _ => rfl, rfl⟩ ny.xf, ⟨rfl, rfl, fun _ _ => rfl⟩⟩
    unfold dz_M214_64
    rw [q_202F (by omega), q_in_rg ha (by decide) (by decide)]; rfl
end
end
section
section
variable {TT : (Nat → Int32) → Int32 → (Nat → Int32) → Int32 → Int64 → Int64 → List Int32 → List (Nat → Int32) → (Nat → Int64) → Prop} {x y z m : q_S} {c d w : Int}
theorem q_cT {s : q_S} {g p k : Int32} {l u : Int} (n : Nat) (hn : n < 31) (hg : q_rgz l u g) (h0 : 0 ≤ l) (hp : p.toInt = 2 ^ n) (hk : k.toInt = (n : Int)) : decide (g &&& p = p) = dz_M205 s g k := by
  rw [q_has n hg h0 hk (by omega)]
  have e := q_and2p n hn hg h0 hp
  have pos : (0 : Int) < 2 ^ n := Int.pow_pos (by decide)
  have m2 := Int.emod_two_eq (g.toInt / 2 ^ n)
  by_cases q : g.toInt / 2 ^ n % 2 = 1
  · rw [decide_eq_true q]; exact q_eq_T (by rw [e, q, hp]; omega)
  · rw [decide_eq_false q]
    have q0 : g.toInt / 2 ^ n % 2 = 0 := by omega
    exact q_eq_F (by rw [e, q0, hp]; omega)
theorem q_c0 {s : q_S} {g p k : Int32} {l u : Int} (n : Nat) (hn : n < 31) (hg : q_rgz l u g) (h0 : 0 ≤ l) (hp : p.toInt = 2 ^ n) (hk : k.toInt = (n : Int)) : decide (g &&& p = 0) = !dz_M205 s g k := by
  rw [q_has n hg h0 hk (by omega)]
  have e := q_and2p n hn hg h0 hp
  have pos : (0 : Int) < 2 ^ n := Int.pow_pos (by decide)
  have m2 := Int.emod_two_eq (g.toInt / 2 ^ n)
  have z : (0 : Int32).toInt = 0 := rfl
  by_cases q : g.toInt / 2 ^ n % 2 = 1
  · rw [decide_eq_true q]; exact q_eq_F (by rw [e, q, z]; omega)
  · rw [decide_eq_false q]
    have q0 : g.toInt / 2 ^ n % 2 = 0 := by omega
    exact q_eq_T (by rw [e, q0, z]; omega)
/-- what a step of the cycle's own work leaves as it is: registers but FLAGS and hits, the processor, the time -/
def q_XCz (x y : q_S) : Prop := (∀ k, (Nat.beq k 10 || (Nat.beq k 29 || Nat.beq k 30)) = false → y.1 4 k = x.1 4 k) ∧ (∀ k, y.2.1 23 k = x.2.1 23 k) ∧ y.2.2 = x.2.2
def q_MC (m m2 : q_S) : Prop := m2.1 4 = m.1 4 ∧ m2.1 15 = m.1 15 ∧ m2.2.2 = m.2.2
theorem q_XC_refl (x : q_S) : q_XCz x x := ⟨fun _ _ => rfl, fun _ => rfl, rfl⟩
theorem q_MC_refl (m : q_S) : q_MC m m := ⟨rfl, rfl, rfl⟩
theorem q_XCz.trans (h : q_XCz x y) (g : q_XCz y z) : q_XCz x z := ⟨fun i hi => (g.1 i hi).trans (h.1 i hi), fun i => (g.2.1 i).trans (h.2.1 i), g.2.2.trans h.2.2⟩
theorem q_MC.trans (h : q_MC x y) (g : q_MC y z) : q_MC x z := ⟨g.1.trans h.1, g.2.1.trans h.2.1, g.2.2.trans h.2.2⟩
theorem q_R_mI (h : q_R TT x m) (v : Int32) : q_R TT x (q_sI m 0 38 v) := h
theorem q_XC_10 (v : Int32) : q_XCz x (q_sA x 4 (upd (x.1 4) 10 v)) := ⟨fun k hk => q_upN _ _ (fun e => by subst e; cases hk), fun _ => rfl, rfl⟩
/-- a timer counts down -/
theorem q_cd0 (h : q_R TT x m) (hI : q_Iv c d w m) : ∃ y m2 b, dz_N105_65 x 0 = some (y, b) ∧ dz_M228_64 m 0 = some (m2, b) ∧ q_R TT y m2 ∧ q_Iv c d w m2 ∧ q_XCz x y ∧ q_MC m m2 := by
  obtain ⟨⟨m3, b3⟩, e3, i3⟩ := dzj_M228_64 c d w m hI 0 ⟨by decide, by decide⟩
  suffices H : ∃ y m2 b, dz_N105_65 x 0 = some (y, b) ∧ dz_M228_64 m 0 = some (m2, b) ∧ q_R TT y m2 ∧ q_XCz x y ∧ q_MC m m2 by
    obtain ⟨y, m2, b, g1, g2, g3, g4, g5⟩ := H
    rw [e3] at g2
    cases g2
    exact ⟨y, m3, b3, g1, e3, g3, i3, g4, g5⟩
  have cnt : x.1 7 0 = m.1 14 5 := h.r3.2.2.2.1
  have tM : dz_M228_64 m 0 = cond (decide (0 < m.1 14 5)) (some (q_sA m 14 (upd (m.1 14) 5 (m.1 14 5 - 1)), false)) (some (q_sA (q_sA m 14 (upd (m.1 14) 5 (m.1 14 7))) 14 (upd (upd (m.1 14) 5 (m.1 14 7)) 9 ((m.1 14 9) ||| 2)), true)) := rfl
  have tX : dz_N105_65 x 0 = cond (decide (0 < x.1 7 0)) (some (q_sA x 7 (upd (x.1 7) 0 (x.1 7 0 - 1)), false)) ((dz_N95_65 x 1).bind fun r99 => some ((q_sA r99 4 (upd (r99.1 4) 10 (((r99.1 4) 10) ||| 2))), true)) := rfl
  rw [tM, tX, cnt]
  cases decide (0 < m.1 14 5) with
  | true =>
    refine ⟨_, _, false, rfl, rfl, ?_, ⟨fun _ _ => rfl, fun _ => rfl, rfl⟩, ⟨rfl, rfl, rfl⟩⟩
    exact q_R_ct h (k := 0) (by decide) _
  | false =>
    rw [q_N95]
    refine ⟨_, _, true, rfl, rfl, ?_, ?_, ⟨rfl, rfl, rfl⟩⟩
    · have r1 := q_R_ct h (k := 0) (by decide) (x.1 4 12 + 256 * x.1 4 13)
      rw [← h.r3.2.1] at r1
      have r2 := q_R_fl r1 ((m.1 14 9) ||| 2)
      show q_R TT (q_sA (q_sA x 7 (upd (x.1 7) 0 (x.1 4 12 + 256 * x.1 4 13))) 4 (upd (x.1 4) 10 ((x.1 4 10) ||| 2))) _
      rw [h.r2.2.1, ← h.r3.2.1]
      exact r2
    · show q_XCz x (q_sA (q_sA x 7 (upd (x.1 7) 0 (x.1 4 12 + 256 * x.1 4 13))) 4 (upd (x.1 4) 10 ((x.1 4 10) ||| 2)))
      exact ⟨fun k hk => q_upN _ _ (fun e => by subst e; cases hk), fun _ => rfl, rfl⟩
theorem q_cd1 (h : q_R TT x m) (hI : q_Iv c d w m) : ∃ y m2 b, dz_N105_65 x 1 = some (y, b) ∧ dz_M228_64 m 1 = some (m2, b) ∧ q_R TT y m2 ∧ q_Iv c d w m2 ∧ q_XCz x y ∧ q_MC m m2 := by
  obtain ⟨⟨m3, b3⟩, e3, i3⟩ := dzj_M228_64 c d w m hI 1 ⟨by decide, by decide⟩
  suffices H : ∃ y m2 b, dz_N105_65 x 1 = some (y, b) ∧ dz_M228_64 m 1 = some (m2, b) ∧ q_R TT y m2 ∧ q_XCz x y ∧ q_MC m m2 by
    obtain ⟨y, m2, b, g1, g2, g3, g4, g5⟩ := H
    rw [e3] at g2
    cases g2
    exact ⟨y, m3, b3, g1, e3, g3, i3, g4, g5⟩
  have cnt : x.1 7 1 = m.1 14 6 := h.r3.2.2.2.2
  have tM : dz_M228_64 m 1 = cond (decide (0 < m.1 14 6)) (some (q_sA m 14 (upd (m.1 14) 6 (m.1 14 6 - 1)), false)) (some (q_sA (q_sA m 14 (upd (m.1 14) 6 (m.1 14 8))) 14 (upd (upd (m.1 14) 6 (m.1 14 8)) 9 ((m.1 14 9) ||| 4)), true)) := rfl
  have tX : dz_N105_65 x 1 = cond (decide (0 < x.1 7 1)) (some (q_sA x 7 (upd (x.1 7) 1 (x.1 7 1 - 1)), false)) ((dz_N95_65 x 2).bind fun r99 => some ((q_sA r99 4 (upd (r99.1 4) 10 (((r99.1 4) 10) ||| 4))), true)) := rfl
  rw [tM, tX, cnt]
  cases decide (0 < m.1 14 6) with
  | true =>
    refine ⟨_, _, false, rfl, rfl, ?_, ⟨fun _ _ => rfl, fun _ => rfl, rfl⟩, ⟨rfl, rfl, rfl⟩⟩
    exact q_R_ct h (k := 1) (by decide) _
  | false =>
    rw [q_N95]
    refine ⟨_, _, true, rfl, rfl, ?_, ?_, ⟨rfl, rfl, rfl⟩⟩
    · have r1 := q_R_ct h (k := 1) (by decide) (x.1 4 14 + 256 * x.1 4 15)
      rw [← h.r3.2.2.1] at r1
      have r2 := q_R_fl r1 ((m.1 14 9) ||| 4)
      show q_R TT (q_sA (q_sA x 7 (upd (x.1 7) 1 (x.1 4 14 + 256 * x.1 4 15))) 4 (upd (x.1 4) 10 ((x.1 4 10) ||| 4))) _
      rw [h.r2.2.1, ← h.r3.2.2.1]
      exact r2
    · show q_XCz x (q_sA (q_sA x 7 (upd (x.1 7) 1 (x.1 4 14 + 256 * x.1 4 15))) 4 (upd (x.1 4) 10 ((x.1 4 10) ||| 4)))
      exact ⟨fun k hk => q_upN _ _ (fun e => by subst e; cases hk), fun _ => rfl, rfl⟩
theorem q_tm2 (h : q_R TT x m) (hI : q_Iv c d w m) (g : Int32) (hg : g = m.1 4 16) (b : Bool) : ∃ y m2, dz_N104_65_26 x g (q_b b) = some y ∧
    (cond b (q_let (dz_M205 m (m.1 4 16) 1) fun r550 => cond r550 ((dz_M228_64 m 1).bind fun r551 => cond r551.2 (some r551.1) (some r551.1)) (some m)) (q_let (dz_M205 m (m.1 4 16) 1) fun r552 => cond r552 (q_let (dz_M205 m (m.1 4 16) 2) fun r553 => cond r553 (some m) ((dz_M228_64 m 1).bind fun r554 => cond r554.2 (some r554.1) (some r554.1))) (some m))) = some m2 ∧ q_R TT y m2 ∧ q_Iv c d w m2 ∧ q_XCz x y ∧ q_MC m m2 := by
  obtain ⟨y, m2, b2, e1, e2, e3, e4, e5, e6⟩ := q_cd1 h hI
  have rg : q_rgz 0 255 (m.1 4 16) := hI.1 4 16
  unfold dz_N104_65_26
  rw [hg, q_cT (s := m) 1 (by decide) rg (by decide) (k := 1) rfl rfl, q_c0 (s := m) 2 (by decide) rg (by decide) (p := 4) (k := 2) rfl rfl, e1, e2]
  unfold q_let
  cases b with
  | true =>
    cases dz_M205 m (m.1 4 16) 1 with
    | false => exact ⟨x, m, rfl, rfl, h, hI, q_XC_refl x, q_MC_refl m⟩
    | true =>
      cases dz_M205 m (m.1 4 16) 2 <;> cases b2 <;> exact ⟨y, m2, rfl, rfl, e3, e4, e5, e6⟩
  | false =>
    cases dz_M205 m (m.1 4 16) 1 with
    | false => exact ⟨x, m, rfl, rfl, h, hI, q_XC_refl x, q_MC_refl m⟩
    | true =>
      cases dz_M205 m (m.1 4 16) 2 with
      | true => exact ⟨x, m, rfl, rfl, h, hI, q_XC_refl x, q_MC_refl m⟩
      | false => cases b2 <;> exact ⟨y, m2, rfl, rfl, e3, e4, e5, e6⟩
theorem q_tim (h : q_R TT x m) (hI : q_Iv c d w m) : ∃ y m2, dz_N104_65 x = some y ∧ dz_M229_64 m = some m2 ∧ q_R TT y m2 ∧ q_Iv c d w m2 ∧ q_XCz x y ∧ q_MC m m2 := by
  have rg : q_rgz 0 255 (m.1 4 16) := hI.1 4 16
  have g16 : x.1 4 16 = m.1 4 16 := h.g 16
  have iI : ∀ (s : q_S) (v : Int32), q_Iv c d w s → q_rgz 0 1 v → q_Iv c d w (q_sI s 0 38 v) := fun s v hs hv => q_Iv_I (i := 0) (m := 38) hs hv
  unfold dz_N104_65 dz_M229_64
  rw [g16, q_cT (s := m) 0 (by decide) rg (by decide) (k := 0) rfl rfl]
  cases dz_M205 m (m.1 4 16) 0 with
  | false =>
    obtain ⟨y, m2, e1, e2, e3, e4, e5, e6⟩ := q_tm2 (m := q_sI m 0 38 0) (h : q_R TT x (q_sI m 0 38 0)) (iI m 0 hI ⟨by decide, by decide⟩) (m.1 4 16) rfl false
    exact ⟨y, m2, e1, e2, e3, e4, e5, e6⟩
  | true =>
    obtain ⟨y1, m1, b1, c1, c2, c3, c4, c5, c6⟩ := q_cd0 h hI
    rw [c1]
    show ∃ y m2, (cond b1 _ _) = some y ∧ ((dz_M228_64 m 0).bind _) = some m2 ∧ _
    rw [c2]
    have g4 : m1.1 4 16 = m.1 4 16 := by rw [c6.1]
    cases b1 with
    | true =>
      obtain ⟨y, m2, e1, e2, e3, e4, e5, e6⟩ := q_tm2 (m := q_sI m1 0 38 1) (c3 : q_R TT y1 (q_sI m1 0 38 1)) (iI m1 1 c4 ⟨by decide, by decide⟩) (m.1 4 16) g4.symm true
      exact ⟨y, m2, e1, e2, e3, e4, c5.trans e5, c6.trans e6⟩
    | false =>
      obtain ⟨y, m2, e1, e2, e3, e4, e5, e6⟩ := q_tm2 (m := q_sI m1 0 38 0) (c3 : q_R TT y1 (q_sI m1 0 38 0)) (iI m1 0 c4 ⟨by decide, by decide⟩) (m.1 4 16) g4.symm false
      exact ⟨y, m2, e1, e2, e3, e4, c5.trans e5, c6.trans e6⟩
end
end
