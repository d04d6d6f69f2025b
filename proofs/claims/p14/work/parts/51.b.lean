/-! ===== ranges of what the model's cells hold ===== -/
def q_rgz (l u : Int) (x : Int32) : Prop := l ≤ x.toInt ∧ x.toInt ≤ u
def q_rgL (l u : Int) (x : Int64) : Prop := l ≤ x.toInt ∧ x.toInt ≤ u
theorem q_rg_full (x : Int32) : q_rgz (-2147483648) 2147483647 x := ⟨Int32.le_toInt x, by have := Int32.toInt_lt x; omega⟩
theorem q_rg_lit {n : Int} {x : Int32} (h : x.toInt = n) : q_rgz n n x := ⟨Int.le_of_eq h.symm, Int.le_of_eq h⟩
theorem q_rg_le {l u L U : Int} {x : Int32} (h : q_rgz l u x) (h1 : L ≤ l) (h2 : u ≤ U) : q_rgz L U x := ⟨Int.le_trans h1 h.1, Int.le_trans h.2 h2⟩
theorem q_rg_no {l u : Int} {x : Int32} (h : q_rgz l u x) (h1 : u < l) : False := absurd (Int.le_trans h.1 h.2) (Int.not_le.mpr h1)
theorem q_rg_add {l u l2 u2 L U : Int} {a b : Int32} (h : q_rgz l u a) (h2 : q_rgz l2 u2 b) (e1 : L = l + l2) (e2 : U = u + u2) (b1 : -2147483648 ≤ L) (b2 : U ≤ 2147483647) : q_rgz L U (a + b) := by
  unfold q_rgz at *
  rw [q_add9 (by omega) (by omega)]
  omega
theorem q_rg_sub {l u l2 u2 L U : Int} {a b : Int32} (h : q_rgz l u a) (h2 : q_rgz l2 u2 b) (e1 : L = l - u2) (e2 : U = u - l2) (b1 : -2147483648 ≤ L) (b2 : U ≤ 2147483647) : q_rgz L U (a - b) := by
  unfold q_rgz at *
  rw [Int32.toInt_sub]
  rw [show Int.bmod (a.toInt - b.toInt) (2 ^ 32) = a.toInt - b.toInt from Int.bmod_eq_of_le (by omega) (by omega)]
  omega
theorem q_rg_mul {l u l2 u2 L U : Int} {a b : Int32} (h : q_rgz l u a) (h2 : q_rgz l2 u2 b) (n1 : 0 ≤ l) (n2 : 0 ≤ l2) (e1 : L = l * l2) (e2 : U = u * u2) (b1 : -2147483648 ≤ L) (b2 : U ≤ 2147483647) : q_rgz L U (a * b) := by
  unfold q_rgz at *
  have m1 : l * l2 ≤ a.toInt * b.toInt := Int.mul_le_mul h.1 h2.1 n2 (by omega)
  have m2 : a.toInt * b.toInt ≤ u * u2 := Int.mul_le_mul h.2 h2.2 (by omega) (by omega)
  rw [Int32.toInt_mul]
  rw [show Int.bmod (a.toInt * b.toInt) (2 ^ 32) = a.toInt * b.toInt from Int.bmod_eq_of_le (by omega) (by omega)]
  omega
theorem q_rg_and (a m : Int32) {U : Int} (hm : ¬ m < 0) (hU : m.toInt = U) : q_rgz 0 U (a &&& m) := by
  have h := q_and_bd a m hm
  exact ⟨h.1, by omega⟩
theorem q_rg_and2 {l u : Int} {a m : Int32} (h : q_rgz l u m) (h0 : 0 ≤ l) : q_rgz 0 u (a &&& m) := by
  unfold q_rgz at *
  have z : (0 : Int32).toInt = 0 := rfl
  have h9 := q_and_bd a m (fun e => by rw [Int32.lt_iff_toInt_lt] at e; omega)
  omega
theorem q_and_comm (a b : Int32) : a &&& b = b &&& a := by
  apply Int32.toBitVec_inj.mp
  show a.toBitVec &&& b.toBitVec = b.toBitVec &&& a.toBitVec
  exact BitVec.and_comm _ _
theorem q_rg_and1 {l u : Int} {a m : Int32} (h : q_rgz l u a) (h0 : 0 ≤ l) : q_rgz 0 u (a &&& m) := by
  rw [q_and_comm]
  exact q_rg_and2 h h0
theorem q_rg_ite {l u : Int} {c : Prop} [Decidable c] {a b : Int32} (h : q_rgz l u a) (h2 : q_rgz l u b) : q_rgz l u (if c then a else b) := by
  split
  · exact h
  · exact h2
/-- an Int32 that is not below 0, as a natural number -/
theorem q_nn {l u : Int} {x : Int32} (h : q_rgz l u x) (h0 : 0 ≤ l) : x.toInt = (x.toBitVec.toNat : Int) ∧ x.toBitVec.msb = false := by
  have h1 : 0 ≤ x.toBitVec.toInt := Int.le_trans h0 h.1
  have h2 : x.toBitVec.msb = false := by
    cases e : x.toBitVec.msb with
    | false => rfl
    | true => exact absurd (BitVec.toInt_neg_of_msb_true e) (by omega)
  exact ⟨BitVec.toInt_eq_toNat_of_msb h2, h2⟩
theorem q_rg_or {l u l2 u2 W : Int} {n : Nat} {a b : Int32} (h : q_rgz l u a) (h2 : q_rgz l2 u2 b) (n1 : 0 ≤ l) (n2 : 0 ≤ l2) (b1 : u ≤ W) (b2 : u2 ≤ W) (e : W + 1 = ((2 ^ n : Nat) : Int)) : q_rgz 0 W (a ||| b) := by
  obtain ⟨p1, p2⟩ := q_nn h n1
  obtain ⟨r1, r2⟩ := q_nn h2 n2
  have m : (a ||| b).toBitVec = a.toBitVec ||| b.toBitVec := rfl
  have mm : (a.toBitVec ||| b.toBitVec).msb = false := by rw [BitVec.msb_or, p2, r2]; rfl
  have e1 : (a ||| b).toInt = ((a.toBitVec.toNat ||| b.toBitVec.toNat : Nat) : Int) := by
    show ((a ||| b).toBitVec).toInt = _
    rw [m, BitVec.toInt_eq_toNat_of_msb mm, BitVec.toNat_or]
  have c : a.toBitVec.toNat ||| b.toBitVec.toNat < 2 ^ n := Nat.or_lt_two_pow (by have := h.2; omega) (by have := h2.2; omega)
  unfold q_rgz
  rw [e1]
  omega
theorem q_rg_xor {l u l2 u2 W : Int} {n : Nat} {a b : Int32} (h : q_rgz l u a) (h2 : q_rgz l2 u2 b) (n1 : 0 ≤ l) (n2 : 0 ≤ l2) (b1 : u ≤ W) (b2 : u2 ≤ W) (e : W + 1 = ((2 ^ n : Nat) : Int)) : q_rgz 0 W (a ^^^ b) := by
  obtain ⟨p1, p2⟩ := q_nn h n1
  obtain ⟨r1, r2⟩ := q_nn h2 n2
  have m : (a ^^^ b).toBitVec = a.toBitVec ^^^ b.toBitVec := rfl
  have mm : (a.toBitVec ^^^ b.toBitVec).msb = false := by rw [BitVec.msb_xor, p2, r2]; rfl
  have e1 : (a ^^^ b).toInt = ((a.toBitVec.toNat ^^^ b.toBitVec.toNat : Nat) : Int) := by
    show ((a ^^^ b).toBitVec).toInt = _
    rw [m, BitVec.toInt_eq_toNat_of_msb mm, BitVec.toNat_xor]
  have c : a.toBitVec.toNat ^^^ b.toBitVec.toNat < 2 ^ n := Nat.xor_lt_two_pow (by have := h.2; omega) (by have := h2.2; omega)
  unfold q_rgz
  rw [e1]
  omega
theorem q_toInt_div {a b : Int32} (ha : 0 ≤ a.toInt) (hb : 0 < b.toInt) : (a / b).toInt = a.toInt / b.toInt := by
  rw [Int32.toInt_div]
  have h9 := Int32.toInt_lt a
  have h1 : a.toInt.tdiv b.toInt = a.toInt / b.toInt := Int.tdiv_eq_ediv_of_nonneg ha
  rw [h1]
  have h2 : 0 ≤ a.toInt / b.toInt := Int.ediv_nonneg ha (Int.le_of_lt hb)
  have h3 : a.toInt / b.toInt ≤ a.toInt := Int.ediv_le_self _ ha
  exact Int.bmod_eq_of_le (by omega) (by omega)
theorem q_rg_div {l u c U : Int} {a b : Int32} (h : q_rgz l u a) (n1 : 0 ≤ l) (hb : b.toInt = c) (hc : 0 < c) (e : U = u / c) : q_rgz 0 U (a / b) := by
  unfold q_rgz at *
  rw [q_toInt_div (by omega) (by omega), hb]
  exact ⟨Int.ediv_nonneg (by omega) (Int.le_of_lt hc), by rw [e]; exact Int.ediv_le_ediv hc h.2⟩
theorem q_rem_eq {a b : Int32} (ha : 0 ≤ a.toInt) (hb : 0 < b.toInt) : (a - a / b * b).toInt = a.toInt % b.toInt := by
  have h9 := Int32.toInt_lt a
  have e0 := Int.mul_ediv_add_emod a.toInt b.toInt
  have e3 : 0 ≤ a.toInt % b.toInt := Int.emod_nonneg _ (by omega)
  have e4 : 0 ≤ a.toInt / b.toInt := Int.ediv_nonneg ha (Int.le_of_lt hb)
  have e5 : 0 ≤ a.toInt / b.toInt * b.toInt := Int.mul_nonneg e4 (Int.le_of_lt hb)
  have e6 : b.toInt * (a.toInt / b.toInt) = a.toInt / b.toInt * b.toInt := Int.mul_comm _ _
  have e1 : (a / b * b).toInt = a.toInt / b.toInt * b.toInt := by
    rw [Int32.toInt_mul, q_toInt_div ha hb]
    exact Int.bmod_eq_of_le (by omega) (by omega)
  rw [Int32.toInt_sub, e1]
  rw [show Int.bmod (a.toInt - a.toInt / b.toInt * b.toInt) (2 ^ 32) = a.toInt - a.toInt / b.toInt * b.toInt from Int.bmod_eq_of_le (by omega) (by omega)]
  omega
theorem q_rg_rem {l u c U : Int} {a b : Int32} (h : q_rgz l u a) (n1 : 0 ≤ l) (hb : b.toInt = c) (hc : 0 < c) (e : U = c - 1) : q_rgz 0 U (a - a / b * b) := by
  unfold q_rgz at *
  rw [q_rem_eq (by omega) (by omega), hb]
  have h1 := Int.emod_nonneg a.toInt (show c ≠ 0 by omega)
  have h2 := Int.emod_lt_of_pos a.toInt hc
  omega
theorem q_rg_rem2 {l u c : Int} {a b : Int32} (h : q_rgz l u a) (n1 : 0 ≤ l) (hb : b.toInt = c) (hc : u < c) : q_rgz l u (a - a / b * b) := by
  unfold q_rgz at *
  rw [q_rem_eq (by omega) (by omega), hb, Int.emod_eq_of_lt (by omega) (by omega)]
  omega
theorem q_sh3 {x : Int32} (h : q_rgz 0 3 x) : q_rgz 1 8 ((1 : Int32) <<< (x &&& 31)) := by
  unfold q_rgz at h
  have e : x.toInt = 0 ∨ x.toInt = 1 ∨ x.toInt = 2 ∨ x.toInt = 3 := by omega
  rcases e with e | e | e | e
  · rw [show x = 0 from Int32.toInt_inj.mp e]; exact ⟨by decide, by decide⟩
  · rw [show x = 1 from Int32.toInt_inj.mp e]; exact ⟨by decide, by decide⟩
  · rw [show x = 2 from Int32.toInt_inj.mp e]; exact ⟨by decide, by decide⟩
  · rw [show x = 3 from Int32.toInt_inj.mp e]; exact ⟨by decide, by decide⟩
theorem q_sh2 {x : Int32} (h : q_rgz 0 1 x) : q_rgz 2 4 ((2 : Int32) <<< (x &&& 31)) := by
  unfold q_rgz at h
  have e : x.toInt = 0 ∨ x.toInt = 1 := by omega
  rcases e with e | e
  · rw [show x = 0 from Int32.toInt_inj.mp e]; exact ⟨by decide, by decide⟩
  · rw [show x = 1 from Int32.toInt_inj.mp e]; exact ⟨by decide, by decide⟩
theorem q_rg_nb (x : Int32) : q_rgz 0 1 (vp_nar .boolean x) := by
  have h : vp_nar .boolean x = x &&& 1 := rfl
  rw [h]
  exact q_rg_and x 1 (by decide) rfl
theorem q_nc_bv (x : Int32) : (vp_nar .char x).toBitVec.toNat = x.toBitVec.toNat % 65536 := by
  show ((x.toBitVec.setWidth 16).setWidth 32).toNat = _
  rw [BitVec.toNat_setWidth, BitVec.toNat_setWidth]
  have := x.toBitVec.isLt
  omega
theorem q_rg_nc (x : Int32) : q_rgz 0 65535 (vp_nar .char x) := by
  have h := q_nc_bv x
  have e : (vp_nar .char x).toInt = ((vp_nar .char x).toBitVec.toNat : Int) := by
    apply BitVec.toInt_eq_toNat_of_lt
    omega
  unfold q_rgz
  rw [e]
  omega
theorem q_rg_ltT1 {l u l2 u2 U : Int} {a b : Int32} (h : decide (a < b) = true) (ha : q_rgz l u a) (hb : q_rgz l2 u2 b) (e : U = u2 - 1) : q_rgz l U a := by
  have h1 := Int32.lt_iff_toInt_lt.mp (of_decide_eq_true h)
  unfold q_rgz at *; omega
theorem q_rg_ltT2 {l u l2 u2 L : Int} {a b : Int32} (h : decide (a < b) = true) (ha : q_rgz l u a) (hb : q_rgz l2 u2 b) (e : L = l + 1) : q_rgz L u2 b := by
  have h1 := Int32.lt_iff_toInt_lt.mp (of_decide_eq_true h)
  unfold q_rgz at *; omega
theorem q_rg_ltF1 {l u l2 u2 : Int} {a b : Int32} (h : decide (a < b) = false) (ha : q_rgz l u a) (hb : q_rgz l2 u2 b) : q_rgz l2 u a := by
  have h1 : ¬ a.toInt < b.toInt := fun z => of_decide_eq_false h (Int32.lt_iff_toInt_lt.mpr z)
  unfold q_rgz at *; omega
theorem q_rg_ltF2 {l u l2 u2 : Int} {a b : Int32} (h : decide (a < b) = false) (ha : q_rgz l u a) (hb : q_rgz l2 u2 b) : q_rgz l2 u b := by
  have h1 : ¬ a.toInt < b.toInt := fun z => of_decide_eq_false h (Int32.lt_iff_toInt_lt.mpr z)
  unfold q_rgz at *; omega
theorem q_rg_eqT {l2 u2 : Int} {a b : Int32} (h : decide (a = b) = true) (hb : q_rgz l2 u2 b) : q_rgz l2 u2 a := by
  rw [of_decide_eq_true h]; exact hb
theorem q_rg_neL {l u n L : Int} {a b : Int32} (h : decide (a = b) = false) (ha : q_rgz l u a) (hb : b.toInt = n) (e : l = n) (e2 : L = l + 1) : q_rgz L u a := by
  have h1 : ¬ a.toInt = b.toInt := fun z => of_decide_eq_false h (Int32.toInt_inj.mp z)
  unfold q_rgz at *; omega
theorem q_rg_neU {l u n U : Int} {a b : Int32} (h : decide (a = b) = false) (ha : q_rgz l u a) (hb : b.toInt = n) (e : u = n) (e2 : U = u - 1) : q_rgz l U a := by
  have h1 : ¬ a.toInt = b.toInt := fun z => of_decide_eq_false h (Int32.toInt_inj.mp z)
  unfold q_rgz at *; omega
theorem q_in_rg {l u : Int} {x : Int32} {n : Nat} (h : q_rgz l u x) (h1 : 0 ≤ l) (h2 : u < (n : Int)) : q_in x n = true := q_in_bd h.1 h.2 h1 h2
theorem q_z1_rg {x : Int32} (h : q_rgz 0 1 x) : q_z1 x = true := by
  unfold q_rgz at h
  have e : x.toInt = 0 ∨ x.toInt = 1 := by omega
  rcases e with e | e
  · rw [show x = 0 from Int32.toInt_inj.mp e]; rfl
  · rw [show x = 1 from Int32.toInt_inj.mp e]; rfl
theorem q_ch_rg {x : Int32} (h : q_rgz 0 65535 x) : decide (vp_nar .char x = x) = true := by
  apply decide_eq_true
  obtain ⟨p1, p2⟩ := q_nn h (by decide)
  apply Int32.toBitVec_inj.mp
  apply BitVec.eq_of_toNat_eq
  rw [q_nc_bv]
  have := h.2
  exact Nat.mod_eq_of_lt (by omega)
/-! the table of ranges: rows, int fields -/
def q_lr (i k : Nat) : Int := cond (Nat.beq i 14) (cond (Nat.beq k 15 || Nat.beq k 17 || Nat.beq k 19 || Nat.ble 21 k) (-2147483648) 0) 0
def q_hn (d : Int) (k : Nat) : Int := cond (Nat.ble k 3) 255 (cond (Nat.beq k 4) 4095 (cond (Nat.ble k 8) 65535 (cond (Nat.ble k 12) 15 (cond (Nat.ble k 14) 40 (cond (Nat.beq k 16) 1 (cond (Nat.beq k 18) 4095 (cond (Nat.beq k 20) d 2147483647)))))))
def q_hg (k : Nat) : Int := cond (Nat.beq k 0) 15 (cond (Nat.beq k 44) 1 255)
def q_full (i : Nat) : Bool := Nat.beq i 5 || (Nat.beq i 6 || (Nat.beq i 8 || (Nat.beq i 9 || (Nat.beq i 12 || (Nat.beq i 20 || (Nat.beq i 21 || (Nat.beq i 23 || (Nat.beq i 24 || Nat.beq i 27))))))))
def q_la (i k : Nat) : Int := cond (Nat.beq i 14) (q_lr 14 k) (cond (Nat.beq i 29) (q_lr 14 (k % 24)) (cond (q_full i || Nat.ble 34 i) (-2147483648) 0))
def q_ha (d : Int) (i k : Nat) : Int := cond (Nat.beq i 14) (q_hn d k) (cond (Nat.beq i 29) (q_hn d (k % 24)) (cond (Nat.beq i 4) (q_hg k) (cond (Nat.beq i 19) (q_hg (k % 48)) (cond (q_full i || Nat.ble 34 i) 2147483647 (cond (Nat.beq i 7 || (Nat.beq i 15 || (Nat.beq i 22 || (Nat.beq i 30 || Nat.beq i 33)))) 1 (cond (Nat.beq i 10 || Nat.beq i 25) 65535 (cond (Nat.beq i 11 || Nat.beq i 26) 15 (cond (Nat.beq i 13 || Nat.beq i 28) 32767 (cond (Nat.beq i 32) 65535 255)))))))))
def q_lfz (i k : Nat) : Int := cond (Nat.beq i 0 && (Nat.beq k 17 || (Nat.beq k 35 || Nat.beq k 38))) 0 (-2147483648)
def q_hf (w : Int) (i k : Nat) : Int := cond (Nat.beq i 0) (cond (Nat.beq k 17) 3 (cond (Nat.beq k 35) w (cond (Nat.beq k 38) 1 2147483647))) 2147483647
def q_Iv (c d w : Int) (s : q_S) : Prop := (∀ i k, q_rgz (q_la i k) (q_ha d i k) (s.1 i k)) ∧ (∀ i k, q_rgz (q_lfz i k) (q_hf w i k) (s.2.1 i k)) ∧ (∀ i k, Nat.ble 34 i = false → q_rgL 0 c (s.2.2 i k))
section
variable {c d w : Int} {s : q_S}
theorem q_Iv_A {i : Nat} {f : Nat → Int32} (h : q_Iv c d w s) (hf : ∀ k, q_rgz (q_la i k) (q_ha d i k) (f k)) : q_Iv c d w (q_sA s i f) := by
  refine ⟨fun j k => ?_, h.2⟩
  show q_rgz (q_la j k) (q_ha d j k) ((cond (Nat.beq j i) f (s.1 j)) k)
  cases e : Nat.beq j i with
  | true => rw [Nat.eq_of_beq_eq_true e]; exact hf k
  | false => exact h.1 j k
theorem q_Iv_I {i m : Nat} {x : Int32} (h : q_Iv c d w s) (hf : q_rgz (q_lfz i m) (q_hf w i m) x) : q_Iv c d w (q_sI s i m x) := by
  refine ⟨h.1, fun j k => ?_, h.2.2⟩
  show q_rgz (q_lfz j k) (q_hf w j k) (cond (Nat.beq j i) (cond (Nat.beq k m) x (s.2.1 j k)) (s.2.1 j k))
  cases e : Nat.beq j i with
  | true =>
    cases e2 : Nat.beq k m with
    | true => rw [Nat.eq_of_beq_eq_true e, Nat.eq_of_beq_eq_true e2]; exact hf
    | false => exact h.2.1 j k
  | false => exact h.2.1 j k
theorem q_Iv_J {i m : Nat} {x : Int64} (h : q_Iv c d w s) (hf : q_rgL 0 c x) : q_Iv c d w (q_sJ s i m x) := by
  refine ⟨h.1, h.2.1, fun j k hj => ?_⟩
  show q_rgL 0 c (cond (Nat.beq j i) (cond (Nat.beq k m) x (s.2.2 j k)) (s.2.2 j k))
  cases e : Nat.beq j i with
  | true =>
    cases e2 : Nat.beq k m with
    | true => exact hf
    | false => exact h.2.2 j k hj
  | false => exact h.2.2 j k hj
theorem q_Iv_L {i : Nat} {f : Nat → Int64} (h : q_Iv c d w s) (hf : ∀ k, q_rgL 0 c (f k)) : q_Iv c d w (q_sL s i f) := by
  refine ⟨h.1, h.2.1, fun j k hj => ?_⟩
  show q_rgL 0 c ((cond (Nat.beq j i) f (s.2.2 j)) k)
  cases e : Nat.beq j i with
  | true => exact hf k
  | false => exact h.2.2 j k hj
theorem q_hf_up {l u : Nat → Int} {f : Nat → Int32} (hf : ∀ k, q_rgz (l k) (u k) (f k)) {j : Nat} {v : Int32} (hv : q_rgz (l j) (u j) v) (k : Nat) : q_rgz (l k) (u k) (upd f j v k) := by
  show q_rgz (l k) (u k) (if k = j then v else f k)
  split
  · next e => rw [e]; exact hv
  · exact hf k
theorem q_hf_upL {f : Nat → Int64} (hf : ∀ k, q_rgL 0 c (f k)) {j : Nat} {v : Int64} (hv : q_rgL 0 c v) (k : Nat) : q_rgL 0 c (vp_updL f j v k) := by
  show q_rgL 0 c (if k = j then v else f k)
  split
  · exact hv
  · exact hf k
theorem q_Iv_mono {c2 d2 w2 : Int} (h : q_Iv c d w s) (hc : c ≤ c2) (hd : d ≤ d2) (hw : w ≤ w2) : q_Iv c2 d2 w2 s := by
  refine ⟨fun i k => q_rg_le (h.1 i k) (Int.le_refl _) ?_, fun i k => q_rg_le (h.2.1 i k) (Int.le_refl _) ?_, fun i k hi => ⟨(h.2.2 i k hi).1, Int.le_trans (h.2.2 i k hi).2 hc⟩⟩
  · have hn : ∀ k, q_hn d k ≤ q_hn d2 k := fun k => by
      unfold q_hn
      cases Nat.ble k 3 <;> cases Nat.beq k 4 <;> cases Nat.ble k 8 <;> cases Nat.ble k 12 <;> cases Nat.ble k 14 <;> cases Nat.beq k 16 <;> cases Nat.beq k 18 <;> cases Nat.beq k 20 <;> first | exact Int.le_refl _ | exact hd
    unfold q_ha
    cases Nat.beq i 14 with
    | true => exact hn k
    | false =>
      cases Nat.beq i 29 with
      | true => exact hn _
      | false => exact Int.le_refl _
  · unfold q_hf
    cases Nat.beq i 0 <;> cases Nat.beq k 17 <;> cases Nat.beq k 35 <;> cases Nat.beq k 38 <;> first | exact Int.le_refl _ | exact hw
theorem q_Iv_d (h : q_Iv c d w s) : 0 ≤ d := Int.le_trans (h.1 14 20).1 (h.1 14 20).2
theorem q_Iv_c (h : q_Iv c d w s) : 0 ≤ c := Int.le_trans (h.2.2 0 15 rfl).1 (h.2.2 0 15 rfl).2
theorem q_Iv_w (h : q_Iv c d w s) : 0 ≤ w := Int.le_trans (h.2.1 0 35).1 (h.2.1 0 35).2
/-- cells i of a row between a and b lie in L, U -/
def q_ckr (i a n : Nat) (L U : Int) : Bool := (List.range n).all fun k => decide (L ≤ q_la i (a + k)) && decide (q_ha 0 i (a + k) ≤ U)
def q_cks (i a n : Nat) (L U : Int) : Bool := (List.range n).all fun k => decide (q_la i (a + k) ≤ L) && decide (U ≤ q_ha 0 i (a + k))
theorem q_ha_d {i k : Nat} (h : 0 ≤ d) : q_ha 0 i k ≤ q_ha d i k := by
  have hn : ∀ k, q_hn 0 k ≤ q_hn d k := fun k => by
    unfold q_hn
    cases Nat.ble k 3 <;> cases Nat.beq k 4 <;> cases Nat.ble k 8 <;> cases Nat.ble k 12 <;> cases Nat.ble k 14 <;> cases Nat.beq k 16 <;> cases Nat.beq k 18 <;> cases Nat.beq k 20 <;> first | exact Int.le_refl _ | exact h
  unfold q_ha
  cases Nat.beq i 14 with
  | true => exact hn k
  | false =>
    cases Nat.beq i 29 with
    | true => exact hn _
    | false => exact Int.le_refl _
theorem q_ix {a n : Nat} {x : Int32} (hx : q_rgz a (a + n - 1 : Int) x) : ∃ k, k < n ∧ x.toNatClampNeg = a + k := by
  have h1 := hx.1
  have h2 := hx.2
  refine ⟨x.toInt.toNat - a, by omega, ?_⟩
  show x.toInt.toNat = _
  omega
theorem q_rdv {i a n : Nat} {L U : Int} {x : Int32} (h : q_Iv c d w s) (hx : q_rgz a (a + n - 1 : Int) x) (hne : (Nat.ble (a + n) 20 || !(Nat.beq i 14 || Nat.beq i 29)) = true) (ht : q_ckr i a n L U = true) : q_rgz L U (s.1 i x.toNatClampNeg) := by
  obtain ⟨k, hk, e⟩ := q_ix hx
  rw [e]
  have t := List.all_eq_true.mp ht k (List.mem_range.mpr hk)
  rw [Bool.and_eq_true] at t
  have t1 := of_decide_eq_true t.1
  have t2 := of_decide_eq_true t.2
  have e2 : q_ha d i (a + k) = q_ha 0 i (a + k) := by
    unfold q_ha
    rw [Bool.or_eq_true] at hne
    rcases hne with g | g
    · have g2 : a + k ≠ 20 := by have := Nat.le_of_ble_eq_true g; omega
      cases Nat.beq i 14 with
      | true =>
        show q_hn d (a + k) = q_hn 0 (a + k)
        unfold q_hn
        rw [show Nat.beq (a + k) 20 = false from by
          cases e9 : Nat.beq (a + k) 20 with
          | false => rfl
          | true => exact absurd (Nat.eq_of_beq_eq_true e9) g2]
        rfl
      | false =>
        cases Nat.beq i 29 with
        | true =>
          have g3 : (a + k) % 24 ≠ 20 := by have := Nat.le_of_ble_eq_true g; omega
          show q_hn d ((a + k) % 24) = q_hn 0 ((a + k) % 24)
          unfold q_hn
          rw [show Nat.beq ((a + k) % 24) 20 = false from by
            cases e9 : Nat.beq ((a + k) % 24) 20 with
            | false => rfl
            | true => exact absurd (Nat.eq_of_beq_eq_true e9) g3]
          rfl
        | false => rfl
    · rw [Bool.not_eq_true', Bool.or_eq_false_iff] at g
      rw [g.1, g.2]; rfl
  exact q_rg_le (h.1 i (a + k)) t1 (by rw [e2]; exact t2)
theorem q_stv {i a n : Nat} {L U : Int} {x v : Int32} (h : q_Iv c d w s) (hx : q_rgz a (a + n - 1 : Int) x) (ht : q_cks i a n L U = true) (hv : q_rgz L U v) : q_rgz (q_la i x.toNatClampNeg) (q_ha d i x.toNatClampNeg) v := by
  obtain ⟨k, hk, e⟩ := q_ix hx
  rw [e]
  have t := List.all_eq_true.mp ht k (List.mem_range.mpr hk)
  rw [Bool.and_eq_true] at t
  exact q_rg_le hv (of_decide_eq_true t.1) (Int.le_trans (of_decide_eq_true t.2) (q_ha_d (q_Iv_d h)))
theorem q_up_eq {l u : Int} {f : Nat → Int32} {i j : Nat} {v : Int32} (e : j = i) (h : q_rgz l u v) : q_rgz l u (upd f i v j) := by
  show q_rgz l u (if j = i then v else f j)
  rw [if_pos e]; exact h
theorem q_up_ne {l u : Int} {f : Nat → Int32} {i j : Nat} {v : Int32} (e : ¬ j = i) (h : q_rgz l u (f j)) : q_rgz l u (upd f i v j) := by
  show q_rgz l u (if j = i then v else f j)
  rw [if_neg e]; exact h
theorem q_up_j {l u : Int} {f : Nat → Int32} {i j : Nat} {v : Int32} (h : q_rgz l u (f j)) (h2 : q_rgz l u v) : q_rgz l u (upd f i v j) := by
  show q_rgz l u (if j = i then v else f j)
  split
  · exact h2
  · exact h
end
/-! ===== what a function gives ===== -/
def q_Ex {T : Type} (o : Option T) (P : T → Prop) : Prop := ∃ x, o = some x ∧ P x
section
variable {T U : Type} {P : T → Prop}
theorem q_E_T {a b : Option T} (h : q_Ex a P) : q_Ex (cond true a b) P := h
theorem q_E_F {a b : Option T} (h : q_Ex b P) : q_Ex (cond false a b) P := h
theorem q_E_L {u : U} {f : U → Option T} (h : q_Ex (f u) P) : q_Ex (q_let u f) P := h
theorem q_E_B {u : U} {f : U → Option T} (h : q_Ex (f u) P) : q_Ex ((some u).bind f) P := h
theorem q_E_A {b : Bool} {o : Option T} (hb : b = true) (h : q_Ex o P) : q_Ex (cond b o none) P := by rw [hb]; exact h
theorem q_E_x {x : T} (h : P x) : q_Ex (some x) P := ⟨x, rfl, h⟩
theorem q_S_T {a b : T} (h : q_Ex (some a) P) : q_Ex (some (cond true a b)) P := h
theorem q_S_F {a b : T} (h : q_Ex (some b) P) : q_Ex (some (cond false a b)) P := h
theorem q_S_L {u : U} {f : U → T} (h : q_Ex (some (f u)) P) : q_Ex (some (q_let u f)) P := h
theorem q_S_of {x : T} (h : q_Ex (some x) P) : P x := by
  obtain ⟨y, e, hy⟩ := h
  cases e
  exact hy
theorem q_E_to {o : Option T} {Q : T → Prop} (h : q_Ex o P) (hq : ∀ x, P x → Q x) : q_Ex o Q := by
  obtain ⟨x, e, hx⟩ := h
  exact ⟨x, e, hq x hx⟩
end
theorem q_rg_min {l u l2 u2 L U : Int} {a b : Int32} (h : q_rgz l u a) (h2 : q_rgz l2 u2 b) (e1 : L ≤ l) (e2 : L ≤ l2) (e3 : u ≤ U ∨ u2 ≤ U) : q_rgz L U (if a < b then a else b) := by
  split
  · next e =>
    rw [Int32.lt_iff_toInt_lt] at e
    unfold q_rgz at *
    omega
  · next e =>
    rw [Int32.lt_iff_toInt_lt] at e
    unfold q_rgz at *
    omega
theorem q_rg_max {l u l2 u2 L U : Int} {a b : Int32} (h : q_rgz l u a) (h2 : q_rgz l2 u2 b) (e1 : u ≤ U) (e2 : u2 ≤ U) (e3 : L ≤ l ∨ L ≤ l2) : q_rgz L U (if b < a then a else b) := by
  split
  · next e =>
    rw [Int32.lt_iff_toInt_lt] at e
    unfold q_rgz at *
    omega
  · next e =>
    rw [Int32.lt_iff_toInt_lt] at e
    unfold q_rgz at *
    omega
theorem q_meu {l u hi M : Int} {v : Int32} (p : q_rgz l u v) (m : ((hi - v.toInt).toNat : Int) ≤ M + 1) (h1 : u < hi) (h2 : u < 2147483647) : ((hi - (v + 1).toInt).toNat : Int) ≤ M := by
  have a := p.1
  have b := p.2
  have g := Int32.le_toInt v
  have e : (v + 1).toInt = v.toInt + 1 := q_add9 (c := 1) (by show _ ≤ v.toInt + 1; omega) (by show v.toInt + 1 ≤ _; omega)
  omega
theorem q_med {l u lo M : Int} {v : Int32} (p : q_rgz l u v) (m : ((v.toInt - lo).toNat : Int) ≤ M + 1) (h1 : lo < l) (h2 : -2147483648 < l) : (((v + (-1)).toInt - lo).toNat : Int) ≤ M := by
  have a := p.1
  have b := p.2
  have g := Int32.toInt_lt v
  have e : (v + (-1)).toInt = v.toInt + (-1) := q_add9 (c := -1) (by show _ ≤ v.toInt + (-1); omega) (by show v.toInt + (-1) ≤ _; omega)
  omega
theorem q_meu0 {l u hi : Int} {m : Nat} {v : Int32} (p : q_rgz l u v) (h1 : hi - l ≤ (m : Int)) (_h2 : True) : ((hi - v.toInt).toNat : Int) ≤ (m : Int) := by
  have a := p.1
  omega
theorem q_med0 {l u lo : Int} {m : Nat} {v : Int32} (p : q_rgz l u v) (h1 : u - lo ≤ (m : Int)) (_h2 : True) : ((v.toInt - lo).toNat : Int) ≤ (m : Int) := by
  have a := p.2
  omega
theorem q_Iv_w0 {c d w W : Int} {s : q_S} {v : Int32} (h : q_Iv c d w s) (hv : q_rgz 0 W v) : q_Iv c d W (q_sI s 0 35 v) := by
  refine ⟨h.1, fun j k => ?_, h.2.2⟩
  show q_rgz (q_lfz j k) (q_hf W j k) (cond (Nat.beq j 0) (cond (Nat.beq k 35) v (s.2.1 j k)) (s.2.1 j k))
  cases e : Nat.beq j 0 with
  | true =>
    cases e2 : Nat.beq k 35 with
    | true => rw [Nat.eq_of_beq_eq_true e, Nat.eq_of_beq_eq_true e2]; exact hv
    | false =>
      have t := h.2.1 j k
      have g : q_hf W j k = q_hf w j k := by
        unfold q_hf
        rw [e2]
        rfl
      rw [g]; exact t
  | false =>
    have t := h.2.1 j k
    have g : q_hf W j k = q_hf w j k := by
      unfold q_hf
      rw [e]
      rfl
    rw [g]; exact t
theorem q_p202 {s : q_S} {v lo hi : Int32} {a b a2 b2 : Int} (h : dz_M201 s v lo hi = true) (hl : q_rgz a b lo) (hh : q_rgz a2 b2 hi) : q_rgz a b2 v := by
  unfold dz_M201 at h
  cases h1 : decide (v < lo) with
  | true => rw [h1] at h; cases h
  | false =>
    rw [h1] at h
    cases h2 : decide (hi < v) with
    | true => rw [h2] at h; cases h
    | false =>
      have e1 : ¬ v.toInt < lo.toInt := fun z => of_decide_eq_false h1 (Int32.lt_iff_toInt_lt.mpr z)
      have e2 : ¬ hi.toInt < v.toInt := fun z => of_decide_eq_false h2 (Int32.lt_iff_toInt_lt.mpr z)
      unfold q_rgz at *
      omega
theorem q_p203 {s : q_S} {v : Int32} (h : dz_M202 s v = false) : q_rgz 0 255 v := by
  unfold dz_M202 q_let at h
  cases h1 : dz_M201 s v 0 255 with
  | true => exact q_p202 h1 (q_rg_lit (n := 0) rfl) (q_rg_lit (n := 255) rfl)
  | false => rw [h1] at h; exact absurd h (by decide)
theorem q_p204 {s : q_S} {v : Int32} (h : dz_M203 s v = false) : q_rgz 0 4095 v := by
  unfold dz_M203 q_let at h
  cases h1 : dz_M201 s v 0 4095 with
  | true => exact q_p202 h1 (q_rg_lit (n := 0) rfl) (q_rg_lit (n := 4095) rfl)
  | false => rw [h1] at h; exact absurd h (by decide)
theorem q_fails {c d w : Int} (s : q_S) (p : Int32) (hI : q_Iv c d w s) : q_Iv c d w (dz_M199_64 s p).1 ∧ (dz_M199_64 s p).2 = decide (0 < p) ∧ (dz_M199_64 s p).1.1 = s.1 ∧ (∀ k, Nat.beq k 39 = false → (dz_M199_64 s p).1.2.1 0 k = s.2.1 0 k) ∧ (dz_M199_64 s p).1.2.2 = s.2.2 := by
  have e : dz_M199_64 s p = (q_sI s 0 39 p, decide (0 < p)) := by
    unfold dz_M199_64
    cases decide (0 < p) <;> rfl
  rw [e]
  refine ⟨q_Iv_I (i := 0) (m := 39) hI (q_rg_full _), rfl, rfl, fun k hk => ?_, rfl⟩
  show cond true (cond (Nat.beq k 39) p (s.2.1 0 k)) (s.2.1 0 k) = _
  rw [hk]; rfl
theorem q_failsT {A B : Prop} {x : Bool} {p : Int32} {l u : Int} (hn : A ∧ x = decide (0 < p) ∧ B) (h : x = true) (hp : q_rgz l u p) (hu : u ≤ 0) : False := by
  have e : decide (0 < p) = true := by rw [← hn.2.1]; exact h
  have e2 := Int32.lt_iff_toInt_lt.mp (of_decide_eq_true e)
  have z : (0 : Int32).toInt = 0 := rfl
  unfold q_rgz at hp
  omega
theorem q_failsF {A B : Prop} {x : Bool} {p : Int32} {l u : Int} (hn : A ∧ x = decide (0 < p) ∧ B) (h : x = false) (hp : q_rgz l u p) (hu : 0 < l) : False := by
  have e : decide (0 < p) = false := by rw [← hn.2.1]; exact h
  have e2 : ¬ (0 : Int32).toInt < p.toInt := fun z => of_decide_eq_false e (Int32.lt_iff_toInt_lt.mpr z)
  have z : (0 : Int32).toInt = 0 := rfl
  unfold q_rgz at hp
  omega
theorem q_ixne {l u : Int} {n : Nat} {x : Int32} (p : q_rgz l u x) (h0 : 0 ≤ l) (h : (n : Int) < l ∨ u < (n : Int)) : ¬ n = x.toNatClampNeg := fun e => by
  have a := p.1
  have b := p.2
  have e2 : n = x.toInt.toNat := e
  omega
theorem q_p209 {c d w : Int} {s : q_S} (hI : q_Iv c d w s) (h : dz_M208_64 s = true) : q_rgz 0 39 ((s.1 14) 14) := by
  unfold dz_M208_64 at h
  cases h1 : decide ((s.1 14) 14 < (s.1 14) 13) with
  | false => rw [h1] at h; cases h
  | true => exact q_rg_ltT1 (l := 0) (u := 40) (l2 := 0) (u2 := 40) (U := 39) h1 (hI.1 14 14) (hI.1 14 13) (by decide)
/-! reads and stores, cell by cell -/
section
variable {c d w : Int} {s : q_S}
theorem q_r1 (h : q_Iv c d w s) (k : Nat) : q_rgz 0 255 (s.1 1 k) := h.1 1 k
theorem q_s1z {j : Nat} {v : Int32} (h : q_rgz (0) 255 v) : q_rgz (q_la 1 j) (q_ha d 1 j) v := h
theorem q_r2 (h : q_Iv c d w s) (k : Nat) : q_rgz 0 255 (s.1 2 k) := h.1 2 k
theorem q_s2z {j : Nat} {v : Int32} (h : q_rgz (0) 255 v) : q_rgz (q_la 2 j) (q_ha d 2 j) v := h
theorem q_r3 (h : q_Iv c d w s) (k : Nat) : q_rgz 0 255 (s.1 3 k) := h.1 3 k
theorem q_s3 {j : Nat} {v : Int32} (h : q_rgz (0) 255 v) : q_rgz (q_la 3 j) (q_ha d 3 j) v := h
theorem q_g0 (h : q_Iv c d w s) : q_rgz 0 15 (s.1 4 0) := h.1 4 0
theorem q_sg0 {v : Int32} (h : q_rgz 0 15 v) : q_rgz (q_la 4 0) (q_ha d 4 0) v := h
theorem q_g1 (h : q_Iv c d w s) : q_rgz 0 255 (s.1 4 1) := h.1 4 1
theorem q_sg1 {v : Int32} (h : q_rgz 0 255 v) : q_rgz (q_la 4 1) (q_ha d 4 1) v := h
theorem q_g2 (h : q_Iv c d w s) : q_rgz 0 255 (s.1 4 2) := h.1 4 2
theorem q_sg2 {v : Int32} (h : q_rgz 0 255 v) : q_rgz (q_la 4 2) (q_ha d 4 2) v := h
theorem q_g3 (h : q_Iv c d w s) : q_rgz 0 255 (s.1 4 3) := h.1 4 3
theorem q_sg3 {v : Int32} (h : q_rgz 0 255 v) : q_rgz (q_la 4 3) (q_ha d 4 3) v := h
theorem q_g4 (h : q_Iv c d w s) : q_rgz 0 255 (s.1 4 4) := h.1 4 4
theorem q_sg4 {v : Int32} (h : q_rgz 0 255 v) : q_rgz (q_la 4 4) (q_ha d 4 4) v := h
theorem q_g5 (h : q_Iv c d w s) : q_rgz 0 255 (s.1 4 5) := h.1 4 5
theorem q_sg5 {v : Int32} (h : q_rgz 0 255 v) : q_rgz (q_la 4 5) (q_ha d 4 5) v := h
theorem q_g6 (h : q_Iv c d w s) : q_rgz 0 255 (s.1 4 6) := h.1 4 6
theorem q_sg6 {v : Int32} (h : q_rgz 0 255 v) : q_rgz (q_la 4 6) (q_ha d 4 6) v := h
theorem q_g7 (h : q_Iv c d w s) : q_rgz 0 255 (s.1 4 7) := h.1 4 7
theorem q_sg7 {v : Int32} (h : q_rgz 0 255 v) : q_rgz (q_la 4 7) (q_ha d 4 7) v := h
theorem q_g8 (h : q_Iv c d w s) : q_rgz 0 255 (s.1 4 8) := h.1 4 8
theorem q_sg8 {v : Int32} (h : q_rgz 0 255 v) : q_rgz (q_la 4 8) (q_ha d 4 8) v := h
theorem q_g9 (h : q_Iv c d w s) : q_rgz 0 255 (s.1 4 9) := h.1 4 9
theorem q_sg9 {v : Int32} (h : q_rgz 0 255 v) : q_rgz (q_la 4 9) (q_ha d 4 9) v := h
theorem q_g10 (h : q_Iv c d w s) : q_rgz 0 255 (s.1 4 10) := h.1 4 10
theorem q_sg10 {v : Int32} (h : q_rgz 0 255 v) : q_rgz (q_la 4 10) (q_ha d 4 10) v := h
theorem q_g11 (h : q_Iv c d w s) : q_rgz 0 255 (s.1 4 11) := h.1 4 11
theorem q_sg11 {v : Int32} (h : q_rgz 0 255 v) : q_rgz (q_la 4 11) (q_ha d 4 11) v := h
theorem q_g12 (h : q_Iv c d w s) : q_rgz 0 255 (s.1 4 12) := h.1 4 12
theorem q_sg12 {v : Int32} (h : q_rgz 0 255 v) : q_rgz (q_la 4 12) (q_ha d 4 12) v := h
theorem q_g13 (h : q_Iv c d w s) : q_rgz 0 255 (s.1 4 13) := h.1 4 13
theorem q_sg13 {v : Int32} (h : q_rgz 0 255 v) : q_rgz (q_la 4 13) (q_ha d 4 13) v := h
theorem q_g14 (h : q_Iv c d w s) : q_rgz 0 255 (s.1 4 14) := h.1 4 14
theorem q_sg14 {v : Int32} (h : q_rgz 0 255 v) : q_rgz (q_la 4 14) (q_ha d 4 14) v := h
theorem q_g15 (h : q_Iv c d w s) : q_rgz 0 255 (s.1 4 15) := h.1 4 15
theorem q_sg15 {v : Int32} (h : q_rgz 0 255 v) : q_rgz (q_la 4 15) (q_ha d 4 15) v := h
theorem q_g16 (h : q_Iv c d w s) : q_rgz 0 255 (s.1 4 16) := h.1 4 16
theorem q_sg16 {v : Int32} (h : q_rgz 0 255 v) : q_rgz (q_la 4 16) (q_ha d 4 16) v := h
theorem q_g17 (h : q_Iv c d w s) : q_rgz 0 255 (s.1 4 17) := h.1 4 17
theorem q_sg17 {v : Int32} (h : q_rgz 0 255 v) : q_rgz (q_la 4 17) (q_ha d 4 17) v := h
theorem q_g18 (h : q_Iv c d w s) : q_rgz 0 255 (s.1 4 18) := h.1 4 18
theorem q_sg18 {v : Int32} (h : q_rgz 0 255 v) : q_rgz (q_la 4 18) (q_ha d 4 18) v := h
theorem q_g19 (h : q_Iv c d w s) : q_rgz 0 255 (s.1 4 19) := h.1 4 19
theorem q_sg19 {v : Int32} (h : q_rgz 0 255 v) : q_rgz (q_la 4 19) (q_ha d 4 19) v := h
theorem q_g20 (h : q_Iv c d w s) : q_rgz 0 255 (s.1 4 20) := h.1 4 20
theorem q_sg20 {v : Int32} (h : q_rgz 0 255 v) : q_rgz (q_la 4 20) (q_ha d 4 20) v := h
theorem q_g21 (h : q_Iv c d w s) : q_rgz 0 255 (s.1 4 21) := h.1 4 21
theorem q_sg21 {v : Int32} (h : q_rgz 0 255 v) : q_rgz (q_la 4 21) (q_ha d 4 21) v := h
theorem q_g22 (h : q_Iv c d w s) : q_rgz 0 255 (s.1 4 22) := h.1 4 22
theorem q_sg22 {v : Int32} (h : q_rgz 0 255 v) : q_rgz (q_la 4 22) (q_ha d 4 22) v := h
theorem q_g23 (h : q_Iv c d w s) : q_rgz 0 255 (s.1 4 23) := h.1 4 23
theorem q_sg23 {v : Int32} (h : q_rgz 0 255 v) : q_rgz (q_la 4 23) (q_ha d 4 23) v := h
theorem q_g24 (h : q_Iv c d w s) : q_rgz 0 255 (s.1 4 24) := h.1 4 24
theorem q_sg24 {v : Int32} (h : q_rgz 0 255 v) : q_rgz (q_la 4 24) (q_ha d 4 24) v := h
theorem q_g25 (h : q_Iv c d w s) : q_rgz 0 255 (s.1 4 25) := h.1 4 25
theorem q_sg25 {v : Int32} (h : q_rgz 0 255 v) : q_rgz (q_la 4 25) (q_ha d 4 25) v := h
theorem q_g26 (h : q_Iv c d w s) : q_rgz 0 255 (s.1 4 26) := h.1 4 26
theorem q_sg26 {v : Int32} (h : q_rgz 0 255 v) : q_rgz (q_la 4 26) (q_ha d 4 26) v := h
theorem q_g27 (h : q_Iv c d w s) : q_rgz 0 255 (s.1 4 27) := h.1 4 27
theorem q_sg27 {v : Int32} (h : q_rgz 0 255 v) : q_rgz (q_la 4 27) (q_ha d 4 27) v := h
theorem q_g28 (h : q_Iv c d w s) : q_rgz 0 255 (s.1 4 28) := h.1 4 28
theorem q_sg28 {v : Int32} (h : q_rgz 0 255 v) : q_rgz (q_la 4 28) (q_ha d 4 28) v := h
theorem q_g29 (h : q_Iv c d w s) : q_rgz 0 255 (s.1 4 29) := h.1 4 29
theorem q_sg29 {v : Int32} (h : q_rgz 0 255 v) : q_rgz (q_la 4 29) (q_ha d 4 29) v := h
theorem q_g30 (h : q_Iv c d w s) : q_rgz 0 255 (s.1 4 30) := h.1 4 30
theorem q_sg30 {v : Int32} (h : q_rgz 0 255 v) : q_rgz (q_la 4 30) (q_ha d 4 30) v := h
theorem q_g31 (h : q_Iv c d w s) : q_rgz 0 255 (s.1 4 31) := h.1 4 31
theorem q_sg31 {v : Int32} (h : q_rgz 0 255 v) : q_rgz (q_la 4 31) (q_ha d 4 31) v := h
theorem q_g32 (h : q_Iv c d w s) : q_rgz 0 255 (s.1 4 32) := h.1 4 32
theorem q_sg32 {v : Int32} (h : q_rgz 0 255 v) : q_rgz (q_la 4 32) (q_ha d 4 32) v := h
theorem q_g33 (h : q_Iv c d w s) : q_rgz 0 255 (s.1 4 33) := h.1 4 33
theorem q_sg33 {v : Int32} (h : q_rgz 0 255 v) : q_rgz (q_la 4 33) (q_ha d 4 33) v := h
theorem q_g34 (h : q_Iv c d w s) : q_rgz 0 255 (s.1 4 34) := h.1 4 34
theorem q_sg34 {v : Int32} (h : q_rgz 0 255 v) : q_rgz (q_la 4 34) (q_ha d 4 34) v := h
theorem q_g35 (h : q_Iv c d w s) : q_rgz 0 255 (s.1 4 35) := h.1 4 35
theorem q_sg35 {v : Int32} (h : q_rgz 0 255 v) : q_rgz (q_la 4 35) (q_ha d 4 35) v := h
theorem q_g36 (h : q_Iv c d w s) : q_rgz 0 255 (s.1 4 36) := h.1 4 36
theorem q_sg36 {v : Int32} (h : q_rgz 0 255 v) : q_rgz (q_la 4 36) (q_ha d 4 36) v := h
theorem q_g37 (h : q_Iv c d w s) : q_rgz 0 255 (s.1 4 37) := h.1 4 37
theorem q_sg37 {v : Int32} (h : q_rgz 0 255 v) : q_rgz (q_la 4 37) (q_ha d 4 37) v := h
theorem q_g38 (h : q_Iv c d w s) : q_rgz 0 255 (s.1 4 38) := h.1 4 38
theorem q_sg38 {v : Int32} (h : q_rgz 0 255 v) : q_rgz (q_la 4 38) (q_ha d 4 38) v := h
theorem q_g39 (h : q_Iv c d w s) : q_rgz 0 255 (s.1 4 39) := h.1 4 39
theorem q_sg39 {v : Int32} (h : q_rgz 0 255 v) : q_rgz (q_la 4 39) (q_ha d 4 39) v := h
theorem q_g40 (h : q_Iv c d w s) : q_rgz 0 255 (s.1 4 40) := h.1 4 40
theorem q_sg40 {v : Int32} (h : q_rgz 0 255 v) : q_rgz (q_la 4 40) (q_ha d 4 40) v := h
theorem q_g41 (h : q_Iv c d w s) : q_rgz 0 255 (s.1 4 41) := h.1 4 41
theorem q_sg41 {v : Int32} (h : q_rgz 0 255 v) : q_rgz (q_la 4 41) (q_ha d 4 41) v := h
theorem q_g42 (h : q_Iv c d w s) : q_rgz 0 255 (s.1 4 42) := h.1 4 42
theorem q_sg42 {v : Int32} (h : q_rgz 0 255 v) : q_rgz (q_la 4 42) (q_ha d 4 42) v := h
theorem q_g43 (h : q_Iv c d w s) : q_rgz 0 255 (s.1 4 43) := h.1 4 43
theorem q_sg43 {v : Int32} (h : q_rgz 0 255 v) : q_rgz (q_la 4 43) (q_ha d 4 43) v := h
theorem q_g44 (h : q_Iv c d w s) : q_rgz 0 1 (s.1 4 44) := h.1 4 44
theorem q_sg44 {v : Int32} (h : q_rgz 0 1 v) : q_rgz (q_la 4 44) (q_ha d 4 44) v := h
theorem q_g45 (h : q_Iv c d w s) : q_rgz 0 255 (s.1 4 45) := h.1 4 45
theorem q_sg45 {v : Int32} (h : q_rgz 0 255 v) : q_rgz (q_la 4 45) (q_ha d 4 45) v := h
theorem q_g46 (h : q_Iv c d w s) : q_rgz 0 255 (s.1 4 46) := h.1 4 46
theorem q_sg46 {v : Int32} (h : q_rgz 0 255 v) : q_rgz (q_la 4 46) (q_ha d 4 46) v := h
theorem q_g47 (h : q_Iv c d w s) : q_rgz 0 255 (s.1 4 47) := h.1 4 47
theorem q_sg47 {v : Int32} (h : q_rgz 0 255 v) : q_rgz (q_la 4 47) (q_ha d 4 47) v := h
theorem q_s5 {j : Nat} {v : Int32} (h : q_rgz (-2147483648) 2147483647 v) : q_rgz (q_la 5 j) (q_ha d 5 j) v := h
theorem q_s6 {j : Nat} {v : Int32} (h : q_rgz (-2147483648) 2147483647 v) : q_rgz (q_la 6 j) (q_ha d 6 j) v := h
theorem q_r7 (h : q_Iv c d w s) (k : Nat) : q_rgz 0 1 (s.1 7 k) := h.1 7 k
theorem q_s7 {j : Nat} {v : Int32} (h : q_rgz (0) 1 v) : q_rgz (q_la 7 j) (q_ha d 7 j) v := h
theorem q_s8 {j : Nat} {v : Int32} (h : q_rgz (-2147483648) 2147483647 v) : q_rgz (q_la 8 j) (q_ha d 8 j) v := h
theorem q_s9 {j : Nat} {v : Int32} (h : q_rgz (-2147483648) 2147483647 v) : q_rgz (q_la 9 j) (q_ha d 9 j) v := h
theorem q_r10 (h : q_Iv c d w s) (k : Nat) : q_rgz 0 65535 (s.1 10 k) := h.1 10 k
theorem q_s10 {j : Nat} {v : Int32} (h : q_rgz (0) 65535 v) : q_rgz (q_la 10 j) (q_ha d 10 j) v := h
theorem q_r11 (h : q_Iv c d w s) (k : Nat) : q_rgz 0 15 (s.1 11 k) := h.1 11 k
theorem q_s11 {j : Nat} {v : Int32} (h : q_rgz (0) 15 v) : q_rgz (q_la 11 j) (q_ha d 11 j) v := h
theorem q_s12 {j : Nat} {v : Int32} (h : q_rgz (-2147483648) 2147483647 v) : q_rgz (q_la 12 j) (q_ha d 12 j) v := h
theorem q_r13 (h : q_Iv c d w s) (k : Nat) : q_rgz 0 32767 (s.1 13 k) := h.1 13 k
theorem q_s13 {j : Nat} {v : Int32} (h : q_rgz (0) 32767 v) : q_rgz (q_la 13 j) (q_ha d 13 j) v := h
theorem q_n0z (h : q_Iv c d w s) : q_rgz 0 255 (s.1 14 0) := h.1 14 0
theorem q_sn0 {v : Int32} (h : q_rgz (0) 255 v) : q_rgz (q_la 14 0) (q_ha d 14 0) v := h
theorem q_n1 (h : q_Iv c d w s) : q_rgz 0 255 (s.1 14 1) := h.1 14 1
theorem q_sn1 {v : Int32} (h : q_rgz (0) 255 v) : q_rgz (q_la 14 1) (q_ha d 14 1) v := h
theorem q_n2 (h : q_Iv c d w s) : q_rgz 0 255 (s.1 14 2) := h.1 14 2
theorem q_sn2 {v : Int32} (h : q_rgz (0) 255 v) : q_rgz (q_la 14 2) (q_ha d 14 2) v := h
theorem q_n3 (h : q_Iv c d w s) : q_rgz 0 255 (s.1 14 3) := h.1 14 3
theorem q_sn3 {v : Int32} (h : q_rgz (0) 255 v) : q_rgz (q_la 14 3) (q_ha d 14 3) v := h
theorem q_n4 (h : q_Iv c d w s) : q_rgz 0 4095 (s.1 14 4) := h.1 14 4
theorem q_sn4 {v : Int32} (h : q_rgz (0) 4095 v) : q_rgz (q_la 14 4) (q_ha d 14 4) v := h
theorem q_n5 (h : q_Iv c d w s) : q_rgz 0 65535 (s.1 14 5) := h.1 14 5
theorem q_sn5 {v : Int32} (h : q_rgz (0) 65535 v) : q_rgz (q_la 14 5) (q_ha d 14 5) v := h
theorem q_n6 (h : q_Iv c d w s) : q_rgz 0 65535 (s.1 14 6) := h.1 14 6
theorem q_sn6 {v : Int32} (h : q_rgz (0) 65535 v) : q_rgz (q_la 14 6) (q_ha d 14 6) v := h
theorem q_n7 (h : q_Iv c d w s) : q_rgz 0 65535 (s.1 14 7) := h.1 14 7
theorem q_sn7 {v : Int32} (h : q_rgz (0) 65535 v) : q_rgz (q_la 14 7) (q_ha d 14 7) v := h
theorem q_n8 (h : q_Iv c d w s) : q_rgz 0 65535 (s.1 14 8) := h.1 14 8
theorem q_sn8 {v : Int32} (h : q_rgz (0) 65535 v) : q_rgz (q_la 14 8) (q_ha d 14 8) v := h
theorem q_n9 (h : q_Iv c d w s) : q_rgz 0 15 (s.1 14 9) := h.1 14 9
theorem q_sn9 {v : Int32} (h : q_rgz (0) 15 v) : q_rgz (q_la 14 9) (q_ha d 14 9) v := h
theorem q_n10 (h : q_Iv c d w s) : q_rgz 0 15 (s.1 14 10) := h.1 14 10
theorem q_sn10 {v : Int32} (h : q_rgz (0) 15 v) : q_rgz (q_la 14 10) (q_ha d 14 10) v := h
theorem q_n11 (h : q_Iv c d w s) : q_rgz 0 15 (s.1 14 11) := h.1 14 11
theorem q_sn11 {v : Int32} (h : q_rgz (0) 15 v) : q_rgz (q_la 14 11) (q_ha d 14 11) v := h
theorem q_n12 (h : q_Iv c d w s) : q_rgz 0 15 (s.1 14 12) := h.1 14 12
theorem q_sn12 {v : Int32} (h : q_rgz (0) 15 v) : q_rgz (q_la 14 12) (q_ha d 14 12) v := h
theorem q_n13 (h : q_Iv c d w s) : q_rgz 0 40 (s.1 14 13) := h.1 14 13
theorem q_sn13 {v : Int32} (h : q_rgz (0) 40 v) : q_rgz (q_la 14 13) (q_ha d 14 13) v := h
theorem q_n14 (h : q_Iv c d w s) : q_rgz 0 40 (s.1 14 14) := h.1 14 14
theorem q_sn14 {v : Int32} (h : q_rgz (0) 40 v) : q_rgz (q_la 14 14) (q_ha d 14 14) v := h
theorem q_sn15 {v : Int32} (h : q_rgz (-2147483648) 2147483647 v) : q_rgz (q_la 14 15) (q_ha d 14 15) v := h
theorem q_n16 (h : q_Iv c d w s) : q_rgz 0 1 (s.1 14 16) := h.1 14 16
theorem q_sn16 {v : Int32} (h : q_rgz (0) 1 v) : q_rgz (q_la 14 16) (q_ha d 14 16) v := h
theorem q_sn17 {v : Int32} (h : q_rgz (-2147483648) 2147483647 v) : q_rgz (q_la 14 17) (q_ha d 14 17) v := h
theorem q_n18 (h : q_Iv c d w s) : q_rgz 0 4095 (s.1 14 18) := h.1 14 18
theorem q_sn18 {v : Int32} (h : q_rgz (0) 4095 v) : q_rgz (q_la 14 18) (q_ha d 14 18) v := h
theorem q_sn19 {v : Int32} (h : q_rgz (-2147483648) 2147483647 v) : q_rgz (q_la 14 19) (q_ha d 14 19) v := h
theorem q_sn21 {v : Int32} (h : q_rgz (-2147483648) 2147483647 v) : q_rgz (q_la 14 21) (q_ha d 14 21) v := h
theorem q_sn22 {v : Int32} (h : q_rgz (-2147483648) 2147483647 v) : q_rgz (q_la 14 22) (q_ha d 14 22) v := h
theorem q_sn23 {v : Int32} (h : q_rgz (-2147483648) 2147483647 v) : q_rgz (q_la 14 23) (q_ha d 14 23) v := h
theorem q_r15 (h : q_Iv c d w s) (k : Nat) : q_rgz 0 1 (s.1 15 k) := h.1 15 k
theorem q_s15 {j : Nat} {v : Int32} (h : q_rgz (0) 1 v) : q_rgz (q_la 15 j) (q_ha d 15 j) v := h
theorem q_r16 (h : q_Iv c d w s) (k : Nat) : q_rgz 0 255 (s.1 16 k) := h.1 16 k
theorem q_s16 {j : Nat} {v : Int32} (h : q_rgz (0) 255 v) : q_rgz (q_la 16 j) (q_ha d 16 j) v := h
theorem q_r17 (h : q_Iv c d w s) (k : Nat) : q_rgz 0 255 (s.1 17 k) := h.1 17 k
theorem q_s17 {j : Nat} {v : Int32} (h : q_rgz (0) 255 v) : q_rgz (q_la 17 j) (q_ha d 17 j) v := h
theorem q_r18 (h : q_Iv c d w s) (k : Nat) : q_rgz 0 255 (s.1 18 k) := h.1 18 k
theorem q_s18 {j : Nat} {v : Int32} (h : q_rgz (0) 255 v) : q_rgz (q_la 18 j) (q_ha d 18 j) v := h
theorem q_s20 {j : Nat} {v : Int32} (h : q_rgz (-2147483648) 2147483647 v) : q_rgz (q_la 20 j) (q_ha d 20 j) v := h
theorem q_s21 {j : Nat} {v : Int32} (h : q_rgz (-2147483648) 2147483647 v) : q_rgz (q_la 21 j) (q_ha d 21 j) v := h
theorem q_r22 (h : q_Iv c d w s) (k : Nat) : q_rgz 0 1 (s.1 22 k) := h.1 22 k
theorem q_s22 {j : Nat} {v : Int32} (h : q_rgz (0) 1 v) : q_rgz (q_la 22 j) (q_ha d 22 j) v := h
theorem q_s23 {j : Nat} {v : Int32} (h : q_rgz (-2147483648) 2147483647 v) : q_rgz (q_la 23 j) (q_ha d 23 j) v := h
theorem q_s24 {j : Nat} {v : Int32} (h : q_rgz (-2147483648) 2147483647 v) : q_rgz (q_la 24 j) (q_ha d 24 j) v := h
theorem q_r25 (h : q_Iv c d w s) (k : Nat) : q_rgz 0 65535 (s.1 25 k) := h.1 25 k
theorem q_s25 {j : Nat} {v : Int32} (h : q_rgz (0) 65535 v) : q_rgz (q_la 25 j) (q_ha d 25 j) v := h
theorem q_r26 (h : q_Iv c d w s) (k : Nat) : q_rgz 0 15 (s.1 26 k) := h.1 26 k
theorem q_s26 {j : Nat} {v : Int32} (h : q_rgz (0) 15 v) : q_rgz (q_la 26 j) (q_ha d 26 j) v := h
theorem q_s27 {j : Nat} {v : Int32} (h : q_rgz (-2147483648) 2147483647 v) : q_rgz (q_la 27 j) (q_ha d 27 j) v := h
theorem q_r28 (h : q_Iv c d w s) (k : Nat) : q_rgz 0 32767 (s.1 28 k) := h.1 28 k
theorem q_s28 {j : Nat} {v : Int32} (h : q_rgz (0) 32767 v) : q_rgz (q_la 28 j) (q_ha d 28 j) v := h
theorem q_r30 (h : q_Iv c d w s) (k : Nat) : q_rgz 0 1 (s.1 30 k) := h.1 30 k
theorem q_s30 {j : Nat} {v : Int32} (h : q_rgz (0) 1 v) : q_rgz (q_la 30 j) (q_ha d 30 j) v := h
theorem q_r32 (h : q_Iv c d w s) (k : Nat) : q_rgz 0 65535 (s.1 32 k) := h.1 32 k
theorem q_s32 {j : Nat} {v : Int32} (h : q_rgz (0) 65535 v) : q_rgz (q_la 32 j) (q_ha d 32 j) v := h
theorem q_r33 (h : q_Iv c d w s) (k : Nat) : q_rgz 0 1 (s.1 33 k) := h.1 33 k
theorem q_s33 {j : Nat} {v : Int32} (h : q_rgz (0) 1 v) : q_rgz (q_la 33 j) (q_ha d 33 j) v := h
theorem q_f17 (h : q_Iv c d w s) : q_rgz 0 3 (s.2.1 0 17) := h.2.1 0 17
theorem q_f35 (h : q_Iv c d w s) : q_rgz 0 w (s.2.1 0 35) := h.2.1 0 35
theorem q_f38 (h : q_Iv c d w s) : q_rgz 0 1 (s.2.1 0 38) := h.2.1 0 38
end
