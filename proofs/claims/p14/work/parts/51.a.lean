/-! ===== no NaN comes out of the two divisions ===== -/
def q_wf (f : FP.Core.Fmt) (d : FP.Core.Datum) : Prop := match d with
  | .nan => False
  | .inf _ => True
  | .fin _ c q => c < 2 ^ f.p ∧ f.qmin ≤ q ∧ q ≤ f.qmax
theorem q_wf_bound {f : FP.Core.Fmt} {s : Bool} {c : Nat} {q : Int} (h1 : c < 2 ^ f.p) (h2 : f.qmin ≤ q) : q_wf f (FP.Core.bound f s c q) := by
  unfold FP.Core.bound
  split
  · rename_i h
    exact ⟨h1, h2, h⟩
  · exact trivial
theorem q_wf_ratio {f : FP.Core.Fmt} (hp : f.tails < 2 ^ f.p) (h0 : f.qmin ≤ f.qmax) (s : Bool) (n d : Nat) (e : Int) : q_wf f (FP.Core.roundRatio f s n d e) := by
  unfold FP.Core.roundRatio
  split
  · exact ⟨Nat.lt_of_le_of_lt (Nat.zero_le _) hp, Int.le_refl _, h0⟩
  · unfold FP.Core.roundAt FP.Core.settle
    have hq : f.qmin ≤ FP.Core.quantum f n d e := by
      unfold FP.Core.quantum
      exact Int.le_max_left _ _
    split
    · rename_i h
      exact q_wf_bound h hq
    · exact q_wf_bound hp (Int.le_trans hq (by omega))
theorem q_wf_round {f : FP.Core.Fmt} (hp : f.tails < 2 ^ f.p) (h0 : f.qmin ≤ f.qmax) (d : FP.Core.Datum) (h : ¬ d = .nan) : q_wf f (FP.Core.round f d) := by
  cases d with
  | nan => exact absurd rfl h
  | inf s => exact trivial
  | fin s c q => exact q_wf_ratio hp h0 s c 1 q
/-- the fields of what a number or an infinity is written as -/
theorem q_wf_enc {f : FP.Core.Fmt} {d : FP.Core.Datum} (h : q_wf f d) (hp : 2 ^ f.p = 2 * f.tails) (h0 : f.qmax - f.qmin + 3 = (f.exps : Int)) (ht : 0 < f.tails) (hx : 0 < f.exps) : ∃ (s : Bool) (e t : Nat), FP.Core.encode f d = FP.Core.assemble f s e t ∧ t < f.tails ∧ e < f.exps ∧ (e = f.exps - 1 → t = 0) := by
  cases d with
  | nan => exact h.elim
  | inf s => exact ⟨s, f.exps - 1, 0, rfl, ht, by omega, fun _ => rfl⟩
  | fin s c q =>
    obtain ⟨h1, h2, h3⟩ := h
    unfold FP.Core.encode
    dsimp only
    by_cases hc : c < f.tails
    · rw [if_pos hc]
      exact ⟨s, 0, c, rfl, hc, by omega, fun e9 => by omega⟩
    · rw [if_neg hc]
      exact ⟨s, (q - f.qmin).toNat + 1, c - f.tails, rfl, by omega, by omega, fun e9 => by omega⟩
theorem q_dec_asm {f : FP.Core.Fmt} {s : Bool} {e t : Nat} (h1 : t < f.tails) (h2 : e < f.exps) (h3 : e = f.exps - 1 → t = 0) : ¬ FP.Core.decode f (FP.Core.assemble f s e t) = .nan := by
  have a1 : FP.Core.fieldT f (FP.Core.assemble f s e t) = t := by
    unfold FP.Core.fieldT FP.Core.assemble
    rw [Nat.mul_comm, Nat.mul_add_mod, Nat.mod_eq_of_lt h1]
  have a2 : FP.Core.fieldE f (FP.Core.assemble f s e t) = e := by
    unfold FP.Core.fieldE FP.Core.assemble
    rw [Nat.mul_comm, Nat.mul_add_div (by omega), Nat.div_eq_of_lt h1, Nat.add_zero, Nat.mul_comm, Nat.mul_add_mod, Nat.mod_eq_of_lt h2]
  unfold FP.Core.decode
  rw [a1, a2]
  split
  · rename_i he
    rw [if_pos (h3 he)]
    exact fun h => by cases h
  · split
    · exact fun h => by cases h
    · exact fun h => by cases h
theorem q_quo {f : FP.Core.Fmt} (hp : f.tails < 2 ^ f.p) (h0 : f.qmin ≤ f.qmax) {a : FP.Core.Datum} (ha : ¬ a = .nan) {t : Bool} {d : Nat} {r : Int} (hd : ¬ d = 0) : q_wf f (FP.Core.quotient f a (.fin t d r)) := by
  cases a with
  | nan => exact absurd rfl ha
  | inf s => exact trivial
  | fin s c q =>
    unfold FP.Core.quotient
    dsimp only
    rw [if_neg hd]
    exact q_wf_ratio hp h0 _ _ _ _
theorem q_asm_lt {f : FP.Core.Fmt} {s : Bool} {e t : Nat} (h1 : t < f.tails) (h2 : e < f.exps) : FP.Core.assemble f s e t < 2 * f.exps * f.tails := by
  unfold FP.Core.assemble
  have hs : s.toNat ≤ 1 := by cases s <;> decide
  have h3 : s.toNat * f.exps + e + 1 ≤ 2 * f.exps := by
    have : s.toNat * f.exps ≤ 1 * f.exps := Nat.mul_le_mul_right _ hs
    omega
  have h4 : (s.toNat * f.exps + e + 1) * f.tails ≤ 2 * f.exps * f.tails := Nat.mul_le_mul_right _ h3
  rw [Nat.add_mul, Nat.one_mul] at h4
  omega
theorem q_b64 : FP.Core.b64.tails = 2 ^ 52 ∧ FP.Core.b64.exps = 2048 ∧ FP.Core.b64.p = 53 ∧ FP.Core.b64.qmin = -1074 ∧ FP.Core.b64.qmax = 971 := by decide
theorem q_b32 : FP.Core.b32.tails = 2 ^ 23 ∧ FP.Core.b32.exps = 256 ∧ FP.Core.b32.p = 24 ∧ FP.Core.b32.qmin = -149 ∧ FP.Core.b32.qmax = 104 := by decide
theorem q_enc64 {d : FP.Core.Datum} (h : q_wf FP.Core.b64 d) : ∃ (s : Bool) (e t : Nat), FP.Core.encode FP.Core.b64 d = FP.Core.assemble FP.Core.b64 s e t ∧ t < 2 ^ 52 ∧ e < 2048 ∧ (e = 2047 → t = 0) := by
  obtain ⟨a1, a2, a3, a4, a5⟩ := q_b64
  obtain ⟨s, e, t, h1, h2, h3, h4⟩ := q_wf_enc h (by rw [a1, a3]) (by rw [a2, a4, a5]; rfl) (by rw [a1]; decide) (by rw [a2]; decide)
  rw [a1] at h2
  rw [a2] at h3 h4
  exact ⟨s, e, t, h1, h2, h3, h4⟩
theorem q_enc32 {d : FP.Core.Datum} (h : q_wf FP.Core.b32 d) : ∃ (s : Bool) (e t : Nat), FP.Core.encode FP.Core.b32 d = FP.Core.assemble FP.Core.b32 s e t ∧ t < 2 ^ 23 ∧ e < 256 ∧ (e = 255 → t = 0) := by
  obtain ⟨a1, a2, a3, a4, a5⟩ := q_b32
  obtain ⟨s, e, t, h1, h2, h3, h4⟩ := q_wf_enc h (by rw [a1, a3]) (by rw [a2, a4, a5]; rfl) (by rw [a1]; decide) (by rw [a2]; decide)
  rw [a1] at h2
  rw [a2] at h3 h4
  exact ⟨s, e, t, h1, h2, h3, h4⟩
theorem q_asm64 (s : Bool) (e t : Nat) : FP.Core.assemble FP.Core.b64 s e t = (s.toNat * 2048 + e) * 2 ^ 52 + t := by
  obtain ⟨a1, a2, -⟩ := q_b64
  unfold FP.Core.assemble
  rw [a1, a2]
theorem q_asm32 (s : Bool) (e t : Nat) : FP.Core.assemble FP.Core.b32 s e t = (s.toNat * 256 + e) * 2 ^ 23 + t := by
  obtain ⟨a1, a2, -⟩ := q_b32
  unfold FP.Core.assemble
  rw [a1, a2]
theorem q_nnd_wf {d : FP.Core.Datum} (h : q_wf FP.Core.b64 d) : q_nnd (UInt64.ofNat (FP.Core.encode FP.Core.b64 d)) = true := by
  obtain ⟨s, e, t, h1, h2, h3, h4⟩ := q_enc64 h
  rw [h1, q_asm64]
  have hs : s.toNat ≤ 1 := by cases s <;> decide
  unfold q_nnd
  refine decide_eq_true ?_
  rw [UInt64.le_iff_toNat_le, UInt64.toNat_and]
  have hlt : (s.toNat * 2048 + e) * 2 ^ 52 + t < 2 ^ 64 := by omega
  have e1 : (UInt64.ofNat ((s.toNat * 2048 + e) * 2 ^ 52 + t)).toNat = (s.toNat * 2048 + e) * 2 ^ 52 + t := UInt64.toNat_ofNat_of_lt' hlt
  have e2 : (0x7fffffffffffffff : UInt64).toNat = 2 ^ 63 - 1 := by decide
  have e3 : (0x7ff0000000000000 : UInt64).toNat = 2047 * 2 ^ 52 := by decide
  rw [e1, e2, e3, Nat.and_two_pow_sub_one_eq_mod]
  have e4 : ((s.toNat * 2048 + e) * 2 ^ 52 + t) % 2 ^ 63 = e * 2 ^ 52 + t := by
    have : s.toNat = 0 ∨ s.toNat = 1 := by omega
    rcases this with q | q <;> rw [q] <;> omega
  rw [e4]
  by_cases he : e = 2047
  · rw [h4 he, he]; omega
  · omega
theorem q_nnf_wf {d : FP.Core.Datum} (h : q_wf FP.Core.b32 d) : q_nnf (UInt32.ofNat (FP.Core.encode FP.Core.b32 d)) = true := by
  obtain ⟨s, e, t, h1, h2, h3, h4⟩ := q_enc32 h
  rw [h1, q_asm32]
  have hs : s.toNat ≤ 1 := by cases s <;> decide
  unfold q_nnf
  refine decide_eq_true ?_
  rw [UInt32.le_iff_toNat_le, UInt32.toNat_and]
  have hlt : (s.toNat * 256 + e) * 2 ^ 23 + t < 2 ^ 32 := by omega
  have e1 : (UInt32.ofNat ((s.toNat * 256 + e) * 2 ^ 23 + t)).toNat = (s.toNat * 256 + e) * 2 ^ 23 + t := UInt32.toNat_ofNat_of_lt' hlt
  have e2 : (0x7fffffff : UInt32).toNat = 2 ^ 31 - 1 := by decide
  have e3 : (0x7f800000 : UInt32).toNat = 255 * 2 ^ 23 := by decide
  rw [e1, e2, e3, Nat.and_two_pow_sub_one_eq_mod]
  have e4 : ((s.toNat * 256 + e) * 2 ^ 23 + t) % 2 ^ 31 = e * 2 ^ 23 + t := by
    have : s.toNat = 0 ∨ s.toNat = 1 := by omega
    rcases this with q | q <;> rw [q] <;> omega
  rw [e4]
  by_cases he : e = 255
  · rw [h4 he, he]; omega
  · omega
theorem q_ofInt_nn (i : Int) : ¬ FP.Core.ofInt i = .nan := fun h => by cases h
theorem q_hp64 : FP.Core.b64.tails < 2 ^ FP.Core.b64.p := by decide
theorem q_hp32 : FP.Core.b32.tails < 2 ^ FP.Core.b32.p := by decide
theorem q_hq64 : FP.Core.b64.qmin ≤ FP.Core.b64.qmax := by decide
theorem q_hq32 : FP.Core.b32.qmin ≤ FP.Core.b32.qmax := by decide
theorem q_i2d_nn (v : Int32) : ¬ FP.Core.decode FP.Core.b64 (FP.i2d v).toNat = .nan := by
  obtain ⟨s, e, t, h1, h2, h3, h4⟩ := q_enc64 (q_wf_round q_hp64 q_hq64 (FP.Core.ofInt v.toInt) (q_ofInt_nn _))
  obtain ⟨a1, a2, -⟩ := q_b64
  have e0 : (FP.i2d v).toNat = FP.Core.assemble FP.Core.b64 s e t := by
    show (UInt64.ofNat (FP.Core.encode FP.Core.b64 (FP.Core.round FP.Core.b64 (FP.Core.ofInt v.toInt)))).toNat = _
    rw [h1]
    have := q_asm_lt (f := FP.Core.b64) (s := s) (e := e) (t := t) (by rw [a1]; exact h2) (by rw [a2]; exact h3)
    rw [a1, a2] at this
    exact UInt64.toNat_ofNat_of_lt' this
  rw [e0]
  exact q_dec_asm (by rw [a1]; exact h2) (by rw [a2]; exact h3) (by rw [a2]; exact h4)
theorem q_i2f_nn (v : Int32) : ¬ FP.Core.decode FP.Core.b32 (FP.i2f v).toNat = .nan := by
  obtain ⟨s, e, t, h1, h2, h3, h4⟩ := q_enc32 (q_wf_round q_hp32 q_hq32 (FP.Core.ofInt v.toInt) (q_ofInt_nn _))
  obtain ⟨a1, a2, -⟩ := q_b32
  have e0 : (FP.i2f v).toNat = FP.Core.assemble FP.Core.b32 s e t := by
    show (UInt32.ofNat (FP.Core.encode FP.Core.b32 (FP.Core.round FP.Core.b32 (FP.Core.ofInt v.toInt)))).toNat = _
    rw [h1]
    have := q_asm_lt (f := FP.Core.b32) (s := s) (e := e) (t := t) (by rw [a1]; exact h2) (by rw [a2]; exact h3)
    rw [a1, a2] at this
    exact UInt32.toNat_ofNat_of_lt' this
  rw [e0]
  exact q_dec_asm (by rw [a1]; exact h2) (by rw [a2]; exact h3) (by rw [a2]; exact h4)
theorem q_nnM (v : Int32) : q_nnd (FP.ddiv (FP.i2d v) 4630826316843712512) = true := by
  have e : FP.Core.decode FP.Core.b64 (4630826316843712512 : UInt64).toNat = .fin false 5629499534213120 (-47) := by decide +kernel
  show q_nnd (UInt64.ofNat (FP.Core.encode FP.Core.b64 (FP.Core.quotient FP.Core.b64 (FP.Core.decode FP.Core.b64 (FP.i2d v).toNat) (FP.Core.decode FP.Core.b64 (4630826316843712512 : UInt64).toNat)))) = true
  rw [e]
  exact q_nnd_wf (q_quo q_hp64 q_hq64 (q_i2d_nn v) (by decide))
theorem q_nnS (v : Int32) : q_nnf (FP.fdiv (FP.i2f v) 1149239296) = true := by
  have e : FP.Core.decode FP.Core.b32 (1149239296 : UInt32).toNat = .fin false 8388608 (-13) := by decide +kernel
  show q_nnf (UInt32.ofNat (FP.Core.encode FP.Core.b32 (FP.Core.quotient FP.Core.b32 (FP.Core.decode FP.Core.b32 (FP.i2f v).toNat) (FP.Core.decode FP.Core.b32 (1149239296 : UInt32).toNat)))) = true
  rw [e]
  exact q_nnf_wf (q_quo q_hp32 q_hq32 (q_i2f_nn v) (by decide))
