section
variable {x y z m m2 : q_S} {c d w k : Int}
/-- the scratch scene's two rows alone change -/
def q_NS (x y : q_S) : Prop := y.2 = x.2 ∧ ∀ i, (Nat.beq i 33 || Nat.beq i 34) = false → y.1 i = x.1 i
theorem q_NS_r (x : q_S) : q_NS x x := ⟨rfl, fun _ _ => rfl⟩
theorem q_NS.trans (h : q_NS x y) (g : q_NS y z) : q_NS x z := ⟨g.1.trans h.1, fun i hi => (g.2 i hi).trans (h.2 i hi)⟩
theorem q_NS_A (i : Nat) (f : Nat → Int32) (hi : (Nat.beq i 33 || Nat.beq i 34) = true) : q_NS x (q_sA x i f) := by
  refine ⟨rfl, fun j hj => q_uA_ne _ _ ?_⟩
  cases e : Nat.beq j i with
  | false => rfl
  | true => rw [Nat.eq_of_beq_eq_true e, hi] at hj; cases hj
theorem q_ns318 : ∀ (n : Nat) (s y : q_S) (v1 v2 v3 : Int32), dz_N317_98_5 n s v1 v2 v3 = some y → q_NS s y := by
  intro n
  induction n with
  | zero => intro s y v1 v2 v3 h; cases h
  | succ n ih =>
    intro s y v1 v2 v3 h
    rw [dzs_N317_98_5] at h
    dsimp only at h
    cases e : decide (v2 < v3) with
    | false => rw [e] at h; cases h; exact q_NS_r s
    | true =>
      rw [e, cond_true] at h
      cases e2 : q_in v2 48 with
      | false => rw [e2] at h; cases h
      | true => rw [e2] at h; exact (q_NS_A 34 _ rfl).trans (ih _ _ _ _ _ h)
theorem q_ns113 {s y : q_S} (h : dz_N113_96 s = some y) : q_NS s y := by
  unfold dz_N113_96 dz_N317_98 at h
  cases e : dz_N317_98_5 5000 s 0 0 48 with
  | none => rw [e] at h; cases h
  | some r => rw [e] at h; cases h; exact q_ns318 _ _ _ _ _ _ e
theorem q_ns112 (s : q_S) (a b : Int32) : q_NS s (dz_N112_96 s a b) := by
  unfold dz_N112_96
  cases decide (a - 3840 < 0) with
  | true => exact q_NS_A 33 _ rfl
  | false =>
    rw [cond_false]
    cases decide (a - 3840 < 48) with
    | false => exact q_NS_A 33 _ rfl
    | true =>
      rw [cond_true]
      cases decide ((fun j => q_o1.getD j 0) ((a - 3840).toNatClampNeg) = 0) with
      | true => exact q_NS_r s
      | false => exact q_NS_A 34 _ rfl
theorem q_ns129_77 : ∀ (n : Nat) (s y : q_S) (v1 v3 : Int32), dz_N129_77_96_10 n s v1 v3 = some y → q_NS s y := by
  intro n
  induction n with
  | zero => intro s y v1 v3 h; cases h
  | succ n ih =>
    intro s y v1 v3 h
    rw [dzs_N129_77_96_10] at h
    unfold q_let at h
    dsimp only at h
    cases e1 : decide (v3 < s.2.1 13 2) with
    | false => rw [e1] at h; cases h; exact q_NS_r s
    | true =>
      rw [e1, cond_true] at h
      cases e2 : decide (v3 < 3072) with
      | false => rw [e2] at h; cases h; exact q_NS_r s
      | true =>
        rw [e2, cond_true] at h
        cases e3 : q_in v3 3072 with
        | false => rw [e3] at h; cases h
        | true =>
          rw [e3, cond_true] at h
          cases e4 : decide (v1 < ((s.1 17) (v3.toNatClampNeg)) >>> ((21 &&& 31) : Int32)) with
          | true => rw [e4] at h; cases h; exact q_NS_r s
          | false =>
            rw [e4, cond_false] at h
            cases e5 : decide ((((s.1 17) (v3.toNatClampNeg)) >>> ((8 &&& 31) : Int32)) &&& 8191 = 4096) with
            | true =>
              rw [e5, cond_true] at h
              cases e6 : dz_N113_96 s with
              | none => rw [e6] at h; cases h
              | some r => rw [e6] at h; exact (q_ns113 e6).trans (ih _ _ _ _ h)
            | false => rw [e5, cond_false] at h; exact (q_ns112 s _ _).trans (ih _ _ _ _ h)
theorem q_ns129_82 : ∀ (n : Nat) (s y : q_S) (v1 v3 : Int32), dz_N129_82_96_10 n s v1 v3 = some y → q_NS s y := by
  intro n
  induction n with
  | zero => intro s y v1 v3 h; cases h
  | succ n ih =>
    intro s y v1 v3 h
    rw [dzs_N129_82_96_10] at h
    unfold q_let at h
    dsimp only at h
    cases e1 : decide (v3 < s.2.1 18 2) with
    | false => rw [e1] at h; cases h; exact q_NS_r s
    | true =>
      rw [e1, cond_true] at h
      cases e2 : decide (v3 < 3072) with
      | false => rw [e2] at h; cases h; exact q_NS_r s
      | true =>
        rw [e2, cond_true] at h
        cases e3 : q_in v3 3072 with
        | false => rw [e3] at h; cases h
        | true =>
          rw [e3, cond_true] at h
          cases e4 : decide (v1 < ((s.1 22) (v3.toNatClampNeg)) >>> ((21 &&& 31) : Int32)) with
          | true => rw [e4] at h; cases h; exact q_NS_r s
          | false =>
            rw [e4, cond_false] at h
            cases e5 : decide ((((s.1 22) (v3.toNatClampNeg)) >>> ((8 &&& 31) : Int32)) &&& 8191 = 4096) with
            | true =>
              rw [e5, cond_true] at h
              cases e6 : dz_N113_96 s with
              | none => rw [e6] at h; cases h
              | some r => rw [e6] at h; exact (q_ns113 e6).trans (ih _ _ _ _ h)
            | false => rw [e5, cond_false] at h; exact (q_ns112 s _ _).trans (ih _ _ _ _ h)
end
