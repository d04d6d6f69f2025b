theorem q_TB0_in {a : Nat} {v : Nat × Nat × (Nat → Int32)} (h : q_TB0 a = some v) : (a = 1 ∧ some (0, 48, fun j => q_o1.getD j 0) = some v) ∨ (a = 2 ∧ some (0, 8, fun j => q_o2.getD j 0) = some v) ∨ (a = 3 ∧ some (0, 32, fun j => q_o3.getD j 0) = some v) ∨ (a = 4 ∧ some (3, 63, fun j => q_o4.getD j 0) = some v) ∨ (a = 5 ∧ some (3, 120, fun j => q_o5.getD j 0) = some v) ∨ (a = 6 ∧ some (4, 100, fun j => q_o6.getD j 0) = some v) ∨ (a = 7 ∧ some (4, 100, fun j => q_o7.getD j 0) = some v) ∨ (a = 40 ∧ some (4, 63, fun j => q_o40.getD j 0) = some v) ∨ (a = 41 ∧ some (4, 120, fun j => q_o41.getD j 0) = some v) ∨ (a = 42 ∧ some (4, 3, fun j => q_o42.getD j 0) = some v) ∨ (a = 43 ∧ some (4, 2, fun j => q_o43.getD j 0) = some v) ∨ (a = 44 ∧ some (4, 2, fun j => q_o44.getD j 0) = some v) ∨ (a = 45 ∧ some (4, 3, fun j => q_o45.getD j 0) = some v) ∨ (a = 46 ∧ some (4, 3, fun j => q_o46.getD j 0) = some v) := by
  unfold q_TB0 at h
  cases d7 : Nat.ble a 7 with
  | true =>
    rw [d7] at h
    simp only [cond_true] at h
    cases d3 : Nat.ble a 3 with
    | true =>
      rw [d3] at h
      simp only [cond_true] at h
      cases d1 : Nat.ble a 1 with
      | true =>
        rw [d1] at h
        simp only [cond_true] at h
        cases e : Nat.beq a 1 with
        | true => rw [e] at h; exact Or.inl ⟨Nat.eq_of_beq_eq_true e, h⟩
        | false => rw [e] at h; cases h
      | false =>
        rw [d1] at h
        simp only [cond_false] at h
        cases d2 : Nat.ble a 2 with
        | true =>
          rw [d2] at h
          simp only [cond_true] at h
          cases e : Nat.beq a 2 with
          | true => rw [e] at h; exact Or.inr (Or.inl ⟨Nat.eq_of_beq_eq_true e, h⟩)
          | false => rw [e] at h; cases h
        | false =>
          rw [d2] at h
          simp only [cond_false] at h
          cases e : Nat.beq a 3 with
          | true => rw [e] at h; exact Or.inr (Or.inr (Or.inl ⟨Nat.eq_of_beq_eq_true e, h⟩))
          | false => rw [e] at h; cases h
    | false =>
      rw [d3] at h
      simp only [cond_false] at h
      cases d5 : Nat.ble a 5 with
      | true =>
        rw [d5] at h
        simp only [cond_true] at h
        cases d4 : Nat.ble a 4 with
        | true =>
          rw [d4] at h
          simp only [cond_true] at h
          cases e : Nat.beq a 4 with
          | true => rw [e] at h; exact Or.inr (Or.inr (Or.inr (Or.inl ⟨Nat.eq_of_beq_eq_true e, h⟩)))
          | false => rw [e] at h; cases h
        | false =>
          rw [d4] at h
          simp only [cond_false] at h
          cases e : Nat.beq a 5 with
          | true => rw [e] at h; exact Or.inr (Or.inr (Or.inr (Or.inr (Or.inl ⟨Nat.eq_of_beq_eq_true e, h⟩))))
          | false => rw [e] at h; cases h
      | false =>
        rw [d5] at h
        simp only [cond_false] at h
        cases d6 : Nat.ble a 6 with
        | true =>
          rw [d6] at h
          simp only [cond_true] at h
          cases e : Nat.beq a 6 with
          | true => rw [e] at h; exact Or.inr (Or.inr (Or.inr (Or.inr (Or.inr (Or.inl ⟨Nat.eq_of_beq_eq_true e, h⟩)))))
          | false => rw [e] at h; cases h
        | false =>
          rw [d6] at h
          simp only [cond_false] at h
          cases e : Nat.beq a 7 with
          | true => rw [e] at h; exact Or.inr (Or.inr (Or.inr (Or.inr (Or.inr (Or.inr (Or.inl ⟨Nat.eq_of_beq_eq_true e, h⟩))))))
          | false => rw [e] at h; cases h
  | false =>
    rw [d7] at h
    simp only [cond_false] at h
    cases d42 : Nat.ble a 42 with
    | true =>
      rw [d42] at h
      simp only [cond_true] at h
      cases d40 : Nat.ble a 40 with
      | true =>
        rw [d40] at h
        simp only [cond_true] at h
        cases e : Nat.beq a 40 with
        | true => rw [e] at h; exact Or.inr (Or.inr (Or.inr (Or.inr (Or.inr (Or.inr (Or.inr (Or.inl ⟨Nat.eq_of_beq_eq_true e, h⟩)))))))
        | false => rw [e] at h; cases h
      | false =>
        rw [d40] at h
        simp only [cond_false] at h
        cases d41 : Nat.ble a 41 with
        | true =>
          rw [d41] at h
          simp only [cond_true] at h
          cases e : Nat.beq a 41 with
          | true => rw [e] at h; exact Or.inr (Or.inr (Or.inr (Or.inr (Or.inr (Or.inr (Or.inr (Or.inr (Or.inl ⟨Nat.eq_of_beq_eq_true e, h⟩))))))))
          | false => rw [e] at h; cases h
        | false =>
          rw [d41] at h
          simp only [cond_false] at h
          cases e : Nat.beq a 42 with
          | true => rw [e] at h; exact Or.inr (Or.inr (Or.inr (Or.inr (Or.inr (Or.inr (Or.inr (Or.inr (Or.inr (Or.inl ⟨Nat.eq_of_beq_eq_true e, h⟩)))))))))
          | false => rw [e] at h; cases h
    | false =>
      rw [d42] at h
      simp only [cond_false] at h
      cases d44 : Nat.ble a 44 with
      | true =>
        rw [d44] at h
        simp only [cond_true] at h
        cases d43 : Nat.ble a 43 with
        | true =>
          rw [d43] at h
          simp only [cond_true] at h
          cases e : Nat.beq a 43 with
          | true => rw [e] at h; exact Or.inr (Or.inr (Or.inr (Or.inr (Or.inr (Or.inr (Or.inr (Or.inr (Or.inr (Or.inr (Or.inl ⟨Nat.eq_of_beq_eq_true e, h⟩))))))))))
          | false => rw [e] at h; cases h
        | false =>
          rw [d43] at h
          simp only [cond_false] at h
          cases e : Nat.beq a 44 with
          | true => rw [e] at h; exact Or.inr (Or.inr (Or.inr (Or.inr (Or.inr (Or.inr (Or.inr (Or.inr (Or.inr (Or.inr (Or.inr (Or.inl ⟨Nat.eq_of_beq_eq_true e, h⟩)))))))))))
          | false => rw [e] at h; cases h
      | false =>
        rw [d44] at h
        simp only [cond_false] at h
        cases d45 : Nat.ble a 45 with
        | true =>
          rw [d45] at h
          simp only [cond_true] at h
          cases e : Nat.beq a 45 with
          | true => rw [e] at h; exact Or.inr (Or.inr (Or.inr (Or.inr (Or.inr (Or.inr (Or.inr (Or.inr (Or.inr (Or.inr (Or.inr (Or.inr (Or.inl ⟨Nat.eq_of_beq_eq_true e, h⟩))))))))))))
          | false => rw [e] at h; cases h
        | false =>
          rw [d45] at h
          simp only [cond_false] at h
          cases e : Nat.beq a 46 with
          | true => rw [e] at h; exact Or.inr (Or.inr (Or.inr (Or.inr (Or.inr (Or.inr (Or.inr (Or.inr (Or.inr (Or.inr (Or.inr (Or.inr (Or.inr (⟨Nat.eq_of_beq_eq_true e, h⟩)))))))))))))
          | false => rw [e] at h; cases h
