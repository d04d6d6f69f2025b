/-! ===== tables over a range ===== -/
theorem q_tbl1 (P : Int32 → Bool) {l : Int} {n : Nat} (h : (List.range (n + 1)).all (fun j => P (Int32.ofInt (l + (j : Int)))) = true) {x : Int32} (h1 : l ≤ x.toInt) (h2 : x.toInt ≤ l + (n : Int)) : P x = true := by
  obtain ⟨j, hj, e⟩ := q_en h1 h2
  rw [e]
  exact List.all_eq_true.mp h j (List.mem_range.mpr (by omega))
theorem q_tbl2 (P : Int32 → Int32 → Bool) {l l2 : Int} {n n2 : Nat} (h : (List.range (n + 1)).all (fun j => (List.range (n2 + 1)).all fun i => P (Int32.ofInt (l + (j : Int))) (Int32.ofInt (l2 + (i : Int)))) = true) {x y : Int32} (h1 : l ≤ x.toInt) (h2 : x.toInt ≤ l + (n : Int)) (h3 : l2 ≤ y.toInt) (h4 : y.toInt ≤ l2 + (n2 : Int)) : P x y = true := by
  obtain ⟨j, hj, e⟩ := q_en h1 h2
  obtain ⟨i, hi, e2⟩ := q_en h3 h4
  rw [e, e2]
  exact List.all_eq_true.mp (List.all_eq_true.mp h j (List.mem_range.mpr (by omega))) i (List.mem_range.mpr (by omega))
theorem q_not_tr {b : Bool} (h : (!b) = true) : b = false := by cases b <;> simp_all
