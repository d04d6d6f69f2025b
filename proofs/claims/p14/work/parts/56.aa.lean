section
variable {TT : (Nat → Int32) → Int32 → (Nat → Int32) → Int32 → Int64 → Int64 → List Int32 → List (Nat → Int32) → (Nat → Int64) → Prop} {x y z m m2 b b2 : q_S} {c d w k : Int} {n : Nat}
/-- the model as it was but for its line and its live keys -/
def q_eqL (m z : q_S) : Prop := (∀ i, Nat.beq i 33 = false → Nat.beq i 32 = false → z.1 i = m.1 i) ∧ (∀ i k, (Nat.beq i 0 && Nat.beq k 35) = false → z.2.1 i k = m.2.1 i k) ∧ z.2.2 = m.2.2
theorem q_eqL_r (m : q_S) : q_eqL m m := ⟨fun _ _ _ => rfl, fun _ _ _ => rfl, rfl⟩
theorem q_eqL_33 (e : q_eqL m z) (f : q_eq33 z y) : q_eqL m y := ⟨fun i h1 h2 => (f.1 i h1).trans (e.1 i h1 h2), fun i k h => by rw [f.2]; exact e.2.1 i k h, by rw [f.2]; exact e.2.2⟩
theorem q_eqL_I (e : q_eqL m z) (v : Int32) : q_eqL m (q_sI z 0 35 v) := by
  refine ⟨e.1, fun i k h => ?_, e.2.2⟩
  show cond (Nat.beq i 0) (cond (Nat.beq k 35) v (z.2.1 i k)) (z.2.1 i k) = _
  cases e0 : Nat.beq i 0 with
  | false => exact e.2.1 i k h
  | true =>
    rw [e0, Bool.true_and] at h
    rw [h]
    exact e.2.1 i k (by rw [h]; exact Bool.and_false _)
theorem q_eqL_A (e : q_eqL m z) (f : Nat → Int32) : q_eqL m (q_sA z 32 f) :=
  ⟨fun i h1 h2 => (q_uA_ne _ _ h2).trans (e.1 i h1 h2), e.2.1, e.2.2⟩
/-- the relation reads these alone of the model -/
def q_eq15 (m z : q_S) : Prop := (∀ i, 1 ≤ i → i ≤ 15 → z.1 i = m.1 i) ∧ z.2.2 0 15 = m.2.2 0 15 ∧ z.2.2 0 16 = m.2.2 0 16
theorem q_R_15 (h : q_R q_TTs x m) (e : q_eq15 m z) : q_R q_TTs x z := by
  obtain ⟨e1, e2, e3⟩ := e
  unfold q_R q_R1 q_R2 q_R3 q_R4 q_R5 q_R6 q_R7 q_R8 q_TTs at *
  rw [e2, e3]
  simp only [e1 1 (by decide) (by decide), e1 2 (by decide) (by decide), e1 3 (by decide) (by decide), e1 4 (by decide) (by decide), e1 5 (by decide) (by decide), e1 6 (by decide) (by decide), e1 7 (by decide) (by decide), e1 8 (by decide) (by decide), e1 9 (by decide) (by decide), e1 10 (by decide) (by decide), e1 11 (by decide) (by decide), e1 12 (by decide) (by decide), e1 13 (by decide) (by decide), e1 14 (by decide) (by decide), e1 15 (by decide) (by decide)]
  exact h
theorem q_eqL_15 (e : q_eqL m z) : q_eq15 m z := ⟨fun i h1 h2 => e.1 i (q_beqF (by omega)) (q_beqF (by omega)), by rw [e.2.2], by rw [e.2.2]⟩
theorem q_eqL_ms (e : q_eqL m z) (u : Nat) (Q : Nat → Int64) : q_eq15 (q_ms u (q_svW m) Q) (q_ms u (q_svW z) Q) := by
  refine ⟨fun i h1 h2 => ?_, rfl, rfl⟩
  rcases (by omega : i = 1 ∨ i = 2 ∨ i = 3 ∨ i = 4 ∨ i = 5 ∨ i = 6 ∨ i = 7 ∨ i = 8 ∨ i = 9 ∨ i = 10 ∨ i = 11 ∨ i = 12 ∨ i = 13 ∨ i = 14 ∨ i = 15) with rfl | rfl | rfl | rfl | rfl | rfl | rfl | rfl | rfl | rfl | rfl | rfl | rfl | rfl | rfl
  · funext k; exact congrFun (e.1 16 rfl rfl) _
  · funext k; exact congrFun (e.1 17 rfl rfl) _
  · funext k; exact congrFun (e.1 18 rfl rfl) _
  · funext k; exact congrFun (e.1 19 rfl rfl) _
  · funext k; exact congrFun (e.1 20 rfl rfl) _
  · funext k; exact congrFun (e.1 21 rfl rfl) _
  · funext k; exact congrFun (e.1 22 rfl rfl) _
  · funext k; exact congrFun (e.1 23 rfl rfl) _
  · funext k; exact congrFun (e.1 24 rfl rfl) _
  · funext k; exact congrFun (e.1 25 rfl rfl) _
  · funext k; exact congrFun (e.1 26 rfl rfl) _
  · funext k; exact congrFun (e.1 27 rfl rfl) _
  · funext k; exact congrFun (e.1 28 rfl rfl) _
  · funext k; exact congrFun (e.1 29 rfl rfl) _
  · funext k; exact congrFun (e.1 30 rfl rfl) _
/-- alike, whatever is said of what is saved -/
theorem q_RO_s (h : q_RO m x m) : q_R q_TTs x m := by
  have t := q_R_t h
  exact q_R_TT h ⟨t.1, t.2.1, by have := t.2.2.1; rwa [Int64.add_zero] at this⟩
theorem q_RO_of (h : q_R q_TTs x m) : q_RO m x m := by
  have t := q_R_t h
  exact q_R_TT h ⟨t.1, t.2.1, by rw [Int64.add_zero]; exact t.2.2, rfl, rfl, rfl⟩
/-- a letter -/
theorem q_l7 : ∀ j, j < 128 → q_chr (vp_nar .byte (Int32.ofNat j).toInt8.toInt32) = Int32.ofNat j ∧ q_chr (Int32.ofNat j) = Int32.ofNat j ∧ vp_nar .char (Int32.ofNat j) = Int32.ofNat j := by decide +kernel
theorem q_l7r {v : Int32} (h : q_rgz 0 127 v) : q_chr (vp_nar .byte v.toInt8.toInt32) = v ∧ q_chr v = v ∧ vp_nar .char v = v := by
  have h0 := h.1
  have h1 := h.2
  have t := q_l7 v.toInt.toNat (by omega)
  rw [q_ofn h] at t
  exact t
/-- n letters stand, alike in the class' builder b and in the model z; the rest of the model as in m -/
def q_WL (c d : Int) (m : q_S) (n : Nat) (b z : q_S) : Prop := q_eqL m z ∧ q_Iv c d n z ∧ (b.2.1 0 3).toInt = n ∧ z.2.1 0 35 = b.2.1 0 3 ∧ ∀ i, i < n → q_chr (b.1 1 i) = z.1 32 i
def q_bp (b : q_S) (n : Nat) (v : Int32) : q_S := q_sA (q_sI b 0 3 (b.2.1 0 3 + 1)) 1 (upd (b.1 1) n (vp_nar .byte v.toInt8.toInt32))
def q_zp (z : q_S) (n : Nat) (v : Int32) : q_S := q_sI (q_sA z 32 (upd (z.1 32) n v)) 0 35 (z.2.1 0 35 + 1)
theorem q_b332 {v : Int32} (h0 : 0 ≤ v.toInt) (h : v.toInt ≤ 16) : dz_B331_64 b v = some b := by
  unfold dz_B331_64
  have e : (v - 16).toInt = v.toInt - 16 := q_subI ⟨by omega, by omega⟩ ⟨by decide, by decide⟩
  have z0 : (0 : Int32).toInt = 0 := rfl
  rw [q_lt_F (by omega)]
  rfl
end
