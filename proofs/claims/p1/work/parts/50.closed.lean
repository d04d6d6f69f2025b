/-! ===== calls without arguments, computed ===== -/
def q_vEq (u v : Value) : Bool := match u, v with
  | .int a, .int b => decide (a = b)
  | .long a, .long b => decide (a = b)
  | .float a, .float b => decide (a = b)
  | .double a, .double b => decide (a = b)
  | _, _ => false
theorem q_vEq_eq {u v : Value} (h : q_vEq u v = true) : u = v := by
  unfold q_vEq at h
  split at h
  · rw [of_decide_eq_true h]
  · rw [of_decide_eq_true h]
  · rw [of_decide_eq_true h]
  · rw [of_decide_eq_true h]
  · cases h
noncomputable def q_eX (n k : Nat) (as : List Value) : Option q_Out := q_exec q_mt (q_mtab q_TB0) n 12 k as (q_cX q_AX q_IX q_J0, 40, 26520)
noncomputable def q_eM (n k : Nat) (as : List Value) : Option q_Out := q_exec q_mt (q_mtab q_TB0) n 12 k as (q_cM q_AM q_IM q_J0, 34, 31630)
def q_ckV (o : Option q_Out) (v : Value) : Bool := match o with
  | some (.inl (some u), h2) => q_vEq u v && (Nat.ble h2.2.1 100000 && Nat.ble h2.2.2 1000000)
  | _ => false
theorem q_ckV_of {o : Option q_Out} {v : Value} (h : q_ckV o v = true) : ∃ h2, o = some (.inl (some v), h2) ∧ h2.2.1 ≤ 100000 ∧ h2.2.2 ≤ 1000000 := by
  unfold q_ckV at h
  split at h
  · rename_i u h2
    rw [Bool.and_eq_true, Bool.and_eq_true] at h
    obtain ⟨a, b, c⟩ := h
    exact ⟨h2, by rw [q_vEq_eq a], Nat.le_of_ble_eq_true b, Nat.le_of_ble_eq_true c⟩
  · cases h
def q_ckO (o : Option q_Out) (r : Int32) (w : Int64) : Bool := match o with
  | some (.inl (some (.int u)), h2) => match (h2.1[39]? : Option q_C) with
    | some (.inl (2, 1, .inr (.inl f))) => decide (u = r) && ((!(decide (r = 0)) || decide (f 0 = w)) && (Nat.ble h2.2.1 100000 && Nat.ble h2.2.2 1000000))
    | _ => false
  | _ => false
theorem q_ckO_of {o : Option q_Out} {r : Int32} {w : Int64} (h : q_ckO o r w = true) : ∃ h2 f, o = some (.inl (some (.int r)), h2) ∧ h2.1[39]? = some (.inl (2, 1, .inr (.inl f))) ∧ (r = 0 → f 0 = w) ∧ h2.2.1 ≤ 100000 ∧ h2.2.2 ≤ 1000000 := by
  unfold q_ckO at h
  split at h
  · rename_i u h2
    split at h
    · rename_i f e
      rw [Bool.and_eq_true, Bool.and_eq_true, Bool.and_eq_true] at h
      obtain ⟨a, b, c, d⟩ := h
      refine ⟨h2, f, by rw [of_decide_eq_true a], e, fun hr => ?_, Nat.le_of_ble_eq_true c, Nat.le_of_ble_eq_true d⟩
      rw [decide_eq_true hr] at b
      exact of_decide_eq_true b
    · cases h
  · cases h
def q_ckM (o : Option q_Out) (r b : Int32) : Bool := match o with
  | some (.inl (some (.int u)), h2) => match (h2.1[0]? : Option q_C) with
    | some (.inr (14, fs)) => match (fs[39]? : Option Value) with
      | some (.int q) => decide (u = b) && (decide (q = r) && (Nat.ble h2.2.1 100000 && Nat.ble h2.2.2 1000000))
      | _ => false
    | _ => false
  | _ => false
theorem q_ckM_of {o : Option q_Out} {r b : Int32} (h : q_ckM o r b = true) : ∃ h2 fs, o = some (.inl (some (.int b)), h2) ∧ h2.1[0]? = some (.inr (14, fs)) ∧ fs[39]? = some (.int r) ∧ h2.2.1 ≤ 100000 ∧ h2.2.2 ≤ 1000000 := by
  unfold q_ckM at h
  split at h
  · rename_i u h2
    split at h
    · rename_i fs e
      split at h
      · rename_i q e2
        rw [Bool.and_eq_true, Bool.and_eq_true, Bool.and_eq_true] at h
        obtain ⟨a, b, c, d⟩ := h
        exact ⟨h2, fs, by rw [of_decide_eq_true a], e, by rw [e2, of_decide_eq_true b], Nat.le_of_ble_eq_true c, Nat.le_of_ble_eq_true d⟩
      · cases h
    · cases h
  · cases h
theorem q_opX_ck (n : Nat) {k : Nat} {as : List Value} {r : Int32} {w : Int64} (h : q_ckO (q_eX n k (.ref 64 :: (as ++ [.ref 103]))) r w = true) : q_opX k as r w := by
  obtain ⟨h2, f, e, x⟩ := q_ckO_of h
  exact ⟨h2, f, ⟨n, e⟩, x⟩
theorem q_opM_ck (n : Nat) {k : Nat} {as : List Value} {r b : Int32} (h : q_ckM (q_eM n k (.ref 64 :: as)) r b = true) : q_opM k as r (.int b) := by
  obtain ⟨h2, fs, e, x⟩ := q_ckM_of h
  exact ⟨h2, fs, ⟨n, e⟩, x⟩
