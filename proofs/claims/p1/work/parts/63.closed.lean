/-! ===== calls without arguments, computed ===== -/
def q_vEq (u v : Value) : Bool := match u, v with
  | .int a, .int b => decide (a = b)
  | .long a, .long b => decide (a = b)
  | .float a, .float b => decide (a = b)
  | .double a, .double b => decide (a = b)
  | _, _ => false
theorem q_vEq_eq {u v : Value} (h : q_vEq u v = true) : u = v := by
  unfold q_vEq at h
  split at h
  · rw [of_decide_eq_true h]
  · rw [of_decide_eq_true h]
  · rw [of_decide_eq_true h]
  · rw [of_decide_eq_true h]
  · cases h
noncomputable def q_eX (n k : Nat) (as : List Value) : Option q_Out := q_exec q_mt (q_mtab q_TB0) n 12 k as (q_cX q_AX q_IX q_J0, 40, 26520)
noncomputable def q_eM (n k : Nat) (as : List Value) : Option q_Out := q_exec q_mt (q_mtab q_TB0) n 12 k as (q_cM q_AM q_IM q_J0, 34, 31630)
def q_ckV (o : Option q_Out) (v : Value) : Bool := match o with
  | some (.inl (some u), h2) => q_vEq u v && (Nat.ble h2.2.1 100000 && Nat.ble h2.2.2 1000000)
  | _ => false
theorem q_ckV_of {o : Option q_Out} {v : Value} (h : q_ckV o v = true) : ∃ h2, o = some (.inl (some v), h2) ∧ h2.2.1 ≤ 100000 ∧ h2.2.2 ≤ 1000000 := by
  unfold q_ckV at h
  split at h
  · rename_i u h2
    rw [Bool.and_eq_true, Bool.and_eq_true] at h
    obtain ⟨a, b, c⟩ := h
    exact ⟨h2, by rw [q_vEq_eq a], Nat.le_of_ble_eq_true b, Nat.le_of_ble_eq_true c⟩
  · cases h
def q_ckO (o : Option q_Out) (r : Int32) (w : Int64) : Bool := match o with
  | some (.inl (some (.int u)), h2) => match (h2.1[39]? : Option q_C) with
    | some (.inl (2, 1, .inr (.inl f))) => decide (u = r) && ((!(decide (r = 0)) || decide (f 0 = w)) && (Nat.ble h2.2.1 100000 && Nat.ble h2.2.2 1000000))
    | _ => false
  | _ => false
theorem q_ckO_of {o : Option q_Out} {r : Int32} {w : Int64} (h : q_ckO o r w = true) : ∃ h2 f, o = some (.inl (some (.int r)), h2) ∧ h2.1[39]? = some (.inl (2, 1, .inr (.inl f))) ∧ (r = 0 → f 0 = w) ∧ h2.2.1 ≤ 100000 ∧ h2.2.2 ≤ 1000000 := by
  unfold q_ckO at h
  split at h
  · rename_i u h2
    split at h
    · rename_i f e
      rw [Bool.and_eq_true, Bool.and_eq_true, Bool.and_eq_true] at h
      obtain ⟨a, b, c, d⟩ := h
      refine ⟨h2, f, by rw [of_decide_eq_true a], e, fun hr => ?_, Nat.le_of_ble_eq_true c, Nat.le_of_ble_eq_true d⟩
      rw [decide_eq_true hr] at b
      exact of_decide_eq_true b
    · cases h
  · cases h
def q_ckM (o : Option q_Out) (r b : Int32) : Bool := match o with
  | some (.inl (some (.int u)), h2) => match (h2.1[0]? : Option q_C) with
    | some (.inr (14, fs)) => match (fs[39]? : Option Value) with
      | some (.int q) => decide (u = b) && (decide (q = r) && (Nat.ble h2.2.1 100000 && Nat.ble h2.2.2 1000000))
      | _ => false
    | _ => false
  | _ => false
theorem q_ckM_of {o : Option q_Out} {r b : Int32} (h : q_ckM o r b = true) : ∃ h2 fs, o = some (.inl (some (.int b)), h2) ∧ h2.1[0]? = some (.inr (14, fs)) ∧ fs[39]? = some (.int r) ∧ h2.2.1 ≤ 100000 ∧ h2.2.2 ≤ 1000000 := by
  unfold q_ckM at h
  split at h
  · rename_i u h2
    split at h
    · rename_i fs e
      split at h
      · rename_i q e2
        rw [Bool.and_eq_true, Bool.and_eq_true, Bool.and_eq_true] at h
        obtain ⟨a, b, c, d⟩ := h
        exact ⟨h2, fs, by rw [of_decide_eq_true a], e, by rw [e2, of_decide_eq_true b], Nat.le_of_ble_eq_true c, Nat.le_of_ble_eq_true d⟩
      · cases h
    · cases h
  · cases h
theorem q_opV_ck {n kX kM : Nat} {v : Value} (h1 : q_ckV (q_eX n kX [.ref 64]) v = true) (h2 : q_ckV (q_eM n kM [.ref 64]) v = true) : q_opV kX kM v := by
  obtain ⟨g, e1, a, b⟩ := q_ckV_of h1
  obtain ⟨g2, e2, c, d⟩ := q_ckV_of h2
  exact ⟨g, g2, ⟨n, e1⟩, ⟨n, e2⟩, a, b, c, d⟩
theorem q_opX_ck (n : Nat) {k : Nat} {as : List Value} {r : Int32} {w : Int64} (h : q_ckO (q_eX n k (.ref 64 :: (as ++ [.ref 103]))) r w = true) : q_opX k as r w := by
  obtain ⟨h2, f, e, x⟩ := q_ckO_of h
  exact ⟨h2, f, ⟨n, e⟩, x⟩
theorem q_opM_ck (n : Nat) {k : Nat} {as : List Value} {r b : Int32} (h : q_ckM (q_eM n k (.ref 64 :: as)) r b = true) : q_opM k as r (.int b) := by
  obtain ⟨h2, fs, e, x⟩ := q_ckM_of h
  exact ⟨h2, fs, ⟨n, e⟩, x⟩
set_option maxRecDepth 100000 in
theorem q_op_status : ∃ b, q_opV 39 290 (.int b) := ⟨_, q_opV_ck (v := (.int 52)) (n := 3000) (by decide +kernel) (by decide +kernel)⟩
set_option maxRecDepth 100000 in
theorem q_op_reset : ∃ b, q_opV 40 291 (.int b) := ⟨_, q_opV_ck (v := (.int 0)) (n := 3000) (by decide +kernel) (by decide +kernel)⟩
set_option maxRecDepth 100000 in
theorem q_op_freeze : ∃ b, q_opV 41 292 (.int b) := ⟨_, q_opV_ck (v := (.int 0)) (n := 3000) (by decide +kernel) (by decide +kernel)⟩
set_option maxRecDepth 100000 in
theorem q_op_cycle : ∃ b, q_opV 44 238 (.long b) := ⟨_, q_opV_ck (v := (.long 0)) (n := 3000) (by decide +kernel) (by decide +kernel)⟩
set_option maxRecDepth 100000 in
theorem q_op_isPictures : ∃ b, q_opV 45 239 (.int b) := ⟨_, q_opV_ck (v := (.int 0)) (n := 3000) (by decide +kernel) (by decide +kernel)⟩
set_option maxRecDepth 100000 in
theorem q_op_underWay : ∃ b, q_opV 46 240 (.int b) := ⟨_, q_opV_ck (v := (.int 0)) (n := 3000) (by decide +kernel) (by decide +kernel)⟩
set_option maxRecDepth 100000 in
theorem q_op_done : ∃ b, q_opV 47 241 (.int b) := ⟨_, q_opV_ck (v := (.int 0)) (n := 3000) (by decide +kernel) (by decide +kernel)⟩
set_option maxRecDepth 100000 in
theorem q_op_isJammed : ∃ b, q_opV 48 242 (.int b) := ⟨_, q_opV_ck (v := (.int 0)) (n := 3000) (by decide +kernel) (by decide +kernel)⟩
set_option maxRecDepth 100000 in
theorem q_op_rewind : ∃ b, q_opV 58 302 (.int b) := ⟨_, q_opV_ck (v := (.int 0)) (n := 3000) (by decide +kernel) (by decide +kernel)⟩
set_option maxRecDepth 100000 in
theorem q_op_pulsesLeft : ∃ b, q_opV 59 303 (.int b) := ⟨_, q_opV_ck (v := (.int 0)) (n := 3000) (by decide +kernel) (by decide +kernel)⟩
set_option maxRecDepth 100000 in
theorem q_op_startRecord : ∃ b, q_opV 63 310 (.int b) := ⟨_, q_opV_ck (v := (.int 0)) (n := 3000) (by decide +kernel) (by decide +kernel)⟩
set_option maxRecDepth 100000 in
theorem q_op_sumOfPicture : ∃ b, q_opV 66 313 (.int b) := ⟨_, q_opV_ck (v := (.int 0)) (n := 30000) (by decide +kernel) (by decide +kernel)⟩
set_option maxRecDepth 100000 in
theorem q_op_pictures : ∃ b, q_opV 67 314 (.long b) := ⟨_, q_opV_ck (v := (.long 0)) (n := 3000) (by decide +kernel) (by decide +kernel)⟩
set_option maxRecDepth 100000 in
theorem q_op_solidShare : q_opV 68 315 (.float 0) := q_opV_ck (v := (.float 0)) (n := 30000) (by decide +kernel) (by decide +kernel)
set_option maxRecDepth 100000 in
theorem q_op_meanSample : q_opV 69 316 (.double 0) := q_opV_ck (v := (.double 0)) (n := 3000) (by decide +kernel) (by decide +kernel)
set_option maxRecDepth 100000 in
theorem q_op_recorded : ∃ (r b : Int32) (w : Int64), q_opX 25 [] r w ∧ q_opM 311 [] r (.int b) ∧ (r = 0 → w = b.toInt64) := ⟨1, 0, 0, q_opX_ck 3000 (by decide +kernel), q_opM_ck 3000 (by decide +kernel), fun h => absurd h (by decide)⟩
set_option maxRecDepth 100000 in
theorem q_op_isSame : ∃ (r b : Int32) (w : Int64), q_opX 26 [] r w ∧ q_opM 312 [] r (.int b) ∧ (r = 0 → w = b.toInt64) ∧ (b = 0 ∨ b = 1) := ⟨1, 0, 0, q_opX_ck 3000 (by decide +kernel), q_opM_ck 3000 (by decide +kernel), fun h => absurd h (by decide), Or.inl rfl⟩
set_option maxRecDepth 100000 in
theorem q_op_step : ∃ (r b : Int32) (w : Int64), q_opX 12 [] r w ∧ q_opM 237 [] r (.int b) ∧ (r = 0 → w = b.toInt64) := ⟨0, 2, 2, q_opX_ck 3000 (by decide +kernel), q_opM_ck 3000 (by decide +kernel), fun _ => rfl⟩
