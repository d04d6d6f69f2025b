/-! ===== calls without arguments ===== -/
theorem q_opV_ck {n kX kM : Nat} {v : Value} (h1 : q_ckV (q_eX n kX [.ref 64]) v = true) (h2 : q_ckV (q_eM n kM [.ref 64]) v = true) : q_opV kX kM v := by
  obtain ⟨g, e1, a, b⟩ := q_ckV_of h1
  obtain ⟨g2, e2, c, d⟩ := q_ckV_of h2
  exact ⟨g, g2, ⟨n, e1⟩, ⟨n, e2⟩, a, b, c, d⟩
set_option maxRecDepth 100000 in
theorem q_op_status : ∃ b, q_opV 39 290 (.int b) := ⟨_, q_opV_ck (v := (.int 52)) (n := 3000) (by decide +kernel) (by decide +kernel)⟩
set_option maxRecDepth 100000 in
theorem q_op_reset : ∃ b, q_opV 40 291 (.int b) := ⟨_, q_opV_ck (v := (.int 0)) (n := 3000) (by decide +kernel) (by decide +kernel)⟩
set_option maxRecDepth 100000 in
theorem q_op_freeze : ∃ b, q_opV 41 292 (.int b) := ⟨_, q_opV_ck (v := (.int 0)) (n := 3000) (by decide +kernel) (by decide +kernel)⟩
set_option maxRecDepth 100000 in
theorem q_op_cycle : ∃ b, q_opV 44 238 (.long b) := ⟨_, q_opV_ck (v := (.long 0)) (n := 3000) (by decide +kernel) (by decide +kernel)⟩
set_option maxRecDepth 100000 in
theorem q_op_isPictures : ∃ b, q_opV 45 239 (.int b) := ⟨_, q_opV_ck (v := (.int 0)) (n := 3000) (by decide +kernel) (by decide +kernel)⟩
set_option maxRecDepth 100000 in
theorem q_op_underWay : ∃ b, q_opV 46 240 (.int b) := ⟨_, q_opV_ck (v := (.int 0)) (n := 3000) (by decide +kernel) (by decide +kernel)⟩
set_option maxRecDepth 100000 in
theorem q_op_done : ∃ b, q_opV 47 241 (.int b) := ⟨_, q_opV_ck (v := (.int 0)) (n := 3000) (by decide +kernel) (by decide +kernel)⟩
set_option maxRecDepth 100000 in
theorem q_op_isJammed : ∃ b, q_opV 48 242 (.int b) := ⟨_, q_opV_ck (v := (.int 0)) (n := 3000) (by decide +kernel) (by decide +kernel)⟩
set_option maxRecDepth 100000 in
theorem q_op_rewind : ∃ b, q_opV 58 302 (.int b) := ⟨_, q_opV_ck (v := (.int 0)) (n := 3000) (by decide +kernel) (by decide +kernel)⟩
set_option maxRecDepth 100000 in
theorem q_op_pulsesLeft : ∃ b, q_opV 59 303 (.int b) := ⟨_, q_opV_ck (v := (.int 0)) (n := 3000) (by decide +kernel) (by decide +kernel)⟩
set_option maxRecDepth 100000 in
theorem q_op_startRecord : ∃ b, q_opV 63 310 (.int b) := ⟨_, q_opV_ck (v := (.int 0)) (n := 3000) (by decide +kernel) (by decide +kernel)⟩
set_option maxRecDepth 100000 in
theorem q_op_sumOfPicture : ∃ b, q_opV 66 313 (.int b) := ⟨_, q_opV_ck (v := (.int 0)) (n := 30000) (by decide +kernel) (by decide +kernel)⟩
set_option maxRecDepth 100000 in
theorem q_op_pictures : ∃ b, q_opV 67 314 (.long b) := ⟨_, q_opV_ck (v := (.long 0)) (n := 3000) (by decide +kernel) (by decide +kernel)⟩
set_option maxRecDepth 100000 in
theorem q_op_solidShare : q_opV 68 315 (.float 0) := q_opV_ck (v := (.float 0)) (n := 30000) (by decide +kernel) (by decide +kernel)
set_option maxRecDepth 100000 in
theorem q_op_meanSample : q_opV 69 316 (.double 0) := q_opV_ck (v := (.double 0)) (n := 3000) (by decide +kernel) (by decide +kernel)
set_option maxRecDepth 100000 in
theorem q_op_recorded : ∃ (r b : Int32) (w : Int64), q_opX 25 [] r w ∧ q_opM 311 [] r (.int b) ∧ (r = 0 → w = b.toInt64) := ⟨1, 0, 0, q_opX_ck 3000 (by decide +kernel), q_opM_ck 3000 (by decide +kernel), fun h => absurd h (by decide)⟩
set_option maxRecDepth 100000 in
theorem q_op_isSame : ∃ (r b : Int32) (w : Int64), q_opX 26 [] r w ∧ q_opM 312 [] r (.int b) ∧ (r = 0 → w = b.toInt64) ∧ (b = 0 ∨ b = 1) := ⟨1, 0, 0, q_opX_ck 3000 (by decide +kernel), q_opM_ck 3000 (by decide +kernel), fun h => absurd h (by decide), Or.inl rfl⟩
set_option maxRecDepth 100000 in
theorem q_op_step : ∃ (r b : Int32) (w : Int64), q_opX 12 [] r w ∧ q_opM 237 [] r (.int b) ∧ (r = 0 → w = b.toInt64) := ⟨0, 2, 2, q_opX_ck 3000 (by decide +kernel), q_opM_ck 3000 (by decide +kernel), fun _ => rfl⟩
