section
-- 57.pe
section
variable {s t9 y r : q_S} {c d u K : Int} {t : Int64} {l : Int32} {b9 : Bool}
/-- in an action (false) or behind a cycle's drawing (true: then the processor isn't jammed, and P is told) -/
def q_dd (b9 : Bool) : Int := cond b9 1 0
theorem q_ddb (b9 : Bool) : 0 ≤ q_dd b9 ∧ q_dd b9 ≤ 1 := by cases b9 <;> exact ⟨by decide, by decide⟩
/-- what the cells hold that a processor's work asks of -/
def q_RI (b9 : Bool) (s : q_S) : Prop := (∀ k, k < 4096 → q_rgz 0 255 (s.1 3 k)) ∧ (∀ k, k < 48 → q_rgz 0 255 (s.1 4 k)) ∧ (∀ k, k < 512 → q_rgz 0 255 (s.1 5 k)) ∧ (∀ k, k < 2048 → q_rgz 0 255 (s.1 6 k)) ∧ (∀ k, k < 2 → q_rgz 0 65535 (s.1 7 k)) ∧ (∀ k, k < 16 → q_rgz 0 15 (s.1 12 k)) ∧ q_rgz 0 15 (s.1 4 0) ∧ q_rgz 0 1 (s.1 4 44) ∧ q_rgz 0 255 (s.2.1 23 0) ∧ q_rgz 0 255 (s.2.1 23 1) ∧ q_rgz 0 255 (s.2.1 23 2) ∧ q_rgz 0 255 (s.2.1 23 3) ∧ (b9 = true → q_rgz 0 4095 (s.2.1 23 4)) ∧ q_rgz 0 255 (s.2.1 23 5) ∧ q_rgz 0 1 (s.2.1 23 6) ∧ q_rgz 0 1 (s.2.1 23 7) ∧ q_rgz 0 15 (s.2.1 10 2) ∧ q_rgz 0 1 (s.2.1 8 4) ∧ 0 ≤ (s.2.2 1 8).toInt
def q_iY (b9 : Bool) (u : Int) (t : Int64) (l : Int32) (K : Int) (s : q_S) : Prop := q_iP K (q_dd b9) u s ∧ q_RI b9 s ∧ s.2.2 1 8 = t ∧ s.2.1 23 9 = l
theorem q_iY_le {K2 : Int} (h : q_iY b9 u t l K s) (hk : K ≤ K2) : q_iY b9 u t l K2 s := ⟨q_iP_mono hk (Int.le_refl u) h.1, h.2⟩
theorem q_ixlt {l v : Int} {n : Nat} {x : Int32} (h : q_rgz l v x) (h0 : 0 ≤ l) (h1 : v < (n : Int)) : x.toNatClampNeg < n := by
  obtain ⟨a, b⟩ := h
  show x.toInt.toNat < n
  omega
theorem q_rg_sh8 {l v U : Int} {x : Int32} (h : q_rgz l v x) (h0 : 0 ≤ l) (h1 : v / 256 ≤ U) : q_rgz 0 U (x >>> ((8 &&& 31) : Int32)) := by
  have e : (x >>> ((8 &&& 31) : Int32)).toInt = x.toInt / 2 ^ 8 := q_shrI 8 (by decide) (by decide)
  obtain ⟨a, b⟩ := h
  exact ⟨by rw [e]; omega, by rw [e]; omega⟩
theorem q_ri3 (h : q_iY b9 u t l K s) {k : Nat} (hk : k < 4096) : q_rgz 0 255 (s.1 3 k) := h.2.1.1 k hk
theorem q_ri4 (h : q_iY b9 u t l K s) {k : Nat} (hk : k < 48) : q_rgz 0 255 (s.1 4 k) := h.2.1.2.1 k hk
theorem q_ri5 (h : q_iY b9 u t l K s) {k : Nat} (hk : k < 512) : q_rgz 0 255 (s.1 5 k) := h.2.1.2.2.1 k hk
theorem q_ri6 (h : q_iY b9 u t l K s) {k : Nat} (hk : k < 2048) : q_rgz 0 255 (s.1 6 k) := h.2.1.2.2.2.1 k hk
theorem q_ri7 (h : q_iY b9 u t l K s) {k : Nat} (hk : k < 2) : q_rgz 0 65535 (s.1 7 k) := h.2.1.2.2.2.2.1 k hk
theorem q_ri12 (h : q_iY b9 u t l K s) {k : Nat} (hk : k < 16) : q_rgz 0 15 (s.1 12 k) := h.2.1.2.2.2.2.2.1 k hk
theorem q_ri40 (h : q_iY b9 u t l K s) : q_rgz 0 15 (s.1 4 0) := h.2.1.2.2.2.2.2.2.1
theorem q_ri44 (h : q_iY b9 u t l K s) : q_rgz 0 1 (s.1 4 44) := h.2.1.2.2.2.2.2.2.2.1
theorem q_rf23_0 (h : q_iY b9 u t l K s) : q_rgz 0 255 (s.2.1 23 0) := h.2.1.2.2.2.2.2.2.2.2.1
theorem q_rf23_1 (h : q_iY b9 u t l K s) : q_rgz 0 255 (s.2.1 23 1) := h.2.1.2.2.2.2.2.2.2.2.2.1
theorem q_rf23_2 (h : q_iY b9 u t l K s) : q_rgz 0 255 (s.2.1 23 2) := h.2.1.2.2.2.2.2.2.2.2.2.2.1
theorem q_rf23_3 (h : q_iY b9 u t l K s) : q_rgz 0 255 (s.2.1 23 3) := h.2.1.2.2.2.2.2.2.2.2.2.2.2.1
theorem q_rf23_4 (h : q_iY true u t l K s) : q_rgz 0 4095 (s.2.1 23 4) := h.2.1.2.2.2.2.2.2.2.2.2.2.2.2.1 rfl
theorem q_rf23_5 (h : q_iY b9 u t l K s) : q_rgz 0 255 (s.2.1 23 5) := h.2.1.2.2.2.2.2.2.2.2.2.2.2.2.2.1
theorem q_rf23_6 (h : q_iY b9 u t l K s) : q_rgz 0 1 (s.2.1 23 6) := h.2.1.2.2.2.2.2.2.2.2.2.2.2.2.2.2.1
theorem q_rf23_7 (h : q_iY b9 u t l K s) : q_rgz 0 1 (s.2.1 23 7) := h.2.1.2.2.2.2.2.2.2.2.2.2.2.2.2.2.2.1
theorem q_rf10_2 (h : q_iY b9 u t l K s) : q_rgz 0 15 (s.2.1 10 2) := h.2.1.2.2.2.2.2.2.2.2.2.2.2.2.2.2.2.2.1
theorem q_rf8_4 (h : q_iY b9 u t l K s) : q_rgz 0 1 (s.2.1 8 4) := h.2.1.2.2.2.2.2.2.2.2.2.2.2.2.2.2.2.2.2.1
theorem q_iY_F0 {x : Int32} (h : q_iY b9 u t l K s) (hx : q_rgz 0 255 x) : q_iY b9 u t l K (q_sI s 23 0 x) := ⟨q_iP_eq (s := s) rfl rfl rfl rfl rfl rfl rfl rfl rfl rfl rfl rfl rfl rfl h.1, ⟨h.2.1.1, h.2.1.2.1, h.2.1.2.2.1, h.2.1.2.2.2.1, h.2.1.2.2.2.2.1, h.2.1.2.2.2.2.2.1, h.2.1.2.2.2.2.2.2.1, h.2.1.2.2.2.2.2.2.2.1, hx, h.2.1.2.2.2.2.2.2.2.2.2.1, h.2.1.2.2.2.2.2.2.2.2.2.2.1, h.2.1.2.2.2.2.2.2.2.2.2.2.2.1, h.2.1.2.2.2.2.2.2.2.2.2.2.2.2.1, h.2.1.2.2.2.2.2.2.2.2.2.2.2.2.2.1, h.2.1.2.2.2.2.2.2.2.2.2.2.2.2.2.2.1, h.2.1.2.2.2.2.2.2.2.2.2.2.2.2.2.2.2.1, h.2.1.2.2.2.2.2.2.2.2.2.2.2.2.2.2.2.2.1, h.2.1.2.2.2.2.2.2.2.2.2.2.2.2.2.2.2.2.2.1, h.2.1.2.2.2.2.2.2.2.2.2.2.2.2.2.2.2.2.2.2⟩, h.2.2⟩
theorem q_iY_F1 {x : Int32} (h : q_iY b9 u t l K s) (hx : q_rgz 0 255 x) : q_iY b9 u t l K (q_sI s 23 1 x) := ⟨q_iP_eq (s := s) rfl rfl rfl rfl rfl rfl rfl rfl rfl rfl rfl rfl rfl rfl h.1, ⟨h.2.1.1, h.2.1.2.1, h.2.1.2.2.1, h.2.1.2.2.2.1, h.2.1.2.2.2.2.1, h.2.1.2.2.2.2.2.1, h.2.1.2.2.2.2.2.2.1, h.2.1.2.2.2.2.2.2.2.1, h.2.1.2.2.2.2.2.2.2.2.1, hx, h.2.1.2.2.2.2.2.2.2.2.2.2.1, h.2.1.2.2.2.2.2.2.2.2.2.2.2.1, h.2.1.2.2.2.2.2.2.2.2.2.2.2.2.1, h.2.1.2.2.2.2.2.2.2.2.2.2.2.2.2.1, h.2.1.2.2.2.2.2.2.2.2.2.2.2.2.2.2.1, h.2.1.2.2.2.2.2.2.2.2.2.2.2.2.2.2.2.1, h.2.1.2.2.2.2.2.2.2.2.2.2.2.2.2.2.2.2.1, h.2.1.2.2.2.2.2.2.2.2.2.2.2.2.2.2.2.2.2.1, h.2.1.2.2.2.2.2.2.2.2.2.2.2.2.2.2.2.2.2.2⟩, h.2.2⟩
theorem q_iY_F2 {x : Int32} (h : q_iY b9 u t l K s) (hx : q_rgz 0 255 x) : q_iY b9 u t l K (q_sI s 23 2 x) := ⟨q_iP_eq (s := s) rfl rfl rfl rfl rfl rfl rfl rfl rfl rfl rfl rfl rfl rfl h.1, ⟨h.2.1.1, h.2.1.2.1, h.2.1.2.2.1, h.2.1.2.2.2.1, h.2.1.2.2.2.2.1, h.2.1.2.2.2.2.2.1, h.2.1.2.2.2.2.2.2.1, h.2.1.2.2.2.2.2.2.2.1, h.2.1.2.2.2.2.2.2.2.2.1, h.2.1.2.2.2.2.2.2.2.2.2.1, hx, h.2.1.2.2.2.2.2.2.2.2.2.2.2.1, h.2.1.2.2.2.2.2.2.2.2.2.2.2.2.1, h.2.1.2.2.2.2.2.2.2.2.2.2.2.2.2.1, h.2.1.2.2.2.2.2.2.2.2.2.2.2.2.2.2.1, h.2.1.2.2.2.2.2.2.2.2.2.2.2.2.2.2.2.1, h.2.1.2.2.2.2.2.2.2.2.2.2.2.2.2.2.2.2.1, h.2.1.2.2.2.2.2.2.2.2.2.2.2.2.2.2.2.2.2.1, h.2.1.2.2.2.2.2.2.2.2.2.2.2.2.2.2.2.2.2.2⟩, h.2.2⟩
theorem q_iY_F3 {x : Int32} (h : q_iY b9 u t l K s) (hx : q_rgz 0 255 x) : q_iY b9 u t l K (q_sI s 23 3 x) := ⟨q_iP_eq (s := s) rfl rfl rfl rfl rfl rfl rfl rfl rfl rfl rfl rfl rfl rfl h.1, ⟨h.2.1.1, h.2.1.2.1, h.2.1.2.2.1, h.2.1.2.2.2.1, h.2.1.2.2.2.2.1, h.2.1.2.2.2.2.2.1, h.2.1.2.2.2.2.2.2.1, h.2.1.2.2.2.2.2.2.2.1, h.2.1.2.2.2.2.2.2.2.2.1, h.2.1.2.2.2.2.2.2.2.2.2.1, h.2.1.2.2.2.2.2.2.2.2.2.2.1, hx, h.2.1.2.2.2.2.2.2.2.2.2.2.2.2.1, h.2.1.2.2.2.2.2.2.2.2.2.2.2.2.2.1, h.2.1.2.2.2.2.2.2.2.2.2.2.2.2.2.2.1, h.2.1.2.2.2.2.2.2.2.2.2.2.2.2.2.2.2.1, h.2.1.2.2.2.2.2.2.2.2.2.2.2.2.2.2.2.2.1, h.2.1.2.2.2.2.2.2.2.2.2.2.2.2.2.2.2.2.2.1, h.2.1.2.2.2.2.2.2.2.2.2.2.2.2.2.2.2.2.2.2⟩, h.2.2⟩
theorem q_iY_F4 {x : Int32} (h : q_iY b9 u t l K s) (hx : q_rgz 0 4095 x) : q_iY b9 u t l K (q_sI s 23 4 x) := ⟨q_iP_eq (s := s) rfl rfl rfl rfl rfl rfl rfl rfl rfl rfl rfl rfl rfl rfl h.1, ⟨h.2.1.1, h.2.1.2.1, h.2.1.2.2.1, h.2.1.2.2.2.1, h.2.1.2.2.2.2.1, h.2.1.2.2.2.2.2.1, h.2.1.2.2.2.2.2.2.1, h.2.1.2.2.2.2.2.2.2.1, h.2.1.2.2.2.2.2.2.2.2.1, h.2.1.2.2.2.2.2.2.2.2.2.1, h.2.1.2.2.2.2.2.2.2.2.2.2.1, h.2.1.2.2.2.2.2.2.2.2.2.2.2.1, fun _ => hx, h.2.1.2.2.2.2.2.2.2.2.2.2.2.2.2.1, h.2.1.2.2.2.2.2.2.2.2.2.2.2.2.2.2.1, h.2.1.2.2.2.2.2.2.2.2.2.2.2.2.2.2.2.1, h.2.1.2.2.2.2.2.2.2.2.2.2.2.2.2.2.2.2.1, h.2.1.2.2.2.2.2.2.2.2.2.2.2.2.2.2.2.2.2.1, h.2.1.2.2.2.2.2.2.2.2.2.2.2.2.2.2.2.2.2.2⟩, h.2.2⟩
theorem q_iY_F5 {x : Int32} (h : q_iY b9 u t l K s) (hx : q_rgz 0 255 x) : q_iY b9 u t l K (q_sI s 23 5 x) := ⟨q_iP_eq (s := s) rfl rfl rfl rfl rfl rfl rfl rfl rfl rfl rfl rfl rfl rfl h.1, ⟨h.2.1.1, h.2.1.2.1, h.2.1.2.2.1, h.2.1.2.2.2.1, h.2.1.2.2.2.2.1, h.2.1.2.2.2.2.2.1, h.2.1.2.2.2.2.2.2.1, h.2.1.2.2.2.2.2.2.2.1, h.2.1.2.2.2.2.2.2.2.2.1, h.2.1.2.2.2.2.2.2.2.2.2.1, h.2.1.2.2.2.2.2.2.2.2.2.2.1, h.2.1.2.2.2.2.2.2.2.2.2.2.2.1, h.2.1.2.2.2.2.2.2.2.2.2.2.2.2.1, hx, h.2.1.2.2.2.2.2.2.2.2.2.2.2.2.2.2.1, h.2.1.2.2.2.2.2.2.2.2.2.2.2.2.2.2.2.1, h.2.1.2.2.2.2.2.2.2.2.2.2.2.2.2.2.2.2.1, h.2.1.2.2.2.2.2.2.2.2.2.2.2.2.2.2.2.2.2.1, h.2.1.2.2.2.2.2.2.2.2.2.2.2.2.2.2.2.2.2.2⟩, h.2.2⟩
theorem q_iY_F6 {x : Int32} (h : q_iY b9 u t l K s) (hx : q_rgz 0 1 x) : q_iY b9 u t l K (q_sI s 23 6 x) := ⟨q_iP_eq (s := s) rfl rfl rfl rfl rfl rfl rfl rfl rfl rfl rfl rfl rfl rfl h.1, ⟨h.2.1.1, h.2.1.2.1, h.2.1.2.2.1, h.2.1.2.2.2.1, h.2.1.2.2.2.2.1, h.2.1.2.2.2.2.2.1, h.2.1.2.2.2.2.2.2.1, h.2.1.2.2.2.2.2.2.2.1, h.2.1.2.2.2.2.2.2.2.2.1, h.2.1.2.2.2.2.2.2.2.2.2.1, h.2.1.2.2.2.2.2.2.2.2.2.2.1, h.2.1.2.2.2.2.2.2.2.2.2.2.2.1, h.2.1.2.2.2.2.2.2.2.2.2.2.2.2.1, h.2.1.2.2.2.2.2.2.2.2.2.2.2.2.2.1, hx, h.2.1.2.2.2.2.2.2.2.2.2.2.2.2.2.2.2.1, h.2.1.2.2.2.2.2.2.2.2.2.2.2.2.2.2.2.2.1, h.2.1.2.2.2.2.2.2.2.2.2.2.2.2.2.2.2.2.2.1, h.2.1.2.2.2.2.2.2.2.2.2.2.2.2.2.2.2.2.2.2⟩, h.2.2⟩
theorem q_iY_F7 {x : Int32} (h : q_iY b9 u t l K s) (hx : q_rgz 0 1 x) : q_iY b9 u t l K (q_sI s 23 7 x) := ⟨q_iP_eq (s := s) rfl rfl rfl rfl rfl rfl rfl rfl rfl rfl rfl rfl rfl rfl h.1, ⟨h.2.1.1, h.2.1.2.1, h.2.1.2.2.1, h.2.1.2.2.2.1, h.2.1.2.2.2.2.1, h.2.1.2.2.2.2.2.1, h.2.1.2.2.2.2.2.2.1, h.2.1.2.2.2.2.2.2.2.1, h.2.1.2.2.2.2.2.2.2.2.1, h.2.1.2.2.2.2.2.2.2.2.2.1, h.2.1.2.2.2.2.2.2.2.2.2.2.1, h.2.1.2.2.2.2.2.2.2.2.2.2.2.1, h.2.1.2.2.2.2.2.2.2.2.2.2.2.2.1, h.2.1.2.2.2.2.2.2.2.2.2.2.2.2.2.1, h.2.1.2.2.2.2.2.2.2.2.2.2.2.2.2.2.1, hx, h.2.1.2.2.2.2.2.2.2.2.2.2.2.2.2.2.2.2.1, h.2.1.2.2.2.2.2.2.2.2.2.2.2.2.2.2.2.2.2.1, h.2.1.2.2.2.2.2.2.2.2.2.2.2.2.2.2.2.2.2.2⟩, h.2.2⟩
theorem q_iY_I8 {x : Int32} (h : q_iY b9 u t l K s) : q_iY b9 u t l K (q_sI s 23 8 x) := ⟨q_iP_eq (s := s) rfl rfl rfl rfl rfl rfl rfl rfl rfl rfl rfl rfl rfl rfl h.1, ⟨h.2.1.1, h.2.1.2.1, h.2.1.2.2.1, h.2.1.2.2.2.1, h.2.1.2.2.2.2.1, h.2.1.2.2.2.2.2.1, h.2.1.2.2.2.2.2.2.1, h.2.1.2.2.2.2.2.2.2.1, h.2.1.2.2.2.2.2.2.2.2.1, h.2.1.2.2.2.2.2.2.2.2.2.1, h.2.1.2.2.2.2.2.2.2.2.2.2.1, h.2.1.2.2.2.2.2.2.2.2.2.2.2.1, h.2.1.2.2.2.2.2.2.2.2.2.2.2.2.1, h.2.1.2.2.2.2.2.2.2.2.2.2.2.2.2.1, h.2.1.2.2.2.2.2.2.2.2.2.2.2.2.2.2.1, h.2.1.2.2.2.2.2.2.2.2.2.2.2.2.2.2.2.1, h.2.1.2.2.2.2.2.2.2.2.2.2.2.2.2.2.2.2.1, h.2.1.2.2.2.2.2.2.2.2.2.2.2.2.2.2.2.2.2.1, h.2.1.2.2.2.2.2.2.2.2.2.2.2.2.2.2.2.2.2.2⟩, h.2.2⟩
theorem q_iY_I10 {x : Int32} (h : q_iY b9 u t l K s) : q_iY b9 u t l K (q_sI s 23 10 x) := ⟨q_iP_eq (s := s) rfl rfl rfl rfl rfl rfl rfl rfl rfl rfl rfl rfl rfl rfl h.1, ⟨h.2.1.1, h.2.1.2.1, h.2.1.2.2.1, h.2.1.2.2.2.1, h.2.1.2.2.2.2.1, h.2.1.2.2.2.2.2.1, h.2.1.2.2.2.2.2.2.1, h.2.1.2.2.2.2.2.2.2.1, h.2.1.2.2.2.2.2.2.2.2.1, h.2.1.2.2.2.2.2.2.2.2.2.1, h.2.1.2.2.2.2.2.2.2.2.2.2.1, h.2.1.2.2.2.2.2.2.2.2.2.2.2.1, h.2.1.2.2.2.2.2.2.2.2.2.2.2.2.1, h.2.1.2.2.2.2.2.2.2.2.2.2.2.2.2.1, h.2.1.2.2.2.2.2.2.2.2.2.2.2.2.2.2.1, h.2.1.2.2.2.2.2.2.2.2.2.2.2.2.2.2.2.1, h.2.1.2.2.2.2.2.2.2.2.2.2.2.2.2.2.2.2.1, h.2.1.2.2.2.2.2.2.2.2.2.2.2.2.2.2.2.2.2.1, h.2.1.2.2.2.2.2.2.2.2.2.2.2.2.2.2.2.2.2.2⟩, h.2.2⟩
theorem q_iY_I11 {x : Int32} (h : q_iY b9 u t l K s) : q_iY b9 u t l K (q_sI s 23 11 x) := ⟨q_iP_eq (s := s) rfl rfl rfl rfl rfl rfl rfl rfl rfl rfl rfl rfl rfl rfl h.1, ⟨h.2.1.1, h.2.1.2.1, h.2.1.2.2.1, h.2.1.2.2.2.1, h.2.1.2.2.2.2.1, h.2.1.2.2.2.2.2.1, h.2.1.2.2.2.2.2.2.1, h.2.1.2.2.2.2.2.2.2.1, h.2.1.2.2.2.2.2.2.2.2.1, h.2.1.2.2.2.2.2.2.2.2.2.1, h.2.1.2.2.2.2.2.2.2.2.2.2.1, h.2.1.2.2.2.2.2.2.2.2.2.2.2.1, h.2.1.2.2.2.2.2.2.2.2.2.2.2.2.1, h.2.1.2.2.2.2.2.2.2.2.2.2.2.2.2.1, h.2.1.2.2.2.2.2.2.2.2.2.2.2.2.2.2.1, h.2.1.2.2.2.2.2.2.2.2.2.2.2.2.2.2.2.1, h.2.1.2.2.2.2.2.2.2.2.2.2.2.2.2.2.2.2.1, h.2.1.2.2.2.2.2.2.2.2.2.2.2.2.2.2.2.2.2.1, h.2.1.2.2.2.2.2.2.2.2.2.2.2.2.2.2.2.2.2.2⟩, h.2.2⟩
theorem q_iY_A24 {f : Nat → Int32} (h : q_iY b9 u t l K s) : q_iY b9 u t l K (q_sA s 24 f) := ⟨q_iP_eq (s := s) rfl rfl rfl rfl rfl rfl rfl rfl rfl rfl rfl rfl rfl rfl h.1, ⟨h.2.1.1, h.2.1.2.1, h.2.1.2.2.1, h.2.1.2.2.2.1, h.2.1.2.2.2.2.1, h.2.1.2.2.2.2.2.1, h.2.1.2.2.2.2.2.2.1, h.2.1.2.2.2.2.2.2.2.1, h.2.1.2.2.2.2.2.2.2.2.1, h.2.1.2.2.2.2.2.2.2.2.2.1, h.2.1.2.2.2.2.2.2.2.2.2.2.1, h.2.1.2.2.2.2.2.2.2.2.2.2.2.1, h.2.1.2.2.2.2.2.2.2.2.2.2.2.2.1, h.2.1.2.2.2.2.2.2.2.2.2.2.2.2.2.1, h.2.1.2.2.2.2.2.2.2.2.2.2.2.2.2.2.1, h.2.1.2.2.2.2.2.2.2.2.2.2.2.2.2.2.2.1, h.2.1.2.2.2.2.2.2.2.2.2.2.2.2.2.2.2.2.1, h.2.1.2.2.2.2.2.2.2.2.2.2.2.2.2.2.2.2.2.1, h.2.1.2.2.2.2.2.2.2.2.2.2.2.2.2.2.2.2.2.2⟩, h.2.2⟩
theorem q_upr {f : Nat → Int32} {l v : Int} {n i k : Nat} {x : Int32} (h : ∀ k, k < n → q_rgz l v (f k)) (hx : q_rgz l v x) (hk : k < n) : q_rgz l v (upd f i x k) := by
  unfold upd
  split
  · exact hx
  · exact h k hk
theorem q_iY_A4 {k : Nat} (h : q_iY b9 u t l K s) (hk : ¬ q_Dn k) : q_iY b9 u t l K (q_sA s 4 (upd (s.1 4) k 0)) := ⟨q_iP_4 0 hk h.1, ⟨h.2.1.1, fun j hj => q_upr h.2.1.2.1 ⟨by decide, by decide⟩ hj, h.2.1.2.2.1, h.2.1.2.2.2.1, h.2.1.2.2.2.2.1, h.2.1.2.2.2.2.2.1, (by
    show q_rgz 0 15 (upd (s.1 4) k 0 0)
    unfold upd
    split
    · exact ⟨by decide, by decide⟩
    · exact q_ri40 h), (by
    show q_rgz 0 1 (upd (s.1 4) k 0 44)
    unfold upd
    split
    · exact ⟨by decide, by decide⟩
    · exact q_ri44 h), h.2.1.2.2.2.2.2.2.2.2.1, h.2.1.2.2.2.2.2.2.2.2.2.1, h.2.1.2.2.2.2.2.2.2.2.2.2.1, h.2.1.2.2.2.2.2.2.2.2.2.2.2.1, h.2.1.2.2.2.2.2.2.2.2.2.2.2.2.1, h.2.1.2.2.2.2.2.2.2.2.2.2.2.2.2.1, h.2.1.2.2.2.2.2.2.2.2.2.2.2.2.2.2.1, h.2.1.2.2.2.2.2.2.2.2.2.2.2.2.2.2.2.1, h.2.1.2.2.2.2.2.2.2.2.2.2.2.2.2.2.2.2.1, h.2.1.2.2.2.2.2.2.2.2.2.2.2.2.2.2.2.2.2.1, h.2.1.2.2.2.2.2.2.2.2.2.2.2.2.2.2.2.2.2.2⟩, h.2.2⟩
theorem q_iY_10 {x : Int32} (h : q_iY b9 u t l K s) (hx : q_rgz 0 255 x) : q_iY b9 u t l K (q_sA s 4 (upd (s.1 4) 10 x)) := ⟨q_iP_4 x q_D10 h.1, ⟨h.2.1.1, fun j hj => q_upr h.2.1.2.1 hx hj, h.2.1.2.2.1, h.2.1.2.2.2.1, h.2.1.2.2.2.2.1, h.2.1.2.2.2.2.2.1, h.2.1.2.2.2.2.2.2.1, h.2.1.2.2.2.2.2.2.2.1, h.2.1.2.2.2.2.2.2.2.2.1, h.2.1.2.2.2.2.2.2.2.2.2.1, h.2.1.2.2.2.2.2.2.2.2.2.2.1, h.2.1.2.2.2.2.2.2.2.2.2.2.2.1, h.2.1.2.2.2.2.2.2.2.2.2.2.2.2.1, h.2.1.2.2.2.2.2.2.2.2.2.2.2.2.2.1, h.2.1.2.2.2.2.2.2.2.2.2.2.2.2.2.2.1, h.2.1.2.2.2.2.2.2.2.2.2.2.2.2.2.2.2.1, h.2.1.2.2.2.2.2.2.2.2.2.2.2.2.2.2.2.2.1, h.2.1.2.2.2.2.2.2.2.2.2.2.2.2.2.2.2.2.2.1, h.2.1.2.2.2.2.2.2.2.2.2.2.2.2.2.2.2.2.2.2⟩, h.2.2⟩
theorem q_iY_7 {i : Nat} {x : Int32} (h : q_iY b9 u t l K s) (hx : q_rgz 0 65535 x) : q_iY b9 u t l K (q_sA s 7 (upd (s.1 7) i x)) := ⟨q_iP_eq (s := s) rfl rfl rfl rfl rfl rfl rfl rfl rfl rfl rfl rfl rfl rfl h.1, ⟨h.2.1.1, h.2.1.2.1, h.2.1.2.2.1, h.2.1.2.2.2.1, fun j hj => q_upr h.2.1.2.2.2.2.1 hx hj, h.2.1.2.2.2.2.2.1, h.2.1.2.2.2.2.2.2.1, h.2.1.2.2.2.2.2.2.2.1, h.2.1.2.2.2.2.2.2.2.2.1, h.2.1.2.2.2.2.2.2.2.2.2.1, h.2.1.2.2.2.2.2.2.2.2.2.2.1, h.2.1.2.2.2.2.2.2.2.2.2.2.2.1, h.2.1.2.2.2.2.2.2.2.2.2.2.2.2.1, h.2.1.2.2.2.2.2.2.2.2.2.2.2.2.2.1, h.2.1.2.2.2.2.2.2.2.2.2.2.2.2.2.2.1, h.2.1.2.2.2.2.2.2.2.2.2.2.2.2.2.2.2.1, h.2.1.2.2.2.2.2.2.2.2.2.2.2.2.2.2.2.2.1, h.2.1.2.2.2.2.2.2.2.2.2.2.2.2.2.2.2.2.2.1, h.2.1.2.2.2.2.2.2.2.2.2.2.2.2.2.2.2.2.2.2⟩, h.2.2⟩
theorem q_iY95 : ∀ (f : Nat) (s y : q_S) (v1 v2 : Int32), q_iY b9 u t l K s → dz_N95_65_2 f s v1 v2 = some y → q_iY b9 u t l K y := by
  intro f
  induction f with
  | zero => intro s y v1 v2 h e; cases e
  | succ f ih =>
    intro s y v1 v2 h e
    rw [dzs_N95_65_2] at e
    dsimp only at e
    cases c1 : decide (v2 < 2) with
    | false => rw [c1] at e; cases e; exact h
    | true =>
      rw [c1, cond_true] at e
      cases c2 : decide ((v1 >>> (v2 &&& 31)) &&& 1 = 1) with
      | false => rw [c2] at e; exact ih _ _ _ _ h e
      | true =>
        rw [c2, cond_true] at e
        cases c3 : q_in ((12 : Int32) + (2 * v2)) 48 with
        | false => rw [c3] at e; cases e
        | true =>
          rw [c3, cond_true] at e
          cases c4 : q_in (((12 : Int32) + (2 * v2)) + 1) 48 with
          | false => rw [c4] at e; cases e
          | true =>
            rw [c4, cond_true] at e
            cases c5 : q_in v2 2 with
            | false => rw [c5] at e; cases e
            | true =>
              rw [c5, cond_true] at e
              have L : ∀ {x : Int32}, q_in x 48 = true → x.toNatClampNeg < 48 := fun q => by
                unfold q_in at q
                rw [Bool.and_eq_true] at q
                exact of_decide_eq_true q.2
              have a1 := q_ri4 h (L c3)
              have a2 := q_ri4 h (L c4)
              generalize (s.1 4) ((12 : Int32) + (2 * v2)).toNatClampNeg = p at a1 e
              generalize (s.1 4) (((12 : Int32) + (2 * v2)) + 1).toNatClampNeg = q at a2 e
              obtain ⟨p0, p1⟩ := a1
              obtain ⟨q0, q1⟩ := a2
              have e1 : (256 * q).toInt = 256 * q.toInt := q_mulI (n := 256) rfl (by decide) (by decide) ⟨by omega, by omega⟩
              have e2 : (p + (256 * q)).toInt = p.toInt + (256 * q).toInt := q_addI ⟨by omega, by omega⟩ ⟨by omega, by omega⟩
              exact ih _ _ _ _ (q_iY_7 h ⟨by omega, by omega⟩) e
theorem q_mkB : ∀ n, n < 48 → ¬ (q_o1.getD n 0) < 0 ∧ (q_o1.getD n 0).toInt ≤ 255 := by decide
theorem q_RI_eq (h3 : t9.1 3 = s.1 3) (h4 : t9.1 4 = s.1 4) (h5 : t9.1 5 = s.1 5) (h6 : t9.1 6 = s.1 6) (h7 : t9.1 7 = s.1 7) (h12 : t9.1 12 = s.1 12) (hf : t9.2.1 23 = s.2.1 23) (h10 : t9.2.1 10 2 = s.2.1 10 2) (h8 : t9.2.1 8 4 = s.2.1 8 4) (l9 : t9.2.2 1 8 = s.2.2 1 8) (h : q_RI b9 s) : q_RI b9 t9 := by
  unfold q_RI at *
  rw [h3, h4, h5, h6, h7, h12, hf, h10, h8, l9]
  exact h
theorem q_RI128 (r : q_S) (a v : Int32) (h : q_RI b9 r) : q_RI b9 (cond (q_evb r) (dz_N128_77 r a v) (dz_N128_82 r a v)) := by
  cases q_evb r with
  | true =>
    rw [cond_true]
    unfold dz_N128_77
    cases decide (r.2.1 13 2 < 0) with
    | true => exact h
    | false =>
      cases decide (r.2.1 13 2 < 3072) with
      | true => exact q_RI_eq (s := r) rfl rfl rfl rfl rfl rfl rfl rfl rfl rfl h
      | false => exact h
  | false =>
    rw [cond_false]
    unfold dz_N128_82
    cases decide (r.2.1 18 2 < 0) with
    | true => exact h
    | false =>
      cases decide (r.2.1 18 2 < 3072) with
      | true => exact q_RI_eq (s := r) rfl rfl rfl rfl rfl rfl rfl rfl rfl rfl h
      | false => exact h
theorem q_RI3 {i : Nat} {x : Int32} (h : q_RI b9 s) (hx : q_rgz 0 255 x) : q_RI b9 (q_sA s 3 (upd (s.1 3) i x)) := ⟨fun j hj => q_upr h.1 hx hj, h.2.1, h.2.2.1, h.2.2.2.1, h.2.2.2.2.1, h.2.2.2.2.2.1, h.2.2.2.2.2.2.1, h.2.2.2.2.2.2.2.1, h.2.2.2.2.2.2.2.2.1, h.2.2.2.2.2.2.2.2.2.1, h.2.2.2.2.2.2.2.2.2.2.1, h.2.2.2.2.2.2.2.2.2.2.2.1, h.2.2.2.2.2.2.2.2.2.2.2.2.1, h.2.2.2.2.2.2.2.2.2.2.2.2.2.1, h.2.2.2.2.2.2.2.2.2.2.2.2.2.2.1, h.2.2.2.2.2.2.2.2.2.2.2.2.2.2.2.1, h.2.2.2.2.2.2.2.2.2.2.2.2.2.2.2.2.1, h.2.2.2.2.2.2.2.2.2.2.2.2.2.2.2.2.2.1, h.2.2.2.2.2.2.2.2.2.2.2.2.2.2.2.2.2.2⟩
theorem q_RI4 {i : Nat} {v : Int32} (h : q_RI b9 s) (hi : i < 48) : q_RI b9 (q_sA s 4 (upd (s.1 4) i (v &&& q_o1.getD i 0))) := by
  obtain ⟨m1, m2⟩ := q_mkB i hi
  have rx : q_rgz 0 255 (v &&& q_o1.getD i 0) := by
    have q := q_rg_and v (q_o1.getD i 0) m1 rfl
    exact ⟨q.1, Int.le_trans q.2 m2⟩
  refine ⟨h.1, fun j hj => q_upr h.2.1 rx hj, h.2.2.1, h.2.2.2.1, h.2.2.2.2.1, h.2.2.2.2.2.1, ?_, ?_, h.2.2.2.2.2.2.2.2.1, h.2.2.2.2.2.2.2.2.2.1, h.2.2.2.2.2.2.2.2.2.2.1, h.2.2.2.2.2.2.2.2.2.2.2.1, h.2.2.2.2.2.2.2.2.2.2.2.2.1, h.2.2.2.2.2.2.2.2.2.2.2.2.2.1, h.2.2.2.2.2.2.2.2.2.2.2.2.2.2.1, h.2.2.2.2.2.2.2.2.2.2.2.2.2.2.2.1, h.2.2.2.2.2.2.2.2.2.2.2.2.2.2.2.2.1, h.2.2.2.2.2.2.2.2.2.2.2.2.2.2.2.2.2.1, h.2.2.2.2.2.2.2.2.2.2.2.2.2.2.2.2.2.2⟩
  · show q_rgz 0 15 (upd (s.1 4) i (v &&& q_o1.getD i 0) 0)
    unfold upd
    split
    · rename_i q
      rw [← q]
      exact q_rg_and v 15 (by decide) rfl
    · exact h.2.2.2.2.2.2.1
  · show q_rgz 0 1 (upd (s.1 4) i (v &&& q_o1.getD i 0) 44)
    unfold upd
    split
    · rename_i q
      rw [← q]
      exact q_rg_and v 1 (by decide) rfl
    · exact h.2.2.2.2.2.2.2.1
theorem q_RI112 {a v : Int32} (ha : q_rgz 0 4095 a) (h : q_RI b9 s) : q_RI b9 (dz_N112_66 s a v) := by
  have b : q_rgz 0 255 (v &&& 255) := q_rg_and v 255 (by decide) rfl
  have z0 : (0 : Int32).toInt = 0 := rfl
  have z48 : (48 : Int32).toInt = 48 := rfl
  obtain ⟨a0, a1⟩ := ha
  have es : (a - 3840).toInt = a.toInt - 3840 := q_subI ⟨by omega, by omega⟩ ⟨by decide, by decide⟩
  unfold dz_N112_66
  cases c1 : decide (a - 3840 < 0) with
  | true => exact q_RI3 h b
  | false =>
    have g1 := q_ltF c1
    rw [cond_false]
    cases c2 : decide (a - 3840 < 48) with
    | false => exact q_RI3 h b
    | true =>
      have g2 := q_ltT c2
      rw [cond_true]
      cases decide ((fun j => q_o1.getD j 0) ((a - 3840).toNatClampNeg) = 0) with
      | true => exact h
      | false => exact q_RI4 h (by show (a - 3840).toInt.toNat < 48; omega)
theorem q_k977 (r : q_S) (a v : Int32) : (dz_N128_77 r a v).2.2 1 8 = r.2.2 1 8 ∧ (dz_N128_77 r a v).2.1 23 9 = r.2.1 23 9 := by
  unfold dz_N128_77
  cases decide (r.2.1 13 2 < 0) with
  | true => exact ⟨rfl, rfl⟩
  | false =>
    cases decide (r.2.1 13 2 < 3072) with
    | true => exact ⟨rfl, rfl⟩
    | false => exact ⟨rfl, rfl⟩
theorem q_k982 (r : q_S) (a v : Int32) : (dz_N128_82 r a v).2.2 1 8 = r.2.2 1 8 ∧ (dz_N128_82 r a v).2.1 23 9 = r.2.1 23 9 := by
  unfold dz_N128_82
  cases decide (r.2.1 18 2 < 0) with
  | true => exact ⟨rfl, rfl⟩
  | false =>
    cases decide (r.2.1 18 2 < 3072) with
    | true => exact ⟨rfl, rfl⟩
    | false => exact ⟨rfl, rfl⟩
theorem q_k128 (s : q_S) (a v : Int32) (h : s.2.2 1 8 = t ∧ s.2.1 23 9 = l) : (cond (q_evb (dz_N112_66 s a v)) (dz_N128_77 (dz_N112_66 s a v) a v) (dz_N128_82 (dz_N112_66 s a v) a v)).2.2 1 8 = t ∧ (cond (q_evb (dz_N112_66 s a v)) (dz_N128_77 (dz_N112_66 s a v) a v) (dz_N128_82 (dz_N112_66 s a v) a v)).2.1 23 9 = l := by
  have k := (q_112k s a v).1
  have e1 : (dz_N112_66 s a v).2.2 1 8 = t := by rw [k]; exact h.1
  have e2 : (dz_N112_66 s a v).2.1 23 9 = l := by rw [k]; exact h.2
  generalize dz_N112_66 s a v = r at e1 e2 ⊢
  cases q_evb r with
  | true => exact ⟨(q_k977 r a v).1.trans e1, (q_k977 r a v).2.trans e2⟩
  | false => exact ⟨(q_k982 r a v).1.trans e1, (q_k982 r a v).2.trans e2⟩
theorem q_94c {a v : Int32} (ha : q_rgz 0 4095 a) (hv : q_rgz 0 255 v) (h : q_iY b9 u t l K s) : ∃ y, (q_let (dz_N112_66 s a v) fun r5 => cond (decide (lg_cmp (((r5.2.2 1 8) / 960) - ((r5.2.2 1 8) / 960) / 2 * 2) 0 = 0)) (q_let (dz_N128_77 r5 a v) fun r6 => some r6) (q_let (dz_N128_82 r5 a v) fun r7 => some r7)) = some y ∧ q_iY b9 u t l (K + 1) y := by
  refine ⟨cond (q_evb (dz_N112_66 s a v)) (dz_N128_77 (dz_N112_66 s a v) a v) (dz_N128_82 (dz_N112_66 s a v) a v), ?_, q_iP_put ha hv (q_ddb b9) h.1, q_RI128 _ _ _ (q_RI112 ha h.2.1), q_k128 s a v h.2.2⟩
  unfold q_let
  dsimp only
  show cond (q_evb (dz_N112_66 s a v)) _ _ = _
  cases q_evb (dz_N112_66 s a v) <;> rfl
end
theorem dzp_N94_65 {b9 : Bool} {u K : Int} {t : Int64} {l : Int32} (s : q_S) (hI : q_iY b9 u t l K s) (a1 : Int32) (a2 : Int32) (ra1 : q_rgz 0 4095 a1) (ra2 : q_rgz 0 255 a2) : q_Ex (dz_N94_65 s a1 a2) (q_iY b9 u t l (K + 1)) := by
  unfold dz_N94_65
  cases c1 : decide (a1 = 3850) with
  | true =>
    rw [cond_true]
    obtain ⟨y, e, h⟩ := q_94c ra1 ra2 (q_iY_10 (x := ((s.1 4) 10) &&& (a2 ^^^ (-1))) hI (q_rg_and1 (q_ri4 hI (k := 10) (by decide)) (by decide)))
    exact ⟨y, e, h⟩
  | false =>
    rw [cond_false]
    cases c2 : decide (a1 = 3856) with
    | false =>
      rw [cond_false]
      obtain ⟨y, e, h⟩ := q_94c ra1 ra2 hI
      exact ⟨y, e, h⟩
    | true =>
      rw [cond_true]
      obtain ⟨r, er, -⟩ := dzj_N95_65 s ⟨q_rf23_6 hI, q_rf23_7 hI⟩ (a2 &&& (((s.1 4) 16) ^^^ (-1)))
      have hr : q_iY b9 u t l K r := q_iY95 5000 _ _ _ _ hI er
      obtain ⟨y, e, h⟩ := q_94c ra1 ra2 hr
      exact ⟨y, by rw [er]; exact e, h⟩
set_option maxHeartbeats 4000000 in
theorem dzp_N90_65_73  {u K : Int} {t : Int64} {l : Int32} (s : q_S) (hI : q_iY true u t l K s) (v1 : Int32) (v3 : Int32) (rv1 : q_rgz 0 4095 v1) (rv3 : q_rgz 0 15 v3) : q_Ex (dz_N90_65_73 s v1 v3) (fun x => q_rgz 0 255 x) := by
  unfold dz_N90_65_73
  cases h49 : decide (v3 &&& 2 = 2) with
  | true =>
    have g50 := q_rg_eqT h49 (q_rg_lit (n := 2) (x := 2) rfl)
    refine q_E_T ?_
    cases h51 : decide (v1 < 2048) with
    | true =>
      have g52 := (q_rg_ltT1 (l := 0) (U := 2047) h51 rv1 (q_rg_lit (n := 2048) (x := 2048) rfl) (by decide))
      refine q_E_T ?_
      exact q_E_x (q_rg_le (q_ri3 hI (q_ixlt (q_rg_and v1 4095 (U := 4095) (by decide) rfl) (by decide) (by decide))) (by decide) (by decide))
    | false =>
      have g53 := (q_rg_ltF1 (l2 := 2048) (u := 4095) h51 rv1 (q_rg_lit (n := 2048) (x := 2048) rfl))
      refine q_E_F ?_
      cases h54 : decide (v1 < 2560) with
      | true =>
        have g55 := (q_rg_ltT1 (l := 2048) (U := 2559) h54 g53 (q_rg_lit (n := 2560) (x := 2560) rfl) (by decide))
        refine q_E_T ?_
        refine q_E_A (q_in_rg (q_rg_sub (L := 0) (U := 2047) (q_rg_add (L := 2048) (U := 4095) (q_rg_mul (L := 0) (U := 1536) (q_rg_lit (n := 512) (x := 512) rfl) (q_rg_and (v3 >>> ((2 &&& 31) : Int32)) 3 (U := 3) (by decide) rfl) (by decide) (by decide) (by decide) (by decide) (by decide) (by decide)) g55 (by decide) (by decide) (by decide) (by decide)) (q_rg_lit (n := 2048) (x := 2048) rfl) (by decide) (by decide) (by decide) (by decide)) (by decide) (by decide)) ?_
        exact q_E_x (q_rg_le (q_ri6 hI (q_ixlt (q_rg_sub (L := 0) (U := 2047) (q_rg_add (L := 2048) (U := 4095) (q_rg_mul (L := 0) (U := 1536) (q_rg_lit (n := 512) (x := 512) rfl) (q_rg_and (v3 >>> ((2 &&& 31) : Int32)) 3 (U := 3) (by decide) rfl) (by decide) (by decide) (by decide) (by decide) (by decide) (by decide)) g55 (by decide) (by decide) (by decide) (by decide)) (q_rg_lit (n := 2048) (x := 2048) rfl) (by decide) (by decide) (by decide) (by decide)) (by decide) (by decide))) (by decide) (by decide))
      | false =>
        have g56 := (q_rg_ltF1 (l2 := 2560) (u := 4095) h54 g53 (q_rg_lit (n := 2560) (x := 2560) rfl))
        refine q_E_F ?_
        exact q_E_x (q_rg_le (q_ri3 hI (q_ixlt (q_rg_and v1 4095 (U := 4095) (by decide) rfl) (by decide) (by decide))) (by decide) (by decide))
  | false =>
    have g57 := (q_rg_neU (l := 0) (u := 2) (n := 2) (U := 1) h49 (q_rg_and v3 2 (U := 2) (by decide) rfl) rfl (by decide) (by decide))
    refine q_E_F ?_
    exact q_E_x (q_rg_le (q_ri3 hI (q_ixlt (q_rg_and v1 4095 (U := 4095) (by decide) rfl) (by decide) (by decide))) (by decide) (by decide))
set_option maxHeartbeats 4000000 in
theorem dzp_N90_65_31  {u K : Int} {t : Int64} {l : Int32} (s : q_S) (hI : q_iY true u t l K s) (v1 : Int32) (rv1 : q_rgz 0 4095 v1) : q_Ex (dz_N90_65_31 s v1) (fun x => q_rgz 0 255 x) := by
  unfold dz_N90_65_31
  cases h58 : decide (((s.1 4) 0) &&& 1 = 1) with
  | true =>
    have g59 := q_rg_eqT h58 (q_rg_lit (n := 1) (x := 1) rfl)
    refine q_E_T ?_
    cases h60 : decide (v1 < 3072) with
    | true =>
      have g61 := (q_rg_ltT1 (l := 0) (U := 3071) h60 rv1 (q_rg_lit (n := 3072) (x := 3072) rfl) (by decide))
      refine q_E_T ?_
      exact dzp_N90_65_73 (s) hI (v1) ((s.1 4) 0) (q_rg_le (L := 0) (U := 4095) g61 (by decide) (by decide)) (q_rg_le (L := 0) (U := 15) (q_ri40 hI) (by decide) (by decide))
    | false =>
      have g62 := (q_rg_ltF1 (l2 := 3072) (u := 4095) h60 rv1 (q_rg_lit (n := 3072) (x := 3072) rfl))
      refine q_E_F ?_
      cases h63 : decide (v1 < 3584) with
      | true =>
        have g64 := (q_rg_ltT1 (l := 3072) (U := 3583) h63 g62 (q_rg_lit (n := 3584) (x := 3584) rfl) (by decide))
        refine q_E_T ?_
        exact q_E_x (q_rg_le (q_ri5 hI (q_ixlt (q_rg_sub (L := 0) (U := 511) g64 (q_rg_lit (n := 3072) (x := 3072) rfl) (by decide) (by decide) (by decide) (by decide)) (by decide) (by decide))) (by decide) (by decide))
      | false =>
        have g65 := (q_rg_ltF1 (l2 := 3584) (u := 4095) h63 g62 (q_rg_lit (n := 3584) (x := 3584) rfl))
        refine q_E_F ?_
        exact dzp_N90_65_73 (s) hI (v1) ((s.1 4) 0) (q_rg_le (L := 0) (U := 4095) g65 (by decide) (by decide)) (q_rg_le (L := 0) (U := 15) (q_ri40 hI) (by decide) (by decide))
  | false =>
    have g66 := (q_rg_neU (l := 0) (u := 1) (n := 1) (U := 0) h58 (q_rg_and ((s.1 4) 0) 1 (U := 1) (by decide) rfl) rfl (by decide) (by decide))
    refine q_E_F ?_
    exact dzp_N90_65_73 (s) hI (v1) ((s.1 4) 0) (q_rg_le (L := 0) (U := 4095) rv1 (by decide) (by decide)) (q_rg_le (L := 0) (U := 15) (q_ri40 hI) (by decide) (by decide))
theorem q_91R {b9 : Bool} {u K : Int} {t : Int64} {l : Int32} {s : q_S} (hI : q_iY b9 u t l K s) (n : Int32) (hn : q_rgz 0 47 n) : q_rgz 0 255 (dz_N91_65 s n ((s.1 4) n.toNatClampNeg)) := by
  have hb := q_ri4 hI (k := n.toNatClampNeg) (q_ixlt hn (by decide) (by decide))
  have c0 : q_rgz 0 65535 (s.1 7 0) := q_ri7 hI (by decide)
  have c1 : q_rgz 0 65535 (s.1 7 1) := q_ri7 hI (by decide)
  unfold dz_N91_65
  cases d9 : decide (n = 9) with
  | true =>
    have h0 : 0 ≤ (s.2.2 1 8).toInt := hI.2.1.2.2.2.2.2.2.2.2.2.2.2.2.2.2.2.2.2.2
    have e : ((s.2.2 1 8) - (s.2.2 1 8) / 960 * 960).toInt = (s.2.2 1 8).toInt % 960 := q64_rem h0 (by decide)
    have e2 : (((s.2.2 1 8) - (s.2.2 1 8) / 960 * 960).toInt32).toInt = (s.2.2 1 8).toInt % 960 := by rw [q64_32 (by omega) (by omega), e]
    have e3 : ((((s.2.2 1 8) - (s.2.2 1 8) / 960 * 960).toInt32) / 24).toInt = (((s.2.2 1 8) - (s.2.2 1 8) / 960 * 960).toInt32).toInt / 24 := q_toInt_div (by omega) (by decide)
    rw [cond_true]
    exact ⟨by rw [e3, e2]; omega, by rw [e3, e2]; omega⟩
  | false =>
    rw [cond_false]
    cases decide (n = 12) with
    | true => exact q_rg_and _ 255 (by decide) rfl
    | false =>
      rw [cond_false]
      cases decide (n = 13) with
      | true => exact q_rg_sh8 (U := 255) c0 (by decide) (by decide)
      | false =>
        rw [cond_false]
        cases decide (n = 14) with
        | true => exact q_rg_and _ 255 (by decide) rfl
        | false =>
          rw [cond_false]
          cases decide (n = 15) with
          | true => exact q_rg_sh8 (U := 255) c1 (by decide) (by decide)
          | false =>
            rw [cond_false]
            cases d31 : decide (n = 31) with
            | true =>
              rw [cond_true]
              obtain ⟨a0, a1⟩ := q_ri12 hI (k := (((s.1 4) n.toNatClampNeg) &&& 15).toNatClampNeg) (q_ixlt (q_rg_and _ 15 (U := 15) (by decide) rfl) (by decide) (by decide))
              obtain ⟨b0, b1⟩ := q_rf10_2 hI
              have m : (16 * (s.2.1 10 2)).toInt = 16 * (s.2.1 10 2).toInt := q_mulI (n := 16) rfl (by decide) (by decide) ⟨by omega, by omega⟩
              generalize (s.1 12) (((s.1 4) n.toNatClampNeg) &&& 15).toNatClampNeg = p at a0 a1 ⊢
              have e : (p + (16 * (s.2.1 10 2))).toInt = p.toInt + (16 * (s.2.1 10 2)).toInt := q_addI ⟨by omega, by omega⟩ ⟨by omega, by omega⟩
              exact ⟨by rw [e]; omega, by rw [e]; omega⟩
            | false =>
              rw [cond_false]
              cases d44 : decide (n = 44) with
              | true =>
                rw [cond_true, q_eqT d44]
                obtain ⟨a0, a1⟩ := q_ri44 hI
                obtain ⟨b0, b1⟩ := q_rf8_4 hI
                have m : (2 * (s.2.1 8 4)).toInt = 2 * (s.2.1 8 4).toInt := q_mulI (n := 2) rfl (by decide) (by decide) ⟨by omega, by omega⟩
                have e : ((s.1 4 44) + (2 * (s.2.1 8 4))).toInt = (s.1 4 44).toInt + (2 * (s.2.1 8 4)).toInt := q_addI ⟨by omega, by omega⟩ ⟨by omega, by omega⟩
                have e4 : (((s.1 4 44) + (2 * (s.2.1 8 4))) + 4).toInt = ((s.1 4 44) + (2 * (s.2.1 8 4))).toInt + 4 := q_addI ⟨by omega, by omega⟩ ⟨by decide, by decide⟩
                have e0 : (((s.1 4 44) + (2 * (s.2.1 8 4))) + 0).toInt = ((s.1 4 44) + (2 * (s.2.1 8 4))).toInt + 0 := q_addI ⟨by omega, by omega⟩ ⟨by decide, by decide⟩
                show q_rgz 0 255 (cond (decide (s.2.1 8 2 < s.2.1 8 1)) (((s.1 4 44) + (2 * (s.2.1 8 4))) + 4) (((s.1 4 44) + (2 * (s.2.1 8 4))) + 0))
                cases decide (s.2.1 8 2 < s.2.1 8 1) with
                | true => exact ⟨by rw [cond_true, e4]; omega, by rw [cond_true, e4]; omega⟩
                | false => exact ⟨by rw [cond_false, e0]; omega, by rw [cond_false, e0]; omega⟩
              | false => exact hb
theorem dzp_N90_65 {u K : Int} {t : Int64} {l : Int32} (s : q_S) (hI : q_iY true u t l K s) (a1 : Int32) (ra1 : q_rgz 0 4095 a1) : q_Ex (dz_N90_65 s a1) (fun x => q_rgz 0 255 x) := by
  have z0 : (0 : Int32).toInt = 0 := rfl
  have z48 : (48 : Int32).toInt = 48 := rfl
  have es : (a1 - 3840).toInt = a1.toInt - 3840 := by
    obtain ⟨a0, a9⟩ := ra1
    exact q_subI ⟨by omega, by omega⟩ ⟨by decide, by decide⟩
  unfold dz_N90_65
  cases c1 : decide (a1 - 3840 < 0) with
  | true => exact dzp_N90_65_31 s hI a1 ra1
  | false =>
    have g1 := q_ltF c1
    rw [cond_false]
    cases c2 : decide (a1 - 3840 < 48) with
    | false => exact dzp_N90_65_31 s hI a1 ra1
    | true =>
      have g2 := q_ltT c2
      exact ⟨_, rfl, q_91R hI (a1 - 3840) ⟨by omega, by omega⟩⟩
theorem dzp_N186  {u K : Int} {t : Int64} {l : Int32} (s : q_S) (hI : q_iY true u t l K s) (a0 : Int32) : (fun _ => True) (dz_N186 s a0) := trivial
theorem dzp_N190  {u K : Int} {t : Int64} {l : Int32} (s : q_S) (hI : q_iY true u t l K s) (a0 : Int32) : (fun _ => True) (dz_N190 s a0) := trivial
set_option maxHeartbeats 4000000 in
theorem dzp_N92_65  {u K : Int} {t : Int64} {l : Int32} (s : q_S) (hI : q_iY true u t l K s) (a1 : Int32) : q_Ex (dz_N92_65 s a1) (fun x => q_rgz 0 4095 x) := by
  unfold dz_N92_65
  obtain ⟨r2, e128, j127⟩ := dzp_N90_65 (s) hI (a1 &&& 4095) (q_rg_le (L := 0) (U := 4095) (q_rg_and a1 4095 (U := 4095) (by decide) rfl) (by decide) (by decide))
  rw [e128]
  refine q_E_B ?_
  obtain ⟨r3, e130, j129⟩ := dzp_N90_65 (s) hI ((a1 + 1) &&& 4095) (q_rg_le (L := 0) (U := 4095) (q_rg_and (a1 + 1) 4095 (U := 4095) (by decide) rfl) (by decide) (by decide))
  rw [e130]
  refine q_E_B ?_
  exact q_E_x (q_rg_le (q_rg_and (r2 + (256 * r3)) 4095 (U := 4095) (by decide) rfl) (by decide) (by decide))
set_option maxHeartbeats 4000000 in
theorem dzp_N120_66  {u K : Int} {t : Int64} {l : Int32} (s : q_S) (hI : q_iY true u t l K s) (a1 : Int32) : (fun x => q_rgz 0 255 x) (dz_N120_66 s a1) := by
  refine q_S_of (P := (fun x => q_rgz 0 255 x)) ?_
  unfold dz_N120_66
  exact q_E_x (q_rg_le (q_ri3 hI (q_ixlt (q_rg_and a1 4095 (U := 4095) (by decide) rfl) (by decide) (by decide))) (by decide) (by decide))
theorem dzp_N187  {u K : Int} {t : Int64} {l : Int32} (s : q_S) (hI : q_iY true u t l K s) (a0 : Int32) : (fun _ => True) (dz_N187 s a0) := trivial
set_option maxHeartbeats 4000000 in
theorem dzp_N140_87  {u K : Int} {t : Int64} {l : Int32} (s : q_S) (hI : q_iY true u t l K s) (a1 : Int32) : (fun x => q_rgz 0 4095 x) (dz_N140_87 s a1) := by
  refine q_S_of (P := (fun x => q_rgz 0 4095 x)) ?_
  unfold dz_N140_87
  exact q_E_x (q_rg_le (q_rg_and ((s.2.1 23 4) + a1) 4095 (U := 4095) (by decide) rfl) (by decide) (by decide))
theorem dzp_N161_87  {u K : Int} {t : Int64} {l : Int32} (s : q_S) (hI : q_iY true u t l K s) (a1 : Int32) : (fun _ => True) (dz_N161_87 s a1) := trivial
set_option maxHeartbeats 4000000 in
theorem dzp_N193  {u K : Int} {t : Int64} {l : Int32} (s : q_S) (hI : q_iY true u t l K s) (a0 : Int32) (a1 : Int32) : (fun x => q_rgz 0 4095 x) (dz_N193 s a0 a1) := by
  refine q_S_of (P := (fun x => q_rgz 0 4095 x)) ?_
  unfold dz_N193
  cases h248 : decide (127 < a1) with
  | true =>
    have g249 := (q_rg_ltT2 (L := 128) (u2 := 2147483647) h248 (q_rg_lit (n := 127) (x := 127) rfl) (q_rg_full _) (by decide))
    refine q_S_T ?_
    exact q_E_x (q_rg_le (q_rg_and ((a0 + 2) + (a1 - 256)) 4095 (U := 4095) (by decide) rfl) (by decide) (by decide))
  | false =>
    have g250 := (q_rg_ltF2 (l2 := -2147483648) (u := 127) h248 (q_rg_lit (n := 127) (x := 127) rfl) (q_rg_full _))
    refine q_S_F ?_
    exact q_E_x (q_rg_le (q_rg_and ((a0 + 2) + a1) 4095 (U := 4095) (by decide) rfl) (by decide) (by decide))
set_option maxHeartbeats 4000000 in
theorem dzp_N139_87  {u K : Int} {t : Int64} {l : Int32} (s : q_S) (hI : q_iY true u t l K s) (a1 : Int32) : (fun x => q_rgz 0 4095 x) (dz_N139_87 s a1) := by
  refine q_S_of (P := (fun x => q_rgz 0 4095 x)) ?_
  unfold dz_N139_87
  have j252 := dzp_N193 (s) hI (s.2.1 23 4) (a1)
  refine q_S_L ?_
  generalize dz_N193 s (s.2.1 23 4) a1 = r1 at j252 ⊢
  exact q_E_x (q_rg_le j252 (by decide) (by decide))
theorem dzp_N192  {u K : Int} {t : Int64} {l : Int32} (s : q_S) (hI : q_iY true u t l K s) (a0 : Int32) : (fun _ => True) (dz_N192 s a0) := trivial
theorem dzp_N189  {u K : Int} {t : Int64} {l : Int32} (s : q_S) (hI : q_iY true u t l K s) (a0 : Int32) : (fun _ => True) (dz_N189 s a0) := trivial
set_option maxHeartbeats 4000000 in
theorem dzp_N145_87_65  {u K : Int} {t : Int64} {l : Int32} (s : q_S) (hI : q_iY true u t l K s) (a2 : Int32) : q_Ex (dz_N145_87_65 s a2) (fun x => q_rgz 0 4095 x) := by
  unfold dz_N145_87_65
  have j304 := dzp_N140_87 (s) hI (1)
  refine q_E_L ?_
  generalize dz_N140_87 s 1 = r3 at j304 ⊢
  obtain ⟨r4, e306, j305⟩ := dzp_N90_65 (s) hI (r3) (q_rg_le (L := 0) (U := 4095) j304 (by decide) (by decide))
  rw [e306]
  refine q_E_B ?_
  cases h307 : decide (a2 = 1) with
  | true =>
    have g308 := q_rg_eqT h307 (q_rg_lit (n := 1) (x := 1) rfl)
    refine q_E_T ?_
    exact q_E_x (q_rg_le j305 (by decide) (by decide))
  | false =>
    refine q_E_F ?_
    cases h309 : decide (a2 = 2) with
    | true =>
      have g310 := q_rg_eqT h309 (q_rg_lit (n := 2) (x := 2) rfl)
      refine q_E_T ?_
      exact q_E_x (q_rg_le (q_rg_and (r4 + (s.2.1 23 1)) 255 (U := 255) (by decide) rfl) (by decide) (by decide))
    | false =>
      refine q_E_F ?_
      cases h311 : decide (a2 < 6) with
      | true =>
        have g312 := (q_rg_ltT1 (l := -2147483648) (U := 5) h311 (q_rg_full _) (q_rg_lit (n := 6) (x := 6) rfl) (by decide))
        refine q_E_T ?_
        have j313 := dzp_N140_87 (s) hI (2)
        refine q_E_L ?_
        generalize dz_N140_87 s 2 = r5 at j313 ⊢
        obtain ⟨r6, e315, j314⟩ := dzp_N90_65 (s) hI (r5) (q_rg_le (L := 0) (U := 4095) j313 (by decide) (by decide))
        rw [e315]
        refine q_E_B ?_
        exact q_E_x (q_rg_le (q_rg_and (r4 + (256 * r6)) 4095 (U := 4095) (by decide) rfl) (by decide) (by decide))
      | false =>
        have g316 := (q_rg_ltF1 (l2 := 6) (u := 2147483647) h311 (q_rg_full _) (q_rg_lit (n := 6) (x := 6) rfl))
        refine q_E_F ?_
        cases h317 : decide (a2 = 7) with
        | true =>
          have g318 := q_rg_eqT h317 (q_rg_lit (n := 7) (x := 7) rfl)
          refine q_E_T ?_
          obtain ⟨r7, e320, j319⟩ := dzp_N90_65 (s) hI ((r4 + (s.2.1 23 1)) &&& 255) (q_rg_le (L := 0) (U := 4095) (q_rg_and (r4 + (s.2.1 23 1)) 255 (U := 255) (by decide) rfl) (by decide) (by decide))
          rw [e320]
          refine q_E_B ?_
          obtain ⟨r8, e322, j321⟩ := dzp_N90_65 (s) hI ((((r4 + (s.2.1 23 1)) &&& 255) + 1) &&& 255) (q_rg_le (L := 0) (U := 4095) (q_rg_and (((r4 + (s.2.1 23 1)) &&& 255) + 1) 255 (U := 255) (by decide) rfl) (by decide) (by decide))
          rw [e322]
          refine q_E_B ?_
          exact q_E_x (q_rg_le (q_rg_and (r7 + (256 * r8)) 4095 (U := 4095) (by decide) rfl) (by decide) (by decide))
        | false =>
          refine q_E_F ?_
          obtain ⟨r9, e324, j323⟩ := dzp_N90_65 (s) hI (r4) (q_rg_le (L := 0) (U := 4095) j305 (by decide) (by decide))
          rw [e324]
          refine q_E_B ?_
          obtain ⟨r10, e326, j325⟩ := dzp_N90_65 (s) hI ((r4 + 1) &&& 255) (q_rg_le (L := 0) (U := 4095) (q_rg_and (r4 + 1) 255 (U := 255) (by decide) rfl) (by decide) (by decide))
          rw [e326]
          refine q_E_B ?_
          exact q_E_x (q_rg_le (q_rg_and (r9 + (256 * r10)) 4095 (U := 4095) (by decide) rfl) (by decide) (by decide))
set_option maxHeartbeats 4000000 in
theorem dzp_N143_87  {u K : Int} {t : Int64} {l : Int32} (s : q_S) (hI : q_iY true u t l K s) (a1 : Int32) : (fun x => q_rgz 0 255 x) (dz_N143_87 s a1) := by
  refine q_S_of (P := (fun x => q_rgz 0 255 x)) ?_
  unfold dz_N143_87
  cases h333 : decide (a1 = 4) with
  | true =>
    have g334 := q_rg_eqT h333 (q_rg_lit (n := 4) (x := 4) rfl)
    refine q_S_T ?_
    exact q_E_x (q_rg_le (q_rf23_1 hI) (by decide) (by decide))
  | false =>
    refine q_S_F ?_
    cases h335 : decide (a1 = 5) with
    | true =>
      have g336 := q_rg_eqT h335 (q_rg_lit (n := 5) (x := 5) rfl)
      refine q_S_T ?_
      exact q_E_x (q_rg_le (q_rf23_2 hI) (by decide) (by decide))
    | false =>
      refine q_S_F ?_
      cases h337 : decide (a1 = 6) with
      | true =>
        have g338 := q_rg_eqT h337 (q_rg_lit (n := 6) (x := 6) rfl)
        refine q_S_T ?_
        exact q_E_x (q_rg_le (q_rf23_2 hI) (by decide) (by decide))
      | false =>
        refine q_S_F ?_
        exact q_E_x (q_rg_le (q_rg_lit (n := 0) (x := 0) rfl) (by decide) (by decide))
theorem dzp_N188  {u K : Int} {t : Int64} {l : Int32} (s : q_S) (hI : q_iY true u t l K s) (a0 : Int32) : (fun _ => True) (dz_N188 s a0) := trivial
set_option maxHeartbeats 4000000 in
theorem dzp_N146_87_65  {u K : Int} {t : Int64} {l : Int32} (s : q_S) (hI : q_iY true u t l K s) (a2 : Int32) (ra2 : q_rgz 0 255 a2) : q_Ex (dz_N146_87_65 s a2) (q_iY true u t l (K + 1)) := by
  unfold dz_N146_87_65
  obtain ⟨r2, e368, j367⟩ := dzp_N94_65 (s) hI ((256 : Int32) + (s.2.1 23 3)) (a2) (q_rg_le (L := 0) (U := 4095) (q_rg_add (L := 256) (U := 511) (q_rg_lit (n := 256) (x := 256) rfl) (q_rf23_3 hI) (by decide) (by decide) (by decide) (by decide)) (by decide) (by decide)) (q_rg_le (L := 0) (U := 255) ra2 (by decide) (by decide))
  rw [e368]
  refine q_E_B ?_
  exact q_E_x (q_iY_le (q_iY_F3 j367 (q_rg_le (L := 0) (U := 255) (q_rg_and ((r2.2.1 23 3) - 1) 255 (U := 255) (by decide) rfl) (by decide) (by decide))) (by omega))
set_option maxHeartbeats 4000000 in
theorem dzp_N148_87_65  {u K : Int} {t : Int64} {l : Int32} (s : q_S) (hI : q_iY true u t l K s) (a2 : Int32) (a3 : Int32) (a4 : Int32) (ra2 : q_rgz 0 4095 a2) (ra3 : q_rgz 0 255 a3) : q_Ex (dz_N148_87_65 s a2 a3 a4) (q_iY true u t l (K + 3)) := by
  unfold dz_N148_87_65
  obtain ⟨r2, e378, j377⟩ := dzp_N146_87_65 (s) hI (a2 >>> ((8 &&& 31) : Int32)) (q_rg_le (L := 0) (U := 255) (q_rg_sh8 (U := 15) ra2 (by decide) (by decide)) (by decide) (by decide))
  rw [e378]
  refine q_E_B ?_
  obtain ⟨r3, e380, j379⟩ := dzp_N146_87_65 (r2) j377 (a2 &&& 255) (q_rg_le (L := 0) (U := 255) (q_rg_and a2 255 (U := 255) (by decide) rfl) (by decide) (by decide))
  rw [e380]
  refine q_E_B ?_
  obtain ⟨r4, e382, j381⟩ := dzp_N146_87_65 (r3) j379 (a3) (q_rg_le (L := 0) (U := 255) ra3 (by decide) (by decide))
  rw [e382]
  refine q_E_B ?_
  obtain ⟨r5, e384, j383⟩ := dzp_N92_65 (q_sI r4 23 5 ((r4.2.1 23 5) ||| 4)) (q_iY_F5 j381 (q_rg_le (L := 0) (U := 255) (q_rg_or (n := 8) (W := 255) (q_rf23_5 j381) (q_rg_lit (n := 4) (x := 4) rfl) (by decide) (by decide) (by decide) (by decide) (by decide)) (by decide) (by decide))) (a4)
  rw [e384]
  refine q_E_B ?_
  exact q_E_x (q_iY_le (q_iY_F4 (q_iY_F5 j381 (q_rg_le (L := 0) (U := 255) (q_rg_or (n := 8) (W := 255) (q_rf23_5 j381) (q_rg_lit (n := 4) (x := 4) rfl) (by decide) (by decide) (by decide) (by decide) (by decide)) (by decide) (by decide))) (q_rg_le (L := 0) (U := 4095) j383 (by decide) (by decide))) (by omega))
set_option maxHeartbeats 4000000 in
theorem dzp_N147_87_65  {u K : Int} {t : Int64} {l : Int32} (s : q_S) (hI : q_iY true u t l K s) : (fun (x : q_S × Int32) => q_iY true u t l K x.1 ∧ q_rgz 0 255 x.2) (dz_N147_87_65 s) := by
  refine q_S_of (P := (fun (x : q_S × Int32) => q_iY true u t l K x.1 ∧ q_rgz 0 255 x.2)) ?_
  unfold dz_N147_87_65
  have j386 := dzp_N120_66 (q_sI s 23 3 (((s.2.1 23 3) + 1) &&& 255)) (q_iY_F3 hI (q_rg_le (L := 0) (U := 255) (q_rg_and ((s.2.1 23 3) + 1) 255 (U := 255) (by decide) rfl) (by decide) (by decide))) ((256 : Int32) + (((s.2.1 23 3) + 1) &&& 255))
  refine q_S_L ?_
  generalize dz_N120_66 (q_sI s 23 3 (((s.2.1 23 3) + 1) &&& 255)) ((256 : Int32) + (((s.2.1 23 3) + 1) &&& 255)) = r1 at j386 ⊢
  exact q_E_x ⟨(q_iY_F3 hI (q_rg_le (L := 0) (U := 255) (q_rg_and ((s.2.1 23 3) + 1) 255 (U := 255) (by decide) rfl) (by decide) (by decide))), q_rg_le j386 (by decide) (by decide)⟩
set_option maxHeartbeats 4000000 in
theorem dzp_N150_87  {u K : Int} {t : Int64} {l : Int32} (s : q_S) (hI : q_iY true u t l K s) (a1 : Int32) (ra1 : q_rgz 0 255 a1) : (fun (x : q_S × Int32) => q_iY true u t l K x.1 ∧ q_rgz 0 255 x.2) (dz_N150_87 s a1) := by
  refine q_S_of (P := (fun (x : q_S × Int32) => q_iY true u t l K x.1 ∧ q_rgz 0 255 x.2)) ?_
  unfold dz_N150_87
  cases h394 : decide (a1 = 0) with
  | true =>
    have g395 := q_rg_eqT h394 (q_rg_lit (n := 0) (x := 0) rfl)
    refine q_S_T ?_
    cases h396 : decide (127 < a1) with
    | true =>
      exact (q_rg_no (q_rg_ltT1 (l := 127) (U := -1) h396 (q_rg_lit (n := 127) (x := 127) rfl) g395 (by decide)) (by decide)).elim
    | false =>
      refine q_S_F ?_
      exact q_E_x ⟨(q_iY_F5 hI (q_rg_le (L := 0) (U := 255) (q_rg_or (n := 8) (W := 255) (q_rg_or (n := 8) (W := 255) (q_rg_and1 (q_rf23_5 hI) (by decide)) (q_rg_lit (n := 2) (x := 2) rfl) (by decide) (by decide) (by decide) (by decide) (by decide)) (q_rg_lit (n := 0) (x := 0) rfl) (by decide) (by decide) (by decide) (by decide) (by decide)) (by decide) (by decide))), q_rg_le g395 (by decide) (by decide)⟩
  | false =>
    have g397 := (q_rg_neL (l := 0) (u := 255) (n := 0) (L := 1) h394 ra1 rfl (by decide) (by decide))
    refine q_S_F ?_
    cases h398 : decide (127 < a1) with
    | true =>
      have g399 := (q_rg_ltT2 (L := 128) (u2 := 255) h398 (q_rg_lit (n := 127) (x := 127) rfl) g397 (by decide))
      refine q_S_T ?_
      exact q_E_x ⟨(q_iY_F5 hI (q_rg_le (L := 0) (U := 255) (q_rg_or (n := 8) (W := 255) (q_rg_or (n := 8) (W := 255) (q_rg_and1 (q_rf23_5 hI) (by decide)) (q_rg_lit (n := 0) (x := 0) rfl) (by decide) (by decide) (by decide) (by decide) (by decide)) (q_rg_lit (n := 128) (x := 128) rfl) (by decide) (by decide) (by decide) (by decide) (by decide)) (by decide) (by decide))), q_rg_le g399 (by decide) (by decide)⟩
    | false =>
      have g400 := (q_rg_ltF2 (l2 := 1) (u := 127) h398 (q_rg_lit (n := 127) (x := 127) rfl) g397)
      refine q_S_F ?_
      exact q_E_x ⟨(q_iY_F5 hI (q_rg_le (L := 0) (U := 255) (q_rg_or (n := 8) (W := 255) (q_rg_or (n := 8) (W := 255) (q_rg_and1 (q_rf23_5 hI) (by decide)) (q_rg_lit (n := 0) (x := 0) rfl) (by decide) (by decide) (by decide) (by decide) (by decide)) (q_rg_lit (n := 0) (x := 0) rfl) (by decide) (by decide) (by decide) (by decide) (by decide)) (by decide) (by decide))), q_rg_le g400 (by decide) (by decide)⟩
set_option maxHeartbeats 4000000 in
theorem dzp_N149_87_t  {u K : Int} {t : Int64} {l : Int32} (s : q_S) (hI : q_iY true u t l K s) (a1 : Int32) (ra1 : q_rgz 0 255 a1) : (q_iY true u t l K) (dz_N149_87_t s a1) := by
  refine q_S_of (P := (q_iY true u t l K)) ?_
  unfold dz_N149_87_t
  exact q_E_x (q_iY_F5 hI (q_rg_le (L := 0) (U := 255) (q_rg_or (n := 8) (W := 255) (q_rf23_5 hI) ra1 (by decide) (by decide) (by decide) (by decide) (by decide)) (by decide) (by decide)))
set_option maxHeartbeats 4000000 in
theorem dzp_N149_87_f  {u K : Int} {t : Int64} {l : Int32} (s : q_S) (hI : q_iY true u t l K s) (a1 : Int32) : (q_iY true u t l K) (dz_N149_87_f s a1) := by
  refine q_S_of (P := (q_iY true u t l K)) ?_
  unfold dz_N149_87_f
  exact q_E_x (q_iY_F5 hI (q_rg_le (L := 0) (U := 255) (q_rg_and1 (q_rf23_5 hI) (by decide)) (by decide) (by decide)))
set_option maxHeartbeats 4000000 in
theorem dzp_N164_87  {u K : Int} {t : Int64} {l : Int32} (s : q_S) (hI : q_iY true u t l K s) (a1 : Int32) : (q_iY true u t l K) (dz_N164_87 s a1) := by
  refine q_S_of (P := (q_iY true u t l K)) ?_
  unfold dz_N164_87
  cases h448 : decide (a1 < 150) with
  | true =>
    have g449 := (q_rg_ltT1 (l := -2147483648) (U := 149) h448 (q_rg_full _) (q_rg_lit (n := 150) (x := 150) rfl) (by decide))
    refine q_S_T ?_
    cases h450 : decide ((s.2.1 23 0) - (s.2.1 23 0) / 2 * 2 = 1) with
    | true =>
      have g451 := q_rg_eqT h450 (q_rg_lit (n := 1) (x := 1) rfl)
      refine q_S_T ?_
      have j452 := dzp_N149_87_t (s) hI (1) (q_rg_le (L := 0) (U := 255) (q_rg_lit (n := 1) (x := 1) rfl) (by decide) (by decide))
      refine q_S_L ?_
      generalize dz_N149_87_t s 1 = r1 at j452 ⊢
      have j453 := dzp_N150_87 (r1) j452 (((r1.2.1 23 0) / 2) + (128 * ((s.2.1 23 5) &&& 1))) (q_rg_le (L := 0) (U := 255) (q_rg_add (L := 0) (U := 255) (q_rg_div (c := 2) (U := 127) (q_rf23_0 j452) (by decide) rfl (by decide) (by decide)) (q_rg_mul (L := 0) (U := 128) (q_rg_lit (n := 128) (x := 128) rfl) (q_rg_and (s.2.1 23 5) 1 (U := 1) (by decide) rfl) (by decide) (by decide) (by decide) (by decide) (by decide) (by decide)) (by decide) (by decide) (by decide) (by decide)) (by decide) (by decide))
      refine q_S_L ?_
      generalize dz_N150_87 r1 (((r1.2.1 23 0) / 2) + (128 * ((s.2.1 23 5) &&& 1))) = r2 at j453 ⊢
      exact q_E_x (q_iY_F0 j453.1 (q_rg_le (L := 0) (U := 255) j453.2 (by decide) (by decide)))
    | false =>
      have g454 := (q_rg_neU (l := 0) (u := 1) (n := 1) (U := 0) h450 (q_rg_rem (c := 2) (U := 1) (q_rf23_0 hI) (by decide) rfl (by decide) (by decide)) rfl (by decide) (by decide))
      refine q_S_F ?_
      have j455 := dzp_N149_87_f (s) hI (1)
      refine q_S_L ?_
      generalize dz_N149_87_f s 1 = r3 at j455 ⊢
      have j456 := dzp_N150_87 (r3) j455 (((r3.2.1 23 0) / 2) + (128 * ((s.2.1 23 5) &&& 1))) (q_rg_le (L := 0) (U := 255) (q_rg_add (L := 0) (U := 255) (q_rg_div (c := 2) (U := 127) (q_rf23_0 j455) (by decide) rfl (by decide) (by decide)) (q_rg_mul (L := 0) (U := 128) (q_rg_lit (n := 128) (x := 128) rfl) (q_rg_and (s.2.1 23 5) 1 (U := 1) (by decide) rfl) (by decide) (by decide) (by decide) (by decide) (by decide) (by decide)) (by decide) (by decide) (by decide) (by decide)) (by decide) (by decide))
      refine q_S_L ?_
      generalize dz_N150_87 r3 (((r3.2.1 23 0) / 2) + (128 * ((s.2.1 23 5) &&& 1))) = r4 at j456 ⊢
      exact q_E_x (q_iY_F0 j456.1 (q_rg_le (L := 0) (U := 255) j456.2 (by decide) (by decide)))
  | false =>
    have g457 := (q_rg_ltF1 (l2 := 150) (u := 2147483647) h448 (q_rg_full _) (q_rg_lit (n := 150) (x := 150) rfl))
    refine q_S_F ?_
    cases h458 : decide (152 < a1) with
    | true =>
      have g459 := (q_rg_ltT2 (L := 153) (u2 := 2147483647) h458 (q_rg_lit (n := 152) (x := 152) rfl) g457 (by decide))
      refine q_S_T ?_
      cases h460 : decide ((s.2.1 23 0) - (s.2.1 23 0) / 2 * 2 = 1) with
      | true =>
        have g461 := q_rg_eqT h460 (q_rg_lit (n := 1) (x := 1) rfl)
        refine q_S_T ?_
        have j462 := dzp_N149_87_t (s) hI (1) (q_rg_le (L := 0) (U := 255) (q_rg_lit (n := 1) (x := 1) rfl) (by decide) (by decide))
        refine q_S_L ?_
        generalize dz_N149_87_t s 1 = r5 at j462 ⊢
        have j463 := dzp_N150_87 (r5) j462 (((r5.2.1 23 0) / 2) + (128 * ((s.2.1 23 5) &&& 1))) (q_rg_le (L := 0) (U := 255) (q_rg_add (L := 0) (U := 255) (q_rg_div (c := 2) (U := 127) (q_rf23_0 j462) (by decide) rfl (by decide) (by decide)) (q_rg_mul (L := 0) (U := 128) (q_rg_lit (n := 128) (x := 128) rfl) (q_rg_and (s.2.1 23 5) 1 (U := 1) (by decide) rfl) (by decide) (by decide) (by decide) (by decide) (by decide) (by decide)) (by decide) (by decide) (by decide) (by decide)) (by decide) (by decide))
        refine q_S_L ?_
        generalize dz_N150_87 r5 (((r5.2.1 23 0) / 2) + (128 * ((s.2.1 23 5) &&& 1))) = r6 at j463 ⊢
        exact q_E_x (q_iY_F0 j463.1 (q_rg_le (L := 0) (U := 255) j463.2 (by decide) (by decide)))
      | false =>
        have g464 := (q_rg_neU (l := 0) (u := 1) (n := 1) (U := 0) h460 (q_rg_rem (c := 2) (U := 1) (q_rf23_0 hI) (by decide) rfl (by decide) (by decide)) rfl (by decide) (by decide))
        refine q_S_F ?_
        have j465 := dzp_N149_87_f (s) hI (1)
        refine q_S_L ?_
        generalize dz_N149_87_f s 1 = r7 at j465 ⊢
        have j466 := dzp_N150_87 (r7) j465 (((r7.2.1 23 0) / 2) + (128 * ((s.2.1 23 5) &&& 1))) (q_rg_le (L := 0) (U := 255) (q_rg_add (L := 0) (U := 255) (q_rg_div (c := 2) (U := 127) (q_rf23_0 j465) (by decide) rfl (by decide) (by decide)) (q_rg_mul (L := 0) (U := 128) (q_rg_lit (n := 128) (x := 128) rfl) (q_rg_and (s.2.1 23 5) 1 (U := 1) (by decide) rfl) (by decide) (by decide) (by decide) (by decide) (by decide) (by decide)) (by decide) (by decide) (by decide) (by decide)) (by decide) (by decide))
        refine q_S_L ?_
        generalize dz_N150_87 r7 (((r7.2.1 23 0) / 2) + (128 * ((s.2.1 23 5) &&& 1))) = r8 at j466 ⊢
        exact q_E_x (q_iY_F0 j466.1 (q_rg_le (L := 0) (U := 255) j466.2 (by decide) (by decide)))
    | false =>
      have g467 := (q_rg_ltF2 (l2 := 150) (u := 152) h458 (q_rg_lit (n := 152) (x := 152) rfl) g457)
      refine q_S_F ?_
      cases h468 : decide (a1 = 150) with
      | true =>
        have g469 := q_rg_eqT h468 (q_rg_lit (n := 150) (x := 150) rfl)
        refine q_S_T ?_
        cases h470 : decide (127 < s.2.1 23 0) with
        | true =>
          have g471 := (q_rg_ltT2 (L := 128) (u2 := 255) h470 (q_rg_lit (n := 127) (x := 127) rfl) (q_rf23_0 hI) (by decide))
          refine q_S_T ?_
          have j472 := dzp_N149_87_t (s) hI (1) (q_rg_le (L := 0) (U := 255) (q_rg_lit (n := 1) (x := 1) rfl) (by decide) (by decide))
          refine q_S_L ?_
          generalize dz_N149_87_t s 1 = r9 at j472 ⊢
          have j473 := dzp_N150_87 (r9) j472 ((2 * (r9.2.1 23 0)) &&& 255) (q_rg_le (L := 0) (U := 255) (q_rg_and (2 * (r9.2.1 23 0)) 255 (U := 255) (by decide) rfl) (by decide) (by decide))
          refine q_S_L ?_
          generalize dz_N150_87 r9 ((2 * (r9.2.1 23 0)) &&& 255) = r10 at j473 ⊢
          exact q_E_x (q_iY_F0 j473.1 (q_rg_le (L := 0) (U := 255) j473.2 (by decide) (by decide)))
        | false =>
          have g474 := (q_rg_ltF2 (l2 := 0) (u := 127) h470 (q_rg_lit (n := 127) (x := 127) rfl) (q_rf23_0 hI))
          refine q_S_F ?_
          have j475 := dzp_N149_87_f (s) hI (1)
          refine q_S_L ?_
          generalize dz_N149_87_f s 1 = r11 at j475 ⊢
          have j476 := dzp_N150_87 (r11) j475 ((2 * (r11.2.1 23 0)) &&& 255) (q_rg_le (L := 0) (U := 255) (q_rg_and (2 * (r11.2.1 23 0)) 255 (U := 255) (by decide) rfl) (by decide) (by decide))
          refine q_S_L ?_
          generalize dz_N150_87 r11 ((2 * (r11.2.1 23 0)) &&& 255) = r12 at j476 ⊢
          exact q_E_x (q_iY_F0 j476.1 (q_rg_le (L := 0) (U := 255) j476.2 (by decide) (by decide)))
      | false =>
        have g477 := (q_rg_neL (l := 150) (u := 152) (n := 150) (L := 151) h468 g467 rfl (by decide) (by decide))
        refine q_S_F ?_
        cases h478 : decide (a1 = 151) with
        | true =>
          have g479 := q_rg_eqT h478 (q_rg_lit (n := 151) (x := 151) rfl)
          refine q_S_T ?_
          cases h480 : decide ((s.2.1 23 0) - (s.2.1 23 0) / 2 * 2 = 1) with
          | true =>
            have g481 := q_rg_eqT h480 (q_rg_lit (n := 1) (x := 1) rfl)
            refine q_S_T ?_
            have j482 := dzp_N149_87_t (s) hI (1) (q_rg_le (L := 0) (U := 255) (q_rg_lit (n := 1) (x := 1) rfl) (by decide) (by decide))
            refine q_S_L ?_
            generalize dz_N149_87_t s 1 = r13 at j482 ⊢
            have j483 := dzp_N150_87 (r13) j482 ((r13.2.1 23 0) / 2) (q_rg_le (L := 0) (U := 255) (q_rg_div (c := 2) (U := 127) (q_rf23_0 j482) (by decide) rfl (by decide) (by decide)) (by decide) (by decide))
            refine q_S_L ?_
            generalize dz_N150_87 r13 ((r13.2.1 23 0) / 2) = r14 at j483 ⊢
            exact q_E_x (q_iY_F0 j483.1 (q_rg_le (L := 0) (U := 255) j483.2 (by decide) (by decide)))
          | false =>
            have g484 := (q_rg_neU (l := 0) (u := 1) (n := 1) (U := 0) h480 (q_rg_rem (c := 2) (U := 1) (q_rf23_0 hI) (by decide) rfl (by decide) (by decide)) rfl (by decide) (by decide))
            refine q_S_F ?_
            have j485 := dzp_N149_87_f (s) hI (1)
            refine q_S_L ?_
            generalize dz_N149_87_f s 1 = r15 at j485 ⊢
            have j486 := dzp_N150_87 (r15) j485 ((r15.2.1 23 0) / 2) (q_rg_le (L := 0) (U := 255) (q_rg_div (c := 2) (U := 127) (q_rf23_0 j485) (by decide) rfl (by decide) (by decide)) (by decide) (by decide))
            refine q_S_L ?_
            generalize dz_N150_87 r15 ((r15.2.1 23 0) / 2) = r16 at j486 ⊢
            exact q_E_x (q_iY_F0 j486.1 (q_rg_le (L := 0) (U := 255) j486.2 (by decide) (by decide)))
        | false =>
          have g487 := (q_rg_neL (l := 151) (u := 152) (n := 151) (L := 152) h478 g477 rfl (by decide) (by decide))
          refine q_S_F ?_
          cases h488 : decide (127 < s.2.1 23 0) with
          | true =>
            have g489 := (q_rg_ltT2 (L := 128) (u2 := 255) h488 (q_rg_lit (n := 127) (x := 127) rfl) (q_rf23_0 hI) (by decide))
            refine q_S_T ?_
            have j490 := dzp_N149_87_t (s) hI (1) (q_rg_le (L := 0) (U := 255) (q_rg_lit (n := 1) (x := 1) rfl) (by decide) (by decide))
            refine q_S_L ?_
            generalize dz_N149_87_t s 1 = r17 at j490 ⊢
            have j491 := dzp_N150_87 (r17) j490 (((2 * (r17.2.1 23 0)) + ((s.2.1 23 5) &&& 1)) &&& 255) (q_rg_le (L := 0) (U := 255) (q_rg_and ((2 * (r17.2.1 23 0)) + ((s.2.1 23 5) &&& 1)) 255 (U := 255) (by decide) rfl) (by decide) (by decide))
            refine q_S_L ?_
            generalize dz_N150_87 r17 (((2 * (r17.2.1 23 0)) + ((s.2.1 23 5) &&& 1)) &&& 255) = r18 at j491 ⊢
            exact q_E_x (q_iY_F0 j491.1 (q_rg_le (L := 0) (U := 255) j491.2 (by decide) (by decide)))
          | false =>
            have g492 := (q_rg_ltF2 (l2 := 0) (u := 127) h488 (q_rg_lit (n := 127) (x := 127) rfl) (q_rf23_0 hI))
            refine q_S_F ?_
            have j493 := dzp_N149_87_f (s) hI (1)
            refine q_S_L ?_
            generalize dz_N149_87_f s 1 = r19 at j493 ⊢
            have j494 := dzp_N150_87 (r19) j493 (((2 * (r19.2.1 23 0)) + ((s.2.1 23 5) &&& 1)) &&& 255) (q_rg_le (L := 0) (U := 255) (q_rg_and ((2 * (r19.2.1 23 0)) + ((s.2.1 23 5) &&& 1)) 255 (U := 255) (by decide) rfl) (by decide) (by decide))
            refine q_S_L ?_
            generalize dz_N150_87 r19 (((2 * (r19.2.1 23 0)) + ((s.2.1 23 5) &&& 1)) &&& 255) = r20 at j494 ⊢
            exact q_E_x (q_iY_F0 j494.1 (q_rg_le (L := 0) (U := 255) j494.2 (by decide) (by decide)))
set_option maxHeartbeats 4000000 in
theorem dzp_N163_87  {u K : Int} {t : Int64} {l : Int32} (s : q_S) (hI : q_iY true u t l K s) (a1 : Int32) : (q_iY true u t l K) (dz_N163_87 s a1) := by
  refine q_S_of (P := (q_iY true u t l K)) ?_
  unfold dz_N163_87
  cases h524 : decide (a1 < 142) with
  | true =>
    have g525 := (q_rg_ltT1 (l := -2147483648) (U := 141) h524 (q_rg_full _) (q_rg_lit (n := 142) (x := 142) rfl) (by decide))
    refine q_S_T ?_
    have j526 := dzp_N149_87_f (s) hI (64)
    refine q_S_L ?_
    generalize dz_N149_87_f s 64 = r1 at j526 ⊢
    exact q_E_x j526
  | false =>
    have g527 := (q_rg_ltF1 (l2 := 142) (u := 2147483647) h524 (q_rg_full _) (q_rg_lit (n := 142) (x := 142) rfl))
    refine q_S_F ?_
    cases h528 : decide (147 < a1) with
    | true =>
      have g529 := (q_rg_ltT2 (L := 148) (u2 := 2147483647) h528 (q_rg_lit (n := 147) (x := 147) rfl) g527 (by decide))
      refine q_S_T ?_
      have j530 := dzp_N149_87_f (s) hI (64)
      refine q_S_L ?_
      generalize dz_N149_87_f s 64 = r2 at j530 ⊢
      exact q_E_x j530
    | false =>
      have g531 := (q_rg_ltF2 (l2 := 142) (u := 147) h528 (q_rg_lit (n := 147) (x := 147) rfl) g527)
      refine q_S_F ?_
      cases h532 : decide (a1 = 142) with
      | true =>
        have g533 := q_rg_eqT h532 (q_rg_lit (n := 142) (x := 142) rfl)
        refine q_S_T ?_
        have j534 := dzp_N149_87_t (s) hI (1) (q_rg_le (L := 0) (U := 255) (q_rg_lit (n := 1) (x := 1) rfl) (by decide) (by decide))
        refine q_S_L ?_
        generalize dz_N149_87_t s 1 = r3 at j534 ⊢
        exact q_E_x j534
      | false =>
        have g535 := (q_rg_neL (l := 142) (u := 147) (n := 142) (L := 143) h532 g531 rfl (by decide) (by decide))
        refine q_S_F ?_
        cases h536 : decide (a1 = 143) with
        | true =>
          have g537 := q_rg_eqT h536 (q_rg_lit (n := 143) (x := 143) rfl)
          refine q_S_T ?_
          have j538 := dzp_N149_87_f (s) hI (1)
          refine q_S_L ?_
          generalize dz_N149_87_f s 1 = r4 at j538 ⊢
          exact q_E_x j538
        | false =>
          have g539 := (q_rg_neL (l := 143) (u := 147) (n := 143) (L := 144) h536 g535 rfl (by decide) (by decide))
          refine q_S_F ?_
          cases h540 : decide (a1 = 144) with
          | true =>
            have g541 := q_rg_eqT h540 (q_rg_lit (n := 144) (x := 144) rfl)
            refine q_S_T ?_
            have j542 := dzp_N149_87_t (s) hI (8) (q_rg_le (L := 0) (U := 255) (q_rg_lit (n := 8) (x := 8) rfl) (by decide) (by decide))
            refine q_S_L ?_
            generalize dz_N149_87_t s 8 = r5 at j542 ⊢
            exact q_E_x j542
          | false =>
            have g543 := (q_rg_neL (l := 144) (u := 147) (n := 144) (L := 145) h540 g539 rfl (by decide) (by decide))
            refine q_S_F ?_
            cases h544 : decide (a1 = 145) with
            | true =>
              have g545 := q_rg_eqT h544 (q_rg_lit (n := 145) (x := 145) rfl)
              refine q_S_T ?_
              have j546 := dzp_N149_87_f (s) hI (8)
              refine q_S_L ?_
              generalize dz_N149_87_f s 8 = r6 at j546 ⊢
              exact q_E_x j546
            | false =>
              have g547 := (q_rg_neL (l := 145) (u := 147) (n := 145) (L := 146) h544 g543 rfl (by decide) (by decide))
              refine q_S_F ?_
              cases h548 : decide (a1 = 146) with
              | true =>
                have g549 := q_rg_eqT h548 (q_rg_lit (n := 146) (x := 146) rfl)
                refine q_S_T ?_
                have j550 := dzp_N149_87_t (s) hI (4) (q_rg_le (L := 0) (U := 255) (q_rg_lit (n := 4) (x := 4) rfl) (by decide) (by decide))
                refine q_S_L ?_
                generalize dz_N149_87_t s 4 = r7 at j550 ⊢
                exact q_E_x j550
              | false =>
                have g551 := (q_rg_neL (l := 146) (u := 147) (n := 146) (L := 147) h548 g547 rfl (by decide) (by decide))
                refine q_S_F ?_
                have j552 := dzp_N149_87_f (s) hI (4)
                refine q_S_L ?_
                generalize dz_N149_87_f s 4 = r8 at j552 ⊢
                exact q_E_x j552
set_option maxHeartbeats 4000000 in
theorem dzp_N162_87  {u K : Int} {t : Int64} {l : Int32} (s : q_S) (hI : q_iY true u t l K s) (a1 : Int32) : (q_iY true u t l K) (dz_N162_87 s a1) := by
  refine q_S_of (P := (q_iY true u t l K)) ?_
  unfold dz_N162_87
  cases h592 : decide (a1 < 128) with
  | true =>
    have g593 := (q_rg_ltT1 (l := -2147483648) (U := 127) h592 (q_rg_full _) (q_rg_lit (n := 128) (x := 128) rfl) (by decide))
    refine q_S_T ?_
    exact q_E_x (q_iY_F3 hI (q_rg_le (L := 0) (U := 255) (q_rf23_1 hI) (by decide) (by decide)))
  | false =>
    have g594 := (q_rg_ltF1 (l2 := 128) (u := 2147483647) h592 (q_rg_full _) (q_rg_lit (n := 128) (x := 128) rfl))
    refine q_S_F ?_
    cases h595 : decide (136 < a1) with
    | true =>
      have g596 := (q_rg_ltT2 (L := 137) (u2 := 2147483647) h595 (q_rg_lit (n := 136) (x := 136) rfl) g594 (by decide))
      refine q_S_T ?_
      exact q_E_x (q_iY_F3 hI (q_rg_le (L := 0) (U := 255) (q_rf23_1 hI) (by decide) (by decide)))
    | false =>
      have g597 := (q_rg_ltF2 (l2 := 128) (u := 136) h595 (q_rg_lit (n := 136) (x := 136) rfl) g594)
      refine q_S_F ?_
      cases h598 : decide (a1 = 128) with
      | true =>
        have g599 := q_rg_eqT h598 (q_rg_lit (n := 128) (x := 128) rfl)
        refine q_S_T ?_
        have j600 := dzp_N150_87 (s) hI (((s.2.1 23 1) + 1) &&& 255) (q_rg_le (L := 0) (U := 255) (q_rg_and ((s.2.1 23 1) + 1) 255 (U := 255) (by decide) rfl) (by decide) (by decide))
        refine q_S_L ?_
        generalize dz_N150_87 s (((s.2.1 23 1) + 1) &&& 255) = r1 at j600 ⊢
        exact q_E_x (q_iY_F1 j600.1 (q_rg_le (L := 0) (U := 255) j600.2 (by decide) (by decide)))
      | false =>
        have g601 := (q_rg_neL (l := 128) (u := 136) (n := 128) (L := 129) h598 g597 rfl (by decide) (by decide))
        refine q_S_F ?_
        cases h602 : decide (a1 = 129) with
        | true =>
          have g603 := q_rg_eqT h602 (q_rg_lit (n := 129) (x := 129) rfl)
          refine q_S_T ?_
          have j604 := dzp_N150_87 (s) hI (((s.2.1 23 1) - 1) &&& 255) (q_rg_le (L := 0) (U := 255) (q_rg_and ((s.2.1 23 1) - 1) 255 (U := 255) (by decide) rfl) (by decide) (by decide))
          refine q_S_L ?_
          generalize dz_N150_87 s (((s.2.1 23 1) - 1) &&& 255) = r2 at j604 ⊢
          exact q_E_x (q_iY_F1 j604.1 (q_rg_le (L := 0) (U := 255) j604.2 (by decide) (by decide)))
        | false =>
          have g605 := (q_rg_neL (l := 129) (u := 136) (n := 129) (L := 130) h602 g601 rfl (by decide) (by decide))
          refine q_S_F ?_
          cases h606 : decide (a1 = 130) with
          | true =>
            have g607 := q_rg_eqT h606 (q_rg_lit (n := 130) (x := 130) rfl)
            refine q_S_T ?_
            have j608 := dzp_N150_87 (s) hI (((s.2.1 23 2) + 1) &&& 255) (q_rg_le (L := 0) (U := 255) (q_rg_and ((s.2.1 23 2) + 1) 255 (U := 255) (by decide) rfl) (by decide) (by decide))
            refine q_S_L ?_
            generalize dz_N150_87 s (((s.2.1 23 2) + 1) &&& 255) = r3 at j608 ⊢
            exact q_E_x (q_iY_F2 j608.1 (q_rg_le (L := 0) (U := 255) j608.2 (by decide) (by decide)))
          | false =>
            have g609 := (q_rg_neL (l := 130) (u := 136) (n := 130) (L := 131) h606 g605 rfl (by decide) (by decide))
            refine q_S_F ?_
            cases h610 : decide (a1 = 131) with
            | true =>
              have g611 := q_rg_eqT h610 (q_rg_lit (n := 131) (x := 131) rfl)
              refine q_S_T ?_
              have j612 := dzp_N150_87 (s) hI (((s.2.1 23 2) - 1) &&& 255) (q_rg_le (L := 0) (U := 255) (q_rg_and ((s.2.1 23 2) - 1) 255 (U := 255) (by decide) rfl) (by decide) (by decide))
              refine q_S_L ?_
              generalize dz_N150_87 s (((s.2.1 23 2) - 1) &&& 255) = r4 at j612 ⊢
              exact q_E_x (q_iY_F2 j612.1 (q_rg_le (L := 0) (U := 255) j612.2 (by decide) (by decide)))
            | false =>
              have g613 := (q_rg_neL (l := 131) (u := 136) (n := 131) (L := 132) h610 g609 rfl (by decide) (by decide))
              refine q_S_F ?_
              cases h614 : decide (a1 = 132) with
              | true =>
                have g615 := q_rg_eqT h614 (q_rg_lit (n := 132) (x := 132) rfl)
                refine q_S_T ?_
                have j616 := dzp_N150_87 (s) hI (s.2.1 23 0) (q_rg_le (L := 0) (U := 255) (q_rf23_0 hI) (by decide) (by decide))
                refine q_S_L ?_
                generalize dz_N150_87 s (s.2.1 23 0) = r5 at j616 ⊢
                exact q_E_x (q_iY_F1 j616.1 (q_rg_le (L := 0) (U := 255) j616.2 (by decide) (by decide)))
              | false =>
                have g617 := (q_rg_neL (l := 132) (u := 136) (n := 132) (L := 133) h614 g613 rfl (by decide) (by decide))
                refine q_S_F ?_
                cases h618 : decide (a1 = 133) with
                | true =>
                  have g619 := q_rg_eqT h618 (q_rg_lit (n := 133) (x := 133) rfl)
                  refine q_S_T ?_
                  have j620 := dzp_N150_87 (s) hI (s.2.1 23 1) (q_rg_le (L := 0) (U := 255) (q_rf23_1 hI) (by decide) (by decide))
                  refine q_S_L ?_
                  generalize dz_N150_87 s (s.2.1 23 1) = r6 at j620 ⊢
                  exact q_E_x (q_iY_F0 j620.1 (q_rg_le (L := 0) (U := 255) j620.2 (by decide) (by decide)))
                | false =>
                  have g621 := (q_rg_neL (l := 133) (u := 136) (n := 133) (L := 134) h618 g617 rfl (by decide) (by decide))
                  refine q_S_F ?_
                  cases h622 : decide (a1 = 134) with
                  | true =>
                    have g623 := q_rg_eqT h622 (q_rg_lit (n := 134) (x := 134) rfl)
                    refine q_S_T ?_
                    have j624 := dzp_N150_87 (s) hI (s.2.1 23 0) (q_rg_le (L := 0) (U := 255) (q_rf23_0 hI) (by decide) (by decide))
                    refine q_S_L ?_
                    generalize dz_N150_87 s (s.2.1 23 0) = r7 at j624 ⊢
                    exact q_E_x (q_iY_F2 j624.1 (q_rg_le (L := 0) (U := 255) j624.2 (by decide) (by decide)))
                  | false =>
                    have g625 := (q_rg_neL (l := 134) (u := 136) (n := 134) (L := 135) h622 g621 rfl (by decide) (by decide))
                    refine q_S_F ?_
                    cases h626 : decide (a1 = 135) with
                    | true =>
                      have g627 := q_rg_eqT h626 (q_rg_lit (n := 135) (x := 135) rfl)
                      refine q_S_T ?_
                      have j628 := dzp_N150_87 (s) hI (s.2.1 23 2) (q_rg_le (L := 0) (U := 255) (q_rf23_2 hI) (by decide) (by decide))
                      refine q_S_L ?_
                      generalize dz_N150_87 s (s.2.1 23 2) = r8 at j628 ⊢
                      exact q_E_x (q_iY_F0 j628.1 (q_rg_le (L := 0) (U := 255) j628.2 (by decide) (by decide)))
                    | false =>
                      have g629 := (q_rg_neL (l := 135) (u := 136) (n := 135) (L := 136) h626 g625 rfl (by decide) (by decide))
                      refine q_S_F ?_
                      have j630 := dzp_N150_87 (s) hI (s.2.1 23 3) (q_rg_le (L := 0) (U := 255) (q_rf23_3 hI) (by decide) (by decide))
                      refine q_S_L ?_
                      generalize dz_N150_87 s (s.2.1 23 3) = r9 at j630 ⊢
                      exact q_E_x (q_iY_F1 j630.1 (q_rg_le (L := 0) (U := 255) j630.2 (by decide) (by decide)))
set_option maxHeartbeats 4000000 in
theorem dzp_N157_87_65_37  {u K : Int} {t : Int64} {l : Int32} (s : q_S) (hI : q_iY true u t l K s) (v2 : Int32) (rv2 : q_rgz 138 2147483647 v2) : q_Ex (dz_N157_87_65_37 s v2) (q_iY true u t l (K + 1)) := by
  unfold dz_N157_87_65_37
  cases h676 : decide (v2 < 150) with
  | true =>
    have g677 := (q_rg_ltT1 (l := 138) (U := 149) h676 rv2 (q_rg_lit (n := 150) (x := 150) rfl) (by decide))
    refine q_E_T ?_
    cases h678 : decide (v2 = 138) with
    | true =>
      have g679 := q_rg_eqT h678 (q_rg_lit (n := 138) (x := 138) rfl)
      refine q_E_T ?_
      obtain ⟨r2, e681, j680⟩ := dzp_N146_87_65 (s) hI (s.2.1 23 0) (q_rg_le (L := 0) (U := 255) (q_rf23_0 hI) (by decide) (by decide))
      rw [e681]
      refine q_E_B ?_
      exact q_E_x (q_iY_le j680 (by omega))
    | false =>
      have g682 := (q_rg_neL (l := 138) (u := 149) (n := 138) (L := 139) h678 g677 rfl (by decide) (by decide))
      refine q_E_F ?_
      cases h683 : decide (v2 = 139) with
      | true =>
        have g684 := q_rg_eqT h683 (q_rg_lit (n := 139) (x := 139) rfl)
        refine q_E_T ?_
        have j685 := dzp_N147_87_65 (s) hI
        refine q_E_L ?_
        generalize dz_N147_87_65 s = r3 at j685 ⊢
        have j686 := dzp_N150_87 (r3.1) j685.1 (r3.2) (q_rg_le (L := 0) (U := 255) j685.2 (by decide) (by decide))
        refine q_E_L ?_
        generalize dz_N150_87 r3.1 r3.2 = r4 at j686 ⊢
        exact q_E_x (q_iY_le (q_iY_F0 j686.1 (q_rg_le (L := 0) (U := 255) j686.2 (by decide) (by decide))) (by omega))
      | false =>
        have g687 := (q_rg_neL (l := 139) (u := 149) (n := 139) (L := 140) h683 g682 rfl (by decide) (by decide))
        refine q_E_F ?_
        cases h688 : decide (v2 = 140) with
        | true =>
          have g689 := q_rg_eqT h688 (q_rg_lit (n := 140) (x := 140) rfl)
          refine q_E_T ?_
          obtain ⟨r5, e691, j690⟩ := dzp_N146_87_65 (s) hI (((s.2.1 23 5) ||| 32) ||| 16) (q_rg_le (L := 0) (U := 255) (q_rg_or (n := 8) (W := 255) (q_rg_or (n := 8) (W := 255) (q_rf23_5 hI) (q_rg_lit (n := 32) (x := 32) rfl) (by decide) (by decide) (by decide) (by decide) (by decide)) (q_rg_lit (n := 16) (x := 16) rfl) (by decide) (by decide) (by decide) (by decide) (by decide)) (by decide) (by decide))
          rw [e691]
          refine q_E_B ?_
          exact q_E_x (q_iY_le j690 (by omega))
        | false =>
          have g692 := (q_rg_neL (l := 140) (u := 149) (n := 140) (L := 141) h688 g687 rfl (by decide) (by decide))
          refine q_E_F ?_
          cases h693 : decide (v2 = 141) with
          | true =>
            have g694 := q_rg_eqT h693 (q_rg_lit (n := 141) (x := 141) rfl)
            refine q_E_T ?_
            have j695 := dzp_N147_87_65 (s) hI
            refine q_E_L ?_
            generalize dz_N147_87_65 s = r6 at j695 ⊢
            exact q_E_x (q_iY_le (q_iY_F5 j695.1 (q_rg_le (L := 0) (U := 255) (q_rg_and r6.2 207 (U := 207) (by decide) rfl) (by decide) (by decide))) (by omega))
          | false =>
            have g696 := (q_rg_neL (l := 141) (u := 149) (n := 141) (L := 142) h693 g692 rfl (by decide) (by decide))
            refine q_E_F ?_
            exact q_E_x (q_iY_le hI (by omega))
  | false =>
    have g697 := (q_rg_ltF1 (l2 := 150) (u := 2147483647) h676 rv2 (q_rg_lit (n := 150) (x := 150) rfl))
    refine q_E_F ?_
    have j698 := dzp_N164_87 (s) hI (v2)
    refine q_E_L ?_
    generalize dz_N164_87 s v2 = r7 at j698 ⊢
    exact q_E_x (q_iY_le j698 (by omega))
set_option maxHeartbeats 4000000 in
theorem dzp_N157_87_65  {u K : Int} {t : Int64} {l : Int32} (s : q_S) (hI : q_iY true u t l K s) (a2 : Int32) : q_Ex (dz_N157_87_65 s a2) (q_iY true u t l (K + 1)) := by
  unfold dz_N157_87_65
  cases h699 : decide (137 < a2) with
  | true =>
    have g700 := (q_rg_ltT2 (L := 138) (u2 := 2147483647) h699 (q_rg_lit (n := 137) (x := 137) rfl) (q_rg_full _) (by decide))
    refine q_E_T ?_
    cases h701 : decide (a2 < 142) with
    | true =>
      have g702 := (q_rg_ltT1 (l := 138) (U := 141) h701 g700 (q_rg_lit (n := 142) (x := 142) rfl) (by decide))
      refine q_E_T ?_
      exact q_E_to (dzp_N157_87_65_37 (s) hI (a2) (q_rg_le (L := 138) (U := 2147483647) g702 (by decide) (by decide))) (fun x hx => (q_iY_le hx (by omega)))
    | false =>
      have g703 := (q_rg_ltF1 (l2 := 142) (u := 2147483647) h701 g700 (q_rg_lit (n := 142) (x := 142) rfl))
      refine q_E_F ?_
      cases h704 : decide (148 < a2) with
      | true =>
        have g705 := (q_rg_ltT2 (L := 149) (u2 := 2147483647) h704 (q_rg_lit (n := 148) (x := 148) rfl) g703 (by decide))
        refine q_E_T ?_
        exact q_E_to (dzp_N157_87_65_37 (s) hI (a2) (q_rg_le (L := 138) (U := 2147483647) g705 (by decide) (by decide))) (fun x hx => (q_iY_le hx (by omega)))
      | false =>
        have g706 := (q_rg_ltF2 (l2 := 142) (u := 148) h704 (q_rg_lit (n := 148) (x := 148) rfl) g703)
        refine q_E_F ?_
        have j707 := dzp_N163_87 (s) hI (a2)
        refine q_E_L ?_
        generalize dz_N163_87 s a2 = r8 at j707 ⊢
        exact q_E_x (q_iY_le j707 (by omega))
  | false =>
    have g708 := (q_rg_ltF2 (l2 := -2147483648) (u := 137) h699 (q_rg_lit (n := 137) (x := 137) rfl) (q_rg_full _))
    refine q_E_F ?_
    have j709 := dzp_N162_87 (s) hI (a2)
    refine q_E_L ?_
    generalize dz_N162_87 s a2 = r9 at j709 ⊢
    exact q_E_x (q_iY_le j709 (by omega))
set_option maxHeartbeats 4000000 in
theorem dzp_N160_87_65  {u K : Int} {t : Int64} {l : Int32} (s : q_S) (hI : q_iY true u t l K s) : (fun (x : q_S × Int32) => q_iY true u t l K x.1 ∧ q_rgz 0 4095 x.2) (dz_N160_87_65 s) := by
  refine q_S_of (P := (fun (x : q_S × Int32) => q_iY true u t l K x.1 ∧ q_rgz 0 4095 x.2)) ?_
  unfold dz_N160_87_65
  have j712 := dzp_N147_87_65 (s) hI
  refine q_S_L ?_
  generalize dz_N147_87_65 s = r1 at j712 ⊢
  have j713 := dzp_N147_87_65 (r1.1) j712.1
  refine q_S_L ?_
  generalize dz_N147_87_65 r1.1 = r2 at j713 ⊢
  exact q_E_x ⟨j713.1, q_rg_le (q_rg_and (r1.2 + (256 * r2.2)) 4095 (U := 4095) (by decide) rfl) (by decide) (by decide)⟩
set_option maxHeartbeats 4000000 in
theorem dzp_N159_87_65  {u K : Int} {t : Int64} {l : Int32} (s : q_S) (hI : q_iY true u t l K s) (a2 : Int32) (ra2 : q_rgz 0 4095 a2) : q_Ex (dz_N159_87_65 s a2) (fun x => q_rgz 0 4095 x) := by
  unfold dz_N159_87_65
  obtain ⟨r2, e719, j718⟩ := dzp_N90_65 (s) hI (a2) (q_rg_le (L := 0) (U := 4095) ra2 (by decide) (by decide))
  rw [e719]
  refine q_E_B ?_
  obtain ⟨r3, e721, j720⟩ := dzp_N90_65 (s) hI (((a2 / 256) * 256) + ((a2 + 1) &&& 255)) (q_rg_le (L := 0) (U := 4095) (q_rg_add (L := 0) (U := 4095) (q_rg_mul (L := 0) (U := 3840) (q_rg_div (c := 256) (U := 15) ra2 (by decide) rfl (by decide) (by decide)) (q_rg_lit (n := 256) (x := 256) rfl) (by decide) (by decide) (by decide) (by decide) (by decide) (by decide)) (q_rg_and (a2 + 1) 255 (U := 255) (by decide) rfl) (by decide) (by decide) (by decide) (by decide)) (by decide) (by decide))
  rw [e721]
  refine q_E_B ?_
  exact q_E_x (q_rg_le (q_rg_and (r2 + (256 * r3)) 4095 (U := 4095) (by decide) rfl) (by decide) (by decide))
set_option maxHeartbeats 4000000 in
theorem dzp_N158_87_65  {u K : Int} {t : Int64} {l : Int32} (s : q_S) (hI : q_iY true u t l K s) (a2 : Int32) (a3 : Int32) (ra3 : q_rgz 0 4095 a3) : q_Ex (dz_N158_87_65 s a2 a3) (fun (x : q_S × Int32) => q_iY true u t l (K + 2) x.1 ∧ q_rgz 0 4095 x.2) := by
  unfold dz_N158_87_65
  cases h773 : decide (a2 < 155) with
  | true =>
    have g774 := (q_rg_ltT1 (l := -2147483648) (U := 154) h773 (q_rg_full _) (q_rg_lit (n := 155) (x := 155) rfl) (by decide))
    refine q_E_T ?_
    have j775 := dzp_N187 (s) hI (a2)
    refine q_E_L ?_
    generalize dz_N187 s a2 = r5 at j775 ⊢
    cases h776 : r5 with
    | true =>
      refine q_E_T ?_
      have j777 := dzp_N161_87 (s) hI (a2)
      refine q_E_L ?_
      generalize dz_N161_87 s a2 = r6 at j777 ⊢
      cases h778 : r6 with
      | true =>
        refine q_E_T ?_
        have j779 := dzp_N140_87 (s) hI (1)
        refine q_E_L ?_
        generalize dz_N140_87 s 1 = r7 at j779 ⊢
        obtain ⟨r8, e781, j780⟩ := dzp_N90_65 (s) hI (r7) (q_rg_le (L := 0) (U := 4095) j779 (by decide) (by decide))
        rw [e781]
        refine q_E_B ?_
        have j782 := dzp_N139_87 (s) hI (r8)
        refine q_E_L ?_
        generalize dz_N139_87 s r8 = r9 at j782 ⊢
        exact q_E_x ⟨(q_iY_le hI (by omega)), q_rg_le j782 (by decide) (by decide)⟩
      | false =>
        refine q_E_F ?_
        exact q_E_x ⟨(q_iY_le hI (by omega)), q_rg_le ra3 (by decide) (by decide)⟩
    | false =>
      refine q_E_F ?_
      exact q_E_x ⟨(q_iY_le (q_iY_F7 hI (q_rg_le (L := 0) (U := 1) (q_rg_lit (n := 1) (x := 1) rfl) (by decide) (by decide))) (by omega)), q_rg_le (q_rf23_4 hI) (by decide) (by decide)⟩
  | false =>
    have g783 := (q_rg_ltF1 (l2 := 155) (u := 2147483647) h773 (q_rg_full _) (q_rg_lit (n := 155) (x := 155) rfl))
    refine q_E_F ?_
    cases h784 : decide (159 < a2) with
    | true =>
      have g785 := (q_rg_ltT2 (L := 160) (u2 := 2147483647) h784 (q_rg_lit (n := 159) (x := 159) rfl) g783 (by decide))
      refine q_E_T ?_
      have j786 := dzp_N187 (s) hI (a2)
      refine q_E_L ?_
      generalize dz_N187 s a2 = r10 at j786 ⊢
      cases h787 : r10 with
      | true =>
        refine q_E_T ?_
        have j788 := dzp_N161_87 (s) hI (a2)
        refine q_E_L ?_
        generalize dz_N161_87 s a2 = r11 at j788 ⊢
        cases h789 : r11 with
        | true =>
          refine q_E_T ?_
          have j790 := dzp_N140_87 (s) hI (1)
          refine q_E_L ?_
          generalize dz_N140_87 s 1 = r12 at j790 ⊢
          obtain ⟨r13, e792, j791⟩ := dzp_N90_65 (s) hI (r12) (q_rg_le (L := 0) (U := 4095) j790 (by decide) (by decide))
          rw [e792]
          refine q_E_B ?_
          have j793 := dzp_N139_87 (s) hI (r13)
          refine q_E_L ?_
          generalize dz_N139_87 s r13 = r14 at j793 ⊢
          exact q_E_x ⟨(q_iY_le hI (by omega)), q_rg_le j793 (by decide) (by decide)⟩
        | false =>
          refine q_E_F ?_
          exact q_E_x ⟨(q_iY_le hI (by omega)), q_rg_le ra3 (by decide) (by decide)⟩
      | false =>
        refine q_E_F ?_
        exact q_E_x ⟨(q_iY_le (q_iY_F7 hI (q_rg_le (L := 0) (U := 1) (q_rg_lit (n := 1) (x := 1) rfl) (by decide) (by decide))) (by omega)), q_rg_le (q_rf23_4 hI) (by decide) (by decide)⟩
    | false =>
      have g794 := (q_rg_ltF2 (l2 := 155) (u := 159) h784 (q_rg_lit (n := 159) (x := 159) rfl) g783)
      refine q_E_F ?_
      cases h795 : decide (a2 = 155) with
      | true =>
        have g796 := q_rg_eqT h795 (q_rg_lit (n := 155) (x := 155) rfl)
        refine q_E_T ?_
        have j797 := dzp_N147_87_65 (s) hI
        refine q_E_L ?_
        generalize dz_N147_87_65 s = r15 at j797 ⊢
        have j798 := dzp_N160_87_65 (q_sI r15.1 23 5 (r15.2 &&& 207)) (q_iY_F5 j797.1 (q_rg_le (L := 0) (U := 255) (q_rg_and r15.2 207 (U := 207) (by decide) rfl) (by decide) (by decide)))
        refine q_E_L ?_
        generalize dz_N160_87_65 (q_sI r15.1 23 5 (r15.2 &&& 207)) = r16 at j798 ⊢
        exact q_E_x ⟨(q_iY_le j798.1 (by omega)), q_rg_le j798.2 (by decide) (by decide)⟩
      | false =>
        have g799 := (q_rg_neL (l := 155) (u := 159) (n := 155) (L := 156) h795 g794 rfl (by decide) (by decide))
        refine q_E_F ?_
        cases h800 : decide (a2 = 156) with
        | true =>
          have g801 := q_rg_eqT h800 (q_rg_lit (n := 156) (x := 156) rfl)
          refine q_E_T ?_
          have j802 := dzp_N160_87_65 (s) hI
          refine q_E_L ?_
          generalize dz_N160_87_65 s = r17 at j802 ⊢
          exact q_E_x ⟨(q_iY_le j802.1 (by omega)), q_rg_le (q_rg_and (r17.2 + 1) 4095 (U := 4095) (by decide) rfl) (by decide) (by decide)⟩
        | false =>
          have g803 := (q_rg_neL (l := 156) (u := 159) (n := 156) (L := 157) h800 g799 rfl (by decide) (by decide))
          refine q_E_F ?_
          cases h804 : decide (a2 = 157) with
          | true =>
            have g805 := q_rg_eqT h804 (q_rg_lit (n := 157) (x := 157) rfl)
            refine q_E_T ?_
            obtain ⟨r18, e807, j806⟩ := dzp_N145_87_65 (s) hI (3)
            rw [e807]
            refine q_E_B ?_
            exact q_E_x ⟨(q_iY_le hI (by omega)), q_rg_le j806 (by decide) (by decide)⟩
          | false =>
            have g808 := (q_rg_neL (l := 157) (u := 159) (n := 157) (L := 158) h804 g803 rfl (by decide) (by decide))
            refine q_E_F ?_
            cases h809 : decide (a2 = 158) with
            | true =>
              have g810 := q_rg_eqT h809 (q_rg_lit (n := 158) (x := 158) rfl)
              refine q_E_T ?_
              obtain ⟨r19, e812, j811⟩ := dzp_N145_87_65 (s) hI (3)
              rw [e812]
              refine q_E_B ?_
              have j813 := dzp_N140_87 (s) hI (2)
              refine q_E_L ?_
              generalize dz_N140_87 s 2 = r20 at j813 ⊢
              obtain ⟨r21, e815, j814⟩ := dzp_N146_87_65 (s) hI (r20 >>> ((8 &&& 31) : Int32)) (q_rg_le (L := 0) (U := 255) (q_rg_sh8 (U := 15) j813 (by decide) (by decide)) (by decide) (by decide))
              rw [e815]
              refine q_E_B ?_
              have j816 := dzp_N140_87 (r21) j814 (2)
              refine q_E_L ?_
              generalize dz_N140_87 r21 2 = r22 at j816 ⊢
              obtain ⟨r23, e818, j817⟩ := dzp_N146_87_65 (r21) j814 (r22 &&& 255) (q_rg_le (L := 0) (U := 255) (q_rg_and r22 255 (U := 255) (by decide) rfl) (by decide) (by decide))
              rw [e818]
              refine q_E_B ?_
              exact q_E_x ⟨(q_iY_le j817 (by omega)), q_rg_le j811 (by decide) (by decide)⟩
            | false =>
              have g819 := (q_rg_neL (l := 158) (u := 159) (n := 158) (L := 159) h809 g808 rfl (by decide) (by decide))
              refine q_E_F ?_
              obtain ⟨r24, e821, j820⟩ := dzp_N145_87_65 (s) hI (3)
              rw [e821]
              refine q_E_B ?_
              obtain ⟨r25, e823, j822⟩ := dzp_N159_87_65 (s) hI (r24) (q_rg_le (L := 0) (U := 4095) j820 (by decide) (by decide))
              rw [e823]
              refine q_E_B ?_
              exact q_E_x ⟨(q_iY_le hI (by omega)), q_rg_le j822 (by decide) (by decide)⟩
set_option maxHeartbeats 4000000 in
theorem dzp_N156_87  {u K : Int} {t : Int64} {l : Int32} (s : q_S) (hI : q_iY true u t l K s) (a1 : Int32) (ra1 : q_rgz 0 255 a1) : (q_iY true u t l K) (dz_N156_87 s a1) := by
  refine q_S_of (P := (q_iY true u t l K)) ?_
  unfold dz_N156_87
  cases h843 : decide ((((s.2.1 23 0) ^^^ (((s.2.1 23 0) + a1) + ((s.2.1 23 5) &&& 1))) &&& (a1 ^^^ (((s.2.1 23 0) + a1) + ((s.2.1 23 5) &&& 1)))) &&& 128 = 0) with
  | true =>
    have g844 := q_rg_eqT h843 (q_rg_lit (n := 0) (x := 0) rfl)
    refine q_S_T ?_
    have j845 := dzp_N149_87_f (s) hI (64)
    refine q_S_L ?_
    generalize dz_N149_87_f s 64 = r1 at j845 ⊢
    cases h846 : decide (255 < ((s.2.1 23 0) + a1) + ((s.2.1 23 5) &&& 1)) with
    | true =>
      have g847 := (q_rg_ltT2 (L := 256) (u2 := 511) h846 (q_rg_lit (n := 255) (x := 255) rfl) (q_rg_add (L := 0) (U := 511) (q_rg_add (L := 0) (U := 510) (q_rf23_0 hI) ra1 (by decide) (by decide) (by decide) (by decide)) (q_rg_and (s.2.1 23 5) 1 (U := 1) (by decide) rfl) (by decide) (by decide) (by decide) (by decide)) (by decide))
      refine q_S_T ?_
      have j848 := dzp_N149_87_t (r1) j845 (1) (q_rg_le (L := 0) (U := 255) (q_rg_lit (n := 1) (x := 1) rfl) (by decide) (by decide))
      refine q_S_L ?_
      generalize dz_N149_87_t r1 1 = r2 at j848 ⊢
      have j849 := dzp_N150_87 (r2) j848 ((((s.2.1 23 0) + a1) + ((s.2.1 23 5) &&& 1)) &&& 255) (q_rg_le (L := 0) (U := 255) (q_rg_and (((s.2.1 23 0) + a1) + ((s.2.1 23 5) &&& 1)) 255 (U := 255) (by decide) rfl) (by decide) (by decide))
      refine q_S_L ?_
      generalize dz_N150_87 r2 ((((s.2.1 23 0) + a1) + ((s.2.1 23 5) &&& 1)) &&& 255) = r3 at j849 ⊢
      exact q_E_x (q_iY_F0 j849.1 (q_rg_le (L := 0) (U := 255) j849.2 (by decide) (by decide)))
    | false =>
      have g850 := (q_rg_ltF2 (l2 := 0) (u := 255) h846 (q_rg_lit (n := 255) (x := 255) rfl) (q_rg_add (L := 0) (U := 511) (q_rg_add (L := 0) (U := 510) (q_rf23_0 hI) ra1 (by decide) (by decide) (by decide) (by decide)) (q_rg_and (s.2.1 23 5) 1 (U := 1) (by decide) rfl) (by decide) (by decide) (by decide) (by decide)))
      refine q_S_F ?_
      have j851 := dzp_N149_87_f (r1) j845 (1)
      refine q_S_L ?_
      generalize dz_N149_87_f r1 1 = r4 at j851 ⊢
      have j852 := dzp_N150_87 (r4) j851 ((((s.2.1 23 0) + a1) + ((s.2.1 23 5) &&& 1)) &&& 255) (q_rg_le (L := 0) (U := 255) (q_rg_and (((s.2.1 23 0) + a1) + ((s.2.1 23 5) &&& 1)) 255 (U := 255) (by decide) rfl) (by decide) (by decide))
      refine q_S_L ?_
      generalize dz_N150_87 r4 ((((s.2.1 23 0) + a1) + ((s.2.1 23 5) &&& 1)) &&& 255) = r5 at j852 ⊢
      exact q_E_x (q_iY_F0 j852.1 (q_rg_le (L := 0) (U := 255) j852.2 (by decide) (by decide)))
  | false =>
    have g853 := (q_rg_neL (l := 0) (u := 128) (n := 0) (L := 1) h843 (q_rg_and (((s.2.1 23 0) ^^^ (((s.2.1 23 0) + a1) + ((s.2.1 23 5) &&& 1))) &&& (a1 ^^^ (((s.2.1 23 0) + a1) + ((s.2.1 23 5) &&& 1)))) 128 (U := 128) (by decide) rfl) rfl (by decide) (by decide))
    refine q_S_F ?_
    have j854 := dzp_N149_87_t (s) hI (64) (q_rg_le (L := 0) (U := 255) (q_rg_lit (n := 64) (x := 64) rfl) (by decide) (by decide))
    refine q_S_L ?_
    generalize dz_N149_87_t s 64 = r6 at j854 ⊢
    cases h855 : decide (255 < ((s.2.1 23 0) + a1) + ((s.2.1 23 5) &&& 1)) with
    | true =>
      have g856 := (q_rg_ltT2 (L := 256) (u2 := 511) h855 (q_rg_lit (n := 255) (x := 255) rfl) (q_rg_add (L := 0) (U := 511) (q_rg_add (L := 0) (U := 510) (q_rf23_0 hI) ra1 (by decide) (by decide) (by decide) (by decide)) (q_rg_and (s.2.1 23 5) 1 (U := 1) (by decide) rfl) (by decide) (by decide) (by decide) (by decide)) (by decide))
      refine q_S_T ?_
      have j857 := dzp_N149_87_t (r6) j854 (1) (q_rg_le (L := 0) (U := 255) (q_rg_lit (n := 1) (x := 1) rfl) (by decide) (by decide))
      refine q_S_L ?_
      generalize dz_N149_87_t r6 1 = r7 at j857 ⊢
      have j858 := dzp_N150_87 (r7) j857 ((((s.2.1 23 0) + a1) + ((s.2.1 23 5) &&& 1)) &&& 255) (q_rg_le (L := 0) (U := 255) (q_rg_and (((s.2.1 23 0) + a1) + ((s.2.1 23 5) &&& 1)) 255 (U := 255) (by decide) rfl) (by decide) (by decide))
      refine q_S_L ?_
      generalize dz_N150_87 r7 ((((s.2.1 23 0) + a1) + ((s.2.1 23 5) &&& 1)) &&& 255) = r8 at j858 ⊢
      exact q_E_x (q_iY_F0 j858.1 (q_rg_le (L := 0) (U := 255) j858.2 (by decide) (by decide)))
    | false =>
      have g859 := (q_rg_ltF2 (l2 := 0) (u := 255) h855 (q_rg_lit (n := 255) (x := 255) rfl) (q_rg_add (L := 0) (U := 511) (q_rg_add (L := 0) (U := 510) (q_rf23_0 hI) ra1 (by decide) (by decide) (by decide) (by decide)) (q_rg_and (s.2.1 23 5) 1 (U := 1) (by decide) rfl) (by decide) (by decide) (by decide) (by decide)))
      refine q_S_F ?_
      have j860 := dzp_N149_87_f (r6) j854 (1)
      refine q_S_L ?_
      generalize dz_N149_87_f r6 1 = r9 at j860 ⊢
      have j861 := dzp_N150_87 (r9) j860 ((((s.2.1 23 0) + a1) + ((s.2.1 23 5) &&& 1)) &&& 255) (q_rg_le (L := 0) (U := 255) (q_rg_and (((s.2.1 23 0) + a1) + ((s.2.1 23 5) &&& 1)) 255 (U := 255) (by decide) rfl) (by decide) (by decide))
      refine q_S_L ?_
      generalize dz_N150_87 r9 ((((s.2.1 23 0) + a1) + ((s.2.1 23 5) &&& 1)) &&& 255) = r10 at j861 ⊢
      exact q_E_x (q_iY_F0 j861.1 (q_rg_le (L := 0) (U := 255) j861.2 (by decide) (by decide)))
set_option maxHeartbeats 4000000 in
theorem dzp_N154_87_64  {u K : Int} {t : Int64} {l : Int32} (s : q_S) (hI : q_iY true u t l K s) (v3 : Int32) (v4 : Int32) (rv3 : q_rgz 0 21 v3) (rv4 : q_rgz 0 31 v4) : (q_iY true u t l K) (dz_N154_87_64 s v3 v4) := by
  refine q_S_of (P := (q_iY true u t l K)) ?_
  unfold dz_N154_87_64
  cases h885 : decide (9 < v4) with
  | true =>
    have g886 := (q_rg_ltT2 (L := 10) (u2 := 31) h885 (q_rg_lit (n := 9) (x := 9) rfl) rv4 (by decide))
    refine q_S_T ?_
    have j887 := dzp_N149_87_t (s) hI (1) (q_rg_le (L := 0) (U := 255) (q_rg_lit (n := 1) (x := 1) rfl) (by decide) (by decide))
    refine q_S_L ?_
    generalize dz_N149_87_t s 1 = r3 at j887 ⊢
    have j888 := dzp_N150_87 (r3) j887 (((16 * (v4 + (-10))) + v3) &&& 255) (q_rg_le (L := 0) (U := 255) (q_rg_and ((16 * (v4 + (-10))) + v3) 255 (U := 255) (by decide) rfl) (by decide) (by decide))
    refine q_S_L ?_
    generalize dz_N150_87 r3 (((16 * (v4 + (-10))) + v3) &&& 255) = r4 at j888 ⊢
    exact q_E_x (q_iY_F0 j888.1 (q_rg_le (L := 0) (U := 255) j888.2 (by decide) (by decide)))
  | false =>
    have g889 := (q_rg_ltF2 (l2 := 0) (u := 9) h885 (q_rg_lit (n := 9) (x := 9) rfl) rv4)
    refine q_S_F ?_
    have j890 := dzp_N149_87_f (s) hI (1)
    refine q_S_L ?_
    generalize dz_N149_87_f s 1 = r5 at j890 ⊢
    have j891 := dzp_N150_87 (r5) j890 (((16 * v4) + v3) &&& 255) (q_rg_le (L := 0) (U := 255) (q_rg_and ((16 * v4) + v3) 255 (U := 255) (by decide) rfl) (by decide) (by decide))
    refine q_S_L ?_
    generalize dz_N150_87 r5 (((16 * v4) + v3) &&& 255) = r6 at j891 ⊢
    exact q_E_x (q_iY_F0 j891.1 (q_rg_le (L := 0) (U := 255) j891.2 (by decide) (by decide)))
set_option maxHeartbeats 4000000 in
theorem dzp_N154_87  {u K : Int} {t : Int64} {l : Int32} (s : q_S) (hI : q_iY true u t l K s) (a1 : Int32) (ra1 : q_rgz 0 255 a1) : (q_iY true u t l K) (dz_N154_87 s a1) := by
  refine q_S_of (P := (q_iY true u t l K)) ?_
  unfold dz_N154_87
  have j892 : q_rgz 0 31 ((((s.2.1 23 0) - (s.2.1 23 0) / 16 * 16) + (a1 - a1 / 16 * 16)) + ((s.2.1 23 5) &&& 1)) := (q_rg_add (L := 0) (U := 31) (q_rg_add (L := 0) (U := 30) (q_rg_rem (c := 16) (U := 15) (q_rf23_0 hI) (by decide) rfl (by decide) (by decide)) (q_rg_rem (c := 16) (U := 15) ra1 (by decide) rfl (by decide) (by decide)) (by decide) (by decide) (by decide) (by decide)) (q_rg_and (s.2.1 23 5) 1 (U := 1) (by decide) rfl) (by decide) (by decide) (by decide) (by decide))
  refine q_S_L ?_
  generalize ((((s.2.1 23 0) - (s.2.1 23 0) / 16 * 16) + (a1 - a1 / 16 * 16)) + ((s.2.1 23 5) &&& 1)) = x1 at j892 ⊢
  have j893 := dzp_N156_87 (s) hI (a1) (q_rg_le (L := 0) (U := 255) ra1 (by decide) (by decide))
  refine q_S_L ?_
  generalize dz_N156_87 s a1 = r2 at j893 ⊢
  cases h894 : decide ((r2.2.1 23 5) &&& 8 = 0) with
  | true =>
    have g895 := q_rg_eqT h894 (q_rg_lit (n := 0) (x := 0) rfl)
    refine q_S_T ?_
    exact q_E_x j893
  | false =>
    have g896 := (q_rg_neL (l := 0) (u := 8) (n := 0) (L := 1) h894 (q_rg_and (r2.2.1 23 5) 8 (U := 8) (by decide) rfl) rfl (by decide) (by decide))
    refine q_S_F ?_
    cases h897 : decide (9 < x1) with
    | true =>
      have g898 := (q_rg_ltT2 (L := 10) (u2 := 31) h897 (q_rg_lit (n := 9) (x := 9) rfl) j892 (by decide))
      refine q_S_T ?_
      exact q_E_x (dzp_N154_87_64 (r2) j893 (x1 + (-10)) ((((s.2.1 23 0) / 16) + (a1 / 16)) + 1) (q_rg_le (L := 0) (U := 21) (q_rg_add (L := 0) (U := 21) g898 (q_rg_lit (n := -10) (x := -10) rfl) (by decide) (by decide) (by decide) (by decide)) (by decide) (by decide)) (q_rg_le (L := 0) (U := 31) (q_rg_add (L := 1) (U := 31) (q_rg_add (L := 0) (U := 30) (q_rg_div (c := 16) (U := 15) (q_rf23_0 hI) (by decide) rfl (by decide) (by decide)) (q_rg_div (c := 16) (U := 15) ra1 (by decide) rfl (by decide) (by decide)) (by decide) (by decide) (by decide) (by decide)) (q_rg_lit (n := 1) (x := 1) rfl) (by decide) (by decide) (by decide) (by decide)) (by decide) (by decide)))
    | false =>
      have g899 := (q_rg_ltF2 (l2 := 0) (u := 9) h897 (q_rg_lit (n := 9) (x := 9) rfl) j892)
      refine q_S_F ?_
      exact q_E_x (dzp_N154_87_64 (r2) j893 (x1) (((s.2.1 23 0) / 16) + (a1 / 16)) (q_rg_le (L := 0) (U := 21) g899 (by decide) (by decide)) (q_rg_le (L := 0) (U := 31) (q_rg_add (L := 0) (U := 30) (q_rg_div (c := 16) (U := 15) (q_rf23_0 hI) (by decide) rfl (by decide) (by decide)) (q_rg_div (c := 16) (U := 15) ra1 (by decide) rfl (by decide) (by decide)) (by decide) (by decide) (by decide) (by decide)) (by decide) (by decide)))
set_option maxHeartbeats 4000000 in
theorem dzp_N155_87_68  {u K : Int} {t : Int64} {l : Int32} (s : q_S) (hI : q_iY true u t l K s) (v3 : Int32) (v4 : Int32) (rv3 : q_rgz (-6) 15 v3) (rv4 : q_rgz (-16) 15 v4) : (q_iY true u t l K) (dz_N155_87_68 s v3 v4) := by
  refine q_S_of (P := (q_iY true u t l K)) ?_
  unfold dz_N155_87_68
  cases h923 : decide (v4 < 0) with
  | true =>
    have g924 := (q_rg_ltT1 (l := -16) (U := -1) h923 rv4 (q_rg_lit (n := 0) (x := 0) rfl) (by decide))
    refine q_S_T ?_
    have j925 := dzp_N149_87_f (s) hI (1)
    refine q_S_L ?_
    generalize dz_N149_87_f s 1 = r3 at j925 ⊢
    have j926 := dzp_N150_87 (r3) j925 (((16 * (v4 + 10)) + v3) &&& 255) (q_rg_le (L := 0) (U := 255) (q_rg_and ((16 * (v4 + 10)) + v3) 255 (U := 255) (by decide) rfl) (by decide) (by decide))
    refine q_S_L ?_
    generalize dz_N150_87 r3 (((16 * (v4 + 10)) + v3) &&& 255) = r4 at j926 ⊢
    exact q_E_x (q_iY_F0 j926.1 (q_rg_le (L := 0) (U := 255) j926.2 (by decide) (by decide)))
  | false =>
    have g927 := (q_rg_ltF1 (l2 := 0) (u := 15) h923 rv4 (q_rg_lit (n := 0) (x := 0) rfl))
    refine q_S_F ?_
    have j928 := dzp_N149_87_t (s) hI (1) (q_rg_le (L := 0) (U := 255) (q_rg_lit (n := 1) (x := 1) rfl) (by decide) (by decide))
    refine q_S_L ?_
    generalize dz_N149_87_t s 1 = r5 at j928 ⊢
    have j929 := dzp_N150_87 (r5) j928 (((16 * v4) + v3) &&& 255) (q_rg_le (L := 0) (U := 255) (q_rg_and ((16 * v4) + v3) 255 (U := 255) (by decide) rfl) (by decide) (by decide))
    refine q_S_L ?_
    generalize dz_N150_87 r5 (((16 * v4) + v3) &&& 255) = r6 at j929 ⊢
    exact q_E_x (q_iY_F0 j929.1 (q_rg_le (L := 0) (U := 255) j929.2 (by decide) (by decide)))
set_option maxHeartbeats 4000000 in
theorem dzp_N155_87  {u K : Int} {t : Int64} {l : Int32} (s : q_S) (hI : q_iY true u t l K s) (a1 : Int32) (ra1 : q_rgz 0 255 a1) : (q_iY true u t l K) (dz_N155_87 s a1) := by
  refine q_S_of (P := (q_iY true u t l K)) ?_
  unfold dz_N155_87
  have j930 : q_rgz (-16) 15 (((((s.2.1 23 0) - (s.2.1 23 0) / 16 * 16) - (a1 - a1 / 16 * 16)) - 1) + ((s.2.1 23 5) &&& 1)) := (q_rg_add (L := -16) (U := 15) (q_rg_sub (L := -16) (U := 14) (q_rg_sub (L := -15) (U := 15) (q_rg_rem (c := 16) (U := 15) (q_rf23_0 hI) (by decide) rfl (by decide) (by decide)) (q_rg_rem (c := 16) (U := 15) ra1 (by decide) rfl (by decide) (by decide)) (by decide) (by decide) (by decide) (by decide)) (q_rg_lit (n := 1) (x := 1) rfl) (by decide) (by decide) (by decide) (by decide)) (q_rg_and (s.2.1 23 5) 1 (U := 1) (by decide) rfl) (by decide) (by decide) (by decide) (by decide))
  refine q_S_L ?_
  generalize (((((s.2.1 23 0) - (s.2.1 23 0) / 16 * 16) - (a1 - a1 / 16 * 16)) - 1) + ((s.2.1 23 5) &&& 1)) = x1 at j930 ⊢
  have j931 := dzp_N156_87 (s) hI ((255 : Int32) - a1) (q_rg_le (L := 0) (U := 255) (q_rg_sub (L := 0) (U := 255) (q_rg_lit (n := 255) (x := 255) rfl) ra1 (by decide) (by decide) (by decide) (by decide)) (by decide) (by decide))
  refine q_S_L ?_
  generalize dz_N156_87 s ((255 : Int32) - a1) = r2 at j931 ⊢
  cases h932 : decide ((r2.2.1 23 5) &&& 8 = 0) with
  | true =>
    have g933 := q_rg_eqT h932 (q_rg_lit (n := 0) (x := 0) rfl)
    refine q_S_T ?_
    exact q_E_x j931
  | false =>
    have g934 := (q_rg_neL (l := 0) (u := 8) (n := 0) (L := 1) h932 (q_rg_and (r2.2.1 23 5) 8 (U := 8) (by decide) rfl) rfl (by decide) (by decide))
    refine q_S_F ?_
    cases h935 : decide (x1 < 0) with
    | true =>
      have g936 := (q_rg_ltT1 (l := -16) (U := -1) h935 j930 (q_rg_lit (n := 0) (x := 0) rfl) (by decide))
      refine q_S_T ?_
      exact q_E_x (dzp_N155_87_68 (r2) j931 (x1 + 10) ((((s.2.1 23 0) / 16) - (a1 / 16)) + (-1)) (q_rg_le (L := -6) (U := 15) (q_rg_add (L := -6) (U := 9) g936 (q_rg_lit (n := 10) (x := 10) rfl) (by decide) (by decide) (by decide) (by decide)) (by decide) (by decide)) (q_rg_le (L := -16) (U := 15) (q_rg_add (L := -16) (U := 14) (q_rg_sub (L := -15) (U := 15) (q_rg_div (c := 16) (U := 15) (q_rf23_0 hI) (by decide) rfl (by decide) (by decide)) (q_rg_div (c := 16) (U := 15) ra1 (by decide) rfl (by decide) (by decide)) (by decide) (by decide) (by decide) (by decide)) (q_rg_lit (n := -1) (x := -1) rfl) (by decide) (by decide) (by decide) (by decide)) (by decide) (by decide)))
    | false =>
      have g937 := (q_rg_ltF1 (l2 := 0) (u := 15) h935 j930 (q_rg_lit (n := 0) (x := 0) rfl))
      refine q_S_F ?_
      exact q_E_x (dzp_N155_87_68 (r2) j931 (x1) (((s.2.1 23 0) / 16) - (a1 / 16)) (q_rg_le (L := -6) (U := 15) g937 (by decide) (by decide)) (q_rg_le (L := -16) (U := 15) (q_rg_sub (L := -15) (U := 15) (q_rg_div (c := 16) (U := 15) (q_rf23_0 hI) (by decide) rfl (by decide) (by decide)) (q_rg_div (c := 16) (U := 15) ra1 (by decide) rfl (by decide) (by decide)) (by decide) (by decide) (by decide) (by decide)) (by decide) (by decide)))
set_option maxHeartbeats 4000000 in
theorem dzp_N151_87  {u K : Int} {t : Int64} {l : Int32} (s : q_S) (hI : q_iY true u t l K s) (a1 : Int32) (a2 : Int32) (ra1 : q_rgz 0 255 a1) (ra2 : q_rgz 0 255 a2) : (q_iY true u t l K) (dz_N151_87 s a1 a2) := by
  refine q_S_of (P := (q_iY true u t l K)) ?_
  unfold dz_N151_87
  cases h945 : decide (a1 < a2) with
  | true =>
    have g946 := (q_rg_ltT1 (l := 0) (U := 254) h945 ra1 ra2 (by decide))
    have g947 := (q_rg_ltT2 (L := 1) (u2 := 255) h945 ra1 ra2 (by decide))
    refine q_S_T ?_
    have j948 := dzp_N149_87_f (s) hI (1)
    refine q_S_L ?_
    generalize dz_N149_87_f s 1 = r1 at j948 ⊢
    have j949 := dzp_N150_87 (r1) j948 ((a1 - a2) &&& 255) (q_rg_le (L := 0) (U := 255) (q_rg_and (a1 - a2) 255 (U := 255) (by decide) rfl) (by decide) (by decide))
    refine q_S_L ?_
    generalize dz_N150_87 r1 ((a1 - a2) &&& 255) = r2 at j949 ⊢
    exact q_E_x j949.1
  | false =>
    refine q_S_F ?_
    have j950 := dzp_N149_87_t (s) hI (1) (q_rg_le (L := 0) (U := 255) (q_rg_lit (n := 1) (x := 1) rfl) (by decide) (by decide))
    refine q_S_L ?_
    generalize dz_N149_87_t s 1 = r3 at j950 ⊢
    have j951 := dzp_N150_87 (r3) j950 ((a1 - a2) &&& 255) (q_rg_le (L := 0) (U := 255) (q_rg_and (a1 - a2) 255 (U := 255) (by decide) rfl) (by decide) (by decide))
    refine q_S_L ?_
    generalize dz_N150_87 r3 ((a1 - a2) &&& 255) = r4 at j951 ⊢
    exact q_E_x j951.1
set_option maxHeartbeats 4000000 in
theorem dzp_N152_87  {u K : Int} {t : Int64} {l : Int32} (s : q_S) (hI : q_iY true u t l K s) (a1 : Int32) (a2 : Int32) (ra2 : q_rgz 0 255 a2) : (q_iY true u t l K) (dz_N152_87 s a1 a2) := by
  refine q_S_of (P := (q_iY true u t l K)) ?_
  unfold dz_N152_87
  cases h1065 : decide (a1 < 0) with
  | true =>
    have g1066 := (q_rg_ltT1 (l := -2147483648) (U := -1) h1065 (q_rg_full _) (q_rg_lit (n := 0) (x := 0) rfl) (by decide))
    refine q_S_T ?_
    exact q_E_x hI
  | false =>
    have g1067 := (q_rg_ltF1 (l2 := 0) (u := 2147483647) h1065 (q_rg_full _) (q_rg_lit (n := 0) (x := 0) rfl))
    refine q_S_F ?_
    cases h1068 : decide (20 < a1) with
    | true =>
      have g1069 := (q_rg_ltT2 (L := 21) (u2 := 2147483647) h1068 (q_rg_lit (n := 20) (x := 20) rfl) g1067 (by decide))
      refine q_S_T ?_
      exact q_E_x hI
    | false =>
      have g1070 := (q_rg_ltF2 (l2 := 0) (u := 20) h1068 (q_rg_lit (n := 20) (x := 20) rfl) g1067)
      refine q_S_F ?_
      cases h1071 : decide (a1 = 0) with
      | true =>
        have g1072 := q_rg_eqT h1071 (q_rg_lit (n := 0) (x := 0) rfl)
        refine q_S_T ?_
        have j1073 := dzp_N150_87 (s) hI (a2) (q_rg_le (L := 0) (U := 255) ra2 (by decide) (by decide))
        refine q_S_L ?_
        generalize dz_N150_87 s a2 = r1 at j1073 ⊢
        exact q_E_x (q_iY_F0 j1073.1 (q_rg_le (L := 0) (U := 255) j1073.2 (by decide) (by decide)))
      | false =>
        have g1074 := (q_rg_neL (l := 0) (u := 20) (n := 0) (L := 1) h1071 g1070 rfl (by decide) (by decide))
        refine q_S_F ?_
        cases h1075 : decide (a1 = 1) with
        | true =>
          have g1076 := q_rg_eqT h1075 (q_rg_lit (n := 1) (x := 1) rfl)
          refine q_S_T ?_
          have j1077 := dzp_N150_87 (s) hI (a2) (q_rg_le (L := 0) (U := 255) ra2 (by decide) (by decide))
          refine q_S_L ?_
          generalize dz_N150_87 s a2 = r2 at j1077 ⊢
          exact q_E_x (q_iY_F1 j1077.1 (q_rg_le (L := 0) (U := 255) j1077.2 (by decide) (by decide)))
        | false =>
          have g1078 := (q_rg_neL (l := 1) (u := 20) (n := 1) (L := 2) h1075 g1074 rfl (by decide) (by decide))
          refine q_S_F ?_
          cases h1079 : decide (a1 = 2) with
          | true =>
            have g1080 := q_rg_eqT h1079 (q_rg_lit (n := 2) (x := 2) rfl)
            refine q_S_T ?_
            have j1081 := dzp_N150_87 (s) hI (a2) (q_rg_le (L := 0) (U := 255) ra2 (by decide) (by decide))
            refine q_S_L ?_
            generalize dz_N150_87 s a2 = r3 at j1081 ⊢
            exact q_E_x (q_iY_F2 j1081.1 (q_rg_le (L := 0) (U := 255) j1081.2 (by decide) (by decide)))
          | false =>
            have g1082 := (q_rg_neL (l := 2) (u := 20) (n := 2) (L := 3) h1079 g1078 rfl (by decide) (by decide))
            refine q_S_F ?_
            cases h1083 : decide (a1 = 3) with
            | true =>
              have g1084 := q_rg_eqT h1083 (q_rg_lit (n := 3) (x := 3) rfl)
              refine q_S_T ?_
              exact q_E_x hI
            | false =>
              have g1085 := (q_rg_neL (l := 3) (u := 20) (n := 3) (L := 4) h1083 g1082 rfl (by decide) (by decide))
              refine q_S_F ?_
              cases h1086 : decide (a1 = 4) with
              | true =>
                have g1087 := q_rg_eqT h1086 (q_rg_lit (n := 4) (x := 4) rfl)
                refine q_S_T ?_
                exact q_E_x hI
              | false =>
                have g1088 := (q_rg_neL (l := 4) (u := 20) (n := 4) (L := 5) h1086 g1085 rfl (by decide) (by decide))
                refine q_S_F ?_
                cases h1089 : decide (a1 = 5) with
                | true =>
                  have g1090 := q_rg_eqT h1089 (q_rg_lit (n := 5) (x := 5) rfl)
                  refine q_S_T ?_
                  exact q_E_x hI
                | false =>
                  have g1091 := (q_rg_neL (l := 5) (u := 20) (n := 5) (L := 6) h1089 g1088 rfl (by decide) (by decide))
                  refine q_S_F ?_
                  cases h1092 : decide (a1 = 6) with
                  | true =>
                    have g1093 := q_rg_eqT h1092 (q_rg_lit (n := 6) (x := 6) rfl)
                    refine q_S_T ?_
                    have j1094 := dzp_N154_87 (s) hI (a2) (q_rg_le (L := 0) (U := 255) ra2 (by decide) (by decide))
                    refine q_S_L ?_
                    generalize dz_N154_87 s a2 = r4 at j1094 ⊢
                    exact q_E_x j1094
                  | false =>
                    have g1095 := (q_rg_neL (l := 6) (u := 20) (n := 6) (L := 7) h1092 g1091 rfl (by decide) (by decide))
                    refine q_S_F ?_
                    cases h1096 : decide (a1 = 7) with
                    | true =>
                      have g1097 := q_rg_eqT h1096 (q_rg_lit (n := 7) (x := 7) rfl)
                      refine q_S_T ?_
                      have j1098 := dzp_N155_87 (s) hI (a2) (q_rg_le (L := 0) (U := 255) ra2 (by decide) (by decide))
                      refine q_S_L ?_
                      generalize dz_N155_87 s a2 = r5 at j1098 ⊢
                      exact q_E_x j1098
                    | false =>
                      have g1099 := (q_rg_neL (l := 7) (u := 20) (n := 7) (L := 8) h1096 g1095 rfl (by decide) (by decide))
                      refine q_S_F ?_
                      cases h1100 : decide (a1 = 8) with
                      | true =>
                        have g1101 := q_rg_eqT h1100 (q_rg_lit (n := 8) (x := 8) rfl)
                        refine q_S_T ?_
                        have j1102 := dzp_N150_87 (s) hI ((s.2.1 23 0) &&& a2) (q_rg_le (L := 0) (U := 255) (q_rg_and1 (q_rf23_0 hI) (by decide)) (by decide) (by decide))
                        refine q_S_L ?_
                        generalize dz_N150_87 s ((s.2.1 23 0) &&& a2) = r6 at j1102 ⊢
                        exact q_E_x (q_iY_F0 j1102.1 (q_rg_le (L := 0) (U := 255) j1102.2 (by decide) (by decide)))
                      | false =>
                        have g1103 := (q_rg_neL (l := 8) (u := 20) (n := 8) (L := 9) h1100 g1099 rfl (by decide) (by decide))
                        refine q_S_F ?_
                        cases h1104 : decide (a1 = 9) with
                        | true =>
                          have g1105 := q_rg_eqT h1104 (q_rg_lit (n := 9) (x := 9) rfl)
                          refine q_S_T ?_
                          have j1106 := dzp_N150_87 (s) hI ((s.2.1 23 0) ||| a2) (q_rg_le (L := 0) (U := 255) (q_rg_or (n := 8) (W := 255) (q_rf23_0 hI) ra2 (by decide) (by decide) (by decide) (by decide) (by decide)) (by decide) (by decide))
                          refine q_S_L ?_
                          generalize dz_N150_87 s ((s.2.1 23 0) ||| a2) = r7 at j1106 ⊢
                          exact q_E_x (q_iY_F0 j1106.1 (q_rg_le (L := 0) (U := 255) j1106.2 (by decide) (by decide)))
                        | false =>
                          have g1107 := (q_rg_neL (l := 9) (u := 20) (n := 9) (L := 10) h1104 g1103 rfl (by decide) (by decide))
                          refine q_S_F ?_
                          cases h1108 : decide (a1 = 10) with
                          | true =>
                            have g1109 := q_rg_eqT h1108 (q_rg_lit (n := 10) (x := 10) rfl)
                            refine q_S_T ?_
                            have j1110 := dzp_N150_87 (s) hI ((s.2.1 23 0) ^^^ a2) (q_rg_le (L := 0) (U := 255) (q_rg_xor (n := 8) (W := 255) (q_rf23_0 hI) ra2 (by decide) (by decide) (by decide) (by decide) (by decide)) (by decide) (by decide))
                            refine q_S_L ?_
                            generalize dz_N150_87 s ((s.2.1 23 0) ^^^ a2) = r8 at j1110 ⊢
                            exact q_E_x (q_iY_F0 j1110.1 (q_rg_le (L := 0) (U := 255) j1110.2 (by decide) (by decide)))
                          | false =>
                            have g1111 := (q_rg_neL (l := 10) (u := 20) (n := 10) (L := 11) h1108 g1107 rfl (by decide) (by decide))
                            refine q_S_F ?_
                            cases h1112 : decide (a1 = 11) with
                            | true =>
                              have g1113 := q_rg_eqT h1112 (q_rg_lit (n := 11) (x := 11) rfl)
                              refine q_S_T ?_
                              have j1114 := dzp_N151_87 (s) hI (s.2.1 23 0) (a2) (q_rg_le (L := 0) (U := 255) (q_rf23_0 hI) (by decide) (by decide)) (q_rg_le (L := 0) (U := 255) ra2 (by decide) (by decide))
                              refine q_S_L ?_
                              generalize dz_N151_87 s (s.2.1 23 0) a2 = r9 at j1114 ⊢
                              exact q_E_x j1114
                            | false =>
                              have g1115 := (q_rg_neL (l := 11) (u := 20) (n := 11) (L := 12) h1112 g1111 rfl (by decide) (by decide))
                              refine q_S_F ?_
                              cases h1116 : decide (a1 = 12) with
                              | true =>
                                have g1117 := q_rg_eqT h1116 (q_rg_lit (n := 12) (x := 12) rfl)
                                refine q_S_T ?_
                                have j1118 := dzp_N151_87 (s) hI (s.2.1 23 1) (a2) (q_rg_le (L := 0) (U := 255) (q_rf23_1 hI) (by decide) (by decide)) (q_rg_le (L := 0) (U := 255) ra2 (by decide) (by decide))
                                refine q_S_L ?_
                                generalize dz_N151_87 s (s.2.1 23 1) a2 = r10 at j1118 ⊢
                                exact q_E_x j1118
                              | false =>
                                have g1119 := (q_rg_neL (l := 12) (u := 20) (n := 12) (L := 13) h1116 g1115 rfl (by decide) (by decide))
                                refine q_S_F ?_
                                cases h1120 : decide (a1 = 13) with
                                | true =>
                                  have g1121 := q_rg_eqT h1120 (q_rg_lit (n := 13) (x := 13) rfl)
                                  refine q_S_T ?_
                                  have j1122 := dzp_N151_87 (s) hI (s.2.1 23 2) (a2) (q_rg_le (L := 0) (U := 255) (q_rf23_2 hI) (by decide) (by decide)) (q_rg_le (L := 0) (U := 255) ra2 (by decide) (by decide))
                                  refine q_S_L ?_
                                  generalize dz_N151_87 s (s.2.1 23 2) a2 = r11 at j1122 ⊢
                                  exact q_E_x j1122
                                | false =>
                                  have g1123 := (q_rg_neL (l := 13) (u := 20) (n := 13) (L := 14) h1120 g1119 rfl (by decide) (by decide))
                                  refine q_S_F ?_
                                  cases h1124 : decide (a1 = 14) with
                                  | true =>
                                    have g1125 := q_rg_eqT h1124 (q_rg_lit (n := 14) (x := 14) rfl)
                                    refine q_S_T ?_
                                    exact q_E_x hI
                                  | false =>
                                    have g1126 := (q_rg_neL (l := 14) (u := 20) (n := 14) (L := 15) h1124 g1123 rfl (by decide) (by decide))
                                    refine q_S_F ?_
                                    cases h1127 : decide (a1 = 15) with
                                    | true =>
                                      have g1128 := q_rg_eqT h1127 (q_rg_lit (n := 15) (x := 15) rfl)
                                      refine q_S_T ?_
                                      exact q_E_x hI
                                    | false =>
                                      have g1129 := (q_rg_neL (l := 15) (u := 20) (n := 15) (L := 16) h1127 g1126 rfl (by decide) (by decide))
                                      refine q_S_F ?_
                                      cases h1130 : decide (a1 = 16) with
                                      | true =>
                                        have g1131 := q_rg_eqT h1130 (q_rg_lit (n := 16) (x := 16) rfl)
                                        refine q_S_T ?_
                                        have j1132 := dzp_N150_87 (s) hI (a2) (q_rg_le (L := 0) (U := 255) ra2 (by decide) (by decide))
                                        refine q_S_L ?_
                                        generalize dz_N150_87 s a2 = r12 at j1132 ⊢
                                        exact q_E_x (q_iY_F0 (q_iY_F1 j1132.1 (q_rg_le (L := 0) (U := 255) j1132.2 (by decide) (by decide))) (q_rg_le (L := 0) (U := 255) ra2 (by decide) (by decide)))
                                      | false =>
                                        have g1133 := (q_rg_neL (l := 16) (u := 20) (n := 16) (L := 17) h1130 g1129 rfl (by decide) (by decide))
                                        refine q_S_F ?_
                                        cases h1134 : decide (a1 = 17) with
                                        | true =>
                                          have g1135 := q_rg_eqT h1134 (q_rg_lit (n := 17) (x := 17) rfl)
                                          refine q_S_T ?_
                                          exact q_E_x hI
                                        | false =>
                                          have g1136 := (q_rg_neL (l := 17) (u := 20) (n := 17) (L := 18) h1134 g1133 rfl (by decide) (by decide))
                                          refine q_S_F ?_
                                          cases h1137 : decide (a1 = 18) with
                                          | true =>
                                            have g1138 := q_rg_eqT h1137 (q_rg_lit (n := 18) (x := 18) rfl)
                                            refine q_S_T ?_
                                            exact q_E_x hI
                                          | false =>
                                            have g1139 := (q_rg_neL (l := 18) (u := 20) (n := 18) (L := 19) h1137 g1136 rfl (by decide) (by decide))
                                            refine q_S_F ?_
                                            cases h1140 : decide (a1 = 19) with
                                            | true =>
                                              have g1141 := q_rg_eqT h1140 (q_rg_lit (n := 19) (x := 19) rfl)
                                              refine q_S_T ?_
                                              exact q_E_x hI
                                            | false =>
                                              have g1142 := (q_rg_neL (l := 19) (u := 20) (n := 19) (L := 20) h1140 g1139 rfl (by decide) (by decide))
                                              refine q_S_F ?_
                                              cases h1143 : decide ((s.2.1 23 0) &&& a2 = 0) with
                                              | true =>
                                                have g1144 := q_rg_eqT h1143 (q_rg_lit (n := 0) (x := 0) rfl)
                                                refine q_S_T ?_
                                                have j1145 := dzp_N149_87_t (s) hI (2) (q_rg_le (L := 0) (U := 255) (q_rg_lit (n := 2) (x := 2) rfl) (by decide) (by decide))
                                                refine q_S_L ?_
                                                generalize dz_N149_87_t s 2 = r13 at j1145 ⊢
                                                cases h1146 : decide (a2 &&& 128 = 0) with
                                                | true =>
                                                  have g1147 := q_rg_eqT h1146 (q_rg_lit (n := 0) (x := 0) rfl)
                                                  refine q_S_T ?_
                                                  have j1148 := dzp_N149_87_f (r13) j1145 (128)
                                                  refine q_S_L ?_
                                                  generalize dz_N149_87_f r13 128 = r14 at j1148 ⊢
                                                  cases h1149 : decide (a2 &&& 64 = 0) with
                                                  | true =>
                                                    have g1150 := q_rg_eqT h1149 (q_rg_lit (n := 0) (x := 0) rfl)
                                                    refine q_S_T ?_
                                                    have j1151 := dzp_N149_87_f (r14) j1148 (64)
                                                    refine q_S_L ?_
                                                    generalize dz_N149_87_f r14 64 = r15 at j1151 ⊢
                                                    exact q_E_x j1151
                                                  | false =>
                                                    have g1152 := (q_rg_neL (l := 0) (u := 64) (n := 0) (L := 1) h1149 (q_rg_and a2 64 (U := 64) (by decide) rfl) rfl (by decide) (by decide))
                                                    refine q_S_F ?_
                                                    have j1153 := dzp_N149_87_t (r14) j1148 (64) (q_rg_le (L := 0) (U := 255) (q_rg_lit (n := 64) (x := 64) rfl) (by decide) (by decide))
                                                    refine q_S_L ?_
                                                    generalize dz_N149_87_t r14 64 = r16 at j1153 ⊢
                                                    exact q_E_x j1153
                                                | false =>
                                                  have g1154 := (q_rg_neL (l := 0) (u := 128) (n := 0) (L := 1) h1146 (q_rg_and a2 128 (U := 128) (by decide) rfl) rfl (by decide) (by decide))
                                                  refine q_S_F ?_
                                                  have j1155 := dzp_N149_87_t (r13) j1145 (128) (q_rg_le (L := 0) (U := 255) (q_rg_lit (n := 128) (x := 128) rfl) (by decide) (by decide))
                                                  refine q_S_L ?_
                                                  generalize dz_N149_87_t r13 128 = r17 at j1155 ⊢
                                                  cases h1156 : decide (a2 &&& 64 = 0) with
                                                  | true =>
                                                    have g1157 := q_rg_eqT h1156 (q_rg_lit (n := 0) (x := 0) rfl)
                                                    refine q_S_T ?_
                                                    have j1158 := dzp_N149_87_f (r17) j1155 (64)
                                                    refine q_S_L ?_
                                                    generalize dz_N149_87_f r17 64 = r18 at j1158 ⊢
                                                    exact q_E_x j1158
                                                  | false =>
                                                    have g1159 := (q_rg_neL (l := 0) (u := 64) (n := 0) (L := 1) h1156 (q_rg_and a2 64 (U := 64) (by decide) rfl) rfl (by decide) (by decide))
                                                    refine q_S_F ?_
                                                    have j1160 := dzp_N149_87_t (r17) j1155 (64) (q_rg_le (L := 0) (U := 255) (q_rg_lit (n := 64) (x := 64) rfl) (by decide) (by decide))
                                                    refine q_S_L ?_
                                                    generalize dz_N149_87_t r17 64 = r19 at j1160 ⊢
                                                    exact q_E_x j1160
                                              | false =>
                                                have g1161 := (q_rg_neL (l := 0) (u := 255) (n := 0) (L := 1) h1143 (q_rg_and1 (q_rf23_0 hI) (by decide)) rfl (by decide) (by decide))
                                                refine q_S_F ?_
                                                have j1162 := dzp_N149_87_f (s) hI (2)
                                                refine q_S_L ?_
                                                generalize dz_N149_87_f s 2 = r20 at j1162 ⊢
                                                cases h1163 : decide (a2 &&& 128 = 0) with
                                                | true =>
                                                  have g1164 := q_rg_eqT h1163 (q_rg_lit (n := 0) (x := 0) rfl)
                                                  refine q_S_T ?_
                                                  have j1165 := dzp_N149_87_f (r20) j1162 (128)
                                                  refine q_S_L ?_
                                                  generalize dz_N149_87_f r20 128 = r21 at j1165 ⊢
                                                  cases h1166 : decide (a2 &&& 64 = 0) with
                                                  | true =>
                                                    have g1167 := q_rg_eqT h1166 (q_rg_lit (n := 0) (x := 0) rfl)
                                                    refine q_S_T ?_
                                                    have j1168 := dzp_N149_87_f (r21) j1165 (64)
                                                    refine q_S_L ?_
                                                    generalize dz_N149_87_f r21 64 = r22 at j1168 ⊢
                                                    exact q_E_x j1168
                                                  | false =>
                                                    have g1169 := (q_rg_neL (l := 0) (u := 64) (n := 0) (L := 1) h1166 (q_rg_and a2 64 (U := 64) (by decide) rfl) rfl (by decide) (by decide))
                                                    refine q_S_F ?_
                                                    have j1170 := dzp_N149_87_t (r21) j1165 (64) (q_rg_le (L := 0) (U := 255) (q_rg_lit (n := 64) (x := 64) rfl) (by decide) (by decide))
                                                    refine q_S_L ?_
                                                    generalize dz_N149_87_t r21 64 = r23 at j1170 ⊢
                                                    exact q_E_x j1170
                                                | false =>
                                                  have g1171 := (q_rg_neL (l := 0) (u := 128) (n := 0) (L := 1) h1163 (q_rg_and a2 128 (U := 128) (by decide) rfl) rfl (by decide) (by decide))
                                                  refine q_S_F ?_
                                                  have j1172 := dzp_N149_87_t (r20) j1162 (128) (q_rg_le (L := 0) (U := 255) (q_rg_lit (n := 128) (x := 128) rfl) (by decide) (by decide))
                                                  refine q_S_L ?_
                                                  generalize dz_N149_87_t r20 128 = r24 at j1172 ⊢
                                                  cases h1173 : decide (a2 &&& 64 = 0) with
                                                  | true =>
                                                    have g1174 := q_rg_eqT h1173 (q_rg_lit (n := 0) (x := 0) rfl)
                                                    refine q_S_T ?_
                                                    have j1175 := dzp_N149_87_f (r24) j1172 (64)
                                                    refine q_S_L ?_
                                                    generalize dz_N149_87_f r24 64 = r25 at j1175 ⊢
                                                    exact q_E_x j1175
                                                  | false =>
                                                    have g1176 := (q_rg_neL (l := 0) (u := 64) (n := 0) (L := 1) h1173 (q_rg_and a2 64 (U := 64) (by decide) rfl) rfl (by decide) (by decide))
                                                    refine q_S_F ?_
                                                    have j1177 := dzp_N149_87_t (r24) j1172 (64) (q_rg_le (L := 0) (U := 255) (q_rg_lit (n := 64) (x := 64) rfl) (by decide) (by decide))
                                                    refine q_S_L ?_
                                                    generalize dz_N149_87_t r24 64 = r26 at j1177 ⊢
                                                    exact q_E_x j1177
set_option maxHeartbeats 4000000 in
theorem dzp_N144_87_65  {u K : Int} {t : Int64} {l : Int32} (s : q_S) (hI : q_iY true u t l K s) (a2 : Int32) : q_Ex (dz_N144_87_65 s a2) (fun x => q_rgz 0 4095 x) := by
  unfold dz_N144_87_65
  obtain ⟨r2, e1182, j1181⟩ := dzp_N145_87_65 (s) hI (a2)
  rw [e1182]
  refine q_E_B ?_
  have j1183 := dzp_N143_87 (s) hI (a2)
  refine q_E_L ?_
  generalize dz_N143_87 s a2 = r3 at j1183 ⊢
  exact q_E_x (q_rg_le (q_rg_and (r2 + r3) 4095 (U := 4095) (by decide) rfl) (by decide) (by decide))
set_option maxHeartbeats 4000000 in
theorem dzp_N93_65  {u K : Int} {t : Int64} {l : Int32} (s : q_S) (hI : q_iY true u t l K s) (a1 : Int32) (ra1 : q_rgz 0 4095 a1) : q_Ex (dz_N93_65 s a1) (fun (x : q_S × Int32) => q_iY true u t l K x.1 ∧ q_rgz 0 255 x.2) := by
  unfold dz_N93_65
  obtain ⟨r2, e1191, j1190⟩ := dzp_N90_65 (s) hI (a1) (q_rg_le (L := 0) (U := 4095) ra1 (by decide) (by decide))
  rw [e1191]
  refine q_E_B ?_
  cases h1192 : decide (a1 = 3869) with
  | true =>
    have g1193 := q_rg_eqT h1192 (q_rg_lit (n := 3869) (x := 3869) rfl)
    refine q_E_T ?_
    exact q_E_x ⟨(q_iY_A4 hI q_D29), q_rg_le j1190 (by decide) (by decide)⟩
  | false =>
    refine q_E_F ?_
    cases h1194 : decide (a1 = 3870) with
    | true =>
      have g1195 := q_rg_eqT h1194 (q_rg_lit (n := 3870) (x := 3870) rfl)
      refine q_E_T ?_
      exact q_E_x ⟨(q_iY_A4 hI q_D30), q_rg_le j1190 (by decide) (by decide)⟩
    | false =>
      refine q_E_F ?_
      exact q_E_x ⟨hI, q_rg_le j1190 (by decide) (by decide)⟩
set_option maxHeartbeats 4000000 in
theorem dzp_N153_87_65_101  {u K : Int} {t : Int64} {l : Int32} (s : q_S) (hI : q_iY true u t l K s) (v2 : Int32) (v3 : Int32) (rv2 : q_rgz 14 19 v2) (rv3 : q_rgz 0 4095 v3) : q_Ex (dz_N153_87_65_101 s v2 v3) (q_iY true u t l (K + 1)) := by
  unfold dz_N153_87_65_101
  obtain ⟨r6, e1265, j1264⟩ := dzp_N93_65 (s) hI (v3) (q_rg_le (L := 0) (U := 4095) rv3 (by decide) (by decide))
  rw [e1265]
  refine q_E_B ?_
  obtain ⟨r7, e1267, j1266⟩ := dzp_N94_65 (r6.1) j1264.1 (v3) ((r6.2 + 1) &&& 255) (q_rg_le (L := 0) (U := 4095) rv3 (by decide) (by decide)) (q_rg_le (L := 0) (U := 255) (q_rg_and (r6.2 + 1) 255 (U := 255) (by decide) rfl) (by decide) (by decide))
  rw [e1267]
  refine q_E_B ?_
  cases h1268 : decide (v2 = 18) with
  | true =>
    have g1269 := q_rg_eqT h1268 (q_rg_lit (n := 18) (x := 18) rfl)
    refine q_E_T ?_
    have j1270 := dzp_N151_87 (r7) j1266 (r7.2.1 23 0) ((r6.2 + 1) &&& 255) (q_rg_le (L := 0) (U := 255) (q_rf23_0 j1266) (by decide) (by decide)) (q_rg_le (L := 0) (U := 255) (q_rg_and (r6.2 + 1) 255 (U := 255) (by decide) rfl) (by decide) (by decide))
    refine q_E_L ?_
    generalize dz_N151_87 r7 (r7.2.1 23 0) ((r6.2 + 1) &&& 255) = r8 at j1270 ⊢
    exact q_E_x (q_iY_le j1270 (by omega))
  | false =>
    refine q_E_F ?_
    cases h1271 : decide (v2 = 19) with
    | true =>
      have g1272 := q_rg_eqT h1271 (q_rg_lit (n := 19) (x := 19) rfl)
      refine q_E_T ?_
      have j1273 := dzp_N155_87 (r7) j1266 ((r6.2 + 1) &&& 255) (q_rg_le (L := 0) (U := 255) (q_rg_and (r6.2 + 1) 255 (U := 255) (by decide) rfl) (by decide) (by decide))
      refine q_E_L ?_
      generalize dz_N155_87 r7 ((r6.2 + 1) &&& 255) = r9 at j1273 ⊢
      exact q_E_x (q_iY_le j1273 (by omega))
    | false =>
      have g1274 := (q_rg_neU (l := 14) (u := 19) (n := 19) (U := 18) h1271 rv2 rfl (by decide) (by decide))
      refine q_E_F ?_
      have j1275 := dzp_N150_87 (r7) j1266 ((r6.2 + 1) &&& 255) (q_rg_le (L := 0) (U := 255) (q_rg_and (r6.2 + 1) 255 (U := 255) (by decide) rfl) (by decide) (by decide))
      refine q_E_L ?_
      generalize dz_N150_87 r7 ((r6.2 + 1) &&& 255) = r10 at j1275 ⊢
      exact q_E_x (q_iY_le j1275.1 (by omega))
set_option maxHeartbeats 4000000 in
theorem dzp_N153_87_65  {u K : Int} {t : Int64} {l : Int32} (s : q_S) (hI : q_iY true u t l K s) (a2 : Int32) (a3 : Int32) (ra3 : q_rgz 0 4095 a3) : q_Ex (dz_N153_87_65 s a2 a3) (q_iY true u t l (K + 1)) := by
  unfold dz_N153_87_65
  cases h1276 : decide (a2 = 3) with
  | true =>
    have g1277 := q_rg_eqT h1276 (q_rg_lit (n := 3) (x := 3) rfl)
    refine q_E_T ?_
    obtain ⟨r2, e1279, j1278⟩ := dzp_N94_65 (s) hI (a3) (s.2.1 23 0) (q_rg_le (L := 0) (U := 4095) ra3 (by decide) (by decide)) (q_rg_le (L := 0) (U := 255) (q_rf23_0 hI) (by decide) (by decide))
    rw [e1279]
    refine q_E_B ?_
    exact q_E_x (q_iY_le j1278 (by omega))
  | false =>
    refine q_E_F ?_
    cases h1280 : decide (a2 = 4) with
    | true =>
      have g1281 := q_rg_eqT h1280 (q_rg_lit (n := 4) (x := 4) rfl)
      refine q_E_T ?_
      obtain ⟨r3, e1283, j1282⟩ := dzp_N94_65 (s) hI (a3) (s.2.1 23 1) (q_rg_le (L := 0) (U := 4095) ra3 (by decide) (by decide)) (q_rg_le (L := 0) (U := 255) (q_rf23_1 hI) (by decide) (by decide))
      rw [e1283]
      refine q_E_B ?_
      exact q_E_x (q_iY_le j1282 (by omega))
    | false =>
      refine q_E_F ?_
      cases h1284 : decide (a2 = 5) with
      | true =>
        have g1285 := q_rg_eqT h1284 (q_rg_lit (n := 5) (x := 5) rfl)
        refine q_E_T ?_
        obtain ⟨r4, e1287, j1286⟩ := dzp_N94_65 (s) hI (a3) (s.2.1 23 2) (q_rg_le (L := 0) (U := 4095) ra3 (by decide) (by decide)) (q_rg_le (L := 0) (U := 255) (q_rf23_2 hI) (by decide) (by decide))
        rw [e1287]
        refine q_E_B ?_
        exact q_E_x (q_iY_le j1286 (by omega))
      | false =>
        refine q_E_F ?_
        cases h1288 : decide (a2 = 17) with
        | true =>
          have g1289 := q_rg_eqT h1288 (q_rg_lit (n := 17) (x := 17) rfl)
          refine q_E_T ?_
          obtain ⟨r5, e1291, j1290⟩ := dzp_N94_65 (s) hI (a3) ((s.2.1 23 0) &&& (s.2.1 23 1)) (q_rg_le (L := 0) (U := 4095) ra3 (by decide) (by decide)) (q_rg_le (L := 0) (U := 255) (q_rg_and1 (q_rf23_0 hI) (by decide)) (by decide) (by decide))
          rw [e1291]
          refine q_E_B ?_
          exact q_E_x (q_iY_le j1290 (by omega))
        | false =>
          refine q_E_F ?_
          cases h1292 : decide (a2 = 14) with
          | true =>
            have g1293 := q_rg_eqT h1292 (q_rg_lit (n := 14) (x := 14) rfl)
            refine q_E_T ?_
            exact q_E_to (dzp_N153_87_65_101 (s) hI (a2) (a3) (q_rg_le (L := 14) (U := 19) g1293 (by decide) (by decide)) (q_rg_le (L := 0) (U := 4095) ra3 (by decide) (by decide))) (fun x hx => (q_iY_le hx (by omega)))
          | false =>
            refine q_E_F ?_
            cases h1294 : decide (a2 = 19) with
            | true =>
              have g1295 := q_rg_eqT h1294 (q_rg_lit (n := 19) (x := 19) rfl)
              refine q_E_T ?_
              exact q_E_to (dzp_N153_87_65_101 (s) hI (a2) (a3) (q_rg_le (L := 14) (U := 19) g1295 (by decide) (by decide)) (q_rg_le (L := 0) (U := 4095) ra3 (by decide) (by decide))) (fun x hx => (q_iY_le hx (by omega)))
            | false =>
              refine q_E_F ?_
              obtain ⟨r11, e1297, j1296⟩ := dzp_N93_65 (s) hI (a3) (q_rg_le (L := 0) (U := 4095) ra3 (by decide) (by decide))
              rw [e1297]
              refine q_E_B ?_
              obtain ⟨r12, e1299, j1298⟩ := dzp_N94_65 (r11.1) j1296.1 (a3) ((r11.2 + (-1)) &&& 255) (q_rg_le (L := 0) (U := 4095) ra3 (by decide) (by decide)) (q_rg_le (L := 0) (U := 255) (q_rg_and (r11.2 + (-1)) 255 (U := 255) (by decide) rfl) (by decide) (by decide))
              rw [e1299]
              refine q_E_B ?_
              cases h1300 : decide (a2 = 18) with
              | true =>
                have g1301 := q_rg_eqT h1300 (q_rg_lit (n := 18) (x := 18) rfl)
                refine q_E_T ?_
                have j1302 := dzp_N151_87 (r12) j1298 (r12.2.1 23 0) ((r11.2 + (-1)) &&& 255) (q_rg_le (L := 0) (U := 255) (q_rf23_0 j1298) (by decide) (by decide)) (q_rg_le (L := 0) (U := 255) (q_rg_and (r11.2 + (-1)) 255 (U := 255) (by decide) rfl) (by decide) (by decide))
                refine q_E_L ?_
                generalize dz_N151_87 r12 (r12.2.1 23 0) ((r11.2 + (-1)) &&& 255) = r13 at j1302 ⊢
                exact q_E_x (q_iY_le j1302 (by omega))
              | false =>
                refine q_E_F ?_
                have j1303 := dzp_N150_87 (r12) j1298 ((r11.2 + (-1)) &&& 255) (q_rg_le (L := 0) (U := 255) (q_rg_and (r11.2 + (-1)) 255 (U := 255) (by decide) rfl) (by decide) (by decide))
                refine q_E_L ?_
                generalize dz_N150_87 r12 ((r11.2 + (-1)) &&& 255) = r14 at j1303 ⊢
                exact q_E_x (q_iY_le j1303.1 (by omega))
set_option maxHeartbeats 4000000 in
theorem dzp_N142_87_65_142  {u K : Int} {t : Int64} {l : Int32} (s : q_S) (hI : q_iY true u t l K s) (v2 : Int32) (v3 : Int32) (v4 : Int32) (v5 : Int32) (rv2 : q_rgz 0 255 v2) (rv4 : q_rgz 0 7 v4) (rv5 : q_rgz 0 4095 v5) : q_Ex (dz_N142_87_65_142 s v2 v3 v4 v5) (q_iY true u t l (K + 3)) := by
  unfold dz_N142_87_65_142
  cases h1369 : decide (v3 < 0) with
  | true =>
    have g1370 := (q_rg_ltT1 (l := -2147483648) (U := -1) h1369 (q_rg_full _) (q_rg_lit (n := 0) (x := 0) rfl) (by decide))
    refine q_E_T ?_
    obtain ⟨r8, e1372, j1371⟩ := dzp_N158_87_65 (s) hI (v2) (v5) (q_rg_le (L := 0) (U := 4095) rv5 (by decide) (by decide))
    rw [e1372]
    refine q_E_B ?_
    exact q_E_x (q_iY_le (q_iY_F4 j1371.1 (q_rg_le (L := 0) (U := 4095) j1371.2 (by decide) (by decide))) (by omega))
  | false =>
    have g1373 := (q_rg_ltF1 (l2 := 0) (u := 2147483647) h1369 (q_rg_full _) (q_rg_lit (n := 0) (x := 0) rfl))
    refine q_E_F ?_
    cases h1374 : decide (v4 = 0) with
    | true =>
      have g1375 := q_rg_eqT h1374 (q_rg_lit (n := 0) (x := 0) rfl)
      refine q_E_T ?_
      have j1376 := dzp_N140_87 (s) hI (1)
      refine q_E_L ?_
      generalize dz_N140_87 s 1 = r9 at j1376 ⊢
      obtain ⟨r10, e1378, j1377⟩ := dzp_N90_65 (s) hI (r9) (q_rg_le (L := 0) (U := 4095) j1376 (by decide) (by decide))
      rw [e1378]
      refine q_E_B ?_
      have j1379 := dzp_N152_87 (s) hI (v3) (r10) (q_rg_le (L := 0) (U := 255) j1377 (by decide) (by decide))
      refine q_E_L ?_
      generalize dz_N152_87 s v3 r10 = r11 at j1379 ⊢
      exact q_E_x (q_iY_le (q_iY_F4 j1379 (q_rg_le (L := 0) (U := 4095) rv5 (by decide) (by decide))) (by omega))
    | false =>
      have g1380 := (q_rg_neL (l := 0) (u := 7) (n := 0) (L := 1) h1374 rv4 rfl (by decide) (by decide))
      refine q_E_F ?_
      have j1381 := dzp_N188 (s) hI (v3)
      refine q_E_L ?_
      generalize dz_N188 s v3 = r12 at j1381 ⊢
      cases h1382 : r12 with
      | true =>
        refine q_E_T ?_
        obtain ⟨r13, e1384, j1383⟩ := dzp_N144_87_65 (s) hI (v4)
        rw [e1384]
        refine q_E_B ?_
        obtain ⟨r14, e1386, j1385⟩ := dzp_N153_87_65 (s) hI (v3) (r13) (q_rg_le (L := 0) (U := 4095) j1383 (by decide) (by decide))
        rw [e1386]
        refine q_E_B ?_
        exact q_E_x (q_iY_le (q_iY_F4 j1385 (q_rg_le (L := 0) (U := 4095) rv5 (by decide) (by decide))) (by omega))
      | false =>
        refine q_E_F ?_
        obtain ⟨r15, e1388, j1387⟩ := dzp_N144_87_65 (s) hI (v4)
        rw [e1388]
        refine q_E_B ?_
        obtain ⟨r16, e1390, j1389⟩ := dzp_N93_65 (s) hI (r15) (q_rg_le (L := 0) (U := 4095) j1387 (by decide) (by decide))
        rw [e1390]
        refine q_E_B ?_
        have j1391 := dzp_N152_87 (r16.1) j1389.1 (v3) (r16.2) (q_rg_le (L := 0) (U := 255) j1389.2 (by decide) (by decide))
        refine q_E_L ?_
        generalize dz_N152_87 r16.1 v3 r16.2 = r17 at j1391 ⊢
        exact q_E_x (q_iY_le (q_iY_F4 j1391 (q_rg_le (L := 0) (U := 4095) rv5 (by decide) (by decide))) (by omega))
set_option maxHeartbeats 4000000 in
theorem dzp_N142_87_65  {u K : Int} {t : Int64} {l : Int32} (s : q_S) (hI : q_iY true u t l K s) : q_Ex (dz_N142_87_65 s) (q_iY true u t l (K + 3)) := by
  unfold dz_N142_87_65
  cases h1392 : decide (s.2.1 23 8 = 0) with
  | true =>
    have g1393 := q_rg_eqT h1392 (q_rg_lit (n := 0) (x := 0) rfl)
    refine q_E_T ?_
    obtain ⟨r2, e1395, j1394⟩ := dzp_N90_65 (q_sI (q_sA (q_sI s 23 10 ((s.2.1 23 10) + 1)) 24 (upd (s.1 24) (((s.2.1 23 11) &&& 15).toNatClampNeg) (s.2.1 23 4))) 23 11 ((s.2.1 23 11) + 1)) (q_iY_I11 (q_iY_A24 (q_iY_I10 hI))) (s.2.1 23 4) (q_rg_le (L := 0) (U := 4095) (q_rf23_4 hI) (by decide) (by decide))
    rw [e1395]
    refine q_E_B ?_
    have j1396 := dzp_N186 (q_sI (q_sA (q_sI s 23 10 ((s.2.1 23 10) + 1)) 24 (upd (s.1 24) (((s.2.1 23 11) &&& 15).toNatClampNeg) (s.2.1 23 4))) 23 11 ((s.2.1 23 11) + 1)) (q_iY_I11 (q_iY_A24 (q_iY_I10 hI))) (r2)
    refine q_E_L ?_
    generalize dz_N186 (q_sI (q_sA (q_sI s 23 10 ((s.2.1 23 10) + 1)) 24 (upd (s.1 24) (((s.2.1 23 11) &&& 15).toNatClampNeg) (s.2.1 23 4))) 23 11 ((s.2.1 23 11) + 1)) r2 = r3 at j1396 ⊢
    have j1397 := dzp_N190 (q_sI (q_sA (q_sI s 23 10 ((s.2.1 23 10) + 1)) 24 (upd (s.1 24) (((s.2.1 23 11) &&& 15).toNatClampNeg) (s.2.1 23 4))) 23 11 ((s.2.1 23 11) + 1)) (q_iY_I11 (q_iY_A24 (q_iY_I10 hI))) (r2)
    refine q_E_L ?_
    generalize dz_N190 (q_sI (q_sA (q_sI s 23 10 ((s.2.1 23 10) + 1)) 24 (upd (s.1 24) (((s.2.1 23 11) &&& 15).toNatClampNeg) (s.2.1 23 4))) 23 11 ((s.2.1 23 11) + 1)) r2 = r4 at j1397 ⊢
    have j1398 := dzp_N140_87 (q_sI (q_sA (q_sI s 23 10 ((s.2.1 23 10) + 1)) 24 (upd (s.1 24) (((s.2.1 23 11) &&& 15).toNatClampNeg) (s.2.1 23 4))) 23 11 ((s.2.1 23 11) + 1)) (q_iY_I11 (q_iY_A24 (q_iY_I10 hI))) (r4)
    refine q_E_L ?_
    generalize dz_N140_87 (q_sI (q_sA (q_sI s 23 10 ((s.2.1 23 10) + 1)) 24 (upd (s.1 24) (((s.2.1 23 11) &&& 15).toNatClampNeg) (s.2.1 23 4))) 23 11 ((s.2.1 23 11) + 1)) r4 = r5 at j1398 ⊢
    cases h1399 : decide (r2 = 154) with
    | true =>
      have g1400 := q_rg_eqT h1399 (q_rg_lit (n := 154) (x := 154) rfl)
      refine q_E_T ?_
      obtain ⟨r6, e1402, j1401⟩ := dzp_N148_87_65 (q_sI (q_sA (q_sI s 23 10 ((s.2.1 23 10) + 1)) 24 (upd (s.1 24) (((s.2.1 23 11) &&& 15).toNatClampNeg) (s.2.1 23 4))) 23 11 ((s.2.1 23 11) + 1)) (q_iY_I11 (q_iY_A24 (q_iY_I10 hI))) (r5) (((s.2.1 23 5) ||| 32) ||| 16) (3838) (q_rg_le (L := 0) (U := 4095) j1398 (by decide) (by decide)) (q_rg_le (L := 0) (U := 255) (q_rg_or (n := 8) (W := 255) (q_rg_or (n := 8) (W := 255) (q_rf23_5 hI) (q_rg_lit (n := 32) (x := 32) rfl) (by decide) (by decide) (by decide) (by decide) (by decide)) (q_rg_lit (n := 16) (x := 16) rfl) (by decide) (by decide) (by decide) (by decide) (by decide)) (by decide) (by decide))
      rw [e1402]
      refine q_E_B ?_
      exact q_E_x (q_iY_le j1401 (by omega))
    | false =>
      refine q_E_F ?_
      cases h1403 : decide (r3 < 0) with
      | true =>
        have g1404 := (q_rg_ltT1 (l := -2147483648) (U := -1) h1403 (q_rg_full _) (q_rg_lit (n := 0) (x := 0) rfl) (by decide))
        refine q_E_T ?_
        cases h1405 : decide (r2 < 154) with
        | true =>
          have g1406 := (q_rg_ltT1 (l := 0) (U := 153) h1405 j1394 (q_rg_lit (n := 154) (x := 154) rfl) (by decide))
          refine q_E_T ?_
          obtain ⟨r7, e1408, j1407⟩ := dzp_N157_87_65 (q_sI (q_sA (q_sI s 23 10 ((s.2.1 23 10) + 1)) 24 (upd (s.1 24) (((s.2.1 23 11) &&& 15).toNatClampNeg) (s.2.1 23 4))) 23 11 ((s.2.1 23 11) + 1)) (q_iY_I11 (q_iY_A24 (q_iY_I10 hI))) (r2)
          rw [e1408]
          refine q_E_B ?_
          exact q_E_x (q_iY_le (q_iY_F4 j1407 (q_rg_le (L := 0) (U := 4095) j1398 (by decide) (by decide))) (by omega))
        | false =>
          have g1409 := (q_rg_ltF1 (l2 := 154) (u := 255) h1405 j1394 (q_rg_lit (n := 154) (x := 154) rfl))
          refine q_E_F ?_
          exact q_E_to (dzp_N142_87_65_142 (q_sI (q_sA (q_sI s 23 10 ((s.2.1 23 10) + 1)) 24 (upd (s.1 24) (((s.2.1 23 11) &&& 15).toNatClampNeg) (s.2.1 23 4))) 23 11 ((s.2.1 23 11) + 1)) (q_iY_I11 (q_iY_A24 (q_iY_I10 hI))) (r2) (r3) (r2 &&& 7) (r5) (q_rg_le (L := 0) (U := 255) g1409 (by decide) (by decide)) (q_rg_le (L := 0) (U := 7) (q_rg_and r2 7 (U := 7) (by decide) rfl) (by decide) (by decide)) (q_rg_le (L := 0) (U := 4095) j1398 (by decide) (by decide))) (fun x hx => (q_iY_le hx (by omega)))
      | false =>
        have g1410 := (q_rg_ltF1 (l2 := 0) (u := 2147483647) h1403 (q_rg_full _) (q_rg_lit (n := 0) (x := 0) rfl))
        refine q_E_F ?_
        exact q_E_to (dzp_N142_87_65_142 (q_sI (q_sA (q_sI s 23 10 ((s.2.1 23 10) + 1)) 24 (upd (s.1 24) (((s.2.1 23 11) &&& 15).toNatClampNeg) (s.2.1 23 4))) 23 11 ((s.2.1 23 11) + 1)) (q_iY_I11 (q_iY_A24 (q_iY_I10 hI))) (r2) (r3) (r2 &&& 7) (r5) (q_rg_le (L := 0) (U := 255) j1394 (by decide) (by decide)) (q_rg_le (L := 0) (U := 7) (q_rg_and r2 7 (U := 7) (by decide) rfl) (by decide) (by decide)) (q_rg_le (L := 0) (U := 4095) j1398 (by decide) (by decide))) (fun x hx => (q_iY_le hx (by omega)))
  | false =>
    refine q_E_F ?_
    obtain ⟨r18, e1412, j1411⟩ := dzp_N148_87_65 (q_sI s 23 10 ((s.2.1 23 10) + 1)) (q_iY_I10 hI) (s.2.1 23 4) ((s.2.1 23 5) ||| 32) (s.2.1 23 8) (q_rg_le (L := 0) (U := 4095) (q_rf23_4 hI) (by decide) (by decide)) (q_rg_le (L := 0) (U := 255) (q_rg_or (n := 8) (W := 255) (q_rf23_5 hI) (q_rg_lit (n := 32) (x := 32) rfl) (by decide) (by decide) (by decide) (by decide) (by decide)) (by decide) (by decide))
    rw [e1412]
    refine q_E_B ?_
    exact q_E_x (q_iY_le j1411 (by omega))
end
section
-- 57.pf
section
variable {TT : (Nat → Int32) → Int32 → (Nat → Int32) → Int32 → Int64 → Int64 → List Int32 → List (Nat → Int32) → (Nat → Int64) → Prop} {x y z m s : q_S} {c d w u B C : Int} {K : Int64} {F : List Int32} {W : List (Nat → Int32)} {Q : Nat → Int64}
theorem q_plF : ∀ k, k < 45 → q_pl k = false → k = 10 ∨ k = 12 ∨ k = 13 ∨ k = 14 ∨ k = 15 ∨ k = 29 ∨ k = 30 := by decide
theorem q_rgw {a : Int32} {l v : Int} (h : q_rgz l v a) (h0 : 0 ≤ l) (h1 : v ≤ 255) : q_rgz 0 255 a := ⟨Int.le_trans h0 h.1, Int.le_trans h.2 h1⟩
theorem q_ofN {k : Nat} (h : k < 1000) : (Int32.ofNat k).toInt = (k : Int) ∧ (Int32.ofNat k).toNatClampNeg = k := by
  have e : (Int32.ofNat k).toInt = (k : Int) := Int32.toInt_ofNat_of_lt (by omega)
  exact ⟨e, by show (Int32.ofNat k).toInt.toNat = k; omega⟩
theorem q_RIof {b9 : Bool} (h : q_R TT x m) (hI : q_Iv c d w m) (hJ : b9 = true → x.2.1 23 7 = 0) : q_RI b9 x := by
  refine ⟨fun k hk => ?_, fun k hk => ?_, fun k hk => ?_, fun k hk => ?_, fun k hk => ?_, fun k hk => ?_, ?_, ?_, ?_, ?_, ?_, ?_, ?_, ?_, ?_, ?_, ?_, ?_, ?_⟩
  · rw [h.r1.1 k hk]; exact hI.1 1 k
  · by_cases q : k < 45
    · cases p : q_pl k with
      | true =>
        rw [h.r2.1.1 k q p]
        obtain ⟨e1, e2⟩ := q_ofN (k := k) (by omega)
        have r := q_rdv (i := 4) (a := 0) (n := 45) (L := 0) (U := 255) (x := Int32.ofNat k) hI ⟨by omega, by omega⟩ rfl (by decide)
        rw [e2] at r
        exact r
      | false =>
        rcases q_plF k q p with e | e | e | e | e | e | e <;> rw [e]
        · rw [h.r2.2.1]; exact q_rgw (l := 0) (v := 15) (hI.1 14 9) (by decide) (by decide)
        · exact h.r3.1.1
        · exact h.r3.1.2.1
        · exact h.r3.1.2.2.1
        · exact h.r3.1.2.2.2
        · rw [h.r2.2.2.1]; exact q_rgw (l := 0) (v := 15) (hI.1 14 10) (by decide) (by decide)
        · rw [h.r2.2.2.2]; exact q_rgw (l := 0) (v := 15) (hI.1 14 11) (by decide) (by decide)
    · rw [h.r2.1.2 k (by omega) hk]
      exact ⟨by decide, by decide⟩
  · rw [h.r1.2.1 k hk]; exact hI.1 2 k
  · rw [h.r1.2.2 k hk]; exact hI.1 3 k
  · rcases (by omega : k = 0 ∨ k = 1) with e | e <;> rw [e]
    · rw [h.r3.2.2.2.1]; exact hI.1 14 5
    · rw [h.r3.2.2.2.2]; exact hI.1 14 6
  · obtain ⟨e1, e2⟩ := q_ofN (k := k) (by omega)
    obtain ⟨m2, a1, -⟩ := q_seen h hI (Int32.ofNat k) ⟨by omega, by omega⟩
    obtain ⟨r, b1, b2⟩ := dzj_M208_64 c d w m hI (Int32.ofNat k)
    rw [a1] at b1
    cases b1
    have e3 : (Int32.ofNat k &&& 15).toNatClampNeg = k := by
      have := q_andI 4 (by decide) (a := Int32.ofNat k) (l := 0) (u := 15) ⟨by omega, by omega⟩ (by decide) (show (15 : Int32).toInt = 2 ^ 4 - 1 by decide)
      show (Int32.ofNat k &&& 15).toInt.toNat = k
      omega
    rw [e3] at b2
    exact b2.2
  · rw [h.g 0]; exact hI.1 4 0
  · rw [h.g 44]; exact hI.1 4 44
  · rw [h.r6.1.1]; exact hI.1 14 0
  · rw [h.r6.1.2.1]; exact hI.1 14 1
  · rw [h.r6.1.2.2.1]; exact hI.1 14 2
  · rw [h.r6.1.2.2.2]; exact hI.1 14 3
  · exact fun b => by
      rw [h.r6.2.1 (hJ b)]
      exact hI.1 14 4
  · exact q_rgw (q_flag h hI).1 (by decide) (by decide)
  · rw [h.r6.2.2.1]; exact hI.1 15 6
  · rw [h.r6.2.2.2.1]; exact hI.1 15 7
  · rw [h.r5.1]; exact hI.1 14 12
  · rw [h.r4.2.2.2.1]; exact hI.1 14 16
  · rw [h.r8.2]; exact (hI.2.2 0 15 rfl).1
/-- what passes -/
theorem q_83P {b : Bool} (hN : q_iN x) (h : q_iP C 0 u x) (e : dz_N83_64 x = some (y, b)) : q_iP C 1 u y := by
  have h1 : q_iX C 0 u (x.2.2 1 8) (x.2.1 23 9) (dz_N101_65 x) := dzq_N101_65 x ⟨hN, h, rfl, rfl⟩
  unfold dz_N83_64 q_let at e
  dsimp only at e
  generalize dz_N101_65 x = r3 at e h1
  cases e4 : dz_N102_65 r3 with
  | none => rw [e4] at e; cases e
  | some b4 =>
    rw [e4, Option.bind_some] at e
    obtain ⟨r5, e5, n5⟩ := dzj_N103_65_95 r3 h1.1
    have p5 := q_iP_103 h1.2.1 e5
    obtain ⟨r6, e6, h6⟩ := dzq_N104_65 r5 (c := C) (d := 1) (u := u) ⟨n5, p5, rfl, rfl⟩
    have h7 := dzq_N106_65 r6 h6
    have fin : ∀ b4, cond (decide (dz_N87_65 (dz_N106_65 r6) = 23)) ((dz_N168_89_68 (dz_N106_65 r6) (dz_N86_65 (dz_N106_65 r6) / 24)).bind fun r => some (r, b4)) (some (dz_N106_65 r6, b4)) = some (y, b) → q_iP C 1 u y := by
      generalize dz_N106_65 r6 = r7 at h7
      intro b4 e
      obtain ⟨r8, e8, h8⟩ := dzq_N168_89_68 r7 h7 (dz_N86_65 r7 / 24)
      rw [e8, Option.bind_some] at e
      cases k : decide (dz_N87_65 r7 = 23) with
      | true => rw [k] at e; cases e; exact h8.2.1
      | false => rw [k] at e; cases e; exact h7.2.1
    cases b4 with
    | true =>
      rw [cond_true, e5, Option.bind_some, e6, Option.bind_some] at e
      exact fin true e
    | false =>
      rw [cond_false, e5, Option.bind_some, e6, Option.bind_some] at e
      exact fin false e
theorem q_136P (h : q_iP C 1 u x) (e : dz_N136_87_65 x = some y) : q_iP C 1 u y ∧ y.2.2 = x.2.2 := by
  have k : ∀ v, ((dz_N137_87_65 (q_sI x 23 8 0)).bind fun r2 => some (q_sI (q_sI x 23 8 0) 23 9 r2)) = some v → q_iP C 1 u v ∧ v.2.2 = x.2.2 := fun v e => by
    cases e1 : dz_N137_87_65 (q_sI x 23 8 0) with
    | none => rw [e1] at e; cases e
    | some r => rw [e1] at e; cases e; exact ⟨q_iP_eq (s := x) rfl rfl rfl rfl rfl rfl rfl rfl rfl rfl rfl rfl rfl rfl h, rfl⟩
  have k2 : q_iP C 1 u (q_sI (q_sI (q_sI x 23 6 0) 23 8 3834) 23 9 7) := q_iP_eq (s := x) rfl rfl rfl rfl rfl rfl rfl rfl rfl rfl rfl rfl rfl rfl h
  have k3 : q_iP C 1 u (q_sI (q_sI x 23 8 3838) 23 9 7) := q_iP_eq (s := x) rfl rfl rfl rfl rfl rfl rfl rfl rfl rfl rfl rfl rfl rfl h
  unfold dz_N136_87_65 at e
  cases c1 : decide (((x.1 4) 10) &&& ((x.1 4) 11) = 0) with
  | true =>
    rw [c1, cond_true] at e
    cases c2 : decide (x.2.1 23 7 = 0) with
    | false => rw [c2] at e; cases e; exact ⟨h, rfl⟩
    | true =>
      rw [c2, cond_true] at e
      cases c3 : decide (x.2.1 23 6 = 0) with
      | true => rw [c3] at e; exact k y e
      | false => rw [c3] at e; cases e; exact ⟨k2, rfl⟩
  | false =>
    rw [c1, cond_false] at e
    cases c2 : decide (x.2.1 23 7 = 0) with
    | false => rw [c2] at e; cases e; exact ⟨h, rfl⟩
    | true =>
      rw [c2, cond_true] at e
      cases c3 : decide (x.2.1 23 6 = 0) with
      | false => rw [c3] at e; cases e; exact ⟨k2, rfl⟩
      | true =>
        rw [c3, cond_true] at e
        cases c4 : decide ((x.2.1 23 5) &&& 4 = 0) with
        | true => rw [c4] at e; cases e; exact ⟨k3, rfl⟩
        | false => rw [c4] at e; exact k y e
/-- between the cycles: the frames, and how many writes they may hold -/
def q_crd (l : Int32) : Int := cond (decide (l = 0)) 0 3
def q_iZ (B u : Int) (x : q_S) : Prop := ∃ C, 0 ≤ C ∧ 2 * C + q_crd (x.2.1 23 9) ≤ B + 3 * ((x.2.2 1 8).toInt % 960) ∧ q_iP C 0 u x
theorem q_cr3 (l : Int32) : 0 ≤ q_crd l ∧ q_crd l ≤ 3 := by
  unfold q_crd
  cases decide (l = 0) <;> exact ⟨by decide, by decide⟩
theorem q_107k (x : q_S) : (dz_N107_65 x).2.1 23 9 = x.2.1 23 9 ∧ (dz_N107_65 x).2.2 1 8 = (x.2.2 1 8) + 1 := by
  unfold dz_N107_65
  cases decide (lg_cmp (((x.2.2 1 8) + 1) - ((x.2.2 1 8) + 1) / 960 * 960) 0 = 0) with
  | false => exact ⟨rfl, rfl⟩
  | true =>
    cases decide (lg_cmp ((((x.2.2 1 8) + 1) / 960) - (((x.2.2 1 8) + 1) / 960) / 2 * 2) 0 = 0) with
    | true => exact ⟨rfl, rfl⟩
    | false => exact ⟨rfl, rfl⟩
theorem q_endZ (hB : 3 ≤ B) (hc0 : 0 ≤ C) (hc : C < 3072) (h0 : 0 ≤ (x.2.2 1 8).toInt) (hu : (x.2.2 1 8).toInt ≤ 1000000) (hC : 2 * C + q_crd (x.2.1 23 9) ≤ B + 3 * ((x.2.2 1 8).toInt % 960 + 1)) (h : q_iP C 1 u x) : q_iZ B (u + 1) (dz_N107_65 x) := by
  obtain ⟨e1, e2⟩ := q_107k x
  have eJ : ((x.2.2 1 8) + 1).toInt = (x.2.2 1 8).toInt + 1 := by
    rw [Int64.toInt_add]
    exact Int.bmod_eq_of_le (by show -(2 ^ 64 / 2 : Int) ≤ _ + 1; omega) (by show _ + 1 < ((2 ^ 64 + 1) / 2 : Int); omega)
  have l3 := q_cr3 (x.2.1 23 9)
  by_cases q : ((x.2.2 1 8).toInt + 1) % 960 = 0
  · refine ⟨0, Int.le_refl 0, ?_, q_iP_107 hc h (Int.le_refl 0) (Or.inl q)⟩
    rw [e1, e2, eJ]
    omega
  · refine ⟨C, hc0, ?_, q_iP_107 hc h hc0 (Or.inr (Int.le_refl C))⟩
    rw [e1, e2, eJ]
    omega
/-- a cycle -/
theorem q_cyP {b : Bool} (h : q_R (q_TT0 K F W Q) x m) (hI : q_Iv c d w m) (hd : c ≤ 1000000 ∧ d ≤ 1000000) (hB : 3 ≤ B ∧ B ≤ 3080) (hZ : q_iZ B u x) (e : q_cyw x = some (y, b)) : q_iZ B (u + 1) y := by
  obtain ⟨C, C0, C1, P⟩ := hZ
  obtain ⟨y1, m2, b1, a1, a2, a3, a4, a5, -⟩ := q_pass h hI
  have P1 : q_iP C 1 u y1 := q_83P (q_iNof h (hI.1 15 6) (hI.1 15 7)) P a1
  have eL : y1.2.1 23 9 = x.2.1 23 9 := a5.2.1 9
  have eC : y1.2.2 = x.2.2 := a5.2.2
  have y0 : 0 ≤ (x.2.2 1 8).toInt := by rw [h.r8.2]; exact (hI.2.2 0 15 rfl).1
  have y9 : (x.2.2 1 8).toInt ≤ 1000000 := by
    rw [h.r8.2]
    exact Int.le_trans (hI.2.2 0 15 rfl).2 hd.1
  have l3 := q_cr3 (x.2.1 23 9)
  have Cb : C < 3000 := by omega
  unfold q_cyw at e
  rw [a1, Option.bind_some] at e
  cases b1 with
  | true =>
    cases e
    exact q_endZ hB.1 C0 (by omega) (by rw [eC]; exact y0) (by rw [eC]; exact y9) (by rw [eC, eL]; omega) P1
  | false =>
    rw [cond_false] at e
    cases ec : q_cx y1 with
    | none => rw [ec] at e; cases e
    | some r =>
      rw [ec] at e
      cases e
      unfold q_cx at ec
      have r9 := a3.r6.2.2.2.2.2.2.2.2.2.2
      obtain ⟨rj, r90, r99⟩ := r9
      have z0 : (0 : Int32).toInt = 0 := rfl
      by_cases L : y1.2.1 23 9 = 0
      · rw [decide_eq_true L, cond_true] at ec
        have lf0 : q_crd (x.2.1 23 9) = 0 := by unfold q_crd; rw [← eL, decide_eq_true L]; rfl
        by_cases J : y1.2.1 23 7 = 0
        · obtain ⟨z, m3, g1, -, -, -, -, g6⟩ := q_beg a3 a4 J
          rw [g1, Option.bind_some] at ec
          obtain ⟨p1, p2⟩ := q_136P P1 g1
          unfold q_let dz_N141_87 at ec
          have n0 : ¬ z.2.1 23 9 = 0 := fun q => by have := g6.1; rw [q] at this; exact absurd this (by decide)
          have e1 : ((z.2.1 23 9) - 1).toInt = (z.2.1 23 9).toInt - 1 := q_subI ⟨by have := g6.1; omega, by have := g6.2; omega⟩ ⟨by decide, by decide⟩
          have n1 : ¬ (z.2.1 23 9) - 1 = 0 := fun q => by have h9 := g6.1; rw [q] at e1; omega
          rw [decide_eq_false n0, cond_false, decide_eq_false n1] at ec
          cases ec
          refine q_endZ hB.1 C0 (by omega) (by show 0 ≤ (z.2.2 1 8).toInt; rw [p2, eC]; exact y0) (by show (z.2.2 1 8).toInt ≤ _; rw [p2, eC]; exact y9) ?_ (q_iP_eq (s := z) rfl rfl rfl rfl rfl rfl rfl rfl rfl rfl rfl rfl rfl rfl p1)
          show 2 * C + q_crd ((z.2.1 23 9) - 1) ≤ B + 3 * ((z.2.2 1 8).toInt % 960 + 1)
          have := q_cr3 ((z.2.1 23 9) - 1)
          rw [p2, eC]
          omega
        · have e136 : dz_N136_87_65 y1 = some y1 := by
            unfold dz_N136_87_65
            rw [decide_eq_false J]
            cases decide (((y1.1 4) 10) &&& ((y1.1 4) 11) = 0) <;> rfl
          rw [e136, Option.bind_some] at ec
          unfold q_let dz_N141_87 at ec
          rw [decide_eq_true L] at ec
          have ec : some y1 = some r := ec
          cases ec
          exact q_endZ hB.1 C0 (by omega) (by rw [eC]; exact y0) (by rw [eC]; exact y9) (by rw [eC, eL]; omega) P1
      · rw [decide_eq_false L, cond_false, Option.bind_some] at ec
        have J : y1.2.1 23 7 = 0 := rj.resolve_right L
        have lf3 : q_crd (x.2.1 23 9) = 3 := by unfold q_crd; rw [← eL, decide_eq_false L]; rfl
        have e1 : ((y1.2.1 23 9) - 1).toInt = (y1.2.1 23 9).toInt - 1 := q_subI ⟨by omega, by omega⟩ ⟨by decide, by decide⟩
        have P2 : q_iP C 1 u (q_sI y1 23 9 ((y1.2.1 23 9) - 1)) := q_iP_eq (s := y1) rfl rfl rfl rfl rfl rfl rfl rfl rfl rfl rfl rfl rfl rfl P1
        unfold q_let dz_N141_87 at ec
        rw [decide_eq_false L, cond_false] at ec
        by_cases N1 : (y1.2.1 23 9) - 1 = 0
        · rw [decide_eq_true N1, cond_true] at ec
          have ec : dz_N142_87_65 (q_sI y1 23 9 ((y1.2.1 23 9) - 1)) = some r := ec
          obtain ⟨r2, f1, f2⟩ := dzp_N142_87_65 (u := u) (K := C) (t := x.2.2 1 8) (l := 0) (q_sI y1 23 9 ((y1.2.1 23 9) - 1)) ⟨P2, (show q_RI true y1 from q_RIof a3 a4 (fun _ => J)), congrFun (congrFun eC 1) 8, N1⟩
          rw [ec] at f1
          cases f1
          obtain ⟨f3, -, f5, f6⟩ := f2
          have lf0 : q_crd (r.2.1 23 9) = 0 := by rw [f6]; rfl
          exact q_endZ hB.1 (by omega) (by omega) (by rw [f5]; exact y0) (by rw [f5]; exact y9) (by rw [f5, lf0]; omega) f3
        · rw [decide_eq_false N1] at ec
          cases ec
          refine q_endZ hB.1 C0 (by omega) (by show 0 ≤ (y1.2.2 1 8).toInt; rw [eC]; exact y0) (by show (y1.2.2 1 8).toInt ≤ _; rw [eC]; exact y9) ?_ P2
          show 2 * C + q_crd ((y1.2.1 23 9) - 1) ≤ B + 3 * ((y1.2.2 1 8).toInt % 960 + 1)
          have := q_cr3 ((y1.2.1 23 9) - 1)
          rw [eC]
          omega
end
end
section
-- 57.pg
section
variable {TT : (Nat → Int32) → Int32 → (Nat → Int32) → Int32 → Int64 → Int64 → List Int32 → List (Nat → Int32) → (Nat → Int64) → Prop} {x y z m s : q_S} {c d w u B C : Int} {K : Int64} {F : List Int32} {W : List (Nat → Int32)} {Q : Nat → Int64} {t : Int64} {l : Int32}
theorem q_iZ_mono {B2 u2 : Int} (hB : B ≤ B2) (hu : u ≤ u2) (h : q_iZ B u x) : q_iZ B2 u2 x := by
  obtain ⟨C, C0, C1, P⟩ := h
  exact ⟨C, C0, Int.le_trans C1 (Int.add_le_add_right hB _), q_iP_mono (Int.le_refl C) hu P⟩
theorem q_iZ_eq (h3 : y.1 3 = s.1 3) (h4 : y.1 4 = s.1 4) (h15 : y.1 15 = s.1 15) (h16 : y.1 16 = s.1 16) (h17 : y.1 17 = s.1 17) (h20 : y.1 20 = s.1 20) (h21 : y.1 21 = s.1 21) (h22 : y.1 22 = s.1 22) (h31 : y.1 31 = s.1 31) (i2 : y.2.1 13 2 = s.2.1 13 2) (i3 : y.2.1 13 3 = s.2.1 13 3) (j2 : y.2.1 18 2 = s.2.1 18 2) (j3 : y.2.1 18 3 = s.2.1 18 3) (l8 : y.2.2 1 8 = s.2.2 1 8) (i9 : y.2.1 23 9 = s.2.1 23 9) (h : q_iZ B u s) : q_iZ B u y := by
  obtain ⟨C, C0, C1, P⟩ := h
  exact ⟨C, C0, by rw [l8, i9]; exact C1, q_iP_eq (s := s) h3 h4 h15 h16 h17 h20 h21 h22 h31 i2 i3 j2 j3 l8 P⟩
theorem q_iZ_J4 {v : Int64} (h : q_iZ B u x) : q_iZ B u (q_sJ x 0 4 v) := q_iZ_eq (s := x) rfl rfl rfl rfl rfl rfl rfl rfl rfl rfl rfl rfl rfl rfl rfl h
/-- a run's loop -/
theorem q_lpRZ (hB : 3 ≤ B ∧ B ≤ 3080) : ∀ (n f : Nat) (x m y : q_S) (c d u : Int) (v1 v3 v4 v5 r : Int32), q_R (q_TT0 v5.toInt64 F W Q) x m → q_Iv c d w m → c + n ≤ 1000000 → d + n ≤ 1000000 → v4.toInt + n = v1.toInt → 0 ≤ v5.toInt → v5.toInt ≤ v4.toInt → v1.toInt ≤ 1000 → n ≤ f → q_iZ B u x → dz_N82_64_f_14 (f + 1) x v1 0 v3 v4 v5 = some (y, r) → q_iZ B (u + n) y := by
  intro n
  induction n with
  | zero =>
    intro f x m y c d u v1 v3 v4 v5 r h hI hc hd hn h0 h5 hv hf hZ e
    rw [dzs_N82_64_f_14] at e
    dsimp only at e
    rw [q_lt_F (show v1.toInt ≤ v4.toInt by omega), cond_false] at e
    have e : some (q_sJ x 0 4 ((x.2.2 0 4) + v5.toInt64), v5) = some (y, r) := e
    cases e
    exact q_iZ_mono (Int.le_refl B) (by omega) (q_iZ_J4 hZ)
  | succ n ih =>
    intro f x m y c d u v1 v3 v4 v5 r h hI hc hd hn h0 h5 hv hf hZ e
    obtain ⟨f, rfl⟩ : ∃ f', f = f' + 1 := ⟨f - 1, by omega⟩
    obtain ⟨y1, m2, b, a1, a2, a3, a4⟩ := q_cycle h hI (by omega)
    have Z1 : q_iZ B (u + 1) y1 := q_cyP h hI (by omega) hB hZ a1
    have e4 : (v4 + 1).toInt = v4.toInt + 1 := q_addI ⟨by omega, by omega⟩ ⟨by decide, by decide⟩
    have e5 : (v5 + 1).toInt = v5.toInt + 1 := q_addI ⟨by omega, by omega⟩ ⟨by decide, by decide⟩
    have a3' : q_R (q_TT0 (cond b (v5 + 1) v5).toInt64 F W Q) y1 m2 := by
      rw [← q_l64 ⟨h0, by omega⟩ b]
      exact a3
    have hb : 0 ≤ (cond b (v5 + 1) v5).toInt ∧ (cond b (v5 + 1) v5).toInt ≤ (v4 + 1).toInt := by
      cases b with
      | true => rw [cond_true]; omega
      | false => rw [cond_false]; omega
    rw [dzs_N82_64_f_14] at e
    generalize hk : dz_N82_64_f_14 (f + 1) = k at e
    dsimp only at e
    rw [q_lt_T (show v4.toInt < v1.toInt by omega), cond_true, decide_eq_true (rfl : (0 : Int32) = 0), cond_true, q_35f, a1] at e
    have e : k y1 v1 0 v3 (v4 + 1) (cond b (v5 + 1) v5) = some (y, r) := e
    rw [← hk] at e
    exact q_iZ_mono (Int.le_refl B) (by omega) (ih f y1 m2 y (c + 1) (d + 1) (u + 1) v1 v3 (v4 + 1) (cond b (v5 + 1) v5) r a3' a4 (by omega) (by omega) (by omega) hb.1 hb.2 hv (by omega) Z1 e)
/-- a step's loop -/
theorem q_lpSZ (hB : 3 ≤ B ∧ B ≤ 3080) : ∀ (n f : Nat) (x m y : q_S) (c d u : Int) (v3 v4 v5 r : Int32), q_R (q_TT0 v5.toInt64 F W Q) x m → q_Iv c d w m → c + n ≤ 1000000 → d + n ≤ 1000000 → v4.toInt + n = 200 → 0 ≤ v5.toInt → v5.toInt ≤ v4.toInt → n ≤ f → q_iZ B u x → dz_N82_64_t_14 (f + 1) x 200 1 v3 v4 v5 = some (y, r) → q_iZ B (u + n) y := by
  intro n
  induction n with
  | zero =>
    intro f x m y c d u v3 v4 v5 r h hI hc hd hn h0 h5 hf hZ e
    rw [dzs_N82_64_t_14] at e
    dsimp only at e
    rw [q_lt_F (show (200 : Int32).toInt ≤ v4.toInt by show (200 : Int) ≤ _; omega), cond_false] at e
    have e : some (q_sJ x 0 4 ((x.2.2 0 4) + v5.toInt64), v4) = some (y, r) := e
    cases e
    exact q_iZ_mono (Int.le_refl B) (by omega) (q_iZ_J4 hZ)
  | succ n ih =>
    intro f x m y c d u v3 v4 v5 r h hI hc hd hn h0 h5 hf hZ e
    obtain ⟨f, rfl⟩ : ∃ f', f = f' + 1 := ⟨f - 1, by omega⟩
    have eD : x.2.1 23 10 = m.1 14 19 := h.r6.2.2.2.2.2.2.1
    rw [dzs_N82_64_t_14] at e
    generalize hk : dz_N82_64_t_14 (f + 1) = k at e
    dsimp only at e
    rw [q_lt_T (show v4.toInt < (200 : Int32).toInt by show _ < (200 : Int); omega), cond_true, decide_eq_false (show ¬ (1 : Int32) = 0 by decide), cond_false, eD] at e
    by_cases kD : m.1 14 19 = v3
    · obtain ⟨y1, m2, b, a1, a2, a3, a4⟩ := q_cycle h hI (by omega)
      have Z1 : q_iZ B (u + 1) y1 := q_cyP h hI (by omega) hB hZ a1
      have e4 : (v4 + 1).toInt = v4.toInt + 1 := q_addI ⟨by omega, by omega⟩ ⟨by decide, by decide⟩
      have e5 : (v5 + 1).toInt = v5.toInt + 1 := q_addI ⟨by omega, by omega⟩ ⟨by decide, by decide⟩
      have a3' : q_R (q_TT0 (cond b (v5 + 1) v5).toInt64 F W Q) y1 m2 := by
        rw [← q_l64 ⟨h0, by omega⟩ b]
        exact a3
      have hb : 0 ≤ (cond b (v5 + 1) v5).toInt ∧ (cond b (v5 + 1) v5).toInt ≤ (v4 + 1).toInt := by
        cases b with
        | true => rw [cond_true]; omega
        | false => rw [cond_false]; omega
      rw [decide_eq_true kD, cond_true, q_35t, a1] at e
      have e : k y1 200 1 v3 (v4 + 1) (cond b (v5 + 1) v5) = some (y, r) := e
      rw [← hk] at e
      exact q_iZ_mono (Int.le_refl B) (by omega) (ih f y1 m2 y (c + 1) (d + 1) (u + 1) v3 (v4 + 1) (cond b (v5 + 1) v5) r a3' a4 (by omega) (by omega) (by omega) hb.1 hb.2 (by omega) Z1 e)
    · rw [decide_eq_false kD, cond_false] at e
      have e : some (q_sJ x 0 4 ((x.2.2 0 4) + v5.toInt64), v4) = some (y, r) := e
      cases e
      exact q_iZ_mono (Int.le_refl B) (by omega) (q_iZ_J4 hZ)
theorem q_run82Z (h : q_R (q_TT0 0 F W Q) x m) (hI : q_Iv c d w m) (n : Int32) (hn : q_rgz 1 1000 n) (hc : c + 1000 ≤ 1000000) (hd : d + 1000 ≤ 1000000) (hB : 3 ≤ B ∧ B ≤ 3080) (hZ : q_iZ B u x) {r : Int32} (e : dz_N82_64_f x n = some (y, r)) : q_iZ B (u + 1000) y := by
  have n0 := hn.1
  have n1 := hn.2
  have z0 : (0 : Int32).toInt = 0 := rfl
  exact q_iZ_mono (Int.le_refl B) (by omega) (q_lpRZ (w := w) hB n.toInt.toNat 2147483649 x m y c d u n (x.2.1 23 10) 0 0 r h hI (by omega) (by omega) (by omega) (by omega) (by omega) (by omega) (by omega) hZ e)
theorem q_stp82Z (h : q_R (q_TT0 0 F W Q) x m) (hI : q_Iv c d w m) (hc : c + 1000 ≤ 1000000) (hd : d + 1000 ≤ 1000000) (hB : 3 ≤ B ∧ B ≤ 3080) (hZ : q_iZ B u x) {r : Int32} (e : dz_N82_64_t x 200 = some (y, r)) : q_iZ B (u + 1000) y := by
  have z0 : (0 : Int32).toInt = 0 := rfl
  have eD : x.2.1 23 10 = m.1 14 19 := h.r6.2.2.2.2.2.2.1
  exact q_iZ_mono (Int.le_refl B) (by omega) (q_lpSZ (w := w) hB 200 2147483649 x m y c d u (x.2.1 23 10) 0 0 r h hI (by omega) (by omega) (by omega) (by omega) (by omega) (by omega) hZ e)
end
section
variable {TT : (Nat → Int32) → Int32 → (Nat → Int32) → Int32 → Int64 → Int64 → List Int32 → List (Nat → Int32) → (Nat → Int64) → Prop} {x y z m s : q_S} {c d w u B C : Int} {t : Int64} {l r : Int32}
/-- a write of an action -/
theorem q_94Z {a v : Int32} (ha : q_rgz 0 4095 a) (hv : q_rgz 0 255 v) (hY : q_iY false u t l C s) (e : dz_N94_65 s a v = some y) : q_iY false u t l (C + 1) y := by
  obtain ⟨y2, e2, h2⟩ := dzp_N94_65 s hY a v ha hv
  rw [e] at e2
  cases e2
  exact h2
theorem q_ZofY (C0 : 0 ≤ C) (hl : 2 * C + q_crd l ≤ B + 3 * (t.toInt % 960)) (h : q_iY false u t l C y) : q_iZ B u y := ⟨C, C0, by rw [h.2.2.2, h.2.2.1]; exact hl, h.1⟩
theorem q_YofZ (h : q_R TT x m) (hI : q_Iv c d w m) (hZ : q_iZ B u x) : ∃ C, 0 ≤ C ∧ 2 * C + q_crd (x.2.1 23 9) ≤ B + 3 * ((x.2.2 1 8).toInt % 960) ∧ q_iY false u (x.2.2 1 8) (x.2.1 23 9) C x := by
  obtain ⟨C, C0, C1, P⟩ := hZ
  exact ⟨C, C0, C1, P, q_RIof h hI (fun b => by cases b), rfl, rfl⟩
theorem q_XofZ (hN : q_iN x) (hZ : q_iZ B u x) : ∃ C, 0 ≤ C ∧ 2 * C + q_crd (x.2.1 23 9) ≤ B + 3 * ((x.2.2 1 8).toInt % 960) ∧ q_iX C 0 u (x.2.2 1 8) (x.2.1 23 9) x := by
  obtain ⟨C, C0, C1, P⟩ := hZ
  exact ⟨C, C0, C1, hN, P, rfl, rfl⟩
theorem q_ZofX (C0 : 0 ≤ C) (hl : 2 * C + q_crd l ≤ B + 3 * (t.toInt % 960)) (h : q_iX C 0 u t l y) : q_iZ B u y := ⟨C, C0, by rw [h.2.2.2, h.2.2.1]; exact hl, h.2.1⟩
/-- poke -/
theorem q_zA0 {a b e0 : Int32} (h : q_R TT x m) (hI : q_Iv c d w m) (ha : q_rgz 0 4095 a) (hb : q_rgz 0 255 b) (hZ : q_iZ B u x) (e : dz_N79_64 x 0 a b e0 = some (y, r)) : q_iZ (B + 6) u y := by
  have e : ((dz_N97_65 x a b).bind fun r2 => some (r2.1, r2.2)) = some (y, r) := e
  unfold dz_N97_65 at e
  cases e1 : dz_N90_65 x a with
  | none => rw [e1] at e; cases e
  | some r1 =>
    rw [e1, Option.bind_some] at e
    cases e2 : dz_N94_65 x a b with
    | none => rw [e2] at e; cases e
    | some z =>
      rw [e2] at e
      cases e
      obtain ⟨C, C0, C1, Y⟩ := q_YofZ h hI hZ
      exact q_ZofY (C := C + 1) (by omega) (by omega) (q_94Z ha hb Y e2)
/-- pokeRom -/
theorem q_zA1 {a b e0 : Int32} (hN : q_iN x) (hZ : q_iZ B u x) (e : dz_N79_64 x 1 a b e0 = some (y, r)) : q_iZ (B + 6) u y := by
  have e : some ((dz_N98_65 x a b).1, (dz_N98_65 x a b).2) = some (y, r) := e
  cases e
  obtain ⟨C, C0, C1, Y⟩ := q_XofZ hN hZ
  exact q_ZofX C0 (by omega) (dzq_N98_65 x Y a b)
/-- pokeCartridge -/
theorem q_zA2 {a b e0 : Int32} (hN : q_iN x) (hZ : q_iZ B u x) (e : dz_N79_64 x 2 a b e0 = some (y, r)) : q_iZ (B + 6) u y := by
  have e : some ((dz_N99_65 x ((512 * a) + b) e0).1, (dz_N99_65 x ((512 * a) + b) e0).2) = some (y, r) := e
  cases e
  obtain ⟨C, C0, C1, Y⟩ := q_XofZ hN hZ
  exact q_ZofX C0 (by omega) (dzq_N99_65 x Y ((512 * a) + b) e0)
/-- assemble -/
theorem q_zA34 {v1 v3 v4 : Int32} (Y : q_iY false u t l C s) (h3 : q_rgz 0 4095 v3) (e : dz_N100_65_34 s v1 v3 v4 = some (y, r)) : ∃ C2, C ≤ C2 ∧ C2 ≤ C + 1 ∧ q_iY false u t l C2 y := by
  unfold dz_N100_65_34 at e
  cases k : decide (2 < v4) with
  | false => rw [k] at e; cases e; exact ⟨C, Int.le_refl C, by omega, Y⟩
  | true =>
    rw [k, cond_true] at e
    cases e1 : dz_N94_65 s ((v1 + 2) &&& 4095) (v3 >>> ((8 &&& 31) : Int32)) with
    | none => rw [e1] at e; cases e
    | some z =>
      rw [e1] at e
      cases e
      exact ⟨C + 1, by omega, Int.le_refl _, q_94Z (q_rg_and _ 4095 (by decide) rfl) (q_rg_sh8 (U := 255) h3 (by decide) (by decide)) Y e1⟩
theorem q_zA3 {a b e0 : Int32} (h : q_R TT x m) (hI : q_Iv c d w m) (ha : q_rgz 0 4095 a) (hb : q_rgz 0 255 b) (he : q_rgz 0 4095 e0) (hZ : q_iZ B u x) (e : dz_N79_64 x 3 a b e0 = some (y, r)) : q_iZ (B + 6) u y := by
  obtain ⟨C, C0, C1, Y⟩ := q_YofZ h hI hZ
  have e : ((dz_N100_65 x a b e0).bind fun r5 => some (r5.1, r5.2)) = some (y, r) := e
  cases e0' : dz_N100_65 x a b e0 with
  | none => rw [e0'] at e; cases e
  | some yr =>
    rw [e0'] at e
    cases e
    obtain ⟨y, r⟩ := yr
    unfold dz_N100_65 q_let at e0'
    dsimp only at e0'
    cases e1 : dz_N94_65 x a b with
    | none => rw [e1] at e0'; cases e0'
    | some z =>
      rw [e1, Option.bind_some] at e0'
      have Y1 := q_94Z ha hb Y e1
      cases k : decide (1 < dz_N190 x b) with
      | false =>
        rw [k, cond_false] at e0'
        obtain ⟨C2, g1, g2, g3⟩ := q_zA34 Y1 he e0'
        exact q_ZofY (C := C2) (by omega) (by omega) g3
      | true =>
        rw [k, cond_true] at e0'
        cases e2 : dz_N94_65 z ((a + 1) &&& 4095) (e0 &&& 255) with
        | none => rw [e2] at e0'; cases e0'
        | some z2 =>
          rw [e2, Option.bind_some] at e0'
          obtain ⟨C2, g1, g2, g3⟩ := q_zA34 (q_94Z (q_rg_and _ 4095 (by decide) rfl) (q_rg_and _ 255 (by decide) rfl) Y1 e2) he e0'
          exact q_ZofY (C := C2) (by omega) (by omega) g3
/-- setRegister -/
theorem q_zA4 {a b e0 : Int32} (hN : q_iN x) (hZ : q_iZ B u x) (e : dz_N79_64 x 4 a b e0 = some (y, r)) : q_iZ (B + 6) u y := by
  have e : some ((dz_N134_87 x a b).1, (dz_N134_87 x a b).2) = some (y, r) := e
  cases e
  obtain ⟨C, C0, C1, Y⟩ := q_XofZ hN hZ
  exact q_ZofX C0 (by omega) (dzq_N134_87 x Y a b)
/-- reset -/
theorem q_96Z (hN : q_iN x) (hP : q_iP C 0 u x) (e : dz_N96_65 x = some y) : q_iP (C + 1) 0 u y ∧ y.2.2 1 8 = x.2.2 1 8 := by
  unfold dz_N96_65 at e
  cases e1 : dz_N113_66 x with
  | none => rw [e1] at e; cases e
  | some r2 =>
    rw [e1, Option.bind_some] at e
    have P := q_iP_clr (d := 0) ⟨by decide, by decide⟩ e1 hP
    have t2 : r2.2.2 1 8 = x.2.2 1 8 := by rw [(q_113_66 e1).1]
    cases k : q_evb r2 with
    | true =>
      rw [show decide (lg_cmp (((r2.2.2 1 8) / 960) - ((r2.2.2 1 8) / 960) / 2 * 2) 0 = 0) = true from k, cond_true] at e
      rw [k, cond_true] at P
      unfold q_let at e
      dsimp only at e
      rw [q_N318b, Option.bind_some] at e
      cases e
      exact ⟨q_iP_eq (s := dz_N128_77 r2 4096 0) rfl rfl rfl rfl rfl rfl rfl rfl rfl rfl rfl rfl rfl rfl P, (q_k977 r2 4096 0).1.trans t2⟩
    | false =>
      rw [show decide (lg_cmp (((r2.2.2 1 8) / 960) - ((r2.2.2 1 8) / 960) / 2 * 2) 0 = 0) = false from k, cond_false] at e
      rw [k, cond_false] at P
      unfold q_let at e
      dsimp only at e
      rw [q_N318b, Option.bind_some] at e
      cases e
      exact ⟨q_iP_eq (s := dz_N128_82 r2 4096 0) rfl rfl rfl rfl rfl rfl rfl rfl rfl rfl rfl rfl rfl rfl P, (q_k982 r2 4096 0).1.trans t2⟩
theorem q_135Z (e : dz_N135_87_65 x = some y) (hP : q_iP C 0 u x) : q_iP C 0 u y ∧ y.2.2 1 8 = x.2.2 1 8 ∧ y.2.1 23 9 = 0 := by
  unfold dz_N135_87_65 at e
  cases e1 : dz_N92_65 (q_sI (q_sI (q_sI (q_sI (q_sI (q_sI (q_sI (q_sI x 23 0 0) 23 1 0) 23 2 0) 23 3 255) 23 5 4) 23 6 0) 23 7 0) 23 9 0) 3836 with
  | none => rw [e1] at e; cases e
  | some v =>
    rw [e1] at e
    cases e
    exact ⟨q_iP_eq (s := x) rfl rfl rfl rfl rfl rfl rfl rfl rfl rfl rfl rfl rfl rfl hP, rfl, rfl⟩
theorem q_zA5 {a b e0 : Int32} (hN : q_iN x) (hZ : q_iZ B u x) (e : dz_N79_64 x 5 a b e0 = some (y, r)) : q_iZ (B + 6) u y := by
  obtain ⟨C, C0, C1, P⟩ := hZ
  have e : ((dz_N80_64 x).bind fun r7 => some (r7.1, r7.2)) = some (y, r) := e
  unfold dz_N80_64 at e
  cases e1 : dz_N96_65 x with
  | none => rw [e1] at e; cases e
  | some z =>
    rw [e1, Option.bind_some] at e
    obtain ⟨P1, t1⟩ := q_96Z hN P e1
    cases e2 : dz_N135_87_65 z with
    | none => rw [e2] at e; cases e
    | some z2 =>
      rw [e2] at e
      cases e
      obtain ⟨P2, t2, l2⟩ := q_135Z e2 P1
      have l0 := (q_cr3 (x.2.1 23 9)).1
      refine ⟨C + 1, by omega, ?_, P2⟩
      rw [t2, t1, l2]
      have q0 : q_crd 0 = 0 := rfl
      omega
/-- freeze -/
theorem q_zA6 {a b e0 : Int32} (h : q_R TT x m) (hI : q_Iv c d w m) (hZ : q_iZ B u x) (e : dz_N79_64 x 6 a b e0 = some (y, r)) : q_iZ (B + 6) u y := by
  obtain ⟨C, C0, C1, Y⟩ := q_YofZ h hI hZ
  have e : ((dz_N81_64 x).bind fun r8 => some (r8.1, r8.2)) = some (y, r) := e
  unfold dz_N81_64 at e
  cases e1 : dz_N94_65 x 3840 (((x.1 4) 0) ||| 14) with
  | none => rw [e1] at e; cases e
  | some z =>
    rw [e1] at e
    cases e
    have r0 := q_ri40 Y
    have r00 := r0.1
    have r01 := r0.2
    obtain ⟨o1, o2⟩ := q_or14 (x.1 4 0).toInt.toNat (by omega)
    rw [q_ofn r0] at o2
    have Z := q_ZofY (C := C + 1) (B := B + 6) (by omega) (by omega) (q_94Z ⟨by decide, by decide⟩ o2 Y e1)
    exact q_iZ_eq (s := z) rfl rfl rfl rfl rfl rfl rfl rfl rfl rfl rfl rfl rfl rfl rfl Z
/-- key -/
theorem q_zA9 {a b e0 : Int32} (hN : q_iN x) (hZ : q_iZ B u x) (e : dz_N79_64 x 9 a b e0 = some (y, r)) : q_iZ (B + 6) u y := by
  obtain ⟨C, C0, C1, Y⟩ := q_XofZ hN hZ
  have e : ((dz_N181_74 x a b e0).bind fun r11 => some (r11.1, r11.2)) = some (y, r) := e
  obtain ⟨v, e1, h1⟩ := dzq_N181_74 x Y a b e0
  rw [e1] at e
  cases e
  exact q_ZofX C0 (by omega) h1
/-- joystick -/
theorem q_zA10 {a b e0 : Int32} (hN : q_iN x) (hZ : q_iZ B u x) (e : dz_N79_64 x 10 a b e0 = some (y, r)) : q_iZ (B + 6) u y := by
  have e : some ((dz_N180_74 x a).1, (dz_N180_74 x a).2) = some (y, r) := e
  cases e
  obtain ⟨C, C0, C1, Y⟩ := q_XofZ hN hZ
  exact q_ZofX C0 (by omega) (dzq_N180_74 x Y a)
/-- addPulse -/
theorem q_zA11 {a b e0 : Int32} (hN : q_iN x) (hZ : q_iZ B u x) (e : dz_N79_64 x 11 a b e0 = some (y, r)) : q_iZ (B + 6) u y := by
  have e : some ((dz_N175_72 x a).1, (dz_N175_72 x a).2) = some (y, r) := e
  cases e
  obtain ⟨C, C0, C1, Y⟩ := q_XofZ hN hZ
  exact q_ZofX C0 (by omega) (dzq_N175_72 x Y a)
/-- rewind -/
theorem q_zA12 {a b e0 : Int32} (hN : q_iN x) (hZ : q_iZ B u x) (e : dz_N79_64 x 12 a b e0 = some (y, r)) : q_iZ (B + 6) u y := by
  have e : some ((dz_N176_72 x).1, (dz_N176_72 x).2) = some (y, r) := e
  cases e
  obtain ⟨C, C0, C1, Y⟩ := q_XofZ hN hZ
  exact q_ZofX C0 (by omega) (dzq_N176_72 x Y)
end
end
section
-- 57.ph
section
variable {x y z m s : q_S} {c d w : Int} {k : Nat} {r0 : q_S × Int32 × Nat}
/-- what the frames of the class' machine and of its snapshots tell, k turns having gone by -/
def q_PZ (k : Nat) (x : q_S) : Prop := q_iZ (3 + 6 * k) (1000 * k) (q_vw 32 1 73 x) ∧ q_iZ (3 + 6 * k) (1000 * k) (q_vw 32 76 1 x) ∧ q_iZ (3 + 6 * k) (1000 * k) (q_vw 32 108 1 x) ∧ q_iZ (3 + 6 * k) (1000 * k) (q_vw 32 140 1 x)
theorem q_iZ1 (h : q_iZ (3 + 6 * k) (1000 * k) s) : q_iZ (3 + 6 * (k + 1 : Nat)) (1000 * (k + 1 : Nat)) s := q_iZ_mono (by omega) (by omega) h
theorem q_PZ1 (h : q_PZ k x) : q_PZ (k + 1) x := ⟨q_iZ1 h.1, q_iZ1 h.2.1, q_iZ1 h.2.2.1, q_iZ1 h.2.2.2⟩
theorem q_PZL {g : Nat → Int64} (h : q_PZ k x) : q_PZ k (q_sL x 172 g) := ⟨q_iZ_eq (s := q_vw 32 1 73 x) rfl rfl rfl rfl rfl rfl rfl rfl rfl rfl rfl rfl rfl rfl rfl h.1, q_iZ_eq (s := q_vw 32 76 1 x) rfl rfl rfl rfl rfl rfl rfl rfl rfl rfl rfl rfl rfl rfl rfl h.2.1, q_iZ_eq (s := q_vw 32 108 1 x) rfl rfl rfl rfl rfl rfl rfl rfl rfl rfl rfl rfl rfl rfl rfl h.2.2.1, q_iZ_eq (s := q_vw 32 140 1 x) rfl rfl rfl rfl rfl rfl rfl rfl rfl rfl rfl rfl rfl rfl rfl h.2.2.2⟩
theorem q_PZV {S : q_S} (h : q_PZ k y) : q_PZ k (q_vw 172 0 206 (q_pt 34 0 172 0 (q_pt 172 1 0 206 S y) m)) := ⟨q_iZ_eq (s := q_vw 32 1 73 y) rfl rfl rfl rfl rfl rfl rfl rfl rfl rfl rfl rfl rfl rfl rfl h.1, q_iZ_eq (s := q_vw 32 76 1 y) rfl rfl rfl rfl rfl rfl rfl rfl rfl rfl rfl rfl rfl rfl rfl h.2.1, q_iZ_eq (s := q_vw 32 108 1 y) rfl rfl rfl rfl rfl rfl rfl rfl rfl rfl rfl rfl rfl rfl rfl h.2.2.1, q_iZ_eq (s := q_vw 32 140 1 y) rfl rfl rfl rfl rfl rfl rfl rfl rfl rfl rfl rfl rfl rfl rfl h.2.2.2⟩
theorem q_PZR0 {S : q_S} (h : q_PZ k (q_vw 172 0 206 S)) : q_PZ k (q_vw 172 0 206 (q_pt 34 0 172 0 S m)) := ⟨q_iZ_eq (s := q_vw 32 1 73 (q_vw 172 0 206 S)) rfl rfl rfl rfl rfl rfl rfl rfl rfl rfl rfl rfl rfl rfl rfl h.1, q_iZ_eq (s := q_vw 32 76 1 (q_vw 172 0 206 S)) rfl rfl rfl rfl rfl rfl rfl rfl rfl rfl rfl rfl rfl rfl rfl h.2.1, q_iZ_eq (s := q_vw 32 108 1 (q_vw 172 0 206 S)) rfl rfl rfl rfl rfl rfl rfl rfl rfl rfl rfl rfl rfl rfl rfl h.2.2.1, q_iZ_eq (s := q_vw 32 140 1 (q_vw 172 0 206 S)) rfl rfl rfl rfl rfl rfl rfl rfl rfl rfl rfl rfl rfl rfl rfl h.2.2.2⟩
theorem q_PZR {S : q_S} (h : q_PZ k (q_vw 172 0 206 S)) : q_PZ (k + 1) (q_vw 172 0 206 (q_pt 34 0 172 0 S m)) := q_PZ1 (q_PZR0 h)
theorem q_PZrec (h : q_PZ k x) : q_PZ k (q_pt 32 3 35 73 x y) := ⟨q_iZ_eq (s := q_vw 32 1 73 x) rfl rfl rfl rfl rfl rfl rfl rfl rfl rfl rfl rfl rfl rfl rfl h.1, q_iZ_eq (s := q_vw 32 76 1 x) rfl rfl rfl rfl rfl rfl rfl rfl rfl rfl rfl rfl rfl rfl rfl h.2.1, q_iZ_eq (s := q_vw 32 108 1 x) rfl rfl rfl rfl rfl rfl rfl rfl rfl rfl rfl rfl rfl rfl rfl h.2.2.1, q_iZ_eq (s := q_vw 32 140 1 x) rfl rfl rfl rfl rfl rfl rfl rfl rfl rfl rfl rfl rfl rfl rfl h.2.2.2⟩
theorem q_PZ6 {v : Int32} (h : q_PZ k x) : q_PZ k (q_sI x 34 6 v) := ⟨q_iZ_eq (s := q_vw 32 1 73 x) rfl rfl rfl rfl rfl rfl rfl rfl rfl rfl rfl rfl rfl rfl rfl h.1, q_iZ_eq (s := q_vw 32 76 1 x) rfl rfl rfl rfl rfl rfl rfl rfl rfl rfl rfl rfl rfl rfl rfl h.2.1, q_iZ_eq (s := q_vw 32 108 1 x) rfl rfl rfl rfl rfl rfl rfl rfl rfl rfl rfl rfl rfl rfl rfl h.2.2.1, q_iZ_eq (s := q_vw 32 140 1 x) rfl rfl rfl rfl rfl rfl rfl rfl rfl rfl rfl rfl rfl rfl rfl h.2.2.2⟩
theorem q_PZw (h : q_PZ k x) : q_PZ k (q_pt 2 0 71 0 x y) := ⟨q_iZ_eq (s := q_vw 32 1 73 x) rfl rfl rfl rfl rfl rfl rfl rfl rfl rfl rfl rfl rfl rfl rfl h.1, q_iZ_eq (s := q_vw 32 76 1 x) rfl rfl rfl rfl rfl rfl rfl rfl rfl rfl rfl rfl rfl rfl rfl h.2.1, q_iZ_eq (s := q_vw 32 108 1 x) rfl rfl rfl rfl rfl rfl rfl rfl rfl rfl rfl rfl rfl rfl rfl h.2.2.1, q_iZ_eq (s := q_vw 32 140 1 x) rfl rfl rfl rfl rfl rfl rfl rfl rfl rfl rfl rfl rfl rfl rfl h.2.2.2⟩
/-- what is kept of an action changes no machine -/
theorem q_PZkp {j : Int} (hk : q_RK j x m) (hj : j < 512) (a1 a2 a3 a4 : Int32) (h : q_PZ k x) : q_PZ k (dz_X184_98 x a1 a2 a3 a4) := by
  rcases q_keep hk hj a1 a2 a3 a4 with ⟨e0, -⟩ | ⟨e0, -⟩
  · rw [e0]; exact h
  · rw [e0]
    exact ⟨q_iZ_eq (s := q_vw 32 1 73 x) rfl rfl rfl rfl rfl rfl rfl rfl rfl rfl rfl rfl rfl rfl rfl h.1, q_iZ_eq (s := q_vw 32 76 1 x) rfl rfl rfl rfl rfl rfl rfl rfl rfl rfl rfl rfl rfl rfl rfl h.2.1, q_iZ_eq (s := q_vw 32 108 1 x) rfl rfl rfl rfl rfl rfl rfl rfl rfl rfl rfl rfl rfl rfl rfl h.2.2.1, q_iZ_eq (s := q_vw 32 140 1 x) rfl rfl rfl rfl rfl rfl rfl rfl rfl rfl rfl rfl rfl rfl rfl h.2.2.2⟩
/-- an action's end -/
theorem q_PZact {g : Nat → Int64} (hy : q_iZ (3 + 6 * (k + 1 : Nat)) (1000 * (k + 1 : Nat)) y) (h : q_PZ k x) : q_PZ (k + 1) (q_sL (q_pt 32 3 1 73 x y) 172 g) := ⟨q_iZ_eq (s := y) rfl rfl rfl rfl rfl rfl rfl rfl rfl rfl rfl rfl rfl rfl rfl hy, q_iZ_eq (s := q_vw 32 76 1 x) rfl rfl rfl rfl rfl rfl rfl rfl rfl rfl rfl rfl rfl rfl rfl (q_iZ1 h.2.1), q_iZ_eq (s := q_vw 32 108 1 x) rfl rfl rfl rfl rfl rfl rfl rfl rfl rfl rfl rfl rfl rfl rfl (q_iZ1 h.2.2.1), q_iZ_eq (s := q_vw 32 140 1 x) rfl rfl rfl rfl rfl rfl rfl rfl rfl rfl rfl rfl rfl rfl rfl (q_iZ1 h.2.2.2)⟩
theorem q_PZac2 (hy : q_iZ (3 + 6 * (k + 1 : Nat)) (1000 * (k + 1 : Nat)) y) (h : q_PZ k x) : q_PZ (k + 1) (q_pt 32 3 1 73 x y) := ⟨q_iZ_eq (s := y) rfl rfl rfl rfl rfl rfl rfl rfl rfl rfl rfl rfl rfl rfl rfl hy, q_iZ_eq (s := q_vw 32 76 1 x) rfl rfl rfl rfl rfl rfl rfl rfl rfl rfl rfl rfl rfl rfl rfl (q_iZ1 h.2.1), q_iZ_eq (s := q_vw 32 108 1 x) rfl rfl rfl rfl rfl rfl rfl rfl rfl rfl rfl rfl rfl rfl rfl (q_iZ1 h.2.2.1), q_iZ_eq (s := q_vw 32 140 1 x) rfl rfl rfl rfl rfl rfl rfl rfl rfl rfl rfl rfl rfl rfl rfl (q_iZ1 h.2.2.2)⟩
theorem q_rd1 {p : Prop} {hp : Decidable p} {c : Int32} {n : Nat} {o : Option (q_S × Int32 × Nat)} (e : cond (decide p) (some (x, c, n)) o = some r0) : r0.1 = x ∨ ¬ p ∧ o = some r0 := by
  cases q : decide p with
  | true => rw [q] at e; cases e; exact Or.inl rfl
  | false => rw [q] at e; exact Or.inr ⟨of_decide_eq_false q, e⟩
theorem q_rd2 {p : Prop} {hp : Decidable p} {c : Int32} {n : Nat} {o : Option (q_S × Int32 × Nat)} (e : cond (decide p) o (some (x, c, n)) = some r0) : r0.1 = x ∨ p ∧ o = some r0 := by
  cases q : decide p with
  | true => rw [q] at e; exact Or.inr ⟨of_decide_eq_true q, e⟩
  | false => rw [q] at e; cases e; exact Or.inl rfl
theorem q_rd3 {b : Bool} {o p : Option (q_S × Int32 × Nat)} (e : cond b o p = some r0) : o = some r0 ∨ p = some r0 := by
  cases b with
  | true => exact Or.inl e
  | false => exact Or.inr e
theorem q_rg2 {a : Int32} {l v : Int32} (h1 : ¬ a < l) (h2 : ¬ v < a) : q_rgz l.toInt v.toInt a := ⟨Int.not_lt.mp fun q => h1 (Int32.lt_iff_toInt_lt.mpr q), Int.not_lt.mp fun q => h2 (Int32.lt_iff_toInt_lt.mpr q)⟩
theorem q_rg3 {a : Int32} {l v : Int32} {u : Int} (h1 : ¬ a < l) (h2 : a < v) (hu : v.toInt = u + 1) : q_rgz l.toInt u a := ⟨Int.not_lt.mp fun q => h1 (Int32.lt_iff_toInt_lt.mpr q), by have := Int32.lt_iff_toInt_lt.mp h2; omega⟩
theorem q_zpE (hp : q_PZ k x) (e : r0.1 = x) : q_PZ (k + 1) r0.1 := by rw [e]; exact q_PZ1 hp
theorem q_zpR {T : Type} {o : Option T} {f : T → Nat → Int64} {a : Int32} {b : Nat} (hp : q_PZ k x) (e : (o.bind fun r => some (q_sL x 172 (f r), a, b)) = some r0) : q_PZ (k + 1) r0.1 := by
  cases o with
  | none => cases e
  | some r => cases e; exact q_PZ1 (q_PZL hp)
/-- an action -/
theorem q_zpA {a1 a2 a3 a4 : Int32} {f : q_S × Int32 → Nat → Int64} {p : Int32} {n : Nat} (h : q_LX (k : Int) m x) (hk : k < 512) (hp : q_PZ k x) (hact : ∀ V y r, q_RO m V m → q_iZ (3 + 6 * k) (1000 * k) V → dz_N79_64 V a1 a2 a3 a4 = some (y, r) → q_iZ (3 + 6 * (k + 1 : Nat)) (1000 * (k + 1 : Nat)) y) (e : ((dz_N79_64 (q_vw 32 1 73 (dz_X184_98 x a1 a2 a3 a4)) a1 a2 a3 a4).bind fun r3 => some ((q_sL (q_pt 32 3 1 73 (dz_X184_98 x a1 a2 a3 a4) r3.1) 172 (f r3)), p, n)) = some r0) : q_PZ (k + 1) r0.1 := by
  have hp2 := q_PZkp h.2.2.2.2.2.2.1 (by omega) a1 a2 a3 a4 hp
  cases e1 : dz_N79_64 (q_vw 32 1 73 (dz_X184_98 x a1 a2 a3 a4)) a1 a2 a3 a4 with
  | none => rw [e1] at e; cases e
  | some w =>
    obtain ⟨y, r⟩ := w
    rw [e1] at e
    cases e
    exact q_PZact (hact _ y r (q_ROkp h.1 a1 a2 a3 a4) hp2.1 e1) hp2
theorem q_zpA2 {a1 a2 a3 a4 : Int32} {g : q_S × Int32} (h : q_LX (k : Int) m x) (hk : k < 512) (hp : q_PZ k x) (hact : ∀ V y r, q_RO m V m → q_iZ (3 + 6 * k) (1000 * k) V → dz_N79_64 V a1 a2 a3 a4 = some (y, r) → q_iZ (3 + 6 * (k + 1 : Nat)) (1000 * (k + 1 : Nat)) y) (e : ((dz_N79_64 (q_vw 32 1 73 (dz_X184_98 x a1 a2 a3 a4)) a1 a2 a3 a4).bind fun r4 => some ((q_pt 32 3 1 73 (dz_X184_98 x a1 a2 a3 a4) r4.1), r4.2)) = some g) : q_PZ (k + 1) g.1 := by
  have hp2 := q_PZkp h.2.2.2.2.2.2.1 (by omega) a1 a2 a3 a4 hp
  cases e1 : dz_N79_64 (q_vw 32 1 73 (dz_X184_98 x a1 a2 a3 a4)) a1 a2 a3 a4 with
  | none => rw [e1] at e; cases e
  | some w =>
    obtain ⟨y, r⟩ := w
    rw [e1] at e
    cases e
    exact q_PZac2 (hact _ y r (q_ROkp h.1 a1 a2 a3 a4) hp2.1 e1) hp2
theorem q_zpK {a1 a2 a3 a4 : Int32} {f g : q_S × Int32 → Nat → Int64} (h : q_LX (k : Int) m x) (hk : k < 512) (hp : q_PZ k x) (hact : ∀ V y r, q_RO m V m → q_iZ (3 + 6 * k) (1000 * k) V → dz_N79_64 V a1 a2 a3 a4 = some (y, r) → q_iZ (3 + 6 * (k + 1 : Nat)) (1000 * (k + 1 : Nat)) y) (e : ((dz_N79_64 (q_vw 32 1 73 (dz_X184_98 x a1 a2 a3 a4)) a1 a2 a3 a4).bind fun r3 => cond (decide (r3.2 = 1)) (some ((q_sL (q_pt 32 3 1 73 (dz_X184_98 x a1 a2 a3 a4) r3.1) 172 (f r3)), 0, 0)) (some ((q_sL (q_pt 32 3 1 73 (dz_X184_98 x a1 a2 a3 a4) r3.1) 172 (g r3)), 0, 0))) = some r0) : q_PZ (k + 1) r0.1 := by
  have hp2 := q_PZkp h.2.2.2.2.2.2.1 (by omega) a1 a2 a3 a4 hp
  cases e1 : dz_N79_64 (q_vw 32 1 73 (dz_X184_98 x a1 a2 a3 a4)) a1 a2 a3 a4 with
  | none => rw [e1] at e; cases e
  | some w =>
    obtain ⟨y, r⟩ := w
    rw [e1, Option.bind_some] at e
    rcases q_rd3 e with e | e
    · cases e
      exact q_PZact (hact _ y r (q_ROkp h.1 a1 a2 a3 a4) hp2.1 e1) hp2
    · cases e
      exact q_PZact (hact _ y r (q_ROkp h.1 a1 a2 a3 a4) hp2.1 e1) hp2
theorem q_up6 {V : q_S} (h : q_iZ (3 + 6 * k + 6) (1000 * k) V) : q_iZ (3 + 6 * (k + 1 : Nat)) (1000 * (k + 1 : Nat)) V := q_iZ_mono (by omega) (by omega) h
theorem q_up0 {V : q_S} (h : q_iZ (3 + 6 * k) (1000 * k + 1000) V) : q_iZ (3 + 6 * (k + 1 : Nat)) (1000 * (k + 1 : Nat)) V := q_iZ_mono (by omega) (by omega) h
theorem q_zp0 (h : q_LX (k : Int) m x) (hI : q_Iv c d w m) (hk : k < 512) (hp : q_PZ k x) (a b : Int32) (e : dz_X0_64_236 x a b = some r0) : q_PZ (k + 1) r0.1 := by
  unfold dz_X0_64_236 at e
  unfold q_let at e
  dsimp only at e
  rcases q_rd1 e with e | ⟨c0, e⟩
  · exact q_zpE hp e
  rcases q_rd2 e with e | ⟨c1, e⟩
  · exact q_zpE hp e
  rcases q_rd1 e with e | ⟨c2, e⟩
  · exact q_zpE hp e
  rcases q_rd1 e with e | ⟨c3, e⟩
  · exact q_zpE hp e
  exact q_zpA h hk hp (fun V y r hR hZ e9 => q_up6 (q_zA0 hR hI (q_rg3 c0 c1 rfl) (q_rg2 c2 c3) hZ e9)) e
theorem q_zp1 (h : q_LX (k : Int) m x) (hI : q_Iv c d w m) (hk : k < 512) (hp : q_PZ k x) (a b : Int32) (e : dz_X1_64_236 x a b = some r0) : q_PZ (k + 1) r0.1 := by
  unfold dz_X1_64_236 at e
  unfold q_let at e
  dsimp only at e
  rcases q_rd1 e with e | ⟨c0, e⟩
  · exact q_zpE hp e
  rcases q_rd2 e with e | ⟨c1, e⟩
  · exact q_zpE hp e
  rcases q_rd1 e with e | ⟨c2, e⟩
  · exact q_zpE hp e
  rcases q_rd1 e with e | ⟨c3, e⟩
  · exact q_zpE hp e
  exact q_zpA h hk hp (fun V y r hR hZ e9 => q_up6 (q_zA1 (q_iNof hR (hI.1 15 6) (hI.1 15 7)) hZ e9)) e
theorem q_zp2 (h : q_LX (k : Int) m x) (hI : q_Iv c d w m) (hk : k < 512) (hp : q_PZ k x) (a b e0 : Int32) (e : dz_X2_64_236 x a b e0 = some r0) : q_PZ (k + 1) r0.1 := by
  unfold dz_X2_64_236 at e
  unfold q_let at e
  dsimp only at e
  rcases q_rd1 e with e | ⟨c0, e⟩
  · exact q_zpE hp e
  rcases q_rd2 e with e | ⟨c1, e⟩
  · exact q_zpE hp e
  rcases q_rd1 e with e | ⟨c2, e⟩
  · exact q_zpE hp e
  rcases q_rd2 e with e | ⟨c3, e⟩
  · exact q_zpE hp e
  rcases q_rd1 e with e | ⟨c4, e⟩
  · exact q_zpE hp e
  rcases q_rd1 e with e | ⟨c5, e⟩
  · exact q_zpE hp e
  exact q_zpA h hk hp (fun V y r hR hZ e9 => q_up6 (q_zA2 (q_iNof hR (hI.1 15 6) (hI.1 15 7)) hZ e9)) e
theorem q_zp3 (h : q_LX (k : Int) m x) (hI : q_Iv c d w m) (hk : k < 512) (hp : q_PZ k x) (a : Int32) (e : dz_X3_64_236 x a = some r0) : q_PZ (k + 1) r0.1 := by
  unfold dz_X3_64_236 at e
  rcases q_rd1 e with e | ⟨c0, e⟩
  · exact q_zpE hp e
  rcases q_rd2 e with e | ⟨c1, e⟩
  · exact q_zpE hp e
  exact q_zpR hp e
theorem q_zp4 (h : q_LX (k : Int) m x) (hI : q_Iv c d w m) (hk : k < 512) (hp : q_PZ k x) (a : Int32) (e : some (dz_X4_64_236 x a) = some r0) : q_PZ (k + 1) r0.1 := by
  have e := Option.some.inj e
  rw [← e]
  unfold dz_X4_64_236
  cases decide (a < 0) <;> cases decide (a < 4096) <;> first | exact q_PZ1 hp | exact q_PZ1 (q_PZL hp)
theorem q_zp5 (h : q_LX (k : Int) m x) (hI : q_Iv c d w m) (hk : k < 512) (hp : q_PZ k x) (a b e0 : Int32) (e : dz_X5_64_236 x a b e0 = some r0) : q_PZ (k + 1) r0.1 := by
  unfold dz_X5_64_236 q_let at e
  dsimp only at e
  rcases q_rd1 e with e | ⟨c0, e⟩
  · exact q_zpE hp e
  rcases q_rd2 e with e | ⟨c1, e⟩
  · exact q_zpE hp e
  rcases q_rd1 e with e | ⟨c2, e⟩
  · exact q_zpE hp e
  rcases q_rd1 e with e | ⟨c3, e⟩
  · exact q_zpE hp e
  rcases q_rd1 e with e | ⟨c4, e⟩
  · exact q_zpE hp e
  rcases q_rd1 e with e | ⟨c5, e⟩
  · exact q_zpE hp e
  rcases q_rd3 e with e | e
  · rcases q_rd1 e with e | ⟨-, e⟩
    · exact q_zpE hp e
    exact q_zpA h hk hp (fun V y r hR hZ e9 => q_up6 (q_zA3 hR hI (q_rg3 c0 c1 rfl) (q_rg2 c2 c3) (q_rg2 c4 c5) hZ e9)) e
  · exact q_zpA h hk hp (fun V y r hR hZ e9 => q_up6 (q_zA3 hR hI (q_rg3 c0 c1 rfl) (q_rg2 c2 c3) (q_rg2 c4 c5) hZ e9)) e
theorem q_zp6 (h : q_LX (k : Int) m x) (hI : q_Iv c d w m) (hk : k < 512) (hp : q_PZ k x) (a : Int32) (e : dz_X6_64_236 x a = some r0) : q_PZ (k + 1) r0.1 := by
  have z0 : (0 : Int32).toInt = 0 := rfl
  have z4096 : (4096 : Int32).toInt = 4096 := rfl
  by_cases l : a.toInt < 0
  · unfold dz_X6_64_236 at e
    rw [q_lt_T (show a.toInt < (0 : Int32).toInt by omega)] at e
    cases e; exact q_PZ1 hp
  by_cases u : 4095 < a.toInt
  · unfold dz_X6_64_236 at e
    rw [q_lt_F (show (0 : Int32).toInt ≤ a.toInt by omega), q_lt_F (show (4096 : Int32).toInt ≤ a.toInt by omega)] at e
    cases e; exact q_PZ1 hp
  obtain ⟨r, z2, n2, e1, -⟩ := q_wlin (q_RO_s (q_ROk h.1)) (q_Ivk hI) h.2.2.2.2.2.2.2.1.1 a ⟨by omega, by omega⟩
  unfold dz_X6_64_236 at e
  rw [q_lt_F (show (0 : Int32).toInt ≤ a.toInt by omega), q_lt_T (show a.toInt < (4096 : Int32).toInt by omega), q_lx_eq, e1] at e
  cases e
  exact q_PZ1 (q_PZL (q_PZw hp))
theorem q_zp7 (h : q_LX (k : Int) m x) (hI : q_Iv c d w m) (hk : k < 512) (hp : q_PZ k x) (a : Int32) (e : dz_X7_64_236 x a = some r0) : q_PZ (k + 1) r0.1 := by
  unfold dz_X7_64_236 q_let at e
  dsimp only at e
  rcases q_rd1 e with e | ⟨-, e⟩
  · exact q_zpE hp e
  rcases q_rd2 e with e | ⟨-, e⟩
  · exact q_zpE hp e
  cases e1 : dz_B327_64 (q_vw 2 71 0 x) a with
  | none => rw [e1] at e; cases e
  | some v =>
    rw [e1, Option.bind_some] at e
    cases e2 : decide (vp_nar .char v = v) with
    | true => rw [e2] at e; cases e; exact q_PZ1 (q_PZL hp)
    | false => rw [e2] at e; cases e
theorem q_zp8 (h : q_LX (k : Int) m x) (hI : q_Iv c d w m) (hk : k < 512) (hp : q_PZ k x) (a b e0 : Int32) (e : dz_X8_64_236 x a b e0 = some r0) : q_PZ (k + 1) r0.1 := by
  unfold dz_X8_64_236 at e
  rcases q_rd1 e with e | ⟨c0, e⟩
  · exact q_zpE hp e
  rcases q_rd2 e with e | ⟨c1, e⟩
  · exact q_zpE hp e
  rcases q_rd1 e with e | ⟨c2, e⟩
  · exact q_zpE hp e
  rcases q_rd2 e with e | ⟨c3, e⟩
  · exact q_zpE hp e
  rcases q_rd1 e with e | ⟨c4, e⟩
  · exact q_zpE hp e
  rcases q_rd1 e with e | ⟨c5, e⟩
  · exact q_zpE hp e
  exact q_zpR hp e
theorem q_zp9 (h : q_LX (k : Int) m x) (hI : q_Iv c d w m) (hk : k < 512) (hp : q_PZ k x) (a : Int32) (e : some (dz_X9_64_236 x a) = some r0) : q_PZ (k + 1) r0.1 := by
  have e := Option.some.inj e
  rw [← e]
  unfold dz_X9_64_236 q_let
  cases decide (a < 0) <;> cases decide (a < 5) <;> first | exact q_PZ1 hp | exact q_PZ1 (q_PZL hp)
theorem q_zp10 (h : q_LX (k : Int) m x) (hI : q_Iv c d w m) (hk : k < 512) (hp : q_PZ k x) (a b : Int32) (e : dz_X10_64_236 x a b = some r0) : q_PZ (k + 1) r0.1 := by
  unfold dz_X10_64_236 q_let at e
  dsimp only at e
  rcases q_rd1 e with e | ⟨-, e⟩
  · exact q_zpE hp e
  rcases q_rd2 e with e | ⟨-, e⟩
  · exact q_zpE hp e
  rcases q_rd3 e with e | e
  · rcases q_rd1 e with e | ⟨-, e⟩
    · exact q_zpE hp e
    rcases q_rd1 e with e | ⟨-, e⟩
    · exact q_zpE hp e
    rcases q_rd1 e with e | ⟨-, e⟩
    · exact q_zpE hp e
    exact q_zpA h hk hp (fun V y r hR hZ e9 => q_up6 (q_zA4 (q_iNof hR (hI.1 15 6) (hI.1 15 7)) hZ e9)) e
  · rcases q_rd1 e with e | ⟨-, e⟩
    · exact q_zpE hp e
    rcases q_rd1 e with e | ⟨-, e⟩
    · exact q_zpE hp e
    rcases q_rd1 e with e | ⟨-, e⟩
    · exact q_zpE hp e
    exact q_zpA h hk hp (fun V y r hR hZ e9 => q_up6 (q_zA4 (q_iNof hR (hI.1 15 6) (hI.1 15 7)) hZ e9)) e
theorem q_zp14 (h : q_LX (k : Int) m x) (hI : q_Iv c d w m) (hk : k < 512) (hp : q_PZ k x) (hc : c + 1000 ≤ 1000000) (hd : d + 1000 ≤ 1000000) (a : Int32) (e : dz_X11_64_236 x a = some r0) : q_PZ (k + 1) r0.1 := by
  unfold dz_X11_64_236 at e
  unfold q_let at e
  dsimp only at e
  rcases q_rd1 e with e | ⟨c0, e⟩
  · exact q_zpE hp e
  rcases q_rd1 e with e | ⟨c1, e⟩
  · exact q_zpE hp e
  exact q_zpA h hk hp (fun V y r hR hZ e9 => q_up0 (by
    have e9 : ((dz_N82_64_f V a).bind fun r9 => some (r9.1, r9.2)) = some (y, r) := e9
    cases e8 : dz_N82_64_f V a with
    | none => rw [e8] at e9; cases e9
    | some w =>
      obtain ⟨y2, r2⟩ := w
      rw [e8] at e9
      cases e9
      exact q_run82Z hR hI a (q_rg2 c0 c1) hc hd ⟨by omega, by omega⟩ hZ e8)) e
theorem q_zp15 (h : q_LX (k : Int) m x) (hI : q_Iv c d w m) (hk : k < 512) (hp : q_PZ k x) (hc : c + 1000 ≤ 1000000) (hd : d + 1000 ≤ 1000000) (e : dz_X12_64_236 x = some r0) : q_PZ (k + 1) r0.1 := by
  unfold dz_X12_64_236 at e
  unfold q_let at e
  dsimp only at e
  rcases q_rd2 e with e | ⟨c0, e⟩
  · exact q_zpE hp e
  exact q_zpA h hk hp (fun V y r hR hZ e9 => q_up0 (by
    have e9 : ((dz_N82_64_t V 200).bind fun r10 => some (r10.1, r10.2)) = some (y, r) := e9
    cases e8 : dz_N82_64_t V 200 with
    | none => rw [e8] at e9; cases e9
    | some w =>
      obtain ⟨y2, r2⟩ := w
      rw [e8] at e9
      cases e9
      exact q_stp82Z hR hI hc hd ⟨by omega, by omega⟩ hZ e8)) e
theorem q_zp21 (h : q_LX (k : Int) m x) (hI : q_Iv c d w m) (hk : k < 512) (hp : q_PZ k x) (a : Int32) (e : some (dz_X13_64_236 x a) = some r0) : q_PZ (k + 1) r0.1 := by
  have e := Option.some.inj e
  rw [← e]
  unfold dz_X13_64_236
  cases decide (x.2.1 24 11 < 16) <;> cases decide (a < 0) <;> cases decide (a < x.2.1 24 11) <;> cases decide (a < 16) <;> first | exact q_PZ1 hp | exact q_PZ1 (q_PZL hp)
theorem q_zp22 (h : q_LX (k : Int) m x) (hI : q_Iv c d w m) (hk : k < 512) (hp : q_PZ k x) (a b : Int32) (e : some (dz_X14_64_236 x a b) = some r0) : q_PZ (k + 1) r0.1 := by
  have e := Option.some.inj e
  rw [← e]
  unfold dz_X14_64_236
  cases decide (a < 0) <;> cases decide (a < 32) <;> cases decide (b < 0) <;> cases decide (b < 32) <;> first | exact q_PZ1 hp | exact q_PZ1 (q_PZL hp)
theorem q_PZNS {y : q_S} {g : Nat → Int64} (hp : q_PZ k x) (hn : q_NS (q_vw 32 1 73 x) y) : q_PZ k (q_sL (q_pt 32 3 1 73 x y) 172 g) := by
  obtain ⟨e2, e1⟩ := hn
  have hy : q_iZ (3 + 6 * k) (1000 * k) y := q_iZ_eq (s := q_vw 32 1 73 x) (e1 3 rfl) (e1 4 rfl) (e1 15 rfl) (e1 16 rfl) (e1 17 rfl) (e1 20 rfl) (e1 21 rfl) (e1 22 rfl) (e1 31 rfl) (by rw [e2]) (by rw [e2]) (by rw [e2]) (by rw [e2]) (by rw [e2]) (by rw [e2]) hp.1
  exact ⟨q_iZ_eq (s := y) rfl rfl rfl rfl rfl rfl rfl rfl rfl rfl rfl rfl rfl rfl rfl hy, q_iZ_eq (s := q_vw 32 76 1 x) rfl rfl rfl rfl rfl rfl rfl rfl rfl rfl rfl rfl rfl rfl rfl hp.2.1, q_iZ_eq (s := q_vw 32 108 1 x) rfl rfl rfl rfl rfl rfl rfl rfl rfl rfl rfl rfl rfl rfl rfl hp.2.2.1, q_iZ_eq (s := q_vw 32 140 1 x) rfl rfl rfl rfl rfl rfl rfl rfl rfl rfl rfl rfl rfl rfl rfl hp.2.2.2⟩
theorem q_zp23 (h : q_LX (k : Int) m x) (hI : q_Iv c d w m) (hk : k < 512) (hp : q_PZ k x) (a b : Int32) (e : dz_X15_64_236 x a b = some r0) : q_PZ (k + 1) r0.1 := by
  unfold dz_X15_64_236 at e
  rcases q_rd1 e with e | ⟨-, e⟩
  · exact q_zpE hp e
  rcases q_rd2 e with e | ⟨-, e⟩
  · exact q_zpE hp e
  rcases q_rd1 e with e | ⟨-, e⟩
  · exact q_zpE hp e
  rcases q_rd2 e with e | ⟨-, e⟩
  · exact q_zpE hp e
  cases e1 : dz_N108_65_96 (q_vw 32 1 73 x) a b with
  | none => rw [e1] at e; cases e
  | some w =>
    obtain ⟨y, v⟩ := w
    rw [e1] at e
    cases e
    exact q_PZ1 (q_PZNS hp (q_ns108 _ _ _ _ _ e1))
theorem q_zp24 (h : q_LX (k : Int) m x) (hI : q_Iv c d w m) (hk : k < 512) (hp : q_PZ k x) (a : Int32) (e : some (dz_X16_64_236 x a) = some r0) : q_PZ (k + 1) r0.1 := by
  have e := Option.some.inj e
  rw [← e]
  unfold dz_X16_64_236
  cases decide (a < 0) <;> cases decide (a < 40) <;> first | exact q_PZ1 hp | exact q_PZ1 (q_PZL hp)
theorem q_zp25 (h : q_LX (k : Int) m x) (hI : q_Iv c d w m) (hk : k < 512) (hp : q_PZ k x) (a : Int32) (e : some (dz_X17_64_236 x a) = some r0) : q_PZ (k + 1) r0.1 := by
  have e := Option.some.inj e
  rw [← e]
  unfold dz_X17_64_236
  cases decide (a < 0) <;> cases decide (a < 3) <;> first | exact q_PZ1 hp | exact q_PZ1 (q_PZL hp)
theorem q_zp26f (h : q_LX (k : Int) m x) (hI : q_Iv c d w m) (hk : k < 512) (hp : q_PZ k x) (a b : Int32) (e : dz_X18_64_f_236 x a b = some r0) : q_PZ (k + 1) r0.1 := by
  unfold dz_X18_64_f_236 at e
  unfold q_let at e
  dsimp only at e
  rcases q_rd1 e with e | ⟨c0, e⟩
  · exact q_zpE hp e
  rcases q_rd2 e with e | ⟨c1, e⟩
  · exact q_zpE hp e
  rcases q_rd1 e with e | ⟨c2, e⟩
  · exact q_zpE hp e
  rcases q_rd2 e with e | ⟨c3, e⟩
  · exact q_zpE hp e
  exact q_zpK h hk hp (fun V y r hR hZ e9 => q_up6 (q_zA9 (q_iNof hR (hI.1 15 6) (hI.1 15 7)) hZ e9)) e
theorem q_zp26t (h : q_LX (k : Int) m x) (hI : q_Iv c d w m) (hk : k < 512) (hp : q_PZ k x) (a b : Int32) (e : dz_X18_64_t_236 x a b = some r0) : q_PZ (k + 1) r0.1 := by
  unfold dz_X18_64_t_236 at e
  unfold q_let at e
  dsimp only at e
  rcases q_rd1 e with e | ⟨c0, e⟩
  · exact q_zpE hp e
  rcases q_rd2 e with e | ⟨c1, e⟩
  · exact q_zpE hp e
  rcases q_rd1 e with e | ⟨c2, e⟩
  · exact q_zpE hp e
  rcases q_rd2 e with e | ⟨c3, e⟩
  · exact q_zpE hp e
  exact q_zpK h hk hp (fun V y r hR hZ e9 => q_up6 (q_zA9 (q_iNof hR (hI.1 15 6) (hI.1 15 7)) hZ e9)) e
theorem q_zp27 (h : q_LX (k : Int) m x) (hI : q_Iv c d w m) (hk : k < 512) (hp : q_PZ k x) (a : Int32) (e : some (dz_X19_64_236 x a) = some r0) : q_PZ (k + 1) r0.1 := by
  have e := Option.some.inj e
  rw [← e]
  unfold dz_X19_64_236
  cases decide (a < 0) <;> cases decide (15 < a) <;> first | exact q_PZ1 hp | exact q_PZ1 (q_PZL hp)
theorem q_zp28 (h : q_LX (k : Int) m x) (hI : q_Iv c d w m) (hk : k < 512) (hp : q_PZ k x) (a : Int32) (e : dz_X20_64_236 x a = some r0) : q_PZ (k + 1) r0.1 := by
  unfold dz_X20_64_236 at e
  unfold q_let at e
  dsimp only at e
  rcases q_rd1 e with e | ⟨c0, e⟩
  · exact q_zpE hp e
  rcases q_rd1 e with e | ⟨c1, e⟩
  · exact q_zpE hp e
  exact q_zpA h hk hp (fun V y r hR hZ e9 => q_up6 (q_zA10 (q_iNof hR (hI.1 15 6) (hI.1 15 7)) hZ e9)) e
theorem q_zp29 (h : q_LX (k : Int) m x) (hI : q_Iv c d w m) (hk : k < 512) (hp : q_PZ k x) (a : Int32) (e : dz_X21_64_236 x a = some r0) : q_PZ (k + 1) r0.1 := by
  unfold dz_X21_64_236 at e
  unfold q_let at e
  dsimp only at e
  rcases q_rd1 e with e | ⟨c0, e⟩
  · exact q_zpE hp e
  rcases q_rd1 e with e | ⟨c1, e⟩
  · exact q_zpE hp e
  rcases q_rd2 e with e | ⟨c2, e⟩
  · exact q_zpE hp e
  exact q_zpA h hk hp (fun V y r hR hZ e9 => q_up6 (q_zA11 (q_iNof hR (hI.1 15 6) (hI.1 15 7)) hZ e9)) e
theorem q_zp12 (h : q_LX (k : Int) m x) (hI : q_Iv c d w m) (hk : k < 512) (hp : q_PZ k x) {g : q_S × Int32} (e : dz_X40_64 x = some g) : q_PZ (k + 1) g.1 := q_zpA2 h hk hp (fun V y r hR hZ e9 => q_up6 (q_zA5 (q_iNof hR (hI.1 15 6) (hI.1 15 7)) hZ e9)) e
theorem q_zp13 (h : q_LX (k : Int) m x) (hI : q_Iv c d w m) (hk : k < 512) (hp : q_PZ k x) {g : q_S × Int32} (e : dz_X41_64 x = some g) : q_PZ (k + 1) g.1 := q_zpA2 h hk hp (fun V y r hR hZ e9 => q_up6 (q_zA6 hR hI hZ e9)) e
theorem q_zp30 (h : q_LX (k : Int) m x) (hI : q_Iv c d w m) (hk : k < 512) (hp : q_PZ k x) {g : q_S × Int32} (e : dz_X58_64 x = some g) : q_PZ (k + 1) g.1 := q_zpA2 (a1 := 12) (a2 := 0) (a3 := 0) (a4 := 0) h hk hp (fun V y r hR hZ e9 => q_up6 (q_zA12 (q_iNof hR (hI.1 15 6) (hI.1 15 7)) hZ e9)) e
theorem q_rp_g {W : Nat → Int32} (v : Int32) : ∀ (n j : Nat) (g h : (Nat → Int32) × (Nat → Int32)), q_sp (fun _ => True) g h → q_sp (fun _ => True) (q_rp W v n j g) (q_rp W v n j h) := fun n j g h e => q_sp_rp W v n j g h e
/-- alike where the rows are asked of -/
theorem q_iQ_cp {s t : q_S} {e : Bool} {c d u : Int} {g : (Nat → Int32) × (Nat → Int32)} (hC : c < 3072) (h15 : ∀ k, k < 4096 → t.1 15 k = s.1 15 k) (h16 : ∀ k, k < 48 → t.1 16 k = s.1 16 k) (h17 : ∀ k, k < 3072 → t.1 17 k = s.1 17 k) (h20 : ∀ k, k < 4096 → t.1 20 k = s.1 20 k) (h21 : ∀ k, k < 48 → t.1 21 k = s.1 21 k) (h22 : ∀ k, k < 3072 → t.1 22 k = s.1 22 k) (h31 : ∀ k, k < 1024 → t.1 31 k = s.1 31 k) (i2 : t.2.1 13 2 = s.2.1 13 2) (i3 : t.2.1 13 3 = s.2.1 13 3) (j2 : t.2.1 18 2 = s.2.1 18 2) (j3 : t.2.1 18 3 = s.2.1 18 3) (l8 : t.2.2 1 8 = s.2.2 1 8) (h : q_iQ e c d u g s) : q_iQ e c d u g t := by
  obtain ⟨he, hy, ht, ⟨n0, n1⟩, hw, hcur, hot, hp⟩ := h
  have eN : ∀ e2, q_fN e2 t = q_fN e2 s := fun e2 => by
    unfold q_fN
    rw [i2, j2]
  have eT : ∀ e2, q_fT e2 t = q_fT e2 s := fun e2 => by
    unfold q_fT
    rw [i3, j3]
  have eW : ∀ (e2 : Bool) (i : Nat), i < 3072 → q_fW e2 t i = q_fW e2 s i := fun e2 i hi => by
    cases e2 with
    | true => exact h17 i hi
    | false => exact h22 i hi
  have eS : ∀ e2, q_sp (fun _ => True) (q_fS e2 t) (q_fS e2 s) := fun e2 => by
    cases e2 with
    | true => exact ⟨h15, fun k hk _ => h16 k hk⟩
    | false => exact ⟨h20, fun k hk _ => h21 k hk⟩
  have hN : ∀ e2, (q_fN e2 s).toNat ≤ 3072 := fun e2 => by
    have a1 : q_fN e s ≤ 3072 := by omega
    have a2 : q_fN (!e) s ≤ 3072 := by omega
    cases e <;> cases e2 <;> first | (have a3 : q_fN true s ≤ 3072 := a1; omega) | (have a3 : q_fN true s ≤ 3072 := a2; omega) | (have a3 : q_fN false s ≤ 3072 := a1; omega) | (have a3 : q_fN false s ≤ 3072 := a2; omega)
  have eR : ∀ e2 v, q_sp (fun _ => True) (q_fR e2 v t) (q_fR e2 v s) := fun e2 v => by
    unfold q_fR
    rw [eN, q_rp_W v _ 0 (q_fS e2 t) (fun i _ hi => eW e2 i (by have := hN e2; omega))]
    exact q_sp_rp _ _ _ _ _ _ (eS e2)
  refine ⟨by unfold q_evb; rw [l8]; exact he, by rw [l8]; exact hy, by rw [eT, l8]; exact ht, by rw [eN]; exact ⟨n0, n1⟩, fun i hi => ?_, ?_, by rw [eN]; exact hot, fun a b ha hb => ?_⟩
  · rw [eN] at hi
    rw [eT, eW e i (by omega)]
    exact hw i hi
  · exact (q_sp_le (fun _ _ => trivial) (eR e 2000)).trans hcur
  · obtain ⟨p1, p2, p3⟩ := hp a b ha hb
    have ei : t.1 31 ((32 * b) + a).toNatClampNeg = s.1 31 ((32 * b) + a).toNatClampNeg := h31 _ (by
      have e9 := (q_ixI ha hb).1
      obtain ⟨a0, a1⟩ := ha
      obtain ⟨b0, b1⟩ := hb
      omega)
    have ec : ∀ e2 v, q_cl (q_fR e2 v t) a b = q_cl (q_fR e2 v s) a b := fun e2 v => q_cl_c (q_sp_le (fun _ _ => trivial) (eR e2 v)) a b
    unfold q_px
    rw [eT, eT, ei, ec, ec]
    exact ⟨p1, p2, p3⟩
theorem q_iZ_cp {s t : q_S} {B u : Int} (hB : B ≤ 3080) (h3 : ∀ k, k < 4096 → t.1 3 k = s.1 3 k) (h4 : ∀ k, k < 48 → t.1 4 k = s.1 4 k) (h15 : ∀ k, k < 4096 → t.1 15 k = s.1 15 k) (h16 : ∀ k, k < 48 → t.1 16 k = s.1 16 k) (h17 : ∀ k, k < 3072 → t.1 17 k = s.1 17 k) (h20 : ∀ k, k < 4096 → t.1 20 k = s.1 20 k) (h21 : ∀ k, k < 48 → t.1 21 k = s.1 21 k) (h22 : ∀ k, k < 3072 → t.1 22 k = s.1 22 k) (h31 : ∀ k, k < 1024 → t.1 31 k = s.1 31 k) (i2 : t.2.1 13 2 = s.2.1 13 2) (i3 : t.2.1 13 3 = s.2.1 13 3) (j2 : t.2.1 18 2 = s.2.1 18 2) (j3 : t.2.1 18 3 = s.2.1 18 3) (l8 : t.2.2 1 8 = s.2.2 1 8) (i9 : t.2.1 23 9 = s.2.1 23 9) (h : q_iZ B u s) : q_iZ B u t := by
  obtain ⟨C, C0, C1, P⟩ := h
  have l3 := q_cr3 (s.2.1 23 9)
  refine ⟨C, C0, by rw [l8, i9]; exact C1, fun hc hu => ?_⟩
  obtain ⟨e, q⟩ := P hc hu
  exact ⟨e, q_iQ_g (g := (s.1 3, s.1 4)) ⟨fun k hk => (h3 k hk).symm, fun k hk _ => (h4 k hk).symm⟩ (q_iQ_cp hc h15 h16 h17 h20 h21 h22 h31 i2 i3 j2 j3 l8 q)⟩
/-- one machine becomes another -/
theorem q_77Z {s r : q_S} {B u : Int} (hB : B ≤ 3080) (e : dz_W77_64_96 s = some r) (h : q_iZ B u (q_src s)) : q_iZ B u r ∧ q_src r = q_src s := by
  unfold dz_W77_64_96 dz_W131_87_119 q_let at e
  dsimp only at e
  cases z6 : q_z1 ((dz_W85_65_97 s).2.1 55 6) with
  | false => rw [z6] at e; cases e
  | true =>
  cases z7 : q_z1 ((dz_W85_65_97 s).2.1 55 7) with
  | false => rw [z6, z7] at e; cases e
  | true =>
  rw [z6, z7] at e
  cases e
  exact ⟨q_iZ_cp (s := q_src s) hB (fun k hk => (show va_cpy (s.1 35) (s.1 3) 0 0 4096 k = s.1 35 k from q_cpy0 hk)) (fun k hk => (show va_cpy (s.1 36) (s.1 4) 0 0 48 k = s.1 36 k from q_cpy0 hk)) (fun k hk => (show va_cpy (s.1 47) (s.1 15) 0 0 4096 k = s.1 47 k from q_cpy0 hk)) (fun k hk => (show va_cpy (s.1 48) (s.1 16) 0 0 48 k = s.1 48 k from q_cpy0 hk)) (fun k hk => (show va_cpy (s.1 49) (s.1 17) 0 0 3072 k = s.1 49 k from q_cpy0 hk)) (fun k hk => (show va_cpy (s.1 52) (s.1 20) 0 0 4096 k = s.1 52 k from q_cpy0 hk)) (fun k hk => (show va_cpy (s.1 53) (s.1 21) 0 0 48 k = s.1 53 k from q_cpy0 hk)) (fun k hk => (show va_cpy (s.1 54) (s.1 22) 0 0 3072 k = s.1 54 k from q_cpy0 hk)) (fun k hk => (show va_cpy (s.1 63) (s.1 31) 0 0 1024 k = s.1 63 k from q_cpy0 hk)) rfl rfl rfl rfl rfl rfl h, rfl⟩
theorem q_zp32 (h : q_LX (k : Int) m x) (hI : q_Iv c d w m) (hk : k < 512) (hp : q_PZ k x) (e : dz_X22_64_236 x = some r0) : q_PZ (k + 1) r0.1 := by
  unfold dz_X22_64_236 at e
  rcases q_rd1 e with e | ⟨-, e⟩
  · exact q_zpE hp e
  rcases q_rd2 e with e | ⟨-, e⟩
  · exact q_zpE hp e
  rcases q_rd3 e with e | e
  · skip
    cases e1 : dz_W77_64_96 (q_vw 32 76 1 x) with
    | none => rw [e1] at e; cases e
    | some r =>
      rw [e1] at e
      cases e
      have hm0 : q_iZ (3 + 6 * k) (1000 * k) (q_src (q_vw 32 76 1 x)) := q_iZ_eq (s := q_vw 32 1 73 x) rfl rfl rfl rfl rfl rfl rfl rfl rfl rfl rfl rfl rfl rfl rfl hp.1
      obtain ⟨hr, hs⟩ := q_77Z (by omega) e1 hm0
      have hm : q_iZ (3 + 6 * k) (1000 * k) (q_src r) := by rw [hs]; exact hm0
      exact ⟨q_iZ_eq (s := q_src r) rfl rfl rfl rfl rfl rfl rfl rfl rfl rfl rfl rfl rfl rfl rfl (q_iZ1 hm), q_iZ_eq (s := r) rfl rfl rfl rfl rfl rfl rfl rfl rfl rfl rfl rfl rfl rfl rfl (q_iZ1 hr), q_iZ_eq (s := q_vw 32 108 1 x) rfl rfl rfl rfl rfl rfl rfl rfl rfl rfl rfl rfl rfl rfl rfl (q_iZ1 hp.2.2.1), q_iZ_eq (s := q_vw 32 140 1 x) rfl rfl rfl rfl rfl rfl rfl rfl rfl rfl rfl rfl rfl rfl rfl (q_iZ1 hp.2.2.2)⟩
  rcases q_rd3 e with e | e
  · skip
    cases e1 : dz_W77_64_96 (q_vw 32 108 1 x) with
    | none => rw [e1] at e; cases e
    | some r =>
      rw [e1] at e
      cases e
      have hm0 : q_iZ (3 + 6 * k) (1000 * k) (q_src (q_vw 32 108 1 x)) := q_iZ_eq (s := q_vw 32 1 73 x) rfl rfl rfl rfl rfl rfl rfl rfl rfl rfl rfl rfl rfl rfl rfl hp.1
      obtain ⟨hr, hs⟩ := q_77Z (by omega) e1 hm0
      have hm : q_iZ (3 + 6 * k) (1000 * k) (q_src r) := by rw [hs]; exact hm0
      exact ⟨q_iZ_eq (s := q_src r) rfl rfl rfl rfl rfl rfl rfl rfl rfl rfl rfl rfl rfl rfl rfl (q_iZ1 hm), q_iZ_eq (s := q_vw 32 76 1 x) rfl rfl rfl rfl rfl rfl rfl rfl rfl rfl rfl rfl rfl rfl rfl (q_iZ1 hp.2.1), q_iZ_eq (s := r) rfl rfl rfl rfl rfl rfl rfl rfl rfl rfl rfl rfl rfl rfl rfl (q_iZ1 hr), q_iZ_eq (s := q_vw 32 140 1 x) rfl rfl rfl rfl rfl rfl rfl rfl rfl rfl rfl rfl rfl rfl rfl (q_iZ1 hp.2.2.2)⟩
  rcases q_rd3 e with e | e
  · skip
    cases e1 : dz_W77_64_96 (q_vw 32 140 1 x) with
    | none => rw [e1] at e; cases e
    | some r =>
      rw [e1] at e
      cases e
      have hm0 : q_iZ (3 + 6 * k) (1000 * k) (q_src (q_vw 32 140 1 x)) := q_iZ_eq (s := q_vw 32 1 73 x) rfl rfl rfl rfl rfl rfl rfl rfl rfl rfl rfl rfl rfl rfl rfl hp.1
      obtain ⟨hr, hs⟩ := q_77Z (by omega) e1 hm0
      have hm : q_iZ (3 + 6 * k) (1000 * k) (q_src r) := by rw [hs]; exact hm0
      exact ⟨q_iZ_eq (s := q_src r) rfl rfl rfl rfl rfl rfl rfl rfl rfl rfl rfl rfl rfl rfl rfl (q_iZ1 hm), q_iZ_eq (s := q_vw 32 76 1 x) rfl rfl rfl rfl rfl rfl rfl rfl rfl rfl rfl rfl rfl rfl rfl (q_iZ1 hp.2.1), q_iZ_eq (s := q_vw 32 108 1 x) rfl rfl rfl rfl rfl rfl rfl rfl rfl rfl rfl rfl rfl rfl rfl (q_iZ1 hp.2.2.1), q_iZ_eq (s := r) rfl rfl rfl rfl rfl rfl rfl rfl rfl rfl rfl rfl rfl rfl rfl (q_iZ1 hr)⟩
  · cases e
theorem q_zp33 (h : q_LX (k : Int) m x) (hI : q_Iv c d w m) (hk : k < 512) (hp : q_PZ k x) (a : Int32) (e : dz_X23_64_236 x a = some r0) : q_PZ (k + 1) r0.1 := by
  unfold dz_X23_64_236 at e
  rcases q_rd1 e with e | ⟨-, e⟩
  · exact q_zpE hp e
  rcases q_rd2 e with e | ⟨-, e⟩
  · exact q_zpE hp e
  rcases q_rd2 e with e | ⟨-, e⟩
  · exact q_zpE hp e
  rcases q_rd3 e with e | e
  · rcases q_rd2 e with e | ⟨c9, e⟩
    · exact q_zpE hp e
    cases e1 : dz_W111_66_98 (q_vw 32 1 76 x) with
    | none => rw [e1] at e; cases e
    | some v =>
      rw [e1, Option.bind_some] at e
      cases e2 : dz_W77_64_96 (q_vw 32 1 76 x) with
      | none => rw [e2] at e; cases e
      | some r =>
        rw [e2] at e
        cases e
        have hm0 : q_iZ (3 + 6 * k) (1000 * k) (q_src (q_vw 32 1 76 x)) := q_iZ_eq (s := q_vw 32 76 1 x) rfl rfl rfl rfl rfl rfl rfl rfl rfl rfl rfl rfl rfl rfl rfl hp.2.1
        obtain ⟨hr, hs⟩ := q_77Z (by omega) e2 hm0
        have hm : q_iZ (3 + 6 * k) (1000 * k) (q_src r) := by rw [hs]; exact hm0
        exact ⟨q_iZ_eq (s := r) rfl rfl rfl rfl rfl rfl rfl rfl rfl rfl rfl rfl rfl rfl rfl (q_iZ1 hr), q_iZ_eq (s := q_src r) rfl rfl rfl rfl rfl rfl rfl rfl rfl rfl rfl rfl rfl rfl rfl (q_iZ1 hm), q_iZ_eq (s := q_vw 32 108 1 x) rfl rfl rfl rfl rfl rfl rfl rfl rfl rfl rfl rfl rfl rfl rfl (q_iZ1 hp.2.2.1), q_iZ_eq (s := q_vw 32 140 1 x) rfl rfl rfl rfl rfl rfl rfl rfl rfl rfl rfl rfl rfl rfl rfl (q_iZ1 hp.2.2.2)⟩
  rcases q_rd3 e with e | e
  · rcases q_rd2 e with e | ⟨c9, e⟩
    · exact q_zpE hp e
    cases e1 : dz_W111_66_98 (q_vw 32 1 108 x) with
    | none => rw [e1] at e; cases e
    | some v =>
      rw [e1, Option.bind_some] at e
      cases e2 : dz_W77_64_96 (q_vw 32 1 108 x) with
      | none => rw [e2] at e; cases e
      | some r =>
        rw [e2] at e
        cases e
        have hm0 : q_iZ (3 + 6 * k) (1000 * k) (q_src (q_vw 32 1 108 x)) := q_iZ_eq (s := q_vw 32 108 1 x) rfl rfl rfl rfl rfl rfl rfl rfl rfl rfl rfl rfl rfl rfl rfl hp.2.2.1
        obtain ⟨hr, hs⟩ := q_77Z (by omega) e2 hm0
        have hm : q_iZ (3 + 6 * k) (1000 * k) (q_src r) := by rw [hs]; exact hm0
        exact ⟨q_iZ_eq (s := r) rfl rfl rfl rfl rfl rfl rfl rfl rfl rfl rfl rfl rfl rfl rfl (q_iZ1 hr), q_iZ_eq (s := q_vw 32 76 1 x) rfl rfl rfl rfl rfl rfl rfl rfl rfl rfl rfl rfl rfl rfl rfl (q_iZ1 hp.2.1), q_iZ_eq (s := q_src r) rfl rfl rfl rfl rfl rfl rfl rfl rfl rfl rfl rfl rfl rfl rfl (q_iZ1 hm), q_iZ_eq (s := q_vw 32 140 1 x) rfl rfl rfl rfl rfl rfl rfl rfl rfl rfl rfl rfl rfl rfl rfl (q_iZ1 hp.2.2.2)⟩
  rcases q_rd3 e with e | e
  · rcases q_rd2 e with e | ⟨c9, e⟩
    · exact q_zpE hp e
    cases e1 : dz_W111_66_98 (q_vw 32 1 140 x) with
    | none => rw [e1] at e; cases e
    | some v =>
      rw [e1, Option.bind_some] at e
      cases e2 : dz_W77_64_96 (q_vw 32 1 140 x) with
      | none => rw [e2] at e; cases e
      | some r =>
        rw [e2] at e
        cases e
        have hm0 : q_iZ (3 + 6 * k) (1000 * k) (q_src (q_vw 32 1 140 x)) := q_iZ_eq (s := q_vw 32 140 1 x) rfl rfl rfl rfl rfl rfl rfl rfl rfl rfl rfl rfl rfl rfl rfl hp.2.2.2
        obtain ⟨hr, hs⟩ := q_77Z (by omega) e2 hm0
        have hm : q_iZ (3 + 6 * k) (1000 * k) (q_src r) := by rw [hs]; exact hm0
        exact ⟨q_iZ_eq (s := r) rfl rfl rfl rfl rfl rfl rfl rfl rfl rfl rfl rfl rfl rfl rfl (q_iZ1 hr), q_iZ_eq (s := q_vw 32 76 1 x) rfl rfl rfl rfl rfl rfl rfl rfl rfl rfl rfl rfl rfl rfl rfl (q_iZ1 hp.2.1), q_iZ_eq (s := q_vw 32 108 1 x) rfl rfl rfl rfl rfl rfl rfl rfl rfl rfl rfl rfl rfl rfl rfl (q_iZ1 hp.2.2.1), q_iZ_eq (s := q_src r) rfl rfl rfl rfl rfl rfl rfl rfl rfl rfl rfl rfl rfl rfl rfl (q_iZ1 hm)⟩
  · cases e
theorem q_zp34 (h : q_LX (k : Int) m x) (hI : q_Iv c d w m) (hk : k < 512) (hp : q_PZ k x) (a : Int32) (e : dz_X24_64_236 x a = some r0) : q_PZ (k + 1) r0.1 := by
  unfold dz_X24_64_236 at e
  rcases q_rd1 e with e | ⟨-, e⟩
  · exact q_zpE hp e
  rcases q_rd2 e with e | ⟨-, e⟩
  · exact q_zpE hp e
  rcases q_rd2 e with e | ⟨-, e⟩
  · exact q_zpE hp e
  rcases q_rd3 e with e | e
  · rcases q_rd2 e with e | ⟨-, e⟩
    · exact q_zpE hp e
    exact q_zpR hp e
  rcases q_rd3 e with e | e
  · rcases q_rd2 e with e | ⟨-, e⟩
    · exact q_zpE hp e
    exact q_zpR hp e
  rcases q_rd3 e with e | e
  · rcases q_rd2 e with e | ⟨-, e⟩
    · exact q_zpE hp e
    exact q_zpR hp e
  · cases e
theorem q_zp36 (h : q_LX (k : Int) m x) (hI : q_Iv c d w m) (hk : k < 512) (hp : q_PZ k x) (e : some (dz_X25_64_236 x) = some r0) : q_PZ (k + 1) r0.1 := by
  have e := Option.some.inj e
  rw [← e]
  unfold dz_X25_64_236
  cases decide (x.2.1 34 7 = 0) <;> first | exact q_PZ1 hp | exact q_PZ1 (q_PZL hp)
/-- startRecord: the machine and the snapshots stay -/
theorem q_PZ35 (hs : q_src y = q_src (q_vw 32 35 1 x)) (h : q_PZ k x) (v v2 v3 : Int32) : q_PZ k (q_sI (q_sI (q_sI (q_pt 32 32 35 1 x y) 34 5 v) 34 6 v2) 34 7 v3) := by
  have hm : q_iZ (3 + 6 * k) (1000 * k) (q_src y) := by
    rw [hs]
    exact q_iZ_eq (s := q_vw 32 1 73 x) rfl rfl rfl rfl rfl rfl rfl rfl rfl rfl rfl rfl rfl rfl rfl h.1
  exact ⟨q_iZ_eq (s := q_src y) rfl rfl rfl rfl rfl rfl rfl rfl rfl rfl rfl rfl rfl rfl rfl hm, q_iZ_eq (s := q_vw 32 76 1 x) rfl rfl rfl rfl rfl rfl rfl rfl rfl rfl rfl rfl rfl rfl rfl h.2.1, q_iZ_eq (s := q_vw 32 108 1 x) rfl rfl rfl rfl rfl rfl rfl rfl rfl rfl rfl rfl rfl rfl rfl h.2.2.1, q_iZ_eq (s := q_vw 32 140 1 x) rfl rfl rfl rfl rfl rfl rfl rfl rfl rfl rfl rfl rfl rfl rfl h.2.2.2⟩
theorem q_zp35 (h : q_LX (k : Int) m x) (hI : q_Iv c d w m) (hk : k < 512) (hp : q_PZ k x) {g : q_S × Int32} (e : dz_X63_64 x = some g) : q_PZ (k + 1) g.1 := by
  obtain ⟨i6, i7⟩ := q_iNof h.1 (hI.1 15 6) (hI.1 15 7)
  obtain ⟨r, a1, a2, a3, a4, a5⟩ := q_bcm (q_vw 32 35 1 x) i6 i7
  have e9 : dz_X183_98_65 x = some (q_sI (q_sI (q_sI (q_pt 32 32 35 1 x r) 34 5 0) 34 6 0) 34 7 1) := by
    unfold dz_X183_98_65
    rw [a1]
    rfl
  unfold dz_X63_64 q_let at e
  rw [e9] at e
  have eg : g.1 = q_sI (q_sI (q_sI (q_pt 32 32 35 1 x r) 34 5 0) 34 6 0) 34 7 1 := by
    have e : cond (decide (x.2.1 34 7 = 0)) (some (q_sI (q_sI (q_sI (q_pt 32 32 35 1 x r) 34 5 0) 34 6 0) 34 7 1, (0 : Int32))) (some (q_sI (q_sI (q_sI (q_pt 32 32 35 1 x r) 34 5 0) 34 6 0) 34 7 1, x.2.1 34 5)) = some g := e
    cases k9 : decide (x.2.1 34 7 = 0) with
    | true => rw [k9] at e; cases e; rfl
    | false => rw [k9] at e; cases e; rfl
  rw [eg]
  exact q_PZ1 (q_PZ35 a3 hp 0 0 1)
/-- isSame: only the recording's machine runs -/
theorem q_PZ65 : ∀ (f : Nat) (s y : q_S) (v : Int32) (b : Bool), q_PZ k s → dz_X65_27 f s v = some (y, b) → q_PZ k y := by
  intro f
  induction f with
  | zero => intro s y v b h e; cases e
  | succ f ih =>
    intro s y v b h e
    rw [dzs_X65_27] at e
    generalize hk : dz_X65_27 f = kk at e
    unfold q_let at e
    dsimp only at e
    cases c1 : decide (v < s.2.1 34 5) with
    | true =>
      rw [c1, cond_true] at e
      cases c2 : q_in (v &&& 511) 512 with
      | false => rw [c2] at e; cases e
      | true =>
        rw [c2, cond_true] at e
        cases e1 : dz_N79_64 (q_vw 32 35 73 s) ((s.1 67) ((v &&& 511).toNatClampNeg)) ((s.1 68) ((v &&& 511).toNatClampNeg)) ((s.1 69) ((v &&& 511).toNatClampNeg)) ((s.1 70) ((v &&& 511).toNatClampNeg)) with
        | none => rw [e1] at e; cases e
        | some r2 =>
          rw [e1, Option.bind_some, ← hk] at e
          exact ih _ _ _ _ (q_PZrec h) e
    | false =>
      rw [c1, cond_false] at e
      cases e1 : dz_W78_64_96 (q_vw 32 35 1 (q_sI s 34 6 (s.2.1 34 5))) with
      | none => rw [e1] at e; cases e
      | some r3 =>
        rw [e1, Option.bind_some] at e
        cases r3 with
        | true => cases e; exact q_PZ6 h
        | false => cases e; exact q_PZ6 h
theorem q_zp37 (h : q_LX (k : Int) m x) (hI : q_Iv c d w m) (hk : k < 512) (hp : q_PZ k x) (e : dz_X26_64_236 x = some r0) : q_PZ (k + 1) r0.1 := by
  unfold dz_X26_64_236 at e
  rcases q_rd1 e with e | ⟨-, e⟩
  · exact q_zpE hp e
  cases e1 : dz_X65_27 5000 x (x.2.1 34 6) with
  | none => rw [e1] at e; cases e
  | some r4 =>
    obtain ⟨y, b⟩ := r4
    rw [e1, Option.bind_some] at e
    have hy := q_PZ65 _ _ _ _ _ hp e1
    rcases q_rd3 e with e | e
    · cases e; exact q_PZ1 (q_PZL hy)
    · cases e; exact q_PZ1 (q_PZL hy)
/-- a fresh object -/
theorem q_iZ0 {s : q_S} (h3 : s.1 3 = fun _ => 0) (h4 : s.1 4 = fun _ => 0) (h15 : s.1 15 = fun _ => 0) (h16 : s.1 16 = fun _ => 0) (h31 : s.1 31 = fun _ => 0) (i2 : s.2.1 13 2 = 0) (i3 : s.2.1 13 3 = 0) (j2 : s.2.1 18 2 = 0) (j3 : s.2.1 18 3 = 0) (l8 : s.2.2 1 8 = 0) : q_iZ 3 0 s := by
  have z0 : (0 : Int32).toInt = 0 := rfl
  have y0 : (s.2.2 1 8).toInt = 0 := by rw [l8]; rfl
  have l3 := q_cr3 (s.2.1 23 9)
  refine ⟨0, Int.le_refl 0, by rw [y0]; omega, fun hc hu => ⟨true, ?_⟩⟩
  have nT : q_fN true s = 0 := by show (s.2.1 13 2).toInt = 0; rw [i2]; rfl
  have nF : q_fN (!true) s = 0 := by show (s.2.1 18 2).toInt = 0; rw [j2]; rfl
  have tT : q_fT true s = 0 := by show (s.2.1 13 3).toInt = 0; rw [i3]; rfl
  have tF : q_fT (!true) s = 0 := by show (s.2.1 18 3).toInt = 0; rw [j3]; rfl
  refine ⟨by unfold q_evb; rw [l8]; decide, ⟨by omega, by omega⟩, by rw [tT, y0]; rfl, ⟨by omega, by omega⟩, fun i hi => by omega, ?_, ⟨by omega, by omega⟩, fun a b ha hb => ?_⟩
  · unfold q_fR
    rw [nT]
    exact ⟨fun k _ => by show s.1 15 k = s.1 3 k; rw [h15, h3], fun k _ _ => by show s.1 16 k = s.1 4 k; rw [h16, h4]⟩
  · have em := q_moI ha hb
    obtain ⟨a0, a1⟩ := ha
    obtain ⟨b0, b1⟩ := hb
    refine ⟨fun hm => ?_, fun _ hm => ?_, fun _ _ => by rw [h31]⟩
    · rw [tT] at hm
      omega
    · rw [tF] at hm
      omega
theorem q_PZ0 : q_PZ 0 (q_vw 172 0 206 q_SL0) := ⟨q_iZ0 rfl rfl rfl rfl rfl rfl rfl rfl rfl rfl, q_iZ0 rfl rfl rfl rfl rfl rfl rfl rfl rfl rfl, q_iZ0 rfl rfl rfl rfl rfl rfl rfl rfl rfl rfl, q_iZ0 rfl rfl rfl rfl rfl rfl rfl rfl rfl rfl⟩
theorem q_tAgnP (h : q_LX (k : Int) m x) (hI : q_Iv c d w m) (hk : k < 512) (hp : q_PZ k x) (a b : Int32) : q_TN (k : Int) (dz_X15_64_236 x a b) (dz_M295_64 m a b) Int32.toInt64 True := by
  have z0 : (0 : Int32).toInt = 0 := rfl
  have z31 : (31 : Int32).toInt = 31 := rfl
  have z32 : (32 : Int32).toInt = 32 := rfl
  by_cases l_a : a.toInt < 0
  · refine q_TNbad h 1 0 (by decide) ?_ ?_
    · unfold dz_X15_64_236
      rw [q_lt_T (show a.toInt < (0 : Int32).toInt by omega)]
      rfl
    · unfold dz_M295_64 dz_M293_64 q_let
      dsimp only
      rw [q_202F (v := a) (lo := 0) (hi := 31) (Or.inl (by omega))]
      rfl
  by_cases u_a : 31 < a.toInt
  · refine q_TNbad h 1 0 (by decide) ?_ ?_
    · unfold dz_X15_64_236
      rw [q_lt_F (show (0 : Int32).toInt ≤ a.toInt by omega), q_lt_F (show (32 : Int32).toInt ≤ a.toInt by omega)]
      rfl
    · unfold dz_M295_64 dz_M293_64 q_let
      dsimp only
      rw [q_202F (v := a) (lo := 0) (hi := 31) (Or.inr (by omega))]
      rfl
  by_cases l_b : b.toInt < 0
  · refine q_TNbad h 1 0 (by decide) ?_ ?_
    · unfold dz_X15_64_236
      rw [q_lt_F (show (0 : Int32).toInt ≤ a.toInt by omega), q_lt_T (show a.toInt < (32 : Int32).toInt by omega), q_lt_T (show b.toInt < (0 : Int32).toInt by omega)]
      rfl
    · unfold dz_M295_64 dz_M293_64 q_let
      dsimp only
      rw [q_202T (v := a) (lo := 0) (hi := 31) (by omega) (by omega), q_202F (v := b) (lo := 0) (hi := 31) (Or.inl (by omega))]
      rfl
  by_cases u_b : 31 < b.toInt
  · refine q_TNbad h 1 0 (by decide) ?_ ?_
    · unfold dz_X15_64_236
      rw [q_lt_F (show (0 : Int32).toInt ≤ a.toInt by omega), q_lt_T (show a.toInt < (32 : Int32).toInt by omega), q_lt_F (show (0 : Int32).toInt ≤ b.toInt by omega), q_lt_F (show (32 : Int32).toInt ≤ b.toInt by omega)]
      rfl
    · unfold dz_M295_64 dz_M293_64 q_let
      dsimp only
      rw [q_202T (v := a) (lo := 0) (hi := 31) (by omega) (by omega), q_202F (v := b) (lo := 0) (hi := 31) (Or.inr (by omega))]
      rfl
  have e32 : (32 * b).toInt = 32 * b.toInt := q_mulI (n := 32) rfl (by decide) (by decide) ⟨by omega, by omega⟩
  have ei : ((32 * b) + a).toInt = 32 * b.toInt + a.toInt := by rw [q_addI ⟨by omega, by omega⟩ ⟨by omega, by omega⟩, e32]
  have ri : q_rgz 0 1023 ((32 * b) + a) := ⟨by omega, by omega⟩
  have hN : q_iN (q_vw 32 1 73 x) := q_iNof h.1 (hI.1 15 6) (hI.1 15 7)
  obtain ⟨⟨y, r⟩, e, -⟩ := dzj_N108_65_96 (q_vw 32 1 73 x) hN a b
  have hy : q_RO m y m := q_R_NS h.1 (q_ns108 _ _ _ _ _ e)
  have LX : q_LX (k : Int) m (q_sL (q_pt 32 3 1 73 x y) 172 (vp_updL ((q_pt 32 3 1 73 x y).2.2 172) 0 r.toInt64)) := ⟨hy, h.2⟩
  have eM : dz_M295_64 m a b = some (q_mok m, m.1 5 ((32 * b) + a).toNatClampNeg) := by
    unfold dz_M295_64 dz_M293_64 q_let
    dsimp only
    rw [q_202T (v := a) (lo := 0) (hi := 31) (by omega) (by omega), q_202T (v := b) (lo := 0) (hi := 31) (by omega) (by omega), q_yM200, q_in_rg ri (by decide) (by decide)]
    rfl
  refine ⟨(q_sL (q_pt 32 3 1 73 x y) 172 (vp_updL ((q_pt 32 3 1 73 x y).2.2 172) 0 r.toInt64), 0, 0), _, ?_, eM, q_LXbad LX 0, Nat.zero_le _, rfl, fun _ _ => ?_⟩
  · unfold dz_X15_64_236
    rw [q_lt_F (show (0 : Int32).toInt ≤ a.toInt by omega), q_lt_T (show a.toInt < (32 : Int32).toInt by omega), q_lt_F (show (0 : Int32).toInt ≤ b.toInt by omega), q_lt_T (show b.toInt < (32 : Int32).toInt by omega), e]
    rfl
  · obtain ⟨C, C0, C1, P⟩ := hp.1
    have l3 := q_cr3 ((q_vw 32 1 73 x).2.1 23 9)
    have er : r = (q_vw 32 1 73 x).1 31 ((32 * b) + a).toNatClampNeg := q_108P ⟨by omega, by omega⟩ ⟨by omega, by omega⟩ (by omega) (by omega) P e
    have hn : ((32 * b) + a).toNatClampNeg < 1024 := by
      show ((32 * b) + a).toInt.toNat < 1024
      omega
    have e0 : (q_vw 32 1 73 x).1 31 ((32 * b) + a).toNatClampNeg = m.1 5 ((32 * b) + a).toNatClampNeg := h.1.r8.1.1 _ hn
    show vp_updL ((q_pt 32 3 1 73 x y).2.2 172) 0 r.toInt64 0 = (m.1 5 ((32 * b) + a).toNatClampNeg).toInt64
    rw [q_upL1 _ _ _ _ rfl, er, e0]
end
end
section
-- 58.aa
section
variable {z L : Nat} {xs : Nat → Int32} {S : q_S} {c n k : Nat} {i : Int32}
/-- the next turn's head is reached -/
def q_NX (z L : Nat) (xs : Nat → Int32) (i : Int32) (S : q_S) (c n k : Nat) : Prop := ∃ S2 c2 n2, q_IV (k + 1) S2 ∧ q_PZ (k + 1) (q_vw 172 0 206 S2) ∧ c2 ≤ c + 1 ∧ n2 ≤ n + 6 ∧ ∀ o, q_Ru (q_TBs z L xs) 20 376 (23, [(4, .int (i + 4)), (3, .ref 270), (2, .ref 236), (1, .ref 64), (0, .ref 0)], [], (q_kL S2 c2 n2)) o → q_Ru (q_TBs z L xs) 20 376 (23, [(4, .int i), (3, .ref 270), (2, .ref 236), (1, .ref 64), (0, .ref 0)], [], (q_kL S c n)) o
def q_XS (L : Nat) (i : Int32) : Prop := q_in i L = true ∧ q_in (i + 1) L = true ∧ q_in (i + 2) L = true ∧ q_in (i + 3) L = true ∧ decide (Int32.ofNat L - 4 < i) = false
theorem q_st0 (h : q_IV k S) (hk : k < 512) (hx : q_XS L i) (hF : q_PZ k (q_vw 172 0 206 S)) (hv : xs i.toNatClampNeg &&& 63 = 0) : q_NX z L xs i S c n k := by
  obtain ⟨hx0, hx1, hx2, hx3, hi⟩ := hx
  obtain ⟨r0, r1, e0, e1, hN, hE, hC, hX⟩ := q_trn (ox := (dz_X0_64_236 (q_vw 172 0 206 S) (xs ((i + 1).toNatClampNeg)) (xs ((i + 2).toNatClampNeg)))) (F := fun m => dz_M216_64 m (xs ((i + 1).toNatClampNeg)) (xs ((i + 2).toNatClampNeg))) (cv := Int32.toInt64) (ex := True) h (fun m h1 h2 => q_tPoke h1 h2 (by omega) (xs ((i + 1).toNatClampNeg)) (xs ((i + 2).toNatClampNeg))) (fun m h2 => dzj_M216_64 _ _ 40 m h2 (xs ((i + 1).toNatClampNeg)) (xs ((i + 2).toNatClampNeg))) (fun x p => q_IVup p.1)
  have hP9 := q_zp0 h.1 h.2 (by omega) hF (xs ((i + 1).toNatClampNeg)) (xs ((i + 2).toNatClampNeg)) e0
  have hP8 := q_PZV (S := S) (m := r1.1) hP9
  exact ⟨_, _, _, hN, hP8, Nat.add_le_add_left hE c, by omega, fun o ho => q_lw0 z L xs S c n i hx0 hx1 hx2 hx3 hi hv r0 e0 r1 e1 ho⟩
theorem q_st1 (h : q_IV k S) (hk : k < 512) (hx : q_XS L i) (hF : q_PZ k (q_vw 172 0 206 S)) (hv : xs i.toNatClampNeg &&& 63 = 1) : q_NX z L xs i S c n k := by
  obtain ⟨hx0, hx1, hx2, hx3, hi⟩ := hx
  obtain ⟨r0, r1, e0, e1, hN, hE, hC, hX⟩ := q_trn (ox := (dz_X1_64_236 (q_vw 172 0 206 S) (xs ((i + 1).toNatClampNeg)) (xs ((i + 2).toNatClampNeg)))) (F := fun m => dz_M217_64 m (xs ((i + 1).toNatClampNeg)) (xs ((i + 2).toNatClampNeg))) (cv := Int32.toInt64) (ex := True) h (fun m h1 h2 => q_tRom h1 h2 (by omega) (xs ((i + 1).toNatClampNeg)) (xs ((i + 2).toNatClampNeg))) (fun m h2 => dzj_M217_64 _ _ 40 m h2 (xs ((i + 1).toNatClampNeg)) (xs ((i + 2).toNatClampNeg))) (fun x p => q_IVup p.1)
  have hP9 := q_zp1 h.1 h.2 (by omega) hF (xs ((i + 1).toNatClampNeg)) (xs ((i + 2).toNatClampNeg)) e0
  have hP8 := q_PZV (S := S) (m := r1.1) hP9
  exact ⟨_, _, _, hN, hP8, Nat.add_le_add_left hE c, by omega, fun o ho => q_lw1 z L xs S c n i hx0 hx1 hx2 hx3 hi hv r0 e0 r1 e1 ho⟩
theorem q_st2 (h : q_IV k S) (hk : k < 512) (hx : q_XS L i) (hF : q_PZ k (q_vw 172 0 206 S)) (hv : xs i.toNatClampNeg &&& 63 = 2) : q_NX z L xs i S c n k := by
  obtain ⟨hx0, hx1, hx2, hx3, hi⟩ := hx
  obtain ⟨r0, r1, e0, e1, hN, hE, hC, hX⟩ := q_trn (ox := (dz_X2_64_236 (q_vw 172 0 206 S) (xs ((i + 1).toNatClampNeg)) (xs ((i + 2).toNatClampNeg)) (xs ((i + 3).toNatClampNeg)))) (F := fun m => dz_M218_64 m (xs ((i + 1).toNatClampNeg)) (xs ((i + 2).toNatClampNeg)) (xs ((i + 3).toNatClampNeg))) (cv := Int32.toInt64) (ex := True) h (fun m h1 h2 => q_tCar h1 h2 (by omega) (xs ((i + 1).toNatClampNeg)) (xs ((i + 2).toNatClampNeg)) (xs ((i + 3).toNatClampNeg))) (fun m h2 => dzj_M218_64 _ _ 40 m h2 (xs ((i + 1).toNatClampNeg)) (xs ((i + 2).toNatClampNeg)) (xs ((i + 3).toNatClampNeg))) (fun x p => q_IVup p.1)
  have hP9 := q_zp2 h.1 h.2 (by omega) hF (xs ((i + 1).toNatClampNeg)) (xs ((i + 2).toNatClampNeg)) (xs ((i + 3).toNatClampNeg)) e0
  have hP8 := q_PZV (S := S) (m := r1.1) hP9
  exact ⟨_, _, _, hN, hP8, Nat.add_le_add_left hE c, by omega, fun o ho => q_lw2 z L xs S c n i hx0 hx1 hx2 hx3 hi hv r0 e0 r1 e1 ho⟩
theorem q_st3 (h : q_IV k S) (hk : k < 512) (hx : q_XS L i) (hF : q_PZ k (q_vw 172 0 206 S)) (hv : xs i.toNatClampNeg &&& 63 = 3) : q_NX z L xs i S c n k := by
  obtain ⟨hx0, hx1, hx2, hx3, hi⟩ := hx
  obtain ⟨r0, r1, e0, e1, hN, hE, hC, hX⟩ := q_trn (ox := (dz_X3_64_236 (q_vw 172 0 206 S) (xs ((i + 1).toNatClampNeg)))) (F := fun m => dz_M219_64 m (xs ((i + 1).toNatClampNeg))) (cv := Int32.toInt64) (ex := True) h (fun m h1 h2 => q_tPeek h1 h2 (xs ((i + 1).toNatClampNeg))) (fun m h2 => dzj_M219_64 _ _ 40 m h2 (xs ((i + 1).toNatClampNeg))) (fun x p => q_IVup p.1)
  have hP9 := q_zp3 h.1 h.2 (by omega) hF (xs ((i + 1).toNatClampNeg)) e0
  have hP8 := q_PZV (S := S) (m := r1.1) hP9
  exact ⟨_, _, _, hN, hP8, Nat.add_le_add_left hE c, by omega, fun o ho => q_lw3 z L xs S c n i hx0 hx1 hx2 hx3 hi hv r0 e0 r1 e1 ho⟩
theorem q_st4 (h : q_IV k S) (hk : k < 512) (hx : q_XS L i) (hF : q_PZ k (q_vw 172 0 206 S)) (hv : xs i.toNatClampNeg &&& 63 = 4) : q_NX z L xs i S c n k := by
  obtain ⟨hx0, hx1, hx2, hx3, hi⟩ := hx
  obtain ⟨r0, r1, e0, e1, hN, hE, hC, hX⟩ := q_trn (ox := (some (dz_X4_64_236 (q_vw 172 0 206 S) (xs ((i + 1).toNatClampNeg))))) (F := fun m => dz_M220_64 m (xs ((i + 1).toNatClampNeg))) (cv := Int32.toInt64) (ex := True) h (fun m h1 h2 => q_tRam h1 h2 (xs ((i + 1).toNatClampNeg))) (fun m h2 => dzj_M220_64 _ _ 40 m h2 (xs ((i + 1).toNatClampNeg))) (fun x p => q_IVup p.1)
  have hP9 := q_zp4 h.1 h.2 (by omega) hF (xs ((i + 1).toNatClampNeg)) e0
  have hP8 := q_PZV (S := S) (m := r1.1) hP9
  have e0 := Option.some.inj e0
  exact ⟨_, _, _, hN, hP8, Nat.add_le_add_left hE c, by omega, fun o ho => q_lw4 z L xs S c n i hx0 hx1 hx2 hx3 hi hv r0 e0 r1 e1 ho⟩
theorem q_st5 (h : q_IV k S) (hk : k < 512) (hx : q_XS L i) (hF : q_PZ k (q_vw 172 0 206 S)) (hv : xs i.toNatClampNeg &&& 63 = 5) : q_NX z L xs i S c n k := by
  obtain ⟨hx0, hx1, hx2, hx3, hi⟩ := hx
  obtain ⟨r0, r1, e0, e1, hN, hE, hC, hX⟩ := q_trn (ox := (dz_X5_64_236 (q_vw 172 0 206 S) (xs ((i + 1).toNatClampNeg)) (xs ((i + 2).toNatClampNeg)) (xs ((i + 3).toNatClampNeg)))) (F := fun m => dz_M279_64 m (xs ((i + 1).toNatClampNeg)) (xs ((i + 2).toNatClampNeg)) (xs ((i + 3).toNatClampNeg))) (cv := Int32.toInt64) (ex := True) h (fun m h1 h2 => q_tAsm h1 h2 (by omega) (xs ((i + 1).toNatClampNeg)) (xs ((i + 2).toNatClampNeg)) (xs ((i + 3).toNatClampNeg))) (fun m h2 => dzj_M279_64 _ _ 40 m h2 (xs ((i + 1).toNatClampNeg)) (xs ((i + 2).toNatClampNeg)) (xs ((i + 3).toNatClampNeg))) (fun x p => q_IVup p)
  have hP9 := q_zp5 h.1 h.2 (by omega) hF (xs ((i + 1).toNatClampNeg)) (xs ((i + 2).toNatClampNeg)) (xs ((i + 3).toNatClampNeg)) e0
  have hP8 := q_PZV (S := S) (m := r1.1) hP9
  exact ⟨_, _, _, hN, hP8, Nat.add_le_add_left hE c, by omega, fun o ho => q_lw5 z L xs S c n i hx0 hx1 hx2 hx3 hi hv r0 e0 r1 e1 ho⟩
theorem q_st6 (h : q_IV k S) (hk : k < 512) (hx : q_XS L i) (hF : q_PZ k (q_vw 172 0 206 S)) (hv : xs i.toNatClampNeg &&& 63 = 6) : q_NX z L xs i S c n k := by
  obtain ⟨hx0, hx1, hx2, hx3, hi⟩ := hx
  obtain ⟨r0, r1, e0, e1, hN, hE, hC, hX⟩ := q_trn (ox := (dz_X6_64_236 (q_vw 172 0 206 S) (xs ((i + 1).toNatClampNeg)))) (F := fun m => dz_M286_64 m (xs ((i + 1).toNatClampNeg))) (cv := Int32.toInt64) (ex := True) h (fun m h1 h2 => q_tWl h1 h2 (xs ((i + 1).toNatClampNeg))) (fun m h2 => dzj_M286_64 _ _ 40 m h2 (xs ((i + 1).toNatClampNeg))) (fun x p => q_IVup p)
  have hP9 := q_zp6 h.1 h.2 (by omega) hF (xs ((i + 1).toNatClampNeg)) e0
  have hP8 := q_PZV (S := S) (m := r1.1) hP9
  exact ⟨_, _, _, hN, hP8, Nat.add_le_add_left hE c, by omega, fun o ho => q_lw6 z L xs S c n i hx0 hx1 hx2 hx3 hi hv r0 e0 r1 e1 ho⟩
theorem q_st7 (h : q_IV k S) (hk : k < 512) (hx : q_XS L i) (hF : q_PZ k (q_vw 172 0 206 S)) (hv : xs i.toNatClampNeg &&& 63 = 7) : q_NX z L xs i S c n k := by
  obtain ⟨hx0, hx1, hx2, hx3, hi⟩ := hx
  obtain ⟨r0, r1, e0, e1, hN, hE, hC, hX⟩ := q_trn (ox := (dz_X7_64_236 (q_vw 172 0 206 S) (xs ((i + 1).toNatClampNeg)))) (F := fun m => dz_M287_64 m (xs ((i + 1).toNatClampNeg))) (cv := Int32.toInt64) (ex := True) h (fun m h1 h2 => q_tLat h1 h2 (xs ((i + 1).toNatClampNeg))) (fun m h2 => dzj_M287_64 _ _ 40 m h2 (xs ((i + 1).toNatClampNeg))) (fun x p => q_IVup p)
  have hP9 := q_zp7 h.1 h.2 (by omega) hF (xs ((i + 1).toNatClampNeg)) e0
  have hP8 := q_PZV (S := S) (m := r1.1) hP9
  exact ⟨_, _, _, hN, hP8, Nat.add_le_add_left hE c, by omega, fun o ho => q_lw7 z L xs S c n i hx0 hx1 hx2 hx3 hi hv r0 e0 r1 e1 ho⟩
theorem q_st8 (h : q_IV k S) (hk : k < 512) (hx : q_XS L i) (hF : q_PZ k (q_vw 172 0 206 S)) (hv : xs i.toNatClampNeg &&& 63 = 8) : q_NX z L xs i S c n k := by
  obtain ⟨hx0, hx1, hx2, hx3, hi⟩ := hx
  obtain ⟨r0, r1, e0, e1, hN, hE, hC, hX⟩ := q_trn (ox := (dz_X8_64_236 (q_vw 172 0 206 S) (xs ((i + 1).toNatClampNeg)) (xs ((i + 2).toNatClampNeg)) (xs ((i + 3).toNatClampNeg)))) (F := fun m => dz_M221_64 m (xs ((i + 1).toNatClampNeg)) (xs ((i + 2).toNatClampNeg)) (xs ((i + 3).toNatClampNeg))) (cv := Int32.toInt64) (ex := True) h (fun m h1 h2 => q_tCmp h1 h2 (xs ((i + 1).toNatClampNeg)) (xs ((i + 2).toNatClampNeg)) (xs ((i + 3).toNatClampNeg))) (fun m h2 => dzj_M221_64 _ _ 40 m h2 (xs ((i + 1).toNatClampNeg)) (xs ((i + 2).toNatClampNeg)) (xs ((i + 3).toNatClampNeg))) (fun x p => q_IVup p.1)
  have hP9 := q_zp8 h.1 h.2 (by omega) hF (xs ((i + 1).toNatClampNeg)) (xs ((i + 2).toNatClampNeg)) (xs ((i + 3).toNatClampNeg)) e0
  have hP8 := q_PZV (S := S) (m := r1.1) hP9
  exact ⟨_, _, _, hN, hP8, Nat.add_le_add_left hE c, by omega, fun o ho => q_lw8 z L xs S c n i hx0 hx1 hx2 hx3 hi hv r0 e0 r1 e1 ho⟩
theorem q_st9 (h : q_IV k S) (hk : k < 512) (hx : q_XS L i) (hF : q_PZ k (q_vw 172 0 206 S)) (hv : xs i.toNatClampNeg &&& 63 = 9) : q_NX z L xs i S c n k := by
  obtain ⟨hx0, hx1, hx2, hx3, hi⟩ := hx
  obtain ⟨r0, r1, e0, e1, hN, hE, hC, hX⟩ := q_trn (ox := (some (dz_X9_64_236 (q_vw 172 0 206 S) (xs ((i + 1).toNatClampNeg))))) (F := fun m => dz_M288_64 m (xs ((i + 1).toNatClampNeg))) (cv := Int32.toInt64) (ex := ((xs ((i + 1).toNatClampNeg)).toInt = 4 → (q_vw 172 0 206 S).2.1 24 7 = 0)) h (fun m h1 h2 => q_tGet h1 h2 (xs ((i + 1).toNatClampNeg))) (fun m h2 => dzj_M288_64 _ _ 40 m h2 (xs ((i + 1).toNatClampNeg))) (fun x p => q_IVup p)
  have hP9 := q_zp9 h.1 h.2 (by omega) hF (xs ((i + 1).toNatClampNeg)) e0
  have hP8 := q_PZV (S := S) (m := r1.1) hP9
  have e0 := Option.some.inj e0
  exact ⟨_, _, _, hN, hP8, Nat.add_le_add_left hE c, by omega, fun o ho => q_lw9 z L xs S c n i hx0 hx1 hx2 hx3 hi hv r0 e0 r1 e1 ho⟩
theorem q_st10 (h : q_IV k S) (hk : k < 512) (hx : q_XS L i) (hF : q_PZ k (q_vw 172 0 206 S)) (hv : xs i.toNatClampNeg &&& 63 = 10) : q_NX z L xs i S c n k := by
  obtain ⟨hx0, hx1, hx2, hx3, hi⟩ := hx
  obtain ⟨r0, r1, e0, e1, hN, hE, hC, hX⟩ := q_trn (ox := (dz_X10_64_236 (q_vw 172 0 206 S) (xs ((i + 1).toNatClampNeg)) (xs ((i + 2).toNatClampNeg)))) (F := fun m => dz_M289_64 m (xs ((i + 1).toNatClampNeg)) (xs ((i + 2).toNatClampNeg))) (cv := Int32.toInt64) (ex := ((xs ((i + 1).toNatClampNeg)).toInt = 4 → (q_vw 172 0 206 S).2.1 24 7 = 0)) h (fun m h1 h2 => q_tReg h1 h2 (by omega) (xs ((i + 1).toNatClampNeg)) (xs ((i + 2).toNatClampNeg))) (fun m h2 => dzj_M289_64 _ _ 40 m h2 (xs ((i + 1).toNatClampNeg)) (xs ((i + 2).toNatClampNeg))) (fun x p => q_IVup p)
  have hP9 := q_zp10 h.1 h.2 (by omega) hF (xs ((i + 1).toNatClampNeg)) (xs ((i + 2).toNatClampNeg)) e0
  have hP8 := q_PZV (S := S) (m := r1.1) hP9
  exact ⟨_, _, _, hN, hP8, Nat.add_le_add_left hE c, by omega, fun o ho => q_lw10 z L xs S c n i hx0 hx1 hx2 hx3 hi hv r0 e0 r1 e1 ho⟩
theorem q_st11 (h : q_IV k S) (hk : k < 512) (hx : q_XS L i) (hF : q_PZ k (q_vw 172 0 206 S)) (hv : xs i.toNatClampNeg &&& 63 = 11) : q_NX z L xs i S c n k := by
  obtain ⟨hx0, hx1, hx2, hx3, hi⟩ := hx
  have e0 := q_tSta h.1 h.2
  exact ⟨_, _, _, q_rdn h, q_PZR (S := S) hF, Nat.le_add_right c 1, Nat.le_add_right n 6, fun o ho => q_lw11 z L xs S c n i hx0 hx1 hx2 hx3 hi hv _ e0 ho⟩
theorem q_st12 (h : q_IV k S) (hk : k < 512) (hx : q_XS L i) (hF : q_PZ k (q_vw 172 0 206 S)) (hv : xs i.toNatClampNeg &&& 63 = 12) : q_NX z L xs i S c n k := by
  obtain ⟨hx0, hx1, hx2, hx3, hi⟩ := hx
  have hk9 : (k : Int) < 512 := by omega
  have hk8 : 0 ≤ (k : Int) := by omega
  obtain ⟨r0, r1, e0, e1, hN, hQ⟩ := q_trw (ox := dz_X40_64 (q_vw 172 0 206 S)) (F := fun m => dz_M291_64 m) (Q := fun r0 r1 => r1.1.2.1 0 39 = 0 ∧ r0.2 = r1.2) h (fun m h1 h2 => q_tRes h1 h2 hk9) (fun m h2 => dzj_M291_64 _ _ 40 m h2) (fun x p => q_IVup p)
  have hP9 := q_zp12 h.1 h.2 (by omega) hF e0
  have hP8 := q_PZV (S := S) (m := r1.1) hP9
  exact ⟨_, _, _, hN, hP8, Nat.le_add_right c 1, Nat.le_add_right n 6, fun o ho => q_lw12 z L xs S c n i hx0 hx1 hx2 hx3 hi hv r0 e0 r1 e1 ho⟩
theorem q_st13 (h : q_IV k S) (hk : k < 512) (hx : q_XS L i) (hF : q_PZ k (q_vw 172 0 206 S)) (hv : xs i.toNatClampNeg &&& 63 = 13) : q_NX z L xs i S c n k := by
  obtain ⟨hx0, hx1, hx2, hx3, hi⟩ := hx
  have hk9 : (k : Int) < 512 := by omega
  have hk8 : 0 ≤ (k : Int) := by omega
  obtain ⟨r0, r1, e0, e1, hN, hQ⟩ := q_trw (ox := dz_X41_64 (q_vw 172 0 206 S)) (F := fun m => some (dz_M292_64 m)) (Q := fun r0 r1 => r1.1.2.1 0 39 = 0 ∧ r0.2 = r1.2) h (fun m h1 h2 => by
    obtain ⟨r0, r1, e0, e1, g⟩ := q_tFrz h1 h2 hk9
    exact ⟨r0, r1, e0, congrArg some e1, g⟩) (fun m h2 => q_E_x (dzj_M292_64 _ _ 40 m h2)) (fun x p => q_IVup p)
  have hP9 := q_zp13 h.1 h.2 (by omega) hF e0
  have hP8 := q_PZV (S := S) (m := r1.1) hP9
  have e1 := Option.some.inj e1
  exact ⟨_, _, _, hN, hP8, Nat.le_add_right c 1, Nat.le_add_right n 6, fun o ho => q_lw13 z L xs S c n i hx0 hx1 hx2 hx3 hi hv r0 e0 r1 e1 ho⟩
theorem q_st14 (h : q_IV k S) (hk : k < 512) (hx : q_XS L i) (hF : q_PZ k (q_vw 172 0 206 S)) (hv : xs i.toNatClampNeg &&& 63 = 14) : q_NX z L xs i S c n k := by
  obtain ⟨hx0, hx1, hx2, hx3, hi⟩ := hx
  obtain ⟨r0, r1, e0, e1, hN, hE, hC, hX⟩ := q_trn (ox := (dz_X11_64_236 (q_vw 172 0 206 S) (xs ((i + 1).toNatClampNeg)))) (F := fun m => dz_M236_64 m (xs ((i + 1).toNatClampNeg))) (cv := Int32.toInt64) (ex := True) h (fun m h1 h2 => q_tRun h1 h2 (by omega) (xs ((i + 1).toNatClampNeg)) (by omega) (by omega)) (fun m h2 => dzj_M236_64 _ _ 40 ⟨by omega, by omega⟩ m h2 (xs ((i + 1).toNatClampNeg))) (fun x p => q_Iv_mono p (by omega) (by omega) (Int.le_refl _))
  have hP9 := q_zp14 h.1 h.2 (by omega) hF (by omega) (by omega) (xs ((i + 1).toNatClampNeg)) e0
  have hP8 := q_PZV (S := S) (m := r1.1) hP9
  exact ⟨_, _, _, hN, hP8, Nat.add_le_add_left hE c, by omega, fun o ho => q_lw14 z L xs S c n i hx0 hx1 hx2 hx3 hi hv r0 e0 r1 e1 ho⟩
theorem q_st15 (h : q_IV k S) (hk : k < 512) (hx : q_XS L i) (hF : q_PZ k (q_vw 172 0 206 S)) (hv : xs i.toNatClampNeg &&& 63 = 15) : q_NX z L xs i S c n k := by
  obtain ⟨hx0, hx1, hx2, hx3, hi⟩ := hx
  obtain ⟨r0, r1, e0, e1, hN, hE, hC, hX⟩ := q_trn (ox := (dz_X12_64_236 (q_vw 172 0 206 S))) (F := fun m => dz_M237_64 m) (cv := Int32.toInt64) (ex := True) h (fun m h1 h2 => q_tStep h1 h2 (by omega) (by omega) (by omega)) (fun m h2 => dzj_M237_64 _ _ 40 ⟨by omega, by omega⟩ m h2) (fun x p => q_Iv_mono p (by omega) (by omega) (Int.le_refl _))
  have hP9 := q_zp15 h.1 h.2 (by omega) hF (by omega) (by omega) e0
  have hP8 := q_PZV (S := S) (m := r1.1) hP9
  exact ⟨_, _, _, hN, hP8, Nat.add_le_add_left hE c, by omega, fun o ho => q_lw15 z L xs S c n i hx0 hx1 hx2 hx3 hi hv r0 e0 r1 e1 ho⟩
theorem q_st16 (h : q_IV k S) (hk : k < 512) (hx : q_XS L i) (hF : q_PZ k (q_vw 172 0 206 S)) (hv : xs i.toNatClampNeg &&& 63 = 16) : q_NX z L xs i S c n k := by
  obtain ⟨hx0, hx1, hx2, hx3, hi⟩ := hx
  have e0 := q_tCyc h.1
  exact ⟨_, _, _, q_rdn h, q_PZR (S := S) hF, Nat.le_add_right c 1, Nat.le_add_right n 6, fun o ho => q_lw16 z L xs S c n i hx0 hx1 hx2 hx3 hi hv _ e0 ho⟩
theorem q_st17 (h : q_IV k S) (hk : k < 512) (hx : q_XS L i) (hF : q_PZ k (q_vw 172 0 206 S)) (hv : xs i.toNatClampNeg &&& 63 = 17) : q_NX z L xs i S c n k := by
  obtain ⟨hx0, hx1, hx2, hx3, hi⟩ := hx
  obtain ⟨b, e0, e1⟩ := q_tIsP h.1 h.2
  exact ⟨_, _, _, q_rdn h, q_PZR (S := S) hF, Nat.le_add_right c 1, Nat.le_add_right n 6, fun o ho => q_lw17 z L xs S c n i hx0 hx1 hx2 hx3 hi hv _ e0 _ e1 ho⟩
theorem q_st18 (h : q_IV k S) (hk : k < 512) (hx : q_XS L i) (hF : q_PZ k (q_vw 172 0 206 S)) (hv : xs i.toNatClampNeg &&& 63 = 18) : q_NX z L xs i S c n k := by
  obtain ⟨hx0, hx1, hx2, hx3, hi⟩ := hx
  have e0 := q_tUnd h.1
  exact ⟨_, _, _, q_rdn h, q_PZR (S := S) hF, Nat.le_add_right c 1, Nat.le_add_right n 6, fun o ho => q_lw18 z L xs S c n i hx0 hx1 hx2 hx3 hi hv _ e0 ho⟩
theorem q_st19 (h : q_IV k S) (hk : k < 512) (hx : q_XS L i) (hF : q_PZ k (q_vw 172 0 206 S)) (hv : xs i.toNatClampNeg &&& 63 = 19) : q_NX z L xs i S c n k := by
  obtain ⟨hx0, hx1, hx2, hx3, hi⟩ := hx
  have e0 := q_tDon h.1
  exact ⟨_, _, _, q_rdn h, q_PZR (S := S) hF, Nat.le_add_right c 1, Nat.le_add_right n 6, fun o ho => q_lw19 z L xs S c n i hx0 hx1 hx2 hx3 hi hv _ e0 ho⟩
theorem q_st20 (h : q_IV k S) (hk : k < 512) (hx : q_XS L i) (hF : q_PZ k (q_vw 172 0 206 S)) (hv : xs i.toNatClampNeg &&& 63 = 20) : q_NX z L xs i S c n k := by
  obtain ⟨hx0, hx1, hx2, hx3, hi⟩ := hx
  obtain ⟨b, e0, e1⟩ := q_tJam h.1 h.2
  exact ⟨_, _, _, q_rdn h, q_PZR (S := S) hF, Nat.le_add_right c 1, Nat.le_add_right n 6, fun o ho => q_lw20 z L xs S c n i hx0 hx1 hx2 hx3 hi hv _ e0 _ e1 ho⟩
theorem q_st21 (h : q_IV k S) (hk : k < 512) (hx : q_XS L i) (hF : q_PZ k (q_vw 172 0 206 S)) (hv : xs i.toNatClampNeg &&& 63 = 21) : q_NX z L xs i S c n k := by
  obtain ⟨hx0, hx1, hx2, hx3, hi⟩ := hx
  obtain ⟨r0, r1, e0, e1, hN, hE, hC, hX⟩ := q_trn (ox := (some (dz_X13_64_236 (q_vw 172 0 206 S) (xs ((i + 1).toNatClampNeg))))) (F := fun m => dz_M243_64 m (xs ((i + 1).toNatClampNeg))) (cv := Int32.toInt64) (ex := True) h (fun m h1 h2 => q_tTra h1 h2 (by omega) (xs ((i + 1).toNatClampNeg))) (fun m h2 => dzj_M243_64 _ _ 40 (by omega) m h2 (xs ((i + 1).toNatClampNeg))) (fun x p => q_IVup p)
  have hP9 := q_zp21 h.1 h.2 (by omega) hF (xs ((i + 1).toNatClampNeg)) e0
  have hP8 := q_PZV (S := S) (m := r1.1) hP9
  have e0 := Option.some.inj e0
  exact ⟨_, _, _, hN, hP8, Nat.add_le_add_left hE c, by omega, fun o ho => q_lw21 z L xs S c n i hx0 hx1 hx2 hx3 hi hv r0 e0 r1 e1 ho⟩
theorem q_st22 (h : q_IV k S) (hk : k < 512) (hx : q_XS L i) (hF : q_PZ k (q_vw 172 0 206 S)) (hv : xs i.toNatClampNeg &&& 63 = 22) : q_NX z L xs i S c n k := by
  obtain ⟨hx0, hx1, hx2, hx3, hi⟩ := hx
  obtain ⟨r0, r1, e0, e1, hN, hE, hC, hX⟩ := q_trn (ox := (some (dz_X14_64_236 (q_vw 172 0 206 S) (xs ((i + 1).toNatClampNeg)) (xs ((i + 2).toNatClampNeg))))) (F := fun m => dz_M294_64 m (xs ((i + 1).toNatClampNeg)) (xs ((i + 2).toNatClampNeg))) (cv := Int32.toInt64) (ex := True) h (fun m h1 h2 => q_tPix h1 h2 (xs ((i + 1).toNatClampNeg)) (xs ((i + 2).toNatClampNeg))) (fun m h2 => dzj_M294_64 _ _ 40 m h2 (xs ((i + 1).toNatClampNeg)) (xs ((i + 2).toNatClampNeg))) (fun x p => q_IVup p)
  have hP9 := q_zp22 h.1 h.2 (by omega) hF (xs ((i + 1).toNatClampNeg)) (xs ((i + 2).toNatClampNeg)) e0
  have hP8 := q_PZV (S := S) (m := r1.1) hP9
  have e0 := Option.some.inj e0
  exact ⟨_, _, _, hN, hP8, Nat.add_le_add_left hE c, by omega, fun o ho => q_lw22 z L xs S c n i hx0 hx1 hx2 hx3 hi hv r0 e0 r1 e1 ho⟩
theorem q_st23 (h : q_IV k S) (hk : k < 512) (hx : q_XS L i) (hF : q_PZ k (q_vw 172 0 206 S)) (hv : xs i.toNatClampNeg &&& 63 = 23) : q_NX z L xs i S c n k := by
  obtain ⟨hx0, hx1, hx2, hx3, hi⟩ := hx
  obtain ⟨r0, r1, e0, e1, hN, hE, hC, hX⟩ := q_trn (ox := (dz_X15_64_236 (q_vw 172 0 206 S) (xs ((i + 1).toNatClampNeg)) (xs ((i + 2).toNatClampNeg)))) (F := fun m => dz_M295_64 m (xs ((i + 1).toNatClampNeg)) (xs ((i + 2).toNatClampNeg))) (cv := Int32.toInt64) (ex := True) h (fun m h1 h2 => q_tAgnP h1 h2 (by omega) hF (xs ((i + 1).toNatClampNeg)) (xs ((i + 2).toNatClampNeg))) (fun m h2 => dzj_M295_64 _ _ 40 m h2 (xs ((i + 1).toNatClampNeg)) (xs ((i + 2).toNatClampNeg))) (fun x p => q_IVup p)
  have hP9 := q_zp23 h.1 h.2 (by omega) hF (xs ((i + 1).toNatClampNeg)) (xs ((i + 2).toNatClampNeg)) e0
  have hP8 := q_PZV (S := S) (m := r1.1) hP9
  have hT : decide (dz_M199_64 (q_vw 34 172 0 (q_pt 34 0 172 0 (q_pt 172 1 0 206 S r0.1) r1.1)) = r0.2.1) = true := decide_eq_true hC
  cases hk0 : decide (r0.2.1 = 0) with
  | false => exact ⟨_, _, _, hN, hP8, Nat.add_le_add_left hE c, by omega, fun o ho => q_lw23tf z L xs S c n i hx0 hx1 hx2 hx3 hi hv r0 e0 r1 e1 hT hk0 ho⟩
  | true =>
    have hV := hX trivial (of_decide_eq_true hk0)
    have hO : (q_pt 34 0 172 0 (q_pt 172 1 0 206 S r0.1) r1.1).2.2 206 0 = r0.1.2.2 172 0 := rfl
    exact ⟨_, _, _, hN, hP8, Nat.add_le_add_left hE c, by omega, fun o ho => q_lw23ttt z L xs S c n i hx0 hx1 hx2 hx3 hi hv r0 e0 r1 e1 hT hk0 (by
      show decide (lg_cmp (((q_pt 34 0 172 0 (q_pt 172 1 0 206 S r0.1) r1.1).2.2 206) 0) r1.2.toInt64 = 0) = true
      rw [hO, hV]
      exact q_cmp0 _) ho⟩
theorem q_st24 (h : q_IV k S) (hk : k < 512) (hx : q_XS L i) (hF : q_PZ k (q_vw 172 0 206 S)) (hv : xs i.toNatClampNeg &&& 63 = 24) : q_NX z L xs i S c n k := by
  obtain ⟨hx0, hx1, hx2, hx3, hi⟩ := hx
  obtain ⟨r0, r1, e0, e1, hN, hE, hC, hX⟩ := q_trn (ox := (some (dz_X16_64_236 (q_vw 172 0 206 S) (xs ((i + 1).toNatClampNeg))))) (F := fun m => dz_M296_64 m (xs ((i + 1).toNatClampNeg))) (cv := Int32.toInt64) (ex := True) h (fun m h1 h2 => q_tSmp h1 h2 (xs ((i + 1).toNatClampNeg))) (fun m h2 => dzj_M296_64 _ _ 40 m h2 (xs ((i + 1).toNatClampNeg))) (fun x p => q_IVup p)
  have hP9 := q_zp24 h.1 h.2 (by omega) hF (xs ((i + 1).toNatClampNeg)) e0
  have hP8 := q_PZV (S := S) (m := r1.1) hP9
  have e0 := Option.some.inj e0
  exact ⟨_, _, _, hN, hP8, Nat.add_le_add_left hE c, by omega, fun o ho => q_lw24 z L xs S c n i hx0 hx1 hx2 hx3 hi hv r0 e0 r1 e1 ho⟩
theorem q_st25 (h : q_IV k S) (hk : k < 512) (hx : q_XS L i) (hF : q_PZ k (q_vw 172 0 206 S)) (hv : xs i.toNatClampNeg &&& 63 = 25) : q_NX z L xs i S c n k := by
  obtain ⟨hx0, hx1, hx2, hx3, hi⟩ := hx
  obtain ⟨r0, r1, e0, e1, hN, hE, hC, hX⟩ := q_trn (ox := (some (dz_X17_64_236 (q_vw 172 0 206 S) (xs ((i + 1).toNatClampNeg))))) (F := fun m => dz_M297_64 m (xs ((i + 1).toNatClampNeg))) (cv := Int32.toInt64) (ex := True) h (fun m h1 h2 => q_tLvl h1 h2 (xs ((i + 1).toNatClampNeg))) (fun m h2 => dzj_M297_64 _ _ 40 m h2 (xs ((i + 1).toNatClampNeg))) (fun x p => q_IVup p)
  have hP9 := q_zp25 h.1 h.2 (by omega) hF (xs ((i + 1).toNatClampNeg)) e0
  have hP8 := q_PZV (S := S) (m := r1.1) hP9
  have e0 := Option.some.inj e0
  exact ⟨_, _, _, hN, hP8, Nat.add_le_add_left hE c, by omega, fun o ho => q_lw25 z L xs S c n i hx0 hx1 hx2 hx3 hi hv r0 e0 r1 e1 ho⟩
theorem q_st26t (h : q_IV k S) (hk : k < 512) (hx : q_XS L i) (hF : q_PZ k (q_vw 172 0 206 S)) (hv : xs i.toNatClampNeg &&& 63 = 26) (hc0 : decide (xs ((i + 3).toNatClampNeg) = 0) = true) : q_NX z L xs i S c n k := by
  obtain ⟨hx0, hx1, hx2, hx3, hi⟩ := hx
  obtain ⟨r0, r1, e0, e1, hN, hE, hC, hX⟩ := q_trn (ox := (dz_X18_64_f_236 (q_vw 172 0 206 S) (xs ((i + 1).toNatClampNeg)) (xs ((i + 2).toNatClampNeg)))) (F := fun m => dz_M298_64 m (xs ((i + 1).toNatClampNeg)) (xs ((i + 2).toNatClampNeg)) 0) (cv := q_kb) (ex := True) h (fun m h1 h2 => q_tKeyf h1 h2 (by omega) (xs ((i + 1).toNatClampNeg)) (xs ((i + 2).toNatClampNeg))) (fun m h2 => dzj_M298_64 _ _ 40 m h2 (xs ((i + 1).toNatClampNeg)) (xs ((i + 2).toNatClampNeg)) 0 ⟨by decide, by decide⟩) (fun x p => q_IVup p)
  have hP9 := q_zp26f h.1 h.2 (by omega) hF (xs ((i + 1).toNatClampNeg)) (xs ((i + 2).toNatClampNeg)) e0
  have hP8 := q_PZV (S := S) (m := r1.1) hP9
  exact ⟨_, _, _, hN, hP8, Nat.add_le_add_left hE c, by omega, fun o ho => q_lw26t z L xs S c n i hx0 hx1 hx2 hx3 hi hv r0 e0 r1 e1 hc0 ho⟩
theorem q_st26f (h : q_IV k S) (hk : k < 512) (hx : q_XS L i) (hF : q_PZ k (q_vw 172 0 206 S)) (hv : xs i.toNatClampNeg &&& 63 = 26) (hc0 : decide (xs ((i + 3).toNatClampNeg) = 0) = false) : q_NX z L xs i S c n k := by
  obtain ⟨hx0, hx1, hx2, hx3, hi⟩ := hx
  obtain ⟨r0, r1, e0, e1, hN, hE, hC, hX⟩ := q_trn (ox := (dz_X18_64_t_236 (q_vw 172 0 206 S) (xs ((i + 1).toNatClampNeg)) (xs ((i + 2).toNatClampNeg)))) (F := fun m => dz_M298_64 m (xs ((i + 1).toNatClampNeg)) (xs ((i + 2).toNatClampNeg)) 1) (cv := q_kb) (ex := True) h (fun m h1 h2 => q_tKeyt h1 h2 (by omega) (xs ((i + 1).toNatClampNeg)) (xs ((i + 2).toNatClampNeg))) (fun m h2 => dzj_M298_64 _ _ 40 m h2 (xs ((i + 1).toNatClampNeg)) (xs ((i + 2).toNatClampNeg)) 1 ⟨by decide, by decide⟩) (fun x p => q_IVup p)
  have hP9 := q_zp26t h.1 h.2 (by omega) hF (xs ((i + 1).toNatClampNeg)) (xs ((i + 2).toNatClampNeg)) e0
  have hP8 := q_PZV (S := S) (m := r1.1) hP9
  exact ⟨_, _, _, hN, hP8, Nat.add_le_add_left hE c, by omega, fun o ho => q_lw26f z L xs S c n i hx0 hx1 hx2 hx3 hi hv r0 e0 r1 e1 hc0 ho⟩
theorem q_st27 (h : q_IV k S) (hk : k < 512) (hx : q_XS L i) (hF : q_PZ k (q_vw 172 0 206 S)) (hv : xs i.toNatClampNeg &&& 63 = 27) : q_NX z L xs i S c n k := by
  obtain ⟨hx0, hx1, hx2, hx3, hi⟩ := hx
  obtain ⟨r0, r1, e0, e1, hN, hE, hC, hX⟩ := q_trn (ox := (some (dz_X19_64_236 (q_vw 172 0 206 S) (xs ((i + 1).toNatClampNeg))))) (F := fun m => dz_M299_64 m (xs ((i + 1).toNatClampNeg))) (cv := Int32.toInt64) (ex := True) h (fun m h1 h2 => q_tCol h1 h2 (xs ((i + 1).toNatClampNeg))) (fun m h2 => dzj_M299_64 _ _ 40 m h2 (xs ((i + 1).toNatClampNeg))) (fun x p => q_IVup p)
  have hP9 := q_zp27 h.1 h.2 (by omega) hF (xs ((i + 1).toNatClampNeg)) e0
  have hP8 := q_PZV (S := S) (m := r1.1) hP9
  have e0 := Option.some.inj e0
  exact ⟨_, _, _, hN, hP8, Nat.add_le_add_left hE c, by omega, fun o ho => q_lw27 z L xs S c n i hx0 hx1 hx2 hx3 hi hv r0 e0 r1 e1 ho⟩
theorem q_st28 (h : q_IV k S) (hk : k < 512) (hx : q_XS L i) (hF : q_PZ k (q_vw 172 0 206 S)) (hv : xs i.toNatClampNeg &&& 63 = 28) : q_NX z L xs i S c n k := by
  obtain ⟨hx0, hx1, hx2, hx3, hi⟩ := hx
  obtain ⟨r0, r1, e0, e1, hN, hE, hC, hX⟩ := q_trn (ox := (dz_X20_64_236 (q_vw 172 0 206 S) (xs ((i + 1).toNatClampNeg)))) (F := fun m => some (dz_M300_64 m (xs ((i + 1).toNatClampNeg)))) (cv := Int32.toInt64) (ex := True) h (fun m h1 h2 => q_tJoy h1 h2 (by omega) (xs ((i + 1).toNatClampNeg))) (fun m h2 => q_E_x (dzj_M300_64 _ _ 40 m h2 (xs ((i + 1).toNatClampNeg)))) (fun x p => q_IVup p)
  have hP9 := q_zp28 h.1 h.2 (by omega) hF (xs ((i + 1).toNatClampNeg)) e0
  have hP8 := q_PZV (S := S) (m := r1.1) hP9
  have e1 := Option.some.inj e1
  exact ⟨_, _, _, hN, hP8, Nat.add_le_add_left hE c, by omega, fun o ho => q_lw28 z L xs S c n i hx0 hx1 hx2 hx3 hi hv r0 e0 r1 e1 ho⟩
end
end
section
-- 58.ab
section
variable {z L : Nat} {xs : Nat → Int32} {S : q_S} {c n k : Nat} {i : Int32}
theorem q_st29 (h : q_IV k S) (hk : k < 512) (hx : q_XS L i) (hF : q_PZ k (q_vw 172 0 206 S)) (hv : xs i.toNatClampNeg &&& 63 = 29) : q_NX z L xs i S c n k := by
  obtain ⟨hx0, hx1, hx2, hx3, hi⟩ := hx
  obtain ⟨r0, r1, e0, e1, hN, hE, hC, hX⟩ := q_trn (ox := (dz_X21_64_236 (q_vw 172 0 206 S) (xs ((i + 1).toNatClampNeg)))) (F := fun m => dz_M301_64 m (xs ((i + 1).toNatClampNeg))) (cv := Int32.toInt64) (ex := True) h (fun m h1 h2 => q_tPul h1 h2 (by omega) (xs ((i + 1).toNatClampNeg))) (fun m h2 => dzj_M301_64 _ _ 40 m h2 (xs ((i + 1).toNatClampNeg))) (fun x p => q_IVup p)
  have hP9 := q_zp29 h.1 h.2 (by omega) hF (xs ((i + 1).toNatClampNeg)) e0
  have hP8 := q_PZV (S := S) (m := r1.1) hP9
  exact ⟨_, _, _, hN, hP8, Nat.add_le_add_left hE c, by omega, fun o ho => q_lw29 z L xs S c n i hx0 hx1 hx2 hx3 hi hv r0 e0 r1 e1 ho⟩
theorem q_st30 (h : q_IV k S) (hk : k < 512) (hx : q_XS L i) (hF : q_PZ k (q_vw 172 0 206 S)) (hv : xs i.toNatClampNeg &&& 63 = 30) : q_NX z L xs i S c n k := by
  obtain ⟨hx0, hx1, hx2, hx3, hi⟩ := hx
  have hk9 : (k : Int) < 512 := by omega
  have hk8 : 0 ≤ (k : Int) := by omega
  obtain ⟨r0, r1, e0, e1, hN, hQ⟩ := q_trw (ox := dz_X58_64 (q_vw 172 0 206 S)) (F := fun m => some (dz_M302_64 m)) (Q := fun r0 r1 => r1.1.2.1 0 39 = 0 ∧ r0.2 = r1.2) h (fun m h1 h2 => by
    obtain ⟨r0, r1, e0, e1, g⟩ := q_tRew h1 h2 hk9
    exact ⟨r0, r1, e0, congrArg some e1, g⟩) (fun m h2 => q_E_x (dzj_M302_64 _ _ 40 m h2)) (fun x p => q_IVup p)
  have hP9 := q_zp30 h.1 h.2 (by omega) hF e0
  have hP8 := q_PZV (S := S) (m := r1.1) hP9
  have e1 := Option.some.inj e1
  exact ⟨_, _, _, hN, hP8, Nat.le_add_right c 1, Nat.le_add_right n 6, fun o ho => q_lw30 z L xs S c n i hx0 hx1 hx2 hx3 hi hv r0 e0 r1 e1 ho⟩
theorem q_st31 (h : q_IV k S) (hk : k < 512) (hx : q_XS L i) (hF : q_PZ k (q_vw 172 0 206 S)) (hv : xs i.toNatClampNeg &&& 63 = 31) : q_NX z L xs i S c n k := by
  obtain ⟨hx0, hx1, hx2, hx3, hi⟩ := hx
  have e0 := q_tLft h.1
  exact ⟨_, _, _, q_rdn h, q_PZR (S := S) hF, Nat.le_add_right c 1, Nat.le_add_right n 6, fun o ho => q_lw31 z L xs S c n i hx0 hx1 hx2 hx3 hi hv _ e0 ho⟩
theorem q_st32 (h : q_IV k S) (hk : k < 512) (hx : q_XS L i) (hF : q_PZ k (q_vw 172 0 206 S)) (hv : xs i.toNatClampNeg &&& 63 = 32) : q_NX z L xs i S c n k := by
  obtain ⟨hx0, hx1, hx2, hx3, hi⟩ := hx
  obtain ⟨r0, r1, e0, e1, hN, hE, hC, hX⟩ := q_trn (ox := (dz_X22_64_236 (q_vw 172 0 206 S))) (F := fun m => dz_M306_64 m) (cv := Int32.toInt64) (ex := True) h (fun m h1 h2 => q_tSav h1 h2) (fun m h2 => dzj_M306_64 _ _ 40 m h2) (fun x p => q_IVup p)
  have hP9 := q_zp32 h.1 h.2 (by omega) hF e0
  have hP8 := q_PZV (S := S) (m := r1.1) hP9
  exact ⟨_, _, _, hN, hP8, Nat.add_le_add_left hE c, by omega, fun o ho => q_lw32 z L xs S c n i hx0 hx1 hx2 hx3 hi hv r0 e0 r1 e1 ho⟩
theorem q_st33 (h : q_IV k S) (hk : k < 512) (hx : q_XS L i) (hF : q_PZ k (q_vw 172 0 206 S)) (hv : xs i.toNatClampNeg &&& 63 = 33) : q_NX z L xs i S c n k := by
  obtain ⟨hx0, hx1, hx2, hx3, hi⟩ := hx
  obtain ⟨r0, r1, e0, e1, hN, hE, hC, hX⟩ := q_trn (ox := (dz_X23_64_236 (q_vw 172 0 206 S) (xs ((i + 1).toNatClampNeg)))) (F := fun m => dz_M308_64 m (xs ((i + 1).toNatClampNeg))) (cv := Int32.toInt64) (ex := True) h (fun m h1 h2 => q_tRst h1 h2 (xs ((i + 1).toNatClampNeg))) (fun m h2 => dzj_M308_64 _ _ 40 m h2 (xs ((i + 1).toNatClampNeg))) (fun x p => q_IVup p)
  have hP9 := q_zp33 h.1 h.2 (by omega) hF (xs ((i + 1).toNatClampNeg)) e0
  have hP8 := q_PZV (S := S) (m := r1.1) hP9
  exact ⟨_, _, _, hN, hP8, Nat.add_le_add_left hE c, by omega, fun o ho => q_lw33 z L xs S c n i hx0 hx1 hx2 hx3 hi hv r0 e0 r1 e1 ho⟩
theorem q_st34 (h : q_IV k S) (hk : k < 512) (hx : q_XS L i) (hF : q_PZ k (q_vw 172 0 206 S)) (hv : xs i.toNatClampNeg &&& 63 = 34) : q_NX z L xs i S c n k := by
  obtain ⟨hx0, hx1, hx2, hx3, hi⟩ := hx
  obtain ⟨r0, r1, e0, e1, hN, hE, hC, hX⟩ := q_trn (ox := (dz_X24_64_236 (q_vw 172 0 206 S) (xs ((i + 1).toNatClampNeg)))) (F := fun m => dz_M309_64 m (xs ((i + 1).toNatClampNeg))) (cv := Int32.toInt64) (ex := True) h (fun m h1 h2 => q_tDif h1 h2 (xs ((i + 1).toNatClampNeg))) (fun m h2 => dzj_M309_64 _ _ 40 m h2 (xs ((i + 1).toNatClampNeg))) (fun x p => q_IVup p)
  have hP9 := q_zp34 h.1 h.2 (by omega) hF (xs ((i + 1).toNatClampNeg)) e0
  have hP8 := q_PZV (S := S) (m := r1.1) hP9
  exact ⟨_, _, _, hN, hP8, Nat.add_le_add_left hE c, by omega, fun o ho => q_lw34 z L xs S c n i hx0 hx1 hx2 hx3 hi hv r0 e0 r1 e1 ho⟩
theorem q_st35 (h : q_IV k S) (hk : k < 512) (hx : q_XS L i) (hF : q_PZ k (q_vw 172 0 206 S)) (hv : xs i.toNatClampNeg &&& 63 = 35) : q_NX z L xs i S c n k := by
  obtain ⟨hx0, hx1, hx2, hx3, hi⟩ := hx
  have hk9 : (k : Int) < 512 := by omega
  have hk8 : 0 ≤ (k : Int) := by omega
  obtain ⟨r0, r1, e0, e1, hN, hQ⟩ := q_trw (ox := dz_X63_64 (q_vw 172 0 206 S)) (F := fun m => some (dz_M310_64 m)) (Q := fun r0 r1 => r1.1.2.1 0 39 = 0 ∧ r0.2 = r1.2) h (fun m h1 h2 => by
    obtain ⟨r0, r1, e0, e1, g⟩ := q_tSrc h1 h2 hk8
    exact ⟨r0, r1, e0, congrArg some e1, g⟩) (fun m h2 => q_E_x (dzj_M310_64 _ _ 40 m h2)) (fun x p => q_IVup p)
  have hP9 := q_zp35 h.1 h.2 (by omega) hF e0
  have hP8 := q_PZV (S := S) (m := r1.1) hP9
  have e1 := Option.some.inj e1
  exact ⟨_, _, _, hN, hP8, Nat.le_add_right c 1, Nat.le_add_right n 6, fun o ho => q_lw35 z L xs S c n i hx0 hx1 hx2 hx3 hi hv r0 e0 r1 e1 ho⟩
theorem q_st36 (h : q_IV k S) (hk : k < 512) (hx : q_XS L i) (hF : q_PZ k (q_vw 172 0 206 S)) (hv : xs i.toNatClampNeg &&& 63 = 36) : q_NX z L xs i S c n k := by
  obtain ⟨hx0, hx1, hx2, hx3, hi⟩ := hx
  obtain ⟨r0, r1, e0, e1, hN, hE, hC, hX⟩ := q_trn (ox := (some (dz_X25_64_236 (q_vw 172 0 206 S)))) (F := fun m => some (dz_M311_64 m)) (cv := Int32.toInt64) (ex := True) h (fun m h1 h2 => q_tRcd h1) (fun m h2 => q_E_x (dzj_M311_64 _ _ 40 m h2)) (fun x p => q_IVup p)
  have hP9 := q_zp36 h.1 h.2 (by omega) hF e0
  have hP8 := q_PZV (S := S) (m := r1.1) hP9
  have e0 := Option.some.inj e0
  have e1 := Option.some.inj e1
  exact ⟨_, _, _, hN, hP8, Nat.add_le_add_left hE c, by omega, fun o ho => q_lw36 z L xs S c n i hx0 hx1 hx2 hx3 hi hv r0 e0 r1 e1 ho⟩
theorem q_st37 (h : q_IV k S) (hk : k < 512) (hx : q_XS L i) (hF : q_PZ k (q_vw 172 0 206 S)) (hv : xs i.toNatClampNeg &&& 63 = 37) : q_NX z L xs i S c n k := by
  obtain ⟨hx0, hx1, hx2, hx3, hi⟩ := hx
  obtain ⟨r0, r1, e0, e1, hN, hE, hC, hX⟩ := q_trn (ox := (dz_X26_64_236 (q_vw 172 0 206 S))) (F := fun m => some (dz_M312_64 m)) (cv := q_kb) (ex := False) h (fun m h1 h2 => q_tSam h1 h2 (by omega)) (fun m h2 => q_E_x (dzj_M312_64 _ _ 40 m h2)) (fun x p => q_IVup p)
  have hP9 := q_zp37 h.1 h.2 (by omega) hF e0
  have hP8 := q_PZV (S := S) (m := r1.1) hP9
  have e1 := Option.some.inj e1
  exact ⟨_, _, _, hN, hP8, Nat.add_le_add_left hE c, by omega, fun o ho => q_lw37 z L xs S c n i hx0 hx1 hx2 hx3 hi hv r0 e0 r1 e1 ho⟩
theorem q_st38 (h : q_IV k S) (hk : k < 512) (hx : q_XS L i) (hF : q_PZ k (q_vw 172 0 206 S)) (hv : xs i.toNatClampNeg &&& 63 = 38) : q_NX z L xs i S c n k := by
  obtain ⟨hx0, hx1, hx2, hx3, hi⟩ := hx
  obtain ⟨r, e0, e1⟩ := q_tSum h.1
  exact ⟨_, _, _, q_rdn h, q_PZR (S := S) hF, Nat.le_add_right c 1, Nat.le_add_right n 6, fun o ho => q_lw38 z L xs S c n i hx0 hx1 hx2 hx3 hi hv _ e0 _ e1 ho⟩
theorem q_st39 (h : q_IV k S) (hk : k < 512) (hx : q_XS L i) (hF : q_PZ k (q_vw 172 0 206 S)) (hv : xs i.toNatClampNeg &&& 63 = 39) : q_NX z L xs i S c n k := by
  obtain ⟨hx0, hx1, hx2, hx3, hi⟩ := hx
  have e0 := q_tPic h.1
  exact ⟨_, _, _, q_rdn h, q_PZR (S := S) hF, Nat.le_add_right c 1, Nat.le_add_right n 6, fun o ho => q_lw39 z L xs S c n i hx0 hx1 hx2 hx3 hi hv _ e0 ho⟩
theorem q_st40 (h : q_IV k S) (hk : k < 512) (hx : q_XS L i) (hF : q_PZ k (q_vw 172 0 206 S)) (hv : xs i.toNatClampNeg &&& 63 = 40) : q_NX z L xs i S c n k := by
  obtain ⟨hx0, hx1, hx2, hx3, hi⟩ := hx
  obtain ⟨r, e0, e1, e2⟩ := q_tSol h.1
  exact ⟨_, _, _, q_rdn h, q_PZR (S := S) hF, Nat.le_add_right c 1, Nat.le_add_right n 6, fun o ho => q_lw40 z L xs S c n i hx0 hx1 hx2 hx3 hi hv _ e0 _ e1 (q_f2dnn e2) (q_f2dnn e2) ho⟩
theorem q_st41 (h : q_IV k S) (hk : k < 512) (hx : q_XS L i) (hF : q_PZ k (q_vw 172 0 206 S)) (hv : xs i.toNatClampNeg &&& 63 = 41) : q_NX z L xs i S c n k := by
  obtain ⟨hx0, hx1, hx2, hx3, hi⟩ := hx
  obtain ⟨r, e0, e1⟩ := q_tMen h.1
  exact ⟨_, _, _, q_rdn h, q_PZR (S := S) hF, Nat.le_add_right c 1, Nat.le_add_right n 6, fun o ho => q_lw41 z L xs S c n i hx0 hx1 hx2 hx3 hi hv _ e0 _ e1 ho⟩
theorem q_st42 (h : q_IV k S) (hk : k < 512) (hx : q_XS L i) (hF : q_PZ k (q_vw 172 0 206 S)) (hv : xs i.toNatClampNeg &&& 63 = 42) : q_NX z L xs i S c n k := by
  obtain ⟨hx0, hx1, hx2, hx3, hi⟩ := hx
  exact ⟨_, _, _, q_nop h, q_PZ1 hF, Nat.le_add_right c 1, Nat.le_add_right n 6, fun o ho => q_lw42 z L xs S c n i hx0 hx1 hx2 hx3 hi hv ho⟩
set_option maxHeartbeats 4000000 in
theorem q_lw43 (z L : Nat) (xs : Nat → Int32) (S : q_S) (c n : Nat) (i : Int32) (hx0 : q_in i L = true) (hx1 : q_in (i + 1) L = true) (hx2 : q_in (i + 2) L = true) (hx3 : q_in (i + 3) L = true) (hi : decide (Int32.ofNat L - 4 < i) = false) (hv : xs i.toNatClampNeg &&& 63 = 43) {o : q_Out} (h : q_Ru (q_TBs z L xs) 20 376 (23, [(4, .int (i + 4)), (3, .ref 270), (2, .ref 236), (1, .ref 64), (0, .ref 0)], [], (q_kL S c n)) o) : q_Ru (q_TBs z L xs) 20 376 (23, [(4, .int i), (3, .ref 270), (2, .ref 236), (1, .ref 64), (0, .ref 0)], [], (q_kL S c n)) o := by
  refine q_Ru_seg (g2 := (29, [(4, .int i), (3, .ref 270), (2, .ref 236), (1, .ref 64), (0, .ref 0)], [.int ((Int32.ofNat L) - 4), .int i], (q_kL S c n))) 5 (fun _ _ => rfl) ?_
  refine q_Ru_rsF (g2 := (32, [(4, .int i), (3, .ref 270), (2, .ref 236), (1, .ref 64), (0, .ref 0)], [], (q_kL S c n))) rfl rfl hi ?_
  refine q_Ru_seg (g2 := (35, [(4, .int i), (3, .ref 270), (2, .ref 236), (1, .ref 64), (0, .ref 0)], [.int i, .ref 0], (q_kL S c n))) 2 (fun _ _ => rfl) ?_
  refine q_Ru_rsT (g2 := (36, [(4, .int i), (3, .ref 270), (2, .ref 236), (1, .ref 64), (0, .ref 0)], [.int (xs (i.toNatClampNeg))], (q_kL S c n))) rfl rfl hx0 ?_
  refine q_Ru_seg (g2 := (39, [(4, .int i), (3, .ref 270), (2, .ref 236), (1, .ref 64), (0, .ref 0)], [.int ((xs (i.toNatClampNeg)) &&& 63)], (q_kL S c n))) 2 (fun _ _ => rfl) ?_
  rw [hv]
  refine q_Ru_seg (g2 := (23, [(4, .int (i + 4)), (3, .ref 270), (2, .ref 236), (1, .ref 64), (0, .ref 0)], [], (q_kL S c n))) 3 (fun _ _ => rfl) ?_
  exact q_Ru_xt (q_xt_mk (q_mn1 0 rfl (q_mn1 1 rfl (q_mn1 2 rfl (q_mn1 3 rfl (q_mn1 4 rfl q_mn0))))) rfl) h
theorem q_st43 (h : q_IV k S) (hk : k < 512) (hx : q_XS L i) (hF : q_PZ k (q_vw 172 0 206 S)) (hv : xs i.toNatClampNeg &&& 63 = 43) : q_NX z L xs i S c n k := by
  obtain ⟨hx0, hx1, hx2, hx3, hi⟩ := hx
  exact ⟨_, _, _, q_nop h, q_PZ1 hF, Nat.le_add_right c 1, Nat.le_add_right n 6, fun o ho => q_lw43 z L xs S c n i hx0 hx1 hx2 hx3 hi hv ho⟩
set_option maxHeartbeats 4000000 in
theorem q_lw44 (z L : Nat) (xs : Nat → Int32) (S : q_S) (c n : Nat) (i : Int32) (hx0 : q_in i L = true) (hx1 : q_in (i + 1) L = true) (hx2 : q_in (i + 2) L = true) (hx3 : q_in (i + 3) L = true) (hi : decide (Int32.ofNat L - 4 < i) = false) (hv : xs i.toNatClampNeg &&& 63 = 44) {o : q_Out} (h : q_Ru (q_TBs z L xs) 20 376 (23, [(4, .int (i + 4)), (3, .ref 270), (2, .ref 236), (1, .ref 64), (0, .ref 0)], [], (q_kL S c n)) o) : q_Ru (q_TBs z L xs) 20 376 (23, [(4, .int i), (3, .ref 270), (2, .ref 236), (1, .ref 64), (0, .ref 0)], [], (q_kL S c n)) o := by
  refine q_Ru_seg (g2 := (29, [(4, .int i), (3, .ref 270), (2, .ref 236), (1, .ref 64), (0, .ref 0)], [.int ((Int32.ofNat L) - 4), .int i], (q_kL S c n))) 5 (fun _ _ => rfl) ?_
  refine q_Ru_rsF (g2 := (32, [(4, .int i), (3, .ref 270), (2, .ref 236), (1, .ref 64), (0, .ref 0)], [], (q_kL S c n))) rfl rfl hi ?_
  refine q_Ru_seg (g2 := (35, [(4, .int i), (3, .ref 270), (2, .ref 236), (1, .ref 64), (0, .ref 0)], [.int i, .ref 0], (q_kL S c n))) 2 (fun _ _ => rfl) ?_
  refine q_Ru_rsT (g2 := (36, [(4, .int i), (3, .ref 270), (2, .ref 236), (1, .ref 64), (0, .ref 0)], [.int (xs (i.toNatClampNeg))], (q_kL S c n))) rfl rfl hx0 ?_
  refine q_Ru_seg (g2 := (39, [(4, .int i), (3, .ref 270), (2, .ref 236), (1, .ref 64), (0, .ref 0)], [.int ((xs (i.toNatClampNeg)) &&& 63)], (q_kL S c n))) 2 (fun _ _ => rfl) ?_
  rw [hv]
  refine q_Ru_seg (g2 := (23, [(4, .int (i + 4)), (3, .ref 270), (2, .ref 236), (1, .ref 64), (0, .ref 0)], [], (q_kL S c n))) 3 (fun _ _ => rfl) ?_
  exact q_Ru_xt (q_xt_mk (q_mn1 0 rfl (q_mn1 1 rfl (q_mn1 2 rfl (q_mn1 3 rfl (q_mn1 4 rfl q_mn0))))) rfl) h
theorem q_st44 (h : q_IV k S) (hk : k < 512) (hx : q_XS L i) (hF : q_PZ k (q_vw 172 0 206 S)) (hv : xs i.toNatClampNeg &&& 63 = 44) : q_NX z L xs i S c n k := by
  obtain ⟨hx0, hx1, hx2, hx3, hi⟩ := hx
  exact ⟨_, _, _, q_nop h, q_PZ1 hF, Nat.le_add_right c 1, Nat.le_add_right n 6, fun o ho => q_lw44 z L xs S c n i hx0 hx1 hx2 hx3 hi hv ho⟩
set_option maxHeartbeats 4000000 in
theorem q_lw45 (z L : Nat) (xs : Nat → Int32) (S : q_S) (c n : Nat) (i : Int32) (hx0 : q_in i L = true) (hx1 : q_in (i + 1) L = true) (hx2 : q_in (i + 2) L = true) (hx3 : q_in (i + 3) L = true) (hi : decide (Int32.ofNat L - 4 < i) = false) (hv : xs i.toNatClampNeg &&& 63 = 45) {o : q_Out} (h : q_Ru (q_TBs z L xs) 20 376 (23, [(4, .int (i + 4)), (3, .ref 270), (2, .ref 236), (1, .ref 64), (0, .ref 0)], [], (q_kL S c n)) o) : q_Ru (q_TBs z L xs) 20 376 (23, [(4, .int i), (3, .ref 270), (2, .ref 236), (1, .ref 64), (0, .ref 0)], [], (q_kL S c n)) o := by
  refine q_Ru_seg (g2 := (29, [(4, .int i), (3, .ref 270), (2, .ref 236), (1, .ref 64), (0, .ref 0)], [.int ((Int32.ofNat L) - 4), .int i], (q_kL S c n))) 5 (fun _ _ => rfl) ?_
  refine q_Ru_rsF (g2 := (32, [(4, .int i), (3, .ref 270), (2, .ref 236), (1, .ref 64), (0, .ref 0)], [], (q_kL S c n))) rfl rfl hi ?_
  refine q_Ru_seg (g2 := (35, [(4, .int i), (3, .ref 270), (2, .ref 236), (1, .ref 64), (0, .ref 0)], [.int i, .ref 0], (q_kL S c n))) 2 (fun _ _ => rfl) ?_
  refine q_Ru_rsT (g2 := (36, [(4, .int i), (3, .ref 270), (2, .ref 236), (1, .ref 64), (0, .ref 0)], [.int (xs (i.toNatClampNeg))], (q_kL S c n))) rfl rfl hx0 ?_
  refine q_Ru_seg (g2 := (39, [(4, .int i), (3, .ref 270), (2, .ref 236), (1, .ref 64), (0, .ref 0)], [.int ((xs (i.toNatClampNeg)) &&& 63)], (q_kL S c n))) 2 (fun _ _ => rfl) ?_
  rw [hv]
  refine q_Ru_seg (g2 := (23, [(4, .int (i + 4)), (3, .ref 270), (2, .ref 236), (1, .ref 64), (0, .ref 0)], [], (q_kL S c n))) 3 (fun _ _ => rfl) ?_
  exact q_Ru_xt (q_xt_mk (q_mn1 0 rfl (q_mn1 1 rfl (q_mn1 2 rfl (q_mn1 3 rfl (q_mn1 4 rfl q_mn0))))) rfl) h
theorem q_st45 (h : q_IV k S) (hk : k < 512) (hx : q_XS L i) (hF : q_PZ k (q_vw 172 0 206 S)) (hv : xs i.toNatClampNeg &&& 63 = 45) : q_NX z L xs i S c n k := by
  obtain ⟨hx0, hx1, hx2, hx3, hi⟩ := hx
  exact ⟨_, _, _, q_nop h, q_PZ1 hF, Nat.le_add_right c 1, Nat.le_add_right n 6, fun o ho => q_lw45 z L xs S c n i hx0 hx1 hx2 hx3 hi hv ho⟩
set_option maxHeartbeats 4000000 in
theorem q_lw46 (z L : Nat) (xs : Nat → Int32) (S : q_S) (c n : Nat) (i : Int32) (hx0 : q_in i L = true) (hx1 : q_in (i + 1) L = true) (hx2 : q_in (i + 2) L = true) (hx3 : q_in (i + 3) L = true) (hi : decide (Int32.ofNat L - 4 < i) = false) (hv : xs i.toNatClampNeg &&& 63 = 46) {o : q_Out} (h : q_Ru (q_TBs z L xs) 20 376 (23, [(4, .int (i + 4)), (3, .ref 270), (2, .ref 236), (1, .ref 64), (0, .ref 0)], [], (q_kL S c n)) o) : q_Ru (q_TBs z L xs) 20 376 (23, [(4, .int i), (3, .ref 270), (2, .ref 236), (1, .ref 64), (0, .ref 0)], [], (q_kL S c n)) o := by
  refine q_Ru_seg (g2 := (29, [(4, .int i), (3, .ref 270), (2, .ref 236), (1, .ref 64), (0, .ref 0)], [.int ((Int32.ofNat L) - 4), .int i], (q_kL S c n))) 5 (fun _ _ => rfl) ?_
  refine q_Ru_rsF (g2 := (32, [(4, .int i), (3, .ref 270), (2, .ref 236), (1, .ref 64), (0, .ref 0)], [], (q_kL S c n))) rfl rfl hi ?_
  refine q_Ru_seg (g2 := (35, [(4, .int i), (3, .ref 270), (2, .ref 236), (1, .ref 64), (0, .ref 0)], [.int i, .ref 0], (q_kL S c n))) 2 (fun _ _ => rfl) ?_
  refine q_Ru_rsT (g2 := (36, [(4, .int i), (3, .ref 270), (2, .ref 236), (1, .ref 64), (0, .ref 0)], [.int (xs (i.toNatClampNeg))], (q_kL S c n))) rfl rfl hx0 ?_
  refine q_Ru_seg (g2 := (39, [(4, .int i), (3, .ref 270), (2, .ref 236), (1, .ref 64), (0, .ref 0)], [.int ((xs (i.toNatClampNeg)) &&& 63)], (q_kL S c n))) 2 (fun _ _ => rfl) ?_
  rw [hv]
  refine q_Ru_seg (g2 := (23, [(4, .int (i + 4)), (3, .ref 270), (2, .ref 236), (1, .ref 64), (0, .ref 0)], [], (q_kL S c n))) 3 (fun _ _ => rfl) ?_
  exact q_Ru_xt (q_xt_mk (q_mn1 0 rfl (q_mn1 1 rfl (q_mn1 2 rfl (q_mn1 3 rfl (q_mn1 4 rfl q_mn0))))) rfl) h
theorem q_st46 (h : q_IV k S) (hk : k < 512) (hx : q_XS L i) (hF : q_PZ k (q_vw 172 0 206 S)) (hv : xs i.toNatClampNeg &&& 63 = 46) : q_NX z L xs i S c n k := by
  obtain ⟨hx0, hx1, hx2, hx3, hi⟩ := hx
  exact ⟨_, _, _, q_nop h, q_PZ1 hF, Nat.le_add_right c 1, Nat.le_add_right n 6, fun o ho => q_lw46 z L xs S c n i hx0 hx1 hx2 hx3 hi hv ho⟩
set_option maxHeartbeats 4000000 in
theorem q_lw47 (z L : Nat) (xs : Nat → Int32) (S : q_S) (c n : Nat) (i : Int32) (hx0 : q_in i L = true) (hx1 : q_in (i + 1) L = true) (hx2 : q_in (i + 2) L = true) (hx3 : q_in (i + 3) L = true) (hi : decide (Int32.ofNat L - 4 < i) = false) (hv : xs i.toNatClampNeg &&& 63 = 47) {o : q_Out} (h : q_Ru (q_TBs z L xs) 20 376 (23, [(4, .int (i + 4)), (3, .ref 270), (2, .ref 236), (1, .ref 64), (0, .ref 0)], [], (q_kL S c n)) o) : q_Ru (q_TBs z L xs) 20 376 (23, [(4, .int i), (3, .ref 270), (2, .ref 236), (1, .ref 64), (0, .ref 0)], [], (q_kL S c n)) o := by
  refine q_Ru_seg (g2 := (29, [(4, .int i), (3, .ref 270), (2, .ref 236), (1, .ref 64), (0, .ref 0)], [.int ((Int32.ofNat L) - 4), .int i], (q_kL S c n))) 5 (fun _ _ => rfl) ?_
  refine q_Ru_rsF (g2 := (32, [(4, .int i), (3, .ref 270), (2, .ref 236), (1, .ref 64), (0, .ref 0)], [], (q_kL S c n))) rfl rfl hi ?_
  refine q_Ru_seg (g2 := (35, [(4, .int i), (3, .ref 270), (2, .ref 236), (1, .ref 64), (0, .ref 0)], [.int i, .ref 0], (q_kL S c n))) 2 (fun _ _ => rfl) ?_
  refine q_Ru_rsT (g2 := (36, [(4, .int i), (3, .ref 270), (2, .ref 236), (1, .ref 64), (0, .ref 0)], [.int (xs (i.toNatClampNeg))], (q_kL S c n))) rfl rfl hx0 ?_
  refine q_Ru_seg (g2 := (39, [(4, .int i), (3, .ref 270), (2, .ref 236), (1, .ref 64), (0, .ref 0)], [.int ((xs (i.toNatClampNeg)) &&& 63)], (q_kL S c n))) 2 (fun _ _ => rfl) ?_
  rw [hv]
  refine q_Ru_seg (g2 := (23, [(4, .int (i + 4)), (3, .ref 270), (2, .ref 236), (1, .ref 64), (0, .ref 0)], [], (q_kL S c n))) 3 (fun _ _ => rfl) ?_
  exact q_Ru_xt (q_xt_mk (q_mn1 0 rfl (q_mn1 1 rfl (q_mn1 2 rfl (q_mn1 3 rfl (q_mn1 4 rfl q_mn0))))) rfl) h
theorem q_st47 (h : q_IV k S) (hk : k < 512) (hx : q_XS L i) (hF : q_PZ k (q_vw 172 0 206 S)) (hv : xs i.toNatClampNeg &&& 63 = 47) : q_NX z L xs i S c n k := by
  obtain ⟨hx0, hx1, hx2, hx3, hi⟩ := hx
  exact ⟨_, _, _, q_nop h, q_PZ1 hF, Nat.le_add_right c 1, Nat.le_add_right n 6, fun o ho => q_lw47 z L xs S c n i hx0 hx1 hx2 hx3 hi hv ho⟩
set_option maxHeartbeats 4000000 in
theorem q_lw48 (z L : Nat) (xs : Nat → Int32) (S : q_S) (c n : Nat) (i : Int32) (hx0 : q_in i L = true) (hx1 : q_in (i + 1) L = true) (hx2 : q_in (i + 2) L = true) (hx3 : q_in (i + 3) L = true) (hi : decide (Int32.ofNat L - 4 < i) = false) (hv : xs i.toNatClampNeg &&& 63 = 48) {o : q_Out} (h : q_Ru (q_TBs z L xs) 20 376 (23, [(4, .int (i + 4)), (3, .ref 270), (2, .ref 236), (1, .ref 64), (0, .ref 0)], [], (q_kL S c n)) o) : q_Ru (q_TBs z L xs) 20 376 (23, [(4, .int i), (3, .ref 270), (2, .ref 236), (1, .ref 64), (0, .ref 0)], [], (q_kL S c n)) o := by
  refine q_Ru_seg (g2 := (29, [(4, .int i), (3, .ref 270), (2, .ref 236), (1, .ref 64), (0, .ref 0)], [.int ((Int32.ofNat L) - 4), .int i], (q_kL S c n))) 5 (fun _ _ => rfl) ?_
  refine q_Ru_rsF (g2 := (32, [(4, .int i), (3, .ref 270), (2, .ref 236), (1, .ref 64), (0, .ref 0)], [], (q_kL S c n))) rfl rfl hi ?_
  refine q_Ru_seg (g2 := (35, [(4, .int i), (3, .ref 270), (2, .ref 236), (1, .ref 64), (0, .ref 0)], [.int i, .ref 0], (q_kL S c n))) 2 (fun _ _ => rfl) ?_
  refine q_Ru_rsT (g2 := (36, [(4, .int i), (3, .ref 270), (2, .ref 236), (1, .ref 64), (0, .ref 0)], [.int (xs (i.toNatClampNeg))], (q_kL S c n))) rfl rfl hx0 ?_
  refine q_Ru_seg (g2 := (39, [(4, .int i), (3, .ref 270), (2, .ref 236), (1, .ref 64), (0, .ref 0)], [.int ((xs (i.toNatClampNeg)) &&& 63)], (q_kL S c n))) 2 (fun _ _ => rfl) ?_
  rw [hv]
  refine q_Ru_seg (g2 := (23, [(4, .int (i + 4)), (3, .ref 270), (2, .ref 236), (1, .ref 64), (0, .ref 0)], [], (q_kL S c n))) 3 (fun _ _ => rfl) ?_
  exact q_Ru_xt (q_xt_mk (q_mn1 0 rfl (q_mn1 1 rfl (q_mn1 2 rfl (q_mn1 3 rfl (q_mn1 4 rfl q_mn0))))) rfl) h
theorem q_st48 (h : q_IV k S) (hk : k < 512) (hx : q_XS L i) (hF : q_PZ k (q_vw 172 0 206 S)) (hv : xs i.toNatClampNeg &&& 63 = 48) : q_NX z L xs i S c n k := by
  obtain ⟨hx0, hx1, hx2, hx3, hi⟩ := hx
  exact ⟨_, _, _, q_nop h, q_PZ1 hF, Nat.le_add_right c 1, Nat.le_add_right n 6, fun o ho => q_lw48 z L xs S c n i hx0 hx1 hx2 hx3 hi hv ho⟩
set_option maxHeartbeats 4000000 in
theorem q_lw49 (z L : Nat) (xs : Nat → Int32) (S : q_S) (c n : Nat) (i : Int32) (hx0 : q_in i L = true) (hx1 : q_in (i + 1) L = true) (hx2 : q_in (i + 2) L = true) (hx3 : q_in (i + 3) L = true) (hi : decide (Int32.ofNat L - 4 < i) = false) (hv : xs i.toNatClampNeg &&& 63 = 49) {o : q_Out} (h : q_Ru (q_TBs z L xs) 20 376 (23, [(4, .int (i + 4)), (3, .ref 270), (2, .ref 236), (1, .ref 64), (0, .ref 0)], [], (q_kL S c n)) o) : q_Ru (q_TBs z L xs) 20 376 (23, [(4, .int i), (3, .ref 270), (2, .ref 236), (1, .ref 64), (0, .ref 0)], [], (q_kL S c n)) o := by
  refine q_Ru_seg (g2 := (29, [(4, .int i), (3, .ref 270), (2, .ref 236), (1, .ref 64), (0, .ref 0)], [.int ((Int32.ofNat L) - 4), .int i], (q_kL S c n))) 5 (fun _ _ => rfl) ?_
  refine q_Ru_rsF (g2 := (32, [(4, .int i), (3, .ref 270), (2, .ref 236), (1, .ref 64), (0, .ref 0)], [], (q_kL S c n))) rfl rfl hi ?_
  refine q_Ru_seg (g2 := (35, [(4, .int i), (3, .ref 270), (2, .ref 236), (1, .ref 64), (0, .ref 0)], [.int i, .ref 0], (q_kL S c n))) 2 (fun _ _ => rfl) ?_
  refine q_Ru_rsT (g2 := (36, [(4, .int i), (3, .ref 270), (2, .ref 236), (1, .ref 64), (0, .ref 0)], [.int (xs (i.toNatClampNeg))], (q_kL S c n))) rfl rfl hx0 ?_
  refine q_Ru_seg (g2 := (39, [(4, .int i), (3, .ref 270), (2, .ref 236), (1, .ref 64), (0, .ref 0)], [.int ((xs (i.toNatClampNeg)) &&& 63)], (q_kL S c n))) 2 (fun _ _ => rfl) ?_
  rw [hv]
  refine q_Ru_seg (g2 := (23, [(4, .int (i + 4)), (3, .ref 270), (2, .ref 236), (1, .ref 64), (0, .ref 0)], [], (q_kL S c n))) 3 (fun _ _ => rfl) ?_
  exact q_Ru_xt (q_xt_mk (q_mn1 0 rfl (q_mn1 1 rfl (q_mn1 2 rfl (q_mn1 3 rfl (q_mn1 4 rfl q_mn0))))) rfl) h
theorem q_st49 (h : q_IV k S) (hk : k < 512) (hx : q_XS L i) (hF : q_PZ k (q_vw 172 0 206 S)) (hv : xs i.toNatClampNeg &&& 63 = 49) : q_NX z L xs i S c n k := by
  obtain ⟨hx0, hx1, hx2, hx3, hi⟩ := hx
  exact ⟨_, _, _, q_nop h, q_PZ1 hF, Nat.le_add_right c 1, Nat.le_add_right n 6, fun o ho => q_lw49 z L xs S c n i hx0 hx1 hx2 hx3 hi hv ho⟩
set_option maxHeartbeats 4000000 in
theorem q_lw50 (z L : Nat) (xs : Nat → Int32) (S : q_S) (c n : Nat) (i : Int32) (hx0 : q_in i L = true) (hx1 : q_in (i + 1) L = true) (hx2 : q_in (i + 2) L = true) (hx3 : q_in (i + 3) L = true) (hi : decide (Int32.ofNat L - 4 < i) = false) (hv : xs i.toNatClampNeg &&& 63 = 50) {o : q_Out} (h : q_Ru (q_TBs z L xs) 20 376 (23, [(4, .int (i + 4)), (3, .ref 270), (2, .ref 236), (1, .ref 64), (0, .ref 0)], [], (q_kL S c n)) o) : q_Ru (q_TBs z L xs) 20 376 (23, [(4, .int i), (3, .ref 270), (2, .ref 236), (1, .ref 64), (0, .ref 0)], [], (q_kL S c n)) o := by
  refine q_Ru_seg (g2 := (29, [(4, .int i), (3, .ref 270), (2, .ref 236), (1, .ref 64), (0, .ref 0)], [.int ((Int32.ofNat L) - 4), .int i], (q_kL S c n))) 5 (fun _ _ => rfl) ?_
  refine q_Ru_rsF (g2 := (32, [(4, .int i), (3, .ref 270), (2, .ref 236), (1, .ref 64), (0, .ref 0)], [], (q_kL S c n))) rfl rfl hi ?_
  refine q_Ru_seg (g2 := (35, [(4, .int i), (3, .ref 270), (2, .ref 236), (1, .ref 64), (0, .ref 0)], [.int i, .ref 0], (q_kL S c n))) 2 (fun _ _ => rfl) ?_
  refine q_Ru_rsT (g2 := (36, [(4, .int i), (3, .ref 270), (2, .ref 236), (1, .ref 64), (0, .ref 0)], [.int (xs (i.toNatClampNeg))], (q_kL S c n))) rfl rfl hx0 ?_
  refine q_Ru_seg (g2 := (39, [(4, .int i), (3, .ref 270), (2, .ref 236), (1, .ref 64), (0, .ref 0)], [.int ((xs (i.toNatClampNeg)) &&& 63)], (q_kL S c n))) 2 (fun _ _ => rfl) ?_
  rw [hv]
  refine q_Ru_seg (g2 := (23, [(4, .int (i + 4)), (3, .ref 270), (2, .ref 236), (1, .ref 64), (0, .ref 0)], [], (q_kL S c n))) 3 (fun _ _ => rfl) ?_
  exact q_Ru_xt (q_xt_mk (q_mn1 0 rfl (q_mn1 1 rfl (q_mn1 2 rfl (q_mn1 3 rfl (q_mn1 4 rfl q_mn0))))) rfl) h
theorem q_st50 (h : q_IV k S) (hk : k < 512) (hx : q_XS L i) (hF : q_PZ k (q_vw 172 0 206 S)) (hv : xs i.toNatClampNeg &&& 63 = 50) : q_NX z L xs i S c n k := by
  obtain ⟨hx0, hx1, hx2, hx3, hi⟩ := hx
  exact ⟨_, _, _, q_nop h, q_PZ1 hF, Nat.le_add_right c 1, Nat.le_add_right n 6, fun o ho => q_lw50 z L xs S c n i hx0 hx1 hx2 hx3 hi hv ho⟩
set_option maxHeartbeats 4000000 in
theorem q_lw51 (z L : Nat) (xs : Nat → Int32) (S : q_S) (c n : Nat) (i : Int32) (hx0 : q_in i L = true) (hx1 : q_in (i + 1) L = true) (hx2 : q_in (i + 2) L = true) (hx3 : q_in (i + 3) L = true) (hi : decide (Int32.ofNat L - 4 < i) = false) (hv : xs i.toNatClampNeg &&& 63 = 51) {o : q_Out} (h : q_Ru (q_TBs z L xs) 20 376 (23, [(4, .int (i + 4)), (3, .ref 270), (2, .ref 236), (1, .ref 64), (0, .ref 0)], [], (q_kL S c n)) o) : q_Ru (q_TBs z L xs) 20 376 (23, [(4, .int i), (3, .ref 270), (2, .ref 236), (1, .ref 64), (0, .ref 0)], [], (q_kL S c n)) o := by
  refine q_Ru_seg (g2 := (29, [(4, .int i), (3, .ref 270), (2, .ref 236), (1, .ref 64), (0, .ref 0)], [.int ((Int32.ofNat L) - 4), .int i], (q_kL S c n))) 5 (fun _ _ => rfl) ?_
  refine q_Ru_rsF (g2 := (32, [(4, .int i), (3, .ref 270), (2, .ref 236), (1, .ref 64), (0, .ref 0)], [], (q_kL S c n))) rfl rfl hi ?_
  refine q_Ru_seg (g2 := (35, [(4, .int i), (3, .ref 270), (2, .ref 236), (1, .ref 64), (0, .ref 0)], [.int i, .ref 0], (q_kL S c n))) 2 (fun _ _ => rfl) ?_
  refine q_Ru_rsT (g2 := (36, [(4, .int i), (3, .ref 270), (2, .ref 236), (1, .ref 64), (0, .ref 0)], [.int (xs (i.toNatClampNeg))], (q_kL S c n))) rfl rfl hx0 ?_
  refine q_Ru_seg (g2 := (39, [(4, .int i), (3, .ref 270), (2, .ref 236), (1, .ref 64), (0, .ref 0)], [.int ((xs (i.toNatClampNeg)) &&& 63)], (q_kL S c n))) 2 (fun _ _ => rfl) ?_
  rw [hv]
  refine q_Ru_seg (g2 := (23, [(4, .int (i + 4)), (3, .ref 270), (2, .ref 236), (1, .ref 64), (0, .ref 0)], [], (q_kL S c n))) 3 (fun _ _ => rfl) ?_
  exact q_Ru_xt (q_xt_mk (q_mn1 0 rfl (q_mn1 1 rfl (q_mn1 2 rfl (q_mn1 3 rfl (q_mn1 4 rfl q_mn0))))) rfl) h
end
end
section
-- 58.ac
section
variable {z L : Nat} {xs : Nat → Int32} {S : q_S} {c n k : Nat} {i : Int32}
theorem q_st51 (h : q_IV k S) (hk : k < 512) (hx : q_XS L i) (hF : q_PZ k (q_vw 172 0 206 S)) (hv : xs i.toNatClampNeg &&& 63 = 51) : q_NX z L xs i S c n k := by
  obtain ⟨hx0, hx1, hx2, hx3, hi⟩ := hx
  exact ⟨_, _, _, q_nop h, q_PZ1 hF, Nat.le_add_right c 1, Nat.le_add_right n 6, fun o ho => q_lw51 z L xs S c n i hx0 hx1 hx2 hx3 hi hv ho⟩
set_option maxHeartbeats 4000000 in
theorem q_lw52 (z L : Nat) (xs : Nat → Int32) (S : q_S) (c n : Nat) (i : Int32) (hx0 : q_in i L = true) (hx1 : q_in (i + 1) L = true) (hx2 : q_in (i + 2) L = true) (hx3 : q_in (i + 3) L = true) (hi : decide (Int32.ofNat L - 4 < i) = false) (hv : xs i.toNatClampNeg &&& 63 = 52) {o : q_Out} (h : q_Ru (q_TBs z L xs) 20 376 (23, [(4, .int (i + 4)), (3, .ref 270), (2, .ref 236), (1, .ref 64), (0, .ref 0)], [], (q_kL S c n)) o) : q_Ru (q_TBs z L xs) 20 376 (23, [(4, .int i), (3, .ref 270), (2, .ref 236), (1, .ref 64), (0, .ref 0)], [], (q_kL S c n)) o := by
  refine q_Ru_seg (g2 := (29, [(4, .int i), (3, .ref 270), (2, .ref 236), (1, .ref 64), (0, .ref 0)], [.int ((Int32.ofNat L) - 4), .int i], (q_kL S c n))) 5 (fun _ _ => rfl) ?_
  refine q_Ru_rsF (g2 := (32, [(4, .int i), (3, .ref 270), (2, .ref 236), (1, .ref 64), (0, .ref 0)], [], (q_kL S c n))) rfl rfl hi ?_
  refine q_Ru_seg (g2 := (35, [(4, .int i), (3, .ref 270), (2, .ref 236), (1, .ref 64), (0, .ref 0)], [.int i, .ref 0], (q_kL S c n))) 2 (fun _ _ => rfl) ?_
  refine q_Ru_rsT (g2 := (36, [(4, .int i), (3, .ref 270), (2, .ref 236), (1, .ref 64), (0, .ref 0)], [.int (xs (i.toNatClampNeg))], (q_kL S c n))) rfl rfl hx0 ?_
  refine q_Ru_seg (g2 := (39, [(4, .int i), (3, .ref 270), (2, .ref 236), (1, .ref 64), (0, .ref 0)], [.int ((xs (i.toNatClampNeg)) &&& 63)], (q_kL S c n))) 2 (fun _ _ => rfl) ?_
  rw [hv]
  refine q_Ru_seg (g2 := (23, [(4, .int (i + 4)), (3, .ref 270), (2, .ref 236), (1, .ref 64), (0, .ref 0)], [], (q_kL S c n))) 3 (fun _ _ => rfl) ?_
  exact q_Ru_xt (q_xt_mk (q_mn1 0 rfl (q_mn1 1 rfl (q_mn1 2 rfl (q_mn1 3 rfl (q_mn1 4 rfl q_mn0))))) rfl) h
theorem q_st52 (h : q_IV k S) (hk : k < 512) (hx : q_XS L i) (hF : q_PZ k (q_vw 172 0 206 S)) (hv : xs i.toNatClampNeg &&& 63 = 52) : q_NX z L xs i S c n k := by
  obtain ⟨hx0, hx1, hx2, hx3, hi⟩ := hx
  exact ⟨_, _, _, q_nop h, q_PZ1 hF, Nat.le_add_right c 1, Nat.le_add_right n 6, fun o ho => q_lw52 z L xs S c n i hx0 hx1 hx2 hx3 hi hv ho⟩
set_option maxHeartbeats 4000000 in
theorem q_lw53 (z L : Nat) (xs : Nat → Int32) (S : q_S) (c n : Nat) (i : Int32) (hx0 : q_in i L = true) (hx1 : q_in (i + 1) L = true) (hx2 : q_in (i + 2) L = true) (hx3 : q_in (i + 3) L = true) (hi : decide (Int32.ofNat L - 4 < i) = false) (hv : xs i.toNatClampNeg &&& 63 = 53) {o : q_Out} (h : q_Ru (q_TBs z L xs) 20 376 (23, [(4, .int (i + 4)), (3, .ref 270), (2, .ref 236), (1, .ref 64), (0, .ref 0)], [], (q_kL S c n)) o) : q_Ru (q_TBs z L xs) 20 376 (23, [(4, .int i), (3, .ref 270), (2, .ref 236), (1, .ref 64), (0, .ref 0)], [], (q_kL S c n)) o := by
  refine q_Ru_seg (g2 := (29, [(4, .int i), (3, .ref 270), (2, .ref 236), (1, .ref 64), (0, .ref 0)], [.int ((Int32.ofNat L) - 4), .int i], (q_kL S c n))) 5 (fun _ _ => rfl) ?_
  refine q_Ru_rsF (g2 := (32, [(4, .int i), (3, .ref 270), (2, .ref 236), (1, .ref 64), (0, .ref 0)], [], (q_kL S c n))) rfl rfl hi ?_
  refine q_Ru_seg (g2 := (35, [(4, .int i), (3, .ref 270), (2, .ref 236), (1, .ref 64), (0, .ref 0)], [.int i, .ref 0], (q_kL S c n))) 2 (fun _ _ => rfl) ?_
  refine q_Ru_rsT (g2 := (36, [(4, .int i), (3, .ref 270), (2, .ref 236), (1, .ref 64), (0, .ref 0)], [.int (xs (i.toNatClampNeg))], (q_kL S c n))) rfl rfl hx0 ?_
  refine q_Ru_seg (g2 := (39, [(4, .int i), (3, .ref 270), (2, .ref 236), (1, .ref 64), (0, .ref 0)], [.int ((xs (i.toNatClampNeg)) &&& 63)], (q_kL S c n))) 2 (fun _ _ => rfl) ?_
  rw [hv]
  refine q_Ru_seg (g2 := (23, [(4, .int (i + 4)), (3, .ref 270), (2, .ref 236), (1, .ref 64), (0, .ref 0)], [], (q_kL S c n))) 3 (fun _ _ => rfl) ?_
  exact q_Ru_xt (q_xt_mk (q_mn1 0 rfl (q_mn1 1 rfl (q_mn1 2 rfl (q_mn1 3 rfl (q_mn1 4 rfl q_mn0))))) rfl) h
theorem q_st53 (h : q_IV k S) (hk : k < 512) (hx : q_XS L i) (hF : q_PZ k (q_vw 172 0 206 S)) (hv : xs i.toNatClampNeg &&& 63 = 53) : q_NX z L xs i S c n k := by
  obtain ⟨hx0, hx1, hx2, hx3, hi⟩ := hx
  exact ⟨_, _, _, q_nop h, q_PZ1 hF, Nat.le_add_right c 1, Nat.le_add_right n 6, fun o ho => q_lw53 z L xs S c n i hx0 hx1 hx2 hx3 hi hv ho⟩
set_option maxHeartbeats 4000000 in
theorem q_lw54 (z L : Nat) (xs : Nat → Int32) (S : q_S) (c n : Nat) (i : Int32) (hx0 : q_in i L = true) (hx1 : q_in (i + 1) L = true) (hx2 : q_in (i + 2) L = true) (hx3 : q_in (i + 3) L = true) (hi : decide (Int32.ofNat L - 4 < i) = false) (hv : xs i.toNatClampNeg &&& 63 = 54) {o : q_Out} (h : q_Ru (q_TBs z L xs) 20 376 (23, [(4, .int (i + 4)), (3, .ref 270), (2, .ref 236), (1, .ref 64), (0, .ref 0)], [], (q_kL S c n)) o) : q_Ru (q_TBs z L xs) 20 376 (23, [(4, .int i), (3, .ref 270), (2, .ref 236), (1, .ref 64), (0, .ref 0)], [], (q_kL S c n)) o := by
  refine q_Ru_seg (g2 := (29, [(4, .int i), (3, .ref 270), (2, .ref 236), (1, .ref 64), (0, .ref 0)], [.int ((Int32.ofNat L) - 4), .int i], (q_kL S c n))) 5 (fun _ _ => rfl) ?_
  refine q_Ru_rsF (g2 := (32, [(4, .int i), (3, .ref 270), (2, .ref 236), (1, .ref 64), (0, .ref 0)], [], (q_kL S c n))) rfl rfl hi ?_
  refine q_Ru_seg (g2 := (35, [(4, .int i), (3, .ref 270), (2, .ref 236), (1, .ref 64), (0, .ref 0)], [.int i, .ref 0], (q_kL S c n))) 2 (fun _ _ => rfl) ?_
  refine q_Ru_rsT (g2 := (36, [(4, .int i), (3, .ref 270), (2, .ref 236), (1, .ref 64), (0, .ref 0)], [.int (xs (i.toNatClampNeg))], (q_kL S c n))) rfl rfl hx0 ?_
  refine q_Ru_seg (g2 := (39, [(4, .int i), (3, .ref 270), (2, .ref 236), (1, .ref 64), (0, .ref 0)], [.int ((xs (i.toNatClampNeg)) &&& 63)], (q_kL S c n))) 2 (fun _ _ => rfl) ?_
  rw [hv]
  refine q_Ru_seg (g2 := (23, [(4, .int (i + 4)), (3, .ref 270), (2, .ref 236), (1, .ref 64), (0, .ref 0)], [], (q_kL S c n))) 3 (fun _ _ => rfl) ?_
  exact q_Ru_xt (q_xt_mk (q_mn1 0 rfl (q_mn1 1 rfl (q_mn1 2 rfl (q_mn1 3 rfl (q_mn1 4 rfl q_mn0))))) rfl) h
theorem q_st54 (h : q_IV k S) (hk : k < 512) (hx : q_XS L i) (hF : q_PZ k (q_vw 172 0 206 S)) (hv : xs i.toNatClampNeg &&& 63 = 54) : q_NX z L xs i S c n k := by
  obtain ⟨hx0, hx1, hx2, hx3, hi⟩ := hx
  exact ⟨_, _, _, q_nop h, q_PZ1 hF, Nat.le_add_right c 1, Nat.le_add_right n 6, fun o ho => q_lw54 z L xs S c n i hx0 hx1 hx2 hx3 hi hv ho⟩
set_option maxHeartbeats 4000000 in
theorem q_lw55 (z L : Nat) (xs : Nat → Int32) (S : q_S) (c n : Nat) (i : Int32) (hx0 : q_in i L = true) (hx1 : q_in (i + 1) L = true) (hx2 : q_in (i + 2) L = true) (hx3 : q_in (i + 3) L = true) (hi : decide (Int32.ofNat L - 4 < i) = false) (hv : xs i.toNatClampNeg &&& 63 = 55) {o : q_Out} (h : q_Ru (q_TBs z L xs) 20 376 (23, [(4, .int (i + 4)), (3, .ref 270), (2, .ref 236), (1, .ref 64), (0, .ref 0)], [], (q_kL S c n)) o) : q_Ru (q_TBs z L xs) 20 376 (23, [(4, .int i), (3, .ref 270), (2, .ref 236), (1, .ref 64), (0, .ref 0)], [], (q_kL S c n)) o := by
  refine q_Ru_seg (g2 := (29, [(4, .int i), (3, .ref 270), (2, .ref 236), (1, .ref 64), (0, .ref 0)], [.int ((Int32.ofNat L) - 4), .int i], (q_kL S c n))) 5 (fun _ _ => rfl) ?_
  refine q_Ru_rsF (g2 := (32, [(4, .int i), (3, .ref 270), (2, .ref 236), (1, .ref 64), (0, .ref 0)], [], (q_kL S c n))) rfl rfl hi ?_
  refine q_Ru_seg (g2 := (35, [(4, .int i), (3, .ref 270), (2, .ref 236), (1, .ref 64), (0, .ref 0)], [.int i, .ref 0], (q_kL S c n))) 2 (fun _ _ => rfl) ?_
  refine q_Ru_rsT (g2 := (36, [(4, .int i), (3, .ref 270), (2, .ref 236), (1, .ref 64), (0, .ref 0)], [.int (xs (i.toNatClampNeg))], (q_kL S c n))) rfl rfl hx0 ?_
  refine q_Ru_seg (g2 := (39, [(4, .int i), (3, .ref 270), (2, .ref 236), (1, .ref 64), (0, .ref 0)], [.int ((xs (i.toNatClampNeg)) &&& 63)], (q_kL S c n))) 2 (fun _ _ => rfl) ?_
  rw [hv]
  refine q_Ru_seg (g2 := (23, [(4, .int (i + 4)), (3, .ref 270), (2, .ref 236), (1, .ref 64), (0, .ref 0)], [], (q_kL S c n))) 3 (fun _ _ => rfl) ?_
  exact q_Ru_xt (q_xt_mk (q_mn1 0 rfl (q_mn1 1 rfl (q_mn1 2 rfl (q_mn1 3 rfl (q_mn1 4 rfl q_mn0))))) rfl) h
theorem q_st55 (h : q_IV k S) (hk : k < 512) (hx : q_XS L i) (hF : q_PZ k (q_vw 172 0 206 S)) (hv : xs i.toNatClampNeg &&& 63 = 55) : q_NX z L xs i S c n k := by
  obtain ⟨hx0, hx1, hx2, hx3, hi⟩ := hx
  exact ⟨_, _, _, q_nop h, q_PZ1 hF, Nat.le_add_right c 1, Nat.le_add_right n 6, fun o ho => q_lw55 z L xs S c n i hx0 hx1 hx2 hx3 hi hv ho⟩
set_option maxHeartbeats 4000000 in
theorem q_lw56 (z L : Nat) (xs : Nat → Int32) (S : q_S) (c n : Nat) (i : Int32) (hx0 : q_in i L = true) (hx1 : q_in (i + 1) L = true) (hx2 : q_in (i + 2) L = true) (hx3 : q_in (i + 3) L = true) (hi : decide (Int32.ofNat L - 4 < i) = false) (hv : xs i.toNatClampNeg &&& 63 = 56) {o : q_Out} (h : q_Ru (q_TBs z L xs) 20 376 (23, [(4, .int (i + 4)), (3, .ref 270), (2, .ref 236), (1, .ref 64), (0, .ref 0)], [], (q_kL S c n)) o) : q_Ru (q_TBs z L xs) 20 376 (23, [(4, .int i), (3, .ref 270), (2, .ref 236), (1, .ref 64), (0, .ref 0)], [], (q_kL S c n)) o := by
  refine q_Ru_seg (g2 := (29, [(4, .int i), (3, .ref 270), (2, .ref 236), (1, .ref 64), (0, .ref 0)], [.int ((Int32.ofNat L) - 4), .int i], (q_kL S c n))) 5 (fun _ _ => rfl) ?_
  refine q_Ru_rsF (g2 := (32, [(4, .int i), (3, .ref 270), (2, .ref 236), (1, .ref 64), (0, .ref 0)], [], (q_kL S c n))) rfl rfl hi ?_
  refine q_Ru_seg (g2 := (35, [(4, .int i), (3, .ref 270), (2, .ref 236), (1, .ref 64), (0, .ref 0)], [.int i, .ref 0], (q_kL S c n))) 2 (fun _ _ => rfl) ?_
  refine q_Ru_rsT (g2 := (36, [(4, .int i), (3, .ref 270), (2, .ref 236), (1, .ref 64), (0, .ref 0)], [.int (xs (i.toNatClampNeg))], (q_kL S c n))) rfl rfl hx0 ?_
  refine q_Ru_seg (g2 := (39, [(4, .int i), (3, .ref 270), (2, .ref 236), (1, .ref 64), (0, .ref 0)], [.int ((xs (i.toNatClampNeg)) &&& 63)], (q_kL S c n))) 2 (fun _ _ => rfl) ?_
  rw [hv]
  refine q_Ru_seg (g2 := (23, [(4, .int (i + 4)), (3, .ref 270), (2, .ref 236), (1, .ref 64), (0, .ref 0)], [], (q_kL S c n))) 3 (fun _ _ => rfl) ?_
  exact q_Ru_xt (q_xt_mk (q_mn1 0 rfl (q_mn1 1 rfl (q_mn1 2 rfl (q_mn1 3 rfl (q_mn1 4 rfl q_mn0))))) rfl) h
theorem q_st56 (h : q_IV k S) (hk : k < 512) (hx : q_XS L i) (hF : q_PZ k (q_vw 172 0 206 S)) (hv : xs i.toNatClampNeg &&& 63 = 56) : q_NX z L xs i S c n k := by
  obtain ⟨hx0, hx1, hx2, hx3, hi⟩ := hx
  exact ⟨_, _, _, q_nop h, q_PZ1 hF, Nat.le_add_right c 1, Nat.le_add_right n 6, fun o ho => q_lw56 z L xs S c n i hx0 hx1 hx2 hx3 hi hv ho⟩
set_option maxHeartbeats 4000000 in
theorem q_lw57 (z L : Nat) (xs : Nat → Int32) (S : q_S) (c n : Nat) (i : Int32) (hx0 : q_in i L = true) (hx1 : q_in (i + 1) L = true) (hx2 : q_in (i + 2) L = true) (hx3 : q_in (i + 3) L = true) (hi : decide (Int32.ofNat L - 4 < i) = false) (hv : xs i.toNatClampNeg &&& 63 = 57) {o : q_Out} (h : q_Ru (q_TBs z L xs) 20 376 (23, [(4, .int (i + 4)), (3, .ref 270), (2, .ref 236), (1, .ref 64), (0, .ref 0)], [], (q_kL S c n)) o) : q_Ru (q_TBs z L xs) 20 376 (23, [(4, .int i), (3, .ref 270), (2, .ref 236), (1, .ref 64), (0, .ref 0)], [], (q_kL S c n)) o := by
  refine q_Ru_seg (g2 := (29, [(4, .int i), (3, .ref 270), (2, .ref 236), (1, .ref 64), (0, .ref 0)], [.int ((Int32.ofNat L) - 4), .int i], (q_kL S c n))) 5 (fun _ _ => rfl) ?_
  refine q_Ru_rsF (g2 := (32, [(4, .int i), (3, .ref 270), (2, .ref 236), (1, .ref 64), (0, .ref 0)], [], (q_kL S c n))) rfl rfl hi ?_
  refine q_Ru_seg (g2 := (35, [(4, .int i), (3, .ref 270), (2, .ref 236), (1, .ref 64), (0, .ref 0)], [.int i, .ref 0], (q_kL S c n))) 2 (fun _ _ => rfl) ?_
  refine q_Ru_rsT (g2 := (36, [(4, .int i), (3, .ref 270), (2, .ref 236), (1, .ref 64), (0, .ref 0)], [.int (xs (i.toNatClampNeg))], (q_kL S c n))) rfl rfl hx0 ?_
  refine q_Ru_seg (g2 := (39, [(4, .int i), (3, .ref 270), (2, .ref 236), (1, .ref 64), (0, .ref 0)], [.int ((xs (i.toNatClampNeg)) &&& 63)], (q_kL S c n))) 2 (fun _ _ => rfl) ?_
  rw [hv]
  refine q_Ru_seg (g2 := (23, [(4, .int (i + 4)), (3, .ref 270), (2, .ref 236), (1, .ref 64), (0, .ref 0)], [], (q_kL S c n))) 3 (fun _ _ => rfl) ?_
  exact q_Ru_xt (q_xt_mk (q_mn1 0 rfl (q_mn1 1 rfl (q_mn1 2 rfl (q_mn1 3 rfl (q_mn1 4 rfl q_mn0))))) rfl) h
theorem q_st57 (h : q_IV k S) (hk : k < 512) (hx : q_XS L i) (hF : q_PZ k (q_vw 172 0 206 S)) (hv : xs i.toNatClampNeg &&& 63 = 57) : q_NX z L xs i S c n k := by
  obtain ⟨hx0, hx1, hx2, hx3, hi⟩ := hx
  exact ⟨_, _, _, q_nop h, q_PZ1 hF, Nat.le_add_right c 1, Nat.le_add_right n 6, fun o ho => q_lw57 z L xs S c n i hx0 hx1 hx2 hx3 hi hv ho⟩
set_option maxHeartbeats 4000000 in
theorem q_lw58 (z L : Nat) (xs : Nat → Int32) (S : q_S) (c n : Nat) (i : Int32) (hx0 : q_in i L = true) (hx1 : q_in (i + 1) L = true) (hx2 : q_in (i + 2) L = true) (hx3 : q_in (i + 3) L = true) (hi : decide (Int32.ofNat L - 4 < i) = false) (hv : xs i.toNatClampNeg &&& 63 = 58) {o : q_Out} (h : q_Ru (q_TBs z L xs) 20 376 (23, [(4, .int (i + 4)), (3, .ref 270), (2, .ref 236), (1, .ref 64), (0, .ref 0)], [], (q_kL S c n)) o) : q_Ru (q_TBs z L xs) 20 376 (23, [(4, .int i), (3, .ref 270), (2, .ref 236), (1, .ref 64), (0, .ref 0)], [], (q_kL S c n)) o := by
  refine q_Ru_seg (g2 := (29, [(4, .int i), (3, .ref 270), (2, .ref 236), (1, .ref 64), (0, .ref 0)], [.int ((Int32.ofNat L) - 4), .int i], (q_kL S c n))) 5 (fun _ _ => rfl) ?_
  refine q_Ru_rsF (g2 := (32, [(4, .int i), (3, .ref 270), (2, .ref 236), (1, .ref 64), (0, .ref 0)], [], (q_kL S c n))) rfl rfl hi ?_
  refine q_Ru_seg (g2 := (35, [(4, .int i), (3, .ref 270), (2, .ref 236), (1, .ref 64), (0, .ref 0)], [.int i, .ref 0], (q_kL S c n))) 2 (fun _ _ => rfl) ?_
  refine q_Ru_rsT (g2 := (36, [(4, .int i), (3, .ref 270), (2, .ref 236), (1, .ref 64), (0, .ref 0)], [.int (xs (i.toNatClampNeg))], (q_kL S c n))) rfl rfl hx0 ?_
  refine q_Ru_seg (g2 := (39, [(4, .int i), (3, .ref 270), (2, .ref 236), (1, .ref 64), (0, .ref 0)], [.int ((xs (i.toNatClampNeg)) &&& 63)], (q_kL S c n))) 2 (fun _ _ => rfl) ?_
  rw [hv]
  refine q_Ru_seg (g2 := (23, [(4, .int (i + 4)), (3, .ref 270), (2, .ref 236), (1, .ref 64), (0, .ref 0)], [], (q_kL S c n))) 3 (fun _ _ => rfl) ?_
  exact q_Ru_xt (q_xt_mk (q_mn1 0 rfl (q_mn1 1 rfl (q_mn1 2 rfl (q_mn1 3 rfl (q_mn1 4 rfl q_mn0))))) rfl) h
theorem q_st58 (h : q_IV k S) (hk : k < 512) (hx : q_XS L i) (hF : q_PZ k (q_vw 172 0 206 S)) (hv : xs i.toNatClampNeg &&& 63 = 58) : q_NX z L xs i S c n k := by
  obtain ⟨hx0, hx1, hx2, hx3, hi⟩ := hx
  exact ⟨_, _, _, q_nop h, q_PZ1 hF, Nat.le_add_right c 1, Nat.le_add_right n 6, fun o ho => q_lw58 z L xs S c n i hx0 hx1 hx2 hx3 hi hv ho⟩
set_option maxHeartbeats 4000000 in
theorem q_lw59 (z L : Nat) (xs : Nat → Int32) (S : q_S) (c n : Nat) (i : Int32) (hx0 : q_in i L = true) (hx1 : q_in (i + 1) L = true) (hx2 : q_in (i + 2) L = true) (hx3 : q_in (i + 3) L = true) (hi : decide (Int32.ofNat L - 4 < i) = false) (hv : xs i.toNatClampNeg &&& 63 = 59) {o : q_Out} (h : q_Ru (q_TBs z L xs) 20 376 (23, [(4, .int (i + 4)), (3, .ref 270), (2, .ref 236), (1, .ref 64), (0, .ref 0)], [], (q_kL S c n)) o) : q_Ru (q_TBs z L xs) 20 376 (23, [(4, .int i), (3, .ref 270), (2, .ref 236), (1, .ref 64), (0, .ref 0)], [], (q_kL S c n)) o := by
  refine q_Ru_seg (g2 := (29, [(4, .int i), (3, .ref 270), (2, .ref 236), (1, .ref 64), (0, .ref 0)], [.int ((Int32.ofNat L) - 4), .int i], (q_kL S c n))) 5 (fun _ _ => rfl) ?_
  refine q_Ru_rsF (g2 := (32, [(4, .int i), (3, .ref 270), (2, .ref 236), (1, .ref 64), (0, .ref 0)], [], (q_kL S c n))) rfl rfl hi ?_
  refine q_Ru_seg (g2 := (35, [(4, .int i), (3, .ref 270), (2, .ref 236), (1, .ref 64), (0, .ref 0)], [.int i, .ref 0], (q_kL S c n))) 2 (fun _ _ => rfl) ?_
  refine q_Ru_rsT (g2 := (36, [(4, .int i), (3, .ref 270), (2, .ref 236), (1, .ref 64), (0, .ref 0)], [.int (xs (i.toNatClampNeg))], (q_kL S c n))) rfl rfl hx0 ?_
  refine q_Ru_seg (g2 := (39, [(4, .int i), (3, .ref 270), (2, .ref 236), (1, .ref 64), (0, .ref 0)], [.int ((xs (i.toNatClampNeg)) &&& 63)], (q_kL S c n))) 2 (fun _ _ => rfl) ?_
  rw [hv]
  refine q_Ru_seg (g2 := (23, [(4, .int (i + 4)), (3, .ref 270), (2, .ref 236), (1, .ref 64), (0, .ref 0)], [], (q_kL S c n))) 3 (fun _ _ => rfl) ?_
  exact q_Ru_xt (q_xt_mk (q_mn1 0 rfl (q_mn1 1 rfl (q_mn1 2 rfl (q_mn1 3 rfl (q_mn1 4 rfl q_mn0))))) rfl) h
theorem q_st59 (h : q_IV k S) (hk : k < 512) (hx : q_XS L i) (hF : q_PZ k (q_vw 172 0 206 S)) (hv : xs i.toNatClampNeg &&& 63 = 59) : q_NX z L xs i S c n k := by
  obtain ⟨hx0, hx1, hx2, hx3, hi⟩ := hx
  exact ⟨_, _, _, q_nop h, q_PZ1 hF, Nat.le_add_right c 1, Nat.le_add_right n 6, fun o ho => q_lw59 z L xs S c n i hx0 hx1 hx2 hx3 hi hv ho⟩
set_option maxHeartbeats 4000000 in
theorem q_lw60 (z L : Nat) (xs : Nat → Int32) (S : q_S) (c n : Nat) (i : Int32) (hx0 : q_in i L = true) (hx1 : q_in (i + 1) L = true) (hx2 : q_in (i + 2) L = true) (hx3 : q_in (i + 3) L = true) (hi : decide (Int32.ofNat L - 4 < i) = false) (hv : xs i.toNatClampNeg &&& 63 = 60) {o : q_Out} (h : q_Ru (q_TBs z L xs) 20 376 (23, [(4, .int (i + 4)), (3, .ref 270), (2, .ref 236), (1, .ref 64), (0, .ref 0)], [], (q_kL S c n)) o) : q_Ru (q_TBs z L xs) 20 376 (23, [(4, .int i), (3, .ref 270), (2, .ref 236), (1, .ref 64), (0, .ref 0)], [], (q_kL S c n)) o := by
  refine q_Ru_seg (g2 := (29, [(4, .int i), (3, .ref 270), (2, .ref 236), (1, .ref 64), (0, .ref 0)], [.int ((Int32.ofNat L) - 4), .int i], (q_kL S c n))) 5 (fun _ _ => rfl) ?_
  refine q_Ru_rsF (g2 := (32, [(4, .int i), (3, .ref 270), (2, .ref 236), (1, .ref 64), (0, .ref 0)], [], (q_kL S c n))) rfl rfl hi ?_
  refine q_Ru_seg (g2 := (35, [(4, .int i), (3, .ref 270), (2, .ref 236), (1, .ref 64), (0, .ref 0)], [.int i, .ref 0], (q_kL S c n))) 2 (fun _ _ => rfl) ?_
  refine q_Ru_rsT (g2 := (36, [(4, .int i), (3, .ref 270), (2, .ref 236), (1, .ref 64), (0, .ref 0)], [.int (xs (i.toNatClampNeg))], (q_kL S c n))) rfl rfl hx0 ?_
  refine q_Ru_seg (g2 := (39, [(4, .int i), (3, .ref 270), (2, .ref 236), (1, .ref 64), (0, .ref 0)], [.int ((xs (i.toNatClampNeg)) &&& 63)], (q_kL S c n))) 2 (fun _ _ => rfl) ?_
  rw [hv]
  refine q_Ru_seg (g2 := (23, [(4, .int (i + 4)), (3, .ref 270), (2, .ref 236), (1, .ref 64), (0, .ref 0)], [], (q_kL S c n))) 3 (fun _ _ => rfl) ?_
  exact q_Ru_xt (q_xt_mk (q_mn1 0 rfl (q_mn1 1 rfl (q_mn1 2 rfl (q_mn1 3 rfl (q_mn1 4 rfl q_mn0))))) rfl) h
theorem q_st60 (h : q_IV k S) (hk : k < 512) (hx : q_XS L i) (hF : q_PZ k (q_vw 172 0 206 S)) (hv : xs i.toNatClampNeg &&& 63 = 60) : q_NX z L xs i S c n k := by
  obtain ⟨hx0, hx1, hx2, hx3, hi⟩ := hx
  exact ⟨_, _, _, q_nop h, q_PZ1 hF, Nat.le_add_right c 1, Nat.le_add_right n 6, fun o ho => q_lw60 z L xs S c n i hx0 hx1 hx2 hx3 hi hv ho⟩
set_option maxHeartbeats 4000000 in
theorem q_lw61 (z L : Nat) (xs : Nat → Int32) (S : q_S) (c n : Nat) (i : Int32) (hx0 : q_in i L = true) (hx1 : q_in (i + 1) L = true) (hx2 : q_in (i + 2) L = true) (hx3 : q_in (i + 3) L = true) (hi : decide (Int32.ofNat L - 4 < i) = false) (hv : xs i.toNatClampNeg &&& 63 = 61) {o : q_Out} (h : q_Ru (q_TBs z L xs) 20 376 (23, [(4, .int (i + 4)), (3, .ref 270), (2, .ref 236), (1, .ref 64), (0, .ref 0)], [], (q_kL S c n)) o) : q_Ru (q_TBs z L xs) 20 376 (23, [(4, .int i), (3, .ref 270), (2, .ref 236), (1, .ref 64), (0, .ref 0)], [], (q_kL S c n)) o := by
  refine q_Ru_seg (g2 := (29, [(4, .int i), (3, .ref 270), (2, .ref 236), (1, .ref 64), (0, .ref 0)], [.int ((Int32.ofNat L) - 4), .int i], (q_kL S c n))) 5 (fun _ _ => rfl) ?_
  refine q_Ru_rsF (g2 := (32, [(4, .int i), (3, .ref 270), (2, .ref 236), (1, .ref 64), (0, .ref 0)], [], (q_kL S c n))) rfl rfl hi ?_
  refine q_Ru_seg (g2 := (35, [(4, .int i), (3, .ref 270), (2, .ref 236), (1, .ref 64), (0, .ref 0)], [.int i, .ref 0], (q_kL S c n))) 2 (fun _ _ => rfl) ?_
  refine q_Ru_rsT (g2 := (36, [(4, .int i), (3, .ref 270), (2, .ref 236), (1, .ref 64), (0, .ref 0)], [.int (xs (i.toNatClampNeg))], (q_kL S c n))) rfl rfl hx0 ?_
  refine q_Ru_seg (g2 := (39, [(4, .int i), (3, .ref 270), (2, .ref 236), (1, .ref 64), (0, .ref 0)], [.int ((xs (i.toNatClampNeg)) &&& 63)], (q_kL S c n))) 2 (fun _ _ => rfl) ?_
  rw [hv]
  refine q_Ru_seg (g2 := (23, [(4, .int (i + 4)), (3, .ref 270), (2, .ref 236), (1, .ref 64), (0, .ref 0)], [], (q_kL S c n))) 3 (fun _ _ => rfl) ?_
  exact q_Ru_xt (q_xt_mk (q_mn1 0 rfl (q_mn1 1 rfl (q_mn1 2 rfl (q_mn1 3 rfl (q_mn1 4 rfl q_mn0))))) rfl) h
theorem q_st61 (h : q_IV k S) (hk : k < 512) (hx : q_XS L i) (hF : q_PZ k (q_vw 172 0 206 S)) (hv : xs i.toNatClampNeg &&& 63 = 61) : q_NX z L xs i S c n k := by
  obtain ⟨hx0, hx1, hx2, hx3, hi⟩ := hx
  exact ⟨_, _, _, q_nop h, q_PZ1 hF, Nat.le_add_right c 1, Nat.le_add_right n 6, fun o ho => q_lw61 z L xs S c n i hx0 hx1 hx2 hx3 hi hv ho⟩
set_option maxHeartbeats 4000000 in
theorem q_lw62 (z L : Nat) (xs : Nat → Int32) (S : q_S) (c n : Nat) (i : Int32) (hx0 : q_in i L = true) (hx1 : q_in (i + 1) L = true) (hx2 : q_in (i + 2) L = true) (hx3 : q_in (i + 3) L = true) (hi : decide (Int32.ofNat L - 4 < i) = false) (hv : xs i.toNatClampNeg &&& 63 = 62) {o : q_Out} (h : q_Ru (q_TBs z L xs) 20 376 (23, [(4, .int (i + 4)), (3, .ref 270), (2, .ref 236), (1, .ref 64), (0, .ref 0)], [], (q_kL S c n)) o) : q_Ru (q_TBs z L xs) 20 376 (23, [(4, .int i), (3, .ref 270), (2, .ref 236), (1, .ref 64), (0, .ref 0)], [], (q_kL S c n)) o := by
  refine q_Ru_seg (g2 := (29, [(4, .int i), (3, .ref 270), (2, .ref 236), (1, .ref 64), (0, .ref 0)], [.int ((Int32.ofNat L) - 4), .int i], (q_kL S c n))) 5 (fun _ _ => rfl) ?_
  refine q_Ru_rsF (g2 := (32, [(4, .int i), (3, .ref 270), (2, .ref 236), (1, .ref 64), (0, .ref 0)], [], (q_kL S c n))) rfl rfl hi ?_
  refine q_Ru_seg (g2 := (35, [(4, .int i), (3, .ref 270), (2, .ref 236), (1, .ref 64), (0, .ref 0)], [.int i, .ref 0], (q_kL S c n))) 2 (fun _ _ => rfl) ?_
  refine q_Ru_rsT (g2 := (36, [(4, .int i), (3, .ref 270), (2, .ref 236), (1, .ref 64), (0, .ref 0)], [.int (xs (i.toNatClampNeg))], (q_kL S c n))) rfl rfl hx0 ?_
  refine q_Ru_seg (g2 := (39, [(4, .int i), (3, .ref 270), (2, .ref 236), (1, .ref 64), (0, .ref 0)], [.int ((xs (i.toNatClampNeg)) &&& 63)], (q_kL S c n))) 2 (fun _ _ => rfl) ?_
  rw [hv]
  refine q_Ru_seg (g2 := (23, [(4, .int (i + 4)), (3, .ref 270), (2, .ref 236), (1, .ref 64), (0, .ref 0)], [], (q_kL S c n))) 3 (fun _ _ => rfl) ?_
  exact q_Ru_xt (q_xt_mk (q_mn1 0 rfl (q_mn1 1 rfl (q_mn1 2 rfl (q_mn1 3 rfl (q_mn1 4 rfl q_mn0))))) rfl) h
theorem q_st62 (h : q_IV k S) (hk : k < 512) (hx : q_XS L i) (hF : q_PZ k (q_vw 172 0 206 S)) (hv : xs i.toNatClampNeg &&& 63 = 62) : q_NX z L xs i S c n k := by
  obtain ⟨hx0, hx1, hx2, hx3, hi⟩ := hx
  exact ⟨_, _, _, q_nop h, q_PZ1 hF, Nat.le_add_right c 1, Nat.le_add_right n 6, fun o ho => q_lw62 z L xs S c n i hx0 hx1 hx2 hx3 hi hv ho⟩
set_option maxHeartbeats 4000000 in
theorem q_lw63 (z L : Nat) (xs : Nat → Int32) (S : q_S) (c n : Nat) (i : Int32) (hx0 : q_in i L = true) (hx1 : q_in (i + 1) L = true) (hx2 : q_in (i + 2) L = true) (hx3 : q_in (i + 3) L = true) (hi : decide (Int32.ofNat L - 4 < i) = false) (hv : xs i.toNatClampNeg &&& 63 = 63) {o : q_Out} (h : q_Ru (q_TBs z L xs) 20 376 (23, [(4, .int (i + 4)), (3, .ref 270), (2, .ref 236), (1, .ref 64), (0, .ref 0)], [], (q_kL S c n)) o) : q_Ru (q_TBs z L xs) 20 376 (23, [(4, .int i), (3, .ref 270), (2, .ref 236), (1, .ref 64), (0, .ref 0)], [], (q_kL S c n)) o := by
  refine q_Ru_seg (g2 := (29, [(4, .int i), (3, .ref 270), (2, .ref 236), (1, .ref 64), (0, .ref 0)], [.int ((Int32.ofNat L) - 4), .int i], (q_kL S c n))) 5 (fun _ _ => rfl) ?_
  refine q_Ru_rsF (g2 := (32, [(4, .int i), (3, .ref 270), (2, .ref 236), (1, .ref 64), (0, .ref 0)], [], (q_kL S c n))) rfl rfl hi ?_
  refine q_Ru_seg (g2 := (35, [(4, .int i), (3, .ref 270), (2, .ref 236), (1, .ref 64), (0, .ref 0)], [.int i, .ref 0], (q_kL S c n))) 2 (fun _ _ => rfl) ?_
  refine q_Ru_rsT (g2 := (36, [(4, .int i), (3, .ref 270), (2, .ref 236), (1, .ref 64), (0, .ref 0)], [.int (xs (i.toNatClampNeg))], (q_kL S c n))) rfl rfl hx0 ?_
  refine q_Ru_seg (g2 := (39, [(4, .int i), (3, .ref 270), (2, .ref 236), (1, .ref 64), (0, .ref 0)], [.int ((xs (i.toNatClampNeg)) &&& 63)], (q_kL S c n))) 2 (fun _ _ => rfl) ?_
  rw [hv]
  refine q_Ru_seg (g2 := (23, [(4, .int (i + 4)), (3, .ref 270), (2, .ref 236), (1, .ref 64), (0, .ref 0)], [], (q_kL S c n))) 3 (fun _ _ => rfl) ?_
  exact q_Ru_xt (q_xt_mk (q_mn1 0 rfl (q_mn1 1 rfl (q_mn1 2 rfl (q_mn1 3 rfl (q_mn1 4 rfl q_mn0))))) rfl) h
theorem q_st63 (h : q_IV k S) (hk : k < 512) (hx : q_XS L i) (hF : q_PZ k (q_vw 172 0 206 S)) (hv : xs i.toNatClampNeg &&& 63 = 63) : q_NX z L xs i S c n k := by
  obtain ⟨hx0, hx1, hx2, hx3, hi⟩ := hx
  exact ⟨_, _, _, q_nop h, q_PZ1 hF, Nat.le_add_right c 1, Nat.le_add_right n 6, fun o ho => q_lw63 z L xs S c n i hx0 hx1 hx2 hx3 hi hv ho⟩
end
end
section
-- 58.b
section
variable {z L : Nat} {xs : Nat → Int32} {S : q_S} {c n k : Nat} {i : Int32}
theorem q_sall (h : q_IV k S) (hk : k < 512) (hx : q_XS L i) (hF : q_PZ k (q_vw 172 0 206 S)) : q_NX z L xs i S c n k := by
  have r : q_rgz 0 63 (xs i.toNatClampNeg &&& 63) := q_rg_and (xs i.toNatClampNeg) 63 (by decide) rfl
  have r0 := r.1
  have r1 := r.2
  have key : ∀ j : Nat, j < 64 → (xs i.toNatClampNeg &&& 63).toInt = j → q_NX z L xs i S c n k := by
    intro j hj e
    by_cases g0_64 : j < 32
    · by_cases g0_32 : j < 16
      · by_cases g0_16 : j < 8
        · by_cases g0_8 : j < 4
          · by_cases g0_4 : j < 2
            · by_cases g0_2 : j < 1
              · exact q_st0 h hk hx hF (Int32.toInt_inj.mp (by show _ = (0 : Int); omega))
              · exact q_st1 h hk hx hF (Int32.toInt_inj.mp (by show _ = (1 : Int); omega))
            · by_cases g2_4 : j < 3
              · exact q_st2 h hk hx hF (Int32.toInt_inj.mp (by show _ = (2 : Int); omega))
              · exact q_st3 h hk hx hF (Int32.toInt_inj.mp (by show _ = (3 : Int); omega))
          · by_cases g4_8 : j < 6
            · by_cases g4_6 : j < 5
              · exact q_st4 h hk hx hF (Int32.toInt_inj.mp (by show _ = (4 : Int); omega))
              · exact q_st5 h hk hx hF (Int32.toInt_inj.mp (by show _ = (5 : Int); omega))
            · by_cases g6_8 : j < 7
              · exact q_st6 h hk hx hF (Int32.toInt_inj.mp (by show _ = (6 : Int); omega))
              · exact q_st7 h hk hx hF (Int32.toInt_inj.mp (by show _ = (7 : Int); omega))
        · by_cases g8_16 : j < 12
          · by_cases g8_12 : j < 10
            · by_cases g8_10 : j < 9
              · exact q_st8 h hk hx hF (Int32.toInt_inj.mp (by show _ = (8 : Int); omega))
              · exact q_st9 h hk hx hF (Int32.toInt_inj.mp (by show _ = (9 : Int); omega))
            · by_cases g10_12 : j < 11
              · exact q_st10 h hk hx hF (Int32.toInt_inj.mp (by show _ = (10 : Int); omega))
              · exact q_st11 h hk hx hF (Int32.toInt_inj.mp (by show _ = (11 : Int); omega))
          · by_cases g12_16 : j < 14
            · by_cases g12_14 : j < 13
              · exact q_st12 h hk hx hF (Int32.toInt_inj.mp (by show _ = (12 : Int); omega))
              · exact q_st13 h hk hx hF (Int32.toInt_inj.mp (by show _ = (13 : Int); omega))
            · by_cases g14_16 : j < 15
              · exact q_st14 h hk hx hF (Int32.toInt_inj.mp (by show _ = (14 : Int); omega))
              · exact q_st15 h hk hx hF (Int32.toInt_inj.mp (by show _ = (15 : Int); omega))
      · by_cases g16_32 : j < 24
        · by_cases g16_24 : j < 20
          · by_cases g16_20 : j < 18
            · by_cases g16_18 : j < 17
              · exact q_st16 h hk hx hF (Int32.toInt_inj.mp (by show _ = (16 : Int); omega))
              · exact q_st17 h hk hx hF (Int32.toInt_inj.mp (by show _ = (17 : Int); omega))
            · by_cases g18_20 : j < 19
              · exact q_st18 h hk hx hF (Int32.toInt_inj.mp (by show _ = (18 : Int); omega))
              · exact q_st19 h hk hx hF (Int32.toInt_inj.mp (by show _ = (19 : Int); omega))
          · by_cases g20_24 : j < 22
            · by_cases g20_22 : j < 21
              · exact q_st20 h hk hx hF (Int32.toInt_inj.mp (by show _ = (20 : Int); omega))
              · exact q_st21 h hk hx hF (Int32.toInt_inj.mp (by show _ = (21 : Int); omega))
            · by_cases g22_24 : j < 23
              · exact q_st22 h hk hx hF (Int32.toInt_inj.mp (by show _ = (22 : Int); omega))
              · exact q_st23 h hk hx hF (Int32.toInt_inj.mp (by show _ = (23 : Int); omega))
        · by_cases g24_32 : j < 28
          · by_cases g24_28 : j < 26
            · by_cases g24_26 : j < 25
              · exact q_st24 h hk hx hF (Int32.toInt_inj.mp (by show _ = (24 : Int); omega))
              · exact q_st25 h hk hx hF (Int32.toInt_inj.mp (by show _ = (25 : Int); omega))
            · by_cases g26_28 : j < 27
              · have hv : xs i.toNatClampNeg &&& 63 = 26 := Int32.toInt_inj.mp (by show _ = (26 : Int); omega)
                cases hc0 : decide (xs ((i + 3).toNatClampNeg) = 0) with
                | true => exact q_st26t h hk hx hF hv hc0
                | false => exact q_st26f h hk hx hF hv hc0
              · exact q_st27 h hk hx hF (Int32.toInt_inj.mp (by show _ = (27 : Int); omega))
          · by_cases g28_32 : j < 30
            · by_cases g28_30 : j < 29
              · exact q_st28 h hk hx hF (Int32.toInt_inj.mp (by show _ = (28 : Int); omega))
              · exact q_st29 h hk hx hF (Int32.toInt_inj.mp (by show _ = (29 : Int); omega))
            · by_cases g30_32 : j < 31
              · exact q_st30 h hk hx hF (Int32.toInt_inj.mp (by show _ = (30 : Int); omega))
              · exact q_st31 h hk hx hF (Int32.toInt_inj.mp (by show _ = (31 : Int); omega))
    · by_cases g32_64 : j < 48
      · by_cases g32_48 : j < 40
        · by_cases g32_40 : j < 36
          · by_cases g32_36 : j < 34
            · by_cases g32_34 : j < 33
              · exact q_st32 h hk hx hF (Int32.toInt_inj.mp (by show _ = (32 : Int); omega))
              · exact q_st33 h hk hx hF (Int32.toInt_inj.mp (by show _ = (33 : Int); omega))
            · by_cases g34_36 : j < 35
              · exact q_st34 h hk hx hF (Int32.toInt_inj.mp (by show _ = (34 : Int); omega))
              · exact q_st35 h hk hx hF (Int32.toInt_inj.mp (by show _ = (35 : Int); omega))
          · by_cases g36_40 : j < 38
            · by_cases g36_38 : j < 37
              · exact q_st36 h hk hx hF (Int32.toInt_inj.mp (by show _ = (36 : Int); omega))
              · exact q_st37 h hk hx hF (Int32.toInt_inj.mp (by show _ = (37 : Int); omega))
            · by_cases g38_40 : j < 39
              · exact q_st38 h hk hx hF (Int32.toInt_inj.mp (by show _ = (38 : Int); omega))
              · exact q_st39 h hk hx hF (Int32.toInt_inj.mp (by show _ = (39 : Int); omega))
        · by_cases g40_48 : j < 44
          · by_cases g40_44 : j < 42
            · by_cases g40_42 : j < 41
              · exact q_st40 h hk hx hF (Int32.toInt_inj.mp (by show _ = (40 : Int); omega))
              · exact q_st41 h hk hx hF (Int32.toInt_inj.mp (by show _ = (41 : Int); omega))
            · by_cases g42_44 : j < 43
              · exact q_st42 h hk hx hF (Int32.toInt_inj.mp (by show _ = (42 : Int); omega))
              · exact q_st43 h hk hx hF (Int32.toInt_inj.mp (by show _ = (43 : Int); omega))
          · by_cases g44_48 : j < 46
            · by_cases g44_46 : j < 45
              · exact q_st44 h hk hx hF (Int32.toInt_inj.mp (by show _ = (44 : Int); omega))
              · exact q_st45 h hk hx hF (Int32.toInt_inj.mp (by show _ = (45 : Int); omega))
            · by_cases g46_48 : j < 47
              · exact q_st46 h hk hx hF (Int32.toInt_inj.mp (by show _ = (46 : Int); omega))
              · exact q_st47 h hk hx hF (Int32.toInt_inj.mp (by show _ = (47 : Int); omega))
      · by_cases g48_64 : j < 56
        · by_cases g48_56 : j < 52
          · by_cases g48_52 : j < 50
            · by_cases g48_50 : j < 49
              · exact q_st48 h hk hx hF (Int32.toInt_inj.mp (by show _ = (48 : Int); omega))
              · exact q_st49 h hk hx hF (Int32.toInt_inj.mp (by show _ = (49 : Int); omega))
            · by_cases g50_52 : j < 51
              · exact q_st50 h hk hx hF (Int32.toInt_inj.mp (by show _ = (50 : Int); omega))
              · exact q_st51 h hk hx hF (Int32.toInt_inj.mp (by show _ = (51 : Int); omega))
          · by_cases g52_56 : j < 54
            · by_cases g52_54 : j < 53
              · exact q_st52 h hk hx hF (Int32.toInt_inj.mp (by show _ = (52 : Int); omega))
              · exact q_st53 h hk hx hF (Int32.toInt_inj.mp (by show _ = (53 : Int); omega))
            · by_cases g54_56 : j < 55
              · exact q_st54 h hk hx hF (Int32.toInt_inj.mp (by show _ = (54 : Int); omega))
              · exact q_st55 h hk hx hF (Int32.toInt_inj.mp (by show _ = (55 : Int); omega))
        · by_cases g56_64 : j < 60
          · by_cases g56_60 : j < 58
            · by_cases g56_58 : j < 57
              · exact q_st56 h hk hx hF (Int32.toInt_inj.mp (by show _ = (56 : Int); omega))
              · exact q_st57 h hk hx hF (Int32.toInt_inj.mp (by show _ = (57 : Int); omega))
            · by_cases g58_60 : j < 59
              · exact q_st58 h hk hx hF (Int32.toInt_inj.mp (by show _ = (58 : Int); omega))
              · exact q_st59 h hk hx hF (Int32.toInt_inj.mp (by show _ = (59 : Int); omega))
          · by_cases g60_64 : j < 62
            · by_cases g60_62 : j < 61
              · exact q_st60 h hk hx hF (Int32.toInt_inj.mp (by show _ = (60 : Int); omega))
              · exact q_st61 h hk hx hF (Int32.toInt_inj.mp (by show _ = (61 : Int); omega))
            · by_cases g62_64 : j < 63
              · exact q_st62 h hk hx hF (Int32.toInt_inj.mp (by show _ = (62 : Int); omega))
              · exact q_st63 h hk hx hF (Int32.toInt_inj.mp (by show _ = (63 : Int); omega))
  exact key (xs i.toNatClampNeg &&& 63).toInt.toNat (by omega) (by omega)
theorem q_lwA (hL : L ≤ 2048) : ∀ (t k : Nat) (i : Int32) (S : q_S) (c n : Nat), i.toInt = 4 * k → L ≤ 4 * (k + t) → k ≤ 512 → q_IV k S → q_PZ k (q_vw 172 0 206 S) → ∃ S2 c2 n2, q_Ru (q_TBs z L xs) 20 376 (23, [(4, .int i), (3, .ref 270), (2, .ref 236), (1, .ref 64), (0, .ref 0)], [], (q_kL S c n)) (.inl (some (.int 1)), q_kL S2 c2 n2) ∧ c2 ≤ c + t ∧ n2 ≤ n + 6 * t := by
  intro t
  have e4 : (4 : Int32).toInt = 4 := rfl
  have eL : (Int32.ofNat L).toInt = L := Int32.toInt_ofNat_of_lt (by omega)
  have eLm : (Int32.ofNat L - 4).toInt = (L : Int) - 4 := by rw [q_subI ⟨by omega, by omega⟩ ⟨by decide, by decide⟩, eL]; rfl
  induction t with
  | zero =>
    intro k i S c n hi hk h5 h hF
    exact ⟨S, c, n, q_lwE z L xs S c n i (q_lt_T (by omega)), Nat.le_refl _, Nat.le_refl _⟩
  | succ t ih =>
    intro k i S c n hi hk h5 h hF
    by_cases q : (L : Int) - 4 < i.toInt
    · exact ⟨S, c, n, q_lwE z L xs S c n i (q_lt_T (by omega)), by omega, by omega⟩
    · have e1 : (i + 1).toInt = i.toInt + 1 := q_addI ⟨by omega, by omega⟩ ⟨by decide, by decide⟩
      have e2 : (i + 2).toInt = i.toInt + 2 := q_addI ⟨by omega, by omega⟩ ⟨by decide, by decide⟩
      have e3 : (i + 3).toInt = i.toInt + 3 := q_addI ⟨by omega, by omega⟩ ⟨by decide, by decide⟩
      have e9 : (i + 4).toInt = i.toInt + 4 := q_addI ⟨by omega, by omega⟩ ⟨by decide, by decide⟩
      have hx : q_XS L i := ⟨q_in_rg (l := 0) (u := (L : Int) - 1) ⟨by omega, by omega⟩ (by decide) (by omega), q_in_rg (l := 0) (u := (L : Int) - 1) ⟨by omega, by omega⟩ (by decide) (by omega), q_in_rg (l := 0) (u := (L : Int) - 1) ⟨by omega, by omega⟩ (by decide) (by omega), q_in_rg (l := 0) (u := (L : Int) - 1) ⟨by omega, by omega⟩ (by decide) (by omega), q_lt_F (by omega)⟩
      obtain ⟨S2, c2, n2, g1, g9, g2, g3, g4⟩ := q_sall (z := z) (xs := xs) (c := c) (n := n) h (by omega) hx hF
      obtain ⟨S3, c3, n3, f1, f2, f3⟩ := ih (k + 1) (i + 4) S2 c2 n2 (by omega) (by omega) (by omega) g1 g9
      exact ⟨S3, c3, n3, g4 _ f1, by omega, by omega⟩
end
end
section
-- 58.c
theorem q_run : ∀ (z L : Nat) (xs : Nat → Int32), (z = 98 ∨ z = 99) → L ≤ 2048 → ∃ (n d : Nat) (h : q_H), d ≤ 800 ∧ q_loop (q_exec q_mt (q_mtab (q_TBs z L xs)) n d) (q_mtab (q_TBs z L xs) 376) n (0, [(0, .ref 0)], [], ([], 0, 0)) = some (.inl (some (.int 1)), h) ∧ h.2.1 ≤ 601024 ∧ h.2.2 ≤ 7293034 := by
  intro z L xs _ hL
  obtain ⟨S2, c2, n2, ⟨n, e⟩, g1, g2⟩ : ∃ S2 c2 n2, q_Ru (q_TBs z L xs) 20 376 (0, [(0, .ref 0)], [], ([], 0, 0)) (.inl (some (.int 1)), q_kL S2 c2 n2) ∧ c2 ≤ 207 + 512 ∧ n2 ≤ 149582 + 6 * 512 := by
    obtain ⟨S2, c2, n2, e, g1, g2⟩ := q_lwA (z := z) (xs := xs) hL 512 0 0 q_SL0 207 149582 (by decide) (by omega) (by decide) q_IV0 q_PZ0
    exact ⟨S2, c2, n2, q_lwS e, by omega, by omega⟩
  exact ⟨n, 20, q_kL S2 c2 n2, by decide, e, by show c2 ≤ 601024; omega, by show n2 ≤ 7293034; omega⟩
end
