section
variable {s t9 y r : q_S} {c d u K : Int} {t : Int64} {l : Int32}
/-- what the cells hold that a processor's work asks of -/
def q_RI (s : q_S) : Prop := (∀ k, k < 4096 → q_rgz 0 255 (s.1 3 k)) ∧ (∀ k, k < 48 → q_rgz 0 255 (s.1 4 k)) ∧ (∀ k, k < 512 → q_rgz 0 255 (s.1 5 k)) ∧ (∀ k, k < 2048 → q_rgz 0 255 (s.1 6 k)) ∧ (∀ k, k < 2 → q_rgz 0 65535 (s.1 7 k)) ∧ (∀ k, k < 16 → q_rgz 0 15 (s.1 12 k)) ∧ q_rgz 0 15 (s.1 4 0) ∧ q_rgz 0 1 (s.1 4 44) ∧ q_rgz 0 255 (s.2.1 23 0) ∧ q_rgz 0 255 (s.2.1 23 1) ∧ q_rgz 0 255 (s.2.1 23 2) ∧ q_rgz 0 255 (s.2.1 23 3) ∧ q_rgz 0 4095 (s.2.1 23 4) ∧ q_rgz 0 255 (s.2.1 23 5) ∧ q_rgz 0 1 (s.2.1 23 6) ∧ q_rgz 0 1 (s.2.1 23 7) ∧ q_rgz 0 15 (s.2.1 10 2) ∧ q_rgz 0 1 (s.2.1 8 4) ∧ 0 ≤ (s.2.2 1 8).toInt
def q_iY (u : Int) (t : Int64) (l : Int32) (K : Int) (s : q_S) : Prop := q_iP K 1 u s ∧ q_RI s ∧ s.2.2 1 8 = t ∧ s.2.1 23 9 = l
theorem q_iY_le {K2 : Int} (h : q_iY u t l K s) (hk : K ≤ K2) : q_iY u t l K2 s := ⟨q_iP_mono hk (Int.le_refl u) h.1, h.2⟩
theorem q_ixlt {l v : Int} {n : Nat} {x : Int32} (h : q_rgz l v x) (h0 : 0 ≤ l) (h1 : v < (n : Int)) : x.toNatClampNeg < n := by
  obtain ⟨a, b⟩ := h
  show x.toInt.toNat < n
  omega
theorem q_rg_sh8 {l v U : Int} {x : Int32} (h : q_rgz l v x) (h0 : 0 ≤ l) (h1 : v / 256 ≤ U) : q_rgz 0 U (x >>> ((8 &&& 31) : Int32)) := by
  have e : (x >>> ((8 &&& 31) : Int32)).toInt = x.toInt / 2 ^ 8 := q_shrI 8 (by decide) (by decide)
  obtain ⟨a, b⟩ := h
  exact ⟨by rw [e]; omega, by rw [e]; omega⟩
theorem q_ri3 (h : q_iY u t l K s) {k : Nat} (hk : k < 4096) : q_rgz 0 255 (s.1 3 k) := h.2.1.1 k hk
theorem q_ri4 (h : q_iY u t l K s) {k : Nat} (hk : k < 48) : q_rgz 0 255 (s.1 4 k) := h.2.1.2.1 k hk
theorem q_ri5 (h : q_iY u t l K s) {k : Nat} (hk : k < 512) : q_rgz 0 255 (s.1 5 k) := h.2.1.2.2.1 k hk
theorem q_ri6 (h : q_iY u t l K s) {k : Nat} (hk : k < 2048) : q_rgz 0 255 (s.1 6 k) := h.2.1.2.2.2.1 k hk
theorem q_ri7 (h : q_iY u t l K s) {k : Nat} (hk : k < 2) : q_rgz 0 65535 (s.1 7 k) := h.2.1.2.2.2.2.1 k hk
theorem q_ri12 (h : q_iY u t l K s) {k : Nat} (hk : k < 16) : q_rgz 0 15 (s.1 12 k) := h.2.1.2.2.2.2.2.1 k hk
theorem q_ri40 (h : q_iY u t l K s) : q_rgz 0 15 (s.1 4 0) := h.2.1.2.2.2.2.2.2.1
theorem q_ri44 (h : q_iY u t l K s) : q_rgz 0 1 (s.1 4 44) := h.2.1.2.2.2.2.2.2.2.1
theorem q_rf23_0 (h : q_iY u t l K s) : q_rgz 0 255 (s.2.1 23 0) := h.2.1.2.2.2.2.2.2.2.2.1
theorem q_rf23_1 (h : q_iY u t l K s) : q_rgz 0 255 (s.2.1 23 1) := h.2.1.2.2.2.2.2.2.2.2.2.1
theorem q_rf23_2 (h : q_iY u t l K s) : q_rgz 0 255 (s.2.1 23 2) := h.2.1.2.2.2.2.2.2.2.2.2.2.1
theorem q_rf23_3 (h : q_iY u t l K s) : q_rgz 0 255 (s.2.1 23 3) := h.2.1.2.2.2.2.2.2.2.2.2.2.2.1
theorem q_rf23_4 (h : q_iY u t l K s) : q_rgz 0 4095 (s.2.1 23 4) := h.2.1.2.2.2.2.2.2.2.2.2.2.2.2.1
theorem q_rf23_5 (h : q_iY u t l K s) : q_rgz 0 255 (s.2.1 23 5) := h.2.1.2.2.2.2.2.2.2.2.2.2.2.2.2.1
theorem q_rf23_6 (h : q_iY u t l K s) : q_rgz 0 1 (s.2.1 23 6) := h.2.1.2.2.2.2.2.2.2.2.2.2.2.2.2.2.1
theorem q_rf23_7 (h : q_iY u t l K s) : q_rgz 0 1 (s.2.1 23 7) := h.2.1.2.2.2.2.2.2.2.2.2.2.2.2.2.2.2.1
theorem q_rf10_2 (h : q_iY u t l K s) : q_rgz 0 15 (s.2.1 10 2) := h.2.1.2.2.2.2.2.2.2.2.2.2.2.2.2.2.2.2.1
theorem q_rf8_4 (h : q_iY u t l K s) : q_rgz 0 1 (s.2.1 8 4) := h.2.1.2.2.2.2.2.2.2.2.2.2.2.2.2.2.2.2.2.1
theorem q_iY_F0 {x : Int32} (h : q_iY u t l K s) (hx : q_rgz 0 255 x) : q_iY u t l K (q_sI s 23 0 x) := ⟨q_iP_eq (s := s) rfl rfl rfl rfl rfl rfl rfl rfl rfl rfl rfl rfl rfl rfl h.1, ⟨h.2.1.1, h.2.1.2.1, h.2.1.2.2.1, h.2.1.2.2.2.1, h.2.1.2.2.2.2.1, h.2.1.2.2.2.2.2.1, h.2.1.2.2.2.2.2.2.1, h.2.1.2.2.2.2.2.2.2.1, hx, h.2.1.2.2.2.2.2.2.2.2.2.1, h.2.1.2.2.2.2.2.2.2.2.2.2.1, h.2.1.2.2.2.2.2.2.2.2.2.2.2.1, h.2.1.2.2.2.2.2.2.2.2.2.2.2.2.1, h.2.1.2.2.2.2.2.2.2.2.2.2.2.2.2.1, h.2.1.2.2.2.2.2.2.2.2.2.2.2.2.2.2.1, h.2.1.2.2.2.2.2.2.2.2.2.2.2.2.2.2.2.1, h.2.1.2.2.2.2.2.2.2.2.2.2.2.2.2.2.2.2.1, h.2.1.2.2.2.2.2.2.2.2.2.2.2.2.2.2.2.2.2.1, h.2.1.2.2.2.2.2.2.2.2.2.2.2.2.2.2.2.2.2.2⟩, h.2.2⟩
theorem q_iY_F1 {x : Int32} (h : q_iY u t l K s) (hx : q_rgz 0 255 x) : q_iY u t l K (q_sI s 23 1 x) := ⟨q_iP_eq (s := s) rfl rfl rfl rfl rfl rfl rfl rfl rfl rfl rfl rfl rfl rfl h.1, ⟨h.2.1.1, h.2.1.2.1, h.2.1.2.2.1, h.2.1.2.2.2.1, h.2.1.2.2.2.2.1, h.2.1.2.2.2.2.2.1, h.2.1.2.2.2.2.2.2.1, h.2.1.2.2.2.2.2.2.2.1, h.2.1.2.2.2.2.2.2.2.2.1, hx, h.2.1.2.2.2.2.2.2.2.2.2.2.1, h.2.1.2.2.2.2.2.2.2.2.2.2.2.1, h.2.1.2.2.2.2.2.2.2.2.2.2.2.2.1, h.2.1.2.2.2.2.2.2.2.2.2.2.2.2.2.1, h.2.1.2.2.2.2.2.2.2.2.2.2.2.2.2.2.1, h.2.1.2.2.2.2.2.2.2.2.2.2.2.2.2.2.2.1, h.2.1.2.2.2.2.2.2.2.2.2.2.2.2.2.2.2.2.1, h.2.1.2.2.2.2.2.2.2.2.2.2.2.2.2.2.2.2.2.1, h.2.1.2.2.2.2.2.2.2.2.2.2.2.2.2.2.2.2.2.2⟩, h.2.2⟩
theorem q_iY_F2 {x : Int32} (h : q_iY u t l K s) (hx : q_rgz 0 255 x) : q_iY u t l K (q_sI s 23 2 x) := ⟨q_iP_eq (s := s) rfl rfl rfl rfl rfl rfl rfl rfl rfl rfl rfl rfl rfl rfl h.1, ⟨h.2.1.1, h.2.1.2.1, h.2.1.2.2.1, h.2.1.2.2.2.1, h.2.1.2.2.2.2.1, h.2.1.2.2.2.2.2.1, h.2.1.2.2.2.2.2.2.1, h.2.1.2.2.2.2.2.2.2.1, h.2.1.2.2.2.2.2.2.2.2.1, h.2.1.2.2.2.2.2.2.2.2.2.1, hx, h.2.1.2.2.2.2.2.2.2.2.2.2.2.1, h.2.1.2.2.2.2.2.2.2.2.2.2.2.2.1, h.2.1.2.2.2.2.2.2.2.2.2.2.2.2.2.1, h.2.1.2.2.2.2.2.2.2.2.2.2.2.2.2.2.1, h.2.1.2.2.2.2.2.2.2.2.2.2.2.2.2.2.2.1, h.2.1.2.2.2.2.2.2.2.2.2.2.2.2.2.2.2.2.1, h.2.1.2.2.2.2.2.2.2.2.2.2.2.2.2.2.2.2.2.1, h.2.1.2.2.2.2.2.2.2.2.2.2.2.2.2.2.2.2.2.2⟩, h.2.2⟩
theorem q_iY_F3 {x : Int32} (h : q_iY u t l K s) (hx : q_rgz 0 255 x) : q_iY u t l K (q_sI s 23 3 x) := ⟨q_iP_eq (s := s) rfl rfl rfl rfl rfl rfl rfl rfl rfl rfl rfl rfl rfl rfl h.1, ⟨h.2.1.1, h.2.1.2.1, h.2.1.2.2.1, h.2.1.2.2.2.1, h.2.1.2.2.2.2.1, h.2.1.2.2.2.2.2.1, h.2.1.2.2.2.2.2.2.1, h.2.1.2.2.2.2.2.2.2.1, h.2.1.2.2.2.2.2.2.2.2.1, h.2.1.2.2.2.2.2.2.2.2.2.1, h.2.1.2.2.2.2.2.2.2.2.2.2.1, hx, h.2.1.2.2.2.2.2.2.2.2.2.2.2.2.1, h.2.1.2.2.2.2.2.2.2.2.2.2.2.2.2.1, h.2.1.2.2.2.2.2.2.2.2.2.2.2.2.2.2.1, h.2.1.2.2.2.2.2.2.2.2.2.2.2.2.2.2.2.1, h.2.1.2.2.2.2.2.2.2.2.2.2.2.2.2.2.2.2.1, h.2.1.2.2.2.2.2.2.2.2.2.2.2.2.2.2.2.2.2.1, h.2.1.2.2.2.2.2.2.2.2.2.2.2.2.2.2.2.2.2.2⟩, h.2.2⟩
theorem q_iY_F4 {x : Int32} (h : q_iY u t l K s) (hx : q_rgz 0 4095 x) : q_iY u t l K (q_sI s 23 4 x) := ⟨q_iP_eq (s := s) rfl rfl rfl rfl rfl rfl rfl rfl rfl rfl rfl rfl rfl rfl h.1, ⟨h.2.1.1, h.2.1.2.1, h.2.1.2.2.1, h.2.1.2.2.2.1, h.2.1.2.2.2.2.1, h.2.1.2.2.2.2.2.1, h.2.1.2.2.2.2.2.2.1, h.2.1.2.2.2.2.2.2.2.1, h.2.1.2.2.2.2.2.2.2.2.1, h.2.1.2.2.2.2.2.2.2.2.2.1, h.2.1.2.2.2.2.2.2.2.2.2.2.1, h.2.1.2.2.2.2.2.2.2.2.2.2.2.1, hx, h.2.1.2.2.2.2.2.2.2.2.2.2.2.2.2.1, h.2.1.2.2.2.2.2.2.2.2.2.2.2.2.2.2.1, h.2.1.2.2.2.2.2.2.2.2.2.2.2.2.2.2.2.1, h.2.1.2.2.2.2.2.2.2.2.2.2.2.2.2.2.2.2.1, h.2.1.2.2.2.2.2.2.2.2.2.2.2.2.2.2.2.2.2.1, h.2.1.2.2.2.2.2.2.2.2.2.2.2.2.2.2.2.2.2.2⟩, h.2.2⟩
theorem q_iY_F5 {x : Int32} (h : q_iY u t l K s) (hx : q_rgz 0 255 x) : q_iY u t l K (q_sI s 23 5 x) := ⟨q_iP_eq (s := s) rfl rfl rfl rfl rfl rfl rfl rfl rfl rfl rfl rfl rfl rfl h.1, ⟨h.2.1.1, h.2.1.2.1, h.2.1.2.2.1, h.2.1.2.2.2.1, h.2.1.2.2.2.2.1, h.2.1.2.2.2.2.2.1, h.2.1.2.2.2.2.2.2.1, h.2.1.2.2.2.2.2.2.2.1, h.2.1.2.2.2.2.2.2.2.2.1, h.2.1.2.2.2.2.2.2.2.2.2.1, h.2.1.2.2.2.2.2.2.2.2.2.2.1, h.2.1.2.2.2.2.2.2.2.2.2.2.2.1, h.2.1.2.2.2.2.2.2.2.2.2.2.2.2.1, hx, h.2.1.2.2.2.2.2.2.2.2.2.2.2.2.2.2.1, h.2.1.2.2.2.2.2.2.2.2.2.2.2.2.2.2.2.1, h.2.1.2.2.2.2.2.2.2.2.2.2.2.2.2.2.2.2.1, h.2.1.2.2.2.2.2.2.2.2.2.2.2.2.2.2.2.2.2.1, h.2.1.2.2.2.2.2.2.2.2.2.2.2.2.2.2.2.2.2.2⟩, h.2.2⟩
theorem q_iY_F6 {x : Int32} (h : q_iY u t l K s) (hx : q_rgz 0 1 x) : q_iY u t l K (q_sI s 23 6 x) := ⟨q_iP_eq (s := s) rfl rfl rfl rfl rfl rfl rfl rfl rfl rfl rfl rfl rfl rfl h.1, ⟨h.2.1.1, h.2.1.2.1, h.2.1.2.2.1, h.2.1.2.2.2.1, h.2.1.2.2.2.2.1, h.2.1.2.2.2.2.2.1, h.2.1.2.2.2.2.2.2.1, h.2.1.2.2.2.2.2.2.2.1, h.2.1.2.2.2.2.2.2.2.2.1, h.2.1.2.2.2.2.2.2.2.2.2.1, h.2.1.2.2.2.2.2.2.2.2.2.2.1, h.2.1.2.2.2.2.2.2.2.2.2.2.2.1, h.2.1.2.2.2.2.2.2.2.2.2.2.2.2.1, h.2.1.2.2.2.2.2.2.2.2.2.2.2.2.2.1, hx, h.2.1.2.2.2.2.2.2.2.2.2.2.2.2.2.2.2.1, h.2.1.2.2.2.2.2.2.2.2.2.2.2.2.2.2.2.2.1, h.2.1.2.2.2.2.2.2.2.2.2.2.2.2.2.2.2.2.2.1, h.2.1.2.2.2.2.2.2.2.2.2.2.2.2.2.2.2.2.2.2⟩, h.2.2⟩
theorem q_iY_F7 {x : Int32} (h : q_iY u t l K s) (hx : q_rgz 0 1 x) : q_iY u t l K (q_sI s 23 7 x) := ⟨q_iP_eq (s := s) rfl rfl rfl rfl rfl rfl rfl rfl rfl rfl rfl rfl rfl rfl h.1, ⟨h.2.1.1, h.2.1.2.1, h.2.1.2.2.1, h.2.1.2.2.2.1, h.2.1.2.2.2.2.1, h.2.1.2.2.2.2.2.1, h.2.1.2.2.2.2.2.2.1, h.2.1.2.2.2.2.2.2.2.1, h.2.1.2.2.2.2.2.2.2.2.1, h.2.1.2.2.2.2.2.2.2.2.2.1, h.2.1.2.2.2.2.2.2.2.2.2.2.1, h.2.1.2.2.2.2.2.2.2.2.2.2.2.1, h.2.1.2.2.2.2.2.2.2.2.2.2.2.2.1, h.2.1.2.2.2.2.2.2.2.2.2.2.2.2.2.1, h.2.1.2.2.2.2.2.2.2.2.2.2.2.2.2.2.1, hx, h.2.1.2.2.2.2.2.2.2.2.2.2.2.2.2.2.2.2.1, h.2.1.2.2.2.2.2.2.2.2.2.2.2.2.2.2.2.2.2.1, h.2.1.2.2.2.2.2.2.2.2.2.2.2.2.2.2.2.2.2.2⟩, h.2.2⟩
theorem q_iY_I8 {x : Int32} (h : q_iY u t l K s) : q_iY u t l K (q_sI s 23 8 x) := ⟨q_iP_eq (s := s) rfl rfl rfl rfl rfl rfl rfl rfl rfl rfl rfl rfl rfl rfl h.1, ⟨h.2.1.1, h.2.1.2.1, h.2.1.2.2.1, h.2.1.2.2.2.1, h.2.1.2.2.2.2.1, h.2.1.2.2.2.2.2.1, h.2.1.2.2.2.2.2.2.1, h.2.1.2.2.2.2.2.2.2.1, h.2.1.2.2.2.2.2.2.2.2.1, h.2.1.2.2.2.2.2.2.2.2.2.1, h.2.1.2.2.2.2.2.2.2.2.2.2.1, h.2.1.2.2.2.2.2.2.2.2.2.2.2.1, h.2.1.2.2.2.2.2.2.2.2.2.2.2.2.1, h.2.1.2.2.2.2.2.2.2.2.2.2.2.2.2.1, h.2.1.2.2.2.2.2.2.2.2.2.2.2.2.2.2.1, h.2.1.2.2.2.2.2.2.2.2.2.2.2.2.2.2.2.1, h.2.1.2.2.2.2.2.2.2.2.2.2.2.2.2.2.2.2.1, h.2.1.2.2.2.2.2.2.2.2.2.2.2.2.2.2.2.2.2.1, h.2.1.2.2.2.2.2.2.2.2.2.2.2.2.2.2.2.2.2.2⟩, h.2.2⟩
theorem q_iY_I10 {x : Int32} (h : q_iY u t l K s) : q_iY u t l K (q_sI s 23 10 x) := ⟨q_iP_eq (s := s) rfl rfl rfl rfl rfl rfl rfl rfl rfl rfl rfl rfl rfl rfl h.1, ⟨h.2.1.1, h.2.1.2.1, h.2.1.2.2.1, h.2.1.2.2.2.1, h.2.1.2.2.2.2.1, h.2.1.2.2.2.2.2.1, h.2.1.2.2.2.2.2.2.1, h.2.1.2.2.2.2.2.2.2.1, h.2.1.2.2.2.2.2.2.2.2.1, h.2.1.2.2.2.2.2.2.2.2.2.1, h.2.1.2.2.2.2.2.2.2.2.2.2.1, h.2.1.2.2.2.2.2.2.2.2.2.2.2.1, h.2.1.2.2.2.2.2.2.2.2.2.2.2.2.1, h.2.1.2.2.2.2.2.2.2.2.2.2.2.2.2.1, h.2.1.2.2.2.2.2.2.2.2.2.2.2.2.2.2.1, h.2.1.2.2.2.2.2.2.2.2.2.2.2.2.2.2.2.1, h.2.1.2.2.2.2.2.2.2.2.2.2.2.2.2.2.2.2.1, h.2.1.2.2.2.2.2.2.2.2.2.2.2.2.2.2.2.2.2.1, h.2.1.2.2.2.2.2.2.2.2.2.2.2.2.2.2.2.2.2.2⟩, h.2.2⟩
theorem q_iY_I11 {x : Int32} (h : q_iY u t l K s) : q_iY u t l K (q_sI s 23 11 x) := ⟨q_iP_eq (s := s) rfl rfl rfl rfl rfl rfl rfl rfl rfl rfl rfl rfl rfl rfl h.1, ⟨h.2.1.1, h.2.1.2.1, h.2.1.2.2.1, h.2.1.2.2.2.1, h.2.1.2.2.2.2.1, h.2.1.2.2.2.2.2.1, h.2.1.2.2.2.2.2.2.1, h.2.1.2.2.2.2.2.2.2.1, h.2.1.2.2.2.2.2.2.2.2.1, h.2.1.2.2.2.2.2.2.2.2.2.1, h.2.1.2.2.2.2.2.2.2.2.2.2.1, h.2.1.2.2.2.2.2.2.2.2.2.2.2.1, h.2.1.2.2.2.2.2.2.2.2.2.2.2.2.1, h.2.1.2.2.2.2.2.2.2.2.2.2.2.2.2.1, h.2.1.2.2.2.2.2.2.2.2.2.2.2.2.2.2.1, h.2.1.2.2.2.2.2.2.2.2.2.2.2.2.2.2.2.1, h.2.1.2.2.2.2.2.2.2.2.2.2.2.2.2.2.2.2.1, h.2.1.2.2.2.2.2.2.2.2.2.2.2.2.2.2.2.2.2.1, h.2.1.2.2.2.2.2.2.2.2.2.2.2.2.2.2.2.2.2.2⟩, h.2.2⟩
theorem q_iY_A24 {f : Nat → Int32} (h : q_iY u t l K s) : q_iY u t l K (q_sA s 24 f) := ⟨q_iP_eq (s := s) rfl rfl rfl rfl rfl rfl rfl rfl rfl rfl rfl rfl rfl rfl h.1, ⟨h.2.1.1, h.2.1.2.1, h.2.1.2.2.1, h.2.1.2.2.2.1, h.2.1.2.2.2.2.1, h.2.1.2.2.2.2.2.1, h.2.1.2.2.2.2.2.2.1, h.2.1.2.2.2.2.2.2.2.1, h.2.1.2.2.2.2.2.2.2.2.1, h.2.1.2.2.2.2.2.2.2.2.2.1, h.2.1.2.2.2.2.2.2.2.2.2.2.1, h.2.1.2.2.2.2.2.2.2.2.2.2.2.1, h.2.1.2.2.2.2.2.2.2.2.2.2.2.2.1, h.2.1.2.2.2.2.2.2.2.2.2.2.2.2.2.1, h.2.1.2.2.2.2.2.2.2.2.2.2.2.2.2.2.1, h.2.1.2.2.2.2.2.2.2.2.2.2.2.2.2.2.2.1, h.2.1.2.2.2.2.2.2.2.2.2.2.2.2.2.2.2.2.1, h.2.1.2.2.2.2.2.2.2.2.2.2.2.2.2.2.2.2.2.1, h.2.1.2.2.2.2.2.2.2.2.2.2.2.2.2.2.2.2.2.2⟩, h.2.2⟩
theorem q_upr {f : Nat → Int32} {l v : Int} {n i k : Nat} {x : Int32} (h : ∀ k, k < n → q_rgz l v (f k)) (hx : q_rgz l v x) (hk : k < n) : q_rgz l v (upd f i x k) := by
  unfold upd
  split
  · exact hx
  · exact h k hk
theorem q_iY_A4 {k : Nat} (h : q_iY u t l K s) (hk : ¬ q_Dn k) : q_iY u t l K (q_sA s 4 (upd (s.1 4) k 0)) := ⟨q_iP_4 0 hk h.1, ⟨h.2.1.1, fun j hj => q_upr h.2.1.2.1 ⟨by decide, by decide⟩ hj, h.2.1.2.2.1, h.2.1.2.2.2.1, h.2.1.2.2.2.2.1, h.2.1.2.2.2.2.2.1, (by
    show q_rgz 0 15 (upd (s.1 4) k 0 0)
    unfold upd
    split
    · exact ⟨by decide, by decide⟩
    · exact q_ri40 h), (by
    show q_rgz 0 1 (upd (s.1 4) k 0 44)
    unfold upd
    split
    · exact ⟨by decide, by decide⟩
    · exact q_ri44 h), h.2.1.2.2.2.2.2.2.2.2.1, h.2.1.2.2.2.2.2.2.2.2.2.1, h.2.1.2.2.2.2.2.2.2.2.2.2.1, h.2.1.2.2.2.2.2.2.2.2.2.2.2.1, h.2.1.2.2.2.2.2.2.2.2.2.2.2.2.1, h.2.1.2.2.2.2.2.2.2.2.2.2.2.2.2.1, h.2.1.2.2.2.2.2.2.2.2.2.2.2.2.2.2.1, h.2.1.2.2.2.2.2.2.2.2.2.2.2.2.2.2.2.1, h.2.1.2.2.2.2.2.2.2.2.2.2.2.2.2.2.2.2.1, h.2.1.2.2.2.2.2.2.2.2.2.2.2.2.2.2.2.2.2.1, h.2.1.2.2.2.2.2.2.2.2.2.2.2.2.2.2.2.2.2.2⟩, h.2.2⟩
theorem q_iY_10 {x : Int32} (h : q_iY u t l K s) (hx : q_rgz 0 255 x) : q_iY u t l K (q_sA s 4 (upd (s.1 4) 10 x)) := ⟨q_iP_4 x q_D10 h.1, ⟨h.2.1.1, fun j hj => q_upr h.2.1.2.1 hx hj, h.2.1.2.2.1, h.2.1.2.2.2.1, h.2.1.2.2.2.2.1, h.2.1.2.2.2.2.2.1, h.2.1.2.2.2.2.2.2.1, h.2.1.2.2.2.2.2.2.2.1, h.2.1.2.2.2.2.2.2.2.2.1, h.2.1.2.2.2.2.2.2.2.2.2.1, h.2.1.2.2.2.2.2.2.2.2.2.2.1, h.2.1.2.2.2.2.2.2.2.2.2.2.2.1, h.2.1.2.2.2.2.2.2.2.2.2.2.2.2.1, h.2.1.2.2.2.2.2.2.2.2.2.2.2.2.2.1, h.2.1.2.2.2.2.2.2.2.2.2.2.2.2.2.2.1, h.2.1.2.2.2.2.2.2.2.2.2.2.2.2.2.2.2.1, h.2.1.2.2.2.2.2.2.2.2.2.2.2.2.2.2.2.2.1, h.2.1.2.2.2.2.2.2.2.2.2.2.2.2.2.2.2.2.2.1, h.2.1.2.2.2.2.2.2.2.2.2.2.2.2.2.2.2.2.2.2⟩, h.2.2⟩
theorem q_iY_7 {i : Nat} {x : Int32} (h : q_iY u t l K s) (hx : q_rgz 0 65535 x) : q_iY u t l K (q_sA s 7 (upd (s.1 7) i x)) := ⟨q_iP_eq (s := s) rfl rfl rfl rfl rfl rfl rfl rfl rfl rfl rfl rfl rfl rfl h.1, ⟨h.2.1.1, h.2.1.2.1, h.2.1.2.2.1, h.2.1.2.2.2.1, fun j hj => q_upr h.2.1.2.2.2.2.1 hx hj, h.2.1.2.2.2.2.2.1, h.2.1.2.2.2.2.2.2.1, h.2.1.2.2.2.2.2.2.2.1, h.2.1.2.2.2.2.2.2.2.2.1, h.2.1.2.2.2.2.2.2.2.2.2.1, h.2.1.2.2.2.2.2.2.2.2.2.2.1, h.2.1.2.2.2.2.2.2.2.2.2.2.2.1, h.2.1.2.2.2.2.2.2.2.2.2.2.2.2.1, h.2.1.2.2.2.2.2.2.2.2.2.2.2.2.2.1, h.2.1.2.2.2.2.2.2.2.2.2.2.2.2.2.2.1, h.2.1.2.2.2.2.2.2.2.2.2.2.2.2.2.2.2.1, h.2.1.2.2.2.2.2.2.2.2.2.2.2.2.2.2.2.2.1, h.2.1.2.2.2.2.2.2.2.2.2.2.2.2.2.2.2.2.2.1, h.2.1.2.2.2.2.2.2.2.2.2.2.2.2.2.2.2.2.2.2⟩, h.2.2⟩
theorem q_iY95 : ∀ (f : Nat) (s y : q_S) (v1 v2 : Int32), q_iY u t l K s → dz_N95_65_2 f s v1 v2 = some y → q_iY u t l K y := by
  intro f
  induction f with
  | zero => intro s y v1 v2 h e; cases e
  | succ f ih =>
    intro s y v1 v2 h e
    rw [dzs_N95_65_2] at e
    dsimp only at e
    cases c1 : decide (v2 < 2) with
    | false => rw [c1] at e; cases e; exact h
    | true =>
      rw [c1, cond_true] at e
      cases c2 : decide ((v1 >>> (v2 &&& 31)) &&& 1 = 1) with
      | false => rw [c2] at e; exact ih _ _ _ _ h e
      | true =>
        rw [c2, cond_true] at e
        cases c3 : q_in ((12 : Int32) + (2 * v2)) 48 with
        | false => rw [c3] at e; cases e
        | true =>
          rw [c3, cond_true] at e
          cases c4 : q_in (((12 : Int32) + (2 * v2)) + 1) 48 with
          | false => rw [c4] at e; cases e
          | true =>
            rw [c4, cond_true] at e
            cases c5 : q_in v2 2 with
            | false => rw [c5] at e; cases e
            | true =>
              rw [c5, cond_true] at e
              have L : ∀ {x : Int32}, q_in x 48 = true → x.toNatClampNeg < 48 := fun q => by
                unfold q_in at q
                rw [Bool.and_eq_true] at q
                exact of_decide_eq_true q.2
              have a1 := q_ri4 h (L c3)
              have a2 := q_ri4 h (L c4)
              generalize (s.1 4) ((12 : Int32) + (2 * v2)).toNatClampNeg = p at a1 e
              generalize (s.1 4) (((12 : Int32) + (2 * v2)) + 1).toNatClampNeg = q at a2 e
              obtain ⟨p0, p1⟩ := a1
              obtain ⟨q0, q1⟩ := a2
              have e1 : (256 * q).toInt = 256 * q.toInt := q_mulI (n := 256) rfl (by decide) (by decide) ⟨by omega, by omega⟩
              have e2 : (p + (256 * q)).toInt = p.toInt + (256 * q).toInt := q_addI ⟨by omega, by omega⟩ ⟨by omega, by omega⟩
              exact ih _ _ _ _ (q_iY_7 h ⟨by omega, by omega⟩) e
theorem q_mkB : ∀ n, n < 48 → ¬ (q_o1.getD n 0) < 0 ∧ (q_o1.getD n 0).toInt ≤ 255 := by decide
theorem q_RI_eq (h3 : t9.1 3 = s.1 3) (h4 : t9.1 4 = s.1 4) (h5 : t9.1 5 = s.1 5) (h6 : t9.1 6 = s.1 6) (h7 : t9.1 7 = s.1 7) (h12 : t9.1 12 = s.1 12) (hf : t9.2.1 23 = s.2.1 23) (h10 : t9.2.1 10 2 = s.2.1 10 2) (h8 : t9.2.1 8 4 = s.2.1 8 4) (l9 : t9.2.2 1 8 = s.2.2 1 8) (h : q_RI s) : q_RI t9 := by
  unfold q_RI at *
  rw [h3, h4, h5, h6, h7, h12, hf, h10, h8, l9]
  exact h
theorem q_RI128 (r : q_S) (a v : Int32) (h : q_RI r) : q_RI (cond (q_evb r) (dz_N128_77 r a v) (dz_N128_82 r a v)) := by
  cases q_evb r with
  | true =>
    rw [cond_true]
    unfold dz_N128_77
    cases decide (r.2.1 13 2 < 0) with
    | true => exact h
    | false =>
      cases decide (r.2.1 13 2 < 3072) with
      | true => exact q_RI_eq (s := r) rfl rfl rfl rfl rfl rfl rfl rfl rfl rfl h
      | false => exact h
  | false =>
    rw [cond_false]
    unfold dz_N128_82
    cases decide (r.2.1 18 2 < 0) with
    | true => exact h
    | false =>
      cases decide (r.2.1 18 2 < 3072) with
      | true => exact q_RI_eq (s := r) rfl rfl rfl rfl rfl rfl rfl rfl rfl rfl h
      | false => exact h
theorem q_RI3 {i : Nat} {x : Int32} (h : q_RI s) (hx : q_rgz 0 255 x) : q_RI (q_sA s 3 (upd (s.1 3) i x)) := ⟨fun j hj => q_upr h.1 hx hj, h.2.1, h.2.2.1, h.2.2.2.1, h.2.2.2.2.1, h.2.2.2.2.2.1, h.2.2.2.2.2.2.1, h.2.2.2.2.2.2.2.1, h.2.2.2.2.2.2.2.2.1, h.2.2.2.2.2.2.2.2.2.1, h.2.2.2.2.2.2.2.2.2.2.1, h.2.2.2.2.2.2.2.2.2.2.2.1, h.2.2.2.2.2.2.2.2.2.2.2.2.1, h.2.2.2.2.2.2.2.2.2.2.2.2.2.1, h.2.2.2.2.2.2.2.2.2.2.2.2.2.2.1, h.2.2.2.2.2.2.2.2.2.2.2.2.2.2.2.1, h.2.2.2.2.2.2.2.2.2.2.2.2.2.2.2.2.1, h.2.2.2.2.2.2.2.2.2.2.2.2.2.2.2.2.2.1, h.2.2.2.2.2.2.2.2.2.2.2.2.2.2.2.2.2.2⟩
theorem q_RI4 {i : Nat} {v : Int32} (h : q_RI s) (hi : i < 48) : q_RI (q_sA s 4 (upd (s.1 4) i (v &&& q_o1.getD i 0))) := by
  obtain ⟨m1, m2⟩ := q_mkB i hi
  have rx : q_rgz 0 255 (v &&& q_o1.getD i 0) := by
    have q := q_rg_and v (q_o1.getD i 0) m1 rfl
    exact ⟨q.1, Int.le_trans q.2 m2⟩
  refine ⟨h.1, fun j hj => q_upr h.2.1 rx hj, h.2.2.1, h.2.2.2.1, h.2.2.2.2.1, h.2.2.2.2.2.1, ?_, ?_, h.2.2.2.2.2.2.2.2.1, h.2.2.2.2.2.2.2.2.2.1, h.2.2.2.2.2.2.2.2.2.2.1, h.2.2.2.2.2.2.2.2.2.2.2.1, h.2.2.2.2.2.2.2.2.2.2.2.2.1, h.2.2.2.2.2.2.2.2.2.2.2.2.2.1, h.2.2.2.2.2.2.2.2.2.2.2.2.2.2.1, h.2.2.2.2.2.2.2.2.2.2.2.2.2.2.2.1, h.2.2.2.2.2.2.2.2.2.2.2.2.2.2.2.2.1, h.2.2.2.2.2.2.2.2.2.2.2.2.2.2.2.2.2.1, h.2.2.2.2.2.2.2.2.2.2.2.2.2.2.2.2.2.2⟩
  · show q_rgz 0 15 (upd (s.1 4) i (v &&& q_o1.getD i 0) 0)
    unfold upd
    split
    · rename_i q
      rw [← q]
      exact q_rg_and v 15 (by decide) rfl
    · exact h.2.2.2.2.2.2.1
  · show q_rgz 0 1 (upd (s.1 4) i (v &&& q_o1.getD i 0) 44)
    unfold upd
    split
    · rename_i q
      rw [← q]
      exact q_rg_and v 1 (by decide) rfl
    · exact h.2.2.2.2.2.2.2.1
theorem q_RI112 {a v : Int32} (ha : q_rgz 0 4095 a) (h : q_RI s) : q_RI (dz_N112_66 s a v) := by
  have b : q_rgz 0 255 (v &&& 255) := q_rg_and v 255 (by decide) rfl
  have z0 : (0 : Int32).toInt = 0 := rfl
  have z48 : (48 : Int32).toInt = 48 := rfl
  obtain ⟨a0, a1⟩ := ha
  have es : (a - 3840).toInt = a.toInt - 3840 := q_subI ⟨by omega, by omega⟩ ⟨by decide, by decide⟩
  unfold dz_N112_66
  cases c1 : decide (a - 3840 < 0) with
  | true => exact q_RI3 h b
  | false =>
    have g1 := q_ltF c1
    rw [cond_false]
    cases c2 : decide (a - 3840 < 48) with
    | false => exact q_RI3 h b
    | true =>
      have g2 := q_ltT c2
      rw [cond_true]
      cases decide ((fun j => q_o1.getD j 0) ((a - 3840).toNatClampNeg) = 0) with
      | true => exact h
      | false => exact q_RI4 h (by show (a - 3840).toInt.toNat < 48; omega)
theorem q_k977 (r : q_S) (a v : Int32) : (dz_N128_77 r a v).2.2 1 8 = r.2.2 1 8 ∧ (dz_N128_77 r a v).2.1 23 9 = r.2.1 23 9 := by
  unfold dz_N128_77
  cases decide (r.2.1 13 2 < 0) with
  | true => exact ⟨rfl, rfl⟩
  | false =>
    cases decide (r.2.1 13 2 < 3072) with
    | true => exact ⟨rfl, rfl⟩
    | false => exact ⟨rfl, rfl⟩
theorem q_k982 (r : q_S) (a v : Int32) : (dz_N128_82 r a v).2.2 1 8 = r.2.2 1 8 ∧ (dz_N128_82 r a v).2.1 23 9 = r.2.1 23 9 := by
  unfold dz_N128_82
  cases decide (r.2.1 18 2 < 0) with
  | true => exact ⟨rfl, rfl⟩
  | false =>
    cases decide (r.2.1 18 2 < 3072) with
    | true => exact ⟨rfl, rfl⟩
    | false => exact ⟨rfl, rfl⟩
theorem q_k128 (s : q_S) (a v : Int32) (h : s.2.2 1 8 = t ∧ s.2.1 23 9 = l) : (cond (q_evb (dz_N112_66 s a v)) (dz_N128_77 (dz_N112_66 s a v) a v) (dz_N128_82 (dz_N112_66 s a v) a v)).2.2 1 8 = t ∧ (cond (q_evb (dz_N112_66 s a v)) (dz_N128_77 (dz_N112_66 s a v) a v) (dz_N128_82 (dz_N112_66 s a v) a v)).2.1 23 9 = l := by
  have k := (q_112k s a v).1
  have e1 : (dz_N112_66 s a v).2.2 1 8 = t := by rw [k]; exact h.1
  have e2 : (dz_N112_66 s a v).2.1 23 9 = l := by rw [k]; exact h.2
  generalize dz_N112_66 s a v = r at e1 e2 ⊢
  cases q_evb r with
  | true => exact ⟨(q_k977 r a v).1.trans e1, (q_k977 r a v).2.trans e2⟩
  | false => exact ⟨(q_k982 r a v).1.trans e1, (q_k982 r a v).2.trans e2⟩
theorem q_94c {a v : Int32} (ha : q_rgz 0 4095 a) (hv : q_rgz 0 255 v) (h : q_iY u t l K s) : ∃ y, (q_let (dz_N112_66 s a v) fun r5 => cond (decide (lg_cmp (((r5.2.2 1 8) / 960) - ((r5.2.2 1 8) / 960) / 2 * 2) 0 = 0)) (q_let (dz_N128_77 r5 a v) fun r6 => some r6) (q_let (dz_N128_82 r5 a v) fun r7 => some r7)) = some y ∧ q_iY u t l (K + 1) y := by
  refine ⟨cond (q_evb (dz_N112_66 s a v)) (dz_N128_77 (dz_N112_66 s a v) a v) (dz_N128_82 (dz_N112_66 s a v) a v), ?_, q_iP_put ha hv ⟨by decide, by decide⟩ h.1, q_RI128 _ _ _ (q_RI112 ha h.2.1), q_k128 s a v h.2.2⟩
  unfold q_let
  dsimp only
  show cond (q_evb (dz_N112_66 s a v)) _ _ = _
  cases q_evb (dz_N112_66 s a v) <;> rfl
end
theorem dzp_N94_65 {u K : Int} {t : Int64} {l : Int32} (s : q_S) (hI : q_iY u t l K s) (a1 : Int32) (a2 : Int32) (ra1 : q_rgz 0 4095 a1) (ra2 : q_rgz 0 255 a2) : q_Ex (dz_N94_65 s a1 a2) (q_iY u t l (K + 1)) := by
  unfold dz_N94_65
  cases c1 : decide (a1 = 3850) with
  | true =>
    rw [cond_true]
    obtain ⟨y, e, h⟩ := q_94c ra1 ra2 (q_iY_10 (x := ((s.1 4) 10) &&& (a2 ^^^ (-1))) hI (q_rg_and1 (q_ri4 hI (k := 10) (by decide)) (by decide)))
    exact ⟨y, e, h⟩
  | false =>
    rw [cond_false]
    cases c2 : decide (a1 = 3856) with
    | false =>
      rw [cond_false]
      obtain ⟨y, e, h⟩ := q_94c ra1 ra2 hI
      exact ⟨y, e, h⟩
    | true =>
      rw [cond_true]
      obtain ⟨r, er, -⟩ := dzj_N95_65 s ⟨q_rf23_6 hI, q_rf23_7 hI⟩ (a2 &&& (((s.1 4) 16) ^^^ (-1)))
      have hr : q_iY u t l K r := q_iY95 5000 _ _ _ _ hI er
      obtain ⟨y, e, h⟩ := q_94c ra1 ra2 hr
      exact ⟨y, by rw [er]; exact e, h⟩
set_option maxHeartbeats 4000000 in
theorem dzp_N90_65_73  {u K : Int} {t : Int64} {l : Int32} (s : q_S) (hI : q_iY u t l K s) (v1 : Int32) (v3 : Int32) (rv1 : q_rgz 0 4095 v1) (rv3 : q_rgz 0 15 v3) : q_Ex (dz_N90_65_73 s v1 v3) (fun x => q_rgz 0 255 x) := by
  unfold dz_N90_65_73
  cases h49 : decide (v3 &&& 2 = 2) with
  | true =>
    have g50 := q_rg_eqT h49 (q_rg_lit (n := 2) (x := 2) rfl)
    refine q_E_T ?_
    cases h51 : decide (v1 < 2048) with
    | true =>
      have g52 := (q_rg_ltT1 (l := 0) (U := 2047) h51 rv1 (q_rg_lit (n := 2048) (x := 2048) rfl) (by decide))
      refine q_E_T ?_
      exact q_E_x (q_rg_le (q_ri3 hI (q_ixlt (q_rg_and v1 4095 (U := 4095) (by decide) rfl) (by decide) (by decide))) (by decide) (by decide))
    | false =>
      have g53 := (q_rg_ltF1 (l2 := 2048) (u := 4095) h51 rv1 (q_rg_lit (n := 2048) (x := 2048) rfl))
      refine q_E_F ?_
      cases h54 : decide (v1 < 2560) with
      | true =>
        have g55 := (q_rg_ltT1 (l := 2048) (U := 2559) h54 g53 (q_rg_lit (n := 2560) (x := 2560) rfl) (by decide))
        refine q_E_T ?_
        refine q_E_A (q_in_rg (q_rg_sub (L := 0) (U := 2047) (q_rg_add (L := 2048) (U := 4095) (q_rg_mul (L := 0) (U := 1536) (q_rg_lit (n := 512) (x := 512) rfl) (q_rg_and (v3 >>> ((2 &&& 31) : Int32)) 3 (U := 3) (by decide) rfl) (by decide) (by decide) (by decide) (by decide) (by decide) (by decide)) g55 (by decide) (by decide) (by decide) (by decide)) (q_rg_lit (n := 2048) (x := 2048) rfl) (by decide) (by decide) (by decide) (by decide)) (by decide) (by decide)) ?_
        exact q_E_x (q_rg_le (q_ri6 hI (q_ixlt (q_rg_sub (L := 0) (U := 2047) (q_rg_add (L := 2048) (U := 4095) (q_rg_mul (L := 0) (U := 1536) (q_rg_lit (n := 512) (x := 512) rfl) (q_rg_and (v3 >>> ((2 &&& 31) : Int32)) 3 (U := 3) (by decide) rfl) (by decide) (by decide) (by decide) (by decide) (by decide) (by decide)) g55 (by decide) (by decide) (by decide) (by decide)) (q_rg_lit (n := 2048) (x := 2048) rfl) (by decide) (by decide) (by decide) (by decide)) (by decide) (by decide))) (by decide) (by decide))
      | false =>
        have g56 := (q_rg_ltF1 (l2 := 2560) (u := 4095) h54 g53 (q_rg_lit (n := 2560) (x := 2560) rfl))
        refine q_E_F ?_
        exact q_E_x (q_rg_le (q_ri3 hI (q_ixlt (q_rg_and v1 4095 (U := 4095) (by decide) rfl) (by decide) (by decide))) (by decide) (by decide))
  | false =>
    have g57 := (q_rg_neU (l := 0) (u := 2) (n := 2) (U := 1) h49 (q_rg_and v3 2 (U := 2) (by decide) rfl) rfl (by decide) (by decide))
    refine q_E_F ?_
    exact q_E_x (q_rg_le (q_ri3 hI (q_ixlt (q_rg_and v1 4095 (U := 4095) (by decide) rfl) (by decide) (by decide))) (by decide) (by decide))
set_option maxHeartbeats 4000000 in
theorem dzp_N90_65_31  {u K : Int} {t : Int64} {l : Int32} (s : q_S) (hI : q_iY u t l K s) (v1 : Int32) (rv1 : q_rgz 0 4095 v1) : q_Ex (dz_N90_65_31 s v1) (fun x => q_rgz 0 255 x) := by
  unfold dz_N90_65_31
  cases h58 : decide (((s.1 4) 0) &&& 1 = 1) with
  | true =>
    have g59 := q_rg_eqT h58 (q_rg_lit (n := 1) (x := 1) rfl)
    refine q_E_T ?_
    cases h60 : decide (v1 < 3072) with
    | true =>
      have g61 := (q_rg_ltT1 (l := 0) (U := 3071) h60 rv1 (q_rg_lit (n := 3072) (x := 3072) rfl) (by decide))
      refine q_E_T ?_
      exact dzp_N90_65_73 (s) hI (v1) ((s.1 4) 0) (q_rg_le (L := 0) (U := 4095) g61 (by decide) (by decide)) (q_rg_le (L := 0) (U := 15) (q_ri40 hI) (by decide) (by decide))
    | false =>
      have g62 := (q_rg_ltF1 (l2 := 3072) (u := 4095) h60 rv1 (q_rg_lit (n := 3072) (x := 3072) rfl))
      refine q_E_F ?_
      cases h63 : decide (v1 < 3584) with
      | true =>
        have g64 := (q_rg_ltT1 (l := 3072) (U := 3583) h63 g62 (q_rg_lit (n := 3584) (x := 3584) rfl) (by decide))
        refine q_E_T ?_
        exact q_E_x (q_rg_le (q_ri5 hI (q_ixlt (q_rg_sub (L := 0) (U := 511) g64 (q_rg_lit (n := 3072) (x := 3072) rfl) (by decide) (by decide) (by decide) (by decide)) (by decide) (by decide))) (by decide) (by decide))
      | false =>
        have g65 := (q_rg_ltF1 (l2 := 3584) (u := 4095) h63 g62 (q_rg_lit (n := 3584) (x := 3584) rfl))
        refine q_E_F ?_
        exact dzp_N90_65_73 (s) hI (v1) ((s.1 4) 0) (q_rg_le (L := 0) (U := 4095) g65 (by decide) (by decide)) (q_rg_le (L := 0) (U := 15) (q_ri40 hI) (by decide) (by decide))
  | false =>
    have g66 := (q_rg_neU (l := 0) (u := 1) (n := 1) (U := 0) h58 (q_rg_and ((s.1 4) 0) 1 (U := 1) (by decide) rfl) rfl (by decide) (by decide))
    refine q_E_F ?_
    exact dzp_N90_65_73 (s) hI (v1) ((s.1 4) 0) (q_rg_le (L := 0) (U := 4095) rv1 (by decide) (by decide)) (q_rg_le (L := 0) (U := 15) (q_ri40 hI) (by decide) (by decide))
theorem q_91R {u K : Int} {t : Int64} {l : Int32} {s : q_S} (hI : q_iY u t l K s) (n : Int32) (hn : q_rgz 0 47 n) : q_rgz 0 255 (dz_N91_65 s n ((s.1 4) n.toNatClampNeg)) := by
  have hb := q_ri4 hI (k := n.toNatClampNeg) (q_ixlt hn (by decide) (by decide))
  have c0 : q_rgz 0 65535 (s.1 7 0) := q_ri7 hI (by decide)
  have c1 : q_rgz 0 65535 (s.1 7 1) := q_ri7 hI (by decide)
  unfold dz_N91_65
  cases d9 : decide (n = 9) with
  | true =>
    have h0 : 0 ≤ (s.2.2 1 8).toInt := hI.2.1.2.2.2.2.2.2.2.2.2.2.2.2.2.2.2.2.2.2
    have e : ((s.2.2 1 8) - (s.2.2 1 8) / 960 * 960).toInt = (s.2.2 1 8).toInt % 960 := q64_rem h0 (by decide)
    have e2 : (((s.2.2 1 8) - (s.2.2 1 8) / 960 * 960).toInt32).toInt = (s.2.2 1 8).toInt % 960 := by rw [q64_32 (by omega) (by omega), e]
    have e3 : ((((s.2.2 1 8) - (s.2.2 1 8) / 960 * 960).toInt32) / 24).toInt = (((s.2.2 1 8) - (s.2.2 1 8) / 960 * 960).toInt32).toInt / 24 := q_toInt_div (by omega) (by decide)
    rw [cond_true]
    exact ⟨by rw [e3, e2]; omega, by rw [e3, e2]; omega⟩
  | false =>
    rw [cond_false]
    cases decide (n = 12) with
    | true => exact q_rg_and _ 255 (by decide) rfl
    | false =>
      rw [cond_false]
      cases decide (n = 13) with
      | true => exact q_rg_sh8 (U := 255) c0 (by decide) (by decide)
      | false =>
        rw [cond_false]
        cases decide (n = 14) with
        | true => exact q_rg_and _ 255 (by decide) rfl
        | false =>
          rw [cond_false]
          cases decide (n = 15) with
          | true => exact q_rg_sh8 (U := 255) c1 (by decide) (by decide)
          | false =>
            rw [cond_false]
            cases d31 : decide (n = 31) with
            | true =>
              rw [cond_true]
              obtain ⟨a0, a1⟩ := q_ri12 hI (k := (((s.1 4) n.toNatClampNeg) &&& 15).toNatClampNeg) (q_ixlt (q_rg_and _ 15 (U := 15) (by decide) rfl) (by decide) (by decide))
              obtain ⟨b0, b1⟩ := q_rf10_2 hI
              have m : (16 * (s.2.1 10 2)).toInt = 16 * (s.2.1 10 2).toInt := q_mulI (n := 16) rfl (by decide) (by decide) ⟨by omega, by omega⟩
              generalize (s.1 12) (((s.1 4) n.toNatClampNeg) &&& 15).toNatClampNeg = p at a0 a1 ⊢
              have e : (p + (16 * (s.2.1 10 2))).toInt = p.toInt + (16 * (s.2.1 10 2)).toInt := q_addI ⟨by omega, by omega⟩ ⟨by omega, by omega⟩
              exact ⟨by rw [e]; omega, by rw [e]; omega⟩
            | false =>
              rw [cond_false]
              cases d44 : decide (n = 44) with
              | true =>
                rw [cond_true, q_eqT d44]
                obtain ⟨a0, a1⟩ := q_ri44 hI
                obtain ⟨b0, b1⟩ := q_rf8_4 hI
                have m : (2 * (s.2.1 8 4)).toInt = 2 * (s.2.1 8 4).toInt := q_mulI (n := 2) rfl (by decide) (by decide) ⟨by omega, by omega⟩
                have e : ((s.1 4 44) + (2 * (s.2.1 8 4))).toInt = (s.1 4 44).toInt + (2 * (s.2.1 8 4)).toInt := q_addI ⟨by omega, by omega⟩ ⟨by omega, by omega⟩
                have e4 : (((s.1 4 44) + (2 * (s.2.1 8 4))) + 4).toInt = ((s.1 4 44) + (2 * (s.2.1 8 4))).toInt + 4 := q_addI ⟨by omega, by omega⟩ ⟨by decide, by decide⟩
                have e0 : (((s.1 4 44) + (2 * (s.2.1 8 4))) + 0).toInt = ((s.1 4 44) + (2 * (s.2.1 8 4))).toInt + 0 := q_addI ⟨by omega, by omega⟩ ⟨by decide, by decide⟩
                show q_rgz 0 255 (cond (decide (s.2.1 8 2 < s.2.1 8 1)) (((s.1 4 44) + (2 * (s.2.1 8 4))) + 4) (((s.1 4 44) + (2 * (s.2.1 8 4))) + 0))
                cases decide (s.2.1 8 2 < s.2.1 8 1) with
                | true => exact ⟨by rw [cond_true, e4]; omega, by rw [cond_true, e4]; omega⟩
                | false => exact ⟨by rw [cond_false, e0]; omega, by rw [cond_false, e0]; omega⟩
              | false => exact hb
theorem dzp_N90_65 {u K : Int} {t : Int64} {l : Int32} (s : q_S) (hI : q_iY u t l K s) (a1 : Int32) (ra1 : q_rgz 0 4095 a1) : q_Ex (dz_N90_65 s a1) (fun x => q_rgz 0 255 x) := by
  have z0 : (0 : Int32).toInt = 0 := rfl
  have z48 : (48 : Int32).toInt = 48 := rfl
  have es : (a1 - 3840).toInt = a1.toInt - 3840 := by
    obtain ⟨a0, a9⟩ := ra1
    exact q_subI ⟨by omega, by omega⟩ ⟨by decide, by decide⟩
  unfold dz_N90_65
  cases c1 : decide (a1 - 3840 < 0) with
  | true => exact dzp_N90_65_31 s hI a1 ra1
  | false =>
    have g1 := q_ltF c1
    rw [cond_false]
    cases c2 : decide (a1 - 3840 < 48) with
    | false => exact dzp_N90_65_31 s hI a1 ra1
    | true =>
      have g2 := q_ltT c2
      exact ⟨_, rfl, q_91R hI (a1 - 3840) ⟨by omega, by omega⟩⟩
theorem dzp_N186  {u K : Int} {t : Int64} {l : Int32} (s : q_S) (hI : q_iY u t l K s) (a0 : Int32) : (fun _ => True) (dz_N186 s a0) := trivial
theorem dzp_N190  {u K : Int} {t : Int64} {l : Int32} (s : q_S) (hI : q_iY u t l K s) (a0 : Int32) : (fun _ => True) (dz_N190 s a0) := trivial
set_option maxHeartbeats 4000000 in
theorem dzp_N92_65  {u K : Int} {t : Int64} {l : Int32} (s : q_S) (hI : q_iY u t l K s) (a1 : Int32) : q_Ex (dz_N92_65 s a1) (fun x => q_rgz 0 4095 x) := by
  unfold dz_N92_65
  obtain ⟨r2, e128, j127⟩ := dzp_N90_65 (s) hI (a1 &&& 4095) (q_rg_le (L := 0) (U := 4095) (q_rg_and a1 4095 (U := 4095) (by decide) rfl) (by decide) (by decide))
  rw [e128]
  refine q_E_B ?_
  obtain ⟨r3, e130, j129⟩ := dzp_N90_65 (s) hI ((a1 + 1) &&& 4095) (q_rg_le (L := 0) (U := 4095) (q_rg_and (a1 + 1) 4095 (U := 4095) (by decide) rfl) (by decide) (by decide))
  rw [e130]
  refine q_E_B ?_
  exact q_E_x (q_rg_le (q_rg_and (r2 + (256 * r3)) 4095 (U := 4095) (by decide) rfl) (by decide) (by decide))
set_option maxHeartbeats 4000000 in
theorem dzp_N120_66  {u K : Int} {t : Int64} {l : Int32} (s : q_S) (hI : q_iY u t l K s) (a1 : Int32) : (fun x => q_rgz 0 255 x) (dz_N120_66 s a1) := by
  refine q_S_of (P := (fun x => q_rgz 0 255 x)) ?_
  unfold dz_N120_66
  exact q_E_x (q_rg_le (q_ri3 hI (q_ixlt (q_rg_and a1 4095 (U := 4095) (by decide) rfl) (by decide) (by decide))) (by decide) (by decide))
theorem dzp_N187  {u K : Int} {t : Int64} {l : Int32} (s : q_S) (hI : q_iY u t l K s) (a0 : Int32) : (fun _ => True) (dz_N187 s a0) := trivial
set_option maxHeartbeats 4000000 in
theorem dzp_N140_87  {u K : Int} {t : Int64} {l : Int32} (s : q_S) (hI : q_iY u t l K s) (a1 : Int32) : (fun x => q_rgz 0 4095 x) (dz_N140_87 s a1) := by
  refine q_S_of (P := (fun x => q_rgz 0 4095 x)) ?_
  unfold dz_N140_87
  exact q_E_x (q_rg_le (q_rg_and ((s.2.1 23 4) + a1) 4095 (U := 4095) (by decide) rfl) (by decide) (by decide))
theorem dzp_N161_87  {u K : Int} {t : Int64} {l : Int32} (s : q_S) (hI : q_iY u t l K s) (a1 : Int32) : (fun _ => True) (dz_N161_87 s a1) := trivial
set_option maxHeartbeats 4000000 in
theorem dzp_N193  {u K : Int} {t : Int64} {l : Int32} (s : q_S) (hI : q_iY u t l K s) (a0 : Int32) (a1 : Int32) : (fun x => q_rgz 0 4095 x) (dz_N193 s a0 a1) := by
  refine q_S_of (P := (fun x => q_rgz 0 4095 x)) ?_
  unfold dz_N193
  cases h248 : decide (127 < a1) with
  | true =>
    have g249 := (q_rg_ltT2 (L := 128) (u2 := 2147483647) h248 (q_rg_lit (n := 127) (x := 127) rfl) (q_rg_full _) (by decide))
    refine q_S_T ?_
    exact q_E_x (q_rg_le (q_rg_and ((a0 + 2) + (a1 - 256)) 4095 (U := 4095) (by decide) rfl) (by decide) (by decide))
  | false =>
    have g250 := (q_rg_ltF2 (l2 := -2147483648) (u := 127) h248 (q_rg_lit (n := 127) (x := 127) rfl) (q_rg_full _))
    refine q_S_F ?_
    exact q_E_x (q_rg_le (q_rg_and ((a0 + 2) + a1) 4095 (U := 4095) (by decide) rfl) (by decide) (by decide))
set_option maxHeartbeats 4000000 in
theorem dzp_N139_87  {u K : Int} {t : Int64} {l : Int32} (s : q_S) (hI : q_iY u t l K s) (a1 : Int32) : (fun x => q_rgz 0 4095 x) (dz_N139_87 s a1) := by
  refine q_S_of (P := (fun x => q_rgz 0 4095 x)) ?_
  unfold dz_N139_87
  have j252 := dzp_N193 (s) hI (s.2.1 23 4) (a1)
  refine q_S_L ?_
  generalize dz_N193 s (s.2.1 23 4) a1 = r1 at j252 ⊢
  exact q_E_x (q_rg_le j252 (by decide) (by decide))
theorem dzp_N192  {u K : Int} {t : Int64} {l : Int32} (s : q_S) (hI : q_iY u t l K s) (a0 : Int32) : (fun _ => True) (dz_N192 s a0) := trivial
theorem dzp_N189  {u K : Int} {t : Int64} {l : Int32} (s : q_S) (hI : q_iY u t l K s) (a0 : Int32) : (fun _ => True) (dz_N189 s a0) := trivial
set_option maxHeartbeats 4000000 in
theorem dzp_N145_87_65  {u K : Int} {t : Int64} {l : Int32} (s : q_S) (hI : q_iY u t l K s) (a2 : Int32) : q_Ex (dz_N145_87_65 s a2) (fun x => q_rgz 0 4095 x) := by
  unfold dz_N145_87_65
  have j304 := dzp_N140_87 (s) hI (1)
  refine q_E_L ?_
  generalize dz_N140_87 s 1 = r3 at j304 ⊢
  obtain ⟨r4, e306, j305⟩ := dzp_N90_65 (s) hI (r3) (q_rg_le (L := 0) (U := 4095) j304 (by decide) (by decide))
  rw [e306]
  refine q_E_B ?_
  cases h307 : decide (a2 = 1) with
  | true =>
    have g308 := q_rg_eqT h307 (q_rg_lit (n := 1) (x := 1) rfl)
    refine q_E_T ?_
    exact q_E_x (q_rg_le j305 (by decide) (by decide))
  | false =>
    refine q_E_F ?_
    cases h309 : decide (a2 = 2) with
    | true =>
      have g310 := q_rg_eqT h309 (q_rg_lit (n := 2) (x := 2) rfl)
      refine q_E_T ?_
      exact q_E_x (q_rg_le (q_rg_and (r4 + (s.2.1 23 1)) 255 (U := 255) (by decide) rfl) (by decide) (by decide))
    | false =>
      refine q_E_F ?_
      cases h311 : decide (a2 < 6) with
      | true =>
        have g312 := (q_rg_ltT1 (l := -2147483648) (U := 5) h311 (q_rg_full _) (q_rg_lit (n := 6) (x := 6) rfl) (by decide))
        refine q_E_T ?_
        have j313 := dzp_N140_87 (s) hI (2)
        refine q_E_L ?_
        generalize dz_N140_87 s 2 = r5 at j313 ⊢
        obtain ⟨r6, e315, j314⟩ := dzp_N90_65 (s) hI (r5) (q_rg_le (L := 0) (U := 4095) j313 (by decide) (by decide))
        rw [e315]
        refine q_E_B ?_
        exact q_E_x (q_rg_le (q_rg_and (r4 + (256 * r6)) 4095 (U := 4095) (by decide) rfl) (by decide) (by decide))
      | false =>
        have g316 := (q_rg_ltF1 (l2 := 6) (u := 2147483647) h311 (q_rg_full _) (q_rg_lit (n := 6) (x := 6) rfl))
        refine q_E_F ?_
        cases h317 : decide (a2 = 7) with
        | true =>
          have g318 := q_rg_eqT h317 (q_rg_lit (n := 7) (x := 7) rfl)
          refine q_E_T ?_
          obtain ⟨r7, e320, j319⟩ := dzp_N90_65 (s) hI ((r4 + (s.2.1 23 1)) &&& 255) (q_rg_le (L := 0) (U := 4095) (q_rg_and (r4 + (s.2.1 23 1)) 255 (U := 255) (by decide) rfl) (by decide) (by decide))
          rw [e320]
          refine q_E_B ?_
          obtain ⟨r8, e322, j321⟩ := dzp_N90_65 (s) hI ((((r4 + (s.2.1 23 1)) &&& 255) + 1) &&& 255) (q_rg_le (L := 0) (U := 4095) (q_rg_and (((r4 + (s.2.1 23 1)) &&& 255) + 1) 255 (U := 255) (by decide) rfl) (by decide) (by decide))
          rw [e322]
          refine q_E_B ?_
          exact q_E_x (q_rg_le (q_rg_and (r7 + (256 * r8)) 4095 (U := 4095) (by decide) rfl) (by decide) (by decide))
        | false =>
          refine q_E_F ?_
          obtain ⟨r9, e324, j323⟩ := dzp_N90_65 (s) hI (r4) (q_rg_le (L := 0) (U := 4095) j305 (by decide) (by decide))
          rw [e324]
          refine q_E_B ?_
          obtain ⟨r10, e326, j325⟩ := dzp_N90_65 (s) hI ((r4 + 1) &&& 255) (q_rg_le (L := 0) (U := 4095) (q_rg_and (r4 + 1) 255 (U := 255) (by decide) rfl) (by decide) (by decide))
          rw [e326]
          refine q_E_B ?_
          exact q_E_x (q_rg_le (q_rg_and (r9 + (256 * r10)) 4095 (U := 4095) (by decide) rfl) (by decide) (by decide))
set_option maxHeartbeats 4000000 in
theorem dzp_N143_87  {u K : Int} {t : Int64} {l : Int32} (s : q_S) (hI : q_iY u t l K s) (a1 : Int32) : (fun x => q_rgz 0 255 x) (dz_N143_87 s a1) := by
  refine q_S_of (P := (fun x => q_rgz 0 255 x)) ?_
  unfold dz_N143_87
  cases h333 : decide (a1 = 4) with
  | true =>
    have g334 := q_rg_eqT h333 (q_rg_lit (n := 4) (x := 4) rfl)
    refine q_S_T ?_
    exact q_E_x (q_rg_le (q_rf23_1 hI) (by decide) (by decide))
  | false =>
    refine q_S_F ?_
    cases h335 : decide (a1 = 5) with
    | true =>
      have g336 := q_rg_eqT h335 (q_rg_lit (n := 5) (x := 5) rfl)
      refine q_S_T ?_
      exact q_E_x (q_rg_le (q_rf23_2 hI) (by decide) (by decide))
    | false =>
      refine q_S_F ?_
      cases h337 : decide (a1 = 6) with
      | true =>
        have g338 := q_rg_eqT h337 (q_rg_lit (n := 6) (x := 6) rfl)
        refine q_S_T ?_
        exact q_E_x (q_rg_le (q_rf23_2 hI) (by decide) (by decide))
      | false =>
        refine q_S_F ?_
        exact q_E_x (q_rg_le (q_rg_lit (n := 0) (x := 0) rfl) (by decide) (by decide))
theorem dzp_N188  {u K : Int} {t : Int64} {l : Int32} (s : q_S) (hI : q_iY u t l K s) (a0 : Int32) : (fun _ => True) (dz_N188 s a0) := trivial
set_option maxHeartbeats 4000000 in
theorem dzp_N146_87_65  {u K : Int} {t : Int64} {l : Int32} (s : q_S) (hI : q_iY u t l K s) (a2 : Int32) (ra2 : q_rgz 0 255 a2) : q_Ex (dz_N146_87_65 s a2) (q_iY u t l (K + 1)) := by
  unfold dz_N146_87_65
  obtain ⟨r2, e368, j367⟩ := dzp_N94_65 (s) hI ((256 : Int32) + (s.2.1 23 3)) (a2) (q_rg_le (L := 0) (U := 4095) (q_rg_add (L := 256) (U := 511) (q_rg_lit (n := 256) (x := 256) rfl) (q_rf23_3 hI) (by decide) (by decide) (by decide) (by decide)) (by decide) (by decide)) (q_rg_le (L := 0) (U := 255) ra2 (by decide) (by decide))
  rw [e368]
  refine q_E_B ?_
  exact q_E_x (q_iY_le (q_iY_F3 j367 (q_rg_le (L := 0) (U := 255) (q_rg_and ((r2.2.1 23 3) - 1) 255 (U := 255) (by decide) rfl) (by decide) (by decide))) (by omega))
set_option maxHeartbeats 4000000 in
theorem dzp_N148_87_65  {u K : Int} {t : Int64} {l : Int32} (s : q_S) (hI : q_iY u t l K s) (a2 : Int32) (a3 : Int32) (a4 : Int32) (ra2 : q_rgz 0 4095 a2) (ra3 : q_rgz 0 255 a3) : q_Ex (dz_N148_87_65 s a2 a3 a4) (q_iY u t l (K + 3)) := by
  unfold dz_N148_87_65
  obtain ⟨r2, e378, j377⟩ := dzp_N146_87_65 (s) hI (a2 >>> ((8 &&& 31) : Int32)) (q_rg_le (L := 0) (U := 255) (q_rg_sh8 (U := 15) ra2 (by decide) (by decide)) (by decide) (by decide))
  rw [e378]
  refine q_E_B ?_
  obtain ⟨r3, e380, j379⟩ := dzp_N146_87_65 (r2) j377 (a2 &&& 255) (q_rg_le (L := 0) (U := 255) (q_rg_and a2 255 (U := 255) (by decide) rfl) (by decide) (by decide))
  rw [e380]
  refine q_E_B ?_
  obtain ⟨r4, e382, j381⟩ := dzp_N146_87_65 (r3) j379 (a3) (q_rg_le (L := 0) (U := 255) ra3 (by decide) (by decide))
  rw [e382]
  refine q_E_B ?_
  obtain ⟨r5, e384, j383⟩ := dzp_N92_65 (q_sI r4 23 5 ((r4.2.1 23 5) ||| 4)) (q_iY_F5 j381 (q_rg_le (L := 0) (U := 255) (q_rg_or (n := 8) (W := 255) (q_rf23_5 j381) (q_rg_lit (n := 4) (x := 4) rfl) (by decide) (by decide) (by decide) (by decide) (by decide)) (by decide) (by decide))) (a4)
  rw [e384]
  refine q_E_B ?_
  exact q_E_x (q_iY_le (q_iY_F4 (q_iY_F5 j381 (q_rg_le (L := 0) (U := 255) (q_rg_or (n := 8) (W := 255) (q_rf23_5 j381) (q_rg_lit (n := 4) (x := 4) rfl) (by decide) (by decide) (by decide) (by decide) (by decide)) (by decide) (by decide))) (q_rg_le (L := 0) (U := 4095) j383 (by decide) (by decide))) (by omega))
set_option maxHeartbeats 4000000 in
theorem dzp_N147_87_65  {u K : Int} {t : Int64} {l : Int32} (s : q_S) (hI : q_iY u t l K s) : (fun (x : q_S × Int32) => q_iY u t l K x.1 ∧ q_rgz 0 255 x.2) (dz_N147_87_65 s) := by
  refine q_S_of (P := (fun (x : q_S × Int32) => q_iY u t l K x.1 ∧ q_rgz 0 255 x.2)) ?_
  unfold dz_N147_87_65
  have j386 := dzp_N120_66 (q_sI s 23 3 (((s.2.1 23 3) + 1) &&& 255)) (q_iY_F3 hI (q_rg_le (L := 0) (U := 255) (q_rg_and ((s.2.1 23 3) + 1) 255 (U := 255) (by decide) rfl) (by decide) (by decide))) ((256 : Int32) + (((s.2.1 23 3) + 1) &&& 255))
  refine q_S_L ?_
  generalize dz_N120_66 (q_sI s 23 3 (((s.2.1 23 3) + 1) &&& 255)) ((256 : Int32) + (((s.2.1 23 3) + 1) &&& 255)) = r1 at j386 ⊢
  exact q_E_x ⟨(q_iY_F3 hI (q_rg_le (L := 0) (U := 255) (q_rg_and ((s.2.1 23 3) + 1) 255 (U := 255) (by decide) rfl) (by decide) (by decide))), q_rg_le j386 (by decide) (by decide)⟩
set_option maxHeartbeats 4000000 in
theorem dzp_N150_87  {u K : Int} {t : Int64} {l : Int32} (s : q_S) (hI : q_iY u t l K s) (a1 : Int32) (ra1 : q_rgz 0 255 a1) : (fun (x : q_S × Int32) => q_iY u t l K x.1 ∧ q_rgz 0 255 x.2) (dz_N150_87 s a1) := by
  refine q_S_of (P := (fun (x : q_S × Int32) => q_iY u t l K x.1 ∧ q_rgz 0 255 x.2)) ?_
  unfold dz_N150_87
  cases h394 : decide (a1 = 0) with
  | true =>
    have g395 := q_rg_eqT h394 (q_rg_lit (n := 0) (x := 0) rfl)
    refine q_S_T ?_
    cases h396 : decide (127 < a1) with
    | true =>
      exact (q_rg_no (q_rg_ltT1 (l := 127) (U := -1) h396 (q_rg_lit (n := 127) (x := 127) rfl) g395 (by decide)) (by decide)).elim
    | false =>
      refine q_S_F ?_
      exact q_E_x ⟨(q_iY_F5 hI (q_rg_le (L := 0) (U := 255) (q_rg_or (n := 8) (W := 255) (q_rg_or (n := 8) (W := 255) (q_rg_and1 (q_rf23_5 hI) (by decide)) (q_rg_lit (n := 2) (x := 2) rfl) (by decide) (by decide) (by decide) (by decide) (by decide)) (q_rg_lit (n := 0) (x := 0) rfl) (by decide) (by decide) (by decide) (by decide) (by decide)) (by decide) (by decide))), q_rg_le g395 (by decide) (by decide)⟩
  | false =>
    have g397 := (q_rg_neL (l := 0) (u := 255) (n := 0) (L := 1) h394 ra1 rfl (by decide) (by decide))
    refine q_S_F ?_
    cases h398 : decide (127 < a1) with
    | true =>
      have g399 := (q_rg_ltT2 (L := 128) (u2 := 255) h398 (q_rg_lit (n := 127) (x := 127) rfl) g397 (by decide))
      refine q_S_T ?_
      exact q_E_x ⟨(q_iY_F5 hI (q_rg_le (L := 0) (U := 255) (q_rg_or (n := 8) (W := 255) (q_rg_or (n := 8) (W := 255) (q_rg_and1 (q_rf23_5 hI) (by decide)) (q_rg_lit (n := 0) (x := 0) rfl) (by decide) (by decide) (by decide) (by decide) (by decide)) (q_rg_lit (n := 128) (x := 128) rfl) (by decide) (by decide) (by decide) (by decide) (by decide)) (by decide) (by decide))), q_rg_le g399 (by decide) (by decide)⟩
    | false =>
      have g400 := (q_rg_ltF2 (l2 := 1) (u := 127) h398 (q_rg_lit (n := 127) (x := 127) rfl) g397)
      refine q_S_F ?_
      exact q_E_x ⟨(q_iY_F5 hI (q_rg_le (L := 0) (U := 255) (q_rg_or (n := 8) (W := 255) (q_rg_or (n := 8) (W := 255) (q_rg_and1 (q_rf23_5 hI) (by decide)) (q_rg_lit (n := 0) (x := 0) rfl) (by decide) (by decide) (by decide) (by decide) (by decide)) (q_rg_lit (n := 0) (x := 0) rfl) (by decide) (by decide) (by decide) (by decide) (by decide)) (by decide) (by decide))), q_rg_le g400 (by decide) (by decide)⟩
set_option maxHeartbeats 4000000 in
theorem dzp_N149_87_t  {u K : Int} {t : Int64} {l : Int32} (s : q_S) (hI : q_iY u t l K s) (a1 : Int32) (ra1 : q_rgz 0 255 a1) : (q_iY u t l K) (dz_N149_87_t s a1) := by
  refine q_S_of (P := (q_iY u t l K)) ?_
  unfold dz_N149_87_t
  exact q_E_x (q_iY_F5 hI (q_rg_le (L := 0) (U := 255) (q_rg_or (n := 8) (W := 255) (q_rf23_5 hI) ra1 (by decide) (by decide) (by decide) (by decide) (by decide)) (by decide) (by decide)))
set_option maxHeartbeats 4000000 in
theorem dzp_N149_87_f  {u K : Int} {t : Int64} {l : Int32} (s : q_S) (hI : q_iY u t l K s) (a1 : Int32) : (q_iY u t l K) (dz_N149_87_f s a1) := by
  refine q_S_of (P := (q_iY u t l K)) ?_
  unfold dz_N149_87_f
  exact q_E_x (q_iY_F5 hI (q_rg_le (L := 0) (U := 255) (q_rg_and1 (q_rf23_5 hI) (by decide)) (by decide) (by decide)))
set_option maxHeartbeats 4000000 in
theorem dzp_N164_87  {u K : Int} {t : Int64} {l : Int32} (s : q_S) (hI : q_iY u t l K s) (a1 : Int32) : (q_iY u t l K) (dz_N164_87 s a1) := by
  refine q_S_of (P := (q_iY u t l K)) ?_
  unfold dz_N164_87
  cases h448 : decide (a1 < 150) with
  | true =>
    have g449 := (q_rg_ltT1 (l := -2147483648) (U := 149) h448 (q_rg_full _) (q_rg_lit (n := 150) (x := 150) rfl) (by decide))
    refine q_S_T ?_
    cases h450 : decide ((s.2.1 23 0) - (s.2.1 23 0) / 2 * 2 = 1) with
    | true =>
      have g451 := q_rg_eqT h450 (q_rg_lit (n := 1) (x := 1) rfl)
      refine q_S_T ?_
      have j452 := dzp_N149_87_t (s) hI (1) (q_rg_le (L := 0) (U := 255) (q_rg_lit (n := 1) (x := 1) rfl) (by decide) (by decide))
      refine q_S_L ?_
      generalize dz_N149_87_t s 1 = r1 at j452 ⊢
      have j453 := dzp_N150_87 (r1) j452 (((r1.2.1 23 0) / 2) + (128 * ((s.2.1 23 5) &&& 1))) (q_rg_le (L := 0) (U := 255) (q_rg_add (L := 0) (U := 255) (q_rg_div (c := 2) (U := 127) (q_rf23_0 j452) (by decide) rfl (by decide) (by decide)) (q_rg_mul (L := 0) (U := 128) (q_rg_lit (n := 128) (x := 128) rfl) (q_rg_and (s.2.1 23 5) 1 (U := 1) (by decide) rfl) (by decide) (by decide) (by decide) (by decide) (by decide) (by decide)) (by decide) (by decide) (by decide) (by decide)) (by decide) (by decide))
      refine q_S_L ?_
      generalize dz_N150_87 r1 (((r1.2.1 23 0) / 2) + (128 * ((s.2.1 23 5) &&& 1))) = r2 at j453 ⊢
      exact q_E_x (q_iY_F0 j453.1 (q_rg_le (L := 0) (U := 255) j453.2 (by decide) (by decide)))
    | false =>
      have g454 := (q_rg_neU (l := 0) (u := 1) (n := 1) (U := 0) h450 (q_rg_rem (c := 2) (U := 1) (q_rf23_0 hI) (by decide) rfl (by decide) (by decide)) rfl (by decide) (by decide))
      refine q_S_F ?_
      have j455 := dzp_N149_87_f (s) hI (1)
      refine q_S_L ?_
      generalize dz_N149_87_f s 1 = r3 at j455 ⊢
      have j456 := dzp_N150_87 (r3) j455 (((r3.2.1 23 0) / 2) + (128 * ((s.2.1 23 5) &&& 1))) (q_rg_le (L := 0) (U := 255) (q_rg_add (L := 0) (U := 255) (q_rg_div (c := 2) (U := 127) (q_rf23_0 j455) (by decide) rfl (by decide) (by decide)) (q_rg_mul (L := 0) (U := 128) (q_rg_lit (n := 128) (x := 128) rfl) (q_rg_and (s.2.1 23 5) 1 (U := 1) (by decide) rfl) (by decide) (by decide) (by decide) (by decide) (by decide) (by decide)) (by decide) (by decide) (by decide) (by decide)) (by decide) (by decide))
      refine q_S_L ?_
      generalize dz_N150_87 r3 (((r3.2.1 23 0) / 2) + (128 * ((s.2.1 23 5) &&& 1))) = r4 at j456 ⊢
      exact q_E_x (q_iY_F0 j456.1 (q_rg_le (L := 0) (U := 255) j456.2 (by decide) (by decide)))
  | false =>
    have g457 := (q_rg_ltF1 (l2 := 150) (u := 2147483647) h448 (q_rg_full _) (q_rg_lit (n := 150) (x := 150) rfl))
    refine q_S_F ?_
    cases h458 : decide (152 < a1) with
    | true =>
      have g459 := (q_rg_ltT2 (L := 153) (u2 := 2147483647) h458 (q_rg_lit (n := 152) (x := 152) rfl) g457 (by decide))
      refine q_S_T ?_
      cases h460 : decide ((s.2.1 23 0) - (s.2.1 23 0) / 2 * 2 = 1) with
      | true =>
        have g461 := q_rg_eqT h460 (q_rg_lit (n := 1) (x := 1) rfl)
        refine q_S_T ?_
        have j462 := dzp_N149_87_t (s) hI (1) (q_rg_le (L := 0) (U := 255) (q_rg_lit (n := 1) (x := 1) rfl) (by decide) (by decide))
        refine q_S_L ?_
        generalize dz_N149_87_t s 1 = r5 at j462 ⊢
        have j463 := dzp_N150_87 (r5) j462 (((r5.2.1 23 0) / 2) + (128 * ((s.2.1 23 5) &&& 1))) (q_rg_le (L := 0) (U := 255) (q_rg_add (L := 0) (U := 255) (q_rg_div (c := 2) (U := 127) (q_rf23_0 j462) (by decide) rfl (by decide) (by decide)) (q_rg_mul (L := 0) (U := 128) (q_rg_lit (n := 128) (x := 128) rfl) (q_rg_and (s.2.1 23 5) 1 (U := 1) (by decide) rfl) (by decide) (by decide) (by decide) (by decide) (by decide) (by decide)) (by decide) (by decide) (by decide) (by decide)) (by decide) (by decide))
        refine q_S_L ?_
        generalize dz_N150_87 r5 (((r5.2.1 23 0) / 2) + (128 * ((s.2.1 23 5) &&& 1))) = r6 at j463 ⊢
        exact q_E_x (q_iY_F0 j463.1 (q_rg_le (L := 0) (U := 255) j463.2 (by decide) (by decide)))
      | false =>
        have g464 := (q_rg_neU (l := 0) (u := 1) (n := 1) (U := 0) h460 (q_rg_rem (c := 2) (U := 1) (q_rf23_0 hI) (by decide) rfl (by decide) (by decide)) rfl (by decide) (by decide))
        refine q_S_F ?_
        have j465 := dzp_N149_87_f (s) hI (1)
        refine q_S_L ?_
        generalize dz_N149_87_f s 1 = r7 at j465 ⊢
        have j466 := dzp_N150_87 (r7) j465 (((r7.2.1 23 0) / 2) + (128 * ((s.2.1 23 5) &&& 1))) (q_rg_le (L := 0) (U := 255) (q_rg_add (L := 0) (U := 255) (q_rg_div (c := 2) (U := 127) (q_rf23_0 j465) (by decide) rfl (by decide) (by decide)) (q_rg_mul (L := 0) (U := 128) (q_rg_lit (n := 128) (x := 128) rfl) (q_rg_and (s.2.1 23 5) 1 (U := 1) (by decide) rfl) (by decide) (by decide) (by decide) (by decide) (by decide) (by decide)) (by decide) (by decide) (by decide) (by decide)) (by decide) (by decide))
        refine q_S_L ?_
        generalize dz_N150_87 r7 (((r7.2.1 23 0) / 2) + (128 * ((s.2.1 23 5) &&& 1))) = r8 at j466 ⊢
        exact q_E_x (q_iY_F0 j466.1 (q_rg_le (L := 0) (U := 255) j466.2 (by decide) (by decide)))
    | false =>
      have g467 := (q_rg_ltF2 (l2 := 150) (u := 152) h458 (q_rg_lit (n := 152) (x := 152) rfl) g457)
      refine q_S_F ?_
      cases h468 : decide (a1 = 150) with
      | true =>
        have g469 := q_rg_eqT h468 (q_rg_lit (n := 150) (x := 150) rfl)
        refine q_S_T ?_
        cases h470 : decide (127 < s.2.1 23 0) with
        | true =>
          have g471 := (q_rg_ltT2 (L := 128) (u2 := 255) h470 (q_rg_lit (n := 127) (x := 127) rfl) (q_rf23_0 hI) (by decide))
          refine q_S_T ?_
          have j472 := dzp_N149_87_t (s) hI (1) (q_rg_le (L := 0) (U := 255) (q_rg_lit (n := 1) (x := 1) rfl) (by decide) (by decide))
          refine q_S_L ?_
          generalize dz_N149_87_t s 1 = r9 at j472 ⊢
          have j473 := dzp_N150_87 (r9) j472 ((2 * (r9.2.1 23 0)) &&& 255) (q_rg_le (L := 0) (U := 255) (q_rg_and (2 * (r9.2.1 23 0)) 255 (U := 255) (by decide) rfl) (by decide) (by decide))
          refine q_S_L ?_
          generalize dz_N150_87 r9 ((2 * (r9.2.1 23 0)) &&& 255) = r10 at j473 ⊢
          exact q_E_x (q_iY_F0 j473.1 (q_rg_le (L := 0) (U := 255) j473.2 (by decide) (by decide)))
        | false =>
          have g474 := (q_rg_ltF2 (l2 := 0) (u := 127) h470 (q_rg_lit (n := 127) (x := 127) rfl) (q_rf23_0 hI))
          refine q_S_F ?_
          have j475 := dzp_N149_87_f (s) hI (1)
          refine q_S_L ?_
          generalize dz_N149_87_f s 1 = r11 at j475 ⊢
          have j476 := dzp_N150_87 (r11) j475 ((2 * (r11.2.1 23 0)) &&& 255) (q_rg_le (L := 0) (U := 255) (q_rg_and (2 * (r11.2.1 23 0)) 255 (U := 255) (by decide) rfl) (by decide) (by decide))
          refine q_S_L ?_
          generalize dz_N150_87 r11 ((2 * (r11.2.1 23 0)) &&& 255) = r12 at j476 ⊢
          exact q_E_x (q_iY_F0 j476.1 (q_rg_le (L := 0) (U := 255) j476.2 (by decide) (by decide)))
      | false =>
        have g477 := (q_rg_neL (l := 150) (u := 152) (n := 150) (L := 151) h468 g467 rfl (by decide) (by decide))
        refine q_S_F ?_
        cases h478 : decide (a1 = 151) with
        | true =>
          have g479 := q_rg_eqT h478 (q_rg_lit (n := 151) (x := 151) rfl)
          refine q_S_T ?_
          cases h480 : decide ((s.2.1 23 0) - (s.2.1 23 0) / 2 * 2 = 1) with
          | true =>
            have g481 := q_rg_eqT h480 (q_rg_lit (n := 1) (x := 1) rfl)
            refine q_S_T ?_
            have j482 := dzp_N149_87_t (s) hI (1) (q_rg_le (L := 0) (U := 255) (q_rg_lit (n := 1) (x := 1) rfl) (by decide) (by decide))
            refine q_S_L ?_
            generalize dz_N149_87_t s 1 = r13 at j482 ⊢
            have j483 := dzp_N150_87 (r13) j482 ((r13.2.1 23 0) / 2) (q_rg_le (L := 0) (U := 255) (q_rg_div (c := 2) (U := 127) (q_rf23_0 j482) (by decide) rfl (by decide) (by decide)) (by decide) (by decide))
            refine q_S_L ?_
            generalize dz_N150_87 r13 ((r13.2.1 23 0) / 2) = r14 at j483 ⊢
            exact q_E_x (q_iY_F0 j483.1 (q_rg_le (L := 0) (U := 255) j483.2 (by decide) (by decide)))
          | false =>
            have g484 := (q_rg_neU (l := 0) (u := 1) (n := 1) (U := 0) h480 (q_rg_rem (c := 2) (U := 1) (q_rf23_0 hI) (by decide) rfl (by decide) (by decide)) rfl (by decide) (by decide))
            refine q_S_F ?_
            have j485 := dzp_N149_87_f (s) hI (1)
            refine q_S_L ?_
            generalize dz_N149_87_f s 1 = r15 at j485 ⊢
            have j486 := dzp_N150_87 (r15) j485 ((r15.2.1 23 0) / 2) (q_rg_le (L := 0) (U := 255) (q_rg_div (c := 2) (U := 127) (q_rf23_0 j485) (by decide) rfl (by decide) (by decide)) (by decide) (by decide))
            refine q_S_L ?_
            generalize dz_N150_87 r15 ((r15.2.1 23 0) / 2) = r16 at j486 ⊢
            exact q_E_x (q_iY_F0 j486.1 (q_rg_le (L := 0) (U := 255) j486.2 (by decide) (by decide)))
        | false =>
          have g487 := (q_rg_neL (l := 151) (u := 152) (n := 151) (L := 152) h478 g477 rfl (by decide) (by decide))
          refine q_S_F ?_
          cases h488 : decide (127 < s.2.1 23 0) with
          | true =>
            have g489 := (q_rg_ltT2 (L := 128) (u2 := 255) h488 (q_rg_lit (n := 127) (x := 127) rfl) (q_rf23_0 hI) (by decide))
            refine q_S_T ?_
            have j490 := dzp_N149_87_t (s) hI (1) (q_rg_le (L := 0) (U := 255) (q_rg_lit (n := 1) (x := 1) rfl) (by decide) (by decide))
            refine q_S_L ?_
            generalize dz_N149_87_t s 1 = r17 at j490 ⊢
            have j491 := dzp_N150_87 (r17) j490 (((2 * (r17.2.1 23 0)) + ((s.2.1 23 5) &&& 1)) &&& 255) (q_rg_le (L := 0) (U := 255) (q_rg_and ((2 * (r17.2.1 23 0)) + ((s.2.1 23 5) &&& 1)) 255 (U := 255) (by decide) rfl) (by decide) (by decide))
            refine q_S_L ?_
            generalize dz_N150_87 r17 (((2 * (r17.2.1 23 0)) + ((s.2.1 23 5) &&& 1)) &&& 255) = r18 at j491 ⊢
            exact q_E_x (q_iY_F0 j491.1 (q_rg_le (L := 0) (U := 255) j491.2 (by decide) (by decide)))
          | false =>
            have g492 := (q_rg_ltF2 (l2 := 0) (u := 127) h488 (q_rg_lit (n := 127) (x := 127) rfl) (q_rf23_0 hI))
            refine q_S_F ?_
            have j493 := dzp_N149_87_f (s) hI (1)
            refine q_S_L ?_
            generalize dz_N149_87_f s 1 = r19 at j493 ⊢
            have j494 := dzp_N150_87 (r19) j493 (((2 * (r19.2.1 23 0)) + ((s.2.1 23 5) &&& 1)) &&& 255) (q_rg_le (L := 0) (U := 255) (q_rg_and ((2 * (r19.2.1 23 0)) + ((s.2.1 23 5) &&& 1)) 255 (U := 255) (by decide) rfl) (by decide) (by decide))
            refine q_S_L ?_
            generalize dz_N150_87 r19 (((2 * (r19.2.1 23 0)) + ((s.2.1 23 5) &&& 1)) &&& 255) = r20 at j494 ⊢
            exact q_E_x (q_iY_F0 j494.1 (q_rg_le (L := 0) (U := 255) j494.2 (by decide) (by decide)))
set_option maxHeartbeats 4000000 in
theorem dzp_N163_87  {u K : Int} {t : Int64} {l : Int32} (s : q_S) (hI : q_iY u t l K s) (a1 : Int32) : (q_iY u t l K) (dz_N163_87 s a1) := by
  refine q_S_of (P := (q_iY u t l K)) ?_
  unfold dz_N163_87
  cases h524 : decide (a1 < 142) with
  | true =>
    have g525 := (q_rg_ltT1 (l := -2147483648) (U := 141) h524 (q_rg_full _) (q_rg_lit (n := 142) (x := 142) rfl) (by decide))
    refine q_S_T ?_
    have j526 := dzp_N149_87_f (s) hI (64)
    refine q_S_L ?_
    generalize dz_N149_87_f s 64 = r1 at j526 ⊢
    exact q_E_x j526
  | false =>
    have g527 := (q_rg_ltF1 (l2 := 142) (u := 2147483647) h524 (q_rg_full _) (q_rg_lit (n := 142) (x := 142) rfl))
    refine q_S_F ?_
    cases h528 : decide (147 < a1) with
    | true =>
      have g529 := (q_rg_ltT2 (L := 148) (u2 := 2147483647) h528 (q_rg_lit (n := 147) (x := 147) rfl) g527 (by decide))
      refine q_S_T ?_
      have j530 := dzp_N149_87_f (s) hI (64)
      refine q_S_L ?_
      generalize dz_N149_87_f s 64 = r2 at j530 ⊢
      exact q_E_x j530
    | false =>
      have g531 := (q_rg_ltF2 (l2 := 142) (u := 147) h528 (q_rg_lit (n := 147) (x := 147) rfl) g527)
      refine q_S_F ?_
      cases h532 : decide (a1 = 142) with
      | true =>
        have g533 := q_rg_eqT h532 (q_rg_lit (n := 142) (x := 142) rfl)
        refine q_S_T ?_
        have j534 := dzp_N149_87_t (s) hI (1) (q_rg_le (L := 0) (U := 255) (q_rg_lit (n := 1) (x := 1) rfl) (by decide) (by decide))
        refine q_S_L ?_
        generalize dz_N149_87_t s 1 = r3 at j534 ⊢
        exact q_E_x j534
      | false =>
        have g535 := (q_rg_neL (l := 142) (u := 147) (n := 142) (L := 143) h532 g531 rfl (by decide) (by decide))
        refine q_S_F ?_
        cases h536 : decide (a1 = 143) with
        | true =>
          have g537 := q_rg_eqT h536 (q_rg_lit (n := 143) (x := 143) rfl)
          refine q_S_T ?_
          have j538 := dzp_N149_87_f (s) hI (1)
          refine q_S_L ?_
          generalize dz_N149_87_f s 1 = r4 at j538 ⊢
          exact q_E_x j538
        | false =>
          have g539 := (q_rg_neL (l := 143) (u := 147) (n := 143) (L := 144) h536 g535 rfl (by decide) (by decide))
          refine q_S_F ?_
          cases h540 : decide (a1 = 144) with
          | true =>
            have g541 := q_rg_eqT h540 (q_rg_lit (n := 144) (x := 144) rfl)
            refine q_S_T ?_
            have j542 := dzp_N149_87_t (s) hI (8) (q_rg_le (L := 0) (U := 255) (q_rg_lit (n := 8) (x := 8) rfl) (by decide) (by decide))
            refine q_S_L ?_
            generalize dz_N149_87_t s 8 = r5 at j542 ⊢
            exact q_E_x j542
          | false =>
            have g543 := (q_rg_neL (l := 144) (u := 147) (n := 144) (L := 145) h540 g539 rfl (by decide) (by decide))
            refine q_S_F ?_
            cases h544 : decide (a1 = 145) with
            | true =>
              have g545 := q_rg_eqT h544 (q_rg_lit (n := 145) (x := 145) rfl)
              refine q_S_T ?_
              have j546 := dzp_N149_87_f (s) hI (8)
              refine q_S_L ?_
              generalize dz_N149_87_f s 8 = r6 at j546 ⊢
              exact q_E_x j546
            | false =>
              have g547 := (q_rg_neL (l := 145) (u := 147) (n := 145) (L := 146) h544 g543 rfl (by decide) (by decide))
              refine q_S_F ?_
              cases h548 : decide (a1 = 146) with
              | true =>
                have g549 := q_rg_eqT h548 (q_rg_lit (n := 146) (x := 146) rfl)
                refine q_S_T ?_
                have j550 := dzp_N149_87_t (s) hI (4) (q_rg_le (L := 0) (U := 255) (q_rg_lit (n := 4) (x := 4) rfl) (by decide) (by decide))
                refine q_S_L ?_
                generalize dz_N149_87_t s 4 = r7 at j550 ⊢
                exact q_E_x j550
              | false =>
                have g551 := (q_rg_neL (l := 146) (u := 147) (n := 146) (L := 147) h548 g547 rfl (by decide) (by decide))
                refine q_S_F ?_
                have j552 := dzp_N149_87_f (s) hI (4)
                refine q_S_L ?_
                generalize dz_N149_87_f s 4 = r8 at j552 ⊢
                exact q_E_x j552
set_option maxHeartbeats 4000000 in
theorem dzp_N162_87  {u K : Int} {t : Int64} {l : Int32} (s : q_S) (hI : q_iY u t l K s) (a1 : Int32) : (q_iY u t l K) (dz_N162_87 s a1) := by
  refine q_S_of (P := (q_iY u t l K)) ?_
  unfold dz_N162_87
  cases h592 : decide (a1 < 128) with
  | true =>
    have g593 := (q_rg_ltT1 (l := -2147483648) (U := 127) h592 (q_rg_full _) (q_rg_lit (n := 128) (x := 128) rfl) (by decide))
    refine q_S_T ?_
    exact q_E_x (q_iY_F3 hI (q_rg_le (L := 0) (U := 255) (q_rf23_1 hI) (by decide) (by decide)))
  | false =>
    have g594 := (q_rg_ltF1 (l2 := 128) (u := 2147483647) h592 (q_rg_full _) (q_rg_lit (n := 128) (x := 128) rfl))
    refine q_S_F ?_
    cases h595 : decide (136 < a1) with
    | true =>
      have g596 := (q_rg_ltT2 (L := 137) (u2 := 2147483647) h595 (q_rg_lit (n := 136) (x := 136) rfl) g594 (by decide))
      refine q_S_T ?_
      exact q_E_x (q_iY_F3 hI (q_rg_le (L := 0) (U := 255) (q_rf23_1 hI) (by decide) (by decide)))
    | false =>
      have g597 := (q_rg_ltF2 (l2 := 128) (u := 136) h595 (q_rg_lit (n := 136) (x := 136) rfl) g594)
      refine q_S_F ?_
      cases h598 : decide (a1 = 128) with
      | true =>
        have g599 := q_rg_eqT h598 (q_rg_lit (n := 128) (x := 128) rfl)
        refine q_S_T ?_
        have j600 := dzp_N150_87 (s) hI (((s.2.1 23 1) + 1) &&& 255) (q_rg_le (L := 0) (U := 255) (q_rg_and ((s.2.1 23 1) + 1) 255 (U := 255) (by decide) rfl) (by decide) (by decide))
        refine q_S_L ?_
        generalize dz_N150_87 s (((s.2.1 23 1) + 1) &&& 255) = r1 at j600 ⊢
        exact q_E_x (q_iY_F1 j600.1 (q_rg_le (L := 0) (U := 255) j600.2 (by decide) (by decide)))
      | false =>
        have g601 := (q_rg_neL (l := 128) (u := 136) (n := 128) (L := 129) h598 g597 rfl (by decide) (by decide))
        refine q_S_F ?_
        cases h602 : decide (a1 = 129) with
        | true =>
          have g603 := q_rg_eqT h602 (q_rg_lit (n := 129) (x := 129) rfl)
          refine q_S_T ?_
          have j604 := dzp_N150_87 (s) hI (((s.2.1 23 1) - 1) &&& 255) (q_rg_le (L := 0) (U := 255) (q_rg_and ((s.2.1 23 1) - 1) 255 (U := 255) (by decide) rfl) (by decide) (by decide))
          refine q_S_L ?_
          generalize dz_N150_87 s (((s.2.1 23 1) - 1) &&& 255) = r2 at j604 ⊢
          exact q_E_x (q_iY_F1 j604.1 (q_rg_le (L := 0) (U := 255) j604.2 (by decide) (by decide)))
        | false =>
          have g605 := (q_rg_neL (l := 129) (u := 136) (n := 129) (L := 130) h602 g601 rfl (by decide) (by decide))
          refine q_S_F ?_
          cases h606 : decide (a1 = 130) with
          | true =>
            have g607 := q_rg_eqT h606 (q_rg_lit (n := 130) (x := 130) rfl)
            refine q_S_T ?_
            have j608 := dzp_N150_87 (s) hI (((s.2.1 23 2) + 1) &&& 255) (q_rg_le (L := 0) (U := 255) (q_rg_and ((s.2.1 23 2) + 1) 255 (U := 255) (by decide) rfl) (by decide) (by decide))
            refine q_S_L ?_
            generalize dz_N150_87 s (((s.2.1 23 2) + 1) &&& 255) = r3 at j608 ⊢
            exact q_E_x (q_iY_F2 j608.1 (q_rg_le (L := 0) (U := 255) j608.2 (by decide) (by decide)))
          | false =>
            have g609 := (q_rg_neL (l := 130) (u := 136) (n := 130) (L := 131) h606 g605 rfl (by decide) (by decide))
            refine q_S_F ?_
            cases h610 : decide (a1 = 131) with
            | true =>
              have g611 := q_rg_eqT h610 (q_rg_lit (n := 131) (x := 131) rfl)
              refine q_S_T ?_
              have j612 := dzp_N150_87 (s) hI (((s.2.1 23 2) - 1) &&& 255) (q_rg_le (L := 0) (U := 255) (q_rg_and ((s.2.1 23 2) - 1) 255 (U := 255) (by decide) rfl) (by decide) (by decide))
              refine q_S_L ?_
              generalize dz_N150_87 s (((s.2.1 23 2) - 1) &&& 255) = r4 at j612 ⊢
              exact q_E_x (q_iY_F2 j612.1 (q_rg_le (L := 0) (U := 255) j612.2 (by decide) (by decide)))
            | false =>
              have g613 := (q_rg_neL (l := 131) (u := 136) (n := 131) (L := 132) h610 g609 rfl (by decide) (by decide))
              refine q_S_F ?_
              cases h614 : decide (a1 = 132) with
              | true =>
                have g615 := q_rg_eqT h614 (q_rg_lit (n := 132) (x := 132) rfl)
                refine q_S_T ?_
                have j616 := dzp_N150_87 (s) hI (s.2.1 23 0) (q_rg_le (L := 0) (U := 255) (q_rf23_0 hI) (by decide) (by decide))
                refine q_S_L ?_
                generalize dz_N150_87 s (s.2.1 23 0) = r5 at j616 ⊢
                exact q_E_x (q_iY_F1 j616.1 (q_rg_le (L := 0) (U := 255) j616.2 (by decide) (by decide)))
              | false =>
                have g617 := (q_rg_neL (l := 132) (u := 136) (n := 132) (L := 133) h614 g613 rfl (by decide) (by decide))
                refine q_S_F ?_
                cases h618 : decide (a1 = 133) with
                | true =>
                  have g619 := q_rg_eqT h618 (q_rg_lit (n := 133) (x := 133) rfl)
                  refine q_S_T ?_
                  have j620 := dzp_N150_87 (s) hI (s.2.1 23 1) (q_rg_le (L := 0) (U := 255) (q_rf23_1 hI) (by decide) (by decide))
                  refine q_S_L ?_
                  generalize dz_N150_87 s (s.2.1 23 1) = r6 at j620 ⊢
                  exact q_E_x (q_iY_F0 j620.1 (q_rg_le (L := 0) (U := 255) j620.2 (by decide) (by decide)))
                | false =>
                  have g621 := (q_rg_neL (l := 133) (u := 136) (n := 133) (L := 134) h618 g617 rfl (by decide) (by decide))
                  refine q_S_F ?_
                  cases h622 : decide (a1 = 134) with
                  | true =>
                    have g623 := q_rg_eqT h622 (q_rg_lit (n := 134) (x := 134) rfl)
                    refine q_S_T ?_
                    have j624 := dzp_N150_87 (s) hI (s.2.1 23 0) (q_rg_le (L := 0) (U := 255) (q_rf23_0 hI) (by decide) (by decide))
                    refine q_S_L ?_
                    generalize dz_N150_87 s (s.2.1 23 0) = r7 at j624 ⊢
                    exact q_E_x (q_iY_F2 j624.1 (q_rg_le (L := 0) (U := 255) j624.2 (by decide) (by decide)))
                  | false =>
                    have g625 := (q_rg_neL (l := 134) (u := 136) (n := 134) (L := 135) h622 g621 rfl (by decide) (by decide))
                    refine q_S_F ?_
                    cases h626 : decide (a1 = 135) with
                    | true =>
                      have g627 := q_rg_eqT h626 (q_rg_lit (n := 135) (x := 135) rfl)
                      refine q_S_T ?_
                      have j628 := dzp_N150_87 (s) hI (s.2.1 23 2) (q_rg_le (L := 0) (U := 255) (q_rf23_2 hI) (by decide) (by decide))
                      refine q_S_L ?_
                      generalize dz_N150_87 s (s.2.1 23 2) = r8 at j628 ⊢
                      exact q_E_x (q_iY_F0 j628.1 (q_rg_le (L := 0) (U := 255) j628.2 (by decide) (by decide)))
                    | false =>
                      have g629 := (q_rg_neL (l := 135) (u := 136) (n := 135) (L := 136) h626 g625 rfl (by decide) (by decide))
                      refine q_S_F ?_
                      have j630 := dzp_N150_87 (s) hI (s.2.1 23 3) (q_rg_le (L := 0) (U := 255) (q_rf23_3 hI) (by decide) (by decide))
                      refine q_S_L ?_
                      generalize dz_N150_87 s (s.2.1 23 3) = r9 at j630 ⊢
                      exact q_E_x (q_iY_F1 j630.1 (q_rg_le (L := 0) (U := 255) j630.2 (by decide) (by decide)))
set_option maxHeartbeats 4000000 in
theorem dzp_N157_87_65_37  {u K : Int} {t : Int64} {l : Int32} (s : q_S) (hI : q_iY u t l K s) (v2 : Int32) (rv2 : q_rgz 138 2147483647 v2) : q_Ex (dz_N157_87_65_37 s v2) (q_iY u t l (K + 1)) := by
  unfold dz_N157_87_65_37
  cases h676 : decide (v2 < 150) with
  | true =>
    have g677 := (q_rg_ltT1 (l := 138) (U := 149) h676 rv2 (q_rg_lit (n := 150) (x := 150) rfl) (by decide))
    refine q_E_T ?_
    cases h678 : decide (v2 = 138) with
    | true =>
      have g679 := q_rg_eqT h678 (q_rg_lit (n := 138) (x := 138) rfl)
      refine q_E_T ?_
      obtain ⟨r2, e681, j680⟩ := dzp_N146_87_65 (s) hI (s.2.1 23 0) (q_rg_le (L := 0) (U := 255) (q_rf23_0 hI) (by decide) (by decide))
      rw [e681]
      refine q_E_B ?_
      exact q_E_x (q_iY_le j680 (by omega))
    | false =>
      have g682 := (q_rg_neL (l := 138) (u := 149) (n := 138) (L := 139) h678 g677 rfl (by decide) (by decide))
      refine q_E_F ?_
      cases h683 : decide (v2 = 139) with
      | true =>
        have g684 := q_rg_eqT h683 (q_rg_lit (n := 139) (x := 139) rfl)
        refine q_E_T ?_
        have j685 := dzp_N147_87_65 (s) hI
        refine q_E_L ?_
        generalize dz_N147_87_65 s = r3 at j685 ⊢
        have j686 := dzp_N150_87 (r3.1) j685.1 (r3.2) (q_rg_le (L := 0) (U := 255) j685.2 (by decide) (by decide))
        refine q_E_L ?_
        generalize dz_N150_87 r3.1 r3.2 = r4 at j686 ⊢
        exact q_E_x (q_iY_le (q_iY_F0 j686.1 (q_rg_le (L := 0) (U := 255) j686.2 (by decide) (by decide))) (by omega))
      | false =>
        have g687 := (q_rg_neL (l := 139) (u := 149) (n := 139) (L := 140) h683 g682 rfl (by decide) (by decide))
        refine q_E_F ?_
        cases h688 : decide (v2 = 140) with
        | true =>
          have g689 := q_rg_eqT h688 (q_rg_lit (n := 140) (x := 140) rfl)
          refine q_E_T ?_
          obtain ⟨r5, e691, j690⟩ := dzp_N146_87_65 (s) hI (((s.2.1 23 5) ||| 32) ||| 16) (q_rg_le (L := 0) (U := 255) (q_rg_or (n := 8) (W := 255) (q_rg_or (n := 8) (W := 255) (q_rf23_5 hI) (q_rg_lit (n := 32) (x := 32) rfl) (by decide) (by decide) (by decide) (by decide) (by decide)) (q_rg_lit (n := 16) (x := 16) rfl) (by decide) (by decide) (by decide) (by decide) (by decide)) (by decide) (by decide))
          rw [e691]
          refine q_E_B ?_
          exact q_E_x (q_iY_le j690 (by omega))
        | false =>
          have g692 := (q_rg_neL (l := 140) (u := 149) (n := 140) (L := 141) h688 g687 rfl (by decide) (by decide))
          refine q_E_F ?_
          cases h693 : decide (v2 = 141) with
          | true =>
            have g694 := q_rg_eqT h693 (q_rg_lit (n := 141) (x := 141) rfl)
            refine q_E_T ?_
            have j695 := dzp_N147_87_65 (s) hI
            refine q_E_L ?_
            generalize dz_N147_87_65 s = r6 at j695 ⊢
            exact q_E_x (q_iY_le (q_iY_F5 j695.1 (q_rg_le (L := 0) (U := 255) (q_rg_and r6.2 207 (U := 207) (by decide) rfl) (by decide) (by decide))) (by omega))
          | false =>
            have g696 := (q_rg_neL (l := 141) (u := 149) (n := 141) (L := 142) h693 g692 rfl (by decide) (by decide))
            refine q_E_F ?_
            exact q_E_x (q_iY_le hI (by omega))
  | false =>
    have g697 := (q_rg_ltF1 (l2 := 150) (u := 2147483647) h676 rv2 (q_rg_lit (n := 150) (x := 150) rfl))
    refine q_E_F ?_
    have j698 := dzp_N164_87 (s) hI (v2)
    refine q_E_L ?_
    generalize dz_N164_87 s v2 = r7 at j698 ⊢
    exact q_E_x (q_iY_le j698 (by omega))
set_option maxHeartbeats 4000000 in
theorem dzp_N157_87_65  {u K : Int} {t : Int64} {l : Int32} (s : q_S) (hI : q_iY u t l K s) (a2 : Int32) : q_Ex (dz_N157_87_65 s a2) (q_iY u t l (K + 1)) := by
  unfold dz_N157_87_65
  cases h699 : decide (137 < a2) with
  | true =>
    have g700 := (q_rg_ltT2 (L := 138) (u2 := 2147483647) h699 (q_rg_lit (n := 137) (x := 137) rfl) (q_rg_full _) (by decide))
    refine q_E_T ?_
    cases h701 : decide (a2 < 142) with
    | true =>
      have g702 := (q_rg_ltT1 (l := 138) (U := 141) h701 g700 (q_rg_lit (n := 142) (x := 142) rfl) (by decide))
      refine q_E_T ?_
      exact q_E_to (dzp_N157_87_65_37 (s) hI (a2) (q_rg_le (L := 138) (U := 2147483647) g702 (by decide) (by decide))) (fun x hx => (q_iY_le hx (by omega)))
    | false =>
      have g703 := (q_rg_ltF1 (l2 := 142) (u := 2147483647) h701 g700 (q_rg_lit (n := 142) (x := 142) rfl))
      refine q_E_F ?_
      cases h704 : decide (148 < a2) with
      | true =>
        have g705 := (q_rg_ltT2 (L := 149) (u2 := 2147483647) h704 (q_rg_lit (n := 148) (x := 148) rfl) g703 (by decide))
        refine q_E_T ?_
        exact q_E_to (dzp_N157_87_65_37 (s) hI (a2) (q_rg_le (L := 138) (U := 2147483647) g705 (by decide) (by decide))) (fun x hx => (q_iY_le hx (by omega)))
      | false =>
        have g706 := (q_rg_ltF2 (l2 := 142) (u := 148) h704 (q_rg_lit (n := 148) (x := 148) rfl) g703)
        refine q_E_F ?_
        have j707 := dzp_N163_87 (s) hI (a2)
        refine q_E_L ?_
        generalize dz_N163_87 s a2 = r8 at j707 ⊢
        exact q_E_x (q_iY_le j707 (by omega))
  | false =>
    have g708 := (q_rg_ltF2 (l2 := -2147483648) (u := 137) h699 (q_rg_lit (n := 137) (x := 137) rfl) (q_rg_full _))
    refine q_E_F ?_
    have j709 := dzp_N162_87 (s) hI (a2)
    refine q_E_L ?_
    generalize dz_N162_87 s a2 = r9 at j709 ⊢
    exact q_E_x (q_iY_le j709 (by omega))
set_option maxHeartbeats 4000000 in
theorem dzp_N160_87_65  {u K : Int} {t : Int64} {l : Int32} (s : q_S) (hI : q_iY u t l K s) : (fun (x : q_S × Int32) => q_iY u t l K x.1 ∧ q_rgz 0 4095 x.2) (dz_N160_87_65 s) := by
  refine q_S_of (P := (fun (x : q_S × Int32) => q_iY u t l K x.1 ∧ q_rgz 0 4095 x.2)) ?_
  unfold dz_N160_87_65
  have j712 := dzp_N147_87_65 (s) hI
  refine q_S_L ?_
  generalize dz_N147_87_65 s = r1 at j712 ⊢
  have j713 := dzp_N147_87_65 (r1.1) j712.1
  refine q_S_L ?_
  generalize dz_N147_87_65 r1.1 = r2 at j713 ⊢
  exact q_E_x ⟨j713.1, q_rg_le (q_rg_and (r1.2 + (256 * r2.2)) 4095 (U := 4095) (by decide) rfl) (by decide) (by decide)⟩
set_option maxHeartbeats 4000000 in
theorem dzp_N159_87_65  {u K : Int} {t : Int64} {l : Int32} (s : q_S) (hI : q_iY u t l K s) (a2 : Int32) (ra2 : q_rgz 0 4095 a2) : q_Ex (dz_N159_87_65 s a2) (fun x => q_rgz 0 4095 x) := by
  unfold dz_N159_87_65
  obtain ⟨r2, e719, j718⟩ := dzp_N90_65 (s) hI (a2) (q_rg_le (L := 0) (U := 4095) ra2 (by decide) (by decide))
  rw [e719]
  refine q_E_B ?_
  obtain ⟨r3, e721, j720⟩ := dzp_N90_65 (s) hI (((a2 / 256) * 256) + ((a2 + 1) &&& 255)) (q_rg_le (L := 0) (U := 4095) (q_rg_add (L := 0) (U := 4095) (q_rg_mul (L := 0) (U := 3840) (q_rg_div (c := 256) (U := 15) ra2 (by decide) rfl (by decide) (by decide)) (q_rg_lit (n := 256) (x := 256) rfl) (by decide) (by decide) (by decide) (by decide) (by decide) (by decide)) (q_rg_and (a2 + 1) 255 (U := 255) (by decide) rfl) (by decide) (by decide) (by decide) (by decide)) (by decide) (by decide))
  rw [e721]
  refine q_E_B ?_
  exact q_E_x (q_rg_le (q_rg_and (r2 + (256 * r3)) 4095 (U := 4095) (by decide) rfl) (by decide) (by decide))
set_option maxHeartbeats 4000000 in
theorem dzp_N158_87_65  {u K : Int} {t : Int64} {l : Int32} (s : q_S) (hI : q_iY u t l K s) (a2 : Int32) (a3 : Int32) (ra3 : q_rgz 0 4095 a3) : q_Ex (dz_N158_87_65 s a2 a3) (fun (x : q_S × Int32) => q_iY u t l (K + 2) x.1 ∧ q_rgz 0 4095 x.2) := by
  unfold dz_N158_87_65
  cases h773 : decide (a2 < 155) with
  | true =>
    have g774 := (q_rg_ltT1 (l := -2147483648) (U := 154) h773 (q_rg_full _) (q_rg_lit (n := 155) (x := 155) rfl) (by decide))
    refine q_E_T ?_
    have j775 := dzp_N187 (s) hI (a2)
    refine q_E_L ?_
    generalize dz_N187 s a2 = r5 at j775 ⊢
    cases h776 : r5 with
    | true =>
      refine q_E_T ?_
      have j777 := dzp_N161_87 (s) hI (a2)
      refine q_E_L ?_
      generalize dz_N161_87 s a2 = r6 at j777 ⊢
      cases h778 : r6 with
      | true =>
        refine q_E_T ?_
        have j779 := dzp_N140_87 (s) hI (1)
        refine q_E_L ?_
        generalize dz_N140_87 s 1 = r7 at j779 ⊢
        obtain ⟨r8, e781, j780⟩ := dzp_N90_65 (s) hI (r7) (q_rg_le (L := 0) (U := 4095) j779 (by decide) (by decide))
        rw [e781]
        refine q_E_B ?_
        have j782 := dzp_N139_87 (s) hI (r8)
        refine q_E_L ?_
        generalize dz_N139_87 s r8 = r9 at j782 ⊢
        exact q_E_x ⟨(q_iY_le hI (by omega)), q_rg_le j782 (by decide) (by decide)⟩
      | false =>
        refine q_E_F ?_
        exact q_E_x ⟨(q_iY_le hI (by omega)), q_rg_le ra3 (by decide) (by decide)⟩
    | false =>
      refine q_E_F ?_
      exact q_E_x ⟨(q_iY_le (q_iY_F7 hI (q_rg_le (L := 0) (U := 1) (q_rg_lit (n := 1) (x := 1) rfl) (by decide) (by decide))) (by omega)), q_rg_le (q_rf23_4 hI) (by decide) (by decide)⟩
  | false =>
    have g783 := (q_rg_ltF1 (l2 := 155) (u := 2147483647) h773 (q_rg_full _) (q_rg_lit (n := 155) (x := 155) rfl))
    refine q_E_F ?_
    cases h784 : decide (159 < a2) with
    | true =>
      have g785 := (q_rg_ltT2 (L := 160) (u2 := 2147483647) h784 (q_rg_lit (n := 159) (x := 159) rfl) g783 (by decide))
      refine q_E_T ?_
      have j786 := dzp_N187 (s) hI (a2)
      refine q_E_L ?_
      generalize dz_N187 s a2 = r10 at j786 ⊢
      cases h787 : r10 with
      | true =>
        refine q_E_T ?_
        have j788 := dzp_N161_87 (s) hI (a2)
        refine q_E_L ?_
        generalize dz_N161_87 s a2 = r11 at j788 ⊢
        cases h789 : r11 with
        | true =>
          refine q_E_T ?_
          have j790 := dzp_N140_87 (s) hI (1)
          refine q_E_L ?_
          generalize dz_N140_87 s 1 = r12 at j790 ⊢
          obtain ⟨r13, e792, j791⟩ := dzp_N90_65 (s) hI (r12) (q_rg_le (L := 0) (U := 4095) j790 (by decide) (by decide))
          rw [e792]
          refine q_E_B ?_
          have j793 := dzp_N139_87 (s) hI (r13)
          refine q_E_L ?_
          generalize dz_N139_87 s r13 = r14 at j793 ⊢
          exact q_E_x ⟨(q_iY_le hI (by omega)), q_rg_le j793 (by decide) (by decide)⟩
        | false =>
          refine q_E_F ?_
          exact q_E_x ⟨(q_iY_le hI (by omega)), q_rg_le ra3 (by decide) (by decide)⟩
      | false =>
        refine q_E_F ?_
        exact q_E_x ⟨(q_iY_le (q_iY_F7 hI (q_rg_le (L := 0) (U := 1) (q_rg_lit (n := 1) (x := 1) rfl) (by decide) (by decide))) (by omega)), q_rg_le (q_rf23_4 hI) (by decide) (by decide)⟩
    | false =>
      have g794 := (q_rg_ltF2 (l2 := 155) (u := 159) h784 (q_rg_lit (n := 159) (x := 159) rfl) g783)
      refine q_E_F ?_
      cases h795 : decide (a2 = 155) with
      | true =>
        have g796 := q_rg_eqT h795 (q_rg_lit (n := 155) (x := 155) rfl)
        refine q_E_T ?_
        have j797 := dzp_N147_87_65 (s) hI
        refine q_E_L ?_
        generalize dz_N147_87_65 s = r15 at j797 ⊢
        have j798 := dzp_N160_87_65 (q_sI r15.1 23 5 (r15.2 &&& 207)) (q_iY_F5 j797.1 (q_rg_le (L := 0) (U := 255) (q_rg_and r15.2 207 (U := 207) (by decide) rfl) (by decide) (by decide)))
        refine q_E_L ?_
        generalize dz_N160_87_65 (q_sI r15.1 23 5 (r15.2 &&& 207)) = r16 at j798 ⊢
        exact q_E_x ⟨(q_iY_le j798.1 (by omega)), q_rg_le j798.2 (by decide) (by decide)⟩
      | false =>
        have g799 := (q_rg_neL (l := 155) (u := 159) (n := 155) (L := 156) h795 g794 rfl (by decide) (by decide))
        refine q_E_F ?_
        cases h800 : decide (a2 = 156) with
        | true =>
          have g801 := q_rg_eqT h800 (q_rg_lit (n := 156) (x := 156) rfl)
          refine q_E_T ?_
          have j802 := dzp_N160_87_65 (s) hI
          refine q_E_L ?_
          generalize dz_N160_87_65 s = r17 at j802 ⊢
          exact q_E_x ⟨(q_iY_le j802.1 (by omega)), q_rg_le (q_rg_and (r17.2 + 1) 4095 (U := 4095) (by decide) rfl) (by decide) (by decide)⟩
        | false =>
          have g803 := (q_rg_neL (l := 156) (u := 159) (n := 156) (L := 157) h800 g799 rfl (by decide) (by decide))
          refine q_E_F ?_
          cases h804 : decide (a2 = 157) with
          | true =>
            have g805 := q_rg_eqT h804 (q_rg_lit (n := 157) (x := 157) rfl)
            refine q_E_T ?_
            obtain ⟨r18, e807, j806⟩ := dzp_N145_87_65 (s) hI (3)
            rw [e807]
            refine q_E_B ?_
            exact q_E_x ⟨(q_iY_le hI (by omega)), q_rg_le j806 (by decide) (by decide)⟩
          | false =>
            have g808 := (q_rg_neL (l := 157) (u := 159) (n := 157) (L := 158) h804 g803 rfl (by decide) (by decide))
            refine q_E_F ?_
            cases h809 : decide (a2 = 158) with
            | true =>
              have g810 := q_rg_eqT h809 (q_rg_lit (n := 158) (x := 158) rfl)
              refine q_E_T ?_
              obtain ⟨r19, e812, j811⟩ := dzp_N145_87_65 (s) hI (3)
              rw [e812]
              refine q_E_B ?_
              have j813 := dzp_N140_87 (s) hI (2)
              refine q_E_L ?_
              generalize dz_N140_87 s 2 = r20 at j813 ⊢
              obtain ⟨r21, e815, j814⟩ := dzp_N146_87_65 (s) hI (r20 >>> ((8 &&& 31) : Int32)) (q_rg_le (L := 0) (U := 255) (q_rg_sh8 (U := 15) j813 (by decide) (by decide)) (by decide) (by decide))
              rw [e815]
              refine q_E_B ?_
              have j816 := dzp_N140_87 (r21) j814 (2)
              refine q_E_L ?_
              generalize dz_N140_87 r21 2 = r22 at j816 ⊢
              obtain ⟨r23, e818, j817⟩ := dzp_N146_87_65 (r21) j814 (r22 &&& 255) (q_rg_le (L := 0) (U := 255) (q_rg_and r22 255 (U := 255) (by decide) rfl) (by decide) (by decide))
              rw [e818]
              refine q_E_B ?_
              exact q_E_x ⟨(q_iY_le j817 (by omega)), q_rg_le j811 (by decide) (by decide)⟩
            | false =>
              have g819 := (q_rg_neL (l := 158) (u := 159) (n := 158) (L := 159) h809 g808 rfl (by decide) (by decide))
              refine q_E_F ?_
              obtain ⟨r24, e821, j820⟩ := dzp_N145_87_65 (s) hI (3)
              rw [e821]
              refine q_E_B ?_
              obtain ⟨r25, e823, j822⟩ := dzp_N159_87_65 (s) hI (r24) (q_rg_le (L := 0) (U := 4095) j820 (by decide) (by decide))
              rw [e823]
              refine q_E_B ?_
              exact q_E_x ⟨(q_iY_le hI (by omega)), q_rg_le j822 (by decide) (by decide)⟩
set_option maxHeartbeats 4000000 in
theorem dzp_N156_87  {u K : Int} {t : Int64} {l : Int32} (s : q_S) (hI : q_iY u t l K s) (a1 : Int32) (ra1 : q_rgz 0 255 a1) : (q_iY u t l K) (dz_N156_87 s a1) := by
  refine q_S_of (P := (q_iY u t l K)) ?_
  unfold dz_N156_87
  cases h843 : decide ((((s.2.1 23 0) ^^^ (((s.2.1 23 0) + a1) + ((s.2.1 23 5) &&& 1))) &&& (a1 ^^^ (((s.2.1 23 0) + a1) + ((s.2.1 23 5) &&& 1)))) &&& 128 = 0) with
  | true =>
    have g844 := q_rg_eqT h843 (q_rg_lit (n := 0) (x := 0) rfl)
    refine q_S_T ?_
    have j845 := dzp_N149_87_f (s) hI (64)
    refine q_S_L ?_
    generalize dz_N149_87_f s 64 = r1 at j845 ⊢
    cases h846 : decide (255 < ((s.2.1 23 0) + a1) + ((s.2.1 23 5) &&& 1)) with
    | true =>
      have g847 := (q_rg_ltT2 (L := 256) (u2 := 511) h846 (q_rg_lit (n := 255) (x := 255) rfl) (q_rg_add (L := 0) (U := 511) (q_rg_add (L := 0) (U := 510) (q_rf23_0 hI) ra1 (by decide) (by decide) (by decide) (by decide)) (q_rg_and (s.2.1 23 5) 1 (U := 1) (by decide) rfl) (by decide) (by decide) (by decide) (by decide)) (by decide))
      refine q_S_T ?_
      have j848 := dzp_N149_87_t (r1) j845 (1) (q_rg_le (L := 0) (U := 255) (q_rg_lit (n := 1) (x := 1) rfl) (by decide) (by decide))
      refine q_S_L ?_
      generalize dz_N149_87_t r1 1 = r2 at j848 ⊢
      have j849 := dzp_N150_87 (r2) j848 ((((s.2.1 23 0) + a1) + ((s.2.1 23 5) &&& 1)) &&& 255) (q_rg_le (L := 0) (U := 255) (q_rg_and (((s.2.1 23 0) + a1) + ((s.2.1 23 5) &&& 1)) 255 (U := 255) (by decide) rfl) (by decide) (by decide))
      refine q_S_L ?_
      generalize dz_N150_87 r2 ((((s.2.1 23 0) + a1) + ((s.2.1 23 5) &&& 1)) &&& 255) = r3 at j849 ⊢
      exact q_E_x (q_iY_F0 j849.1 (q_rg_le (L := 0) (U := 255) j849.2 (by decide) (by decide)))
    | false =>
      have g850 := (q_rg_ltF2 (l2 := 0) (u := 255) h846 (q_rg_lit (n := 255) (x := 255) rfl) (q_rg_add (L := 0) (U := 511) (q_rg_add (L := 0) (U := 510) (q_rf23_0 hI) ra1 (by decide) (by decide) (by decide) (by decide)) (q_rg_and (s.2.1 23 5) 1 (U := 1) (by decide) rfl) (by decide) (by decide) (by decide) (by decide)))
      refine q_S_F ?_
      have j851 := dzp_N149_87_f (r1) j845 (1)
      refine q_S_L ?_
      generalize dz_N149_87_f r1 1 = r4 at j851 ⊢
      have j852 := dzp_N150_87 (r4) j851 ((((s.2.1 23 0) + a1) + ((s.2.1 23 5) &&& 1)) &&& 255) (q_rg_le (L := 0) (U := 255) (q_rg_and (((s.2.1 23 0) + a1) + ((s.2.1 23 5) &&& 1)) 255 (U := 255) (by decide) rfl) (by decide) (by decide))
      refine q_S_L ?_
      generalize dz_N150_87 r4 ((((s.2.1 23 0) + a1) + ((s.2.1 23 5) &&& 1)) &&& 255) = r5 at j852 ⊢
      exact q_E_x (q_iY_F0 j852.1 (q_rg_le (L := 0) (U := 255) j852.2 (by decide) (by decide)))
  | false =>
    have g853 := (q_rg_neL (l := 0) (u := 128) (n := 0) (L := 1) h843 (q_rg_and (((s.2.1 23 0) ^^^ (((s.2.1 23 0) + a1) + ((s.2.1 23 5) &&& 1))) &&& (a1 ^^^ (((s.2.1 23 0) + a1) + ((s.2.1 23 5) &&& 1)))) 128 (U := 128) (by decide) rfl) rfl (by decide) (by decide))
    refine q_S_F ?_
    have j854 := dzp_N149_87_t (s) hI (64) (q_rg_le (L := 0) (U := 255) (q_rg_lit (n := 64) (x := 64) rfl) (by decide) (by decide))
    refine q_S_L ?_
    generalize dz_N149_87_t s 64 = r6 at j854 ⊢
    cases h855 : decide (255 < ((s.2.1 23 0) + a1) + ((s.2.1 23 5) &&& 1)) with
    | true =>
      have g856 := (q_rg_ltT2 (L := 256) (u2 := 511) h855 (q_rg_lit (n := 255) (x := 255) rfl) (q_rg_add (L := 0) (U := 511) (q_rg_add (L := 0) (U := 510) (q_rf23_0 hI) ra1 (by decide) (by decide) (by decide) (by decide)) (q_rg_and (s.2.1 23 5) 1 (U := 1) (by decide) rfl) (by decide) (by decide) (by decide) (by decide)) (by decide))
      refine q_S_T ?_
      have j857 := dzp_N149_87_t (r6) j854 (1) (q_rg_le (L := 0) (U := 255) (q_rg_lit (n := 1) (x := 1) rfl) (by decide) (by decide))
      refine q_S_L ?_
      generalize dz_N149_87_t r6 1 = r7 at j857 ⊢
      have j858 := dzp_N150_87 (r7) j857 ((((s.2.1 23 0) + a1) + ((s.2.1 23 5) &&& 1)) &&& 255) (q_rg_le (L := 0) (U := 255) (q_rg_and (((s.2.1 23 0) + a1) + ((s.2.1 23 5) &&& 1)) 255 (U := 255) (by decide) rfl) (by decide) (by decide))
      refine q_S_L ?_
      generalize dz_N150_87 r7 ((((s.2.1 23 0) + a1) + ((s.2.1 23 5) &&& 1)) &&& 255) = r8 at j858 ⊢
      exact q_E_x (q_iY_F0 j858.1 (q_rg_le (L := 0) (U := 255) j858.2 (by decide) (by decide)))
    | false =>
      have g859 := (q_rg_ltF2 (l2 := 0) (u := 255) h855 (q_rg_lit (n := 255) (x := 255) rfl) (q_rg_add (L := 0) (U := 511) (q_rg_add (L := 0) (U := 510) (q_rf23_0 hI) ra1 (by decide) (by decide) (by decide) (by decide)) (q_rg_and (s.2.1 23 5) 1 (U := 1) (by decide) rfl) (by decide) (by decide) (by decide) (by decide)))
      refine q_S_F ?_
      have j860 := dzp_N149_87_f (r6) j854 (1)
      refine q_S_L ?_
      generalize dz_N149_87_f r6 1 = r9 at j860 ⊢
      have j861 := dzp_N150_87 (r9) j860 ((((s.2.1 23 0) + a1) + ((s.2.1 23 5) &&& 1)) &&& 255) (q_rg_le (L := 0) (U := 255) (q_rg_and (((s.2.1 23 0) + a1) + ((s.2.1 23 5) &&& 1)) 255 (U := 255) (by decide) rfl) (by decide) (by decide))
      refine q_S_L ?_
      generalize dz_N150_87 r9 ((((s.2.1 23 0) + a1) + ((s.2.1 23 5) &&& 1)) &&& 255) = r10 at j861 ⊢
      exact q_E_x (q_iY_F0 j861.1 (q_rg_le (L := 0) (U := 255) j861.2 (by decide) (by decide)))
set_option maxHeartbeats 4000000 in
theorem dzp_N154_87_64  {u K : Int} {t : Int64} {l : Int32} (s : q_S) (hI : q_iY u t l K s) (v3 : Int32) (v4 : Int32) (rv3 : q_rgz 0 21 v3) (rv4 : q_rgz 0 31 v4) : (q_iY u t l K) (dz_N154_87_64 s v3 v4) := by
  refine q_S_of (P := (q_iY u t l K)) ?_
  unfold dz_N154_87_64
  cases h885 : decide (9 < v4) with
  | true =>
    have g886 := (q_rg_ltT2 (L := 10) (u2 := 31) h885 (q_rg_lit (n := 9) (x := 9) rfl) rv4 (by decide))
    refine q_S_T ?_
    have j887 := dzp_N149_87_t (s) hI (1) (q_rg_le (L := 0) (U := 255) (q_rg_lit (n := 1) (x := 1) rfl) (by decide) (by decide))
    refine q_S_L ?_
    generalize dz_N149_87_t s 1 = r3 at j887 ⊢
    have j888 := dzp_N150_87 (r3) j887 (((16 * (v4 + (-10))) + v3) &&& 255) (q_rg_le (L := 0) (U := 255) (q_rg_and ((16 * (v4 + (-10))) + v3) 255 (U := 255) (by decide) rfl) (by decide) (by decide))
    refine q_S_L ?_
    generalize dz_N150_87 r3 (((16 * (v4 + (-10))) + v3) &&& 255) = r4 at j888 ⊢
    exact q_E_x (q_iY_F0 j888.1 (q_rg_le (L := 0) (U := 255) j888.2 (by decide) (by decide)))
  | false =>
    have g889 := (q_rg_ltF2 (l2 := 0) (u := 9) h885 (q_rg_lit (n := 9) (x := 9) rfl) rv4)
    refine q_S_F ?_
    have j890 := dzp_N149_87_f (s) hI (1)
    refine q_S_L ?_
    generalize dz_N149_87_f s 1 = r5 at j890 ⊢
    have j891 := dzp_N150_87 (r5) j890 (((16 * v4) + v3) &&& 255) (q_rg_le (L := 0) (U := 255) (q_rg_and ((16 * v4) + v3) 255 (U := 255) (by decide) rfl) (by decide) (by decide))
    refine q_S_L ?_
    generalize dz_N150_87 r5 (((16 * v4) + v3) &&& 255) = r6 at j891 ⊢
    exact q_E_x (q_iY_F0 j891.1 (q_rg_le (L := 0) (U := 255) j891.2 (by decide) (by decide)))
set_option maxHeartbeats 4000000 in
theorem dzp_N154_87  {u K : Int} {t : Int64} {l : Int32} (s : q_S) (hI : q_iY u t l K s) (a1 : Int32) (ra1 : q_rgz 0 255 a1) : (q_iY u t l K) (dz_N154_87 s a1) := by
  refine q_S_of (P := (q_iY u t l K)) ?_
  unfold dz_N154_87
  have j892 : q_rgz 0 31 ((((s.2.1 23 0) - (s.2.1 23 0) / 16 * 16) + (a1 - a1 / 16 * 16)) + ((s.2.1 23 5) &&& 1)) := (q_rg_add (L := 0) (U := 31) (q_rg_add (L := 0) (U := 30) (q_rg_rem (c := 16) (U := 15) (q_rf23_0 hI) (by decide) rfl (by decide) (by decide)) (q_rg_rem (c := 16) (U := 15) ra1 (by decide) rfl (by decide) (by decide)) (by decide) (by decide) (by decide) (by decide)) (q_rg_and (s.2.1 23 5) 1 (U := 1) (by decide) rfl) (by decide) (by decide) (by decide) (by decide))
  refine q_S_L ?_
  generalize ((((s.2.1 23 0) - (s.2.1 23 0) / 16 * 16) + (a1 - a1 / 16 * 16)) + ((s.2.1 23 5) &&& 1)) = x1 at j892 ⊢
  have j893 := dzp_N156_87 (s) hI (a1) (q_rg_le (L := 0) (U := 255) ra1 (by decide) (by decide))
  refine q_S_L ?_
  generalize dz_N156_87 s a1 = r2 at j893 ⊢
  cases h894 : decide ((r2.2.1 23 5) &&& 8 = 0) with
  | true =>
    have g895 := q_rg_eqT h894 (q_rg_lit (n := 0) (x := 0) rfl)
    refine q_S_T ?_
    exact q_E_x j893
  | false =>
    have g896 := (q_rg_neL (l := 0) (u := 8) (n := 0) (L := 1) h894 (q_rg_and (r2.2.1 23 5) 8 (U := 8) (by decide) rfl) rfl (by decide) (by decide))
    refine q_S_F ?_
    cases h897 : decide (9 < x1) with
    | true =>
      have g898 := (q_rg_ltT2 (L := 10) (u2 := 31) h897 (q_rg_lit (n := 9) (x := 9) rfl) j892 (by decide))
      refine q_S_T ?_
      exact q_E_x (dzp_N154_87_64 (r2) j893 (x1 + (-10)) ((((s.2.1 23 0) / 16) + (a1 / 16)) + 1) (q_rg_le (L := 0) (U := 21) (q_rg_add (L := 0) (U := 21) g898 (q_rg_lit (n := -10) (x := -10) rfl) (by decide) (by decide) (by decide) (by decide)) (by decide) (by decide)) (q_rg_le (L := 0) (U := 31) (q_rg_add (L := 1) (U := 31) (q_rg_add (L := 0) (U := 30) (q_rg_div (c := 16) (U := 15) (q_rf23_0 hI) (by decide) rfl (by decide) (by decide)) (q_rg_div (c := 16) (U := 15) ra1 (by decide) rfl (by decide) (by decide)) (by decide) (by decide) (by decide) (by decide)) (q_rg_lit (n := 1) (x := 1) rfl) (by decide) (by decide) (by decide) (by decide)) (by decide) (by decide)))
    | false =>
      have g899 := (q_rg_ltF2 (l2 := 0) (u := 9) h897 (q_rg_lit (n := 9) (x := 9) rfl) j892)
      refine q_S_F ?_
      exact q_E_x (dzp_N154_87_64 (r2) j893 (x1) (((s.2.1 23 0) / 16) + (a1 / 16)) (q_rg_le (L := 0) (U := 21) g899 (by decide) (by decide)) (q_rg_le (L := 0) (U := 31) (q_rg_add (L := 0) (U := 30) (q_rg_div (c := 16) (U := 15) (q_rf23_0 hI) (by decide) rfl (by decide) (by decide)) (q_rg_div (c := 16) (U := 15) ra1 (by decide) rfl (by decide) (by decide)) (by decide) (by decide) (by decide) (by decide)) (by decide) (by decide)))
set_option maxHeartbeats 4000000 in
theorem dzp_N155_87_68  {u K : Int} {t : Int64} {l : Int32} (s : q_S) (hI : q_iY u t l K s) (v3 : Int32) (v4 : Int32) (rv3 : q_rgz (-6) 15 v3) (rv4 : q_rgz (-16) 15 v4) : (q_iY u t l K) (dz_N155_87_68 s v3 v4) := by
  refine q_S_of (P := (q_iY u t l K)) ?_
  unfold dz_N155_87_68
  cases h923 : decide (v4 < 0) with
  | true =>
    have g924 := (q_rg_ltT1 (l := -16) (U := -1) h923 rv4 (q_rg_lit (n := 0) (x := 0) rfl) (by decide))
    refine q_S_T ?_
    have j925 := dzp_N149_87_f (s) hI (1)
    refine q_S_L ?_
    generalize dz_N149_87_f s 1 = r3 at j925 ⊢
    have j926 := dzp_N150_87 (r3) j925 (((16 * (v4 + 10)) + v3) &&& 255) (q_rg_le (L := 0) (U := 255) (q_rg_and ((16 * (v4 + 10)) + v3) 255 (U := 255) (by decide) rfl) (by decide) (by decide))
    refine q_S_L ?_
    generalize dz_N150_87 r3 (((16 * (v4 + 10)) + v3) &&& 255) = r4 at j926 ⊢
    exact q_E_x (q_iY_F0 j926.1 (q_rg_le (L := 0) (U := 255) j926.2 (by decide) (by decide)))
  | false =>
    have g927 := (q_rg_ltF1 (l2 := 0) (u := 15) h923 rv4 (q_rg_lit (n := 0) (x := 0) rfl))
    refine q_S_F ?_
    have j928 := dzp_N149_87_t (s) hI (1) (q_rg_le (L := 0) (U := 255) (q_rg_lit (n := 1) (x := 1) rfl) (by decide) (by decide))
    refine q_S_L ?_
    generalize dz_N149_87_t s 1 = r5 at j928 ⊢
    have j929 := dzp_N150_87 (r5) j928 (((16 * v4) + v3) &&& 255) (q_rg_le (L := 0) (U := 255) (q_rg_and ((16 * v4) + v3) 255 (U := 255) (by decide) rfl) (by decide) (by decide))
    refine q_S_L ?_
    generalize dz_N150_87 r5 (((16 * v4) + v3) &&& 255) = r6 at j929 ⊢
    exact q_E_x (q_iY_F0 j929.1 (q_rg_le (L := 0) (U := 255) j929.2 (by decide) (by decide)))
set_option maxHeartbeats 4000000 in
theorem dzp_N155_87  {u K : Int} {t : Int64} {l : Int32} (s : q_S) (hI : q_iY u t l K s) (a1 : Int32) (ra1 : q_rgz 0 255 a1) : (q_iY u t l K) (dz_N155_87 s a1) := by
  refine q_S_of (P := (q_iY u t l K)) ?_
  unfold dz_N155_87
  have j930 : q_rgz (-16) 15 (((((s.2.1 23 0) - (s.2.1 23 0) / 16 * 16) - (a1 - a1 / 16 * 16)) - 1) + ((s.2.1 23 5) &&& 1)) := (q_rg_add (L := -16) (U := 15) (q_rg_sub (L := -16) (U := 14) (q_rg_sub (L := -15) (U := 15) (q_rg_rem (c := 16) (U := 15) (q_rf23_0 hI) (by decide) rfl (by decide) (by decide)) (q_rg_rem (c := 16) (U := 15) ra1 (by decide) rfl (by decide) (by decide)) (by decide) (by decide) (by decide) (by decide)) (q_rg_lit (n := 1) (x := 1) rfl) (by decide) (by decide) (by decide) (by decide)) (q_rg_and (s.2.1 23 5) 1 (U := 1) (by decide) rfl) (by decide) (by decide) (by decide) (by decide))
  refine q_S_L ?_
  generalize (((((s.2.1 23 0) - (s.2.1 23 0) / 16 * 16) - (a1 - a1 / 16 * 16)) - 1) + ((s.2.1 23 5) &&& 1)) = x1 at j930 ⊢
  have j931 := dzp_N156_87 (s) hI ((255 : Int32) - a1) (q_rg_le (L := 0) (U := 255) (q_rg_sub (L := 0) (U := 255) (q_rg_lit (n := 255) (x := 255) rfl) ra1 (by decide) (by decide) (by decide) (by decide)) (by decide) (by decide))
  refine q_S_L ?_
  generalize dz_N156_87 s ((255 : Int32) - a1) = r2 at j931 ⊢
  cases h932 : decide ((r2.2.1 23 5) &&& 8 = 0) with
  | true =>
    have g933 := q_rg_eqT h932 (q_rg_lit (n := 0) (x := 0) rfl)
    refine q_S_T ?_
    exact q_E_x j931
  | false =>
    have g934 := (q_rg_neL (l := 0) (u := 8) (n := 0) (L := 1) h932 (q_rg_and (r2.2.1 23 5) 8 (U := 8) (by decide) rfl) rfl (by decide) (by decide))
    refine q_S_F ?_
    cases h935 : decide (x1 < 0) with
    | true =>
      have g936 := (q_rg_ltT1 (l := -16) (U := -1) h935 j930 (q_rg_lit (n := 0) (x := 0) rfl) (by decide))
      refine q_S_T ?_
      exact q_E_x (dzp_N155_87_68 (r2) j931 (x1 + 10) ((((s.2.1 23 0) / 16) - (a1 / 16)) + (-1)) (q_rg_le (L := -6) (U := 15) (q_rg_add (L := -6) (U := 9) g936 (q_rg_lit (n := 10) (x := 10) rfl) (by decide) (by decide) (by decide) (by decide)) (by decide) (by decide)) (q_rg_le (L := -16) (U := 15) (q_rg_add (L := -16) (U := 14) (q_rg_sub (L := -15) (U := 15) (q_rg_div (c := 16) (U := 15) (q_rf23_0 hI) (by decide) rfl (by decide) (by decide)) (q_rg_div (c := 16) (U := 15) ra1 (by decide) rfl (by decide) (by decide)) (by decide) (by decide) (by decide) (by decide)) (q_rg_lit (n := -1) (x := -1) rfl) (by decide) (by decide) (by decide) (by decide)) (by decide) (by decide)))
    | false =>
      have g937 := (q_rg_ltF1 (l2 := 0) (u := 15) h935 j930 (q_rg_lit (n := 0) (x := 0) rfl))
      refine q_S_F ?_
      exact q_E_x (dzp_N155_87_68 (r2) j931 (x1) (((s.2.1 23 0) / 16) - (a1 / 16)) (q_rg_le (L := -6) (U := 15) g937 (by decide) (by decide)) (q_rg_le (L := -16) (U := 15) (q_rg_sub (L := -15) (U := 15) (q_rg_div (c := 16) (U := 15) (q_rf23_0 hI) (by decide) rfl (by decide) (by decide)) (q_rg_div (c := 16) (U := 15) ra1 (by decide) rfl (by decide) (by decide)) (by decide) (by decide) (by decide) (by decide)) (by decide) (by decide)))
set_option maxHeartbeats 4000000 in
theorem dzp_N151_87  {u K : Int} {t : Int64} {l : Int32} (s : q_S) (hI : q_iY u t l K s) (a1 : Int32) (a2 : Int32) (ra1 : q_rgz 0 255 a1) (ra2 : q_rgz 0 255 a2) : (q_iY u t l K) (dz_N151_87 s a1 a2) := by
  refine q_S_of (P := (q_iY u t l K)) ?_
  unfold dz_N151_87
  cases h945 : decide (a1 < a2) with
  | true =>
    have g946 := (q_rg_ltT1 (l := 0) (U := 254) h945 ra1 ra2 (by decide))
    have g947 := (q_rg_ltT2 (L := 1) (u2 := 255) h945 ra1 ra2 (by decide))
    refine q_S_T ?_
    have j948 := dzp_N149_87_f (s) hI (1)
    refine q_S_L ?_
    generalize dz_N149_87_f s 1 = r1 at j948 ⊢
    have j949 := dzp_N150_87 (r1) j948 ((a1 - a2) &&& 255) (q_rg_le (L := 0) (U := 255) (q_rg_and (a1 - a2) 255 (U := 255) (by decide) rfl) (by decide) (by decide))
    refine q_S_L ?_
    generalize dz_N150_87 r1 ((a1 - a2) &&& 255) = r2 at j949 ⊢
    exact q_E_x j949.1
  | false =>
    refine q_S_F ?_
    have j950 := dzp_N149_87_t (s) hI (1) (q_rg_le (L := 0) (U := 255) (q_rg_lit (n := 1) (x := 1) rfl) (by decide) (by decide))
    refine q_S_L ?_
    generalize dz_N149_87_t s 1 = r3 at j950 ⊢
    have j951 := dzp_N150_87 (r3) j950 ((a1 - a2) &&& 255) (q_rg_le (L := 0) (U := 255) (q_rg_and (a1 - a2) 255 (U := 255) (by decide) rfl) (by decide) (by decide))
    refine q_S_L ?_
    generalize dz_N150_87 r3 ((a1 - a2) &&& 255) = r4 at j951 ⊢
    exact q_E_x j951.1
set_option maxHeartbeats 4000000 in
theorem dzp_N152_87  {u K : Int} {t : Int64} {l : Int32} (s : q_S) (hI : q_iY u t l K s) (a1 : Int32) (a2 : Int32) (ra2 : q_rgz 0 255 a2) : (q_iY u t l K) (dz_N152_87 s a1 a2) := by
  refine q_S_of (P := (q_iY u t l K)) ?_
  unfold dz_N152_87
  cases h1065 : decide (a1 < 0) with
  | true =>
    have g1066 := (q_rg_ltT1 (l := -2147483648) (U := -1) h1065 (q_rg_full _) (q_rg_lit (n := 0) (x := 0) rfl) (by decide))
    refine q_S_T ?_
    exact q_E_x hI
  | false =>
    have g1067 := (q_rg_ltF1 (l2 := 0) (u := 2147483647) h1065 (q_rg_full _) (q_rg_lit (n := 0) (x := 0) rfl))
    refine q_S_F ?_
    cases h1068 : decide (20 < a1) with
    | true =>
      have g1069 := (q_rg_ltT2 (L := 21) (u2 := 2147483647) h1068 (q_rg_lit (n := 20) (x := 20) rfl) g1067 (by decide))
      refine q_S_T ?_
      exact q_E_x hI
    | false =>
      have g1070 := (q_rg_ltF2 (l2 := 0) (u := 20) h1068 (q_rg_lit (n := 20) (x := 20) rfl) g1067)
      refine q_S_F ?_
      cases h1071 : decide (a1 = 0) with
      | true =>
        have g1072 := q_rg_eqT h1071 (q_rg_lit (n := 0) (x := 0) rfl)
        refine q_S_T ?_
        have j1073 := dzp_N150_87 (s) hI (a2) (q_rg_le (L := 0) (U := 255) ra2 (by decide) (by decide))
        refine q_S_L ?_
        generalize dz_N150_87 s a2 = r1 at j1073 ⊢
        exact q_E_x (q_iY_F0 j1073.1 (q_rg_le (L := 0) (U := 255) j1073.2 (by decide) (by decide)))
      | false =>
        have g1074 := (q_rg_neL (l := 0) (u := 20) (n := 0) (L := 1) h1071 g1070 rfl (by decide) (by decide))
        refine q_S_F ?_
        cases h1075 : decide (a1 = 1) with
        | true =>
          have g1076 := q_rg_eqT h1075 (q_rg_lit (n := 1) (x := 1) rfl)
          refine q_S_T ?_
          have j1077 := dzp_N150_87 (s) hI (a2) (q_rg_le (L := 0) (U := 255) ra2 (by decide) (by decide))
          refine q_S_L ?_
          generalize dz_N150_87 s a2 = r2 at j1077 ⊢
          exact q_E_x (q_iY_F1 j1077.1 (q_rg_le (L := 0) (U := 255) j1077.2 (by decide) (by decide)))
        | false =>
          have g1078 := (q_rg_neL (l := 1) (u := 20) (n := 1) (L := 2) h1075 g1074 rfl (by decide) (by decide))
          refine q_S_F ?_
          cases h1079 : decide (a1 = 2) with
          | true =>
            have g1080 := q_rg_eqT h1079 (q_rg_lit (n := 2) (x := 2) rfl)
            refine q_S_T ?_
            have j1081 := dzp_N150_87 (s) hI (a2) (q_rg_le (L := 0) (U := 255) ra2 (by decide) (by decide))
            refine q_S_L ?_
            generalize dz_N150_87 s a2 = r3 at j1081 ⊢
            exact q_E_x (q_iY_F2 j1081.1 (q_rg_le (L := 0) (U := 255) j1081.2 (by decide) (by decide)))
          | false =>
            have g1082 := (q_rg_neL (l := 2) (u := 20) (n := 2) (L := 3) h1079 g1078 rfl (by decide) (by decide))
            refine q_S_F ?_
            cases h1083 : decide (a1 = 3) with
            | true =>
              have g1084 := q_rg_eqT h1083 (q_rg_lit (n := 3) (x := 3) rfl)
              refine q_S_T ?_
              exact q_E_x hI
            | false =>
              have g1085 := (q_rg_neL (l := 3) (u := 20) (n := 3) (L := 4) h1083 g1082 rfl (by decide) (by decide))
              refine q_S_F ?_
              cases h1086 : decide (a1 = 4) with
              | true =>
                have g1087 := q_rg_eqT h1086 (q_rg_lit (n := 4) (x := 4) rfl)
                refine q_S_T ?_
                exact q_E_x hI
              | false =>
                have g1088 := (q_rg_neL (l := 4) (u := 20) (n := 4) (L := 5) h1086 g1085 rfl (by decide) (by decide))
                refine q_S_F ?_
                cases h1089 : decide (a1 = 5) with
                | true =>
                  have g1090 := q_rg_eqT h1089 (q_rg_lit (n := 5) (x := 5) rfl)
                  refine q_S_T ?_
                  exact q_E_x hI
                | false =>
                  have g1091 := (q_rg_neL (l := 5) (u := 20) (n := 5) (L := 6) h1089 g1088 rfl (by decide) (by decide))
                  refine q_S_F ?_
                  cases h1092 : decide (a1 = 6) with
                  | true =>
                    have g1093 := q_rg_eqT h1092 (q_rg_lit (n := 6) (x := 6) rfl)
                    refine q_S_T ?_
                    have j1094 := dzp_N154_87 (s) hI (a2) (q_rg_le (L := 0) (U := 255) ra2 (by decide) (by decide))
                    refine q_S_L ?_
                    generalize dz_N154_87 s a2 = r4 at j1094 ⊢
                    exact q_E_x j1094
                  | false =>
                    have g1095 := (q_rg_neL (l := 6) (u := 20) (n := 6) (L := 7) h1092 g1091 rfl (by decide) (by decide))
                    refine q_S_F ?_
                    cases h1096 : decide (a1 = 7) with
                    | true =>
                      have g1097 := q_rg_eqT h1096 (q_rg_lit (n := 7) (x := 7) rfl)
                      refine q_S_T ?_
                      have j1098 := dzp_N155_87 (s) hI (a2) (q_rg_le (L := 0) (U := 255) ra2 (by decide) (by decide))
                      refine q_S_L ?_
                      generalize dz_N155_87 s a2 = r5 at j1098 ⊢
                      exact q_E_x j1098
                    | false =>
                      have g1099 := (q_rg_neL (l := 7) (u := 20) (n := 7) (L := 8) h1096 g1095 rfl (by decide) (by decide))
                      refine q_S_F ?_
                      cases h1100 : decide (a1 = 8) with
                      | true =>
                        have g1101 := q_rg_eqT h1100 (q_rg_lit (n := 8) (x := 8) rfl)
                        refine q_S_T ?_
                        have j1102 := dzp_N150_87 (s) hI ((s.2.1 23 0) &&& a2) (q_rg_le (L := 0) (U := 255) (q_rg_and1 (q_rf23_0 hI) (by decide)) (by decide) (by decide))
                        refine q_S_L ?_
                        generalize dz_N150_87 s ((s.2.1 23 0) &&& a2) = r6 at j1102 ⊢
                        exact q_E_x (q_iY_F0 j1102.1 (q_rg_le (L := 0) (U := 255) j1102.2 (by decide) (by decide)))
                      | false =>
                        have g1103 := (q_rg_neL (l := 8) (u := 20) (n := 8) (L := 9) h1100 g1099 rfl (by decide) (by decide))
                        refine q_S_F ?_
                        cases h1104 : decide (a1 = 9) with
                        | true =>
                          have g1105 := q_rg_eqT h1104 (q_rg_lit (n := 9) (x := 9) rfl)
                          refine q_S_T ?_
                          have j1106 := dzp_N150_87 (s) hI ((s.2.1 23 0) ||| a2) (q_rg_le (L := 0) (U := 255) (q_rg_or (n := 8) (W := 255) (q_rf23_0 hI) ra2 (by decide) (by decide) (by decide) (by decide) (by decide)) (by decide) (by decide))
                          refine q_S_L ?_
                          generalize dz_N150_87 s ((s.2.1 23 0) ||| a2) = r7 at j1106 ⊢
                          exact q_E_x (q_iY_F0 j1106.1 (q_rg_le (L := 0) (U := 255) j1106.2 (by decide) (by decide)))
                        | false =>
                          have g1107 := (q_rg_neL (l := 9) (u := 20) (n := 9) (L := 10) h1104 g1103 rfl (by decide) (by decide))
                          refine q_S_F ?_
                          cases h1108 : decide (a1 = 10) with
                          | true =>
                            have g1109 := q_rg_eqT h1108 (q_rg_lit (n := 10) (x := 10) rfl)
                            refine q_S_T ?_
                            have j1110 := dzp_N150_87 (s) hI ((s.2.1 23 0) ^^^ a2) (q_rg_le (L := 0) (U := 255) (q_rg_xor (n := 8) (W := 255) (q_rf23_0 hI) ra2 (by decide) (by decide) (by decide) (by decide) (by decide)) (by decide) (by decide))
                            refine q_S_L ?_
                            generalize dz_N150_87 s ((s.2.1 23 0) ^^^ a2) = r8 at j1110 ⊢
                            exact q_E_x (q_iY_F0 j1110.1 (q_rg_le (L := 0) (U := 255) j1110.2 (by decide) (by decide)))
                          | false =>
                            have g1111 := (q_rg_neL (l := 10) (u := 20) (n := 10) (L := 11) h1108 g1107 rfl (by decide) (by decide))
                            refine q_S_F ?_
                            cases h1112 : decide (a1 = 11) with
                            | true =>
                              have g1113 := q_rg_eqT h1112 (q_rg_lit (n := 11) (x := 11) rfl)
                              refine q_S_T ?_
                              have j1114 := dzp_N151_87 (s) hI (s.2.1 23 0) (a2) (q_rg_le (L := 0) (U := 255) (q_rf23_0 hI) (by decide) (by decide)) (q_rg_le (L := 0) (U := 255) ra2 (by decide) (by decide))
                              refine q_S_L ?_
                              generalize dz_N151_87 s (s.2.1 23 0) a2 = r9 at j1114 ⊢
                              exact q_E_x j1114
                            | false =>
                              have g1115 := (q_rg_neL (l := 11) (u := 20) (n := 11) (L := 12) h1112 g1111 rfl (by decide) (by decide))
                              refine q_S_F ?_
                              cases h1116 : decide (a1 = 12) with
                              | true =>
                                have g1117 := q_rg_eqT h1116 (q_rg_lit (n := 12) (x := 12) rfl)
                                refine q_S_T ?_
                                have j1118 := dzp_N151_87 (s) hI (s.2.1 23 1) (a2) (q_rg_le (L := 0) (U := 255) (q_rf23_1 hI) (by decide) (by decide)) (q_rg_le (L := 0) (U := 255) ra2 (by decide) (by decide))
                                refine q_S_L ?_
                                generalize dz_N151_87 s (s.2.1 23 1) a2 = r10 at j1118 ⊢
                                exact q_E_x j1118
                              | false =>
                                have g1119 := (q_rg_neL (l := 12) (u := 20) (n := 12) (L := 13) h1116 g1115 rfl (by decide) (by decide))
                                refine q_S_F ?_
                                cases h1120 : decide (a1 = 13) with
                                | true =>
                                  have g1121 := q_rg_eqT h1120 (q_rg_lit (n := 13) (x := 13) rfl)
                                  refine q_S_T ?_
                                  have j1122 := dzp_N151_87 (s) hI (s.2.1 23 2) (a2) (q_rg_le (L := 0) (U := 255) (q_rf23_2 hI) (by decide) (by decide)) (q_rg_le (L := 0) (U := 255) ra2 (by decide) (by decide))
                                  refine q_S_L ?_
                                  generalize dz_N151_87 s (s.2.1 23 2) a2 = r11 at j1122 ⊢
                                  exact q_E_x j1122
                                | false =>
                                  have g1123 := (q_rg_neL (l := 13) (u := 20) (n := 13) (L := 14) h1120 g1119 rfl (by decide) (by decide))
                                  refine q_S_F ?_
                                  cases h1124 : decide (a1 = 14) with
                                  | true =>
                                    have g1125 := q_rg_eqT h1124 (q_rg_lit (n := 14) (x := 14) rfl)
                                    refine q_S_T ?_
                                    exact q_E_x hI
                                  | false =>
                                    have g1126 := (q_rg_neL (l := 14) (u := 20) (n := 14) (L := 15) h1124 g1123 rfl (by decide) (by decide))
                                    refine q_S_F ?_
                                    cases h1127 : decide (a1 = 15) with
                                    | true =>
                                      have g1128 := q_rg_eqT h1127 (q_rg_lit (n := 15) (x := 15) rfl)
                                      refine q_S_T ?_
                                      exact q_E_x hI
                                    | false =>
                                      have g1129 := (q_rg_neL (l := 15) (u := 20) (n := 15) (L := 16) h1127 g1126 rfl (by decide) (by decide))
                                      refine q_S_F ?_
                                      cases h1130 : decide (a1 = 16) with
                                      | true =>
                                        have g1131 := q_rg_eqT h1130 (q_rg_lit (n := 16) (x := 16) rfl)
                                        refine q_S_T ?_
                                        have j1132 := dzp_N150_87 (s) hI (a2) (q_rg_le (L := 0) (U := 255) ra2 (by decide) (by decide))
                                        refine q_S_L ?_
                                        generalize dz_N150_87 s a2 = r12 at j1132 ⊢
                                        exact q_E_x (q_iY_F0 (q_iY_F1 j1132.1 (q_rg_le (L := 0) (U := 255) j1132.2 (by decide) (by decide))) (q_rg_le (L := 0) (U := 255) ra2 (by decide) (by decide)))
                                      | false =>
                                        have g1133 := (q_rg_neL (l := 16) (u := 20) (n := 16) (L := 17) h1130 g1129 rfl (by decide) (by decide))
                                        refine q_S_F ?_
                                        cases h1134 : decide (a1 = 17) with
                                        | true =>
                                          have g1135 := q_rg_eqT h1134 (q_rg_lit (n := 17) (x := 17) rfl)
                                          refine q_S_T ?_
                                          exact q_E_x hI
                                        | false =>
                                          have g1136 := (q_rg_neL (l := 17) (u := 20) (n := 17) (L := 18) h1134 g1133 rfl (by decide) (by decide))
                                          refine q_S_F ?_
                                          cases h1137 : decide (a1 = 18) with
                                          | true =>
                                            have g1138 := q_rg_eqT h1137 (q_rg_lit (n := 18) (x := 18) rfl)
                                            refine q_S_T ?_
                                            exact q_E_x hI
                                          | false =>
                                            have g1139 := (q_rg_neL (l := 18) (u := 20) (n := 18) (L := 19) h1137 g1136 rfl (by decide) (by decide))
                                            refine q_S_F ?_
                                            cases h1140 : decide (a1 = 19) with
                                            | true =>
                                              have g1141 := q_rg_eqT h1140 (q_rg_lit (n := 19) (x := 19) rfl)
                                              refine q_S_T ?_
                                              exact q_E_x hI
                                            | false =>
                                              have g1142 := (q_rg_neL (l := 19) (u := 20) (n := 19) (L := 20) h1140 g1139 rfl (by decide) (by decide))
                                              refine q_S_F ?_
                                              cases h1143 : decide ((s.2.1 23 0) &&& a2 = 0) with
                                              | true =>
                                                have g1144 := q_rg_eqT h1143 (q_rg_lit (n := 0) (x := 0) rfl)
                                                refine q_S_T ?_
                                                have j1145 := dzp_N149_87_t (s) hI (2) (q_rg_le (L := 0) (U := 255) (q_rg_lit (n := 2) (x := 2) rfl) (by decide) (by decide))
                                                refine q_S_L ?_
                                                generalize dz_N149_87_t s 2 = r13 at j1145 ⊢
                                                cases h1146 : decide (a2 &&& 128 = 0) with
                                                | true =>
                                                  have g1147 := q_rg_eqT h1146 (q_rg_lit (n := 0) (x := 0) rfl)
                                                  refine q_S_T ?_
                                                  have j1148 := dzp_N149_87_f (r13) j1145 (128)
                                                  refine q_S_L ?_
                                                  generalize dz_N149_87_f r13 128 = r14 at j1148 ⊢
                                                  cases h1149 : decide (a2 &&& 64 = 0) with
                                                  | true =>
                                                    have g1150 := q_rg_eqT h1149 (q_rg_lit (n := 0) (x := 0) rfl)
                                                    refine q_S_T ?_
                                                    have j1151 := dzp_N149_87_f (r14) j1148 (64)
                                                    refine q_S_L ?_
                                                    generalize dz_N149_87_f r14 64 = r15 at j1151 ⊢
                                                    exact q_E_x j1151
                                                  | false =>
                                                    have g1152 := (q_rg_neL (l := 0) (u := 64) (n := 0) (L := 1) h1149 (q_rg_and a2 64 (U := 64) (by decide) rfl) rfl (by decide) (by decide))
                                                    refine q_S_F ?_
                                                    have j1153 := dzp_N149_87_t (r14) j1148 (64) (q_rg_le (L := 0) (U := 255) (q_rg_lit (n := 64) (x := 64) rfl) (by decide) (by decide))
                                                    refine q_S_L ?_
                                                    generalize dz_N149_87_t r14 64 = r16 at j1153 ⊢
                                                    exact q_E_x j1153
                                                | false =>
                                                  have g1154 := (q_rg_neL (l := 0) (u := 128) (n := 0) (L := 1) h1146 (q_rg_and a2 128 (U := 128) (by decide) rfl) rfl (by decide) (by decide))
                                                  refine q_S_F ?_
                                                  have j1155 := dzp_N149_87_t (r13) j1145 (128) (q_rg_le (L := 0) (U := 255) (q_rg_lit (n := 128) (x := 128) rfl) (by decide) (by decide))
                                                  refine q_S_L ?_
                                                  generalize dz_N149_87_t r13 128 = r17 at j1155 ⊢
                                                  cases h1156 : decide (a2 &&& 64 = 0) with
                                                  | true =>
                                                    have g1157 := q_rg_eqT h1156 (q_rg_lit (n := 0) (x := 0) rfl)
                                                    refine q_S_T ?_
                                                    have j1158 := dzp_N149_87_f (r17) j1155 (64)
                                                    refine q_S_L ?_
                                                    generalize dz_N149_87_f r17 64 = r18 at j1158 ⊢
                                                    exact q_E_x j1158
                                                  | false =>
                                                    have g1159 := (q_rg_neL (l := 0) (u := 64) (n := 0) (L := 1) h1156 (q_rg_and a2 64 (U := 64) (by decide) rfl) rfl (by decide) (by decide))
                                                    refine q_S_F ?_
                                                    have j1160 := dzp_N149_87_t (r17) j1155 (64) (q_rg_le (L := 0) (U := 255) (q_rg_lit (n := 64) (x := 64) rfl) (by decide) (by decide))
                                                    refine q_S_L ?_
                                                    generalize dz_N149_87_t r17 64 = r19 at j1160 ⊢
                                                    exact q_E_x j1160
                                              | false =>
                                                have g1161 := (q_rg_neL (l := 0) (u := 255) (n := 0) (L := 1) h1143 (q_rg_and1 (q_rf23_0 hI) (by decide)) rfl (by decide) (by decide))
                                                refine q_S_F ?_
                                                have j1162 := dzp_N149_87_f (s) hI (2)
                                                refine q_S_L ?_
                                                generalize dz_N149_87_f s 2 = r20 at j1162 ⊢
                                                cases h1163 : decide (a2 &&& 128 = 0) with
                                                | true =>
                                                  have g1164 := q_rg_eqT h1163 (q_rg_lit (n := 0) (x := 0) rfl)
                                                  refine q_S_T ?_
                                                  have j1165 := dzp_N149_87_f (r20) j1162 (128)
                                                  refine q_S_L ?_
                                                  generalize dz_N149_87_f r20 128 = r21 at j1165 ⊢
                                                  cases h1166 : decide (a2 &&& 64 = 0) with
                                                  | true =>
                                                    have g1167 := q_rg_eqT h1166 (q_rg_lit (n := 0) (x := 0) rfl)
                                                    refine q_S_T ?_
                                                    have j1168 := dzp_N149_87_f (r21) j1165 (64)
                                                    refine q_S_L ?_
                                                    generalize dz_N149_87_f r21 64 = r22 at j1168 ⊢
                                                    exact q_E_x j1168
                                                  | false =>
                                                    have g1169 := (q_rg_neL (l := 0) (u := 64) (n := 0) (L := 1) h1166 (q_rg_and a2 64 (U := 64) (by decide) rfl) rfl (by decide) (by decide))
                                                    refine q_S_F ?_
                                                    have j1170 := dzp_N149_87_t (r21) j1165 (64) (q_rg_le (L := 0) (U := 255) (q_rg_lit (n := 64) (x := 64) rfl) (by decide) (by decide))
                                                    refine q_S_L ?_
                                                    generalize dz_N149_87_t r21 64 = r23 at j1170 ⊢
                                                    exact q_E_x j1170
                                                | false =>
                                                  have g1171 := (q_rg_neL (l := 0) (u := 128) (n := 0) (L := 1) h1163 (q_rg_and a2 128 (U := 128) (by decide) rfl) rfl (by decide) (by decide))
                                                  refine q_S_F ?_
                                                  have j1172 := dzp_N149_87_t (r20) j1162 (128) (q_rg_le (L := 0) (U := 255) (q_rg_lit (n := 128) (x := 128) rfl) (by decide) (by decide))
                                                  refine q_S_L ?_
                                                  generalize dz_N149_87_t r20 128 = r24 at j1172 ⊢
                                                  cases h1173 : decide (a2 &&& 64 = 0) with
                                                  | true =>
                                                    have g1174 := q_rg_eqT h1173 (q_rg_lit (n := 0) (x := 0) rfl)
                                                    refine q_S_T ?_
                                                    have j1175 := dzp_N149_87_f (r24) j1172 (64)
                                                    refine q_S_L ?_
                                                    generalize dz_N149_87_f r24 64 = r25 at j1175 ⊢
                                                    exact q_E_x j1175
                                                  | false =>
                                                    have g1176 := (q_rg_neL (l := 0) (u := 64) (n := 0) (L := 1) h1173 (q_rg_and a2 64 (U := 64) (by decide) rfl) rfl (by decide) (by decide))
                                                    refine q_S_F ?_
                                                    have j1177 := dzp_N149_87_t (r24) j1172 (64) (q_rg_le (L := 0) (U := 255) (q_rg_lit (n := 64) (x := 64) rfl) (by decide) (by decide))
                                                    refine q_S_L ?_
                                                    generalize dz_N149_87_t r24 64 = r26 at j1177 ⊢
                                                    exact q_E_x j1177
set_option maxHeartbeats 4000000 in
theorem dzp_N144_87_65  {u K : Int} {t : Int64} {l : Int32} (s : q_S) (hI : q_iY u t l K s) (a2 : Int32) : q_Ex (dz_N144_87_65 s a2) (fun x => q_rgz 0 4095 x) := by
  unfold dz_N144_87_65
  obtain ⟨r2, e1182, j1181⟩ := dzp_N145_87_65 (s) hI (a2)
  rw [e1182]
  refine q_E_B ?_
  have j1183 := dzp_N143_87 (s) hI (a2)
  refine q_E_L ?_
  generalize dz_N143_87 s a2 = r3 at j1183 ⊢
  exact q_E_x (q_rg_le (q_rg_and (r2 + r3) 4095 (U := 4095) (by decide) rfl) (by decide) (by decide))
set_option maxHeartbeats 4000000 in
theorem dzp_N93_65  {u K : Int} {t : Int64} {l : Int32} (s : q_S) (hI : q_iY u t l K s) (a1 : Int32) (ra1 : q_rgz 0 4095 a1) : q_Ex (dz_N93_65 s a1) (fun (x : q_S × Int32) => q_iY u t l K x.1 ∧ q_rgz 0 255 x.2) := by
  unfold dz_N93_65
  obtain ⟨r2, e1191, j1190⟩ := dzp_N90_65 (s) hI (a1) (q_rg_le (L := 0) (U := 4095) ra1 (by decide) (by decide))
  rw [e1191]
  refine q_E_B ?_
  cases h1192 : decide (a1 = 3869) with
  | true =>
    have g1193 := q_rg_eqT h1192 (q_rg_lit (n := 3869) (x := 3869) rfl)
    refine q_E_T ?_
    exact q_E_x ⟨(q_iY_A4 hI q_D29), q_rg_le j1190 (by decide) (by decide)⟩
  | false =>
    refine q_E_F ?_
    cases h1194 : decide (a1 = 3870) with
    | true =>
      have g1195 := q_rg_eqT h1194 (q_rg_lit (n := 3870) (x := 3870) rfl)
      refine q_E_T ?_
      exact q_E_x ⟨(q_iY_A4 hI q_D30), q_rg_le j1190 (by decide) (by decide)⟩
    | false =>
      refine q_E_F ?_
      exact q_E_x ⟨hI, q_rg_le j1190 (by decide) (by decide)⟩
set_option maxHeartbeats 4000000 in
theorem dzp_N153_87_65_101  {u K : Int} {t : Int64} {l : Int32} (s : q_S) (hI : q_iY u t l K s) (v2 : Int32) (v3 : Int32) (rv2 : q_rgz 14 19 v2) (rv3 : q_rgz 0 4095 v3) : q_Ex (dz_N153_87_65_101 s v2 v3) (q_iY u t l (K + 1)) := by
  unfold dz_N153_87_65_101
  obtain ⟨r6, e1265, j1264⟩ := dzp_N93_65 (s) hI (v3) (q_rg_le (L := 0) (U := 4095) rv3 (by decide) (by decide))
  rw [e1265]
  refine q_E_B ?_
  obtain ⟨r7, e1267, j1266⟩ := dzp_N94_65 (r6.1) j1264.1 (v3) ((r6.2 + 1) &&& 255) (q_rg_le (L := 0) (U := 4095) rv3 (by decide) (by decide)) (q_rg_le (L := 0) (U := 255) (q_rg_and (r6.2 + 1) 255 (U := 255) (by decide) rfl) (by decide) (by decide))
  rw [e1267]
  refine q_E_B ?_
  cases h1268 : decide (v2 = 18) with
  | true =>
    have g1269 := q_rg_eqT h1268 (q_rg_lit (n := 18) (x := 18) rfl)
    refine q_E_T ?_
    have j1270 := dzp_N151_87 (r7) j1266 (r7.2.1 23 0) ((r6.2 + 1) &&& 255) (q_rg_le (L := 0) (U := 255) (q_rf23_0 j1266) (by decide) (by decide)) (q_rg_le (L := 0) (U := 255) (q_rg_and (r6.2 + 1) 255 (U := 255) (by decide) rfl) (by decide) (by decide))
    refine q_E_L ?_
    generalize dz_N151_87 r7 (r7.2.1 23 0) ((r6.2 + 1) &&& 255) = r8 at j1270 ⊢
    exact q_E_x (q_iY_le j1270 (by omega))
  | false =>
    refine q_E_F ?_
    cases h1271 : decide (v2 = 19) with
    | true =>
      have g1272 := q_rg_eqT h1271 (q_rg_lit (n := 19) (x := 19) rfl)
      refine q_E_T ?_
      have j1273 := dzp_N155_87 (r7) j1266 ((r6.2 + 1) &&& 255) (q_rg_le (L := 0) (U := 255) (q_rg_and (r6.2 + 1) 255 (U := 255) (by decide) rfl) (by decide) (by decide))
      refine q_E_L ?_
      generalize dz_N155_87 r7 ((r6.2 + 1) &&& 255) = r9 at j1273 ⊢
      exact q_E_x (q_iY_le j1273 (by omega))
    | false =>
      have g1274 := (q_rg_neU (l := 14) (u := 19) (n := 19) (U := 18) h1271 rv2 rfl (by decide) (by decide))
      refine q_E_F ?_
      have j1275 := dzp_N150_87 (r7) j1266 ((r6.2 + 1) &&& 255) (q_rg_le (L := 0) (U := 255) (q_rg_and (r6.2 + 1) 255 (U := 255) (by decide) rfl) (by decide) (by decide))
      refine q_E_L ?_
      generalize dz_N150_87 r7 ((r6.2 + 1) &&& 255) = r10 at j1275 ⊢
      exact q_E_x (q_iY_le j1275.1 (by omega))
set_option maxHeartbeats 4000000 in
theorem dzp_N153_87_65  {u K : Int} {t : Int64} {l : Int32} (s : q_S) (hI : q_iY u t l K s) (a2 : Int32) (a3 : Int32) (ra3 : q_rgz 0 4095 a3) : q_Ex (dz_N153_87_65 s a2 a3) (q_iY u t l (K + 1)) := by
  unfold dz_N153_87_65
  cases h1276 : decide (a2 = 3) with
  | true =>
    have g1277 := q_rg_eqT h1276 (q_rg_lit (n := 3) (x := 3) rfl)
    refine q_E_T ?_
    obtain ⟨r2, e1279, j1278⟩ := dzp_N94_65 (s) hI (a3) (s.2.1 23 0) (q_rg_le (L := 0) (U := 4095) ra3 (by decide) (by decide)) (q_rg_le (L := 0) (U := 255) (q_rf23_0 hI) (by decide) (by decide))
    rw [e1279]
    refine q_E_B ?_
    exact q_E_x (q_iY_le j1278 (by omega))
  | false =>
    refine q_E_F ?_
    cases h1280 : decide (a2 = 4) with
    | true =>
      have g1281 := q_rg_eqT h1280 (q_rg_lit (n := 4) (x := 4) rfl)
      refine q_E_T ?_
      obtain ⟨r3, e1283, j1282⟩ := dzp_N94_65 (s) hI (a3) (s.2.1 23 1) (q_rg_le (L := 0) (U := 4095) ra3 (by decide) (by decide)) (q_rg_le (L := 0) (U := 255) (q_rf23_1 hI) (by decide) (by decide))
      rw [e1283]
      refine q_E_B ?_
      exact q_E_x (q_iY_le j1282 (by omega))
    | false =>
      refine q_E_F ?_
      cases h1284 : decide (a2 = 5) with
      | true =>
        have g1285 := q_rg_eqT h1284 (q_rg_lit (n := 5) (x := 5) rfl)
        refine q_E_T ?_
        obtain ⟨r4, e1287, j1286⟩ := dzp_N94_65 (s) hI (a3) (s.2.1 23 2) (q_rg_le (L := 0) (U := 4095) ra3 (by decide) (by decide)) (q_rg_le (L := 0) (U := 255) (q_rf23_2 hI) (by decide) (by decide))
        rw [e1287]
        refine q_E_B ?_
        exact q_E_x (q_iY_le j1286 (by omega))
      | false =>
        refine q_E_F ?_
        cases h1288 : decide (a2 = 17) with
        | true =>
          have g1289 := q_rg_eqT h1288 (q_rg_lit (n := 17) (x := 17) rfl)
          refine q_E_T ?_
          obtain ⟨r5, e1291, j1290⟩ := dzp_N94_65 (s) hI (a3) ((s.2.1 23 0) &&& (s.2.1 23 1)) (q_rg_le (L := 0) (U := 4095) ra3 (by decide) (by decide)) (q_rg_le (L := 0) (U := 255) (q_rg_and1 (q_rf23_0 hI) (by decide)) (by decide) (by decide))
          rw [e1291]
          refine q_E_B ?_
          exact q_E_x (q_iY_le j1290 (by omega))
        | false =>
          refine q_E_F ?_
          cases h1292 : decide (a2 = 14) with
          | true =>
            have g1293 := q_rg_eqT h1292 (q_rg_lit (n := 14) (x := 14) rfl)
            refine q_E_T ?_
            exact q_E_to (dzp_N153_87_65_101 (s) hI (a2) (a3) (q_rg_le (L := 14) (U := 19) g1293 (by decide) (by decide)) (q_rg_le (L := 0) (U := 4095) ra3 (by decide) (by decide))) (fun x hx => (q_iY_le hx (by omega)))
          | false =>
            refine q_E_F ?_
            cases h1294 : decide (a2 = 19) with
            | true =>
              have g1295 := q_rg_eqT h1294 (q_rg_lit (n := 19) (x := 19) rfl)
              refine q_E_T ?_
              exact q_E_to (dzp_N153_87_65_101 (s) hI (a2) (a3) (q_rg_le (L := 14) (U := 19) g1295 (by decide) (by decide)) (q_rg_le (L := 0) (U := 4095) ra3 (by decide) (by decide))) (fun x hx => (q_iY_le hx (by omega)))
            | false =>
              refine q_E_F ?_
              obtain ⟨r11, e1297, j1296⟩ := dzp_N93_65 (s) hI (a3) (q_rg_le (L := 0) (U := 4095) ra3 (by decide) (by decide))
              rw [e1297]
              refine q_E_B ?_
              obtain ⟨r12, e1299, j1298⟩ := dzp_N94_65 (r11.1) j1296.1 (a3) ((r11.2 + (-1)) &&& 255) (q_rg_le (L := 0) (U := 4095) ra3 (by decide) (by decide)) (q_rg_le (L := 0) (U := 255) (q_rg_and (r11.2 + (-1)) 255 (U := 255) (by decide) rfl) (by decide) (by decide))
              rw [e1299]
              refine q_E_B ?_
              cases h1300 : decide (a2 = 18) with
              | true =>
                have g1301 := q_rg_eqT h1300 (q_rg_lit (n := 18) (x := 18) rfl)
                refine q_E_T ?_
                have j1302 := dzp_N151_87 (r12) j1298 (r12.2.1 23 0) ((r11.2 + (-1)) &&& 255) (q_rg_le (L := 0) (U := 255) (q_rf23_0 j1298) (by decide) (by decide)) (q_rg_le (L := 0) (U := 255) (q_rg_and (r11.2 + (-1)) 255 (U := 255) (by decide) rfl) (by decide) (by decide))
                refine q_E_L ?_
                generalize dz_N151_87 r12 (r12.2.1 23 0) ((r11.2 + (-1)) &&& 255) = r13 at j1302 ⊢
                exact q_E_x (q_iY_le j1302 (by omega))
              | false =>
                refine q_E_F ?_
                have j1303 := dzp_N150_87 (r12) j1298 ((r11.2 + (-1)) &&& 255) (q_rg_le (L := 0) (U := 255) (q_rg_and (r11.2 + (-1)) 255 (U := 255) (by decide) rfl) (by decide) (by decide))
                refine q_E_L ?_
                generalize dz_N150_87 r12 ((r11.2 + (-1)) &&& 255) = r14 at j1303 ⊢
                exact q_E_x (q_iY_le j1303.1 (by omega))
set_option maxHeartbeats 4000000 in
theorem dzp_N142_87_65_142  {u K : Int} {t : Int64} {l : Int32} (s : q_S) (hI : q_iY u t l K s) (v2 : Int32) (v3 : Int32) (v4 : Int32) (v5 : Int32) (rv2 : q_rgz 0 255 v2) (rv4 : q_rgz 0 7 v4) (rv5 : q_rgz 0 4095 v5) : q_Ex (dz_N142_87_65_142 s v2 v3 v4 v5) (q_iY u t l (K + 3)) := by
  unfold dz_N142_87_65_142
  cases h1369 : decide (v3 < 0) with
  | true =>
    have g1370 := (q_rg_ltT1 (l := -2147483648) (U := -1) h1369 (q_rg_full _) (q_rg_lit (n := 0) (x := 0) rfl) (by decide))
    refine q_E_T ?_
    obtain ⟨r8, e1372, j1371⟩ := dzp_N158_87_65 (s) hI (v2) (v5) (q_rg_le (L := 0) (U := 4095) rv5 (by decide) (by decide))
    rw [e1372]
    refine q_E_B ?_
    exact q_E_x (q_iY_le (q_iY_F4 j1371.1 (q_rg_le (L := 0) (U := 4095) j1371.2 (by decide) (by decide))) (by omega))
  | false =>
    have g1373 := (q_rg_ltF1 (l2 := 0) (u := 2147483647) h1369 (q_rg_full _) (q_rg_lit (n := 0) (x := 0) rfl))
    refine q_E_F ?_
    cases h1374 : decide (v4 = 0) with
    | true =>
      have g1375 := q_rg_eqT h1374 (q_rg_lit (n := 0) (x := 0) rfl)
      refine q_E_T ?_
      have j1376 := dzp_N140_87 (s) hI (1)
      refine q_E_L ?_
      generalize dz_N140_87 s 1 = r9 at j1376 ⊢
      obtain ⟨r10, e1378, j1377⟩ := dzp_N90_65 (s) hI (r9) (q_rg_le (L := 0) (U := 4095) j1376 (by decide) (by decide))
      rw [e1378]
      refine q_E_B ?_
      have j1379 := dzp_N152_87 (s) hI (v3) (r10) (q_rg_le (L := 0) (U := 255) j1377 (by decide) (by decide))
      refine q_E_L ?_
      generalize dz_N152_87 s v3 r10 = r11 at j1379 ⊢
      exact q_E_x (q_iY_le (q_iY_F4 j1379 (q_rg_le (L := 0) (U := 4095) rv5 (by decide) (by decide))) (by omega))
    | false =>
      have g1380 := (q_rg_neL (l := 0) (u := 7) (n := 0) (L := 1) h1374 rv4 rfl (by decide) (by decide))
      refine q_E_F ?_
      have j1381 := dzp_N188 (s) hI (v3)
      refine q_E_L ?_
      generalize dz_N188 s v3 = r12 at j1381 ⊢
      cases h1382 : r12 with
      | true =>
        refine q_E_T ?_
        obtain ⟨r13, e1384, j1383⟩ := dzp_N144_87_65 (s) hI (v4)
        rw [e1384]
        refine q_E_B ?_
        obtain ⟨r14, e1386, j1385⟩ := dzp_N153_87_65 (s) hI (v3) (r13) (q_rg_le (L := 0) (U := 4095) j1383 (by decide) (by decide))
        rw [e1386]
        refine q_E_B ?_
        exact q_E_x (q_iY_le (q_iY_F4 j1385 (q_rg_le (L := 0) (U := 4095) rv5 (by decide) (by decide))) (by omega))
      | false =>
        refine q_E_F ?_
        obtain ⟨r15, e1388, j1387⟩ := dzp_N144_87_65 (s) hI (v4)
        rw [e1388]
        refine q_E_B ?_
        obtain ⟨r16, e1390, j1389⟩ := dzp_N93_65 (s) hI (r15) (q_rg_le (L := 0) (U := 4095) j1387 (by decide) (by decide))
        rw [e1390]
        refine q_E_B ?_
        have j1391 := dzp_N152_87 (r16.1) j1389.1 (v3) (r16.2) (q_rg_le (L := 0) (U := 255) j1389.2 (by decide) (by decide))
        refine q_E_L ?_
        generalize dz_N152_87 r16.1 v3 r16.2 = r17 at j1391 ⊢
        exact q_E_x (q_iY_le (q_iY_F4 j1391 (q_rg_le (L := 0) (U := 4095) rv5 (by decide) (by decide))) (by omega))
set_option maxHeartbeats 4000000 in
theorem dzp_N142_87_65  {u K : Int} {t : Int64} {l : Int32} (s : q_S) (hI : q_iY u t l K s) : q_Ex (dz_N142_87_65 s) (q_iY u t l (K + 3)) := by
  unfold dz_N142_87_65
  cases h1392 : decide (s.2.1 23 8 = 0) with
  | true =>
    have g1393 := q_rg_eqT h1392 (q_rg_lit (n := 0) (x := 0) rfl)
    refine q_E_T ?_
    obtain ⟨r2, e1395, j1394⟩ := dzp_N90_65 (q_sI (q_sA (q_sI s 23 10 ((s.2.1 23 10) + 1)) 24 (upd (s.1 24) (((s.2.1 23 11) &&& 15).toNatClampNeg) (s.2.1 23 4))) 23 11 ((s.2.1 23 11) + 1)) (q_iY_I11 (q_iY_A24 (q_iY_I10 hI))) (s.2.1 23 4) (q_rg_le (L := 0) (U := 4095) (q_rf23_4 hI) (by decide) (by decide))
    rw [e1395]
    refine q_E_B ?_
    have j1396 := dzp_N186 (q_sI (q_sA (q_sI s 23 10 ((s.2.1 23 10) + 1)) 24 (upd (s.1 24) (((s.2.1 23 11) &&& 15).toNatClampNeg) (s.2.1 23 4))) 23 11 ((s.2.1 23 11) + 1)) (q_iY_I11 (q_iY_A24 (q_iY_I10 hI))) (r2)
    refine q_E_L ?_
    generalize dz_N186 (q_sI (q_sA (q_sI s 23 10 ((s.2.1 23 10) + 1)) 24 (upd (s.1 24) (((s.2.1 23 11) &&& 15).toNatClampNeg) (s.2.1 23 4))) 23 11 ((s.2.1 23 11) + 1)) r2 = r3 at j1396 ⊢
    have j1397 := dzp_N190 (q_sI (q_sA (q_sI s 23 10 ((s.2.1 23 10) + 1)) 24 (upd (s.1 24) (((s.2.1 23 11) &&& 15).toNatClampNeg) (s.2.1 23 4))) 23 11 ((s.2.1 23 11) + 1)) (q_iY_I11 (q_iY_A24 (q_iY_I10 hI))) (r2)
    refine q_E_L ?_
    generalize dz_N190 (q_sI (q_sA (q_sI s 23 10 ((s.2.1 23 10) + 1)) 24 (upd (s.1 24) (((s.2.1 23 11) &&& 15).toNatClampNeg) (s.2.1 23 4))) 23 11 ((s.2.1 23 11) + 1)) r2 = r4 at j1397 ⊢
    have j1398 := dzp_N140_87 (q_sI (q_sA (q_sI s 23 10 ((s.2.1 23 10) + 1)) 24 (upd (s.1 24) (((s.2.1 23 11) &&& 15).toNatClampNeg) (s.2.1 23 4))) 23 11 ((s.2.1 23 11) + 1)) (q_iY_I11 (q_iY_A24 (q_iY_I10 hI))) (r4)
    refine q_E_L ?_
    generalize dz_N140_87 (q_sI (q_sA (q_sI s 23 10 ((s.2.1 23 10) + 1)) 24 (upd (s.1 24) (((s.2.1 23 11) &&& 15).toNatClampNeg) (s.2.1 23 4))) 23 11 ((s.2.1 23 11) + 1)) r4 = r5 at j1398 ⊢
    cases h1399 : decide (r2 = 154) with
    | true =>
      have g1400 := q_rg_eqT h1399 (q_rg_lit (n := 154) (x := 154) rfl)
      refine q_E_T ?_
      obtain ⟨r6, e1402, j1401⟩ := dzp_N148_87_65 (q_sI (q_sA (q_sI s 23 10 ((s.2.1 23 10) + 1)) 24 (upd (s.1 24) (((s.2.1 23 11) &&& 15).toNatClampNeg) (s.2.1 23 4))) 23 11 ((s.2.1 23 11) + 1)) (q_iY_I11 (q_iY_A24 (q_iY_I10 hI))) (r5) (((s.2.1 23 5) ||| 32) ||| 16) (3838) (q_rg_le (L := 0) (U := 4095) j1398 (by decide) (by decide)) (q_rg_le (L := 0) (U := 255) (q_rg_or (n := 8) (W := 255) (q_rg_or (n := 8) (W := 255) (q_rf23_5 hI) (q_rg_lit (n := 32) (x := 32) rfl) (by decide) (by decide) (by decide) (by decide) (by decide)) (q_rg_lit (n := 16) (x := 16) rfl) (by decide) (by decide) (by decide) (by decide) (by decide)) (by decide) (by decide))
      rw [e1402]
      refine q_E_B ?_
      exact q_E_x (q_iY_le j1401 (by omega))
    | false =>
      refine q_E_F ?_
      cases h1403 : decide (r3 < 0) with
      | true =>
        have g1404 := (q_rg_ltT1 (l := -2147483648) (U := -1) h1403 (q_rg_full _) (q_rg_lit (n := 0) (x := 0) rfl) (by decide))
        refine q_E_T ?_
        cases h1405 : decide (r2 < 154) with
        | true =>
          have g1406 := (q_rg_ltT1 (l := 0) (U := 153) h1405 j1394 (q_rg_lit (n := 154) (x := 154) rfl) (by decide))
          refine q_E_T ?_
          obtain ⟨r7, e1408, j1407⟩ := dzp_N157_87_65 (q_sI (q_sA (q_sI s 23 10 ((s.2.1 23 10) + 1)) 24 (upd (s.1 24) (((s.2.1 23 11) &&& 15).toNatClampNeg) (s.2.1 23 4))) 23 11 ((s.2.1 23 11) + 1)) (q_iY_I11 (q_iY_A24 (q_iY_I10 hI))) (r2)
          rw [e1408]
          refine q_E_B ?_
          exact q_E_x (q_iY_le (q_iY_F4 j1407 (q_rg_le (L := 0) (U := 4095) j1398 (by decide) (by decide))) (by omega))
        | false =>
          have g1409 := (q_rg_ltF1 (l2 := 154) (u := 255) h1405 j1394 (q_rg_lit (n := 154) (x := 154) rfl))
          refine q_E_F ?_
          exact q_E_to (dzp_N142_87_65_142 (q_sI (q_sA (q_sI s 23 10 ((s.2.1 23 10) + 1)) 24 (upd (s.1 24) (((s.2.1 23 11) &&& 15).toNatClampNeg) (s.2.1 23 4))) 23 11 ((s.2.1 23 11) + 1)) (q_iY_I11 (q_iY_A24 (q_iY_I10 hI))) (r2) (r3) (r2 &&& 7) (r5) (q_rg_le (L := 0) (U := 255) g1409 (by decide) (by decide)) (q_rg_le (L := 0) (U := 7) (q_rg_and r2 7 (U := 7) (by decide) rfl) (by decide) (by decide)) (q_rg_le (L := 0) (U := 4095) j1398 (by decide) (by decide))) (fun x hx => (q_iY_le hx (by omega)))
      | false =>
        have g1410 := (q_rg_ltF1 (l2 := 0) (u := 2147483647) h1403 (q_rg_full _) (q_rg_lit (n := 0) (x := 0) rfl))
        refine q_E_F ?_
        exact q_E_to (dzp_N142_87_65_142 (q_sI (q_sA (q_sI s 23 10 ((s.2.1 23 10) + 1)) 24 (upd (s.1 24) (((s.2.1 23 11) &&& 15).toNatClampNeg) (s.2.1 23 4))) 23 11 ((s.2.1 23 11) + 1)) (q_iY_I11 (q_iY_A24 (q_iY_I10 hI))) (r2) (r3) (r2 &&& 7) (r5) (q_rg_le (L := 0) (U := 255) j1394 (by decide) (by decide)) (q_rg_le (L := 0) (U := 7) (q_rg_and r2 7 (U := 7) (by decide) rfl) (by decide) (by decide)) (q_rg_le (L := 0) (U := 4095) j1398 (by decide) (by decide))) (fun x hx => (q_iY_le hx (by omega)))
  | false =>
    refine q_E_F ?_
    obtain ⟨r18, e1412, j1411⟩ := dzp_N148_87_65 (q_sI s 23 10 ((s.2.1 23 10) + 1)) (q_iY_I10 hI) (s.2.1 23 4) ((s.2.1 23 5) ||| 32) (s.2.1 23 8) (q_rg_le (L := 0) (U := 4095) (q_rf23_4 hI) (by decide) (by decide)) (q_rg_le (L := 0) (U := 255) (q_rg_or (n := 8) (W := 255) (q_rf23_5 hI) (q_rg_lit (n := 32) (x := 32) rfl) (by decide) (by decide) (by decide) (by decide) (by decide)) (by decide) (by decide))
    rw [e1412]
    refine q_E_B ?_
    exact q_E_x (q_iY_le j1411 (by omega))
