section
variable {TT : (Nat → Int32) → Int32 → (Nat → Int32) → Int32 → Int64 → Int64 → List Int32 → List (Nat → Int32) → (Nat → Int64) → Prop} {x y z m : q_S} {c d w : Int}
/-- the codes 128 to 153 -/
theorem q_cod (h : q_R TT x m) (hI : q_Iv c d w m) (p a : Int32) (ha : q_rgz 128 153 a) : ∃ y m1, dz_N157_87_65 x a = some y ∧ dz_M272_64 m a p = some (q_sA m1 14 (upd (m1.1 14) 4 ((p + 1) &&& 4095))) ∧ q_R TT y m1 := by
  have a0 := ha.1
  have a1 := ha.2
  rcases (by omega : a.toInt = 128 ∨ a.toInt = 129 ∨ a.toInt = 130 ∨ a.toInt = 131 ∨ a.toInt = 132 ∨ a.toInt = 133 ∨ a.toInt = 134 ∨ a.toInt = 135 ∨ a.toInt = 136 ∨ a.toInt = 137 ∨ a.toInt = 138 ∨ a.toInt = 139 ∨ a.toInt = 140 ∨ a.toInt = 141 ∨ a.toInt = 142 ∨ a.toInt = 143 ∨ a.toInt = 144 ∨ a.toInt = 145 ∨ a.toInt = 146 ∨ a.toInt = 147 ∨ a.toInt = 148 ∨ a.toInt = 149 ∨ a.toInt = 150 ∨ a.toInt = 151 ∨ a.toInt = 152 ∨ a.toInt = 153) with e | e | e | e | e | e | e | e | e | e | e | e | e | e | e | e | e | e | e | e | e | e | e | e | e | e
  · rw [show a = 128 from Int32.toInt_inj.mp e]; exact q_c128 h hI p
  · rw [show a = 129 from Int32.toInt_inj.mp e]; exact q_c129 h hI p
  · rw [show a = 130 from Int32.toInt_inj.mp e]; exact q_c130 h hI p
  · rw [show a = 131 from Int32.toInt_inj.mp e]; exact q_c131 h hI p
  · rw [show a = 132 from Int32.toInt_inj.mp e]; exact q_c132 h hI p
  · rw [show a = 133 from Int32.toInt_inj.mp e]; exact q_c133 h hI p
  · rw [show a = 134 from Int32.toInt_inj.mp e]; exact q_c134 h hI p
  · rw [show a = 135 from Int32.toInt_inj.mp e]; exact q_c135 h hI p
  · rw [show a = 136 from Int32.toInt_inj.mp e]; exact q_c136 h hI p
  · rw [show a = 137 from Int32.toInt_inj.mp e]; exact q_c137 h hI p
  · rw [show a = 138 from Int32.toInt_inj.mp e]; exact q_c138 h hI p
  · rw [show a = 139 from Int32.toInt_inj.mp e]; exact q_c139 h hI p
  · rw [show a = 140 from Int32.toInt_inj.mp e]; exact q_c140 h hI p
  · rw [show a = 141 from Int32.toInt_inj.mp e]; exact q_c141 h hI p
  · rw [show a = 142 from Int32.toInt_inj.mp e]; exact q_c142 h hI p
  · rw [show a = 143 from Int32.toInt_inj.mp e]; exact q_c143 h hI p
  · rw [show a = 144 from Int32.toInt_inj.mp e]; exact q_c144 h hI p
  · rw [show a = 145 from Int32.toInt_inj.mp e]; exact q_c145 h hI p
  · rw [show a = 146 from Int32.toInt_inj.mp e]; exact q_c146 h hI p
  · rw [show a = 147 from Int32.toInt_inj.mp e]; exact q_c147 h hI p
  · rw [show a = 148 from Int32.toInt_inj.mp e]; exact q_c148 h hI p
  · rw [show a = 149 from Int32.toInt_inj.mp e]; exact q_c149 h hI p
  · rw [show a = 150 from Int32.toInt_inj.mp e]; exact q_c150 h hI p
  · rw [show a = 151 from Int32.toInt_inj.mp e]; exact q_c151 h hI p
  · rw [show a = 152 from Int32.toInt_inj.mp e]; exact q_c152 h hI p
  · rw [show a = 153 from Int32.toInt_inj.mp e]; exact q_c153 h hI p
theorem q_T4 : ∀ n, n < 27 → dz_M245 q_zz0 (Int32.ofNat (128 + n)) = 1 := by decide
theorem q_T5 : ∀ n, n < 8 → dz_M245 q_zz0 (Int32.ofNat (160 + n)) = 2 := by decide
theorem q_len (t : q_S) {a : Int32} (h : q_rgz 0 255 a) : (decide (dz_M243 t a < 0) = true → 128 ≤ a.toInt) ∧ (128 ≤ a.toInt → a.toInt < 155 → dz_M245 t a = 1) ∧ (160 ≤ a.toInt → a.toInt < 168 → dz_M245 t a = 2) := by
  have a1 := h.2
  have a0 := h.1
  refine ⟨fun q => ?_, fun q r => ?_, fun q r => ?_⟩
  · by_cases k : 128 ≤ a.toInt
    · exact k
    · have e8 : (a / 8).toInt = a.toInt / 8 := q_toInt_div a0 (by decide)
      have z0 : (0 : Int32).toInt = 0 := rfl
      unfold dz_M243 at q
      rw [q_lt_T (show a.toInt < (128 : Int32).toInt by show a.toInt < 128; omega), cond_true, q_lt_F (show (0 : Int32).toInt ≤ (a / 8).toInt by omega)] at q
      cases q
  · have t2 := q_T4 (a.toInt.toNat - 128) (by omega)
    rw [show 128 + (a.toInt.toNat - 128) = a.toInt.toNat by omega, q_ofn h] at t2
    exact t2
  · have t2 := q_T5 (a.toInt.toNat - 160) (by omega)
    rw [show 160 + (a.toInt.toNat - 160) = a.toInt.toNat by omega, q_ofn h] at t2
    exact t2
/-- a word of two pulled bytes -/
theorem q_wrd {l g : Int32} (hl : q_rgz 0 255 l) (hg : q_rgz 0 255 g) : (l + 256 * g).toInt = l.toInt + 256 * g.toInt := by
  have l0 := hl.1
  have l1 := hl.2
  have g0 := hg.1
  have g1 := hg.2
  have e : (256 * g).toInt = 256 * g.toInt := q_mulI (n := 256) rfl (by decide) (by decide) ⟨by omega, by omega⟩
  rw [q_addI ⟨by omega, by omega⟩ ⟨by omega, by omega⟩, e]
theorem q_a1 {a : Int32} (h : q_rgz 0 70000 a) : ((a &&& 4095) + 1) &&& 4095 = (a + 1) &&& 4095 := by
  have a0 := h.1
  have a1 := h.2
  have k : (4095 : Int32).toInt = 2 ^ 12 - 1 := rfl
  have e1 : (a &&& 4095).toInt = a.toInt % 4096 := q_andI 12 (by decide) h (by decide) k
  have e2 : ((a &&& 4095) + 1).toInt = a.toInt % 4096 + 1 := by rw [q_addI ⟨by omega, by omega⟩ ⟨by decide, by decide⟩, e1]; rfl
  have e3 : (a + 1).toInt = a.toInt + 1 := q_addI ⟨by omega, by omega⟩ ⟨by decide, by decide⟩
  apply Int32.toInt_inj.mp
  rw [q_andI 12 (by decide) (l := 0) (u := 4096) ⟨by omega, by omega⟩ (by decide) k, q_andI 12 (by decide) (l := 0) (u := 70001) ⟨by omega, by omega⟩ (by decide) k, e2, e3]
  show (a.toInt % 4096 + 1) % 4096 = (a.toInt + 1) % 4096
  omega
/-- what rts and rti pull -/
theorem q_ret (h : q_R TT x m) (hI : q_Iv c d w m) (k : Int32) (hk : k = 0 ∨ k = 1) : ∃ y v m2, dz_N160_87_65 x = (y, v) ∧ dz_M273_64 m k = some (m2, (v + k) &&& 4095) ∧ q_R TT y m2 ∧ q_Iv c d w m2 ∧ q_rgz 0 4095 v := by
  obtain ⟨y1, l, m1, a1, a2, a3, a4, a5, a6, a7⟩ := q_pull h hI
  obtain ⟨y2, g, m2, b1, b2, b3, b4, b5, b6, b7⟩ := q_pull a3 a4
  have ew := q_wrd a7 b7
  have l0 := a7.1
  have l1 := a7.2
  have g0 := b7.1
  have g1 := b7.2
  refine ⟨y2, (l + 256 * g) &&& 4095, m2, ?_, ?_, b3, b4, q_rg_and _ 4095 (by decide) rfl⟩
  · unfold dz_N160_87_65 q_let
    rw [a1]
    dsimp only
    rw [b1]
  · unfold dz_M273_64
    rw [a2, Option.bind_some, b2, Option.bind_some]
    show some (m2, ((l + 256 * g) + k) &&& 4095) = _
    rcases hk with e | e
    · rw [e, Int32.add_zero, Int32.add_zero, q_a12 (q_rg_and _ 4095 (by decide) rfl)]
    · rw [e, q_a1 ⟨by omega, by omega⟩]
/-- the word behind a code -/
theorem q_ab (h : q_R TT x m) (hI : q_Iv c d w m) (hP : x.2.1 23 4 = m.1 14 4) : ∃ B m2, dz_N145_87_65 x 3 = some B ∧ dz_M247_64 m (m.1 14 4 + 1) = some (m2, B) ∧ q_rgz 0 4095 B ∧ q_eq33 m m2 ∧ q_R TT x m2 ∧ q_Iv c d w m2 := by
  obtain ⟨lo, hi, m2, w1, w2, w3, w4, w5, w6, w7, w8⟩ := q_word h hI (m.1 14 4 + 1)
  rw [q_p11] at w2
  refine ⟨_, m2, ?_, w3, q_rg_and _ 4095 (by decide) rfl, w4, w5, w6⟩
  unfold dz_N145_87_65 dz_N140_87 q_let
  dsimp only
  rw [hP, w1, w2]
  rfl
theorem q_jam (h : q_R TT x m) (hL : x.2.1 23 9 = 0) (v u : Int32) : q_R TT (q_sI (q_sI x 23 7 1) 23 4 v) (q_sA (q_sA m 15 (upd (m.1 15) 7 (vp_nar .boolean 1))) 14 (upd (m.1 14) 4 u)) := by
  obtain ⟨h1, h2, h3, h4, h5, ⟨p1, p2, p3, p4, p5, p6, p7, p8, p9, p10, p11⟩, h7, h8⟩ := h
  exact ⟨h1, h2, h3, h4, h5, ⟨p1, fun q => absurd (show (1 : Int32) = 0 from q) (by decide), p3, rfl, p5, p6, p7, p8, p9, p10, ⟨Or.inr hL, p11.2⟩⟩, h7, h8⟩
end
