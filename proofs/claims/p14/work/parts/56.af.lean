section
variable {TT : (Nat → Int32) → Int32 → (Nat → Int32) → Int32 → Int64 → Int64 → List Int32 → List (Nat → Int32) → (Nat → Int64) → Prop} {x y z m m2 b b2 : q_S} {c d w k : Int} {n : Nat}
theorem q_wD2 (h : q_WL c d m n b z) (hn : n + 2 ≤ 16) (v : Int32) (hv : q_rgz 10 99 v) : ∃ b2 z2, dz_B325_64 b v = some b2 ∧ dz_M280_64 z v = some z2 ∧ q_WL c d m (n + 2) b2 z2 := by
  have v0 := hv.1
  have v1 := hv.2
  have h3 := h.2.2.1
  have eL : (b.2.1 0 3 + 2).toInt = n + 2 := by rw [q_addI ⟨by omega, by omega⟩ ⟨by decide, by decide⟩, h3]; rfl
  have e321 := q_321 (b := b) (v := v) ⟨by omega, by omega⟩
  rw [if_neg (show ¬ v.toInt < 10 by omega), if_pos (show v.toInt < 100 by omega)] at e321
  have d1 : (v / 10).toInt = v.toInt / 10 := q_div10 (by omega)
  obtain ⟨g0, r0⟩ := q_dgI (v := v) (by omega)
  obtain ⟨g1, r1⟩ := q_dgI (v := v / 10) (by omega)
  obtain ⟨-, m0, w0⟩ := q_wC h (by omega) (q_dg (v / 10)) r1
  obtain ⟨-, m1, w1⟩ := q_wC w0 (by omega) (q_dg v) r0
  obtain ⟨e2, c1⟩ := q_320b (b := b) (v := v) (e := b.2.1 0 3 + 2) (p := n) 4999 ⟨by omega, by omega⟩ (by omega) (by omega)
  refine ⟨_, _, q_yw326 (by omega) e321 (by omega) (by omega) c1, ?_, q_WLt w1 (by show (b.2.1 0 3 + 2).toInt = ((n + 2 : Nat) : Int); omega) fun i hi => ?_⟩
  · unfold dz_M280_64
    rw [q_281b 13 (by omega), q_281a 12 (by omega)]
    rw [m0]
    simp only [Option.bind_some, m0, m1]
  · show q_chr ((upd (upd (b.1 1) (n + 1) (vp_nar .byte (q_o6.getD v.toInt.toNat 0))) n (vp_nar .byte (q_o7.getD v.toInt.toNat 0))) i) = (upd (upd (z.1 32) (n) (q_dg (v / 10))) (n + 1) (q_dg v)) i
    rcases (by omega : i < n ∨ i = n ∨ i = n + 1) with q | q | q
    · simp only [upd, if_neg (show ¬ i = n by omega), if_neg (show ¬ i = n + 1 by omega)]
      exact h.2.2.2.2 i q
    · simp only [upd, if_pos (show i = n by omega), if_neg (show ¬ i = n + 1 by omega)]
      rw [(q_yt67 v.toInt.toNat (by omega)).2, g1]
      exact congrArg (fun j => Int32.ofNat (48 + j)) (show v.toInt.toNat / 10 = (v / 10).toInt.toNat % 10 by omega)
    · simp only [upd, if_neg (show ¬ i = n by omega), if_pos (show i = n + 1 by omega)]
      rw [(q_yt67 v.toInt.toNat (by omega)).1, g0]
theorem q_dgs {v : Int32} (h0 : 0 ≤ v.toInt) : (v / 10).toInt = v.toInt / 10 ∧ (v / 10 / 10).toInt = v.toInt / 100 ∧ (v / 10 / 10 / 10).toInt = v.toInt / 1000 := by
  have d1 : (v / 10).toInt = v.toInt / 10 := q_div10 h0
  have d2 : (v / 10 / 10).toInt = v.toInt / 100 := by rw [q_div10 (by omega), d1]; omega
  refine ⟨d1, d2, ?_⟩
  rw [q_div10 (by omega), d2]
  omega
theorem q_dg0 {v : Int32} (h0 : 0 ≤ v.toInt) : q_dg v = Int32.ofNat (48 + v.toInt.toNat % 10) ∧ q_rgz 0 127 (q_dg v) := q_dgI h0
theorem q_dg1 {v : Int32} (h0 : 0 ≤ v.toInt) : q_dg (v / 10) = Int32.ofNat (48 + v.toInt.toNat / 10 % 10) ∧ q_rgz 0 127 (q_dg (v / 10)) := by
  obtain ⟨d1, -⟩ := q_dgs h0
  have t := q_dgI (v := v / 10) (by omega)
  rw [show (v / 10).toInt.toNat = v.toInt.toNat / 10 by omega] at t
  exact t
theorem q_dg2 {v : Int32} (h0 : 0 ≤ v.toInt) : q_dg (v / 10 / 10) = Int32.ofNat (48 + v.toInt.toNat / 100 % 10) ∧ q_rgz 0 127 (q_dg (v / 10 / 10)) := by
  obtain ⟨-, d2, -⟩ := q_dgs h0
  have t := q_dgI (v := v / 10 / 10) (by omega)
  rw [show (v / 10 / 10).toInt.toNat = v.toInt.toNat / 100 by omega] at t
  exact t
theorem q_dg3 {v : Int32} (h0 : 0 ≤ v.toInt) : q_dg (v / 10 / 10 / 10) = Int32.ofNat (48 + v.toInt.toNat / 1000 % 10) ∧ q_rgz 0 127 (q_dg (v / 10 / 10 / 10)) := by
  obtain ⟨-, -, d3⟩ := q_dgs h0
  have t := q_dgI (v := v / 10 / 10 / 10) (by omega)
  rw [show (v / 10 / 10 / 10).toInt.toNat = v.toInt.toNat / 1000 by omega] at t
  exact t
theorem q_281_3 {v : Int32} {z1 z2 z3 : q_S} (h0 : 100 ≤ v.toInt) (h1 : v.toInt ≤ 999) (m0 : dz_M279_64 z (q_dg (v / 10 / 10)) = some z1) (m1 : dz_M279_64 z1 (q_dg (v / 10)) = some z2) (m2 : dz_M279_64 z2 (q_dg v) = some z3) (f : Nat) : dzr_M280_64 (f + 3) z v = some z3 := by
  obtain ⟨d1, d2, -⟩ := q_dgs (v := v) (by omega)
  rw [q_281b (f + 2) (by omega), q_281b (f + 1) (by omega), q_281a f (by omega), m0]
  simp only [Option.bind_some, m1, m2]
theorem q_281_4 {v : Int32} {z1 z2 z3 z4 : q_S} (h0 : 1000 ≤ v.toInt) (h1 : v.toInt ≤ 9999) (m0 : dz_M279_64 z (q_dg (v / 10 / 10 / 10)) = some z1) (m1 : dz_M279_64 z1 (q_dg (v / 10 / 10)) = some z2) (m2 : dz_M279_64 z2 (q_dg (v / 10)) = some z3) (m3 : dz_M279_64 z3 (q_dg v) = some z4) (f : Nat) : dzr_M280_64 (f + 4) z v = some z4 := by
  obtain ⟨d1, d2, d3⟩ := q_dgs (v := v) (by omega)
  rw [q_281b (f + 3) (by omega), q_281b (f + 2) (by omega), q_281b (f + 1) (by omega), q_281a f (by omega), m0]
  simp only [Option.bind_some, m1, m2, m3]
theorem q_320_3 {v e : Int32} {p : Nat} (f : Nat) (h : q_rgz 100 999 v) (he : e.toInt = p + 3) (hp : p + 2 < 16) : ∃ e2, dz_B319_65_22 (f + 2) b (-v) e 0 = some (q_yb1 (q_yb2 b (p + 1) (v.toInt.toNat % 100)) p (v.toInt.toNat / 100), e2) := by
  have h0 := h.1
  have h1 := h.2
  have dh : (v / 100).toInt = v.toInt / 100 := q_toInt_div (by omega) (by decide)
  have c0 := q_320c (b := b) (v := v) (e := e) (p := p + 1) (f + 1) ⟨h0, by omega⟩ (by omega) (by omega)
  obtain ⟨a1, -⟩ := q_ym1 (p := p + 1 + 1) (e := e) (by omega) (by omega)
  obtain ⟨a3, -⟩ := q_ym1 (p := p + 1) (e := e + (-1)) a1 (by omega)
  obtain ⟨e2, c1⟩ := q_320a (b := q_yb2 b (p + 1) (v.toInt.toNat % 100)) (v := v / 100) (e := e + (-1) + (-1)) (p := p) f ⟨by omega, by omega⟩ a3 (by omega)
  rw [show (v / 100).toInt.toNat = v.toInt.toNat / 100 by omega] at c1
  exact ⟨e2, c0.trans c1⟩
theorem q_320_4 {v e : Int32} {p : Nat} (f : Nat) (h : q_rgz 1000 4095 v) (he : e.toInt = p + 4) (hp : p + 3 < 16) : ∃ e2, dz_B319_65_22 (f + 2) b (-v) e 0 = some (q_yb2 (q_yb2 b (p + 2) (v.toInt.toNat % 100)) p (v.toInt.toNat / 100), e2) := by
  have h0 := h.1
  have h1 := h.2
  have dh : (v / 100).toInt = v.toInt / 100 := q_toInt_div (by omega) (by decide)
  have c0 := q_320c (b := b) (v := v) (e := e) (p := p + 2) (f + 1) ⟨by omega, by omega⟩ (by omega) (by omega)
  obtain ⟨a1, -⟩ := q_ym1 (p := p + 2 + 1) (e := e) (by omega) (by omega)
  obtain ⟨a3, -⟩ := q_ym1 (p := p + 2) (e := e + (-1)) a1 (by omega)
  obtain ⟨e2, c1⟩ := q_320b (b := q_yb2 b (p + 2) (v.toInt.toNat % 100)) (v := v / 100) (e := e + (-1) + (-1)) (p := p) f ⟨by omega, by omega⟩ a3 (by omega)
  rw [show (v / 100).toInt.toNat = v.toInt.toNat / 100 by omega] at c1
  exact ⟨e2, c0.trans c1⟩
theorem q_nd1 (N : Nat) : N % 100 / 10 = N / 10 % 10 := by omega
theorem q_nd2 (N : Nat) : N % 100 % 10 = N % 10 := by omega
theorem q_nd3 (N : Nat) : N / 100 / 10 = N / 1000 := by omega
theorem q_cg {a c : Nat} (h : a = c) : Int32.ofNat (48 + a) = Int32.ofNat (48 + c) := by rw [h]
end
