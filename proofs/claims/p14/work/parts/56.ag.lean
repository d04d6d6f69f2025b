section
variable {TT : (Nat → Int32) → Int32 → (Nat → Int32) → Int32 → Int64 → Int64 → List Int32 → List (Nat → Int32) → (Nat → Int64) → Prop} {x y z m m2 b b2 : q_S} {c d w k : Int} {n : Nat}
theorem q_wD3 (h : q_WL c d m n b z) (hn : n + 3 ≤ 16) (v : Int32) (hv : q_rgz 100 999 v) : ∃ b2 z2, dz_B325_64 b v = some b2 ∧ dz_M280_64 z v = some z2 ∧ q_WL c d m (n + 3) b2 z2 := by
  have v0 := hv.1
  have v1 := hv.2
  have vp : 0 ≤ v.toInt := by omega
  have h3 := h.2.2.1
  have eL : (b.2.1 0 3 + 3).toInt = n + 3 := by rw [q_addI ⟨by omega, by omega⟩ ⟨by decide, by decide⟩, h3]; rfl
  have e321 := q_321 (b := b) (v := v) ⟨vp, by omega⟩
  rw [if_neg (show ¬ v.toInt < 10 by omega), if_neg (show ¬ v.toInt < 100 by omega), if_pos (show v.toInt < 1000 by omega)] at e321
  obtain ⟨g0, r0⟩ := q_dg0 vp
  obtain ⟨g1, r1⟩ := q_dg1 vp
  obtain ⟨g2, r2⟩ := q_dg2 vp
  obtain ⟨-, m0, w0⟩ := q_wC h (by omega) (q_dg (v / 10 / 10)) r2
  obtain ⟨-, m1, w1⟩ := q_wC w0 (by omega) (q_dg (v / 10)) r1
  obtain ⟨-, m2, w2⟩ := q_wC w1 (by omega) (q_dg (v)) r0
  obtain ⟨e2, c1⟩ := q_320_3 (b := b) (v := v) (e := b.2.1 0 3 + 3) (p := n) 4998 hv eL (by omega)
  have lt : v.toInt.toNat / 100 < 100 := by omega
  have l2 : v.toInt.toNat % 100 < 100 := Nat.mod_lt _ (by decide)
  have l3 : v.toInt.toNat / 100 < 10 := by omega
  have t1 := q_yt67 _ l2
  have t2 := q_yt67 _ lt
  refine ⟨_, _, q_yw326 vp e321 (by omega) (by omega) c1, q_281_3 v0 (by omega) m0 m1 m2 11, q_WLt w2 (by show (b.2.1 0 3 + 3).toInt = ((n + 3 : Nat) : Int); omega) fun i hi => ?_⟩
  show q_chr ((upd (upd (upd (b.1 1) (n + 1 + 1) (vp_nar .byte (q_o6.getD (v.toInt.toNat % 100) 0))) (n + 1) (vp_nar .byte (q_o7.getD (v.toInt.toNat % 100) 0))) n (vp_nar .byte (q_o6.getD (v.toInt.toNat / 100) 0))) i) = (upd (upd (upd (z.1 32) (n) (q_dg (v / 10 / 10))) (n + 1) (q_dg (v / 10))) (n + 1 + 1) (q_dg (v))) i
  clear c1 e321 m0 m1 m2
  have hq : i < n ∨ i = n ∨ i = n + 1 ∨ i = n + 2 := by clear eL v0 v1 vp h3 lt l2 l3; omega
  clear eL v0 v1 vp h3
  rcases hq with q | q | q | q
  · simp only [upd, if_neg (show ¬ i = n by clear lt l2 l3; omega), if_neg (show ¬ i = n + 1 by clear lt l2 l3; omega), if_neg (show ¬ i = n + 1 + 1 by clear lt l2 l3; omega), if_neg (show ¬ i = n + 2 by clear lt l2 l3; omega)]
    exact h.2.2.2.2 i q
  · simp only [upd, if_pos (show i = n by clear lt l2 l3; omega), if_neg (show ¬ i = n + 1 by clear lt l2 l3; omega), if_neg (show ¬ i = n + 1 + 1 by clear lt l2 l3; omega), if_neg (show ¬ i = n + 2 by clear lt l2 l3; omega)]
    rw [t2.1, g2]
  · simp only [upd, if_neg (show ¬ i = n by clear lt l2 l3; omega), if_pos (show i = n + 1 by clear lt l2 l3; omega), if_neg (show ¬ i = n + 1 + 1 by clear lt l2 l3; omega), if_neg (show ¬ i = n + 2 by clear lt l2 l3; omega)]
    rw [t1.2, g1]
    exact q_cg (q_nd1 _)
  · simp only [upd, if_neg (show ¬ i = n by clear lt l2 l3; omega), if_neg (show ¬ i = n + 1 by clear lt l2 l3; omega), if_pos (show i = n + 1 + 1 by clear lt l2 l3; omega), if_pos (show i = n + 2 by clear lt l2 l3; omega)]
    rw [t1.1, g0]
    exact q_cg (q_nd2 _)
theorem q_wD4 (h : q_WL c d m n b z) (hn : n + 4 ≤ 16) (v : Int32) (hv : q_rgz 1000 4095 v) : ∃ b2 z2, dz_B325_64 b v = some b2 ∧ dz_M280_64 z v = some z2 ∧ q_WL c d m (n + 4) b2 z2 := by
  have v0 := hv.1
  have v1 := hv.2
  have vp : 0 ≤ v.toInt := by omega
  have h3 := h.2.2.1
  have eL : (b.2.1 0 3 + 4).toInt = n + 4 := by rw [q_addI ⟨by omega, by omega⟩ ⟨by decide, by decide⟩, h3]; rfl
  have e321 := q_321 (b := b) (v := v) ⟨vp, by omega⟩
  rw [if_neg (show ¬ v.toInt < 10 by omega), if_neg (show ¬ v.toInt < 100 by omega), if_neg (show ¬ v.toInt < 1000 by omega)] at e321
  obtain ⟨g0, r0⟩ := q_dg0 vp
  obtain ⟨g1, r1⟩ := q_dg1 vp
  obtain ⟨g2, r2⟩ := q_dg2 vp
  obtain ⟨g3, r3⟩ := q_dg3 vp
  obtain ⟨-, m0, w0⟩ := q_wC h (by omega) (q_dg (v / 10 / 10 / 10)) r3
  obtain ⟨-, m1, w1⟩ := q_wC w0 (by omega) (q_dg (v / 10 / 10)) r2
  obtain ⟨-, m2, w2⟩ := q_wC w1 (by omega) (q_dg (v / 10)) r1
  obtain ⟨-, m3, w3⟩ := q_wC w2 (by omega) (q_dg (v)) r0
  obtain ⟨e2, c1⟩ := q_320_4 (b := b) (v := v) (e := b.2.1 0 3 + 4) (p := n) 4998 hv eL (by omega)
  have lt : v.toInt.toNat / 100 < 100 := by omega
  have l2 : v.toInt.toNat % 100 < 100 := Nat.mod_lt _ (by decide)
  have l3 : v.toInt.toNat / 100 < 100 := by omega
  have t1 := q_yt67 _ l2
  have t2 := q_yt67 _ lt
  refine ⟨_, _, q_yw326 vp e321 (by omega) (by omega) c1, q_281_4 v0 (by omega) m0 m1 m2 m3 10, q_WLt w3 (by show (b.2.1 0 3 + 4).toInt = ((n + 4 : Nat) : Int); omega) fun i hi => ?_⟩
  show q_chr ((upd (upd (upd (upd (b.1 1) (n + 2 + 1) (vp_nar .byte (q_o6.getD (v.toInt.toNat % 100) 0))) (n + 2) (vp_nar .byte (q_o7.getD (v.toInt.toNat % 100) 0))) (n + 1) (vp_nar .byte (q_o6.getD (v.toInt.toNat / 100) 0))) n (vp_nar .byte (q_o7.getD (v.toInt.toNat / 100) 0))) i) = (upd (upd (upd (upd (z.1 32) (n) (q_dg (v / 10 / 10 / 10))) (n + 1) (q_dg (v / 10 / 10))) (n + 1 + 1) (q_dg (v / 10))) (n + 1 + 1 + 1) (q_dg (v))) i
  clear c1 e321 m0 m1 m2 m3
  have hq : i < n ∨ i = n ∨ i = n + 1 ∨ i = n + 2 ∨ i = n + 3 := by clear eL v0 v1 vp h3 lt l2 l3; omega
  clear eL v0 v1 vp h3
  rcases hq with q | q | q | q | q
  · simp only [upd, if_neg (show ¬ i = n by clear lt l2 l3; omega), if_neg (show ¬ i = n + 1 by clear lt l2 l3; omega), if_neg (show ¬ i = n + 1 + 1 by clear lt l2 l3; omega), if_neg (show ¬ i = n + 2 by clear lt l2 l3; omega), if_neg (show ¬ i = n + 1 + 1 + 1 by clear lt l2 l3; omega), if_neg (show ¬ i = n + 2 + 1 by clear lt l2 l3; omega), if_neg (show ¬ i = n + 3 by clear lt l2 l3; omega)]
    exact h.2.2.2.2 i q
  · simp only [upd, if_pos (show i = n by clear lt l2 l3; omega), if_neg (show ¬ i = n + 1 by clear lt l2 l3; omega), if_neg (show ¬ i = n + 1 + 1 by clear lt l2 l3; omega), if_neg (show ¬ i = n + 2 by clear lt l2 l3; omega), if_neg (show ¬ i = n + 1 + 1 + 1 by clear lt l2 l3; omega), if_neg (show ¬ i = n + 2 + 1 by clear lt l2 l3; omega), if_neg (show ¬ i = n + 3 by clear lt l2 l3; omega)]
    rw [t2.2, g3]
    exact q_cg (by rw [q_nd3, Nat.mod_eq_of_lt (by omega)])
  · simp only [upd, if_neg (show ¬ i = n by clear lt l2 l3; omega), if_pos (show i = n + 1 by clear lt l2 l3; omega), if_neg (show ¬ i = n + 1 + 1 by clear lt l2 l3; omega), if_neg (show ¬ i = n + 2 by clear lt l2 l3; omega), if_neg (show ¬ i = n + 1 + 1 + 1 by clear lt l2 l3; omega), if_neg (show ¬ i = n + 2 + 1 by clear lt l2 l3; omega), if_neg (show ¬ i = n + 3 by clear lt l2 l3; omega)]
    rw [t2.1, g2]
  · simp only [upd, if_neg (show ¬ i = n by clear lt l2 l3; omega), if_neg (show ¬ i = n + 1 by clear lt l2 l3; omega), if_pos (show i = n + 1 + 1 by clear lt l2 l3; omega), if_pos (show i = n + 2 by clear lt l2 l3; omega), if_neg (show ¬ i = n + 1 + 1 + 1 by clear lt l2 l3; omega), if_neg (show ¬ i = n + 2 + 1 by clear lt l2 l3; omega), if_neg (show ¬ i = n + 3 by clear lt l2 l3; omega)]
    rw [t1.2, g1]
    exact q_cg (q_nd1 _)
  · simp only [upd, if_neg (show ¬ i = n by clear lt l2 l3; omega), if_neg (show ¬ i = n + 1 by clear lt l2 l3; omega), if_neg (show ¬ i = n + 1 + 1 by clear lt l2 l3; omega), if_neg (show ¬ i = n + 2 by clear lt l2 l3; omega), if_pos (show i = n + 1 + 1 + 1 by clear lt l2 l3; omega), if_pos (show i = n + 2 + 1 by clear lt l2 l3; omega), if_pos (show i = n + 3 by clear lt l2 l3; omega)]
    rw [t1.1, g0]
    exact q_cg (q_nd2 _)
end
