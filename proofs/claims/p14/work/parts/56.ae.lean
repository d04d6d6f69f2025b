section
variable {TT : (Nat → Int32) → Int32 → (Nat → Int32) → Int32 → Int64 → Int64 → List Int32 → List (Nat → Int32) → (Nat → Int64) → Prop} {x y z m m2 b b2 : q_S} {c d w k : Int} {n : Nat}
theorem q_ym1 {e : Int32} {p : Nat} (h : e.toInt = p + 1) (hp : p ≤ 1000) : (e + (-1)).toInt = p ∧ (e + (-1)).toNatClampNeg = p := by
  have a : (e + (-1)).toInt = p := by
    rw [q_addI ⟨by omega, by omega⟩ ⟨by decide, by decide⟩, h]
    show (p : Int) + 1 + (-1) = p
    omega
  exact ⟨a, by show (e + (-1)).toInt.toNat = p; omega⟩
theorem q_320a {v e : Int32} {p : Nat} (f : Nat) (h : q_rgz 0 9 v) (he : e.toInt = p + 1) (hp : p < 16) : ∃ e2, dz_B319_65_22 (f + 1) b (-v) e 0 = some (q_yb1 b p v.toInt.toNat, e2) := by
  have h0 := h.1
  have h1 := h.2
  have en := q_negI (q_rg_le h (Int.le_refl _) (by decide))
  obtain ⟨a1, a2⟩ := q_ym1 he (by omega)
  refine ⟨e + (-1), ?_⟩
  rw [dzs_B319_65_22]
  unfold q_let
  dsimp only
  rw [q_lt_T (show (-100 : Int32).toInt < (-v).toInt by show (-100 : Int) < _; omega), q_lt_F (show (-9 : Int32).toInt ≤ (-v).toInt by show (-9 : Int) ≤ _; omega), Int32.neg_neg, q_in_rg h (by decide) (by decide), q_in_rg (x := e + (-1)) (l := p) (u := p) ⟨by omega, by omega⟩ (by omega) (by omega), a2]
  rfl
theorem q_320b {v e : Int32} {p : Nat} (f : Nat) (h : q_rgz 10 99 v) (he : e.toInt = p + 2) (hp : p + 1 < 16) : ∃ e2, dz_B319_65_22 (f + 1) b (-v) e 0 = some (q_yb2 b p v.toInt.toNat, e2) := by
  have h0 := h.1
  have h1 := h.2
  have en := q_negI (q_rg_le h (by decide) (by decide))
  obtain ⟨a1, a2⟩ := q_ym1 (p := p + 1) (e := e) (by omega) (by omega)
  obtain ⟨a3, a4⟩ := q_ym1 (p := p) (e := e + (-1)) (by omega) (by omega)
  refine ⟨e + (-1) + (-1), ?_⟩
  rw [dzs_B319_65_22]
  unfold q_let
  dsimp only
  rw [q_lt_T (show (-100 : Int32).toInt < (-v).toInt by show (-100 : Int) < _; omega), q_lt_T (show (-v).toInt < (-9 : Int32).toInt by show _ < (-9 : Int); omega), Int32.neg_neg, q_in_rg h (by decide) (by decide), q_in_rg (x := e + (-1)) (l := p + 1) (u := p + 1) ⟨by omega, by omega⟩ (by omega) (by omega), q_in_rg (x := e + (-1) + (-1)) (l := p) (u := p) ⟨by omega, by omega⟩ (by omega) (by omega), a2, a4]
  rfl
theorem q_320c {v e : Int32} {p : Nat} (f : Nat) (h : q_rgz 100 4095 v) (he : e.toInt = p + 2) (hp : p + 1 < 16) : dz_B319_65_22 (f + 1) b (-v) e 0 = dz_B319_65_22 f (q_yb2 b p (v.toInt.toNat % 100)) (-(v / 100)) (e + (-1) + (-1)) 0 := by
  have h0 := h.1
  have h1 := h.2
  have en := q_negI (q_rg_le h (by decide) (by decide))
  have ed : (v / 100).toInt = v.toInt / 100 := q_toInt_div (by omega) (by decide)
  have en2 := q_negI (v := v / 100) ⟨by omega, by omega⟩
  have eq : (-v) / 100 = -(v / 100) := by
    apply Int32.toInt_inj.mp
    rw [Int32.toInt_div_of_ne_right _ _ (by decide), en, en2, ed, Int.neg_tdiv, show (100 : Int32).toInt = 100 from rfl, Int.tdiv_eq_ediv_of_nonneg (by omega)]
  have em : ((-(v / 100)) * 100).toInt = -(v.toInt / 100) * 100 := by
    rw [Int32.mul_comm, q_mulI (n := 100) rfl (by decide) (by decide) ⟨by omega, by omega⟩, en2, ed]
    omega
  have ex : ((-(v / 100)) * 100 - (-v)).toInt = v.toInt % 100 := by
    rw [q_subI ⟨by omega, by omega⟩ ⟨by omega, by omega⟩, em, en]
    omega
  have ek : ((-(v / 100)) * 100 - (-v)).toNatClampNeg = v.toInt.toNat % 100 := by
    show ((-(v / 100)) * 100 - (-v)).toInt.toNat = _
    omega
  obtain ⟨a1, a2⟩ := q_ym1 (p := p + 1) (e := e) (by omega) (by omega)
  obtain ⟨a3, a4⟩ := q_ym1 (p := p) (e := e + (-1)) (by omega) (by omega)
  rw [dzs_B319_65_22]
  unfold q_let
  generalize dz_B319_65_22 f = kk
  dsimp only
  rw [q_lt_F (show (-v).toInt ≤ (-100 : Int32).toInt by show _ ≤ (-100 : Int); omega), eq, q_in_rg (x := (-(v / 100)) * 100 - (-v)) (l := 0) (u := 99) ⟨by omega, by omega⟩ (by decide) (by decide), q_in_rg (x := e + (-1)) (l := p + 1) (u := p + 1) ⟨by omega, by omega⟩ (by omega) (by omega), q_in_rg (x := e + (-1) + (-1)) (l := p) (u := p) ⟨by omega, by omega⟩ (by omega) (by omega), a2, a4, ek]
  rfl
theorem q_yw326 {v : Int32} {k : Int32} {b2 : q_S} {e2 : Int32} (hv : 0 ≤ v.toInt) (h1 : dz_B320 b v = some k) (h0 : 0 ≤ (b.2.1 0 3 + k).toInt) (h2 : (b.2.1 0 3 + k).toInt ≤ 16) (h3 : dz_B319_65_22 5000 b (-v) (b.2.1 0 3 + k) 0 = some (b2, e2)) : dz_B325_64 b v = some (q_sI b2 0 3 (b.2.1 0 3 + k)) := by
  unfold dz_B325_64 dz_B339_64 q_let
  dsimp only
  rw [h1, Option.bind_some, q_b332 h0 h2, Option.bind_some]
  show ((cond true ((dz_B319_65 b v (b.2.1 0 3 + k)).bind fun r7 => some (q_sI r7.1 0 3 (b.2.1 0 3 + k))) none).bind fun r2 => some r2) = _
  unfold dz_B319_65
  rw [q_lt_F (show (0 : Int32).toInt ≤ v.toInt from hv), cond_false, h3]
  rfl
theorem q_wD1 (h : q_WL c d m n b z) (hn : n + 1 ≤ 16) (v : Int32) (hv : q_rgz 0 9 v) : ∃ b2 z2, dz_B325_64 b v = some b2 ∧ dz_M280_64 z v = some z2 ∧ q_WL c d m (n + 1) b2 z2 := by
  have v0 := hv.1
  have v1 := hv.2
  have h3 := h.2.2.1
  have eL : (b.2.1 0 3 + 1).toInt = n + 1 := by rw [q_addI ⟨by omega, by omega⟩ ⟨by decide, by decide⟩, h3]; rfl
  have e321 := q_321 (b := b) (v := v) ⟨by omega, by omega⟩
  rw [if_pos (show v.toInt < 10 by omega)] at e321
  obtain ⟨g0, r0⟩ := q_dgI (v := v) (by omega)
  obtain ⟨-, m0, w0⟩ := q_wC h (by omega) (q_dg v) r0
  obtain ⟨e2, c1⟩ := q_320a (b := b) (v := v) (e := b.2.1 0 3 + 1) (p := n) 4999 ⟨by omega, by omega⟩ (by omega) (by omega)
  refine ⟨_, _, q_yw326 (by omega) e321 (by omega) (by omega) c1, ?_, q_WLt w0 (by show (b.2.1 0 3 + 1).toInt = ((n + 1 : Nat) : Int); omega) fun i hi => ?_⟩
  · unfold dz_M280_64
    rw [q_281a 13 (by omega), m0]
    rfl
  · show q_chr ((upd (b.1 1) n (vp_nar .byte (q_o6.getD v.toInt.toNat 0))) i) = (upd (z.1 32) (n) (q_dg v)) i
    rcases (by omega : i < n ∨ i = n) with q | q
    · simp only [upd, if_neg (show ¬ i = n by omega)]
      exact h.2.2.2.2 i q
    · simp only [upd, if_pos (show i = n by omega)]
      rw [(q_yt67 v.toInt.toNat (by omega)).1, g0]
end
