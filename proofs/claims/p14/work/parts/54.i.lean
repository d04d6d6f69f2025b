section
variable {TT TT2 : (Nat → Int32) → Int32 → (Nat → Int32) → Int32 → Int64 → Int64 → List Int32 → List (Nat → Int32) → (Nat → Int64) → Prop} {x y z m : q_S} {c d w : Int} {K : Int64} {F : List Int32} {W : List (Nat → Int32)} {Q : Nat → Int64}
def q_svF (m : q_S) : List Int32 := [m.2.1 0 17, m.2.1 0 34, m.2.1 0 35, m.2.1 0 39]
def q_svW (m : q_S) : List (Nat → Int32) := [m.1 16, m.1 17, m.1 18, m.1 19, m.1 20, m.1 21, m.1 22, m.1 23, m.1 24, m.1 25, m.1 26, m.1 27, m.1 28, m.1 29, m.1 30, m.1 31, m.1 32]
/-- class and model alike; what is saved is m0's -/
def q_RO (m0 x m : q_S) : Prop := q_R (q_TT0 0 (q_svF m0) (q_svW m0) (m0.2.2 31)) x m
/-- what an action leaves as it was -/
def q_Act (m m2 : q_S) : Prop := q_svW m2 = q_svW m ∧ m2.2.2 31 = m.2.2 31 ∧ m2.2.1 0 17 = m.2.1 0 17 ∧ m2.2.1 0 34 = cond (decide (m.2.1 0 34 < 0)) (m.2.1 0 34) (m.2.1 0 34 + 1) ∧ m2.2.1 0 35 = m.2.1 0 35 ∧ m2.2.1 0 39 = 0
def q_mok (m : q_S) : q_S := q_sI m 0 39 0
theorem q_RO_F (h : q_R (q_TT0 0 F W Q) x m) : F = q_svF m ∧ W = q_svW m ∧ Q = m.2.2 31 := by
  obtain ⟨-, -, -, a, b, e⟩ := q_R_t h
  exact ⟨a.symm, b.symm, e.symm⟩
theorem q_R_TT (h : q_R TT x m) (t : TT2 (x.1 24) (x.2.1 23 11) (m.1 9) (m.1 14 20) (x.2.2 0 4) (m.2.2 0 16) [m.2.1 0 17, m.2.1 0 34, m.2.1 0 35, m.2.1 0 39] [m.1 16, m.1 17, m.1 18, m.1 19, m.1 20, m.1 21, m.1 22, m.1 23, m.1 24, m.1 25, m.1 26, m.1 27, m.1 28, m.1 29, m.1 30, m.1 31, m.1 32] (m.2.2 31)) : q_R TT2 x m := by
  obtain ⟨h1, h2, h3, h4, h5, ⟨p1, p2, p3, p4, p5, p6, p7, p8, p9, p10, p11⟩, h7, h8⟩ := h
  exact ⟨h1, h2, h3, h4, h5, ⟨p1, p2, p3, p4, p5, p6, p7, p8, t, p10, p11⟩, h7, h8⟩
theorem q_RO_own (h : q_R (q_TT0 0 F W Q) x m) : q_RO m x m := by
  have t := q_R_t h
  exact q_R_TT h ⟨t.1, t.2.1, t.2.2.1, rfl, rfl, rfl⟩
/-- a model's own word changes -/
theorem q_RO_I (h : q_RO m x m) (k : Nat) (v : Int32) (hk : (Nat.beq k 17 || (Nat.beq k 34 || (Nat.beq k 35 || Nat.beq k 39))) = true) : q_RO (q_sI m 0 k v) x (q_sI m 0 k v) := by
  have t := q_R_t h
  obtain ⟨h1, h2, h3, h4, h5, ⟨p1, p2, p3, p4, p5, p6, p7, p8, p9, p10, p11⟩, h7, h8⟩ := h
  exact ⟨h1, h2, h3, h4, h5, ⟨p1, p2, p3, p4, p5, p6, p7, p8, ⟨t.1, t.2.1, t.2.2.1, rfl, rfl, rfl⟩, p10, p11⟩, h7, h8⟩
theorem q_yM205 (m : q_S) : dz_M204_64 m = cond (decide (m.2.1 0 34 < 0)) m (q_sI m 0 34 (m.2.1 0 34 + 1)) := rfl
/-- the end of an action -/
theorem q_actE (h : q_RO (q_mok m) y z) : q_RO (dz_M204_64 z) y (dz_M204_64 z) ∧ q_Act m (dz_M204_64 z) := by
  obtain ⟨f1, f2, f3⟩ := q_RO_F h
  have f1' : [m.2.1 0 17, m.2.1 0 34, m.2.1 0 35, (0 : Int32)] = [z.2.1 0 17, z.2.1 0 34, z.2.1 0 35, z.2.1 0 39] := f1
  injection f1' with a1 b1
  injection b1 with a2 b2
  injection b2 with a3 b3
  injection b3 with a4 b4
  have o := q_RO_own h
  rw [q_yM205]
  unfold q_Act
  rw [a1, a2, a3]
  cases e : decide (z.2.1 0 34 < 0) with
  | true => exact ⟨o, f2.symm, f3.symm, rfl, rfl, rfl, a4.symm⟩
  | false => exact ⟨q_RO_I o 34 _ rfl, f2.symm, f3.symm, rfl, rfl, rfl, a4.symm⟩
theorem q_R_rom (h : q_R TT x m) (k : Nat) (v : Int32) : q_R TT (q_sA x 5 (upd (x.1 5) k v)) (q_sA m 2 (upd (m.1 2) k v)) := by
  obtain ⟨⟨a1, a2, a3⟩, h2⟩ := h
  refine ⟨⟨a1, fun j hj => ?_, a3⟩, h2⟩
  show upd (x.1 5) k v j = upd (m.1 2) k v j
  by_cases e : j = k
  · rw [q_upE _ _ e, q_upE _ _ e]
  · rw [q_upN _ _ e, q_upN _ _ e]; exact a2 j hj
theorem q_R_car (h : q_R TT x m) (k : Nat) (v : Int32) : q_R TT (q_sA x 6 (upd (x.1 6) k v)) (q_sA m 3 (upd (m.1 3) k v)) := by
  obtain ⟨⟨a1, a2, a3⟩, h2⟩ := h
  refine ⟨⟨a1, a2, fun j hj => ?_⟩, h2⟩
  show upd (x.1 6) k v j = upd (m.1 3) k v j
  by_cases e : j = k
  · rw [q_upE _ _ e, q_upE _ _ e]
  · rw [q_upN _ _ e, q_upN _ _ e]; exact a3 j hj
theorem q_yM200 (m : q_S) : dz_M199_64 m 0 = (q_mok m, false) := rfl
theorem q_ROk (h : q_RO m x m) : q_RO (q_mok m) x (q_mok m) := q_RO_I h 39 0 rfl
theorem q_Ivk (hI : q_Iv c d w m) : q_Iv c d w (q_mok m) := q_Iv_I (i := 0) (m := 39) hI (q_rg_full _)
/-- poke -/
theorem q_aPoke (h : q_RO m x m) (hI : q_Iv c d w m) (a b e0 : Int32) (ha : q_rgz 0 4095 a) (hb : q_rgz 0 255 b) : ∃ y m2 r, dz_N79_64 x 0 a b e0 = some (y, r) ∧ dz_M215_64 m a b = some (m2, r) ∧ q_RO m2 y m2 ∧ q_Act m m2 := by
  have a0 := ha.1
  have a1 := ha.2
  have b0 := hb.1
  have b1 := hb.2
  have h0 := q_ROk h
  obtain ⟨v, m1, e1, e2, e3, e4, e5, e6⟩ := q_rdz h0 (q_Ivk hI) a ha
  obtain ⟨y, m2, f1, f2, f3, f4, f5, f6⟩ := q_wr94 e4 e5 a b ha hb
  obtain ⟨g1, g2⟩ := q_actE f3
  refine ⟨y, dz_M204_64 m2, v, ?_, ?_, g1, g2⟩
  · show ((dz_N97_65 x a b).bind fun r2 => some (r2.1, r2.2)) = _
    unfold dz_N97_65
    rw [e1, Option.bind_some, f1]; rfl
  · unfold dz_M215_64 dz_M203 dz_M202 q_let
    dsimp only
    rw [q_202T (v := a) (by show (0 : Int) ≤ _; omega) (by show _ ≤ (4095 : Int); omega), q_202T (v := b) (by show (0 : Int) ≤ _; omega) (by show _ ≤ (255 : Int); omega), q_yM200]
    show ((dz_M213_64 (q_mok m) a).bind fun r15 => (dz_M214_64 r15.1 a b).bind fun r16 => some (dz_M204_64 r16, r15.2)) = _
    rw [e2, Option.bind_some, f2]; rfl
theorem q_aRom (h : q_RO m x m) (a b e0 : Int32) (ha : q_rgz 0 511 a) (hb : q_rgz 0 255 b) : ∃ y m2 r, dz_N79_64 x 1 a b e0 = some (y, r) ∧ dz_M216_64 m a b = some (m2, r) ∧ q_RO m2 y m2 ∧ q_Act m m2 := by
  have a0 := ha.1
  have a1 := ha.2
  have b0 := hb.1
  have b1 := hb.2
  have h0 := q_ROk h
  have e9 : a &&& 511 = a := by
    apply Int32.toInt_inj.mp
    rw [q_andI 9 (by decide) ha (by decide) (show (511 : Int32).toInt = 2 ^ 9 - 1 from rfl)]
    show a.toInt % 512 = _
    omega
  have f3 := q_R_rom h0 a.toNatClampNeg b
  obtain ⟨g1, g2⟩ := q_actE f3
  have ek : a.toNatClampNeg = a.toInt.toNat := rfl
  refine ⟨_, _, m.1 2 a.toNatClampNeg, ?_, ?_, g1, g2⟩
  · show some (dz_N98_65 x a b) = _
    unfold dz_N98_65
    rw [e9, h.r1.2.1 _ (by omega)]
  · unfold dz_M216_64 dz_M202 q_let
    dsimp only
    rw [q_202T (v := a) (by show (0 : Int) ≤ _; omega) (by show _ ≤ (511 : Int); omega), q_202T (v := b) (by show (0 : Int) ≤ _; omega) (by show _ ≤ (255 : Int); omega), q_yM200, q_in_rg ha (by decide) (by decide)]
    rfl
theorem q_aCar (h : q_RO m x m) (a b e0 : Int32) (ha : q_rgz 0 3 a) (hb : q_rgz 0 511 b) (he : q_rgz 0 255 e0) : ∃ y m2 r, dz_N79_64 x 2 a b e0 = some (y, r) ∧ dz_M217_64 m a b e0 = some (m2, r) ∧ q_RO m2 y m2 ∧ q_Act m m2 := by
  have a0 := ha.1
  have a1 := ha.2
  have b0 := hb.1
  have b1 := hb.2
  have c0 := he.1
  have c1 := he.2
  have h0 := q_ROk h
  have em : (512 * a).toInt = 512 * a.toInt := q_mulI (n := 512) rfl (by decide) (by decide) ⟨by omega, by omega⟩
  have ei : ((512 * a) + b).toInt = 512 * a.toInt + b.toInt := by rw [q_addI ⟨by omega, by omega⟩ ⟨by omega, by omega⟩, em]
  have ri : q_rgz 0 2047 ((512 * a) + b) := ⟨by omega, by omega⟩
  have e9 : ((512 * a) + b) &&& 2047 = (512 * a) + b := by
    apply Int32.toInt_inj.mp
    rw [q_andI 11 (by decide) ri (by decide) (show (2047 : Int32).toInt = 2 ^ 11 - 1 from rfl)]
    show _ % 2048 = _
    omega
  have f3 := q_R_car h0 ((512 * a) + b).toNatClampNeg e0
  obtain ⟨g1, g2⟩ := q_actE f3
  have ek : ((512 * a) + b).toNatClampNeg = ((512 * a) + b).toInt.toNat := rfl
  refine ⟨_, _, m.1 3 ((512 * a) + b).toNatClampNeg, ?_, ?_, g1, g2⟩
  · show some (dz_N99_65 x ((512 * a) + b) e0) = _
    unfold dz_N99_65
    rw [e9, h.r1.2.2 _ (by omega)]
  · unfold dz_M217_64 dz_M202 q_let
    dsimp only
    rw [q_202T (v := a) (by show (0 : Int) ≤ _; omega) (by show _ ≤ (3 : Int); omega), q_202T (v := b) (by show (0 : Int) ≤ _; omega) (by show _ ≤ (511 : Int); omega), q_202T (v := e0) (by show (0 : Int) ≤ _; omega) (by show _ ≤ (255 : Int); omega), q_yM200, q_in_rg ri (by decide) (by decide)]
    rfl
theorem q_aJoy (h : q_RO m x m) (a b e0 : Int32) (ha : q_rgz 0 15 a) : ∃ y m2 r, dz_N79_64 x 10 a b e0 = some (y, r) ∧ dz_M299_64 m a = (m2, r) ∧ q_RO m2 y m2 ∧ q_Act m m2 := by
  have a0 := ha.1
  have a1 := ha.2
  have h0 := q_ROk h
  have f3 : q_RO (q_mok m) (q_sI x 10 2 a) (q_sA (q_mok m) 14 (upd ((q_mok m).1 14) 12 a)) := by
    obtain ⟨h1, h2, h3, h4, ⟨p1, p2⟩, h6, h7, h8⟩ := h0
    exact ⟨h1, h2, h3, h4, ⟨rfl, p2⟩, h6, h7, h8⟩
  obtain ⟨g1, g2⟩ := q_actE f3
  refine ⟨_, _, m.1 14 12, ?_, ?_, g1, g2⟩
  · show some (q_sI x 10 2 a, x.2.1 10 2) = _
    rw [h.r5.1]
  · unfold dz_M299_64 q_let
    dsimp only
    rw [q_202T (v := a) (by show (0 : Int) ≤ _; omega) (by show _ ≤ (15 : Int); omega), q_yM200]
    rfl
end
