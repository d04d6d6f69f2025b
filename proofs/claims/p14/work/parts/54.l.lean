section
variable {TT TT2 : (Nat → Int32) → Int32 → (Nat → Int32) → Int32 → Int64 → Int64 → List Int32 → List (Nat → Int32) → (Nat → Int64) → Prop} {x y z m : q_S} {c d w : Int} {K : Int64} {F : List Int32} {W : List (Nat → Int32)} {Q : Nat → Int64}
theorem q_sAsA (s : q_S) (i : Nat) (f g : Nat → Int32) : q_sA (q_sA s i f) i g = q_sA s i g := by
  refine Prod.ext ?_ rfl
  funext k
  show cond (Nat.beq k i) g (cond (Nat.beq k i) f (s.1 k)) = cond (Nat.beq k i) g (s.1 k)
  cases Nat.beq k i <;> rfl
theorem q_sAid (s : q_S) (i : Nat) : q_sA s i (s.1 i) = s := by
  refine Prod.ext ?_ rfl
  funext k
  show cond (Nat.beq k i) (s.1 i) (s.1 k) = s.1 k
  cases e : Nat.beq k i with
  | false => rfl
  | true => rw [Nat.eq_of_beq_eq_true e]; rfl
/-- assemble: what is behind its checks, in the model -/
def q_asM (s : q_S) (a b e0 : Int32) : Option (q_S × Int32) := (dz_M214_64 s a b).bind fun r28 => q_let (dz_M245 r28 b) fun r29 => cond (decide (1 < r29)) (q_let (dz_M212 r28 (a + 1)) fun r30 => (dz_M214_64 r28 r30 (e0 - e0 / 256 * 256)).bind fun r31 => dz_M278_64_90 r31 a b e0) (dz_M278_64_90 r28 a b e0)
theorem q_246s (s t : q_S) (b : Int32) : dz_M245 s b = dz_M245 t b := rfl
theorem q_aAsm (h : q_RO m x m) (hI : q_Iv c d w m) (a b e0 : Int32) (ha : q_rgz 0 4095 a) (hb : q_rgz 0 255 b) (he : q_rgz 0 4095 e0) (hl : (dz_M245 m b).toInt = 2 → e0.toInt ≤ 255) : ∃ y m2 r, dz_N79_64 x 3 a b e0 = some (y, r) ∧ dz_M278_64 m a b e0 = some (m2, r) ∧ q_RO m2 y m2 ∧ q_Act m m2 := by
  have a0 := ha.1
  have a1 := ha.2
  have b0 := hb.1
  have b1 := hb.2
  have c0 := he.1
  have c1 := he.2
  have z1 : (1 : Int32).toInt = 1 := rfl
  have z2 : (2 : Int32).toInt = 2 := rfl
  have h0 := q_ROk h
  obtain ⟨-, t2, -⟩ := q_code x m hb
  have e8 : b &&& 255 = b := by
    apply Int32.toInt_inj.mp
    rw [q_andI 8 (by decide) hb (by decide) (show (255 : Int32).toInt = 2 ^ 8 - 1 from rfl)]
    show b.toInt % 256 = _
    omega
  have s8 : e0 >>> ((8 &&& 31 : Int32)) = e0 / 256 := by
    apply Int32.toInt_inj.mp
    rw [q_shrI 8 rfl (by decide), q_toInt_div c0 (by decide)]; rfl
  have m8 : e0 &&& 255 = e0 - e0 / 256 * 256 := (q_m8z he).symm
  have r8 : q_rgz 0 255 (e0 / 256) := q_rg_le (q_rg_div (c := 256) (U := 15) he (by decide) rfl (by decide) (by decide)) (by decide) (by decide)
  have rm : q_rgz 0 255 (e0 &&& 255) := q_rg_and _ 255 (by decide) rfl
  have ra1 : q_rgz 0 4095 ((a + 1) &&& 4095) := q_rg_and _ 4095 (by decide) rfl
  have ra2 : q_rgz 0 4095 ((a + 2) &&& 4095) := q_rg_and _ 4095 (by decide) rfl
  -- the last byte and the result
  have lst : ∀ x1 m1, q_RO (q_mok m) x1 m1 → q_Iv c d w m1 → ∃ y m2, dz_N100_65_34 x1 a e0 (dz_M245 m b) = some (y, (a + dz_M245 m b) &&& 4095) ∧ dz_M278_64_90 m1 a b e0 = some (dz_M204_64 m2, (a + dz_M245 m b) &&& 4095) ∧ q_RO (q_mok m) y m2 := fun x1 m1 R1 I1 => by
    unfold dz_N100_65_34 dz_M278_64_90 q_let
    dsimp only
    rw [q_246s m1 m b]
    cases decide (2 < dz_M245 m b) with
    | false => exact ⟨x1, m1, rfl, rfl, R1⟩
    | true =>
      obtain ⟨y, m2, f1, f2, f3, -⟩ := q_wr94 R1 I1 ((a + 2) &&& 4095) (e0 / 256) ra2 r8
      have f2' : dz_M214_64 m1 (dz_M212 m1 (a + 2)) (e0 / 256) = some m2 := f2
      exact ⟨y, m2, by rw [cond_true, s8, f1]; rfl, by rw [cond_true, f2']; rfl, f3⟩
  obtain ⟨y1, m1, f1, f2, f3, f4, -⟩ := q_wr94 h0 (q_Ivk hI) a b ha hb
  have key : ∃ y m2, dz_N100_65 x a b e0 = some (y, (a + dz_M245 m b) &&& 4095) ∧ q_asM (q_mok m) a b e0 = some (dz_M204_64 m2, (a + dz_M245 m b) &&& 4095) ∧ q_RO (q_mok m) y m2 := by
    unfold dz_N100_65 q_asM q_let
    dsimp only
    rw [t2, f1, f2, Option.bind_some, Option.bind_some, q_246s m1 m b]
    cases decide (1 < dz_M245 m b) with
    | false => exact lst y1 m1 f3 f4
    | true =>
      obtain ⟨y2, m2, g1, g2, g3, g4, -⟩ := q_wr94 f3 f4 ((a + 1) &&& 4095) (e0 &&& 255) ra1 rm
      have g2' : dz_M214_64 m1 (dz_M212 m1 (a + 1)) (e0 - e0 / 256 * 256) = some m2 := by rw [← m8]; exact g2
      rw [cond_true, cond_true, g1, g2', Option.bind_some, Option.bind_some]
      exact lst y2 m2 g3 g4
  obtain ⟨y, m2, k1, k2, k3⟩ := key
  obtain ⟨g1, g2⟩ := q_actE k3
  refine ⟨y, _, (a + dz_M245 m b) &&& 4095, ?_, ?_, g1, g2⟩
  · show ((dz_N100_65 x a b e0).bind fun r5 => some (r5.1, r5.2)) = _
    rw [k1]; rfl
  · rw [← k2]
    unfold dz_M278_64 dz_M203 dz_M202 q_let
    dsimp only
    rw [q_202T (v := a) (by show (0 : Int) ≤ _; omega) (by show _ ≤ (4095 : Int); omega), q_202T (v := b) (by show (0 : Int) ≤ _; omega) (by show _ ≤ (255 : Int); omega), e8]
    by_cases k : (dz_M245 m b).toInt = 2
    · have := hl k
      rw [q_eq_T (show (dz_M245 m b).toInt = (2 : Int32).toInt by omega), q_202T (v := e0) (lo := 0) (hi := 255) (by show (0 : Int) ≤ _; omega) (by show _ ≤ (255 : Int); omega), q_yM200]
      rfl
    · rw [q_eq_F (show ¬ (dz_M245 m b).toInt = (2 : Int32).toInt by omega), q_202T (v := e0) (lo := 0) (hi := 4095) (by show (0 : Int) ≤ _; omega) (by show _ ≤ (4095 : Int); omega), q_yM200]
      rfl
end
