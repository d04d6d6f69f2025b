section
variable {TT TT2 : (Nat → Int32) → Int32 → (Nat → Int32) → Int32 → Int64 → Int64 → List Int32 → List (Nat → Int32) → (Nat → Int64) → Prop} {x y z m : q_S} {c d w : Int} {K : Int64} {F : List Int32} {W : List (Nat → Int32)} {Q : Nat → Int64}
/-- the loops that put a value into a row -/
theorem q_lp4 (v1 : Int32) : ∀ (n f : Nat) (s : q_S) (v2 : Int32), v2.toInt + n = 48 → 0 ≤ v2.toInt → n ≤ f → ∃ g, dz_N317_68_5 (f + 1) s v1 v2 48 = some (q_sA s 4 g) ∧ (∀ k : Nat, (k : Int) < v2.toInt ∨ 48 ≤ k → g k = s.1 4 k) ∧ (∀ k : Nat, v2.toInt ≤ (k : Int) → k < 48 → g k = v1) := by
  intro n
  induction n with
  | zero =>
    intro f s v2 h1 h2 h3
    refine ⟨s.1 4, ?_, fun _ _ => rfl, fun k hk hk2 => absurd hk (by omega)⟩
    rw [dzs_N317_68_5]
    dsimp only
    rw [q_lt_F (by show (48 : Int) ≤ _; omega), cond_false, q_sAid]
  | succ n ih =>
    intro f s v2 h1 h2 h3
    obtain ⟨f, rfl⟩ : ∃ f', f = f' + 1 := ⟨f - 1, by omega⟩
    have e1 : (v2 + 1).toInt = v2.toInt + 1 := q_addI ⟨by omega, by omega⟩ ⟨by decide, by decide⟩
    have ek : v2.toNatClampNeg = v2.toInt.toNat := rfl
    obtain ⟨g, a1, a2, a3⟩ := ih f (q_sA s 4 (upd (s.1 4) v2.toNatClampNeg v1)) (v2 + 1) (by omega) (by omega) (by omega)
    have hu : ∀ k, (q_sA s 4 (upd (s.1 4) v2.toNatClampNeg v1)).1 4 k = upd (s.1 4) v2.toNatClampNeg v1 k := fun _ => rfl
    refine ⟨g, ?_, fun k hk => ?_, fun k hk hk2 => ?_⟩
    · rw [dzs_N317_68_5]
      generalize dz_N317_68_5 (f + 1) = kk at a1 ⊢
      dsimp only
      rw [q_lt_T (by show _ < (48 : Int); omega), cond_true, q_in_rg (l := 0) (u := 47) ⟨h2, by omega⟩ (by decide) (by decide), cond_true, a1, q_sAsA]
    · rw [a2 k (by omega), hu, q_upN _ _ (by omega)]
    · by_cases e : k = v2.toNatClampNeg
      · rw [a2 k (by omega), hu, q_upE _ _ e]
      · exact a3 k (by omega) hk2
theorem q_lpM7 : ∀ (n f : Nat) (s : q_S) (v1 : Int32), v1.toInt + n = 48 → 0 ≤ v1.toInt → n ≤ f → ∃ g, dz_M290_64_7 (f + 1) s v1 = dz_M290_64_28 5000 (q_sA s 4 g) 0 ∧ (∀ k : Nat, (k : Int) < v1.toInt ∨ 48 ≤ k → g k = s.1 4 k) ∧ (∀ k : Nat, v1.toInt ≤ (k : Int) → k < 48 → g k = 0) := by
  intro n
  induction n with
  | zero =>
    intro f s v2 h1 h2 h3
    refine ⟨s.1 4, ?_, fun _ _ => rfl, fun k hk hk2 => absurd hk (by omega)⟩
    rw [dzs_M290_64_7]
    generalize dz_M290_64_28 5000 = kk
    dsimp only
    rw [q_lt_F (by show (48 : Int) ≤ _; omega), cond_false, q_sAid]
  | succ n ih =>
    intro f s v2 h1 h2 h3
    obtain ⟨f, rfl⟩ : ∃ f', f = f' + 1 := ⟨f - 1, by omega⟩
    have e1 : (v2 + 1).toInt = v2.toInt + 1 := q_addI ⟨by omega, by omega⟩ ⟨by decide, by decide⟩
    have ek : v2.toNatClampNeg = v2.toInt.toNat := rfl
    obtain ⟨g, a1, a2, a3⟩ := ih f (q_sA s 4 (upd (s.1 4) v2.toNatClampNeg 0)) (v2 + 1) (by omega) (by omega) (by omega)
    have hu : ∀ k, (q_sA s 4 (upd (s.1 4) v2.toNatClampNeg 0)).1 4 k = upd (s.1 4) v2.toNatClampNeg 0 k := fun _ => rfl
    refine ⟨g, ?_, fun k hk => ?_, fun k hk hk2 => ?_⟩
    · rw [dzs_M290_64_7]
      generalize dz_M290_64_7 (f + 1) = kk at a1 ⊢
      generalize dz_M290_64_28 5000 = kk2 at a1 ⊢
      dsimp only
      rw [q_lt_T (by show _ < (48 : Int); omega), cond_true, q_in_rg (l := 0) (u := 47) ⟨h2, by omega⟩ (by decide) (by decide), cond_true, a1, q_sAsA]
    · rw [a2 k (by omega), hu, q_upN _ _ (by omega)]
    · by_cases e : k = v2.toNatClampNeg
      · rw [a2 k (by omega), hu, q_upE _ _ e]
      · exact a3 k (by omega) hk2
def q_z28 (s : q_S) (g : Nat → Int32) : q_S := q_sA s 14 (upd (upd g 3 255) 17 0)
theorem q_lpM28 : ∀ (n f : Nat) (s : q_S) (v1 : Int32), v1.toInt + n = 12 → 0 ≤ v1.toInt → n ≤ f → ∃ g, dz_M290_64_28 (f + 1) s v1 = dz_M290_64_66 5000 (q_z28 s g) 0 ∧ (∀ k : Nat, (k : Int) < v1.toInt ∨ 12 ≤ k → g k = s.1 14 k) ∧ (∀ k : Nat, v1.toInt ≤ (k : Int) → k < 12 → g k = 0) := by
  intro n
  induction n with
  | zero =>
    intro f s v2 h1 h2 h3
    refine ⟨s.1 14, ?_, fun _ _ => rfl, fun k hk hk2 => absurd hk (by omega)⟩
    rw [dzs_M290_64_28]
    generalize dz_M290_64_66 5000 = kk
    unfold q_z28 q_let
    dsimp only
    rw [q_lt_F (by show (12 : Int) ≤ _; omega), cond_false, q_sAsA]
    rfl
  | succ n ih =>
    intro f s v2 h1 h2 h3
    obtain ⟨f, rfl⟩ : ∃ f', f = f' + 1 := ⟨f - 1, by omega⟩
    have e1 : (v2 + 1).toInt = v2.toInt + 1 := q_addI ⟨by omega, by omega⟩ ⟨by decide, by decide⟩
    have ek : v2.toNatClampNeg = v2.toInt.toNat := rfl
    obtain ⟨g, a1, a2, a3⟩ := ih f (q_sA s 14 (upd (s.1 14) v2.toNatClampNeg 0)) (v2 + 1) (by omega) (by omega) (by omega)
    have hu : ∀ k, (q_sA s 14 (upd (s.1 14) v2.toNatClampNeg 0)).1 14 k = upd (s.1 14) v2.toNatClampNeg 0 k := fun _ => rfl
    unfold q_z28 at a1 ⊢
    refine ⟨g, ?_, fun k hk => ?_, fun k hk hk2 => ?_⟩
    · rw [dzs_M290_64_28]
      generalize dz_M290_64_28 (f + 1) = kk at a1 ⊢
      generalize dz_M290_64_66 5000 = kk2 at a1 ⊢
      dsimp only
      rw [q_lt_T (by show _ < (12 : Int); omega), cond_true, q_in_rg (l := 0) (u := 11) ⟨h2, by omega⟩ (by decide) (by decide), cond_true, a1, q_sAsA]
    · rw [a2 k (by omega), hu, q_upN _ _ (by omega)]
    · by_cases e : k = v2.toNatClampNeg
      · rw [a2 k (by omega), hu, q_upE _ _ e]
      · exact a3 k (by omega) hk2
def q_z66 (s : q_S) : Option (q_S × Int32) := (dz_M247_64 s 3836).bind fun r2 => q_let (dz_M204_64 (q_sA r2.1 14 (upd (r2.1.1 14) 4 r2.2))) fun r3 => some (r3, ((r3.1 14) 4))
theorem q_lpM66 : ∀ (n f : Nat) (s : q_S) (v1 : Int32), v1.toInt + n = 8 → 0 ≤ v1.toInt → n ≤ f → ∃ g, dz_M290_64_66 (f + 1) s v1 = q_z66 (q_sA s 15 g) ∧ (∀ k : Nat, (k : Int) < v1.toInt ∨ 8 ≤ k → g k = s.1 15 k) ∧ (∀ k : Nat, v1.toInt ≤ (k : Int) → k < 8 → g k = q_b (Nat.beq k 3)) := by
  intro n
  induction n with
  | zero =>
    intro f s v2 h1 h2 h3
    refine ⟨s.1 15, ?_, fun _ _ => rfl, fun k hk hk2 => absurd hk (by omega)⟩
    rw [dzs_M290_64_66]
    dsimp only
    rw [q_lt_F (by show (8 : Int) ≤ _; omega), cond_false, q_sAid]
    rfl
  | succ n ih =>
    intro f s v2 h1 h2 h3
    obtain ⟨f, rfl⟩ : ∃ f', f = f' + 1 := ⟨f - 1, by omega⟩
    have e1 : (v2 + 1).toInt = v2.toInt + 1 := q_addI ⟨by omega, by omega⟩ ⟨by decide, by decide⟩
    have ek : v2.toNatClampNeg = v2.toInt.toNat := rfl
    have z3 : (3 : Int32).toInt = 3 := rfl
    obtain ⟨g, a1, a2, a3⟩ := ih f (q_sA s 15 (upd (s.1 15) v2.toNatClampNeg (q_b (Nat.beq v2.toNatClampNeg 3)))) (v2 + 1) (by omega) (by omega) (by omega)
    have hu : ∀ k, (q_sA s 15 (upd (s.1 15) v2.toNatClampNeg (q_b (Nat.beq v2.toNatClampNeg 3)))).1 15 k = upd (s.1 15) v2.toNatClampNeg (q_b (Nat.beq v2.toNatClampNeg 3)) k := fun _ => rfl
    refine ⟨g, ?_, fun k hk => ?_, fun k hk hk2 => ?_⟩
    · rw [dzs_M290_64_66]
      generalize dz_M290_64_66 (f + 1) = kk at a1 ⊢
      dsimp only
      rw [q_lt_T (by show _ < (8 : Int); omega), cond_true, q_in_rg (l := 0) (u := 7) ⟨h2, by omega⟩ (by decide) (by decide)]
      rw [q_sAsA] at a1
      by_cases e3 : v2.toInt = 3
      · rw [show v2 = 3 from Int32.toInt_inj.mp e3] at a1 ⊢
        exact a1
      · rw [q_eq_F (by omega), cond_false, cond_true]
        have e9 : Nat.beq v2.toNatClampNeg 3 = false := by
          cases e9 : Nat.beq v2.toNatClampNeg 3 with
          | false => rfl
          | true => exact absurd (Nat.eq_of_beq_eq_true e9) (by omega)
        rw [e9] at a1
        exact a1
    · rw [a2 k (by omega), hu, q_upN _ _ (by omega)]
    · by_cases e : k = v2.toNatClampNeg
      · rw [a2 k (by omega), hu, q_upE _ _ e, e]
      · exact a3 k (by omega) hk2
theorem q_N318b (s : q_S) : dz_N317_71 s 0 = some (q_sA s 7 (upd (upd (s.1 7) 0 0) 1 0)) := by
  unfold dz_N317_71
  rw [show (5000 : Nat) = 4997 + 1 + 1 + 1 from rfl, dzs_N317_71_5]
  show dz_N317_71_5 (4997 + 1 + 1) (q_sA s 7 (upd (s.1 7) 0 0)) 0 1 2 = _
  rw [dzs_N317_71_5]
  show dz_N317_71_5 (4997 + 1) (q_sA (q_sA s 7 (upd (s.1 7) 0 0)) 7 (upd (upd (s.1 7) 0 0) 1 0)) 0 2 2 = _
  rw [dzs_N317_71_5]
  show some (q_sA (q_sA s 7 (upd (s.1 7) 0 0)) 7 (upd (upd (s.1 7) 0 0) 1 0)) = _
  rw [q_sAsA s 7 (upd (s.1 7) 0 0) (upd (upd (s.1 7) 0 0) 1 0)]
end
