section
variable {TT TT2 : (Nat → Int32) → Int32 → (Nat → Int32) → Int32 → Int64 → Int64 → List Int32 → List (Nat → Int32) → (Nat → Int64) → Prop} {x y z m : q_S} {c d w : Int} {K : Int64} {F : List Int32} {W : List (Nat → Int32)} {Q : Nat → Int64}
theorem q_cpy0 {f g : Nat → Int32} {n k : Nat} (h : k < n) : va_cpy f g 0 0 n k = f k := by
  show (if 0 ≤ k ∧ k < 0 + n then f (0 + (k - 0)) else g k) = f k
  rw [if_pos ⟨Nat.zero_le k, by omega⟩, Nat.zero_add, Nat.sub_zero]
theorem q_cpyI {f g : Nat → Int32} {t n k : Nat} (h : k < n) : va_cpy f g t 0 n k = f (t + k) := by
  show (if 0 ≤ k ∧ k < 0 + n then f (t + (k - 0)) else g k) = f (t + k)
  rw [if_pos ⟨Nat.zero_le k, by omega⟩, Nat.sub_zero]
theorem q_cpyO {f g : Nat → Int32} {t n k : Nat} (h : k < n) : va_cpy f g 0 t n (t + k) = f k := by
  show (if t ≤ t + k ∧ t + k < t + n then f (0 + (t + k - t)) else g (t + k)) = f k
  rw [if_pos ⟨by omega, by omega⟩, Nat.zero_add, Nat.add_sub_cancel_left]
theorem q_cpyN {f g : Nat → Int32} {t n k : Nat} (h : k < t ∨ t + n ≤ k) : va_cpy f g 0 t n k = g k := by
  show (if t ≤ k ∧ k < t + n then f (0 + (k - t)) else g k) = g k
  rw [if_neg (by omega)]
/-- the machine that another becomes -/
def q_src (s : q_S) : q_S := (fun j => s.1 (j + 32), fun j => s.2.1 (j + 32), fun j => s.2.2 (j + 32))
theorem q_bcm (s : q_S) (h6 : q_rgz 0 1 (s.2.1 55 6)) (h7 : q_rgz 0 1 (s.2.1 55 7)) : ∃ r, dz_W77_64_96 s = some r ∧ q_agX (q_src s) r ∧ q_src r = q_src s ∧ r.2.2 0 4 = s.2.2 32 4 ∧ r.1 24 = va_cpy (s.1 56) (s.1 24) 0 0 16 := by
  unfold dz_W77_64_96 dz_W131_87_119 q_let
  dsimp only
  rw [show q_z1 ((dz_W85_65_97 s).2.1 55 6) = true from q_z1_rg h6, show q_z1 ((dz_W85_65_97 s).2.1 55 7) = true from q_z1_rg h7]
  refine ⟨_, rfl, ⟨?_, ?_, ?_, ?_, ?_, ?_, ?_, ?_, ?_, ?_, ?_, ?_, ?_, ?_, ?_, ?_, ?_, ?_, ?_, ?_, ?_, ?_, ?_, ?_, ?_, ?_, ?_, ?_, ?_, ?_, ?_, ?_, ?_, ?_⟩, ?_, rfl, rfl⟩
  · intro k hk
    show va_cpy (s.1 35) (s.1 3) 0 0 4096 k = s.1 35 k
    exact q_cpy0 hk
  · intro k hk
    show va_cpy (s.1 36) (s.1 4) 0 0 48 k = s.1 36 k
    exact q_cpy0 hk
  · intro k hk
    show va_cpy (s.1 37) (s.1 5) 0 0 512 k = s.1 37 k
    exact q_cpy0 hk
  · intro k hk
    show va_cpy (s.1 38) (s.1 6) 0 0 2048 k = s.1 38 k
    exact q_cpy0 hk
  · intro k hk
    show va_cpy (s.1 39) (s.1 7) 0 0 2 k = s.1 39 k
    exact q_cpy0 hk
  · intro k hk
    show va_cpy (s.1 41) (s.1 9) 0 0 40 k = s.1 41 k
    exact q_cpy0 hk
  · intro k hk
    show va_cpy (s.1 43) (s.1 11) 0 0 4 k = s.1 43 k
    exact q_cpy0 hk
  · intro k hk
    show va_cpy (s.1 44) (s.1 12) 0 0 16 k = s.1 44 k
    exact q_cpy0 hk
  · intro k hk
    show va_cpy (s.1 56) (s.1 24) 0 0 16 k = s.1 56 k
    exact q_cpy0 hk
  · intro k hk
    show va_cpy (s.1 58) (s.1 26) 0 0 3 k = s.1 58 k
    exact q_cpy0 hk
  · intro k hk
    show va_cpy (s.1 59) (s.1 27) 0 0 3 k = s.1 59 k
    exact q_cpy0 hk
  · intro k hk
    show va_cpy (s.1 60) (s.1 28) 0 0 3 k = s.1 60 k
    exact q_cpy0 hk
  · intro k hk
    show va_cpy (s.1 61) (s.1 29) 0 0 3 k = s.1 61 k
    exact q_cpy0 hk
  · intro k hk
    show va_cpy (s.1 62) (s.1 30) 0 0 40 k = s.1 62 k
    exact q_cpy0 hk
  · intro k hk
    show va_cpy (s.1 63) (s.1 31) 0 0 1024 k = s.1 63 k
    exact q_cpy0 hk
  · rfl
  · rfl
  · rfl
  · rfl
  · rfl
  · rfl
  · rfl
  · rfl
  · rfl
  · rfl
  · rfl
  · rfl
  · rfl
  · rfl
  · rfl
  · rfl
  · rfl
  · rfl
  · rfl
  · rfl
end
