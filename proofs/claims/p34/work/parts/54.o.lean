section
variable {TT TT2 : (Nat → Int32) → Int32 → (Nat → Int32) → Int32 → Int64 → Int64 → List Int32 → List (Nat → Int32) → (Nat → Int64) → Prop} {x y z m : q_S} {c d w : Int} {K : Int64} {F : List Int32} {W : List (Nat → Int32)} {Q : Nat → Int64}
/-- the class' sum over pressed keys reads their rows alone -/
theorem q_c51 (k7 k7' : q_S → Int32 → Int32 → Int32 → Option Int32) (s s' : q_S) (h : s.1 11 = s'.1 11) (hk : ∀ v2 v3 v4, k7 s v2 v3 v4 = k7' s' v2 v3 v4) : ∀ (f : Nat) (v2 v3 v4 v5 : Int32), dz_N182_74_51 k7 f s v2 v3 v4 v5 = dz_N182_74_51 k7' f s' v2 v3 v4 v5 := by
  intro f
  induction f with
  | zero => intro v2 v3 v4 v5; rfl
  | succ f ih =>
    intro v2 v3 v4 v5
    rw [dzs_N182_74_51, dzs_N182_74_51]
    dsimp only
    rw [h, hk, ih, ih]
theorem q_c16 (k7 k7' : q_S → Int32 → Int32 → Int32 → Option Int32) (s s' : q_S) (h : s.1 11 = s'.1 11) (hk : ∀ v2 v3 v4, k7 s v2 v3 v4 = k7' s' v2 v3 v4) : ∀ (f : Nat) (v2 v3 v4 v5 : Int32), dz_N182_74_16 k7 f s v2 v3 v4 v5 = dz_N182_74_16 k7' f s' v2 v3 v4 v5 := by
  intro f
  induction f with
  | zero => intro v2 v3 v4 v5; rfl
  | succ f ih =>
    intro v2 v3 v4 v5
    rw [dzs_N182_74_16, dzs_N182_74_16]
    generalize e51 : dz_N182_74_51 k7 5000 s v2 v3 v4 0 = r51
    generalize e51' : dz_N182_74_51 k7' 5000 s' v2 v3 v4 0 = r51'
    have e9 : r51 = r51' := by rw [← e51, ← e51']; exact q_c51 k7 k7' s s' h hk 5000 v2 v3 v4 0
    dsimp only
    rw [e51, e51', h, ih, ih, e9]
theorem q_c7 (s s' : q_S) (h : s.1 11 = s'.1 11) : ∀ (f : Nat) (v2 v3 v4 : Int32), dz_N182_74_7 f s v2 v3 v4 = dz_N182_74_7 f s' v2 v3 v4 := by
  intro f
  induction f with
  | zero => intro v2 v3 v4; rfl
  | succ f ih =>
    intro v2 v3 v4
    rw [dzs_N182_74_7, dzs_N182_74_7]
    generalize e51 : dz_N182_74_16 (dz_N182_74_7 f) 5000 s v2 v3 v4 0 = r51
    generalize e51' : dz_N182_74_16 (dz_N182_74_7 f) 5000 s' v2 v3 v4 0 = r51'
    have e9 : r51 = r51' := by rw [← e51, ← e51']; exact q_c16 _ _ s s' h ih 5000 v2 v3 v4 0
    dsimp only
    rw [e51, e51', e9]
theorem q_cs182 (s : q_S) (r : Int32) : dz_N182_74 s r = q_cs (s.1 11) r := by
  unfold q_cs dz_N182_74
  exact q_c7 _ _ rfl 5000 r 0 0
end
