section
variable {TT : (Nat → Int32) → Int32 → (Nat → Int32) → Int32 → Int64 → Int64 → List Int32 → List (Nat → Int32) → (Nat → Int64) → Prop} {x y z m m2 b b2 : q_S} {c d w k : Int} {n : Nat}
/-- the name of a code -/
theorem q_wN (h : q_WL c d m n b z) (hn : n + 3 ≤ 16) (a : Int32) (ha : q_rgz 0 255 a) (hj : dz_M284 z a = false) : ∃ b2 z2, dz_B193_64 b a = some b2 ∧ dz_M281_64 z a = some z2 ∧ q_WL c d m (n + 3) b2 z2 := by
  obtain ⟨-, t2, t3⟩ := q_lnc z ha
  cases ho : decide (dz_M243 z a < 0) with
  | true =>
    obtain ⟨g1, g2, g3, g4, -, -⟩ := t2 hj ho
    obtain ⟨b2, z1, z2, z3, e1, e2, e3, e4, e5⟩ := q_wL13 h hn (3 * (a - 128)) g4 4996
    have g1' : dz_B185 b a = -1 := g1
    refine ⟨b2, z3, ?_, q_w282b ho g4 e2 e3 e4 4996, e5⟩
    unfold dz_B193_64 q_let
    dsimp only
    rw [g1', show decide ((-1 : Int32) < 0) = true by decide, cond_true, g2, cond_false, show dz_B343_13 b = 120 by show ((120 : Int32) >>> ((0 : Int32) &&& 31)) = 120; decide, g3, cond_true]
    exact e1
  | false =>
    obtain ⟨g1, g2, g3, g4, -⟩ := t3 ho
    obtain ⟨b2, z1, z2, z3, e1, e2, e3, e4, e5⟩ := q_wL12 h hn (3 * dz_M243 z a) g4 4996
    have g1' : dz_B185 b a = dz_M243 z a := g1
    refine ⟨b2, z3, ?_, q_w282a ho g4 e2 e3 e4 4996, e5⟩
    unfold dz_B193_64 q_let
    dsimp only
    rw [g1', ho, cond_false, g2, cond_false, show dz_B343_12 b = 63 by show ((63 : Int32) >>> ((0 : Int32) &&& 31)) = 63; decide, g3, cond_true]
    exact e1
/-- a code that jams -/
theorem q_wJ (h : q_WL c d m n b z) (hn : n + 3 ≤ 16) (a : Int32) (ha : q_rgz 0 255 a) (hj : dz_M284 z a = true) : ∃ b2 z1 z2 z3, dz_B193_64 b a = some b2 ∧ dz_M279_64 z 106 = some z1 ∧ dz_M279_64 z1 97 = some z2 ∧ dz_M279_64 z2 109 = some z3 ∧ q_WL c d m (n + 3) b2 z3 := by
  obtain ⟨t1, -⟩ := q_lnc z ha
  obtain ⟨-, g1, g2, g3⟩ := t1 hj
  have g1' : dz_B185 b a = -1 := g1
  obtain ⟨z1, z2, z3, e1, e2, e3, e4⟩ := q_wS3 h hn (fun j => q_o42.getD j 0) ⟨by decide, by decide⟩ ⟨by decide, by decide⟩ ⟨by decide, by decide⟩
  refine ⟨_, z1, z2, z3, ?_, e1, e2, e3, e4⟩
  unfold dz_B193_64 q_let
  dsimp only
  rw [g1', show decide ((-1 : Int32) < 0) = true by decide, cond_true, g2, cond_false, show dz_B343_13 b = 120 by show ((120 : Int32) >>> ((0 : Int32) &&& 31)) = 120; decide, g3, cond_false, q_w324_14 h.2.2.1 hn]
  rfl
theorem q_eqD {a b : Int32} (h : ¬ a.toInt = b.toInt) : decide (a = b) = false := decide_eq_false (fun q => h (by rw [q]))
end
