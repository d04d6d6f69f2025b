section
variable {TT : (Nat → Int32) → Int32 → (Nat → Int32) → Int32 → Int64 → Int64 → List Int32 → List (Nat → Int32) → (Nat → Int64) → Prop} {x y z m m2 b b2 : q_S} {c d w k : Int} {n : Nat}
/-- a number -/
theorem q_wD (h : q_WL c d m n b z) (v : Int32) (hv : q_rgz 0 4095 v) (hn : n + 4 ≤ 16 ∨ v.toInt ≤ 255 ∧ n + 3 ≤ 16) : ∃ b2 z2 n2, dz_B325_64 b v = some b2 ∧ dz_M280_64 z v = some z2 ∧ q_WL c d m n2 b2 z2 ∧ n2 ≤ n + 4 ∧ (v.toInt ≤ 255 → n2 ≤ n + 3) := by
  have v0 := hv.1
  have v1 := hv.2
  by_cases c1 : v.toInt < 10
  · obtain ⟨b2, z2, e1, e2, e3⟩ := q_wD1 h (by omega) v ⟨by omega, by omega⟩
    exact ⟨b2, z2, _, e1, e2, e3, by omega, fun _ => by omega⟩
  by_cases c2 : v.toInt < 100
  · obtain ⟨b2, z2, e1, e2, e3⟩ := q_wD2 h (by omega) v ⟨by omega, by omega⟩
    exact ⟨b2, z2, _, e1, e2, e3, by omega, fun _ => by omega⟩
  by_cases c3 : v.toInt < 1000
  · obtain ⟨b2, z2, e1, e2, e3⟩ := q_wD3 h (by omega) v ⟨by omega, by omega⟩
    exact ⟨b2, z2, _, e1, e2, e3, by omega, fun _ => by omega⟩
  · obtain ⟨b2, z2, e1, e2, e3⟩ := q_wD4 h (by omega) v ⟨by omega, by omega⟩
    exact ⟨b2, z2, _, e1, e2, e3, by omega, fun q => by omega⟩
end
