section
variable {x y z m m2 : q_S} {c d w k : Int}
theorem q_tLft (h : q_LX k m x) : dz_M302_64 m = (q_mok m, dz_X59_64 x) := by
  have e1 : x.2.1 9 1 = m.1 14 13 := h.1.r4.2.1
  have e2 : x.2.1 9 2 = m.1 14 14 := h.1.r4.2.2.1
  show (q_mok m, (m.1 14 13) - (m.1 14 14)) = (q_mok m, (x.2.1 9 1) - (x.2.1 9 2))
  rw [e1, e2]
theorem q_beqF {i n : Nat} (h : ¬ i = n) : Nat.beq i n = false := by
  cases e : Nat.beq i n with
  | false => rfl
  | true => exact absurd (Nat.eq_of_beq_eq_true e) h
theorem q_bnd34 {i k : Nat} (h : 34 ≤ i) : q_la i k = -2147483648 ∧ q_ha d i k = 2147483647 ∧ q_lfz i k = -2147483648 ∧ q_hf w i k = 2147483647 := by
  have b : Nat.ble 34 i = true := Nat.ble_eq_true_of_le h
  refine ⟨?_, ?_, ?_, ?_⟩
  · unfold q_la
    rw [q_beqF (show ¬ i = 14 by omega), q_beqF (show ¬ i = 29 by omega), b, Bool.or_true]
    rfl
  · unfold q_ha
    rw [q_beqF (show ¬ i = 14 by omega), q_beqF (show ¬ i = 29 by omega), q_beqF (show ¬ i = 4 by omega), q_beqF (show ¬ i = 19 by omega), b, Bool.or_true]
    rfl
  · unfold q_lfz
    rw [q_beqF (show ¬ i = 0 by omega)]
    rfl
  · unfold q_hf
    rw [q_beqF (show ¬ i = 0 by omega)]
    rfl
theorem q_eN34 {i : Nat} (h : i < 34) : q_eN 34 172 0 i = 172 + i := by
  unfold q_eN
  rw [show Nat.blt i 34 = true from Nat.ble_eq_true_of_le h]
  rfl
theorem q_ps34 {T : Type} {i : Nat} (h : i < 34) (f : Nat → T) (e : T) : q_ps 34 0 172 0 (172 + i) f e = f i := by
  unfold q_ps
  rw [show Nat.ble 172 (172 + i) = true from Nat.ble_eq_true_of_le (by omega), show Nat.blt (172 + i) (172 + 34) = true from Nat.ble_eq_true_of_le (by omega)]
  show f (172 + i - 172) = f i
  rw [Nat.add_sub_cancel_left]
/-- the model's ranges, said of its cells in the law's heap -/
theorem q_IvV {r : q_S} (h : q_Iv c d w r) (T : q_S) : q_Iv c d w (q_vw 34 172 0 (q_pt 34 0 172 0 T r)) := by
  refine ⟨fun i k => ?_, fun i k => ?_, fun i k hi => ?_⟩
  · by_cases e : i < 34
    · show q_rgz _ _ (q_ps 34 0 172 0 (q_eN 34 172 0 i) r.1 (T.1 (q_eN 34 172 0 i)) k)
      rw [q_eN34 e, q_ps34 e]
      exact h.1 i k
    · obtain ⟨b1, b2, -, -⟩ := q_bnd34 (d := d) (w := w) (i := i) (k := k) (by omega)
      rw [b1, b2]
      exact q_rg_full _
  · by_cases e : i < 34
    · show q_rgz _ _ (q_ps 34 0 172 0 (q_eN 34 172 0 i) r.2.1 (T.2.1 (q_eN 34 172 0 i)) k)
      rw [q_eN34 e, q_ps34 e]
      exact h.2.1 i k
    · obtain ⟨-, -, b1, b2⟩ := q_bnd34 (d := d) (w := w) (i := i) (k := k) (by omega)
      rw [b1, b2]
      exact q_rg_full _
  · by_cases e : i < 34
    · show q_rgL _ _ (q_ps 34 0 172 0 (q_eN 34 172 0 i) r.2.2 (T.2.2 (q_eN 34 172 0 i)) k)
      rw [q_eN34 e, q_ps34 e]
      exact h.2.2 i k hi
    · rw [Nat.ble_eq_true_of_le (by omega : 34 ≤ i)] at hi
      cases hi
end
