theorem q_cLe (b : Bool) {x y : Int} (h1 : x ≤ 0) (h2 : y ≤ 0) : cond b x y ≤ 0 := by cases b <;> assumption
theorem q_cGe (b : Bool) {x y : Int} (h1 : 0 ≤ x) (h2 : 0 ≤ y) : 0 ≤ cond b x y := by cases b <;> assumption
theorem q_lr0 (k : Nat) : q_lr 14 k ≤ 0 := q_cLe _ (q_cLe _ (by decide) (by decide)) (by decide)
theorem q_la0 (i k : Nat) : q_la i k ≤ 0 := q_cLe _ (q_lr0 k) (q_cLe _ (q_lr0 _) (q_cLe _ (by decide) (by decide)))
theorem q_hn0 (k : Nat) : 0 ≤ q_hn 0 k := q_cGe _ (by decide) (q_cGe _ (by decide) (q_cGe _ (by decide) (q_cGe _ (by decide) (q_cGe _ (by decide) (q_cGe _ (by decide) (q_cGe _ (by decide) (q_cGe _ (by decide) (by decide))))))))
theorem q_hg0 (k : Nat) : 0 ≤ q_hg k := q_cGe _ (by decide) (q_cGe _ (by decide) (by decide))
theorem q_ha0 (i k : Nat) : 0 ≤ q_ha 0 i k := q_cGe _ (q_hn0 k) (q_cGe _ (q_hn0 _) (q_cGe _ (q_hg0 k) (q_cGe _ (q_hg0 _) (q_cGe _ (by decide) (q_cGe _ (by decide) (q_cGe _ (by decide) (q_cGe _ (by decide) (q_cGe _ (by decide) (q_cGe _ (by decide) (by decide))))))))))
theorem q_z0 (i k : Nat) : q_rgz (q_la i k) (q_ha 0 i k) 0 := ⟨q_la0 i k, q_ha0 i k⟩
theorem q_am0 (i k : Nat) : q_rgz (q_la i k) (q_ha 0 i k) (q_AM i k) := by
  unfold q_AM
  cases e15 : Nat.beq i 15 with
  | true =>
    rw [Nat.eq_of_beq_eq_true e15]
    exact q_hf_up (l := q_la 15) (u := q_ha 0 15) (f := fun _ => 0) (fun k => q_z0 15 k) (j := 3) (v := 1) ⟨by decide, by decide⟩ k
  | false =>
    cases e14 : Nat.beq i 14 with
    | true =>
      rw [Nat.eq_of_beq_eq_true e14]
      exact q_hf_up (l := q_la 14) (u := q_ha 0 14) (f := fun _ => 0) (fun k => q_z0 14 k) (j := 3) (v := 255) ⟨by decide, by decide⟩ k
    | false =>
      cases e13 : Nat.beq i 13 with
      | true =>
        rw [Nat.eq_of_beq_eq_true e13]
        exact q_hf_up (l := q_la 13) (u := q_ha 0 13) (q_hf_up (l := q_la 13) (u := q_ha 0 13) (q_hf_up (l := q_la 13) (u := q_ha 0 13) (f := fun _ => 0) (fun k => q_z0 13 k) (j := 0) (v := 1) ⟨by decide, by decide⟩) (j := 1) (v := 1) ⟨by decide, by decide⟩) (j := 2) (v := 1) ⟨by decide, by decide⟩ k
      | false => exact q_z0 i k
theorem q_im0 (i k : Nat) : q_rgz (q_lfz i k) (q_hf 40 i k) (q_IM i k) := by
  have z : q_rgz (q_lfz i k) (q_hf 40 i k) 0 := ⟨q_cLe _ (by decide) (by decide), q_cGe _ (q_cGe _ (by decide) (q_cGe _ (by decide) (q_cGe _ (by decide) (by decide)))) (by decide)⟩
  unfold q_IM
  cases e : (Nat.beq i 0 && Nat.beq k 34) with
  | false => exact z
  | true =>
    rw [Bool.and_eq_true] at e
    rw [Nat.eq_of_beq_eq_true e.1, Nat.eq_of_beq_eq_true e.2]
    exact ⟨by decide, by decide⟩
theorem q_aL34 {i : Nat} (h : i < 34) : q_AL (172 + i) = q_AM i := by
  unfold q_AL
  rw [q_bltF (show 172 ≤ 172 + i by omega), q_bltT (show 172 + i < 206 by omega), Nat.add_sub_cancel_left]
  rfl
theorem q_iL34 {i : Nat} (k : Nat) (h : i < 34) : q_IL (172 + i) k = q_IM i k := by
  unfold q_IL
  rw [q_bltF (show 172 ≤ 172 + i by omega), q_bltT (show 172 + i < 206 by omega), Nat.add_sub_cancel_left]
  rfl
theorem q_Iv0 : q_Iv 0 0 40 (q_vw 34 172 0 q_SL0) := by
  refine ⟨fun i k => ?_, fun i k => ?_, fun i k hi => ⟨Int.le_refl _, Int.le_refl _⟩⟩
  · by_cases e : i < 34
    · show q_rgz _ _ (q_AL (q_eN 34 172 0 i) k)
      rw [q_eN34 e, q_aL34 e]
      exact q_am0 i k
    · obtain ⟨b1, b2, -, -⟩ := q_bnd34 (d := 0) (w := 40) (i := i) (k := k) (by omega)
      rw [b1, b2]
      exact q_rg_full _
  · by_cases e : i < 34
    · show q_rgz _ _ (q_IL (q_eN 34 172 0 i) k)
      rw [q_eN34 e, q_iL34 k e]
      exact q_im0 i k
    · obtain ⟨-, -, b1, b2⟩ := q_bnd34 (d := 0) (w := 40) (i := i) (k := k) (by omega)
      rw [b1, b2]
      exact q_rg_full _
theorem q_cs0 : ∀ n, n < 16 → q_cs (fun _ => 0) (Int32.ofNat n) = some 0 := by decide +kernel
theorem q_LX0 : q_LX 0 (q_vw 34 172 0 q_SL0) (q_vw 172 0 206 q_SL0) := by
  refine ⟨⟨⟨fun _ _ => rfl, fun _ _ => rfl, fun _ _ => rfl⟩, ⟨⟨fun _ _ _ => rfl, fun _ _ _ => rfl⟩, rfl, rfl, rfl⟩, ⟨⟨⟨by decide, by decide⟩, ⟨by decide, by decide⟩, ⟨by decide, by decide⟩, ⟨by decide, by decide⟩⟩, rfl, rfl, rfl, rfl⟩, ⟨fun _ _ => rfl, rfl, rfl, rfl, by decide, fun _ h => absurd h (Nat.not_lt_zero _), fun h => absurd h (by decide), fun _ => rfl⟩, ⟨rfl, fun _ _ => rfl, fun r hr => ?_⟩, ⟨⟨rfl, rfl, rfl, rfl⟩, fun _ => rfl, rfl, rfl, rfl, rfl, rfl, trivial, ⟨fun _ _ => rfl, rfl, rfl, rfl, rfl, rfl⟩, rfl, Or.inl rfl, ⟨by decide, by decide⟩⟩, ⟨fun _ _ => ⟨rfl, rfl, rfl, rfl⟩, fun _ _ => rfl⟩, ⟨⟨fun _ _ => rfl, ⟨by decide, by decide⟩⟩, rfl⟩⟩, rfl, fun h => absurd h (by decide), fun h => absurd h (by decide), fun h => absurd h (by decide), ⟨⟨by decide, by decide⟩, ⟨by decide, by decide⟩⟩, ⟨Or.inl ⟨rfl, rfl⟩, by decide, by decide, by decide, by decide⟩, ⟨by decide, by decide⟩, rfl, fun _ h => absurd h (Nat.not_lt_zero _)⟩
  show q_cs (fun _ => 0) r = some 0
  have t := q_cs0 r.toInt.toNat (by have := hr.1; have := hr.2; omega)
  rw [q_ofn hr] at t
  exact t
theorem q_IV0 : q_IV 0 q_SL0 := ⟨q_LX0, q_Iv0⟩
