/-! ===== more fuel, more depth, more rows outside: the same end ===== -/
def q_TBle (TB TB9 : Nat → Option (Nat × Nat × (Nat → Int32))) : Prop := ∀ a v, TB a = some v → TB9 a = some v
def q_Le (x y : q_E) : Prop := x = y ∨ (∃ f f9, x = .inl f ∧ y = .inl f9 ∧ ∀ g r, f g = some r → f9 g = some r) ∨ (∃ f f9, x = .inr (.inl f) ∧ y = .inr (.inl f9) ∧ ∀ g r, f g = some r → f9 g = some r)
def q_LeT (t t9 : Nat → Option q_E) : Prop := ∀ pc x, t pc = some x → ∃ y, t9 pc = some y ∧ q_Le x y
theorem q_LeT_rf {t : Nat → Option q_E} : q_LeT t t := fun _ x h => ⟨x, h, Or.inl rfl⟩
theorem q_nd_le {m : Nat} {A B A9 B9 : Nat → Option q_E} (hA : q_LeT A A9) (hB : q_LeT B B9) : q_LeT (q_nd m A B) (q_nd m A9 B9) := by
  intro pc x h
  unfold q_nd at h ⊢
  cases hb : Nat.ble pc m with
  | true => rw [hb] at h; exact hA pc x h
  | false => rw [hb] at h; exact hB pc x h
theorem q_lf_le {m : Nat} {a b : q_E} (h9 : q_Le a b) : q_LeT (q_lf m a) (q_lf m b) := by
  intro pc x h
  unfold q_lf at h ⊢
  cases hb : Nat.beq pc m with
  | true => rw [hb] at h; cases h; exact ⟨b, rfl, h9⟩
  | false => rw [hb] at h; cases h
theorem q_md_le {m : Nat} {A B A9 B9 : Nat → Nat → Option q_E} (hA : ∀ k, q_LeT (A k) (A9 k)) (hB : ∀ k, q_LeT (B k) (B9 k)) : ∀ k, q_LeT (q_md m A B k) (q_md m A9 B9 k) := by
  intro k
  unfold q_md
  cases Nat.ble k m with
  | true => exact hA k
  | false => exact hB k
theorem q_ml_le {n : Nat} {t t9 : Nat → Option q_E} (h : q_LeT t t9) : ∀ k, q_LeT (q_ml n t k) (q_ml n t9 k) := by
  intro k
  unfold q_ml
  cases Nat.beq k n with
  | true => exact h
  | false => exact q_LeT_rf
theorem q_ar_le {TB TB9 : Nat → Option (Nat × Nat × (Nat → Int32))} (h : q_TBle TB TB9) {hp : q_H} {a : Nat} {v : Nat × Nat × (Nat → Int32)} (e : q_ar TB hp a = some v) : q_ar TB9 hp a = some v := by
  unfold q_ar at e ⊢
  split
  · rename_i hlt
    rw [if_pos hlt] at e
    exact h _ _ e
  · rename_i hlt
    rw [if_neg hlt] at e
    exact e
theorem q_Le_ald {TB TB9 : Nat → Option (Nat × Nat × (Nat → Int32))} (h : q_TBle TB TB9) {nx t : Nat} : q_Le (.inr (.inl (q_ald TB nx t))) (.inr (.inl (q_ald TB9 nx t))) := by
  refine Or.inr (Or.inr ⟨_, _, rfl, rfl, fun g r e => ?_⟩)
  unfold q_ald at e ⊢
  split at e
  · split at e
    · rename_i he
      rw [q_ar_le h he]
      exact e
    · cases e
  · cases e
theorem q_Le_aln {TB TB9 : Nat → Option (Nat × Nat × (Nat → Int32))} (h : q_TBle TB TB9) {nx t : Nat} : q_Le (.inl (q_aln TB nx t)) (.inl (q_aln TB9 nx t)) := by
  refine Or.inr (Or.inl ⟨_, _, rfl, rfl, fun g r e => ?_⟩)
  unfold q_aln at e ⊢
  split at e
  · rename_i a r9 hst
    by_cases hlt : a < 64
    · rw [if_pos hlt] at e ⊢
      cases hT : TB a with
      | none => rw [hT] at e; cases e
      | some v =>
        rw [hT] at e
        rw [h _ _ hT]
        exact e
    · rw [if_neg hlt] at e ⊢
      exact e
  · cases e
theorem q_Le_vS {TB TB9 : Nat → Option (Nat × Nat × (Nat → Int32))} (h : q_TBle TB TB9) {nx : Nat} : q_Le (.inl (q_st nx (q_fvS TB))) (.inl (q_st nx (q_fvS TB9))) := by
  refine Or.inr (Or.inl ⟨_, _, rfl, rfl, fun g r e => ?_⟩)
  unfold q_st q_fvS at e ⊢
  cases hT : TB 9 with
  | none => rw [hT] at e; cases e
  | some v =>
    rw [hT] at e
    rw [h _ _ hT]
    exact e
def q_xLe (ex ex9 : Nat → List Value → q_H → Option q_Out) : Prop := ∀ k as h o, ex k as h = some o → ex9 k as h = some o
theorem q_rs_le {f f9 : q_G → Option (Bool × q_G × Option q_G)} (h : ∀ g r, f g = some r → f9 g = some r) {g r : q_G} (e : q_rs f g = some r) : q_rs f9 g = some r := by
  unfold q_rs at e ⊢
  cases hf : f g with
  | none => rw [hf] at e; cases e
  | some v =>
    rw [hf] at e
    rw [h _ _ hf]
    exact e
theorem q_step_le {ex ex9 : Nat → List Value → q_H → Option q_Out} {tb tb9 : Nat → Option q_E} (hx : q_xLe ex ex9) (ht : q_LeT tb tb9) {g : q_G} {r : q_G ⊕ q_Out} (e : q_step ex tb g = some r) : q_step ex9 tb9 g = some r := by
  unfold q_step at e
  cases hb : tb g.1 with
  | none => rw [hb] at e; cases e
  | some x =>
    rw [hb] at e
    obtain ⟨y, hy, hL⟩ := ht _ _ hb
    unfold q_step
    rw [hy]
    rcases hL with rfl | ⟨f, f9, rfl, rfl, hf⟩ | ⟨f, f9, rfl, rfl, hf⟩
    · rcases x with f | f | f | f | ⟨nx, f, hd⟩
      · exact e
      · exact e
      · exact e
      · exact e
      · dsimp only at e ⊢
        cases hf : f g with
        | none => rw [hf] at e; cases e
        | some v =>
          obtain ⟨k, as, rest⟩ := v
          rw [hf] at e
          dsimp only at e ⊢
          cases ho : ex k as g.2.2.2 with
          | none => rw [ho] at e; cases e
          | some o =>
            rw [ho] at e
            rw [hx _ _ _ _ ho]
            exact e
    · dsimp only at e ⊢
      cases hq : f g with
      | none => rw [hq] at e; cases e
      | some v =>
        rw [hq] at e
        rw [hf _ _ hq]
        exact e
    · dsimp only at e ⊢
      cases hq : q_rs f g with
      | none => rw [hq] at e; cases e
      | some v =>
        rw [hq] at e
        rw [q_rs_le hf hq]
        exact e
theorem q_loop_le {ex ex9 : Nat → List Value → q_H → Option q_Out} {tb tb9 : Nat → Option q_E} (hx : q_xLe ex ex9) (ht : q_LeT tb tb9) : ∀ (n n9 : Nat), n ≤ n9 → ∀ (g : q_G) (o : q_Out), q_loop ex tb n g = some o → q_loop ex9 tb9 n9 g = some o := by
  intro n
  induction n with
  | zero => intro n9 _ g o h; cases h
  | succ n ih =>
    intro n9 hn g o h
    obtain ⟨k, rfl⟩ : ∃ k, n9 = k + 1 := ⟨n9 - 1, by omega⟩
    rw [q_loop_s] at h ⊢
    cases hst : q_step ex tb g with
    | none => rw [hst] at h; cases h
    | some r =>
      rw [hst] at h
      rw [q_step_le hx ht hst]
      cases r with
      | inr o9 => exact h
      | inl g9 => exact ih k (by omega) g9 o h
theorem q_exec_le {mt : Nat → q_M} {mtab mtab9 : Nat → Nat → Option q_E} (ht : ∀ k, q_LeT (mtab k) (mtab9 k)) {n n9 : Nat} (hn : n ≤ n9) : ∀ (d d9 : Nat), d ≤ d9 → q_xLe (q_exec mt mtab n d) (q_exec mt mtab9 n9 d9) := by
  intro d
  induction d with
  | zero => intro d9 _ k as h o e; cases e
  | succ d ih =>
    intro d9 hd k as h o e
    obtain ⟨j, rfl⟩ : ∃ j, d9 = j + 1 := ⟨d9 - 1, by omega⟩
    have hw := q_exec_w e
    rw [q_exec_s hw] at e ⊢
    exact q_loop_le (ih j (by omega)) (ht k) n n9 hn _ _ e
theorem q_Le_acpT {TB TB9 : Nat → Option (Nat × Nat × (Nat → Int32))} (h : q_TBle TB TB9) {nx t : Nat} {fit : Int32 → Bool} : q_Le (.inr (.inl (q_acpT TB nx t fit))) (.inr (.inl (q_acpT TB9 nx t fit))) := by
  refine Or.inr (Or.inr ⟨_, _, rfl, rfl, fun g r e => ?_⟩)
  unfold q_acpT at e ⊢
  split at e
  · split at e
    · rename_i he he2
      rw [q_ar_le h he, he2]
      exact e
    · cases e
  · cases e
