/-! ===== a run on few cells is one on many: elsewhere, and all other cells stay ===== -/
def q_mc (β : Nat → Nat) (c : q_C) : q_C := match c with
  | .inl (t, n, x) => .inl (t, n, q_x β x)
  | .inr (ci, fs) => .inr (ci, fs.map (q_v β))
def q_rg (β : Nat → Nat) (g : q_G) (H : q_H) : q_G := (g.1, q_l β g.2.1, g.2.2.1.map (q_v β), H)
def q_Em (β : Nat → Nat) (δ σ : Nat) (h H : q_H) : Prop := (∀ a, a < 64 → β a = a) ∧ (∀ i, i < h.1.length → 64 ≤ β (64 + i)) ∧ (∀ i j, i < h.1.length → j < h.1.length → β (64 + i) = β (64 + j) → i = j) ∧ (∀ i c, h.1[i]? = some c → H.1[β (64 + i) - 64]? = some (q_mc β c)) ∧ H.2.1 = h.2.1 + δ ∧ H.2.2 = h.2.2 + σ
def q_Rs (β β2 : Nat → Nat) (h h2 H H2 : q_H) : Prop := q_ag β β2 h.1.length ∧ h.1.length ≤ h2.1.length ∧ H2.1.length + h.1.length = H.1.length + h2.1.length ∧ (∀ i, h.1.length ≤ i → i < h2.1.length → 64 + H.1.length ≤ β2 (64 + i)) ∧ (∀ j, j < H.1.length → (∀ i, i < h.1.length → ¬ β (64 + i) = 64 + j) → H2.1[j]? = H.1[j]?)
theorem q_Rs.rf {β : Nat → Nat} {h H : q_H} : q_Rs β β h h H H := ⟨q_ag.rf, Nat.le_refl _, rfl, fun i h1 h2 => absurd h2 (Nat.not_lt.mpr h1), fun _ _ _ => rfl⟩
theorem q_Rs.tr {β β2 β3 : Nat → Nat} {h h2 h3 H H2 H3 : q_H} (a : q_Rs β β2 h h2 H H2) (b : q_Rs β2 β3 h2 h3 H2 H3) : q_Rs β β3 h h3 H H3 := by
  obtain ⟨a1, a2, a3, a4, a5⟩ := a
  obtain ⟨b1, b2, b3, b4, b5⟩ := b
  refine ⟨a1.tr b1 a2, Nat.le_trans a2 b2, by omega, fun i h1 h9 => ?_, fun j hj hn => ?_⟩
  · rcases Nat.lt_or_ge i h2.1.length with q | q
    · rw [b1 (64 + i) (Nat.add_lt_add_left q 64)]; exact a4 i h1 q
    · exact Nat.le_trans (by omega) (b4 i q h9)
  · rw [b5 j (by omega) ?_, a5 j hj hn]
    intro i hi e
    rcases Nat.lt_or_ge i h.1.length with q | q
    · exact hn i q ((a1 (64 + i) (Nat.add_lt_add_left q 64)).symm.trans e)
    · have := a4 i q hi
      omega
theorem q_mc_ag {β β2 : Nat → Nat} {L : Nat} (h : q_ag β β2 L) {c : q_C} (hc : q_okc L c) : q_mc β2 c = q_mc β c := by
  obtain ⟨t, n, x⟩ | ⟨ci, fs⟩ := c
  · show Sum.inl (t, n, q_x β2 x) = Sum.inl (t, n, q_x β x)
    obtain f | f | f | f | f := x <;> try rfl
    have hf : ∀ j a, f j = some a → a < 64 + L := hc
    have e : (fun j => (f j).map β2) = (fun j => (f j).map β) := by
      funext j
      cases hj : f j with
      | none => rfl
      | some a => exact congrArg some (h a (hf j a hj))
    show Sum.inl (t, n, Sum.inr (Sum.inr (Sum.inr (Sum.inr (fun j => (f j).map β2))))) = Sum.inl (t, n, Sum.inr (Sum.inr (Sum.inr (Sum.inr (fun j => (f j).map β)))))
    rw [e]
  · show Sum.inr (ci, fs.map (q_v β2)) = Sum.inr (ci, fs.map (q_v β))
    rw [q_vs_ag h hc]
theorem q_Em.at {β : Nat → Nat} {δ σ : Nat} {h H : q_H} (hE : q_Em β δ σ h H) {a : Nat} {c : q_C} (e : q_at h a = some c) : 64 ≤ β a ∧ q_at H (β a) = some (q_mc β c) := by
  obtain ⟨e1, e2⟩ := q_at_in e
  have hl := (List.getElem?_eq_some_iff.mp e2).1
  have h1 := hE.2.1 _ hl
  have h2 := hE.2.2.2.1 _ _ e2
  rw [← e1] at h1 h2
  refine ⟨h1, ?_⟩
  unfold q_at
  rw [if_neg (by omega)]
  exact h2
theorem q_Em.set {β : Nat → Nat} {δ σ : Nat} {h H : q_H} (hE : q_Em β δ σ h H) {a : Nat} {c0 : q_C} (e : q_at h a = some c0) (c : q_C) : q_Em β δ σ (h.1.set (a - 64) c, h.2) (H.1.set (β a - 64) (q_mc β c), H.2) ∧ q_Rs β β h (h.1.set (a - 64) c, h.2) H (H.1.set (β a - 64) (q_mc β c), H.2) := by
  obtain ⟨e1, e2⟩ := q_at_in e
  have hl := (List.getElem?_eq_some_iff.mp e2).1
  obtain ⟨h1, h2, h3, h4, h5, h6⟩ := hE
  have hb : 64 ≤ β a := by have := h2 _ hl; rw [← e1] at this; exact this
  refine ⟨⟨h1, fun i hi => h2 i (by simpa using hi), fun i j hi hj => h3 i j (by simpa using hi) (by simpa using hj), fun i c2 hi => ?_, h5, h6⟩, q_ag.rf, by simp, by simp, fun i q1 q2 => ?_, fun j hj hn => ?_⟩
  · by_cases hia : a - 64 = i
    · subst hia
      have h9 : (h.1.set (a - 64) c)[a - 64]? = some c2 := hi
      rw [List.getElem?_set_self hl] at h9
      cases h9
      rw [← e1]
      have h8 := h4 _ _ e2
      rw [← e1] at h8
      exact List.getElem?_set_self (List.getElem?_eq_some_iff.mp h8).1
    · have h9 : (h.1.set (a - 64) c)[i]? = some c2 := hi
      rw [List.getElem?_set_ne hia] at h9
      have hne : ¬ β a - 64 = β (64 + i) - 64 := by
        intro q
        have hli := (List.getElem?_eq_some_iff.mp h9).1
        have hb2 := h2 i hli
        have : β (64 + (a - 64)) = β (64 + i) := by rw [← e1]; omega
        exact hia (h3 _ _ hl hli this)
      show (H.1.set (β a - 64) (q_mc β c))[β (64 + i) - 64]? = _
      rw [List.getElem?_set_ne hne]
      exact h4 _ _ h9
  · exact absurd q2 (Nat.not_lt.mpr (by simpa using q1))
  · show (H.1.set (β a - 64) (q_mc β c))[j]? = _
    rw [List.getElem?_set_ne]
    intro q
    exact hn _ hl (by rw [← e1]; omega)
theorem q_Em.push {β : Nat → Nat} {δ σ : Nat} {h H : q_H} (hE : q_Em β δ σ h H) (hk : q_okh h.1) (c : q_C) (hc : ∀ β2, q_mc β2 c = c) (k m : Nat) : q_Em (q_up β h.1.length (64 + H.1.length)) δ σ (h.1 ++ [c], h.2.1 + k, h.2.2 + m) (H.1 ++ [c], H.2.1 + k, H.2.2 + m) ∧ q_Rs β (q_up β h.1.length (64 + H.1.length)) h (h.1 ++ [c], h.2.1 + k, h.2.2 + m) H (H.1 ++ [c], H.2.1 + k, H.2.2 + m) := by
  obtain ⟨h1, h2, h3, h4, h5, h6⟩ := hE
  have hu : ∀ i, i < h.1.length → q_up β h.1.length (64 + H.1.length) (64 + i) = β (64 + i) := fun i hi => q_up_ag β _ _ _ (Nat.add_lt_add_left hi 64)
  have hlt : ∀ i, i < h.1.length → β (64 + i) < 64 + H.1.length := fun i hi => by
    have q1 := (List.getElem?_eq_some_iff.mp (h4 i _ (List.getElem?_eq_getElem hi))).1
    have q2 := h2 i hi
    omega
  have hlen : (h.1 ++ [c]).length = h.1.length + 1 := by simp
  refine ⟨⟨fun a ha => (q_up_ag β _ _ _ (Nat.lt_of_lt_of_le ha (Nat.le_add_right _ _))).trans (h1 a ha), fun i hi => ?_, fun i j hi hj he => ?_, fun i c2 hi => ?_, by show H.2.1 + k = h.2.1 + k + δ; omega, by show H.2.2 + m = h.2.2 + m + σ; omega⟩, q_up_ag β _ _, by rw [hlen]; omega, by simp; omega, fun i q1 q2 => ?_, fun j hj _ => ?_⟩
  · have hi : i < (h.1 ++ [c]).length := hi
    rw [hlen] at hi
    rcases Nat.lt_or_ge i h.1.length with q | q
    · rw [hu i q]; exact h2 i q
    · have : i = h.1.length := by omega
      rw [this, q_up_at]; omega
  · have hi : i < (h.1 ++ [c]).length := hi
    have hj : j < (h.1 ++ [c]).length := hj
    rw [hlen] at hi hj
    rcases Nat.lt_or_ge i h.1.length with q | q
    · rcases Nat.lt_or_ge j h.1.length with q2 | q2
      · rw [hu i q, hu j q2] at he; exact h3 i j q q2 he
      · have e2 : j = h.1.length := by omega
        rw [hu i q, e2, q_up_at] at he
        have := hlt i q
        omega
    · have e1 : i = h.1.length := by omega
      rcases Nat.lt_or_ge j h.1.length with q2 | q2
      · rw [hu j q2, e1, q_up_at] at he
        have := hlt j q2
        omega
      · omega
  · have hi : (h.1 ++ [c])[i]? = some c2 := hi
    rcases Nat.lt_or_ge i h.1.length with q | q
    · rw [List.getElem?_append_left q] at hi
      rw [hu i q, q_mc_ag (q_up_ag β _ _) (hk c2 (List.mem_of_getElem? hi))]
      have h9 := h4 i c2 hi
      exact (List.getElem?_append_left (List.getElem?_eq_some_iff.mp h9).1).trans h9
    · have hl9 := (List.getElem?_eq_some_iff.mp hi).1
      rw [hlen] at hl9
      have e1 : i = h.1.length := by omega
      subst e1
      rw [List.getElem?_append_right (Nat.le_refl _), Nat.sub_self] at hi
      cases hi
      rw [q_up_at, hc]
      show (H.1 ++ [c])[64 + H.1.length - 64]? = _
      rw [Nat.add_sub_cancel_left, List.getElem?_append_right (Nat.le_refl _), Nat.sub_self]; rfl
  · have q2 : i < (h.1 ++ [c]).length := q2
    rw [hlen] at q2
    have e1 : i = h.1.length := by omega
    rw [e1, q_up_at]; exact Nat.le_refl _
  · exact List.getElem?_append_left hj
