section
variable {K b b2 T : Nat → Bool} {F : (Nat → Bool) → Nat → Bool}
/-- one key of a sweep; a sweep -/
def q_k1 (K : Nat → Bool) (j : Nat) (b : Nat → Bool) : Nat → Bool := fun i => cond (K j && (Nat.beq i (j / 4) || Nat.beq i (4 + j % 4))) (b (j / 4) || b (4 + j % 4)) (b i)
def q_kNn (K : Nat → Bool) (n : Nat) (b : Nat → Bool) : Nat → Bool := Nat.rec (motive := fun _ => Nat → Bool) b (fun j r => q_k1 K j r) n
def q_it (F : (Nat → Bool) → Nat → Bool) (n : Nat) (b : Nat → Bool) : Nat → Bool := Nat.rec (motive := fun _ => Nat → Bool) b (fun _ r => F r) n
def q_kcl (K T : Nat → Bool) : Prop := ∀ j, j < 16 → K j = true → T (j / 4) = T (4 + j % 4)
def q_ksb (b T : Nat → Bool) : Prop := ∀ i, i < 8 → b i = true → T i = true
theorem q_k1_inf {j i : Nat} (h : b i = true) : q_k1 K j b i = true := by
  unfold q_k1
  cases e : (K j && (Nat.beq i (j / 4) || Nat.beq i (4 + j % 4))) with
  | false => exact h
  | true =>
    rw [Bool.and_eq_true, Bool.or_eq_true] at e
    rcases e.2 with q | q
    · rw [← Nat.eq_of_beq_eq_true q, h]; rfl
    · rw [← Nat.eq_of_beq_eq_true q, h]; exact Bool.or_true _
theorem q_k1_cl {j : Nat} (hT : q_kcl K T) (hj : j < 16) (h : q_ksb b T) : q_ksb (q_k1 K j b) T := by
  intro i hi q
  unfold q_k1 at q
  cases e : (K j && (Nat.beq i (j / 4) || Nat.beq i (4 + j % 4))) with
  | false => rw [e] at q; exact h i hi q
  | true =>
    rw [e, cond_true] at q
    rw [Bool.and_eq_true, Bool.or_eq_true] at e
    have t := hT j hj e.1
    have g : T (j / 4) = true := by
      rcases (Bool.or_eq_true _ _).mp q with p | p
      · exact h _ (by omega) p
      · rw [t]; exact h _ (by omega) p
    rcases e.2 with p | p
    · rw [Nat.eq_of_beq_eq_true p]; exact g
    · rw [Nat.eq_of_beq_eq_true p, ← t]; exact g
theorem q_nbF {i n : Nat} (h : ¬ i = n) : Nat.beq i n = false := by
  cases e : Nat.beq i n with
  | false => rfl
  | true => exact absurd (Nat.eq_of_beq_eq_true e) h
theorem q_nbT {i n : Nat} (h : i = n) : Nat.beq i n = true := by rw [h]; exact Nat.beq_refl n
theorem q_k1_out {j i : Nat} (hj : j < 16) (hi : 8 ≤ i) : q_k1 K j b i = b i := by
  unfold q_k1
  rw [q_nbF (show ¬ i = j / 4 by omega), q_nbF (show ¬ i = 4 + j % 4 by omega), Bool.or_false, Bool.and_false]
  rfl
theorem q_k1_st {j : Nat} (hK : K j = true) (h : b (j / 4) = true ∨ b (4 + j % 4) = true) : q_k1 K j b (j / 4) = true ∧ q_k1 K j b (4 + j % 4) = true := by
  have g : (b (j / 4) || b (4 + j % 4)) = true := (Bool.or_eq_true _ _).mpr h
  unfold q_k1
  rw [hK, q_nbT (show j / 4 = j / 4 from rfl), q_nbT (show 4 + j % 4 = 4 + j % 4 from rfl), Bool.true_or, Bool.or_true]
  exact ⟨g, g⟩
theorem q_kNn_inf {i : Nat} (h : b i = true) : ∀ n, q_kNn K n b i = true := by
  intro n
  induction n with
  | zero => exact h
  | succ n ih => exact q_k1_inf ih
theorem q_kNn_cl (hT : q_kcl K T) (h : q_ksb b T) : ∀ n, n ≤ 16 → q_ksb (q_kNn K n b) T := by
  intro n
  induction n with
  | zero => intro _; exact h
  | succ n ih => intro hn; exact q_k1_cl hT (by omega) (ih (by omega))
theorem q_kNn_out {i : Nat} (hi : 8 ≤ i) : ∀ n, n ≤ 16 → q_kNn K n b i = b i := by
  intro n
  induction n with
  | zero => intro _; rfl
  | succ n ih => intro hn; exact (q_k1_out (by omega) hi).trans (ih (by omega))
theorem q_kNn_st {j : Nat} (hK : K j = true) (h : b (j / 4) = true ∨ b (4 + j % 4) = true) : ∀ n, j < n → q_kNn K n b (j / 4) = true ∧ q_kNn K n b (4 + j % 4) = true := by
  intro n
  induction n with
  | zero => intro q; omega
  | succ n ih =>
    intro q
    by_cases e : j = n
    · subst e
      have g : q_kNn K j b (j / 4) = true ∨ q_kNn K j b (4 + j % 4) = true := by
        rcases h with p | p
        · exact Or.inl (q_kNn_inf p j)
        · exact Or.inr (q_kNn_inf p j)
      exact q_k1_st hK g
    · obtain ⟨g1, g2⟩ := ih (by omega)
      exact ⟨q_k1_inf g1, q_k1_inf g2⟩
theorem q_bext {a c : Bool} (h1 : a = true → c = true) (h2 : c = true → a = true) : a = c := by
  cases a with
  | false =>
    cases c with
    | false => rfl
    | true => exact h2 rfl
  | true => exact (h1 rfl).symm
theorem q_kfix (h : q_kNn K 16 b = b) : q_kcl K b := by
  intro j hj hK
  refine q_bext (fun q => ?_) (fun q => ?_)
  · have g := (q_kNn_st hK (Or.inl q) 16 hj).2
    rw [h] at g; exact g
  · have g := (q_kNn_st hK (Or.inr q) 16 hj).1
    rw [h] at g; exact g
theorem q_it_fix {u : Nat} (h : F (q_it F u b) = q_it F u b) : ∀ k, q_it F (u + k) b = q_it F u b := by
  intro k
  induction k with
  | zero => rfl
  | succ k ih =>
    show F (q_it F (u + k) b) = _
    rw [ih, h]
/-- how many of some are true -/
def q_yn1 (a : Bool) : Nat := cond a 1 0
theorem q_yn1_le (a : Bool) : q_yn1 a ≤ 1 := by cases a <;> decide
theorem q_yn1_mo {a c : Bool} (h : a = true → c = true) : q_yn1 a ≤ q_yn1 c := by
  cases a with
  | false => exact Nat.zero_le _
  | true => rw [h rfl]; exact Nat.le_refl _
theorem q_yn1_eq {a c : Bool} (h : q_yn1 a = q_yn1 c) : a = c := by
  cases a <;> cases c <;> first | rfl | (cases h)
theorem q_yn1_0 {a : Bool} (h : q_yn1 a = 0) : a = false := by
  cases a with
  | false => rfl
  | true => cases h
def q_c4 (b : Nat → Bool) : Nat := q_yn1 (b 0) + q_yn1 (b 1) + q_yn1 (b 2) + q_yn1 (b 3)
def q_c8 (b : Nat → Bool) : Nat := q_c4 b + (q_yn1 (b 4) + q_yn1 (b 5) + q_yn1 (b 6) + q_yn1 (b 7))
theorem q_i8 {i : Nat} (h : i < 8) : i = 0 ∨ i = 1 ∨ i = 2 ∨ i = 3 ∨ i = 4 ∨ i = 5 ∨ i = 6 ∨ i = 7 := by omega
theorem q_c4_eq (h : ∀ i, i < 4 → b i = true → b2 i = true) (hc : q_c4 b2 ≤ q_c4 b) : ∀ i, i < 4 → b2 i = b i := by
  have g0 := q_yn1_mo (h 0 (by decide))
  have g1 := q_yn1_mo (h 1 (by decide))
  have g2 := q_yn1_mo (h 2 (by decide))
  have g3 := q_yn1_mo (h 3 (by decide))
  unfold q_c4 at hc
  intro i hi
  rcases (by omega : i = 0 ∨ i = 1 ∨ i = 2 ∨ i = 3) with rfl | rfl | rfl | rfl <;> exact q_yn1_eq (by omega)
theorem q_c8_eq (h : ∀ i, i < 8 → b i = true → b2 i = true) (hc : q_c8 b2 ≤ q_c8 b) : ∀ i, i < 8 → b2 i = b i := by
  have g0 := q_yn1_mo (h 0 (by decide))
  have g1 := q_yn1_mo (h 1 (by decide))
  have g2 := q_yn1_mo (h 2 (by decide))
  have g3 := q_yn1_mo (h 3 (by decide))
  have g4 := q_yn1_mo (h 4 (by decide))
  have g5 := q_yn1_mo (h 5 (by decide))
  have g6 := q_yn1_mo (h 6 (by decide))
  have g7 := q_yn1_mo (h 7 (by decide))
  unfold q_c8 q_c4 at hc
  intro i hi
  rcases q_i8 hi with rfl | rfl | rfl | rfl | rfl | rfl | rfl | rfl <;> exact q_yn1_eq (by omega)
theorem q_kFal : q_kcl K (fun _ => false) := fun _ _ _ => rfl
/-- eight sweeps are enough -/
theorem q_mfix (K b : Nat → Bool) : q_kNn K 16 (q_it (q_kNn K 16) 8 b) = q_it (q_kNn K 16) 8 b := by
  have key : ∀ t, (∃ u, u < t ∧ q_kNn K 16 (q_it (q_kNn K 16) u b) = q_it (q_kNn K 16) u b) ∨ q_c8 b + t ≤ q_c8 (q_it (q_kNn K 16) t b) := by
    intro t
    induction t with
    | zero => exact Or.inr (Nat.le_refl _)
    | succ t ih =>
      rcases ih with ⟨u, hu, h⟩ | h
      · exact Or.inl ⟨u, by omega, h⟩
      · by_cases e : q_kNn K 16 (q_it (q_kNn K 16) t b) = q_it (q_kNn K 16) t b
        · exact Or.inl ⟨t, by omega, e⟩
        · refine Or.inr ?_
          show q_c8 b + (t + 1) ≤ q_c8 (q_kNn K 16 (q_it (q_kNn K 16) t b))
          refine Classical.byContradiction fun q => e ?_
          have g := q_c8_eq (b := q_it (q_kNn K 16) t b) (b2 := q_kNn K 16 (q_it (q_kNn K 16) t b)) (fun i _ p => q_kNn_inf p 16) (by omega)
          funext i
          rcases Nat.lt_or_ge i 8 with p | p
          · exact g i p
          · exact q_kNn_out p 16 (by decide)
  have fin : ∃ u, u ≤ 8 ∧ q_kNn K 16 (q_it (q_kNn K 16) u b) = q_it (q_kNn K 16) u b := by
    rcases key 8 with ⟨u, hu, h⟩ | h
    · exact ⟨u, by omega, h⟩
    · refine ⟨0, by decide, ?_⟩
      have m : q_c8 (q_it (q_kNn K 16) 8 b) ≤ 8 := by
        generalize q_it (q_kNn K 16) 8 b = s
        have a0 := q_yn1_le (s 0)
        have a1 := q_yn1_le (s 1)
        have a2 := q_yn1_le (s 2)
        have a3 := q_yn1_le (s 3)
        have a4 := q_yn1_le (s 4)
        have a5 := q_yn1_le (s 5)
        have a6 := q_yn1_le (s 6)
        have a7 := q_yn1_le (s 7)
        unfold q_c8 q_c4
        omega
      have z : q_c8 b = 0 := by omega
      unfold q_c8 q_c4 at z
      have zz : ∀ i, i < 8 → b i = false := by
        intro i hi
        rcases q_i8 hi with rfl | rfl | rfl | rfl | rfl | rfl | rfl | rfl <;> exact q_yn1_0 (by omega)
      show q_kNn K 16 b = b
      funext i
      rcases Nat.lt_or_ge i 8 with p | p
      · rw [zz i p]
        cases e : q_kNn K 16 b i with
        | false => rfl
        | true => exact (Bool.false_ne_true (q_kNn_cl q_kFal (fun i hi q => by rw [zz i hi] at q; cases q) 16 (by decide) i p e)).elim
      · exact q_kNn_out p 16 (by decide)
  obtain ⟨u, hu, h⟩ := fin
  have e := q_it_fix h (8 - u)
  rw [show u + (8 - u) = 8 by omega] at e
  rw [e, h]
theorem q_it_cl (hT : q_kcl K T) (h : q_ksb b T) : ∀ n, q_ksb (q_it (q_kNn K 16) n b) T := by
  intro n
  induction n with
  | zero => exact h
  | succ n ih => exact q_kNn_cl hT ih 16 (by decide)
theorem q_it_inf {i : Nat} (h : b i = true) : ∀ n, q_it (q_kNn K 16) n b i = true := by
  intro n
  induction n with
  | zero => exact h
  | succ n ih => exact q_kNn_inf ih 16
/-- the class' turn: columns, then rows -/
def q_pc (K b : Nat → Bool) : Nat → Bool := fun i => cond (Nat.beq i 4) (b 4 || (b 0 && K 0) || (b 1 && K 4) || (b 2 && K 8) || (b 3 && K 12)) (cond (Nat.beq i 5) (b 5 || (b 0 && K 1) || (b 1 && K 5) || (b 2 && K 9) || (b 3 && K 13)) (cond (Nat.beq i 6) (b 6 || (b 0 && K 2) || (b 1 && K 6) || (b 2 && K 10) || (b 3 && K 14)) (cond (Nat.beq i 7) (b 7 || (b 0 && K 3) || (b 1 && K 7) || (b 2 && K 11) || (b 3 && K 15)) (b i))))
def q_pr (K b : Nat → Bool) : Nat → Bool := fun i => cond (Nat.beq i 0) (b 0 || ((K 0 && b 4) || (K 1 && b 5) || (K 2 && b 6) || (K 3 && b 7))) (cond (Nat.beq i 1) (b 1 || ((K 4 && b 4) || (K 5 && b 5) || (K 6 && b 6) || (K 7 && b 7))) (cond (Nat.beq i 2) (b 2 || ((K 8 && b 4) || (K 9 && b 5) || (K 10 && b 6) || (K 11 && b 7))) (cond (Nat.beq i 3) (b 3 || ((K 12 && b 4) || (K 13 && b 5) || (K 14 && b 6) || (K 15 && b 7))) (b i))))
def q_pp (K b : Nat → Bool) : Nat → Bool := q_pr K (q_pc K b)
theorem q_pc_inf {i : Nat} (h : b i = true) : q_pc K b i = true := by
  by_cases q : 4 ≤ i ∧ i < 8
  · rcases (by omega : i = 4 ∨ i = 5 ∨ i = 6 ∨ i = 7) with rfl | rfl | rfl | rfl
    · show (b 4 || (b 0 && K 0) || (b 1 && K 4) || (b 2 && K 8) || (b 3 && K 12)) = true
      rw [h]; rfl
    · show (b 5 || (b 0 && K 1) || (b 1 && K 5) || (b 2 && K 9) || (b 3 && K 13)) = true
      rw [h]; rfl
    · show (b 6 || (b 0 && K 2) || (b 1 && K 6) || (b 2 && K 10) || (b 3 && K 14)) = true
      rw [h]; rfl
    · show (b 7 || (b 0 && K 3) || (b 1 && K 7) || (b 2 && K 11) || (b 3 && K 15)) = true
      rw [h]; rfl
  · unfold q_pc
    rw [q_nbF (show ¬ i = 4 by omega), q_nbF (show ¬ i = 5 by omega), q_nbF (show ¬ i = 6 by omega), q_nbF (show ¬ i = 7 by omega)]
    exact h
theorem q_pr_inf {i : Nat} (h : b i = true) : q_pr K b i = true := by
  by_cases q : i < 4
  · rcases (by omega : i = 0 ∨ i = 1 ∨ i = 2 ∨ i = 3) with rfl | rfl | rfl | rfl
    · show (b 0 || ((K 0 && b 4) || (K 1 && b 5) || (K 2 && b 6) || (K 3 && b 7))) = true
      rw [h]; rfl
    · show (b 1 || ((K 4 && b 4) || (K 5 && b 5) || (K 6 && b 6) || (K 7 && b 7))) = true
      rw [h]; rfl
    · show (b 2 || ((K 8 && b 4) || (K 9 && b 5) || (K 10 && b 6) || (K 11 && b 7))) = true
      rw [h]; rfl
    · show (b 3 || ((K 12 && b 4) || (K 13 && b 5) || (K 14 && b 6) || (K 15 && b 7))) = true
      rw [h]; rfl
  · unfold q_pr
    rw [q_nbF (show ¬ i = 0 by omega), q_nbF (show ¬ i = 1 by omega), q_nbF (show ¬ i = 2 by omega), q_nbF (show ¬ i = 3 by omega)]
    exact h
theorem q_pc_out {i : Nat} (h : i < 4 ∨ 8 ≤ i) : q_pc K b i = b i := by
  unfold q_pc
  rw [q_nbF (show ¬ i = 4 by omega), q_nbF (show ¬ i = 5 by omega), q_nbF (show ¬ i = 6 by omega), q_nbF (show ¬ i = 7 by omega)]
  rfl
theorem q_pr_out {i : Nat} (h : 4 ≤ i) : q_pr K b i = b i := by
  unfold q_pr
  rw [q_nbF (show ¬ i = 0 by omega), q_nbF (show ¬ i = 1 by omega), q_nbF (show ¬ i = 2 by omega), q_nbF (show ¬ i = 3 by omega)]
  rfl
theorem q_or5 {a c e f g : Bool} (h : (a || c || e || f || g) = true) : a = true ∨ c = true ∨ e = true ∨ f = true ∨ g = true := by
  cases a <;> cases c <;> cases e <;> cases f <;> cases g <;> simp_all
theorem q_or5b {a c e f g : Bool} (h : (a || (c || e || f || g)) = true) : a = true ∨ c = true ∨ e = true ∨ f = true ∨ g = true := by
  cases a <;> cases c <;> cases e <;> cases f <;> cases g <;> simp_all
theorem q_and2 {a c : Bool} (h : (a && c) = true) : a = true ∧ c = true := (Bool.and_eq_true _ _).mp h
theorem q_pc_cl (hT : q_kcl K T) (h : q_ksb b T) : q_ksb (q_pc K b) T := by
  intro i hi q
  by_cases p : 4 ≤ i
  · rcases (by omega : i = 4 ∨ i = 5 ∨ i = 6 ∨ i = 7) with rfl | rfl | rfl | rfl
    · have q : (b 4 || (b 0 && K 0) || (b 1 && K 4) || (b 2 && K 8) || (b 3 && K 12)) = true := q
      rcases q_or5 q with s | s | s | s | s
      · exact h _ (by decide) s
      · have t : T 0 = T 4 := hT 0 (by decide) (q_and2 s).2
        rw [← t]; exact h _ (by decide) (q_and2 s).1
      · have t : T 1 = T 4 := hT 4 (by decide) (q_and2 s).2
        rw [← t]; exact h _ (by decide) (q_and2 s).1
      · have t : T 2 = T 4 := hT 8 (by decide) (q_and2 s).2
        rw [← t]; exact h _ (by decide) (q_and2 s).1
      · have t : T 3 = T 4 := hT 12 (by decide) (q_and2 s).2
        rw [← t]; exact h _ (by decide) (q_and2 s).1
    · have q : (b 5 || (b 0 && K 1) || (b 1 && K 5) || (b 2 && K 9) || (b 3 && K 13)) = true := q
      rcases q_or5 q with s | s | s | s | s
      · exact h _ (by decide) s
      · have t : T 0 = T 5 := hT 1 (by decide) (q_and2 s).2
        rw [← t]; exact h _ (by decide) (q_and2 s).1
      · have t : T 1 = T 5 := hT 5 (by decide) (q_and2 s).2
        rw [← t]; exact h _ (by decide) (q_and2 s).1
      · have t : T 2 = T 5 := hT 9 (by decide) (q_and2 s).2
        rw [← t]; exact h _ (by decide) (q_and2 s).1
      · have t : T 3 = T 5 := hT 13 (by decide) (q_and2 s).2
        rw [← t]; exact h _ (by decide) (q_and2 s).1
    · have q : (b 6 || (b 0 && K 2) || (b 1 && K 6) || (b 2 && K 10) || (b 3 && K 14)) = true := q
      rcases q_or5 q with s | s | s | s | s
      · exact h _ (by decide) s
      · have t : T 0 = T 6 := hT 2 (by decide) (q_and2 s).2
        rw [← t]; exact h _ (by decide) (q_and2 s).1
      · have t : T 1 = T 6 := hT 6 (by decide) (q_and2 s).2
        rw [← t]; exact h _ (by decide) (q_and2 s).1
      · have t : T 2 = T 6 := hT 10 (by decide) (q_and2 s).2
        rw [← t]; exact h _ (by decide) (q_and2 s).1
      · have t : T 3 = T 6 := hT 14 (by decide) (q_and2 s).2
        rw [← t]; exact h _ (by decide) (q_and2 s).1
    · have q : (b 7 || (b 0 && K 3) || (b 1 && K 7) || (b 2 && K 11) || (b 3 && K 15)) = true := q
      rcases q_or5 q with s | s | s | s | s
      · exact h _ (by decide) s
      · have t : T 0 = T 7 := hT 3 (by decide) (q_and2 s).2
        rw [← t]; exact h _ (by decide) (q_and2 s).1
      · have t : T 1 = T 7 := hT 7 (by decide) (q_and2 s).2
        rw [← t]; exact h _ (by decide) (q_and2 s).1
      · have t : T 2 = T 7 := hT 11 (by decide) (q_and2 s).2
        rw [← t]; exact h _ (by decide) (q_and2 s).1
      · have t : T 3 = T 7 := hT 15 (by decide) (q_and2 s).2
        rw [← t]; exact h _ (by decide) (q_and2 s).1
  · rw [q_pc_out (Or.inl (by omega))] at q
    exact h i hi q
theorem q_pr_cl (hT : q_kcl K T) (h : q_ksb b T) : q_ksb (q_pr K b) T := by
  intro i hi q
  by_cases p : i < 4
  · rcases (by omega : i = 0 ∨ i = 1 ∨ i = 2 ∨ i = 3) with rfl | rfl | rfl | rfl
    · have q : (b 0 || ((K 0 && b 4) || (K 1 && b 5) || (K 2 && b 6) || (K 3 && b 7))) = true := q
      rcases q_or5b q with s | s | s | s | s
      · exact h _ (by decide) s
      · have t : T 0 = T 4 := hT 0 (by decide) (q_and2 s).1
        rw [t]; exact h _ (by decide) (q_and2 s).2
      · have t : T 0 = T 5 := hT 1 (by decide) (q_and2 s).1
        rw [t]; exact h _ (by decide) (q_and2 s).2
      · have t : T 0 = T 6 := hT 2 (by decide) (q_and2 s).1
        rw [t]; exact h _ (by decide) (q_and2 s).2
      · have t : T 0 = T 7 := hT 3 (by decide) (q_and2 s).1
        rw [t]; exact h _ (by decide) (q_and2 s).2
    · have q : (b 1 || ((K 4 && b 4) || (K 5 && b 5) || (K 6 && b 6) || (K 7 && b 7))) = true := q
      rcases q_or5b q with s | s | s | s | s
      · exact h _ (by decide) s
      · have t : T 1 = T 4 := hT 4 (by decide) (q_and2 s).1
        rw [t]; exact h _ (by decide) (q_and2 s).2
      · have t : T 1 = T 5 := hT 5 (by decide) (q_and2 s).1
        rw [t]; exact h _ (by decide) (q_and2 s).2
      · have t : T 1 = T 6 := hT 6 (by decide) (q_and2 s).1
        rw [t]; exact h _ (by decide) (q_and2 s).2
      · have t : T 1 = T 7 := hT 7 (by decide) (q_and2 s).1
        rw [t]; exact h _ (by decide) (q_and2 s).2
    · have q : (b 2 || ((K 8 && b 4) || (K 9 && b 5) || (K 10 && b 6) || (K 11 && b 7))) = true := q
      rcases q_or5b q with s | s | s | s | s
      · exact h _ (by decide) s
      · have t : T 2 = T 4 := hT 8 (by decide) (q_and2 s).1
        rw [t]; exact h _ (by decide) (q_and2 s).2
      · have t : T 2 = T 5 := hT 9 (by decide) (q_and2 s).1
        rw [t]; exact h _ (by decide) (q_and2 s).2
      · have t : T 2 = T 6 := hT 10 (by decide) (q_and2 s).1
        rw [t]; exact h _ (by decide) (q_and2 s).2
      · have t : T 2 = T 7 := hT 11 (by decide) (q_and2 s).1
        rw [t]; exact h _ (by decide) (q_and2 s).2
    · have q : (b 3 || ((K 12 && b 4) || (K 13 && b 5) || (K 14 && b 6) || (K 15 && b 7))) = true := q
      rcases q_or5b q with s | s | s | s | s
      · exact h _ (by decide) s
      · have t : T 3 = T 4 := hT 12 (by decide) (q_and2 s).1
        rw [t]; exact h _ (by decide) (q_and2 s).2
      · have t : T 3 = T 5 := hT 13 (by decide) (q_and2 s).1
        rw [t]; exact h _ (by decide) (q_and2 s).2
      · have t : T 3 = T 6 := hT 14 (by decide) (q_and2 s).1
        rw [t]; exact h _ (by decide) (q_and2 s).2
      · have t : T 3 = T 7 := hT 15 (by decide) (q_and2 s).1
        rw [t]; exact h _ (by decide) (q_and2 s).2
  · rw [q_pr_out (by omega)] at q
    exact h i hi q
theorem q_pp_fix (h : q_pp K b = b) : q_kcl K b := by
  have h1 : q_pc K b = b := by
    funext i
    refine q_bext (fun q => ?_) (fun q => q_pc_inf q)
    have g := congrFun h i
    have g2 : q_pp K b i = true := q_pr_inf q
    rw [g] at g2; exact g2
  have h2 : q_pr K b = b := by
    have g := h
    unfold q_pp at g
    rw [h1] at g; exact g
  intro j hj hK
  rcases (by omega : j = 0 ∨ j = 1 ∨ j = 2 ∨ j = 3 ∨ j = 4 ∨ j = 5 ∨ j = 6 ∨ j = 7 ∨ j = 8 ∨ j = 9 ∨ j = 10 ∨ j = 11 ∨ j = 12 ∨ j = 13 ∨ j = 14 ∨ j = 15) with rfl | rfl | rfl | rfl | rfl | rfl | rfl | rfl | rfl | rfl | rfl | rfl | rfl | rfl | rfl | rfl
  · show b 0 = b 4
    refine q_bext (fun q => ?_) (fun q => ?_)
    · rw [← h1]
      show (b 4 || (b 0 && K 0) || (b 1 && K 4) || (b 2 && K 8) || (b 3 && K 12)) = true
      rw [q, hK]
      simp
    · rw [← h2]
      show (b 0 || ((K 0 && b 4) || (K 1 && b 5) || (K 2 && b 6) || (K 3 && b 7))) = true
      rw [q, hK]
      simp
  · show b 0 = b 5
    refine q_bext (fun q => ?_) (fun q => ?_)
    · rw [← h1]
      show (b 5 || (b 0 && K 1) || (b 1 && K 5) || (b 2 && K 9) || (b 3 && K 13)) = true
      rw [q, hK]
      simp
    · rw [← h2]
      show (b 0 || ((K 0 && b 4) || (K 1 && b 5) || (K 2 && b 6) || (K 3 && b 7))) = true
      rw [q, hK]
      simp
  · show b 0 = b 6
    refine q_bext (fun q => ?_) (fun q => ?_)
    · rw [← h1]
      show (b 6 || (b 0 && K 2) || (b 1 && K 6) || (b 2 && K 10) || (b 3 && K 14)) = true
      rw [q, hK]
      simp
    · rw [← h2]
      show (b 0 || ((K 0 && b 4) || (K 1 && b 5) || (K 2 && b 6) || (K 3 && b 7))) = true
      rw [q, hK]
      simp
  · show b 0 = b 7
    refine q_bext (fun q => ?_) (fun q => ?_)
    · rw [← h1]
      show (b 7 || (b 0 && K 3) || (b 1 && K 7) || (b 2 && K 11) || (b 3 && K 15)) = true
      rw [q, hK]
      simp
    · rw [← h2]
      show (b 0 || ((K 0 && b 4) || (K 1 && b 5) || (K 2 && b 6) || (K 3 && b 7))) = true
      rw [q, hK]
      simp
  · show b 1 = b 4
    refine q_bext (fun q => ?_) (fun q => ?_)
    · rw [← h1]
      show (b 4 || (b 0 && K 0) || (b 1 && K 4) || (b 2 && K 8) || (b 3 && K 12)) = true
      rw [q, hK]
      simp
    · rw [← h2]
      show (b 1 || ((K 4 && b 4) || (K 5 && b 5) || (K 6 && b 6) || (K 7 && b 7))) = true
      rw [q, hK]
      simp
  · show b 1 = b 5
    refine q_bext (fun q => ?_) (fun q => ?_)
    · rw [← h1]
      show (b 5 || (b 0 && K 1) || (b 1 && K 5) || (b 2 && K 9) || (b 3 && K 13)) = true
      rw [q, hK]
      simp
    · rw [← h2]
      show (b 1 || ((K 4 && b 4) || (K 5 && b 5) || (K 6 && b 6) || (K 7 && b 7))) = true
      rw [q, hK]
      simp
  · show b 1 = b 6
    refine q_bext (fun q => ?_) (fun q => ?_)
    · rw [← h1]
      show (b 6 || (b 0 && K 2) || (b 1 && K 6) || (b 2 && K 10) || (b 3 && K 14)) = true
      rw [q, hK]
      simp
    · rw [← h2]
      show (b 1 || ((K 4 && b 4) || (K 5 && b 5) || (K 6 && b 6) || (K 7 && b 7))) = true
      rw [q, hK]
      simp
  · show b 1 = b 7
    refine q_bext (fun q => ?_) (fun q => ?_)
    · rw [← h1]
      show (b 7 || (b 0 && K 3) || (b 1 && K 7) || (b 2 && K 11) || (b 3 && K 15)) = true
      rw [q, hK]
      simp
    · rw [← h2]
      show (b 1 || ((K 4 && b 4) || (K 5 && b 5) || (K 6 && b 6) || (K 7 && b 7))) = true
      rw [q, hK]
      simp
  · show b 2 = b 4
    refine q_bext (fun q => ?_) (fun q => ?_)
    · rw [← h1]
      show (b 4 || (b 0 && K 0) || (b 1 && K 4) || (b 2 && K 8) || (b 3 && K 12)) = true
      rw [q, hK]
      simp
    · rw [← h2]
      show (b 2 || ((K 8 && b 4) || (K 9 && b 5) || (K 10 && b 6) || (K 11 && b 7))) = true
      rw [q, hK]
      simp
  · show b 2 = b 5
    refine q_bext (fun q => ?_) (fun q => ?_)
    · rw [← h1]
      show (b 5 || (b 0 && K 1) || (b 1 && K 5) || (b 2 && K 9) || (b 3 && K 13)) = true
      rw [q, hK]
      simp
    · rw [← h2]
      show (b 2 || ((K 8 && b 4) || (K 9 && b 5) || (K 10 && b 6) || (K 11 && b 7))) = true
      rw [q, hK]
      simp
  · show b 2 = b 6
    refine q_bext (fun q => ?_) (fun q => ?_)
    · rw [← h1]
      show (b 6 || (b 0 && K 2) || (b 1 && K 6) || (b 2 && K 10) || (b 3 && K 14)) = true
      rw [q, hK]
      simp
    · rw [← h2]
      show (b 2 || ((K 8 && b 4) || (K 9 && b 5) || (K 10 && b 6) || (K 11 && b 7))) = true
      rw [q, hK]
      simp
  · show b 2 = b 7
    refine q_bext (fun q => ?_) (fun q => ?_)
    · rw [← h1]
      show (b 7 || (b 0 && K 3) || (b 1 && K 7) || (b 2 && K 11) || (b 3 && K 15)) = true
      rw [q, hK]
      simp
    · rw [← h2]
      show (b 2 || ((K 8 && b 4) || (K 9 && b 5) || (K 10 && b 6) || (K 11 && b 7))) = true
      rw [q, hK]
      simp
  · show b 3 = b 4
    refine q_bext (fun q => ?_) (fun q => ?_)
    · rw [← h1]
      show (b 4 || (b 0 && K 0) || (b 1 && K 4) || (b 2 && K 8) || (b 3 && K 12)) = true
      rw [q, hK]
      simp
    · rw [← h2]
      show (b 3 || ((K 12 && b 4) || (K 13 && b 5) || (K 14 && b 6) || (K 15 && b 7))) = true
      rw [q, hK]
      simp
  · show b 3 = b 5
    refine q_bext (fun q => ?_) (fun q => ?_)
    · rw [← h1]
      show (b 5 || (b 0 && K 1) || (b 1 && K 5) || (b 2 && K 9) || (b 3 && K 13)) = true
      rw [q, hK]
      simp
    · rw [← h2]
      show (b 3 || ((K 12 && b 4) || (K 13 && b 5) || (K 14 && b 6) || (K 15 && b 7))) = true
      rw [q, hK]
      simp
  · show b 3 = b 6
    refine q_bext (fun q => ?_) (fun q => ?_)
    · rw [← h1]
      show (b 6 || (b 0 && K 2) || (b 1 && K 6) || (b 2 && K 10) || (b 3 && K 14)) = true
      rw [q, hK]
      simp
    · rw [← h2]
      show (b 3 || ((K 12 && b 4) || (K 13 && b 5) || (K 14 && b 6) || (K 15 && b 7))) = true
      rw [q, hK]
      simp
  · show b 3 = b 7
    refine q_bext (fun q => ?_) (fun q => ?_)
    · rw [← h1]
      show (b 7 || (b 0 && K 3) || (b 1 && K 7) || (b 2 && K 11) || (b 3 && K 15)) = true
      rw [q, hK]
      simp
    · rw [← h2]
      show (b 3 || ((K 12 && b 4) || (K 13 && b 5) || (K 14 && b 6) || (K 15 && b 7))) = true
      rw [q, hK]
      simp
/-- four turns are enough -/
theorem q_xfix (K b : Nat → Bool) (hb : ∀ i, 4 ≤ i → b i = false) : q_pp K (q_it (q_pp K) 4 b) = q_it (q_pp K) 4 b := by
  have st : ∀ s : Nat → Bool, (∀ i, i < 4 → q_pp K s i = s i) → q_pp K (q_pp K s) = q_pp K s := by
    intro s hs
    have e1 : q_pc K (q_pp K s) = q_pp K s := by
      funext i
      by_cases p : 4 ≤ i ∧ i < 8
      · rcases (by omega : i = 4 ∨ i = 5 ∨ i = 6 ∨ i = 7) with rfl | rfl | rfl | rfl
        · have g : q_pp K s 4 = (s 4 || (s 0 && K 0) || (s 1 && K 4) || (s 2 && K 8) || (s 3 && K 12)) := q_pr_out (b := q_pc K s) (i := 4) (by decide)
          show (q_pp K s 4 || (q_pp K s 0 && K 0) || (q_pp K s 1 && K 4) || (q_pp K s 2 && K 8) || (q_pp K s 3 && K 12)) = q_pp K s 4
          rw [hs 0 (by decide), hs 1 (by decide), hs 2 (by decide), hs 3 (by decide), g]
          cases s 4 <;> cases (s 0 && K 0) <;> cases (s 1 && K 4) <;> cases (s 2 && K 8) <;> cases (s 3 && K 12) <;> rfl
        · have g : q_pp K s 5 = (s 5 || (s 0 && K 1) || (s 1 && K 5) || (s 2 && K 9) || (s 3 && K 13)) := q_pr_out (b := q_pc K s) (i := 5) (by decide)
          show (q_pp K s 5 || (q_pp K s 0 && K 1) || (q_pp K s 1 && K 5) || (q_pp K s 2 && K 9) || (q_pp K s 3 && K 13)) = q_pp K s 5
          rw [hs 0 (by decide), hs 1 (by decide), hs 2 (by decide), hs 3 (by decide), g]
          cases s 5 <;> cases (s 0 && K 1) <;> cases (s 1 && K 5) <;> cases (s 2 && K 9) <;> cases (s 3 && K 13) <;> rfl
        · have g : q_pp K s 6 = (s 6 || (s 0 && K 2) || (s 1 && K 6) || (s 2 && K 10) || (s 3 && K 14)) := q_pr_out (b := q_pc K s) (i := 6) (by decide)
          show (q_pp K s 6 || (q_pp K s 0 && K 2) || (q_pp K s 1 && K 6) || (q_pp K s 2 && K 10) || (q_pp K s 3 && K 14)) = q_pp K s 6
          rw [hs 0 (by decide), hs 1 (by decide), hs 2 (by decide), hs 3 (by decide), g]
          cases s 6 <;> cases (s 0 && K 2) <;> cases (s 1 && K 6) <;> cases (s 2 && K 10) <;> cases (s 3 && K 14) <;> rfl
        · have g : q_pp K s 7 = (s 7 || (s 0 && K 3) || (s 1 && K 7) || (s 2 && K 11) || (s 3 && K 15)) := q_pr_out (b := q_pc K s) (i := 7) (by decide)
          show (q_pp K s 7 || (q_pp K s 0 && K 3) || (q_pp K s 1 && K 7) || (q_pp K s 2 && K 11) || (q_pp K s 3 && K 15)) = q_pp K s 7
          rw [hs 0 (by decide), hs 1 (by decide), hs 2 (by decide), hs 3 (by decide), g]
          cases s 7 <;> cases (s 0 && K 3) <;> cases (s 1 && K 7) <;> cases (s 2 && K 11) <;> cases (s 3 && K 15) <;> rfl
      · exact q_pc_out (by omega)
    funext i
    by_cases p : i < 4
    · refine q_bext (fun q => ?_) (fun q => q_pr_inf (q_pc_inf q))
      have q : q_pr K (q_pc K (q_pp K s)) i = true := q
      rw [e1] at q
      rcases (by omega : i = 0 ∨ i = 1 ∨ i = 2 ∨ i = 3) with rfl | rfl | rfl | rfl
      · have q : (q_pp K s 0 || ((K 0 && q_pp K s 4) || (K 1 && q_pp K s 5) || (K 2 && q_pp K s 6) || (K 3 && q_pp K s 7))) = true := q
        rcases q_or5b q with t | t | t | t | t
        · exact t
        · have t2 : q_pc K s 4 = true := by
            have := (q_and2 t).2
            rwa [show q_pp K s 4 = q_pc K s 4 from q_pr_out (by decide)] at this
          show (q_pc K s 0 || ((K 0 && q_pc K s 4) || (K 1 && q_pc K s 5) || (K 2 && q_pc K s 6) || (K 3 && q_pc K s 7))) = true
          rw [(q_and2 t).1, t2]
          simp
        · have t2 : q_pc K s 5 = true := by
            have := (q_and2 t).2
            rwa [show q_pp K s 5 = q_pc K s 5 from q_pr_out (by decide)] at this
          show (q_pc K s 0 || ((K 0 && q_pc K s 4) || (K 1 && q_pc K s 5) || (K 2 && q_pc K s 6) || (K 3 && q_pc K s 7))) = true
          rw [(q_and2 t).1, t2]
          simp
        · have t2 : q_pc K s 6 = true := by
            have := (q_and2 t).2
            rwa [show q_pp K s 6 = q_pc K s 6 from q_pr_out (by decide)] at this
          show (q_pc K s 0 || ((K 0 && q_pc K s 4) || (K 1 && q_pc K s 5) || (K 2 && q_pc K s 6) || (K 3 && q_pc K s 7))) = true
          rw [(q_and2 t).1, t2]
          simp
        · have t2 : q_pc K s 7 = true := by
            have := (q_and2 t).2
            rwa [show q_pp K s 7 = q_pc K s 7 from q_pr_out (by decide)] at this
          show (q_pc K s 0 || ((K 0 && q_pc K s 4) || (K 1 && q_pc K s 5) || (K 2 && q_pc K s 6) || (K 3 && q_pc K s 7))) = true
          rw [(q_and2 t).1, t2]
          simp
      · have q : (q_pp K s 1 || ((K 4 && q_pp K s 4) || (K 5 && q_pp K s 5) || (K 6 && q_pp K s 6) || (K 7 && q_pp K s 7))) = true := q
        rcases q_or5b q with t | t | t | t | t
        · exact t
        · have t2 : q_pc K s 4 = true := by
            have := (q_and2 t).2
            rwa [show q_pp K s 4 = q_pc K s 4 from q_pr_out (by decide)] at this
          show (q_pc K s 1 || ((K 4 && q_pc K s 4) || (K 5 && q_pc K s 5) || (K 6 && q_pc K s 6) || (K 7 && q_pc K s 7))) = true
          rw [(q_and2 t).1, t2]
          simp
        · have t2 : q_pc K s 5 = true := by
            have := (q_and2 t).2
            rwa [show q_pp K s 5 = q_pc K s 5 from q_pr_out (by decide)] at this
          show (q_pc K s 1 || ((K 4 && q_pc K s 4) || (K 5 && q_pc K s 5) || (K 6 && q_pc K s 6) || (K 7 && q_pc K s 7))) = true
          rw [(q_and2 t).1, t2]
          simp
        · have t2 : q_pc K s 6 = true := by
            have := (q_and2 t).2
            rwa [show q_pp K s 6 = q_pc K s 6 from q_pr_out (by decide)] at this
          show (q_pc K s 1 || ((K 4 && q_pc K s 4) || (K 5 && q_pc K s 5) || (K 6 && q_pc K s 6) || (K 7 && q_pc K s 7))) = true
          rw [(q_and2 t).1, t2]
          simp
        · have t2 : q_pc K s 7 = true := by
            have := (q_and2 t).2
            rwa [show q_pp K s 7 = q_pc K s 7 from q_pr_out (by decide)] at this
          show (q_pc K s 1 || ((K 4 && q_pc K s 4) || (K 5 && q_pc K s 5) || (K 6 && q_pc K s 6) || (K 7 && q_pc K s 7))) = true
          rw [(q_and2 t).1, t2]
          simp
      · have q : (q_pp K s 2 || ((K 8 && q_pp K s 4) || (K 9 && q_pp K s 5) || (K 10 && q_pp K s 6) || (K 11 && q_pp K s 7))) = true := q
        rcases q_or5b q with t | t | t | t | t
        · exact t
        · have t2 : q_pc K s 4 = true := by
            have := (q_and2 t).2
            rwa [show q_pp K s 4 = q_pc K s 4 from q_pr_out (by decide)] at this
          show (q_pc K s 2 || ((K 8 && q_pc K s 4) || (K 9 && q_pc K s 5) || (K 10 && q_pc K s 6) || (K 11 && q_pc K s 7))) = true
          rw [(q_and2 t).1, t2]
          simp
        · have t2 : q_pc K s 5 = true := by
            have := (q_and2 t).2
            rwa [show q_pp K s 5 = q_pc K s 5 from q_pr_out (by decide)] at this
          show (q_pc K s 2 || ((K 8 && q_pc K s 4) || (K 9 && q_pc K s 5) || (K 10 && q_pc K s 6) || (K 11 && q_pc K s 7))) = true
          rw [(q_and2 t).1, t2]
          simp
        · have t2 : q_pc K s 6 = true := by
            have := (q_and2 t).2
            rwa [show q_pp K s 6 = q_pc K s 6 from q_pr_out (by decide)] at this
          show (q_pc K s 2 || ((K 8 && q_pc K s 4) || (K 9 && q_pc K s 5) || (K 10 && q_pc K s 6) || (K 11 && q_pc K s 7))) = true
          rw [(q_and2 t).1, t2]
          simp
        · have t2 : q_pc K s 7 = true := by
            have := (q_and2 t).2
            rwa [show q_pp K s 7 = q_pc K s 7 from q_pr_out (by decide)] at this
          show (q_pc K s 2 || ((K 8 && q_pc K s 4) || (K 9 && q_pc K s 5) || (K 10 && q_pc K s 6) || (K 11 && q_pc K s 7))) = true
          rw [(q_and2 t).1, t2]
          simp
      · have q : (q_pp K s 3 || ((K 12 && q_pp K s 4) || (K 13 && q_pp K s 5) || (K 14 && q_pp K s 6) || (K 15 && q_pp K s 7))) = true := q
        rcases q_or5b q with t | t | t | t | t
        · exact t
        · have t2 : q_pc K s 4 = true := by
            have := (q_and2 t).2
            rwa [show q_pp K s 4 = q_pc K s 4 from q_pr_out (by decide)] at this
          show (q_pc K s 3 || ((K 12 && q_pc K s 4) || (K 13 && q_pc K s 5) || (K 14 && q_pc K s 6) || (K 15 && q_pc K s 7))) = true
          rw [(q_and2 t).1, t2]
          simp
        · have t2 : q_pc K s 5 = true := by
            have := (q_and2 t).2
            rwa [show q_pp K s 5 = q_pc K s 5 from q_pr_out (by decide)] at this
          show (q_pc K s 3 || ((K 12 && q_pc K s 4) || (K 13 && q_pc K s 5) || (K 14 && q_pc K s 6) || (K 15 && q_pc K s 7))) = true
          rw [(q_and2 t).1, t2]
          simp
        · have t2 : q_pc K s 6 = true := by
            have := (q_and2 t).2
            rwa [show q_pp K s 6 = q_pc K s 6 from q_pr_out (by decide)] at this
          show (q_pc K s 3 || ((K 12 && q_pc K s 4) || (K 13 && q_pc K s 5) || (K 14 && q_pc K s 6) || (K 15 && q_pc K s 7))) = true
          rw [(q_and2 t).1, t2]
          simp
        · have t2 : q_pc K s 7 = true := by
            have := (q_and2 t).2
            rwa [show q_pp K s 7 = q_pc K s 7 from q_pr_out (by decide)] at this
          show (q_pc K s 3 || ((K 12 && q_pc K s 4) || (K 13 && q_pc K s 5) || (K 14 && q_pc K s 6) || (K 15 && q_pc K s 7))) = true
          rw [(q_and2 t).1, t2]
          simp
    · rw [show q_pp K (q_pp K s) i = q_pc K (q_pp K s) i from q_pr_out (by omega), e1]
  have key : ∀ t, (∃ u, u < t ∧ ∀ i, i < 4 → q_pp K (q_it (q_pp K) u b) i = q_it (q_pp K) u b i) ∨ q_c4 b + t ≤ q_c4 (q_it (q_pp K) t b) := by
    intro t
    induction t with
    | zero => exact Or.inr (Nat.le_refl _)
    | succ t ih =>
      rcases ih with ⟨u, hu, h⟩ | h
      · exact Or.inl ⟨u, by omega, h⟩
      · by_cases e : ∀ i, i < 4 → q_pp K (q_it (q_pp K) t b) i = q_it (q_pp K) t b i
        · exact Or.inl ⟨t, by omega, e⟩
        · refine Or.inr ?_
          show q_c4 b + (t + 1) ≤ q_c4 (q_pp K (q_it (q_pp K) t b))
          exact Classical.byContradiction fun q => e (q_c4_eq (b := q_it (q_pp K) t b) (b2 := q_pp K (q_it (q_pp K) t b)) (fun i _ p => q_pr_inf (q_pc_inf p)) (by omega))
  have fin : ∃ u, u ≤ 4 ∧ q_pp K (q_it (q_pp K) u b) = q_it (q_pp K) u b := by
    rcases key 4 with ⟨u, hu, h⟩ | h
    · exact ⟨u + 1, by omega, st _ h⟩
    · refine ⟨0, by decide, ?_⟩
      have m : q_c4 (q_it (q_pp K) 4 b) ≤ 4 := by
        generalize q_it (q_pp K) 4 b = s
        have a0 := q_yn1_le (s 0)
        have a1 := q_yn1_le (s 1)
        have a2 := q_yn1_le (s 2)
        have a3 := q_yn1_le (s 3)
        unfold q_c4
        omega
      have z : q_c4 b = 0 := by omega
      unfold q_c4 at z
      have zz : ∀ i, b i = false := by
        intro i
        rcases Nat.lt_or_ge i 4 with hi | hi
        · rcases (by omega : i = 0 ∨ i = 1 ∨ i = 2 ∨ i = 3) with rfl | rfl | rfl | rfl <;> exact q_yn1_0 (by omega)
        · exact hb i hi
      show q_pp K b = b
      funext i
      rw [zz i]
      cases e : q_pp K b i with
      | false => rfl
      | true =>
        rcases Nat.lt_or_ge i 8 with p | p
        · have c1 : q_ksb b (fun _ => false) := fun i _ q => by rw [zz i] at q; cases q
          exact (Bool.false_ne_true (q_pr_cl q_kFal (q_pc_cl q_kFal c1) i p e)).elim
        · rw [show q_pp K b i = b i from (q_pr_out (by omega)).trans (q_pc_out (by omega)), zz i] at e
          cases e
  obtain ⟨u, hu, h⟩ := fin
  have e := q_it_fix h (4 - u)
  rw [show u + (4 - u) = 4 by omega] at e
  rw [e, h]
theorem q_ix_cl (hT : q_kcl K T) (h : q_ksb b T) : ∀ n, q_ksb (q_it (q_pp K) n b) T := by
  intro n
  induction n with
  | zero => exact h
  | succ n ih => exact q_pr_cl hT (q_pc_cl hT ih)
theorem q_ix_inf {i : Nat} (h : b i = true) : ∀ n, q_it (q_pp K) n b i = true := by
  intro n
  induction n with
  | zero => exact h
  | succ n ih => exact q_pr_inf (q_pc_inf ih)
/-- both see the same -/
theorem q_same (K b : Nat → Bool) (hb : ∀ i, 4 ≤ i → b i = false) : ∀ i, i < 8 → q_it (q_kNn K 16) 8 b i = q_it (q_pp K) 4 b i := fun i hi =>
  q_bext (q_it_cl (q_pp_fix (q_xfix K b hb)) (fun _ _ q => q_ix_inf q 4) 8 i hi) (q_ix_cl (q_kfix (q_mfix K b)) (fun _ _ q => q_it_inf q 8) 4 i hi)
end
