/-! ===== the class' machines: their flags, and that their functions give something ===== -/
def q_iN (s : q_S) : Prop := q_rgz 0 1 (s.2.1 23 6) ∧ q_rgz 0 1 (s.2.1 23 7)
theorem q_iN6 {s : q_S} (h : q_iN s) : q_rgz 0 1 (s.2.1 23 6) := h.1
theorem q_iN7 {s : q_S} (h : q_iN s) : q_rgz 0 1 (s.2.1 23 7) := h.2
theorem q_iN_A {s : q_S} {i : Nat} {f : Nat → Int32} (h : q_iN s) : q_iN (q_sA s i f) := h
theorem q_iN_L {s : q_S} {i : Nat} {f : Nat → Int64} (h : q_iN s) : q_iN (q_sL s i f) := h
theorem q_iN_J {s : q_S} {i k : Nat} {x : Int64} (h : q_iN s) : q_iN (q_sJ s i k x) := h
theorem q_uI_n2 {T : Type} {A : Nat → Nat → T} {i k j m : Nat} {x : T} (h : ¬ (i = j ∧ k = m)) : q_uI A i k x j m = A j m := by
  unfold q_uI
  cases e1 : Nat.beq j i with
  | false => rfl
  | true =>
    cases e2 : Nat.beq m k with
    | false => rfl
    | true => exact absurd ⟨(Nat.eq_of_beq_eq_true e1).symm, (Nat.eq_of_beq_eq_true e2).symm⟩ h
theorem q_iN_I {s : q_S} {i m : Nat} {x : Int32} (h : q_iN s) (hn : ¬ (i = 23 ∧ (m = 6 ∨ m = 7))) : q_iN (q_sI s i m x) := by
  refine ⟨?_, ?_⟩
  · show q_rgz 0 1 (q_uI s.2.1 i m x 23 6)
    rw [q_uI_n2 (fun e => hn ⟨e.1, Or.inl e.2⟩)]; exact h.1
  · show q_rgz 0 1 (q_uI s.2.1 i m x 23 7)
    rw [q_uI_n2 (fun e => hn ⟨e.1, Or.inr e.2⟩)]; exact h.2
theorem q_iN_F6 {s : q_S} {x : Int32} (h : q_iN s) (r : q_rgz 0 1 x) : q_iN (q_sI s 23 6 x) := ⟨r, h.2⟩
theorem q_iN_F7 {s : q_S} {x : Int32} (h : q_iN s) (r : q_rgz 0 1 x) : q_iN (q_sI s 23 7 x) := ⟨h.1, r⟩
def q_iW (s : q_S) : Prop := (q_rgz 0 1 (s.2.1 23 6) ∧ q_rgz 0 1 (s.2.1 23 7)) ∧ (q_rgz 0 1 (s.2.1 55 6) ∧ q_rgz 0 1 (s.2.1 55 7))
theorem q_iW6 {s : q_S} (h : q_iW s) : q_rgz 0 1 (s.2.1 23 6) := h.1.1
theorem q_iW7 {s : q_S} (h : q_iW s) : q_rgz 0 1 (s.2.1 23 7) := h.1.2
theorem q_iW16 {s : q_S} (h : q_iW s) : q_rgz 0 1 (s.2.1 55 6) := h.2.1
theorem q_iW17 {s : q_S} (h : q_iW s) : q_rgz 0 1 (s.2.1 55 7) := h.2.2
theorem q_iW_A {s : q_S} {i : Nat} {f : Nat → Int32} (h : q_iW s) : q_iW (q_sA s i f) := h
theorem q_iW_L {s : q_S} {i : Nat} {f : Nat → Int64} (h : q_iW s) : q_iW (q_sL s i f) := h
theorem q_iW_J {s : q_S} {i k : Nat} {x : Int64} (h : q_iW s) : q_iW (q_sJ s i k x) := h
theorem q_iW_I {s : q_S} {i m : Nat} {x : Int32} (h : q_iW s) (hn : ¬ ((i = 23 ∨ i = 55) ∧ (m = 6 ∨ m = 7))) : q_iW (q_sI s i m x) := by
  refine ⟨⟨?_, ?_⟩, ?_, ?_⟩
  · show q_rgz 0 1 (q_uI s.2.1 i m x 23 6)
    rw [q_uI_n2 (fun e => hn ⟨Or.inl e.1, Or.inl e.2⟩)]; exact h.1.1
  · show q_rgz 0 1 (q_uI s.2.1 i m x 23 7)
    rw [q_uI_n2 (fun e => hn ⟨Or.inl e.1, Or.inr e.2⟩)]; exact h.1.2
  · show q_rgz 0 1 (q_uI s.2.1 i m x 55 6)
    rw [q_uI_n2 (fun e => hn ⟨Or.inr e.1, Or.inl e.2⟩)]; exact h.2.1
  · show q_rgz 0 1 (q_uI s.2.1 i m x 55 7)
    rw [q_uI_n2 (fun e => hn ⟨Or.inr e.1, Or.inr e.2⟩)]; exact h.2.2
theorem q_iW_F6 {s : q_S} {x : Int32} (h : q_iW s) (r : q_rgz 0 1 x) : q_iW (q_sI s 23 6 x) := ⟨⟨r, h.1.2⟩, h.2⟩
theorem q_iW_F7 {s : q_S} {x : Int32} (h : q_iW s) (r : q_rgz 0 1 x) : q_iW (q_sI s 23 7 x) := ⟨⟨h.1.1, r⟩, h.2⟩
theorem q_iW_F16 {s : q_S} {x : Int32} (h : q_iW s) (r : q_rgz 0 1 x) : q_iW (q_sI s 55 6 x) := ⟨h.1, r, h.2.2⟩
theorem q_iW_F17 {s : q_S} {x : Int32} (h : q_iW s) (r : q_rgz 0 1 x) : q_iW (q_sI s 55 7 x) := ⟨h.1, h.2.1, r⟩
theorem dzj_N91_65  (s : q_S) (hI : q_iN s) (a1 : Int32) (a2 : Int32) : (fun _ => True) (dz_N91_65 s a1 a2) := trivial
set_option maxHeartbeats 4000000 in
theorem dzj_N90_65_73  (s : q_S) (hI : q_iN s) (v1 : Int32) (v3 : Int32) : q_Ex (dz_N90_65_73 s v1 v3) (fun _ => True) := by
  unfold dz_N90_65_73
  cases h83 : decide (v3 &&& 2 = 2) with
  | true =>
    have g84 := q_rg_eqT h83 (q_rg_lit (n := 2) (x := 2) rfl)
    refine q_E_T ?_
    cases h85 : decide (v1 < 2048) with
    | true =>
      have g86 := (q_rg_ltT1 (l := -2147483648) (U := 2047) h85 (q_rg_full _) (q_rg_lit (n := 2048) (x := 2048) rfl) (by decide))
      refine q_E_T ?_
      exact q_E_x trivial
    | false =>
      have g87 := (q_rg_ltF1 (l2 := 2048) (u := 2147483647) h85 (q_rg_full _) (q_rg_lit (n := 2048) (x := 2048) rfl))
      refine q_E_F ?_
      cases h88 : decide (v1 < 2560) with
      | true =>
        have g89 := (q_rg_ltT1 (l := 2048) (U := 2559) h88 g87 (q_rg_lit (n := 2560) (x := 2560) rfl) (by decide))
        refine q_E_T ?_
        refine q_E_A (q_in_rg (q_rg_sub (L := 0) (U := 2047) (q_rg_add (L := 2048) (U := 4095) (q_rg_mul (L := 0) (U := 1536) (q_rg_lit (n := 512) (x := 512) rfl) (q_rg_and (v3 >>> ((2 &&& 31) : Int32)) 3 (U := 3) (by decide) rfl) (by decide) (by decide) (by decide) (by decide) (by decide) (by decide)) g89 (by decide) (by decide) (by decide) (by decide)) (q_rg_lit (n := 2048) (x := 2048) rfl) (by decide) (by decide) (by decide) (by decide)) (by decide) (by decide)) ?_
        exact q_E_x trivial
      | false =>
        have g90 := (q_rg_ltF1 (l2 := 2560) (u := 2147483647) h88 g87 (q_rg_lit (n := 2560) (x := 2560) rfl))
        refine q_E_F ?_
        exact q_E_x trivial
  | false =>
    have g91 := (q_rg_neU (l := 0) (u := 2) (n := 2) (U := 1) h83 (q_rg_and v3 2 (U := 2) (by decide) rfl) rfl (by decide) (by decide))
    refine q_E_F ?_
    exact q_E_x trivial
set_option maxHeartbeats 4000000 in
theorem dzj_N90_65_31  (s : q_S) (hI : q_iN s) (v1 : Int32) : q_Ex (dz_N90_65_31 s v1) (fun _ => True) := by
  unfold dz_N90_65_31
  cases h92 : decide (((s.1 4) 0) &&& 1 = 1) with
  | true =>
    have g93 := q_rg_eqT h92 (q_rg_lit (n := 1) (x := 1) rfl)
    refine q_E_T ?_
    cases h94 : decide (v1 < 3072) with
    | true =>
      have g95 := (q_rg_ltT1 (l := -2147483648) (U := 3071) h94 (q_rg_full _) (q_rg_lit (n := 3072) (x := 3072) rfl) (by decide))
      refine q_E_T ?_
      exact dzj_N90_65_73 (s) hI (v1) ((s.1 4) 0)
    | false =>
      have g96 := (q_rg_ltF1 (l2 := 3072) (u := 2147483647) h94 (q_rg_full _) (q_rg_lit (n := 3072) (x := 3072) rfl))
      refine q_E_F ?_
      cases h97 : decide (v1 < 3584) with
      | true =>
        have g98 := (q_rg_ltT1 (l := 3072) (U := 3583) h97 g96 (q_rg_lit (n := 3584) (x := 3584) rfl) (by decide))
        refine q_E_T ?_
        exact q_E_x trivial
      | false =>
        have g99 := (q_rg_ltF1 (l2 := 3584) (u := 2147483647) h97 g96 (q_rg_lit (n := 3584) (x := 3584) rfl))
        refine q_E_F ?_
        exact dzj_N90_65_73 (s) hI (v1) ((s.1 4) 0)
  | false =>
    have g100 := (q_rg_neU (l := 0) (u := 1) (n := 1) (U := 0) h92 (q_rg_and ((s.1 4) 0) 1 (U := 1) (by decide) rfl) rfl (by decide) (by decide))
    refine q_E_F ?_
    exact dzj_N90_65_73 (s) hI (v1) ((s.1 4) 0)
set_option maxHeartbeats 4000000 in
theorem dzj_N90_65  (s : q_S) (hI : q_iN s) (a1 : Int32) : q_Ex (dz_N90_65 s a1) (fun _ => True) := by
  unfold dz_N90_65
  cases h101 : decide (a1 - 3840 < 0) with
  | true =>
    have g102 := (q_rg_ltT1 (l := -2147483648) (U := -1) h101 (q_rg_full _) (q_rg_lit (n := 0) (x := 0) rfl) (by decide))
    refine q_E_T ?_
    exact dzj_N90_65_31 (s) hI (a1)
  | false =>
    have g103 := (q_rg_ltF1 (l2 := 0) (u := 2147483647) h101 (q_rg_full _) (q_rg_lit (n := 0) (x := 0) rfl))
    refine q_E_F ?_
    cases h104 : decide (a1 - 3840 < 48) with
    | true =>
      have g105 := (q_rg_ltT1 (l := 0) (U := 47) h104 g103 (q_rg_lit (n := 48) (x := 48) rfl) (by decide))
      refine q_E_T ?_
      have j106 := dzj_N91_65 (s) hI (a1 - 3840) ((s.1 4) ((a1 - 3840).toNatClampNeg))
      refine q_E_L ?_
      generalize dz_N91_65 s (a1 - 3840) ((s.1 4) ((a1 - 3840).toNatClampNeg)) = r1 at j106 ⊢
      exact q_E_x trivial
    | false =>
      have g107 := (q_rg_ltF1 (l2 := 48) (u := 2147483647) h104 g103 (q_rg_lit (n := 48) (x := 48) rfl))
      refine q_E_F ?_
      exact dzj_N90_65_31 (s) hI (a1)
set_option maxHeartbeats 4000000 in
theorem dzj_N112_66  (s : q_S) (hI : q_iN s) (a1 : Int32) (a2 : Int32) : (q_iN) (dz_N112_66 s a1 a2) := by
  refine q_S_of (P := (q_iN)) ?_
  unfold dz_N112_66
  cases h116 : decide (a1 - 3840 < 0) with
  | true =>
    have g117 := (q_rg_ltT1 (l := -2147483648) (U := -1) h116 (q_rg_full _) (q_rg_lit (n := 0) (x := 0) rfl) (by decide))
    refine q_S_T ?_
    exact q_E_x (q_iN_A hI)
  | false =>
    have g118 := (q_rg_ltF1 (l2 := 0) (u := 2147483647) h116 (q_rg_full _) (q_rg_lit (n := 0) (x := 0) rfl))
    refine q_S_F ?_
    cases h119 : decide (a1 - 3840 < 48) with
    | true =>
      have g120 := (q_rg_ltT1 (l := 0) (U := 47) h119 g118 (q_rg_lit (n := 48) (x := 48) rfl) (by decide))
      refine q_S_T ?_
      cases h121 : decide ((fun j => q_o1.getD j 0) ((a1 - 3840).toNatClampNeg) = 0) with
      | true =>
        have g122 := q_rg_eqT h121 (q_rg_lit (n := 0) (x := 0) rfl)
        refine q_S_T ?_
        exact q_E_x hI
      | false =>
        refine q_S_F ?_
        exact q_E_x (q_iN_A hI)
    | false =>
      have g123 := (q_rg_ltF1 (l2 := 48) (u := 2147483647) h119 g118 (q_rg_lit (n := 48) (x := 48) rfl))
      refine q_S_F ?_
      exact q_E_x (q_iN_A hI)
set_option maxHeartbeats 4000000 in
theorem dzj_N128_77  (s : q_S) (hI : q_iN s) (a1 : Int32) (a2 : Int32) : (q_iN) (dz_N128_77 s a1 a2) := by
  refine q_S_of (P := (q_iN)) ?_
  unfold dz_N128_77
  cases h130 : decide (s.2.1 13 2 < 0) with
  | true =>
    have g131 := (q_rg_ltT1 (l := -2147483648) (U := -1) h130 (q_rg_full _) (q_rg_lit (n := 0) (x := 0) rfl) (by decide))
    refine q_S_T ?_
    exact q_E_x hI
  | false =>
    have g132 := (q_rg_ltF1 (l2 := 0) (u := 2147483647) h130 (q_rg_full _) (q_rg_lit (n := 0) (x := 0) rfl))
    refine q_S_F ?_
    cases h133 : decide (s.2.1 13 2 < 3072) with
    | true =>
      have g134 := (q_rg_ltT1 (l := 0) (U := 3071) h133 g132 (q_rg_lit (n := 3072) (x := 3072) rfl) (by decide))
      refine q_S_T ?_
      exact q_E_x (q_iN_I (i := 13) (m := 2) (q_iN_A hI) (by decide))
    | false =>
      have g135 := (q_rg_ltF1 (l2 := 3072) (u := 2147483647) h133 g132 (q_rg_lit (n := 3072) (x := 3072) rfl))
      refine q_S_F ?_
      exact q_E_x hI
set_option maxHeartbeats 4000000 in
theorem dzj_N128_82  (s : q_S) (hI : q_iN s) (a1 : Int32) (a2 : Int32) : (q_iN) (dz_N128_82 s a1 a2) := by
  refine q_S_of (P := (q_iN)) ?_
  unfold dz_N128_82
  cases h142 : decide (s.2.1 18 2 < 0) with
  | true =>
    have g143 := (q_rg_ltT1 (l := -2147483648) (U := -1) h142 (q_rg_full _) (q_rg_lit (n := 0) (x := 0) rfl) (by decide))
    refine q_S_T ?_
    exact q_E_x hI
  | false =>
    have g144 := (q_rg_ltF1 (l2 := 0) (u := 2147483647) h142 (q_rg_full _) (q_rg_lit (n := 0) (x := 0) rfl))
    refine q_S_F ?_
    cases h145 : decide (s.2.1 18 2 < 3072) with
    | true =>
      have g146 := (q_rg_ltT1 (l := 0) (U := 3071) h145 g144 (q_rg_lit (n := 3072) (x := 3072) rfl) (by decide))
      refine q_S_T ?_
      exact q_E_x (q_iN_I (i := 18) (m := 2) (q_iN_A hI) (by decide))
    | false =>
      have g147 := (q_rg_ltF1 (l2 := 3072) (u := 2147483647) h145 g144 (q_rg_lit (n := 3072) (x := 3072) rfl))
      refine q_S_F ?_
      exact q_E_x hI
set_option maxHeartbeats 4000000 in
theorem dzjb_N95_65_2  (k2 : q_S → Int32 → Int32 → Option (q_S)) (M2 : Int) (tk2 : ∀ (s : q_S), q_iN s → ∀ (v1 : Int32) (v2 : Int32), q_rgz 0 2 v2 → ((2 - v2.toInt).toNat : Int) ≤ M2 → q_Ex (k2 s v1 v2) (q_iN)) (s : q_S) (hI : q_iN s) (v1 : Int32) (v2 : Int32) (rv2 : q_rgz 0 2 v2) (m2 : ((2 - v2.toInt).toNat : Int) ≤ M2 + 1) : q_Ex (cond (decide (v2 < 2)) (cond (decide ((v1 >>> (v2 &&& 31)) &&& 1 = 1)) (cond (q_in ((12 : Int32) + (2 * v2)) 48) (cond (q_in (((12 : Int32) + (2 * v2)) + 1) 48) (cond (q_in v2 2) (k2 (q_sA s 7 (upd (s.1 7) (v2.toNatClampNeg) (((s.1 4) (((12 : Int32) + (2 * v2)).toNatClampNeg)) + (256 * ((s.1 4) ((((12 : Int32) + (2 * v2)) + 1).toNatClampNeg)))))) v1 (v2 + 1)) none) none) none) (k2 s v1 (v2 + 1))) (some s)) (q_iN) := by
  cases h162 : decide (v2 < 2) with
  | true =>
    have g163 := (q_rg_ltT1 (l := 0) (U := 1) h162 rv2 (q_rg_lit (n := 2) (x := 2) rfl) (by decide))
    refine q_E_T ?_
    cases h164 : decide ((v1 >>> (v2 &&& 31)) &&& 1 = 1) with
    | true =>
      have g165 := q_rg_eqT h164 (q_rg_lit (n := 1) (x := 1) rfl)
      refine q_E_T ?_
      refine q_E_A (q_in_rg (q_rg_add (L := 12) (U := 14) (q_rg_lit (n := 12) (x := 12) rfl) (q_rg_mul (L := 0) (U := 2) (q_rg_lit (n := 2) (x := 2) rfl) g163 (by decide) (by decide) (by decide) (by decide) (by decide) (by decide)) (by decide) (by decide) (by decide) (by decide)) (by decide) (by decide)) ?_
      refine q_E_A (q_in_rg (q_rg_add (L := 13) (U := 15) (q_rg_add (L := 12) (U := 14) (q_rg_lit (n := 12) (x := 12) rfl) (q_rg_mul (L := 0) (U := 2) (q_rg_lit (n := 2) (x := 2) rfl) g163 (by decide) (by decide) (by decide) (by decide) (by decide) (by decide)) (by decide) (by decide) (by decide) (by decide)) (q_rg_lit (n := 1) (x := 1) rfl) (by decide) (by decide) (by decide) (by decide)) (by decide) (by decide)) ?_
      refine q_E_A (q_in_rg g163 (by decide) (by decide)) ?_
      exact tk2 (q_sA s 7 (upd (s.1 7) (v2.toNatClampNeg) (((s.1 4) (((12 : Int32) + (2 * v2)).toNatClampNeg)) + (256 * ((s.1 4) ((((12 : Int32) + (2 * v2)) + 1).toNatClampNeg)))))) (q_iN_A hI) (v1) (v2 + 1) (q_rg_le (L := 0) (U := 2) (q_rg_add (L := 1) (U := 2) g163 (q_rg_lit (n := 1) (x := 1) rfl) (by decide) (by decide) (by decide) (by decide)) (by decide) (by decide)) (q_meu g163 m2 (by decide) (by decide))
    | false =>
      have g166 := (q_rg_neU (l := 0) (u := 1) (n := 1) (U := 0) h164 (q_rg_and (v1 >>> (v2 &&& 31)) 1 (U := 1) (by decide) rfl) rfl (by decide) (by decide))
      refine q_E_F ?_
      exact tk2 (s) hI (v1) (v2 + 1) (q_rg_le (L := 0) (U := 2) (q_rg_add (L := 1) (U := 2) g163 (q_rg_lit (n := 1) (x := 1) rfl) (by decide) (by decide) (by decide) (by decide)) (by decide) (by decide)) (q_meu g163 m2 (by decide) (by decide))
  | false =>
    have g167 := (q_rg_ltF1 (l2 := 2) (u := 2) h162 rv2 (q_rg_lit (n := 2) (x := 2) rfl))
    refine q_E_F ?_
    exact q_E_x hI
theorem dzj_N95_65_2  : ∀ (m : Nat) (s : q_S) (hI : q_iN s) (v1 : Int32) (v2 : Int32) (rv2 : q_rgz 0 2 v2), ((2 - v2.toInt).toNat : Int) ≤ (m : Int) → q_Ex (dz_N95_65_2 (m + 1) s v1 v2) (q_iN) := by
  intro m
  induction m with
  | zero => intro s hI v1 v2 rv2 hm; rw [dzs_N95_65_2]; exact dzjb_N95_65_2 (dz_N95_65_2 0) (-1) (fun s hI v1 v2 rv2 hm => absurd hm (by omega)) s hI v1 v2 rv2 (by omega)
  | succ m ih => intro s hI v1 v2 rv2 hm; rw [dzs_N95_65_2]; exact dzjb_N95_65_2 (dz_N95_65_2 (m + 1)) (m : Int) (fun s hI v1 v2 rv2 hm => ih s hI v1 v2 rv2 hm) s hI v1 v2 rv2 (by omega)
set_option maxHeartbeats 4000000 in
theorem dzj_N95_65  (s : q_S) (hI : q_iN s) (a1 : Int32) : q_Ex (dz_N95_65 s a1) (q_iN) := by
  unfold dz_N95_65
  exact dzj_N95_65_2 4999 (s) hI (a1) (0) (q_rg_le (L := 0) (U := 2) (q_rg_lit (n := 0) (x := 0) rfl) (by decide) (by decide)) (q_meu0 (q_rg_lit (n := 0) (x := 0) rfl) (by decide) (by decide))
set_option maxHeartbeats 4000000 in
theorem dzj_N94_65  (s : q_S) (hI : q_iN s) (a1 : Int32) (a2 : Int32) : q_Ex (dz_N94_65 s a1 a2) (q_iN) := by
  unfold dz_N94_65
  cases h189 : decide (a1 = 3850) with
  | true =>
    have g190 := q_rg_eqT h189 (q_rg_lit (n := 3850) (x := 3850) rfl)
    refine q_E_T ?_
    have j191 := dzj_N112_66 (q_sA s 4 (upd (s.1 4) 10 (((s.1 4) 10) &&& (a2 ^^^ (-1))))) (q_iN_A hI) (a1) (a2)
    refine q_E_L ?_
    generalize dz_N112_66 (q_sA s 4 (upd (s.1 4) 10 (((s.1 4) 10) &&& (a2 ^^^ (-1))))) a1 a2 = r5 at j191 ⊢
    cases h192 : decide (lg_cmp (((r5.2.2 1 8) / 960) - ((r5.2.2 1 8) / 960) / 2 * 2) 0 = 0) with
    | true =>
      have g193 := q_rg_eqT h192 (q_rg_lit (n := 0) (x := 0) rfl)
      refine q_E_T ?_
      have j194 := dzj_N128_77 (r5) j191 (a1) (a2)
      refine q_E_L ?_
      generalize dz_N128_77 r5 a1 a2 = r6 at j194 ⊢
      exact q_E_x j194
    | false =>
      refine q_E_F ?_
      have j195 := dzj_N128_82 (r5) j191 (a1) (a2)
      refine q_E_L ?_
      generalize dz_N128_82 r5 a1 a2 = r7 at j195 ⊢
      exact q_E_x j195
  | false =>
    refine q_E_F ?_
    cases h196 : decide (a1 = 3856) with
    | true =>
      have g197 := q_rg_eqT h196 (q_rg_lit (n := 3856) (x := 3856) rfl)
      refine q_E_T ?_
      obtain ⟨r8, e199, j198⟩ := dzj_N95_65 (s) hI (a2 &&& (((s.1 4) 16) ^^^ (-1)))
      rw [e199]
      refine q_E_B ?_
      have j200 := dzj_N112_66 (r8) j198 (a1) (a2)
      refine q_E_L ?_
      generalize dz_N112_66 r8 a1 a2 = r9 at j200 ⊢
      cases h201 : decide (lg_cmp (((r9.2.2 1 8) / 960) - ((r9.2.2 1 8) / 960) / 2 * 2) 0 = 0) with
      | true =>
        have g202 := q_rg_eqT h201 (q_rg_lit (n := 0) (x := 0) rfl)
        refine q_E_T ?_
        have j203 := dzj_N128_77 (r9) j200 (a1) (a2)
        refine q_E_L ?_
        generalize dz_N128_77 r9 a1 a2 = r10 at j203 ⊢
        exact q_E_x j203
      | false =>
        refine q_E_F ?_
        have j204 := dzj_N128_82 (r9) j200 (a1) (a2)
        refine q_E_L ?_
        generalize dz_N128_82 r9 a1 a2 = r11 at j204 ⊢
        exact q_E_x j204
    | false =>
      refine q_E_F ?_
      have j205 := dzj_N112_66 (s) hI (a1) (a2)
      refine q_E_L ?_
      generalize dz_N112_66 s a1 a2 = r12 at j205 ⊢
      cases h206 : decide (lg_cmp (((r12.2.2 1 8) / 960) - ((r12.2.2 1 8) / 960) / 2 * 2) 0 = 0) with
      | true =>
        have g207 := q_rg_eqT h206 (q_rg_lit (n := 0) (x := 0) rfl)
        refine q_E_T ?_
        have j208 := dzj_N128_77 (r12) j205 (a1) (a2)
        refine q_E_L ?_
        generalize dz_N128_77 r12 a1 a2 = r13 at j208 ⊢
        exact q_E_x j208
      | false =>
        refine q_E_F ?_
        have j209 := dzj_N128_82 (r12) j205 (a1) (a2)
        refine q_E_L ?_
        generalize dz_N128_82 r12 a1 a2 = r14 at j209 ⊢
        exact q_E_x j209
set_option maxHeartbeats 4000000 in
theorem dzj_N97_65  (s : q_S) (hI : q_iN s) (a1 : Int32) (a2 : Int32) : q_Ex (dz_N97_65 s a1 a2) (fun (x : q_S × Int32) => q_iN x.1) := by
  unfold dz_N97_65
  obtain ⟨r2, e215, j214⟩ := dzj_N90_65 (s) hI (a1)
  rw [e215]
  refine q_E_B ?_
  obtain ⟨r3, e217, j216⟩ := dzj_N94_65 (s) hI (a1) (a2)
  rw [e217]
  refine q_E_B ?_
  exact q_E_x j216
set_option maxHeartbeats 4000000 in
theorem dzj_N98_65  (s : q_S) (hI : q_iN s) (a1 : Int32) (a2 : Int32) : (fun (x : q_S × Int32) => q_iN x.1) (dz_N98_65 s a1 a2) := by
  refine q_S_of (P := (fun (x : q_S × Int32) => q_iN x.1)) ?_
  unfold dz_N98_65
  exact q_E_x (q_iN_A hI)
set_option maxHeartbeats 4000000 in
theorem dzj_N99_65  (s : q_S) (hI : q_iN s) (a1 : Int32) (a2 : Int32) : (fun (x : q_S × Int32) => q_iN x.1) (dz_N99_65 s a1 a2) := by
  refine q_S_of (P := (fun (x : q_S × Int32) => q_iN x.1)) ?_
  unfold dz_N99_65
  exact q_E_x (q_iN_A hI)
theorem dzj_N186  (s : q_S) (hI : q_iN s) (a0 : Int32) : (fun _ => True) (dz_N186 s a0) := trivial
theorem dzj_N190  (s : q_S) (hI : q_iN s) (a0 : Int32) : (fun _ => True) (dz_N190 s a0) := trivial
set_option maxHeartbeats 4000000 in
theorem dzj_N100_65_34  (s : q_S) (hI : q_iN s) (v1 : Int32) (v3 : Int32) (v4 : Int32) : q_Ex (dz_N100_65_34 s v1 v3 v4) (fun (x : q_S × Int32) => q_iN x.1) := by
  unfold dz_N100_65_34
  cases h295 : decide (2 < v4) with
  | true =>
    have g296 := (q_rg_ltT2 (L := 3) (u2 := 2147483647) h295 (q_rg_lit (n := 2) (x := 2) rfl) (q_rg_full _) (by decide))
    refine q_E_T ?_
    obtain ⟨r6, e298, j297⟩ := dzj_N94_65 (s) hI ((v1 + 2) &&& 4095) (v3 >>> ((8 &&& 31) : Int32))
    rw [e298]
    refine q_E_B ?_
    exact q_E_x j297
  | false =>
    have g299 := (q_rg_ltF2 (l2 := -2147483648) (u := 2) h295 (q_rg_lit (n := 2) (x := 2) rfl) (q_rg_full _))
    refine q_E_F ?_
    exact q_E_x hI
set_option maxHeartbeats 4000000 in
theorem dzj_N100_65  (s : q_S) (hI : q_iN s) (a1 : Int32) (a2 : Int32) (a3 : Int32) : q_Ex (dz_N100_65 s a1 a2 a3) (fun (x : q_S × Int32) => q_iN x.1) := by
  unfold dz_N100_65
  have j300 := dzj_N190 (s) hI (a2)
  refine q_E_L ?_
  generalize dz_N190 s a2 = r3 at j300 ⊢
  obtain ⟨r4, e302, j301⟩ := dzj_N94_65 (s) hI (a1) (a2)
  rw [e302]
  refine q_E_B ?_
  cases h303 : decide (1 < r3) with
  | true =>
    have g304 := (q_rg_ltT2 (L := 2) (u2 := 2147483647) h303 (q_rg_lit (n := 1) (x := 1) rfl) (q_rg_full _) (by decide))
    refine q_E_T ?_
    obtain ⟨r5, e306, j305⟩ := dzj_N94_65 (r4) j301 ((a1 + 1) &&& 4095) (a3 &&& 255)
    rw [e306]
    refine q_E_B ?_
    exact dzj_N100_65_34 (r5) j305 (a1) (a3) (r3)
  | false =>
    have g307 := (q_rg_ltF2 (l2 := -2147483648) (u := 1) h303 (q_rg_lit (n := 1) (x := 1) rfl) (q_rg_full _))
    refine q_E_F ?_
    exact dzj_N100_65_34 (r4) j301 (a1) (a3) (r3)
theorem dzj_N133_87  (s : q_S) (hI : q_iN s) (a1 : Int32) : (fun _ => True) (dz_N133_87 s a1) := trivial
set_option maxHeartbeats 4000000 in
theorem dzj_N134_87  (s : q_S) (hI : q_iN s) (a1 : Int32) (a2 : Int32) : (fun (x : q_S × Int32) => q_iN x.1) (dz_N134_87 s a1 a2) := by
  refine q_S_of (P := (fun (x : q_S × Int32) => q_iN x.1)) ?_
  unfold dz_N134_87
  have j354 := dzj_N133_87 (s) hI (a1)
  refine q_S_L ?_
  generalize dz_N133_87 s a1 = r1 at j354 ⊢
  cases h355 : decide (a1 < 0) with
  | true =>
    have g356 := (q_rg_ltT1 (l := -2147483648) (U := -1) h355 (q_rg_full _) (q_rg_lit (n := 0) (x := 0) rfl) (by decide))
    refine q_S_T ?_
    exact q_E_x (q_iN_I (i := 23) (m := 4) hI (by decide))
  | false =>
    have g357 := (q_rg_ltF1 (l2 := 0) (u := 2147483647) h355 (q_rg_full _) (q_rg_lit (n := 0) (x := 0) rfl))
    refine q_S_F ?_
    cases h358 : decide (3 < a1) with
    | true =>
      have g359 := (q_rg_ltT2 (L := 4) (u2 := 2147483647) h358 (q_rg_lit (n := 3) (x := 3) rfl) g357 (by decide))
      refine q_S_T ?_
      exact q_E_x (q_iN_I (i := 23) (m := 4) hI (by decide))
    | false =>
      have g360 := (q_rg_ltF2 (l2 := 0) (u := 3) h358 (q_rg_lit (n := 3) (x := 3) rfl) g357)
      refine q_S_F ?_
      cases h361 : decide (a1 = 0) with
      | true =>
        have g362 := q_rg_eqT h361 (q_rg_lit (n := 0) (x := 0) rfl)
        refine q_S_T ?_
        exact q_E_x (q_iN_I (i := 23) (m := 0) hI (by decide))
      | false =>
        have g363 := (q_rg_neL (l := 0) (u := 3) (n := 0) (L := 1) h361 g360 rfl (by decide) (by decide))
        refine q_S_F ?_
        cases h364 : decide (a1 = 1) with
        | true =>
          have g365 := q_rg_eqT h364 (q_rg_lit (n := 1) (x := 1) rfl)
          refine q_S_T ?_
          exact q_E_x (q_iN_I (i := 23) (m := 1) hI (by decide))
        | false =>
          have g366 := (q_rg_neL (l := 1) (u := 3) (n := 1) (L := 2) h364 g363 rfl (by decide) (by decide))
          refine q_S_F ?_
          cases h367 : decide (a1 = 2) with
          | true =>
            have g368 := q_rg_eqT h367 (q_rg_lit (n := 2) (x := 2) rfl)
            refine q_S_T ?_
            exact q_E_x (q_iN_I (i := 23) (m := 2) hI (by decide))
          | false =>
            have g369 := (q_rg_neL (l := 2) (u := 3) (n := 2) (L := 3) h367 g366 rfl (by decide) (by decide))
            refine q_S_F ?_
            exact q_E_x (q_iN_I (i := 23) (m := 3) hI (by decide))
set_option maxHeartbeats 4000000 in
theorem dzjb_N317_68_5  (k5 : q_S → Int32 → Int32 → Int32 → Option (q_S)) (M5 : Int) (tk5 : ∀ (s : q_S), q_iN s → ∀ (v1 : Int32) (v2 : Int32) (v3 : Int32), q_rgz 0 48 v2 → q_rgz 48 48 v3 → ((48 - v2.toInt).toNat : Int) ≤ M5 → q_Ex (k5 s v1 v2 v3) (q_iN)) (s : q_S) (hI : q_iN s) (v1 : Int32) (v2 : Int32) (v3 : Int32) (rv2 : q_rgz 0 48 v2) (rv3 : q_rgz 48 48 v3) (m5 : ((48 - v2.toInt).toNat : Int) ≤ M5 + 1) : q_Ex (cond (decide (v2 < v3)) (cond (q_in v2 48) (k5 (q_sA s 4 (upd (s.1 4) (v2.toNatClampNeg) v1)) v1 (v2 + 1) v3) none) (some s)) (q_iN) := by
  cases h382 : decide (v2 < v3) with
  | true =>
    have g383 := (q_rg_ltT1 (l := 0) (U := 47) h382 rv2 rv3 (by decide))
    refine q_E_T ?_
    refine q_E_A (q_in_rg g383 (by decide) (by decide)) ?_
    exact tk5 (q_sA s 4 (upd (s.1 4) (v2.toNatClampNeg) v1)) (q_iN_A hI) (v1) (v2 + 1) (v3) (q_rg_le (L := 0) (U := 48) (q_rg_add (L := 1) (U := 48) g383 (q_rg_lit (n := 1) (x := 1) rfl) (by decide) (by decide) (by decide) (by decide)) (by decide) (by decide)) (q_rg_le (L := 48) (U := 48) rv3 (by decide) (by decide)) (q_meu g383 m5 (by decide) (by decide))
  | false =>
    have g384 := (q_rg_ltF1 (l2 := 48) (u := 48) h382 rv2 rv3)
    refine q_E_F ?_
    exact q_E_x hI
theorem dzj_N317_68_5  : ∀ (m : Nat) (s : q_S) (hI : q_iN s) (v1 : Int32) (v2 : Int32) (v3 : Int32) (rv2 : q_rgz 0 48 v2) (rv3 : q_rgz 48 48 v3), ((48 - v2.toInt).toNat : Int) ≤ (m : Int) → q_Ex (dz_N317_68_5 (m + 1) s v1 v2 v3) (q_iN) := by
  intro m
  induction m with
  | zero => intro s hI v1 v2 v3 rv2 rv3 hm; rw [dzs_N317_68_5]; exact dzjb_N317_68_5 (dz_N317_68_5 0) (-1) (fun s hI v1 v2 v3 rv2 rv3 hm => absurd hm (by omega)) s hI v1 v2 v3 rv2 rv3 (by omega)
  | succ m ih => intro s hI v1 v2 v3 rv2 rv3 hm; rw [dzs_N317_68_5]; exact dzjb_N317_68_5 (dz_N317_68_5 (m + 1)) (m : Int) (fun s hI v1 v2 v3 rv2 rv3 hm => ih s hI v1 v2 v3 rv2 rv3 hm) s hI v1 v2 v3 rv2 rv3 (by omega)
set_option maxHeartbeats 4000000 in
theorem dzj_N317_68  (s : q_S) (hI : q_iN s) (a1 : Int32) : q_Ex (dz_N317_68 s a1) (q_iN) := by
  unfold dz_N317_68
  exact dzj_N317_68_5 4999 (s) hI (a1) (0) (48) (q_rg_le (L := 0) (U := 48) (q_rg_lit (n := 0) (x := 0) rfl) (by decide) (by decide)) (q_rg_le (L := 48) (U := 48) (q_rg_lit (n := 48) (x := 48) rfl) (by decide) (by decide)) (q_meu0 (q_rg_lit (n := 0) (x := 0) rfl) (by decide) (by decide))
set_option maxHeartbeats 4000000 in
theorem dzj_N113_66  (s : q_S) (hI : q_iN s) : q_Ex (dz_N113_66 s) (q_iN) := by
  unfold dz_N113_66
  obtain ⟨r2, e388, j387⟩ := dzj_N317_68 (s) hI (0)
  rw [e388]
  refine q_E_B ?_
  exact q_E_x j387
set_option maxHeartbeats 4000000 in
theorem dzjb_N317_71_5  (k5 : q_S → Int32 → Int32 → Int32 → Option (q_S)) (M5 : Int) (tk5 : ∀ (s : q_S), q_iN s → ∀ (v1 : Int32) (v2 : Int32) (v3 : Int32), q_rgz 0 2 v2 → q_rgz 2 2 v3 → ((2 - v2.toInt).toNat : Int) ≤ M5 → q_Ex (k5 s v1 v2 v3) (q_iN)) (s : q_S) (hI : q_iN s) (v1 : Int32) (v2 : Int32) (v3 : Int32) (rv2 : q_rgz 0 2 v2) (rv3 : q_rgz 2 2 v3) (m5 : ((2 - v2.toInt).toNat : Int) ≤ M5 + 1) : q_Ex (cond (decide (v2 < v3)) (cond (q_in v2 2) (k5 (q_sA s 7 (upd (s.1 7) (v2.toNatClampNeg) v1)) v1 (v2 + 1) v3) none) (some s)) (q_iN) := by
  cases h394 : decide (v2 < v3) with
  | true =>
    have g395 := (q_rg_ltT1 (l := 0) (U := 1) h394 rv2 rv3 (by decide))
    refine q_E_T ?_
    refine q_E_A (q_in_rg g395 (by decide) (by decide)) ?_
    exact tk5 (q_sA s 7 (upd (s.1 7) (v2.toNatClampNeg) v1)) (q_iN_A hI) (v1) (v2 + 1) (v3) (q_rg_le (L := 0) (U := 2) (q_rg_add (L := 1) (U := 2) g395 (q_rg_lit (n := 1) (x := 1) rfl) (by decide) (by decide) (by decide) (by decide)) (by decide) (by decide)) (q_rg_le (L := 2) (U := 2) rv3 (by decide) (by decide)) (q_meu g395 m5 (by decide) (by decide))
  | false =>
    have g396 := (q_rg_ltF1 (l2 := 2) (u := 2) h394 rv2 rv3)
    refine q_E_F ?_
    exact q_E_x hI
theorem dzj_N317_71_5  : ∀ (m : Nat) (s : q_S) (hI : q_iN s) (v1 : Int32) (v2 : Int32) (v3 : Int32) (rv2 : q_rgz 0 2 v2) (rv3 : q_rgz 2 2 v3), ((2 - v2.toInt).toNat : Int) ≤ (m : Int) → q_Ex (dz_N317_71_5 (m + 1) s v1 v2 v3) (q_iN) := by
  intro m
  induction m with
  | zero => intro s hI v1 v2 v3 rv2 rv3 hm; rw [dzs_N317_71_5]; exact dzjb_N317_71_5 (dz_N317_71_5 0) (-1) (fun s hI v1 v2 v3 rv2 rv3 hm => absurd hm (by omega)) s hI v1 v2 v3 rv2 rv3 (by omega)
  | succ m ih => intro s hI v1 v2 v3 rv2 rv3 hm; rw [dzs_N317_71_5]; exact dzjb_N317_71_5 (dz_N317_71_5 (m + 1)) (m : Int) (fun s hI v1 v2 v3 rv2 rv3 hm => ih s hI v1 v2 v3 rv2 rv3 hm) s hI v1 v2 v3 rv2 rv3 (by omega)
set_option maxHeartbeats 4000000 in
theorem dzj_N317_71  (s : q_S) (hI : q_iN s) (a1 : Int32) : q_Ex (dz_N317_71 s a1) (q_iN) := by
  unfold dz_N317_71
  exact dzj_N317_71_5 4999 (s) hI (a1) (0) (2) (q_rg_le (L := 0) (U := 2) (q_rg_lit (n := 0) (x := 0) rfl) (by decide) (by decide)) (q_rg_le (L := 2) (U := 2) (q_rg_lit (n := 2) (x := 2) rfl) (by decide) (by decide)) (q_meu0 (q_rg_lit (n := 0) (x := 0) rfl) (by decide) (by decide))
set_option maxHeartbeats 4000000 in
theorem dzj_N96_65  (s : q_S) (hI : q_iN s) : q_Ex (dz_N96_65 s) (q_iN) := by
  unfold dz_N96_65
  obtain ⟨r2, e408, j407⟩ := dzj_N113_66 (s) hI
  rw [e408]
  refine q_E_B ?_
  cases h409 : decide (lg_cmp (((r2.2.2 1 8) / 960) - ((r2.2.2 1 8) / 960) / 2 * 2) 0 = 0) with
  | true =>
    have g410 := q_rg_eqT h409 (q_rg_lit (n := 0) (x := 0) rfl)
    refine q_E_T ?_
    have j411 := dzj_N128_77 (r2) j407 (4096) (0)
    refine q_E_L ?_
    generalize dz_N128_77 r2 4096 0 = r3 at j411 ⊢
    obtain ⟨r4, e413, j412⟩ := dzj_N317_71 (r3) j411 (0)
    rw [e413]
    refine q_E_B ?_
    exact q_E_x j412
  | false =>
    refine q_E_F ?_
    have j414 := dzj_N128_82 (r2) j407 (4096) (0)
    refine q_E_L ?_
    generalize dz_N128_82 r2 4096 0 = r5 at j414 ⊢
    obtain ⟨r6, e416, j415⟩ := dzj_N317_71 (r5) j414 (0)
    rw [e416]
    refine q_E_B ?_
    exact q_E_x j415
set_option maxHeartbeats 4000000 in
theorem dzj_N92_65  (s : q_S) (hI : q_iN s) (a1 : Int32) : q_Ex (dz_N92_65 s a1) (fun _ => True) := by
  unfold dz_N92_65
  obtain ⟨r2, e422, j421⟩ := dzj_N90_65 (s) hI (a1 &&& 4095)
  rw [e422]
  refine q_E_B ?_
  obtain ⟨r3, e424, j423⟩ := dzj_N90_65 (s) hI ((a1 + 1) &&& 4095)
  rw [e424]
  refine q_E_B ?_
  exact q_E_x trivial
set_option maxHeartbeats 4000000 in
theorem dzj_N135_87_65  (s : q_S) (hI : q_iN s) : q_Ex (dz_N135_87_65 s) (q_iN) := by
  unfold dz_N135_87_65
  obtain ⟨r2, e428, j427⟩ := dzj_N92_65 (q_sI (q_sI (q_sI (q_sI (q_sI (q_sI (q_sI (q_sI s 23 0 0) 23 1 0) 23 2 0) 23 3 255) 23 5 4) 23 6 0) 23 7 0) 23 9 0) (q_iN_I (i := 23) (m := 9) (q_iN_F7 (q_iN_F6 (q_iN_I (i := 23) (m := 5) (q_iN_I (i := 23) (m := 3) (q_iN_I (i := 23) (m := 2) (q_iN_I (i := 23) (m := 1) (q_iN_I (i := 23) (m := 0) hI (by decide)) (by decide)) (by decide)) (by decide)) (by decide)) (q_rg_le (q_rg_lit (n := 0) (x := 0) rfl) (by decide) (by decide))) (q_rg_le (q_rg_lit (n := 0) (x := 0) rfl) (by decide) (by decide))) (by decide)) (3836)
  rw [e428]
  refine q_E_B ?_
  exact q_E_x (q_iN_I (i := 23) (m := 4) (q_iN_I (i := 23) (m := 9) (q_iN_F7 (q_iN_F6 (q_iN_I (i := 23) (m := 5) (q_iN_I (i := 23) (m := 3) (q_iN_I (i := 23) (m := 2) (q_iN_I (i := 23) (m := 1) (q_iN_I (i := 23) (m := 0) hI (by decide)) (by decide)) (by decide)) (by decide)) (by decide)) (q_rg_le (q_rg_lit (n := 0) (x := 0) rfl) (by decide) (by decide))) (q_rg_le (q_rg_lit (n := 0) (x := 0) rfl) (by decide) (by decide))) (by decide)) (by decide))
set_option maxHeartbeats 4000000 in
theorem dzj_N80_64  (s : q_S) (hI : q_iN s) : q_Ex (dz_N80_64 s) (fun (x : q_S × Int32) => q_iN x.1) := by
  unfold dz_N80_64
  obtain ⟨r2, e434, j433⟩ := dzj_N96_65 (s) hI
  rw [e434]
  refine q_E_B ?_
  obtain ⟨r3, e436, j435⟩ := dzj_N135_87_65 (r2) j433
  rw [e436]
  refine q_E_B ?_
  exact q_E_x j435
set_option maxHeartbeats 4000000 in
theorem dzj_N81_64  (s : q_S) (hI : q_iN s) : q_Ex (dz_N81_64 s) (fun (x : q_S × Int32) => q_iN x.1) := by
  unfold dz_N81_64
  obtain ⟨r2, e440, j439⟩ := dzj_N94_65 (s) hI (3840) (((s.1 4) 0) ||| 14)
  rw [e440]
  refine q_E_B ?_
  exact q_E_x (q_iN_F6 j439 (q_rg_le (q_rg_lit (n := 1) (x := 1) rfl) (by decide) (by decide)))
theorem dzj_N87_65  (s : q_S) (hI : q_iN s) : (fun _ => True) (dz_N87_65 s) := trivial
theorem dzj_N86_65  (s : q_S) (hI : q_iN s) : (fun _ => True) (dz_N86_65 s) := trivial
set_option maxHeartbeats 4000000 in
theorem dzj_N101_65  (s : q_S) (hI : q_iN s) : (q_iN) (dz_N101_65 s) := by
  refine q_S_of (P := (q_iN)) ?_
  unfold dz_N101_65
  have j446 := dzj_N87_65 (s) hI
  refine q_S_L ?_
  generalize dz_N87_65 s = r1 at j446 ⊢
  cases h447 : decide (r1 = 0) with
  | true =>
    have g448 := q_rg_eqT h447 (q_rg_lit (n := 0) (x := 0) rfl)
    refine q_S_T ?_
    have j449 := dzj_N86_65 (s) hI
    refine q_S_L ?_
    generalize dz_N86_65 s = r2 at j449 ⊢
    cases h450 : decide (r2 / 24 = (s.1 4) 9) with
    | true =>
      refine q_S_T ?_
      exact q_E_x (q_iN_A hI)
    | false =>
      refine q_S_F ?_
      exact q_E_x hI
  | false =>
    refine q_S_F ?_
    exact q_E_x hI
theorem dzj_N115_66  (s : q_S) (hI : q_iN s) : (fun _ => True) (dz_N115_66 s) := trivial
theorem dzj_N118_66  (s : q_S) (hI : q_iN s) (a1 : Int32) (a2 : Int32) : (fun _ => True) (dz_N118_66 s a1 a2) := trivial
set_option maxHeartbeats 4000000 in
theorem dzj_N117_66  (s : q_S) (hI : q_iN s) (a1 : Int32) (a2 : Int32) : q_Ex (dz_N117_66 s a1 a2) (fun _ => True) := by
  unfold dz_N117_66
  refine q_E_A (q_in_rg (q_rg_add (L := 24) (U := 27) (q_rg_lit (n := 24) (x := 24) rfl) (q_rg_and a1 3 (U := 3) (by decide) rfl) (by decide) (by decide) (by decide) (by decide)) (by decide) (by decide)) ?_
  have j473 := dzj_N118_66 (s) hI (18) (a1 &&& 3)
  refine q_E_L ?_
  generalize dz_N118_66 s 18 (a1 &&& 3) = r1 at j473 ⊢
  have j474 := dzj_N118_66 (s) hI (17) (a1 &&& 3)
  refine q_E_L ?_
  generalize dz_N118_66 s 17 (a1 &&& 3) = r2 at j474 ⊢
  cases h475 : decide (r2 = 1) with
  | true =>
    have g476 := q_rg_eqT h475 (q_rg_lit (n := 1) (x := 1) rfl)
    refine q_E_T ?_
    cases h477 : decide (a2 < (s.1 4) (((24 : Int32) + (a1 &&& 3)).toNatClampNeg)) with
    | true =>
      have g478 := (q_rg_ltT1 (l := -2147483648) (U := 2147483646) h477 (q_rg_full _) (q_rg_full _) (by decide))
      have g479 := (q_rg_ltT2 (L := -2147483647) (u2 := 2147483647) h477 (q_rg_full _) (q_rg_full _) (by decide))
      refine q_E_T ?_
      exact q_E_x trivial
    | false =>
      refine q_E_F ?_
      cases h480 : decide (a2 < ((s.1 4) (((24 : Int32) + (a1 &&& 3)).toNatClampNeg)) + ((8 : Int32) <<< (r1 &&& 31))) with
      | true =>
        have g481 := (q_rg_ltT1 (l := -2147483648) (U := 2147483646) h480 (q_rg_full _) (q_rg_full _) (by decide))
        have g482 := (q_rg_ltT2 (L := -2147483647) (u2 := 2147483647) h480 (q_rg_full _) (q_rg_full _) (by decide))
        refine q_E_T ?_
        exact q_E_x trivial
      | false =>
        refine q_E_F ?_
        exact q_E_x trivial
  | false =>
    refine q_E_F ?_
    exact q_E_x trivial
set_option maxHeartbeats 4000000 in
theorem dzj_N116_66_24  (s : q_S) (hI : q_iN s) (v1 : Int32) (v2 : Int32) (rv1 : q_rgz 0 31 v1) : q_Ex (dz_N116_66_24 s v1 v2) (fun _ => True) := by
  unfold dz_N116_66_24
  cases h523 : decide (v2 < 20) with
  | true =>
    have g524 := (q_rg_ltT1 (l := -2147483648) (U := 19) h523 (q_rg_full _) (q_rg_lit (n := 20) (x := 20) rfl) (by decide))
    refine q_E_T ?_
    cases h525 : decide ((s.1 4) 1 = 0) with
    | true =>
      have g526 := q_rg_eqT h525 (q_rg_lit (n := 0) (x := 0) rfl)
      refine q_E_T ?_
      have j527 := dzj_N115_66 (s) hI
      refine q_E_L ?_
      generalize dz_N115_66 s = r3 at j527 ⊢
      cases h528 : decide ((v1 + r3) - (v1 + r3) / 8 * 8 = 0) with
      | true =>
        have g529 := q_rg_eqT h528 (q_rg_lit (n := 0) (x := 0) rfl)
        refine q_E_T ?_
        exact q_E_x trivial
      | false =>
        refine q_E_F ?_
        exact q_E_x trivial
    | false =>
      refine q_E_F ?_
      cases h530 : decide ((s.1 4) 1 = 3) with
      | true =>
        have g531 := q_rg_eqT h530 (q_rg_lit (n := 3) (x := 3) rfl)
        refine q_E_T ?_
        exact q_E_x trivial
      | false =>
        refine q_E_F ?_
        cases h532 : decide (v2 < 4) with
        | true =>
          have g533 := (q_rg_ltT1 (l := -2147483648) (U := 3) h532 g524 (q_rg_lit (n := 4) (x := 4) rfl) (by decide))
          refine q_E_T ?_
          exact q_E_x trivial
        | false =>
          have g534 := (q_rg_ltF1 (l2 := 4) (u := 19) h532 g524 (q_rg_lit (n := 4) (x := 4) rfl))
          refine q_E_F ?_
          exact q_E_x trivial
  | false =>
    have g535 := (q_rg_ltF1 (l2 := 20) (u := 2147483647) h523 (q_rg_full _) (q_rg_lit (n := 20) (x := 20) rfl))
    refine q_E_F ?_
    obtain ⟨r4, e537, j536⟩ := dzj_N117_66 (s) hI (v2 - 20) (v1)
    rw [e537]
    refine q_E_B ?_
    cases h538 : r4 with
    | true =>
      refine q_E_T ?_
      exact q_E_x trivial
    | false =>
      refine q_E_F ?_
      exact q_E_x trivial
set_option maxHeartbeats 4000000 in
theorem dzj_N116_66  (s : q_S) (hI : q_iN s) (a1 : Int32) (a2 : Int32) : q_Ex (dz_N116_66 s a1 a2) (fun _ => True) := by
  unfold dz_N116_66
  cases h539 : decide (a1 < 0) with
  | true =>
    have g540 := (q_rg_ltT1 (l := -2147483648) (U := -1) h539 (q_rg_full _) (q_rg_lit (n := 0) (x := 0) rfl) (by decide))
    refine q_E_T ?_
    exact q_E_x trivial
  | false =>
    have g541 := (q_rg_ltF1 (l2 := 0) (u := 2147483647) h539 (q_rg_full _) (q_rg_lit (n := 0) (x := 0) rfl))
    refine q_E_F ?_
    cases h542 : decide (a1 < 32) with
    | true =>
      have g543 := (q_rg_ltT1 (l := 0) (U := 31) h542 g541 (q_rg_lit (n := 32) (x := 32) rfl) (by decide))
      refine q_E_T ?_
      cases h544 : decide (a2 < 8) with
      | true =>
        have g545 := (q_rg_ltT1 (l := -2147483648) (U := 7) h544 (q_rg_full _) (q_rg_lit (n := 8) (x := 8) rfl) (by decide))
        refine q_E_T ?_
        exact dzj_N116_66_24 (s) hI (a1) (a2) (q_rg_le (L := 0) (U := 31) g543 (by decide) (by decide))
      | false =>
        have g546 := (q_rg_ltF1 (l2 := 8) (u := 2147483647) h544 (q_rg_full _) (q_rg_lit (n := 8) (x := 8) rfl))
        refine q_E_F ?_
        cases h547 : decide (a2 < 20) with
        | true =>
          have g548 := (q_rg_ltT1 (l := 8) (U := 19) h547 g546 (q_rg_lit (n := 20) (x := 20) rfl) (by decide))
          refine q_E_T ?_
          exact q_E_x trivial
        | false =>
          have g549 := (q_rg_ltF1 (l2 := 20) (u := 2147483647) h547 g546 (q_rg_lit (n := 20) (x := 20) rfl))
          refine q_E_F ?_
          exact dzj_N116_66_24 (s) hI (a1) (a2) (q_rg_le (L := 0) (U := 31) g543 (by decide) (by decide))
    | false =>
      have g550 := (q_rg_ltF1 (l2 := 32) (u := 2147483647) h542 g541 (q_rg_lit (n := 32) (x := 32) rfl))
      refine q_E_F ?_
      exact q_E_x trivial
set_option maxHeartbeats 4000000 in
theorem dzj_N102_65  (s : q_S) (hI : q_iN s) : q_Ex (dz_N102_65 s) (fun _ => True) := by
  unfold dz_N102_65
  have j556 := dzj_N86_65 (s) hI
  refine q_E_L ?_
  generalize dz_N86_65 s = r4 at j556 ⊢
  have j557 := dzj_N87_65 (s) hI
  refine q_E_L ?_
  generalize dz_N87_65 s = r5 at j557 ⊢
  obtain ⟨r6, e559, j558⟩ := dzj_N116_66 (s) hI ((r4 / 24) - 4) (r5)
  rw [e559]
  refine q_E_B ?_
  cases h560 : r6 with
  | true =>
    refine q_E_T ?_
    exact q_E_x trivial
  | false =>
    refine q_E_F ?_
    exact q_E_x trivial
theorem dzj_N114_66  (s : q_S) (hI : q_iN s) : (fun _ => True) (dz_N114_66 s) := trivial
theorem dzj_N120_66  (s : q_S) (hI : q_iN s) (a1 : Int32) : (fun _ => True) (dz_N120_66 s a1) := trivial
theorem dzj_N119_66  (s : q_S) (hI : q_iN s) (a1 : Int32) (a2 : Int32) : (fun _ => True) (dz_N119_66 s a1 a2) := trivial
set_option maxHeartbeats 4000000 in
theorem dzjb_N122_66_5  (k5 : q_S → Int32 → Int32 → Int32 → Int32 → Option (Int32)) (M5 : Int) (tk5 : ∀ (s : q_S), q_iN s → ∀ (v1 : Int32) (v2 : Int32) (v3 : Int32) (v4 : Int32), q_rgz 0 4 v4 → ((4 - v4.toInt).toNat : Int) ≤ M5 → q_Ex (k5 s v1 v2 v3 v4) (fun _ => True)) (s : q_S) (hI : q_iN s) (v1 : Int32) (v2 : Int32) (v3 : Int32) (v4 : Int32) (rv4 : q_rgz 0 4 v4) (m5 : ((4 - v4.toInt).toNat : Int) ≤ M5 + 1) : q_Ex (cond (decide (v4 < 4)) (q_let (dz_N118_66 s 18 v4) fun r1 => cond (q_in ((20 : Int32) + v4) 48) (q_let ((v1 - ((s.1 4) (((20 : Int32) + v4).toNatClampNeg))) >>> (r1 &&& 31)) fun x2 => cond (q_in ((24 : Int32) + v4) 48) (q_let ((v2 - ((s.1 4) (((24 : Int32) + v4).toNatClampNeg))) >>> (r1 &&& 31)) fun x3 => q_let (dz_N118_66 s 17 v4) fun r4 => cond (decide (r4 = 1)) (cond (decide (x2 < 0)) (k5 s v1 v2 v3 (v4 + 1)) (cond (decide (x2 < 8)) (cond (decide (x3 < 0)) (k5 s v1 v2 v3 (v4 + 1)) (cond (decide (x3 < 8)) (q_let (dz_N120_66 s ((((256 * ((s.1 4) 7)) + 128) + (8 * v4)) + x3)) fun r5 => q_let (v3 ||| (((r5 >>> (((7 : Int32) - x2) &&& 31)) &&& 1) <<< (v4 &&& 31))) fun x6 => k5 s v1 v2 x6 (v4 + 1)) (k5 s v1 v2 v3 (v4 + 1)))) (k5 s v1 v2 v3 (v4 + 1)))) (k5 s v1 v2 v3 (v4 + 1))) none) none) (some v3)) (fun _ => True) := by
  cases h702 : decide (v4 < 4) with
  | true =>
    have g703 := (q_rg_ltT1 (l := 0) (U := 3) h702 rv4 (q_rg_lit (n := 4) (x := 4) rfl) (by decide))
    refine q_E_T ?_
    have j704 := dzj_N118_66 (s) hI (18) (v4)
    refine q_E_L ?_
    generalize dz_N118_66 s 18 v4 = r1 at j704 ⊢
    refine q_E_A (q_in_rg (q_rg_add (L := 20) (U := 23) (q_rg_lit (n := 20) (x := 20) rfl) g703 (by decide) (by decide) (by decide) (by decide)) (by decide) (by decide)) ?_
    have j705 : q_rgz (-2147483648) 2147483647 ((v1 - ((s.1 4) (((20 : Int32) + v4).toNatClampNeg))) >>> (r1 &&& 31)) := (q_rg_full _)
    refine q_E_L ?_
    generalize ((v1 - ((s.1 4) (((20 : Int32) + v4).toNatClampNeg))) >>> (r1 &&& 31)) = x2 at j705 ⊢
    refine q_E_A (q_in_rg (q_rg_add (L := 24) (U := 27) (q_rg_lit (n := 24) (x := 24) rfl) g703 (by decide) (by decide) (by decide) (by decide)) (by decide) (by decide)) ?_
    have j706 : q_rgz (-2147483648) 2147483647 ((v2 - ((s.1 4) (((24 : Int32) + v4).toNatClampNeg))) >>> (r1 &&& 31)) := (q_rg_full _)
    refine q_E_L ?_
    generalize ((v2 - ((s.1 4) (((24 : Int32) + v4).toNatClampNeg))) >>> (r1 &&& 31)) = x3 at j706 ⊢
    have j707 := dzj_N118_66 (s) hI (17) (v4)
    refine q_E_L ?_
    generalize dz_N118_66 s 17 v4 = r4 at j707 ⊢
    cases h708 : decide (r4 = 1) with
    | true =>
      have g709 := q_rg_eqT h708 (q_rg_lit (n := 1) (x := 1) rfl)
      refine q_E_T ?_
      cases h710 : decide (x2 < 0) with
      | true =>
        have g711 := (q_rg_ltT1 (l := -2147483648) (U := -1) h710 j705 (q_rg_lit (n := 0) (x := 0) rfl) (by decide))
        refine q_E_T ?_
        exact tk5 (s) hI (v1) (v2) (v3) (v4 + 1) (q_rg_le (L := 0) (U := 4) (q_rg_add (L := 1) (U := 4) g703 (q_rg_lit (n := 1) (x := 1) rfl) (by decide) (by decide) (by decide) (by decide)) (by decide) (by decide)) (q_meu g703 m5 (by decide) (by decide))
      | false =>
        have g712 := (q_rg_ltF1 (l2 := 0) (u := 2147483647) h710 j705 (q_rg_lit (n := 0) (x := 0) rfl))
        refine q_E_F ?_
        cases h713 : decide (x2 < 8) with
        | true =>
          have g714 := (q_rg_ltT1 (l := 0) (U := 7) h713 g712 (q_rg_lit (n := 8) (x := 8) rfl) (by decide))
          refine q_E_T ?_
          cases h715 : decide (x3 < 0) with
          | true =>
            have g716 := (q_rg_ltT1 (l := -2147483648) (U := -1) h715 j706 (q_rg_lit (n := 0) (x := 0) rfl) (by decide))
            refine q_E_T ?_
            exact tk5 (s) hI (v1) (v2) (v3) (v4 + 1) (q_rg_le (L := 0) (U := 4) (q_rg_add (L := 1) (U := 4) g703 (q_rg_lit (n := 1) (x := 1) rfl) (by decide) (by decide) (by decide) (by decide)) (by decide) (by decide)) (q_meu g703 m5 (by decide) (by decide))
          | false =>
            have g717 := (q_rg_ltF1 (l2 := 0) (u := 2147483647) h715 j706 (q_rg_lit (n := 0) (x := 0) rfl))
            refine q_E_F ?_
            cases h718 : decide (x3 < 8) with
            | true =>
              have g719 := (q_rg_ltT1 (l := 0) (U := 7) h718 g717 (q_rg_lit (n := 8) (x := 8) rfl) (by decide))
              refine q_E_T ?_
              have j720 := dzj_N120_66 (s) hI ((((256 * ((s.1 4) 7)) + 128) + (8 * v4)) + x3)
              refine q_E_L ?_
              generalize dz_N120_66 s ((((256 * ((s.1 4) 7)) + 128) + (8 * v4)) + x3) = r5 at j720 ⊢
              have j721 : q_rgz (-2147483648) 2147483647 (v3 ||| (((r5 >>> (((7 : Int32) - x2) &&& 31)) &&& 1) <<< (v4 &&& 31))) := (q_rg_full _)
              refine q_E_L ?_
              generalize (v3 ||| (((r5 >>> (((7 : Int32) - x2) &&& 31)) &&& 1) <<< (v4 &&& 31))) = x6 at j721 ⊢
              exact tk5 (s) hI (v1) (v2) (x6) (v4 + 1) (q_rg_le (L := 0) (U := 4) (q_rg_add (L := 1) (U := 4) g703 (q_rg_lit (n := 1) (x := 1) rfl) (by decide) (by decide) (by decide) (by decide)) (by decide) (by decide)) (q_meu g703 m5 (by decide) (by decide))
            | false =>
              have g722 := (q_rg_ltF1 (l2 := 8) (u := 2147483647) h718 g717 (q_rg_lit (n := 8) (x := 8) rfl))
              refine q_E_F ?_
              exact tk5 (s) hI (v1) (v2) (v3) (v4 + 1) (q_rg_le (L := 0) (U := 4) (q_rg_add (L := 1) (U := 4) g703 (q_rg_lit (n := 1) (x := 1) rfl) (by decide) (by decide) (by decide) (by decide)) (by decide) (by decide)) (q_meu g703 m5 (by decide) (by decide))
        | false =>
          have g723 := (q_rg_ltF1 (l2 := 8) (u := 2147483647) h713 g712 (q_rg_lit (n := 8) (x := 8) rfl))
          refine q_E_F ?_
          exact tk5 (s) hI (v1) (v2) (v3) (v4 + 1) (q_rg_le (L := 0) (U := 4) (q_rg_add (L := 1) (U := 4) g703 (q_rg_lit (n := 1) (x := 1) rfl) (by decide) (by decide) (by decide) (by decide)) (by decide) (by decide)) (q_meu g703 m5 (by decide) (by decide))
    | false =>
      refine q_E_F ?_
      exact tk5 (s) hI (v1) (v2) (v3) (v4 + 1) (q_rg_le (L := 0) (U := 4) (q_rg_add (L := 1) (U := 4) g703 (q_rg_lit (n := 1) (x := 1) rfl) (by decide) (by decide) (by decide) (by decide)) (by decide) (by decide)) (q_meu g703 m5 (by decide) (by decide))
  | false =>
    have g724 := (q_rg_ltF1 (l2 := 4) (u := 4) h702 rv4 (q_rg_lit (n := 4) (x := 4) rfl))
    refine q_E_F ?_
    exact q_E_x trivial
theorem dzj_N122_66_5  : ∀ (m : Nat) (s : q_S) (hI : q_iN s) (v1 : Int32) (v2 : Int32) (v3 : Int32) (v4 : Int32) (rv4 : q_rgz 0 4 v4), ((4 - v4.toInt).toNat : Int) ≤ (m : Int) → q_Ex (dz_N122_66_5 (m + 1) s v1 v2 v3 v4) (fun _ => True) := by
  intro m
  induction m with
  | zero => intro s hI v1 v2 v3 v4 rv4 hm; rw [dzs_N122_66_5]; exact dzjb_N122_66_5 (dz_N122_66_5 0) (-1) (fun s hI v1 v2 v3 v4 rv4 hm => absurd hm (by omega)) s hI v1 v2 v3 v4 rv4 (by omega)
  | succ m ih => intro s hI v1 v2 v3 v4 rv4 hm; rw [dzs_N122_66_5]; exact dzjb_N122_66_5 (dz_N122_66_5 (m + 1)) (m : Int) (fun s hI v1 v2 v3 v4 rv4 hm => ih s hI v1 v2 v3 v4 rv4 hm) s hI v1 v2 v3 v4 rv4 (by omega)
set_option maxHeartbeats 4000000 in
theorem dzj_N122_66  (s : q_S) (hI : q_iN s) (a1 : Int32) (a2 : Int32) : q_Ex (dz_N122_66 s a1 a2) (fun _ => True) := by
  unfold dz_N122_66
  exact dzj_N122_66_5 4999 (s) hI (a1) (a2) (0) (0) (q_rg_le (L := 0) (U := 4) (q_rg_lit (n := 0) (x := 0) rfl) (by decide) (by decide)) (q_meu0 (q_rg_lit (n := 0) (x := 0) rfl) (by decide) (by decide))
theorem dzj_N322  (s : q_S) (hI : q_iN s) (a0 : Int32) : (fun _ => True) (dz_N322 s a0) := trivial
theorem dzj_N121_66  (s : q_S) (hI : q_iN s) (a1 : Int32) : (fun _ => True) (dz_N121_66 s a1) := trivial
set_option maxHeartbeats 4000000 in
theorem dzj_N124_66_19  (s : q_S) (hI : q_iN s) (v1 : Int32) (v2 : Int32) : (q_iN) (dz_N124_66_19 s v1 v2) := by
  refine q_S_of (P := (q_iN)) ?_
  unfold dz_N124_66_19
  have j759 := dzj_N121_66 (s) hI (v1)
  refine q_S_L ?_
  generalize dz_N121_66 s v1 = r2 at j759 ⊢
  cases h760 : r2 with
  | true =>
    refine q_S_T ?_
    exact q_E_x (q_iN_A hI)
  | false =>
    refine q_S_F ?_
    exact q_E_x hI
set_option maxHeartbeats 4000000 in
theorem dzj_N124_66  (s : q_S) (hI : q_iN s) (a1 : Int32) (a2 : Int32) : (q_iN) (dz_N124_66 s a1 a2) := by
  refine q_S_of (P := (q_iN)) ?_
  unfold dz_N124_66
  have j761 := dzj_N322 (s) hI (a2)
  refine q_S_L ?_
  generalize dz_N322 s a2 = r1 at j761 ⊢
  cases h762 : decide (1 < r1) with
  | true =>
    have g763 := (q_rg_ltT2 (L := 2) (u2 := 2147483647) h762 (q_rg_lit (n := 1) (x := 1) rfl) (q_rg_full _) (by decide))
    refine q_S_T ?_
    exact q_E_x (dzj_N124_66_19 (q_sA s 4 (upd (s.1 4) 29 (((s.1 4) 29) ||| a2))) (q_iN_A hI) (a1) (a2))
  | false =>
    have g764 := (q_rg_ltF2 (l2 := -2147483648) (u := 1) h762 (q_rg_lit (n := 1) (x := 1) rfl) (q_rg_full _))
    refine q_S_F ?_
    exact q_E_x (dzj_N124_66_19 (s) hI (a1) (a2))
set_option maxHeartbeats 4000000 in
theorem dzj_N123_66_39  (s : q_S) (hI : q_iN s) (v1 : Int32) (v3 : Int32) (rv3 : q_rgz 0 3 v3) : q_Ex (dz_N123_66_39 s v1 v3) (fun _ => True) := by
  unfold dz_N123_66_39
  exact q_E_x trivial
set_option maxHeartbeats 4000000 in
theorem dzjb_N123_66_2  (k2 : q_S → Int32 → Int32 → Int32 → Option (Int32)) (M2 : Int) (tk2 : ∀ (s : q_S), q_iN s → ∀ (v1 : Int32) (v2 : Int32) (v3 : Int32), q_rgz 0 4 v3 → ((4 - v3.toInt).toNat : Int) ≤ M2 → q_Ex (k2 s v1 v2 v3) (fun _ => True)) (s : q_S) (hI : q_iN s) (v1 : Int32) (v2 : Int32) (v3 : Int32) (rv3 : q_rgz 0 4 v3) (m2 : ((4 - v3.toInt).toNat : Int) ≤ M2 + 1) : q_Ex (cond (decide (v3 < 4)) (cond (decide ((v2 >>> (v3 &&& 31)) &&& 1 = 1)) (q_let (dz_N118_66 s 19 v3) fun r1 => cond (decide (r1 = 1)) (q_let (dz_N121_66 s v1) fun r2 => cond r2 (cond (q_in ((3 : Int32) + (v1 &&& 3)) 48) (some ((s.1 4) (((3 : Int32) + (v1 &&& 3)).toNatClampNeg))) none) (dz_N123_66_39 s v1 v3)) (dz_N123_66_39 s v1 v3)) (k2 s v1 v2 (v3 + 1))) (cond (q_in ((3 : Int32) + (v1 &&& 3)) 48) (some ((s.1 4) (((3 : Int32) + (v1 &&& 3)).toNatClampNeg))) none)) (fun _ => True) := by
  cases h812 : decide (v3 < 4) with
  | true =>
    have g813 := (q_rg_ltT1 (l := 0) (U := 3) h812 rv3 (q_rg_lit (n := 4) (x := 4) rfl) (by decide))
    refine q_E_T ?_
    cases h814 : decide ((v2 >>> (v3 &&& 31)) &&& 1 = 1) with
    | true =>
      have g815 := q_rg_eqT h814 (q_rg_lit (n := 1) (x := 1) rfl)
      refine q_E_T ?_
      have j816 := dzj_N118_66 (s) hI (19) (v3)
      refine q_E_L ?_
      generalize dz_N118_66 s 19 v3 = r1 at j816 ⊢
      cases h817 : decide (r1 = 1) with
      | true =>
        have g818 := q_rg_eqT h817 (q_rg_lit (n := 1) (x := 1) rfl)
        refine q_E_T ?_
        have j819 := dzj_N121_66 (s) hI (v1)
        refine q_E_L ?_
        generalize dz_N121_66 s v1 = r2 at j819 ⊢
        cases h820 : r2 with
        | true =>
          refine q_E_T ?_
          refine q_E_A (q_in_rg (q_rg_add (L := 3) (U := 6) (q_rg_lit (n := 3) (x := 3) rfl) (q_rg_and v1 3 (U := 3) (by decide) rfl) (by decide) (by decide) (by decide) (by decide)) (by decide) (by decide)) ?_
          exact q_E_x trivial
        | false =>
          refine q_E_F ?_
          exact dzj_N123_66_39 (s) hI (v1) (v3) (q_rg_le (L := 0) (U := 3) g813 (by decide) (by decide))
      | false =>
        refine q_E_F ?_
        exact dzj_N123_66_39 (s) hI (v1) (v3) (q_rg_le (L := 0) (U := 3) g813 (by decide) (by decide))
    | false =>
      have g821 := (q_rg_neU (l := 0) (u := 1) (n := 1) (U := 0) h814 (q_rg_and (v2 >>> (v3 &&& 31)) 1 (U := 1) (by decide) rfl) rfl (by decide) (by decide))
      refine q_E_F ?_
      exact tk2 (s) hI (v1) (v2) (v3 + 1) (q_rg_le (L := 0) (U := 4) (q_rg_add (L := 1) (U := 4) g813 (q_rg_lit (n := 1) (x := 1) rfl) (by decide) (by decide) (by decide) (by decide)) (by decide) (by decide)) (q_meu g813 m2 (by decide) (by decide))
  | false =>
    have g822 := (q_rg_ltF1 (l2 := 4) (u := 4) h812 rv3 (q_rg_lit (n := 4) (x := 4) rfl))
    refine q_E_F ?_
    refine q_E_A (q_in_rg (q_rg_add (L := 3) (U := 6) (q_rg_lit (n := 3) (x := 3) rfl) (q_rg_and v1 3 (U := 3) (by decide) rfl) (by decide) (by decide) (by decide) (by decide)) (by decide) (by decide)) ?_
    exact q_E_x trivial
theorem dzj_N123_66_2  : ∀ (m : Nat) (s : q_S) (hI : q_iN s) (v1 : Int32) (v2 : Int32) (v3 : Int32) (rv3 : q_rgz 0 4 v3), ((4 - v3.toInt).toNat : Int) ≤ (m : Int) → q_Ex (dz_N123_66_2 (m + 1) s v1 v2 v3) (fun _ => True) := by
  intro m
  induction m with
  | zero => intro s hI v1 v2 v3 rv3 hm; rw [dzs_N123_66_2]; exact dzjb_N123_66_2 (dz_N123_66_2 0) (-1) (fun s hI v1 v2 v3 rv3 hm => absurd hm (by omega)) s hI v1 v2 v3 rv3 (by omega)
  | succ m ih => intro s hI v1 v2 v3 rv3 hm; rw [dzs_N123_66_2]; exact dzjb_N123_66_2 (dz_N123_66_2 (m + 1)) (m : Int) (fun s hI v1 v2 v3 rv3 hm => ih s hI v1 v2 v3 rv3 hm) s hI v1 v2 v3 rv3 (by omega)
set_option maxHeartbeats 4000000 in
theorem dzj_N123_66  (s : q_S) (hI : q_iN s) (a1 : Int32) (a2 : Int32) : q_Ex (dz_N123_66 s a1 a2) (fun _ => True) := by
  unfold dz_N123_66
  exact dzj_N123_66_2 4999 (s) hI (a1) (a2) (0) (q_rg_le (L := 0) (U := 4) (q_rg_lit (n := 0) (x := 0) rfl) (by decide) (by decide)) (q_meu0 (q_rg_lit (n := 0) (x := 0) rfl) (by decide) (by decide))
set_option maxHeartbeats 4000000 in
theorem dzjb_N103_65_95_47  (k47 : q_S → Int32 → Int32 → Int32 → Option (q_S)) (M47 : Int) (tk47 : ∀ (s : q_S), q_iN s → ∀ (v2 : Int32) (v4 : Int32) (v5 : Int32), q_rgz 0 31 v2 → q_rgz 0 30 v4 → q_rgz 0 32 v5 → ((32 - v5.toInt).toNat : Int) ≤ M47 → q_Ex (k47 s v2 v4 v5) (q_iN)) (s : q_S) (hI : q_iN s) (v2 : Int32) (v4 : Int32) (v5 : Int32) (rv2 : q_rgz 0 31 v2) (rv4 : q_rgz 0 30 v4) (rv5 : q_rgz 0 32 v5) (m47 : ((32 - v5.toInt).toNat : Int) ≤ M47 + 1) : q_Ex (cond (decide (v4 + 1 < v5)) (cond (decide (lg_cmp (((s.2.2 1 8) / 960) - ((s.2.2 1 8) / 960) / 2 * 2) 0 = 0)) (some (q_sI s 13 3 ((s.2.1 13 3) + 1))) (some (q_sI s 18 3 ((s.2.1 18 3) + 1)))) (q_let (dz_N119_66 s v5 v2) fun r3 => (dz_N122_66 s v5 v2).bind fun r4 => q_let (dz_N124_66 s r3 r4) fun r5 => (dz_N123_66 r5 r3 r4).bind fun r6 => k47 (q_sA r5 31 (upd (r5.1 31) ((((32 * v2) + v5) &&& 1023).toNatClampNeg) r6)) v2 v4 (v5 + 1))) (q_iN) := by
  cases h944 : decide (v4 + 1 < v5) with
  | true =>
    have g945 := (q_rg_ltT2 (L := 2) (u2 := 32) h944 (q_rg_add (L := 1) (U := 31) rv4 (q_rg_lit (n := 1) (x := 1) rfl) (by decide) (by decide) (by decide) (by decide)) rv5 (by decide))
    refine q_E_T ?_
    cases h946 : decide (lg_cmp (((s.2.2 1 8) / 960) - ((s.2.2 1 8) / 960) / 2 * 2) 0 = 0) with
    | true =>
      have g947 := q_rg_eqT h946 (q_rg_lit (n := 0) (x := 0) rfl)
      refine q_E_T ?_
      exact q_E_x (q_iN_I (i := 13) (m := 3) hI (by decide))
    | false =>
      refine q_E_F ?_
      exact q_E_x (q_iN_I (i := 18) (m := 3) hI (by decide))
  | false =>
    have g948 := (q_rg_ltF2 (l2 := 0) (u := 31) h944 (q_rg_add (L := 1) (U := 31) rv4 (q_rg_lit (n := 1) (x := 1) rfl) (by decide) (by decide) (by decide) (by decide)) rv5)
    refine q_E_F ?_
    have j949 := dzj_N119_66 (s) hI (v5) (v2)
    refine q_E_L ?_
    generalize dz_N119_66 s v5 v2 = r3 at j949 ⊢
    obtain ⟨r4, e951, j950⟩ := dzj_N122_66 (s) hI (v5) (v2)
    rw [e951]
    refine q_E_B ?_
    have j952 := dzj_N124_66 (s) hI (r3) (r4)
    refine q_E_L ?_
    generalize dz_N124_66 s r3 r4 = r5 at j952 ⊢
    obtain ⟨r6, e954, j953⟩ := dzj_N123_66 (r5) j952 (r3) (r4)
    rw [e954]
    refine q_E_B ?_
    exact tk47 (q_sA r5 31 (upd (r5.1 31) ((((32 * v2) + v5) &&& 1023).toNatClampNeg) r6)) (q_iN_A j952) (v2) (v4) (v5 + 1) (q_rg_le (L := 0) (U := 31) rv2 (by decide) (by decide)) (q_rg_le (L := 0) (U := 30) rv4 (by decide) (by decide)) (q_rg_le (L := 0) (U := 32) (q_rg_add (L := 1) (U := 32) g948 (q_rg_lit (n := 1) (x := 1) rfl) (by decide) (by decide) (by decide) (by decide)) (by decide) (by decide)) (q_meu g948 m47 (by decide) (by decide))
theorem dzj_N103_65_95_47  : ∀ (m : Nat) (s : q_S) (hI : q_iN s) (v2 : Int32) (v4 : Int32) (v5 : Int32) (rv2 : q_rgz 0 31 v2) (rv4 : q_rgz 0 30 v4) (rv5 : q_rgz 0 32 v5), ((32 - v5.toInt).toNat : Int) ≤ (m : Int) → q_Ex (dz_N103_65_95_47 (m + 1) s v2 v4 v5) (q_iN) := by
  intro m
  induction m with
  | zero => intro s hI v2 v4 v5 rv2 rv4 rv5 hm; rw [dzs_N103_65_95_47]; exact dzjb_N103_65_95_47 (dz_N103_65_95_47 0) (-1) (fun s hI v2 v4 v5 rv2 rv4 rv5 hm => absurd hm (by omega)) s hI v2 v4 v5 rv2 rv4 rv5 (by omega)
  | succ m ih => intro s hI v2 v4 v5 rv2 rv4 rv5 hm; rw [dzs_N103_65_95_47]; exact dzjb_N103_65_95_47 (dz_N103_65_95_47 (m + 1)) (m : Int) (fun s hI v2 v4 v5 rv2 rv4 rv5 hm => ih s hI v2 v4 v5 rv2 rv4 rv5 hm) s hI v2 v4 v5 rv2 rv4 rv5 (by omega)
set_option maxHeartbeats 4000000 in
theorem dzj_N103_65_95  (s : q_S) (hI : q_iN s) : q_Ex (dz_N103_65_95 s) (q_iN) := by
  unfold dz_N103_65_95
  have j955 := dzj_N86_65 (s) hI
  refine q_E_L ?_
  generalize dz_N86_65 s = r1 at j955 ⊢
  have j956 := dzj_N87_65 (s) hI
  refine q_E_L ?_
  generalize dz_N87_65 s = r2 at j956 ⊢
  cases h957 : decide ((r1 / 24) - 4 < 0) with
  | true =>
    have g958 := (q_rg_ltT1 (l := -2147483648) (U := -1) h957 (q_rg_full _) (q_rg_lit (n := 0) (x := 0) rfl) (by decide))
    refine q_E_T ?_
    cases h959 : decide (lg_cmp (((s.2.2 1 8) / 960) - ((s.2.2 1 8) / 960) / 2 * 2) 0 = 0) with
    | true =>
      have g960 := q_rg_eqT h959 (q_rg_lit (n := 0) (x := 0) rfl)
      refine q_E_T ?_
      exact q_E_x (q_iN_I (i := 13) (m := 3) hI (by decide))
    | false =>
      refine q_E_F ?_
      exact q_E_x (q_iN_I (i := 18) (m := 3) hI (by decide))
  | false =>
    have g961 := (q_rg_ltF1 (l2 := 0) (u := 2147483647) h957 (q_rg_full _) (q_rg_lit (n := 0) (x := 0) rfl))
    refine q_E_F ?_
    cases h962 : decide ((r1 / 24) - 4 < 32) with
    | true =>
      have g963 := (q_rg_ltT1 (l := 0) (U := 31) h962 g961 (q_rg_lit (n := 32) (x := 32) rfl) (by decide))
      refine q_E_T ?_
      cases h964 : decide (r2 < 4) with
      | true =>
        have g965 := (q_rg_ltT1 (l := -2147483648) (U := 3) h964 (q_rg_full _) (q_rg_lit (n := 4) (x := 4) rfl) (by decide))
        refine q_E_T ?_
        cases h966 : decide (lg_cmp (((s.2.2 1 8) / 960) - ((s.2.2 1 8) / 960) / 2 * 2) 0 = 0) with
        | true =>
          have g967 := q_rg_eqT h966 (q_rg_lit (n := 0) (x := 0) rfl)
          refine q_E_T ?_
          exact q_E_x (q_iN_I (i := 13) (m := 3) hI (by decide))
        | false =>
          refine q_E_F ?_
          exact q_E_x (q_iN_I (i := 18) (m := 3) hI (by decide))
      | false =>
        have g968 := (q_rg_ltF1 (l2 := 4) (u := 2147483647) h964 (q_rg_full _) (q_rg_lit (n := 4) (x := 4) rfl))
        refine q_E_F ?_
        cases h969 : decide (19 < r2) with
        | true =>
          have g970 := (q_rg_ltT2 (L := 20) (u2 := 2147483647) h969 (q_rg_lit (n := 19) (x := 19) rfl) g968 (by decide))
          refine q_E_T ?_
          cases h971 : decide (lg_cmp (((s.2.2 1 8) / 960) - ((s.2.2 1 8) / 960) / 2 * 2) 0 = 0) with
          | true =>
            have g972 := q_rg_eqT h971 (q_rg_lit (n := 0) (x := 0) rfl)
            refine q_E_T ?_
            exact q_E_x (q_iN_I (i := 13) (m := 3) hI (by decide))
          | false =>
            refine q_E_F ?_
            exact q_E_x (q_iN_I (i := 18) (m := 3) hI (by decide))
        | false =>
          have g973 := (q_rg_ltF2 (l2 := 4) (u := 19) h969 (q_rg_lit (n := 19) (x := 19) rfl) g968)
          refine q_E_F ?_
          exact dzj_N103_65_95_47 4999 (s) hI ((r1 / 24) - 4) (2 * (r2 - 4)) (2 * (r2 - 4)) (q_rg_le (L := 0) (U := 31) g963 (by decide) (by decide)) (q_rg_le (L := 0) (U := 30) (q_rg_mul (L := 0) (U := 30) (q_rg_lit (n := 2) (x := 2) rfl) (q_rg_sub (L := 0) (U := 15) g973 (q_rg_lit (n := 4) (x := 4) rfl) (by decide) (by decide) (by decide) (by decide)) (by decide) (by decide) (by decide) (by decide) (by decide) (by decide)) (by decide) (by decide)) (q_rg_le (L := 0) (U := 32) (q_rg_mul (L := 0) (U := 30) (q_rg_lit (n := 2) (x := 2) rfl) (q_rg_sub (L := 0) (U := 15) g973 (q_rg_lit (n := 4) (x := 4) rfl) (by decide) (by decide) (by decide) (by decide)) (by decide) (by decide) (by decide) (by decide) (by decide) (by decide)) (by decide) (by decide)) (q_meu0 (q_rg_mul (L := 0) (U := 30) (q_rg_lit (n := 2) (x := 2) rfl) (q_rg_sub (L := 0) (U := 15) g973 (q_rg_lit (n := 4) (x := 4) rfl) (by decide) (by decide) (by decide) (by decide)) (by decide) (by decide) (by decide) (by decide) (by decide) (by decide)) (by decide) (by decide))
    | false =>
      have g974 := (q_rg_ltF1 (l2 := 32) (u := 2147483647) h962 g961 (q_rg_lit (n := 32) (x := 32) rfl))
      refine q_E_F ?_
      cases h975 : decide (lg_cmp (((s.2.2 1 8) / 960) - ((s.2.2 1 8) / 960) / 2 * 2) 0 = 0) with
      | true =>
        have g976 := q_rg_eqT h975 (q_rg_lit (n := 0) (x := 0) rfl)
        refine q_E_T ?_
        exact q_E_x (q_iN_I (i := 13) (m := 3) hI (by decide))
      | false =>
        refine q_E_F ?_
        exact q_E_x (q_iN_I (i := 18) (m := 3) hI (by decide))
set_option maxHeartbeats 4000000 in
theorem dzj_N105_65  (s : q_S) (hI : q_iN s) (a1 : Int32) : q_Ex (dz_N105_65 s a1) (fun (x : q_S × Bool) => q_iN x.1) := by
  unfold dz_N105_65
  cases h982 : decide (0 < (s.1 7) ((a1 &&& 1).toNatClampNeg)) with
  | true =>
    have g983 := (q_rg_ltT2 (L := 1) (u2 := 2147483647) h982 (q_rg_lit (n := 0) (x := 0) rfl) (q_rg_full _) (by decide))
    refine q_E_T ?_
    exact q_E_x (q_iN_A hI)
  | false =>
    have g984 := (q_rg_ltF2 (l2 := -2147483648) (u := 0) h982 (q_rg_lit (n := 0) (x := 0) rfl) (q_rg_full _))
    refine q_E_F ?_
    obtain ⟨r2, e986, j985⟩ := dzj_N95_65 (s) hI ((1 : Int32) <<< ((a1 &&& 1) &&& 31))
    rw [e986]
    refine q_E_B ?_
    exact q_E_x (q_iN_A j985)
set_option maxHeartbeats 4000000 in
theorem dzj_N104_65_26  (s : q_S) (hI : q_iN s) (v1 : Int32) (v2 : Int32) (rv2 : q_rgz 0 1 v2) : q_Ex (dz_N104_65_26 s v1 v2) (q_iN) := by
  unfold dz_N104_65_26
  cases h1014 : decide (v1 &&& 2 = 2) with
  | true =>
    have g1015 := q_rg_eqT h1014 (q_rg_lit (n := 2) (x := 2) rfl)
    refine q_E_T ?_
    cases h1016 : decide (v1 &&& 4 = 0) with
    | true =>
      have g1017 := q_rg_eqT h1016 (q_rg_lit (n := 0) (x := 0) rfl)
      refine q_E_T ?_
      obtain ⟨r3, e1019, j1018⟩ := dzj_N105_65 (s) hI (1)
      rw [e1019]
      refine q_E_B ?_
      cases h1020 : r3.2 with
      | true =>
        refine q_E_T ?_
        exact q_E_x j1018
      | false =>
        refine q_E_F ?_
        exact q_E_x j1018
    | false =>
      have g1021 := (q_rg_neL (l := 0) (u := 4) (n := 0) (L := 1) h1016 (q_rg_and v1 4 (U := 4) (by decide) rfl) rfl (by decide) (by decide))
      refine q_E_F ?_
      cases h1022 : decide (v2 = 0) with
      | true =>
        have g1023 := q_rg_eqT h1022 (q_rg_lit (n := 0) (x := 0) rfl)
        refine q_E_T ?_
        exact q_E_x hI
      | false =>
        have g1024 := (q_rg_neL (l := 0) (u := 1) (n := 0) (L := 1) h1022 rv2 rfl (by decide) (by decide))
        refine q_E_F ?_
        obtain ⟨r4, e1026, j1025⟩ := dzj_N105_65 (s) hI (1)
        rw [e1026]
        refine q_E_B ?_
        cases h1027 : r4.2 with
        | true =>
          refine q_E_T ?_
          exact q_E_x j1025
        | false =>
          refine q_E_F ?_
          exact q_E_x j1025
  | false =>
    have g1028 := (q_rg_neU (l := 0) (u := 2) (n := 2) (U := 1) h1014 (q_rg_and v1 2 (U := 2) (by decide) rfl) rfl (by decide) (by decide))
    refine q_E_F ?_
    exact q_E_x hI
set_option maxHeartbeats 4000000 in
theorem dzj_N104_65  (s : q_S) (hI : q_iN s) : q_Ex (dz_N104_65 s) (q_iN) := by
  unfold dz_N104_65
  cases h1029 : decide (((s.1 4) 16) &&& 1 = 1) with
  | true =>
    have g1030 := q_rg_eqT h1029 (q_rg_lit (n := 1) (x := 1) rfl)
    refine q_E_T ?_
    obtain ⟨r2, e1032, j1031⟩ := dzj_N105_65 (s) hI (0)
    rw [e1032]
    refine q_E_B ?_
    cases h1033 : r2.2 with
    | true =>
      refine q_E_T ?_
      exact dzj_N104_65_26 (r2.1) j1031 ((s.1 4) 16) (1) (q_rg_le (L := 0) (U := 1) (q_rg_lit (n := 1) (x := 1) rfl) (by decide) (by decide))
    | false =>
      refine q_E_F ?_
      exact dzj_N104_65_26 (r2.1) j1031 ((s.1 4) 16) (0) (q_rg_le (L := 0) (U := 1) (q_rg_lit (n := 0) (x := 0) rfl) (by decide) (by decide))
  | false =>
    have g1034 := (q_rg_neU (l := 0) (u := 1) (n := 1) (U := 0) h1029 (q_rg_and ((s.1 4) 16) 1 (U := 1) (by decide) rfl) rfl (by decide) (by decide))
    refine q_E_F ?_
    exact dzj_N104_65_26 (s) hI ((s.1 4) 16) (0) (q_rg_le (L := 0) (U := 1) (q_rg_lit (n := 0) (x := 0) rfl) (by decide) (by decide))
set_option maxHeartbeats 4000000 in
theorem dzj_N177_72  (s : q_S) (hI : q_iN s) : (fun (x : q_S × Bool) => q_iN x.1) (dz_N177_72 s) := by
  refine q_S_of (P := (fun (x : q_S × Bool) => q_iN x.1)) ?_
  unfold dz_N177_72
  cases h1047 : decide (s.2.1 8 2 < 0) with
  | true =>
    have g1048 := (q_rg_ltT1 (l := -2147483648) (U := -1) h1047 (q_rg_full _) (q_rg_lit (n := 0) (x := 0) rfl) (by decide))
    refine q_S_T ?_
    exact q_E_x hI
  | false =>
    have g1049 := (q_rg_ltF1 (l2 := 0) (u := 2147483647) h1047 (q_rg_full _) (q_rg_lit (n := 0) (x := 0) rfl))
    refine q_S_F ?_
    cases h1050 : decide (s.2.1 8 2 < s.2.1 8 1) with
    | true =>
      have g1051 := (q_rg_ltT1 (l := 0) (U := 2147483646) h1050 g1049 (q_rg_full _) (by decide))
      have g1052 := (q_rg_ltT2 (L := 1) (u2 := 2147483647) h1050 g1049 (q_rg_full _) (by decide))
      refine q_S_T ?_
      cases h1053 : decide (s.2.1 8 2 < 40) with
      | true =>
        have g1054 := (q_rg_ltT1 (l := 0) (U := 39) h1053 g1051 (q_rg_lit (n := 40) (x := 40) rfl) (by decide))
        refine q_S_T ?_
        cases h1055 : decide ((s.2.1 8 3) + 1 < (s.1 9) ((s.2.1 8 2).toNatClampNeg)) with
        | true =>
          have g1056 := (q_rg_ltT1 (l := -2147483648) (U := 2147483646) h1055 (q_rg_full _) (q_rg_full _) (by decide))
          have g1057 := (q_rg_ltT2 (L := -2147483647) (u2 := 2147483647) h1055 (q_rg_full _) (q_rg_full _) (by decide))
          refine q_S_T ?_
          exact q_E_x (q_iN_I (i := 8) (m := 3) hI (by decide))
        | false =>
          refine q_S_F ?_
          exact q_E_x (q_iN_I (i := 8) (m := 4) (q_iN_I (i := 8) (m := 2) (q_iN_I (i := 8) (m := 3) hI (by decide)) (by decide)) (by decide))
      | false =>
        have g1058 := (q_rg_ltF1 (l2 := 40) (u := 2147483646) h1053 g1051 (q_rg_lit (n := 40) (x := 40) rfl))
        refine q_S_F ?_
        exact q_E_x hI
    | false =>
      refine q_S_F ?_
      exact q_E_x hI
set_option maxHeartbeats 4000000 in
theorem dzj_N106_65  (s : q_S) (hI : q_iN s) : (q_iN) (dz_N106_65 s) := by
  refine q_S_of (P := (q_iN)) ?_
  unfold dz_N106_65
  cases h1063 : decide ((s.1 4) 44 = 1) with
  | true =>
    have g1064 := q_rg_eqT h1063 (q_rg_lit (n := 1) (x := 1) rfl)
    refine q_S_T ?_
    have j1065 := dzj_N177_72 (s) hI
    refine q_S_L ?_
    generalize dz_N177_72 s = r1 at j1065 ⊢
    cases h1066 : r1.2 with
    | true =>
      refine q_S_T ?_
      exact q_E_x (q_iN_A j1065)
    | false =>
      refine q_S_F ?_
      exact q_E_x j1065
  | false =>
    refine q_S_F ?_
    exact q_E_x hI
set_option maxHeartbeats 4000000 in
theorem dzj_N169_89_59  (s : q_S) (hI : q_iN s) (v1 : Int32) (v4 : Int32) (rv1 : q_rgz 0 2 v1) : q_Ex (dz_N169_89_59 s v1 v4) (q_iN) := by
  unfold dz_N169_89_59
  refine q_E_A (q_in_rg rv1 (by decide) (by decide)) ?_
  exact q_E_x (q_iN_A hI)
set_option maxHeartbeats 4000000 in
theorem dzj_N169_89  (s : q_S) (hI : q_iN s) (a1 : Int32) (a2 : Int32) : q_Ex (dz_N169_89 s a1 a2) (q_iN) := by
  unfold dz_N169_89
  cases h1093 : decide (a1 < 0) with
  | true =>
    have g1094 := (q_rg_ltT1 (l := -2147483648) (U := -1) h1093 (q_rg_full _) (q_rg_lit (n := 0) (x := 0) rfl) (by decide))
    refine q_E_T ?_
    exact q_E_x hI
  | false =>
    have g1095 := (q_rg_ltF1 (l2 := 0) (u := 2147483647) h1093 (q_rg_full _) (q_rg_lit (n := 0) (x := 0) rfl))
    refine q_E_F ?_
    cases h1096 : decide (a1 < 3) with
    | true =>
      have g1097 := (q_rg_ltT1 (l := 0) (U := 2) h1096 g1095 (q_rg_lit (n := 3) (x := 3) rfl) (by decide))
      refine q_E_T ?_
      cases h1098 : decide (65535 < ((s.1 26) (a1.toNatClampNeg)) + a2) with
      | true =>
        have g1099 := (q_rg_ltT2 (L := 65536) (u2 := 2147483647) h1098 (q_rg_lit (n := 65535) (x := 65535) rfl) (q_rg_full _) (by decide))
        refine q_E_T ?_
        cases h1100 : decide (((s.1 29) (a1.toNatClampNeg)) &&& 3 = 1) with
        | true =>
          have g1101 := q_rg_eqT h1100 (q_rg_lit (n := 1) (x := 1) rfl)
          refine q_E_T ?_
          exact dzj_N169_89_59 (q_sA s 26 (upd (s.1 26) (a1.toNatClampNeg) ((((s.1 26) (a1.toNatClampNeg)) + a2) - (((s.1 26) (a1.toNatClampNeg)) + a2) / 65536 * 65536))) (q_iN_A hI) (a1) ((s.1 29) (a1.toNatClampNeg)) (q_rg_le (L := 0) (U := 2) g1097 (by decide) (by decide))
        | false =>
          refine q_E_F ?_
          cases h1102 : decide (((s.1 29) (a1.toNatClampNeg)) &&& 3 = 2) with
          | true =>
            have g1103 := q_rg_eqT h1102 (q_rg_lit (n := 2) (x := 2) rfl)
            refine q_E_T ?_
            exact dzj_N169_89_59 (q_sA s 26 (upd (s.1 26) (a1.toNatClampNeg) ((((s.1 26) (a1.toNatClampNeg)) + a2) - (((s.1 26) (a1.toNatClampNeg)) + a2) / 65536 * 65536))) (q_iN_A hI) (a1) ((s.1 29) (a1.toNatClampNeg)) (q_rg_le (L := 0) (U := 2) g1097 (by decide) (by decide))
          | false =>
            refine q_E_F ?_
            exact q_E_x (q_iN_A (q_iN_A hI))
      | false =>
        have g1104 := (q_rg_ltF2 (l2 := -2147483648) (u := 65535) h1098 (q_rg_lit (n := 65535) (x := 65535) rfl) (q_rg_full _))
        refine q_E_F ?_
        exact q_E_x (q_iN_A hI)
    | false =>
      have g1105 := (q_rg_ltF1 (l2 := 3) (u := 2147483647) h1096 g1095 (q_rg_lit (n := 3) (x := 3) rfl))
      refine q_E_F ?_
      exact q_E_x hI
set_option maxHeartbeats 4000000 in
theorem dzj_N170_89_t_80  (s : q_S) (hI : q_iN s) (v1 : Int32) (v2 : Int32) (rv1 : q_rgz 0 2 v1) (rv2 : q_rgz 1 1 v2) : q_Ex (dz_N170_89_t_80 s v1 v2) (q_iN) := by
  unfold dz_N170_89_t_80
  cases h1131 : decide (v2 = 0) with
  | true =>
    exact (q_rg_no (q_rg_le (L := 1) (U := 0) ⟨rv2.1, (q_rg_eqT h1131 (q_rg_lit (n := 0) (x := 0) rfl)).2⟩ (by decide) (by decide)) (by decide)).elim
  | false =>
    refine q_E_F ?_
    exact q_E_x hI
set_option maxHeartbeats 4000000 in
theorem dzj_N170_89_t  (s : q_S) (hI : q_iN s) (a1 : Int32) (a3 : Int32) : q_Ex (dz_N170_89_t s a1 a3) (q_iN) := by
  unfold dz_N170_89_t
  cases h1132 : decide (a1 < 0) with
  | true =>
    have g1133 := (q_rg_ltT1 (l := -2147483648) (U := -1) h1132 (q_rg_full _) (q_rg_lit (n := 0) (x := 0) rfl) (by decide))
    refine q_E_T ?_
    exact q_E_x hI
  | false =>
    have g1134 := (q_rg_ltF1 (l2 := 0) (u := 2147483647) h1132 (q_rg_full _) (q_rg_lit (n := 0) (x := 0) rfl))
    refine q_E_F ?_
    cases h1135 : decide (a1 < 3) with
    | true =>
      have g1136 := (q_rg_ltT1 (l := 0) (U := 2) h1135 g1134 (q_rg_lit (n := 3) (x := 3) rfl) (by decide))
      refine q_E_T ?_
      cases h1137 : decide (a3 - a3 / 16 * 16 < (upd (s.1 28) (a1.toNatClampNeg) (((s.1 28) (a1.toNatClampNeg)) + 1)) (a1.toNatClampNeg)) with
      | true =>
        have g1138 := (q_rg_ltT1 (l := -2147483648) (U := 2147483646) h1137 (q_rg_full _) (q_rg_full _) (by decide))
        have g1139 := (q_rg_ltT2 (L := -2147483647) (u2 := 2147483647) h1137 (q_rg_full _) (q_rg_full _) (by decide))
        refine q_E_T ?_
        cases h1140 : decide ((s.1 27) (a1.toNatClampNeg) < 15) with
        | true =>
          have g1141 := (q_rg_ltT1 (l := -2147483648) (U := 14) h1140 (q_rg_full _) (q_rg_lit (n := 15) (x := 15) rfl) (by decide))
          refine q_E_T ?_
          exact q_E_x (q_iN_A (q_iN_A hI))
        | false =>
          have g1142 := (q_rg_ltF1 (l2 := 15) (u := 2147483647) h1140 (q_rg_full _) (q_rg_lit (n := 15) (x := 15) rfl))
          refine q_E_F ?_
          exact dzj_N170_89_t_80 (q_sA s 28 (upd (upd (s.1 28) (a1.toNatClampNeg) (((s.1 28) (a1.toNatClampNeg)) + 1)) (a1.toNatClampNeg) 0)) (q_iN_A hI) (a1) (1) (q_rg_le (L := 0) (U := 2) g1136 (by decide) (by decide)) (q_rg_le (L := 1) (U := 1) (q_rg_lit (n := 1) (x := 1) rfl) (by decide) (by decide))
      | false =>
        refine q_E_F ?_
        exact q_E_x (q_iN_A hI)
    | false =>
      have g1143 := (q_rg_ltF1 (l2 := 3) (u := 2147483647) h1135 g1134 (q_rg_lit (n := 3) (x := 3) rfl))
      refine q_E_F ?_
      exact q_E_x hI
set_option maxHeartbeats 4000000 in
theorem dzj_N170_89_f_80  (s : q_S) (hI : q_iN s) (v1 : Int32) (v2 : Int32) (rv1 : q_rgz 0 2 v1) (rv2 : q_rgz 0 0 v2) : q_Ex (dz_N170_89_f_80 s v1 v2) (q_iN) := by
  unfold dz_N170_89_f_80
  cases h1167 : decide (v2 = 0) with
  | true =>
    have g1168 := q_rg_eqT h1167 (q_rg_lit (n := 0) (x := 0) rfl)
    refine q_E_T ?_
    refine q_E_A (q_in_rg rv1 (by decide) (by decide)) ?_
    cases h1169 : decide (0 < (s.1 27) (v1.toNatClampNeg)) with
    | true =>
      have g1170 := (q_rg_ltT2 (L := 1) (u2 := 2147483647) h1169 (q_rg_lit (n := 0) (x := 0) rfl) (q_rg_full _) (by decide))
      refine q_E_T ?_
      exact q_E_x (q_iN_A hI)
    | false =>
      have g1171 := (q_rg_ltF2 (l2 := -2147483648) (u := 0) h1169 (q_rg_lit (n := 0) (x := 0) rfl) (q_rg_full _))
      refine q_E_F ?_
      exact q_E_x hI
  | false =>
    exact (q_rg_no (q_rg_neL (l := 0) (u := 0) (n := 0) (L := 1) h1167 rv2 rfl (by decide) (by decide)) (by decide)).elim
set_option maxHeartbeats 4000000 in
theorem dzj_N170_89_f  (s : q_S) (hI : q_iN s) (a1 : Int32) (a3 : Int32) : q_Ex (dz_N170_89_f s a1 a3) (q_iN) := by
  unfold dz_N170_89_f
  cases h1172 : decide (a1 < 0) with
  | true =>
    have g1173 := (q_rg_ltT1 (l := -2147483648) (U := -1) h1172 (q_rg_full _) (q_rg_lit (n := 0) (x := 0) rfl) (by decide))
    refine q_E_T ?_
    exact q_E_x hI
  | false =>
    have g1174 := (q_rg_ltF1 (l2 := 0) (u := 2147483647) h1172 (q_rg_full _) (q_rg_lit (n := 0) (x := 0) rfl))
    refine q_E_F ?_
    cases h1175 : decide (a1 < 3) with
    | true =>
      have g1176 := (q_rg_ltT1 (l := 0) (U := 2) h1175 g1174 (q_rg_lit (n := 3) (x := 3) rfl) (by decide))
      refine q_E_T ?_
      cases h1177 : decide (a3 / 16 < (upd (s.1 28) (a1.toNatClampNeg) (((s.1 28) (a1.toNatClampNeg)) + 1)) (a1.toNatClampNeg)) with
      | true =>
        have g1178 := (q_rg_ltT1 (l := -2147483648) (U := 2147483646) h1177 (q_rg_full _) (q_rg_full _) (by decide))
        have g1179 := (q_rg_ltT2 (L := -2147483647) (u2 := 2147483647) h1177 (q_rg_full _) (q_rg_full _) (by decide))
        refine q_E_T ?_
        exact dzj_N170_89_f_80 (q_sA s 28 (upd (upd (s.1 28) (a1.toNatClampNeg) (((s.1 28) (a1.toNatClampNeg)) + 1)) (a1.toNatClampNeg) 0)) (q_iN_A hI) (a1) (0) (q_rg_le (L := 0) (U := 2) g1176 (by decide) (by decide)) (q_rg_le (L := 0) (U := 0) (q_rg_lit (n := 0) (x := 0) rfl) (by decide) (by decide))
      | false =>
        refine q_E_F ?_
        exact q_E_x (q_iN_A hI)
    | false =>
      have g1180 := (q_rg_ltF1 (l2 := 3) (u := 2147483647) h1175 g1174 (q_rg_lit (n := 3) (x := 3) rfl))
      refine q_E_F ?_
      exact q_E_x hI
theorem dzj_N172  (s : q_S) (hI : q_iN s) (a0 : Int32) (a1 : Int32) (a2 : Int32) : (fun _ => True) (dz_N172 s a0 a1 a2) := trivial
set_option maxHeartbeats 4000000 in
theorem dzj_N171_89  (s : q_S) (hI : q_iN s) (a1 : Int32) (a2 : Int32) : q_Ex (dz_N171_89 s a1 a2) (fun _ => True) := by
  unfold dz_N171_89
  cases h1233 : decide (a1 < 0) with
  | true =>
    have g1234 := (q_rg_ltT1 (l := -2147483648) (U := -1) h1233 (q_rg_full _) (q_rg_lit (n := 0) (x := 0) rfl) (by decide))
    refine q_E_T ?_
    exact q_E_x trivial
  | false =>
    have g1235 := (q_rg_ltF1 (l2 := 0) (u := 2147483647) h1233 (q_rg_full _) (q_rg_lit (n := 0) (x := 0) rfl))
    refine q_E_F ?_
    cases h1236 : decide (a1 < 3) with
    | true =>
      have g1237 := (q_rg_ltT1 (l := 0) (U := 2) h1236 g1235 (q_rg_lit (n := 3) (x := 3) rfl) (by decide))
      refine q_E_T ?_
      have j1238 := dzj_N172 (s) hI ((a2 >>> ((1 &&& 31) : Int32)) &&& 3) ((s.1 26) (a1.toNatClampNeg)) ((s.1 29) (a1.toNatClampNeg))
      refine q_E_L ?_
      generalize dz_N172 s ((a2 >>> ((1 &&& 31) : Int32)) &&& 3) ((s.1 26) (a1.toNatClampNeg)) ((s.1 29) (a1.toNatClampNeg)) = r2 at j1238 ⊢
      cases h1239 : decide (a1 = 0) with
      | true =>
        have g1240 := q_rg_eqT h1239 (q_rg_lit (n := 0) (x := 0) rfl)
        refine q_E_T ?_
        cases h1241 : decide (a2 &&& 8 = 8) with
        | true =>
          have g1242 := q_rg_eqT h1241 (q_rg_lit (n := 8) (x := 8) rfl)
          refine q_E_T ?_
          cases h1243 : decide ((s.1 26) 2 < 32768) with
          | true =>
            have g1244 := (q_rg_ltT1 (l := -2147483648) (U := 32767) h1243 (q_rg_full _) (q_rg_lit (n := 32768) (x := 32768) rfl) (by decide))
            refine q_E_T ?_
            exact q_E_x trivial
          | false =>
            have g1245 := (q_rg_ltF1 (l2 := 32768) (u := 2147483647) h1243 (q_rg_full _) (q_rg_lit (n := 32768) (x := 32768) rfl))
            refine q_E_F ?_
            exact q_E_x trivial
        | false =>
          have g1246 := (q_rg_neU (l := 0) (u := 8) (n := 8) (U := 7) h1241 (q_rg_and a2 8 (U := 8) (by decide) rfl) rfl (by decide) (by decide))
          refine q_E_F ?_
          exact q_E_x trivial
      | false =>
        have g1247 := (q_rg_neL (l := 0) (u := 2) (n := 0) (L := 1) h1239 g1237 rfl (by decide) (by decide))
        refine q_E_F ?_
        cases h1248 : decide (a2 &&& 8 = 8) with
        | true =>
          have g1249 := q_rg_eqT h1248 (q_rg_lit (n := 8) (x := 8) rfl)
          refine q_E_T ?_
          refine q_E_A (q_in_rg (q_rg_sub (L := 0) (U := 1) g1247 (q_rg_lit (n := 1) (x := 1) rfl) (by decide) (by decide) (by decide) (by decide)) (by decide) (by decide)) ?_
          cases h1250 : decide ((s.1 26) ((a1 - 1).toNatClampNeg) < 32768) with
          | true =>
            have g1251 := (q_rg_ltT1 (l := -2147483648) (U := 32767) h1250 (q_rg_full _) (q_rg_lit (n := 32768) (x := 32768) rfl) (by decide))
            refine q_E_T ?_
            exact q_E_x trivial
          | false =>
            have g1252 := (q_rg_ltF1 (l2 := 32768) (u := 2147483647) h1250 (q_rg_full _) (q_rg_lit (n := 32768) (x := 32768) rfl))
            refine q_E_F ?_
            exact q_E_x trivial
        | false =>
          have g1253 := (q_rg_neU (l := 0) (u := 8) (n := 8) (U := 7) h1248 (q_rg_and a2 8 (U := 8) (by decide) rfl) rfl (by decide) (by decide))
          refine q_E_F ?_
          exact q_E_x trivial
    | false =>
      have g1254 := (q_rg_ltF1 (l2 := 3) (u := 2147483647) h1236 g1235 (q_rg_lit (n := 3) (x := 3) rfl))
      refine q_E_F ?_
      exact q_E_x trivial
set_option maxHeartbeats 4000000 in
theorem dzjb_N168_89_68_92  (k92 : q_S → Int32 → Int32 → Int32 → Option (q_S)) (M92 : Int) (tk92 : ∀ (s : q_S), q_iN s → ∀ (v2 : Int32) (v3 : Int32) (v4 : Int32), q_rgz 0 39 v2 → q_rgz 0 3 v4 → ((3 - v4.toInt).toNat : Int) ≤ M92 → q_Ex (k92 s v2 v3 v4) (q_iN)) (s : q_S) (hI : q_iN s) (v2 : Int32) (v3 : Int32) (v4 : Int32) (rv2 : q_rgz 0 39 v2) (rv4 : q_rgz 0 3 v4) (m92 : ((3 - v4.toInt).toNat : Int) ≤ M92 + 1) : q_Ex (cond (decide (v4 < 3)) (cond (q_in (((32 : Int32) + (4 * v4)) + 2) 48) ((dz_N171_89 s v4 ((s.1 4) ((((32 : Int32) + (4 * v4)) + 2).toNatClampNeg))).bind fun r4 => cond (q_in v4 3) (k92 s v2 (v3 + (r4 * ((s.1 27) (v4.toNatClampNeg)))) (v4 + 1)) none) none) (cond (q_in v2 40) (some (q_sA s 30 (upd (s.1 30) (v2.toNatClampNeg) (v3 / 15)))) none)) (q_iN) := by
  cases h1415 : decide (v4 < 3) with
  | true =>
    have g1416 := (q_rg_ltT1 (l := 0) (U := 2) h1415 rv4 (q_rg_lit (n := 3) (x := 3) rfl) (by decide))
    refine q_E_T ?_
    refine q_E_A (q_in_rg (q_rg_add (L := 34) (U := 42) (q_rg_add (L := 32) (U := 40) (q_rg_lit (n := 32) (x := 32) rfl) (q_rg_mul (L := 0) (U := 8) (q_rg_lit (n := 4) (x := 4) rfl) g1416 (by decide) (by decide) (by decide) (by decide) (by decide) (by decide)) (by decide) (by decide) (by decide) (by decide)) (q_rg_lit (n := 2) (x := 2) rfl) (by decide) (by decide) (by decide) (by decide)) (by decide) (by decide)) ?_
    obtain ⟨r4, e1418, j1417⟩ := dzj_N171_89 (s) hI (v4) ((s.1 4) ((((32 : Int32) + (4 * v4)) + 2).toNatClampNeg))
    rw [e1418]
    refine q_E_B ?_
    refine q_E_A (q_in_rg g1416 (by decide) (by decide)) ?_
    exact tk92 (s) hI (v2) (v3 + (r4 * ((s.1 27) (v4.toNatClampNeg)))) (v4 + 1) (q_rg_le (L := 0) (U := 39) rv2 (by decide) (by decide)) (q_rg_le (L := 0) (U := 3) (q_rg_add (L := 1) (U := 3) g1416 (q_rg_lit (n := 1) (x := 1) rfl) (by decide) (by decide) (by decide) (by decide)) (by decide) (by decide)) (q_meu g1416 m92 (by decide) (by decide))
  | false =>
    have g1419 := (q_rg_ltF1 (l2 := 3) (u := 3) h1415 rv4 (q_rg_lit (n := 3) (x := 3) rfl))
    refine q_E_F ?_
    refine q_E_A (q_in_rg rv2 (by decide) (by decide)) ?_
    exact q_E_x (q_iN_A hI)
theorem dzj_N168_89_68_92  : ∀ (m : Nat) (s : q_S) (hI : q_iN s) (v2 : Int32) (v3 : Int32) (v4 : Int32) (rv2 : q_rgz 0 39 v2) (rv4 : q_rgz 0 3 v4), ((3 - v4.toInt).toNat : Int) ≤ (m : Int) → q_Ex (dz_N168_89_68_92 (m + 1) s v2 v3 v4) (q_iN) := by
  intro m
  induction m with
  | zero => intro s hI v2 v3 v4 rv2 rv4 hm; rw [dzs_N168_89_68_92]; exact dzjb_N168_89_68_92 (dz_N168_89_68_92 0) (-1) (fun s hI v2 v3 v4 rv2 rv4 hm => absurd hm (by omega)) s hI v2 v3 v4 rv2 rv4 (by omega)
  | succ m ih => intro s hI v2 v3 v4 rv2 rv4 hm; rw [dzs_N168_89_68_92]; exact dzjb_N168_89_68_92 (dz_N168_89_68_92 (m + 1)) (m : Int) (fun s hI v2 v3 v4 rv2 rv4 hm => ih s hI v2 v3 v4 rv2 rv4 hm) s hI v2 v3 v4 rv2 rv4 (by omega)
set_option maxHeartbeats 4000000 in
theorem dzjb_N168_89_68_20  (k20 : q_S → Int32 → Int32 → Option (q_S)) (M20 : Int) (tk20 : ∀ (s : q_S), q_iN s → ∀ (v2 : Int32) (v3 : Int32), q_rgz 0 39 v2 → q_rgz 0 3 v3 → ((3 - v3.toInt).toNat : Int) ≤ M20 → q_Ex (k20 s v2 v3) (q_iN)) (s : q_S) (hI : q_iN s) (v2 : Int32) (v3 : Int32) (rv2 : q_rgz 0 39 v2) (rv3 : q_rgz 0 3 v3) (m20 : ((3 - v3.toInt).toNat : Int) ≤ M20 + 1) : q_Ex (cond (decide (v3 < 3)) (cond (q_in ((32 : Int32) + (4 * v3)) 48) (cond (q_in (((32 : Int32) + (4 * v3)) + 1) 48) ((dz_N169_89 s v3 (((s.1 4) (((32 : Int32) + (4 * v3)).toNatClampNeg)) + (256 * ((s.1 4) ((((32 : Int32) + (4 * v3)) + 1).toNatClampNeg))))).bind fun r1 => cond (q_in (((32 : Int32) + (4 * v3)) + 2) 48) (cond (decide (((r1.1 4) ((((32 : Int32) + (4 * v3)) + 2).toNatClampNeg)) &&& 1 = 1)) (cond (q_in (((32 : Int32) + (4 * v3)) + 3) 48) ((dz_N170_89_t r1 v3 ((r1.1 4) ((((32 : Int32) + (4 * v3)) + 3).toNatClampNeg))).bind fun r2 => k20 r2 v2 (v3 + 1)) none) (cond (q_in (((32 : Int32) + (4 * v3)) + 3) 48) ((dz_N170_89_f r1 v3 ((r1.1 4) ((((32 : Int32) + (4 * v3)) + 3).toNatClampNeg))).bind fun r3 => k20 r3 v2 (v3 + 1)) none)) none) none) none) (dz_N168_89_68_92 5000 s v2 0 0)) (q_iN) := by
  cases h1420 : decide (v3 < 3) with
  | true =>
    have g1421 := (q_rg_ltT1 (l := 0) (U := 2) h1420 rv3 (q_rg_lit (n := 3) (x := 3) rfl) (by decide))
    refine q_E_T ?_
    refine q_E_A (q_in_rg (q_rg_add (L := 32) (U := 40) (q_rg_lit (n := 32) (x := 32) rfl) (q_rg_mul (L := 0) (U := 8) (q_rg_lit (n := 4) (x := 4) rfl) g1421 (by decide) (by decide) (by decide) (by decide) (by decide) (by decide)) (by decide) (by decide) (by decide) (by decide)) (by decide) (by decide)) ?_
    refine q_E_A (q_in_rg (q_rg_add (L := 33) (U := 41) (q_rg_add (L := 32) (U := 40) (q_rg_lit (n := 32) (x := 32) rfl) (q_rg_mul (L := 0) (U := 8) (q_rg_lit (n := 4) (x := 4) rfl) g1421 (by decide) (by decide) (by decide) (by decide) (by decide) (by decide)) (by decide) (by decide) (by decide) (by decide)) (q_rg_lit (n := 1) (x := 1) rfl) (by decide) (by decide) (by decide) (by decide)) (by decide) (by decide)) ?_
    obtain ⟨r1, e1423, j1422⟩ := dzj_N169_89 (s) hI (v3) (((s.1 4) (((32 : Int32) + (4 * v3)).toNatClampNeg)) + (256 * ((s.1 4) ((((32 : Int32) + (4 * v3)) + 1).toNatClampNeg))))
    rw [e1423]
    refine q_E_B ?_
    refine q_E_A (q_in_rg (q_rg_add (L := 34) (U := 42) (q_rg_add (L := 32) (U := 40) (q_rg_lit (n := 32) (x := 32) rfl) (q_rg_mul (L := 0) (U := 8) (q_rg_lit (n := 4) (x := 4) rfl) g1421 (by decide) (by decide) (by decide) (by decide) (by decide) (by decide)) (by decide) (by decide) (by decide) (by decide)) (q_rg_lit (n := 2) (x := 2) rfl) (by decide) (by decide) (by decide) (by decide)) (by decide) (by decide)) ?_
    cases h1424 : decide (((r1.1 4) ((((32 : Int32) + (4 * v3)) + 2).toNatClampNeg)) &&& 1 = 1) with
    | true =>
      have g1425 := q_rg_eqT h1424 (q_rg_lit (n := 1) (x := 1) rfl)
      refine q_E_T ?_
      refine q_E_A (q_in_rg (q_rg_add (L := 35) (U := 43) (q_rg_add (L := 32) (U := 40) (q_rg_lit (n := 32) (x := 32) rfl) (q_rg_mul (L := 0) (U := 8) (q_rg_lit (n := 4) (x := 4) rfl) g1421 (by decide) (by decide) (by decide) (by decide) (by decide) (by decide)) (by decide) (by decide) (by decide) (by decide)) (q_rg_lit (n := 3) (x := 3) rfl) (by decide) (by decide) (by decide) (by decide)) (by decide) (by decide)) ?_
      obtain ⟨r2, e1427, j1426⟩ := dzj_N170_89_t (r1) j1422 (v3) ((r1.1 4) ((((32 : Int32) + (4 * v3)) + 3).toNatClampNeg))
      rw [e1427]
      refine q_E_B ?_
      exact tk20 (r2) j1426 (v2) (v3 + 1) (q_rg_le (L := 0) (U := 39) rv2 (by decide) (by decide)) (q_rg_le (L := 0) (U := 3) (q_rg_add (L := 1) (U := 3) g1421 (q_rg_lit (n := 1) (x := 1) rfl) (by decide) (by decide) (by decide) (by decide)) (by decide) (by decide)) (q_meu g1421 m20 (by decide) (by decide))
    | false =>
      have g1428 := (q_rg_neU (l := 0) (u := 1) (n := 1) (U := 0) h1424 (q_rg_and ((r1.1 4) ((((32 : Int32) + (4 * v3)) + 2).toNatClampNeg)) 1 (U := 1) (by decide) rfl) rfl (by decide) (by decide))
      refine q_E_F ?_
      refine q_E_A (q_in_rg (q_rg_add (L := 35) (U := 43) (q_rg_add (L := 32) (U := 40) (q_rg_lit (n := 32) (x := 32) rfl) (q_rg_mul (L := 0) (U := 8) (q_rg_lit (n := 4) (x := 4) rfl) g1421 (by decide) (by decide) (by decide) (by decide) (by decide) (by decide)) (by decide) (by decide) (by decide) (by decide)) (q_rg_lit (n := 3) (x := 3) rfl) (by decide) (by decide) (by decide) (by decide)) (by decide) (by decide)) ?_
      obtain ⟨r3, e1430, j1429⟩ := dzj_N170_89_f (r1) j1422 (v3) ((r1.1 4) ((((32 : Int32) + (4 * v3)) + 3).toNatClampNeg))
      rw [e1430]
      refine q_E_B ?_
      exact tk20 (r3) j1429 (v2) (v3 + 1) (q_rg_le (L := 0) (U := 39) rv2 (by decide) (by decide)) (q_rg_le (L := 0) (U := 3) (q_rg_add (L := 1) (U := 3) g1421 (q_rg_lit (n := 1) (x := 1) rfl) (by decide) (by decide) (by decide) (by decide)) (by decide) (by decide)) (q_meu g1421 m20 (by decide) (by decide))
  | false =>
    have g1431 := (q_rg_ltF1 (l2 := 3) (u := 3) h1420 rv3 (q_rg_lit (n := 3) (x := 3) rfl))
    refine q_E_F ?_
    exact dzj_N168_89_68_92 4999 (s) hI (v2) (0) (0) (q_rg_le (L := 0) (U := 39) rv2 (by decide) (by decide)) (q_rg_le (L := 0) (U := 3) (q_rg_lit (n := 0) (x := 0) rfl) (by decide) (by decide)) (q_meu0 (q_rg_lit (n := 0) (x := 0) rfl) (by decide) (by decide))
theorem dzj_N168_89_68_20  : ∀ (m : Nat) (s : q_S) (hI : q_iN s) (v2 : Int32) (v3 : Int32) (rv2 : q_rgz 0 39 v2) (rv3 : q_rgz 0 3 v3), ((3 - v3.toInt).toNat : Int) ≤ (m : Int) → q_Ex (dz_N168_89_68_20 (m + 1) s v2 v3) (q_iN) := by
  intro m
  induction m with
  | zero => intro s hI v2 v3 rv2 rv3 hm; rw [dzs_N168_89_68_20]; exact dzjb_N168_89_68_20 (dz_N168_89_68_20 0) (-1) (fun s hI v2 v3 rv2 rv3 hm => absurd hm (by omega)) s hI v2 v3 rv2 rv3 (by omega)
  | succ m ih => intro s hI v2 v3 rv2 rv3 hm; rw [dzs_N168_89_68_20]; exact dzjb_N168_89_68_20 (dz_N168_89_68_20 (m + 1)) (m : Int) (fun s hI v2 v3 rv2 rv3 hm => ih s hI v2 v3 rv2 rv3 hm) s hI v2 v3 rv2 rv3 (by omega)
set_option maxHeartbeats 4000000 in
theorem dzj_N168_89_68  (s : q_S) (hI : q_iN s) (a2 : Int32) : q_Ex (dz_N168_89_68 s a2) (q_iN) := by
  unfold dz_N168_89_68
  cases h1432 : decide (a2 < 0) with
  | true =>
    have g1433 := (q_rg_ltT1 (l := -2147483648) (U := -1) h1432 (q_rg_full _) (q_rg_lit (n := 0) (x := 0) rfl) (by decide))
    refine q_E_T ?_
    exact q_E_x hI
  | false =>
    have g1434 := (q_rg_ltF1 (l2 := 0) (u := 2147483647) h1432 (q_rg_full _) (q_rg_lit (n := 0) (x := 0) rfl))
    refine q_E_F ?_
    cases h1435 : decide (a2 < 40) with
    | true =>
      have g1436 := (q_rg_ltT1 (l := 0) (U := 39) h1435 g1434 (q_rg_lit (n := 40) (x := 40) rfl) (by decide))
      refine q_E_T ?_
      exact dzj_N168_89_68_20 4999 (s) hI (a2) (0) (q_rg_le (L := 0) (U := 39) g1436 (by decide) (by decide)) (q_rg_le (L := 0) (U := 3) (q_rg_lit (n := 0) (x := 0) rfl) (by decide) (by decide)) (q_meu0 (q_rg_lit (n := 0) (x := 0) rfl) (by decide) (by decide))
    | false =>
      have g1437 := (q_rg_ltF1 (l2 := 40) (u := 2147483647) h1435 g1434 (q_rg_lit (n := 40) (x := 40) rfl))
      refine q_E_F ?_
      exact q_E_x hI
set_option maxHeartbeats 4000000 in
theorem dzj_N83_64  (s : q_S) (hI : q_iN s) : q_Ex (dz_N83_64 s) (fun (x : q_S × Bool) => q_iN x.1) := by
  unfold dz_N83_64
  have j1464 := dzj_N101_65 (s) hI
  refine q_E_L ?_
  generalize dz_N101_65 s = r3 at j1464 ⊢
  obtain ⟨r4, e1466, j1465⟩ := dzj_N102_65 (r3) j1464
  rw [e1466]
  refine q_E_B ?_
  cases h1467 : r4 with
  | true =>
    refine q_E_T ?_
    obtain ⟨r5, e1469, j1468⟩ := dzj_N103_65_95 (r3) j1464
    rw [e1469]
    refine q_E_B ?_
    obtain ⟨r6, e1471, j1470⟩ := dzj_N104_65 (r5) j1468
    rw [e1471]
    refine q_E_B ?_
    have j1472 := dzj_N106_65 (r6) j1470
    refine q_E_L ?_
    generalize dz_N106_65 r6 = r7 at j1472 ⊢
    have j1473 := dzj_N87_65 (r7) j1472
    refine q_E_L ?_
    generalize dz_N87_65 r7 = r8 at j1473 ⊢
    cases h1474 : decide (r8 = 23) with
    | true =>
      have g1475 := q_rg_eqT h1474 (q_rg_lit (n := 23) (x := 23) rfl)
      refine q_E_T ?_
      have j1476 := dzj_N86_65 (r7) j1472
      refine q_E_L ?_
      generalize dz_N86_65 r7 = r9 at j1476 ⊢
      obtain ⟨r10, e1478, j1477⟩ := dzj_N168_89_68 (r7) j1472 (r9 / 24)
      rw [e1478]
      refine q_E_B ?_
      exact q_E_x j1477
    | false =>
      refine q_E_F ?_
      exact q_E_x j1472
  | false =>
    refine q_E_F ?_
    obtain ⟨r11, e1480, j1479⟩ := dzj_N103_65_95 (r3) j1464
    rw [e1480]
    refine q_E_B ?_
    obtain ⟨r12, e1482, j1481⟩ := dzj_N104_65 (r11) j1479
    rw [e1482]
    refine q_E_B ?_
    have j1483 := dzj_N106_65 (r12) j1481
    refine q_E_L ?_
    generalize dz_N106_65 r12 = r13 at j1483 ⊢
    have j1484 := dzj_N87_65 (r13) j1483
    refine q_E_L ?_
    generalize dz_N87_65 r13 = r14 at j1484 ⊢
    cases h1485 : decide (r14 = 23) with
    | true =>
      have g1486 := q_rg_eqT h1485 (q_rg_lit (n := 23) (x := 23) rfl)
      refine q_E_T ?_
      have j1487 := dzj_N86_65 (r13) j1483
      refine q_E_L ?_
      generalize dz_N86_65 r13 = r15 at j1487 ⊢
      obtain ⟨r16, e1489, j1488⟩ := dzj_N168_89_68 (r13) j1483 (r15 / 24)
      rw [e1489]
      refine q_E_B ?_
      exact q_E_x j1488
    | false =>
      refine q_E_F ?_
      exact q_E_x j1483
set_option maxHeartbeats 4000000 in
theorem dzj_N110_78_66  (s : q_S) (hI : q_iN s) : (q_iN) (dz_N110_78_66 s) := by
  refine q_S_of (P := (q_iN)) ?_
  unfold dz_N110_78_66
  exact q_E_x (q_iN_A (q_iN_A hI))
set_option maxHeartbeats 4000000 in
theorem dzj_N127_77_66  (s : q_S) (hI : q_iN s) : (q_iN) (dz_N127_77_66 s) := by
  refine q_S_of (P := (q_iN)) ?_
  unfold dz_N127_77_66
  have j1491 := dzj_N110_78_66 (s) hI
  refine q_S_L ?_
  generalize dz_N110_78_66 s = r1 at j1491 ⊢
  exact q_E_x (q_iN_I (i := 13) (m := 3) (q_iN_I (i := 13) (m := 2) j1491 (by decide)) (by decide))
set_option maxHeartbeats 4000000 in
theorem dzj_N110_83_66  (s : q_S) (hI : q_iN s) : (q_iN) (dz_N110_83_66 s) := by
  refine q_S_of (P := (q_iN)) ?_
  unfold dz_N110_83_66
  exact q_E_x (q_iN_A (q_iN_A hI))
set_option maxHeartbeats 4000000 in
theorem dzj_N127_82_66  (s : q_S) (hI : q_iN s) : (q_iN) (dz_N127_82_66 s) := by
  refine q_S_of (P := (q_iN)) ?_
  unfold dz_N127_82_66
  have j1493 := dzj_N110_83_66 (s) hI
  refine q_S_L ?_
  generalize dz_N110_83_66 s = r1 at j1493 ⊢
  exact q_E_x (q_iN_I (i := 18) (m := 3) (q_iN_I (i := 18) (m := 2) j1493 (by decide)) (by decide))
set_option maxHeartbeats 4000000 in
theorem dzj_N107_65  (s : q_S) (hI : q_iN s) : (q_iN) (dz_N107_65 s) := by
  refine q_S_of (P := (q_iN)) ?_
  unfold dz_N107_65
  cases h1500 : decide (lg_cmp (((s.2.2 1 8) + 1) - ((s.2.2 1 8) + 1) / 960 * 960) 0 = 0) with
  | true =>
    have g1501 := q_rg_eqT h1500 (q_rg_lit (n := 0) (x := 0) rfl)
    refine q_S_T ?_
    cases h1502 : decide (lg_cmp ((((s.2.2 1 8) + 1) / 960) - (((s.2.2 1 8) + 1) / 960) / 2 * 2) 0 = 0) with
    | true =>
      have g1503 := q_rg_eqT h1502 (q_rg_lit (n := 0) (x := 0) rfl)
      refine q_S_T ?_
      have j1504 := dzj_N127_77_66 (q_sJ s 1 8 ((s.2.2 1 8) + 1)) (q_iN_J hI)
      refine q_S_L ?_
      generalize dz_N127_77_66 (q_sJ s 1 8 ((s.2.2 1 8) + 1)) = r1 at j1504 ⊢
      exact q_E_x j1504
    | false =>
      refine q_S_F ?_
      have j1505 := dzj_N127_82_66 (q_sJ s 1 8 ((s.2.2 1 8) + 1)) (q_iN_J hI)
      refine q_S_L ?_
      generalize dz_N127_82_66 (q_sJ s 1 8 ((s.2.2 1 8) + 1)) = r2 at j1505 ⊢
      exact q_E_x j1505
  | false =>
    refine q_S_F ?_
    exact q_E_x (q_iN_J hI)
theorem dzj_N187  (s : q_S) (hI : q_iN s) (a0 : Int32) : (fun _ => True) (dz_N187 s a0) := trivial
theorem dzj_N140_87  (s : q_S) (hI : q_iN s) (a1 : Int32) : (fun _ => True) (dz_N140_87 s a1) := trivial
theorem dzj_N161_87  (s : q_S) (hI : q_iN s) (a1 : Int32) : (fun _ => True) (dz_N161_87 s a1) := trivial
theorem dzj_N193  (s : q_S) (hI : q_iN s) (a0 : Int32) (a1 : Int32) : (fun _ => True) (dz_N193 s a0 a1) := trivial
theorem dzj_N139_87  (s : q_S) (hI : q_iN s) (a1 : Int32) : (fun _ => True) (dz_N139_87 s a1) := trivial
theorem dzj_N138_87  (s : q_S) (hI : q_iN s) (a1 : Int32) (a2 : Int32) : (fun _ => True) (dz_N138_87 s a1 a2) := trivial
theorem dzj_N192  (s : q_S) (hI : q_iN s) (a0 : Int32) : (fun _ => True) (dz_N192 s a0) := trivial
theorem dzj_N191  (s : q_S) (hI : q_iN s) (a0 : Int32) : (fun _ => True) (dz_N191 s a0) := trivial
theorem dzj_N189  (s : q_S) (hI : q_iN s) (a0 : Int32) : (fun _ => True) (dz_N189 s a0) := trivial
set_option maxHeartbeats 4000000 in
theorem dzj_N145_87_65  (s : q_S) (hI : q_iN s) (a2 : Int32) : q_Ex (dz_N145_87_65 s a2) (fun _ => True) := by
  unfold dz_N145_87_65
  have j1689 := dzj_N140_87 (s) hI (1)
  refine q_E_L ?_
  generalize dz_N140_87 s 1 = r3 at j1689 ⊢
  obtain ⟨r4, e1691, j1690⟩ := dzj_N90_65 (s) hI (r3)
  rw [e1691]
  refine q_E_B ?_
  cases h1692 : decide (a2 = 1) with
  | true =>
    have g1693 := q_rg_eqT h1692 (q_rg_lit (n := 1) (x := 1) rfl)
    refine q_E_T ?_
    exact q_E_x trivial
  | false =>
    refine q_E_F ?_
    cases h1694 : decide (a2 = 2) with
    | true =>
      have g1695 := q_rg_eqT h1694 (q_rg_lit (n := 2) (x := 2) rfl)
      refine q_E_T ?_
      exact q_E_x trivial
    | false =>
      refine q_E_F ?_
      cases h1696 : decide (a2 < 6) with
      | true =>
        have g1697 := (q_rg_ltT1 (l := -2147483648) (U := 5) h1696 (q_rg_full _) (q_rg_lit (n := 6) (x := 6) rfl) (by decide))
        refine q_E_T ?_
        have j1698 := dzj_N140_87 (s) hI (2)
        refine q_E_L ?_
        generalize dz_N140_87 s 2 = r5 at j1698 ⊢
        obtain ⟨r6, e1700, j1699⟩ := dzj_N90_65 (s) hI (r5)
        rw [e1700]
        refine q_E_B ?_
        exact q_E_x trivial
      | false =>
        have g1701 := (q_rg_ltF1 (l2 := 6) (u := 2147483647) h1696 (q_rg_full _) (q_rg_lit (n := 6) (x := 6) rfl))
        refine q_E_F ?_
        cases h1702 : decide (a2 = 7) with
        | true =>
          have g1703 := q_rg_eqT h1702 (q_rg_lit (n := 7) (x := 7) rfl)
          refine q_E_T ?_
          obtain ⟨r7, e1705, j1704⟩ := dzj_N90_65 (s) hI ((r4 + (s.2.1 23 1)) &&& 255)
          rw [e1705]
          refine q_E_B ?_
          obtain ⟨r8, e1707, j1706⟩ := dzj_N90_65 (s) hI ((((r4 + (s.2.1 23 1)) &&& 255) + 1) &&& 255)
          rw [e1707]
          refine q_E_B ?_
          exact q_E_x trivial
        | false =>
          refine q_E_F ?_
          obtain ⟨r9, e1709, j1708⟩ := dzj_N90_65 (s) hI (r4)
          rw [e1709]
          refine q_E_B ?_
          obtain ⟨r10, e1711, j1710⟩ := dzj_N90_65 (s) hI ((r4 + 1) &&& 255)
          rw [e1711]
          refine q_E_B ?_
          exact q_E_x trivial
theorem dzj_N143_87  (s : q_S) (hI : q_iN s) (a1 : Int32) : (fun _ => True) (dz_N143_87 s a1) := trivial
theorem dzj_N188  (s : q_S) (hI : q_iN s) (a0 : Int32) : (fun _ => True) (dz_N188 s a0) := trivial
set_option maxHeartbeats 4000000 in
theorem dzj_N137_87_65_127  (s : q_S) (hI : q_iN s) (v3 : Int32) (v4 : Int32) (v5 : Int32) (rv3 : q_rgz 0 2147483647 v3) (rv4 : q_rgz 1 7 v4) (rv5 : q_rgz 0 1 v5) : q_Ex (dz_N137_87_65_127 s v3 v4 v5) (fun _ => True) := by
  unfold dz_N137_87_65_127
  have j1847 := dzj_N191 (s) hI (v4)
  refine q_E_L ?_
  generalize dz_N191 s v4 = r9 at j1847 ⊢
  cases h1848 : decide (v5 = 0) with
  | true =>
    have g1849 := q_rg_eqT h1848 (q_rg_lit (n := 0) (x := 0) rfl)
    refine q_E_T ?_
    have j1850 := dzj_N189 (s) hI (v3)
    refine q_E_L ?_
    generalize dz_N189 s v3 = r10 at j1850 ⊢
    cases h1851 : r10 with
    | true =>
      refine q_E_T ?_
      exact q_E_x trivial
    | false =>
      refine q_E_F ?_
      exact q_E_x trivial
  | false =>
    have g1852 := (q_rg_neL (l := 0) (u := 1) (n := 0) (L := 1) h1848 rv5 rfl (by decide) (by decide))
    refine q_E_F ?_
    have j1853 := dzj_N189 (s) hI (v3)
    refine q_E_L ?_
    generalize dz_N189 s v3 = r11 at j1853 ⊢
    cases h1854 : r11 with
    | true =>
      refine q_E_T ?_
      exact q_E_x trivial
    | false =>
      refine q_E_F ?_
      exact q_E_x trivial
set_option maxHeartbeats 4000000 in
theorem dzj_N137_87_65_120  (s : q_S) (hI : q_iN s) (v3 : Int32) (v4 : Int32) (rv3 : q_rgz 0 2147483647 v3) (rv4 : q_rgz 4 6 v4) : q_Ex (dz_N137_87_65_120 s v3 v4) (fun _ => True) := by
  unfold dz_N137_87_65_120
  exact dzj_N137_87_65_127 (s) hI (v3) (v4) (1) (q_rg_le (L := 0) (U := 2147483647) rv3 (by decide) (by decide)) (q_rg_le (L := 1) (U := 7) rv4 (by decide) (by decide)) (q_rg_le (L := 0) (U := 1) (q_rg_lit (n := 1) (x := 1) rfl) (by decide) (by decide))
set_option maxHeartbeats 4000000 in
theorem dzj_N137_87_65  (s : q_S) (hI : q_iN s) : q_Ex (dz_N137_87_65 s) (fun _ => True) := by
  unfold dz_N137_87_65
  obtain ⟨r2, e1856, j1855⟩ := dzj_N90_65 (s) hI (s.2.1 23 4)
  rw [e1856]
  refine q_E_B ?_
  have j1857 := dzj_N186 (s) hI (r2)
  refine q_E_L ?_
  generalize dz_N186 s r2 = r3 at j1857 ⊢
  have j1858 := dzj_N187 (s) hI (r2)
  refine q_E_L ?_
  generalize dz_N187 s r2 = r4 at j1858 ⊢
  cases h1859 : r4 with
  | true =>
    refine q_E_T ?_
    have j1860 := dzj_N140_87 (s) hI (1)
    refine q_E_L ?_
    generalize dz_N140_87 s 1 = r5 at j1860 ⊢
    obtain ⟨r6, e1862, j1861⟩ := dzj_N90_65 (s) hI (r5)
    rw [e1862]
    refine q_E_B ?_
    have j1863 := dzj_N138_87 (s) hI (r2) (r6)
    refine q_E_L ?_
    generalize dz_N138_87 s r2 r6 = r7 at j1863 ⊢
    exact q_E_x trivial
  | false =>
    refine q_E_F ?_
    cases h1864 : decide (r3 < 0) with
    | true =>
      have g1865 := (q_rg_ltT1 (l := -2147483648) (U := -1) h1864 (q_rg_full _) (q_rg_lit (n := 0) (x := 0) rfl) (by decide))
      refine q_E_T ?_
      have j1866 := dzj_N192 (s) hI (r2)
      refine q_E_L ?_
      generalize dz_N192 s r2 = r8 at j1866 ⊢
      exact q_E_x trivial
    | false =>
      have g1867 := (q_rg_ltF1 (l2 := 0) (u := 2147483647) h1864 (q_rg_full _) (q_rg_lit (n := 0) (x := 0) rfl))
      refine q_E_F ?_
      cases h1868 : decide (r2 &&& 7 = 0) with
      | true =>
        have g1869 := q_rg_eqT h1868 (q_rg_lit (n := 0) (x := 0) rfl)
        refine q_E_T ?_
        exact q_E_x trivial
      | false =>
        have g1870 := (q_rg_neL (l := 0) (u := 7) (n := 0) (L := 1) h1868 (q_rg_and r2 7 (U := 7) (by decide) rfl) rfl (by decide) (by decide))
        refine q_E_F ?_
        cases h1871 : decide (r2 &&& 7 < 4) with
        | true =>
          have g1872 := (q_rg_ltT1 (l := 1) (U := 3) h1871 g1870 (q_rg_lit (n := 4) (x := 4) rfl) (by decide))
          refine q_E_T ?_
          exact dzj_N137_87_65_127 (s) hI (r3) (r2 &&& 7) (0) (q_rg_le (L := 0) (U := 2147483647) g1867 (by decide) (by decide)) (q_rg_le (L := 1) (U := 7) g1872 (by decide) (by decide)) (q_rg_le (L := 0) (U := 1) (q_rg_lit (n := 0) (x := 0) rfl) (by decide) (by decide))
        | false =>
          have g1873 := (q_rg_ltF1 (l2 := 4) (u := 7) h1871 g1870 (q_rg_lit (n := 4) (x := 4) rfl))
          refine q_E_F ?_
          cases h1874 : decide (6 < r2 &&& 7) with
          | true =>
            have g1875 := (q_rg_ltT2 (L := 7) (u2 := 7) h1874 (q_rg_lit (n := 6) (x := 6) rfl) g1873 (by decide))
            refine q_E_T ?_
            exact dzj_N137_87_65_127 (s) hI (r3) (r2 &&& 7) (0) (q_rg_le (L := 0) (U := 2147483647) g1867 (by decide) (by decide)) (q_rg_le (L := 1) (U := 7) g1875 (by decide) (by decide)) (q_rg_le (L := 0) (U := 1) (q_rg_lit (n := 0) (x := 0) rfl) (by decide) (by decide))
          | false =>
            have g1876 := (q_rg_ltF2 (l2 := 4) (u := 6) h1874 (q_rg_lit (n := 6) (x := 6) rfl) g1873)
            refine q_E_F ?_
            obtain ⟨r12, e1878, j1877⟩ := dzj_N145_87_65 (s) hI (r2 &&& 7)
            rw [e1878]
            refine q_E_B ?_
            have j1879 := dzj_N143_87 (s) hI (r2 &&& 7)
            refine q_E_L ?_
            generalize dz_N143_87 s (r2 &&& 7) = r13 at j1879 ⊢
            have j1880 := dzj_N188 (s) hI (r3)
            refine q_E_L ?_
            generalize dz_N188 s r3 = r14 at j1880 ⊢
            cases h1881 : r14 with
            | true =>
              refine q_E_T ?_
              exact dzj_N137_87_65_120 (s) hI (r3) (r2 &&& 7) (q_rg_le (L := 0) (U := 2147483647) g1867 (by decide) (by decide)) (q_rg_le (L := 4) (U := 6) g1876 (by decide) (by decide))
            | false =>
              refine q_E_F ?_
              cases h1882 : decide (((r12 + r13) &&& 4095) / 256 = r12 / 256) with
              | true =>
                refine q_E_T ?_
                exact dzj_N137_87_65_127 (s) hI (r3) (r2 &&& 7) (0) (q_rg_le (L := 0) (U := 2147483647) g1867 (by decide) (by decide)) (q_rg_le (L := 1) (U := 7) g1876 (by decide) (by decide)) (q_rg_le (L := 0) (U := 1) (q_rg_lit (n := 0) (x := 0) rfl) (by decide) (by decide))
              | false =>
                refine q_E_F ?_
                exact dzj_N137_87_65_120 (s) hI (r3) (r2 &&& 7) (q_rg_le (L := 0) (U := 2147483647) g1867 (by decide) (by decide)) (q_rg_le (L := 4) (U := 6) g1876 (by decide) (by decide))
set_option maxHeartbeats 4000000 in
theorem dzj_N136_87_65  (s : q_S) (hI : q_iN s) : q_Ex (dz_N136_87_65 s) (q_iN) := by
  unfold dz_N136_87_65
  cases h1904 : decide (((s.1 4) 10) &&& ((s.1 4) 11) = 0) with
  | true =>
    have g1905 := q_rg_eqT h1904 (q_rg_lit (n := 0) (x := 0) rfl)
    refine q_E_T ?_
    cases h1906 : decide (s.2.1 23 7 = 0) with
    | true =>
      have g1907 := q_rg_eqT h1906 (q_rg_lit (n := 0) (x := 0) rfl)
      refine q_E_T ?_
      cases h1908 : decide (s.2.1 23 6 = 0) with
      | true =>
        have g1909 := q_rg_eqT h1908 (q_rg_lit (n := 0) (x := 0) rfl)
        refine q_E_T ?_
        obtain ⟨r2, e1911, j1910⟩ := dzj_N137_87_65 (q_sI s 23 8 0) (q_iN_I (i := 23) (m := 8) hI (by decide))
        rw [e1911]
        refine q_E_B ?_
        exact q_E_x (q_iN_I (i := 23) (m := 9) (q_iN_I (i := 23) (m := 8) hI (by decide)) (by decide))
      | false =>
        have g1912 := (q_rg_neL (l := 0) (u := 1) (n := 0) (L := 1) h1908 (q_iN6 hI) rfl (by decide) (by decide))
        refine q_E_F ?_
        exact q_E_x (q_iN_I (i := 23) (m := 9) (q_iN_I (i := 23) (m := 8) (q_iN_F6 hI (q_rg_le (q_rg_lit (n := 0) (x := 0) rfl) (by decide) (by decide))) (by decide)) (by decide))
    | false =>
      have g1913 := (q_rg_neL (l := 0) (u := 1) (n := 0) (L := 1) h1906 (q_iN7 hI) rfl (by decide) (by decide))
      refine q_E_F ?_
      exact q_E_x hI
  | false =>
    refine q_E_F ?_
    cases h1914 : decide (s.2.1 23 7 = 0) with
    | true =>
      have g1915 := q_rg_eqT h1914 (q_rg_lit (n := 0) (x := 0) rfl)
      refine q_E_T ?_
      cases h1916 : decide (s.2.1 23 6 = 0) with
      | true =>
        have g1917 := q_rg_eqT h1916 (q_rg_lit (n := 0) (x := 0) rfl)
        refine q_E_T ?_
        cases h1918 : decide ((s.2.1 23 5) &&& 4 = 0) with
        | true =>
          have g1919 := q_rg_eqT h1918 (q_rg_lit (n := 0) (x := 0) rfl)
          refine q_E_T ?_
          exact q_E_x (q_iN_I (i := 23) (m := 9) (q_iN_I (i := 23) (m := 8) hI (by decide)) (by decide))
        | false =>
          have g1920 := (q_rg_neL (l := 0) (u := 4) (n := 0) (L := 1) h1918 (q_rg_and (s.2.1 23 5) 4 (U := 4) (by decide) rfl) rfl (by decide) (by decide))
          refine q_E_F ?_
          obtain ⟨r3, e1922, j1921⟩ := dzj_N137_87_65 (q_sI s 23 8 0) (q_iN_I (i := 23) (m := 8) hI (by decide))
          rw [e1922]
          refine q_E_B ?_
          exact q_E_x (q_iN_I (i := 23) (m := 9) (q_iN_I (i := 23) (m := 8) hI (by decide)) (by decide))
      | false =>
        have g1923 := (q_rg_neL (l := 0) (u := 1) (n := 0) (L := 1) h1916 (q_iN6 hI) rfl (by decide) (by decide))
        refine q_E_F ?_
        exact q_E_x (q_iN_I (i := 23) (m := 9) (q_iN_I (i := 23) (m := 8) (q_iN_F6 hI (q_rg_le (q_rg_lit (n := 0) (x := 0) rfl) (by decide) (by decide))) (by decide)) (by decide))
    | false =>
      have g1924 := (q_rg_neL (l := 0) (u := 1) (n := 0) (L := 1) h1914 (q_iN7 hI) rfl (by decide) (by decide))
      refine q_E_F ?_
      exact q_E_x hI
set_option maxHeartbeats 4000000 in
theorem dzj_N141_87  (s : q_S) (hI : q_iN s) : (fun (x : q_S × Bool) => q_iN x.1) (dz_N141_87 s) := by
  refine q_S_of (P := (fun (x : q_S × Bool) => q_iN x.1)) ?_
  unfold dz_N141_87
  cases h1929 : decide (s.2.1 23 9 = 0) with
  | true =>
    have g1930 := q_rg_eqT h1929 (q_rg_lit (n := 0) (x := 0) rfl)
    refine q_S_T ?_
    exact q_E_x hI
  | false =>
    refine q_S_F ?_
    cases h1931 : decide ((s.2.1 23 9) - 1 = 0) with
    | true =>
      have g1932 := q_rg_eqT h1931 (q_rg_lit (n := 0) (x := 0) rfl)
      refine q_S_T ?_
      exact q_E_x (q_iN_I (i := 23) (m := 9) hI (by decide))
    | false =>
      refine q_S_F ?_
      exact q_E_x (q_iN_I (i := 23) (m := 9) hI (by decide))
set_option maxHeartbeats 4000000 in
theorem dzj_N146_87_65  (s : q_S) (hI : q_iN s) (a2 : Int32) : q_Ex (dz_N146_87_65 s a2) (q_iN) := by
  unfold dz_N146_87_65
  obtain ⟨r2, e1936, j1935⟩ := dzj_N94_65 (s) hI ((256 : Int32) + (s.2.1 23 3)) (a2)
  rw [e1936]
  refine q_E_B ?_
  exact q_E_x (q_iN_I (i := 23) (m := 3) j1935 (by decide))
set_option maxHeartbeats 4000000 in
theorem dzj_N148_87_65  (s : q_S) (hI : q_iN s) (a2 : Int32) (a3 : Int32) (a4 : Int32) : q_Ex (dz_N148_87_65 s a2 a3 a4) (q_iN) := by
  unfold dz_N148_87_65
  obtain ⟨r2, e1946, j1945⟩ := dzj_N146_87_65 (s) hI (a2 >>> ((8 &&& 31) : Int32))
  rw [e1946]
  refine q_E_B ?_
  obtain ⟨r3, e1948, j1947⟩ := dzj_N146_87_65 (r2) j1945 (a2 &&& 255)
  rw [e1948]
  refine q_E_B ?_
  obtain ⟨r4, e1950, j1949⟩ := dzj_N146_87_65 (r3) j1947 (a3)
  rw [e1950]
  refine q_E_B ?_
  obtain ⟨r5, e1952, j1951⟩ := dzj_N92_65 (q_sI r4 23 5 ((r4.2.1 23 5) ||| 4)) (q_iN_I (i := 23) (m := 5) j1949 (by decide)) (a4)
  rw [e1952]
  refine q_E_B ?_
  exact q_E_x (q_iN_I (i := 23) (m := 4) (q_iN_I (i := 23) (m := 5) j1949 (by decide)) (by decide))
set_option maxHeartbeats 4000000 in
theorem dzj_N147_87_65  (s : q_S) (hI : q_iN s) : (fun (x : q_S × Int32) => q_iN x.1) (dz_N147_87_65 s) := by
  refine q_S_of (P := (fun (x : q_S × Int32) => q_iN x.1)) ?_
  unfold dz_N147_87_65
  have j1954 := dzj_N120_66 (q_sI s 23 3 (((s.2.1 23 3) + 1) &&& 255)) (q_iN_I (i := 23) (m := 3) hI (by decide)) ((256 : Int32) + (((s.2.1 23 3) + 1) &&& 255))
  refine q_S_L ?_
  generalize dz_N120_66 (q_sI s 23 3 (((s.2.1 23 3) + 1) &&& 255)) ((256 : Int32) + (((s.2.1 23 3) + 1) &&& 255)) = r1 at j1954 ⊢
  exact q_E_x (q_iN_I (i := 23) (m := 3) hI (by decide))
set_option maxHeartbeats 4000000 in
theorem dzj_N150_87  (s : q_S) (hI : q_iN s) (a1 : Int32) : (fun (x : q_S × Int32) => q_iN x.1) (dz_N150_87 s a1) := by
  refine q_S_of (P := (fun (x : q_S × Int32) => q_iN x.1)) ?_
  unfold dz_N150_87
  cases h1961 : decide (a1 = 0) with
  | true =>
    have g1962 := q_rg_eqT h1961 (q_rg_lit (n := 0) (x := 0) rfl)
    refine q_S_T ?_
    cases h1963 : decide (127 < a1) with
    | true =>
      exact (q_rg_no (q_rg_ltT1 (l := 127) (U := -1) h1963 (q_rg_lit (n := 127) (x := 127) rfl) g1962 (by decide)) (by decide)).elim
    | false =>
      refine q_S_F ?_
      exact q_E_x (q_iN_I (i := 23) (m := 5) hI (by decide))
  | false =>
    refine q_S_F ?_
    cases h1964 : decide (127 < a1) with
    | true =>
      have g1965 := (q_rg_ltT2 (L := 128) (u2 := 2147483647) h1964 (q_rg_lit (n := 127) (x := 127) rfl) (q_rg_full _) (by decide))
      refine q_S_T ?_
      exact q_E_x (q_iN_I (i := 23) (m := 5) hI (by decide))
    | false =>
      have g1966 := (q_rg_ltF2 (l2 := -2147483648) (u := 127) h1964 (q_rg_lit (n := 127) (x := 127) rfl) (q_rg_full _))
      refine q_S_F ?_
      exact q_E_x (q_iN_I (i := 23) (m := 5) hI (by decide))
set_option maxHeartbeats 4000000 in
theorem dzj_N149_87_t  (s : q_S) (hI : q_iN s) (a1 : Int32) : (q_iN) (dz_N149_87_t s a1) := by
  refine q_S_of (P := (q_iN)) ?_
  unfold dz_N149_87_t
  exact q_E_x (q_iN_I (i := 23) (m := 5) hI (by decide))
set_option maxHeartbeats 4000000 in
theorem dzj_N149_87_f  (s : q_S) (hI : q_iN s) (a1 : Int32) : (q_iN) (dz_N149_87_f s a1) := by
  refine q_S_of (P := (q_iN)) ?_
  unfold dz_N149_87_f
  exact q_E_x (q_iN_I (i := 23) (m := 5) hI (by decide))
set_option maxHeartbeats 4000000 in
theorem dzj_N164_87  (s : q_S) (hI : q_iN s) (a1 : Int32) : (q_iN) (dz_N164_87 s a1) := by
  refine q_S_of (P := (q_iN)) ?_
  unfold dz_N164_87
  cases h2011 : decide (a1 < 150) with
  | true =>
    have g2012 := (q_rg_ltT1 (l := -2147483648) (U := 149) h2011 (q_rg_full _) (q_rg_lit (n := 150) (x := 150) rfl) (by decide))
    refine q_S_T ?_
    cases h2013 : decide ((s.2.1 23 0) - (s.2.1 23 0) / 2 * 2 = 1) with
    | true =>
      have g2014 := q_rg_eqT h2013 (q_rg_lit (n := 1) (x := 1) rfl)
      refine q_S_T ?_
      have j2015 := dzj_N149_87_t (s) hI (1)
      refine q_S_L ?_
      generalize dz_N149_87_t s 1 = r1 at j2015 ⊢
      have j2016 := dzj_N150_87 (r1) j2015 (((r1.2.1 23 0) / 2) + (128 * ((s.2.1 23 5) &&& 1)))
      refine q_S_L ?_
      generalize dz_N150_87 r1 (((r1.2.1 23 0) / 2) + (128 * ((s.2.1 23 5) &&& 1))) = r2 at j2016 ⊢
      exact q_E_x (q_iN_I (i := 23) (m := 0) j2016 (by decide))
    | false =>
      refine q_S_F ?_
      have j2017 := dzj_N149_87_f (s) hI (1)
      refine q_S_L ?_
      generalize dz_N149_87_f s 1 = r3 at j2017 ⊢
      have j2018 := dzj_N150_87 (r3) j2017 (((r3.2.1 23 0) / 2) + (128 * ((s.2.1 23 5) &&& 1)))
      refine q_S_L ?_
      generalize dz_N150_87 r3 (((r3.2.1 23 0) / 2) + (128 * ((s.2.1 23 5) &&& 1))) = r4 at j2018 ⊢
      exact q_E_x (q_iN_I (i := 23) (m := 0) j2018 (by decide))
  | false =>
    have g2019 := (q_rg_ltF1 (l2 := 150) (u := 2147483647) h2011 (q_rg_full _) (q_rg_lit (n := 150) (x := 150) rfl))
    refine q_S_F ?_
    cases h2020 : decide (152 < a1) with
    | true =>
      have g2021 := (q_rg_ltT2 (L := 153) (u2 := 2147483647) h2020 (q_rg_lit (n := 152) (x := 152) rfl) g2019 (by decide))
      refine q_S_T ?_
      cases h2022 : decide ((s.2.1 23 0) - (s.2.1 23 0) / 2 * 2 = 1) with
      | true =>
        have g2023 := q_rg_eqT h2022 (q_rg_lit (n := 1) (x := 1) rfl)
        refine q_S_T ?_
        have j2024 := dzj_N149_87_t (s) hI (1)
        refine q_S_L ?_
        generalize dz_N149_87_t s 1 = r5 at j2024 ⊢
        have j2025 := dzj_N150_87 (r5) j2024 (((r5.2.1 23 0) / 2) + (128 * ((s.2.1 23 5) &&& 1)))
        refine q_S_L ?_
        generalize dz_N150_87 r5 (((r5.2.1 23 0) / 2) + (128 * ((s.2.1 23 5) &&& 1))) = r6 at j2025 ⊢
        exact q_E_x (q_iN_I (i := 23) (m := 0) j2025 (by decide))
      | false =>
        refine q_S_F ?_
        have j2026 := dzj_N149_87_f (s) hI (1)
        refine q_S_L ?_
        generalize dz_N149_87_f s 1 = r7 at j2026 ⊢
        have j2027 := dzj_N150_87 (r7) j2026 (((r7.2.1 23 0) / 2) + (128 * ((s.2.1 23 5) &&& 1)))
        refine q_S_L ?_
        generalize dz_N150_87 r7 (((r7.2.1 23 0) / 2) + (128 * ((s.2.1 23 5) &&& 1))) = r8 at j2027 ⊢
        exact q_E_x (q_iN_I (i := 23) (m := 0) j2027 (by decide))
    | false =>
      have g2028 := (q_rg_ltF2 (l2 := 150) (u := 152) h2020 (q_rg_lit (n := 152) (x := 152) rfl) g2019)
      refine q_S_F ?_
      cases h2029 : decide (a1 = 150) with
      | true =>
        have g2030 := q_rg_eqT h2029 (q_rg_lit (n := 150) (x := 150) rfl)
        refine q_S_T ?_
        cases h2031 : decide (127 < s.2.1 23 0) with
        | true =>
          have g2032 := (q_rg_ltT2 (L := 128) (u2 := 2147483647) h2031 (q_rg_lit (n := 127) (x := 127) rfl) (q_rg_full _) (by decide))
          refine q_S_T ?_
          have j2033 := dzj_N149_87_t (s) hI (1)
          refine q_S_L ?_
          generalize dz_N149_87_t s 1 = r9 at j2033 ⊢
          have j2034 := dzj_N150_87 (r9) j2033 ((2 * (r9.2.1 23 0)) &&& 255)
          refine q_S_L ?_
          generalize dz_N150_87 r9 ((2 * (r9.2.1 23 0)) &&& 255) = r10 at j2034 ⊢
          exact q_E_x (q_iN_I (i := 23) (m := 0) j2034 (by decide))
        | false =>
          have g2035 := (q_rg_ltF2 (l2 := -2147483648) (u := 127) h2031 (q_rg_lit (n := 127) (x := 127) rfl) (q_rg_full _))
          refine q_S_F ?_
          have j2036 := dzj_N149_87_f (s) hI (1)
          refine q_S_L ?_
          generalize dz_N149_87_f s 1 = r11 at j2036 ⊢
          have j2037 := dzj_N150_87 (r11) j2036 ((2 * (r11.2.1 23 0)) &&& 255)
          refine q_S_L ?_
          generalize dz_N150_87 r11 ((2 * (r11.2.1 23 0)) &&& 255) = r12 at j2037 ⊢
          exact q_E_x (q_iN_I (i := 23) (m := 0) j2037 (by decide))
      | false =>
        have g2038 := (q_rg_neL (l := 150) (u := 152) (n := 150) (L := 151) h2029 g2028 rfl (by decide) (by decide))
        refine q_S_F ?_
        cases h2039 : decide (a1 = 151) with
        | true =>
          have g2040 := q_rg_eqT h2039 (q_rg_lit (n := 151) (x := 151) rfl)
          refine q_S_T ?_
          cases h2041 : decide ((s.2.1 23 0) - (s.2.1 23 0) / 2 * 2 = 1) with
          | true =>
            have g2042 := q_rg_eqT h2041 (q_rg_lit (n := 1) (x := 1) rfl)
            refine q_S_T ?_
            have j2043 := dzj_N149_87_t (s) hI (1)
            refine q_S_L ?_
            generalize dz_N149_87_t s 1 = r13 at j2043 ⊢
            have j2044 := dzj_N150_87 (r13) j2043 ((r13.2.1 23 0) / 2)
            refine q_S_L ?_
            generalize dz_N150_87 r13 ((r13.2.1 23 0) / 2) = r14 at j2044 ⊢
            exact q_E_x (q_iN_I (i := 23) (m := 0) j2044 (by decide))
          | false =>
            refine q_S_F ?_
            have j2045 := dzj_N149_87_f (s) hI (1)
            refine q_S_L ?_
            generalize dz_N149_87_f s 1 = r15 at j2045 ⊢
            have j2046 := dzj_N150_87 (r15) j2045 ((r15.2.1 23 0) / 2)
            refine q_S_L ?_
            generalize dz_N150_87 r15 ((r15.2.1 23 0) / 2) = r16 at j2046 ⊢
            exact q_E_x (q_iN_I (i := 23) (m := 0) j2046 (by decide))
        | false =>
          have g2047 := (q_rg_neL (l := 151) (u := 152) (n := 151) (L := 152) h2039 g2038 rfl (by decide) (by decide))
          refine q_S_F ?_
          cases h2048 : decide (127 < s.2.1 23 0) with
          | true =>
            have g2049 := (q_rg_ltT2 (L := 128) (u2 := 2147483647) h2048 (q_rg_lit (n := 127) (x := 127) rfl) (q_rg_full _) (by decide))
            refine q_S_T ?_
            have j2050 := dzj_N149_87_t (s) hI (1)
            refine q_S_L ?_
            generalize dz_N149_87_t s 1 = r17 at j2050 ⊢
            have j2051 := dzj_N150_87 (r17) j2050 (((2 * (r17.2.1 23 0)) + ((s.2.1 23 5) &&& 1)) &&& 255)
            refine q_S_L ?_
            generalize dz_N150_87 r17 (((2 * (r17.2.1 23 0)) + ((s.2.1 23 5) &&& 1)) &&& 255) = r18 at j2051 ⊢
            exact q_E_x (q_iN_I (i := 23) (m := 0) j2051 (by decide))
          | false =>
            have g2052 := (q_rg_ltF2 (l2 := -2147483648) (u := 127) h2048 (q_rg_lit (n := 127) (x := 127) rfl) (q_rg_full _))
            refine q_S_F ?_
            have j2053 := dzj_N149_87_f (s) hI (1)
            refine q_S_L ?_
            generalize dz_N149_87_f s 1 = r19 at j2053 ⊢
            have j2054 := dzj_N150_87 (r19) j2053 (((2 * (r19.2.1 23 0)) + ((s.2.1 23 5) &&& 1)) &&& 255)
            refine q_S_L ?_
            generalize dz_N150_87 r19 (((2 * (r19.2.1 23 0)) + ((s.2.1 23 5) &&& 1)) &&& 255) = r20 at j2054 ⊢
            exact q_E_x (q_iN_I (i := 23) (m := 0) j2054 (by decide))
set_option maxHeartbeats 4000000 in
theorem dzj_N163_87  (s : q_S) (hI : q_iN s) (a1 : Int32) : (q_iN) (dz_N163_87 s a1) := by
  refine q_S_of (P := (q_iN)) ?_
  unfold dz_N163_87
  cases h2084 : decide (a1 < 142) with
  | true =>
    have g2085 := (q_rg_ltT1 (l := -2147483648) (U := 141) h2084 (q_rg_full _) (q_rg_lit (n := 142) (x := 142) rfl) (by decide))
    refine q_S_T ?_
    have j2086 := dzj_N149_87_f (s) hI (64)
    refine q_S_L ?_
    generalize dz_N149_87_f s 64 = r1 at j2086 ⊢
    exact q_E_x j2086
  | false =>
    have g2087 := (q_rg_ltF1 (l2 := 142) (u := 2147483647) h2084 (q_rg_full _) (q_rg_lit (n := 142) (x := 142) rfl))
    refine q_S_F ?_
    cases h2088 : decide (147 < a1) with
    | true =>
      have g2089 := (q_rg_ltT2 (L := 148) (u2 := 2147483647) h2088 (q_rg_lit (n := 147) (x := 147) rfl) g2087 (by decide))
      refine q_S_T ?_
      have j2090 := dzj_N149_87_f (s) hI (64)
      refine q_S_L ?_
      generalize dz_N149_87_f s 64 = r2 at j2090 ⊢
      exact q_E_x j2090
    | false =>
      have g2091 := (q_rg_ltF2 (l2 := 142) (u := 147) h2088 (q_rg_lit (n := 147) (x := 147) rfl) g2087)
      refine q_S_F ?_
      cases h2092 : decide (a1 = 142) with
      | true =>
        have g2093 := q_rg_eqT h2092 (q_rg_lit (n := 142) (x := 142) rfl)
        refine q_S_T ?_
        have j2094 := dzj_N149_87_t (s) hI (1)
        refine q_S_L ?_
        generalize dz_N149_87_t s 1 = r3 at j2094 ⊢
        exact q_E_x j2094
      | false =>
        have g2095 := (q_rg_neL (l := 142) (u := 147) (n := 142) (L := 143) h2092 g2091 rfl (by decide) (by decide))
        refine q_S_F ?_
        cases h2096 : decide (a1 = 143) with
        | true =>
          have g2097 := q_rg_eqT h2096 (q_rg_lit (n := 143) (x := 143) rfl)
          refine q_S_T ?_
          have j2098 := dzj_N149_87_f (s) hI (1)
          refine q_S_L ?_
          generalize dz_N149_87_f s 1 = r4 at j2098 ⊢
          exact q_E_x j2098
        | false =>
          have g2099 := (q_rg_neL (l := 143) (u := 147) (n := 143) (L := 144) h2096 g2095 rfl (by decide) (by decide))
          refine q_S_F ?_
          cases h2100 : decide (a1 = 144) with
          | true =>
            have g2101 := q_rg_eqT h2100 (q_rg_lit (n := 144) (x := 144) rfl)
            refine q_S_T ?_
            have j2102 := dzj_N149_87_t (s) hI (8)
            refine q_S_L ?_
            generalize dz_N149_87_t s 8 = r5 at j2102 ⊢
            exact q_E_x j2102
          | false =>
            have g2103 := (q_rg_neL (l := 144) (u := 147) (n := 144) (L := 145) h2100 g2099 rfl (by decide) (by decide))
            refine q_S_F ?_
            cases h2104 : decide (a1 = 145) with
            | true =>
              have g2105 := q_rg_eqT h2104 (q_rg_lit (n := 145) (x := 145) rfl)
              refine q_S_T ?_
              have j2106 := dzj_N149_87_f (s) hI (8)
              refine q_S_L ?_
              generalize dz_N149_87_f s 8 = r6 at j2106 ⊢
              exact q_E_x j2106
            | false =>
              have g2107 := (q_rg_neL (l := 145) (u := 147) (n := 145) (L := 146) h2104 g2103 rfl (by decide) (by decide))
              refine q_S_F ?_
              cases h2108 : decide (a1 = 146) with
              | true =>
                have g2109 := q_rg_eqT h2108 (q_rg_lit (n := 146) (x := 146) rfl)
                refine q_S_T ?_
                have j2110 := dzj_N149_87_t (s) hI (4)
                refine q_S_L ?_
                generalize dz_N149_87_t s 4 = r7 at j2110 ⊢
                exact q_E_x j2110
              | false =>
                have g2111 := (q_rg_neL (l := 146) (u := 147) (n := 146) (L := 147) h2108 g2107 rfl (by decide) (by decide))
                refine q_S_F ?_
                have j2112 := dzj_N149_87_f (s) hI (4)
                refine q_S_L ?_
                generalize dz_N149_87_f s 4 = r8 at j2112 ⊢
                exact q_E_x j2112
set_option maxHeartbeats 4000000 in
theorem dzj_N162_87  (s : q_S) (hI : q_iN s) (a1 : Int32) : (q_iN) (dz_N162_87 s a1) := by
  refine q_S_of (P := (q_iN)) ?_
  unfold dz_N162_87
  cases h2152 : decide (a1 < 128) with
  | true =>
    have g2153 := (q_rg_ltT1 (l := -2147483648) (U := 127) h2152 (q_rg_full _) (q_rg_lit (n := 128) (x := 128) rfl) (by decide))
    refine q_S_T ?_
    exact q_E_x (q_iN_I (i := 23) (m := 3) hI (by decide))
  | false =>
    have g2154 := (q_rg_ltF1 (l2 := 128) (u := 2147483647) h2152 (q_rg_full _) (q_rg_lit (n := 128) (x := 128) rfl))
    refine q_S_F ?_
    cases h2155 : decide (136 < a1) with
    | true =>
      have g2156 := (q_rg_ltT2 (L := 137) (u2 := 2147483647) h2155 (q_rg_lit (n := 136) (x := 136) rfl) g2154 (by decide))
      refine q_S_T ?_
      exact q_E_x (q_iN_I (i := 23) (m := 3) hI (by decide))
    | false =>
      have g2157 := (q_rg_ltF2 (l2 := 128) (u := 136) h2155 (q_rg_lit (n := 136) (x := 136) rfl) g2154)
      refine q_S_F ?_
      cases h2158 : decide (a1 = 128) with
      | true =>
        have g2159 := q_rg_eqT h2158 (q_rg_lit (n := 128) (x := 128) rfl)
        refine q_S_T ?_
        have j2160 := dzj_N150_87 (s) hI (((s.2.1 23 1) + 1) &&& 255)
        refine q_S_L ?_
        generalize dz_N150_87 s (((s.2.1 23 1) + 1) &&& 255) = r1 at j2160 ⊢
        exact q_E_x (q_iN_I (i := 23) (m := 1) j2160 (by decide))
      | false =>
        have g2161 := (q_rg_neL (l := 128) (u := 136) (n := 128) (L := 129) h2158 g2157 rfl (by decide) (by decide))
        refine q_S_F ?_
        cases h2162 : decide (a1 = 129) with
        | true =>
          have g2163 := q_rg_eqT h2162 (q_rg_lit (n := 129) (x := 129) rfl)
          refine q_S_T ?_
          have j2164 := dzj_N150_87 (s) hI (((s.2.1 23 1) - 1) &&& 255)
          refine q_S_L ?_
          generalize dz_N150_87 s (((s.2.1 23 1) - 1) &&& 255) = r2 at j2164 ⊢
          exact q_E_x (q_iN_I (i := 23) (m := 1) j2164 (by decide))
        | false =>
          have g2165 := (q_rg_neL (l := 129) (u := 136) (n := 129) (L := 130) h2162 g2161 rfl (by decide) (by decide))
          refine q_S_F ?_
          cases h2166 : decide (a1 = 130) with
          | true =>
            have g2167 := q_rg_eqT h2166 (q_rg_lit (n := 130) (x := 130) rfl)
            refine q_S_T ?_
            have j2168 := dzj_N150_87 (s) hI (((s.2.1 23 2) + 1) &&& 255)
            refine q_S_L ?_
            generalize dz_N150_87 s (((s.2.1 23 2) + 1) &&& 255) = r3 at j2168 ⊢
            exact q_E_x (q_iN_I (i := 23) (m := 2) j2168 (by decide))
          | false =>
            have g2169 := (q_rg_neL (l := 130) (u := 136) (n := 130) (L := 131) h2166 g2165 rfl (by decide) (by decide))
            refine q_S_F ?_
            cases h2170 : decide (a1 = 131) with
            | true =>
              have g2171 := q_rg_eqT h2170 (q_rg_lit (n := 131) (x := 131) rfl)
              refine q_S_T ?_
              have j2172 := dzj_N150_87 (s) hI (((s.2.1 23 2) - 1) &&& 255)
              refine q_S_L ?_
              generalize dz_N150_87 s (((s.2.1 23 2) - 1) &&& 255) = r4 at j2172 ⊢
              exact q_E_x (q_iN_I (i := 23) (m := 2) j2172 (by decide))
            | false =>
              have g2173 := (q_rg_neL (l := 131) (u := 136) (n := 131) (L := 132) h2170 g2169 rfl (by decide) (by decide))
              refine q_S_F ?_
              cases h2174 : decide (a1 = 132) with
              | true =>
                have g2175 := q_rg_eqT h2174 (q_rg_lit (n := 132) (x := 132) rfl)
                refine q_S_T ?_
                have j2176 := dzj_N150_87 (s) hI (s.2.1 23 0)
                refine q_S_L ?_
                generalize dz_N150_87 s (s.2.1 23 0) = r5 at j2176 ⊢
                exact q_E_x (q_iN_I (i := 23) (m := 1) j2176 (by decide))
              | false =>
                have g2177 := (q_rg_neL (l := 132) (u := 136) (n := 132) (L := 133) h2174 g2173 rfl (by decide) (by decide))
                refine q_S_F ?_
                cases h2178 : decide (a1 = 133) with
                | true =>
                  have g2179 := q_rg_eqT h2178 (q_rg_lit (n := 133) (x := 133) rfl)
                  refine q_S_T ?_
                  have j2180 := dzj_N150_87 (s) hI (s.2.1 23 1)
                  refine q_S_L ?_
                  generalize dz_N150_87 s (s.2.1 23 1) = r6 at j2180 ⊢
                  exact q_E_x (q_iN_I (i := 23) (m := 0) j2180 (by decide))
                | false =>
                  have g2181 := (q_rg_neL (l := 133) (u := 136) (n := 133) (L := 134) h2178 g2177 rfl (by decide) (by decide))
                  refine q_S_F ?_
                  cases h2182 : decide (a1 = 134) with
                  | true =>
                    have g2183 := q_rg_eqT h2182 (q_rg_lit (n := 134) (x := 134) rfl)
                    refine q_S_T ?_
                    have j2184 := dzj_N150_87 (s) hI (s.2.1 23 0)
                    refine q_S_L ?_
                    generalize dz_N150_87 s (s.2.1 23 0) = r7 at j2184 ⊢
                    exact q_E_x (q_iN_I (i := 23) (m := 2) j2184 (by decide))
                  | false =>
                    have g2185 := (q_rg_neL (l := 134) (u := 136) (n := 134) (L := 135) h2182 g2181 rfl (by decide) (by decide))
                    refine q_S_F ?_
                    cases h2186 : decide (a1 = 135) with
                    | true =>
                      have g2187 := q_rg_eqT h2186 (q_rg_lit (n := 135) (x := 135) rfl)
                      refine q_S_T ?_
                      have j2188 := dzj_N150_87 (s) hI (s.2.1 23 2)
                      refine q_S_L ?_
                      generalize dz_N150_87 s (s.2.1 23 2) = r8 at j2188 ⊢
                      exact q_E_x (q_iN_I (i := 23) (m := 0) j2188 (by decide))
                    | false =>
                      have g2189 := (q_rg_neL (l := 135) (u := 136) (n := 135) (L := 136) h2186 g2185 rfl (by decide) (by decide))
                      refine q_S_F ?_
                      have j2190 := dzj_N150_87 (s) hI (s.2.1 23 3)
                      refine q_S_L ?_
                      generalize dz_N150_87 s (s.2.1 23 3) = r9 at j2190 ⊢
                      exact q_E_x (q_iN_I (i := 23) (m := 1) j2190 (by decide))
set_option maxHeartbeats 4000000 in
theorem dzj_N157_87_65_37  (s : q_S) (hI : q_iN s) (v2 : Int32) (rv2 : q_rgz 138 2147483647 v2) : q_Ex (dz_N157_87_65_37 s v2) (q_iN) := by
  unfold dz_N157_87_65_37
  cases h2236 : decide (v2 < 150) with
  | true =>
    have g2237 := (q_rg_ltT1 (l := 138) (U := 149) h2236 rv2 (q_rg_lit (n := 150) (x := 150) rfl) (by decide))
    refine q_E_T ?_
    cases h2238 : decide (v2 = 138) with
    | true =>
      have g2239 := q_rg_eqT h2238 (q_rg_lit (n := 138) (x := 138) rfl)
      refine q_E_T ?_
      obtain ⟨r2, e2241, j2240⟩ := dzj_N146_87_65 (s) hI (s.2.1 23 0)
      rw [e2241]
      refine q_E_B ?_
      exact q_E_x j2240
    | false =>
      have g2242 := (q_rg_neL (l := 138) (u := 149) (n := 138) (L := 139) h2238 g2237 rfl (by decide) (by decide))
      refine q_E_F ?_
      cases h2243 : decide (v2 = 139) with
      | true =>
        have g2244 := q_rg_eqT h2243 (q_rg_lit (n := 139) (x := 139) rfl)
        refine q_E_T ?_
        have j2245 := dzj_N147_87_65 (s) hI
        refine q_E_L ?_
        generalize dz_N147_87_65 s = r3 at j2245 ⊢
        have j2246 := dzj_N150_87 (r3.1) j2245 (r3.2)
        refine q_E_L ?_
        generalize dz_N150_87 r3.1 r3.2 = r4 at j2246 ⊢
        exact q_E_x (q_iN_I (i := 23) (m := 0) j2246 (by decide))
      | false =>
        have g2247 := (q_rg_neL (l := 139) (u := 149) (n := 139) (L := 140) h2243 g2242 rfl (by decide) (by decide))
        refine q_E_F ?_
        cases h2248 : decide (v2 = 140) with
        | true =>
          have g2249 := q_rg_eqT h2248 (q_rg_lit (n := 140) (x := 140) rfl)
          refine q_E_T ?_
          obtain ⟨r5, e2251, j2250⟩ := dzj_N146_87_65 (s) hI (((s.2.1 23 5) ||| 32) ||| 16)
          rw [e2251]
          refine q_E_B ?_
          exact q_E_x j2250
        | false =>
          have g2252 := (q_rg_neL (l := 140) (u := 149) (n := 140) (L := 141) h2248 g2247 rfl (by decide) (by decide))
          refine q_E_F ?_
          cases h2253 : decide (v2 = 141) with
          | true =>
            have g2254 := q_rg_eqT h2253 (q_rg_lit (n := 141) (x := 141) rfl)
            refine q_E_T ?_
            have j2255 := dzj_N147_87_65 (s) hI
            refine q_E_L ?_
            generalize dz_N147_87_65 s = r6 at j2255 ⊢
            exact q_E_x (q_iN_I (i := 23) (m := 5) j2255 (by decide))
          | false =>
            have g2256 := (q_rg_neL (l := 141) (u := 149) (n := 141) (L := 142) h2253 g2252 rfl (by decide) (by decide))
            refine q_E_F ?_
            exact q_E_x hI
  | false =>
    have g2257 := (q_rg_ltF1 (l2 := 150) (u := 2147483647) h2236 rv2 (q_rg_lit (n := 150) (x := 150) rfl))
    refine q_E_F ?_
    have j2258 := dzj_N164_87 (s) hI (v2)
    refine q_E_L ?_
    generalize dz_N164_87 s v2 = r7 at j2258 ⊢
    exact q_E_x j2258
set_option maxHeartbeats 4000000 in
theorem dzj_N157_87_65  (s : q_S) (hI : q_iN s) (a2 : Int32) : q_Ex (dz_N157_87_65 s a2) (q_iN) := by
  unfold dz_N157_87_65
  cases h2259 : decide (137 < a2) with
  | true =>
    have g2260 := (q_rg_ltT2 (L := 138) (u2 := 2147483647) h2259 (q_rg_lit (n := 137) (x := 137) rfl) (q_rg_full _) (by decide))
    refine q_E_T ?_
    cases h2261 : decide (a2 < 142) with
    | true =>
      have g2262 := (q_rg_ltT1 (l := 138) (U := 141) h2261 g2260 (q_rg_lit (n := 142) (x := 142) rfl) (by decide))
      refine q_E_T ?_
      exact dzj_N157_87_65_37 (s) hI (a2) (q_rg_le (L := 138) (U := 2147483647) g2262 (by decide) (by decide))
    | false =>
      have g2263 := (q_rg_ltF1 (l2 := 142) (u := 2147483647) h2261 g2260 (q_rg_lit (n := 142) (x := 142) rfl))
      refine q_E_F ?_
      cases h2264 : decide (148 < a2) with
      | true =>
        have g2265 := (q_rg_ltT2 (L := 149) (u2 := 2147483647) h2264 (q_rg_lit (n := 148) (x := 148) rfl) g2263 (by decide))
        refine q_E_T ?_
        exact dzj_N157_87_65_37 (s) hI (a2) (q_rg_le (L := 138) (U := 2147483647) g2265 (by decide) (by decide))
      | false =>
        have g2266 := (q_rg_ltF2 (l2 := 142) (u := 148) h2264 (q_rg_lit (n := 148) (x := 148) rfl) g2263)
        refine q_E_F ?_
        have j2267 := dzj_N163_87 (s) hI (a2)
        refine q_E_L ?_
        generalize dz_N163_87 s a2 = r8 at j2267 ⊢
        exact q_E_x j2267
  | false =>
    have g2268 := (q_rg_ltF2 (l2 := -2147483648) (u := 137) h2259 (q_rg_lit (n := 137) (x := 137) rfl) (q_rg_full _))
    refine q_E_F ?_
    have j2269 := dzj_N162_87 (s) hI (a2)
    refine q_E_L ?_
    generalize dz_N162_87 s a2 = r9 at j2269 ⊢
    exact q_E_x j2269
set_option maxHeartbeats 4000000 in
theorem dzj_N160_87_65  (s : q_S) (hI : q_iN s) : (fun (x : q_S × Int32) => q_iN x.1) (dz_N160_87_65 s) := by
  refine q_S_of (P := (fun (x : q_S × Int32) => q_iN x.1)) ?_
  unfold dz_N160_87_65
  have j2272 := dzj_N147_87_65 (s) hI
  refine q_S_L ?_
  generalize dz_N147_87_65 s = r1 at j2272 ⊢
  have j2273 := dzj_N147_87_65 (r1.1) j2272
  refine q_S_L ?_
  generalize dz_N147_87_65 r1.1 = r2 at j2273 ⊢
  exact q_E_x j2273
set_option maxHeartbeats 4000000 in
theorem dzj_N159_87_65  (s : q_S) (hI : q_iN s) (a2 : Int32) : q_Ex (dz_N159_87_65 s a2) (fun _ => True) := by
  unfold dz_N159_87_65
  obtain ⟨r2, e2279, j2278⟩ := dzj_N90_65 (s) hI (a2)
  rw [e2279]
  refine q_E_B ?_
  obtain ⟨r3, e2281, j2280⟩ := dzj_N90_65 (s) hI (((a2 / 256) * 256) + ((a2 + 1) &&& 255))
  rw [e2281]
  refine q_E_B ?_
  exact q_E_x trivial
set_option maxHeartbeats 4000000 in
theorem dzj_N158_87_65  (s : q_S) (hI : q_iN s) (a2 : Int32) (a3 : Int32) : q_Ex (dz_N158_87_65 s a2 a3) (fun (x : q_S × Int32) => q_iN x.1) := by
  unfold dz_N158_87_65
  cases h2333 : decide (a2 < 155) with
  | true =>
    have g2334 := (q_rg_ltT1 (l := -2147483648) (U := 154) h2333 (q_rg_full _) (q_rg_lit (n := 155) (x := 155) rfl) (by decide))
    refine q_E_T ?_
    have j2335 := dzj_N187 (s) hI (a2)
    refine q_E_L ?_
    generalize dz_N187 s a2 = r5 at j2335 ⊢
    cases h2336 : r5 with
    | true =>
      refine q_E_T ?_
      have j2337 := dzj_N161_87 (s) hI (a2)
      refine q_E_L ?_
      generalize dz_N161_87 s a2 = r6 at j2337 ⊢
      cases h2338 : r6 with
      | true =>
        refine q_E_T ?_
        have j2339 := dzj_N140_87 (s) hI (1)
        refine q_E_L ?_
        generalize dz_N140_87 s 1 = r7 at j2339 ⊢
        obtain ⟨r8, e2341, j2340⟩ := dzj_N90_65 (s) hI (r7)
        rw [e2341]
        refine q_E_B ?_
        have j2342 := dzj_N139_87 (s) hI (r8)
        refine q_E_L ?_
        generalize dz_N139_87 s r8 = r9 at j2342 ⊢
        exact q_E_x hI
      | false =>
        refine q_E_F ?_
        exact q_E_x hI
    | false =>
      refine q_E_F ?_
      exact q_E_x (q_iN_F7 hI (q_rg_le (q_rg_lit (n := 1) (x := 1) rfl) (by decide) (by decide)))
  | false =>
    have g2343 := (q_rg_ltF1 (l2 := 155) (u := 2147483647) h2333 (q_rg_full _) (q_rg_lit (n := 155) (x := 155) rfl))
    refine q_E_F ?_
    cases h2344 : decide (159 < a2) with
    | true =>
      have g2345 := (q_rg_ltT2 (L := 160) (u2 := 2147483647) h2344 (q_rg_lit (n := 159) (x := 159) rfl) g2343 (by decide))
      refine q_E_T ?_
      have j2346 := dzj_N187 (s) hI (a2)
      refine q_E_L ?_
      generalize dz_N187 s a2 = r10 at j2346 ⊢
      cases h2347 : r10 with
      | true =>
        refine q_E_T ?_
        have j2348 := dzj_N161_87 (s) hI (a2)
        refine q_E_L ?_
        generalize dz_N161_87 s a2 = r11 at j2348 ⊢
        cases h2349 : r11 with
        | true =>
          refine q_E_T ?_
          have j2350 := dzj_N140_87 (s) hI (1)
          refine q_E_L ?_
          generalize dz_N140_87 s 1 = r12 at j2350 ⊢
          obtain ⟨r13, e2352, j2351⟩ := dzj_N90_65 (s) hI (r12)
          rw [e2352]
          refine q_E_B ?_
          have j2353 := dzj_N139_87 (s) hI (r13)
          refine q_E_L ?_
          generalize dz_N139_87 s r13 = r14 at j2353 ⊢
          exact q_E_x hI
        | false =>
          refine q_E_F ?_
          exact q_E_x hI
      | false =>
        refine q_E_F ?_
        exact q_E_x (q_iN_F7 hI (q_rg_le (q_rg_lit (n := 1) (x := 1) rfl) (by decide) (by decide)))
    | false =>
      have g2354 := (q_rg_ltF2 (l2 := 155) (u := 159) h2344 (q_rg_lit (n := 159) (x := 159) rfl) g2343)
      refine q_E_F ?_
      cases h2355 : decide (a2 = 155) with
      | true =>
        have g2356 := q_rg_eqT h2355 (q_rg_lit (n := 155) (x := 155) rfl)
        refine q_E_T ?_
        have j2357 := dzj_N147_87_65 (s) hI
        refine q_E_L ?_
        generalize dz_N147_87_65 s = r15 at j2357 ⊢
        have j2358 := dzj_N160_87_65 (q_sI r15.1 23 5 (r15.2 &&& 207)) (q_iN_I (i := 23) (m := 5) j2357 (by decide))
        refine q_E_L ?_
        generalize dz_N160_87_65 (q_sI r15.1 23 5 (r15.2 &&& 207)) = r16 at j2358 ⊢
        exact q_E_x j2358
      | false =>
        have g2359 := (q_rg_neL (l := 155) (u := 159) (n := 155) (L := 156) h2355 g2354 rfl (by decide) (by decide))
        refine q_E_F ?_
        cases h2360 : decide (a2 = 156) with
        | true =>
          have g2361 := q_rg_eqT h2360 (q_rg_lit (n := 156) (x := 156) rfl)
          refine q_E_T ?_
          have j2362 := dzj_N160_87_65 (s) hI
          refine q_E_L ?_
          generalize dz_N160_87_65 s = r17 at j2362 ⊢
          exact q_E_x j2362
        | false =>
          have g2363 := (q_rg_neL (l := 156) (u := 159) (n := 156) (L := 157) h2360 g2359 rfl (by decide) (by decide))
          refine q_E_F ?_
          cases h2364 : decide (a2 = 157) with
          | true =>
            have g2365 := q_rg_eqT h2364 (q_rg_lit (n := 157) (x := 157) rfl)
            refine q_E_T ?_
            obtain ⟨r18, e2367, j2366⟩ := dzj_N145_87_65 (s) hI (3)
            rw [e2367]
            refine q_E_B ?_
            exact q_E_x hI
          | false =>
            have g2368 := (q_rg_neL (l := 157) (u := 159) (n := 157) (L := 158) h2364 g2363 rfl (by decide) (by decide))
            refine q_E_F ?_
            cases h2369 : decide (a2 = 158) with
            | true =>
              have g2370 := q_rg_eqT h2369 (q_rg_lit (n := 158) (x := 158) rfl)
              refine q_E_T ?_
              obtain ⟨r19, e2372, j2371⟩ := dzj_N145_87_65 (s) hI (3)
              rw [e2372]
              refine q_E_B ?_
              have j2373 := dzj_N140_87 (s) hI (2)
              refine q_E_L ?_
              generalize dz_N140_87 s 2 = r20 at j2373 ⊢
              obtain ⟨r21, e2375, j2374⟩ := dzj_N146_87_65 (s) hI (r20 >>> ((8 &&& 31) : Int32))
              rw [e2375]
              refine q_E_B ?_
              have j2376 := dzj_N140_87 (r21) j2374 (2)
              refine q_E_L ?_
              generalize dz_N140_87 r21 2 = r22 at j2376 ⊢
              obtain ⟨r23, e2378, j2377⟩ := dzj_N146_87_65 (r21) j2374 (r22 &&& 255)
              rw [e2378]
              refine q_E_B ?_
              exact q_E_x j2377
            | false =>
              have g2379 := (q_rg_neL (l := 158) (u := 159) (n := 158) (L := 159) h2369 g2368 rfl (by decide) (by decide))
              refine q_E_F ?_
              obtain ⟨r24, e2381, j2380⟩ := dzj_N145_87_65 (s) hI (3)
              rw [e2381]
              refine q_E_B ?_
              obtain ⟨r25, e2383, j2382⟩ := dzj_N159_87_65 (s) hI (r24)
              rw [e2383]
              refine q_E_B ?_
              exact q_E_x hI
set_option maxHeartbeats 4000000 in
theorem dzj_N156_87  (s : q_S) (hI : q_iN s) (a1 : Int32) : (q_iN) (dz_N156_87 s a1) := by
  refine q_S_of (P := (q_iN)) ?_
  unfold dz_N156_87
  cases h2403 : decide ((((s.2.1 23 0) ^^^ (((s.2.1 23 0) + a1) + ((s.2.1 23 5) &&& 1))) &&& (a1 ^^^ (((s.2.1 23 0) + a1) + ((s.2.1 23 5) &&& 1)))) &&& 128 = 0) with
  | true =>
    have g2404 := q_rg_eqT h2403 (q_rg_lit (n := 0) (x := 0) rfl)
    refine q_S_T ?_
    have j2405 := dzj_N149_87_f (s) hI (64)
    refine q_S_L ?_
    generalize dz_N149_87_f s 64 = r1 at j2405 ⊢
    cases h2406 : decide (255 < ((s.2.1 23 0) + a1) + ((s.2.1 23 5) &&& 1)) with
    | true =>
      have g2407 := (q_rg_ltT2 (L := 256) (u2 := 2147483647) h2406 (q_rg_lit (n := 255) (x := 255) rfl) (q_rg_full _) (by decide))
      refine q_S_T ?_
      have j2408 := dzj_N149_87_t (r1) j2405 (1)
      refine q_S_L ?_
      generalize dz_N149_87_t r1 1 = r2 at j2408 ⊢
      have j2409 := dzj_N150_87 (r2) j2408 ((((s.2.1 23 0) + a1) + ((s.2.1 23 5) &&& 1)) &&& 255)
      refine q_S_L ?_
      generalize dz_N150_87 r2 ((((s.2.1 23 0) + a1) + ((s.2.1 23 5) &&& 1)) &&& 255) = r3 at j2409 ⊢
      exact q_E_x (q_iN_I (i := 23) (m := 0) j2409 (by decide))
    | false =>
      have g2410 := (q_rg_ltF2 (l2 := -2147483648) (u := 255) h2406 (q_rg_lit (n := 255) (x := 255) rfl) (q_rg_full _))
      refine q_S_F ?_
      have j2411 := dzj_N149_87_f (r1) j2405 (1)
      refine q_S_L ?_
      generalize dz_N149_87_f r1 1 = r4 at j2411 ⊢
      have j2412 := dzj_N150_87 (r4) j2411 ((((s.2.1 23 0) + a1) + ((s.2.1 23 5) &&& 1)) &&& 255)
      refine q_S_L ?_
      generalize dz_N150_87 r4 ((((s.2.1 23 0) + a1) + ((s.2.1 23 5) &&& 1)) &&& 255) = r5 at j2412 ⊢
      exact q_E_x (q_iN_I (i := 23) (m := 0) j2412 (by decide))
  | false =>
    have g2413 := (q_rg_neL (l := 0) (u := 128) (n := 0) (L := 1) h2403 (q_rg_and (((s.2.1 23 0) ^^^ (((s.2.1 23 0) + a1) + ((s.2.1 23 5) &&& 1))) &&& (a1 ^^^ (((s.2.1 23 0) + a1) + ((s.2.1 23 5) &&& 1)))) 128 (U := 128) (by decide) rfl) rfl (by decide) (by decide))
    refine q_S_F ?_
    have j2414 := dzj_N149_87_t (s) hI (64)
    refine q_S_L ?_
    generalize dz_N149_87_t s 64 = r6 at j2414 ⊢
    cases h2415 : decide (255 < ((s.2.1 23 0) + a1) + ((s.2.1 23 5) &&& 1)) with
    | true =>
      have g2416 := (q_rg_ltT2 (L := 256) (u2 := 2147483647) h2415 (q_rg_lit (n := 255) (x := 255) rfl) (q_rg_full _) (by decide))
      refine q_S_T ?_
      have j2417 := dzj_N149_87_t (r6) j2414 (1)
      refine q_S_L ?_
      generalize dz_N149_87_t r6 1 = r7 at j2417 ⊢
      have j2418 := dzj_N150_87 (r7) j2417 ((((s.2.1 23 0) + a1) + ((s.2.1 23 5) &&& 1)) &&& 255)
      refine q_S_L ?_
      generalize dz_N150_87 r7 ((((s.2.1 23 0) + a1) + ((s.2.1 23 5) &&& 1)) &&& 255) = r8 at j2418 ⊢
      exact q_E_x (q_iN_I (i := 23) (m := 0) j2418 (by decide))
    | false =>
      have g2419 := (q_rg_ltF2 (l2 := -2147483648) (u := 255) h2415 (q_rg_lit (n := 255) (x := 255) rfl) (q_rg_full _))
      refine q_S_F ?_
      have j2420 := dzj_N149_87_f (r6) j2414 (1)
      refine q_S_L ?_
      generalize dz_N149_87_f r6 1 = r9 at j2420 ⊢
      have j2421 := dzj_N150_87 (r9) j2420 ((((s.2.1 23 0) + a1) + ((s.2.1 23 5) &&& 1)) &&& 255)
      refine q_S_L ?_
      generalize dz_N150_87 r9 ((((s.2.1 23 0) + a1) + ((s.2.1 23 5) &&& 1)) &&& 255) = r10 at j2421 ⊢
      exact q_E_x (q_iN_I (i := 23) (m := 0) j2421 (by decide))
set_option maxHeartbeats 4000000 in
theorem dzj_N154_87_64  (s : q_S) (hI : q_iN s) (v3 : Int32) (v4 : Int32) (rv3 : q_rgz (-2147483648) 2147483637 v3) : (q_iN) (dz_N154_87_64 s v3 v4) := by
  refine q_S_of (P := (q_iN)) ?_
  unfold dz_N154_87_64
  cases h2445 : decide (9 < v4) with
  | true =>
    have g2446 := (q_rg_ltT2 (L := 10) (u2 := 2147483647) h2445 (q_rg_lit (n := 9) (x := 9) rfl) (q_rg_full _) (by decide))
    refine q_S_T ?_
    have j2447 := dzj_N149_87_t (s) hI (1)
    refine q_S_L ?_
    generalize dz_N149_87_t s 1 = r3 at j2447 ⊢
    have j2448 := dzj_N150_87 (r3) j2447 (((16 * (v4 + (-10))) + v3) &&& 255)
    refine q_S_L ?_
    generalize dz_N150_87 r3 (((16 * (v4 + (-10))) + v3) &&& 255) = r4 at j2448 ⊢
    exact q_E_x (q_iN_I (i := 23) (m := 0) j2448 (by decide))
  | false =>
    have g2449 := (q_rg_ltF2 (l2 := -2147483648) (u := 9) h2445 (q_rg_lit (n := 9) (x := 9) rfl) (q_rg_full _))
    refine q_S_F ?_
    have j2450 := dzj_N149_87_f (s) hI (1)
    refine q_S_L ?_
    generalize dz_N149_87_f s 1 = r5 at j2450 ⊢
    have j2451 := dzj_N150_87 (r5) j2450 (((16 * v4) + v3) &&& 255)
    refine q_S_L ?_
    generalize dz_N150_87 r5 (((16 * v4) + v3) &&& 255) = r6 at j2451 ⊢
    exact q_E_x (q_iN_I (i := 23) (m := 0) j2451 (by decide))
set_option maxHeartbeats 4000000 in
theorem dzj_N154_87  (s : q_S) (hI : q_iN s) (a1 : Int32) : (q_iN) (dz_N154_87 s a1) := by
  refine q_S_of (P := (q_iN)) ?_
  unfold dz_N154_87
  have j2452 : q_rgz (-2147483648) 2147483647 ((((s.2.1 23 0) - (s.2.1 23 0) / 16 * 16) + (a1 - a1 / 16 * 16)) + ((s.2.1 23 5) &&& 1)) := (q_rg_full _)
  refine q_S_L ?_
  generalize ((((s.2.1 23 0) - (s.2.1 23 0) / 16 * 16) + (a1 - a1 / 16 * 16)) + ((s.2.1 23 5) &&& 1)) = x1 at j2452 ⊢
  have j2453 := dzj_N156_87 (s) hI (a1)
  refine q_S_L ?_
  generalize dz_N156_87 s a1 = r2 at j2453 ⊢
  cases h2454 : decide ((r2.2.1 23 5) &&& 8 = 0) with
  | true =>
    have g2455 := q_rg_eqT h2454 (q_rg_lit (n := 0) (x := 0) rfl)
    refine q_S_T ?_
    exact q_E_x j2453
  | false =>
    have g2456 := (q_rg_neL (l := 0) (u := 8) (n := 0) (L := 1) h2454 (q_rg_and (r2.2.1 23 5) 8 (U := 8) (by decide) rfl) rfl (by decide) (by decide))
    refine q_S_F ?_
    cases h2457 : decide (9 < x1) with
    | true =>
      have g2458 := (q_rg_ltT2 (L := 10) (u2 := 2147483647) h2457 (q_rg_lit (n := 9) (x := 9) rfl) j2452 (by decide))
      refine q_S_T ?_
      exact q_E_x (dzj_N154_87_64 (r2) j2453 (x1 + (-10)) ((((s.2.1 23 0) / 16) + (a1 / 16)) + 1) (q_rg_le (L := -2147483648) (U := 2147483637) (q_rg_add (L := 0) (U := 2147483637) g2458 (q_rg_lit (n := -10) (x := -10) rfl) (by decide) (by decide) (by decide) (by decide)) (by decide) (by decide)))
    | false =>
      have g2459 := (q_rg_ltF2 (l2 := -2147483648) (u := 9) h2457 (q_rg_lit (n := 9) (x := 9) rfl) j2452)
      refine q_S_F ?_
      exact q_E_x (dzj_N154_87_64 (r2) j2453 (x1) (((s.2.1 23 0) / 16) + (a1 / 16)) (q_rg_le (L := -2147483648) (U := 2147483637) g2459 (by decide) (by decide)))
set_option maxHeartbeats 4000000 in
theorem dzj_N155_87_68  (s : q_S) (hI : q_iN s) (v3 : Int32) (v4 : Int32) (rv3 : q_rgz (-2147483638) 2147483647 v3) : (q_iN) (dz_N155_87_68 s v3 v4) := by
  refine q_S_of (P := (q_iN)) ?_
  unfold dz_N155_87_68
  cases h2483 : decide (v4 < 0) with
  | true =>
    have g2484 := (q_rg_ltT1 (l := -2147483648) (U := -1) h2483 (q_rg_full _) (q_rg_lit (n := 0) (x := 0) rfl) (by decide))
    refine q_S_T ?_
    have j2485 := dzj_N149_87_f (s) hI (1)
    refine q_S_L ?_
    generalize dz_N149_87_f s 1 = r3 at j2485 ⊢
    have j2486 := dzj_N150_87 (r3) j2485 (((16 * (v4 + 10)) + v3) &&& 255)
    refine q_S_L ?_
    generalize dz_N150_87 r3 (((16 * (v4 + 10)) + v3) &&& 255) = r4 at j2486 ⊢
    exact q_E_x (q_iN_I (i := 23) (m := 0) j2486 (by decide))
  | false =>
    have g2487 := (q_rg_ltF1 (l2 := 0) (u := 2147483647) h2483 (q_rg_full _) (q_rg_lit (n := 0) (x := 0) rfl))
    refine q_S_F ?_
    have j2488 := dzj_N149_87_t (s) hI (1)
    refine q_S_L ?_
    generalize dz_N149_87_t s 1 = r5 at j2488 ⊢
    have j2489 := dzj_N150_87 (r5) j2488 (((16 * v4) + v3) &&& 255)
    refine q_S_L ?_
    generalize dz_N150_87 r5 (((16 * v4) + v3) &&& 255) = r6 at j2489 ⊢
    exact q_E_x (q_iN_I (i := 23) (m := 0) j2489 (by decide))
set_option maxHeartbeats 4000000 in
theorem dzj_N155_87  (s : q_S) (hI : q_iN s) (a1 : Int32) : (q_iN) (dz_N155_87 s a1) := by
  refine q_S_of (P := (q_iN)) ?_
  unfold dz_N155_87
  have j2490 : q_rgz (-2147483648) 2147483647 (((((s.2.1 23 0) - (s.2.1 23 0) / 16 * 16) - (a1 - a1 / 16 * 16)) - 1) + ((s.2.1 23 5) &&& 1)) := (q_rg_full _)
  refine q_S_L ?_
  generalize (((((s.2.1 23 0) - (s.2.1 23 0) / 16 * 16) - (a1 - a1 / 16 * 16)) - 1) + ((s.2.1 23 5) &&& 1)) = x1 at j2490 ⊢
  have j2491 := dzj_N156_87 (s) hI ((255 : Int32) - a1)
  refine q_S_L ?_
  generalize dz_N156_87 s ((255 : Int32) - a1) = r2 at j2491 ⊢
  cases h2492 : decide ((r2.2.1 23 5) &&& 8 = 0) with
  | true =>
    have g2493 := q_rg_eqT h2492 (q_rg_lit (n := 0) (x := 0) rfl)
    refine q_S_T ?_
    exact q_E_x j2491
  | false =>
    have g2494 := (q_rg_neL (l := 0) (u := 8) (n := 0) (L := 1) h2492 (q_rg_and (r2.2.1 23 5) 8 (U := 8) (by decide) rfl) rfl (by decide) (by decide))
    refine q_S_F ?_
    cases h2495 : decide (x1 < 0) with
    | true =>
      have g2496 := (q_rg_ltT1 (l := -2147483648) (U := -1) h2495 j2490 (q_rg_lit (n := 0) (x := 0) rfl) (by decide))
      refine q_S_T ?_
      exact q_E_x (dzj_N155_87_68 (r2) j2491 (x1 + 10) ((((s.2.1 23 0) / 16) - (a1 / 16)) + (-1)) (q_rg_le (L := -2147483638) (U := 2147483647) (q_rg_add (L := -2147483638) (U := 9) g2496 (q_rg_lit (n := 10) (x := 10) rfl) (by decide) (by decide) (by decide) (by decide)) (by decide) (by decide)))
    | false =>
      have g2497 := (q_rg_ltF1 (l2 := 0) (u := 2147483647) h2495 j2490 (q_rg_lit (n := 0) (x := 0) rfl))
      refine q_S_F ?_
      exact q_E_x (dzj_N155_87_68 (r2) j2491 (x1) (((s.2.1 23 0) / 16) - (a1 / 16)) (q_rg_le (L := -2147483638) (U := 2147483647) g2497 (by decide) (by decide)))
