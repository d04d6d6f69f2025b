section
variable {s y r : q_S} {c d u K : Int} {t : Int64} {l : Int32}
theorem q_bqF {i j : Nat} (h : ¬ j = i) : Nat.beq i j = false := by
  cases e : Nat.beq i j with
  | false => rfl
  | true => exact absurd (Nat.eq_of_beq_eq_true e).symm h
def q_iX (c d u : Int) (t : Int64) (l : Int32) (s : q_S) : Prop := q_iN s ∧ q_iP c d u s ∧ s.2.2 1 8 = t ∧ s.2.1 23 9 = l
theorem q_iX6 (h : q_iX c d u t l s) : q_rgz 0 1 (s.2.1 23 6) := h.1.1
theorem q_iX7 (h : q_iX c d u t l s) : q_rgz 0 1 (s.2.1 23 7) := h.1.2
theorem q_iX_A {i : Nat} {f : Nat → Int32} (h : q_iX c d u t l s) (n : ¬ (i = 3 ∨ i = 4 ∨ i = 15 ∨ i = 16 ∨ i = 17 ∨ i = 20 ∨ i = 21 ∨ i = 22 ∨ i = 31)) : q_iX c d u t l (q_sA s i f) := by
  have k : ∀ j, ¬ i = j → (q_sA s i f).1 j = s.1 j := fun j hj => q_uA_ne _ _ (q_bqF hj)
  exact ⟨h.1, q_iP_eq (s := s) (k 3 (by omega)) (k 4 (by omega)) (k 15 (by omega)) (k 16 (by omega)) (k 17 (by omega)) (k 20 (by omega)) (k 21 (by omega)) (k 22 (by omega)) (k 31 (by omega)) rfl rfl rfl rfl rfl h.2.1, h.2.2⟩
theorem q_iX_4 {k : Nat} {v : Int32} (h : q_iX c d u t l s) (hk : ¬ q_Dn k) : q_iX c d u t l (q_sA s 4 (upd (s.1 4) k v)) := ⟨h.1, q_iP_4 v hk h.2.1, h.2.2⟩
theorem q_iX_J {i k : Nat} {x : Int64} (h : q_iX c d u t l s) (n : ¬ i = 1) : q_iX c d u t l (q_sJ s i k x) := by
  have e8 : (q_sJ s i k x).2.2 1 8 = s.2.2 1 8 := congrFun (q_uI_ne _ _ (q_bqF n)) 8
  exact ⟨h.1, q_iP_eq (s := s) rfl rfl rfl rfl rfl rfl rfl rfl rfl rfl rfl rfl rfl e8 h.2.1, e8.trans h.2.2.1, h.2.2.2⟩
theorem q_iX_L {i : Nat} {f : Nat → Int64} (h : q_iX c d u t l s) (n : ¬ i = 1) : q_iX c d u t l (q_sL s i f) := by
  have e8 : (q_sL s i f).2.2 1 8 = s.2.2 1 8 := congrFun (q_uA_ne _ _ (q_bqF n)) 8
  exact ⟨h.1, q_iP_eq (s := s) rfl rfl rfl rfl rfl rfl rfl rfl rfl rfl rfl rfl rfl e8 h.2.1, e8.trans h.2.2.1, h.2.2.2⟩
theorem q_iX_I {i m : Nat} {x : Int32} (h : q_iX c d u t l s) (n : ¬ (i = 13 ∨ i = 18)) (n2 : ¬ (i = 23 ∧ (m = 6 ∨ m = 7))) (n3 : ¬ (i = 23 ∧ 9 = m)) : q_iX c d u t l (q_sI s i m x) := by
  have k : ∀ j l, ¬ i = j → (q_sI s i m x).2.1 j l = s.2.1 j l := fun j l hj => congrFun (q_uI_ne _ _ (q_bqF hj)) l
  exact ⟨q_iN_I h.1 n2, q_iP_eq (s := s) rfl rfl rfl rfl rfl rfl rfl rfl rfl (k 13 2 (by omega)) (k 13 3 (by omega)) (k 18 2 (by omega)) (k 18 3 (by omega)) rfl h.2.1, h.2.2.1, Eq.trans (q_uI_n2 (fun z => n3 ⟨z.1, z.2.symm⟩)) h.2.2.2⟩
theorem q_iX_F6 {x : Int32} (h : q_iX c d u t l s) (r : q_rgz 0 1 x) : q_iX c d u t l (q_sI s 23 6 x) := ⟨q_iN_F6 h.1 r, q_iP_eq (s := s) rfl rfl rfl rfl rfl rfl rfl rfl rfl rfl rfl rfl rfl rfl h.2.1, h.2.2⟩
theorem q_iX_F7 {x : Int32} (h : q_iX c d u t l s) (r : q_rgz 0 1 x) : q_iX c d u t l (q_sI s 23 7 x) := ⟨q_iN_F7 h.1 r, q_iP_eq (s := s) rfl rfl rfl rfl rfl rfl rfl rfl rfl rfl rfl rfl rfl rfl h.2.1, h.2.2⟩
end
section
variable {c d u : Int} {t : Int64} {l : Int32}
theorem dzq_N91_65  (s : q_S) (hI : q_iX c d u t l s) (a1 : Int32) (a2 : Int32) : (fun _ => True) (dz_N91_65 s a1 a2) := trivial
set_option maxHeartbeats 4000000 in
theorem dzq_N90_65_73  (s : q_S) (hI : q_iX c d u t l s) (v1 : Int32) (v3 : Int32) : q_Ex (dz_N90_65_73 s v1 v3) (fun _ => True) := by
  unfold dz_N90_65_73
  cases h83 : decide (v3 &&& 2 = 2) with
  | true =>
    have g84 := q_rg_eqT h83 (q_rg_lit (n := 2) (x := 2) rfl)
    refine q_E_T ?_
    cases h85 : decide (v1 < 2048) with
    | true =>
      have g86 := (q_rg_ltT1 (l := -2147483648) (U := 2047) h85 (q_rg_full _) (q_rg_lit (n := 2048) (x := 2048) rfl) (by decide))
      refine q_E_T ?_
      exact q_E_x trivial
    | false =>
      have g87 := (q_rg_ltF1 (l2 := 2048) (u := 2147483647) h85 (q_rg_full _) (q_rg_lit (n := 2048) (x := 2048) rfl))
      refine q_E_F ?_
      cases h88 : decide (v1 < 2560) with
      | true =>
        have g89 := (q_rg_ltT1 (l := 2048) (U := 2559) h88 g87 (q_rg_lit (n := 2560) (x := 2560) rfl) (by decide))
        refine q_E_T ?_
        refine q_E_A (q_in_rg (q_rg_sub (L := 0) (U := 2047) (q_rg_add (L := 2048) (U := 4095) (q_rg_mul (L := 0) (U := 1536) (q_rg_lit (n := 512) (x := 512) rfl) (q_rg_and (v3 >>> ((2 &&& 31) : Int32)) 3 (U := 3) (by decide) rfl) (by decide) (by decide) (by decide) (by decide) (by decide) (by decide)) g89 (by decide) (by decide) (by decide) (by decide)) (q_rg_lit (n := 2048) (x := 2048) rfl) (by decide) (by decide) (by decide) (by decide)) (by decide) (by decide)) ?_
        exact q_E_x trivial
      | false =>
        have g90 := (q_rg_ltF1 (l2 := 2560) (u := 2147483647) h88 g87 (q_rg_lit (n := 2560) (x := 2560) rfl))
        refine q_E_F ?_
        exact q_E_x trivial
  | false =>
    have g91 := (q_rg_neU (l := 0) (u := 2) (n := 2) (U := 1) h83 (q_rg_and v3 2 (U := 2) (by decide) rfl) rfl (by decide) (by decide))
    refine q_E_F ?_
    exact q_E_x trivial
set_option maxHeartbeats 4000000 in
theorem dzq_N90_65_31  (s : q_S) (hI : q_iX c d u t l s) (v1 : Int32) : q_Ex (dz_N90_65_31 s v1) (fun _ => True) := by
  unfold dz_N90_65_31
  cases h92 : decide (((s.1 4) 0) &&& 1 = 1) with
  | true =>
    have g93 := q_rg_eqT h92 (q_rg_lit (n := 1) (x := 1) rfl)
    refine q_E_T ?_
    cases h94 : decide (v1 < 3072) with
    | true =>
      have g95 := (q_rg_ltT1 (l := -2147483648) (U := 3071) h94 (q_rg_full _) (q_rg_lit (n := 3072) (x := 3072) rfl) (by decide))
      refine q_E_T ?_
      exact dzq_N90_65_73 (s) hI (v1) ((s.1 4) 0)
    | false =>
      have g96 := (q_rg_ltF1 (l2 := 3072) (u := 2147483647) h94 (q_rg_full _) (q_rg_lit (n := 3072) (x := 3072) rfl))
      refine q_E_F ?_
      cases h97 : decide (v1 < 3584) with
      | true =>
        have g98 := (q_rg_ltT1 (l := 3072) (U := 3583) h97 g96 (q_rg_lit (n := 3584) (x := 3584) rfl) (by decide))
        refine q_E_T ?_
        exact q_E_x trivial
      | false =>
        have g99 := (q_rg_ltF1 (l2 := 3584) (u := 2147483647) h97 g96 (q_rg_lit (n := 3584) (x := 3584) rfl))
        refine q_E_F ?_
        exact dzq_N90_65_73 (s) hI (v1) ((s.1 4) 0)
  | false =>
    have g100 := (q_rg_neU (l := 0) (u := 1) (n := 1) (U := 0) h92 (q_rg_and ((s.1 4) 0) 1 (U := 1) (by decide) rfl) rfl (by decide) (by decide))
    refine q_E_F ?_
    exact dzq_N90_65_73 (s) hI (v1) ((s.1 4) 0)
set_option maxHeartbeats 4000000 in
theorem dzq_N90_65  (s : q_S) (hI : q_iX c d u t l s) (a1 : Int32) : q_Ex (dz_N90_65 s a1) (fun _ => True) := by
  unfold dz_N90_65
  cases h101 : decide (a1 - 3840 < 0) with
  | true =>
    have g102 := (q_rg_ltT1 (l := -2147483648) (U := -1) h101 (q_rg_full _) (q_rg_lit (n := 0) (x := 0) rfl) (by decide))
    refine q_E_T ?_
    exact dzq_N90_65_31 (s) hI (a1)
  | false =>
    have g103 := (q_rg_ltF1 (l2 := 0) (u := 2147483647) h101 (q_rg_full _) (q_rg_lit (n := 0) (x := 0) rfl))
    refine q_E_F ?_
    cases h104 : decide (a1 - 3840 < 48) with
    | true =>
      have g105 := (q_rg_ltT1 (l := 0) (U := 47) h104 g103 (q_rg_lit (n := 48) (x := 48) rfl) (by decide))
      refine q_E_T ?_
      have j106 := dzq_N91_65 (s) hI (a1 - 3840) ((s.1 4) ((a1 - 3840).toNatClampNeg))
      refine q_E_L ?_
      generalize dz_N91_65 s (a1 - 3840) ((s.1 4) ((a1 - 3840).toNatClampNeg)) = r1 at j106 ⊢
      exact q_E_x trivial
    | false =>
      have g107 := (q_rg_ltF1 (l2 := 48) (u := 2147483647) h104 g103 (q_rg_lit (n := 48) (x := 48) rfl))
      refine q_E_F ?_
      exact dzq_N90_65_31 (s) hI (a1)
set_option maxHeartbeats 4000000 in
theorem dzqb_N95_65_2  (k2 : q_S → Int32 → Int32 → Option (q_S)) (M2 : Int) (tk2 : ∀ (s : q_S), q_iX c d u t l s → ∀ (v1 : Int32) (v2 : Int32), q_rgz 0 2 v2 → ((2 - v2.toInt).toNat : Int) ≤ M2 → q_Ex (k2 s v1 v2) (q_iX c d u t l)) (s : q_S) (hI : q_iX c d u t l s) (v1 : Int32) (v2 : Int32) (rv2 : q_rgz 0 2 v2) (m2 : ((2 - v2.toInt).toNat : Int) ≤ M2 + 1) : q_Ex (cond (decide (v2 < 2)) (cond (decide ((v1 >>> (v2 &&& 31)) &&& 1 = 1)) (cond (q_in ((12 : Int32) + (2 * v2)) 48) (cond (q_in (((12 : Int32) + (2 * v2)) + 1) 48) (cond (q_in v2 2) (k2 (q_sA s 7 (upd (s.1 7) (v2.toNatClampNeg) (((s.1 4) (((12 : Int32) + (2 * v2)).toNatClampNeg)) + (256 * ((s.1 4) ((((12 : Int32) + (2 * v2)) + 1).toNatClampNeg)))))) v1 (v2 + 1)) none) none) none) (k2 s v1 (v2 + 1))) (some s)) (q_iX c d u t l) := by
  cases h122 : decide (v2 < 2) with
  | true =>
    have g123 := (q_rg_ltT1 (l := 0) (U := 1) h122 rv2 (q_rg_lit (n := 2) (x := 2) rfl) (by decide))
    refine q_E_T ?_
    cases h124 : decide ((v1 >>> (v2 &&& 31)) &&& 1 = 1) with
    | true =>
      have g125 := q_rg_eqT h124 (q_rg_lit (n := 1) (x := 1) rfl)
      refine q_E_T ?_
      refine q_E_A (q_in_rg (q_rg_add (L := 12) (U := 14) (q_rg_lit (n := 12) (x := 12) rfl) (q_rg_mul (L := 0) (U := 2) (q_rg_lit (n := 2) (x := 2) rfl) g123 (by decide) (by decide) (by decide) (by decide) (by decide) (by decide)) (by decide) (by decide) (by decide) (by decide)) (by decide) (by decide)) ?_
      refine q_E_A (q_in_rg (q_rg_add (L := 13) (U := 15) (q_rg_add (L := 12) (U := 14) (q_rg_lit (n := 12) (x := 12) rfl) (q_rg_mul (L := 0) (U := 2) (q_rg_lit (n := 2) (x := 2) rfl) g123 (by decide) (by decide) (by decide) (by decide) (by decide) (by decide)) (by decide) (by decide) (by decide) (by decide)) (q_rg_lit (n := 1) (x := 1) rfl) (by decide) (by decide) (by decide) (by decide)) (by decide) (by decide)) ?_
      refine q_E_A (q_in_rg g123 (by decide) (by decide)) ?_
      exact tk2 (q_sA s 7 (upd (s.1 7) (v2.toNatClampNeg) (((s.1 4) (((12 : Int32) + (2 * v2)).toNatClampNeg)) + (256 * ((s.1 4) ((((12 : Int32) + (2 * v2)) + 1).toNatClampNeg)))))) (q_iX_A (i := 7) hI (by decide)) (v1) (v2 + 1) (q_rg_le (L := 0) (U := 2) (q_rg_add (L := 1) (U := 2) g123 (q_rg_lit (n := 1) (x := 1) rfl) (by decide) (by decide) (by decide) (by decide)) (by decide) (by decide)) (q_meu g123 m2 (by decide) (by decide))
    | false =>
      have g126 := (q_rg_neU (l := 0) (u := 1) (n := 1) (U := 0) h124 (q_rg_and (v1 >>> (v2 &&& 31)) 1 (U := 1) (by decide) rfl) rfl (by decide) (by decide))
      refine q_E_F ?_
      exact tk2 (s) hI (v1) (v2 + 1) (q_rg_le (L := 0) (U := 2) (q_rg_add (L := 1) (U := 2) g123 (q_rg_lit (n := 1) (x := 1) rfl) (by decide) (by decide) (by decide) (by decide)) (by decide) (by decide)) (q_meu g123 m2 (by decide) (by decide))
  | false =>
    have g127 := (q_rg_ltF1 (l2 := 2) (u := 2) h122 rv2 (q_rg_lit (n := 2) (x := 2) rfl))
    refine q_E_F ?_
    exact q_E_x hI
theorem dzq_N95_65_2  : ∀ (m : Nat) (s : q_S) (hI : q_iX c d u t l s) (v1 : Int32) (v2 : Int32) (rv2 : q_rgz 0 2 v2), ((2 - v2.toInt).toNat : Int) ≤ (m : Int) → q_Ex (dz_N95_65_2 (m + 1) s v1 v2) (q_iX c d u t l) := by
  intro m
  induction m with
  | zero => intro s hI v1 v2 rv2 hm; rw [dzs_N95_65_2]; exact dzqb_N95_65_2 (dz_N95_65_2 0) (-1) (fun s hI v1 v2 rv2 hm => absurd hm (by omega)) s hI v1 v2 rv2 (by omega)
  | succ m ih => intro s hI v1 v2 rv2 hm; rw [dzs_N95_65_2]; exact dzqb_N95_65_2 (dz_N95_65_2 (m + 1)) (m : Int) (fun s hI v1 v2 rv2 hm => ih s hI v1 v2 rv2 hm) s hI v1 v2 rv2 (by omega)
set_option maxHeartbeats 4000000 in
theorem dzq_N95_65  (s : q_S) (hI : q_iX c d u t l s) (a1 : Int32) : q_Ex (dz_N95_65 s a1) (q_iX c d u t l) := by
  unfold dz_N95_65
  exact dzq_N95_65_2 4999 (s) hI (a1) (0) (q_rg_le (L := 0) (U := 2) (q_rg_lit (n := 0) (x := 0) rfl) (by decide) (by decide)) (q_meu0 (q_rg_lit (n := 0) (x := 0) rfl) (by decide) (by decide))
set_option maxHeartbeats 4000000 in
theorem dzq_N98_65  (s : q_S) (hI : q_iX c d u t l s) (a1 : Int32) (a2 : Int32) : (fun (x : q_S × Int32) => q_iX c d u t l x.1) (dz_N98_65 s a1 a2) := by
  refine q_S_of (P := (fun (x : q_S × Int32) => q_iX c d u t l x.1)) ?_
  unfold dz_N98_65
  exact q_E_x (q_iX_A (i := 5) hI (by decide))
set_option maxHeartbeats 4000000 in
theorem dzq_N99_65  (s : q_S) (hI : q_iX c d u t l s) (a1 : Int32) (a2 : Int32) : (fun (x : q_S × Int32) => q_iX c d u t l x.1) (dz_N99_65 s a1 a2) := by
  refine q_S_of (P := (fun (x : q_S × Int32) => q_iX c d u t l x.1)) ?_
  unfold dz_N99_65
  exact q_E_x (q_iX_A (i := 6) hI (by decide))
theorem dzq_N186  (s : q_S) (hI : q_iX c d u t l s) (a0 : Int32) : (fun _ => True) (dz_N186 s a0) := trivial
theorem dzq_N190  (s : q_S) (hI : q_iX c d u t l s) (a0 : Int32) : (fun _ => True) (dz_N190 s a0) := trivial
theorem dzq_N133_87  (s : q_S) (hI : q_iX c d u t l s) (a1 : Int32) : (fun _ => True) (dz_N133_87 s a1) := trivial
set_option maxHeartbeats 4000000 in
theorem dzq_N134_87  (s : q_S) (hI : q_iX c d u t l s) (a1 : Int32) (a2 : Int32) : (fun (x : q_S × Int32) => q_iX c d u t l x.1) (dz_N134_87 s a1 a2) := by
  refine q_S_of (P := (fun (x : q_S × Int32) => q_iX c d u t l x.1)) ?_
  unfold dz_N134_87
  have j230 := dzq_N133_87 (s) hI (a1)
  refine q_S_L ?_
  generalize dz_N133_87 s a1 = r1 at j230 ⊢
  cases h231 : decide (a1 < 0) with
  | true =>
    have g232 := (q_rg_ltT1 (l := -2147483648) (U := -1) h231 (q_rg_full _) (q_rg_lit (n := 0) (x := 0) rfl) (by decide))
    refine q_S_T ?_
    exact q_E_x (q_iX_I (i := 23) (m := 4) hI (by decide) (by decide) (by decide))
  | false =>
    have g233 := (q_rg_ltF1 (l2 := 0) (u := 2147483647) h231 (q_rg_full _) (q_rg_lit (n := 0) (x := 0) rfl))
    refine q_S_F ?_
    cases h234 : decide (3 < a1) with
    | true =>
      have g235 := (q_rg_ltT2 (L := 4) (u2 := 2147483647) h234 (q_rg_lit (n := 3) (x := 3) rfl) g233 (by decide))
      refine q_S_T ?_
      exact q_E_x (q_iX_I (i := 23) (m := 4) hI (by decide) (by decide) (by decide))
    | false =>
      have g236 := (q_rg_ltF2 (l2 := 0) (u := 3) h234 (q_rg_lit (n := 3) (x := 3) rfl) g233)
      refine q_S_F ?_
      cases h237 : decide (a1 = 0) with
      | true =>
        have g238 := q_rg_eqT h237 (q_rg_lit (n := 0) (x := 0) rfl)
        refine q_S_T ?_
        exact q_E_x (q_iX_I (i := 23) (m := 0) hI (by decide) (by decide) (by decide))
      | false =>
        have g239 := (q_rg_neL (l := 0) (u := 3) (n := 0) (L := 1) h237 g236 rfl (by decide) (by decide))
        refine q_S_F ?_
        cases h240 : decide (a1 = 1) with
        | true =>
          have g241 := q_rg_eqT h240 (q_rg_lit (n := 1) (x := 1) rfl)
          refine q_S_T ?_
          exact q_E_x (q_iX_I (i := 23) (m := 1) hI (by decide) (by decide) (by decide))
        | false =>
          have g242 := (q_rg_neL (l := 1) (u := 3) (n := 1) (L := 2) h240 g239 rfl (by decide) (by decide))
          refine q_S_F ?_
          cases h243 : decide (a1 = 2) with
          | true =>
            have g244 := q_rg_eqT h243 (q_rg_lit (n := 2) (x := 2) rfl)
            refine q_S_T ?_
            exact q_E_x (q_iX_I (i := 23) (m := 2) hI (by decide) (by decide) (by decide))
          | false =>
            have g245 := (q_rg_neL (l := 2) (u := 3) (n := 2) (L := 3) h243 g242 rfl (by decide) (by decide))
            refine q_S_F ?_
            exact q_E_x (q_iX_I (i := 23) (m := 3) hI (by decide) (by decide) (by decide))
set_option maxHeartbeats 4000000 in
theorem dzq_N92_65  (s : q_S) (hI : q_iX c d u t l s) (a1 : Int32) : q_Ex (dz_N92_65 s a1) (fun _ => True) := by
  unfold dz_N92_65
  obtain ⟨r2, e251, j250⟩ := dzq_N90_65 (s) hI (a1 &&& 4095)
  rw [e251]
  refine q_E_B ?_
  obtain ⟨r3, e253, j252⟩ := dzq_N90_65 (s) hI ((a1 + 1) &&& 4095)
  rw [e253]
  refine q_E_B ?_
  exact q_E_x trivial
theorem dzq_N87_65  (s : q_S) (hI : q_iX c d u t l s) : (fun _ => True) (dz_N87_65 s) := trivial
theorem dzq_N86_65  (s : q_S) (hI : q_iX c d u t l s) : (fun _ => True) (dz_N86_65 s) := trivial
set_option maxHeartbeats 4000000 in
theorem dzq_N101_65  (s : q_S) (hI : q_iX c d u t l s) : (q_iX c d u t l) (dz_N101_65 s) := by
  refine q_S_of (P := (q_iX c d u t l)) ?_
  unfold dz_N101_65
  have j259 := dzq_N87_65 (s) hI
  refine q_S_L ?_
  generalize dz_N87_65 s = r1 at j259 ⊢
  cases h260 : decide (r1 = 0) with
  | true =>
    have g261 := q_rg_eqT h260 (q_rg_lit (n := 0) (x := 0) rfl)
    refine q_S_T ?_
    have j262 := dzq_N86_65 (s) hI
    refine q_S_L ?_
    generalize dz_N86_65 s = r2 at j262 ⊢
    cases h263 : decide (r2 / 24 = (s.1 4) 9) with
    | true =>
      refine q_S_T ?_
      exact q_E_x (q_iX_4 hI q_D10)
    | false =>
      refine q_S_F ?_
      exact q_E_x hI
  | false =>
    refine q_S_F ?_
    exact q_E_x hI
theorem dzq_N323  (s : q_S) (hI : q_iX c d u t l s) (a0 : Int32) : (fun _ => True) (dz_N323 s a0) := trivial
set_option maxHeartbeats 4000000 in
theorem dzq_N105_65  (s : q_S) (hI : q_iX c d u t l s) (a1 : Int32) : q_Ex (dz_N105_65 s a1) (fun (x : q_S × Bool) => q_iX c d u t l x.1) := by
  unfold dz_N105_65
  cases h279 : decide (0 < (s.1 7) ((a1 &&& 1).toNatClampNeg)) with
  | true =>
    have g280 := (q_rg_ltT2 (L := 1) (u2 := 2147483647) h279 (q_rg_lit (n := 0) (x := 0) rfl) (q_rg_full _) (by decide))
    refine q_E_T ?_
    exact q_E_x (q_iX_A (i := 7) hI (by decide))
  | false =>
    have g281 := (q_rg_ltF2 (l2 := -2147483648) (u := 0) h279 (q_rg_lit (n := 0) (x := 0) rfl) (q_rg_full _))
    refine q_E_F ?_
    obtain ⟨r2, e283, j282⟩ := dzq_N95_65 (s) hI ((1 : Int32) <<< ((a1 &&& 1) &&& 31))
    rw [e283]
    refine q_E_B ?_
    exact q_E_x (q_iX_4 j282 q_D10)
set_option maxHeartbeats 4000000 in
theorem dzq_N104_65_26  (s : q_S) (hI : q_iX c d u t l s) (v1 : Int32) (v2 : Int32) (rv2 : q_rgz 0 1 v2) : q_Ex (dz_N104_65_26 s v1 v2) (q_iX c d u t l) := by
  unfold dz_N104_65_26
  cases h311 : decide (v1 &&& 2 = 2) with
  | true =>
    have g312 := q_rg_eqT h311 (q_rg_lit (n := 2) (x := 2) rfl)
    refine q_E_T ?_
    cases h313 : decide (v1 &&& 4 = 0) with
    | true =>
      have g314 := q_rg_eqT h313 (q_rg_lit (n := 0) (x := 0) rfl)
      refine q_E_T ?_
      obtain ⟨r3, e316, j315⟩ := dzq_N105_65 (s) hI (1)
      rw [e316]
      refine q_E_B ?_
      cases h317 : r3.2 with
      | true =>
        refine q_E_T ?_
        exact q_E_x j315
      | false =>
        refine q_E_F ?_
        exact q_E_x j315
    | false =>
      have g318 := (q_rg_neL (l := 0) (u := 4) (n := 0) (L := 1) h313 (q_rg_and v1 4 (U := 4) (by decide) rfl) rfl (by decide) (by decide))
      refine q_E_F ?_
      cases h319 : decide (v2 = 0) with
      | true =>
        have g320 := q_rg_eqT h319 (q_rg_lit (n := 0) (x := 0) rfl)
        refine q_E_T ?_
        exact q_E_x hI
      | false =>
        have g321 := (q_rg_neL (l := 0) (u := 1) (n := 0) (L := 1) h319 rv2 rfl (by decide) (by decide))
        refine q_E_F ?_
        obtain ⟨r4, e323, j322⟩ := dzq_N105_65 (s) hI (1)
        rw [e323]
        refine q_E_B ?_
        cases h324 : r4.2 with
        | true =>
          refine q_E_T ?_
          exact q_E_x j322
        | false =>
          refine q_E_F ?_
          exact q_E_x j322
  | false =>
    have g325 := (q_rg_neU (l := 0) (u := 2) (n := 2) (U := 1) h311 (q_rg_and v1 2 (U := 2) (by decide) rfl) rfl (by decide) (by decide))
    refine q_E_F ?_
    exact q_E_x hI
set_option maxHeartbeats 4000000 in
theorem dzq_N104_65  (s : q_S) (hI : q_iX c d u t l s) : q_Ex (dz_N104_65 s) (q_iX c d u t l) := by
  unfold dz_N104_65
  cases h326 : decide (((s.1 4) 16) &&& 1 = 1) with
  | true =>
    have g327 := q_rg_eqT h326 (q_rg_lit (n := 1) (x := 1) rfl)
    refine q_E_T ?_
    obtain ⟨r2, e329, j328⟩ := dzq_N105_65 (s) hI (0)
    rw [e329]
    refine q_E_B ?_
    cases h330 : r2.2 with
    | true =>
      refine q_E_T ?_
      exact dzq_N104_65_26 (r2.1) j328 ((s.1 4) 16) (1) (q_rg_le (L := 0) (U := 1) (q_rg_lit (n := 1) (x := 1) rfl) (by decide) (by decide))
    | false =>
      refine q_E_F ?_
      exact dzq_N104_65_26 (r2.1) j328 ((s.1 4) 16) (0) (q_rg_le (L := 0) (U := 1) (q_rg_lit (n := 0) (x := 0) rfl) (by decide) (by decide))
  | false =>
    have g331 := (q_rg_neU (l := 0) (u := 1) (n := 1) (U := 0) h326 (q_rg_and ((s.1 4) 16) 1 (U := 1) (by decide) rfl) rfl (by decide) (by decide))
    refine q_E_F ?_
    exact dzq_N104_65_26 (s) hI ((s.1 4) 16) (0) (q_rg_le (L := 0) (U := 1) (q_rg_lit (n := 0) (x := 0) rfl) (by decide) (by decide))
set_option maxHeartbeats 4000000 in
theorem dzq_N177_72  (s : q_S) (hI : q_iX c d u t l s) : (fun (x : q_S × Bool) => q_iX c d u t l x.1) (dz_N177_72 s) := by
  refine q_S_of (P := (fun (x : q_S × Bool) => q_iX c d u t l x.1)) ?_
  unfold dz_N177_72
  cases h344 : decide (s.2.1 8 2 < 0) with
  | true =>
    have g345 := (q_rg_ltT1 (l := -2147483648) (U := -1) h344 (q_rg_full _) (q_rg_lit (n := 0) (x := 0) rfl) (by decide))
    refine q_S_T ?_
    exact q_E_x hI
  | false =>
    have g346 := (q_rg_ltF1 (l2 := 0) (u := 2147483647) h344 (q_rg_full _) (q_rg_lit (n := 0) (x := 0) rfl))
    refine q_S_F ?_
    cases h347 : decide (s.2.1 8 2 < s.2.1 8 1) with
    | true =>
      have g348 := (q_rg_ltT1 (l := 0) (U := 2147483646) h347 g346 (q_rg_full _) (by decide))
      have g349 := (q_rg_ltT2 (L := 1) (u2 := 2147483647) h347 g346 (q_rg_full _) (by decide))
      refine q_S_T ?_
      cases h350 : decide (s.2.1 8 2 < 40) with
      | true =>
        have g351 := (q_rg_ltT1 (l := 0) (U := 39) h350 g348 (q_rg_lit (n := 40) (x := 40) rfl) (by decide))
        refine q_S_T ?_
        cases h352 : decide ((s.2.1 8 3) + 1 < (s.1 9) ((s.2.1 8 2).toNatClampNeg)) with
        | true =>
          have g353 := (q_rg_ltT1 (l := -2147483648) (U := 2147483646) h352 (q_rg_full _) (q_rg_full _) (by decide))
          have g354 := (q_rg_ltT2 (L := -2147483647) (u2 := 2147483647) h352 (q_rg_full _) (q_rg_full _) (by decide))
          refine q_S_T ?_
          exact q_E_x (q_iX_I (i := 8) (m := 3) hI (by decide) (by decide) (by decide))
        | false =>
          refine q_S_F ?_
          exact q_E_x (q_iX_I (i := 8) (m := 4) (q_iX_I (i := 8) (m := 2) (q_iX_I (i := 8) (m := 3) hI (by decide) (by decide) (by decide)) (by decide) (by decide) (by decide)) (by decide) (by decide) (by decide))
      | false =>
        have g355 := (q_rg_ltF1 (l2 := 40) (u := 2147483646) h350 g348 (q_rg_lit (n := 40) (x := 40) rfl))
        refine q_S_F ?_
        exact q_E_x hI
    | false =>
      refine q_S_F ?_
      exact q_E_x hI
set_option maxHeartbeats 4000000 in
theorem dzq_N106_65  (s : q_S) (hI : q_iX c d u t l s) : (q_iX c d u t l) (dz_N106_65 s) := by
  refine q_S_of (P := (q_iX c d u t l)) ?_
  unfold dz_N106_65
  cases h360 : decide ((s.1 4) 44 = 1) with
  | true =>
    have g361 := q_rg_eqT h360 (q_rg_lit (n := 1) (x := 1) rfl)
    refine q_S_T ?_
    have j362 := dzq_N177_72 (s) hI
    refine q_S_L ?_
    generalize dz_N177_72 s = r1 at j362 ⊢
    cases h363 : r1.2 with
    | true =>
      refine q_S_T ?_
      exact q_E_x (q_iX_4 j362 q_D10)
    | false =>
      refine q_S_F ?_
      exact q_E_x j362
  | false =>
    refine q_S_F ?_
    exact q_E_x hI
set_option maxHeartbeats 4000000 in
theorem dzq_N169_89_59  (s : q_S) (hI : q_iX c d u t l s) (v1 : Int32) (v4 : Int32) (rv1 : q_rgz 0 2 v1) : q_Ex (dz_N169_89_59 s v1 v4) (q_iX c d u t l) := by
  unfold dz_N169_89_59
  refine q_E_A (q_in_rg rv1 (by decide) (by decide)) ?_
  exact q_E_x (q_iX_A (i := 29) hI (by decide))
set_option maxHeartbeats 4000000 in
theorem dzq_N169_89  (s : q_S) (hI : q_iX c d u t l s) (a1 : Int32) (a2 : Int32) : q_Ex (dz_N169_89 s a1 a2) (q_iX c d u t l) := by
  unfold dz_N169_89
  cases h390 : decide (a1 < 0) with
  | true =>
    have g391 := (q_rg_ltT1 (l := -2147483648) (U := -1) h390 (q_rg_full _) (q_rg_lit (n := 0) (x := 0) rfl) (by decide))
    refine q_E_T ?_
    exact q_E_x hI
  | false =>
    have g392 := (q_rg_ltF1 (l2 := 0) (u := 2147483647) h390 (q_rg_full _) (q_rg_lit (n := 0) (x := 0) rfl))
    refine q_E_F ?_
    cases h393 : decide (a1 < 3) with
    | true =>
      have g394 := (q_rg_ltT1 (l := 0) (U := 2) h393 g392 (q_rg_lit (n := 3) (x := 3) rfl) (by decide))
      refine q_E_T ?_
      cases h395 : decide (65535 < ((s.1 26) (a1.toNatClampNeg)) + a2) with
      | true =>
        have g396 := (q_rg_ltT2 (L := 65536) (u2 := 2147483647) h395 (q_rg_lit (n := 65535) (x := 65535) rfl) (q_rg_full _) (by decide))
        refine q_E_T ?_
        cases h397 : decide (((s.1 29) (a1.toNatClampNeg)) &&& 3 = 1) with
        | true =>
          have g398 := q_rg_eqT h397 (q_rg_lit (n := 1) (x := 1) rfl)
          refine q_E_T ?_
          exact dzq_N169_89_59 (q_sA s 26 (upd (s.1 26) (a1.toNatClampNeg) ((((s.1 26) (a1.toNatClampNeg)) + a2) - (((s.1 26) (a1.toNatClampNeg)) + a2) / 65536 * 65536))) (q_iX_A (i := 26) hI (by decide)) (a1) ((s.1 29) (a1.toNatClampNeg)) (q_rg_le (L := 0) (U := 2) g394 (by decide) (by decide))
        | false =>
          refine q_E_F ?_
          cases h399 : decide (((s.1 29) (a1.toNatClampNeg)) &&& 3 = 2) with
          | true =>
            have g400 := q_rg_eqT h399 (q_rg_lit (n := 2) (x := 2) rfl)
            refine q_E_T ?_
            exact dzq_N169_89_59 (q_sA s 26 (upd (s.1 26) (a1.toNatClampNeg) ((((s.1 26) (a1.toNatClampNeg)) + a2) - (((s.1 26) (a1.toNatClampNeg)) + a2) / 65536 * 65536))) (q_iX_A (i := 26) hI (by decide)) (a1) ((s.1 29) (a1.toNatClampNeg)) (q_rg_le (L := 0) (U := 2) g394 (by decide) (by decide))
          | false =>
            refine q_E_F ?_
            exact q_E_x (q_iX_A (i := 29) (q_iX_A (i := 26) hI (by decide)) (by decide))
      | false =>
        have g401 := (q_rg_ltF2 (l2 := -2147483648) (u := 65535) h395 (q_rg_lit (n := 65535) (x := 65535) rfl) (q_rg_full _))
        refine q_E_F ?_
        exact q_E_x (q_iX_A (i := 26) hI (by decide))
    | false =>
      have g402 := (q_rg_ltF1 (l2 := 3) (u := 2147483647) h393 g392 (q_rg_lit (n := 3) (x := 3) rfl))
      refine q_E_F ?_
      exact q_E_x hI
set_option maxHeartbeats 4000000 in
theorem dzq_N170_89_t_80  (s : q_S) (hI : q_iX c d u t l s) (v1 : Int32) (v2 : Int32) (rv1 : q_rgz 0 2 v1) (rv2 : q_rgz 1 1 v2) : q_Ex (dz_N170_89_t_80 s v1 v2) (q_iX c d u t l) := by
  unfold dz_N170_89_t_80
  cases h428 : decide (v2 = 0) with
  | true =>
    exact (q_rg_no (q_rg_le (L := 1) (U := 0) ⟨rv2.1, (q_rg_eqT h428 (q_rg_lit (n := 0) (x := 0) rfl)).2⟩ (by decide) (by decide)) (by decide)).elim
  | false =>
    refine q_E_F ?_
    exact q_E_x hI
set_option maxHeartbeats 4000000 in
theorem dzq_N170_89_t  (s : q_S) (hI : q_iX c d u t l s) (a1 : Int32) (a3 : Int32) : q_Ex (dz_N170_89_t s a1 a3) (q_iX c d u t l) := by
  unfold dz_N170_89_t
  cases h429 : decide (a1 < 0) with
  | true =>
    have g430 := (q_rg_ltT1 (l := -2147483648) (U := -1) h429 (q_rg_full _) (q_rg_lit (n := 0) (x := 0) rfl) (by decide))
    refine q_E_T ?_
    exact q_E_x hI
  | false =>
    have g431 := (q_rg_ltF1 (l2 := 0) (u := 2147483647) h429 (q_rg_full _) (q_rg_lit (n := 0) (x := 0) rfl))
    refine q_E_F ?_
    cases h432 : decide (a1 < 3) with
    | true =>
      have g433 := (q_rg_ltT1 (l := 0) (U := 2) h432 g431 (q_rg_lit (n := 3) (x := 3) rfl) (by decide))
      refine q_E_T ?_
      cases h434 : decide (a3 - a3 / 16 * 16 < (upd (s.1 28) (a1.toNatClampNeg) (((s.1 28) (a1.toNatClampNeg)) + 1)) (a1.toNatClampNeg)) with
      | true =>
        have g435 := (q_rg_ltT1 (l := -2147483648) (U := 2147483646) h434 (q_rg_full _) (q_rg_full _) (by decide))
        have g436 := (q_rg_ltT2 (L := -2147483647) (u2 := 2147483647) h434 (q_rg_full _) (q_rg_full _) (by decide))
        refine q_E_T ?_
        cases h437 : decide ((s.1 27) (a1.toNatClampNeg) < 15) with
        | true =>
          have g438 := (q_rg_ltT1 (l := -2147483648) (U := 14) h437 (q_rg_full _) (q_rg_lit (n := 15) (x := 15) rfl) (by decide))
          refine q_E_T ?_
          exact q_E_x (q_iX_A (i := 27) (q_iX_A (i := 28) hI (by decide)) (by decide))
        | false =>
          have g439 := (q_rg_ltF1 (l2 := 15) (u := 2147483647) h437 (q_rg_full _) (q_rg_lit (n := 15) (x := 15) rfl))
          refine q_E_F ?_
          exact dzq_N170_89_t_80 (q_sA s 28 (upd (upd (s.1 28) (a1.toNatClampNeg) (((s.1 28) (a1.toNatClampNeg)) + 1)) (a1.toNatClampNeg) 0)) (q_iX_A (i := 28) hI (by decide)) (a1) (1) (q_rg_le (L := 0) (U := 2) g433 (by decide) (by decide)) (q_rg_le (L := 1) (U := 1) (q_rg_lit (n := 1) (x := 1) rfl) (by decide) (by decide))
      | false =>
        refine q_E_F ?_
        exact q_E_x (q_iX_A (i := 28) hI (by decide))
    | false =>
      have g440 := (q_rg_ltF1 (l2 := 3) (u := 2147483647) h432 g431 (q_rg_lit (n := 3) (x := 3) rfl))
      refine q_E_F ?_
      exact q_E_x hI
set_option maxHeartbeats 4000000 in
theorem dzq_N170_89_f_80  (s : q_S) (hI : q_iX c d u t l s) (v1 : Int32) (v2 : Int32) (rv1 : q_rgz 0 2 v1) (rv2 : q_rgz 0 0 v2) : q_Ex (dz_N170_89_f_80 s v1 v2) (q_iX c d u t l) := by
  unfold dz_N170_89_f_80
  cases h464 : decide (v2 = 0) with
  | true =>
    have g465 := q_rg_eqT h464 (q_rg_lit (n := 0) (x := 0) rfl)
    refine q_E_T ?_
    refine q_E_A (q_in_rg rv1 (by decide) (by decide)) ?_
    cases h466 : decide (0 < (s.1 27) (v1.toNatClampNeg)) with
    | true =>
      have g467 := (q_rg_ltT2 (L := 1) (u2 := 2147483647) h466 (q_rg_lit (n := 0) (x := 0) rfl) (q_rg_full _) (by decide))
      refine q_E_T ?_
      exact q_E_x (q_iX_A (i := 27) hI (by decide))
    | false =>
      have g468 := (q_rg_ltF2 (l2 := -2147483648) (u := 0) h466 (q_rg_lit (n := 0) (x := 0) rfl) (q_rg_full _))
      refine q_E_F ?_
      exact q_E_x hI
  | false =>
    exact (q_rg_no (q_rg_neL (l := 0) (u := 0) (n := 0) (L := 1) h464 rv2 rfl (by decide) (by decide)) (by decide)).elim
set_option maxHeartbeats 4000000 in
theorem dzq_N170_89_f  (s : q_S) (hI : q_iX c d u t l s) (a1 : Int32) (a3 : Int32) : q_Ex (dz_N170_89_f s a1 a3) (q_iX c d u t l) := by
  unfold dz_N170_89_f
  cases h469 : decide (a1 < 0) with
  | true =>
    have g470 := (q_rg_ltT1 (l := -2147483648) (U := -1) h469 (q_rg_full _) (q_rg_lit (n := 0) (x := 0) rfl) (by decide))
    refine q_E_T ?_
    exact q_E_x hI
  | false =>
    have g471 := (q_rg_ltF1 (l2 := 0) (u := 2147483647) h469 (q_rg_full _) (q_rg_lit (n := 0) (x := 0) rfl))
    refine q_E_F ?_
    cases h472 : decide (a1 < 3) with
    | true =>
      have g473 := (q_rg_ltT1 (l := 0) (U := 2) h472 g471 (q_rg_lit (n := 3) (x := 3) rfl) (by decide))
      refine q_E_T ?_
      cases h474 : decide (a3 / 16 < (upd (s.1 28) (a1.toNatClampNeg) (((s.1 28) (a1.toNatClampNeg)) + 1)) (a1.toNatClampNeg)) with
      | true =>
        have g475 := (q_rg_ltT1 (l := -2147483648) (U := 2147483646) h474 (q_rg_full _) (q_rg_full _) (by decide))
        have g476 := (q_rg_ltT2 (L := -2147483647) (u2 := 2147483647) h474 (q_rg_full _) (q_rg_full _) (by decide))
        refine q_E_T ?_
        exact dzq_N170_89_f_80 (q_sA s 28 (upd (upd (s.1 28) (a1.toNatClampNeg) (((s.1 28) (a1.toNatClampNeg)) + 1)) (a1.toNatClampNeg) 0)) (q_iX_A (i := 28) hI (by decide)) (a1) (0) (q_rg_le (L := 0) (U := 2) g473 (by decide) (by decide)) (q_rg_le (L := 0) (U := 0) (q_rg_lit (n := 0) (x := 0) rfl) (by decide) (by decide))
      | false =>
        refine q_E_F ?_
        exact q_E_x (q_iX_A (i := 28) hI (by decide))
    | false =>
      have g477 := (q_rg_ltF1 (l2 := 3) (u := 2147483647) h472 g471 (q_rg_lit (n := 3) (x := 3) rfl))
      refine q_E_F ?_
      exact q_E_x hI
theorem dzq_N172  (s : q_S) (hI : q_iX c d u t l s) (a0 : Int32) (a1 : Int32) (a2 : Int32) : (fun _ => True) (dz_N172 s a0 a1 a2) := trivial
set_option maxHeartbeats 4000000 in
theorem dzq_N171_89  (s : q_S) (hI : q_iX c d u t l s) (a1 : Int32) (a2 : Int32) : q_Ex (dz_N171_89 s a1 a2) (fun _ => True) := by
  unfold dz_N171_89
  cases h530 : decide (a1 < 0) with
  | true =>
    have g531 := (q_rg_ltT1 (l := -2147483648) (U := -1) h530 (q_rg_full _) (q_rg_lit (n := 0) (x := 0) rfl) (by decide))
    refine q_E_T ?_
    exact q_E_x trivial
  | false =>
    have g532 := (q_rg_ltF1 (l2 := 0) (u := 2147483647) h530 (q_rg_full _) (q_rg_lit (n := 0) (x := 0) rfl))
    refine q_E_F ?_
    cases h533 : decide (a1 < 3) with
    | true =>
      have g534 := (q_rg_ltT1 (l := 0) (U := 2) h533 g532 (q_rg_lit (n := 3) (x := 3) rfl) (by decide))
      refine q_E_T ?_
      have j535 := dzq_N172 (s) hI ((a2 >>> ((1 &&& 31) : Int32)) &&& 3) ((s.1 26) (a1.toNatClampNeg)) ((s.1 29) (a1.toNatClampNeg))
      refine q_E_L ?_
      generalize dz_N172 s ((a2 >>> ((1 &&& 31) : Int32)) &&& 3) ((s.1 26) (a1.toNatClampNeg)) ((s.1 29) (a1.toNatClampNeg)) = r2 at j535 ⊢
      cases h536 : decide (a1 = 0) with
      | true =>
        have g537 := q_rg_eqT h536 (q_rg_lit (n := 0) (x := 0) rfl)
        refine q_E_T ?_
        cases h538 : decide (a2 &&& 8 = 8) with
        | true =>
          have g539 := q_rg_eqT h538 (q_rg_lit (n := 8) (x := 8) rfl)
          refine q_E_T ?_
          cases h540 : decide ((s.1 26) 2 < 32768) with
          | true =>
            have g541 := (q_rg_ltT1 (l := -2147483648) (U := 32767) h540 (q_rg_full _) (q_rg_lit (n := 32768) (x := 32768) rfl) (by decide))
            refine q_E_T ?_
            exact q_E_x trivial
          | false =>
            have g542 := (q_rg_ltF1 (l2 := 32768) (u := 2147483647) h540 (q_rg_full _) (q_rg_lit (n := 32768) (x := 32768) rfl))
            refine q_E_F ?_
            exact q_E_x trivial
        | false =>
          have g543 := (q_rg_neU (l := 0) (u := 8) (n := 8) (U := 7) h538 (q_rg_and a2 8 (U := 8) (by decide) rfl) rfl (by decide) (by decide))
          refine q_E_F ?_
          exact q_E_x trivial
      | false =>
        have g544 := (q_rg_neL (l := 0) (u := 2) (n := 0) (L := 1) h536 g534 rfl (by decide) (by decide))
        refine q_E_F ?_
        cases h545 : decide (a2 &&& 8 = 8) with
        | true =>
          have g546 := q_rg_eqT h545 (q_rg_lit (n := 8) (x := 8) rfl)
          refine q_E_T ?_
          refine q_E_A (q_in_rg (q_rg_sub (L := 0) (U := 1) g544 (q_rg_lit (n := 1) (x := 1) rfl) (by decide) (by decide) (by decide) (by decide)) (by decide) (by decide)) ?_
          cases h547 : decide ((s.1 26) ((a1 - 1).toNatClampNeg) < 32768) with
          | true =>
            have g548 := (q_rg_ltT1 (l := -2147483648) (U := 32767) h547 (q_rg_full _) (q_rg_lit (n := 32768) (x := 32768) rfl) (by decide))
            refine q_E_T ?_
            exact q_E_x trivial
          | false =>
            have g549 := (q_rg_ltF1 (l2 := 32768) (u := 2147483647) h547 (q_rg_full _) (q_rg_lit (n := 32768) (x := 32768) rfl))
            refine q_E_F ?_
            exact q_E_x trivial
        | false =>
          have g550 := (q_rg_neU (l := 0) (u := 8) (n := 8) (U := 7) h545 (q_rg_and a2 8 (U := 8) (by decide) rfl) rfl (by decide) (by decide))
          refine q_E_F ?_
          exact q_E_x trivial
    | false =>
      have g551 := (q_rg_ltF1 (l2 := 3) (u := 2147483647) h533 g532 (q_rg_lit (n := 3) (x := 3) rfl))
      refine q_E_F ?_
      exact q_E_x trivial
set_option maxHeartbeats 4000000 in
theorem dzqb_N168_89_68_92  (k92 : q_S → Int32 → Int32 → Int32 → Option (q_S)) (M92 : Int) (tk92 : ∀ (s : q_S), q_iX c d u t l s → ∀ (v2 : Int32) (v3 : Int32) (v4 : Int32), q_rgz 0 39 v2 → q_rgz 0 3 v4 → ((3 - v4.toInt).toNat : Int) ≤ M92 → q_Ex (k92 s v2 v3 v4) (q_iX c d u t l)) (s : q_S) (hI : q_iX c d u t l s) (v2 : Int32) (v3 : Int32) (v4 : Int32) (rv2 : q_rgz 0 39 v2) (rv4 : q_rgz 0 3 v4) (m92 : ((3 - v4.toInt).toNat : Int) ≤ M92 + 1) : q_Ex (cond (decide (v4 < 3)) (cond (q_in (((32 : Int32) + (4 * v4)) + 2) 48) ((dz_N171_89 s v4 ((s.1 4) ((((32 : Int32) + (4 * v4)) + 2).toNatClampNeg))).bind fun r4 => cond (q_in v4 3) (k92 s v2 (v3 + (r4 * ((s.1 27) (v4.toNatClampNeg)))) (v4 + 1)) none) none) (cond (q_in v2 40) (some (q_sA s 30 (upd (s.1 30) (v2.toNatClampNeg) (v3 / 15)))) none)) (q_iX c d u t l) := by
  cases h712 : decide (v4 < 3) with
  | true =>
    have g713 := (q_rg_ltT1 (l := 0) (U := 2) h712 rv4 (q_rg_lit (n := 3) (x := 3) rfl) (by decide))
    refine q_E_T ?_
    refine q_E_A (q_in_rg (q_rg_add (L := 34) (U := 42) (q_rg_add (L := 32) (U := 40) (q_rg_lit (n := 32) (x := 32) rfl) (q_rg_mul (L := 0) (U := 8) (q_rg_lit (n := 4) (x := 4) rfl) g713 (by decide) (by decide) (by decide) (by decide) (by decide) (by decide)) (by decide) (by decide) (by decide) (by decide)) (q_rg_lit (n := 2) (x := 2) rfl) (by decide) (by decide) (by decide) (by decide)) (by decide) (by decide)) ?_
    obtain ⟨r4, e715, j714⟩ := dzq_N171_89 (s) hI (v4) ((s.1 4) ((((32 : Int32) + (4 * v4)) + 2).toNatClampNeg))
    rw [e715]
    refine q_E_B ?_
    refine q_E_A (q_in_rg g713 (by decide) (by decide)) ?_
    exact tk92 (s) hI (v2) (v3 + (r4 * ((s.1 27) (v4.toNatClampNeg)))) (v4 + 1) (q_rg_le (L := 0) (U := 39) rv2 (by decide) (by decide)) (q_rg_le (L := 0) (U := 3) (q_rg_add (L := 1) (U := 3) g713 (q_rg_lit (n := 1) (x := 1) rfl) (by decide) (by decide) (by decide) (by decide)) (by decide) (by decide)) (q_meu g713 m92 (by decide) (by decide))
  | false =>
    have g716 := (q_rg_ltF1 (l2 := 3) (u := 3) h712 rv4 (q_rg_lit (n := 3) (x := 3) rfl))
    refine q_E_F ?_
    refine q_E_A (q_in_rg rv2 (by decide) (by decide)) ?_
    exact q_E_x (q_iX_A (i := 30) hI (by decide))
theorem dzq_N168_89_68_92  : ∀ (m : Nat) (s : q_S) (hI : q_iX c d u t l s) (v2 : Int32) (v3 : Int32) (v4 : Int32) (rv2 : q_rgz 0 39 v2) (rv4 : q_rgz 0 3 v4), ((3 - v4.toInt).toNat : Int) ≤ (m : Int) → q_Ex (dz_N168_89_68_92 (m + 1) s v2 v3 v4) (q_iX c d u t l) := by
  intro m
  induction m with
  | zero => intro s hI v2 v3 v4 rv2 rv4 hm; rw [dzs_N168_89_68_92]; exact dzqb_N168_89_68_92 (dz_N168_89_68_92 0) (-1) (fun s hI v2 v3 v4 rv2 rv4 hm => absurd hm (by omega)) s hI v2 v3 v4 rv2 rv4 (by omega)
  | succ m ih => intro s hI v2 v3 v4 rv2 rv4 hm; rw [dzs_N168_89_68_92]; exact dzqb_N168_89_68_92 (dz_N168_89_68_92 (m + 1)) (m : Int) (fun s hI v2 v3 v4 rv2 rv4 hm => ih s hI v2 v3 v4 rv2 rv4 hm) s hI v2 v3 v4 rv2 rv4 (by omega)
set_option maxHeartbeats 4000000 in
theorem dzqb_N168_89_68_20  (k20 : q_S → Int32 → Int32 → Option (q_S)) (M20 : Int) (tk20 : ∀ (s : q_S), q_iX c d u t l s → ∀ (v2 : Int32) (v3 : Int32), q_rgz 0 39 v2 → q_rgz 0 3 v3 → ((3 - v3.toInt).toNat : Int) ≤ M20 → q_Ex (k20 s v2 v3) (q_iX c d u t l)) (s : q_S) (hI : q_iX c d u t l s) (v2 : Int32) (v3 : Int32) (rv2 : q_rgz 0 39 v2) (rv3 : q_rgz 0 3 v3) (m20 : ((3 - v3.toInt).toNat : Int) ≤ M20 + 1) : q_Ex (cond (decide (v3 < 3)) (cond (q_in ((32 : Int32) + (4 * v3)) 48) (cond (q_in (((32 : Int32) + (4 * v3)) + 1) 48) ((dz_N169_89 s v3 (((s.1 4) (((32 : Int32) + (4 * v3)).toNatClampNeg)) + (256 * ((s.1 4) ((((32 : Int32) + (4 * v3)) + 1).toNatClampNeg))))).bind fun r1 => cond (q_in (((32 : Int32) + (4 * v3)) + 2) 48) (cond (decide (((r1.1 4) ((((32 : Int32) + (4 * v3)) + 2).toNatClampNeg)) &&& 1 = 1)) (cond (q_in (((32 : Int32) + (4 * v3)) + 3) 48) ((dz_N170_89_t r1 v3 ((r1.1 4) ((((32 : Int32) + (4 * v3)) + 3).toNatClampNeg))).bind fun r2 => k20 r2 v2 (v3 + 1)) none) (cond (q_in (((32 : Int32) + (4 * v3)) + 3) 48) ((dz_N170_89_f r1 v3 ((r1.1 4) ((((32 : Int32) + (4 * v3)) + 3).toNatClampNeg))).bind fun r3 => k20 r3 v2 (v3 + 1)) none)) none) none) none) (dz_N168_89_68_92 5000 s v2 0 0)) (q_iX c d u t l) := by
  cases h717 : decide (v3 < 3) with
  | true =>
    have g718 := (q_rg_ltT1 (l := 0) (U := 2) h717 rv3 (q_rg_lit (n := 3) (x := 3) rfl) (by decide))
    refine q_E_T ?_
    refine q_E_A (q_in_rg (q_rg_add (L := 32) (U := 40) (q_rg_lit (n := 32) (x := 32) rfl) (q_rg_mul (L := 0) (U := 8) (q_rg_lit (n := 4) (x := 4) rfl) g718 (by decide) (by decide) (by decide) (by decide) (by decide) (by decide)) (by decide) (by decide) (by decide) (by decide)) (by decide) (by decide)) ?_
    refine q_E_A (q_in_rg (q_rg_add (L := 33) (U := 41) (q_rg_add (L := 32) (U := 40) (q_rg_lit (n := 32) (x := 32) rfl) (q_rg_mul (L := 0) (U := 8) (q_rg_lit (n := 4) (x := 4) rfl) g718 (by decide) (by decide) (by decide) (by decide) (by decide) (by decide)) (by decide) (by decide) (by decide) (by decide)) (q_rg_lit (n := 1) (x := 1) rfl) (by decide) (by decide) (by decide) (by decide)) (by decide) (by decide)) ?_
    obtain ⟨r1, e720, j719⟩ := dzq_N169_89 (s) hI (v3) (((s.1 4) (((32 : Int32) + (4 * v3)).toNatClampNeg)) + (256 * ((s.1 4) ((((32 : Int32) + (4 * v3)) + 1).toNatClampNeg))))
    rw [e720]
    refine q_E_B ?_
    refine q_E_A (q_in_rg (q_rg_add (L := 34) (U := 42) (q_rg_add (L := 32) (U := 40) (q_rg_lit (n := 32) (x := 32) rfl) (q_rg_mul (L := 0) (U := 8) (q_rg_lit (n := 4) (x := 4) rfl) g718 (by decide) (by decide) (by decide) (by decide) (by decide) (by decide)) (by decide) (by decide) (by decide) (by decide)) (q_rg_lit (n := 2) (x := 2) rfl) (by decide) (by decide) (by decide) (by decide)) (by decide) (by decide)) ?_
    cases h721 : decide (((r1.1 4) ((((32 : Int32) + (4 * v3)) + 2).toNatClampNeg)) &&& 1 = 1) with
    | true =>
      have g722 := q_rg_eqT h721 (q_rg_lit (n := 1) (x := 1) rfl)
      refine q_E_T ?_
      refine q_E_A (q_in_rg (q_rg_add (L := 35) (U := 43) (q_rg_add (L := 32) (U := 40) (q_rg_lit (n := 32) (x := 32) rfl) (q_rg_mul (L := 0) (U := 8) (q_rg_lit (n := 4) (x := 4) rfl) g718 (by decide) (by decide) (by decide) (by decide) (by decide) (by decide)) (by decide) (by decide) (by decide) (by decide)) (q_rg_lit (n := 3) (x := 3) rfl) (by decide) (by decide) (by decide) (by decide)) (by decide) (by decide)) ?_
      obtain ⟨r2, e724, j723⟩ := dzq_N170_89_t (r1) j719 (v3) ((r1.1 4) ((((32 : Int32) + (4 * v3)) + 3).toNatClampNeg))
      rw [e724]
      refine q_E_B ?_
      exact tk20 (r2) j723 (v2) (v3 + 1) (q_rg_le (L := 0) (U := 39) rv2 (by decide) (by decide)) (q_rg_le (L := 0) (U := 3) (q_rg_add (L := 1) (U := 3) g718 (q_rg_lit (n := 1) (x := 1) rfl) (by decide) (by decide) (by decide) (by decide)) (by decide) (by decide)) (q_meu g718 m20 (by decide) (by decide))
    | false =>
      have g725 := (q_rg_neU (l := 0) (u := 1) (n := 1) (U := 0) h721 (q_rg_and ((r1.1 4) ((((32 : Int32) + (4 * v3)) + 2).toNatClampNeg)) 1 (U := 1) (by decide) rfl) rfl (by decide) (by decide))
      refine q_E_F ?_
      refine q_E_A (q_in_rg (q_rg_add (L := 35) (U := 43) (q_rg_add (L := 32) (U := 40) (q_rg_lit (n := 32) (x := 32) rfl) (q_rg_mul (L := 0) (U := 8) (q_rg_lit (n := 4) (x := 4) rfl) g718 (by decide) (by decide) (by decide) (by decide) (by decide) (by decide)) (by decide) (by decide) (by decide) (by decide)) (q_rg_lit (n := 3) (x := 3) rfl) (by decide) (by decide) (by decide) (by decide)) (by decide) (by decide)) ?_
      obtain ⟨r3, e727, j726⟩ := dzq_N170_89_f (r1) j719 (v3) ((r1.1 4) ((((32 : Int32) + (4 * v3)) + 3).toNatClampNeg))
      rw [e727]
      refine q_E_B ?_
      exact tk20 (r3) j726 (v2) (v3 + 1) (q_rg_le (L := 0) (U := 39) rv2 (by decide) (by decide)) (q_rg_le (L := 0) (U := 3) (q_rg_add (L := 1) (U := 3) g718 (q_rg_lit (n := 1) (x := 1) rfl) (by decide) (by decide) (by decide) (by decide)) (by decide) (by decide)) (q_meu g718 m20 (by decide) (by decide))
  | false =>
    have g728 := (q_rg_ltF1 (l2 := 3) (u := 3) h717 rv3 (q_rg_lit (n := 3) (x := 3) rfl))
    refine q_E_F ?_
    exact dzq_N168_89_68_92 4999 (s) hI (v2) (0) (0) (q_rg_le (L := 0) (U := 39) rv2 (by decide) (by decide)) (q_rg_le (L := 0) (U := 3) (q_rg_lit (n := 0) (x := 0) rfl) (by decide) (by decide)) (q_meu0 (q_rg_lit (n := 0) (x := 0) rfl) (by decide) (by decide))
theorem dzq_N168_89_68_20  : ∀ (m : Nat) (s : q_S) (hI : q_iX c d u t l s) (v2 : Int32) (v3 : Int32) (rv2 : q_rgz 0 39 v2) (rv3 : q_rgz 0 3 v3), ((3 - v3.toInt).toNat : Int) ≤ (m : Int) → q_Ex (dz_N168_89_68_20 (m + 1) s v2 v3) (q_iX c d u t l) := by
  intro m
  induction m with
  | zero => intro s hI v2 v3 rv2 rv3 hm; rw [dzs_N168_89_68_20]; exact dzqb_N168_89_68_20 (dz_N168_89_68_20 0) (-1) (fun s hI v2 v3 rv2 rv3 hm => absurd hm (by omega)) s hI v2 v3 rv2 rv3 (by omega)
  | succ m ih => intro s hI v2 v3 rv2 rv3 hm; rw [dzs_N168_89_68_20]; exact dzqb_N168_89_68_20 (dz_N168_89_68_20 (m + 1)) (m : Int) (fun s hI v2 v3 rv2 rv3 hm => ih s hI v2 v3 rv2 rv3 hm) s hI v2 v3 rv2 rv3 (by omega)
set_option maxHeartbeats 4000000 in
theorem dzq_N168_89_68  (s : q_S) (hI : q_iX c d u t l s) (a2 : Int32) : q_Ex (dz_N168_89_68 s a2) (q_iX c d u t l) := by
  unfold dz_N168_89_68
  cases h729 : decide (a2 < 0) with
  | true =>
    have g730 := (q_rg_ltT1 (l := -2147483648) (U := -1) h729 (q_rg_full _) (q_rg_lit (n := 0) (x := 0) rfl) (by decide))
    refine q_E_T ?_
    exact q_E_x hI
  | false =>
    have g731 := (q_rg_ltF1 (l2 := 0) (u := 2147483647) h729 (q_rg_full _) (q_rg_lit (n := 0) (x := 0) rfl))
    refine q_E_F ?_
    cases h732 : decide (a2 < 40) with
    | true =>
      have g733 := (q_rg_ltT1 (l := 0) (U := 39) h732 g731 (q_rg_lit (n := 40) (x := 40) rfl) (by decide))
      refine q_E_T ?_
      exact dzq_N168_89_68_20 4999 (s) hI (a2) (0) (q_rg_le (L := 0) (U := 39) g733 (by decide) (by decide)) (q_rg_le (L := 0) (U := 3) (q_rg_lit (n := 0) (x := 0) rfl) (by decide) (by decide)) (q_meu0 (q_rg_lit (n := 0) (x := 0) rfl) (by decide) (by decide))
    | false =>
      have g734 := (q_rg_ltF1 (l2 := 40) (u := 2147483647) h732 g731 (q_rg_lit (n := 40) (x := 40) rfl))
      refine q_E_F ?_
      exact q_E_x hI
theorem dzq_N187  (s : q_S) (hI : q_iX c d u t l s) (a0 : Int32) : (fun _ => True) (dz_N187 s a0) := trivial
theorem dzq_N140_87  (s : q_S) (hI : q_iX c d u t l s) (a1 : Int32) : (fun _ => True) (dz_N140_87 s a1) := trivial
theorem dzq_N161_87  (s : q_S) (hI : q_iX c d u t l s) (a1 : Int32) : (fun _ => True) (dz_N161_87 s a1) := trivial
theorem dzq_N193  (s : q_S) (hI : q_iX c d u t l s) (a0 : Int32) (a1 : Int32) : (fun _ => True) (dz_N193 s a0 a1) := trivial
theorem dzq_N139_87  (s : q_S) (hI : q_iX c d u t l s) (a1 : Int32) : (fun _ => True) (dz_N139_87 s a1) := trivial
theorem dzq_N138_87  (s : q_S) (hI : q_iX c d u t l s) (a1 : Int32) (a2 : Int32) : (fun _ => True) (dz_N138_87 s a1 a2) := trivial
theorem dzq_N192  (s : q_S) (hI : q_iX c d u t l s) (a0 : Int32) : (fun _ => True) (dz_N192 s a0) := trivial
theorem dzq_N189  (s : q_S) (hI : q_iX c d u t l s) (a0 : Int32) : (fun _ => True) (dz_N189 s a0) := trivial
theorem dzq_N143_87  (s : q_S) (hI : q_iX c d u t l s) (a1 : Int32) : (fun _ => True) (dz_N143_87 s a1) := trivial
theorem dzq_N188  (s : q_S) (hI : q_iX c d u t l s) (a0 : Int32) : (fun _ => True) (dz_N188 s a0) := trivial
set_option maxHeartbeats 4000000 in
theorem dzqb_N182_74_51  (k7 : q_S → Int32 → Int32 → Int32 → Option (Int32)) (M7 : Int) (tk7 : ∀ (s : q_S), q_iX c d u t l s → ∀ (v2 : Int32) (v3 : Int32) (v4 : Int32), q_rgz 0 4 v4 → ((4 - v4.toInt).toNat : Int) ≤ M7 → q_Ex (k7 s v2 v3 v4) (fun _ => True)) (k51 : q_S → Int32 → Int32 → Int32 → Int32 → Option (Int32)) (M51 : Int) (tk51 : ∀ (s : q_S), q_iX c d u t l s → ∀ (v2 : Int32) (v3 : Int32) (v4 : Int32) (v5 : Int32), q_rgz 0 3 v4 → q_rgz 0 4 v5 → ((4 - v4.toInt).toNat : Int) ≤ M7 + 1 → ((4 - v5.toInt).toNat : Int) ≤ M51 → q_Ex (k51 s v2 v3 v4 v5) (fun _ => True)) (s : q_S) (hI : q_iX c d u t l s) (v2 : Int32) (v3 : Int32) (v4 : Int32) (v5 : Int32) (rv4 : q_rgz 0 3 v4) (rv5 : q_rgz 0 4 v5) (m7 : ((4 - v4.toInt).toNat : Int) ≤ M7 + 1) (m51 : ((4 - v5.toInt).toNat : Int) ≤ M51 + 1) : q_Ex (cond (decide (v5 < 4)) (cond (q_in v5 4) (cond (decide (((s.1 11) (v5.toNatClampNeg)) &&& v3 = 0)) (k51 s v2 v3 v4 (v5 + 1)) (k51 s (v2 ||| ((1 : Int32) <<< (v5 &&& 31))) v3 v4 (v5 + 1))) none) (k7 s v2 v3 (v4 + 1))) (fun _ => True) := by
  cases h1011 : decide (v5 < 4) with
  | true =>
    have g1012 := (q_rg_ltT1 (l := 0) (U := 3) h1011 rv5 (q_rg_lit (n := 4) (x := 4) rfl) (by decide))
    refine q_E_T ?_
    refine q_E_A (q_in_rg g1012 (by decide) (by decide)) ?_
    cases h1013 : decide (((s.1 11) (v5.toNatClampNeg)) &&& v3 = 0) with
    | true =>
      have g1014 := q_rg_eqT h1013 (q_rg_lit (n := 0) (x := 0) rfl)
      refine q_E_T ?_
      exact tk51 (s) hI (v2) (v3) (v4) (v5 + 1) (q_rg_le (L := 0) (U := 3) rv4 (by decide) (by decide)) (q_rg_le (L := 0) (U := 4) (q_rg_add (L := 1) (U := 4) g1012 (q_rg_lit (n := 1) (x := 1) rfl) (by decide) (by decide) (by decide) (by decide)) (by decide) (by decide)) m7 (q_meu g1012 m51 (by decide) (by decide))
    | false =>
      refine q_E_F ?_
      exact tk51 (s) hI (v2 ||| ((1 : Int32) <<< (v5 &&& 31))) (v3) (v4) (v5 + 1) (q_rg_le (L := 0) (U := 3) rv4 (by decide) (by decide)) (q_rg_le (L := 0) (U := 4) (q_rg_add (L := 1) (U := 4) g1012 (q_rg_lit (n := 1) (x := 1) rfl) (by decide) (by decide) (by decide) (by decide)) (by decide) (by decide)) m7 (q_meu g1012 m51 (by decide) (by decide))
  | false =>
    have g1015 := (q_rg_ltF1 (l2 := 4) (u := 4) h1011 rv5 (q_rg_lit (n := 4) (x := 4) rfl))
    refine q_E_F ?_
    exact tk7 (s) hI (v2) (v3) (v4 + 1) (q_rg_le (L := 0) (U := 4) (q_rg_add (L := 1) (U := 4) rv4 (q_rg_lit (n := 1) (x := 1) rfl) (by decide) (by decide) (by decide) (by decide)) (by decide) (by decide)) (q_meu rv4 m7 (by decide) (by decide))
theorem dzq_N182_74_51  (k7 : q_S → Int32 → Int32 → Int32 → Option (Int32)) (M7 : Int) (tk7 : ∀ (s : q_S), q_iX c d u t l s → ∀ (v2 : Int32) (v3 : Int32) (v4 : Int32), q_rgz 0 4 v4 → ((4 - v4.toInt).toNat : Int) ≤ M7 → q_Ex (k7 s v2 v3 v4) (fun _ => True)) : ∀ (m : Nat) (s : q_S) (hI : q_iX c d u t l s) (v2 : Int32) (v3 : Int32) (v4 : Int32) (v5 : Int32) (rv4 : q_rgz 0 3 v4) (rv5 : q_rgz 0 4 v5) (m7 : ((4 - v4.toInt).toNat : Int) ≤ M7 + 1), ((4 - v5.toInt).toNat : Int) ≤ (m : Int) → q_Ex (dz_N182_74_51 k7 (m + 1) s v2 v3 v4 v5) (fun _ => True) := by
  intro m
  induction m with
  | zero => intro s hI v2 v3 v4 v5 rv4 rv5 m7 hm; rw [dzs_N182_74_51]; exact dzqb_N182_74_51 k7 M7 tk7 (dz_N182_74_51 k7 0) (-1) (fun s hI v2 v3 v4 v5 rv4 rv5 m7 hm => absurd hm (by omega)) s hI v2 v3 v4 v5 rv4 rv5 m7 (by omega)
  | succ m ih => intro s hI v2 v3 v4 v5 rv4 rv5 m7 hm; rw [dzs_N182_74_51]; exact dzqb_N182_74_51 k7 M7 tk7 (dz_N182_74_51 k7 (m + 1)) (m : Int) (fun s hI v2 v3 v4 v5 rv4 rv5 m7 hm => ih s hI v2 v3 v4 v5 rv4 rv5 m7 hm) s hI v2 v3 v4 v5 rv4 rv5 m7 (by omega)
set_option maxHeartbeats 4000000 in
theorem dzqb_N182_74_16  (k7 : q_S → Int32 → Int32 → Int32 → Option (Int32)) (M7 : Int) (tk7 : ∀ (s : q_S), q_iX c d u t l s → ∀ (v2 : Int32) (v3 : Int32) (v4 : Int32), q_rgz 0 4 v4 → ((4 - v4.toInt).toNat : Int) ≤ M7 → q_Ex (k7 s v2 v3 v4) (fun _ => True)) (k16 : q_S → Int32 → Int32 → Int32 → Int32 → Option (Int32)) (M16 : Int) (tk16 : ∀ (s : q_S), q_iX c d u t l s → ∀ (v2 : Int32) (v3 : Int32) (v4 : Int32) (v5 : Int32), q_rgz 0 3 v4 → q_rgz 0 4 v5 → ((4 - v4.toInt).toNat : Int) ≤ M7 + 1 → ((4 - v5.toInt).toNat : Int) ≤ M16 → q_Ex (k16 s v2 v3 v4 v5) (fun _ => True)) (s : q_S) (hI : q_iX c d u t l s) (v2 : Int32) (v3 : Int32) (v4 : Int32) (v5 : Int32) (rv4 : q_rgz 0 3 v4) (rv5 : q_rgz 0 4 v5) (m7 : ((4 - v4.toInt).toNat : Int) ≤ M7 + 1) (m16 : ((4 - v5.toInt).toNat : Int) ≤ M16 + 1) : q_Ex (cond (decide (v5 < 4)) (cond (decide ((v2 >>> (v5 &&& 31)) &&& 1 = 1)) (cond (q_in v5 4) (k16 s v2 (v3 ||| ((s.1 11) (v5.toNatClampNeg))) v4 (v5 + 1)) none) (k16 s v2 v3 v4 (v5 + 1))) (dz_N182_74_51 k7 5000 s v2 v3 v4 0)) (fun _ => True) := by
  cases h1016 : decide (v5 < 4) with
  | true =>
    have g1017 := (q_rg_ltT1 (l := 0) (U := 3) h1016 rv5 (q_rg_lit (n := 4) (x := 4) rfl) (by decide))
    refine q_E_T ?_
    cases h1018 : decide ((v2 >>> (v5 &&& 31)) &&& 1 = 1) with
    | true =>
      have g1019 := q_rg_eqT h1018 (q_rg_lit (n := 1) (x := 1) rfl)
      refine q_E_T ?_
      refine q_E_A (q_in_rg g1017 (by decide) (by decide)) ?_
      exact tk16 (s) hI (v2) (v3 ||| ((s.1 11) (v5.toNatClampNeg))) (v4) (v5 + 1) (q_rg_le (L := 0) (U := 3) rv4 (by decide) (by decide)) (q_rg_le (L := 0) (U := 4) (q_rg_add (L := 1) (U := 4) g1017 (q_rg_lit (n := 1) (x := 1) rfl) (by decide) (by decide) (by decide) (by decide)) (by decide) (by decide)) m7 (q_meu g1017 m16 (by decide) (by decide))
    | false =>
      have g1020 := (q_rg_neU (l := 0) (u := 1) (n := 1) (U := 0) h1018 (q_rg_and (v2 >>> (v5 &&& 31)) 1 (U := 1) (by decide) rfl) rfl (by decide) (by decide))
      refine q_E_F ?_
      exact tk16 (s) hI (v2) (v3) (v4) (v5 + 1) (q_rg_le (L := 0) (U := 3) rv4 (by decide) (by decide)) (q_rg_le (L := 0) (U := 4) (q_rg_add (L := 1) (U := 4) g1017 (q_rg_lit (n := 1) (x := 1) rfl) (by decide) (by decide) (by decide) (by decide)) (by decide) (by decide)) m7 (q_meu g1017 m16 (by decide) (by decide))
  | false =>
    have g1021 := (q_rg_ltF1 (l2 := 4) (u := 4) h1016 rv5 (q_rg_lit (n := 4) (x := 4) rfl))
    refine q_E_F ?_
    exact dzq_N182_74_51 k7 M7 tk7 4999 (s) hI (v2) (v3) (v4) (0) (q_rg_le (L := 0) (U := 3) rv4 (by decide) (by decide)) (q_rg_le (L := 0) (U := 4) (q_rg_lit (n := 0) (x := 0) rfl) (by decide) (by decide)) m7 (q_meu0 (q_rg_lit (n := 0) (x := 0) rfl) (by decide) (by decide))
theorem dzq_N182_74_16  (k7 : q_S → Int32 → Int32 → Int32 → Option (Int32)) (M7 : Int) (tk7 : ∀ (s : q_S), q_iX c d u t l s → ∀ (v2 : Int32) (v3 : Int32) (v4 : Int32), q_rgz 0 4 v4 → ((4 - v4.toInt).toNat : Int) ≤ M7 → q_Ex (k7 s v2 v3 v4) (fun _ => True)) : ∀ (m : Nat) (s : q_S) (hI : q_iX c d u t l s) (v2 : Int32) (v3 : Int32) (v4 : Int32) (v5 : Int32) (rv4 : q_rgz 0 3 v4) (rv5 : q_rgz 0 4 v5) (m7 : ((4 - v4.toInt).toNat : Int) ≤ M7 + 1), ((4 - v5.toInt).toNat : Int) ≤ (m : Int) → q_Ex (dz_N182_74_16 k7 (m + 1) s v2 v3 v4 v5) (fun _ => True) := by
  intro m
  induction m with
  | zero => intro s hI v2 v3 v4 v5 rv4 rv5 m7 hm; rw [dzs_N182_74_16]; exact dzqb_N182_74_16 k7 M7 tk7 (dz_N182_74_16 k7 0) (-1) (fun s hI v2 v3 v4 v5 rv4 rv5 m7 hm => absurd hm (by omega)) s hI v2 v3 v4 v5 rv4 rv5 m7 (by omega)
  | succ m ih => intro s hI v2 v3 v4 v5 rv4 rv5 m7 hm; rw [dzs_N182_74_16]; exact dzqb_N182_74_16 k7 M7 tk7 (dz_N182_74_16 k7 (m + 1)) (m : Int) (fun s hI v2 v3 v4 v5 rv4 rv5 m7 hm => ih s hI v2 v3 v4 v5 rv4 rv5 m7 hm) s hI v2 v3 v4 v5 rv4 rv5 m7 (by omega)
set_option maxHeartbeats 4000000 in
theorem dzqb_N182_74_7  (k7 : q_S → Int32 → Int32 → Int32 → Option (Int32)) (M7 : Int) (tk7 : ∀ (s : q_S), q_iX c d u t l s → ∀ (v2 : Int32) (v3 : Int32) (v4 : Int32), q_rgz 0 4 v4 → ((4 - v4.toInt).toNat : Int) ≤ M7 → q_Ex (k7 s v2 v3 v4) (fun _ => True)) (s : q_S) (hI : q_iX c d u t l s) (v2 : Int32) (v3 : Int32) (v4 : Int32) (rv4 : q_rgz 0 4 v4) (m7 : ((4 - v4.toInt).toNat : Int) ≤ M7 + 1) : q_Ex (cond (decide (v4 < 4)) (dz_N182_74_16 k7 5000 s v2 v3 v4 0) (some v3)) (fun _ => True) := by
  cases h1022 : decide (v4 < 4) with
  | true =>
    have g1023 := (q_rg_ltT1 (l := 0) (U := 3) h1022 rv4 (q_rg_lit (n := 4) (x := 4) rfl) (by decide))
    refine q_E_T ?_
    exact dzq_N182_74_16 k7 M7 tk7 4999 (s) hI (v2) (v3) (v4) (0) (q_rg_le (L := 0) (U := 3) g1023 (by decide) (by decide)) (q_rg_le (L := 0) (U := 4) (q_rg_lit (n := 0) (x := 0) rfl) (by decide) (by decide)) m7 (q_meu0 (q_rg_lit (n := 0) (x := 0) rfl) (by decide) (by decide))
  | false =>
    have g1024 := (q_rg_ltF1 (l2 := 4) (u := 4) h1022 rv4 (q_rg_lit (n := 4) (x := 4) rfl))
    refine q_E_F ?_
    exact q_E_x trivial
theorem dzq_N182_74_7  : ∀ (m : Nat) (s : q_S) (hI : q_iX c d u t l s) (v2 : Int32) (v3 : Int32) (v4 : Int32) (rv4 : q_rgz 0 4 v4), ((4 - v4.toInt).toNat : Int) ≤ (m : Int) → q_Ex (dz_N182_74_7 (m + 1) s v2 v3 v4) (fun _ => True) := by
  intro m
  induction m with
  | zero => intro s hI v2 v3 v4 rv4 hm; rw [dzs_N182_74_7]; exact dzqb_N182_74_7 (dz_N182_74_7 0) (-1) (fun s hI v2 v3 v4 rv4 hm => absurd hm (by omega)) s hI v2 v3 v4 rv4 (by omega)
  | succ m ih => intro s hI v2 v3 v4 rv4 hm; rw [dzs_N182_74_7]; exact dzqb_N182_74_7 (dz_N182_74_7 (m + 1)) (m : Int) (fun s hI v2 v3 v4 rv4 hm => ih s hI v2 v3 v4 rv4 hm) s hI v2 v3 v4 rv4 (by omega)
set_option maxHeartbeats 4000000 in
theorem dzq_N182_74  (s : q_S) (hI : q_iX c d u t l s) (a1 : Int32) : q_Ex (dz_N182_74 s a1) (fun _ => True) := by
  unfold dz_N182_74
  exact dzq_N182_74_7 4999 (s) hI (a1) (0) (0) (q_rg_le (L := 0) (U := 4) (q_rg_lit (n := 0) (x := 0) rfl) (by decide) (by decide)) (q_meu0 (q_rg_lit (n := 0) (x := 0) rfl) (by decide) (by decide))
set_option maxHeartbeats 4000000 in
theorem dzqb_N181_74_45  (k45 : q_S → Int32 → Int32 → Option (q_S × Int32)) (M45 : Int) (tk45 : ∀ (s : q_S), q_iX c d u t l s → ∀ (v5 : Int32) (v6 : Int32), q_rgz 0 1 v5 → q_rgz 0 16 v6 → ((16 - v6.toInt).toNat : Int) ≤ M45 → q_Ex (k45 s v5 v6) (fun (x : q_S × Int32) => q_iX c d u t l x.1)) (s : q_S) (hI : q_iX c d u t l s) (v5 : Int32) (v6 : Int32) (rv5 : q_rgz 0 1 v5) (rv6 : q_rgz 0 16 v6) (m45 : ((16 - v6.toInt).toNat : Int) ≤ M45 + 1) : q_Ex (cond (decide (15 < v6)) (some (s, v5)) ((dz_N182_74 s v6).bind fun r2 => cond (q_in v6 16) (k45 (q_sA s 12 (upd (s.1 12) (v6.toNatClampNeg) r2)) v5 (v6 + 1)) none)) (fun (x : q_S × Int32) => q_iX c d u t l x.1) := by
  cases h1062 : decide (15 < v6) with
  | true =>
    have g1063 := (q_rg_ltT2 (L := 16) (u2 := 16) h1062 (q_rg_lit (n := 15) (x := 15) rfl) rv6 (by decide))
    refine q_E_T ?_
    exact q_E_x hI
  | false =>
    have g1064 := (q_rg_ltF2 (l2 := 0) (u := 15) h1062 (q_rg_lit (n := 15) (x := 15) rfl) rv6)
    refine q_E_F ?_
    obtain ⟨r2, e1066, j1065⟩ := dzq_N182_74 (s) hI (v6)
    rw [e1066]
    refine q_E_B ?_
    refine q_E_A (q_in_rg g1064 (by decide) (by decide)) ?_
    exact tk45 (q_sA s 12 (upd (s.1 12) (v6.toNatClampNeg) r2)) (q_iX_A (i := 12) hI (by decide)) (v5) (v6 + 1) (q_rg_le (L := 0) (U := 1) rv5 (by decide) (by decide)) (q_rg_le (L := 0) (U := 16) (q_rg_add (L := 1) (U := 16) g1064 (q_rg_lit (n := 1) (x := 1) rfl) (by decide) (by decide) (by decide) (by decide)) (by decide) (by decide)) (q_meu g1064 m45 (by decide) (by decide))
theorem dzq_N181_74_45  : ∀ (m : Nat) (s : q_S) (hI : q_iX c d u t l s) (v5 : Int32) (v6 : Int32) (rv5 : q_rgz 0 1 v5) (rv6 : q_rgz 0 16 v6), ((16 - v6.toInt).toNat : Int) ≤ (m : Int) → q_Ex (dz_N181_74_45 (m + 1) s v5 v6) (fun (x : q_S × Int32) => q_iX c d u t l x.1) := by
  intro m
  induction m with
  | zero => intro s hI v5 v6 rv5 rv6 hm; rw [dzs_N181_74_45]; exact dzqb_N181_74_45 (dz_N181_74_45 0) (-1) (fun s hI v5 v6 rv5 rv6 hm => absurd hm (by omega)) s hI v5 v6 rv5 rv6 (by omega)
  | succ m ih => intro s hI v5 v6 rv5 rv6 hm; rw [dzs_N181_74_45]; exact dzqb_N181_74_45 (dz_N181_74_45 (m + 1)) (m : Int) (fun s hI v5 v6 rv5 rv6 hm => ih s hI v5 v6 rv5 rv6 hm) s hI v5 v6 rv5 rv6 (by omega)
set_option maxHeartbeats 4000000 in
theorem dzq_N181_74  (s : q_S) (hI : q_iX c d u t l s) (a1 : Int32) (a2 : Int32) (a3 : Int32) : q_Ex (dz_N181_74 s a1 a2 a3) (fun (x : q_S × Int32) => q_iX c d u t l x.1) := by
  unfold dz_N181_74
  have j1067 : q_rgz 0 1 ((((s.1 11) ((a1 &&& 3).toNatClampNeg)) >>> (a2 &&& 31)) &&& 1) := (q_rg_and (((s.1 11) ((a1 &&& 3).toNatClampNeg)) >>> (a2 &&& 31)) 1 (U := 1) (by decide) rfl)
  refine q_E_L ?_
  generalize ((((s.1 11) ((a1 &&& 3).toNatClampNeg)) >>> (a2 &&& 31)) &&& 1) = x1 at j1067 ⊢
  exact dzq_N181_74_45 4999 (q_sA s 11 (upd (s.1 11) ((a1 &&& 3).toNatClampNeg) ((((s.1 11) ((a1 &&& 3).toNatClampNeg)) &&& (((1 : Int32) <<< (a2 &&& 31)) ^^^ (-1))) ||| (a3 <<< (a2 &&& 31))))) (q_iX_A (i := 11) hI (by decide)) (x1) (0) (q_rg_le (L := 0) (U := 1) j1067 (by decide) (by decide)) (q_rg_le (L := 0) (U := 16) (q_rg_lit (n := 0) (x := 0) rfl) (by decide) (by decide)) (q_meu0 (q_rg_lit (n := 0) (x := 0) rfl) (by decide) (by decide))
set_option maxHeartbeats 4000000 in
theorem dzq_N180_74  (s : q_S) (hI : q_iX c d u t l s) (a1 : Int32) : (fun (x : q_S × Int32) => q_iX c d u t l x.1) (dz_N180_74 s a1) := by
  refine q_S_of (P := (fun (x : q_S × Int32) => q_iX c d u t l x.1)) ?_
  unfold dz_N180_74
  exact q_E_x (q_iX_I (i := 10) (m := 2) hI (by decide) (by decide) (by decide))
set_option maxHeartbeats 4000000 in
theorem dzq_N175_72  (s : q_S) (hI : q_iX c d u t l s) (a1 : Int32) : (fun (x : q_S × Int32) => q_iX c d u t l x.1) (dz_N175_72 s a1) := by
  refine q_S_of (P := (fun (x : q_S × Int32) => q_iX c d u t l x.1)) ?_
  unfold dz_N175_72
  cases h1074 : decide (s.2.1 8 1 < 0) with
  | true =>
    have g1075 := (q_rg_ltT1 (l := -2147483648) (U := -1) h1074 (q_rg_full _) (q_rg_lit (n := 0) (x := 0) rfl) (by decide))
    refine q_S_T ?_
    exact q_E_x hI
  | false =>
    have g1076 := (q_rg_ltF1 (l2 := 0) (u := 2147483647) h1074 (q_rg_full _) (q_rg_lit (n := 0) (x := 0) rfl))
    refine q_S_F ?_
    cases h1077 : decide (s.2.1 8 1 < 40) with
    | true =>
      have g1078 := (q_rg_ltT1 (l := 0) (U := 39) h1077 g1076 (q_rg_lit (n := 40) (x := 40) rfl) (by decide))
      refine q_S_T ?_
      exact q_E_x (q_iX_I (i := 8) (m := 1) (q_iX_A (i := 9) hI (by decide)) (by decide) (by decide) (by decide))
    | false =>
      have g1079 := (q_rg_ltF1 (l2 := 40) (u := 2147483647) h1077 g1076 (q_rg_lit (n := 40) (x := 40) rfl))
      refine q_S_F ?_
      exact q_E_x hI
set_option maxHeartbeats 4000000 in
theorem dzq_N176_72  (s : q_S) (hI : q_iX c d u t l s) : (fun (x : q_S × Int32) => q_iX c d u t l x.1) (dz_N176_72 s) := by
  refine q_S_of (P := (fun (x : q_S × Int32) => q_iX c d u t l x.1)) ?_
  unfold dz_N176_72
  exact q_E_x (q_iX_I (i := 8) (m := 3) (q_iX_I (i := 8) (m := 2) hI (by decide) (by decide) (by decide)) (by decide) (by decide) (by decide))
end
