set_option maxHeartbeats 4000000 in
theorem dzj_M297_64 (c d w : Int) (s : q_S) (hI : q_Iv c d w s) (a1 : Int32) (a2 : Int32) (a3 : Int32) (ra3 : q_rgz 0 1 a3) : q_Ex (dz_M297_64 s a1 a2 a3) (fun (x : q_S × Bool) => q_Iv c d w x.1) := by
  unfold dz_M297_64
  refine q_E_L ?_
  generalize p4484 : dz_M201 s a1 0 3 = r4
  cases r4 with
  | true =>
    have g4485 : q_rgz 0 3 (a1) := ⟨(q_p202 p4484 (q_rg_lit (n := 0) (x := 0) rfl) (q_rg_lit (n := 3) (x := 3) rfl)).1, (q_p202 p4484 (q_rg_lit (n := 0) (x := 0) rfl) (q_rg_lit (n := 3) (x := 3) rfl)).2⟩
    refine q_E_T ?_
    refine q_E_L ?_
    generalize p4486 : dz_M201 s a2 0 3 = r5
    cases r5 with
    | true =>
      have g4487 : q_rgz 0 3 (a2) := ⟨(q_p202 p4486 (q_rg_lit (n := 0) (x := 0) rfl) (q_rg_lit (n := 3) (x := 3) rfl)).1, (q_p202 p4486 (q_rg_lit (n := 0) (x := 0) rfl) (q_rg_lit (n := 3) (x := 3) rfl)).2⟩
      refine q_E_T ?_
      have j4488 := q_fails (s) (0) hI
      refine q_E_L ?_
      generalize dz_M199_64 s 0 = r6 at j4488 ⊢
      cases h4489 : r6.2 with
      | true =>
        exact (q_failsT j4488 h4489 (q_rg_lit (n := 0) (x := 0) rfl) (by decide)).elim
      | false =>
        refine q_E_F ?_
        refine q_E_A (q_in_rg (q_rg_add (L := 0) (U := 15) (q_rg_mul (L := 0) (U := 12) (q_rg_lit (n := 4) (x := 4) rfl) g4485 (by decide) (by decide) (by decide) (by decide) (by decide) (by decide)) g4487 (by decide) (by decide) (by decide) (by decide)) (by decide) (by decide)) ?_
        have j4490 := dzj_M204_64 c d w (q_sA r6.1 7 (upd (r6.1.1 7) (((4 * a1) + a2).toNatClampNeg) (vp_nar .boolean a3))) (q_Iv_A (i := 7) j4488.1 (q_hf_up ((j4488.1).1 7) (q_s7 (q_rg_le (L := 0) (U := 1) (q_rg_nb _) (by decide) (by decide)))))
        refine q_E_L ?_
        generalize dz_M204_64 (q_sA r6.1 7 (upd (r6.1.1 7) (((4 * a1) + a2).toNatClampNeg) (vp_nar .boolean a3))) = r7 at j4490 ⊢
        refine q_E_A (q_z1_rg (q_rg_le (q_r7 j4488.1 _) (by decide) (by decide))) ?_
        exact q_E_x j4490
    | false =>
      refine q_E_F ?_
      have j4491 := q_fails (s) (1) hI
      refine q_E_L ?_
      generalize dz_M199_64 s 1 = r8 at j4491 ⊢
      cases h4492 : r8.2 with
      | true =>
        refine q_E_T ?_
        exact q_E_x j4491.1
      | false =>
        exact (q_failsF j4491 h4492 (q_rg_lit (n := 1) (x := 1) rfl) (by decide)).elim
  | false =>
    refine q_E_F ?_
    have j4493 := q_fails (s) (1) hI
    refine q_E_L ?_
    generalize dz_M199_64 s 1 = r10 at j4493 ⊢
    cases h4494 : r10.2 with
    | true =>
      refine q_E_T ?_
      exact q_E_x j4493.1
    | false =>
      exact (q_failsF j4493 h4494 (q_rg_lit (n := 1) (x := 1) rfl) (by decide)).elim
set_option maxHeartbeats 4000000 in
theorem dzj_M298_64 (c d w : Int) (s : q_S) (hI : q_Iv c d w s) (a1 : Int32) : q_Ex (dz_M298_64 s a1) (fun (x : q_S × Int32) => q_Iv c d w x.1) := by
  unfold dz_M298_64
  refine q_E_L ?_
  generalize p4503 : dz_M201 s a1 0 15 = r4
  cases r4 with
  | true =>
    have g4504 : q_rgz 0 15 (a1) := ⟨(q_p202 p4503 (q_rg_lit (n := 0) (x := 0) rfl) (q_rg_lit (n := 15) (x := 15) rfl)).1, (q_p202 p4503 (q_rg_lit (n := 0) (x := 0) rfl) (q_rg_lit (n := 15) (x := 15) rfl)).2⟩
    refine q_E_T ?_
    have j4505 := q_fails (s) (0) hI
    refine q_E_L ?_
    generalize dz_M199_64 s 0 = r5 at j4505 ⊢
    cases h4506 : r5.2 with
    | true =>
      exact (q_failsT j4505 h4506 (q_rg_lit (n := 0) (x := 0) rfl) (by decide)).elim
    | false =>
      refine q_E_F ?_
      obtain ⟨r6, e4508, j4507⟩ := dzj_M207_64 c d w (r5.1) j4505.1 (a1)
      rw [e4508]
      refine q_E_B ?_
      exact q_E_x j4507.1
  | false =>
    refine q_E_F ?_
    have j4509 := q_fails (s) (1) hI
    refine q_E_L ?_
    generalize dz_M199_64 s 1 = r7 at j4509 ⊢
    cases h4510 : r7.2 with
    | true =>
      refine q_E_T ?_
      exact q_E_x j4509.1
    | false =>
      exact (q_failsF j4509 h4510 (q_rg_lit (n := 1) (x := 1) rfl) (by decide)).elim
set_option maxHeartbeats 4000000 in
theorem dzj_M299_64 (c d w : Int) (s : q_S) (hI : q_Iv c d w s) (a1 : Int32) : (fun (x : q_S × Int32) => q_Iv c d w x.1) (dz_M299_64 s a1) := by
  refine q_S_of (P := (fun (x : q_S × Int32) => q_Iv c d w x.1)) ?_
  unfold dz_M299_64
  refine q_S_L ?_
  generalize p4518 : dz_M201 s a1 0 15 = r1
  cases r1 with
  | true =>
    have g4519 : q_rgz 0 15 (a1) := ⟨(q_p202 p4518 (q_rg_lit (n := 0) (x := 0) rfl) (q_rg_lit (n := 15) (x := 15) rfl)).1, (q_p202 p4518 (q_rg_lit (n := 0) (x := 0) rfl) (q_rg_lit (n := 15) (x := 15) rfl)).2⟩
    refine q_S_T ?_
    have j4520 := q_fails (s) (0) hI
    refine q_S_L ?_
    generalize dz_M199_64 s 0 = r2 at j4520 ⊢
    cases h4521 : r2.2 with
    | true =>
      exact (q_failsT j4520 h4521 (q_rg_lit (n := 0) (x := 0) rfl) (by decide)).elim
    | false =>
      refine q_S_F ?_
      have j4522 := dzj_M204_64 c d w (q_sA r2.1 14 (upd (r2.1.1 14) 12 a1)) (q_Iv_A (i := 14) j4520.1 (q_hf_up ((j4520.1).1 14) (q_sn12 (q_rg_le (L := 0) (U := 15) g4519 (by decide) (by decide)))))
      refine q_S_L ?_
      generalize dz_M204_64 (q_sA r2.1 14 (upd (r2.1.1 14) 12 a1)) = r3 at j4522 ⊢
      exact q_E_x j4522
  | false =>
    refine q_S_F ?_
    have j4523 := q_fails (s) (1) hI
    refine q_S_L ?_
    generalize dz_M199_64 s 1 = r4 at j4523 ⊢
    cases h4524 : r4.2 with
    | true =>
      refine q_S_T ?_
      exact q_E_x j4523.1
    | false =>
      exact (q_failsF j4523 h4524 (q_rg_lit (n := 1) (x := 1) rfl) (by decide)).elim
set_option maxHeartbeats 4000000 in
theorem dzj_M300_64_56 (c d w : Int) (s : q_S) (hI : q_Iv c d w s) (v1 : Int32) (rv1 : q_rgz 1 999 v1) (hx : q_rgz 0 39 ((s.1 14) 13)) : q_Ex (dz_M300_64_56 s v1) (fun (x : q_S × Int32) => q_Iv c d w x.1) := by
  unfold dz_M300_64_56
  refine q_E_A (q_in_rg hx (by decide) (by decide)) ?_
  have j4556 := dzj_M204_64 c d w (q_sA (q_sA s 8 (upd (s.1 8) (((s.1 14) 13).toNatClampNeg) v1)) 14 (upd (s.1 14) 13 (((s.1 14) 13) + 1))) (q_Iv_A (i := 14) (q_Iv_A (i := 8) hI (q_hf_up ((hI).1 8) (q_s8 (q_rg_full _)))) (q_hf_up ((hI).1 14) (q_sn13 (q_rg_le (L := 0) (U := 40) (q_rg_add (L := 1) (U := 40) hx (q_rg_lit (n := 1) (x := 1) rfl) (by decide) (by decide) (by decide) (by decide)) (by decide) (by decide)))))
  refine q_E_L ?_
  generalize dz_M204_64 (q_sA (q_sA s 8 (upd (s.1 8) (((s.1 14) 13).toNatClampNeg) v1)) 14 (upd (s.1 14) 13 (((s.1 14) 13) + 1))) = r7 at j4556 ⊢
  exact q_E_x j4556
set_option maxHeartbeats 4000000 in
theorem dzj_M300_64 (c d w : Int) (s : q_S) (hI : q_Iv c d w s) (a1 : Int32) : q_Ex (dz_M300_64 s a1) (fun (x : q_S × Int32) => q_Iv c d w x.1) := by
  unfold dz_M300_64
  refine q_E_L ?_
  generalize p4557 : dz_M201 s a1 1 999 = r4
  cases r4 with
  | true =>
    have g4558 : q_rgz 1 999 (a1) := ⟨(q_p202 p4557 (q_rg_lit (n := 1) (x := 1) rfl) (q_rg_lit (n := 999) (x := 999) rfl)).1, (q_p202 p4557 (q_rg_lit (n := 1) (x := 1) rfl) (q_rg_lit (n := 999) (x := 999) rfl)).2⟩
    refine q_E_T ?_
    cases h4559 : decide ((s.1 14) 13 = 40) with
    | true =>
      have g4560 := q_rg_eqT h4559 (q_rg_lit (n := 40) (x := 40) rfl)
      refine q_E_T ?_
      have j4561 := q_fails (s) (2) hI
      refine q_E_L ?_
      generalize dz_M199_64 s 2 = r5 at j4561 ⊢
      have g4562 : q_rgz 40 40 ((r5.1.1 14) 13) := by rw [j4561.2.2.1]; exact g4560
      cases h4563 : r5.2 with
      | true =>
        refine q_E_T ?_
        exact q_E_x j4561.1
      | false =>
        exact (q_failsF j4561 h4563 (q_rg_lit (n := 2) (x := 2) rfl) (by decide)).elim
    | false =>
      have g4564 := (q_rg_neU (l := 0) (u := 40) (n := 40) (U := 39) h4559 (q_n13 hI) rfl (by decide) (by decide))
      refine q_E_F ?_
      have j4565 := q_fails (s) (0) hI
      refine q_E_L ?_
      generalize dz_M199_64 s 0 = r8 at j4565 ⊢
      have g4566 : q_rgz 0 39 ((r8.1.1 14) 13) := by rw [j4565.2.2.1]; exact g4564
      cases h4567 : r8.2 with
      | true =>
        exact (q_failsT j4565 h4567 (q_rg_lit (n := 0) (x := 0) rfl) (by decide)).elim
      | false =>
        refine q_E_F ?_
        refine q_E_L ?_
        generalize p4568 : dz_M208_64 r8.1 = r9
        cases r9 with
        | true =>
          have g4569 : q_rgz 0 39 ((r8.1.1 14) 14) := q_p209 (s := r8.1) j4565.1 p4568
          refine q_E_T ?_
          exact dzj_M300_64_56 c d w (r8.1) j4565.1 (a1) (q_rg_le (L := 1) (U := 999) g4558 (by decide) (by decide)) (q_rg_le (L := 0) (U := 39) g4566 (by decide) (by decide))
        | false =>
          refine q_E_F ?_
          exact dzj_M300_64_56 c d w (q_sA r8.1 14 (upd (r8.1.1 14) 15 a1)) (q_Iv_A (i := 14) j4565.1 (q_hf_up ((j4565.1).1 14) (q_sn15 (q_rg_full _)))) (a1) (q_rg_le (L := 1) (U := 999) g4558 (by decide) (by decide)) (show q_rgz 0 39 ((upd (r8.1.1 14) 15 a1) 13) from q_up_ne (i := 15) (j := 13) (by decide) (q_rg_le (L := 0) (U := 39) g4566 (by decide) (by decide)))
  | false =>
    refine q_E_F ?_
    have j4570 := q_fails (s) (1) hI
    refine q_E_L ?_
    generalize dz_M199_64 s 1 = r10 at j4570 ⊢
    cases h4571 : r10.2 with
    | true =>
      refine q_E_T ?_
      exact q_E_x j4570.1
    | false =>
      exact (q_failsF j4570 h4571 (q_rg_lit (n := 1) (x := 1) rfl) (by decide)).elim
set_option maxHeartbeats 4000000 in
theorem dzj_M301_64 (c d w : Int) (s : q_S) (hI : q_Iv c d w s) : (fun (x : q_S × Int32) => q_Iv c d w x.1) (dz_M301_64 s) := by
  refine q_S_of (P := (fun (x : q_S × Int32) => q_Iv c d w x.1)) ?_
  unfold dz_M301_64
  refine q_S_L ?_
  generalize p4578 : dz_M208_64 (q_sA (q_sI s 0 39 0) 14 (upd (s.1 14) 14 0)) = r1
  cases r1 with
  | true =>
    have g4579 : q_rgz 0 39 ((upd (s.1 14) 14 0) 14) := q_p209 (s := q_sA (q_sI s 0 39 0) 14 (upd (s.1 14) 14 0)) (q_Iv_A (i := 14) (q_Iv_I (i := 0) (m := 39) hI (q_rg_full _)) (q_hf_up ((hI).1 14) (q_sn14 (q_rg_le (L := 0) (U := 40) (q_rg_lit (n := 0) (x := 0) rfl) (by decide) (by decide))))) p4578
    refine q_S_T ?_
    have j4580 : q_Iv c d w (q_sA (q_sI s 0 39 0) 14 (upd (s.1 14) 14 0)) := (q_Iv_A (i := 14) (q_Iv_I (i := 0) (m := 39) hI (q_rg_full _)) (q_hf_up ((hI).1 14) (q_sn14 (q_rg_le (L := 0) (U := 40) (q_rg_lit (n := 0) (x := 0) rfl) (by decide) (by decide)))))
    refine q_S_L ?_
    generalize (q_sA (q_sI s 0 39 0) 14 (upd (s.1 14) 14 0)) = r2 at j4580 ⊢
    have j4581 := dzj_M204_64 c d w (q_sA r2 14 (upd (r2.1 14) 15 ((s.1 8) 0))) (q_Iv_A (i := 14) j4580 (q_hf_up ((j4580).1 14) (q_sn15 (q_rg_full _))))
    refine q_S_L ?_
    generalize dz_M204_64 (q_sA r2 14 (upd (r2.1 14) 15 ((s.1 8) 0))) = r3 at j4581 ⊢
    exact q_E_x j4581
  | false =>
    refine q_S_F ?_
    have j4582 : q_Iv c d w (q_sA (q_sI s 0 39 0) 14 (upd (s.1 14) 14 0)) := (q_Iv_A (i := 14) (q_Iv_I (i := 0) (m := 39) hI (q_rg_full _)) (q_hf_up ((hI).1 14) (q_sn14 (q_rg_le (L := 0) (U := 40) (q_rg_lit (n := 0) (x := 0) rfl) (by decide) (by decide)))))
    refine q_S_L ?_
    generalize (q_sA (q_sI s 0 39 0) 14 (upd (s.1 14) 14 0)) = r4 at j4582 ⊢
    have j4583 := dzj_M204_64 c d w (q_sA r4 14 (upd (r4.1 14) 15 0)) (q_Iv_A (i := 14) j4582 (q_hf_up ((j4582).1 14) (q_sn15 (q_rg_full _))))
    refine q_S_L ?_
    generalize dz_M204_64 (q_sA r4 14 (upd (r4.1 14) 15 0)) = r5 at j4583 ⊢
    exact q_E_x j4583
set_option maxHeartbeats 4000000 in
theorem dzj_M302_64 (c d w : Int) (s : q_S) (hI : q_Iv c d w s) : (fun (x : q_S × Int32) => q_Iv c d w x.1) (dz_M302_64 s) := by
  refine q_S_of (P := (fun (x : q_S × Int32) => q_Iv c d w x.1)) ?_
  unfold dz_M302_64
  have j4585 := dzj_M200_64 c d w (s) hI (((s.1 14) 13) - ((s.1 14) 14))
  refine q_S_L ?_
  generalize dz_M200_64 s (((s.1 14) 13) - ((s.1 14) 14)) = r1 at j4585 ⊢
  exact q_E_x j4585
/-! copies of rows -/
theorem q_sAA (s : q_S) (b : Nat) (f g : Nat → Int32) : q_sA (q_sA s b f) b g = q_sA s b g := by
  unfold q_sA
  congr 1
  funext j
  show cond (Nat.beq j b) g (cond (Nat.beq j b) f (s.1 j)) = cond (Nat.beq j b) g (s.1 j)
  cases Nat.beq j b <;> rfl
theorem q_sA1 (s : q_S) (b : Nat) (f : Nat → Int32) : (q_sA s b f).1 b = f := by
  show cond (Nat.beq b b) f (s.1 b) = f
  rw [Nat.beq_refl]; rfl
theorem q_sA2 (s : q_S) {a b : Nat} (f : Nat → Int32) (h : Nat.beq a b = false) : (q_sA s b f).1 a = s.1 a := by
  show cond (Nat.beq a b) f (s.1 a) = s.1 a
  rw [h]; rfl
theorem q_sA0 (s : q_S) (b : Nat) (f : Nat → Int32) (h : ∀ k, f k = s.1 b k) : q_sA s b f = s := by
  unfold q_sA
  have e : q_uA s.1 b f = s.1 := by
    funext j
    show cond (Nat.beq j b) f (s.1 j) = s.1 j
    cases e : Nat.beq j b with
    | true => rw [Nat.eq_of_beq_eq_true e]; exact funext h
    | false => rfl
  rw [e]
theorem q_lays {L : Nat → q_S → Int32 → Int32 → Int32 → Int32 → Option q_S} {a b na nb : Nat} {g : Int32 → Int32} (hab : Nat.beq a b = false)
    (hL : ∀ m s v1 v3 v4 v5, L (m + 1) s v1 v3 v4 v5 = cond (decide (v5 < v4)) (cond (q_in (v1 + v5) na) (cond (q_in (v3 + v5) nb) (L m (q_sA s b (upd (s.1 b) ((v3 + v5).toNatClampNeg) (g ((s.1 a) ((v1 + v5).toNatClampNeg))))) v1 v3 v4 (v5 + 1)) none) none) (some s))
    (s : q_S) {sp dp n : Nat} {v1 v3 v4 : Int32} (h1 : v1.toInt = (sp : Int)) (h3 : v3.toInt = (dp : Int)) (h4 : v4.toInt = (n : Int)) (ba : sp + n ≤ na) (bb : dp + n ≤ nb) (hna : na ≤ 100000) (hnb : nb ≤ 100000) :
    ∀ (j k m : Nat) (v5 : Int32), k + j = n → j ≤ m → v5.toInt = (k : Int) → L (m + 1) (q_sA s b (va_cpy (fun i => g (s.1 a i)) (s.1 b) sp dp k)) v1 v3 v4 v5 = some (q_sA s b (va_cpy (fun i => g (s.1 a i)) (s.1 b) sp dp n)) := by
  intro j
  induction j with
  | zero =>
    intro k m v5 hk hm h5
    rw [hL]
    have e : decide (v5 < v4) = false := decide_eq_false (fun q => by have := Int32.lt_iff_toInt_lt.mp q; omega)
    rw [e, show k = n by omega]
    rfl
  | succ j ih =>
    intro k m v5 hk hm h5
    obtain ⟨m', rfl⟩ : ∃ m', m = m' + 1 := ⟨m - 1, by omega⟩
    rw [hL]
    have e : decide (v5 < v4) = true := decide_eq_true (Int32.lt_iff_toInt_lt.mpr (by omega))
    have e5 : (v5 + 1).toInt = v5.toInt + 1 := q_add9 (c := 1) (by show _ ≤ v5.toInt + 1; omega) (by show v5.toInt + 1 ≤ _; omega)
    have e1 : (v1 + v5).toInt = ((sp + k : Nat) : Int) := by rw [q_add9 (by omega) (by omega)]; omega
    have e3 : (v3 + v5).toInt = ((dp + k : Nat) : Int) := by rw [q_add9 (by omega) (by omega)]; omega
    have n1 : (v1 + v5).toNatClampNeg = sp + k := by show (v1 + v5).toInt.toNat = _; omega
    have n3 : (v3 + v5).toNatClampNeg = dp + k := by show (v3 + v5).toInt.toNat = _; omega
    rw [e, q_in_rg (l := 0) (u := (sp + k : Nat)) (n := na) ⟨by omega, by omega⟩ (by decide) (by omega), q_in_rg (x := v3 + v5) (l := 0) (u := (dp + k : Nat)) (n := nb) ⟨by omega, by omega⟩ (by decide) (by omega)]
    show L (m' + 1) (q_sA (q_sA s b _) b (upd ((q_sA s b _).1 b) _ (g ((q_sA s b _).1 a _)))) v1 v3 v4 (v5 + 1) = _
    rw [q_sAA, q_sA1, q_sA2 s _ hab, n1, n3]
    have u : upd (va_cpy (fun i => g (s.1 a i)) (s.1 b) sp dp k) (dp + k) (g (s.1 a (sp + k))) = va_cpy (fun i => g (s.1 a i)) (s.1 b) sp dp (k + 1) := by
      funext i
      show (if i = dp + k then g (s.1 a (sp + k)) else if dp ≤ i ∧ i < dp + k then g (s.1 a (sp + (i - dp))) else s.1 b i) = if dp ≤ i ∧ i < dp + (k + 1) then g (s.1 a (sp + (i - dp))) else s.1 b i
      by_cases c1 : i = dp + k
      · rw [if_pos c1, if_pos (by omega), show sp + (i - dp) = sp + k by omega]
      · rw [if_neg c1]
        by_cases c2 : dp ≤ i ∧ i < dp + k
        · rw [if_pos c2, if_pos (by omega)]
        · rw [if_neg c2, if_neg (by omega)]
    rw [u]
    exact ih (k + 1) m' (v5 + 1) (by omega) (by omega) (by omega)
theorem q_lays0 {L : Nat → q_S → Int32 → Int32 → Int32 → Int32 → Option q_S} {a b na nb : Nat} {g : Int32 → Int32} (hab : Nat.beq a b = false)
    (hL : ∀ m s v1 v3 v4 v5, L (m + 1) s v1 v3 v4 v5 = cond (decide (v5 < v4)) (cond (q_in (v1 + v5) na) (cond (q_in (v3 + v5) nb) (L m (q_sA s b (upd (s.1 b) ((v3 + v5).toNatClampNeg) (g ((s.1 a) ((v1 + v5).toNatClampNeg))))) v1 v3 v4 (v5 + 1)) none) none) (some s))
    (s : q_S) {sp dp n : Nat} {v1 v3 v4 : Int32} (h1 : v1.toInt = (sp : Int)) (h3 : v3.toInt = (dp : Int)) (h4 : v4.toInt = (n : Int)) (ba : sp + n ≤ na) (bb : dp + n ≤ nb) (hna : na ≤ 100000) (hnb : nb ≤ 100000) (hn : n ≤ 4999) : L 5000 s v1 v3 v4 0 = some (q_sA s b (va_cpy (fun i => g (s.1 a i)) (s.1 b) sp dp n)) := by
  have h := q_lays hab hL s h1 h3 h4 ba bb hna hnb n 0 4999 0 (by omega) hn rfl
  have e : q_sA s b (va_cpy (fun i => g (s.1 a i)) (s.1 b) sp dp 0) = s := q_sA0 s b _ (fun k => by
    show (if dp ≤ k ∧ k < dp + 0 then g (s.1 a (sp + (k - dp))) else s.1 b k) = s.1 b k
    rw [if_neg (by omega)])
  rw [e] at h
  exact h
theorem q_hf_cp {l u : Nat → Int} {f g : Nat → Int32} {sp dp n : Nat} (hg : ∀ k, q_rgz (l k) (u k) (g k)) (hf : ∀ k, k < n → q_rgz (l (dp + k)) (u (dp + k)) (f (sp + k))) (k : Nat) : q_rgz (l k) (u k) (va_cpy f g sp dp n k) := by
  show q_rgz (l k) (u k) (if dp ≤ k ∧ k < dp + n then f (sp + (k - dp)) else g k)
  split
  · next e =>
    have h := hf (k - dp) (by omega)
    rw [show dp + (k - dp) = k by omega] at h
    exact h
  · exact hg k
theorem q_m24z {t : Nat} (k : Nat) (hk : k < 24) : (24 * t + k) % 24 = k := by omega
theorem q_m48z {t : Nat} (k : Nat) (hk : k < 48) : (48 * t + k) % 48 = k := by omega
theorem q_mulT {x : Int32} {t : Nat} {n : Int32} {N : Nat} (hx : x.toInt = (t : Int)) (ht : t < 3) (hn : n.toInt = (N : Int)) (hN : N ≤ 100000) : (n * x).toInt = ((N * t : Nat) : Int) := by
  have b1 : N * t ≤ N * 2 := Nat.mul_le_mul_left N (by omega)
  rw [Int32.toInt_mul, hx, hn]
  rw [show ((N : Int) * (t : Int)) = ((N * t : Nat) : Int) by exact_mod_cast rfl]
  exact Int.bmod_eq_of_le (by omega) (by omega)

theorem dzl_M303_65_80 (s : q_S) (t : Nat) (ht : t < 3) {v1 v3 v4 : Int32} (h1 : v1.toInt = 0) (h3 : v3.toInt = ((4096 * t : Nat) : Int)) (h4 : v4.toInt = 4096) : dz_M303_65_80 s v1 v3 v4 = some (q_sA s 16 (va_cpy (s.1 1) (s.1 16) 0 (4096 * t) 4096)) := q_lays0 (L := fun m => dz_M303_65_80_3 m) (a := 1) (b := 16) (na := 4096) (nb := 12288) (g := (fun x => x)) rfl (fun _ _ _ _ _ _ => rfl) s h1 h3 h4 (by omega) (by omega) (by decide) (by decide) (by decide)
theorem dzi_M303_65_80 {c d w : Int} {s : q_S} (h : q_Iv c d w s) (t : Nat) : q_Iv c d w (q_sA s 16 (va_cpy (s.1 1) (s.1 16) 0 (4096 * t) 4096)) := q_Iv_A (i := 16) h (q_hf_cp (h.1 16) (fun k hk => h.1 1 _))

theorem dzl_M303_66_81 (s : q_S) (t : Nat) (ht : t < 3) {v1 v3 v4 : Int32} (h1 : v1.toInt = 0) (h3 : v3.toInt = ((512 * t : Nat) : Int)) (h4 : v4.toInt = 512) : dz_M303_66_81 s v1 v3 v4 = some (q_sA s 17 (va_cpy (s.1 2) (s.1 17) 0 (512 * t) 512)) := q_lays0 (L := fun m => dz_M303_66_81_3 m) (a := 2) (b := 17) (na := 512) (nb := 1536) (g := (fun x => x)) rfl (fun _ _ _ _ _ _ => rfl) s h1 h3 h4 (by omega) (by omega) (by decide) (by decide) (by decide)
theorem dzi_M303_66_81 {c d w : Int} {s : q_S} (h : q_Iv c d w s) (t : Nat) : q_Iv c d w (q_sA s 17 (va_cpy (s.1 2) (s.1 17) 0 (512 * t) 512)) := q_Iv_A (i := 17) h (q_hf_cp (h.1 17) (fun k hk => h.1 2 _))

theorem dzl_M303_67_82 (s : q_S) (t : Nat) (ht : t < 3) {v1 v3 v4 : Int32} (h1 : v1.toInt = 0) (h3 : v3.toInt = ((2048 * t : Nat) : Int)) (h4 : v4.toInt = 2048) : dz_M303_67_82 s v1 v3 v4 = some (q_sA s 18 (va_cpy (s.1 3) (s.1 18) 0 (2048 * t) 2048)) := q_lays0 (L := fun m => dz_M303_67_82_3 m) (a := 3) (b := 18) (na := 2048) (nb := 6144) (g := (fun x => x)) rfl (fun _ _ _ _ _ _ => rfl) s h1 h3 h4 (by omega) (by omega) (by decide) (by decide) (by decide)
theorem dzi_M303_67_82 {c d w : Int} {s : q_S} (h : q_Iv c d w s) (t : Nat) : q_Iv c d w (q_sA s 18 (va_cpy (s.1 3) (s.1 18) 0 (2048 * t) 2048)) := q_Iv_A (i := 18) h (q_hf_cp (h.1 18) (fun k hk => h.1 3 _))

theorem dzl_M303_68_83 (s : q_S) (t : Nat) (ht : t < 3) {v1 v3 v4 : Int32} (h1 : v1.toInt = 0) (h3 : v3.toInt = ((48 * t : Nat) : Int)) (h4 : v4.toInt = 48) : dz_M303_68_83 s v1 v3 v4 = some (q_sA s 19 (va_cpy (s.1 4) (s.1 19) 0 (48 * t) 48)) := q_lays0 (L := fun m => dz_M303_68_83_3 m) (a := 4) (b := 19) (na := 48) (nb := 144) (g := (fun x => x)) rfl (fun _ _ _ _ _ _ => rfl) s h1 h3 h4 (by omega) (by omega) (by decide) (by decide) (by decide)
theorem dzi_M303_68_83 {c d w : Int} {s : q_S} (h : q_Iv c d w s) (t : Nat) : q_Iv c d w (q_sA s 19 (va_cpy (s.1 4) (s.1 19) 0 (48 * t) 48)) := q_Iv_A (i := 19) h (q_hf_cp (h.1 19) (fun k hk => by show q_rgz 0 (q_hg ((48 * t + k) % 48)) (s.1 4 (0 + k)); rw [q_m48z k hk, Nat.zero_add]; exact h.1 4 k))

theorem dzl_M303_69_84 (s : q_S) (t : Nat) (ht : t < 3) {v1 v3 v4 : Int32} (h1 : v1.toInt = 0) (h3 : v3.toInt = ((1024 * t : Nat) : Int)) (h4 : v4.toInt = 1024) : dz_M303_69_84 s v1 v3 v4 = some (q_sA s 20 (va_cpy (s.1 5) (s.1 20) 0 (1024 * t) 1024)) := q_lays0 (L := fun m => dz_M303_69_84_3 m) (a := 5) (b := 20) (na := 1024) (nb := 3072) (g := (fun x => x)) rfl (fun _ _ _ _ _ _ => rfl) s h1 h3 h4 (by omega) (by omega) (by decide) (by decide) (by decide)
theorem dzi_M303_69_84 {c d w : Int} {s : q_S} (h : q_Iv c d w s) (t : Nat) : q_Iv c d w (q_sA s 20 (va_cpy (s.1 5) (s.1 20) 0 (1024 * t) 1024)) := q_Iv_A (i := 20) h (q_hf_cp (h.1 20) (fun k hk => h.1 5 _))

theorem dzl_M303_70_85 (s : q_S) (t : Nat) (ht : t < 3) {v1 v3 v4 : Int32} (h1 : v1.toInt = 0) (h3 : v3.toInt = ((40 * t : Nat) : Int)) (h4 : v4.toInt = 40) : dz_M303_70_85 s v1 v3 v4 = some (q_sA s 21 (va_cpy (s.1 6) (s.1 21) 0 (40 * t) 40)) := q_lays0 (L := fun m => dz_M303_70_85_3 m) (a := 6) (b := 21) (na := 40) (nb := 120) (g := (fun x => x)) rfl (fun _ _ _ _ _ _ => rfl) s h1 h3 h4 (by omega) (by omega) (by decide) (by decide) (by decide)
theorem dzi_M303_70_85 {c d w : Int} {s : q_S} (h : q_Iv c d w s) (t : Nat) : q_Iv c d w (q_sA s 21 (va_cpy (s.1 6) (s.1 21) 0 (40 * t) 40)) := q_Iv_A (i := 21) h (q_hf_cp (h.1 21) (fun k hk => h.1 6 _))

theorem dzl_M303_72_87 (s : q_S) (t : Nat) (ht : t < 3) {v1 v3 v4 : Int32} (h1 : v1.toInt = 0) (h3 : v3.toInt = ((40 * t : Nat) : Int)) (h4 : v4.toInt = 40) : dz_M303_72_87 s v1 v3 v4 = some (q_sA s 23 (va_cpy (s.1 8) (s.1 23) 0 (40 * t) 40)) := q_lays0 (L := fun m => dz_M303_72_87_3 m) (a := 8) (b := 23) (na := 40) (nb := 120) (g := (fun x => x)) rfl (fun _ _ _ _ _ _ => rfl) s h1 h3 h4 (by omega) (by omega) (by decide) (by decide) (by decide)
theorem dzi_M303_72_87 {c d w : Int} {s : q_S} (h : q_Iv c d w s) (t : Nat) : q_Iv c d w (q_sA s 23 (va_cpy (s.1 8) (s.1 23) 0 (40 * t) 40)) := q_Iv_A (i := 23) h (q_hf_cp (h.1 23) (fun k hk => h.1 8 _))

theorem dzl_M303_73_88 (s : q_S) (t : Nat) (ht : t < 3) {v1 v3 v4 : Int32} (h1 : v1.toInt = 0) (h3 : v3.toInt = ((16 * t : Nat) : Int)) (h4 : v4.toInt = 16) : dz_M303_73_88 s v1 v3 v4 = some (q_sA s 24 (va_cpy (s.1 9) (s.1 24) 0 (16 * t) 16)) := q_lays0 (L := fun m => dz_M303_73_88_3 m) (a := 9) (b := 24) (na := 16) (nb := 48) (g := (fun x => x)) rfl (fun _ _ _ _ _ _ => rfl) s h1 h3 h4 (by omega) (by omega) (by decide) (by decide) (by decide)
theorem dzi_M303_73_88 {c d w : Int} {s : q_S} (h : q_Iv c d w s) (t : Nat) : q_Iv c d w (q_sA s 24 (va_cpy (s.1 9) (s.1 24) 0 (16 * t) 16)) := q_Iv_A (i := 24) h (q_hf_cp (h.1 24) (fun k hk => h.1 9 _))

theorem dzl_M303_74_89 (s : q_S) (t : Nat) (ht : t < 3) {v1 v3 v4 : Int32} (h1 : v1.toInt = 0) (h3 : v3.toInt = ((3 * t : Nat) : Int)) (h4 : v4.toInt = 3) : dz_M303_74_89 s v1 v3 v4 = some (q_sA s 25 (va_cpy (s.1 10) (s.1 25) 0 (3 * t) 3)) := q_lays0 (L := fun m => dz_M303_74_89_3 m) (a := 10) (b := 25) (na := 3) (nb := 9) (g := (fun x => x)) rfl (fun _ _ _ _ _ _ => rfl) s h1 h3 h4 (by omega) (by omega) (by decide) (by decide) (by decide)
theorem dzi_M303_74_89 {c d w : Int} {s : q_S} (h : q_Iv c d w s) (t : Nat) : q_Iv c d w (q_sA s 25 (va_cpy (s.1 10) (s.1 25) 0 (3 * t) 3)) := q_Iv_A (i := 25) h (q_hf_cp (h.1 25) (fun k hk => h.1 10 _))

theorem dzl_M303_75_90 (s : q_S) (t : Nat) (ht : t < 3) {v1 v3 v4 : Int32} (h1 : v1.toInt = 0) (h3 : v3.toInt = ((3 * t : Nat) : Int)) (h4 : v4.toInt = 3) : dz_M303_75_90 s v1 v3 v4 = some (q_sA s 26 (va_cpy (s.1 11) (s.1 26) 0 (3 * t) 3)) := q_lays0 (L := fun m => dz_M303_75_90_3 m) (a := 11) (b := 26) (na := 3) (nb := 9) (g := (fun x => x)) rfl (fun _ _ _ _ _ _ => rfl) s h1 h3 h4 (by omega) (by omega) (by decide) (by decide) (by decide)
theorem dzi_M303_75_90 {c d w : Int} {s : q_S} (h : q_Iv c d w s) (t : Nat) : q_Iv c d w (q_sA s 26 (va_cpy (s.1 11) (s.1 26) 0 (3 * t) 3)) := q_Iv_A (i := 26) h (q_hf_cp (h.1 26) (fun k hk => h.1 11 _))

theorem dzl_M303_76_91 (s : q_S) (t : Nat) (ht : t < 3) {v1 v3 v4 : Int32} (h1 : v1.toInt = 0) (h3 : v3.toInt = ((3 * t : Nat) : Int)) (h4 : v4.toInt = 3) : dz_M303_76_91 s v1 v3 v4 = some (q_sA s 27 (va_cpy (s.1 12) (s.1 27) 0 (3 * t) 3)) := q_lays0 (L := fun m => dz_M303_76_91_3 m) (a := 12) (b := 27) (na := 3) (nb := 9) (g := (fun x => x)) rfl (fun _ _ _ _ _ _ => rfl) s h1 h3 h4 (by omega) (by omega) (by decide) (by decide) (by decide)
theorem dzi_M303_76_91 {c d w : Int} {s : q_S} (h : q_Iv c d w s) (t : Nat) : q_Iv c d w (q_sA s 27 (va_cpy (s.1 12) (s.1 27) 0 (3 * t) 3)) := q_Iv_A (i := 27) h (q_hf_cp (h.1 27) (fun k hk => h.1 12 _))

theorem dzl_M303_77_92 (s : q_S) (t : Nat) (ht : t < 3) {v1 v3 v4 : Int32} (h1 : v1.toInt = 0) (h3 : v3.toInt = ((3 * t : Nat) : Int)) (h4 : v4.toInt = 3) : dz_M303_77_92 s v1 v3 v4 = some (q_sA s 28 (va_cpy (s.1 13) (s.1 28) 0 (3 * t) 3)) := q_lays0 (L := fun m => dz_M303_77_92_3 m) (a := 13) (b := 28) (na := 3) (nb := 9) (g := (fun x => x)) rfl (fun _ _ _ _ _ _ => rfl) s h1 h3 h4 (by omega) (by omega) (by decide) (by decide) (by decide)
theorem dzi_M303_77_92 {c d w : Int} {s : q_S} (h : q_Iv c d w s) (t : Nat) : q_Iv c d w (q_sA s 28 (va_cpy (s.1 13) (s.1 28) 0 (3 * t) 3)) := q_Iv_A (i := 28) h (q_hf_cp (h.1 28) (fun k hk => h.1 13 _))

theorem dzl_M303_78_93 (s : q_S) (t : Nat) (ht : t < 3) {v1 v3 v4 : Int32} (h1 : v1.toInt = 0) (h3 : v3.toInt = ((24 * t : Nat) : Int)) (h4 : v4.toInt = 24) : dz_M303_78_93 s v1 v3 v4 = some (q_sA s 29 (va_cpy (s.1 14) (s.1 29) 0 (24 * t) 24)) := q_lays0 (L := fun m => dz_M303_78_93_3 m) (a := 14) (b := 29) (na := 24) (nb := 72) (g := (fun x => x)) rfl (fun _ _ _ _ _ _ => rfl) s h1 h3 h4 (by omega) (by omega) (by decide) (by decide) (by decide)
theorem dzi_M303_78_93 {c d w : Int} {s : q_S} (h : q_Iv c d w s) (t : Nat) : q_Iv c d w (q_sA s 29 (va_cpy (s.1 14) (s.1 29) 0 (24 * t) 24)) := q_Iv_A (i := 29) h (q_hf_cp (h.1 29) (fun k hk => by show q_rgz (q_lr 14 ((24 * t + k) % 24)) (q_hn d ((24 * t + k) % 24)) (s.1 14 (0 + k)); rw [q_m24z k hk, Nat.zero_add]; exact h.1 14 k))

theorem dzl_M304_71_86 (s : q_S) (t : Nat) (ht : t < 3) {v1 v3 v4 : Int32} (h1 : v1.toInt = 0) (h3 : v3.toInt = ((16 * t : Nat) : Int)) (h4 : v4.toInt = 16) : dz_M304_71_86 s v1 v3 v4 = some (q_sA s 22 (va_cpy (fun i => vp_nar .boolean (s.1 7 i)) (s.1 22) 0 (16 * t) 16)) := q_lays0 (L := fun m => dz_M304_71_86_3 m) (a := 7) (b := 22) (na := 16) (nb := 48) (g := (fun x => vp_nar .boolean x)) rfl (fun _ _ _ _ _ _ => rfl) s h1 h3 h4 (by omega) (by omega) (by decide) (by decide) (by decide)
theorem dzi_M304_71_86 {c d w : Int} {s : q_S} (h : q_Iv c d w s) (t : Nat) : q_Iv c d w (q_sA s 22 (va_cpy (fun i => vp_nar .boolean (s.1 7 i)) (s.1 22) 0 (16 * t) 16)) := q_Iv_A (i := 22) h (q_hf_cp (h.1 22) (fun k hk => q_rg_nb _))

theorem dzl_M304_79_94 (s : q_S) (t : Nat) (ht : t < 3) {v1 v3 v4 : Int32} (h1 : v1.toInt = 0) (h3 : v3.toInt = ((8 * t : Nat) : Int)) (h4 : v4.toInt = 8) : dz_M304_79_94 s v1 v3 v4 = some (q_sA s 30 (va_cpy (fun i => vp_nar .boolean (s.1 15 i)) (s.1 30) 0 (8 * t) 8)) := q_lays0 (L := fun m => dz_M304_79_94_3 m) (a := 15) (b := 30) (na := 8) (nb := 24) (g := (fun x => vp_nar .boolean x)) rfl (fun _ _ _ _ _ _ => rfl) s h1 h3 h4 (by omega) (by omega) (by decide) (by decide) (by decide)
theorem dzi_M304_79_94 {c d w : Int} {s : q_S} (h : q_Iv c d w s) (t : Nat) : q_Iv c d w (q_sA s 30 (va_cpy (fun i => vp_nar .boolean (s.1 15 i)) (s.1 30) 0 (8 * t) 8)) := q_Iv_A (i := 30) h (q_hf_cp (h.1 30) (fun k hk => q_rg_nb _))

/-- what save lays, and what restore lays back -/
def q_sv (t : Nat) (s : q_S) : q_S := (q_sA (q_sA (q_sA (q_sA (q_sA (q_sA (q_sA (q_sA (q_sA (q_sA (q_sA (q_sA (q_sA (q_sA (q_sA s 16 (va_cpy (s.1 1) (s.1 16) 0 (4096 * t) 4096)) 17 (va_cpy (s.1 2) (s.1 17) 0 (512 * t) 512)) 18 (va_cpy (s.1 3) (s.1 18) 0 (2048 * t) 2048)) 19 (va_cpy (s.1 4) (s.1 19) 0 (48 * t) 48)) 20 (va_cpy (s.1 5) (s.1 20) 0 (1024 * t) 1024)) 21 (va_cpy (s.1 6) (s.1 21) 0 (40 * t) 40)) 23 (va_cpy (s.1 8) (s.1 23) 0 (40 * t) 40)) 24 (va_cpy (s.1 9) (s.1 24) 0 (16 * t) 16)) 25 (va_cpy (s.1 10) (s.1 25) 0 (3 * t) 3)) 26 (va_cpy (s.1 11) (s.1 26) 0 (3 * t) 3)) 27 (va_cpy (s.1 12) (s.1 27) 0 (3 * t) 3)) 28 (va_cpy (s.1 13) (s.1 28) 0 (3 * t) 3)) 29 (va_cpy (s.1 14) (s.1 29) 0 (24 * t) 24)) 22 (va_cpy (fun i => vp_nar .boolean (s.1 7 i)) (s.1 22) 0 (16 * t) 16)) 30 (va_cpy (fun i => vp_nar .boolean (s.1 15 i)) (s.1 30) 0 (8 * t) 8))
theorem q_sv_I {c d w : Int} {s : q_S} (h : q_Iv c d w s) (t : Nat) : q_Iv c d w (q_sv t s) := by
  unfold q_sv
  exact (dzi_M304_79_94 (dzi_M304_71_86 (dzi_M303_78_93 (dzi_M303_77_92 (dzi_M303_76_91 (dzi_M303_75_90 (dzi_M303_74_89 (dzi_M303_73_88 (dzi_M303_72_87 (dzi_M303_70_85 (dzi_M303_69_84 (dzi_M303_68_83 (dzi_M303_67_82 (dzi_M303_66_81 (dzi_M303_65_80 h t) t) t) t) t) t) t) t) t) t) t) t) t) t) t)
theorem q_svJ {c d w : Int} {s : q_S} {i j : Nat} (h : q_Iv c d w s) : q_Iv c d w (q_sL (q_sL s 31 (vp_updL (s.2.2 31) i (s.2.2 0 15))) 31 (vp_updL (vp_updL (s.2.2 31) i (s.2.2 0 15)) j (s.2.2 0 16))) := q_Iv_L (q_Iv_L h (q_hf_upL (fun k => h.2.2 31 k rfl) (h.2.2 0 15 rfl))) (q_hf_upL (q_hf_upL (fun k => h.2.2 31 k rfl) (h.2.2 0 15 rfl)) (h.2.2 0 16 rfl))
theorem q_sv_f (t : Nat) (s : q_S) : (q_sv t s).2 = s.2 := rfl
theorem q_sv_run (c d w : Int) (s : q_S) (hI : q_Iv c d w s) (x : Int32) (t : Nat) (ht : t < 3) (hx : x.toInt = (t : Int)) (hx2 : s.2.1 0 17 = x) (f : q_S → Option (q_S × Int32)) (P : q_S × Int32 → Prop) (hf : q_Ex (f (q_sv t s)) P) : q_Ex ((dz_M303_65_80 s 0 (4096 * x) 4096).bind fun r0 => (dz_M303_66_81 r0 0 (512 * x) 512).bind fun r1 => (dz_M303_67_82 r1 0 (2048 * x) 2048).bind fun r2 => (dz_M303_68_83 r2 0 (48 * x) 48).bind fun r3 => (dz_M303_69_84 r3 0 (1024 * x) 1024).bind fun r4 => (dz_M303_70_85 r4 0 (40 * x) 40).bind fun r5 => (dz_M303_72_87 r5 0 (40 * x) 40).bind fun r6 => (dz_M303_73_88 r6 0 (16 * x) 16).bind fun r7 => (dz_M303_74_89 r7 0 (3 * x) 3).bind fun r8 => (dz_M303_75_90 r8 0 (3 * x) 3).bind fun r9 => (dz_M303_76_91 r9 0 (3 * x) 3).bind fun r10 => (dz_M303_77_92 r10 0 (3 * x) 3).bind fun r11 => (dz_M303_78_93 r11 0 (24 * x) 24).bind fun r12 => (dz_M304_71_86 r12 0 (16 * x) 16).bind fun r13 => (dz_M304_79_94 r13 0 (8 * x) 8).bind fun r14 => f r14) P := by
  rw [dzl_M303_65_80 _ t ht rfl (q_mulT hx ht (n := 4096) rfl (by decide)) rfl]
  refine q_E_B ?_
  rw [dzl_M303_66_81 _ t ht rfl (q_mulT hx ht (n := 512) rfl (by decide)) rfl]
  refine q_E_B ?_
  rw [dzl_M303_67_82 _ t ht rfl (q_mulT hx ht (n := 2048) rfl (by decide)) rfl]
  refine q_E_B ?_
  rw [dzl_M303_68_83 _ t ht rfl (q_mulT hx ht (n := 48) rfl (by decide)) rfl]
  refine q_E_B ?_
  rw [dzl_M303_69_84 _ t ht rfl (q_mulT hx ht (n := 1024) rfl (by decide)) rfl]
  refine q_E_B ?_
  rw [dzl_M303_70_85 _ t ht rfl (q_mulT hx ht (n := 40) rfl (by decide)) rfl]
  refine q_E_B ?_
  rw [dzl_M303_72_87 _ t ht rfl (q_mulT hx ht (n := 40) rfl (by decide)) rfl]
  refine q_E_B ?_
  rw [dzl_M303_73_88 _ t ht rfl (q_mulT hx ht (n := 16) rfl (by decide)) rfl]
  refine q_E_B ?_
  rw [dzl_M303_74_89 _ t ht rfl (q_mulT hx ht (n := 3) rfl (by decide)) rfl]
  refine q_E_B ?_
  rw [dzl_M303_75_90 _ t ht rfl (q_mulT hx ht (n := 3) rfl (by decide)) rfl]
  refine q_E_B ?_
  rw [dzl_M303_76_91 _ t ht rfl (q_mulT hx ht (n := 3) rfl (by decide)) rfl]
  refine q_E_B ?_
  rw [dzl_M303_77_92 _ t ht rfl (q_mulT hx ht (n := 3) rfl (by decide)) rfl]
  refine q_E_B ?_
  rw [dzl_M303_78_93 _ t ht rfl (q_mulT hx ht (n := 24) rfl (by decide)) rfl]
  refine q_E_B ?_
  rw [dzl_M304_71_86 _ t ht rfl (q_mulT hx ht (n := 16) rfl (by decide)) rfl]
  refine q_E_B ?_
  rw [dzl_M304_79_94 _ t ht rfl (q_mulT hx ht (n := 8) rfl (by decide)) rfl]
  refine q_E_B ?_
  exact hf
theorem dzj_M305_64 (c d w : Int) (s : q_S) (hI : q_Iv c d w s) : q_Ex (dz_M305_64 s) (fun x => q_Iv c d w x.1) := by
  unfold dz_M305_64
  have g : q_rgz 0 3 (s.2.1 0 17) := hI.2.1 0 17
  cases h : decide (s.2.1 0 17 = 3) with
  | true =>
    refine q_E_T (q_E_L ?_)
    have j := q_fails s 1 hI
    generalize dz_M199_64 s 1 = r at j ⊢
    cases h : r.2 with
    | true => exact q_E_T (q_E_x j.1)
    | false => exact (q_failsF j h (q_rg_lit (n := 1) rfl) (by decide)).elim
  | false =>
    refine q_E_F (q_E_L ?_)
    have g2 := q_rg_neU (U := 2) h g (q_rg_lit (n := 3) (x := 3) rfl |>.1 |> fun _ => rfl) rfl (by decide)
    have j := q_fails s 0 hI
    generalize dz_M199_64 s 0 = r at j ⊢
    cases h : r.2 with
    | true => exact (q_failsT j h (q_rg_lit (n := 0) rfl) (by decide)).elim
    | false =>
      refine q_E_F ?_
      have e17 := j.2.2.2.1 17 rfl
      have g3 : q_rgz 0 2 (r.1.2.1 0 17) := by rw [e17]; exact g2
      have jI := j.1
      generalize hx2 : r.1.2.1 0 17 = x at g3 ⊢
      have t0 := g3.1
      have t1 := g3.2
      refine q_sv_run c d w r.1 jI x x.toInt.toNat (by omega) (by omega) hx2 (fun r1487 => cond (q_in (2 * x) 6) (cond (q_in ((2 * x) + 1) 6) (q_let ((q_sL r1487 31 (vp_updL (r1487.2.2 31) ((2 * x).toNatClampNeg) (r1487.2.2 0 15)))) fun r1488 => some ((q_sI (q_sL r1488 31 (vp_updL (r1488.2.2 31) (((2 * x) + 1).toNatClampNeg) (r1487.2.2 0 16))) 0 17 ((r1488.2.1 0 17) + 1)), x)) none) none) _ ?_
      have I2 := q_sv_I jI x.toInt.toNat
      have m2 := q_rg_mul (a := 2) (L := 0) (U := 4) (q_rg_lit (n := 2) rfl) g3 (by decide) (by decide) (by decide) (by decide) (by decide) (by decide)
      refine q_E_A (q_in_rg m2 (by decide) (by decide)) (q_E_A (q_in_rg (q_rg_add (L := 1) (U := 5) m2 (q_rg_lit (n := 1) (x := 1) rfl) (by decide) (by decide) (by decide) (by decide)) (by decide) (by decide)) (q_E_L (q_E_x ?_)))
      refine q_Iv_I (i := 0) (m := 17) (q_svJ I2) ?_
      show q_rgz 0 3 ((r.1.2.1 0 17) + 1)
      rw [hx2]
      exact q_rg_le (q_rg_add (L := 1) (U := 3) g3 (q_rg_lit (n := 1) (x := 1) rfl) (by decide) (by decide) (by decide) (by decide)) (by decide) (by decide)

set_option maxHeartbeats 4000000 in
theorem dzjb_M306_64_4 (c d w : Int) (k4 : q_S → Int32 → Int32 → Int32 → Option (Int32)) (M4 : Int) (tk4 : ∀ (s : q_S), q_Iv c d w s → ∀ (v1 : Int32) (v2 : Int32) (v3 : Int32), q_rgz 0 2 v1 → q_rgz 0 4096 v3 → ((4096 - v3.toInt).toNat : Int) ≤ M4 → q_Ex (k4 s v1 v2 v3) (fun _ => True)) (s : q_S) (hI : q_Iv c d w s) (v1 : Int32) (v2 : Int32) (v3 : Int32) (rv1 : q_rgz 0 2 v1) (rv3 : q_rgz 0 4096 v3) (m4 : ((4096 - v3.toInt).toNat : Int) ≤ M4 + 1) : q_Ex (cond (decide (v3 < 4096)) (cond (q_in v3 4096) (cond (q_in ((4096 * v1) + v3) 12288) (cond (decide ((s.1 1) (v3.toNatClampNeg) = (s.1 16) (((4096 * v1) + v3).toNatClampNeg))) (k4 s v1 (v2 + 0) (v3 + 1)) (k4 s v1 (v2 + 1) (v3 + 1))) none) none) (some v2)) (fun _ => True) := by
  cases h4606 : decide (v3 < 4096) with
  | true =>
    have g4607 := (q_rg_ltT1 (l := 0) (U := 4095) h4606 rv3 (q_rg_lit (n := 4096) (x := 4096) rfl) (by decide))
    refine q_E_T ?_
    refine q_E_A (q_in_rg g4607 (by decide) (by decide)) ?_
    refine q_E_A (q_in_rg (q_rg_add (L := 0) (U := 12287) (q_rg_mul (L := 0) (U := 8192) (q_rg_lit (n := 4096) (x := 4096) rfl) rv1 (by decide) (by decide) (by decide) (by decide) (by decide) (by decide)) g4607 (by decide) (by decide) (by decide) (by decide)) (by decide) (by decide)) ?_
    cases h4608 : decide ((s.1 1) (v3.toNatClampNeg) = (s.1 16) (((4096 * v1) + v3).toNatClampNeg)) with
    | true =>
      refine q_E_T ?_
      exact tk4 (s) hI (v1) (v2 + 0) (v3 + 1) (q_rg_le (L := 0) (U := 2) rv1 (by decide) (by decide)) (q_rg_le (L := 0) (U := 4096) (q_rg_add (L := 1) (U := 4096) g4607 (q_rg_lit (n := 1) (x := 1) rfl) (by decide) (by decide) (by decide) (by decide)) (by decide) (by decide)) (q_meu g4607 m4 (by decide) (by decide))
    | false =>
      refine q_E_F ?_
      exact tk4 (s) hI (v1) (v2 + 1) (v3 + 1) (q_rg_le (L := 0) (U := 2) rv1 (by decide) (by decide)) (q_rg_le (L := 0) (U := 4096) (q_rg_add (L := 1) (U := 4096) g4607 (q_rg_lit (n := 1) (x := 1) rfl) (by decide) (by decide) (by decide) (by decide)) (by decide) (by decide)) (q_meu g4607 m4 (by decide) (by decide))
  | false =>
    have g4609 := (q_rg_ltF1 (l2 := 4096) (u := 4096) h4606 rv3 (q_rg_lit (n := 4096) (x := 4096) rfl))
    refine q_E_F ?_
    exact q_E_x trivial
theorem dzj_M306_64_4 (c d w : Int) : ∀ (m : Nat) (s : q_S) (hI : q_Iv c d w s) (v1 : Int32) (v2 : Int32) (v3 : Int32) (rv1 : q_rgz 0 2 v1) (rv3 : q_rgz 0 4096 v3), ((4096 - v3.toInt).toNat : Int) ≤ (m : Int) → q_Ex (dz_M306_64_4 (m + 1) s v1 v2 v3) (fun _ => True) := by
  intro m
  induction m with
  | zero => intro s hI v1 v2 v3 rv1 rv3 hm; rw [dzs_M306_64_4]; exact dzjb_M306_64_4 c d w (dz_M306_64_4 0) (-1) (fun s hI v1 v2 v3 rv1 rv3 hm => absurd hm (by omega)) s hI v1 v2 v3 rv1 rv3 (by omega)
  | succ m ih => intro s hI v1 v2 v3 rv1 rv3 hm; rw [dzs_M306_64_4]; exact dzjb_M306_64_4 c d w (dz_M306_64_4 (m + 1)) (m : Int) (fun s hI v1 v2 v3 rv1 rv3 hm => ih s hI v1 v2 v3 rv1 rv3 hm) s hI v1 v2 v3 rv1 rv3 (by omega)
set_option maxHeartbeats 4000000 in
theorem dzj_M306_64 (c d w : Int) (s : q_S) (hI : q_Iv c d w s) (a1 : Int32) (ra1 : q_rgz 0 2 a1) : q_Ex (dz_M306_64 s a1) (fun _ => True) := by
  unfold dz_M306_64
  exact dzj_M306_64_4 c d w 4999 (s) hI (a1) (0) (0) (q_rg_le (L := 0) (U := 2) ra1 (by decide) (by decide)) (q_rg_le (L := 0) (U := 4096) (q_rg_lit (n := 0) (x := 0) rfl) (by decide) (by decide)) (q_meu0 (q_rg_lit (n := 0) (x := 0) rfl) (by decide) (by decide))
theorem dzl_M303_80_65 (s : q_S) (t : Nat) (ht : t < 3) {v1 v3 v4 : Int32} (h1 : v1.toInt = ((4096 * t : Nat) : Int)) (h3 : v3.toInt = 0) (h4 : v4.toInt = 4096) : dz_M303_80_65 s v1 v3 v4 = some (q_sA s 1 (va_cpy (s.1 16) (s.1 1) (4096 * t) 0 4096)) := q_lays0 (L := fun m => dz_M303_80_65_3 m) (a := 16) (b := 1) (na := 12288) (nb := 4096) (g := (fun x => x)) rfl (fun _ _ _ _ _ _ => rfl) s h1 h3 h4 (by omega) (by omega) (by decide) (by decide) (by decide)
theorem dzi_M303_80_65 {c d w : Int} {s : q_S} (h : q_Iv c d w s) (t : Nat) : q_Iv c d w (q_sA s 1 (va_cpy (s.1 16) (s.1 1) (4096 * t) 0 4096)) := q_Iv_A (i := 1) h (q_hf_cp (h.1 1) (fun k hk => h.1 16 _))

theorem dzl_M303_81_66 (s : q_S) (t : Nat) (ht : t < 3) {v1 v3 v4 : Int32} (h1 : v1.toInt = ((512 * t : Nat) : Int)) (h3 : v3.toInt = 0) (h4 : v4.toInt = 512) : dz_M303_81_66 s v1 v3 v4 = some (q_sA s 2 (va_cpy (s.1 17) (s.1 2) (512 * t) 0 512)) := q_lays0 (L := fun m => dz_M303_81_66_3 m) (a := 17) (b := 2) (na := 1536) (nb := 512) (g := (fun x => x)) rfl (fun _ _ _ _ _ _ => rfl) s h1 h3 h4 (by omega) (by omega) (by decide) (by decide) (by decide)
theorem dzi_M303_81_66 {c d w : Int} {s : q_S} (h : q_Iv c d w s) (t : Nat) : q_Iv c d w (q_sA s 2 (va_cpy (s.1 17) (s.1 2) (512 * t) 0 512)) := q_Iv_A (i := 2) h (q_hf_cp (h.1 2) (fun k hk => h.1 17 _))

theorem dzl_M303_82_67 (s : q_S) (t : Nat) (ht : t < 3) {v1 v3 v4 : Int32} (h1 : v1.toInt = ((2048 * t : Nat) : Int)) (h3 : v3.toInt = 0) (h4 : v4.toInt = 2048) : dz_M303_82_67 s v1 v3 v4 = some (q_sA s 3 (va_cpy (s.1 18) (s.1 3) (2048 * t) 0 2048)) := q_lays0 (L := fun m => dz_M303_82_67_3 m) (a := 18) (b := 3) (na := 6144) (nb := 2048) (g := (fun x => x)) rfl (fun _ _ _ _ _ _ => rfl) s h1 h3 h4 (by omega) (by omega) (by decide) (by decide) (by decide)
theorem dzi_M303_82_67 {c d w : Int} {s : q_S} (h : q_Iv c d w s) (t : Nat) : q_Iv c d w (q_sA s 3 (va_cpy (s.1 18) (s.1 3) (2048 * t) 0 2048)) := q_Iv_A (i := 3) h (q_hf_cp (h.1 3) (fun k hk => h.1 18 _))

theorem dzl_M303_83_68 (s : q_S) (t : Nat) (ht : t < 3) {v1 v3 v4 : Int32} (h1 : v1.toInt = ((48 * t : Nat) : Int)) (h3 : v3.toInt = 0) (h4 : v4.toInt = 48) : dz_M303_83_68 s v1 v3 v4 = some (q_sA s 4 (va_cpy (s.1 19) (s.1 4) (48 * t) 0 48)) := q_lays0 (L := fun m => dz_M303_83_68_3 m) (a := 19) (b := 4) (na := 144) (nb := 48) (g := (fun x => x)) rfl (fun _ _ _ _ _ _ => rfl) s h1 h3 h4 (by omega) (by omega) (by decide) (by decide) (by decide)
theorem dzi_M303_83_68 {c d w : Int} {s : q_S} (h : q_Iv c d w s) (t : Nat) : q_Iv c d w (q_sA s 4 (va_cpy (s.1 19) (s.1 4) (48 * t) 0 48)) := q_Iv_A (i := 4) h (q_hf_cp (h.1 4) (fun k hk => by have e : q_rgz 0 (q_hg ((48 * t + k) % 48)) (s.1 19 (48 * t + k)) := h.1 19 (48 * t + k); show q_rgz 0 (q_hg (0 + k)) (s.1 19 (48 * t + k)); rw [Nat.zero_add]; rw [q_m48z k hk] at e; exact e))

theorem dzl_M303_84_69 (s : q_S) (t : Nat) (ht : t < 3) {v1 v3 v4 : Int32} (h1 : v1.toInt = ((1024 * t : Nat) : Int)) (h3 : v3.toInt = 0) (h4 : v4.toInt = 1024) : dz_M303_84_69 s v1 v3 v4 = some (q_sA s 5 (va_cpy (s.1 20) (s.1 5) (1024 * t) 0 1024)) := q_lays0 (L := fun m => dz_M303_84_69_3 m) (a := 20) (b := 5) (na := 3072) (nb := 1024) (g := (fun x => x)) rfl (fun _ _ _ _ _ _ => rfl) s h1 h3 h4 (by omega) (by omega) (by decide) (by decide) (by decide)
theorem dzi_M303_84_69 {c d w : Int} {s : q_S} (h : q_Iv c d w s) (t : Nat) : q_Iv c d w (q_sA s 5 (va_cpy (s.1 20) (s.1 5) (1024 * t) 0 1024)) := q_Iv_A (i := 5) h (q_hf_cp (h.1 5) (fun k hk => h.1 20 _))

theorem dzl_M303_85_70 (s : q_S) (t : Nat) (ht : t < 3) {v1 v3 v4 : Int32} (h1 : v1.toInt = ((40 * t : Nat) : Int)) (h3 : v3.toInt = 0) (h4 : v4.toInt = 40) : dz_M303_85_70 s v1 v3 v4 = some (q_sA s 6 (va_cpy (s.1 21) (s.1 6) (40 * t) 0 40)) := q_lays0 (L := fun m => dz_M303_85_70_3 m) (a := 21) (b := 6) (na := 120) (nb := 40) (g := (fun x => x)) rfl (fun _ _ _ _ _ _ => rfl) s h1 h3 h4 (by omega) (by omega) (by decide) (by decide) (by decide)
theorem dzi_M303_85_70 {c d w : Int} {s : q_S} (h : q_Iv c d w s) (t : Nat) : q_Iv c d w (q_sA s 6 (va_cpy (s.1 21) (s.1 6) (40 * t) 0 40)) := q_Iv_A (i := 6) h (q_hf_cp (h.1 6) (fun k hk => h.1 21 _))

theorem dzl_M303_87_72 (s : q_S) (t : Nat) (ht : t < 3) {v1 v3 v4 : Int32} (h1 : v1.toInt = ((40 * t : Nat) : Int)) (h3 : v3.toInt = 0) (h4 : v4.toInt = 40) : dz_M303_87_72 s v1 v3 v4 = some (q_sA s 8 (va_cpy (s.1 23) (s.1 8) (40 * t) 0 40)) := q_lays0 (L := fun m => dz_M303_87_72_3 m) (a := 23) (b := 8) (na := 120) (nb := 40) (g := (fun x => x)) rfl (fun _ _ _ _ _ _ => rfl) s h1 h3 h4 (by omega) (by omega) (by decide) (by decide) (by decide)
theorem dzi_M303_87_72 {c d w : Int} {s : q_S} (h : q_Iv c d w s) (t : Nat) : q_Iv c d w (q_sA s 8 (va_cpy (s.1 23) (s.1 8) (40 * t) 0 40)) := q_Iv_A (i := 8) h (q_hf_cp (h.1 8) (fun k hk => h.1 23 _))

theorem dzl_M303_88_73 (s : q_S) (t : Nat) (ht : t < 3) {v1 v3 v4 : Int32} (h1 : v1.toInt = ((16 * t : Nat) : Int)) (h3 : v3.toInt = 0) (h4 : v4.toInt = 16) : dz_M303_88_73 s v1 v3 v4 = some (q_sA s 9 (va_cpy (s.1 24) (s.1 9) (16 * t) 0 16)) := q_lays0 (L := fun m => dz_M303_88_73_3 m) (a := 24) (b := 9) (na := 48) (nb := 16) (g := (fun x => x)) rfl (fun _ _ _ _ _ _ => rfl) s h1 h3 h4 (by omega) (by omega) (by decide) (by decide) (by decide)
theorem dzi_M303_88_73 {c d w : Int} {s : q_S} (h : q_Iv c d w s) (t : Nat) : q_Iv c d w (q_sA s 9 (va_cpy (s.1 24) (s.1 9) (16 * t) 0 16)) := q_Iv_A (i := 9) h (q_hf_cp (h.1 9) (fun k hk => h.1 24 _))

theorem dzl_M303_89_74 (s : q_S) (t : Nat) (ht : t < 3) {v1 v3 v4 : Int32} (h1 : v1.toInt = ((3 * t : Nat) : Int)) (h3 : v3.toInt = 0) (h4 : v4.toInt = 3) : dz_M303_89_74 s v1 v3 v4 = some (q_sA s 10 (va_cpy (s.1 25) (s.1 10) (3 * t) 0 3)) := q_lays0 (L := fun m => dz_M303_89_74_3 m) (a := 25) (b := 10) (na := 9) (nb := 3) (g := (fun x => x)) rfl (fun _ _ _ _ _ _ => rfl) s h1 h3 h4 (by omega) (by omega) (by decide) (by decide) (by decide)
theorem dzi_M303_89_74 {c d w : Int} {s : q_S} (h : q_Iv c d w s) (t : Nat) : q_Iv c d w (q_sA s 10 (va_cpy (s.1 25) (s.1 10) (3 * t) 0 3)) := q_Iv_A (i := 10) h (q_hf_cp (h.1 10) (fun k hk => h.1 25 _))

theorem dzl_M303_90_75 (s : q_S) (t : Nat) (ht : t < 3) {v1 v3 v4 : Int32} (h1 : v1.toInt = ((3 * t : Nat) : Int)) (h3 : v3.toInt = 0) (h4 : v4.toInt = 3) : dz_M303_90_75 s v1 v3 v4 = some (q_sA s 11 (va_cpy (s.1 26) (s.1 11) (3 * t) 0 3)) := q_lays0 (L := fun m => dz_M303_90_75_3 m) (a := 26) (b := 11) (na := 9) (nb := 3) (g := (fun x => x)) rfl (fun _ _ _ _ _ _ => rfl) s h1 h3 h4 (by omega) (by omega) (by decide) (by decide) (by decide)
theorem dzi_M303_90_75 {c d w : Int} {s : q_S} (h : q_Iv c d w s) (t : Nat) : q_Iv c d w (q_sA s 11 (va_cpy (s.1 26) (s.1 11) (3 * t) 0 3)) := q_Iv_A (i := 11) h (q_hf_cp (h.1 11) (fun k hk => h.1 26 _))

theorem dzl_M303_91_76 (s : q_S) (t : Nat) (ht : t < 3) {v1 v3 v4 : Int32} (h1 : v1.toInt = ((3 * t : Nat) : Int)) (h3 : v3.toInt = 0) (h4 : v4.toInt = 3) : dz_M303_91_76 s v1 v3 v4 = some (q_sA s 12 (va_cpy (s.1 27) (s.1 12) (3 * t) 0 3)) := q_lays0 (L := fun m => dz_M303_91_76_3 m) (a := 27) (b := 12) (na := 9) (nb := 3) (g := (fun x => x)) rfl (fun _ _ _ _ _ _ => rfl) s h1 h3 h4 (by omega) (by omega) (by decide) (by decide) (by decide)
theorem dzi_M303_91_76 {c d w : Int} {s : q_S} (h : q_Iv c d w s) (t : Nat) : q_Iv c d w (q_sA s 12 (va_cpy (s.1 27) (s.1 12) (3 * t) 0 3)) := q_Iv_A (i := 12) h (q_hf_cp (h.1 12) (fun k hk => h.1 27 _))

theorem dzl_M303_92_77 (s : q_S) (t : Nat) (ht : t < 3) {v1 v3 v4 : Int32} (h1 : v1.toInt = ((3 * t : Nat) : Int)) (h3 : v3.toInt = 0) (h4 : v4.toInt = 3) : dz_M303_92_77 s v1 v3 v4 = some (q_sA s 13 (va_cpy (s.1 28) (s.1 13) (3 * t) 0 3)) := q_lays0 (L := fun m => dz_M303_92_77_3 m) (a := 28) (b := 13) (na := 9) (nb := 3) (g := (fun x => x)) rfl (fun _ _ _ _ _ _ => rfl) s h1 h3 h4 (by omega) (by omega) (by decide) (by decide) (by decide)
theorem dzi_M303_92_77 {c d w : Int} {s : q_S} (h : q_Iv c d w s) (t : Nat) : q_Iv c d w (q_sA s 13 (va_cpy (s.1 28) (s.1 13) (3 * t) 0 3)) := q_Iv_A (i := 13) h (q_hf_cp (h.1 13) (fun k hk => h.1 28 _))

theorem dzl_M303_93_78 (s : q_S) (t : Nat) (ht : t < 3) {v1 v3 v4 : Int32} (h1 : v1.toInt = ((24 * t : Nat) : Int)) (h3 : v3.toInt = 0) (h4 : v4.toInt = 24) : dz_M303_93_78 s v1 v3 v4 = some (q_sA s 14 (va_cpy (s.1 29) (s.1 14) (24 * t) 0 24)) := q_lays0 (L := fun m => dz_M303_93_78_3 m) (a := 29) (b := 14) (na := 72) (nb := 24) (g := (fun x => x)) rfl (fun _ _ _ _ _ _ => rfl) s h1 h3 h4 (by omega) (by omega) (by decide) (by decide) (by decide)
theorem dzi_M303_93_78 {c d w : Int} {s : q_S} (h : q_Iv c d w s) (t : Nat) : q_Iv c d w (q_sA s 14 (va_cpy (s.1 29) (s.1 14) (24 * t) 0 24)) := q_Iv_A (i := 14) h (q_hf_cp (h.1 14) (fun k hk => by have e := h.1 29 (24 * t + k); show q_rgz (q_lr 14 (0 + k)) (q_hn d (0 + k)) (s.1 29 (24 * t + k)); rw [Nat.zero_add]; have e2 : q_rgz (q_lr 14 ((24 * t + k) % 24)) (q_hn d ((24 * t + k) % 24)) (s.1 29 (24 * t + k)) := e; rw [q_m24z k hk] at e2; exact e2))

theorem dzl_M304_86_71 (s : q_S) (t : Nat) (ht : t < 3) {v1 v3 v4 : Int32} (h1 : v1.toInt = ((16 * t : Nat) : Int)) (h3 : v3.toInt = 0) (h4 : v4.toInt = 16) : dz_M304_86_71 s v1 v3 v4 = some (q_sA s 7 (va_cpy (fun i => vp_nar .boolean (s.1 22 i)) (s.1 7) (16 * t) 0 16)) := q_lays0 (L := fun m => dz_M304_86_71_3 m) (a := 22) (b := 7) (na := 48) (nb := 16) (g := (fun x => vp_nar .boolean x)) rfl (fun _ _ _ _ _ _ => rfl) s h1 h3 h4 (by omega) (by omega) (by decide) (by decide) (by decide)
theorem dzi_M304_86_71 {c d w : Int} {s : q_S} (h : q_Iv c d w s) (t : Nat) : q_Iv c d w (q_sA s 7 (va_cpy (fun i => vp_nar .boolean (s.1 22 i)) (s.1 7) (16 * t) 0 16)) := q_Iv_A (i := 7) h (q_hf_cp (h.1 7) (fun k hk => q_rg_nb _))

theorem dzl_M304_94_79 (s : q_S) (t : Nat) (ht : t < 3) {v1 v3 v4 : Int32} (h1 : v1.toInt = ((8 * t : Nat) : Int)) (h3 : v3.toInt = 0) (h4 : v4.toInt = 8) : dz_M304_94_79 s v1 v3 v4 = some (q_sA s 15 (va_cpy (fun i => vp_nar .boolean (s.1 30 i)) (s.1 15) (8 * t) 0 8)) := q_lays0 (L := fun m => dz_M304_94_79_3 m) (a := 30) (b := 15) (na := 24) (nb := 8) (g := (fun x => vp_nar .boolean x)) rfl (fun _ _ _ _ _ _ => rfl) s h1 h3 h4 (by omega) (by omega) (by decide) (by decide) (by decide)
theorem dzi_M304_94_79 {c d w : Int} {s : q_S} (h : q_Iv c d w s) (t : Nat) : q_Iv c d w (q_sA s 15 (va_cpy (fun i => vp_nar .boolean (s.1 30 i)) (s.1 15) (8 * t) 0 8)) := q_Iv_A (i := 15) h (q_hf_cp (h.1 15) (fun k hk => q_rg_nb _))

def q_rsz (t : Nat) (s : q_S) : q_S := (q_sA (q_sA (q_sA (q_sA (q_sA (q_sA (q_sA (q_sA (q_sA (q_sA (q_sA (q_sA (q_sA (q_sA (q_sA s 1 (va_cpy (s.1 16) (s.1 1) (4096 * t) 0 4096)) 2 (va_cpy (s.1 17) (s.1 2) (512 * t) 0 512)) 3 (va_cpy (s.1 18) (s.1 3) (2048 * t) 0 2048)) 4 (va_cpy (s.1 19) (s.1 4) (48 * t) 0 48)) 5 (va_cpy (s.1 20) (s.1 5) (1024 * t) 0 1024)) 6 (va_cpy (s.1 21) (s.1 6) (40 * t) 0 40)) 8 (va_cpy (s.1 23) (s.1 8) (40 * t) 0 40)) 9 (va_cpy (s.1 24) (s.1 9) (16 * t) 0 16)) 10 (va_cpy (s.1 25) (s.1 10) (3 * t) 0 3)) 11 (va_cpy (s.1 26) (s.1 11) (3 * t) 0 3)) 12 (va_cpy (s.1 27) (s.1 12) (3 * t) 0 3)) 13 (va_cpy (s.1 28) (s.1 13) (3 * t) 0 3)) 14 (va_cpy (s.1 29) (s.1 14) (24 * t) 0 24)) 7 (va_cpy (fun i => vp_nar .boolean (s.1 22 i)) (s.1 7) (16 * t) 0 16)) 15 (va_cpy (fun i => vp_nar .boolean (s.1 30 i)) (s.1 15) (8 * t) 0 8))
theorem q_rs_I {c d w : Int} {s : q_S} (h : q_Iv c d w s) (t : Nat) : q_Iv c d w (q_rsz t s) := by
  unfold q_rsz
  exact (dzi_M304_94_79 (dzi_M304_86_71 (dzi_M303_93_78 (dzi_M303_92_77 (dzi_M303_91_76 (dzi_M303_90_75 (dzi_M303_89_74 (dzi_M303_88_73 (dzi_M303_87_72 (dzi_M303_85_70 (dzi_M303_84_69 (dzi_M303_83_68 (dzi_M303_82_67 (dzi_M303_81_66 (dzi_M303_80_65 h t) t) t) t) t) t) t) t) t) t) t) t) t) t) t)
theorem q_rs_run (s : q_S) (x : Int32) (t : Nat) (ht : t < 3) (hx : x.toInt = (t : Int)) (f : q_S → Option (q_S × Int32)) (P : q_S × Int32 → Prop) (hf : q_Ex (f (q_rsz t s)) P) : q_Ex ((dz_M303_80_65 s (4096 * x) 0 4096).bind fun r0 => (dz_M303_81_66 r0 (512 * x) 0 512).bind fun r1 => (dz_M303_82_67 r1 (2048 * x) 0 2048).bind fun r2 => (dz_M303_83_68 r2 (48 * x) 0 48).bind fun r3 => (dz_M303_84_69 r3 (1024 * x) 0 1024).bind fun r4 => (dz_M303_85_70 r4 (40 * x) 0 40).bind fun r5 => (dz_M303_87_72 r5 (40 * x) 0 40).bind fun r6 => (dz_M303_88_73 r6 (16 * x) 0 16).bind fun r7 => (dz_M303_89_74 r7 (3 * x) 0 3).bind fun r8 => (dz_M303_90_75 r8 (3 * x) 0 3).bind fun r9 => (dz_M303_91_76 r9 (3 * x) 0 3).bind fun r10 => (dz_M303_92_77 r10 (3 * x) 0 3).bind fun r11 => (dz_M303_93_78 r11 (24 * x) 0 24).bind fun r12 => (dz_M304_86_71 r12 (16 * x) 0 16).bind fun r13 => (dz_M304_94_79 r13 (8 * x) 0 8).bind fun r14 => f r14) P := by
  rw [dzl_M303_80_65 _ t ht (q_mulT hx ht (n := 4096) rfl (by decide)) rfl rfl]
  refine q_E_B ?_
  rw [dzl_M303_81_66 _ t ht (q_mulT hx ht (n := 512) rfl (by decide)) rfl rfl]
  refine q_E_B ?_
  rw [dzl_M303_82_67 _ t ht (q_mulT hx ht (n := 2048) rfl (by decide)) rfl rfl]
  refine q_E_B ?_
  rw [dzl_M303_83_68 _ t ht (q_mulT hx ht (n := 48) rfl (by decide)) rfl rfl]
  refine q_E_B ?_
  rw [dzl_M303_84_69 _ t ht (q_mulT hx ht (n := 1024) rfl (by decide)) rfl rfl]
  refine q_E_B ?_
  rw [dzl_M303_85_70 _ t ht (q_mulT hx ht (n := 40) rfl (by decide)) rfl rfl]
  refine q_E_B ?_
  rw [dzl_M303_87_72 _ t ht (q_mulT hx ht (n := 40) rfl (by decide)) rfl rfl]
  refine q_E_B ?_
  rw [dzl_M303_88_73 _ t ht (q_mulT hx ht (n := 16) rfl (by decide)) rfl rfl]
  refine q_E_B ?_
  rw [dzl_M303_89_74 _ t ht (q_mulT hx ht (n := 3) rfl (by decide)) rfl rfl]
  refine q_E_B ?_
  rw [dzl_M303_90_75 _ t ht (q_mulT hx ht (n := 3) rfl (by decide)) rfl rfl]
  refine q_E_B ?_
  rw [dzl_M303_91_76 _ t ht (q_mulT hx ht (n := 3) rfl (by decide)) rfl rfl]
  refine q_E_B ?_
  rw [dzl_M303_92_77 _ t ht (q_mulT hx ht (n := 3) rfl (by decide)) rfl rfl]
  refine q_E_B ?_
  rw [dzl_M303_93_78 _ t ht (q_mulT hx ht (n := 24) rfl (by decide)) rfl rfl]
  refine q_E_B ?_
  rw [dzl_M304_86_71 _ t ht (q_mulT hx ht (n := 16) rfl (by decide)) rfl rfl]
  refine q_E_B ?_
  rw [dzl_M304_94_79 _ t ht (q_mulT hx ht (n := 8) rfl (by decide)) rfl rfl]
  refine q_E_B ?_
  exact hf
theorem dzj_M307_64 (c d w : Int) (s : q_S) (hI : q_Iv c d w s) (a1 : Int32) : q_Ex (dz_M307_64 s a1) (fun x => q_Iv c d w x.1) := by
  unfold dz_M307_64
  have g : q_rgz 0 3 (s.2.1 0 17) := hI.2.1 0 17
  have g9 := q_rg_sub (L := -1) (U := 2) g (q_rg_lit (n := 1) (x := 1) rfl) (by decide) (by decide) (by decide) (by decide)
  refine q_E_L ?_
  generalize p1 : dz_M201 s a1 0 ((s.2.1 0 17) - 1) = r
  cases r with
  | true =>
    have ga := q_p202 p1 (q_rg_lit (n := 0) rfl) g9
    have t0 := ga.1
    have t1 := ga.2
    refine q_E_T (q_E_L ?_)
    have j := q_fails s 0 hI
    generalize dz_M199_64 s 0 = r at j ⊢
    cases h : r.2 with
    | true => exact (q_failsT j h (q_rg_lit (n := 0) rfl) (by decide)).elim
    | false =>
      refine q_E_F ?_
      have jI := j.1
      obtain ⟨r1511, er, hr⟩ := dzj_M306_64 c d w r.1 jI a1 (q_rg_le ga (by decide) (by decide))
      rw [er]
      refine q_E_B ?_
      refine q_rs_run r.1 a1 a1.toInt.toNat (by omega) (by omega) (fun r1526 => cond (q_in (2 * a1) 6) (cond (q_in ((2 * a1) + 1) 6) (some ((q_sI (q_sJ (q_sJ r1526 0 15 ((r1526.2.2 31) ((2 * a1).toNatClampNeg))) 0 16 ((r1526.2.2 31) (((2 * a1) + 1).toNatClampNeg))) 0 34 (-1)), r1511)) none) none) _ ?_
      have I2 := q_rs_I jI a1.toInt.toNat
      have m2 := q_rg_mul (a := 2) (L := 0) (U := 4) (q_rg_lit (n := 2) rfl) ga (by decide) (by decide) (by decide) (by decide) (by decide) (by decide)
      refine q_E_A (q_in_rg m2 (by decide) (by decide)) (q_E_A (q_in_rg (q_rg_add (L := 1) (U := 5) m2 (q_rg_lit (n := 1) (x := 1) rfl) (by decide) (by decide) (by decide) (by decide)) (by decide) (by decide)) (q_E_x ?_))
      exact q_Iv_I (i := 0) (m := 34) (q_Iv_J (q_Iv_J I2 (I2.2.2 31 _ rfl)) (I2.2.2 31 _ rfl)) (q_rg_full _)
  | false =>
    refine q_E_F (q_E_L ?_)
    have j := q_fails s 1 hI
    generalize dz_M199_64 s 1 = r at j ⊢
    cases h : r.2 with
    | true => exact q_E_T (q_E_x j.1)
    | false => exact (q_failsF j h (q_rg_lit (n := 1) rfl) (by decide)).elim

set_option maxHeartbeats 4000000 in
theorem dzj_M308_64 (c d w : Int) (s : q_S) (hI : q_Iv c d w s) (a1 : Int32) : q_Ex (dz_M308_64 s a1) (fun (x : q_S × Int32) => q_Iv c d w x.1) := by
  unfold dz_M308_64
  refine q_E_L ?_
  generalize p4618 : dz_M201 s a1 0 ((s.2.1 0 17) - 1) = r4
  cases r4 with
  | true =>
    have g4619 : q_rgz 0 2 (a1) := ⟨(q_p202 p4618 (q_rg_lit (n := 0) (x := 0) rfl) (q_rg_sub (L := -1) (U := 2) (q_f17 hI) (q_rg_lit (n := 1) (x := 1) rfl) (by decide) (by decide) (by decide) (by decide))).1, (q_p202 p4618 (q_rg_lit (n := 0) (x := 0) rfl) (q_rg_sub (L := -1) (U := 2) (q_f17 hI) (q_rg_lit (n := 1) (x := 1) rfl) (by decide) (by decide) (by decide) (by decide))).2⟩
    refine q_E_T ?_
    have j4620 := q_fails (s) (0) hI
    refine q_E_L ?_
    generalize dz_M199_64 s 0 = r5 at j4620 ⊢
    cases h4621 : r5.2 with
    | true =>
      exact (q_failsT j4620 h4621 (q_rg_lit (n := 0) (x := 0) rfl) (by decide)).elim
    | false =>
      refine q_E_F ?_
      obtain ⟨r6, e4623, j4622⟩ := dzj_M306_64 c d w (r5.1) j4620.1 (a1) (q_rg_le (L := 0) (U := 2) g4619 (by decide) (by decide))
      rw [e4623]
      refine q_E_B ?_
      exact q_E_x j4620.1
  | false =>
    refine q_E_F ?_
    have j4624 := q_fails (s) (1) hI
    refine q_E_L ?_
    generalize dz_M199_64 s 1 = r7 at j4624 ⊢
    cases h4625 : r7.2 with
    | true =>
      refine q_E_T ?_
      exact q_E_x j4624.1
    | false =>
      exact (q_failsF j4624 h4625 (q_rg_lit (n := 1) (x := 1) rfl) (by decide)).elim
set_option maxHeartbeats 4000000 in
theorem dzj_M309_64 (c d w : Int) (s : q_S) (hI : q_Iv c d w s) : (fun (x : q_S × Int32) => q_Iv c d w x.1) (dz_M309_64 s) := by
  refine q_S_of (P := (fun (x : q_S × Int32) => q_Iv c d w x.1)) ?_
  unfold dz_M309_64
  have j4628 : q_rgz 0 2147483647 (if (0 : Int32) < (s.2.1 0 34) then (s.2.1 0 34) else (0 : Int32)) := (q_rg_max (L := 0) (U := 2147483647) (q_rg_full _) (q_rg_lit (n := 0) (x := 0) rfl) (by decide) (by decide) (by decide))
  refine q_S_L ?_
  generalize (if (0 : Int32) < (s.2.1 0 34) then (s.2.1 0 34) else (0 : Int32)) = x1 at j4628 ⊢
  have j4629 := dzj_M200_64 c d w (q_sI s 0 34 0) (q_Iv_I (i := 0) (m := 34) hI (q_rg_full _)) (x1)
  refine q_S_L ?_
  generalize dz_M200_64 (q_sI s 0 34 0) x1 = r2 at j4629 ⊢
  exact q_E_x j4629
set_option maxHeartbeats 4000000 in
theorem dzj_M310_64 (c d w : Int) (s : q_S) (hI : q_Iv c d w s) : (fun (x : q_S × Int32) => q_Iv c d w x.1) (dz_M310_64 s) := by
  refine q_S_of (P := (fun (x : q_S × Int32) => q_Iv c d w x.1)) ?_
  unfold dz_M310_64
  cases h4639 : decide (s.2.1 0 34 < 0) with
  | true =>
    have g4640 := (q_rg_ltT1 (l := -2147483648) (U := -1) h4639 (q_rg_full _) (q_rg_lit (n := 0) (x := 0) rfl) (by decide))
    refine q_S_T ?_
    have j4641 := q_fails (s) (1) hI
    refine q_S_L ?_
    generalize dz_M199_64 s 1 = r1 at j4641 ⊢
    have g4642 : q_rgz (-2147483648) (-1) (r1.1.2.1 0 34) := by rw [j4641.2.2.2.1 34 (by decide)]; exact g4640
    cases h4643 : r1.2 with
    | true =>
      refine q_S_T ?_
      exact q_E_x j4641.1
    | false =>
      exact (q_failsF j4641 h4643 (q_rg_lit (n := 1) (x := 1) rfl) (by decide)).elim
  | false =>
    have g4644 := (q_rg_ltF1 (l2 := 0) (u := 2147483647) h4639 (q_rg_full _) (q_rg_lit (n := 0) (x := 0) rfl))
    refine q_S_F ?_
    have j4645 := q_fails (s) (0) hI
    refine q_S_L ?_
    generalize dz_M199_64 s 0 = r2 at j4645 ⊢
    have g4646 : q_rgz 0 2147483647 (r2.1.2.1 0 34) := by rw [j4645.2.2.2.1 34 (by decide)]; exact g4644
    cases h4647 : r2.2 with
    | true =>
      exact (q_failsT j4645 h4647 (q_rg_lit (n := 0) (x := 0) rfl) (by decide)).elim
    | false =>
      refine q_S_F ?_
      exact q_E_x j4645.1
set_option maxHeartbeats 4000000 in
theorem dzj_M311_64 (c d w : Int) (s : q_S) (hI : q_Iv c d w s) : (fun (x : q_S × Bool) => q_Iv c d w x.1) (dz_M311_64 s) := by
  refine q_S_of (P := (fun (x : q_S × Bool) => q_Iv c d w x.1)) ?_
  unfold dz_M311_64
  cases h4657 : decide (s.2.1 0 34 < 0) with
  | true =>
    have g4658 := (q_rg_ltT1 (l := -2147483648) (U := -1) h4657 (q_rg_full _) (q_rg_lit (n := 0) (x := 0) rfl) (by decide))
    refine q_S_T ?_
    have j4659 := q_fails (s) (1) hI
    refine q_S_L ?_
    generalize dz_M199_64 s 1 = r1 at j4659 ⊢
    have g4660 : q_rgz (-2147483648) (-1) (r1.1.2.1 0 34) := by rw [j4659.2.2.2.1 34 (by decide)]; exact g4658
    cases h4661 : r1.2 with
    | true =>
      refine q_S_T ?_
      exact q_E_x j4659.1
    | false =>
      exact (q_failsF j4659 h4661 (q_rg_lit (n := 1) (x := 1) rfl) (by decide)).elim
  | false =>
    have g4662 := (q_rg_ltF1 (l2 := 0) (u := 2147483647) h4657 (q_rg_full _) (q_rg_lit (n := 0) (x := 0) rfl))
    refine q_S_F ?_
    have j4663 := q_fails (s) (0) hI
    refine q_S_L ?_
    generalize dz_M199_64 s 0 = r2 at j4663 ⊢
    have g4664 : q_rgz 0 2147483647 (r2.1.2.1 0 34) := by rw [j4663.2.2.2.1 34 (by decide)]; exact g4662
    cases h4665 : r2.2 with
    | true =>
      exact (q_failsT j4663 h4665 (q_rg_lit (n := 0) (x := 0) rfl) (by decide)).elim
    | false =>
      refine q_S_F ?_
      exact q_E_x j4663.1
set_option maxHeartbeats 4000000 in
theorem dzjb_M312_64_9 (c d w : Int) (k9 : q_S → Int32 → Int32 → Option (q_S × Int32)) (M9 : Int) (tk9 : ∀ (s : q_S), q_Iv c d w s → ∀ (v1 : Int32) (v2 : Int32), q_rgz 0 1024 v2 → ((1024 - v2.toInt).toNat : Int) ≤ M9 → q_Ex (k9 s v1 v2) (fun (x : q_S × Int32) => q_Iv c d w x.1)) (s : q_S) (hI : q_Iv c d w s) (v1 : Int32) (v2 : Int32) (rv2 : q_rgz 0 1024 v2) (m9 : ((1024 - v2.toInt).toNat : Int) ≤ M9 + 1) : q_Ex (cond (decide (v2 < 1024)) (cond (q_in v2 1024) (k9 s ((31 * v1) + ((s.1 5) (v2.toNatClampNeg))) (v2 + 1)) none) (some (s, v1))) (fun (x : q_S × Int32) => q_Iv c d w x.1) := by
  cases h4678 : decide (v2 < 1024) with
  | true =>
    have g4679 := (q_rg_ltT1 (l := 0) (U := 1023) h4678 rv2 (q_rg_lit (n := 1024) (x := 1024) rfl) (by decide))
    refine q_E_T ?_
    refine q_E_A (q_in_rg g4679 (by decide) (by decide)) ?_
    exact tk9 (s) hI ((31 * v1) + ((s.1 5) (v2.toNatClampNeg))) (v2 + 1) (q_rg_le (L := 0) (U := 1024) (q_rg_add (L := 1) (U := 1024) g4679 (q_rg_lit (n := 1) (x := 1) rfl) (by decide) (by decide) (by decide) (by decide)) (by decide) (by decide)) (q_meu g4679 m9 (by decide) (by decide))
  | false =>
    have g4680 := (q_rg_ltF1 (l2 := 1024) (u := 1024) h4678 rv2 (q_rg_lit (n := 1024) (x := 1024) rfl))
    refine q_E_F ?_
    exact q_E_x hI
theorem dzj_M312_64_9 (c d w : Int) : ∀ (m : Nat) (s : q_S) (hI : q_Iv c d w s) (v1 : Int32) (v2 : Int32) (rv2 : q_rgz 0 1024 v2), ((1024 - v2.toInt).toNat : Int) ≤ (m : Int) → q_Ex (dz_M312_64_9 (m + 1) s v1 v2) (fun (x : q_S × Int32) => q_Iv c d w x.1) := by
  intro m
  induction m with
  | zero => intro s hI v1 v2 rv2 hm; rw [dzs_M312_64_9]; exact dzjb_M312_64_9 c d w (dz_M312_64_9 0) (-1) (fun s hI v1 v2 rv2 hm => absurd hm (by omega)) s hI v1 v2 rv2 (by omega)
  | succ m ih => intro s hI v1 v2 rv2 hm; rw [dzs_M312_64_9]; exact dzjb_M312_64_9 c d w (dz_M312_64_9 (m + 1)) (m : Int) (fun s hI v1 v2 rv2 hm => ih s hI v1 v2 rv2 hm) s hI v1 v2 rv2 (by omega)
set_option maxHeartbeats 4000000 in
theorem dzj_M312_64 (c d w : Int) (s : q_S) (hI : q_Iv c d w s) : q_Ex (dz_M312_64 s) (fun (x : q_S × Int32) => q_Iv c d w x.1) := by
  unfold dz_M312_64
  exact dzj_M312_64_9 c d w 4999 (q_sI s 0 39 0) (q_Iv_I (i := 0) (m := 39) hI (q_rg_full _)) (0) (0) (q_rg_le (L := 0) (U := 1024) (q_rg_lit (n := 0) (x := 0) rfl) (by decide) (by decide)) (q_meu0 (q_rg_lit (n := 0) (x := 0) rfl) (by decide) (by decide))
set_option maxHeartbeats 4000000 in
theorem dzj_M313_64 (c d w : Int) (s : q_S) (hI : q_Iv c d w s) : (fun (x : q_S × Int64) => q_Iv c d w x.1) (dz_M313_64 s) := by
  refine q_S_of (P := (fun (x : q_S × Int64) => q_Iv c d w x.1)) ?_
  unfold dz_M313_64
  exact q_E_x (q_Iv_I (i := 0) (m := 39) hI (q_rg_full _))
set_option maxHeartbeats 4000000 in
theorem dzjb_M314_64_9 (c d w : Int) (k9 : q_S → Int32 → Int32 → Option (q_S × UInt32)) (M9 : Int) (tk9 : ∀ (s : q_S), q_Iv c d w s → ∀ (v1 : Int32) (v2 : Int32), q_rgz 0 1024 v2 → ((1024 - v2.toInt).toNat : Int) ≤ M9 → q_Ex (k9 s v1 v2) (fun (x : q_S × UInt32) => q_Iv c d w x.1)) (s : q_S) (hI : q_Iv c d w s) (v1 : Int32) (v2 : Int32) (rv2 : q_rgz 0 1024 v2) (m9 : ((1024 - v2.toInt).toNat : Int) ≤ M9 + 1) : q_Ex (cond (decide (v2 < 1024)) (cond (q_in v2 1024) (cond (decide ((s.1 5) (v2.toNatClampNeg) = (s.1 4) 3)) (k9 s (v1 + 0) (v2 + 1)) (k9 s (v1 + 1) (v2 + 1))) none) (cond (q_nnf (FP.fdiv (FP.i2f v1) 1149239296)) (some (s, (FP.fdiv (FP.i2f v1) 1149239296))) none)) (fun (x : q_S × UInt32) => q_Iv c d w x.1) := by
  cases h4685 : decide (v2 < 1024) with
  | true =>
    have g4686 := (q_rg_ltT1 (l := 0) (U := 1023) h4685 rv2 (q_rg_lit (n := 1024) (x := 1024) rfl) (by decide))
    refine q_E_T ?_
    refine q_E_A (q_in_rg g4686 (by decide) (by decide)) ?_
    cases h4687 : decide ((s.1 5) (v2.toNatClampNeg) = (s.1 4) 3) with
    | true =>
      refine q_E_T ?_
      exact tk9 (s) hI (v1 + 0) (v2 + 1) (q_rg_le (L := 0) (U := 1024) (q_rg_add (L := 1) (U := 1024) g4686 (q_rg_lit (n := 1) (x := 1) rfl) (by decide) (by decide) (by decide) (by decide)) (by decide) (by decide)) (q_meu g4686 m9 (by decide) (by decide))
    | false =>
      refine q_E_F ?_
      exact tk9 (s) hI (v1 + 1) (v2 + 1) (q_rg_le (L := 0) (U := 1024) (q_rg_add (L := 1) (U := 1024) g4686 (q_rg_lit (n := 1) (x := 1) rfl) (by decide) (by decide) (by decide) (by decide)) (by decide) (by decide)) (q_meu g4686 m9 (by decide) (by decide))
  | false =>
    have g4688 := (q_rg_ltF1 (l2 := 1024) (u := 1024) h4685 rv2 (q_rg_lit (n := 1024) (x := 1024) rfl))
    refine q_E_F ?_
    refine q_E_A (q_nnS _) ?_
    exact q_E_x hI
theorem dzj_M314_64_9 (c d w : Int) : ∀ (m : Nat) (s : q_S) (hI : q_Iv c d w s) (v1 : Int32) (v2 : Int32) (rv2 : q_rgz 0 1024 v2), ((1024 - v2.toInt).toNat : Int) ≤ (m : Int) → q_Ex (dz_M314_64_9 (m + 1) s v1 v2) (fun (x : q_S × UInt32) => q_Iv c d w x.1) := by
  intro m
  induction m with
  | zero => intro s hI v1 v2 rv2 hm; rw [dzs_M314_64_9]; exact dzjb_M314_64_9 c d w (dz_M314_64_9 0) (-1) (fun s hI v1 v2 rv2 hm => absurd hm (by omega)) s hI v1 v2 rv2 (by omega)
  | succ m ih => intro s hI v1 v2 rv2 hm; rw [dzs_M314_64_9]; exact dzjb_M314_64_9 c d w (dz_M314_64_9 (m + 1)) (m : Int) (fun s hI v1 v2 rv2 hm => ih s hI v1 v2 rv2 hm) s hI v1 v2 rv2 (by omega)
set_option maxHeartbeats 4000000 in
theorem dzj_M314_64 (c d w : Int) (s : q_S) (hI : q_Iv c d w s) : q_Ex (dz_M314_64 s) (fun (x : q_S × UInt32) => q_Iv c d w x.1) := by
  unfold dz_M314_64
  exact dzj_M314_64_9 c d w 4999 (q_sI s 0 39 0) (q_Iv_I (i := 0) (m := 39) hI (q_rg_full _)) (0) (0) (q_rg_le (L := 0) (U := 1024) (q_rg_lit (n := 0) (x := 0) rfl) (by decide) (by decide)) (q_meu0 (q_rg_lit (n := 0) (x := 0) rfl) (by decide) (by decide))
set_option maxHeartbeats 4000000 in
theorem dzjb_M315_64_9 (c d w : Int) (k9 : q_S → Int32 → Int32 → Option (q_S × UInt64)) (M9 : Int) (tk9 : ∀ (s : q_S), q_Iv c d w s → ∀ (v1 : Int32) (v2 : Int32), q_rgz 0 40 v2 → ((40 - v2.toInt).toNat : Int) ≤ M9 → q_Ex (k9 s v1 v2) (fun (x : q_S × UInt64) => q_Iv c d w x.1)) (s : q_S) (hI : q_Iv c d w s) (v1 : Int32) (v2 : Int32) (rv2 : q_rgz 0 40 v2) (m9 : ((40 - v2.toInt).toNat : Int) ≤ M9 + 1) : q_Ex (cond (decide (v2 < 40)) (cond (q_in v2 40) (k9 s (v1 + ((s.1 6) (v2.toNatClampNeg))) (v2 + 1)) none) (cond (q_nnd (FP.ddiv (FP.i2d v1) 4630826316843712512)) (some (s, (FP.ddiv (FP.i2d v1) 4630826316843712512))) none)) (fun (x : q_S × UInt64) => q_Iv c d w x.1) := by
  cases h4692 : decide (v2 < 40) with
  | true =>
    have g4693 := (q_rg_ltT1 (l := 0) (U := 39) h4692 rv2 (q_rg_lit (n := 40) (x := 40) rfl) (by decide))
    refine q_E_T ?_
    refine q_E_A (q_in_rg g4693 (by decide) (by decide)) ?_
    exact tk9 (s) hI (v1 + ((s.1 6) (v2.toNatClampNeg))) (v2 + 1) (q_rg_le (L := 0) (U := 40) (q_rg_add (L := 1) (U := 40) g4693 (q_rg_lit (n := 1) (x := 1) rfl) (by decide) (by decide) (by decide) (by decide)) (by decide) (by decide)) (q_meu g4693 m9 (by decide) (by decide))
  | false =>
    have g4694 := (q_rg_ltF1 (l2 := 40) (u := 40) h4692 rv2 (q_rg_lit (n := 40) (x := 40) rfl))
    refine q_E_F ?_
    refine q_E_A (q_nnM _) ?_
    exact q_E_x hI
theorem dzj_M315_64_9 (c d w : Int) : ∀ (m : Nat) (s : q_S) (hI : q_Iv c d w s) (v1 : Int32) (v2 : Int32) (rv2 : q_rgz 0 40 v2), ((40 - v2.toInt).toNat : Int) ≤ (m : Int) → q_Ex (dz_M315_64_9 (m + 1) s v1 v2) (fun (x : q_S × UInt64) => q_Iv c d w x.1) := by
  intro m
  induction m with
  | zero => intro s hI v1 v2 rv2 hm; rw [dzs_M315_64_9]; exact dzjb_M315_64_9 c d w (dz_M315_64_9 0) (-1) (fun s hI v1 v2 rv2 hm => absurd hm (by omega)) s hI v1 v2 rv2 (by omega)
  | succ m ih => intro s hI v1 v2 rv2 hm; rw [dzs_M315_64_9]; exact dzjb_M315_64_9 c d w (dz_M315_64_9 (m + 1)) (m : Int) (fun s hI v1 v2 rv2 hm => ih s hI v1 v2 rv2 hm) s hI v1 v2 rv2 (by omega)
set_option maxHeartbeats 4000000 in
theorem dzj_M315_64 (c d w : Int) (s : q_S) (hI : q_Iv c d w s) : q_Ex (dz_M315_64 s) (fun (x : q_S × UInt64) => q_Iv c d w x.1) := by
  unfold dz_M315_64
  exact dzj_M315_64_9 c d w 4999 (q_sI s 0 39 0) (q_Iv_I (i := 0) (m := 39) hI (q_rg_full _)) (0) (0) (q_rg_le (L := 0) (U := 40) (q_rg_lit (n := 0) (x := 0) rfl) (by decide) (by decide)) (q_meu0 (q_rg_lit (n := 0) (x := 0) rfl) (by decide) (by decide))
