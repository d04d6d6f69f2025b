/-! ===== save ===== -/
theorem q_in_add0 {k : Int32} {n : Nat} (h0 : 0 ≤ k.toInt) (h1 : k.toInt < (n : Int)) (hn : (n : Int) ≤ 1000000 := by decide) : q_in (0 + k) n = true := by
  have e : (0 + k).toInt = k.toInt := by
    rw [Int32.toInt_add]
    show Int.bmod (0 + k.toInt) _ = _
    rw [Int.zero_add]
    exact Int.bmod_eq_of_le (by omega) (by omega)
  exact q_in_bd (L := 0) (U := (n : Int) - 1) (by omega) (by omega) (by omega) (by omega)
set_option maxRecDepth 100000 in
theorem q_saveX : q_opX 22 [] 0 0 := q_opX_ck 30000 (by decide +kernel)
theorem q_l65_80 (I : Nat → Nat → Int32) (c s : Nat) : ∀ (m : Nat) (k : Int32) (A : Nat → Nat → Int32), 0 ≤ k.toInt → k.toInt + (m : Int) = (4096 : Int32).toInt → ∃ A2, q_Ru q_TB0 1 304 (3, [(5, .int k), (0, .ref 65), (1, .int 0), (2, .ref 80), (3, .int 0), (4, .int 4096)], [], (q_cM A I q_J0, c, s)) (.inl none, q_cM A2 I q_J0, c, s) := by
  intro m
  induction m with
  | zero =>
    intro k A h0 h1
    have hk := q_ltF h1
    refine ⟨A, ?_⟩
    refine q_Ru_seg (g2 := (7, [(5, .int k), (0, .ref 65), (1, .int 0), (2, .ref 80), (3, .int 0), (4, .int 4096)], [.int 4096, .int k], (q_cM A I q_J0, c, s))) 2 (fun _ _ => rfl) ?_
    refine q_Ru_rsT (g2 := (28, [(5, .int k), (0, .ref 65), (1, .int 0), (2, .ref 80), (3, .int 0), (4, .int 4096)], [], (q_cM A I q_J0, c, s))) rfl rfl (q_d_geF hk) ?_
    exact q_Ru_ret rfl rfl
  | succ m ih =>
    intro k A h0 h1
    have hk := q_ltT h1
    have e0 : (4096 : Int32).toInt = 4096 := rfl
    have e1 := q_inc (k := k) (by omega) (by omega)
    have i1 := q_in_add0 (k := k) (n := 4096) h0 (by omega)
    have i2 := q_in_add0 (k := k) (n := 12288) h0 (by omega)
    obtain ⟨A2, p⟩ := ih (k + 1) (q_uA A 16 (upd (A 16) ((0 + k).toNatClampNeg) ((A 1) ((0 + k).toNatClampNeg)))) (by omega) (by omega)
    refine ⟨A2, ?_⟩
    refine q_Ru_seg (g2 := (7, [(5, .int k), (0, .ref 65), (1, .int 0), (2, .ref 80), (3, .int 0), (4, .int 4096)], [.int 4096, .int k], (q_cM A I q_J0, c, s))) 2 (fun _ _ => rfl) ?_
    refine q_Ru_rsF (g2 := (10, [(5, .int k), (0, .ref 65), (1, .int 0), (2, .ref 80), (3, .int 0), (4, .int 4096)], [], (q_cM A I q_J0, c, s))) rfl rfl (q_d_geT hk) ?_
    refine q_Ru_seg (g2 := (20, [(5, .int k), (0, .ref 65), (1, .int 0), (2, .ref 80), (3, .int 0), (4, .int 4096)], [.int (0 + k), .ref 65, .int (0 + k), .ref 80], (q_cM A I q_J0, c, s))) 8 (fun _ _ => rfl) ?_
    refine q_Ru_rsT (g2 := (21, [(5, .int k), (0, .ref 65), (1, .int 0), (2, .ref 80), (3, .int 0), (4, .int 4096)], [.int ((A 1) ((0 + k).toNatClampNeg)), .int (0 + k), .ref 80], (q_cM A I q_J0, c, s))) rfl rfl i1 ?_
    refine q_Ru_rsT (g2 := (22, [(5, .int k), (0, .ref 65), (1, .int 0), (2, .ref 80), (3, .int 0), (4, .int 4096)], [], (q_cM (q_uA A 16 (upd (A 16) ((0 + k).toNatClampNeg) ((A 1) ((0 + k).toNatClampNeg)))) I q_J0, c, s))) rfl rfl i2 ?_
    refine q_Ru_seg (g2 := (3, [(5, .int (k + 1)), (0, .ref 65), (1, .int 0), (2, .ref 80), (3, .int 0), (4, .int 4096)], [], (q_cM (q_uA A 16 (upd (A 16) ((0 + k).toNatClampNeg) ((A 1) ((0 + k).toNatClampNeg)))) I q_J0, c, s))) 2 (fun _ _ => rfl) ?_
    exact p
theorem q_l66_81 (I : Nat → Nat → Int32) (c s : Nat) : ∀ (m : Nat) (k : Int32) (A : Nat → Nat → Int32), 0 ≤ k.toInt → k.toInt + (m : Int) = (512 : Int32).toInt → ∃ A2, q_Ru q_TB0 1 304 (3, [(5, .int k), (0, .ref 66), (1, .int 0), (2, .ref 81), (3, .int 0), (4, .int 512)], [], (q_cM A I q_J0, c, s)) (.inl none, q_cM A2 I q_J0, c, s) := by
  intro m
  induction m with
  | zero =>
    intro k A h0 h1
    have hk := q_ltF h1
    refine ⟨A, ?_⟩
    refine q_Ru_seg (g2 := (7, [(5, .int k), (0, .ref 66), (1, .int 0), (2, .ref 81), (3, .int 0), (4, .int 512)], [.int 512, .int k], (q_cM A I q_J0, c, s))) 2 (fun _ _ => rfl) ?_
    refine q_Ru_rsT (g2 := (28, [(5, .int k), (0, .ref 66), (1, .int 0), (2, .ref 81), (3, .int 0), (4, .int 512)], [], (q_cM A I q_J0, c, s))) rfl rfl (q_d_geF hk) ?_
    exact q_Ru_ret rfl rfl
  | succ m ih =>
    intro k A h0 h1
    have hk := q_ltT h1
    have e0 : (512 : Int32).toInt = 512 := rfl
    have e1 := q_inc (k := k) (by omega) (by omega)
    have i1 := q_in_add0 (k := k) (n := 512) h0 (by omega)
    have i2 := q_in_add0 (k := k) (n := 1536) h0 (by omega)
    obtain ⟨A2, p⟩ := ih (k + 1) (q_uA A 17 (upd (A 17) ((0 + k).toNatClampNeg) ((A 2) ((0 + k).toNatClampNeg)))) (by omega) (by omega)
    refine ⟨A2, ?_⟩
    refine q_Ru_seg (g2 := (7, [(5, .int k), (0, .ref 66), (1, .int 0), (2, .ref 81), (3, .int 0), (4, .int 512)], [.int 512, .int k], (q_cM A I q_J0, c, s))) 2 (fun _ _ => rfl) ?_
    refine q_Ru_rsF (g2 := (10, [(5, .int k), (0, .ref 66), (1, .int 0), (2, .ref 81), (3, .int 0), (4, .int 512)], [], (q_cM A I q_J0, c, s))) rfl rfl (q_d_geT hk) ?_
    refine q_Ru_seg (g2 := (20, [(5, .int k), (0, .ref 66), (1, .int 0), (2, .ref 81), (3, .int 0), (4, .int 512)], [.int (0 + k), .ref 66, .int (0 + k), .ref 81], (q_cM A I q_J0, c, s))) 8 (fun _ _ => rfl) ?_
    refine q_Ru_rsT (g2 := (21, [(5, .int k), (0, .ref 66), (1, .int 0), (2, .ref 81), (3, .int 0), (4, .int 512)], [.int ((A 2) ((0 + k).toNatClampNeg)), .int (0 + k), .ref 81], (q_cM A I q_J0, c, s))) rfl rfl i1 ?_
    refine q_Ru_rsT (g2 := (22, [(5, .int k), (0, .ref 66), (1, .int 0), (2, .ref 81), (3, .int 0), (4, .int 512)], [], (q_cM (q_uA A 17 (upd (A 17) ((0 + k).toNatClampNeg) ((A 2) ((0 + k).toNatClampNeg)))) I q_J0, c, s))) rfl rfl i2 ?_
    refine q_Ru_seg (g2 := (3, [(5, .int (k + 1)), (0, .ref 66), (1, .int 0), (2, .ref 81), (3, .int 0), (4, .int 512)], [], (q_cM (q_uA A 17 (upd (A 17) ((0 + k).toNatClampNeg) ((A 2) ((0 + k).toNatClampNeg)))) I q_J0, c, s))) 2 (fun _ _ => rfl) ?_
    exact p
theorem q_l67_82 (I : Nat → Nat → Int32) (c s : Nat) : ∀ (m : Nat) (k : Int32) (A : Nat → Nat → Int32), 0 ≤ k.toInt → k.toInt + (m : Int) = (2048 : Int32).toInt → ∃ A2, q_Ru q_TB0 1 304 (3, [(5, .int k), (0, .ref 67), (1, .int 0), (2, .ref 82), (3, .int 0), (4, .int 2048)], [], (q_cM A I q_J0, c, s)) (.inl none, q_cM A2 I q_J0, c, s) := by
  intro m
  induction m with
  | zero =>
    intro k A h0 h1
    have hk := q_ltF h1
    refine ⟨A, ?_⟩
    refine q_Ru_seg (g2 := (7, [(5, .int k), (0, .ref 67), (1, .int 0), (2, .ref 82), (3, .int 0), (4, .int 2048)], [.int 2048, .int k], (q_cM A I q_J0, c, s))) 2 (fun _ _ => rfl) ?_
    refine q_Ru_rsT (g2 := (28, [(5, .int k), (0, .ref 67), (1, .int 0), (2, .ref 82), (3, .int 0), (4, .int 2048)], [], (q_cM A I q_J0, c, s))) rfl rfl (q_d_geF hk) ?_
    exact q_Ru_ret rfl rfl
  | succ m ih =>
    intro k A h0 h1
    have hk := q_ltT h1
    have e0 : (2048 : Int32).toInt = 2048 := rfl
    have e1 := q_inc (k := k) (by omega) (by omega)
    have i1 := q_in_add0 (k := k) (n := 2048) h0 (by omega)
    have i2 := q_in_add0 (k := k) (n := 6144) h0 (by omega)
    obtain ⟨A2, p⟩ := ih (k + 1) (q_uA A 18 (upd (A 18) ((0 + k).toNatClampNeg) ((A 3) ((0 + k).toNatClampNeg)))) (by omega) (by omega)
    refine ⟨A2, ?_⟩
    refine q_Ru_seg (g2 := (7, [(5, .int k), (0, .ref 67), (1, .int 0), (2, .ref 82), (3, .int 0), (4, .int 2048)], [.int 2048, .int k], (q_cM A I q_J0, c, s))) 2 (fun _ _ => rfl) ?_
    refine q_Ru_rsF (g2 := (10, [(5, .int k), (0, .ref 67), (1, .int 0), (2, .ref 82), (3, .int 0), (4, .int 2048)], [], (q_cM A I q_J0, c, s))) rfl rfl (q_d_geT hk) ?_
    refine q_Ru_seg (g2 := (20, [(5, .int k), (0, .ref 67), (1, .int 0), (2, .ref 82), (3, .int 0), (4, .int 2048)], [.int (0 + k), .ref 67, .int (0 + k), .ref 82], (q_cM A I q_J0, c, s))) 8 (fun _ _ => rfl) ?_
    refine q_Ru_rsT (g2 := (21, [(5, .int k), (0, .ref 67), (1, .int 0), (2, .ref 82), (3, .int 0), (4, .int 2048)], [.int ((A 3) ((0 + k).toNatClampNeg)), .int (0 + k), .ref 82], (q_cM A I q_J0, c, s))) rfl rfl i1 ?_
    refine q_Ru_rsT (g2 := (22, [(5, .int k), (0, .ref 67), (1, .int 0), (2, .ref 82), (3, .int 0), (4, .int 2048)], [], (q_cM (q_uA A 18 (upd (A 18) ((0 + k).toNatClampNeg) ((A 3) ((0 + k).toNatClampNeg)))) I q_J0, c, s))) rfl rfl i2 ?_
    refine q_Ru_seg (g2 := (3, [(5, .int (k + 1)), (0, .ref 67), (1, .int 0), (2, .ref 82), (3, .int 0), (4, .int 2048)], [], (q_cM (q_uA A 18 (upd (A 18) ((0 + k).toNatClampNeg) ((A 3) ((0 + k).toNatClampNeg)))) I q_J0, c, s))) 2 (fun _ _ => rfl) ?_
    exact p
theorem q_l68_83 (I : Nat → Nat → Int32) (c s : Nat) : ∀ (m : Nat) (k : Int32) (A : Nat → Nat → Int32), 0 ≤ k.toInt → k.toInt + (m : Int) = (48 : Int32).toInt → ∃ A2, q_Ru q_TB0 1 304 (3, [(5, .int k), (0, .ref 68), (1, .int 0), (2, .ref 83), (3, .int 0), (4, .int 48)], [], (q_cM A I q_J0, c, s)) (.inl none, q_cM A2 I q_J0, c, s) := by
  intro m
  induction m with
  | zero =>
    intro k A h0 h1
    have hk := q_ltF h1
    refine ⟨A, ?_⟩
    refine q_Ru_seg (g2 := (7, [(5, .int k), (0, .ref 68), (1, .int 0), (2, .ref 83), (3, .int 0), (4, .int 48)], [.int 48, .int k], (q_cM A I q_J0, c, s))) 2 (fun _ _ => rfl) ?_
    refine q_Ru_rsT (g2 := (28, [(5, .int k), (0, .ref 68), (1, .int 0), (2, .ref 83), (3, .int 0), (4, .int 48)], [], (q_cM A I q_J0, c, s))) rfl rfl (q_d_geF hk) ?_
    exact q_Ru_ret rfl rfl
  | succ m ih =>
    intro k A h0 h1
    have hk := q_ltT h1
    have e0 : (48 : Int32).toInt = 48 := rfl
    have e1 := q_inc (k := k) (by omega) (by omega)
    have i1 := q_in_add0 (k := k) (n := 48) h0 (by omega)
    have i2 := q_in_add0 (k := k) (n := 144) h0 (by omega)
    obtain ⟨A2, p⟩ := ih (k + 1) (q_uA A 19 (upd (A 19) ((0 + k).toNatClampNeg) ((A 4) ((0 + k).toNatClampNeg)))) (by omega) (by omega)
    refine ⟨A2, ?_⟩
    refine q_Ru_seg (g2 := (7, [(5, .int k), (0, .ref 68), (1, .int 0), (2, .ref 83), (3, .int 0), (4, .int 48)], [.int 48, .int k], (q_cM A I q_J0, c, s))) 2 (fun _ _ => rfl) ?_
    refine q_Ru_rsF (g2 := (10, [(5, .int k), (0, .ref 68), (1, .int 0), (2, .ref 83), (3, .int 0), (4, .int 48)], [], (q_cM A I q_J0, c, s))) rfl rfl (q_d_geT hk) ?_
    refine q_Ru_seg (g2 := (20, [(5, .int k), (0, .ref 68), (1, .int 0), (2, .ref 83), (3, .int 0), (4, .int 48)], [.int (0 + k), .ref 68, .int (0 + k), .ref 83], (q_cM A I q_J0, c, s))) 8 (fun _ _ => rfl) ?_
    refine q_Ru_rsT (g2 := (21, [(5, .int k), (0, .ref 68), (1, .int 0), (2, .ref 83), (3, .int 0), (4, .int 48)], [.int ((A 4) ((0 + k).toNatClampNeg)), .int (0 + k), .ref 83], (q_cM A I q_J0, c, s))) rfl rfl i1 ?_
    refine q_Ru_rsT (g2 := (22, [(5, .int k), (0, .ref 68), (1, .int 0), (2, .ref 83), (3, .int 0), (4, .int 48)], [], (q_cM (q_uA A 19 (upd (A 19) ((0 + k).toNatClampNeg) ((A 4) ((0 + k).toNatClampNeg)))) I q_J0, c, s))) rfl rfl i2 ?_
    refine q_Ru_seg (g2 := (3, [(5, .int (k + 1)), (0, .ref 68), (1, .int 0), (2, .ref 83), (3, .int 0), (4, .int 48)], [], (q_cM (q_uA A 19 (upd (A 19) ((0 + k).toNatClampNeg) ((A 4) ((0 + k).toNatClampNeg)))) I q_J0, c, s))) 2 (fun _ _ => rfl) ?_
    exact p
theorem q_l69_84 (I : Nat → Nat → Int32) (c s : Nat) : ∀ (m : Nat) (k : Int32) (A : Nat → Nat → Int32), 0 ≤ k.toInt → k.toInt + (m : Int) = (1024 : Int32).toInt → ∃ A2, q_Ru q_TB0 1 304 (3, [(5, .int k), (0, .ref 69), (1, .int 0), (2, .ref 84), (3, .int 0), (4, .int 1024)], [], (q_cM A I q_J0, c, s)) (.inl none, q_cM A2 I q_J0, c, s) := by
  intro m
  induction m with
  | zero =>
    intro k A h0 h1
    have hk := q_ltF h1
    refine ⟨A, ?_⟩
    refine q_Ru_seg (g2 := (7, [(5, .int k), (0, .ref 69), (1, .int 0), (2, .ref 84), (3, .int 0), (4, .int 1024)], [.int 1024, .int k], (q_cM A I q_J0, c, s))) 2 (fun _ _ => rfl) ?_
    refine q_Ru_rsT (g2 := (28, [(5, .int k), (0, .ref 69), (1, .int 0), (2, .ref 84), (3, .int 0), (4, .int 1024)], [], (q_cM A I q_J0, c, s))) rfl rfl (q_d_geF hk) ?_
    exact q_Ru_ret rfl rfl
  | succ m ih =>
    intro k A h0 h1
    have hk := q_ltT h1
    have e0 : (1024 : Int32).toInt = 1024 := rfl
    have e1 := q_inc (k := k) (by omega) (by omega)
    have i1 := q_in_add0 (k := k) (n := 1024) h0 (by omega)
    have i2 := q_in_add0 (k := k) (n := 3072) h0 (by omega)
    obtain ⟨A2, p⟩ := ih (k + 1) (q_uA A 20 (upd (A 20) ((0 + k).toNatClampNeg) ((A 5) ((0 + k).toNatClampNeg)))) (by omega) (by omega)
    refine ⟨A2, ?_⟩
    refine q_Ru_seg (g2 := (7, [(5, .int k), (0, .ref 69), (1, .int 0), (2, .ref 84), (3, .int 0), (4, .int 1024)], [.int 1024, .int k], (q_cM A I q_J0, c, s))) 2 (fun _ _ => rfl) ?_
    refine q_Ru_rsF (g2 := (10, [(5, .int k), (0, .ref 69), (1, .int 0), (2, .ref 84), (3, .int 0), (4, .int 1024)], [], (q_cM A I q_J0, c, s))) rfl rfl (q_d_geT hk) ?_
    refine q_Ru_seg (g2 := (20, [(5, .int k), (0, .ref 69), (1, .int 0), (2, .ref 84), (3, .int 0), (4, .int 1024)], [.int (0 + k), .ref 69, .int (0 + k), .ref 84], (q_cM A I q_J0, c, s))) 8 (fun _ _ => rfl) ?_
    refine q_Ru_rsT (g2 := (21, [(5, .int k), (0, .ref 69), (1, .int 0), (2, .ref 84), (3, .int 0), (4, .int 1024)], [.int ((A 5) ((0 + k).toNatClampNeg)), .int (0 + k), .ref 84], (q_cM A I q_J0, c, s))) rfl rfl i1 ?_
    refine q_Ru_rsT (g2 := (22, [(5, .int k), (0, .ref 69), (1, .int 0), (2, .ref 84), (3, .int 0), (4, .int 1024)], [], (q_cM (q_uA A 20 (upd (A 20) ((0 + k).toNatClampNeg) ((A 5) ((0 + k).toNatClampNeg)))) I q_J0, c, s))) rfl rfl i2 ?_
    refine q_Ru_seg (g2 := (3, [(5, .int (k + 1)), (0, .ref 69), (1, .int 0), (2, .ref 84), (3, .int 0), (4, .int 1024)], [], (q_cM (q_uA A 20 (upd (A 20) ((0 + k).toNatClampNeg) ((A 5) ((0 + k).toNatClampNeg)))) I q_J0, c, s))) 2 (fun _ _ => rfl) ?_
    exact p
theorem q_l70_85 (I : Nat → Nat → Int32) (c s : Nat) : ∀ (m : Nat) (k : Int32) (A : Nat → Nat → Int32), 0 ≤ k.toInt → k.toInt + (m : Int) = (40 : Int32).toInt → ∃ A2, q_Ru q_TB0 1 304 (3, [(5, .int k), (0, .ref 70), (1, .int 0), (2, .ref 85), (3, .int 0), (4, .int 40)], [], (q_cM A I q_J0, c, s)) (.inl none, q_cM A2 I q_J0, c, s) := by
  intro m
  induction m with
  | zero =>
    intro k A h0 h1
    have hk := q_ltF h1
    refine ⟨A, ?_⟩
    refine q_Ru_seg (g2 := (7, [(5, .int k), (0, .ref 70), (1, .int 0), (2, .ref 85), (3, .int 0), (4, .int 40)], [.int 40, .int k], (q_cM A I q_J0, c, s))) 2 (fun _ _ => rfl) ?_
    refine q_Ru_rsT (g2 := (28, [(5, .int k), (0, .ref 70), (1, .int 0), (2, .ref 85), (3, .int 0), (4, .int 40)], [], (q_cM A I q_J0, c, s))) rfl rfl (q_d_geF hk) ?_
    exact q_Ru_ret rfl rfl
  | succ m ih =>
    intro k A h0 h1
    have hk := q_ltT h1
    have e0 : (40 : Int32).toInt = 40 := rfl
    have e1 := q_inc (k := k) (by omega) (by omega)
    have i1 := q_in_add0 (k := k) (n := 40) h0 (by omega)
    have i2 := q_in_add0 (k := k) (n := 120) h0 (by omega)
    obtain ⟨A2, p⟩ := ih (k + 1) (q_uA A 21 (upd (A 21) ((0 + k).toNatClampNeg) ((A 6) ((0 + k).toNatClampNeg)))) (by omega) (by omega)
    refine ⟨A2, ?_⟩
    refine q_Ru_seg (g2 := (7, [(5, .int k), (0, .ref 70), (1, .int 0), (2, .ref 85), (3, .int 0), (4, .int 40)], [.int 40, .int k], (q_cM A I q_J0, c, s))) 2 (fun _ _ => rfl) ?_
    refine q_Ru_rsF (g2 := (10, [(5, .int k), (0, .ref 70), (1, .int 0), (2, .ref 85), (3, .int 0), (4, .int 40)], [], (q_cM A I q_J0, c, s))) rfl rfl (q_d_geT hk) ?_
    refine q_Ru_seg (g2 := (20, [(5, .int k), (0, .ref 70), (1, .int 0), (2, .ref 85), (3, .int 0), (4, .int 40)], [.int (0 + k), .ref 70, .int (0 + k), .ref 85], (q_cM A I q_J0, c, s))) 8 (fun _ _ => rfl) ?_
    refine q_Ru_rsT (g2 := (21, [(5, .int k), (0, .ref 70), (1, .int 0), (2, .ref 85), (3, .int 0), (4, .int 40)], [.int ((A 6) ((0 + k).toNatClampNeg)), .int (0 + k), .ref 85], (q_cM A I q_J0, c, s))) rfl rfl i1 ?_
    refine q_Ru_rsT (g2 := (22, [(5, .int k), (0, .ref 70), (1, .int 0), (2, .ref 85), (3, .int 0), (4, .int 40)], [], (q_cM (q_uA A 21 (upd (A 21) ((0 + k).toNatClampNeg) ((A 6) ((0 + k).toNatClampNeg)))) I q_J0, c, s))) rfl rfl i2 ?_
    refine q_Ru_seg (g2 := (3, [(5, .int (k + 1)), (0, .ref 70), (1, .int 0), (2, .ref 85), (3, .int 0), (4, .int 40)], [], (q_cM (q_uA A 21 (upd (A 21) ((0 + k).toNatClampNeg) ((A 6) ((0 + k).toNatClampNeg)))) I q_J0, c, s))) 2 (fun _ _ => rfl) ?_
    exact p
theorem q_l72_87 (I : Nat → Nat → Int32) (c s : Nat) : ∀ (m : Nat) (k : Int32) (A : Nat → Nat → Int32), 0 ≤ k.toInt → k.toInt + (m : Int) = (40 : Int32).toInt → ∃ A2, q_Ru q_TB0 1 304 (3, [(5, .int k), (0, .ref 72), (1, .int 0), (2, .ref 87), (3, .int 0), (4, .int 40)], [], (q_cM A I q_J0, c, s)) (.inl none, q_cM A2 I q_J0, c, s) := by
  intro m
  induction m with
  | zero =>
    intro k A h0 h1
    have hk := q_ltF h1
    refine ⟨A, ?_⟩
    refine q_Ru_seg (g2 := (7, [(5, .int k), (0, .ref 72), (1, .int 0), (2, .ref 87), (3, .int 0), (4, .int 40)], [.int 40, .int k], (q_cM A I q_J0, c, s))) 2 (fun _ _ => rfl) ?_
    refine q_Ru_rsT (g2 := (28, [(5, .int k), (0, .ref 72), (1, .int 0), (2, .ref 87), (3, .int 0), (4, .int 40)], [], (q_cM A I q_J0, c, s))) rfl rfl (q_d_geF hk) ?_
    exact q_Ru_ret rfl rfl
  | succ m ih =>
    intro k A h0 h1
    have hk := q_ltT h1
    have e0 : (40 : Int32).toInt = 40 := rfl
    have e1 := q_inc (k := k) (by omega) (by omega)
    have i1 := q_in_add0 (k := k) (n := 40) h0 (by omega)
    have i2 := q_in_add0 (k := k) (n := 120) h0 (by omega)
    obtain ⟨A2, p⟩ := ih (k + 1) (q_uA A 23 (upd (A 23) ((0 + k).toNatClampNeg) ((A 8) ((0 + k).toNatClampNeg)))) (by omega) (by omega)
    refine ⟨A2, ?_⟩
    refine q_Ru_seg (g2 := (7, [(5, .int k), (0, .ref 72), (1, .int 0), (2, .ref 87), (3, .int 0), (4, .int 40)], [.int 40, .int k], (q_cM A I q_J0, c, s))) 2 (fun _ _ => rfl) ?_
    refine q_Ru_rsF (g2 := (10, [(5, .int k), (0, .ref 72), (1, .int 0), (2, .ref 87), (3, .int 0), (4, .int 40)], [], (q_cM A I q_J0, c, s))) rfl rfl (q_d_geT hk) ?_
    refine q_Ru_seg (g2 := (20, [(5, .int k), (0, .ref 72), (1, .int 0), (2, .ref 87), (3, .int 0), (4, .int 40)], [.int (0 + k), .ref 72, .int (0 + k), .ref 87], (q_cM A I q_J0, c, s))) 8 (fun _ _ => rfl) ?_
    refine q_Ru_rsT (g2 := (21, [(5, .int k), (0, .ref 72), (1, .int 0), (2, .ref 87), (3, .int 0), (4, .int 40)], [.int ((A 8) ((0 + k).toNatClampNeg)), .int (0 + k), .ref 87], (q_cM A I q_J0, c, s))) rfl rfl i1 ?_
    refine q_Ru_rsT (g2 := (22, [(5, .int k), (0, .ref 72), (1, .int 0), (2, .ref 87), (3, .int 0), (4, .int 40)], [], (q_cM (q_uA A 23 (upd (A 23) ((0 + k).toNatClampNeg) ((A 8) ((0 + k).toNatClampNeg)))) I q_J0, c, s))) rfl rfl i2 ?_
    refine q_Ru_seg (g2 := (3, [(5, .int (k + 1)), (0, .ref 72), (1, .int 0), (2, .ref 87), (3, .int 0), (4, .int 40)], [], (q_cM (q_uA A 23 (upd (A 23) ((0 + k).toNatClampNeg) ((A 8) ((0 + k).toNatClampNeg)))) I q_J0, c, s))) 2 (fun _ _ => rfl) ?_
    exact p
theorem q_l73_88 (I : Nat → Nat → Int32) (c s : Nat) : ∀ (m : Nat) (k : Int32) (A : Nat → Nat → Int32), 0 ≤ k.toInt → k.toInt + (m : Int) = (16 : Int32).toInt → ∃ A2, q_Ru q_TB0 1 304 (3, [(5, .int k), (0, .ref 73), (1, .int 0), (2, .ref 88), (3, .int 0), (4, .int 16)], [], (q_cM A I q_J0, c, s)) (.inl none, q_cM A2 I q_J0, c, s) := by
  intro m
  induction m with
  | zero =>
    intro k A h0 h1
    have hk := q_ltF h1
    refine ⟨A, ?_⟩
    refine q_Ru_seg (g2 := (7, [(5, .int k), (0, .ref 73), (1, .int 0), (2, .ref 88), (3, .int 0), (4, .int 16)], [.int 16, .int k], (q_cM A I q_J0, c, s))) 2 (fun _ _ => rfl) ?_
    refine q_Ru_rsT (g2 := (28, [(5, .int k), (0, .ref 73), (1, .int 0), (2, .ref 88), (3, .int 0), (4, .int 16)], [], (q_cM A I q_J0, c, s))) rfl rfl (q_d_geF hk) ?_
    exact q_Ru_ret rfl rfl
  | succ m ih =>
    intro k A h0 h1
    have hk := q_ltT h1
    have e0 : (16 : Int32).toInt = 16 := rfl
    have e1 := q_inc (k := k) (by omega) (by omega)
    have i1 := q_in_add0 (k := k) (n := 16) h0 (by omega)
    have i2 := q_in_add0 (k := k) (n := 48) h0 (by omega)
    obtain ⟨A2, p⟩ := ih (k + 1) (q_uA A 24 (upd (A 24) ((0 + k).toNatClampNeg) ((A 9) ((0 + k).toNatClampNeg)))) (by omega) (by omega)
    refine ⟨A2, ?_⟩
    refine q_Ru_seg (g2 := (7, [(5, .int k), (0, .ref 73), (1, .int 0), (2, .ref 88), (3, .int 0), (4, .int 16)], [.int 16, .int k], (q_cM A I q_J0, c, s))) 2 (fun _ _ => rfl) ?_
    refine q_Ru_rsF (g2 := (10, [(5, .int k), (0, .ref 73), (1, .int 0), (2, .ref 88), (3, .int 0), (4, .int 16)], [], (q_cM A I q_J0, c, s))) rfl rfl (q_d_geT hk) ?_
    refine q_Ru_seg (g2 := (20, [(5, .int k), (0, .ref 73), (1, .int 0), (2, .ref 88), (3, .int 0), (4, .int 16)], [.int (0 + k), .ref 73, .int (0 + k), .ref 88], (q_cM A I q_J0, c, s))) 8 (fun _ _ => rfl) ?_
    refine q_Ru_rsT (g2 := (21, [(5, .int k), (0, .ref 73), (1, .int 0), (2, .ref 88), (3, .int 0), (4, .int 16)], [.int ((A 9) ((0 + k).toNatClampNeg)), .int (0 + k), .ref 88], (q_cM A I q_J0, c, s))) rfl rfl i1 ?_
    refine q_Ru_rsT (g2 := (22, [(5, .int k), (0, .ref 73), (1, .int 0), (2, .ref 88), (3, .int 0), (4, .int 16)], [], (q_cM (q_uA A 24 (upd (A 24) ((0 + k).toNatClampNeg) ((A 9) ((0 + k).toNatClampNeg)))) I q_J0, c, s))) rfl rfl i2 ?_
    refine q_Ru_seg (g2 := (3, [(5, .int (k + 1)), (0, .ref 73), (1, .int 0), (2, .ref 88), (3, .int 0), (4, .int 16)], [], (q_cM (q_uA A 24 (upd (A 24) ((0 + k).toNatClampNeg) ((A 9) ((0 + k).toNatClampNeg)))) I q_J0, c, s))) 2 (fun _ _ => rfl) ?_
    exact p
theorem q_l74_89 (I : Nat → Nat → Int32) (c s : Nat) : ∀ (m : Nat) (k : Int32) (A : Nat → Nat → Int32), 0 ≤ k.toInt → k.toInt + (m : Int) = (3 : Int32).toInt → ∃ A2, q_Ru q_TB0 1 304 (3, [(5, .int k), (0, .ref 74), (1, .int 0), (2, .ref 89), (3, .int 0), (4, .int 3)], [], (q_cM A I q_J0, c, s)) (.inl none, q_cM A2 I q_J0, c, s) := by
  intro m
  induction m with
  | zero =>
    intro k A h0 h1
    have hk := q_ltF h1
    refine ⟨A, ?_⟩
    refine q_Ru_seg (g2 := (7, [(5, .int k), (0, .ref 74), (1, .int 0), (2, .ref 89), (3, .int 0), (4, .int 3)], [.int 3, .int k], (q_cM A I q_J0, c, s))) 2 (fun _ _ => rfl) ?_
    refine q_Ru_rsT (g2 := (28, [(5, .int k), (0, .ref 74), (1, .int 0), (2, .ref 89), (3, .int 0), (4, .int 3)], [], (q_cM A I q_J0, c, s))) rfl rfl (q_d_geF hk) ?_
    exact q_Ru_ret rfl rfl
  | succ m ih =>
    intro k A h0 h1
    have hk := q_ltT h1
    have e0 : (3 : Int32).toInt = 3 := rfl
    have e1 := q_inc (k := k) (by omega) (by omega)
    have i1 := q_in_add0 (k := k) (n := 3) h0 (by omega)
    have i2 := q_in_add0 (k := k) (n := 9) h0 (by omega)
    obtain ⟨A2, p⟩ := ih (k + 1) (q_uA A 25 (upd (A 25) ((0 + k).toNatClampNeg) ((A 10) ((0 + k).toNatClampNeg)))) (by omega) (by omega)
    refine ⟨A2, ?_⟩
    refine q_Ru_seg (g2 := (7, [(5, .int k), (0, .ref 74), (1, .int 0), (2, .ref 89), (3, .int 0), (4, .int 3)], [.int 3, .int k], (q_cM A I q_J0, c, s))) 2 (fun _ _ => rfl) ?_
    refine q_Ru_rsF (g2 := (10, [(5, .int k), (0, .ref 74), (1, .int 0), (2, .ref 89), (3, .int 0), (4, .int 3)], [], (q_cM A I q_J0, c, s))) rfl rfl (q_d_geT hk) ?_
    refine q_Ru_seg (g2 := (20, [(5, .int k), (0, .ref 74), (1, .int 0), (2, .ref 89), (3, .int 0), (4, .int 3)], [.int (0 + k), .ref 74, .int (0 + k), .ref 89], (q_cM A I q_J0, c, s))) 8 (fun _ _ => rfl) ?_
    refine q_Ru_rsT (g2 := (21, [(5, .int k), (0, .ref 74), (1, .int 0), (2, .ref 89), (3, .int 0), (4, .int 3)], [.int ((A 10) ((0 + k).toNatClampNeg)), .int (0 + k), .ref 89], (q_cM A I q_J0, c, s))) rfl rfl i1 ?_
    refine q_Ru_rsT (g2 := (22, [(5, .int k), (0, .ref 74), (1, .int 0), (2, .ref 89), (3, .int 0), (4, .int 3)], [], (q_cM (q_uA A 25 (upd (A 25) ((0 + k).toNatClampNeg) ((A 10) ((0 + k).toNatClampNeg)))) I q_J0, c, s))) rfl rfl i2 ?_
    refine q_Ru_seg (g2 := (3, [(5, .int (k + 1)), (0, .ref 74), (1, .int 0), (2, .ref 89), (3, .int 0), (4, .int 3)], [], (q_cM (q_uA A 25 (upd (A 25) ((0 + k).toNatClampNeg) ((A 10) ((0 + k).toNatClampNeg)))) I q_J0, c, s))) 2 (fun _ _ => rfl) ?_
    exact p
theorem q_l75_90 (I : Nat → Nat → Int32) (c s : Nat) : ∀ (m : Nat) (k : Int32) (A : Nat → Nat → Int32), 0 ≤ k.toInt → k.toInt + (m : Int) = (3 : Int32).toInt → ∃ A2, q_Ru q_TB0 1 304 (3, [(5, .int k), (0, .ref 75), (1, .int 0), (2, .ref 90), (3, .int 0), (4, .int 3)], [], (q_cM A I q_J0, c, s)) (.inl none, q_cM A2 I q_J0, c, s) := by
  intro m
  induction m with
  | zero =>
    intro k A h0 h1
    have hk := q_ltF h1
    refine ⟨A, ?_⟩
    refine q_Ru_seg (g2 := (7, [(5, .int k), (0, .ref 75), (1, .int 0), (2, .ref 90), (3, .int 0), (4, .int 3)], [.int 3, .int k], (q_cM A I q_J0, c, s))) 2 (fun _ _ => rfl) ?_
    refine q_Ru_rsT (g2 := (28, [(5, .int k), (0, .ref 75), (1, .int 0), (2, .ref 90), (3, .int 0), (4, .int 3)], [], (q_cM A I q_J0, c, s))) rfl rfl (q_d_geF hk) ?_
    exact q_Ru_ret rfl rfl
  | succ m ih =>
    intro k A h0 h1
    have hk := q_ltT h1
    have e0 : (3 : Int32).toInt = 3 := rfl
    have e1 := q_inc (k := k) (by omega) (by omega)
    have i1 := q_in_add0 (k := k) (n := 3) h0 (by omega)
    have i2 := q_in_add0 (k := k) (n := 9) h0 (by omega)
    obtain ⟨A2, p⟩ := ih (k + 1) (q_uA A 26 (upd (A 26) ((0 + k).toNatClampNeg) ((A 11) ((0 + k).toNatClampNeg)))) (by omega) (by omega)
    refine ⟨A2, ?_⟩
    refine q_Ru_seg (g2 := (7, [(5, .int k), (0, .ref 75), (1, .int 0), (2, .ref 90), (3, .int 0), (4, .int 3)], [.int 3, .int k], (q_cM A I q_J0, c, s))) 2 (fun _ _ => rfl) ?_
    refine q_Ru_rsF (g2 := (10, [(5, .int k), (0, .ref 75), (1, .int 0), (2, .ref 90), (3, .int 0), (4, .int 3)], [], (q_cM A I q_J0, c, s))) rfl rfl (q_d_geT hk) ?_
    refine q_Ru_seg (g2 := (20, [(5, .int k), (0, .ref 75), (1, .int 0), (2, .ref 90), (3, .int 0), (4, .int 3)], [.int (0 + k), .ref 75, .int (0 + k), .ref 90], (q_cM A I q_J0, c, s))) 8 (fun _ _ => rfl) ?_
    refine q_Ru_rsT (g2 := (21, [(5, .int k), (0, .ref 75), (1, .int 0), (2, .ref 90), (3, .int 0), (4, .int 3)], [.int ((A 11) ((0 + k).toNatClampNeg)), .int (0 + k), .ref 90], (q_cM A I q_J0, c, s))) rfl rfl i1 ?_
    refine q_Ru_rsT (g2 := (22, [(5, .int k), (0, .ref 75), (1, .int 0), (2, .ref 90), (3, .int 0), (4, .int 3)], [], (q_cM (q_uA A 26 (upd (A 26) ((0 + k).toNatClampNeg) ((A 11) ((0 + k).toNatClampNeg)))) I q_J0, c, s))) rfl rfl i2 ?_
    refine q_Ru_seg (g2 := (3, [(5, .int (k + 1)), (0, .ref 75), (1, .int 0), (2, .ref 90), (3, .int 0), (4, .int 3)], [], (q_cM (q_uA A 26 (upd (A 26) ((0 + k).toNatClampNeg) ((A 11) ((0 + k).toNatClampNeg)))) I q_J0, c, s))) 2 (fun _ _ => rfl) ?_
    exact p
theorem q_l76_91 (I : Nat → Nat → Int32) (c s : Nat) : ∀ (m : Nat) (k : Int32) (A : Nat → Nat → Int32), 0 ≤ k.toInt → k.toInt + (m : Int) = (3 : Int32).toInt → ∃ A2, q_Ru q_TB0 1 304 (3, [(5, .int k), (0, .ref 76), (1, .int 0), (2, .ref 91), (3, .int 0), (4, .int 3)], [], (q_cM A I q_J0, c, s)) (.inl none, q_cM A2 I q_J0, c, s) := by
  intro m
  induction m with
  | zero =>
    intro k A h0 h1
    have hk := q_ltF h1
    refine ⟨A, ?_⟩
    refine q_Ru_seg (g2 := (7, [(5, .int k), (0, .ref 76), (1, .int 0), (2, .ref 91), (3, .int 0), (4, .int 3)], [.int 3, .int k], (q_cM A I q_J0, c, s))) 2 (fun _ _ => rfl) ?_
    refine q_Ru_rsT (g2 := (28, [(5, .int k), (0, .ref 76), (1, .int 0), (2, .ref 91), (3, .int 0), (4, .int 3)], [], (q_cM A I q_J0, c, s))) rfl rfl (q_d_geF hk) ?_
    exact q_Ru_ret rfl rfl
  | succ m ih =>
    intro k A h0 h1
    have hk := q_ltT h1
    have e0 : (3 : Int32).toInt = 3 := rfl
    have e1 := q_inc (k := k) (by omega) (by omega)
    have i1 := q_in_add0 (k := k) (n := 3) h0 (by omega)
    have i2 := q_in_add0 (k := k) (n := 9) h0 (by omega)
    obtain ⟨A2, p⟩ := ih (k + 1) (q_uA A 27 (upd (A 27) ((0 + k).toNatClampNeg) ((A 12) ((0 + k).toNatClampNeg)))) (by omega) (by omega)
    refine ⟨A2, ?_⟩
    refine q_Ru_seg (g2 := (7, [(5, .int k), (0, .ref 76), (1, .int 0), (2, .ref 91), (3, .int 0), (4, .int 3)], [.int 3, .int k], (q_cM A I q_J0, c, s))) 2 (fun _ _ => rfl) ?_
    refine q_Ru_rsF (g2 := (10, [(5, .int k), (0, .ref 76), (1, .int 0), (2, .ref 91), (3, .int 0), (4, .int 3)], [], (q_cM A I q_J0, c, s))) rfl rfl (q_d_geT hk) ?_
    refine q_Ru_seg (g2 := (20, [(5, .int k), (0, .ref 76), (1, .int 0), (2, .ref 91), (3, .int 0), (4, .int 3)], [.int (0 + k), .ref 76, .int (0 + k), .ref 91], (q_cM A I q_J0, c, s))) 8 (fun _ _ => rfl) ?_
    refine q_Ru_rsT (g2 := (21, [(5, .int k), (0, .ref 76), (1, .int 0), (2, .ref 91), (3, .int 0), (4, .int 3)], [.int ((A 12) ((0 + k).toNatClampNeg)), .int (0 + k), .ref 91], (q_cM A I q_J0, c, s))) rfl rfl i1 ?_
    refine q_Ru_rsT (g2 := (22, [(5, .int k), (0, .ref 76), (1, .int 0), (2, .ref 91), (3, .int 0), (4, .int 3)], [], (q_cM (q_uA A 27 (upd (A 27) ((0 + k).toNatClampNeg) ((A 12) ((0 + k).toNatClampNeg)))) I q_J0, c, s))) rfl rfl i2 ?_
    refine q_Ru_seg (g2 := (3, [(5, .int (k + 1)), (0, .ref 76), (1, .int 0), (2, .ref 91), (3, .int 0), (4, .int 3)], [], (q_cM (q_uA A 27 (upd (A 27) ((0 + k).toNatClampNeg) ((A 12) ((0 + k).toNatClampNeg)))) I q_J0, c, s))) 2 (fun _ _ => rfl) ?_
    exact p
theorem q_l77_92 (I : Nat → Nat → Int32) (c s : Nat) : ∀ (m : Nat) (k : Int32) (A : Nat → Nat → Int32), 0 ≤ k.toInt → k.toInt + (m : Int) = (3 : Int32).toInt → ∃ A2, q_Ru q_TB0 1 304 (3, [(5, .int k), (0, .ref 77), (1, .int 0), (2, .ref 92), (3, .int 0), (4, .int 3)], [], (q_cM A I q_J0, c, s)) (.inl none, q_cM A2 I q_J0, c, s) := by
  intro m
  induction m with
  | zero =>
    intro k A h0 h1
    have hk := q_ltF h1
    refine ⟨A, ?_⟩
    refine q_Ru_seg (g2 := (7, [(5, .int k), (0, .ref 77), (1, .int 0), (2, .ref 92), (3, .int 0), (4, .int 3)], [.int 3, .int k], (q_cM A I q_J0, c, s))) 2 (fun _ _ => rfl) ?_
    refine q_Ru_rsT (g2 := (28, [(5, .int k), (0, .ref 77), (1, .int 0), (2, .ref 92), (3, .int 0), (4, .int 3)], [], (q_cM A I q_J0, c, s))) rfl rfl (q_d_geF hk) ?_
    exact q_Ru_ret rfl rfl
  | succ m ih =>
    intro k A h0 h1
    have hk := q_ltT h1
    have e0 : (3 : Int32).toInt = 3 := rfl
    have e1 := q_inc (k := k) (by omega) (by omega)
    have i1 := q_in_add0 (k := k) (n := 3) h0 (by omega)
    have i2 := q_in_add0 (k := k) (n := 9) h0 (by omega)
    obtain ⟨A2, p⟩ := ih (k + 1) (q_uA A 28 (upd (A 28) ((0 + k).toNatClampNeg) ((A 13) ((0 + k).toNatClampNeg)))) (by omega) (by omega)
    refine ⟨A2, ?_⟩
    refine q_Ru_seg (g2 := (7, [(5, .int k), (0, .ref 77), (1, .int 0), (2, .ref 92), (3, .int 0), (4, .int 3)], [.int 3, .int k], (q_cM A I q_J0, c, s))) 2 (fun _ _ => rfl) ?_
    refine q_Ru_rsF (g2 := (10, [(5, .int k), (0, .ref 77), (1, .int 0), (2, .ref 92), (3, .int 0), (4, .int 3)], [], (q_cM A I q_J0, c, s))) rfl rfl (q_d_geT hk) ?_
    refine q_Ru_seg (g2 := (20, [(5, .int k), (0, .ref 77), (1, .int 0), (2, .ref 92), (3, .int 0), (4, .int 3)], [.int (0 + k), .ref 77, .int (0 + k), .ref 92], (q_cM A I q_J0, c, s))) 8 (fun _ _ => rfl) ?_
    refine q_Ru_rsT (g2 := (21, [(5, .int k), (0, .ref 77), (1, .int 0), (2, .ref 92), (3, .int 0), (4, .int 3)], [.int ((A 13) ((0 + k).toNatClampNeg)), .int (0 + k), .ref 92], (q_cM A I q_J0, c, s))) rfl rfl i1 ?_
    refine q_Ru_rsT (g2 := (22, [(5, .int k), (0, .ref 77), (1, .int 0), (2, .ref 92), (3, .int 0), (4, .int 3)], [], (q_cM (q_uA A 28 (upd (A 28) ((0 + k).toNatClampNeg) ((A 13) ((0 + k).toNatClampNeg)))) I q_J0, c, s))) rfl rfl i2 ?_
    refine q_Ru_seg (g2 := (3, [(5, .int (k + 1)), (0, .ref 77), (1, .int 0), (2, .ref 92), (3, .int 0), (4, .int 3)], [], (q_cM (q_uA A 28 (upd (A 28) ((0 + k).toNatClampNeg) ((A 13) ((0 + k).toNatClampNeg)))) I q_J0, c, s))) 2 (fun _ _ => rfl) ?_
    exact p
theorem q_l78_93 (I : Nat → Nat → Int32) (c s : Nat) : ∀ (m : Nat) (k : Int32) (A : Nat → Nat → Int32), 0 ≤ k.toInt → k.toInt + (m : Int) = (24 : Int32).toInt → ∃ A2, q_Ru q_TB0 1 304 (3, [(5, .int k), (0, .ref 78), (1, .int 0), (2, .ref 93), (3, .int 0), (4, .int 24)], [], (q_cM A I q_J0, c, s)) (.inl none, q_cM A2 I q_J0, c, s) := by
  intro m
  induction m with
  | zero =>
    intro k A h0 h1
    have hk := q_ltF h1
    refine ⟨A, ?_⟩
    refine q_Ru_seg (g2 := (7, [(5, .int k), (0, .ref 78), (1, .int 0), (2, .ref 93), (3, .int 0), (4, .int 24)], [.int 24, .int k], (q_cM A I q_J0, c, s))) 2 (fun _ _ => rfl) ?_
    refine q_Ru_rsT (g2 := (28, [(5, .int k), (0, .ref 78), (1, .int 0), (2, .ref 93), (3, .int 0), (4, .int 24)], [], (q_cM A I q_J0, c, s))) rfl rfl (q_d_geF hk) ?_
    exact q_Ru_ret rfl rfl
  | succ m ih =>
    intro k A h0 h1
    have hk := q_ltT h1
    have e0 : (24 : Int32).toInt = 24 := rfl
    have e1 := q_inc (k := k) (by omega) (by omega)
    have i1 := q_in_add0 (k := k) (n := 24) h0 (by omega)
    have i2 := q_in_add0 (k := k) (n := 72) h0 (by omega)
    obtain ⟨A2, p⟩ := ih (k + 1) (q_uA A 29 (upd (A 29) ((0 + k).toNatClampNeg) ((A 14) ((0 + k).toNatClampNeg)))) (by omega) (by omega)
    refine ⟨A2, ?_⟩
    refine q_Ru_seg (g2 := (7, [(5, .int k), (0, .ref 78), (1, .int 0), (2, .ref 93), (3, .int 0), (4, .int 24)], [.int 24, .int k], (q_cM A I q_J0, c, s))) 2 (fun _ _ => rfl) ?_
    refine q_Ru_rsF (g2 := (10, [(5, .int k), (0, .ref 78), (1, .int 0), (2, .ref 93), (3, .int 0), (4, .int 24)], [], (q_cM A I q_J0, c, s))) rfl rfl (q_d_geT hk) ?_
    refine q_Ru_seg (g2 := (20, [(5, .int k), (0, .ref 78), (1, .int 0), (2, .ref 93), (3, .int 0), (4, .int 24)], [.int (0 + k), .ref 78, .int (0 + k), .ref 93], (q_cM A I q_J0, c, s))) 8 (fun _ _ => rfl) ?_
    refine q_Ru_rsT (g2 := (21, [(5, .int k), (0, .ref 78), (1, .int 0), (2, .ref 93), (3, .int 0), (4, .int 24)], [.int ((A 14) ((0 + k).toNatClampNeg)), .int (0 + k), .ref 93], (q_cM A I q_J0, c, s))) rfl rfl i1 ?_
    refine q_Ru_rsT (g2 := (22, [(5, .int k), (0, .ref 78), (1, .int 0), (2, .ref 93), (3, .int 0), (4, .int 24)], [], (q_cM (q_uA A 29 (upd (A 29) ((0 + k).toNatClampNeg) ((A 14) ((0 + k).toNatClampNeg)))) I q_J0, c, s))) rfl rfl i2 ?_
    refine q_Ru_seg (g2 := (3, [(5, .int (k + 1)), (0, .ref 78), (1, .int 0), (2, .ref 93), (3, .int 0), (4, .int 24)], [], (q_cM (q_uA A 29 (upd (A 29) ((0 + k).toNatClampNeg) ((A 14) ((0 + k).toNatClampNeg)))) I q_J0, c, s))) 2 (fun _ _ => rfl) ?_
    exact p
theorem q_l71_86 (I : Nat → Nat → Int32) (c s : Nat) : ∀ (m : Nat) (k : Int32) (A : Nat → Nat → Int32), 0 ≤ k.toInt → k.toInt + (m : Int) = (16 : Int32).toInt → ∃ A2, q_Ru q_TB0 1 305 (3, [(5, .int k), (0, .ref 71), (1, .int 0), (2, .ref 86), (3, .int 0), (4, .int 16)], [], (q_cM A I q_J0, c, s)) (.inl none, q_cM A2 I q_J0, c, s) := by
  intro m
  induction m with
  | zero =>
    intro k A h0 h1
    have hk := q_ltF h1
    refine ⟨A, ?_⟩
    refine q_Ru_seg (g2 := (7, [(5, .int k), (0, .ref 71), (1, .int 0), (2, .ref 86), (3, .int 0), (4, .int 16)], [.int 16, .int k], (q_cM A I q_J0, c, s))) 2 (fun _ _ => rfl) ?_
    refine q_Ru_rsT (g2 := (28, [(5, .int k), (0, .ref 71), (1, .int 0), (2, .ref 86), (3, .int 0), (4, .int 16)], [], (q_cM A I q_J0, c, s))) rfl rfl (q_d_geF hk) ?_
    exact q_Ru_ret rfl rfl
  | succ m ih =>
    intro k A h0 h1
    have hk := q_ltT h1
    have e0 : (16 : Int32).toInt = 16 := rfl
    have e1 := q_inc (k := k) (by omega) (by omega)
    have i1 := q_in_add0 (k := k) (n := 16) h0 (by omega)
    have i2 := q_in_add0 (k := k) (n := 48) h0 (by omega)
    obtain ⟨A2, p⟩ := ih (k + 1) (q_uA A 22 (upd (A 22) ((0 + k).toNatClampNeg) (vp_nar .boolean ((A 7) ((0 + k).toNatClampNeg))))) (by omega) (by omega)
    refine ⟨A2, ?_⟩
    refine q_Ru_seg (g2 := (7, [(5, .int k), (0, .ref 71), (1, .int 0), (2, .ref 86), (3, .int 0), (4, .int 16)], [.int 16, .int k], (q_cM A I q_J0, c, s))) 2 (fun _ _ => rfl) ?_
    refine q_Ru_rsF (g2 := (10, [(5, .int k), (0, .ref 71), (1, .int 0), (2, .ref 86), (3, .int 0), (4, .int 16)], [], (q_cM A I q_J0, c, s))) rfl rfl (q_d_geT hk) ?_
    refine q_Ru_seg (g2 := (20, [(5, .int k), (0, .ref 71), (1, .int 0), (2, .ref 86), (3, .int 0), (4, .int 16)], [.int (0 + k), .ref 71, .int (0 + k), .ref 86], (q_cM A I q_J0, c, s))) 8 (fun _ _ => rfl) ?_
    refine q_Ru_rsT (g2 := (21, [(5, .int k), (0, .ref 71), (1, .int 0), (2, .ref 86), (3, .int 0), (4, .int 16)], [.int ((A 7) ((0 + k).toNatClampNeg)), .int (0 + k), .ref 86], (q_cM A I q_J0, c, s))) rfl rfl i1 ?_
    refine q_Ru_rsT (g2 := (22, [(5, .int k), (0, .ref 71), (1, .int 0), (2, .ref 86), (3, .int 0), (4, .int 16)], [], (q_cM (q_uA A 22 (upd (A 22) ((0 + k).toNatClampNeg) (vp_nar .boolean ((A 7) ((0 + k).toNatClampNeg))))) I q_J0, c, s))) rfl rfl i2 ?_
    refine q_Ru_seg (g2 := (3, [(5, .int (k + 1)), (0, .ref 71), (1, .int 0), (2, .ref 86), (3, .int 0), (4, .int 16)], [], (q_cM (q_uA A 22 (upd (A 22) ((0 + k).toNatClampNeg) (vp_nar .boolean ((A 7) ((0 + k).toNatClampNeg))))) I q_J0, c, s))) 2 (fun _ _ => rfl) ?_
    exact p
theorem q_l79_94 (I : Nat → Nat → Int32) (c s : Nat) : ∀ (m : Nat) (k : Int32) (A : Nat → Nat → Int32), 0 ≤ k.toInt → k.toInt + (m : Int) = (8 : Int32).toInt → ∃ A2, q_Ru q_TB0 1 305 (3, [(5, .int k), (0, .ref 79), (1, .int 0), (2, .ref 94), (3, .int 0), (4, .int 8)], [], (q_cM A I q_J0, c, s)) (.inl none, q_cM A2 I q_J0, c, s) := by
  intro m
  induction m with
  | zero =>
    intro k A h0 h1
    have hk := q_ltF h1
    refine ⟨A, ?_⟩
    refine q_Ru_seg (g2 := (7, [(5, .int k), (0, .ref 79), (1, .int 0), (2, .ref 94), (3, .int 0), (4, .int 8)], [.int 8, .int k], (q_cM A I q_J0, c, s))) 2 (fun _ _ => rfl) ?_
    refine q_Ru_rsT (g2 := (28, [(5, .int k), (0, .ref 79), (1, .int 0), (2, .ref 94), (3, .int 0), (4, .int 8)], [], (q_cM A I q_J0, c, s))) rfl rfl (q_d_geF hk) ?_
    exact q_Ru_ret rfl rfl
  | succ m ih =>
    intro k A h0 h1
    have hk := q_ltT h1
    have e0 : (8 : Int32).toInt = 8 := rfl
    have e1 := q_inc (k := k) (by omega) (by omega)
    have i1 := q_in_add0 (k := k) (n := 8) h0 (by omega)
    have i2 := q_in_add0 (k := k) (n := 24) h0 (by omega)
    obtain ⟨A2, p⟩ := ih (k + 1) (q_uA A 30 (upd (A 30) ((0 + k).toNatClampNeg) (vp_nar .boolean ((A 15) ((0 + k).toNatClampNeg))))) (by omega) (by omega)
    refine ⟨A2, ?_⟩
    refine q_Ru_seg (g2 := (7, [(5, .int k), (0, .ref 79), (1, .int 0), (2, .ref 94), (3, .int 0), (4, .int 8)], [.int 8, .int k], (q_cM A I q_J0, c, s))) 2 (fun _ _ => rfl) ?_
    refine q_Ru_rsF (g2 := (10, [(5, .int k), (0, .ref 79), (1, .int 0), (2, .ref 94), (3, .int 0), (4, .int 8)], [], (q_cM A I q_J0, c, s))) rfl rfl (q_d_geT hk) ?_
    refine q_Ru_seg (g2 := (20, [(5, .int k), (0, .ref 79), (1, .int 0), (2, .ref 94), (3, .int 0), (4, .int 8)], [.int (0 + k), .ref 79, .int (0 + k), .ref 94], (q_cM A I q_J0, c, s))) 8 (fun _ _ => rfl) ?_
    refine q_Ru_rsT (g2 := (21, [(5, .int k), (0, .ref 79), (1, .int 0), (2, .ref 94), (3, .int 0), (4, .int 8)], [.int ((A 15) ((0 + k).toNatClampNeg)), .int (0 + k), .ref 94], (q_cM A I q_J0, c, s))) rfl rfl i1 ?_
    refine q_Ru_rsT (g2 := (22, [(5, .int k), (0, .ref 79), (1, .int 0), (2, .ref 94), (3, .int 0), (4, .int 8)], [], (q_cM (q_uA A 30 (upd (A 30) ((0 + k).toNatClampNeg) (vp_nar .boolean ((A 15) ((0 + k).toNatClampNeg))))) I q_J0, c, s))) rfl rfl i2 ?_
    refine q_Ru_seg (g2 := (3, [(5, .int (k + 1)), (0, .ref 79), (1, .int 0), (2, .ref 94), (3, .int 0), (4, .int 8)], [], (q_cM (q_uA A 30 (upd (A 30) ((0 + k).toNatClampNeg) (vp_nar .boolean ((A 15) ((0 + k).toNatClampNeg))))) I q_J0, c, s))) 2 (fun _ _ => rfl) ?_
    exact p
set_option maxHeartbeats 20000000 in
theorem q_saveM : q_opM 306 [] 0 (.int 0) := by
  obtain ⟨A8, p8⟩ := q_l65_80 (q_uI q_IM 0 39 0) (34) (31630) 4096 0 q_AM (by decide) (by decide)
  obtain ⟨A9, p9⟩ := q_l66_81 (q_uI q_IM 0 39 0) (34) (31630) 512 0 A8 (by decide) (by decide)
  obtain ⟨A10, p10⟩ := q_l67_82 (q_uI q_IM 0 39 0) (34) (31630) 2048 0 A9 (by decide) (by decide)
  obtain ⟨A11, p11⟩ := q_l68_83 (q_uI q_IM 0 39 0) (34) (31630) 48 0 A10 (by decide) (by decide)
  obtain ⟨A12, p12⟩ := q_l69_84 (q_uI q_IM 0 39 0) (34) (31630) 1024 0 A11 (by decide) (by decide)
  obtain ⟨A13, p13⟩ := q_l70_85 (q_uI q_IM 0 39 0) (34) (31630) 40 0 A12 (by decide) (by decide)
  obtain ⟨A14, p14⟩ := q_l72_87 (q_uI q_IM 0 39 0) (34) (31630) 40 0 A13 (by decide) (by decide)
  obtain ⟨A15, p15⟩ := q_l73_88 (q_uI q_IM 0 39 0) (34) (31630) 16 0 A14 (by decide) (by decide)
  obtain ⟨A16, p16⟩ := q_l74_89 (q_uI q_IM 0 39 0) (34) (31630) 3 0 A15 (by decide) (by decide)
  obtain ⟨A17, p17⟩ := q_l75_90 (q_uI q_IM 0 39 0) (34) (31630) 3 0 A16 (by decide) (by decide)
  obtain ⟨A18, p18⟩ := q_l76_91 (q_uI q_IM 0 39 0) (34) (31630) 3 0 A17 (by decide) (by decide)
  obtain ⟨A19, p19⟩ := q_l77_92 (q_uI q_IM 0 39 0) (34) (31630) 3 0 A18 (by decide) (by decide)
  obtain ⟨A20, p20⟩ := q_l78_93 (q_uI q_IM 0 39 0) (34) (31630) 24 0 A19 (by decide) (by decide)
  obtain ⟨A21, p21⟩ := q_l71_86 (q_uI q_IM 0 39 0) (34) (31630) 16 0 A20 (by decide) (by decide)
  obtain ⟨A22, p22⟩ := q_l79_94 (q_uI q_IM 0 39 0) (34) (31630) 8 0 A21 (by decide) (by decide)
  refine ⟨(q_cM A22 (q_uI (q_uI q_IM 0 39 0) 0 17 1) (q_uA (q_uA q_J0 31 (vp_updL (fun _ => 0) 0 0)) 31 (vp_updL (vp_updL (fun _ => 0) 0 0) 1 0)), 34, 31630), _, ?_, rfl, rfl, Nat.le_of_ble_eq_true rfl, Nat.le_of_ble_eq_true rfl⟩
  refine q_Ca_of (Nat.le_of_ble_eq_true rfl) ?_
  refine q_Ru_seg (g2 := (14, [(0, .ref 64)], [.int 0, .ref 64], (q_cM q_AM q_IM q_J0, 34, 31630))) 6 (fun _ _ => rfl) ?_
  refine q_Ru_call (v := (some (.int 0))) (h2 := (q_cM q_AM (q_uI q_IM 0 39 0) q_J0, 34, 31630)) rfl rfl ?_ ?_
  · refine q_Ca_of (Nat.le_of_ble_eq_true rfl) ?_
    refine q_Ru_seg (g2 := (14, [(0, .ref 64), (1, .int 0)], [.int 0], (q_cM q_AM (q_uI q_IM 0 39 0) q_J0, 34, 31630))) 6 (fun _ _ => rfl) ?_
    exact q_Ru_ret rfl rfl
  show q_Ru _ _ _ (17, [(0, .ref 64)], [.int 0], (q_cM q_AM (q_uI q_IM 0 39 0) q_J0, 34, 31630)) _
  refine q_Ru_seg (g2 := (44, [(1, .int 0), (0, .ref 64)], [.int 4096, .int 0, .ref 80, .int 0, .ref 65], (q_cM q_AM (q_uI q_IM 0 39 0) q_J0, 34, 31630))) 13 (fun _ _ => rfl) ?_
  refine q_Ru_call (v := none) (h2 := (q_cM A8 (q_uI q_IM 0 39 0) q_J0, 34, 31630)) rfl rfl ?_ ?_
  · exact q_Ca_of (Nat.le_of_ble_eq_true rfl) (q_Ru_seg (g2 := (3, [(5, .int 0), (0, .ref 65), (1, .int 0), (2, .ref 80), (3, .int 0), (4, .int 4096)], [], (q_cM q_AM (q_uI q_IM 0 39 0) q_J0, 34, 31630))) 2 (fun _ _ => rfl) (q_Ru_le (Nat.le_of_ble_eq_true rfl) p8))
  show q_Ru _ _ _ (47, [(1, .int 0), (0, .ref 64)], [], (q_cM A8 (q_uI q_IM 0 39 0) q_J0, 34, 31630)) _
  refine q_Ru_seg (g2 := (64, [(1, .int 0), (0, .ref 64)], [.int 512, .int 0, .ref 81, .int 0, .ref 66], (q_cM A8 (q_uI q_IM 0 39 0) q_J0, 34, 31630))) 9 (fun _ _ => rfl) ?_
  refine q_Ru_call (v := none) (h2 := (q_cM A9 (q_uI q_IM 0 39 0) q_J0, 34, 31630)) rfl rfl ?_ ?_
  · exact q_Ca_of (Nat.le_of_ble_eq_true rfl) (q_Ru_seg (g2 := (3, [(5, .int 0), (0, .ref 66), (1, .int 0), (2, .ref 81), (3, .int 0), (4, .int 512)], [], (q_cM A8 (q_uI q_IM 0 39 0) q_J0, 34, 31630))) 2 (fun _ _ => rfl) (q_Ru_le (Nat.le_of_ble_eq_true rfl) p9))
  show q_Ru _ _ _ (67, [(1, .int 0), (0, .ref 64)], [], (q_cM A9 (q_uI q_IM 0 39 0) q_J0, 34, 31630)) _
  refine q_Ru_seg (g2 := (84, [(1, .int 0), (0, .ref 64)], [.int 2048, .int 0, .ref 82, .int 0, .ref 67], (q_cM A9 (q_uI q_IM 0 39 0) q_J0, 34, 31630))) 9 (fun _ _ => rfl) ?_
  refine q_Ru_call (v := none) (h2 := (q_cM A10 (q_uI q_IM 0 39 0) q_J0, 34, 31630)) rfl rfl ?_ ?_
  · exact q_Ca_of (Nat.le_of_ble_eq_true rfl) (q_Ru_seg (g2 := (3, [(5, .int 0), (0, .ref 67), (1, .int 0), (2, .ref 82), (3, .int 0), (4, .int 2048)], [], (q_cM A9 (q_uI q_IM 0 39 0) q_J0, 34, 31630))) 2 (fun _ _ => rfl) (q_Ru_le (Nat.le_of_ble_eq_true rfl) p10))
  show q_Ru _ _ _ (87, [(1, .int 0), (0, .ref 64)], [], (q_cM A10 (q_uI q_IM 0 39 0) q_J0, 34, 31630)) _
  refine q_Ru_seg (g2 := (102, [(1, .int 0), (0, .ref 64)], [.int 48, .int 0, .ref 83, .int 0, .ref 68], (q_cM A10 (q_uI q_IM 0 39 0) q_J0, 34, 31630))) 9 (fun _ _ => rfl) ?_
  refine q_Ru_call (v := none) (h2 := (q_cM A11 (q_uI q_IM 0 39 0) q_J0, 34, 31630)) rfl rfl ?_ ?_
  · exact q_Ca_of (Nat.le_of_ble_eq_true rfl) (q_Ru_seg (g2 := (3, [(5, .int 0), (0, .ref 68), (1, .int 0), (2, .ref 83), (3, .int 0), (4, .int 48)], [], (q_cM A10 (q_uI q_IM 0 39 0) q_J0, 34, 31630))) 2 (fun _ _ => rfl) (q_Ru_le (Nat.le_of_ble_eq_true rfl) p11))
  show q_Ru _ _ _ (105, [(1, .int 0), (0, .ref 64)], [], (q_cM A11 (q_uI q_IM 0 39 0) q_J0, 34, 31630)) _
  refine q_Ru_seg (g2 := (122, [(1, .int 0), (0, .ref 64)], [.int 1024, .int 0, .ref 84, .int 0, .ref 69], (q_cM A11 (q_uI q_IM 0 39 0) q_J0, 34, 31630))) 9 (fun _ _ => rfl) ?_
  refine q_Ru_call (v := none) (h2 := (q_cM A12 (q_uI q_IM 0 39 0) q_J0, 34, 31630)) rfl rfl ?_ ?_
  · exact q_Ca_of (Nat.le_of_ble_eq_true rfl) (q_Ru_seg (g2 := (3, [(5, .int 0), (0, .ref 69), (1, .int 0), (2, .ref 84), (3, .int 0), (4, .int 1024)], [], (q_cM A11 (q_uI q_IM 0 39 0) q_J0, 34, 31630))) 2 (fun _ _ => rfl) (q_Ru_le (Nat.le_of_ble_eq_true rfl) p12))
  show q_Ru _ _ _ (125, [(1, .int 0), (0, .ref 64)], [], (q_cM A12 (q_uI q_IM 0 39 0) q_J0, 34, 31630)) _
  refine q_Ru_seg (g2 := (140, [(1, .int 0), (0, .ref 64)], [.int 40, .int 0, .ref 85, .int 0, .ref 70], (q_cM A12 (q_uI q_IM 0 39 0) q_J0, 34, 31630))) 9 (fun _ _ => rfl) ?_
  refine q_Ru_call (v := none) (h2 := (q_cM A13 (q_uI q_IM 0 39 0) q_J0, 34, 31630)) rfl rfl ?_ ?_
  · exact q_Ca_of (Nat.le_of_ble_eq_true rfl) (q_Ru_seg (g2 := (3, [(5, .int 0), (0, .ref 70), (1, .int 0), (2, .ref 85), (3, .int 0), (4, .int 40)], [], (q_cM A12 (q_uI q_IM 0 39 0) q_J0, 34, 31630))) 2 (fun _ _ => rfl) (q_Ru_le (Nat.le_of_ble_eq_true rfl) p13))
  show q_Ru _ _ _ (143, [(1, .int 0), (0, .ref 64)], [], (q_cM A13 (q_uI q_IM 0 39 0) q_J0, 34, 31630)) _
  refine q_Ru_seg (g2 := (158, [(1, .int 0), (0, .ref 64)], [.int 40, .int 0, .ref 87, .int 0, .ref 72], (q_cM A13 (q_uI q_IM 0 39 0) q_J0, 34, 31630))) 9 (fun _ _ => rfl) ?_
  refine q_Ru_call (v := none) (h2 := (q_cM A14 (q_uI q_IM 0 39 0) q_J0, 34, 31630)) rfl rfl ?_ ?_
  · exact q_Ca_of (Nat.le_of_ble_eq_true rfl) (q_Ru_seg (g2 := (3, [(5, .int 0), (0, .ref 72), (1, .int 0), (2, .ref 87), (3, .int 0), (4, .int 40)], [], (q_cM A13 (q_uI q_IM 0 39 0) q_J0, 34, 31630))) 2 (fun _ _ => rfl) (q_Ru_le (Nat.le_of_ble_eq_true rfl) p14))
  show q_Ru _ _ _ (161, [(1, .int 0), (0, .ref 64)], [], (q_cM A14 (q_uI q_IM 0 39 0) q_J0, 34, 31630)) _
  refine q_Ru_seg (g2 := (176, [(1, .int 0), (0, .ref 64)], [.int 16, .int 0, .ref 88, .int 0, .ref 73], (q_cM A14 (q_uI q_IM 0 39 0) q_J0, 34, 31630))) 9 (fun _ _ => rfl) ?_
  refine q_Ru_call (v := none) (h2 := (q_cM A15 (q_uI q_IM 0 39 0) q_J0, 34, 31630)) rfl rfl ?_ ?_
  · exact q_Ca_of (Nat.le_of_ble_eq_true rfl) (q_Ru_seg (g2 := (3, [(5, .int 0), (0, .ref 73), (1, .int 0), (2, .ref 88), (3, .int 0), (4, .int 16)], [], (q_cM A14 (q_uI q_IM 0 39 0) q_J0, 34, 31630))) 2 (fun _ _ => rfl) (q_Ru_le (Nat.le_of_ble_eq_true rfl) p15))
  show q_Ru _ _ _ (179, [(1, .int 0), (0, .ref 64)], [], (q_cM A15 (q_uI q_IM 0 39 0) q_J0, 34, 31630)) _
  refine q_Ru_seg (g2 := (192, [(1, .int 0), (0, .ref 64)], [.int 3, .int 0, .ref 89, .int 0, .ref 74], (q_cM A15 (q_uI q_IM 0 39 0) q_J0, 34, 31630))) 9 (fun _ _ => rfl) ?_
  refine q_Ru_call (v := none) (h2 := (q_cM A16 (q_uI q_IM 0 39 0) q_J0, 34, 31630)) rfl rfl ?_ ?_
  · exact q_Ca_of (Nat.le_of_ble_eq_true rfl) (q_Ru_seg (g2 := (3, [(5, .int 0), (0, .ref 74), (1, .int 0), (2, .ref 89), (3, .int 0), (4, .int 3)], [], (q_cM A15 (q_uI q_IM 0 39 0) q_J0, 34, 31630))) 2 (fun _ _ => rfl) (q_Ru_le (Nat.le_of_ble_eq_true rfl) p16))
  show q_Ru _ _ _ (195, [(1, .int 0), (0, .ref 64)], [], (q_cM A16 (q_uI q_IM 0 39 0) q_J0, 34, 31630)) _
  refine q_Ru_seg (g2 := (208, [(1, .int 0), (0, .ref 64)], [.int 3, .int 0, .ref 90, .int 0, .ref 75], (q_cM A16 (q_uI q_IM 0 39 0) q_J0, 34, 31630))) 9 (fun _ _ => rfl) ?_
  refine q_Ru_call (v := none) (h2 := (q_cM A17 (q_uI q_IM 0 39 0) q_J0, 34, 31630)) rfl rfl ?_ ?_
  · exact q_Ca_of (Nat.le_of_ble_eq_true rfl) (q_Ru_seg (g2 := (3, [(5, .int 0), (0, .ref 75), (1, .int 0), (2, .ref 90), (3, .int 0), (4, .int 3)], [], (q_cM A16 (q_uI q_IM 0 39 0) q_J0, 34, 31630))) 2 (fun _ _ => rfl) (q_Ru_le (Nat.le_of_ble_eq_true rfl) p17))
  show q_Ru _ _ _ (211, [(1, .int 0), (0, .ref 64)], [], (q_cM A17 (q_uI q_IM 0 39 0) q_J0, 34, 31630)) _
  refine q_Ru_seg (g2 := (224, [(1, .int 0), (0, .ref 64)], [.int 3, .int 0, .ref 91, .int 0, .ref 76], (q_cM A17 (q_uI q_IM 0 39 0) q_J0, 34, 31630))) 9 (fun _ _ => rfl) ?_
  refine q_Ru_call (v := none) (h2 := (q_cM A18 (q_uI q_IM 0 39 0) q_J0, 34, 31630)) rfl rfl ?_ ?_
  · exact q_Ca_of (Nat.le_of_ble_eq_true rfl) (q_Ru_seg (g2 := (3, [(5, .int 0), (0, .ref 76), (1, .int 0), (2, .ref 91), (3, .int 0), (4, .int 3)], [], (q_cM A17 (q_uI q_IM 0 39 0) q_J0, 34, 31630))) 2 (fun _ _ => rfl) (q_Ru_le (Nat.le_of_ble_eq_true rfl) p18))
  show q_Ru _ _ _ (227, [(1, .int 0), (0, .ref 64)], [], (q_cM A18 (q_uI q_IM 0 39 0) q_J0, 34, 31630)) _
  refine q_Ru_seg (g2 := (240, [(1, .int 0), (0, .ref 64)], [.int 3, .int 0, .ref 92, .int 0, .ref 77], (q_cM A18 (q_uI q_IM 0 39 0) q_J0, 34, 31630))) 9 (fun _ _ => rfl) ?_
  refine q_Ru_call (v := none) (h2 := (q_cM A19 (q_uI q_IM 0 39 0) q_J0, 34, 31630)) rfl rfl ?_ ?_
  · exact q_Ca_of (Nat.le_of_ble_eq_true rfl) (q_Ru_seg (g2 := (3, [(5, .int 0), (0, .ref 77), (1, .int 0), (2, .ref 92), (3, .int 0), (4, .int 3)], [], (q_cM A18 (q_uI q_IM 0 39 0) q_J0, 34, 31630))) 2 (fun _ _ => rfl) (q_Ru_le (Nat.le_of_ble_eq_true rfl) p19))
  show q_Ru _ _ _ (243, [(1, .int 0), (0, .ref 64)], [], (q_cM A19 (q_uI q_IM 0 39 0) q_J0, 34, 31630)) _
  refine q_Ru_seg (g2 := (258, [(1, .int 0), (0, .ref 64)], [.int 24, .int 0, .ref 93, .int 0, .ref 78], (q_cM A19 (q_uI q_IM 0 39 0) q_J0, 34, 31630))) 9 (fun _ _ => rfl) ?_
  refine q_Ru_call (v := none) (h2 := (q_cM A20 (q_uI q_IM 0 39 0) q_J0, 34, 31630)) rfl rfl ?_ ?_
  · exact q_Ca_of (Nat.le_of_ble_eq_true rfl) (q_Ru_seg (g2 := (3, [(5, .int 0), (0, .ref 78), (1, .int 0), (2, .ref 93), (3, .int 0), (4, .int 24)], [], (q_cM A19 (q_uI q_IM 0 39 0) q_J0, 34, 31630))) 2 (fun _ _ => rfl) (q_Ru_le (Nat.le_of_ble_eq_true rfl) p20))
  show q_Ru _ _ _ (261, [(1, .int 0), (0, .ref 64)], [], (q_cM A20 (q_uI q_IM 0 39 0) q_J0, 34, 31630)) _
  refine q_Ru_seg (g2 := (276, [(1, .int 0), (0, .ref 64)], [.int 16, .int 0, .ref 86, .int 0, .ref 71], (q_cM A20 (q_uI q_IM 0 39 0) q_J0, 34, 31630))) 9 (fun _ _ => rfl) ?_
  refine q_Ru_call (v := none) (h2 := (q_cM A21 (q_uI q_IM 0 39 0) q_J0, 34, 31630)) rfl rfl ?_ ?_
  · exact q_Ca_of (Nat.le_of_ble_eq_true rfl) (q_Ru_seg (g2 := (3, [(5, .int 0), (0, .ref 71), (1, .int 0), (2, .ref 86), (3, .int 0), (4, .int 16)], [], (q_cM A20 (q_uI q_IM 0 39 0) q_J0, 34, 31630))) 2 (fun _ _ => rfl) (q_Ru_le (Nat.le_of_ble_eq_true rfl) p21))
  show q_Ru _ _ _ (279, [(1, .int 0), (0, .ref 64)], [], (q_cM A21 (q_uI q_IM 0 39 0) q_J0, 34, 31630)) _
  refine q_Ru_seg (g2 := (294, [(1, .int 0), (0, .ref 64)], [.int 8, .int 0, .ref 94, .int 0, .ref 79], (q_cM A21 (q_uI q_IM 0 39 0) q_J0, 34, 31630))) 9 (fun _ _ => rfl) ?_
  refine q_Ru_call (v := none) (h2 := (q_cM A22 (q_uI q_IM 0 39 0) q_J0, 34, 31630)) rfl rfl ?_ ?_
  · exact q_Ca_of (Nat.le_of_ble_eq_true rfl) (q_Ru_seg (g2 := (3, [(5, .int 0), (0, .ref 79), (1, .int 0), (2, .ref 94), (3, .int 0), (4, .int 8)], [], (q_cM A21 (q_uI q_IM 0 39 0) q_J0, 34, 31630))) 2 (fun _ _ => rfl) (q_Ru_le (Nat.le_of_ble_eq_true rfl) p22))
  show q_Ru _ _ _ (297, [(1, .int 0), (0, .ref 64)], [], (q_cM A22 (q_uI q_IM 0 39 0) q_J0, 34, 31630)) _
  refine q_Ru_seg (g2 := (334, [(1, .int 0), (0, .ref 64)], [.int 0], (q_cM A22 (q_uI (q_uI q_IM 0 39 0) 0 17 1) (q_uA (q_uA q_J0 31 (vp_updL (fun _ => 0) 0 0)) 31 (vp_updL (vp_updL (fun _ => 0) 0 0) 1 0)), 34, 31630))) 25 (fun _ _ => rfl) ?_
  exact q_Ru_ret rfl rfl
theorem q_op_save : ∃ (r b : Int32) (w : Int64), q_opX 22 [] r w ∧ q_opM 306 [] r (.int b) ∧ (r = 0 → w = b.toInt64) := ⟨0, 0, 0, q_saveX, q_saveM, fun _ => rfl⟩
