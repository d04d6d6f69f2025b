section
-- 57.vb
set_option maxHeartbeats 4000000 in
theorem dzt_P83_64 (s : q_S) (c n : Nat) (x : q_S × Bool) (h : dz_N83_64 s = some x) : q_Ca q_TB0 5 82 [.ref 64] (q_kP s c n) ((q_oJP c n) x) := by
  refine q_CaP_of (φ := (q_oJP c n)) (Nat.le_of_ble_eq_true rfl) ?_ h
  clear h
  unfold dz_N83_64
  refine q_RP_seg (g2 := (4, [(0, .ref 64)], [.ref 65], (q_kP s c n))) 2 (fun _ _ => rfl) ?_
  refine q_RP_call (v := none) (h2 := (q_kP (dz_N101_65 s) c n)) rfl rfl ((dzt_P101_65 s c n).le (Nat.le_of_ble_eq_true rfl)) ?_
  generalize dz_N101_65 s = r3
  refine q_RP_let ?_
  show q_RP _ _ _ (7, [(0, .ref 64)], [], (q_kP r3 c n)) _ _
  refine q_RP_seg (g2 := (11, [(0, .ref 64)], [.ref 65], (q_kP r3 c n))) 2 (fun _ _ => rfl) ?_
  refine q_RP_bd fun r4 er4 => ?_
  refine q_RP_call (v := (some (.int (q_b r4)))) (h2 := (q_kP r3 c n)) rfl rfl ((dzt_P102_65 r3 c n r4 er4).le (Nat.le_of_ble_eq_true rfl)) ?_
  show q_RP _ _ _ (14, [(0, .ref 64)], [.int (q_b r4)], (q_kP r3 c n)) _ _
  cases h1 : r4 with
  | true =>
    refine q_RP_cT ?_
    show q_RP _ _ _ (14, [(0, .ref 64)], [.int 1], (q_kP r3 c n)) _ _
    refine q_RP_seg (g2 := (23, [(1, .int 1), (0, .ref 64)], [.ref 95, .ref 65], (q_kP r3 c n))) 5 (fun _ _ => rfl) ?_
    refine q_RP_bd fun r5 er5 => ?_
    refine q_RP_call (v := none) (h2 := (q_kP r5 c n)) rfl rfl ((dzt_P103_65_95 r3 c n r5 er5).le (Nat.le_of_ble_eq_true rfl)) ?_
    show q_RP _ _ _ (26, [(1, .int 1), (0, .ref 64)], [], (q_kP r5 c n)) _ _
    refine q_RP_seg (g2 := (30, [(1, .int 1), (0, .ref 64)], [.ref 65], (q_kP r5 c n))) 2 (fun _ _ => rfl) ?_
    refine q_RP_bd fun r6 er6 => ?_
    refine q_RP_call (v := none) (h2 := (q_kP r6 c n)) rfl rfl ((dzt_P104_65 r5 c n r6 er6).le (Nat.le_of_ble_eq_true rfl)) ?_
    show q_RP _ _ _ (33, [(1, .int 1), (0, .ref 64)], [], (q_kP r6 c n)) _ _
    refine q_RP_seg (g2 := (37, [(1, .int 1), (0, .ref 64)], [.ref 65], (q_kP r6 c n))) 2 (fun _ _ => rfl) ?_
    refine q_RP_call (v := none) (h2 := (q_kP (dz_N106_65 r6) c n)) rfl rfl ((dzt_P106_65 r6 c n).le (Nat.le_of_ble_eq_true rfl)) ?_
    generalize dz_N106_65 r6 = r7
    refine q_RP_let ?_
    show q_RP _ _ _ (40, [(1, .int 1), (0, .ref 64)], [], (q_kP r7 c n)) _ _
    refine q_RP_seg (g2 := (44, [(1, .int 1), (0, .ref 64)], [.ref 65], (q_kP r7 c n))) 2 (fun _ _ => rfl) ?_
    refine q_RP_call (v := (some (.int (dz_N87_65 r7)))) (h2 := (q_kP r7 c n)) rfl rfl ((dzt_P87_65 r7 c n).le (Nat.le_of_ble_eq_true rfl)) ?_
    generalize dz_N87_65 r7 = r8
    refine q_RP_let ?_
    show q_RP _ _ _ (47, [(1, .int 1), (0, .ref 64)], [.int r8], (q_kP r7 c n)) _ _
    refine q_RP_seg (g2 := (49, [(1, .int 1), (0, .ref 64)], [.int 23, .int r8], (q_kP r7 c n))) 1 (fun _ _ => rfl) ?_
    cases h2 : decide (r8 = 23) with
    | true =>
      refine q_RP_cT ?_
      refine q_RP_rsF (g2 := (52, [(1, .int 1), (0, .ref 64)], [], (q_kP r7 c n))) rfl rfl (q_d_neT h2) ?_
      refine q_RP_seg (g2 := (70, [(1, .int 1), (0, .ref 64)], [.ref 65, .ref 68, .ref 89], (q_kP r7 c n))) 8 (fun _ _ => rfl) ?_
      refine q_RP_call (v := (some (.int (dz_N86_65 r7)))) (h2 := (q_kP r7 c n)) rfl rfl ((dzt_P86_65 r7 c n).le (Nat.le_of_ble_eq_true rfl)) ?_
      generalize dz_N86_65 r7 = r9
      refine q_RP_let ?_
      show q_RP _ _ _ (73, [(1, .int 1), (0, .ref 64)], [.int r9, .ref 68, .ref 89], (q_kP r7 c n)) _ _
      refine q_RP_seg (g2 := (76, [(1, .int 1), (0, .ref 64)], [.int (r9 / 24), .ref 68, .ref 89], (q_kP r7 c n))) 2 (fun _ _ => rfl) ?_
      refine q_RP_bd fun r10 er10 => ?_
      refine q_RP_call (v := none) (h2 := (q_kP r10 c n)) rfl rfl ((dzt_P168_89_68 r7 c n (r9 / 24) r10 er10).le (Nat.le_of_ble_eq_true rfl)) ?_
      show q_RP _ _ _ (79, [(1, .int 1), (0, .ref 64)], [], (q_kP r10 c n)) _ _
      refine q_RP_seg (g2 := (80, [(1, .int 1), (0, .ref 64)], [.int 1], (q_kP r10 c n))) 1 (fun _ _ => rfl) ?_
      exact q_RP_ret rfl rfl rfl
    | false =>
      refine q_RP_cF ?_
      refine q_RP_rsT (g2 := (79, [(1, .int 1), (0, .ref 64)], [], (q_kP r7 c n))) rfl rfl (q_d_neF h2) ?_
      refine q_RP_seg (g2 := (80, [(1, .int 1), (0, .ref 64)], [.int 1], (q_kP r7 c n))) 1 (fun _ _ => rfl) ?_
      exact q_RP_ret rfl rfl rfl
  | false =>
    refine q_RP_cF ?_
    show q_RP _ _ _ (14, [(0, .ref 64)], [.int 0], (q_kP r3 c n)) _ _
    refine q_RP_seg (g2 := (23, [(1, .int 0), (0, .ref 64)], [.ref 95, .ref 65], (q_kP r3 c n))) 5 (fun _ _ => rfl) ?_
    refine q_RP_bd fun r11 er11 => ?_
    refine q_RP_call (v := none) (h2 := (q_kP r11 c n)) rfl rfl ((dzt_P103_65_95 r3 c n r11 er11).le (Nat.le_of_ble_eq_true rfl)) ?_
    show q_RP _ _ _ (26, [(1, .int 0), (0, .ref 64)], [], (q_kP r11 c n)) _ _
    refine q_RP_seg (g2 := (30, [(1, .int 0), (0, .ref 64)], [.ref 65], (q_kP r11 c n))) 2 (fun _ _ => rfl) ?_
    refine q_RP_bd fun r12 er12 => ?_
    refine q_RP_call (v := none) (h2 := (q_kP r12 c n)) rfl rfl ((dzt_P104_65 r11 c n r12 er12).le (Nat.le_of_ble_eq_true rfl)) ?_
    show q_RP _ _ _ (33, [(1, .int 0), (0, .ref 64)], [], (q_kP r12 c n)) _ _
    refine q_RP_seg (g2 := (37, [(1, .int 0), (0, .ref 64)], [.ref 65], (q_kP r12 c n))) 2 (fun _ _ => rfl) ?_
    refine q_RP_call (v := none) (h2 := (q_kP (dz_N106_65 r12) c n)) rfl rfl ((dzt_P106_65 r12 c n).le (Nat.le_of_ble_eq_true rfl)) ?_
    generalize dz_N106_65 r12 = r13
    refine q_RP_let ?_
    show q_RP _ _ _ (40, [(1, .int 0), (0, .ref 64)], [], (q_kP r13 c n)) _ _
    refine q_RP_seg (g2 := (44, [(1, .int 0), (0, .ref 64)], [.ref 65], (q_kP r13 c n))) 2 (fun _ _ => rfl) ?_
    refine q_RP_call (v := (some (.int (dz_N87_65 r13)))) (h2 := (q_kP r13 c n)) rfl rfl ((dzt_P87_65 r13 c n).le (Nat.le_of_ble_eq_true rfl)) ?_
    generalize dz_N87_65 r13 = r14
    refine q_RP_let ?_
    show q_RP _ _ _ (47, [(1, .int 0), (0, .ref 64)], [.int r14], (q_kP r13 c n)) _ _
    refine q_RP_seg (g2 := (49, [(1, .int 0), (0, .ref 64)], [.int 23, .int r14], (q_kP r13 c n))) 1 (fun _ _ => rfl) ?_
    cases h3 : decide (r14 = 23) with
    | true =>
      refine q_RP_cT ?_
      refine q_RP_rsF (g2 := (52, [(1, .int 0), (0, .ref 64)], [], (q_kP r13 c n))) rfl rfl (q_d_neT h3) ?_
      refine q_RP_seg (g2 := (70, [(1, .int 0), (0, .ref 64)], [.ref 65, .ref 68, .ref 89], (q_kP r13 c n))) 8 (fun _ _ => rfl) ?_
      refine q_RP_call (v := (some (.int (dz_N86_65 r13)))) (h2 := (q_kP r13 c n)) rfl rfl ((dzt_P86_65 r13 c n).le (Nat.le_of_ble_eq_true rfl)) ?_
      generalize dz_N86_65 r13 = r15
      refine q_RP_let ?_
      show q_RP _ _ _ (73, [(1, .int 0), (0, .ref 64)], [.int r15, .ref 68, .ref 89], (q_kP r13 c n)) _ _
      refine q_RP_seg (g2 := (76, [(1, .int 0), (0, .ref 64)], [.int (r15 / 24), .ref 68, .ref 89], (q_kP r13 c n))) 2 (fun _ _ => rfl) ?_
      refine q_RP_bd fun r16 er16 => ?_
      refine q_RP_call (v := none) (h2 := (q_kP r16 c n)) rfl rfl ((dzt_P168_89_68 r13 c n (r15 / 24) r16 er16).le (Nat.le_of_ble_eq_true rfl)) ?_
      show q_RP _ _ _ (79, [(1, .int 0), (0, .ref 64)], [], (q_kP r16 c n)) _ _
      refine q_RP_seg (g2 := (80, [(1, .int 0), (0, .ref 64)], [.int 0], (q_kP r16 c n))) 1 (fun _ _ => rfl) ?_
      exact q_RP_ret rfl rfl rfl
    | false =>
      refine q_RP_cF ?_
      refine q_RP_rsT (g2 := (79, [(1, .int 0), (0, .ref 64)], [], (q_kP r13 c n))) rfl rfl (q_d_neF h3) ?_
      refine q_RP_seg (g2 := (80, [(1, .int 0), (0, .ref 64)], [.int 0], (q_kP r13 c n))) 1 (fun _ _ => rfl) ?_
      exact q_RP_ret rfl rfl rfl
set_option maxHeartbeats 4000000 in
theorem dzt_P110_78_66 (s : q_S) (c n : Nat) : q_Ca q_TB0 1 109 [.ref 78, .ref 66] (q_kP s c n) ((q_oSP c n) (dz_N110_78_66 s)) := by
  refine q_CaT_of (φ := (q_oSP c n)) (Nat.le_of_ble_eq_true rfl) ?_
  unfold dz_N110_78_66
  refine q_RT_seg (g2 := (13, [(0, .ref 78), (1, .ref 66)], [.int 4096, .int 0, .ref 79, .int 0, .ref 67], (q_kP s c n))) 7 (fun _ _ => rfl) ?_
  refine q_RT_rsT (g2 := (16, [(0, .ref 78), (1, .ref 66)], [], (q_kP (q_sA s 15 (va_cpy (s.1 3) (s.1 15) 0 0 4096)) c n))) rfl rfl (q_acb rfl) ?_
  refine q_RT_seg (g2 := (28, [(0, .ref 78), (1, .ref 66)], [.int 48, .int 0, .ref 80, .int 0, .ref 68], (q_kP (q_sA s 15 (va_cpy (s.1 3) (s.1 15) 0 0 4096)) c n))) 7 (fun _ _ => rfl) ?_
  refine q_RT_rsT (g2 := (31, [(0, .ref 78), (1, .ref 66)], [], (q_kP (q_sA (q_sA s 15 (va_cpy (s.1 3) (s.1 15) 0 0 4096)) 16 (va_cpy (s.1 4) (s.1 16) 0 0 48)) c n))) rfl rfl (q_acb rfl) ?_
  exact q_RT_ret rfl rfl rfl
set_option maxHeartbeats 4000000 in
theorem dzt_P127_77_66 (s : q_S) (c n : Nat) : q_Ca q_TB0 2 126 [.ref 77, .ref 66] (q_kP s c n) ((q_oSP c n) (dz_N127_77_66 s)) := by
  refine q_CaT_of (φ := (q_oSP c n)) (Nat.le_of_ble_eq_true rfl) ?_
  unfold dz_N127_77_66
  refine q_RT_seg (g2 := (5, [(0, .ref 77), (1, .ref 66)], [.ref 66, .ref 78], (q_kP s c n))) 3 (fun _ _ => rfl) ?_
  refine q_RT_call (v := none) (h2 := (q_kP (dz_N110_78_66 s) c n)) rfl rfl ((dzt_P110_78_66 s c n).le (Nat.le_of_ble_eq_true rfl)) ?_
  generalize dz_N110_78_66 s = r1
  refine q_RT_let ?_
  show q_RT _ _ _ (8, [(0, .ref 77), (1, .ref 66)], [], (q_kP r1 c n)) _ _
  refine q_RT_seg (g2 := (18, [(0, .ref 77), (1, .ref 66)], [], (q_kP (q_sI (q_sI r1 13 2 0) 13 3 0) c n))) 6 (fun _ _ => rfl) ?_
  exact q_RT_ret rfl rfl rfl
set_option maxHeartbeats 4000000 in
theorem dzt_P110_83_66 (s : q_S) (c n : Nat) : q_Ca q_TB0 1 109 [.ref 83, .ref 66] (q_kP s c n) ((q_oSP c n) (dz_N110_83_66 s)) := by
  refine q_CaT_of (φ := (q_oSP c n)) (Nat.le_of_ble_eq_true rfl) ?_
  unfold dz_N110_83_66
  refine q_RT_seg (g2 := (13, [(0, .ref 83), (1, .ref 66)], [.int 4096, .int 0, .ref 84, .int 0, .ref 67], (q_kP s c n))) 7 (fun _ _ => rfl) ?_
  refine q_RT_rsT (g2 := (16, [(0, .ref 83), (1, .ref 66)], [], (q_kP (q_sA s 20 (va_cpy (s.1 3) (s.1 20) 0 0 4096)) c n))) rfl rfl (q_acb rfl) ?_
  refine q_RT_seg (g2 := (28, [(0, .ref 83), (1, .ref 66)], [.int 48, .int 0, .ref 85, .int 0, .ref 68], (q_kP (q_sA s 20 (va_cpy (s.1 3) (s.1 20) 0 0 4096)) c n))) 7 (fun _ _ => rfl) ?_
  refine q_RT_rsT (g2 := (31, [(0, .ref 83), (1, .ref 66)], [], (q_kP (q_sA (q_sA s 20 (va_cpy (s.1 3) (s.1 20) 0 0 4096)) 21 (va_cpy (s.1 4) (s.1 21) 0 0 48)) c n))) rfl rfl (q_acb rfl) ?_
  exact q_RT_ret rfl rfl rfl
set_option maxHeartbeats 4000000 in
theorem dzt_P127_82_66 (s : q_S) (c n : Nat) : q_Ca q_TB0 2 126 [.ref 82, .ref 66] (q_kP s c n) ((q_oSP c n) (dz_N127_82_66 s)) := by
  refine q_CaT_of (φ := (q_oSP c n)) (Nat.le_of_ble_eq_true rfl) ?_
  unfold dz_N127_82_66
  refine q_RT_seg (g2 := (5, [(0, .ref 82), (1, .ref 66)], [.ref 66, .ref 83], (q_kP s c n))) 3 (fun _ _ => rfl) ?_
  refine q_RT_call (v := none) (h2 := (q_kP (dz_N110_83_66 s) c n)) rfl rfl ((dzt_P110_83_66 s c n).le (Nat.le_of_ble_eq_true rfl)) ?_
  generalize dz_N110_83_66 s = r1
  refine q_RT_let ?_
  show q_RT _ _ _ (8, [(0, .ref 82), (1, .ref 66)], [], (q_kP r1 c n)) _ _
  refine q_RT_seg (g2 := (18, [(0, .ref 82), (1, .ref 66)], [], (q_kP (q_sI (q_sI r1 18 2 0) 18 3 0) c n))) 6 (fun _ _ => rfl) ?_
  exact q_RT_ret rfl rfl rfl
set_option maxHeartbeats 4000000 in
theorem dzt_P107_65 (s : q_S) (c n : Nat) : q_Ca q_TB0 3 106 [.ref 65] (q_kP s c n) ((q_oSP c n) (dz_N107_65 s)) := by
  refine q_CaT_of (φ := (q_oSP c n)) (Nat.le_of_ble_eq_true rfl) ?_
  unfold dz_N107_65
  refine q_RT_seg (g2 := (5, [(0, .ref 65)], [.long (s.2.2 1 8), .ref 65], (q_kP s c n))) 3 (fun _ _ => rfl) ?_
  refine q_RT_seg (g2 := (14, [(0, .ref 65)], [.long ((s.2.2 1 8) + 1)], (q_kP (q_sJ s 1 8 ((s.2.2 1 8) + 1)) c n))) 5 (fun _ _ => rfl) ?_
  refine q_RT_seg (g2 := (20, [(0, .ref 65)], [.int (lg_cmp (((s.2.2 1 8) + 1) - ((s.2.2 1 8) + 1) / 960 * 960) 0)], (q_kP (q_sJ s 1 8 ((s.2.2 1 8) + 1)) c n))) 4 (fun _ _ => rfl) ?_
  cases h1 : decide (lg_cmp (((s.2.2 1 8) + 1) - ((s.2.2 1 8) + 1) / 960 * 960) 0 = 0) with
  | true =>
    refine q_RT_cT ?_
    refine q_RT_rsF (g2 := (23, [(0, .ref 65)], [], (q_kP (q_sJ s 1 8 ((s.2.2 1 8) + 1)) c n))) rfl rfl (q_d_neT h1) ?_
    refine q_RT_seg (g2 := (24, [(0, .ref 65)], [.ref 65], (q_kP (q_sJ s 1 8 ((s.2.2 1 8) + 1)) c n))) 1 (fun _ _ => rfl) ?_
    cases h2 : decide (lg_cmp ((((s.2.2 1 8) + 1) / 960) - (((s.2.2 1 8) + 1) / 960) / 2 * 2) 0 = 0) with
    | true =>
      refine q_RT_cT ?_
      refine q_RT_call (v := (some (.ref 77))) (h2 := (q_kP (q_sJ s 1 8 ((s.2.2 1 8) + 1)) c n)) rfl rfl ?_ ?_
      · refine q_Ca_of (Nat.le_of_ble_eq_true rfl) ?_
        refine q_Ru_seg (g2 := (14, [(0, .ref 65)], [.int (lg_cmp ((((s.2.2 1 8) + 1) / 960) - (((s.2.2 1 8) + 1) / 960) / 2 * 2) 0)], (q_kP (q_sJ s 1 8 ((s.2.2 1 8) + 1)) c n))) 8 (fun _ _ => rfl) ?_
        refine q_Ru_rsF (g2 := (17, [(0, .ref 65)], [], (q_kP (q_sJ s 1 8 ((s.2.2 1 8) + 1)) c n))) rfl rfl (q_d_neT h2) ?_
        refine q_Ru_seg (g2 := (28, [(0, .ref 65)], [.ref 77], (q_kP (q_sJ s 1 8 ((s.2.2 1 8) + 1)) c n))) 3 (fun _ _ => rfl) ?_
        exact q_Ru_ret rfl rfl
      show q_RT _ _ _ (27, [(0, .ref 65)], [.ref 77], (q_kP (q_sJ s 1 8 ((s.2.2 1 8) + 1)) c n)) _ _
      refine q_RT_seg (g2 := (31, [(0, .ref 65)], [.ref 66, .ref 77], (q_kP (q_sJ s 1 8 ((s.2.2 1 8) + 1)) c n))) 2 (fun _ _ => rfl) ?_
      refine q_RT_call (v := none) (h2 := (q_kP (dz_N127_77_66 (q_sJ s 1 8 ((s.2.2 1 8) + 1))) c n)) rfl rfl ((dzt_P127_77_66 (q_sJ s 1 8 ((s.2.2 1 8) + 1)) c n).le (Nat.le_of_ble_eq_true rfl)) ?_
      generalize dz_N127_77_66 (q_sJ s 1 8 ((s.2.2 1 8) + 1)) = r1
      refine q_RT_let ?_
      show q_RT _ _ _ (34, [(0, .ref 65)], [], (q_kP r1 c n)) _ _
      exact q_RT_ret rfl rfl rfl
    | false =>
      refine q_RT_cF ?_
      refine q_RT_call (v := (some (.ref 82))) (h2 := (q_kP (q_sJ s 1 8 ((s.2.2 1 8) + 1)) c n)) rfl rfl ?_ ?_
      · refine q_Ca_of (Nat.le_of_ble_eq_true rfl) ?_
        refine q_Ru_seg (g2 := (14, [(0, .ref 65)], [.int (lg_cmp ((((s.2.2 1 8) + 1) / 960) - (((s.2.2 1 8) + 1) / 960) / 2 * 2) 0)], (q_kP (q_sJ s 1 8 ((s.2.2 1 8) + 1)) c n))) 8 (fun _ _ => rfl) ?_
        refine q_Ru_rsT (g2 := (24, [(0, .ref 65)], [], (q_kP (q_sJ s 1 8 ((s.2.2 1 8) + 1)) c n))) rfl rfl (q_d_neF h2) ?_
        refine q_Ru_seg (g2 := (28, [(0, .ref 65)], [.ref 82], (q_kP (q_sJ s 1 8 ((s.2.2 1 8) + 1)) c n))) 2 (fun _ _ => rfl) ?_
        exact q_Ru_ret rfl rfl
      show q_RT _ _ _ (27, [(0, .ref 65)], [.ref 82], (q_kP (q_sJ s 1 8 ((s.2.2 1 8) + 1)) c n)) _ _
      refine q_RT_seg (g2 := (31, [(0, .ref 65)], [.ref 66, .ref 82], (q_kP (q_sJ s 1 8 ((s.2.2 1 8) + 1)) c n))) 2 (fun _ _ => rfl) ?_
      refine q_RT_call (v := none) (h2 := (q_kP (dz_N127_82_66 (q_sJ s 1 8 ((s.2.2 1 8) + 1))) c n)) rfl rfl ((dzt_P127_82_66 (q_sJ s 1 8 ((s.2.2 1 8) + 1)) c n).le (Nat.le_of_ble_eq_true rfl)) ?_
      generalize dz_N127_82_66 (q_sJ s 1 8 ((s.2.2 1 8) + 1)) = r2
      refine q_RT_let ?_
      show q_RT _ _ _ (34, [(0, .ref 65)], [], (q_kP r2 c n)) _ _
      exact q_RT_ret rfl rfl rfl
  | false =>
    refine q_RT_cF ?_
    refine q_RT_rsT (g2 := (34, [(0, .ref 65)], [], (q_kP (q_sJ s 1 8 ((s.2.2 1 8) + 1)) c n))) rfl rfl (q_d_neF h1) ?_
    exact q_RT_ret rfl rfl rfl
set_option maxHeartbeats 4000000 in
theorem dzt_P187 (s : q_S) (c n : Nat) (a0 : Int32) : q_Ca q_TB0 1 186 [.int a0] (q_kP s c n) ((q_oB (q_kP s c n)) (dz_N187 s a0)) := by
  refine q_CaT_of (φ := (q_oB (q_kP s c n))) (Nat.le_of_ble_eq_true rfl) ?_
  unfold dz_N187
  refine q_RT_seg (g2 := (4, [(0, .int a0)], [.int 160, .int a0], (q_kP s c n))) 2 (fun _ _ => rfl) ?_
  cases h1 : decide (a0 < 160) with
  | true =>
    refine q_RT_cT ?_
    refine q_RT_rsT (g2 := (18, [(0, .int a0)], [], (q_kP s c n))) rfl rfl h1 ?_
    refine q_RT_seg (g2 := (19, [(0, .int a0)], [.int 0], (q_kP s c n))) 1 (fun _ _ => rfl) ?_
    exact q_RT_ret rfl rfl rfl
  | false =>
    refine q_RT_cF ?_
    refine q_RT_rsF (g2 := (7, [(0, .int a0)], [], (q_kP s c n))) rfl rfl h1 ?_
    refine q_RT_seg (g2 := (11, [(0, .int a0)], [.int 167, .int a0], (q_kP s c n))) 2 (fun _ _ => rfl) ?_
    cases h2 : decide (167 < a0) with
    | true =>
      refine q_RT_cT ?_
      refine q_RT_rsT (g2 := (18, [(0, .int a0)], [], (q_kP s c n))) rfl rfl h2 ?_
      refine q_RT_seg (g2 := (19, [(0, .int a0)], [.int 0], (q_kP s c n))) 1 (fun _ _ => rfl) ?_
      exact q_RT_ret rfl rfl rfl
    | false =>
      refine q_RT_cF ?_
      refine q_RT_rsF (g2 := (14, [(0, .int a0)], [], (q_kP s c n))) rfl rfl h2 ?_
      refine q_RT_seg (g2 := (19, [(0, .int a0)], [.int 1], (q_kP s c n))) 2 (fun _ _ => rfl) ?_
      exact q_RT_ret rfl rfl rfl
set_option maxHeartbeats 4000000 in
theorem dzt_P140_87 (s : q_S) (c n : Nat) (a1 : Int32) : q_Ca q_TB0 1 139 [.ref 87, .int a1] (q_kP s c n) ((q_oP (q_kP s c n)) (dz_N140_87 s a1)) := by
  refine q_CaT_of (φ := (q_oP (q_kP s c n))) (Nat.le_of_ble_eq_true rfl) ?_
  unfold dz_N140_87
  refine q_RT_seg (g2 := (4, [(0, .ref 87), (1, .int a1)], [.int (s.2.1 23 4)], (q_kP s c n))) 2 (fun _ _ => rfl) ?_
  refine q_RT_seg (g2 := (10, [(0, .ref 87), (1, .int a1)], [.int (((s.2.1 23 4) + a1) &&& 4095)], (q_kP s c n))) 4 (fun _ _ => rfl) ?_
  exact q_RT_ret rfl rfl rfl
set_option maxHeartbeats 4000000 in
theorem dzt_P161_87 (s : q_S) (c n : Nat) (a1 : Int32) : q_Ca q_TB0 1 160 [.ref 87, .int a1] (q_kP s c n) ((q_oB (q_kP s c n)) (dz_N161_87 s a1)) := by
  refine q_CaT_of (φ := (q_oB (q_kP s c n))) (Nat.le_of_ble_eq_true rfl) ?_
  unfold dz_N161_87
  refine q_RT_seg (g2 := (1, [(0, .ref 87), (1, .int a1)], [.int a1], (q_kP s c n))) 1 (fun _ _ => rfl) ?_
  cases h1 : decide (a1 < 160) with
  | true =>
    refine q_RT_cT ?_
    refine q_RT_st1 (g2 := (154, [(0, .ref 87), (1, .int a1)], [], (q_kP s c n))) rfl (if_pos (Or.inl (Int32.lt_iff_toInt_lt.mp (of_decide_eq_true h1)))) ?_
    refine q_RT_seg (g2 := (158, [(0, .ref 87), (1, .int a1)], [.int (s.2.1 23 5)], (q_kP s c n))) 2 (fun _ _ => rfl) ?_
    refine q_RT_seg (g2 := (161, [(0, .ref 87), (1, .int a1)], [.int ((s.2.1 23 5) &&& 64)], (q_kP s c n))) 2 (fun _ _ => rfl) ?_
    cases h2 : decide ((s.2.1 23 5) &&& 64 = 0) with
    | true =>
      refine q_RT_cT ?_
      refine q_RT_rsT (g2 := (168, [(0, .ref 87), (1, .int a1)], [], (q_kP s c n))) rfl rfl h2 ?_
      refine q_RT_seg (g2 := (169, [(0, .ref 87), (1, .int a1)], [.int 0], (q_kP s c n))) 1 (fun _ _ => rfl) ?_
      exact q_RT_ret rfl rfl rfl
    | false =>
      refine q_RT_cF ?_
      refine q_RT_rsF (g2 := (164, [(0, .ref 87), (1, .int a1)], [], (q_kP s c n))) rfl rfl h2 ?_
      refine q_RT_seg (g2 := (169, [(0, .ref 87), (1, .int a1)], [.int 1], (q_kP s c n))) 2 (fun _ _ => rfl) ?_
      exact q_RT_ret rfl rfl rfl
  | false =>
    refine q_RT_cF ?_
    cases h3 : decide (166 < a1) with
    | true =>
      refine q_RT_cT ?_
      refine q_RT_st1 (g2 := (154, [(0, .ref 87), (1, .int a1)], [], (q_kP s c n))) rfl (if_pos (Or.inr (Int32.lt_iff_toInt_lt.mp (of_decide_eq_true h3)))) ?_
      refine q_RT_seg (g2 := (158, [(0, .ref 87), (1, .int a1)], [.int (s.2.1 23 5)], (q_kP s c n))) 2 (fun _ _ => rfl) ?_
      refine q_RT_seg (g2 := (161, [(0, .ref 87), (1, .int a1)], [.int ((s.2.1 23 5) &&& 64)], (q_kP s c n))) 2 (fun _ _ => rfl) ?_
      cases h4 : decide ((s.2.1 23 5) &&& 64 = 0) with
      | true =>
        refine q_RT_cT ?_
        refine q_RT_rsT (g2 := (168, [(0, .ref 87), (1, .int a1)], [], (q_kP s c n))) rfl rfl h4 ?_
        refine q_RT_seg (g2 := (169, [(0, .ref 87), (1, .int a1)], [.int 0], (q_kP s c n))) 1 (fun _ _ => rfl) ?_
        exact q_RT_ret rfl rfl rfl
      | false =>
        refine q_RT_cF ?_
        refine q_RT_rsF (g2 := (164, [(0, .ref 87), (1, .int a1)], [], (q_kP s c n))) rfl rfl h4 ?_
        refine q_RT_seg (g2 := (169, [(0, .ref 87), (1, .int a1)], [.int 1], (q_kP s c n))) 2 (fun _ _ => rfl) ?_
        exact q_RT_ret rfl rfl rfl
    | false =>
      refine q_RT_cF ?_
      cases h5 : decide (a1 = 160) with
      | true =>
        refine q_RT_cT ?_
        refine q_RT_st1 (g2 := (44, [(0, .ref 87), (1, .int a1)], [], (q_kP s c n))) rfl (by rw [of_decide_eq_true h5]; rfl) ?_
        refine q_RT_seg (g2 := (48, [(0, .ref 87), (1, .int a1)], [.int (s.2.1 23 5)], (q_kP s c n))) 2 (fun _ _ => rfl) ?_
        refine q_RT_seg (g2 := (50, [(0, .ref 87), (1, .int a1)], [.int ((s.2.1 23 5) &&& 2)], (q_kP s c n))) 2 (fun _ _ => rfl) ?_
        cases h6 : decide ((s.2.1 23 5) &&& 2 = 0) with
        | true =>
          refine q_RT_cT ?_
          refine q_RT_rsF (g2 := (53, [(0, .ref 87), (1, .int a1)], [], (q_kP s c n))) rfl rfl (q_d_neT h6) ?_
          refine q_RT_seg (g2 := (58, [(0, .ref 87), (1, .int a1)], [.int 1], (q_kP s c n))) 2 (fun _ _ => rfl) ?_
          exact q_RT_ret rfl rfl rfl
        | false =>
          refine q_RT_cF ?_
          refine q_RT_rsT (g2 := (57, [(0, .ref 87), (1, .int a1)], [], (q_kP s c n))) rfl rfl (q_d_neF h6) ?_
          refine q_RT_seg (g2 := (58, [(0, .ref 87), (1, .int a1)], [.int 0], (q_kP s c n))) 1 (fun _ _ => rfl) ?_
          exact q_RT_ret rfl rfl rfl
      | false =>
        refine q_RT_cF ?_
        cases h7 : decide (a1 = 161) with
        | true =>
          refine q_RT_cT ?_
          refine q_RT_st1 (g2 := (59, [(0, .ref 87), (1, .int a1)], [], (q_kP s c n))) rfl (by rw [of_decide_eq_true h7]; rfl) ?_
          refine q_RT_seg (g2 := (63, [(0, .ref 87), (1, .int a1)], [.int (s.2.1 23 5)], (q_kP s c n))) 2 (fun _ _ => rfl) ?_
          refine q_RT_seg (g2 := (65, [(0, .ref 87), (1, .int a1)], [.int ((s.2.1 23 5) &&& 2)], (q_kP s c n))) 2 (fun _ _ => rfl) ?_
          cases h8 : decide ((s.2.1 23 5) &&& 2 = 0) with
          | true =>
            refine q_RT_cT ?_
            refine q_RT_rsT (g2 := (72, [(0, .ref 87), (1, .int a1)], [], (q_kP s c n))) rfl rfl h8 ?_
            refine q_RT_seg (g2 := (73, [(0, .ref 87), (1, .int a1)], [.int 0], (q_kP s c n))) 1 (fun _ _ => rfl) ?_
            exact q_RT_ret rfl rfl rfl
          | false =>
            refine q_RT_cF ?_
            refine q_RT_rsF (g2 := (68, [(0, .ref 87), (1, .int a1)], [], (q_kP s c n))) rfl rfl h8 ?_
            refine q_RT_seg (g2 := (73, [(0, .ref 87), (1, .int a1)], [.int 1], (q_kP s c n))) 2 (fun _ _ => rfl) ?_
            exact q_RT_ret rfl rfl rfl
        | false =>
          refine q_RT_cF ?_
          cases h9 : decide (a1 = 162) with
          | true =>
            refine q_RT_cT ?_
            refine q_RT_st1 (g2 := (74, [(0, .ref 87), (1, .int a1)], [], (q_kP s c n))) rfl (by rw [of_decide_eq_true h9]; rfl) ?_
            refine q_RT_seg (g2 := (78, [(0, .ref 87), (1, .int a1)], [.int (s.2.1 23 5)], (q_kP s c n))) 2 (fun _ _ => rfl) ?_
            refine q_RT_seg (g2 := (80, [(0, .ref 87), (1, .int a1)], [.int ((s.2.1 23 5) &&& 1)], (q_kP s c n))) 2 (fun _ _ => rfl) ?_
            cases h10 : decide ((s.2.1 23 5) &&& 1 = 0) with
            | true =>
              refine q_RT_cT ?_
              refine q_RT_rsF (g2 := (83, [(0, .ref 87), (1, .int a1)], [], (q_kP s c n))) rfl rfl (q_d_neT h10) ?_
              refine q_RT_seg (g2 := (88, [(0, .ref 87), (1, .int a1)], [.int 1], (q_kP s c n))) 2 (fun _ _ => rfl) ?_
              exact q_RT_ret rfl rfl rfl
            | false =>
              refine q_RT_cF ?_
              refine q_RT_rsT (g2 := (87, [(0, .ref 87), (1, .int a1)], [], (q_kP s c n))) rfl rfl (q_d_neF h10) ?_
              refine q_RT_seg (g2 := (88, [(0, .ref 87), (1, .int a1)], [.int 0], (q_kP s c n))) 1 (fun _ _ => rfl) ?_
              exact q_RT_ret rfl rfl rfl
          | false =>
            refine q_RT_cF ?_
            cases h11 : decide (a1 = 163) with
            | true =>
              refine q_RT_cT ?_
              refine q_RT_st1 (g2 := (89, [(0, .ref 87), (1, .int a1)], [], (q_kP s c n))) rfl (by rw [of_decide_eq_true h11]; rfl) ?_
              refine q_RT_seg (g2 := (93, [(0, .ref 87), (1, .int a1)], [.int (s.2.1 23 5)], (q_kP s c n))) 2 (fun _ _ => rfl) ?_
              refine q_RT_seg (g2 := (95, [(0, .ref 87), (1, .int a1)], [.int ((s.2.1 23 5) &&& 1)], (q_kP s c n))) 2 (fun _ _ => rfl) ?_
              cases h12 : decide ((s.2.1 23 5) &&& 1 = 0) with
              | true =>
                refine q_RT_cT ?_
                refine q_RT_rsT (g2 := (102, [(0, .ref 87), (1, .int a1)], [], (q_kP s c n))) rfl rfl h12 ?_
                refine q_RT_seg (g2 := (103, [(0, .ref 87), (1, .int a1)], [.int 0], (q_kP s c n))) 1 (fun _ _ => rfl) ?_
                exact q_RT_ret rfl rfl rfl
              | false =>
                refine q_RT_cF ?_
                refine q_RT_rsF (g2 := (98, [(0, .ref 87), (1, .int a1)], [], (q_kP s c n))) rfl rfl h12 ?_
                refine q_RT_seg (g2 := (103, [(0, .ref 87), (1, .int a1)], [.int 1], (q_kP s c n))) 2 (fun _ _ => rfl) ?_
                exact q_RT_ret rfl rfl rfl
            | false =>
              refine q_RT_cF ?_
              cases h13 : decide (a1 = 164) with
              | true =>
                refine q_RT_cT ?_
                refine q_RT_st1 (g2 := (104, [(0, .ref 87), (1, .int a1)], [], (q_kP s c n))) rfl (by rw [of_decide_eq_true h13]; rfl) ?_
                refine q_RT_seg (g2 := (108, [(0, .ref 87), (1, .int a1)], [.int (s.2.1 23 5)], (q_kP s c n))) 2 (fun _ _ => rfl) ?_
                refine q_RT_seg (g2 := (112, [(0, .ref 87), (1, .int a1)], [.int ((s.2.1 23 5) &&& 128)], (q_kP s c n))) 2 (fun _ _ => rfl) ?_
                cases h14 : decide ((s.2.1 23 5) &&& 128 = 0) with
                | true =>
                  refine q_RT_cT ?_
                  refine q_RT_rsF (g2 := (115, [(0, .ref 87), (1, .int a1)], [], (q_kP s c n))) rfl rfl (q_d_neT h14) ?_
                  refine q_RT_seg (g2 := (120, [(0, .ref 87), (1, .int a1)], [.int 1], (q_kP s c n))) 2 (fun _ _ => rfl) ?_
                  exact q_RT_ret rfl rfl rfl
                | false =>
                  refine q_RT_cF ?_
                  refine q_RT_rsT (g2 := (119, [(0, .ref 87), (1, .int a1)], [], (q_kP s c n))) rfl rfl (q_d_neF h14) ?_
                  refine q_RT_seg (g2 := (120, [(0, .ref 87), (1, .int a1)], [.int 0], (q_kP s c n))) 1 (fun _ _ => rfl) ?_
                  exact q_RT_ret rfl rfl rfl
              | false =>
                refine q_RT_cF ?_
                cases h15 : decide (a1 = 165) with
                | true =>
                  refine q_RT_cT ?_
                  refine q_RT_st1 (g2 := (121, [(0, .ref 87), (1, .int a1)], [], (q_kP s c n))) rfl (by rw [of_decide_eq_true h15]; rfl) ?_
                  refine q_RT_seg (g2 := (125, [(0, .ref 87), (1, .int a1)], [.int (s.2.1 23 5)], (q_kP s c n))) 2 (fun _ _ => rfl) ?_
                  refine q_RT_seg (g2 := (129, [(0, .ref 87), (1, .int a1)], [.int ((s.2.1 23 5) &&& 128)], (q_kP s c n))) 2 (fun _ _ => rfl) ?_
                  cases h16 : decide ((s.2.1 23 5) &&& 128 = 0) with
                  | true =>
                    refine q_RT_cT ?_
                    refine q_RT_rsT (g2 := (136, [(0, .ref 87), (1, .int a1)], [], (q_kP s c n))) rfl rfl h16 ?_
                    refine q_RT_seg (g2 := (137, [(0, .ref 87), (1, .int a1)], [.int 0], (q_kP s c n))) 1 (fun _ _ => rfl) ?_
                    exact q_RT_ret rfl rfl rfl
                  | false =>
                    refine q_RT_cF ?_
                    refine q_RT_rsF (g2 := (132, [(0, .ref 87), (1, .int a1)], [], (q_kP s c n))) rfl rfl h16 ?_
                    refine q_RT_seg (g2 := (137, [(0, .ref 87), (1, .int a1)], [.int 1], (q_kP s c n))) 2 (fun _ _ => rfl) ?_
                    exact q_RT_ret rfl rfl rfl
                | false =>
                  refine q_RT_cF ?_
                  have h17 : a1 = 166 := Int32.toInt_inj.mp (by have e0 := q_neI h5 (n := 160); have e1 := q_neI h7 (n := 161); have e2 := q_neI h9 (n := 162); have e3 := q_neI h11 (n := 163); have e4 := q_neI h13 (n := 164); have e5 := q_neI h15 (n := 165); have l1 : 160 ≤ (a1).toInt := q_lo1 h1; have l2 : (a1).toInt ≤ 166 := q_hi2 h3; show (a1).toInt = 166; omega)
                  refine q_RT_st1 (g2 := (138, [(0, .ref 87), (1, .int a1)], [], (q_kP s c n))) rfl (by rw [h17]; rfl) ?_
                  refine q_RT_seg (g2 := (142, [(0, .ref 87), (1, .int a1)], [.int (s.2.1 23 5)], (q_kP s c n))) 2 (fun _ _ => rfl) ?_
                  refine q_RT_seg (g2 := (145, [(0, .ref 87), (1, .int a1)], [.int ((s.2.1 23 5) &&& 64)], (q_kP s c n))) 2 (fun _ _ => rfl) ?_
                  cases h18 : decide ((s.2.1 23 5) &&& 64 = 0) with
                  | true =>
                    refine q_RT_cT ?_
                    refine q_RT_rsF (g2 := (148, [(0, .ref 87), (1, .int a1)], [], (q_kP s c n))) rfl rfl (q_d_neT h18) ?_
                    refine q_RT_seg (g2 := (153, [(0, .ref 87), (1, .int a1)], [.int 1], (q_kP s c n))) 2 (fun _ _ => rfl) ?_
                    exact q_RT_ret rfl rfl rfl
                  | false =>
                    refine q_RT_cF ?_
                    refine q_RT_rsT (g2 := (152, [(0, .ref 87), (1, .int a1)], [], (q_kP s c n))) rfl rfl (q_d_neF h18) ?_
                    refine q_RT_seg (g2 := (153, [(0, .ref 87), (1, .int a1)], [.int 0], (q_kP s c n))) 1 (fun _ _ => rfl) ?_
                    exact q_RT_ret rfl rfl rfl
set_option maxHeartbeats 4000000 in
theorem dzt_P193 (s : q_S) (c n : Nat) (a0 : Int32) (a1 : Int32) : q_Ca q_TB0 1 192 [.int a0, .int a1] (q_kP s c n) ((q_oP (q_kP s c n)) (dz_N193 s a0 a1)) := by
  refine q_CaT_of (φ := (q_oP (q_kP s c n))) (Nat.le_of_ble_eq_true rfl) ?_
  unfold dz_N193
  refine q_RT_seg (g2 := (6, [(0, .int a0), (1, .int a1)], [.int 127, .int a1, .int (a0 + 2)], (q_kP s c n))) 5 (fun _ _ => rfl) ?_
  cases h1 : decide (127 < a1) with
  | true =>
    refine q_RT_cT ?_
    refine q_RT_rsF (g2 := (9, [(0, .int a0), (1, .int a1)], [.int (a0 + 2)], (q_kP s c n))) rfl rfl (q_d_geT h1) ?_
    refine q_RT_seg (g2 := (23, [(0, .int a0), (1, .int a1)], [.int (((a0 + 2) + (a1 - 256)) &&& 4095)], (q_kP s c n))) 7 (fun _ _ => rfl) ?_
    exact q_RT_ret rfl rfl rfl
  | false =>
    refine q_RT_cF ?_
    refine q_RT_rsT (g2 := (17, [(0, .int a0), (1, .int a1)], [.int (a0 + 2)], (q_kP s c n))) rfl rfl (q_d_geF h1) ?_
    refine q_RT_seg (g2 := (23, [(0, .int a0), (1, .int a1)], [.int (((a0 + 2) + a1) &&& 4095)], (q_kP s c n))) 4 (fun _ _ => rfl) ?_
    exact q_RT_ret rfl rfl rfl
set_option maxHeartbeats 4000000 in
theorem dzt_P139_87 (s : q_S) (c n : Nat) (a1 : Int32) : q_Ca q_TB0 2 138 [.ref 87, .int a1] (q_kP s c n) ((q_oP (q_kP s c n)) (dz_N139_87 s a1)) := by
  refine q_CaT_of (φ := (q_oP (q_kP s c n))) (Nat.le_of_ble_eq_true rfl) ?_
  unfold dz_N139_87
  refine q_RT_seg (g2 := (4, [(0, .ref 87), (1, .int a1)], [.int (s.2.1 23 4)], (q_kP s c n))) 2 (fun _ _ => rfl) ?_
  refine q_RT_seg (g2 := (5, [(0, .ref 87), (1, .int a1)], [.int a1, .int (s.2.1 23 4)], (q_kP s c n))) 1 (fun _ _ => rfl) ?_
  refine q_RT_call (v := (some (.int (dz_N193 s (s.2.1 23 4) a1)))) (h2 := (q_kP s c n)) rfl rfl ((dzt_P193 s c n (s.2.1 23 4) a1).le (Nat.le_of_ble_eq_true rfl)) ?_
  generalize dz_N193 s (s.2.1 23 4) a1 = r1
  refine q_RT_let ?_
  show q_RT _ _ _ (8, [(0, .ref 87), (1, .int a1)], [.int r1], (q_kP s c n)) _ _
  exact q_RT_ret rfl rfl rfl
set_option maxHeartbeats 4000000 in
theorem dzt_P138_87 (s : q_S) (c n : Nat) (a1 : Int32) (a2 : Int32) : q_Ca q_TB0 3 137 [.ref 87, .int a1, .int a2] (q_kP s c n) ((q_oP (q_kP s c n)) (dz_N138_87 s a1 a2)) := by
  refine q_CaT_of (φ := (q_oP (q_kP s c n))) (Nat.le_of_ble_eq_true rfl) ?_
  unfold dz_N138_87
  refine q_RT_seg (g2 := (2, [(0, .ref 87), (1, .int a1), (2, .int a2)], [.int a1, .ref 87], (q_kP s c n))) 2 (fun _ _ => rfl) ?_
  refine q_RT_call (v := (some (.int (q_b (dz_N161_87 s a1))))) (h2 := (q_kP s c n)) rfl rfl ((dzt_P161_87 s c n a1).le (Nat.le_of_ble_eq_true rfl)) ?_
  generalize dz_N161_87 s a1 = r1
  refine q_RT_let ?_
  show q_RT _ _ _ (5, [(0, .ref 87), (1, .int a1), (2, .int a2)], [.int (q_b r1)], (q_kP s c n)) _ _
  cases h1 : r1 with
  | true =>
    refine q_RT_cT ?_
    show q_RT _ _ _ (5, [(0, .ref 87), (1, .int a1), (2, .int a2)], [.int 1], (q_kP s c n)) _ _
    refine q_RT_seg (g2 := (12, [(0, .ref 87), (1, .int a1), (2, .int a2)], [.int a2, .ref 87], (q_kP s c n))) 3 (fun _ _ => rfl) ?_
    refine q_RT_call (v := (some (.int (dz_N139_87 s a2)))) (h2 := (q_kP s c n)) rfl rfl ((dzt_P139_87 s c n a2).le (Nat.le_of_ble_eq_true rfl)) ?_
    generalize dz_N139_87 s a2 = r2
    refine q_RT_let ?_
    show q_RT _ _ _ (15, [(0, .ref 87), (1, .int a1), (2, .int a2)], [.int r2], (q_kP s c n)) _ _
    refine q_RT_seg (g2 := (21, [(0, .ref 87), (1, .int a1), (2, .int a2)], [.int 2, .ref 87, .int (r2 / 256)], (q_kP s c n))) 4 (fun _ _ => rfl) ?_
    refine q_RT_call (v := (some (.int (dz_N140_87 s 2)))) (h2 := (q_kP s c n)) rfl rfl ((dzt_P140_87 s c n 2).le (Nat.le_of_ble_eq_true rfl)) ?_
    generalize dz_N140_87 s 2 = r3
    refine q_RT_let ?_
    show q_RT _ _ _ (24, [(0, .ref 87), (1, .int a1), (2, .int a2)], [.int r3, .int (r2 / 256)], (q_kP s c n)) _ _
    refine q_RT_seg (g2 := (28, [(0, .ref 87), (1, .int a1), (2, .int a2)], [.int (r3 / 256), .int (r2 / 256)], (q_kP s c n))) 2 (fun _ _ => rfl) ?_
    cases h2 : decide (r2 / 256 = r3 / 256) with
    | true =>
      refine q_RT_cT ?_
      refine q_RT_rsF (g2 := (31, [(0, .ref 87), (1, .int a1), (2, .int a2)], [], (q_kP s c n))) rfl rfl (q_d_neT h2) ?_
      refine q_RT_seg (g2 := (36, [(0, .ref 87), (1, .int a1), (2, .int a2)], [.int 3], (q_kP s c n))) 2 (fun _ _ => rfl) ?_
      exact q_RT_ret rfl rfl rfl
    | false =>
      refine q_RT_cF ?_
      refine q_RT_rsT (g2 := (35, [(0, .ref 87), (1, .int a1), (2, .int a2)], [], (q_kP s c n))) rfl rfl (q_d_neF h2) ?_
      refine q_RT_seg (g2 := (36, [(0, .ref 87), (1, .int a1), (2, .int a2)], [.int 4], (q_kP s c n))) 1 (fun _ _ => rfl) ?_
      exact q_RT_ret rfl rfl rfl
  | false =>
    refine q_RT_cF ?_
    show q_RT _ _ _ (5, [(0, .ref 87), (1, .int a1), (2, .int a2)], [.int 0], (q_kP s c n)) _ _
    refine q_RT_seg (g2 := (9, [(0, .ref 87), (1, .int a1), (2, .int a2)], [.int 2], (q_kP s c n))) 2 (fun _ _ => rfl) ?_
    exact q_RT_ret rfl rfl rfl
set_option maxHeartbeats 4000000 in
theorem dzt_P192 (s : q_S) (c n : Nat) (a0 : Int32) : q_Ca q_TB0 1 191 [.int a0] (q_kP s c n) ((q_oP (q_kP s c n)) (dz_N192 s a0)) := by
  refine q_CaT_of (φ := (q_oP (q_kP s c n))) (Nat.le_of_ble_eq_true rfl) ?_
  unfold dz_N192
  refine q_RT_seg (g2 := (7, [(1, .int (a0 - 128)), (0, .int a0)], [.int (a0 - 128)], (q_kP s c n))) 5 (fun _ _ => rfl) ?_
  cases h1 : decide (a0 - 128 < 0) with
  | true =>
    refine q_RT_cT ?_
    refine q_RT_rsT (g2 := (26, [(1, .int (a0 - 128)), (0, .int a0)], [], (q_kP s c n))) rfl rfl h1 ?_
    refine q_RT_seg (g2 := (27, [(1, .int (a0 - 128)), (0, .int a0)], [.int 2], (q_kP s c n))) 1 (fun _ _ => rfl) ?_
    exact q_RT_ret rfl rfl rfl
  | false =>
    refine q_RT_cF ?_
    refine q_RT_rsF (g2 := (10, [(1, .int (a0 - 128)), (0, .int a0)], [], (q_kP s c n))) rfl rfl h1 ?_
    refine q_RT_seg (g2 := (15, [(1, .int (a0 - 128)), (0, .int a0)], [.int 32, .int (a0 - 128)], (q_kP s c n))) 3 (fun _ _ => rfl) ?_
    cases h2 : decide (a0 - 128 < 32) with
    | true =>
      refine q_RT_cT ?_
      refine q_RT_rsF (g2 := (18, [(1, .int (a0 - 128)), (0, .int a0)], [], (q_kP s c n))) rfl rfl (q_d_geT h2) ?_
      refine q_RT_seg (g2 := (22, [(1, .int (a0 - 128)), (0, .int a0)], [.int (a0 - 128), .ref 3], (q_kP s c n))) 2 (fun _ _ => rfl) ?_
      refine q_RT_rsT (g2 := (23, [(1, .int (a0 - 128)), (0, .int a0)], [.int ((fun j => q_o3.getD j 0) ((a0 - 128).toNatClampNeg))], (q_kP s c n))) rfl rfl (q_in_bd (x := a0 - 128) (n := 32) (U := 31) (L := 0) (q_lo1 h1) (q_hi1 h2)) ?_
      refine q_RT_seg (g2 := (27, [(1, .int (a0 - 128)), (0, .int a0)], [.int ((fun j => q_o3.getD j 0) ((a0 - 128).toNatClampNeg))], (q_kP s c n))) 1 (fun _ _ => rfl) ?_
      exact q_RT_ret rfl rfl rfl
    | false =>
      refine q_RT_cF ?_
      refine q_RT_rsT (g2 := (26, [(1, .int (a0 - 128)), (0, .int a0)], [], (q_kP s c n))) rfl rfl (q_d_geF h2) ?_
      refine q_RT_seg (g2 := (27, [(1, .int (a0 - 128)), (0, .int a0)], [.int 2], (q_kP s c n))) 1 (fun _ _ => rfl) ?_
      exact q_RT_ret rfl rfl rfl
set_option maxHeartbeats 4000000 in
theorem dzt_P191 (s : q_S) (c n : Nat) (a0 : Int32) : q_Ca q_TB0 1 190 [.int a0] (q_kP s c n) ((q_oP (q_kP s c n)) (dz_N191 s a0)) := by
  refine q_CaT_of (φ := (q_oP (q_kP s c n))) (Nat.le_of_ble_eq_true rfl) ?_
  unfold dz_N191
  refine q_RT_seg (g2 := (7, [(0, .int a0)], [.int (a0 &&& 7), .ref 2], (q_kP s c n))) 4 (fun _ _ => rfl) ?_
  refine q_RT_rsT (g2 := (8, [(0, .int a0)], [.int ((fun j => q_o2.getD j 0) ((a0 &&& 7).toNatClampNeg))], (q_kP s c n))) rfl rfl (q_in_bd (x := a0 &&& 7) (n := 8) (U := 7) (L := 0) (q_and_lo a0 7) (q_and_hi a0 7 7)) ?_
  exact q_RT_ret rfl rfl rfl
set_option maxHeartbeats 4000000 in
theorem dzt_P189 (s : q_S) (c n : Nat) (a0 : Int32) : q_Ca q_TB0 1 188 [.int a0] (q_kP s c n) ((q_oB (q_kP s c n)) (dz_N189 s a0)) := by
  refine q_CaT_of (φ := (q_oB (q_kP s c n))) (Nat.le_of_ble_eq_true rfl) ?_
  unfold dz_N189
  refine q_RT_seg (g2 := (3, [(0, .int a0)], [.int 14, .int a0], (q_kP s c n))) 2 (fun _ _ => rfl) ?_
  cases h1 : decide (a0 = 14) with
  | true =>
    refine q_RT_cT ?_
    refine q_RT_rsT (g2 := (24, [(0, .int a0)], [], (q_kP s c n))) rfl rfl h1 ?_
    refine q_RT_seg (g2 := (29, [(0, .int a0)], [.int 1], (q_kP s c n))) 2 (fun _ _ => rfl) ?_
    exact q_RT_ret rfl rfl rfl
  | false =>
    refine q_RT_cF ?_
    refine q_RT_rsF (g2 := (6, [(0, .int a0)], [], (q_kP s c n))) rfl rfl h1 ?_
    refine q_RT_seg (g2 := (9, [(0, .int a0)], [.int 15, .int a0], (q_kP s c n))) 2 (fun _ _ => rfl) ?_
    cases h2 : decide (a0 = 15) with
    | true =>
      refine q_RT_cT ?_
      refine q_RT_rsT (g2 := (24, [(0, .int a0)], [], (q_kP s c n))) rfl rfl h2 ?_
      refine q_RT_seg (g2 := (29, [(0, .int a0)], [.int 1], (q_kP s c n))) 2 (fun _ _ => rfl) ?_
      exact q_RT_ret rfl rfl rfl
    | false =>
      refine q_RT_cF ?_
      refine q_RT_rsF (g2 := (12, [(0, .int a0)], [], (q_kP s c n))) rfl rfl h2 ?_
      refine q_RT_seg (g2 := (15, [(0, .int a0)], [.int 18, .int a0], (q_kP s c n))) 2 (fun _ _ => rfl) ?_
      cases h3 : decide (a0 = 18) with
      | true =>
        refine q_RT_cT ?_
        refine q_RT_rsT (g2 := (24, [(0, .int a0)], [], (q_kP s c n))) rfl rfl h3 ?_
        refine q_RT_seg (g2 := (29, [(0, .int a0)], [.int 1], (q_kP s c n))) 2 (fun _ _ => rfl) ?_
        exact q_RT_ret rfl rfl rfl
      | false =>
        refine q_RT_cF ?_
        refine q_RT_rsF (g2 := (18, [(0, .int a0)], [], (q_kP s c n))) rfl rfl h3 ?_
        refine q_RT_seg (g2 := (21, [(0, .int a0)], [.int 19, .int a0], (q_kP s c n))) 2 (fun _ _ => rfl) ?_
        cases h4 : decide (a0 = 19) with
        | true =>
          refine q_RT_cT ?_
          refine q_RT_rsF (g2 := (24, [(0, .int a0)], [], (q_kP s c n))) rfl rfl (q_d_neT h4) ?_
          refine q_RT_seg (g2 := (29, [(0, .int a0)], [.int 1], (q_kP s c n))) 2 (fun _ _ => rfl) ?_
          exact q_RT_ret rfl rfl rfl
        | false =>
          refine q_RT_cF ?_
          refine q_RT_rsT (g2 := (28, [(0, .int a0)], [], (q_kP s c n))) rfl rfl (q_d_neF h4) ?_
          refine q_RT_seg (g2 := (29, [(0, .int a0)], [.int 0], (q_kP s c n))) 1 (fun _ _ => rfl) ?_
          exact q_RT_ret rfl rfl rfl
set_option maxHeartbeats 4000000 in
theorem dzt_P145_87_65 (s : q_S) (c n : Nat) (a2 : Int32) (x : Int32) (h : dz_N145_87_65 s a2 = some x) : q_Ca q_TB0 3 144 [.ref 87, .ref 65, .int a2] (q_kP s c n) ((q_oP (q_kP s c n)) x) := by
  refine q_CaP_of (φ := (q_oP (q_kP s c n))) (Nat.le_of_ble_eq_true rfl) ?_ h
  clear h
  unfold dz_N145_87_65
  refine q_RP_seg (g2 := (3, [(0, .ref 87), (1, .ref 65), (2, .int a2)], [.int 1, .ref 87, .ref 65], (q_kP s c n))) 3 (fun _ _ => rfl) ?_
  refine q_RP_call (v := (some (.int (dz_N140_87 s 1)))) (h2 := (q_kP s c n)) rfl rfl ((dzt_P140_87 s c n 1).le (Nat.le_of_ble_eq_true rfl)) ?_
  generalize dz_N140_87 s 1 = r3
  refine q_RP_let ?_
  show q_RP _ _ _ (6, [(0, .ref 87), (1, .ref 65), (2, .int a2)], [.int r3, .ref 65], (q_kP s c n)) _ _
  refine q_RP_bd fun r4 er4 => ?_
  refine q_RP_call (v := (some (.int r4))) (h2 := (q_kP s c n)) rfl rfl ((dzt_P90_65 s c n r3 r4 er4).le (Nat.le_of_ble_eq_true rfl)) ?_
  show q_RP _ _ _ (9, [(0, .ref 87), (1, .ref 65), (2, .int a2)], [.int r4], (q_kP s c n)) _ _
  refine q_RP_seg (g2 := (12, [(3, .int r4), (0, .ref 87), (1, .ref 65), (2, .int a2)], [.int 1, .int a2], (q_kP s c n))) 3 (fun _ _ => rfl) ?_
  cases h1 : decide (a2 = 1) with
  | true =>
    refine q_RP_cT ?_
    refine q_RP_rsF (g2 := (15, [(3, .int r4), (0, .ref 87), (1, .ref 65), (2, .int a2)], [], (q_kP s c n))) rfl rfl (q_d_neT h1) ?_
    refine q_RP_seg (g2 := (16, [(3, .int r4), (0, .ref 87), (1, .ref 65), (2, .int a2)], [.int r4], (q_kP s c n))) 1 (fun _ _ => rfl) ?_
    exact q_RP_ret rfl rfl rfl
  | false =>
    refine q_RP_cF ?_
    refine q_RP_rsT (g2 := (17, [(3, .int r4), (0, .ref 87), (1, .ref 65), (2, .int a2)], [], (q_kP s c n))) rfl rfl (q_d_neF h1) ?_
    refine q_RP_seg (g2 := (19, [(3, .int r4), (0, .ref 87), (1, .ref 65), (2, .int a2)], [.int 2, .int a2], (q_kP s c n))) 2 (fun _ _ => rfl) ?_
    cases h2 : decide (a2 = 2) with
    | true =>
      refine q_RP_cT ?_
      refine q_RP_rsF (g2 := (22, [(3, .int r4), (0, .ref 87), (1, .ref 65), (2, .int a2)], [], (q_kP s c n))) rfl rfl (q_d_neT h2) ?_
      refine q_RP_seg (g2 := (27, [(3, .int r4), (0, .ref 87), (1, .ref 65), (2, .int a2)], [.int (s.2.1 23 1), .int r4], (q_kP s c n))) 3 (fun _ _ => rfl) ?_
      refine q_RP_seg (g2 := (32, [(3, .int r4), (0, .ref 87), (1, .ref 65), (2, .int a2)], [.int ((r4 + (s.2.1 23 1)) &&& 255)], (q_kP s c n))) 3 (fun _ _ => rfl) ?_
      exact q_RP_ret rfl rfl rfl
    | false =>
      refine q_RP_cF ?_
      refine q_RP_rsT (g2 := (33, [(3, .int r4), (0, .ref 87), (1, .ref 65), (2, .int a2)], [], (q_kP s c n))) rfl rfl (q_d_neF h2) ?_
      refine q_RP_seg (g2 := (36, [(3, .int r4), (0, .ref 87), (1, .ref 65), (2, .int a2)], [.int 6, .int a2], (q_kP s c n))) 2 (fun _ _ => rfl) ?_
      cases h3 : decide (a2 < 6) with
      | true =>
        refine q_RP_cT ?_
        refine q_RP_rsF (g2 := (39, [(3, .int r4), (0, .ref 87), (1, .ref 65), (2, .int a2)], [], (q_kP s c n))) rfl rfl (q_d_geT h3) ?_
        refine q_RP_seg (g2 := (46, [(3, .int r4), (0, .ref 87), (1, .ref 65), (2, .int a2)], [.int 2, .ref 87, .ref 65, .int 256, .int r4], (q_kP s c n))) 5 (fun _ _ => rfl) ?_
        refine q_RP_call (v := (some (.int (dz_N140_87 s 2)))) (h2 := (q_kP s c n)) rfl rfl ((dzt_P140_87 s c n 2).le (Nat.le_of_ble_eq_true rfl)) ?_
        generalize dz_N140_87 s 2 = r5
        refine q_RP_let ?_
        show q_RP _ _ _ (49, [(3, .int r4), (0, .ref 87), (1, .ref 65), (2, .int a2)], [.int r5, .ref 65, .int 256, .int r4], (q_kP s c n)) _ _
        refine q_RP_bd fun r6 er6 => ?_
        refine q_RP_call (v := (some (.int r6))) (h2 := (q_kP s c n)) rfl rfl ((dzt_P90_65 s c n r5 r6 er6).le (Nat.le_of_ble_eq_true rfl)) ?_
        show q_RP _ _ _ (52, [(3, .int r4), (0, .ref 87), (1, .ref 65), (2, .int a2)], [.int r6, .int 256, .int r4], (q_kP s c n)) _ _
        refine q_RP_seg (g2 := (58, [(3, .int r4), (0, .ref 87), (1, .ref 65), (2, .int a2)], [.int ((r4 + (256 * r6)) &&& 4095)], (q_kP s c n))) 4 (fun _ _ => rfl) ?_
        exact q_RP_ret rfl rfl rfl
      | false =>
        refine q_RP_cF ?_
        refine q_RP_rsT (g2 := (59, [(3, .int r4), (0, .ref 87), (1, .ref 65), (2, .int a2)], [], (q_kP s c n))) rfl rfl (q_d_geF h3) ?_
        refine q_RP_seg (g2 := (62, [(3, .int r4), (0, .ref 87), (1, .ref 65), (2, .int a2)], [.int 7, .int a2], (q_kP s c n))) 2 (fun _ _ => rfl) ?_
        cases h4 : decide (a2 = 7) with
        | true =>
          refine q_RP_cT ?_
          refine q_RP_rsF (g2 := (65, [(3, .int r4), (0, .ref 87), (1, .ref 65), (2, .int a2)], [], (q_kP s c n))) rfl rfl (q_d_neT h4) ?_
          refine q_RP_seg (g2 := (70, [(3, .int r4), (0, .ref 87), (1, .ref 65), (2, .int a2)], [.int (s.2.1 23 1), .int r4], (q_kP s c n))) 3 (fun _ _ => rfl) ?_
          refine q_RP_seg (g2 := (84, [(4, .int ((r4 + (s.2.1 23 1)) &&& 255)), (3, .int r4), (0, .ref 87), (1, .ref 65), (2, .int a2)], [.int ((r4 + (s.2.1 23 1)) &&& 255), .ref 65], (q_kP s c n))) 7 (fun _ _ => rfl) ?_
          refine q_RP_bd fun r7 er7 => ?_
          refine q_RP_call (v := (some (.int r7))) (h2 := (q_kP s c n)) rfl rfl ((dzt_P90_65 s c n ((r4 + (s.2.1 23 1)) &&& 255) r7 er7).le (Nat.le_of_ble_eq_true rfl)) ?_
          show q_RP _ _ _ (87, [(4, .int ((r4 + (s.2.1 23 1)) &&& 255)), (3, .int r4), (0, .ref 87), (1, .ref 65), (2, .int a2)], [.int r7], (q_kP s c n)) _ _
          refine q_RP_seg (g2 := (99, [(4, .int ((r4 + (s.2.1 23 1)) &&& 255)), (3, .int r4), (0, .ref 87), (1, .ref 65), (2, .int a2)], [.int ((((r4 + (s.2.1 23 1)) &&& 255) + 1) &&& 255), .ref 65, .int 256, .int r7], (q_kP s c n))) 7 (fun _ _ => rfl) ?_
          refine q_RP_bd fun r8 er8 => ?_
          refine q_RP_call (v := (some (.int r8))) (h2 := (q_kP s c n)) rfl rfl ((dzt_P90_65 s c n ((((r4 + (s.2.1 23 1)) &&& 255) + 1) &&& 255) r8 er8).le (Nat.le_of_ble_eq_true rfl)) ?_
          show q_RP _ _ _ (102, [(4, .int ((r4 + (s.2.1 23 1)) &&& 255)), (3, .int r4), (0, .ref 87), (1, .ref 65), (2, .int a2)], [.int r8, .int 256, .int r7], (q_kP s c n)) _ _
          refine q_RP_seg (g2 := (108, [(4, .int ((r4 + (s.2.1 23 1)) &&& 255)), (3, .int r4), (0, .ref 87), (1, .ref 65), (2, .int a2)], [.int ((r7 + (256 * r8)) &&& 4095)], (q_kP s c n))) 4 (fun _ _ => rfl) ?_
          exact q_RP_ret rfl rfl rfl
        | false =>
          refine q_RP_cF ?_
          refine q_RP_rsT (g2 := (78, [(3, .int r4), (0, .ref 87), (1, .ref 65), (2, .int a2)], [], (q_kP s c n))) rfl rfl (q_d_neF h4) ?_
          refine q_RP_seg (g2 := (84, [(4, .int r4), (3, .int r4), (0, .ref 87), (1, .ref 65), (2, .int a2)], [.int r4, .ref 65], (q_kP s c n))) 4 (fun _ _ => rfl) ?_
          refine q_RP_bd fun r9 er9 => ?_
          refine q_RP_call (v := (some (.int r9))) (h2 := (q_kP s c n)) rfl rfl ((dzt_P90_65 s c n r4 r9 er9).le (Nat.le_of_ble_eq_true rfl)) ?_
          show q_RP _ _ _ (87, [(4, .int r4), (3, .int r4), (0, .ref 87), (1, .ref 65), (2, .int a2)], [.int r9], (q_kP s c n)) _ _
          refine q_RP_seg (g2 := (99, [(4, .int r4), (3, .int r4), (0, .ref 87), (1, .ref 65), (2, .int a2)], [.int ((r4 + 1) &&& 255), .ref 65, .int 256, .int r9], (q_kP s c n))) 7 (fun _ _ => rfl) ?_
          refine q_RP_bd fun r10 er10 => ?_
          refine q_RP_call (v := (some (.int r10))) (h2 := (q_kP s c n)) rfl rfl ((dzt_P90_65 s c n ((r4 + 1) &&& 255) r10 er10).le (Nat.le_of_ble_eq_true rfl)) ?_
          show q_RP _ _ _ (102, [(4, .int r4), (3, .int r4), (0, .ref 87), (1, .ref 65), (2, .int a2)], [.int r10, .int 256, .int r9], (q_kP s c n)) _ _
          refine q_RP_seg (g2 := (108, [(4, .int r4), (3, .int r4), (0, .ref 87), (1, .ref 65), (2, .int a2)], [.int ((r9 + (256 * r10)) &&& 4095)], (q_kP s c n))) 4 (fun _ _ => rfl) ?_
          exact q_RP_ret rfl rfl rfl
set_option maxHeartbeats 4000000 in
theorem dzt_P143_87 (s : q_S) (c n : Nat) (a1 : Int32) : q_Ca q_TB0 1 142 [.ref 87, .int a1] (q_kP s c n) ((q_oP (q_kP s c n)) (dz_N143_87 s a1)) := by
  refine q_CaT_of (φ := (q_oP (q_kP s c n))) (Nat.le_of_ble_eq_true rfl) ?_
  unfold dz_N143_87
  refine q_RT_seg (g2 := (2, [(0, .ref 87), (1, .int a1)], [.int 4, .int a1], (q_kP s c n))) 2 (fun _ _ => rfl) ?_
  cases h1 : decide (a1 = 4) with
  | true =>
    refine q_RT_cT ?_
    refine q_RT_rsF (g2 := (5, [(0, .ref 87), (1, .int a1)], [], (q_kP s c n))) rfl rfl (q_d_neT h1) ?_
    refine q_RT_seg (g2 := (9, [(0, .ref 87), (1, .int a1)], [.int (s.2.1 23 1)], (q_kP s c n))) 2 (fun _ _ => rfl) ?_
    exact q_RT_ret rfl rfl rfl
  | false =>
    refine q_RT_cF ?_
    refine q_RT_rsT (g2 := (10, [(0, .ref 87), (1, .int a1)], [], (q_kP s c n))) rfl rfl (q_d_neF h1) ?_
    refine q_RT_seg (g2 := (12, [(0, .ref 87), (1, .int a1)], [.int 5, .int a1], (q_kP s c n))) 2 (fun _ _ => rfl) ?_
    cases h2 : decide (a1 = 5) with
    | true =>
      refine q_RT_cT ?_
      refine q_RT_rsT (g2 := (21, [(0, .ref 87), (1, .int a1)], [], (q_kP s c n))) rfl rfl h2 ?_
      refine q_RT_seg (g2 := (25, [(0, .ref 87), (1, .int a1)], [.int (s.2.1 23 2)], (q_kP s c n))) 2 (fun _ _ => rfl) ?_
      refine q_RT_seg (g2 := (29, [(0, .ref 87), (1, .int a1)], [.int (s.2.1 23 2)], (q_kP s c n))) 1 (fun _ _ => rfl) ?_
      exact q_RT_ret rfl rfl rfl
    | false =>
      refine q_RT_cF ?_
      refine q_RT_rsF (g2 := (15, [(0, .ref 87), (1, .int a1)], [], (q_kP s c n))) rfl rfl h2 ?_
      refine q_RT_seg (g2 := (18, [(0, .ref 87), (1, .int a1)], [.int 6, .int a1], (q_kP s c n))) 2 (fun _ _ => rfl) ?_
      cases h3 : decide (a1 = 6) with
      | true =>
        refine q_RT_cT ?_
        refine q_RT_rsF (g2 := (21, [(0, .ref 87), (1, .int a1)], [], (q_kP s c n))) rfl rfl (q_d_neT h3) ?_
        refine q_RT_seg (g2 := (25, [(0, .ref 87), (1, .int a1)], [.int (s.2.1 23 2)], (q_kP s c n))) 2 (fun _ _ => rfl) ?_
        refine q_RT_seg (g2 := (29, [(0, .ref 87), (1, .int a1)], [.int (s.2.1 23 2)], (q_kP s c n))) 1 (fun _ _ => rfl) ?_
        exact q_RT_ret rfl rfl rfl
      | false =>
        refine q_RT_cF ?_
        refine q_RT_rsT (g2 := (28, [(0, .ref 87), (1, .int a1)], [], (q_kP s c n))) rfl rfl (q_d_neF h3) ?_
        refine q_RT_seg (g2 := (29, [(0, .ref 87), (1, .int a1)], [.int 0], (q_kP s c n))) 1 (fun _ _ => rfl) ?_
        exact q_RT_ret rfl rfl rfl
set_option maxHeartbeats 4000000 in
theorem dzt_P188 (s : q_S) (c n : Nat) (a0 : Int32) : q_Ca q_TB0 2 187 [.int a0] (q_kP s c n) ((q_oB (q_kP s c n)) (dz_N188 s a0)) := by
  refine q_CaT_of (φ := (q_oB (q_kP s c n))) (Nat.le_of_ble_eq_true rfl) ?_
  unfold dz_N188
  refine q_RT_seg (g2 := (2, [(0, .int a0)], [.int 3, .int a0], (q_kP s c n))) 2 (fun _ _ => rfl) ?_
  cases h1 : decide (a0 < 3) with
  | true =>
    refine q_RT_cT ?_
    refine q_RT_rsT (g2 := (10, [(0, .int a0)], [], (q_kP s c n))) rfl rfl h1 ?_
    refine q_RT_seg (g2 := (13, [(0, .int a0)], [.int 17, .int a0], (q_kP s c n))) 2 (fun _ _ => rfl) ?_
    cases h2 : decide (a0 = 17) with
    | true =>
      refine q_RT_cT ?_
      refine q_RT_rsT (g2 := (23, [(0, .int a0)], [], (q_kP s c n))) rfl rfl h2 ?_
      refine q_RT_seg (g2 := (28, [(0, .int a0)], [.int 1], (q_kP s c n))) 2 (fun _ _ => rfl) ?_
      exact q_RT_ret rfl rfl rfl
    | false =>
      refine q_RT_cF ?_
      refine q_RT_rsF (g2 := (16, [(0, .int a0)], [], (q_kP s c n))) rfl rfl h2 ?_
      refine q_RT_seg (g2 := (17, [(0, .int a0)], [.int a0], (q_kP s c n))) 1 (fun _ _ => rfl) ?_
      refine q_RT_call (v := (some (.int (q_b (dz_N189 s a0))))) (h2 := (q_kP s c n)) rfl rfl ((dzt_P189 s c n a0).le (Nat.le_of_ble_eq_true rfl)) ?_
      generalize dz_N189 s a0 = r1
      refine q_RT_let ?_
      show q_RT _ _ _ (20, [(0, .int a0)], [.int (q_b r1)], (q_kP s c n)) _ _
      cases h3 : r1 with
      | true =>
        refine q_RT_cT ?_
        show q_RT _ _ _ (20, [(0, .int a0)], [.int 1], (q_kP s c n)) _ _
        refine q_RT_seg (g2 := (28, [(0, .int a0)], [.int 1], (q_kP s c n))) 3 (fun _ _ => rfl) ?_
        exact q_RT_ret rfl rfl rfl
      | false =>
        refine q_RT_cF ?_
        show q_RT _ _ _ (20, [(0, .int a0)], [.int 0], (q_kP s c n)) _ _
        refine q_RT_seg (g2 := (28, [(0, .int a0)], [.int 0], (q_kP s c n))) 2 (fun _ _ => rfl) ?_
        exact q_RT_ret rfl rfl rfl
  | false =>
    refine q_RT_cF ?_
    refine q_RT_rsF (g2 := (5, [(0, .int a0)], [], (q_kP s c n))) rfl rfl h1 ?_
    refine q_RT_seg (g2 := (7, [(0, .int a0)], [.int 5, .int a0], (q_kP s c n))) 2 (fun _ _ => rfl) ?_
    cases h4 : decide (5 < a0) with
    | true =>
      refine q_RT_cT ?_
      refine q_RT_rsF (g2 := (10, [(0, .int a0)], [], (q_kP s c n))) rfl rfl (q_d_geT h4) ?_
      refine q_RT_seg (g2 := (13, [(0, .int a0)], [.int 17, .int a0], (q_kP s c n))) 2 (fun _ _ => rfl) ?_
      cases h5 : decide (a0 = 17) with
      | true =>
        refine q_RT_cT ?_
        refine q_RT_rsT (g2 := (23, [(0, .int a0)], [], (q_kP s c n))) rfl rfl h5 ?_
        refine q_RT_seg (g2 := (28, [(0, .int a0)], [.int 1], (q_kP s c n))) 2 (fun _ _ => rfl) ?_
        exact q_RT_ret rfl rfl rfl
      | false =>
        refine q_RT_cF ?_
        refine q_RT_rsF (g2 := (16, [(0, .int a0)], [], (q_kP s c n))) rfl rfl h5 ?_
        refine q_RT_seg (g2 := (17, [(0, .int a0)], [.int a0], (q_kP s c n))) 1 (fun _ _ => rfl) ?_
        refine q_RT_call (v := (some (.int (q_b (dz_N189 s a0))))) (h2 := (q_kP s c n)) rfl rfl ((dzt_P189 s c n a0).le (Nat.le_of_ble_eq_true rfl)) ?_
        generalize dz_N189 s a0 = r2
        refine q_RT_let ?_
        show q_RT _ _ _ (20, [(0, .int a0)], [.int (q_b r2)], (q_kP s c n)) _ _
        cases h6 : r2 with
        | true =>
          refine q_RT_cT ?_
          show q_RT _ _ _ (20, [(0, .int a0)], [.int 1], (q_kP s c n)) _ _
          refine q_RT_seg (g2 := (28, [(0, .int a0)], [.int 1], (q_kP s c n))) 3 (fun _ _ => rfl) ?_
          exact q_RT_ret rfl rfl rfl
        | false =>
          refine q_RT_cF ?_
          show q_RT _ _ _ (20, [(0, .int a0)], [.int 0], (q_kP s c n)) _ _
          refine q_RT_seg (g2 := (28, [(0, .int a0)], [.int 0], (q_kP s c n))) 2 (fun _ _ => rfl) ?_
          exact q_RT_ret rfl rfl rfl
    | false =>
      refine q_RT_cF ?_
      refine q_RT_rsT (g2 := (23, [(0, .int a0)], [], (q_kP s c n))) rfl rfl (q_d_geF h4) ?_
      refine q_RT_seg (g2 := (28, [(0, .int a0)], [.int 1], (q_kP s c n))) 2 (fun _ _ => rfl) ?_
      exact q_RT_ret rfl rfl rfl
set_option maxHeartbeats 4000000 in
theorem dzt_P137_87_65_127 (c n : Nat) (s : q_S) (v3 : Int32) (v4 : Int32) (v5 : Int32) : q_RP q_TB0 3 136 (127, [(3, .int v3), (4, .int v4), (5, .int v5)], [], (q_kP s c n)) (q_oP (q_kP s c n)) (dz_N137_87_65_127 s v3 v4 v5) := by
  unfold dz_N137_87_65_127
  refine q_RP_seg (g2 := (129, [(3, .int v3), (4, .int v4), (5, .int v5)], [.int v4], (q_kP s c n))) 1 (fun _ _ => rfl) ?_
  refine q_RP_call (v := (some (.int (dz_N191 s v4)))) (h2 := (q_kP s c n)) rfl rfl ((dzt_P191 s c n v4).le (Nat.le_of_ble_eq_true rfl)) ?_
  generalize dz_N191 s v4 = r9
  refine q_RP_let ?_
  show q_RP _ _ _ (132, [(3, .int v3), (4, .int v4), (5, .int v5)], [.int r9], (q_kP s c n)) _ _
  refine q_RP_seg (g2 := (134, [(3, .int v3), (4, .int v4), (5, .int v5)], [.int v5, .int r9], (q_kP s c n))) 1 (fun _ _ => rfl) ?_
  cases h5 : decide (v5 = 0) with
  | true =>
    refine q_RP_cT ?_
    refine q_RP_rsT (g2 := (141, [(3, .int v3), (4, .int v4), (5, .int v5)], [.int r9], (q_kP s c n))) rfl rfl h5 ?_
    refine q_RP_seg (g2 := (144, [(3, .int v3), (4, .int v4), (5, .int v5)], [.int v3, .int (r9 + 0)], (q_kP s c n))) 3 (fun _ _ => rfl) ?_
    refine q_RP_call (v := (some (.int (q_b (dz_N189 s v3))))) (h2 := (q_kP s c n)) rfl rfl ((dzt_P189 s c n v3).le (Nat.le_of_ble_eq_true rfl)) ?_
    generalize dz_N189 s v3 = r10
    refine q_RP_let ?_
    show q_RP _ _ _ (147, [(3, .int v3), (4, .int v4), (5, .int v5)], [.int (q_b r10), .int (r9 + 0)], (q_kP s c n)) _ _
    cases h6 : r10 with
    | true =>
      refine q_RP_cT ?_
      show q_RP _ _ _ (147, [(3, .int v3), (4, .int v4), (5, .int v5)], [.int 1, .int (r9 + 0)], (q_kP s c n)) _ _
      refine q_RP_seg (g2 := (156, [(3, .int v3), (4, .int v4), (5, .int v5)], [.int ((r9 + 0) + 2)], (q_kP s c n))) 4 (fun _ _ => rfl) ?_
      exact q_RP_ret rfl rfl rfl
    | false =>
      refine q_RP_cF ?_
      show q_RP _ _ _ (147, [(3, .int v3), (4, .int v4), (5, .int v5)], [.int 0, .int (r9 + 0)], (q_kP s c n)) _ _
      refine q_RP_seg (g2 := (156, [(3, .int v3), (4, .int v4), (5, .int v5)], [.int ((r9 + 0) + 0)], (q_kP s c n))) 3 (fun _ _ => rfl) ?_
      exact q_RP_ret rfl rfl rfl
  | false =>
    refine q_RP_cF ?_
    refine q_RP_rsF (g2 := (137, [(3, .int v3), (4, .int v4), (5, .int v5)], [.int r9], (q_kP s c n))) rfl rfl h5 ?_
    refine q_RP_seg (g2 := (144, [(3, .int v3), (4, .int v4), (5, .int v5)], [.int v3, .int (r9 + 1)], (q_kP s c n))) 4 (fun _ _ => rfl) ?_
    refine q_RP_call (v := (some (.int (q_b (dz_N189 s v3))))) (h2 := (q_kP s c n)) rfl rfl ((dzt_P189 s c n v3).le (Nat.le_of_ble_eq_true rfl)) ?_
    generalize dz_N189 s v3 = r11
    refine q_RP_let ?_
    show q_RP _ _ _ (147, [(3, .int v3), (4, .int v4), (5, .int v5)], [.int (q_b r11), .int (r9 + 1)], (q_kP s c n)) _ _
    cases h7 : r11 with
    | true =>
      refine q_RP_cT ?_
      show q_RP _ _ _ (147, [(3, .int v3), (4, .int v4), (5, .int v5)], [.int 1, .int (r9 + 1)], (q_kP s c n)) _ _
      refine q_RP_seg (g2 := (156, [(3, .int v3), (4, .int v4), (5, .int v5)], [.int ((r9 + 1) + 2)], (q_kP s c n))) 4 (fun _ _ => rfl) ?_
      exact q_RP_ret rfl rfl rfl
    | false =>
      refine q_RP_cF ?_
      show q_RP _ _ _ (147, [(3, .int v3), (4, .int v4), (5, .int v5)], [.int 0, .int (r9 + 1)], (q_kP s c n)) _ _
      refine q_RP_seg (g2 := (156, [(3, .int v3), (4, .int v4), (5, .int v5)], [.int ((r9 + 1) + 0)], (q_kP s c n))) 3 (fun _ _ => rfl) ?_
      exact q_RP_ret rfl rfl rfl
set_option maxHeartbeats 4000000 in
theorem dzt_P137_87_65_120 (c n : Nat) (s : q_S) (v3 : Int32) (v4 : Int32) : q_RP q_TB0 3 136 (120, [(3, .int v3), (4, .int v4)], [], (q_kP s c n)) (q_oP (q_kP s c n)) (dz_N137_87_65_120 s v3 v4) := by
  unfold dz_N137_87_65_120
  refine q_RP_seg (g2 := (127, [(5, .int 1), (3, .int v3), (4, .int v4)], [], (q_kP s c n))) 3 (fun _ _ => rfl) ?_
  exact q_RP_xt (q_xt_mk (q_mn1 1 rfl (q_mn1 2 rfl (q_mn1 0 rfl q_mn0))) rfl) (dzt_P137_87_65_127 c n s v3 v4 1)
set_option maxHeartbeats 4000000 in
theorem dzt_P137_87_65 (s : q_S) (c n : Nat) (x : Int32) (h : dz_N137_87_65 s = some x) : q_Ca q_TB0 4 136 [.ref 87, .ref 65] (q_kP s c n) ((q_oP (q_kP s c n)) x) := by
  refine q_CaP_of (φ := (q_oP (q_kP s c n))) (Nat.le_of_ble_eq_true rfl) ?_ h
  clear h
  unfold dz_N137_87_65
  refine q_RP_seg (g2 := (5, [(0, .ref 87), (1, .ref 65)], [.int (s.2.1 23 4), .ref 65], (q_kP s c n))) 3 (fun _ _ => rfl) ?_
  refine q_RP_bd fun r2 er2 => ?_
  refine q_RP_call (v := (some (.int r2))) (h2 := (q_kP s c n)) rfl rfl ((dzt_P90_65 s c n (s.2.1 23 4) r2 er2).le (Nat.le_of_ble_eq_true rfl)) ?_
  show q_RP _ _ _ (8, [(0, .ref 87), (1, .ref 65)], [.int r2], (q_kP s c n)) _ _
  refine q_RP_seg (g2 := (10, [(2, .int r2), (0, .ref 87), (1, .ref 65)], [.int r2], (q_kP s c n))) 2 (fun _ _ => rfl) ?_
  refine q_RP_call (v := (some (.int (dz_N186 s r2)))) (h2 := (q_kP s c n)) rfl rfl ((dzt_P186 s c n r2).le (Nat.le_of_ble_eq_true rfl)) ?_
  generalize dz_N186 s r2 = r3
  refine q_RP_let ?_
  show q_RP _ _ _ (13, [(2, .int r2), (0, .ref 87), (1, .ref 65)], [.int r3], (q_kP s c n)) _ _
  refine q_RP_seg (g2 := (21, [(4, .int (r2 &&& 7)), (3, .int r3), (2, .int r2), (0, .ref 87), (1, .ref 65)], [.int r2], (q_kP s c n))) 6 (fun _ _ => rfl) ?_
  refine q_RP_call (v := (some (.int (q_b (dz_N187 s r2))))) (h2 := (q_kP s c n)) rfl rfl ((dzt_P187 s c n r2).le (Nat.le_of_ble_eq_true rfl)) ?_
  generalize dz_N187 s r2 = r4
  refine q_RP_let ?_
  show q_RP _ _ _ (24, [(4, .int (r2 &&& 7)), (3, .int r3), (2, .int r2), (0, .ref 87), (1, .ref 65)], [.int (q_b r4)], (q_kP s c n)) _ _
  cases h1 : r4 with
  | true =>
    refine q_RP_cT ?_
    show q_RP _ _ _ (24, [(4, .int (r2 &&& 7)), (3, .int r3), (2, .int r2), (0, .ref 87), (1, .ref 65)], [.int 1], (q_kP s c n)) _ _
    refine q_RP_seg (g2 := (32, [(4, .int (r2 &&& 7)), (3, .int r3), (2, .int r2), (0, .ref 87), (1, .ref 65)], [.int 1, .ref 87, .ref 65, .int r2, .ref 87], (q_kP s c n))) 6 (fun _ _ => rfl) ?_
    refine q_RP_call (v := (some (.int (dz_N140_87 s 1)))) (h2 := (q_kP s c n)) rfl rfl ((dzt_P140_87 s c n 1).le (Nat.le_of_ble_eq_true rfl)) ?_
    generalize dz_N140_87 s 1 = r5
    refine q_RP_let ?_
    show q_RP _ _ _ (35, [(4, .int (r2 &&& 7)), (3, .int r3), (2, .int r2), (0, .ref 87), (1, .ref 65)], [.int r5, .ref 65, .int r2, .ref 87], (q_kP s c n)) _ _
    refine q_RP_bd fun r6 er6 => ?_
    refine q_RP_call (v := (some (.int r6))) (h2 := (q_kP s c n)) rfl rfl ((dzt_P90_65 s c n r5 r6 er6).le (Nat.le_of_ble_eq_true rfl)) ?_
    show q_RP _ _ _ (38, [(4, .int (r2 &&& 7)), (3, .int r3), (2, .int r2), (0, .ref 87), (1, .ref 65)], [.int r6, .int r2, .ref 87], (q_kP s c n)) _ _
    refine q_RP_call (v := (some (.int (dz_N138_87 s r2 r6)))) (h2 := (q_kP s c n)) rfl rfl ((dzt_P138_87 s c n r2 r6).le (Nat.le_of_ble_eq_true rfl)) ?_
    generalize dz_N138_87 s r2 r6 = r7
    refine q_RP_let ?_
    show q_RP _ _ _ (41, [(4, .int (r2 &&& 7)), (3, .int r3), (2, .int r2), (0, .ref 87), (1, .ref 65)], [.int r7], (q_kP s c n)) _ _
    exact q_RP_ret rfl rfl rfl
  | false =>
    refine q_RP_cF ?_
    show q_RP _ _ _ (24, [(4, .int (r2 &&& 7)), (3, .int r3), (2, .int r2), (0, .ref 87), (1, .ref 65)], [.int 0], (q_kP s c n)) _ _
    refine q_RP_seg (g2 := (43, [(4, .int (r2 &&& 7)), (3, .int r3), (2, .int r2), (0, .ref 87), (1, .ref 65)], [.int r3], (q_kP s c n))) 2 (fun _ _ => rfl) ?_
    cases h2 : decide (r3 < 0) with
    | true =>
      refine q_RP_cT ?_
      refine q_RP_rsF (g2 := (46, [(4, .int (r2 &&& 7)), (3, .int r3), (2, .int r2), (0, .ref 87), (1, .ref 65)], [], (q_kP s c n))) rfl rfl (q_d_geT h2) ?_
      refine q_RP_seg (g2 := (47, [(4, .int (r2 &&& 7)), (3, .int r3), (2, .int r2), (0, .ref 87), (1, .ref 65)], [.int r2], (q_kP s c n))) 1 (fun _ _ => rfl) ?_
      refine q_RP_call (v := (some (.int (dz_N192 s r2)))) (h2 := (q_kP s c n)) rfl rfl ((dzt_P192 s c n r2).le (Nat.le_of_ble_eq_true rfl)) ?_
      generalize dz_N192 s r2 = r8
      refine q_RP_let ?_
      show q_RP _ _ _ (50, [(4, .int (r2 &&& 7)), (3, .int r3), (2, .int r2), (0, .ref 87), (1, .ref 65)], [.int r8], (q_kP s c n)) _ _
      exact q_RP_ret rfl rfl rfl
    | false =>
      refine q_RP_cF ?_
      refine q_RP_rsT (g2 := (51, [(4, .int (r2 &&& 7)), (3, .int r3), (2, .int r2), (0, .ref 87), (1, .ref 65)], [], (q_kP s c n))) rfl rfl (q_d_geF h2) ?_
      refine q_RP_seg (g2 := (53, [(4, .int (r2 &&& 7)), (3, .int r3), (2, .int r2), (0, .ref 87), (1, .ref 65)], [.int (r2 &&& 7)], (q_kP s c n))) 1 (fun _ _ => rfl) ?_
      cases h3 : decide (r2 &&& 7 = 0) with
      | true =>
        refine q_RP_cT ?_
        refine q_RP_rsF (g2 := (56, [(4, .int (r2 &&& 7)), (3, .int r3), (2, .int r2), (0, .ref 87), (1, .ref 65)], [], (q_kP s c n))) rfl rfl (q_d_neT h3) ?_
        refine q_RP_seg (g2 := (57, [(4, .int (r2 &&& 7)), (3, .int r3), (2, .int r2), (0, .ref 87), (1, .ref 65)], [.int 2], (q_kP s c n))) 1 (fun _ _ => rfl) ?_
        exact q_RP_ret rfl rfl rfl
      | false =>
        refine q_RP_cF ?_
        refine q_RP_rsT (g2 := (58, [(4, .int (r2 &&& 7)), (3, .int r3), (2, .int r2), (0, .ref 87), (1, .ref 65)], [], (q_kP s c n))) rfl rfl (q_d_neF h3) ?_
        refine q_RP_seg (g2 := (64, [(5, .int 0), (4, .int (r2 &&& 7)), (3, .int r3), (2, .int r2), (0, .ref 87), (1, .ref 65)], [.int 4, .int (r2 &&& 7)], (q_kP s c n))) 4 (fun _ _ => rfl) ?_
        cases h4 : decide (r2 &&& 7 < 4) with
        | true =>
          refine q_RP_cT ?_
          refine q_RP_rsT (g2 := (127, [(5, .int 0), (4, .int (r2 &&& 7)), (3, .int r3), (2, .int r2), (0, .ref 87), (1, .ref 65)], [], (q_kP s c n))) rfl rfl h4 ?_
          exact q_RP_xt (q_xt_mk (q_mn1 2 rfl (q_mn1 1 rfl (q_mn1 0 rfl q_mn0))) rfl) (dzt_P137_87_65_127 c n s r3 (r2 &&& 7) 0)
        | false =>
          refine q_RP_cF ?_
          refine q_RP_rsF (g2 := (67, [(5, .int 0), (4, .int (r2 &&& 7)), (3, .int r3), (2, .int r2), (0, .ref 87), (1, .ref 65)], [], (q_kP s c n))) rfl rfl h4 ?_
          refine q_RP_seg (g2 := (71, [(5, .int 0), (4, .int (r2 &&& 7)), (3, .int r3), (2, .int r2), (0, .ref 87), (1, .ref 65)], [.int 6, .int (r2 &&& 7)], (q_kP s c n))) 2 (fun _ _ => rfl) ?_
          cases h8 : decide (6 < r2 &&& 7) with
          | true =>
            refine q_RP_cT ?_
            refine q_RP_rsT (g2 := (127, [(5, .int 0), (4, .int (r2 &&& 7)), (3, .int r3), (2, .int r2), (0, .ref 87), (1, .ref 65)], [], (q_kP s c n))) rfl rfl h8 ?_
            exact q_RP_xt (q_xt_mk (q_mn1 2 rfl (q_mn1 1 rfl (q_mn1 0 rfl q_mn0))) rfl) (dzt_P137_87_65_127 c n s r3 (r2 &&& 7) 0)
          | false =>
            refine q_RP_cF ?_
            refine q_RP_rsF (g2 := (74, [(5, .int 0), (4, .int (r2 &&& 7)), (3, .int r3), (2, .int r2), (0, .ref 87), (1, .ref 65)], [], (q_kP s c n))) rfl rfl h8 ?_
            refine q_RP_seg (g2 := (78, [(5, .int 0), (4, .int (r2 &&& 7)), (3, .int r3), (2, .int r2), (0, .ref 87), (1, .ref 65)], [.int (r2 &&& 7), .ref 65, .ref 87], (q_kP s c n))) 3 (fun _ _ => rfl) ?_
            refine q_RP_bd fun r12 er12 => ?_
            refine q_RP_call (v := (some (.int r12))) (h2 := (q_kP s c n)) rfl rfl ((dzt_P145_87_65 s c n (r2 &&& 7) r12 er12).le (Nat.le_of_ble_eq_true rfl)) ?_
            show q_RP _ _ _ (81, [(5, .int 0), (4, .int (r2 &&& 7)), (3, .int r3), (2, .int r2), (0, .ref 87), (1, .ref 65)], [.int r12], (q_kP s c n)) _ _
            refine q_RP_seg (g2 := (88, [(6, .int r12), (5, .int 0), (4, .int (r2 &&& 7)), (3, .int r3), (2, .int r2), (0, .ref 87), (1, .ref 65)], [.int (r2 &&& 7), .ref 87, .int r12], (q_kP s c n))) 4 (fun _ _ => rfl) ?_
            refine q_RP_call (v := (some (.int (dz_N143_87 s (r2 &&& 7))))) (h2 := (q_kP s c n)) rfl rfl ((dzt_P143_87 s c n (r2 &&& 7)).le (Nat.le_of_ble_eq_true rfl)) ?_
            generalize dz_N143_87 s (r2 &&& 7) = r13
            refine q_RP_let ?_
            show q_RP _ _ _ (91, [(6, .int r12), (5, .int 0), (4, .int (r2 &&& 7)), (3, .int r3), (2, .int r2), (0, .ref 87), (1, .ref 65)], [.int r13, .int r12], (q_kP s c n)) _ _
            refine q_RP_seg (g2 := (99, [(7, .int ((r12 + r13) &&& 4095)), (6, .int r12), (5, .int 0), (4, .int (r2 &&& 7)), (3, .int r3), (2, .int r2), (0, .ref 87), (1, .ref 65)], [.int r3], (q_kP s c n))) 5 (fun _ _ => rfl) ?_
            refine q_RP_call (v := (some (.int (q_b (dz_N188 s r3))))) (h2 := (q_kP s c n)) rfl rfl ((dzt_P188 s c n r3).le (Nat.le_of_ble_eq_true rfl)) ?_
            generalize dz_N188 s r3 = r14
            refine q_RP_let ?_
            show q_RP _ _ _ (102, [(7, .int ((r12 + r13) &&& 4095)), (6, .int r12), (5, .int 0), (4, .int (r2 &&& 7)), (3, .int r3), (2, .int r2), (0, .ref 87), (1, .ref 65)], [.int (q_b r14)], (q_kP s c n)) _ _
            cases h9 : r14 with
            | true =>
              refine q_RP_cT ?_
              show q_RP _ _ _ (102, [(7, .int ((r12 + r13) &&& 4095)), (6, .int r12), (5, .int 0), (4, .int (r2 &&& 7)), (3, .int r3), (2, .int r2), (0, .ref 87), (1, .ref 65)], [.int 1], (q_kP s c n)) _ _
              refine q_RP_seg (g2 := (120, [(7, .int ((r12 + r13) &&& 4095)), (6, .int r12), (5, .int 0), (4, .int (r2 &&& 7)), (3, .int r3), (2, .int r2), (0, .ref 87), (1, .ref 65)], [], (q_kP s c n))) 1 (fun _ _ => rfl) ?_
              exact q_RP_xt (q_xt_mk (q_mn1 4 rfl (q_mn1 3 rfl q_mn0)) rfl) (dzt_P137_87_65_120 c n s r3 (r2 &&& 7))
            | false =>
              refine q_RP_cF ?_
              show q_RP _ _ _ (102, [(7, .int ((r12 + r13) &&& 4095)), (6, .int r12), (5, .int 0), (4, .int (r2 &&& 7)), (3, .int r3), (2, .int r2), (0, .ref 87), (1, .ref 65)], [.int 0], (q_kP s c n)) _ _
              refine q_RP_seg (g2 := (117, [(7, .int ((r12 + r13) &&& 4095)), (6, .int r12), (5, .int 0), (4, .int (r2 &&& 7)), (3, .int r3), (2, .int r2), (0, .ref 87), (1, .ref 65)], [.int (r12 / 256), .int (((r12 + r13) &&& 4095) / 256)], (q_kP s c n))) 7 (fun _ _ => rfl) ?_
              cases h10 : decide (((r12 + r13) &&& 4095) / 256 = r12 / 256) with
              | true =>
                refine q_RP_cT ?_
                refine q_RP_rsT (g2 := (124, [(7, .int ((r12 + r13) &&& 4095)), (6, .int r12), (5, .int 0), (4, .int (r2 &&& 7)), (3, .int r3), (2, .int r2), (0, .ref 87), (1, .ref 65)], [], (q_kP s c n))) rfl rfl h10 ?_
                refine q_RP_seg (g2 := (127, [(5, .int 0), (7, .int ((r12 + r13) &&& 4095)), (6, .int r12), (4, .int (r2 &&& 7)), (3, .int r3), (2, .int r2), (0, .ref 87), (1, .ref 65)], [], (q_kP s c n))) 2 (fun _ _ => rfl) ?_
                exact q_RP_xt (q_xt_mk (q_mn1 4 rfl (q_mn1 3 rfl (q_mn1 0 rfl q_mn0))) rfl) (dzt_P137_87_65_127 c n s r3 (r2 &&& 7) 0)
              | false =>
                refine q_RP_cF ?_
                refine q_RP_rsF (g2 := (120, [(7, .int ((r12 + r13) &&& 4095)), (6, .int r12), (5, .int 0), (4, .int (r2 &&& 7)), (3, .int r3), (2, .int r2), (0, .ref 87), (1, .ref 65)], [], (q_kP s c n))) rfl rfl h10 ?_
                exact q_RP_xt (q_xt_mk (q_mn1 4 rfl (q_mn1 3 rfl q_mn0)) rfl) (dzt_P137_87_65_120 c n s r3 (r2 &&& 7))
set_option maxHeartbeats 4000000 in
theorem dzt_P136_87_65 (s : q_S) (c n : Nat) (x : q_S) (h : dz_N136_87_65 s = some x) : q_Ca q_TB0 5 135 [.ref 87, .ref 65] (q_kP s c n) ((q_oSP c n) x) := by
  refine q_CaP_of (φ := (q_oSP c n)) (Nat.le_of_ble_eq_true rfl) ?_ h
  clear h
  unfold dz_N136_87_65
  refine q_RP_seg (g2 := (10, [(0, .ref 87), (1, .ref 65)], [.int ((s.1 4) 10)], (q_kP s c n))) 5 (fun _ _ => rfl) ?_
  refine q_RP_seg (g2 := (20, [(0, .ref 87), (1, .ref 65)], [.int ((s.1 4) 11), .int ((s.1 4) 10)], (q_kP s c n))) 5 (fun _ _ => rfl) ?_
  refine q_RP_seg (g2 := (21, [(0, .ref 87), (1, .ref 65)], [.int (((s.1 4) 10) &&& ((s.1 4) 11))], (q_kP s c n))) 1 (fun _ _ => rfl) ?_
  cases h4 : decide (((s.1 4) 10) &&& ((s.1 4) 11) = 0) with
  | true =>
    refine q_RP_cT ?_
    refine q_RP_rsT (g2 := (28, [(0, .ref 87), (1, .ref 65)], [], (q_kP s c n))) rfl rfl h4 ?_
    refine q_RP_seg (g2 := (34, [(2, .int 0), (0, .ref 87), (1, .ref 65)], [.int (s.2.1 23 7)], (q_kP s c n))) 4 (fun _ _ => rfl) ?_
    cases h5 : decide (s.2.1 23 7 = 0) with
    | true =>
      refine q_RP_cT ?_
      refine q_RP_rsT (g2 := (38, [(2, .int 0), (0, .ref 87), (1, .ref 65)], [], (q_kP s c n))) rfl rfl h5 ?_
      refine q_RP_seg (g2 := (42, [(2, .int 0), (0, .ref 87), (1, .ref 65)], [.int (s.2.1 23 6)], (q_kP s c n))) 2 (fun _ _ => rfl) ?_
      cases h6 : decide (s.2.1 23 6 = 0) with
      | true =>
        refine q_RP_cT ?_
        refine q_RP_rsT (g2 := (66, [(2, .int 0), (0, .ref 87), (1, .ref 65)], [], (q_kP s c n))) rfl rfl h6 ?_
        refine q_RP_seg (g2 := (103, [(2, .int 0), (0, .ref 87), (1, .ref 65)], [.ref 65, .ref 87, .ref 87], (q_kP (q_sI s 23 8 0) c n))) 8 (fun _ _ => rfl) ?_
        refine q_RP_bd fun r2 er2 => ?_
        refine q_RP_call (v := (some (.int r2))) (h2 := (q_kP (q_sI s 23 8 0) c n)) rfl rfl ((dzt_P137_87_65 (q_sI s 23 8 0) c n r2 er2).le (Nat.le_of_ble_eq_true rfl)) ?_
        show q_RP _ _ _ (106, [(2, .int 0), (0, .ref 87), (1, .ref 65)], [.int r2, .ref 87], (q_kP (q_sI s 23 8 0) c n)) _ _
        refine q_RP_seg (g2 := (109, [(2, .int 0), (0, .ref 87), (1, .ref 65)], [], (q_kP (q_sI (q_sI s 23 8 0) 23 9 r2) c n))) 1 (fun _ _ => rfl) ?_
        exact q_RP_ret rfl rfl rfl
      | false =>
        refine q_RP_cF ?_
        refine q_RP_rsF (g2 := (45, [(2, .int 0), (0, .ref 87), (1, .ref 65)], [], (q_kP s c n))) rfl rfl h6 ?_
        refine q_RP_seg (g2 := (109, [(2, .int 0), (0, .ref 87), (1, .ref 65)], [], (q_kP (q_sI (q_sI (q_sI s 23 6 0) 23 8 3834) 23 9 7) c n))) 10 (fun _ _ => rfl) ?_
        exact q_RP_ret rfl rfl rfl
    | false =>
      refine q_RP_cF ?_
      refine q_RP_rsF (g2 := (37, [(2, .int 0), (0, .ref 87), (1, .ref 65)], [], (q_kP s c n))) rfl rfl h5 ?_
      exact q_RP_ret rfl rfl rfl
  | false =>
    refine q_RP_cF ?_
    refine q_RP_rsF (g2 := (24, [(0, .ref 87), (1, .ref 65)], [], (q_kP s c n))) rfl rfl h4 ?_
    refine q_RP_seg (g2 := (34, [(2, .int 1), (0, .ref 87), (1, .ref 65)], [.int (s.2.1 23 7)], (q_kP s c n))) 5 (fun _ _ => rfl) ?_
    cases h7 : decide (s.2.1 23 7 = 0) with
    | true =>
      refine q_RP_cT ?_
      refine q_RP_rsT (g2 := (38, [(2, .int 1), (0, .ref 87), (1, .ref 65)], [], (q_kP s c n))) rfl rfl h7 ?_
      refine q_RP_seg (g2 := (42, [(2, .int 1), (0, .ref 87), (1, .ref 65)], [.int (s.2.1 23 6)], (q_kP s c n))) 2 (fun _ _ => rfl) ?_
      cases h8 : decide (s.2.1 23 6 = 0) with
      | true =>
        refine q_RP_cT ?_
        refine q_RP_rsT (g2 := (66, [(2, .int 1), (0, .ref 87), (1, .ref 65)], [], (q_kP s c n))) rfl rfl h8 ?_
        refine q_RP_seg (g2 := (74, [(2, .int 1), (0, .ref 87), (1, .ref 65)], [.int (s.2.1 23 5)], (q_kP s c n))) 4 (fun _ _ => rfl) ?_
        refine q_RP_seg (g2 := (76, [(2, .int 1), (0, .ref 87), (1, .ref 65)], [.int ((s.2.1 23 5) &&& 4)], (q_kP s c n))) 2 (fun _ _ => rfl) ?_
        cases h9 : decide ((s.2.1 23 5) &&& 4 = 0) with
        | true =>
          refine q_RP_cT ?_
          refine q_RP_rsF (g2 := (79, [(2, .int 1), (0, .ref 87), (1, .ref 65)], [], (q_kP s c n))) rfl rfl (q_d_neT h9) ?_
          refine q_RP_seg (g2 := (109, [(2, .int 1), (0, .ref 87), (1, .ref 65)], [], (q_kP (q_sI (q_sI s 23 8 3838) 23 9 7) c n))) 7 (fun _ _ => rfl) ?_
          exact q_RP_ret rfl rfl rfl
        | false =>
          refine q_RP_cF ?_
          refine q_RP_rsT (g2 := (95, [(2, .int 1), (0, .ref 87), (1, .ref 65)], [], (q_kP s c n))) rfl rfl (q_d_neF h9) ?_
          refine q_RP_seg (g2 := (103, [(2, .int 1), (0, .ref 87), (1, .ref 65)], [.ref 65, .ref 87, .ref 87], (q_kP (q_sI s 23 8 0) c n))) 6 (fun _ _ => rfl) ?_
          refine q_RP_bd fun r3 er3 => ?_
          refine q_RP_call (v := (some (.int r3))) (h2 := (q_kP (q_sI s 23 8 0) c n)) rfl rfl ((dzt_P137_87_65 (q_sI s 23 8 0) c n r3 er3).le (Nat.le_of_ble_eq_true rfl)) ?_
          show q_RP _ _ _ (106, [(2, .int 1), (0, .ref 87), (1, .ref 65)], [.int r3, .ref 87], (q_kP (q_sI s 23 8 0) c n)) _ _
          refine q_RP_seg (g2 := (109, [(2, .int 1), (0, .ref 87), (1, .ref 65)], [], (q_kP (q_sI (q_sI s 23 8 0) 23 9 r3) c n))) 1 (fun _ _ => rfl) ?_
          exact q_RP_ret rfl rfl rfl
      | false =>
        refine q_RP_cF ?_
        refine q_RP_rsF (g2 := (45, [(2, .int 1), (0, .ref 87), (1, .ref 65)], [], (q_kP s c n))) rfl rfl h8 ?_
        refine q_RP_seg (g2 := (109, [(2, .int 1), (0, .ref 87), (1, .ref 65)], [], (q_kP (q_sI (q_sI (q_sI s 23 6 0) 23 8 3834) 23 9 7) c n))) 10 (fun _ _ => rfl) ?_
        exact q_RP_ret rfl rfl rfl
    | false =>
      refine q_RP_cF ?_
      refine q_RP_rsF (g2 := (37, [(2, .int 1), (0, .ref 87), (1, .ref 65)], [], (q_kP s c n))) rfl rfl h7 ?_
      exact q_RP_ret rfl rfl rfl
set_option maxHeartbeats 4000000 in
theorem dzt_P141_87 (s : q_S) (c n : Nat) : q_Ca q_TB0 1 140 [.ref 87] (q_kP s c n) ((q_oJP c n) (dz_N141_87 s)) := by
  refine q_CaT_of (φ := (q_oJP c n)) (Nat.le_of_ble_eq_true rfl) ?_
  unfold dz_N141_87
  refine q_RT_seg (g2 := (4, [(0, .ref 87)], [.int (s.2.1 23 9)], (q_kP s c n))) 2 (fun _ _ => rfl) ?_
  cases h1 : decide (s.2.1 23 9 = 0) with
  | true =>
    refine q_RT_cT ?_
    refine q_RT_rsF (g2 := (7, [(0, .ref 87)], [], (q_kP s c n))) rfl rfl (q_d_neT h1) ?_
    refine q_RT_seg (g2 := (8, [(0, .ref 87)], [.int 0], (q_kP s c n))) 1 (fun _ _ => rfl) ?_
    exact q_RT_ret rfl rfl rfl
  | false =>
    refine q_RT_cF ?_
    refine q_RT_rsT (g2 := (9, [(0, .ref 87)], [], (q_kP s c n))) rfl rfl (q_d_neF h1) ?_
    refine q_RT_seg (g2 := (14, [(0, .ref 87)], [.int (s.2.1 23 9), .ref 87], (q_kP s c n))) 3 (fun _ _ => rfl) ?_
    refine q_RT_seg (g2 := (23, [(0, .ref 87)], [.int ((s.2.1 23 9) - 1)], (q_kP (q_sI s 23 9 ((s.2.1 23 9) - 1)) c n))) 5 (fun _ _ => rfl) ?_
    cases h2 : decide ((s.2.1 23 9) - 1 = 0) with
    | true =>
      refine q_RT_cT ?_
      refine q_RT_rsF (g2 := (26, [(0, .ref 87)], [], (q_kP (q_sI s 23 9 ((s.2.1 23 9) - 1)) c n))) rfl rfl (q_d_neT h2) ?_
      refine q_RT_seg (g2 := (31, [(0, .ref 87)], [.int 1], (q_kP (q_sI s 23 9 ((s.2.1 23 9) - 1)) c n))) 2 (fun _ _ => rfl) ?_
      exact q_RT_ret rfl rfl rfl
    | false =>
      refine q_RT_cF ?_
      refine q_RT_rsT (g2 := (30, [(0, .ref 87)], [], (q_kP (q_sI s 23 9 ((s.2.1 23 9) - 1)) c n))) rfl rfl (q_d_neF h2) ?_
      refine q_RT_seg (g2 := (31, [(0, .ref 87)], [.int 0], (q_kP (q_sI s 23 9 ((s.2.1 23 9) - 1)) c n))) 1 (fun _ _ => rfl) ?_
      exact q_RT_ret rfl rfl rfl
set_option maxHeartbeats 4000000 in
theorem dzt_P146_87_65 (s : q_S) (c n : Nat) (a2 : Int32) (x : q_S) (h : dz_N146_87_65 s a2 = some x) : q_Ca q_TB0 3 145 [.ref 87, .ref 65, .int a2] (q_kP s c n) ((q_oSP c n) x) := by
  refine q_CaP_of (φ := (q_oSP c n)) (Nat.le_of_ble_eq_true rfl) ?_ h
  clear h
  unfold dz_N146_87_65
  refine q_RP_seg (g2 := (8, [(0, .ref 87), (1, .ref 65), (2, .int a2)], [.int (s.2.1 23 3), .int 256, .ref 65], (q_kP s c n))) 4 (fun _ _ => rfl) ?_
  refine q_RP_seg (g2 := (10, [(0, .ref 87), (1, .ref 65), (2, .int a2)], [.int a2, .int ((256 : Int32) + (s.2.1 23 3)), .ref 65], (q_kP s c n))) 2 (fun _ _ => rfl) ?_
  refine q_RP_bd fun r2 er2 => ?_
  refine q_RP_call (v := none) (h2 := (q_kP r2 c n)) rfl rfl ((dzt_P94_65 s c n ((256 : Int32) + (s.2.1 23 3)) a2 r2 er2).le (Nat.le_of_ble_eq_true rfl)) ?_
  show q_RP _ _ _ (13, [(0, .ref 87), (1, .ref 65), (2, .int a2)], [], (q_kP r2 c n)) _ _
  refine q_RP_seg (g2 := (18, [(0, .ref 87), (1, .ref 65), (2, .int a2)], [.int (r2.2.1 23 3), .ref 87], (q_kP r2 c n))) 3 (fun _ _ => rfl) ?_
  refine q_RP_seg (g2 := (27, [(0, .ref 87), (1, .ref 65), (2, .int a2)], [], (q_kP (q_sI r2 23 3 (((r2.2.1 23 3) - 1) &&& 255)) c n))) 5 (fun _ _ => rfl) ?_
  exact q_RP_ret rfl rfl rfl
set_option maxHeartbeats 4000000 in
theorem dzt_P148_87_65 (s : q_S) (c n : Nat) (a2 : Int32) (a3 : Int32) (a4 : Int32) (x : q_S) (h : dz_N148_87_65 s a2 a3 a4 = some x) : q_Ca q_TB0 4 147 [.ref 87, .ref 65, .int a2, .int a3, .int a4] (q_kP s c n) ((q_oSP c n) x) := by
  refine q_CaP_of (φ := (q_oSP c n)) (Nat.le_of_ble_eq_true rfl) ?_ h
  clear h
  unfold dz_N148_87_65
  refine q_RP_seg (g2 := (6, [(0, .ref 87), (1, .ref 65), (2, .int a2), (3, .int a3), (4, .int a4)], [.int (a2 >>> ((8 &&& 31) : Int32)), .ref 65, .ref 87], (q_kP s c n))) 5 (fun _ _ => rfl) ?_
  refine q_RP_bd fun r2 er2 => ?_
  refine q_RP_call (v := none) (h2 := (q_kP r2 c n)) rfl rfl ((dzt_P146_87_65 s c n (a2 >>> ((8 &&& 31) : Int32)) r2 er2).le (Nat.le_of_ble_eq_true rfl)) ?_
  show q_RP _ _ _ (9, [(0, .ref 87), (1, .ref 65), (2, .int a2), (3, .int a3), (4, .int a4)], [], (q_kP r2 c n)) _ _
  refine q_RP_seg (g2 := (16, [(0, .ref 87), (1, .ref 65), (2, .int a2), (3, .int a3), (4, .int a4)], [.int (a2 &&& 255), .ref 65, .ref 87], (q_kP r2 c n))) 5 (fun _ _ => rfl) ?_
  refine q_RP_bd fun r3 er3 => ?_
  refine q_RP_call (v := none) (h2 := (q_kP r3 c n)) rfl rfl ((dzt_P146_87_65 r2 c n (a2 &&& 255) r3 er3).le (Nat.le_of_ble_eq_true rfl)) ?_
  show q_RP _ _ _ (19, [(0, .ref 87), (1, .ref 65), (2, .int a2), (3, .int a3), (4, .int a4)], [], (q_kP r3 c n)) _ _
  refine q_RP_seg (g2 := (22, [(0, .ref 87), (1, .ref 65), (2, .int a2), (3, .int a3), (4, .int a4)], [.int a3, .ref 65, .ref 87], (q_kP r3 c n))) 3 (fun _ _ => rfl) ?_
  refine q_RP_bd fun r4 er4 => ?_
  refine q_RP_call (v := none) (h2 := (q_kP r4 c n)) rfl rfl ((dzt_P146_87_65 r3 c n a3 r4 er4).le (Nat.le_of_ble_eq_true rfl)) ?_
  show q_RP _ _ _ (25, [(0, .ref 87), (1, .ref 65), (2, .int a2), (3, .int a3), (4, .int a4)], [], (q_kP r4 c n)) _ _
  refine q_RP_seg (g2 := (30, [(0, .ref 87), (1, .ref 65), (2, .int a2), (3, .int a3), (4, .int a4)], [.int (r4.2.1 23 5), .ref 87], (q_kP r4 c n))) 3 (fun _ _ => rfl) ?_
  refine q_RP_seg (g2 := (39, [(0, .ref 87), (1, .ref 65), (2, .int a2), (3, .int a3), (4, .int a4)], [.int a4, .ref 65, .ref 87], (q_kP (q_sI r4 23 5 ((r4.2.1 23 5) ||| 4)) c n))) 6 (fun _ _ => rfl) ?_
  refine q_RP_bd fun r5 er5 => ?_
  refine q_RP_call (v := (some (.int r5))) (h2 := (q_kP (q_sI r4 23 5 ((r4.2.1 23 5) ||| 4)) c n)) rfl rfl ((dzt_P92_65 (q_sI r4 23 5 ((r4.2.1 23 5) ||| 4)) c n a4 r5 er5).le (Nat.le_of_ble_eq_true rfl)) ?_
  show q_RP _ _ _ (42, [(0, .ref 87), (1, .ref 65), (2, .int a2), (3, .int a3), (4, .int a4)], [.int r5, .ref 87], (q_kP (q_sI r4 23 5 ((r4.2.1 23 5) ||| 4)) c n)) _ _
  refine q_RP_seg (g2 := (45, [(0, .ref 87), (1, .ref 65), (2, .int a2), (3, .int a3), (4, .int a4)], [], (q_kP (q_sI (q_sI r4 23 5 ((r4.2.1 23 5) ||| 4)) 23 4 r5) c n))) 1 (fun _ _ => rfl) ?_
  exact q_RP_ret rfl rfl rfl
set_option maxHeartbeats 4000000 in
theorem dzt_P147_87_65 (s : q_S) (c n : Nat) : q_Ca q_TB0 2 146 [.ref 87, .ref 65] (q_kP s c n) ((q_oIP c n) (dz_N147_87_65 s)) := by
  refine q_CaT_of (φ := (q_oIP c n)) (Nat.le_of_ble_eq_true rfl) ?_
  unfold dz_N147_87_65
  refine q_RT_seg (g2 := (5, [(0, .ref 87), (1, .ref 65)], [.int (s.2.1 23 3), .ref 87], (q_kP s c n))) 3 (fun _ _ => rfl) ?_
  refine q_RT_seg (g2 := (25, [(0, .ref 87), (1, .ref 65)], [.int (((s.2.1 23 3) + 1) &&& 255), .int 256, .ref 66], (q_kP (q_sI s 23 3 (((s.2.1 23 3) + 1) &&& 255)) c n))) 10 (fun _ _ => rfl) ?_
  refine q_RT_seg (g2 := (26, [(0, .ref 87), (1, .ref 65)], [.int ((256 : Int32) + (((s.2.1 23 3) + 1) &&& 255)), .ref 66], (q_kP (q_sI s 23 3 (((s.2.1 23 3) + 1) &&& 255)) c n))) 1 (fun _ _ => rfl) ?_
  refine q_RT_call (v := (some (.int (dz_N120_66 (q_sI s 23 3 (((s.2.1 23 3) + 1) &&& 255)) ((256 : Int32) + (((s.2.1 23 3) + 1) &&& 255)))))) (h2 := (q_kP (q_sI s 23 3 (((s.2.1 23 3) + 1) &&& 255)) c n)) rfl rfl ((dzt_P120_66 (q_sI s 23 3 (((s.2.1 23 3) + 1) &&& 255)) c n ((256 : Int32) + (((s.2.1 23 3) + 1) &&& 255))).le (Nat.le_of_ble_eq_true rfl)) ?_
  generalize dz_N120_66 (q_sI s 23 3 (((s.2.1 23 3) + 1) &&& 255)) ((256 : Int32) + (((s.2.1 23 3) + 1) &&& 255)) = r1
  refine q_RT_let ?_
  show q_RT _ _ _ (29, [(0, .ref 87), (1, .ref 65)], [.int r1], (q_kP (q_sI s 23 3 (((s.2.1 23 3) + 1) &&& 255)) c n)) _ _
  exact q_RT_ret rfl rfl rfl
set_option maxHeartbeats 4000000 in
theorem dzt_P150_87 (s : q_S) (c n : Nat) (a1 : Int32) : q_Ca q_TB0 1 149 [.ref 87, .int a1] (q_kP s c n) ((q_oIP c n) (dz_N150_87 s a1)) := by
  refine q_CaT_of (φ := (q_oIP c n)) (Nat.le_of_ble_eq_true rfl) ?_
  unfold dz_N150_87
  refine q_RT_seg (g2 := (5, [(0, .ref 87), (1, .int a1)], [.int (s.2.1 23 5), .ref 87], (q_kP s c n))) 3 (fun _ _ => rfl) ?_
  refine q_RT_seg (g2 := (10, [(0, .ref 87), (1, .int a1)], [.int a1, .int ((s.2.1 23 5) &&& (-131)), .ref 87], (q_kP s c n))) 3 (fun _ _ => rfl) ?_
  cases h1 : decide (a1 = 0) with
  | true =>
    refine q_RT_cT ?_
    refine q_RT_rsF (g2 := (13, [(0, .ref 87), (1, .int a1)], [.int ((s.2.1 23 5) &&& (-131)), .ref 87], (q_kP s c n))) rfl rfl (q_d_neT h1) ?_
    refine q_RT_seg (g2 := (22, [(0, .ref 87), (1, .int a1)], [.int 127, .int a1, .int (((s.2.1 23 5) &&& (-131)) ||| 2), .ref 87], (q_kP s c n))) 5 (fun _ _ => rfl) ?_
    cases h2 : decide (127 < a1) with
    | true =>
      refine q_RT_cT ?_
      refine q_RT_rsF (g2 := (25, [(0, .ref 87), (1, .int a1)], [.int (((s.2.1 23 5) &&& (-131)) ||| 2), .ref 87], (q_kP s c n))) rfl rfl (q_d_geT h2) ?_
      refine q_RT_seg (g2 := (37, [(0, .ref 87), (1, .int a1)], [.int a1], (q_kP (q_sI s 23 5 ((((s.2.1 23 5) &&& (-131)) ||| 2) ||| 128)) c n))) 5 (fun _ _ => rfl) ?_
      exact q_RT_ret rfl rfl rfl
    | false =>
      refine q_RT_cF ?_
      refine q_RT_rsT (g2 := (31, [(0, .ref 87), (1, .int a1)], [.int (((s.2.1 23 5) &&& (-131)) ||| 2), .ref 87], (q_kP s c n))) rfl rfl (q_d_geF h2) ?_
      refine q_RT_seg (g2 := (37, [(0, .ref 87), (1, .int a1)], [.int a1], (q_kP (q_sI s 23 5 ((((s.2.1 23 5) &&& (-131)) ||| 2) ||| 0)) c n))) 4 (fun _ _ => rfl) ?_
      exact q_RT_ret rfl rfl rfl
  | false =>
    refine q_RT_cF ?_
    refine q_RT_rsT (g2 := (17, [(0, .ref 87), (1, .int a1)], [.int ((s.2.1 23 5) &&& (-131)), .ref 87], (q_kP s c n))) rfl rfl (q_d_neF h1) ?_
    refine q_RT_seg (g2 := (22, [(0, .ref 87), (1, .int a1)], [.int 127, .int a1, .int (((s.2.1 23 5) &&& (-131)) ||| 0), .ref 87], (q_kP s c n))) 4 (fun _ _ => rfl) ?_
    cases h3 : decide (127 < a1) with
    | true =>
      refine q_RT_cT ?_
      refine q_RT_rsF (g2 := (25, [(0, .ref 87), (1, .int a1)], [.int (((s.2.1 23 5) &&& (-131)) ||| 0), .ref 87], (q_kP s c n))) rfl rfl (q_d_geT h3) ?_
      refine q_RT_seg (g2 := (37, [(0, .ref 87), (1, .int a1)], [.int a1], (q_kP (q_sI s 23 5 ((((s.2.1 23 5) &&& (-131)) ||| 0) ||| 128)) c n))) 5 (fun _ _ => rfl) ?_
      exact q_RT_ret rfl rfl rfl
    | false =>
      refine q_RT_cF ?_
      refine q_RT_rsT (g2 := (31, [(0, .ref 87), (1, .int a1)], [.int (((s.2.1 23 5) &&& (-131)) ||| 0), .ref 87], (q_kP s c n))) rfl rfl (q_d_geF h3) ?_
      refine q_RT_seg (g2 := (37, [(0, .ref 87), (1, .int a1)], [.int a1], (q_kP (q_sI s 23 5 ((((s.2.1 23 5) &&& (-131)) ||| 0) ||| 0)) c n))) 4 (fun _ _ => rfl) ?_
      exact q_RT_ret rfl rfl rfl
set_option maxHeartbeats 4000000 in
theorem dzt_P149_87_t (s : q_S) (c n : Nat) (a1 : Int32) : q_Ca q_TB0 1 148 [.ref 87, .int a1, .int 1] (q_kP s c n) ((q_oSP c n) (dz_N149_87_t s a1)) := by
  refine q_CaT_of (φ := (q_oSP c n)) (Nat.le_of_ble_eq_true rfl) ?_
  unfold dz_N149_87_t
  refine q_RT_seg (g2 := (9, [(0, .ref 87), (1, .int a1), (2, .int 1)], [.int (s.2.1 23 5), .ref 87], (q_kP s c n))) 5 (fun _ _ => rfl) ?_
  refine q_RT_seg (g2 := (25, [(0, .ref 87), (1, .int a1), (2, .int 1)], [], (q_kP (q_sI s 23 5 ((s.2.1 23 5) ||| a1)) c n))) 4 (fun _ _ => rfl) ?_
  exact q_RT_ret rfl rfl rfl
set_option maxHeartbeats 4000000 in
theorem dzt_P149_87_f (s : q_S) (c n : Nat) (a1 : Int32) : q_Ca q_TB0 1 148 [.ref 87, .int a1, .int 0] (q_kP s c n) ((q_oSP c n) (dz_N149_87_f s a1)) := by
  refine q_CaT_of (φ := (q_oSP c n)) (Nat.le_of_ble_eq_true rfl) ?_
  unfold dz_N149_87_f
  refine q_RT_seg (g2 := (18, [(0, .ref 87), (1, .int a1), (2, .int 0)], [.int (s.2.1 23 5), .ref 87], (q_kP s c n))) 5 (fun _ _ => rfl) ?_
  refine q_RT_seg (g2 := (25, [(0, .ref 87), (1, .int a1), (2, .int 0)], [], (q_kP (q_sI s 23 5 ((s.2.1 23 5) &&& (a1 ^^^ (-1)))) c n))) 5 (fun _ _ => rfl) ?_
  exact q_RT_ret rfl rfl rfl
set_option maxHeartbeats 4000000 in
theorem dzt_P164_87 (s : q_S) (c n : Nat) (a1 : Int32) : q_Ca q_TB0 2 163 [.ref 87, .int a1] (q_kP s c n) ((q_oSP c n) (dz_N164_87 s a1)) := by
  refine q_CaT_of (φ := (q_oSP c n)) (Nat.le_of_ble_eq_true rfl) ?_
  unfold dz_N164_87
  refine q_RT_seg (g2 := (4, [(0, .ref 87), (1, .int a1)], [.int (s.2.1 23 5)], (q_kP s c n))) 2 (fun _ _ => rfl) ?_
  refine q_RT_seg (g2 := (8, [(2, .int ((s.2.1 23 5) &&& 1)), (0, .ref 87), (1, .int a1)], [.int a1], (q_kP s c n))) 4 (fun _ _ => rfl) ?_
  cases h1 : decide (a1 < 150) with
  | true =>
    refine q_RT_cT ?_
    refine q_RT_st1 (g2 := (155, [(2, .int ((s.2.1 23 5) &&& 1)), (0, .ref 87), (1, .int a1)], [], (q_kP s c n))) rfl (if_pos (Or.inl (Int32.lt_iff_toInt_lt.mp (of_decide_eq_true h1)))) ?_
    refine q_RT_seg (g2 := (161, [(2, .int ((s.2.1 23 5) &&& 1)), (0, .ref 87), (1, .int a1)], [.int (s.2.1 23 0), .int 1, .ref 87], (q_kP s c n))) 4 (fun _ _ => rfl) ?_
    refine q_RT_seg (g2 := (164, [(2, .int ((s.2.1 23 5) &&& 1)), (0, .ref 87), (1, .int a1)], [.int 1, .int ((s.2.1 23 0) - (s.2.1 23 0) / 2 * 2), .int 1, .ref 87], (q_kP s c n))) 3 (fun _ _ => rfl) ?_
    cases h2 : decide ((s.2.1 23 0) - (s.2.1 23 0) / 2 * 2 = 1) with
    | true =>
      refine q_RT_cT ?_
      refine q_RT_rsF (g2 := (167, [(2, .int ((s.2.1 23 5) &&& 1)), (0, .ref 87), (1, .int a1)], [.int 1, .ref 87], (q_kP s c n))) rfl rfl (q_d_neT h2) ?_
      refine q_RT_seg (g2 := (172, [(2, .int ((s.2.1 23 5) &&& 1)), (0, .ref 87), (1, .int a1)], [.int 1, .int 1, .ref 87], (q_kP s c n))) 2 (fun _ _ => rfl) ?_
      refine q_RT_call (v := none) (h2 := (q_kP (dz_N149_87_t s 1) c n)) rfl rfl ((dzt_P149_87_t s c n 1).le (Nat.le_of_ble_eq_true rfl)) ?_
      generalize dz_N149_87_t s 1 = r1
      refine q_RT_let ?_
      show q_RT _ _ _ (175, [(2, .int ((s.2.1 23 5) &&& 1)), (0, .ref 87), (1, .int a1)], [], (q_kP r1 c n)) _ _
      refine q_RT_seg (g2 := (181, [(2, .int ((s.2.1 23 5) &&& 1)), (0, .ref 87), (1, .int a1)], [.int (r1.2.1 23 0), .ref 87, .ref 87], (q_kP r1 c n))) 4 (fun _ _ => rfl) ?_
      refine q_RT_seg (g2 := (189, [(2, .int ((s.2.1 23 5) &&& 1)), (0, .ref 87), (1, .int a1)], [.int (((r1.2.1 23 0) / 2) + (128 * ((s.2.1 23 5) &&& 1))), .ref 87, .ref 87], (q_kP r1 c n))) 6 (fun _ _ => rfl) ?_
      refine q_RT_call (v := (some (.int (dz_N150_87 r1 (((r1.2.1 23 0) / 2) + (128 * ((s.2.1 23 5) &&& 1)))).2))) (h2 := (q_kP (dz_N150_87 r1 (((r1.2.1 23 0) / 2) + (128 * ((s.2.1 23 5) &&& 1)))).1 c n)) rfl rfl ((dzt_P150_87 r1 c n (((r1.2.1 23 0) / 2) + (128 * ((s.2.1 23 5) &&& 1)))).le (Nat.le_of_ble_eq_true rfl)) ?_
      generalize dz_N150_87 r1 (((r1.2.1 23 0) / 2) + (128 * ((s.2.1 23 5) &&& 1))) = r2
      refine q_RT_let ?_
      show q_RT _ _ _ (192, [(2, .int ((s.2.1 23 5) &&& 1)), (0, .ref 87), (1, .int a1)], [.int r2.2, .ref 87], (q_kP r2.1 c n)) _ _
      refine q_RT_seg (g2 := (195, [(2, .int ((s.2.1 23 5) &&& 1)), (0, .ref 87), (1, .int a1)], [], (q_kP (q_sI r2.1 23 0 r2.2) c n))) 1 (fun _ _ => rfl) ?_
      exact q_RT_ret rfl rfl rfl
    | false =>
      refine q_RT_cF ?_
      refine q_RT_rsT (g2 := (171, [(2, .int ((s.2.1 23 5) &&& 1)), (0, .ref 87), (1, .int a1)], [.int 1, .ref 87], (q_kP s c n))) rfl rfl (q_d_neF h2) ?_
      refine q_RT_seg (g2 := (172, [(2, .int ((s.2.1 23 5) &&& 1)), (0, .ref 87), (1, .int a1)], [.int 0, .int 1, .ref 87], (q_kP s c n))) 1 (fun _ _ => rfl) ?_
      refine q_RT_call (v := none) (h2 := (q_kP (dz_N149_87_f s 1) c n)) rfl rfl ((dzt_P149_87_f s c n 1).le (Nat.le_of_ble_eq_true rfl)) ?_
      generalize dz_N149_87_f s 1 = r3
      refine q_RT_let ?_
      show q_RT _ _ _ (175, [(2, .int ((s.2.1 23 5) &&& 1)), (0, .ref 87), (1, .int a1)], [], (q_kP r3 c n)) _ _
      refine q_RT_seg (g2 := (181, [(2, .int ((s.2.1 23 5) &&& 1)), (0, .ref 87), (1, .int a1)], [.int (r3.2.1 23 0), .ref 87, .ref 87], (q_kP r3 c n))) 4 (fun _ _ => rfl) ?_
      refine q_RT_seg (g2 := (189, [(2, .int ((s.2.1 23 5) &&& 1)), (0, .ref 87), (1, .int a1)], [.int (((r3.2.1 23 0) / 2) + (128 * ((s.2.1 23 5) &&& 1))), .ref 87, .ref 87], (q_kP r3 c n))) 6 (fun _ _ => rfl) ?_
      refine q_RT_call (v := (some (.int (dz_N150_87 r3 (((r3.2.1 23 0) / 2) + (128 * ((s.2.1 23 5) &&& 1)))).2))) (h2 := (q_kP (dz_N150_87 r3 (((r3.2.1 23 0) / 2) + (128 * ((s.2.1 23 5) &&& 1)))).1 c n)) rfl rfl ((dzt_P150_87 r3 c n (((r3.2.1 23 0) / 2) + (128 * ((s.2.1 23 5) &&& 1)))).le (Nat.le_of_ble_eq_true rfl)) ?_
      generalize dz_N150_87 r3 (((r3.2.1 23 0) / 2) + (128 * ((s.2.1 23 5) &&& 1))) = r4
      refine q_RT_let ?_
      show q_RT _ _ _ (192, [(2, .int ((s.2.1 23 5) &&& 1)), (0, .ref 87), (1, .int a1)], [.int r4.2, .ref 87], (q_kP r4.1 c n)) _ _
      refine q_RT_seg (g2 := (195, [(2, .int ((s.2.1 23 5) &&& 1)), (0, .ref 87), (1, .int a1)], [], (q_kP (q_sI r4.1 23 0 r4.2) c n))) 1 (fun _ _ => rfl) ?_
      exact q_RT_ret rfl rfl rfl
  | false =>
    refine q_RT_cF ?_
    cases h3 : decide (152 < a1) with
    | true =>
      refine q_RT_cT ?_
      refine q_RT_st1 (g2 := (155, [(2, .int ((s.2.1 23 5) &&& 1)), (0, .ref 87), (1, .int a1)], [], (q_kP s c n))) rfl (if_pos (Or.inr (Int32.lt_iff_toInt_lt.mp (of_decide_eq_true h3)))) ?_
      refine q_RT_seg (g2 := (161, [(2, .int ((s.2.1 23 5) &&& 1)), (0, .ref 87), (1, .int a1)], [.int (s.2.1 23 0), .int 1, .ref 87], (q_kP s c n))) 4 (fun _ _ => rfl) ?_
      refine q_RT_seg (g2 := (164, [(2, .int ((s.2.1 23 5) &&& 1)), (0, .ref 87), (1, .int a1)], [.int 1, .int ((s.2.1 23 0) - (s.2.1 23 0) / 2 * 2), .int 1, .ref 87], (q_kP s c n))) 3 (fun _ _ => rfl) ?_
      cases h4 : decide ((s.2.1 23 0) - (s.2.1 23 0) / 2 * 2 = 1) with
      | true =>
        refine q_RT_cT ?_
        refine q_RT_rsF (g2 := (167, [(2, .int ((s.2.1 23 5) &&& 1)), (0, .ref 87), (1, .int a1)], [.int 1, .ref 87], (q_kP s c n))) rfl rfl (q_d_neT h4) ?_
        refine q_RT_seg (g2 := (172, [(2, .int ((s.2.1 23 5) &&& 1)), (0, .ref 87), (1, .int a1)], [.int 1, .int 1, .ref 87], (q_kP s c n))) 2 (fun _ _ => rfl) ?_
        refine q_RT_call (v := none) (h2 := (q_kP (dz_N149_87_t s 1) c n)) rfl rfl ((dzt_P149_87_t s c n 1).le (Nat.le_of_ble_eq_true rfl)) ?_
        generalize dz_N149_87_t s 1 = r5
        refine q_RT_let ?_
        show q_RT _ _ _ (175, [(2, .int ((s.2.1 23 5) &&& 1)), (0, .ref 87), (1, .int a1)], [], (q_kP r5 c n)) _ _
        refine q_RT_seg (g2 := (181, [(2, .int ((s.2.1 23 5) &&& 1)), (0, .ref 87), (1, .int a1)], [.int (r5.2.1 23 0), .ref 87, .ref 87], (q_kP r5 c n))) 4 (fun _ _ => rfl) ?_
        refine q_RT_seg (g2 := (189, [(2, .int ((s.2.1 23 5) &&& 1)), (0, .ref 87), (1, .int a1)], [.int (((r5.2.1 23 0) / 2) + (128 * ((s.2.1 23 5) &&& 1))), .ref 87, .ref 87], (q_kP r5 c n))) 6 (fun _ _ => rfl) ?_
        refine q_RT_call (v := (some (.int (dz_N150_87 r5 (((r5.2.1 23 0) / 2) + (128 * ((s.2.1 23 5) &&& 1)))).2))) (h2 := (q_kP (dz_N150_87 r5 (((r5.2.1 23 0) / 2) + (128 * ((s.2.1 23 5) &&& 1)))).1 c n)) rfl rfl ((dzt_P150_87 r5 c n (((r5.2.1 23 0) / 2) + (128 * ((s.2.1 23 5) &&& 1)))).le (Nat.le_of_ble_eq_true rfl)) ?_
        generalize dz_N150_87 r5 (((r5.2.1 23 0) / 2) + (128 * ((s.2.1 23 5) &&& 1))) = r6
        refine q_RT_let ?_
        show q_RT _ _ _ (192, [(2, .int ((s.2.1 23 5) &&& 1)), (0, .ref 87), (1, .int a1)], [.int r6.2, .ref 87], (q_kP r6.1 c n)) _ _
        refine q_RT_seg (g2 := (195, [(2, .int ((s.2.1 23 5) &&& 1)), (0, .ref 87), (1, .int a1)], [], (q_kP (q_sI r6.1 23 0 r6.2) c n))) 1 (fun _ _ => rfl) ?_
        exact q_RT_ret rfl rfl rfl
      | false =>
        refine q_RT_cF ?_
        refine q_RT_rsT (g2 := (171, [(2, .int ((s.2.1 23 5) &&& 1)), (0, .ref 87), (1, .int a1)], [.int 1, .ref 87], (q_kP s c n))) rfl rfl (q_d_neF h4) ?_
        refine q_RT_seg (g2 := (172, [(2, .int ((s.2.1 23 5) &&& 1)), (0, .ref 87), (1, .int a1)], [.int 0, .int 1, .ref 87], (q_kP s c n))) 1 (fun _ _ => rfl) ?_
        refine q_RT_call (v := none) (h2 := (q_kP (dz_N149_87_f s 1) c n)) rfl rfl ((dzt_P149_87_f s c n 1).le (Nat.le_of_ble_eq_true rfl)) ?_
        generalize dz_N149_87_f s 1 = r7
        refine q_RT_let ?_
        show q_RT _ _ _ (175, [(2, .int ((s.2.1 23 5) &&& 1)), (0, .ref 87), (1, .int a1)], [], (q_kP r7 c n)) _ _
        refine q_RT_seg (g2 := (181, [(2, .int ((s.2.1 23 5) &&& 1)), (0, .ref 87), (1, .int a1)], [.int (r7.2.1 23 0), .ref 87, .ref 87], (q_kP r7 c n))) 4 (fun _ _ => rfl) ?_
        refine q_RT_seg (g2 := (189, [(2, .int ((s.2.1 23 5) &&& 1)), (0, .ref 87), (1, .int a1)], [.int (((r7.2.1 23 0) / 2) + (128 * ((s.2.1 23 5) &&& 1))), .ref 87, .ref 87], (q_kP r7 c n))) 6 (fun _ _ => rfl) ?_
        refine q_RT_call (v := (some (.int (dz_N150_87 r7 (((r7.2.1 23 0) / 2) + (128 * ((s.2.1 23 5) &&& 1)))).2))) (h2 := (q_kP (dz_N150_87 r7 (((r7.2.1 23 0) / 2) + (128 * ((s.2.1 23 5) &&& 1)))).1 c n)) rfl rfl ((dzt_P150_87 r7 c n (((r7.2.1 23 0) / 2) + (128 * ((s.2.1 23 5) &&& 1)))).le (Nat.le_of_ble_eq_true rfl)) ?_
        generalize dz_N150_87 r7 (((r7.2.1 23 0) / 2) + (128 * ((s.2.1 23 5) &&& 1))) = r8
        refine q_RT_let ?_
        show q_RT _ _ _ (192, [(2, .int ((s.2.1 23 5) &&& 1)), (0, .ref 87), (1, .int a1)], [.int r8.2, .ref 87], (q_kP r8.1 c n)) _ _
        refine q_RT_seg (g2 := (195, [(2, .int ((s.2.1 23 5) &&& 1)), (0, .ref 87), (1, .int a1)], [], (q_kP (q_sI r8.1 23 0 r8.2) c n))) 1 (fun _ _ => rfl) ?_
        exact q_RT_ret rfl rfl rfl
    | false =>
      refine q_RT_cF ?_
      cases h5 : decide (a1 = 150) with
      | true =>
        refine q_RT_cT ?_
        refine q_RT_st1 (g2 := (36, [(2, .int ((s.2.1 23 5) &&& 1)), (0, .ref 87), (1, .int a1)], [], (q_kP s c n))) rfl (by rw [of_decide_eq_true h5]; rfl) ?_
        refine q_RT_seg (g2 := (42, [(2, .int ((s.2.1 23 5) &&& 1)), (0, .ref 87), (1, .int a1)], [.int (s.2.1 23 0), .int 1, .ref 87], (q_kP s c n))) 4 (fun _ _ => rfl) ?_
        refine q_RT_seg (g2 := (44, [(2, .int ((s.2.1 23 5) &&& 1)), (0, .ref 87), (1, .int a1)], [.int 127, .int (s.2.1 23 0), .int 1, .ref 87], (q_kP s c n))) 1 (fun _ _ => rfl) ?_
        cases h6 : decide (127 < s.2.1 23 0) with
        | true =>
          refine q_RT_cT ?_
          refine q_RT_rsF (g2 := (47, [(2, .int ((s.2.1 23 5) &&& 1)), (0, .ref 87), (1, .int a1)], [.int 1, .ref 87], (q_kP s c n))) rfl rfl (q_d_geT h6) ?_
          refine q_RT_seg (g2 := (52, [(2, .int ((s.2.1 23 5) &&& 1)), (0, .ref 87), (1, .int a1)], [.int 1, .int 1, .ref 87], (q_kP s c n))) 2 (fun _ _ => rfl) ?_
          refine q_RT_call (v := none) (h2 := (q_kP (dz_N149_87_t s 1) c n)) rfl rfl ((dzt_P149_87_t s c n 1).le (Nat.le_of_ble_eq_true rfl)) ?_
          generalize dz_N149_87_t s 1 = r9
          refine q_RT_let ?_
          show q_RT _ _ _ (55, [(2, .int ((s.2.1 23 5) &&& 1)), (0, .ref 87), (1, .int a1)], [], (q_kP r9 c n)) _ _
          refine q_RT_seg (g2 := (62, [(2, .int ((s.2.1 23 5) &&& 1)), (0, .ref 87), (1, .int a1)], [.int (r9.2.1 23 0), .int 2, .ref 87, .ref 87], (q_kP r9 c n))) 5 (fun _ _ => rfl) ?_
          refine q_RT_seg (g2 := (67, [(2, .int ((s.2.1 23 5) &&& 1)), (0, .ref 87), (1, .int a1)], [.int ((2 * (r9.2.1 23 0)) &&& 255), .ref 87, .ref 87], (q_kP r9 c n))) 3 (fun _ _ => rfl) ?_
          refine q_RT_call (v := (some (.int (dz_N150_87 r9 ((2 * (r9.2.1 23 0)) &&& 255)).2))) (h2 := (q_kP (dz_N150_87 r9 ((2 * (r9.2.1 23 0)) &&& 255)).1 c n)) rfl rfl ((dzt_P150_87 r9 c n ((2 * (r9.2.1 23 0)) &&& 255)).le (Nat.le_of_ble_eq_true rfl)) ?_
          generalize dz_N150_87 r9 ((2 * (r9.2.1 23 0)) &&& 255) = r10
          refine q_RT_let ?_
          show q_RT _ _ _ (70, [(2, .int ((s.2.1 23 5) &&& 1)), (0, .ref 87), (1, .int a1)], [.int r10.2, .ref 87], (q_kP r10.1 c n)) _ _
          refine q_RT_seg (g2 := (195, [(2, .int ((s.2.1 23 5) &&& 1)), (0, .ref 87), (1, .int a1)], [], (q_kP (q_sI r10.1 23 0 r10.2) c n))) 2 (fun _ _ => rfl) ?_
          exact q_RT_ret rfl rfl rfl
        | false =>
          refine q_RT_cF ?_
          refine q_RT_rsT (g2 := (51, [(2, .int ((s.2.1 23 5) &&& 1)), (0, .ref 87), (1, .int a1)], [.int 1, .ref 87], (q_kP s c n))) rfl rfl (q_d_geF h6) ?_
          refine q_RT_seg (g2 := (52, [(2, .int ((s.2.1 23 5) &&& 1)), (0, .ref 87), (1, .int a1)], [.int 0, .int 1, .ref 87], (q_kP s c n))) 1 (fun _ _ => rfl) ?_
          refine q_RT_call (v := none) (h2 := (q_kP (dz_N149_87_f s 1) c n)) rfl rfl ((dzt_P149_87_f s c n 1).le (Nat.le_of_ble_eq_true rfl)) ?_
          generalize dz_N149_87_f s 1 = r11
          refine q_RT_let ?_
          show q_RT _ _ _ (55, [(2, .int ((s.2.1 23 5) &&& 1)), (0, .ref 87), (1, .int a1)], [], (q_kP r11 c n)) _ _
          refine q_RT_seg (g2 := (62, [(2, .int ((s.2.1 23 5) &&& 1)), (0, .ref 87), (1, .int a1)], [.int (r11.2.1 23 0), .int 2, .ref 87, .ref 87], (q_kP r11 c n))) 5 (fun _ _ => rfl) ?_
          refine q_RT_seg (g2 := (67, [(2, .int ((s.2.1 23 5) &&& 1)), (0, .ref 87), (1, .int a1)], [.int ((2 * (r11.2.1 23 0)) &&& 255), .ref 87, .ref 87], (q_kP r11 c n))) 3 (fun _ _ => rfl) ?_
          refine q_RT_call (v := (some (.int (dz_N150_87 r11 ((2 * (r11.2.1 23 0)) &&& 255)).2))) (h2 := (q_kP (dz_N150_87 r11 ((2 * (r11.2.1 23 0)) &&& 255)).1 c n)) rfl rfl ((dzt_P150_87 r11 c n ((2 * (r11.2.1 23 0)) &&& 255)).le (Nat.le_of_ble_eq_true rfl)) ?_
          generalize dz_N150_87 r11 ((2 * (r11.2.1 23 0)) &&& 255) = r12
          refine q_RT_let ?_
          show q_RT _ _ _ (70, [(2, .int ((s.2.1 23 5) &&& 1)), (0, .ref 87), (1, .int a1)], [.int r12.2, .ref 87], (q_kP r12.1 c n)) _ _
          refine q_RT_seg (g2 := (195, [(2, .int ((s.2.1 23 5) &&& 1)), (0, .ref 87), (1, .int a1)], [], (q_kP (q_sI r12.1 23 0 r12.2) c n))) 2 (fun _ _ => rfl) ?_
          exact q_RT_ret rfl rfl rfl
      | false =>
        refine q_RT_cF ?_
        cases h7 : decide (a1 = 151) with
        | true =>
          refine q_RT_cT ?_
          refine q_RT_st1 (g2 := (76, [(2, .int ((s.2.1 23 5) &&& 1)), (0, .ref 87), (1, .int a1)], [], (q_kP s c n))) rfl (by rw [of_decide_eq_true h7]; rfl) ?_
          refine q_RT_seg (g2 := (82, [(2, .int ((s.2.1 23 5) &&& 1)), (0, .ref 87), (1, .int a1)], [.int (s.2.1 23 0), .int 1, .ref 87], (q_kP s c n))) 4 (fun _ _ => rfl) ?_
          refine q_RT_seg (g2 := (85, [(2, .int ((s.2.1 23 5) &&& 1)), (0, .ref 87), (1, .int a1)], [.int 1, .int ((s.2.1 23 0) - (s.2.1 23 0) / 2 * 2), .int 1, .ref 87], (q_kP s c n))) 3 (fun _ _ => rfl) ?_
          cases h8 : decide ((s.2.1 23 0) - (s.2.1 23 0) / 2 * 2 = 1) with
          | true =>
            refine q_RT_cT ?_
            refine q_RT_rsF (g2 := (88, [(2, .int ((s.2.1 23 5) &&& 1)), (0, .ref 87), (1, .int a1)], [.int 1, .ref 87], (q_kP s c n))) rfl rfl (q_d_neT h8) ?_
            refine q_RT_seg (g2 := (93, [(2, .int ((s.2.1 23 5) &&& 1)), (0, .ref 87), (1, .int a1)], [.int 1, .int 1, .ref 87], (q_kP s c n))) 2 (fun _ _ => rfl) ?_
            refine q_RT_call (v := none) (h2 := (q_kP (dz_N149_87_t s 1) c n)) rfl rfl ((dzt_P149_87_t s c n 1).le (Nat.le_of_ble_eq_true rfl)) ?_
            generalize dz_N149_87_t s 1 = r13
            refine q_RT_let ?_
            show q_RT _ _ _ (96, [(2, .int ((s.2.1 23 5) &&& 1)), (0, .ref 87), (1, .int a1)], [], (q_kP r13 c n)) _ _
            refine q_RT_seg (g2 := (102, [(2, .int ((s.2.1 23 5) &&& 1)), (0, .ref 87), (1, .int a1)], [.int (r13.2.1 23 0), .ref 87, .ref 87], (q_kP r13 c n))) 4 (fun _ _ => rfl) ?_
            refine q_RT_seg (g2 := (104, [(2, .int ((s.2.1 23 5) &&& 1)), (0, .ref 87), (1, .int a1)], [.int ((r13.2.1 23 0) / 2), .ref 87, .ref 87], (q_kP r13 c n))) 2 (fun _ _ => rfl) ?_
            refine q_RT_call (v := (some (.int (dz_N150_87 r13 ((r13.2.1 23 0) / 2)).2))) (h2 := (q_kP (dz_N150_87 r13 ((r13.2.1 23 0) / 2)).1 c n)) rfl rfl ((dzt_P150_87 r13 c n ((r13.2.1 23 0) / 2)).le (Nat.le_of_ble_eq_true rfl)) ?_
            generalize dz_N150_87 r13 ((r13.2.1 23 0) / 2) = r14
            refine q_RT_let ?_
            show q_RT _ _ _ (107, [(2, .int ((s.2.1 23 5) &&& 1)), (0, .ref 87), (1, .int a1)], [.int r14.2, .ref 87], (q_kP r14.1 c n)) _ _
            refine q_RT_seg (g2 := (195, [(2, .int ((s.2.1 23 5) &&& 1)), (0, .ref 87), (1, .int a1)], [], (q_kP (q_sI r14.1 23 0 r14.2) c n))) 2 (fun _ _ => rfl) ?_
            exact q_RT_ret rfl rfl rfl
          | false =>
            refine q_RT_cF ?_
            refine q_RT_rsT (g2 := (92, [(2, .int ((s.2.1 23 5) &&& 1)), (0, .ref 87), (1, .int a1)], [.int 1, .ref 87], (q_kP s c n))) rfl rfl (q_d_neF h8) ?_
            refine q_RT_seg (g2 := (93, [(2, .int ((s.2.1 23 5) &&& 1)), (0, .ref 87), (1, .int a1)], [.int 0, .int 1, .ref 87], (q_kP s c n))) 1 (fun _ _ => rfl) ?_
            refine q_RT_call (v := none) (h2 := (q_kP (dz_N149_87_f s 1) c n)) rfl rfl ((dzt_P149_87_f s c n 1).le (Nat.le_of_ble_eq_true rfl)) ?_
            generalize dz_N149_87_f s 1 = r15
            refine q_RT_let ?_
            show q_RT _ _ _ (96, [(2, .int ((s.2.1 23 5) &&& 1)), (0, .ref 87), (1, .int a1)], [], (q_kP r15 c n)) _ _
            refine q_RT_seg (g2 := (102, [(2, .int ((s.2.1 23 5) &&& 1)), (0, .ref 87), (1, .int a1)], [.int (r15.2.1 23 0), .ref 87, .ref 87], (q_kP r15 c n))) 4 (fun _ _ => rfl) ?_
            refine q_RT_seg (g2 := (104, [(2, .int ((s.2.1 23 5) &&& 1)), (0, .ref 87), (1, .int a1)], [.int ((r15.2.1 23 0) / 2), .ref 87, .ref 87], (q_kP r15 c n))) 2 (fun _ _ => rfl) ?_
            refine q_RT_call (v := (some (.int (dz_N150_87 r15 ((r15.2.1 23 0) / 2)).2))) (h2 := (q_kP (dz_N150_87 r15 ((r15.2.1 23 0) / 2)).1 c n)) rfl rfl ((dzt_P150_87 r15 c n ((r15.2.1 23 0) / 2)).le (Nat.le_of_ble_eq_true rfl)) ?_
            generalize dz_N150_87 r15 ((r15.2.1 23 0) / 2) = r16
            refine q_RT_let ?_
            show q_RT _ _ _ (107, [(2, .int ((s.2.1 23 5) &&& 1)), (0, .ref 87), (1, .int a1)], [.int r16.2, .ref 87], (q_kP r16.1 c n)) _ _
            refine q_RT_seg (g2 := (195, [(2, .int ((s.2.1 23 5) &&& 1)), (0, .ref 87), (1, .int a1)], [], (q_kP (q_sI r16.1 23 0 r16.2) c n))) 2 (fun _ _ => rfl) ?_
            exact q_RT_ret rfl rfl rfl
        | false =>
          refine q_RT_cF ?_
          have h9 : a1 = 152 := Int32.toInt_inj.mp (by have e0 := q_neI h5 (n := 150); have e1 := q_neI h7 (n := 151); have l1 : 150 ≤ (a1).toInt := q_lo1 h1; have l2 : (a1).toInt ≤ 152 := q_hi2 h3; show (a1).toInt = 152; omega)
          refine q_RT_st1 (g2 := (113, [(2, .int ((s.2.1 23 5) &&& 1)), (0, .ref 87), (1, .int a1)], [], (q_kP s c n))) rfl (by rw [h9]; rfl) ?_
          refine q_RT_seg (g2 := (119, [(2, .int ((s.2.1 23 5) &&& 1)), (0, .ref 87), (1, .int a1)], [.int (s.2.1 23 0), .int 1, .ref 87], (q_kP s c n))) 4 (fun _ _ => rfl) ?_
          refine q_RT_seg (g2 := (121, [(2, .int ((s.2.1 23 5) &&& 1)), (0, .ref 87), (1, .int a1)], [.int 127, .int (s.2.1 23 0), .int 1, .ref 87], (q_kP s c n))) 1 (fun _ _ => rfl) ?_
          cases h10 : decide (127 < s.2.1 23 0) with
          | true =>
            refine q_RT_cT ?_
            refine q_RT_rsF (g2 := (124, [(2, .int ((s.2.1 23 5) &&& 1)), (0, .ref 87), (1, .int a1)], [.int 1, .ref 87], (q_kP s c n))) rfl rfl (q_d_geT h10) ?_
            refine q_RT_seg (g2 := (129, [(2, .int ((s.2.1 23 5) &&& 1)), (0, .ref 87), (1, .int a1)], [.int 1, .int 1, .ref 87], (q_kP s c n))) 2 (fun _ _ => rfl) ?_
            refine q_RT_call (v := none) (h2 := (q_kP (dz_N149_87_t s 1) c n)) rfl rfl ((dzt_P149_87_t s c n 1).le (Nat.le_of_ble_eq_true rfl)) ?_
            generalize dz_N149_87_t s 1 = r17
            refine q_RT_let ?_
            show q_RT _ _ _ (132, [(2, .int ((s.2.1 23 5) &&& 1)), (0, .ref 87), (1, .int a1)], [], (q_kP r17 c n)) _ _
            refine q_RT_seg (g2 := (139, [(2, .int ((s.2.1 23 5) &&& 1)), (0, .ref 87), (1, .int a1)], [.int (r17.2.1 23 0), .int 2, .ref 87, .ref 87], (q_kP r17 c n))) 5 (fun _ _ => rfl) ?_
            refine q_RT_seg (g2 := (146, [(2, .int ((s.2.1 23 5) &&& 1)), (0, .ref 87), (1, .int a1)], [.int (((2 * (r17.2.1 23 0)) + ((s.2.1 23 5) &&& 1)) &&& 255), .ref 87, .ref 87], (q_kP r17 c n))) 5 (fun _ _ => rfl) ?_
            refine q_RT_call (v := (some (.int (dz_N150_87 r17 (((2 * (r17.2.1 23 0)) + ((s.2.1 23 5) &&& 1)) &&& 255)).2))) (h2 := (q_kP (dz_N150_87 r17 (((2 * (r17.2.1 23 0)) + ((s.2.1 23 5) &&& 1)) &&& 255)).1 c n)) rfl rfl ((dzt_P150_87 r17 c n (((2 * (r17.2.1 23 0)) + ((s.2.1 23 5) &&& 1)) &&& 255)).le (Nat.le_of_ble_eq_true rfl)) ?_
            generalize dz_N150_87 r17 (((2 * (r17.2.1 23 0)) + ((s.2.1 23 5) &&& 1)) &&& 255) = r18
            refine q_RT_let ?_
            show q_RT _ _ _ (149, [(2, .int ((s.2.1 23 5) &&& 1)), (0, .ref 87), (1, .int a1)], [.int r18.2, .ref 87], (q_kP r18.1 c n)) _ _
            refine q_RT_seg (g2 := (195, [(2, .int ((s.2.1 23 5) &&& 1)), (0, .ref 87), (1, .int a1)], [], (q_kP (q_sI r18.1 23 0 r18.2) c n))) 2 (fun _ _ => rfl) ?_
            exact q_RT_ret rfl rfl rfl
          | false =>
            refine q_RT_cF ?_
            refine q_RT_rsT (g2 := (128, [(2, .int ((s.2.1 23 5) &&& 1)), (0, .ref 87), (1, .int a1)], [.int 1, .ref 87], (q_kP s c n))) rfl rfl (q_d_geF h10) ?_
            refine q_RT_seg (g2 := (129, [(2, .int ((s.2.1 23 5) &&& 1)), (0, .ref 87), (1, .int a1)], [.int 0, .int 1, .ref 87], (q_kP s c n))) 1 (fun _ _ => rfl) ?_
            refine q_RT_call (v := none) (h2 := (q_kP (dz_N149_87_f s 1) c n)) rfl rfl ((dzt_P149_87_f s c n 1).le (Nat.le_of_ble_eq_true rfl)) ?_
            generalize dz_N149_87_f s 1 = r19
            refine q_RT_let ?_
            show q_RT _ _ _ (132, [(2, .int ((s.2.1 23 5) &&& 1)), (0, .ref 87), (1, .int a1)], [], (q_kP r19 c n)) _ _
            refine q_RT_seg (g2 := (139, [(2, .int ((s.2.1 23 5) &&& 1)), (0, .ref 87), (1, .int a1)], [.int (r19.2.1 23 0), .int 2, .ref 87, .ref 87], (q_kP r19 c n))) 5 (fun _ _ => rfl) ?_
            refine q_RT_seg (g2 := (146, [(2, .int ((s.2.1 23 5) &&& 1)), (0, .ref 87), (1, .int a1)], [.int (((2 * (r19.2.1 23 0)) + ((s.2.1 23 5) &&& 1)) &&& 255), .ref 87, .ref 87], (q_kP r19 c n))) 5 (fun _ _ => rfl) ?_
            refine q_RT_call (v := (some (.int (dz_N150_87 r19 (((2 * (r19.2.1 23 0)) + ((s.2.1 23 5) &&& 1)) &&& 255)).2))) (h2 := (q_kP (dz_N150_87 r19 (((2 * (r19.2.1 23 0)) + ((s.2.1 23 5) &&& 1)) &&& 255)).1 c n)) rfl rfl ((dzt_P150_87 r19 c n (((2 * (r19.2.1 23 0)) + ((s.2.1 23 5) &&& 1)) &&& 255)).le (Nat.le_of_ble_eq_true rfl)) ?_
            generalize dz_N150_87 r19 (((2 * (r19.2.1 23 0)) + ((s.2.1 23 5) &&& 1)) &&& 255) = r20
            refine q_RT_let ?_
            show q_RT _ _ _ (149, [(2, .int ((s.2.1 23 5) &&& 1)), (0, .ref 87), (1, .int a1)], [.int r20.2, .ref 87], (q_kP r20.1 c n)) _ _
            refine q_RT_seg (g2 := (195, [(2, .int ((s.2.1 23 5) &&& 1)), (0, .ref 87), (1, .int a1)], [], (q_kP (q_sI r20.1 23 0 r20.2) c n))) 2 (fun _ _ => rfl) ?_
            exact q_RT_ret rfl rfl rfl
set_option maxHeartbeats 4000000 in
theorem dzt_P163_87 (s : q_S) (c n : Nat) (a1 : Int32) : q_Ca q_TB0 2 162 [.ref 87, .int a1] (q_kP s c n) ((q_oSP c n) (dz_N163_87 s a1)) := by
  refine q_CaT_of (φ := (q_oSP c n)) (Nat.le_of_ble_eq_true rfl) ?_
  unfold dz_N163_87
  refine q_RT_seg (g2 := (1, [(0, .ref 87), (1, .int a1)], [.int a1], (q_kP s c n))) 1 (fun _ _ => rfl) ?_
  cases h1 : decide (a1 < 142) with
  | true =>
    refine q_RT_cT ?_
    refine q_RT_st1 (g2 := (96, [(0, .ref 87), (1, .int a1)], [], (q_kP s c n))) rfl (if_pos (Or.inl (Int32.lt_iff_toInt_lt.mp (of_decide_eq_true h1)))) ?_
    refine q_RT_seg (g2 := (100, [(0, .ref 87), (1, .int a1)], [.int 0, .int 64, .ref 87], (q_kP s c n))) 3 (fun _ _ => rfl) ?_
    refine q_RT_call (v := none) (h2 := (q_kP (dz_N149_87_f s 64) c n)) rfl rfl ((dzt_P149_87_f s c n 64).le (Nat.le_of_ble_eq_true rfl)) ?_
    generalize dz_N149_87_f s 64 = r1
    refine q_RT_let ?_
    show q_RT _ _ _ (103, [(0, .ref 87), (1, .int a1)], [], (q_kP r1 c n)) _ _
    exact q_RT_ret rfl rfl rfl
  | false =>
    refine q_RT_cF ?_
    cases h2 : decide (147 < a1) with
    | true =>
      refine q_RT_cT ?_
      refine q_RT_st1 (g2 := (96, [(0, .ref 87), (1, .int a1)], [], (q_kP s c n))) rfl (if_pos (Or.inr (Int32.lt_iff_toInt_lt.mp (of_decide_eq_true h2)))) ?_
      refine q_RT_seg (g2 := (100, [(0, .ref 87), (1, .int a1)], [.int 0, .int 64, .ref 87], (q_kP s c n))) 3 (fun _ _ => rfl) ?_
      refine q_RT_call (v := none) (h2 := (q_kP (dz_N149_87_f s 64) c n)) rfl rfl ((dzt_P149_87_f s c n 64).le (Nat.le_of_ble_eq_true rfl)) ?_
      generalize dz_N149_87_f s 64 = r2
      refine q_RT_let ?_
      show q_RT _ _ _ (103, [(0, .ref 87), (1, .int a1)], [], (q_kP r2 c n)) _ _
      exact q_RT_ret rfl rfl rfl
    | false =>
      refine q_RT_cF ?_
      cases h3 : decide (a1 = 142) with
      | true =>
        refine q_RT_cT ?_
        refine q_RT_st1 (g2 := (40, [(0, .ref 87), (1, .int a1)], [], (q_kP s c n))) rfl (by rw [of_decide_eq_true h3]; rfl) ?_
        refine q_RT_seg (g2 := (43, [(0, .ref 87), (1, .int a1)], [.int 1, .int 1, .ref 87], (q_kP s c n))) 3 (fun _ _ => rfl) ?_
        refine q_RT_call (v := none) (h2 := (q_kP (dz_N149_87_t s 1) c n)) rfl rfl ((dzt_P149_87_t s c n 1).le (Nat.le_of_ble_eq_true rfl)) ?_
        generalize dz_N149_87_t s 1 = r3
        refine q_RT_let ?_
        show q_RT _ _ _ (46, [(0, .ref 87), (1, .int a1)], [], (q_kP r3 c n)) _ _
        refine q_RT_seg (g2 := (103, [(0, .ref 87), (1, .int a1)], [], (q_kP r3 c n))) 1 (fun _ _ => rfl) ?_
        exact q_RT_ret rfl rfl rfl
      | false =>
        refine q_RT_cF ?_
        cases h4 : decide (a1 = 143) with
        | true =>
          refine q_RT_cT ?_
          refine q_RT_st1 (g2 := (49, [(0, .ref 87), (1, .int a1)], [], (q_kP s c n))) rfl (by rw [of_decide_eq_true h4]; rfl) ?_
          refine q_RT_seg (g2 := (52, [(0, .ref 87), (1, .int a1)], [.int 0, .int 1, .ref 87], (q_kP s c n))) 3 (fun _ _ => rfl) ?_
          refine q_RT_call (v := none) (h2 := (q_kP (dz_N149_87_f s 1) c n)) rfl rfl ((dzt_P149_87_f s c n 1).le (Nat.le_of_ble_eq_true rfl)) ?_
          generalize dz_N149_87_f s 1 = r4
          refine q_RT_let ?_
          show q_RT _ _ _ (55, [(0, .ref 87), (1, .int a1)], [], (q_kP r4 c n)) _ _
          refine q_RT_seg (g2 := (103, [(0, .ref 87), (1, .int a1)], [], (q_kP r4 c n))) 1 (fun _ _ => rfl) ?_
          exact q_RT_ret rfl rfl rfl
        | false =>
          refine q_RT_cF ?_
          cases h5 : decide (a1 = 144) with
          | true =>
            refine q_RT_cT ?_
            refine q_RT_st1 (g2 := (58, [(0, .ref 87), (1, .int a1)], [], (q_kP s c n))) rfl (by rw [of_decide_eq_true h5]; rfl) ?_
            refine q_RT_seg (g2 := (62, [(0, .ref 87), (1, .int a1)], [.int 1, .int 8, .ref 87], (q_kP s c n))) 3 (fun _ _ => rfl) ?_
            refine q_RT_call (v := none) (h2 := (q_kP (dz_N149_87_t s 8) c n)) rfl rfl ((dzt_P149_87_t s c n 8).le (Nat.le_of_ble_eq_true rfl)) ?_
            generalize dz_N149_87_t s 8 = r5
            refine q_RT_let ?_
            show q_RT _ _ _ (65, [(0, .ref 87), (1, .int a1)], [], (q_kP r5 c n)) _ _
            refine q_RT_seg (g2 := (103, [(0, .ref 87), (1, .int a1)], [], (q_kP r5 c n))) 1 (fun _ _ => rfl) ?_
            exact q_RT_ret rfl rfl rfl
          | false =>
            refine q_RT_cF ?_
            cases h6 : decide (a1 = 145) with
            | true =>
              refine q_RT_cT ?_
              refine q_RT_st1 (g2 := (68, [(0, .ref 87), (1, .int a1)], [], (q_kP s c n))) rfl (by rw [of_decide_eq_true h6]; rfl) ?_
              refine q_RT_seg (g2 := (72, [(0, .ref 87), (1, .int a1)], [.int 0, .int 8, .ref 87], (q_kP s c n))) 3 (fun _ _ => rfl) ?_
              refine q_RT_call (v := none) (h2 := (q_kP (dz_N149_87_f s 8) c n)) rfl rfl ((dzt_P149_87_f s c n 8).le (Nat.le_of_ble_eq_true rfl)) ?_
              generalize dz_N149_87_f s 8 = r6
              refine q_RT_let ?_
              show q_RT _ _ _ (75, [(0, .ref 87), (1, .int a1)], [], (q_kP r6 c n)) _ _
              refine q_RT_seg (g2 := (103, [(0, .ref 87), (1, .int a1)], [], (q_kP r6 c n))) 1 (fun _ _ => rfl) ?_
              exact q_RT_ret rfl rfl rfl
            | false =>
              refine q_RT_cF ?_
              cases h7 : decide (a1 = 146) with
              | true =>
                refine q_RT_cT ?_
                refine q_RT_st1 (g2 := (78, [(0, .ref 87), (1, .int a1)], [], (q_kP s c n))) rfl (by rw [of_decide_eq_true h7]; rfl) ?_
                refine q_RT_seg (g2 := (81, [(0, .ref 87), (1, .int a1)], [.int 1, .int 4, .ref 87], (q_kP s c n))) 3 (fun _ _ => rfl) ?_
                refine q_RT_call (v := none) (h2 := (q_kP (dz_N149_87_t s 4) c n)) rfl rfl ((dzt_P149_87_t s c n 4).le (Nat.le_of_ble_eq_true rfl)) ?_
                generalize dz_N149_87_t s 4 = r7
                refine q_RT_let ?_
                show q_RT _ _ _ (84, [(0, .ref 87), (1, .int a1)], [], (q_kP r7 c n)) _ _
                refine q_RT_seg (g2 := (103, [(0, .ref 87), (1, .int a1)], [], (q_kP r7 c n))) 1 (fun _ _ => rfl) ?_
                exact q_RT_ret rfl rfl rfl
              | false =>
                refine q_RT_cF ?_
                have h8 : a1 = 147 := Int32.toInt_inj.mp (by have e0 := q_neI h3 (n := 142); have e1 := q_neI h4 (n := 143); have e2 := q_neI h5 (n := 144); have e3 := q_neI h6 (n := 145); have e4 := q_neI h7 (n := 146); have l1 : 142 ≤ (a1).toInt := q_lo1 h1; have l2 : (a1).toInt ≤ 147 := q_hi2 h2; show (a1).toInt = 147; omega)
                refine q_RT_st1 (g2 := (87, [(0, .ref 87), (1, .int a1)], [], (q_kP s c n))) rfl (by rw [h8]; rfl) ?_
                refine q_RT_seg (g2 := (90, [(0, .ref 87), (1, .int a1)], [.int 0, .int 4, .ref 87], (q_kP s c n))) 3 (fun _ _ => rfl) ?_
                refine q_RT_call (v := none) (h2 := (q_kP (dz_N149_87_f s 4) c n)) rfl rfl ((dzt_P149_87_f s c n 4).le (Nat.le_of_ble_eq_true rfl)) ?_
                generalize dz_N149_87_f s 4 = r8
                refine q_RT_let ?_
                show q_RT _ _ _ (93, [(0, .ref 87), (1, .int a1)], [], (q_kP r8 c n)) _ _
                refine q_RT_seg (g2 := (103, [(0, .ref 87), (1, .int a1)], [], (q_kP r8 c n))) 1 (fun _ _ => rfl) ?_
                exact q_RT_ret rfl rfl rfl
set_option maxHeartbeats 4000000 in
theorem dzt_P162_87 (s : q_S) (c n : Nat) (a1 : Int32) : q_Ca q_TB0 2 161 [.ref 87, .int a1] (q_kP s c n) ((q_oSP c n) (dz_N162_87 s a1)) := by
  refine q_CaT_of (φ := (q_oSP c n)) (Nat.le_of_ble_eq_true rfl) ?_
  unfold dz_N162_87
  refine q_RT_seg (g2 := (1, [(0, .ref 87), (1, .int a1)], [.int a1], (q_kP s c n))) 1 (fun _ _ => rfl) ?_
  cases h1 : decide (a1 < 128) with
  | true =>
    refine q_RT_cT ?_
    refine q_RT_st1 (g2 := (211, [(0, .ref 87), (1, .int a1)], [], (q_kP s c n))) rfl (if_pos (Or.inl (Int32.lt_iff_toInt_lt.mp (of_decide_eq_true h1)))) ?_
    refine q_RT_seg (g2 := (216, [(0, .ref 87), (1, .int a1)], [.int (s.2.1 23 1), .ref 87], (q_kP s c n))) 3 (fun _ _ => rfl) ?_
    refine q_RT_seg (g2 := (219, [(0, .ref 87), (1, .int a1)], [], (q_kP (q_sI s 23 3 (s.2.1 23 1)) c n))) 1 (fun _ _ => rfl) ?_
    exact q_RT_ret rfl rfl rfl
  | false =>
    refine q_RT_cF ?_
    cases h2 : decide (136 < a1) with
    | true =>
      refine q_RT_cT ?_
      refine q_RT_st1 (g2 := (211, [(0, .ref 87), (1, .int a1)], [], (q_kP s c n))) rfl (if_pos (Or.inr (Int32.lt_iff_toInt_lt.mp (of_decide_eq_true h2)))) ?_
      refine q_RT_seg (g2 := (216, [(0, .ref 87), (1, .int a1)], [.int (s.2.1 23 1), .ref 87], (q_kP s c n))) 3 (fun _ _ => rfl) ?_
      refine q_RT_seg (g2 := (219, [(0, .ref 87), (1, .int a1)], [], (q_kP (q_sI s 23 3 (s.2.1 23 1)) c n))) 1 (fun _ _ => rfl) ?_
      exact q_RT_ret rfl rfl rfl
    | false =>
      refine q_RT_cF ?_
      cases h3 : decide (a1 = 128) with
      | true =>
        refine q_RT_cT ?_
        refine q_RT_st1 (g2 := (52, [(0, .ref 87), (1, .int a1)], [], (q_kP s c n))) rfl (by rw [of_decide_eq_true h3]; rfl) ?_
        refine q_RT_seg (g2 := (58, [(0, .ref 87), (1, .int a1)], [.int (s.2.1 23 1), .ref 87, .ref 87], (q_kP s c n))) 4 (fun _ _ => rfl) ?_
        refine q_RT_seg (g2 := (64, [(0, .ref 87), (1, .int a1)], [.int (((s.2.1 23 1) + 1) &&& 255), .ref 87, .ref 87], (q_kP s c n))) 4 (fun _ _ => rfl) ?_
        refine q_RT_call (v := (some (.int (dz_N150_87 s (((s.2.1 23 1) + 1) &&& 255)).2))) (h2 := (q_kP (dz_N150_87 s (((s.2.1 23 1) + 1) &&& 255)).1 c n)) rfl rfl ((dzt_P150_87 s c n (((s.2.1 23 1) + 1) &&& 255)).le (Nat.le_of_ble_eq_true rfl)) ?_
        generalize dz_N150_87 s (((s.2.1 23 1) + 1) &&& 255) = r1
        refine q_RT_let ?_
        show q_RT _ _ _ (67, [(0, .ref 87), (1, .int a1)], [.int r1.2, .ref 87], (q_kP r1.1 c n)) _ _
        refine q_RT_seg (g2 := (219, [(0, .ref 87), (1, .int a1)], [], (q_kP (q_sI r1.1 23 1 r1.2) c n))) 2 (fun _ _ => rfl) ?_
        exact q_RT_ret rfl rfl rfl
      | false =>
        refine q_RT_cF ?_
        cases h4 : decide (a1 = 129) with
        | true =>
          refine q_RT_cT ?_
          refine q_RT_st1 (g2 := (73, [(0, .ref 87), (1, .int a1)], [], (q_kP s c n))) rfl (by rw [of_decide_eq_true h4]; rfl) ?_
          refine q_RT_seg (g2 := (79, [(0, .ref 87), (1, .int a1)], [.int (s.2.1 23 1), .ref 87, .ref 87], (q_kP s c n))) 4 (fun _ _ => rfl) ?_
          refine q_RT_seg (g2 := (85, [(0, .ref 87), (1, .int a1)], [.int (((s.2.1 23 1) - 1) &&& 255), .ref 87, .ref 87], (q_kP s c n))) 4 (fun _ _ => rfl) ?_
          refine q_RT_call (v := (some (.int (dz_N150_87 s (((s.2.1 23 1) - 1) &&& 255)).2))) (h2 := (q_kP (dz_N150_87 s (((s.2.1 23 1) - 1) &&& 255)).1 c n)) rfl rfl ((dzt_P150_87 s c n (((s.2.1 23 1) - 1) &&& 255)).le (Nat.le_of_ble_eq_true rfl)) ?_
          generalize dz_N150_87 s (((s.2.1 23 1) - 1) &&& 255) = r2
          refine q_RT_let ?_
          show q_RT _ _ _ (88, [(0, .ref 87), (1, .int a1)], [.int r2.2, .ref 87], (q_kP r2.1 c n)) _ _
          refine q_RT_seg (g2 := (219, [(0, .ref 87), (1, .int a1)], [], (q_kP (q_sI r2.1 23 1 r2.2) c n))) 2 (fun _ _ => rfl) ?_
          exact q_RT_ret rfl rfl rfl
        | false =>
          refine q_RT_cF ?_
          cases h5 : decide (a1 = 130) with
          | true =>
            refine q_RT_cT ?_
            refine q_RT_st1 (g2 := (94, [(0, .ref 87), (1, .int a1)], [], (q_kP s c n))) rfl (by rw [of_decide_eq_true h5]; rfl) ?_
            refine q_RT_seg (g2 := (100, [(0, .ref 87), (1, .int a1)], [.int (s.2.1 23 2), .ref 87, .ref 87], (q_kP s c n))) 4 (fun _ _ => rfl) ?_
            refine q_RT_seg (g2 := (106, [(0, .ref 87), (1, .int a1)], [.int (((s.2.1 23 2) + 1) &&& 255), .ref 87, .ref 87], (q_kP s c n))) 4 (fun _ _ => rfl) ?_
            refine q_RT_call (v := (some (.int (dz_N150_87 s (((s.2.1 23 2) + 1) &&& 255)).2))) (h2 := (q_kP (dz_N150_87 s (((s.2.1 23 2) + 1) &&& 255)).1 c n)) rfl rfl ((dzt_P150_87 s c n (((s.2.1 23 2) + 1) &&& 255)).le (Nat.le_of_ble_eq_true rfl)) ?_
            generalize dz_N150_87 s (((s.2.1 23 2) + 1) &&& 255) = r3
            refine q_RT_let ?_
            show q_RT _ _ _ (109, [(0, .ref 87), (1, .int a1)], [.int r3.2, .ref 87], (q_kP r3.1 c n)) _ _
            refine q_RT_seg (g2 := (219, [(0, .ref 87), (1, .int a1)], [], (q_kP (q_sI r3.1 23 2 r3.2) c n))) 2 (fun _ _ => rfl) ?_
            exact q_RT_ret rfl rfl rfl
          | false =>
            refine q_RT_cF ?_
            cases h6 : decide (a1 = 131) with
            | true =>
              refine q_RT_cT ?_
              refine q_RT_st1 (g2 := (115, [(0, .ref 87), (1, .int a1)], [], (q_kP s c n))) rfl (by rw [of_decide_eq_true h6]; rfl) ?_
              refine q_RT_seg (g2 := (121, [(0, .ref 87), (1, .int a1)], [.int (s.2.1 23 2), .ref 87, .ref 87], (q_kP s c n))) 4 (fun _ _ => rfl) ?_
              refine q_RT_seg (g2 := (127, [(0, .ref 87), (1, .int a1)], [.int (((s.2.1 23 2) - 1) &&& 255), .ref 87, .ref 87], (q_kP s c n))) 4 (fun _ _ => rfl) ?_
              refine q_RT_call (v := (some (.int (dz_N150_87 s (((s.2.1 23 2) - 1) &&& 255)).2))) (h2 := (q_kP (dz_N150_87 s (((s.2.1 23 2) - 1) &&& 255)).1 c n)) rfl rfl ((dzt_P150_87 s c n (((s.2.1 23 2) - 1) &&& 255)).le (Nat.le_of_ble_eq_true rfl)) ?_
              generalize dz_N150_87 s (((s.2.1 23 2) - 1) &&& 255) = r4
              refine q_RT_let ?_
              show q_RT _ _ _ (130, [(0, .ref 87), (1, .int a1)], [.int r4.2, .ref 87], (q_kP r4.1 c n)) _ _
              refine q_RT_seg (g2 := (219, [(0, .ref 87), (1, .int a1)], [], (q_kP (q_sI r4.1 23 2 r4.2) c n))) 2 (fun _ _ => rfl) ?_
              exact q_RT_ret rfl rfl rfl
            | false =>
              refine q_RT_cF ?_
              cases h7 : decide (a1 = 132) with
              | true =>
                refine q_RT_cT ?_
                refine q_RT_st1 (g2 := (136, [(0, .ref 87), (1, .int a1)], [], (q_kP s c n))) rfl (by rw [of_decide_eq_true h7]; rfl) ?_
                refine q_RT_seg (g2 := (142, [(0, .ref 87), (1, .int a1)], [.int (s.2.1 23 0), .ref 87, .ref 87], (q_kP s c n))) 4 (fun _ _ => rfl) ?_
                refine q_RT_call (v := (some (.int (dz_N150_87 s (s.2.1 23 0)).2))) (h2 := (q_kP (dz_N150_87 s (s.2.1 23 0)).1 c n)) rfl rfl ((dzt_P150_87 s c n (s.2.1 23 0)).le (Nat.le_of_ble_eq_true rfl)) ?_
                generalize dz_N150_87 s (s.2.1 23 0) = r5
                refine q_RT_let ?_
                show q_RT _ _ _ (145, [(0, .ref 87), (1, .int a1)], [.int r5.2, .ref 87], (q_kP r5.1 c n)) _ _
                refine q_RT_seg (g2 := (219, [(0, .ref 87), (1, .int a1)], [], (q_kP (q_sI r5.1 23 1 r5.2) c n))) 2 (fun _ _ => rfl) ?_
                exact q_RT_ret rfl rfl rfl
              | false =>
                refine q_RT_cF ?_
                cases h8 : decide (a1 = 133) with
                | true =>
                  refine q_RT_cT ?_
                  refine q_RT_st1 (g2 := (151, [(0, .ref 87), (1, .int a1)], [], (q_kP s c n))) rfl (by rw [of_decide_eq_true h8]; rfl) ?_
                  refine q_RT_seg (g2 := (157, [(0, .ref 87), (1, .int a1)], [.int (s.2.1 23 1), .ref 87, .ref 87], (q_kP s c n))) 4 (fun _ _ => rfl) ?_
                  refine q_RT_call (v := (some (.int (dz_N150_87 s (s.2.1 23 1)).2))) (h2 := (q_kP (dz_N150_87 s (s.2.1 23 1)).1 c n)) rfl rfl ((dzt_P150_87 s c n (s.2.1 23 1)).le (Nat.le_of_ble_eq_true rfl)) ?_
                  generalize dz_N150_87 s (s.2.1 23 1) = r6
                  refine q_RT_let ?_
                  show q_RT _ _ _ (160, [(0, .ref 87), (1, .int a1)], [.int r6.2, .ref 87], (q_kP r6.1 c n)) _ _
                  refine q_RT_seg (g2 := (219, [(0, .ref 87), (1, .int a1)], [], (q_kP (q_sI r6.1 23 0 r6.2) c n))) 2 (fun _ _ => rfl) ?_
                  exact q_RT_ret rfl rfl rfl
                | false =>
                  refine q_RT_cF ?_
                  cases h9 : decide (a1 = 134) with
                  | true =>
                    refine q_RT_cT ?_
                    refine q_RT_st1 (g2 := (166, [(0, .ref 87), (1, .int a1)], [], (q_kP s c n))) rfl (by rw [of_decide_eq_true h9]; rfl) ?_
                    refine q_RT_seg (g2 := (172, [(0, .ref 87), (1, .int a1)], [.int (s.2.1 23 0), .ref 87, .ref 87], (q_kP s c n))) 4 (fun _ _ => rfl) ?_
                    refine q_RT_call (v := (some (.int (dz_N150_87 s (s.2.1 23 0)).2))) (h2 := (q_kP (dz_N150_87 s (s.2.1 23 0)).1 c n)) rfl rfl ((dzt_P150_87 s c n (s.2.1 23 0)).le (Nat.le_of_ble_eq_true rfl)) ?_
                    generalize dz_N150_87 s (s.2.1 23 0) = r7
                    refine q_RT_let ?_
                    show q_RT _ _ _ (175, [(0, .ref 87), (1, .int a1)], [.int r7.2, .ref 87], (q_kP r7.1 c n)) _ _
                    refine q_RT_seg (g2 := (219, [(0, .ref 87), (1, .int a1)], [], (q_kP (q_sI r7.1 23 2 r7.2) c n))) 2 (fun _ _ => rfl) ?_
                    exact q_RT_ret rfl rfl rfl
                  | false =>
                    refine q_RT_cF ?_
                    cases h10 : decide (a1 = 135) with
                    | true =>
                      refine q_RT_cT ?_
                      refine q_RT_st1 (g2 := (181, [(0, .ref 87), (1, .int a1)], [], (q_kP s c n))) rfl (by rw [of_decide_eq_true h10]; rfl) ?_
                      refine q_RT_seg (g2 := (187, [(0, .ref 87), (1, .int a1)], [.int (s.2.1 23 2), .ref 87, .ref 87], (q_kP s c n))) 4 (fun _ _ => rfl) ?_
                      refine q_RT_call (v := (some (.int (dz_N150_87 s (s.2.1 23 2)).2))) (h2 := (q_kP (dz_N150_87 s (s.2.1 23 2)).1 c n)) rfl rfl ((dzt_P150_87 s c n (s.2.1 23 2)).le (Nat.le_of_ble_eq_true rfl)) ?_
                      generalize dz_N150_87 s (s.2.1 23 2) = r8
                      refine q_RT_let ?_
                      show q_RT _ _ _ (190, [(0, .ref 87), (1, .int a1)], [.int r8.2, .ref 87], (q_kP r8.1 c n)) _ _
                      refine q_RT_seg (g2 := (219, [(0, .ref 87), (1, .int a1)], [], (q_kP (q_sI r8.1 23 0 r8.2) c n))) 2 (fun _ _ => rfl) ?_
                      exact q_RT_ret rfl rfl rfl
                    | false =>
                      refine q_RT_cF ?_
                      have h11 : a1 = 136 := Int32.toInt_inj.mp (by have e0 := q_neI h3 (n := 128); have e1 := q_neI h4 (n := 129); have e2 := q_neI h5 (n := 130); have e3 := q_neI h6 (n := 131); have e4 := q_neI h7 (n := 132); have e5 := q_neI h8 (n := 133); have e6 := q_neI h9 (n := 134); have e7 := q_neI h10 (n := 135); have l1 : 128 ≤ (a1).toInt := q_lo1 h1; have l2 : (a1).toInt ≤ 136 := q_hi2 h2; show (a1).toInt = 136; omega)
                      refine q_RT_st1 (g2 := (196, [(0, .ref 87), (1, .int a1)], [], (q_kP s c n))) rfl (by rw [h11]; rfl) ?_
                      refine q_RT_seg (g2 := (202, [(0, .ref 87), (1, .int a1)], [.int (s.2.1 23 3), .ref 87, .ref 87], (q_kP s c n))) 4 (fun _ _ => rfl) ?_
                      refine q_RT_call (v := (some (.int (dz_N150_87 s (s.2.1 23 3)).2))) (h2 := (q_kP (dz_N150_87 s (s.2.1 23 3)).1 c n)) rfl rfl ((dzt_P150_87 s c n (s.2.1 23 3)).le (Nat.le_of_ble_eq_true rfl)) ?_
                      generalize dz_N150_87 s (s.2.1 23 3) = r9
                      refine q_RT_let ?_
                      show q_RT _ _ _ (205, [(0, .ref 87), (1, .int a1)], [.int r9.2, .ref 87], (q_kP r9.1 c n)) _ _
                      refine q_RT_seg (g2 := (219, [(0, .ref 87), (1, .int a1)], [], (q_kP (q_sI r9.1 23 1 r9.2) c n))) 2 (fun _ _ => rfl) ?_
                      exact q_RT_ret rfl rfl rfl
set_option maxHeartbeats 4000000 in
theorem dzt_P157_87_65_37 (c n : Nat) (s : q_S) (v2 : Int32) : q_RP q_TB0 3 156 (37, [(0, .ref 87), (1, .ref 65), (2, .int v2)], [], (q_kP s c n)) (q_oSP c n) (dz_N157_87_65_37 s v2) := by
  unfold dz_N157_87_65_37
  refine q_RP_seg (g2 := (41, [(0, .ref 87), (1, .ref 65), (2, .int v2)], [.int 150, .int v2], (q_kP s c n))) 2 (fun _ _ => rfl) ?_
  cases h7 : decide (v2 < 150) with
  | true =>
    refine q_RP_cT ?_
    refine q_RP_rsT (g2 := (52, [(0, .ref 87), (1, .ref 65), (2, .int v2)], [], (q_kP s c n))) rfl rfl h7 ?_
    refine q_RP_seg (g2 := (56, [(0, .ref 87), (1, .ref 65), (2, .int v2)], [.int 138, .int v2], (q_kP s c n))) 2 (fun _ _ => rfl) ?_
    cases h8 : decide (v2 = 138) with
    | true =>
      refine q_RP_cT ?_
      refine q_RP_rsF (g2 := (59, [(0, .ref 87), (1, .ref 65), (2, .int v2)], [], (q_kP s c n))) rfl rfl (q_d_neT h8) ?_
      refine q_RP_seg (g2 := (65, [(0, .ref 87), (1, .ref 65), (2, .int v2)], [.int (s.2.1 23 0), .ref 65, .ref 87], (q_kP s c n))) 4 (fun _ _ => rfl) ?_
      refine q_RP_bd fun r2 er2 => ?_
      refine q_RP_call (v := none) (h2 := (q_kP r2 c n)) rfl rfl ((dzt_P146_87_65 s c n (s.2.1 23 0) r2 er2).le (Nat.le_of_ble_eq_true rfl)) ?_
      show q_RP _ _ _ (68, [(0, .ref 87), (1, .ref 65), (2, .int v2)], [], (q_kP r2 c n)) _ _
      refine q_RP_seg (g2 := (139, [(0, .ref 87), (1, .ref 65), (2, .int v2)], [], (q_kP r2 c n))) 1 (fun _ _ => rfl) ?_
      exact q_RP_ret rfl rfl rfl
    | false =>
      refine q_RP_cF ?_
      refine q_RP_rsT (g2 := (71, [(0, .ref 87), (1, .ref 65), (2, .int v2)], [], (q_kP s c n))) rfl rfl (q_d_neF h8) ?_
      refine q_RP_seg (g2 := (75, [(0, .ref 87), (1, .ref 65), (2, .int v2)], [.int 139, .int v2], (q_kP s c n))) 2 (fun _ _ => rfl) ?_
      cases h9 : decide (v2 = 139) with
      | true =>
        refine q_RP_cT ?_
        refine q_RP_rsF (g2 := (78, [(0, .ref 87), (1, .ref 65), (2, .int v2)], [], (q_kP s c n))) rfl rfl (q_d_neT h9) ?_
        refine q_RP_seg (g2 := (82, [(0, .ref 87), (1, .ref 65), (2, .int v2)], [.ref 65, .ref 87, .ref 87, .ref 87], (q_kP s c n))) 4 (fun _ _ => rfl) ?_
        refine q_RP_call (v := (some (.int (dz_N147_87_65 s).2))) (h2 := (q_kP (dz_N147_87_65 s).1 c n)) rfl rfl ((dzt_P147_87_65 s c n).le (Nat.le_of_ble_eq_true rfl)) ?_
        generalize dz_N147_87_65 s = r3
        refine q_RP_let ?_
        show q_RP _ _ _ (85, [(0, .ref 87), (1, .ref 65), (2, .int v2)], [.int r3.2, .ref 87, .ref 87], (q_kP r3.1 c n)) _ _
        refine q_RP_call (v := (some (.int (dz_N150_87 r3.1 r3.2).2))) (h2 := (q_kP (dz_N150_87 r3.1 r3.2).1 c n)) rfl rfl ((dzt_P150_87 r3.1 c n r3.2).le (Nat.le_of_ble_eq_true rfl)) ?_
        generalize dz_N150_87 r3.1 r3.2 = r4
        refine q_RP_let ?_
        show q_RP _ _ _ (88, [(0, .ref 87), (1, .ref 65), (2, .int v2)], [.int r4.2, .ref 87], (q_kP r4.1 c n)) _ _
        refine q_RP_seg (g2 := (139, [(0, .ref 87), (1, .ref 65), (2, .int v2)], [], (q_kP (q_sI r4.1 23 0 r4.2) c n))) 2 (fun _ _ => rfl) ?_
        exact q_RP_ret rfl rfl rfl
      | false =>
        refine q_RP_cF ?_
        refine q_RP_rsT (g2 := (94, [(0, .ref 87), (1, .ref 65), (2, .int v2)], [], (q_kP s c n))) rfl rfl (q_d_neF h9) ?_
        refine q_RP_seg (g2 := (98, [(0, .ref 87), (1, .ref 65), (2, .int v2)], [.int 140, .int v2], (q_kP s c n))) 2 (fun _ _ => rfl) ?_
        cases h10 : decide (v2 = 140) with
        | true =>
          refine q_RP_cT ?_
          refine q_RP_rsF (g2 := (101, [(0, .ref 87), (1, .ref 65), (2, .int v2)], [], (q_kP s c n))) rfl rfl (q_d_neT h10) ?_
          refine q_RP_seg (g2 := (107, [(0, .ref 87), (1, .ref 65), (2, .int v2)], [.int (s.2.1 23 5), .ref 65, .ref 87], (q_kP s c n))) 4 (fun _ _ => rfl) ?_
          refine q_RP_seg (g2 := (113, [(0, .ref 87), (1, .ref 65), (2, .int v2)], [.int (((s.2.1 23 5) ||| 32) ||| 16), .ref 65, .ref 87], (q_kP s c n))) 4 (fun _ _ => rfl) ?_
          refine q_RP_bd fun r5 er5 => ?_
          refine q_RP_call (v := none) (h2 := (q_kP r5 c n)) rfl rfl ((dzt_P146_87_65 s c n (((s.2.1 23 5) ||| 32) ||| 16) r5 er5).le (Nat.le_of_ble_eq_true rfl)) ?_
          show q_RP _ _ _ (116, [(0, .ref 87), (1, .ref 65), (2, .int v2)], [], (q_kP r5 c n)) _ _
          refine q_RP_seg (g2 := (139, [(0, .ref 87), (1, .ref 65), (2, .int v2)], [], (q_kP r5 c n))) 1 (fun _ _ => rfl) ?_
          exact q_RP_ret rfl rfl rfl
        | false =>
          refine q_RP_cF ?_
          refine q_RP_rsT (g2 := (119, [(0, .ref 87), (1, .ref 65), (2, .int v2)], [], (q_kP s c n))) rfl rfl (q_d_neF h10) ?_
          refine q_RP_seg (g2 := (123, [(0, .ref 87), (1, .ref 65), (2, .int v2)], [.int 141, .int v2], (q_kP s c n))) 2 (fun _ _ => rfl) ?_
          cases h11 : decide (v2 = 141) with
          | true =>
            refine q_RP_cT ?_
            refine q_RP_rsF (g2 := (126, [(0, .ref 87), (1, .ref 65), (2, .int v2)], [], (q_kP s c n))) rfl rfl (q_d_neT h11) ?_
            refine q_RP_seg (g2 := (129, [(0, .ref 87), (1, .ref 65), (2, .int v2)], [.ref 65, .ref 87, .ref 87], (q_kP s c n))) 3 (fun _ _ => rfl) ?_
            refine q_RP_call (v := (some (.int (dz_N147_87_65 s).2))) (h2 := (q_kP (dz_N147_87_65 s).1 c n)) rfl rfl ((dzt_P147_87_65 s c n).le (Nat.le_of_ble_eq_true rfl)) ?_
            generalize dz_N147_87_65 s = r6
            refine q_RP_let ?_
            show q_RP _ _ _ (132, [(0, .ref 87), (1, .ref 65), (2, .int v2)], [.int r6.2, .ref 87], (q_kP r6.1 c n)) _ _
            refine q_RP_seg (g2 := (139, [(0, .ref 87), (1, .ref 65), (2, .int v2)], [], (q_kP (q_sI r6.1 23 5 (r6.2 &&& 207)) c n))) 3 (fun _ _ => rfl) ?_
            exact q_RP_ret rfl rfl rfl
          | false =>
            refine q_RP_cF ?_
            refine q_RP_rsT (g2 := (139, [(0, .ref 87), (1, .ref 65), (2, .int v2)], [], (q_kP s c n))) rfl rfl (q_d_neF h11) ?_
            exact q_RP_ret rfl rfl rfl
  | false =>
    refine q_RP_cF ?_
    refine q_RP_rsF (g2 := (44, [(0, .ref 87), (1, .ref 65), (2, .int v2)], [], (q_kP s c n))) rfl rfl h7 ?_
    refine q_RP_seg (g2 := (46, [(0, .ref 87), (1, .ref 65), (2, .int v2)], [.int v2, .ref 87], (q_kP s c n))) 2 (fun _ _ => rfl) ?_
    refine q_RP_call (v := none) (h2 := (q_kP (dz_N164_87 s v2) c n)) rfl rfl ((dzt_P164_87 s c n v2).le (Nat.le_of_ble_eq_true rfl)) ?_
    generalize dz_N164_87 s v2 = r7
    refine q_RP_let ?_
    show q_RP _ _ _ (49, [(0, .ref 87), (1, .ref 65), (2, .int v2)], [], (q_kP r7 c n)) _ _
    refine q_RP_seg (g2 := (139, [(0, .ref 87), (1, .ref 65), (2, .int v2)], [], (q_kP r7 c n))) 1 (fun _ _ => rfl) ?_
    exact q_RP_ret rfl rfl rfl
set_option maxHeartbeats 4000000 in
theorem dzt_P157_87_65 (s : q_S) (c n : Nat) (a2 : Int32) (x : q_S) (h : dz_N157_87_65 s a2 = some x) : q_Ca q_TB0 4 156 [.ref 87, .ref 65, .int a2] (q_kP s c n) ((q_oSP c n) x) := by
  refine q_CaP_of (φ := (q_oSP c n)) (Nat.le_of_ble_eq_true rfl) ?_ h
  clear h
  unfold dz_N157_87_65
  refine q_RP_seg (g2 := (4, [(0, .ref 87), (1, .ref 65), (2, .int a2)], [.int 137, .int a2], (q_kP s c n))) 2 (fun _ _ => rfl) ?_
  cases h5 : decide (137 < a2) with
  | true =>
    refine q_RP_cT ?_
    refine q_RP_rsT (g2 := (15, [(0, .ref 87), (1, .ref 65), (2, .int a2)], [], (q_kP s c n))) rfl rfl h5 ?_
    refine q_RP_seg (g2 := (19, [(0, .ref 87), (1, .ref 65), (2, .int a2)], [.int 142, .int a2], (q_kP s c n))) 2 (fun _ _ => rfl) ?_
    cases h6 : decide (a2 < 142) with
    | true =>
      refine q_RP_cT ?_
      refine q_RP_rsT (g2 := (37, [(0, .ref 87), (1, .ref 65), (2, .int a2)], [], (q_kP s c n))) rfl rfl h6 ?_
      exact (dzt_P157_87_65_37 c n s a2)
    | false =>
      refine q_RP_cF ?_
      refine q_RP_rsF (g2 := (22, [(0, .ref 87), (1, .ref 65), (2, .int a2)], [], (q_kP s c n))) rfl rfl h6 ?_
      refine q_RP_seg (g2 := (26, [(0, .ref 87), (1, .ref 65), (2, .int a2)], [.int 148, .int a2], (q_kP s c n))) 2 (fun _ _ => rfl) ?_
      cases h12 : decide (148 < a2) with
      | true =>
        refine q_RP_cT ?_
        refine q_RP_rsT (g2 := (37, [(0, .ref 87), (1, .ref 65), (2, .int a2)], [], (q_kP s c n))) rfl rfl h12 ?_
        exact (dzt_P157_87_65_37 c n s a2)
      | false =>
        refine q_RP_cF ?_
        refine q_RP_rsF (g2 := (29, [(0, .ref 87), (1, .ref 65), (2, .int a2)], [], (q_kP s c n))) rfl rfl h12 ?_
        refine q_RP_seg (g2 := (31, [(0, .ref 87), (1, .ref 65), (2, .int a2)], [.int a2, .ref 87], (q_kP s c n))) 2 (fun _ _ => rfl) ?_
        refine q_RP_call (v := none) (h2 := (q_kP (dz_N163_87 s a2) c n)) rfl rfl ((dzt_P163_87 s c n a2).le (Nat.le_of_ble_eq_true rfl)) ?_
        generalize dz_N163_87 s a2 = r8
        refine q_RP_let ?_
        show q_RP _ _ _ (34, [(0, .ref 87), (1, .ref 65), (2, .int a2)], [], (q_kP r8 c n)) _ _
        refine q_RP_seg (g2 := (139, [(0, .ref 87), (1, .ref 65), (2, .int a2)], [], (q_kP r8 c n))) 1 (fun _ _ => rfl) ?_
        exact q_RP_ret rfl rfl rfl
  | false =>
    refine q_RP_cF ?_
    refine q_RP_rsF (g2 := (7, [(0, .ref 87), (1, .ref 65), (2, .int a2)], [], (q_kP s c n))) rfl rfl h5 ?_
    refine q_RP_seg (g2 := (9, [(0, .ref 87), (1, .ref 65), (2, .int a2)], [.int a2, .ref 87], (q_kP s c n))) 2 (fun _ _ => rfl) ?_
    refine q_RP_call (v := none) (h2 := (q_kP (dz_N162_87 s a2) c n)) rfl rfl ((dzt_P162_87 s c n a2).le (Nat.le_of_ble_eq_true rfl)) ?_
    generalize dz_N162_87 s a2 = r9
    refine q_RP_let ?_
    show q_RP _ _ _ (12, [(0, .ref 87), (1, .ref 65), (2, .int a2)], [], (q_kP r9 c n)) _ _
    refine q_RP_seg (g2 := (139, [(0, .ref 87), (1, .ref 65), (2, .int a2)], [], (q_kP r9 c n))) 1 (fun _ _ => rfl) ?_
    exact q_RP_ret rfl rfl rfl
set_option maxHeartbeats 4000000 in
theorem dzt_P160_87_65 (s : q_S) (c n : Nat) : q_Ca q_TB0 3 159 [.ref 87, .ref 65] (q_kP s c n) ((q_oIP c n) (dz_N160_87_65 s)) := by
  refine q_CaT_of (φ := (q_oIP c n)) (Nat.le_of_ble_eq_true rfl) ?_
  unfold dz_N160_87_65
  refine q_RT_seg (g2 := (2, [(0, .ref 87), (1, .ref 65)], [.ref 65, .ref 87], (q_kP s c n))) 2 (fun _ _ => rfl) ?_
  refine q_RT_call (v := (some (.int (dz_N147_87_65 s).2))) (h2 := (q_kP (dz_N147_87_65 s).1 c n)) rfl rfl ((dzt_P147_87_65 s c n).le (Nat.le_of_ble_eq_true rfl)) ?_
  generalize dz_N147_87_65 s = r1
  refine q_RT_let ?_
  show q_RT _ _ _ (5, [(0, .ref 87), (1, .ref 65)], [.int r1.2], (q_kP r1.1 c n)) _ _
  refine q_RT_seg (g2 := (12, [(2, .int r1.2), (0, .ref 87), (1, .ref 65)], [.ref 65, .ref 87, .int 256, .int r1.2], (q_kP r1.1 c n))) 5 (fun _ _ => rfl) ?_
  refine q_RT_call (v := (some (.int (dz_N147_87_65 r1.1).2))) (h2 := (q_kP (dz_N147_87_65 r1.1).1 c n)) rfl rfl ((dzt_P147_87_65 r1.1 c n).le (Nat.le_of_ble_eq_true rfl)) ?_
  generalize dz_N147_87_65 r1.1 = r2
  refine q_RT_let ?_
  show q_RT _ _ _ (15, [(2, .int r1.2), (0, .ref 87), (1, .ref 65)], [.int r2.2, .int 256, .int r1.2], (q_kP r2.1 c n)) _ _
  refine q_RT_seg (g2 := (21, [(2, .int r1.2), (0, .ref 87), (1, .ref 65)], [.int ((r1.2 + (256 * r2.2)) &&& 4095)], (q_kP r2.1 c n))) 4 (fun _ _ => rfl) ?_
  exact q_RT_ret rfl rfl rfl
set_option maxHeartbeats 4000000 in
theorem dzt_P159_87_65 (s : q_S) (c n : Nat) (a2 : Int32) (x : Int32) (h : dz_N159_87_65 s a2 = some x) : q_Ca q_TB0 3 158 [.ref 87, .ref 65, .int a2] (q_kP s c n) ((q_oP (q_kP s c n)) x) := by
  refine q_CaP_of (φ := (q_oP (q_kP s c n))) (Nat.le_of_ble_eq_true rfl) ?_ h
  clear h
  unfold dz_N159_87_65
  refine q_RP_seg (g2 := (20, [(3, .int (((a2 / 256) * 256) + ((a2 + 1) &&& 255))), (0, .ref 87), (1, .ref 65), (2, .int a2)], [.int a2, .ref 65], (q_kP s c n))) 14 (fun _ _ => rfl) ?_
  refine q_RP_bd fun r2 er2 => ?_
  refine q_RP_call (v := (some (.int r2))) (h2 := (q_kP s c n)) rfl rfl ((dzt_P90_65 s c n a2 r2 er2).le (Nat.le_of_ble_eq_true rfl)) ?_
  show q_RP _ _ _ (23, [(3, .int (((a2 / 256) * 256) + ((a2 + 1) &&& 255))), (0, .ref 87), (1, .ref 65), (2, .int a2)], [.int r2], (q_kP s c n)) _ _
  refine q_RP_seg (g2 := (28, [(3, .int (((a2 / 256) * 256) + ((a2 + 1) &&& 255))), (0, .ref 87), (1, .ref 65), (2, .int a2)], [.int (((a2 / 256) * 256) + ((a2 + 1) &&& 255)), .ref 65, .int 256, .int r2], (q_kP s c n))) 3 (fun _ _ => rfl) ?_
  refine q_RP_bd fun r3 er3 => ?_
  refine q_RP_call (v := (some (.int r3))) (h2 := (q_kP s c n)) rfl rfl ((dzt_P90_65 s c n (((a2 / 256) * 256) + ((a2 + 1) &&& 255)) r3 er3).le (Nat.le_of_ble_eq_true rfl)) ?_
  show q_RP _ _ _ (31, [(3, .int (((a2 / 256) * 256) + ((a2 + 1) &&& 255))), (0, .ref 87), (1, .ref 65), (2, .int a2)], [.int r3, .int 256, .int r2], (q_kP s c n)) _ _
  refine q_RP_seg (g2 := (37, [(3, .int (((a2 / 256) * 256) + ((a2 + 1) &&& 255))), (0, .ref 87), (1, .ref 65), (2, .int a2)], [.int ((r2 + (256 * r3)) &&& 4095)], (q_kP s c n))) 4 (fun _ _ => rfl) ?_
  exact q_RP_ret rfl rfl rfl
set_option maxHeartbeats 4000000 in
theorem dzt_P158_87_65 (s : q_S) (c n : Nat) (a2 : Int32) (a3 : Int32) (x : q_S × Int32) (h : dz_N158_87_65 s a2 a3 = some x) : q_Ca q_TB0 4 157 [.ref 87, .ref 65, .int a2, .int a3] (q_kP s c n) ((q_oIP c n) x) := by
  refine q_CaP_of (φ := (q_oIP c n)) (Nat.le_of_ble_eq_true rfl) ?_ h
  clear h
  unfold dz_N158_87_65
  refine q_RP_seg (g2 := (1, [(0, .ref 87), (1, .ref 65), (2, .int a2), (3, .int a3)], [.int a2], (q_kP s c n))) 1 (fun _ _ => rfl) ?_
  cases h4 : decide (a2 < 155) with
  | true =>
    refine q_RP_cT ?_
    refine q_RP_st1 (g2 := (124, [(0, .ref 87), (1, .ref 65), (2, .int a2), (3, .int a3)], [], (q_kP s c n))) rfl (if_pos (Or.inl (Int32.lt_iff_toInt_lt.mp (of_decide_eq_true h4)))) ?_
    refine q_RP_seg (g2 := (125, [(0, .ref 87), (1, .ref 65), (2, .int a2), (3, .int a3)], [.int a2], (q_kP s c n))) 1 (fun _ _ => rfl) ?_
    refine q_RP_call (v := (some (.int (q_b (dz_N187 s a2))))) (h2 := (q_kP s c n)) rfl rfl ((dzt_P187 s c n a2).le (Nat.le_of_ble_eq_true rfl)) ?_
    generalize dz_N187 s a2 = r5
    refine q_RP_let ?_
    show q_RP _ _ _ (128, [(0, .ref 87), (1, .ref 65), (2, .int a2), (3, .int a3)], [.int (q_b r5)], (q_kP s c n)) _ _
    cases h5 : r5 with
    | true =>
      refine q_RP_cT ?_
      show q_RP _ _ _ (128, [(0, .ref 87), (1, .ref 65), (2, .int a2), (3, .int a3)], [.int 1], (q_kP s c n)) _ _
      refine q_RP_seg (g2 := (133, [(0, .ref 87), (1, .ref 65), (2, .int a2), (3, .int a3)], [.int a2, .ref 87], (q_kP s c n))) 3 (fun _ _ => rfl) ?_
      refine q_RP_call (v := (some (.int (q_b (dz_N161_87 s a2))))) (h2 := (q_kP s c n)) rfl rfl ((dzt_P161_87 s c n a2).le (Nat.le_of_ble_eq_true rfl)) ?_
      generalize dz_N161_87 s a2 = r6
      refine q_RP_let ?_
      show q_RP _ _ _ (136, [(0, .ref 87), (1, .ref 65), (2, .int a2), (3, .int a3)], [.int (q_b r6)], (q_kP s c n)) _ _
      cases h6 : r6 with
      | true =>
        refine q_RP_cT ?_
        show q_RP _ _ _ (136, [(0, .ref 87), (1, .ref 65), (2, .int a2), (3, .int a3)], [.int 1], (q_kP s c n)) _ _
        refine q_RP_seg (g2 := (143, [(0, .ref 87), (1, .ref 65), (2, .int a2), (3, .int a3)], [.int 1, .ref 87, .ref 65, .ref 87], (q_kP s c n))) 5 (fun _ _ => rfl) ?_
        refine q_RP_call (v := (some (.int (dz_N140_87 s 1)))) (h2 := (q_kP s c n)) rfl rfl ((dzt_P140_87 s c n 1).le (Nat.le_of_ble_eq_true rfl)) ?_
        generalize dz_N140_87 s 1 = r7
        refine q_RP_let ?_
        show q_RP _ _ _ (146, [(0, .ref 87), (1, .ref 65), (2, .int a2), (3, .int a3)], [.int r7, .ref 65, .ref 87], (q_kP s c n)) _ _
        refine q_RP_bd fun r8 er8 => ?_
        refine q_RP_call (v := (some (.int r8))) (h2 := (q_kP s c n)) rfl rfl ((dzt_P90_65 s c n r7 r8 er8).le (Nat.le_of_ble_eq_true rfl)) ?_
        show q_RP _ _ _ (149, [(0, .ref 87), (1, .ref 65), (2, .int a2), (3, .int a3)], [.int r8, .ref 87], (q_kP s c n)) _ _
        refine q_RP_call (v := (some (.int (dz_N139_87 s r8)))) (h2 := (q_kP s c n)) rfl rfl ((dzt_P139_87 s c n r8).le (Nat.le_of_ble_eq_true rfl)) ?_
        generalize dz_N139_87 s r8 = r9
        refine q_RP_let ?_
        show q_RP _ _ _ (152, [(0, .ref 87), (1, .ref 65), (2, .int a2), (3, .int a3)], [.int r9], (q_kP s c n)) _ _
        refine q_RP_seg (g2 := (156, [(0, .ref 87), (1, .ref 65), (2, .int a2), (3, .int a3)], [.int r9], (q_kP s c n))) 1 (fun _ _ => rfl) ?_
        exact q_RP_ret rfl rfl rfl
      | false =>
        refine q_RP_cF ?_
        show q_RP _ _ _ (136, [(0, .ref 87), (1, .ref 65), (2, .int a2), (3, .int a3)], [.int 0], (q_kP s c n)) _ _
        refine q_RP_seg (g2 := (156, [(0, .ref 87), (1, .ref 65), (2, .int a2), (3, .int a3)], [.int a3], (q_kP s c n))) 2 (fun _ _ => rfl) ?_
        exact q_RP_ret rfl rfl rfl
    | false =>
      refine q_RP_cF ?_
      show q_RP _ _ _ (128, [(0, .ref 87), (1, .ref 65), (2, .int a2), (3, .int a3)], [.int 0], (q_kP s c n)) _ _
      refine q_RP_seg (g2 := (166, [(0, .ref 87), (1, .ref 65), (2, .int a2), (3, .int a3)], [.int (s.2.1 23 4)], (q_kP (q_sI s 23 7 1) c n))) 6 (fun _ _ => rfl) ?_
      exact q_RP_ret rfl rfl rfl
  | false =>
    refine q_RP_cF ?_
    cases h7 : decide (159 < a2) with
    | true =>
      refine q_RP_cT ?_
      refine q_RP_st1 (g2 := (124, [(0, .ref 87), (1, .ref 65), (2, .int a2), (3, .int a3)], [], (q_kP s c n))) rfl (if_pos (Or.inr (Int32.lt_iff_toInt_lt.mp (of_decide_eq_true h7)))) ?_
      refine q_RP_seg (g2 := (125, [(0, .ref 87), (1, .ref 65), (2, .int a2), (3, .int a3)], [.int a2], (q_kP s c n))) 1 (fun _ _ => rfl) ?_
      refine q_RP_call (v := (some (.int (q_b (dz_N187 s a2))))) (h2 := (q_kP s c n)) rfl rfl ((dzt_P187 s c n a2).le (Nat.le_of_ble_eq_true rfl)) ?_
      generalize dz_N187 s a2 = r10
      refine q_RP_let ?_
      show q_RP _ _ _ (128, [(0, .ref 87), (1, .ref 65), (2, .int a2), (3, .int a3)], [.int (q_b r10)], (q_kP s c n)) _ _
      cases h8 : r10 with
      | true =>
        refine q_RP_cT ?_
        show q_RP _ _ _ (128, [(0, .ref 87), (1, .ref 65), (2, .int a2), (3, .int a3)], [.int 1], (q_kP s c n)) _ _
        refine q_RP_seg (g2 := (133, [(0, .ref 87), (1, .ref 65), (2, .int a2), (3, .int a3)], [.int a2, .ref 87], (q_kP s c n))) 3 (fun _ _ => rfl) ?_
        refine q_RP_call (v := (some (.int (q_b (dz_N161_87 s a2))))) (h2 := (q_kP s c n)) rfl rfl ((dzt_P161_87 s c n a2).le (Nat.le_of_ble_eq_true rfl)) ?_
        generalize dz_N161_87 s a2 = r11
        refine q_RP_let ?_
        show q_RP _ _ _ (136, [(0, .ref 87), (1, .ref 65), (2, .int a2), (3, .int a3)], [.int (q_b r11)], (q_kP s c n)) _ _
        cases h9 : r11 with
        | true =>
          refine q_RP_cT ?_
          show q_RP _ _ _ (136, [(0, .ref 87), (1, .ref 65), (2, .int a2), (3, .int a3)], [.int 1], (q_kP s c n)) _ _
          refine q_RP_seg (g2 := (143, [(0, .ref 87), (1, .ref 65), (2, .int a2), (3, .int a3)], [.int 1, .ref 87, .ref 65, .ref 87], (q_kP s c n))) 5 (fun _ _ => rfl) ?_
          refine q_RP_call (v := (some (.int (dz_N140_87 s 1)))) (h2 := (q_kP s c n)) rfl rfl ((dzt_P140_87 s c n 1).le (Nat.le_of_ble_eq_true rfl)) ?_
          generalize dz_N140_87 s 1 = r12
          refine q_RP_let ?_
          show q_RP _ _ _ (146, [(0, .ref 87), (1, .ref 65), (2, .int a2), (3, .int a3)], [.int r12, .ref 65, .ref 87], (q_kP s c n)) _ _
          refine q_RP_bd fun r13 er13 => ?_
          refine q_RP_call (v := (some (.int r13))) (h2 := (q_kP s c n)) rfl rfl ((dzt_P90_65 s c n r12 r13 er13).le (Nat.le_of_ble_eq_true rfl)) ?_
          show q_RP _ _ _ (149, [(0, .ref 87), (1, .ref 65), (2, .int a2), (3, .int a3)], [.int r13, .ref 87], (q_kP s c n)) _ _
          refine q_RP_call (v := (some (.int (dz_N139_87 s r13)))) (h2 := (q_kP s c n)) rfl rfl ((dzt_P139_87 s c n r13).le (Nat.le_of_ble_eq_true rfl)) ?_
          generalize dz_N139_87 s r13 = r14
          refine q_RP_let ?_
          show q_RP _ _ _ (152, [(0, .ref 87), (1, .ref 65), (2, .int a2), (3, .int a3)], [.int r14], (q_kP s c n)) _ _
          refine q_RP_seg (g2 := (156, [(0, .ref 87), (1, .ref 65), (2, .int a2), (3, .int a3)], [.int r14], (q_kP s c n))) 1 (fun _ _ => rfl) ?_
          exact q_RP_ret rfl rfl rfl
        | false =>
          refine q_RP_cF ?_
          show q_RP _ _ _ (136, [(0, .ref 87), (1, .ref 65), (2, .int a2), (3, .int a3)], [.int 0], (q_kP s c n)) _ _
          refine q_RP_seg (g2 := (156, [(0, .ref 87), (1, .ref 65), (2, .int a2), (3, .int a3)], [.int a3], (q_kP s c n))) 2 (fun _ _ => rfl) ?_
          exact q_RP_ret rfl rfl rfl
      | false =>
        refine q_RP_cF ?_
        show q_RP _ _ _ (128, [(0, .ref 87), (1, .ref 65), (2, .int a2), (3, .int a3)], [.int 0], (q_kP s c n)) _ _
        refine q_RP_seg (g2 := (166, [(0, .ref 87), (1, .ref 65), (2, .int a2), (3, .int a3)], [.int (s.2.1 23 4)], (q_kP (q_sI s 23 7 1) c n))) 6 (fun _ _ => rfl) ?_
        exact q_RP_ret rfl rfl rfl
    | false =>
      refine q_RP_cF ?_
      cases h10 : decide (a2 = 155) with
      | true =>
        refine q_RP_cT ?_
        refine q_RP_st1 (g2 := (36, [(0, .ref 87), (1, .ref 65), (2, .int a2), (3, .int a3)], [], (q_kP s c n))) rfl (by rw [of_decide_eq_true h10]; rfl) ?_
        refine q_RP_seg (g2 := (39, [(0, .ref 87), (1, .ref 65), (2, .int a2), (3, .int a3)], [.ref 65, .ref 87, .ref 87], (q_kP s c n))) 3 (fun _ _ => rfl) ?_
        refine q_RP_call (v := (some (.int (dz_N147_87_65 s).2))) (h2 := (q_kP (dz_N147_87_65 s).1 c n)) rfl rfl ((dzt_P147_87_65 s c n).le (Nat.le_of_ble_eq_true rfl)) ?_
        generalize dz_N147_87_65 s = r15
        refine q_RP_let ?_
        show q_RP _ _ _ (42, [(0, .ref 87), (1, .ref 65), (2, .int a2), (3, .int a3)], [.int r15.2, .ref 87], (q_kP r15.1 c n)) _ _
        refine q_RP_seg (g2 := (51, [(0, .ref 87), (1, .ref 65), (2, .int a2), (3, .int a3)], [.ref 65, .ref 87], (q_kP (q_sI r15.1 23 5 (r15.2 &&& 207)) c n))) 5 (fun _ _ => rfl) ?_
        refine q_RP_call (v := (some (.int (dz_N160_87_65 (q_sI r15.1 23 5 (r15.2 &&& 207))).2))) (h2 := (q_kP (dz_N160_87_65 (q_sI r15.1 23 5 (r15.2 &&& 207))).1 c n)) rfl rfl ((dzt_P160_87_65 (q_sI r15.1 23 5 (r15.2 &&& 207)) c n).le (Nat.le_of_ble_eq_true rfl)) ?_
        generalize dz_N160_87_65 (q_sI r15.1 23 5 (r15.2 &&& 207)) = r16
        refine q_RP_let ?_
        show q_RP _ _ _ (54, [(0, .ref 87), (1, .ref 65), (2, .int a2), (3, .int a3)], [.int r16.2], (q_kP r16.1 c n)) _ _
        exact q_RP_ret rfl rfl rfl
      | false =>
        refine q_RP_cF ?_
        cases h11 : decide (a2 = 156) with
        | true =>
          refine q_RP_cT ?_
          refine q_RP_st1 (g2 := (55, [(0, .ref 87), (1, .ref 65), (2, .int a2), (3, .int a3)], [], (q_kP s c n))) rfl (by rw [of_decide_eq_true h11]; rfl) ?_
          refine q_RP_seg (g2 := (57, [(0, .ref 87), (1, .ref 65), (2, .int a2), (3, .int a3)], [.ref 65, .ref 87], (q_kP s c n))) 2 (fun _ _ => rfl) ?_
          refine q_RP_call (v := (some (.int (dz_N160_87_65 s).2))) (h2 := (q_kP (dz_N160_87_65 s).1 c n)) rfl rfl ((dzt_P160_87_65 s c n).le (Nat.le_of_ble_eq_true rfl)) ?_
          generalize dz_N160_87_65 s = r17
          refine q_RP_let ?_
          show q_RP _ _ _ (60, [(0, .ref 87), (1, .ref 65), (2, .int a2), (3, .int a3)], [.int r17.2], (q_kP r17.1 c n)) _ _
          refine q_RP_seg (g2 := (66, [(0, .ref 87), (1, .ref 65), (2, .int a2), (3, .int a3)], [.int ((r17.2 + 1) &&& 4095)], (q_kP r17.1 c n))) 4 (fun _ _ => rfl) ?_
          exact q_RP_ret rfl rfl rfl
        | false =>
          refine q_RP_cF ?_
          cases h12 : decide (a2 = 157) with
          | true =>
            refine q_RP_cT ?_
            refine q_RP_st1 (g2 := (67, [(0, .ref 87), (1, .ref 65), (2, .int a2), (3, .int a3)], [], (q_kP s c n))) rfl (by rw [of_decide_eq_true h12]; rfl) ?_
            refine q_RP_seg (g2 := (70, [(0, .ref 87), (1, .ref 65), (2, .int a2), (3, .int a3)], [.int 3, .ref 65, .ref 87], (q_kP s c n))) 3 (fun _ _ => rfl) ?_
            refine q_RP_bd fun r18 er18 => ?_
            refine q_RP_call (v := (some (.int r18))) (h2 := (q_kP s c n)) rfl rfl ((dzt_P145_87_65 s c n 3 r18 er18).le (Nat.le_of_ble_eq_true rfl)) ?_
            show q_RP _ _ _ (73, [(0, .ref 87), (1, .ref 65), (2, .int a2), (3, .int a3)], [.int r18], (q_kP s c n)) _ _
            exact q_RP_ret rfl rfl rfl
          | false =>
            refine q_RP_cF ?_
            cases h13 : decide (a2 = 158) with
            | true =>
              refine q_RP_cT ?_
              refine q_RP_st1 (g2 := (74, [(0, .ref 87), (1, .ref 65), (2, .int a2), (3, .int a3)], [], (q_kP s c n))) rfl (by rw [of_decide_eq_true h13]; rfl) ?_
              refine q_RP_seg (g2 := (77, [(0, .ref 87), (1, .ref 65), (2, .int a2), (3, .int a3)], [.int 3, .ref 65, .ref 87], (q_kP s c n))) 3 (fun _ _ => rfl) ?_
              refine q_RP_bd fun r19 er19 => ?_
              refine q_RP_call (v := (some (.int r19))) (h2 := (q_kP s c n)) rfl rfl ((dzt_P145_87_65 s c n 3 r19 er19).le (Nat.le_of_ble_eq_true rfl)) ?_
              show q_RP _ _ _ (80, [(0, .ref 87), (1, .ref 65), (2, .int a2), (3, .int a3)], [.int r19], (q_kP s c n)) _ _
              refine q_RP_seg (g2 := (86, [(4, .int r19), (0, .ref 87), (1, .ref 65), (2, .int a2), (3, .int a3)], [.int 2, .ref 87, .ref 65, .ref 87], (q_kP s c n))) 5 (fun _ _ => rfl) ?_
              refine q_RP_call (v := (some (.int (dz_N140_87 s 2)))) (h2 := (q_kP s c n)) rfl rfl ((dzt_P140_87 s c n 2).le (Nat.le_of_ble_eq_true rfl)) ?_
              generalize dz_N140_87 s 2 = r20
              refine q_RP_let ?_
              show q_RP _ _ _ (89, [(4, .int r19), (0, .ref 87), (1, .ref 65), (2, .int a2), (3, .int a3)], [.int r20, .ref 65, .ref 87], (q_kP s c n)) _ _
              refine q_RP_seg (g2 := (92, [(4, .int r19), (0, .ref 87), (1, .ref 65), (2, .int a2), (3, .int a3)], [.int (r20 >>> ((8 &&& 31) : Int32)), .ref 65, .ref 87], (q_kP s c n))) 2 (fun _ _ => rfl) ?_
              refine q_RP_bd fun r21 er21 => ?_
              refine q_RP_call (v := none) (h2 := (q_kP r21 c n)) rfl rfl ((dzt_P146_87_65 s c n (r20 >>> ((8 &&& 31) : Int32)) r21 er21).le (Nat.le_of_ble_eq_true rfl)) ?_
              show q_RP _ _ _ (95, [(4, .int r19), (0, .ref 87), (1, .ref 65), (2, .int a2), (3, .int a3)], [], (q_kP r21 c n)) _ _
              refine q_RP_seg (g2 := (99, [(4, .int r19), (0, .ref 87), (1, .ref 65), (2, .int a2), (3, .int a3)], [.int 2, .ref 87, .ref 65, .ref 87], (q_kP r21 c n))) 4 (fun _ _ => rfl) ?_
              refine q_RP_call (v := (some (.int (dz_N140_87 r21 2)))) (h2 := (q_kP r21 c n)) rfl rfl ((dzt_P140_87 r21 c n 2).le (Nat.le_of_ble_eq_true rfl)) ?_
              generalize dz_N140_87 r21 2 = r22
              refine q_RP_let ?_
              show q_RP _ _ _ (102, [(4, .int r19), (0, .ref 87), (1, .ref 65), (2, .int a2), (3, .int a3)], [.int r22, .ref 65, .ref 87], (q_kP r21 c n)) _ _
              refine q_RP_seg (g2 := (106, [(4, .int r19), (0, .ref 87), (1, .ref 65), (2, .int a2), (3, .int a3)], [.int (r22 &&& 255), .ref 65, .ref 87], (q_kP r21 c n))) 2 (fun _ _ => rfl) ?_
              refine q_RP_bd fun r23 er23 => ?_
              refine q_RP_call (v := none) (h2 := (q_kP r23 c n)) rfl rfl ((dzt_P146_87_65 r21 c n (r22 &&& 255) r23 er23).le (Nat.le_of_ble_eq_true rfl)) ?_
              show q_RP _ _ _ (109, [(4, .int r19), (0, .ref 87), (1, .ref 65), (2, .int a2), (3, .int a3)], [], (q_kP r23 c n)) _ _
              refine q_RP_seg (g2 := (111, [(4, .int r19), (0, .ref 87), (1, .ref 65), (2, .int a2), (3, .int a3)], [.int r19], (q_kP r23 c n))) 1 (fun _ _ => rfl) ?_
              exact q_RP_ret rfl rfl rfl
            | false =>
              refine q_RP_cF ?_
              have h14 : a2 = 159 := Int32.toInt_inj.mp (by have e0 := q_neI h10 (n := 155); have e1 := q_neI h11 (n := 156); have e2 := q_neI h12 (n := 157); have e3 := q_neI h13 (n := 158); have l1 : 155 ≤ (a2).toInt := q_lo1 h4; have l2 : (a2).toInt ≤ 159 := q_hi2 h7; show (a2).toInt = 159; omega)
              refine q_RP_st1 (g2 := (112, [(0, .ref 87), (1, .ref 65), (2, .int a2), (3, .int a3)], [], (q_kP s c n))) rfl (by rw [h14]; rfl) ?_
              refine q_RP_seg (g2 := (117, [(0, .ref 87), (1, .ref 65), (2, .int a2), (3, .int a3)], [.int 3, .ref 65, .ref 87, .ref 65, .ref 87], (q_kP s c n))) 5 (fun _ _ => rfl) ?_
              refine q_RP_bd fun r24 er24 => ?_
              refine q_RP_call (v := (some (.int r24))) (h2 := (q_kP s c n)) rfl rfl ((dzt_P145_87_65 s c n 3 r24 er24).le (Nat.le_of_ble_eq_true rfl)) ?_
              show q_RP _ _ _ (120, [(0, .ref 87), (1, .ref 65), (2, .int a2), (3, .int a3)], [.int r24, .ref 65, .ref 87], (q_kP s c n)) _ _
              refine q_RP_bd fun r25 er25 => ?_
              refine q_RP_call (v := (some (.int r25))) (h2 := (q_kP s c n)) rfl rfl ((dzt_P159_87_65 s c n r24 r25 er25).le (Nat.le_of_ble_eq_true rfl)) ?_
              show q_RP _ _ _ (123, [(0, .ref 87), (1, .ref 65), (2, .int a2), (3, .int a3)], [.int r25], (q_kP s c n)) _ _
              exact q_RP_ret rfl rfl rfl
set_option maxHeartbeats 4000000 in
theorem dzt_P156_87 (s : q_S) (c n : Nat) (a1 : Int32) : q_Ca q_TB0 2 155 [.ref 87, .int a1] (q_kP s c n) ((q_oSP c n) (dz_N156_87 s a1)) := by
  refine q_CaT_of (φ := (q_oSP c n)) (Nat.le_of_ble_eq_true rfl) ?_
  unfold dz_N156_87
  refine q_RT_seg (g2 := (4, [(0, .ref 87), (1, .int a1)], [.int (s.2.1 23 0)], (q_kP s c n))) 2 (fun _ _ => rfl) ?_
  refine q_RT_seg (g2 := (10, [(0, .ref 87), (1, .int a1)], [.int (s.2.1 23 5), .int ((s.2.1 23 0) + a1)], (q_kP s c n))) 4 (fun _ _ => rfl) ?_
  refine q_RT_seg (g2 := (21, [(2, .int (((s.2.1 23 0) + a1) + ((s.2.1 23 5) &&& 1))), (0, .ref 87), (1, .int a1)], [.int (s.2.1 23 0), .int 64, .ref 87], (q_kP s c n))) 8 (fun _ _ => rfl) ?_
  refine q_RT_seg (g2 := (31, [(2, .int (((s.2.1 23 0) + a1) + ((s.2.1 23 5) &&& 1))), (0, .ref 87), (1, .int a1)], [.int ((((s.2.1 23 0) ^^^ (((s.2.1 23 0) + a1) + ((s.2.1 23 5) &&& 1))) &&& (a1 ^^^ (((s.2.1 23 0) + a1) + ((s.2.1 23 5) &&& 1)))) &&& 128), .int 64, .ref 87], (q_kP s c n))) 8 (fun _ _ => rfl) ?_
  cases h1 : decide ((((s.2.1 23 0) ^^^ (((s.2.1 23 0) + a1) + ((s.2.1 23 5) &&& 1))) &&& (a1 ^^^ (((s.2.1 23 0) + a1) + ((s.2.1 23 5) &&& 1)))) &&& 128 = 0) with
  | true =>
    refine q_RT_cT ?_
    refine q_RT_rsT (g2 := (38, [(2, .int (((s.2.1 23 0) + a1) + ((s.2.1 23 5) &&& 1))), (0, .ref 87), (1, .int a1)], [.int 64, .ref 87], (q_kP s c n))) rfl rfl h1 ?_
    refine q_RT_seg (g2 := (39, [(2, .int (((s.2.1 23 0) + a1) + ((s.2.1 23 5) &&& 1))), (0, .ref 87), (1, .int a1)], [.int 0, .int 64, .ref 87], (q_kP s c n))) 1 (fun _ _ => rfl) ?_
    refine q_RT_call (v := none) (h2 := (q_kP (dz_N149_87_f s 64) c n)) rfl rfl ((dzt_P149_87_f s c n 64).le (Nat.le_of_ble_eq_true rfl)) ?_
    generalize dz_N149_87_f s 64 = r1
    refine q_RT_let ?_
    show q_RT _ _ _ (42, [(2, .int (((s.2.1 23 0) + a1) + ((s.2.1 23 5) &&& 1))), (0, .ref 87), (1, .int a1)], [], (q_kP r1 c n)) _ _
    refine q_RT_seg (g2 := (48, [(2, .int (((s.2.1 23 0) + a1) + ((s.2.1 23 5) &&& 1))), (0, .ref 87), (1, .int a1)], [.int 255, .int (((s.2.1 23 0) + a1) + ((s.2.1 23 5) &&& 1)), .int 1, .ref 87], (q_kP r1 c n))) 4 (fun _ _ => rfl) ?_
    cases h2 : decide (255 < ((s.2.1 23 0) + a1) + ((s.2.1 23 5) &&& 1)) with
    | true =>
      refine q_RT_cT ?_
      refine q_RT_rsF (g2 := (51, [(2, .int (((s.2.1 23 0) + a1) + ((s.2.1 23 5) &&& 1))), (0, .ref 87), (1, .int a1)], [.int 1, .ref 87], (q_kP r1 c n))) rfl rfl (q_d_geT h2) ?_
      refine q_RT_seg (g2 := (56, [(2, .int (((s.2.1 23 0) + a1) + ((s.2.1 23 5) &&& 1))), (0, .ref 87), (1, .int a1)], [.int 1, .int 1, .ref 87], (q_kP r1 c n))) 2 (fun _ _ => rfl) ?_
      refine q_RT_call (v := none) (h2 := (q_kP (dz_N149_87_t r1 1) c n)) rfl rfl ((dzt_P149_87_t r1 c n 1).le (Nat.le_of_ble_eq_true rfl)) ?_
      generalize dz_N149_87_t r1 1 = r2
      refine q_RT_let ?_
      show q_RT _ _ _ (59, [(2, .int (((s.2.1 23 0) + a1) + ((s.2.1 23 5) &&& 1))), (0, .ref 87), (1, .int a1)], [], (q_kP r2 c n)) _ _
      refine q_RT_seg (g2 := (66, [(2, .int (((s.2.1 23 0) + a1) + ((s.2.1 23 5) &&& 1))), (0, .ref 87), (1, .int a1)], [.int ((((s.2.1 23 0) + a1) + ((s.2.1 23 5) &&& 1)) &&& 255), .ref 87, .ref 87], (q_kP r2 c n))) 5 (fun _ _ => rfl) ?_
      refine q_RT_call (v := (some (.int (dz_N150_87 r2 ((((s.2.1 23 0) + a1) + ((s.2.1 23 5) &&& 1)) &&& 255)).2))) (h2 := (q_kP (dz_N150_87 r2 ((((s.2.1 23 0) + a1) + ((s.2.1 23 5) &&& 1)) &&& 255)).1 c n)) rfl rfl ((dzt_P150_87 r2 c n ((((s.2.1 23 0) + a1) + ((s.2.1 23 5) &&& 1)) &&& 255)).le (Nat.le_of_ble_eq_true rfl)) ?_
      generalize dz_N150_87 r2 ((((s.2.1 23 0) + a1) + ((s.2.1 23 5) &&& 1)) &&& 255) = r3
      refine q_RT_let ?_
      show q_RT _ _ _ (69, [(2, .int (((s.2.1 23 0) + a1) + ((s.2.1 23 5) &&& 1))), (0, .ref 87), (1, .int a1)], [.int r3.2, .ref 87], (q_kP r3.1 c n)) _ _
      refine q_RT_seg (g2 := (72, [(2, .int (((s.2.1 23 0) + a1) + ((s.2.1 23 5) &&& 1))), (0, .ref 87), (1, .int a1)], [], (q_kP (q_sI r3.1 23 0 r3.2) c n))) 1 (fun _ _ => rfl) ?_
      exact q_RT_ret rfl rfl rfl
    | false =>
      refine q_RT_cF ?_
      refine q_RT_rsT (g2 := (55, [(2, .int (((s.2.1 23 0) + a1) + ((s.2.1 23 5) &&& 1))), (0, .ref 87), (1, .int a1)], [.int 1, .ref 87], (q_kP r1 c n))) rfl rfl (q_d_geF h2) ?_
      refine q_RT_seg (g2 := (56, [(2, .int (((s.2.1 23 0) + a1) + ((s.2.1 23 5) &&& 1))), (0, .ref 87), (1, .int a1)], [.int 0, .int 1, .ref 87], (q_kP r1 c n))) 1 (fun _ _ => rfl) ?_
      refine q_RT_call (v := none) (h2 := (q_kP (dz_N149_87_f r1 1) c n)) rfl rfl ((dzt_P149_87_f r1 c n 1).le (Nat.le_of_ble_eq_true rfl)) ?_
      generalize dz_N149_87_f r1 1 = r4
      refine q_RT_let ?_
      show q_RT _ _ _ (59, [(2, .int (((s.2.1 23 0) + a1) + ((s.2.1 23 5) &&& 1))), (0, .ref 87), (1, .int a1)], [], (q_kP r4 c n)) _ _
      refine q_RT_seg (g2 := (66, [(2, .int (((s.2.1 23 0) + a1) + ((s.2.1 23 5) &&& 1))), (0, .ref 87), (1, .int a1)], [.int ((((s.2.1 23 0) + a1) + ((s.2.1 23 5) &&& 1)) &&& 255), .ref 87, .ref 87], (q_kP r4 c n))) 5 (fun _ _ => rfl) ?_
      refine q_RT_call (v := (some (.int (dz_N150_87 r4 ((((s.2.1 23 0) + a1) + ((s.2.1 23 5) &&& 1)) &&& 255)).2))) (h2 := (q_kP (dz_N150_87 r4 ((((s.2.1 23 0) + a1) + ((s.2.1 23 5) &&& 1)) &&& 255)).1 c n)) rfl rfl ((dzt_P150_87 r4 c n ((((s.2.1 23 0) + a1) + ((s.2.1 23 5) &&& 1)) &&& 255)).le (Nat.le_of_ble_eq_true rfl)) ?_
      generalize dz_N150_87 r4 ((((s.2.1 23 0) + a1) + ((s.2.1 23 5) &&& 1)) &&& 255) = r5
      refine q_RT_let ?_
      show q_RT _ _ _ (69, [(2, .int (((s.2.1 23 0) + a1) + ((s.2.1 23 5) &&& 1))), (0, .ref 87), (1, .int a1)], [.int r5.2, .ref 87], (q_kP r5.1 c n)) _ _
      refine q_RT_seg (g2 := (72, [(2, .int (((s.2.1 23 0) + a1) + ((s.2.1 23 5) &&& 1))), (0, .ref 87), (1, .int a1)], [], (q_kP (q_sI r5.1 23 0 r5.2) c n))) 1 (fun _ _ => rfl) ?_
      exact q_RT_ret rfl rfl rfl
  | false =>
    refine q_RT_cF ?_
    refine q_RT_rsF (g2 := (34, [(2, .int (((s.2.1 23 0) + a1) + ((s.2.1 23 5) &&& 1))), (0, .ref 87), (1, .int a1)], [.int 64, .ref 87], (q_kP s c n))) rfl rfl h1 ?_
    refine q_RT_seg (g2 := (39, [(2, .int (((s.2.1 23 0) + a1) + ((s.2.1 23 5) &&& 1))), (0, .ref 87), (1, .int a1)], [.int 1, .int 64, .ref 87], (q_kP s c n))) 2 (fun _ _ => rfl) ?_
    refine q_RT_call (v := none) (h2 := (q_kP (dz_N149_87_t s 64) c n)) rfl rfl ((dzt_P149_87_t s c n 64).le (Nat.le_of_ble_eq_true rfl)) ?_
    generalize dz_N149_87_t s 64 = r6
    refine q_RT_let ?_
    show q_RT _ _ _ (42, [(2, .int (((s.2.1 23 0) + a1) + ((s.2.1 23 5) &&& 1))), (0, .ref 87), (1, .int a1)], [], (q_kP r6 c n)) _ _
    refine q_RT_seg (g2 := (48, [(2, .int (((s.2.1 23 0) + a1) + ((s.2.1 23 5) &&& 1))), (0, .ref 87), (1, .int a1)], [.int 255, .int (((s.2.1 23 0) + a1) + ((s.2.1 23 5) &&& 1)), .int 1, .ref 87], (q_kP r6 c n))) 4 (fun _ _ => rfl) ?_
    cases h3 : decide (255 < ((s.2.1 23 0) + a1) + ((s.2.1 23 5) &&& 1)) with
    | true =>
      refine q_RT_cT ?_
      refine q_RT_rsF (g2 := (51, [(2, .int (((s.2.1 23 0) + a1) + ((s.2.1 23 5) &&& 1))), (0, .ref 87), (1, .int a1)], [.int 1, .ref 87], (q_kP r6 c n))) rfl rfl (q_d_geT h3) ?_
      refine q_RT_seg (g2 := (56, [(2, .int (((s.2.1 23 0) + a1) + ((s.2.1 23 5) &&& 1))), (0, .ref 87), (1, .int a1)], [.int 1, .int 1, .ref 87], (q_kP r6 c n))) 2 (fun _ _ => rfl) ?_
      refine q_RT_call (v := none) (h2 := (q_kP (dz_N149_87_t r6 1) c n)) rfl rfl ((dzt_P149_87_t r6 c n 1).le (Nat.le_of_ble_eq_true rfl)) ?_
      generalize dz_N149_87_t r6 1 = r7
      refine q_RT_let ?_
      show q_RT _ _ _ (59, [(2, .int (((s.2.1 23 0) + a1) + ((s.2.1 23 5) &&& 1))), (0, .ref 87), (1, .int a1)], [], (q_kP r7 c n)) _ _
      refine q_RT_seg (g2 := (66, [(2, .int (((s.2.1 23 0) + a1) + ((s.2.1 23 5) &&& 1))), (0, .ref 87), (1, .int a1)], [.int ((((s.2.1 23 0) + a1) + ((s.2.1 23 5) &&& 1)) &&& 255), .ref 87, .ref 87], (q_kP r7 c n))) 5 (fun _ _ => rfl) ?_
      refine q_RT_call (v := (some (.int (dz_N150_87 r7 ((((s.2.1 23 0) + a1) + ((s.2.1 23 5) &&& 1)) &&& 255)).2))) (h2 := (q_kP (dz_N150_87 r7 ((((s.2.1 23 0) + a1) + ((s.2.1 23 5) &&& 1)) &&& 255)).1 c n)) rfl rfl ((dzt_P150_87 r7 c n ((((s.2.1 23 0) + a1) + ((s.2.1 23 5) &&& 1)) &&& 255)).le (Nat.le_of_ble_eq_true rfl)) ?_
      generalize dz_N150_87 r7 ((((s.2.1 23 0) + a1) + ((s.2.1 23 5) &&& 1)) &&& 255) = r8
      refine q_RT_let ?_
      show q_RT _ _ _ (69, [(2, .int (((s.2.1 23 0) + a1) + ((s.2.1 23 5) &&& 1))), (0, .ref 87), (1, .int a1)], [.int r8.2, .ref 87], (q_kP r8.1 c n)) _ _
      refine q_RT_seg (g2 := (72, [(2, .int (((s.2.1 23 0) + a1) + ((s.2.1 23 5) &&& 1))), (0, .ref 87), (1, .int a1)], [], (q_kP (q_sI r8.1 23 0 r8.2) c n))) 1 (fun _ _ => rfl) ?_
      exact q_RT_ret rfl rfl rfl
    | false =>
      refine q_RT_cF ?_
      refine q_RT_rsT (g2 := (55, [(2, .int (((s.2.1 23 0) + a1) + ((s.2.1 23 5) &&& 1))), (0, .ref 87), (1, .int a1)], [.int 1, .ref 87], (q_kP r6 c n))) rfl rfl (q_d_geF h3) ?_
      refine q_RT_seg (g2 := (56, [(2, .int (((s.2.1 23 0) + a1) + ((s.2.1 23 5) &&& 1))), (0, .ref 87), (1, .int a1)], [.int 0, .int 1, .ref 87], (q_kP r6 c n))) 1 (fun _ _ => rfl) ?_
      refine q_RT_call (v := none) (h2 := (q_kP (dz_N149_87_f r6 1) c n)) rfl rfl ((dzt_P149_87_f r6 c n 1).le (Nat.le_of_ble_eq_true rfl)) ?_
      generalize dz_N149_87_f r6 1 = r9
      refine q_RT_let ?_
      show q_RT _ _ _ (59, [(2, .int (((s.2.1 23 0) + a1) + ((s.2.1 23 5) &&& 1))), (0, .ref 87), (1, .int a1)], [], (q_kP r9 c n)) _ _
      refine q_RT_seg (g2 := (66, [(2, .int (((s.2.1 23 0) + a1) + ((s.2.1 23 5) &&& 1))), (0, .ref 87), (1, .int a1)], [.int ((((s.2.1 23 0) + a1) + ((s.2.1 23 5) &&& 1)) &&& 255), .ref 87, .ref 87], (q_kP r9 c n))) 5 (fun _ _ => rfl) ?_
      refine q_RT_call (v := (some (.int (dz_N150_87 r9 ((((s.2.1 23 0) + a1) + ((s.2.1 23 5) &&& 1)) &&& 255)).2))) (h2 := (q_kP (dz_N150_87 r9 ((((s.2.1 23 0) + a1) + ((s.2.1 23 5) &&& 1)) &&& 255)).1 c n)) rfl rfl ((dzt_P150_87 r9 c n ((((s.2.1 23 0) + a1) + ((s.2.1 23 5) &&& 1)) &&& 255)).le (Nat.le_of_ble_eq_true rfl)) ?_
      generalize dz_N150_87 r9 ((((s.2.1 23 0) + a1) + ((s.2.1 23 5) &&& 1)) &&& 255) = r10
      refine q_RT_let ?_
      show q_RT _ _ _ (69, [(2, .int (((s.2.1 23 0) + a1) + ((s.2.1 23 5) &&& 1))), (0, .ref 87), (1, .int a1)], [.int r10.2, .ref 87], (q_kP r10.1 c n)) _ _
      refine q_RT_seg (g2 := (72, [(2, .int (((s.2.1 23 0) + a1) + ((s.2.1 23 5) &&& 1))), (0, .ref 87), (1, .int a1)], [], (q_kP (q_sI r10.1 23 0 r10.2) c n))) 1 (fun _ _ => rfl) ?_
      exact q_RT_ret rfl rfl rfl
theorem q_x154p (c n : Nat) (L : q_L) (r : q_S × Int32) : ∀ ex m, q_loop ex (q_mtab q_TB0 153) (m + 1) (107, L, [.int r.2, .ref 87], q_kP r.1 c n) = q_loop ex (q_mtab q_TB0 153) m (110, L, [], q_kP (q_sI r.1 23 0 r.2) c n) := fun _ _ => rfl
set_option maxHeartbeats 4000000 in
theorem dzt_P154_87_64 (c n : Nat) (s : q_S) (v3 : Int32) (v4 : Int32) : q_RT q_TB0 2 153 (64, [(0, .ref 87), (3, .int v3), (4, .int v4)], [], (q_kP s c n)) (q_oSP c n) (dz_N154_87_64 s v3 v4) := by
  unfold dz_N154_87_64
  refine q_RT_seg (g2 := (70, [(0, .ref 87), (3, .int v3), (4, .int v4)], [.int 9, .int v4, .int 1, .ref 87], (q_kP s c n))) 4 (fun _ _ => rfl) ?_
  cases h3 : decide (9 < v4) with
  | true =>
    refine q_RT_cT ?_
    refine q_RT_rsF (g2 := (73, [(0, .ref 87), (3, .int v3), (4, .int v4)], [.int 1, .ref 87], (q_kP s c n))) rfl rfl (q_d_geT h3) ?_
    refine q_RT_seg (g2 := (78, [(0, .ref 87), (3, .int v3), (4, .int v4)], [.int 1, .int 1, .ref 87], (q_kP s c n))) 2 (fun _ _ => rfl) ?_
    refine q_RT_call (v := none) (h2 := (q_kP (dz_N149_87_t s 1) c n)) rfl rfl ((dzt_P149_87_t s c n 1).le (Nat.le_of_ble_eq_true rfl)) ?_
    generalize dz_N149_87_t s 1 = r3
    refine q_RT_let ?_
    show q_RT _ _ _ (81, [(0, .ref 87), (3, .int v3), (4, .int v4)], [], (q_kP r3 c n)) _ _
    refine q_RT_seg (g2 := (85, [(0, .ref 87), (3, .int v3), (4, .int v4)], [.int 9, .int v4], (q_kP r3 c n))) 2 (fun _ _ => rfl) ?_
    refine q_RT_rsF (g2 := (88, [(0, .ref 87), (3, .int v3), (4, .int v4)], [], (q_kP r3 c n))) rfl rfl (q_d_geT h3) ?_
    refine q_RT_seg (g2 := (104, [(4, .int (v4 + (-10))), (0, .ref 87), (3, .int v3)], [.int (((16 * (v4 + (-10))) + v3) &&& 255), .ref 87, .ref 87], (q_kP r3 c n))) 10 (fun _ _ => rfl) ?_
    refine q_RT_call (v := (some (.int (dz_N150_87 r3 (((16 * (v4 + (-10))) + v3) &&& 255)).2))) (h2 := (q_kP (dz_N150_87 r3 (((16 * (v4 + (-10))) + v3) &&& 255)).1 c n)) rfl rfl ((dzt_P150_87 r3 c n (((16 * (v4 + (-10))) + v3) &&& 255)).le (Nat.le_of_ble_eq_true rfl)) ?_
    generalize dz_N150_87 r3 (((16 * (v4 + (-10))) + v3) &&& 255) = r4
    refine q_RT_let ?_
    show q_RT _ _ _ (107, [(4, .int (v4 + (-10))), (0, .ref 87), (3, .int v3)], [.int r4.2, .ref 87], (q_kP r4.1 c n)) _ _
    refine q_RT_seg 1 (q_x154p c n [(4, .int (v4 + (-10))), (0, .ref 87), (3, .int v3)] r4) ?_
    exact q_RT_ret rfl rfl rfl
  | false =>
    refine q_RT_cF ?_
    refine q_RT_rsT (g2 := (77, [(0, .ref 87), (3, .int v3), (4, .int v4)], [.int 1, .ref 87], (q_kP s c n))) rfl rfl (q_d_geF h3) ?_
    refine q_RT_seg (g2 := (78, [(0, .ref 87), (3, .int v3), (4, .int v4)], [.int 0, .int 1, .ref 87], (q_kP s c n))) 1 (fun _ _ => rfl) ?_
    refine q_RT_call (v := none) (h2 := (q_kP (dz_N149_87_f s 1) c n)) rfl rfl ((dzt_P149_87_f s c n 1).le (Nat.le_of_ble_eq_true rfl)) ?_
    generalize dz_N149_87_f s 1 = r5
    refine q_RT_let ?_
    show q_RT _ _ _ (81, [(0, .ref 87), (3, .int v3), (4, .int v4)], [], (q_kP r5 c n)) _ _
    refine q_RT_seg (g2 := (85, [(0, .ref 87), (3, .int v3), (4, .int v4)], [.int 9, .int v4], (q_kP r5 c n))) 2 (fun _ _ => rfl) ?_
    refine q_RT_rsT (g2 := (91, [(0, .ref 87), (3, .int v3), (4, .int v4)], [], (q_kP r5 c n))) rfl rfl (q_d_geF h3) ?_
    refine q_RT_seg (g2 := (104, [(0, .ref 87), (3, .int v3), (4, .int v4)], [.int (((16 * v4) + v3) &&& 255), .ref 87, .ref 87], (q_kP r5 c n))) 9 (fun _ _ => rfl) ?_
    refine q_RT_call (v := (some (.int (dz_N150_87 r5 (((16 * v4) + v3) &&& 255)).2))) (h2 := (q_kP (dz_N150_87 r5 (((16 * v4) + v3) &&& 255)).1 c n)) rfl rfl ((dzt_P150_87 r5 c n (((16 * v4) + v3) &&& 255)).le (Nat.le_of_ble_eq_true rfl)) ?_
    generalize dz_N150_87 r5 (((16 * v4) + v3) &&& 255) = r6
    refine q_RT_let ?_
    show q_RT _ _ _ (107, [(0, .ref 87), (3, .int v3), (4, .int v4)], [.int r6.2, .ref 87], (q_kP r6.1 c n)) _ _
    refine q_RT_seg (g2 := (110, [(0, .ref 87), (3, .int v3), (4, .int v4)], [], (q_kP (q_sI r6.1 23 0 r6.2) c n))) 1 (fun _ _ => rfl) ?_
    exact q_RT_ret rfl rfl rfl
set_option maxHeartbeats 4000000 in
theorem dzt_P154_87 (s : q_S) (c n : Nat) (a1 : Int32) : q_Ca q_TB0 3 153 [.ref 87, .int a1] (q_kP s c n) ((q_oSP c n) (dz_N154_87 s a1)) := by
  refine q_CaT_of (φ := (q_oSP c n)) (Nat.le_of_ble_eq_true rfl) ?_
  unfold dz_N154_87
  refine q_RT_seg (g2 := (4, [(0, .ref 87), (1, .int a1)], [.int (s.2.1 23 5)], (q_kP s c n))) 2 (fun _ _ => rfl) ?_
  refine q_RT_seg (g2 := (11, [(2, .int ((s.2.1 23 5) &&& 1)), (0, .ref 87), (1, .int a1)], [.int (s.2.1 23 0)], (q_kP s c n))) 5 (fun _ _ => rfl) ?_
  refine q_RT_seg (g2 := (21, [(2, .int ((s.2.1 23 5) &&& 1)), (0, .ref 87), (1, .int a1)], [.int ((((s.2.1 23 0) - (s.2.1 23 0) / 16 * 16) + (a1 - a1 / 16 * 16)) + ((s.2.1 23 5) &&& 1))], (q_kP s c n))) 8 (fun _ _ => rfl) ?_
  generalize ((((s.2.1 23 0) - (s.2.1 23 0) / 16 * 16) + (a1 - a1 / 16 * 16)) + ((s.2.1 23 5) &&& 1)) = x1
  refine q_RT_let ?_
  show q_RT _ _ _ (21, [(2, .int ((s.2.1 23 5) &&& 1)), (0, .ref 87), (1, .int a1)], [.int x1], (q_kP s c n)) _ _
  refine q_RT_seg (g2 := (26, [(3, .int x1), (2, .int ((s.2.1 23 5) &&& 1)), (0, .ref 87), (1, .int a1)], [.int (s.2.1 23 0)], (q_kP s c n))) 3 (fun _ _ => rfl) ?_
  refine q_RT_seg (g2 := (38, [(4, .int (((s.2.1 23 0) / 16) + (a1 / 16))), (3, .int x1), (2, .int ((s.2.1 23 5) &&& 1)), (0, .ref 87), (1, .int a1)], [.int a1, .ref 87], (q_kP s c n))) 9 (fun _ _ => rfl) ?_
  refine q_RT_call (v := none) (h2 := (q_kP (dz_N156_87 s a1) c n)) rfl rfl ((dzt_P156_87 s c n a1).le (Nat.le_of_ble_eq_true rfl)) ?_
  generalize dz_N156_87 s a1 = r2
  refine q_RT_let ?_
  show q_RT _ _ _ (41, [(4, .int (((s.2.1 23 0) / 16) + (a1 / 16))), (3, .int x1), (2, .int ((s.2.1 23 5) &&& 1)), (0, .ref 87), (1, .int a1)], [], (q_kP r2 c n)) _ _
  refine q_RT_seg (g2 := (45, [(4, .int (((s.2.1 23 0) / 16) + (a1 / 16))), (3, .int x1), (2, .int ((s.2.1 23 5) &&& 1)), (0, .ref 87), (1, .int a1)], [.int (r2.2.1 23 5)], (q_kP r2 c n))) 2 (fun _ _ => rfl) ?_
  refine q_RT_seg (g2 := (48, [(4, .int (((s.2.1 23 0) / 16) + (a1 / 16))), (3, .int x1), (2, .int ((s.2.1 23 5) &&& 1)), (0, .ref 87), (1, .int a1)], [.int ((r2.2.1 23 5) &&& 8)], (q_kP r2 c n))) 2 (fun _ _ => rfl) ?_
  cases h1 : decide ((r2.2.1 23 5) &&& 8 = 0) with
  | true =>
    refine q_RT_cT ?_
    refine q_RT_rsF (g2 := (51, [(4, .int (((s.2.1 23 0) / 16) + (a1 / 16))), (3, .int x1), (2, .int ((s.2.1 23 5) &&& 1)), (0, .ref 87), (1, .int a1)], [], (q_kP r2 c n))) rfl rfl (q_d_neT h1) ?_
    exact q_RT_ret rfl rfl rfl
  | false =>
    refine q_RT_cF ?_
    refine q_RT_rsT (g2 := (52, [(4, .int (((s.2.1 23 0) / 16) + (a1 / 16))), (3, .int x1), (2, .int ((s.2.1 23 5) &&& 1)), (0, .ref 87), (1, .int a1)], [], (q_kP r2 c n))) rfl rfl (q_d_neF h1) ?_
    refine q_RT_seg (g2 := (55, [(4, .int (((s.2.1 23 0) / 16) + (a1 / 16))), (3, .int x1), (2, .int ((s.2.1 23 5) &&& 1)), (0, .ref 87), (1, .int a1)], [.int 9, .int x1], (q_kP r2 c n))) 2 (fun _ _ => rfl) ?_
    cases h2 : decide (9 < x1) with
    | true =>
      refine q_RT_cT ?_
      refine q_RT_rsF (g2 := (58, [(4, .int (((s.2.1 23 0) / 16) + (a1 / 16))), (3, .int x1), (2, .int ((s.2.1 23 5) &&& 1)), (0, .ref 87), (1, .int a1)], [], (q_kP r2 c n))) rfl rfl (q_d_geT h2) ?_
      refine q_RT_seg (g2 := (64, [(4, .int ((((s.2.1 23 0) / 16) + (a1 / 16)) + 1)), (3, .int (x1 + (-10))), (2, .int ((s.2.1 23 5) &&& 1)), (0, .ref 87), (1, .int a1)], [], (q_kP r2 c n))) 2 (fun _ _ => rfl) ?_
      exact q_RT_xt (q_xt_mk (q_mn1 3 rfl (q_mn1 1 rfl (q_mn1 0 rfl q_mn0))) rfl) (dzt_P154_87_64 c n r2 (x1 + (-10)) ((((s.2.1 23 0) / 16) + (a1 / 16)) + 1))
    | false =>
      refine q_RT_cF ?_
      refine q_RT_rsT (g2 := (64, [(4, .int (((s.2.1 23 0) / 16) + (a1 / 16))), (3, .int x1), (2, .int ((s.2.1 23 5) &&& 1)), (0, .ref 87), (1, .int a1)], [], (q_kP r2 c n))) rfl rfl (q_d_geF h2) ?_
      exact q_RT_xt (q_xt_mk (q_mn1 3 rfl (q_mn1 1 rfl (q_mn1 0 rfl q_mn0))) rfl) (dzt_P154_87_64 c n r2 x1 (((s.2.1 23 0) / 16) + (a1 / 16)))
set_option maxHeartbeats 4000000 in
theorem dzt_P155_87_68 (c n : Nat) (s : q_S) (v3 : Int32) (v4 : Int32) : q_RT q_TB0 2 154 (68, [(0, .ref 87), (3, .int v3), (4, .int v4)], [], (q_kP s c n)) (q_oSP c n) (dz_N155_87_68 s v3 v4) := by
  unfold dz_N155_87_68
  refine q_RT_seg (g2 := (72, [(0, .ref 87), (3, .int v3), (4, .int v4)], [.int v4, .int 1, .ref 87], (q_kP s c n))) 3 (fun _ _ => rfl) ?_
  cases h3 : decide (v4 < 0) with
  | true =>
    refine q_RT_cT ?_
    refine q_RT_rsT (g2 := (79, [(0, .ref 87), (3, .int v3), (4, .int v4)], [.int 1, .ref 87], (q_kP s c n))) rfl rfl h3 ?_
    refine q_RT_seg (g2 := (80, [(0, .ref 87), (3, .int v3), (4, .int v4)], [.int 0, .int 1, .ref 87], (q_kP s c n))) 1 (fun _ _ => rfl) ?_
    refine q_RT_call (v := none) (h2 := (q_kP (dz_N149_87_f s 1) c n)) rfl rfl ((dzt_P149_87_f s c n 1).le (Nat.le_of_ble_eq_true rfl)) ?_
    generalize dz_N149_87_f s 1 = r3
    refine q_RT_let ?_
    show q_RT _ _ _ (83, [(0, .ref 87), (3, .int v3), (4, .int v4)], [], (q_kP r3 c n)) _ _
    refine q_RT_seg (g2 := (85, [(0, .ref 87), (3, .int v3), (4, .int v4)], [.int v4], (q_kP r3 c n))) 1 (fun _ _ => rfl) ?_
    refine q_RT_rsF (g2 := (88, [(0, .ref 87), (3, .int v3), (4, .int v4)], [], (q_kP r3 c n))) rfl rfl (q_d_geT h3) ?_
    refine q_RT_seg (g2 := (104, [(4, .int (v4 + 10)), (0, .ref 87), (3, .int v3)], [.int (((16 * (v4 + 10)) + v3) &&& 255), .ref 87, .ref 87], (q_kP r3 c n))) 10 (fun _ _ => rfl) ?_
    refine q_RT_call (v := (some (.int (dz_N150_87 r3 (((16 * (v4 + 10)) + v3) &&& 255)).2))) (h2 := (q_kP (dz_N150_87 r3 (((16 * (v4 + 10)) + v3) &&& 255)).1 c n)) rfl rfl ((dzt_P150_87 r3 c n (((16 * (v4 + 10)) + v3) &&& 255)).le (Nat.le_of_ble_eq_true rfl)) ?_
    generalize dz_N150_87 r3 (((16 * (v4 + 10)) + v3) &&& 255) = r4
    refine q_RT_let ?_
    show q_RT _ _ _ (107, [(4, .int (v4 + 10)), (0, .ref 87), (3, .int v3)], [.int r4.2, .ref 87], (q_kP r4.1 c n)) _ _
    refine q_RT_seg (g2 := (110, [(4, .int (v4 + 10)), (0, .ref 87), (3, .int v3)], [], (q_kP (q_sI r4.1 23 0 r4.2) c n))) 1 (fun _ _ => rfl) ?_
    exact q_RT_ret rfl rfl rfl
  | false =>
    refine q_RT_cF ?_
    refine q_RT_rsF (g2 := (75, [(0, .ref 87), (3, .int v3), (4, .int v4)], [.int 1, .ref 87], (q_kP s c n))) rfl rfl h3 ?_
    refine q_RT_seg (g2 := (80, [(0, .ref 87), (3, .int v3), (4, .int v4)], [.int 1, .int 1, .ref 87], (q_kP s c n))) 2 (fun _ _ => rfl) ?_
    refine q_RT_call (v := none) (h2 := (q_kP (dz_N149_87_t s 1) c n)) rfl rfl ((dzt_P149_87_t s c n 1).le (Nat.le_of_ble_eq_true rfl)) ?_
    generalize dz_N149_87_t s 1 = r5
    refine q_RT_let ?_
    show q_RT _ _ _ (83, [(0, .ref 87), (3, .int v3), (4, .int v4)], [], (q_kP r5 c n)) _ _
    refine q_RT_seg (g2 := (85, [(0, .ref 87), (3, .int v3), (4, .int v4)], [.int v4], (q_kP r5 c n))) 1 (fun _ _ => rfl) ?_
    refine q_RT_rsT (g2 := (91, [(0, .ref 87), (3, .int v3), (4, .int v4)], [], (q_kP r5 c n))) rfl rfl (q_d_geF h3) ?_
    refine q_RT_seg (g2 := (104, [(0, .ref 87), (3, .int v3), (4, .int v4)], [.int (((16 * v4) + v3) &&& 255), .ref 87, .ref 87], (q_kP r5 c n))) 9 (fun _ _ => rfl) ?_
    refine q_RT_call (v := (some (.int (dz_N150_87 r5 (((16 * v4) + v3) &&& 255)).2))) (h2 := (q_kP (dz_N150_87 r5 (((16 * v4) + v3) &&& 255)).1 c n)) rfl rfl ((dzt_P150_87 r5 c n (((16 * v4) + v3) &&& 255)).le (Nat.le_of_ble_eq_true rfl)) ?_
    generalize dz_N150_87 r5 (((16 * v4) + v3) &&& 255) = r6
    refine q_RT_let ?_
    show q_RT _ _ _ (107, [(0, .ref 87), (3, .int v3), (4, .int v4)], [.int r6.2, .ref 87], (q_kP r6.1 c n)) _ _
    refine q_RT_seg (g2 := (110, [(0, .ref 87), (3, .int v3), (4, .int v4)], [], (q_kP (q_sI r6.1 23 0 r6.2) c n))) 1 (fun _ _ => rfl) ?_
    exact q_RT_ret rfl rfl rfl
set_option maxHeartbeats 4000000 in
theorem dzt_P155_87 (s : q_S) (c n : Nat) (a1 : Int32) : q_Ca q_TB0 3 154 [.ref 87, .int a1] (q_kP s c n) ((q_oSP c n) (dz_N155_87 s a1)) := by
  refine q_CaT_of (φ := (q_oSP c n)) (Nat.le_of_ble_eq_true rfl) ?_
  unfold dz_N155_87
  refine q_RT_seg (g2 := (4, [(0, .ref 87), (1, .int a1)], [.int (s.2.1 23 5)], (q_kP s c n))) 2 (fun _ _ => rfl) ?_
  refine q_RT_seg (g2 := (11, [(2, .int ((s.2.1 23 5) &&& 1)), (0, .ref 87), (1, .int a1)], [.int (s.2.1 23 0)], (q_kP s c n))) 5 (fun _ _ => rfl) ?_
  refine q_RT_seg (g2 := (23, [(2, .int ((s.2.1 23 5) &&& 1)), (0, .ref 87), (1, .int a1)], [.int (((((s.2.1 23 0) - (s.2.1 23 0) / 16 * 16) - (a1 - a1 / 16 * 16)) - 1) + ((s.2.1 23 5) &&& 1))], (q_kP s c n))) 10 (fun _ _ => rfl) ?_
  generalize (((((s.2.1 23 0) - (s.2.1 23 0) / 16 * 16) - (a1 - a1 / 16 * 16)) - 1) + ((s.2.1 23 5) &&& 1)) = x1
  refine q_RT_let ?_
  show q_RT _ _ _ (23, [(2, .int ((s.2.1 23 5) &&& 1)), (0, .ref 87), (1, .int a1)], [.int x1], (q_kP s c n)) _ _
  refine q_RT_seg (g2 := (28, [(3, .int x1), (2, .int ((s.2.1 23 5) &&& 1)), (0, .ref 87), (1, .int a1)], [.int (s.2.1 23 0)], (q_kP s c n))) 3 (fun _ _ => rfl) ?_
  refine q_RT_seg (g2 := (44, [(4, .int (((s.2.1 23 0) / 16) - (a1 / 16))), (3, .int x1), (2, .int ((s.2.1 23 5) &&& 1)), (0, .ref 87), (1, .int a1)], [.int ((255 : Int32) - a1), .ref 87], (q_kP s c n))) 11 (fun _ _ => rfl) ?_
  refine q_RT_call (v := none) (h2 := (q_kP (dz_N156_87 s ((255 : Int32) - a1)) c n)) rfl rfl ((dzt_P156_87 s c n ((255 : Int32) - a1)).le (Nat.le_of_ble_eq_true rfl)) ?_
  generalize dz_N156_87 s ((255 : Int32) - a1) = r2
  refine q_RT_let ?_
  show q_RT _ _ _ (47, [(4, .int (((s.2.1 23 0) / 16) - (a1 / 16))), (3, .int x1), (2, .int ((s.2.1 23 5) &&& 1)), (0, .ref 87), (1, .int a1)], [], (q_kP r2 c n)) _ _
  refine q_RT_seg (g2 := (51, [(4, .int (((s.2.1 23 0) / 16) - (a1 / 16))), (3, .int x1), (2, .int ((s.2.1 23 5) &&& 1)), (0, .ref 87), (1, .int a1)], [.int (r2.2.1 23 5)], (q_kP r2 c n))) 2 (fun _ _ => rfl) ?_
  refine q_RT_seg (g2 := (54, [(4, .int (((s.2.1 23 0) / 16) - (a1 / 16))), (3, .int x1), (2, .int ((s.2.1 23 5) &&& 1)), (0, .ref 87), (1, .int a1)], [.int ((r2.2.1 23 5) &&& 8)], (q_kP r2 c n))) 2 (fun _ _ => rfl) ?_
  cases h1 : decide ((r2.2.1 23 5) &&& 8 = 0) with
  | true =>
    refine q_RT_cT ?_
    refine q_RT_rsF (g2 := (57, [(4, .int (((s.2.1 23 0) / 16) - (a1 / 16))), (3, .int x1), (2, .int ((s.2.1 23 5) &&& 1)), (0, .ref 87), (1, .int a1)], [], (q_kP r2 c n))) rfl rfl (q_d_neT h1) ?_
    exact q_RT_ret rfl rfl rfl
  | false =>
    refine q_RT_cF ?_
    refine q_RT_rsT (g2 := (58, [(4, .int (((s.2.1 23 0) / 16) - (a1 / 16))), (3, .int x1), (2, .int ((s.2.1 23 5) &&& 1)), (0, .ref 87), (1, .int a1)], [], (q_kP r2 c n))) rfl rfl (q_d_neF h1) ?_
    refine q_RT_seg (g2 := (59, [(4, .int (((s.2.1 23 0) / 16) - (a1 / 16))), (3, .int x1), (2, .int ((s.2.1 23 5) &&& 1)), (0, .ref 87), (1, .int a1)], [.int x1], (q_kP r2 c n))) 1 (fun _ _ => rfl) ?_
    cases h2 : decide (x1 < 0) with
    | true =>
      refine q_RT_cT ?_
      refine q_RT_rsF (g2 := (62, [(4, .int (((s.2.1 23 0) / 16) - (a1 / 16))), (3, .int x1), (2, .int ((s.2.1 23 5) &&& 1)), (0, .ref 87), (1, .int a1)], [], (q_kP r2 c n))) rfl rfl (q_d_geT h2) ?_
      refine q_RT_seg (g2 := (68, [(4, .int ((((s.2.1 23 0) / 16) - (a1 / 16)) + (-1))), (3, .int (x1 + 10)), (2, .int ((s.2.1 23 5) &&& 1)), (0, .ref 87), (1, .int a1)], [], (q_kP r2 c n))) 2 (fun _ _ => rfl) ?_
      exact q_RT_xt (q_xt_mk (q_mn1 3 rfl (q_mn1 1 rfl (q_mn1 0 rfl q_mn0))) rfl) (dzt_P155_87_68 c n r2 (x1 + 10) ((((s.2.1 23 0) / 16) - (a1 / 16)) + (-1)))
    | false =>
      refine q_RT_cF ?_
      refine q_RT_rsT (g2 := (68, [(4, .int (((s.2.1 23 0) / 16) - (a1 / 16))), (3, .int x1), (2, .int ((s.2.1 23 5) &&& 1)), (0, .ref 87), (1, .int a1)], [], (q_kP r2 c n))) rfl rfl (q_d_geF h2) ?_
      exact q_RT_xt (q_xt_mk (q_mn1 3 rfl (q_mn1 1 rfl (q_mn1 0 rfl q_mn0))) rfl) (dzt_P155_87_68 c n r2 x1 (((s.2.1 23 0) / 16) - (a1 / 16)))
set_option maxHeartbeats 4000000 in
theorem dzt_P151_87 (s : q_S) (c n : Nat) (a1 : Int32) (a2 : Int32) : q_Ca q_TB0 2 150 [.ref 87, .int a1, .int a2] (q_kP s c n) ((q_oSP c n) (dz_N151_87 s a1 a2)) := by
  refine q_CaT_of (φ := (q_oSP c n)) (Nat.le_of_ble_eq_true rfl) ?_
  unfold dz_N151_87
  refine q_RT_seg (g2 := (4, [(0, .ref 87), (1, .int a1), (2, .int a2)], [.int a2, .int a1, .int 1, .ref 87], (q_kP s c n))) 4 (fun _ _ => rfl) ?_
  cases h1 : decide (a1 < a2) with
  | true =>
    refine q_RT_cT ?_
    refine q_RT_rsT (g2 := (11, [(0, .ref 87), (1, .int a1), (2, .int a2)], [.int 1, .ref 87], (q_kP s c n))) rfl rfl h1 ?_
    refine q_RT_seg (g2 := (12, [(0, .ref 87), (1, .int a1), (2, .int a2)], [.int 0, .int 1, .ref 87], (q_kP s c n))) 1 (fun _ _ => rfl) ?_
    refine q_RT_call (v := none) (h2 := (q_kP (dz_N149_87_f s 1) c n)) rfl rfl ((dzt_P149_87_f s c n 1).le (Nat.le_of_ble_eq_true rfl)) ?_
    generalize dz_N149_87_f s 1 = r1
    refine q_RT_let ?_
    show q_RT _ _ _ (15, [(0, .ref 87), (1, .int a1), (2, .int a2)], [], (q_kP r1 c n)) _ _
    refine q_RT_seg (g2 := (23, [(0, .ref 87), (1, .int a1), (2, .int a2)], [.int ((a1 - a2) &&& 255), .ref 87], (q_kP r1 c n))) 6 (fun _ _ => rfl) ?_
    refine q_RT_call (v := (some (.int (dz_N150_87 r1 ((a1 - a2) &&& 255)).2))) (h2 := (q_kP (dz_N150_87 r1 ((a1 - a2) &&& 255)).1 c n)) rfl rfl ((dzt_P150_87 r1 c n ((a1 - a2) &&& 255)).le (Nat.le_of_ble_eq_true rfl)) ?_
    generalize dz_N150_87 r1 ((a1 - a2) &&& 255) = r2
    refine q_RT_let ?_
    show q_RT _ _ _ (26, [(0, .ref 87), (1, .int a1), (2, .int a2)], [.int r2.2], (q_kP r2.1 c n)) _ _
    refine q_RT_seg (g2 := (27, [(0, .ref 87), (1, .int a1), (2, .int a2)], [], (q_kP r2.1 c n))) 1 (fun _ _ => rfl) ?_
    exact q_RT_ret rfl rfl rfl
  | false =>
    refine q_RT_cF ?_
    refine q_RT_rsF (g2 := (7, [(0, .ref 87), (1, .int a1), (2, .int a2)], [.int 1, .ref 87], (q_kP s c n))) rfl rfl h1 ?_
    refine q_RT_seg (g2 := (12, [(0, .ref 87), (1, .int a1), (2, .int a2)], [.int 1, .int 1, .ref 87], (q_kP s c n))) 2 (fun _ _ => rfl) ?_
    refine q_RT_call (v := none) (h2 := (q_kP (dz_N149_87_t s 1) c n)) rfl rfl ((dzt_P149_87_t s c n 1).le (Nat.le_of_ble_eq_true rfl)) ?_
    generalize dz_N149_87_t s 1 = r3
    refine q_RT_let ?_
    show q_RT _ _ _ (15, [(0, .ref 87), (1, .int a1), (2, .int a2)], [], (q_kP r3 c n)) _ _
    refine q_RT_seg (g2 := (23, [(0, .ref 87), (1, .int a1), (2, .int a2)], [.int ((a1 - a2) &&& 255), .ref 87], (q_kP r3 c n))) 6 (fun _ _ => rfl) ?_
    refine q_RT_call (v := (some (.int (dz_N150_87 r3 ((a1 - a2) &&& 255)).2))) (h2 := (q_kP (dz_N150_87 r3 ((a1 - a2) &&& 255)).1 c n)) rfl rfl ((dzt_P150_87 r3 c n ((a1 - a2) &&& 255)).le (Nat.le_of_ble_eq_true rfl)) ?_
    generalize dz_N150_87 r3 ((a1 - a2) &&& 255) = r4
    refine q_RT_let ?_
    show q_RT _ _ _ (26, [(0, .ref 87), (1, .int a1), (2, .int a2)], [.int r4.2], (q_kP r4.1 c n)) _ _
    refine q_RT_seg (g2 := (27, [(0, .ref 87), (1, .int a1), (2, .int a2)], [], (q_kP r4.1 c n))) 1 (fun _ _ => rfl) ?_
    exact q_RT_ret rfl rfl rfl
end
section
-- 57.vc
set_option maxHeartbeats 4000000 in
theorem dzt_P152_87 (s : q_S) (c n : Nat) (a1 : Int32) (a2 : Int32) : q_Ca q_TB0 4 151 [.ref 87, .int a1, .int a2] (q_kP s c n) ((q_oSP c n) (dz_N152_87 s a1 a2)) := by
  refine q_CaT_of (φ := (q_oSP c n)) (Nat.le_of_ble_eq_true rfl) ?_
  unfold dz_N152_87
  refine q_RT_seg (g2 := (1, [(0, .ref 87), (1, .int a1), (2, .int a2)], [.int a1], (q_kP s c n))) 1 (fun _ _ => rfl) ?_
  cases h1 : decide (a1 < 0) with
  | true =>
    refine q_RT_cT ?_
    refine q_RT_st1 (g2 := (316, [(0, .ref 87), (1, .int a1), (2, .int a2)], [], (q_kP s c n))) rfl (if_pos (Or.inl (Int32.lt_iff_toInt_lt.mp (of_decide_eq_true h1)))) ?_
    exact q_RT_ret rfl rfl rfl
  | false =>
    refine q_RT_cF ?_
    cases h2 : decide (20 < a1) with
    | true =>
      refine q_RT_cT ?_
      refine q_RT_st1 (g2 := (316, [(0, .ref 87), (1, .int a1), (2, .int a2)], [], (q_kP s c n))) rfl (if_pos (Or.inr (Int32.lt_iff_toInt_lt.mp (of_decide_eq_true h2)))) ?_
      exact q_RT_ret rfl rfl rfl
    | false =>
      refine q_RT_cF ?_
      cases h3 : decide (a1 = 0) with
      | true =>
        refine q_RT_cT ?_
        refine q_RT_st1 (g2 := (100, [(0, .ref 87), (1, .int a1), (2, .int a2)], [], (q_kP s c n))) rfl (by rw [of_decide_eq_true h3]; rfl) ?_
        refine q_RT_seg (g2 := (103, [(0, .ref 87), (1, .int a1), (2, .int a2)], [.int a2, .ref 87, .ref 87], (q_kP s c n))) 3 (fun _ _ => rfl) ?_
        refine q_RT_call (v := (some (.int (dz_N150_87 s a2).2))) (h2 := (q_kP (dz_N150_87 s a2).1 c n)) rfl rfl ((dzt_P150_87 s c n a2).le (Nat.le_of_ble_eq_true rfl)) ?_
        generalize dz_N150_87 s a2 = r1
        refine q_RT_let ?_
        show q_RT _ _ _ (106, [(0, .ref 87), (1, .int a1), (2, .int a2)], [.int r1.2, .ref 87], (q_kP r1.1 c n)) _ _
        refine q_RT_seg (g2 := (316, [(0, .ref 87), (1, .int a1), (2, .int a2)], [], (q_kP (q_sI r1.1 23 0 r1.2) c n))) 2 (fun _ _ => rfl) ?_
        exact q_RT_ret rfl rfl rfl
      | false =>
        refine q_RT_cF ?_
        cases h4 : decide (a1 = 1) with
        | true =>
          refine q_RT_cT ?_
          refine q_RT_st1 (g2 := (112, [(0, .ref 87), (1, .int a1), (2, .int a2)], [], (q_kP s c n))) rfl (by rw [of_decide_eq_true h4]; rfl) ?_
          refine q_RT_seg (g2 := (115, [(0, .ref 87), (1, .int a1), (2, .int a2)], [.int a2, .ref 87, .ref 87], (q_kP s c n))) 3 (fun _ _ => rfl) ?_
          refine q_RT_call (v := (some (.int (dz_N150_87 s a2).2))) (h2 := (q_kP (dz_N150_87 s a2).1 c n)) rfl rfl ((dzt_P150_87 s c n a2).le (Nat.le_of_ble_eq_true rfl)) ?_
          generalize dz_N150_87 s a2 = r2
          refine q_RT_let ?_
          show q_RT _ _ _ (118, [(0, .ref 87), (1, .int a1), (2, .int a2)], [.int r2.2, .ref 87], (q_kP r2.1 c n)) _ _
          refine q_RT_seg (g2 := (316, [(0, .ref 87), (1, .int a1), (2, .int a2)], [], (q_kP (q_sI r2.1 23 1 r2.2) c n))) 2 (fun _ _ => rfl) ?_
          exact q_RT_ret rfl rfl rfl
        | false =>
          refine q_RT_cF ?_
          cases h5 : decide (a1 = 2) with
          | true =>
            refine q_RT_cT ?_
            refine q_RT_st1 (g2 := (124, [(0, .ref 87), (1, .int a1), (2, .int a2)], [], (q_kP s c n))) rfl (by rw [of_decide_eq_true h5]; rfl) ?_
            refine q_RT_seg (g2 := (127, [(0, .ref 87), (1, .int a1), (2, .int a2)], [.int a2, .ref 87, .ref 87], (q_kP s c n))) 3 (fun _ _ => rfl) ?_
            refine q_RT_call (v := (some (.int (dz_N150_87 s a2).2))) (h2 := (q_kP (dz_N150_87 s a2).1 c n)) rfl rfl ((dzt_P150_87 s c n a2).le (Nat.le_of_ble_eq_true rfl)) ?_
            generalize dz_N150_87 s a2 = r3
            refine q_RT_let ?_
            show q_RT _ _ _ (130, [(0, .ref 87), (1, .int a1), (2, .int a2)], [.int r3.2, .ref 87], (q_kP r3.1 c n)) _ _
            refine q_RT_seg (g2 := (316, [(0, .ref 87), (1, .int a1), (2, .int a2)], [], (q_kP (q_sI r3.1 23 2 r3.2) c n))) 2 (fun _ _ => rfl) ?_
            exact q_RT_ret rfl rfl rfl
          | false =>
            refine q_RT_cF ?_
            cases h6 : decide (a1 = 3) with
            | true =>
              refine q_RT_cT ?_
              refine q_RT_st1 (g2 := (316, [(0, .ref 87), (1, .int a1), (2, .int a2)], [], (q_kP s c n))) rfl (by rw [of_decide_eq_true h6]; rfl) ?_
              exact q_RT_ret rfl rfl rfl
            | false =>
              refine q_RT_cF ?_
              cases h7 : decide (a1 = 4) with
              | true =>
                refine q_RT_cT ?_
                refine q_RT_st1 (g2 := (316, [(0, .ref 87), (1, .int a1), (2, .int a2)], [], (q_kP s c n))) rfl (by rw [of_decide_eq_true h7]; rfl) ?_
                exact q_RT_ret rfl rfl rfl
              | false =>
                refine q_RT_cF ?_
                cases h8 : decide (a1 = 5) with
                | true =>
                  refine q_RT_cT ?_
                  refine q_RT_st1 (g2 := (316, [(0, .ref 87), (1, .int a1), (2, .int a2)], [], (q_kP s c n))) rfl (by rw [of_decide_eq_true h8]; rfl) ?_
                  exact q_RT_ret rfl rfl rfl
                | false =>
                  refine q_RT_cF ?_
                  cases h9 : decide (a1 = 6) with
                  | true =>
                    refine q_RT_cT ?_
                    refine q_RT_st1 (g2 := (136, [(0, .ref 87), (1, .int a1), (2, .int a2)], [], (q_kP s c n))) rfl (by rw [of_decide_eq_true h9]; rfl) ?_
                    refine q_RT_seg (g2 := (138, [(0, .ref 87), (1, .int a1), (2, .int a2)], [.int a2, .ref 87], (q_kP s c n))) 2 (fun _ _ => rfl) ?_
                    refine q_RT_call (v := none) (h2 := (q_kP (dz_N154_87 s a2) c n)) rfl rfl ((dzt_P154_87 s c n a2).le (Nat.le_of_ble_eq_true rfl)) ?_
                    generalize dz_N154_87 s a2 = r4
                    refine q_RT_let ?_
                    show q_RT _ _ _ (141, [(0, .ref 87), (1, .int a1), (2, .int a2)], [], (q_kP r4 c n)) _ _
                    refine q_RT_seg (g2 := (316, [(0, .ref 87), (1, .int a1), (2, .int a2)], [], (q_kP r4 c n))) 1 (fun _ _ => rfl) ?_
                    exact q_RT_ret rfl rfl rfl
                  | false =>
                    refine q_RT_cF ?_
                    cases h10 : decide (a1 = 7) with
                    | true =>
                      refine q_RT_cT ?_
                      refine q_RT_st1 (g2 := (144, [(0, .ref 87), (1, .int a1), (2, .int a2)], [], (q_kP s c n))) rfl (by rw [of_decide_eq_true h10]; rfl) ?_
                      refine q_RT_seg (g2 := (146, [(0, .ref 87), (1, .int a1), (2, .int a2)], [.int a2, .ref 87], (q_kP s c n))) 2 (fun _ _ => rfl) ?_
                      refine q_RT_call (v := none) (h2 := (q_kP (dz_N155_87 s a2) c n)) rfl rfl ((dzt_P155_87 s c n a2).le (Nat.le_of_ble_eq_true rfl)) ?_
                      generalize dz_N155_87 s a2 = r5
                      refine q_RT_let ?_
                      show q_RT _ _ _ (149, [(0, .ref 87), (1, .int a1), (2, .int a2)], [], (q_kP r5 c n)) _ _
                      refine q_RT_seg (g2 := (316, [(0, .ref 87), (1, .int a1), (2, .int a2)], [], (q_kP r5 c n))) 1 (fun _ _ => rfl) ?_
                      exact q_RT_ret rfl rfl rfl
                    | false =>
                      refine q_RT_cF ?_
                      cases h11 : decide (a1 = 8) with
                      | true =>
                        refine q_RT_cT ?_
                        refine q_RT_st1 (g2 := (152, [(0, .ref 87), (1, .int a1), (2, .int a2)], [], (q_kP s c n))) rfl (by rw [of_decide_eq_true h11]; rfl) ?_
                        refine q_RT_seg (g2 := (158, [(0, .ref 87), (1, .int a1), (2, .int a2)], [.int (s.2.1 23 0), .ref 87, .ref 87], (q_kP s c n))) 4 (fun _ _ => rfl) ?_
                        refine q_RT_seg (g2 := (160, [(0, .ref 87), (1, .int a1), (2, .int a2)], [.int ((s.2.1 23 0) &&& a2), .ref 87, .ref 87], (q_kP s c n))) 2 (fun _ _ => rfl) ?_
                        refine q_RT_call (v := (some (.int (dz_N150_87 s ((s.2.1 23 0) &&& a2)).2))) (h2 := (q_kP (dz_N150_87 s ((s.2.1 23 0) &&& a2)).1 c n)) rfl rfl ((dzt_P150_87 s c n ((s.2.1 23 0) &&& a2)).le (Nat.le_of_ble_eq_true rfl)) ?_
                        generalize dz_N150_87 s ((s.2.1 23 0) &&& a2) = r6
                        refine q_RT_let ?_
                        show q_RT _ _ _ (163, [(0, .ref 87), (1, .int a1), (2, .int a2)], [.int r6.2, .ref 87], (q_kP r6.1 c n)) _ _
                        refine q_RT_seg (g2 := (316, [(0, .ref 87), (1, .int a1), (2, .int a2)], [], (q_kP (q_sI r6.1 23 0 r6.2) c n))) 2 (fun _ _ => rfl) ?_
                        exact q_RT_ret rfl rfl rfl
                      | false =>
                        refine q_RT_cF ?_
                        cases h12 : decide (a1 = 9) with
                        | true =>
                          refine q_RT_cT ?_
                          refine q_RT_st1 (g2 := (169, [(0, .ref 87), (1, .int a1), (2, .int a2)], [], (q_kP s c n))) rfl (by rw [of_decide_eq_true h12]; rfl) ?_
                          refine q_RT_seg (g2 := (175, [(0, .ref 87), (1, .int a1), (2, .int a2)], [.int (s.2.1 23 0), .ref 87, .ref 87], (q_kP s c n))) 4 (fun _ _ => rfl) ?_
                          refine q_RT_seg (g2 := (177, [(0, .ref 87), (1, .int a1), (2, .int a2)], [.int ((s.2.1 23 0) ||| a2), .ref 87, .ref 87], (q_kP s c n))) 2 (fun _ _ => rfl) ?_
                          refine q_RT_call (v := (some (.int (dz_N150_87 s ((s.2.1 23 0) ||| a2)).2))) (h2 := (q_kP (dz_N150_87 s ((s.2.1 23 0) ||| a2)).1 c n)) rfl rfl ((dzt_P150_87 s c n ((s.2.1 23 0) ||| a2)).le (Nat.le_of_ble_eq_true rfl)) ?_
                          generalize dz_N150_87 s ((s.2.1 23 0) ||| a2) = r7
                          refine q_RT_let ?_
                          show q_RT _ _ _ (180, [(0, .ref 87), (1, .int a1), (2, .int a2)], [.int r7.2, .ref 87], (q_kP r7.1 c n)) _ _
                          refine q_RT_seg (g2 := (316, [(0, .ref 87), (1, .int a1), (2, .int a2)], [], (q_kP (q_sI r7.1 23 0 r7.2) c n))) 2 (fun _ _ => rfl) ?_
                          exact q_RT_ret rfl rfl rfl
                        | false =>
                          refine q_RT_cF ?_
                          cases h13 : decide (a1 = 10) with
                          | true =>
                            refine q_RT_cT ?_
                            refine q_RT_st1 (g2 := (186, [(0, .ref 87), (1, .int a1), (2, .int a2)], [], (q_kP s c n))) rfl (by rw [of_decide_eq_true h13]; rfl) ?_
                            refine q_RT_seg (g2 := (192, [(0, .ref 87), (1, .int a1), (2, .int a2)], [.int (s.2.1 23 0), .ref 87, .ref 87], (q_kP s c n))) 4 (fun _ _ => rfl) ?_
                            refine q_RT_seg (g2 := (194, [(0, .ref 87), (1, .int a1), (2, .int a2)], [.int ((s.2.1 23 0) ^^^ a2), .ref 87, .ref 87], (q_kP s c n))) 2 (fun _ _ => rfl) ?_
                            refine q_RT_call (v := (some (.int (dz_N150_87 s ((s.2.1 23 0) ^^^ a2)).2))) (h2 := (q_kP (dz_N150_87 s ((s.2.1 23 0) ^^^ a2)).1 c n)) rfl rfl ((dzt_P150_87 s c n ((s.2.1 23 0) ^^^ a2)).le (Nat.le_of_ble_eq_true rfl)) ?_
                            generalize dz_N150_87 s ((s.2.1 23 0) ^^^ a2) = r8
                            refine q_RT_let ?_
                            show q_RT _ _ _ (197, [(0, .ref 87), (1, .int a1), (2, .int a2)], [.int r8.2, .ref 87], (q_kP r8.1 c n)) _ _
                            refine q_RT_seg (g2 := (316, [(0, .ref 87), (1, .int a1), (2, .int a2)], [], (q_kP (q_sI r8.1 23 0 r8.2) c n))) 2 (fun _ _ => rfl) ?_
                            exact q_RT_ret rfl rfl rfl
                          | false =>
                            refine q_RT_cF ?_
                            cases h14 : decide (a1 = 11) with
                            | true =>
                              refine q_RT_cT ?_
                              refine q_RT_st1 (g2 := (203, [(0, .ref 87), (1, .int a1), (2, .int a2)], [], (q_kP s c n))) rfl (by rw [of_decide_eq_true h14]; rfl) ?_
                              refine q_RT_seg (g2 := (208, [(0, .ref 87), (1, .int a1), (2, .int a2)], [.int (s.2.1 23 0), .ref 87], (q_kP s c n))) 3 (fun _ _ => rfl) ?_
                              refine q_RT_seg (g2 := (209, [(0, .ref 87), (1, .int a1), (2, .int a2)], [.int a2, .int (s.2.1 23 0), .ref 87], (q_kP s c n))) 1 (fun _ _ => rfl) ?_
                              refine q_RT_call (v := none) (h2 := (q_kP (dz_N151_87 s (s.2.1 23 0) a2) c n)) rfl rfl ((dzt_P151_87 s c n (s.2.1 23 0) a2).le (Nat.le_of_ble_eq_true rfl)) ?_
                              generalize dz_N151_87 s (s.2.1 23 0) a2 = r9
                              refine q_RT_let ?_
                              show q_RT _ _ _ (212, [(0, .ref 87), (1, .int a1), (2, .int a2)], [], (q_kP r9 c n)) _ _
                              refine q_RT_seg (g2 := (316, [(0, .ref 87), (1, .int a1), (2, .int a2)], [], (q_kP r9 c n))) 1 (fun _ _ => rfl) ?_
                              exact q_RT_ret rfl rfl rfl
                            | false =>
                              refine q_RT_cF ?_
                              cases h15 : decide (a1 = 12) with
                              | true =>
                                refine q_RT_cT ?_
                                refine q_RT_st1 (g2 := (215, [(0, .ref 87), (1, .int a1), (2, .int a2)], [], (q_kP s c n))) rfl (by rw [of_decide_eq_true h15]; rfl) ?_
                                refine q_RT_seg (g2 := (220, [(0, .ref 87), (1, .int a1), (2, .int a2)], [.int (s.2.1 23 1), .ref 87], (q_kP s c n))) 3 (fun _ _ => rfl) ?_
                                refine q_RT_seg (g2 := (221, [(0, .ref 87), (1, .int a1), (2, .int a2)], [.int a2, .int (s.2.1 23 1), .ref 87], (q_kP s c n))) 1 (fun _ _ => rfl) ?_
                                refine q_RT_call (v := none) (h2 := (q_kP (dz_N151_87 s (s.2.1 23 1) a2) c n)) rfl rfl ((dzt_P151_87 s c n (s.2.1 23 1) a2).le (Nat.le_of_ble_eq_true rfl)) ?_
                                generalize dz_N151_87 s (s.2.1 23 1) a2 = r10
                                refine q_RT_let ?_
                                show q_RT _ _ _ (224, [(0, .ref 87), (1, .int a1), (2, .int a2)], [], (q_kP r10 c n)) _ _
                                refine q_RT_seg (g2 := (316, [(0, .ref 87), (1, .int a1), (2, .int a2)], [], (q_kP r10 c n))) 1 (fun _ _ => rfl) ?_
                                exact q_RT_ret rfl rfl rfl
                              | false =>
                                refine q_RT_cF ?_
                                cases h16 : decide (a1 = 13) with
                                | true =>
                                  refine q_RT_cT ?_
                                  refine q_RT_st1 (g2 := (227, [(0, .ref 87), (1, .int a1), (2, .int a2)], [], (q_kP s c n))) rfl (by rw [of_decide_eq_true h16]; rfl) ?_
                                  refine q_RT_seg (g2 := (232, [(0, .ref 87), (1, .int a1), (2, .int a2)], [.int (s.2.1 23 2), .ref 87], (q_kP s c n))) 3 (fun _ _ => rfl) ?_
                                  refine q_RT_seg (g2 := (233, [(0, .ref 87), (1, .int a1), (2, .int a2)], [.int a2, .int (s.2.1 23 2), .ref 87], (q_kP s c n))) 1 (fun _ _ => rfl) ?_
                                  refine q_RT_call (v := none) (h2 := (q_kP (dz_N151_87 s (s.2.1 23 2) a2) c n)) rfl rfl ((dzt_P151_87 s c n (s.2.1 23 2) a2).le (Nat.le_of_ble_eq_true rfl)) ?_
                                  generalize dz_N151_87 s (s.2.1 23 2) a2 = r11
                                  refine q_RT_let ?_
                                  show q_RT _ _ _ (236, [(0, .ref 87), (1, .int a1), (2, .int a2)], [], (q_kP r11 c n)) _ _
                                  refine q_RT_seg (g2 := (316, [(0, .ref 87), (1, .int a1), (2, .int a2)], [], (q_kP r11 c n))) 1 (fun _ _ => rfl) ?_
                                  exact q_RT_ret rfl rfl rfl
                                | false =>
                                  refine q_RT_cF ?_
                                  cases h17 : decide (a1 = 14) with
                                  | true =>
                                    refine q_RT_cT ?_
                                    refine q_RT_st1 (g2 := (316, [(0, .ref 87), (1, .int a1), (2, .int a2)], [], (q_kP s c n))) rfl (by rw [of_decide_eq_true h17]; rfl) ?_
                                    exact q_RT_ret rfl rfl rfl
                                  | false =>
                                    refine q_RT_cF ?_
                                    cases h18 : decide (a1 = 15) with
                                    | true =>
                                      refine q_RT_cT ?_
                                      refine q_RT_st1 (g2 := (316, [(0, .ref 87), (1, .int a1), (2, .int a2)], [], (q_kP s c n))) rfl (by rw [of_decide_eq_true h18]; rfl) ?_
                                      exact q_RT_ret rfl rfl rfl
                                    | false =>
                                      refine q_RT_cF ?_
                                      cases h19 : decide (a1 = 16) with
                                      | true =>
                                        refine q_RT_cT ?_
                                        refine q_RT_st1 (g2 := (239, [(0, .ref 87), (1, .int a1), (2, .int a2)], [], (q_kP s c n))) rfl (by rw [of_decide_eq_true h19]; rfl) ?_
                                        refine q_RT_seg (g2 := (242, [(0, .ref 87), (1, .int a1), (2, .int a2)], [.int a2, .ref 87, .ref 87], (q_kP s c n))) 3 (fun _ _ => rfl) ?_
                                        refine q_RT_call (v := (some (.int (dz_N150_87 s a2).2))) (h2 := (q_kP (dz_N150_87 s a2).1 c n)) rfl rfl ((dzt_P150_87 s c n a2).le (Nat.le_of_ble_eq_true rfl)) ?_
                                        generalize dz_N150_87 s a2 = r12
                                        refine q_RT_let ?_
                                        show q_RT _ _ _ (245, [(0, .ref 87), (1, .int a1), (2, .int a2)], [.int r12.2, .ref 87], (q_kP r12.1 c n)) _ _
                                        refine q_RT_seg (g2 := (316, [(0, .ref 87), (1, .int a1), (2, .int a2)], [], (q_kP (q_sI (q_sI r12.1 23 1 r12.2) 23 0 a2) c n))) 5 (fun _ _ => rfl) ?_
                                        exact q_RT_ret rfl rfl rfl
                                      | false =>
                                        refine q_RT_cF ?_
                                        cases h20 : decide (a1 = 17) with
                                        | true =>
                                          refine q_RT_cT ?_
                                          refine q_RT_st1 (g2 := (316, [(0, .ref 87), (1, .int a1), (2, .int a2)], [], (q_kP s c n))) rfl (by rw [of_decide_eq_true h20]; rfl) ?_
                                          exact q_RT_ret rfl rfl rfl
                                        | false =>
                                          refine q_RT_cF ?_
                                          cases h21 : decide (a1 = 18) with
                                          | true =>
                                            refine q_RT_cT ?_
                                            refine q_RT_st1 (g2 := (316, [(0, .ref 87), (1, .int a1), (2, .int a2)], [], (q_kP s c n))) rfl (by rw [of_decide_eq_true h21]; rfl) ?_
                                            exact q_RT_ret rfl rfl rfl
                                          | false =>
                                            refine q_RT_cF ?_
                                            cases h22 : decide (a1 = 19) with
                                            | true =>
                                              refine q_RT_cT ?_
                                              refine q_RT_st1 (g2 := (316, [(0, .ref 87), (1, .int a1), (2, .int a2)], [], (q_kP s c n))) rfl (by rw [of_decide_eq_true h22]; rfl) ?_
                                              exact q_RT_ret rfl rfl rfl
                                            | false =>
                                              refine q_RT_cF ?_
                                              have h23 : a1 = 20 := Int32.toInt_inj.mp (by have e0 := q_neI h3 (n := 0); have e1 := q_neI h4 (n := 1); have e2 := q_neI h5 (n := 2); have e3 := q_neI h6 (n := 3); have e4 := q_neI h7 (n := 4); have e5 := q_neI h8 (n := 5); have e6 := q_neI h9 (n := 6); have e7 := q_neI h10 (n := 7); have e8 := q_neI h11 (n := 8); have e9 := q_neI h12 (n := 9); have e10 := q_neI h13 (n := 10); have e11 := q_neI h14 (n := 11); have e12 := q_neI h15 (n := 12); have e13 := q_neI h16 (n := 13); have e14 := q_neI h17 (n := 14); have e15 := q_neI h18 (n := 15); have e16 := q_neI h19 (n := 16); have e17 := q_neI h20 (n := 17); have e18 := q_neI h21 (n := 18); have e19 := q_neI h22 (n := 19); have l1 : 0 ≤ (a1).toInt := q_lo1 h1; have l2 : (a1).toInt ≤ 20 := q_hi2 h2; show (a1).toInt = 20; omega)
                                              refine q_RT_st1 (g2 := (256, [(0, .ref 87), (1, .int a1), (2, .int a2)], [], (q_kP s c n))) rfl (by rw [h23]; rfl) ?_
                                              refine q_RT_seg (g2 := (262, [(0, .ref 87), (1, .int a1), (2, .int a2)], [.int (s.2.1 23 0), .int 2, .ref 87], (q_kP s c n))) 4 (fun _ _ => rfl) ?_
                                              refine q_RT_seg (g2 := (264, [(0, .ref 87), (1, .int a1), (2, .int a2)], [.int ((s.2.1 23 0) &&& a2), .int 2, .ref 87], (q_kP s c n))) 2 (fun _ _ => rfl) ?_
                                              cases h24 : decide ((s.2.1 23 0) &&& a2 = 0) with
                                              | true =>
                                                refine q_RT_cT ?_
                                                refine q_RT_rsF (g2 := (267, [(0, .ref 87), (1, .int a1), (2, .int a2)], [.int 2, .ref 87], (q_kP s c n))) rfl rfl (q_d_neT h24) ?_
                                                refine q_RT_seg (g2 := (272, [(0, .ref 87), (1, .int a1), (2, .int a2)], [.int 1, .int 2, .ref 87], (q_kP s c n))) 2 (fun _ _ => rfl) ?_
                                                refine q_RT_call (v := none) (h2 := (q_kP (dz_N149_87_t s 2) c n)) rfl rfl ((dzt_P149_87_t s c n 2).le (Nat.le_of_ble_eq_true rfl)) ?_
                                                generalize dz_N149_87_t s 2 = r13
                                                refine q_RT_let ?_
                                                show q_RT _ _ _ (275, [(0, .ref 87), (1, .int a1), (2, .int a2)], [], (q_kP r13 c n)) _ _
                                                refine q_RT_seg (g2 := (284, [(0, .ref 87), (1, .int a1), (2, .int a2)], [.int (a2 &&& 128), .int 128, .ref 87], (q_kP r13 c n))) 5 (fun _ _ => rfl) ?_
                                                cases h25 : decide (a2 &&& 128 = 0) with
                                                | true =>
                                                  refine q_RT_cT ?_
                                                  refine q_RT_rsT (g2 := (291, [(0, .ref 87), (1, .int a1), (2, .int a2)], [.int 128, .ref 87], (q_kP r13 c n))) rfl rfl h25 ?_
                                                  refine q_RT_seg (g2 := (292, [(0, .ref 87), (1, .int a1), (2, .int a2)], [.int 0, .int 128, .ref 87], (q_kP r13 c n))) 1 (fun _ _ => rfl) ?_
                                                  refine q_RT_call (v := none) (h2 := (q_kP (dz_N149_87_f r13 128) c n)) rfl rfl ((dzt_P149_87_f r13 c n 128).le (Nat.le_of_ble_eq_true rfl)) ?_
                                                  generalize dz_N149_87_f r13 128 = r14
                                                  refine q_RT_let ?_
                                                  show q_RT _ _ _ (295, [(0, .ref 87), (1, .int a1), (2, .int a2)], [], (q_kP r14 c n)) _ _
                                                  refine q_RT_seg (g2 := (302, [(0, .ref 87), (1, .int a1), (2, .int a2)], [.int (a2 &&& 64), .int 64, .ref 87], (q_kP r14 c n))) 5 (fun _ _ => rfl) ?_
                                                  cases h26 : decide (a2 &&& 64 = 0) with
                                                  | true =>
                                                    refine q_RT_cT ?_
                                                    refine q_RT_rsT (g2 := (309, [(0, .ref 87), (1, .int a1), (2, .int a2)], [.int 64, .ref 87], (q_kP r14 c n))) rfl rfl h26 ?_
                                                    refine q_RT_seg (g2 := (310, [(0, .ref 87), (1, .int a1), (2, .int a2)], [.int 0, .int 64, .ref 87], (q_kP r14 c n))) 1 (fun _ _ => rfl) ?_
                                                    refine q_RT_call (v := none) (h2 := (q_kP (dz_N149_87_f r14 64) c n)) rfl rfl ((dzt_P149_87_f r14 c n 64).le (Nat.le_of_ble_eq_true rfl)) ?_
                                                    generalize dz_N149_87_f r14 64 = r15
                                                    refine q_RT_let ?_
                                                    show q_RT _ _ _ (313, [(0, .ref 87), (1, .int a1), (2, .int a2)], [], (q_kP r15 c n)) _ _
                                                    refine q_RT_seg (g2 := (316, [(0, .ref 87), (1, .int a1), (2, .int a2)], [], (q_kP r15 c n))) 1 (fun _ _ => rfl) ?_
                                                    exact q_RT_ret rfl rfl rfl
                                                  | false =>
                                                    refine q_RT_cF ?_
                                                    refine q_RT_rsF (g2 := (305, [(0, .ref 87), (1, .int a1), (2, .int a2)], [.int 64, .ref 87], (q_kP r14 c n))) rfl rfl h26 ?_
                                                    refine q_RT_seg (g2 := (310, [(0, .ref 87), (1, .int a1), (2, .int a2)], [.int 1, .int 64, .ref 87], (q_kP r14 c n))) 2 (fun _ _ => rfl) ?_
                                                    refine q_RT_call (v := none) (h2 := (q_kP (dz_N149_87_t r14 64) c n)) rfl rfl ((dzt_P149_87_t r14 c n 64).le (Nat.le_of_ble_eq_true rfl)) ?_
                                                    generalize dz_N149_87_t r14 64 = r16
                                                    refine q_RT_let ?_
                                                    show q_RT _ _ _ (313, [(0, .ref 87), (1, .int a1), (2, .int a2)], [], (q_kP r16 c n)) _ _
                                                    refine q_RT_seg (g2 := (316, [(0, .ref 87), (1, .int a1), (2, .int a2)], [], (q_kP r16 c n))) 1 (fun _ _ => rfl) ?_
                                                    exact q_RT_ret rfl rfl rfl
                                                | false =>
                                                  refine q_RT_cF ?_
                                                  refine q_RT_rsF (g2 := (287, [(0, .ref 87), (1, .int a1), (2, .int a2)], [.int 128, .ref 87], (q_kP r13 c n))) rfl rfl h25 ?_
                                                  refine q_RT_seg (g2 := (292, [(0, .ref 87), (1, .int a1), (2, .int a2)], [.int 1, .int 128, .ref 87], (q_kP r13 c n))) 2 (fun _ _ => rfl) ?_
                                                  refine q_RT_call (v := none) (h2 := (q_kP (dz_N149_87_t r13 128) c n)) rfl rfl ((dzt_P149_87_t r13 c n 128).le (Nat.le_of_ble_eq_true rfl)) ?_
                                                  generalize dz_N149_87_t r13 128 = r17
                                                  refine q_RT_let ?_
                                                  show q_RT _ _ _ (295, [(0, .ref 87), (1, .int a1), (2, .int a2)], [], (q_kP r17 c n)) _ _
                                                  refine q_RT_seg (g2 := (302, [(0, .ref 87), (1, .int a1), (2, .int a2)], [.int (a2 &&& 64), .int 64, .ref 87], (q_kP r17 c n))) 5 (fun _ _ => rfl) ?_
                                                  cases h27 : decide (a2 &&& 64 = 0) with
                                                  | true =>
                                                    refine q_RT_cT ?_
                                                    refine q_RT_rsT (g2 := (309, [(0, .ref 87), (1, .int a1), (2, .int a2)], [.int 64, .ref 87], (q_kP r17 c n))) rfl rfl h27 ?_
                                                    refine q_RT_seg (g2 := (310, [(0, .ref 87), (1, .int a1), (2, .int a2)], [.int 0, .int 64, .ref 87], (q_kP r17 c n))) 1 (fun _ _ => rfl) ?_
                                                    refine q_RT_call (v := none) (h2 := (q_kP (dz_N149_87_f r17 64) c n)) rfl rfl ((dzt_P149_87_f r17 c n 64).le (Nat.le_of_ble_eq_true rfl)) ?_
                                                    generalize dz_N149_87_f r17 64 = r18
                                                    refine q_RT_let ?_
                                                    show q_RT _ _ _ (313, [(0, .ref 87), (1, .int a1), (2, .int a2)], [], (q_kP r18 c n)) _ _
                                                    refine q_RT_seg (g2 := (316, [(0, .ref 87), (1, .int a1), (2, .int a2)], [], (q_kP r18 c n))) 1 (fun _ _ => rfl) ?_
                                                    exact q_RT_ret rfl rfl rfl
                                                  | false =>
                                                    refine q_RT_cF ?_
                                                    refine q_RT_rsF (g2 := (305, [(0, .ref 87), (1, .int a1), (2, .int a2)], [.int 64, .ref 87], (q_kP r17 c n))) rfl rfl h27 ?_
                                                    refine q_RT_seg (g2 := (310, [(0, .ref 87), (1, .int a1), (2, .int a2)], [.int 1, .int 64, .ref 87], (q_kP r17 c n))) 2 (fun _ _ => rfl) ?_
                                                    refine q_RT_call (v := none) (h2 := (q_kP (dz_N149_87_t r17 64) c n)) rfl rfl ((dzt_P149_87_t r17 c n 64).le (Nat.le_of_ble_eq_true rfl)) ?_
                                                    generalize dz_N149_87_t r17 64 = r19
                                                    refine q_RT_let ?_
                                                    show q_RT _ _ _ (313, [(0, .ref 87), (1, .int a1), (2, .int a2)], [], (q_kP r19 c n)) _ _
                                                    refine q_RT_seg (g2 := (316, [(0, .ref 87), (1, .int a1), (2, .int a2)], [], (q_kP r19 c n))) 1 (fun _ _ => rfl) ?_
                                                    exact q_RT_ret rfl rfl rfl
                                              | false =>
                                                refine q_RT_cF ?_
                                                refine q_RT_rsT (g2 := (271, [(0, .ref 87), (1, .int a1), (2, .int a2)], [.int 2, .ref 87], (q_kP s c n))) rfl rfl (q_d_neF h24) ?_
                                                refine q_RT_seg (g2 := (272, [(0, .ref 87), (1, .int a1), (2, .int a2)], [.int 0, .int 2, .ref 87], (q_kP s c n))) 1 (fun _ _ => rfl) ?_
                                                refine q_RT_call (v := none) (h2 := (q_kP (dz_N149_87_f s 2) c n)) rfl rfl ((dzt_P149_87_f s c n 2).le (Nat.le_of_ble_eq_true rfl)) ?_
                                                generalize dz_N149_87_f s 2 = r20
                                                refine q_RT_let ?_
                                                show q_RT _ _ _ (275, [(0, .ref 87), (1, .int a1), (2, .int a2)], [], (q_kP r20 c n)) _ _
                                                refine q_RT_seg (g2 := (284, [(0, .ref 87), (1, .int a1), (2, .int a2)], [.int (a2 &&& 128), .int 128, .ref 87], (q_kP r20 c n))) 5 (fun _ _ => rfl) ?_
                                                cases h28 : decide (a2 &&& 128 = 0) with
                                                | true =>
                                                  refine q_RT_cT ?_
                                                  refine q_RT_rsT (g2 := (291, [(0, .ref 87), (1, .int a1), (2, .int a2)], [.int 128, .ref 87], (q_kP r20 c n))) rfl rfl h28 ?_
                                                  refine q_RT_seg (g2 := (292, [(0, .ref 87), (1, .int a1), (2, .int a2)], [.int 0, .int 128, .ref 87], (q_kP r20 c n))) 1 (fun _ _ => rfl) ?_
                                                  refine q_RT_call (v := none) (h2 := (q_kP (dz_N149_87_f r20 128) c n)) rfl rfl ((dzt_P149_87_f r20 c n 128).le (Nat.le_of_ble_eq_true rfl)) ?_
                                                  generalize dz_N149_87_f r20 128 = r21
                                                  refine q_RT_let ?_
                                                  show q_RT _ _ _ (295, [(0, .ref 87), (1, .int a1), (2, .int a2)], [], (q_kP r21 c n)) _ _
                                                  refine q_RT_seg (g2 := (302, [(0, .ref 87), (1, .int a1), (2, .int a2)], [.int (a2 &&& 64), .int 64, .ref 87], (q_kP r21 c n))) 5 (fun _ _ => rfl) ?_
                                                  cases h29 : decide (a2 &&& 64 = 0) with
                                                  | true =>
                                                    refine q_RT_cT ?_
                                                    refine q_RT_rsT (g2 := (309, [(0, .ref 87), (1, .int a1), (2, .int a2)], [.int 64, .ref 87], (q_kP r21 c n))) rfl rfl h29 ?_
                                                    refine q_RT_seg (g2 := (310, [(0, .ref 87), (1, .int a1), (2, .int a2)], [.int 0, .int 64, .ref 87], (q_kP r21 c n))) 1 (fun _ _ => rfl) ?_
                                                    refine q_RT_call (v := none) (h2 := (q_kP (dz_N149_87_f r21 64) c n)) rfl rfl ((dzt_P149_87_f r21 c n 64).le (Nat.le_of_ble_eq_true rfl)) ?_
                                                    generalize dz_N149_87_f r21 64 = r22
                                                    refine q_RT_let ?_
                                                    show q_RT _ _ _ (313, [(0, .ref 87), (1, .int a1), (2, .int a2)], [], (q_kP r22 c n)) _ _
                                                    refine q_RT_seg (g2 := (316, [(0, .ref 87), (1, .int a1), (2, .int a2)], [], (q_kP r22 c n))) 1 (fun _ _ => rfl) ?_
                                                    exact q_RT_ret rfl rfl rfl
                                                  | false =>
                                                    refine q_RT_cF ?_
                                                    refine q_RT_rsF (g2 := (305, [(0, .ref 87), (1, .int a1), (2, .int a2)], [.int 64, .ref 87], (q_kP r21 c n))) rfl rfl h29 ?_
                                                    refine q_RT_seg (g2 := (310, [(0, .ref 87), (1, .int a1), (2, .int a2)], [.int 1, .int 64, .ref 87], (q_kP r21 c n))) 2 (fun _ _ => rfl) ?_
                                                    refine q_RT_call (v := none) (h2 := (q_kP (dz_N149_87_t r21 64) c n)) rfl rfl ((dzt_P149_87_t r21 c n 64).le (Nat.le_of_ble_eq_true rfl)) ?_
                                                    generalize dz_N149_87_t r21 64 = r23
                                                    refine q_RT_let ?_
                                                    show q_RT _ _ _ (313, [(0, .ref 87), (1, .int a1), (2, .int a2)], [], (q_kP r23 c n)) _ _
                                                    refine q_RT_seg (g2 := (316, [(0, .ref 87), (1, .int a1), (2, .int a2)], [], (q_kP r23 c n))) 1 (fun _ _ => rfl) ?_
                                                    exact q_RT_ret rfl rfl rfl
                                                | false =>
                                                  refine q_RT_cF ?_
                                                  refine q_RT_rsF (g2 := (287, [(0, .ref 87), (1, .int a1), (2, .int a2)], [.int 128, .ref 87], (q_kP r20 c n))) rfl rfl h28 ?_
                                                  refine q_RT_seg (g2 := (292, [(0, .ref 87), (1, .int a1), (2, .int a2)], [.int 1, .int 128, .ref 87], (q_kP r20 c n))) 2 (fun _ _ => rfl) ?_
                                                  refine q_RT_call (v := none) (h2 := (q_kP (dz_N149_87_t r20 128) c n)) rfl rfl ((dzt_P149_87_t r20 c n 128).le (Nat.le_of_ble_eq_true rfl)) ?_
                                                  generalize dz_N149_87_t r20 128 = r24
                                                  refine q_RT_let ?_
                                                  show q_RT _ _ _ (295, [(0, .ref 87), (1, .int a1), (2, .int a2)], [], (q_kP r24 c n)) _ _
                                                  refine q_RT_seg (g2 := (302, [(0, .ref 87), (1, .int a1), (2, .int a2)], [.int (a2 &&& 64), .int 64, .ref 87], (q_kP r24 c n))) 5 (fun _ _ => rfl) ?_
                                                  cases h30 : decide (a2 &&& 64 = 0) with
                                                  | true =>
                                                    refine q_RT_cT ?_
                                                    refine q_RT_rsT (g2 := (309, [(0, .ref 87), (1, .int a1), (2, .int a2)], [.int 64, .ref 87], (q_kP r24 c n))) rfl rfl h30 ?_
                                                    refine q_RT_seg (g2 := (310, [(0, .ref 87), (1, .int a1), (2, .int a2)], [.int 0, .int 64, .ref 87], (q_kP r24 c n))) 1 (fun _ _ => rfl) ?_
                                                    refine q_RT_call (v := none) (h2 := (q_kP (dz_N149_87_f r24 64) c n)) rfl rfl ((dzt_P149_87_f r24 c n 64).le (Nat.le_of_ble_eq_true rfl)) ?_
                                                    generalize dz_N149_87_f r24 64 = r25
                                                    refine q_RT_let ?_
                                                    show q_RT _ _ _ (313, [(0, .ref 87), (1, .int a1), (2, .int a2)], [], (q_kP r25 c n)) _ _
                                                    refine q_RT_seg (g2 := (316, [(0, .ref 87), (1, .int a1), (2, .int a2)], [], (q_kP r25 c n))) 1 (fun _ _ => rfl) ?_
                                                    exact q_RT_ret rfl rfl rfl
                                                  | false =>
                                                    refine q_RT_cF ?_
                                                    refine q_RT_rsF (g2 := (305, [(0, .ref 87), (1, .int a1), (2, .int a2)], [.int 64, .ref 87], (q_kP r24 c n))) rfl rfl h30 ?_
                                                    refine q_RT_seg (g2 := (310, [(0, .ref 87), (1, .int a1), (2, .int a2)], [.int 1, .int 64, .ref 87], (q_kP r24 c n))) 2 (fun _ _ => rfl) ?_
                                                    refine q_RT_call (v := none) (h2 := (q_kP (dz_N149_87_t r24 64) c n)) rfl rfl ((dzt_P149_87_t r24 c n 64).le (Nat.le_of_ble_eq_true rfl)) ?_
                                                    generalize dz_N149_87_t r24 64 = r26
                                                    refine q_RT_let ?_
                                                    show q_RT _ _ _ (313, [(0, .ref 87), (1, .int a1), (2, .int a2)], [], (q_kP r26 c n)) _ _
                                                    refine q_RT_seg (g2 := (316, [(0, .ref 87), (1, .int a1), (2, .int a2)], [], (q_kP r26 c n))) 1 (fun _ _ => rfl) ?_
                                                    exact q_RT_ret rfl rfl rfl
set_option maxHeartbeats 4000000 in
theorem dzt_P144_87_65 (s : q_S) (c n : Nat) (a2 : Int32) (x : Int32) (h : dz_N144_87_65 s a2 = some x) : q_Ca q_TB0 4 143 [.ref 87, .ref 65, .int a2] (q_kP s c n) ((q_oP (q_kP s c n)) x) := by
  refine q_CaP_of (φ := (q_oP (q_kP s c n))) (Nat.le_of_ble_eq_true rfl) ?_ h
  clear h
  unfold dz_N144_87_65
  refine q_RP_seg (g2 := (3, [(0, .ref 87), (1, .ref 65), (2, .int a2)], [.int a2, .ref 65, .ref 87], (q_kP s c n))) 3 (fun _ _ => rfl) ?_
  refine q_RP_bd fun r2 er2 => ?_
  refine q_RP_call (v := (some (.int r2))) (h2 := (q_kP s c n)) rfl rfl ((dzt_P145_87_65 s c n a2 r2 er2).le (Nat.le_of_ble_eq_true rfl)) ?_
  show q_RP _ _ _ (6, [(0, .ref 87), (1, .ref 65), (2, .int a2)], [.int r2], (q_kP s c n)) _ _
  refine q_RP_seg (g2 := (8, [(0, .ref 87), (1, .ref 65), (2, .int a2)], [.int a2, .ref 87, .int r2], (q_kP s c n))) 2 (fun _ _ => rfl) ?_
  refine q_RP_call (v := (some (.int (dz_N143_87 s a2)))) (h2 := (q_kP s c n)) rfl rfl ((dzt_P143_87 s c n a2).le (Nat.le_of_ble_eq_true rfl)) ?_
  generalize dz_N143_87 s a2 = r3
  refine q_RP_let ?_
  show q_RP _ _ _ (11, [(0, .ref 87), (1, .ref 65), (2, .int a2)], [.int r3, .int r2], (q_kP s c n)) _ _
  refine q_RP_seg (g2 := (16, [(0, .ref 87), (1, .ref 65), (2, .int a2)], [.int ((r2 + r3) &&& 4095)], (q_kP s c n))) 3 (fun _ _ => rfl) ?_
  exact q_RP_ret rfl rfl rfl
set_option maxHeartbeats 4000000 in
theorem dzt_P93_65 (s : q_S) (c n : Nat) (a1 : Int32) (x : q_S × Int32) (h : dz_N93_65 s a1 = some x) : q_Ca q_TB0 3 92 [.ref 65, .int a1] (q_kP s c n) ((q_oIP c n) x) := by
  refine q_CaP_of (φ := (q_oIP c n)) (Nat.le_of_ble_eq_true rfl) ?_ h
  clear h
  unfold dz_N93_65
  refine q_RP_seg (g2 := (2, [(0, .ref 65), (1, .int a1)], [.int a1, .ref 65], (q_kP s c n))) 2 (fun _ _ => rfl) ?_
  refine q_RP_bd fun r2 er2 => ?_
  refine q_RP_call (v := (some (.int r2))) (h2 := (q_kP s c n)) rfl rfl ((dzt_P90_65 s c n a1 r2 er2).le (Nat.le_of_ble_eq_true rfl)) ?_
  show q_RP _ _ _ (5, [(0, .ref 65), (1, .int a1)], [.int r2], (q_kP s c n)) _ _
  refine q_RP_seg (g2 := (10, [(2, .int r2), (0, .ref 65), (1, .int a1)], [.int 3869, .int a1], (q_kP s c n))) 3 (fun _ _ => rfl) ?_
  cases h1 : decide (a1 = 3869) with
  | true =>
    refine q_RP_cT ?_
    refine q_RP_rsF (g2 := (13, [(2, .int r2), (0, .ref 65), (1, .int a1)], [], (q_kP s c n))) rfl rfl (q_d_neT h1) ?_
    refine q_RP_seg (g2 := (46, [(2, .int r2), (0, .ref 65), (1, .int a1)], [.int r2], (q_kP (q_sA s 4 (upd (s.1 4) 29 0)) c n))) 8 (fun _ _ => rfl) ?_
    exact q_RP_ret rfl rfl rfl
  | false =>
    refine q_RP_cF ?_
    refine q_RP_rsT (g2 := (27, [(2, .int r2), (0, .ref 65), (1, .int a1)], [], (q_kP s c n))) rfl rfl (q_d_neF h1) ?_
    refine q_RP_seg (g2 := (31, [(2, .int r2), (0, .ref 65), (1, .int a1)], [.int 3870, .int a1], (q_kP s c n))) 2 (fun _ _ => rfl) ?_
    cases h2 : decide (a1 = 3870) with
    | true =>
      refine q_RP_cT ?_
      refine q_RP_rsF (g2 := (34, [(2, .int r2), (0, .ref 65), (1, .int a1)], [], (q_kP s c n))) rfl rfl (q_d_neT h2) ?_
      refine q_RP_seg (g2 := (46, [(2, .int r2), (0, .ref 65), (1, .int a1)], [.int r2], (q_kP (q_sA s 4 (upd (s.1 4) 30 0)) c n))) 7 (fun _ _ => rfl) ?_
      exact q_RP_ret rfl rfl rfl
    | false =>
      refine q_RP_cF ?_
      refine q_RP_rsT (g2 := (45, [(2, .int r2), (0, .ref 65), (1, .int a1)], [], (q_kP s c n))) rfl rfl (q_d_neF h2) ?_
      refine q_RP_seg (g2 := (46, [(2, .int r2), (0, .ref 65), (1, .int a1)], [.int r2], (q_kP s c n))) 1 (fun _ _ => rfl) ?_
      exact q_RP_ret rfl rfl rfl
set_option maxHeartbeats 4000000 in
theorem dzt_P153_87_65_101 (c n : Nat) (s : q_S) (v2 : Int32) (v3 : Int32) : q_RP q_TB0 3 152 (101, [(0, .ref 87), (1, .ref 65), (2, .int v2), (3, .int v3)], [], (q_kP s c n)) (q_oSP c n) (dz_N153_87_65_101 s v2 v3) := by
  unfold dz_N153_87_65_101
  refine q_RP_seg (g2 := (110, [(4, .int 1), (0, .ref 87), (1, .ref 65), (2, .int v2), (3, .int v3)], [.int v3, .ref 65], (q_kP s c n))) 5 (fun _ _ => rfl) ?_
  refine q_RP_bd fun r6 er6 => ?_
  refine q_RP_call (v := (some (.int r6.2))) (h2 := (q_kP r6.1 c n)) rfl rfl ((dzt_P93_65 s c n v3 r6 er6).le (Nat.le_of_ble_eq_true rfl)) ?_
  show q_RP _ _ _ (113, [(4, .int 1), (0, .ref 87), (1, .ref 65), (2, .int v2), (3, .int v3)], [.int r6.2], (q_kP r6.1 c n)) _ _
  refine q_RP_seg (g2 := (126, [(5, .int ((r6.2 + 1) &&& 255)), (4, .int 1), (0, .ref 87), (1, .ref 65), (2, .int v2), (3, .int v3)], [.int ((r6.2 + 1) &&& 255), .int v3, .ref 65], (q_kP r6.1 c n))) 8 (fun _ _ => rfl) ?_
  refine q_RP_bd fun r7 er7 => ?_
  refine q_RP_call (v := none) (h2 := (q_kP r7 c n)) rfl rfl ((dzt_P94_65 r6.1 c n v3 ((r6.2 + 1) &&& 255) r7 er7).le (Nat.le_of_ble_eq_true rfl)) ?_
  show q_RP _ _ _ (129, [(5, .int ((r6.2 + 1) &&& 255)), (4, .int 1), (0, .ref 87), (1, .ref 65), (2, .int v2), (3, .int v3)], [], (q_kP r7 c n)) _ _
  refine q_RP_seg (g2 := (132, [(5, .int ((r6.2 + 1) &&& 255)), (4, .int 1), (0, .ref 87), (1, .ref 65), (2, .int v2), (3, .int v3)], [.int 18, .int v2], (q_kP r7 c n))) 2 (fun _ _ => rfl) ?_
  cases h7 : decide (v2 = 18) with
  | true =>
    refine q_RP_cT ?_
    refine q_RP_rsF (g2 := (135, [(5, .int ((r6.2 + 1) &&& 255)), (4, .int 1), (0, .ref 87), (1, .ref 65), (2, .int v2), (3, .int v3)], [], (q_kP r7 c n))) rfl rfl (q_d_neT h7) ?_
    refine q_RP_seg (g2 := (140, [(5, .int ((r6.2 + 1) &&& 255)), (4, .int 1), (0, .ref 87), (1, .ref 65), (2, .int v2), (3, .int v3)], [.int (r7.2.1 23 0), .ref 87], (q_kP r7 c n))) 3 (fun _ _ => rfl) ?_
    refine q_RP_seg (g2 := (142, [(5, .int ((r6.2 + 1) &&& 255)), (4, .int 1), (0, .ref 87), (1, .ref 65), (2, .int v2), (3, .int v3)], [.int ((r6.2 + 1) &&& 255), .int (r7.2.1 23 0), .ref 87], (q_kP r7 c n))) 1 (fun _ _ => rfl) ?_
    refine q_RP_call (v := none) (h2 := (q_kP (dz_N151_87 r7 (r7.2.1 23 0) ((r6.2 + 1) &&& 255)) c n)) rfl rfl ((dzt_P151_87 r7 c n (r7.2.1 23 0) ((r6.2 + 1) &&& 255)).le (Nat.le_of_ble_eq_true rfl)) ?_
    generalize dz_N151_87 r7 (r7.2.1 23 0) ((r6.2 + 1) &&& 255) = r8
    refine q_RP_let ?_
    show q_RP _ _ _ (145, [(5, .int ((r6.2 + 1) &&& 255)), (4, .int 1), (0, .ref 87), (1, .ref 65), (2, .int v2), (3, .int v3)], [], (q_kP r8 c n)) _ _
    refine q_RP_seg (g2 := (170, [(5, .int ((r6.2 + 1) &&& 255)), (4, .int 1), (0, .ref 87), (1, .ref 65), (2, .int v2), (3, .int v3)], [], (q_kP r8 c n))) 1 (fun _ _ => rfl) ?_
    exact q_RP_ret rfl rfl rfl
  | false =>
    refine q_RP_cF ?_
    refine q_RP_rsT (g2 := (148, [(5, .int ((r6.2 + 1) &&& 255)), (4, .int 1), (0, .ref 87), (1, .ref 65), (2, .int v2), (3, .int v3)], [], (q_kP r7 c n))) rfl rfl (q_d_neF h7) ?_
    refine q_RP_seg (g2 := (151, [(5, .int ((r6.2 + 1) &&& 255)), (4, .int 1), (0, .ref 87), (1, .ref 65), (2, .int v2), (3, .int v3)], [.int 19, .int v2], (q_kP r7 c n))) 2 (fun _ _ => rfl) ?_
    cases h8 : decide (v2 = 19) with
    | true =>
      refine q_RP_cT ?_
      refine q_RP_rsF (g2 := (154, [(5, .int ((r6.2 + 1) &&& 255)), (4, .int 1), (0, .ref 87), (1, .ref 65), (2, .int v2), (3, .int v3)], [], (q_kP r7 c n))) rfl rfl (q_d_neT h8) ?_
      refine q_RP_seg (g2 := (157, [(5, .int ((r6.2 + 1) &&& 255)), (4, .int 1), (0, .ref 87), (1, .ref 65), (2, .int v2), (3, .int v3)], [.int ((r6.2 + 1) &&& 255), .ref 87], (q_kP r7 c n))) 2 (fun _ _ => rfl) ?_
      refine q_RP_call (v := none) (h2 := (q_kP (dz_N155_87 r7 ((r6.2 + 1) &&& 255)) c n)) rfl rfl ((dzt_P155_87 r7 c n ((r6.2 + 1) &&& 255)).le (Nat.le_of_ble_eq_true rfl)) ?_
      generalize dz_N155_87 r7 ((r6.2 + 1) &&& 255) = r9
      refine q_RP_let ?_
      show q_RP _ _ _ (160, [(5, .int ((r6.2 + 1) &&& 255)), (4, .int 1), (0, .ref 87), (1, .ref 65), (2, .int v2), (3, .int v3)], [], (q_kP r9 c n)) _ _
      refine q_RP_seg (g2 := (170, [(5, .int ((r6.2 + 1) &&& 255)), (4, .int 1), (0, .ref 87), (1, .ref 65), (2, .int v2), (3, .int v3)], [], (q_kP r9 c n))) 1 (fun _ _ => rfl) ?_
      exact q_RP_ret rfl rfl rfl
    | false =>
      refine q_RP_cF ?_
      refine q_RP_rsT (g2 := (163, [(5, .int ((r6.2 + 1) &&& 255)), (4, .int 1), (0, .ref 87), (1, .ref 65), (2, .int v2), (3, .int v3)], [], (q_kP r7 c n))) rfl rfl (q_d_neF h8) ?_
      refine q_RP_seg (g2 := (166, [(5, .int ((r6.2 + 1) &&& 255)), (4, .int 1), (0, .ref 87), (1, .ref 65), (2, .int v2), (3, .int v3)], [.int ((r6.2 + 1) &&& 255), .ref 87], (q_kP r7 c n))) 2 (fun _ _ => rfl) ?_
      refine q_RP_call (v := (some (.int (dz_N150_87 r7 ((r6.2 + 1) &&& 255)).2))) (h2 := (q_kP (dz_N150_87 r7 ((r6.2 + 1) &&& 255)).1 c n)) rfl rfl ((dzt_P150_87 r7 c n ((r6.2 + 1) &&& 255)).le (Nat.le_of_ble_eq_true rfl)) ?_
      generalize dz_N150_87 r7 ((r6.2 + 1) &&& 255) = r10
      refine q_RP_let ?_
      show q_RP _ _ _ (169, [(5, .int ((r6.2 + 1) &&& 255)), (4, .int 1), (0, .ref 87), (1, .ref 65), (2, .int v2), (3, .int v3)], [.int r10.2], (q_kP r10.1 c n)) _ _
      refine q_RP_seg (g2 := (170, [(5, .int ((r6.2 + 1) &&& 255)), (4, .int 1), (0, .ref 87), (1, .ref 65), (2, .int v2), (3, .int v3)], [], (q_kP r10.1 c n))) 1 (fun _ _ => rfl) ?_
      exact q_RP_ret rfl rfl rfl
set_option maxHeartbeats 4000000 in
theorem dzt_P153_87_65 (s : q_S) (c n : Nat) (a2 : Int32) (a3 : Int32) (x : q_S) (h : dz_N153_87_65 s a2 a3 = some x) : q_Ca q_TB0 4 152 [.ref 87, .ref 65, .int a2, .int a3] (q_kP s c n) ((q_oSP c n) x) := by
  refine q_CaP_of (φ := (q_oSP c n)) (Nat.le_of_ble_eq_true rfl) ?_ h
  clear h
  unfold dz_N153_87_65
  refine q_RP_seg (g2 := (1, [(0, .ref 87), (1, .ref 65), (2, .int a2), (3, .int a3)], [.int a2], (q_kP s c n))) 1 (fun _ _ => rfl) ?_
  cases h2 : decide (a2 = 3) with
  | true =>
    refine q_RP_cT ?_
    refine q_RP_st1 (g2 := (44, [(0, .ref 87), (1, .ref 65), (2, .int a2), (3, .int a3)], [], (q_kP s c n))) rfl (by rw [of_decide_eq_true h2]; rfl) ?_
    refine q_RP_seg (g2 := (50, [(0, .ref 87), (1, .ref 65), (2, .int a2), (3, .int a3)], [.int (s.2.1 23 0), .int a3, .ref 65], (q_kP s c n))) 4 (fun _ _ => rfl) ?_
    refine q_RP_bd fun r2 er2 => ?_
    refine q_RP_call (v := none) (h2 := (q_kP r2 c n)) rfl rfl ((dzt_P94_65 s c n a3 (s.2.1 23 0) r2 er2).le (Nat.le_of_ble_eq_true rfl)) ?_
    show q_RP _ _ _ (53, [(0, .ref 87), (1, .ref 65), (2, .int a2), (3, .int a3)], [], (q_kP r2 c n)) _ _
    exact q_RP_ret rfl rfl rfl
  | false =>
    refine q_RP_cF ?_
    cases h3 : decide (a2 = 4) with
    | true =>
      refine q_RP_cT ?_
      refine q_RP_st1 (g2 := (54, [(0, .ref 87), (1, .ref 65), (2, .int a2), (3, .int a3)], [], (q_kP s c n))) rfl (by rw [of_decide_eq_true h3]; rfl) ?_
      refine q_RP_seg (g2 := (60, [(0, .ref 87), (1, .ref 65), (2, .int a2), (3, .int a3)], [.int (s.2.1 23 1), .int a3, .ref 65], (q_kP s c n))) 4 (fun _ _ => rfl) ?_
      refine q_RP_bd fun r3 er3 => ?_
      refine q_RP_call (v := none) (h2 := (q_kP r3 c n)) rfl rfl ((dzt_P94_65 s c n a3 (s.2.1 23 1) r3 er3).le (Nat.le_of_ble_eq_true rfl)) ?_
      show q_RP _ _ _ (63, [(0, .ref 87), (1, .ref 65), (2, .int a2), (3, .int a3)], [], (q_kP r3 c n)) _ _
      exact q_RP_ret rfl rfl rfl
    | false =>
      refine q_RP_cF ?_
      cases h4 : decide (a2 = 5) with
      | true =>
        refine q_RP_cT ?_
        refine q_RP_st1 (g2 := (64, [(0, .ref 87), (1, .ref 65), (2, .int a2), (3, .int a3)], [], (q_kP s c n))) rfl (by rw [of_decide_eq_true h4]; rfl) ?_
        refine q_RP_seg (g2 := (70, [(0, .ref 87), (1, .ref 65), (2, .int a2), (3, .int a3)], [.int (s.2.1 23 2), .int a3, .ref 65], (q_kP s c n))) 4 (fun _ _ => rfl) ?_
        refine q_RP_bd fun r4 er4 => ?_
        refine q_RP_call (v := none) (h2 := (q_kP r4 c n)) rfl rfl ((dzt_P94_65 s c n a3 (s.2.1 23 2) r4 er4).le (Nat.le_of_ble_eq_true rfl)) ?_
        show q_RP _ _ _ (73, [(0, .ref 87), (1, .ref 65), (2, .int a2), (3, .int a3)], [], (q_kP r4 c n)) _ _
        exact q_RP_ret rfl rfl rfl
      | false =>
        refine q_RP_cF ?_
        cases h5 : decide (a2 = 17) with
        | true =>
          refine q_RP_cT ?_
          refine q_RP_st1 (g2 := (74, [(0, .ref 87), (1, .ref 65), (2, .int a2), (3, .int a3)], [], (q_kP s c n))) rfl (by rw [of_decide_eq_true h5]; rfl) ?_
          refine q_RP_seg (g2 := (80, [(0, .ref 87), (1, .ref 65), (2, .int a2), (3, .int a3)], [.int (s.2.1 23 0), .int a3, .ref 65], (q_kP s c n))) 4 (fun _ _ => rfl) ?_
          refine q_RP_seg (g2 := (84, [(0, .ref 87), (1, .ref 65), (2, .int a2), (3, .int a3)], [.int (s.2.1 23 1), .int (s.2.1 23 0), .int a3, .ref 65], (q_kP s c n))) 2 (fun _ _ => rfl) ?_
          refine q_RP_seg (g2 := (85, [(0, .ref 87), (1, .ref 65), (2, .int a2), (3, .int a3)], [.int ((s.2.1 23 0) &&& (s.2.1 23 1)), .int a3, .ref 65], (q_kP s c n))) 1 (fun _ _ => rfl) ?_
          refine q_RP_bd fun r5 er5 => ?_
          refine q_RP_call (v := none) (h2 := (q_kP r5 c n)) rfl rfl ((dzt_P94_65 s c n a3 ((s.2.1 23 0) &&& (s.2.1 23 1)) r5 er5).le (Nat.le_of_ble_eq_true rfl)) ?_
          show q_RP _ _ _ (88, [(0, .ref 87), (1, .ref 65), (2, .int a2), (3, .int a3)], [], (q_kP r5 c n)) _ _
          exact q_RP_ret rfl rfl rfl
        | false =>
          refine q_RP_cF ?_
          refine q_RP_st1 (g2 := (89, [(0, .ref 87), (1, .ref 65), (2, .int a2), (3, .int a3)], [], (q_kP s c n))) rfl (by unfold q_lsw; dsimp only; rw [Op.lookupswitch.offset_cons, if_neg (q_neJ h2 (n := 3)), Op.lookupswitch.offset_cons, if_neg (q_neJ h3 (n := 4)), Op.lookupswitch.offset_cons, if_neg (q_neJ h4 (n := 5)), Op.lookupswitch.offset_cons, if_neg (q_neJ h5 (n := 17))]; rfl) ?_
          refine q_RP_seg (g2 := (92, [(0, .ref 87), (1, .ref 65), (2, .int a2), (3, .int a3)], [.int 14, .int a2], (q_kP s c n))) 2 (fun _ _ => rfl) ?_
          cases h6 : decide (a2 = 14) with
          | true =>
            refine q_RP_cT ?_
            refine q_RP_rsT (g2 := (101, [(0, .ref 87), (1, .ref 65), (2, .int a2), (3, .int a3)], [], (q_kP s c n))) rfl rfl h6 ?_
            exact (dzt_P153_87_65_101 c n s a2 a3)
          | false =>
            refine q_RP_cF ?_
            refine q_RP_rsF (g2 := (95, [(0, .ref 87), (1, .ref 65), (2, .int a2), (3, .int a3)], [], (q_kP s c n))) rfl rfl h6 ?_
            refine q_RP_seg (g2 := (98, [(0, .ref 87), (1, .ref 65), (2, .int a2), (3, .int a3)], [.int 19, .int a2], (q_kP s c n))) 2 (fun _ _ => rfl) ?_
            cases h9 : decide (a2 = 19) with
            | true =>
              refine q_RP_cT ?_
              refine q_RP_rsF (g2 := (101, [(0, .ref 87), (1, .ref 65), (2, .int a2), (3, .int a3)], [], (q_kP s c n))) rfl rfl (q_d_neT h9) ?_
              exact (dzt_P153_87_65_101 c n s a2 a3)
            | false =>
              refine q_RP_cF ?_
              refine q_RP_rsT (g2 := (105, [(0, .ref 87), (1, .ref 65), (2, .int a2), (3, .int a3)], [], (q_kP s c n))) rfl rfl (q_d_neF h9) ?_
              refine q_RP_seg (g2 := (110, [(4, .int (-1)), (0, .ref 87), (1, .ref 65), (2, .int a2), (3, .int a3)], [.int a3, .ref 65], (q_kP s c n))) 4 (fun _ _ => rfl) ?_
              refine q_RP_bd fun r11 er11 => ?_
              refine q_RP_call (v := (some (.int r11.2))) (h2 := (q_kP r11.1 c n)) rfl rfl ((dzt_P93_65 s c n a3 r11 er11).le (Nat.le_of_ble_eq_true rfl)) ?_
              show q_RP _ _ _ (113, [(4, .int (-1)), (0, .ref 87), (1, .ref 65), (2, .int a2), (3, .int a3)], [.int r11.2], (q_kP r11.1 c n)) _ _
              refine q_RP_seg (g2 := (126, [(5, .int ((r11.2 + (-1)) &&& 255)), (4, .int (-1)), (0, .ref 87), (1, .ref 65), (2, .int a2), (3, .int a3)], [.int ((r11.2 + (-1)) &&& 255), .int a3, .ref 65], (q_kP r11.1 c n))) 8 (fun _ _ => rfl) ?_
              refine q_RP_bd fun r12 er12 => ?_
              refine q_RP_call (v := none) (h2 := (q_kP r12 c n)) rfl rfl ((dzt_P94_65 r11.1 c n a3 ((r11.2 + (-1)) &&& 255) r12 er12).le (Nat.le_of_ble_eq_true rfl)) ?_
              show q_RP _ _ _ (129, [(5, .int ((r11.2 + (-1)) &&& 255)), (4, .int (-1)), (0, .ref 87), (1, .ref 65), (2, .int a2), (3, .int a3)], [], (q_kP r12 c n)) _ _
              refine q_RP_seg (g2 := (132, [(5, .int ((r11.2 + (-1)) &&& 255)), (4, .int (-1)), (0, .ref 87), (1, .ref 65), (2, .int a2), (3, .int a3)], [.int 18, .int a2], (q_kP r12 c n))) 2 (fun _ _ => rfl) ?_
              cases h10 : decide (a2 = 18) with
              | true =>
                refine q_RP_cT ?_
                refine q_RP_rsF (g2 := (135, [(5, .int ((r11.2 + (-1)) &&& 255)), (4, .int (-1)), (0, .ref 87), (1, .ref 65), (2, .int a2), (3, .int a3)], [], (q_kP r12 c n))) rfl rfl (q_d_neT h10) ?_
                refine q_RP_seg (g2 := (140, [(5, .int ((r11.2 + (-1)) &&& 255)), (4, .int (-1)), (0, .ref 87), (1, .ref 65), (2, .int a2), (3, .int a3)], [.int (r12.2.1 23 0), .ref 87], (q_kP r12 c n))) 3 (fun _ _ => rfl) ?_
                refine q_RP_seg (g2 := (142, [(5, .int ((r11.2 + (-1)) &&& 255)), (4, .int (-1)), (0, .ref 87), (1, .ref 65), (2, .int a2), (3, .int a3)], [.int ((r11.2 + (-1)) &&& 255), .int (r12.2.1 23 0), .ref 87], (q_kP r12 c n))) 1 (fun _ _ => rfl) ?_
                refine q_RP_call (v := none) (h2 := (q_kP (dz_N151_87 r12 (r12.2.1 23 0) ((r11.2 + (-1)) &&& 255)) c n)) rfl rfl ((dzt_P151_87 r12 c n (r12.2.1 23 0) ((r11.2 + (-1)) &&& 255)).le (Nat.le_of_ble_eq_true rfl)) ?_
                generalize dz_N151_87 r12 (r12.2.1 23 0) ((r11.2 + (-1)) &&& 255) = r13
                refine q_RP_let ?_
                show q_RP _ _ _ (145, [(5, .int ((r11.2 + (-1)) &&& 255)), (4, .int (-1)), (0, .ref 87), (1, .ref 65), (2, .int a2), (3, .int a3)], [], (q_kP r13 c n)) _ _
                refine q_RP_seg (g2 := (170, [(5, .int ((r11.2 + (-1)) &&& 255)), (4, .int (-1)), (0, .ref 87), (1, .ref 65), (2, .int a2), (3, .int a3)], [], (q_kP r13 c n))) 1 (fun _ _ => rfl) ?_
                exact q_RP_ret rfl rfl rfl
              | false =>
                refine q_RP_cF ?_
                refine q_RP_rsT (g2 := (148, [(5, .int ((r11.2 + (-1)) &&& 255)), (4, .int (-1)), (0, .ref 87), (1, .ref 65), (2, .int a2), (3, .int a3)], [], (q_kP r12 c n))) rfl rfl (q_d_neF h10) ?_
                refine q_RP_seg (g2 := (151, [(5, .int ((r11.2 + (-1)) &&& 255)), (4, .int (-1)), (0, .ref 87), (1, .ref 65), (2, .int a2), (3, .int a3)], [.int 19, .int a2], (q_kP r12 c n))) 2 (fun _ _ => rfl) ?_
                refine q_RP_rsT (g2 := (163, [(5, .int ((r11.2 + (-1)) &&& 255)), (4, .int (-1)), (0, .ref 87), (1, .ref 65), (2, .int a2), (3, .int a3)], [], (q_kP r12 c n))) rfl rfl (q_d_neF h9) ?_
                refine q_RP_seg (g2 := (166, [(5, .int ((r11.2 + (-1)) &&& 255)), (4, .int (-1)), (0, .ref 87), (1, .ref 65), (2, .int a2), (3, .int a3)], [.int ((r11.2 + (-1)) &&& 255), .ref 87], (q_kP r12 c n))) 2 (fun _ _ => rfl) ?_
                refine q_RP_call (v := (some (.int (dz_N150_87 r12 ((r11.2 + (-1)) &&& 255)).2))) (h2 := (q_kP (dz_N150_87 r12 ((r11.2 + (-1)) &&& 255)).1 c n)) rfl rfl ((dzt_P150_87 r12 c n ((r11.2 + (-1)) &&& 255)).le (Nat.le_of_ble_eq_true rfl)) ?_
                generalize dz_N150_87 r12 ((r11.2 + (-1)) &&& 255) = r14
                refine q_RP_let ?_
                show q_RP _ _ _ (169, [(5, .int ((r11.2 + (-1)) &&& 255)), (4, .int (-1)), (0, .ref 87), (1, .ref 65), (2, .int a2), (3, .int a3)], [.int r14.2], (q_kP r14.1 c n)) _ _
                refine q_RP_seg (g2 := (170, [(5, .int ((r11.2 + (-1)) &&& 255)), (4, .int (-1)), (0, .ref 87), (1, .ref 65), (2, .int a2), (3, .int a3)], [], (q_kP r14.1 c n))) 1 (fun _ _ => rfl) ?_
                exact q_RP_ret rfl rfl rfl
set_option maxHeartbeats 4000000 in
theorem dzt_P142_87_65_142 (c n : Nat) (s : q_S) (v2 : Int32) (v3 : Int32) (v4 : Int32) (v5 : Int32) : q_RP q_TB0 4 141 (142, [(0, .ref 87), (1, .ref 65), (2, .int v2), (3, .int v3), (4, .int v4), (5, .int v5)], [], (q_kP s c n)) (q_oSP c n) (dz_N142_87_65_142 s v2 v3 v4 v5) := by
  unfold dz_N142_87_65_142
  refine q_RP_seg (g2 := (143, [(0, .ref 87), (1, .ref 65), (2, .int v2), (3, .int v3), (4, .int v4), (5, .int v5)], [.int v3], (q_kP s c n))) 1 (fun _ _ => rfl) ?_
  cases h6 : decide (v3 < 0) with
  | true =>
    refine q_RP_cT ?_
    refine q_RP_rsF (g2 := (146, [(0, .ref 87), (1, .ref 65), (2, .int v2), (3, .int v3), (4, .int v4), (5, .int v5)], [], (q_kP s c n))) rfl rfl (q_d_geT h6) ?_
    refine q_RP_seg (g2 := (151, [(0, .ref 87), (1, .ref 65), (2, .int v2), (3, .int v3), (4, .int v4), (5, .int v5)], [.int v5, .int v2, .ref 65, .ref 87], (q_kP s c n))) 4 (fun _ _ => rfl) ?_
    refine q_RP_bd fun r8 er8 => ?_
    refine q_RP_call (v := (some (.int r8.2))) (h2 := (q_kP r8.1 c n)) rfl rfl ((dzt_P158_87_65 s c n v2 v5 r8 er8).le (Nat.le_of_ble_eq_true rfl)) ?_
    show q_RP _ _ _ (154, [(0, .ref 87), (1, .ref 65), (2, .int v2), (3, .int v3), (4, .int v4), (5, .int v5)], [.int r8.2], (q_kP r8.1 c n)) _ _
    refine q_RP_seg (g2 := (226, [(5, .int r8.2), (0, .ref 87), (1, .ref 65), (2, .int v2), (3, .int v3), (4, .int v4)], [], (q_kP (q_sI r8.1 23 4 r8.2) c n))) 5 (fun _ _ => rfl) ?_
    exact q_RP_ret rfl rfl rfl
  | false =>
    refine q_RP_cF ?_
    refine q_RP_rsT (g2 := (159, [(0, .ref 87), (1, .ref 65), (2, .int v2), (3, .int v3), (4, .int v4), (5, .int v5)], [], (q_kP s c n))) rfl rfl (q_d_geF h6) ?_
    refine q_RP_seg (g2 := (161, [(0, .ref 87), (1, .ref 65), (2, .int v2), (3, .int v3), (4, .int v4), (5, .int v5)], [.int v4], (q_kP s c n))) 1 (fun _ _ => rfl) ?_
    cases h7 : decide (v4 = 0) with
    | true =>
      refine q_RP_cT ?_
      refine q_RP_rsF (g2 := (164, [(0, .ref 87), (1, .ref 65), (2, .int v2), (3, .int v3), (4, .int v4), (5, .int v5)], [], (q_kP s c n))) rfl rfl (q_d_neT h7) ?_
      refine q_RP_seg (g2 := (169, [(0, .ref 87), (1, .ref 65), (2, .int v2), (3, .int v3), (4, .int v4), (5, .int v5)], [.int 1, .ref 87, .ref 65, .int v3, .ref 87], (q_kP s c n))) 5 (fun _ _ => rfl) ?_
      refine q_RP_call (v := (some (.int (dz_N140_87 s 1)))) (h2 := (q_kP s c n)) rfl rfl ((dzt_P140_87 s c n 1).le (Nat.le_of_ble_eq_true rfl)) ?_
      generalize dz_N140_87 s 1 = r9
      refine q_RP_let ?_
      show q_RP _ _ _ (172, [(0, .ref 87), (1, .ref 65), (2, .int v2), (3, .int v3), (4, .int v4), (5, .int v5)], [.int r9, .ref 65, .int v3, .ref 87], (q_kP s c n)) _ _
      refine q_RP_bd fun r10 er10 => ?_
      refine q_RP_call (v := (some (.int r10))) (h2 := (q_kP s c n)) rfl rfl ((dzt_P90_65 s c n r9 r10 er10).le (Nat.le_of_ble_eq_true rfl)) ?_
      show q_RP _ _ _ (175, [(0, .ref 87), (1, .ref 65), (2, .int v2), (3, .int v3), (4, .int v4), (5, .int v5)], [.int r10, .int v3, .ref 87], (q_kP s c n)) _ _
      refine q_RP_call (v := none) (h2 := (q_kP (dz_N152_87 s v3 r10) c n)) rfl rfl ((dzt_P152_87 s c n v3 r10).le (Nat.le_of_ble_eq_true rfl)) ?_
      generalize dz_N152_87 s v3 r10 = r11
      refine q_RP_let ?_
      show q_RP _ _ _ (178, [(0, .ref 87), (1, .ref 65), (2, .int v2), (3, .int v3), (4, .int v4), (5, .int v5)], [], (q_kP r11 c n)) _ _
      refine q_RP_seg (g2 := (226, [(0, .ref 87), (1, .ref 65), (2, .int v2), (3, .int v3), (4, .int v4), (5, .int v5)], [], (q_kP (q_sI r11 23 4 v5) c n))) 4 (fun _ _ => rfl) ?_
      exact q_RP_ret rfl rfl rfl
    | false =>
      refine q_RP_cF ?_
      refine q_RP_rsT (g2 := (181, [(0, .ref 87), (1, .ref 65), (2, .int v2), (3, .int v3), (4, .int v4), (5, .int v5)], [], (q_kP s c n))) rfl rfl (q_d_neF h7) ?_
      refine q_RP_seg (g2 := (182, [(0, .ref 87), (1, .ref 65), (2, .int v2), (3, .int v3), (4, .int v4), (5, .int v5)], [.int v3], (q_kP s c n))) 1 (fun _ _ => rfl) ?_
      refine q_RP_call (v := (some (.int (q_b (dz_N188 s v3))))) (h2 := (q_kP s c n)) rfl rfl ((dzt_P188 s c n v3).le (Nat.le_of_ble_eq_true rfl)) ?_
      generalize dz_N188 s v3 = r12
      refine q_RP_let ?_
      show q_RP _ _ _ (185, [(0, .ref 87), (1, .ref 65), (2, .int v2), (3, .int v3), (4, .int v4), (5, .int v5)], [.int (q_b r12)], (q_kP s c n)) _ _
      cases h8 : r12 with
      | true =>
        refine q_RP_cT ?_
        show q_RP _ _ _ (185, [(0, .ref 87), (1, .ref 65), (2, .int v2), (3, .int v3), (4, .int v4), (5, .int v5)], [.int 1], (q_kP s c n)) _ _
        refine q_RP_seg (g2 := (195, [(0, .ref 87), (1, .ref 65), (2, .int v2), (3, .int v3), (4, .int v4), (5, .int v5)], [.int v4, .ref 65, .ref 87, .int v3, .ref 65, .ref 87], (q_kP s c n))) 7 (fun _ _ => rfl) ?_
        refine q_RP_bd fun r13 er13 => ?_
        refine q_RP_call (v := (some (.int r13))) (h2 := (q_kP s c n)) rfl rfl ((dzt_P144_87_65 s c n v4 r13 er13).le (Nat.le_of_ble_eq_true rfl)) ?_
        show q_RP _ _ _ (198, [(0, .ref 87), (1, .ref 65), (2, .int v2), (3, .int v3), (4, .int v4), (5, .int v5)], [.int r13, .int v3, .ref 65, .ref 87], (q_kP s c n)) _ _
        refine q_RP_bd fun r14 er14 => ?_
        refine q_RP_call (v := none) (h2 := (q_kP r14 c n)) rfl rfl ((dzt_P153_87_65 s c n v3 r13 r14 er14).le (Nat.le_of_ble_eq_true rfl)) ?_
        show q_RP _ _ _ (201, [(0, .ref 87), (1, .ref 65), (2, .int v2), (3, .int v3), (4, .int v4), (5, .int v5)], [], (q_kP r14 c n)) _ _
        refine q_RP_seg (g2 := (226, [(0, .ref 87), (1, .ref 65), (2, .int v2), (3, .int v3), (4, .int v4), (5, .int v5)], [], (q_kP (q_sI r14 23 4 v5) c n))) 4 (fun _ _ => rfl) ?_
        exact q_RP_ret rfl rfl rfl
      | false =>
        refine q_RP_cF ?_
        show q_RP _ _ _ (185, [(0, .ref 87), (1, .ref 65), (2, .int v2), (3, .int v3), (4, .int v4), (5, .int v5)], [.int 0], (q_kP s c n)) _ _
        refine q_RP_seg (g2 := (211, [(0, .ref 87), (1, .ref 65), (2, .int v2), (3, .int v3), (4, .int v4), (5, .int v5)], [.int v4, .ref 65, .ref 87, .ref 65, .int v3, .ref 87], (q_kP s c n))) 7 (fun _ _ => rfl) ?_
        refine q_RP_bd fun r15 er15 => ?_
        refine q_RP_call (v := (some (.int r15))) (h2 := (q_kP s c n)) rfl rfl ((dzt_P144_87_65 s c n v4 r15 er15).le (Nat.le_of_ble_eq_true rfl)) ?_
        show q_RP _ _ _ (214, [(0, .ref 87), (1, .ref 65), (2, .int v2), (3, .int v3), (4, .int v4), (5, .int v5)], [.int r15, .ref 65, .int v3, .ref 87], (q_kP s c n)) _ _
        refine q_RP_bd fun r16 er16 => ?_
        refine q_RP_call (v := (some (.int r16.2))) (h2 := (q_kP r16.1 c n)) rfl rfl ((dzt_P93_65 s c n r15 r16 er16).le (Nat.le_of_ble_eq_true rfl)) ?_
        show q_RP _ _ _ (217, [(0, .ref 87), (1, .ref 65), (2, .int v2), (3, .int v3), (4, .int v4), (5, .int v5)], [.int r16.2, .int v3, .ref 87], (q_kP r16.1 c n)) _ _
        refine q_RP_call (v := none) (h2 := (q_kP (dz_N152_87 r16.1 v3 r16.2) c n)) rfl rfl ((dzt_P152_87 r16.1 c n v3 r16.2).le (Nat.le_of_ble_eq_true rfl)) ?_
        generalize dz_N152_87 r16.1 v3 r16.2 = r17
        refine q_RP_let ?_
        show q_RP _ _ _ (220, [(0, .ref 87), (1, .ref 65), (2, .int v2), (3, .int v3), (4, .int v4), (5, .int v5)], [], (q_kP r17 c n)) _ _
        refine q_RP_seg (g2 := (226, [(0, .ref 87), (1, .ref 65), (2, .int v2), (3, .int v3), (4, .int v4), (5, .int v5)], [], (q_kP (q_sI r17 23 4 v5) c n))) 3 (fun _ _ => rfl) ?_
        exact q_RP_ret rfl rfl rfl
set_option maxHeartbeats 4000000 in
theorem dzt_P142_87_65 (s : q_S) (c n : Nat) (x : q_S) (h : dz_N142_87_65 s = some x) : q_Ca q_TB0 5 141 [.ref 87, .ref 65] (q_kP s c n) ((q_oSP c n) x) := by
  refine q_CaP_of (φ := (q_oSP c n)) (Nat.le_of_ble_eq_true rfl) ?_ h
  clear h
  unfold dz_N142_87_65
  refine q_RP_seg (g2 := (5, [(0, .ref 87), (1, .ref 65)], [.int (s.2.1 23 10), .ref 87], (q_kP s c n))) 3 (fun _ _ => rfl) ?_
  refine q_RP_seg (g2 := (14, [(0, .ref 87), (1, .ref 65)], [.int (s.2.1 23 8)], (q_kP (q_sI s 23 10 ((s.2.1 23 10) + 1)) c n))) 5 (fun _ _ => rfl) ?_
  cases h2 : decide (s.2.1 23 8 = 0) with
  | true =>
    refine q_RP_cT ?_
    refine q_RP_rsT (g2 := (38, [(0, .ref 87), (1, .ref 65)], [], (q_kP (q_sI s 23 10 ((s.2.1 23 10) + 1)) c n))) rfl rfl h2 ?_
    refine q_RP_seg (g2 := (46, [(0, .ref 87), (1, .ref 65)], [.int (s.2.1 23 11), .ref 88], (q_kP (q_sI s 23 10 ((s.2.1 23 10) + 1)) c n))) 4 (fun _ _ => rfl) ?_
    refine q_RP_seg (g2 := (53, [(0, .ref 87), (1, .ref 65)], [.int (s.2.1 23 4), .int ((s.2.1 23 11) &&& 15), .ref 88], (q_kP (q_sI s 23 10 ((s.2.1 23 10) + 1)) c n))) 4 (fun _ _ => rfl) ?_
    refine q_RP_rsT (g2 := (54, [(0, .ref 87), (1, .ref 65)], [], (q_kP (q_sA (q_sI s 23 10 ((s.2.1 23 10) + 1)) 24 (upd (s.1 24) (((s.2.1 23 11) &&& 15).toNatClampNeg) (s.2.1 23 4))) c n))) rfl rfl (q_in_bd (x := (s.2.1 23 11) &&& 15) (n := 16) (U := 15) (L := 0) (q_and_lo (s.2.1 23 11) 15) (q_and_hi (s.2.1 23 11) 15 15)) ?_
    refine q_RP_seg (g2 := (59, [(0, .ref 87), (1, .ref 65)], [.int (s.2.1 23 11), .ref 87], (q_kP (q_sA (q_sI s 23 10 ((s.2.1 23 10) + 1)) 24 (upd (s.1 24) (((s.2.1 23 11) &&& 15).toNatClampNeg) (s.2.1 23 4))) c n))) 3 (fun _ _ => rfl) ?_
    refine q_RP_seg (g2 := (69, [(0, .ref 87), (1, .ref 65)], [.int (s.2.1 23 4), .ref 65], (q_kP (q_sI (q_sA (q_sI s 23 10 ((s.2.1 23 10) + 1)) 24 (upd (s.1 24) (((s.2.1 23 11) &&& 15).toNatClampNeg) (s.2.1 23 4))) 23 11 ((s.2.1 23 11) + 1)) c n))) 6 (fun _ _ => rfl) ?_
    refine q_RP_bd fun r2 er2 => ?_
    refine q_RP_call (v := (some (.int r2))) (h2 := (q_kP (q_sI (q_sA (q_sI s 23 10 ((s.2.1 23 10) + 1)) 24 (upd (s.1 24) (((s.2.1 23 11) &&& 15).toNatClampNeg) (s.2.1 23 4))) 23 11 ((s.2.1 23 11) + 1)) c n)) rfl rfl ((dzt_P90_65 (q_sI (q_sA (q_sI s 23 10 ((s.2.1 23 10) + 1)) 24 (upd (s.1 24) (((s.2.1 23 11) &&& 15).toNatClampNeg) (s.2.1 23 4))) 23 11 ((s.2.1 23 11) + 1)) c n (s.2.1 23 4) r2 er2).le (Nat.le_of_ble_eq_true rfl)) ?_
    show q_RP _ _ _ (72, [(0, .ref 87), (1, .ref 65)], [.int r2], (q_kP (q_sI (q_sA (q_sI s 23 10 ((s.2.1 23 10) + 1)) 24 (upd (s.1 24) (((s.2.1 23 11) &&& 15).toNatClampNeg) (s.2.1 23 4))) 23 11 ((s.2.1 23 11) + 1)) c n)) _ _
    refine q_RP_seg (g2 := (74, [(2, .int r2), (0, .ref 87), (1, .ref 65)], [.int r2], (q_kP (q_sI (q_sA (q_sI s 23 10 ((s.2.1 23 10) + 1)) 24 (upd (s.1 24) (((s.2.1 23 11) &&& 15).toNatClampNeg) (s.2.1 23 4))) 23 11 ((s.2.1 23 11) + 1)) c n))) 2 (fun _ _ => rfl) ?_
    refine q_RP_call (v := (some (.int (dz_N186 (q_sI (q_sA (q_sI s 23 10 ((s.2.1 23 10) + 1)) 24 (upd (s.1 24) (((s.2.1 23 11) &&& 15).toNatClampNeg) (s.2.1 23 4))) 23 11 ((s.2.1 23 11) + 1)) r2)))) (h2 := (q_kP (q_sI (q_sA (q_sI s 23 10 ((s.2.1 23 10) + 1)) 24 (upd (s.1 24) (((s.2.1 23 11) &&& 15).toNatClampNeg) (s.2.1 23 4))) 23 11 ((s.2.1 23 11) + 1)) c n)) rfl rfl ((dzt_P186 (q_sI (q_sA (q_sI s 23 10 ((s.2.1 23 10) + 1)) 24 (upd (s.1 24) (((s.2.1 23 11) &&& 15).toNatClampNeg) (s.2.1 23 4))) 23 11 ((s.2.1 23 11) + 1)) c n r2).le (Nat.le_of_ble_eq_true rfl)) ?_
    generalize dz_N186 (q_sI (q_sA (q_sI s 23 10 ((s.2.1 23 10) + 1)) 24 (upd (s.1 24) (((s.2.1 23 11) &&& 15).toNatClampNeg) (s.2.1 23 4))) 23 11 ((s.2.1 23 11) + 1)) r2 = r3
    refine q_RP_let ?_
    show q_RP _ _ _ (77, [(2, .int r2), (0, .ref 87), (1, .ref 65)], [.int r3], (q_kP (q_sI (q_sA (q_sI s 23 10 ((s.2.1 23 10) + 1)) 24 (upd (s.1 24) (((s.2.1 23 11) &&& 15).toNatClampNeg) (s.2.1 23 4))) 23 11 ((s.2.1 23 11) + 1)) c n)) _ _
    refine q_RP_seg (g2 := (86, [(4, .int (r2 &&& 7)), (3, .int r3), (2, .int r2), (0, .ref 87), (1, .ref 65)], [.int r2, .ref 87], (q_kP (q_sI (q_sA (q_sI s 23 10 ((s.2.1 23 10) + 1)) 24 (upd (s.1 24) (((s.2.1 23 11) &&& 15).toNatClampNeg) (s.2.1 23 4))) 23 11 ((s.2.1 23 11) + 1)) c n))) 7 (fun _ _ => rfl) ?_
    refine q_RP_call (v := (some (.int (dz_N190 (q_sI (q_sA (q_sI s 23 10 ((s.2.1 23 10) + 1)) 24 (upd (s.1 24) (((s.2.1 23 11) &&& 15).toNatClampNeg) (s.2.1 23 4))) 23 11 ((s.2.1 23 11) + 1)) r2)))) (h2 := (q_kP (q_sI (q_sA (q_sI s 23 10 ((s.2.1 23 10) + 1)) 24 (upd (s.1 24) (((s.2.1 23 11) &&& 15).toNatClampNeg) (s.2.1 23 4))) 23 11 ((s.2.1 23 11) + 1)) c n)) rfl rfl ((dzt_P190 (q_sI (q_sA (q_sI s 23 10 ((s.2.1 23 10) + 1)) 24 (upd (s.1 24) (((s.2.1 23 11) &&& 15).toNatClampNeg) (s.2.1 23 4))) 23 11 ((s.2.1 23 11) + 1)) c n r2).le (Nat.le_of_ble_eq_true rfl)) ?_
    generalize dz_N190 (q_sI (q_sA (q_sI s 23 10 ((s.2.1 23 10) + 1)) 24 (upd (s.1 24) (((s.2.1 23 11) &&& 15).toNatClampNeg) (s.2.1 23 4))) 23 11 ((s.2.1 23 11) + 1)) r2 = r4
    refine q_RP_let ?_
    show q_RP _ _ _ (89, [(4, .int (r2 &&& 7)), (3, .int r3), (2, .int r2), (0, .ref 87), (1, .ref 65)], [.int r4, .ref 87], (q_kP (q_sI (q_sA (q_sI s 23 10 ((s.2.1 23 10) + 1)) 24 (upd (s.1 24) (((s.2.1 23 11) &&& 15).toNatClampNeg) (s.2.1 23 4))) 23 11 ((s.2.1 23 11) + 1)) c n)) _ _
    refine q_RP_call (v := (some (.int (dz_N140_87 (q_sI (q_sA (q_sI s 23 10 ((s.2.1 23 10) + 1)) 24 (upd (s.1 24) (((s.2.1 23 11) &&& 15).toNatClampNeg) (s.2.1 23 4))) 23 11 ((s.2.1 23 11) + 1)) r4)))) (h2 := (q_kP (q_sI (q_sA (q_sI s 23 10 ((s.2.1 23 10) + 1)) 24 (upd (s.1 24) (((s.2.1 23 11) &&& 15).toNatClampNeg) (s.2.1 23 4))) 23 11 ((s.2.1 23 11) + 1)) c n)) rfl rfl ((dzt_P140_87 (q_sI (q_sA (q_sI s 23 10 ((s.2.1 23 10) + 1)) 24 (upd (s.1 24) (((s.2.1 23 11) &&& 15).toNatClampNeg) (s.2.1 23 4))) 23 11 ((s.2.1 23 11) + 1)) c n r4).le (Nat.le_of_ble_eq_true rfl)) ?_
    generalize dz_N140_87 (q_sI (q_sA (q_sI s 23 10 ((s.2.1 23 10) + 1)) 24 (upd (s.1 24) (((s.2.1 23 11) &&& 15).toNatClampNeg) (s.2.1 23 4))) 23 11 ((s.2.1 23 11) + 1)) r4 = r5
    refine q_RP_let ?_
    show q_RP _ _ _ (92, [(4, .int (r2 &&& 7)), (3, .int r3), (2, .int r2), (0, .ref 87), (1, .ref 65)], [.int r5], (q_kP (q_sI (q_sA (q_sI s 23 10 ((s.2.1 23 10) + 1)) 24 (upd (s.1 24) (((s.2.1 23 11) &&& 15).toNatClampNeg) (s.2.1 23 4))) 23 11 ((s.2.1 23 11) + 1)) c n)) _ _
    refine q_RP_seg (g2 := (98, [(5, .int r5), (4, .int (r2 &&& 7)), (3, .int r3), (2, .int r2), (0, .ref 87), (1, .ref 65)], [.int 154, .int r2], (q_kP (q_sI (q_sA (q_sI s 23 10 ((s.2.1 23 10) + 1)) 24 (upd (s.1 24) (((s.2.1 23 11) &&& 15).toNatClampNeg) (s.2.1 23 4))) 23 11 ((s.2.1 23 11) + 1)) c n))) 3 (fun _ _ => rfl) ?_
    cases h3 : decide (r2 = 154) with
    | true =>
      refine q_RP_cT ?_
      refine q_RP_rsF (g2 := (101, [(5, .int r5), (4, .int (r2 &&& 7)), (3, .int r3), (2, .int r2), (0, .ref 87), (1, .ref 65)], [], (q_kP (q_sI (q_sA (q_sI s 23 10 ((s.2.1 23 10) + 1)) 24 (upd (s.1 24) (((s.2.1 23 11) &&& 15).toNatClampNeg) (s.2.1 23 4))) 23 11 ((s.2.1 23 11) + 1)) c n))) rfl rfl (q_d_neT h3) ?_
      refine q_RP_seg (g2 := (109, [(5, .int r5), (4, .int (r2 &&& 7)), (3, .int r3), (2, .int r2), (0, .ref 87), (1, .ref 65)], [.int (s.2.1 23 5), .int r5, .ref 65, .ref 87], (q_kP (q_sI (q_sA (q_sI s 23 10 ((s.2.1 23 10) + 1)) 24 (upd (s.1 24) (((s.2.1 23 11) &&& 15).toNatClampNeg) (s.2.1 23 4))) 23 11 ((s.2.1 23 11) + 1)) c n))) 5 (fun _ _ => rfl) ?_
      refine q_RP_seg (g2 := (118, [(5, .int r5), (4, .int (r2 &&& 7)), (3, .int r3), (2, .int r2), (0, .ref 87), (1, .ref 65)], [.int 3838, .int (((s.2.1 23 5) ||| 32) ||| 16), .int r5, .ref 65, .ref 87], (q_kP (q_sI (q_sA (q_sI s 23 10 ((s.2.1 23 10) + 1)) 24 (upd (s.1 24) (((s.2.1 23 11) &&& 15).toNatClampNeg) (s.2.1 23 4))) 23 11 ((s.2.1 23 11) + 1)) c n))) 5 (fun _ _ => rfl) ?_
      refine q_RP_bd fun r6 er6 => ?_
      refine q_RP_call (v := none) (h2 := (q_kP r6 c n)) rfl rfl ((dzt_P148_87_65 (q_sI (q_sA (q_sI s 23 10 ((s.2.1 23 10) + 1)) 24 (upd (s.1 24) (((s.2.1 23 11) &&& 15).toNatClampNeg) (s.2.1 23 4))) 23 11 ((s.2.1 23 11) + 1)) c n r5 (((s.2.1 23 5) ||| 32) ||| 16) 3838 r6 er6).le (Nat.le_of_ble_eq_true rfl)) ?_
      show q_RP _ _ _ (121, [(5, .int r5), (4, .int (r2 &&& 7)), (3, .int r3), (2, .int r2), (0, .ref 87), (1, .ref 65)], [], (q_kP r6 c n)) _ _
      exact q_RP_ret rfl rfl rfl
    | false =>
      refine q_RP_cF ?_
      refine q_RP_rsT (g2 := (122, [(5, .int r5), (4, .int (r2 &&& 7)), (3, .int r3), (2, .int r2), (0, .ref 87), (1, .ref 65)], [], (q_kP (q_sI (q_sA (q_sI s 23 10 ((s.2.1 23 10) + 1)) 24 (upd (s.1 24) (((s.2.1 23 11) &&& 15).toNatClampNeg) (s.2.1 23 4))) 23 11 ((s.2.1 23 11) + 1)) c n))) rfl rfl (q_d_neF h3) ?_
      refine q_RP_seg (g2 := (123, [(5, .int r5), (4, .int (r2 &&& 7)), (3, .int r3), (2, .int r2), (0, .ref 87), (1, .ref 65)], [.int r3], (q_kP (q_sI (q_sA (q_sI s 23 10 ((s.2.1 23 10) + 1)) 24 (upd (s.1 24) (((s.2.1 23 11) &&& 15).toNatClampNeg) (s.2.1 23 4))) 23 11 ((s.2.1 23 11) + 1)) c n))) 1 (fun _ _ => rfl) ?_
      cases h4 : decide (r3 < 0) with
      | true =>
        refine q_RP_cT ?_
        refine q_RP_rsF (g2 := (126, [(5, .int r5), (4, .int (r2 &&& 7)), (3, .int r3), (2, .int r2), (0, .ref 87), (1, .ref 65)], [], (q_kP (q_sI (q_sA (q_sI s 23 10 ((s.2.1 23 10) + 1)) 24 (upd (s.1 24) (((s.2.1 23 11) &&& 15).toNatClampNeg) (s.2.1 23 4))) 23 11 ((s.2.1 23 11) + 1)) c n))) rfl rfl (q_d_geT h4) ?_
        refine q_RP_seg (g2 := (130, [(5, .int r5), (4, .int (r2 &&& 7)), (3, .int r3), (2, .int r2), (0, .ref 87), (1, .ref 65)], [.int 154, .int r2], (q_kP (q_sI (q_sA (q_sI s 23 10 ((s.2.1 23 10) + 1)) 24 (upd (s.1 24) (((s.2.1 23 11) &&& 15).toNatClampNeg) (s.2.1 23 4))) 23 11 ((s.2.1 23 11) + 1)) c n))) 2 (fun _ _ => rfl) ?_
        cases h5 : decide (r2 < 154) with
        | true =>
          refine q_RP_cT ?_
          refine q_RP_rsF (g2 := (133, [(5, .int r5), (4, .int (r2 &&& 7)), (3, .int r3), (2, .int r2), (0, .ref 87), (1, .ref 65)], [], (q_kP (q_sI (q_sA (q_sI s 23 10 ((s.2.1 23 10) + 1)) 24 (upd (s.1 24) (((s.2.1 23 11) &&& 15).toNatClampNeg) (s.2.1 23 4))) 23 11 ((s.2.1 23 11) + 1)) c n))) rfl rfl (q_d_geT h5) ?_
          refine q_RP_seg (g2 := (136, [(5, .int r5), (4, .int (r2 &&& 7)), (3, .int r3), (2, .int r2), (0, .ref 87), (1, .ref 65)], [.int r2, .ref 65, .ref 87], (q_kP (q_sI (q_sA (q_sI s 23 10 ((s.2.1 23 10) + 1)) 24 (upd (s.1 24) (((s.2.1 23 11) &&& 15).toNatClampNeg) (s.2.1 23 4))) 23 11 ((s.2.1 23 11) + 1)) c n))) 3 (fun _ _ => rfl) ?_
          refine q_RP_bd fun r7 er7 => ?_
          refine q_RP_call (v := none) (h2 := (q_kP r7 c n)) rfl rfl ((dzt_P157_87_65 (q_sI (q_sA (q_sI s 23 10 ((s.2.1 23 10) + 1)) 24 (upd (s.1 24) (((s.2.1 23 11) &&& 15).toNatClampNeg) (s.2.1 23 4))) 23 11 ((s.2.1 23 11) + 1)) c n r2 r7 er7).le (Nat.le_of_ble_eq_true rfl)) ?_
          show q_RP _ _ _ (139, [(5, .int r5), (4, .int (r2 &&& 7)), (3, .int r3), (2, .int r2), (0, .ref 87), (1, .ref 65)], [], (q_kP r7 c n)) _ _
          refine q_RP_seg (g2 := (226, [(5, .int r5), (4, .int (r2 &&& 7)), (3, .int r3), (2, .int r2), (0, .ref 87), (1, .ref 65)], [], (q_kP (q_sI r7 23 4 r5) c n))) 4 (fun _ _ => rfl) ?_
          exact q_RP_ret rfl rfl rfl
        | false =>
          refine q_RP_cF ?_
          refine q_RP_rsT (g2 := (142, [(5, .int r5), (4, .int (r2 &&& 7)), (3, .int r3), (2, .int r2), (0, .ref 87), (1, .ref 65)], [], (q_kP (q_sI (q_sA (q_sI s 23 10 ((s.2.1 23 10) + 1)) 24 (upd (s.1 24) (((s.2.1 23 11) &&& 15).toNatClampNeg) (s.2.1 23 4))) 23 11 ((s.2.1 23 11) + 1)) c n))) rfl rfl (q_d_geF h5) ?_
          exact q_RP_xt (q_xt_mk (q_mn1 4 rfl (q_mn1 5 rfl (q_mn1 3 rfl (q_mn1 2 rfl (q_mn1 1 rfl (q_mn1 0 rfl q_mn0)))))) rfl) (dzt_P142_87_65_142 c n (q_sI (q_sA (q_sI s 23 10 ((s.2.1 23 10) + 1)) 24 (upd (s.1 24) (((s.2.1 23 11) &&& 15).toNatClampNeg) (s.2.1 23 4))) 23 11 ((s.2.1 23 11) + 1)) r2 r3 (r2 &&& 7) r5)
      | false =>
        refine q_RP_cF ?_
        refine q_RP_rsT (g2 := (142, [(5, .int r5), (4, .int (r2 &&& 7)), (3, .int r3), (2, .int r2), (0, .ref 87), (1, .ref 65)], [], (q_kP (q_sI (q_sA (q_sI s 23 10 ((s.2.1 23 10) + 1)) 24 (upd (s.1 24) (((s.2.1 23 11) &&& 15).toNatClampNeg) (s.2.1 23 4))) 23 11 ((s.2.1 23 11) + 1)) c n))) rfl rfl (q_d_geF h4) ?_
        exact q_RP_xt (q_xt_mk (q_mn1 4 rfl (q_mn1 5 rfl (q_mn1 3 rfl (q_mn1 2 rfl (q_mn1 1 rfl (q_mn1 0 rfl q_mn0)))))) rfl) (dzt_P142_87_65_142 c n (q_sI (q_sA (q_sI s 23 10 ((s.2.1 23 10) + 1)) 24 (upd (s.1 24) (((s.2.1 23 11) &&& 15).toNatClampNeg) (s.2.1 23 4))) 23 11 ((s.2.1 23 11) + 1)) r2 r3 (r2 &&& 7) r5)
  | false =>
    refine q_RP_cF ?_
    refine q_RP_rsF (g2 := (17, [(0, .ref 87), (1, .ref 65)], [], (q_kP (q_sI s 23 10 ((s.2.1 23 10) + 1)) c n))) rfl rfl h2 ?_
    refine q_RP_seg (g2 := (23, [(0, .ref 87), (1, .ref 65)], [.int (s.2.1 23 4), .ref 65, .ref 87], (q_kP (q_sI s 23 10 ((s.2.1 23 10) + 1)) c n))) 4 (fun _ _ => rfl) ?_
    refine q_RP_seg (g2 := (27, [(0, .ref 87), (1, .ref 65)], [.int (s.2.1 23 5), .int (s.2.1 23 4), .ref 65, .ref 87], (q_kP (q_sI s 23 10 ((s.2.1 23 10) + 1)) c n))) 2 (fun _ _ => rfl) ?_
    refine q_RP_seg (g2 := (34, [(0, .ref 87), (1, .ref 65)], [.int (s.2.1 23 8), .int ((s.2.1 23 5) ||| 32), .int (s.2.1 23 4), .ref 65, .ref 87], (q_kP (q_sI s 23 10 ((s.2.1 23 10) + 1)) c n))) 4 (fun _ _ => rfl) ?_
    refine q_RP_bd fun r18 er18 => ?_
    refine q_RP_call (v := none) (h2 := (q_kP r18 c n)) rfl rfl ((dzt_P148_87_65 (q_sI s 23 10 ((s.2.1 23 10) + 1)) c n (s.2.1 23 4) ((s.2.1 23 5) ||| 32) (s.2.1 23 8) r18 er18).le (Nat.le_of_ble_eq_true rfl)) ?_
    show q_RP _ _ _ (37, [(0, .ref 87), (1, .ref 65)], [], (q_kP r18 c n)) _ _
    exact q_RP_ret rfl rfl rfl
set_option maxHeartbeats 4000000 in
theorem dzt_P82_64_f_69 (c n : Nat) (k14 : q_S → Int32 → Int32 → Int32 → Int32 → Int32 → Option (q_S × Int32)) (s : q_S) (hk14 : ∀ (s : q_S) (v1 : Int32) (v2 : Int32) (v3 : Int32) (v4 : Int32) (v5 : Int32), q_RP q_TB0 5 81 (14, [(0, .ref 64), (1, .int v1), (2, .int v2), (3, .int v3), (4, .int v4), (5, .int v5)], [], (q_kP s c n)) (q_oIP c n) (k14 s v1 v2 v3 v4 v5)) (v1 : Int32) (v2 : Int32) (v3 : Int32) (v4 : Int32) (v5 : Int32) : q_RP q_TB0 5 81 (69, [(0, .ref 64), (1, .int v1), (2, .int v2), (3, .int v3), (4, .int v4), (5, .int v5)], [], (q_kP s c n)) (q_oIP c n) (dz_N82_64_f_69 k14 s v1 v2 v3 v4 v5) := by
  unfold dz_N82_64_f_69
  refine q_RP_seg (g2 := (73, [(0, .ref 64), (1, .int v1), (2, .int v2), (3, .int v3), (4, .int v4), (5, .int v5)], [.ref 87], (q_kP s c n))) 2 (fun _ _ => rfl) ?_
  refine q_RP_call (v := (some (.int (q_b (dz_N141_87 s).2)))) (h2 := (q_kP (dz_N141_87 s).1 c n)) rfl rfl ((dzt_P141_87 s c n).le (Nat.le_of_ble_eq_true rfl)) ?_
  generalize dz_N141_87 s = r4
  refine q_RP_let ?_
  show q_RP _ _ _ (76, [(0, .ref 64), (1, .int v1), (2, .int v2), (3, .int v3), (4, .int v4), (5, .int v5)], [.int (q_b r4.2)], (q_kP r4.1 c n)) _ _
  cases h5 : r4.2 with
  | true =>
    refine q_RP_cT ?_
    show q_RP _ _ _ (76, [(0, .ref 64), (1, .int v1), (2, .int v2), (3, .int v3), (4, .int v4), (5, .int v5)], [.int 1], (q_kP r4.1 c n)) _ _
    refine q_RP_seg (g2 := (87, [(0, .ref 64), (1, .int v1), (2, .int v2), (3, .int v3), (4, .int v4), (5, .int v5)], [.ref 65, .ref 87], (q_kP r4.1 c n))) 5 (fun _ _ => rfl) ?_
    refine q_RP_bd fun r5 er5 => ?_
    refine q_RP_call (v := none) (h2 := (q_kP r5 c n)) rfl rfl ((dzt_P142_87_65 r4.1 c n r5 er5).le (Nat.le_of_ble_eq_true rfl)) ?_
    show q_RP _ _ _ (90, [(0, .ref 64), (1, .int v1), (2, .int v2), (3, .int v3), (4, .int v4), (5, .int v5)], [], (q_kP r5 c n)) _ _
    refine q_RP_seg (g2 := (94, [(0, .ref 64), (1, .int v1), (2, .int v2), (3, .int v3), (4, .int v4), (5, .int v5)], [.ref 65], (q_kP r5 c n))) 2 (fun _ _ => rfl) ?_
    refine q_RP_call (v := none) (h2 := (q_kP (dz_N107_65 r5) c n)) rfl rfl ((dzt_P107_65 r5 c n).le (Nat.le_of_ble_eq_true rfl)) ?_
    generalize dz_N107_65 r5 = r6
    refine q_RP_let ?_
    show q_RP _ _ _ (97, [(0, .ref 64), (1, .int v1), (2, .int v2), (3, .int v3), (4, .int v4), (5, .int v5)], [], (q_kP r6 c n)) _ _
    refine q_RP_seg (g2 := (14, [(4, .int (v4 + 1)), (0, .ref 64), (1, .int v1), (2, .int v2), (3, .int v3), (5, .int v5)], [], (q_kP r6 c n))) 2 (fun _ _ => rfl) ?_
    exact q_RP_xt (q_xt_mk (q_mn1 1 rfl (q_mn1 2 rfl (q_mn1 3 rfl (q_mn1 4 rfl (q_mn1 0 rfl (q_mn1 5 rfl q_mn0)))))) rfl) (hk14 r6 v1 v2 v3 (v4 + 1) v5)
  | false =>
    refine q_RP_cF ?_
    show q_RP _ _ _ (76, [(0, .ref 64), (1, .int v1), (2, .int v2), (3, .int v3), (4, .int v4), (5, .int v5)], [.int 0], (q_kP r4.1 c n)) _ _
    refine q_RP_seg (g2 := (94, [(0, .ref 64), (1, .int v1), (2, .int v2), (3, .int v3), (4, .int v4), (5, .int v5)], [.ref 65], (q_kP r4.1 c n))) 3 (fun _ _ => rfl) ?_
    refine q_RP_call (v := none) (h2 := (q_kP (dz_N107_65 r4.1) c n)) rfl rfl ((dzt_P107_65 r4.1 c n).le (Nat.le_of_ble_eq_true rfl)) ?_
    generalize dz_N107_65 r4.1 = r7
    refine q_RP_let ?_
    show q_RP _ _ _ (97, [(0, .ref 64), (1, .int v1), (2, .int v2), (3, .int v3), (4, .int v4), (5, .int v5)], [], (q_kP r7 c n)) _ _
    refine q_RP_seg (g2 := (14, [(4, .int (v4 + 1)), (0, .ref 64), (1, .int v1), (2, .int v2), (3, .int v3), (5, .int v5)], [], (q_kP r7 c n))) 2 (fun _ _ => rfl) ?_
    exact q_RP_xt (q_xt_mk (q_mn1 1 rfl (q_mn1 2 rfl (q_mn1 3 rfl (q_mn1 4 rfl (q_mn1 0 rfl (q_mn1 5 rfl q_mn0)))))) rfl) (hk14 r7 v1 v2 v3 (v4 + 1) v5)
set_option maxHeartbeats 4000000 in
theorem dzt_P82_64_f_35 (c n : Nat) (k14 : q_S → Int32 → Int32 → Int32 → Int32 → Int32 → Option (q_S × Int32)) (s : q_S) (hk14 : ∀ (s : q_S) (v1 : Int32) (v2 : Int32) (v3 : Int32) (v4 : Int32) (v5 : Int32), q_RP q_TB0 5 81 (14, [(0, .ref 64), (1, .int v1), (2, .int v2), (3, .int v3), (4, .int v4), (5, .int v5)], [], (q_kP s c n)) (q_oIP c n) (k14 s v1 v2 v3 v4 v5)) (v1 : Int32) (v2 : Int32) (v3 : Int32) (v4 : Int32) (v5 : Int32) : q_RP q_TB0 5 81 (35, [(0, .ref 64), (1, .int v1), (2, .int v2), (3, .int v3), (4, .int v4), (5, .int v5)], [], (q_kP s c n)) (q_oIP c n) (dz_N82_64_f_35 k14 s v1 v2 v3 v4 v5) := by
  unfold dz_N82_64_f_35
  refine q_RP_seg (g2 := (36, [(0, .ref 64), (1, .int v1), (2, .int v2), (3, .int v3), (4, .int v4), (5, .int v5)], [.ref 64], (q_kP s c n))) 1 (fun _ _ => rfl) ?_
  refine q_RP_bd fun r1 er1 => ?_
  refine q_RP_call (v := (some (.int (q_b r1.2)))) (h2 := (q_kP r1.1 c n)) rfl rfl ((dzt_P83_64 s c n r1 er1).le (Nat.le_of_ble_eq_true rfl)) ?_
  show q_RP _ _ _ (39, [(0, .ref 64), (1, .int v1), (2, .int v2), (3, .int v3), (4, .int v4), (5, .int v5)], [.int (q_b r1.2)], (q_kP r1.1 c n)) _ _
  cases h3 : r1.2 with
  | true =>
    refine q_RP_cT ?_
    show q_RP _ _ _ (39, [(0, .ref 64), (1, .int v1), (2, .int v2), (3, .int v3), (4, .int v4), (5, .int v5)], [.int 1], (q_kP r1.1 c n)) _ _
    refine q_RP_seg (g2 := (94, [(5, .int (v5 + 1)), (0, .ref 64), (1, .int v1), (2, .int v2), (3, .int v3), (4, .int v4)], [.ref 65], (q_kP r1.1 c n))) 5 (fun _ _ => rfl) ?_
    refine q_RP_call (v := none) (h2 := (q_kP (dz_N107_65 r1.1) c n)) rfl rfl ((dzt_P107_65 r1.1 c n).le (Nat.le_of_ble_eq_true rfl)) ?_
    generalize dz_N107_65 r1.1 = r2
    refine q_RP_let ?_
    show q_RP _ _ _ (97, [(5, .int (v5 + 1)), (0, .ref 64), (1, .int v1), (2, .int v2), (3, .int v3), (4, .int v4)], [], (q_kP r2 c n)) _ _
    refine q_RP_seg (g2 := (14, [(4, .int (v4 + 1)), (5, .int (v5 + 1)), (0, .ref 64), (1, .int v1), (2, .int v2), (3, .int v3)], [], (q_kP r2 c n))) 2 (fun _ _ => rfl) ?_
    exact q_RP_xt (q_xt_mk (q_mn1 2 rfl (q_mn1 3 rfl (q_mn1 4 rfl (q_mn1 5 rfl (q_mn1 0 rfl (q_mn1 1 rfl q_mn0)))))) rfl) (hk14 r2 v1 v2 v3 (v4 + 1) (v5 + 1))
  | false =>
    refine q_RP_cF ?_
    show q_RP _ _ _ (39, [(0, .ref 64), (1, .int v1), (2, .int v2), (3, .int v3), (4, .int v4), (5, .int v5)], [.int 0], (q_kP r1.1 c n)) _ _
    refine q_RP_seg (g2 := (55, [(0, .ref 64), (1, .int v1), (2, .int v2), (3, .int v3), (4, .int v4), (5, .int v5)], [.int (r1.1.2.1 23 9)], (q_kP r1.1 c n))) 4 (fun _ _ => rfl) ?_
    cases h4 : decide (r1.1.2.1 23 9 = 0) with
    | true =>
      refine q_RP_cT ?_
      refine q_RP_rsF (g2 := (58, [(0, .ref 64), (1, .int v1), (2, .int v2), (3, .int v3), (4, .int v4), (5, .int v5)], [], (q_kP r1.1 c n))) rfl rfl (q_d_neT h4) ?_
      refine q_RP_seg (g2 := (66, [(0, .ref 64), (1, .int v1), (2, .int v2), (3, .int v3), (4, .int v4), (5, .int v5)], [.ref 65, .ref 87], (q_kP r1.1 c n))) 4 (fun _ _ => rfl) ?_
      refine q_RP_bd fun r3 er3 => ?_
      refine q_RP_call (v := none) (h2 := (q_kP r3 c n)) rfl rfl ((dzt_P136_87_65 r1.1 c n r3 er3).le (Nat.le_of_ble_eq_true rfl)) ?_
      show q_RP _ _ _ (69, [(0, .ref 64), (1, .int v1), (2, .int v2), (3, .int v3), (4, .int v4), (5, .int v5)], [], (q_kP r3 c n)) _ _
      exact (dzt_P82_64_f_69 c n k14 r3 hk14 v1 v2 v3 v4 v5)
    | false =>
      refine q_RP_cF ?_
      refine q_RP_rsT (g2 := (69, [(0, .ref 64), (1, .int v1), (2, .int v2), (3, .int v3), (4, .int v4), (5, .int v5)], [], (q_kP r1.1 c n))) rfl rfl (q_d_neF h4) ?_
      exact (dzt_P82_64_f_69 c n k14 r1.1 hk14 v1 v2 v3 v4 v5)
set_option maxHeartbeats 4000000 in
theorem dzt_P82_64_f_103 (c n : Nat) (s : q_S) (v2 : Int32) (v4 : Int32) (v5 : Int32) : q_RP q_TB0 5 81 (103, [(0, .ref 64), (2, .int v2), (4, .int v4), (5, .int v5)], [], (q_kP s c n)) (q_oIP c n) (dz_N82_64_f_103 s v2 v4 v5) := by
  unfold dz_N82_64_f_103
  refine q_RP_seg (g2 := (108, [(0, .ref 64), (2, .int v2), (4, .int v4), (5, .int v5)], [.long (s.2.2 0 4), .ref 64], (q_kP s c n))) 3 (fun _ _ => rfl) ?_
  refine q_RP_seg (g2 := (116, [(0, .ref 64), (2, .int v2), (4, .int v4), (5, .int v5)], [.int v2], (q_kP (q_sJ s 0 4 ((s.2.2 0 4) + v5.toInt64)) c n))) 5 (fun _ _ => rfl) ?_
  cases h7 : decide (v2 = 0) with
  | true =>
    refine q_RP_cT ?_
    refine q_RP_rsT (g2 := (124, [(0, .ref 64), (2, .int v2), (4, .int v4), (5, .int v5)], [], (q_kP (q_sJ s 0 4 ((s.2.2 0 4) + v5.toInt64)) c n))) rfl rfl h7 ?_
    refine q_RP_seg (g2 := (126, [(0, .ref 64), (2, .int v2), (4, .int v4), (5, .int v5)], [.int v5], (q_kP (q_sJ s 0 4 ((s.2.2 0 4) + v5.toInt64)) c n))) 1 (fun _ _ => rfl) ?_
    exact q_RP_ret rfl rfl rfl
  | false =>
    refine q_RP_cF ?_
    refine q_RP_rsF (g2 := (119, [(0, .ref 64), (2, .int v2), (4, .int v4), (5, .int v5)], [], (q_kP (q_sJ s 0 4 ((s.2.2 0 4) + v5.toInt64)) c n))) rfl rfl h7 ?_
    refine q_RP_seg (g2 := (126, [(0, .ref 64), (2, .int v2), (4, .int v4), (5, .int v5)], [.int v4], (q_kP (q_sJ s 0 4 ((s.2.2 0 4) + v5.toInt64)) c n))) 2 (fun _ _ => rfl) ?_
    exact q_RP_ret rfl rfl rfl
set_option maxHeartbeats 4000000 in
theorem dzt_P82_64_f_14 (c n : Nat) : ∀ (m : Nat) (s : q_S) (v1 : Int32) (v2 : Int32) (v3 : Int32) (v4 : Int32) (v5 : Int32), q_RP q_TB0 5 81 (14, [(0, .ref 64), (1, .int v1), (2, .int v2), (3, .int v3), (4, .int v4), (5, .int v5)], [], (q_kP s c n)) (q_oIP c n) (dz_N82_64_f_14 m s v1 v2 v3 v4 v5) := by
  intro m
  induction m with
  | zero => intro s v1 v2 v3 v4 v5; exact q_RP_no
  | succ m ih =>
    intro s v1 v2 v3 v4 v5
    have hk14 := ih
    clear ih
    rw [dzs_N82_64_f_14]
    generalize dz_N82_64_f_14 m = k14 at hk14 ⊢
    dsimp only
    refine q_RP_seg (g2 := (17, [(0, .ref 64), (1, .int v1), (2, .int v2), (3, .int v3), (4, .int v4), (5, .int v5)], [.int v1, .int v4], (q_kP s c n))) 2 (fun _ _ => rfl) ?_
    cases h1 : decide (v4 < v1) with
    | true =>
      refine q_RP_cT ?_
      refine q_RP_rsF (g2 := (20, [(0, .ref 64), (1, .int v1), (2, .int v2), (3, .int v3), (4, .int v4), (5, .int v5)], [], (q_kP s c n))) rfl rfl (q_d_geT h1) ?_
      refine q_RP_seg (g2 := (21, [(0, .ref 64), (1, .int v1), (2, .int v2), (3, .int v3), (4, .int v4), (5, .int v5)], [.int v2], (q_kP s c n))) 1 (fun _ _ => rfl) ?_
      cases h2 : decide (v2 = 0) with
      | true =>
        refine q_RP_cT ?_
        refine q_RP_rsT (g2 := (35, [(0, .ref 64), (1, .int v1), (2, .int v2), (3, .int v3), (4, .int v4), (5, .int v5)], [], (q_kP s c n))) rfl rfl h2 ?_
        exact (dzt_P82_64_f_35 c n k14 s hk14 v1 v2 v3 v4 v5)
      | false =>
        refine q_RP_cF ?_
        refine q_RP_rsF (g2 := (24, [(0, .ref 64), (1, .int v1), (2, .int v2), (3, .int v3), (4, .int v4), (5, .int v5)], [], (q_kP s c n))) rfl rfl h2 ?_
        refine q_RP_seg (g2 := (31, [(0, .ref 64), (1, .int v1), (2, .int v2), (3, .int v3), (4, .int v4), (5, .int v5)], [.int (s.2.1 23 10)], (q_kP s c n))) 3 (fun _ _ => rfl) ?_
        refine q_RP_seg (g2 := (32, [(0, .ref 64), (1, .int v1), (2, .int v2), (3, .int v3), (4, .int v4), (5, .int v5)], [.int v3, .int (s.2.1 23 10)], (q_kP s c n))) 1 (fun _ _ => rfl) ?_
        cases h6 : decide (s.2.1 23 10 = v3) with
        | true =>
          refine q_RP_cT ?_
          refine q_RP_rsF (g2 := (35, [(0, .ref 64), (1, .int v1), (2, .int v2), (3, .int v3), (4, .int v4), (5, .int v5)], [], (q_kP s c n))) rfl rfl (q_d_neT h6) ?_
          exact (dzt_P82_64_f_35 c n k14 s hk14 v1 v2 v3 v4 v5)
        | false =>
          refine q_RP_cF ?_
          refine q_RP_rsT (g2 := (103, [(0, .ref 64), (1, .int v1), (2, .int v2), (3, .int v3), (4, .int v4), (5, .int v5)], [], (q_kP s c n))) rfl rfl (q_d_neF h6) ?_
          exact q_RP_xt (q_xt_mk (q_mn1 0 rfl (q_mn1 2 rfl (q_mn1 4 rfl (q_mn1 5 rfl q_mn0)))) rfl) (dzt_P82_64_f_103 c n s v2 v4 v5)
    | false =>
      refine q_RP_cF ?_
      refine q_RP_rsT (g2 := (103, [(0, .ref 64), (1, .int v1), (2, .int v2), (3, .int v3), (4, .int v4), (5, .int v5)], [], (q_kP s c n))) rfl rfl (q_d_geF h1) ?_
      exact q_RP_xt (q_xt_mk (q_mn1 0 rfl (q_mn1 2 rfl (q_mn1 4 rfl (q_mn1 5 rfl q_mn0)))) rfl) (dzt_P82_64_f_103 c n s v2 v4 v5)
set_option maxHeartbeats 4000000 in
theorem dzt_P82_64_f (s : q_S) (c n : Nat) (a1 : Int32) (x : q_S × Int32) (h : dz_N82_64_f s a1 = some x) : q_Ca q_TB0 6 81 [.ref 64, .int a1, .int 0] (q_kP s c n) ((q_oIP c n) x) := by
  refine q_CaP_of (φ := (q_oIP c n)) (Nat.le_of_ble_eq_true rfl) ?_ h
  clear h
  unfold dz_N82_64_f
  refine q_RP_seg (g2 := (7, [(0, .ref 64), (1, .int a1), (2, .int 0)], [.int (s.2.1 23 10)], (q_kP s c n))) 3 (fun _ _ => rfl) ?_
  refine q_RP_seg (g2 := (14, [(5, .int 0), (4, .int 0), (3, .int (s.2.1 23 10)), (0, .ref 64), (1, .int a1), (2, .int 0)], [], (q_kP s c n))) 5 (fun _ _ => rfl) ?_
  exact q_RP_xt (q_xt_mk (q_mn1 3 rfl (q_mn1 4 rfl (q_mn1 5 rfl (q_mn1 2 rfl (q_mn1 1 rfl (q_mn1 0 rfl q_mn0)))))) rfl) (dzt_P82_64_f_14 c n 2147483650 s a1 0 (s.2.1 23 10) 0 0)
set_option maxHeartbeats 4000000 in
theorem dzt_P82_64_t_69 (c n : Nat) (k14 : q_S → Int32 → Int32 → Int32 → Int32 → Int32 → Option (q_S × Int32)) (s : q_S) (hk14 : ∀ (s : q_S) (v1 : Int32) (v2 : Int32) (v3 : Int32) (v4 : Int32) (v5 : Int32), q_RP q_TB0 5 81 (14, [(0, .ref 64), (1, .int v1), (2, .int v2), (3, .int v3), (4, .int v4), (5, .int v5)], [], (q_kP s c n)) (q_oIP c n) (k14 s v1 v2 v3 v4 v5)) (v1 : Int32) (v2 : Int32) (v3 : Int32) (v4 : Int32) (v5 : Int32) : q_RP q_TB0 5 81 (69, [(0, .ref 64), (1, .int v1), (2, .int v2), (3, .int v3), (4, .int v4), (5, .int v5)], [], (q_kP s c n)) (q_oIP c n) (dz_N82_64_t_69 k14 s v1 v2 v3 v4 v5) := by
  unfold dz_N82_64_t_69
  refine q_RP_seg (g2 := (73, [(0, .ref 64), (1, .int v1), (2, .int v2), (3, .int v3), (4, .int v4), (5, .int v5)], [.ref 87], (q_kP s c n))) 2 (fun _ _ => rfl) ?_
  refine q_RP_call (v := (some (.int (q_b (dz_N141_87 s).2)))) (h2 := (q_kP (dz_N141_87 s).1 c n)) rfl rfl ((dzt_P141_87 s c n).le (Nat.le_of_ble_eq_true rfl)) ?_
  generalize dz_N141_87 s = r4
  refine q_RP_let ?_
  show q_RP _ _ _ (76, [(0, .ref 64), (1, .int v1), (2, .int v2), (3, .int v3), (4, .int v4), (5, .int v5)], [.int (q_b r4.2)], (q_kP r4.1 c n)) _ _
  cases h5 : r4.2 with
  | true =>
    refine q_RP_cT ?_
    show q_RP _ _ _ (76, [(0, .ref 64), (1, .int v1), (2, .int v2), (3, .int v3), (4, .int v4), (5, .int v5)], [.int 1], (q_kP r4.1 c n)) _ _
    refine q_RP_seg (g2 := (87, [(0, .ref 64), (1, .int v1), (2, .int v2), (3, .int v3), (4, .int v4), (5, .int v5)], [.ref 65, .ref 87], (q_kP r4.1 c n))) 5 (fun _ _ => rfl) ?_
    refine q_RP_bd fun r5 er5 => ?_
    refine q_RP_call (v := none) (h2 := (q_kP r5 c n)) rfl rfl ((dzt_P142_87_65 r4.1 c n r5 er5).le (Nat.le_of_ble_eq_true rfl)) ?_
    show q_RP _ _ _ (90, [(0, .ref 64), (1, .int v1), (2, .int v2), (3, .int v3), (4, .int v4), (5, .int v5)], [], (q_kP r5 c n)) _ _
    refine q_RP_seg (g2 := (94, [(0, .ref 64), (1, .int v1), (2, .int v2), (3, .int v3), (4, .int v4), (5, .int v5)], [.ref 65], (q_kP r5 c n))) 2 (fun _ _ => rfl) ?_
    refine q_RP_call (v := none) (h2 := (q_kP (dz_N107_65 r5) c n)) rfl rfl ((dzt_P107_65 r5 c n).le (Nat.le_of_ble_eq_true rfl)) ?_
    generalize dz_N107_65 r5 = r6
    refine q_RP_let ?_
    show q_RP _ _ _ (97, [(0, .ref 64), (1, .int v1), (2, .int v2), (3, .int v3), (4, .int v4), (5, .int v5)], [], (q_kP r6 c n)) _ _
    refine q_RP_seg (g2 := (14, [(4, .int (v4 + 1)), (0, .ref 64), (1, .int v1), (2, .int v2), (3, .int v3), (5, .int v5)], [], (q_kP r6 c n))) 2 (fun _ _ => rfl) ?_
    exact q_RP_xt (q_xt_mk (q_mn1 1 rfl (q_mn1 2 rfl (q_mn1 3 rfl (q_mn1 4 rfl (q_mn1 0 rfl (q_mn1 5 rfl q_mn0)))))) rfl) (hk14 r6 v1 v2 v3 (v4 + 1) v5)
  | false =>
    refine q_RP_cF ?_
    show q_RP _ _ _ (76, [(0, .ref 64), (1, .int v1), (2, .int v2), (3, .int v3), (4, .int v4), (5, .int v5)], [.int 0], (q_kP r4.1 c n)) _ _
    refine q_RP_seg (g2 := (94, [(0, .ref 64), (1, .int v1), (2, .int v2), (3, .int v3), (4, .int v4), (5, .int v5)], [.ref 65], (q_kP r4.1 c n))) 3 (fun _ _ => rfl) ?_
    refine q_RP_call (v := none) (h2 := (q_kP (dz_N107_65 r4.1) c n)) rfl rfl ((dzt_P107_65 r4.1 c n).le (Nat.le_of_ble_eq_true rfl)) ?_
    generalize dz_N107_65 r4.1 = r7
    refine q_RP_let ?_
    show q_RP _ _ _ (97, [(0, .ref 64), (1, .int v1), (2, .int v2), (3, .int v3), (4, .int v4), (5, .int v5)], [], (q_kP r7 c n)) _ _
    refine q_RP_seg (g2 := (14, [(4, .int (v4 + 1)), (0, .ref 64), (1, .int v1), (2, .int v2), (3, .int v3), (5, .int v5)], [], (q_kP r7 c n))) 2 (fun _ _ => rfl) ?_
    exact q_RP_xt (q_xt_mk (q_mn1 1 rfl (q_mn1 2 rfl (q_mn1 3 rfl (q_mn1 4 rfl (q_mn1 0 rfl (q_mn1 5 rfl q_mn0)))))) rfl) (hk14 r7 v1 v2 v3 (v4 + 1) v5)
set_option maxHeartbeats 4000000 in
theorem dzt_P82_64_t_35 (c n : Nat) (k14 : q_S → Int32 → Int32 → Int32 → Int32 → Int32 → Option (q_S × Int32)) (s : q_S) (hk14 : ∀ (s : q_S) (v1 : Int32) (v2 : Int32) (v3 : Int32) (v4 : Int32) (v5 : Int32), q_RP q_TB0 5 81 (14, [(0, .ref 64), (1, .int v1), (2, .int v2), (3, .int v3), (4, .int v4), (5, .int v5)], [], (q_kP s c n)) (q_oIP c n) (k14 s v1 v2 v3 v4 v5)) (v1 : Int32) (v2 : Int32) (v3 : Int32) (v4 : Int32) (v5 : Int32) : q_RP q_TB0 5 81 (35, [(0, .ref 64), (1, .int v1), (2, .int v2), (3, .int v3), (4, .int v4), (5, .int v5)], [], (q_kP s c n)) (q_oIP c n) (dz_N82_64_t_35 k14 s v1 v2 v3 v4 v5) := by
  unfold dz_N82_64_t_35
  refine q_RP_seg (g2 := (36, [(0, .ref 64), (1, .int v1), (2, .int v2), (3, .int v3), (4, .int v4), (5, .int v5)], [.ref 64], (q_kP s c n))) 1 (fun _ _ => rfl) ?_
  refine q_RP_bd fun r1 er1 => ?_
  refine q_RP_call (v := (some (.int (q_b r1.2)))) (h2 := (q_kP r1.1 c n)) rfl rfl ((dzt_P83_64 s c n r1 er1).le (Nat.le_of_ble_eq_true rfl)) ?_
  show q_RP _ _ _ (39, [(0, .ref 64), (1, .int v1), (2, .int v2), (3, .int v3), (4, .int v4), (5, .int v5)], [.int (q_b r1.2)], (q_kP r1.1 c n)) _ _
  cases h3 : r1.2 with
  | true =>
    refine q_RP_cT ?_
    show q_RP _ _ _ (39, [(0, .ref 64), (1, .int v1), (2, .int v2), (3, .int v3), (4, .int v4), (5, .int v5)], [.int 1], (q_kP r1.1 c n)) _ _
    refine q_RP_seg (g2 := (94, [(5, .int (v5 + 1)), (0, .ref 64), (1, .int v1), (2, .int v2), (3, .int v3), (4, .int v4)], [.ref 65], (q_kP r1.1 c n))) 5 (fun _ _ => rfl) ?_
    refine q_RP_call (v := none) (h2 := (q_kP (dz_N107_65 r1.1) c n)) rfl rfl ((dzt_P107_65 r1.1 c n).le (Nat.le_of_ble_eq_true rfl)) ?_
    generalize dz_N107_65 r1.1 = r2
    refine q_RP_let ?_
    show q_RP _ _ _ (97, [(5, .int (v5 + 1)), (0, .ref 64), (1, .int v1), (2, .int v2), (3, .int v3), (4, .int v4)], [], (q_kP r2 c n)) _ _
    refine q_RP_seg (g2 := (14, [(4, .int (v4 + 1)), (5, .int (v5 + 1)), (0, .ref 64), (1, .int v1), (2, .int v2), (3, .int v3)], [], (q_kP r2 c n))) 2 (fun _ _ => rfl) ?_
    exact q_RP_xt (q_xt_mk (q_mn1 2 rfl (q_mn1 3 rfl (q_mn1 4 rfl (q_mn1 5 rfl (q_mn1 0 rfl (q_mn1 1 rfl q_mn0)))))) rfl) (hk14 r2 v1 v2 v3 (v4 + 1) (v5 + 1))
  | false =>
    refine q_RP_cF ?_
    show q_RP _ _ _ (39, [(0, .ref 64), (1, .int v1), (2, .int v2), (3, .int v3), (4, .int v4), (5, .int v5)], [.int 0], (q_kP r1.1 c n)) _ _
    refine q_RP_seg (g2 := (55, [(0, .ref 64), (1, .int v1), (2, .int v2), (3, .int v3), (4, .int v4), (5, .int v5)], [.int (r1.1.2.1 23 9)], (q_kP r1.1 c n))) 4 (fun _ _ => rfl) ?_
    cases h4 : decide (r1.1.2.1 23 9 = 0) with
    | true =>
      refine q_RP_cT ?_
      refine q_RP_rsF (g2 := (58, [(0, .ref 64), (1, .int v1), (2, .int v2), (3, .int v3), (4, .int v4), (5, .int v5)], [], (q_kP r1.1 c n))) rfl rfl (q_d_neT h4) ?_
      refine q_RP_seg (g2 := (66, [(0, .ref 64), (1, .int v1), (2, .int v2), (3, .int v3), (4, .int v4), (5, .int v5)], [.ref 65, .ref 87], (q_kP r1.1 c n))) 4 (fun _ _ => rfl) ?_
      refine q_RP_bd fun r3 er3 => ?_
      refine q_RP_call (v := none) (h2 := (q_kP r3 c n)) rfl rfl ((dzt_P136_87_65 r1.1 c n r3 er3).le (Nat.le_of_ble_eq_true rfl)) ?_
      show q_RP _ _ _ (69, [(0, .ref 64), (1, .int v1), (2, .int v2), (3, .int v3), (4, .int v4), (5, .int v5)], [], (q_kP r3 c n)) _ _
      exact (dzt_P82_64_t_69 c n k14 r3 hk14 v1 v2 v3 v4 v5)
    | false =>
      refine q_RP_cF ?_
      refine q_RP_rsT (g2 := (69, [(0, .ref 64), (1, .int v1), (2, .int v2), (3, .int v3), (4, .int v4), (5, .int v5)], [], (q_kP r1.1 c n))) rfl rfl (q_d_neF h4) ?_
      exact (dzt_P82_64_t_69 c n k14 r1.1 hk14 v1 v2 v3 v4 v5)
set_option maxHeartbeats 4000000 in
theorem dzt_P82_64_t_103 (c n : Nat) (s : q_S) (v2 : Int32) (v4 : Int32) (v5 : Int32) : q_RP q_TB0 5 81 (103, [(0, .ref 64), (2, .int v2), (4, .int v4), (5, .int v5)], [], (q_kP s c n)) (q_oIP c n) (dz_N82_64_t_103 s v2 v4 v5) := by
  unfold dz_N82_64_t_103
  refine q_RP_seg (g2 := (108, [(0, .ref 64), (2, .int v2), (4, .int v4), (5, .int v5)], [.long (s.2.2 0 4), .ref 64], (q_kP s c n))) 3 (fun _ _ => rfl) ?_
  refine q_RP_seg (g2 := (116, [(0, .ref 64), (2, .int v2), (4, .int v4), (5, .int v5)], [.int v2], (q_kP (q_sJ s 0 4 ((s.2.2 0 4) + v5.toInt64)) c n))) 5 (fun _ _ => rfl) ?_
  cases h7 : decide (v2 = 0) with
  | true =>
    refine q_RP_cT ?_
    refine q_RP_rsT (g2 := (124, [(0, .ref 64), (2, .int v2), (4, .int v4), (5, .int v5)], [], (q_kP (q_sJ s 0 4 ((s.2.2 0 4) + v5.toInt64)) c n))) rfl rfl h7 ?_
    refine q_RP_seg (g2 := (126, [(0, .ref 64), (2, .int v2), (4, .int v4), (5, .int v5)], [.int v5], (q_kP (q_sJ s 0 4 ((s.2.2 0 4) + v5.toInt64)) c n))) 1 (fun _ _ => rfl) ?_
    exact q_RP_ret rfl rfl rfl
  | false =>
    refine q_RP_cF ?_
    refine q_RP_rsF (g2 := (119, [(0, .ref 64), (2, .int v2), (4, .int v4), (5, .int v5)], [], (q_kP (q_sJ s 0 4 ((s.2.2 0 4) + v5.toInt64)) c n))) rfl rfl h7 ?_
    refine q_RP_seg (g2 := (126, [(0, .ref 64), (2, .int v2), (4, .int v4), (5, .int v5)], [.int v4], (q_kP (q_sJ s 0 4 ((s.2.2 0 4) + v5.toInt64)) c n))) 2 (fun _ _ => rfl) ?_
    exact q_RP_ret rfl rfl rfl
set_option maxHeartbeats 4000000 in
theorem dzt_P82_64_t_14 (c n : Nat) : ∀ (m : Nat) (s : q_S) (v1 : Int32) (v2 : Int32) (v3 : Int32) (v4 : Int32) (v5 : Int32), q_RP q_TB0 5 81 (14, [(0, .ref 64), (1, .int v1), (2, .int v2), (3, .int v3), (4, .int v4), (5, .int v5)], [], (q_kP s c n)) (q_oIP c n) (dz_N82_64_t_14 m s v1 v2 v3 v4 v5) := by
  intro m
  induction m with
  | zero => intro s v1 v2 v3 v4 v5; exact q_RP_no
  | succ m ih =>
    intro s v1 v2 v3 v4 v5
    have hk14 := ih
    clear ih
    rw [dzs_N82_64_t_14]
    generalize dz_N82_64_t_14 m = k14 at hk14 ⊢
    dsimp only
    refine q_RP_seg (g2 := (17, [(0, .ref 64), (1, .int v1), (2, .int v2), (3, .int v3), (4, .int v4), (5, .int v5)], [.int v1, .int v4], (q_kP s c n))) 2 (fun _ _ => rfl) ?_
    cases h1 : decide (v4 < v1) with
    | true =>
      refine q_RP_cT ?_
      refine q_RP_rsF (g2 := (20, [(0, .ref 64), (1, .int v1), (2, .int v2), (3, .int v3), (4, .int v4), (5, .int v5)], [], (q_kP s c n))) rfl rfl (q_d_geT h1) ?_
      refine q_RP_seg (g2 := (21, [(0, .ref 64), (1, .int v1), (2, .int v2), (3, .int v3), (4, .int v4), (5, .int v5)], [.int v2], (q_kP s c n))) 1 (fun _ _ => rfl) ?_
      cases h2 : decide (v2 = 0) with
      | true =>
        refine q_RP_cT ?_
        refine q_RP_rsT (g2 := (35, [(0, .ref 64), (1, .int v1), (2, .int v2), (3, .int v3), (4, .int v4), (5, .int v5)], [], (q_kP s c n))) rfl rfl h2 ?_
        exact (dzt_P82_64_t_35 c n k14 s hk14 v1 v2 v3 v4 v5)
      | false =>
        refine q_RP_cF ?_
        refine q_RP_rsF (g2 := (24, [(0, .ref 64), (1, .int v1), (2, .int v2), (3, .int v3), (4, .int v4), (5, .int v5)], [], (q_kP s c n))) rfl rfl h2 ?_
        refine q_RP_seg (g2 := (31, [(0, .ref 64), (1, .int v1), (2, .int v2), (3, .int v3), (4, .int v4), (5, .int v5)], [.int (s.2.1 23 10)], (q_kP s c n))) 3 (fun _ _ => rfl) ?_
        refine q_RP_seg (g2 := (32, [(0, .ref 64), (1, .int v1), (2, .int v2), (3, .int v3), (4, .int v4), (5, .int v5)], [.int v3, .int (s.2.1 23 10)], (q_kP s c n))) 1 (fun _ _ => rfl) ?_
        cases h6 : decide (s.2.1 23 10 = v3) with
        | true =>
          refine q_RP_cT ?_
          refine q_RP_rsF (g2 := (35, [(0, .ref 64), (1, .int v1), (2, .int v2), (3, .int v3), (4, .int v4), (5, .int v5)], [], (q_kP s c n))) rfl rfl (q_d_neT h6) ?_
          exact (dzt_P82_64_t_35 c n k14 s hk14 v1 v2 v3 v4 v5)
        | false =>
          refine q_RP_cF ?_
          refine q_RP_rsT (g2 := (103, [(0, .ref 64), (1, .int v1), (2, .int v2), (3, .int v3), (4, .int v4), (5, .int v5)], [], (q_kP s c n))) rfl rfl (q_d_neF h6) ?_
          exact q_RP_xt (q_xt_mk (q_mn1 0 rfl (q_mn1 2 rfl (q_mn1 4 rfl (q_mn1 5 rfl q_mn0)))) rfl) (dzt_P82_64_t_103 c n s v2 v4 v5)
    | false =>
      refine q_RP_cF ?_
      refine q_RP_rsT (g2 := (103, [(0, .ref 64), (1, .int v1), (2, .int v2), (3, .int v3), (4, .int v4), (5, .int v5)], [], (q_kP s c n))) rfl rfl (q_d_geF h1) ?_
      exact q_RP_xt (q_xt_mk (q_mn1 0 rfl (q_mn1 2 rfl (q_mn1 4 rfl (q_mn1 5 rfl q_mn0)))) rfl) (dzt_P82_64_t_103 c n s v2 v4 v5)
set_option maxHeartbeats 4000000 in
theorem dzt_P82_64_t (s : q_S) (c n : Nat) (a1 : Int32) (x : q_S × Int32) (h : dz_N82_64_t s a1 = some x) : q_Ca q_TB0 6 81 [.ref 64, .int a1, .int 1] (q_kP s c n) ((q_oIP c n) x) := by
  refine q_CaP_of (φ := (q_oIP c n)) (Nat.le_of_ble_eq_true rfl) ?_ h
  clear h
  unfold dz_N82_64_t
  refine q_RP_seg (g2 := (7, [(0, .ref 64), (1, .int a1), (2, .int 1)], [.int (s.2.1 23 10)], (q_kP s c n))) 3 (fun _ _ => rfl) ?_
  refine q_RP_seg (g2 := (14, [(5, .int 0), (4, .int 0), (3, .int (s.2.1 23 10)), (0, .ref 64), (1, .int a1), (2, .int 1)], [], (q_kP s c n))) 5 (fun _ _ => rfl) ?_
  exact q_RP_xt (q_xt_mk (q_mn1 3 rfl (q_mn1 4 rfl (q_mn1 5 rfl (q_mn1 2 rfl (q_mn1 1 rfl (q_mn1 0 rfl q_mn0)))))) rfl) (dzt_P82_64_t_14 c n 2147483650 s a1 1 (s.2.1 23 10) 0 0)
set_option maxHeartbeats 4000000 in
theorem dzt_P182_74_51 (c n : Nat) (k7 : q_S → Int32 → Int32 → Int32 → Option (Int32)) (s : q_S) (hk7 : ∀ (v2 : Int32) (v3 : Int32) (v4 : Int32), q_RP q_TB0 0 181 (7, [(0, .ref 74), (2, .int v2), (3, .int v3), (4, .int v4)], [], (q_kP s c n)) (q_oP (q_kP s c n)) (k7 s v2 v3 v4)) : ∀ (m : Nat) (v2 : Int32) (v3 : Int32) (v4 : Int32) (v5 : Int32), q_RP q_TB0 0 181 (51, [(0, .ref 74), (2, .int v2), (3, .int v3), (4, .int v4), (5, .int v5)], [], (q_kP s c n)) (q_oP (q_kP s c n)) (dz_N182_74_51 k7 m s v2 v3 v4 v5) := by
  intro m
  induction m with
  | zero => intro v2 v3 v4 v5; exact q_RP_no
  | succ m ih =>
    intro v2 v3 v4 v5
    have hk51 := ih
    clear ih
    rw [dzs_N182_74_51]
    generalize dz_N182_74_51 k7 m = k51 at hk51 ⊢
    dsimp only
    refine q_RP_seg (g2 := (54, [(0, .ref 74), (2, .int v2), (3, .int v3), (4, .int v4), (5, .int v5)], [.int 4, .int v5], (q_kP s c n))) 2 (fun _ _ => rfl) ?_
    cases h5 : decide (v5 < 4) with
    | true =>
      refine q_RP_cT ?_
      refine q_RP_rsF (g2 := (57, [(0, .ref 74), (2, .int v2), (3, .int v3), (4, .int v4), (5, .int v5)], [], (q_kP s c n))) rfl rfl (q_d_geT h5) ?_
      refine q_RP_seg (g2 := (63, [(0, .ref 74), (2, .int v2), (3, .int v3), (4, .int v4), (5, .int v5)], [.int v5, .ref 75], (q_kP s c n))) 3 (fun _ _ => rfl) ?_
      refine q_RP_as fun i6 => ?_
      refine q_RP_rsT (g2 := (64, [(0, .ref 74), (2, .int v2), (3, .int v3), (4, .int v4), (5, .int v5)], [.int ((s.1 11) (v5.toNatClampNeg))], (q_kP s c n))) rfl rfl i6 ?_
      refine q_RP_seg (g2 := (66, [(0, .ref 74), (2, .int v2), (3, .int v3), (4, .int v4), (5, .int v5)], [.int (((s.1 11) (v5.toNatClampNeg)) &&& v3)], (q_kP s c n))) 2 (fun _ _ => rfl) ?_
      cases h7 : decide (((s.1 11) (v5.toNatClampNeg)) &&& v3 = 0) with
      | true =>
        refine q_RP_cT ?_
        refine q_RP_rsT (g2 := (76, [(0, .ref 74), (2, .int v2), (3, .int v3), (4, .int v4), (5, .int v5)], [], (q_kP s c n))) rfl rfl h7 ?_
        refine q_RP_seg (g2 := (51, [(5, .int (v5 + 1)), (0, .ref 74), (2, .int v2), (3, .int v3), (4, .int v4)], [], (q_kP s c n))) 2 (fun _ _ => rfl) ?_
        exact q_RP_xt (q_xt_mk (q_mn1 1 rfl (q_mn1 2 rfl (q_mn1 3 rfl (q_mn1 4 rfl (q_mn1 0 rfl q_mn0))))) rfl) (hk51 v2 v3 v4 (v5 + 1))
      | false =>
        refine q_RP_cF ?_
        refine q_RP_rsF (g2 := (69, [(0, .ref 74), (2, .int v2), (3, .int v3), (4, .int v4), (5, .int v5)], [], (q_kP s c n))) rfl rfl h7 ?_
        refine q_RP_seg (g2 := (51, [(5, .int (v5 + 1)), (2, .int (v2 ||| ((1 : Int32) <<< (v5 &&& 31)))), (0, .ref 74), (3, .int v3), (4, .int v4)], [], (q_kP s c n))) 8 (fun _ _ => rfl) ?_
        exact q_RP_xt (q_xt_mk (q_mn1 2 rfl (q_mn1 1 rfl (q_mn1 3 rfl (q_mn1 4 rfl (q_mn1 0 rfl q_mn0))))) rfl) (hk51 (v2 ||| ((1 : Int32) <<< (v5 &&& 31))) v3 v4 (v5 + 1))
    | false =>
      refine q_RP_cF ?_
      refine q_RP_rsT (g2 := (82, [(0, .ref 74), (2, .int v2), (3, .int v3), (4, .int v4), (5, .int v5)], [], (q_kP s c n))) rfl rfl (q_d_geF h5) ?_
      refine q_RP_seg (g2 := (7, [(4, .int (v4 + 1)), (0, .ref 74), (2, .int v2), (3, .int v3), (5, .int v5)], [], (q_kP s c n))) 2 (fun _ _ => rfl) ?_
      exact q_RP_xt (q_xt_mk (q_mn1 1 rfl (q_mn1 2 rfl (q_mn1 3 rfl (q_mn1 0 rfl q_mn0)))) rfl) (hk7 v2 v3 (v4 + 1))
set_option maxHeartbeats 4000000 in
theorem dzt_P182_74_16 (c n : Nat) (k7 : q_S → Int32 → Int32 → Int32 → Option (Int32)) (s : q_S) (hk7 : ∀ (v2 : Int32) (v3 : Int32) (v4 : Int32), q_RP q_TB0 0 181 (7, [(0, .ref 74), (2, .int v2), (3, .int v3), (4, .int v4)], [], (q_kP s c n)) (q_oP (q_kP s c n)) (k7 s v2 v3 v4)) : ∀ (m : Nat) (v2 : Int32) (v3 : Int32) (v4 : Int32) (v5 : Int32), q_RP q_TB0 0 181 (16, [(0, .ref 74), (2, .int v2), (3, .int v3), (4, .int v4), (5, .int v5)], [], (q_kP s c n)) (q_oP (q_kP s c n)) (dz_N182_74_16 k7 m s v2 v3 v4 v5) := by
  intro m
  induction m with
  | zero => intro v2 v3 v4 v5; exact q_RP_no
  | succ m ih =>
    intro v2 v3 v4 v5
    have hk16 := ih
    clear ih
    rw [dzs_N182_74_16]
    generalize dz_N182_74_16 k7 m = k16 at hk16 ⊢
    dsimp only
    refine q_RP_seg (g2 := (19, [(0, .ref 74), (2, .int v2), (3, .int v3), (4, .int v4), (5, .int v5)], [.int 4, .int v5], (q_kP s c n))) 2 (fun _ _ => rfl) ?_
    cases h2 : decide (v5 < 4) with
    | true =>
      refine q_RP_cT ?_
      refine q_RP_rsF (g2 := (22, [(0, .ref 74), (2, .int v2), (3, .int v3), (4, .int v4), (5, .int v5)], [], (q_kP s c n))) rfl rfl (q_d_geT h2) ?_
      refine q_RP_seg (g2 := (29, [(0, .ref 74), (2, .int v2), (3, .int v3), (4, .int v4), (5, .int v5)], [.int 1, .int ((v2 >>> (v5 &&& 31)) &&& 1)], (q_kP s c n))) 6 (fun _ _ => rfl) ?_
      cases h3 : decide ((v2 >>> (v5 &&& 31)) &&& 1 = 1) with
      | true =>
        refine q_RP_cT ?_
        refine q_RP_rsF (g2 := (32, [(0, .ref 74), (2, .int v2), (3, .int v3), (4, .int v4), (5, .int v5)], [], (q_kP s c n))) rfl rfl (q_d_neT h3) ?_
        refine q_RP_seg (g2 := (39, [(0, .ref 74), (2, .int v2), (3, .int v3), (4, .int v4), (5, .int v5)], [.int v5, .ref 75, .int v3], (q_kP s c n))) 4 (fun _ _ => rfl) ?_
        refine q_RP_as fun i4 => ?_
        refine q_RP_rsT (g2 := (40, [(0, .ref 74), (2, .int v2), (3, .int v3), (4, .int v4), (5, .int v5)], [.int ((s.1 11) (v5.toNatClampNeg)), .int v3], (q_kP s c n))) rfl rfl i4 ?_
        refine q_RP_seg (g2 := (16, [(5, .int (v5 + 1)), (3, .int (v3 ||| ((s.1 11) (v5.toNatClampNeg)))), (0, .ref 74), (2, .int v2), (4, .int v4)], [], (q_kP s c n))) 4 (fun _ _ => rfl) ?_
        exact q_RP_xt (q_xt_mk (q_mn1 2 rfl (q_mn1 3 rfl (q_mn1 1 rfl (q_mn1 4 rfl (q_mn1 0 rfl q_mn0))))) rfl) (hk16 v2 (v3 ||| ((s.1 11) (v5.toNatClampNeg))) v4 (v5 + 1))
      | false =>
        refine q_RP_cF ?_
        refine q_RP_rsT (g2 := (42, [(0, .ref 74), (2, .int v2), (3, .int v3), (4, .int v4), (5, .int v5)], [], (q_kP s c n))) rfl rfl (q_d_neF h3) ?_
        refine q_RP_seg (g2 := (16, [(5, .int (v5 + 1)), (0, .ref 74), (2, .int v2), (3, .int v3), (4, .int v4)], [], (q_kP s c n))) 2 (fun _ _ => rfl) ?_
        exact q_RP_xt (q_xt_mk (q_mn1 1 rfl (q_mn1 2 rfl (q_mn1 3 rfl (q_mn1 4 rfl (q_mn1 0 rfl q_mn0))))) rfl) (hk16 v2 v3 v4 (v5 + 1))
    | false =>
      refine q_RP_cF ?_
      refine q_RP_rsT (g2 := (48, [(0, .ref 74), (2, .int v2), (3, .int v3), (4, .int v4), (5, .int v5)], [], (q_kP s c n))) rfl rfl (q_d_geF h2) ?_
      refine q_RP_seg (g2 := (51, [(5, .int 0), (0, .ref 74), (2, .int v2), (3, .int v3), (4, .int v4)], [], (q_kP s c n))) 2 (fun _ _ => rfl) ?_
      exact q_RP_xt (q_xt_mk (q_mn1 1 rfl (q_mn1 2 rfl (q_mn1 3 rfl (q_mn1 4 rfl (q_mn1 0 rfl q_mn0))))) rfl) (dzt_P182_74_51 c n k7 s hk7 5000 v2 v3 v4 0)
set_option maxHeartbeats 4000000 in
theorem dzt_P182_74_7 (c n : Nat) (s : q_S) : ∀ (m : Nat) (v2 : Int32) (v3 : Int32) (v4 : Int32), q_RP q_TB0 0 181 (7, [(0, .ref 74), (2, .int v2), (3, .int v3), (4, .int v4)], [], (q_kP s c n)) (q_oP (q_kP s c n)) (dz_N182_74_7 m s v2 v3 v4) := by
  intro m
  induction m with
  | zero => intro v2 v3 v4; exact q_RP_no
  | succ m ih =>
    intro v2 v3 v4
    have hk7 := ih
    clear ih
    rw [dzs_N182_74_7]
    generalize dz_N182_74_7 m = k7 at hk7 ⊢
    dsimp only
    refine q_RP_seg (g2 := (10, [(0, .ref 74), (2, .int v2), (3, .int v3), (4, .int v4)], [.int 4, .int v4], (q_kP s c n))) 2 (fun _ _ => rfl) ?_
    cases h1 : decide (v4 < 4) with
    | true =>
      refine q_RP_cT ?_
      refine q_RP_rsF (g2 := (13, [(0, .ref 74), (2, .int v2), (3, .int v3), (4, .int v4)], [], (q_kP s c n))) rfl rfl (q_d_geT h1) ?_
      refine q_RP_seg (g2 := (16, [(5, .int 0), (0, .ref 74), (2, .int v2), (3, .int v3), (4, .int v4)], [], (q_kP s c n))) 2 (fun _ _ => rfl) ?_
      exact q_RP_xt (q_xt_mk (q_mn1 1 rfl (q_mn1 2 rfl (q_mn1 3 rfl (q_mn1 4 rfl (q_mn1 0 rfl q_mn0))))) rfl) (dzt_P182_74_16 c n k7 s hk7 5000 v2 v3 v4 0)
    | false =>
      refine q_RP_cF ?_
      refine q_RP_rsT (g2 := (88, [(0, .ref 74), (2, .int v2), (3, .int v3), (4, .int v4)], [], (q_kP s c n))) rfl rfl (q_d_geF h1) ?_
      refine q_RP_seg (g2 := (89, [(0, .ref 74), (2, .int v2), (3, .int v3), (4, .int v4)], [.int v3], (q_kP s c n))) 1 (fun _ _ => rfl) ?_
      exact q_RP_ret rfl rfl rfl
set_option maxHeartbeats 4000000 in
theorem dzt_P182_74 (s : q_S) (c n : Nat) (a1 : Int32) (x : Int32) (h : dz_N182_74 s a1 = some x) : q_Ca q_TB0 1 181 [.ref 74, .int a1] (q_kP s c n) ((q_oP (q_kP s c n)) x) := by
  refine q_CaP_of (φ := (q_oP (q_kP s c n))) (Nat.le_of_ble_eq_true rfl) ?_ h
  clear h
  unfold dz_N182_74
  refine q_RP_seg (g2 := (7, [(4, .int 0), (3, .int 0), (2, .int a1), (0, .ref 74), (1, .int a1)], [], (q_kP s c n))) 6 (fun _ _ => rfl) ?_
  exact q_RP_xt (q_xt_mk (q_mn1 3 rfl (q_mn1 2 rfl (q_mn1 1 rfl (q_mn1 0 rfl q_mn0)))) rfl) (dzt_P182_74_7 c n s 5000 a1 0 0)
set_option maxHeartbeats 4000000 in
theorem dzt_P181_74_45 (c n : Nat) : ∀ (m : Nat) (s : q_S) (v5 : Int32) (v6 : Int32), q_RP q_TB0 1 180 (45, [(0, .ref 74), (5, .int v5), (6, .int v6)], [], (q_kP s c n)) (q_oIP c n) (dz_N181_74_45 m s v5 v6) := by
  intro m
  induction m with
  | zero => intro s v5 v6; exact q_RP_no
  | succ m ih =>
    intro s v5 v6
    have hk45 := ih
    clear ih
    rw [dzs_N181_74_45]
    generalize dz_N181_74_45 m = k45 at hk45 ⊢
    dsimp only
    refine q_RP_seg (g2 := (49, [(0, .ref 74), (5, .int v5), (6, .int v6)], [.int 15, .int v6], (q_kP s c n))) 2 (fun _ _ => rfl) ?_
    cases h1 : decide (15 < v6) with
    | true =>
      refine q_RP_cT ?_
      refine q_RP_rsT (g2 := (71, [(0, .ref 74), (5, .int v5), (6, .int v6)], [], (q_kP s c n))) rfl rfl h1 ?_
      refine q_RP_seg (g2 := (73, [(0, .ref 74), (5, .int v5), (6, .int v6)], [.int v5], (q_kP s c n))) 1 (fun _ _ => rfl) ?_
      exact q_RP_ret rfl rfl rfl
    | false =>
      refine q_RP_cF ?_
      refine q_RP_rsF (g2 := (52, [(0, .ref 74), (5, .int v5), (6, .int v6)], [], (q_kP s c n))) rfl rfl h1 ?_
      refine q_RP_seg (g2 := (61, [(0, .ref 74), (5, .int v5), (6, .int v6)], [.int v6, .ref 74, .int v6, .ref 76], (q_kP s c n))) 5 (fun _ _ => rfl) ?_
      refine q_RP_bd fun r2 er2 => ?_
      refine q_RP_call (v := (some (.int r2))) (h2 := (q_kP s c n)) rfl rfl ((dzt_P182_74 s c n v6 r2 er2).le (Nat.le_of_ble_eq_true rfl)) ?_
      show q_RP _ _ _ (64, [(0, .ref 74), (5, .int v5), (6, .int v6)], [.int r2, .int v6, .ref 76], (q_kP s c n)) _ _
      refine q_RP_as fun i2 => ?_
      refine q_RP_rsT (g2 := (65, [(0, .ref 74), (5, .int v5), (6, .int v6)], [], (q_kP (q_sA s 12 (upd (s.1 12) (v6.toNatClampNeg) r2)) c n))) rfl rfl i2 ?_
      refine q_RP_seg (g2 := (45, [(6, .int (v6 + 1)), (0, .ref 74), (5, .int v5)], [], (q_kP (q_sA s 12 (upd (s.1 12) (v6.toNatClampNeg) r2)) c n))) 2 (fun _ _ => rfl) ?_
      exact q_RP_xt (q_xt_mk (q_mn1 1 rfl (q_mn1 2 rfl (q_mn1 0 rfl q_mn0))) rfl) (hk45 (q_sA s 12 (upd (s.1 12) (v6.toNatClampNeg) r2)) v5 (v6 + 1))
set_option maxHeartbeats 4000000 in
theorem dzt_P181_74 (s : q_S) (c n : Nat) (a1 : Int32) (a2 : Int32) (a3 : Int32) (x : q_S × Int32) (h : dz_N181_74 s a1 a2 a3 = some x) : q_Ca q_TB0 2 180 [.ref 74, .int a1, .int a2, .int a3] (q_kP s c n) ((q_oIP c n) x) := by
  refine q_CaP_of (φ := (q_oIP c n)) (Nat.le_of_ble_eq_true rfl) ?_ h
  clear h
  unfold dz_N181_74
  refine q_RP_seg (g2 := (11, [(4, .int (a1 &&& 3)), (0, .ref 74), (1, .int a1), (2, .int a2), (3, .int a3)], [.int (a1 &&& 3), .ref 75], (q_kP s c n))) 7 (fun _ _ => rfl) ?_
  refine q_RP_rsT (g2 := (12, [(4, .int (a1 &&& 3)), (0, .ref 74), (1, .int a1), (2, .int a2), (3, .int a3)], [.int ((s.1 11) ((a1 &&& 3).toNatClampNeg))], (q_kP s c n))) rfl rfl (q_in_bd (x := a1 &&& 3) (n := 4) (U := 3) (L := 0) (q_and_lo a1 3) (q_and_hi a1 3 3)) ?_
  refine q_RP_seg (g2 := (16, [(4, .int (a1 &&& 3)), (0, .ref 74), (1, .int a1), (2, .int a2), (3, .int a3)], [.int ((((s.1 11) ((a1 &&& 3).toNatClampNeg)) >>> (a2 &&& 31)) &&& 1)], (q_kP s c n))) 4 (fun _ _ => rfl) ?_
  generalize ((((s.1 11) ((a1 &&& 3).toNatClampNeg)) >>> (a2 &&& 31)) &&& 1) = x1
  refine q_RP_let ?_
  show q_RP _ _ _ (16, [(4, .int (a1 &&& 3)), (0, .ref 74), (1, .int a1), (2, .int a2), (3, .int a3)], [.int x1], (q_kP s c n)) _ _
  refine q_RP_seg (g2 := (30, [(5, .int x1), (4, .int (a1 &&& 3)), (0, .ref 74), (1, .int a1), (2, .int a2), (3, .int a3)], [.int (a1 &&& 3), .ref 75, .int (a1 &&& 3), .ref 75], (q_kP s c n))) 7 (fun _ _ => rfl) ?_
  refine q_RP_rsT (g2 := (31, [(5, .int x1), (4, .int (a1 &&& 3)), (0, .ref 74), (1, .int a1), (2, .int a2), (3, .int a3)], [.int ((s.1 11) ((a1 &&& 3).toNatClampNeg)), .int (a1 &&& 3), .ref 75], (q_kP s c n))) rfl rfl (q_in_bd (x := a1 &&& 3) (n := 4) (U := 3) (L := 0) (q_and_lo a1 3) (q_and_hi a1 3 3)) ?_
  refine q_RP_seg (g2 := (41, [(5, .int x1), (4, .int (a1 &&& 3)), (0, .ref 74), (1, .int a1), (2, .int a2), (3, .int a3)], [.int ((((s.1 11) ((a1 &&& 3).toNatClampNeg)) &&& (((1 : Int32) <<< (a2 &&& 31)) ^^^ (-1))) ||| (a3 <<< (a2 &&& 31))), .int (a1 &&& 3), .ref 75], (q_kP s c n))) 10 (fun _ _ => rfl) ?_
  refine q_RP_rsT (g2 := (42, [(5, .int x1), (4, .int (a1 &&& 3)), (0, .ref 74), (1, .int a1), (2, .int a2), (3, .int a3)], [], (q_kP (q_sA s 11 (upd (s.1 11) ((a1 &&& 3).toNatClampNeg) ((((s.1 11) ((a1 &&& 3).toNatClampNeg)) &&& (((1 : Int32) <<< (a2 &&& 31)) ^^^ (-1))) ||| (a3 <<< (a2 &&& 31))))) c n))) rfl rfl (q_in_bd (x := a1 &&& 3) (n := 4) (U := 3) (L := 0) (q_and_lo a1 3) (q_and_hi a1 3 3)) ?_
  refine q_RP_seg (g2 := (45, [(6, .int 0), (5, .int x1), (4, .int (a1 &&& 3)), (0, .ref 74), (1, .int a1), (2, .int a2), (3, .int a3)], [], (q_kP (q_sA s 11 (upd (s.1 11) ((a1 &&& 3).toNatClampNeg) ((((s.1 11) ((a1 &&& 3).toNatClampNeg)) &&& (((1 : Int32) <<< (a2 &&& 31)) ^^^ (-1))) ||| (a3 <<< (a2 &&& 31))))) c n))) 2 (fun _ _ => rfl) ?_
  exact q_RP_xt (q_xt_mk (q_mn1 3 rfl (q_mn1 1 rfl (q_mn1 0 rfl q_mn0))) rfl) (dzt_P181_74_45 c n 5000 (q_sA s 11 (upd (s.1 11) ((a1 &&& 3).toNatClampNeg) ((((s.1 11) ((a1 &&& 3).toNatClampNeg)) &&& (((1 : Int32) <<< (a2 &&& 31)) ^^^ (-1))) ||| (a3 <<< (a2 &&& 31))))) x1 0)
set_option maxHeartbeats 4000000 in
theorem dzt_P180_74 (s : q_S) (c n : Nat) (a1 : Int32) : q_Ca q_TB0 1 179 [.ref 74, .int a1] (q_kP s c n) ((q_oIP c n) (dz_N180_74 s a1)) := by
  refine q_CaT_of (φ := (q_oIP c n)) (Nat.le_of_ble_eq_true rfl) ?_
  unfold dz_N180_74
  refine q_RT_seg (g2 := (4, [(0, .ref 74), (1, .int a1)], [.int (s.2.1 10 2)], (q_kP s c n))) 2 (fun _ _ => rfl) ?_
  refine q_RT_seg (g2 := (11, [(2, .int (s.2.1 10 2)), (0, .ref 74), (1, .int a1)], [.int (s.2.1 10 2)], (q_kP (q_sI s 10 2 a1) c n))) 5 (fun _ _ => rfl) ?_
  exact q_RT_ret rfl rfl rfl
set_option maxHeartbeats 4000000 in
theorem dzt_P175_72 (s : q_S) (c n : Nat) (a1 : Int32) : q_Ca q_TB0 1 174 [.ref 72, .int a1] (q_kP s c n) ((q_oIP c n) (dz_N175_72 s a1)) := by
  refine q_CaT_of (φ := (q_oIP c n)) (Nat.le_of_ble_eq_true rfl) ?_
  unfold dz_N175_72
  refine q_RT_seg (g2 := (4, [(0, .ref 72), (1, .int a1)], [.int (s.2.1 8 1)], (q_kP s c n))) 2 (fun _ _ => rfl) ?_
  cases h1 : decide (s.2.1 8 1 < 0) with
  | true =>
    refine q_RT_cT ?_
    refine q_RT_rsT (g2 := (36, [(0, .ref 72), (1, .int a1)], [], (q_kP s c n))) rfl rfl h1 ?_
    refine q_RT_seg (g2 := (40, [(0, .ref 72), (1, .int a1)], [.int (s.2.1 8 1)], (q_kP s c n))) 2 (fun _ _ => rfl) ?_
    exact q_RT_ret rfl rfl rfl
  | false =>
    refine q_RT_cF ?_
    refine q_RT_rsF (g2 := (7, [(0, .ref 72), (1, .int a1)], [], (q_kP s c n))) rfl rfl h1 ?_
    refine q_RT_seg (g2 := (11, [(0, .ref 72), (1, .int a1)], [.int (s.2.1 8 1)], (q_kP s c n))) 2 (fun _ _ => rfl) ?_
    refine q_RT_seg (g2 := (13, [(0, .ref 72), (1, .int a1)], [.int 40, .int (s.2.1 8 1)], (q_kP s c n))) 1 (fun _ _ => rfl) ?_
    cases h2 : decide (s.2.1 8 1 < 40) with
    | true =>
      refine q_RT_cT ?_
      refine q_RT_rsF (g2 := (16, [(0, .ref 72), (1, .int a1)], [], (q_kP s c n))) rfl rfl (q_d_geT h2) ?_
      refine q_RT_seg (g2 := (24, [(0, .ref 72), (1, .int a1)], [.int (s.2.1 8 1), .ref 73], (q_kP s c n))) 4 (fun _ _ => rfl) ?_
      refine q_RT_seg (g2 := (25, [(0, .ref 72), (1, .int a1)], [.int a1, .int (s.2.1 8 1), .ref 73], (q_kP s c n))) 1 (fun _ _ => rfl) ?_
      refine q_RT_rsT (g2 := (26, [(0, .ref 72), (1, .int a1)], [], (q_kP (q_sA s 9 (upd (s.1 9) ((s.2.1 8 1).toNatClampNeg) a1)) c n))) rfl rfl (q_in_bd (x := s.2.1 8 1) (n := 40) (U := 39) (L := 0) (q_lo1 h1) (q_hi1 h2)) ?_
      refine q_RT_seg (g2 := (31, [(0, .ref 72), (1, .int a1)], [.int (s.2.1 8 1), .ref 72], (q_kP (q_sA s 9 (upd (s.1 9) ((s.2.1 8 1).toNatClampNeg) a1)) c n))) 3 (fun _ _ => rfl) ?_
      refine q_RT_seg (g2 := (40, [(0, .ref 72), (1, .int a1)], [.int ((s.2.1 8 1) + 1)], (q_kP (q_sI (q_sA s 9 (upd (s.1 9) ((s.2.1 8 1).toNatClampNeg) a1)) 8 1 ((s.2.1 8 1) + 1)) c n))) 5 (fun _ _ => rfl) ?_
      exact q_RT_ret rfl rfl rfl
    | false =>
      refine q_RT_cF ?_
      refine q_RT_rsT (g2 := (36, [(0, .ref 72), (1, .int a1)], [], (q_kP s c n))) rfl rfl (q_d_geF h2) ?_
      refine q_RT_seg (g2 := (40, [(0, .ref 72), (1, .int a1)], [.int (s.2.1 8 1)], (q_kP s c n))) 2 (fun _ _ => rfl) ?_
      exact q_RT_ret rfl rfl rfl
set_option maxHeartbeats 4000000 in
theorem dzt_P176_72 (s : q_S) (c n : Nat) : q_Ca q_TB0 1 175 [.ref 72] (q_kP s c n) ((q_oIP c n) (dz_N176_72 s)) := by
  refine q_CaT_of (φ := (q_oIP c n)) (Nat.le_of_ble_eq_true rfl) ?_
  unfold dz_N176_72
  refine q_RT_seg (g2 := (4, [(0, .ref 72)], [.int (s.2.1 8 2)], (q_kP s c n))) 2 (fun _ _ => rfl) ?_
  refine q_RT_seg (g2 := (16, [(1, .int (s.2.1 8 2)), (0, .ref 72)], [.int (s.2.1 8 2)], (q_kP (q_sI (q_sI s 8 2 0) 8 3 0) c n))) 8 (fun _ _ => rfl) ?_
  exact q_RT_ret rfl rfl rfl
set_option maxHeartbeats 4000000 in
theorem dzt_P79_64 (s : q_S) (c n : Nat) (a1 : Int32) (a2 : Int32) (a3 : Int32) (a4 : Int32) (x : q_S × Int32) (h : dz_N79_64 s a1 a2 a3 a4 = some x) : q_Ca q_TB0 7 78 [.ref 64, .int a1, .int a2, .int a3, .int a4] (q_kP s c n) ((q_oIP c n) x) := by
  refine q_CaP_of (φ := (q_oIP c n)) (Nat.le_of_ble_eq_true rfl) ?_ h
  clear h
  unfold dz_N79_64
  refine q_RP_seg (g2 := (1, [(0, .ref 64), (1, .int a1), (2, .int a2), (3, .int a3), (4, .int a4)], [.int a1], (q_kP s c n))) 1 (fun _ _ => rfl) ?_
  cases h4 : decide (a1 < 0) with
  | true =>
    refine q_RP_cT ?_
    refine q_RP_st1 (g2 := (203, [(0, .ref 64), (1, .int a1), (2, .int a2), (3, .int a3), (4, .int a4)], [], (q_kP s c n))) rfl (if_pos (Or.inl (Int32.lt_iff_toInt_lt.mp (of_decide_eq_true h4)))) ?_
    refine q_RP_seg (g2 := (204, [(0, .ref 64), (1, .int a1), (2, .int a2), (3, .int a3), (4, .int a4)], [.int 0], (q_kP s c n))) 1 (fun _ _ => rfl) ?_
    exact q_RP_ret rfl rfl rfl
  | false =>
    refine q_RP_cF ?_
    cases h5 : decide (12 < a1) with
    | true =>
      refine q_RP_cT ?_
      refine q_RP_st1 (g2 := (203, [(0, .ref 64), (1, .int a1), (2, .int a2), (3, .int a3), (4, .int a4)], [], (q_kP s c n))) rfl (if_pos (Or.inr (Int32.lt_iff_toInt_lt.mp (of_decide_eq_true h5)))) ?_
      refine q_RP_seg (g2 := (204, [(0, .ref 64), (1, .int a1), (2, .int a2), (3, .int a3), (4, .int a4)], [.int 0], (q_kP s c n))) 1 (fun _ _ => rfl) ?_
      exact q_RP_ret rfl rfl rfl
    | false =>
      refine q_RP_cF ?_
      cases h6 : decide (a1 = 0) with
      | true =>
        refine q_RP_cT ?_
        refine q_RP_st1 (g2 := (68, [(0, .ref 64), (1, .int a1), (2, .int a2), (3, .int a3), (4, .int a4)], [], (q_kP s c n))) rfl (by rw [of_decide_eq_true h6]; rfl) ?_
        refine q_RP_seg (g2 := (74, [(0, .ref 64), (1, .int a1), (2, .int a2), (3, .int a3), (4, .int a4)], [.int a3, .int a2, .ref 65], (q_kP s c n))) 4 (fun _ _ => rfl) ?_
        refine q_RP_bd fun r2 er2 => ?_
        refine q_RP_call (v := (some (.int r2.2))) (h2 := (q_kP r2.1 c n)) rfl rfl ((dzt_P97_65 s c n a2 a3 r2 er2).le (Nat.le_of_ble_eq_true rfl)) ?_
        show q_RP _ _ _ (77, [(0, .ref 64), (1, .int a1), (2, .int a2), (3, .int a3), (4, .int a4)], [.int r2.2], (q_kP r2.1 c n)) _ _
        exact q_RP_ret rfl rfl rfl
      | false =>
        refine q_RP_cF ?_
        cases h7 : decide (a1 = 1) with
        | true =>
          refine q_RP_cT ?_
          refine q_RP_st1 (g2 := (78, [(0, .ref 64), (1, .int a1), (2, .int a2), (3, .int a3), (4, .int a4)], [], (q_kP s c n))) rfl (by rw [of_decide_eq_true h7]; rfl) ?_
          refine q_RP_seg (g2 := (84, [(0, .ref 64), (1, .int a1), (2, .int a2), (3, .int a3), (4, .int a4)], [.int a3, .int a2, .ref 65], (q_kP s c n))) 4 (fun _ _ => rfl) ?_
          refine q_RP_call (v := (some (.int (dz_N98_65 s a2 a3).2))) (h2 := (q_kP (dz_N98_65 s a2 a3).1 c n)) rfl rfl ((dzt_P98_65 s c n a2 a3).le (Nat.le_of_ble_eq_true rfl)) ?_
          generalize dz_N98_65 s a2 a3 = r3
          refine q_RP_let ?_
          show q_RP _ _ _ (87, [(0, .ref 64), (1, .int a1), (2, .int a2), (3, .int a3), (4, .int a4)], [.int r3.2], (q_kP r3.1 c n)) _ _
          exact q_RP_ret rfl rfl rfl
        | false =>
          refine q_RP_cF ?_
          cases h8 : decide (a1 = 2) with
          | true =>
            refine q_RP_cT ?_
            refine q_RP_st1 (g2 := (88, [(0, .ref 64), (1, .int a1), (2, .int a2), (3, .int a3), (4, .int a4)], [], (q_kP s c n))) rfl (by rw [of_decide_eq_true h8]; rfl) ?_
            refine q_RP_seg (g2 := (101, [(0, .ref 64), (1, .int a1), (2, .int a2), (3, .int a3), (4, .int a4)], [.int a4, .int ((512 * a2) + a3), .ref 65], (q_kP s c n))) 8 (fun _ _ => rfl) ?_
            refine q_RP_call (v := (some (.int (dz_N99_65 s ((512 * a2) + a3) a4).2))) (h2 := (q_kP (dz_N99_65 s ((512 * a2) + a3) a4).1 c n)) rfl rfl ((dzt_P99_65 s c n ((512 * a2) + a3) a4).le (Nat.le_of_ble_eq_true rfl)) ?_
            generalize dz_N99_65 s ((512 * a2) + a3) a4 = r4
            refine q_RP_let ?_
            show q_RP _ _ _ (104, [(0, .ref 64), (1, .int a1), (2, .int a2), (3, .int a3), (4, .int a4)], [.int r4.2], (q_kP r4.1 c n)) _ _
            exact q_RP_ret rfl rfl rfl
          | false =>
            refine q_RP_cF ?_
            cases h9 : decide (a1 = 3) with
            | true =>
              refine q_RP_cT ?_
              refine q_RP_st1 (g2 := (105, [(0, .ref 64), (1, .int a1), (2, .int a2), (3, .int a3), (4, .int a4)], [], (q_kP s c n))) rfl (by rw [of_decide_eq_true h9]; rfl) ?_
              refine q_RP_seg (g2 := (113, [(0, .ref 64), (1, .int a1), (2, .int a2), (3, .int a3), (4, .int a4)], [.int a4, .int a3, .int a2, .ref 65], (q_kP s c n))) 5 (fun _ _ => rfl) ?_
              refine q_RP_bd fun r5 er5 => ?_
              refine q_RP_call (v := (some (.int r5.2))) (h2 := (q_kP r5.1 c n)) rfl rfl ((dzt_P100_65 s c n a2 a3 a4 r5 er5).le (Nat.le_of_ble_eq_true rfl)) ?_
              show q_RP _ _ _ (116, [(0, .ref 64), (1, .int a1), (2, .int a2), (3, .int a3), (4, .int a4)], [.int r5.2], (q_kP r5.1 c n)) _ _
              exact q_RP_ret rfl rfl rfl
            | false =>
              refine q_RP_cF ?_
              cases h10 : decide (a1 = 4) with
              | true =>
                refine q_RP_cT ?_
                refine q_RP_st1 (g2 := (117, [(0, .ref 64), (1, .int a1), (2, .int a2), (3, .int a3), (4, .int a4)], [], (q_kP s c n))) rfl (by rw [of_decide_eq_true h10]; rfl) ?_
                refine q_RP_seg (g2 := (123, [(0, .ref 64), (1, .int a1), (2, .int a2), (3, .int a3), (4, .int a4)], [.int a3, .int a2, .ref 87], (q_kP s c n))) 4 (fun _ _ => rfl) ?_
                refine q_RP_call (v := (some (.int (dz_N134_87 s a2 a3).2))) (h2 := (q_kP (dz_N134_87 s a2 a3).1 c n)) rfl rfl ((dzt_P134_87 s c n a2 a3).le (Nat.le_of_ble_eq_true rfl)) ?_
                generalize dz_N134_87 s a2 a3 = r6
                refine q_RP_let ?_
                show q_RP _ _ _ (126, [(0, .ref 64), (1, .int a1), (2, .int a2), (3, .int a3), (4, .int a4)], [.int r6.2], (q_kP r6.1 c n)) _ _
                exact q_RP_ret rfl rfl rfl
              | false =>
                refine q_RP_cF ?_
                cases h11 : decide (a1 = 5) with
                | true =>
                  refine q_RP_cT ?_
                  refine q_RP_st1 (g2 := (127, [(0, .ref 64), (1, .int a1), (2, .int a2), (3, .int a3), (4, .int a4)], [], (q_kP s c n))) rfl (by rw [of_decide_eq_true h11]; rfl) ?_
                  refine q_RP_seg (g2 := (128, [(0, .ref 64), (1, .int a1), (2, .int a2), (3, .int a3), (4, .int a4)], [.ref 64], (q_kP s c n))) 1 (fun _ _ => rfl) ?_
                  refine q_RP_bd fun r7 er7 => ?_
                  refine q_RP_call (v := (some (.int r7.2))) (h2 := (q_kP r7.1 c n)) rfl rfl ((dzt_P80_64 s c n r7 er7).le (Nat.le_of_ble_eq_true rfl)) ?_
                  show q_RP _ _ _ (131, [(0, .ref 64), (1, .int a1), (2, .int a2), (3, .int a3), (4, .int a4)], [.int r7.2], (q_kP r7.1 c n)) _ _
                  exact q_RP_ret rfl rfl rfl
                | false =>
                  refine q_RP_cF ?_
                  cases h12 : decide (a1 = 6) with
                  | true =>
                    refine q_RP_cT ?_
                    refine q_RP_st1 (g2 := (132, [(0, .ref 64), (1, .int a1), (2, .int a2), (3, .int a3), (4, .int a4)], [], (q_kP s c n))) rfl (by rw [of_decide_eq_true h12]; rfl) ?_
                    refine q_RP_seg (g2 := (133, [(0, .ref 64), (1, .int a1), (2, .int a2), (3, .int a3), (4, .int a4)], [.ref 64], (q_kP s c n))) 1 (fun _ _ => rfl) ?_
                    refine q_RP_bd fun r8 er8 => ?_
                    refine q_RP_call (v := (some (.int r8.2))) (h2 := (q_kP r8.1 c n)) rfl rfl ((dzt_P81_64 s c n r8 er8).le (Nat.le_of_ble_eq_true rfl)) ?_
                    show q_RP _ _ _ (136, [(0, .ref 64), (1, .int a1), (2, .int a2), (3, .int a3), (4, .int a4)], [.int r8.2], (q_kP r8.1 c n)) _ _
                    exact q_RP_ret rfl rfl rfl
                  | false =>
                    refine q_RP_cF ?_
                    cases h13 : decide (a1 = 7) with
                    | true =>
                      refine q_RP_cT ?_
                      refine q_RP_st1 (g2 := (137, [(0, .ref 64), (1, .int a1), (2, .int a2), (3, .int a3), (4, .int a4)], [], (q_kP s c n))) rfl (by rw [of_decide_eq_true h13]; rfl) ?_
                      refine q_RP_seg (g2 := (140, [(0, .ref 64), (1, .int a1), (2, .int a2), (3, .int a3), (4, .int a4)], [.int 0, .int a2, .ref 64], (q_kP s c n))) 3 (fun _ _ => rfl) ?_
                      refine q_RP_bd fun r9 er9 => ?_
                      refine q_RP_call (v := (some (.int r9.2))) (h2 := (q_kP r9.1 c n)) rfl rfl ((dzt_P82_64_f s c n a2 r9 er9).le (Nat.le_of_ble_eq_true rfl)) ?_
                      show q_RP _ _ _ (143, [(0, .ref 64), (1, .int a1), (2, .int a2), (3, .int a3), (4, .int a4)], [.int r9.2], (q_kP r9.1 c n)) _ _
                      exact q_RP_ret rfl rfl rfl
                    | false =>
                      refine q_RP_cF ?_
                      cases h14 : decide (a1 = 8) with
                      | true =>
                        refine q_RP_cT ?_
                        refine q_RP_st1 (g2 := (144, [(0, .ref 64), (1, .int a1), (2, .int a2), (3, .int a3), (4, .int a4)], [], (q_kP s c n))) rfl (by rw [of_decide_eq_true h14]; rfl) ?_
                        refine q_RP_seg (g2 := (149, [(0, .ref 64), (1, .int a1), (2, .int a2), (3, .int a3), (4, .int a4)], [.int 1, .int 200, .ref 64], (q_kP s c n))) 3 (fun _ _ => rfl) ?_
                        refine q_RP_bd fun r10 er10 => ?_
                        refine q_RP_call (v := (some (.int r10.2))) (h2 := (q_kP r10.1 c n)) rfl rfl ((dzt_P82_64_t s c n 200 r10 er10).le (Nat.le_of_ble_eq_true rfl)) ?_
                        show q_RP _ _ _ (152, [(0, .ref 64), (1, .int a1), (2, .int a2), (3, .int a3), (4, .int a4)], [.int r10.2], (q_kP r10.1 c n)) _ _
                        exact q_RP_ret rfl rfl rfl
                      | false =>
                        refine q_RP_cF ?_
                        cases h15 : decide (a1 = 9) with
                        | true =>
                          refine q_RP_cT ?_
                          refine q_RP_st1 (g2 := (153, [(0, .ref 64), (1, .int a1), (2, .int a2), (3, .int a3), (4, .int a4)], [], (q_kP s c n))) rfl (by rw [of_decide_eq_true h15]; rfl) ?_
                          refine q_RP_seg (g2 := (164, [(0, .ref 64), (1, .int a1), (2, .int a2), (3, .int a3), (4, .int a4)], [.int a4, .int a3, .int a2, .ref 74], (q_kP s c n))) 6 (fun _ _ => rfl) ?_
                          refine q_RP_bd fun r11 er11 => ?_
                          refine q_RP_call (v := (some (.int r11.2))) (h2 := (q_kP r11.1 c n)) rfl rfl ((dzt_P181_74 s c n a2 a3 a4 r11 er11).le (Nat.le_of_ble_eq_true rfl)) ?_
                          show q_RP _ _ _ (167, [(0, .ref 64), (1, .int a1), (2, .int a2), (3, .int a3), (4, .int a4)], [.int r11.2], (q_kP r11.1 c n)) _ _
                          exact q_RP_ret rfl rfl rfl
                        | false =>
                          refine q_RP_cF ?_
                          cases h16 : decide (a1 = 10) with
                          | true =>
                            refine q_RP_cT ?_
                            refine q_RP_st1 (g2 := (168, [(0, .ref 64), (1, .int a1), (2, .int a2), (3, .int a3), (4, .int a4)], [], (q_kP s c n))) rfl (by rw [of_decide_eq_true h16]; rfl) ?_
                            refine q_RP_seg (g2 := (176, [(0, .ref 64), (1, .int a1), (2, .int a2), (3, .int a3), (4, .int a4)], [.int a2, .ref 74], (q_kP s c n))) 4 (fun _ _ => rfl) ?_
                            refine q_RP_call (v := (some (.int (dz_N180_74 s a2).2))) (h2 := (q_kP (dz_N180_74 s a2).1 c n)) rfl rfl ((dzt_P180_74 s c n a2).le (Nat.le_of_ble_eq_true rfl)) ?_
                            generalize dz_N180_74 s a2 = r12
                            refine q_RP_let ?_
                            show q_RP _ _ _ (179, [(0, .ref 64), (1, .int a1), (2, .int a2), (3, .int a3), (4, .int a4)], [.int r12.2], (q_kP r12.1 c n)) _ _
                            exact q_RP_ret rfl rfl rfl
                          | false =>
                            refine q_RP_cF ?_
                            cases h17 : decide (a1 = 11) with
                            | true =>
                              refine q_RP_cT ?_
                              refine q_RP_st1 (g2 := (180, [(0, .ref 64), (1, .int a1), (2, .int a2), (3, .int a3), (4, .int a4)], [], (q_kP s c n))) rfl (by rw [of_decide_eq_true h17]; rfl) ?_
                              refine q_RP_seg (g2 := (188, [(0, .ref 64), (1, .int a1), (2, .int a2), (3, .int a3), (4, .int a4)], [.int a2, .ref 72], (q_kP s c n))) 4 (fun _ _ => rfl) ?_
                              refine q_RP_call (v := (some (.int (dz_N175_72 s a2).2))) (h2 := (q_kP (dz_N175_72 s a2).1 c n)) rfl rfl ((dzt_P175_72 s c n a2).le (Nat.le_of_ble_eq_true rfl)) ?_
                              generalize dz_N175_72 s a2 = r13
                              refine q_RP_let ?_
                              show q_RP _ _ _ (191, [(0, .ref 64), (1, .int a1), (2, .int a2), (3, .int a3), (4, .int a4)], [.int r13.2], (q_kP r13.1 c n)) _ _
                              exact q_RP_ret rfl rfl rfl
                            | false =>
                              refine q_RP_cF ?_
                              have h18 : a1 = 12 := Int32.toInt_inj.mp (by have e0 := q_neI h6 (n := 0); have e1 := q_neI h7 (n := 1); have e2 := q_neI h8 (n := 2); have e3 := q_neI h9 (n := 3); have e4 := q_neI h10 (n := 4); have e5 := q_neI h11 (n := 5); have e6 := q_neI h12 (n := 6); have e7 := q_neI h13 (n := 7); have e8 := q_neI h14 (n := 8); have e9 := q_neI h15 (n := 9); have e10 := q_neI h16 (n := 10); have e11 := q_neI h17 (n := 11); have l1 : 0 ≤ (a1).toInt := q_lo1 h4; have l2 : (a1).toInt ≤ 12 := q_hi2 h5; show (a1).toInt = 12; omega)
                              refine q_RP_st1 (g2 := (192, [(0, .ref 64), (1, .int a1), (2, .int a2), (3, .int a3), (4, .int a4)], [], (q_kP s c n))) rfl (by rw [h18]; rfl) ?_
                              refine q_RP_seg (g2 := (199, [(0, .ref 64), (1, .int a1), (2, .int a2), (3, .int a3), (4, .int a4)], [.ref 72], (q_kP s c n))) 3 (fun _ _ => rfl) ?_
                              refine q_RP_call (v := (some (.int (dz_N176_72 s).2))) (h2 := (q_kP (dz_N176_72 s).1 c n)) rfl rfl ((dzt_P176_72 s c n).le (Nat.le_of_ble_eq_true rfl)) ?_
                              generalize dz_N176_72 s = r14
                              refine q_RP_let ?_
                              show q_RP _ _ _ (202, [(0, .ref 64), (1, .int a1), (2, .int a2), (3, .int a3), (4, .int a4)], [.int r14.2], (q_kP r14.1 c n)) _ _
                              exact q_RP_ret rfl rfl rfl
end
section
-- 57.wa
section
variable {TB : Nat → Option (Nat × Nat × (Nat → Int32))} {d k : Nat} {as : List Value} {h h2 : q_H} {o o2 : q_Out}
theorem q_Ca_det (e1 : q_Ca TB d k as h o) (e2 : q_Ca TB d k as h o2) : o = o2 := by
  obtain ⟨n1, e1⟩ := e1
  obtain ⟨n2, e2⟩ := e2
  have f1 := q_up_x (Nat.le_max_left n1 n2) (Nat.le_refl d) k as h o e1
  have f2 := q_up_x (Nat.le_max_right n1 n2) (Nat.le_refl d) k as h o2 e2
  rw [f1] at f2
  exact Option.some.inj f2
theorem q_Ca_tm (e : q_Ca TB d k as h o) : q_Ca TB d k as (q_th h) (o.1, q_th o.2) := by
  obtain ⟨n, e⟩ := e
  exact ⟨n, q_tm_exec (fun k => q_mtab_tm k) n d k as h o e⟩
theorem q_cong (hh : q_th h = q_th h2) (e1 : q_Ca TB d k as h o) (e2 : q_Ca TB d k as h2 o2) : o.1 = o2.1 ∧ q_th o.2 = q_th o2.2 := by
  have f1 := q_Ca_tm e1
  have f2 := q_Ca_tm e2
  rw [hh] at f1
  have t := q_Ca_det f1 f2
  exact Prod.mk.inj t
end
section
variable {x y z m s t s2 y2 e e2 : q_S} {c d w k : Int} {n j : Nat}
/-- two machines are alike in every cell -/
def q_ML (s : q_S) : List q_C := (q_cP s.1 s.2.1 s.2.2).map q_tc
def q_ME (s t : q_S) : Prop := q_ML s = q_ML t
theorem q_79c (h : q_ME s t) {a1 a2 a3 a4 r r2 : Int32} (f1 : dz_N79_64 s a1 a2 a3 a4 = some (y, r)) (f2 : dz_N79_64 t a1 a2 a3 a4 = some (y2, r2)) : r = r2 ∧ q_ME y y2 := by
  have hh : q_th (q_kP s 0 0) = q_th (q_kP t 0 0) := congrArg (fun l => ((l, 0, 0) : q_H)) h
  obtain ⟨c1, c2⟩ := q_cong hh (dzt_P79_64 s 0 0 a1 a2 a3 a4 (y, r) f1) (dzt_P79_64 t 0 0 a1 a2 a3 a4 (y2, r2) f2)
  exact ⟨Value.int.inj (Option.some.inj (Sum.inl.inj c1)), congrArg Prod.fst c2⟩
theorem q_90c (h : q_ME s t) {a r r2 : Int32} (f1 : dz_N90_65 s a = some r) (f2 : dz_N90_65 t a = some r2) : r = r2 := by
  have hh : q_th (q_kP s 0 0) = q_th (q_kP t 0 0) := congrArg (fun l => ((l, 0, 0) : q_H)) h
  obtain ⟨c1, -⟩ := q_cong hh (dzt_P90_65 s 0 0 a r f1) (dzt_P90_65 t 0 0 a r2 f2)
  exact Value.int.inj (Option.some.inj (Sum.inl.inj c1))
theorem q_MEr {u n : Nat} {f g : Nat → Int32} (h : (some (q_tc (.inl (u, n, .inl f))) : Option q_C) = some (q_tc (.inl (u, n, .inl g)))) {k : Nat} (hk : k < n) : f k = g k := by
  have h1 : (fun k => cond (Nat.blt k n) (f k) 0) = (fun k => cond (Nat.blt k n) (g k) 0) := Sum.inl.inj (Prod.mk.inj (Prod.mk.inj (Sum.inl.inj (Option.some.inj h))).2).2
  have h2 : cond (Nat.blt k n) (f k) 0 = cond (Nat.blt k n) (g k) 0 := congrFun h1 k
  rw [q_tmT hk] at h2
  exact h2
theorem q_ME3 (h : q_ME s t) {k : Nat} (hk : k < 4096) : s.1 3 k = t.1 3 k := q_MEr (u := 0) (n := 4096) (congrArg (fun l : List q_C => l[3]?) h) hk
theorem q_ME30 (h : q_ME s t) {k : Nat} (hk : k < 40) : s.1 30 k = t.1 30 k := q_MEr (u := 0) (n := 40) (congrArg (fun l : List q_C => l[30]?) h) hk
theorem q_ME31 (h : q_ME s t) {k : Nat} (hk : k < 1024) : s.1 31 k = t.1 31 k := q_MEr (u := 0) (n := 1024) (congrArg (fun l : List q_C => l[31]?) h) hk
def q_fld (c : Option q_C) (j : Nat) : Option Value := match c with
  | some (Sum.inr (_, l)) => l[j]?
  | _ => none
theorem q_MEf (h : q_ME s t) : s.2.1 23 0 = t.2.1 23 0 ∧ s.2.1 23 1 = t.2.1 23 1 ∧ s.2.1 23 2 = t.2.1 23 2 ∧ s.2.1 23 3 = t.2.1 23 3 ∧ s.2.1 23 4 = t.2.1 23 4 ∧ s.2.1 23 5 = t.2.1 23 5 ∧ s.2.1 23 6 = t.2.1 23 6 ∧ s.2.1 23 7 = t.2.1 23 7 := by
  have h1 := congrArg (fun l : List q_C => l[23]?) h
  have f : ∀ j : Nat, q_fld ((q_ML s)[23]?) j = q_fld ((q_ML t)[23]?) j := fun j => congrArg (fun c => q_fld c j) h1
  exact ⟨Value.int.inj (Option.some.inj (show some (Value.int (s.2.1 23 0)) = some (Value.int (t.2.1 23 0)) from f 0)), Value.int.inj (Option.some.inj (show some (Value.int (s.2.1 23 1)) = some (Value.int (t.2.1 23 1)) from f 1)), Value.int.inj (Option.some.inj (show some (Value.int (s.2.1 23 2)) = some (Value.int (t.2.1 23 2)) from f 2)), Value.int.inj (Option.some.inj (show some (Value.int (s.2.1 23 3)) = some (Value.int (t.2.1 23 3)) from f 3)), Value.int.inj (Option.some.inj (show some (Value.int (s.2.1 23 4)) = some (Value.int (t.2.1 23 4)) from f 4)), Value.int.inj (Option.some.inj (show some (Value.int (s.2.1 23 5)) = some (Value.int (t.2.1 23 5)) from f 5)), Value.int.inj (Option.some.inj (show some (Value.int (s.2.1 23 6)) = some (Value.int (t.2.1 23 6)) from f 6)), Value.int.inj (Option.some.inj (show some (Value.int (s.2.1 23 7)) = some (Value.int (t.2.1 23 7)) from f 7))⟩
theorem q_MEi (h : q_ME s t) (i : q_iN t) : q_iN s := by
  obtain ⟨-, -, -, -, -, -, e6, e7⟩ := q_MEf h
  exact ⟨by rw [e6]; exact i.1, by rw [e7]; exact i.2⟩
theorem q_MEs (h : q_ME s t) : q_ME t s := Eq.symm h
/-- the calls j to j + n - 1 that stand in x's rows lead from s to e -/
def q_Pl (x : q_S) (n : Nat) : Nat → q_S → q_S → Prop := Nat.rec (motive := fun _ => Nat → q_S → q_S → Prop) (fun _ s e => q_ME s e) (fun _ r j s e => ∃ y v, dz_N79_64 s (x.1 67 j) (x.1 68 j) (x.1 69 j) (x.1 70 j) = some (y, v) ∧ r (j + 1) y e) n
theorem q_PlS : ∀ (n j : Nat) (s t e : q_S), q_ME s t → q_iN t → q_Pl x n j s e → q_Pl x n j t e := by
  intro n
  induction n with
  | zero => intro j s t e h i p; exact (q_MEs h).trans p
  | succ n ih =>
    intro j s t e h i p
    obtain ⟨y, v, f, p⟩ := p
    obtain ⟨⟨y2, v2⟩, f2, i2⟩ := dzj_N79_64 t i (x.1 67 j) (x.1 68 j) (x.1 69 j) (x.1 70 j)
    exact ⟨y2, v2, f2, ih _ _ _ _ (q_79c h f f2).2 i2 p⟩
theorem q_PlE : ∀ (n j : Nat) (s e e2 : q_S), q_ME e e2 → q_Pl x n j s e → q_Pl x n j s e2 := by
  intro n
  induction n with
  | zero => intro j s e e2 h p; exact Eq.trans p h
  | succ n ih =>
    intro j s e e2 h p
    obtain ⟨y, v, f, p⟩ := p
    exact ⟨y, v, f, ih _ _ _ _ h p⟩
theorem q_PlX (h7 : z.1 67 = x.1 67) (h8 : z.1 68 = x.1 68) (h9 : z.1 69 = x.1 69) (h0 : z.1 70 = x.1 70) : ∀ (n j : Nat) (s e : q_S), q_Pl x n j s e → q_Pl z n j s e := by
  intro n
  induction n with
  | zero => intro j s e p; exact p
  | succ n ih =>
    intro j s e p
    obtain ⟨y, v, f, p⟩ := p
    exact ⟨y, v, by rw [h7, h8, h9, h0]; exact f, ih _ _ _ p⟩
/-- one more call behind them -/
theorem q_PlA {J : Nat} {a1 a2 a3 a4 r : Int32} (hr : ∀ i, i < J → z.1 67 i = x.1 67 i ∧ z.1 68 i = x.1 68 i ∧ z.1 69 i = x.1 69 i ∧ z.1 70 i = x.1 70 i) (hJ : z.1 67 J = a1 ∧ z.1 68 J = a2 ∧ z.1 69 J = a3 ∧ z.1 70 J = a4) (i : q_iN e) (f : dz_N79_64 e a1 a2 a3 a4 = some (y, r)) : ∀ (n j : Nat) (s : q_S), j + n = J → q_Pl x n j s e → q_Pl z (n + 1) j s y := by
  intro n
  induction n with
  | zero =>
    intro j s hj p
    obtain rfl : j = J := hj
    obtain ⟨⟨y2, v2⟩, f2, -⟩ := dzj_N79_64 s (q_MEi p i) a1 a2 a3 a4
    exact ⟨y2, v2, by rw [hJ.1, hJ.2.1, hJ.2.2.1, hJ.2.2.2]; exact f2, (q_79c p f2 f).2⟩
  | succ n ih =>
    intro j s hj p
    obtain ⟨y2, v, g, p⟩ := p
    obtain ⟨b1, b2, b3, b4⟩ := hr j (by omega)
    exact ⟨y2, v, by rw [b1, b2, b3, b4]; exact g, ih (j + 1) y2 (by omega) p⟩
/-- the recording: played from where it stands, it is the machine -/
def q_RZ (x : q_S) : Prop := x.2.1 34 7 = 1 → q_Pl x ((x.2.1 34 5).toInt - (x.2.1 34 6).toInt).toNat (x.2.1 34 6).toNatClampNeg (q_vw 32 35 73 x) (q_vw 32 1 73 x)
theorem q_RZt (h7 : z.1 67 = x.1 67) (h8 : z.1 68 = x.1 68) (h9 : z.1 69 = x.1 69) (h0 : z.1 70 = x.1 70) (i5 : z.2.1 34 5 = x.2.1 34 5) (i6 : z.2.1 34 6 = x.2.1 34 6) (i7 : z.2.1 34 7 = x.2.1 34 7) (mR : q_ME (q_vw 32 35 73 x) (q_vw 32 35 73 z)) (mM : q_ME (q_vw 32 1 73 x) (q_vw 32 1 73 z)) (i : q_iN (q_vw 32 35 73 z)) (h : q_RZ x) : q_RZ z := by
  intro q
  rw [i5, i6]
  exact q_PlX h7 h8 h9 h0 _ _ _ _ (q_PlS _ _ _ _ _ mR i (q_PlE _ _ _ _ _ mM (h (i7.symm.trans q))))
theorem q_RZ0 (h : x.2.1 34 7 = 0) : q_RZ x := fun q => by rw [h] at q; exact absurd q (by decide)
/-- an action -/
theorem q_RZact {a1 a2 a3 a4 r : Int32} (hi : q_iN (q_vw 32 1 73 x)) (hR : q_iN (q_vw 32 35 73 x)) (hk : q_RK k x m) (hk5 : k < 512) (h : q_RZ x) (f : dz_N79_64 (q_vw 32 1 73 (dz_X184_98 x a1 a2 a3 a4)) a1 a2 a3 a4 = some (y, r)) (w7 : z.1 67 = (dz_X184_98 x a1 a2 a3 a4).1 67) (w8 : z.1 68 = (dz_X184_98 x a1 a2 a3 a4).1 68) (w9 : z.1 69 = (dz_X184_98 x a1 a2 a3 a4).1 69) (w0 : z.1 70 = (dz_X184_98 x a1 a2 a3 a4).1 70) (i5 : z.2.1 34 5 = (dz_X184_98 x a1 a2 a3 a4).2.1 34 5) (i6 : z.2.1 34 6 = (dz_X184_98 x a1 a2 a3 a4).2.1 34 6) (i7 : z.2.1 34 7 = (dz_X184_98 x a1 a2 a3 a4).2.1 34 7) (mR : q_ME (q_vw 32 35 73 (dz_X184_98 x a1 a2 a3 a4)) (q_vw 32 35 73 z)) (mM : q_ME y (q_vw 32 1 73 z)) : q_RZ z := by
  rcases q_keep hk hk5 a1 a2 a3 a4 with ⟨e0, e1, -⟩ | ⟨e0, e1, -⟩
  · rw [e0] at i7
    exact q_RZ0 (i7.trans e1)
  · obtain ⟨-, r2, r3, r4, r5⟩ := hk
    rw [e0] at f w7 w8 w9 w0 i5 i6 i7 mR
    have e5 : ((x.2.1 34 5) + 1).toInt = (x.2.1 34 5).toInt + 1 := q_addI ⟨by omega, by omega⟩ ⟨by decide, by decide⟩
    have en : (x.2.1 34 5).toNatClampNeg = (x.2.1 34 6).toNatClampNeg + ((x.2.1 34 5).toInt - (x.2.1 34 6).toInt).toNat := by
      show (x.2.1 34 5).toInt.toNat = (x.2.1 34 6).toInt.toNat + _
      omega
    have j5 : z.2.1 34 5 = (x.2.1 34 5) + 1 := i5
    have j6 : z.2.1 34 6 = x.2.1 34 6 := i6
    have z7 : z.1 67 = upd (x.1 67) ((x.2.1 34 5).toNatClampNeg) a1 := w7
    have z8 : z.1 68 = upd (x.1 68) ((x.2.1 34 5).toNatClampNeg) a2 := w8
    have z9 : z.1 69 = upd (x.1 69) ((x.2.1 34 5).toNatClampNeg) a3 := w9
    have z0 : z.1 70 = upd (x.1 70) ((x.2.1 34 5).toNatClampNeg) a4 := w0
    have mR : q_ME (q_vw 32 35 73 x) (q_vw 32 35 73 z) := mR
    have mX : q_ME (q_vw 32 1 73 x) (q_vw 32 1 73 (q_sI (q_sA (q_sA (q_sA (q_sA x 67 (upd (x.1 67) ((x.2.1 34 5).toNatClampNeg) a1)) 68 (upd (x.1 68) ((x.2.1 34 5).toNatClampNeg) a2)) 69 (upd (x.1 69) ((x.2.1 34 5).toNatClampNeg) a3)) 70 (upd (x.1 70) ((x.2.1 34 5).toNatClampNeg) a4)) 34 5 ((x.2.1 34 5) + 1))) := rfl
    intro _
    rw [j5, j6, show (((x.2.1 34 5) + 1).toInt - (x.2.1 34 6).toInt).toNat = ((x.2.1 34 5).toInt - (x.2.1 34 6).toInt).toNat + 1 by omega]
    have p := h e1
    have p2 := q_PlA (x := x) (z := z) (J := (x.2.1 34 5).toNatClampNeg) (a1 := a1) (a2 := a2) (a3 := a3) (a4 := a4) (fun i hi => by
      rw [z7, z8, z9, z0]
      have ne : ¬ i = (x.2.1 34 5).toNatClampNeg := by omega
      exact ⟨if_neg ne, if_neg ne, if_neg ne, if_neg ne⟩) (by
      rw [z7, z8, z9, z0]
      exact ⟨if_pos rfl, if_pos rfl, if_pos rfl, if_pos rfl⟩) (q_MEi (q_MEs mX) hi) f _ _ _ en.symm (q_PlE _ _ _ _ _ mX p)
    exact q_PlS _ _ _ _ _ mR (q_MEi (q_MEs mR) hR) (q_PlE _ _ _ _ _ mM p2)
theorem q_RZL (g : Nat → Int64) (hR : q_iN (q_vw 32 35 73 x)) (h : q_RZ x) : q_RZ (q_sL x 172 g) := q_RZt (x := x) rfl rfl rfl rfl rfl rfl rfl rfl rfl hR h
end
section
variable {s : q_S}
/-- like is like -/
theorem q_W90a (s : q_S) (a : Int32) : dz_W90_65 s a = dz_N90_65 s a := rfl
theorem q_W90b (s : q_S) (a : Int32) : dz_W90_97 s a = dz_N90_65 (q_vw 32 32 64 s) a := rfl
theorem q_lkR (h : q_ME s (q_vw 32 32 64 s)) (hi : q_iN s) : ∀ (n f : Nat) (v : Int32), v.toInt + n = 48 → 0 ≤ v.toInt → n ≤ f → dz_W78_64_96_2 (f + 1) s v = dz_W78_64_96_45 5000 s 0 := by
  have hi2 : q_iN (q_vw 32 32 64 s) := q_MEi (q_MEs h) hi
  intro n
  induction n with
  | zero =>
    intro f v hn h0 hf
    rw [dzs_W78_64_96_2]
    dsimp only
    rw [q_lt_F (by show (48 : Int) ≤ _; omega)]
    rfl
  | succ n ih =>
    intro f v hn h0 hf
    obtain ⟨f, rfl⟩ : ∃ f', f = f' + 1 := ⟨f - 1, by omega⟩
    have e1 : (v + 1).toInt = v.toInt + 1 := q_addI ⟨by omega, by omega⟩ ⟨by decide, by decide⟩
    obtain ⟨r1, f1, -⟩ := dzj_N90_65 s hi ((3840 : Int32) + v)
    obtain ⟨r2, f2, -⟩ := dzj_N90_65 (q_vw 32 32 64 s) hi2 ((3840 : Int32) + v)
    have er := q_90c h f1 f2
    rw [dzs_W78_64_96_2]
    have ih2 := ih f (v + 1) (by omega) (by omega) (by omega)
    generalize dz_W78_64_96_2 (f + 1) = kk at ih2 ⊢
    dsimp only
    rw [q_lt_T (by show _ < (48 : Int); omega), cond_true, q_W90a, q_W90b, f1, Option.bind_some, f2, Option.bind_some, er, decide_eq_true rfl]
    exact ih2
theorem q_lkD (h : ∀ k, k < 4096 → s.1 3 k = s.1 35 k) : ∀ (n f : Nat) (v2 v3 : Int32), v3.toInt + n = 4096 → 0 ≤ v3.toInt → n ≤ f → dz_W111_66_98_4 (f + 1) s v2 v3 = some v2 := by
  intro n
  induction n with
  | zero =>
    intro f v2 v3 hn h0 hf
    rw [dzs_W111_66_98_4]
    dsimp only
    rw [q_lt_F (by show (4096 : Int) ≤ _; omega)]
    rfl
  | succ n ih =>
    intro f v2 v3 hn h0 hf
    obtain ⟨f, rfl⟩ : ∃ f', f = f' + 1 := ⟨f - 1, by omega⟩
    have e1 : (v3 + 1).toInt = v3.toInt + 1 := q_addI ⟨by omega, by omega⟩ ⟨by decide, by decide⟩
    have hin : q_in v3 4096 = true := q_in_rg (l := 0) (u := 4095) ⟨h0, by omega⟩ (by decide) (by decide)
    have en : v3.toNatClampNeg < 4096 := by show v3.toInt.toNat < 4096; omega
    rw [dzs_W111_66_98_4]
    have ih2 := ih f v2 (v3 + 1) (by omega) (by omega) (by omega)
    generalize dz_W111_66_98_4 (f + 1) = kk at ih2 ⊢
    dsimp only
    rw [q_lt_T (by show _ < (4096 : Int); omega), cond_true, hin, cond_true, h _ en, decide_eq_true rfl]
    exact ih2
theorem q_lkS (h : ∀ k, k < 40 → s.1 30 k = s.1 62 k) : ∀ (n f : Nat) (v : Int32), v.toInt + n = 40 → 0 ≤ v.toInt → n ≤ f → dz_W167_89_121_2 (f + 1) s v = some true := by
  intro n
  induction n with
  | zero =>
    intro f v hn h0 hf
    rw [dzs_W167_89_121_2]
    dsimp only
    rw [q_lt_F (by show (40 : Int) ≤ _; omega)]
    rfl
  | succ n ih =>
    intro f v hn h0 hf
    obtain ⟨f, rfl⟩ : ∃ f', f = f' + 1 := ⟨f - 1, by omega⟩
    have e1 : (v + 1).toInt = v.toInt + 1 := q_addI ⟨by omega, by omega⟩ ⟨by decide, by decide⟩
    have hin : q_in v 40 = true := q_in_rg (l := 0) (u := 39) ⟨h0, by omega⟩ (by decide) (by decide)
    have en : v.toNatClampNeg < 40 := by show v.toInt.toNat < 40; omega
    rw [dzs_W167_89_121_2]
    have ih2 := ih f (v + 1) (by omega) (by omega) (by omega)
    generalize dz_W167_89_121_2 (f + 1) = kk at ih2 ⊢
    dsimp only
    rw [q_lt_T (by show _ < (40 : Int); omega), cond_true, hin, cond_true, h _ en, decide_eq_true rfl]
    exact ih2
theorem q_lkP (h : q_ME s (q_vw 32 32 64 s)) : ∀ (n f : Nat) (v : Int32), v.toInt + n = 1024 → 0 ≤ v.toInt → n ≤ f → dz_W78_64_96_45 (f + 1) s v = some true := by
  intro n
  induction n with
  | zero =>
    intro f v hn h0 hf
    have e1 : dz_W111_66_98 s = some 0 := q_lkD (fun k hk => q_ME3 h hk) 4096 4999 0 0 (by decide) (by decide) (by decide)
    have e2 : dz_W167_89_121 s = some true := q_lkS (fun k hk => q_ME30 h hk) 40 4999 0 (by decide) (by decide) (by decide)
    have e3 : dz_W132_87_119 s = true := by
      obtain ⟨g0, g1, g2, g3, g4, g5, -⟩ := q_MEf h
      have g0 : s.2.1 23 0 = s.2.1 55 0 := g0
      have g1 : s.2.1 23 1 = s.2.1 55 1 := g1
      have g2 : s.2.1 23 2 = s.2.1 55 2 := g2
      have g3 : s.2.1 23 3 = s.2.1 55 3 := g3
      have g4 : s.2.1 23 4 = s.2.1 55 4 := g4
      have g5 : s.2.1 23 5 = s.2.1 55 5 := g5
      unfold dz_W132_87_119
      rw [decide_eq_true g0, decide_eq_true g1, decide_eq_true g2, decide_eq_true g3, decide_eq_true g4, decide_eq_true g5]
      rfl
    rw [dzs_W78_64_96_45]
    unfold q_let
    dsimp only
    rw [q_lt_F (by show (1024 : Int) ≤ _; omega), cond_false, e1, Option.bind_some, e3, e2]
    rfl
  | succ n ih =>
    intro f v hn h0 hf
    obtain ⟨f, rfl⟩ : ∃ f', f = f' + 1 := ⟨f - 1, by omega⟩
    have e1 : (v + 1).toInt = v.toInt + 1 := q_addI ⟨by omega, by omega⟩ ⟨by decide, by decide⟩
    have hin : q_in v 1024 = true := q_in_rg (l := 0) (u := 1023) ⟨h0, by omega⟩ (by decide) (by decide)
    have en : v.toNatClampNeg < 1024 := by show v.toInt.toNat < 1024; omega
    have eP : s.1 31 v.toNatClampNeg = s.1 63 v.toNatClampNeg := q_ME31 h en
    rw [dzs_W78_64_96_45]
    have ih2 := ih f (v + 1) (by omega) (by omega) (by omega)
    generalize dz_W78_64_96_45 (f + 1) = kk at ih2 ⊢
    unfold q_let
    dsimp only
    rw [q_lt_T (by show _ < (1024 : Int); omega), cond_true, hin, cond_true, eP, decide_eq_true rfl]
    exact ih2
theorem q_78T (h : q_ME s (q_vw 32 32 64 s)) (hi : q_iN s) : dz_W78_64_96 s = some true :=
  (q_lkR h hi 48 4999 0 (by decide) (by decide) (by decide)).trans (q_lkP h 1024 4999 0 (by decide) (by decide) (by decide))
end
section
variable {x y z m s : q_S} {c d w k : Int}
/-- the class' machine and the recording's are all that isSame's loop touches -/
theorem q_lpPl (m : q_S) : ∀ (n f : Nat) (s : q_S) (v : Int32), q_LX k m s → q_iN (q_vw 32 1 73 s) → 0 ≤ v.toInt → v.toInt + n = (s.2.1 34 5).toInt → (s.2.1 34 5).toInt ≤ 512 → n ≤ f → q_Pl s n v.toNatClampNeg (q_vw 32 35 73 s) (q_vw 32 1 73 s) → ∃ s2, dz_X65_27 (f + 1) s v = some (s2, true) ∧ q_LX k m s2 ∧ s2.2.1 34 5 = s.2.1 34 5 ∧ s2.2.1 34 6 = s.2.1 34 5 ∧ q_ME (q_vw 32 35 73 s2) (q_vw 32 1 73 s2) := by
  intro n
  induction n with
  | zero =>
    intro f s v h hM h0 hn h5 hf p
    have p : q_ME (q_vw 32 35 73 s) (q_vw 32 1 73 s) := p
    have hh := h
    obtain ⟨h1, h2, h3, h4, h5', h6, ⟨r1, r2, r3, r4, r5⟩, h8⟩ := hh
    have e := q_78T (s := q_vw 32 35 1 (q_sI s 34 6 (s.2.1 34 5))) p h6
    refine ⟨q_sI s 34 6 (s.2.1 34 5), ?_, ⟨h1, h2, h3, h4, h5', h6, ⟨r1, r2, r3, r2, Int.le_refl _⟩, h8⟩, rfl, rfl, p⟩
    rw [dzs_X65_27]
    dsimp only
    rw [q_lt_F (by omega), cond_false, e]
    rfl
  | succ n ih =>
    intro f s v h hM h0 hn h5 hf p
    obtain ⟨f, rfl⟩ : ∃ f', f = f' + 1 := ⟨f - 1, by omega⟩
    obtain ⟨y, r, er, p⟩ := p
    have hh := h
    obtain ⟨h1, h2, h3, h4, h5', h6, ⟨r1, r2, r3, r4, r5⟩, h8⟩ := hh
    have e2 : (v + 1).toInt = v.toInt + 1 := q_addI ⟨by omega, by omega⟩ ⟨by decide, by decide⟩
    obtain ⟨r9, er9, hr⟩ := dzj_N79_64 (q_vw 32 35 73 s) h6 (s.1 67 v.toNatClampNeg) (s.1 68 v.toNatClampNeg) (s.1 69 v.toNatClampNeg) (s.1 70 v.toNatClampNeg)
    rw [er] at er9
    cases er9
    have ea : v &&& 511 = v := by
      apply Int32.toInt_inj.mp
      rw [q_andI 9 (by decide) (l := 0) (u := 511) ⟨by omega, by omega⟩ (by decide) (show (511 : Int32).toInt = 2 ^ 9 - 1 from rfl)]
      show v.toInt % 512 = _
      omega
    have h' : q_LX k m (q_pt 32 3 35 73 s y) := ⟨h1, h2, h3, h4, h5', hr, ⟨r1, r2, r3, r4, r5⟩, h8⟩
    have en : (v + 1).toNatClampNeg = v.toNatClampNeg + 1 := by show (v + 1).toInt.toNat = v.toInt.toNat + 1; omega
    have p2 : q_Pl (q_pt 32 3 35 73 s y) n (v + 1).toNatClampNeg (q_vw 32 35 73 (q_pt 32 3 35 73 s y)) (q_vw 32 1 73 (q_pt 32 3 35 73 s y)) := by
      rw [en]
      exact q_PlX (x := s) rfl rfl rfl rfl _ _ _ _ (q_PlS _ _ _ _ _ (show q_ME y (q_vw 32 35 73 (q_pt 32 3 35 73 s y)) from rfl) hr (q_PlE _ _ _ _ _ (show q_ME (q_vw 32 1 73 s) (q_vw 32 1 73 (q_pt 32 3 35 73 s y)) from rfl) p))
    obtain ⟨s2, c1, c2, c3, c4, c5⟩ := ih f (q_pt 32 3 35 73 s y) (v + 1) h' hM (by omega) (by show (v + 1).toInt + n = (s.2.1 34 5).toInt; omega) h5 (by omega) p2
    refine ⟨s2, ?_, c2, c3, c4, c5⟩
    rw [dzs_X65_27]
    generalize dz_X65_27 (f + 1) = kk at c1 ⊢
    unfold q_let
    dsimp only
    rw [q_lt_T (by omega), cond_true, ea, q_in_rg (x := v) (n := 512) (l := 0) (u := 511) ⟨by omega, by omega⟩ (by decide) (by decide), cond_true, er]
    exact c1
/-- isSame, with its answer -/
theorem q_tSamP (h : q_LX k m x) (hI : q_Iv c d w m) (hk : k ≤ 512) (hp : q_RZ x) : ∃ r0 r1, dz_X26_64_236 x = some r0 ∧ some (dz_M312_64 m) = some r1 ∧ q_LX (k + 1) r1.1 r0.1 ∧ r0.2.2 ≤ 1 ∧ r1.1.2.1 0 39 = r0.2.1 ∧ (r0.2.1 = 0 → r0.1.2.2 172 0 = q_kb r1.2) ∧ q_RZ r0.1 := by
  have hr := h.2.2.2.2.2.2.1
  have hR : q_iN (q_vw 32 35 73 x) := h.2.2.2.2.2.1
  have hM : q_iN (q_vw 32 1 73 x) := q_iNof h.1 (hI.1 15 6) (hI.1 15 7)
  obtain ⟨r1, r2, r3, r4, r5⟩ := hr
  rcases r1 with ⟨q1, q2⟩ | ⟨q1, q2⟩
  · refine ⟨(x, 1, 1), (q_sI m 0 39 1, false), ?_, ?_, q_LXbad h 1, Nat.le_refl _, rfl, fun q => absurd (show (1 : Int32) = 0 from q) (by decide), hp⟩
    · unfold dz_X26_64_236
      rw [q1]; rfl
    · unfold dz_M312_64
      rw [q2]; rfl
  · obtain ⟨s2, c1, c2, c3, c4, c5⟩ := q_lpPl m ((x.2.1 34 5).toInt - (x.2.1 34 6).toInt).toNat 4999 x (x.2.1 34 6) h hM r4 (by omega) (by omega) (by omega) (hp q1)
    have c1 : dz_X65_27 5000 x (x.2.1 34 6) = some (s2, true) := c1
    have eM : dz_M312_64 m = (q_mok m, true) := by
      unfold dz_M312_64
      rw [q2, q_lt_F (show (0 : Int32).toInt ≤ (x.2.1 34 5).toInt from r2)]
      rfl
    have hR2 : q_iN (q_vw 32 35 73 s2) := c2.2.2.2.2.2.1
    refine ⟨(q_sL s2 172 (vp_updL (s2.2.2 172) 0 1), 0, 0), (q_mok m, true), ?_, by rw [eM], ⟨(q_LXbad c2 0).1, (q_LXbad c2 0).2⟩, Nat.zero_le _, rfl, fun _ => ?_, q_RZL _ hR2 fun _ => ?_⟩
    · unfold dz_X26_64_236
      rw [q1, c1]
      rfl
    · show vp_updL (s2.2.2 172) 0 1 0 = q_kb true
      rw [q_upL1 _ _ _ _ rfl]
      rfl
    · rw [c3, c4, show ((x.2.1 34 5).toInt - (x.2.1 34 5).toInt).toNat = 0 by omega]
      exact c5
end
end
section
-- 57.wb
section
variable {x y z m s : q_S} {c d w k : Int} {r0 : q_S × Int32 × Nat}
theorem q_rc1 {b : Bool} {c : Int32} {n : Nat} {o : Option (q_S × Int32 × Nat)} (e : cond b (some (x, c, n)) o = some r0) : r0.1 = x ∨ o = some r0 := by
  cases b with
  | true => cases e; exact Or.inl rfl
  | false => exact Or.inr e
theorem q_rc2 {b : Bool} {c : Int32} {n : Nat} {o : Option (q_S × Int32 × Nat)} (e : cond b o (some (x, c, n)) = some r0) : r0.1 = x ∨ o = some r0 := by
  cases b with
  | true => exact Or.inr e
  | false => cases e; exact Or.inl rfl
theorem q_rc3 {b : Bool} {o p : Option (q_S × Int32 × Nat)} (e : cond b o p = some r0) : o = some r0 ∨ p = some r0 := by
  cases b with
  | true => exact Or.inl e
  | false => exact Or.inr e
theorem q_rpE (hp : q_RZ x) (e : r0.1 = x) : q_RZ r0.1 := by rw [e]; exact hp
theorem q_rpR {T : Type} {o : Option T} {f : T → Nat → Int64} {a : Int32} {b : Nat} (hR : q_iN (q_vw 32 35 73 x)) (hp : q_RZ x) (e : (o.bind fun r => some (q_sL x 172 (f r), a, b)) = some r0) : q_RZ r0.1 := by
  cases o with
  | none => cases e
  | some r => cases e; exact q_RZL _ hR hp
/-- an action's end -/
theorem q_rpA {a1 a2 a3 a4 : Int32} {f : q_S × Int32 → Nat → Int64} {p : Int32} {n : Nat} (h : q_LX k m x) (hI : q_Iv c d w m) (hk : k < 512) (hp : q_RZ x) (e : ((dz_N79_64 (q_vw 32 1 73 (dz_X184_98 x a1 a2 a3 a4)) a1 a2 a3 a4).bind fun r3 => some ((q_sL (q_pt 32 3 1 73 (dz_X184_98 x a1 a2 a3 a4) r3.1) 172 (f r3)), p, n)) = some r0) : q_RZ r0.1 := by
  have hM : q_iN (q_vw 32 1 73 x) := q_iNof h.1 (hI.1 15 6) (hI.1 15 7)
  cases e1 : dz_N79_64 (q_vw 32 1 73 (dz_X184_98 x a1 a2 a3 a4)) a1 a2 a3 a4 with
  | none => rw [e1] at e; cases e
  | some w =>
    obtain ⟨y, r⟩ := w
    rw [e1] at e
    cases e
    exact q_RZact hM h.2.2.2.2.2.1 h.2.2.2.2.2.2.1 hk hp e1 rfl rfl rfl rfl rfl rfl rfl rfl rfl
theorem q_rpA2 {a1 a2 a3 a4 : Int32} {g : q_S × Int32} (h : q_LX k m x) (hI : q_Iv c d w m) (hk : k < 512) (hp : q_RZ x) (e : ((dz_N79_64 (q_vw 32 1 73 (dz_X184_98 x a1 a2 a3 a4)) a1 a2 a3 a4).bind fun r4 => some ((q_pt 32 3 1 73 (dz_X184_98 x a1 a2 a3 a4) r4.1), r4.2)) = some g) : q_RZ g.1 := by
  have hM : q_iN (q_vw 32 1 73 x) := q_iNof h.1 (hI.1 15 6) (hI.1 15 7)
  cases e1 : dz_N79_64 (q_vw 32 1 73 (dz_X184_98 x a1 a2 a3 a4)) a1 a2 a3 a4 with
  | none => rw [e1] at e; cases e
  | some w =>
    obtain ⟨y, r⟩ := w
    rw [e1] at e
    cases e
    exact q_RZact hM h.2.2.2.2.2.1 h.2.2.2.2.2.2.1 hk hp e1 rfl rfl rfl rfl rfl rfl rfl rfl rfl
theorem q_rpK {a1 a2 a3 a4 : Int32} {f g : q_S × Int32 → Nat → Int64} (h : q_LX k m x) (hI : q_Iv c d w m) (hk : k < 512) (hp : q_RZ x) (e : ((dz_N79_64 (q_vw 32 1 73 (dz_X184_98 x a1 a2 a3 a4)) a1 a2 a3 a4).bind fun r3 => cond (decide (r3.2 = 1)) (some ((q_sL (q_pt 32 3 1 73 (dz_X184_98 x a1 a2 a3 a4) r3.1) 172 (f r3)), 0, 0)) (some ((q_sL (q_pt 32 3 1 73 (dz_X184_98 x a1 a2 a3 a4) r3.1) 172 (g r3)), 0, 0))) = some r0) : q_RZ r0.1 := by
  have hM : q_iN (q_vw 32 1 73 x) := q_iNof h.1 (hI.1 15 6) (hI.1 15 7)
  cases e1 : dz_N79_64 (q_vw 32 1 73 (dz_X184_98 x a1 a2 a3 a4)) a1 a2 a3 a4 with
  | none => rw [e1] at e; cases e
  | some w =>
    obtain ⟨y, r⟩ := w
    rw [e1, Option.bind_some] at e
    rcases q_rc3 e with e | e
    · cases e
      exact q_RZact hM h.2.2.2.2.2.1 h.2.2.2.2.2.2.1 hk hp e1 rfl rfl rfl rfl rfl rfl rfl rfl rfl
    · cases e
      exact q_RZact hM h.2.2.2.2.2.1 h.2.2.2.2.2.2.1 hk hp e1 rfl rfl rfl rfl rfl rfl rfl rfl rfl
theorem q_rp0 (h : q_LX k m x) (hI : q_Iv c d w m) (hk : k < 512) (hp : q_RZ x) (a b : Int32) (e : dz_X0_64_236 x a b = some r0) : q_RZ r0.1 := by
  unfold dz_X0_64_236 at e
  unfold q_let at e
  dsimp only at e
  rcases q_rc1 e with e | e
  · exact q_rpE hp e
  rcases q_rc2 e with e | e
  · exact q_rpE hp e
  rcases q_rc1 e with e | e
  · exact q_rpE hp e
  rcases q_rc1 e with e | e
  · exact q_rpE hp e
  exact q_rpA h hI hk hp e
theorem q_rp1 (h : q_LX k m x) (hI : q_Iv c d w m) (hk : k < 512) (hp : q_RZ x) (a b : Int32) (e : dz_X1_64_236 x a b = some r0) : q_RZ r0.1 := by
  unfold dz_X1_64_236 at e
  unfold q_let at e
  dsimp only at e
  rcases q_rc1 e with e | e
  · exact q_rpE hp e
  rcases q_rc2 e with e | e
  · exact q_rpE hp e
  rcases q_rc1 e with e | e
  · exact q_rpE hp e
  rcases q_rc1 e with e | e
  · exact q_rpE hp e
  exact q_rpA h hI hk hp e
theorem q_rp2 (h : q_LX k m x) (hI : q_Iv c d w m) (hk : k < 512) (hp : q_RZ x) (a b e0 : Int32) (e : dz_X2_64_236 x a b e0 = some r0) : q_RZ r0.1 := by
  unfold dz_X2_64_236 at e
  unfold q_let at e
  dsimp only at e
  rcases q_rc1 e with e | e
  · exact q_rpE hp e
  rcases q_rc2 e with e | e
  · exact q_rpE hp e
  rcases q_rc1 e with e | e
  · exact q_rpE hp e
  rcases q_rc2 e with e | e
  · exact q_rpE hp e
  rcases q_rc1 e with e | e
  · exact q_rpE hp e
  rcases q_rc1 e with e | e
  · exact q_rpE hp e
  exact q_rpA h hI hk hp e
theorem q_rp3 (h : q_LX k m x) (hI : q_Iv c d w m) (hk : k < 512) (hp : q_RZ x) (a : Int32) (e : dz_X3_64_236 x a = some r0) : q_RZ r0.1 := by
  unfold dz_X3_64_236 at e
  rcases q_rc1 e with e | e
  · exact q_rpE hp e
  rcases q_rc2 e with e | e
  · exact q_rpE hp e
  exact q_rpR h.2.2.2.2.2.1 hp e
theorem q_rp4 (h : q_LX k m x) (hI : q_Iv c d w m) (hk : k < 512) (hp : q_RZ x) (a : Int32) (e : some (dz_X4_64_236 x a) = some r0) : q_RZ r0.1 := by
  have e := Option.some.inj e
  rw [← e]
  unfold dz_X4_64_236
  cases decide (a < 0) <;> cases decide (a < 4096) <;> first | exact hp | exact q_RZL _ h.2.2.2.2.2.1 hp
theorem q_rp5 (h : q_LX k m x) (hI : q_Iv c d w m) (hk : k < 512) (hp : q_RZ x) (a b e0 : Int32) (e : dz_X5_64_236 x a b e0 = some r0) : q_RZ r0.1 := by
  unfold dz_X5_64_236 q_let at e
  dsimp only at e
  rcases q_rc1 e with e | e
  · exact q_rpE hp e
  rcases q_rc2 e with e | e
  · exact q_rpE hp e
  rcases q_rc1 e with e | e
  · exact q_rpE hp e
  rcases q_rc1 e with e | e
  · exact q_rpE hp e
  rcases q_rc1 e with e | e
  · exact q_rpE hp e
  rcases q_rc1 e with e | e
  · exact q_rpE hp e
  rcases q_rc3 e with e | e
  · rcases q_rc1 e with e | e
    · exact q_rpE hp e
    exact q_rpA h hI hk hp e
  · exact q_rpA h hI hk hp e
theorem q_rp6 (h : q_LX k m x) (hI : q_Iv c d w m) (hk : k < 512) (hp : q_RZ x) (a : Int32) (e : dz_X6_64_236 x a = some r0) : q_RZ r0.1 := by
  have z0 : (0 : Int32).toInt = 0 := rfl
  have z4096 : (4096 : Int32).toInt = 4096 := rfl
  by_cases l : a.toInt < 0
  · unfold dz_X6_64_236 at e
    rw [q_lt_T (show a.toInt < (0 : Int32).toInt by omega)] at e
    cases e; exact hp
  by_cases u : 4095 < a.toInt
  · unfold dz_X6_64_236 at e
    rw [q_lt_F (show (0 : Int32).toInt ≤ a.toInt by omega), q_lt_F (show (4096 : Int32).toInt ≤ a.toInt by omega)] at e
    cases e; exact hp
  obtain ⟨r, z2, n2, e1, -⟩ := q_wlin (q_RO_s (q_ROk h.1)) (q_Ivk hI) h.2.2.2.2.2.2.2.1.1 a ⟨by omega, by omega⟩
  unfold dz_X6_64_236 at e
  rw [q_lt_F (show (0 : Int32).toInt ≤ a.toInt by omega), q_lt_T (show a.toInt < (4096 : Int32).toInt by omega), q_lx_eq, e1] at e
  cases e
  exact q_RZt (x := x) rfl rfl rfl rfl rfl rfl rfl rfl rfl h.2.2.2.2.2.1 hp
theorem q_rp7 (h : q_LX k m x) (hI : q_Iv c d w m) (hk : k < 512) (hp : q_RZ x) (a : Int32) (e : dz_X7_64_236 x a = some r0) : q_RZ r0.1 := by
  unfold dz_X7_64_236 q_let at e
  dsimp only at e
  rcases q_rc1 e with e | e
  · exact q_rpE hp e
  rcases q_rc2 e with e | e
  · exact q_rpE hp e
  cases e1 : dz_B327_64 (q_vw 2 71 0 x) a with
  | none => rw [e1] at e; cases e
  | some v =>
    rw [e1, Option.bind_some] at e
    cases e2 : decide (vp_nar .char v = v) with
    | true => rw [e2] at e; cases e; exact q_RZL _ h.2.2.2.2.2.1 hp
    | false => rw [e2] at e; cases e
theorem q_rp8 (h : q_LX k m x) (hI : q_Iv c d w m) (hk : k < 512) (hp : q_RZ x) (a b e0 : Int32) (e : dz_X8_64_236 x a b e0 = some r0) : q_RZ r0.1 := by
  unfold dz_X8_64_236 at e
  rcases q_rc1 e with e | e
  · exact q_rpE hp e
  rcases q_rc2 e with e | e
  · exact q_rpE hp e
  rcases q_rc1 e with e | e
  · exact q_rpE hp e
  rcases q_rc2 e with e | e
  · exact q_rpE hp e
  rcases q_rc1 e with e | e
  · exact q_rpE hp e
  rcases q_rc1 e with e | e
  · exact q_rpE hp e
  exact q_rpR h.2.2.2.2.2.1 hp e
theorem q_rp9 (h : q_LX k m x) (hI : q_Iv c d w m) (hk : k < 512) (hp : q_RZ x) (a : Int32) (e : some (dz_X9_64_236 x a) = some r0) : q_RZ r0.1 := by
  have e := Option.some.inj e
  rw [← e]
  unfold dz_X9_64_236 q_let
  cases decide (a < 0) <;> cases decide (a < 5) <;> first | exact hp | exact q_RZL _ h.2.2.2.2.2.1 hp
theorem q_rp10 (h : q_LX k m x) (hI : q_Iv c d w m) (hk : k < 512) (hp : q_RZ x) (a b : Int32) (e : dz_X10_64_236 x a b = some r0) : q_RZ r0.1 := by
  unfold dz_X10_64_236 q_let at e
  dsimp only at e
  rcases q_rc1 e with e | e
  · exact q_rpE hp e
  rcases q_rc2 e with e | e
  · exact q_rpE hp e
  rcases q_rc3 e with e | e
  · rcases q_rc1 e with e | e
    · exact q_rpE hp e
    rcases q_rc1 e with e | e
    · exact q_rpE hp e
    rcases q_rc1 e with e | e
    · exact q_rpE hp e
    exact q_rpA h hI hk hp e
  · rcases q_rc1 e with e | e
    · exact q_rpE hp e
    rcases q_rc1 e with e | e
    · exact q_rpE hp e
    rcases q_rc1 e with e | e
    · exact q_rpE hp e
    exact q_rpA h hI hk hp e
theorem q_rp14 (h : q_LX k m x) (hI : q_Iv c d w m) (hk : k < 512) (hp : q_RZ x) (a : Int32) (e : dz_X11_64_236 x a = some r0) : q_RZ r0.1 := by
  unfold dz_X11_64_236 at e
  unfold q_let at e
  dsimp only at e
  rcases q_rc1 e with e | e
  · exact q_rpE hp e
  rcases q_rc1 e with e | e
  · exact q_rpE hp e
  exact q_rpA h hI hk hp e
theorem q_rp15 (h : q_LX k m x) (hI : q_Iv c d w m) (hk : k < 512) (hp : q_RZ x) (e : dz_X12_64_236 x = some r0) : q_RZ r0.1 := by
  unfold dz_X12_64_236 at e
  unfold q_let at e
  dsimp only at e
  rcases q_rc2 e with e | e
  · exact q_rpE hp e
  exact q_rpA h hI hk hp e
theorem q_rp21 (h : q_LX k m x) (hI : q_Iv c d w m) (hk : k < 512) (hp : q_RZ x) (a : Int32) (e : some (dz_X13_64_236 x a) = some r0) : q_RZ r0.1 := by
  have e := Option.some.inj e
  rw [← e]
  unfold dz_X13_64_236
  cases decide (x.2.1 24 11 < 16) <;> cases decide (a < 0) <;> cases decide (a < x.2.1 24 11) <;> cases decide (a < 16) <;> first | exact hp | exact q_RZL _ h.2.2.2.2.2.1 hp
theorem q_rp22 (h : q_LX k m x) (hI : q_Iv c d w m) (hk : k < 512) (hp : q_RZ x) (a b : Int32) (e : some (dz_X14_64_236 x a b) = some r0) : q_RZ r0.1 := by
  have e := Option.some.inj e
  rw [← e]
  unfold dz_X14_64_236
  cases decide (a < 0) <;> cases decide (a < 32) <;> cases decide (b < 0) <;> cases decide (b < 32) <;> first | exact hp | exact q_RZL _ h.2.2.2.2.2.1 hp
theorem q_ME_NS {s y : q_S} (h : q_NS s y) : q_ME s y := by
  obtain ⟨e2, e1⟩ := h
  unfold q_ME q_ML q_cP
  rw [e2]
  simp only [e1 0 rfl, e1 1 rfl, e1 2 rfl, e1 3 rfl, e1 4 rfl, e1 5 rfl, e1 6 rfl, e1 7 rfl, e1 8 rfl, e1 9 rfl, e1 10 rfl, e1 11 rfl, e1 12 rfl, e1 13 rfl, e1 14 rfl, e1 15 rfl, e1 16 rfl, e1 17 rfl, e1 18 rfl, e1 19 rfl, e1 20 rfl, e1 21 rfl, e1 22 rfl, e1 23 rfl, e1 24 rfl, e1 25 rfl, e1 26 rfl, e1 27 rfl, e1 28 rfl, e1 29 rfl, e1 30 rfl, e1 31 rfl]
theorem q_rp23 (h : q_LX k m x) (hI : q_Iv c d w m) (hk : k < 512) (hp : q_RZ x) (a b : Int32) (e : dz_X15_64_236 x a b = some r0) : q_RZ r0.1 := by
  unfold dz_X15_64_236 at e
  rcases q_rc1 e with e | e
  · exact q_rpE hp e
  rcases q_rc2 e with e | e
  · exact q_rpE hp e
  rcases q_rc1 e with e | e
  · exact q_rpE hp e
  rcases q_rc2 e with e | e
  · exact q_rpE hp e
  cases e1 : dz_N108_65_96 (q_vw 32 1 73 x) a b with
  | none => rw [e1] at e; cases e
  | some w =>
    obtain ⟨y, v⟩ := w
    rw [e1] at e
    cases e
    have mM : q_ME (q_vw 32 1 73 x) y := q_ME_NS (q_ns108 _ _ _ _ _ e1)
    exact q_RZt (x := x) rfl rfl rfl rfl rfl rfl rfl rfl mM h.2.2.2.2.2.1 hp
theorem q_rp24 (h : q_LX k m x) (hI : q_Iv c d w m) (hk : k < 512) (hp : q_RZ x) (a : Int32) (e : some (dz_X16_64_236 x a) = some r0) : q_RZ r0.1 := by
  have e := Option.some.inj e
  rw [← e]
  unfold dz_X16_64_236
  cases decide (a < 0) <;> cases decide (a < 40) <;> first | exact hp | exact q_RZL _ h.2.2.2.2.2.1 hp
theorem q_rp25 (h : q_LX k m x) (hI : q_Iv c d w m) (hk : k < 512) (hp : q_RZ x) (a : Int32) (e : some (dz_X17_64_236 x a) = some r0) : q_RZ r0.1 := by
  have e := Option.some.inj e
  rw [← e]
  unfold dz_X17_64_236
  cases decide (a < 0) <;> cases decide (a < 3) <;> first | exact hp | exact q_RZL _ h.2.2.2.2.2.1 hp
theorem q_rp26f (h : q_LX k m x) (hI : q_Iv c d w m) (hk : k < 512) (hp : q_RZ x) (a b : Int32) (e : dz_X18_64_f_236 x a b = some r0) : q_RZ r0.1 := by
  unfold dz_X18_64_f_236 at e
  unfold q_let at e
  dsimp only at e
  rcases q_rc1 e with e | e
  · exact q_rpE hp e
  rcases q_rc2 e with e | e
  · exact q_rpE hp e
  rcases q_rc1 e with e | e
  · exact q_rpE hp e
  rcases q_rc2 e with e | e
  · exact q_rpE hp e
  exact q_rpK h hI hk hp e
theorem q_rp26t (h : q_LX k m x) (hI : q_Iv c d w m) (hk : k < 512) (hp : q_RZ x) (a b : Int32) (e : dz_X18_64_t_236 x a b = some r0) : q_RZ r0.1 := by
  unfold dz_X18_64_t_236 at e
  unfold q_let at e
  dsimp only at e
  rcases q_rc1 e with e | e
  · exact q_rpE hp e
  rcases q_rc2 e with e | e
  · exact q_rpE hp e
  rcases q_rc1 e with e | e
  · exact q_rpE hp e
  rcases q_rc2 e with e | e
  · exact q_rpE hp e
  exact q_rpK h hI hk hp e
theorem q_rp27 (h : q_LX k m x) (hI : q_Iv c d w m) (hk : k < 512) (hp : q_RZ x) (a : Int32) (e : some (dz_X19_64_236 x a) = some r0) : q_RZ r0.1 := by
  have e := Option.some.inj e
  rw [← e]
  unfold dz_X19_64_236
  cases decide (a < 0) <;> cases decide (15 < a) <;> first | exact hp | exact q_RZL _ h.2.2.2.2.2.1 hp
theorem q_rp28 (h : q_LX k m x) (hI : q_Iv c d w m) (hk : k < 512) (hp : q_RZ x) (a : Int32) (e : dz_X20_64_236 x a = some r0) : q_RZ r0.1 := by
  unfold dz_X20_64_236 at e
  unfold q_let at e
  dsimp only at e
  rcases q_rc1 e with e | e
  · exact q_rpE hp e
  rcases q_rc1 e with e | e
  · exact q_rpE hp e
  exact q_rpA h hI hk hp e
theorem q_rp29 (h : q_LX k m x) (hI : q_Iv c d w m) (hk : k < 512) (hp : q_RZ x) (a : Int32) (e : dz_X21_64_236 x a = some r0) : q_RZ r0.1 := by
  unfold dz_X21_64_236 at e
  unfold q_let at e
  dsimp only at e
  rcases q_rc1 e with e | e
  · exact q_rpE hp e
  rcases q_rc1 e with e | e
  · exact q_rpE hp e
  rcases q_rc2 e with e | e
  · exact q_rpE hp e
  exact q_rpA h hI hk hp e
theorem q_srM {s r : q_S} (h : q_src r = q_src s) : q_ML (q_src r) = q_ML (q_src s) := by rw [h]
theorem q_rp32 (h : q_LX k m x) (hI : q_Iv c d w m) (hk : k < 512) (hp : q_RZ x) (e : dz_X22_64_236 x = some r0) : q_RZ r0.1 := by
  obtain ⟨i6, i7⟩ := q_iNof h.1 (hI.1 15 6) (hI.1 15 7)
  unfold dz_X22_64_236 at e
  rcases q_rc1 e with e | e
  · exact q_rpE hp e
  rcases q_rc2 e with e | e
  · exact q_rpE hp e
  rcases q_rc3 e with e | e
  · obtain ⟨r, a1, a2, a3, a4, a5⟩ := q_bcm (q_vw 32 76 1 x) i6 i7
    rw [a1] at e
    cases e
    have mM : q_ME (q_vw 32 1 73 x) (q_src r) := (q_srM a3).symm
    exact q_RZt (x := x) rfl rfl rfl rfl rfl rfl rfl rfl mM h.2.2.2.2.2.1 hp
  rcases q_rc3 e with e | e
  · obtain ⟨r, a1, a2, a3, a4, a5⟩ := q_bcm (q_vw 32 108 1 x) i6 i7
    rw [a1] at e
    cases e
    have mM : q_ME (q_vw 32 1 73 x) (q_src r) := (q_srM a3).symm
    exact q_RZt (x := x) rfl rfl rfl rfl rfl rfl rfl rfl mM h.2.2.2.2.2.1 hp
  rcases q_rc3 e with e | e
  · obtain ⟨r, a1, a2, a3, a4, a5⟩ := q_bcm (q_vw 32 140 1 x) i6 i7
    rw [a1] at e
    cases e
    have mM : q_ME (q_vw 32 1 73 x) (q_src r) := (q_srM a3).symm
    exact q_RZt (x := x) rfl rfl rfl rfl rfl rfl rfl rfl mM h.2.2.2.2.2.1 hp
  · cases e
theorem q_rp33 (h : q_LX k m x) (hI : q_Iv c d w m) (hk : k < 512) (hp : q_RZ x) (a : Int32) (e : dz_X23_64_236 x a = some r0) : q_RZ r0.1 := by
  unfold dz_X23_64_236 at e
  rcases q_rc1 e with e | e
  · exact q_rpE hp e
  rcases q_rc2 e with e | e
  · exact q_rpE hp e
  rcases q_rc2 e with e | e
  · exact q_rpE hp e
  rcases q_rc3 e with e | e
  · rcases q_rc2 e with e | e
    · exact q_rpE hp e
    cases e1 : dz_W111_66_98 (q_vw 32 1 76 x) with
    | none => rw [e1] at e; cases e
    | some v =>
      rw [e1, Option.bind_some] at e
      cases e2 : dz_W77_64_96 (q_vw 32 1 76 x) with
      | none => rw [e2] at e; cases e
      | some r => rw [e2] at e; cases e; exact q_RZ0 rfl
  rcases q_rc3 e with e | e
  · rcases q_rc2 e with e | e
    · exact q_rpE hp e
    cases e1 : dz_W111_66_98 (q_vw 32 1 108 x) with
    | none => rw [e1] at e; cases e
    | some v =>
      rw [e1, Option.bind_some] at e
      cases e2 : dz_W77_64_96 (q_vw 32 1 108 x) with
      | none => rw [e2] at e; cases e
      | some r => rw [e2] at e; cases e; exact q_RZ0 rfl
  rcases q_rc3 e with e | e
  · rcases q_rc2 e with e | e
    · exact q_rpE hp e
    cases e1 : dz_W111_66_98 (q_vw 32 1 140 x) with
    | none => rw [e1] at e; cases e
    | some v =>
      rw [e1, Option.bind_some] at e
      cases e2 : dz_W77_64_96 (q_vw 32 1 140 x) with
      | none => rw [e2] at e; cases e
      | some r => rw [e2] at e; cases e; exact q_RZ0 rfl
  · cases e
theorem q_rp34 (h : q_LX k m x) (hI : q_Iv c d w m) (hk : k < 512) (hp : q_RZ x) (a : Int32) (e : dz_X24_64_236 x a = some r0) : q_RZ r0.1 := by
  unfold dz_X24_64_236 at e
  rcases q_rc1 e with e | e
  · exact q_rpE hp e
  rcases q_rc2 e with e | e
  · exact q_rpE hp e
  rcases q_rc2 e with e | e
  · exact q_rpE hp e
  rcases q_rc3 e with e | e
  · rcases q_rc2 e with e | e
    · exact q_rpE hp e
    exact q_rpR h.2.2.2.2.2.1 hp e
  rcases q_rc3 e with e | e
  · rcases q_rc2 e with e | e
    · exact q_rpE hp e
    exact q_rpR h.2.2.2.2.2.1 hp e
  rcases q_rc3 e with e | e
  · rcases q_rc2 e with e | e
    · exact q_rpE hp e
    exact q_rpR h.2.2.2.2.2.1 hp e
  · cases e
theorem q_rp36 (h : q_LX k m x) (hI : q_Iv c d w m) (hk : k < 512) (hp : q_RZ x) (e : some (dz_X25_64_236 x) = some r0) : q_RZ r0.1 := by
  have e := Option.some.inj e
  rw [← e]
  unfold dz_X25_64_236
  cases decide (x.2.1 34 7 = 0) <;> first | exact hp | exact q_RZL _ h.2.2.2.2.2.1 hp
theorem q_rp12 (h : q_LX k m x) (hI : q_Iv c d w m) (hk : k < 512) (hp : q_RZ x) {g : q_S × Int32} (e : dz_X40_64 x = some g) : q_RZ g.1 := q_rpA2 h hI hk hp e
theorem q_rp13 (h : q_LX k m x) (hI : q_Iv c d w m) (hk : k < 512) (hp : q_RZ x) {g : q_S × Int32} (e : dz_X41_64 x = some g) : q_RZ g.1 := q_rpA2 h hI hk hp e
theorem q_rp30 (h : q_LX k m x) (hI : q_Iv c d w m) (hk : k < 512) (hp : q_RZ x) {g : q_S × Int32} (e : dz_X58_64 x = some g) : q_RZ g.1 := q_rpA2 (a1 := 12) (a2 := 0) (a3 := 0) (a4 := 0) h hI hk hp e
theorem q_tcC {t n : Nat} {F f g : Nat → Int32} (h : F = va_cpy f g 0 0 n) : q_tc (.inl (t, n, .inl F)) = q_tc (.inl (t, n, .inl f)) := by
  rw [h]
  have e : (fun k => cond (Nat.blt k n) (va_cpy f g 0 0 n k) 0) = (fun k => cond (Nat.blt k n) (f k) 0) := by
    funext k
    rcases Nat.lt_or_ge k n with q | q
    · rw [q_tmT q]
      show va_cpy f g 0 0 n k = f k
      unfold va_cpy
      rw [if_pos ⟨Nat.zero_le _, by omega⟩, Nat.zero_add, Nat.sub_zero]
    · rw [q_bltF q]
      rfl
  show (Sum.inl (t, n, Sum.inl (fun k => cond (Nat.blt k n) (va_cpy f g 0 0 n k) 0)) : q_C) = Sum.inl (t, n, Sum.inl (fun k => cond (Nat.blt k n) (f k) 0))
  rw [e]
theorem q_lc {a b : q_C} {l l2 : List q_C} (h : q_tc a = q_tc b) (t : l.map q_tc = l2.map q_tc) : (a :: l).map q_tc = (b :: l2).map q_tc := by
  rw [List.map_cons, List.map_cons, h, t]
theorem q_77M (s : q_S) (h6 : q_rgz 0 1 (s.2.1 55 6)) (h7 : q_rgz 0 1 (s.2.1 55 7)) {r : q_S} (e : dz_W77_64_96 s = some r) : q_ME r (q_src s) := by
  unfold dz_W77_64_96 dz_W131_87_119 q_let at e
  dsimp only at e
  rw [show q_z1 ((dz_W85_65_97 s).2.1 55 6) = true from q_z1_rg h6, show q_z1 ((dz_W85_65_97 s).2.1 55 7) = true from q_z1_rg h7] at e
  cases e
  unfold q_ME q_ML q_cP
  exact (q_lc rfl (q_lc rfl (q_lc rfl (q_lc (q_tcC rfl) (q_lc (q_tcC rfl) (q_lc (q_tcC rfl) (q_lc (q_tcC rfl) (q_lc (q_tcC rfl) (q_lc rfl (q_lc (q_tcC rfl) (q_lc rfl (q_lc (q_tcC rfl) (q_lc (q_tcC rfl) (q_lc rfl (q_lc rfl (q_lc (q_tcC rfl) (q_lc (q_tcC rfl) (q_lc (q_tcC rfl) (q_lc rfl (q_lc rfl (q_lc (q_tcC rfl) (q_lc (q_tcC rfl) (q_lc (q_tcC rfl) (q_lc rfl (q_lc (q_tcC rfl) (q_lc rfl (q_lc (q_tcC rfl) (q_lc (q_tcC rfl) (q_lc (q_tcC rfl) (q_lc (q_tcC rfl) (q_lc (q_tcC rfl) (q_lc (q_tcC rfl) rfl))))))))))))))))))))))))))))))))
theorem q_rp35 (h : q_LX k m x) (hI : q_Iv c d w m) (hk : k < 512) (hp : q_RZ x) {g : q_S × Int32} (e : dz_X63_64 x = some g) : q_RZ g.1 := by
  obtain ⟨i6, i7⟩ := q_iNof h.1 (hI.1 15 6) (hI.1 15 7)
  obtain ⟨r, a1, a2, a3, a4, a5⟩ := q_bcm (q_vw 32 35 1 x) i6 i7
  have mM : q_ME r (q_src r) := (q_77M (q_vw 32 35 1 x) i6 i7 a1).trans (q_srM a3).symm
  have e9 : dz_X183_98_65 x = some (q_sI (q_sI (q_sI (q_pt 32 32 35 1 x r) 34 5 0) 34 6 0) 34 7 1) := by
    unfold dz_X183_98_65
    rw [a1]
    rfl
  unfold dz_X63_64 q_let at e
  rw [e9] at e
  have eg : g.1 = q_sI (q_sI (q_sI (q_pt 32 32 35 1 x r) 34 5 0) 34 6 0) 34 7 1 := by
    have e : cond (decide (x.2.1 34 7 = 0)) (some (q_sI (q_sI (q_sI (q_pt 32 32 35 1 x r) 34 5 0) 34 6 0) 34 7 1, (0 : Int32))) (some (q_sI (q_sI (q_sI (q_pt 32 32 35 1 x r) 34 5 0) 34 6 0) 34 7 1, x.2.1 34 5)) = some g := e
    cases k9 : decide (x.2.1 34 7 = 0) with
    | true => rw [k9] at e; cases e; rfl
    | false => rw [k9] at e; cases e; rfl
  rw [eg]
  intro _
  exact mM
end
end
section
-- 58.aa
section
variable {z L : Nat} {xs : Nat → Int32} {S : q_S} {c n k : Nat} {i : Int32}
/-- the next turn's head is reached -/
def q_NX (z L : Nat) (xs : Nat → Int32) (i : Int32) (S : q_S) (c n k : Nat) : Prop := ∃ S2 c2 n2, q_IV (k + 1) S2 ∧ q_RZ (q_vw 172 0 206 S2) ∧ c2 ≤ c + 1 ∧ n2 ≤ n + 6 ∧ ∀ o, q_Ru (q_TBs z L xs) 20 376 (23, [(4, .int (i + 4)), (3, .ref 270), (2, .ref 236), (1, .ref 64), (0, .ref 0)], [], (q_kL S2 c2 n2)) o → q_Ru (q_TBs z L xs) 20 376 (23, [(4, .int i), (3, .ref 270), (2, .ref 236), (1, .ref 64), (0, .ref 0)], [], (q_kL S c n)) o
def q_XS (L : Nat) (i : Int32) : Prop := q_in i L = true ∧ q_in (i + 1) L = true ∧ q_in (i + 2) L = true ∧ q_in (i + 3) L = true ∧ decide (Int32.ofNat L - 4 < i) = false
theorem q_RZV {y m : q_S} {k : Nat} (hN : q_IV k (q_pt 34 0 172 0 (q_pt 172 1 0 206 S y) m)) (h : q_RZ y) : q_RZ (q_vw 172 0 206 (q_pt 34 0 172 0 (q_pt 172 1 0 206 S y) m)) := q_RZt (x := y) rfl rfl rfl rfl rfl rfl rfl rfl rfl hN.1.2.2.2.2.2.1 h
theorem q_RZR {m : q_S} {k : Nat} (hN : q_IV k (q_pt 34 0 172 0 S m)) (h : q_RZ (q_vw 172 0 206 S)) : q_RZ (q_vw 172 0 206 (q_pt 34 0 172 0 S m)) := q_RZt (x := q_vw 172 0 206 S) rfl rfl rfl rfl rfl rfl rfl rfl rfl hN.1.2.2.2.2.2.1 h
theorem q_st0 (h : q_IV k S) (hk : k < 512) (hx : q_XS L i) (hF : q_RZ (q_vw 172 0 206 S)) (hv : xs i.toNatClampNeg &&& 63 = 0) : q_NX z L xs i S c n k := by
  obtain ⟨hx0, hx1, hx2, hx3, hi⟩ := hx
  obtain ⟨r0, r1, e0, e1, hN, hE, hC, hX⟩ := q_trn (ox := (dz_X0_64_236 (q_vw 172 0 206 S) (xs ((i + 1).toNatClampNeg)) (xs ((i + 2).toNatClampNeg)))) (F := fun m => dz_M216_64 m (xs ((i + 1).toNatClampNeg)) (xs ((i + 2).toNatClampNeg))) (cv := Int32.toInt64) (ex := True) h (fun m h1 h2 => q_tPoke h1 h2 (by omega) (xs ((i + 1).toNatClampNeg)) (xs ((i + 2).toNatClampNeg))) (fun m h2 => dzj_M216_64 _ _ 40 m h2 (xs ((i + 1).toNatClampNeg)) (xs ((i + 2).toNatClampNeg))) (fun x p => q_IVup p.1)
  have hP9 := q_rp0 h.1 h.2 (by omega) hF (xs ((i + 1).toNatClampNeg)) (xs ((i + 2).toNatClampNeg)) e0
  have hP8 := q_RZV (S := S) hN hP9
  exact ⟨_, _, _, hN, hP8, Nat.add_le_add_left hE c, by omega, fun o ho => q_lw0 z L xs S c n i hx0 hx1 hx2 hx3 hi hv r0 e0 r1 e1 ho⟩
theorem q_st1 (h : q_IV k S) (hk : k < 512) (hx : q_XS L i) (hF : q_RZ (q_vw 172 0 206 S)) (hv : xs i.toNatClampNeg &&& 63 = 1) : q_NX z L xs i S c n k := by
  obtain ⟨hx0, hx1, hx2, hx3, hi⟩ := hx
  obtain ⟨r0, r1, e0, e1, hN, hE, hC, hX⟩ := q_trn (ox := (dz_X1_64_236 (q_vw 172 0 206 S) (xs ((i + 1).toNatClampNeg)) (xs ((i + 2).toNatClampNeg)))) (F := fun m => dz_M217_64 m (xs ((i + 1).toNatClampNeg)) (xs ((i + 2).toNatClampNeg))) (cv := Int32.toInt64) (ex := True) h (fun m h1 h2 => q_tRom h1 h2 (by omega) (xs ((i + 1).toNatClampNeg)) (xs ((i + 2).toNatClampNeg))) (fun m h2 => dzj_M217_64 _ _ 40 m h2 (xs ((i + 1).toNatClampNeg)) (xs ((i + 2).toNatClampNeg))) (fun x p => q_IVup p.1)
  have hP9 := q_rp1 h.1 h.2 (by omega) hF (xs ((i + 1).toNatClampNeg)) (xs ((i + 2).toNatClampNeg)) e0
  have hP8 := q_RZV (S := S) hN hP9
  exact ⟨_, _, _, hN, hP8, Nat.add_le_add_left hE c, by omega, fun o ho => q_lw1 z L xs S c n i hx0 hx1 hx2 hx3 hi hv r0 e0 r1 e1 ho⟩
theorem q_st2 (h : q_IV k S) (hk : k < 512) (hx : q_XS L i) (hF : q_RZ (q_vw 172 0 206 S)) (hv : xs i.toNatClampNeg &&& 63 = 2) : q_NX z L xs i S c n k := by
  obtain ⟨hx0, hx1, hx2, hx3, hi⟩ := hx
  obtain ⟨r0, r1, e0, e1, hN, hE, hC, hX⟩ := q_trn (ox := (dz_X2_64_236 (q_vw 172 0 206 S) (xs ((i + 1).toNatClampNeg)) (xs ((i + 2).toNatClampNeg)) (xs ((i + 3).toNatClampNeg)))) (F := fun m => dz_M218_64 m (xs ((i + 1).toNatClampNeg)) (xs ((i + 2).toNatClampNeg)) (xs ((i + 3).toNatClampNeg))) (cv := Int32.toInt64) (ex := True) h (fun m h1 h2 => q_tCar h1 h2 (by omega) (xs ((i + 1).toNatClampNeg)) (xs ((i + 2).toNatClampNeg)) (xs ((i + 3).toNatClampNeg))) (fun m h2 => dzj_M218_64 _ _ 40 m h2 (xs ((i + 1).toNatClampNeg)) (xs ((i + 2).toNatClampNeg)) (xs ((i + 3).toNatClampNeg))) (fun x p => q_IVup p.1)
  have hP9 := q_rp2 h.1 h.2 (by omega) hF (xs ((i + 1).toNatClampNeg)) (xs ((i + 2).toNatClampNeg)) (xs ((i + 3).toNatClampNeg)) e0
  have hP8 := q_RZV (S := S) hN hP9
  exact ⟨_, _, _, hN, hP8, Nat.add_le_add_left hE c, by omega, fun o ho => q_lw2 z L xs S c n i hx0 hx1 hx2 hx3 hi hv r0 e0 r1 e1 ho⟩
theorem q_st3 (h : q_IV k S) (hk : k < 512) (hx : q_XS L i) (hF : q_RZ (q_vw 172 0 206 S)) (hv : xs i.toNatClampNeg &&& 63 = 3) : q_NX z L xs i S c n k := by
  obtain ⟨hx0, hx1, hx2, hx3, hi⟩ := hx
  obtain ⟨r0, r1, e0, e1, hN, hE, hC, hX⟩ := q_trn (ox := (dz_X3_64_236 (q_vw 172 0 206 S) (xs ((i + 1).toNatClampNeg)))) (F := fun m => dz_M219_64 m (xs ((i + 1).toNatClampNeg))) (cv := Int32.toInt64) (ex := True) h (fun m h1 h2 => q_tPeek h1 h2 (xs ((i + 1).toNatClampNeg))) (fun m h2 => dzj_M219_64 _ _ 40 m h2 (xs ((i + 1).toNatClampNeg))) (fun x p => q_IVup p.1)
  have hP9 := q_rp3 h.1 h.2 (by omega) hF (xs ((i + 1).toNatClampNeg)) e0
  have hP8 := q_RZV (S := S) hN hP9
  exact ⟨_, _, _, hN, hP8, Nat.add_le_add_left hE c, by omega, fun o ho => q_lw3 z L xs S c n i hx0 hx1 hx2 hx3 hi hv r0 e0 r1 e1 ho⟩
theorem q_st4 (h : q_IV k S) (hk : k < 512) (hx : q_XS L i) (hF : q_RZ (q_vw 172 0 206 S)) (hv : xs i.toNatClampNeg &&& 63 = 4) : q_NX z L xs i S c n k := by
  obtain ⟨hx0, hx1, hx2, hx3, hi⟩ := hx
  obtain ⟨r0, r1, e0, e1, hN, hE, hC, hX⟩ := q_trn (ox := (some (dz_X4_64_236 (q_vw 172 0 206 S) (xs ((i + 1).toNatClampNeg))))) (F := fun m => dz_M220_64 m (xs ((i + 1).toNatClampNeg))) (cv := Int32.toInt64) (ex := True) h (fun m h1 h2 => q_tRam h1 h2 (xs ((i + 1).toNatClampNeg))) (fun m h2 => dzj_M220_64 _ _ 40 m h2 (xs ((i + 1).toNatClampNeg))) (fun x p => q_IVup p.1)
  have hP9 := q_rp4 h.1 h.2 (by omega) hF (xs ((i + 1).toNatClampNeg)) e0
  have hP8 := q_RZV (S := S) hN hP9
  have e0 := Option.some.inj e0
  exact ⟨_, _, _, hN, hP8, Nat.add_le_add_left hE c, by omega, fun o ho => q_lw4 z L xs S c n i hx0 hx1 hx2 hx3 hi hv r0 e0 r1 e1 ho⟩
theorem q_st5 (h : q_IV k S) (hk : k < 512) (hx : q_XS L i) (hF : q_RZ (q_vw 172 0 206 S)) (hv : xs i.toNatClampNeg &&& 63 = 5) : q_NX z L xs i S c n k := by
  obtain ⟨hx0, hx1, hx2, hx3, hi⟩ := hx
  obtain ⟨r0, r1, e0, e1, hN, hE, hC, hX⟩ := q_trn (ox := (dz_X5_64_236 (q_vw 172 0 206 S) (xs ((i + 1).toNatClampNeg)) (xs ((i + 2).toNatClampNeg)) (xs ((i + 3).toNatClampNeg)))) (F := fun m => dz_M279_64 m (xs ((i + 1).toNatClampNeg)) (xs ((i + 2).toNatClampNeg)) (xs ((i + 3).toNatClampNeg))) (cv := Int32.toInt64) (ex := True) h (fun m h1 h2 => q_tAsm h1 h2 (by omega) (xs ((i + 1).toNatClampNeg)) (xs ((i + 2).toNatClampNeg)) (xs ((i + 3).toNatClampNeg))) (fun m h2 => dzj_M279_64 _ _ 40 m h2 (xs ((i + 1).toNatClampNeg)) (xs ((i + 2).toNatClampNeg)) (xs ((i + 3).toNatClampNeg))) (fun x p => q_IVup p)
  have hP9 := q_rp5 h.1 h.2 (by omega) hF (xs ((i + 1).toNatClampNeg)) (xs ((i + 2).toNatClampNeg)) (xs ((i + 3).toNatClampNeg)) e0
  have hP8 := q_RZV (S := S) hN hP9
  exact ⟨_, _, _, hN, hP8, Nat.add_le_add_left hE c, by omega, fun o ho => q_lw5 z L xs S c n i hx0 hx1 hx2 hx3 hi hv r0 e0 r1 e1 ho⟩
theorem q_st6 (h : q_IV k S) (hk : k < 512) (hx : q_XS L i) (hF : q_RZ (q_vw 172 0 206 S)) (hv : xs i.toNatClampNeg &&& 63 = 6) : q_NX z L xs i S c n k := by
  obtain ⟨hx0, hx1, hx2, hx3, hi⟩ := hx
  obtain ⟨r0, r1, e0, e1, hN, hE, hC, hX⟩ := q_trn (ox := (dz_X6_64_236 (q_vw 172 0 206 S) (xs ((i + 1).toNatClampNeg)))) (F := fun m => dz_M286_64 m (xs ((i + 1).toNatClampNeg))) (cv := Int32.toInt64) (ex := True) h (fun m h1 h2 => q_tWl h1 h2 (xs ((i + 1).toNatClampNeg))) (fun m h2 => dzj_M286_64 _ _ 40 m h2 (xs ((i + 1).toNatClampNeg))) (fun x p => q_IVup p)
  have hP9 := q_rp6 h.1 h.2 (by omega) hF (xs ((i + 1).toNatClampNeg)) e0
  have hP8 := q_RZV (S := S) hN hP9
  exact ⟨_, _, _, hN, hP8, Nat.add_le_add_left hE c, by omega, fun o ho => q_lw6 z L xs S c n i hx0 hx1 hx2 hx3 hi hv r0 e0 r1 e1 ho⟩
theorem q_st7 (h : q_IV k S) (hk : k < 512) (hx : q_XS L i) (hF : q_RZ (q_vw 172 0 206 S)) (hv : xs i.toNatClampNeg &&& 63 = 7) : q_NX z L xs i S c n k := by
  obtain ⟨hx0, hx1, hx2, hx3, hi⟩ := hx
  obtain ⟨r0, r1, e0, e1, hN, hE, hC, hX⟩ := q_trn (ox := (dz_X7_64_236 (q_vw 172 0 206 S) (xs ((i + 1).toNatClampNeg)))) (F := fun m => dz_M287_64 m (xs ((i + 1).toNatClampNeg))) (cv := Int32.toInt64) (ex := True) h (fun m h1 h2 => q_tLat h1 h2 (xs ((i + 1).toNatClampNeg))) (fun m h2 => dzj_M287_64 _ _ 40 m h2 (xs ((i + 1).toNatClampNeg))) (fun x p => q_IVup p)
  have hP9 := q_rp7 h.1 h.2 (by omega) hF (xs ((i + 1).toNatClampNeg)) e0
  have hP8 := q_RZV (S := S) hN hP9
  exact ⟨_, _, _, hN, hP8, Nat.add_le_add_left hE c, by omega, fun o ho => q_lw7 z L xs S c n i hx0 hx1 hx2 hx3 hi hv r0 e0 r1 e1 ho⟩
theorem q_st8 (h : q_IV k S) (hk : k < 512) (hx : q_XS L i) (hF : q_RZ (q_vw 172 0 206 S)) (hv : xs i.toNatClampNeg &&& 63 = 8) : q_NX z L xs i S c n k := by
  obtain ⟨hx0, hx1, hx2, hx3, hi⟩ := hx
  obtain ⟨r0, r1, e0, e1, hN, hE, hC, hX⟩ := q_trn (ox := (dz_X8_64_236 (q_vw 172 0 206 S) (xs ((i + 1).toNatClampNeg)) (xs ((i + 2).toNatClampNeg)) (xs ((i + 3).toNatClampNeg)))) (F := fun m => dz_M221_64 m (xs ((i + 1).toNatClampNeg)) (xs ((i + 2).toNatClampNeg)) (xs ((i + 3).toNatClampNeg))) (cv := Int32.toInt64) (ex := True) h (fun m h1 h2 => q_tCmp h1 h2 (xs ((i + 1).toNatClampNeg)) (xs ((i + 2).toNatClampNeg)) (xs ((i + 3).toNatClampNeg))) (fun m h2 => dzj_M221_64 _ _ 40 m h2 (xs ((i + 1).toNatClampNeg)) (xs ((i + 2).toNatClampNeg)) (xs ((i + 3).toNatClampNeg))) (fun x p => q_IVup p.1)
  have hP9 := q_rp8 h.1 h.2 (by omega) hF (xs ((i + 1).toNatClampNeg)) (xs ((i + 2).toNatClampNeg)) (xs ((i + 3).toNatClampNeg)) e0
  have hP8 := q_RZV (S := S) hN hP9
  exact ⟨_, _, _, hN, hP8, Nat.add_le_add_left hE c, by omega, fun o ho => q_lw8 z L xs S c n i hx0 hx1 hx2 hx3 hi hv r0 e0 r1 e1 ho⟩
theorem q_st9 (h : q_IV k S) (hk : k < 512) (hx : q_XS L i) (hF : q_RZ (q_vw 172 0 206 S)) (hv : xs i.toNatClampNeg &&& 63 = 9) : q_NX z L xs i S c n k := by
  obtain ⟨hx0, hx1, hx2, hx3, hi⟩ := hx
  obtain ⟨r0, r1, e0, e1, hN, hE, hC, hX⟩ := q_trn (ox := (some (dz_X9_64_236 (q_vw 172 0 206 S) (xs ((i + 1).toNatClampNeg))))) (F := fun m => dz_M288_64 m (xs ((i + 1).toNatClampNeg))) (cv := Int32.toInt64) (ex := ((xs ((i + 1).toNatClampNeg)).toInt = 4 → (q_vw 172 0 206 S).2.1 24 7 = 0)) h (fun m h1 h2 => q_tGet h1 h2 (xs ((i + 1).toNatClampNeg))) (fun m h2 => dzj_M288_64 _ _ 40 m h2 (xs ((i + 1).toNatClampNeg))) (fun x p => q_IVup p)
  have hP9 := q_rp9 h.1 h.2 (by omega) hF (xs ((i + 1).toNatClampNeg)) e0
  have hP8 := q_RZV (S := S) hN hP9
  have e0 := Option.some.inj e0
  exact ⟨_, _, _, hN, hP8, Nat.add_le_add_left hE c, by omega, fun o ho => q_lw9 z L xs S c n i hx0 hx1 hx2 hx3 hi hv r0 e0 r1 e1 ho⟩
theorem q_st10 (h : q_IV k S) (hk : k < 512) (hx : q_XS L i) (hF : q_RZ (q_vw 172 0 206 S)) (hv : xs i.toNatClampNeg &&& 63 = 10) : q_NX z L xs i S c n k := by
  obtain ⟨hx0, hx1, hx2, hx3, hi⟩ := hx
  obtain ⟨r0, r1, e0, e1, hN, hE, hC, hX⟩ := q_trn (ox := (dz_X10_64_236 (q_vw 172 0 206 S) (xs ((i + 1).toNatClampNeg)) (xs ((i + 2).toNatClampNeg)))) (F := fun m => dz_M289_64 m (xs ((i + 1).toNatClampNeg)) (xs ((i + 2).toNatClampNeg))) (cv := Int32.toInt64) (ex := ((xs ((i + 1).toNatClampNeg)).toInt = 4 → (q_vw 172 0 206 S).2.1 24 7 = 0)) h (fun m h1 h2 => q_tReg h1 h2 (by omega) (xs ((i + 1).toNatClampNeg)) (xs ((i + 2).toNatClampNeg))) (fun m h2 => dzj_M289_64 _ _ 40 m h2 (xs ((i + 1).toNatClampNeg)) (xs ((i + 2).toNatClampNeg))) (fun x p => q_IVup p)
  have hP9 := q_rp10 h.1 h.2 (by omega) hF (xs ((i + 1).toNatClampNeg)) (xs ((i + 2).toNatClampNeg)) e0
  have hP8 := q_RZV (S := S) hN hP9
  exact ⟨_, _, _, hN, hP8, Nat.add_le_add_left hE c, by omega, fun o ho => q_lw10 z L xs S c n i hx0 hx1 hx2 hx3 hi hv r0 e0 r1 e1 ho⟩
theorem q_st11 (h : q_IV k S) (hk : k < 512) (hx : q_XS L i) (hF : q_RZ (q_vw 172 0 206 S)) (hv : xs i.toNatClampNeg &&& 63 = 11) : q_NX z L xs i S c n k := by
  obtain ⟨hx0, hx1, hx2, hx3, hi⟩ := hx
  have e0 := q_tSta h.1 h.2
  exact ⟨_, _, _, q_rdn h, q_RZR (S := S) (q_rdn h) hF, Nat.le_add_right c 1, Nat.le_add_right n 6, fun o ho => q_lw11 z L xs S c n i hx0 hx1 hx2 hx3 hi hv _ e0 ho⟩
theorem q_st12 (h : q_IV k S) (hk : k < 512) (hx : q_XS L i) (hF : q_RZ (q_vw 172 0 206 S)) (hv : xs i.toNatClampNeg &&& 63 = 12) : q_NX z L xs i S c n k := by
  obtain ⟨hx0, hx1, hx2, hx3, hi⟩ := hx
  have hk9 : (k : Int) < 512 := by omega
  have hk8 : 0 ≤ (k : Int) := by omega
  obtain ⟨r0, r1, e0, e1, hN, hQ⟩ := q_trw (ox := dz_X40_64 (q_vw 172 0 206 S)) (F := fun m => dz_M291_64 m) (Q := fun r0 r1 => r1.1.2.1 0 39 = 0 ∧ r0.2 = r1.2) h (fun m h1 h2 => q_tRes h1 h2 hk9) (fun m h2 => dzj_M291_64 _ _ 40 m h2) (fun x p => q_IVup p)
  have hP9 := q_rp12 h.1 h.2 (by omega) hF e0
  have hP8 := q_RZV (S := S) hN hP9
  exact ⟨_, _, _, hN, hP8, Nat.le_add_right c 1, Nat.le_add_right n 6, fun o ho => q_lw12 z L xs S c n i hx0 hx1 hx2 hx3 hi hv r0 e0 r1 e1 ho⟩
theorem q_st13 (h : q_IV k S) (hk : k < 512) (hx : q_XS L i) (hF : q_RZ (q_vw 172 0 206 S)) (hv : xs i.toNatClampNeg &&& 63 = 13) : q_NX z L xs i S c n k := by
  obtain ⟨hx0, hx1, hx2, hx3, hi⟩ := hx
  have hk9 : (k : Int) < 512 := by omega
  have hk8 : 0 ≤ (k : Int) := by omega
  obtain ⟨r0, r1, e0, e1, hN, hQ⟩ := q_trw (ox := dz_X41_64 (q_vw 172 0 206 S)) (F := fun m => some (dz_M292_64 m)) (Q := fun r0 r1 => r1.1.2.1 0 39 = 0 ∧ r0.2 = r1.2) h (fun m h1 h2 => by
    obtain ⟨r0, r1, e0, e1, g⟩ := q_tFrz h1 h2 hk9
    exact ⟨r0, r1, e0, congrArg some e1, g⟩) (fun m h2 => q_E_x (dzj_M292_64 _ _ 40 m h2)) (fun x p => q_IVup p)
  have hP9 := q_rp13 h.1 h.2 (by omega) hF e0
  have hP8 := q_RZV (S := S) hN hP9
  have e1 := Option.some.inj e1
  exact ⟨_, _, _, hN, hP8, Nat.le_add_right c 1, Nat.le_add_right n 6, fun o ho => q_lw13 z L xs S c n i hx0 hx1 hx2 hx3 hi hv r0 e0 r1 e1 ho⟩
theorem q_st14 (h : q_IV k S) (hk : k < 512) (hx : q_XS L i) (hF : q_RZ (q_vw 172 0 206 S)) (hv : xs i.toNatClampNeg &&& 63 = 14) : q_NX z L xs i S c n k := by
  obtain ⟨hx0, hx1, hx2, hx3, hi⟩ := hx
  obtain ⟨r0, r1, e0, e1, hN, hE, hC, hX⟩ := q_trn (ox := (dz_X11_64_236 (q_vw 172 0 206 S) (xs ((i + 1).toNatClampNeg)))) (F := fun m => dz_M236_64 m (xs ((i + 1).toNatClampNeg))) (cv := Int32.toInt64) (ex := True) h (fun m h1 h2 => q_tRun h1 h2 (by omega) (xs ((i + 1).toNatClampNeg)) (by omega) (by omega)) (fun m h2 => dzj_M236_64 _ _ 40 ⟨by omega, by omega⟩ m h2 (xs ((i + 1).toNatClampNeg))) (fun x p => q_Iv_mono p (by omega) (by omega) (Int.le_refl _))
  have hP9 := q_rp14 h.1 h.2 (by omega) hF (xs ((i + 1).toNatClampNeg)) e0
  have hP8 := q_RZV (S := S) hN hP9
  exact ⟨_, _, _, hN, hP8, Nat.add_le_add_left hE c, by omega, fun o ho => q_lw14 z L xs S c n i hx0 hx1 hx2 hx3 hi hv r0 e0 r1 e1 ho⟩
theorem q_st15 (h : q_IV k S) (hk : k < 512) (hx : q_XS L i) (hF : q_RZ (q_vw 172 0 206 S)) (hv : xs i.toNatClampNeg &&& 63 = 15) : q_NX z L xs i S c n k := by
  obtain ⟨hx0, hx1, hx2, hx3, hi⟩ := hx
  obtain ⟨r0, r1, e0, e1, hN, hE, hC, hX⟩ := q_trn (ox := (dz_X12_64_236 (q_vw 172 0 206 S))) (F := fun m => dz_M237_64 m) (cv := Int32.toInt64) (ex := True) h (fun m h1 h2 => q_tStep h1 h2 (by omega) (by omega) (by omega)) (fun m h2 => dzj_M237_64 _ _ 40 ⟨by omega, by omega⟩ m h2) (fun x p => q_Iv_mono p (by omega) (by omega) (Int.le_refl _))
  have hP9 := q_rp15 h.1 h.2 (by omega) hF e0
  have hP8 := q_RZV (S := S) hN hP9
  exact ⟨_, _, _, hN, hP8, Nat.add_le_add_left hE c, by omega, fun o ho => q_lw15 z L xs S c n i hx0 hx1 hx2 hx3 hi hv r0 e0 r1 e1 ho⟩
theorem q_st16 (h : q_IV k S) (hk : k < 512) (hx : q_XS L i) (hF : q_RZ (q_vw 172 0 206 S)) (hv : xs i.toNatClampNeg &&& 63 = 16) : q_NX z L xs i S c n k := by
  obtain ⟨hx0, hx1, hx2, hx3, hi⟩ := hx
  have e0 := q_tCyc h.1
  exact ⟨_, _, _, q_rdn h, q_RZR (S := S) (q_rdn h) hF, Nat.le_add_right c 1, Nat.le_add_right n 6, fun o ho => q_lw16 z L xs S c n i hx0 hx1 hx2 hx3 hi hv _ e0 ho⟩
theorem q_st17 (h : q_IV k S) (hk : k < 512) (hx : q_XS L i) (hF : q_RZ (q_vw 172 0 206 S)) (hv : xs i.toNatClampNeg &&& 63 = 17) : q_NX z L xs i S c n k := by
  obtain ⟨hx0, hx1, hx2, hx3, hi⟩ := hx
  obtain ⟨b, e0, e1⟩ := q_tIsP h.1 h.2
  exact ⟨_, _, _, q_rdn h, q_RZR (S := S) (q_rdn h) hF, Nat.le_add_right c 1, Nat.le_add_right n 6, fun o ho => q_lw17 z L xs S c n i hx0 hx1 hx2 hx3 hi hv _ e0 _ e1 ho⟩
theorem q_st18 (h : q_IV k S) (hk : k < 512) (hx : q_XS L i) (hF : q_RZ (q_vw 172 0 206 S)) (hv : xs i.toNatClampNeg &&& 63 = 18) : q_NX z L xs i S c n k := by
  obtain ⟨hx0, hx1, hx2, hx3, hi⟩ := hx
  have e0 := q_tUnd h.1
  exact ⟨_, _, _, q_rdn h, q_RZR (S := S) (q_rdn h) hF, Nat.le_add_right c 1, Nat.le_add_right n 6, fun o ho => q_lw18 z L xs S c n i hx0 hx1 hx2 hx3 hi hv _ e0 ho⟩
theorem q_st19 (h : q_IV k S) (hk : k < 512) (hx : q_XS L i) (hF : q_RZ (q_vw 172 0 206 S)) (hv : xs i.toNatClampNeg &&& 63 = 19) : q_NX z L xs i S c n k := by
  obtain ⟨hx0, hx1, hx2, hx3, hi⟩ := hx
  have e0 := q_tDon h.1
  exact ⟨_, _, _, q_rdn h, q_RZR (S := S) (q_rdn h) hF, Nat.le_add_right c 1, Nat.le_add_right n 6, fun o ho => q_lw19 z L xs S c n i hx0 hx1 hx2 hx3 hi hv _ e0 ho⟩
theorem q_st20 (h : q_IV k S) (hk : k < 512) (hx : q_XS L i) (hF : q_RZ (q_vw 172 0 206 S)) (hv : xs i.toNatClampNeg &&& 63 = 20) : q_NX z L xs i S c n k := by
  obtain ⟨hx0, hx1, hx2, hx3, hi⟩ := hx
  obtain ⟨b, e0, e1⟩ := q_tJam h.1 h.2
  exact ⟨_, _, _, q_rdn h, q_RZR (S := S) (q_rdn h) hF, Nat.le_add_right c 1, Nat.le_add_right n 6, fun o ho => q_lw20 z L xs S c n i hx0 hx1 hx2 hx3 hi hv _ e0 _ e1 ho⟩
theorem q_st21 (h : q_IV k S) (hk : k < 512) (hx : q_XS L i) (hF : q_RZ (q_vw 172 0 206 S)) (hv : xs i.toNatClampNeg &&& 63 = 21) : q_NX z L xs i S c n k := by
  obtain ⟨hx0, hx1, hx2, hx3, hi⟩ := hx
  obtain ⟨r0, r1, e0, e1, hN, hE, hC, hX⟩ := q_trn (ox := (some (dz_X13_64_236 (q_vw 172 0 206 S) (xs ((i + 1).toNatClampNeg))))) (F := fun m => dz_M243_64 m (xs ((i + 1).toNatClampNeg))) (cv := Int32.toInt64) (ex := True) h (fun m h1 h2 => q_tTra h1 h2 (by omega) (xs ((i + 1).toNatClampNeg))) (fun m h2 => dzj_M243_64 _ _ 40 (by omega) m h2 (xs ((i + 1).toNatClampNeg))) (fun x p => q_IVup p)
  have hP9 := q_rp21 h.1 h.2 (by omega) hF (xs ((i + 1).toNatClampNeg)) e0
  have hP8 := q_RZV (S := S) hN hP9
  have e0 := Option.some.inj e0
  exact ⟨_, _, _, hN, hP8, Nat.add_le_add_left hE c, by omega, fun o ho => q_lw21 z L xs S c n i hx0 hx1 hx2 hx3 hi hv r0 e0 r1 e1 ho⟩
theorem q_st22 (h : q_IV k S) (hk : k < 512) (hx : q_XS L i) (hF : q_RZ (q_vw 172 0 206 S)) (hv : xs i.toNatClampNeg &&& 63 = 22) : q_NX z L xs i S c n k := by
  obtain ⟨hx0, hx1, hx2, hx3, hi⟩ := hx
  obtain ⟨r0, r1, e0, e1, hN, hE, hC, hX⟩ := q_trn (ox := (some (dz_X14_64_236 (q_vw 172 0 206 S) (xs ((i + 1).toNatClampNeg)) (xs ((i + 2).toNatClampNeg))))) (F := fun m => dz_M294_64 m (xs ((i + 1).toNatClampNeg)) (xs ((i + 2).toNatClampNeg))) (cv := Int32.toInt64) (ex := True) h (fun m h1 h2 => q_tPix h1 h2 (xs ((i + 1).toNatClampNeg)) (xs ((i + 2).toNatClampNeg))) (fun m h2 => dzj_M294_64 _ _ 40 m h2 (xs ((i + 1).toNatClampNeg)) (xs ((i + 2).toNatClampNeg))) (fun x p => q_IVup p)
  have hP9 := q_rp22 h.1 h.2 (by omega) hF (xs ((i + 1).toNatClampNeg)) (xs ((i + 2).toNatClampNeg)) e0
  have hP8 := q_RZV (S := S) hN hP9
  have e0 := Option.some.inj e0
  exact ⟨_, _, _, hN, hP8, Nat.add_le_add_left hE c, by omega, fun o ho => q_lw22 z L xs S c n i hx0 hx1 hx2 hx3 hi hv r0 e0 r1 e1 ho⟩
theorem q_st23 (h : q_IV k S) (hk : k < 512) (hx : q_XS L i) (hF : q_RZ (q_vw 172 0 206 S)) (hv : xs i.toNatClampNeg &&& 63 = 23) : q_NX z L xs i S c n k := by
  obtain ⟨hx0, hx1, hx2, hx3, hi⟩ := hx
  obtain ⟨r0, r1, e0, e1, hN, hE, hC, hX⟩ := q_trn (ox := (dz_X15_64_236 (q_vw 172 0 206 S) (xs ((i + 1).toNatClampNeg)) (xs ((i + 2).toNatClampNeg)))) (F := fun m => dz_M295_64 m (xs ((i + 1).toNatClampNeg)) (xs ((i + 2).toNatClampNeg))) (cv := Int32.toInt64) (ex := False) h (fun m h1 h2 => q_tAgn h1 h2 (xs ((i + 1).toNatClampNeg)) (xs ((i + 2).toNatClampNeg))) (fun m h2 => dzj_M295_64 _ _ 40 m h2 (xs ((i + 1).toNatClampNeg)) (xs ((i + 2).toNatClampNeg))) (fun x p => q_IVup p)
  have hP9 := q_rp23 h.1 h.2 (by omega) hF (xs ((i + 1).toNatClampNeg)) (xs ((i + 2).toNatClampNeg)) e0
  have hP8 := q_RZV (S := S) hN hP9
  exact ⟨_, _, _, hN, hP8, Nat.add_le_add_left hE c, by omega, fun o ho => q_lw23 z L xs S c n i hx0 hx1 hx2 hx3 hi hv r0 e0 r1 e1 ho⟩
theorem q_st24 (h : q_IV k S) (hk : k < 512) (hx : q_XS L i) (hF : q_RZ (q_vw 172 0 206 S)) (hv : xs i.toNatClampNeg &&& 63 = 24) : q_NX z L xs i S c n k := by
  obtain ⟨hx0, hx1, hx2, hx3, hi⟩ := hx
  obtain ⟨r0, r1, e0, e1, hN, hE, hC, hX⟩ := q_trn (ox := (some (dz_X16_64_236 (q_vw 172 0 206 S) (xs ((i + 1).toNatClampNeg))))) (F := fun m => dz_M296_64 m (xs ((i + 1).toNatClampNeg))) (cv := Int32.toInt64) (ex := True) h (fun m h1 h2 => q_tSmp h1 h2 (xs ((i + 1).toNatClampNeg))) (fun m h2 => dzj_M296_64 _ _ 40 m h2 (xs ((i + 1).toNatClampNeg))) (fun x p => q_IVup p)
  have hP9 := q_rp24 h.1 h.2 (by omega) hF (xs ((i + 1).toNatClampNeg)) e0
  have hP8 := q_RZV (S := S) hN hP9
  have e0 := Option.some.inj e0
  exact ⟨_, _, _, hN, hP8, Nat.add_le_add_left hE c, by omega, fun o ho => q_lw24 z L xs S c n i hx0 hx1 hx2 hx3 hi hv r0 e0 r1 e1 ho⟩
theorem q_st25 (h : q_IV k S) (hk : k < 512) (hx : q_XS L i) (hF : q_RZ (q_vw 172 0 206 S)) (hv : xs i.toNatClampNeg &&& 63 = 25) : q_NX z L xs i S c n k := by
  obtain ⟨hx0, hx1, hx2, hx3, hi⟩ := hx
  obtain ⟨r0, r1, e0, e1, hN, hE, hC, hX⟩ := q_trn (ox := (some (dz_X17_64_236 (q_vw 172 0 206 S) (xs ((i + 1).toNatClampNeg))))) (F := fun m => dz_M297_64 m (xs ((i + 1).toNatClampNeg))) (cv := Int32.toInt64) (ex := True) h (fun m h1 h2 => q_tLvl h1 h2 (xs ((i + 1).toNatClampNeg))) (fun m h2 => dzj_M297_64 _ _ 40 m h2 (xs ((i + 1).toNatClampNeg))) (fun x p => q_IVup p)
  have hP9 := q_rp25 h.1 h.2 (by omega) hF (xs ((i + 1).toNatClampNeg)) e0
  have hP8 := q_RZV (S := S) hN hP9
  have e0 := Option.some.inj e0
  exact ⟨_, _, _, hN, hP8, Nat.add_le_add_left hE c, by omega, fun o ho => q_lw25 z L xs S c n i hx0 hx1 hx2 hx3 hi hv r0 e0 r1 e1 ho⟩
theorem q_st26t (h : q_IV k S) (hk : k < 512) (hx : q_XS L i) (hF : q_RZ (q_vw 172 0 206 S)) (hv : xs i.toNatClampNeg &&& 63 = 26) (hc0 : decide (xs ((i + 3).toNatClampNeg) = 0) = true) : q_NX z L xs i S c n k := by
  obtain ⟨hx0, hx1, hx2, hx3, hi⟩ := hx
  obtain ⟨r0, r1, e0, e1, hN, hE, hC, hX⟩ := q_trn (ox := (dz_X18_64_f_236 (q_vw 172 0 206 S) (xs ((i + 1).toNatClampNeg)) (xs ((i + 2).toNatClampNeg)))) (F := fun m => dz_M298_64 m (xs ((i + 1).toNatClampNeg)) (xs ((i + 2).toNatClampNeg)) 0) (cv := q_kb) (ex := True) h (fun m h1 h2 => q_tKeyf h1 h2 (by omega) (xs ((i + 1).toNatClampNeg)) (xs ((i + 2).toNatClampNeg))) (fun m h2 => dzj_M298_64 _ _ 40 m h2 (xs ((i + 1).toNatClampNeg)) (xs ((i + 2).toNatClampNeg)) 0 ⟨by decide, by decide⟩) (fun x p => q_IVup p)
  have hP9 := q_rp26f h.1 h.2 (by omega) hF (xs ((i + 1).toNatClampNeg)) (xs ((i + 2).toNatClampNeg)) e0
  have hP8 := q_RZV (S := S) hN hP9
  exact ⟨_, _, _, hN, hP8, Nat.add_le_add_left hE c, by omega, fun o ho => q_lw26t z L xs S c n i hx0 hx1 hx2 hx3 hi hv r0 e0 r1 e1 hc0 ho⟩
theorem q_st26f (h : q_IV k S) (hk : k < 512) (hx : q_XS L i) (hF : q_RZ (q_vw 172 0 206 S)) (hv : xs i.toNatClampNeg &&& 63 = 26) (hc0 : decide (xs ((i + 3).toNatClampNeg) = 0) = false) : q_NX z L xs i S c n k := by
  obtain ⟨hx0, hx1, hx2, hx3, hi⟩ := hx
  obtain ⟨r0, r1, e0, e1, hN, hE, hC, hX⟩ := q_trn (ox := (dz_X18_64_t_236 (q_vw 172 0 206 S) (xs ((i + 1).toNatClampNeg)) (xs ((i + 2).toNatClampNeg)))) (F := fun m => dz_M298_64 m (xs ((i + 1).toNatClampNeg)) (xs ((i + 2).toNatClampNeg)) 1) (cv := q_kb) (ex := True) h (fun m h1 h2 => q_tKeyt h1 h2 (by omega) (xs ((i + 1).toNatClampNeg)) (xs ((i + 2).toNatClampNeg))) (fun m h2 => dzj_M298_64 _ _ 40 m h2 (xs ((i + 1).toNatClampNeg)) (xs ((i + 2).toNatClampNeg)) 1 ⟨by decide, by decide⟩) (fun x p => q_IVup p)
  have hP9 := q_rp26t h.1 h.2 (by omega) hF (xs ((i + 1).toNatClampNeg)) (xs ((i + 2).toNatClampNeg)) e0
  have hP8 := q_RZV (S := S) hN hP9
  exact ⟨_, _, _, hN, hP8, Nat.add_le_add_left hE c, by omega, fun o ho => q_lw26f z L xs S c n i hx0 hx1 hx2 hx3 hi hv r0 e0 r1 e1 hc0 ho⟩
theorem q_st27 (h : q_IV k S) (hk : k < 512) (hx : q_XS L i) (hF : q_RZ (q_vw 172 0 206 S)) (hv : xs i.toNatClampNeg &&& 63 = 27) : q_NX z L xs i S c n k := by
  obtain ⟨hx0, hx1, hx2, hx3, hi⟩ := hx
  obtain ⟨r0, r1, e0, e1, hN, hE, hC, hX⟩ := q_trn (ox := (some (dz_X19_64_236 (q_vw 172 0 206 S) (xs ((i + 1).toNatClampNeg))))) (F := fun m => dz_M299_64 m (xs ((i + 1).toNatClampNeg))) (cv := Int32.toInt64) (ex := True) h (fun m h1 h2 => q_tCol h1 h2 (xs ((i + 1).toNatClampNeg))) (fun m h2 => dzj_M299_64 _ _ 40 m h2 (xs ((i + 1).toNatClampNeg))) (fun x p => q_IVup p)
  have hP9 := q_rp27 h.1 h.2 (by omega) hF (xs ((i + 1).toNatClampNeg)) e0
  have hP8 := q_RZV (S := S) hN hP9
  have e0 := Option.some.inj e0
  exact ⟨_, _, _, hN, hP8, Nat.add_le_add_left hE c, by omega, fun o ho => q_lw27 z L xs S c n i hx0 hx1 hx2 hx3 hi hv r0 e0 r1 e1 ho⟩
theorem q_st28 (h : q_IV k S) (hk : k < 512) (hx : q_XS L i) (hF : q_RZ (q_vw 172 0 206 S)) (hv : xs i.toNatClampNeg &&& 63 = 28) : q_NX z L xs i S c n k := by
  obtain ⟨hx0, hx1, hx2, hx3, hi⟩ := hx
  obtain ⟨r0, r1, e0, e1, hN, hE, hC, hX⟩ := q_trn (ox := (dz_X20_64_236 (q_vw 172 0 206 S) (xs ((i + 1).toNatClampNeg)))) (F := fun m => some (dz_M300_64 m (xs ((i + 1).toNatClampNeg)))) (cv := Int32.toInt64) (ex := True) h (fun m h1 h2 => q_tJoy h1 h2 (by omega) (xs ((i + 1).toNatClampNeg))) (fun m h2 => q_E_x (dzj_M300_64 _ _ 40 m h2 (xs ((i + 1).toNatClampNeg)))) (fun x p => q_IVup p)
  have hP9 := q_rp28 h.1 h.2 (by omega) hF (xs ((i + 1).toNatClampNeg)) e0
  have hP8 := q_RZV (S := S) hN hP9
  have e1 := Option.some.inj e1
  exact ⟨_, _, _, hN, hP8, Nat.add_le_add_left hE c, by omega, fun o ho => q_lw28 z L xs S c n i hx0 hx1 hx2 hx3 hi hv r0 e0 r1 e1 ho⟩
theorem q_st29 (h : q_IV k S) (hk : k < 512) (hx : q_XS L i) (hF : q_RZ (q_vw 172 0 206 S)) (hv : xs i.toNatClampNeg &&& 63 = 29) : q_NX z L xs i S c n k := by
  obtain ⟨hx0, hx1, hx2, hx3, hi⟩ := hx
  obtain ⟨r0, r1, e0, e1, hN, hE, hC, hX⟩ := q_trn (ox := (dz_X21_64_236 (q_vw 172 0 206 S) (xs ((i + 1).toNatClampNeg)))) (F := fun m => dz_M301_64 m (xs ((i + 1).toNatClampNeg))) (cv := Int32.toInt64) (ex := True) h (fun m h1 h2 => q_tPul h1 h2 (by omega) (xs ((i + 1).toNatClampNeg))) (fun m h2 => dzj_M301_64 _ _ 40 m h2 (xs ((i + 1).toNatClampNeg))) (fun x p => q_IVup p)
  have hP9 := q_rp29 h.1 h.2 (by omega) hF (xs ((i + 1).toNatClampNeg)) e0
  have hP8 := q_RZV (S := S) hN hP9
  exact ⟨_, _, _, hN, hP8, Nat.add_le_add_left hE c, by omega, fun o ho => q_lw29 z L xs S c n i hx0 hx1 hx2 hx3 hi hv r0 e0 r1 e1 ho⟩
end
end
