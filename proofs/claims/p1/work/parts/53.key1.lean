set_option maxRecDepth 100000 in
theorem q_kX1_0_0 : q_opX 18 [.int 0, .int 0, .int 1] 0 0 := q_opX_ck 30000 (by decide +kernel)
set_option maxRecDepth 100000 in
theorem q_kM1_0_0 : q_opM 298 [.int 0, .int 0, .int 1] 0 (.int 0) := q_opM_ck 30000 (by decide +kernel)
set_option maxRecDepth 100000 in
theorem q_kX1_0_1 : q_opX 18 [.int 0, .int 1, .int 1] 0 0 := q_opX_ck 30000 (by decide +kernel)
set_option maxRecDepth 100000 in
theorem q_kM1_0_1 : q_opM 298 [.int 0, .int 1, .int 1] 0 (.int 0) := q_opM_ck 30000 (by decide +kernel)
set_option maxRecDepth 100000 in
theorem q_kX1_0_2 : q_opX 18 [.int 0, .int 2, .int 1] 0 0 := q_opX_ck 30000 (by decide +kernel)
set_option maxRecDepth 100000 in
theorem q_kM1_0_2 : q_opM 298 [.int 0, .int 2, .int 1] 0 (.int 0) := q_opM_ck 30000 (by decide +kernel)
set_option maxRecDepth 100000 in
theorem q_kX1_0_3 : q_opX 18 [.int 0, .int 3, .int 1] 0 0 := q_opX_ck 30000 (by decide +kernel)
set_option maxRecDepth 100000 in
theorem q_kM1_0_3 : q_opM 298 [.int 0, .int 3, .int 1] 0 (.int 0) := q_opM_ck 30000 (by decide +kernel)
set_option maxRecDepth 100000 in
theorem q_kX1_1_0 : q_opX 18 [.int 1, .int 0, .int 1] 0 0 := q_opX_ck 30000 (by decide +kernel)
set_option maxRecDepth 100000 in
theorem q_kM1_1_0 : q_opM 298 [.int 1, .int 0, .int 1] 0 (.int 0) := q_opM_ck 30000 (by decide +kernel)
set_option maxRecDepth 100000 in
theorem q_kX1_1_1 : q_opX 18 [.int 1, .int 1, .int 1] 0 0 := q_opX_ck 30000 (by decide +kernel)
set_option maxRecDepth 100000 in
theorem q_kM1_1_1 : q_opM 298 [.int 1, .int 1, .int 1] 0 (.int 0) := q_opM_ck 30000 (by decide +kernel)
set_option maxRecDepth 100000 in
theorem q_kX1_1_2 : q_opX 18 [.int 1, .int 2, .int 1] 0 0 := q_opX_ck 30000 (by decide +kernel)
set_option maxRecDepth 100000 in
theorem q_kM1_1_2 : q_opM 298 [.int 1, .int 2, .int 1] 0 (.int 0) := q_opM_ck 30000 (by decide +kernel)
set_option maxRecDepth 100000 in
theorem q_kX1_1_3 : q_opX 18 [.int 1, .int 3, .int 1] 0 0 := q_opX_ck 30000 (by decide +kernel)
set_option maxRecDepth 100000 in
theorem q_kM1_1_3 : q_opM 298 [.int 1, .int 3, .int 1] 0 (.int 0) := q_opM_ck 30000 (by decide +kernel)
set_option maxRecDepth 100000 in
theorem q_kX1_2_0 : q_opX 18 [.int 2, .int 0, .int 1] 0 0 := q_opX_ck 30000 (by decide +kernel)
set_option maxRecDepth 100000 in
theorem q_kM1_2_0 : q_opM 298 [.int 2, .int 0, .int 1] 0 (.int 0) := q_opM_ck 30000 (by decide +kernel)
set_option maxRecDepth 100000 in
theorem q_kX1_2_1 : q_opX 18 [.int 2, .int 1, .int 1] 0 0 := q_opX_ck 30000 (by decide +kernel)
set_option maxRecDepth 100000 in
theorem q_kM1_2_1 : q_opM 298 [.int 2, .int 1, .int 1] 0 (.int 0) := q_opM_ck 30000 (by decide +kernel)
set_option maxRecDepth 100000 in
theorem q_kX1_2_2 : q_opX 18 [.int 2, .int 2, .int 1] 0 0 := q_opX_ck 30000 (by decide +kernel)
set_option maxRecDepth 100000 in
theorem q_kM1_2_2 : q_opM 298 [.int 2, .int 2, .int 1] 0 (.int 0) := q_opM_ck 30000 (by decide +kernel)
set_option maxRecDepth 100000 in
theorem q_kX1_2_3 : q_opX 18 [.int 2, .int 3, .int 1] 0 0 := q_opX_ck 30000 (by decide +kernel)
set_option maxRecDepth 100000 in
theorem q_kM1_2_3 : q_opM 298 [.int 2, .int 3, .int 1] 0 (.int 0) := q_opM_ck 30000 (by decide +kernel)
set_option maxRecDepth 100000 in
theorem q_kX1_3_0 : q_opX 18 [.int 3, .int 0, .int 1] 0 0 := q_opX_ck 30000 (by decide +kernel)
set_option maxRecDepth 100000 in
theorem q_kM1_3_0 : q_opM 298 [.int 3, .int 0, .int 1] 0 (.int 0) := q_opM_ck 30000 (by decide +kernel)
set_option maxRecDepth 100000 in
theorem q_kX1_3_1 : q_opX 18 [.int 3, .int 1, .int 1] 0 0 := q_opX_ck 30000 (by decide +kernel)
set_option maxRecDepth 100000 in
theorem q_kM1_3_1 : q_opM 298 [.int 3, .int 1, .int 1] 0 (.int 0) := q_opM_ck 30000 (by decide +kernel)
set_option maxRecDepth 100000 in
theorem q_kX1_3_2 : q_opX 18 [.int 3, .int 2, .int 1] 0 0 := q_opX_ck 30000 (by decide +kernel)
set_option maxRecDepth 100000 in
theorem q_kM1_3_2 : q_opM 298 [.int 3, .int 2, .int 1] 0 (.int 0) := q_opM_ck 30000 (by decide +kernel)
set_option maxRecDepth 100000 in
theorem q_kX1_3_3 : q_opX 18 [.int 3, .int 3, .int 1] 0 0 := q_opX_ck 30000 (by decide +kernel)
set_option maxRecDepth 100000 in
theorem q_kM1_3_3 : q_opM 298 [.int 3, .int 3, .int 1] 0 (.int 0) := q_opM_ck 30000 (by decide +kernel)
set_option maxHeartbeats 20000000 in
theorem q_op_key1 (a v : Int32) : ∃ (r b : Int32) (w : Int64), q_opX 18 [.int a, .int v, .int 1] r w ∧ q_opM 298 [.int a, .int v, .int 1] r (.int b) ∧ (r = 0 → w = b.toInt64) ∧ (b = 0 ∨ b = 1) := by
  cases h138 : decide (a < 0) with
  | true =>
    refine ⟨1, 0, 0, ⟨(q_cX q_AX q_IX q_J0, 40 + 1, 26520 + 6), q_J0 39, ?_, rfl, fun h => absurd h (by decide), Nat.le_of_ble_eq_true rfl, Nat.le_of_ble_eq_true rfl⟩, ⟨(q_cM q_AM (q_uI q_IM 0 39 1) q_J0, 34, 31630), _, ?_, rfl, rfl, Nat.le_of_ble_eq_true rfl, Nat.le_of_ble_eq_true rfl⟩, fun h => absurd h (by decide), Or.inl rfl⟩
    · refine q_Ca_of (Nat.le_of_ble_eq_true rfl) ?_
      refine q_Ru_seg (g2 := (7, [(0, .ref 64), (1, .int a), (2, .int v), (3, .int 1), (4, .ref 103)], [.int 1, .int v, .int a, .ref 64, .int 0, .ref 103], (q_cX q_AX q_IX q_J0, 40, 26520))) 6 (fun _ _ => rfl) ?_
      refine q_Ru_callH (E := "java/lang/IndexOutOfBoundsException") (tg := 24) (i := 5) (h2 := (q_cX q_AX q_IX q_J0, 40 + 1, 26520 + 6)) rfl rfl ?_ rfl ?_
      · refine q_Ca_of (Nat.le_of_ble_eq_true rfl) ?_
        refine q_Ru_seg (g2 := (2, [(0, .ref 64), (1, .int a), (2, .int v), (3, .int 1)], [.int 4, .int a], (q_cX q_AX q_IX q_J0, 40, 26520))) 2 (fun _ _ => rfl) ?_
        refine q_Ru_callX (E := "java/lang/IndexOutOfBoundsException") (h2 := (q_cX q_AX q_IX q_J0, 40 + 1, 26520 + 6)) rfl rfl ?_
        refine q_Ca_of (Nat.le_of_ble_eq_true rfl) ?_
        refine q_Ru_seg (g2 := (1, [(0, .int a), (1, .int 4)], [.int a], (q_cX q_AX q_IX q_J0, 40, 26520))) 1 (fun _ _ => rfl) ?_
        refine q_Ru_rsT (g2 := (9, [(0, .int a), (1, .int 4)], [], (q_cX q_AX q_IX q_J0, 40, 26520))) rfl rfl h138 ?_
        exact q_Ru_thr rfl rfl
      show q_Ru _ _ _ (24, [(0, .ref 64), (1, .int a), (2, .int v), (3, .int 1), (4, .ref 103)], [], (q_cX q_AX q_IX q_J0, 40 + 1, 26520 + 6)) _
      refine q_Ru_seg (g2 := (25, [(0, .ref 64), (1, .int a), (2, .int v), (3, .int 1), (4, .ref 103)], [.int 1], (q_cX q_AX q_IX q_J0, 40 + 1, 26520 + 6))) 1 (fun _ _ => rfl) ?_
      exact q_Ru_ret rfl rfl
    · refine q_Ca_of (Nat.le_of_ble_eq_true rfl) ?_
      refine q_Ru_seg (g2 := (4, [(0, .ref 64), (1, .int a), (2, .int v), (3, .int 1)], [.int 3, .int 0, .int a, .ref 64], (q_cM q_AM q_IM q_J0, 34, 31630))) 4 (fun _ _ => rfl) ?_
      refine q_Ru_call (v := (some (.int 0))) (h2 := (q_cM q_AM q_IM q_J0, 34, 31630)) rfl rfl ?_ ?_
      · refine q_Ca_of (Nat.le_of_ble_eq_true rfl) ?_
        refine q_Ru_seg (g2 := (2, [(0, .int a), (1, .int 0), (2, .int 3)], [.int 0, .int a], (q_cM q_AM q_IM q_J0, 34, 31630))) 2 (fun _ _ => rfl) ?_
        refine q_Ru_rsT (g2 := (14, [(0, .int a), (1, .int 0), (2, .int 3)], [], (q_cM q_AM q_IM q_J0, 34, 31630))) rfl rfl h138 ?_
        refine q_Ru_seg (g2 := (15, [(0, .int a), (1, .int 0), (2, .int 3)], [.int 0], (q_cM q_AM q_IM q_J0, 34, 31630))) 1 (fun _ _ => rfl) ?_
        exact q_Ru_ret rfl rfl
      show q_Ru _ _ _ (7, [(0, .ref 64), (1, .int a), (2, .int v), (3, .int 1)], [.int 0, .ref 64], (q_cM q_AM q_IM q_J0, 34, 31630)) _
      refine q_Ru_seg (g2 := (24, [(0, .ref 64), (1, .int a), (2, .int v), (3, .int 1)], [.int 1, .ref 64], (q_cM q_AM q_IM q_J0, 34, 31630))) 2 (fun _ _ => rfl) ?_
      refine q_Ru_call (v := (some (.int 1))) (h2 := (q_cM q_AM (q_uI q_IM 0 39 1) q_J0, 34, 31630)) rfl rfl ?_ ?_
      · refine q_Ca_of (Nat.le_of_ble_eq_true rfl) ?_
        refine q_Ru_seg (g2 := (14, [(0, .ref 64), (1, .int 1)], [.int 1], (q_cM q_AM (q_uI q_IM 0 39 1) q_J0, 34, 31630))) 7 (fun _ _ => rfl) ?_
        exact q_Ru_ret rfl rfl
      show q_Ru _ _ _ (27, [(0, .ref 64), (1, .int a), (2, .int v), (3, .int 1)], [.int 1], (q_cM q_AM (q_uI q_IM 0 39 1) q_J0, 34, 31630)) _
      refine q_Ru_seg (g2 := (31, [(0, .ref 64), (1, .int a), (2, .int v), (3, .int 1)], [.int 0], (q_cM q_AM (q_uI q_IM 0 39 1) q_J0, 34, 31630))) 2 (fun _ _ => rfl) ?_
      exact q_Ru_ret rfl rfl
  | false =>
    cases h139 : decide (a < 4) with
    | true =>
      cases h140 : decide (v < 0) with
      | true =>
        cases h141 : decide (3 < a) with
        | true =>
          exact q_no (q_lo2 h141) (q_hi1 h139) (by decide)
        | false =>
          refine ⟨1, 0, 0, ⟨(q_cX q_AX q_IX q_J0, 40 + 1, 26520 + 6), q_J0 39, ?_, rfl, fun h => absurd h (by decide), Nat.le_of_ble_eq_true rfl, Nat.le_of_ble_eq_true rfl⟩, ⟨(q_cM q_AM (q_uI q_IM 0 39 1) q_J0, 34, 31630), _, ?_, rfl, rfl, Nat.le_of_ble_eq_true rfl, Nat.le_of_ble_eq_true rfl⟩, fun h => absurd h (by decide), Or.inl rfl⟩
          · refine q_Ca_of (Nat.le_of_ble_eq_true rfl) ?_
            refine q_Ru_seg (g2 := (7, [(0, .ref 64), (1, .int a), (2, .int v), (3, .int 1), (4, .ref 103)], [.int 1, .int v, .int a, .ref 64, .int 0, .ref 103], (q_cX q_AX q_IX q_J0, 40, 26520))) 6 (fun _ _ => rfl) ?_
            refine q_Ru_callH (E := "java/lang/IndexOutOfBoundsException") (tg := 24) (i := 5) (h2 := (q_cX q_AX q_IX q_J0, 40 + 1, 26520 + 6)) rfl rfl ?_ rfl ?_
            · refine q_Ca_of (Nat.le_of_ble_eq_true rfl) ?_
              refine q_Ru_seg (g2 := (2, [(0, .ref 64), (1, .int a), (2, .int v), (3, .int 1)], [.int 4, .int a], (q_cX q_AX q_IX q_J0, 40, 26520))) 2 (fun _ _ => rfl) ?_
              refine q_Ru_call (v := none) (h2 := (q_cX q_AX q_IX q_J0, 40, 26520)) rfl rfl ?_ ?_
              · refine q_Ca_of (Nat.le_of_ble_eq_true rfl) ?_
                refine q_Ru_seg (g2 := (1, [(0, .int a), (1, .int 4)], [.int a], (q_cX q_AX q_IX q_J0, 40, 26520))) 1 (fun _ _ => rfl) ?_
                refine q_Ru_rsF (g2 := (4, [(0, .int a), (1, .int 4)], [], (q_cX q_AX q_IX q_J0, 40, 26520))) rfl rfl h138 ?_
                refine q_Ru_seg (g2 := (6, [(0, .int a), (1, .int 4)], [.int 4, .int a], (q_cX q_AX q_IX q_J0, 40, 26520))) 2 (fun _ _ => rfl) ?_
                refine q_Ru_rsT (g2 := (19, [(0, .int a), (1, .int 4)], [], (q_cX q_AX q_IX q_J0, 40, 26520))) rfl rfl h139 ?_
                exact q_Ru_ret rfl rfl
              show q_Ru _ _ _ (5, [(0, .ref 64), (1, .int a), (2, .int v), (3, .int 1)], [], (q_cX q_AX q_IX q_J0, 40, 26520)) _
              refine q_Ru_seg (g2 := (7, [(0, .ref 64), (1, .int a), (2, .int v), (3, .int 1)], [.int 4, .int v], (q_cX q_AX q_IX q_J0, 40, 26520))) 2 (fun _ _ => rfl) ?_
              refine q_Ru_callX (E := "java/lang/IndexOutOfBoundsException") (h2 := (q_cX q_AX q_IX q_J0, 40 + 1, 26520 + 6)) rfl rfl ?_
              refine q_Ca_of (Nat.le_of_ble_eq_true rfl) ?_
              refine q_Ru_seg (g2 := (1, [(0, .int v), (1, .int 4)], [.int v], (q_cX q_AX q_IX q_J0, 40, 26520))) 1 (fun _ _ => rfl) ?_
              refine q_Ru_rsT (g2 := (9, [(0, .int v), (1, .int 4)], [], (q_cX q_AX q_IX q_J0, 40, 26520))) rfl rfl h140 ?_
              exact q_Ru_thr rfl rfl
            show q_Ru _ _ _ (24, [(0, .ref 64), (1, .int a), (2, .int v), (3, .int 1), (4, .ref 103)], [], (q_cX q_AX q_IX q_J0, 40 + 1, 26520 + 6)) _
            refine q_Ru_seg (g2 := (25, [(0, .ref 64), (1, .int a), (2, .int v), (3, .int 1), (4, .ref 103)], [.int 1], (q_cX q_AX q_IX q_J0, 40 + 1, 26520 + 6))) 1 (fun _ _ => rfl) ?_
            exact q_Ru_ret rfl rfl
          · refine q_Ca_of (Nat.le_of_ble_eq_true rfl) ?_
            refine q_Ru_seg (g2 := (4, [(0, .ref 64), (1, .int a), (2, .int v), (3, .int 1)], [.int 3, .int 0, .int a, .ref 64], (q_cM q_AM q_IM q_J0, 34, 31630))) 4 (fun _ _ => rfl) ?_
            refine q_Ru_call (v := (some (.int 1))) (h2 := (q_cM q_AM q_IM q_J0, 34, 31630)) rfl rfl ?_ ?_
            · refine q_Ca_of (Nat.le_of_ble_eq_true rfl) ?_
              refine q_Ru_seg (g2 := (2, [(0, .int a), (1, .int 0), (2, .int 3)], [.int 0, .int a], (q_cM q_AM q_IM q_J0, 34, 31630))) 2 (fun _ _ => rfl) ?_
              refine q_Ru_rsF (g2 := (5, [(0, .int a), (1, .int 0), (2, .int 3)], [], (q_cM q_AM q_IM q_J0, 34, 31630))) rfl rfl h138 ?_
              refine q_Ru_seg (g2 := (7, [(0, .int a), (1, .int 0), (2, .int 3)], [.int 3, .int a], (q_cM q_AM q_IM q_J0, 34, 31630))) 2 (fun _ _ => rfl) ?_
              refine q_Ru_rsF (g2 := (10, [(0, .int a), (1, .int 0), (2, .int 3)], [], (q_cM q_AM q_IM q_J0, 34, 31630))) rfl rfl h141 ?_
              refine q_Ru_seg (g2 := (15, [(0, .int a), (1, .int 0), (2, .int 3)], [.int 1], (q_cM q_AM q_IM q_J0, 34, 31630))) 2 (fun _ _ => rfl) ?_
              exact q_Ru_ret rfl rfl
            show q_Ru _ _ _ (7, [(0, .ref 64), (1, .int a), (2, .int v), (3, .int 1)], [.int 1, .ref 64], (q_cM q_AM q_IM q_J0, 34, 31630)) _
            refine q_Ru_seg (g2 := (13, [(0, .ref 64), (1, .int a), (2, .int v), (3, .int 1)], [.int 3, .int 0, .int v, .ref 64], (q_cM q_AM q_IM q_J0, 34, 31630))) 4 (fun _ _ => rfl) ?_
            refine q_Ru_call (v := (some (.int 0))) (h2 := (q_cM q_AM q_IM q_J0, 34, 31630)) rfl rfl ?_ ?_
            · refine q_Ca_of (Nat.le_of_ble_eq_true rfl) ?_
              refine q_Ru_seg (g2 := (2, [(0, .int v), (1, .int 0), (2, .int 3)], [.int 0, .int v], (q_cM q_AM q_IM q_J0, 34, 31630))) 2 (fun _ _ => rfl) ?_
              refine q_Ru_rsT (g2 := (14, [(0, .int v), (1, .int 0), (2, .int 3)], [], (q_cM q_AM q_IM q_J0, 34, 31630))) rfl rfl h140 ?_
              refine q_Ru_seg (g2 := (15, [(0, .int v), (1, .int 0), (2, .int 3)], [.int 0], (q_cM q_AM q_IM q_J0, 34, 31630))) 1 (fun _ _ => rfl) ?_
              exact q_Ru_ret rfl rfl
            show q_Ru _ _ _ (16, [(0, .ref 64), (1, .int a), (2, .int v), (3, .int 1)], [.int 0, .ref 64], (q_cM q_AM q_IM q_J0, 34, 31630)) _
            refine q_Ru_seg (g2 := (24, [(0, .ref 64), (1, .int a), (2, .int v), (3, .int 1)], [.int 1, .ref 64], (q_cM q_AM q_IM q_J0, 34, 31630))) 2 (fun _ _ => rfl) ?_
            refine q_Ru_call (v := (some (.int 1))) (h2 := (q_cM q_AM (q_uI q_IM 0 39 1) q_J0, 34, 31630)) rfl rfl ?_ ?_
            · refine q_Ca_of (Nat.le_of_ble_eq_true rfl) ?_
              refine q_Ru_seg (g2 := (14, [(0, .ref 64), (1, .int 1)], [.int 1], (q_cM q_AM (q_uI q_IM 0 39 1) q_J0, 34, 31630))) 7 (fun _ _ => rfl) ?_
              exact q_Ru_ret rfl rfl
            show q_Ru _ _ _ (27, [(0, .ref 64), (1, .int a), (2, .int v), (3, .int 1)], [.int 1], (q_cM q_AM (q_uI q_IM 0 39 1) q_J0, 34, 31630)) _
            refine q_Ru_seg (g2 := (31, [(0, .ref 64), (1, .int a), (2, .int v), (3, .int 1)], [.int 0], (q_cM q_AM (q_uI q_IM 0 39 1) q_J0, 34, 31630))) 2 (fun _ _ => rfl) ?_
            exact q_Ru_ret rfl rfl
      | false =>
        cases h142 : decide (v < 4) with
        | true =>
          obtain ⟨i, hi, ei⟩ := q_en (l := 0) (n := 3) (q_lo1 h138) (q_hi1 h139)
          obtain ⟨j, hj, ej⟩ := q_en (l := 0) (n := 3) (q_lo1 h140) (q_hi1 h142)
          rw [ei, ej]
          match i, hi, j, hj with
          | 0, _, 0, _ => exact ⟨0, 0, 0, q_kX1_0_0, q_kM1_0_0, fun _ => rfl, Or.inl rfl⟩
          | 0, _, 1, _ => exact ⟨0, 0, 0, q_kX1_0_1, q_kM1_0_1, fun _ => rfl, Or.inl rfl⟩
          | 0, _, 2, _ => exact ⟨0, 0, 0, q_kX1_0_2, q_kM1_0_2, fun _ => rfl, Or.inl rfl⟩
          | 0, _, 3, _ => exact ⟨0, 0, 0, q_kX1_0_3, q_kM1_0_3, fun _ => rfl, Or.inl rfl⟩
          | 1, _, 0, _ => exact ⟨0, 0, 0, q_kX1_1_0, q_kM1_1_0, fun _ => rfl, Or.inl rfl⟩
          | 1, _, 1, _ => exact ⟨0, 0, 0, q_kX1_1_1, q_kM1_1_1, fun _ => rfl, Or.inl rfl⟩
          | 1, _, 2, _ => exact ⟨0, 0, 0, q_kX1_1_2, q_kM1_1_2, fun _ => rfl, Or.inl rfl⟩
          | 1, _, 3, _ => exact ⟨0, 0, 0, q_kX1_1_3, q_kM1_1_3, fun _ => rfl, Or.inl rfl⟩
          | 2, _, 0, _ => exact ⟨0, 0, 0, q_kX1_2_0, q_kM1_2_0, fun _ => rfl, Or.inl rfl⟩
          | 2, _, 1, _ => exact ⟨0, 0, 0, q_kX1_2_1, q_kM1_2_1, fun _ => rfl, Or.inl rfl⟩
          | 2, _, 2, _ => exact ⟨0, 0, 0, q_kX1_2_2, q_kM1_2_2, fun _ => rfl, Or.inl rfl⟩
          | 2, _, 3, _ => exact ⟨0, 0, 0, q_kX1_2_3, q_kM1_2_3, fun _ => rfl, Or.inl rfl⟩
          | 3, _, 0, _ => exact ⟨0, 0, 0, q_kX1_3_0, q_kM1_3_0, fun _ => rfl, Or.inl rfl⟩
          | 3, _, 1, _ => exact ⟨0, 0, 0, q_kX1_3_1, q_kM1_3_1, fun _ => rfl, Or.inl rfl⟩
          | 3, _, 2, _ => exact ⟨0, 0, 0, q_kX1_3_2, q_kM1_3_2, fun _ => rfl, Or.inl rfl⟩
          | 3, _, 3, _ => exact ⟨0, 0, 0, q_kX1_3_3, q_kM1_3_3, fun _ => rfl, Or.inl rfl⟩
          | i + 4, hi, _, _ => exact absurd hi (by omega)
          | _, _, j + 4, hj => exact absurd hj (by omega)
        | false =>
          cases h143 : decide (3 < a) with
          | true =>
            exact q_no (q_lo2 h143) (q_hi1 h139) (by decide)
          | false =>
            cases h144 : decide (3 < v) with
            | true =>
              refine ⟨1, 0, 0, ⟨(q_cX q_AX q_IX q_J0, 40 + 1, 26520 + 6), q_J0 39, ?_, rfl, fun h => absurd h (by decide), Nat.le_of_ble_eq_true rfl, Nat.le_of_ble_eq_true rfl⟩, ⟨(q_cM q_AM (q_uI q_IM 0 39 1) q_J0, 34, 31630), _, ?_, rfl, rfl, Nat.le_of_ble_eq_true rfl, Nat.le_of_ble_eq_true rfl⟩, fun h => absurd h (by decide), Or.inl rfl⟩
              · refine q_Ca_of (Nat.le_of_ble_eq_true rfl) ?_
                refine q_Ru_seg (g2 := (7, [(0, .ref 64), (1, .int a), (2, .int v), (3, .int 1), (4, .ref 103)], [.int 1, .int v, .int a, .ref 64, .int 0, .ref 103], (q_cX q_AX q_IX q_J0, 40, 26520))) 6 (fun _ _ => rfl) ?_
                refine q_Ru_callH (E := "java/lang/IndexOutOfBoundsException") (tg := 24) (i := 5) (h2 := (q_cX q_AX q_IX q_J0, 40 + 1, 26520 + 6)) rfl rfl ?_ rfl ?_
                · refine q_Ca_of (Nat.le_of_ble_eq_true rfl) ?_
                  refine q_Ru_seg (g2 := (2, [(0, .ref 64), (1, .int a), (2, .int v), (3, .int 1)], [.int 4, .int a], (q_cX q_AX q_IX q_J0, 40, 26520))) 2 (fun _ _ => rfl) ?_
                  refine q_Ru_call (v := none) (h2 := (q_cX q_AX q_IX q_J0, 40, 26520)) rfl rfl ?_ ?_
                  · refine q_Ca_of (Nat.le_of_ble_eq_true rfl) ?_
                    refine q_Ru_seg (g2 := (1, [(0, .int a), (1, .int 4)], [.int a], (q_cX q_AX q_IX q_J0, 40, 26520))) 1 (fun _ _ => rfl) ?_
                    refine q_Ru_rsF (g2 := (4, [(0, .int a), (1, .int 4)], [], (q_cX q_AX q_IX q_J0, 40, 26520))) rfl rfl h138 ?_
                    refine q_Ru_seg (g2 := (6, [(0, .int a), (1, .int 4)], [.int 4, .int a], (q_cX q_AX q_IX q_J0, 40, 26520))) 2 (fun _ _ => rfl) ?_
                    refine q_Ru_rsT (g2 := (19, [(0, .int a), (1, .int 4)], [], (q_cX q_AX q_IX q_J0, 40, 26520))) rfl rfl h139 ?_
                    exact q_Ru_ret rfl rfl
                  show q_Ru _ _ _ (5, [(0, .ref 64), (1, .int a), (2, .int v), (3, .int 1)], [], (q_cX q_AX q_IX q_J0, 40, 26520)) _
                  refine q_Ru_seg (g2 := (7, [(0, .ref 64), (1, .int a), (2, .int v), (3, .int 1)], [.int 4, .int v], (q_cX q_AX q_IX q_J0, 40, 26520))) 2 (fun _ _ => rfl) ?_
                  refine q_Ru_callX (E := "java/lang/IndexOutOfBoundsException") (h2 := (q_cX q_AX q_IX q_J0, 40 + 1, 26520 + 6)) rfl rfl ?_
                  refine q_Ca_of (Nat.le_of_ble_eq_true rfl) ?_
                  refine q_Ru_seg (g2 := (1, [(0, .int v), (1, .int 4)], [.int v], (q_cX q_AX q_IX q_J0, 40, 26520))) 1 (fun _ _ => rfl) ?_
                  refine q_Ru_rsF (g2 := (4, [(0, .int v), (1, .int 4)], [], (q_cX q_AX q_IX q_J0, 40, 26520))) rfl rfl h140 ?_
                  refine q_Ru_seg (g2 := (6, [(0, .int v), (1, .int 4)], [.int 4, .int v], (q_cX q_AX q_IX q_J0, 40, 26520))) 2 (fun _ _ => rfl) ?_
                  refine q_Ru_rsF (g2 := (9, [(0, .int v), (1, .int 4)], [], (q_cX q_AX q_IX q_J0, 40, 26520))) rfl rfl h142 ?_
                  exact q_Ru_thr rfl rfl
                show q_Ru _ _ _ (24, [(0, .ref 64), (1, .int a), (2, .int v), (3, .int 1), (4, .ref 103)], [], (q_cX q_AX q_IX q_J0, 40 + 1, 26520 + 6)) _
                refine q_Ru_seg (g2 := (25, [(0, .ref 64), (1, .int a), (2, .int v), (3, .int 1), (4, .ref 103)], [.int 1], (q_cX q_AX q_IX q_J0, 40 + 1, 26520 + 6))) 1 (fun _ _ => rfl) ?_
                exact q_Ru_ret rfl rfl
              · refine q_Ca_of (Nat.le_of_ble_eq_true rfl) ?_
                refine q_Ru_seg (g2 := (4, [(0, .ref 64), (1, .int a), (2, .int v), (3, .int 1)], [.int 3, .int 0, .int a, .ref 64], (q_cM q_AM q_IM q_J0, 34, 31630))) 4 (fun _ _ => rfl) ?_
                refine q_Ru_call (v := (some (.int 1))) (h2 := (q_cM q_AM q_IM q_J0, 34, 31630)) rfl rfl ?_ ?_
                · refine q_Ca_of (Nat.le_of_ble_eq_true rfl) ?_
                  refine q_Ru_seg (g2 := (2, [(0, .int a), (1, .int 0), (2, .int 3)], [.int 0, .int a], (q_cM q_AM q_IM q_J0, 34, 31630))) 2 (fun _ _ => rfl) ?_
                  refine q_Ru_rsF (g2 := (5, [(0, .int a), (1, .int 0), (2, .int 3)], [], (q_cM q_AM q_IM q_J0, 34, 31630))) rfl rfl h138 ?_
                  refine q_Ru_seg (g2 := (7, [(0, .int a), (1, .int 0), (2, .int 3)], [.int 3, .int a], (q_cM q_AM q_IM q_J0, 34, 31630))) 2 (fun _ _ => rfl) ?_
                  refine q_Ru_rsF (g2 := (10, [(0, .int a), (1, .int 0), (2, .int 3)], [], (q_cM q_AM q_IM q_J0, 34, 31630))) rfl rfl h143 ?_
                  refine q_Ru_seg (g2 := (15, [(0, .int a), (1, .int 0), (2, .int 3)], [.int 1], (q_cM q_AM q_IM q_J0, 34, 31630))) 2 (fun _ _ => rfl) ?_
                  exact q_Ru_ret rfl rfl
                show q_Ru _ _ _ (7, [(0, .ref 64), (1, .int a), (2, .int v), (3, .int 1)], [.int 1, .ref 64], (q_cM q_AM q_IM q_J0, 34, 31630)) _
                refine q_Ru_seg (g2 := (13, [(0, .ref 64), (1, .int a), (2, .int v), (3, .int 1)], [.int 3, .int 0, .int v, .ref 64], (q_cM q_AM q_IM q_J0, 34, 31630))) 4 (fun _ _ => rfl) ?_
                refine q_Ru_call (v := (some (.int 0))) (h2 := (q_cM q_AM q_IM q_J0, 34, 31630)) rfl rfl ?_ ?_
                · refine q_Ca_of (Nat.le_of_ble_eq_true rfl) ?_
                  refine q_Ru_seg (g2 := (2, [(0, .int v), (1, .int 0), (2, .int 3)], [.int 0, .int v], (q_cM q_AM q_IM q_J0, 34, 31630))) 2 (fun _ _ => rfl) ?_
                  refine q_Ru_rsF (g2 := (5, [(0, .int v), (1, .int 0), (2, .int 3)], [], (q_cM q_AM q_IM q_J0, 34, 31630))) rfl rfl h140 ?_
                  refine q_Ru_seg (g2 := (7, [(0, .int v), (1, .int 0), (2, .int 3)], [.int 3, .int v], (q_cM q_AM q_IM q_J0, 34, 31630))) 2 (fun _ _ => rfl) ?_
                  refine q_Ru_rsT (g2 := (14, [(0, .int v), (1, .int 0), (2, .int 3)], [], (q_cM q_AM q_IM q_J0, 34, 31630))) rfl rfl h144 ?_
                  refine q_Ru_seg (g2 := (15, [(0, .int v), (1, .int 0), (2, .int 3)], [.int 0], (q_cM q_AM q_IM q_J0, 34, 31630))) 1 (fun _ _ => rfl) ?_
                  exact q_Ru_ret rfl rfl
                show q_Ru _ _ _ (16, [(0, .ref 64), (1, .int a), (2, .int v), (3, .int 1)], [.int 0, .ref 64], (q_cM q_AM q_IM q_J0, 34, 31630)) _
                refine q_Ru_seg (g2 := (24, [(0, .ref 64), (1, .int a), (2, .int v), (3, .int 1)], [.int 1, .ref 64], (q_cM q_AM q_IM q_J0, 34, 31630))) 2 (fun _ _ => rfl) ?_
                refine q_Ru_call (v := (some (.int 1))) (h2 := (q_cM q_AM (q_uI q_IM 0 39 1) q_J0, 34, 31630)) rfl rfl ?_ ?_
                · refine q_Ca_of (Nat.le_of_ble_eq_true rfl) ?_
                  refine q_Ru_seg (g2 := (14, [(0, .ref 64), (1, .int 1)], [.int 1], (q_cM q_AM (q_uI q_IM 0 39 1) q_J0, 34, 31630))) 7 (fun _ _ => rfl) ?_
                  exact q_Ru_ret rfl rfl
                show q_Ru _ _ _ (27, [(0, .ref 64), (1, .int a), (2, .int v), (3, .int 1)], [.int 1], (q_cM q_AM (q_uI q_IM 0 39 1) q_J0, 34, 31630)) _
                refine q_Ru_seg (g2 := (31, [(0, .ref 64), (1, .int a), (2, .int v), (3, .int 1)], [.int 0], (q_cM q_AM (q_uI q_IM 0 39 1) q_J0, 34, 31630))) 2 (fun _ _ => rfl) ?_
                exact q_Ru_ret rfl rfl
            | false =>
              exact q_no (q_lo1 h142) (q_hi2 h144) (by decide)
    | false =>
      cases h145 : decide (3 < a) with
      | true =>
        refine ⟨1, 0, 0, ⟨(q_cX q_AX q_IX q_J0, 40 + 1, 26520 + 6), q_J0 39, ?_, rfl, fun h => absurd h (by decide), Nat.le_of_ble_eq_true rfl, Nat.le_of_ble_eq_true rfl⟩, ⟨(q_cM q_AM (q_uI q_IM 0 39 1) q_J0, 34, 31630), _, ?_, rfl, rfl, Nat.le_of_ble_eq_true rfl, Nat.le_of_ble_eq_true rfl⟩, fun h => absurd h (by decide), Or.inl rfl⟩
        · refine q_Ca_of (Nat.le_of_ble_eq_true rfl) ?_
          refine q_Ru_seg (g2 := (7, [(0, .ref 64), (1, .int a), (2, .int v), (3, .int 1), (4, .ref 103)], [.int 1, .int v, .int a, .ref 64, .int 0, .ref 103], (q_cX q_AX q_IX q_J0, 40, 26520))) 6 (fun _ _ => rfl) ?_
          refine q_Ru_callH (E := "java/lang/IndexOutOfBoundsException") (tg := 24) (i := 5) (h2 := (q_cX q_AX q_IX q_J0, 40 + 1, 26520 + 6)) rfl rfl ?_ rfl ?_
          · refine q_Ca_of (Nat.le_of_ble_eq_true rfl) ?_
            refine q_Ru_seg (g2 := (2, [(0, .ref 64), (1, .int a), (2, .int v), (3, .int 1)], [.int 4, .int a], (q_cX q_AX q_IX q_J0, 40, 26520))) 2 (fun _ _ => rfl) ?_
            refine q_Ru_callX (E := "java/lang/IndexOutOfBoundsException") (h2 := (q_cX q_AX q_IX q_J0, 40 + 1, 26520 + 6)) rfl rfl ?_
            refine q_Ca_of (Nat.le_of_ble_eq_true rfl) ?_
            refine q_Ru_seg (g2 := (1, [(0, .int a), (1, .int 4)], [.int a], (q_cX q_AX q_IX q_J0, 40, 26520))) 1 (fun _ _ => rfl) ?_
            refine q_Ru_rsF (g2 := (4, [(0, .int a), (1, .int 4)], [], (q_cX q_AX q_IX q_J0, 40, 26520))) rfl rfl h138 ?_
            refine q_Ru_seg (g2 := (6, [(0, .int a), (1, .int 4)], [.int 4, .int a], (q_cX q_AX q_IX q_J0, 40, 26520))) 2 (fun _ _ => rfl) ?_
            refine q_Ru_rsF (g2 := (9, [(0, .int a), (1, .int 4)], [], (q_cX q_AX q_IX q_J0, 40, 26520))) rfl rfl h139 ?_
            exact q_Ru_thr rfl rfl
          show q_Ru _ _ _ (24, [(0, .ref 64), (1, .int a), (2, .int v), (3, .int 1), (4, .ref 103)], [], (q_cX q_AX q_IX q_J0, 40 + 1, 26520 + 6)) _
          refine q_Ru_seg (g2 := (25, [(0, .ref 64), (1, .int a), (2, .int v), (3, .int 1), (4, .ref 103)], [.int 1], (q_cX q_AX q_IX q_J0, 40 + 1, 26520 + 6))) 1 (fun _ _ => rfl) ?_
          exact q_Ru_ret rfl rfl
        · refine q_Ca_of (Nat.le_of_ble_eq_true rfl) ?_
          refine q_Ru_seg (g2 := (4, [(0, .ref 64), (1, .int a), (2, .int v), (3, .int 1)], [.int 3, .int 0, .int a, .ref 64], (q_cM q_AM q_IM q_J0, 34, 31630))) 4 (fun _ _ => rfl) ?_
          refine q_Ru_call (v := (some (.int 0))) (h2 := (q_cM q_AM q_IM q_J0, 34, 31630)) rfl rfl ?_ ?_
          · refine q_Ca_of (Nat.le_of_ble_eq_true rfl) ?_
            refine q_Ru_seg (g2 := (2, [(0, .int a), (1, .int 0), (2, .int 3)], [.int 0, .int a], (q_cM q_AM q_IM q_J0, 34, 31630))) 2 (fun _ _ => rfl) ?_
            refine q_Ru_rsF (g2 := (5, [(0, .int a), (1, .int 0), (2, .int 3)], [], (q_cM q_AM q_IM q_J0, 34, 31630))) rfl rfl h138 ?_
            refine q_Ru_seg (g2 := (7, [(0, .int a), (1, .int 0), (2, .int 3)], [.int 3, .int a], (q_cM q_AM q_IM q_J0, 34, 31630))) 2 (fun _ _ => rfl) ?_
            refine q_Ru_rsT (g2 := (14, [(0, .int a), (1, .int 0), (2, .int 3)], [], (q_cM q_AM q_IM q_J0, 34, 31630))) rfl rfl h145 ?_
            refine q_Ru_seg (g2 := (15, [(0, .int a), (1, .int 0), (2, .int 3)], [.int 0], (q_cM q_AM q_IM q_J0, 34, 31630))) 1 (fun _ _ => rfl) ?_
            exact q_Ru_ret rfl rfl
          show q_Ru _ _ _ (7, [(0, .ref 64), (1, .int a), (2, .int v), (3, .int 1)], [.int 0, .ref 64], (q_cM q_AM q_IM q_J0, 34, 31630)) _
          refine q_Ru_seg (g2 := (24, [(0, .ref 64), (1, .int a), (2, .int v), (3, .int 1)], [.int 1, .ref 64], (q_cM q_AM q_IM q_J0, 34, 31630))) 2 (fun _ _ => rfl) ?_
          refine q_Ru_call (v := (some (.int 1))) (h2 := (q_cM q_AM (q_uI q_IM 0 39 1) q_J0, 34, 31630)) rfl rfl ?_ ?_
          · refine q_Ca_of (Nat.le_of_ble_eq_true rfl) ?_
            refine q_Ru_seg (g2 := (14, [(0, .ref 64), (1, .int 1)], [.int 1], (q_cM q_AM (q_uI q_IM 0 39 1) q_J0, 34, 31630))) 7 (fun _ _ => rfl) ?_
            exact q_Ru_ret rfl rfl
          show q_Ru _ _ _ (27, [(0, .ref 64), (1, .int a), (2, .int v), (3, .int 1)], [.int 1], (q_cM q_AM (q_uI q_IM 0 39 1) q_J0, 34, 31630)) _
          refine q_Ru_seg (g2 := (31, [(0, .ref 64), (1, .int a), (2, .int v), (3, .int 1)], [.int 0], (q_cM q_AM (q_uI q_IM 0 39 1) q_J0, 34, 31630))) 2 (fun _ _ => rfl) ?_
          exact q_Ru_ret rfl rfl
      | false =>
        exact q_no (q_lo1 h139) (q_hi2 h145) (by decide)
