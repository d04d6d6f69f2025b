set_option maxHeartbeats 20000000 in
theorem q_op_assemble (a v u : Int32) : ∃ (r b : Int32) (w : Int64), q_opX 5 [.int a, .int v, .int u] r w ∧ q_opM 279 [.int a, .int v, .int u] r (.int b) ∧ (r = 0 → w = b.toInt64) := by
  cases h130 : decide (a < 0) with
  | true =>
    refine ⟨1, 0, 0, ⟨(q_cX q_AX q_IX q_J0, 40 + 1, 26520 + 6), q_J0 39, ?_, rfl, fun h => absurd h (by decide), Nat.le_of_ble_eq_true rfl, Nat.le_of_ble_eq_true rfl⟩, ⟨(q_cM q_AM (q_uI q_IM 0 39 1) q_J0, 34, 31630), _, ?_, rfl, rfl, Nat.le_of_ble_eq_true rfl, Nat.le_of_ble_eq_true rfl⟩, fun h => absurd h (by decide)⟩
    · refine q_Ca_of (Nat.le_of_ble_eq_true rfl) ?_
      refine q_Ru_seg (g2 := (7, [(0, .ref 64), (1, .int a), (2, .int v), (3, .int u), (4, .ref 103)], [.int u, .int v, .int a, .ref 64, .int 0, .ref 103], (q_cX q_AX q_IX q_J0, 40, 26520))) 6 (fun _ _ => rfl) ?_
      refine q_Ru_callH (E := "java/lang/IndexOutOfBoundsException") (tg := 17) (i := 5) (h2 := (q_cX q_AX q_IX q_J0, 40 + 1, 26520 + 6)) rfl rfl ?_ rfl ?_
      · refine q_Ca_of (Nat.le_of_ble_eq_true rfl) ?_
        refine q_Ru_seg (g2 := (1, [(0, .ref 64), (1, .int a), (2, .int v), (3, .int u)], [.int a], (q_cX q_AX q_IX q_J0, 40, 26520))) 1 (fun _ _ => rfl) ?_
        refine q_Ru_callX (E := "java/lang/IndexOutOfBoundsException") (h2 := (q_cX q_AX q_IX q_J0, 40 + 1, 26520 + 6)) rfl rfl ?_
        refine q_Ca_of (Nat.le_of_ble_eq_true rfl) ?_
        refine q_Ru_seg (g2 := (4, [(0, .int a)], [.int 4096, .int a], (q_cX q_AX q_IX q_J0, 40, 26520))) 2 (fun _ _ => rfl) ?_
        refine q_Ru_callX (E := "java/lang/IndexOutOfBoundsException") (h2 := (q_cX q_AX q_IX q_J0, 40 + 1, 26520 + 6)) rfl rfl ?_
        refine q_Ca_of (Nat.le_of_ble_eq_true rfl) ?_
        refine q_Ru_seg (g2 := (1, [(0, .int a), (1, .int 4096)], [.int a], (q_cX q_AX q_IX q_J0, 40, 26520))) 1 (fun _ _ => rfl) ?_
        refine q_Ru_rsT (g2 := (9, [(0, .int a), (1, .int 4096)], [], (q_cX q_AX q_IX q_J0, 40, 26520))) rfl rfl h130 ?_
        exact q_Ru_thr rfl rfl
      show q_Ru _ _ _ (17, [(0, .ref 64), (1, .int a), (2, .int v), (3, .int u), (4, .ref 103)], [], (q_cX q_AX q_IX q_J0, 40 + 1, 26520 + 6)) _
      refine q_Ru_seg (g2 := (18, [(0, .ref 64), (1, .int a), (2, .int v), (3, .int u), (4, .ref 103)], [.int 1], (q_cX q_AX q_IX q_J0, 40 + 1, 26520 + 6))) 1 (fun _ _ => rfl) ?_
      exact q_Ru_ret rfl rfl
    · refine q_Ca_of (Nat.le_of_ble_eq_true rfl) ?_
      refine q_Ru_seg (g2 := (2, [(0, .ref 64), (1, .int a), (2, .int v), (3, .int u)], [.int a, .ref 64], (q_cM q_AM q_IM q_J0, 34, 31630))) 2 (fun _ _ => rfl) ?_
      refine q_Ru_call (v := (some (.int 1))) (h2 := (q_cM q_AM q_IM q_J0, 34, 31630)) rfl rfl ?_ ?_
      · refine q_Ca_of (Nat.le_of_ble_eq_true rfl) ?_
        refine q_Ru_seg (g2 := (5, [(0, .int a)], [.int 4095, .int 0, .int a], (q_cM q_AM q_IM q_J0, 34, 31630))) 3 (fun _ _ => rfl) ?_
        refine q_Ru_call (v := (some (.int 0))) (h2 := (q_cM q_AM q_IM q_J0, 34, 31630)) rfl rfl ?_ ?_
        · refine q_Ca_of (Nat.le_of_ble_eq_true rfl) ?_
          refine q_Ru_seg (g2 := (2, [(0, .int a), (1, .int 0), (2, .int 4095)], [.int 0, .int a], (q_cM q_AM q_IM q_J0, 34, 31630))) 2 (fun _ _ => rfl) ?_
          refine q_Ru_rsT (g2 := (14, [(0, .int a), (1, .int 0), (2, .int 4095)], [], (q_cM q_AM q_IM q_J0, 34, 31630))) rfl rfl h130 ?_
          refine q_Ru_seg (g2 := (15, [(0, .int a), (1, .int 0), (2, .int 4095)], [.int 0], (q_cM q_AM q_IM q_J0, 34, 31630))) 1 (fun _ _ => rfl) ?_
          exact q_Ru_ret rfl rfl
        show q_Ru _ _ _ (8, [(0, .int a)], [.int 0], (q_cM q_AM q_IM q_J0, 34, 31630)) _
        refine q_Ru_seg (g2 := (16, [(0, .int a)], [.int 1], (q_cM q_AM q_IM q_J0, 34, 31630))) 3 (fun _ _ => rfl) ?_
        exact q_Ru_ret rfl rfl
      show q_Ru _ _ _ (5, [(0, .ref 64), (1, .int a), (2, .int v), (3, .int u)], [.int 1, .ref 64], (q_cM q_AM q_IM q_J0, 34, 31630)) _
      refine q_Ru_seg (g2 := (53, [(0, .ref 64), (1, .int a), (2, .int v), (3, .int u)], [.int 1, .ref 64], (q_cM q_AM q_IM q_J0, 34, 31630))) 3 (fun _ _ => rfl) ?_
      refine q_Ru_call (v := (some (.int 1))) (h2 := (q_cM q_AM (q_uI q_IM 0 39 1) q_J0, 34, 31630)) rfl rfl ?_ ?_
      · refine q_Ca_of (Nat.le_of_ble_eq_true rfl) ?_
        refine q_Ru_seg (g2 := (14, [(0, .ref 64), (1, .int 1)], [.int 1], (q_cM q_AM (q_uI q_IM 0 39 1) q_J0, 34, 31630))) 7 (fun _ _ => rfl) ?_
        exact q_Ru_ret rfl rfl
      show q_Ru _ _ _ (56, [(0, .ref 64), (1, .int a), (2, .int v), (3, .int u)], [.int 1], (q_cM q_AM (q_uI q_IM 0 39 1) q_J0, 34, 31630)) _
      refine q_Ru_seg (g2 := (60, [(0, .ref 64), (1, .int a), (2, .int v), (3, .int u)], [.int 0], (q_cM q_AM (q_uI q_IM 0 39 1) q_J0, 34, 31630))) 2 (fun _ _ => rfl) ?_
      exact q_Ru_ret rfl rfl
  | false =>
    cases h131 : decide (a < 4096) with
    | true =>
      cases h132 : decide (v < 0) with
      | true =>
        cases h133 : decide (4095 < a) with
        | true =>
          exact q_no (q_lo2 h133) (q_hi1 h131) (by decide)
        | false =>
          refine ⟨2, 0, 0, ⟨(q_cX q_AX q_IX q_J0, 40 + 1, 26520 + 6), q_J0 39, ?_, rfl, fun h => absurd h (by decide), Nat.le_of_ble_eq_true rfl, Nat.le_of_ble_eq_true rfl⟩, ⟨(q_cM q_AM (q_uI q_IM 0 39 2) q_J0, 34, 31630), _, ?_, rfl, rfl, Nat.le_of_ble_eq_true rfl, Nat.le_of_ble_eq_true rfl⟩, fun h => absurd h (by decide)⟩
          · refine q_Ca_of (Nat.le_of_ble_eq_true rfl) ?_
            refine q_Ru_seg (g2 := (7, [(0, .ref 64), (1, .int a), (2, .int v), (3, .int u), (4, .ref 103)], [.int u, .int v, .int a, .ref 64, .int 0, .ref 103], (q_cX q_AX q_IX q_J0, 40, 26520))) 6 (fun _ _ => rfl) ?_
            refine q_Ru_callH (E := "java/lang/IllegalArgumentException") (tg := 21) (i := 5) (h2 := (q_cX q_AX q_IX q_J0, 40 + 1, 26520 + 6)) rfl rfl ?_ rfl ?_
            · refine q_Ca_of (Nat.le_of_ble_eq_true rfl) ?_
              refine q_Ru_seg (g2 := (1, [(0, .ref 64), (1, .int a), (2, .int v), (3, .int u)], [.int a], (q_cX q_AX q_IX q_J0, 40, 26520))) 1 (fun _ _ => rfl) ?_
              refine q_Ru_call (v := none) (h2 := (q_cX q_AX q_IX q_J0, 40, 26520)) rfl rfl ?_ ?_
              · refine q_Ca_of (Nat.le_of_ble_eq_true rfl) ?_
                refine q_Ru_seg (g2 := (4, [(0, .int a)], [.int 4096, .int a], (q_cX q_AX q_IX q_J0, 40, 26520))) 2 (fun _ _ => rfl) ?_
                refine q_Ru_call (v := none) (h2 := (q_cX q_AX q_IX q_J0, 40, 26520)) rfl rfl ?_ ?_
                · refine q_Ca_of (Nat.le_of_ble_eq_true rfl) ?_
                  refine q_Ru_seg (g2 := (1, [(0, .int a), (1, .int 4096)], [.int a], (q_cX q_AX q_IX q_J0, 40, 26520))) 1 (fun _ _ => rfl) ?_
                  refine q_Ru_rsF (g2 := (4, [(0, .int a), (1, .int 4096)], [], (q_cX q_AX q_IX q_J0, 40, 26520))) rfl rfl h130 ?_
                  refine q_Ru_seg (g2 := (6, [(0, .int a), (1, .int 4096)], [.int 4096, .int a], (q_cX q_AX q_IX q_J0, 40, 26520))) 2 (fun _ _ => rfl) ?_
                  refine q_Ru_rsT (g2 := (19, [(0, .int a), (1, .int 4096)], [], (q_cX q_AX q_IX q_J0, 40, 26520))) rfl rfl h131 ?_
                  exact q_Ru_ret rfl rfl
                show q_Ru _ _ _ (7, [(0, .int a)], [], (q_cX q_AX q_IX q_J0, 40, 26520)) _
                exact q_Ru_ret rfl rfl
              show q_Ru _ _ _ (4, [(0, .ref 64), (1, .int a), (2, .int v), (3, .int u)], [], (q_cX q_AX q_IX q_J0, 40, 26520)) _
              refine q_Ru_seg (g2 := (5, [(0, .ref 64), (1, .int a), (2, .int v), (3, .int u)], [.int v], (q_cX q_AX q_IX q_J0, 40, 26520))) 1 (fun _ _ => rfl) ?_
              refine q_Ru_callX (E := "java/lang/IllegalArgumentException") (h2 := (q_cX q_AX q_IX q_J0, 40 + 1, 26520 + 6)) rfl rfl ?_
              refine q_Ca_of (Nat.le_of_ble_eq_true rfl) ?_
              refine q_Ru_seg (g2 := (5, [(0, .int v)], [.int 255, .int 0, .int v], (q_cX q_AX q_IX q_J0, 40, 26520))) 3 (fun _ _ => rfl) ?_
              refine q_Ru_callX (E := "java/lang/IllegalArgumentException") (h2 := (q_cX q_AX q_IX q_J0, 40 + 1, 26520 + 6)) rfl rfl ?_
              refine q_Ca_of (Nat.le_of_ble_eq_true rfl) ?_
              refine q_Ru_seg (g2 := (2, [(0, .int v), (1, .int 0), (2, .int 255)], [.int 0, .int v], (q_cX q_AX q_IX q_J0, 40, 26520))) 2 (fun _ _ => rfl) ?_
              refine q_Ru_rsT (g2 := (10, [(0, .int v), (1, .int 0), (2, .int 255)], [], (q_cX q_AX q_IX q_J0, 40, 26520))) rfl rfl h132 ?_
              exact q_Ru_thr rfl rfl
            show q_Ru _ _ _ (21, [(0, .ref 64), (1, .int a), (2, .int v), (3, .int u), (4, .ref 103)], [], (q_cX q_AX q_IX q_J0, 40 + 1, 26520 + 6)) _
            refine q_Ru_seg (g2 := (22, [(0, .ref 64), (1, .int a), (2, .int v), (3, .int u), (4, .ref 103)], [.int 2], (q_cX q_AX q_IX q_J0, 40 + 1, 26520 + 6))) 1 (fun _ _ => rfl) ?_
            exact q_Ru_ret rfl rfl
          · refine q_Ca_of (Nat.le_of_ble_eq_true rfl) ?_
            refine q_Ru_seg (g2 := (2, [(0, .ref 64), (1, .int a), (2, .int v), (3, .int u)], [.int a, .ref 64], (q_cM q_AM q_IM q_J0, 34, 31630))) 2 (fun _ _ => rfl) ?_
            refine q_Ru_call (v := (some (.int 0))) (h2 := (q_cM q_AM q_IM q_J0, 34, 31630)) rfl rfl ?_ ?_
            · refine q_Ca_of (Nat.le_of_ble_eq_true rfl) ?_
              refine q_Ru_seg (g2 := (5, [(0, .int a)], [.int 4095, .int 0, .int a], (q_cM q_AM q_IM q_J0, 34, 31630))) 3 (fun _ _ => rfl) ?_
              refine q_Ru_call (v := (some (.int 1))) (h2 := (q_cM q_AM q_IM q_J0, 34, 31630)) rfl rfl ?_ ?_
              · refine q_Ca_of (Nat.le_of_ble_eq_true rfl) ?_
                refine q_Ru_seg (g2 := (2, [(0, .int a), (1, .int 0), (2, .int 4095)], [.int 0, .int a], (q_cM q_AM q_IM q_J0, 34, 31630))) 2 (fun _ _ => rfl) ?_
                refine q_Ru_rsF (g2 := (5, [(0, .int a), (1, .int 0), (2, .int 4095)], [], (q_cM q_AM q_IM q_J0, 34, 31630))) rfl rfl h130 ?_
                refine q_Ru_seg (g2 := (7, [(0, .int a), (1, .int 0), (2, .int 4095)], [.int 4095, .int a], (q_cM q_AM q_IM q_J0, 34, 31630))) 2 (fun _ _ => rfl) ?_
                refine q_Ru_rsF (g2 := (10, [(0, .int a), (1, .int 0), (2, .int 4095)], [], (q_cM q_AM q_IM q_J0, 34, 31630))) rfl rfl h133 ?_
                refine q_Ru_seg (g2 := (15, [(0, .int a), (1, .int 0), (2, .int 4095)], [.int 1], (q_cM q_AM q_IM q_J0, 34, 31630))) 2 (fun _ _ => rfl) ?_
                exact q_Ru_ret rfl rfl
              show q_Ru _ _ _ (8, [(0, .int a)], [.int 1], (q_cM q_AM q_IM q_J0, 34, 31630)) _
              refine q_Ru_seg (g2 := (16, [(0, .int a)], [.int 0], (q_cM q_AM q_IM q_J0, 34, 31630))) 2 (fun _ _ => rfl) ?_
              exact q_Ru_ret rfl rfl
            show q_Ru _ _ _ (5, [(0, .ref 64), (1, .int a), (2, .int v), (3, .int u)], [.int 0, .ref 64], (q_cM q_AM q_IM q_J0, 34, 31630)) _
            refine q_Ru_seg (g2 := (13, [(0, .ref 64), (1, .int a), (2, .int v), (3, .int u)], [.int v, .ref 64], (q_cM q_AM q_IM q_J0, 34, 31630))) 2 (fun _ _ => rfl) ?_
            refine q_Ru_call (v := (some (.int 1))) (h2 := (q_cM q_AM q_IM q_J0, 34, 31630)) rfl rfl ?_ ?_
            · refine q_Ca_of (Nat.le_of_ble_eq_true rfl) ?_
              refine q_Ru_seg (g2 := (5, [(0, .int v)], [.int 255, .int 0, .int v], (q_cM q_AM q_IM q_J0, 34, 31630))) 3 (fun _ _ => rfl) ?_
              refine q_Ru_call (v := (some (.int 0))) (h2 := (q_cM q_AM q_IM q_J0, 34, 31630)) rfl rfl ?_ ?_
              · refine q_Ca_of (Nat.le_of_ble_eq_true rfl) ?_
                refine q_Ru_seg (g2 := (2, [(0, .int v), (1, .int 0), (2, .int 255)], [.int 0, .int v], (q_cM q_AM q_IM q_J0, 34, 31630))) 2 (fun _ _ => rfl) ?_
                refine q_Ru_rsT (g2 := (14, [(0, .int v), (1, .int 0), (2, .int 255)], [], (q_cM q_AM q_IM q_J0, 34, 31630))) rfl rfl h132 ?_
                refine q_Ru_seg (g2 := (15, [(0, .int v), (1, .int 0), (2, .int 255)], [.int 0], (q_cM q_AM q_IM q_J0, 34, 31630))) 1 (fun _ _ => rfl) ?_
                exact q_Ru_ret rfl rfl
              show q_Ru _ _ _ (8, [(0, .int v)], [.int 0], (q_cM q_AM q_IM q_J0, 34, 31630)) _
              refine q_Ru_seg (g2 := (16, [(0, .int v)], [.int 1], (q_cM q_AM q_IM q_J0, 34, 31630))) 3 (fun _ _ => rfl) ?_
              exact q_Ru_ret rfl rfl
            show q_Ru _ _ _ (16, [(0, .ref 64), (1, .int a), (2, .int v), (3, .int u)], [.int 1, .ref 64], (q_cM q_AM q_IM q_J0, 34, 31630)) _
            refine q_Ru_seg (g2 := (53, [(0, .ref 64), (1, .int a), (2, .int v), (3, .int u)], [.int 2, .ref 64], (q_cM q_AM q_IM q_J0, 34, 31630))) 3 (fun _ _ => rfl) ?_
            refine q_Ru_call (v := (some (.int 1))) (h2 := (q_cM q_AM (q_uI q_IM 0 39 2) q_J0, 34, 31630)) rfl rfl ?_ ?_
            · refine q_Ca_of (Nat.le_of_ble_eq_true rfl) ?_
              refine q_Ru_seg (g2 := (14, [(0, .ref 64), (1, .int 2)], [.int 1], (q_cM q_AM (q_uI q_IM 0 39 2) q_J0, 34, 31630))) 7 (fun _ _ => rfl) ?_
              exact q_Ru_ret rfl rfl
            show q_Ru _ _ _ (56, [(0, .ref 64), (1, .int a), (2, .int v), (3, .int u)], [.int 1], (q_cM q_AM (q_uI q_IM 0 39 2) q_J0, 34, 31630)) _
            refine q_Ru_seg (g2 := (60, [(0, .ref 64), (1, .int a), (2, .int v), (3, .int u)], [.int 0], (q_cM q_AM (q_uI q_IM 0 39 2) q_J0, 34, 31630))) 2 (fun _ _ => rfl) ?_
            exact q_Ru_ret rfl rfl
      | false =>
        cases h134 : decide (255 < v) with
        | true =>
          cases h135 : decide (4095 < a) with
          | true =>
            exact q_no (q_lo2 h135) (q_hi1 h131) (by decide)
          | false =>
            refine ⟨2, 0, 0, ⟨(q_cX q_AX q_IX q_J0, 40 + 1, 26520 + 6), q_J0 39, ?_, rfl, fun h => absurd h (by decide), Nat.le_of_ble_eq_true rfl, Nat.le_of_ble_eq_true rfl⟩, ⟨(q_cM q_AM (q_uI q_IM 0 39 2) q_J0, 34, 31630), _, ?_, rfl, rfl, Nat.le_of_ble_eq_true rfl, Nat.le_of_ble_eq_true rfl⟩, fun h => absurd h (by decide)⟩
            · refine q_Ca_of (Nat.le_of_ble_eq_true rfl) ?_
              refine q_Ru_seg (g2 := (7, [(0, .ref 64), (1, .int a), (2, .int v), (3, .int u), (4, .ref 103)], [.int u, .int v, .int a, .ref 64, .int 0, .ref 103], (q_cX q_AX q_IX q_J0, 40, 26520))) 6 (fun _ _ => rfl) ?_
              refine q_Ru_callH (E := "java/lang/IllegalArgumentException") (tg := 21) (i := 5) (h2 := (q_cX q_AX q_IX q_J0, 40 + 1, 26520 + 6)) rfl rfl ?_ rfl ?_
              · refine q_Ca_of (Nat.le_of_ble_eq_true rfl) ?_
                refine q_Ru_seg (g2 := (1, [(0, .ref 64), (1, .int a), (2, .int v), (3, .int u)], [.int a], (q_cX q_AX q_IX q_J0, 40, 26520))) 1 (fun _ _ => rfl) ?_
                refine q_Ru_call (v := none) (h2 := (q_cX q_AX q_IX q_J0, 40, 26520)) rfl rfl ?_ ?_
                · refine q_Ca_of (Nat.le_of_ble_eq_true rfl) ?_
                  refine q_Ru_seg (g2 := (4, [(0, .int a)], [.int 4096, .int a], (q_cX q_AX q_IX q_J0, 40, 26520))) 2 (fun _ _ => rfl) ?_
                  refine q_Ru_call (v := none) (h2 := (q_cX q_AX q_IX q_J0, 40, 26520)) rfl rfl ?_ ?_
                  · refine q_Ca_of (Nat.le_of_ble_eq_true rfl) ?_
                    refine q_Ru_seg (g2 := (1, [(0, .int a), (1, .int 4096)], [.int a], (q_cX q_AX q_IX q_J0, 40, 26520))) 1 (fun _ _ => rfl) ?_
                    refine q_Ru_rsF (g2 := (4, [(0, .int a), (1, .int 4096)], [], (q_cX q_AX q_IX q_J0, 40, 26520))) rfl rfl h130 ?_
                    refine q_Ru_seg (g2 := (6, [(0, .int a), (1, .int 4096)], [.int 4096, .int a], (q_cX q_AX q_IX q_J0, 40, 26520))) 2 (fun _ _ => rfl) ?_
                    refine q_Ru_rsT (g2 := (19, [(0, .int a), (1, .int 4096)], [], (q_cX q_AX q_IX q_J0, 40, 26520))) rfl rfl h131 ?_
                    exact q_Ru_ret rfl rfl
                  show q_Ru _ _ _ (7, [(0, .int a)], [], (q_cX q_AX q_IX q_J0, 40, 26520)) _
                  exact q_Ru_ret rfl rfl
                show q_Ru _ _ _ (4, [(0, .ref 64), (1, .int a), (2, .int v), (3, .int u)], [], (q_cX q_AX q_IX q_J0, 40, 26520)) _
                refine q_Ru_seg (g2 := (5, [(0, .ref 64), (1, .int a), (2, .int v), (3, .int u)], [.int v], (q_cX q_AX q_IX q_J0, 40, 26520))) 1 (fun _ _ => rfl) ?_
                refine q_Ru_callX (E := "java/lang/IllegalArgumentException") (h2 := (q_cX q_AX q_IX q_J0, 40 + 1, 26520 + 6)) rfl rfl ?_
                refine q_Ca_of (Nat.le_of_ble_eq_true rfl) ?_
                refine q_Ru_seg (g2 := (5, [(0, .int v)], [.int 255, .int 0, .int v], (q_cX q_AX q_IX q_J0, 40, 26520))) 3 (fun _ _ => rfl) ?_
                refine q_Ru_callX (E := "java/lang/IllegalArgumentException") (h2 := (q_cX q_AX q_IX q_J0, 40 + 1, 26520 + 6)) rfl rfl ?_
                refine q_Ca_of (Nat.le_of_ble_eq_true rfl) ?_
                refine q_Ru_seg (g2 := (2, [(0, .int v), (1, .int 0), (2, .int 255)], [.int 0, .int v], (q_cX q_AX q_IX q_J0, 40, 26520))) 2 (fun _ _ => rfl) ?_
                refine q_Ru_rsF (g2 := (5, [(0, .int v), (1, .int 0), (2, .int 255)], [], (q_cX q_AX q_IX q_J0, 40, 26520))) rfl rfl h132 ?_
                refine q_Ru_seg (g2 := (7, [(0, .int v), (1, .int 0), (2, .int 255)], [.int 255, .int v], (q_cX q_AX q_IX q_J0, 40, 26520))) 2 (fun _ _ => rfl) ?_
                refine q_Ru_rsF (g2 := (10, [(0, .int v), (1, .int 0), (2, .int 255)], [], (q_cX q_AX q_IX q_J0, 40, 26520))) rfl rfl (q_d_geT h134) ?_
                exact q_Ru_thr rfl rfl
              show q_Ru _ _ _ (21, [(0, .ref 64), (1, .int a), (2, .int v), (3, .int u), (4, .ref 103)], [], (q_cX q_AX q_IX q_J0, 40 + 1, 26520 + 6)) _
              refine q_Ru_seg (g2 := (22, [(0, .ref 64), (1, .int a), (2, .int v), (3, .int u), (4, .ref 103)], [.int 2], (q_cX q_AX q_IX q_J0, 40 + 1, 26520 + 6))) 1 (fun _ _ => rfl) ?_
              exact q_Ru_ret rfl rfl
            · refine q_Ca_of (Nat.le_of_ble_eq_true rfl) ?_
              refine q_Ru_seg (g2 := (2, [(0, .ref 64), (1, .int a), (2, .int v), (3, .int u)], [.int a, .ref 64], (q_cM q_AM q_IM q_J0, 34, 31630))) 2 (fun _ _ => rfl) ?_
              refine q_Ru_call (v := (some (.int 0))) (h2 := (q_cM q_AM q_IM q_J0, 34, 31630)) rfl rfl ?_ ?_
              · refine q_Ca_of (Nat.le_of_ble_eq_true rfl) ?_
                refine q_Ru_seg (g2 := (5, [(0, .int a)], [.int 4095, .int 0, .int a], (q_cM q_AM q_IM q_J0, 34, 31630))) 3 (fun _ _ => rfl) ?_
                refine q_Ru_call (v := (some (.int 1))) (h2 := (q_cM q_AM q_IM q_J0, 34, 31630)) rfl rfl ?_ ?_
                · refine q_Ca_of (Nat.le_of_ble_eq_true rfl) ?_
                  refine q_Ru_seg (g2 := (2, [(0, .int a), (1, .int 0), (2, .int 4095)], [.int 0, .int a], (q_cM q_AM q_IM q_J0, 34, 31630))) 2 (fun _ _ => rfl) ?_
                  refine q_Ru_rsF (g2 := (5, [(0, .int a), (1, .int 0), (2, .int 4095)], [], (q_cM q_AM q_IM q_J0, 34, 31630))) rfl rfl h130 ?_
                  refine q_Ru_seg (g2 := (7, [(0, .int a), (1, .int 0), (2, .int 4095)], [.int 4095, .int a], (q_cM q_AM q_IM q_J0, 34, 31630))) 2 (fun _ _ => rfl) ?_
                  refine q_Ru_rsF (g2 := (10, [(0, .int a), (1, .int 0), (2, .int 4095)], [], (q_cM q_AM q_IM q_J0, 34, 31630))) rfl rfl h135 ?_
                  refine q_Ru_seg (g2 := (15, [(0, .int a), (1, .int 0), (2, .int 4095)], [.int 1], (q_cM q_AM q_IM q_J0, 34, 31630))) 2 (fun _ _ => rfl) ?_
                  exact q_Ru_ret rfl rfl
                show q_Ru _ _ _ (8, [(0, .int a)], [.int 1], (q_cM q_AM q_IM q_J0, 34, 31630)) _
                refine q_Ru_seg (g2 := (16, [(0, .int a)], [.int 0], (q_cM q_AM q_IM q_J0, 34, 31630))) 2 (fun _ _ => rfl) ?_
                exact q_Ru_ret rfl rfl
              show q_Ru _ _ _ (5, [(0, .ref 64), (1, .int a), (2, .int v), (3, .int u)], [.int 0, .ref 64], (q_cM q_AM q_IM q_J0, 34, 31630)) _
              refine q_Ru_seg (g2 := (13, [(0, .ref 64), (1, .int a), (2, .int v), (3, .int u)], [.int v, .ref 64], (q_cM q_AM q_IM q_J0, 34, 31630))) 2 (fun _ _ => rfl) ?_
              refine q_Ru_call (v := (some (.int 1))) (h2 := (q_cM q_AM q_IM q_J0, 34, 31630)) rfl rfl ?_ ?_
              · refine q_Ca_of (Nat.le_of_ble_eq_true rfl) ?_
                refine q_Ru_seg (g2 := (5, [(0, .int v)], [.int 255, .int 0, .int v], (q_cM q_AM q_IM q_J0, 34, 31630))) 3 (fun _ _ => rfl) ?_
                refine q_Ru_call (v := (some (.int 0))) (h2 := (q_cM q_AM q_IM q_J0, 34, 31630)) rfl rfl ?_ ?_
                · refine q_Ca_of (Nat.le_of_ble_eq_true rfl) ?_
                  refine q_Ru_seg (g2 := (2, [(0, .int v), (1, .int 0), (2, .int 255)], [.int 0, .int v], (q_cM q_AM q_IM q_J0, 34, 31630))) 2 (fun _ _ => rfl) ?_
                  refine q_Ru_rsF (g2 := (5, [(0, .int v), (1, .int 0), (2, .int 255)], [], (q_cM q_AM q_IM q_J0, 34, 31630))) rfl rfl h132 ?_
                  refine q_Ru_seg (g2 := (7, [(0, .int v), (1, .int 0), (2, .int 255)], [.int 255, .int v], (q_cM q_AM q_IM q_J0, 34, 31630))) 2 (fun _ _ => rfl) ?_
                  refine q_Ru_rsT (g2 := (14, [(0, .int v), (1, .int 0), (2, .int 255)], [], (q_cM q_AM q_IM q_J0, 34, 31630))) rfl rfl h134 ?_
                  refine q_Ru_seg (g2 := (15, [(0, .int v), (1, .int 0), (2, .int 255)], [.int 0], (q_cM q_AM q_IM q_J0, 34, 31630))) 1 (fun _ _ => rfl) ?_
                  exact q_Ru_ret rfl rfl
                show q_Ru _ _ _ (8, [(0, .int v)], [.int 0], (q_cM q_AM q_IM q_J0, 34, 31630)) _
                refine q_Ru_seg (g2 := (16, [(0, .int v)], [.int 1], (q_cM q_AM q_IM q_J0, 34, 31630))) 3 (fun _ _ => rfl) ?_
                exact q_Ru_ret rfl rfl
              show q_Ru _ _ _ (16, [(0, .ref 64), (1, .int a), (2, .int v), (3, .int u)], [.int 1, .ref 64], (q_cM q_AM q_IM q_J0, 34, 31630)) _
              refine q_Ru_seg (g2 := (53, [(0, .ref 64), (1, .int a), (2, .int v), (3, .int u)], [.int 2, .ref 64], (q_cM q_AM q_IM q_J0, 34, 31630))) 3 (fun _ _ => rfl) ?_
              refine q_Ru_call (v := (some (.int 1))) (h2 := (q_cM q_AM (q_uI q_IM 0 39 2) q_J0, 34, 31630)) rfl rfl ?_ ?_
              · refine q_Ca_of (Nat.le_of_ble_eq_true rfl) ?_
                refine q_Ru_seg (g2 := (14, [(0, .ref 64), (1, .int 2)], [.int 1], (q_cM q_AM (q_uI q_IM 0 39 2) q_J0, 34, 31630))) 7 (fun _ _ => rfl) ?_
                exact q_Ru_ret rfl rfl
              show q_Ru _ _ _ (56, [(0, .ref 64), (1, .int a), (2, .int v), (3, .int u)], [.int 1], (q_cM q_AM (q_uI q_IM 0 39 2) q_J0, 34, 31630)) _
              refine q_Ru_seg (g2 := (60, [(0, .ref 64), (1, .int a), (2, .int v), (3, .int u)], [.int 0], (q_cM q_AM (q_uI q_IM 0 39 2) q_J0, 34, 31630))) 2 (fun _ _ => rfl) ?_
              exact q_Ru_ret rfl rfl
        | false =>
          cases h136 : decide (u < 0) with
          | true =>
            cases h137 : decide (4095 < a) with
            | true =>
              exact q_no (q_lo2 h137) (q_hi1 h131) (by decide)
            | false =>
              rcases q_len3 (q_lo1 h132) (q_hi2 h134) with he | he | he
              · refine ⟨2, 0, 0, ⟨(q_cX q_AX q_IX q_J0, 40 + 1, 26520 + 6), q_J0 39, ?_, rfl, fun h => absurd h (by decide), Nat.le_of_ble_eq_true rfl, Nat.le_of_ble_eq_true rfl⟩, ⟨(q_cM q_AM (q_uI q_IM 0 39 2) q_J0, 34, 31630), _, ?_, rfl, rfl, Nat.le_of_ble_eq_true rfl, Nat.le_of_ble_eq_true rfl⟩, fun h => absurd h (by decide)⟩
                · refine q_Ca_of (Nat.le_of_ble_eq_true rfl) ?_
                  refine q_Ru_seg (g2 := (7, [(0, .ref 64), (1, .int a), (2, .int v), (3, .int u), (4, .ref 103)], [.int u, .int v, .int a, .ref 64, .int 0, .ref 103], (q_cX q_AX q_IX q_J0, 40, 26520))) 6 (fun _ _ => rfl) ?_
                  refine q_Ru_callH (E := "java/lang/IllegalArgumentException") (tg := 21) (i := 5) (h2 := (q_cX q_AX q_IX q_J0, 40 + 1, 26520 + 6)) rfl rfl ?_ rfl ?_
                  · refine q_Ca_of (Nat.le_of_ble_eq_true rfl) ?_
                    refine q_Ru_seg (g2 := (1, [(0, .ref 64), (1, .int a), (2, .int v), (3, .int u)], [.int a], (q_cX q_AX q_IX q_J0, 40, 26520))) 1 (fun _ _ => rfl) ?_
                    refine q_Ru_call (v := none) (h2 := (q_cX q_AX q_IX q_J0, 40, 26520)) rfl rfl ?_ ?_
                    · refine q_Ca_of (Nat.le_of_ble_eq_true rfl) ?_
                      refine q_Ru_seg (g2 := (4, [(0, .int a)], [.int 4096, .int a], (q_cX q_AX q_IX q_J0, 40, 26520))) 2 (fun _ _ => rfl) ?_
                      refine q_Ru_call (v := none) (h2 := (q_cX q_AX q_IX q_J0, 40, 26520)) rfl rfl ?_ ?_
                      · refine q_Ca_of (Nat.le_of_ble_eq_true rfl) ?_
                        refine q_Ru_seg (g2 := (1, [(0, .int a), (1, .int 4096)], [.int a], (q_cX q_AX q_IX q_J0, 40, 26520))) 1 (fun _ _ => rfl) ?_
                        refine q_Ru_rsF (g2 := (4, [(0, .int a), (1, .int 4096)], [], (q_cX q_AX q_IX q_J0, 40, 26520))) rfl rfl h130 ?_
                        refine q_Ru_seg (g2 := (6, [(0, .int a), (1, .int 4096)], [.int 4096, .int a], (q_cX q_AX q_IX q_J0, 40, 26520))) 2 (fun _ _ => rfl) ?_
                        refine q_Ru_rsT (g2 := (19, [(0, .int a), (1, .int 4096)], [], (q_cX q_AX q_IX q_J0, 40, 26520))) rfl rfl h131 ?_
                        exact q_Ru_ret rfl rfl
                      show q_Ru _ _ _ (7, [(0, .int a)], [], (q_cX q_AX q_IX q_J0, 40, 26520)) _
                      exact q_Ru_ret rfl rfl
                    show q_Ru _ _ _ (4, [(0, .ref 64), (1, .int a), (2, .int v), (3, .int u)], [], (q_cX q_AX q_IX q_J0, 40, 26520)) _
                    refine q_Ru_seg (g2 := (5, [(0, .ref 64), (1, .int a), (2, .int v), (3, .int u)], [.int v], (q_cX q_AX q_IX q_J0, 40, 26520))) 1 (fun _ _ => rfl) ?_
                    refine q_Ru_call (v := none) (h2 := (q_cX q_AX q_IX q_J0, 40, 26520)) rfl rfl ?_ ?_
                    · refine q_Ca_of (Nat.le_of_ble_eq_true rfl) ?_
                      refine q_Ru_seg (g2 := (5, [(0, .int v)], [.int 255, .int 0, .int v], (q_cX q_AX q_IX q_J0, 40, 26520))) 3 (fun _ _ => rfl) ?_
                      refine q_Ru_call (v := none) (h2 := (q_cX q_AX q_IX q_J0, 40, 26520)) rfl rfl ?_ ?_
                      · refine q_Ca_of (Nat.le_of_ble_eq_true rfl) ?_
                        refine q_Ru_seg (g2 := (2, [(0, .int v), (1, .int 0), (2, .int 255)], [.int 0, .int v], (q_cX q_AX q_IX q_J0, 40, 26520))) 2 (fun _ _ => rfl) ?_
                        refine q_Ru_rsF (g2 := (5, [(0, .int v), (1, .int 0), (2, .int 255)], [], (q_cX q_AX q_IX q_J0, 40, 26520))) rfl rfl h132 ?_
                        refine q_Ru_seg (g2 := (7, [(0, .int v), (1, .int 0), (2, .int 255)], [.int 255, .int v], (q_cX q_AX q_IX q_J0, 40, 26520))) 2 (fun _ _ => rfl) ?_
                        refine q_Ru_rsT (g2 := (20, [(0, .int v), (1, .int 0), (2, .int 255)], [], (q_cX q_AX q_IX q_J0, 40, 26520))) rfl rfl (q_d_geF h134) ?_
                        exact q_Ru_ret rfl rfl
                      show q_Ru _ _ _ (8, [(0, .int v)], [], (q_cX q_AX q_IX q_J0, 40, 26520)) _
                      exact q_Ru_ret rfl rfl
                    show q_Ru _ _ _ (8, [(0, .ref 64), (1, .int a), (2, .int v), (3, .int u)], [], (q_cX q_AX q_IX q_J0, 40, 26520)) _
                    refine q_Ru_seg (g2 := (13, [(0, .ref 64), (1, .int a), (2, .int v), (3, .int u)], [.int 4095, .int 0, .int u], (q_cX q_AX q_IX q_J0, 40, 26520))) 3 (fun _ _ => rfl) ?_
                    refine q_Ru_callX (E := "java/lang/IllegalArgumentException") (h2 := (q_cX q_AX q_IX q_J0, 40 + 1, 26520 + 6)) rfl rfl ?_
                    refine q_Ca_of (Nat.le_of_ble_eq_true rfl) ?_
                    refine q_Ru_seg (g2 := (2, [(0, .int u), (1, .int 0), (2, .int 4095)], [.int 0, .int u], (q_cX q_AX q_IX q_J0, 40, 26520))) 2 (fun _ _ => rfl) ?_
                    refine q_Ru_rsT (g2 := (10, [(0, .int u), (1, .int 0), (2, .int 4095)], [], (q_cX q_AX q_IX q_J0, 40, 26520))) rfl rfl h136 ?_
                    exact q_Ru_thr rfl rfl
                  show q_Ru _ _ _ (21, [(0, .ref 64), (1, .int a), (2, .int v), (3, .int u), (4, .ref 103)], [], (q_cX q_AX q_IX q_J0, 40 + 1, 26520 + 6)) _
                  refine q_Ru_seg (g2 := (22, [(0, .ref 64), (1, .int a), (2, .int v), (3, .int u), (4, .ref 103)], [.int 2], (q_cX q_AX q_IX q_J0, 40 + 1, 26520 + 6))) 1 (fun _ _ => rfl) ?_
                  exact q_Ru_ret rfl rfl
                · refine q_Ca_of (Nat.le_of_ble_eq_true rfl) ?_
                  refine q_Ru_seg (g2 := (2, [(0, .ref 64), (1, .int a), (2, .int v), (3, .int u)], [.int a, .ref 64], (q_cM q_AM q_IM q_J0, 34, 31630))) 2 (fun _ _ => rfl) ?_
                  refine q_Ru_call (v := (some (.int 0))) (h2 := (q_cM q_AM q_IM q_J0, 34, 31630)) rfl rfl ?_ ?_
                  · refine q_Ca_of (Nat.le_of_ble_eq_true rfl) ?_
                    refine q_Ru_seg (g2 := (5, [(0, .int a)], [.int 4095, .int 0, .int a], (q_cM q_AM q_IM q_J0, 34, 31630))) 3 (fun _ _ => rfl) ?_
                    refine q_Ru_call (v := (some (.int 1))) (h2 := (q_cM q_AM q_IM q_J0, 34, 31630)) rfl rfl ?_ ?_
                    · refine q_Ca_of (Nat.le_of_ble_eq_true rfl) ?_
                      refine q_Ru_seg (g2 := (2, [(0, .int a), (1, .int 0), (2, .int 4095)], [.int 0, .int a], (q_cM q_AM q_IM q_J0, 34, 31630))) 2 (fun _ _ => rfl) ?_
                      refine q_Ru_rsF (g2 := (5, [(0, .int a), (1, .int 0), (2, .int 4095)], [], (q_cM q_AM q_IM q_J0, 34, 31630))) rfl rfl h130 ?_
                      refine q_Ru_seg (g2 := (7, [(0, .int a), (1, .int 0), (2, .int 4095)], [.int 4095, .int a], (q_cM q_AM q_IM q_J0, 34, 31630))) 2 (fun _ _ => rfl) ?_
                      refine q_Ru_rsF (g2 := (10, [(0, .int a), (1, .int 0), (2, .int 4095)], [], (q_cM q_AM q_IM q_J0, 34, 31630))) rfl rfl h137 ?_
                      refine q_Ru_seg (g2 := (15, [(0, .int a), (1, .int 0), (2, .int 4095)], [.int 1], (q_cM q_AM q_IM q_J0, 34, 31630))) 2 (fun _ _ => rfl) ?_
                      exact q_Ru_ret rfl rfl
                    show q_Ru _ _ _ (8, [(0, .int a)], [.int 1], (q_cM q_AM q_IM q_J0, 34, 31630)) _
                    refine q_Ru_seg (g2 := (16, [(0, .int a)], [.int 0], (q_cM q_AM q_IM q_J0, 34, 31630))) 2 (fun _ _ => rfl) ?_
                    exact q_Ru_ret rfl rfl
                  show q_Ru _ _ _ (5, [(0, .ref 64), (1, .int a), (2, .int v), (3, .int u)], [.int 0, .ref 64], (q_cM q_AM q_IM q_J0, 34, 31630)) _
                  refine q_Ru_seg (g2 := (13, [(0, .ref 64), (1, .int a), (2, .int v), (3, .int u)], [.int v, .ref 64], (q_cM q_AM q_IM q_J0, 34, 31630))) 2 (fun _ _ => rfl) ?_
                  refine q_Ru_call (v := (some (.int 0))) (h2 := (q_cM q_AM q_IM q_J0, 34, 31630)) rfl rfl ?_ ?_
                  · refine q_Ca_of (Nat.le_of_ble_eq_true rfl) ?_
                    refine q_Ru_seg (g2 := (5, [(0, .int v)], [.int 255, .int 0, .int v], (q_cM q_AM q_IM q_J0, 34, 31630))) 3 (fun _ _ => rfl) ?_
                    refine q_Ru_call (v := (some (.int 1))) (h2 := (q_cM q_AM q_IM q_J0, 34, 31630)) rfl rfl ?_ ?_
                    · refine q_Ca_of (Nat.le_of_ble_eq_true rfl) ?_
                      refine q_Ru_seg (g2 := (2, [(0, .int v), (1, .int 0), (2, .int 255)], [.int 0, .int v], (q_cM q_AM q_IM q_J0, 34, 31630))) 2 (fun _ _ => rfl) ?_
                      refine q_Ru_rsF (g2 := (5, [(0, .int v), (1, .int 0), (2, .int 255)], [], (q_cM q_AM q_IM q_J0, 34, 31630))) rfl rfl h132 ?_
                      refine q_Ru_seg (g2 := (7, [(0, .int v), (1, .int 0), (2, .int 255)], [.int 255, .int v], (q_cM q_AM q_IM q_J0, 34, 31630))) 2 (fun _ _ => rfl) ?_
                      refine q_Ru_rsF (g2 := (10, [(0, .int v), (1, .int 0), (2, .int 255)], [], (q_cM q_AM q_IM q_J0, 34, 31630))) rfl rfl h134 ?_
                      refine q_Ru_seg (g2 := (15, [(0, .int v), (1, .int 0), (2, .int 255)], [.int 1], (q_cM q_AM q_IM q_J0, 34, 31630))) 2 (fun _ _ => rfl) ?_
                      exact q_Ru_ret rfl rfl
                    show q_Ru _ _ _ (8, [(0, .int v)], [.int 1], (q_cM q_AM q_IM q_J0, 34, 31630)) _
                    refine q_Ru_seg (g2 := (16, [(0, .int v)], [.int 0], (q_cM q_AM q_IM q_J0, 34, 31630))) 2 (fun _ _ => rfl) ?_
                    exact q_Ru_ret rfl rfl
                  show q_Ru _ _ _ (16, [(0, .ref 64), (1, .int a), (2, .int v), (3, .int u)], [.int 0, .ref 64], (q_cM q_AM q_IM q_J0, 34, 31630)) _
                  refine q_Ru_seg (g2 := (26, [(0, .ref 64), (1, .int a), (2, .int v), (3, .int u)], [.int (v &&& 255), .int 0, .int u, .ref 64], (q_cM q_AM q_IM q_J0, 34, 31630))) 6 (fun _ _ => rfl) ?_
                  refine q_Ru_call (v := (some (.int 1))) (h2 := (q_cM q_AM q_IM q_J0, 34, 31630)) rfl rfl ?_ ?_
                  · exact (q_lenM2 (q_lo1 h132) (q_hi2 h134) he (q_cM q_AM q_IM q_J0, 34, 31630)).le (Nat.le_of_ble_eq_true rfl)
                  show q_Ru _ _ _ (29, [(0, .ref 64), (1, .int a), (2, .int v), (3, .int u)], [.int 1, .int 0, .int u, .ref 64], (q_cM q_AM q_IM q_J0, 34, 31630)) _
                  refine q_Ru_seg (g2 := (42, [(0, .ref 64), (1, .int a), (2, .int v), (3, .int u)], [.int 4095, .int 0, .int u, .ref 64], (q_cM q_AM q_IM q_J0, 34, 31630))) 3 (fun _ _ => rfl) ?_
                  refine q_Ru_call (v := (some (.int 0))) (h2 := (q_cM q_AM q_IM q_J0, 34, 31630)) rfl rfl ?_ ?_
                  · refine q_Ca_of (Nat.le_of_ble_eq_true rfl) ?_
                    refine q_Ru_seg (g2 := (2, [(0, .int u), (1, .int 0), (2, .int 4095)], [.int 0, .int u], (q_cM q_AM q_IM q_J0, 34, 31630))) 2 (fun _ _ => rfl) ?_
                    refine q_Ru_rsT (g2 := (14, [(0, .int u), (1, .int 0), (2, .int 4095)], [], (q_cM q_AM q_IM q_J0, 34, 31630))) rfl rfl h136 ?_
                    refine q_Ru_seg (g2 := (15, [(0, .int u), (1, .int 0), (2, .int 4095)], [.int 0], (q_cM q_AM q_IM q_J0, 34, 31630))) 1 (fun _ _ => rfl) ?_
                    exact q_Ru_ret rfl rfl
                  show q_Ru _ _ _ (45, [(0, .ref 64), (1, .int a), (2, .int v), (3, .int u)], [.int 0, .ref 64], (q_cM q_AM q_IM q_J0, 34, 31630)) _
                  refine q_Ru_seg (g2 := (53, [(0, .ref 64), (1, .int a), (2, .int v), (3, .int u)], [.int 2, .ref 64], (q_cM q_AM q_IM q_J0, 34, 31630))) 3 (fun _ _ => rfl) ?_
                  refine q_Ru_call (v := (some (.int 1))) (h2 := (q_cM q_AM (q_uI q_IM 0 39 2) q_J0, 34, 31630)) rfl rfl ?_ ?_
                  · refine q_Ca_of (Nat.le_of_ble_eq_true rfl) ?_
                    refine q_Ru_seg (g2 := (14, [(0, .ref 64), (1, .int 2)], [.int 1], (q_cM q_AM (q_uI q_IM 0 39 2) q_J0, 34, 31630))) 7 (fun _ _ => rfl) ?_
                    exact q_Ru_ret rfl rfl
                  show q_Ru _ _ _ (56, [(0, .ref 64), (1, .int a), (2, .int v), (3, .int u)], [.int 1], (q_cM q_AM (q_uI q_IM 0 39 2) q_J0, 34, 31630)) _
                  refine q_Ru_seg (g2 := (60, [(0, .ref 64), (1, .int a), (2, .int v), (3, .int u)], [.int 0], (q_cM q_AM (q_uI q_IM 0 39 2) q_J0, 34, 31630))) 2 (fun _ _ => rfl) ?_
                  exact q_Ru_ret rfl rfl
              · refine ⟨2, 0, 0, ⟨(q_cX q_AX q_IX q_J0, 40 + 1, 26520 + 6), q_J0 39, ?_, rfl, fun h => absurd h (by decide), Nat.le_of_ble_eq_true rfl, Nat.le_of_ble_eq_true rfl⟩, ⟨(q_cM q_AM (q_uI q_IM 0 39 2) q_J0, 34, 31630), _, ?_, rfl, rfl, Nat.le_of_ble_eq_true rfl, Nat.le_of_ble_eq_true rfl⟩, fun h => absurd h (by decide)⟩
                · refine q_Ca_of (Nat.le_of_ble_eq_true rfl) ?_
                  refine q_Ru_seg (g2 := (7, [(0, .ref 64), (1, .int a), (2, .int v), (3, .int u), (4, .ref 103)], [.int u, .int v, .int a, .ref 64, .int 0, .ref 103], (q_cX q_AX q_IX q_J0, 40, 26520))) 6 (fun _ _ => rfl) ?_
                  refine q_Ru_callH (E := "java/lang/IllegalArgumentException") (tg := 21) (i := 5) (h2 := (q_cX q_AX q_IX q_J0, 40 + 1, 26520 + 6)) rfl rfl ?_ rfl ?_
                  · refine q_Ca_of (Nat.le_of_ble_eq_true rfl) ?_
                    refine q_Ru_seg (g2 := (1, [(0, .ref 64), (1, .int a), (2, .int v), (3, .int u)], [.int a], (q_cX q_AX q_IX q_J0, 40, 26520))) 1 (fun _ _ => rfl) ?_
                    refine q_Ru_call (v := none) (h2 := (q_cX q_AX q_IX q_J0, 40, 26520)) rfl rfl ?_ ?_
                    · refine q_Ca_of (Nat.le_of_ble_eq_true rfl) ?_
                      refine q_Ru_seg (g2 := (4, [(0, .int a)], [.int 4096, .int a], (q_cX q_AX q_IX q_J0, 40, 26520))) 2 (fun _ _ => rfl) ?_
                      refine q_Ru_call (v := none) (h2 := (q_cX q_AX q_IX q_J0, 40, 26520)) rfl rfl ?_ ?_
                      · refine q_Ca_of (Nat.le_of_ble_eq_true rfl) ?_
                        refine q_Ru_seg (g2 := (1, [(0, .int a), (1, .int 4096)], [.int a], (q_cX q_AX q_IX q_J0, 40, 26520))) 1 (fun _ _ => rfl) ?_
                        refine q_Ru_rsF (g2 := (4, [(0, .int a), (1, .int 4096)], [], (q_cX q_AX q_IX q_J0, 40, 26520))) rfl rfl h130 ?_
                        refine q_Ru_seg (g2 := (6, [(0, .int a), (1, .int 4096)], [.int 4096, .int a], (q_cX q_AX q_IX q_J0, 40, 26520))) 2 (fun _ _ => rfl) ?_
                        refine q_Ru_rsT (g2 := (19, [(0, .int a), (1, .int 4096)], [], (q_cX q_AX q_IX q_J0, 40, 26520))) rfl rfl h131 ?_
                        exact q_Ru_ret rfl rfl
                      show q_Ru _ _ _ (7, [(0, .int a)], [], (q_cX q_AX q_IX q_J0, 40, 26520)) _
                      exact q_Ru_ret rfl rfl
                    show q_Ru _ _ _ (4, [(0, .ref 64), (1, .int a), (2, .int v), (3, .int u)], [], (q_cX q_AX q_IX q_J0, 40, 26520)) _
                    refine q_Ru_seg (g2 := (5, [(0, .ref 64), (1, .int a), (2, .int v), (3, .int u)], [.int v], (q_cX q_AX q_IX q_J0, 40, 26520))) 1 (fun _ _ => rfl) ?_
                    refine q_Ru_call (v := none) (h2 := (q_cX q_AX q_IX q_J0, 40, 26520)) rfl rfl ?_ ?_
                    · refine q_Ca_of (Nat.le_of_ble_eq_true rfl) ?_
                      refine q_Ru_seg (g2 := (5, [(0, .int v)], [.int 255, .int 0, .int v], (q_cX q_AX q_IX q_J0, 40, 26520))) 3 (fun _ _ => rfl) ?_
                      refine q_Ru_call (v := none) (h2 := (q_cX q_AX q_IX q_J0, 40, 26520)) rfl rfl ?_ ?_
                      · refine q_Ca_of (Nat.le_of_ble_eq_true rfl) ?_
                        refine q_Ru_seg (g2 := (2, [(0, .int v), (1, .int 0), (2, .int 255)], [.int 0, .int v], (q_cX q_AX q_IX q_J0, 40, 26520))) 2 (fun _ _ => rfl) ?_
                        refine q_Ru_rsF (g2 := (5, [(0, .int v), (1, .int 0), (2, .int 255)], [], (q_cX q_AX q_IX q_J0, 40, 26520))) rfl rfl h132 ?_
                        refine q_Ru_seg (g2 := (7, [(0, .int v), (1, .int 0), (2, .int 255)], [.int 255, .int v], (q_cX q_AX q_IX q_J0, 40, 26520))) 2 (fun _ _ => rfl) ?_
                        refine q_Ru_rsT (g2 := (20, [(0, .int v), (1, .int 0), (2, .int 255)], [], (q_cX q_AX q_IX q_J0, 40, 26520))) rfl rfl (q_d_geF h134) ?_
                        exact q_Ru_ret rfl rfl
                      show q_Ru _ _ _ (8, [(0, .int v)], [], (q_cX q_AX q_IX q_J0, 40, 26520)) _
                      exact q_Ru_ret rfl rfl
                    show q_Ru _ _ _ (8, [(0, .ref 64), (1, .int a), (2, .int v), (3, .int u)], [], (q_cX q_AX q_IX q_J0, 40, 26520)) _
                    refine q_Ru_seg (g2 := (13, [(0, .ref 64), (1, .int a), (2, .int v), (3, .int u)], [.int 4095, .int 0, .int u], (q_cX q_AX q_IX q_J0, 40, 26520))) 3 (fun _ _ => rfl) ?_
                    refine q_Ru_callX (E := "java/lang/IllegalArgumentException") (h2 := (q_cX q_AX q_IX q_J0, 40 + 1, 26520 + 6)) rfl rfl ?_
                    refine q_Ca_of (Nat.le_of_ble_eq_true rfl) ?_
                    refine q_Ru_seg (g2 := (2, [(0, .int u), (1, .int 0), (2, .int 4095)], [.int 0, .int u], (q_cX q_AX q_IX q_J0, 40, 26520))) 2 (fun _ _ => rfl) ?_
                    refine q_Ru_rsT (g2 := (10, [(0, .int u), (1, .int 0), (2, .int 4095)], [], (q_cX q_AX q_IX q_J0, 40, 26520))) rfl rfl h136 ?_
                    exact q_Ru_thr rfl rfl
                  show q_Ru _ _ _ (21, [(0, .ref 64), (1, .int a), (2, .int v), (3, .int u), (4, .ref 103)], [], (q_cX q_AX q_IX q_J0, 40 + 1, 26520 + 6)) _
                  refine q_Ru_seg (g2 := (22, [(0, .ref 64), (1, .int a), (2, .int v), (3, .int u), (4, .ref 103)], [.int 2], (q_cX q_AX q_IX q_J0, 40 + 1, 26520 + 6))) 1 (fun _ _ => rfl) ?_
                  exact q_Ru_ret rfl rfl
                · refine q_Ca_of (Nat.le_of_ble_eq_true rfl) ?_
                  refine q_Ru_seg (g2 := (2, [(0, .ref 64), (1, .int a), (2, .int v), (3, .int u)], [.int a, .ref 64], (q_cM q_AM q_IM q_J0, 34, 31630))) 2 (fun _ _ => rfl) ?_
                  refine q_Ru_call (v := (some (.int 0))) (h2 := (q_cM q_AM q_IM q_J0, 34, 31630)) rfl rfl ?_ ?_
                  · refine q_Ca_of (Nat.le_of_ble_eq_true rfl) ?_
                    refine q_Ru_seg (g2 := (5, [(0, .int a)], [.int 4095, .int 0, .int a], (q_cM q_AM q_IM q_J0, 34, 31630))) 3 (fun _ _ => rfl) ?_
                    refine q_Ru_call (v := (some (.int 1))) (h2 := (q_cM q_AM q_IM q_J0, 34, 31630)) rfl rfl ?_ ?_
                    · refine q_Ca_of (Nat.le_of_ble_eq_true rfl) ?_
                      refine q_Ru_seg (g2 := (2, [(0, .int a), (1, .int 0), (2, .int 4095)], [.int 0, .int a], (q_cM q_AM q_IM q_J0, 34, 31630))) 2 (fun _ _ => rfl) ?_
                      refine q_Ru_rsF (g2 := (5, [(0, .int a), (1, .int 0), (2, .int 4095)], [], (q_cM q_AM q_IM q_J0, 34, 31630))) rfl rfl h130 ?_
                      refine q_Ru_seg (g2 := (7, [(0, .int a), (1, .int 0), (2, .int 4095)], [.int 4095, .int a], (q_cM q_AM q_IM q_J0, 34, 31630))) 2 (fun _ _ => rfl) ?_
                      refine q_Ru_rsF (g2 := (10, [(0, .int a), (1, .int 0), (2, .int 4095)], [], (q_cM q_AM q_IM q_J0, 34, 31630))) rfl rfl h137 ?_
                      refine q_Ru_seg (g2 := (15, [(0, .int a), (1, .int 0), (2, .int 4095)], [.int 1], (q_cM q_AM q_IM q_J0, 34, 31630))) 2 (fun _ _ => rfl) ?_
                      exact q_Ru_ret rfl rfl
                    show q_Ru _ _ _ (8, [(0, .int a)], [.int 1], (q_cM q_AM q_IM q_J0, 34, 31630)) _
                    refine q_Ru_seg (g2 := (16, [(0, .int a)], [.int 0], (q_cM q_AM q_IM q_J0, 34, 31630))) 2 (fun _ _ => rfl) ?_
                    exact q_Ru_ret rfl rfl
                  show q_Ru _ _ _ (5, [(0, .ref 64), (1, .int a), (2, .int v), (3, .int u)], [.int 0, .ref 64], (q_cM q_AM q_IM q_J0, 34, 31630)) _
                  refine q_Ru_seg (g2 := (13, [(0, .ref 64), (1, .int a), (2, .int v), (3, .int u)], [.int v, .ref 64], (q_cM q_AM q_IM q_J0, 34, 31630))) 2 (fun _ _ => rfl) ?_
                  refine q_Ru_call (v := (some (.int 0))) (h2 := (q_cM q_AM q_IM q_J0, 34, 31630)) rfl rfl ?_ ?_
                  · refine q_Ca_of (Nat.le_of_ble_eq_true rfl) ?_
                    refine q_Ru_seg (g2 := (5, [(0, .int v)], [.int 255, .int 0, .int v], (q_cM q_AM q_IM q_J0, 34, 31630))) 3 (fun _ _ => rfl) ?_
                    refine q_Ru_call (v := (some (.int 1))) (h2 := (q_cM q_AM q_IM q_J0, 34, 31630)) rfl rfl ?_ ?_
                    · refine q_Ca_of (Nat.le_of_ble_eq_true rfl) ?_
                      refine q_Ru_seg (g2 := (2, [(0, .int v), (1, .int 0), (2, .int 255)], [.int 0, .int v], (q_cM q_AM q_IM q_J0, 34, 31630))) 2 (fun _ _ => rfl) ?_
                      refine q_Ru_rsF (g2 := (5, [(0, .int v), (1, .int 0), (2, .int 255)], [], (q_cM q_AM q_IM q_J0, 34, 31630))) rfl rfl h132 ?_
                      refine q_Ru_seg (g2 := (7, [(0, .int v), (1, .int 0), (2, .int 255)], [.int 255, .int v], (q_cM q_AM q_IM q_J0, 34, 31630))) 2 (fun _ _ => rfl) ?_
                      refine q_Ru_rsF (g2 := (10, [(0, .int v), (1, .int 0), (2, .int 255)], [], (q_cM q_AM q_IM q_J0, 34, 31630))) rfl rfl h134 ?_
                      refine q_Ru_seg (g2 := (15, [(0, .int v), (1, .int 0), (2, .int 255)], [.int 1], (q_cM q_AM q_IM q_J0, 34, 31630))) 2 (fun _ _ => rfl) ?_
                      exact q_Ru_ret rfl rfl
                    show q_Ru _ _ _ (8, [(0, .int v)], [.int 1], (q_cM q_AM q_IM q_J0, 34, 31630)) _
                    refine q_Ru_seg (g2 := (16, [(0, .int v)], [.int 0], (q_cM q_AM q_IM q_J0, 34, 31630))) 2 (fun _ _ => rfl) ?_
                    exact q_Ru_ret rfl rfl
                  show q_Ru _ _ _ (16, [(0, .ref 64), (1, .int a), (2, .int v), (3, .int u)], [.int 0, .ref 64], (q_cM q_AM q_IM q_J0, 34, 31630)) _
                  refine q_Ru_seg (g2 := (26, [(0, .ref 64), (1, .int a), (2, .int v), (3, .int u)], [.int (v &&& 255), .int 0, .int u, .ref 64], (q_cM q_AM q_IM q_J0, 34, 31630))) 6 (fun _ _ => rfl) ?_
                  refine q_Ru_call (v := (some (.int 2))) (h2 := (q_cM q_AM q_IM q_J0, 34, 31630)) rfl rfl ?_ ?_
                  · exact (q_lenM2 (q_lo1 h132) (q_hi2 h134) he (q_cM q_AM q_IM q_J0, 34, 31630)).le (Nat.le_of_ble_eq_true rfl)
                  show q_Ru _ _ _ (29, [(0, .ref 64), (1, .int a), (2, .int v), (3, .int u)], [.int 2, .int 0, .int u, .ref 64], (q_cM q_AM q_IM q_J0, 34, 31630)) _
                  refine q_Ru_seg (g2 := (42, [(0, .ref 64), (1, .int a), (2, .int v), (3, .int u)], [.int 255, .int 0, .int u, .ref 64], (q_cM q_AM q_IM q_J0, 34, 31630))) 4 (fun _ _ => rfl) ?_
                  refine q_Ru_call (v := (some (.int 0))) (h2 := (q_cM q_AM q_IM q_J0, 34, 31630)) rfl rfl ?_ ?_
                  · refine q_Ca_of (Nat.le_of_ble_eq_true rfl) ?_
                    refine q_Ru_seg (g2 := (2, [(0, .int u), (1, .int 0), (2, .int 255)], [.int 0, .int u], (q_cM q_AM q_IM q_J0, 34, 31630))) 2 (fun _ _ => rfl) ?_
                    refine q_Ru_rsT (g2 := (14, [(0, .int u), (1, .int 0), (2, .int 255)], [], (q_cM q_AM q_IM q_J0, 34, 31630))) rfl rfl h136 ?_
                    refine q_Ru_seg (g2 := (15, [(0, .int u), (1, .int 0), (2, .int 255)], [.int 0], (q_cM q_AM q_IM q_J0, 34, 31630))) 1 (fun _ _ => rfl) ?_
                    exact q_Ru_ret rfl rfl
                  show q_Ru _ _ _ (45, [(0, .ref 64), (1, .int a), (2, .int v), (3, .int u)], [.int 0, .ref 64], (q_cM q_AM q_IM q_J0, 34, 31630)) _
                  refine q_Ru_seg (g2 := (53, [(0, .ref 64), (1, .int a), (2, .int v), (3, .int u)], [.int 2, .ref 64], (q_cM q_AM q_IM q_J0, 34, 31630))) 3 (fun _ _ => rfl) ?_
                  refine q_Ru_call (v := (some (.int 1))) (h2 := (q_cM q_AM (q_uI q_IM 0 39 2) q_J0, 34, 31630)) rfl rfl ?_ ?_
                  · refine q_Ca_of (Nat.le_of_ble_eq_true rfl) ?_
                    refine q_Ru_seg (g2 := (14, [(0, .ref 64), (1, .int 2)], [.int 1], (q_cM q_AM (q_uI q_IM 0 39 2) q_J0, 34, 31630))) 7 (fun _ _ => rfl) ?_
                    exact q_Ru_ret rfl rfl
                  show q_Ru _ _ _ (56, [(0, .ref 64), (1, .int a), (2, .int v), (3, .int u)], [.int 1], (q_cM q_AM (q_uI q_IM 0 39 2) q_J0, 34, 31630)) _
                  refine q_Ru_seg (g2 := (60, [(0, .ref 64), (1, .int a), (2, .int v), (3, .int u)], [.int 0], (q_cM q_AM (q_uI q_IM 0 39 2) q_J0, 34, 31630))) 2 (fun _ _ => rfl) ?_
                  exact q_Ru_ret rfl rfl
              · refine ⟨2, 0, 0, ⟨(q_cX q_AX q_IX q_J0, 40 + 1, 26520 + 6), q_J0 39, ?_, rfl, fun h => absurd h (by decide), Nat.le_of_ble_eq_true rfl, Nat.le_of_ble_eq_true rfl⟩, ⟨(q_cM q_AM (q_uI q_IM 0 39 2) q_J0, 34, 31630), _, ?_, rfl, rfl, Nat.le_of_ble_eq_true rfl, Nat.le_of_ble_eq_true rfl⟩, fun h => absurd h (by decide)⟩
                · refine q_Ca_of (Nat.le_of_ble_eq_true rfl) ?_
                  refine q_Ru_seg (g2 := (7, [(0, .ref 64), (1, .int a), (2, .int v), (3, .int u), (4, .ref 103)], [.int u, .int v, .int a, .ref 64, .int 0, .ref 103], (q_cX q_AX q_IX q_J0, 40, 26520))) 6 (fun _ _ => rfl) ?_
                  refine q_Ru_callH (E := "java/lang/IllegalArgumentException") (tg := 21) (i := 5) (h2 := (q_cX q_AX q_IX q_J0, 40 + 1, 26520 + 6)) rfl rfl ?_ rfl ?_
                  · refine q_Ca_of (Nat.le_of_ble_eq_true rfl) ?_
                    refine q_Ru_seg (g2 := (1, [(0, .ref 64), (1, .int a), (2, .int v), (3, .int u)], [.int a], (q_cX q_AX q_IX q_J0, 40, 26520))) 1 (fun _ _ => rfl) ?_
                    refine q_Ru_call (v := none) (h2 := (q_cX q_AX q_IX q_J0, 40, 26520)) rfl rfl ?_ ?_
                    · refine q_Ca_of (Nat.le_of_ble_eq_true rfl) ?_
                      refine q_Ru_seg (g2 := (4, [(0, .int a)], [.int 4096, .int a], (q_cX q_AX q_IX q_J0, 40, 26520))) 2 (fun _ _ => rfl) ?_
                      refine q_Ru_call (v := none) (h2 := (q_cX q_AX q_IX q_J0, 40, 26520)) rfl rfl ?_ ?_
                      · refine q_Ca_of (Nat.le_of_ble_eq_true rfl) ?_
                        refine q_Ru_seg (g2 := (1, [(0, .int a), (1, .int 4096)], [.int a], (q_cX q_AX q_IX q_J0, 40, 26520))) 1 (fun _ _ => rfl) ?_
                        refine q_Ru_rsF (g2 := (4, [(0, .int a), (1, .int 4096)], [], (q_cX q_AX q_IX q_J0, 40, 26520))) rfl rfl h130 ?_
                        refine q_Ru_seg (g2 := (6, [(0, .int a), (1, .int 4096)], [.int 4096, .int a], (q_cX q_AX q_IX q_J0, 40, 26520))) 2 (fun _ _ => rfl) ?_
                        refine q_Ru_rsT (g2 := (19, [(0, .int a), (1, .int 4096)], [], (q_cX q_AX q_IX q_J0, 40, 26520))) rfl rfl h131 ?_
                        exact q_Ru_ret rfl rfl
                      show q_Ru _ _ _ (7, [(0, .int a)], [], (q_cX q_AX q_IX q_J0, 40, 26520)) _
                      exact q_Ru_ret rfl rfl
                    show q_Ru _ _ _ (4, [(0, .ref 64), (1, .int a), (2, .int v), (3, .int u)], [], (q_cX q_AX q_IX q_J0, 40, 26520)) _
                    refine q_Ru_seg (g2 := (5, [(0, .ref 64), (1, .int a), (2, .int v), (3, .int u)], [.int v], (q_cX q_AX q_IX q_J0, 40, 26520))) 1 (fun _ _ => rfl) ?_
                    refine q_Ru_call (v := none) (h2 := (q_cX q_AX q_IX q_J0, 40, 26520)) rfl rfl ?_ ?_
                    · refine q_Ca_of (Nat.le_of_ble_eq_true rfl) ?_
                      refine q_Ru_seg (g2 := (5, [(0, .int v)], [.int 255, .int 0, .int v], (q_cX q_AX q_IX q_J0, 40, 26520))) 3 (fun _ _ => rfl) ?_
                      refine q_Ru_call (v := none) (h2 := (q_cX q_AX q_IX q_J0, 40, 26520)) rfl rfl ?_ ?_
                      · refine q_Ca_of (Nat.le_of_ble_eq_true rfl) ?_
                        refine q_Ru_seg (g2 := (2, [(0, .int v), (1, .int 0), (2, .int 255)], [.int 0, .int v], (q_cX q_AX q_IX q_J0, 40, 26520))) 2 (fun _ _ => rfl) ?_
                        refine q_Ru_rsF (g2 := (5, [(0, .int v), (1, .int 0), (2, .int 255)], [], (q_cX q_AX q_IX q_J0, 40, 26520))) rfl rfl h132 ?_
                        refine q_Ru_seg (g2 := (7, [(0, .int v), (1, .int 0), (2, .int 255)], [.int 255, .int v], (q_cX q_AX q_IX q_J0, 40, 26520))) 2 (fun _ _ => rfl) ?_
                        refine q_Ru_rsT (g2 := (20, [(0, .int v), (1, .int 0), (2, .int 255)], [], (q_cX q_AX q_IX q_J0, 40, 26520))) rfl rfl (q_d_geF h134) ?_
                        exact q_Ru_ret rfl rfl
                      show q_Ru _ _ _ (8, [(0, .int v)], [], (q_cX q_AX q_IX q_J0, 40, 26520)) _
                      exact q_Ru_ret rfl rfl
                    show q_Ru _ _ _ (8, [(0, .ref 64), (1, .int a), (2, .int v), (3, .int u)], [], (q_cX q_AX q_IX q_J0, 40, 26520)) _
                    refine q_Ru_seg (g2 := (13, [(0, .ref 64), (1, .int a), (2, .int v), (3, .int u)], [.int 4095, .int 0, .int u], (q_cX q_AX q_IX q_J0, 40, 26520))) 3 (fun _ _ => rfl) ?_
                    refine q_Ru_callX (E := "java/lang/IllegalArgumentException") (h2 := (q_cX q_AX q_IX q_J0, 40 + 1, 26520 + 6)) rfl rfl ?_
                    refine q_Ca_of (Nat.le_of_ble_eq_true rfl) ?_
                    refine q_Ru_seg (g2 := (2, [(0, .int u), (1, .int 0), (2, .int 4095)], [.int 0, .int u], (q_cX q_AX q_IX q_J0, 40, 26520))) 2 (fun _ _ => rfl) ?_
                    refine q_Ru_rsT (g2 := (10, [(0, .int u), (1, .int 0), (2, .int 4095)], [], (q_cX q_AX q_IX q_J0, 40, 26520))) rfl rfl h136 ?_
                    exact q_Ru_thr rfl rfl
                  show q_Ru _ _ _ (21, [(0, .ref 64), (1, .int a), (2, .int v), (3, .int u), (4, .ref 103)], [], (q_cX q_AX q_IX q_J0, 40 + 1, 26520 + 6)) _
                  refine q_Ru_seg (g2 := (22, [(0, .ref 64), (1, .int a), (2, .int v), (3, .int u), (4, .ref 103)], [.int 2], (q_cX q_AX q_IX q_J0, 40 + 1, 26520 + 6))) 1 (fun _ _ => rfl) ?_
                  exact q_Ru_ret rfl rfl
                · refine q_Ca_of (Nat.le_of_ble_eq_true rfl) ?_
                  refine q_Ru_seg (g2 := (2, [(0, .ref 64), (1, .int a), (2, .int v), (3, .int u)], [.int a, .ref 64], (q_cM q_AM q_IM q_J0, 34, 31630))) 2 (fun _ _ => rfl) ?_
                  refine q_Ru_call (v := (some (.int 0))) (h2 := (q_cM q_AM q_IM q_J0, 34, 31630)) rfl rfl ?_ ?_
                  · refine q_Ca_of (Nat.le_of_ble_eq_true rfl) ?_
                    refine q_Ru_seg (g2 := (5, [(0, .int a)], [.int 4095, .int 0, .int a], (q_cM q_AM q_IM q_J0, 34, 31630))) 3 (fun _ _ => rfl) ?_
                    refine q_Ru_call (v := (some (.int 1))) (h2 := (q_cM q_AM q_IM q_J0, 34, 31630)) rfl rfl ?_ ?_
                    · refine q_Ca_of (Nat.le_of_ble_eq_true rfl) ?_
                      refine q_Ru_seg (g2 := (2, [(0, .int a), (1, .int 0), (2, .int 4095)], [.int 0, .int a], (q_cM q_AM q_IM q_J0, 34, 31630))) 2 (fun _ _ => rfl) ?_
                      refine q_Ru_rsF (g2 := (5, [(0, .int a), (1, .int 0), (2, .int 4095)], [], (q_cM q_AM q_IM q_J0, 34, 31630))) rfl rfl h130 ?_
                      refine q_Ru_seg (g2 := (7, [(0, .int a), (1, .int 0), (2, .int 4095)], [.int 4095, .int a], (q_cM q_AM q_IM q_J0, 34, 31630))) 2 (fun _ _ => rfl) ?_
                      refine q_Ru_rsF (g2 := (10, [(0, .int a), (1, .int 0), (2, .int 4095)], [], (q_cM q_AM q_IM q_J0, 34, 31630))) rfl rfl h137 ?_
                      refine q_Ru_seg (g2 := (15, [(0, .int a), (1, .int 0), (2, .int 4095)], [.int 1], (q_cM q_AM q_IM q_J0, 34, 31630))) 2 (fun _ _ => rfl) ?_
                      exact q_Ru_ret rfl rfl
                    show q_Ru _ _ _ (8, [(0, .int a)], [.int 1], (q_cM q_AM q_IM q_J0, 34, 31630)) _
                    refine q_Ru_seg (g2 := (16, [(0, .int a)], [.int 0], (q_cM q_AM q_IM q_J0, 34, 31630))) 2 (fun _ _ => rfl) ?_
                    exact q_Ru_ret rfl rfl
                  show q_Ru _ _ _ (5, [(0, .ref 64), (1, .int a), (2, .int v), (3, .int u)], [.int 0, .ref 64], (q_cM q_AM q_IM q_J0, 34, 31630)) _
                  refine q_Ru_seg (g2 := (13, [(0, .ref 64), (1, .int a), (2, .int v), (3, .int u)], [.int v, .ref 64], (q_cM q_AM q_IM q_J0, 34, 31630))) 2 (fun _ _ => rfl) ?_
                  refine q_Ru_call (v := (some (.int 0))) (h2 := (q_cM q_AM q_IM q_J0, 34, 31630)) rfl rfl ?_ ?_
                  · refine q_Ca_of (Nat.le_of_ble_eq_true rfl) ?_
                    refine q_Ru_seg (g2 := (5, [(0, .int v)], [.int 255, .int 0, .int v], (q_cM q_AM q_IM q_J0, 34, 31630))) 3 (fun _ _ => rfl) ?_
                    refine q_Ru_call (v := (some (.int 1))) (h2 := (q_cM q_AM q_IM q_J0, 34, 31630)) rfl rfl ?_ ?_
                    · refine q_Ca_of (Nat.le_of_ble_eq_true rfl) ?_
                      refine q_Ru_seg (g2 := (2, [(0, .int v), (1, .int 0), (2, .int 255)], [.int 0, .int v], (q_cM q_AM q_IM q_J0, 34, 31630))) 2 (fun _ _ => rfl) ?_
                      refine q_Ru_rsF (g2 := (5, [(0, .int v), (1, .int 0), (2, .int 255)], [], (q_cM q_AM q_IM q_J0, 34, 31630))) rfl rfl h132 ?_
                      refine q_Ru_seg (g2 := (7, [(0, .int v), (1, .int 0), (2, .int 255)], [.int 255, .int v], (q_cM q_AM q_IM q_J0, 34, 31630))) 2 (fun _ _ => rfl) ?_
                      refine q_Ru_rsF (g2 := (10, [(0, .int v), (1, .int 0), (2, .int 255)], [], (q_cM q_AM q_IM q_J0, 34, 31630))) rfl rfl h134 ?_
                      refine q_Ru_seg (g2 := (15, [(0, .int v), (1, .int 0), (2, .int 255)], [.int 1], (q_cM q_AM q_IM q_J0, 34, 31630))) 2 (fun _ _ => rfl) ?_
                      exact q_Ru_ret rfl rfl
                    show q_Ru _ _ _ (8, [(0, .int v)], [.int 1], (q_cM q_AM q_IM q_J0, 34, 31630)) _
                    refine q_Ru_seg (g2 := (16, [(0, .int v)], [.int 0], (q_cM q_AM q_IM q_J0, 34, 31630))) 2 (fun _ _ => rfl) ?_
                    exact q_Ru_ret rfl rfl
                  show q_Ru _ _ _ (16, [(0, .ref 64), (1, .int a), (2, .int v), (3, .int u)], [.int 0, .ref 64], (q_cM q_AM q_IM q_J0, 34, 31630)) _
                  refine q_Ru_seg (g2 := (26, [(0, .ref 64), (1, .int a), (2, .int v), (3, .int u)], [.int (v &&& 255), .int 0, .int u, .ref 64], (q_cM q_AM q_IM q_J0, 34, 31630))) 6 (fun _ _ => rfl) ?_
                  refine q_Ru_call (v := (some (.int 3))) (h2 := (q_cM q_AM q_IM q_J0, 34, 31630)) rfl rfl ?_ ?_
                  · exact (q_lenM2 (q_lo1 h132) (q_hi2 h134) he (q_cM q_AM q_IM q_J0, 34, 31630)).le (Nat.le_of_ble_eq_true rfl)
                  show q_Ru _ _ _ (29, [(0, .ref 64), (1, .int a), (2, .int v), (3, .int u)], [.int 3, .int 0, .int u, .ref 64], (q_cM q_AM q_IM q_J0, 34, 31630)) _
                  refine q_Ru_seg (g2 := (42, [(0, .ref 64), (1, .int a), (2, .int v), (3, .int u)], [.int 4095, .int 0, .int u, .ref 64], (q_cM q_AM q_IM q_J0, 34, 31630))) 3 (fun _ _ => rfl) ?_
                  refine q_Ru_call (v := (some (.int 0))) (h2 := (q_cM q_AM q_IM q_J0, 34, 31630)) rfl rfl ?_ ?_
                  · refine q_Ca_of (Nat.le_of_ble_eq_true rfl) ?_
                    refine q_Ru_seg (g2 := (2, [(0, .int u), (1, .int 0), (2, .int 4095)], [.int 0, .int u], (q_cM q_AM q_IM q_J0, 34, 31630))) 2 (fun _ _ => rfl) ?_
                    refine q_Ru_rsT (g2 := (14, [(0, .int u), (1, .int 0), (2, .int 4095)], [], (q_cM q_AM q_IM q_J0, 34, 31630))) rfl rfl h136 ?_
                    refine q_Ru_seg (g2 := (15, [(0, .int u), (1, .int 0), (2, .int 4095)], [.int 0], (q_cM q_AM q_IM q_J0, 34, 31630))) 1 (fun _ _ => rfl) ?_
                    exact q_Ru_ret rfl rfl
                  show q_Ru _ _ _ (45, [(0, .ref 64), (1, .int a), (2, .int v), (3, .int u)], [.int 0, .ref 64], (q_cM q_AM q_IM q_J0, 34, 31630)) _
                  refine q_Ru_seg (g2 := (53, [(0, .ref 64), (1, .int a), (2, .int v), (3, .int u)], [.int 2, .ref 64], (q_cM q_AM q_IM q_J0, 34, 31630))) 3 (fun _ _ => rfl) ?_
                  refine q_Ru_call (v := (some (.int 1))) (h2 := (q_cM q_AM (q_uI q_IM 0 39 2) q_J0, 34, 31630)) rfl rfl ?_ ?_
                  · refine q_Ca_of (Nat.le_of_ble_eq_true rfl) ?_
                    refine q_Ru_seg (g2 := (14, [(0, .ref 64), (1, .int 2)], [.int 1], (q_cM q_AM (q_uI q_IM 0 39 2) q_J0, 34, 31630))) 7 (fun _ _ => rfl) ?_
                    exact q_Ru_ret rfl rfl
                  show q_Ru _ _ _ (56, [(0, .ref 64), (1, .int a), (2, .int v), (3, .int u)], [.int 1], (q_cM q_AM (q_uI q_IM 0 39 2) q_J0, 34, 31630)) _
                  refine q_Ru_seg (g2 := (60, [(0, .ref 64), (1, .int a), (2, .int v), (3, .int u)], [.int 0], (q_cM q_AM (q_uI q_IM 0 39 2) q_J0, 34, 31630))) 2 (fun _ _ => rfl) ?_
                  exact q_Ru_ret rfl rfl
          | false =>
            cases h139 : decide (4095 < u) with
            | true =>
              cases h140 : decide (4095 < a) with
              | true =>
                exact q_no (q_lo2 h140) (q_hi1 h131) (by decide)
              | false =>
                rcases q_len3 (q_lo1 h132) (q_hi2 h134) with he | he | he
                · refine ⟨2, 0, 0, ⟨(q_cX q_AX q_IX q_J0, 40 + 1, 26520 + 6), q_J0 39, ?_, rfl, fun h => absurd h (by decide), Nat.le_of_ble_eq_true rfl, Nat.le_of_ble_eq_true rfl⟩, ⟨(q_cM q_AM (q_uI q_IM 0 39 2) q_J0, 34, 31630), _, ?_, rfl, rfl, Nat.le_of_ble_eq_true rfl, Nat.le_of_ble_eq_true rfl⟩, fun h => absurd h (by decide)⟩
                  · refine q_Ca_of (Nat.le_of_ble_eq_true rfl) ?_
                    refine q_Ru_seg (g2 := (7, [(0, .ref 64), (1, .int a), (2, .int v), (3, .int u), (4, .ref 103)], [.int u, .int v, .int a, .ref 64, .int 0, .ref 103], (q_cX q_AX q_IX q_J0, 40, 26520))) 6 (fun _ _ => rfl) ?_
                    refine q_Ru_callH (E := "java/lang/IllegalArgumentException") (tg := 21) (i := 5) (h2 := (q_cX q_AX q_IX q_J0, 40 + 1, 26520 + 6)) rfl rfl ?_ rfl ?_
                    · refine q_Ca_of (Nat.le_of_ble_eq_true rfl) ?_
                      refine q_Ru_seg (g2 := (1, [(0, .ref 64), (1, .int a), (2, .int v), (3, .int u)], [.int a], (q_cX q_AX q_IX q_J0, 40, 26520))) 1 (fun _ _ => rfl) ?_
                      refine q_Ru_call (v := none) (h2 := (q_cX q_AX q_IX q_J0, 40, 26520)) rfl rfl ?_ ?_
                      · refine q_Ca_of (Nat.le_of_ble_eq_true rfl) ?_
                        refine q_Ru_seg (g2 := (4, [(0, .int a)], [.int 4096, .int a], (q_cX q_AX q_IX q_J0, 40, 26520))) 2 (fun _ _ => rfl) ?_
                        refine q_Ru_call (v := none) (h2 := (q_cX q_AX q_IX q_J0, 40, 26520)) rfl rfl ?_ ?_
                        · refine q_Ca_of (Nat.le_of_ble_eq_true rfl) ?_
                          refine q_Ru_seg (g2 := (1, [(0, .int a), (1, .int 4096)], [.int a], (q_cX q_AX q_IX q_J0, 40, 26520))) 1 (fun _ _ => rfl) ?_
                          refine q_Ru_rsF (g2 := (4, [(0, .int a), (1, .int 4096)], [], (q_cX q_AX q_IX q_J0, 40, 26520))) rfl rfl h130 ?_
                          refine q_Ru_seg (g2 := (6, [(0, .int a), (1, .int 4096)], [.int 4096, .int a], (q_cX q_AX q_IX q_J0, 40, 26520))) 2 (fun _ _ => rfl) ?_
                          refine q_Ru_rsT (g2 := (19, [(0, .int a), (1, .int 4096)], [], (q_cX q_AX q_IX q_J0, 40, 26520))) rfl rfl h131 ?_
                          exact q_Ru_ret rfl rfl
                        show q_Ru _ _ _ (7, [(0, .int a)], [], (q_cX q_AX q_IX q_J0, 40, 26520)) _
                        exact q_Ru_ret rfl rfl
                      show q_Ru _ _ _ (4, [(0, .ref 64), (1, .int a), (2, .int v), (3, .int u)], [], (q_cX q_AX q_IX q_J0, 40, 26520)) _
                      refine q_Ru_seg (g2 := (5, [(0, .ref 64), (1, .int a), (2, .int v), (3, .int u)], [.int v], (q_cX q_AX q_IX q_J0, 40, 26520))) 1 (fun _ _ => rfl) ?_
                      refine q_Ru_call (v := none) (h2 := (q_cX q_AX q_IX q_J0, 40, 26520)) rfl rfl ?_ ?_
                      · refine q_Ca_of (Nat.le_of_ble_eq_true rfl) ?_
                        refine q_Ru_seg (g2 := (5, [(0, .int v)], [.int 255, .int 0, .int v], (q_cX q_AX q_IX q_J0, 40, 26520))) 3 (fun _ _ => rfl) ?_
                        refine q_Ru_call (v := none) (h2 := (q_cX q_AX q_IX q_J0, 40, 26520)) rfl rfl ?_ ?_
                        · refine q_Ca_of (Nat.le_of_ble_eq_true rfl) ?_
                          refine q_Ru_seg (g2 := (2, [(0, .int v), (1, .int 0), (2, .int 255)], [.int 0, .int v], (q_cX q_AX q_IX q_J0, 40, 26520))) 2 (fun _ _ => rfl) ?_
                          refine q_Ru_rsF (g2 := (5, [(0, .int v), (1, .int 0), (2, .int 255)], [], (q_cX q_AX q_IX q_J0, 40, 26520))) rfl rfl h132 ?_
                          refine q_Ru_seg (g2 := (7, [(0, .int v), (1, .int 0), (2, .int 255)], [.int 255, .int v], (q_cX q_AX q_IX q_J0, 40, 26520))) 2 (fun _ _ => rfl) ?_
                          refine q_Ru_rsT (g2 := (20, [(0, .int v), (1, .int 0), (2, .int 255)], [], (q_cX q_AX q_IX q_J0, 40, 26520))) rfl rfl (q_d_geF h134) ?_
                          exact q_Ru_ret rfl rfl
                        show q_Ru _ _ _ (8, [(0, .int v)], [], (q_cX q_AX q_IX q_J0, 40, 26520)) _
                        exact q_Ru_ret rfl rfl
                      show q_Ru _ _ _ (8, [(0, .ref 64), (1, .int a), (2, .int v), (3, .int u)], [], (q_cX q_AX q_IX q_J0, 40, 26520)) _
                      refine q_Ru_seg (g2 := (13, [(0, .ref 64), (1, .int a), (2, .int v), (3, .int u)], [.int 4095, .int 0, .int u], (q_cX q_AX q_IX q_J0, 40, 26520))) 3 (fun _ _ => rfl) ?_
                      refine q_Ru_callX (E := "java/lang/IllegalArgumentException") (h2 := (q_cX q_AX q_IX q_J0, 40 + 1, 26520 + 6)) rfl rfl ?_
                      refine q_Ca_of (Nat.le_of_ble_eq_true rfl) ?_
                      refine q_Ru_seg (g2 := (2, [(0, .int u), (1, .int 0), (2, .int 4095)], [.int 0, .int u], (q_cX q_AX q_IX q_J0, 40, 26520))) 2 (fun _ _ => rfl) ?_
                      refine q_Ru_rsF (g2 := (5, [(0, .int u), (1, .int 0), (2, .int 4095)], [], (q_cX q_AX q_IX q_J0, 40, 26520))) rfl rfl h136 ?_
                      refine q_Ru_seg (g2 := (7, [(0, .int u), (1, .int 0), (2, .int 4095)], [.int 4095, .int u], (q_cX q_AX q_IX q_J0, 40, 26520))) 2 (fun _ _ => rfl) ?_
                      refine q_Ru_rsF (g2 := (10, [(0, .int u), (1, .int 0), (2, .int 4095)], [], (q_cX q_AX q_IX q_J0, 40, 26520))) rfl rfl (q_d_geT h139) ?_
                      exact q_Ru_thr rfl rfl
                    show q_Ru _ _ _ (21, [(0, .ref 64), (1, .int a), (2, .int v), (3, .int u), (4, .ref 103)], [], (q_cX q_AX q_IX q_J0, 40 + 1, 26520 + 6)) _
                    refine q_Ru_seg (g2 := (22, [(0, .ref 64), (1, .int a), (2, .int v), (3, .int u), (4, .ref 103)], [.int 2], (q_cX q_AX q_IX q_J0, 40 + 1, 26520 + 6))) 1 (fun _ _ => rfl) ?_
                    exact q_Ru_ret rfl rfl
                  · refine q_Ca_of (Nat.le_of_ble_eq_true rfl) ?_
                    refine q_Ru_seg (g2 := (2, [(0, .ref 64), (1, .int a), (2, .int v), (3, .int u)], [.int a, .ref 64], (q_cM q_AM q_IM q_J0, 34, 31630))) 2 (fun _ _ => rfl) ?_
                    refine q_Ru_call (v := (some (.int 0))) (h2 := (q_cM q_AM q_IM q_J0, 34, 31630)) rfl rfl ?_ ?_
                    · refine q_Ca_of (Nat.le_of_ble_eq_true rfl) ?_
                      refine q_Ru_seg (g2 := (5, [(0, .int a)], [.int 4095, .int 0, .int a], (q_cM q_AM q_IM q_J0, 34, 31630))) 3 (fun _ _ => rfl) ?_
                      refine q_Ru_call (v := (some (.int 1))) (h2 := (q_cM q_AM q_IM q_J0, 34, 31630)) rfl rfl ?_ ?_
                      · refine q_Ca_of (Nat.le_of_ble_eq_true rfl) ?_
                        refine q_Ru_seg (g2 := (2, [(0, .int a), (1, .int 0), (2, .int 4095)], [.int 0, .int a], (q_cM q_AM q_IM q_J0, 34, 31630))) 2 (fun _ _ => rfl) ?_
                        refine q_Ru_rsF (g2 := (5, [(0, .int a), (1, .int 0), (2, .int 4095)], [], (q_cM q_AM q_IM q_J0, 34, 31630))) rfl rfl h130 ?_
                        refine q_Ru_seg (g2 := (7, [(0, .int a), (1, .int 0), (2, .int 4095)], [.int 4095, .int a], (q_cM q_AM q_IM q_J0, 34, 31630))) 2 (fun _ _ => rfl) ?_
                        refine q_Ru_rsF (g2 := (10, [(0, .int a), (1, .int 0), (2, .int 4095)], [], (q_cM q_AM q_IM q_J0, 34, 31630))) rfl rfl h140 ?_
                        refine q_Ru_seg (g2 := (15, [(0, .int a), (1, .int 0), (2, .int 4095)], [.int 1], (q_cM q_AM q_IM q_J0, 34, 31630))) 2 (fun _ _ => rfl) ?_
                        exact q_Ru_ret rfl rfl
                      show q_Ru _ _ _ (8, [(0, .int a)], [.int 1], (q_cM q_AM q_IM q_J0, 34, 31630)) _
                      refine q_Ru_seg (g2 := (16, [(0, .int a)], [.int 0], (q_cM q_AM q_IM q_J0, 34, 31630))) 2 (fun _ _ => rfl) ?_
                      exact q_Ru_ret rfl rfl
                    show q_Ru _ _ _ (5, [(0, .ref 64), (1, .int a), (2, .int v), (3, .int u)], [.int 0, .ref 64], (q_cM q_AM q_IM q_J0, 34, 31630)) _
                    refine q_Ru_seg (g2 := (13, [(0, .ref 64), (1, .int a), (2, .int v), (3, .int u)], [.int v, .ref 64], (q_cM q_AM q_IM q_J0, 34, 31630))) 2 (fun _ _ => rfl) ?_
                    refine q_Ru_call (v := (some (.int 0))) (h2 := (q_cM q_AM q_IM q_J0, 34, 31630)) rfl rfl ?_ ?_
                    · refine q_Ca_of (Nat.le_of_ble_eq_true rfl) ?_
                      refine q_Ru_seg (g2 := (5, [(0, .int v)], [.int 255, .int 0, .int v], (q_cM q_AM q_IM q_J0, 34, 31630))) 3 (fun _ _ => rfl) ?_
                      refine q_Ru_call (v := (some (.int 1))) (h2 := (q_cM q_AM q_IM q_J0, 34, 31630)) rfl rfl ?_ ?_
                      · refine q_Ca_of (Nat.le_of_ble_eq_true rfl) ?_
                        refine q_Ru_seg (g2 := (2, [(0, .int v), (1, .int 0), (2, .int 255)], [.int 0, .int v], (q_cM q_AM q_IM q_J0, 34, 31630))) 2 (fun _ _ => rfl) ?_
                        refine q_Ru_rsF (g2 := (5, [(0, .int v), (1, .int 0), (2, .int 255)], [], (q_cM q_AM q_IM q_J0, 34, 31630))) rfl rfl h132 ?_
                        refine q_Ru_seg (g2 := (7, [(0, .int v), (1, .int 0), (2, .int 255)], [.int 255, .int v], (q_cM q_AM q_IM q_J0, 34, 31630))) 2 (fun _ _ => rfl) ?_
                        refine q_Ru_rsF (g2 := (10, [(0, .int v), (1, .int 0), (2, .int 255)], [], (q_cM q_AM q_IM q_J0, 34, 31630))) rfl rfl h134 ?_
                        refine q_Ru_seg (g2 := (15, [(0, .int v), (1, .int 0), (2, .int 255)], [.int 1], (q_cM q_AM q_IM q_J0, 34, 31630))) 2 (fun _ _ => rfl) ?_
                        exact q_Ru_ret rfl rfl
                      show q_Ru _ _ _ (8, [(0, .int v)], [.int 1], (q_cM q_AM q_IM q_J0, 34, 31630)) _
                      refine q_Ru_seg (g2 := (16, [(0, .int v)], [.int 0], (q_cM q_AM q_IM q_J0, 34, 31630))) 2 (fun _ _ => rfl) ?_
                      exact q_Ru_ret rfl rfl
                    show q_Ru _ _ _ (16, [(0, .ref 64), (1, .int a), (2, .int v), (3, .int u)], [.int 0, .ref 64], (q_cM q_AM q_IM q_J0, 34, 31630)) _
                    refine q_Ru_seg (g2 := (26, [(0, .ref 64), (1, .int a), (2, .int v), (3, .int u)], [.int (v &&& 255), .int 0, .int u, .ref 64], (q_cM q_AM q_IM q_J0, 34, 31630))) 6 (fun _ _ => rfl) ?_
                    refine q_Ru_call (v := (some (.int 1))) (h2 := (q_cM q_AM q_IM q_J0, 34, 31630)) rfl rfl ?_ ?_
                    · exact (q_lenM2 (q_lo1 h132) (q_hi2 h134) he (q_cM q_AM q_IM q_J0, 34, 31630)).le (Nat.le_of_ble_eq_true rfl)
                    show q_Ru _ _ _ (29, [(0, .ref 64), (1, .int a), (2, .int v), (3, .int u)], [.int 1, .int 0, .int u, .ref 64], (q_cM q_AM q_IM q_J0, 34, 31630)) _
                    refine q_Ru_seg (g2 := (42, [(0, .ref 64), (1, .int a), (2, .int v), (3, .int u)], [.int 4095, .int 0, .int u, .ref 64], (q_cM q_AM q_IM q_J0, 34, 31630))) 3 (fun _ _ => rfl) ?_
                    refine q_Ru_call (v := (some (.int 0))) (h2 := (q_cM q_AM q_IM q_J0, 34, 31630)) rfl rfl ?_ ?_
                    · refine q_Ca_of (Nat.le_of_ble_eq_true rfl) ?_
                      refine q_Ru_seg (g2 := (2, [(0, .int u), (1, .int 0), (2, .int 4095)], [.int 0, .int u], (q_cM q_AM q_IM q_J0, 34, 31630))) 2 (fun _ _ => rfl) ?_
                      refine q_Ru_rsF (g2 := (5, [(0, .int u), (1, .int 0), (2, .int 4095)], [], (q_cM q_AM q_IM q_J0, 34, 31630))) rfl rfl h136 ?_
                      refine q_Ru_seg (g2 := (7, [(0, .int u), (1, .int 0), (2, .int 4095)], [.int 4095, .int u], (q_cM q_AM q_IM q_J0, 34, 31630))) 2 (fun _ _ => rfl) ?_
                      refine q_Ru_rsT (g2 := (14, [(0, .int u), (1, .int 0), (2, .int 4095)], [], (q_cM q_AM q_IM q_J0, 34, 31630))) rfl rfl h139 ?_
                      refine q_Ru_seg (g2 := (15, [(0, .int u), (1, .int 0), (2, .int 4095)], [.int 0], (q_cM q_AM q_IM q_J0, 34, 31630))) 1 (fun _ _ => rfl) ?_
                      exact q_Ru_ret rfl rfl
                    show q_Ru _ _ _ (45, [(0, .ref 64), (1, .int a), (2, .int v), (3, .int u)], [.int 0, .ref 64], (q_cM q_AM q_IM q_J0, 34, 31630)) _
                    refine q_Ru_seg (g2 := (53, [(0, .ref 64), (1, .int a), (2, .int v), (3, .int u)], [.int 2, .ref 64], (q_cM q_AM q_IM q_J0, 34, 31630))) 3 (fun _ _ => rfl) ?_
                    refine q_Ru_call (v := (some (.int 1))) (h2 := (q_cM q_AM (q_uI q_IM 0 39 2) q_J0, 34, 31630)) rfl rfl ?_ ?_
                    · refine q_Ca_of (Nat.le_of_ble_eq_true rfl) ?_
                      refine q_Ru_seg (g2 := (14, [(0, .ref 64), (1, .int 2)], [.int 1], (q_cM q_AM (q_uI q_IM 0 39 2) q_J0, 34, 31630))) 7 (fun _ _ => rfl) ?_
                      exact q_Ru_ret rfl rfl
                    show q_Ru _ _ _ (56, [(0, .ref 64), (1, .int a), (2, .int v), (3, .int u)], [.int 1], (q_cM q_AM (q_uI q_IM 0 39 2) q_J0, 34, 31630)) _
                    refine q_Ru_seg (g2 := (60, [(0, .ref 64), (1, .int a), (2, .int v), (3, .int u)], [.int 0], (q_cM q_AM (q_uI q_IM 0 39 2) q_J0, 34, 31630))) 2 (fun _ _ => rfl) ?_
                    exact q_Ru_ret rfl rfl
                · cases h142 : decide (255 < u) with
                  | true =>
                    refine ⟨2, 0, 0, ⟨(q_cX q_AX q_IX q_J0, 40 + 1, 26520 + 6), q_J0 39, ?_, rfl, fun h => absurd h (by decide), Nat.le_of_ble_eq_true rfl, Nat.le_of_ble_eq_true rfl⟩, ⟨(q_cM q_AM (q_uI q_IM 0 39 2) q_J0, 34, 31630), _, ?_, rfl, rfl, Nat.le_of_ble_eq_true rfl, Nat.le_of_ble_eq_true rfl⟩, fun h => absurd h (by decide)⟩
                    · refine q_Ca_of (Nat.le_of_ble_eq_true rfl) ?_
                      refine q_Ru_seg (g2 := (7, [(0, .ref 64), (1, .int a), (2, .int v), (3, .int u), (4, .ref 103)], [.int u, .int v, .int a, .ref 64, .int 0, .ref 103], (q_cX q_AX q_IX q_J0, 40, 26520))) 6 (fun _ _ => rfl) ?_
                      refine q_Ru_callH (E := "java/lang/IllegalArgumentException") (tg := 21) (i := 5) (h2 := (q_cX q_AX q_IX q_J0, 40 + 1, 26520 + 6)) rfl rfl ?_ rfl ?_
                      · refine q_Ca_of (Nat.le_of_ble_eq_true rfl) ?_
                        refine q_Ru_seg (g2 := (1, [(0, .ref 64), (1, .int a), (2, .int v), (3, .int u)], [.int a], (q_cX q_AX q_IX q_J0, 40, 26520))) 1 (fun _ _ => rfl) ?_
                        refine q_Ru_call (v := none) (h2 := (q_cX q_AX q_IX q_J0, 40, 26520)) rfl rfl ?_ ?_
                        · refine q_Ca_of (Nat.le_of_ble_eq_true rfl) ?_
                          refine q_Ru_seg (g2 := (4, [(0, .int a)], [.int 4096, .int a], (q_cX q_AX q_IX q_J0, 40, 26520))) 2 (fun _ _ => rfl) ?_
                          refine q_Ru_call (v := none) (h2 := (q_cX q_AX q_IX q_J0, 40, 26520)) rfl rfl ?_ ?_
                          · refine q_Ca_of (Nat.le_of_ble_eq_true rfl) ?_
                            refine q_Ru_seg (g2 := (1, [(0, .int a), (1, .int 4096)], [.int a], (q_cX q_AX q_IX q_J0, 40, 26520))) 1 (fun _ _ => rfl) ?_
                            refine q_Ru_rsF (g2 := (4, [(0, .int a), (1, .int 4096)], [], (q_cX q_AX q_IX q_J0, 40, 26520))) rfl rfl h130 ?_
                            refine q_Ru_seg (g2 := (6, [(0, .int a), (1, .int 4096)], [.int 4096, .int a], (q_cX q_AX q_IX q_J0, 40, 26520))) 2 (fun _ _ => rfl) ?_
                            refine q_Ru_rsT (g2 := (19, [(0, .int a), (1, .int 4096)], [], (q_cX q_AX q_IX q_J0, 40, 26520))) rfl rfl h131 ?_
                            exact q_Ru_ret rfl rfl
                          show q_Ru _ _ _ (7, [(0, .int a)], [], (q_cX q_AX q_IX q_J0, 40, 26520)) _
                          exact q_Ru_ret rfl rfl
                        show q_Ru _ _ _ (4, [(0, .ref 64), (1, .int a), (2, .int v), (3, .int u)], [], (q_cX q_AX q_IX q_J0, 40, 26520)) _
                        refine q_Ru_seg (g2 := (5, [(0, .ref 64), (1, .int a), (2, .int v), (3, .int u)], [.int v], (q_cX q_AX q_IX q_J0, 40, 26520))) 1 (fun _ _ => rfl) ?_
                        refine q_Ru_call (v := none) (h2 := (q_cX q_AX q_IX q_J0, 40, 26520)) rfl rfl ?_ ?_
                        · refine q_Ca_of (Nat.le_of_ble_eq_true rfl) ?_
                          refine q_Ru_seg (g2 := (5, [(0, .int v)], [.int 255, .int 0, .int v], (q_cX q_AX q_IX q_J0, 40, 26520))) 3 (fun _ _ => rfl) ?_
                          refine q_Ru_call (v := none) (h2 := (q_cX q_AX q_IX q_J0, 40, 26520)) rfl rfl ?_ ?_
                          · refine q_Ca_of (Nat.le_of_ble_eq_true rfl) ?_
                            refine q_Ru_seg (g2 := (2, [(0, .int v), (1, .int 0), (2, .int 255)], [.int 0, .int v], (q_cX q_AX q_IX q_J0, 40, 26520))) 2 (fun _ _ => rfl) ?_
                            refine q_Ru_rsF (g2 := (5, [(0, .int v), (1, .int 0), (2, .int 255)], [], (q_cX q_AX q_IX q_J0, 40, 26520))) rfl rfl h132 ?_
                            refine q_Ru_seg (g2 := (7, [(0, .int v), (1, .int 0), (2, .int 255)], [.int 255, .int v], (q_cX q_AX q_IX q_J0, 40, 26520))) 2 (fun _ _ => rfl) ?_
                            refine q_Ru_rsT (g2 := (20, [(0, .int v), (1, .int 0), (2, .int 255)], [], (q_cX q_AX q_IX q_J0, 40, 26520))) rfl rfl (q_d_geF h134) ?_
                            exact q_Ru_ret rfl rfl
                          show q_Ru _ _ _ (8, [(0, .int v)], [], (q_cX q_AX q_IX q_J0, 40, 26520)) _
                          exact q_Ru_ret rfl rfl
                        show q_Ru _ _ _ (8, [(0, .ref 64), (1, .int a), (2, .int v), (3, .int u)], [], (q_cX q_AX q_IX q_J0, 40, 26520)) _
                        refine q_Ru_seg (g2 := (13, [(0, .ref 64), (1, .int a), (2, .int v), (3, .int u)], [.int 4095, .int 0, .int u], (q_cX q_AX q_IX q_J0, 40, 26520))) 3 (fun _ _ => rfl) ?_
                        refine q_Ru_callX (E := "java/lang/IllegalArgumentException") (h2 := (q_cX q_AX q_IX q_J0, 40 + 1, 26520 + 6)) rfl rfl ?_
                        refine q_Ca_of (Nat.le_of_ble_eq_true rfl) ?_
                        refine q_Ru_seg (g2 := (2, [(0, .int u), (1, .int 0), (2, .int 4095)], [.int 0, .int u], (q_cX q_AX q_IX q_J0, 40, 26520))) 2 (fun _ _ => rfl) ?_
                        refine q_Ru_rsF (g2 := (5, [(0, .int u), (1, .int 0), (2, .int 4095)], [], (q_cX q_AX q_IX q_J0, 40, 26520))) rfl rfl h136 ?_
                        refine q_Ru_seg (g2 := (7, [(0, .int u), (1, .int 0), (2, .int 4095)], [.int 4095, .int u], (q_cX q_AX q_IX q_J0, 40, 26520))) 2 (fun _ _ => rfl) ?_
                        refine q_Ru_rsF (g2 := (10, [(0, .int u), (1, .int 0), (2, .int 4095)], [], (q_cX q_AX q_IX q_J0, 40, 26520))) rfl rfl (q_d_geT h139) ?_
                        exact q_Ru_thr rfl rfl
                      show q_Ru _ _ _ (21, [(0, .ref 64), (1, .int a), (2, .int v), (3, .int u), (4, .ref 103)], [], (q_cX q_AX q_IX q_J0, 40 + 1, 26520 + 6)) _
                      refine q_Ru_seg (g2 := (22, [(0, .ref 64), (1, .int a), (2, .int v), (3, .int u), (4, .ref 103)], [.int 2], (q_cX q_AX q_IX q_J0, 40 + 1, 26520 + 6))) 1 (fun _ _ => rfl) ?_
                      exact q_Ru_ret rfl rfl
                    · refine q_Ca_of (Nat.le_of_ble_eq_true rfl) ?_
                      refine q_Ru_seg (g2 := (2, [(0, .ref 64), (1, .int a), (2, .int v), (3, .int u)], [.int a, .ref 64], (q_cM q_AM q_IM q_J0, 34, 31630))) 2 (fun _ _ => rfl) ?_
                      refine q_Ru_call (v := (some (.int 0))) (h2 := (q_cM q_AM q_IM q_J0, 34, 31630)) rfl rfl ?_ ?_
                      · refine q_Ca_of (Nat.le_of_ble_eq_true rfl) ?_
                        refine q_Ru_seg (g2 := (5, [(0, .int a)], [.int 4095, .int 0, .int a], (q_cM q_AM q_IM q_J0, 34, 31630))) 3 (fun _ _ => rfl) ?_
                        refine q_Ru_call (v := (some (.int 1))) (h2 := (q_cM q_AM q_IM q_J0, 34, 31630)) rfl rfl ?_ ?_
                        · refine q_Ca_of (Nat.le_of_ble_eq_true rfl) ?_
                          refine q_Ru_seg (g2 := (2, [(0, .int a), (1, .int 0), (2, .int 4095)], [.int 0, .int a], (q_cM q_AM q_IM q_J0, 34, 31630))) 2 (fun _ _ => rfl) ?_
                          refine q_Ru_rsF (g2 := (5, [(0, .int a), (1, .int 0), (2, .int 4095)], [], (q_cM q_AM q_IM q_J0, 34, 31630))) rfl rfl h130 ?_
                          refine q_Ru_seg (g2 := (7, [(0, .int a), (1, .int 0), (2, .int 4095)], [.int 4095, .int a], (q_cM q_AM q_IM q_J0, 34, 31630))) 2 (fun _ _ => rfl) ?_
                          refine q_Ru_rsF (g2 := (10, [(0, .int a), (1, .int 0), (2, .int 4095)], [], (q_cM q_AM q_IM q_J0, 34, 31630))) rfl rfl h140 ?_
                          refine q_Ru_seg (g2 := (15, [(0, .int a), (1, .int 0), (2, .int 4095)], [.int 1], (q_cM q_AM q_IM q_J0, 34, 31630))) 2 (fun _ _ => rfl) ?_
                          exact q_Ru_ret rfl rfl
                        show q_Ru _ _ _ (8, [(0, .int a)], [.int 1], (q_cM q_AM q_IM q_J0, 34, 31630)) _
                        refine q_Ru_seg (g2 := (16, [(0, .int a)], [.int 0], (q_cM q_AM q_IM q_J0, 34, 31630))) 2 (fun _ _ => rfl) ?_
                        exact q_Ru_ret rfl rfl
                      show q_Ru _ _ _ (5, [(0, .ref 64), (1, .int a), (2, .int v), (3, .int u)], [.int 0, .ref 64], (q_cM q_AM q_IM q_J0, 34, 31630)) _
                      refine q_Ru_seg (g2 := (13, [(0, .ref 64), (1, .int a), (2, .int v), (3, .int u)], [.int v, .ref 64], (q_cM q_AM q_IM q_J0, 34, 31630))) 2 (fun _ _ => rfl) ?_
                      refine q_Ru_call (v := (some (.int 0))) (h2 := (q_cM q_AM q_IM q_J0, 34, 31630)) rfl rfl ?_ ?_
                      · refine q_Ca_of (Nat.le_of_ble_eq_true rfl) ?_
                        refine q_Ru_seg (g2 := (5, [(0, .int v)], [.int 255, .int 0, .int v], (q_cM q_AM q_IM q_J0, 34, 31630))) 3 (fun _ _ => rfl) ?_
                        refine q_Ru_call (v := (some (.int 1))) (h2 := (q_cM q_AM q_IM q_J0, 34, 31630)) rfl rfl ?_ ?_
                        · refine q_Ca_of (Nat.le_of_ble_eq_true rfl) ?_
                          refine q_Ru_seg (g2 := (2, [(0, .int v), (1, .int 0), (2, .int 255)], [.int 0, .int v], (q_cM q_AM q_IM q_J0, 34, 31630))) 2 (fun _ _ => rfl) ?_
                          refine q_Ru_rsF (g2 := (5, [(0, .int v), (1, .int 0), (2, .int 255)], [], (q_cM q_AM q_IM q_J0, 34, 31630))) rfl rfl h132 ?_
                          refine q_Ru_seg (g2 := (7, [(0, .int v), (1, .int 0), (2, .int 255)], [.int 255, .int v], (q_cM q_AM q_IM q_J0, 34, 31630))) 2 (fun _ _ => rfl) ?_
                          refine q_Ru_rsF (g2 := (10, [(0, .int v), (1, .int 0), (2, .int 255)], [], (q_cM q_AM q_IM q_J0, 34, 31630))) rfl rfl h134 ?_
                          refine q_Ru_seg (g2 := (15, [(0, .int v), (1, .int 0), (2, .int 255)], [.int 1], (q_cM q_AM q_IM q_J0, 34, 31630))) 2 (fun _ _ => rfl) ?_
                          exact q_Ru_ret rfl rfl
                        show q_Ru _ _ _ (8, [(0, .int v)], [.int 1], (q_cM q_AM q_IM q_J0, 34, 31630)) _
                        refine q_Ru_seg (g2 := (16, [(0, .int v)], [.int 0], (q_cM q_AM q_IM q_J0, 34, 31630))) 2 (fun _ _ => rfl) ?_
                        exact q_Ru_ret rfl rfl
                      show q_Ru _ _ _ (16, [(0, .ref 64), (1, .int a), (2, .int v), (3, .int u)], [.int 0, .ref 64], (q_cM q_AM q_IM q_J0, 34, 31630)) _
                      refine q_Ru_seg (g2 := (26, [(0, .ref 64), (1, .int a), (2, .int v), (3, .int u)], [.int (v &&& 255), .int 0, .int u, .ref 64], (q_cM q_AM q_IM q_J0, 34, 31630))) 6 (fun _ _ => rfl) ?_
                      refine q_Ru_call (v := (some (.int 2))) (h2 := (q_cM q_AM q_IM q_J0, 34, 31630)) rfl rfl ?_ ?_
                      · exact (q_lenM2 (q_lo1 h132) (q_hi2 h134) he (q_cM q_AM q_IM q_J0, 34, 31630)).le (Nat.le_of_ble_eq_true rfl)
                      show q_Ru _ _ _ (29, [(0, .ref 64), (1, .int a), (2, .int v), (3, .int u)], [.int 2, .int 0, .int u, .ref 64], (q_cM q_AM q_IM q_J0, 34, 31630)) _
                      refine q_Ru_seg (g2 := (42, [(0, .ref 64), (1, .int a), (2, .int v), (3, .int u)], [.int 255, .int 0, .int u, .ref 64], (q_cM q_AM q_IM q_J0, 34, 31630))) 4 (fun _ _ => rfl) ?_
                      refine q_Ru_call (v := (some (.int 0))) (h2 := (q_cM q_AM q_IM q_J0, 34, 31630)) rfl rfl ?_ ?_
                      · refine q_Ca_of (Nat.le_of_ble_eq_true rfl) ?_
                        refine q_Ru_seg (g2 := (2, [(0, .int u), (1, .int 0), (2, .int 255)], [.int 0, .int u], (q_cM q_AM q_IM q_J0, 34, 31630))) 2 (fun _ _ => rfl) ?_
                        refine q_Ru_rsF (g2 := (5, [(0, .int u), (1, .int 0), (2, .int 255)], [], (q_cM q_AM q_IM q_J0, 34, 31630))) rfl rfl h136 ?_
                        refine q_Ru_seg (g2 := (7, [(0, .int u), (1, .int 0), (2, .int 255)], [.int 255, .int u], (q_cM q_AM q_IM q_J0, 34, 31630))) 2 (fun _ _ => rfl) ?_
                        refine q_Ru_rsT (g2 := (14, [(0, .int u), (1, .int 0), (2, .int 255)], [], (q_cM q_AM q_IM q_J0, 34, 31630))) rfl rfl h142 ?_
                        refine q_Ru_seg (g2 := (15, [(0, .int u), (1, .int 0), (2, .int 255)], [.int 0], (q_cM q_AM q_IM q_J0, 34, 31630))) 1 (fun _ _ => rfl) ?_
                        exact q_Ru_ret rfl rfl
                      show q_Ru _ _ _ (45, [(0, .ref 64), (1, .int a), (2, .int v), (3, .int u)], [.int 0, .ref 64], (q_cM q_AM q_IM q_J0, 34, 31630)) _
                      refine q_Ru_seg (g2 := (53, [(0, .ref 64), (1, .int a), (2, .int v), (3, .int u)], [.int 2, .ref 64], (q_cM q_AM q_IM q_J0, 34, 31630))) 3 (fun _ _ => rfl) ?_
                      refine q_Ru_call (v := (some (.int 1))) (h2 := (q_cM q_AM (q_uI q_IM 0 39 2) q_J0, 34, 31630)) rfl rfl ?_ ?_
                      · refine q_Ca_of (Nat.le_of_ble_eq_true rfl) ?_
                        refine q_Ru_seg (g2 := (14, [(0, .ref 64), (1, .int 2)], [.int 1], (q_cM q_AM (q_uI q_IM 0 39 2) q_J0, 34, 31630))) 7 (fun _ _ => rfl) ?_
                        exact q_Ru_ret rfl rfl
                      show q_Ru _ _ _ (56, [(0, .ref 64), (1, .int a), (2, .int v), (3, .int u)], [.int 1], (q_cM q_AM (q_uI q_IM 0 39 2) q_J0, 34, 31630)) _
                      refine q_Ru_seg (g2 := (60, [(0, .ref 64), (1, .int a), (2, .int v), (3, .int u)], [.int 0], (q_cM q_AM (q_uI q_IM 0 39 2) q_J0, 34, 31630))) 2 (fun _ _ => rfl) ?_
                      exact q_Ru_ret rfl rfl
                  | false =>
                    exact q_no (q_lo2 h139) (q_hi2 h142) (by decide)
                · refine ⟨2, 0, 0, ⟨(q_cX q_AX q_IX q_J0, 40 + 1, 26520 + 6), q_J0 39, ?_, rfl, fun h => absurd h (by decide), Nat.le_of_ble_eq_true rfl, Nat.le_of_ble_eq_true rfl⟩, ⟨(q_cM q_AM (q_uI q_IM 0 39 2) q_J0, 34, 31630), _, ?_, rfl, rfl, Nat.le_of_ble_eq_true rfl, Nat.le_of_ble_eq_true rfl⟩, fun h => absurd h (by decide)⟩
                  · refine q_Ca_of (Nat.le_of_ble_eq_true rfl) ?_
                    refine q_Ru_seg (g2 := (7, [(0, .ref 64), (1, .int a), (2, .int v), (3, .int u), (4, .ref 103)], [.int u, .int v, .int a, .ref 64, .int 0, .ref 103], (q_cX q_AX q_IX q_J0, 40, 26520))) 6 (fun _ _ => rfl) ?_
                    refine q_Ru_callH (E := "java/lang/IllegalArgumentException") (tg := 21) (i := 5) (h2 := (q_cX q_AX q_IX q_J0, 40 + 1, 26520 + 6)) rfl rfl ?_ rfl ?_
                    · refine q_Ca_of (Nat.le_of_ble_eq_true rfl) ?_
                      refine q_Ru_seg (g2 := (1, [(0, .ref 64), (1, .int a), (2, .int v), (3, .int u)], [.int a], (q_cX q_AX q_IX q_J0, 40, 26520))) 1 (fun _ _ => rfl) ?_
                      refine q_Ru_call (v := none) (h2 := (q_cX q_AX q_IX q_J0, 40, 26520)) rfl rfl ?_ ?_
                      · refine q_Ca_of (Nat.le_of_ble_eq_true rfl) ?_
                        refine q_Ru_seg (g2 := (4, [(0, .int a)], [.int 4096, .int a], (q_cX q_AX q_IX q_J0, 40, 26520))) 2 (fun _ _ => rfl) ?_
                        refine q_Ru_call (v := none) (h2 := (q_cX q_AX q_IX q_J0, 40, 26520)) rfl rfl ?_ ?_
                        · refine q_Ca_of (Nat.le_of_ble_eq_true rfl) ?_
                          refine q_Ru_seg (g2 := (1, [(0, .int a), (1, .int 4096)], [.int a], (q_cX q_AX q_IX q_J0, 40, 26520))) 1 (fun _ _ => rfl) ?_
                          refine q_Ru_rsF (g2 := (4, [(0, .int a), (1, .int 4096)], [], (q_cX q_AX q_IX q_J0, 40, 26520))) rfl rfl h130 ?_
                          refine q_Ru_seg (g2 := (6, [(0, .int a), (1, .int 4096)], [.int 4096, .int a], (q_cX q_AX q_IX q_J0, 40, 26520))) 2 (fun _ _ => rfl) ?_
                          refine q_Ru_rsT (g2 := (19, [(0, .int a), (1, .int 4096)], [], (q_cX q_AX q_IX q_J0, 40, 26520))) rfl rfl h131 ?_
                          exact q_Ru_ret rfl rfl
                        show q_Ru _ _ _ (7, [(0, .int a)], [], (q_cX q_AX q_IX q_J0, 40, 26520)) _
                        exact q_Ru_ret rfl rfl
                      show q_Ru _ _ _ (4, [(0, .ref 64), (1, .int a), (2, .int v), (3, .int u)], [], (q_cX q_AX q_IX q_J0, 40, 26520)) _
                      refine q_Ru_seg (g2 := (5, [(0, .ref 64), (1, .int a), (2, .int v), (3, .int u)], [.int v], (q_cX q_AX q_IX q_J0, 40, 26520))) 1 (fun _ _ => rfl) ?_
                      refine q_Ru_call (v := none) (h2 := (q_cX q_AX q_IX q_J0, 40, 26520)) rfl rfl ?_ ?_
                      · refine q_Ca_of (Nat.le_of_ble_eq_true rfl) ?_
                        refine q_Ru_seg (g2 := (5, [(0, .int v)], [.int 255, .int 0, .int v], (q_cX q_AX q_IX q_J0, 40, 26520))) 3 (fun _ _ => rfl) ?_
                        refine q_Ru_call (v := none) (h2 := (q_cX q_AX q_IX q_J0, 40, 26520)) rfl rfl ?_ ?_
                        · refine q_Ca_of (Nat.le_of_ble_eq_true rfl) ?_
                          refine q_Ru_seg (g2 := (2, [(0, .int v), (1, .int 0), (2, .int 255)], [.int 0, .int v], (q_cX q_AX q_IX q_J0, 40, 26520))) 2 (fun _ _ => rfl) ?_
                          refine q_Ru_rsF (g2 := (5, [(0, .int v), (1, .int 0), (2, .int 255)], [], (q_cX q_AX q_IX q_J0, 40, 26520))) rfl rfl h132 ?_
                          refine q_Ru_seg (g2 := (7, [(0, .int v), (1, .int 0), (2, .int 255)], [.int 255, .int v], (q_cX q_AX q_IX q_J0, 40, 26520))) 2 (fun _ _ => rfl) ?_
                          refine q_Ru_rsT (g2 := (20, [(0, .int v), (1, .int 0), (2, .int 255)], [], (q_cX q_AX q_IX q_J0, 40, 26520))) rfl rfl (q_d_geF h134) ?_
                          exact q_Ru_ret rfl rfl
                        show q_Ru _ _ _ (8, [(0, .int v)], [], (q_cX q_AX q_IX q_J0, 40, 26520)) _
                        exact q_Ru_ret rfl rfl
                      show q_Ru _ _ _ (8, [(0, .ref 64), (1, .int a), (2, .int v), (3, .int u)], [], (q_cX q_AX q_IX q_J0, 40, 26520)) _
                      refine q_Ru_seg (g2 := (13, [(0, .ref 64), (1, .int a), (2, .int v), (3, .int u)], [.int 4095, .int 0, .int u], (q_cX q_AX q_IX q_J0, 40, 26520))) 3 (fun _ _ => rfl) ?_
                      refine q_Ru_callX (E := "java/lang/IllegalArgumentException") (h2 := (q_cX q_AX q_IX q_J0, 40 + 1, 26520 + 6)) rfl rfl ?_
                      refine q_Ca_of (Nat.le_of_ble_eq_true rfl) ?_
                      refine q_Ru_seg (g2 := (2, [(0, .int u), (1, .int 0), (2, .int 4095)], [.int 0, .int u], (q_cX q_AX q_IX q_J0, 40, 26520))) 2 (fun _ _ => rfl) ?_
                      refine q_Ru_rsF (g2 := (5, [(0, .int u), (1, .int 0), (2, .int 4095)], [], (q_cX q_AX q_IX q_J0, 40, 26520))) rfl rfl h136 ?_
                      refine q_Ru_seg (g2 := (7, [(0, .int u), (1, .int 0), (2, .int 4095)], [.int 4095, .int u], (q_cX q_AX q_IX q_J0, 40, 26520))) 2 (fun _ _ => rfl) ?_
                      refine q_Ru_rsF (g2 := (10, [(0, .int u), (1, .int 0), (2, .int 4095)], [], (q_cX q_AX q_IX q_J0, 40, 26520))) rfl rfl (q_d_geT h139) ?_
                      exact q_Ru_thr rfl rfl
                    show q_Ru _ _ _ (21, [(0, .ref 64), (1, .int a), (2, .int v), (3, .int u), (4, .ref 103)], [], (q_cX q_AX q_IX q_J0, 40 + 1, 26520 + 6)) _
                    refine q_Ru_seg (g2 := (22, [(0, .ref 64), (1, .int a), (2, .int v), (3, .int u), (4, .ref 103)], [.int 2], (q_cX q_AX q_IX q_J0, 40 + 1, 26520 + 6))) 1 (fun _ _ => rfl) ?_
                    exact q_Ru_ret rfl rfl
                  · refine q_Ca_of (Nat.le_of_ble_eq_true rfl) ?_
                    refine q_Ru_seg (g2 := (2, [(0, .ref 64), (1, .int a), (2, .int v), (3, .int u)], [.int a, .ref 64], (q_cM q_AM q_IM q_J0, 34, 31630))) 2 (fun _ _ => rfl) ?_
                    refine q_Ru_call (v := (some (.int 0))) (h2 := (q_cM q_AM q_IM q_J0, 34, 31630)) rfl rfl ?_ ?_
                    · refine q_Ca_of (Nat.le_of_ble_eq_true rfl) ?_
                      refine q_Ru_seg (g2 := (5, [(0, .int a)], [.int 4095, .int 0, .int a], (q_cM q_AM q_IM q_J0, 34, 31630))) 3 (fun _ _ => rfl) ?_
                      refine q_Ru_call (v := (some (.int 1))) (h2 := (q_cM q_AM q_IM q_J0, 34, 31630)) rfl rfl ?_ ?_
                      · refine q_Ca_of (Nat.le_of_ble_eq_true rfl) ?_
                        refine q_Ru_seg (g2 := (2, [(0, .int a), (1, .int 0), (2, .int 4095)], [.int 0, .int a], (q_cM q_AM q_IM q_J0, 34, 31630))) 2 (fun _ _ => rfl) ?_
                        refine q_Ru_rsF (g2 := (5, [(0, .int a), (1, .int 0), (2, .int 4095)], [], (q_cM q_AM q_IM q_J0, 34, 31630))) rfl rfl h130 ?_
                        refine q_Ru_seg (g2 := (7, [(0, .int a), (1, .int 0), (2, .int 4095)], [.int 4095, .int a], (q_cM q_AM q_IM q_J0, 34, 31630))) 2 (fun _ _ => rfl) ?_
                        refine q_Ru_rsF (g2 := (10, [(0, .int a), (1, .int 0), (2, .int 4095)], [], (q_cM q_AM q_IM q_J0, 34, 31630))) rfl rfl h140 ?_
                        refine q_Ru_seg (g2 := (15, [(0, .int a), (1, .int 0), (2, .int 4095)], [.int 1], (q_cM q_AM q_IM q_J0, 34, 31630))) 2 (fun _ _ => rfl) ?_
                        exact q_Ru_ret rfl rfl
                      show q_Ru _ _ _ (8, [(0, .int a)], [.int 1], (q_cM q_AM q_IM q_J0, 34, 31630)) _
                      refine q_Ru_seg (g2 := (16, [(0, .int a)], [.int 0], (q_cM q_AM q_IM q_J0, 34, 31630))) 2 (fun _ _ => rfl) ?_
                      exact q_Ru_ret rfl rfl
                    show q_Ru _ _ _ (5, [(0, .ref 64), (1, .int a), (2, .int v), (3, .int u)], [.int 0, .ref 64], (q_cM q_AM q_IM q_J0, 34, 31630)) _
                    refine q_Ru_seg (g2 := (13, [(0, .ref 64), (1, .int a), (2, .int v), (3, .int u)], [.int v, .ref 64], (q_cM q_AM q_IM q_J0, 34, 31630))) 2 (fun _ _ => rfl) ?_
                    refine q_Ru_call (v := (some (.int 0))) (h2 := (q_cM q_AM q_IM q_J0, 34, 31630)) rfl rfl ?_ ?_
                    · refine q_Ca_of (Nat.le_of_ble_eq_true rfl) ?_
                      refine q_Ru_seg (g2 := (5, [(0, .int v)], [.int 255, .int 0, .int v], (q_cM q_AM q_IM q_J0, 34, 31630))) 3 (fun _ _ => rfl) ?_
                      refine q_Ru_call (v := (some (.int 1))) (h2 := (q_cM q_AM q_IM q_J0, 34, 31630)) rfl rfl ?_ ?_
                      · refine q_Ca_of (Nat.le_of_ble_eq_true rfl) ?_
                        refine q_Ru_seg (g2 := (2, [(0, .int v), (1, .int 0), (2, .int 255)], [.int 0, .int v], (q_cM q_AM q_IM q_J0, 34, 31630))) 2 (fun _ _ => rfl) ?_
                        refine q_Ru_rsF (g2 := (5, [(0, .int v), (1, .int 0), (2, .int 255)], [], (q_cM q_AM q_IM q_J0, 34, 31630))) rfl rfl h132 ?_
                        refine q_Ru_seg (g2 := (7, [(0, .int v), (1, .int 0), (2, .int 255)], [.int 255, .int v], (q_cM q_AM q_IM q_J0, 34, 31630))) 2 (fun _ _ => rfl) ?_
                        refine q_Ru_rsF (g2 := (10, [(0, .int v), (1, .int 0), (2, .int 255)], [], (q_cM q_AM q_IM q_J0, 34, 31630))) rfl rfl h134 ?_
                        refine q_Ru_seg (g2 := (15, [(0, .int v), (1, .int 0), (2, .int 255)], [.int 1], (q_cM q_AM q_IM q_J0, 34, 31630))) 2 (fun _ _ => rfl) ?_
                        exact q_Ru_ret rfl rfl
                      show q_Ru _ _ _ (8, [(0, .int v)], [.int 1], (q_cM q_AM q_IM q_J0, 34, 31630)) _
                      refine q_Ru_seg (g2 := (16, [(0, .int v)], [.int 0], (q_cM q_AM q_IM q_J0, 34, 31630))) 2 (fun _ _ => rfl) ?_
                      exact q_Ru_ret rfl rfl
                    show q_Ru _ _ _ (16, [(0, .ref 64), (1, .int a), (2, .int v), (3, .int u)], [.int 0, .ref 64], (q_cM q_AM q_IM q_J0, 34, 31630)) _
                    refine q_Ru_seg (g2 := (26, [(0, .ref 64), (1, .int a), (2, .int v), (3, .int u)], [.int (v &&& 255), .int 0, .int u, .ref 64], (q_cM q_AM q_IM q_J0, 34, 31630))) 6 (fun _ _ => rfl) ?_
                    refine q_Ru_call (v := (some (.int 3))) (h2 := (q_cM q_AM q_IM q_J0, 34, 31630)) rfl rfl ?_ ?_
                    · exact (q_lenM2 (q_lo1 h132) (q_hi2 h134) he (q_cM q_AM q_IM q_J0, 34, 31630)).le (Nat.le_of_ble_eq_true rfl)
                    show q_Ru _ _ _ (29, [(0, .ref 64), (1, .int a), (2, .int v), (3, .int u)], [.int 3, .int 0, .int u, .ref 64], (q_cM q_AM q_IM q_J0, 34, 31630)) _
                    refine q_Ru_seg (g2 := (42, [(0, .ref 64), (1, .int a), (2, .int v), (3, .int u)], [.int 4095, .int 0, .int u, .ref 64], (q_cM q_AM q_IM q_J0, 34, 31630))) 3 (fun _ _ => rfl) ?_
                    refine q_Ru_call (v := (some (.int 0))) (h2 := (q_cM q_AM q_IM q_J0, 34, 31630)) rfl rfl ?_ ?_
                    · refine q_Ca_of (Nat.le_of_ble_eq_true rfl) ?_
                      refine q_Ru_seg (g2 := (2, [(0, .int u), (1, .int 0), (2, .int 4095)], [.int 0, .int u], (q_cM q_AM q_IM q_J0, 34, 31630))) 2 (fun _ _ => rfl) ?_
                      refine q_Ru_rsF (g2 := (5, [(0, .int u), (1, .int 0), (2, .int 4095)], [], (q_cM q_AM q_IM q_J0, 34, 31630))) rfl rfl h136 ?_
                      refine q_Ru_seg (g2 := (7, [(0, .int u), (1, .int 0), (2, .int 4095)], [.int 4095, .int u], (q_cM q_AM q_IM q_J0, 34, 31630))) 2 (fun _ _ => rfl) ?_
                      refine q_Ru_rsT (g2 := (14, [(0, .int u), (1, .int 0), (2, .int 4095)], [], (q_cM q_AM q_IM q_J0, 34, 31630))) rfl rfl h139 ?_
                      refine q_Ru_seg (g2 := (15, [(0, .int u), (1, .int 0), (2, .int 4095)], [.int 0], (q_cM q_AM q_IM q_J0, 34, 31630))) 1 (fun _ _ => rfl) ?_
                      exact q_Ru_ret rfl rfl
                    show q_Ru _ _ _ (45, [(0, .ref 64), (1, .int a), (2, .int v), (3, .int u)], [.int 0, .ref 64], (q_cM q_AM q_IM q_J0, 34, 31630)) _
                    refine q_Ru_seg (g2 := (53, [(0, .ref 64), (1, .int a), (2, .int v), (3, .int u)], [.int 2, .ref 64], (q_cM q_AM q_IM q_J0, 34, 31630))) 3 (fun _ _ => rfl) ?_
                    refine q_Ru_call (v := (some (.int 1))) (h2 := (q_cM q_AM (q_uI q_IM 0 39 2) q_J0, 34, 31630)) rfl rfl ?_ ?_
                    · refine q_Ca_of (Nat.le_of_ble_eq_true rfl) ?_
                      refine q_Ru_seg (g2 := (14, [(0, .ref 64), (1, .int 2)], [.int 1], (q_cM q_AM (q_uI q_IM 0 39 2) q_J0, 34, 31630))) 7 (fun _ _ => rfl) ?_
                      exact q_Ru_ret rfl rfl
                    show q_Ru _ _ _ (56, [(0, .ref 64), (1, .int a), (2, .int v), (3, .int u)], [.int 1], (q_cM q_AM (q_uI q_IM 0 39 2) q_J0, 34, 31630)) _
                    refine q_Ru_seg (g2 := (60, [(0, .ref 64), (1, .int a), (2, .int v), (3, .int u)], [.int 0], (q_cM q_AM (q_uI q_IM 0 39 2) q_J0, 34, 31630))) 2 (fun _ _ => rfl) ?_
                    exact q_Ru_ret rfl rfl
            | false =>
              rcases q_len3 (q_lo1 h132) (q_hi2 h134) with he | he | he
              · cases h144 : decide (4095 < a) with
                | true =>
                  exact q_no (q_lo2 h144) (q_hi1 h131) (by decide)
                | false =>
                  obtain ⟨A9, I9, p9⟩ := q_p_write q_AX q_IX (40) (26520) a v
                  obtain ⟨A10, p10⟩ := q_p_writes q_AM (q_uI q_IM 0 39 0) (34) (31630) a v (q_lo1 h130) (q_hi1 h131)
                  refine ⟨0, (a + 1) &&& 4095, ((a + 1) &&& 4095).toInt64, ⟨(q_cX A9 I9 (q_uA q_J0 39 (vp_updL (fun _ => 0) 0 (((a + 1) &&& 4095).toInt64))), 40, 26520), (q_uA q_J0 39 (vp_updL (fun _ => 0) 0 (((a + 1) &&& 4095).toInt64))) 39, ?_, rfl, fun _ => rfl, Nat.le_of_ble_eq_true rfl, Nat.le_of_ble_eq_true rfl⟩, ⟨(q_cM A10 (q_uI q_IM 0 39 0) q_J0, 34, 31630), _, ?_, rfl, rfl, Nat.le_of_ble_eq_true rfl, Nat.le_of_ble_eq_true rfl⟩, fun _ => rfl⟩
                  · refine q_Ca_of (Nat.le_of_ble_eq_true rfl) ?_
                    refine q_Ru_seg (g2 := (7, [(0, .ref 64), (1, .int a), (2, .int v), (3, .int u), (4, .ref 103)], [.int u, .int v, .int a, .ref 64, .int 0, .ref 103], (q_cX q_AX q_IX q_J0, 40, 26520))) 6 (fun _ _ => rfl) ?_
                    refine q_Ru_call (v := (some (.int ((a + 1) &&& 4095)))) (h2 := (q_cX A9 I9 q_J0, 40, 26520)) rfl rfl ?_ ?_
                    · refine q_Ca_of (Nat.le_of_ble_eq_true rfl) ?_
                      refine q_Ru_seg (g2 := (1, [(0, .ref 64), (1, .int a), (2, .int v), (3, .int u)], [.int a], (q_cX q_AX q_IX q_J0, 40, 26520))) 1 (fun _ _ => rfl) ?_
                      refine q_Ru_call (v := none) (h2 := (q_cX q_AX q_IX q_J0, 40, 26520)) rfl rfl ?_ ?_
                      · refine q_Ca_of (Nat.le_of_ble_eq_true rfl) ?_
                        refine q_Ru_seg (g2 := (4, [(0, .int a)], [.int 4096, .int a], (q_cX q_AX q_IX q_J0, 40, 26520))) 2 (fun _ _ => rfl) ?_
                        refine q_Ru_call (v := none) (h2 := (q_cX q_AX q_IX q_J0, 40, 26520)) rfl rfl ?_ ?_
                        · refine q_Ca_of (Nat.le_of_ble_eq_true rfl) ?_
                          refine q_Ru_seg (g2 := (1, [(0, .int a), (1, .int 4096)], [.int a], (q_cX q_AX q_IX q_J0, 40, 26520))) 1 (fun _ _ => rfl) ?_
                          refine q_Ru_rsF (g2 := (4, [(0, .int a), (1, .int 4096)], [], (q_cX q_AX q_IX q_J0, 40, 26520))) rfl rfl h130 ?_
                          refine q_Ru_seg (g2 := (6, [(0, .int a), (1, .int 4096)], [.int 4096, .int a], (q_cX q_AX q_IX q_J0, 40, 26520))) 2 (fun _ _ => rfl) ?_
                          refine q_Ru_rsT (g2 := (19, [(0, .int a), (1, .int 4096)], [], (q_cX q_AX q_IX q_J0, 40, 26520))) rfl rfl h131 ?_
                          exact q_Ru_ret rfl rfl
                        show q_Ru _ _ _ (7, [(0, .int a)], [], (q_cX q_AX q_IX q_J0, 40, 26520)) _
                        exact q_Ru_ret rfl rfl
                      show q_Ru _ _ _ (4, [(0, .ref 64), (1, .int a), (2, .int v), (3, .int u)], [], (q_cX q_AX q_IX q_J0, 40, 26520)) _
                      refine q_Ru_seg (g2 := (5, [(0, .ref 64), (1, .int a), (2, .int v), (3, .int u)], [.int v], (q_cX q_AX q_IX q_J0, 40, 26520))) 1 (fun _ _ => rfl) ?_
                      refine q_Ru_call (v := none) (h2 := (q_cX q_AX q_IX q_J0, 40, 26520)) rfl rfl ?_ ?_
                      · refine q_Ca_of (Nat.le_of_ble_eq_true rfl) ?_
                        refine q_Ru_seg (g2 := (5, [(0, .int v)], [.int 255, .int 0, .int v], (q_cX q_AX q_IX q_J0, 40, 26520))) 3 (fun _ _ => rfl) ?_
                        refine q_Ru_call (v := none) (h2 := (q_cX q_AX q_IX q_J0, 40, 26520)) rfl rfl ?_ ?_
                        · refine q_Ca_of (Nat.le_of_ble_eq_true rfl) ?_
                          refine q_Ru_seg (g2 := (2, [(0, .int v), (1, .int 0), (2, .int 255)], [.int 0, .int v], (q_cX q_AX q_IX q_J0, 40, 26520))) 2 (fun _ _ => rfl) ?_
                          refine q_Ru_rsF (g2 := (5, [(0, .int v), (1, .int 0), (2, .int 255)], [], (q_cX q_AX q_IX q_J0, 40, 26520))) rfl rfl h132 ?_
                          refine q_Ru_seg (g2 := (7, [(0, .int v), (1, .int 0), (2, .int 255)], [.int 255, .int v], (q_cX q_AX q_IX q_J0, 40, 26520))) 2 (fun _ _ => rfl) ?_
                          refine q_Ru_rsT (g2 := (20, [(0, .int v), (1, .int 0), (2, .int 255)], [], (q_cX q_AX q_IX q_J0, 40, 26520))) rfl rfl (q_d_geF h134) ?_
                          exact q_Ru_ret rfl rfl
                        show q_Ru _ _ _ (8, [(0, .int v)], [], (q_cX q_AX q_IX q_J0, 40, 26520)) _
                        exact q_Ru_ret rfl rfl
                      show q_Ru _ _ _ (8, [(0, .ref 64), (1, .int a), (2, .int v), (3, .int u)], [], (q_cX q_AX q_IX q_J0, 40, 26520)) _
                      refine q_Ru_seg (g2 := (13, [(0, .ref 64), (1, .int a), (2, .int v), (3, .int u)], [.int 4095, .int 0, .int u], (q_cX q_AX q_IX q_J0, 40, 26520))) 3 (fun _ _ => rfl) ?_
                      refine q_Ru_call (v := none) (h2 := (q_cX q_AX q_IX q_J0, 40, 26520)) rfl rfl ?_ ?_
                      · refine q_Ca_of (Nat.le_of_ble_eq_true rfl) ?_
                        refine q_Ru_seg (g2 := (2, [(0, .int u), (1, .int 0), (2, .int 4095)], [.int 0, .int u], (q_cX q_AX q_IX q_J0, 40, 26520))) 2 (fun _ _ => rfl) ?_
                        refine q_Ru_rsF (g2 := (5, [(0, .int u), (1, .int 0), (2, .int 4095)], [], (q_cX q_AX q_IX q_J0, 40, 26520))) rfl rfl h136 ?_
                        refine q_Ru_seg (g2 := (7, [(0, .int u), (1, .int 0), (2, .int 4095)], [.int 4095, .int u], (q_cX q_AX q_IX q_J0, 40, 26520))) 2 (fun _ _ => rfl) ?_
                        refine q_Ru_rsT (g2 := (20, [(0, .int u), (1, .int 0), (2, .int 4095)], [], (q_cX q_AX q_IX q_J0, 40, 26520))) rfl rfl (q_d_geF h139) ?_
                        exact q_Ru_ret rfl rfl
                      show q_Ru _ _ _ (16, [(0, .ref 64), (1, .int a), (2, .int v), (3, .int u)], [], (q_cX q_AX q_IX q_J0, 40, 26520)) _
                      refine q_Ru_seg (g2 := (17, [(0, .ref 64), (1, .int a), (2, .int v), (3, .int u)], [.int v], (q_cX q_AX q_IX q_J0, 40, 26520))) 1 (fun _ _ => rfl) ?_
                      refine q_Ru_call (v := (some (.int 1))) (h2 := (q_cX q_AX q_IX q_J0, 40, 26520)) rfl rfl ?_ ?_
                      · exact (q_lenX1 (q_lo1 h132) (q_hi2 h134) he (q_cX q_AX q_IX q_J0, 40, 26520)).le (Nat.le_of_ble_eq_true rfl)
                      show q_Ru _ _ _ (20, [(0, .ref 64), (1, .int a), (2, .int v), (3, .int u)], [.int 1], (q_cX q_AX q_IX q_J0, 40, 26520)) _
                      refine q_Ru_seg (g2 := (33, [(0, .ref 64), (1, .int a), (2, .int v), (3, .int u)], [.int u, .int v, .int a, .int 3, .ref 64], (q_cX q_AX q_IX q_J0, 40, 26520))) 7 (fun _ _ => rfl) ?_
                      refine q_Ru_call (v := none) (h2 := (q_cX q_AX q_IX q_J0, 40, 26520)) rfl rfl ?_ ?_
                      · refine q_Ca_of (Nat.le_of_ble_eq_true rfl) ?_
                        refine q_Ru_seg (g2 := (19, [(0, .ref 64), (1, .int 3), (2, .int a), (3, .int v), (4, .int u)], [], (q_cX q_AX q_IX q_J0, 40, 26520))) 3 (fun _ _ => rfl) ?_
                        exact q_Ru_ret rfl rfl
                      show q_Ru _ _ _ (36, [(0, .ref 64), (1, .int a), (2, .int v), (3, .int u)], [], (q_cX q_AX q_IX q_J0, 40, 26520)) _
                      refine q_Ru_seg (g2 := (44, [(0, .ref 64), (1, .int a), (2, .int v), (3, .int u)], [.int u, .int v, .int a, .int 3, .ref 65], (q_cX q_AX q_IX q_J0, 40, 26520))) 6 (fun _ _ => rfl) ?_
                      refine q_Ru_call (v := (some (.int ((a + 1) &&& 4095)))) (h2 := (q_cX A9 I9 q_J0, 40, 26520)) rfl rfl ?_ ?_
                      · refine q_Ca_of (Nat.le_of_ble_eq_true rfl) ?_
                        refine q_Ru_seg (g2 := (113, [(0, .ref 65), (1, .int 3), (2, .int a), (3, .int v), (4, .int u)], [.int u, .int v, .int a, .ref 66], (q_cX q_AX q_IX q_J0, 40, 26520))) 7 (fun _ _ => rfl) ?_
                        refine q_Ru_call (v := (some (.int ((a + 1) &&& 4095)))) (h2 := (q_cX A9 I9 q_J0, 40, 26520)) rfl rfl ?_ ?_
                        · refine q_Ca_of (Nat.le_of_ble_eq_true rfl) ?_
                          refine q_Ru_seg (g2 := (1, [(0, .ref 66), (1, .int a), (2, .int v), (3, .int u)], [.int v], (q_cX q_AX q_IX q_J0, 40, 26520))) 1 (fun _ _ => rfl) ?_
                          refine q_Ru_call (v := (some (.int 1))) (h2 := (q_cX q_AX q_IX q_J0, 40, 26520)) rfl rfl ?_ ?_
                          · exact (q_lenX1 (q_lo1 h132) (q_hi2 h134) he (q_cX q_AX q_IX q_J0, 40, 26520)).le (Nat.le_of_ble_eq_true rfl)
                          show q_Ru _ _ _ (4, [(0, .ref 66), (1, .int a), (2, .int v), (3, .int u)], [.int 1], (q_cX q_AX q_IX q_J0, 40, 26520)) _
                          refine q_Ru_seg (g2 := (9, [(4, .int 1), (0, .ref 66), (1, .int a), (2, .int v), (3, .int u)], [.int v, .int a, .ref 66], (q_cX q_AX q_IX q_J0, 40, 26520))) 4 (fun _ _ => rfl) ?_
                          refine q_Ru_call (v := none) (h2 := (q_cX A9 I9 q_J0, 40, 26520)) rfl rfl ?_ ?_
                          · exact p9.le (Nat.le_of_ble_eq_true rfl)
                          show q_Ru _ _ _ (12, [(4, .int 1), (0, .ref 66), (1, .int a), (2, .int v), (3, .int u)], [], (q_cX A9 I9 q_J0, 40, 26520)) _
                          refine q_Ru_seg (g2 := (63, [(4, .int 1), (0, .ref 66), (1, .int a), (2, .int v), (3, .int u)], [.int ((a + 1) &&& 4095)], (q_cX A9 I9 q_J0, 40, 26520))) 11 (fun _ _ => rfl) ?_
                          exact q_Ru_ret rfl rfl
                        show q_Ru _ _ _ (116, [(0, .ref 65), (1, .int 3), (2, .int a), (3, .int v), (4, .int u)], [.int ((a + 1) &&& 4095)], (q_cX A9 I9 q_J0, 40, 26520)) _
                        exact q_Ru_ret rfl rfl
                      show q_Ru _ _ _ (47, [(0, .ref 64), (1, .int a), (2, .int v), (3, .int u)], [.int ((a + 1) &&& 4095)], (q_cX A9 I9 q_J0, 40, 26520)) _
                      exact q_Ru_ret rfl rfl
                    show q_Ru _ _ _ (10, [(0, .ref 64), (1, .int a), (2, .int v), (3, .int u), (4, .ref 103)], [.int ((a + 1) &&& 4095), .int 0, .ref 103], (q_cX A9 I9 q_J0, 40, 26520)) _
                    refine q_Ru_seg (g2 := (24, [(0, .ref 64), (1, .int a), (2, .int v), (3, .int u), (4, .ref 103)], [.int 0], (q_cX A9 I9 (q_uA q_J0 39 (vp_updL (fun _ => 0) 0 (((a + 1) &&& 4095).toInt64))), 40, 26520))) 4 (fun _ _ => rfl) ?_
                    exact q_Ru_ret rfl rfl
                  · refine q_Ca_of (Nat.le_of_ble_eq_true rfl) ?_
                    refine q_Ru_seg (g2 := (2, [(0, .ref 64), (1, .int a), (2, .int v), (3, .int u)], [.int a, .ref 64], (q_cM q_AM q_IM q_J0, 34, 31630))) 2 (fun _ _ => rfl) ?_
                    refine q_Ru_call (v := (some (.int 0))) (h2 := (q_cM q_AM q_IM q_J0, 34, 31630)) rfl rfl ?_ ?_
                    · refine q_Ca_of (Nat.le_of_ble_eq_true rfl) ?_
                      refine q_Ru_seg (g2 := (5, [(0, .int a)], [.int 4095, .int 0, .int a], (q_cM q_AM q_IM q_J0, 34, 31630))) 3 (fun _ _ => rfl) ?_
                      refine q_Ru_call (v := (some (.int 1))) (h2 := (q_cM q_AM q_IM q_J0, 34, 31630)) rfl rfl ?_ ?_
                      · refine q_Ca_of (Nat.le_of_ble_eq_true rfl) ?_
                        refine q_Ru_seg (g2 := (2, [(0, .int a), (1, .int 0), (2, .int 4095)], [.int 0, .int a], (q_cM q_AM q_IM q_J0, 34, 31630))) 2 (fun _ _ => rfl) ?_
                        refine q_Ru_rsF (g2 := (5, [(0, .int a), (1, .int 0), (2, .int 4095)], [], (q_cM q_AM q_IM q_J0, 34, 31630))) rfl rfl h130 ?_
                        refine q_Ru_seg (g2 := (7, [(0, .int a), (1, .int 0), (2, .int 4095)], [.int 4095, .int a], (q_cM q_AM q_IM q_J0, 34, 31630))) 2 (fun _ _ => rfl) ?_
                        refine q_Ru_rsF (g2 := (10, [(0, .int a), (1, .int 0), (2, .int 4095)], [], (q_cM q_AM q_IM q_J0, 34, 31630))) rfl rfl h144 ?_
                        refine q_Ru_seg (g2 := (15, [(0, .int a), (1, .int 0), (2, .int 4095)], [.int 1], (q_cM q_AM q_IM q_J0, 34, 31630))) 2 (fun _ _ => rfl) ?_
                        exact q_Ru_ret rfl rfl
                      show q_Ru _ _ _ (8, [(0, .int a)], [.int 1], (q_cM q_AM q_IM q_J0, 34, 31630)) _
                      refine q_Ru_seg (g2 := (16, [(0, .int a)], [.int 0], (q_cM q_AM q_IM q_J0, 34, 31630))) 2 (fun _ _ => rfl) ?_
                      exact q_Ru_ret rfl rfl
                    show q_Ru _ _ _ (5, [(0, .ref 64), (1, .int a), (2, .int v), (3, .int u)], [.int 0, .ref 64], (q_cM q_AM q_IM q_J0, 34, 31630)) _
                    refine q_Ru_seg (g2 := (13, [(0, .ref 64), (1, .int a), (2, .int v), (3, .int u)], [.int v, .ref 64], (q_cM q_AM q_IM q_J0, 34, 31630))) 2 (fun _ _ => rfl) ?_
                    refine q_Ru_call (v := (some (.int 0))) (h2 := (q_cM q_AM q_IM q_J0, 34, 31630)) rfl rfl ?_ ?_
                    · refine q_Ca_of (Nat.le_of_ble_eq_true rfl) ?_
                      refine q_Ru_seg (g2 := (5, [(0, .int v)], [.int 255, .int 0, .int v], (q_cM q_AM q_IM q_J0, 34, 31630))) 3 (fun _ _ => rfl) ?_
                      refine q_Ru_call (v := (some (.int 1))) (h2 := (q_cM q_AM q_IM q_J0, 34, 31630)) rfl rfl ?_ ?_
                      · refine q_Ca_of (Nat.le_of_ble_eq_true rfl) ?_
                        refine q_Ru_seg (g2 := (2, [(0, .int v), (1, .int 0), (2, .int 255)], [.int 0, .int v], (q_cM q_AM q_IM q_J0, 34, 31630))) 2 (fun _ _ => rfl) ?_
                        refine q_Ru_rsF (g2 := (5, [(0, .int v), (1, .int 0), (2, .int 255)], [], (q_cM q_AM q_IM q_J0, 34, 31630))) rfl rfl h132 ?_
                        refine q_Ru_seg (g2 := (7, [(0, .int v), (1, .int 0), (2, .int 255)], [.int 255, .int v], (q_cM q_AM q_IM q_J0, 34, 31630))) 2 (fun _ _ => rfl) ?_
                        refine q_Ru_rsF (g2 := (10, [(0, .int v), (1, .int 0), (2, .int 255)], [], (q_cM q_AM q_IM q_J0, 34, 31630))) rfl rfl h134 ?_
                        refine q_Ru_seg (g2 := (15, [(0, .int v), (1, .int 0), (2, .int 255)], [.int 1], (q_cM q_AM q_IM q_J0, 34, 31630))) 2 (fun _ _ => rfl) ?_
                        exact q_Ru_ret rfl rfl
                      show q_Ru _ _ _ (8, [(0, .int v)], [.int 1], (q_cM q_AM q_IM q_J0, 34, 31630)) _
                      refine q_Ru_seg (g2 := (16, [(0, .int v)], [.int 0], (q_cM q_AM q_IM q_J0, 34, 31630))) 2 (fun _ _ => rfl) ?_
                      exact q_Ru_ret rfl rfl
                    show q_Ru _ _ _ (16, [(0, .ref 64), (1, .int a), (2, .int v), (3, .int u)], [.int 0, .ref 64], (q_cM q_AM q_IM q_J0, 34, 31630)) _
                    refine q_Ru_seg (g2 := (26, [(0, .ref 64), (1, .int a), (2, .int v), (3, .int u)], [.int (v &&& 255), .int 0, .int u, .ref 64], (q_cM q_AM q_IM q_J0, 34, 31630))) 6 (fun _ _ => rfl) ?_
                    refine q_Ru_call (v := (some (.int 1))) (h2 := (q_cM q_AM q_IM q_J0, 34, 31630)) rfl rfl ?_ ?_
                    · exact (q_lenM2 (q_lo1 h132) (q_hi2 h134) he (q_cM q_AM q_IM q_J0, 34, 31630)).le (Nat.le_of_ble_eq_true rfl)
                    show q_Ru _ _ _ (29, [(0, .ref 64), (1, .int a), (2, .int v), (3, .int u)], [.int 1, .int 0, .int u, .ref 64], (q_cM q_AM q_IM q_J0, 34, 31630)) _
                    refine q_Ru_seg (g2 := (42, [(0, .ref 64), (1, .int a), (2, .int v), (3, .int u)], [.int 4095, .int 0, .int u, .ref 64], (q_cM q_AM q_IM q_J0, 34, 31630))) 3 (fun _ _ => rfl) ?_
                    refine q_Ru_call (v := (some (.int 1))) (h2 := (q_cM q_AM q_IM q_J0, 34, 31630)) rfl rfl ?_ ?_
                    · refine q_Ca_of (Nat.le_of_ble_eq_true rfl) ?_
                      refine q_Ru_seg (g2 := (2, [(0, .int u), (1, .int 0), (2, .int 4095)], [.int 0, .int u], (q_cM q_AM q_IM q_J0, 34, 31630))) 2 (fun _ _ => rfl) ?_
                      refine q_Ru_rsF (g2 := (5, [(0, .int u), (1, .int 0), (2, .int 4095)], [], (q_cM q_AM q_IM q_J0, 34, 31630))) rfl rfl h136 ?_
                      refine q_Ru_seg (g2 := (7, [(0, .int u), (1, .int 0), (2, .int 4095)], [.int 4095, .int u], (q_cM q_AM q_IM q_J0, 34, 31630))) 2 (fun _ _ => rfl) ?_
                      refine q_Ru_rsF (g2 := (10, [(0, .int u), (1, .int 0), (2, .int 4095)], [], (q_cM q_AM q_IM q_J0, 34, 31630))) rfl rfl h139 ?_
                      refine q_Ru_seg (g2 := (15, [(0, .int u), (1, .int 0), (2, .int 4095)], [.int 1], (q_cM q_AM q_IM q_J0, 34, 31630))) 2 (fun _ _ => rfl) ?_
                      exact q_Ru_ret rfl rfl
                    show q_Ru _ _ _ (45, [(0, .ref 64), (1, .int a), (2, .int v), (3, .int u)], [.int 1, .ref 64], (q_cM q_AM q_IM q_J0, 34, 31630)) _
                    refine q_Ru_seg (g2 := (53, [(0, .ref 64), (1, .int a), (2, .int v), (3, .int u)], [.int 0, .ref 64], (q_cM q_AM q_IM q_J0, 34, 31630))) 2 (fun _ _ => rfl) ?_
                    refine q_Ru_call (v := (some (.int 0))) (h2 := (q_cM q_AM (q_uI q_IM 0 39 0) q_J0, 34, 31630)) rfl rfl ?_ ?_
                    · refine q_Ca_of (Nat.le_of_ble_eq_true rfl) ?_
                      refine q_Ru_seg (g2 := (14, [(0, .ref 64), (1, .int 0)], [.int 0], (q_cM q_AM (q_uI q_IM 0 39 0) q_J0, 34, 31630))) 6 (fun _ _ => rfl) ?_
                      exact q_Ru_ret rfl rfl
                    show q_Ru _ _ _ (56, [(0, .ref 64), (1, .int a), (2, .int v), (3, .int u)], [.int 0], (q_cM q_AM (q_uI q_IM 0 39 0) q_J0, 34, 31630)) _
                    refine q_Ru_seg (g2 := (64, [(0, .ref 64), (1, .int a), (2, .int v), (3, .int u)], [.int v, .int a, .ref 64], (q_cM q_AM (q_uI q_IM 0 39 0) q_J0, 34, 31630))) 4 (fun _ _ => rfl) ?_
                    refine q_Ru_call (v := none) (h2 := (q_cM A10 (q_uI q_IM 0 39 0) q_J0, 34, 31630)) rfl rfl ?_ ?_
                    · exact p10.le (Nat.le_of_ble_eq_true rfl)
                    show q_Ru _ _ _ (67, [(0, .ref 64), (1, .int a), (2, .int v), (3, .int u)], [], (q_cM A10 (q_uI q_IM 0 39 0) q_J0, 34, 31630)) _
                    refine q_Ru_seg (g2 := (68, [(0, .ref 64), (1, .int a), (2, .int v), (3, .int u)], [.int v], (q_cM A10 (q_uI q_IM 0 39 0) q_J0, 34, 31630))) 1 (fun _ _ => rfl) ?_
                    refine q_Ru_call (v := (some (.int 1))) (h2 := (q_cM A10 (q_uI q_IM 0 39 0) q_J0, 34, 31630)) rfl rfl ?_ ?_
                    · exact (q_lenM1 (q_lo1 h132) (q_hi2 h134) he (q_cM A10 (q_uI q_IM 0 39 0) q_J0, 34, 31630)).le (Nat.le_of_ble_eq_true rfl)
                    show q_Ru _ _ _ (71, [(0, .ref 64), (1, .int a), (2, .int v), (3, .int u)], [.int 1], (q_cM A10 (q_uI q_IM 0 39 0) q_J0, 34, 31630)) _
                    refine q_Ru_seg (g2 := (91, [(0, .ref 64), (1, .int a), (2, .int v), (3, .int u)], [.int v], (q_cM A10 (q_uI q_IM 0 39 0) q_J0, 34, 31630))) 3 (fun _ _ => rfl) ?_
                    refine q_Ru_call (v := (some (.int 1))) (h2 := (q_cM A10 (q_uI q_IM 0 39 0) q_J0, 34, 31630)) rfl rfl ?_ ?_
                    · exact (q_lenM1 (q_lo1 h132) (q_hi2 h134) he (q_cM A10 (q_uI q_IM 0 39 0) q_J0, 34, 31630)).le (Nat.le_of_ble_eq_true rfl)
                    show q_Ru _ _ _ (94, [(0, .ref 64), (1, .int a), (2, .int v), (3, .int u)], [.int 1], (q_cM A10 (q_uI q_IM 0 39 0) q_J0, 34, 31630)) _
                    refine q_Ru_seg (g2 := (114, [(0, .ref 64), (1, .int a), (2, .int v), (3, .int u)], [.ref 64], (q_cM A10 (q_uI q_IM 0 39 0) q_J0, 34, 31630))) 3 (fun _ _ => rfl) ?_
                    refine q_Ru_call (v := none) (h2 := (q_cM A10 (q_uI q_IM 0 39 0) q_J0, 34, 31630)) rfl rfl ?_ ?_
                    · refine q_Ca_of (Nat.le_of_ble_eq_true rfl) ?_
                      refine q_Ru_seg (g2 := (17, [(0, .ref 64)], [], (q_cM A10 (q_uI q_IM 0 39 0) q_J0, 34, 31630))) 3 (fun _ _ => rfl) ?_
                      exact q_Ru_ret rfl rfl
                    show q_Ru _ _ _ (117, [(0, .ref 64), (1, .int a), (2, .int v), (3, .int u)], [], (q_cM A10 (q_uI q_IM 0 39 0) q_J0, 34, 31630)) _
                    refine q_Ru_seg (g2 := (119, [(0, .ref 64), (1, .int a), (2, .int v), (3, .int u)], [.int v, .int a], (q_cM A10 (q_uI q_IM 0 39 0) q_J0, 34, 31630))) 2 (fun _ _ => rfl) ?_
                    refine q_Ru_call (v := (some (.int 1))) (h2 := (q_cM A10 (q_uI q_IM 0 39 0) q_J0, 34, 31630)) rfl rfl ?_ ?_
                    · exact (q_lenM1 (q_lo1 h132) (q_hi2 h134) he (q_cM A10 (q_uI q_IM 0 39 0) q_J0, 34, 31630)).le (Nat.le_of_ble_eq_true rfl)
                    show q_Ru _ _ _ (122, [(0, .ref 64), (1, .int a), (2, .int v), (3, .int u)], [.int 1, .int a], (q_cM A10 (q_uI q_IM 0 39 0) q_J0, 34, 31630)) _
                    refine q_Ru_seg (g2 := (123, [(0, .ref 64), (1, .int a), (2, .int v), (3, .int u)], [.int (a + 1)], (q_cM A10 (q_uI q_IM 0 39 0) q_J0, 34, 31630))) 1 (fun _ _ => rfl) ?_
                    refine q_Ru_call (v := (some (.int ((a + 1) &&& 4095)))) (h2 := (q_cM A10 (q_uI q_IM 0 39 0) q_J0, 34, 31630)) rfl rfl ?_ ?_
                    · refine q_Ca_of (Nat.le_of_ble_eq_true rfl) ?_
                      refine q_Ru_seg (g2 := (5, [(0, .int (a + 1))], [.int ((a + 1) &&& 4095)], (q_cM A10 (q_uI q_IM 0 39 0) q_J0, 34, 31630))) 3 (fun _ _ => rfl) ?_
                      exact q_Ru_ret rfl rfl
                    show q_Ru _ _ _ (126, [(0, .ref 64), (1, .int a), (2, .int v), (3, .int u)], [.int ((a + 1) &&& 4095)], (q_cM A10 (q_uI q_IM 0 39 0) q_J0, 34, 31630)) _
                    exact q_Ru_ret rfl rfl
              · cases h145 : decide (255 < u) with
                | true =>
                  cases h146 : decide (4095 < a) with
                  | true =>
                    exact q_no (q_lo2 h146) (q_hi1 h131) (by decide)
                  | false =>
                    refine ⟨2, 0, 0, ⟨(q_cX q_AX q_IX q_J0, 40 + 1, 26520 + 6), q_J0 39, ?_, rfl, fun h => absurd h (by decide), Nat.le_of_ble_eq_true rfl, Nat.le_of_ble_eq_true rfl⟩, ⟨(q_cM q_AM (q_uI q_IM 0 39 2) q_J0, 34, 31630), _, ?_, rfl, rfl, Nat.le_of_ble_eq_true rfl, Nat.le_of_ble_eq_true rfl⟩, fun h => absurd h (by decide)⟩
                    · refine q_Ca_of (Nat.le_of_ble_eq_true rfl) ?_
                      refine q_Ru_seg (g2 := (7, [(0, .ref 64), (1, .int a), (2, .int v), (3, .int u), (4, .ref 103)], [.int u, .int v, .int a, .ref 64, .int 0, .ref 103], (q_cX q_AX q_IX q_J0, 40, 26520))) 6 (fun _ _ => rfl) ?_
                      refine q_Ru_callH (E := "java/lang/IllegalArgumentException") (tg := 21) (i := 5) (h2 := (q_cX q_AX q_IX q_J0, 40 + 1, 26520 + 6)) rfl rfl ?_ rfl ?_
                      · refine q_Ca_of (Nat.le_of_ble_eq_true rfl) ?_
                        refine q_Ru_seg (g2 := (1, [(0, .ref 64), (1, .int a), (2, .int v), (3, .int u)], [.int a], (q_cX q_AX q_IX q_J0, 40, 26520))) 1 (fun _ _ => rfl) ?_
                        refine q_Ru_call (v := none) (h2 := (q_cX q_AX q_IX q_J0, 40, 26520)) rfl rfl ?_ ?_
                        · refine q_Ca_of (Nat.le_of_ble_eq_true rfl) ?_
                          refine q_Ru_seg (g2 := (4, [(0, .int a)], [.int 4096, .int a], (q_cX q_AX q_IX q_J0, 40, 26520))) 2 (fun _ _ => rfl) ?_
                          refine q_Ru_call (v := none) (h2 := (q_cX q_AX q_IX q_J0, 40, 26520)) rfl rfl ?_ ?_
                          · refine q_Ca_of (Nat.le_of_ble_eq_true rfl) ?_
                            refine q_Ru_seg (g2 := (1, [(0, .int a), (1, .int 4096)], [.int a], (q_cX q_AX q_IX q_J0, 40, 26520))) 1 (fun _ _ => rfl) ?_
                            refine q_Ru_rsF (g2 := (4, [(0, .int a), (1, .int 4096)], [], (q_cX q_AX q_IX q_J0, 40, 26520))) rfl rfl h130 ?_
                            refine q_Ru_seg (g2 := (6, [(0, .int a), (1, .int 4096)], [.int 4096, .int a], (q_cX q_AX q_IX q_J0, 40, 26520))) 2 (fun _ _ => rfl) ?_
                            refine q_Ru_rsT (g2 := (19, [(0, .int a), (1, .int 4096)], [], (q_cX q_AX q_IX q_J0, 40, 26520))) rfl rfl h131 ?_
                            exact q_Ru_ret rfl rfl
                          show q_Ru _ _ _ (7, [(0, .int a)], [], (q_cX q_AX q_IX q_J0, 40, 26520)) _
                          exact q_Ru_ret rfl rfl
                        show q_Ru _ _ _ (4, [(0, .ref 64), (1, .int a), (2, .int v), (3, .int u)], [], (q_cX q_AX q_IX q_J0, 40, 26520)) _
                        refine q_Ru_seg (g2 := (5, [(0, .ref 64), (1, .int a), (2, .int v), (3, .int u)], [.int v], (q_cX q_AX q_IX q_J0, 40, 26520))) 1 (fun _ _ => rfl) ?_
                        refine q_Ru_call (v := none) (h2 := (q_cX q_AX q_IX q_J0, 40, 26520)) rfl rfl ?_ ?_
                        · refine q_Ca_of (Nat.le_of_ble_eq_true rfl) ?_
                          refine q_Ru_seg (g2 := (5, [(0, .int v)], [.int 255, .int 0, .int v], (q_cX q_AX q_IX q_J0, 40, 26520))) 3 (fun _ _ => rfl) ?_
                          refine q_Ru_call (v := none) (h2 := (q_cX q_AX q_IX q_J0, 40, 26520)) rfl rfl ?_ ?_
                          · refine q_Ca_of (Nat.le_of_ble_eq_true rfl) ?_
                            refine q_Ru_seg (g2 := (2, [(0, .int v), (1, .int 0), (2, .int 255)], [.int 0, .int v], (q_cX q_AX q_IX q_J0, 40, 26520))) 2 (fun _ _ => rfl) ?_
                            refine q_Ru_rsF (g2 := (5, [(0, .int v), (1, .int 0), (2, .int 255)], [], (q_cX q_AX q_IX q_J0, 40, 26520))) rfl rfl h132 ?_
                            refine q_Ru_seg (g2 := (7, [(0, .int v), (1, .int 0), (2, .int 255)], [.int 255, .int v], (q_cX q_AX q_IX q_J0, 40, 26520))) 2 (fun _ _ => rfl) ?_
                            refine q_Ru_rsT (g2 := (20, [(0, .int v), (1, .int 0), (2, .int 255)], [], (q_cX q_AX q_IX q_J0, 40, 26520))) rfl rfl (q_d_geF h134) ?_
                            exact q_Ru_ret rfl rfl
                          show q_Ru _ _ _ (8, [(0, .int v)], [], (q_cX q_AX q_IX q_J0, 40, 26520)) _
                          exact q_Ru_ret rfl rfl
                        show q_Ru _ _ _ (8, [(0, .ref 64), (1, .int a), (2, .int v), (3, .int u)], [], (q_cX q_AX q_IX q_J0, 40, 26520)) _
                        refine q_Ru_seg (g2 := (13, [(0, .ref 64), (1, .int a), (2, .int v), (3, .int u)], [.int 4095, .int 0, .int u], (q_cX q_AX q_IX q_J0, 40, 26520))) 3 (fun _ _ => rfl) ?_
                        refine q_Ru_call (v := none) (h2 := (q_cX q_AX q_IX q_J0, 40, 26520)) rfl rfl ?_ ?_
                        · refine q_Ca_of (Nat.le_of_ble_eq_true rfl) ?_
                          refine q_Ru_seg (g2 := (2, [(0, .int u), (1, .int 0), (2, .int 4095)], [.int 0, .int u], (q_cX q_AX q_IX q_J0, 40, 26520))) 2 (fun _ _ => rfl) ?_
                          refine q_Ru_rsF (g2 := (5, [(0, .int u), (1, .int 0), (2, .int 4095)], [], (q_cX q_AX q_IX q_J0, 40, 26520))) rfl rfl h136 ?_
                          refine q_Ru_seg (g2 := (7, [(0, .int u), (1, .int 0), (2, .int 4095)], [.int 4095, .int u], (q_cX q_AX q_IX q_J0, 40, 26520))) 2 (fun _ _ => rfl) ?_
                          refine q_Ru_rsT (g2 := (20, [(0, .int u), (1, .int 0), (2, .int 4095)], [], (q_cX q_AX q_IX q_J0, 40, 26520))) rfl rfl (q_d_geF h139) ?_
                          exact q_Ru_ret rfl rfl
                        show q_Ru _ _ _ (16, [(0, .ref 64), (1, .int a), (2, .int v), (3, .int u)], [], (q_cX q_AX q_IX q_J0, 40, 26520)) _
                        refine q_Ru_seg (g2 := (17, [(0, .ref 64), (1, .int a), (2, .int v), (3, .int u)], [.int v], (q_cX q_AX q_IX q_J0, 40, 26520))) 1 (fun _ _ => rfl) ?_
                        refine q_Ru_call (v := (some (.int 2))) (h2 := (q_cX q_AX q_IX q_J0, 40, 26520)) rfl rfl ?_ ?_
                        · exact (q_lenX1 (q_lo1 h132) (q_hi2 h134) he (q_cX q_AX q_IX q_J0, 40, 26520)).le (Nat.le_of_ble_eq_true rfl)
                        show q_Ru _ _ _ (20, [(0, .ref 64), (1, .int a), (2, .int v), (3, .int u)], [.int 2], (q_cX q_AX q_IX q_J0, 40, 26520)) _
                        refine q_Ru_seg (g2 := (25, [(0, .ref 64), (1, .int a), (2, .int v), (3, .int u)], [.int u], (q_cX q_AX q_IX q_J0, 40, 26520))) 3 (fun _ _ => rfl) ?_
                        refine q_Ru_callX (E := "java/lang/IllegalArgumentException") (h2 := (q_cX q_AX q_IX q_J0, 40 + 1, 26520 + 6)) rfl rfl ?_
                        refine q_Ca_of (Nat.le_of_ble_eq_true rfl) ?_
                        refine q_Ru_seg (g2 := (5, [(0, .int u)], [.int 255, .int 0, .int u], (q_cX q_AX q_IX q_J0, 40, 26520))) 3 (fun _ _ => rfl) ?_
                        refine q_Ru_callX (E := "java/lang/IllegalArgumentException") (h2 := (q_cX q_AX q_IX q_J0, 40 + 1, 26520 + 6)) rfl rfl ?_
                        refine q_Ca_of (Nat.le_of_ble_eq_true rfl) ?_
                        refine q_Ru_seg (g2 := (2, [(0, .int u), (1, .int 0), (2, .int 255)], [.int 0, .int u], (q_cX q_AX q_IX q_J0, 40, 26520))) 2 (fun _ _ => rfl) ?_
                        refine q_Ru_rsF (g2 := (5, [(0, .int u), (1, .int 0), (2, .int 255)], [], (q_cX q_AX q_IX q_J0, 40, 26520))) rfl rfl h136 ?_
                        refine q_Ru_seg (g2 := (7, [(0, .int u), (1, .int 0), (2, .int 255)], [.int 255, .int u], (q_cX q_AX q_IX q_J0, 40, 26520))) 2 (fun _ _ => rfl) ?_
                        refine q_Ru_rsF (g2 := (10, [(0, .int u), (1, .int 0), (2, .int 255)], [], (q_cX q_AX q_IX q_J0, 40, 26520))) rfl rfl (q_d_geT h145) ?_
                        exact q_Ru_thr rfl rfl
                      show q_Ru _ _ _ (21, [(0, .ref 64), (1, .int a), (2, .int v), (3, .int u), (4, .ref 103)], [], (q_cX q_AX q_IX q_J0, 40 + 1, 26520 + 6)) _
                      refine q_Ru_seg (g2 := (22, [(0, .ref 64), (1, .int a), (2, .int v), (3, .int u), (4, .ref 103)], [.int 2], (q_cX q_AX q_IX q_J0, 40 + 1, 26520 + 6))) 1 (fun _ _ => rfl) ?_
                      exact q_Ru_ret rfl rfl
                    · refine q_Ca_of (Nat.le_of_ble_eq_true rfl) ?_
                      refine q_Ru_seg (g2 := (2, [(0, .ref 64), (1, .int a), (2, .int v), (3, .int u)], [.int a, .ref 64], (q_cM q_AM q_IM q_J0, 34, 31630))) 2 (fun _ _ => rfl) ?_
                      refine q_Ru_call (v := (some (.int 0))) (h2 := (q_cM q_AM q_IM q_J0, 34, 31630)) rfl rfl ?_ ?_
                      · refine q_Ca_of (Nat.le_of_ble_eq_true rfl) ?_
                        refine q_Ru_seg (g2 := (5, [(0, .int a)], [.int 4095, .int 0, .int a], (q_cM q_AM q_IM q_J0, 34, 31630))) 3 (fun _ _ => rfl) ?_
                        refine q_Ru_call (v := (some (.int 1))) (h2 := (q_cM q_AM q_IM q_J0, 34, 31630)) rfl rfl ?_ ?_
                        · refine q_Ca_of (Nat.le_of_ble_eq_true rfl) ?_
                          refine q_Ru_seg (g2 := (2, [(0, .int a), (1, .int 0), (2, .int 4095)], [.int 0, .int a], (q_cM q_AM q_IM q_J0, 34, 31630))) 2 (fun _ _ => rfl) ?_
                          refine q_Ru_rsF (g2 := (5, [(0, .int a), (1, .int 0), (2, .int 4095)], [], (q_cM q_AM q_IM q_J0, 34, 31630))) rfl rfl h130 ?_
                          refine q_Ru_seg (g2 := (7, [(0, .int a), (1, .int 0), (2, .int 4095)], [.int 4095, .int a], (q_cM q_AM q_IM q_J0, 34, 31630))) 2 (fun _ _ => rfl) ?_
                          refine q_Ru_rsF (g2 := (10, [(0, .int a), (1, .int 0), (2, .int 4095)], [], (q_cM q_AM q_IM q_J0, 34, 31630))) rfl rfl h146 ?_
                          refine q_Ru_seg (g2 := (15, [(0, .int a), (1, .int 0), (2, .int 4095)], [.int 1], (q_cM q_AM q_IM q_J0, 34, 31630))) 2 (fun _ _ => rfl) ?_
                          exact q_Ru_ret rfl rfl
                        show q_Ru _ _ _ (8, [(0, .int a)], [.int 1], (q_cM q_AM q_IM q_J0, 34, 31630)) _
                        refine q_Ru_seg (g2 := (16, [(0, .int a)], [.int 0], (q_cM q_AM q_IM q_J0, 34, 31630))) 2 (fun _ _ => rfl) ?_
                        exact q_Ru_ret rfl rfl
                      show q_Ru _ _ _ (5, [(0, .ref 64), (1, .int a), (2, .int v), (3, .int u)], [.int 0, .ref 64], (q_cM q_AM q_IM q_J0, 34, 31630)) _
                      refine q_Ru_seg (g2 := (13, [(0, .ref 64), (1, .int a), (2, .int v), (3, .int u)], [.int v, .ref 64], (q_cM q_AM q_IM q_J0, 34, 31630))) 2 (fun _ _ => rfl) ?_
                      refine q_Ru_call (v := (some (.int 0))) (h2 := (q_cM q_AM q_IM q_J0, 34, 31630)) rfl rfl ?_ ?_
                      · refine q_Ca_of (Nat.le_of_ble_eq_true rfl) ?_
                        refine q_Ru_seg (g2 := (5, [(0, .int v)], [.int 255, .int 0, .int v], (q_cM q_AM q_IM q_J0, 34, 31630))) 3 (fun _ _ => rfl) ?_
                        refine q_Ru_call (v := (some (.int 1))) (h2 := (q_cM q_AM q_IM q_J0, 34, 31630)) rfl rfl ?_ ?_
                        · refine q_Ca_of (Nat.le_of_ble_eq_true rfl) ?_
                          refine q_Ru_seg (g2 := (2, [(0, .int v), (1, .int 0), (2, .int 255)], [.int 0, .int v], (q_cM q_AM q_IM q_J0, 34, 31630))) 2 (fun _ _ => rfl) ?_
                          refine q_Ru_rsF (g2 := (5, [(0, .int v), (1, .int 0), (2, .int 255)], [], (q_cM q_AM q_IM q_J0, 34, 31630))) rfl rfl h132 ?_
                          refine q_Ru_seg (g2 := (7, [(0, .int v), (1, .int 0), (2, .int 255)], [.int 255, .int v], (q_cM q_AM q_IM q_J0, 34, 31630))) 2 (fun _ _ => rfl) ?_
                          refine q_Ru_rsF (g2 := (10, [(0, .int v), (1, .int 0), (2, .int 255)], [], (q_cM q_AM q_IM q_J0, 34, 31630))) rfl rfl h134 ?_
                          refine q_Ru_seg (g2 := (15, [(0, .int v), (1, .int 0), (2, .int 255)], [.int 1], (q_cM q_AM q_IM q_J0, 34, 31630))) 2 (fun _ _ => rfl) ?_
                          exact q_Ru_ret rfl rfl
                        show q_Ru _ _ _ (8, [(0, .int v)], [.int 1], (q_cM q_AM q_IM q_J0, 34, 31630)) _
                        refine q_Ru_seg (g2 := (16, [(0, .int v)], [.int 0], (q_cM q_AM q_IM q_J0, 34, 31630))) 2 (fun _ _ => rfl) ?_
                        exact q_Ru_ret rfl rfl
                      show q_Ru _ _ _ (16, [(0, .ref 64), (1, .int a), (2, .int v), (3, .int u)], [.int 0, .ref 64], (q_cM q_AM q_IM q_J0, 34, 31630)) _
                      refine q_Ru_seg (g2 := (26, [(0, .ref 64), (1, .int a), (2, .int v), (3, .int u)], [.int (v &&& 255), .int 0, .int u, .ref 64], (q_cM q_AM q_IM q_J0, 34, 31630))) 6 (fun _ _ => rfl) ?_
                      refine q_Ru_call (v := (some (.int 2))) (h2 := (q_cM q_AM q_IM q_J0, 34, 31630)) rfl rfl ?_ ?_
                      · exact (q_lenM2 (q_lo1 h132) (q_hi2 h134) he (q_cM q_AM q_IM q_J0, 34, 31630)).le (Nat.le_of_ble_eq_true rfl)
                      show q_Ru _ _ _ (29, [(0, .ref 64), (1, .int a), (2, .int v), (3, .int u)], [.int 2, .int 0, .int u, .ref 64], (q_cM q_AM q_IM q_J0, 34, 31630)) _
                      refine q_Ru_seg (g2 := (42, [(0, .ref 64), (1, .int a), (2, .int v), (3, .int u)], [.int 255, .int 0, .int u, .ref 64], (q_cM q_AM q_IM q_J0, 34, 31630))) 4 (fun _ _ => rfl) ?_
                      refine q_Ru_call (v := (some (.int 0))) (h2 := (q_cM q_AM q_IM q_J0, 34, 31630)) rfl rfl ?_ ?_
                      · refine q_Ca_of (Nat.le_of_ble_eq_true rfl) ?_
                        refine q_Ru_seg (g2 := (2, [(0, .int u), (1, .int 0), (2, .int 255)], [.int 0, .int u], (q_cM q_AM q_IM q_J0, 34, 31630))) 2 (fun _ _ => rfl) ?_
                        refine q_Ru_rsF (g2 := (5, [(0, .int u), (1, .int 0), (2, .int 255)], [], (q_cM q_AM q_IM q_J0, 34, 31630))) rfl rfl h136 ?_
                        refine q_Ru_seg (g2 := (7, [(0, .int u), (1, .int 0), (2, .int 255)], [.int 255, .int u], (q_cM q_AM q_IM q_J0, 34, 31630))) 2 (fun _ _ => rfl) ?_
                        refine q_Ru_rsT (g2 := (14, [(0, .int u), (1, .int 0), (2, .int 255)], [], (q_cM q_AM q_IM q_J0, 34, 31630))) rfl rfl h145 ?_
                        refine q_Ru_seg (g2 := (15, [(0, .int u), (1, .int 0), (2, .int 255)], [.int 0], (q_cM q_AM q_IM q_J0, 34, 31630))) 1 (fun _ _ => rfl) ?_
                        exact q_Ru_ret rfl rfl
                      show q_Ru _ _ _ (45, [(0, .ref 64), (1, .int a), (2, .int v), (3, .int u)], [.int 0, .ref 64], (q_cM q_AM q_IM q_J0, 34, 31630)) _
                      refine q_Ru_seg (g2 := (53, [(0, .ref 64), (1, .int a), (2, .int v), (3, .int u)], [.int 2, .ref 64], (q_cM q_AM q_IM q_J0, 34, 31630))) 3 (fun _ _ => rfl) ?_
                      refine q_Ru_call (v := (some (.int 1))) (h2 := (q_cM q_AM (q_uI q_IM 0 39 2) q_J0, 34, 31630)) rfl rfl ?_ ?_
                      · refine q_Ca_of (Nat.le_of_ble_eq_true rfl) ?_
                        refine q_Ru_seg (g2 := (14, [(0, .ref 64), (1, .int 2)], [.int 1], (q_cM q_AM (q_uI q_IM 0 39 2) q_J0, 34, 31630))) 7 (fun _ _ => rfl) ?_
                        exact q_Ru_ret rfl rfl
                      show q_Ru _ _ _ (56, [(0, .ref 64), (1, .int a), (2, .int v), (3, .int u)], [.int 1], (q_cM q_AM (q_uI q_IM 0 39 2) q_J0, 34, 31630)) _
                      refine q_Ru_seg (g2 := (60, [(0, .ref 64), (1, .int a), (2, .int v), (3, .int u)], [.int 0], (q_cM q_AM (q_uI q_IM 0 39 2) q_J0, 34, 31630))) 2 (fun _ _ => rfl) ?_
                      exact q_Ru_ret rfl rfl
                | false =>
                  cases h147 : decide (4095 < a) with
                  | true =>
                    exact q_no (q_lo2 h147) (q_hi1 h131) (by decide)
                  | false =>
                    obtain ⟨A13, I13, p13⟩ := q_p_write q_AX q_IX (40) (26520) a v
                    obtain ⟨A14, I14, p14⟩ := q_p_write A13 I13 (40) (26520) ((a + 1) &&& 4095) (u &&& 255)
                    obtain ⟨A15, p15⟩ := q_p_writes q_AM (q_uI q_IM 0 39 0) (34) (31630) a v (q_lo1 h130) (q_hi1 h131)
                    obtain ⟨A16, p16⟩ := q_p_writes A15 (q_uI q_IM 0 39 0) (34) (31630) ((a + 1) &&& 4095) (u - u / 256 * 256) (q_and_lo (a + 1) 4095) (q_and_hi (a + 1) 4095 4095)
                    refine ⟨0, (a + 2) &&& 4095, ((a + 2) &&& 4095).toInt64, ⟨(q_cX A14 I14 (q_uA q_J0 39 (vp_updL (fun _ => 0) 0 (((a + 2) &&& 4095).toInt64))), 40, 26520), (q_uA q_J0 39 (vp_updL (fun _ => 0) 0 (((a + 2) &&& 4095).toInt64))) 39, ?_, rfl, fun _ => rfl, Nat.le_of_ble_eq_true rfl, Nat.le_of_ble_eq_true rfl⟩, ⟨(q_cM A16 (q_uI q_IM 0 39 0) q_J0, 34, 31630), _, ?_, rfl, rfl, Nat.le_of_ble_eq_true rfl, Nat.le_of_ble_eq_true rfl⟩, fun _ => rfl⟩
                    · refine q_Ca_of (Nat.le_of_ble_eq_true rfl) ?_
                      refine q_Ru_seg (g2 := (7, [(0, .ref 64), (1, .int a), (2, .int v), (3, .int u), (4, .ref 103)], [.int u, .int v, .int a, .ref 64, .int 0, .ref 103], (q_cX q_AX q_IX q_J0, 40, 26520))) 6 (fun _ _ => rfl) ?_
                      refine q_Ru_call (v := (some (.int ((a + 2) &&& 4095)))) (h2 := (q_cX A14 I14 q_J0, 40, 26520)) rfl rfl ?_ ?_
                      · refine q_Ca_of (Nat.le_of_ble_eq_true rfl) ?_
                        refine q_Ru_seg (g2 := (1, [(0, .ref 64), (1, .int a), (2, .int v), (3, .int u)], [.int a], (q_cX q_AX q_IX q_J0, 40, 26520))) 1 (fun _ _ => rfl) ?_
                        refine q_Ru_call (v := none) (h2 := (q_cX q_AX q_IX q_J0, 40, 26520)) rfl rfl ?_ ?_
                        · refine q_Ca_of (Nat.le_of_ble_eq_true rfl) ?_
                          refine q_Ru_seg (g2 := (4, [(0, .int a)], [.int 4096, .int a], (q_cX q_AX q_IX q_J0, 40, 26520))) 2 (fun _ _ => rfl) ?_
                          refine q_Ru_call (v := none) (h2 := (q_cX q_AX q_IX q_J0, 40, 26520)) rfl rfl ?_ ?_
                          · refine q_Ca_of (Nat.le_of_ble_eq_true rfl) ?_
                            refine q_Ru_seg (g2 := (1, [(0, .int a), (1, .int 4096)], [.int a], (q_cX q_AX q_IX q_J0, 40, 26520))) 1 (fun _ _ => rfl) ?_
                            refine q_Ru_rsF (g2 := (4, [(0, .int a), (1, .int 4096)], [], (q_cX q_AX q_IX q_J0, 40, 26520))) rfl rfl h130 ?_
                            refine q_Ru_seg (g2 := (6, [(0, .int a), (1, .int 4096)], [.int 4096, .int a], (q_cX q_AX q_IX q_J0, 40, 26520))) 2 (fun _ _ => rfl) ?_
                            refine q_Ru_rsT (g2 := (19, [(0, .int a), (1, .int 4096)], [], (q_cX q_AX q_IX q_J0, 40, 26520))) rfl rfl h131 ?_
                            exact q_Ru_ret rfl rfl
                          show q_Ru _ _ _ (7, [(0, .int a)], [], (q_cX q_AX q_IX q_J0, 40, 26520)) _
                          exact q_Ru_ret rfl rfl
                        show q_Ru _ _ _ (4, [(0, .ref 64), (1, .int a), (2, .int v), (3, .int u)], [], (q_cX q_AX q_IX q_J0, 40, 26520)) _
                        refine q_Ru_seg (g2 := (5, [(0, .ref 64), (1, .int a), (2, .int v), (3, .int u)], [.int v], (q_cX q_AX q_IX q_J0, 40, 26520))) 1 (fun _ _ => rfl) ?_
                        refine q_Ru_call (v := none) (h2 := (q_cX q_AX q_IX q_J0, 40, 26520)) rfl rfl ?_ ?_
                        · refine q_Ca_of (Nat.le_of_ble_eq_true rfl) ?_
                          refine q_Ru_seg (g2 := (5, [(0, .int v)], [.int 255, .int 0, .int v], (q_cX q_AX q_IX q_J0, 40, 26520))) 3 (fun _ _ => rfl) ?_
                          refine q_Ru_call (v := none) (h2 := (q_cX q_AX q_IX q_J0, 40, 26520)) rfl rfl ?_ ?_
                          · refine q_Ca_of (Nat.le_of_ble_eq_true rfl) ?_
                            refine q_Ru_seg (g2 := (2, [(0, .int v), (1, .int 0), (2, .int 255)], [.int 0, .int v], (q_cX q_AX q_IX q_J0, 40, 26520))) 2 (fun _ _ => rfl) ?_
                            refine q_Ru_rsF (g2 := (5, [(0, .int v), (1, .int 0), (2, .int 255)], [], (q_cX q_AX q_IX q_J0, 40, 26520))) rfl rfl h132 ?_
                            refine q_Ru_seg (g2 := (7, [(0, .int v), (1, .int 0), (2, .int 255)], [.int 255, .int v], (q_cX q_AX q_IX q_J0, 40, 26520))) 2 (fun _ _ => rfl) ?_
                            refine q_Ru_rsT (g2 := (20, [(0, .int v), (1, .int 0), (2, .int 255)], [], (q_cX q_AX q_IX q_J0, 40, 26520))) rfl rfl (q_d_geF h134) ?_
                            exact q_Ru_ret rfl rfl
                          show q_Ru _ _ _ (8, [(0, .int v)], [], (q_cX q_AX q_IX q_J0, 40, 26520)) _
                          exact q_Ru_ret rfl rfl
                        show q_Ru _ _ _ (8, [(0, .ref 64), (1, .int a), (2, .int v), (3, .int u)], [], (q_cX q_AX q_IX q_J0, 40, 26520)) _
                        refine q_Ru_seg (g2 := (13, [(0, .ref 64), (1, .int a), (2, .int v), (3, .int u)], [.int 4095, .int 0, .int u], (q_cX q_AX q_IX q_J0, 40, 26520))) 3 (fun _ _ => rfl) ?_
                        refine q_Ru_call (v := none) (h2 := (q_cX q_AX q_IX q_J0, 40, 26520)) rfl rfl ?_ ?_
                        · refine q_Ca_of (Nat.le_of_ble_eq_true rfl) ?_
                          refine q_Ru_seg (g2 := (2, [(0, .int u), (1, .int 0), (2, .int 4095)], [.int 0, .int u], (q_cX q_AX q_IX q_J0, 40, 26520))) 2 (fun _ _ => rfl) ?_
                          refine q_Ru_rsF (g2 := (5, [(0, .int u), (1, .int 0), (2, .int 4095)], [], (q_cX q_AX q_IX q_J0, 40, 26520))) rfl rfl h136 ?_
                          refine q_Ru_seg (g2 := (7, [(0, .int u), (1, .int 0), (2, .int 4095)], [.int 4095, .int u], (q_cX q_AX q_IX q_J0, 40, 26520))) 2 (fun _ _ => rfl) ?_
                          refine q_Ru_rsT (g2 := (20, [(0, .int u), (1, .int 0), (2, .int 4095)], [], (q_cX q_AX q_IX q_J0, 40, 26520))) rfl rfl (q_d_geF h139) ?_
                          exact q_Ru_ret rfl rfl
                        show q_Ru _ _ _ (16, [(0, .ref 64), (1, .int a), (2, .int v), (3, .int u)], [], (q_cX q_AX q_IX q_J0, 40, 26520)) _
                        refine q_Ru_seg (g2 := (17, [(0, .ref 64), (1, .int a), (2, .int v), (3, .int u)], [.int v], (q_cX q_AX q_IX q_J0, 40, 26520))) 1 (fun _ _ => rfl) ?_
                        refine q_Ru_call (v := (some (.int 2))) (h2 := (q_cX q_AX q_IX q_J0, 40, 26520)) rfl rfl ?_ ?_
                        · exact (q_lenX1 (q_lo1 h132) (q_hi2 h134) he (q_cX q_AX q_IX q_J0, 40, 26520)).le (Nat.le_of_ble_eq_true rfl)
                        show q_Ru _ _ _ (20, [(0, .ref 64), (1, .int a), (2, .int v), (3, .int u)], [.int 2], (q_cX q_AX q_IX q_J0, 40, 26520)) _
                        refine q_Ru_seg (g2 := (25, [(0, .ref 64), (1, .int a), (2, .int v), (3, .int u)], [.int u], (q_cX q_AX q_IX q_J0, 40, 26520))) 3 (fun _ _ => rfl) ?_
                        refine q_Ru_call (v := none) (h2 := (q_cX q_AX q_IX q_J0, 40, 26520)) rfl rfl ?_ ?_
                        · refine q_Ca_of (Nat.le_of_ble_eq_true rfl) ?_
                          refine q_Ru_seg (g2 := (5, [(0, .int u)], [.int 255, .int 0, .int u], (q_cX q_AX q_IX q_J0, 40, 26520))) 3 (fun _ _ => rfl) ?_
                          refine q_Ru_call (v := none) (h2 := (q_cX q_AX q_IX q_J0, 40, 26520)) rfl rfl ?_ ?_
                          · refine q_Ca_of (Nat.le_of_ble_eq_true rfl) ?_
                            refine q_Ru_seg (g2 := (2, [(0, .int u), (1, .int 0), (2, .int 255)], [.int 0, .int u], (q_cX q_AX q_IX q_J0, 40, 26520))) 2 (fun _ _ => rfl) ?_
                            refine q_Ru_rsF (g2 := (5, [(0, .int u), (1, .int 0), (2, .int 255)], [], (q_cX q_AX q_IX q_J0, 40, 26520))) rfl rfl h136 ?_
                            refine q_Ru_seg (g2 := (7, [(0, .int u), (1, .int 0), (2, .int 255)], [.int 255, .int u], (q_cX q_AX q_IX q_J0, 40, 26520))) 2 (fun _ _ => rfl) ?_
                            refine q_Ru_rsT (g2 := (20, [(0, .int u), (1, .int 0), (2, .int 255)], [], (q_cX q_AX q_IX q_J0, 40, 26520))) rfl rfl (q_d_geF h145) ?_
                            exact q_Ru_ret rfl rfl
                          show q_Ru _ _ _ (8, [(0, .int u)], [], (q_cX q_AX q_IX q_J0, 40, 26520)) _
                          exact q_Ru_ret rfl rfl
                        show q_Ru _ _ _ (28, [(0, .ref 64), (1, .int a), (2, .int v), (3, .int u)], [], (q_cX q_AX q_IX q_J0, 40, 26520)) _
                        refine q_Ru_seg (g2 := (33, [(0, .ref 64), (1, .int a), (2, .int v), (3, .int u)], [.int u, .int v, .int a, .int 3, .ref 64], (q_cX q_AX q_IX q_J0, 40, 26520))) 5 (fun _ _ => rfl) ?_
                        refine q_Ru_call (v := none) (h2 := (q_cX q_AX q_IX q_J0, 40, 26520)) rfl rfl ?_ ?_
                        · refine q_Ca_of (Nat.le_of_ble_eq_true rfl) ?_
                          refine q_Ru_seg (g2 := (19, [(0, .ref 64), (1, .int 3), (2, .int a), (3, .int v), (4, .int u)], [], (q_cX q_AX q_IX q_J0, 40, 26520))) 3 (fun _ _ => rfl) ?_
                          exact q_Ru_ret rfl rfl
                        show q_Ru _ _ _ (36, [(0, .ref 64), (1, .int a), (2, .int v), (3, .int u)], [], (q_cX q_AX q_IX q_J0, 40, 26520)) _
                        refine q_Ru_seg (g2 := (44, [(0, .ref 64), (1, .int a), (2, .int v), (3, .int u)], [.int u, .int v, .int a, .int 3, .ref 65], (q_cX q_AX q_IX q_J0, 40, 26520))) 6 (fun _ _ => rfl) ?_
                        refine q_Ru_call (v := (some (.int ((a + 2) &&& 4095)))) (h2 := (q_cX A14 I14 q_J0, 40, 26520)) rfl rfl ?_ ?_
                        · refine q_Ca_of (Nat.le_of_ble_eq_true rfl) ?_
                          refine q_Ru_seg (g2 := (113, [(0, .ref 65), (1, .int 3), (2, .int a), (3, .int v), (4, .int u)], [.int u, .int v, .int a, .ref 66], (q_cX q_AX q_IX q_J0, 40, 26520))) 7 (fun _ _ => rfl) ?_
                          refine q_Ru_call (v := (some (.int ((a + 2) &&& 4095)))) (h2 := (q_cX A14 I14 q_J0, 40, 26520)) rfl rfl ?_ ?_
                          · refine q_Ca_of (Nat.le_of_ble_eq_true rfl) ?_
                            refine q_Ru_seg (g2 := (1, [(0, .ref 66), (1, .int a), (2, .int v), (3, .int u)], [.int v], (q_cX q_AX q_IX q_J0, 40, 26520))) 1 (fun _ _ => rfl) ?_
                            refine q_Ru_call (v := (some (.int 2))) (h2 := (q_cX q_AX q_IX q_J0, 40, 26520)) rfl rfl ?_ ?_
                            · exact (q_lenX1 (q_lo1 h132) (q_hi2 h134) he (q_cX q_AX q_IX q_J0, 40, 26520)).le (Nat.le_of_ble_eq_true rfl)
                            show q_Ru _ _ _ (4, [(0, .ref 66), (1, .int a), (2, .int v), (3, .int u)], [.int 2], (q_cX q_AX q_IX q_J0, 40, 26520)) _
                            refine q_Ru_seg (g2 := (9, [(4, .int 2), (0, .ref 66), (1, .int a), (2, .int v), (3, .int u)], [.int v, .int a, .ref 66], (q_cX q_AX q_IX q_J0, 40, 26520))) 4 (fun _ _ => rfl) ?_
                            refine q_Ru_call (v := none) (h2 := (q_cX A13 I13 q_J0, 40, 26520)) rfl rfl ?_ ?_
                            · exact p13.le (Nat.le_of_ble_eq_true rfl)
                            show q_Ru _ _ _ (12, [(4, .int 2), (0, .ref 66), (1, .int a), (2, .int v), (3, .int u)], [], (q_cX A13 I13 q_J0, 40, 26520)) _
                            refine q_Ru_seg (g2 := (31, [(4, .int 2), (0, .ref 66), (1, .int a), (2, .int v), (3, .int u)], [.int (u &&& 255), .int ((a + 1) &&& 4095), .ref 66], (q_cX A13 I13 q_J0, 40, 26520))) 12 (fun _ _ => rfl) ?_
                            refine q_Ru_call (v := none) (h2 := (q_cX A14 I14 q_J0, 40, 26520)) rfl rfl ?_ ?_
                            · exact p14.le (Nat.le_of_ble_eq_true rfl)
                            show q_Ru _ _ _ (34, [(4, .int 2), (0, .ref 66), (1, .int a), (2, .int v), (3, .int u)], [], (q_cX A14 I14 q_J0, 40, 26520)) _
                            refine q_Ru_seg (g2 := (63, [(4, .int 2), (0, .ref 66), (1, .int a), (2, .int v), (3, .int u)], [.int ((a + 2) &&& 4095)], (q_cX A14 I14 q_J0, 40, 26520))) 8 (fun _ _ => rfl) ?_
                            exact q_Ru_ret rfl rfl
                          show q_Ru _ _ _ (116, [(0, .ref 65), (1, .int 3), (2, .int a), (3, .int v), (4, .int u)], [.int ((a + 2) &&& 4095)], (q_cX A14 I14 q_J0, 40, 26520)) _
                          exact q_Ru_ret rfl rfl
                        show q_Ru _ _ _ (47, [(0, .ref 64), (1, .int a), (2, .int v), (3, .int u)], [.int ((a + 2) &&& 4095)], (q_cX A14 I14 q_J0, 40, 26520)) _
                        exact q_Ru_ret rfl rfl
                      show q_Ru _ _ _ (10, [(0, .ref 64), (1, .int a), (2, .int v), (3, .int u), (4, .ref 103)], [.int ((a + 2) &&& 4095), .int 0, .ref 103], (q_cX A14 I14 q_J0, 40, 26520)) _
                      refine q_Ru_seg (g2 := (24, [(0, .ref 64), (1, .int a), (2, .int v), (3, .int u), (4, .ref 103)], [.int 0], (q_cX A14 I14 (q_uA q_J0 39 (vp_updL (fun _ => 0) 0 (((a + 2) &&& 4095).toInt64))), 40, 26520))) 4 (fun _ _ => rfl) ?_
                      exact q_Ru_ret rfl rfl
                    · refine q_Ca_of (Nat.le_of_ble_eq_true rfl) ?_
                      refine q_Ru_seg (g2 := (2, [(0, .ref 64), (1, .int a), (2, .int v), (3, .int u)], [.int a, .ref 64], (q_cM q_AM q_IM q_J0, 34, 31630))) 2 (fun _ _ => rfl) ?_
                      refine q_Ru_call (v := (some (.int 0))) (h2 := (q_cM q_AM q_IM q_J0, 34, 31630)) rfl rfl ?_ ?_
                      · refine q_Ca_of (Nat.le_of_ble_eq_true rfl) ?_
                        refine q_Ru_seg (g2 := (5, [(0, .int a)], [.int 4095, .int 0, .int a], (q_cM q_AM q_IM q_J0, 34, 31630))) 3 (fun _ _ => rfl) ?_
                        refine q_Ru_call (v := (some (.int 1))) (h2 := (q_cM q_AM q_IM q_J0, 34, 31630)) rfl rfl ?_ ?_
                        · refine q_Ca_of (Nat.le_of_ble_eq_true rfl) ?_
                          refine q_Ru_seg (g2 := (2, [(0, .int a), (1, .int 0), (2, .int 4095)], [.int 0, .int a], (q_cM q_AM q_IM q_J0, 34, 31630))) 2 (fun _ _ => rfl) ?_
                          refine q_Ru_rsF (g2 := (5, [(0, .int a), (1, .int 0), (2, .int 4095)], [], (q_cM q_AM q_IM q_J0, 34, 31630))) rfl rfl h130 ?_
                          refine q_Ru_seg (g2 := (7, [(0, .int a), (1, .int 0), (2, .int 4095)], [.int 4095, .int a], (q_cM q_AM q_IM q_J0, 34, 31630))) 2 (fun _ _ => rfl) ?_
                          refine q_Ru_rsF (g2 := (10, [(0, .int a), (1, .int 0), (2, .int 4095)], [], (q_cM q_AM q_IM q_J0, 34, 31630))) rfl rfl h147 ?_
                          refine q_Ru_seg (g2 := (15, [(0, .int a), (1, .int 0), (2, .int 4095)], [.int 1], (q_cM q_AM q_IM q_J0, 34, 31630))) 2 (fun _ _ => rfl) ?_
                          exact q_Ru_ret rfl rfl
                        show q_Ru _ _ _ (8, [(0, .int a)], [.int 1], (q_cM q_AM q_IM q_J0, 34, 31630)) _
                        refine q_Ru_seg (g2 := (16, [(0, .int a)], [.int 0], (q_cM q_AM q_IM q_J0, 34, 31630))) 2 (fun _ _ => rfl) ?_
                        exact q_Ru_ret rfl rfl
                      show q_Ru _ _ _ (5, [(0, .ref 64), (1, .int a), (2, .int v), (3, .int u)], [.int 0, .ref 64], (q_cM q_AM q_IM q_J0, 34, 31630)) _
                      refine q_Ru_seg (g2 := (13, [(0, .ref 64), (1, .int a), (2, .int v), (3, .int u)], [.int v, .ref 64], (q_cM q_AM q_IM q_J0, 34, 31630))) 2 (fun _ _ => rfl) ?_
                      refine q_Ru_call (v := (some (.int 0))) (h2 := (q_cM q_AM q_IM q_J0, 34, 31630)) rfl rfl ?_ ?_
                      · refine q_Ca_of (Nat.le_of_ble_eq_true rfl) ?_
                        refine q_Ru_seg (g2 := (5, [(0, .int v)], [.int 255, .int 0, .int v], (q_cM q_AM q_IM q_J0, 34, 31630))) 3 (fun _ _ => rfl) ?_
                        refine q_Ru_call (v := (some (.int 1))) (h2 := (q_cM q_AM q_IM q_J0, 34, 31630)) rfl rfl ?_ ?_
                        · refine q_Ca_of (Nat.le_of_ble_eq_true rfl) ?_
                          refine q_Ru_seg (g2 := (2, [(0, .int v), (1, .int 0), (2, .int 255)], [.int 0, .int v], (q_cM q_AM q_IM q_J0, 34, 31630))) 2 (fun _ _ => rfl) ?_
                          refine q_Ru_rsF (g2 := (5, [(0, .int v), (1, .int 0), (2, .int 255)], [], (q_cM q_AM q_IM q_J0, 34, 31630))) rfl rfl h132 ?_
                          refine q_Ru_seg (g2 := (7, [(0, .int v), (1, .int 0), (2, .int 255)], [.int 255, .int v], (q_cM q_AM q_IM q_J0, 34, 31630))) 2 (fun _ _ => rfl) ?_
                          refine q_Ru_rsF (g2 := (10, [(0, .int v), (1, .int 0), (2, .int 255)], [], (q_cM q_AM q_IM q_J0, 34, 31630))) rfl rfl h134 ?_
                          refine q_Ru_seg (g2 := (15, [(0, .int v), (1, .int 0), (2, .int 255)], [.int 1], (q_cM q_AM q_IM q_J0, 34, 31630))) 2 (fun _ _ => rfl) ?_
                          exact q_Ru_ret rfl rfl
                        show q_Ru _ _ _ (8, [(0, .int v)], [.int 1], (q_cM q_AM q_IM q_J0, 34, 31630)) _
                        refine q_Ru_seg (g2 := (16, [(0, .int v)], [.int 0], (q_cM q_AM q_IM q_J0, 34, 31630))) 2 (fun _ _ => rfl) ?_
                        exact q_Ru_ret rfl rfl
                      show q_Ru _ _ _ (16, [(0, .ref 64), (1, .int a), (2, .int v), (3, .int u)], [.int 0, .ref 64], (q_cM q_AM q_IM q_J0, 34, 31630)) _
                      refine q_Ru_seg (g2 := (26, [(0, .ref 64), (1, .int a), (2, .int v), (3, .int u)], [.int (v &&& 255), .int 0, .int u, .ref 64], (q_cM q_AM q_IM q_J0, 34, 31630))) 6 (fun _ _ => rfl) ?_
                      refine q_Ru_call (v := (some (.int 2))) (h2 := (q_cM q_AM q_IM q_J0, 34, 31630)) rfl rfl ?_ ?_
                      · exact (q_lenM2 (q_lo1 h132) (q_hi2 h134) he (q_cM q_AM q_IM q_J0, 34, 31630)).le (Nat.le_of_ble_eq_true rfl)
                      show q_Ru _ _ _ (29, [(0, .ref 64), (1, .int a), (2, .int v), (3, .int u)], [.int 2, .int 0, .int u, .ref 64], (q_cM q_AM q_IM q_J0, 34, 31630)) _
                      refine q_Ru_seg (g2 := (42, [(0, .ref 64), (1, .int a), (2, .int v), (3, .int u)], [.int 255, .int 0, .int u, .ref 64], (q_cM q_AM q_IM q_J0, 34, 31630))) 4 (fun _ _ => rfl) ?_
                      refine q_Ru_call (v := (some (.int 1))) (h2 := (q_cM q_AM q_IM q_J0, 34, 31630)) rfl rfl ?_ ?_
                      · refine q_Ca_of (Nat.le_of_ble_eq_true rfl) ?_
                        refine q_Ru_seg (g2 := (2, [(0, .int u), (1, .int 0), (2, .int 255)], [.int 0, .int u], (q_cM q_AM q_IM q_J0, 34, 31630))) 2 (fun _ _ => rfl) ?_
                        refine q_Ru_rsF (g2 := (5, [(0, .int u), (1, .int 0), (2, .int 255)], [], (q_cM q_AM q_IM q_J0, 34, 31630))) rfl rfl h136 ?_
                        refine q_Ru_seg (g2 := (7, [(0, .int u), (1, .int 0), (2, .int 255)], [.int 255, .int u], (q_cM q_AM q_IM q_J0, 34, 31630))) 2 (fun _ _ => rfl) ?_
                        refine q_Ru_rsF (g2 := (10, [(0, .int u), (1, .int 0), (2, .int 255)], [], (q_cM q_AM q_IM q_J0, 34, 31630))) rfl rfl h145 ?_
                        refine q_Ru_seg (g2 := (15, [(0, .int u), (1, .int 0), (2, .int 255)], [.int 1], (q_cM q_AM q_IM q_J0, 34, 31630))) 2 (fun _ _ => rfl) ?_
                        exact q_Ru_ret rfl rfl
                      show q_Ru _ _ _ (45, [(0, .ref 64), (1, .int a), (2, .int v), (3, .int u)], [.int 1, .ref 64], (q_cM q_AM q_IM q_J0, 34, 31630)) _
                      refine q_Ru_seg (g2 := (53, [(0, .ref 64), (1, .int a), (2, .int v), (3, .int u)], [.int 0, .ref 64], (q_cM q_AM q_IM q_J0, 34, 31630))) 2 (fun _ _ => rfl) ?_
                      refine q_Ru_call (v := (some (.int 0))) (h2 := (q_cM q_AM (q_uI q_IM 0 39 0) q_J0, 34, 31630)) rfl rfl ?_ ?_
                      · refine q_Ca_of (Nat.le_of_ble_eq_true rfl) ?_
                        refine q_Ru_seg (g2 := (14, [(0, .ref 64), (1, .int 0)], [.int 0], (q_cM q_AM (q_uI q_IM 0 39 0) q_J0, 34, 31630))) 6 (fun _ _ => rfl) ?_
                        exact q_Ru_ret rfl rfl
                      show q_Ru _ _ _ (56, [(0, .ref 64), (1, .int a), (2, .int v), (3, .int u)], [.int 0], (q_cM q_AM (q_uI q_IM 0 39 0) q_J0, 34, 31630)) _
                      refine q_Ru_seg (g2 := (64, [(0, .ref 64), (1, .int a), (2, .int v), (3, .int u)], [.int v, .int a, .ref 64], (q_cM q_AM (q_uI q_IM 0 39 0) q_J0, 34, 31630))) 4 (fun _ _ => rfl) ?_
                      refine q_Ru_call (v := none) (h2 := (q_cM A15 (q_uI q_IM 0 39 0) q_J0, 34, 31630)) rfl rfl ?_ ?_
                      · exact p15.le (Nat.le_of_ble_eq_true rfl)
                      show q_Ru _ _ _ (67, [(0, .ref 64), (1, .int a), (2, .int v), (3, .int u)], [], (q_cM A15 (q_uI q_IM 0 39 0) q_J0, 34, 31630)) _
                      refine q_Ru_seg (g2 := (68, [(0, .ref 64), (1, .int a), (2, .int v), (3, .int u)], [.int v], (q_cM A15 (q_uI q_IM 0 39 0) q_J0, 34, 31630))) 1 (fun _ _ => rfl) ?_
                      refine q_Ru_call (v := (some (.int 2))) (h2 := (q_cM A15 (q_uI q_IM 0 39 0) q_J0, 34, 31630)) rfl rfl ?_ ?_
                      · exact (q_lenM1 (q_lo1 h132) (q_hi2 h134) he (q_cM A15 (q_uI q_IM 0 39 0) q_J0, 34, 31630)).le (Nat.le_of_ble_eq_true rfl)
                      show q_Ru _ _ _ (71, [(0, .ref 64), (1, .int a), (2, .int v), (3, .int u)], [.int 2], (q_cM A15 (q_uI q_IM 0 39 0) q_J0, 34, 31630)) _
                      refine q_Ru_seg (g2 := (79, [(0, .ref 64), (1, .int a), (2, .int v), (3, .int u)], [.int (a + 1), .ref 64], (q_cM A15 (q_uI q_IM 0 39 0) q_J0, 34, 31630))) 6 (fun _ _ => rfl) ?_
                      refine q_Ru_call (v := (some (.int ((a + 1) &&& 4095)))) (h2 := (q_cM A15 (q_uI q_IM 0 39 0) q_J0, 34, 31630)) rfl rfl ?_ ?_
                      · refine q_Ca_of (Nat.le_of_ble_eq_true rfl) ?_
                        refine q_Ru_seg (g2 := (5, [(0, .int (a + 1))], [.int ((a + 1) &&& 4095)], (q_cM A15 (q_uI q_IM 0 39 0) q_J0, 34, 31630))) 3 (fun _ _ => rfl) ?_
                        exact q_Ru_ret rfl rfl
                      show q_Ru _ _ _ (82, [(0, .ref 64), (1, .int a), (2, .int v), (3, .int u)], [.int ((a + 1) &&& 4095), .ref 64], (q_cM A15 (q_uI q_IM 0 39 0) q_J0, 34, 31630)) _
                      refine q_Ru_seg (g2 := (87, [(0, .ref 64), (1, .int a), (2, .int v), (3, .int u)], [.int (u - u / 256 * 256), .int ((a + 1) &&& 4095), .ref 64], (q_cM A15 (q_uI q_IM 0 39 0) q_J0, 34, 31630))) 3 (fun _ _ => rfl) ?_
                      refine q_Ru_call (v := none) (h2 := (q_cM A16 (q_uI q_IM 0 39 0) q_J0, 34, 31630)) rfl rfl ?_ ?_
                      · exact p16.le (Nat.le_of_ble_eq_true rfl)
                      show q_Ru _ _ _ (90, [(0, .ref 64), (1, .int a), (2, .int v), (3, .int u)], [], (q_cM A16 (q_uI q_IM 0 39 0) q_J0, 34, 31630)) _
                      refine q_Ru_seg (g2 := (91, [(0, .ref 64), (1, .int a), (2, .int v), (3, .int u)], [.int v], (q_cM A16 (q_uI q_IM 0 39 0) q_J0, 34, 31630))) 1 (fun _ _ => rfl) ?_
                      refine q_Ru_call (v := (some (.int 2))) (h2 := (q_cM A16 (q_uI q_IM 0 39 0) q_J0, 34, 31630)) rfl rfl ?_ ?_
                      · exact (q_lenM1 (q_lo1 h132) (q_hi2 h134) he (q_cM A16 (q_uI q_IM 0 39 0) q_J0, 34, 31630)).le (Nat.le_of_ble_eq_true rfl)
                      show q_Ru _ _ _ (94, [(0, .ref 64), (1, .int a), (2, .int v), (3, .int u)], [.int 2], (q_cM A16 (q_uI q_IM 0 39 0) q_J0, 34, 31630)) _
                      refine q_Ru_seg (g2 := (114, [(0, .ref 64), (1, .int a), (2, .int v), (3, .int u)], [.ref 64], (q_cM A16 (q_uI q_IM 0 39 0) q_J0, 34, 31630))) 3 (fun _ _ => rfl) ?_
                      refine q_Ru_call (v := none) (h2 := (q_cM A16 (q_uI q_IM 0 39 0) q_J0, 34, 31630)) rfl rfl ?_ ?_
                      · refine q_Ca_of (Nat.le_of_ble_eq_true rfl) ?_
                        refine q_Ru_seg (g2 := (17, [(0, .ref 64)], [], (q_cM A16 (q_uI q_IM 0 39 0) q_J0, 34, 31630))) 3 (fun _ _ => rfl) ?_
                        exact q_Ru_ret rfl rfl
                      show q_Ru _ _ _ (117, [(0, .ref 64), (1, .int a), (2, .int v), (3, .int u)], [], (q_cM A16 (q_uI q_IM 0 39 0) q_J0, 34, 31630)) _
                      refine q_Ru_seg (g2 := (119, [(0, .ref 64), (1, .int a), (2, .int v), (3, .int u)], [.int v, .int a], (q_cM A16 (q_uI q_IM 0 39 0) q_J0, 34, 31630))) 2 (fun _ _ => rfl) ?_
                      refine q_Ru_call (v := (some (.int 2))) (h2 := (q_cM A16 (q_uI q_IM 0 39 0) q_J0, 34, 31630)) rfl rfl ?_ ?_
                      · exact (q_lenM1 (q_lo1 h132) (q_hi2 h134) he (q_cM A16 (q_uI q_IM 0 39 0) q_J0, 34, 31630)).le (Nat.le_of_ble_eq_true rfl)
                      show q_Ru _ _ _ (122, [(0, .ref 64), (1, .int a), (2, .int v), (3, .int u)], [.int 2, .int a], (q_cM A16 (q_uI q_IM 0 39 0) q_J0, 34, 31630)) _
                      refine q_Ru_seg (g2 := (123, [(0, .ref 64), (1, .int a), (2, .int v), (3, .int u)], [.int (a + 2)], (q_cM A16 (q_uI q_IM 0 39 0) q_J0, 34, 31630))) 1 (fun _ _ => rfl) ?_
                      refine q_Ru_call (v := (some (.int ((a + 2) &&& 4095)))) (h2 := (q_cM A16 (q_uI q_IM 0 39 0) q_J0, 34, 31630)) rfl rfl ?_ ?_
                      · refine q_Ca_of (Nat.le_of_ble_eq_true rfl) ?_
                        refine q_Ru_seg (g2 := (5, [(0, .int (a + 2))], [.int ((a + 2) &&& 4095)], (q_cM A16 (q_uI q_IM 0 39 0) q_J0, 34, 31630))) 3 (fun _ _ => rfl) ?_
                        exact q_Ru_ret rfl rfl
                      show q_Ru _ _ _ (126, [(0, .ref 64), (1, .int a), (2, .int v), (3, .int u)], [.int ((a + 2) &&& 4095)], (q_cM A16 (q_uI q_IM 0 39 0) q_J0, 34, 31630)) _
                      exact q_Ru_ret rfl rfl
              · cases h148 : decide (4095 < a) with
                | true =>
                  exact q_no (q_lo2 h148) (q_hi1 h131) (by decide)
                | false =>
                  obtain ⟨A20, I20, p20⟩ := q_p_write q_AX q_IX (40) (26520) a v
                  obtain ⟨A21, I21, p21⟩ := q_p_write A20 I20 (40) (26520) ((a + 1) &&& 4095) (u &&& 255)
                  obtain ⟨A22, I22, p22⟩ := q_p_write A21 I21 (40) (26520) ((a + 2) &&& 4095) (u >>> (8 &&& 31))
                  obtain ⟨A23, p23⟩ := q_p_writes q_AM (q_uI q_IM 0 39 0) (34) (31630) a v (q_lo1 h130) (q_hi1 h131)
                  obtain ⟨A24, p24⟩ := q_p_writes A23 (q_uI q_IM 0 39 0) (34) (31630) ((a + 1) &&& 4095) (u - u / 256 * 256) (q_and_lo (a + 1) 4095) (q_and_hi (a + 1) 4095 4095)
                  obtain ⟨A25, p25⟩ := q_p_writes A24 (q_uI q_IM 0 39 0) (34) (31630) ((a + 2) &&& 4095) (u / 256) (q_and_lo (a + 2) 4095) (q_and_hi (a + 2) 4095 4095)
                  refine ⟨0, (a + 3) &&& 4095, ((a + 3) &&& 4095).toInt64, ⟨(q_cX A22 I22 (q_uA q_J0 39 (vp_updL (fun _ => 0) 0 (((a + 3) &&& 4095).toInt64))), 40, 26520), (q_uA q_J0 39 (vp_updL (fun _ => 0) 0 (((a + 3) &&& 4095).toInt64))) 39, ?_, rfl, fun _ => rfl, Nat.le_of_ble_eq_true rfl, Nat.le_of_ble_eq_true rfl⟩, ⟨(q_cM A25 (q_uI q_IM 0 39 0) q_J0, 34, 31630), _, ?_, rfl, rfl, Nat.le_of_ble_eq_true rfl, Nat.le_of_ble_eq_true rfl⟩, fun _ => rfl⟩
                  · refine q_Ca_of (Nat.le_of_ble_eq_true rfl) ?_
                    refine q_Ru_seg (g2 := (7, [(0, .ref 64), (1, .int a), (2, .int v), (3, .int u), (4, .ref 103)], [.int u, .int v, .int a, .ref 64, .int 0, .ref 103], (q_cX q_AX q_IX q_J0, 40, 26520))) 6 (fun _ _ => rfl) ?_
                    refine q_Ru_call (v := (some (.int ((a + 3) &&& 4095)))) (h2 := (q_cX A22 I22 q_J0, 40, 26520)) rfl rfl ?_ ?_
                    · refine q_Ca_of (Nat.le_of_ble_eq_true rfl) ?_
                      refine q_Ru_seg (g2 := (1, [(0, .ref 64), (1, .int a), (2, .int v), (3, .int u)], [.int a], (q_cX q_AX q_IX q_J0, 40, 26520))) 1 (fun _ _ => rfl) ?_
                      refine q_Ru_call (v := none) (h2 := (q_cX q_AX q_IX q_J0, 40, 26520)) rfl rfl ?_ ?_
                      · refine q_Ca_of (Nat.le_of_ble_eq_true rfl) ?_
                        refine q_Ru_seg (g2 := (4, [(0, .int a)], [.int 4096, .int a], (q_cX q_AX q_IX q_J0, 40, 26520))) 2 (fun _ _ => rfl) ?_
                        refine q_Ru_call (v := none) (h2 := (q_cX q_AX q_IX q_J0, 40, 26520)) rfl rfl ?_ ?_
                        · refine q_Ca_of (Nat.le_of_ble_eq_true rfl) ?_
                          refine q_Ru_seg (g2 := (1, [(0, .int a), (1, .int 4096)], [.int a], (q_cX q_AX q_IX q_J0, 40, 26520))) 1 (fun _ _ => rfl) ?_
                          refine q_Ru_rsF (g2 := (4, [(0, .int a), (1, .int 4096)], [], (q_cX q_AX q_IX q_J0, 40, 26520))) rfl rfl h130 ?_
                          refine q_Ru_seg (g2 := (6, [(0, .int a), (1, .int 4096)], [.int 4096, .int a], (q_cX q_AX q_IX q_J0, 40, 26520))) 2 (fun _ _ => rfl) ?_
                          refine q_Ru_rsT (g2 := (19, [(0, .int a), (1, .int 4096)], [], (q_cX q_AX q_IX q_J0, 40, 26520))) rfl rfl h131 ?_
                          exact q_Ru_ret rfl rfl
                        show q_Ru _ _ _ (7, [(0, .int a)], [], (q_cX q_AX q_IX q_J0, 40, 26520)) _
                        exact q_Ru_ret rfl rfl
                      show q_Ru _ _ _ (4, [(0, .ref 64), (1, .int a), (2, .int v), (3, .int u)], [], (q_cX q_AX q_IX q_J0, 40, 26520)) _
                      refine q_Ru_seg (g2 := (5, [(0, .ref 64), (1, .int a), (2, .int v), (3, .int u)], [.int v], (q_cX q_AX q_IX q_J0, 40, 26520))) 1 (fun _ _ => rfl) ?_
                      refine q_Ru_call (v := none) (h2 := (q_cX q_AX q_IX q_J0, 40, 26520)) rfl rfl ?_ ?_
                      · refine q_Ca_of (Nat.le_of_ble_eq_true rfl) ?_
                        refine q_Ru_seg (g2 := (5, [(0, .int v)], [.int 255, .int 0, .int v], (q_cX q_AX q_IX q_J0, 40, 26520))) 3 (fun _ _ => rfl) ?_
                        refine q_Ru_call (v := none) (h2 := (q_cX q_AX q_IX q_J0, 40, 26520)) rfl rfl ?_ ?_
                        · refine q_Ca_of (Nat.le_of_ble_eq_true rfl) ?_
                          refine q_Ru_seg (g2 := (2, [(0, .int v), (1, .int 0), (2, .int 255)], [.int 0, .int v], (q_cX q_AX q_IX q_J0, 40, 26520))) 2 (fun _ _ => rfl) ?_
                          refine q_Ru_rsF (g2 := (5, [(0, .int v), (1, .int 0), (2, .int 255)], [], (q_cX q_AX q_IX q_J0, 40, 26520))) rfl rfl h132 ?_
                          refine q_Ru_seg (g2 := (7, [(0, .int v), (1, .int 0), (2, .int 255)], [.int 255, .int v], (q_cX q_AX q_IX q_J0, 40, 26520))) 2 (fun _ _ => rfl) ?_
                          refine q_Ru_rsT (g2 := (20, [(0, .int v), (1, .int 0), (2, .int 255)], [], (q_cX q_AX q_IX q_J0, 40, 26520))) rfl rfl (q_d_geF h134) ?_
                          exact q_Ru_ret rfl rfl
                        show q_Ru _ _ _ (8, [(0, .int v)], [], (q_cX q_AX q_IX q_J0, 40, 26520)) _
                        exact q_Ru_ret rfl rfl
                      show q_Ru _ _ _ (8, [(0, .ref 64), (1, .int a), (2, .int v), (3, .int u)], [], (q_cX q_AX q_IX q_J0, 40, 26520)) _
                      refine q_Ru_seg (g2 := (13, [(0, .ref 64), (1, .int a), (2, .int v), (3, .int u)], [.int 4095, .int 0, .int u], (q_cX q_AX q_IX q_J0, 40, 26520))) 3 (fun _ _ => rfl) ?_
                      refine q_Ru_call (v := none) (h2 := (q_cX q_AX q_IX q_J0, 40, 26520)) rfl rfl ?_ ?_
                      · refine q_Ca_of (Nat.le_of_ble_eq_true rfl) ?_
                        refine q_Ru_seg (g2 := (2, [(0, .int u), (1, .int 0), (2, .int 4095)], [.int 0, .int u], (q_cX q_AX q_IX q_J0, 40, 26520))) 2 (fun _ _ => rfl) ?_
                        refine q_Ru_rsF (g2 := (5, [(0, .int u), (1, .int 0), (2, .int 4095)], [], (q_cX q_AX q_IX q_J0, 40, 26520))) rfl rfl h136 ?_
                        refine q_Ru_seg (g2 := (7, [(0, .int u), (1, .int 0), (2, .int 4095)], [.int 4095, .int u], (q_cX q_AX q_IX q_J0, 40, 26520))) 2 (fun _ _ => rfl) ?_
                        refine q_Ru_rsT (g2 := (20, [(0, .int u), (1, .int 0), (2, .int 4095)], [], (q_cX q_AX q_IX q_J0, 40, 26520))) rfl rfl (q_d_geF h139) ?_
                        exact q_Ru_ret rfl rfl
                      show q_Ru _ _ _ (16, [(0, .ref 64), (1, .int a), (2, .int v), (3, .int u)], [], (q_cX q_AX q_IX q_J0, 40, 26520)) _
                      refine q_Ru_seg (g2 := (17, [(0, .ref 64), (1, .int a), (2, .int v), (3, .int u)], [.int v], (q_cX q_AX q_IX q_J0, 40, 26520))) 1 (fun _ _ => rfl) ?_
                      refine q_Ru_call (v := (some (.int 3))) (h2 := (q_cX q_AX q_IX q_J0, 40, 26520)) rfl rfl ?_ ?_
                      · exact (q_lenX1 (q_lo1 h132) (q_hi2 h134) he (q_cX q_AX q_IX q_J0, 40, 26520)).le (Nat.le_of_ble_eq_true rfl)
                      show q_Ru _ _ _ (20, [(0, .ref 64), (1, .int a), (2, .int v), (3, .int u)], [.int 3], (q_cX q_AX q_IX q_J0, 40, 26520)) _
                      refine q_Ru_seg (g2 := (33, [(0, .ref 64), (1, .int a), (2, .int v), (3, .int u)], [.int u, .int v, .int a, .int 3, .ref 64], (q_cX q_AX q_IX q_J0, 40, 26520))) 7 (fun _ _ => rfl) ?_
                      refine q_Ru_call (v := none) (h2 := (q_cX q_AX q_IX q_J0, 40, 26520)) rfl rfl ?_ ?_
                      · refine q_Ca_of (Nat.le_of_ble_eq_true rfl) ?_
                        refine q_Ru_seg (g2 := (19, [(0, .ref 64), (1, .int 3), (2, .int a), (3, .int v), (4, .int u)], [], (q_cX q_AX q_IX q_J0, 40, 26520))) 3 (fun _ _ => rfl) ?_
                        exact q_Ru_ret rfl rfl
                      show q_Ru _ _ _ (36, [(0, .ref 64), (1, .int a), (2, .int v), (3, .int u)], [], (q_cX q_AX q_IX q_J0, 40, 26520)) _
                      refine q_Ru_seg (g2 := (44, [(0, .ref 64), (1, .int a), (2, .int v), (3, .int u)], [.int u, .int v, .int a, .int 3, .ref 65], (q_cX q_AX q_IX q_J0, 40, 26520))) 6 (fun _ _ => rfl) ?_
                      refine q_Ru_call (v := (some (.int ((a + 3) &&& 4095)))) (h2 := (q_cX A22 I22 q_J0, 40, 26520)) rfl rfl ?_ ?_
                      · refine q_Ca_of (Nat.le_of_ble_eq_true rfl) ?_
                        refine q_Ru_seg (g2 := (113, [(0, .ref 65), (1, .int 3), (2, .int a), (3, .int v), (4, .int u)], [.int u, .int v, .int a, .ref 66], (q_cX q_AX q_IX q_J0, 40, 26520))) 7 (fun _ _ => rfl) ?_
                        refine q_Ru_call (v := (some (.int ((a + 3) &&& 4095)))) (h2 := (q_cX A22 I22 q_J0, 40, 26520)) rfl rfl ?_ ?_
                        · refine q_Ca_of (Nat.le_of_ble_eq_true rfl) ?_
                          refine q_Ru_seg (g2 := (1, [(0, .ref 66), (1, .int a), (2, .int v), (3, .int u)], [.int v], (q_cX q_AX q_IX q_J0, 40, 26520))) 1 (fun _ _ => rfl) ?_
                          refine q_Ru_call (v := (some (.int 3))) (h2 := (q_cX q_AX q_IX q_J0, 40, 26520)) rfl rfl ?_ ?_
                          · exact (q_lenX1 (q_lo1 h132) (q_hi2 h134) he (q_cX q_AX q_IX q_J0, 40, 26520)).le (Nat.le_of_ble_eq_true rfl)
                          show q_Ru _ _ _ (4, [(0, .ref 66), (1, .int a), (2, .int v), (3, .int u)], [.int 3], (q_cX q_AX q_IX q_J0, 40, 26520)) _
                          refine q_Ru_seg (g2 := (9, [(4, .int 3), (0, .ref 66), (1, .int a), (2, .int v), (3, .int u)], [.int v, .int a, .ref 66], (q_cX q_AX q_IX q_J0, 40, 26520))) 4 (fun _ _ => rfl) ?_
                          refine q_Ru_call (v := none) (h2 := (q_cX A20 I20 q_J0, 40, 26520)) rfl rfl ?_ ?_
                          · exact p20.le (Nat.le_of_ble_eq_true rfl)
                          show q_Ru _ _ _ (12, [(4, .int 3), (0, .ref 66), (1, .int a), (2, .int v), (3, .int u)], [], (q_cX A20 I20 q_J0, 40, 26520)) _
                          refine q_Ru_seg (g2 := (31, [(4, .int 3), (0, .ref 66), (1, .int a), (2, .int v), (3, .int u)], [.int (u &&& 255), .int ((a + 1) &&& 4095), .ref 66], (q_cX A20 I20 q_J0, 40, 26520))) 12 (fun _ _ => rfl) ?_
                          refine q_Ru_call (v := none) (h2 := (q_cX A21 I21 q_J0, 40, 26520)) rfl rfl ?_ ?_
                          · exact p21.le (Nat.le_of_ble_eq_true rfl)
                          show q_Ru _ _ _ (34, [(4, .int 3), (0, .ref 66), (1, .int a), (2, .int v), (3, .int u)], [], (q_cX A21 I21 q_J0, 40, 26520)) _
                          refine q_Ru_seg (g2 := (52, [(4, .int 3), (0, .ref 66), (1, .int a), (2, .int v), (3, .int u)], [.int (u >>> (8 &&& 31)), .int ((a + 2) &&& 4095), .ref 66], (q_cX A21 I21 q_J0, 40, 26520))) 12 (fun _ _ => rfl) ?_
                          refine q_Ru_call (v := none) (h2 := (q_cX A22 I22 q_J0, 40, 26520)) rfl rfl ?_ ?_
                          · exact p22.le (Nat.le_of_ble_eq_true rfl)
                          show q_Ru _ _ _ (55, [(4, .int 3), (0, .ref 66), (1, .int a), (2, .int v), (3, .int u)], [], (q_cX A22 I22 q_J0, 40, 26520)) _
                          refine q_Ru_seg (g2 := (63, [(4, .int 3), (0, .ref 66), (1, .int a), (2, .int v), (3, .int u)], [.int ((a + 3) &&& 4095)], (q_cX A22 I22 q_J0, 40, 26520))) 5 (fun _ _ => rfl) ?_
                          exact q_Ru_ret rfl rfl
                        show q_Ru _ _ _ (116, [(0, .ref 65), (1, .int 3), (2, .int a), (3, .int v), (4, .int u)], [.int ((a + 3) &&& 4095)], (q_cX A22 I22 q_J0, 40, 26520)) _
                        exact q_Ru_ret rfl rfl
                      show q_Ru _ _ _ (47, [(0, .ref 64), (1, .int a), (2, .int v), (3, .int u)], [.int ((a + 3) &&& 4095)], (q_cX A22 I22 q_J0, 40, 26520)) _
                      exact q_Ru_ret rfl rfl
                    show q_Ru _ _ _ (10, [(0, .ref 64), (1, .int a), (2, .int v), (3, .int u), (4, .ref 103)], [.int ((a + 3) &&& 4095), .int 0, .ref 103], (q_cX A22 I22 q_J0, 40, 26520)) _
                    refine q_Ru_seg (g2 := (24, [(0, .ref 64), (1, .int a), (2, .int v), (3, .int u), (4, .ref 103)], [.int 0], (q_cX A22 I22 (q_uA q_J0 39 (vp_updL (fun _ => 0) 0 (((a + 3) &&& 4095).toInt64))), 40, 26520))) 4 (fun _ _ => rfl) ?_
                    exact q_Ru_ret rfl rfl
                  · refine q_Ca_of (Nat.le_of_ble_eq_true rfl) ?_
                    refine q_Ru_seg (g2 := (2, [(0, .ref 64), (1, .int a), (2, .int v), (3, .int u)], [.int a, .ref 64], (q_cM q_AM q_IM q_J0, 34, 31630))) 2 (fun _ _ => rfl) ?_
                    refine q_Ru_call (v := (some (.int 0))) (h2 := (q_cM q_AM q_IM q_J0, 34, 31630)) rfl rfl ?_ ?_
                    · refine q_Ca_of (Nat.le_of_ble_eq_true rfl) ?_
                      refine q_Ru_seg (g2 := (5, [(0, .int a)], [.int 4095, .int 0, .int a], (q_cM q_AM q_IM q_J0, 34, 31630))) 3 (fun _ _ => rfl) ?_
                      refine q_Ru_call (v := (some (.int 1))) (h2 := (q_cM q_AM q_IM q_J0, 34, 31630)) rfl rfl ?_ ?_
                      · refine q_Ca_of (Nat.le_of_ble_eq_true rfl) ?_
                        refine q_Ru_seg (g2 := (2, [(0, .int a), (1, .int 0), (2, .int 4095)], [.int 0, .int a], (q_cM q_AM q_IM q_J0, 34, 31630))) 2 (fun _ _ => rfl) ?_
                        refine q_Ru_rsF (g2 := (5, [(0, .int a), (1, .int 0), (2, .int 4095)], [], (q_cM q_AM q_IM q_J0, 34, 31630))) rfl rfl h130 ?_
                        refine q_Ru_seg (g2 := (7, [(0, .int a), (1, .int 0), (2, .int 4095)], [.int 4095, .int a], (q_cM q_AM q_IM q_J0, 34, 31630))) 2 (fun _ _ => rfl) ?_
                        refine q_Ru_rsF (g2 := (10, [(0, .int a), (1, .int 0), (2, .int 4095)], [], (q_cM q_AM q_IM q_J0, 34, 31630))) rfl rfl h148 ?_
                        refine q_Ru_seg (g2 := (15, [(0, .int a), (1, .int 0), (2, .int 4095)], [.int 1], (q_cM q_AM q_IM q_J0, 34, 31630))) 2 (fun _ _ => rfl) ?_
                        exact q_Ru_ret rfl rfl
                      show q_Ru _ _ _ (8, [(0, .int a)], [.int 1], (q_cM q_AM q_IM q_J0, 34, 31630)) _
                      refine q_Ru_seg (g2 := (16, [(0, .int a)], [.int 0], (q_cM q_AM q_IM q_J0, 34, 31630))) 2 (fun _ _ => rfl) ?_
                      exact q_Ru_ret rfl rfl
                    show q_Ru _ _ _ (5, [(0, .ref 64), (1, .int a), (2, .int v), (3, .int u)], [.int 0, .ref 64], (q_cM q_AM q_IM q_J0, 34, 31630)) _
                    refine q_Ru_seg (g2 := (13, [(0, .ref 64), (1, .int a), (2, .int v), (3, .int u)], [.int v, .ref 64], (q_cM q_AM q_IM q_J0, 34, 31630))) 2 (fun _ _ => rfl) ?_
                    refine q_Ru_call (v := (some (.int 0))) (h2 := (q_cM q_AM q_IM q_J0, 34, 31630)) rfl rfl ?_ ?_
                    · refine q_Ca_of (Nat.le_of_ble_eq_true rfl) ?_
                      refine q_Ru_seg (g2 := (5, [(0, .int v)], [.int 255, .int 0, .int v], (q_cM q_AM q_IM q_J0, 34, 31630))) 3 (fun _ _ => rfl) ?_
                      refine q_Ru_call (v := (some (.int 1))) (h2 := (q_cM q_AM q_IM q_J0, 34, 31630)) rfl rfl ?_ ?_
                      · refine q_Ca_of (Nat.le_of_ble_eq_true rfl) ?_
                        refine q_Ru_seg (g2 := (2, [(0, .int v), (1, .int 0), (2, .int 255)], [.int 0, .int v], (q_cM q_AM q_IM q_J0, 34, 31630))) 2 (fun _ _ => rfl) ?_
                        refine q_Ru_rsF (g2 := (5, [(0, .int v), (1, .int 0), (2, .int 255)], [], (q_cM q_AM q_IM q_J0, 34, 31630))) rfl rfl h132 ?_
                        refine q_Ru_seg (g2 := (7, [(0, .int v), (1, .int 0), (2, .int 255)], [.int 255, .int v], (q_cM q_AM q_IM q_J0, 34, 31630))) 2 (fun _ _ => rfl) ?_
                        refine q_Ru_rsF (g2 := (10, [(0, .int v), (1, .int 0), (2, .int 255)], [], (q_cM q_AM q_IM q_J0, 34, 31630))) rfl rfl h134 ?_
                        refine q_Ru_seg (g2 := (15, [(0, .int v), (1, .int 0), (2, .int 255)], [.int 1], (q_cM q_AM q_IM q_J0, 34, 31630))) 2 (fun _ _ => rfl) ?_
                        exact q_Ru_ret rfl rfl
                      show q_Ru _ _ _ (8, [(0, .int v)], [.int 1], (q_cM q_AM q_IM q_J0, 34, 31630)) _
                      refine q_Ru_seg (g2 := (16, [(0, .int v)], [.int 0], (q_cM q_AM q_IM q_J0, 34, 31630))) 2 (fun _ _ => rfl) ?_
                      exact q_Ru_ret rfl rfl
                    show q_Ru _ _ _ (16, [(0, .ref 64), (1, .int a), (2, .int v), (3, .int u)], [.int 0, .ref 64], (q_cM q_AM q_IM q_J0, 34, 31630)) _
                    refine q_Ru_seg (g2 := (26, [(0, .ref 64), (1, .int a), (2, .int v), (3, .int u)], [.int (v &&& 255), .int 0, .int u, .ref 64], (q_cM q_AM q_IM q_J0, 34, 31630))) 6 (fun _ _ => rfl) ?_
                    refine q_Ru_call (v := (some (.int 3))) (h2 := (q_cM q_AM q_IM q_J0, 34, 31630)) rfl rfl ?_ ?_
                    · exact (q_lenM2 (q_lo1 h132) (q_hi2 h134) he (q_cM q_AM q_IM q_J0, 34, 31630)).le (Nat.le_of_ble_eq_true rfl)
                    show q_Ru _ _ _ (29, [(0, .ref 64), (1, .int a), (2, .int v), (3, .int u)], [.int 3, .int 0, .int u, .ref 64], (q_cM q_AM q_IM q_J0, 34, 31630)) _
                    refine q_Ru_seg (g2 := (42, [(0, .ref 64), (1, .int a), (2, .int v), (3, .int u)], [.int 4095, .int 0, .int u, .ref 64], (q_cM q_AM q_IM q_J0, 34, 31630))) 3 (fun _ _ => rfl) ?_
                    refine q_Ru_call (v := (some (.int 1))) (h2 := (q_cM q_AM q_IM q_J0, 34, 31630)) rfl rfl ?_ ?_
                    · refine q_Ca_of (Nat.le_of_ble_eq_true rfl) ?_
                      refine q_Ru_seg (g2 := (2, [(0, .int u), (1, .int 0), (2, .int 4095)], [.int 0, .int u], (q_cM q_AM q_IM q_J0, 34, 31630))) 2 (fun _ _ => rfl) ?_
                      refine q_Ru_rsF (g2 := (5, [(0, .int u), (1, .int 0), (2, .int 4095)], [], (q_cM q_AM q_IM q_J0, 34, 31630))) rfl rfl h136 ?_
                      refine q_Ru_seg (g2 := (7, [(0, .int u), (1, .int 0), (2, .int 4095)], [.int 4095, .int u], (q_cM q_AM q_IM q_J0, 34, 31630))) 2 (fun _ _ => rfl) ?_
                      refine q_Ru_rsF (g2 := (10, [(0, .int u), (1, .int 0), (2, .int 4095)], [], (q_cM q_AM q_IM q_J0, 34, 31630))) rfl rfl h139 ?_
                      refine q_Ru_seg (g2 := (15, [(0, .int u), (1, .int 0), (2, .int 4095)], [.int 1], (q_cM q_AM q_IM q_J0, 34, 31630))) 2 (fun _ _ => rfl) ?_
                      exact q_Ru_ret rfl rfl
                    show q_Ru _ _ _ (45, [(0, .ref 64), (1, .int a), (2, .int v), (3, .int u)], [.int 1, .ref 64], (q_cM q_AM q_IM q_J0, 34, 31630)) _
                    refine q_Ru_seg (g2 := (53, [(0, .ref 64), (1, .int a), (2, .int v), (3, .int u)], [.int 0, .ref 64], (q_cM q_AM q_IM q_J0, 34, 31630))) 2 (fun _ _ => rfl) ?_
                    refine q_Ru_call (v := (some (.int 0))) (h2 := (q_cM q_AM (q_uI q_IM 0 39 0) q_J0, 34, 31630)) rfl rfl ?_ ?_
                    · refine q_Ca_of (Nat.le_of_ble_eq_true rfl) ?_
                      refine q_Ru_seg (g2 := (14, [(0, .ref 64), (1, .int 0)], [.int 0], (q_cM q_AM (q_uI q_IM 0 39 0) q_J0, 34, 31630))) 6 (fun _ _ => rfl) ?_
                      exact q_Ru_ret rfl rfl
                    show q_Ru _ _ _ (56, [(0, .ref 64), (1, .int a), (2, .int v), (3, .int u)], [.int 0], (q_cM q_AM (q_uI q_IM 0 39 0) q_J0, 34, 31630)) _
                    refine q_Ru_seg (g2 := (64, [(0, .ref 64), (1, .int a), (2, .int v), (3, .int u)], [.int v, .int a, .ref 64], (q_cM q_AM (q_uI q_IM 0 39 0) q_J0, 34, 31630))) 4 (fun _ _ => rfl) ?_
                    refine q_Ru_call (v := none) (h2 := (q_cM A23 (q_uI q_IM 0 39 0) q_J0, 34, 31630)) rfl rfl ?_ ?_
                    · exact p23.le (Nat.le_of_ble_eq_true rfl)
                    show q_Ru _ _ _ (67, [(0, .ref 64), (1, .int a), (2, .int v), (3, .int u)], [], (q_cM A23 (q_uI q_IM 0 39 0) q_J0, 34, 31630)) _
                    refine q_Ru_seg (g2 := (68, [(0, .ref 64), (1, .int a), (2, .int v), (3, .int u)], [.int v], (q_cM A23 (q_uI q_IM 0 39 0) q_J0, 34, 31630))) 1 (fun _ _ => rfl) ?_
                    refine q_Ru_call (v := (some (.int 3))) (h2 := (q_cM A23 (q_uI q_IM 0 39 0) q_J0, 34, 31630)) rfl rfl ?_ ?_
                    · exact (q_lenM1 (q_lo1 h132) (q_hi2 h134) he (q_cM A23 (q_uI q_IM 0 39 0) q_J0, 34, 31630)).le (Nat.le_of_ble_eq_true rfl)
                    show q_Ru _ _ _ (71, [(0, .ref 64), (1, .int a), (2, .int v), (3, .int u)], [.int 3], (q_cM A23 (q_uI q_IM 0 39 0) q_J0, 34, 31630)) _
                    refine q_Ru_seg (g2 := (79, [(0, .ref 64), (1, .int a), (2, .int v), (3, .int u)], [.int (a + 1), .ref 64], (q_cM A23 (q_uI q_IM 0 39 0) q_J0, 34, 31630))) 6 (fun _ _ => rfl) ?_
                    refine q_Ru_call (v := (some (.int ((a + 1) &&& 4095)))) (h2 := (q_cM A23 (q_uI q_IM 0 39 0) q_J0, 34, 31630)) rfl rfl ?_ ?_
                    · refine q_Ca_of (Nat.le_of_ble_eq_true rfl) ?_
                      refine q_Ru_seg (g2 := (5, [(0, .int (a + 1))], [.int ((a + 1) &&& 4095)], (q_cM A23 (q_uI q_IM 0 39 0) q_J0, 34, 31630))) 3 (fun _ _ => rfl) ?_
                      exact q_Ru_ret rfl rfl
                    show q_Ru _ _ _ (82, [(0, .ref 64), (1, .int a), (2, .int v), (3, .int u)], [.int ((a + 1) &&& 4095), .ref 64], (q_cM A23 (q_uI q_IM 0 39 0) q_J0, 34, 31630)) _
                    refine q_Ru_seg (g2 := (87, [(0, .ref 64), (1, .int a), (2, .int v), (3, .int u)], [.int (u - u / 256 * 256), .int ((a + 1) &&& 4095), .ref 64], (q_cM A23 (q_uI q_IM 0 39 0) q_J0, 34, 31630))) 3 (fun _ _ => rfl) ?_
                    refine q_Ru_call (v := none) (h2 := (q_cM A24 (q_uI q_IM 0 39 0) q_J0, 34, 31630)) rfl rfl ?_ ?_
                    · exact p24.le (Nat.le_of_ble_eq_true rfl)
                    show q_Ru _ _ _ (90, [(0, .ref 64), (1, .int a), (2, .int v), (3, .int u)], [], (q_cM A24 (q_uI q_IM 0 39 0) q_J0, 34, 31630)) _
                    refine q_Ru_seg (g2 := (91, [(0, .ref 64), (1, .int a), (2, .int v), (3, .int u)], [.int v], (q_cM A24 (q_uI q_IM 0 39 0) q_J0, 34, 31630))) 1 (fun _ _ => rfl) ?_
                    refine q_Ru_call (v := (some (.int 3))) (h2 := (q_cM A24 (q_uI q_IM 0 39 0) q_J0, 34, 31630)) rfl rfl ?_ ?_
                    · exact (q_lenM1 (q_lo1 h132) (q_hi2 h134) he (q_cM A24 (q_uI q_IM 0 39 0) q_J0, 34, 31630)).le (Nat.le_of_ble_eq_true rfl)
                    show q_Ru _ _ _ (94, [(0, .ref 64), (1, .int a), (2, .int v), (3, .int u)], [.int 3], (q_cM A24 (q_uI q_IM 0 39 0) q_J0, 34, 31630)) _
                    refine q_Ru_seg (g2 := (102, [(0, .ref 64), (1, .int a), (2, .int v), (3, .int u)], [.int (a + 2), .ref 64], (q_cM A24 (q_uI q_IM 0 39 0) q_J0, 34, 31630))) 6 (fun _ _ => rfl) ?_
                    refine q_Ru_call (v := (some (.int ((a + 2) &&& 4095)))) (h2 := (q_cM A24 (q_uI q_IM 0 39 0) q_J0, 34, 31630)) rfl rfl ?_ ?_
                    · refine q_Ca_of (Nat.le_of_ble_eq_true rfl) ?_
                      refine q_Ru_seg (g2 := (5, [(0, .int (a + 2))], [.int ((a + 2) &&& 4095)], (q_cM A24 (q_uI q_IM 0 39 0) q_J0, 34, 31630))) 3 (fun _ _ => rfl) ?_
                      exact q_Ru_ret rfl rfl
                    show q_Ru _ _ _ (105, [(0, .ref 64), (1, .int a), (2, .int v), (3, .int u)], [.int ((a + 2) &&& 4095), .ref 64], (q_cM A24 (q_uI q_IM 0 39 0) q_J0, 34, 31630)) _
                    refine q_Ru_seg (g2 := (110, [(0, .ref 64), (1, .int a), (2, .int v), (3, .int u)], [.int (u / 256), .int ((a + 2) &&& 4095), .ref 64], (q_cM A24 (q_uI q_IM 0 39 0) q_J0, 34, 31630))) 3 (fun _ _ => rfl) ?_
                    refine q_Ru_call (v := none) (h2 := (q_cM A25 (q_uI q_IM 0 39 0) q_J0, 34, 31630)) rfl rfl ?_ ?_
                    · exact p25.le (Nat.le_of_ble_eq_true rfl)
                    show q_Ru _ _ _ (113, [(0, .ref 64), (1, .int a), (2, .int v), (3, .int u)], [], (q_cM A25 (q_uI q_IM 0 39 0) q_J0, 34, 31630)) _
                    refine q_Ru_seg (g2 := (114, [(0, .ref 64), (1, .int a), (2, .int v), (3, .int u)], [.ref 64], (q_cM A25 (q_uI q_IM 0 39 0) q_J0, 34, 31630))) 1 (fun _ _ => rfl) ?_
                    refine q_Ru_call (v := none) (h2 := (q_cM A25 (q_uI q_IM 0 39 0) q_J0, 34, 31630)) rfl rfl ?_ ?_
                    · refine q_Ca_of (Nat.le_of_ble_eq_true rfl) ?_
                      refine q_Ru_seg (g2 := (17, [(0, .ref 64)], [], (q_cM A25 (q_uI q_IM 0 39 0) q_J0, 34, 31630))) 3 (fun _ _ => rfl) ?_
                      exact q_Ru_ret rfl rfl
                    show q_Ru _ _ _ (117, [(0, .ref 64), (1, .int a), (2, .int v), (3, .int u)], [], (q_cM A25 (q_uI q_IM 0 39 0) q_J0, 34, 31630)) _
                    refine q_Ru_seg (g2 := (119, [(0, .ref 64), (1, .int a), (2, .int v), (3, .int u)], [.int v, .int a], (q_cM A25 (q_uI q_IM 0 39 0) q_J0, 34, 31630))) 2 (fun _ _ => rfl) ?_
                    refine q_Ru_call (v := (some (.int 3))) (h2 := (q_cM A25 (q_uI q_IM 0 39 0) q_J0, 34, 31630)) rfl rfl ?_ ?_
                    · exact (q_lenM1 (q_lo1 h132) (q_hi2 h134) he (q_cM A25 (q_uI q_IM 0 39 0) q_J0, 34, 31630)).le (Nat.le_of_ble_eq_true rfl)
                    show q_Ru _ _ _ (122, [(0, .ref 64), (1, .int a), (2, .int v), (3, .int u)], [.int 3, .int a], (q_cM A25 (q_uI q_IM 0 39 0) q_J0, 34, 31630)) _
                    refine q_Ru_seg (g2 := (123, [(0, .ref 64), (1, .int a), (2, .int v), (3, .int u)], [.int (a + 3)], (q_cM A25 (q_uI q_IM 0 39 0) q_J0, 34, 31630))) 1 (fun _ _ => rfl) ?_
                    refine q_Ru_call (v := (some (.int ((a + 3) &&& 4095)))) (h2 := (q_cM A25 (q_uI q_IM 0 39 0) q_J0, 34, 31630)) rfl rfl ?_ ?_
                    · refine q_Ca_of (Nat.le_of_ble_eq_true rfl) ?_
                      refine q_Ru_seg (g2 := (5, [(0, .int (a + 3))], [.int ((a + 3) &&& 4095)], (q_cM A25 (q_uI q_IM 0 39 0) q_J0, 34, 31630))) 3 (fun _ _ => rfl) ?_
                      exact q_Ru_ret rfl rfl
                    show q_Ru _ _ _ (126, [(0, .ref 64), (1, .int a), (2, .int v), (3, .int u)], [.int ((a + 3) &&& 4095)], (q_cM A25 (q_uI q_IM 0 39 0) q_J0, 34, 31630)) _
                    exact q_Ru_ret rfl rfl
    | false =>
      cases h149 : decide (4095 < a) with
      | true =>
        refine ⟨1, 0, 0, ⟨(q_cX q_AX q_IX q_J0, 40 + 1, 26520 + 6), q_J0 39, ?_, rfl, fun h => absurd h (by decide), Nat.le_of_ble_eq_true rfl, Nat.le_of_ble_eq_true rfl⟩, ⟨(q_cM q_AM (q_uI q_IM 0 39 1) q_J0, 34, 31630), _, ?_, rfl, rfl, Nat.le_of_ble_eq_true rfl, Nat.le_of_ble_eq_true rfl⟩, fun h => absurd h (by decide)⟩
        · refine q_Ca_of (Nat.le_of_ble_eq_true rfl) ?_
          refine q_Ru_seg (g2 := (7, [(0, .ref 64), (1, .int a), (2, .int v), (3, .int u), (4, .ref 103)], [.int u, .int v, .int a, .ref 64, .int 0, .ref 103], (q_cX q_AX q_IX q_J0, 40, 26520))) 6 (fun _ _ => rfl) ?_
          refine q_Ru_callH (E := "java/lang/IndexOutOfBoundsException") (tg := 17) (i := 5) (h2 := (q_cX q_AX q_IX q_J0, 40 + 1, 26520 + 6)) rfl rfl ?_ rfl ?_
          · refine q_Ca_of (Nat.le_of_ble_eq_true rfl) ?_
            refine q_Ru_seg (g2 := (1, [(0, .ref 64), (1, .int a), (2, .int v), (3, .int u)], [.int a], (q_cX q_AX q_IX q_J0, 40, 26520))) 1 (fun _ _ => rfl) ?_
            refine q_Ru_callX (E := "java/lang/IndexOutOfBoundsException") (h2 := (q_cX q_AX q_IX q_J0, 40 + 1, 26520 + 6)) rfl rfl ?_
            refine q_Ca_of (Nat.le_of_ble_eq_true rfl) ?_
            refine q_Ru_seg (g2 := (4, [(0, .int a)], [.int 4096, .int a], (q_cX q_AX q_IX q_J0, 40, 26520))) 2 (fun _ _ => rfl) ?_
            refine q_Ru_callX (E := "java/lang/IndexOutOfBoundsException") (h2 := (q_cX q_AX q_IX q_J0, 40 + 1, 26520 + 6)) rfl rfl ?_
            refine q_Ca_of (Nat.le_of_ble_eq_true rfl) ?_
            refine q_Ru_seg (g2 := (1, [(0, .int a), (1, .int 4096)], [.int a], (q_cX q_AX q_IX q_J0, 40, 26520))) 1 (fun _ _ => rfl) ?_
            refine q_Ru_rsF (g2 := (4, [(0, .int a), (1, .int 4096)], [], (q_cX q_AX q_IX q_J0, 40, 26520))) rfl rfl h130 ?_
            refine q_Ru_seg (g2 := (6, [(0, .int a), (1, .int 4096)], [.int 4096, .int a], (q_cX q_AX q_IX q_J0, 40, 26520))) 2 (fun _ _ => rfl) ?_
            refine q_Ru_rsF (g2 := (9, [(0, .int a), (1, .int 4096)], [], (q_cX q_AX q_IX q_J0, 40, 26520))) rfl rfl h131 ?_
            exact q_Ru_thr rfl rfl
          show q_Ru _ _ _ (17, [(0, .ref 64), (1, .int a), (2, .int v), (3, .int u), (4, .ref 103)], [], (q_cX q_AX q_IX q_J0, 40 + 1, 26520 + 6)) _
          refine q_Ru_seg (g2 := (18, [(0, .ref 64), (1, .int a), (2, .int v), (3, .int u), (4, .ref 103)], [.int 1], (q_cX q_AX q_IX q_J0, 40 + 1, 26520 + 6))) 1 (fun _ _ => rfl) ?_
          exact q_Ru_ret rfl rfl
        · refine q_Ca_of (Nat.le_of_ble_eq_true rfl) ?_
          refine q_Ru_seg (g2 := (2, [(0, .ref 64), (1, .int a), (2, .int v), (3, .int u)], [.int a, .ref 64], (q_cM q_AM q_IM q_J0, 34, 31630))) 2 (fun _ _ => rfl) ?_
          refine q_Ru_call (v := (some (.int 1))) (h2 := (q_cM q_AM q_IM q_J0, 34, 31630)) rfl rfl ?_ ?_
          · refine q_Ca_of (Nat.le_of_ble_eq_true rfl) ?_
            refine q_Ru_seg (g2 := (5, [(0, .int a)], [.int 4095, .int 0, .int a], (q_cM q_AM q_IM q_J0, 34, 31630))) 3 (fun _ _ => rfl) ?_
            refine q_Ru_call (v := (some (.int 0))) (h2 := (q_cM q_AM q_IM q_J0, 34, 31630)) rfl rfl ?_ ?_
            · refine q_Ca_of (Nat.le_of_ble_eq_true rfl) ?_
              refine q_Ru_seg (g2 := (2, [(0, .int a), (1, .int 0), (2, .int 4095)], [.int 0, .int a], (q_cM q_AM q_IM q_J0, 34, 31630))) 2 (fun _ _ => rfl) ?_
              refine q_Ru_rsF (g2 := (5, [(0, .int a), (1, .int 0), (2, .int 4095)], [], (q_cM q_AM q_IM q_J0, 34, 31630))) rfl rfl h130 ?_
              refine q_Ru_seg (g2 := (7, [(0, .int a), (1, .int 0), (2, .int 4095)], [.int 4095, .int a], (q_cM q_AM q_IM q_J0, 34, 31630))) 2 (fun _ _ => rfl) ?_
              refine q_Ru_rsT (g2 := (14, [(0, .int a), (1, .int 0), (2, .int 4095)], [], (q_cM q_AM q_IM q_J0, 34, 31630))) rfl rfl h149 ?_
              refine q_Ru_seg (g2 := (15, [(0, .int a), (1, .int 0), (2, .int 4095)], [.int 0], (q_cM q_AM q_IM q_J0, 34, 31630))) 1 (fun _ _ => rfl) ?_
              exact q_Ru_ret rfl rfl
            show q_Ru _ _ _ (8, [(0, .int a)], [.int 0], (q_cM q_AM q_IM q_J0, 34, 31630)) _
            refine q_Ru_seg (g2 := (16, [(0, .int a)], [.int 1], (q_cM q_AM q_IM q_J0, 34, 31630))) 3 (fun _ _ => rfl) ?_
            exact q_Ru_ret rfl rfl
          show q_Ru _ _ _ (5, [(0, .ref 64), (1, .int a), (2, .int v), (3, .int u)], [.int 1, .ref 64], (q_cM q_AM q_IM q_J0, 34, 31630)) _
          refine q_Ru_seg (g2 := (53, [(0, .ref 64), (1, .int a), (2, .int v), (3, .int u)], [.int 1, .ref 64], (q_cM q_AM q_IM q_J0, 34, 31630))) 3 (fun _ _ => rfl) ?_
          refine q_Ru_call (v := (some (.int 1))) (h2 := (q_cM q_AM (q_uI q_IM 0 39 1) q_J0, 34, 31630)) rfl rfl ?_ ?_
          · refine q_Ca_of (Nat.le_of_ble_eq_true rfl) ?_
            refine q_Ru_seg (g2 := (14, [(0, .ref 64), (1, .int 1)], [.int 1], (q_cM q_AM (q_uI q_IM 0 39 1) q_J0, 34, 31630))) 7 (fun _ _ => rfl) ?_
            exact q_Ru_ret rfl rfl
          show q_Ru _ _ _ (56, [(0, .ref 64), (1, .int a), (2, .int v), (3, .int u)], [.int 1], (q_cM q_AM (q_uI q_IM 0 39 1) q_J0, 34, 31630)) _
          refine q_Ru_seg (g2 := (60, [(0, .ref 64), (1, .int a), (2, .int v), (3, .int u)], [.int 0], (q_cM q_AM (q_uI q_IM 0 39 1) q_J0, 34, 31630))) 2 (fun _ _ => rfl) ?_
          exact q_Ru_ret rfl rfl
      | false =>
        exact q_no (q_lo1 h131) (q_hi2 h149) (by decide)
