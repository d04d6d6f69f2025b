set_option maxHeartbeats 20000000 in
theorem q_op_poke (a v : Int32) : ∃ (r b : Int32) (w : Int64), q_opX 0 [.int a, .int v] r w ∧ q_opM 216 [.int a, .int v] r (.int b) ∧ (r = 0 → w = b.toInt64) := by
  cases h231 : decide (a < 0) with
  | true =>
    refine ⟨1, 0, 0, ⟨(q_cX q_AX q_IX q_J0, 40 + 1, 26520 + 6), q_J0 39, ?_, rfl, fun h => absurd h (by decide), Nat.le_of_ble_eq_true rfl, Nat.le_of_ble_eq_true rfl⟩, ⟨(q_cM q_AM (q_uI q_IM 0 39 1) q_J0, 34, 31630), _, ?_, rfl, rfl, Nat.le_of_ble_eq_true rfl, Nat.le_of_ble_eq_true rfl⟩, fun h => absurd h (by decide)⟩
    · refine q_Ca_of (Nat.le_of_ble_eq_true rfl) ?_
      refine q_Ru_seg (g2 := (5, [(0, .ref 64), (1, .int a), (2, .int v), (3, .ref 103)], [.int v, .int a, .ref 64, .int 0, .ref 103], (q_cX q_AX q_IX q_J0, 40, 26520))) 5 (fun _ _ => rfl) ?_
      refine q_Ru_callH (E := "java/lang/IndexOutOfBoundsException") (tg := 15) (i := 4) (h2 := (q_cX q_AX q_IX q_J0, 40 + 1, 26520 + 6)) rfl rfl ?_ rfl ?_
      · refine q_Ca_of (Nat.le_of_ble_eq_true rfl) ?_
        refine q_Ru_seg (g2 := (1, [(0, .ref 64), (1, .int a), (2, .int v)], [.int a], (q_cX q_AX q_IX q_J0, 40, 26520))) 1 (fun _ _ => rfl) ?_
        refine q_Ru_callX (E := "java/lang/IndexOutOfBoundsException") (h2 := (q_cX q_AX q_IX q_J0, 40 + 1, 26520 + 6)) rfl rfl ?_
        refine q_Ca_of (Nat.le_of_ble_eq_true rfl) ?_
        refine q_Ru_seg (g2 := (4, [(0, .int a)], [.int 4096, .int a], (q_cX q_AX q_IX q_J0, 40, 26520))) 2 (fun _ _ => rfl) ?_
        refine q_Ru_callX (E := "java/lang/IndexOutOfBoundsException") (h2 := (q_cX q_AX q_IX q_J0, 40 + 1, 26520 + 6)) rfl rfl ?_
        refine q_Ca_of (Nat.le_of_ble_eq_true rfl) ?_
        refine q_Ru_seg (g2 := (1, [(0, .int a), (1, .int 4096)], [.int a], (q_cX q_AX q_IX q_J0, 40, 26520))) 1 (fun _ _ => rfl) ?_
        refine q_Ru_rsT (g2 := (9, [(0, .int a), (1, .int 4096)], [], (q_cX q_AX q_IX q_J0, 40, 26520))) rfl rfl h231 ?_
        exact q_Ru_thr rfl rfl
      show q_Ru _ _ _ (15, [(0, .ref 64), (1, .int a), (2, .int v), (3, .ref 103)], [], (q_cX q_AX q_IX q_J0, 40 + 1, 26520 + 6)) _
      refine q_Ru_seg (g2 := (16, [(0, .ref 64), (1, .int a), (2, .int v), (3, .ref 103)], [.int 1], (q_cX q_AX q_IX q_J0, 40 + 1, 26520 + 6))) 1 (fun _ _ => rfl) ?_
      exact q_Ru_ret rfl rfl
    · refine q_Ca_of (Nat.le_of_ble_eq_true rfl) ?_
      refine q_Ru_seg (g2 := (2, [(0, .ref 64), (1, .int a), (2, .int v)], [.int a, .ref 64], (q_cM q_AM q_IM q_J0, 34, 31630))) 2 (fun _ _ => rfl) ?_
      refine q_Ru_call (v := (some (.int 1))) (h2 := (q_cM q_AM q_IM q_J0, 34, 31630)) rfl rfl ?_ ?_
      · refine q_Ca_of (Nat.le_of_ble_eq_true rfl) ?_
        refine q_Ru_seg (g2 := (5, [(0, .int a)], [.int 4095, .int 0, .int a], (q_cM q_AM q_IM q_J0, 34, 31630))) 3 (fun _ _ => rfl) ?_
        refine q_Ru_call (v := (some (.int 0))) (h2 := (q_cM q_AM q_IM q_J0, 34, 31630)) rfl rfl ?_ ?_
        · refine q_Ca_of (Nat.le_of_ble_eq_true rfl) ?_
          refine q_Ru_seg (g2 := (2, [(0, .int a), (1, .int 0), (2, .int 4095)], [.int 0, .int a], (q_cM q_AM q_IM q_J0, 34, 31630))) 2 (fun _ _ => rfl) ?_
          refine q_Ru_rsT (g2 := (14, [(0, .int a), (1, .int 0), (2, .int 4095)], [], (q_cM q_AM q_IM q_J0, 34, 31630))) rfl rfl h231 ?_
          refine q_Ru_seg (g2 := (15, [(0, .int a), (1, .int 0), (2, .int 4095)], [.int 0], (q_cM q_AM q_IM q_J0, 34, 31630))) 1 (fun _ _ => rfl) ?_
          exact q_Ru_ret rfl rfl
        show q_Ru _ _ _ (8, [(0, .int a)], [.int 0], (q_cM q_AM q_IM q_J0, 34, 31630)) _
        refine q_Ru_seg (g2 := (16, [(0, .int a)], [.int 1], (q_cM q_AM q_IM q_J0, 34, 31630))) 3 (fun _ _ => rfl) ?_
        exact q_Ru_ret rfl rfl
      show q_Ru _ _ _ (5, [(0, .ref 64), (1, .int a), (2, .int v)], [.int 1, .ref 64], (q_cM q_AM q_IM q_J0, 34, 31630)) _
      refine q_Ru_seg (g2 := (24, [(0, .ref 64), (1, .int a), (2, .int v)], [.int 1, .ref 64], (q_cM q_AM q_IM q_J0, 34, 31630))) 3 (fun _ _ => rfl) ?_
      refine q_Ru_call (v := (some (.int 1))) (h2 := (q_cM q_AM (q_uI q_IM 0 39 1) q_J0, 34, 31630)) rfl rfl ?_ ?_
      · refine q_Ca_of (Nat.le_of_ble_eq_true rfl) ?_
        refine q_Ru_seg (g2 := (14, [(0, .ref 64), (1, .int 1)], [.int 1], (q_cM q_AM (q_uI q_IM 0 39 1) q_J0, 34, 31630))) 7 (fun _ _ => rfl) ?_
        exact q_Ru_ret rfl rfl
      show q_Ru _ _ _ (27, [(0, .ref 64), (1, .int a), (2, .int v)], [.int 1], (q_cM q_AM (q_uI q_IM 0 39 1) q_J0, 34, 31630)) _
      refine q_Ru_seg (g2 := (31, [(0, .ref 64), (1, .int a), (2, .int v)], [.int 0], (q_cM q_AM (q_uI q_IM 0 39 1) q_J0, 34, 31630))) 2 (fun _ _ => rfl) ?_
      exact q_Ru_ret rfl rfl
  | false =>
    cases h232 : decide (a < 4096) with
    | true =>
      cases h233 : decide (v < 0) with
      | true =>
        cases h234 : decide (4095 < a) with
        | true =>
          exact q_no (q_lo2 h234) (q_hi1 h232) (by decide)
        | false =>
          refine ⟨2, 0, 0, ⟨(q_cX q_AX q_IX q_J0, 40 + 1, 26520 + 6), q_J0 39, ?_, rfl, fun h => absurd h (by decide), Nat.le_of_ble_eq_true rfl, Nat.le_of_ble_eq_true rfl⟩, ⟨(q_cM q_AM (q_uI q_IM 0 39 2) q_J0, 34, 31630), _, ?_, rfl, rfl, Nat.le_of_ble_eq_true rfl, Nat.le_of_ble_eq_true rfl⟩, fun h => absurd h (by decide)⟩
          · refine q_Ca_of (Nat.le_of_ble_eq_true rfl) ?_
            refine q_Ru_seg (g2 := (5, [(0, .ref 64), (1, .int a), (2, .int v), (3, .ref 103)], [.int v, .int a, .ref 64, .int 0, .ref 103], (q_cX q_AX q_IX q_J0, 40, 26520))) 5 (fun _ _ => rfl) ?_
            refine q_Ru_callH (E := "java/lang/IllegalArgumentException") (tg := 19) (i := 4) (h2 := (q_cX q_AX q_IX q_J0, 40 + 1, 26520 + 6)) rfl rfl ?_ rfl ?_
            · refine q_Ca_of (Nat.le_of_ble_eq_true rfl) ?_
              refine q_Ru_seg (g2 := (1, [(0, .ref 64), (1, .int a), (2, .int v)], [.int a], (q_cX q_AX q_IX q_J0, 40, 26520))) 1 (fun _ _ => rfl) ?_
              refine q_Ru_call (v := none) (h2 := (q_cX q_AX q_IX q_J0, 40, 26520)) rfl rfl ?_ ?_
              · refine q_Ca_of (Nat.le_of_ble_eq_true rfl) ?_
                refine q_Ru_seg (g2 := (4, [(0, .int a)], [.int 4096, .int a], (q_cX q_AX q_IX q_J0, 40, 26520))) 2 (fun _ _ => rfl) ?_
                refine q_Ru_call (v := none) (h2 := (q_cX q_AX q_IX q_J0, 40, 26520)) rfl rfl ?_ ?_
                · refine q_Ca_of (Nat.le_of_ble_eq_true rfl) ?_
                  refine q_Ru_seg (g2 := (1, [(0, .int a), (1, .int 4096)], [.int a], (q_cX q_AX q_IX q_J0, 40, 26520))) 1 (fun _ _ => rfl) ?_
                  refine q_Ru_rsF (g2 := (4, [(0, .int a), (1, .int 4096)], [], (q_cX q_AX q_IX q_J0, 40, 26520))) rfl rfl h231 ?_
                  refine q_Ru_seg (g2 := (6, [(0, .int a), (1, .int 4096)], [.int 4096, .int a], (q_cX q_AX q_IX q_J0, 40, 26520))) 2 (fun _ _ => rfl) ?_
                  refine q_Ru_rsT (g2 := (19, [(0, .int a), (1, .int 4096)], [], (q_cX q_AX q_IX q_J0, 40, 26520))) rfl rfl h232 ?_
                  exact q_Ru_ret rfl rfl
                show q_Ru _ _ _ (7, [(0, .int a)], [], (q_cX q_AX q_IX q_J0, 40, 26520)) _
                exact q_Ru_ret rfl rfl
              show q_Ru _ _ _ (4, [(0, .ref 64), (1, .int a), (2, .int v)], [], (q_cX q_AX q_IX q_J0, 40, 26520)) _
              refine q_Ru_seg (g2 := (5, [(0, .ref 64), (1, .int a), (2, .int v)], [.int v], (q_cX q_AX q_IX q_J0, 40, 26520))) 1 (fun _ _ => rfl) ?_
              refine q_Ru_callX (E := "java/lang/IllegalArgumentException") (h2 := (q_cX q_AX q_IX q_J0, 40 + 1, 26520 + 6)) rfl rfl ?_
              refine q_Ca_of (Nat.le_of_ble_eq_true rfl) ?_
              refine q_Ru_seg (g2 := (5, [(0, .int v)], [.int 255, .int 0, .int v], (q_cX q_AX q_IX q_J0, 40, 26520))) 3 (fun _ _ => rfl) ?_
              refine q_Ru_callX (E := "java/lang/IllegalArgumentException") (h2 := (q_cX q_AX q_IX q_J0, 40 + 1, 26520 + 6)) rfl rfl ?_
              refine q_Ca_of (Nat.le_of_ble_eq_true rfl) ?_
              refine q_Ru_seg (g2 := (2, [(0, .int v), (1, .int 0), (2, .int 255)], [.int 0, .int v], (q_cX q_AX q_IX q_J0, 40, 26520))) 2 (fun _ _ => rfl) ?_
              refine q_Ru_rsT (g2 := (10, [(0, .int v), (1, .int 0), (2, .int 255)], [], (q_cX q_AX q_IX q_J0, 40, 26520))) rfl rfl h233 ?_
              exact q_Ru_thr rfl rfl
            show q_Ru _ _ _ (19, [(0, .ref 64), (1, .int a), (2, .int v), (3, .ref 103)], [], (q_cX q_AX q_IX q_J0, 40 + 1, 26520 + 6)) _
            refine q_Ru_seg (g2 := (20, [(0, .ref 64), (1, .int a), (2, .int v), (3, .ref 103)], [.int 2], (q_cX q_AX q_IX q_J0, 40 + 1, 26520 + 6))) 1 (fun _ _ => rfl) ?_
            exact q_Ru_ret rfl rfl
          · refine q_Ca_of (Nat.le_of_ble_eq_true rfl) ?_
            refine q_Ru_seg (g2 := (2, [(0, .ref 64), (1, .int a), (2, .int v)], [.int a, .ref 64], (q_cM q_AM q_IM q_J0, 34, 31630))) 2 (fun _ _ => rfl) ?_
            refine q_Ru_call (v := (some (.int 0))) (h2 := (q_cM q_AM q_IM q_J0, 34, 31630)) rfl rfl ?_ ?_
            · refine q_Ca_of (Nat.le_of_ble_eq_true rfl) ?_
              refine q_Ru_seg (g2 := (5, [(0, .int a)], [.int 4095, .int 0, .int a], (q_cM q_AM q_IM q_J0, 34, 31630))) 3 (fun _ _ => rfl) ?_
              refine q_Ru_call (v := (some (.int 1))) (h2 := (q_cM q_AM q_IM q_J0, 34, 31630)) rfl rfl ?_ ?_
              · refine q_Ca_of (Nat.le_of_ble_eq_true rfl) ?_
                refine q_Ru_seg (g2 := (2, [(0, .int a), (1, .int 0), (2, .int 4095)], [.int 0, .int a], (q_cM q_AM q_IM q_J0, 34, 31630))) 2 (fun _ _ => rfl) ?_
                refine q_Ru_rsF (g2 := (5, [(0, .int a), (1, .int 0), (2, .int 4095)], [], (q_cM q_AM q_IM q_J0, 34, 31630))) rfl rfl h231 ?_
                refine q_Ru_seg (g2 := (7, [(0, .int a), (1, .int 0), (2, .int 4095)], [.int 4095, .int a], (q_cM q_AM q_IM q_J0, 34, 31630))) 2 (fun _ _ => rfl) ?_
                refine q_Ru_rsF (g2 := (10, [(0, .int a), (1, .int 0), (2, .int 4095)], [], (q_cM q_AM q_IM q_J0, 34, 31630))) rfl rfl h234 ?_
                refine q_Ru_seg (g2 := (15, [(0, .int a), (1, .int 0), (2, .int 4095)], [.int 1], (q_cM q_AM q_IM q_J0, 34, 31630))) 2 (fun _ _ => rfl) ?_
                exact q_Ru_ret rfl rfl
              show q_Ru _ _ _ (8, [(0, .int a)], [.int 1], (q_cM q_AM q_IM q_J0, 34, 31630)) _
              refine q_Ru_seg (g2 := (16, [(0, .int a)], [.int 0], (q_cM q_AM q_IM q_J0, 34, 31630))) 2 (fun _ _ => rfl) ?_
              exact q_Ru_ret rfl rfl
            show q_Ru _ _ _ (5, [(0, .ref 64), (1, .int a), (2, .int v)], [.int 0, .ref 64], (q_cM q_AM q_IM q_J0, 34, 31630)) _
            refine q_Ru_seg (g2 := (13, [(0, .ref 64), (1, .int a), (2, .int v)], [.int v, .ref 64], (q_cM q_AM q_IM q_J0, 34, 31630))) 2 (fun _ _ => rfl) ?_
            refine q_Ru_call (v := (some (.int 1))) (h2 := (q_cM q_AM q_IM q_J0, 34, 31630)) rfl rfl ?_ ?_
            · refine q_Ca_of (Nat.le_of_ble_eq_true rfl) ?_
              refine q_Ru_seg (g2 := (5, [(0, .int v)], [.int 255, .int 0, .int v], (q_cM q_AM q_IM q_J0, 34, 31630))) 3 (fun _ _ => rfl) ?_
              refine q_Ru_call (v := (some (.int 0))) (h2 := (q_cM q_AM q_IM q_J0, 34, 31630)) rfl rfl ?_ ?_
              · refine q_Ca_of (Nat.le_of_ble_eq_true rfl) ?_
                refine q_Ru_seg (g2 := (2, [(0, .int v), (1, .int 0), (2, .int 255)], [.int 0, .int v], (q_cM q_AM q_IM q_J0, 34, 31630))) 2 (fun _ _ => rfl) ?_
                refine q_Ru_rsT (g2 := (14, [(0, .int v), (1, .int 0), (2, .int 255)], [], (q_cM q_AM q_IM q_J0, 34, 31630))) rfl rfl h233 ?_
                refine q_Ru_seg (g2 := (15, [(0, .int v), (1, .int 0), (2, .int 255)], [.int 0], (q_cM q_AM q_IM q_J0, 34, 31630))) 1 (fun _ _ => rfl) ?_
                exact q_Ru_ret rfl rfl
              show q_Ru _ _ _ (8, [(0, .int v)], [.int 0], (q_cM q_AM q_IM q_J0, 34, 31630)) _
              refine q_Ru_seg (g2 := (16, [(0, .int v)], [.int 1], (q_cM q_AM q_IM q_J0, 34, 31630))) 3 (fun _ _ => rfl) ?_
              exact q_Ru_ret rfl rfl
            show q_Ru _ _ _ (16, [(0, .ref 64), (1, .int a), (2, .int v)], [.int 1, .ref 64], (q_cM q_AM q_IM q_J0, 34, 31630)) _
            refine q_Ru_seg (g2 := (24, [(0, .ref 64), (1, .int a), (2, .int v)], [.int 2, .ref 64], (q_cM q_AM q_IM q_J0, 34, 31630))) 3 (fun _ _ => rfl) ?_
            refine q_Ru_call (v := (some (.int 1))) (h2 := (q_cM q_AM (q_uI q_IM 0 39 2) q_J0, 34, 31630)) rfl rfl ?_ ?_
            · refine q_Ca_of (Nat.le_of_ble_eq_true rfl) ?_
              refine q_Ru_seg (g2 := (14, [(0, .ref 64), (1, .int 2)], [.int 1], (q_cM q_AM (q_uI q_IM 0 39 2) q_J0, 34, 31630))) 7 (fun _ _ => rfl) ?_
              exact q_Ru_ret rfl rfl
            show q_Ru _ _ _ (27, [(0, .ref 64), (1, .int a), (2, .int v)], [.int 1], (q_cM q_AM (q_uI q_IM 0 39 2) q_J0, 34, 31630)) _
            refine q_Ru_seg (g2 := (31, [(0, .ref 64), (1, .int a), (2, .int v)], [.int 0], (q_cM q_AM (q_uI q_IM 0 39 2) q_J0, 34, 31630))) 2 (fun _ _ => rfl) ?_
            exact q_Ru_ret rfl rfl
      | false =>
        cases h235 : decide (255 < v) with
        | true =>
          cases h236 : decide (4095 < a) with
          | true =>
            exact q_no (q_lo2 h236) (q_hi1 h232) (by decide)
          | false =>
            refine ⟨2, 0, 0, ⟨(q_cX q_AX q_IX q_J0, 40 + 1, 26520 + 6), q_J0 39, ?_, rfl, fun h => absurd h (by decide), Nat.le_of_ble_eq_true rfl, Nat.le_of_ble_eq_true rfl⟩, ⟨(q_cM q_AM (q_uI q_IM 0 39 2) q_J0, 34, 31630), _, ?_, rfl, rfl, Nat.le_of_ble_eq_true rfl, Nat.le_of_ble_eq_true rfl⟩, fun h => absurd h (by decide)⟩
            · refine q_Ca_of (Nat.le_of_ble_eq_true rfl) ?_
              refine q_Ru_seg (g2 := (5, [(0, .ref 64), (1, .int a), (2, .int v), (3, .ref 103)], [.int v, .int a, .ref 64, .int 0, .ref 103], (q_cX q_AX q_IX q_J0, 40, 26520))) 5 (fun _ _ => rfl) ?_
              refine q_Ru_callH (E := "java/lang/IllegalArgumentException") (tg := 19) (i := 4) (h2 := (q_cX q_AX q_IX q_J0, 40 + 1, 26520 + 6)) rfl rfl ?_ rfl ?_
              · refine q_Ca_of (Nat.le_of_ble_eq_true rfl) ?_
                refine q_Ru_seg (g2 := (1, [(0, .ref 64), (1, .int a), (2, .int v)], [.int a], (q_cX q_AX q_IX q_J0, 40, 26520))) 1 (fun _ _ => rfl) ?_
                refine q_Ru_call (v := none) (h2 := (q_cX q_AX q_IX q_J0, 40, 26520)) rfl rfl ?_ ?_
                · refine q_Ca_of (Nat.le_of_ble_eq_true rfl) ?_
                  refine q_Ru_seg (g2 := (4, [(0, .int a)], [.int 4096, .int a], (q_cX q_AX q_IX q_J0, 40, 26520))) 2 (fun _ _ => rfl) ?_
                  refine q_Ru_call (v := none) (h2 := (q_cX q_AX q_IX q_J0, 40, 26520)) rfl rfl ?_ ?_
                  · refine q_Ca_of (Nat.le_of_ble_eq_true rfl) ?_
                    refine q_Ru_seg (g2 := (1, [(0, .int a), (1, .int 4096)], [.int a], (q_cX q_AX q_IX q_J0, 40, 26520))) 1 (fun _ _ => rfl) ?_
                    refine q_Ru_rsF (g2 := (4, [(0, .int a), (1, .int 4096)], [], (q_cX q_AX q_IX q_J0, 40, 26520))) rfl rfl h231 ?_
                    refine q_Ru_seg (g2 := (6, [(0, .int a), (1, .int 4096)], [.int 4096, .int a], (q_cX q_AX q_IX q_J0, 40, 26520))) 2 (fun _ _ => rfl) ?_
                    refine q_Ru_rsT (g2 := (19, [(0, .int a), (1, .int 4096)], [], (q_cX q_AX q_IX q_J0, 40, 26520))) rfl rfl h232 ?_
                    exact q_Ru_ret rfl rfl
                  show q_Ru _ _ _ (7, [(0, .int a)], [], (q_cX q_AX q_IX q_J0, 40, 26520)) _
                  exact q_Ru_ret rfl rfl
                show q_Ru _ _ _ (4, [(0, .ref 64), (1, .int a), (2, .int v)], [], (q_cX q_AX q_IX q_J0, 40, 26520)) _
                refine q_Ru_seg (g2 := (5, [(0, .ref 64), (1, .int a), (2, .int v)], [.int v], (q_cX q_AX q_IX q_J0, 40, 26520))) 1 (fun _ _ => rfl) ?_
                refine q_Ru_callX (E := "java/lang/IllegalArgumentException") (h2 := (q_cX q_AX q_IX q_J0, 40 + 1, 26520 + 6)) rfl rfl ?_
                refine q_Ca_of (Nat.le_of_ble_eq_true rfl) ?_
                refine q_Ru_seg (g2 := (5, [(0, .int v)], [.int 255, .int 0, .int v], (q_cX q_AX q_IX q_J0, 40, 26520))) 3 (fun _ _ => rfl) ?_
                refine q_Ru_callX (E := "java/lang/IllegalArgumentException") (h2 := (q_cX q_AX q_IX q_J0, 40 + 1, 26520 + 6)) rfl rfl ?_
                refine q_Ca_of (Nat.le_of_ble_eq_true rfl) ?_
                refine q_Ru_seg (g2 := (2, [(0, .int v), (1, .int 0), (2, .int 255)], [.int 0, .int v], (q_cX q_AX q_IX q_J0, 40, 26520))) 2 (fun _ _ => rfl) ?_
                refine q_Ru_rsF (g2 := (5, [(0, .int v), (1, .int 0), (2, .int 255)], [], (q_cX q_AX q_IX q_J0, 40, 26520))) rfl rfl h233 ?_
                refine q_Ru_seg (g2 := (7, [(0, .int v), (1, .int 0), (2, .int 255)], [.int 255, .int v], (q_cX q_AX q_IX q_J0, 40, 26520))) 2 (fun _ _ => rfl) ?_
                refine q_Ru_rsF (g2 := (10, [(0, .int v), (1, .int 0), (2, .int 255)], [], (q_cX q_AX q_IX q_J0, 40, 26520))) rfl rfl (q_d_geT h235) ?_
                exact q_Ru_thr rfl rfl
              show q_Ru _ _ _ (19, [(0, .ref 64), (1, .int a), (2, .int v), (3, .ref 103)], [], (q_cX q_AX q_IX q_J0, 40 + 1, 26520 + 6)) _
              refine q_Ru_seg (g2 := (20, [(0, .ref 64), (1, .int a), (2, .int v), (3, .ref 103)], [.int 2], (q_cX q_AX q_IX q_J0, 40 + 1, 26520 + 6))) 1 (fun _ _ => rfl) ?_
              exact q_Ru_ret rfl rfl
            · refine q_Ca_of (Nat.le_of_ble_eq_true rfl) ?_
              refine q_Ru_seg (g2 := (2, [(0, .ref 64), (1, .int a), (2, .int v)], [.int a, .ref 64], (q_cM q_AM q_IM q_J0, 34, 31630))) 2 (fun _ _ => rfl) ?_
              refine q_Ru_call (v := (some (.int 0))) (h2 := (q_cM q_AM q_IM q_J0, 34, 31630)) rfl rfl ?_ ?_
              · refine q_Ca_of (Nat.le_of_ble_eq_true rfl) ?_
                refine q_Ru_seg (g2 := (5, [(0, .int a)], [.int 4095, .int 0, .int a], (q_cM q_AM q_IM q_J0, 34, 31630))) 3 (fun _ _ => rfl) ?_
                refine q_Ru_call (v := (some (.int 1))) (h2 := (q_cM q_AM q_IM q_J0, 34, 31630)) rfl rfl ?_ ?_
                · refine q_Ca_of (Nat.le_of_ble_eq_true rfl) ?_
                  refine q_Ru_seg (g2 := (2, [(0, .int a), (1, .int 0), (2, .int 4095)], [.int 0, .int a], (q_cM q_AM q_IM q_J0, 34, 31630))) 2 (fun _ _ => rfl) ?_
                  refine q_Ru_rsF (g2 := (5, [(0, .int a), (1, .int 0), (2, .int 4095)], [], (q_cM q_AM q_IM q_J0, 34, 31630))) rfl rfl h231 ?_
                  refine q_Ru_seg (g2 := (7, [(0, .int a), (1, .int 0), (2, .int 4095)], [.int 4095, .int a], (q_cM q_AM q_IM q_J0, 34, 31630))) 2 (fun _ _ => rfl) ?_
                  refine q_Ru_rsF (g2 := (10, [(0, .int a), (1, .int 0), (2, .int 4095)], [], (q_cM q_AM q_IM q_J0, 34, 31630))) rfl rfl h236 ?_
                  refine q_Ru_seg (g2 := (15, [(0, .int a), (1, .int 0), (2, .int 4095)], [.int 1], (q_cM q_AM q_IM q_J0, 34, 31630))) 2 (fun _ _ => rfl) ?_
                  exact q_Ru_ret rfl rfl
                show q_Ru _ _ _ (8, [(0, .int a)], [.int 1], (q_cM q_AM q_IM q_J0, 34, 31630)) _
                refine q_Ru_seg (g2 := (16, [(0, .int a)], [.int 0], (q_cM q_AM q_IM q_J0, 34, 31630))) 2 (fun _ _ => rfl) ?_
                exact q_Ru_ret rfl rfl
              show q_Ru _ _ _ (5, [(0, .ref 64), (1, .int a), (2, .int v)], [.int 0, .ref 64], (q_cM q_AM q_IM q_J0, 34, 31630)) _
              refine q_Ru_seg (g2 := (13, [(0, .ref 64), (1, .int a), (2, .int v)], [.int v, .ref 64], (q_cM q_AM q_IM q_J0, 34, 31630))) 2 (fun _ _ => rfl) ?_
              refine q_Ru_call (v := (some (.int 1))) (h2 := (q_cM q_AM q_IM q_J0, 34, 31630)) rfl rfl ?_ ?_
              · refine q_Ca_of (Nat.le_of_ble_eq_true rfl) ?_
                refine q_Ru_seg (g2 := (5, [(0, .int v)], [.int 255, .int 0, .int v], (q_cM q_AM q_IM q_J0, 34, 31630))) 3 (fun _ _ => rfl) ?_
                refine q_Ru_call (v := (some (.int 0))) (h2 := (q_cM q_AM q_IM q_J0, 34, 31630)) rfl rfl ?_ ?_
                · refine q_Ca_of (Nat.le_of_ble_eq_true rfl) ?_
                  refine q_Ru_seg (g2 := (2, [(0, .int v), (1, .int 0), (2, .int 255)], [.int 0, .int v], (q_cM q_AM q_IM q_J0, 34, 31630))) 2 (fun _ _ => rfl) ?_
                  refine q_Ru_rsF (g2 := (5, [(0, .int v), (1, .int 0), (2, .int 255)], [], (q_cM q_AM q_IM q_J0, 34, 31630))) rfl rfl h233 ?_
                  refine q_Ru_seg (g2 := (7, [(0, .int v), (1, .int 0), (2, .int 255)], [.int 255, .int v], (q_cM q_AM q_IM q_J0, 34, 31630))) 2 (fun _ _ => rfl) ?_
                  refine q_Ru_rsT (g2 := (14, [(0, .int v), (1, .int 0), (2, .int 255)], [], (q_cM q_AM q_IM q_J0, 34, 31630))) rfl rfl h235 ?_
                  refine q_Ru_seg (g2 := (15, [(0, .int v), (1, .int 0), (2, .int 255)], [.int 0], (q_cM q_AM q_IM q_J0, 34, 31630))) 1 (fun _ _ => rfl) ?_
                  exact q_Ru_ret rfl rfl
                show q_Ru _ _ _ (8, [(0, .int v)], [.int 0], (q_cM q_AM q_IM q_J0, 34, 31630)) _
                refine q_Ru_seg (g2 := (16, [(0, .int v)], [.int 1], (q_cM q_AM q_IM q_J0, 34, 31630))) 3 (fun _ _ => rfl) ?_
                exact q_Ru_ret rfl rfl
              show q_Ru _ _ _ (16, [(0, .ref 64), (1, .int a), (2, .int v)], [.int 1, .ref 64], (q_cM q_AM q_IM q_J0, 34, 31630)) _
              refine q_Ru_seg (g2 := (24, [(0, .ref 64), (1, .int a), (2, .int v)], [.int 2, .ref 64], (q_cM q_AM q_IM q_J0, 34, 31630))) 3 (fun _ _ => rfl) ?_
              refine q_Ru_call (v := (some (.int 1))) (h2 := (q_cM q_AM (q_uI q_IM 0 39 2) q_J0, 34, 31630)) rfl rfl ?_ ?_
              · refine q_Ca_of (Nat.le_of_ble_eq_true rfl) ?_
                refine q_Ru_seg (g2 := (14, [(0, .ref 64), (1, .int 2)], [.int 1], (q_cM q_AM (q_uI q_IM 0 39 2) q_J0, 34, 31630))) 7 (fun _ _ => rfl) ?_
                exact q_Ru_ret rfl rfl
              show q_Ru _ _ _ (27, [(0, .ref 64), (1, .int a), (2, .int v)], [.int 1], (q_cM q_AM (q_uI q_IM 0 39 2) q_J0, 34, 31630)) _
              refine q_Ru_seg (g2 := (31, [(0, .ref 64), (1, .int a), (2, .int v)], [.int 0], (q_cM q_AM (q_uI q_IM 0 39 2) q_J0, 34, 31630))) 2 (fun _ _ => rfl) ?_
              exact q_Ru_ret rfl rfl
        | false =>
          cases h237 : decide (a - 3840 < 0) with
          | true =>
            cases h238 : decide (4095 < a) with
            | true =>
              exact q_no (q_lo2 h238) (q_sub_hi 3839 (q_hi1 h237) (q_lo1 h231) (q_hi1 h232)) (by decide)
            | false =>
              cases h239 : decide (a < 3840) with
              | true =>
                cases h240 : decide (a < 3072) with
                | true =>
                  cases h241 : decide (a < 2048) with
                  | true =>
                    obtain ⟨A13, I13, p13⟩ := q_p_write q_AX q_IX (40) (26520) a v
                    obtain ⟨A14, p14⟩ := q_p_writes q_AM (q_uI q_IM 0 39 0) (34) (31630) a v (q_lo1 h231) (Int.le_trans (q_hi1 h241) (by decide))
                    refine ⟨0, 0, 0, ⟨(q_cX A13 I13 (q_uA q_J0 39 (vp_updL (fun _ => 0) 0 0)), 40, 26520), (q_uA q_J0 39 (vp_updL (fun _ => 0) 0 0)) 39, ?_, rfl, fun _ => rfl, Nat.le_of_ble_eq_true rfl, Nat.le_of_ble_eq_true rfl⟩, ⟨(q_cM A14 (q_uI q_IM 0 39 0) q_J0, 34, 31630), _, ?_, rfl, rfl, Nat.le_of_ble_eq_true rfl, Nat.le_of_ble_eq_true rfl⟩, fun _ => rfl⟩
                    · refine q_Ca_of (Nat.le_of_ble_eq_true rfl) ?_
                      refine q_Ru_seg (g2 := (5, [(0, .ref 64), (1, .int a), (2, .int v), (3, .ref 103)], [.int v, .int a, .ref 64, .int 0, .ref 103], (q_cX q_AX q_IX q_J0, 40, 26520))) 5 (fun _ _ => rfl) ?_
                      refine q_Ru_call (v := (some (.int 0))) (h2 := (q_cX A13 I13 q_J0, 40, 26520)) rfl rfl ?_ ?_
                      · refine q_Ca_of (Nat.le_of_ble_eq_true rfl) ?_
                        refine q_Ru_seg (g2 := (1, [(0, .ref 64), (1, .int a), (2, .int v)], [.int a], (q_cX q_AX q_IX q_J0, 40, 26520))) 1 (fun _ _ => rfl) ?_
                        refine q_Ru_call (v := none) (h2 := (q_cX q_AX q_IX q_J0, 40, 26520)) rfl rfl ?_ ?_
                        · refine q_Ca_of (Nat.le_of_ble_eq_true rfl) ?_
                          refine q_Ru_seg (g2 := (4, [(0, .int a)], [.int 4096, .int a], (q_cX q_AX q_IX q_J0, 40, 26520))) 2 (fun _ _ => rfl) ?_
                          refine q_Ru_call (v := none) (h2 := (q_cX q_AX q_IX q_J0, 40, 26520)) rfl rfl ?_ ?_
                          · refine q_Ca_of (Nat.le_of_ble_eq_true rfl) ?_
                            refine q_Ru_seg (g2 := (1, [(0, .int a), (1, .int 4096)], [.int a], (q_cX q_AX q_IX q_J0, 40, 26520))) 1 (fun _ _ => rfl) ?_
                            refine q_Ru_rsF (g2 := (4, [(0, .int a), (1, .int 4096)], [], (q_cX q_AX q_IX q_J0, 40, 26520))) rfl rfl h231 ?_
                            refine q_Ru_seg (g2 := (6, [(0, .int a), (1, .int 4096)], [.int 4096, .int a], (q_cX q_AX q_IX q_J0, 40, 26520))) 2 (fun _ _ => rfl) ?_
                            refine q_Ru_rsT (g2 := (19, [(0, .int a), (1, .int 4096)], [], (q_cX q_AX q_IX q_J0, 40, 26520))) rfl rfl h232 ?_
                            exact q_Ru_ret rfl rfl
                          show q_Ru _ _ _ (7, [(0, .int a)], [], (q_cX q_AX q_IX q_J0, 40, 26520)) _
                          exact q_Ru_ret rfl rfl
                        show q_Ru _ _ _ (4, [(0, .ref 64), (1, .int a), (2, .int v)], [], (q_cX q_AX q_IX q_J0, 40, 26520)) _
                        refine q_Ru_seg (g2 := (5, [(0, .ref 64), (1, .int a), (2, .int v)], [.int v], (q_cX q_AX q_IX q_J0, 40, 26520))) 1 (fun _ _ => rfl) ?_
                        refine q_Ru_call (v := none) (h2 := (q_cX q_AX q_IX q_J0, 40, 26520)) rfl rfl ?_ ?_
                        · refine q_Ca_of (Nat.le_of_ble_eq_true rfl) ?_
                          refine q_Ru_seg (g2 := (5, [(0, .int v)], [.int 255, .int 0, .int v], (q_cX q_AX q_IX q_J0, 40, 26520))) 3 (fun _ _ => rfl) ?_
                          refine q_Ru_call (v := none) (h2 := (q_cX q_AX q_IX q_J0, 40, 26520)) rfl rfl ?_ ?_
                          · refine q_Ca_of (Nat.le_of_ble_eq_true rfl) ?_
                            refine q_Ru_seg (g2 := (2, [(0, .int v), (1, .int 0), (2, .int 255)], [.int 0, .int v], (q_cX q_AX q_IX q_J0, 40, 26520))) 2 (fun _ _ => rfl) ?_
                            refine q_Ru_rsF (g2 := (5, [(0, .int v), (1, .int 0), (2, .int 255)], [], (q_cX q_AX q_IX q_J0, 40, 26520))) rfl rfl h233 ?_
                            refine q_Ru_seg (g2 := (7, [(0, .int v), (1, .int 0), (2, .int 255)], [.int 255, .int v], (q_cX q_AX q_IX q_J0, 40, 26520))) 2 (fun _ _ => rfl) ?_
                            refine q_Ru_rsT (g2 := (20, [(0, .int v), (1, .int 0), (2, .int 255)], [], (q_cX q_AX q_IX q_J0, 40, 26520))) rfl rfl (q_d_geF h235) ?_
                            exact q_Ru_ret rfl rfl
                          show q_Ru _ _ _ (8, [(0, .int v)], [], (q_cX q_AX q_IX q_J0, 40, 26520)) _
                          exact q_Ru_ret rfl rfl
                        show q_Ru _ _ _ (8, [(0, .ref 64), (1, .int a), (2, .int v)], [], (q_cX q_AX q_IX q_J0, 40, 26520)) _
                        refine q_Ru_seg (g2 := (13, [(0, .ref 64), (1, .int a), (2, .int v)], [.int 0, .int v, .int a, .int 0, .ref 64], (q_cX q_AX q_IX q_J0, 40, 26520))) 5 (fun _ _ => rfl) ?_
                        refine q_Ru_call (v := none) (h2 := (q_cX q_AX q_IX q_J0, 40, 26520)) rfl rfl ?_ ?_
                        · refine q_Ca_of (Nat.le_of_ble_eq_true rfl) ?_
                          refine q_Ru_seg (g2 := (19, [(0, .ref 64), (1, .int 0), (2, .int a), (3, .int v), (4, .int 0)], [], (q_cX q_AX q_IX q_J0, 40, 26520))) 3 (fun _ _ => rfl) ?_
                          exact q_Ru_ret rfl rfl
                        show q_Ru _ _ _ (16, [(0, .ref 64), (1, .int a), (2, .int v)], [], (q_cX q_AX q_IX q_J0, 40, 26520)) _
                        refine q_Ru_seg (g2 := (24, [(0, .ref 64), (1, .int a), (2, .int v)], [.int 0, .int v, .int a, .int 0, .ref 65], (q_cX q_AX q_IX q_J0, 40, 26520))) 6 (fun _ _ => rfl) ?_
                        refine q_Ru_call (v := (some (.int 0))) (h2 := (q_cX A13 I13 q_J0, 40, 26520)) rfl rfl ?_ ?_
                        · refine q_Ca_of (Nat.le_of_ble_eq_true rfl) ?_
                          refine q_Ru_seg (g2 := (74, [(0, .ref 65), (1, .int 0), (2, .int a), (3, .int v), (4, .int 0)], [.int v, .int a, .ref 66], (q_cX q_AX q_IX q_J0, 40, 26520))) 6 (fun _ _ => rfl) ?_
                          refine q_Ru_call (v := (some (.int 0))) (h2 := (q_cX A13 I13 q_J0, 40, 26520)) rfl rfl ?_ ?_
                          · refine q_Ca_of (Nat.le_of_ble_eq_true rfl) ?_
                            refine q_Ru_seg (g2 := (2, [(0, .ref 66), (1, .int a), (2, .int v)], [.int a, .ref 66], (q_cX q_AX q_IX q_J0, 40, 26520))) 2 (fun _ _ => rfl) ?_
                            refine q_Ru_call (v := (some (.int 0))) (h2 := (q_cX q_AX q_IX q_J0, 40, 26520)) rfl rfl ?_ ?_
                            · refine q_Ca_of (Nat.le_of_ble_eq_true rfl) ?_
                              refine q_Ru_seg (g2 := (7, [(2, .int (a - 3840)), (0, .ref 66), (1, .int a)], [.int (a - 3840)], (q_cX q_AX q_IX q_J0, 40, 26520))) 5 (fun _ _ => rfl) ?_
                              refine q_Ru_rsT (g2 := (31, [(2, .int (a - 3840)), (0, .ref 66), (1, .int a)], [], (q_cX q_AX q_IX q_J0, 40, 26520))) rfl rfl h237 ?_
                              refine q_Ru_seg (g2 := (127, [(3, .int 0), (2, .int (a - 3840)), (0, .ref 66), (1, .int a)], [.int (a &&& 4095), .ref 68], (q_cX q_AX q_IX q_J0, 40, 26520))) 22 (fun _ _ => rfl) ?_
                              refine q_Ru_rsT (g2 := (128, [(3, .int 0), (2, .int (a - 3840)), (0, .ref 66), (1, .int a)], [.int 0], (q_cX q_AX q_IX q_J0, 40, 26520))) rfl rfl (q_in_bd (x := a &&& 4095) (n := 4096) (U := 4095) (L := 0) (q_and_lo a 4095) (q_and_hi a 4095 4095)) ?_
                              exact q_Ru_ret rfl rfl
                            show q_Ru _ _ _ (5, [(0, .ref 66), (1, .int a), (2, .int v)], [.int 0], (q_cX q_AX q_IX q_J0, 40, 26520)) _
                            refine q_Ru_seg (g2 := (9, [(3, .int 0), (0, .ref 66), (1, .int a), (2, .int v)], [.int v, .int a, .ref 66], (q_cX q_AX q_IX q_J0, 40, 26520))) 4 (fun _ _ => rfl) ?_
                            refine q_Ru_call (v := none) (h2 := (q_cX A13 I13 q_J0, 40, 26520)) rfl rfl ?_ ?_
                            · exact p13.le (Nat.le_of_ble_eq_true rfl)
                            show q_Ru _ _ _ (12, [(3, .int 0), (0, .ref 66), (1, .int a), (2, .int v)], [], (q_cX A13 I13 q_J0, 40, 26520)) _
                            refine q_Ru_seg (g2 := (13, [(3, .int 0), (0, .ref 66), (1, .int a), (2, .int v)], [.int 0], (q_cX A13 I13 q_J0, 40, 26520))) 1 (fun _ _ => rfl) ?_
                            exact q_Ru_ret rfl rfl
                          show q_Ru _ _ _ (77, [(0, .ref 65), (1, .int 0), (2, .int a), (3, .int v), (4, .int 0)], [.int 0], (q_cX A13 I13 q_J0, 40, 26520)) _
                          exact q_Ru_ret rfl rfl
                        show q_Ru _ _ _ (27, [(0, .ref 64), (1, .int a), (2, .int v)], [.int 0], (q_cX A13 I13 q_J0, 40, 26520)) _
                        exact q_Ru_ret rfl rfl
                      show q_Ru _ _ _ (8, [(0, .ref 64), (1, .int a), (2, .int v), (3, .ref 103)], [.int 0, .int 0, .ref 103], (q_cX A13 I13 q_J0, 40, 26520)) _
                      refine q_Ru_seg (g2 := (22, [(0, .ref 64), (1, .int a), (2, .int v), (3, .ref 103)], [.int 0], (q_cX A13 I13 (q_uA q_J0 39 (vp_updL (fun _ => 0) 0 0)), 40, 26520))) 4 (fun _ _ => rfl) ?_
                      exact q_Ru_ret rfl rfl
                    · refine q_Ca_of (Nat.le_of_ble_eq_true rfl) ?_
                      refine q_Ru_seg (g2 := (2, [(0, .ref 64), (1, .int a), (2, .int v)], [.int a, .ref 64], (q_cM q_AM q_IM q_J0, 34, 31630))) 2 (fun _ _ => rfl) ?_
                      refine q_Ru_call (v := (some (.int 0))) (h2 := (q_cM q_AM q_IM q_J0, 34, 31630)) rfl rfl ?_ ?_
                      · refine q_Ca_of (Nat.le_of_ble_eq_true rfl) ?_
                        refine q_Ru_seg (g2 := (5, [(0, .int a)], [.int 4095, .int 0, .int a], (q_cM q_AM q_IM q_J0, 34, 31630))) 3 (fun _ _ => rfl) ?_
                        refine q_Ru_call (v := (some (.int 1))) (h2 := (q_cM q_AM q_IM q_J0, 34, 31630)) rfl rfl ?_ ?_
                        · refine q_Ca_of (Nat.le_of_ble_eq_true rfl) ?_
                          refine q_Ru_seg (g2 := (2, [(0, .int a), (1, .int 0), (2, .int 4095)], [.int 0, .int a], (q_cM q_AM q_IM q_J0, 34, 31630))) 2 (fun _ _ => rfl) ?_
                          refine q_Ru_rsF (g2 := (5, [(0, .int a), (1, .int 0), (2, .int 4095)], [], (q_cM q_AM q_IM q_J0, 34, 31630))) rfl rfl h231 ?_
                          refine q_Ru_seg (g2 := (7, [(0, .int a), (1, .int 0), (2, .int 4095)], [.int 4095, .int a], (q_cM q_AM q_IM q_J0, 34, 31630))) 2 (fun _ _ => rfl) ?_
                          refine q_Ru_rsF (g2 := (10, [(0, .int a), (1, .int 0), (2, .int 4095)], [], (q_cM q_AM q_IM q_J0, 34, 31630))) rfl rfl h238 ?_
                          refine q_Ru_seg (g2 := (15, [(0, .int a), (1, .int 0), (2, .int 4095)], [.int 1], (q_cM q_AM q_IM q_J0, 34, 31630))) 2 (fun _ _ => rfl) ?_
                          exact q_Ru_ret rfl rfl
                        show q_Ru _ _ _ (8, [(0, .int a)], [.int 1], (q_cM q_AM q_IM q_J0, 34, 31630)) _
                        refine q_Ru_seg (g2 := (16, [(0, .int a)], [.int 0], (q_cM q_AM q_IM q_J0, 34, 31630))) 2 (fun _ _ => rfl) ?_
                        exact q_Ru_ret rfl rfl
                      show q_Ru _ _ _ (5, [(0, .ref 64), (1, .int a), (2, .int v)], [.int 0, .ref 64], (q_cM q_AM q_IM q_J0, 34, 31630)) _
                      refine q_Ru_seg (g2 := (13, [(0, .ref 64), (1, .int a), (2, .int v)], [.int v, .ref 64], (q_cM q_AM q_IM q_J0, 34, 31630))) 2 (fun _ _ => rfl) ?_
                      refine q_Ru_call (v := (some (.int 0))) (h2 := (q_cM q_AM q_IM q_J0, 34, 31630)) rfl rfl ?_ ?_
                      · refine q_Ca_of (Nat.le_of_ble_eq_true rfl) ?_
                        refine q_Ru_seg (g2 := (5, [(0, .int v)], [.int 255, .int 0, .int v], (q_cM q_AM q_IM q_J0, 34, 31630))) 3 (fun _ _ => rfl) ?_
                        refine q_Ru_call (v := (some (.int 1))) (h2 := (q_cM q_AM q_IM q_J0, 34, 31630)) rfl rfl ?_ ?_
                        · refine q_Ca_of (Nat.le_of_ble_eq_true rfl) ?_
                          refine q_Ru_seg (g2 := (2, [(0, .int v), (1, .int 0), (2, .int 255)], [.int 0, .int v], (q_cM q_AM q_IM q_J0, 34, 31630))) 2 (fun _ _ => rfl) ?_
                          refine q_Ru_rsF (g2 := (5, [(0, .int v), (1, .int 0), (2, .int 255)], [], (q_cM q_AM q_IM q_J0, 34, 31630))) rfl rfl h233 ?_
                          refine q_Ru_seg (g2 := (7, [(0, .int v), (1, .int 0), (2, .int 255)], [.int 255, .int v], (q_cM q_AM q_IM q_J0, 34, 31630))) 2 (fun _ _ => rfl) ?_
                          refine q_Ru_rsF (g2 := (10, [(0, .int v), (1, .int 0), (2, .int 255)], [], (q_cM q_AM q_IM q_J0, 34, 31630))) rfl rfl h235 ?_
                          refine q_Ru_seg (g2 := (15, [(0, .int v), (1, .int 0), (2, .int 255)], [.int 1], (q_cM q_AM q_IM q_J0, 34, 31630))) 2 (fun _ _ => rfl) ?_
                          exact q_Ru_ret rfl rfl
                        show q_Ru _ _ _ (8, [(0, .int v)], [.int 1], (q_cM q_AM q_IM q_J0, 34, 31630)) _
                        refine q_Ru_seg (g2 := (16, [(0, .int v)], [.int 0], (q_cM q_AM q_IM q_J0, 34, 31630))) 2 (fun _ _ => rfl) ?_
                        exact q_Ru_ret rfl rfl
                      show q_Ru _ _ _ (16, [(0, .ref 64), (1, .int a), (2, .int v)], [.int 0, .ref 64], (q_cM q_AM q_IM q_J0, 34, 31630)) _
                      refine q_Ru_seg (g2 := (24, [(0, .ref 64), (1, .int a), (2, .int v)], [.int 0, .ref 64], (q_cM q_AM q_IM q_J0, 34, 31630))) 2 (fun _ _ => rfl) ?_
                      refine q_Ru_call (v := (some (.int 0))) (h2 := (q_cM q_AM (q_uI q_IM 0 39 0) q_J0, 34, 31630)) rfl rfl ?_ ?_
                      · refine q_Ca_of (Nat.le_of_ble_eq_true rfl) ?_
                        refine q_Ru_seg (g2 := (14, [(0, .ref 64), (1, .int 0)], [.int 0], (q_cM q_AM (q_uI q_IM 0 39 0) q_J0, 34, 31630))) 6 (fun _ _ => rfl) ?_
                        exact q_Ru_ret rfl rfl
                      show q_Ru _ _ _ (27, [(0, .ref 64), (1, .int a), (2, .int v)], [.int 0], (q_cM q_AM (q_uI q_IM 0 39 0) q_J0, 34, 31630)) _
                      refine q_Ru_seg (g2 := (34, [(0, .ref 64), (1, .int a), (2, .int v)], [.int a, .ref 64], (q_cM q_AM (q_uI q_IM 0 39 0) q_J0, 34, 31630))) 3 (fun _ _ => rfl) ?_
                      refine q_Ru_call (v := (some (.int 0))) (h2 := (q_cM q_AM (q_uI q_IM 0 39 0) q_J0, 34, 31630)) rfl rfl ?_ ?_
                      · refine q_Ca_of (Nat.le_of_ble_eq_true rfl) ?_
                        refine q_Ru_seg (g2 := (7, [(0, .ref 64), (1, .int a)], [.int 3887, .int 3840, .int a], (q_cM q_AM (q_uI q_IM 0 39 0) q_J0, 34, 31630))) 3 (fun _ _ => rfl) ?_
                        refine q_Ru_call (v := (some (.int 0))) (h2 := (q_cM q_AM (q_uI q_IM 0 39 0) q_J0, 34, 31630)) rfl rfl ?_ ?_
                        · refine q_Ca_of (Nat.le_of_ble_eq_true rfl) ?_
                          refine q_Ru_seg (g2 := (2, [(0, .int a), (1, .int 3840), (2, .int 3887)], [.int 3840, .int a], (q_cM q_AM (q_uI q_IM 0 39 0) q_J0, 34, 31630))) 2 (fun _ _ => rfl) ?_
                          refine q_Ru_rsT (g2 := (14, [(0, .int a), (1, .int 3840), (2, .int 3887)], [], (q_cM q_AM (q_uI q_IM 0 39 0) q_J0, 34, 31630))) rfl rfl h239 ?_
                          refine q_Ru_seg (g2 := (15, [(0, .int a), (1, .int 3840), (2, .int 3887)], [.int 0], (q_cM q_AM (q_uI q_IM 0 39 0) q_J0, 34, 31630))) 1 (fun _ _ => rfl) ?_
                          exact q_Ru_ret rfl rfl
                        show q_Ru _ _ _ (10, [(0, .ref 64), (1, .int a)], [.int 0], (q_cM q_AM (q_uI q_IM 0 39 0) q_J0, 34, 31630)) _
                        refine q_Ru_seg (g2 := (30, [(0, .ref 64), (1, .int a)], [.int 3583, .int 3072, .int a], (q_cM q_AM (q_uI q_IM 0 39 0) q_J0, 34, 31630))) 4 (fun _ _ => rfl) ?_
                        refine q_Ru_call (v := (some (.int 0))) (h2 := (q_cM q_AM (q_uI q_IM 0 39 0) q_J0, 34, 31630)) rfl rfl ?_ ?_
                        · refine q_Ca_of (Nat.le_of_ble_eq_true rfl) ?_
                          refine q_Ru_seg (g2 := (2, [(0, .int a), (1, .int 3072), (2, .int 3583)], [.int 3072, .int a], (q_cM q_AM (q_uI q_IM 0 39 0) q_J0, 34, 31630))) 2 (fun _ _ => rfl) ?_
                          refine q_Ru_rsT (g2 := (14, [(0, .int a), (1, .int 3072), (2, .int 3583)], [], (q_cM q_AM (q_uI q_IM 0 39 0) q_J0, 34, 31630))) rfl rfl h240 ?_
                          refine q_Ru_seg (g2 := (15, [(0, .int a), (1, .int 3072), (2, .int 3583)], [.int 0], (q_cM q_AM (q_uI q_IM 0 39 0) q_J0, 34, 31630))) 1 (fun _ _ => rfl) ?_
                          exact q_Ru_ret rfl rfl
                        show q_Ru _ _ _ (33, [(0, .ref 64), (1, .int a)], [.int 0], (q_cM q_AM (q_uI q_IM 0 39 0) q_J0, 34, 31630)) _
                        refine q_Ru_seg (g2 := (67, [(0, .ref 64), (1, .int a)], [.int 2559, .int 2048, .int a], (q_cM q_AM (q_uI q_IM 0 39 0) q_J0, 34, 31630))) 4 (fun _ _ => rfl) ?_
                        refine q_Ru_call (v := (some (.int 0))) (h2 := (q_cM q_AM (q_uI q_IM 0 39 0) q_J0, 34, 31630)) rfl rfl ?_ ?_
                        · refine q_Ca_of (Nat.le_of_ble_eq_true rfl) ?_
                          refine q_Ru_seg (g2 := (2, [(0, .int a), (1, .int 2048), (2, .int 2559)], [.int 2048, .int a], (q_cM q_AM (q_uI q_IM 0 39 0) q_J0, 34, 31630))) 2 (fun _ _ => rfl) ?_
                          refine q_Ru_rsT (g2 := (14, [(0, .int a), (1, .int 2048), (2, .int 2559)], [], (q_cM q_AM (q_uI q_IM 0 39 0) q_J0, 34, 31630))) rfl rfl h241 ?_
                          refine q_Ru_seg (g2 := (15, [(0, .int a), (1, .int 2048), (2, .int 2559)], [.int 0], (q_cM q_AM (q_uI q_IM 0 39 0) q_J0, 34, 31630))) 1 (fun _ _ => rfl) ?_
                          exact q_Ru_ret rfl rfl
                        show q_Ru _ _ _ (70, [(0, .ref 64), (1, .int a)], [.int 0], (q_cM q_AM (q_uI q_IM 0 39 0) q_J0, 34, 31630)) _
                        refine q_Ru_seg (g2 := (115, [(0, .ref 64), (1, .int a)], [.int a, .ref 65], (q_cM q_AM (q_uI q_IM 0 39 0) q_J0, 34, 31630))) 4 (fun _ _ => rfl) ?_
                        refine q_Ru_rsT (g2 := (116, [(0, .ref 64), (1, .int a)], [.int 0], (q_cM q_AM (q_uI q_IM 0 39 0) q_J0, 34, 31630))) rfl rfl (q_in_bd (x := a) (n := 4096) (U := 2047) (L := 0) (q_lo1 h231) (q_hi1 h241)) ?_
                        exact q_Ru_ret rfl rfl
                      show q_Ru _ _ _ (37, [(0, .ref 64), (1, .int a), (2, .int v)], [.int 0], (q_cM q_AM (q_uI q_IM 0 39 0) q_J0, 34, 31630)) _
                      refine q_Ru_seg (g2 := (41, [(3, .int 0), (0, .ref 64), (1, .int a), (2, .int v)], [.int v, .int a, .ref 64], (q_cM q_AM (q_uI q_IM 0 39 0) q_J0, 34, 31630))) 4 (fun _ _ => rfl) ?_
                      refine q_Ru_call (v := none) (h2 := (q_cM A14 (q_uI q_IM 0 39 0) q_J0, 34, 31630)) rfl rfl ?_ ?_
                      · exact p14.le (Nat.le_of_ble_eq_true rfl)
                      show q_Ru _ _ _ (44, [(3, .int 0), (0, .ref 64), (1, .int a), (2, .int v)], [], (q_cM A14 (q_uI q_IM 0 39 0) q_J0, 34, 31630)) _
                      refine q_Ru_seg (g2 := (45, [(3, .int 0), (0, .ref 64), (1, .int a), (2, .int v)], [.ref 64], (q_cM A14 (q_uI q_IM 0 39 0) q_J0, 34, 31630))) 1 (fun _ _ => rfl) ?_
                      refine q_Ru_call (v := none) (h2 := (q_cM A14 (q_uI q_IM 0 39 0) q_J0, 34, 31630)) rfl rfl ?_ ?_
                      · refine q_Ca_of (Nat.le_of_ble_eq_true rfl) ?_
                        refine q_Ru_seg (g2 := (17, [(0, .ref 64)], [], (q_cM A14 (q_uI q_IM 0 39 0) q_J0, 34, 31630))) 3 (fun _ _ => rfl) ?_
                        exact q_Ru_ret rfl rfl
                      show q_Ru _ _ _ (48, [(3, .int 0), (0, .ref 64), (1, .int a), (2, .int v)], [], (q_cM A14 (q_uI q_IM 0 39 0) q_J0, 34, 31630)) _
                      refine q_Ru_seg (g2 := (49, [(3, .int 0), (0, .ref 64), (1, .int a), (2, .int v)], [.int 0], (q_cM A14 (q_uI q_IM 0 39 0) q_J0, 34, 31630))) 1 (fun _ _ => rfl) ?_
                      exact q_Ru_ret rfl rfl
                  | false =>
                    cases h242 : decide (2559 < a) with
                    | true =>
                      obtain ⟨A17, I17, p17⟩ := q_p_write q_AX q_IX (40) (26520) a v
                      obtain ⟨A18, p18⟩ := q_p_writes q_AM (q_uI q_IM 0 39 0) (34) (31630) a v (Int.le_trans (by decide) (q_lo2 h242)) (Int.le_trans (q_hi1 h240) (by decide))
                      refine ⟨0, 0, 0, ⟨(q_cX A17 I17 (q_uA q_J0 39 (vp_updL (fun _ => 0) 0 0)), 40, 26520), (q_uA q_J0 39 (vp_updL (fun _ => 0) 0 0)) 39, ?_, rfl, fun _ => rfl, Nat.le_of_ble_eq_true rfl, Nat.le_of_ble_eq_true rfl⟩, ⟨(q_cM A18 (q_uI q_IM 0 39 0) q_J0, 34, 31630), _, ?_, rfl, rfl, Nat.le_of_ble_eq_true rfl, Nat.le_of_ble_eq_true rfl⟩, fun _ => rfl⟩
                      · refine q_Ca_of (Nat.le_of_ble_eq_true rfl) ?_
                        refine q_Ru_seg (g2 := (5, [(0, .ref 64), (1, .int a), (2, .int v), (3, .ref 103)], [.int v, .int a, .ref 64, .int 0, .ref 103], (q_cX q_AX q_IX q_J0, 40, 26520))) 5 (fun _ _ => rfl) ?_
                        refine q_Ru_call (v := (some (.int 0))) (h2 := (q_cX A17 I17 q_J0, 40, 26520)) rfl rfl ?_ ?_
                        · refine q_Ca_of (Nat.le_of_ble_eq_true rfl) ?_
                          refine q_Ru_seg (g2 := (1, [(0, .ref 64), (1, .int a), (2, .int v)], [.int a], (q_cX q_AX q_IX q_J0, 40, 26520))) 1 (fun _ _ => rfl) ?_
                          refine q_Ru_call (v := none) (h2 := (q_cX q_AX q_IX q_J0, 40, 26520)) rfl rfl ?_ ?_
                          · refine q_Ca_of (Nat.le_of_ble_eq_true rfl) ?_
                            refine q_Ru_seg (g2 := (4, [(0, .int a)], [.int 4096, .int a], (q_cX q_AX q_IX q_J0, 40, 26520))) 2 (fun _ _ => rfl) ?_
                            refine q_Ru_call (v := none) (h2 := (q_cX q_AX q_IX q_J0, 40, 26520)) rfl rfl ?_ ?_
                            · refine q_Ca_of (Nat.le_of_ble_eq_true rfl) ?_
                              refine q_Ru_seg (g2 := (1, [(0, .int a), (1, .int 4096)], [.int a], (q_cX q_AX q_IX q_J0, 40, 26520))) 1 (fun _ _ => rfl) ?_
                              refine q_Ru_rsF (g2 := (4, [(0, .int a), (1, .int 4096)], [], (q_cX q_AX q_IX q_J0, 40, 26520))) rfl rfl h231 ?_
                              refine q_Ru_seg (g2 := (6, [(0, .int a), (1, .int 4096)], [.int 4096, .int a], (q_cX q_AX q_IX q_J0, 40, 26520))) 2 (fun _ _ => rfl) ?_
                              refine q_Ru_rsT (g2 := (19, [(0, .int a), (1, .int 4096)], [], (q_cX q_AX q_IX q_J0, 40, 26520))) rfl rfl h232 ?_
                              exact q_Ru_ret rfl rfl
                            show q_Ru _ _ _ (7, [(0, .int a)], [], (q_cX q_AX q_IX q_J0, 40, 26520)) _
                            exact q_Ru_ret rfl rfl
                          show q_Ru _ _ _ (4, [(0, .ref 64), (1, .int a), (2, .int v)], [], (q_cX q_AX q_IX q_J0, 40, 26520)) _
                          refine q_Ru_seg (g2 := (5, [(0, .ref 64), (1, .int a), (2, .int v)], [.int v], (q_cX q_AX q_IX q_J0, 40, 26520))) 1 (fun _ _ => rfl) ?_
                          refine q_Ru_call (v := none) (h2 := (q_cX q_AX q_IX q_J0, 40, 26520)) rfl rfl ?_ ?_
                          · refine q_Ca_of (Nat.le_of_ble_eq_true rfl) ?_
                            refine q_Ru_seg (g2 := (5, [(0, .int v)], [.int 255, .int 0, .int v], (q_cX q_AX q_IX q_J0, 40, 26520))) 3 (fun _ _ => rfl) ?_
                            refine q_Ru_call (v := none) (h2 := (q_cX q_AX q_IX q_J0, 40, 26520)) rfl rfl ?_ ?_
                            · refine q_Ca_of (Nat.le_of_ble_eq_true rfl) ?_
                              refine q_Ru_seg (g2 := (2, [(0, .int v), (1, .int 0), (2, .int 255)], [.int 0, .int v], (q_cX q_AX q_IX q_J0, 40, 26520))) 2 (fun _ _ => rfl) ?_
                              refine q_Ru_rsF (g2 := (5, [(0, .int v), (1, .int 0), (2, .int 255)], [], (q_cX q_AX q_IX q_J0, 40, 26520))) rfl rfl h233 ?_
                              refine q_Ru_seg (g2 := (7, [(0, .int v), (1, .int 0), (2, .int 255)], [.int 255, .int v], (q_cX q_AX q_IX q_J0, 40, 26520))) 2 (fun _ _ => rfl) ?_
                              refine q_Ru_rsT (g2 := (20, [(0, .int v), (1, .int 0), (2, .int 255)], [], (q_cX q_AX q_IX q_J0, 40, 26520))) rfl rfl (q_d_geF h235) ?_
                              exact q_Ru_ret rfl rfl
                            show q_Ru _ _ _ (8, [(0, .int v)], [], (q_cX q_AX q_IX q_J0, 40, 26520)) _
                            exact q_Ru_ret rfl rfl
                          show q_Ru _ _ _ (8, [(0, .ref 64), (1, .int a), (2, .int v)], [], (q_cX q_AX q_IX q_J0, 40, 26520)) _
                          refine q_Ru_seg (g2 := (13, [(0, .ref 64), (1, .int a), (2, .int v)], [.int 0, .int v, .int a, .int 0, .ref 64], (q_cX q_AX q_IX q_J0, 40, 26520))) 5 (fun _ _ => rfl) ?_
                          refine q_Ru_call (v := none) (h2 := (q_cX q_AX q_IX q_J0, 40, 26520)) rfl rfl ?_ ?_
                          · refine q_Ca_of (Nat.le_of_ble_eq_true rfl) ?_
                            refine q_Ru_seg (g2 := (19, [(0, .ref 64), (1, .int 0), (2, .int a), (3, .int v), (4, .int 0)], [], (q_cX q_AX q_IX q_J0, 40, 26520))) 3 (fun _ _ => rfl) ?_
                            exact q_Ru_ret rfl rfl
                          show q_Ru _ _ _ (16, [(0, .ref 64), (1, .int a), (2, .int v)], [], (q_cX q_AX q_IX q_J0, 40, 26520)) _
                          refine q_Ru_seg (g2 := (24, [(0, .ref 64), (1, .int a), (2, .int v)], [.int 0, .int v, .int a, .int 0, .ref 65], (q_cX q_AX q_IX q_J0, 40, 26520))) 6 (fun _ _ => rfl) ?_
                          refine q_Ru_call (v := (some (.int 0))) (h2 := (q_cX A17 I17 q_J0, 40, 26520)) rfl rfl ?_ ?_
                          · refine q_Ca_of (Nat.le_of_ble_eq_true rfl) ?_
                            refine q_Ru_seg (g2 := (74, [(0, .ref 65), (1, .int 0), (2, .int a), (3, .int v), (4, .int 0)], [.int v, .int a, .ref 66], (q_cX q_AX q_IX q_J0, 40, 26520))) 6 (fun _ _ => rfl) ?_
                            refine q_Ru_call (v := (some (.int 0))) (h2 := (q_cX A17 I17 q_J0, 40, 26520)) rfl rfl ?_ ?_
                            · refine q_Ca_of (Nat.le_of_ble_eq_true rfl) ?_
                              refine q_Ru_seg (g2 := (2, [(0, .ref 66), (1, .int a), (2, .int v)], [.int a, .ref 66], (q_cX q_AX q_IX q_J0, 40, 26520))) 2 (fun _ _ => rfl) ?_
                              refine q_Ru_call (v := (some (.int 0))) (h2 := (q_cX q_AX q_IX q_J0, 40, 26520)) rfl rfl ?_ ?_
                              · refine q_Ca_of (Nat.le_of_ble_eq_true rfl) ?_
                                refine q_Ru_seg (g2 := (7, [(2, .int (a - 3840)), (0, .ref 66), (1, .int a)], [.int (a - 3840)], (q_cX q_AX q_IX q_J0, 40, 26520))) 5 (fun _ _ => rfl) ?_
                                refine q_Ru_rsT (g2 := (31, [(2, .int (a - 3840)), (0, .ref 66), (1, .int a)], [], (q_cX q_AX q_IX q_J0, 40, 26520))) rfl rfl h237 ?_
                                refine q_Ru_seg (g2 := (127, [(3, .int 0), (2, .int (a - 3840)), (0, .ref 66), (1, .int a)], [.int (a &&& 4095), .ref 68], (q_cX q_AX q_IX q_J0, 40, 26520))) 22 (fun _ _ => rfl) ?_
                                refine q_Ru_rsT (g2 := (128, [(3, .int 0), (2, .int (a - 3840)), (0, .ref 66), (1, .int a)], [.int 0], (q_cX q_AX q_IX q_J0, 40, 26520))) rfl rfl (q_in_bd (x := a &&& 4095) (n := 4096) (U := 4095) (L := 0) (q_and_lo a 4095) (q_and_hi a 4095 4095)) ?_
                                exact q_Ru_ret rfl rfl
                              show q_Ru _ _ _ (5, [(0, .ref 66), (1, .int a), (2, .int v)], [.int 0], (q_cX q_AX q_IX q_J0, 40, 26520)) _
                              refine q_Ru_seg (g2 := (9, [(3, .int 0), (0, .ref 66), (1, .int a), (2, .int v)], [.int v, .int a, .ref 66], (q_cX q_AX q_IX q_J0, 40, 26520))) 4 (fun _ _ => rfl) ?_
                              refine q_Ru_call (v := none) (h2 := (q_cX A17 I17 q_J0, 40, 26520)) rfl rfl ?_ ?_
                              · exact p17.le (Nat.le_of_ble_eq_true rfl)
                              show q_Ru _ _ _ (12, [(3, .int 0), (0, .ref 66), (1, .int a), (2, .int v)], [], (q_cX A17 I17 q_J0, 40, 26520)) _
                              refine q_Ru_seg (g2 := (13, [(3, .int 0), (0, .ref 66), (1, .int a), (2, .int v)], [.int 0], (q_cX A17 I17 q_J0, 40, 26520))) 1 (fun _ _ => rfl) ?_
                              exact q_Ru_ret rfl rfl
                            show q_Ru _ _ _ (77, [(0, .ref 65), (1, .int 0), (2, .int a), (3, .int v), (4, .int 0)], [.int 0], (q_cX A17 I17 q_J0, 40, 26520)) _
                            exact q_Ru_ret rfl rfl
                          show q_Ru _ _ _ (27, [(0, .ref 64), (1, .int a), (2, .int v)], [.int 0], (q_cX A17 I17 q_J0, 40, 26520)) _
                          exact q_Ru_ret rfl rfl
                        show q_Ru _ _ _ (8, [(0, .ref 64), (1, .int a), (2, .int v), (3, .ref 103)], [.int 0, .int 0, .ref 103], (q_cX A17 I17 q_J0, 40, 26520)) _
                        refine q_Ru_seg (g2 := (22, [(0, .ref 64), (1, .int a), (2, .int v), (3, .ref 103)], [.int 0], (q_cX A17 I17 (q_uA q_J0 39 (vp_updL (fun _ => 0) 0 0)), 40, 26520))) 4 (fun _ _ => rfl) ?_
                        exact q_Ru_ret rfl rfl
                      · refine q_Ca_of (Nat.le_of_ble_eq_true rfl) ?_
                        refine q_Ru_seg (g2 := (2, [(0, .ref 64), (1, .int a), (2, .int v)], [.int a, .ref 64], (q_cM q_AM q_IM q_J0, 34, 31630))) 2 (fun _ _ => rfl) ?_
                        refine q_Ru_call (v := (some (.int 0))) (h2 := (q_cM q_AM q_IM q_J0, 34, 31630)) rfl rfl ?_ ?_
                        · refine q_Ca_of (Nat.le_of_ble_eq_true rfl) ?_
                          refine q_Ru_seg (g2 := (5, [(0, .int a)], [.int 4095, .int 0, .int a], (q_cM q_AM q_IM q_J0, 34, 31630))) 3 (fun _ _ => rfl) ?_
                          refine q_Ru_call (v := (some (.int 1))) (h2 := (q_cM q_AM q_IM q_J0, 34, 31630)) rfl rfl ?_ ?_
                          · refine q_Ca_of (Nat.le_of_ble_eq_true rfl) ?_
                            refine q_Ru_seg (g2 := (2, [(0, .int a), (1, .int 0), (2, .int 4095)], [.int 0, .int a], (q_cM q_AM q_IM q_J0, 34, 31630))) 2 (fun _ _ => rfl) ?_
                            refine q_Ru_rsF (g2 := (5, [(0, .int a), (1, .int 0), (2, .int 4095)], [], (q_cM q_AM q_IM q_J0, 34, 31630))) rfl rfl h231 ?_
                            refine q_Ru_seg (g2 := (7, [(0, .int a), (1, .int 0), (2, .int 4095)], [.int 4095, .int a], (q_cM q_AM q_IM q_J0, 34, 31630))) 2 (fun _ _ => rfl) ?_
                            refine q_Ru_rsF (g2 := (10, [(0, .int a), (1, .int 0), (2, .int 4095)], [], (q_cM q_AM q_IM q_J0, 34, 31630))) rfl rfl h238 ?_
                            refine q_Ru_seg (g2 := (15, [(0, .int a), (1, .int 0), (2, .int 4095)], [.int 1], (q_cM q_AM q_IM q_J0, 34, 31630))) 2 (fun _ _ => rfl) ?_
                            exact q_Ru_ret rfl rfl
                          show q_Ru _ _ _ (8, [(0, .int a)], [.int 1], (q_cM q_AM q_IM q_J0, 34, 31630)) _
                          refine q_Ru_seg (g2 := (16, [(0, .int a)], [.int 0], (q_cM q_AM q_IM q_J0, 34, 31630))) 2 (fun _ _ => rfl) ?_
                          exact q_Ru_ret rfl rfl
                        show q_Ru _ _ _ (5, [(0, .ref 64), (1, .int a), (2, .int v)], [.int 0, .ref 64], (q_cM q_AM q_IM q_J0, 34, 31630)) _
                        refine q_Ru_seg (g2 := (13, [(0, .ref 64), (1, .int a), (2, .int v)], [.int v, .ref 64], (q_cM q_AM q_IM q_J0, 34, 31630))) 2 (fun _ _ => rfl) ?_
                        refine q_Ru_call (v := (some (.int 0))) (h2 := (q_cM q_AM q_IM q_J0, 34, 31630)) rfl rfl ?_ ?_
                        · refine q_Ca_of (Nat.le_of_ble_eq_true rfl) ?_
                          refine q_Ru_seg (g2 := (5, [(0, .int v)], [.int 255, .int 0, .int v], (q_cM q_AM q_IM q_J0, 34, 31630))) 3 (fun _ _ => rfl) ?_
                          refine q_Ru_call (v := (some (.int 1))) (h2 := (q_cM q_AM q_IM q_J0, 34, 31630)) rfl rfl ?_ ?_
                          · refine q_Ca_of (Nat.le_of_ble_eq_true rfl) ?_
                            refine q_Ru_seg (g2 := (2, [(0, .int v), (1, .int 0), (2, .int 255)], [.int 0, .int v], (q_cM q_AM q_IM q_J0, 34, 31630))) 2 (fun _ _ => rfl) ?_
                            refine q_Ru_rsF (g2 := (5, [(0, .int v), (1, .int 0), (2, .int 255)], [], (q_cM q_AM q_IM q_J0, 34, 31630))) rfl rfl h233 ?_
                            refine q_Ru_seg (g2 := (7, [(0, .int v), (1, .int 0), (2, .int 255)], [.int 255, .int v], (q_cM q_AM q_IM q_J0, 34, 31630))) 2 (fun _ _ => rfl) ?_
                            refine q_Ru_rsF (g2 := (10, [(0, .int v), (1, .int 0), (2, .int 255)], [], (q_cM q_AM q_IM q_J0, 34, 31630))) rfl rfl h235 ?_
                            refine q_Ru_seg (g2 := (15, [(0, .int v), (1, .int 0), (2, .int 255)], [.int 1], (q_cM q_AM q_IM q_J0, 34, 31630))) 2 (fun _ _ => rfl) ?_
                            exact q_Ru_ret rfl rfl
                          show q_Ru _ _ _ (8, [(0, .int v)], [.int 1], (q_cM q_AM q_IM q_J0, 34, 31630)) _
                          refine q_Ru_seg (g2 := (16, [(0, .int v)], [.int 0], (q_cM q_AM q_IM q_J0, 34, 31630))) 2 (fun _ _ => rfl) ?_
                          exact q_Ru_ret rfl rfl
                        show q_Ru _ _ _ (16, [(0, .ref 64), (1, .int a), (2, .int v)], [.int 0, .ref 64], (q_cM q_AM q_IM q_J0, 34, 31630)) _
                        refine q_Ru_seg (g2 := (24, [(0, .ref 64), (1, .int a), (2, .int v)], [.int 0, .ref 64], (q_cM q_AM q_IM q_J0, 34, 31630))) 2 (fun _ _ => rfl) ?_
                        refine q_Ru_call (v := (some (.int 0))) (h2 := (q_cM q_AM (q_uI q_IM 0 39 0) q_J0, 34, 31630)) rfl rfl ?_ ?_
                        · refine q_Ca_of (Nat.le_of_ble_eq_true rfl) ?_
                          refine q_Ru_seg (g2 := (14, [(0, .ref 64), (1, .int 0)], [.int 0], (q_cM q_AM (q_uI q_IM 0 39 0) q_J0, 34, 31630))) 6 (fun _ _ => rfl) ?_
                          exact q_Ru_ret rfl rfl
                        show q_Ru _ _ _ (27, [(0, .ref 64), (1, .int a), (2, .int v)], [.int 0], (q_cM q_AM (q_uI q_IM 0 39 0) q_J0, 34, 31630)) _
                        refine q_Ru_seg (g2 := (34, [(0, .ref 64), (1, .int a), (2, .int v)], [.int a, .ref 64], (q_cM q_AM (q_uI q_IM 0 39 0) q_J0, 34, 31630))) 3 (fun _ _ => rfl) ?_
                        refine q_Ru_call (v := (some (.int 0))) (h2 := (q_cM q_AM (q_uI q_IM 0 39 0) q_J0, 34, 31630)) rfl rfl ?_ ?_
                        · refine q_Ca_of (Nat.le_of_ble_eq_true rfl) ?_
                          refine q_Ru_seg (g2 := (7, [(0, .ref 64), (1, .int a)], [.int 3887, .int 3840, .int a], (q_cM q_AM (q_uI q_IM 0 39 0) q_J0, 34, 31630))) 3 (fun _ _ => rfl) ?_
                          refine q_Ru_call (v := (some (.int 0))) (h2 := (q_cM q_AM (q_uI q_IM 0 39 0) q_J0, 34, 31630)) rfl rfl ?_ ?_
                          · refine q_Ca_of (Nat.le_of_ble_eq_true rfl) ?_
                            refine q_Ru_seg (g2 := (2, [(0, .int a), (1, .int 3840), (2, .int 3887)], [.int 3840, .int a], (q_cM q_AM (q_uI q_IM 0 39 0) q_J0, 34, 31630))) 2 (fun _ _ => rfl) ?_
                            refine q_Ru_rsT (g2 := (14, [(0, .int a), (1, .int 3840), (2, .int 3887)], [], (q_cM q_AM (q_uI q_IM 0 39 0) q_J0, 34, 31630))) rfl rfl h239 ?_
                            refine q_Ru_seg (g2 := (15, [(0, .int a), (1, .int 3840), (2, .int 3887)], [.int 0], (q_cM q_AM (q_uI q_IM 0 39 0) q_J0, 34, 31630))) 1 (fun _ _ => rfl) ?_
                            exact q_Ru_ret rfl rfl
                          show q_Ru _ _ _ (10, [(0, .ref 64), (1, .int a)], [.int 0], (q_cM q_AM (q_uI q_IM 0 39 0) q_J0, 34, 31630)) _
                          refine q_Ru_seg (g2 := (30, [(0, .ref 64), (1, .int a)], [.int 3583, .int 3072, .int a], (q_cM q_AM (q_uI q_IM 0 39 0) q_J0, 34, 31630))) 4 (fun _ _ => rfl) ?_
                          refine q_Ru_call (v := (some (.int 0))) (h2 := (q_cM q_AM (q_uI q_IM 0 39 0) q_J0, 34, 31630)) rfl rfl ?_ ?_
                          · refine q_Ca_of (Nat.le_of_ble_eq_true rfl) ?_
                            refine q_Ru_seg (g2 := (2, [(0, .int a), (1, .int 3072), (2, .int 3583)], [.int 3072, .int a], (q_cM q_AM (q_uI q_IM 0 39 0) q_J0, 34, 31630))) 2 (fun _ _ => rfl) ?_
                            refine q_Ru_rsT (g2 := (14, [(0, .int a), (1, .int 3072), (2, .int 3583)], [], (q_cM q_AM (q_uI q_IM 0 39 0) q_J0, 34, 31630))) rfl rfl h240 ?_
                            refine q_Ru_seg (g2 := (15, [(0, .int a), (1, .int 3072), (2, .int 3583)], [.int 0], (q_cM q_AM (q_uI q_IM 0 39 0) q_J0, 34, 31630))) 1 (fun _ _ => rfl) ?_
                            exact q_Ru_ret rfl rfl
                          show q_Ru _ _ _ (33, [(0, .ref 64), (1, .int a)], [.int 0], (q_cM q_AM (q_uI q_IM 0 39 0) q_J0, 34, 31630)) _
                          refine q_Ru_seg (g2 := (67, [(0, .ref 64), (1, .int a)], [.int 2559, .int 2048, .int a], (q_cM q_AM (q_uI q_IM 0 39 0) q_J0, 34, 31630))) 4 (fun _ _ => rfl) ?_
                          refine q_Ru_call (v := (some (.int 0))) (h2 := (q_cM q_AM (q_uI q_IM 0 39 0) q_J0, 34, 31630)) rfl rfl ?_ ?_
                          · refine q_Ca_of (Nat.le_of_ble_eq_true rfl) ?_
                            refine q_Ru_seg (g2 := (2, [(0, .int a), (1, .int 2048), (2, .int 2559)], [.int 2048, .int a], (q_cM q_AM (q_uI q_IM 0 39 0) q_J0, 34, 31630))) 2 (fun _ _ => rfl) ?_
                            refine q_Ru_rsF (g2 := (5, [(0, .int a), (1, .int 2048), (2, .int 2559)], [], (q_cM q_AM (q_uI q_IM 0 39 0) q_J0, 34, 31630))) rfl rfl h241 ?_
                            refine q_Ru_seg (g2 := (7, [(0, .int a), (1, .int 2048), (2, .int 2559)], [.int 2559, .int a], (q_cM q_AM (q_uI q_IM 0 39 0) q_J0, 34, 31630))) 2 (fun _ _ => rfl) ?_
                            refine q_Ru_rsT (g2 := (14, [(0, .int a), (1, .int 2048), (2, .int 2559)], [], (q_cM q_AM (q_uI q_IM 0 39 0) q_J0, 34, 31630))) rfl rfl h242 ?_
                            refine q_Ru_seg (g2 := (15, [(0, .int a), (1, .int 2048), (2, .int 2559)], [.int 0], (q_cM q_AM (q_uI q_IM 0 39 0) q_J0, 34, 31630))) 1 (fun _ _ => rfl) ?_
                            exact q_Ru_ret rfl rfl
                          show q_Ru _ _ _ (70, [(0, .ref 64), (1, .int a)], [.int 0], (q_cM q_AM (q_uI q_IM 0 39 0) q_J0, 34, 31630)) _
                          refine q_Ru_seg (g2 := (115, [(0, .ref 64), (1, .int a)], [.int a, .ref 65], (q_cM q_AM (q_uI q_IM 0 39 0) q_J0, 34, 31630))) 4 (fun _ _ => rfl) ?_
                          refine q_Ru_rsT (g2 := (116, [(0, .ref 64), (1, .int a)], [.int 0], (q_cM q_AM (q_uI q_IM 0 39 0) q_J0, 34, 31630))) rfl rfl (q_in_bd (x := a) (n := 4096) (U := 3071) (L := 2560) (q_lo2 h242) (q_hi1 h240)) ?_
                          exact q_Ru_ret rfl rfl
                        show q_Ru _ _ _ (37, [(0, .ref 64), (1, .int a), (2, .int v)], [.int 0], (q_cM q_AM (q_uI q_IM 0 39 0) q_J0, 34, 31630)) _
                        refine q_Ru_seg (g2 := (41, [(3, .int 0), (0, .ref 64), (1, .int a), (2, .int v)], [.int v, .int a, .ref 64], (q_cM q_AM (q_uI q_IM 0 39 0) q_J0, 34, 31630))) 4 (fun _ _ => rfl) ?_
                        refine q_Ru_call (v := none) (h2 := (q_cM A18 (q_uI q_IM 0 39 0) q_J0, 34, 31630)) rfl rfl ?_ ?_
                        · exact p18.le (Nat.le_of_ble_eq_true rfl)
                        show q_Ru _ _ _ (44, [(3, .int 0), (0, .ref 64), (1, .int a), (2, .int v)], [], (q_cM A18 (q_uI q_IM 0 39 0) q_J0, 34, 31630)) _
                        refine q_Ru_seg (g2 := (45, [(3, .int 0), (0, .ref 64), (1, .int a), (2, .int v)], [.ref 64], (q_cM A18 (q_uI q_IM 0 39 0) q_J0, 34, 31630))) 1 (fun _ _ => rfl) ?_
                        refine q_Ru_call (v := none) (h2 := (q_cM A18 (q_uI q_IM 0 39 0) q_J0, 34, 31630)) rfl rfl ?_ ?_
                        · refine q_Ca_of (Nat.le_of_ble_eq_true rfl) ?_
                          refine q_Ru_seg (g2 := (17, [(0, .ref 64)], [], (q_cM A18 (q_uI q_IM 0 39 0) q_J0, 34, 31630))) 3 (fun _ _ => rfl) ?_
                          exact q_Ru_ret rfl rfl
                        show q_Ru _ _ _ (48, [(3, .int 0), (0, .ref 64), (1, .int a), (2, .int v)], [], (q_cM A18 (q_uI q_IM 0 39 0) q_J0, 34, 31630)) _
                        refine q_Ru_seg (g2 := (49, [(3, .int 0), (0, .ref 64), (1, .int a), (2, .int v)], [.int 0], (q_cM A18 (q_uI q_IM 0 39 0) q_J0, 34, 31630))) 1 (fun _ _ => rfl) ?_
                        exact q_Ru_ret rfl rfl
                    | false =>
                      obtain ⟨A20, I20, p20⟩ := q_p_write q_AX q_IX (40) (26520) a v
                      obtain ⟨A21, p21⟩ := q_p_writes q_AM (q_uI q_IM 0 39 0) (34) (31630) a v (Int.le_trans (by decide) (q_lo1 h241)) (Int.le_trans (q_hi2 h242) (by decide))
                      refine ⟨0, 0, 0, ⟨(q_cX A20 I20 (q_uA q_J0 39 (vp_updL (fun _ => 0) 0 0)), 40, 26520), (q_uA q_J0 39 (vp_updL (fun _ => 0) 0 0)) 39, ?_, rfl, fun _ => rfl, Nat.le_of_ble_eq_true rfl, Nat.le_of_ble_eq_true rfl⟩, ⟨(q_cM A21 (q_uI q_IM 0 39 0) q_J0, 34, 31630), _, ?_, rfl, rfl, Nat.le_of_ble_eq_true rfl, Nat.le_of_ble_eq_true rfl⟩, fun _ => rfl⟩
                      · refine q_Ca_of (Nat.le_of_ble_eq_true rfl) ?_
                        refine q_Ru_seg (g2 := (5, [(0, .ref 64), (1, .int a), (2, .int v), (3, .ref 103)], [.int v, .int a, .ref 64, .int 0, .ref 103], (q_cX q_AX q_IX q_J0, 40, 26520))) 5 (fun _ _ => rfl) ?_
                        refine q_Ru_call (v := (some (.int 0))) (h2 := (q_cX A20 I20 q_J0, 40, 26520)) rfl rfl ?_ ?_
                        · refine q_Ca_of (Nat.le_of_ble_eq_true rfl) ?_
                          refine q_Ru_seg (g2 := (1, [(0, .ref 64), (1, .int a), (2, .int v)], [.int a], (q_cX q_AX q_IX q_J0, 40, 26520))) 1 (fun _ _ => rfl) ?_
                          refine q_Ru_call (v := none) (h2 := (q_cX q_AX q_IX q_J0, 40, 26520)) rfl rfl ?_ ?_
                          · refine q_Ca_of (Nat.le_of_ble_eq_true rfl) ?_
                            refine q_Ru_seg (g2 := (4, [(0, .int a)], [.int 4096, .int a], (q_cX q_AX q_IX q_J0, 40, 26520))) 2 (fun _ _ => rfl) ?_
                            refine q_Ru_call (v := none) (h2 := (q_cX q_AX q_IX q_J0, 40, 26520)) rfl rfl ?_ ?_
                            · refine q_Ca_of (Nat.le_of_ble_eq_true rfl) ?_
                              refine q_Ru_seg (g2 := (1, [(0, .int a), (1, .int 4096)], [.int a], (q_cX q_AX q_IX q_J0, 40, 26520))) 1 (fun _ _ => rfl) ?_
                              refine q_Ru_rsF (g2 := (4, [(0, .int a), (1, .int 4096)], [], (q_cX q_AX q_IX q_J0, 40, 26520))) rfl rfl h231 ?_
                              refine q_Ru_seg (g2 := (6, [(0, .int a), (1, .int 4096)], [.int 4096, .int a], (q_cX q_AX q_IX q_J0, 40, 26520))) 2 (fun _ _ => rfl) ?_
                              refine q_Ru_rsT (g2 := (19, [(0, .int a), (1, .int 4096)], [], (q_cX q_AX q_IX q_J0, 40, 26520))) rfl rfl h232 ?_
                              exact q_Ru_ret rfl rfl
                            show q_Ru _ _ _ (7, [(0, .int a)], [], (q_cX q_AX q_IX q_J0, 40, 26520)) _
                            exact q_Ru_ret rfl rfl
                          show q_Ru _ _ _ (4, [(0, .ref 64), (1, .int a), (2, .int v)], [], (q_cX q_AX q_IX q_J0, 40, 26520)) _
                          refine q_Ru_seg (g2 := (5, [(0, .ref 64), (1, .int a), (2, .int v)], [.int v], (q_cX q_AX q_IX q_J0, 40, 26520))) 1 (fun _ _ => rfl) ?_
                          refine q_Ru_call (v := none) (h2 := (q_cX q_AX q_IX q_J0, 40, 26520)) rfl rfl ?_ ?_
                          · refine q_Ca_of (Nat.le_of_ble_eq_true rfl) ?_
                            refine q_Ru_seg (g2 := (5, [(0, .int v)], [.int 255, .int 0, .int v], (q_cX q_AX q_IX q_J0, 40, 26520))) 3 (fun _ _ => rfl) ?_
                            refine q_Ru_call (v := none) (h2 := (q_cX q_AX q_IX q_J0, 40, 26520)) rfl rfl ?_ ?_
                            · refine q_Ca_of (Nat.le_of_ble_eq_true rfl) ?_
                              refine q_Ru_seg (g2 := (2, [(0, .int v), (1, .int 0), (2, .int 255)], [.int 0, .int v], (q_cX q_AX q_IX q_J0, 40, 26520))) 2 (fun _ _ => rfl) ?_
                              refine q_Ru_rsF (g2 := (5, [(0, .int v), (1, .int 0), (2, .int 255)], [], (q_cX q_AX q_IX q_J0, 40, 26520))) rfl rfl h233 ?_
                              refine q_Ru_seg (g2 := (7, [(0, .int v), (1, .int 0), (2, .int 255)], [.int 255, .int v], (q_cX q_AX q_IX q_J0, 40, 26520))) 2 (fun _ _ => rfl) ?_
                              refine q_Ru_rsT (g2 := (20, [(0, .int v), (1, .int 0), (2, .int 255)], [], (q_cX q_AX q_IX q_J0, 40, 26520))) rfl rfl (q_d_geF h235) ?_
                              exact q_Ru_ret rfl rfl
                            show q_Ru _ _ _ (8, [(0, .int v)], [], (q_cX q_AX q_IX q_J0, 40, 26520)) _
                            exact q_Ru_ret rfl rfl
                          show q_Ru _ _ _ (8, [(0, .ref 64), (1, .int a), (2, .int v)], [], (q_cX q_AX q_IX q_J0, 40, 26520)) _
                          refine q_Ru_seg (g2 := (13, [(0, .ref 64), (1, .int a), (2, .int v)], [.int 0, .int v, .int a, .int 0, .ref 64], (q_cX q_AX q_IX q_J0, 40, 26520))) 5 (fun _ _ => rfl) ?_
                          refine q_Ru_call (v := none) (h2 := (q_cX q_AX q_IX q_J0, 40, 26520)) rfl rfl ?_ ?_
                          · refine q_Ca_of (Nat.le_of_ble_eq_true rfl) ?_
                            refine q_Ru_seg (g2 := (19, [(0, .ref 64), (1, .int 0), (2, .int a), (3, .int v), (4, .int 0)], [], (q_cX q_AX q_IX q_J0, 40, 26520))) 3 (fun _ _ => rfl) ?_
                            exact q_Ru_ret rfl rfl
                          show q_Ru _ _ _ (16, [(0, .ref 64), (1, .int a), (2, .int v)], [], (q_cX q_AX q_IX q_J0, 40, 26520)) _
                          refine q_Ru_seg (g2 := (24, [(0, .ref 64), (1, .int a), (2, .int v)], [.int 0, .int v, .int a, .int 0, .ref 65], (q_cX q_AX q_IX q_J0, 40, 26520))) 6 (fun _ _ => rfl) ?_
                          refine q_Ru_call (v := (some (.int 0))) (h2 := (q_cX A20 I20 q_J0, 40, 26520)) rfl rfl ?_ ?_
                          · refine q_Ca_of (Nat.le_of_ble_eq_true rfl) ?_
                            refine q_Ru_seg (g2 := (74, [(0, .ref 65), (1, .int 0), (2, .int a), (3, .int v), (4, .int 0)], [.int v, .int a, .ref 66], (q_cX q_AX q_IX q_J0, 40, 26520))) 6 (fun _ _ => rfl) ?_
                            refine q_Ru_call (v := (some (.int 0))) (h2 := (q_cX A20 I20 q_J0, 40, 26520)) rfl rfl ?_ ?_
                            · refine q_Ca_of (Nat.le_of_ble_eq_true rfl) ?_
                              refine q_Ru_seg (g2 := (2, [(0, .ref 66), (1, .int a), (2, .int v)], [.int a, .ref 66], (q_cX q_AX q_IX q_J0, 40, 26520))) 2 (fun _ _ => rfl) ?_
                              refine q_Ru_call (v := (some (.int 0))) (h2 := (q_cX q_AX q_IX q_J0, 40, 26520)) rfl rfl ?_ ?_
                              · refine q_Ca_of (Nat.le_of_ble_eq_true rfl) ?_
                                refine q_Ru_seg (g2 := (7, [(2, .int (a - 3840)), (0, .ref 66), (1, .int a)], [.int (a - 3840)], (q_cX q_AX q_IX q_J0, 40, 26520))) 5 (fun _ _ => rfl) ?_
                                refine q_Ru_rsT (g2 := (31, [(2, .int (a - 3840)), (0, .ref 66), (1, .int a)], [], (q_cX q_AX q_IX q_J0, 40, 26520))) rfl rfl h237 ?_
                                refine q_Ru_seg (g2 := (127, [(3, .int 0), (2, .int (a - 3840)), (0, .ref 66), (1, .int a)], [.int (a &&& 4095), .ref 68], (q_cX q_AX q_IX q_J0, 40, 26520))) 22 (fun _ _ => rfl) ?_
                                refine q_Ru_rsT (g2 := (128, [(3, .int 0), (2, .int (a - 3840)), (0, .ref 66), (1, .int a)], [.int 0], (q_cX q_AX q_IX q_J0, 40, 26520))) rfl rfl (q_in_bd (x := a &&& 4095) (n := 4096) (U := 4095) (L := 0) (q_and_lo a 4095) (q_and_hi a 4095 4095)) ?_
                                exact q_Ru_ret rfl rfl
                              show q_Ru _ _ _ (5, [(0, .ref 66), (1, .int a), (2, .int v)], [.int 0], (q_cX q_AX q_IX q_J0, 40, 26520)) _
                              refine q_Ru_seg (g2 := (9, [(3, .int 0), (0, .ref 66), (1, .int a), (2, .int v)], [.int v, .int a, .ref 66], (q_cX q_AX q_IX q_J0, 40, 26520))) 4 (fun _ _ => rfl) ?_
                              refine q_Ru_call (v := none) (h2 := (q_cX A20 I20 q_J0, 40, 26520)) rfl rfl ?_ ?_
                              · exact p20.le (Nat.le_of_ble_eq_true rfl)
                              show q_Ru _ _ _ (12, [(3, .int 0), (0, .ref 66), (1, .int a), (2, .int v)], [], (q_cX A20 I20 q_J0, 40, 26520)) _
                              refine q_Ru_seg (g2 := (13, [(3, .int 0), (0, .ref 66), (1, .int a), (2, .int v)], [.int 0], (q_cX A20 I20 q_J0, 40, 26520))) 1 (fun _ _ => rfl) ?_
                              exact q_Ru_ret rfl rfl
                            show q_Ru _ _ _ (77, [(0, .ref 65), (1, .int 0), (2, .int a), (3, .int v), (4, .int 0)], [.int 0], (q_cX A20 I20 q_J0, 40, 26520)) _
                            exact q_Ru_ret rfl rfl
                          show q_Ru _ _ _ (27, [(0, .ref 64), (1, .int a), (2, .int v)], [.int 0], (q_cX A20 I20 q_J0, 40, 26520)) _
                          exact q_Ru_ret rfl rfl
                        show q_Ru _ _ _ (8, [(0, .ref 64), (1, .int a), (2, .int v), (3, .ref 103)], [.int 0, .int 0, .ref 103], (q_cX A20 I20 q_J0, 40, 26520)) _
                        refine q_Ru_seg (g2 := (22, [(0, .ref 64), (1, .int a), (2, .int v), (3, .ref 103)], [.int 0], (q_cX A20 I20 (q_uA q_J0 39 (vp_updL (fun _ => 0) 0 0)), 40, 26520))) 4 (fun _ _ => rfl) ?_
                        exact q_Ru_ret rfl rfl
                      · refine q_Ca_of (Nat.le_of_ble_eq_true rfl) ?_
                        refine q_Ru_seg (g2 := (2, [(0, .ref 64), (1, .int a), (2, .int v)], [.int a, .ref 64], (q_cM q_AM q_IM q_J0, 34, 31630))) 2 (fun _ _ => rfl) ?_
                        refine q_Ru_call (v := (some (.int 0))) (h2 := (q_cM q_AM q_IM q_J0, 34, 31630)) rfl rfl ?_ ?_
                        · refine q_Ca_of (Nat.le_of_ble_eq_true rfl) ?_
                          refine q_Ru_seg (g2 := (5, [(0, .int a)], [.int 4095, .int 0, .int a], (q_cM q_AM q_IM q_J0, 34, 31630))) 3 (fun _ _ => rfl) ?_
                          refine q_Ru_call (v := (some (.int 1))) (h2 := (q_cM q_AM q_IM q_J0, 34, 31630)) rfl rfl ?_ ?_
                          · refine q_Ca_of (Nat.le_of_ble_eq_true rfl) ?_
                            refine q_Ru_seg (g2 := (2, [(0, .int a), (1, .int 0), (2, .int 4095)], [.int 0, .int a], (q_cM q_AM q_IM q_J0, 34, 31630))) 2 (fun _ _ => rfl) ?_
                            refine q_Ru_rsF (g2 := (5, [(0, .int a), (1, .int 0), (2, .int 4095)], [], (q_cM q_AM q_IM q_J0, 34, 31630))) rfl rfl h231 ?_
                            refine q_Ru_seg (g2 := (7, [(0, .int a), (1, .int 0), (2, .int 4095)], [.int 4095, .int a], (q_cM q_AM q_IM q_J0, 34, 31630))) 2 (fun _ _ => rfl) ?_
                            refine q_Ru_rsF (g2 := (10, [(0, .int a), (1, .int 0), (2, .int 4095)], [], (q_cM q_AM q_IM q_J0, 34, 31630))) rfl rfl h238 ?_
                            refine q_Ru_seg (g2 := (15, [(0, .int a), (1, .int 0), (2, .int 4095)], [.int 1], (q_cM q_AM q_IM q_J0, 34, 31630))) 2 (fun _ _ => rfl) ?_
                            exact q_Ru_ret rfl rfl
                          show q_Ru _ _ _ (8, [(0, .int a)], [.int 1], (q_cM q_AM q_IM q_J0, 34, 31630)) _
                          refine q_Ru_seg (g2 := (16, [(0, .int a)], [.int 0], (q_cM q_AM q_IM q_J0, 34, 31630))) 2 (fun _ _ => rfl) ?_
                          exact q_Ru_ret rfl rfl
                        show q_Ru _ _ _ (5, [(0, .ref 64), (1, .int a), (2, .int v)], [.int 0, .ref 64], (q_cM q_AM q_IM q_J0, 34, 31630)) _
                        refine q_Ru_seg (g2 := (13, [(0, .ref 64), (1, .int a), (2, .int v)], [.int v, .ref 64], (q_cM q_AM q_IM q_J0, 34, 31630))) 2 (fun _ _ => rfl) ?_
                        refine q_Ru_call (v := (some (.int 0))) (h2 := (q_cM q_AM q_IM q_J0, 34, 31630)) rfl rfl ?_ ?_
                        · refine q_Ca_of (Nat.le_of_ble_eq_true rfl) ?_
                          refine q_Ru_seg (g2 := (5, [(0, .int v)], [.int 255, .int 0, .int v], (q_cM q_AM q_IM q_J0, 34, 31630))) 3 (fun _ _ => rfl) ?_
                          refine q_Ru_call (v := (some (.int 1))) (h2 := (q_cM q_AM q_IM q_J0, 34, 31630)) rfl rfl ?_ ?_
                          · refine q_Ca_of (Nat.le_of_ble_eq_true rfl) ?_
                            refine q_Ru_seg (g2 := (2, [(0, .int v), (1, .int 0), (2, .int 255)], [.int 0, .int v], (q_cM q_AM q_IM q_J0, 34, 31630))) 2 (fun _ _ => rfl) ?_
                            refine q_Ru_rsF (g2 := (5, [(0, .int v), (1, .int 0), (2, .int 255)], [], (q_cM q_AM q_IM q_J0, 34, 31630))) rfl rfl h233 ?_
                            refine q_Ru_seg (g2 := (7, [(0, .int v), (1, .int 0), (2, .int 255)], [.int 255, .int v], (q_cM q_AM q_IM q_J0, 34, 31630))) 2 (fun _ _ => rfl) ?_
                            refine q_Ru_rsF (g2 := (10, [(0, .int v), (1, .int 0), (2, .int 255)], [], (q_cM q_AM q_IM q_J0, 34, 31630))) rfl rfl h235 ?_
                            refine q_Ru_seg (g2 := (15, [(0, .int v), (1, .int 0), (2, .int 255)], [.int 1], (q_cM q_AM q_IM q_J0, 34, 31630))) 2 (fun _ _ => rfl) ?_
                            exact q_Ru_ret rfl rfl
                          show q_Ru _ _ _ (8, [(0, .int v)], [.int 1], (q_cM q_AM q_IM q_J0, 34, 31630)) _
                          refine q_Ru_seg (g2 := (16, [(0, .int v)], [.int 0], (q_cM q_AM q_IM q_J0, 34, 31630))) 2 (fun _ _ => rfl) ?_
                          exact q_Ru_ret rfl rfl
                        show q_Ru _ _ _ (16, [(0, .ref 64), (1, .int a), (2, .int v)], [.int 0, .ref 64], (q_cM q_AM q_IM q_J0, 34, 31630)) _
                        refine q_Ru_seg (g2 := (24, [(0, .ref 64), (1, .int a), (2, .int v)], [.int 0, .ref 64], (q_cM q_AM q_IM q_J0, 34, 31630))) 2 (fun _ _ => rfl) ?_
                        refine q_Ru_call (v := (some (.int 0))) (h2 := (q_cM q_AM (q_uI q_IM 0 39 0) q_J0, 34, 31630)) rfl rfl ?_ ?_
                        · refine q_Ca_of (Nat.le_of_ble_eq_true rfl) ?_
                          refine q_Ru_seg (g2 := (14, [(0, .ref 64), (1, .int 0)], [.int 0], (q_cM q_AM (q_uI q_IM 0 39 0) q_J0, 34, 31630))) 6 (fun _ _ => rfl) ?_
                          exact q_Ru_ret rfl rfl
                        show q_Ru _ _ _ (27, [(0, .ref 64), (1, .int a), (2, .int v)], [.int 0], (q_cM q_AM (q_uI q_IM 0 39 0) q_J0, 34, 31630)) _
                        refine q_Ru_seg (g2 := (34, [(0, .ref 64), (1, .int a), (2, .int v)], [.int a, .ref 64], (q_cM q_AM (q_uI q_IM 0 39 0) q_J0, 34, 31630))) 3 (fun _ _ => rfl) ?_
                        refine q_Ru_call (v := (some (.int 0))) (h2 := (q_cM q_AM (q_uI q_IM 0 39 0) q_J0, 34, 31630)) rfl rfl ?_ ?_
                        · refine q_Ca_of (Nat.le_of_ble_eq_true rfl) ?_
                          refine q_Ru_seg (g2 := (7, [(0, .ref 64), (1, .int a)], [.int 3887, .int 3840, .int a], (q_cM q_AM (q_uI q_IM 0 39 0) q_J0, 34, 31630))) 3 (fun _ _ => rfl) ?_
                          refine q_Ru_call (v := (some (.int 0))) (h2 := (q_cM q_AM (q_uI q_IM 0 39 0) q_J0, 34, 31630)) rfl rfl ?_ ?_
                          · refine q_Ca_of (Nat.le_of_ble_eq_true rfl) ?_
                            refine q_Ru_seg (g2 := (2, [(0, .int a), (1, .int 3840), (2, .int 3887)], [.int 3840, .int a], (q_cM q_AM (q_uI q_IM 0 39 0) q_J0, 34, 31630))) 2 (fun _ _ => rfl) ?_
                            refine q_Ru_rsT (g2 := (14, [(0, .int a), (1, .int 3840), (2, .int 3887)], [], (q_cM q_AM (q_uI q_IM 0 39 0) q_J0, 34, 31630))) rfl rfl h239 ?_
                            refine q_Ru_seg (g2 := (15, [(0, .int a), (1, .int 3840), (2, .int 3887)], [.int 0], (q_cM q_AM (q_uI q_IM 0 39 0) q_J0, 34, 31630))) 1 (fun _ _ => rfl) ?_
                            exact q_Ru_ret rfl rfl
                          show q_Ru _ _ _ (10, [(0, .ref 64), (1, .int a)], [.int 0], (q_cM q_AM (q_uI q_IM 0 39 0) q_J0, 34, 31630)) _
                          refine q_Ru_seg (g2 := (30, [(0, .ref 64), (1, .int a)], [.int 3583, .int 3072, .int a], (q_cM q_AM (q_uI q_IM 0 39 0) q_J0, 34, 31630))) 4 (fun _ _ => rfl) ?_
                          refine q_Ru_call (v := (some (.int 0))) (h2 := (q_cM q_AM (q_uI q_IM 0 39 0) q_J0, 34, 31630)) rfl rfl ?_ ?_
                          · refine q_Ca_of (Nat.le_of_ble_eq_true rfl) ?_
                            refine q_Ru_seg (g2 := (2, [(0, .int a), (1, .int 3072), (2, .int 3583)], [.int 3072, .int a], (q_cM q_AM (q_uI q_IM 0 39 0) q_J0, 34, 31630))) 2 (fun _ _ => rfl) ?_
                            refine q_Ru_rsT (g2 := (14, [(0, .int a), (1, .int 3072), (2, .int 3583)], [], (q_cM q_AM (q_uI q_IM 0 39 0) q_J0, 34, 31630))) rfl rfl h240 ?_
                            refine q_Ru_seg (g2 := (15, [(0, .int a), (1, .int 3072), (2, .int 3583)], [.int 0], (q_cM q_AM (q_uI q_IM 0 39 0) q_J0, 34, 31630))) 1 (fun _ _ => rfl) ?_
                            exact q_Ru_ret rfl rfl
                          show q_Ru _ _ _ (33, [(0, .ref 64), (1, .int a)], [.int 0], (q_cM q_AM (q_uI q_IM 0 39 0) q_J0, 34, 31630)) _
                          refine q_Ru_seg (g2 := (67, [(0, .ref 64), (1, .int a)], [.int 2559, .int 2048, .int a], (q_cM q_AM (q_uI q_IM 0 39 0) q_J0, 34, 31630))) 4 (fun _ _ => rfl) ?_
                          refine q_Ru_call (v := (some (.int 1))) (h2 := (q_cM q_AM (q_uI q_IM 0 39 0) q_J0, 34, 31630)) rfl rfl ?_ ?_
                          · refine q_Ca_of (Nat.le_of_ble_eq_true rfl) ?_
                            refine q_Ru_seg (g2 := (2, [(0, .int a), (1, .int 2048), (2, .int 2559)], [.int 2048, .int a], (q_cM q_AM (q_uI q_IM 0 39 0) q_J0, 34, 31630))) 2 (fun _ _ => rfl) ?_
                            refine q_Ru_rsF (g2 := (5, [(0, .int a), (1, .int 2048), (2, .int 2559)], [], (q_cM q_AM (q_uI q_IM 0 39 0) q_J0, 34, 31630))) rfl rfl h241 ?_
                            refine q_Ru_seg (g2 := (7, [(0, .int a), (1, .int 2048), (2, .int 2559)], [.int 2559, .int a], (q_cM q_AM (q_uI q_IM 0 39 0) q_J0, 34, 31630))) 2 (fun _ _ => rfl) ?_
                            refine q_Ru_rsF (g2 := (10, [(0, .int a), (1, .int 2048), (2, .int 2559)], [], (q_cM q_AM (q_uI q_IM 0 39 0) q_J0, 34, 31630))) rfl rfl h242 ?_
                            refine q_Ru_seg (g2 := (15, [(0, .int a), (1, .int 2048), (2, .int 2559)], [.int 1], (q_cM q_AM (q_uI q_IM 0 39 0) q_J0, 34, 31630))) 2 (fun _ _ => rfl) ?_
                            exact q_Ru_ret rfl rfl
                          show q_Ru _ _ _ (70, [(0, .ref 64), (1, .int a)], [.int 1], (q_cM q_AM (q_uI q_IM 0 39 0) q_J0, 34, 31630)) _
                          refine q_Ru_seg (g2 := (80, [(0, .ref 64), (1, .int a)], [.int 1, .int 0], (q_cM q_AM (q_uI q_IM 0 39 0) q_J0, 34, 31630))) 6 (fun _ _ => rfl) ?_
                          refine q_Ru_call (v := (some (.int 0))) (h2 := (q_cM q_AM (q_uI q_IM 0 39 0) q_J0, 34, 31630)) rfl rfl ?_ ?_
                          · refine q_Ca_of (Nat.le_of_ble_eq_true rfl) ?_
                            refine q_Ru_seg (g2 := (14, [(0, .int 0), (1, .int 1)], [.int 0], (q_cM q_AM (q_uI q_IM 0 39 0) q_J0, 34, 31630))) 8 (fun _ _ => rfl) ?_
                            exact q_Ru_ret rfl rfl
                          show q_Ru _ _ _ (83, [(0, .ref 64), (1, .int a)], [.int 0], (q_cM q_AM (q_uI q_IM 0 39 0) q_J0, 34, 31630)) _
                          refine q_Ru_seg (g2 := (115, [(0, .ref 64), (1, .int a)], [.int a, .ref 65], (q_cM q_AM (q_uI q_IM 0 39 0) q_J0, 34, 31630))) 4 (fun _ _ => rfl) ?_
                          refine q_Ru_rsT (g2 := (116, [(0, .ref 64), (1, .int a)], [.int 0], (q_cM q_AM (q_uI q_IM 0 39 0) q_J0, 34, 31630))) rfl rfl (q_in_bd (x := a) (n := 4096) (U := 2559) (L := 2048) (q_lo1 h241) (q_hi2 h242)) ?_
                          exact q_Ru_ret rfl rfl
                        show q_Ru _ _ _ (37, [(0, .ref 64), (1, .int a), (2, .int v)], [.int 0], (q_cM q_AM (q_uI q_IM 0 39 0) q_J0, 34, 31630)) _
                        refine q_Ru_seg (g2 := (41, [(3, .int 0), (0, .ref 64), (1, .int a), (2, .int v)], [.int v, .int a, .ref 64], (q_cM q_AM (q_uI q_IM 0 39 0) q_J0, 34, 31630))) 4 (fun _ _ => rfl) ?_
                        refine q_Ru_call (v := none) (h2 := (q_cM A21 (q_uI q_IM 0 39 0) q_J0, 34, 31630)) rfl rfl ?_ ?_
                        · exact p21.le (Nat.le_of_ble_eq_true rfl)
                        show q_Ru _ _ _ (44, [(3, .int 0), (0, .ref 64), (1, .int a), (2, .int v)], [], (q_cM A21 (q_uI q_IM 0 39 0) q_J0, 34, 31630)) _
                        refine q_Ru_seg (g2 := (45, [(3, .int 0), (0, .ref 64), (1, .int a), (2, .int v)], [.ref 64], (q_cM A21 (q_uI q_IM 0 39 0) q_J0, 34, 31630))) 1 (fun _ _ => rfl) ?_
                        refine q_Ru_call (v := none) (h2 := (q_cM A21 (q_uI q_IM 0 39 0) q_J0, 34, 31630)) rfl rfl ?_ ?_
                        · refine q_Ca_of (Nat.le_of_ble_eq_true rfl) ?_
                          refine q_Ru_seg (g2 := (17, [(0, .ref 64)], [], (q_cM A21 (q_uI q_IM 0 39 0) q_J0, 34, 31630))) 3 (fun _ _ => rfl) ?_
                          exact q_Ru_ret rfl rfl
                        show q_Ru _ _ _ (48, [(3, .int 0), (0, .ref 64), (1, .int a), (2, .int v)], [], (q_cM A21 (q_uI q_IM 0 39 0) q_J0, 34, 31630)) _
                        refine q_Ru_seg (g2 := (49, [(3, .int 0), (0, .ref 64), (1, .int a), (2, .int v)], [.int 0], (q_cM A21 (q_uI q_IM 0 39 0) q_J0, 34, 31630))) 1 (fun _ _ => rfl) ?_
                        exact q_Ru_ret rfl rfl
                | false =>
                  cases h243 : decide (3583 < a) with
                  | true =>
                    cases h244 : decide (a < 2048) with
                    | true =>
                      exact q_no (q_lo2 h243) (q_hi1 h244) (by decide)
                    | false =>
                      cases h245 : decide (2559 < a) with
                      | true =>
                        obtain ⟨A26, I26, p26⟩ := q_p_write q_AX q_IX (40) (26520) a v
                        obtain ⟨A27, p27⟩ := q_p_writes q_AM (q_uI q_IM 0 39 0) (34) (31630) a v (Int.le_trans (by decide) (q_lo2 h243)) (Int.le_trans (q_sub_hi 3839 (q_hi1 h237) (q_lo1 h231) (q_hi1 h232)) (by decide))
                        refine ⟨0, 0, 0, ⟨(q_cX A26 I26 (q_uA q_J0 39 (vp_updL (fun _ => 0) 0 0)), 40, 26520), (q_uA q_J0 39 (vp_updL (fun _ => 0) 0 0)) 39, ?_, rfl, fun _ => rfl, Nat.le_of_ble_eq_true rfl, Nat.le_of_ble_eq_true rfl⟩, ⟨(q_cM A27 (q_uI q_IM 0 39 0) q_J0, 34, 31630), _, ?_, rfl, rfl, Nat.le_of_ble_eq_true rfl, Nat.le_of_ble_eq_true rfl⟩, fun _ => rfl⟩
                        · refine q_Ca_of (Nat.le_of_ble_eq_true rfl) ?_
                          refine q_Ru_seg (g2 := (5, [(0, .ref 64), (1, .int a), (2, .int v), (3, .ref 103)], [.int v, .int a, .ref 64, .int 0, .ref 103], (q_cX q_AX q_IX q_J0, 40, 26520))) 5 (fun _ _ => rfl) ?_
                          refine q_Ru_call (v := (some (.int 0))) (h2 := (q_cX A26 I26 q_J0, 40, 26520)) rfl rfl ?_ ?_
                          · refine q_Ca_of (Nat.le_of_ble_eq_true rfl) ?_
                            refine q_Ru_seg (g2 := (1, [(0, .ref 64), (1, .int a), (2, .int v)], [.int a], (q_cX q_AX q_IX q_J0, 40, 26520))) 1 (fun _ _ => rfl) ?_
                            refine q_Ru_call (v := none) (h2 := (q_cX q_AX q_IX q_J0, 40, 26520)) rfl rfl ?_ ?_
                            · refine q_Ca_of (Nat.le_of_ble_eq_true rfl) ?_
                              refine q_Ru_seg (g2 := (4, [(0, .int a)], [.int 4096, .int a], (q_cX q_AX q_IX q_J0, 40, 26520))) 2 (fun _ _ => rfl) ?_
                              refine q_Ru_call (v := none) (h2 := (q_cX q_AX q_IX q_J0, 40, 26520)) rfl rfl ?_ ?_
                              · refine q_Ca_of (Nat.le_of_ble_eq_true rfl) ?_
                                refine q_Ru_seg (g2 := (1, [(0, .int a), (1, .int 4096)], [.int a], (q_cX q_AX q_IX q_J0, 40, 26520))) 1 (fun _ _ => rfl) ?_
                                refine q_Ru_rsF (g2 := (4, [(0, .int a), (1, .int 4096)], [], (q_cX q_AX q_IX q_J0, 40, 26520))) rfl rfl h231 ?_
                                refine q_Ru_seg (g2 := (6, [(0, .int a), (1, .int 4096)], [.int 4096, .int a], (q_cX q_AX q_IX q_J0, 40, 26520))) 2 (fun _ _ => rfl) ?_
                                refine q_Ru_rsT (g2 := (19, [(0, .int a), (1, .int 4096)], [], (q_cX q_AX q_IX q_J0, 40, 26520))) rfl rfl h232 ?_
                                exact q_Ru_ret rfl rfl
                              show q_Ru _ _ _ (7, [(0, .int a)], [], (q_cX q_AX q_IX q_J0, 40, 26520)) _
                              exact q_Ru_ret rfl rfl
                            show q_Ru _ _ _ (4, [(0, .ref 64), (1, .int a), (2, .int v)], [], (q_cX q_AX q_IX q_J0, 40, 26520)) _
                            refine q_Ru_seg (g2 := (5, [(0, .ref 64), (1, .int a), (2, .int v)], [.int v], (q_cX q_AX q_IX q_J0, 40, 26520))) 1 (fun _ _ => rfl) ?_
                            refine q_Ru_call (v := none) (h2 := (q_cX q_AX q_IX q_J0, 40, 26520)) rfl rfl ?_ ?_
                            · refine q_Ca_of (Nat.le_of_ble_eq_true rfl) ?_
                              refine q_Ru_seg (g2 := (5, [(0, .int v)], [.int 255, .int 0, .int v], (q_cX q_AX q_IX q_J0, 40, 26520))) 3 (fun _ _ => rfl) ?_
                              refine q_Ru_call (v := none) (h2 := (q_cX q_AX q_IX q_J0, 40, 26520)) rfl rfl ?_ ?_
                              · refine q_Ca_of (Nat.le_of_ble_eq_true rfl) ?_
                                refine q_Ru_seg (g2 := (2, [(0, .int v), (1, .int 0), (2, .int 255)], [.int 0, .int v], (q_cX q_AX q_IX q_J0, 40, 26520))) 2 (fun _ _ => rfl) ?_
                                refine q_Ru_rsF (g2 := (5, [(0, .int v), (1, .int 0), (2, .int 255)], [], (q_cX q_AX q_IX q_J0, 40, 26520))) rfl rfl h233 ?_
                                refine q_Ru_seg (g2 := (7, [(0, .int v), (1, .int 0), (2, .int 255)], [.int 255, .int v], (q_cX q_AX q_IX q_J0, 40, 26520))) 2 (fun _ _ => rfl) ?_
                                refine q_Ru_rsT (g2 := (20, [(0, .int v), (1, .int 0), (2, .int 255)], [], (q_cX q_AX q_IX q_J0, 40, 26520))) rfl rfl (q_d_geF h235) ?_
                                exact q_Ru_ret rfl rfl
                              show q_Ru _ _ _ (8, [(0, .int v)], [], (q_cX q_AX q_IX q_J0, 40, 26520)) _
                              exact q_Ru_ret rfl rfl
                            show q_Ru _ _ _ (8, [(0, .ref 64), (1, .int a), (2, .int v)], [], (q_cX q_AX q_IX q_J0, 40, 26520)) _
                            refine q_Ru_seg (g2 := (13, [(0, .ref 64), (1, .int a), (2, .int v)], [.int 0, .int v, .int a, .int 0, .ref 64], (q_cX q_AX q_IX q_J0, 40, 26520))) 5 (fun _ _ => rfl) ?_
                            refine q_Ru_call (v := none) (h2 := (q_cX q_AX q_IX q_J0, 40, 26520)) rfl rfl ?_ ?_
                            · refine q_Ca_of (Nat.le_of_ble_eq_true rfl) ?_
                              refine q_Ru_seg (g2 := (19, [(0, .ref 64), (1, .int 0), (2, .int a), (3, .int v), (4, .int 0)], [], (q_cX q_AX q_IX q_J0, 40, 26520))) 3 (fun _ _ => rfl) ?_
                              exact q_Ru_ret rfl rfl
                            show q_Ru _ _ _ (16, [(0, .ref 64), (1, .int a), (2, .int v)], [], (q_cX q_AX q_IX q_J0, 40, 26520)) _
                            refine q_Ru_seg (g2 := (24, [(0, .ref 64), (1, .int a), (2, .int v)], [.int 0, .int v, .int a, .int 0, .ref 65], (q_cX q_AX q_IX q_J0, 40, 26520))) 6 (fun _ _ => rfl) ?_
                            refine q_Ru_call (v := (some (.int 0))) (h2 := (q_cX A26 I26 q_J0, 40, 26520)) rfl rfl ?_ ?_
                            · refine q_Ca_of (Nat.le_of_ble_eq_true rfl) ?_
                              refine q_Ru_seg (g2 := (74, [(0, .ref 65), (1, .int 0), (2, .int a), (3, .int v), (4, .int 0)], [.int v, .int a, .ref 66], (q_cX q_AX q_IX q_J0, 40, 26520))) 6 (fun _ _ => rfl) ?_
                              refine q_Ru_call (v := (some (.int 0))) (h2 := (q_cX A26 I26 q_J0, 40, 26520)) rfl rfl ?_ ?_
                              · refine q_Ca_of (Nat.le_of_ble_eq_true rfl) ?_
                                refine q_Ru_seg (g2 := (2, [(0, .ref 66), (1, .int a), (2, .int v)], [.int a, .ref 66], (q_cX q_AX q_IX q_J0, 40, 26520))) 2 (fun _ _ => rfl) ?_
                                refine q_Ru_call (v := (some (.int 0))) (h2 := (q_cX q_AX q_IX q_J0, 40, 26520)) rfl rfl ?_ ?_
                                · refine q_Ca_of (Nat.le_of_ble_eq_true rfl) ?_
                                  refine q_Ru_seg (g2 := (7, [(2, .int (a - 3840)), (0, .ref 66), (1, .int a)], [.int (a - 3840)], (q_cX q_AX q_IX q_J0, 40, 26520))) 5 (fun _ _ => rfl) ?_
                                  refine q_Ru_rsT (g2 := (31, [(2, .int (a - 3840)), (0, .ref 66), (1, .int a)], [], (q_cX q_AX q_IX q_J0, 40, 26520))) rfl rfl h237 ?_
                                  refine q_Ru_seg (g2 := (127, [(3, .int 0), (2, .int (a - 3840)), (0, .ref 66), (1, .int a)], [.int (a &&& 4095), .ref 68], (q_cX q_AX q_IX q_J0, 40, 26520))) 22 (fun _ _ => rfl) ?_
                                  refine q_Ru_rsT (g2 := (128, [(3, .int 0), (2, .int (a - 3840)), (0, .ref 66), (1, .int a)], [.int 0], (q_cX q_AX q_IX q_J0, 40, 26520))) rfl rfl (q_in_bd (x := a &&& 4095) (n := 4096) (U := 4095) (L := 0) (q_and_lo a 4095) (q_and_hi a 4095 4095)) ?_
                                  exact q_Ru_ret rfl rfl
                                show q_Ru _ _ _ (5, [(0, .ref 66), (1, .int a), (2, .int v)], [.int 0], (q_cX q_AX q_IX q_J0, 40, 26520)) _
                                refine q_Ru_seg (g2 := (9, [(3, .int 0), (0, .ref 66), (1, .int a), (2, .int v)], [.int v, .int a, .ref 66], (q_cX q_AX q_IX q_J0, 40, 26520))) 4 (fun _ _ => rfl) ?_
                                refine q_Ru_call (v := none) (h2 := (q_cX A26 I26 q_J0, 40, 26520)) rfl rfl ?_ ?_
                                · exact p26.le (Nat.le_of_ble_eq_true rfl)
                                show q_Ru _ _ _ (12, [(3, .int 0), (0, .ref 66), (1, .int a), (2, .int v)], [], (q_cX A26 I26 q_J0, 40, 26520)) _
                                refine q_Ru_seg (g2 := (13, [(3, .int 0), (0, .ref 66), (1, .int a), (2, .int v)], [.int 0], (q_cX A26 I26 q_J0, 40, 26520))) 1 (fun _ _ => rfl) ?_
                                exact q_Ru_ret rfl rfl
                              show q_Ru _ _ _ (77, [(0, .ref 65), (1, .int 0), (2, .int a), (3, .int v), (4, .int 0)], [.int 0], (q_cX A26 I26 q_J0, 40, 26520)) _
                              exact q_Ru_ret rfl rfl
                            show q_Ru _ _ _ (27, [(0, .ref 64), (1, .int a), (2, .int v)], [.int 0], (q_cX A26 I26 q_J0, 40, 26520)) _
                            exact q_Ru_ret rfl rfl
                          show q_Ru _ _ _ (8, [(0, .ref 64), (1, .int a), (2, .int v), (3, .ref 103)], [.int 0, .int 0, .ref 103], (q_cX A26 I26 q_J0, 40, 26520)) _
                          refine q_Ru_seg (g2 := (22, [(0, .ref 64), (1, .int a), (2, .int v), (3, .ref 103)], [.int 0], (q_cX A26 I26 (q_uA q_J0 39 (vp_updL (fun _ => 0) 0 0)), 40, 26520))) 4 (fun _ _ => rfl) ?_
                          exact q_Ru_ret rfl rfl
                        · refine q_Ca_of (Nat.le_of_ble_eq_true rfl) ?_
                          refine q_Ru_seg (g2 := (2, [(0, .ref 64), (1, .int a), (2, .int v)], [.int a, .ref 64], (q_cM q_AM q_IM q_J0, 34, 31630))) 2 (fun _ _ => rfl) ?_
                          refine q_Ru_call (v := (some (.int 0))) (h2 := (q_cM q_AM q_IM q_J0, 34, 31630)) rfl rfl ?_ ?_
                          · refine q_Ca_of (Nat.le_of_ble_eq_true rfl) ?_
                            refine q_Ru_seg (g2 := (5, [(0, .int a)], [.int 4095, .int 0, .int a], (q_cM q_AM q_IM q_J0, 34, 31630))) 3 (fun _ _ => rfl) ?_
                            refine q_Ru_call (v := (some (.int 1))) (h2 := (q_cM q_AM q_IM q_J0, 34, 31630)) rfl rfl ?_ ?_
                            · refine q_Ca_of (Nat.le_of_ble_eq_true rfl) ?_
                              refine q_Ru_seg (g2 := (2, [(0, .int a), (1, .int 0), (2, .int 4095)], [.int 0, .int a], (q_cM q_AM q_IM q_J0, 34, 31630))) 2 (fun _ _ => rfl) ?_
                              refine q_Ru_rsF (g2 := (5, [(0, .int a), (1, .int 0), (2, .int 4095)], [], (q_cM q_AM q_IM q_J0, 34, 31630))) rfl rfl h231 ?_
                              refine q_Ru_seg (g2 := (7, [(0, .int a), (1, .int 0), (2, .int 4095)], [.int 4095, .int a], (q_cM q_AM q_IM q_J0, 34, 31630))) 2 (fun _ _ => rfl) ?_
                              refine q_Ru_rsF (g2 := (10, [(0, .int a), (1, .int 0), (2, .int 4095)], [], (q_cM q_AM q_IM q_J0, 34, 31630))) rfl rfl h238 ?_
                              refine q_Ru_seg (g2 := (15, [(0, .int a), (1, .int 0), (2, .int 4095)], [.int 1], (q_cM q_AM q_IM q_J0, 34, 31630))) 2 (fun _ _ => rfl) ?_
                              exact q_Ru_ret rfl rfl
                            show q_Ru _ _ _ (8, [(0, .int a)], [.int 1], (q_cM q_AM q_IM q_J0, 34, 31630)) _
                            refine q_Ru_seg (g2 := (16, [(0, .int a)], [.int 0], (q_cM q_AM q_IM q_J0, 34, 31630))) 2 (fun _ _ => rfl) ?_
                            exact q_Ru_ret rfl rfl
                          show q_Ru _ _ _ (5, [(0, .ref 64), (1, .int a), (2, .int v)], [.int 0, .ref 64], (q_cM q_AM q_IM q_J0, 34, 31630)) _
                          refine q_Ru_seg (g2 := (13, [(0, .ref 64), (1, .int a), (2, .int v)], [.int v, .ref 64], (q_cM q_AM q_IM q_J0, 34, 31630))) 2 (fun _ _ => rfl) ?_
                          refine q_Ru_call (v := (some (.int 0))) (h2 := (q_cM q_AM q_IM q_J0, 34, 31630)) rfl rfl ?_ ?_
                          · refine q_Ca_of (Nat.le_of_ble_eq_true rfl) ?_
                            refine q_Ru_seg (g2 := (5, [(0, .int v)], [.int 255, .int 0, .int v], (q_cM q_AM q_IM q_J0, 34, 31630))) 3 (fun _ _ => rfl) ?_
                            refine q_Ru_call (v := (some (.int 1))) (h2 := (q_cM q_AM q_IM q_J0, 34, 31630)) rfl rfl ?_ ?_
                            · refine q_Ca_of (Nat.le_of_ble_eq_true rfl) ?_
                              refine q_Ru_seg (g2 := (2, [(0, .int v), (1, .int 0), (2, .int 255)], [.int 0, .int v], (q_cM q_AM q_IM q_J0, 34, 31630))) 2 (fun _ _ => rfl) ?_
                              refine q_Ru_rsF (g2 := (5, [(0, .int v), (1, .int 0), (2, .int 255)], [], (q_cM q_AM q_IM q_J0, 34, 31630))) rfl rfl h233 ?_
                              refine q_Ru_seg (g2 := (7, [(0, .int v), (1, .int 0), (2, .int 255)], [.int 255, .int v], (q_cM q_AM q_IM q_J0, 34, 31630))) 2 (fun _ _ => rfl) ?_
                              refine q_Ru_rsF (g2 := (10, [(0, .int v), (1, .int 0), (2, .int 255)], [], (q_cM q_AM q_IM q_J0, 34, 31630))) rfl rfl h235 ?_
                              refine q_Ru_seg (g2 := (15, [(0, .int v), (1, .int 0), (2, .int 255)], [.int 1], (q_cM q_AM q_IM q_J0, 34, 31630))) 2 (fun _ _ => rfl) ?_
                              exact q_Ru_ret rfl rfl
                            show q_Ru _ _ _ (8, [(0, .int v)], [.int 1], (q_cM q_AM q_IM q_J0, 34, 31630)) _
                            refine q_Ru_seg (g2 := (16, [(0, .int v)], [.int 0], (q_cM q_AM q_IM q_J0, 34, 31630))) 2 (fun _ _ => rfl) ?_
                            exact q_Ru_ret rfl rfl
                          show q_Ru _ _ _ (16, [(0, .ref 64), (1, .int a), (2, .int v)], [.int 0, .ref 64], (q_cM q_AM q_IM q_J0, 34, 31630)) _
                          refine q_Ru_seg (g2 := (24, [(0, .ref 64), (1, .int a), (2, .int v)], [.int 0, .ref 64], (q_cM q_AM q_IM q_J0, 34, 31630))) 2 (fun _ _ => rfl) ?_
                          refine q_Ru_call (v := (some (.int 0))) (h2 := (q_cM q_AM (q_uI q_IM 0 39 0) q_J0, 34, 31630)) rfl rfl ?_ ?_
                          · refine q_Ca_of (Nat.le_of_ble_eq_true rfl) ?_
                            refine q_Ru_seg (g2 := (14, [(0, .ref 64), (1, .int 0)], [.int 0], (q_cM q_AM (q_uI q_IM 0 39 0) q_J0, 34, 31630))) 6 (fun _ _ => rfl) ?_
                            exact q_Ru_ret rfl rfl
                          show q_Ru _ _ _ (27, [(0, .ref 64), (1, .int a), (2, .int v)], [.int 0], (q_cM q_AM (q_uI q_IM 0 39 0) q_J0, 34, 31630)) _
                          refine q_Ru_seg (g2 := (34, [(0, .ref 64), (1, .int a), (2, .int v)], [.int a, .ref 64], (q_cM q_AM (q_uI q_IM 0 39 0) q_J0, 34, 31630))) 3 (fun _ _ => rfl) ?_
                          refine q_Ru_call (v := (some (.int 0))) (h2 := (q_cM q_AM (q_uI q_IM 0 39 0) q_J0, 34, 31630)) rfl rfl ?_ ?_
                          · refine q_Ca_of (Nat.le_of_ble_eq_true rfl) ?_
                            refine q_Ru_seg (g2 := (7, [(0, .ref 64), (1, .int a)], [.int 3887, .int 3840, .int a], (q_cM q_AM (q_uI q_IM 0 39 0) q_J0, 34, 31630))) 3 (fun _ _ => rfl) ?_
                            refine q_Ru_call (v := (some (.int 0))) (h2 := (q_cM q_AM (q_uI q_IM 0 39 0) q_J0, 34, 31630)) rfl rfl ?_ ?_
                            · refine q_Ca_of (Nat.le_of_ble_eq_true rfl) ?_
                              refine q_Ru_seg (g2 := (2, [(0, .int a), (1, .int 3840), (2, .int 3887)], [.int 3840, .int a], (q_cM q_AM (q_uI q_IM 0 39 0) q_J0, 34, 31630))) 2 (fun _ _ => rfl) ?_
                              refine q_Ru_rsT (g2 := (14, [(0, .int a), (1, .int 3840), (2, .int 3887)], [], (q_cM q_AM (q_uI q_IM 0 39 0) q_J0, 34, 31630))) rfl rfl h239 ?_
                              refine q_Ru_seg (g2 := (15, [(0, .int a), (1, .int 3840), (2, .int 3887)], [.int 0], (q_cM q_AM (q_uI q_IM 0 39 0) q_J0, 34, 31630))) 1 (fun _ _ => rfl) ?_
                              exact q_Ru_ret rfl rfl
                            show q_Ru _ _ _ (10, [(0, .ref 64), (1, .int a)], [.int 0], (q_cM q_AM (q_uI q_IM 0 39 0) q_J0, 34, 31630)) _
                            refine q_Ru_seg (g2 := (30, [(0, .ref 64), (1, .int a)], [.int 3583, .int 3072, .int a], (q_cM q_AM (q_uI q_IM 0 39 0) q_J0, 34, 31630))) 4 (fun _ _ => rfl) ?_
                            refine q_Ru_call (v := (some (.int 0))) (h2 := (q_cM q_AM (q_uI q_IM 0 39 0) q_J0, 34, 31630)) rfl rfl ?_ ?_
                            · refine q_Ca_of (Nat.le_of_ble_eq_true rfl) ?_
                              refine q_Ru_seg (g2 := (2, [(0, .int a), (1, .int 3072), (2, .int 3583)], [.int 3072, .int a], (q_cM q_AM (q_uI q_IM 0 39 0) q_J0, 34, 31630))) 2 (fun _ _ => rfl) ?_
                              refine q_Ru_rsF (g2 := (5, [(0, .int a), (1, .int 3072), (2, .int 3583)], [], (q_cM q_AM (q_uI q_IM 0 39 0) q_J0, 34, 31630))) rfl rfl h240 ?_
                              refine q_Ru_seg (g2 := (7, [(0, .int a), (1, .int 3072), (2, .int 3583)], [.int 3583, .int a], (q_cM q_AM (q_uI q_IM 0 39 0) q_J0, 34, 31630))) 2 (fun _ _ => rfl) ?_
                              refine q_Ru_rsT (g2 := (14, [(0, .int a), (1, .int 3072), (2, .int 3583)], [], (q_cM q_AM (q_uI q_IM 0 39 0) q_J0, 34, 31630))) rfl rfl h243 ?_
                              refine q_Ru_seg (g2 := (15, [(0, .int a), (1, .int 3072), (2, .int 3583)], [.int 0], (q_cM q_AM (q_uI q_IM 0 39 0) q_J0, 34, 31630))) 1 (fun _ _ => rfl) ?_
                              exact q_Ru_ret rfl rfl
                            show q_Ru _ _ _ (33, [(0, .ref 64), (1, .int a)], [.int 0], (q_cM q_AM (q_uI q_IM 0 39 0) q_J0, 34, 31630)) _
                            refine q_Ru_seg (g2 := (67, [(0, .ref 64), (1, .int a)], [.int 2559, .int 2048, .int a], (q_cM q_AM (q_uI q_IM 0 39 0) q_J0, 34, 31630))) 4 (fun _ _ => rfl) ?_
                            refine q_Ru_call (v := (some (.int 0))) (h2 := (q_cM q_AM (q_uI q_IM 0 39 0) q_J0, 34, 31630)) rfl rfl ?_ ?_
                            · refine q_Ca_of (Nat.le_of_ble_eq_true rfl) ?_
                              refine q_Ru_seg (g2 := (2, [(0, .int a), (1, .int 2048), (2, .int 2559)], [.int 2048, .int a], (q_cM q_AM (q_uI q_IM 0 39 0) q_J0, 34, 31630))) 2 (fun _ _ => rfl) ?_
                              refine q_Ru_rsF (g2 := (5, [(0, .int a), (1, .int 2048), (2, .int 2559)], [], (q_cM q_AM (q_uI q_IM 0 39 0) q_J0, 34, 31630))) rfl rfl h244 ?_
                              refine q_Ru_seg (g2 := (7, [(0, .int a), (1, .int 2048), (2, .int 2559)], [.int 2559, .int a], (q_cM q_AM (q_uI q_IM 0 39 0) q_J0, 34, 31630))) 2 (fun _ _ => rfl) ?_
                              refine q_Ru_rsT (g2 := (14, [(0, .int a), (1, .int 2048), (2, .int 2559)], [], (q_cM q_AM (q_uI q_IM 0 39 0) q_J0, 34, 31630))) rfl rfl h245 ?_
                              refine q_Ru_seg (g2 := (15, [(0, .int a), (1, .int 2048), (2, .int 2559)], [.int 0], (q_cM q_AM (q_uI q_IM 0 39 0) q_J0, 34, 31630))) 1 (fun _ _ => rfl) ?_
                              exact q_Ru_ret rfl rfl
                            show q_Ru _ _ _ (70, [(0, .ref 64), (1, .int a)], [.int 0], (q_cM q_AM (q_uI q_IM 0 39 0) q_J0, 34, 31630)) _
                            refine q_Ru_seg (g2 := (115, [(0, .ref 64), (1, .int a)], [.int a, .ref 65], (q_cM q_AM (q_uI q_IM 0 39 0) q_J0, 34, 31630))) 4 (fun _ _ => rfl) ?_
                            refine q_Ru_rsT (g2 := (116, [(0, .ref 64), (1, .int a)], [.int 0], (q_cM q_AM (q_uI q_IM 0 39 0) q_J0, 34, 31630))) rfl rfl (q_in_bd (x := a) (n := 4096) (U := 3839) (L := 3584) (q_lo2 h243) (q_sub_hi 3839 (q_hi1 h237) (q_lo1 h231) (q_hi1 h232))) ?_
                            exact q_Ru_ret rfl rfl
                          show q_Ru _ _ _ (37, [(0, .ref 64), (1, .int a), (2, .int v)], [.int 0], (q_cM q_AM (q_uI q_IM 0 39 0) q_J0, 34, 31630)) _
                          refine q_Ru_seg (g2 := (41, [(3, .int 0), (0, .ref 64), (1, .int a), (2, .int v)], [.int v, .int a, .ref 64], (q_cM q_AM (q_uI q_IM 0 39 0) q_J0, 34, 31630))) 4 (fun _ _ => rfl) ?_
                          refine q_Ru_call (v := none) (h2 := (q_cM A27 (q_uI q_IM 0 39 0) q_J0, 34, 31630)) rfl rfl ?_ ?_
                          · exact p27.le (Nat.le_of_ble_eq_true rfl)
                          show q_Ru _ _ _ (44, [(3, .int 0), (0, .ref 64), (1, .int a), (2, .int v)], [], (q_cM A27 (q_uI q_IM 0 39 0) q_J0, 34, 31630)) _
                          refine q_Ru_seg (g2 := (45, [(3, .int 0), (0, .ref 64), (1, .int a), (2, .int v)], [.ref 64], (q_cM A27 (q_uI q_IM 0 39 0) q_J0, 34, 31630))) 1 (fun _ _ => rfl) ?_
                          refine q_Ru_call (v := none) (h2 := (q_cM A27 (q_uI q_IM 0 39 0) q_J0, 34, 31630)) rfl rfl ?_ ?_
                          · refine q_Ca_of (Nat.le_of_ble_eq_true rfl) ?_
                            refine q_Ru_seg (g2 := (17, [(0, .ref 64)], [], (q_cM A27 (q_uI q_IM 0 39 0) q_J0, 34, 31630))) 3 (fun _ _ => rfl) ?_
                            exact q_Ru_ret rfl rfl
                          show q_Ru _ _ _ (48, [(3, .int 0), (0, .ref 64), (1, .int a), (2, .int v)], [], (q_cM A27 (q_uI q_IM 0 39 0) q_J0, 34, 31630)) _
                          refine q_Ru_seg (g2 := (49, [(3, .int 0), (0, .ref 64), (1, .int a), (2, .int v)], [.int 0], (q_cM A27 (q_uI q_IM 0 39 0) q_J0, 34, 31630))) 1 (fun _ _ => rfl) ?_
                          exact q_Ru_ret rfl rfl
                      | false =>
                        exact q_no (q_lo2 h243) (q_hi2 h245) (by decide)
                  | false =>
                    cases h246 : decide (a < 2048) with
                    | true =>
                      exact q_no (q_lo1 h240) (q_hi1 h246) (by decide)
                    | false =>
                      cases h247 : decide (2559 < a) with
                      | true =>
                        obtain ⟨A31, I31, p31⟩ := q_p_write q_AX q_IX (40) (26520) a v
                        obtain ⟨A32, p32⟩ := q_p_writes q_AM (q_uI q_IM 0 39 0) (34) (31630) a v (Int.le_trans (by decide) (q_lo1 h240)) (Int.le_trans (q_hi2 h243) (by decide))
                        refine ⟨0, 0, 0, ⟨(q_cX A31 I31 (q_uA q_J0 39 (vp_updL (fun _ => 0) 0 0)), 40, 26520), (q_uA q_J0 39 (vp_updL (fun _ => 0) 0 0)) 39, ?_, rfl, fun _ => rfl, Nat.le_of_ble_eq_true rfl, Nat.le_of_ble_eq_true rfl⟩, ⟨(q_cM A32 (q_uI q_IM 0 39 0) q_J0, 34, 31630), _, ?_, rfl, rfl, Nat.le_of_ble_eq_true rfl, Nat.le_of_ble_eq_true rfl⟩, fun _ => rfl⟩
                        · refine q_Ca_of (Nat.le_of_ble_eq_true rfl) ?_
                          refine q_Ru_seg (g2 := (5, [(0, .ref 64), (1, .int a), (2, .int v), (3, .ref 103)], [.int v, .int a, .ref 64, .int 0, .ref 103], (q_cX q_AX q_IX q_J0, 40, 26520))) 5 (fun _ _ => rfl) ?_
                          refine q_Ru_call (v := (some (.int 0))) (h2 := (q_cX A31 I31 q_J0, 40, 26520)) rfl rfl ?_ ?_
                          · refine q_Ca_of (Nat.le_of_ble_eq_true rfl) ?_
                            refine q_Ru_seg (g2 := (1, [(0, .ref 64), (1, .int a), (2, .int v)], [.int a], (q_cX q_AX q_IX q_J0, 40, 26520))) 1 (fun _ _ => rfl) ?_
                            refine q_Ru_call (v := none) (h2 := (q_cX q_AX q_IX q_J0, 40, 26520)) rfl rfl ?_ ?_
                            · refine q_Ca_of (Nat.le_of_ble_eq_true rfl) ?_
                              refine q_Ru_seg (g2 := (4, [(0, .int a)], [.int 4096, .int a], (q_cX q_AX q_IX q_J0, 40, 26520))) 2 (fun _ _ => rfl) ?_
                              refine q_Ru_call (v := none) (h2 := (q_cX q_AX q_IX q_J0, 40, 26520)) rfl rfl ?_ ?_
                              · refine q_Ca_of (Nat.le_of_ble_eq_true rfl) ?_
                                refine q_Ru_seg (g2 := (1, [(0, .int a), (1, .int 4096)], [.int a], (q_cX q_AX q_IX q_J0, 40, 26520))) 1 (fun _ _ => rfl) ?_
                                refine q_Ru_rsF (g2 := (4, [(0, .int a), (1, .int 4096)], [], (q_cX q_AX q_IX q_J0, 40, 26520))) rfl rfl h231 ?_
                                refine q_Ru_seg (g2 := (6, [(0, .int a), (1, .int 4096)], [.int 4096, .int a], (q_cX q_AX q_IX q_J0, 40, 26520))) 2 (fun _ _ => rfl) ?_
                                refine q_Ru_rsT (g2 := (19, [(0, .int a), (1, .int 4096)], [], (q_cX q_AX q_IX q_J0, 40, 26520))) rfl rfl h232 ?_
                                exact q_Ru_ret rfl rfl
                              show q_Ru _ _ _ (7, [(0, .int a)], [], (q_cX q_AX q_IX q_J0, 40, 26520)) _
                              exact q_Ru_ret rfl rfl
                            show q_Ru _ _ _ (4, [(0, .ref 64), (1, .int a), (2, .int v)], [], (q_cX q_AX q_IX q_J0, 40, 26520)) _
                            refine q_Ru_seg (g2 := (5, [(0, .ref 64), (1, .int a), (2, .int v)], [.int v], (q_cX q_AX q_IX q_J0, 40, 26520))) 1 (fun _ _ => rfl) ?_
                            refine q_Ru_call (v := none) (h2 := (q_cX q_AX q_IX q_J0, 40, 26520)) rfl rfl ?_ ?_
                            · refine q_Ca_of (Nat.le_of_ble_eq_true rfl) ?_
                              refine q_Ru_seg (g2 := (5, [(0, .int v)], [.int 255, .int 0, .int v], (q_cX q_AX q_IX q_J0, 40, 26520))) 3 (fun _ _ => rfl) ?_
                              refine q_Ru_call (v := none) (h2 := (q_cX q_AX q_IX q_J0, 40, 26520)) rfl rfl ?_ ?_
                              · refine q_Ca_of (Nat.le_of_ble_eq_true rfl) ?_
                                refine q_Ru_seg (g2 := (2, [(0, .int v), (1, .int 0), (2, .int 255)], [.int 0, .int v], (q_cX q_AX q_IX q_J0, 40, 26520))) 2 (fun _ _ => rfl) ?_
                                refine q_Ru_rsF (g2 := (5, [(0, .int v), (1, .int 0), (2, .int 255)], [], (q_cX q_AX q_IX q_J0, 40, 26520))) rfl rfl h233 ?_
                                refine q_Ru_seg (g2 := (7, [(0, .int v), (1, .int 0), (2, .int 255)], [.int 255, .int v], (q_cX q_AX q_IX q_J0, 40, 26520))) 2 (fun _ _ => rfl) ?_
                                refine q_Ru_rsT (g2 := (20, [(0, .int v), (1, .int 0), (2, .int 255)], [], (q_cX q_AX q_IX q_J0, 40, 26520))) rfl rfl (q_d_geF h235) ?_
                                exact q_Ru_ret rfl rfl
                              show q_Ru _ _ _ (8, [(0, .int v)], [], (q_cX q_AX q_IX q_J0, 40, 26520)) _
                              exact q_Ru_ret rfl rfl
                            show q_Ru _ _ _ (8, [(0, .ref 64), (1, .int a), (2, .int v)], [], (q_cX q_AX q_IX q_J0, 40, 26520)) _
                            refine q_Ru_seg (g2 := (13, [(0, .ref 64), (1, .int a), (2, .int v)], [.int 0, .int v, .int a, .int 0, .ref 64], (q_cX q_AX q_IX q_J0, 40, 26520))) 5 (fun _ _ => rfl) ?_
                            refine q_Ru_call (v := none) (h2 := (q_cX q_AX q_IX q_J0, 40, 26520)) rfl rfl ?_ ?_
                            · refine q_Ca_of (Nat.le_of_ble_eq_true rfl) ?_
                              refine q_Ru_seg (g2 := (19, [(0, .ref 64), (1, .int 0), (2, .int a), (3, .int v), (4, .int 0)], [], (q_cX q_AX q_IX q_J0, 40, 26520))) 3 (fun _ _ => rfl) ?_
                              exact q_Ru_ret rfl rfl
                            show q_Ru _ _ _ (16, [(0, .ref 64), (1, .int a), (2, .int v)], [], (q_cX q_AX q_IX q_J0, 40, 26520)) _
                            refine q_Ru_seg (g2 := (24, [(0, .ref 64), (1, .int a), (2, .int v)], [.int 0, .int v, .int a, .int 0, .ref 65], (q_cX q_AX q_IX q_J0, 40, 26520))) 6 (fun _ _ => rfl) ?_
                            refine q_Ru_call (v := (some (.int 0))) (h2 := (q_cX A31 I31 q_J0, 40, 26520)) rfl rfl ?_ ?_
                            · refine q_Ca_of (Nat.le_of_ble_eq_true rfl) ?_
                              refine q_Ru_seg (g2 := (74, [(0, .ref 65), (1, .int 0), (2, .int a), (3, .int v), (4, .int 0)], [.int v, .int a, .ref 66], (q_cX q_AX q_IX q_J0, 40, 26520))) 6 (fun _ _ => rfl) ?_
                              refine q_Ru_call (v := (some (.int 0))) (h2 := (q_cX A31 I31 q_J0, 40, 26520)) rfl rfl ?_ ?_
                              · refine q_Ca_of (Nat.le_of_ble_eq_true rfl) ?_
                                refine q_Ru_seg (g2 := (2, [(0, .ref 66), (1, .int a), (2, .int v)], [.int a, .ref 66], (q_cX q_AX q_IX q_J0, 40, 26520))) 2 (fun _ _ => rfl) ?_
                                refine q_Ru_call (v := (some (.int 0))) (h2 := (q_cX q_AX q_IX q_J0, 40, 26520)) rfl rfl ?_ ?_
                                · refine q_Ca_of (Nat.le_of_ble_eq_true rfl) ?_
                                  refine q_Ru_seg (g2 := (7, [(2, .int (a - 3840)), (0, .ref 66), (1, .int a)], [.int (a - 3840)], (q_cX q_AX q_IX q_J0, 40, 26520))) 5 (fun _ _ => rfl) ?_
                                  refine q_Ru_rsT (g2 := (31, [(2, .int (a - 3840)), (0, .ref 66), (1, .int a)], [], (q_cX q_AX q_IX q_J0, 40, 26520))) rfl rfl h237 ?_
                                  refine q_Ru_seg (g2 := (127, [(3, .int 0), (2, .int (a - 3840)), (0, .ref 66), (1, .int a)], [.int (a &&& 4095), .ref 68], (q_cX q_AX q_IX q_J0, 40, 26520))) 22 (fun _ _ => rfl) ?_
                                  refine q_Ru_rsT (g2 := (128, [(3, .int 0), (2, .int (a - 3840)), (0, .ref 66), (1, .int a)], [.int 0], (q_cX q_AX q_IX q_J0, 40, 26520))) rfl rfl (q_in_bd (x := a &&& 4095) (n := 4096) (U := 4095) (L := 0) (q_and_lo a 4095) (q_and_hi a 4095 4095)) ?_
                                  exact q_Ru_ret rfl rfl
                                show q_Ru _ _ _ (5, [(0, .ref 66), (1, .int a), (2, .int v)], [.int 0], (q_cX q_AX q_IX q_J0, 40, 26520)) _
                                refine q_Ru_seg (g2 := (9, [(3, .int 0), (0, .ref 66), (1, .int a), (2, .int v)], [.int v, .int a, .ref 66], (q_cX q_AX q_IX q_J0, 40, 26520))) 4 (fun _ _ => rfl) ?_
                                refine q_Ru_call (v := none) (h2 := (q_cX A31 I31 q_J0, 40, 26520)) rfl rfl ?_ ?_
                                · exact p31.le (Nat.le_of_ble_eq_true rfl)
                                show q_Ru _ _ _ (12, [(3, .int 0), (0, .ref 66), (1, .int a), (2, .int v)], [], (q_cX A31 I31 q_J0, 40, 26520)) _
                                refine q_Ru_seg (g2 := (13, [(3, .int 0), (0, .ref 66), (1, .int a), (2, .int v)], [.int 0], (q_cX A31 I31 q_J0, 40, 26520))) 1 (fun _ _ => rfl) ?_
                                exact q_Ru_ret rfl rfl
                              show q_Ru _ _ _ (77, [(0, .ref 65), (1, .int 0), (2, .int a), (3, .int v), (4, .int 0)], [.int 0], (q_cX A31 I31 q_J0, 40, 26520)) _
                              exact q_Ru_ret rfl rfl
                            show q_Ru _ _ _ (27, [(0, .ref 64), (1, .int a), (2, .int v)], [.int 0], (q_cX A31 I31 q_J0, 40, 26520)) _
                            exact q_Ru_ret rfl rfl
                          show q_Ru _ _ _ (8, [(0, .ref 64), (1, .int a), (2, .int v), (3, .ref 103)], [.int 0, .int 0, .ref 103], (q_cX A31 I31 q_J0, 40, 26520)) _
                          refine q_Ru_seg (g2 := (22, [(0, .ref 64), (1, .int a), (2, .int v), (3, .ref 103)], [.int 0], (q_cX A31 I31 (q_uA q_J0 39 (vp_updL (fun _ => 0) 0 0)), 40, 26520))) 4 (fun _ _ => rfl) ?_
                          exact q_Ru_ret rfl rfl
                        · refine q_Ca_of (Nat.le_of_ble_eq_true rfl) ?_
                          refine q_Ru_seg (g2 := (2, [(0, .ref 64), (1, .int a), (2, .int v)], [.int a, .ref 64], (q_cM q_AM q_IM q_J0, 34, 31630))) 2 (fun _ _ => rfl) ?_
                          refine q_Ru_call (v := (some (.int 0))) (h2 := (q_cM q_AM q_IM q_J0, 34, 31630)) rfl rfl ?_ ?_
                          · refine q_Ca_of (Nat.le_of_ble_eq_true rfl) ?_
                            refine q_Ru_seg (g2 := (5, [(0, .int a)], [.int 4095, .int 0, .int a], (q_cM q_AM q_IM q_J0, 34, 31630))) 3 (fun _ _ => rfl) ?_
                            refine q_Ru_call (v := (some (.int 1))) (h2 := (q_cM q_AM q_IM q_J0, 34, 31630)) rfl rfl ?_ ?_
                            · refine q_Ca_of (Nat.le_of_ble_eq_true rfl) ?_
                              refine q_Ru_seg (g2 := (2, [(0, .int a), (1, .int 0), (2, .int 4095)], [.int 0, .int a], (q_cM q_AM q_IM q_J0, 34, 31630))) 2 (fun _ _ => rfl) ?_
                              refine q_Ru_rsF (g2 := (5, [(0, .int a), (1, .int 0), (2, .int 4095)], [], (q_cM q_AM q_IM q_J0, 34, 31630))) rfl rfl h231 ?_
                              refine q_Ru_seg (g2 := (7, [(0, .int a), (1, .int 0), (2, .int 4095)], [.int 4095, .int a], (q_cM q_AM q_IM q_J0, 34, 31630))) 2 (fun _ _ => rfl) ?_
                              refine q_Ru_rsF (g2 := (10, [(0, .int a), (1, .int 0), (2, .int 4095)], [], (q_cM q_AM q_IM q_J0, 34, 31630))) rfl rfl h238 ?_
                              refine q_Ru_seg (g2 := (15, [(0, .int a), (1, .int 0), (2, .int 4095)], [.int 1], (q_cM q_AM q_IM q_J0, 34, 31630))) 2 (fun _ _ => rfl) ?_
                              exact q_Ru_ret rfl rfl
                            show q_Ru _ _ _ (8, [(0, .int a)], [.int 1], (q_cM q_AM q_IM q_J0, 34, 31630)) _
                            refine q_Ru_seg (g2 := (16, [(0, .int a)], [.int 0], (q_cM q_AM q_IM q_J0, 34, 31630))) 2 (fun _ _ => rfl) ?_
                            exact q_Ru_ret rfl rfl
                          show q_Ru _ _ _ (5, [(0, .ref 64), (1, .int a), (2, .int v)], [.int 0, .ref 64], (q_cM q_AM q_IM q_J0, 34, 31630)) _
                          refine q_Ru_seg (g2 := (13, [(0, .ref 64), (1, .int a), (2, .int v)], [.int v, .ref 64], (q_cM q_AM q_IM q_J0, 34, 31630))) 2 (fun _ _ => rfl) ?_
                          refine q_Ru_call (v := (some (.int 0))) (h2 := (q_cM q_AM q_IM q_J0, 34, 31630)) rfl rfl ?_ ?_
                          · refine q_Ca_of (Nat.le_of_ble_eq_true rfl) ?_
                            refine q_Ru_seg (g2 := (5, [(0, .int v)], [.int 255, .int 0, .int v], (q_cM q_AM q_IM q_J0, 34, 31630))) 3 (fun _ _ => rfl) ?_
                            refine q_Ru_call (v := (some (.int 1))) (h2 := (q_cM q_AM q_IM q_J0, 34, 31630)) rfl rfl ?_ ?_
                            · refine q_Ca_of (Nat.le_of_ble_eq_true rfl) ?_
                              refine q_Ru_seg (g2 := (2, [(0, .int v), (1, .int 0), (2, .int 255)], [.int 0, .int v], (q_cM q_AM q_IM q_J0, 34, 31630))) 2 (fun _ _ => rfl) ?_
                              refine q_Ru_rsF (g2 := (5, [(0, .int v), (1, .int 0), (2, .int 255)], [], (q_cM q_AM q_IM q_J0, 34, 31630))) rfl rfl h233 ?_
                              refine q_Ru_seg (g2 := (7, [(0, .int v), (1, .int 0), (2, .int 255)], [.int 255, .int v], (q_cM q_AM q_IM q_J0, 34, 31630))) 2 (fun _ _ => rfl) ?_
                              refine q_Ru_rsF (g2 := (10, [(0, .int v), (1, .int 0), (2, .int 255)], [], (q_cM q_AM q_IM q_J0, 34, 31630))) rfl rfl h235 ?_
                              refine q_Ru_seg (g2 := (15, [(0, .int v), (1, .int 0), (2, .int 255)], [.int 1], (q_cM q_AM q_IM q_J0, 34, 31630))) 2 (fun _ _ => rfl) ?_
                              exact q_Ru_ret rfl rfl
                            show q_Ru _ _ _ (8, [(0, .int v)], [.int 1], (q_cM q_AM q_IM q_J0, 34, 31630)) _
                            refine q_Ru_seg (g2 := (16, [(0, .int v)], [.int 0], (q_cM q_AM q_IM q_J0, 34, 31630))) 2 (fun _ _ => rfl) ?_
                            exact q_Ru_ret rfl rfl
                          show q_Ru _ _ _ (16, [(0, .ref 64), (1, .int a), (2, .int v)], [.int 0, .ref 64], (q_cM q_AM q_IM q_J0, 34, 31630)) _
                          refine q_Ru_seg (g2 := (24, [(0, .ref 64), (1, .int a), (2, .int v)], [.int 0, .ref 64], (q_cM q_AM q_IM q_J0, 34, 31630))) 2 (fun _ _ => rfl) ?_
                          refine q_Ru_call (v := (some (.int 0))) (h2 := (q_cM q_AM (q_uI q_IM 0 39 0) q_J0, 34, 31630)) rfl rfl ?_ ?_
                          · refine q_Ca_of (Nat.le_of_ble_eq_true rfl) ?_
                            refine q_Ru_seg (g2 := (14, [(0, .ref 64), (1, .int 0)], [.int 0], (q_cM q_AM (q_uI q_IM 0 39 0) q_J0, 34, 31630))) 6 (fun _ _ => rfl) ?_
                            exact q_Ru_ret rfl rfl
                          show q_Ru _ _ _ (27, [(0, .ref 64), (1, .int a), (2, .int v)], [.int 0], (q_cM q_AM (q_uI q_IM 0 39 0) q_J0, 34, 31630)) _
                          refine q_Ru_seg (g2 := (34, [(0, .ref 64), (1, .int a), (2, .int v)], [.int a, .ref 64], (q_cM q_AM (q_uI q_IM 0 39 0) q_J0, 34, 31630))) 3 (fun _ _ => rfl) ?_
                          refine q_Ru_call (v := (some (.int 0))) (h2 := (q_cM q_AM (q_uI q_IM 0 39 0) q_J0, 34, 31630)) rfl rfl ?_ ?_
                          · refine q_Ca_of (Nat.le_of_ble_eq_true rfl) ?_
                            refine q_Ru_seg (g2 := (7, [(0, .ref 64), (1, .int a)], [.int 3887, .int 3840, .int a], (q_cM q_AM (q_uI q_IM 0 39 0) q_J0, 34, 31630))) 3 (fun _ _ => rfl) ?_
                            refine q_Ru_call (v := (some (.int 0))) (h2 := (q_cM q_AM (q_uI q_IM 0 39 0) q_J0, 34, 31630)) rfl rfl ?_ ?_
                            · refine q_Ca_of (Nat.le_of_ble_eq_true rfl) ?_
                              refine q_Ru_seg (g2 := (2, [(0, .int a), (1, .int 3840), (2, .int 3887)], [.int 3840, .int a], (q_cM q_AM (q_uI q_IM 0 39 0) q_J0, 34, 31630))) 2 (fun _ _ => rfl) ?_
                              refine q_Ru_rsT (g2 := (14, [(0, .int a), (1, .int 3840), (2, .int 3887)], [], (q_cM q_AM (q_uI q_IM 0 39 0) q_J0, 34, 31630))) rfl rfl h239 ?_
                              refine q_Ru_seg (g2 := (15, [(0, .int a), (1, .int 3840), (2, .int 3887)], [.int 0], (q_cM q_AM (q_uI q_IM 0 39 0) q_J0, 34, 31630))) 1 (fun _ _ => rfl) ?_
                              exact q_Ru_ret rfl rfl
                            show q_Ru _ _ _ (10, [(0, .ref 64), (1, .int a)], [.int 0], (q_cM q_AM (q_uI q_IM 0 39 0) q_J0, 34, 31630)) _
                            refine q_Ru_seg (g2 := (30, [(0, .ref 64), (1, .int a)], [.int 3583, .int 3072, .int a], (q_cM q_AM (q_uI q_IM 0 39 0) q_J0, 34, 31630))) 4 (fun _ _ => rfl) ?_
                            refine q_Ru_call (v := (some (.int 1))) (h2 := (q_cM q_AM (q_uI q_IM 0 39 0) q_J0, 34, 31630)) rfl rfl ?_ ?_
                            · refine q_Ca_of (Nat.le_of_ble_eq_true rfl) ?_
                              refine q_Ru_seg (g2 := (2, [(0, .int a), (1, .int 3072), (2, .int 3583)], [.int 3072, .int a], (q_cM q_AM (q_uI q_IM 0 39 0) q_J0, 34, 31630))) 2 (fun _ _ => rfl) ?_
                              refine q_Ru_rsF (g2 := (5, [(0, .int a), (1, .int 3072), (2, .int 3583)], [], (q_cM q_AM (q_uI q_IM 0 39 0) q_J0, 34, 31630))) rfl rfl h240 ?_
                              refine q_Ru_seg (g2 := (7, [(0, .int a), (1, .int 3072), (2, .int 3583)], [.int 3583, .int a], (q_cM q_AM (q_uI q_IM 0 39 0) q_J0, 34, 31630))) 2 (fun _ _ => rfl) ?_
                              refine q_Ru_rsF (g2 := (10, [(0, .int a), (1, .int 3072), (2, .int 3583)], [], (q_cM q_AM (q_uI q_IM 0 39 0) q_J0, 34, 31630))) rfl rfl h243 ?_
                              refine q_Ru_seg (g2 := (15, [(0, .int a), (1, .int 3072), (2, .int 3583)], [.int 1], (q_cM q_AM (q_uI q_IM 0 39 0) q_J0, 34, 31630))) 2 (fun _ _ => rfl) ?_
                              exact q_Ru_ret rfl rfl
                            show q_Ru _ _ _ (33, [(0, .ref 64), (1, .int a)], [.int 1], (q_cM q_AM (q_uI q_IM 0 39 0) q_J0, 34, 31630)) _
                            refine q_Ru_seg (g2 := (43, [(0, .ref 64), (1, .int a)], [.int 0, .int 0], (q_cM q_AM (q_uI q_IM 0 39 0) q_J0, 34, 31630))) 6 (fun _ _ => rfl) ?_
                            refine q_Ru_call (v := (some (.int 0))) (h2 := (q_cM q_AM (q_uI q_IM 0 39 0) q_J0, 34, 31630)) rfl rfl ?_ ?_
                            · refine q_Ca_of (Nat.le_of_ble_eq_true rfl) ?_
                              refine q_Ru_seg (g2 := (14, [(0, .int 0), (1, .int 0)], [.int 0], (q_cM q_AM (q_uI q_IM 0 39 0) q_J0, 34, 31630))) 8 (fun _ _ => rfl) ?_
                              exact q_Ru_ret rfl rfl
                            show q_Ru _ _ _ (46, [(0, .ref 64), (1, .int a)], [.int 0], (q_cM q_AM (q_uI q_IM 0 39 0) q_J0, 34, 31630)) _
                            refine q_Ru_seg (g2 := (67, [(0, .ref 64), (1, .int a)], [.int 2559, .int 2048, .int a], (q_cM q_AM (q_uI q_IM 0 39 0) q_J0, 34, 31630))) 4 (fun _ _ => rfl) ?_
                            refine q_Ru_call (v := (some (.int 0))) (h2 := (q_cM q_AM (q_uI q_IM 0 39 0) q_J0, 34, 31630)) rfl rfl ?_ ?_
                            · refine q_Ca_of (Nat.le_of_ble_eq_true rfl) ?_
                              refine q_Ru_seg (g2 := (2, [(0, .int a), (1, .int 2048), (2, .int 2559)], [.int 2048, .int a], (q_cM q_AM (q_uI q_IM 0 39 0) q_J0, 34, 31630))) 2 (fun _ _ => rfl) ?_
                              refine q_Ru_rsF (g2 := (5, [(0, .int a), (1, .int 2048), (2, .int 2559)], [], (q_cM q_AM (q_uI q_IM 0 39 0) q_J0, 34, 31630))) rfl rfl h246 ?_
                              refine q_Ru_seg (g2 := (7, [(0, .int a), (1, .int 2048), (2, .int 2559)], [.int 2559, .int a], (q_cM q_AM (q_uI q_IM 0 39 0) q_J0, 34, 31630))) 2 (fun _ _ => rfl) ?_
                              refine q_Ru_rsT (g2 := (14, [(0, .int a), (1, .int 2048), (2, .int 2559)], [], (q_cM q_AM (q_uI q_IM 0 39 0) q_J0, 34, 31630))) rfl rfl h247 ?_
                              refine q_Ru_seg (g2 := (15, [(0, .int a), (1, .int 2048), (2, .int 2559)], [.int 0], (q_cM q_AM (q_uI q_IM 0 39 0) q_J0, 34, 31630))) 1 (fun _ _ => rfl) ?_
                              exact q_Ru_ret rfl rfl
                            show q_Ru _ _ _ (70, [(0, .ref 64), (1, .int a)], [.int 0], (q_cM q_AM (q_uI q_IM 0 39 0) q_J0, 34, 31630)) _
                            refine q_Ru_seg (g2 := (115, [(0, .ref 64), (1, .int a)], [.int a, .ref 65], (q_cM q_AM (q_uI q_IM 0 39 0) q_J0, 34, 31630))) 4 (fun _ _ => rfl) ?_
                            refine q_Ru_rsT (g2 := (116, [(0, .ref 64), (1, .int a)], [.int 0], (q_cM q_AM (q_uI q_IM 0 39 0) q_J0, 34, 31630))) rfl rfl (q_in_bd (x := a) (n := 4096) (U := 3583) (L := 3072) (q_lo1 h240) (q_hi2 h243)) ?_
                            exact q_Ru_ret rfl rfl
                          show q_Ru _ _ _ (37, [(0, .ref 64), (1, .int a), (2, .int v)], [.int 0], (q_cM q_AM (q_uI q_IM 0 39 0) q_J0, 34, 31630)) _
                          refine q_Ru_seg (g2 := (41, [(3, .int 0), (0, .ref 64), (1, .int a), (2, .int v)], [.int v, .int a, .ref 64], (q_cM q_AM (q_uI q_IM 0 39 0) q_J0, 34, 31630))) 4 (fun _ _ => rfl) ?_
                          refine q_Ru_call (v := none) (h2 := (q_cM A32 (q_uI q_IM 0 39 0) q_J0, 34, 31630)) rfl rfl ?_ ?_
                          · exact p32.le (Nat.le_of_ble_eq_true rfl)
                          show q_Ru _ _ _ (44, [(3, .int 0), (0, .ref 64), (1, .int a), (2, .int v)], [], (q_cM A32 (q_uI q_IM 0 39 0) q_J0, 34, 31630)) _
                          refine q_Ru_seg (g2 := (45, [(3, .int 0), (0, .ref 64), (1, .int a), (2, .int v)], [.ref 64], (q_cM A32 (q_uI q_IM 0 39 0) q_J0, 34, 31630))) 1 (fun _ _ => rfl) ?_
                          refine q_Ru_call (v := none) (h2 := (q_cM A32 (q_uI q_IM 0 39 0) q_J0, 34, 31630)) rfl rfl ?_ ?_
                          · refine q_Ca_of (Nat.le_of_ble_eq_true rfl) ?_
                            refine q_Ru_seg (g2 := (17, [(0, .ref 64)], [], (q_cM A32 (q_uI q_IM 0 39 0) q_J0, 34, 31630))) 3 (fun _ _ => rfl) ?_
                            exact q_Ru_ret rfl rfl
                          show q_Ru _ _ _ (48, [(3, .int 0), (0, .ref 64), (1, .int a), (2, .int v)], [], (q_cM A32 (q_uI q_IM 0 39 0) q_J0, 34, 31630)) _
                          refine q_Ru_seg (g2 := (49, [(3, .int 0), (0, .ref 64), (1, .int a), (2, .int v)], [.int 0], (q_cM A32 (q_uI q_IM 0 39 0) q_J0, 34, 31630))) 1 (fun _ _ => rfl) ?_
                          exact q_Ru_ret rfl rfl
                      | false =>
                        exact q_no (q_lo1 h240) (q_hi2 h247) (by decide)
              | false =>
                exact q_no (q_lo1 h239) (q_sub_hi 3839 (q_hi1 h237) (q_lo1 h231) (q_hi1 h232)) (by decide)
          | false =>
            cases h248 : decide (a - 3840 < 48) with
            | true =>
              obtain ⟨j249, g249, e249⟩ := q_en (l := 3840) (n := 47) (q_sub_lo 3840 (q_lo1 h237) (q_lo1 h231) (q_hi1 h232)) (q_sub_hi 3887 (q_hi1 h248) (q_sub_lo 3840 (q_lo1 h237) (q_lo1 h231) (q_hi1 h232)) (q_hi1 h232))
              match j249, g249, e249 with
              | 0, _, e249 =>
                have e249 : a = 3840 := e249
                subst e249
                obtain ⟨A33, I33, p33⟩ := q_p_write q_AX q_IX (40) (26520) 3840 v
                obtain ⟨A34, p34⟩ := q_p_writes q_AM (q_uI q_IM 0 39 0) (34) (31630) 3840 v (by decide) (by decide)
                refine ⟨0, 0, 0, ⟨(q_cX A33 I33 (q_uA q_J0 39 (vp_updL (fun _ => 0) 0 0)), 40, 26520), (q_uA q_J0 39 (vp_updL (fun _ => 0) 0 0)) 39, ?_, rfl, fun _ => rfl, Nat.le_of_ble_eq_true rfl, Nat.le_of_ble_eq_true rfl⟩, ⟨(q_cM A34 (q_uI q_IM 0 39 0) q_J0, 34, 31630), _, ?_, rfl, rfl, Nat.le_of_ble_eq_true rfl, Nat.le_of_ble_eq_true rfl⟩, fun _ => rfl⟩
                · refine q_Ca_of (Nat.le_of_ble_eq_true rfl) ?_
                  refine q_Ru_seg (g2 := (5, [(0, .ref 64), (1, .int 3840), (2, .int v), (3, .ref 103)], [.int v, .int 3840, .ref 64, .int 0, .ref 103], (q_cX q_AX q_IX q_J0, 40, 26520))) 5 (fun _ _ => rfl) ?_
                  refine q_Ru_call (v := (some (.int 0))) (h2 := (q_cX A33 I33 q_J0, 40, 26520)) rfl rfl ?_ ?_
                  · refine q_Ca_of (Nat.le_of_ble_eq_true rfl) ?_
                    refine q_Ru_seg (g2 := (1, [(0, .ref 64), (1, .int 3840), (2, .int v)], [.int 3840], (q_cX q_AX q_IX q_J0, 40, 26520))) 1 (fun _ _ => rfl) ?_
                    refine q_Ru_call (v := none) (h2 := (q_cX q_AX q_IX q_J0, 40, 26520)) rfl rfl ?_ ?_
                    · refine q_Ca_of (Nat.le_of_ble_eq_true rfl) ?_
                      refine q_Ru_seg (g2 := (4, [(0, .int 3840)], [.int 4096, .int 3840], (q_cX q_AX q_IX q_J0, 40, 26520))) 2 (fun _ _ => rfl) ?_
                      refine q_Ru_call (v := none) (h2 := (q_cX q_AX q_IX q_J0, 40, 26520)) rfl rfl ?_ ?_
                      · refine q_Ca_of (Nat.le_of_ble_eq_true rfl) ?_
                        refine q_Ru_seg (g2 := (19, [(0, .int 3840), (1, .int 4096)], [], (q_cX q_AX q_IX q_J0, 40, 26520))) 5 (fun _ _ => rfl) ?_
                        exact q_Ru_ret rfl rfl
                      show q_Ru _ _ _ (7, [(0, .int 3840)], [], (q_cX q_AX q_IX q_J0, 40, 26520)) _
                      exact q_Ru_ret rfl rfl
                    show q_Ru _ _ _ (4, [(0, .ref 64), (1, .int 3840), (2, .int v)], [], (q_cX q_AX q_IX q_J0, 40, 26520)) _
                    refine q_Ru_seg (g2 := (5, [(0, .ref 64), (1, .int 3840), (2, .int v)], [.int v], (q_cX q_AX q_IX q_J0, 40, 26520))) 1 (fun _ _ => rfl) ?_
                    refine q_Ru_call (v := none) (h2 := (q_cX q_AX q_IX q_J0, 40, 26520)) rfl rfl ?_ ?_
                    · refine q_Ca_of (Nat.le_of_ble_eq_true rfl) ?_
                      refine q_Ru_seg (g2 := (5, [(0, .int v)], [.int 255, .int 0, .int v], (q_cX q_AX q_IX q_J0, 40, 26520))) 3 (fun _ _ => rfl) ?_
                      refine q_Ru_call (v := none) (h2 := (q_cX q_AX q_IX q_J0, 40, 26520)) rfl rfl ?_ ?_
                      · refine q_Ca_of (Nat.le_of_ble_eq_true rfl) ?_
                        refine q_Ru_seg (g2 := (2, [(0, .int v), (1, .int 0), (2, .int 255)], [.int 0, .int v], (q_cX q_AX q_IX q_J0, 40, 26520))) 2 (fun _ _ => rfl) ?_
                        refine q_Ru_rsF (g2 := (5, [(0, .int v), (1, .int 0), (2, .int 255)], [], (q_cX q_AX q_IX q_J0, 40, 26520))) rfl rfl h233 ?_
                        refine q_Ru_seg (g2 := (7, [(0, .int v), (1, .int 0), (2, .int 255)], [.int 255, .int v], (q_cX q_AX q_IX q_J0, 40, 26520))) 2 (fun _ _ => rfl) ?_
                        refine q_Ru_rsT (g2 := (20, [(0, .int v), (1, .int 0), (2, .int 255)], [], (q_cX q_AX q_IX q_J0, 40, 26520))) rfl rfl (q_d_geF h235) ?_
                        exact q_Ru_ret rfl rfl
                      show q_Ru _ _ _ (8, [(0, .int v)], [], (q_cX q_AX q_IX q_J0, 40, 26520)) _
                      exact q_Ru_ret rfl rfl
                    show q_Ru _ _ _ (8, [(0, .ref 64), (1, .int 3840), (2, .int v)], [], (q_cX q_AX q_IX q_J0, 40, 26520)) _
                    refine q_Ru_seg (g2 := (13, [(0, .ref 64), (1, .int 3840), (2, .int v)], [.int 0, .int v, .int 3840, .int 0, .ref 64], (q_cX q_AX q_IX q_J0, 40, 26520))) 5 (fun _ _ => rfl) ?_
                    refine q_Ru_call (v := none) (h2 := (q_cX q_AX q_IX q_J0, 40, 26520)) rfl rfl ?_ ?_
                    · refine q_Ca_of (Nat.le_of_ble_eq_true rfl) ?_
                      refine q_Ru_seg (g2 := (19, [(0, .ref 64), (1, .int 0), (2, .int 3840), (3, .int v), (4, .int 0)], [], (q_cX q_AX q_IX q_J0, 40, 26520))) 3 (fun _ _ => rfl) ?_
                      exact q_Ru_ret rfl rfl
                    show q_Ru _ _ _ (16, [(0, .ref 64), (1, .int 3840), (2, .int v)], [], (q_cX q_AX q_IX q_J0, 40, 26520)) _
                    refine q_Ru_seg (g2 := (24, [(0, .ref 64), (1, .int 3840), (2, .int v)], [.int 0, .int v, .int 3840, .int 0, .ref 65], (q_cX q_AX q_IX q_J0, 40, 26520))) 6 (fun _ _ => rfl) ?_
                    refine q_Ru_call (v := (some (.int 0))) (h2 := (q_cX A33 I33 q_J0, 40, 26520)) rfl rfl ?_ ?_
                    · refine q_Ca_of (Nat.le_of_ble_eq_true rfl) ?_
                      refine q_Ru_seg (g2 := (74, [(0, .ref 65), (1, .int 0), (2, .int 3840), (3, .int v), (4, .int 0)], [.int v, .int 3840, .ref 66], (q_cX q_AX q_IX q_J0, 40, 26520))) 6 (fun _ _ => rfl) ?_
                      refine q_Ru_call (v := (some (.int 0))) (h2 := (q_cX A33 I33 q_J0, 40, 26520)) rfl rfl ?_ ?_
                      · refine q_Ca_of (Nat.le_of_ble_eq_true rfl) ?_
                        refine q_Ru_seg (g2 := (2, [(0, .ref 66), (1, .int 3840), (2, .int v)], [.int 3840, .ref 66], (q_cX q_AX q_IX q_J0, 40, 26520))) 2 (fun _ _ => rfl) ?_
                        refine q_Ru_call (v := (some (.int 0))) (h2 := (q_cX q_AX q_IX q_J0, 40, 26520)) rfl rfl ?_ ?_
                        · refine q_Ca_of (Nat.le_of_ble_eq_true rfl) ?_
                          refine q_Ru_seg (g2 := (27, [(2, .int 0), (0, .ref 66), (1, .int 3840)], [.int 0, .int 0, .ref 66], (q_cX q_AX q_IX q_J0, 40, 26520))) 16 (fun _ _ => rfl) ?_
                          refine q_Ru_call (v := (some (.int 0))) (h2 := (q_cX q_AX q_IX q_J0, 40, 26520)) rfl rfl ?_ ?_
                          · refine q_Ca_of (Nat.le_of_ble_eq_true rfl) ?_
                            refine q_Ru_seg (g2 := (183, [(0, .ref 66), (1, .int 0), (2, .int 0)], [.int 0], (q_cX q_AX q_IX q_J0, 40, 26520))) 3 (fun _ _ => rfl) ?_
                            exact q_Ru_ret rfl rfl
                          show q_Ru _ _ _ (30, [(2, .int 0), (0, .ref 66), (1, .int 3840)], [.int 0], (q_cX q_AX q_IX q_J0, 40, 26520)) _
                          exact q_Ru_ret rfl rfl
                        show q_Ru _ _ _ (5, [(0, .ref 66), (1, .int 3840), (2, .int v)], [.int 0], (q_cX q_AX q_IX q_J0, 40, 26520)) _
                        refine q_Ru_seg (g2 := (9, [(3, .int 0), (0, .ref 66), (1, .int 3840), (2, .int v)], [.int v, .int 3840, .ref 66], (q_cX q_AX q_IX q_J0, 40, 26520))) 4 (fun _ _ => rfl) ?_
                        refine q_Ru_call (v := none) (h2 := (q_cX A33 I33 q_J0, 40, 26520)) rfl rfl ?_ ?_
                        · exact p33.le (Nat.le_of_ble_eq_true rfl)
                        show q_Ru _ _ _ (12, [(3, .int 0), (0, .ref 66), (1, .int 3840), (2, .int v)], [], (q_cX A33 I33 q_J0, 40, 26520)) _
                        refine q_Ru_seg (g2 := (13, [(3, .int 0), (0, .ref 66), (1, .int 3840), (2, .int v)], [.int 0], (q_cX A33 I33 q_J0, 40, 26520))) 1 (fun _ _ => rfl) ?_
                        exact q_Ru_ret rfl rfl
                      show q_Ru _ _ _ (77, [(0, .ref 65), (1, .int 0), (2, .int 3840), (3, .int v), (4, .int 0)], [.int 0], (q_cX A33 I33 q_J0, 40, 26520)) _
                      exact q_Ru_ret rfl rfl
                    show q_Ru _ _ _ (27, [(0, .ref 64), (1, .int 3840), (2, .int v)], [.int 0], (q_cX A33 I33 q_J0, 40, 26520)) _
                    exact q_Ru_ret rfl rfl
                  show q_Ru _ _ _ (8, [(0, .ref 64), (1, .int 3840), (2, .int v), (3, .ref 103)], [.int 0, .int 0, .ref 103], (q_cX A33 I33 q_J0, 40, 26520)) _
                  refine q_Ru_seg (g2 := (22, [(0, .ref 64), (1, .int 3840), (2, .int v), (3, .ref 103)], [.int 0], (q_cX A33 I33 (q_uA q_J0 39 (vp_updL (fun _ => 0) 0 0)), 40, 26520))) 4 (fun _ _ => rfl) ?_
                  exact q_Ru_ret rfl rfl
                · refine q_Ca_of (Nat.le_of_ble_eq_true rfl) ?_
                  refine q_Ru_seg (g2 := (2, [(0, .ref 64), (1, .int 3840), (2, .int v)], [.int 3840, .ref 64], (q_cM q_AM q_IM q_J0, 34, 31630))) 2 (fun _ _ => rfl) ?_
                  refine q_Ru_call (v := (some (.int 0))) (h2 := (q_cM q_AM q_IM q_J0, 34, 31630)) rfl rfl ?_ ?_
                  · refine q_Ca_of (Nat.le_of_ble_eq_true rfl) ?_
                    refine q_Ru_seg (g2 := (5, [(0, .int 3840)], [.int 4095, .int 0, .int 3840], (q_cM q_AM q_IM q_J0, 34, 31630))) 3 (fun _ _ => rfl) ?_
                    refine q_Ru_call (v := (some (.int 1))) (h2 := (q_cM q_AM q_IM q_J0, 34, 31630)) rfl rfl ?_ ?_
                    · refine q_Ca_of (Nat.le_of_ble_eq_true rfl) ?_
                      refine q_Ru_seg (g2 := (15, [(0, .int 3840), (1, .int 0), (2, .int 4095)], [.int 1], (q_cM q_AM q_IM q_J0, 34, 31630))) 8 (fun _ _ => rfl) ?_
                      exact q_Ru_ret rfl rfl
                    show q_Ru _ _ _ (8, [(0, .int 3840)], [.int 1], (q_cM q_AM q_IM q_J0, 34, 31630)) _
                    refine q_Ru_seg (g2 := (16, [(0, .int 3840)], [.int 0], (q_cM q_AM q_IM q_J0, 34, 31630))) 2 (fun _ _ => rfl) ?_
                    exact q_Ru_ret rfl rfl
                  show q_Ru _ _ _ (5, [(0, .ref 64), (1, .int 3840), (2, .int v)], [.int 0, .ref 64], (q_cM q_AM q_IM q_J0, 34, 31630)) _
                  refine q_Ru_seg (g2 := (13, [(0, .ref 64), (1, .int 3840), (2, .int v)], [.int v, .ref 64], (q_cM q_AM q_IM q_J0, 34, 31630))) 2 (fun _ _ => rfl) ?_
                  refine q_Ru_call (v := (some (.int 0))) (h2 := (q_cM q_AM q_IM q_J0, 34, 31630)) rfl rfl ?_ ?_
                  · refine q_Ca_of (Nat.le_of_ble_eq_true rfl) ?_
                    refine q_Ru_seg (g2 := (5, [(0, .int v)], [.int 255, .int 0, .int v], (q_cM q_AM q_IM q_J0, 34, 31630))) 3 (fun _ _ => rfl) ?_
                    refine q_Ru_call (v := (some (.int 1))) (h2 := (q_cM q_AM q_IM q_J0, 34, 31630)) rfl rfl ?_ ?_
                    · refine q_Ca_of (Nat.le_of_ble_eq_true rfl) ?_
                      refine q_Ru_seg (g2 := (2, [(0, .int v), (1, .int 0), (2, .int 255)], [.int 0, .int v], (q_cM q_AM q_IM q_J0, 34, 31630))) 2 (fun _ _ => rfl) ?_
                      refine q_Ru_rsF (g2 := (5, [(0, .int v), (1, .int 0), (2, .int 255)], [], (q_cM q_AM q_IM q_J0, 34, 31630))) rfl rfl h233 ?_
                      refine q_Ru_seg (g2 := (7, [(0, .int v), (1, .int 0), (2, .int 255)], [.int 255, .int v], (q_cM q_AM q_IM q_J0, 34, 31630))) 2 (fun _ _ => rfl) ?_
                      refine q_Ru_rsF (g2 := (10, [(0, .int v), (1, .int 0), (2, .int 255)], [], (q_cM q_AM q_IM q_J0, 34, 31630))) rfl rfl h235 ?_
                      refine q_Ru_seg (g2 := (15, [(0, .int v), (1, .int 0), (2, .int 255)], [.int 1], (q_cM q_AM q_IM q_J0, 34, 31630))) 2 (fun _ _ => rfl) ?_
                      exact q_Ru_ret rfl rfl
                    show q_Ru _ _ _ (8, [(0, .int v)], [.int 1], (q_cM q_AM q_IM q_J0, 34, 31630)) _
                    refine q_Ru_seg (g2 := (16, [(0, .int v)], [.int 0], (q_cM q_AM q_IM q_J0, 34, 31630))) 2 (fun _ _ => rfl) ?_
                    exact q_Ru_ret rfl rfl
                  show q_Ru _ _ _ (16, [(0, .ref 64), (1, .int 3840), (2, .int v)], [.int 0, .ref 64], (q_cM q_AM q_IM q_J0, 34, 31630)) _
                  refine q_Ru_seg (g2 := (24, [(0, .ref 64), (1, .int 3840), (2, .int v)], [.int 0, .ref 64], (q_cM q_AM q_IM q_J0, 34, 31630))) 2 (fun _ _ => rfl) ?_
                  refine q_Ru_call (v := (some (.int 0))) (h2 := (q_cM q_AM (q_uI q_IM 0 39 0) q_J0, 34, 31630)) rfl rfl ?_ ?_
                  · refine q_Ca_of (Nat.le_of_ble_eq_true rfl) ?_
                    refine q_Ru_seg (g2 := (14, [(0, .ref 64), (1, .int 0)], [.int 0], (q_cM q_AM (q_uI q_IM 0 39 0) q_J0, 34, 31630))) 6 (fun _ _ => rfl) ?_
                    exact q_Ru_ret rfl rfl
                  show q_Ru _ _ _ (27, [(0, .ref 64), (1, .int 3840), (2, .int v)], [.int 0], (q_cM q_AM (q_uI q_IM 0 39 0) q_J0, 34, 31630)) _
                  refine q_Ru_seg (g2 := (34, [(0, .ref 64), (1, .int 3840), (2, .int v)], [.int 3840, .ref 64], (q_cM q_AM (q_uI q_IM 0 39 0) q_J0, 34, 31630))) 3 (fun _ _ => rfl) ?_
                  refine q_Ru_call (v := (some (.int 0))) (h2 := (q_cM q_AM (q_uI q_IM 0 39 0) q_J0, 34, 31630)) rfl rfl ?_ ?_
                  · refine q_Ca_of (Nat.le_of_ble_eq_true rfl) ?_
                    refine q_Ru_seg (g2 := (7, [(0, .ref 64), (1, .int 3840)], [.int 3887, .int 3840, .int 3840], (q_cM q_AM (q_uI q_IM 0 39 0) q_J0, 34, 31630))) 3 (fun _ _ => rfl) ?_
                    refine q_Ru_call (v := (some (.int 1))) (h2 := (q_cM q_AM (q_uI q_IM 0 39 0) q_J0, 34, 31630)) rfl rfl ?_ ?_
                    · refine q_Ca_of (Nat.le_of_ble_eq_true rfl) ?_
                      refine q_Ru_seg (g2 := (15, [(0, .int 3840), (1, .int 3840), (2, .int 3887)], [.int 1], (q_cM q_AM (q_uI q_IM 0 39 0) q_J0, 34, 31630))) 8 (fun _ _ => rfl) ?_
                      exact q_Ru_ret rfl rfl
                    show q_Ru _ _ _ (10, [(0, .ref 64), (1, .int 3840)], [.int 1], (q_cM q_AM (q_uI q_IM 0 39 0) q_J0, 34, 31630)) _
                    refine q_Ru_seg (g2 := (19, [(0, .ref 64), (1, .int 3840)], [.int 0, .ref 64], (q_cM q_AM (q_uI q_IM 0 39 0) q_J0, 34, 31630))) 5 (fun _ _ => rfl) ?_
                    refine q_Ru_call (v := (some (.int 0))) (h2 := (q_cM q_AM (q_uI q_IM 0 39 0) q_J0, 34, 31630)) rfl rfl ?_ ?_
                    · refine q_Ca_of (Nat.le_of_ble_eq_true rfl) ?_
                      refine q_Ru_seg (g2 := (30, [(0, .ref 64), (1, .int 0)], [.int 15, .int 12, .int 0], (q_cM q_AM (q_uI q_IM 0 39 0) q_J0, 34, 31630))) 9 (fun _ _ => rfl) ?_
                      refine q_Ru_call (v := (some (.int 0))) (h2 := (q_cM q_AM (q_uI q_IM 0 39 0) q_J0, 34, 31630)) rfl rfl ?_ ?_
                      · refine q_Ca_of (Nat.le_of_ble_eq_true rfl) ?_
                        refine q_Ru_seg (g2 := (15, [(0, .int 0), (1, .int 12), (2, .int 15)], [.int 0], (q_cM q_AM (q_uI q_IM 0 39 0) q_J0, 34, 31630))) 4 (fun _ _ => rfl) ?_
                        exact q_Ru_ret rfl rfl
                      show q_Ru _ _ _ (33, [(0, .ref 64), (1, .int 0)], [.int 0], (q_cM q_AM (q_uI q_IM 0 39 0) q_J0, 34, 31630)) _
                      refine q_Ru_seg (g2 := (190, [(0, .ref 64), (1, .int 0)], [.int 0], (q_cM q_AM (q_uI q_IM 0 39 0) q_J0, 34, 31630))) 20 (fun _ _ => rfl) ?_
                      exact q_Ru_ret rfl rfl
                    show q_Ru _ _ _ (22, [(0, .ref 64), (1, .int 3840)], [.int 0], (q_cM q_AM (q_uI q_IM 0 39 0) q_J0, 34, 31630)) _
                    exact q_Ru_ret rfl rfl
                  show q_Ru _ _ _ (37, [(0, .ref 64), (1, .int 3840), (2, .int v)], [.int 0], (q_cM q_AM (q_uI q_IM 0 39 0) q_J0, 34, 31630)) _
                  refine q_Ru_seg (g2 := (41, [(3, .int 0), (0, .ref 64), (1, .int 3840), (2, .int v)], [.int v, .int 3840, .ref 64], (q_cM q_AM (q_uI q_IM 0 39 0) q_J0, 34, 31630))) 4 (fun _ _ => rfl) ?_
                  refine q_Ru_call (v := none) (h2 := (q_cM A34 (q_uI q_IM 0 39 0) q_J0, 34, 31630)) rfl rfl ?_ ?_
                  · exact p34.le (Nat.le_of_ble_eq_true rfl)
                  show q_Ru _ _ _ (44, [(3, .int 0), (0, .ref 64), (1, .int 3840), (2, .int v)], [], (q_cM A34 (q_uI q_IM 0 39 0) q_J0, 34, 31630)) _
                  refine q_Ru_seg (g2 := (45, [(3, .int 0), (0, .ref 64), (1, .int 3840), (2, .int v)], [.ref 64], (q_cM A34 (q_uI q_IM 0 39 0) q_J0, 34, 31630))) 1 (fun _ _ => rfl) ?_
                  refine q_Ru_call (v := none) (h2 := (q_cM A34 (q_uI q_IM 0 39 0) q_J0, 34, 31630)) rfl rfl ?_ ?_
                  · refine q_Ca_of (Nat.le_of_ble_eq_true rfl) ?_
                    refine q_Ru_seg (g2 := (17, [(0, .ref 64)], [], (q_cM A34 (q_uI q_IM 0 39 0) q_J0, 34, 31630))) 3 (fun _ _ => rfl) ?_
                    exact q_Ru_ret rfl rfl
                  show q_Ru _ _ _ (48, [(3, .int 0), (0, .ref 64), (1, .int 3840), (2, .int v)], [], (q_cM A34 (q_uI q_IM 0 39 0) q_J0, 34, 31630)) _
                  refine q_Ru_seg (g2 := (49, [(3, .int 0), (0, .ref 64), (1, .int 3840), (2, .int v)], [.int 0], (q_cM A34 (q_uI q_IM 0 39 0) q_J0, 34, 31630))) 1 (fun _ _ => rfl) ?_
                  exact q_Ru_ret rfl rfl
              | 1, _, e249 =>
                have e249 : a = 3841 := e249
                subst e249
                obtain ⟨A35, I35, p35⟩ := q_p_write q_AX q_IX (40) (26520) 3841 v
                obtain ⟨A36, p36⟩ := q_p_writes q_AM (q_uI q_IM 0 39 0) (34) (31630) 3841 v (by decide) (by decide)
                refine ⟨0, 0, 0, ⟨(q_cX A35 I35 (q_uA q_J0 39 (vp_updL (fun _ => 0) 0 0)), 40, 26520), (q_uA q_J0 39 (vp_updL (fun _ => 0) 0 0)) 39, ?_, rfl, fun _ => rfl, Nat.le_of_ble_eq_true rfl, Nat.le_of_ble_eq_true rfl⟩, ⟨(q_cM A36 (q_uI q_IM 0 39 0) q_J0, 34, 31630), _, ?_, rfl, rfl, Nat.le_of_ble_eq_true rfl, Nat.le_of_ble_eq_true rfl⟩, fun _ => rfl⟩
                · refine q_Ca_of (Nat.le_of_ble_eq_true rfl) ?_
                  refine q_Ru_seg (g2 := (5, [(0, .ref 64), (1, .int 3841), (2, .int v), (3, .ref 103)], [.int v, .int 3841, .ref 64, .int 0, .ref 103], (q_cX q_AX q_IX q_J0, 40, 26520))) 5 (fun _ _ => rfl) ?_
                  refine q_Ru_call (v := (some (.int 0))) (h2 := (q_cX A35 I35 q_J0, 40, 26520)) rfl rfl ?_ ?_
                  · refine q_Ca_of (Nat.le_of_ble_eq_true rfl) ?_
                    refine q_Ru_seg (g2 := (1, [(0, .ref 64), (1, .int 3841), (2, .int v)], [.int 3841], (q_cX q_AX q_IX q_J0, 40, 26520))) 1 (fun _ _ => rfl) ?_
                    refine q_Ru_call (v := none) (h2 := (q_cX q_AX q_IX q_J0, 40, 26520)) rfl rfl ?_ ?_
                    · refine q_Ca_of (Nat.le_of_ble_eq_true rfl) ?_
                      refine q_Ru_seg (g2 := (4, [(0, .int 3841)], [.int 4096, .int 3841], (q_cX q_AX q_IX q_J0, 40, 26520))) 2 (fun _ _ => rfl) ?_
                      refine q_Ru_call (v := none) (h2 := (q_cX q_AX q_IX q_J0, 40, 26520)) rfl rfl ?_ ?_
                      · refine q_Ca_of (Nat.le_of_ble_eq_true rfl) ?_
                        refine q_Ru_seg (g2 := (19, [(0, .int 3841), (1, .int 4096)], [], (q_cX q_AX q_IX q_J0, 40, 26520))) 5 (fun _ _ => rfl) ?_
                        exact q_Ru_ret rfl rfl
                      show q_Ru _ _ _ (7, [(0, .int 3841)], [], (q_cX q_AX q_IX q_J0, 40, 26520)) _
                      exact q_Ru_ret rfl rfl
                    show q_Ru _ _ _ (4, [(0, .ref 64), (1, .int 3841), (2, .int v)], [], (q_cX q_AX q_IX q_J0, 40, 26520)) _
                    refine q_Ru_seg (g2 := (5, [(0, .ref 64), (1, .int 3841), (2, .int v)], [.int v], (q_cX q_AX q_IX q_J0, 40, 26520))) 1 (fun _ _ => rfl) ?_
                    refine q_Ru_call (v := none) (h2 := (q_cX q_AX q_IX q_J0, 40, 26520)) rfl rfl ?_ ?_
                    · refine q_Ca_of (Nat.le_of_ble_eq_true rfl) ?_
                      refine q_Ru_seg (g2 := (5, [(0, .int v)], [.int 255, .int 0, .int v], (q_cX q_AX q_IX q_J0, 40, 26520))) 3 (fun _ _ => rfl) ?_
                      refine q_Ru_call (v := none) (h2 := (q_cX q_AX q_IX q_J0, 40, 26520)) rfl rfl ?_ ?_
                      · refine q_Ca_of (Nat.le_of_ble_eq_true rfl) ?_
                        refine q_Ru_seg (g2 := (2, [(0, .int v), (1, .int 0), (2, .int 255)], [.int 0, .int v], (q_cX q_AX q_IX q_J0, 40, 26520))) 2 (fun _ _ => rfl) ?_
                        refine q_Ru_rsF (g2 := (5, [(0, .int v), (1, .int 0), (2, .int 255)], [], (q_cX q_AX q_IX q_J0, 40, 26520))) rfl rfl h233 ?_
                        refine q_Ru_seg (g2 := (7, [(0, .int v), (1, .int 0), (2, .int 255)], [.int 255, .int v], (q_cX q_AX q_IX q_J0, 40, 26520))) 2 (fun _ _ => rfl) ?_
                        refine q_Ru_rsT (g2 := (20, [(0, .int v), (1, .int 0), (2, .int 255)], [], (q_cX q_AX q_IX q_J0, 40, 26520))) rfl rfl (q_d_geF h235) ?_
                        exact q_Ru_ret rfl rfl
                      show q_Ru _ _ _ (8, [(0, .int v)], [], (q_cX q_AX q_IX q_J0, 40, 26520)) _
                      exact q_Ru_ret rfl rfl
                    show q_Ru _ _ _ (8, [(0, .ref 64), (1, .int 3841), (2, .int v)], [], (q_cX q_AX q_IX q_J0, 40, 26520)) _
                    refine q_Ru_seg (g2 := (13, [(0, .ref 64), (1, .int 3841), (2, .int v)], [.int 0, .int v, .int 3841, .int 0, .ref 64], (q_cX q_AX q_IX q_J0, 40, 26520))) 5 (fun _ _ => rfl) ?_
                    refine q_Ru_call (v := none) (h2 := (q_cX q_AX q_IX q_J0, 40, 26520)) rfl rfl ?_ ?_
                    · refine q_Ca_of (Nat.le_of_ble_eq_true rfl) ?_
                      refine q_Ru_seg (g2 := (19, [(0, .ref 64), (1, .int 0), (2, .int 3841), (3, .int v), (4, .int 0)], [], (q_cX q_AX q_IX q_J0, 40, 26520))) 3 (fun _ _ => rfl) ?_
                      exact q_Ru_ret rfl rfl
                    show q_Ru _ _ _ (16, [(0, .ref 64), (1, .int 3841), (2, .int v)], [], (q_cX q_AX q_IX q_J0, 40, 26520)) _
                    refine q_Ru_seg (g2 := (24, [(0, .ref 64), (1, .int 3841), (2, .int v)], [.int 0, .int v, .int 3841, .int 0, .ref 65], (q_cX q_AX q_IX q_J0, 40, 26520))) 6 (fun _ _ => rfl) ?_
                    refine q_Ru_call (v := (some (.int 0))) (h2 := (q_cX A35 I35 q_J0, 40, 26520)) rfl rfl ?_ ?_
                    · refine q_Ca_of (Nat.le_of_ble_eq_true rfl) ?_
                      refine q_Ru_seg (g2 := (74, [(0, .ref 65), (1, .int 0), (2, .int 3841), (3, .int v), (4, .int 0)], [.int v, .int 3841, .ref 66], (q_cX q_AX q_IX q_J0, 40, 26520))) 6 (fun _ _ => rfl) ?_
                      refine q_Ru_call (v := (some (.int 0))) (h2 := (q_cX A35 I35 q_J0, 40, 26520)) rfl rfl ?_ ?_
                      · refine q_Ca_of (Nat.le_of_ble_eq_true rfl) ?_
                        refine q_Ru_seg (g2 := (2, [(0, .ref 66), (1, .int 3841), (2, .int v)], [.int 3841, .ref 66], (q_cX q_AX q_IX q_J0, 40, 26520))) 2 (fun _ _ => rfl) ?_
                        refine q_Ru_call (v := (some (.int 0))) (h2 := (q_cX q_AX q_IX q_J0, 40, 26520)) rfl rfl ?_ ?_
                        · refine q_Ca_of (Nat.le_of_ble_eq_true rfl) ?_
                          refine q_Ru_seg (g2 := (27, [(2, .int 1), (0, .ref 66), (1, .int 3841)], [.int 0, .int 1, .ref 66], (q_cX q_AX q_IX q_J0, 40, 26520))) 16 (fun _ _ => rfl) ?_
                          refine q_Ru_call (v := (some (.int 0))) (h2 := (q_cX q_AX q_IX q_J0, 40, 26520)) rfl rfl ?_ ?_
                          · refine q_Ca_of (Nat.le_of_ble_eq_true rfl) ?_
                            refine q_Ru_seg (g2 := (183, [(0, .ref 66), (1, .int 1), (2, .int 0)], [.int 0], (q_cX q_AX q_IX q_J0, 40, 26520))) 3 (fun _ _ => rfl) ?_
                            exact q_Ru_ret rfl rfl
                          show q_Ru _ _ _ (30, [(2, .int 1), (0, .ref 66), (1, .int 3841)], [.int 0], (q_cX q_AX q_IX q_J0, 40, 26520)) _
                          exact q_Ru_ret rfl rfl
                        show q_Ru _ _ _ (5, [(0, .ref 66), (1, .int 3841), (2, .int v)], [.int 0], (q_cX q_AX q_IX q_J0, 40, 26520)) _
                        refine q_Ru_seg (g2 := (9, [(3, .int 0), (0, .ref 66), (1, .int 3841), (2, .int v)], [.int v, .int 3841, .ref 66], (q_cX q_AX q_IX q_J0, 40, 26520))) 4 (fun _ _ => rfl) ?_
                        refine q_Ru_call (v := none) (h2 := (q_cX A35 I35 q_J0, 40, 26520)) rfl rfl ?_ ?_
                        · exact p35.le (Nat.le_of_ble_eq_true rfl)
                        show q_Ru _ _ _ (12, [(3, .int 0), (0, .ref 66), (1, .int 3841), (2, .int v)], [], (q_cX A35 I35 q_J0, 40, 26520)) _
                        refine q_Ru_seg (g2 := (13, [(3, .int 0), (0, .ref 66), (1, .int 3841), (2, .int v)], [.int 0], (q_cX A35 I35 q_J0, 40, 26520))) 1 (fun _ _ => rfl) ?_
                        exact q_Ru_ret rfl rfl
                      show q_Ru _ _ _ (77, [(0, .ref 65), (1, .int 0), (2, .int 3841), (3, .int v), (4, .int 0)], [.int 0], (q_cX A35 I35 q_J0, 40, 26520)) _
                      exact q_Ru_ret rfl rfl
                    show q_Ru _ _ _ (27, [(0, .ref 64), (1, .int 3841), (2, .int v)], [.int 0], (q_cX A35 I35 q_J0, 40, 26520)) _
                    exact q_Ru_ret rfl rfl
                  show q_Ru _ _ _ (8, [(0, .ref 64), (1, .int 3841), (2, .int v), (3, .ref 103)], [.int 0, .int 0, .ref 103], (q_cX A35 I35 q_J0, 40, 26520)) _
                  refine q_Ru_seg (g2 := (22, [(0, .ref 64), (1, .int 3841), (2, .int v), (3, .ref 103)], [.int 0], (q_cX A35 I35 (q_uA q_J0 39 (vp_updL (fun _ => 0) 0 0)), 40, 26520))) 4 (fun _ _ => rfl) ?_
                  exact q_Ru_ret rfl rfl
                · refine q_Ca_of (Nat.le_of_ble_eq_true rfl) ?_
                  refine q_Ru_seg (g2 := (2, [(0, .ref 64), (1, .int 3841), (2, .int v)], [.int 3841, .ref 64], (q_cM q_AM q_IM q_J0, 34, 31630))) 2 (fun _ _ => rfl) ?_
                  refine q_Ru_call (v := (some (.int 0))) (h2 := (q_cM q_AM q_IM q_J0, 34, 31630)) rfl rfl ?_ ?_
                  · refine q_Ca_of (Nat.le_of_ble_eq_true rfl) ?_
                    refine q_Ru_seg (g2 := (5, [(0, .int 3841)], [.int 4095, .int 0, .int 3841], (q_cM q_AM q_IM q_J0, 34, 31630))) 3 (fun _ _ => rfl) ?_
                    refine q_Ru_call (v := (some (.int 1))) (h2 := (q_cM q_AM q_IM q_J0, 34, 31630)) rfl rfl ?_ ?_
                    · refine q_Ca_of (Nat.le_of_ble_eq_true rfl) ?_
                      refine q_Ru_seg (g2 := (15, [(0, .int 3841), (1, .int 0), (2, .int 4095)], [.int 1], (q_cM q_AM q_IM q_J0, 34, 31630))) 8 (fun _ _ => rfl) ?_
                      exact q_Ru_ret rfl rfl
                    show q_Ru _ _ _ (8, [(0, .int 3841)], [.int 1], (q_cM q_AM q_IM q_J0, 34, 31630)) _
                    refine q_Ru_seg (g2 := (16, [(0, .int 3841)], [.int 0], (q_cM q_AM q_IM q_J0, 34, 31630))) 2 (fun _ _ => rfl) ?_
                    exact q_Ru_ret rfl rfl
                  show q_Ru _ _ _ (5, [(0, .ref 64), (1, .int 3841), (2, .int v)], [.int 0, .ref 64], (q_cM q_AM q_IM q_J0, 34, 31630)) _
                  refine q_Ru_seg (g2 := (13, [(0, .ref 64), (1, .int 3841), (2, .int v)], [.int v, .ref 64], (q_cM q_AM q_IM q_J0, 34, 31630))) 2 (fun _ _ => rfl) ?_
                  refine q_Ru_call (v := (some (.int 0))) (h2 := (q_cM q_AM q_IM q_J0, 34, 31630)) rfl rfl ?_ ?_
                  · refine q_Ca_of (Nat.le_of_ble_eq_true rfl) ?_
                    refine q_Ru_seg (g2 := (5, [(0, .int v)], [.int 255, .int 0, .int v], (q_cM q_AM q_IM q_J0, 34, 31630))) 3 (fun _ _ => rfl) ?_
                    refine q_Ru_call (v := (some (.int 1))) (h2 := (q_cM q_AM q_IM q_J0, 34, 31630)) rfl rfl ?_ ?_
                    · refine q_Ca_of (Nat.le_of_ble_eq_true rfl) ?_
                      refine q_Ru_seg (g2 := (2, [(0, .int v), (1, .int 0), (2, .int 255)], [.int 0, .int v], (q_cM q_AM q_IM q_J0, 34, 31630))) 2 (fun _ _ => rfl) ?_
                      refine q_Ru_rsF (g2 := (5, [(0, .int v), (1, .int 0), (2, .int 255)], [], (q_cM q_AM q_IM q_J0, 34, 31630))) rfl rfl h233 ?_
                      refine q_Ru_seg (g2 := (7, [(0, .int v), (1, .int 0), (2, .int 255)], [.int 255, .int v], (q_cM q_AM q_IM q_J0, 34, 31630))) 2 (fun _ _ => rfl) ?_
                      refine q_Ru_rsF (g2 := (10, [(0, .int v), (1, .int 0), (2, .int 255)], [], (q_cM q_AM q_IM q_J0, 34, 31630))) rfl rfl h235 ?_
                      refine q_Ru_seg (g2 := (15, [(0, .int v), (1, .int 0), (2, .int 255)], [.int 1], (q_cM q_AM q_IM q_J0, 34, 31630))) 2 (fun _ _ => rfl) ?_
                      exact q_Ru_ret rfl rfl
                    show q_Ru _ _ _ (8, [(0, .int v)], [.int 1], (q_cM q_AM q_IM q_J0, 34, 31630)) _
                    refine q_Ru_seg (g2 := (16, [(0, .int v)], [.int 0], (q_cM q_AM q_IM q_J0, 34, 31630))) 2 (fun _ _ => rfl) ?_
                    exact q_Ru_ret rfl rfl
                  show q_Ru _ _ _ (16, [(0, .ref 64), (1, .int 3841), (2, .int v)], [.int 0, .ref 64], (q_cM q_AM q_IM q_J0, 34, 31630)) _
                  refine q_Ru_seg (g2 := (24, [(0, .ref 64), (1, .int 3841), (2, .int v)], [.int 0, .ref 64], (q_cM q_AM q_IM q_J0, 34, 31630))) 2 (fun _ _ => rfl) ?_
                  refine q_Ru_call (v := (some (.int 0))) (h2 := (q_cM q_AM (q_uI q_IM 0 39 0) q_J0, 34, 31630)) rfl rfl ?_ ?_
                  · refine q_Ca_of (Nat.le_of_ble_eq_true rfl) ?_
                    refine q_Ru_seg (g2 := (14, [(0, .ref 64), (1, .int 0)], [.int 0], (q_cM q_AM (q_uI q_IM 0 39 0) q_J0, 34, 31630))) 6 (fun _ _ => rfl) ?_
                    exact q_Ru_ret rfl rfl
                  show q_Ru _ _ _ (27, [(0, .ref 64), (1, .int 3841), (2, .int v)], [.int 0], (q_cM q_AM (q_uI q_IM 0 39 0) q_J0, 34, 31630)) _
                  refine q_Ru_seg (g2 := (34, [(0, .ref 64), (1, .int 3841), (2, .int v)], [.int 3841, .ref 64], (q_cM q_AM (q_uI q_IM 0 39 0) q_J0, 34, 31630))) 3 (fun _ _ => rfl) ?_
                  refine q_Ru_call (v := (some (.int 0))) (h2 := (q_cM q_AM (q_uI q_IM 0 39 0) q_J0, 34, 31630)) rfl rfl ?_ ?_
                  · refine q_Ca_of (Nat.le_of_ble_eq_true rfl) ?_
                    refine q_Ru_seg (g2 := (7, [(0, .ref 64), (1, .int 3841)], [.int 3887, .int 3840, .int 3841], (q_cM q_AM (q_uI q_IM 0 39 0) q_J0, 34, 31630))) 3 (fun _ _ => rfl) ?_
                    refine q_Ru_call (v := (some (.int 1))) (h2 := (q_cM q_AM (q_uI q_IM 0 39 0) q_J0, 34, 31630)) rfl rfl ?_ ?_
                    · refine q_Ca_of (Nat.le_of_ble_eq_true rfl) ?_
                      refine q_Ru_seg (g2 := (15, [(0, .int 3841), (1, .int 3840), (2, .int 3887)], [.int 1], (q_cM q_AM (q_uI q_IM 0 39 0) q_J0, 34, 31630))) 8 (fun _ _ => rfl) ?_
                      exact q_Ru_ret rfl rfl
                    show q_Ru _ _ _ (10, [(0, .ref 64), (1, .int 3841)], [.int 1], (q_cM q_AM (q_uI q_IM 0 39 0) q_J0, 34, 31630)) _
                    refine q_Ru_seg (g2 := (19, [(0, .ref 64), (1, .int 3841)], [.int 1, .ref 64], (q_cM q_AM (q_uI q_IM 0 39 0) q_J0, 34, 31630))) 5 (fun _ _ => rfl) ?_
                    refine q_Ru_call (v := (some (.int 0))) (h2 := (q_cM q_AM (q_uI q_IM 0 39 0) q_J0, 34, 31630)) rfl rfl ?_ ?_
                    · refine q_Ca_of (Nat.le_of_ble_eq_true rfl) ?_
                      refine q_Ru_seg (g2 := (30, [(0, .ref 64), (1, .int 1)], [.int 15, .int 12, .int 1], (q_cM q_AM (q_uI q_IM 0 39 0) q_J0, 34, 31630))) 9 (fun _ _ => rfl) ?_
                      refine q_Ru_call (v := (some (.int 0))) (h2 := (q_cM q_AM (q_uI q_IM 0 39 0) q_J0, 34, 31630)) rfl rfl ?_ ?_
                      · refine q_Ca_of (Nat.le_of_ble_eq_true rfl) ?_
                        refine q_Ru_seg (g2 := (15, [(0, .int 1), (1, .int 12), (2, .int 15)], [.int 0], (q_cM q_AM (q_uI q_IM 0 39 0) q_J0, 34, 31630))) 4 (fun _ _ => rfl) ?_
                        exact q_Ru_ret rfl rfl
                      show q_Ru _ _ _ (33, [(0, .ref 64), (1, .int 1)], [.int 0], (q_cM q_AM (q_uI q_IM 0 39 0) q_J0, 34, 31630)) _
                      refine q_Ru_seg (g2 := (190, [(0, .ref 64), (1, .int 1)], [.int 0], (q_cM q_AM (q_uI q_IM 0 39 0) q_J0, 34, 31630))) 20 (fun _ _ => rfl) ?_
                      exact q_Ru_ret rfl rfl
                    show q_Ru _ _ _ (22, [(0, .ref 64), (1, .int 3841)], [.int 0], (q_cM q_AM (q_uI q_IM 0 39 0) q_J0, 34, 31630)) _
                    exact q_Ru_ret rfl rfl
                  show q_Ru _ _ _ (37, [(0, .ref 64), (1, .int 3841), (2, .int v)], [.int 0], (q_cM q_AM (q_uI q_IM 0 39 0) q_J0, 34, 31630)) _
                  refine q_Ru_seg (g2 := (41, [(3, .int 0), (0, .ref 64), (1, .int 3841), (2, .int v)], [.int v, .int 3841, .ref 64], (q_cM q_AM (q_uI q_IM 0 39 0) q_J0, 34, 31630))) 4 (fun _ _ => rfl) ?_
                  refine q_Ru_call (v := none) (h2 := (q_cM A36 (q_uI q_IM 0 39 0) q_J0, 34, 31630)) rfl rfl ?_ ?_
                  · exact p36.le (Nat.le_of_ble_eq_true rfl)
                  show q_Ru _ _ _ (44, [(3, .int 0), (0, .ref 64), (1, .int 3841), (2, .int v)], [], (q_cM A36 (q_uI q_IM 0 39 0) q_J0, 34, 31630)) _
                  refine q_Ru_seg (g2 := (45, [(3, .int 0), (0, .ref 64), (1, .int 3841), (2, .int v)], [.ref 64], (q_cM A36 (q_uI q_IM 0 39 0) q_J0, 34, 31630))) 1 (fun _ _ => rfl) ?_
                  refine q_Ru_call (v := none) (h2 := (q_cM A36 (q_uI q_IM 0 39 0) q_J0, 34, 31630)) rfl rfl ?_ ?_
                  · refine q_Ca_of (Nat.le_of_ble_eq_true rfl) ?_
                    refine q_Ru_seg (g2 := (17, [(0, .ref 64)], [], (q_cM A36 (q_uI q_IM 0 39 0) q_J0, 34, 31630))) 3 (fun _ _ => rfl) ?_
                    exact q_Ru_ret rfl rfl
                  show q_Ru _ _ _ (48, [(3, .int 0), (0, .ref 64), (1, .int 3841), (2, .int v)], [], (q_cM A36 (q_uI q_IM 0 39 0) q_J0, 34, 31630)) _
                  refine q_Ru_seg (g2 := (49, [(3, .int 0), (0, .ref 64), (1, .int 3841), (2, .int v)], [.int 0], (q_cM A36 (q_uI q_IM 0 39 0) q_J0, 34, 31630))) 1 (fun _ _ => rfl) ?_
                  exact q_Ru_ret rfl rfl
              | 2, _, e249 =>
                have e249 : a = 3842 := e249
                subst e249
                obtain ⟨A37, I37, p37⟩ := q_p_write q_AX q_IX (40) (26520) 3842 v
                obtain ⟨A38, p38⟩ := q_p_writes q_AM (q_uI q_IM 0 39 0) (34) (31630) 3842 v (by decide) (by decide)
                refine ⟨0, 0, 0, ⟨(q_cX A37 I37 (q_uA q_J0 39 (vp_updL (fun _ => 0) 0 0)), 40, 26520), (q_uA q_J0 39 (vp_updL (fun _ => 0) 0 0)) 39, ?_, rfl, fun _ => rfl, Nat.le_of_ble_eq_true rfl, Nat.le_of_ble_eq_true rfl⟩, ⟨(q_cM A38 (q_uI q_IM 0 39 0) q_J0, 34, 31630), _, ?_, rfl, rfl, Nat.le_of_ble_eq_true rfl, Nat.le_of_ble_eq_true rfl⟩, fun _ => rfl⟩
                · refine q_Ca_of (Nat.le_of_ble_eq_true rfl) ?_
                  refine q_Ru_seg (g2 := (5, [(0, .ref 64), (1, .int 3842), (2, .int v), (3, .ref 103)], [.int v, .int 3842, .ref 64, .int 0, .ref 103], (q_cX q_AX q_IX q_J0, 40, 26520))) 5 (fun _ _ => rfl) ?_
                  refine q_Ru_call (v := (some (.int 0))) (h2 := (q_cX A37 I37 q_J0, 40, 26520)) rfl rfl ?_ ?_
                  · refine q_Ca_of (Nat.le_of_ble_eq_true rfl) ?_
                    refine q_Ru_seg (g2 := (1, [(0, .ref 64), (1, .int 3842), (2, .int v)], [.int 3842], (q_cX q_AX q_IX q_J0, 40, 26520))) 1 (fun _ _ => rfl) ?_
                    refine q_Ru_call (v := none) (h2 := (q_cX q_AX q_IX q_J0, 40, 26520)) rfl rfl ?_ ?_
                    · refine q_Ca_of (Nat.le_of_ble_eq_true rfl) ?_
                      refine q_Ru_seg (g2 := (4, [(0, .int 3842)], [.int 4096, .int 3842], (q_cX q_AX q_IX q_J0, 40, 26520))) 2 (fun _ _ => rfl) ?_
                      refine q_Ru_call (v := none) (h2 := (q_cX q_AX q_IX q_J0, 40, 26520)) rfl rfl ?_ ?_
                      · refine q_Ca_of (Nat.le_of_ble_eq_true rfl) ?_
                        refine q_Ru_seg (g2 := (19, [(0, .int 3842), (1, .int 4096)], [], (q_cX q_AX q_IX q_J0, 40, 26520))) 5 (fun _ _ => rfl) ?_
                        exact q_Ru_ret rfl rfl
                      show q_Ru _ _ _ (7, [(0, .int 3842)], [], (q_cX q_AX q_IX q_J0, 40, 26520)) _
                      exact q_Ru_ret rfl rfl
                    show q_Ru _ _ _ (4, [(0, .ref 64), (1, .int 3842), (2, .int v)], [], (q_cX q_AX q_IX q_J0, 40, 26520)) _
                    refine q_Ru_seg (g2 := (5, [(0, .ref 64), (1, .int 3842), (2, .int v)], [.int v], (q_cX q_AX q_IX q_J0, 40, 26520))) 1 (fun _ _ => rfl) ?_
                    refine q_Ru_call (v := none) (h2 := (q_cX q_AX q_IX q_J0, 40, 26520)) rfl rfl ?_ ?_
                    · refine q_Ca_of (Nat.le_of_ble_eq_true rfl) ?_
                      refine q_Ru_seg (g2 := (5, [(0, .int v)], [.int 255, .int 0, .int v], (q_cX q_AX q_IX q_J0, 40, 26520))) 3 (fun _ _ => rfl) ?_
                      refine q_Ru_call (v := none) (h2 := (q_cX q_AX q_IX q_J0, 40, 26520)) rfl rfl ?_ ?_
                      · refine q_Ca_of (Nat.le_of_ble_eq_true rfl) ?_
                        refine q_Ru_seg (g2 := (2, [(0, .int v), (1, .int 0), (2, .int 255)], [.int 0, .int v], (q_cX q_AX q_IX q_J0, 40, 26520))) 2 (fun _ _ => rfl) ?_
                        refine q_Ru_rsF (g2 := (5, [(0, .int v), (1, .int 0), (2, .int 255)], [], (q_cX q_AX q_IX q_J0, 40, 26520))) rfl rfl h233 ?_
                        refine q_Ru_seg (g2 := (7, [(0, .int v), (1, .int 0), (2, .int 255)], [.int 255, .int v], (q_cX q_AX q_IX q_J0, 40, 26520))) 2 (fun _ _ => rfl) ?_
                        refine q_Ru_rsT (g2 := (20, [(0, .int v), (1, .int 0), (2, .int 255)], [], (q_cX q_AX q_IX q_J0, 40, 26520))) rfl rfl (q_d_geF h235) ?_
                        exact q_Ru_ret rfl rfl
                      show q_Ru _ _ _ (8, [(0, .int v)], [], (q_cX q_AX q_IX q_J0, 40, 26520)) _
                      exact q_Ru_ret rfl rfl
                    show q_Ru _ _ _ (8, [(0, .ref 64), (1, .int 3842), (2, .int v)], [], (q_cX q_AX q_IX q_J0, 40, 26520)) _
                    refine q_Ru_seg (g2 := (13, [(0, .ref 64), (1, .int 3842), (2, .int v)], [.int 0, .int v, .int 3842, .int 0, .ref 64], (q_cX q_AX q_IX q_J0, 40, 26520))) 5 (fun _ _ => rfl) ?_
                    refine q_Ru_call (v := none) (h2 := (q_cX q_AX q_IX q_J0, 40, 26520)) rfl rfl ?_ ?_
                    · refine q_Ca_of (Nat.le_of_ble_eq_true rfl) ?_
                      refine q_Ru_seg (g2 := (19, [(0, .ref 64), (1, .int 0), (2, .int 3842), (3, .int v), (4, .int 0)], [], (q_cX q_AX q_IX q_J0, 40, 26520))) 3 (fun _ _ => rfl) ?_
                      exact q_Ru_ret rfl rfl
                    show q_Ru _ _ _ (16, [(0, .ref 64), (1, .int 3842), (2, .int v)], [], (q_cX q_AX q_IX q_J0, 40, 26520)) _
                    refine q_Ru_seg (g2 := (24, [(0, .ref 64), (1, .int 3842), (2, .int v)], [.int 0, .int v, .int 3842, .int 0, .ref 65], (q_cX q_AX q_IX q_J0, 40, 26520))) 6 (fun _ _ => rfl) ?_
                    refine q_Ru_call (v := (some (.int 0))) (h2 := (q_cX A37 I37 q_J0, 40, 26520)) rfl rfl ?_ ?_
                    · refine q_Ca_of (Nat.le_of_ble_eq_true rfl) ?_
                      refine q_Ru_seg (g2 := (74, [(0, .ref 65), (1, .int 0), (2, .int 3842), (3, .int v), (4, .int 0)], [.int v, .int 3842, .ref 66], (q_cX q_AX q_IX q_J0, 40, 26520))) 6 (fun _ _ => rfl) ?_
                      refine q_Ru_call (v := (some (.int 0))) (h2 := (q_cX A37 I37 q_J0, 40, 26520)) rfl rfl ?_ ?_
                      · refine q_Ca_of (Nat.le_of_ble_eq_true rfl) ?_
                        refine q_Ru_seg (g2 := (2, [(0, .ref 66), (1, .int 3842), (2, .int v)], [.int 3842, .ref 66], (q_cX q_AX q_IX q_J0, 40, 26520))) 2 (fun _ _ => rfl) ?_
                        refine q_Ru_call (v := (some (.int 0))) (h2 := (q_cX q_AX q_IX q_J0, 40, 26520)) rfl rfl ?_ ?_
                        · refine q_Ca_of (Nat.le_of_ble_eq_true rfl) ?_
                          refine q_Ru_seg (g2 := (27, [(2, .int 2), (0, .ref 66), (1, .int 3842)], [.int 0, .int 2, .ref 66], (q_cX q_AX q_IX q_J0, 40, 26520))) 16 (fun _ _ => rfl) ?_
                          refine q_Ru_call (v := (some (.int 0))) (h2 := (q_cX q_AX q_IX q_J0, 40, 26520)) rfl rfl ?_ ?_
                          · refine q_Ca_of (Nat.le_of_ble_eq_true rfl) ?_
                            refine q_Ru_seg (g2 := (183, [(0, .ref 66), (1, .int 2), (2, .int 0)], [.int 0], (q_cX q_AX q_IX q_J0, 40, 26520))) 3 (fun _ _ => rfl) ?_
                            exact q_Ru_ret rfl rfl
                          show q_Ru _ _ _ (30, [(2, .int 2), (0, .ref 66), (1, .int 3842)], [.int 0], (q_cX q_AX q_IX q_J0, 40, 26520)) _
                          exact q_Ru_ret rfl rfl
                        show q_Ru _ _ _ (5, [(0, .ref 66), (1, .int 3842), (2, .int v)], [.int 0], (q_cX q_AX q_IX q_J0, 40, 26520)) _
                        refine q_Ru_seg (g2 := (9, [(3, .int 0), (0, .ref 66), (1, .int 3842), (2, .int v)], [.int v, .int 3842, .ref 66], (q_cX q_AX q_IX q_J0, 40, 26520))) 4 (fun _ _ => rfl) ?_
                        refine q_Ru_call (v := none) (h2 := (q_cX A37 I37 q_J0, 40, 26520)) rfl rfl ?_ ?_
                        · exact p37.le (Nat.le_of_ble_eq_true rfl)
                        show q_Ru _ _ _ (12, [(3, .int 0), (0, .ref 66), (1, .int 3842), (2, .int v)], [], (q_cX A37 I37 q_J0, 40, 26520)) _
                        refine q_Ru_seg (g2 := (13, [(3, .int 0), (0, .ref 66), (1, .int 3842), (2, .int v)], [.int 0], (q_cX A37 I37 q_J0, 40, 26520))) 1 (fun _ _ => rfl) ?_
                        exact q_Ru_ret rfl rfl
                      show q_Ru _ _ _ (77, [(0, .ref 65), (1, .int 0), (2, .int 3842), (3, .int v), (4, .int 0)], [.int 0], (q_cX A37 I37 q_J0, 40, 26520)) _
                      exact q_Ru_ret rfl rfl
                    show q_Ru _ _ _ (27, [(0, .ref 64), (1, .int 3842), (2, .int v)], [.int 0], (q_cX A37 I37 q_J0, 40, 26520)) _
                    exact q_Ru_ret rfl rfl
                  show q_Ru _ _ _ (8, [(0, .ref 64), (1, .int 3842), (2, .int v), (3, .ref 103)], [.int 0, .int 0, .ref 103], (q_cX A37 I37 q_J0, 40, 26520)) _
                  refine q_Ru_seg (g2 := (22, [(0, .ref 64), (1, .int 3842), (2, .int v), (3, .ref 103)], [.int 0], (q_cX A37 I37 (q_uA q_J0 39 (vp_updL (fun _ => 0) 0 0)), 40, 26520))) 4 (fun _ _ => rfl) ?_
                  exact q_Ru_ret rfl rfl
                · refine q_Ca_of (Nat.le_of_ble_eq_true rfl) ?_
                  refine q_Ru_seg (g2 := (2, [(0, .ref 64), (1, .int 3842), (2, .int v)], [.int 3842, .ref 64], (q_cM q_AM q_IM q_J0, 34, 31630))) 2 (fun _ _ => rfl) ?_
                  refine q_Ru_call (v := (some (.int 0))) (h2 := (q_cM q_AM q_IM q_J0, 34, 31630)) rfl rfl ?_ ?_
                  · refine q_Ca_of (Nat.le_of_ble_eq_true rfl) ?_
                    refine q_Ru_seg (g2 := (5, [(0, .int 3842)], [.int 4095, .int 0, .int 3842], (q_cM q_AM q_IM q_J0, 34, 31630))) 3 (fun _ _ => rfl) ?_
                    refine q_Ru_call (v := (some (.int 1))) (h2 := (q_cM q_AM q_IM q_J0, 34, 31630)) rfl rfl ?_ ?_
                    · refine q_Ca_of (Nat.le_of_ble_eq_true rfl) ?_
                      refine q_Ru_seg (g2 := (15, [(0, .int 3842), (1, .int 0), (2, .int 4095)], [.int 1], (q_cM q_AM q_IM q_J0, 34, 31630))) 8 (fun _ _ => rfl) ?_
                      exact q_Ru_ret rfl rfl
                    show q_Ru _ _ _ (8, [(0, .int 3842)], [.int 1], (q_cM q_AM q_IM q_J0, 34, 31630)) _
                    refine q_Ru_seg (g2 := (16, [(0, .int 3842)], [.int 0], (q_cM q_AM q_IM q_J0, 34, 31630))) 2 (fun _ _ => rfl) ?_
                    exact q_Ru_ret rfl rfl
                  show q_Ru _ _ _ (5, [(0, .ref 64), (1, .int 3842), (2, .int v)], [.int 0, .ref 64], (q_cM q_AM q_IM q_J0, 34, 31630)) _
                  refine q_Ru_seg (g2 := (13, [(0, .ref 64), (1, .int 3842), (2, .int v)], [.int v, .ref 64], (q_cM q_AM q_IM q_J0, 34, 31630))) 2 (fun _ _ => rfl) ?_
                  refine q_Ru_call (v := (some (.int 0))) (h2 := (q_cM q_AM q_IM q_J0, 34, 31630)) rfl rfl ?_ ?_
                  · refine q_Ca_of (Nat.le_of_ble_eq_true rfl) ?_
                    refine q_Ru_seg (g2 := (5, [(0, .int v)], [.int 255, .int 0, .int v], (q_cM q_AM q_IM q_J0, 34, 31630))) 3 (fun _ _ => rfl) ?_
                    refine q_Ru_call (v := (some (.int 1))) (h2 := (q_cM q_AM q_IM q_J0, 34, 31630)) rfl rfl ?_ ?_
                    · refine q_Ca_of (Nat.le_of_ble_eq_true rfl) ?_
                      refine q_Ru_seg (g2 := (2, [(0, .int v), (1, .int 0), (2, .int 255)], [.int 0, .int v], (q_cM q_AM q_IM q_J0, 34, 31630))) 2 (fun _ _ => rfl) ?_
                      refine q_Ru_rsF (g2 := (5, [(0, .int v), (1, .int 0), (2, .int 255)], [], (q_cM q_AM q_IM q_J0, 34, 31630))) rfl rfl h233 ?_
                      refine q_Ru_seg (g2 := (7, [(0, .int v), (1, .int 0), (2, .int 255)], [.int 255, .int v], (q_cM q_AM q_IM q_J0, 34, 31630))) 2 (fun _ _ => rfl) ?_
                      refine q_Ru_rsF (g2 := (10, [(0, .int v), (1, .int 0), (2, .int 255)], [], (q_cM q_AM q_IM q_J0, 34, 31630))) rfl rfl h235 ?_
                      refine q_Ru_seg (g2 := (15, [(0, .int v), (1, .int 0), (2, .int 255)], [.int 1], (q_cM q_AM q_IM q_J0, 34, 31630))) 2 (fun _ _ => rfl) ?_
                      exact q_Ru_ret rfl rfl
                    show q_Ru _ _ _ (8, [(0, .int v)], [.int 1], (q_cM q_AM q_IM q_J0, 34, 31630)) _
                    refine q_Ru_seg (g2 := (16, [(0, .int v)], [.int 0], (q_cM q_AM q_IM q_J0, 34, 31630))) 2 (fun _ _ => rfl) ?_
                    exact q_Ru_ret rfl rfl
                  show q_Ru _ _ _ (16, [(0, .ref 64), (1, .int 3842), (2, .int v)], [.int 0, .ref 64], (q_cM q_AM q_IM q_J0, 34, 31630)) _
                  refine q_Ru_seg (g2 := (24, [(0, .ref 64), (1, .int 3842), (2, .int v)], [.int 0, .ref 64], (q_cM q_AM q_IM q_J0, 34, 31630))) 2 (fun _ _ => rfl) ?_
                  refine q_Ru_call (v := (some (.int 0))) (h2 := (q_cM q_AM (q_uI q_IM 0 39 0) q_J0, 34, 31630)) rfl rfl ?_ ?_
                  · refine q_Ca_of (Nat.le_of_ble_eq_true rfl) ?_
                    refine q_Ru_seg (g2 := (14, [(0, .ref 64), (1, .int 0)], [.int 0], (q_cM q_AM (q_uI q_IM 0 39 0) q_J0, 34, 31630))) 6 (fun _ _ => rfl) ?_
                    exact q_Ru_ret rfl rfl
                  show q_Ru _ _ _ (27, [(0, .ref 64), (1, .int 3842), (2, .int v)], [.int 0], (q_cM q_AM (q_uI q_IM 0 39 0) q_J0, 34, 31630)) _
                  refine q_Ru_seg (g2 := (34, [(0, .ref 64), (1, .int 3842), (2, .int v)], [.int 3842, .ref 64], (q_cM q_AM (q_uI q_IM 0 39 0) q_J0, 34, 31630))) 3 (fun _ _ => rfl) ?_
                  refine q_Ru_call (v := (some (.int 0))) (h2 := (q_cM q_AM (q_uI q_IM 0 39 0) q_J0, 34, 31630)) rfl rfl ?_ ?_
                  · refine q_Ca_of (Nat.le_of_ble_eq_true rfl) ?_
                    refine q_Ru_seg (g2 := (7, [(0, .ref 64), (1, .int 3842)], [.int 3887, .int 3840, .int 3842], (q_cM q_AM (q_uI q_IM 0 39 0) q_J0, 34, 31630))) 3 (fun _ _ => rfl) ?_
                    refine q_Ru_call (v := (some (.int 1))) (h2 := (q_cM q_AM (q_uI q_IM 0 39 0) q_J0, 34, 31630)) rfl rfl ?_ ?_
                    · refine q_Ca_of (Nat.le_of_ble_eq_true rfl) ?_
                      refine q_Ru_seg (g2 := (15, [(0, .int 3842), (1, .int 3840), (2, .int 3887)], [.int 1], (q_cM q_AM (q_uI q_IM 0 39 0) q_J0, 34, 31630))) 8 (fun _ _ => rfl) ?_
                      exact q_Ru_ret rfl rfl
                    show q_Ru _ _ _ (10, [(0, .ref 64), (1, .int 3842)], [.int 1], (q_cM q_AM (q_uI q_IM 0 39 0) q_J0, 34, 31630)) _
                    refine q_Ru_seg (g2 := (19, [(0, .ref 64), (1, .int 3842)], [.int 2, .ref 64], (q_cM q_AM (q_uI q_IM 0 39 0) q_J0, 34, 31630))) 5 (fun _ _ => rfl) ?_
                    refine q_Ru_call (v := (some (.int 0))) (h2 := (q_cM q_AM (q_uI q_IM 0 39 0) q_J0, 34, 31630)) rfl rfl ?_ ?_
                    · refine q_Ca_of (Nat.le_of_ble_eq_true rfl) ?_
                      refine q_Ru_seg (g2 := (30, [(0, .ref 64), (1, .int 2)], [.int 15, .int 12, .int 2], (q_cM q_AM (q_uI q_IM 0 39 0) q_J0, 34, 31630))) 9 (fun _ _ => rfl) ?_
                      refine q_Ru_call (v := (some (.int 0))) (h2 := (q_cM q_AM (q_uI q_IM 0 39 0) q_J0, 34, 31630)) rfl rfl ?_ ?_
                      · refine q_Ca_of (Nat.le_of_ble_eq_true rfl) ?_
                        refine q_Ru_seg (g2 := (15, [(0, .int 2), (1, .int 12), (2, .int 15)], [.int 0], (q_cM q_AM (q_uI q_IM 0 39 0) q_J0, 34, 31630))) 4 (fun _ _ => rfl) ?_
                        exact q_Ru_ret rfl rfl
                      show q_Ru _ _ _ (33, [(0, .ref 64), (1, .int 2)], [.int 0], (q_cM q_AM (q_uI q_IM 0 39 0) q_J0, 34, 31630)) _
                      refine q_Ru_seg (g2 := (190, [(0, .ref 64), (1, .int 2)], [.int 0], (q_cM q_AM (q_uI q_IM 0 39 0) q_J0, 34, 31630))) 20 (fun _ _ => rfl) ?_
                      exact q_Ru_ret rfl rfl
                    show q_Ru _ _ _ (22, [(0, .ref 64), (1, .int 3842)], [.int 0], (q_cM q_AM (q_uI q_IM 0 39 0) q_J0, 34, 31630)) _
                    exact q_Ru_ret rfl rfl
                  show q_Ru _ _ _ (37, [(0, .ref 64), (1, .int 3842), (2, .int v)], [.int 0], (q_cM q_AM (q_uI q_IM 0 39 0) q_J0, 34, 31630)) _
                  refine q_Ru_seg (g2 := (41, [(3, .int 0), (0, .ref 64), (1, .int 3842), (2, .int v)], [.int v, .int 3842, .ref 64], (q_cM q_AM (q_uI q_IM 0 39 0) q_J0, 34, 31630))) 4 (fun _ _ => rfl) ?_
                  refine q_Ru_call (v := none) (h2 := (q_cM A38 (q_uI q_IM 0 39 0) q_J0, 34, 31630)) rfl rfl ?_ ?_
                  · exact p38.le (Nat.le_of_ble_eq_true rfl)
                  show q_Ru _ _ _ (44, [(3, .int 0), (0, .ref 64), (1, .int 3842), (2, .int v)], [], (q_cM A38 (q_uI q_IM 0 39 0) q_J0, 34, 31630)) _
                  refine q_Ru_seg (g2 := (45, [(3, .int 0), (0, .ref 64), (1, .int 3842), (2, .int v)], [.ref 64], (q_cM A38 (q_uI q_IM 0 39 0) q_J0, 34, 31630))) 1 (fun _ _ => rfl) ?_
                  refine q_Ru_call (v := none) (h2 := (q_cM A38 (q_uI q_IM 0 39 0) q_J0, 34, 31630)) rfl rfl ?_ ?_
                  · refine q_Ca_of (Nat.le_of_ble_eq_true rfl) ?_
                    refine q_Ru_seg (g2 := (17, [(0, .ref 64)], [], (q_cM A38 (q_uI q_IM 0 39 0) q_J0, 34, 31630))) 3 (fun _ _ => rfl) ?_
                    exact q_Ru_ret rfl rfl
                  show q_Ru _ _ _ (48, [(3, .int 0), (0, .ref 64), (1, .int 3842), (2, .int v)], [], (q_cM A38 (q_uI q_IM 0 39 0) q_J0, 34, 31630)) _
                  refine q_Ru_seg (g2 := (49, [(3, .int 0), (0, .ref 64), (1, .int 3842), (2, .int v)], [.int 0], (q_cM A38 (q_uI q_IM 0 39 0) q_J0, 34, 31630))) 1 (fun _ _ => rfl) ?_
                  exact q_Ru_ret rfl rfl
              | 3, _, e249 =>
                have e249 : a = 3843 := e249
                subst e249
                obtain ⟨A39, I39, p39⟩ := q_p_write q_AX q_IX (40) (26520) 3843 v
                obtain ⟨A40, p40⟩ := q_p_writes q_AM (q_uI q_IM 0 39 0) (34) (31630) 3843 v (by decide) (by decide)
                refine ⟨0, 0, 0, ⟨(q_cX A39 I39 (q_uA q_J0 39 (vp_updL (fun _ => 0) 0 0)), 40, 26520), (q_uA q_J0 39 (vp_updL (fun _ => 0) 0 0)) 39, ?_, rfl, fun _ => rfl, Nat.le_of_ble_eq_true rfl, Nat.le_of_ble_eq_true rfl⟩, ⟨(q_cM A40 (q_uI q_IM 0 39 0) q_J0, 34, 31630), _, ?_, rfl, rfl, Nat.le_of_ble_eq_true rfl, Nat.le_of_ble_eq_true rfl⟩, fun _ => rfl⟩
                · refine q_Ca_of (Nat.le_of_ble_eq_true rfl) ?_
                  refine q_Ru_seg (g2 := (5, [(0, .ref 64), (1, .int 3843), (2, .int v), (3, .ref 103)], [.int v, .int 3843, .ref 64, .int 0, .ref 103], (q_cX q_AX q_IX q_J0, 40, 26520))) 5 (fun _ _ => rfl) ?_
                  refine q_Ru_call (v := (some (.int 0))) (h2 := (q_cX A39 I39 q_J0, 40, 26520)) rfl rfl ?_ ?_
                  · refine q_Ca_of (Nat.le_of_ble_eq_true rfl) ?_
                    refine q_Ru_seg (g2 := (1, [(0, .ref 64), (1, .int 3843), (2, .int v)], [.int 3843], (q_cX q_AX q_IX q_J0, 40, 26520))) 1 (fun _ _ => rfl) ?_
                    refine q_Ru_call (v := none) (h2 := (q_cX q_AX q_IX q_J0, 40, 26520)) rfl rfl ?_ ?_
                    · refine q_Ca_of (Nat.le_of_ble_eq_true rfl) ?_
                      refine q_Ru_seg (g2 := (4, [(0, .int 3843)], [.int 4096, .int 3843], (q_cX q_AX q_IX q_J0, 40, 26520))) 2 (fun _ _ => rfl) ?_
                      refine q_Ru_call (v := none) (h2 := (q_cX q_AX q_IX q_J0, 40, 26520)) rfl rfl ?_ ?_
                      · refine q_Ca_of (Nat.le_of_ble_eq_true rfl) ?_
                        refine q_Ru_seg (g2 := (19, [(0, .int 3843), (1, .int 4096)], [], (q_cX q_AX q_IX q_J0, 40, 26520))) 5 (fun _ _ => rfl) ?_
                        exact q_Ru_ret rfl rfl
                      show q_Ru _ _ _ (7, [(0, .int 3843)], [], (q_cX q_AX q_IX q_J0, 40, 26520)) _
                      exact q_Ru_ret rfl rfl
                    show q_Ru _ _ _ (4, [(0, .ref 64), (1, .int 3843), (2, .int v)], [], (q_cX q_AX q_IX q_J0, 40, 26520)) _
                    refine q_Ru_seg (g2 := (5, [(0, .ref 64), (1, .int 3843), (2, .int v)], [.int v], (q_cX q_AX q_IX q_J0, 40, 26520))) 1 (fun _ _ => rfl) ?_
                    refine q_Ru_call (v := none) (h2 := (q_cX q_AX q_IX q_J0, 40, 26520)) rfl rfl ?_ ?_
                    · refine q_Ca_of (Nat.le_of_ble_eq_true rfl) ?_
                      refine q_Ru_seg (g2 := (5, [(0, .int v)], [.int 255, .int 0, .int v], (q_cX q_AX q_IX q_J0, 40, 26520))) 3 (fun _ _ => rfl) ?_
                      refine q_Ru_call (v := none) (h2 := (q_cX q_AX q_IX q_J0, 40, 26520)) rfl rfl ?_ ?_
                      · refine q_Ca_of (Nat.le_of_ble_eq_true rfl) ?_
                        refine q_Ru_seg (g2 := (2, [(0, .int v), (1, .int 0), (2, .int 255)], [.int 0, .int v], (q_cX q_AX q_IX q_J0, 40, 26520))) 2 (fun _ _ => rfl) ?_
                        refine q_Ru_rsF (g2 := (5, [(0, .int v), (1, .int 0), (2, .int 255)], [], (q_cX q_AX q_IX q_J0, 40, 26520))) rfl rfl h233 ?_
                        refine q_Ru_seg (g2 := (7, [(0, .int v), (1, .int 0), (2, .int 255)], [.int 255, .int v], (q_cX q_AX q_IX q_J0, 40, 26520))) 2 (fun _ _ => rfl) ?_
                        refine q_Ru_rsT (g2 := (20, [(0, .int v), (1, .int 0), (2, .int 255)], [], (q_cX q_AX q_IX q_J0, 40, 26520))) rfl rfl (q_d_geF h235) ?_
                        exact q_Ru_ret rfl rfl
                      show q_Ru _ _ _ (8, [(0, .int v)], [], (q_cX q_AX q_IX q_J0, 40, 26520)) _
                      exact q_Ru_ret rfl rfl
                    show q_Ru _ _ _ (8, [(0, .ref 64), (1, .int 3843), (2, .int v)], [], (q_cX q_AX q_IX q_J0, 40, 26520)) _
                    refine q_Ru_seg (g2 := (13, [(0, .ref 64), (1, .int 3843), (2, .int v)], [.int 0, .int v, .int 3843, .int 0, .ref 64], (q_cX q_AX q_IX q_J0, 40, 26520))) 5 (fun _ _ => rfl) ?_
                    refine q_Ru_call (v := none) (h2 := (q_cX q_AX q_IX q_J0, 40, 26520)) rfl rfl ?_ ?_
                    · refine q_Ca_of (Nat.le_of_ble_eq_true rfl) ?_
                      refine q_Ru_seg (g2 := (19, [(0, .ref 64), (1, .int 0), (2, .int 3843), (3, .int v), (4, .int 0)], [], (q_cX q_AX q_IX q_J0, 40, 26520))) 3 (fun _ _ => rfl) ?_
                      exact q_Ru_ret rfl rfl
                    show q_Ru _ _ _ (16, [(0, .ref 64), (1, .int 3843), (2, .int v)], [], (q_cX q_AX q_IX q_J0, 40, 26520)) _
                    refine q_Ru_seg (g2 := (24, [(0, .ref 64), (1, .int 3843), (2, .int v)], [.int 0, .int v, .int 3843, .int 0, .ref 65], (q_cX q_AX q_IX q_J0, 40, 26520))) 6 (fun _ _ => rfl) ?_
                    refine q_Ru_call (v := (some (.int 0))) (h2 := (q_cX A39 I39 q_J0, 40, 26520)) rfl rfl ?_ ?_
                    · refine q_Ca_of (Nat.le_of_ble_eq_true rfl) ?_
                      refine q_Ru_seg (g2 := (74, [(0, .ref 65), (1, .int 0), (2, .int 3843), (3, .int v), (4, .int 0)], [.int v, .int 3843, .ref 66], (q_cX q_AX q_IX q_J0, 40, 26520))) 6 (fun _ _ => rfl) ?_
                      refine q_Ru_call (v := (some (.int 0))) (h2 := (q_cX A39 I39 q_J0, 40, 26520)) rfl rfl ?_ ?_
                      · refine q_Ca_of (Nat.le_of_ble_eq_true rfl) ?_
                        refine q_Ru_seg (g2 := (2, [(0, .ref 66), (1, .int 3843), (2, .int v)], [.int 3843, .ref 66], (q_cX q_AX q_IX q_J0, 40, 26520))) 2 (fun _ _ => rfl) ?_
                        refine q_Ru_call (v := (some (.int 0))) (h2 := (q_cX q_AX q_IX q_J0, 40, 26520)) rfl rfl ?_ ?_
                        · refine q_Ca_of (Nat.le_of_ble_eq_true rfl) ?_
                          refine q_Ru_seg (g2 := (27, [(2, .int 3), (0, .ref 66), (1, .int 3843)], [.int 0, .int 3, .ref 66], (q_cX q_AX q_IX q_J0, 40, 26520))) 16 (fun _ _ => rfl) ?_
                          refine q_Ru_call (v := (some (.int 0))) (h2 := (q_cX q_AX q_IX q_J0, 40, 26520)) rfl rfl ?_ ?_
                          · refine q_Ca_of (Nat.le_of_ble_eq_true rfl) ?_
                            refine q_Ru_seg (g2 := (183, [(0, .ref 66), (1, .int 3), (2, .int 0)], [.int 0], (q_cX q_AX q_IX q_J0, 40, 26520))) 3 (fun _ _ => rfl) ?_
                            exact q_Ru_ret rfl rfl
                          show q_Ru _ _ _ (30, [(2, .int 3), (0, .ref 66), (1, .int 3843)], [.int 0], (q_cX q_AX q_IX q_J0, 40, 26520)) _
                          exact q_Ru_ret rfl rfl
                        show q_Ru _ _ _ (5, [(0, .ref 66), (1, .int 3843), (2, .int v)], [.int 0], (q_cX q_AX q_IX q_J0, 40, 26520)) _
                        refine q_Ru_seg (g2 := (9, [(3, .int 0), (0, .ref 66), (1, .int 3843), (2, .int v)], [.int v, .int 3843, .ref 66], (q_cX q_AX q_IX q_J0, 40, 26520))) 4 (fun _ _ => rfl) ?_
                        refine q_Ru_call (v := none) (h2 := (q_cX A39 I39 q_J0, 40, 26520)) rfl rfl ?_ ?_
                        · exact p39.le (Nat.le_of_ble_eq_true rfl)
                        show q_Ru _ _ _ (12, [(3, .int 0), (0, .ref 66), (1, .int 3843), (2, .int v)], [], (q_cX A39 I39 q_J0, 40, 26520)) _
                        refine q_Ru_seg (g2 := (13, [(3, .int 0), (0, .ref 66), (1, .int 3843), (2, .int v)], [.int 0], (q_cX A39 I39 q_J0, 40, 26520))) 1 (fun _ _ => rfl) ?_
                        exact q_Ru_ret rfl rfl
                      show q_Ru _ _ _ (77, [(0, .ref 65), (1, .int 0), (2, .int 3843), (3, .int v), (4, .int 0)], [.int 0], (q_cX A39 I39 q_J0, 40, 26520)) _
                      exact q_Ru_ret rfl rfl
                    show q_Ru _ _ _ (27, [(0, .ref 64), (1, .int 3843), (2, .int v)], [.int 0], (q_cX A39 I39 q_J0, 40, 26520)) _
                    exact q_Ru_ret rfl rfl
                  show q_Ru _ _ _ (8, [(0, .ref 64), (1, .int 3843), (2, .int v), (3, .ref 103)], [.int 0, .int 0, .ref 103], (q_cX A39 I39 q_J0, 40, 26520)) _
                  refine q_Ru_seg (g2 := (22, [(0, .ref 64), (1, .int 3843), (2, .int v), (3, .ref 103)], [.int 0], (q_cX A39 I39 (q_uA q_J0 39 (vp_updL (fun _ => 0) 0 0)), 40, 26520))) 4 (fun _ _ => rfl) ?_
                  exact q_Ru_ret rfl rfl
                · refine q_Ca_of (Nat.le_of_ble_eq_true rfl) ?_
                  refine q_Ru_seg (g2 := (2, [(0, .ref 64), (1, .int 3843), (2, .int v)], [.int 3843, .ref 64], (q_cM q_AM q_IM q_J0, 34, 31630))) 2 (fun _ _ => rfl) ?_
                  refine q_Ru_call (v := (some (.int 0))) (h2 := (q_cM q_AM q_IM q_J0, 34, 31630)) rfl rfl ?_ ?_
                  · refine q_Ca_of (Nat.le_of_ble_eq_true rfl) ?_
                    refine q_Ru_seg (g2 := (5, [(0, .int 3843)], [.int 4095, .int 0, .int 3843], (q_cM q_AM q_IM q_J0, 34, 31630))) 3 (fun _ _ => rfl) ?_
                    refine q_Ru_call (v := (some (.int 1))) (h2 := (q_cM q_AM q_IM q_J0, 34, 31630)) rfl rfl ?_ ?_
                    · refine q_Ca_of (Nat.le_of_ble_eq_true rfl) ?_
                      refine q_Ru_seg (g2 := (15, [(0, .int 3843), (1, .int 0), (2, .int 4095)], [.int 1], (q_cM q_AM q_IM q_J0, 34, 31630))) 8 (fun _ _ => rfl) ?_
                      exact q_Ru_ret rfl rfl
                    show q_Ru _ _ _ (8, [(0, .int 3843)], [.int 1], (q_cM q_AM q_IM q_J0, 34, 31630)) _
                    refine q_Ru_seg (g2 := (16, [(0, .int 3843)], [.int 0], (q_cM q_AM q_IM q_J0, 34, 31630))) 2 (fun _ _ => rfl) ?_
                    exact q_Ru_ret rfl rfl
                  show q_Ru _ _ _ (5, [(0, .ref 64), (1, .int 3843), (2, .int v)], [.int 0, .ref 64], (q_cM q_AM q_IM q_J0, 34, 31630)) _
                  refine q_Ru_seg (g2 := (13, [(0, .ref 64), (1, .int 3843), (2, .int v)], [.int v, .ref 64], (q_cM q_AM q_IM q_J0, 34, 31630))) 2 (fun _ _ => rfl) ?_
                  refine q_Ru_call (v := (some (.int 0))) (h2 := (q_cM q_AM q_IM q_J0, 34, 31630)) rfl rfl ?_ ?_
                  · refine q_Ca_of (Nat.le_of_ble_eq_true rfl) ?_
                    refine q_Ru_seg (g2 := (5, [(0, .int v)], [.int 255, .int 0, .int v], (q_cM q_AM q_IM q_J0, 34, 31630))) 3 (fun _ _ => rfl) ?_
                    refine q_Ru_call (v := (some (.int 1))) (h2 := (q_cM q_AM q_IM q_J0, 34, 31630)) rfl rfl ?_ ?_
                    · refine q_Ca_of (Nat.le_of_ble_eq_true rfl) ?_
                      refine q_Ru_seg (g2 := (2, [(0, .int v), (1, .int 0), (2, .int 255)], [.int 0, .int v], (q_cM q_AM q_IM q_J0, 34, 31630))) 2 (fun _ _ => rfl) ?_
                      refine q_Ru_rsF (g2 := (5, [(0, .int v), (1, .int 0), (2, .int 255)], [], (q_cM q_AM q_IM q_J0, 34, 31630))) rfl rfl h233 ?_
                      refine q_Ru_seg (g2 := (7, [(0, .int v), (1, .int 0), (2, .int 255)], [.int 255, .int v], (q_cM q_AM q_IM q_J0, 34, 31630))) 2 (fun _ _ => rfl) ?_
                      refine q_Ru_rsF (g2 := (10, [(0, .int v), (1, .int 0), (2, .int 255)], [], (q_cM q_AM q_IM q_J0, 34, 31630))) rfl rfl h235 ?_
                      refine q_Ru_seg (g2 := (15, [(0, .int v), (1, .int 0), (2, .int 255)], [.int 1], (q_cM q_AM q_IM q_J0, 34, 31630))) 2 (fun _ _ => rfl) ?_
                      exact q_Ru_ret rfl rfl
                    show q_Ru _ _ _ (8, [(0, .int v)], [.int 1], (q_cM q_AM q_IM q_J0, 34, 31630)) _
                    refine q_Ru_seg (g2 := (16, [(0, .int v)], [.int 0], (q_cM q_AM q_IM q_J0, 34, 31630))) 2 (fun _ _ => rfl) ?_
                    exact q_Ru_ret rfl rfl
                  show q_Ru _ _ _ (16, [(0, .ref 64), (1, .int 3843), (2, .int v)], [.int 0, .ref 64], (q_cM q_AM q_IM q_J0, 34, 31630)) _
                  refine q_Ru_seg (g2 := (24, [(0, .ref 64), (1, .int 3843), (2, .int v)], [.int 0, .ref 64], (q_cM q_AM q_IM q_J0, 34, 31630))) 2 (fun _ _ => rfl) ?_
                  refine q_Ru_call (v := (some (.int 0))) (h2 := (q_cM q_AM (q_uI q_IM 0 39 0) q_J0, 34, 31630)) rfl rfl ?_ ?_
                  · refine q_Ca_of (Nat.le_of_ble_eq_true rfl) ?_
                    refine q_Ru_seg (g2 := (14, [(0, .ref 64), (1, .int 0)], [.int 0], (q_cM q_AM (q_uI q_IM 0 39 0) q_J0, 34, 31630))) 6 (fun _ _ => rfl) ?_
                    exact q_Ru_ret rfl rfl
                  show q_Ru _ _ _ (27, [(0, .ref 64), (1, .int 3843), (2, .int v)], [.int 0], (q_cM q_AM (q_uI q_IM 0 39 0) q_J0, 34, 31630)) _
                  refine q_Ru_seg (g2 := (34, [(0, .ref 64), (1, .int 3843), (2, .int v)], [.int 3843, .ref 64], (q_cM q_AM (q_uI q_IM 0 39 0) q_J0, 34, 31630))) 3 (fun _ _ => rfl) ?_
                  refine q_Ru_call (v := (some (.int 0))) (h2 := (q_cM q_AM (q_uI q_IM 0 39 0) q_J0, 34, 31630)) rfl rfl ?_ ?_
                  · refine q_Ca_of (Nat.le_of_ble_eq_true rfl) ?_
                    refine q_Ru_seg (g2 := (7, [(0, .ref 64), (1, .int 3843)], [.int 3887, .int 3840, .int 3843], (q_cM q_AM (q_uI q_IM 0 39 0) q_J0, 34, 31630))) 3 (fun _ _ => rfl) ?_
                    refine q_Ru_call (v := (some (.int 1))) (h2 := (q_cM q_AM (q_uI q_IM 0 39 0) q_J0, 34, 31630)) rfl rfl ?_ ?_
                    · refine q_Ca_of (Nat.le_of_ble_eq_true rfl) ?_
                      refine q_Ru_seg (g2 := (15, [(0, .int 3843), (1, .int 3840), (2, .int 3887)], [.int 1], (q_cM q_AM (q_uI q_IM 0 39 0) q_J0, 34, 31630))) 8 (fun _ _ => rfl) ?_
                      exact q_Ru_ret rfl rfl
                    show q_Ru _ _ _ (10, [(0, .ref 64), (1, .int 3843)], [.int 1], (q_cM q_AM (q_uI q_IM 0 39 0) q_J0, 34, 31630)) _
                    refine q_Ru_seg (g2 := (19, [(0, .ref 64), (1, .int 3843)], [.int 3, .ref 64], (q_cM q_AM (q_uI q_IM 0 39 0) q_J0, 34, 31630))) 5 (fun _ _ => rfl) ?_
                    refine q_Ru_call (v := (some (.int 0))) (h2 := (q_cM q_AM (q_uI q_IM 0 39 0) q_J0, 34, 31630)) rfl rfl ?_ ?_
                    · refine q_Ca_of (Nat.le_of_ble_eq_true rfl) ?_
                      refine q_Ru_seg (g2 := (30, [(0, .ref 64), (1, .int 3)], [.int 15, .int 12, .int 3], (q_cM q_AM (q_uI q_IM 0 39 0) q_J0, 34, 31630))) 9 (fun _ _ => rfl) ?_
                      refine q_Ru_call (v := (some (.int 0))) (h2 := (q_cM q_AM (q_uI q_IM 0 39 0) q_J0, 34, 31630)) rfl rfl ?_ ?_
                      · refine q_Ca_of (Nat.le_of_ble_eq_true rfl) ?_
                        refine q_Ru_seg (g2 := (15, [(0, .int 3), (1, .int 12), (2, .int 15)], [.int 0], (q_cM q_AM (q_uI q_IM 0 39 0) q_J0, 34, 31630))) 4 (fun _ _ => rfl) ?_
                        exact q_Ru_ret rfl rfl
                      show q_Ru _ _ _ (33, [(0, .ref 64), (1, .int 3)], [.int 0], (q_cM q_AM (q_uI q_IM 0 39 0) q_J0, 34, 31630)) _
                      refine q_Ru_seg (g2 := (190, [(0, .ref 64), (1, .int 3)], [.int 0], (q_cM q_AM (q_uI q_IM 0 39 0) q_J0, 34, 31630))) 20 (fun _ _ => rfl) ?_
                      exact q_Ru_ret rfl rfl
                    show q_Ru _ _ _ (22, [(0, .ref 64), (1, .int 3843)], [.int 0], (q_cM q_AM (q_uI q_IM 0 39 0) q_J0, 34, 31630)) _
                    exact q_Ru_ret rfl rfl
                  show q_Ru _ _ _ (37, [(0, .ref 64), (1, .int 3843), (2, .int v)], [.int 0], (q_cM q_AM (q_uI q_IM 0 39 0) q_J0, 34, 31630)) _
                  refine q_Ru_seg (g2 := (41, [(3, .int 0), (0, .ref 64), (1, .int 3843), (2, .int v)], [.int v, .int 3843, .ref 64], (q_cM q_AM (q_uI q_IM 0 39 0) q_J0, 34, 31630))) 4 (fun _ _ => rfl) ?_
                  refine q_Ru_call (v := none) (h2 := (q_cM A40 (q_uI q_IM 0 39 0) q_J0, 34, 31630)) rfl rfl ?_ ?_
                  · exact p40.le (Nat.le_of_ble_eq_true rfl)
                  show q_Ru _ _ _ (44, [(3, .int 0), (0, .ref 64), (1, .int 3843), (2, .int v)], [], (q_cM A40 (q_uI q_IM 0 39 0) q_J0, 34, 31630)) _
                  refine q_Ru_seg (g2 := (45, [(3, .int 0), (0, .ref 64), (1, .int 3843), (2, .int v)], [.ref 64], (q_cM A40 (q_uI q_IM 0 39 0) q_J0, 34, 31630))) 1 (fun _ _ => rfl) ?_
                  refine q_Ru_call (v := none) (h2 := (q_cM A40 (q_uI q_IM 0 39 0) q_J0, 34, 31630)) rfl rfl ?_ ?_
                  · refine q_Ca_of (Nat.le_of_ble_eq_true rfl) ?_
                    refine q_Ru_seg (g2 := (17, [(0, .ref 64)], [], (q_cM A40 (q_uI q_IM 0 39 0) q_J0, 34, 31630))) 3 (fun _ _ => rfl) ?_
                    exact q_Ru_ret rfl rfl
                  show q_Ru _ _ _ (48, [(3, .int 0), (0, .ref 64), (1, .int 3843), (2, .int v)], [], (q_cM A40 (q_uI q_IM 0 39 0) q_J0, 34, 31630)) _
                  refine q_Ru_seg (g2 := (49, [(3, .int 0), (0, .ref 64), (1, .int 3843), (2, .int v)], [.int 0], (q_cM A40 (q_uI q_IM 0 39 0) q_J0, 34, 31630))) 1 (fun _ _ => rfl) ?_
                  exact q_Ru_ret rfl rfl
              | 4, _, e249 =>
                have e249 : a = 3844 := e249
                subst e249
                obtain ⟨A41, I41, p41⟩ := q_p_write q_AX q_IX (40) (26520) 3844 v
                obtain ⟨A42, p42⟩ := q_p_writes q_AM (q_uI q_IM 0 39 0) (34) (31630) 3844 v (by decide) (by decide)
                refine ⟨0, 0, 0, ⟨(q_cX A41 I41 (q_uA q_J0 39 (vp_updL (fun _ => 0) 0 0)), 40, 26520), (q_uA q_J0 39 (vp_updL (fun _ => 0) 0 0)) 39, ?_, rfl, fun _ => rfl, Nat.le_of_ble_eq_true rfl, Nat.le_of_ble_eq_true rfl⟩, ⟨(q_cM A42 (q_uI q_IM 0 39 0) q_J0, 34, 31630), _, ?_, rfl, rfl, Nat.le_of_ble_eq_true rfl, Nat.le_of_ble_eq_true rfl⟩, fun _ => rfl⟩
                · refine q_Ca_of (Nat.le_of_ble_eq_true rfl) ?_
                  refine q_Ru_seg (g2 := (5, [(0, .ref 64), (1, .int 3844), (2, .int v), (3, .ref 103)], [.int v, .int 3844, .ref 64, .int 0, .ref 103], (q_cX q_AX q_IX q_J0, 40, 26520))) 5 (fun _ _ => rfl) ?_
                  refine q_Ru_call (v := (some (.int 0))) (h2 := (q_cX A41 I41 q_J0, 40, 26520)) rfl rfl ?_ ?_
                  · refine q_Ca_of (Nat.le_of_ble_eq_true rfl) ?_
                    refine q_Ru_seg (g2 := (1, [(0, .ref 64), (1, .int 3844), (2, .int v)], [.int 3844], (q_cX q_AX q_IX q_J0, 40, 26520))) 1 (fun _ _ => rfl) ?_
                    refine q_Ru_call (v := none) (h2 := (q_cX q_AX q_IX q_J0, 40, 26520)) rfl rfl ?_ ?_
                    · refine q_Ca_of (Nat.le_of_ble_eq_true rfl) ?_
                      refine q_Ru_seg (g2 := (4, [(0, .int 3844)], [.int 4096, .int 3844], (q_cX q_AX q_IX q_J0, 40, 26520))) 2 (fun _ _ => rfl) ?_
                      refine q_Ru_call (v := none) (h2 := (q_cX q_AX q_IX q_J0, 40, 26520)) rfl rfl ?_ ?_
                      · refine q_Ca_of (Nat.le_of_ble_eq_true rfl) ?_
                        refine q_Ru_seg (g2 := (19, [(0, .int 3844), (1, .int 4096)], [], (q_cX q_AX q_IX q_J0, 40, 26520))) 5 (fun _ _ => rfl) ?_
                        exact q_Ru_ret rfl rfl
                      show q_Ru _ _ _ (7, [(0, .int 3844)], [], (q_cX q_AX q_IX q_J0, 40, 26520)) _
                      exact q_Ru_ret rfl rfl
                    show q_Ru _ _ _ (4, [(0, .ref 64), (1, .int 3844), (2, .int v)], [], (q_cX q_AX q_IX q_J0, 40, 26520)) _
                    refine q_Ru_seg (g2 := (5, [(0, .ref 64), (1, .int 3844), (2, .int v)], [.int v], (q_cX q_AX q_IX q_J0, 40, 26520))) 1 (fun _ _ => rfl) ?_
                    refine q_Ru_call (v := none) (h2 := (q_cX q_AX q_IX q_J0, 40, 26520)) rfl rfl ?_ ?_
                    · refine q_Ca_of (Nat.le_of_ble_eq_true rfl) ?_
                      refine q_Ru_seg (g2 := (5, [(0, .int v)], [.int 255, .int 0, .int v], (q_cX q_AX q_IX q_J0, 40, 26520))) 3 (fun _ _ => rfl) ?_
                      refine q_Ru_call (v := none) (h2 := (q_cX q_AX q_IX q_J0, 40, 26520)) rfl rfl ?_ ?_
                      · refine q_Ca_of (Nat.le_of_ble_eq_true rfl) ?_
                        refine q_Ru_seg (g2 := (2, [(0, .int v), (1, .int 0), (2, .int 255)], [.int 0, .int v], (q_cX q_AX q_IX q_J0, 40, 26520))) 2 (fun _ _ => rfl) ?_
                        refine q_Ru_rsF (g2 := (5, [(0, .int v), (1, .int 0), (2, .int 255)], [], (q_cX q_AX q_IX q_J0, 40, 26520))) rfl rfl h233 ?_
                        refine q_Ru_seg (g2 := (7, [(0, .int v), (1, .int 0), (2, .int 255)], [.int 255, .int v], (q_cX q_AX q_IX q_J0, 40, 26520))) 2 (fun _ _ => rfl) ?_
                        refine q_Ru_rsT (g2 := (20, [(0, .int v), (1, .int 0), (2, .int 255)], [], (q_cX q_AX q_IX q_J0, 40, 26520))) rfl rfl (q_d_geF h235) ?_
                        exact q_Ru_ret rfl rfl
                      show q_Ru _ _ _ (8, [(0, .int v)], [], (q_cX q_AX q_IX q_J0, 40, 26520)) _
                      exact q_Ru_ret rfl rfl
                    show q_Ru _ _ _ (8, [(0, .ref 64), (1, .int 3844), (2, .int v)], [], (q_cX q_AX q_IX q_J0, 40, 26520)) _
                    refine q_Ru_seg (g2 := (13, [(0, .ref 64), (1, .int 3844), (2, .int v)], [.int 0, .int v, .int 3844, .int 0, .ref 64], (q_cX q_AX q_IX q_J0, 40, 26520))) 5 (fun _ _ => rfl) ?_
                    refine q_Ru_call (v := none) (h2 := (q_cX q_AX q_IX q_J0, 40, 26520)) rfl rfl ?_ ?_
                    · refine q_Ca_of (Nat.le_of_ble_eq_true rfl) ?_
                      refine q_Ru_seg (g2 := (19, [(0, .ref 64), (1, .int 0), (2, .int 3844), (3, .int v), (4, .int 0)], [], (q_cX q_AX q_IX q_J0, 40, 26520))) 3 (fun _ _ => rfl) ?_
                      exact q_Ru_ret rfl rfl
                    show q_Ru _ _ _ (16, [(0, .ref 64), (1, .int 3844), (2, .int v)], [], (q_cX q_AX q_IX q_J0, 40, 26520)) _
                    refine q_Ru_seg (g2 := (24, [(0, .ref 64), (1, .int 3844), (2, .int v)], [.int 0, .int v, .int 3844, .int 0, .ref 65], (q_cX q_AX q_IX q_J0, 40, 26520))) 6 (fun _ _ => rfl) ?_
                    refine q_Ru_call (v := (some (.int 0))) (h2 := (q_cX A41 I41 q_J0, 40, 26520)) rfl rfl ?_ ?_
                    · refine q_Ca_of (Nat.le_of_ble_eq_true rfl) ?_
                      refine q_Ru_seg (g2 := (74, [(0, .ref 65), (1, .int 0), (2, .int 3844), (3, .int v), (4, .int 0)], [.int v, .int 3844, .ref 66], (q_cX q_AX q_IX q_J0, 40, 26520))) 6 (fun _ _ => rfl) ?_
                      refine q_Ru_call (v := (some (.int 0))) (h2 := (q_cX A41 I41 q_J0, 40, 26520)) rfl rfl ?_ ?_
                      · refine q_Ca_of (Nat.le_of_ble_eq_true rfl) ?_
                        refine q_Ru_seg (g2 := (2, [(0, .ref 66), (1, .int 3844), (2, .int v)], [.int 3844, .ref 66], (q_cX q_AX q_IX q_J0, 40, 26520))) 2 (fun _ _ => rfl) ?_
                        refine q_Ru_call (v := (some (.int 0))) (h2 := (q_cX q_AX q_IX q_J0, 40, 26520)) rfl rfl ?_ ?_
                        · refine q_Ca_of (Nat.le_of_ble_eq_true rfl) ?_
                          refine q_Ru_seg (g2 := (27, [(2, .int 4), (0, .ref 66), (1, .int 3844)], [.int 0, .int 4, .ref 66], (q_cX q_AX q_IX q_J0, 40, 26520))) 16 (fun _ _ => rfl) ?_
                          refine q_Ru_call (v := (some (.int 0))) (h2 := (q_cX q_AX q_IX q_J0, 40, 26520)) rfl rfl ?_ ?_
                          · refine q_Ca_of (Nat.le_of_ble_eq_true rfl) ?_
                            refine q_Ru_seg (g2 := (183, [(0, .ref 66), (1, .int 4), (2, .int 0)], [.int 0], (q_cX q_AX q_IX q_J0, 40, 26520))) 3 (fun _ _ => rfl) ?_
                            exact q_Ru_ret rfl rfl
                          show q_Ru _ _ _ (30, [(2, .int 4), (0, .ref 66), (1, .int 3844)], [.int 0], (q_cX q_AX q_IX q_J0, 40, 26520)) _
                          exact q_Ru_ret rfl rfl
                        show q_Ru _ _ _ (5, [(0, .ref 66), (1, .int 3844), (2, .int v)], [.int 0], (q_cX q_AX q_IX q_J0, 40, 26520)) _
                        refine q_Ru_seg (g2 := (9, [(3, .int 0), (0, .ref 66), (1, .int 3844), (2, .int v)], [.int v, .int 3844, .ref 66], (q_cX q_AX q_IX q_J0, 40, 26520))) 4 (fun _ _ => rfl) ?_
                        refine q_Ru_call (v := none) (h2 := (q_cX A41 I41 q_J0, 40, 26520)) rfl rfl ?_ ?_
                        · exact p41.le (Nat.le_of_ble_eq_true rfl)
                        show q_Ru _ _ _ (12, [(3, .int 0), (0, .ref 66), (1, .int 3844), (2, .int v)], [], (q_cX A41 I41 q_J0, 40, 26520)) _
                        refine q_Ru_seg (g2 := (13, [(3, .int 0), (0, .ref 66), (1, .int 3844), (2, .int v)], [.int 0], (q_cX A41 I41 q_J0, 40, 26520))) 1 (fun _ _ => rfl) ?_
                        exact q_Ru_ret rfl rfl
                      show q_Ru _ _ _ (77, [(0, .ref 65), (1, .int 0), (2, .int 3844), (3, .int v), (4, .int 0)], [.int 0], (q_cX A41 I41 q_J0, 40, 26520)) _
                      exact q_Ru_ret rfl rfl
                    show q_Ru _ _ _ (27, [(0, .ref 64), (1, .int 3844), (2, .int v)], [.int 0], (q_cX A41 I41 q_J0, 40, 26520)) _
                    exact q_Ru_ret rfl rfl
                  show q_Ru _ _ _ (8, [(0, .ref 64), (1, .int 3844), (2, .int v), (3, .ref 103)], [.int 0, .int 0, .ref 103], (q_cX A41 I41 q_J0, 40, 26520)) _
                  refine q_Ru_seg (g2 := (22, [(0, .ref 64), (1, .int 3844), (2, .int v), (3, .ref 103)], [.int 0], (q_cX A41 I41 (q_uA q_J0 39 (vp_updL (fun _ => 0) 0 0)), 40, 26520))) 4 (fun _ _ => rfl) ?_
                  exact q_Ru_ret rfl rfl
                · refine q_Ca_of (Nat.le_of_ble_eq_true rfl) ?_
                  refine q_Ru_seg (g2 := (2, [(0, .ref 64), (1, .int 3844), (2, .int v)], [.int 3844, .ref 64], (q_cM q_AM q_IM q_J0, 34, 31630))) 2 (fun _ _ => rfl) ?_
                  refine q_Ru_call (v := (some (.int 0))) (h2 := (q_cM q_AM q_IM q_J0, 34, 31630)) rfl rfl ?_ ?_
                  · refine q_Ca_of (Nat.le_of_ble_eq_true rfl) ?_
                    refine q_Ru_seg (g2 := (5, [(0, .int 3844)], [.int 4095, .int 0, .int 3844], (q_cM q_AM q_IM q_J0, 34, 31630))) 3 (fun _ _ => rfl) ?_
                    refine q_Ru_call (v := (some (.int 1))) (h2 := (q_cM q_AM q_IM q_J0, 34, 31630)) rfl rfl ?_ ?_
                    · refine q_Ca_of (Nat.le_of_ble_eq_true rfl) ?_
                      refine q_Ru_seg (g2 := (15, [(0, .int 3844), (1, .int 0), (2, .int 4095)], [.int 1], (q_cM q_AM q_IM q_J0, 34, 31630))) 8 (fun _ _ => rfl) ?_
                      exact q_Ru_ret rfl rfl
                    show q_Ru _ _ _ (8, [(0, .int 3844)], [.int 1], (q_cM q_AM q_IM q_J0, 34, 31630)) _
                    refine q_Ru_seg (g2 := (16, [(0, .int 3844)], [.int 0], (q_cM q_AM q_IM q_J0, 34, 31630))) 2 (fun _ _ => rfl) ?_
                    exact q_Ru_ret rfl rfl
                  show q_Ru _ _ _ (5, [(0, .ref 64), (1, .int 3844), (2, .int v)], [.int 0, .ref 64], (q_cM q_AM q_IM q_J0, 34, 31630)) _
                  refine q_Ru_seg (g2 := (13, [(0, .ref 64), (1, .int 3844), (2, .int v)], [.int v, .ref 64], (q_cM q_AM q_IM q_J0, 34, 31630))) 2 (fun _ _ => rfl) ?_
                  refine q_Ru_call (v := (some (.int 0))) (h2 := (q_cM q_AM q_IM q_J0, 34, 31630)) rfl rfl ?_ ?_
                  · refine q_Ca_of (Nat.le_of_ble_eq_true rfl) ?_
                    refine q_Ru_seg (g2 := (5, [(0, .int v)], [.int 255, .int 0, .int v], (q_cM q_AM q_IM q_J0, 34, 31630))) 3 (fun _ _ => rfl) ?_
                    refine q_Ru_call (v := (some (.int 1))) (h2 := (q_cM q_AM q_IM q_J0, 34, 31630)) rfl rfl ?_ ?_
                    · refine q_Ca_of (Nat.le_of_ble_eq_true rfl) ?_
                      refine q_Ru_seg (g2 := (2, [(0, .int v), (1, .int 0), (2, .int 255)], [.int 0, .int v], (q_cM q_AM q_IM q_J0, 34, 31630))) 2 (fun _ _ => rfl) ?_
                      refine q_Ru_rsF (g2 := (5, [(0, .int v), (1, .int 0), (2, .int 255)], [], (q_cM q_AM q_IM q_J0, 34, 31630))) rfl rfl h233 ?_
                      refine q_Ru_seg (g2 := (7, [(0, .int v), (1, .int 0), (2, .int 255)], [.int 255, .int v], (q_cM q_AM q_IM q_J0, 34, 31630))) 2 (fun _ _ => rfl) ?_
                      refine q_Ru_rsF (g2 := (10, [(0, .int v), (1, .int 0), (2, .int 255)], [], (q_cM q_AM q_IM q_J0, 34, 31630))) rfl rfl h235 ?_
                      refine q_Ru_seg (g2 := (15, [(0, .int v), (1, .int 0), (2, .int 255)], [.int 1], (q_cM q_AM q_IM q_J0, 34, 31630))) 2 (fun _ _ => rfl) ?_
                      exact q_Ru_ret rfl rfl
                    show q_Ru _ _ _ (8, [(0, .int v)], [.int 1], (q_cM q_AM q_IM q_J0, 34, 31630)) _
                    refine q_Ru_seg (g2 := (16, [(0, .int v)], [.int 0], (q_cM q_AM q_IM q_J0, 34, 31630))) 2 (fun _ _ => rfl) ?_
                    exact q_Ru_ret rfl rfl
                  show q_Ru _ _ _ (16, [(0, .ref 64), (1, .int 3844), (2, .int v)], [.int 0, .ref 64], (q_cM q_AM q_IM q_J0, 34, 31630)) _
                  refine q_Ru_seg (g2 := (24, [(0, .ref 64), (1, .int 3844), (2, .int v)], [.int 0, .ref 64], (q_cM q_AM q_IM q_J0, 34, 31630))) 2 (fun _ _ => rfl) ?_
                  refine q_Ru_call (v := (some (.int 0))) (h2 := (q_cM q_AM (q_uI q_IM 0 39 0) q_J0, 34, 31630)) rfl rfl ?_ ?_
                  · refine q_Ca_of (Nat.le_of_ble_eq_true rfl) ?_
                    refine q_Ru_seg (g2 := (14, [(0, .ref 64), (1, .int 0)], [.int 0], (q_cM q_AM (q_uI q_IM 0 39 0) q_J0, 34, 31630))) 6 (fun _ _ => rfl) ?_
                    exact q_Ru_ret rfl rfl
                  show q_Ru _ _ _ (27, [(0, .ref 64), (1, .int 3844), (2, .int v)], [.int 0], (q_cM q_AM (q_uI q_IM 0 39 0) q_J0, 34, 31630)) _
                  refine q_Ru_seg (g2 := (34, [(0, .ref 64), (1, .int 3844), (2, .int v)], [.int 3844, .ref 64], (q_cM q_AM (q_uI q_IM 0 39 0) q_J0, 34, 31630))) 3 (fun _ _ => rfl) ?_
                  refine q_Ru_call (v := (some (.int 0))) (h2 := (q_cM q_AM (q_uI q_IM 0 39 0) q_J0, 34, 31630)) rfl rfl ?_ ?_
                  · refine q_Ca_of (Nat.le_of_ble_eq_true rfl) ?_
                    refine q_Ru_seg (g2 := (7, [(0, .ref 64), (1, .int 3844)], [.int 3887, .int 3840, .int 3844], (q_cM q_AM (q_uI q_IM 0 39 0) q_J0, 34, 31630))) 3 (fun _ _ => rfl) ?_
                    refine q_Ru_call (v := (some (.int 1))) (h2 := (q_cM q_AM (q_uI q_IM 0 39 0) q_J0, 34, 31630)) rfl rfl ?_ ?_
                    · refine q_Ca_of (Nat.le_of_ble_eq_true rfl) ?_
                      refine q_Ru_seg (g2 := (15, [(0, .int 3844), (1, .int 3840), (2, .int 3887)], [.int 1], (q_cM q_AM (q_uI q_IM 0 39 0) q_J0, 34, 31630))) 8 (fun _ _ => rfl) ?_
                      exact q_Ru_ret rfl rfl
                    show q_Ru _ _ _ (10, [(0, .ref 64), (1, .int 3844)], [.int 1], (q_cM q_AM (q_uI q_IM 0 39 0) q_J0, 34, 31630)) _
                    refine q_Ru_seg (g2 := (19, [(0, .ref 64), (1, .int 3844)], [.int 4, .ref 64], (q_cM q_AM (q_uI q_IM 0 39 0) q_J0, 34, 31630))) 5 (fun _ _ => rfl) ?_
                    refine q_Ru_call (v := (some (.int 0))) (h2 := (q_cM q_AM (q_uI q_IM 0 39 0) q_J0, 34, 31630)) rfl rfl ?_ ?_
                    · refine q_Ca_of (Nat.le_of_ble_eq_true rfl) ?_
                      refine q_Ru_seg (g2 := (30, [(0, .ref 64), (1, .int 4)], [.int 15, .int 12, .int 4], (q_cM q_AM (q_uI q_IM 0 39 0) q_J0, 34, 31630))) 9 (fun _ _ => rfl) ?_
                      refine q_Ru_call (v := (some (.int 0))) (h2 := (q_cM q_AM (q_uI q_IM 0 39 0) q_J0, 34, 31630)) rfl rfl ?_ ?_
                      · refine q_Ca_of (Nat.le_of_ble_eq_true rfl) ?_
                        refine q_Ru_seg (g2 := (15, [(0, .int 4), (1, .int 12), (2, .int 15)], [.int 0], (q_cM q_AM (q_uI q_IM 0 39 0) q_J0, 34, 31630))) 4 (fun _ _ => rfl) ?_
                        exact q_Ru_ret rfl rfl
                      show q_Ru _ _ _ (33, [(0, .ref 64), (1, .int 4)], [.int 0], (q_cM q_AM (q_uI q_IM 0 39 0) q_J0, 34, 31630)) _
                      refine q_Ru_seg (g2 := (190, [(0, .ref 64), (1, .int 4)], [.int 0], (q_cM q_AM (q_uI q_IM 0 39 0) q_J0, 34, 31630))) 20 (fun _ _ => rfl) ?_
                      exact q_Ru_ret rfl rfl
                    show q_Ru _ _ _ (22, [(0, .ref 64), (1, .int 3844)], [.int 0], (q_cM q_AM (q_uI q_IM 0 39 0) q_J0, 34, 31630)) _
                    exact q_Ru_ret rfl rfl
                  show q_Ru _ _ _ (37, [(0, .ref 64), (1, .int 3844), (2, .int v)], [.int 0], (q_cM q_AM (q_uI q_IM 0 39 0) q_J0, 34, 31630)) _
                  refine q_Ru_seg (g2 := (41, [(3, .int 0), (0, .ref 64), (1, .int 3844), (2, .int v)], [.int v, .int 3844, .ref 64], (q_cM q_AM (q_uI q_IM 0 39 0) q_J0, 34, 31630))) 4 (fun _ _ => rfl) ?_
                  refine q_Ru_call (v := none) (h2 := (q_cM A42 (q_uI q_IM 0 39 0) q_J0, 34, 31630)) rfl rfl ?_ ?_
                  · exact p42.le (Nat.le_of_ble_eq_true rfl)
                  show q_Ru _ _ _ (44, [(3, .int 0), (0, .ref 64), (1, .int 3844), (2, .int v)], [], (q_cM A42 (q_uI q_IM 0 39 0) q_J0, 34, 31630)) _
                  refine q_Ru_seg (g2 := (45, [(3, .int 0), (0, .ref 64), (1, .int 3844), (2, .int v)], [.ref 64], (q_cM A42 (q_uI q_IM 0 39 0) q_J0, 34, 31630))) 1 (fun _ _ => rfl) ?_
                  refine q_Ru_call (v := none) (h2 := (q_cM A42 (q_uI q_IM 0 39 0) q_J0, 34, 31630)) rfl rfl ?_ ?_
                  · refine q_Ca_of (Nat.le_of_ble_eq_true rfl) ?_
                    refine q_Ru_seg (g2 := (17, [(0, .ref 64)], [], (q_cM A42 (q_uI q_IM 0 39 0) q_J0, 34, 31630))) 3 (fun _ _ => rfl) ?_
                    exact q_Ru_ret rfl rfl
                  show q_Ru _ _ _ (48, [(3, .int 0), (0, .ref 64), (1, .int 3844), (2, .int v)], [], (q_cM A42 (q_uI q_IM 0 39 0) q_J0, 34, 31630)) _
                  refine q_Ru_seg (g2 := (49, [(3, .int 0), (0, .ref 64), (1, .int 3844), (2, .int v)], [.int 0], (q_cM A42 (q_uI q_IM 0 39 0) q_J0, 34, 31630))) 1 (fun _ _ => rfl) ?_
                  exact q_Ru_ret rfl rfl
              | 5, _, e249 =>
                have e249 : a = 3845 := e249
                subst e249
                obtain ⟨A43, I43, p43⟩ := q_p_write q_AX q_IX (40) (26520) 3845 v
                obtain ⟨A44, p44⟩ := q_p_writes q_AM (q_uI q_IM 0 39 0) (34) (31630) 3845 v (by decide) (by decide)
                refine ⟨0, 0, 0, ⟨(q_cX A43 I43 (q_uA q_J0 39 (vp_updL (fun _ => 0) 0 0)), 40, 26520), (q_uA q_J0 39 (vp_updL (fun _ => 0) 0 0)) 39, ?_, rfl, fun _ => rfl, Nat.le_of_ble_eq_true rfl, Nat.le_of_ble_eq_true rfl⟩, ⟨(q_cM A44 (q_uI q_IM 0 39 0) q_J0, 34, 31630), _, ?_, rfl, rfl, Nat.le_of_ble_eq_true rfl, Nat.le_of_ble_eq_true rfl⟩, fun _ => rfl⟩
                · refine q_Ca_of (Nat.le_of_ble_eq_true rfl) ?_
                  refine q_Ru_seg (g2 := (5, [(0, .ref 64), (1, .int 3845), (2, .int v), (3, .ref 103)], [.int v, .int 3845, .ref 64, .int 0, .ref 103], (q_cX q_AX q_IX q_J0, 40, 26520))) 5 (fun _ _ => rfl) ?_
                  refine q_Ru_call (v := (some (.int 0))) (h2 := (q_cX A43 I43 q_J0, 40, 26520)) rfl rfl ?_ ?_
                  · refine q_Ca_of (Nat.le_of_ble_eq_true rfl) ?_
                    refine q_Ru_seg (g2 := (1, [(0, .ref 64), (1, .int 3845), (2, .int v)], [.int 3845], (q_cX q_AX q_IX q_J0, 40, 26520))) 1 (fun _ _ => rfl) ?_
                    refine q_Ru_call (v := none) (h2 := (q_cX q_AX q_IX q_J0, 40, 26520)) rfl rfl ?_ ?_
                    · refine q_Ca_of (Nat.le_of_ble_eq_true rfl) ?_
                      refine q_Ru_seg (g2 := (4, [(0, .int 3845)], [.int 4096, .int 3845], (q_cX q_AX q_IX q_J0, 40, 26520))) 2 (fun _ _ => rfl) ?_
                      refine q_Ru_call (v := none) (h2 := (q_cX q_AX q_IX q_J0, 40, 26520)) rfl rfl ?_ ?_
                      · refine q_Ca_of (Nat.le_of_ble_eq_true rfl) ?_
                        refine q_Ru_seg (g2 := (19, [(0, .int 3845), (1, .int 4096)], [], (q_cX q_AX q_IX q_J0, 40, 26520))) 5 (fun _ _ => rfl) ?_
                        exact q_Ru_ret rfl rfl
                      show q_Ru _ _ _ (7, [(0, .int 3845)], [], (q_cX q_AX q_IX q_J0, 40, 26520)) _
                      exact q_Ru_ret rfl rfl
                    show q_Ru _ _ _ (4, [(0, .ref 64), (1, .int 3845), (2, .int v)], [], (q_cX q_AX q_IX q_J0, 40, 26520)) _
                    refine q_Ru_seg (g2 := (5, [(0, .ref 64), (1, .int 3845), (2, .int v)], [.int v], (q_cX q_AX q_IX q_J0, 40, 26520))) 1 (fun _ _ => rfl) ?_
                    refine q_Ru_call (v := none) (h2 := (q_cX q_AX q_IX q_J0, 40, 26520)) rfl rfl ?_ ?_
                    · refine q_Ca_of (Nat.le_of_ble_eq_true rfl) ?_
                      refine q_Ru_seg (g2 := (5, [(0, .int v)], [.int 255, .int 0, .int v], (q_cX q_AX q_IX q_J0, 40, 26520))) 3 (fun _ _ => rfl) ?_
                      refine q_Ru_call (v := none) (h2 := (q_cX q_AX q_IX q_J0, 40, 26520)) rfl rfl ?_ ?_
                      · refine q_Ca_of (Nat.le_of_ble_eq_true rfl) ?_
                        refine q_Ru_seg (g2 := (2, [(0, .int v), (1, .int 0), (2, .int 255)], [.int 0, .int v], (q_cX q_AX q_IX q_J0, 40, 26520))) 2 (fun _ _ => rfl) ?_
                        refine q_Ru_rsF (g2 := (5, [(0, .int v), (1, .int 0), (2, .int 255)], [], (q_cX q_AX q_IX q_J0, 40, 26520))) rfl rfl h233 ?_
                        refine q_Ru_seg (g2 := (7, [(0, .int v), (1, .int 0), (2, .int 255)], [.int 255, .int v], (q_cX q_AX q_IX q_J0, 40, 26520))) 2 (fun _ _ => rfl) ?_
                        refine q_Ru_rsT (g2 := (20, [(0, .int v), (1, .int 0), (2, .int 255)], [], (q_cX q_AX q_IX q_J0, 40, 26520))) rfl rfl (q_d_geF h235) ?_
                        exact q_Ru_ret rfl rfl
                      show q_Ru _ _ _ (8, [(0, .int v)], [], (q_cX q_AX q_IX q_J0, 40, 26520)) _
                      exact q_Ru_ret rfl rfl
                    show q_Ru _ _ _ (8, [(0, .ref 64), (1, .int 3845), (2, .int v)], [], (q_cX q_AX q_IX q_J0, 40, 26520)) _
                    refine q_Ru_seg (g2 := (13, [(0, .ref 64), (1, .int 3845), (2, .int v)], [.int 0, .int v, .int 3845, .int 0, .ref 64], (q_cX q_AX q_IX q_J0, 40, 26520))) 5 (fun _ _ => rfl) ?_
                    refine q_Ru_call (v := none) (h2 := (q_cX q_AX q_IX q_J0, 40, 26520)) rfl rfl ?_ ?_
                    · refine q_Ca_of (Nat.le_of_ble_eq_true rfl) ?_
                      refine q_Ru_seg (g2 := (19, [(0, .ref 64), (1, .int 0), (2, .int 3845), (3, .int v), (4, .int 0)], [], (q_cX q_AX q_IX q_J0, 40, 26520))) 3 (fun _ _ => rfl) ?_
                      exact q_Ru_ret rfl rfl
                    show q_Ru _ _ _ (16, [(0, .ref 64), (1, .int 3845), (2, .int v)], [], (q_cX q_AX q_IX q_J0, 40, 26520)) _
                    refine q_Ru_seg (g2 := (24, [(0, .ref 64), (1, .int 3845), (2, .int v)], [.int 0, .int v, .int 3845, .int 0, .ref 65], (q_cX q_AX q_IX q_J0, 40, 26520))) 6 (fun _ _ => rfl) ?_
                    refine q_Ru_call (v := (some (.int 0))) (h2 := (q_cX A43 I43 q_J0, 40, 26520)) rfl rfl ?_ ?_
                    · refine q_Ca_of (Nat.le_of_ble_eq_true rfl) ?_
                      refine q_Ru_seg (g2 := (74, [(0, .ref 65), (1, .int 0), (2, .int 3845), (3, .int v), (4, .int 0)], [.int v, .int 3845, .ref 66], (q_cX q_AX q_IX q_J0, 40, 26520))) 6 (fun _ _ => rfl) ?_
                      refine q_Ru_call (v := (some (.int 0))) (h2 := (q_cX A43 I43 q_J0, 40, 26520)) rfl rfl ?_ ?_
                      · refine q_Ca_of (Nat.le_of_ble_eq_true rfl) ?_
                        refine q_Ru_seg (g2 := (2, [(0, .ref 66), (1, .int 3845), (2, .int v)], [.int 3845, .ref 66], (q_cX q_AX q_IX q_J0, 40, 26520))) 2 (fun _ _ => rfl) ?_
                        refine q_Ru_call (v := (some (.int 0))) (h2 := (q_cX q_AX q_IX q_J0, 40, 26520)) rfl rfl ?_ ?_
                        · refine q_Ca_of (Nat.le_of_ble_eq_true rfl) ?_
                          refine q_Ru_seg (g2 := (27, [(2, .int 5), (0, .ref 66), (1, .int 3845)], [.int 0, .int 5, .ref 66], (q_cX q_AX q_IX q_J0, 40, 26520))) 16 (fun _ _ => rfl) ?_
                          refine q_Ru_call (v := (some (.int 0))) (h2 := (q_cX q_AX q_IX q_J0, 40, 26520)) rfl rfl ?_ ?_
                          · refine q_Ca_of (Nat.le_of_ble_eq_true rfl) ?_
                            refine q_Ru_seg (g2 := (183, [(0, .ref 66), (1, .int 5), (2, .int 0)], [.int 0], (q_cX q_AX q_IX q_J0, 40, 26520))) 3 (fun _ _ => rfl) ?_
                            exact q_Ru_ret rfl rfl
                          show q_Ru _ _ _ (30, [(2, .int 5), (0, .ref 66), (1, .int 3845)], [.int 0], (q_cX q_AX q_IX q_J0, 40, 26520)) _
                          exact q_Ru_ret rfl rfl
                        show q_Ru _ _ _ (5, [(0, .ref 66), (1, .int 3845), (2, .int v)], [.int 0], (q_cX q_AX q_IX q_J0, 40, 26520)) _
                        refine q_Ru_seg (g2 := (9, [(3, .int 0), (0, .ref 66), (1, .int 3845), (2, .int v)], [.int v, .int 3845, .ref 66], (q_cX q_AX q_IX q_J0, 40, 26520))) 4 (fun _ _ => rfl) ?_
                        refine q_Ru_call (v := none) (h2 := (q_cX A43 I43 q_J0, 40, 26520)) rfl rfl ?_ ?_
                        · exact p43.le (Nat.le_of_ble_eq_true rfl)
                        show q_Ru _ _ _ (12, [(3, .int 0), (0, .ref 66), (1, .int 3845), (2, .int v)], [], (q_cX A43 I43 q_J0, 40, 26520)) _
                        refine q_Ru_seg (g2 := (13, [(3, .int 0), (0, .ref 66), (1, .int 3845), (2, .int v)], [.int 0], (q_cX A43 I43 q_J0, 40, 26520))) 1 (fun _ _ => rfl) ?_
                        exact q_Ru_ret rfl rfl
                      show q_Ru _ _ _ (77, [(0, .ref 65), (1, .int 0), (2, .int 3845), (3, .int v), (4, .int 0)], [.int 0], (q_cX A43 I43 q_J0, 40, 26520)) _
                      exact q_Ru_ret rfl rfl
                    show q_Ru _ _ _ (27, [(0, .ref 64), (1, .int 3845), (2, .int v)], [.int 0], (q_cX A43 I43 q_J0, 40, 26520)) _
                    exact q_Ru_ret rfl rfl
                  show q_Ru _ _ _ (8, [(0, .ref 64), (1, .int 3845), (2, .int v), (3, .ref 103)], [.int 0, .int 0, .ref 103], (q_cX A43 I43 q_J0, 40, 26520)) _
                  refine q_Ru_seg (g2 := (22, [(0, .ref 64), (1, .int 3845), (2, .int v), (3, .ref 103)], [.int 0], (q_cX A43 I43 (q_uA q_J0 39 (vp_updL (fun _ => 0) 0 0)), 40, 26520))) 4 (fun _ _ => rfl) ?_
                  exact q_Ru_ret rfl rfl
                · refine q_Ca_of (Nat.le_of_ble_eq_true rfl) ?_
                  refine q_Ru_seg (g2 := (2, [(0, .ref 64), (1, .int 3845), (2, .int v)], [.int 3845, .ref 64], (q_cM q_AM q_IM q_J0, 34, 31630))) 2 (fun _ _ => rfl) ?_
                  refine q_Ru_call (v := (some (.int 0))) (h2 := (q_cM q_AM q_IM q_J0, 34, 31630)) rfl rfl ?_ ?_
                  · refine q_Ca_of (Nat.le_of_ble_eq_true rfl) ?_
                    refine q_Ru_seg (g2 := (5, [(0, .int 3845)], [.int 4095, .int 0, .int 3845], (q_cM q_AM q_IM q_J0, 34, 31630))) 3 (fun _ _ => rfl) ?_
                    refine q_Ru_call (v := (some (.int 1))) (h2 := (q_cM q_AM q_IM q_J0, 34, 31630)) rfl rfl ?_ ?_
                    · refine q_Ca_of (Nat.le_of_ble_eq_true rfl) ?_
                      refine q_Ru_seg (g2 := (15, [(0, .int 3845), (1, .int 0), (2, .int 4095)], [.int 1], (q_cM q_AM q_IM q_J0, 34, 31630))) 8 (fun _ _ => rfl) ?_
                      exact q_Ru_ret rfl rfl
                    show q_Ru _ _ _ (8, [(0, .int 3845)], [.int 1], (q_cM q_AM q_IM q_J0, 34, 31630)) _
                    refine q_Ru_seg (g2 := (16, [(0, .int 3845)], [.int 0], (q_cM q_AM q_IM q_J0, 34, 31630))) 2 (fun _ _ => rfl) ?_
                    exact q_Ru_ret rfl rfl
                  show q_Ru _ _ _ (5, [(0, .ref 64), (1, .int 3845), (2, .int v)], [.int 0, .ref 64], (q_cM q_AM q_IM q_J0, 34, 31630)) _
                  refine q_Ru_seg (g2 := (13, [(0, .ref 64), (1, .int 3845), (2, .int v)], [.int v, .ref 64], (q_cM q_AM q_IM q_J0, 34, 31630))) 2 (fun _ _ => rfl) ?_
                  refine q_Ru_call (v := (some (.int 0))) (h2 := (q_cM q_AM q_IM q_J0, 34, 31630)) rfl rfl ?_ ?_
                  · refine q_Ca_of (Nat.le_of_ble_eq_true rfl) ?_
                    refine q_Ru_seg (g2 := (5, [(0, .int v)], [.int 255, .int 0, .int v], (q_cM q_AM q_IM q_J0, 34, 31630))) 3 (fun _ _ => rfl) ?_
                    refine q_Ru_call (v := (some (.int 1))) (h2 := (q_cM q_AM q_IM q_J0, 34, 31630)) rfl rfl ?_ ?_
                    · refine q_Ca_of (Nat.le_of_ble_eq_true rfl) ?_
                      refine q_Ru_seg (g2 := (2, [(0, .int v), (1, .int 0), (2, .int 255)], [.int 0, .int v], (q_cM q_AM q_IM q_J0, 34, 31630))) 2 (fun _ _ => rfl) ?_
                      refine q_Ru_rsF (g2 := (5, [(0, .int v), (1, .int 0), (2, .int 255)], [], (q_cM q_AM q_IM q_J0, 34, 31630))) rfl rfl h233 ?_
                      refine q_Ru_seg (g2 := (7, [(0, .int v), (1, .int 0), (2, .int 255)], [.int 255, .int v], (q_cM q_AM q_IM q_J0, 34, 31630))) 2 (fun _ _ => rfl) ?_
                      refine q_Ru_rsF (g2 := (10, [(0, .int v), (1, .int 0), (2, .int 255)], [], (q_cM q_AM q_IM q_J0, 34, 31630))) rfl rfl h235 ?_
                      refine q_Ru_seg (g2 := (15, [(0, .int v), (1, .int 0), (2, .int 255)], [.int 1], (q_cM q_AM q_IM q_J0, 34, 31630))) 2 (fun _ _ => rfl) ?_
                      exact q_Ru_ret rfl rfl
                    show q_Ru _ _ _ (8, [(0, .int v)], [.int 1], (q_cM q_AM q_IM q_J0, 34, 31630)) _
                    refine q_Ru_seg (g2 := (16, [(0, .int v)], [.int 0], (q_cM q_AM q_IM q_J0, 34, 31630))) 2 (fun _ _ => rfl) ?_
                    exact q_Ru_ret rfl rfl
                  show q_Ru _ _ _ (16, [(0, .ref 64), (1, .int 3845), (2, .int v)], [.int 0, .ref 64], (q_cM q_AM q_IM q_J0, 34, 31630)) _
                  refine q_Ru_seg (g2 := (24, [(0, .ref 64), (1, .int 3845), (2, .int v)], [.int 0, .ref 64], (q_cM q_AM q_IM q_J0, 34, 31630))) 2 (fun _ _ => rfl) ?_
                  refine q_Ru_call (v := (some (.int 0))) (h2 := (q_cM q_AM (q_uI q_IM 0 39 0) q_J0, 34, 31630)) rfl rfl ?_ ?_
                  · refine q_Ca_of (Nat.le_of_ble_eq_true rfl) ?_
                    refine q_Ru_seg (g2 := (14, [(0, .ref 64), (1, .int 0)], [.int 0], (q_cM q_AM (q_uI q_IM 0 39 0) q_J0, 34, 31630))) 6 (fun _ _ => rfl) ?_
                    exact q_Ru_ret rfl rfl
                  show q_Ru _ _ _ (27, [(0, .ref 64), (1, .int 3845), (2, .int v)], [.int 0], (q_cM q_AM (q_uI q_IM 0 39 0) q_J0, 34, 31630)) _
                  refine q_Ru_seg (g2 := (34, [(0, .ref 64), (1, .int 3845), (2, .int v)], [.int 3845, .ref 64], (q_cM q_AM (q_uI q_IM 0 39 0) q_J0, 34, 31630))) 3 (fun _ _ => rfl) ?_
                  refine q_Ru_call (v := (some (.int 0))) (h2 := (q_cM q_AM (q_uI q_IM 0 39 0) q_J0, 34, 31630)) rfl rfl ?_ ?_
                  · refine q_Ca_of (Nat.le_of_ble_eq_true rfl) ?_
                    refine q_Ru_seg (g2 := (7, [(0, .ref 64), (1, .int 3845)], [.int 3887, .int 3840, .int 3845], (q_cM q_AM (q_uI q_IM 0 39 0) q_J0, 34, 31630))) 3 (fun _ _ => rfl) ?_
                    refine q_Ru_call (v := (some (.int 1))) (h2 := (q_cM q_AM (q_uI q_IM 0 39 0) q_J0, 34, 31630)) rfl rfl ?_ ?_
                    · refine q_Ca_of (Nat.le_of_ble_eq_true rfl) ?_
                      refine q_Ru_seg (g2 := (15, [(0, .int 3845), (1, .int 3840), (2, .int 3887)], [.int 1], (q_cM q_AM (q_uI q_IM 0 39 0) q_J0, 34, 31630))) 8 (fun _ _ => rfl) ?_
                      exact q_Ru_ret rfl rfl
                    show q_Ru _ _ _ (10, [(0, .ref 64), (1, .int 3845)], [.int 1], (q_cM q_AM (q_uI q_IM 0 39 0) q_J0, 34, 31630)) _
                    refine q_Ru_seg (g2 := (19, [(0, .ref 64), (1, .int 3845)], [.int 5, .ref 64], (q_cM q_AM (q_uI q_IM 0 39 0) q_J0, 34, 31630))) 5 (fun _ _ => rfl) ?_
                    refine q_Ru_call (v := (some (.int 0))) (h2 := (q_cM q_AM (q_uI q_IM 0 39 0) q_J0, 34, 31630)) rfl rfl ?_ ?_
                    · refine q_Ca_of (Nat.le_of_ble_eq_true rfl) ?_
                      refine q_Ru_seg (g2 := (30, [(0, .ref 64), (1, .int 5)], [.int 15, .int 12, .int 5], (q_cM q_AM (q_uI q_IM 0 39 0) q_J0, 34, 31630))) 9 (fun _ _ => rfl) ?_
                      refine q_Ru_call (v := (some (.int 0))) (h2 := (q_cM q_AM (q_uI q_IM 0 39 0) q_J0, 34, 31630)) rfl rfl ?_ ?_
                      · refine q_Ca_of (Nat.le_of_ble_eq_true rfl) ?_
                        refine q_Ru_seg (g2 := (15, [(0, .int 5), (1, .int 12), (2, .int 15)], [.int 0], (q_cM q_AM (q_uI q_IM 0 39 0) q_J0, 34, 31630))) 4 (fun _ _ => rfl) ?_
                        exact q_Ru_ret rfl rfl
                      show q_Ru _ _ _ (33, [(0, .ref 64), (1, .int 5)], [.int 0], (q_cM q_AM (q_uI q_IM 0 39 0) q_J0, 34, 31630)) _
                      refine q_Ru_seg (g2 := (190, [(0, .ref 64), (1, .int 5)], [.int 0], (q_cM q_AM (q_uI q_IM 0 39 0) q_J0, 34, 31630))) 20 (fun _ _ => rfl) ?_
                      exact q_Ru_ret rfl rfl
                    show q_Ru _ _ _ (22, [(0, .ref 64), (1, .int 3845)], [.int 0], (q_cM q_AM (q_uI q_IM 0 39 0) q_J0, 34, 31630)) _
                    exact q_Ru_ret rfl rfl
                  show q_Ru _ _ _ (37, [(0, .ref 64), (1, .int 3845), (2, .int v)], [.int 0], (q_cM q_AM (q_uI q_IM 0 39 0) q_J0, 34, 31630)) _
                  refine q_Ru_seg (g2 := (41, [(3, .int 0), (0, .ref 64), (1, .int 3845), (2, .int v)], [.int v, .int 3845, .ref 64], (q_cM q_AM (q_uI q_IM 0 39 0) q_J0, 34, 31630))) 4 (fun _ _ => rfl) ?_
                  refine q_Ru_call (v := none) (h2 := (q_cM A44 (q_uI q_IM 0 39 0) q_J0, 34, 31630)) rfl rfl ?_ ?_
                  · exact p44.le (Nat.le_of_ble_eq_true rfl)
                  show q_Ru _ _ _ (44, [(3, .int 0), (0, .ref 64), (1, .int 3845), (2, .int v)], [], (q_cM A44 (q_uI q_IM 0 39 0) q_J0, 34, 31630)) _
                  refine q_Ru_seg (g2 := (45, [(3, .int 0), (0, .ref 64), (1, .int 3845), (2, .int v)], [.ref 64], (q_cM A44 (q_uI q_IM 0 39 0) q_J0, 34, 31630))) 1 (fun _ _ => rfl) ?_
                  refine q_Ru_call (v := none) (h2 := (q_cM A44 (q_uI q_IM 0 39 0) q_J0, 34, 31630)) rfl rfl ?_ ?_
                  · refine q_Ca_of (Nat.le_of_ble_eq_true rfl) ?_
                    refine q_Ru_seg (g2 := (17, [(0, .ref 64)], [], (q_cM A44 (q_uI q_IM 0 39 0) q_J0, 34, 31630))) 3 (fun _ _ => rfl) ?_
                    exact q_Ru_ret rfl rfl
                  show q_Ru _ _ _ (48, [(3, .int 0), (0, .ref 64), (1, .int 3845), (2, .int v)], [], (q_cM A44 (q_uI q_IM 0 39 0) q_J0, 34, 31630)) _
                  refine q_Ru_seg (g2 := (49, [(3, .int 0), (0, .ref 64), (1, .int 3845), (2, .int v)], [.int 0], (q_cM A44 (q_uI q_IM 0 39 0) q_J0, 34, 31630))) 1 (fun _ _ => rfl) ?_
                  exact q_Ru_ret rfl rfl
              | 6, _, e249 =>
                have e249 : a = 3846 := e249
                subst e249
                obtain ⟨A45, I45, p45⟩ := q_p_write q_AX q_IX (40) (26520) 3846 v
                obtain ⟨A46, p46⟩ := q_p_writes q_AM (q_uI q_IM 0 39 0) (34) (31630) 3846 v (by decide) (by decide)
                refine ⟨0, 0, 0, ⟨(q_cX A45 I45 (q_uA q_J0 39 (vp_updL (fun _ => 0) 0 0)), 40, 26520), (q_uA q_J0 39 (vp_updL (fun _ => 0) 0 0)) 39, ?_, rfl, fun _ => rfl, Nat.le_of_ble_eq_true rfl, Nat.le_of_ble_eq_true rfl⟩, ⟨(q_cM A46 (q_uI q_IM 0 39 0) q_J0, 34, 31630), _, ?_, rfl, rfl, Nat.le_of_ble_eq_true rfl, Nat.le_of_ble_eq_true rfl⟩, fun _ => rfl⟩
                · refine q_Ca_of (Nat.le_of_ble_eq_true rfl) ?_
                  refine q_Ru_seg (g2 := (5, [(0, .ref 64), (1, .int 3846), (2, .int v), (3, .ref 103)], [.int v, .int 3846, .ref 64, .int 0, .ref 103], (q_cX q_AX q_IX q_J0, 40, 26520))) 5 (fun _ _ => rfl) ?_
                  refine q_Ru_call (v := (some (.int 0))) (h2 := (q_cX A45 I45 q_J0, 40, 26520)) rfl rfl ?_ ?_
                  · refine q_Ca_of (Nat.le_of_ble_eq_true rfl) ?_
                    refine q_Ru_seg (g2 := (1, [(0, .ref 64), (1, .int 3846), (2, .int v)], [.int 3846], (q_cX q_AX q_IX q_J0, 40, 26520))) 1 (fun _ _ => rfl) ?_
                    refine q_Ru_call (v := none) (h2 := (q_cX q_AX q_IX q_J0, 40, 26520)) rfl rfl ?_ ?_
                    · refine q_Ca_of (Nat.le_of_ble_eq_true rfl) ?_
                      refine q_Ru_seg (g2 := (4, [(0, .int 3846)], [.int 4096, .int 3846], (q_cX q_AX q_IX q_J0, 40, 26520))) 2 (fun _ _ => rfl) ?_
                      refine q_Ru_call (v := none) (h2 := (q_cX q_AX q_IX q_J0, 40, 26520)) rfl rfl ?_ ?_
                      · refine q_Ca_of (Nat.le_of_ble_eq_true rfl) ?_
                        refine q_Ru_seg (g2 := (19, [(0, .int 3846), (1, .int 4096)], [], (q_cX q_AX q_IX q_J0, 40, 26520))) 5 (fun _ _ => rfl) ?_
                        exact q_Ru_ret rfl rfl
                      show q_Ru _ _ _ (7, [(0, .int 3846)], [], (q_cX q_AX q_IX q_J0, 40, 26520)) _
                      exact q_Ru_ret rfl rfl
                    show q_Ru _ _ _ (4, [(0, .ref 64), (1, .int 3846), (2, .int v)], [], (q_cX q_AX q_IX q_J0, 40, 26520)) _
                    refine q_Ru_seg (g2 := (5, [(0, .ref 64), (1, .int 3846), (2, .int v)], [.int v], (q_cX q_AX q_IX q_J0, 40, 26520))) 1 (fun _ _ => rfl) ?_
                    refine q_Ru_call (v := none) (h2 := (q_cX q_AX q_IX q_J0, 40, 26520)) rfl rfl ?_ ?_
                    · refine q_Ca_of (Nat.le_of_ble_eq_true rfl) ?_
                      refine q_Ru_seg (g2 := (5, [(0, .int v)], [.int 255, .int 0, .int v], (q_cX q_AX q_IX q_J0, 40, 26520))) 3 (fun _ _ => rfl) ?_
                      refine q_Ru_call (v := none) (h2 := (q_cX q_AX q_IX q_J0, 40, 26520)) rfl rfl ?_ ?_
                      · refine q_Ca_of (Nat.le_of_ble_eq_true rfl) ?_
                        refine q_Ru_seg (g2 := (2, [(0, .int v), (1, .int 0), (2, .int 255)], [.int 0, .int v], (q_cX q_AX q_IX q_J0, 40, 26520))) 2 (fun _ _ => rfl) ?_
                        refine q_Ru_rsF (g2 := (5, [(0, .int v), (1, .int 0), (2, .int 255)], [], (q_cX q_AX q_IX q_J0, 40, 26520))) rfl rfl h233 ?_
                        refine q_Ru_seg (g2 := (7, [(0, .int v), (1, .int 0), (2, .int 255)], [.int 255, .int v], (q_cX q_AX q_IX q_J0, 40, 26520))) 2 (fun _ _ => rfl) ?_
                        refine q_Ru_rsT (g2 := (20, [(0, .int v), (1, .int 0), (2, .int 255)], [], (q_cX q_AX q_IX q_J0, 40, 26520))) rfl rfl (q_d_geF h235) ?_
                        exact q_Ru_ret rfl rfl
                      show q_Ru _ _ _ (8, [(0, .int v)], [], (q_cX q_AX q_IX q_J0, 40, 26520)) _
                      exact q_Ru_ret rfl rfl
                    show q_Ru _ _ _ (8, [(0, .ref 64), (1, .int 3846), (2, .int v)], [], (q_cX q_AX q_IX q_J0, 40, 26520)) _
                    refine q_Ru_seg (g2 := (13, [(0, .ref 64), (1, .int 3846), (2, .int v)], [.int 0, .int v, .int 3846, .int 0, .ref 64], (q_cX q_AX q_IX q_J0, 40, 26520))) 5 (fun _ _ => rfl) ?_
                    refine q_Ru_call (v := none) (h2 := (q_cX q_AX q_IX q_J0, 40, 26520)) rfl rfl ?_ ?_
                    · refine q_Ca_of (Nat.le_of_ble_eq_true rfl) ?_
                      refine q_Ru_seg (g2 := (19, [(0, .ref 64), (1, .int 0), (2, .int 3846), (3, .int v), (4, .int 0)], [], (q_cX q_AX q_IX q_J0, 40, 26520))) 3 (fun _ _ => rfl) ?_
                      exact q_Ru_ret rfl rfl
                    show q_Ru _ _ _ (16, [(0, .ref 64), (1, .int 3846), (2, .int v)], [], (q_cX q_AX q_IX q_J0, 40, 26520)) _
                    refine q_Ru_seg (g2 := (24, [(0, .ref 64), (1, .int 3846), (2, .int v)], [.int 0, .int v, .int 3846, .int 0, .ref 65], (q_cX q_AX q_IX q_J0, 40, 26520))) 6 (fun _ _ => rfl) ?_
                    refine q_Ru_call (v := (some (.int 0))) (h2 := (q_cX A45 I45 q_J0, 40, 26520)) rfl rfl ?_ ?_
                    · refine q_Ca_of (Nat.le_of_ble_eq_true rfl) ?_
                      refine q_Ru_seg (g2 := (74, [(0, .ref 65), (1, .int 0), (2, .int 3846), (3, .int v), (4, .int 0)], [.int v, .int 3846, .ref 66], (q_cX q_AX q_IX q_J0, 40, 26520))) 6 (fun _ _ => rfl) ?_
                      refine q_Ru_call (v := (some (.int 0))) (h2 := (q_cX A45 I45 q_J0, 40, 26520)) rfl rfl ?_ ?_
                      · refine q_Ca_of (Nat.le_of_ble_eq_true rfl) ?_
                        refine q_Ru_seg (g2 := (2, [(0, .ref 66), (1, .int 3846), (2, .int v)], [.int 3846, .ref 66], (q_cX q_AX q_IX q_J0, 40, 26520))) 2 (fun _ _ => rfl) ?_
                        refine q_Ru_call (v := (some (.int 0))) (h2 := (q_cX q_AX q_IX q_J0, 40, 26520)) rfl rfl ?_ ?_
                        · refine q_Ca_of (Nat.le_of_ble_eq_true rfl) ?_
                          refine q_Ru_seg (g2 := (27, [(2, .int 6), (0, .ref 66), (1, .int 3846)], [.int 0, .int 6, .ref 66], (q_cX q_AX q_IX q_J0, 40, 26520))) 16 (fun _ _ => rfl) ?_
                          refine q_Ru_call (v := (some (.int 0))) (h2 := (q_cX q_AX q_IX q_J0, 40, 26520)) rfl rfl ?_ ?_
                          · refine q_Ca_of (Nat.le_of_ble_eq_true rfl) ?_
                            refine q_Ru_seg (g2 := (183, [(0, .ref 66), (1, .int 6), (2, .int 0)], [.int 0], (q_cX q_AX q_IX q_J0, 40, 26520))) 3 (fun _ _ => rfl) ?_
                            exact q_Ru_ret rfl rfl
                          show q_Ru _ _ _ (30, [(2, .int 6), (0, .ref 66), (1, .int 3846)], [.int 0], (q_cX q_AX q_IX q_J0, 40, 26520)) _
                          exact q_Ru_ret rfl rfl
                        show q_Ru _ _ _ (5, [(0, .ref 66), (1, .int 3846), (2, .int v)], [.int 0], (q_cX q_AX q_IX q_J0, 40, 26520)) _
                        refine q_Ru_seg (g2 := (9, [(3, .int 0), (0, .ref 66), (1, .int 3846), (2, .int v)], [.int v, .int 3846, .ref 66], (q_cX q_AX q_IX q_J0, 40, 26520))) 4 (fun _ _ => rfl) ?_
                        refine q_Ru_call (v := none) (h2 := (q_cX A45 I45 q_J0, 40, 26520)) rfl rfl ?_ ?_
                        · exact p45.le (Nat.le_of_ble_eq_true rfl)
                        show q_Ru _ _ _ (12, [(3, .int 0), (0, .ref 66), (1, .int 3846), (2, .int v)], [], (q_cX A45 I45 q_J0, 40, 26520)) _
                        refine q_Ru_seg (g2 := (13, [(3, .int 0), (0, .ref 66), (1, .int 3846), (2, .int v)], [.int 0], (q_cX A45 I45 q_J0, 40, 26520))) 1 (fun _ _ => rfl) ?_
                        exact q_Ru_ret rfl rfl
                      show q_Ru _ _ _ (77, [(0, .ref 65), (1, .int 0), (2, .int 3846), (3, .int v), (4, .int 0)], [.int 0], (q_cX A45 I45 q_J0, 40, 26520)) _
                      exact q_Ru_ret rfl rfl
                    show q_Ru _ _ _ (27, [(0, .ref 64), (1, .int 3846), (2, .int v)], [.int 0], (q_cX A45 I45 q_J0, 40, 26520)) _
                    exact q_Ru_ret rfl rfl
                  show q_Ru _ _ _ (8, [(0, .ref 64), (1, .int 3846), (2, .int v), (3, .ref 103)], [.int 0, .int 0, .ref 103], (q_cX A45 I45 q_J0, 40, 26520)) _
                  refine q_Ru_seg (g2 := (22, [(0, .ref 64), (1, .int 3846), (2, .int v), (3, .ref 103)], [.int 0], (q_cX A45 I45 (q_uA q_J0 39 (vp_updL (fun _ => 0) 0 0)), 40, 26520))) 4 (fun _ _ => rfl) ?_
                  exact q_Ru_ret rfl rfl
                · refine q_Ca_of (Nat.le_of_ble_eq_true rfl) ?_
                  refine q_Ru_seg (g2 := (2, [(0, .ref 64), (1, .int 3846), (2, .int v)], [.int 3846, .ref 64], (q_cM q_AM q_IM q_J0, 34, 31630))) 2 (fun _ _ => rfl) ?_
                  refine q_Ru_call (v := (some (.int 0))) (h2 := (q_cM q_AM q_IM q_J0, 34, 31630)) rfl rfl ?_ ?_
                  · refine q_Ca_of (Nat.le_of_ble_eq_true rfl) ?_
                    refine q_Ru_seg (g2 := (5, [(0, .int 3846)], [.int 4095, .int 0, .int 3846], (q_cM q_AM q_IM q_J0, 34, 31630))) 3 (fun _ _ => rfl) ?_
                    refine q_Ru_call (v := (some (.int 1))) (h2 := (q_cM q_AM q_IM q_J0, 34, 31630)) rfl rfl ?_ ?_
                    · refine q_Ca_of (Nat.le_of_ble_eq_true rfl) ?_
                      refine q_Ru_seg (g2 := (15, [(0, .int 3846), (1, .int 0), (2, .int 4095)], [.int 1], (q_cM q_AM q_IM q_J0, 34, 31630))) 8 (fun _ _ => rfl) ?_
                      exact q_Ru_ret rfl rfl
                    show q_Ru _ _ _ (8, [(0, .int 3846)], [.int 1], (q_cM q_AM q_IM q_J0, 34, 31630)) _
                    refine q_Ru_seg (g2 := (16, [(0, .int 3846)], [.int 0], (q_cM q_AM q_IM q_J0, 34, 31630))) 2 (fun _ _ => rfl) ?_
                    exact q_Ru_ret rfl rfl
                  show q_Ru _ _ _ (5, [(0, .ref 64), (1, .int 3846), (2, .int v)], [.int 0, .ref 64], (q_cM q_AM q_IM q_J0, 34, 31630)) _
                  refine q_Ru_seg (g2 := (13, [(0, .ref 64), (1, .int 3846), (2, .int v)], [.int v, .ref 64], (q_cM q_AM q_IM q_J0, 34, 31630))) 2 (fun _ _ => rfl) ?_
                  refine q_Ru_call (v := (some (.int 0))) (h2 := (q_cM q_AM q_IM q_J0, 34, 31630)) rfl rfl ?_ ?_
                  · refine q_Ca_of (Nat.le_of_ble_eq_true rfl) ?_
                    refine q_Ru_seg (g2 := (5, [(0, .int v)], [.int 255, .int 0, .int v], (q_cM q_AM q_IM q_J0, 34, 31630))) 3 (fun _ _ => rfl) ?_
                    refine q_Ru_call (v := (some (.int 1))) (h2 := (q_cM q_AM q_IM q_J0, 34, 31630)) rfl rfl ?_ ?_
                    · refine q_Ca_of (Nat.le_of_ble_eq_true rfl) ?_
                      refine q_Ru_seg (g2 := (2, [(0, .int v), (1, .int 0), (2, .int 255)], [.int 0, .int v], (q_cM q_AM q_IM q_J0, 34, 31630))) 2 (fun _ _ => rfl) ?_
                      refine q_Ru_rsF (g2 := (5, [(0, .int v), (1, .int 0), (2, .int 255)], [], (q_cM q_AM q_IM q_J0, 34, 31630))) rfl rfl h233 ?_
                      refine q_Ru_seg (g2 := (7, [(0, .int v), (1, .int 0), (2, .int 255)], [.int 255, .int v], (q_cM q_AM q_IM q_J0, 34, 31630))) 2 (fun _ _ => rfl) ?_
                      refine q_Ru_rsF (g2 := (10, [(0, .int v), (1, .int 0), (2, .int 255)], [], (q_cM q_AM q_IM q_J0, 34, 31630))) rfl rfl h235 ?_
                      refine q_Ru_seg (g2 := (15, [(0, .int v), (1, .int 0), (2, .int 255)], [.int 1], (q_cM q_AM q_IM q_J0, 34, 31630))) 2 (fun _ _ => rfl) ?_
                      exact q_Ru_ret rfl rfl
                    show q_Ru _ _ _ (8, [(0, .int v)], [.int 1], (q_cM q_AM q_IM q_J0, 34, 31630)) _
                    refine q_Ru_seg (g2 := (16, [(0, .int v)], [.int 0], (q_cM q_AM q_IM q_J0, 34, 31630))) 2 (fun _ _ => rfl) ?_
                    exact q_Ru_ret rfl rfl
                  show q_Ru _ _ _ (16, [(0, .ref 64), (1, .int 3846), (2, .int v)], [.int 0, .ref 64], (q_cM q_AM q_IM q_J0, 34, 31630)) _
                  refine q_Ru_seg (g2 := (24, [(0, .ref 64), (1, .int 3846), (2, .int v)], [.int 0, .ref 64], (q_cM q_AM q_IM q_J0, 34, 31630))) 2 (fun _ _ => rfl) ?_
                  refine q_Ru_call (v := (some (.int 0))) (h2 := (q_cM q_AM (q_uI q_IM 0 39 0) q_J0, 34, 31630)) rfl rfl ?_ ?_
                  · refine q_Ca_of (Nat.le_of_ble_eq_true rfl) ?_
                    refine q_Ru_seg (g2 := (14, [(0, .ref 64), (1, .int 0)], [.int 0], (q_cM q_AM (q_uI q_IM 0 39 0) q_J0, 34, 31630))) 6 (fun _ _ => rfl) ?_
                    exact q_Ru_ret rfl rfl
                  show q_Ru _ _ _ (27, [(0, .ref 64), (1, .int 3846), (2, .int v)], [.int 0], (q_cM q_AM (q_uI q_IM 0 39 0) q_J0, 34, 31630)) _
                  refine q_Ru_seg (g2 := (34, [(0, .ref 64), (1, .int 3846), (2, .int v)], [.int 3846, .ref 64], (q_cM q_AM (q_uI q_IM 0 39 0) q_J0, 34, 31630))) 3 (fun _ _ => rfl) ?_
                  refine q_Ru_call (v := (some (.int 0))) (h2 := (q_cM q_AM (q_uI q_IM 0 39 0) q_J0, 34, 31630)) rfl rfl ?_ ?_
                  · refine q_Ca_of (Nat.le_of_ble_eq_true rfl) ?_
                    refine q_Ru_seg (g2 := (7, [(0, .ref 64), (1, .int 3846)], [.int 3887, .int 3840, .int 3846], (q_cM q_AM (q_uI q_IM 0 39 0) q_J0, 34, 31630))) 3 (fun _ _ => rfl) ?_
                    refine q_Ru_call (v := (some (.int 1))) (h2 := (q_cM q_AM (q_uI q_IM 0 39 0) q_J0, 34, 31630)) rfl rfl ?_ ?_
                    · refine q_Ca_of (Nat.le_of_ble_eq_true rfl) ?_
                      refine q_Ru_seg (g2 := (15, [(0, .int 3846), (1, .int 3840), (2, .int 3887)], [.int 1], (q_cM q_AM (q_uI q_IM 0 39 0) q_J0, 34, 31630))) 8 (fun _ _ => rfl) ?_
                      exact q_Ru_ret rfl rfl
                    show q_Ru _ _ _ (10, [(0, .ref 64), (1, .int 3846)], [.int 1], (q_cM q_AM (q_uI q_IM 0 39 0) q_J0, 34, 31630)) _
                    refine q_Ru_seg (g2 := (19, [(0, .ref 64), (1, .int 3846)], [.int 6, .ref 64], (q_cM q_AM (q_uI q_IM 0 39 0) q_J0, 34, 31630))) 5 (fun _ _ => rfl) ?_
                    refine q_Ru_call (v := (some (.int 0))) (h2 := (q_cM q_AM (q_uI q_IM 0 39 0) q_J0, 34, 31630)) rfl rfl ?_ ?_
                    · refine q_Ca_of (Nat.le_of_ble_eq_true rfl) ?_
                      refine q_Ru_seg (g2 := (30, [(0, .ref 64), (1, .int 6)], [.int 15, .int 12, .int 6], (q_cM q_AM (q_uI q_IM 0 39 0) q_J0, 34, 31630))) 9 (fun _ _ => rfl) ?_
                      refine q_Ru_call (v := (some (.int 0))) (h2 := (q_cM q_AM (q_uI q_IM 0 39 0) q_J0, 34, 31630)) rfl rfl ?_ ?_
                      · refine q_Ca_of (Nat.le_of_ble_eq_true rfl) ?_
                        refine q_Ru_seg (g2 := (15, [(0, .int 6), (1, .int 12), (2, .int 15)], [.int 0], (q_cM q_AM (q_uI q_IM 0 39 0) q_J0, 34, 31630))) 4 (fun _ _ => rfl) ?_
                        exact q_Ru_ret rfl rfl
                      show q_Ru _ _ _ (33, [(0, .ref 64), (1, .int 6)], [.int 0], (q_cM q_AM (q_uI q_IM 0 39 0) q_J0, 34, 31630)) _
                      refine q_Ru_seg (g2 := (190, [(0, .ref 64), (1, .int 6)], [.int 0], (q_cM q_AM (q_uI q_IM 0 39 0) q_J0, 34, 31630))) 20 (fun _ _ => rfl) ?_
                      exact q_Ru_ret rfl rfl
                    show q_Ru _ _ _ (22, [(0, .ref 64), (1, .int 3846)], [.int 0], (q_cM q_AM (q_uI q_IM 0 39 0) q_J0, 34, 31630)) _
                    exact q_Ru_ret rfl rfl
                  show q_Ru _ _ _ (37, [(0, .ref 64), (1, .int 3846), (2, .int v)], [.int 0], (q_cM q_AM (q_uI q_IM 0 39 0) q_J0, 34, 31630)) _
                  refine q_Ru_seg (g2 := (41, [(3, .int 0), (0, .ref 64), (1, .int 3846), (2, .int v)], [.int v, .int 3846, .ref 64], (q_cM q_AM (q_uI q_IM 0 39 0) q_J0, 34, 31630))) 4 (fun _ _ => rfl) ?_
                  refine q_Ru_call (v := none) (h2 := (q_cM A46 (q_uI q_IM 0 39 0) q_J0, 34, 31630)) rfl rfl ?_ ?_
                  · exact p46.le (Nat.le_of_ble_eq_true rfl)
                  show q_Ru _ _ _ (44, [(3, .int 0), (0, .ref 64), (1, .int 3846), (2, .int v)], [], (q_cM A46 (q_uI q_IM 0 39 0) q_J0, 34, 31630)) _
                  refine q_Ru_seg (g2 := (45, [(3, .int 0), (0, .ref 64), (1, .int 3846), (2, .int v)], [.ref 64], (q_cM A46 (q_uI q_IM 0 39 0) q_J0, 34, 31630))) 1 (fun _ _ => rfl) ?_
                  refine q_Ru_call (v := none) (h2 := (q_cM A46 (q_uI q_IM 0 39 0) q_J0, 34, 31630)) rfl rfl ?_ ?_
                  · refine q_Ca_of (Nat.le_of_ble_eq_true rfl) ?_
                    refine q_Ru_seg (g2 := (17, [(0, .ref 64)], [], (q_cM A46 (q_uI q_IM 0 39 0) q_J0, 34, 31630))) 3 (fun _ _ => rfl) ?_
                    exact q_Ru_ret rfl rfl
                  show q_Ru _ _ _ (48, [(3, .int 0), (0, .ref 64), (1, .int 3846), (2, .int v)], [], (q_cM A46 (q_uI q_IM 0 39 0) q_J0, 34, 31630)) _
                  refine q_Ru_seg (g2 := (49, [(3, .int 0), (0, .ref 64), (1, .int 3846), (2, .int v)], [.int 0], (q_cM A46 (q_uI q_IM 0 39 0) q_J0, 34, 31630))) 1 (fun _ _ => rfl) ?_
                  exact q_Ru_ret rfl rfl
              | 7, _, e249 =>
                have e249 : a = 3847 := e249
                subst e249
                obtain ⟨A47, I47, p47⟩ := q_p_write q_AX q_IX (40) (26520) 3847 v
                obtain ⟨A48, p48⟩ := q_p_writes q_AM (q_uI q_IM 0 39 0) (34) (31630) 3847 v (by decide) (by decide)
                refine ⟨0, 0, 0, ⟨(q_cX A47 I47 (q_uA q_J0 39 (vp_updL (fun _ => 0) 0 0)), 40, 26520), (q_uA q_J0 39 (vp_updL (fun _ => 0) 0 0)) 39, ?_, rfl, fun _ => rfl, Nat.le_of_ble_eq_true rfl, Nat.le_of_ble_eq_true rfl⟩, ⟨(q_cM A48 (q_uI q_IM 0 39 0) q_J0, 34, 31630), _, ?_, rfl, rfl, Nat.le_of_ble_eq_true rfl, Nat.le_of_ble_eq_true rfl⟩, fun _ => rfl⟩
                · refine q_Ca_of (Nat.le_of_ble_eq_true rfl) ?_
                  refine q_Ru_seg (g2 := (5, [(0, .ref 64), (1, .int 3847), (2, .int v), (3, .ref 103)], [.int v, .int 3847, .ref 64, .int 0, .ref 103], (q_cX q_AX q_IX q_J0, 40, 26520))) 5 (fun _ _ => rfl) ?_
                  refine q_Ru_call (v := (some (.int 0))) (h2 := (q_cX A47 I47 q_J0, 40, 26520)) rfl rfl ?_ ?_
                  · refine q_Ca_of (Nat.le_of_ble_eq_true rfl) ?_
                    refine q_Ru_seg (g2 := (1, [(0, .ref 64), (1, .int 3847), (2, .int v)], [.int 3847], (q_cX q_AX q_IX q_J0, 40, 26520))) 1 (fun _ _ => rfl) ?_
                    refine q_Ru_call (v := none) (h2 := (q_cX q_AX q_IX q_J0, 40, 26520)) rfl rfl ?_ ?_
                    · refine q_Ca_of (Nat.le_of_ble_eq_true rfl) ?_
                      refine q_Ru_seg (g2 := (4, [(0, .int 3847)], [.int 4096, .int 3847], (q_cX q_AX q_IX q_J0, 40, 26520))) 2 (fun _ _ => rfl) ?_
                      refine q_Ru_call (v := none) (h2 := (q_cX q_AX q_IX q_J0, 40, 26520)) rfl rfl ?_ ?_
                      · refine q_Ca_of (Nat.le_of_ble_eq_true rfl) ?_
                        refine q_Ru_seg (g2 := (19, [(0, .int 3847), (1, .int 4096)], [], (q_cX q_AX q_IX q_J0, 40, 26520))) 5 (fun _ _ => rfl) ?_
                        exact q_Ru_ret rfl rfl
                      show q_Ru _ _ _ (7, [(0, .int 3847)], [], (q_cX q_AX q_IX q_J0, 40, 26520)) _
                      exact q_Ru_ret rfl rfl
                    show q_Ru _ _ _ (4, [(0, .ref 64), (1, .int 3847), (2, .int v)], [], (q_cX q_AX q_IX q_J0, 40, 26520)) _
                    refine q_Ru_seg (g2 := (5, [(0, .ref 64), (1, .int 3847), (2, .int v)], [.int v], (q_cX q_AX q_IX q_J0, 40, 26520))) 1 (fun _ _ => rfl) ?_
                    refine q_Ru_call (v := none) (h2 := (q_cX q_AX q_IX q_J0, 40, 26520)) rfl rfl ?_ ?_
                    · refine q_Ca_of (Nat.le_of_ble_eq_true rfl) ?_
                      refine q_Ru_seg (g2 := (5, [(0, .int v)], [.int 255, .int 0, .int v], (q_cX q_AX q_IX q_J0, 40, 26520))) 3 (fun _ _ => rfl) ?_
                      refine q_Ru_call (v := none) (h2 := (q_cX q_AX q_IX q_J0, 40, 26520)) rfl rfl ?_ ?_
                      · refine q_Ca_of (Nat.le_of_ble_eq_true rfl) ?_
                        refine q_Ru_seg (g2 := (2, [(0, .int v), (1, .int 0), (2, .int 255)], [.int 0, .int v], (q_cX q_AX q_IX q_J0, 40, 26520))) 2 (fun _ _ => rfl) ?_
                        refine q_Ru_rsF (g2 := (5, [(0, .int v), (1, .int 0), (2, .int 255)], [], (q_cX q_AX q_IX q_J0, 40, 26520))) rfl rfl h233 ?_
                        refine q_Ru_seg (g2 := (7, [(0, .int v), (1, .int 0), (2, .int 255)], [.int 255, .int v], (q_cX q_AX q_IX q_J0, 40, 26520))) 2 (fun _ _ => rfl) ?_
                        refine q_Ru_rsT (g2 := (20, [(0, .int v), (1, .int 0), (2, .int 255)], [], (q_cX q_AX q_IX q_J0, 40, 26520))) rfl rfl (q_d_geF h235) ?_
                        exact q_Ru_ret rfl rfl
                      show q_Ru _ _ _ (8, [(0, .int v)], [], (q_cX q_AX q_IX q_J0, 40, 26520)) _
                      exact q_Ru_ret rfl rfl
                    show q_Ru _ _ _ (8, [(0, .ref 64), (1, .int 3847), (2, .int v)], [], (q_cX q_AX q_IX q_J0, 40, 26520)) _
                    refine q_Ru_seg (g2 := (13, [(0, .ref 64), (1, .int 3847), (2, .int v)], [.int 0, .int v, .int 3847, .int 0, .ref 64], (q_cX q_AX q_IX q_J0, 40, 26520))) 5 (fun _ _ => rfl) ?_
                    refine q_Ru_call (v := none) (h2 := (q_cX q_AX q_IX q_J0, 40, 26520)) rfl rfl ?_ ?_
                    · refine q_Ca_of (Nat.le_of_ble_eq_true rfl) ?_
                      refine q_Ru_seg (g2 := (19, [(0, .ref 64), (1, .int 0), (2, .int 3847), (3, .int v), (4, .int 0)], [], (q_cX q_AX q_IX q_J0, 40, 26520))) 3 (fun _ _ => rfl) ?_
                      exact q_Ru_ret rfl rfl
                    show q_Ru _ _ _ (16, [(0, .ref 64), (1, .int 3847), (2, .int v)], [], (q_cX q_AX q_IX q_J0, 40, 26520)) _
                    refine q_Ru_seg (g2 := (24, [(0, .ref 64), (1, .int 3847), (2, .int v)], [.int 0, .int v, .int 3847, .int 0, .ref 65], (q_cX q_AX q_IX q_J0, 40, 26520))) 6 (fun _ _ => rfl) ?_
                    refine q_Ru_call (v := (some (.int 0))) (h2 := (q_cX A47 I47 q_J0, 40, 26520)) rfl rfl ?_ ?_
                    · refine q_Ca_of (Nat.le_of_ble_eq_true rfl) ?_
                      refine q_Ru_seg (g2 := (74, [(0, .ref 65), (1, .int 0), (2, .int 3847), (3, .int v), (4, .int 0)], [.int v, .int 3847, .ref 66], (q_cX q_AX q_IX q_J0, 40, 26520))) 6 (fun _ _ => rfl) ?_
                      refine q_Ru_call (v := (some (.int 0))) (h2 := (q_cX A47 I47 q_J0, 40, 26520)) rfl rfl ?_ ?_
                      · refine q_Ca_of (Nat.le_of_ble_eq_true rfl) ?_
                        refine q_Ru_seg (g2 := (2, [(0, .ref 66), (1, .int 3847), (2, .int v)], [.int 3847, .ref 66], (q_cX q_AX q_IX q_J0, 40, 26520))) 2 (fun _ _ => rfl) ?_
                        refine q_Ru_call (v := (some (.int 0))) (h2 := (q_cX q_AX q_IX q_J0, 40, 26520)) rfl rfl ?_ ?_
                        · refine q_Ca_of (Nat.le_of_ble_eq_true rfl) ?_
                          refine q_Ru_seg (g2 := (27, [(2, .int 7), (0, .ref 66), (1, .int 3847)], [.int 0, .int 7, .ref 66], (q_cX q_AX q_IX q_J0, 40, 26520))) 16 (fun _ _ => rfl) ?_
                          refine q_Ru_call (v := (some (.int 0))) (h2 := (q_cX q_AX q_IX q_J0, 40, 26520)) rfl rfl ?_ ?_
                          · refine q_Ca_of (Nat.le_of_ble_eq_true rfl) ?_
                            refine q_Ru_seg (g2 := (183, [(0, .ref 66), (1, .int 7), (2, .int 0)], [.int 0], (q_cX q_AX q_IX q_J0, 40, 26520))) 3 (fun _ _ => rfl) ?_
                            exact q_Ru_ret rfl rfl
                          show q_Ru _ _ _ (30, [(2, .int 7), (0, .ref 66), (1, .int 3847)], [.int 0], (q_cX q_AX q_IX q_J0, 40, 26520)) _
                          exact q_Ru_ret rfl rfl
                        show q_Ru _ _ _ (5, [(0, .ref 66), (1, .int 3847), (2, .int v)], [.int 0], (q_cX q_AX q_IX q_J0, 40, 26520)) _
                        refine q_Ru_seg (g2 := (9, [(3, .int 0), (0, .ref 66), (1, .int 3847), (2, .int v)], [.int v, .int 3847, .ref 66], (q_cX q_AX q_IX q_J0, 40, 26520))) 4 (fun _ _ => rfl) ?_
                        refine q_Ru_call (v := none) (h2 := (q_cX A47 I47 q_J0, 40, 26520)) rfl rfl ?_ ?_
                        · exact p47.le (Nat.le_of_ble_eq_true rfl)
                        show q_Ru _ _ _ (12, [(3, .int 0), (0, .ref 66), (1, .int 3847), (2, .int v)], [], (q_cX A47 I47 q_J0, 40, 26520)) _
                        refine q_Ru_seg (g2 := (13, [(3, .int 0), (0, .ref 66), (1, .int 3847), (2, .int v)], [.int 0], (q_cX A47 I47 q_J0, 40, 26520))) 1 (fun _ _ => rfl) ?_
                        exact q_Ru_ret rfl rfl
                      show q_Ru _ _ _ (77, [(0, .ref 65), (1, .int 0), (2, .int 3847), (3, .int v), (4, .int 0)], [.int 0], (q_cX A47 I47 q_J0, 40, 26520)) _
                      exact q_Ru_ret rfl rfl
                    show q_Ru _ _ _ (27, [(0, .ref 64), (1, .int 3847), (2, .int v)], [.int 0], (q_cX A47 I47 q_J0, 40, 26520)) _
                    exact q_Ru_ret rfl rfl
                  show q_Ru _ _ _ (8, [(0, .ref 64), (1, .int 3847), (2, .int v), (3, .ref 103)], [.int 0, .int 0, .ref 103], (q_cX A47 I47 q_J0, 40, 26520)) _
                  refine q_Ru_seg (g2 := (22, [(0, .ref 64), (1, .int 3847), (2, .int v), (3, .ref 103)], [.int 0], (q_cX A47 I47 (q_uA q_J0 39 (vp_updL (fun _ => 0) 0 0)), 40, 26520))) 4 (fun _ _ => rfl) ?_
                  exact q_Ru_ret rfl rfl
                · refine q_Ca_of (Nat.le_of_ble_eq_true rfl) ?_
                  refine q_Ru_seg (g2 := (2, [(0, .ref 64), (1, .int 3847), (2, .int v)], [.int 3847, .ref 64], (q_cM q_AM q_IM q_J0, 34, 31630))) 2 (fun _ _ => rfl) ?_
                  refine q_Ru_call (v := (some (.int 0))) (h2 := (q_cM q_AM q_IM q_J0, 34, 31630)) rfl rfl ?_ ?_
                  · refine q_Ca_of (Nat.le_of_ble_eq_true rfl) ?_
                    refine q_Ru_seg (g2 := (5, [(0, .int 3847)], [.int 4095, .int 0, .int 3847], (q_cM q_AM q_IM q_J0, 34, 31630))) 3 (fun _ _ => rfl) ?_
                    refine q_Ru_call (v := (some (.int 1))) (h2 := (q_cM q_AM q_IM q_J0, 34, 31630)) rfl rfl ?_ ?_
                    · refine q_Ca_of (Nat.le_of_ble_eq_true rfl) ?_
                      refine q_Ru_seg (g2 := (15, [(0, .int 3847), (1, .int 0), (2, .int 4095)], [.int 1], (q_cM q_AM q_IM q_J0, 34, 31630))) 8 (fun _ _ => rfl) ?_
                      exact q_Ru_ret rfl rfl
                    show q_Ru _ _ _ (8, [(0, .int 3847)], [.int 1], (q_cM q_AM q_IM q_J0, 34, 31630)) _
                    refine q_Ru_seg (g2 := (16, [(0, .int 3847)], [.int 0], (q_cM q_AM q_IM q_J0, 34, 31630))) 2 (fun _ _ => rfl) ?_
                    exact q_Ru_ret rfl rfl
                  show q_Ru _ _ _ (5, [(0, .ref 64), (1, .int 3847), (2, .int v)], [.int 0, .ref 64], (q_cM q_AM q_IM q_J0, 34, 31630)) _
                  refine q_Ru_seg (g2 := (13, [(0, .ref 64), (1, .int 3847), (2, .int v)], [.int v, .ref 64], (q_cM q_AM q_IM q_J0, 34, 31630))) 2 (fun _ _ => rfl) ?_
                  refine q_Ru_call (v := (some (.int 0))) (h2 := (q_cM q_AM q_IM q_J0, 34, 31630)) rfl rfl ?_ ?_
                  · refine q_Ca_of (Nat.le_of_ble_eq_true rfl) ?_
                    refine q_Ru_seg (g2 := (5, [(0, .int v)], [.int 255, .int 0, .int v], (q_cM q_AM q_IM q_J0, 34, 31630))) 3 (fun _ _ => rfl) ?_
                    refine q_Ru_call (v := (some (.int 1))) (h2 := (q_cM q_AM q_IM q_J0, 34, 31630)) rfl rfl ?_ ?_
                    · refine q_Ca_of (Nat.le_of_ble_eq_true rfl) ?_
                      refine q_Ru_seg (g2 := (2, [(0, .int v), (1, .int 0), (2, .int 255)], [.int 0, .int v], (q_cM q_AM q_IM q_J0, 34, 31630))) 2 (fun _ _ => rfl) ?_
                      refine q_Ru_rsF (g2 := (5, [(0, .int v), (1, .int 0), (2, .int 255)], [], (q_cM q_AM q_IM q_J0, 34, 31630))) rfl rfl h233 ?_
                      refine q_Ru_seg (g2 := (7, [(0, .int v), (1, .int 0), (2, .int 255)], [.int 255, .int v], (q_cM q_AM q_IM q_J0, 34, 31630))) 2 (fun _ _ => rfl) ?_
                      refine q_Ru_rsF (g2 := (10, [(0, .int v), (1, .int 0), (2, .int 255)], [], (q_cM q_AM q_IM q_J0, 34, 31630))) rfl rfl h235 ?_
                      refine q_Ru_seg (g2 := (15, [(0, .int v), (1, .int 0), (2, .int 255)], [.int 1], (q_cM q_AM q_IM q_J0, 34, 31630))) 2 (fun _ _ => rfl) ?_
                      exact q_Ru_ret rfl rfl
                    show q_Ru _ _ _ (8, [(0, .int v)], [.int 1], (q_cM q_AM q_IM q_J0, 34, 31630)) _
                    refine q_Ru_seg (g2 := (16, [(0, .int v)], [.int 0], (q_cM q_AM q_IM q_J0, 34, 31630))) 2 (fun _ _ => rfl) ?_
                    exact q_Ru_ret rfl rfl
                  show q_Ru _ _ _ (16, [(0, .ref 64), (1, .int 3847), (2, .int v)], [.int 0, .ref 64], (q_cM q_AM q_IM q_J0, 34, 31630)) _
                  refine q_Ru_seg (g2 := (24, [(0, .ref 64), (1, .int 3847), (2, .int v)], [.int 0, .ref 64], (q_cM q_AM q_IM q_J0, 34, 31630))) 2 (fun _ _ => rfl) ?_
                  refine q_Ru_call (v := (some (.int 0))) (h2 := (q_cM q_AM (q_uI q_IM 0 39 0) q_J0, 34, 31630)) rfl rfl ?_ ?_
                  · refine q_Ca_of (Nat.le_of_ble_eq_true rfl) ?_
                    refine q_Ru_seg (g2 := (14, [(0, .ref 64), (1, .int 0)], [.int 0], (q_cM q_AM (q_uI q_IM 0 39 0) q_J0, 34, 31630))) 6 (fun _ _ => rfl) ?_
                    exact q_Ru_ret rfl rfl
                  show q_Ru _ _ _ (27, [(0, .ref 64), (1, .int 3847), (2, .int v)], [.int 0], (q_cM q_AM (q_uI q_IM 0 39 0) q_J0, 34, 31630)) _
                  refine q_Ru_seg (g2 := (34, [(0, .ref 64), (1, .int 3847), (2, .int v)], [.int 3847, .ref 64], (q_cM q_AM (q_uI q_IM 0 39 0) q_J0, 34, 31630))) 3 (fun _ _ => rfl) ?_
                  refine q_Ru_call (v := (some (.int 0))) (h2 := (q_cM q_AM (q_uI q_IM 0 39 0) q_J0, 34, 31630)) rfl rfl ?_ ?_
                  · refine q_Ca_of (Nat.le_of_ble_eq_true rfl) ?_
                    refine q_Ru_seg (g2 := (7, [(0, .ref 64), (1, .int 3847)], [.int 3887, .int 3840, .int 3847], (q_cM q_AM (q_uI q_IM 0 39 0) q_J0, 34, 31630))) 3 (fun _ _ => rfl) ?_
                    refine q_Ru_call (v := (some (.int 1))) (h2 := (q_cM q_AM (q_uI q_IM 0 39 0) q_J0, 34, 31630)) rfl rfl ?_ ?_
                    · refine q_Ca_of (Nat.le_of_ble_eq_true rfl) ?_
                      refine q_Ru_seg (g2 := (15, [(0, .int 3847), (1, .int 3840), (2, .int 3887)], [.int 1], (q_cM q_AM (q_uI q_IM 0 39 0) q_J0, 34, 31630))) 8 (fun _ _ => rfl) ?_
                      exact q_Ru_ret rfl rfl
                    show q_Ru _ _ _ (10, [(0, .ref 64), (1, .int 3847)], [.int 1], (q_cM q_AM (q_uI q_IM 0 39 0) q_J0, 34, 31630)) _
                    refine q_Ru_seg (g2 := (19, [(0, .ref 64), (1, .int 3847)], [.int 7, .ref 64], (q_cM q_AM (q_uI q_IM 0 39 0) q_J0, 34, 31630))) 5 (fun _ _ => rfl) ?_
                    refine q_Ru_call (v := (some (.int 0))) (h2 := (q_cM q_AM (q_uI q_IM 0 39 0) q_J0, 34, 31630)) rfl rfl ?_ ?_
                    · refine q_Ca_of (Nat.le_of_ble_eq_true rfl) ?_
                      refine q_Ru_seg (g2 := (30, [(0, .ref 64), (1, .int 7)], [.int 15, .int 12, .int 7], (q_cM q_AM (q_uI q_IM 0 39 0) q_J0, 34, 31630))) 9 (fun _ _ => rfl) ?_
                      refine q_Ru_call (v := (some (.int 0))) (h2 := (q_cM q_AM (q_uI q_IM 0 39 0) q_J0, 34, 31630)) rfl rfl ?_ ?_
                      · refine q_Ca_of (Nat.le_of_ble_eq_true rfl) ?_
                        refine q_Ru_seg (g2 := (15, [(0, .int 7), (1, .int 12), (2, .int 15)], [.int 0], (q_cM q_AM (q_uI q_IM 0 39 0) q_J0, 34, 31630))) 4 (fun _ _ => rfl) ?_
                        exact q_Ru_ret rfl rfl
                      show q_Ru _ _ _ (33, [(0, .ref 64), (1, .int 7)], [.int 0], (q_cM q_AM (q_uI q_IM 0 39 0) q_J0, 34, 31630)) _
                      refine q_Ru_seg (g2 := (190, [(0, .ref 64), (1, .int 7)], [.int 0], (q_cM q_AM (q_uI q_IM 0 39 0) q_J0, 34, 31630))) 20 (fun _ _ => rfl) ?_
                      exact q_Ru_ret rfl rfl
                    show q_Ru _ _ _ (22, [(0, .ref 64), (1, .int 3847)], [.int 0], (q_cM q_AM (q_uI q_IM 0 39 0) q_J0, 34, 31630)) _
                    exact q_Ru_ret rfl rfl
                  show q_Ru _ _ _ (37, [(0, .ref 64), (1, .int 3847), (2, .int v)], [.int 0], (q_cM q_AM (q_uI q_IM 0 39 0) q_J0, 34, 31630)) _
                  refine q_Ru_seg (g2 := (41, [(3, .int 0), (0, .ref 64), (1, .int 3847), (2, .int v)], [.int v, .int 3847, .ref 64], (q_cM q_AM (q_uI q_IM 0 39 0) q_J0, 34, 31630))) 4 (fun _ _ => rfl) ?_
                  refine q_Ru_call (v := none) (h2 := (q_cM A48 (q_uI q_IM 0 39 0) q_J0, 34, 31630)) rfl rfl ?_ ?_
                  · exact p48.le (Nat.le_of_ble_eq_true rfl)
                  show q_Ru _ _ _ (44, [(3, .int 0), (0, .ref 64), (1, .int 3847), (2, .int v)], [], (q_cM A48 (q_uI q_IM 0 39 0) q_J0, 34, 31630)) _
                  refine q_Ru_seg (g2 := (45, [(3, .int 0), (0, .ref 64), (1, .int 3847), (2, .int v)], [.ref 64], (q_cM A48 (q_uI q_IM 0 39 0) q_J0, 34, 31630))) 1 (fun _ _ => rfl) ?_
                  refine q_Ru_call (v := none) (h2 := (q_cM A48 (q_uI q_IM 0 39 0) q_J0, 34, 31630)) rfl rfl ?_ ?_
                  · refine q_Ca_of (Nat.le_of_ble_eq_true rfl) ?_
                    refine q_Ru_seg (g2 := (17, [(0, .ref 64)], [], (q_cM A48 (q_uI q_IM 0 39 0) q_J0, 34, 31630))) 3 (fun _ _ => rfl) ?_
                    exact q_Ru_ret rfl rfl
                  show q_Ru _ _ _ (48, [(3, .int 0), (0, .ref 64), (1, .int 3847), (2, .int v)], [], (q_cM A48 (q_uI q_IM 0 39 0) q_J0, 34, 31630)) _
                  refine q_Ru_seg (g2 := (49, [(3, .int 0), (0, .ref 64), (1, .int 3847), (2, .int v)], [.int 0], (q_cM A48 (q_uI q_IM 0 39 0) q_J0, 34, 31630))) 1 (fun _ _ => rfl) ?_
                  exact q_Ru_ret rfl rfl
              | 8, _, e249 =>
                have e249 : a = 3848 := e249
                subst e249
                obtain ⟨A49, I49, p49⟩ := q_p_write q_AX q_IX (40) (26520) 3848 v
                obtain ⟨A50, p50⟩ := q_p_writes q_AM (q_uI q_IM 0 39 0) (34) (31630) 3848 v (by decide) (by decide)
                refine ⟨0, 0, 0, ⟨(q_cX A49 I49 (q_uA q_J0 39 (vp_updL (fun _ => 0) 0 0)), 40, 26520), (q_uA q_J0 39 (vp_updL (fun _ => 0) 0 0)) 39, ?_, rfl, fun _ => rfl, Nat.le_of_ble_eq_true rfl, Nat.le_of_ble_eq_true rfl⟩, ⟨(q_cM A50 (q_uI q_IM 0 39 0) q_J0, 34, 31630), _, ?_, rfl, rfl, Nat.le_of_ble_eq_true rfl, Nat.le_of_ble_eq_true rfl⟩, fun _ => rfl⟩
                · refine q_Ca_of (Nat.le_of_ble_eq_true rfl) ?_
                  refine q_Ru_seg (g2 := (5, [(0, .ref 64), (1, .int 3848), (2, .int v), (3, .ref 103)], [.int v, .int 3848, .ref 64, .int 0, .ref 103], (q_cX q_AX q_IX q_J0, 40, 26520))) 5 (fun _ _ => rfl) ?_
                  refine q_Ru_call (v := (some (.int 0))) (h2 := (q_cX A49 I49 q_J0, 40, 26520)) rfl rfl ?_ ?_
                  · refine q_Ca_of (Nat.le_of_ble_eq_true rfl) ?_
                    refine q_Ru_seg (g2 := (1, [(0, .ref 64), (1, .int 3848), (2, .int v)], [.int 3848], (q_cX q_AX q_IX q_J0, 40, 26520))) 1 (fun _ _ => rfl) ?_
                    refine q_Ru_call (v := none) (h2 := (q_cX q_AX q_IX q_J0, 40, 26520)) rfl rfl ?_ ?_
                    · refine q_Ca_of (Nat.le_of_ble_eq_true rfl) ?_
                      refine q_Ru_seg (g2 := (4, [(0, .int 3848)], [.int 4096, .int 3848], (q_cX q_AX q_IX q_J0, 40, 26520))) 2 (fun _ _ => rfl) ?_
                      refine q_Ru_call (v := none) (h2 := (q_cX q_AX q_IX q_J0, 40, 26520)) rfl rfl ?_ ?_
                      · refine q_Ca_of (Nat.le_of_ble_eq_true rfl) ?_
                        refine q_Ru_seg (g2 := (19, [(0, .int 3848), (1, .int 4096)], [], (q_cX q_AX q_IX q_J0, 40, 26520))) 5 (fun _ _ => rfl) ?_
                        exact q_Ru_ret rfl rfl
                      show q_Ru _ _ _ (7, [(0, .int 3848)], [], (q_cX q_AX q_IX q_J0, 40, 26520)) _
                      exact q_Ru_ret rfl rfl
                    show q_Ru _ _ _ (4, [(0, .ref 64), (1, .int 3848), (2, .int v)], [], (q_cX q_AX q_IX q_J0, 40, 26520)) _
                    refine q_Ru_seg (g2 := (5, [(0, .ref 64), (1, .int 3848), (2, .int v)], [.int v], (q_cX q_AX q_IX q_J0, 40, 26520))) 1 (fun _ _ => rfl) ?_
                    refine q_Ru_call (v := none) (h2 := (q_cX q_AX q_IX q_J0, 40, 26520)) rfl rfl ?_ ?_
                    · refine q_Ca_of (Nat.le_of_ble_eq_true rfl) ?_
                      refine q_Ru_seg (g2 := (5, [(0, .int v)], [.int 255, .int 0, .int v], (q_cX q_AX q_IX q_J0, 40, 26520))) 3 (fun _ _ => rfl) ?_
                      refine q_Ru_call (v := none) (h2 := (q_cX q_AX q_IX q_J0, 40, 26520)) rfl rfl ?_ ?_
                      · refine q_Ca_of (Nat.le_of_ble_eq_true rfl) ?_
                        refine q_Ru_seg (g2 := (2, [(0, .int v), (1, .int 0), (2, .int 255)], [.int 0, .int v], (q_cX q_AX q_IX q_J0, 40, 26520))) 2 (fun _ _ => rfl) ?_
                        refine q_Ru_rsF (g2 := (5, [(0, .int v), (1, .int 0), (2, .int 255)], [], (q_cX q_AX q_IX q_J0, 40, 26520))) rfl rfl h233 ?_
                        refine q_Ru_seg (g2 := (7, [(0, .int v), (1, .int 0), (2, .int 255)], [.int 255, .int v], (q_cX q_AX q_IX q_J0, 40, 26520))) 2 (fun _ _ => rfl) ?_
                        refine q_Ru_rsT (g2 := (20, [(0, .int v), (1, .int 0), (2, .int 255)], [], (q_cX q_AX q_IX q_J0, 40, 26520))) rfl rfl (q_d_geF h235) ?_
                        exact q_Ru_ret rfl rfl
                      show q_Ru _ _ _ (8, [(0, .int v)], [], (q_cX q_AX q_IX q_J0, 40, 26520)) _
                      exact q_Ru_ret rfl rfl
                    show q_Ru _ _ _ (8, [(0, .ref 64), (1, .int 3848), (2, .int v)], [], (q_cX q_AX q_IX q_J0, 40, 26520)) _
                    refine q_Ru_seg (g2 := (13, [(0, .ref 64), (1, .int 3848), (2, .int v)], [.int 0, .int v, .int 3848, .int 0, .ref 64], (q_cX q_AX q_IX q_J0, 40, 26520))) 5 (fun _ _ => rfl) ?_
                    refine q_Ru_call (v := none) (h2 := (q_cX q_AX q_IX q_J0, 40, 26520)) rfl rfl ?_ ?_
                    · refine q_Ca_of (Nat.le_of_ble_eq_true rfl) ?_
                      refine q_Ru_seg (g2 := (19, [(0, .ref 64), (1, .int 0), (2, .int 3848), (3, .int v), (4, .int 0)], [], (q_cX q_AX q_IX q_J0, 40, 26520))) 3 (fun _ _ => rfl) ?_
                      exact q_Ru_ret rfl rfl
                    show q_Ru _ _ _ (16, [(0, .ref 64), (1, .int 3848), (2, .int v)], [], (q_cX q_AX q_IX q_J0, 40, 26520)) _
                    refine q_Ru_seg (g2 := (24, [(0, .ref 64), (1, .int 3848), (2, .int v)], [.int 0, .int v, .int 3848, .int 0, .ref 65], (q_cX q_AX q_IX q_J0, 40, 26520))) 6 (fun _ _ => rfl) ?_
                    refine q_Ru_call (v := (some (.int 0))) (h2 := (q_cX A49 I49 q_J0, 40, 26520)) rfl rfl ?_ ?_
                    · refine q_Ca_of (Nat.le_of_ble_eq_true rfl) ?_
                      refine q_Ru_seg (g2 := (74, [(0, .ref 65), (1, .int 0), (2, .int 3848), (3, .int v), (4, .int 0)], [.int v, .int 3848, .ref 66], (q_cX q_AX q_IX q_J0, 40, 26520))) 6 (fun _ _ => rfl) ?_
                      refine q_Ru_call (v := (some (.int 0))) (h2 := (q_cX A49 I49 q_J0, 40, 26520)) rfl rfl ?_ ?_
                      · refine q_Ca_of (Nat.le_of_ble_eq_true rfl) ?_
                        refine q_Ru_seg (g2 := (2, [(0, .ref 66), (1, .int 3848), (2, .int v)], [.int 3848, .ref 66], (q_cX q_AX q_IX q_J0, 40, 26520))) 2 (fun _ _ => rfl) ?_
                        refine q_Ru_call (v := (some (.int 0))) (h2 := (q_cX q_AX q_IX q_J0, 40, 26520)) rfl rfl ?_ ?_
                        · refine q_Ca_of (Nat.le_of_ble_eq_true rfl) ?_
                          refine q_Ru_seg (g2 := (27, [(2, .int 8), (0, .ref 66), (1, .int 3848)], [.int 0, .int 8, .ref 66], (q_cX q_AX q_IX q_J0, 40, 26520))) 16 (fun _ _ => rfl) ?_
                          refine q_Ru_call (v := (some (.int 0))) (h2 := (q_cX q_AX q_IX q_J0, 40, 26520)) rfl rfl ?_ ?_
                          · refine q_Ca_of (Nat.le_of_ble_eq_true rfl) ?_
                            refine q_Ru_seg (g2 := (183, [(0, .ref 66), (1, .int 8), (2, .int 0)], [.int 0], (q_cX q_AX q_IX q_J0, 40, 26520))) 3 (fun _ _ => rfl) ?_
                            exact q_Ru_ret rfl rfl
                          show q_Ru _ _ _ (30, [(2, .int 8), (0, .ref 66), (1, .int 3848)], [.int 0], (q_cX q_AX q_IX q_J0, 40, 26520)) _
                          exact q_Ru_ret rfl rfl
                        show q_Ru _ _ _ (5, [(0, .ref 66), (1, .int 3848), (2, .int v)], [.int 0], (q_cX q_AX q_IX q_J0, 40, 26520)) _
                        refine q_Ru_seg (g2 := (9, [(3, .int 0), (0, .ref 66), (1, .int 3848), (2, .int v)], [.int v, .int 3848, .ref 66], (q_cX q_AX q_IX q_J0, 40, 26520))) 4 (fun _ _ => rfl) ?_
                        refine q_Ru_call (v := none) (h2 := (q_cX A49 I49 q_J0, 40, 26520)) rfl rfl ?_ ?_
                        · exact p49.le (Nat.le_of_ble_eq_true rfl)
                        show q_Ru _ _ _ (12, [(3, .int 0), (0, .ref 66), (1, .int 3848), (2, .int v)], [], (q_cX A49 I49 q_J0, 40, 26520)) _
                        refine q_Ru_seg (g2 := (13, [(3, .int 0), (0, .ref 66), (1, .int 3848), (2, .int v)], [.int 0], (q_cX A49 I49 q_J0, 40, 26520))) 1 (fun _ _ => rfl) ?_
                        exact q_Ru_ret rfl rfl
                      show q_Ru _ _ _ (77, [(0, .ref 65), (1, .int 0), (2, .int 3848), (3, .int v), (4, .int 0)], [.int 0], (q_cX A49 I49 q_J0, 40, 26520)) _
                      exact q_Ru_ret rfl rfl
                    show q_Ru _ _ _ (27, [(0, .ref 64), (1, .int 3848), (2, .int v)], [.int 0], (q_cX A49 I49 q_J0, 40, 26520)) _
                    exact q_Ru_ret rfl rfl
                  show q_Ru _ _ _ (8, [(0, .ref 64), (1, .int 3848), (2, .int v), (3, .ref 103)], [.int 0, .int 0, .ref 103], (q_cX A49 I49 q_J0, 40, 26520)) _
                  refine q_Ru_seg (g2 := (22, [(0, .ref 64), (1, .int 3848), (2, .int v), (3, .ref 103)], [.int 0], (q_cX A49 I49 (q_uA q_J0 39 (vp_updL (fun _ => 0) 0 0)), 40, 26520))) 4 (fun _ _ => rfl) ?_
                  exact q_Ru_ret rfl rfl
                · refine q_Ca_of (Nat.le_of_ble_eq_true rfl) ?_
                  refine q_Ru_seg (g2 := (2, [(0, .ref 64), (1, .int 3848), (2, .int v)], [.int 3848, .ref 64], (q_cM q_AM q_IM q_J0, 34, 31630))) 2 (fun _ _ => rfl) ?_
                  refine q_Ru_call (v := (some (.int 0))) (h2 := (q_cM q_AM q_IM q_J0, 34, 31630)) rfl rfl ?_ ?_
                  · refine q_Ca_of (Nat.le_of_ble_eq_true rfl) ?_
                    refine q_Ru_seg (g2 := (5, [(0, .int 3848)], [.int 4095, .int 0, .int 3848], (q_cM q_AM q_IM q_J0, 34, 31630))) 3 (fun _ _ => rfl) ?_
                    refine q_Ru_call (v := (some (.int 1))) (h2 := (q_cM q_AM q_IM q_J0, 34, 31630)) rfl rfl ?_ ?_
                    · refine q_Ca_of (Nat.le_of_ble_eq_true rfl) ?_
                      refine q_Ru_seg (g2 := (15, [(0, .int 3848), (1, .int 0), (2, .int 4095)], [.int 1], (q_cM q_AM q_IM q_J0, 34, 31630))) 8 (fun _ _ => rfl) ?_
                      exact q_Ru_ret rfl rfl
                    show q_Ru _ _ _ (8, [(0, .int 3848)], [.int 1], (q_cM q_AM q_IM q_J0, 34, 31630)) _
                    refine q_Ru_seg (g2 := (16, [(0, .int 3848)], [.int 0], (q_cM q_AM q_IM q_J0, 34, 31630))) 2 (fun _ _ => rfl) ?_
                    exact q_Ru_ret rfl rfl
                  show q_Ru _ _ _ (5, [(0, .ref 64), (1, .int 3848), (2, .int v)], [.int 0, .ref 64], (q_cM q_AM q_IM q_J0, 34, 31630)) _
                  refine q_Ru_seg (g2 := (13, [(0, .ref 64), (1, .int 3848), (2, .int v)], [.int v, .ref 64], (q_cM q_AM q_IM q_J0, 34, 31630))) 2 (fun _ _ => rfl) ?_
                  refine q_Ru_call (v := (some (.int 0))) (h2 := (q_cM q_AM q_IM q_J0, 34, 31630)) rfl rfl ?_ ?_
                  · refine q_Ca_of (Nat.le_of_ble_eq_true rfl) ?_
                    refine q_Ru_seg (g2 := (5, [(0, .int v)], [.int 255, .int 0, .int v], (q_cM q_AM q_IM q_J0, 34, 31630))) 3 (fun _ _ => rfl) ?_
                    refine q_Ru_call (v := (some (.int 1))) (h2 := (q_cM q_AM q_IM q_J0, 34, 31630)) rfl rfl ?_ ?_
                    · refine q_Ca_of (Nat.le_of_ble_eq_true rfl) ?_
                      refine q_Ru_seg (g2 := (2, [(0, .int v), (1, .int 0), (2, .int 255)], [.int 0, .int v], (q_cM q_AM q_IM q_J0, 34, 31630))) 2 (fun _ _ => rfl) ?_
                      refine q_Ru_rsF (g2 := (5, [(0, .int v), (1, .int 0), (2, .int 255)], [], (q_cM q_AM q_IM q_J0, 34, 31630))) rfl rfl h233 ?_
                      refine q_Ru_seg (g2 := (7, [(0, .int v), (1, .int 0), (2, .int 255)], [.int 255, .int v], (q_cM q_AM q_IM q_J0, 34, 31630))) 2 (fun _ _ => rfl) ?_
                      refine q_Ru_rsF (g2 := (10, [(0, .int v), (1, .int 0), (2, .int 255)], [], (q_cM q_AM q_IM q_J0, 34, 31630))) rfl rfl h235 ?_
                      refine q_Ru_seg (g2 := (15, [(0, .int v), (1, .int 0), (2, .int 255)], [.int 1], (q_cM q_AM q_IM q_J0, 34, 31630))) 2 (fun _ _ => rfl) ?_
                      exact q_Ru_ret rfl rfl
                    show q_Ru _ _ _ (8, [(0, .int v)], [.int 1], (q_cM q_AM q_IM q_J0, 34, 31630)) _
                    refine q_Ru_seg (g2 := (16, [(0, .int v)], [.int 0], (q_cM q_AM q_IM q_J0, 34, 31630))) 2 (fun _ _ => rfl) ?_
                    exact q_Ru_ret rfl rfl
                  show q_Ru _ _ _ (16, [(0, .ref 64), (1, .int 3848), (2, .int v)], [.int 0, .ref 64], (q_cM q_AM q_IM q_J0, 34, 31630)) _
                  refine q_Ru_seg (g2 := (24, [(0, .ref 64), (1, .int 3848), (2, .int v)], [.int 0, .ref 64], (q_cM q_AM q_IM q_J0, 34, 31630))) 2 (fun _ _ => rfl) ?_
                  refine q_Ru_call (v := (some (.int 0))) (h2 := (q_cM q_AM (q_uI q_IM 0 39 0) q_J0, 34, 31630)) rfl rfl ?_ ?_
                  · refine q_Ca_of (Nat.le_of_ble_eq_true rfl) ?_
                    refine q_Ru_seg (g2 := (14, [(0, .ref 64), (1, .int 0)], [.int 0], (q_cM q_AM (q_uI q_IM 0 39 0) q_J0, 34, 31630))) 6 (fun _ _ => rfl) ?_
                    exact q_Ru_ret rfl rfl
                  show q_Ru _ _ _ (27, [(0, .ref 64), (1, .int 3848), (2, .int v)], [.int 0], (q_cM q_AM (q_uI q_IM 0 39 0) q_J0, 34, 31630)) _
                  refine q_Ru_seg (g2 := (34, [(0, .ref 64), (1, .int 3848), (2, .int v)], [.int 3848, .ref 64], (q_cM q_AM (q_uI q_IM 0 39 0) q_J0, 34, 31630))) 3 (fun _ _ => rfl) ?_
                  refine q_Ru_call (v := (some (.int 0))) (h2 := (q_cM q_AM (q_uI q_IM 0 39 0) q_J0, 34, 31630)) rfl rfl ?_ ?_
                  · refine q_Ca_of (Nat.le_of_ble_eq_true rfl) ?_
                    refine q_Ru_seg (g2 := (7, [(0, .ref 64), (1, .int 3848)], [.int 3887, .int 3840, .int 3848], (q_cM q_AM (q_uI q_IM 0 39 0) q_J0, 34, 31630))) 3 (fun _ _ => rfl) ?_
                    refine q_Ru_call (v := (some (.int 1))) (h2 := (q_cM q_AM (q_uI q_IM 0 39 0) q_J0, 34, 31630)) rfl rfl ?_ ?_
                    · refine q_Ca_of (Nat.le_of_ble_eq_true rfl) ?_
                      refine q_Ru_seg (g2 := (15, [(0, .int 3848), (1, .int 3840), (2, .int 3887)], [.int 1], (q_cM q_AM (q_uI q_IM 0 39 0) q_J0, 34, 31630))) 8 (fun _ _ => rfl) ?_
                      exact q_Ru_ret rfl rfl
                    show q_Ru _ _ _ (10, [(0, .ref 64), (1, .int 3848)], [.int 1], (q_cM q_AM (q_uI q_IM 0 39 0) q_J0, 34, 31630)) _
                    refine q_Ru_seg (g2 := (19, [(0, .ref 64), (1, .int 3848)], [.int 8, .ref 64], (q_cM q_AM (q_uI q_IM 0 39 0) q_J0, 34, 31630))) 5 (fun _ _ => rfl) ?_
                    refine q_Ru_call (v := (some (.int 0))) (h2 := (q_cM q_AM (q_uI q_IM 0 39 0) q_J0, 34, 31630)) rfl rfl ?_ ?_
                    · refine q_Ca_of (Nat.le_of_ble_eq_true rfl) ?_
                      refine q_Ru_seg (g2 := (30, [(0, .ref 64), (1, .int 8)], [.int 15, .int 12, .int 8], (q_cM q_AM (q_uI q_IM 0 39 0) q_J0, 34, 31630))) 9 (fun _ _ => rfl) ?_
                      refine q_Ru_call (v := (some (.int 0))) (h2 := (q_cM q_AM (q_uI q_IM 0 39 0) q_J0, 34, 31630)) rfl rfl ?_ ?_
                      · refine q_Ca_of (Nat.le_of_ble_eq_true rfl) ?_
                        refine q_Ru_seg (g2 := (15, [(0, .int 8), (1, .int 12), (2, .int 15)], [.int 0], (q_cM q_AM (q_uI q_IM 0 39 0) q_J0, 34, 31630))) 4 (fun _ _ => rfl) ?_
                        exact q_Ru_ret rfl rfl
                      show q_Ru _ _ _ (33, [(0, .ref 64), (1, .int 8)], [.int 0], (q_cM q_AM (q_uI q_IM 0 39 0) q_J0, 34, 31630)) _
                      refine q_Ru_seg (g2 := (190, [(0, .ref 64), (1, .int 8)], [.int 0], (q_cM q_AM (q_uI q_IM 0 39 0) q_J0, 34, 31630))) 20 (fun _ _ => rfl) ?_
                      exact q_Ru_ret rfl rfl
                    show q_Ru _ _ _ (22, [(0, .ref 64), (1, .int 3848)], [.int 0], (q_cM q_AM (q_uI q_IM 0 39 0) q_J0, 34, 31630)) _
                    exact q_Ru_ret rfl rfl
                  show q_Ru _ _ _ (37, [(0, .ref 64), (1, .int 3848), (2, .int v)], [.int 0], (q_cM q_AM (q_uI q_IM 0 39 0) q_J0, 34, 31630)) _
                  refine q_Ru_seg (g2 := (41, [(3, .int 0), (0, .ref 64), (1, .int 3848), (2, .int v)], [.int v, .int 3848, .ref 64], (q_cM q_AM (q_uI q_IM 0 39 0) q_J0, 34, 31630))) 4 (fun _ _ => rfl) ?_
                  refine q_Ru_call (v := none) (h2 := (q_cM A50 (q_uI q_IM 0 39 0) q_J0, 34, 31630)) rfl rfl ?_ ?_
                  · exact p50.le (Nat.le_of_ble_eq_true rfl)
                  show q_Ru _ _ _ (44, [(3, .int 0), (0, .ref 64), (1, .int 3848), (2, .int v)], [], (q_cM A50 (q_uI q_IM 0 39 0) q_J0, 34, 31630)) _
                  refine q_Ru_seg (g2 := (45, [(3, .int 0), (0, .ref 64), (1, .int 3848), (2, .int v)], [.ref 64], (q_cM A50 (q_uI q_IM 0 39 0) q_J0, 34, 31630))) 1 (fun _ _ => rfl) ?_
                  refine q_Ru_call (v := none) (h2 := (q_cM A50 (q_uI q_IM 0 39 0) q_J0, 34, 31630)) rfl rfl ?_ ?_
                  · refine q_Ca_of (Nat.le_of_ble_eq_true rfl) ?_
                    refine q_Ru_seg (g2 := (17, [(0, .ref 64)], [], (q_cM A50 (q_uI q_IM 0 39 0) q_J0, 34, 31630))) 3 (fun _ _ => rfl) ?_
                    exact q_Ru_ret rfl rfl
                  show q_Ru _ _ _ (48, [(3, .int 0), (0, .ref 64), (1, .int 3848), (2, .int v)], [], (q_cM A50 (q_uI q_IM 0 39 0) q_J0, 34, 31630)) _
                  refine q_Ru_seg (g2 := (49, [(3, .int 0), (0, .ref 64), (1, .int 3848), (2, .int v)], [.int 0], (q_cM A50 (q_uI q_IM 0 39 0) q_J0, 34, 31630))) 1 (fun _ _ => rfl) ?_
                  exact q_Ru_ret rfl rfl
              | 9, _, e249 =>
                have e249 : a = 3849 := e249
                subst e249
                obtain ⟨A51, I51, p51⟩ := q_p_write q_AX q_IX (40) (26520) 3849 v
                obtain ⟨A52, p52⟩ := q_p_writes q_AM (q_uI q_IM 0 39 0) (34) (31630) 3849 v (by decide) (by decide)
                refine ⟨0, 0, 0, ⟨(q_cX A51 I51 (q_uA q_J0 39 (vp_updL (fun _ => 0) 0 0)), 40, 26520), (q_uA q_J0 39 (vp_updL (fun _ => 0) 0 0)) 39, ?_, rfl, fun _ => rfl, Nat.le_of_ble_eq_true rfl, Nat.le_of_ble_eq_true rfl⟩, ⟨(q_cM A52 (q_uI q_IM 0 39 0) q_J0, 34, 31630), _, ?_, rfl, rfl, Nat.le_of_ble_eq_true rfl, Nat.le_of_ble_eq_true rfl⟩, fun _ => rfl⟩
                · refine q_Ca_of (Nat.le_of_ble_eq_true rfl) ?_
                  refine q_Ru_seg (g2 := (5, [(0, .ref 64), (1, .int 3849), (2, .int v), (3, .ref 103)], [.int v, .int 3849, .ref 64, .int 0, .ref 103], (q_cX q_AX q_IX q_J0, 40, 26520))) 5 (fun _ _ => rfl) ?_
                  refine q_Ru_call (v := (some (.int 0))) (h2 := (q_cX A51 I51 q_J0, 40, 26520)) rfl rfl ?_ ?_
                  · refine q_Ca_of (Nat.le_of_ble_eq_true rfl) ?_
                    refine q_Ru_seg (g2 := (1, [(0, .ref 64), (1, .int 3849), (2, .int v)], [.int 3849], (q_cX q_AX q_IX q_J0, 40, 26520))) 1 (fun _ _ => rfl) ?_
                    refine q_Ru_call (v := none) (h2 := (q_cX q_AX q_IX q_J0, 40, 26520)) rfl rfl ?_ ?_
                    · refine q_Ca_of (Nat.le_of_ble_eq_true rfl) ?_
                      refine q_Ru_seg (g2 := (4, [(0, .int 3849)], [.int 4096, .int 3849], (q_cX q_AX q_IX q_J0, 40, 26520))) 2 (fun _ _ => rfl) ?_
                      refine q_Ru_call (v := none) (h2 := (q_cX q_AX q_IX q_J0, 40, 26520)) rfl rfl ?_ ?_
                      · refine q_Ca_of (Nat.le_of_ble_eq_true rfl) ?_
                        refine q_Ru_seg (g2 := (19, [(0, .int 3849), (1, .int 4096)], [], (q_cX q_AX q_IX q_J0, 40, 26520))) 5 (fun _ _ => rfl) ?_
                        exact q_Ru_ret rfl rfl
                      show q_Ru _ _ _ (7, [(0, .int 3849)], [], (q_cX q_AX q_IX q_J0, 40, 26520)) _
                      exact q_Ru_ret rfl rfl
                    show q_Ru _ _ _ (4, [(0, .ref 64), (1, .int 3849), (2, .int v)], [], (q_cX q_AX q_IX q_J0, 40, 26520)) _
                    refine q_Ru_seg (g2 := (5, [(0, .ref 64), (1, .int 3849), (2, .int v)], [.int v], (q_cX q_AX q_IX q_J0, 40, 26520))) 1 (fun _ _ => rfl) ?_
                    refine q_Ru_call (v := none) (h2 := (q_cX q_AX q_IX q_J0, 40, 26520)) rfl rfl ?_ ?_
                    · refine q_Ca_of (Nat.le_of_ble_eq_true rfl) ?_
                      refine q_Ru_seg (g2 := (5, [(0, .int v)], [.int 255, .int 0, .int v], (q_cX q_AX q_IX q_J0, 40, 26520))) 3 (fun _ _ => rfl) ?_
                      refine q_Ru_call (v := none) (h2 := (q_cX q_AX q_IX q_J0, 40, 26520)) rfl rfl ?_ ?_
                      · refine q_Ca_of (Nat.le_of_ble_eq_true rfl) ?_
                        refine q_Ru_seg (g2 := (2, [(0, .int v), (1, .int 0), (2, .int 255)], [.int 0, .int v], (q_cX q_AX q_IX q_J0, 40, 26520))) 2 (fun _ _ => rfl) ?_
                        refine q_Ru_rsF (g2 := (5, [(0, .int v), (1, .int 0), (2, .int 255)], [], (q_cX q_AX q_IX q_J0, 40, 26520))) rfl rfl h233 ?_
                        refine q_Ru_seg (g2 := (7, [(0, .int v), (1, .int 0), (2, .int 255)], [.int 255, .int v], (q_cX q_AX q_IX q_J0, 40, 26520))) 2 (fun _ _ => rfl) ?_
                        refine q_Ru_rsT (g2 := (20, [(0, .int v), (1, .int 0), (2, .int 255)], [], (q_cX q_AX q_IX q_J0, 40, 26520))) rfl rfl (q_d_geF h235) ?_
                        exact q_Ru_ret rfl rfl
                      show q_Ru _ _ _ (8, [(0, .int v)], [], (q_cX q_AX q_IX q_J0, 40, 26520)) _
                      exact q_Ru_ret rfl rfl
                    show q_Ru _ _ _ (8, [(0, .ref 64), (1, .int 3849), (2, .int v)], [], (q_cX q_AX q_IX q_J0, 40, 26520)) _
                    refine q_Ru_seg (g2 := (13, [(0, .ref 64), (1, .int 3849), (2, .int v)], [.int 0, .int v, .int 3849, .int 0, .ref 64], (q_cX q_AX q_IX q_J0, 40, 26520))) 5 (fun _ _ => rfl) ?_
                    refine q_Ru_call (v := none) (h2 := (q_cX q_AX q_IX q_J0, 40, 26520)) rfl rfl ?_ ?_
                    · refine q_Ca_of (Nat.le_of_ble_eq_true rfl) ?_
                      refine q_Ru_seg (g2 := (19, [(0, .ref 64), (1, .int 0), (2, .int 3849), (3, .int v), (4, .int 0)], [], (q_cX q_AX q_IX q_J0, 40, 26520))) 3 (fun _ _ => rfl) ?_
                      exact q_Ru_ret rfl rfl
                    show q_Ru _ _ _ (16, [(0, .ref 64), (1, .int 3849), (2, .int v)], [], (q_cX q_AX q_IX q_J0, 40, 26520)) _
                    refine q_Ru_seg (g2 := (24, [(0, .ref 64), (1, .int 3849), (2, .int v)], [.int 0, .int v, .int 3849, .int 0, .ref 65], (q_cX q_AX q_IX q_J0, 40, 26520))) 6 (fun _ _ => rfl) ?_
                    refine q_Ru_call (v := (some (.int 0))) (h2 := (q_cX A51 I51 q_J0, 40, 26520)) rfl rfl ?_ ?_
                    · refine q_Ca_of (Nat.le_of_ble_eq_true rfl) ?_
                      refine q_Ru_seg (g2 := (74, [(0, .ref 65), (1, .int 0), (2, .int 3849), (3, .int v), (4, .int 0)], [.int v, .int 3849, .ref 66], (q_cX q_AX q_IX q_J0, 40, 26520))) 6 (fun _ _ => rfl) ?_
                      refine q_Ru_call (v := (some (.int 0))) (h2 := (q_cX A51 I51 q_J0, 40, 26520)) rfl rfl ?_ ?_
                      · refine q_Ca_of (Nat.le_of_ble_eq_true rfl) ?_
                        refine q_Ru_seg (g2 := (2, [(0, .ref 66), (1, .int 3849), (2, .int v)], [.int 3849, .ref 66], (q_cX q_AX q_IX q_J0, 40, 26520))) 2 (fun _ _ => rfl) ?_
                        refine q_Ru_call (v := (some (.int 0))) (h2 := (q_cX q_AX q_IX q_J0, 40, 26520)) rfl rfl ?_ ?_
                        · refine q_Ca_of (Nat.le_of_ble_eq_true rfl) ?_
                          refine q_Ru_seg (g2 := (27, [(2, .int 9), (0, .ref 66), (1, .int 3849)], [.int 0, .int 9, .ref 66], (q_cX q_AX q_IX q_J0, 40, 26520))) 16 (fun _ _ => rfl) ?_
                          refine q_Ru_call (v := (some (.int 0))) (h2 := (q_cX q_AX q_IX q_J0, 40, 26520)) rfl rfl ?_ ?_
                          · refine q_Ca_of (Nat.le_of_ble_eq_true rfl) ?_
                            refine q_Ru_seg (g2 := (80, [(0, .ref 66), (1, .int 9), (2, .int 0)], [.int 0], (q_cX q_AX q_IX q_J0, 40, 26520))) 9 (fun _ _ => rfl) ?_
                            exact q_Ru_ret rfl rfl
                          show q_Ru _ _ _ (30, [(2, .int 9), (0, .ref 66), (1, .int 3849)], [.int 0], (q_cX q_AX q_IX q_J0, 40, 26520)) _
                          exact q_Ru_ret rfl rfl
                        show q_Ru _ _ _ (5, [(0, .ref 66), (1, .int 3849), (2, .int v)], [.int 0], (q_cX q_AX q_IX q_J0, 40, 26520)) _
                        refine q_Ru_seg (g2 := (9, [(3, .int 0), (0, .ref 66), (1, .int 3849), (2, .int v)], [.int v, .int 3849, .ref 66], (q_cX q_AX q_IX q_J0, 40, 26520))) 4 (fun _ _ => rfl) ?_
                        refine q_Ru_call (v := none) (h2 := (q_cX A51 I51 q_J0, 40, 26520)) rfl rfl ?_ ?_
                        · exact p51.le (Nat.le_of_ble_eq_true rfl)
                        show q_Ru _ _ _ (12, [(3, .int 0), (0, .ref 66), (1, .int 3849), (2, .int v)], [], (q_cX A51 I51 q_J0, 40, 26520)) _
                        refine q_Ru_seg (g2 := (13, [(3, .int 0), (0, .ref 66), (1, .int 3849), (2, .int v)], [.int 0], (q_cX A51 I51 q_J0, 40, 26520))) 1 (fun _ _ => rfl) ?_
                        exact q_Ru_ret rfl rfl
                      show q_Ru _ _ _ (77, [(0, .ref 65), (1, .int 0), (2, .int 3849), (3, .int v), (4, .int 0)], [.int 0], (q_cX A51 I51 q_J0, 40, 26520)) _
                      exact q_Ru_ret rfl rfl
                    show q_Ru _ _ _ (27, [(0, .ref 64), (1, .int 3849), (2, .int v)], [.int 0], (q_cX A51 I51 q_J0, 40, 26520)) _
                    exact q_Ru_ret rfl rfl
                  show q_Ru _ _ _ (8, [(0, .ref 64), (1, .int 3849), (2, .int v), (3, .ref 103)], [.int 0, .int 0, .ref 103], (q_cX A51 I51 q_J0, 40, 26520)) _
                  refine q_Ru_seg (g2 := (22, [(0, .ref 64), (1, .int 3849), (2, .int v), (3, .ref 103)], [.int 0], (q_cX A51 I51 (q_uA q_J0 39 (vp_updL (fun _ => 0) 0 0)), 40, 26520))) 4 (fun _ _ => rfl) ?_
                  exact q_Ru_ret rfl rfl
                · refine q_Ca_of (Nat.le_of_ble_eq_true rfl) ?_
                  refine q_Ru_seg (g2 := (2, [(0, .ref 64), (1, .int 3849), (2, .int v)], [.int 3849, .ref 64], (q_cM q_AM q_IM q_J0, 34, 31630))) 2 (fun _ _ => rfl) ?_
                  refine q_Ru_call (v := (some (.int 0))) (h2 := (q_cM q_AM q_IM q_J0, 34, 31630)) rfl rfl ?_ ?_
                  · refine q_Ca_of (Nat.le_of_ble_eq_true rfl) ?_
                    refine q_Ru_seg (g2 := (5, [(0, .int 3849)], [.int 4095, .int 0, .int 3849], (q_cM q_AM q_IM q_J0, 34, 31630))) 3 (fun _ _ => rfl) ?_
                    refine q_Ru_call (v := (some (.int 1))) (h2 := (q_cM q_AM q_IM q_J0, 34, 31630)) rfl rfl ?_ ?_
                    · refine q_Ca_of (Nat.le_of_ble_eq_true rfl) ?_
                      refine q_Ru_seg (g2 := (15, [(0, .int 3849), (1, .int 0), (2, .int 4095)], [.int 1], (q_cM q_AM q_IM q_J0, 34, 31630))) 8 (fun _ _ => rfl) ?_
                      exact q_Ru_ret rfl rfl
                    show q_Ru _ _ _ (8, [(0, .int 3849)], [.int 1], (q_cM q_AM q_IM q_J0, 34, 31630)) _
                    refine q_Ru_seg (g2 := (16, [(0, .int 3849)], [.int 0], (q_cM q_AM q_IM q_J0, 34, 31630))) 2 (fun _ _ => rfl) ?_
                    exact q_Ru_ret rfl rfl
                  show q_Ru _ _ _ (5, [(0, .ref 64), (1, .int 3849), (2, .int v)], [.int 0, .ref 64], (q_cM q_AM q_IM q_J0, 34, 31630)) _
                  refine q_Ru_seg (g2 := (13, [(0, .ref 64), (1, .int 3849), (2, .int v)], [.int v, .ref 64], (q_cM q_AM q_IM q_J0, 34, 31630))) 2 (fun _ _ => rfl) ?_
                  refine q_Ru_call (v := (some (.int 0))) (h2 := (q_cM q_AM q_IM q_J0, 34, 31630)) rfl rfl ?_ ?_
                  · refine q_Ca_of (Nat.le_of_ble_eq_true rfl) ?_
                    refine q_Ru_seg (g2 := (5, [(0, .int v)], [.int 255, .int 0, .int v], (q_cM q_AM q_IM q_J0, 34, 31630))) 3 (fun _ _ => rfl) ?_
                    refine q_Ru_call (v := (some (.int 1))) (h2 := (q_cM q_AM q_IM q_J0, 34, 31630)) rfl rfl ?_ ?_
                    · refine q_Ca_of (Nat.le_of_ble_eq_true rfl) ?_
                      refine q_Ru_seg (g2 := (2, [(0, .int v), (1, .int 0), (2, .int 255)], [.int 0, .int v], (q_cM q_AM q_IM q_J0, 34, 31630))) 2 (fun _ _ => rfl) ?_
                      refine q_Ru_rsF (g2 := (5, [(0, .int v), (1, .int 0), (2, .int 255)], [], (q_cM q_AM q_IM q_J0, 34, 31630))) rfl rfl h233 ?_
                      refine q_Ru_seg (g2 := (7, [(0, .int v), (1, .int 0), (2, .int 255)], [.int 255, .int v], (q_cM q_AM q_IM q_J0, 34, 31630))) 2 (fun _ _ => rfl) ?_
                      refine q_Ru_rsF (g2 := (10, [(0, .int v), (1, .int 0), (2, .int 255)], [], (q_cM q_AM q_IM q_J0, 34, 31630))) rfl rfl h235 ?_
                      refine q_Ru_seg (g2 := (15, [(0, .int v), (1, .int 0), (2, .int 255)], [.int 1], (q_cM q_AM q_IM q_J0, 34, 31630))) 2 (fun _ _ => rfl) ?_
                      exact q_Ru_ret rfl rfl
                    show q_Ru _ _ _ (8, [(0, .int v)], [.int 1], (q_cM q_AM q_IM q_J0, 34, 31630)) _
                    refine q_Ru_seg (g2 := (16, [(0, .int v)], [.int 0], (q_cM q_AM q_IM q_J0, 34, 31630))) 2 (fun _ _ => rfl) ?_
                    exact q_Ru_ret rfl rfl
                  show q_Ru _ _ _ (16, [(0, .ref 64), (1, .int 3849), (2, .int v)], [.int 0, .ref 64], (q_cM q_AM q_IM q_J0, 34, 31630)) _
                  refine q_Ru_seg (g2 := (24, [(0, .ref 64), (1, .int 3849), (2, .int v)], [.int 0, .ref 64], (q_cM q_AM q_IM q_J0, 34, 31630))) 2 (fun _ _ => rfl) ?_
                  refine q_Ru_call (v := (some (.int 0))) (h2 := (q_cM q_AM (q_uI q_IM 0 39 0) q_J0, 34, 31630)) rfl rfl ?_ ?_
                  · refine q_Ca_of (Nat.le_of_ble_eq_true rfl) ?_
                    refine q_Ru_seg (g2 := (14, [(0, .ref 64), (1, .int 0)], [.int 0], (q_cM q_AM (q_uI q_IM 0 39 0) q_J0, 34, 31630))) 6 (fun _ _ => rfl) ?_
                    exact q_Ru_ret rfl rfl
                  show q_Ru _ _ _ (27, [(0, .ref 64), (1, .int 3849), (2, .int v)], [.int 0], (q_cM q_AM (q_uI q_IM 0 39 0) q_J0, 34, 31630)) _
                  refine q_Ru_seg (g2 := (34, [(0, .ref 64), (1, .int 3849), (2, .int v)], [.int 3849, .ref 64], (q_cM q_AM (q_uI q_IM 0 39 0) q_J0, 34, 31630))) 3 (fun _ _ => rfl) ?_
                  refine q_Ru_call (v := (some (.int 0))) (h2 := (q_cM q_AM (q_uI q_IM 0 39 0) q_J0, 34, 31630)) rfl rfl ?_ ?_
                  · refine q_Ca_of (Nat.le_of_ble_eq_true rfl) ?_
                    refine q_Ru_seg (g2 := (7, [(0, .ref 64), (1, .int 3849)], [.int 3887, .int 3840, .int 3849], (q_cM q_AM (q_uI q_IM 0 39 0) q_J0, 34, 31630))) 3 (fun _ _ => rfl) ?_
                    refine q_Ru_call (v := (some (.int 1))) (h2 := (q_cM q_AM (q_uI q_IM 0 39 0) q_J0, 34, 31630)) rfl rfl ?_ ?_
                    · refine q_Ca_of (Nat.le_of_ble_eq_true rfl) ?_
                      refine q_Ru_seg (g2 := (15, [(0, .int 3849), (1, .int 3840), (2, .int 3887)], [.int 1], (q_cM q_AM (q_uI q_IM 0 39 0) q_J0, 34, 31630))) 8 (fun _ _ => rfl) ?_
                      exact q_Ru_ret rfl rfl
                    show q_Ru _ _ _ (10, [(0, .ref 64), (1, .int 3849)], [.int 1], (q_cM q_AM (q_uI q_IM 0 39 0) q_J0, 34, 31630)) _
                    refine q_Ru_seg (g2 := (19, [(0, .ref 64), (1, .int 3849)], [.int 9, .ref 64], (q_cM q_AM (q_uI q_IM 0 39 0) q_J0, 34, 31630))) 5 (fun _ _ => rfl) ?_
                    refine q_Ru_call (v := (some (.int 0))) (h2 := (q_cM q_AM (q_uI q_IM 0 39 0) q_J0, 34, 31630)) rfl rfl ?_ ?_
                    · refine q_Ca_of (Nat.le_of_ble_eq_true rfl) ?_
                      refine q_Ru_seg (g2 := (7, [(0, .ref 64), (1, .int 9)], [.ref 64], (q_cM q_AM (q_uI q_IM 0 39 0) q_J0, 34, 31630))) 4 (fun _ _ => rfl) ?_
                      refine q_Ru_call (v := (some (.int 0))) (h2 := (q_cM q_AM (q_uI q_IM 0 39 0) q_J0, 34, 31630)) rfl rfl ?_ ?_
                      · refine q_Ca_of (Nat.le_of_ble_eq_true rfl) ?_
                        refine q_Ru_seg (g2 := (13, [(0, .ref 64)], [.int 0], (q_cM q_AM (q_uI q_IM 0 39 0) q_J0, 34, 31630))) 7 (fun _ _ => rfl) ?_
                        exact q_Ru_ret rfl rfl
                      show q_Ru _ _ _ (10, [(0, .ref 64), (1, .int 9)], [.int 0], (q_cM q_AM (q_uI q_IM 0 39 0) q_J0, 34, 31630)) _
                      exact q_Ru_ret rfl rfl
                    show q_Ru _ _ _ (22, [(0, .ref 64), (1, .int 3849)], [.int 0], (q_cM q_AM (q_uI q_IM 0 39 0) q_J0, 34, 31630)) _
                    exact q_Ru_ret rfl rfl
                  show q_Ru _ _ _ (37, [(0, .ref 64), (1, .int 3849), (2, .int v)], [.int 0], (q_cM q_AM (q_uI q_IM 0 39 0) q_J0, 34, 31630)) _
                  refine q_Ru_seg (g2 := (41, [(3, .int 0), (0, .ref 64), (1, .int 3849), (2, .int v)], [.int v, .int 3849, .ref 64], (q_cM q_AM (q_uI q_IM 0 39 0) q_J0, 34, 31630))) 4 (fun _ _ => rfl) ?_
                  refine q_Ru_call (v := none) (h2 := (q_cM A52 (q_uI q_IM 0 39 0) q_J0, 34, 31630)) rfl rfl ?_ ?_
                  · exact p52.le (Nat.le_of_ble_eq_true rfl)
                  show q_Ru _ _ _ (44, [(3, .int 0), (0, .ref 64), (1, .int 3849), (2, .int v)], [], (q_cM A52 (q_uI q_IM 0 39 0) q_J0, 34, 31630)) _
                  refine q_Ru_seg (g2 := (45, [(3, .int 0), (0, .ref 64), (1, .int 3849), (2, .int v)], [.ref 64], (q_cM A52 (q_uI q_IM 0 39 0) q_J0, 34, 31630))) 1 (fun _ _ => rfl) ?_
                  refine q_Ru_call (v := none) (h2 := (q_cM A52 (q_uI q_IM 0 39 0) q_J0, 34, 31630)) rfl rfl ?_ ?_
                  · refine q_Ca_of (Nat.le_of_ble_eq_true rfl) ?_
                    refine q_Ru_seg (g2 := (17, [(0, .ref 64)], [], (q_cM A52 (q_uI q_IM 0 39 0) q_J0, 34, 31630))) 3 (fun _ _ => rfl) ?_
                    exact q_Ru_ret rfl rfl
                  show q_Ru _ _ _ (48, [(3, .int 0), (0, .ref 64), (1, .int 3849), (2, .int v)], [], (q_cM A52 (q_uI q_IM 0 39 0) q_J0, 34, 31630)) _
                  refine q_Ru_seg (g2 := (49, [(3, .int 0), (0, .ref 64), (1, .int 3849), (2, .int v)], [.int 0], (q_cM A52 (q_uI q_IM 0 39 0) q_J0, 34, 31630))) 1 (fun _ _ => rfl) ?_
                  exact q_Ru_ret rfl rfl
              | 10, _, e249 =>
                have e249 : a = 3850 := e249
                subst e249
                obtain ⟨A53, I53, p53⟩ := q_p_write q_AX q_IX (40) (26520) 3850 v
                obtain ⟨A54, p54⟩ := q_p_writes q_AM (q_uI q_IM 0 39 0) (34) (31630) 3850 v (by decide) (by decide)
                refine ⟨0, 0, 0, ⟨(q_cX A53 I53 (q_uA q_J0 39 (vp_updL (fun _ => 0) 0 0)), 40, 26520), (q_uA q_J0 39 (vp_updL (fun _ => 0) 0 0)) 39, ?_, rfl, fun _ => rfl, Nat.le_of_ble_eq_true rfl, Nat.le_of_ble_eq_true rfl⟩, ⟨(q_cM A54 (q_uI q_IM 0 39 0) q_J0, 34, 31630), _, ?_, rfl, rfl, Nat.le_of_ble_eq_true rfl, Nat.le_of_ble_eq_true rfl⟩, fun _ => rfl⟩
                · refine q_Ca_of (Nat.le_of_ble_eq_true rfl) ?_
                  refine q_Ru_seg (g2 := (5, [(0, .ref 64), (1, .int 3850), (2, .int v), (3, .ref 103)], [.int v, .int 3850, .ref 64, .int 0, .ref 103], (q_cX q_AX q_IX q_J0, 40, 26520))) 5 (fun _ _ => rfl) ?_
                  refine q_Ru_call (v := (some (.int 0))) (h2 := (q_cX A53 I53 q_J0, 40, 26520)) rfl rfl ?_ ?_
                  · refine q_Ca_of (Nat.le_of_ble_eq_true rfl) ?_
                    refine q_Ru_seg (g2 := (1, [(0, .ref 64), (1, .int 3850), (2, .int v)], [.int 3850], (q_cX q_AX q_IX q_J0, 40, 26520))) 1 (fun _ _ => rfl) ?_
                    refine q_Ru_call (v := none) (h2 := (q_cX q_AX q_IX q_J0, 40, 26520)) rfl rfl ?_ ?_
                    · refine q_Ca_of (Nat.le_of_ble_eq_true rfl) ?_
                      refine q_Ru_seg (g2 := (4, [(0, .int 3850)], [.int 4096, .int 3850], (q_cX q_AX q_IX q_J0, 40, 26520))) 2 (fun _ _ => rfl) ?_
                      refine q_Ru_call (v := none) (h2 := (q_cX q_AX q_IX q_J0, 40, 26520)) rfl rfl ?_ ?_
                      · refine q_Ca_of (Nat.le_of_ble_eq_true rfl) ?_
                        refine q_Ru_seg (g2 := (19, [(0, .int 3850), (1, .int 4096)], [], (q_cX q_AX q_IX q_J0, 40, 26520))) 5 (fun _ _ => rfl) ?_
                        exact q_Ru_ret rfl rfl
                      show q_Ru _ _ _ (7, [(0, .int 3850)], [], (q_cX q_AX q_IX q_J0, 40, 26520)) _
                      exact q_Ru_ret rfl rfl
                    show q_Ru _ _ _ (4, [(0, .ref 64), (1, .int 3850), (2, .int v)], [], (q_cX q_AX q_IX q_J0, 40, 26520)) _
                    refine q_Ru_seg (g2 := (5, [(0, .ref 64), (1, .int 3850), (2, .int v)], [.int v], (q_cX q_AX q_IX q_J0, 40, 26520))) 1 (fun _ _ => rfl) ?_
                    refine q_Ru_call (v := none) (h2 := (q_cX q_AX q_IX q_J0, 40, 26520)) rfl rfl ?_ ?_
                    · refine q_Ca_of (Nat.le_of_ble_eq_true rfl) ?_
                      refine q_Ru_seg (g2 := (5, [(0, .int v)], [.int 255, .int 0, .int v], (q_cX q_AX q_IX q_J0, 40, 26520))) 3 (fun _ _ => rfl) ?_
                      refine q_Ru_call (v := none) (h2 := (q_cX q_AX q_IX q_J0, 40, 26520)) rfl rfl ?_ ?_
                      · refine q_Ca_of (Nat.le_of_ble_eq_true rfl) ?_
                        refine q_Ru_seg (g2 := (2, [(0, .int v), (1, .int 0), (2, .int 255)], [.int 0, .int v], (q_cX q_AX q_IX q_J0, 40, 26520))) 2 (fun _ _ => rfl) ?_
                        refine q_Ru_rsF (g2 := (5, [(0, .int v), (1, .int 0), (2, .int 255)], [], (q_cX q_AX q_IX q_J0, 40, 26520))) rfl rfl h233 ?_
                        refine q_Ru_seg (g2 := (7, [(0, .int v), (1, .int 0), (2, .int 255)], [.int 255, .int v], (q_cX q_AX q_IX q_J0, 40, 26520))) 2 (fun _ _ => rfl) ?_
                        refine q_Ru_rsT (g2 := (20, [(0, .int v), (1, .int 0), (2, .int 255)], [], (q_cX q_AX q_IX q_J0, 40, 26520))) rfl rfl (q_d_geF h235) ?_
                        exact q_Ru_ret rfl rfl
                      show q_Ru _ _ _ (8, [(0, .int v)], [], (q_cX q_AX q_IX q_J0, 40, 26520)) _
                      exact q_Ru_ret rfl rfl
                    show q_Ru _ _ _ (8, [(0, .ref 64), (1, .int 3850), (2, .int v)], [], (q_cX q_AX q_IX q_J0, 40, 26520)) _
                    refine q_Ru_seg (g2 := (13, [(0, .ref 64), (1, .int 3850), (2, .int v)], [.int 0, .int v, .int 3850, .int 0, .ref 64], (q_cX q_AX q_IX q_J0, 40, 26520))) 5 (fun _ _ => rfl) ?_
                    refine q_Ru_call (v := none) (h2 := (q_cX q_AX q_IX q_J0, 40, 26520)) rfl rfl ?_ ?_
                    · refine q_Ca_of (Nat.le_of_ble_eq_true rfl) ?_
                      refine q_Ru_seg (g2 := (19, [(0, .ref 64), (1, .int 0), (2, .int 3850), (3, .int v), (4, .int 0)], [], (q_cX q_AX q_IX q_J0, 40, 26520))) 3 (fun _ _ => rfl) ?_
                      exact q_Ru_ret rfl rfl
                    show q_Ru _ _ _ (16, [(0, .ref 64), (1, .int 3850), (2, .int v)], [], (q_cX q_AX q_IX q_J0, 40, 26520)) _
                    refine q_Ru_seg (g2 := (24, [(0, .ref 64), (1, .int 3850), (2, .int v)], [.int 0, .int v, .int 3850, .int 0, .ref 65], (q_cX q_AX q_IX q_J0, 40, 26520))) 6 (fun _ _ => rfl) ?_
                    refine q_Ru_call (v := (some (.int 0))) (h2 := (q_cX A53 I53 q_J0, 40, 26520)) rfl rfl ?_ ?_
                    · refine q_Ca_of (Nat.le_of_ble_eq_true rfl) ?_
                      refine q_Ru_seg (g2 := (74, [(0, .ref 65), (1, .int 0), (2, .int 3850), (3, .int v), (4, .int 0)], [.int v, .int 3850, .ref 66], (q_cX q_AX q_IX q_J0, 40, 26520))) 6 (fun _ _ => rfl) ?_
                      refine q_Ru_call (v := (some (.int 0))) (h2 := (q_cX A53 I53 q_J0, 40, 26520)) rfl rfl ?_ ?_
                      · refine q_Ca_of (Nat.le_of_ble_eq_true rfl) ?_
                        refine q_Ru_seg (g2 := (2, [(0, .ref 66), (1, .int 3850), (2, .int v)], [.int 3850, .ref 66], (q_cX q_AX q_IX q_J0, 40, 26520))) 2 (fun _ _ => rfl) ?_
                        refine q_Ru_call (v := (some (.int 0))) (h2 := (q_cX q_AX q_IX q_J0, 40, 26520)) rfl rfl ?_ ?_
                        · refine q_Ca_of (Nat.le_of_ble_eq_true rfl) ?_
                          refine q_Ru_seg (g2 := (27, [(2, .int 10), (0, .ref 66), (1, .int 3850)], [.int 0, .int 10, .ref 66], (q_cX q_AX q_IX q_J0, 40, 26520))) 16 (fun _ _ => rfl) ?_
                          refine q_Ru_call (v := (some (.int 0))) (h2 := (q_cX q_AX q_IX q_J0, 40, 26520)) rfl rfl ?_ ?_
                          · refine q_Ca_of (Nat.le_of_ble_eq_true rfl) ?_
                            refine q_Ru_seg (g2 := (183, [(0, .ref 66), (1, .int 10), (2, .int 0)], [.int 0], (q_cX q_AX q_IX q_J0, 40, 26520))) 3 (fun _ _ => rfl) ?_
                            exact q_Ru_ret rfl rfl
                          show q_Ru _ _ _ (30, [(2, .int 10), (0, .ref 66), (1, .int 3850)], [.int 0], (q_cX q_AX q_IX q_J0, 40, 26520)) _
                          exact q_Ru_ret rfl rfl
                        show q_Ru _ _ _ (5, [(0, .ref 66), (1, .int 3850), (2, .int v)], [.int 0], (q_cX q_AX q_IX q_J0, 40, 26520)) _
                        refine q_Ru_seg (g2 := (9, [(3, .int 0), (0, .ref 66), (1, .int 3850), (2, .int v)], [.int v, .int 3850, .ref 66], (q_cX q_AX q_IX q_J0, 40, 26520))) 4 (fun _ _ => rfl) ?_
                        refine q_Ru_call (v := none) (h2 := (q_cX A53 I53 q_J0, 40, 26520)) rfl rfl ?_ ?_
                        · exact p53.le (Nat.le_of_ble_eq_true rfl)
                        show q_Ru _ _ _ (12, [(3, .int 0), (0, .ref 66), (1, .int 3850), (2, .int v)], [], (q_cX A53 I53 q_J0, 40, 26520)) _
                        refine q_Ru_seg (g2 := (13, [(3, .int 0), (0, .ref 66), (1, .int 3850), (2, .int v)], [.int 0], (q_cX A53 I53 q_J0, 40, 26520))) 1 (fun _ _ => rfl) ?_
                        exact q_Ru_ret rfl rfl
                      show q_Ru _ _ _ (77, [(0, .ref 65), (1, .int 0), (2, .int 3850), (3, .int v), (4, .int 0)], [.int 0], (q_cX A53 I53 q_J0, 40, 26520)) _
                      exact q_Ru_ret rfl rfl
                    show q_Ru _ _ _ (27, [(0, .ref 64), (1, .int 3850), (2, .int v)], [.int 0], (q_cX A53 I53 q_J0, 40, 26520)) _
                    exact q_Ru_ret rfl rfl
                  show q_Ru _ _ _ (8, [(0, .ref 64), (1, .int 3850), (2, .int v), (3, .ref 103)], [.int 0, .int 0, .ref 103], (q_cX A53 I53 q_J0, 40, 26520)) _
                  refine q_Ru_seg (g2 := (22, [(0, .ref 64), (1, .int 3850), (2, .int v), (3, .ref 103)], [.int 0], (q_cX A53 I53 (q_uA q_J0 39 (vp_updL (fun _ => 0) 0 0)), 40, 26520))) 4 (fun _ _ => rfl) ?_
                  exact q_Ru_ret rfl rfl
                · refine q_Ca_of (Nat.le_of_ble_eq_true rfl) ?_
                  refine q_Ru_seg (g2 := (2, [(0, .ref 64), (1, .int 3850), (2, .int v)], [.int 3850, .ref 64], (q_cM q_AM q_IM q_J0, 34, 31630))) 2 (fun _ _ => rfl) ?_
                  refine q_Ru_call (v := (some (.int 0))) (h2 := (q_cM q_AM q_IM q_J0, 34, 31630)) rfl rfl ?_ ?_
                  · refine q_Ca_of (Nat.le_of_ble_eq_true rfl) ?_
                    refine q_Ru_seg (g2 := (5, [(0, .int 3850)], [.int 4095, .int 0, .int 3850], (q_cM q_AM q_IM q_J0, 34, 31630))) 3 (fun _ _ => rfl) ?_
                    refine q_Ru_call (v := (some (.int 1))) (h2 := (q_cM q_AM q_IM q_J0, 34, 31630)) rfl rfl ?_ ?_
                    · refine q_Ca_of (Nat.le_of_ble_eq_true rfl) ?_
                      refine q_Ru_seg (g2 := (15, [(0, .int 3850), (1, .int 0), (2, .int 4095)], [.int 1], (q_cM q_AM q_IM q_J0, 34, 31630))) 8 (fun _ _ => rfl) ?_
                      exact q_Ru_ret rfl rfl
                    show q_Ru _ _ _ (8, [(0, .int 3850)], [.int 1], (q_cM q_AM q_IM q_J0, 34, 31630)) _
                    refine q_Ru_seg (g2 := (16, [(0, .int 3850)], [.int 0], (q_cM q_AM q_IM q_J0, 34, 31630))) 2 (fun _ _ => rfl) ?_
                    exact q_Ru_ret rfl rfl
                  show q_Ru _ _ _ (5, [(0, .ref 64), (1, .int 3850), (2, .int v)], [.int 0, .ref 64], (q_cM q_AM q_IM q_J0, 34, 31630)) _
                  refine q_Ru_seg (g2 := (13, [(0, .ref 64), (1, .int 3850), (2, .int v)], [.int v, .ref 64], (q_cM q_AM q_IM q_J0, 34, 31630))) 2 (fun _ _ => rfl) ?_
                  refine q_Ru_call (v := (some (.int 0))) (h2 := (q_cM q_AM q_IM q_J0, 34, 31630)) rfl rfl ?_ ?_
                  · refine q_Ca_of (Nat.le_of_ble_eq_true rfl) ?_
                    refine q_Ru_seg (g2 := (5, [(0, .int v)], [.int 255, .int 0, .int v], (q_cM q_AM q_IM q_J0, 34, 31630))) 3 (fun _ _ => rfl) ?_
                    refine q_Ru_call (v := (some (.int 1))) (h2 := (q_cM q_AM q_IM q_J0, 34, 31630)) rfl rfl ?_ ?_
                    · refine q_Ca_of (Nat.le_of_ble_eq_true rfl) ?_
                      refine q_Ru_seg (g2 := (2, [(0, .int v), (1, .int 0), (2, .int 255)], [.int 0, .int v], (q_cM q_AM q_IM q_J0, 34, 31630))) 2 (fun _ _ => rfl) ?_
                      refine q_Ru_rsF (g2 := (5, [(0, .int v), (1, .int 0), (2, .int 255)], [], (q_cM q_AM q_IM q_J0, 34, 31630))) rfl rfl h233 ?_
                      refine q_Ru_seg (g2 := (7, [(0, .int v), (1, .int 0), (2, .int 255)], [.int 255, .int v], (q_cM q_AM q_IM q_J0, 34, 31630))) 2 (fun _ _ => rfl) ?_
                      refine q_Ru_rsF (g2 := (10, [(0, .int v), (1, .int 0), (2, .int 255)], [], (q_cM q_AM q_IM q_J0, 34, 31630))) rfl rfl h235 ?_
                      refine q_Ru_seg (g2 := (15, [(0, .int v), (1, .int 0), (2, .int 255)], [.int 1], (q_cM q_AM q_IM q_J0, 34, 31630))) 2 (fun _ _ => rfl) ?_
                      exact q_Ru_ret rfl rfl
                    show q_Ru _ _ _ (8, [(0, .int v)], [.int 1], (q_cM q_AM q_IM q_J0, 34, 31630)) _
                    refine q_Ru_seg (g2 := (16, [(0, .int v)], [.int 0], (q_cM q_AM q_IM q_J0, 34, 31630))) 2 (fun _ _ => rfl) ?_
                    exact q_Ru_ret rfl rfl
                  show q_Ru _ _ _ (16, [(0, .ref 64), (1, .int 3850), (2, .int v)], [.int 0, .ref 64], (q_cM q_AM q_IM q_J0, 34, 31630)) _
                  refine q_Ru_seg (g2 := (24, [(0, .ref 64), (1, .int 3850), (2, .int v)], [.int 0, .ref 64], (q_cM q_AM q_IM q_J0, 34, 31630))) 2 (fun _ _ => rfl) ?_
                  refine q_Ru_call (v := (some (.int 0))) (h2 := (q_cM q_AM (q_uI q_IM 0 39 0) q_J0, 34, 31630)) rfl rfl ?_ ?_
                  · refine q_Ca_of (Nat.le_of_ble_eq_true rfl) ?_
                    refine q_Ru_seg (g2 := (14, [(0, .ref 64), (1, .int 0)], [.int 0], (q_cM q_AM (q_uI q_IM 0 39 0) q_J0, 34, 31630))) 6 (fun _ _ => rfl) ?_
                    exact q_Ru_ret rfl rfl
                  show q_Ru _ _ _ (27, [(0, .ref 64), (1, .int 3850), (2, .int v)], [.int 0], (q_cM q_AM (q_uI q_IM 0 39 0) q_J0, 34, 31630)) _
                  refine q_Ru_seg (g2 := (34, [(0, .ref 64), (1, .int 3850), (2, .int v)], [.int 3850, .ref 64], (q_cM q_AM (q_uI q_IM 0 39 0) q_J0, 34, 31630))) 3 (fun _ _ => rfl) ?_
                  refine q_Ru_call (v := (some (.int 0))) (h2 := (q_cM q_AM (q_uI q_IM 0 39 0) q_J0, 34, 31630)) rfl rfl ?_ ?_
                  · refine q_Ca_of (Nat.le_of_ble_eq_true rfl) ?_
                    refine q_Ru_seg (g2 := (7, [(0, .ref 64), (1, .int 3850)], [.int 3887, .int 3840, .int 3850], (q_cM q_AM (q_uI q_IM 0 39 0) q_J0, 34, 31630))) 3 (fun _ _ => rfl) ?_
                    refine q_Ru_call (v := (some (.int 1))) (h2 := (q_cM q_AM (q_uI q_IM 0 39 0) q_J0, 34, 31630)) rfl rfl ?_ ?_
                    · refine q_Ca_of (Nat.le_of_ble_eq_true rfl) ?_
                      refine q_Ru_seg (g2 := (15, [(0, .int 3850), (1, .int 3840), (2, .int 3887)], [.int 1], (q_cM q_AM (q_uI q_IM 0 39 0) q_J0, 34, 31630))) 8 (fun _ _ => rfl) ?_
                      exact q_Ru_ret rfl rfl
                    show q_Ru _ _ _ (10, [(0, .ref 64), (1, .int 3850)], [.int 1], (q_cM q_AM (q_uI q_IM 0 39 0) q_J0, 34, 31630)) _
                    refine q_Ru_seg (g2 := (19, [(0, .ref 64), (1, .int 3850)], [.int 10, .ref 64], (q_cM q_AM (q_uI q_IM 0 39 0) q_J0, 34, 31630))) 5 (fun _ _ => rfl) ?_
                    refine q_Ru_call (v := (some (.int 0))) (h2 := (q_cM q_AM (q_uI q_IM 0 39 0) q_J0, 34, 31630)) rfl rfl ?_ ?_
                    · refine q_Ca_of (Nat.le_of_ble_eq_true rfl) ?_
                      refine q_Ru_seg (g2 := (24, [(0, .ref 64), (1, .int 10)], [.int 0], (q_cM q_AM (q_uI q_IM 0 39 0) q_J0, 34, 31630))) 10 (fun _ _ => rfl) ?_
                      exact q_Ru_ret rfl rfl
                    show q_Ru _ _ _ (22, [(0, .ref 64), (1, .int 3850)], [.int 0], (q_cM q_AM (q_uI q_IM 0 39 0) q_J0, 34, 31630)) _
                    exact q_Ru_ret rfl rfl
                  show q_Ru _ _ _ (37, [(0, .ref 64), (1, .int 3850), (2, .int v)], [.int 0], (q_cM q_AM (q_uI q_IM 0 39 0) q_J0, 34, 31630)) _
                  refine q_Ru_seg (g2 := (41, [(3, .int 0), (0, .ref 64), (1, .int 3850), (2, .int v)], [.int v, .int 3850, .ref 64], (q_cM q_AM (q_uI q_IM 0 39 0) q_J0, 34, 31630))) 4 (fun _ _ => rfl) ?_
                  refine q_Ru_call (v := none) (h2 := (q_cM A54 (q_uI q_IM 0 39 0) q_J0, 34, 31630)) rfl rfl ?_ ?_
                  · exact p54.le (Nat.le_of_ble_eq_true rfl)
                  show q_Ru _ _ _ (44, [(3, .int 0), (0, .ref 64), (1, .int 3850), (2, .int v)], [], (q_cM A54 (q_uI q_IM 0 39 0) q_J0, 34, 31630)) _
                  refine q_Ru_seg (g2 := (45, [(3, .int 0), (0, .ref 64), (1, .int 3850), (2, .int v)], [.ref 64], (q_cM A54 (q_uI q_IM 0 39 0) q_J0, 34, 31630))) 1 (fun _ _ => rfl) ?_
                  refine q_Ru_call (v := none) (h2 := (q_cM A54 (q_uI q_IM 0 39 0) q_J0, 34, 31630)) rfl rfl ?_ ?_
                  · refine q_Ca_of (Nat.le_of_ble_eq_true rfl) ?_
                    refine q_Ru_seg (g2 := (17, [(0, .ref 64)], [], (q_cM A54 (q_uI q_IM 0 39 0) q_J0, 34, 31630))) 3 (fun _ _ => rfl) ?_
                    exact q_Ru_ret rfl rfl
                  show q_Ru _ _ _ (48, [(3, .int 0), (0, .ref 64), (1, .int 3850), (2, .int v)], [], (q_cM A54 (q_uI q_IM 0 39 0) q_J0, 34, 31630)) _
                  refine q_Ru_seg (g2 := (49, [(3, .int 0), (0, .ref 64), (1, .int 3850), (2, .int v)], [.int 0], (q_cM A54 (q_uI q_IM 0 39 0) q_J0, 34, 31630))) 1 (fun _ _ => rfl) ?_
                  exact q_Ru_ret rfl rfl
              | 11, _, e249 =>
                have e249 : a = 3851 := e249
                subst e249
                obtain ⟨A55, I55, p55⟩ := q_p_write q_AX q_IX (40) (26520) 3851 v
                obtain ⟨A56, p56⟩ := q_p_writes q_AM (q_uI q_IM 0 39 0) (34) (31630) 3851 v (by decide) (by decide)
                refine ⟨0, 0, 0, ⟨(q_cX A55 I55 (q_uA q_J0 39 (vp_updL (fun _ => 0) 0 0)), 40, 26520), (q_uA q_J0 39 (vp_updL (fun _ => 0) 0 0)) 39, ?_, rfl, fun _ => rfl, Nat.le_of_ble_eq_true rfl, Nat.le_of_ble_eq_true rfl⟩, ⟨(q_cM A56 (q_uI q_IM 0 39 0) q_J0, 34, 31630), _, ?_, rfl, rfl, Nat.le_of_ble_eq_true rfl, Nat.le_of_ble_eq_true rfl⟩, fun _ => rfl⟩
                · refine q_Ca_of (Nat.le_of_ble_eq_true rfl) ?_
                  refine q_Ru_seg (g2 := (5, [(0, .ref 64), (1, .int 3851), (2, .int v), (3, .ref 103)], [.int v, .int 3851, .ref 64, .int 0, .ref 103], (q_cX q_AX q_IX q_J0, 40, 26520))) 5 (fun _ _ => rfl) ?_
                  refine q_Ru_call (v := (some (.int 0))) (h2 := (q_cX A55 I55 q_J0, 40, 26520)) rfl rfl ?_ ?_
                  · refine q_Ca_of (Nat.le_of_ble_eq_true rfl) ?_
                    refine q_Ru_seg (g2 := (1, [(0, .ref 64), (1, .int 3851), (2, .int v)], [.int 3851], (q_cX q_AX q_IX q_J0, 40, 26520))) 1 (fun _ _ => rfl) ?_
                    refine q_Ru_call (v := none) (h2 := (q_cX q_AX q_IX q_J0, 40, 26520)) rfl rfl ?_ ?_
                    · refine q_Ca_of (Nat.le_of_ble_eq_true rfl) ?_
                      refine q_Ru_seg (g2 := (4, [(0, .int 3851)], [.int 4096, .int 3851], (q_cX q_AX q_IX q_J0, 40, 26520))) 2 (fun _ _ => rfl) ?_
                      refine q_Ru_call (v := none) (h2 := (q_cX q_AX q_IX q_J0, 40, 26520)) rfl rfl ?_ ?_
                      · refine q_Ca_of (Nat.le_of_ble_eq_true rfl) ?_
                        refine q_Ru_seg (g2 := (19, [(0, .int 3851), (1, .int 4096)], [], (q_cX q_AX q_IX q_J0, 40, 26520))) 5 (fun _ _ => rfl) ?_
                        exact q_Ru_ret rfl rfl
                      show q_Ru _ _ _ (7, [(0, .int 3851)], [], (q_cX q_AX q_IX q_J0, 40, 26520)) _
                      exact q_Ru_ret rfl rfl
                    show q_Ru _ _ _ (4, [(0, .ref 64), (1, .int 3851), (2, .int v)], [], (q_cX q_AX q_IX q_J0, 40, 26520)) _
                    refine q_Ru_seg (g2 := (5, [(0, .ref 64), (1, .int 3851), (2, .int v)], [.int v], (q_cX q_AX q_IX q_J0, 40, 26520))) 1 (fun _ _ => rfl) ?_
                    refine q_Ru_call (v := none) (h2 := (q_cX q_AX q_IX q_J0, 40, 26520)) rfl rfl ?_ ?_
                    · refine q_Ca_of (Nat.le_of_ble_eq_true rfl) ?_
                      refine q_Ru_seg (g2 := (5, [(0, .int v)], [.int 255, .int 0, .int v], (q_cX q_AX q_IX q_J0, 40, 26520))) 3 (fun _ _ => rfl) ?_
                      refine q_Ru_call (v := none) (h2 := (q_cX q_AX q_IX q_J0, 40, 26520)) rfl rfl ?_ ?_
                      · refine q_Ca_of (Nat.le_of_ble_eq_true rfl) ?_
                        refine q_Ru_seg (g2 := (2, [(0, .int v), (1, .int 0), (2, .int 255)], [.int 0, .int v], (q_cX q_AX q_IX q_J0, 40, 26520))) 2 (fun _ _ => rfl) ?_
                        refine q_Ru_rsF (g2 := (5, [(0, .int v), (1, .int 0), (2, .int 255)], [], (q_cX q_AX q_IX q_J0, 40, 26520))) rfl rfl h233 ?_
                        refine q_Ru_seg (g2 := (7, [(0, .int v), (1, .int 0), (2, .int 255)], [.int 255, .int v], (q_cX q_AX q_IX q_J0, 40, 26520))) 2 (fun _ _ => rfl) ?_
                        refine q_Ru_rsT (g2 := (20, [(0, .int v), (1, .int 0), (2, .int 255)], [], (q_cX q_AX q_IX q_J0, 40, 26520))) rfl rfl (q_d_geF h235) ?_
                        exact q_Ru_ret rfl rfl
                      show q_Ru _ _ _ (8, [(0, .int v)], [], (q_cX q_AX q_IX q_J0, 40, 26520)) _
                      exact q_Ru_ret rfl rfl
                    show q_Ru _ _ _ (8, [(0, .ref 64), (1, .int 3851), (2, .int v)], [], (q_cX q_AX q_IX q_J0, 40, 26520)) _
                    refine q_Ru_seg (g2 := (13, [(0, .ref 64), (1, .int 3851), (2, .int v)], [.int 0, .int v, .int 3851, .int 0, .ref 64], (q_cX q_AX q_IX q_J0, 40, 26520))) 5 (fun _ _ => rfl) ?_
                    refine q_Ru_call (v := none) (h2 := (q_cX q_AX q_IX q_J0, 40, 26520)) rfl rfl ?_ ?_
                    · refine q_Ca_of (Nat.le_of_ble_eq_true rfl) ?_
                      refine q_Ru_seg (g2 := (19, [(0, .ref 64), (1, .int 0), (2, .int 3851), (3, .int v), (4, .int 0)], [], (q_cX q_AX q_IX q_J0, 40, 26520))) 3 (fun _ _ => rfl) ?_
                      exact q_Ru_ret rfl rfl
                    show q_Ru _ _ _ (16, [(0, .ref 64), (1, .int 3851), (2, .int v)], [], (q_cX q_AX q_IX q_J0, 40, 26520)) _
                    refine q_Ru_seg (g2 := (24, [(0, .ref 64), (1, .int 3851), (2, .int v)], [.int 0, .int v, .int 3851, .int 0, .ref 65], (q_cX q_AX q_IX q_J0, 40, 26520))) 6 (fun _ _ => rfl) ?_
                    refine q_Ru_call (v := (some (.int 0))) (h2 := (q_cX A55 I55 q_J0, 40, 26520)) rfl rfl ?_ ?_
                    · refine q_Ca_of (Nat.le_of_ble_eq_true rfl) ?_
                      refine q_Ru_seg (g2 := (74, [(0, .ref 65), (1, .int 0), (2, .int 3851), (3, .int v), (4, .int 0)], [.int v, .int 3851, .ref 66], (q_cX q_AX q_IX q_J0, 40, 26520))) 6 (fun _ _ => rfl) ?_
                      refine q_Ru_call (v := (some (.int 0))) (h2 := (q_cX A55 I55 q_J0, 40, 26520)) rfl rfl ?_ ?_
                      · refine q_Ca_of (Nat.le_of_ble_eq_true rfl) ?_
                        refine q_Ru_seg (g2 := (2, [(0, .ref 66), (1, .int 3851), (2, .int v)], [.int 3851, .ref 66], (q_cX q_AX q_IX q_J0, 40, 26520))) 2 (fun _ _ => rfl) ?_
                        refine q_Ru_call (v := (some (.int 0))) (h2 := (q_cX q_AX q_IX q_J0, 40, 26520)) rfl rfl ?_ ?_
                        · refine q_Ca_of (Nat.le_of_ble_eq_true rfl) ?_
                          refine q_Ru_seg (g2 := (27, [(2, .int 11), (0, .ref 66), (1, .int 3851)], [.int 0, .int 11, .ref 66], (q_cX q_AX q_IX q_J0, 40, 26520))) 16 (fun _ _ => rfl) ?_
                          refine q_Ru_call (v := (some (.int 0))) (h2 := (q_cX q_AX q_IX q_J0, 40, 26520)) rfl rfl ?_ ?_
                          · refine q_Ca_of (Nat.le_of_ble_eq_true rfl) ?_
                            refine q_Ru_seg (g2 := (183, [(0, .ref 66), (1, .int 11), (2, .int 0)], [.int 0], (q_cX q_AX q_IX q_J0, 40, 26520))) 3 (fun _ _ => rfl) ?_
                            exact q_Ru_ret rfl rfl
                          show q_Ru _ _ _ (30, [(2, .int 11), (0, .ref 66), (1, .int 3851)], [.int 0], (q_cX q_AX q_IX q_J0, 40, 26520)) _
                          exact q_Ru_ret rfl rfl
                        show q_Ru _ _ _ (5, [(0, .ref 66), (1, .int 3851), (2, .int v)], [.int 0], (q_cX q_AX q_IX q_J0, 40, 26520)) _
                        refine q_Ru_seg (g2 := (9, [(3, .int 0), (0, .ref 66), (1, .int 3851), (2, .int v)], [.int v, .int 3851, .ref 66], (q_cX q_AX q_IX q_J0, 40, 26520))) 4 (fun _ _ => rfl) ?_
                        refine q_Ru_call (v := none) (h2 := (q_cX A55 I55 q_J0, 40, 26520)) rfl rfl ?_ ?_
                        · exact p55.le (Nat.le_of_ble_eq_true rfl)
                        show q_Ru _ _ _ (12, [(3, .int 0), (0, .ref 66), (1, .int 3851), (2, .int v)], [], (q_cX A55 I55 q_J0, 40, 26520)) _
                        refine q_Ru_seg (g2 := (13, [(3, .int 0), (0, .ref 66), (1, .int 3851), (2, .int v)], [.int 0], (q_cX A55 I55 q_J0, 40, 26520))) 1 (fun _ _ => rfl) ?_
                        exact q_Ru_ret rfl rfl
                      show q_Ru _ _ _ (77, [(0, .ref 65), (1, .int 0), (2, .int 3851), (3, .int v), (4, .int 0)], [.int 0], (q_cX A55 I55 q_J0, 40, 26520)) _
                      exact q_Ru_ret rfl rfl
                    show q_Ru _ _ _ (27, [(0, .ref 64), (1, .int 3851), (2, .int v)], [.int 0], (q_cX A55 I55 q_J0, 40, 26520)) _
                    exact q_Ru_ret rfl rfl
                  show q_Ru _ _ _ (8, [(0, .ref 64), (1, .int 3851), (2, .int v), (3, .ref 103)], [.int 0, .int 0, .ref 103], (q_cX A55 I55 q_J0, 40, 26520)) _
                  refine q_Ru_seg (g2 := (22, [(0, .ref 64), (1, .int 3851), (2, .int v), (3, .ref 103)], [.int 0], (q_cX A55 I55 (q_uA q_J0 39 (vp_updL (fun _ => 0) 0 0)), 40, 26520))) 4 (fun _ _ => rfl) ?_
                  exact q_Ru_ret rfl rfl
                · refine q_Ca_of (Nat.le_of_ble_eq_true rfl) ?_
                  refine q_Ru_seg (g2 := (2, [(0, .ref 64), (1, .int 3851), (2, .int v)], [.int 3851, .ref 64], (q_cM q_AM q_IM q_J0, 34, 31630))) 2 (fun _ _ => rfl) ?_
                  refine q_Ru_call (v := (some (.int 0))) (h2 := (q_cM q_AM q_IM q_J0, 34, 31630)) rfl rfl ?_ ?_
                  · refine q_Ca_of (Nat.le_of_ble_eq_true rfl) ?_
                    refine q_Ru_seg (g2 := (5, [(0, .int 3851)], [.int 4095, .int 0, .int 3851], (q_cM q_AM q_IM q_J0, 34, 31630))) 3 (fun _ _ => rfl) ?_
                    refine q_Ru_call (v := (some (.int 1))) (h2 := (q_cM q_AM q_IM q_J0, 34, 31630)) rfl rfl ?_ ?_
                    · refine q_Ca_of (Nat.le_of_ble_eq_true rfl) ?_
                      refine q_Ru_seg (g2 := (15, [(0, .int 3851), (1, .int 0), (2, .int 4095)], [.int 1], (q_cM q_AM q_IM q_J0, 34, 31630))) 8 (fun _ _ => rfl) ?_
                      exact q_Ru_ret rfl rfl
                    show q_Ru _ _ _ (8, [(0, .int 3851)], [.int 1], (q_cM q_AM q_IM q_J0, 34, 31630)) _
                    refine q_Ru_seg (g2 := (16, [(0, .int 3851)], [.int 0], (q_cM q_AM q_IM q_J0, 34, 31630))) 2 (fun _ _ => rfl) ?_
                    exact q_Ru_ret rfl rfl
                  show q_Ru _ _ _ (5, [(0, .ref 64), (1, .int 3851), (2, .int v)], [.int 0, .ref 64], (q_cM q_AM q_IM q_J0, 34, 31630)) _
                  refine q_Ru_seg (g2 := (13, [(0, .ref 64), (1, .int 3851), (2, .int v)], [.int v, .ref 64], (q_cM q_AM q_IM q_J0, 34, 31630))) 2 (fun _ _ => rfl) ?_
                  refine q_Ru_call (v := (some (.int 0))) (h2 := (q_cM q_AM q_IM q_J0, 34, 31630)) rfl rfl ?_ ?_
                  · refine q_Ca_of (Nat.le_of_ble_eq_true rfl) ?_
                    refine q_Ru_seg (g2 := (5, [(0, .int v)], [.int 255, .int 0, .int v], (q_cM q_AM q_IM q_J0, 34, 31630))) 3 (fun _ _ => rfl) ?_
                    refine q_Ru_call (v := (some (.int 1))) (h2 := (q_cM q_AM q_IM q_J0, 34, 31630)) rfl rfl ?_ ?_
                    · refine q_Ca_of (Nat.le_of_ble_eq_true rfl) ?_
                      refine q_Ru_seg (g2 := (2, [(0, .int v), (1, .int 0), (2, .int 255)], [.int 0, .int v], (q_cM q_AM q_IM q_J0, 34, 31630))) 2 (fun _ _ => rfl) ?_
                      refine q_Ru_rsF (g2 := (5, [(0, .int v), (1, .int 0), (2, .int 255)], [], (q_cM q_AM q_IM q_J0, 34, 31630))) rfl rfl h233 ?_
                      refine q_Ru_seg (g2 := (7, [(0, .int v), (1, .int 0), (2, .int 255)], [.int 255, .int v], (q_cM q_AM q_IM q_J0, 34, 31630))) 2 (fun _ _ => rfl) ?_
                      refine q_Ru_rsF (g2 := (10, [(0, .int v), (1, .int 0), (2, .int 255)], [], (q_cM q_AM q_IM q_J0, 34, 31630))) rfl rfl h235 ?_
                      refine q_Ru_seg (g2 := (15, [(0, .int v), (1, .int 0), (2, .int 255)], [.int 1], (q_cM q_AM q_IM q_J0, 34, 31630))) 2 (fun _ _ => rfl) ?_
                      exact q_Ru_ret rfl rfl
                    show q_Ru _ _ _ (8, [(0, .int v)], [.int 1], (q_cM q_AM q_IM q_J0, 34, 31630)) _
                    refine q_Ru_seg (g2 := (16, [(0, .int v)], [.int 0], (q_cM q_AM q_IM q_J0, 34, 31630))) 2 (fun _ _ => rfl) ?_
                    exact q_Ru_ret rfl rfl
                  show q_Ru _ _ _ (16, [(0, .ref 64), (1, .int 3851), (2, .int v)], [.int 0, .ref 64], (q_cM q_AM q_IM q_J0, 34, 31630)) _
                  refine q_Ru_seg (g2 := (24, [(0, .ref 64), (1, .int 3851), (2, .int v)], [.int 0, .ref 64], (q_cM q_AM q_IM q_J0, 34, 31630))) 2 (fun _ _ => rfl) ?_
                  refine q_Ru_call (v := (some (.int 0))) (h2 := (q_cM q_AM (q_uI q_IM 0 39 0) q_J0, 34, 31630)) rfl rfl ?_ ?_
                  · refine q_Ca_of (Nat.le_of_ble_eq_true rfl) ?_
                    refine q_Ru_seg (g2 := (14, [(0, .ref 64), (1, .int 0)], [.int 0], (q_cM q_AM (q_uI q_IM 0 39 0) q_J0, 34, 31630))) 6 (fun _ _ => rfl) ?_
                    exact q_Ru_ret rfl rfl
                  show q_Ru _ _ _ (27, [(0, .ref 64), (1, .int 3851), (2, .int v)], [.int 0], (q_cM q_AM (q_uI q_IM 0 39 0) q_J0, 34, 31630)) _
                  refine q_Ru_seg (g2 := (34, [(0, .ref 64), (1, .int 3851), (2, .int v)], [.int 3851, .ref 64], (q_cM q_AM (q_uI q_IM 0 39 0) q_J0, 34, 31630))) 3 (fun _ _ => rfl) ?_
                  refine q_Ru_call (v := (some (.int 0))) (h2 := (q_cM q_AM (q_uI q_IM 0 39 0) q_J0, 34, 31630)) rfl rfl ?_ ?_
                  · refine q_Ca_of (Nat.le_of_ble_eq_true rfl) ?_
                    refine q_Ru_seg (g2 := (7, [(0, .ref 64), (1, .int 3851)], [.int 3887, .int 3840, .int 3851], (q_cM q_AM (q_uI q_IM 0 39 0) q_J0, 34, 31630))) 3 (fun _ _ => rfl) ?_
                    refine q_Ru_call (v := (some (.int 1))) (h2 := (q_cM q_AM (q_uI q_IM 0 39 0) q_J0, 34, 31630)) rfl rfl ?_ ?_
                    · refine q_Ca_of (Nat.le_of_ble_eq_true rfl) ?_
                      refine q_Ru_seg (g2 := (15, [(0, .int 3851), (1, .int 3840), (2, .int 3887)], [.int 1], (q_cM q_AM (q_uI q_IM 0 39 0) q_J0, 34, 31630))) 8 (fun _ _ => rfl) ?_
                      exact q_Ru_ret rfl rfl
                    show q_Ru _ _ _ (10, [(0, .ref 64), (1, .int 3851)], [.int 1], (q_cM q_AM (q_uI q_IM 0 39 0) q_J0, 34, 31630)) _
                    refine q_Ru_seg (g2 := (19, [(0, .ref 64), (1, .int 3851)], [.int 11, .ref 64], (q_cM q_AM (q_uI q_IM 0 39 0) q_J0, 34, 31630))) 5 (fun _ _ => rfl) ?_
                    refine q_Ru_call (v := (some (.int 0))) (h2 := (q_cM q_AM (q_uI q_IM 0 39 0) q_J0, 34, 31630)) rfl rfl ?_ ?_
                    · refine q_Ca_of (Nat.le_of_ble_eq_true rfl) ?_
                      refine q_Ru_seg (g2 := (30, [(0, .ref 64), (1, .int 11)], [.int 15, .int 12, .int 11], (q_cM q_AM (q_uI q_IM 0 39 0) q_J0, 34, 31630))) 9 (fun _ _ => rfl) ?_
                      refine q_Ru_call (v := (some (.int 0))) (h2 := (q_cM q_AM (q_uI q_IM 0 39 0) q_J0, 34, 31630)) rfl rfl ?_ ?_
                      · refine q_Ca_of (Nat.le_of_ble_eq_true rfl) ?_
                        refine q_Ru_seg (g2 := (15, [(0, .int 11), (1, .int 12), (2, .int 15)], [.int 0], (q_cM q_AM (q_uI q_IM 0 39 0) q_J0, 34, 31630))) 4 (fun _ _ => rfl) ?_
                        exact q_Ru_ret rfl rfl
                      show q_Ru _ _ _ (33, [(0, .ref 64), (1, .int 11)], [.int 0], (q_cM q_AM (q_uI q_IM 0 39 0) q_J0, 34, 31630)) _
                      refine q_Ru_seg (g2 := (190, [(0, .ref 64), (1, .int 11)], [.int 0], (q_cM q_AM (q_uI q_IM 0 39 0) q_J0, 34, 31630))) 20 (fun _ _ => rfl) ?_
                      exact q_Ru_ret rfl rfl
                    show q_Ru _ _ _ (22, [(0, .ref 64), (1, .int 3851)], [.int 0], (q_cM q_AM (q_uI q_IM 0 39 0) q_J0, 34, 31630)) _
                    exact q_Ru_ret rfl rfl
                  show q_Ru _ _ _ (37, [(0, .ref 64), (1, .int 3851), (2, .int v)], [.int 0], (q_cM q_AM (q_uI q_IM 0 39 0) q_J0, 34, 31630)) _
                  refine q_Ru_seg (g2 := (41, [(3, .int 0), (0, .ref 64), (1, .int 3851), (2, .int v)], [.int v, .int 3851, .ref 64], (q_cM q_AM (q_uI q_IM 0 39 0) q_J0, 34, 31630))) 4 (fun _ _ => rfl) ?_
                  refine q_Ru_call (v := none) (h2 := (q_cM A56 (q_uI q_IM 0 39 0) q_J0, 34, 31630)) rfl rfl ?_ ?_
                  · exact p56.le (Nat.le_of_ble_eq_true rfl)
                  show q_Ru _ _ _ (44, [(3, .int 0), (0, .ref 64), (1, .int 3851), (2, .int v)], [], (q_cM A56 (q_uI q_IM 0 39 0) q_J0, 34, 31630)) _
                  refine q_Ru_seg (g2 := (45, [(3, .int 0), (0, .ref 64), (1, .int 3851), (2, .int v)], [.ref 64], (q_cM A56 (q_uI q_IM 0 39 0) q_J0, 34, 31630))) 1 (fun _ _ => rfl) ?_
                  refine q_Ru_call (v := none) (h2 := (q_cM A56 (q_uI q_IM 0 39 0) q_J0, 34, 31630)) rfl rfl ?_ ?_
                  · refine q_Ca_of (Nat.le_of_ble_eq_true rfl) ?_
                    refine q_Ru_seg (g2 := (17, [(0, .ref 64)], [], (q_cM A56 (q_uI q_IM 0 39 0) q_J0, 34, 31630))) 3 (fun _ _ => rfl) ?_
                    exact q_Ru_ret rfl rfl
                  show q_Ru _ _ _ (48, [(3, .int 0), (0, .ref 64), (1, .int 3851), (2, .int v)], [], (q_cM A56 (q_uI q_IM 0 39 0) q_J0, 34, 31630)) _
                  refine q_Ru_seg (g2 := (49, [(3, .int 0), (0, .ref 64), (1, .int 3851), (2, .int v)], [.int 0], (q_cM A56 (q_uI q_IM 0 39 0) q_J0, 34, 31630))) 1 (fun _ _ => rfl) ?_
                  exact q_Ru_ret rfl rfl
              | 12, _, e249 =>
                have e249 : a = 3852 := e249
                subst e249
                obtain ⟨A57, I57, p57⟩ := q_p_write q_AX q_IX (40) (26520) 3852 v
                obtain ⟨A58, p58⟩ := q_p_writes q_AM (q_uI q_IM 0 39 0) (34) (31630) 3852 v (by decide) (by decide)
                refine ⟨0, 0, 0, ⟨(q_cX A57 I57 (q_uA q_J0 39 (vp_updL (fun _ => 0) 0 0)), 40, 26520), (q_uA q_J0 39 (vp_updL (fun _ => 0) 0 0)) 39, ?_, rfl, fun _ => rfl, Nat.le_of_ble_eq_true rfl, Nat.le_of_ble_eq_true rfl⟩, ⟨(q_cM A58 (q_uI q_IM 0 39 0) q_J0, 34, 31630), _, ?_, rfl, rfl, Nat.le_of_ble_eq_true rfl, Nat.le_of_ble_eq_true rfl⟩, fun _ => rfl⟩
                · refine q_Ca_of (Nat.le_of_ble_eq_true rfl) ?_
                  refine q_Ru_seg (g2 := (5, [(0, .ref 64), (1, .int 3852), (2, .int v), (3, .ref 103)], [.int v, .int 3852, .ref 64, .int 0, .ref 103], (q_cX q_AX q_IX q_J0, 40, 26520))) 5 (fun _ _ => rfl) ?_
                  refine q_Ru_call (v := (some (.int 0))) (h2 := (q_cX A57 I57 q_J0, 40, 26520)) rfl rfl ?_ ?_
                  · refine q_Ca_of (Nat.le_of_ble_eq_true rfl) ?_
                    refine q_Ru_seg (g2 := (1, [(0, .ref 64), (1, .int 3852), (2, .int v)], [.int 3852], (q_cX q_AX q_IX q_J0, 40, 26520))) 1 (fun _ _ => rfl) ?_
                    refine q_Ru_call (v := none) (h2 := (q_cX q_AX q_IX q_J0, 40, 26520)) rfl rfl ?_ ?_
                    · refine q_Ca_of (Nat.le_of_ble_eq_true rfl) ?_
                      refine q_Ru_seg (g2 := (4, [(0, .int 3852)], [.int 4096, .int 3852], (q_cX q_AX q_IX q_J0, 40, 26520))) 2 (fun _ _ => rfl) ?_
                      refine q_Ru_call (v := none) (h2 := (q_cX q_AX q_IX q_J0, 40, 26520)) rfl rfl ?_ ?_
                      · refine q_Ca_of (Nat.le_of_ble_eq_true rfl) ?_
                        refine q_Ru_seg (g2 := (19, [(0, .int 3852), (1, .int 4096)], [], (q_cX q_AX q_IX q_J0, 40, 26520))) 5 (fun _ _ => rfl) ?_
                        exact q_Ru_ret rfl rfl
                      show q_Ru _ _ _ (7, [(0, .int 3852)], [], (q_cX q_AX q_IX q_J0, 40, 26520)) _
                      exact q_Ru_ret rfl rfl
                    show q_Ru _ _ _ (4, [(0, .ref 64), (1, .int 3852), (2, .int v)], [], (q_cX q_AX q_IX q_J0, 40, 26520)) _
                    refine q_Ru_seg (g2 := (5, [(0, .ref 64), (1, .int 3852), (2, .int v)], [.int v], (q_cX q_AX q_IX q_J0, 40, 26520))) 1 (fun _ _ => rfl) ?_
                    refine q_Ru_call (v := none) (h2 := (q_cX q_AX q_IX q_J0, 40, 26520)) rfl rfl ?_ ?_
                    · refine q_Ca_of (Nat.le_of_ble_eq_true rfl) ?_
                      refine q_Ru_seg (g2 := (5, [(0, .int v)], [.int 255, .int 0, .int v], (q_cX q_AX q_IX q_J0, 40, 26520))) 3 (fun _ _ => rfl) ?_
                      refine q_Ru_call (v := none) (h2 := (q_cX q_AX q_IX q_J0, 40, 26520)) rfl rfl ?_ ?_
                      · refine q_Ca_of (Nat.le_of_ble_eq_true rfl) ?_
                        refine q_Ru_seg (g2 := (2, [(0, .int v), (1, .int 0), (2, .int 255)], [.int 0, .int v], (q_cX q_AX q_IX q_J0, 40, 26520))) 2 (fun _ _ => rfl) ?_
                        refine q_Ru_rsF (g2 := (5, [(0, .int v), (1, .int 0), (2, .int 255)], [], (q_cX q_AX q_IX q_J0, 40, 26520))) rfl rfl h233 ?_
                        refine q_Ru_seg (g2 := (7, [(0, .int v), (1, .int 0), (2, .int 255)], [.int 255, .int v], (q_cX q_AX q_IX q_J0, 40, 26520))) 2 (fun _ _ => rfl) ?_
                        refine q_Ru_rsT (g2 := (20, [(0, .int v), (1, .int 0), (2, .int 255)], [], (q_cX q_AX q_IX q_J0, 40, 26520))) rfl rfl (q_d_geF h235) ?_
                        exact q_Ru_ret rfl rfl
                      show q_Ru _ _ _ (8, [(0, .int v)], [], (q_cX q_AX q_IX q_J0, 40, 26520)) _
                      exact q_Ru_ret rfl rfl
                    show q_Ru _ _ _ (8, [(0, .ref 64), (1, .int 3852), (2, .int v)], [], (q_cX q_AX q_IX q_J0, 40, 26520)) _
                    refine q_Ru_seg (g2 := (13, [(0, .ref 64), (1, .int 3852), (2, .int v)], [.int 0, .int v, .int 3852, .int 0, .ref 64], (q_cX q_AX q_IX q_J0, 40, 26520))) 5 (fun _ _ => rfl) ?_
                    refine q_Ru_call (v := none) (h2 := (q_cX q_AX q_IX q_J0, 40, 26520)) rfl rfl ?_ ?_
                    · refine q_Ca_of (Nat.le_of_ble_eq_true rfl) ?_
                      refine q_Ru_seg (g2 := (19, [(0, .ref 64), (1, .int 0), (2, .int 3852), (3, .int v), (4, .int 0)], [], (q_cX q_AX q_IX q_J0, 40, 26520))) 3 (fun _ _ => rfl) ?_
                      exact q_Ru_ret rfl rfl
                    show q_Ru _ _ _ (16, [(0, .ref 64), (1, .int 3852), (2, .int v)], [], (q_cX q_AX q_IX q_J0, 40, 26520)) _
                    refine q_Ru_seg (g2 := (24, [(0, .ref 64), (1, .int 3852), (2, .int v)], [.int 0, .int v, .int 3852, .int 0, .ref 65], (q_cX q_AX q_IX q_J0, 40, 26520))) 6 (fun _ _ => rfl) ?_
                    refine q_Ru_call (v := (some (.int 0))) (h2 := (q_cX A57 I57 q_J0, 40, 26520)) rfl rfl ?_ ?_
                    · refine q_Ca_of (Nat.le_of_ble_eq_true rfl) ?_
                      refine q_Ru_seg (g2 := (74, [(0, .ref 65), (1, .int 0), (2, .int 3852), (3, .int v), (4, .int 0)], [.int v, .int 3852, .ref 66], (q_cX q_AX q_IX q_J0, 40, 26520))) 6 (fun _ _ => rfl) ?_
                      refine q_Ru_call (v := (some (.int 0))) (h2 := (q_cX A57 I57 q_J0, 40, 26520)) rfl rfl ?_ ?_
                      · refine q_Ca_of (Nat.le_of_ble_eq_true rfl) ?_
                        refine q_Ru_seg (g2 := (2, [(0, .ref 66), (1, .int 3852), (2, .int v)], [.int 3852, .ref 66], (q_cX q_AX q_IX q_J0, 40, 26520))) 2 (fun _ _ => rfl) ?_
                        refine q_Ru_call (v := (some (.int 0))) (h2 := (q_cX q_AX q_IX q_J0, 40, 26520)) rfl rfl ?_ ?_
                        · refine q_Ca_of (Nat.le_of_ble_eq_true rfl) ?_
                          refine q_Ru_seg (g2 := (27, [(2, .int 12), (0, .ref 66), (1, .int 3852)], [.int 0, .int 12, .ref 66], (q_cX q_AX q_IX q_J0, 40, 26520))) 16 (fun _ _ => rfl) ?_
                          refine q_Ru_call (v := (some (.int 0))) (h2 := (q_cX q_AX q_IX q_J0, 40, 26520)) rfl rfl ?_ ?_
                          · refine q_Ca_of (Nat.le_of_ble_eq_true rfl) ?_
                            refine q_Ru_seg (g2 := (91, [(0, .ref 66), (1, .int 12), (2, .int 0)], [.int 0], (q_cX q_AX q_IX q_J0, 40, 26520))) 8 (fun _ _ => rfl) ?_
                            exact q_Ru_ret rfl rfl
                          show q_Ru _ _ _ (30, [(2, .int 12), (0, .ref 66), (1, .int 3852)], [.int 0], (q_cX q_AX q_IX q_J0, 40, 26520)) _
                          exact q_Ru_ret rfl rfl
                        show q_Ru _ _ _ (5, [(0, .ref 66), (1, .int 3852), (2, .int v)], [.int 0], (q_cX q_AX q_IX q_J0, 40, 26520)) _
                        refine q_Ru_seg (g2 := (9, [(3, .int 0), (0, .ref 66), (1, .int 3852), (2, .int v)], [.int v, .int 3852, .ref 66], (q_cX q_AX q_IX q_J0, 40, 26520))) 4 (fun _ _ => rfl) ?_
                        refine q_Ru_call (v := none) (h2 := (q_cX A57 I57 q_J0, 40, 26520)) rfl rfl ?_ ?_
                        · exact p57.le (Nat.le_of_ble_eq_true rfl)
                        show q_Ru _ _ _ (12, [(3, .int 0), (0, .ref 66), (1, .int 3852), (2, .int v)], [], (q_cX A57 I57 q_J0, 40, 26520)) _
                        refine q_Ru_seg (g2 := (13, [(3, .int 0), (0, .ref 66), (1, .int 3852), (2, .int v)], [.int 0], (q_cX A57 I57 q_J0, 40, 26520))) 1 (fun _ _ => rfl) ?_
                        exact q_Ru_ret rfl rfl
                      show q_Ru _ _ _ (77, [(0, .ref 65), (1, .int 0), (2, .int 3852), (3, .int v), (4, .int 0)], [.int 0], (q_cX A57 I57 q_J0, 40, 26520)) _
                      exact q_Ru_ret rfl rfl
                    show q_Ru _ _ _ (27, [(0, .ref 64), (1, .int 3852), (2, .int v)], [.int 0], (q_cX A57 I57 q_J0, 40, 26520)) _
                    exact q_Ru_ret rfl rfl
                  show q_Ru _ _ _ (8, [(0, .ref 64), (1, .int 3852), (2, .int v), (3, .ref 103)], [.int 0, .int 0, .ref 103], (q_cX A57 I57 q_J0, 40, 26520)) _
                  refine q_Ru_seg (g2 := (22, [(0, .ref 64), (1, .int 3852), (2, .int v), (3, .ref 103)], [.int 0], (q_cX A57 I57 (q_uA q_J0 39 (vp_updL (fun _ => 0) 0 0)), 40, 26520))) 4 (fun _ _ => rfl) ?_
                  exact q_Ru_ret rfl rfl
                · refine q_Ca_of (Nat.le_of_ble_eq_true rfl) ?_
                  refine q_Ru_seg (g2 := (2, [(0, .ref 64), (1, .int 3852), (2, .int v)], [.int 3852, .ref 64], (q_cM q_AM q_IM q_J0, 34, 31630))) 2 (fun _ _ => rfl) ?_
                  refine q_Ru_call (v := (some (.int 0))) (h2 := (q_cM q_AM q_IM q_J0, 34, 31630)) rfl rfl ?_ ?_
                  · refine q_Ca_of (Nat.le_of_ble_eq_true rfl) ?_
                    refine q_Ru_seg (g2 := (5, [(0, .int 3852)], [.int 4095, .int 0, .int 3852], (q_cM q_AM q_IM q_J0, 34, 31630))) 3 (fun _ _ => rfl) ?_
                    refine q_Ru_call (v := (some (.int 1))) (h2 := (q_cM q_AM q_IM q_J0, 34, 31630)) rfl rfl ?_ ?_
                    · refine q_Ca_of (Nat.le_of_ble_eq_true rfl) ?_
                      refine q_Ru_seg (g2 := (15, [(0, .int 3852), (1, .int 0), (2, .int 4095)], [.int 1], (q_cM q_AM q_IM q_J0, 34, 31630))) 8 (fun _ _ => rfl) ?_
                      exact q_Ru_ret rfl rfl
                    show q_Ru _ _ _ (8, [(0, .int 3852)], [.int 1], (q_cM q_AM q_IM q_J0, 34, 31630)) _
                    refine q_Ru_seg (g2 := (16, [(0, .int 3852)], [.int 0], (q_cM q_AM q_IM q_J0, 34, 31630))) 2 (fun _ _ => rfl) ?_
                    exact q_Ru_ret rfl rfl
                  show q_Ru _ _ _ (5, [(0, .ref 64), (1, .int 3852), (2, .int v)], [.int 0, .ref 64], (q_cM q_AM q_IM q_J0, 34, 31630)) _
                  refine q_Ru_seg (g2 := (13, [(0, .ref 64), (1, .int 3852), (2, .int v)], [.int v, .ref 64], (q_cM q_AM q_IM q_J0, 34, 31630))) 2 (fun _ _ => rfl) ?_
                  refine q_Ru_call (v := (some (.int 0))) (h2 := (q_cM q_AM q_IM q_J0, 34, 31630)) rfl rfl ?_ ?_
                  · refine q_Ca_of (Nat.le_of_ble_eq_true rfl) ?_
                    refine q_Ru_seg (g2 := (5, [(0, .int v)], [.int 255, .int 0, .int v], (q_cM q_AM q_IM q_J0, 34, 31630))) 3 (fun _ _ => rfl) ?_
                    refine q_Ru_call (v := (some (.int 1))) (h2 := (q_cM q_AM q_IM q_J0, 34, 31630)) rfl rfl ?_ ?_
                    · refine q_Ca_of (Nat.le_of_ble_eq_true rfl) ?_
                      refine q_Ru_seg (g2 := (2, [(0, .int v), (1, .int 0), (2, .int 255)], [.int 0, .int v], (q_cM q_AM q_IM q_J0, 34, 31630))) 2 (fun _ _ => rfl) ?_
                      refine q_Ru_rsF (g2 := (5, [(0, .int v), (1, .int 0), (2, .int 255)], [], (q_cM q_AM q_IM q_J0, 34, 31630))) rfl rfl h233 ?_
                      refine q_Ru_seg (g2 := (7, [(0, .int v), (1, .int 0), (2, .int 255)], [.int 255, .int v], (q_cM q_AM q_IM q_J0, 34, 31630))) 2 (fun _ _ => rfl) ?_
                      refine q_Ru_rsF (g2 := (10, [(0, .int v), (1, .int 0), (2, .int 255)], [], (q_cM q_AM q_IM q_J0, 34, 31630))) rfl rfl h235 ?_
                      refine q_Ru_seg (g2 := (15, [(0, .int v), (1, .int 0), (2, .int 255)], [.int 1], (q_cM q_AM q_IM q_J0, 34, 31630))) 2 (fun _ _ => rfl) ?_
                      exact q_Ru_ret rfl rfl
                    show q_Ru _ _ _ (8, [(0, .int v)], [.int 1], (q_cM q_AM q_IM q_J0, 34, 31630)) _
                    refine q_Ru_seg (g2 := (16, [(0, .int v)], [.int 0], (q_cM q_AM q_IM q_J0, 34, 31630))) 2 (fun _ _ => rfl) ?_
                    exact q_Ru_ret rfl rfl
                  show q_Ru _ _ _ (16, [(0, .ref 64), (1, .int 3852), (2, .int v)], [.int 0, .ref 64], (q_cM q_AM q_IM q_J0, 34, 31630)) _
                  refine q_Ru_seg (g2 := (24, [(0, .ref 64), (1, .int 3852), (2, .int v)], [.int 0, .ref 64], (q_cM q_AM q_IM q_J0, 34, 31630))) 2 (fun _ _ => rfl) ?_
                  refine q_Ru_call (v := (some (.int 0))) (h2 := (q_cM q_AM (q_uI q_IM 0 39 0) q_J0, 34, 31630)) rfl rfl ?_ ?_
                  · refine q_Ca_of (Nat.le_of_ble_eq_true rfl) ?_
                    refine q_Ru_seg (g2 := (14, [(0, .ref 64), (1, .int 0)], [.int 0], (q_cM q_AM (q_uI q_IM 0 39 0) q_J0, 34, 31630))) 6 (fun _ _ => rfl) ?_
                    exact q_Ru_ret rfl rfl
                  show q_Ru _ _ _ (27, [(0, .ref 64), (1, .int 3852), (2, .int v)], [.int 0], (q_cM q_AM (q_uI q_IM 0 39 0) q_J0, 34, 31630)) _
                  refine q_Ru_seg (g2 := (34, [(0, .ref 64), (1, .int 3852), (2, .int v)], [.int 3852, .ref 64], (q_cM q_AM (q_uI q_IM 0 39 0) q_J0, 34, 31630))) 3 (fun _ _ => rfl) ?_
                  refine q_Ru_call (v := (some (.int 0))) (h2 := (q_cM q_AM (q_uI q_IM 0 39 0) q_J0, 34, 31630)) rfl rfl ?_ ?_
                  · refine q_Ca_of (Nat.le_of_ble_eq_true rfl) ?_
                    refine q_Ru_seg (g2 := (7, [(0, .ref 64), (1, .int 3852)], [.int 3887, .int 3840, .int 3852], (q_cM q_AM (q_uI q_IM 0 39 0) q_J0, 34, 31630))) 3 (fun _ _ => rfl) ?_
                    refine q_Ru_call (v := (some (.int 1))) (h2 := (q_cM q_AM (q_uI q_IM 0 39 0) q_J0, 34, 31630)) rfl rfl ?_ ?_
                    · refine q_Ca_of (Nat.le_of_ble_eq_true rfl) ?_
                      refine q_Ru_seg (g2 := (15, [(0, .int 3852), (1, .int 3840), (2, .int 3887)], [.int 1], (q_cM q_AM (q_uI q_IM 0 39 0) q_J0, 34, 31630))) 8 (fun _ _ => rfl) ?_
                      exact q_Ru_ret rfl rfl
                    show q_Ru _ _ _ (10, [(0, .ref 64), (1, .int 3852)], [.int 1], (q_cM q_AM (q_uI q_IM 0 39 0) q_J0, 34, 31630)) _
                    refine q_Ru_seg (g2 := (19, [(0, .ref 64), (1, .int 3852)], [.int 12, .ref 64], (q_cM q_AM (q_uI q_IM 0 39 0) q_J0, 34, 31630))) 5 (fun _ _ => rfl) ?_
                    refine q_Ru_call (v := (some (.int 0))) (h2 := (q_cM q_AM (q_uI q_IM 0 39 0) q_J0, 34, 31630)) rfl rfl ?_ ?_
                    · refine q_Ca_of (Nat.le_of_ble_eq_true rfl) ?_
                      refine q_Ru_seg (g2 := (30, [(0, .ref 64), (1, .int 12)], [.int 15, .int 12, .int 12], (q_cM q_AM (q_uI q_IM 0 39 0) q_J0, 34, 31630))) 9 (fun _ _ => rfl) ?_
                      refine q_Ru_call (v := (some (.int 1))) (h2 := (q_cM q_AM (q_uI q_IM 0 39 0) q_J0, 34, 31630)) rfl rfl ?_ ?_
                      · refine q_Ca_of (Nat.le_of_ble_eq_true rfl) ?_
                        refine q_Ru_seg (g2 := (15, [(0, .int 12), (1, .int 12), (2, .int 15)], [.int 1], (q_cM q_AM (q_uI q_IM 0 39 0) q_J0, 34, 31630))) 8 (fun _ _ => rfl) ?_
                        exact q_Ru_ret rfl rfl
                      show q_Ru _ _ _ (33, [(0, .ref 64), (1, .int 12)], [.int 1], (q_cM q_AM (q_uI q_IM 0 39 0) q_J0, 34, 31630)) _
                      refine q_Ru_seg (g2 := (79, [(0, .ref 64), (1, .int 12)], [.int 0], (q_cM q_AM (q_uI q_IM 0 39 0) q_J0, 34, 31630))) 18 (fun _ _ => rfl) ?_
                      exact q_Ru_ret rfl rfl
                    show q_Ru _ _ _ (22, [(0, .ref 64), (1, .int 3852)], [.int 0], (q_cM q_AM (q_uI q_IM 0 39 0) q_J0, 34, 31630)) _
                    exact q_Ru_ret rfl rfl
                  show q_Ru _ _ _ (37, [(0, .ref 64), (1, .int 3852), (2, .int v)], [.int 0], (q_cM q_AM (q_uI q_IM 0 39 0) q_J0, 34, 31630)) _
                  refine q_Ru_seg (g2 := (41, [(3, .int 0), (0, .ref 64), (1, .int 3852), (2, .int v)], [.int v, .int 3852, .ref 64], (q_cM q_AM (q_uI q_IM 0 39 0) q_J0, 34, 31630))) 4 (fun _ _ => rfl) ?_
                  refine q_Ru_call (v := none) (h2 := (q_cM A58 (q_uI q_IM 0 39 0) q_J0, 34, 31630)) rfl rfl ?_ ?_
                  · exact p58.le (Nat.le_of_ble_eq_true rfl)
                  show q_Ru _ _ _ (44, [(3, .int 0), (0, .ref 64), (1, .int 3852), (2, .int v)], [], (q_cM A58 (q_uI q_IM 0 39 0) q_J0, 34, 31630)) _
                  refine q_Ru_seg (g2 := (45, [(3, .int 0), (0, .ref 64), (1, .int 3852), (2, .int v)], [.ref 64], (q_cM A58 (q_uI q_IM 0 39 0) q_J0, 34, 31630))) 1 (fun _ _ => rfl) ?_
                  refine q_Ru_call (v := none) (h2 := (q_cM A58 (q_uI q_IM 0 39 0) q_J0, 34, 31630)) rfl rfl ?_ ?_
                  · refine q_Ca_of (Nat.le_of_ble_eq_true rfl) ?_
                    refine q_Ru_seg (g2 := (17, [(0, .ref 64)], [], (q_cM A58 (q_uI q_IM 0 39 0) q_J0, 34, 31630))) 3 (fun _ _ => rfl) ?_
                    exact q_Ru_ret rfl rfl
                  show q_Ru _ _ _ (48, [(3, .int 0), (0, .ref 64), (1, .int 3852), (2, .int v)], [], (q_cM A58 (q_uI q_IM 0 39 0) q_J0, 34, 31630)) _
                  refine q_Ru_seg (g2 := (49, [(3, .int 0), (0, .ref 64), (1, .int 3852), (2, .int v)], [.int 0], (q_cM A58 (q_uI q_IM 0 39 0) q_J0, 34, 31630))) 1 (fun _ _ => rfl) ?_
                  exact q_Ru_ret rfl rfl
              | 13, _, e249 =>
                have e249 : a = 3853 := e249
                subst e249
                obtain ⟨A59, I59, p59⟩ := q_p_write q_AX q_IX (40) (26520) 3853 v
                obtain ⟨A60, p60⟩ := q_p_writes q_AM (q_uI q_IM 0 39 0) (34) (31630) 3853 v (by decide) (by decide)
                refine ⟨0, 0, 0, ⟨(q_cX A59 I59 (q_uA q_J0 39 (vp_updL (fun _ => 0) 0 0)), 40, 26520), (q_uA q_J0 39 (vp_updL (fun _ => 0) 0 0)) 39, ?_, rfl, fun _ => rfl, Nat.le_of_ble_eq_true rfl, Nat.le_of_ble_eq_true rfl⟩, ⟨(q_cM A60 (q_uI q_IM 0 39 0) q_J0, 34, 31630), _, ?_, rfl, rfl, Nat.le_of_ble_eq_true rfl, Nat.le_of_ble_eq_true rfl⟩, fun _ => rfl⟩
                · refine q_Ca_of (Nat.le_of_ble_eq_true rfl) ?_
                  refine q_Ru_seg (g2 := (5, [(0, .ref 64), (1, .int 3853), (2, .int v), (3, .ref 103)], [.int v, .int 3853, .ref 64, .int 0, .ref 103], (q_cX q_AX q_IX q_J0, 40, 26520))) 5 (fun _ _ => rfl) ?_
                  refine q_Ru_call (v := (some (.int 0))) (h2 := (q_cX A59 I59 q_J0, 40, 26520)) rfl rfl ?_ ?_
                  · refine q_Ca_of (Nat.le_of_ble_eq_true rfl) ?_
                    refine q_Ru_seg (g2 := (1, [(0, .ref 64), (1, .int 3853), (2, .int v)], [.int 3853], (q_cX q_AX q_IX q_J0, 40, 26520))) 1 (fun _ _ => rfl) ?_
                    refine q_Ru_call (v := none) (h2 := (q_cX q_AX q_IX q_J0, 40, 26520)) rfl rfl ?_ ?_
                    · refine q_Ca_of (Nat.le_of_ble_eq_true rfl) ?_
                      refine q_Ru_seg (g2 := (4, [(0, .int 3853)], [.int 4096, .int 3853], (q_cX q_AX q_IX q_J0, 40, 26520))) 2 (fun _ _ => rfl) ?_
                      refine q_Ru_call (v := none) (h2 := (q_cX q_AX q_IX q_J0, 40, 26520)) rfl rfl ?_ ?_
                      · refine q_Ca_of (Nat.le_of_ble_eq_true rfl) ?_
                        refine q_Ru_seg (g2 := (19, [(0, .int 3853), (1, .int 4096)], [], (q_cX q_AX q_IX q_J0, 40, 26520))) 5 (fun _ _ => rfl) ?_
                        exact q_Ru_ret rfl rfl
                      show q_Ru _ _ _ (7, [(0, .int 3853)], [], (q_cX q_AX q_IX q_J0, 40, 26520)) _
                      exact q_Ru_ret rfl rfl
                    show q_Ru _ _ _ (4, [(0, .ref 64), (1, .int 3853), (2, .int v)], [], (q_cX q_AX q_IX q_J0, 40, 26520)) _
                    refine q_Ru_seg (g2 := (5, [(0, .ref 64), (1, .int 3853), (2, .int v)], [.int v], (q_cX q_AX q_IX q_J0, 40, 26520))) 1 (fun _ _ => rfl) ?_
                    refine q_Ru_call (v := none) (h2 := (q_cX q_AX q_IX q_J0, 40, 26520)) rfl rfl ?_ ?_
                    · refine q_Ca_of (Nat.le_of_ble_eq_true rfl) ?_
                      refine q_Ru_seg (g2 := (5, [(0, .int v)], [.int 255, .int 0, .int v], (q_cX q_AX q_IX q_J0, 40, 26520))) 3 (fun _ _ => rfl) ?_
                      refine q_Ru_call (v := none) (h2 := (q_cX q_AX q_IX q_J0, 40, 26520)) rfl rfl ?_ ?_
                      · refine q_Ca_of (Nat.le_of_ble_eq_true rfl) ?_
                        refine q_Ru_seg (g2 := (2, [(0, .int v), (1, .int 0), (2, .int 255)], [.int 0, .int v], (q_cX q_AX q_IX q_J0, 40, 26520))) 2 (fun _ _ => rfl) ?_
                        refine q_Ru_rsF (g2 := (5, [(0, .int v), (1, .int 0), (2, .int 255)], [], (q_cX q_AX q_IX q_J0, 40, 26520))) rfl rfl h233 ?_
                        refine q_Ru_seg (g2 := (7, [(0, .int v), (1, .int 0), (2, .int 255)], [.int 255, .int v], (q_cX q_AX q_IX q_J0, 40, 26520))) 2 (fun _ _ => rfl) ?_
                        refine q_Ru_rsT (g2 := (20, [(0, .int v), (1, .int 0), (2, .int 255)], [], (q_cX q_AX q_IX q_J0, 40, 26520))) rfl rfl (q_d_geF h235) ?_
                        exact q_Ru_ret rfl rfl
                      show q_Ru _ _ _ (8, [(0, .int v)], [], (q_cX q_AX q_IX q_J0, 40, 26520)) _
                      exact q_Ru_ret rfl rfl
                    show q_Ru _ _ _ (8, [(0, .ref 64), (1, .int 3853), (2, .int v)], [], (q_cX q_AX q_IX q_J0, 40, 26520)) _
                    refine q_Ru_seg (g2 := (13, [(0, .ref 64), (1, .int 3853), (2, .int v)], [.int 0, .int v, .int 3853, .int 0, .ref 64], (q_cX q_AX q_IX q_J0, 40, 26520))) 5 (fun _ _ => rfl) ?_
                    refine q_Ru_call (v := none) (h2 := (q_cX q_AX q_IX q_J0, 40, 26520)) rfl rfl ?_ ?_
                    · refine q_Ca_of (Nat.le_of_ble_eq_true rfl) ?_
                      refine q_Ru_seg (g2 := (19, [(0, .ref 64), (1, .int 0), (2, .int 3853), (3, .int v), (4, .int 0)], [], (q_cX q_AX q_IX q_J0, 40, 26520))) 3 (fun _ _ => rfl) ?_
                      exact q_Ru_ret rfl rfl
                    show q_Ru _ _ _ (16, [(0, .ref 64), (1, .int 3853), (2, .int v)], [], (q_cX q_AX q_IX q_J0, 40, 26520)) _
                    refine q_Ru_seg (g2 := (24, [(0, .ref 64), (1, .int 3853), (2, .int v)], [.int 0, .int v, .int 3853, .int 0, .ref 65], (q_cX q_AX q_IX q_J0, 40, 26520))) 6 (fun _ _ => rfl) ?_
                    refine q_Ru_call (v := (some (.int 0))) (h2 := (q_cX A59 I59 q_J0, 40, 26520)) rfl rfl ?_ ?_
                    · refine q_Ca_of (Nat.le_of_ble_eq_true rfl) ?_
                      refine q_Ru_seg (g2 := (74, [(0, .ref 65), (1, .int 0), (2, .int 3853), (3, .int v), (4, .int 0)], [.int v, .int 3853, .ref 66], (q_cX q_AX q_IX q_J0, 40, 26520))) 6 (fun _ _ => rfl) ?_
                      refine q_Ru_call (v := (some (.int 0))) (h2 := (q_cX A59 I59 q_J0, 40, 26520)) rfl rfl ?_ ?_
                      · refine q_Ca_of (Nat.le_of_ble_eq_true rfl) ?_
                        refine q_Ru_seg (g2 := (2, [(0, .ref 66), (1, .int 3853), (2, .int v)], [.int 3853, .ref 66], (q_cX q_AX q_IX q_J0, 40, 26520))) 2 (fun _ _ => rfl) ?_
                        refine q_Ru_call (v := (some (.int 0))) (h2 := (q_cX q_AX q_IX q_J0, 40, 26520)) rfl rfl ?_ ?_
                        · refine q_Ca_of (Nat.le_of_ble_eq_true rfl) ?_
                          refine q_Ru_seg (g2 := (27, [(2, .int 13), (0, .ref 66), (1, .int 3853)], [.int 0, .int 13, .ref 66], (q_cX q_AX q_IX q_J0, 40, 26520))) 16 (fun _ _ => rfl) ?_
                          refine q_Ru_call (v := (some (.int 0))) (h2 := (q_cX q_AX q_IX q_J0, 40, 26520)) rfl rfl ?_ ?_
                          · refine q_Ca_of (Nat.le_of_ble_eq_true rfl) ?_
                            refine q_Ru_seg (g2 := (101, [(0, .ref 66), (1, .int 13), (2, .int 0)], [.int 0], (q_cX q_AX q_IX q_J0, 40, 26520))) 8 (fun _ _ => rfl) ?_
                            exact q_Ru_ret rfl rfl
                          show q_Ru _ _ _ (30, [(2, .int 13), (0, .ref 66), (1, .int 3853)], [.int 0], (q_cX q_AX q_IX q_J0, 40, 26520)) _
                          exact q_Ru_ret rfl rfl
                        show q_Ru _ _ _ (5, [(0, .ref 66), (1, .int 3853), (2, .int v)], [.int 0], (q_cX q_AX q_IX q_J0, 40, 26520)) _
                        refine q_Ru_seg (g2 := (9, [(3, .int 0), (0, .ref 66), (1, .int 3853), (2, .int v)], [.int v, .int 3853, .ref 66], (q_cX q_AX q_IX q_J0, 40, 26520))) 4 (fun _ _ => rfl) ?_
                        refine q_Ru_call (v := none) (h2 := (q_cX A59 I59 q_J0, 40, 26520)) rfl rfl ?_ ?_
                        · exact p59.le (Nat.le_of_ble_eq_true rfl)
                        show q_Ru _ _ _ (12, [(3, .int 0), (0, .ref 66), (1, .int 3853), (2, .int v)], [], (q_cX A59 I59 q_J0, 40, 26520)) _
                        refine q_Ru_seg (g2 := (13, [(3, .int 0), (0, .ref 66), (1, .int 3853), (2, .int v)], [.int 0], (q_cX A59 I59 q_J0, 40, 26520))) 1 (fun _ _ => rfl) ?_
                        exact q_Ru_ret rfl rfl
                      show q_Ru _ _ _ (77, [(0, .ref 65), (1, .int 0), (2, .int 3853), (3, .int v), (4, .int 0)], [.int 0], (q_cX A59 I59 q_J0, 40, 26520)) _
                      exact q_Ru_ret rfl rfl
                    show q_Ru _ _ _ (27, [(0, .ref 64), (1, .int 3853), (2, .int v)], [.int 0], (q_cX A59 I59 q_J0, 40, 26520)) _
                    exact q_Ru_ret rfl rfl
                  show q_Ru _ _ _ (8, [(0, .ref 64), (1, .int 3853), (2, .int v), (3, .ref 103)], [.int 0, .int 0, .ref 103], (q_cX A59 I59 q_J0, 40, 26520)) _
                  refine q_Ru_seg (g2 := (22, [(0, .ref 64), (1, .int 3853), (2, .int v), (3, .ref 103)], [.int 0], (q_cX A59 I59 (q_uA q_J0 39 (vp_updL (fun _ => 0) 0 0)), 40, 26520))) 4 (fun _ _ => rfl) ?_
                  exact q_Ru_ret rfl rfl
                · refine q_Ca_of (Nat.le_of_ble_eq_true rfl) ?_
                  refine q_Ru_seg (g2 := (2, [(0, .ref 64), (1, .int 3853), (2, .int v)], [.int 3853, .ref 64], (q_cM q_AM q_IM q_J0, 34, 31630))) 2 (fun _ _ => rfl) ?_
                  refine q_Ru_call (v := (some (.int 0))) (h2 := (q_cM q_AM q_IM q_J0, 34, 31630)) rfl rfl ?_ ?_
                  · refine q_Ca_of (Nat.le_of_ble_eq_true rfl) ?_
                    refine q_Ru_seg (g2 := (5, [(0, .int 3853)], [.int 4095, .int 0, .int 3853], (q_cM q_AM q_IM q_J0, 34, 31630))) 3 (fun _ _ => rfl) ?_
                    refine q_Ru_call (v := (some (.int 1))) (h2 := (q_cM q_AM q_IM q_J0, 34, 31630)) rfl rfl ?_ ?_
                    · refine q_Ca_of (Nat.le_of_ble_eq_true rfl) ?_
                      refine q_Ru_seg (g2 := (15, [(0, .int 3853), (1, .int 0), (2, .int 4095)], [.int 1], (q_cM q_AM q_IM q_J0, 34, 31630))) 8 (fun _ _ => rfl) ?_
                      exact q_Ru_ret rfl rfl
                    show q_Ru _ _ _ (8, [(0, .int 3853)], [.int 1], (q_cM q_AM q_IM q_J0, 34, 31630)) _
                    refine q_Ru_seg (g2 := (16, [(0, .int 3853)], [.int 0], (q_cM q_AM q_IM q_J0, 34, 31630))) 2 (fun _ _ => rfl) ?_
                    exact q_Ru_ret rfl rfl
                  show q_Ru _ _ _ (5, [(0, .ref 64), (1, .int 3853), (2, .int v)], [.int 0, .ref 64], (q_cM q_AM q_IM q_J0, 34, 31630)) _
                  refine q_Ru_seg (g2 := (13, [(0, .ref 64), (1, .int 3853), (2, .int v)], [.int v, .ref 64], (q_cM q_AM q_IM q_J0, 34, 31630))) 2 (fun _ _ => rfl) ?_
                  refine q_Ru_call (v := (some (.int 0))) (h2 := (q_cM q_AM q_IM q_J0, 34, 31630)) rfl rfl ?_ ?_
                  · refine q_Ca_of (Nat.le_of_ble_eq_true rfl) ?_
                    refine q_Ru_seg (g2 := (5, [(0, .int v)], [.int 255, .int 0, .int v], (q_cM q_AM q_IM q_J0, 34, 31630))) 3 (fun _ _ => rfl) ?_
                    refine q_Ru_call (v := (some (.int 1))) (h2 := (q_cM q_AM q_IM q_J0, 34, 31630)) rfl rfl ?_ ?_
                    · refine q_Ca_of (Nat.le_of_ble_eq_true rfl) ?_
                      refine q_Ru_seg (g2 := (2, [(0, .int v), (1, .int 0), (2, .int 255)], [.int 0, .int v], (q_cM q_AM q_IM q_J0, 34, 31630))) 2 (fun _ _ => rfl) ?_
                      refine q_Ru_rsF (g2 := (5, [(0, .int v), (1, .int 0), (2, .int 255)], [], (q_cM q_AM q_IM q_J0, 34, 31630))) rfl rfl h233 ?_
                      refine q_Ru_seg (g2 := (7, [(0, .int v), (1, .int 0), (2, .int 255)], [.int 255, .int v], (q_cM q_AM q_IM q_J0, 34, 31630))) 2 (fun _ _ => rfl) ?_
                      refine q_Ru_rsF (g2 := (10, [(0, .int v), (1, .int 0), (2, .int 255)], [], (q_cM q_AM q_IM q_J0, 34, 31630))) rfl rfl h235 ?_
                      refine q_Ru_seg (g2 := (15, [(0, .int v), (1, .int 0), (2, .int 255)], [.int 1], (q_cM q_AM q_IM q_J0, 34, 31630))) 2 (fun _ _ => rfl) ?_
                      exact q_Ru_ret rfl rfl
                    show q_Ru _ _ _ (8, [(0, .int v)], [.int 1], (q_cM q_AM q_IM q_J0, 34, 31630)) _
                    refine q_Ru_seg (g2 := (16, [(0, .int v)], [.int 0], (q_cM q_AM q_IM q_J0, 34, 31630))) 2 (fun _ _ => rfl) ?_
                    exact q_Ru_ret rfl rfl
                  show q_Ru _ _ _ (16, [(0, .ref 64), (1, .int 3853), (2, .int v)], [.int 0, .ref 64], (q_cM q_AM q_IM q_J0, 34, 31630)) _
                  refine q_Ru_seg (g2 := (24, [(0, .ref 64), (1, .int 3853), (2, .int v)], [.int 0, .ref 64], (q_cM q_AM q_IM q_J0, 34, 31630))) 2 (fun _ _ => rfl) ?_
                  refine q_Ru_call (v := (some (.int 0))) (h2 := (q_cM q_AM (q_uI q_IM 0 39 0) q_J0, 34, 31630)) rfl rfl ?_ ?_
                  · refine q_Ca_of (Nat.le_of_ble_eq_true rfl) ?_
                    refine q_Ru_seg (g2 := (14, [(0, .ref 64), (1, .int 0)], [.int 0], (q_cM q_AM (q_uI q_IM 0 39 0) q_J0, 34, 31630))) 6 (fun _ _ => rfl) ?_
                    exact q_Ru_ret rfl rfl
                  show q_Ru _ _ _ (27, [(0, .ref 64), (1, .int 3853), (2, .int v)], [.int 0], (q_cM q_AM (q_uI q_IM 0 39 0) q_J0, 34, 31630)) _
                  refine q_Ru_seg (g2 := (34, [(0, .ref 64), (1, .int 3853), (2, .int v)], [.int 3853, .ref 64], (q_cM q_AM (q_uI q_IM 0 39 0) q_J0, 34, 31630))) 3 (fun _ _ => rfl) ?_
                  refine q_Ru_call (v := (some (.int 0))) (h2 := (q_cM q_AM (q_uI q_IM 0 39 0) q_J0, 34, 31630)) rfl rfl ?_ ?_
                  · refine q_Ca_of (Nat.le_of_ble_eq_true rfl) ?_
                    refine q_Ru_seg (g2 := (7, [(0, .ref 64), (1, .int 3853)], [.int 3887, .int 3840, .int 3853], (q_cM q_AM (q_uI q_IM 0 39 0) q_J0, 34, 31630))) 3 (fun _ _ => rfl) ?_
                    refine q_Ru_call (v := (some (.int 1))) (h2 := (q_cM q_AM (q_uI q_IM 0 39 0) q_J0, 34, 31630)) rfl rfl ?_ ?_
                    · refine q_Ca_of (Nat.le_of_ble_eq_true rfl) ?_
                      refine q_Ru_seg (g2 := (15, [(0, .int 3853), (1, .int 3840), (2, .int 3887)], [.int 1], (q_cM q_AM (q_uI q_IM 0 39 0) q_J0, 34, 31630))) 8 (fun _ _ => rfl) ?_
                      exact q_Ru_ret rfl rfl
                    show q_Ru _ _ _ (10, [(0, .ref 64), (1, .int 3853)], [.int 1], (q_cM q_AM (q_uI q_IM 0 39 0) q_J0, 34, 31630)) _
                    refine q_Ru_seg (g2 := (19, [(0, .ref 64), (1, .int 3853)], [.int 13, .ref 64], (q_cM q_AM (q_uI q_IM 0 39 0) q_J0, 34, 31630))) 5 (fun _ _ => rfl) ?_
                    refine q_Ru_call (v := (some (.int 0))) (h2 := (q_cM q_AM (q_uI q_IM 0 39 0) q_J0, 34, 31630)) rfl rfl ?_ ?_
                    · refine q_Ca_of (Nat.le_of_ble_eq_true rfl) ?_
                      refine q_Ru_seg (g2 := (30, [(0, .ref 64), (1, .int 13)], [.int 15, .int 12, .int 13], (q_cM q_AM (q_uI q_IM 0 39 0) q_J0, 34, 31630))) 9 (fun _ _ => rfl) ?_
                      refine q_Ru_call (v := (some (.int 1))) (h2 := (q_cM q_AM (q_uI q_IM 0 39 0) q_J0, 34, 31630)) rfl rfl ?_ ?_
                      · refine q_Ca_of (Nat.le_of_ble_eq_true rfl) ?_
                        refine q_Ru_seg (g2 := (15, [(0, .int 13), (1, .int 12), (2, .int 15)], [.int 1], (q_cM q_AM (q_uI q_IM 0 39 0) q_J0, 34, 31630))) 8 (fun _ _ => rfl) ?_
                        exact q_Ru_ret rfl rfl
                      show q_Ru _ _ _ (33, [(0, .ref 64), (1, .int 13)], [.int 1], (q_cM q_AM (q_uI q_IM 0 39 0) q_J0, 34, 31630)) _
                      refine q_Ru_seg (g2 := (79, [(0, .ref 64), (1, .int 13)], [.int 0], (q_cM q_AM (q_uI q_IM 0 39 0) q_J0, 34, 31630))) 19 (fun _ _ => rfl) ?_
                      exact q_Ru_ret rfl rfl
                    show q_Ru _ _ _ (22, [(0, .ref 64), (1, .int 3853)], [.int 0], (q_cM q_AM (q_uI q_IM 0 39 0) q_J0, 34, 31630)) _
                    exact q_Ru_ret rfl rfl
                  show q_Ru _ _ _ (37, [(0, .ref 64), (1, .int 3853), (2, .int v)], [.int 0], (q_cM q_AM (q_uI q_IM 0 39 0) q_J0, 34, 31630)) _
                  refine q_Ru_seg (g2 := (41, [(3, .int 0), (0, .ref 64), (1, .int 3853), (2, .int v)], [.int v, .int 3853, .ref 64], (q_cM q_AM (q_uI q_IM 0 39 0) q_J0, 34, 31630))) 4 (fun _ _ => rfl) ?_
                  refine q_Ru_call (v := none) (h2 := (q_cM A60 (q_uI q_IM 0 39 0) q_J0, 34, 31630)) rfl rfl ?_ ?_
                  · exact p60.le (Nat.le_of_ble_eq_true rfl)
                  show q_Ru _ _ _ (44, [(3, .int 0), (0, .ref 64), (1, .int 3853), (2, .int v)], [], (q_cM A60 (q_uI q_IM 0 39 0) q_J0, 34, 31630)) _
                  refine q_Ru_seg (g2 := (45, [(3, .int 0), (0, .ref 64), (1, .int 3853), (2, .int v)], [.ref 64], (q_cM A60 (q_uI q_IM 0 39 0) q_J0, 34, 31630))) 1 (fun _ _ => rfl) ?_
                  refine q_Ru_call (v := none) (h2 := (q_cM A60 (q_uI q_IM 0 39 0) q_J0, 34, 31630)) rfl rfl ?_ ?_
                  · refine q_Ca_of (Nat.le_of_ble_eq_true rfl) ?_
                    refine q_Ru_seg (g2 := (17, [(0, .ref 64)], [], (q_cM A60 (q_uI q_IM 0 39 0) q_J0, 34, 31630))) 3 (fun _ _ => rfl) ?_
                    exact q_Ru_ret rfl rfl
                  show q_Ru _ _ _ (48, [(3, .int 0), (0, .ref 64), (1, .int 3853), (2, .int v)], [], (q_cM A60 (q_uI q_IM 0 39 0) q_J0, 34, 31630)) _
                  refine q_Ru_seg (g2 := (49, [(3, .int 0), (0, .ref 64), (1, .int 3853), (2, .int v)], [.int 0], (q_cM A60 (q_uI q_IM 0 39 0) q_J0, 34, 31630))) 1 (fun _ _ => rfl) ?_
                  exact q_Ru_ret rfl rfl
              | 14, _, e249 =>
                have e249 : a = 3854 := e249
                subst e249
                obtain ⟨A61, I61, p61⟩ := q_p_write q_AX q_IX (40) (26520) 3854 v
                obtain ⟨A62, p62⟩ := q_p_writes q_AM (q_uI q_IM 0 39 0) (34) (31630) 3854 v (by decide) (by decide)
                refine ⟨0, 0, 0, ⟨(q_cX A61 I61 (q_uA q_J0 39 (vp_updL (fun _ => 0) 0 0)), 40, 26520), (q_uA q_J0 39 (vp_updL (fun _ => 0) 0 0)) 39, ?_, rfl, fun _ => rfl, Nat.le_of_ble_eq_true rfl, Nat.le_of_ble_eq_true rfl⟩, ⟨(q_cM A62 (q_uI q_IM 0 39 0) q_J0, 34, 31630), _, ?_, rfl, rfl, Nat.le_of_ble_eq_true rfl, Nat.le_of_ble_eq_true rfl⟩, fun _ => rfl⟩
                · refine q_Ca_of (Nat.le_of_ble_eq_true rfl) ?_
                  refine q_Ru_seg (g2 := (5, [(0, .ref 64), (1, .int 3854), (2, .int v), (3, .ref 103)], [.int v, .int 3854, .ref 64, .int 0, .ref 103], (q_cX q_AX q_IX q_J0, 40, 26520))) 5 (fun _ _ => rfl) ?_
                  refine q_Ru_call (v := (some (.int 0))) (h2 := (q_cX A61 I61 q_J0, 40, 26520)) rfl rfl ?_ ?_
                  · refine q_Ca_of (Nat.le_of_ble_eq_true rfl) ?_
                    refine q_Ru_seg (g2 := (1, [(0, .ref 64), (1, .int 3854), (2, .int v)], [.int 3854], (q_cX q_AX q_IX q_J0, 40, 26520))) 1 (fun _ _ => rfl) ?_
                    refine q_Ru_call (v := none) (h2 := (q_cX q_AX q_IX q_J0, 40, 26520)) rfl rfl ?_ ?_
                    · refine q_Ca_of (Nat.le_of_ble_eq_true rfl) ?_
                      refine q_Ru_seg (g2 := (4, [(0, .int 3854)], [.int 4096, .int 3854], (q_cX q_AX q_IX q_J0, 40, 26520))) 2 (fun _ _ => rfl) ?_
                      refine q_Ru_call (v := none) (h2 := (q_cX q_AX q_IX q_J0, 40, 26520)) rfl rfl ?_ ?_
                      · refine q_Ca_of (Nat.le_of_ble_eq_true rfl) ?_
                        refine q_Ru_seg (g2 := (19, [(0, .int 3854), (1, .int 4096)], [], (q_cX q_AX q_IX q_J0, 40, 26520))) 5 (fun _ _ => rfl) ?_
                        exact q_Ru_ret rfl rfl
                      show q_Ru _ _ _ (7, [(0, .int 3854)], [], (q_cX q_AX q_IX q_J0, 40, 26520)) _
                      exact q_Ru_ret rfl rfl
                    show q_Ru _ _ _ (4, [(0, .ref 64), (1, .int 3854), (2, .int v)], [], (q_cX q_AX q_IX q_J0, 40, 26520)) _
                    refine q_Ru_seg (g2 := (5, [(0, .ref 64), (1, .int 3854), (2, .int v)], [.int v], (q_cX q_AX q_IX q_J0, 40, 26520))) 1 (fun _ _ => rfl) ?_
                    refine q_Ru_call (v := none) (h2 := (q_cX q_AX q_IX q_J0, 40, 26520)) rfl rfl ?_ ?_
                    · refine q_Ca_of (Nat.le_of_ble_eq_true rfl) ?_
                      refine q_Ru_seg (g2 := (5, [(0, .int v)], [.int 255, .int 0, .int v], (q_cX q_AX q_IX q_J0, 40, 26520))) 3 (fun _ _ => rfl) ?_
                      refine q_Ru_call (v := none) (h2 := (q_cX q_AX q_IX q_J0, 40, 26520)) rfl rfl ?_ ?_
                      · refine q_Ca_of (Nat.le_of_ble_eq_true rfl) ?_
                        refine q_Ru_seg (g2 := (2, [(0, .int v), (1, .int 0), (2, .int 255)], [.int 0, .int v], (q_cX q_AX q_IX q_J0, 40, 26520))) 2 (fun _ _ => rfl) ?_
                        refine q_Ru_rsF (g2 := (5, [(0, .int v), (1, .int 0), (2, .int 255)], [], (q_cX q_AX q_IX q_J0, 40, 26520))) rfl rfl h233 ?_
                        refine q_Ru_seg (g2 := (7, [(0, .int v), (1, .int 0), (2, .int 255)], [.int 255, .int v], (q_cX q_AX q_IX q_J0, 40, 26520))) 2 (fun _ _ => rfl) ?_
                        refine q_Ru_rsT (g2 := (20, [(0, .int v), (1, .int 0), (2, .int 255)], [], (q_cX q_AX q_IX q_J0, 40, 26520))) rfl rfl (q_d_geF h235) ?_
                        exact q_Ru_ret rfl rfl
                      show q_Ru _ _ _ (8, [(0, .int v)], [], (q_cX q_AX q_IX q_J0, 40, 26520)) _
                      exact q_Ru_ret rfl rfl
                    show q_Ru _ _ _ (8, [(0, .ref 64), (1, .int 3854), (2, .int v)], [], (q_cX q_AX q_IX q_J0, 40, 26520)) _
                    refine q_Ru_seg (g2 := (13, [(0, .ref 64), (1, .int 3854), (2, .int v)], [.int 0, .int v, .int 3854, .int 0, .ref 64], (q_cX q_AX q_IX q_J0, 40, 26520))) 5 (fun _ _ => rfl) ?_
                    refine q_Ru_call (v := none) (h2 := (q_cX q_AX q_IX q_J0, 40, 26520)) rfl rfl ?_ ?_
                    · refine q_Ca_of (Nat.le_of_ble_eq_true rfl) ?_
                      refine q_Ru_seg (g2 := (19, [(0, .ref 64), (1, .int 0), (2, .int 3854), (3, .int v), (4, .int 0)], [], (q_cX q_AX q_IX q_J0, 40, 26520))) 3 (fun _ _ => rfl) ?_
                      exact q_Ru_ret rfl rfl
                    show q_Ru _ _ _ (16, [(0, .ref 64), (1, .int 3854), (2, .int v)], [], (q_cX q_AX q_IX q_J0, 40, 26520)) _
                    refine q_Ru_seg (g2 := (24, [(0, .ref 64), (1, .int 3854), (2, .int v)], [.int 0, .int v, .int 3854, .int 0, .ref 65], (q_cX q_AX q_IX q_J0, 40, 26520))) 6 (fun _ _ => rfl) ?_
                    refine q_Ru_call (v := (some (.int 0))) (h2 := (q_cX A61 I61 q_J0, 40, 26520)) rfl rfl ?_ ?_
                    · refine q_Ca_of (Nat.le_of_ble_eq_true rfl) ?_
                      refine q_Ru_seg (g2 := (74, [(0, .ref 65), (1, .int 0), (2, .int 3854), (3, .int v), (4, .int 0)], [.int v, .int 3854, .ref 66], (q_cX q_AX q_IX q_J0, 40, 26520))) 6 (fun _ _ => rfl) ?_
                      refine q_Ru_call (v := (some (.int 0))) (h2 := (q_cX A61 I61 q_J0, 40, 26520)) rfl rfl ?_ ?_
                      · refine q_Ca_of (Nat.le_of_ble_eq_true rfl) ?_
                        refine q_Ru_seg (g2 := (2, [(0, .ref 66), (1, .int 3854), (2, .int v)], [.int 3854, .ref 66], (q_cX q_AX q_IX q_J0, 40, 26520))) 2 (fun _ _ => rfl) ?_
                        refine q_Ru_call (v := (some (.int 0))) (h2 := (q_cX q_AX q_IX q_J0, 40, 26520)) rfl rfl ?_ ?_
                        · refine q_Ca_of (Nat.le_of_ble_eq_true rfl) ?_
                          refine q_Ru_seg (g2 := (27, [(2, .int 14), (0, .ref 66), (1, .int 3854)], [.int 0, .int 14, .ref 66], (q_cX q_AX q_IX q_J0, 40, 26520))) 16 (fun _ _ => rfl) ?_
                          refine q_Ru_call (v := (some (.int 0))) (h2 := (q_cX q_AX q_IX q_J0, 40, 26520)) rfl rfl ?_ ?_
                          · refine q_Ca_of (Nat.le_of_ble_eq_true rfl) ?_
                            refine q_Ru_seg (g2 := (112, [(0, .ref 66), (1, .int 14), (2, .int 0)], [.int 0], (q_cX q_AX q_IX q_J0, 40, 26520))) 8 (fun _ _ => rfl) ?_
                            exact q_Ru_ret rfl rfl
                          show q_Ru _ _ _ (30, [(2, .int 14), (0, .ref 66), (1, .int 3854)], [.int 0], (q_cX q_AX q_IX q_J0, 40, 26520)) _
                          exact q_Ru_ret rfl rfl
                        show q_Ru _ _ _ (5, [(0, .ref 66), (1, .int 3854), (2, .int v)], [.int 0], (q_cX q_AX q_IX q_J0, 40, 26520)) _
                        refine q_Ru_seg (g2 := (9, [(3, .int 0), (0, .ref 66), (1, .int 3854), (2, .int v)], [.int v, .int 3854, .ref 66], (q_cX q_AX q_IX q_J0, 40, 26520))) 4 (fun _ _ => rfl) ?_
                        refine q_Ru_call (v := none) (h2 := (q_cX A61 I61 q_J0, 40, 26520)) rfl rfl ?_ ?_
                        · exact p61.le (Nat.le_of_ble_eq_true rfl)
                        show q_Ru _ _ _ (12, [(3, .int 0), (0, .ref 66), (1, .int 3854), (2, .int v)], [], (q_cX A61 I61 q_J0, 40, 26520)) _
                        refine q_Ru_seg (g2 := (13, [(3, .int 0), (0, .ref 66), (1, .int 3854), (2, .int v)], [.int 0], (q_cX A61 I61 q_J0, 40, 26520))) 1 (fun _ _ => rfl) ?_
                        exact q_Ru_ret rfl rfl
                      show q_Ru _ _ _ (77, [(0, .ref 65), (1, .int 0), (2, .int 3854), (3, .int v), (4, .int 0)], [.int 0], (q_cX A61 I61 q_J0, 40, 26520)) _
                      exact q_Ru_ret rfl rfl
                    show q_Ru _ _ _ (27, [(0, .ref 64), (1, .int 3854), (2, .int v)], [.int 0], (q_cX A61 I61 q_J0, 40, 26520)) _
                    exact q_Ru_ret rfl rfl
                  show q_Ru _ _ _ (8, [(0, .ref 64), (1, .int 3854), (2, .int v), (3, .ref 103)], [.int 0, .int 0, .ref 103], (q_cX A61 I61 q_J0, 40, 26520)) _
                  refine q_Ru_seg (g2 := (22, [(0, .ref 64), (1, .int 3854), (2, .int v), (3, .ref 103)], [.int 0], (q_cX A61 I61 (q_uA q_J0 39 (vp_updL (fun _ => 0) 0 0)), 40, 26520))) 4 (fun _ _ => rfl) ?_
                  exact q_Ru_ret rfl rfl
                · refine q_Ca_of (Nat.le_of_ble_eq_true rfl) ?_
                  refine q_Ru_seg (g2 := (2, [(0, .ref 64), (1, .int 3854), (2, .int v)], [.int 3854, .ref 64], (q_cM q_AM q_IM q_J0, 34, 31630))) 2 (fun _ _ => rfl) ?_
                  refine q_Ru_call (v := (some (.int 0))) (h2 := (q_cM q_AM q_IM q_J0, 34, 31630)) rfl rfl ?_ ?_
                  · refine q_Ca_of (Nat.le_of_ble_eq_true rfl) ?_
                    refine q_Ru_seg (g2 := (5, [(0, .int 3854)], [.int 4095, .int 0, .int 3854], (q_cM q_AM q_IM q_J0, 34, 31630))) 3 (fun _ _ => rfl) ?_
                    refine q_Ru_call (v := (some (.int 1))) (h2 := (q_cM q_AM q_IM q_J0, 34, 31630)) rfl rfl ?_ ?_
                    · refine q_Ca_of (Nat.le_of_ble_eq_true rfl) ?_
                      refine q_Ru_seg (g2 := (15, [(0, .int 3854), (1, .int 0), (2, .int 4095)], [.int 1], (q_cM q_AM q_IM q_J0, 34, 31630))) 8 (fun _ _ => rfl) ?_
                      exact q_Ru_ret rfl rfl
                    show q_Ru _ _ _ (8, [(0, .int 3854)], [.int 1], (q_cM q_AM q_IM q_J0, 34, 31630)) _
                    refine q_Ru_seg (g2 := (16, [(0, .int 3854)], [.int 0], (q_cM q_AM q_IM q_J0, 34, 31630))) 2 (fun _ _ => rfl) ?_
                    exact q_Ru_ret rfl rfl
                  show q_Ru _ _ _ (5, [(0, .ref 64), (1, .int 3854), (2, .int v)], [.int 0, .ref 64], (q_cM q_AM q_IM q_J0, 34, 31630)) _
                  refine q_Ru_seg (g2 := (13, [(0, .ref 64), (1, .int 3854), (2, .int v)], [.int v, .ref 64], (q_cM q_AM q_IM q_J0, 34, 31630))) 2 (fun _ _ => rfl) ?_
                  refine q_Ru_call (v := (some (.int 0))) (h2 := (q_cM q_AM q_IM q_J0, 34, 31630)) rfl rfl ?_ ?_
                  · refine q_Ca_of (Nat.le_of_ble_eq_true rfl) ?_
                    refine q_Ru_seg (g2 := (5, [(0, .int v)], [.int 255, .int 0, .int v], (q_cM q_AM q_IM q_J0, 34, 31630))) 3 (fun _ _ => rfl) ?_
                    refine q_Ru_call (v := (some (.int 1))) (h2 := (q_cM q_AM q_IM q_J0, 34, 31630)) rfl rfl ?_ ?_
                    · refine q_Ca_of (Nat.le_of_ble_eq_true rfl) ?_
                      refine q_Ru_seg (g2 := (2, [(0, .int v), (1, .int 0), (2, .int 255)], [.int 0, .int v], (q_cM q_AM q_IM q_J0, 34, 31630))) 2 (fun _ _ => rfl) ?_
                      refine q_Ru_rsF (g2 := (5, [(0, .int v), (1, .int 0), (2, .int 255)], [], (q_cM q_AM q_IM q_J0, 34, 31630))) rfl rfl h233 ?_
                      refine q_Ru_seg (g2 := (7, [(0, .int v), (1, .int 0), (2, .int 255)], [.int 255, .int v], (q_cM q_AM q_IM q_J0, 34, 31630))) 2 (fun _ _ => rfl) ?_
                      refine q_Ru_rsF (g2 := (10, [(0, .int v), (1, .int 0), (2, .int 255)], [], (q_cM q_AM q_IM q_J0, 34, 31630))) rfl rfl h235 ?_
                      refine q_Ru_seg (g2 := (15, [(0, .int v), (1, .int 0), (2, .int 255)], [.int 1], (q_cM q_AM q_IM q_J0, 34, 31630))) 2 (fun _ _ => rfl) ?_
                      exact q_Ru_ret rfl rfl
                    show q_Ru _ _ _ (8, [(0, .int v)], [.int 1], (q_cM q_AM q_IM q_J0, 34, 31630)) _
                    refine q_Ru_seg (g2 := (16, [(0, .int v)], [.int 0], (q_cM q_AM q_IM q_J0, 34, 31630))) 2 (fun _ _ => rfl) ?_
                    exact q_Ru_ret rfl rfl
                  show q_Ru _ _ _ (16, [(0, .ref 64), (1, .int 3854), (2, .int v)], [.int 0, .ref 64], (q_cM q_AM q_IM q_J0, 34, 31630)) _
                  refine q_Ru_seg (g2 := (24, [(0, .ref 64), (1, .int 3854), (2, .int v)], [.int 0, .ref 64], (q_cM q_AM q_IM q_J0, 34, 31630))) 2 (fun _ _ => rfl) ?_
                  refine q_Ru_call (v := (some (.int 0))) (h2 := (q_cM q_AM (q_uI q_IM 0 39 0) q_J0, 34, 31630)) rfl rfl ?_ ?_
                  · refine q_Ca_of (Nat.le_of_ble_eq_true rfl) ?_
                    refine q_Ru_seg (g2 := (14, [(0, .ref 64), (1, .int 0)], [.int 0], (q_cM q_AM (q_uI q_IM 0 39 0) q_J0, 34, 31630))) 6 (fun _ _ => rfl) ?_
                    exact q_Ru_ret rfl rfl
                  show q_Ru _ _ _ (27, [(0, .ref 64), (1, .int 3854), (2, .int v)], [.int 0], (q_cM q_AM (q_uI q_IM 0 39 0) q_J0, 34, 31630)) _
                  refine q_Ru_seg (g2 := (34, [(0, .ref 64), (1, .int 3854), (2, .int v)], [.int 3854, .ref 64], (q_cM q_AM (q_uI q_IM 0 39 0) q_J0, 34, 31630))) 3 (fun _ _ => rfl) ?_
                  refine q_Ru_call (v := (some (.int 0))) (h2 := (q_cM q_AM (q_uI q_IM 0 39 0) q_J0, 34, 31630)) rfl rfl ?_ ?_
                  · refine q_Ca_of (Nat.le_of_ble_eq_true rfl) ?_
                    refine q_Ru_seg (g2 := (7, [(0, .ref 64), (1, .int 3854)], [.int 3887, .int 3840, .int 3854], (q_cM q_AM (q_uI q_IM 0 39 0) q_J0, 34, 31630))) 3 (fun _ _ => rfl) ?_
                    refine q_Ru_call (v := (some (.int 1))) (h2 := (q_cM q_AM (q_uI q_IM 0 39 0) q_J0, 34, 31630)) rfl rfl ?_ ?_
                    · refine q_Ca_of (Nat.le_of_ble_eq_true rfl) ?_
                      refine q_Ru_seg (g2 := (15, [(0, .int 3854), (1, .int 3840), (2, .int 3887)], [.int 1], (q_cM q_AM (q_uI q_IM 0 39 0) q_J0, 34, 31630))) 8 (fun _ _ => rfl) ?_
                      exact q_Ru_ret rfl rfl
                    show q_Ru _ _ _ (10, [(0, .ref 64), (1, .int 3854)], [.int 1], (q_cM q_AM (q_uI q_IM 0 39 0) q_J0, 34, 31630)) _
                    refine q_Ru_seg (g2 := (19, [(0, .ref 64), (1, .int 3854)], [.int 14, .ref 64], (q_cM q_AM (q_uI q_IM 0 39 0) q_J0, 34, 31630))) 5 (fun _ _ => rfl) ?_
                    refine q_Ru_call (v := (some (.int 0))) (h2 := (q_cM q_AM (q_uI q_IM 0 39 0) q_J0, 34, 31630)) rfl rfl ?_ ?_
                    · refine q_Ca_of (Nat.le_of_ble_eq_true rfl) ?_
                      refine q_Ru_seg (g2 := (30, [(0, .ref 64), (1, .int 14)], [.int 15, .int 12, .int 14], (q_cM q_AM (q_uI q_IM 0 39 0) q_J0, 34, 31630))) 9 (fun _ _ => rfl) ?_
                      refine q_Ru_call (v := (some (.int 1))) (h2 := (q_cM q_AM (q_uI q_IM 0 39 0) q_J0, 34, 31630)) rfl rfl ?_ ?_
                      · refine q_Ca_of (Nat.le_of_ble_eq_true rfl) ?_
                        refine q_Ru_seg (g2 := (15, [(0, .int 14), (1, .int 12), (2, .int 15)], [.int 1], (q_cM q_AM (q_uI q_IM 0 39 0) q_J0, 34, 31630))) 8 (fun _ _ => rfl) ?_
                        exact q_Ru_ret rfl rfl
                      show q_Ru _ _ _ (33, [(0, .ref 64), (1, .int 14)], [.int 1], (q_cM q_AM (q_uI q_IM 0 39 0) q_J0, 34, 31630)) _
                      refine q_Ru_seg (g2 := (79, [(0, .ref 64), (1, .int 14)], [.int 0], (q_cM q_AM (q_uI q_IM 0 39 0) q_J0, 34, 31630))) 18 (fun _ _ => rfl) ?_
                      exact q_Ru_ret rfl rfl
                    show q_Ru _ _ _ (22, [(0, .ref 64), (1, .int 3854)], [.int 0], (q_cM q_AM (q_uI q_IM 0 39 0) q_J0, 34, 31630)) _
                    exact q_Ru_ret rfl rfl
                  show q_Ru _ _ _ (37, [(0, .ref 64), (1, .int 3854), (2, .int v)], [.int 0], (q_cM q_AM (q_uI q_IM 0 39 0) q_J0, 34, 31630)) _
                  refine q_Ru_seg (g2 := (41, [(3, .int 0), (0, .ref 64), (1, .int 3854), (2, .int v)], [.int v, .int 3854, .ref 64], (q_cM q_AM (q_uI q_IM 0 39 0) q_J0, 34, 31630))) 4 (fun _ _ => rfl) ?_
                  refine q_Ru_call (v := none) (h2 := (q_cM A62 (q_uI q_IM 0 39 0) q_J0, 34, 31630)) rfl rfl ?_ ?_
                  · exact p62.le (Nat.le_of_ble_eq_true rfl)
                  show q_Ru _ _ _ (44, [(3, .int 0), (0, .ref 64), (1, .int 3854), (2, .int v)], [], (q_cM A62 (q_uI q_IM 0 39 0) q_J0, 34, 31630)) _
                  refine q_Ru_seg (g2 := (45, [(3, .int 0), (0, .ref 64), (1, .int 3854), (2, .int v)], [.ref 64], (q_cM A62 (q_uI q_IM 0 39 0) q_J0, 34, 31630))) 1 (fun _ _ => rfl) ?_
                  refine q_Ru_call (v := none) (h2 := (q_cM A62 (q_uI q_IM 0 39 0) q_J0, 34, 31630)) rfl rfl ?_ ?_
                  · refine q_Ca_of (Nat.le_of_ble_eq_true rfl) ?_
                    refine q_Ru_seg (g2 := (17, [(0, .ref 64)], [], (q_cM A62 (q_uI q_IM 0 39 0) q_J0, 34, 31630))) 3 (fun _ _ => rfl) ?_
                    exact q_Ru_ret rfl rfl
                  show q_Ru _ _ _ (48, [(3, .int 0), (0, .ref 64), (1, .int 3854), (2, .int v)], [], (q_cM A62 (q_uI q_IM 0 39 0) q_J0, 34, 31630)) _
                  refine q_Ru_seg (g2 := (49, [(3, .int 0), (0, .ref 64), (1, .int 3854), (2, .int v)], [.int 0], (q_cM A62 (q_uI q_IM 0 39 0) q_J0, 34, 31630))) 1 (fun _ _ => rfl) ?_
                  exact q_Ru_ret rfl rfl
              | 15, _, e249 =>
                have e249 : a = 3855 := e249
                subst e249
                obtain ⟨A63, I63, p63⟩ := q_p_write q_AX q_IX (40) (26520) 3855 v
                obtain ⟨A64, p64⟩ := q_p_writes q_AM (q_uI q_IM 0 39 0) (34) (31630) 3855 v (by decide) (by decide)
                refine ⟨0, 0, 0, ⟨(q_cX A63 I63 (q_uA q_J0 39 (vp_updL (fun _ => 0) 0 0)), 40, 26520), (q_uA q_J0 39 (vp_updL (fun _ => 0) 0 0)) 39, ?_, rfl, fun _ => rfl, Nat.le_of_ble_eq_true rfl, Nat.le_of_ble_eq_true rfl⟩, ⟨(q_cM A64 (q_uI q_IM 0 39 0) q_J0, 34, 31630), _, ?_, rfl, rfl, Nat.le_of_ble_eq_true rfl, Nat.le_of_ble_eq_true rfl⟩, fun _ => rfl⟩
                · refine q_Ca_of (Nat.le_of_ble_eq_true rfl) ?_
                  refine q_Ru_seg (g2 := (5, [(0, .ref 64), (1, .int 3855), (2, .int v), (3, .ref 103)], [.int v, .int 3855, .ref 64, .int 0, .ref 103], (q_cX q_AX q_IX q_J0, 40, 26520))) 5 (fun _ _ => rfl) ?_
                  refine q_Ru_call (v := (some (.int 0))) (h2 := (q_cX A63 I63 q_J0, 40, 26520)) rfl rfl ?_ ?_
                  · refine q_Ca_of (Nat.le_of_ble_eq_true rfl) ?_
                    refine q_Ru_seg (g2 := (1, [(0, .ref 64), (1, .int 3855), (2, .int v)], [.int 3855], (q_cX q_AX q_IX q_J0, 40, 26520))) 1 (fun _ _ => rfl) ?_
                    refine q_Ru_call (v := none) (h2 := (q_cX q_AX q_IX q_J0, 40, 26520)) rfl rfl ?_ ?_
                    · refine q_Ca_of (Nat.le_of_ble_eq_true rfl) ?_
                      refine q_Ru_seg (g2 := (4, [(0, .int 3855)], [.int 4096, .int 3855], (q_cX q_AX q_IX q_J0, 40, 26520))) 2 (fun _ _ => rfl) ?_
                      refine q_Ru_call (v := none) (h2 := (q_cX q_AX q_IX q_J0, 40, 26520)) rfl rfl ?_ ?_
                      · refine q_Ca_of (Nat.le_of_ble_eq_true rfl) ?_
                        refine q_Ru_seg (g2 := (19, [(0, .int 3855), (1, .int 4096)], [], (q_cX q_AX q_IX q_J0, 40, 26520))) 5 (fun _ _ => rfl) ?_
                        exact q_Ru_ret rfl rfl
                      show q_Ru _ _ _ (7, [(0, .int 3855)], [], (q_cX q_AX q_IX q_J0, 40, 26520)) _
                      exact q_Ru_ret rfl rfl
                    show q_Ru _ _ _ (4, [(0, .ref 64), (1, .int 3855), (2, .int v)], [], (q_cX q_AX q_IX q_J0, 40, 26520)) _
                    refine q_Ru_seg (g2 := (5, [(0, .ref 64), (1, .int 3855), (2, .int v)], [.int v], (q_cX q_AX q_IX q_J0, 40, 26520))) 1 (fun _ _ => rfl) ?_
                    refine q_Ru_call (v := none) (h2 := (q_cX q_AX q_IX q_J0, 40, 26520)) rfl rfl ?_ ?_
                    · refine q_Ca_of (Nat.le_of_ble_eq_true rfl) ?_
                      refine q_Ru_seg (g2 := (5, [(0, .int v)], [.int 255, .int 0, .int v], (q_cX q_AX q_IX q_J0, 40, 26520))) 3 (fun _ _ => rfl) ?_
                      refine q_Ru_call (v := none) (h2 := (q_cX q_AX q_IX q_J0, 40, 26520)) rfl rfl ?_ ?_
                      · refine q_Ca_of (Nat.le_of_ble_eq_true rfl) ?_
                        refine q_Ru_seg (g2 := (2, [(0, .int v), (1, .int 0), (2, .int 255)], [.int 0, .int v], (q_cX q_AX q_IX q_J0, 40, 26520))) 2 (fun _ _ => rfl) ?_
                        refine q_Ru_rsF (g2 := (5, [(0, .int v), (1, .int 0), (2, .int 255)], [], (q_cX q_AX q_IX q_J0, 40, 26520))) rfl rfl h233 ?_
                        refine q_Ru_seg (g2 := (7, [(0, .int v), (1, .int 0), (2, .int 255)], [.int 255, .int v], (q_cX q_AX q_IX q_J0, 40, 26520))) 2 (fun _ _ => rfl) ?_
                        refine q_Ru_rsT (g2 := (20, [(0, .int v), (1, .int 0), (2, .int 255)], [], (q_cX q_AX q_IX q_J0, 40, 26520))) rfl rfl (q_d_geF h235) ?_
                        exact q_Ru_ret rfl rfl
                      show q_Ru _ _ _ (8, [(0, .int v)], [], (q_cX q_AX q_IX q_J0, 40, 26520)) _
                      exact q_Ru_ret rfl rfl
                    show q_Ru _ _ _ (8, [(0, .ref 64), (1, .int 3855), (2, .int v)], [], (q_cX q_AX q_IX q_J0, 40, 26520)) _
                    refine q_Ru_seg (g2 := (13, [(0, .ref 64), (1, .int 3855), (2, .int v)], [.int 0, .int v, .int 3855, .int 0, .ref 64], (q_cX q_AX q_IX q_J0, 40, 26520))) 5 (fun _ _ => rfl) ?_
                    refine q_Ru_call (v := none) (h2 := (q_cX q_AX q_IX q_J0, 40, 26520)) rfl rfl ?_ ?_
                    · refine q_Ca_of (Nat.le_of_ble_eq_true rfl) ?_
                      refine q_Ru_seg (g2 := (19, [(0, .ref 64), (1, .int 0), (2, .int 3855), (3, .int v), (4, .int 0)], [], (q_cX q_AX q_IX q_J0, 40, 26520))) 3 (fun _ _ => rfl) ?_
                      exact q_Ru_ret rfl rfl
                    show q_Ru _ _ _ (16, [(0, .ref 64), (1, .int 3855), (2, .int v)], [], (q_cX q_AX q_IX q_J0, 40, 26520)) _
                    refine q_Ru_seg (g2 := (24, [(0, .ref 64), (1, .int 3855), (2, .int v)], [.int 0, .int v, .int 3855, .int 0, .ref 65], (q_cX q_AX q_IX q_J0, 40, 26520))) 6 (fun _ _ => rfl) ?_
                    refine q_Ru_call (v := (some (.int 0))) (h2 := (q_cX A63 I63 q_J0, 40, 26520)) rfl rfl ?_ ?_
                    · refine q_Ca_of (Nat.le_of_ble_eq_true rfl) ?_
                      refine q_Ru_seg (g2 := (74, [(0, .ref 65), (1, .int 0), (2, .int 3855), (3, .int v), (4, .int 0)], [.int v, .int 3855, .ref 66], (q_cX q_AX q_IX q_J0, 40, 26520))) 6 (fun _ _ => rfl) ?_
                      refine q_Ru_call (v := (some (.int 0))) (h2 := (q_cX A63 I63 q_J0, 40, 26520)) rfl rfl ?_ ?_
                      · refine q_Ca_of (Nat.le_of_ble_eq_true rfl) ?_
                        refine q_Ru_seg (g2 := (2, [(0, .ref 66), (1, .int 3855), (2, .int v)], [.int 3855, .ref 66], (q_cX q_AX q_IX q_J0, 40, 26520))) 2 (fun _ _ => rfl) ?_
                        refine q_Ru_call (v := (some (.int 0))) (h2 := (q_cX q_AX q_IX q_J0, 40, 26520)) rfl rfl ?_ ?_
                        · refine q_Ca_of (Nat.le_of_ble_eq_true rfl) ?_
                          refine q_Ru_seg (g2 := (27, [(2, .int 15), (0, .ref 66), (1, .int 3855)], [.int 0, .int 15, .ref 66], (q_cX q_AX q_IX q_J0, 40, 26520))) 16 (fun _ _ => rfl) ?_
                          refine q_Ru_call (v := (some (.int 0))) (h2 := (q_cX q_AX q_IX q_J0, 40, 26520)) rfl rfl ?_ ?_
                          · refine q_Ca_of (Nat.le_of_ble_eq_true rfl) ?_
                            refine q_Ru_seg (g2 := (122, [(0, .ref 66), (1, .int 15), (2, .int 0)], [.int 0], (q_cX q_AX q_IX q_J0, 40, 26520))) 8 (fun _ _ => rfl) ?_
                            exact q_Ru_ret rfl rfl
                          show q_Ru _ _ _ (30, [(2, .int 15), (0, .ref 66), (1, .int 3855)], [.int 0], (q_cX q_AX q_IX q_J0, 40, 26520)) _
                          exact q_Ru_ret rfl rfl
                        show q_Ru _ _ _ (5, [(0, .ref 66), (1, .int 3855), (2, .int v)], [.int 0], (q_cX q_AX q_IX q_J0, 40, 26520)) _
                        refine q_Ru_seg (g2 := (9, [(3, .int 0), (0, .ref 66), (1, .int 3855), (2, .int v)], [.int v, .int 3855, .ref 66], (q_cX q_AX q_IX q_J0, 40, 26520))) 4 (fun _ _ => rfl) ?_
                        refine q_Ru_call (v := none) (h2 := (q_cX A63 I63 q_J0, 40, 26520)) rfl rfl ?_ ?_
                        · exact p63.le (Nat.le_of_ble_eq_true rfl)
                        show q_Ru _ _ _ (12, [(3, .int 0), (0, .ref 66), (1, .int 3855), (2, .int v)], [], (q_cX A63 I63 q_J0, 40, 26520)) _
                        refine q_Ru_seg (g2 := (13, [(3, .int 0), (0, .ref 66), (1, .int 3855), (2, .int v)], [.int 0], (q_cX A63 I63 q_J0, 40, 26520))) 1 (fun _ _ => rfl) ?_
                        exact q_Ru_ret rfl rfl
                      show q_Ru _ _ _ (77, [(0, .ref 65), (1, .int 0), (2, .int 3855), (3, .int v), (4, .int 0)], [.int 0], (q_cX A63 I63 q_J0, 40, 26520)) _
                      exact q_Ru_ret rfl rfl
                    show q_Ru _ _ _ (27, [(0, .ref 64), (1, .int 3855), (2, .int v)], [.int 0], (q_cX A63 I63 q_J0, 40, 26520)) _
                    exact q_Ru_ret rfl rfl
                  show q_Ru _ _ _ (8, [(0, .ref 64), (1, .int 3855), (2, .int v), (3, .ref 103)], [.int 0, .int 0, .ref 103], (q_cX A63 I63 q_J0, 40, 26520)) _
                  refine q_Ru_seg (g2 := (22, [(0, .ref 64), (1, .int 3855), (2, .int v), (3, .ref 103)], [.int 0], (q_cX A63 I63 (q_uA q_J0 39 (vp_updL (fun _ => 0) 0 0)), 40, 26520))) 4 (fun _ _ => rfl) ?_
                  exact q_Ru_ret rfl rfl
                · refine q_Ca_of (Nat.le_of_ble_eq_true rfl) ?_
                  refine q_Ru_seg (g2 := (2, [(0, .ref 64), (1, .int 3855), (2, .int v)], [.int 3855, .ref 64], (q_cM q_AM q_IM q_J0, 34, 31630))) 2 (fun _ _ => rfl) ?_
                  refine q_Ru_call (v := (some (.int 0))) (h2 := (q_cM q_AM q_IM q_J0, 34, 31630)) rfl rfl ?_ ?_
                  · refine q_Ca_of (Nat.le_of_ble_eq_true rfl) ?_
                    refine q_Ru_seg (g2 := (5, [(0, .int 3855)], [.int 4095, .int 0, .int 3855], (q_cM q_AM q_IM q_J0, 34, 31630))) 3 (fun _ _ => rfl) ?_
                    refine q_Ru_call (v := (some (.int 1))) (h2 := (q_cM q_AM q_IM q_J0, 34, 31630)) rfl rfl ?_ ?_
                    · refine q_Ca_of (Nat.le_of_ble_eq_true rfl) ?_
                      refine q_Ru_seg (g2 := (15, [(0, .int 3855), (1, .int 0), (2, .int 4095)], [.int 1], (q_cM q_AM q_IM q_J0, 34, 31630))) 8 (fun _ _ => rfl) ?_
                      exact q_Ru_ret rfl rfl
                    show q_Ru _ _ _ (8, [(0, .int 3855)], [.int 1], (q_cM q_AM q_IM q_J0, 34, 31630)) _
                    refine q_Ru_seg (g2 := (16, [(0, .int 3855)], [.int 0], (q_cM q_AM q_IM q_J0, 34, 31630))) 2 (fun _ _ => rfl) ?_
                    exact q_Ru_ret rfl rfl
                  show q_Ru _ _ _ (5, [(0, .ref 64), (1, .int 3855), (2, .int v)], [.int 0, .ref 64], (q_cM q_AM q_IM q_J0, 34, 31630)) _
                  refine q_Ru_seg (g2 := (13, [(0, .ref 64), (1, .int 3855), (2, .int v)], [.int v, .ref 64], (q_cM q_AM q_IM q_J0, 34, 31630))) 2 (fun _ _ => rfl) ?_
                  refine q_Ru_call (v := (some (.int 0))) (h2 := (q_cM q_AM q_IM q_J0, 34, 31630)) rfl rfl ?_ ?_
                  · refine q_Ca_of (Nat.le_of_ble_eq_true rfl) ?_
                    refine q_Ru_seg (g2 := (5, [(0, .int v)], [.int 255, .int 0, .int v], (q_cM q_AM q_IM q_J0, 34, 31630))) 3 (fun _ _ => rfl) ?_
                    refine q_Ru_call (v := (some (.int 1))) (h2 := (q_cM q_AM q_IM q_J0, 34, 31630)) rfl rfl ?_ ?_
                    · refine q_Ca_of (Nat.le_of_ble_eq_true rfl) ?_
                      refine q_Ru_seg (g2 := (2, [(0, .int v), (1, .int 0), (2, .int 255)], [.int 0, .int v], (q_cM q_AM q_IM q_J0, 34, 31630))) 2 (fun _ _ => rfl) ?_
                      refine q_Ru_rsF (g2 := (5, [(0, .int v), (1, .int 0), (2, .int 255)], [], (q_cM q_AM q_IM q_J0, 34, 31630))) rfl rfl h233 ?_
                      refine q_Ru_seg (g2 := (7, [(0, .int v), (1, .int 0), (2, .int 255)], [.int 255, .int v], (q_cM q_AM q_IM q_J0, 34, 31630))) 2 (fun _ _ => rfl) ?_
                      refine q_Ru_rsF (g2 := (10, [(0, .int v), (1, .int 0), (2, .int 255)], [], (q_cM q_AM q_IM q_J0, 34, 31630))) rfl rfl h235 ?_
                      refine q_Ru_seg (g2 := (15, [(0, .int v), (1, .int 0), (2, .int 255)], [.int 1], (q_cM q_AM q_IM q_J0, 34, 31630))) 2 (fun _ _ => rfl) ?_
                      exact q_Ru_ret rfl rfl
                    show q_Ru _ _ _ (8, [(0, .int v)], [.int 1], (q_cM q_AM q_IM q_J0, 34, 31630)) _
                    refine q_Ru_seg (g2 := (16, [(0, .int v)], [.int 0], (q_cM q_AM q_IM q_J0, 34, 31630))) 2 (fun _ _ => rfl) ?_
                    exact q_Ru_ret rfl rfl
                  show q_Ru _ _ _ (16, [(0, .ref 64), (1, .int 3855), (2, .int v)], [.int 0, .ref 64], (q_cM q_AM q_IM q_J0, 34, 31630)) _
                  refine q_Ru_seg (g2 := (24, [(0, .ref 64), (1, .int 3855), (2, .int v)], [.int 0, .ref 64], (q_cM q_AM q_IM q_J0, 34, 31630))) 2 (fun _ _ => rfl) ?_
                  refine q_Ru_call (v := (some (.int 0))) (h2 := (q_cM q_AM (q_uI q_IM 0 39 0) q_J0, 34, 31630)) rfl rfl ?_ ?_
                  · refine q_Ca_of (Nat.le_of_ble_eq_true rfl) ?_
                    refine q_Ru_seg (g2 := (14, [(0, .ref 64), (1, .int 0)], [.int 0], (q_cM q_AM (q_uI q_IM 0 39 0) q_J0, 34, 31630))) 6 (fun _ _ => rfl) ?_
                    exact q_Ru_ret rfl rfl
                  show q_Ru _ _ _ (27, [(0, .ref 64), (1, .int 3855), (2, .int v)], [.int 0], (q_cM q_AM (q_uI q_IM 0 39 0) q_J0, 34, 31630)) _
                  refine q_Ru_seg (g2 := (34, [(0, .ref 64), (1, .int 3855), (2, .int v)], [.int 3855, .ref 64], (q_cM q_AM (q_uI q_IM 0 39 0) q_J0, 34, 31630))) 3 (fun _ _ => rfl) ?_
                  refine q_Ru_call (v := (some (.int 0))) (h2 := (q_cM q_AM (q_uI q_IM 0 39 0) q_J0, 34, 31630)) rfl rfl ?_ ?_
                  · refine q_Ca_of (Nat.le_of_ble_eq_true rfl) ?_
                    refine q_Ru_seg (g2 := (7, [(0, .ref 64), (1, .int 3855)], [.int 3887, .int 3840, .int 3855], (q_cM q_AM (q_uI q_IM 0 39 0) q_J0, 34, 31630))) 3 (fun _ _ => rfl) ?_
                    refine q_Ru_call (v := (some (.int 1))) (h2 := (q_cM q_AM (q_uI q_IM 0 39 0) q_J0, 34, 31630)) rfl rfl ?_ ?_
                    · refine q_Ca_of (Nat.le_of_ble_eq_true rfl) ?_
                      refine q_Ru_seg (g2 := (15, [(0, .int 3855), (1, .int 3840), (2, .int 3887)], [.int 1], (q_cM q_AM (q_uI q_IM 0 39 0) q_J0, 34, 31630))) 8 (fun _ _ => rfl) ?_
                      exact q_Ru_ret rfl rfl
                    show q_Ru _ _ _ (10, [(0, .ref 64), (1, .int 3855)], [.int 1], (q_cM q_AM (q_uI q_IM 0 39 0) q_J0, 34, 31630)) _
                    refine q_Ru_seg (g2 := (19, [(0, .ref 64), (1, .int 3855)], [.int 15, .ref 64], (q_cM q_AM (q_uI q_IM 0 39 0) q_J0, 34, 31630))) 5 (fun _ _ => rfl) ?_
                    refine q_Ru_call (v := (some (.int 0))) (h2 := (q_cM q_AM (q_uI q_IM 0 39 0) q_J0, 34, 31630)) rfl rfl ?_ ?_
                    · refine q_Ca_of (Nat.le_of_ble_eq_true rfl) ?_
                      refine q_Ru_seg (g2 := (30, [(0, .ref 64), (1, .int 15)], [.int 15, .int 12, .int 15], (q_cM q_AM (q_uI q_IM 0 39 0) q_J0, 34, 31630))) 9 (fun _ _ => rfl) ?_
                      refine q_Ru_call (v := (some (.int 1))) (h2 := (q_cM q_AM (q_uI q_IM 0 39 0) q_J0, 34, 31630)) rfl rfl ?_ ?_
                      · refine q_Ca_of (Nat.le_of_ble_eq_true rfl) ?_
                        refine q_Ru_seg (g2 := (15, [(0, .int 15), (1, .int 12), (2, .int 15)], [.int 1], (q_cM q_AM (q_uI q_IM 0 39 0) q_J0, 34, 31630))) 8 (fun _ _ => rfl) ?_
                        exact q_Ru_ret rfl rfl
                      show q_Ru _ _ _ (33, [(0, .ref 64), (1, .int 15)], [.int 1], (q_cM q_AM (q_uI q_IM 0 39 0) q_J0, 34, 31630)) _
                      refine q_Ru_seg (g2 := (79, [(0, .ref 64), (1, .int 15)], [.int 0], (q_cM q_AM (q_uI q_IM 0 39 0) q_J0, 34, 31630))) 19 (fun _ _ => rfl) ?_
                      exact q_Ru_ret rfl rfl
                    show q_Ru _ _ _ (22, [(0, .ref 64), (1, .int 3855)], [.int 0], (q_cM q_AM (q_uI q_IM 0 39 0) q_J0, 34, 31630)) _
                    exact q_Ru_ret rfl rfl
                  show q_Ru _ _ _ (37, [(0, .ref 64), (1, .int 3855), (2, .int v)], [.int 0], (q_cM q_AM (q_uI q_IM 0 39 0) q_J0, 34, 31630)) _
                  refine q_Ru_seg (g2 := (41, [(3, .int 0), (0, .ref 64), (1, .int 3855), (2, .int v)], [.int v, .int 3855, .ref 64], (q_cM q_AM (q_uI q_IM 0 39 0) q_J0, 34, 31630))) 4 (fun _ _ => rfl) ?_
                  refine q_Ru_call (v := none) (h2 := (q_cM A64 (q_uI q_IM 0 39 0) q_J0, 34, 31630)) rfl rfl ?_ ?_
                  · exact p64.le (Nat.le_of_ble_eq_true rfl)
                  show q_Ru _ _ _ (44, [(3, .int 0), (0, .ref 64), (1, .int 3855), (2, .int v)], [], (q_cM A64 (q_uI q_IM 0 39 0) q_J0, 34, 31630)) _
                  refine q_Ru_seg (g2 := (45, [(3, .int 0), (0, .ref 64), (1, .int 3855), (2, .int v)], [.ref 64], (q_cM A64 (q_uI q_IM 0 39 0) q_J0, 34, 31630))) 1 (fun _ _ => rfl) ?_
                  refine q_Ru_call (v := none) (h2 := (q_cM A64 (q_uI q_IM 0 39 0) q_J0, 34, 31630)) rfl rfl ?_ ?_
                  · refine q_Ca_of (Nat.le_of_ble_eq_true rfl) ?_
                    refine q_Ru_seg (g2 := (17, [(0, .ref 64)], [], (q_cM A64 (q_uI q_IM 0 39 0) q_J0, 34, 31630))) 3 (fun _ _ => rfl) ?_
                    exact q_Ru_ret rfl rfl
                  show q_Ru _ _ _ (48, [(3, .int 0), (0, .ref 64), (1, .int 3855), (2, .int v)], [], (q_cM A64 (q_uI q_IM 0 39 0) q_J0, 34, 31630)) _
                  refine q_Ru_seg (g2 := (49, [(3, .int 0), (0, .ref 64), (1, .int 3855), (2, .int v)], [.int 0], (q_cM A64 (q_uI q_IM 0 39 0) q_J0, 34, 31630))) 1 (fun _ _ => rfl) ?_
                  exact q_Ru_ret rfl rfl
              | 16, _, e249 =>
                have e249 : a = 3856 := e249
                subst e249
                obtain ⟨A65, I65, p65⟩ := q_p_write q_AX q_IX (40) (26520) 3856 v
                obtain ⟨A66, p66⟩ := q_p_writes q_AM (q_uI q_IM 0 39 0) (34) (31630) 3856 v (by decide) (by decide)
                refine ⟨0, 0, 0, ⟨(q_cX A65 I65 (q_uA q_J0 39 (vp_updL (fun _ => 0) 0 0)), 40, 26520), (q_uA q_J0 39 (vp_updL (fun _ => 0) 0 0)) 39, ?_, rfl, fun _ => rfl, Nat.le_of_ble_eq_true rfl, Nat.le_of_ble_eq_true rfl⟩, ⟨(q_cM A66 (q_uI q_IM 0 39 0) q_J0, 34, 31630), _, ?_, rfl, rfl, Nat.le_of_ble_eq_true rfl, Nat.le_of_ble_eq_true rfl⟩, fun _ => rfl⟩
                · refine q_Ca_of (Nat.le_of_ble_eq_true rfl) ?_
                  refine q_Ru_seg (g2 := (5, [(0, .ref 64), (1, .int 3856), (2, .int v), (3, .ref 103)], [.int v, .int 3856, .ref 64, .int 0, .ref 103], (q_cX q_AX q_IX q_J0, 40, 26520))) 5 (fun _ _ => rfl) ?_
                  refine q_Ru_call (v := (some (.int 0))) (h2 := (q_cX A65 I65 q_J0, 40, 26520)) rfl rfl ?_ ?_
                  · refine q_Ca_of (Nat.le_of_ble_eq_true rfl) ?_
                    refine q_Ru_seg (g2 := (1, [(0, .ref 64), (1, .int 3856), (2, .int v)], [.int 3856], (q_cX q_AX q_IX q_J0, 40, 26520))) 1 (fun _ _ => rfl) ?_
                    refine q_Ru_call (v := none) (h2 := (q_cX q_AX q_IX q_J0, 40, 26520)) rfl rfl ?_ ?_
                    · refine q_Ca_of (Nat.le_of_ble_eq_true rfl) ?_
                      refine q_Ru_seg (g2 := (4, [(0, .int 3856)], [.int 4096, .int 3856], (q_cX q_AX q_IX q_J0, 40, 26520))) 2 (fun _ _ => rfl) ?_
                      refine q_Ru_call (v := none) (h2 := (q_cX q_AX q_IX q_J0, 40, 26520)) rfl rfl ?_ ?_
                      · refine q_Ca_of (Nat.le_of_ble_eq_true rfl) ?_
                        refine q_Ru_seg (g2 := (19, [(0, .int 3856), (1, .int 4096)], [], (q_cX q_AX q_IX q_J0, 40, 26520))) 5 (fun _ _ => rfl) ?_
                        exact q_Ru_ret rfl rfl
                      show q_Ru _ _ _ (7, [(0, .int 3856)], [], (q_cX q_AX q_IX q_J0, 40, 26520)) _
                      exact q_Ru_ret rfl rfl
                    show q_Ru _ _ _ (4, [(0, .ref 64), (1, .int 3856), (2, .int v)], [], (q_cX q_AX q_IX q_J0, 40, 26520)) _
                    refine q_Ru_seg (g2 := (5, [(0, .ref 64), (1, .int 3856), (2, .int v)], [.int v], (q_cX q_AX q_IX q_J0, 40, 26520))) 1 (fun _ _ => rfl) ?_
                    refine q_Ru_call (v := none) (h2 := (q_cX q_AX q_IX q_J0, 40, 26520)) rfl rfl ?_ ?_
                    · refine q_Ca_of (Nat.le_of_ble_eq_true rfl) ?_
                      refine q_Ru_seg (g2 := (5, [(0, .int v)], [.int 255, .int 0, .int v], (q_cX q_AX q_IX q_J0, 40, 26520))) 3 (fun _ _ => rfl) ?_
                      refine q_Ru_call (v := none) (h2 := (q_cX q_AX q_IX q_J0, 40, 26520)) rfl rfl ?_ ?_
                      · refine q_Ca_of (Nat.le_of_ble_eq_true rfl) ?_
                        refine q_Ru_seg (g2 := (2, [(0, .int v), (1, .int 0), (2, .int 255)], [.int 0, .int v], (q_cX q_AX q_IX q_J0, 40, 26520))) 2 (fun _ _ => rfl) ?_
                        refine q_Ru_rsF (g2 := (5, [(0, .int v), (1, .int 0), (2, .int 255)], [], (q_cX q_AX q_IX q_J0, 40, 26520))) rfl rfl h233 ?_
                        refine q_Ru_seg (g2 := (7, [(0, .int v), (1, .int 0), (2, .int 255)], [.int 255, .int v], (q_cX q_AX q_IX q_J0, 40, 26520))) 2 (fun _ _ => rfl) ?_
                        refine q_Ru_rsT (g2 := (20, [(0, .int v), (1, .int 0), (2, .int 255)], [], (q_cX q_AX q_IX q_J0, 40, 26520))) rfl rfl (q_d_geF h235) ?_
                        exact q_Ru_ret rfl rfl
                      show q_Ru _ _ _ (8, [(0, .int v)], [], (q_cX q_AX q_IX q_J0, 40, 26520)) _
                      exact q_Ru_ret rfl rfl
                    show q_Ru _ _ _ (8, [(0, .ref 64), (1, .int 3856), (2, .int v)], [], (q_cX q_AX q_IX q_J0, 40, 26520)) _
                    refine q_Ru_seg (g2 := (13, [(0, .ref 64), (1, .int 3856), (2, .int v)], [.int 0, .int v, .int 3856, .int 0, .ref 64], (q_cX q_AX q_IX q_J0, 40, 26520))) 5 (fun _ _ => rfl) ?_
                    refine q_Ru_call (v := none) (h2 := (q_cX q_AX q_IX q_J0, 40, 26520)) rfl rfl ?_ ?_
                    · refine q_Ca_of (Nat.le_of_ble_eq_true rfl) ?_
                      refine q_Ru_seg (g2 := (19, [(0, .ref 64), (1, .int 0), (2, .int 3856), (3, .int v), (4, .int 0)], [], (q_cX q_AX q_IX q_J0, 40, 26520))) 3 (fun _ _ => rfl) ?_
                      exact q_Ru_ret rfl rfl
                    show q_Ru _ _ _ (16, [(0, .ref 64), (1, .int 3856), (2, .int v)], [], (q_cX q_AX q_IX q_J0, 40, 26520)) _
                    refine q_Ru_seg (g2 := (24, [(0, .ref 64), (1, .int 3856), (2, .int v)], [.int 0, .int v, .int 3856, .int 0, .ref 65], (q_cX q_AX q_IX q_J0, 40, 26520))) 6 (fun _ _ => rfl) ?_
                    refine q_Ru_call (v := (some (.int 0))) (h2 := (q_cX A65 I65 q_J0, 40, 26520)) rfl rfl ?_ ?_
                    · refine q_Ca_of (Nat.le_of_ble_eq_true rfl) ?_
                      refine q_Ru_seg (g2 := (74, [(0, .ref 65), (1, .int 0), (2, .int 3856), (3, .int v), (4, .int 0)], [.int v, .int 3856, .ref 66], (q_cX q_AX q_IX q_J0, 40, 26520))) 6 (fun _ _ => rfl) ?_
                      refine q_Ru_call (v := (some (.int 0))) (h2 := (q_cX A65 I65 q_J0, 40, 26520)) rfl rfl ?_ ?_
                      · refine q_Ca_of (Nat.le_of_ble_eq_true rfl) ?_
                        refine q_Ru_seg (g2 := (2, [(0, .ref 66), (1, .int 3856), (2, .int v)], [.int 3856, .ref 66], (q_cX q_AX q_IX q_J0, 40, 26520))) 2 (fun _ _ => rfl) ?_
                        refine q_Ru_call (v := (some (.int 0))) (h2 := (q_cX q_AX q_IX q_J0, 40, 26520)) rfl rfl ?_ ?_
                        · refine q_Ca_of (Nat.le_of_ble_eq_true rfl) ?_
                          refine q_Ru_seg (g2 := (27, [(2, .int 16), (0, .ref 66), (1, .int 3856)], [.int 0, .int 16, .ref 66], (q_cX q_AX q_IX q_J0, 40, 26520))) 16 (fun _ _ => rfl) ?_
                          refine q_Ru_call (v := (some (.int 0))) (h2 := (q_cX q_AX q_IX q_J0, 40, 26520)) rfl rfl ?_ ?_
                          · refine q_Ca_of (Nat.le_of_ble_eq_true rfl) ?_
                            refine q_Ru_seg (g2 := (183, [(0, .ref 66), (1, .int 16), (2, .int 0)], [.int 0], (q_cX q_AX q_IX q_J0, 40, 26520))) 3 (fun _ _ => rfl) ?_
                            exact q_Ru_ret rfl rfl
                          show q_Ru _ _ _ (30, [(2, .int 16), (0, .ref 66), (1, .int 3856)], [.int 0], (q_cX q_AX q_IX q_J0, 40, 26520)) _
                          exact q_Ru_ret rfl rfl
                        show q_Ru _ _ _ (5, [(0, .ref 66), (1, .int 3856), (2, .int v)], [.int 0], (q_cX q_AX q_IX q_J0, 40, 26520)) _
                        refine q_Ru_seg (g2 := (9, [(3, .int 0), (0, .ref 66), (1, .int 3856), (2, .int v)], [.int v, .int 3856, .ref 66], (q_cX q_AX q_IX q_J0, 40, 26520))) 4 (fun _ _ => rfl) ?_
                        refine q_Ru_call (v := none) (h2 := (q_cX A65 I65 q_J0, 40, 26520)) rfl rfl ?_ ?_
                        · exact p65.le (Nat.le_of_ble_eq_true rfl)
                        show q_Ru _ _ _ (12, [(3, .int 0), (0, .ref 66), (1, .int 3856), (2, .int v)], [], (q_cX A65 I65 q_J0, 40, 26520)) _
                        refine q_Ru_seg (g2 := (13, [(3, .int 0), (0, .ref 66), (1, .int 3856), (2, .int v)], [.int 0], (q_cX A65 I65 q_J0, 40, 26520))) 1 (fun _ _ => rfl) ?_
                        exact q_Ru_ret rfl rfl
                      show q_Ru _ _ _ (77, [(0, .ref 65), (1, .int 0), (2, .int 3856), (3, .int v), (4, .int 0)], [.int 0], (q_cX A65 I65 q_J0, 40, 26520)) _
                      exact q_Ru_ret rfl rfl
                    show q_Ru _ _ _ (27, [(0, .ref 64), (1, .int 3856), (2, .int v)], [.int 0], (q_cX A65 I65 q_J0, 40, 26520)) _
                    exact q_Ru_ret rfl rfl
                  show q_Ru _ _ _ (8, [(0, .ref 64), (1, .int 3856), (2, .int v), (3, .ref 103)], [.int 0, .int 0, .ref 103], (q_cX A65 I65 q_J0, 40, 26520)) _
                  refine q_Ru_seg (g2 := (22, [(0, .ref 64), (1, .int 3856), (2, .int v), (3, .ref 103)], [.int 0], (q_cX A65 I65 (q_uA q_J0 39 (vp_updL (fun _ => 0) 0 0)), 40, 26520))) 4 (fun _ _ => rfl) ?_
                  exact q_Ru_ret rfl rfl
                · refine q_Ca_of (Nat.le_of_ble_eq_true rfl) ?_
                  refine q_Ru_seg (g2 := (2, [(0, .ref 64), (1, .int 3856), (2, .int v)], [.int 3856, .ref 64], (q_cM q_AM q_IM q_J0, 34, 31630))) 2 (fun _ _ => rfl) ?_
                  refine q_Ru_call (v := (some (.int 0))) (h2 := (q_cM q_AM q_IM q_J0, 34, 31630)) rfl rfl ?_ ?_
                  · refine q_Ca_of (Nat.le_of_ble_eq_true rfl) ?_
                    refine q_Ru_seg (g2 := (5, [(0, .int 3856)], [.int 4095, .int 0, .int 3856], (q_cM q_AM q_IM q_J0, 34, 31630))) 3 (fun _ _ => rfl) ?_
                    refine q_Ru_call (v := (some (.int 1))) (h2 := (q_cM q_AM q_IM q_J0, 34, 31630)) rfl rfl ?_ ?_
                    · refine q_Ca_of (Nat.le_of_ble_eq_true rfl) ?_
                      refine q_Ru_seg (g2 := (15, [(0, .int 3856), (1, .int 0), (2, .int 4095)], [.int 1], (q_cM q_AM q_IM q_J0, 34, 31630))) 8 (fun _ _ => rfl) ?_
                      exact q_Ru_ret rfl rfl
                    show q_Ru _ _ _ (8, [(0, .int 3856)], [.int 1], (q_cM q_AM q_IM q_J0, 34, 31630)) _
                    refine q_Ru_seg (g2 := (16, [(0, .int 3856)], [.int 0], (q_cM q_AM q_IM q_J0, 34, 31630))) 2 (fun _ _ => rfl) ?_
                    exact q_Ru_ret rfl rfl
                  show q_Ru _ _ _ (5, [(0, .ref 64), (1, .int 3856), (2, .int v)], [.int 0, .ref 64], (q_cM q_AM q_IM q_J0, 34, 31630)) _
                  refine q_Ru_seg (g2 := (13, [(0, .ref 64), (1, .int 3856), (2, .int v)], [.int v, .ref 64], (q_cM q_AM q_IM q_J0, 34, 31630))) 2 (fun _ _ => rfl) ?_
                  refine q_Ru_call (v := (some (.int 0))) (h2 := (q_cM q_AM q_IM q_J0, 34, 31630)) rfl rfl ?_ ?_
                  · refine q_Ca_of (Nat.le_of_ble_eq_true rfl) ?_
                    refine q_Ru_seg (g2 := (5, [(0, .int v)], [.int 255, .int 0, .int v], (q_cM q_AM q_IM q_J0, 34, 31630))) 3 (fun _ _ => rfl) ?_
                    refine q_Ru_call (v := (some (.int 1))) (h2 := (q_cM q_AM q_IM q_J0, 34, 31630)) rfl rfl ?_ ?_
                    · refine q_Ca_of (Nat.le_of_ble_eq_true rfl) ?_
                      refine q_Ru_seg (g2 := (2, [(0, .int v), (1, .int 0), (2, .int 255)], [.int 0, .int v], (q_cM q_AM q_IM q_J0, 34, 31630))) 2 (fun _ _ => rfl) ?_
                      refine q_Ru_rsF (g2 := (5, [(0, .int v), (1, .int 0), (2, .int 255)], [], (q_cM q_AM q_IM q_J0, 34, 31630))) rfl rfl h233 ?_
                      refine q_Ru_seg (g2 := (7, [(0, .int v), (1, .int 0), (2, .int 255)], [.int 255, .int v], (q_cM q_AM q_IM q_J0, 34, 31630))) 2 (fun _ _ => rfl) ?_
                      refine q_Ru_rsF (g2 := (10, [(0, .int v), (1, .int 0), (2, .int 255)], [], (q_cM q_AM q_IM q_J0, 34, 31630))) rfl rfl h235 ?_
                      refine q_Ru_seg (g2 := (15, [(0, .int v), (1, .int 0), (2, .int 255)], [.int 1], (q_cM q_AM q_IM q_J0, 34, 31630))) 2 (fun _ _ => rfl) ?_
                      exact q_Ru_ret rfl rfl
                    show q_Ru _ _ _ (8, [(0, .int v)], [.int 1], (q_cM q_AM q_IM q_J0, 34, 31630)) _
                    refine q_Ru_seg (g2 := (16, [(0, .int v)], [.int 0], (q_cM q_AM q_IM q_J0, 34, 31630))) 2 (fun _ _ => rfl) ?_
                    exact q_Ru_ret rfl rfl
                  show q_Ru _ _ _ (16, [(0, .ref 64), (1, .int 3856), (2, .int v)], [.int 0, .ref 64], (q_cM q_AM q_IM q_J0, 34, 31630)) _
                  refine q_Ru_seg (g2 := (24, [(0, .ref 64), (1, .int 3856), (2, .int v)], [.int 0, .ref 64], (q_cM q_AM q_IM q_J0, 34, 31630))) 2 (fun _ _ => rfl) ?_
                  refine q_Ru_call (v := (some (.int 0))) (h2 := (q_cM q_AM (q_uI q_IM 0 39 0) q_J0, 34, 31630)) rfl rfl ?_ ?_
                  · refine q_Ca_of (Nat.le_of_ble_eq_true rfl) ?_
                    refine q_Ru_seg (g2 := (14, [(0, .ref 64), (1, .int 0)], [.int 0], (q_cM q_AM (q_uI q_IM 0 39 0) q_J0, 34, 31630))) 6 (fun _ _ => rfl) ?_
                    exact q_Ru_ret rfl rfl
                  show q_Ru _ _ _ (27, [(0, .ref 64), (1, .int 3856), (2, .int v)], [.int 0], (q_cM q_AM (q_uI q_IM 0 39 0) q_J0, 34, 31630)) _
                  refine q_Ru_seg (g2 := (34, [(0, .ref 64), (1, .int 3856), (2, .int v)], [.int 3856, .ref 64], (q_cM q_AM (q_uI q_IM 0 39 0) q_J0, 34, 31630))) 3 (fun _ _ => rfl) ?_
                  refine q_Ru_call (v := (some (.int 0))) (h2 := (q_cM q_AM (q_uI q_IM 0 39 0) q_J0, 34, 31630)) rfl rfl ?_ ?_
                  · refine q_Ca_of (Nat.le_of_ble_eq_true rfl) ?_
                    refine q_Ru_seg (g2 := (7, [(0, .ref 64), (1, .int 3856)], [.int 3887, .int 3840, .int 3856], (q_cM q_AM (q_uI q_IM 0 39 0) q_J0, 34, 31630))) 3 (fun _ _ => rfl) ?_
                    refine q_Ru_call (v := (some (.int 1))) (h2 := (q_cM q_AM (q_uI q_IM 0 39 0) q_J0, 34, 31630)) rfl rfl ?_ ?_
                    · refine q_Ca_of (Nat.le_of_ble_eq_true rfl) ?_
                      refine q_Ru_seg (g2 := (15, [(0, .int 3856), (1, .int 3840), (2, .int 3887)], [.int 1], (q_cM q_AM (q_uI q_IM 0 39 0) q_J0, 34, 31630))) 8 (fun _ _ => rfl) ?_
                      exact q_Ru_ret rfl rfl
                    show q_Ru _ _ _ (10, [(0, .ref 64), (1, .int 3856)], [.int 1], (q_cM q_AM (q_uI q_IM 0 39 0) q_J0, 34, 31630)) _
                    refine q_Ru_seg (g2 := (19, [(0, .ref 64), (1, .int 3856)], [.int 16, .ref 64], (q_cM q_AM (q_uI q_IM 0 39 0) q_J0, 34, 31630))) 5 (fun _ _ => rfl) ?_
                    refine q_Ru_call (v := (some (.int 0))) (h2 := (q_cM q_AM (q_uI q_IM 0 39 0) q_J0, 34, 31630)) rfl rfl ?_ ?_
                    · refine q_Ca_of (Nat.le_of_ble_eq_true rfl) ?_
                      refine q_Ru_seg (g2 := (30, [(0, .ref 64), (1, .int 16)], [.int 15, .int 12, .int 16], (q_cM q_AM (q_uI q_IM 0 39 0) q_J0, 34, 31630))) 9 (fun _ _ => rfl) ?_
                      refine q_Ru_call (v := (some (.int 0))) (h2 := (q_cM q_AM (q_uI q_IM 0 39 0) q_J0, 34, 31630)) rfl rfl ?_ ?_
                      · refine q_Ca_of (Nat.le_of_ble_eq_true rfl) ?_
                        refine q_Ru_seg (g2 := (15, [(0, .int 16), (1, .int 12), (2, .int 15)], [.int 0], (q_cM q_AM (q_uI q_IM 0 39 0) q_J0, 34, 31630))) 7 (fun _ _ => rfl) ?_
                        exact q_Ru_ret rfl rfl
                      show q_Ru _ _ _ (33, [(0, .ref 64), (1, .int 16)], [.int 0], (q_cM q_AM (q_uI q_IM 0 39 0) q_J0, 34, 31630)) _
                      refine q_Ru_seg (g2 := (190, [(0, .ref 64), (1, .int 16)], [.int 0], (q_cM q_AM (q_uI q_IM 0 39 0) q_J0, 34, 31630))) 20 (fun _ _ => rfl) ?_
                      exact q_Ru_ret rfl rfl
                    show q_Ru _ _ _ (22, [(0, .ref 64), (1, .int 3856)], [.int 0], (q_cM q_AM (q_uI q_IM 0 39 0) q_J0, 34, 31630)) _
                    exact q_Ru_ret rfl rfl
                  show q_Ru _ _ _ (37, [(0, .ref 64), (1, .int 3856), (2, .int v)], [.int 0], (q_cM q_AM (q_uI q_IM 0 39 0) q_J0, 34, 31630)) _
                  refine q_Ru_seg (g2 := (41, [(3, .int 0), (0, .ref 64), (1, .int 3856), (2, .int v)], [.int v, .int 3856, .ref 64], (q_cM q_AM (q_uI q_IM 0 39 0) q_J0, 34, 31630))) 4 (fun _ _ => rfl) ?_
                  refine q_Ru_call (v := none) (h2 := (q_cM A66 (q_uI q_IM 0 39 0) q_J0, 34, 31630)) rfl rfl ?_ ?_
                  · exact p66.le (Nat.le_of_ble_eq_true rfl)
                  show q_Ru _ _ _ (44, [(3, .int 0), (0, .ref 64), (1, .int 3856), (2, .int v)], [], (q_cM A66 (q_uI q_IM 0 39 0) q_J0, 34, 31630)) _
                  refine q_Ru_seg (g2 := (45, [(3, .int 0), (0, .ref 64), (1, .int 3856), (2, .int v)], [.ref 64], (q_cM A66 (q_uI q_IM 0 39 0) q_J0, 34, 31630))) 1 (fun _ _ => rfl) ?_
                  refine q_Ru_call (v := none) (h2 := (q_cM A66 (q_uI q_IM 0 39 0) q_J0, 34, 31630)) rfl rfl ?_ ?_
                  · refine q_Ca_of (Nat.le_of_ble_eq_true rfl) ?_
                    refine q_Ru_seg (g2 := (17, [(0, .ref 64)], [], (q_cM A66 (q_uI q_IM 0 39 0) q_J0, 34, 31630))) 3 (fun _ _ => rfl) ?_
                    exact q_Ru_ret rfl rfl
                  show q_Ru _ _ _ (48, [(3, .int 0), (0, .ref 64), (1, .int 3856), (2, .int v)], [], (q_cM A66 (q_uI q_IM 0 39 0) q_J0, 34, 31630)) _
                  refine q_Ru_seg (g2 := (49, [(3, .int 0), (0, .ref 64), (1, .int 3856), (2, .int v)], [.int 0], (q_cM A66 (q_uI q_IM 0 39 0) q_J0, 34, 31630))) 1 (fun _ _ => rfl) ?_
                  exact q_Ru_ret rfl rfl
              | 17, _, e249 =>
                have e249 : a = 3857 := e249
                subst e249
                obtain ⟨A67, I67, p67⟩ := q_p_write q_AX q_IX (40) (26520) 3857 v
                obtain ⟨A68, p68⟩ := q_p_writes q_AM (q_uI q_IM 0 39 0) (34) (31630) 3857 v (by decide) (by decide)
                refine ⟨0, 0, 0, ⟨(q_cX A67 I67 (q_uA q_J0 39 (vp_updL (fun _ => 0) 0 0)), 40, 26520), (q_uA q_J0 39 (vp_updL (fun _ => 0) 0 0)) 39, ?_, rfl, fun _ => rfl, Nat.le_of_ble_eq_true rfl, Nat.le_of_ble_eq_true rfl⟩, ⟨(q_cM A68 (q_uI q_IM 0 39 0) q_J0, 34, 31630), _, ?_, rfl, rfl, Nat.le_of_ble_eq_true rfl, Nat.le_of_ble_eq_true rfl⟩, fun _ => rfl⟩
                · refine q_Ca_of (Nat.le_of_ble_eq_true rfl) ?_
                  refine q_Ru_seg (g2 := (5, [(0, .ref 64), (1, .int 3857), (2, .int v), (3, .ref 103)], [.int v, .int 3857, .ref 64, .int 0, .ref 103], (q_cX q_AX q_IX q_J0, 40, 26520))) 5 (fun _ _ => rfl) ?_
                  refine q_Ru_call (v := (some (.int 0))) (h2 := (q_cX A67 I67 q_J0, 40, 26520)) rfl rfl ?_ ?_
                  · refine q_Ca_of (Nat.le_of_ble_eq_true rfl) ?_
                    refine q_Ru_seg (g2 := (1, [(0, .ref 64), (1, .int 3857), (2, .int v)], [.int 3857], (q_cX q_AX q_IX q_J0, 40, 26520))) 1 (fun _ _ => rfl) ?_
                    refine q_Ru_call (v := none) (h2 := (q_cX q_AX q_IX q_J0, 40, 26520)) rfl rfl ?_ ?_
                    · refine q_Ca_of (Nat.le_of_ble_eq_true rfl) ?_
                      refine q_Ru_seg (g2 := (4, [(0, .int 3857)], [.int 4096, .int 3857], (q_cX q_AX q_IX q_J0, 40, 26520))) 2 (fun _ _ => rfl) ?_
                      refine q_Ru_call (v := none) (h2 := (q_cX q_AX q_IX q_J0, 40, 26520)) rfl rfl ?_ ?_
                      · refine q_Ca_of (Nat.le_of_ble_eq_true rfl) ?_
                        refine q_Ru_seg (g2 := (19, [(0, .int 3857), (1, .int 4096)], [], (q_cX q_AX q_IX q_J0, 40, 26520))) 5 (fun _ _ => rfl) ?_
                        exact q_Ru_ret rfl rfl
                      show q_Ru _ _ _ (7, [(0, .int 3857)], [], (q_cX q_AX q_IX q_J0, 40, 26520)) _
                      exact q_Ru_ret rfl rfl
                    show q_Ru _ _ _ (4, [(0, .ref 64), (1, .int 3857), (2, .int v)], [], (q_cX q_AX q_IX q_J0, 40, 26520)) _
                    refine q_Ru_seg (g2 := (5, [(0, .ref 64), (1, .int 3857), (2, .int v)], [.int v], (q_cX q_AX q_IX q_J0, 40, 26520))) 1 (fun _ _ => rfl) ?_
                    refine q_Ru_call (v := none) (h2 := (q_cX q_AX q_IX q_J0, 40, 26520)) rfl rfl ?_ ?_
                    · refine q_Ca_of (Nat.le_of_ble_eq_true rfl) ?_
                      refine q_Ru_seg (g2 := (5, [(0, .int v)], [.int 255, .int 0, .int v], (q_cX q_AX q_IX q_J0, 40, 26520))) 3 (fun _ _ => rfl) ?_
                      refine q_Ru_call (v := none) (h2 := (q_cX q_AX q_IX q_J0, 40, 26520)) rfl rfl ?_ ?_
                      · refine q_Ca_of (Nat.le_of_ble_eq_true rfl) ?_
                        refine q_Ru_seg (g2 := (2, [(0, .int v), (1, .int 0), (2, .int 255)], [.int 0, .int v], (q_cX q_AX q_IX q_J0, 40, 26520))) 2 (fun _ _ => rfl) ?_
                        refine q_Ru_rsF (g2 := (5, [(0, .int v), (1, .int 0), (2, .int 255)], [], (q_cX q_AX q_IX q_J0, 40, 26520))) rfl rfl h233 ?_
                        refine q_Ru_seg (g2 := (7, [(0, .int v), (1, .int 0), (2, .int 255)], [.int 255, .int v], (q_cX q_AX q_IX q_J0, 40, 26520))) 2 (fun _ _ => rfl) ?_
                        refine q_Ru_rsT (g2 := (20, [(0, .int v), (1, .int 0), (2, .int 255)], [], (q_cX q_AX q_IX q_J0, 40, 26520))) rfl rfl (q_d_geF h235) ?_
                        exact q_Ru_ret rfl rfl
                      show q_Ru _ _ _ (8, [(0, .int v)], [], (q_cX q_AX q_IX q_J0, 40, 26520)) _
                      exact q_Ru_ret rfl rfl
                    show q_Ru _ _ _ (8, [(0, .ref 64), (1, .int 3857), (2, .int v)], [], (q_cX q_AX q_IX q_J0, 40, 26520)) _
                    refine q_Ru_seg (g2 := (13, [(0, .ref 64), (1, .int 3857), (2, .int v)], [.int 0, .int v, .int 3857, .int 0, .ref 64], (q_cX q_AX q_IX q_J0, 40, 26520))) 5 (fun _ _ => rfl) ?_
                    refine q_Ru_call (v := none) (h2 := (q_cX q_AX q_IX q_J0, 40, 26520)) rfl rfl ?_ ?_
                    · refine q_Ca_of (Nat.le_of_ble_eq_true rfl) ?_
                      refine q_Ru_seg (g2 := (19, [(0, .ref 64), (1, .int 0), (2, .int 3857), (3, .int v), (4, .int 0)], [], (q_cX q_AX q_IX q_J0, 40, 26520))) 3 (fun _ _ => rfl) ?_
                      exact q_Ru_ret rfl rfl
                    show q_Ru _ _ _ (16, [(0, .ref 64), (1, .int 3857), (2, .int v)], [], (q_cX q_AX q_IX q_J0, 40, 26520)) _
                    refine q_Ru_seg (g2 := (24, [(0, .ref 64), (1, .int 3857), (2, .int v)], [.int 0, .int v, .int 3857, .int 0, .ref 65], (q_cX q_AX q_IX q_J0, 40, 26520))) 6 (fun _ _ => rfl) ?_
                    refine q_Ru_call (v := (some (.int 0))) (h2 := (q_cX A67 I67 q_J0, 40, 26520)) rfl rfl ?_ ?_
                    · refine q_Ca_of (Nat.le_of_ble_eq_true rfl) ?_
                      refine q_Ru_seg (g2 := (74, [(0, .ref 65), (1, .int 0), (2, .int 3857), (3, .int v), (4, .int 0)], [.int v, .int 3857, .ref 66], (q_cX q_AX q_IX q_J0, 40, 26520))) 6 (fun _ _ => rfl) ?_
                      refine q_Ru_call (v := (some (.int 0))) (h2 := (q_cX A67 I67 q_J0, 40, 26520)) rfl rfl ?_ ?_
                      · refine q_Ca_of (Nat.le_of_ble_eq_true rfl) ?_
                        refine q_Ru_seg (g2 := (2, [(0, .ref 66), (1, .int 3857), (2, .int v)], [.int 3857, .ref 66], (q_cX q_AX q_IX q_J0, 40, 26520))) 2 (fun _ _ => rfl) ?_
                        refine q_Ru_call (v := (some (.int 0))) (h2 := (q_cX q_AX q_IX q_J0, 40, 26520)) rfl rfl ?_ ?_
                        · refine q_Ca_of (Nat.le_of_ble_eq_true rfl) ?_
                          refine q_Ru_seg (g2 := (27, [(2, .int 17), (0, .ref 66), (1, .int 3857)], [.int 0, .int 17, .ref 66], (q_cX q_AX q_IX q_J0, 40, 26520))) 16 (fun _ _ => rfl) ?_
                          refine q_Ru_call (v := (some (.int 0))) (h2 := (q_cX q_AX q_IX q_J0, 40, 26520)) rfl rfl ?_ ?_
                          · refine q_Ca_of (Nat.le_of_ble_eq_true rfl) ?_
                            refine q_Ru_seg (g2 := (183, [(0, .ref 66), (1, .int 17), (2, .int 0)], [.int 0], (q_cX q_AX q_IX q_J0, 40, 26520))) 3 (fun _ _ => rfl) ?_
                            exact q_Ru_ret rfl rfl
                          show q_Ru _ _ _ (30, [(2, .int 17), (0, .ref 66), (1, .int 3857)], [.int 0], (q_cX q_AX q_IX q_J0, 40, 26520)) _
                          exact q_Ru_ret rfl rfl
                        show q_Ru _ _ _ (5, [(0, .ref 66), (1, .int 3857), (2, .int v)], [.int 0], (q_cX q_AX q_IX q_J0, 40, 26520)) _
                        refine q_Ru_seg (g2 := (9, [(3, .int 0), (0, .ref 66), (1, .int 3857), (2, .int v)], [.int v, .int 3857, .ref 66], (q_cX q_AX q_IX q_J0, 40, 26520))) 4 (fun _ _ => rfl) ?_
                        refine q_Ru_call (v := none) (h2 := (q_cX A67 I67 q_J0, 40, 26520)) rfl rfl ?_ ?_
                        · exact p67.le (Nat.le_of_ble_eq_true rfl)
                        show q_Ru _ _ _ (12, [(3, .int 0), (0, .ref 66), (1, .int 3857), (2, .int v)], [], (q_cX A67 I67 q_J0, 40, 26520)) _
                        refine q_Ru_seg (g2 := (13, [(3, .int 0), (0, .ref 66), (1, .int 3857), (2, .int v)], [.int 0], (q_cX A67 I67 q_J0, 40, 26520))) 1 (fun _ _ => rfl) ?_
                        exact q_Ru_ret rfl rfl
                      show q_Ru _ _ _ (77, [(0, .ref 65), (1, .int 0), (2, .int 3857), (3, .int v), (4, .int 0)], [.int 0], (q_cX A67 I67 q_J0, 40, 26520)) _
                      exact q_Ru_ret rfl rfl
                    show q_Ru _ _ _ (27, [(0, .ref 64), (1, .int 3857), (2, .int v)], [.int 0], (q_cX A67 I67 q_J0, 40, 26520)) _
                    exact q_Ru_ret rfl rfl
                  show q_Ru _ _ _ (8, [(0, .ref 64), (1, .int 3857), (2, .int v), (3, .ref 103)], [.int 0, .int 0, .ref 103], (q_cX A67 I67 q_J0, 40, 26520)) _
                  refine q_Ru_seg (g2 := (22, [(0, .ref 64), (1, .int 3857), (2, .int v), (3, .ref 103)], [.int 0], (q_cX A67 I67 (q_uA q_J0 39 (vp_updL (fun _ => 0) 0 0)), 40, 26520))) 4 (fun _ _ => rfl) ?_
                  exact q_Ru_ret rfl rfl
                · refine q_Ca_of (Nat.le_of_ble_eq_true rfl) ?_
                  refine q_Ru_seg (g2 := (2, [(0, .ref 64), (1, .int 3857), (2, .int v)], [.int 3857, .ref 64], (q_cM q_AM q_IM q_J0, 34, 31630))) 2 (fun _ _ => rfl) ?_
                  refine q_Ru_call (v := (some (.int 0))) (h2 := (q_cM q_AM q_IM q_J0, 34, 31630)) rfl rfl ?_ ?_
                  · refine q_Ca_of (Nat.le_of_ble_eq_true rfl) ?_
                    refine q_Ru_seg (g2 := (5, [(0, .int 3857)], [.int 4095, .int 0, .int 3857], (q_cM q_AM q_IM q_J0, 34, 31630))) 3 (fun _ _ => rfl) ?_
                    refine q_Ru_call (v := (some (.int 1))) (h2 := (q_cM q_AM q_IM q_J0, 34, 31630)) rfl rfl ?_ ?_
                    · refine q_Ca_of (Nat.le_of_ble_eq_true rfl) ?_
                      refine q_Ru_seg (g2 := (15, [(0, .int 3857), (1, .int 0), (2, .int 4095)], [.int 1], (q_cM q_AM q_IM q_J0, 34, 31630))) 8 (fun _ _ => rfl) ?_
                      exact q_Ru_ret rfl rfl
                    show q_Ru _ _ _ (8, [(0, .int 3857)], [.int 1], (q_cM q_AM q_IM q_J0, 34, 31630)) _
                    refine q_Ru_seg (g2 := (16, [(0, .int 3857)], [.int 0], (q_cM q_AM q_IM q_J0, 34, 31630))) 2 (fun _ _ => rfl) ?_
                    exact q_Ru_ret rfl rfl
                  show q_Ru _ _ _ (5, [(0, .ref 64), (1, .int 3857), (2, .int v)], [.int 0, .ref 64], (q_cM q_AM q_IM q_J0, 34, 31630)) _
                  refine q_Ru_seg (g2 := (13, [(0, .ref 64), (1, .int 3857), (2, .int v)], [.int v, .ref 64], (q_cM q_AM q_IM q_J0, 34, 31630))) 2 (fun _ _ => rfl) ?_
                  refine q_Ru_call (v := (some (.int 0))) (h2 := (q_cM q_AM q_IM q_J0, 34, 31630)) rfl rfl ?_ ?_
                  · refine q_Ca_of (Nat.le_of_ble_eq_true rfl) ?_
                    refine q_Ru_seg (g2 := (5, [(0, .int v)], [.int 255, .int 0, .int v], (q_cM q_AM q_IM q_J0, 34, 31630))) 3 (fun _ _ => rfl) ?_
                    refine q_Ru_call (v := (some (.int 1))) (h2 := (q_cM q_AM q_IM q_J0, 34, 31630)) rfl rfl ?_ ?_
                    · refine q_Ca_of (Nat.le_of_ble_eq_true rfl) ?_
                      refine q_Ru_seg (g2 := (2, [(0, .int v), (1, .int 0), (2, .int 255)], [.int 0, .int v], (q_cM q_AM q_IM q_J0, 34, 31630))) 2 (fun _ _ => rfl) ?_
                      refine q_Ru_rsF (g2 := (5, [(0, .int v), (1, .int 0), (2, .int 255)], [], (q_cM q_AM q_IM q_J0, 34, 31630))) rfl rfl h233 ?_
                      refine q_Ru_seg (g2 := (7, [(0, .int v), (1, .int 0), (2, .int 255)], [.int 255, .int v], (q_cM q_AM q_IM q_J0, 34, 31630))) 2 (fun _ _ => rfl) ?_
                      refine q_Ru_rsF (g2 := (10, [(0, .int v), (1, .int 0), (2, .int 255)], [], (q_cM q_AM q_IM q_J0, 34, 31630))) rfl rfl h235 ?_
                      refine q_Ru_seg (g2 := (15, [(0, .int v), (1, .int 0), (2, .int 255)], [.int 1], (q_cM q_AM q_IM q_J0, 34, 31630))) 2 (fun _ _ => rfl) ?_
                      exact q_Ru_ret rfl rfl
                    show q_Ru _ _ _ (8, [(0, .int v)], [.int 1], (q_cM q_AM q_IM q_J0, 34, 31630)) _
                    refine q_Ru_seg (g2 := (16, [(0, .int v)], [.int 0], (q_cM q_AM q_IM q_J0, 34, 31630))) 2 (fun _ _ => rfl) ?_
                    exact q_Ru_ret rfl rfl
                  show q_Ru _ _ _ (16, [(0, .ref 64), (1, .int 3857), (2, .int v)], [.int 0, .ref 64], (q_cM q_AM q_IM q_J0, 34, 31630)) _
                  refine q_Ru_seg (g2 := (24, [(0, .ref 64), (1, .int 3857), (2, .int v)], [.int 0, .ref 64], (q_cM q_AM q_IM q_J0, 34, 31630))) 2 (fun _ _ => rfl) ?_
                  refine q_Ru_call (v := (some (.int 0))) (h2 := (q_cM q_AM (q_uI q_IM 0 39 0) q_J0, 34, 31630)) rfl rfl ?_ ?_
                  · refine q_Ca_of (Nat.le_of_ble_eq_true rfl) ?_
                    refine q_Ru_seg (g2 := (14, [(0, .ref 64), (1, .int 0)], [.int 0], (q_cM q_AM (q_uI q_IM 0 39 0) q_J0, 34, 31630))) 6 (fun _ _ => rfl) ?_
                    exact q_Ru_ret rfl rfl
                  show q_Ru _ _ _ (27, [(0, .ref 64), (1, .int 3857), (2, .int v)], [.int 0], (q_cM q_AM (q_uI q_IM 0 39 0) q_J0, 34, 31630)) _
                  refine q_Ru_seg (g2 := (34, [(0, .ref 64), (1, .int 3857), (2, .int v)], [.int 3857, .ref 64], (q_cM q_AM (q_uI q_IM 0 39 0) q_J0, 34, 31630))) 3 (fun _ _ => rfl) ?_
                  refine q_Ru_call (v := (some (.int 0))) (h2 := (q_cM q_AM (q_uI q_IM 0 39 0) q_J0, 34, 31630)) rfl rfl ?_ ?_
                  · refine q_Ca_of (Nat.le_of_ble_eq_true rfl) ?_
                    refine q_Ru_seg (g2 := (7, [(0, .ref 64), (1, .int 3857)], [.int 3887, .int 3840, .int 3857], (q_cM q_AM (q_uI q_IM 0 39 0) q_J0, 34, 31630))) 3 (fun _ _ => rfl) ?_
                    refine q_Ru_call (v := (some (.int 1))) (h2 := (q_cM q_AM (q_uI q_IM 0 39 0) q_J0, 34, 31630)) rfl rfl ?_ ?_
                    · refine q_Ca_of (Nat.le_of_ble_eq_true rfl) ?_
                      refine q_Ru_seg (g2 := (15, [(0, .int 3857), (1, .int 3840), (2, .int 3887)], [.int 1], (q_cM q_AM (q_uI q_IM 0 39 0) q_J0, 34, 31630))) 8 (fun _ _ => rfl) ?_
                      exact q_Ru_ret rfl rfl
                    show q_Ru _ _ _ (10, [(0, .ref 64), (1, .int 3857)], [.int 1], (q_cM q_AM (q_uI q_IM 0 39 0) q_J0, 34, 31630)) _
                    refine q_Ru_seg (g2 := (19, [(0, .ref 64), (1, .int 3857)], [.int 17, .ref 64], (q_cM q_AM (q_uI q_IM 0 39 0) q_J0, 34, 31630))) 5 (fun _ _ => rfl) ?_
                    refine q_Ru_call (v := (some (.int 0))) (h2 := (q_cM q_AM (q_uI q_IM 0 39 0) q_J0, 34, 31630)) rfl rfl ?_ ?_
                    · refine q_Ca_of (Nat.le_of_ble_eq_true rfl) ?_
                      refine q_Ru_seg (g2 := (30, [(0, .ref 64), (1, .int 17)], [.int 15, .int 12, .int 17], (q_cM q_AM (q_uI q_IM 0 39 0) q_J0, 34, 31630))) 9 (fun _ _ => rfl) ?_
                      refine q_Ru_call (v := (some (.int 0))) (h2 := (q_cM q_AM (q_uI q_IM 0 39 0) q_J0, 34, 31630)) rfl rfl ?_ ?_
                      · refine q_Ca_of (Nat.le_of_ble_eq_true rfl) ?_
                        refine q_Ru_seg (g2 := (15, [(0, .int 17), (1, .int 12), (2, .int 15)], [.int 0], (q_cM q_AM (q_uI q_IM 0 39 0) q_J0, 34, 31630))) 7 (fun _ _ => rfl) ?_
                        exact q_Ru_ret rfl rfl
                      show q_Ru _ _ _ (33, [(0, .ref 64), (1, .int 17)], [.int 0], (q_cM q_AM (q_uI q_IM 0 39 0) q_J0, 34, 31630)) _
                      refine q_Ru_seg (g2 := (190, [(0, .ref 64), (1, .int 17)], [.int 0], (q_cM q_AM (q_uI q_IM 0 39 0) q_J0, 34, 31630))) 20 (fun _ _ => rfl) ?_
                      exact q_Ru_ret rfl rfl
                    show q_Ru _ _ _ (22, [(0, .ref 64), (1, .int 3857)], [.int 0], (q_cM q_AM (q_uI q_IM 0 39 0) q_J0, 34, 31630)) _
                    exact q_Ru_ret rfl rfl
                  show q_Ru _ _ _ (37, [(0, .ref 64), (1, .int 3857), (2, .int v)], [.int 0], (q_cM q_AM (q_uI q_IM 0 39 0) q_J0, 34, 31630)) _
                  refine q_Ru_seg (g2 := (41, [(3, .int 0), (0, .ref 64), (1, .int 3857), (2, .int v)], [.int v, .int 3857, .ref 64], (q_cM q_AM (q_uI q_IM 0 39 0) q_J0, 34, 31630))) 4 (fun _ _ => rfl) ?_
                  refine q_Ru_call (v := none) (h2 := (q_cM A68 (q_uI q_IM 0 39 0) q_J0, 34, 31630)) rfl rfl ?_ ?_
                  · exact p68.le (Nat.le_of_ble_eq_true rfl)
                  show q_Ru _ _ _ (44, [(3, .int 0), (0, .ref 64), (1, .int 3857), (2, .int v)], [], (q_cM A68 (q_uI q_IM 0 39 0) q_J0, 34, 31630)) _
                  refine q_Ru_seg (g2 := (45, [(3, .int 0), (0, .ref 64), (1, .int 3857), (2, .int v)], [.ref 64], (q_cM A68 (q_uI q_IM 0 39 0) q_J0, 34, 31630))) 1 (fun _ _ => rfl) ?_
                  refine q_Ru_call (v := none) (h2 := (q_cM A68 (q_uI q_IM 0 39 0) q_J0, 34, 31630)) rfl rfl ?_ ?_
                  · refine q_Ca_of (Nat.le_of_ble_eq_true rfl) ?_
                    refine q_Ru_seg (g2 := (17, [(0, .ref 64)], [], (q_cM A68 (q_uI q_IM 0 39 0) q_J0, 34, 31630))) 3 (fun _ _ => rfl) ?_
                    exact q_Ru_ret rfl rfl
                  show q_Ru _ _ _ (48, [(3, .int 0), (0, .ref 64), (1, .int 3857), (2, .int v)], [], (q_cM A68 (q_uI q_IM 0 39 0) q_J0, 34, 31630)) _
                  refine q_Ru_seg (g2 := (49, [(3, .int 0), (0, .ref 64), (1, .int 3857), (2, .int v)], [.int 0], (q_cM A68 (q_uI q_IM 0 39 0) q_J0, 34, 31630))) 1 (fun _ _ => rfl) ?_
                  exact q_Ru_ret rfl rfl
              | 18, _, e249 =>
                have e249 : a = 3858 := e249
                subst e249
                obtain ⟨A69, I69, p69⟩ := q_p_write q_AX q_IX (40) (26520) 3858 v
                obtain ⟨A70, p70⟩ := q_p_writes q_AM (q_uI q_IM 0 39 0) (34) (31630) 3858 v (by decide) (by decide)
                refine ⟨0, 0, 0, ⟨(q_cX A69 I69 (q_uA q_J0 39 (vp_updL (fun _ => 0) 0 0)), 40, 26520), (q_uA q_J0 39 (vp_updL (fun _ => 0) 0 0)) 39, ?_, rfl, fun _ => rfl, Nat.le_of_ble_eq_true rfl, Nat.le_of_ble_eq_true rfl⟩, ⟨(q_cM A70 (q_uI q_IM 0 39 0) q_J0, 34, 31630), _, ?_, rfl, rfl, Nat.le_of_ble_eq_true rfl, Nat.le_of_ble_eq_true rfl⟩, fun _ => rfl⟩
                · refine q_Ca_of (Nat.le_of_ble_eq_true rfl) ?_
                  refine q_Ru_seg (g2 := (5, [(0, .ref 64), (1, .int 3858), (2, .int v), (3, .ref 103)], [.int v, .int 3858, .ref 64, .int 0, .ref 103], (q_cX q_AX q_IX q_J0, 40, 26520))) 5 (fun _ _ => rfl) ?_
                  refine q_Ru_call (v := (some (.int 0))) (h2 := (q_cX A69 I69 q_J0, 40, 26520)) rfl rfl ?_ ?_
                  · refine q_Ca_of (Nat.le_of_ble_eq_true rfl) ?_
                    refine q_Ru_seg (g2 := (1, [(0, .ref 64), (1, .int 3858), (2, .int v)], [.int 3858], (q_cX q_AX q_IX q_J0, 40, 26520))) 1 (fun _ _ => rfl) ?_
                    refine q_Ru_call (v := none) (h2 := (q_cX q_AX q_IX q_J0, 40, 26520)) rfl rfl ?_ ?_
                    · refine q_Ca_of (Nat.le_of_ble_eq_true rfl) ?_
                      refine q_Ru_seg (g2 := (4, [(0, .int 3858)], [.int 4096, .int 3858], (q_cX q_AX q_IX q_J0, 40, 26520))) 2 (fun _ _ => rfl) ?_
                      refine q_Ru_call (v := none) (h2 := (q_cX q_AX q_IX q_J0, 40, 26520)) rfl rfl ?_ ?_
                      · refine q_Ca_of (Nat.le_of_ble_eq_true rfl) ?_
                        refine q_Ru_seg (g2 := (19, [(0, .int 3858), (1, .int 4096)], [], (q_cX q_AX q_IX q_J0, 40, 26520))) 5 (fun _ _ => rfl) ?_
                        exact q_Ru_ret rfl rfl
                      show q_Ru _ _ _ (7, [(0, .int 3858)], [], (q_cX q_AX q_IX q_J0, 40, 26520)) _
                      exact q_Ru_ret rfl rfl
                    show q_Ru _ _ _ (4, [(0, .ref 64), (1, .int 3858), (2, .int v)], [], (q_cX q_AX q_IX q_J0, 40, 26520)) _
                    refine q_Ru_seg (g2 := (5, [(0, .ref 64), (1, .int 3858), (2, .int v)], [.int v], (q_cX q_AX q_IX q_J0, 40, 26520))) 1 (fun _ _ => rfl) ?_
                    refine q_Ru_call (v := none) (h2 := (q_cX q_AX q_IX q_J0, 40, 26520)) rfl rfl ?_ ?_
                    · refine q_Ca_of (Nat.le_of_ble_eq_true rfl) ?_
                      refine q_Ru_seg (g2 := (5, [(0, .int v)], [.int 255, .int 0, .int v], (q_cX q_AX q_IX q_J0, 40, 26520))) 3 (fun _ _ => rfl) ?_
                      refine q_Ru_call (v := none) (h2 := (q_cX q_AX q_IX q_J0, 40, 26520)) rfl rfl ?_ ?_
                      · refine q_Ca_of (Nat.le_of_ble_eq_true rfl) ?_
                        refine q_Ru_seg (g2 := (2, [(0, .int v), (1, .int 0), (2, .int 255)], [.int 0, .int v], (q_cX q_AX q_IX q_J0, 40, 26520))) 2 (fun _ _ => rfl) ?_
                        refine q_Ru_rsF (g2 := (5, [(0, .int v), (1, .int 0), (2, .int 255)], [], (q_cX q_AX q_IX q_J0, 40, 26520))) rfl rfl h233 ?_
                        refine q_Ru_seg (g2 := (7, [(0, .int v), (1, .int 0), (2, .int 255)], [.int 255, .int v], (q_cX q_AX q_IX q_J0, 40, 26520))) 2 (fun _ _ => rfl) ?_
                        refine q_Ru_rsT (g2 := (20, [(0, .int v), (1, .int 0), (2, .int 255)], [], (q_cX q_AX q_IX q_J0, 40, 26520))) rfl rfl (q_d_geF h235) ?_
                        exact q_Ru_ret rfl rfl
                      show q_Ru _ _ _ (8, [(0, .int v)], [], (q_cX q_AX q_IX q_J0, 40, 26520)) _
                      exact q_Ru_ret rfl rfl
                    show q_Ru _ _ _ (8, [(0, .ref 64), (1, .int 3858), (2, .int v)], [], (q_cX q_AX q_IX q_J0, 40, 26520)) _
                    refine q_Ru_seg (g2 := (13, [(0, .ref 64), (1, .int 3858), (2, .int v)], [.int 0, .int v, .int 3858, .int 0, .ref 64], (q_cX q_AX q_IX q_J0, 40, 26520))) 5 (fun _ _ => rfl) ?_
                    refine q_Ru_call (v := none) (h2 := (q_cX q_AX q_IX q_J0, 40, 26520)) rfl rfl ?_ ?_
                    · refine q_Ca_of (Nat.le_of_ble_eq_true rfl) ?_
                      refine q_Ru_seg (g2 := (19, [(0, .ref 64), (1, .int 0), (2, .int 3858), (3, .int v), (4, .int 0)], [], (q_cX q_AX q_IX q_J0, 40, 26520))) 3 (fun _ _ => rfl) ?_
                      exact q_Ru_ret rfl rfl
                    show q_Ru _ _ _ (16, [(0, .ref 64), (1, .int 3858), (2, .int v)], [], (q_cX q_AX q_IX q_J0, 40, 26520)) _
                    refine q_Ru_seg (g2 := (24, [(0, .ref 64), (1, .int 3858), (2, .int v)], [.int 0, .int v, .int 3858, .int 0, .ref 65], (q_cX q_AX q_IX q_J0, 40, 26520))) 6 (fun _ _ => rfl) ?_
                    refine q_Ru_call (v := (some (.int 0))) (h2 := (q_cX A69 I69 q_J0, 40, 26520)) rfl rfl ?_ ?_
                    · refine q_Ca_of (Nat.le_of_ble_eq_true rfl) ?_
                      refine q_Ru_seg (g2 := (74, [(0, .ref 65), (1, .int 0), (2, .int 3858), (3, .int v), (4, .int 0)], [.int v, .int 3858, .ref 66], (q_cX q_AX q_IX q_J0, 40, 26520))) 6 (fun _ _ => rfl) ?_
                      refine q_Ru_call (v := (some (.int 0))) (h2 := (q_cX A69 I69 q_J0, 40, 26520)) rfl rfl ?_ ?_
                      · refine q_Ca_of (Nat.le_of_ble_eq_true rfl) ?_
                        refine q_Ru_seg (g2 := (2, [(0, .ref 66), (1, .int 3858), (2, .int v)], [.int 3858, .ref 66], (q_cX q_AX q_IX q_J0, 40, 26520))) 2 (fun _ _ => rfl) ?_
                        refine q_Ru_call (v := (some (.int 0))) (h2 := (q_cX q_AX q_IX q_J0, 40, 26520)) rfl rfl ?_ ?_
                        · refine q_Ca_of (Nat.le_of_ble_eq_true rfl) ?_
                          refine q_Ru_seg (g2 := (27, [(2, .int 18), (0, .ref 66), (1, .int 3858)], [.int 0, .int 18, .ref 66], (q_cX q_AX q_IX q_J0, 40, 26520))) 16 (fun _ _ => rfl) ?_
                          refine q_Ru_call (v := (some (.int 0))) (h2 := (q_cX q_AX q_IX q_J0, 40, 26520)) rfl rfl ?_ ?_
                          · refine q_Ca_of (Nat.le_of_ble_eq_true rfl) ?_
                            refine q_Ru_seg (g2 := (183, [(0, .ref 66), (1, .int 18), (2, .int 0)], [.int 0], (q_cX q_AX q_IX q_J0, 40, 26520))) 3 (fun _ _ => rfl) ?_
                            exact q_Ru_ret rfl rfl
                          show q_Ru _ _ _ (30, [(2, .int 18), (0, .ref 66), (1, .int 3858)], [.int 0], (q_cX q_AX q_IX q_J0, 40, 26520)) _
                          exact q_Ru_ret rfl rfl
                        show q_Ru _ _ _ (5, [(0, .ref 66), (1, .int 3858), (2, .int v)], [.int 0], (q_cX q_AX q_IX q_J0, 40, 26520)) _
                        refine q_Ru_seg (g2 := (9, [(3, .int 0), (0, .ref 66), (1, .int 3858), (2, .int v)], [.int v, .int 3858, .ref 66], (q_cX q_AX q_IX q_J0, 40, 26520))) 4 (fun _ _ => rfl) ?_
                        refine q_Ru_call (v := none) (h2 := (q_cX A69 I69 q_J0, 40, 26520)) rfl rfl ?_ ?_
                        · exact p69.le (Nat.le_of_ble_eq_true rfl)
                        show q_Ru _ _ _ (12, [(3, .int 0), (0, .ref 66), (1, .int 3858), (2, .int v)], [], (q_cX A69 I69 q_J0, 40, 26520)) _
                        refine q_Ru_seg (g2 := (13, [(3, .int 0), (0, .ref 66), (1, .int 3858), (2, .int v)], [.int 0], (q_cX A69 I69 q_J0, 40, 26520))) 1 (fun _ _ => rfl) ?_
                        exact q_Ru_ret rfl rfl
                      show q_Ru _ _ _ (77, [(0, .ref 65), (1, .int 0), (2, .int 3858), (3, .int v), (4, .int 0)], [.int 0], (q_cX A69 I69 q_J0, 40, 26520)) _
                      exact q_Ru_ret rfl rfl
                    show q_Ru _ _ _ (27, [(0, .ref 64), (1, .int 3858), (2, .int v)], [.int 0], (q_cX A69 I69 q_J0, 40, 26520)) _
                    exact q_Ru_ret rfl rfl
                  show q_Ru _ _ _ (8, [(0, .ref 64), (1, .int 3858), (2, .int v), (3, .ref 103)], [.int 0, .int 0, .ref 103], (q_cX A69 I69 q_J0, 40, 26520)) _
                  refine q_Ru_seg (g2 := (22, [(0, .ref 64), (1, .int 3858), (2, .int v), (3, .ref 103)], [.int 0], (q_cX A69 I69 (q_uA q_J0 39 (vp_updL (fun _ => 0) 0 0)), 40, 26520))) 4 (fun _ _ => rfl) ?_
                  exact q_Ru_ret rfl rfl
                · refine q_Ca_of (Nat.le_of_ble_eq_true rfl) ?_
                  refine q_Ru_seg (g2 := (2, [(0, .ref 64), (1, .int 3858), (2, .int v)], [.int 3858, .ref 64], (q_cM q_AM q_IM q_J0, 34, 31630))) 2 (fun _ _ => rfl) ?_
                  refine q_Ru_call (v := (some (.int 0))) (h2 := (q_cM q_AM q_IM q_J0, 34, 31630)) rfl rfl ?_ ?_
                  · refine q_Ca_of (Nat.le_of_ble_eq_true rfl) ?_
                    refine q_Ru_seg (g2 := (5, [(0, .int 3858)], [.int 4095, .int 0, .int 3858], (q_cM q_AM q_IM q_J0, 34, 31630))) 3 (fun _ _ => rfl) ?_
                    refine q_Ru_call (v := (some (.int 1))) (h2 := (q_cM q_AM q_IM q_J0, 34, 31630)) rfl rfl ?_ ?_
                    · refine q_Ca_of (Nat.le_of_ble_eq_true rfl) ?_
                      refine q_Ru_seg (g2 := (15, [(0, .int 3858), (1, .int 0), (2, .int 4095)], [.int 1], (q_cM q_AM q_IM q_J0, 34, 31630))) 8 (fun _ _ => rfl) ?_
                      exact q_Ru_ret rfl rfl
                    show q_Ru _ _ _ (8, [(0, .int 3858)], [.int 1], (q_cM q_AM q_IM q_J0, 34, 31630)) _
                    refine q_Ru_seg (g2 := (16, [(0, .int 3858)], [.int 0], (q_cM q_AM q_IM q_J0, 34, 31630))) 2 (fun _ _ => rfl) ?_
                    exact q_Ru_ret rfl rfl
                  show q_Ru _ _ _ (5, [(0, .ref 64), (1, .int 3858), (2, .int v)], [.int 0, .ref 64], (q_cM q_AM q_IM q_J0, 34, 31630)) _
                  refine q_Ru_seg (g2 := (13, [(0, .ref 64), (1, .int 3858), (2, .int v)], [.int v, .ref 64], (q_cM q_AM q_IM q_J0, 34, 31630))) 2 (fun _ _ => rfl) ?_
                  refine q_Ru_call (v := (some (.int 0))) (h2 := (q_cM q_AM q_IM q_J0, 34, 31630)) rfl rfl ?_ ?_
                  · refine q_Ca_of (Nat.le_of_ble_eq_true rfl) ?_
                    refine q_Ru_seg (g2 := (5, [(0, .int v)], [.int 255, .int 0, .int v], (q_cM q_AM q_IM q_J0, 34, 31630))) 3 (fun _ _ => rfl) ?_
                    refine q_Ru_call (v := (some (.int 1))) (h2 := (q_cM q_AM q_IM q_J0, 34, 31630)) rfl rfl ?_ ?_
                    · refine q_Ca_of (Nat.le_of_ble_eq_true rfl) ?_
                      refine q_Ru_seg (g2 := (2, [(0, .int v), (1, .int 0), (2, .int 255)], [.int 0, .int v], (q_cM q_AM q_IM q_J0, 34, 31630))) 2 (fun _ _ => rfl) ?_
                      refine q_Ru_rsF (g2 := (5, [(0, .int v), (1, .int 0), (2, .int 255)], [], (q_cM q_AM q_IM q_J0, 34, 31630))) rfl rfl h233 ?_
                      refine q_Ru_seg (g2 := (7, [(0, .int v), (1, .int 0), (2, .int 255)], [.int 255, .int v], (q_cM q_AM q_IM q_J0, 34, 31630))) 2 (fun _ _ => rfl) ?_
                      refine q_Ru_rsF (g2 := (10, [(0, .int v), (1, .int 0), (2, .int 255)], [], (q_cM q_AM q_IM q_J0, 34, 31630))) rfl rfl h235 ?_
                      refine q_Ru_seg (g2 := (15, [(0, .int v), (1, .int 0), (2, .int 255)], [.int 1], (q_cM q_AM q_IM q_J0, 34, 31630))) 2 (fun _ _ => rfl) ?_
                      exact q_Ru_ret rfl rfl
                    show q_Ru _ _ _ (8, [(0, .int v)], [.int 1], (q_cM q_AM q_IM q_J0, 34, 31630)) _
                    refine q_Ru_seg (g2 := (16, [(0, .int v)], [.int 0], (q_cM q_AM q_IM q_J0, 34, 31630))) 2 (fun _ _ => rfl) ?_
                    exact q_Ru_ret rfl rfl
                  show q_Ru _ _ _ (16, [(0, .ref 64), (1, .int 3858), (2, .int v)], [.int 0, .ref 64], (q_cM q_AM q_IM q_J0, 34, 31630)) _
                  refine q_Ru_seg (g2 := (24, [(0, .ref 64), (1, .int 3858), (2, .int v)], [.int 0, .ref 64], (q_cM q_AM q_IM q_J0, 34, 31630))) 2 (fun _ _ => rfl) ?_
                  refine q_Ru_call (v := (some (.int 0))) (h2 := (q_cM q_AM (q_uI q_IM 0 39 0) q_J0, 34, 31630)) rfl rfl ?_ ?_
                  · refine q_Ca_of (Nat.le_of_ble_eq_true rfl) ?_
                    refine q_Ru_seg (g2 := (14, [(0, .ref 64), (1, .int 0)], [.int 0], (q_cM q_AM (q_uI q_IM 0 39 0) q_J0, 34, 31630))) 6 (fun _ _ => rfl) ?_
                    exact q_Ru_ret rfl rfl
                  show q_Ru _ _ _ (27, [(0, .ref 64), (1, .int 3858), (2, .int v)], [.int 0], (q_cM q_AM (q_uI q_IM 0 39 0) q_J0, 34, 31630)) _
                  refine q_Ru_seg (g2 := (34, [(0, .ref 64), (1, .int 3858), (2, .int v)], [.int 3858, .ref 64], (q_cM q_AM (q_uI q_IM 0 39 0) q_J0, 34, 31630))) 3 (fun _ _ => rfl) ?_
                  refine q_Ru_call (v := (some (.int 0))) (h2 := (q_cM q_AM (q_uI q_IM 0 39 0) q_J0, 34, 31630)) rfl rfl ?_ ?_
                  · refine q_Ca_of (Nat.le_of_ble_eq_true rfl) ?_
                    refine q_Ru_seg (g2 := (7, [(0, .ref 64), (1, .int 3858)], [.int 3887, .int 3840, .int 3858], (q_cM q_AM (q_uI q_IM 0 39 0) q_J0, 34, 31630))) 3 (fun _ _ => rfl) ?_
                    refine q_Ru_call (v := (some (.int 1))) (h2 := (q_cM q_AM (q_uI q_IM 0 39 0) q_J0, 34, 31630)) rfl rfl ?_ ?_
                    · refine q_Ca_of (Nat.le_of_ble_eq_true rfl) ?_
                      refine q_Ru_seg (g2 := (15, [(0, .int 3858), (1, .int 3840), (2, .int 3887)], [.int 1], (q_cM q_AM (q_uI q_IM 0 39 0) q_J0, 34, 31630))) 8 (fun _ _ => rfl) ?_
                      exact q_Ru_ret rfl rfl
                    show q_Ru _ _ _ (10, [(0, .ref 64), (1, .int 3858)], [.int 1], (q_cM q_AM (q_uI q_IM 0 39 0) q_J0, 34, 31630)) _
                    refine q_Ru_seg (g2 := (19, [(0, .ref 64), (1, .int 3858)], [.int 18, .ref 64], (q_cM q_AM (q_uI q_IM 0 39 0) q_J0, 34, 31630))) 5 (fun _ _ => rfl) ?_
                    refine q_Ru_call (v := (some (.int 0))) (h2 := (q_cM q_AM (q_uI q_IM 0 39 0) q_J0, 34, 31630)) rfl rfl ?_ ?_
                    · refine q_Ca_of (Nat.le_of_ble_eq_true rfl) ?_
                      refine q_Ru_seg (g2 := (30, [(0, .ref 64), (1, .int 18)], [.int 15, .int 12, .int 18], (q_cM q_AM (q_uI q_IM 0 39 0) q_J0, 34, 31630))) 9 (fun _ _ => rfl) ?_
                      refine q_Ru_call (v := (some (.int 0))) (h2 := (q_cM q_AM (q_uI q_IM 0 39 0) q_J0, 34, 31630)) rfl rfl ?_ ?_
                      · refine q_Ca_of (Nat.le_of_ble_eq_true rfl) ?_
                        refine q_Ru_seg (g2 := (15, [(0, .int 18), (1, .int 12), (2, .int 15)], [.int 0], (q_cM q_AM (q_uI q_IM 0 39 0) q_J0, 34, 31630))) 7 (fun _ _ => rfl) ?_
                        exact q_Ru_ret rfl rfl
                      show q_Ru _ _ _ (33, [(0, .ref 64), (1, .int 18)], [.int 0], (q_cM q_AM (q_uI q_IM 0 39 0) q_J0, 34, 31630)) _
                      refine q_Ru_seg (g2 := (190, [(0, .ref 64), (1, .int 18)], [.int 0], (q_cM q_AM (q_uI q_IM 0 39 0) q_J0, 34, 31630))) 20 (fun _ _ => rfl) ?_
                      exact q_Ru_ret rfl rfl
                    show q_Ru _ _ _ (22, [(0, .ref 64), (1, .int 3858)], [.int 0], (q_cM q_AM (q_uI q_IM 0 39 0) q_J0, 34, 31630)) _
                    exact q_Ru_ret rfl rfl
                  show q_Ru _ _ _ (37, [(0, .ref 64), (1, .int 3858), (2, .int v)], [.int 0], (q_cM q_AM (q_uI q_IM 0 39 0) q_J0, 34, 31630)) _
                  refine q_Ru_seg (g2 := (41, [(3, .int 0), (0, .ref 64), (1, .int 3858), (2, .int v)], [.int v, .int 3858, .ref 64], (q_cM q_AM (q_uI q_IM 0 39 0) q_J0, 34, 31630))) 4 (fun _ _ => rfl) ?_
                  refine q_Ru_call (v := none) (h2 := (q_cM A70 (q_uI q_IM 0 39 0) q_J0, 34, 31630)) rfl rfl ?_ ?_
                  · exact p70.le (Nat.le_of_ble_eq_true rfl)
                  show q_Ru _ _ _ (44, [(3, .int 0), (0, .ref 64), (1, .int 3858), (2, .int v)], [], (q_cM A70 (q_uI q_IM 0 39 0) q_J0, 34, 31630)) _
                  refine q_Ru_seg (g2 := (45, [(3, .int 0), (0, .ref 64), (1, .int 3858), (2, .int v)], [.ref 64], (q_cM A70 (q_uI q_IM 0 39 0) q_J0, 34, 31630))) 1 (fun _ _ => rfl) ?_
                  refine q_Ru_call (v := none) (h2 := (q_cM A70 (q_uI q_IM 0 39 0) q_J0, 34, 31630)) rfl rfl ?_ ?_
                  · refine q_Ca_of (Nat.le_of_ble_eq_true rfl) ?_
                    refine q_Ru_seg (g2 := (17, [(0, .ref 64)], [], (q_cM A70 (q_uI q_IM 0 39 0) q_J0, 34, 31630))) 3 (fun _ _ => rfl) ?_
                    exact q_Ru_ret rfl rfl
                  show q_Ru _ _ _ (48, [(3, .int 0), (0, .ref 64), (1, .int 3858), (2, .int v)], [], (q_cM A70 (q_uI q_IM 0 39 0) q_J0, 34, 31630)) _
                  refine q_Ru_seg (g2 := (49, [(3, .int 0), (0, .ref 64), (1, .int 3858), (2, .int v)], [.int 0], (q_cM A70 (q_uI q_IM 0 39 0) q_J0, 34, 31630))) 1 (fun _ _ => rfl) ?_
                  exact q_Ru_ret rfl rfl
              | 19, _, e249 =>
                have e249 : a = 3859 := e249
                subst e249
                obtain ⟨A71, I71, p71⟩ := q_p_write q_AX q_IX (40) (26520) 3859 v
                obtain ⟨A72, p72⟩ := q_p_writes q_AM (q_uI q_IM 0 39 0) (34) (31630) 3859 v (by decide) (by decide)
                refine ⟨0, 0, 0, ⟨(q_cX A71 I71 (q_uA q_J0 39 (vp_updL (fun _ => 0) 0 0)), 40, 26520), (q_uA q_J0 39 (vp_updL (fun _ => 0) 0 0)) 39, ?_, rfl, fun _ => rfl, Nat.le_of_ble_eq_true rfl, Nat.le_of_ble_eq_true rfl⟩, ⟨(q_cM A72 (q_uI q_IM 0 39 0) q_J0, 34, 31630), _, ?_, rfl, rfl, Nat.le_of_ble_eq_true rfl, Nat.le_of_ble_eq_true rfl⟩, fun _ => rfl⟩
                · refine q_Ca_of (Nat.le_of_ble_eq_true rfl) ?_
                  refine q_Ru_seg (g2 := (5, [(0, .ref 64), (1, .int 3859), (2, .int v), (3, .ref 103)], [.int v, .int 3859, .ref 64, .int 0, .ref 103], (q_cX q_AX q_IX q_J0, 40, 26520))) 5 (fun _ _ => rfl) ?_
                  refine q_Ru_call (v := (some (.int 0))) (h2 := (q_cX A71 I71 q_J0, 40, 26520)) rfl rfl ?_ ?_
                  · refine q_Ca_of (Nat.le_of_ble_eq_true rfl) ?_
                    refine q_Ru_seg (g2 := (1, [(0, .ref 64), (1, .int 3859), (2, .int v)], [.int 3859], (q_cX q_AX q_IX q_J0, 40, 26520))) 1 (fun _ _ => rfl) ?_
                    refine q_Ru_call (v := none) (h2 := (q_cX q_AX q_IX q_J0, 40, 26520)) rfl rfl ?_ ?_
                    · refine q_Ca_of (Nat.le_of_ble_eq_true rfl) ?_
                      refine q_Ru_seg (g2 := (4, [(0, .int 3859)], [.int 4096, .int 3859], (q_cX q_AX q_IX q_J0, 40, 26520))) 2 (fun _ _ => rfl) ?_
                      refine q_Ru_call (v := none) (h2 := (q_cX q_AX q_IX q_J0, 40, 26520)) rfl rfl ?_ ?_
                      · refine q_Ca_of (Nat.le_of_ble_eq_true rfl) ?_
                        refine q_Ru_seg (g2 := (19, [(0, .int 3859), (1, .int 4096)], [], (q_cX q_AX q_IX q_J0, 40, 26520))) 5 (fun _ _ => rfl) ?_
                        exact q_Ru_ret rfl rfl
                      show q_Ru _ _ _ (7, [(0, .int 3859)], [], (q_cX q_AX q_IX q_J0, 40, 26520)) _
                      exact q_Ru_ret rfl rfl
                    show q_Ru _ _ _ (4, [(0, .ref 64), (1, .int 3859), (2, .int v)], [], (q_cX q_AX q_IX q_J0, 40, 26520)) _
                    refine q_Ru_seg (g2 := (5, [(0, .ref 64), (1, .int 3859), (2, .int v)], [.int v], (q_cX q_AX q_IX q_J0, 40, 26520))) 1 (fun _ _ => rfl) ?_
                    refine q_Ru_call (v := none) (h2 := (q_cX q_AX q_IX q_J0, 40, 26520)) rfl rfl ?_ ?_
                    · refine q_Ca_of (Nat.le_of_ble_eq_true rfl) ?_
                      refine q_Ru_seg (g2 := (5, [(0, .int v)], [.int 255, .int 0, .int v], (q_cX q_AX q_IX q_J0, 40, 26520))) 3 (fun _ _ => rfl) ?_
                      refine q_Ru_call (v := none) (h2 := (q_cX q_AX q_IX q_J0, 40, 26520)) rfl rfl ?_ ?_
                      · refine q_Ca_of (Nat.le_of_ble_eq_true rfl) ?_
                        refine q_Ru_seg (g2 := (2, [(0, .int v), (1, .int 0), (2, .int 255)], [.int 0, .int v], (q_cX q_AX q_IX q_J0, 40, 26520))) 2 (fun _ _ => rfl) ?_
                        refine q_Ru_rsF (g2 := (5, [(0, .int v), (1, .int 0), (2, .int 255)], [], (q_cX q_AX q_IX q_J0, 40, 26520))) rfl rfl h233 ?_
                        refine q_Ru_seg (g2 := (7, [(0, .int v), (1, .int 0), (2, .int 255)], [.int 255, .int v], (q_cX q_AX q_IX q_J0, 40, 26520))) 2 (fun _ _ => rfl) ?_
                        refine q_Ru_rsT (g2 := (20, [(0, .int v), (1, .int 0), (2, .int 255)], [], (q_cX q_AX q_IX q_J0, 40, 26520))) rfl rfl (q_d_geF h235) ?_
                        exact q_Ru_ret rfl rfl
                      show q_Ru _ _ _ (8, [(0, .int v)], [], (q_cX q_AX q_IX q_J0, 40, 26520)) _
                      exact q_Ru_ret rfl rfl
                    show q_Ru _ _ _ (8, [(0, .ref 64), (1, .int 3859), (2, .int v)], [], (q_cX q_AX q_IX q_J0, 40, 26520)) _
                    refine q_Ru_seg (g2 := (13, [(0, .ref 64), (1, .int 3859), (2, .int v)], [.int 0, .int v, .int 3859, .int 0, .ref 64], (q_cX q_AX q_IX q_J0, 40, 26520))) 5 (fun _ _ => rfl) ?_
                    refine q_Ru_call (v := none) (h2 := (q_cX q_AX q_IX q_J0, 40, 26520)) rfl rfl ?_ ?_
                    · refine q_Ca_of (Nat.le_of_ble_eq_true rfl) ?_
                      refine q_Ru_seg (g2 := (19, [(0, .ref 64), (1, .int 0), (2, .int 3859), (3, .int v), (4, .int 0)], [], (q_cX q_AX q_IX q_J0, 40, 26520))) 3 (fun _ _ => rfl) ?_
                      exact q_Ru_ret rfl rfl
                    show q_Ru _ _ _ (16, [(0, .ref 64), (1, .int 3859), (2, .int v)], [], (q_cX q_AX q_IX q_J0, 40, 26520)) _
                    refine q_Ru_seg (g2 := (24, [(0, .ref 64), (1, .int 3859), (2, .int v)], [.int 0, .int v, .int 3859, .int 0, .ref 65], (q_cX q_AX q_IX q_J0, 40, 26520))) 6 (fun _ _ => rfl) ?_
                    refine q_Ru_call (v := (some (.int 0))) (h2 := (q_cX A71 I71 q_J0, 40, 26520)) rfl rfl ?_ ?_
                    · refine q_Ca_of (Nat.le_of_ble_eq_true rfl) ?_
                      refine q_Ru_seg (g2 := (74, [(0, .ref 65), (1, .int 0), (2, .int 3859), (3, .int v), (4, .int 0)], [.int v, .int 3859, .ref 66], (q_cX q_AX q_IX q_J0, 40, 26520))) 6 (fun _ _ => rfl) ?_
                      refine q_Ru_call (v := (some (.int 0))) (h2 := (q_cX A71 I71 q_J0, 40, 26520)) rfl rfl ?_ ?_
                      · refine q_Ca_of (Nat.le_of_ble_eq_true rfl) ?_
                        refine q_Ru_seg (g2 := (2, [(0, .ref 66), (1, .int 3859), (2, .int v)], [.int 3859, .ref 66], (q_cX q_AX q_IX q_J0, 40, 26520))) 2 (fun _ _ => rfl) ?_
                        refine q_Ru_call (v := (some (.int 0))) (h2 := (q_cX q_AX q_IX q_J0, 40, 26520)) rfl rfl ?_ ?_
                        · refine q_Ca_of (Nat.le_of_ble_eq_true rfl) ?_
                          refine q_Ru_seg (g2 := (27, [(2, .int 19), (0, .ref 66), (1, .int 3859)], [.int 0, .int 19, .ref 66], (q_cX q_AX q_IX q_J0, 40, 26520))) 16 (fun _ _ => rfl) ?_
                          refine q_Ru_call (v := (some (.int 0))) (h2 := (q_cX q_AX q_IX q_J0, 40, 26520)) rfl rfl ?_ ?_
                          · refine q_Ca_of (Nat.le_of_ble_eq_true rfl) ?_
                            refine q_Ru_seg (g2 := (183, [(0, .ref 66), (1, .int 19), (2, .int 0)], [.int 0], (q_cX q_AX q_IX q_J0, 40, 26520))) 3 (fun _ _ => rfl) ?_
                            exact q_Ru_ret rfl rfl
                          show q_Ru _ _ _ (30, [(2, .int 19), (0, .ref 66), (1, .int 3859)], [.int 0], (q_cX q_AX q_IX q_J0, 40, 26520)) _
                          exact q_Ru_ret rfl rfl
                        show q_Ru _ _ _ (5, [(0, .ref 66), (1, .int 3859), (2, .int v)], [.int 0], (q_cX q_AX q_IX q_J0, 40, 26520)) _
                        refine q_Ru_seg (g2 := (9, [(3, .int 0), (0, .ref 66), (1, .int 3859), (2, .int v)], [.int v, .int 3859, .ref 66], (q_cX q_AX q_IX q_J0, 40, 26520))) 4 (fun _ _ => rfl) ?_
                        refine q_Ru_call (v := none) (h2 := (q_cX A71 I71 q_J0, 40, 26520)) rfl rfl ?_ ?_
                        · exact p71.le (Nat.le_of_ble_eq_true rfl)
                        show q_Ru _ _ _ (12, [(3, .int 0), (0, .ref 66), (1, .int 3859), (2, .int v)], [], (q_cX A71 I71 q_J0, 40, 26520)) _
                        refine q_Ru_seg (g2 := (13, [(3, .int 0), (0, .ref 66), (1, .int 3859), (2, .int v)], [.int 0], (q_cX A71 I71 q_J0, 40, 26520))) 1 (fun _ _ => rfl) ?_
                        exact q_Ru_ret rfl rfl
                      show q_Ru _ _ _ (77, [(0, .ref 65), (1, .int 0), (2, .int 3859), (3, .int v), (4, .int 0)], [.int 0], (q_cX A71 I71 q_J0, 40, 26520)) _
                      exact q_Ru_ret rfl rfl
                    show q_Ru _ _ _ (27, [(0, .ref 64), (1, .int 3859), (2, .int v)], [.int 0], (q_cX A71 I71 q_J0, 40, 26520)) _
                    exact q_Ru_ret rfl rfl
                  show q_Ru _ _ _ (8, [(0, .ref 64), (1, .int 3859), (2, .int v), (3, .ref 103)], [.int 0, .int 0, .ref 103], (q_cX A71 I71 q_J0, 40, 26520)) _
                  refine q_Ru_seg (g2 := (22, [(0, .ref 64), (1, .int 3859), (2, .int v), (3, .ref 103)], [.int 0], (q_cX A71 I71 (q_uA q_J0 39 (vp_updL (fun _ => 0) 0 0)), 40, 26520))) 4 (fun _ _ => rfl) ?_
                  exact q_Ru_ret rfl rfl
                · refine q_Ca_of (Nat.le_of_ble_eq_true rfl) ?_
                  refine q_Ru_seg (g2 := (2, [(0, .ref 64), (1, .int 3859), (2, .int v)], [.int 3859, .ref 64], (q_cM q_AM q_IM q_J0, 34, 31630))) 2 (fun _ _ => rfl) ?_
                  refine q_Ru_call (v := (some (.int 0))) (h2 := (q_cM q_AM q_IM q_J0, 34, 31630)) rfl rfl ?_ ?_
                  · refine q_Ca_of (Nat.le_of_ble_eq_true rfl) ?_
                    refine q_Ru_seg (g2 := (5, [(0, .int 3859)], [.int 4095, .int 0, .int 3859], (q_cM q_AM q_IM q_J0, 34, 31630))) 3 (fun _ _ => rfl) ?_
                    refine q_Ru_call (v := (some (.int 1))) (h2 := (q_cM q_AM q_IM q_J0, 34, 31630)) rfl rfl ?_ ?_
                    · refine q_Ca_of (Nat.le_of_ble_eq_true rfl) ?_
                      refine q_Ru_seg (g2 := (15, [(0, .int 3859), (1, .int 0), (2, .int 4095)], [.int 1], (q_cM q_AM q_IM q_J0, 34, 31630))) 8 (fun _ _ => rfl) ?_
                      exact q_Ru_ret rfl rfl
                    show q_Ru _ _ _ (8, [(0, .int 3859)], [.int 1], (q_cM q_AM q_IM q_J0, 34, 31630)) _
                    refine q_Ru_seg (g2 := (16, [(0, .int 3859)], [.int 0], (q_cM q_AM q_IM q_J0, 34, 31630))) 2 (fun _ _ => rfl) ?_
                    exact q_Ru_ret rfl rfl
                  show q_Ru _ _ _ (5, [(0, .ref 64), (1, .int 3859), (2, .int v)], [.int 0, .ref 64], (q_cM q_AM q_IM q_J0, 34, 31630)) _
                  refine q_Ru_seg (g2 := (13, [(0, .ref 64), (1, .int 3859), (2, .int v)], [.int v, .ref 64], (q_cM q_AM q_IM q_J0, 34, 31630))) 2 (fun _ _ => rfl) ?_
                  refine q_Ru_call (v := (some (.int 0))) (h2 := (q_cM q_AM q_IM q_J0, 34, 31630)) rfl rfl ?_ ?_
                  · refine q_Ca_of (Nat.le_of_ble_eq_true rfl) ?_
                    refine q_Ru_seg (g2 := (5, [(0, .int v)], [.int 255, .int 0, .int v], (q_cM q_AM q_IM q_J0, 34, 31630))) 3 (fun _ _ => rfl) ?_
                    refine q_Ru_call (v := (some (.int 1))) (h2 := (q_cM q_AM q_IM q_J0, 34, 31630)) rfl rfl ?_ ?_
                    · refine q_Ca_of (Nat.le_of_ble_eq_true rfl) ?_
                      refine q_Ru_seg (g2 := (2, [(0, .int v), (1, .int 0), (2, .int 255)], [.int 0, .int v], (q_cM q_AM q_IM q_J0, 34, 31630))) 2 (fun _ _ => rfl) ?_
                      refine q_Ru_rsF (g2 := (5, [(0, .int v), (1, .int 0), (2, .int 255)], [], (q_cM q_AM q_IM q_J0, 34, 31630))) rfl rfl h233 ?_
                      refine q_Ru_seg (g2 := (7, [(0, .int v), (1, .int 0), (2, .int 255)], [.int 255, .int v], (q_cM q_AM q_IM q_J0, 34, 31630))) 2 (fun _ _ => rfl) ?_
                      refine q_Ru_rsF (g2 := (10, [(0, .int v), (1, .int 0), (2, .int 255)], [], (q_cM q_AM q_IM q_J0, 34, 31630))) rfl rfl h235 ?_
                      refine q_Ru_seg (g2 := (15, [(0, .int v), (1, .int 0), (2, .int 255)], [.int 1], (q_cM q_AM q_IM q_J0, 34, 31630))) 2 (fun _ _ => rfl) ?_
                      exact q_Ru_ret rfl rfl
                    show q_Ru _ _ _ (8, [(0, .int v)], [.int 1], (q_cM q_AM q_IM q_J0, 34, 31630)) _
                    refine q_Ru_seg (g2 := (16, [(0, .int v)], [.int 0], (q_cM q_AM q_IM q_J0, 34, 31630))) 2 (fun _ _ => rfl) ?_
                    exact q_Ru_ret rfl rfl
                  show q_Ru _ _ _ (16, [(0, .ref 64), (1, .int 3859), (2, .int v)], [.int 0, .ref 64], (q_cM q_AM q_IM q_J0, 34, 31630)) _
                  refine q_Ru_seg (g2 := (24, [(0, .ref 64), (1, .int 3859), (2, .int v)], [.int 0, .ref 64], (q_cM q_AM q_IM q_J0, 34, 31630))) 2 (fun _ _ => rfl) ?_
                  refine q_Ru_call (v := (some (.int 0))) (h2 := (q_cM q_AM (q_uI q_IM 0 39 0) q_J0, 34, 31630)) rfl rfl ?_ ?_
                  · refine q_Ca_of (Nat.le_of_ble_eq_true rfl) ?_
                    refine q_Ru_seg (g2 := (14, [(0, .ref 64), (1, .int 0)], [.int 0], (q_cM q_AM (q_uI q_IM 0 39 0) q_J0, 34, 31630))) 6 (fun _ _ => rfl) ?_
                    exact q_Ru_ret rfl rfl
                  show q_Ru _ _ _ (27, [(0, .ref 64), (1, .int 3859), (2, .int v)], [.int 0], (q_cM q_AM (q_uI q_IM 0 39 0) q_J0, 34, 31630)) _
                  refine q_Ru_seg (g2 := (34, [(0, .ref 64), (1, .int 3859), (2, .int v)], [.int 3859, .ref 64], (q_cM q_AM (q_uI q_IM 0 39 0) q_J0, 34, 31630))) 3 (fun _ _ => rfl) ?_
                  refine q_Ru_call (v := (some (.int 0))) (h2 := (q_cM q_AM (q_uI q_IM 0 39 0) q_J0, 34, 31630)) rfl rfl ?_ ?_
                  · refine q_Ca_of (Nat.le_of_ble_eq_true rfl) ?_
                    refine q_Ru_seg (g2 := (7, [(0, .ref 64), (1, .int 3859)], [.int 3887, .int 3840, .int 3859], (q_cM q_AM (q_uI q_IM 0 39 0) q_J0, 34, 31630))) 3 (fun _ _ => rfl) ?_
                    refine q_Ru_call (v := (some (.int 1))) (h2 := (q_cM q_AM (q_uI q_IM 0 39 0) q_J0, 34, 31630)) rfl rfl ?_ ?_
                    · refine q_Ca_of (Nat.le_of_ble_eq_true rfl) ?_
                      refine q_Ru_seg (g2 := (15, [(0, .int 3859), (1, .int 3840), (2, .int 3887)], [.int 1], (q_cM q_AM (q_uI q_IM 0 39 0) q_J0, 34, 31630))) 8 (fun _ _ => rfl) ?_
                      exact q_Ru_ret rfl rfl
                    show q_Ru _ _ _ (10, [(0, .ref 64), (1, .int 3859)], [.int 1], (q_cM q_AM (q_uI q_IM 0 39 0) q_J0, 34, 31630)) _
                    refine q_Ru_seg (g2 := (19, [(0, .ref 64), (1, .int 3859)], [.int 19, .ref 64], (q_cM q_AM (q_uI q_IM 0 39 0) q_J0, 34, 31630))) 5 (fun _ _ => rfl) ?_
                    refine q_Ru_call (v := (some (.int 0))) (h2 := (q_cM q_AM (q_uI q_IM 0 39 0) q_J0, 34, 31630)) rfl rfl ?_ ?_
                    · refine q_Ca_of (Nat.le_of_ble_eq_true rfl) ?_
                      refine q_Ru_seg (g2 := (30, [(0, .ref 64), (1, .int 19)], [.int 15, .int 12, .int 19], (q_cM q_AM (q_uI q_IM 0 39 0) q_J0, 34, 31630))) 9 (fun _ _ => rfl) ?_
                      refine q_Ru_call (v := (some (.int 0))) (h2 := (q_cM q_AM (q_uI q_IM 0 39 0) q_J0, 34, 31630)) rfl rfl ?_ ?_
                      · refine q_Ca_of (Nat.le_of_ble_eq_true rfl) ?_
                        refine q_Ru_seg (g2 := (15, [(0, .int 19), (1, .int 12), (2, .int 15)], [.int 0], (q_cM q_AM (q_uI q_IM 0 39 0) q_J0, 34, 31630))) 7 (fun _ _ => rfl) ?_
                        exact q_Ru_ret rfl rfl
                      show q_Ru _ _ _ (33, [(0, .ref 64), (1, .int 19)], [.int 0], (q_cM q_AM (q_uI q_IM 0 39 0) q_J0, 34, 31630)) _
                      refine q_Ru_seg (g2 := (190, [(0, .ref 64), (1, .int 19)], [.int 0], (q_cM q_AM (q_uI q_IM 0 39 0) q_J0, 34, 31630))) 20 (fun _ _ => rfl) ?_
                      exact q_Ru_ret rfl rfl
                    show q_Ru _ _ _ (22, [(0, .ref 64), (1, .int 3859)], [.int 0], (q_cM q_AM (q_uI q_IM 0 39 0) q_J0, 34, 31630)) _
                    exact q_Ru_ret rfl rfl
                  show q_Ru _ _ _ (37, [(0, .ref 64), (1, .int 3859), (2, .int v)], [.int 0], (q_cM q_AM (q_uI q_IM 0 39 0) q_J0, 34, 31630)) _
                  refine q_Ru_seg (g2 := (41, [(3, .int 0), (0, .ref 64), (1, .int 3859), (2, .int v)], [.int v, .int 3859, .ref 64], (q_cM q_AM (q_uI q_IM 0 39 0) q_J0, 34, 31630))) 4 (fun _ _ => rfl) ?_
                  refine q_Ru_call (v := none) (h2 := (q_cM A72 (q_uI q_IM 0 39 0) q_J0, 34, 31630)) rfl rfl ?_ ?_
                  · exact p72.le (Nat.le_of_ble_eq_true rfl)
                  show q_Ru _ _ _ (44, [(3, .int 0), (0, .ref 64), (1, .int 3859), (2, .int v)], [], (q_cM A72 (q_uI q_IM 0 39 0) q_J0, 34, 31630)) _
                  refine q_Ru_seg (g2 := (45, [(3, .int 0), (0, .ref 64), (1, .int 3859), (2, .int v)], [.ref 64], (q_cM A72 (q_uI q_IM 0 39 0) q_J0, 34, 31630))) 1 (fun _ _ => rfl) ?_
                  refine q_Ru_call (v := none) (h2 := (q_cM A72 (q_uI q_IM 0 39 0) q_J0, 34, 31630)) rfl rfl ?_ ?_
                  · refine q_Ca_of (Nat.le_of_ble_eq_true rfl) ?_
                    refine q_Ru_seg (g2 := (17, [(0, .ref 64)], [], (q_cM A72 (q_uI q_IM 0 39 0) q_J0, 34, 31630))) 3 (fun _ _ => rfl) ?_
                    exact q_Ru_ret rfl rfl
                  show q_Ru _ _ _ (48, [(3, .int 0), (0, .ref 64), (1, .int 3859), (2, .int v)], [], (q_cM A72 (q_uI q_IM 0 39 0) q_J0, 34, 31630)) _
                  refine q_Ru_seg (g2 := (49, [(3, .int 0), (0, .ref 64), (1, .int 3859), (2, .int v)], [.int 0], (q_cM A72 (q_uI q_IM 0 39 0) q_J0, 34, 31630))) 1 (fun _ _ => rfl) ?_
                  exact q_Ru_ret rfl rfl
              | 20, _, e249 =>
                have e249 : a = 3860 := e249
                subst e249
                obtain ⟨A73, I73, p73⟩ := q_p_write q_AX q_IX (40) (26520) 3860 v
                obtain ⟨A74, p74⟩ := q_p_writes q_AM (q_uI q_IM 0 39 0) (34) (31630) 3860 v (by decide) (by decide)
                refine ⟨0, 0, 0, ⟨(q_cX A73 I73 (q_uA q_J0 39 (vp_updL (fun _ => 0) 0 0)), 40, 26520), (q_uA q_J0 39 (vp_updL (fun _ => 0) 0 0)) 39, ?_, rfl, fun _ => rfl, Nat.le_of_ble_eq_true rfl, Nat.le_of_ble_eq_true rfl⟩, ⟨(q_cM A74 (q_uI q_IM 0 39 0) q_J0, 34, 31630), _, ?_, rfl, rfl, Nat.le_of_ble_eq_true rfl, Nat.le_of_ble_eq_true rfl⟩, fun _ => rfl⟩
                · refine q_Ca_of (Nat.le_of_ble_eq_true rfl) ?_
                  refine q_Ru_seg (g2 := (5, [(0, .ref 64), (1, .int 3860), (2, .int v), (3, .ref 103)], [.int v, .int 3860, .ref 64, .int 0, .ref 103], (q_cX q_AX q_IX q_J0, 40, 26520))) 5 (fun _ _ => rfl) ?_
                  refine q_Ru_call (v := (some (.int 0))) (h2 := (q_cX A73 I73 q_J0, 40, 26520)) rfl rfl ?_ ?_
                  · refine q_Ca_of (Nat.le_of_ble_eq_true rfl) ?_
                    refine q_Ru_seg (g2 := (1, [(0, .ref 64), (1, .int 3860), (2, .int v)], [.int 3860], (q_cX q_AX q_IX q_J0, 40, 26520))) 1 (fun _ _ => rfl) ?_
                    refine q_Ru_call (v := none) (h2 := (q_cX q_AX q_IX q_J0, 40, 26520)) rfl rfl ?_ ?_
                    · refine q_Ca_of (Nat.le_of_ble_eq_true rfl) ?_
                      refine q_Ru_seg (g2 := (4, [(0, .int 3860)], [.int 4096, .int 3860], (q_cX q_AX q_IX q_J0, 40, 26520))) 2 (fun _ _ => rfl) ?_
                      refine q_Ru_call (v := none) (h2 := (q_cX q_AX q_IX q_J0, 40, 26520)) rfl rfl ?_ ?_
                      · refine q_Ca_of (Nat.le_of_ble_eq_true rfl) ?_
                        refine q_Ru_seg (g2 := (19, [(0, .int 3860), (1, .int 4096)], [], (q_cX q_AX q_IX q_J0, 40, 26520))) 5 (fun _ _ => rfl) ?_
                        exact q_Ru_ret rfl rfl
                      show q_Ru _ _ _ (7, [(0, .int 3860)], [], (q_cX q_AX q_IX q_J0, 40, 26520)) _
                      exact q_Ru_ret rfl rfl
                    show q_Ru _ _ _ (4, [(0, .ref 64), (1, .int 3860), (2, .int v)], [], (q_cX q_AX q_IX q_J0, 40, 26520)) _
                    refine q_Ru_seg (g2 := (5, [(0, .ref 64), (1, .int 3860), (2, .int v)], [.int v], (q_cX q_AX q_IX q_J0, 40, 26520))) 1 (fun _ _ => rfl) ?_
                    refine q_Ru_call (v := none) (h2 := (q_cX q_AX q_IX q_J0, 40, 26520)) rfl rfl ?_ ?_
                    · refine q_Ca_of (Nat.le_of_ble_eq_true rfl) ?_
                      refine q_Ru_seg (g2 := (5, [(0, .int v)], [.int 255, .int 0, .int v], (q_cX q_AX q_IX q_J0, 40, 26520))) 3 (fun _ _ => rfl) ?_
                      refine q_Ru_call (v := none) (h2 := (q_cX q_AX q_IX q_J0, 40, 26520)) rfl rfl ?_ ?_
                      · refine q_Ca_of (Nat.le_of_ble_eq_true rfl) ?_
                        refine q_Ru_seg (g2 := (2, [(0, .int v), (1, .int 0), (2, .int 255)], [.int 0, .int v], (q_cX q_AX q_IX q_J0, 40, 26520))) 2 (fun _ _ => rfl) ?_
                        refine q_Ru_rsF (g2 := (5, [(0, .int v), (1, .int 0), (2, .int 255)], [], (q_cX q_AX q_IX q_J0, 40, 26520))) rfl rfl h233 ?_
                        refine q_Ru_seg (g2 := (7, [(0, .int v), (1, .int 0), (2, .int 255)], [.int 255, .int v], (q_cX q_AX q_IX q_J0, 40, 26520))) 2 (fun _ _ => rfl) ?_
                        refine q_Ru_rsT (g2 := (20, [(0, .int v), (1, .int 0), (2, .int 255)], [], (q_cX q_AX q_IX q_J0, 40, 26520))) rfl rfl (q_d_geF h235) ?_
                        exact q_Ru_ret rfl rfl
                      show q_Ru _ _ _ (8, [(0, .int v)], [], (q_cX q_AX q_IX q_J0, 40, 26520)) _
                      exact q_Ru_ret rfl rfl
                    show q_Ru _ _ _ (8, [(0, .ref 64), (1, .int 3860), (2, .int v)], [], (q_cX q_AX q_IX q_J0, 40, 26520)) _
                    refine q_Ru_seg (g2 := (13, [(0, .ref 64), (1, .int 3860), (2, .int v)], [.int 0, .int v, .int 3860, .int 0, .ref 64], (q_cX q_AX q_IX q_J0, 40, 26520))) 5 (fun _ _ => rfl) ?_
                    refine q_Ru_call (v := none) (h2 := (q_cX q_AX q_IX q_J0, 40, 26520)) rfl rfl ?_ ?_
                    · refine q_Ca_of (Nat.le_of_ble_eq_true rfl) ?_
                      refine q_Ru_seg (g2 := (19, [(0, .ref 64), (1, .int 0), (2, .int 3860), (3, .int v), (4, .int 0)], [], (q_cX q_AX q_IX q_J0, 40, 26520))) 3 (fun _ _ => rfl) ?_
                      exact q_Ru_ret rfl rfl
                    show q_Ru _ _ _ (16, [(0, .ref 64), (1, .int 3860), (2, .int v)], [], (q_cX q_AX q_IX q_J0, 40, 26520)) _
                    refine q_Ru_seg (g2 := (24, [(0, .ref 64), (1, .int 3860), (2, .int v)], [.int 0, .int v, .int 3860, .int 0, .ref 65], (q_cX q_AX q_IX q_J0, 40, 26520))) 6 (fun _ _ => rfl) ?_
                    refine q_Ru_call (v := (some (.int 0))) (h2 := (q_cX A73 I73 q_J0, 40, 26520)) rfl rfl ?_ ?_
                    · refine q_Ca_of (Nat.le_of_ble_eq_true rfl) ?_
                      refine q_Ru_seg (g2 := (74, [(0, .ref 65), (1, .int 0), (2, .int 3860), (3, .int v), (4, .int 0)], [.int v, .int 3860, .ref 66], (q_cX q_AX q_IX q_J0, 40, 26520))) 6 (fun _ _ => rfl) ?_
                      refine q_Ru_call (v := (some (.int 0))) (h2 := (q_cX A73 I73 q_J0, 40, 26520)) rfl rfl ?_ ?_
                      · refine q_Ca_of (Nat.le_of_ble_eq_true rfl) ?_
                        refine q_Ru_seg (g2 := (2, [(0, .ref 66), (1, .int 3860), (2, .int v)], [.int 3860, .ref 66], (q_cX q_AX q_IX q_J0, 40, 26520))) 2 (fun _ _ => rfl) ?_
                        refine q_Ru_call (v := (some (.int 0))) (h2 := (q_cX q_AX q_IX q_J0, 40, 26520)) rfl rfl ?_ ?_
                        · refine q_Ca_of (Nat.le_of_ble_eq_true rfl) ?_
                          refine q_Ru_seg (g2 := (27, [(2, .int 20), (0, .ref 66), (1, .int 3860)], [.int 0, .int 20, .ref 66], (q_cX q_AX q_IX q_J0, 40, 26520))) 16 (fun _ _ => rfl) ?_
                          refine q_Ru_call (v := (some (.int 0))) (h2 := (q_cX q_AX q_IX q_J0, 40, 26520)) rfl rfl ?_ ?_
                          · refine q_Ca_of (Nat.le_of_ble_eq_true rfl) ?_
                            refine q_Ru_seg (g2 := (183, [(0, .ref 66), (1, .int 20), (2, .int 0)], [.int 0], (q_cX q_AX q_IX q_J0, 40, 26520))) 3 (fun _ _ => rfl) ?_
                            exact q_Ru_ret rfl rfl
                          show q_Ru _ _ _ (30, [(2, .int 20), (0, .ref 66), (1, .int 3860)], [.int 0], (q_cX q_AX q_IX q_J0, 40, 26520)) _
                          exact q_Ru_ret rfl rfl
                        show q_Ru _ _ _ (5, [(0, .ref 66), (1, .int 3860), (2, .int v)], [.int 0], (q_cX q_AX q_IX q_J0, 40, 26520)) _
                        refine q_Ru_seg (g2 := (9, [(3, .int 0), (0, .ref 66), (1, .int 3860), (2, .int v)], [.int v, .int 3860, .ref 66], (q_cX q_AX q_IX q_J0, 40, 26520))) 4 (fun _ _ => rfl) ?_
                        refine q_Ru_call (v := none) (h2 := (q_cX A73 I73 q_J0, 40, 26520)) rfl rfl ?_ ?_
                        · exact p73.le (Nat.le_of_ble_eq_true rfl)
                        show q_Ru _ _ _ (12, [(3, .int 0), (0, .ref 66), (1, .int 3860), (2, .int v)], [], (q_cX A73 I73 q_J0, 40, 26520)) _
                        refine q_Ru_seg (g2 := (13, [(3, .int 0), (0, .ref 66), (1, .int 3860), (2, .int v)], [.int 0], (q_cX A73 I73 q_J0, 40, 26520))) 1 (fun _ _ => rfl) ?_
                        exact q_Ru_ret rfl rfl
                      show q_Ru _ _ _ (77, [(0, .ref 65), (1, .int 0), (2, .int 3860), (3, .int v), (4, .int 0)], [.int 0], (q_cX A73 I73 q_J0, 40, 26520)) _
                      exact q_Ru_ret rfl rfl
                    show q_Ru _ _ _ (27, [(0, .ref 64), (1, .int 3860), (2, .int v)], [.int 0], (q_cX A73 I73 q_J0, 40, 26520)) _
                    exact q_Ru_ret rfl rfl
                  show q_Ru _ _ _ (8, [(0, .ref 64), (1, .int 3860), (2, .int v), (3, .ref 103)], [.int 0, .int 0, .ref 103], (q_cX A73 I73 q_J0, 40, 26520)) _
                  refine q_Ru_seg (g2 := (22, [(0, .ref 64), (1, .int 3860), (2, .int v), (3, .ref 103)], [.int 0], (q_cX A73 I73 (q_uA q_J0 39 (vp_updL (fun _ => 0) 0 0)), 40, 26520))) 4 (fun _ _ => rfl) ?_
                  exact q_Ru_ret rfl rfl
                · refine q_Ca_of (Nat.le_of_ble_eq_true rfl) ?_
                  refine q_Ru_seg (g2 := (2, [(0, .ref 64), (1, .int 3860), (2, .int v)], [.int 3860, .ref 64], (q_cM q_AM q_IM q_J0, 34, 31630))) 2 (fun _ _ => rfl) ?_
                  refine q_Ru_call (v := (some (.int 0))) (h2 := (q_cM q_AM q_IM q_J0, 34, 31630)) rfl rfl ?_ ?_
                  · refine q_Ca_of (Nat.le_of_ble_eq_true rfl) ?_
                    refine q_Ru_seg (g2 := (5, [(0, .int 3860)], [.int 4095, .int 0, .int 3860], (q_cM q_AM q_IM q_J0, 34, 31630))) 3 (fun _ _ => rfl) ?_
                    refine q_Ru_call (v := (some (.int 1))) (h2 := (q_cM q_AM q_IM q_J0, 34, 31630)) rfl rfl ?_ ?_
                    · refine q_Ca_of (Nat.le_of_ble_eq_true rfl) ?_
                      refine q_Ru_seg (g2 := (15, [(0, .int 3860), (1, .int 0), (2, .int 4095)], [.int 1], (q_cM q_AM q_IM q_J0, 34, 31630))) 8 (fun _ _ => rfl) ?_
                      exact q_Ru_ret rfl rfl
                    show q_Ru _ _ _ (8, [(0, .int 3860)], [.int 1], (q_cM q_AM q_IM q_J0, 34, 31630)) _
                    refine q_Ru_seg (g2 := (16, [(0, .int 3860)], [.int 0], (q_cM q_AM q_IM q_J0, 34, 31630))) 2 (fun _ _ => rfl) ?_
                    exact q_Ru_ret rfl rfl
                  show q_Ru _ _ _ (5, [(0, .ref 64), (1, .int 3860), (2, .int v)], [.int 0, .ref 64], (q_cM q_AM q_IM q_J0, 34, 31630)) _
                  refine q_Ru_seg (g2 := (13, [(0, .ref 64), (1, .int 3860), (2, .int v)], [.int v, .ref 64], (q_cM q_AM q_IM q_J0, 34, 31630))) 2 (fun _ _ => rfl) ?_
                  refine q_Ru_call (v := (some (.int 0))) (h2 := (q_cM q_AM q_IM q_J0, 34, 31630)) rfl rfl ?_ ?_
                  · refine q_Ca_of (Nat.le_of_ble_eq_true rfl) ?_
                    refine q_Ru_seg (g2 := (5, [(0, .int v)], [.int 255, .int 0, .int v], (q_cM q_AM q_IM q_J0, 34, 31630))) 3 (fun _ _ => rfl) ?_
                    refine q_Ru_call (v := (some (.int 1))) (h2 := (q_cM q_AM q_IM q_J0, 34, 31630)) rfl rfl ?_ ?_
                    · refine q_Ca_of (Nat.le_of_ble_eq_true rfl) ?_
                      refine q_Ru_seg (g2 := (2, [(0, .int v), (1, .int 0), (2, .int 255)], [.int 0, .int v], (q_cM q_AM q_IM q_J0, 34, 31630))) 2 (fun _ _ => rfl) ?_
                      refine q_Ru_rsF (g2 := (5, [(0, .int v), (1, .int 0), (2, .int 255)], [], (q_cM q_AM q_IM q_J0, 34, 31630))) rfl rfl h233 ?_
                      refine q_Ru_seg (g2 := (7, [(0, .int v), (1, .int 0), (2, .int 255)], [.int 255, .int v], (q_cM q_AM q_IM q_J0, 34, 31630))) 2 (fun _ _ => rfl) ?_
                      refine q_Ru_rsF (g2 := (10, [(0, .int v), (1, .int 0), (2, .int 255)], [], (q_cM q_AM q_IM q_J0, 34, 31630))) rfl rfl h235 ?_
                      refine q_Ru_seg (g2 := (15, [(0, .int v), (1, .int 0), (2, .int 255)], [.int 1], (q_cM q_AM q_IM q_J0, 34, 31630))) 2 (fun _ _ => rfl) ?_
                      exact q_Ru_ret rfl rfl
                    show q_Ru _ _ _ (8, [(0, .int v)], [.int 1], (q_cM q_AM q_IM q_J0, 34, 31630)) _
                    refine q_Ru_seg (g2 := (16, [(0, .int v)], [.int 0], (q_cM q_AM q_IM q_J0, 34, 31630))) 2 (fun _ _ => rfl) ?_
                    exact q_Ru_ret rfl rfl
                  show q_Ru _ _ _ (16, [(0, .ref 64), (1, .int 3860), (2, .int v)], [.int 0, .ref 64], (q_cM q_AM q_IM q_J0, 34, 31630)) _
                  refine q_Ru_seg (g2 := (24, [(0, .ref 64), (1, .int 3860), (2, .int v)], [.int 0, .ref 64], (q_cM q_AM q_IM q_J0, 34, 31630))) 2 (fun _ _ => rfl) ?_
                  refine q_Ru_call (v := (some (.int 0))) (h2 := (q_cM q_AM (q_uI q_IM 0 39 0) q_J0, 34, 31630)) rfl rfl ?_ ?_
                  · refine q_Ca_of (Nat.le_of_ble_eq_true rfl) ?_
                    refine q_Ru_seg (g2 := (14, [(0, .ref 64), (1, .int 0)], [.int 0], (q_cM q_AM (q_uI q_IM 0 39 0) q_J0, 34, 31630))) 6 (fun _ _ => rfl) ?_
                    exact q_Ru_ret rfl rfl
                  show q_Ru _ _ _ (27, [(0, .ref 64), (1, .int 3860), (2, .int v)], [.int 0], (q_cM q_AM (q_uI q_IM 0 39 0) q_J0, 34, 31630)) _
                  refine q_Ru_seg (g2 := (34, [(0, .ref 64), (1, .int 3860), (2, .int v)], [.int 3860, .ref 64], (q_cM q_AM (q_uI q_IM 0 39 0) q_J0, 34, 31630))) 3 (fun _ _ => rfl) ?_
                  refine q_Ru_call (v := (some (.int 0))) (h2 := (q_cM q_AM (q_uI q_IM 0 39 0) q_J0, 34, 31630)) rfl rfl ?_ ?_
                  · refine q_Ca_of (Nat.le_of_ble_eq_true rfl) ?_
                    refine q_Ru_seg (g2 := (7, [(0, .ref 64), (1, .int 3860)], [.int 3887, .int 3840, .int 3860], (q_cM q_AM (q_uI q_IM 0 39 0) q_J0, 34, 31630))) 3 (fun _ _ => rfl) ?_
                    refine q_Ru_call (v := (some (.int 1))) (h2 := (q_cM q_AM (q_uI q_IM 0 39 0) q_J0, 34, 31630)) rfl rfl ?_ ?_
                    · refine q_Ca_of (Nat.le_of_ble_eq_true rfl) ?_
                      refine q_Ru_seg (g2 := (15, [(0, .int 3860), (1, .int 3840), (2, .int 3887)], [.int 1], (q_cM q_AM (q_uI q_IM 0 39 0) q_J0, 34, 31630))) 8 (fun _ _ => rfl) ?_
                      exact q_Ru_ret rfl rfl
                    show q_Ru _ _ _ (10, [(0, .ref 64), (1, .int 3860)], [.int 1], (q_cM q_AM (q_uI q_IM 0 39 0) q_J0, 34, 31630)) _
                    refine q_Ru_seg (g2 := (19, [(0, .ref 64), (1, .int 3860)], [.int 20, .ref 64], (q_cM q_AM (q_uI q_IM 0 39 0) q_J0, 34, 31630))) 5 (fun _ _ => rfl) ?_
                    refine q_Ru_call (v := (some (.int 0))) (h2 := (q_cM q_AM (q_uI q_IM 0 39 0) q_J0, 34, 31630)) rfl rfl ?_ ?_
                    · refine q_Ca_of (Nat.le_of_ble_eq_true rfl) ?_
                      refine q_Ru_seg (g2 := (30, [(0, .ref 64), (1, .int 20)], [.int 15, .int 12, .int 20], (q_cM q_AM (q_uI q_IM 0 39 0) q_J0, 34, 31630))) 9 (fun _ _ => rfl) ?_
                      refine q_Ru_call (v := (some (.int 0))) (h2 := (q_cM q_AM (q_uI q_IM 0 39 0) q_J0, 34, 31630)) rfl rfl ?_ ?_
                      · refine q_Ca_of (Nat.le_of_ble_eq_true rfl) ?_
                        refine q_Ru_seg (g2 := (15, [(0, .int 20), (1, .int 12), (2, .int 15)], [.int 0], (q_cM q_AM (q_uI q_IM 0 39 0) q_J0, 34, 31630))) 7 (fun _ _ => rfl) ?_
                        exact q_Ru_ret rfl rfl
                      show q_Ru _ _ _ (33, [(0, .ref 64), (1, .int 20)], [.int 0], (q_cM q_AM (q_uI q_IM 0 39 0) q_J0, 34, 31630)) _
                      refine q_Ru_seg (g2 := (190, [(0, .ref 64), (1, .int 20)], [.int 0], (q_cM q_AM (q_uI q_IM 0 39 0) q_J0, 34, 31630))) 20 (fun _ _ => rfl) ?_
                      exact q_Ru_ret rfl rfl
                    show q_Ru _ _ _ (22, [(0, .ref 64), (1, .int 3860)], [.int 0], (q_cM q_AM (q_uI q_IM 0 39 0) q_J0, 34, 31630)) _
                    exact q_Ru_ret rfl rfl
                  show q_Ru _ _ _ (37, [(0, .ref 64), (1, .int 3860), (2, .int v)], [.int 0], (q_cM q_AM (q_uI q_IM 0 39 0) q_J0, 34, 31630)) _
                  refine q_Ru_seg (g2 := (41, [(3, .int 0), (0, .ref 64), (1, .int 3860), (2, .int v)], [.int v, .int 3860, .ref 64], (q_cM q_AM (q_uI q_IM 0 39 0) q_J0, 34, 31630))) 4 (fun _ _ => rfl) ?_
                  refine q_Ru_call (v := none) (h2 := (q_cM A74 (q_uI q_IM 0 39 0) q_J0, 34, 31630)) rfl rfl ?_ ?_
                  · exact p74.le (Nat.le_of_ble_eq_true rfl)
                  show q_Ru _ _ _ (44, [(3, .int 0), (0, .ref 64), (1, .int 3860), (2, .int v)], [], (q_cM A74 (q_uI q_IM 0 39 0) q_J0, 34, 31630)) _
                  refine q_Ru_seg (g2 := (45, [(3, .int 0), (0, .ref 64), (1, .int 3860), (2, .int v)], [.ref 64], (q_cM A74 (q_uI q_IM 0 39 0) q_J0, 34, 31630))) 1 (fun _ _ => rfl) ?_
                  refine q_Ru_call (v := none) (h2 := (q_cM A74 (q_uI q_IM 0 39 0) q_J0, 34, 31630)) rfl rfl ?_ ?_
                  · refine q_Ca_of (Nat.le_of_ble_eq_true rfl) ?_
                    refine q_Ru_seg (g2 := (17, [(0, .ref 64)], [], (q_cM A74 (q_uI q_IM 0 39 0) q_J0, 34, 31630))) 3 (fun _ _ => rfl) ?_
                    exact q_Ru_ret rfl rfl
                  show q_Ru _ _ _ (48, [(3, .int 0), (0, .ref 64), (1, .int 3860), (2, .int v)], [], (q_cM A74 (q_uI q_IM 0 39 0) q_J0, 34, 31630)) _
                  refine q_Ru_seg (g2 := (49, [(3, .int 0), (0, .ref 64), (1, .int 3860), (2, .int v)], [.int 0], (q_cM A74 (q_uI q_IM 0 39 0) q_J0, 34, 31630))) 1 (fun _ _ => rfl) ?_
                  exact q_Ru_ret rfl rfl
              | 21, _, e249 =>
                have e249 : a = 3861 := e249
                subst e249
                obtain ⟨A75, I75, p75⟩ := q_p_write q_AX q_IX (40) (26520) 3861 v
                obtain ⟨A76, p76⟩ := q_p_writes q_AM (q_uI q_IM 0 39 0) (34) (31630) 3861 v (by decide) (by decide)
                refine ⟨0, 0, 0, ⟨(q_cX A75 I75 (q_uA q_J0 39 (vp_updL (fun _ => 0) 0 0)), 40, 26520), (q_uA q_J0 39 (vp_updL (fun _ => 0) 0 0)) 39, ?_, rfl, fun _ => rfl, Nat.le_of_ble_eq_true rfl, Nat.le_of_ble_eq_true rfl⟩, ⟨(q_cM A76 (q_uI q_IM 0 39 0) q_J0, 34, 31630), _, ?_, rfl, rfl, Nat.le_of_ble_eq_true rfl, Nat.le_of_ble_eq_true rfl⟩, fun _ => rfl⟩
                · refine q_Ca_of (Nat.le_of_ble_eq_true rfl) ?_
                  refine q_Ru_seg (g2 := (5, [(0, .ref 64), (1, .int 3861), (2, .int v), (3, .ref 103)], [.int v, .int 3861, .ref 64, .int 0, .ref 103], (q_cX q_AX q_IX q_J0, 40, 26520))) 5 (fun _ _ => rfl) ?_
                  refine q_Ru_call (v := (some (.int 0))) (h2 := (q_cX A75 I75 q_J0, 40, 26520)) rfl rfl ?_ ?_
                  · refine q_Ca_of (Nat.le_of_ble_eq_true rfl) ?_
                    refine q_Ru_seg (g2 := (1, [(0, .ref 64), (1, .int 3861), (2, .int v)], [.int 3861], (q_cX q_AX q_IX q_J0, 40, 26520))) 1 (fun _ _ => rfl) ?_
                    refine q_Ru_call (v := none) (h2 := (q_cX q_AX q_IX q_J0, 40, 26520)) rfl rfl ?_ ?_
                    · refine q_Ca_of (Nat.le_of_ble_eq_true rfl) ?_
                      refine q_Ru_seg (g2 := (4, [(0, .int 3861)], [.int 4096, .int 3861], (q_cX q_AX q_IX q_J0, 40, 26520))) 2 (fun _ _ => rfl) ?_
                      refine q_Ru_call (v := none) (h2 := (q_cX q_AX q_IX q_J0, 40, 26520)) rfl rfl ?_ ?_
                      · refine q_Ca_of (Nat.le_of_ble_eq_true rfl) ?_
                        refine q_Ru_seg (g2 := (19, [(0, .int 3861), (1, .int 4096)], [], (q_cX q_AX q_IX q_J0, 40, 26520))) 5 (fun _ _ => rfl) ?_
                        exact q_Ru_ret rfl rfl
                      show q_Ru _ _ _ (7, [(0, .int 3861)], [], (q_cX q_AX q_IX q_J0, 40, 26520)) _
                      exact q_Ru_ret rfl rfl
                    show q_Ru _ _ _ (4, [(0, .ref 64), (1, .int 3861), (2, .int v)], [], (q_cX q_AX q_IX q_J0, 40, 26520)) _
                    refine q_Ru_seg (g2 := (5, [(0, .ref 64), (1, .int 3861), (2, .int v)], [.int v], (q_cX q_AX q_IX q_J0, 40, 26520))) 1 (fun _ _ => rfl) ?_
                    refine q_Ru_call (v := none) (h2 := (q_cX q_AX q_IX q_J0, 40, 26520)) rfl rfl ?_ ?_
                    · refine q_Ca_of (Nat.le_of_ble_eq_true rfl) ?_
                      refine q_Ru_seg (g2 := (5, [(0, .int v)], [.int 255, .int 0, .int v], (q_cX q_AX q_IX q_J0, 40, 26520))) 3 (fun _ _ => rfl) ?_
                      refine q_Ru_call (v := none) (h2 := (q_cX q_AX q_IX q_J0, 40, 26520)) rfl rfl ?_ ?_
                      · refine q_Ca_of (Nat.le_of_ble_eq_true rfl) ?_
                        refine q_Ru_seg (g2 := (2, [(0, .int v), (1, .int 0), (2, .int 255)], [.int 0, .int v], (q_cX q_AX q_IX q_J0, 40, 26520))) 2 (fun _ _ => rfl) ?_
                        refine q_Ru_rsF (g2 := (5, [(0, .int v), (1, .int 0), (2, .int 255)], [], (q_cX q_AX q_IX q_J0, 40, 26520))) rfl rfl h233 ?_
                        refine q_Ru_seg (g2 := (7, [(0, .int v), (1, .int 0), (2, .int 255)], [.int 255, .int v], (q_cX q_AX q_IX q_J0, 40, 26520))) 2 (fun _ _ => rfl) ?_
                        refine q_Ru_rsT (g2 := (20, [(0, .int v), (1, .int 0), (2, .int 255)], [], (q_cX q_AX q_IX q_J0, 40, 26520))) rfl rfl (q_d_geF h235) ?_
                        exact q_Ru_ret rfl rfl
                      show q_Ru _ _ _ (8, [(0, .int v)], [], (q_cX q_AX q_IX q_J0, 40, 26520)) _
                      exact q_Ru_ret rfl rfl
                    show q_Ru _ _ _ (8, [(0, .ref 64), (1, .int 3861), (2, .int v)], [], (q_cX q_AX q_IX q_J0, 40, 26520)) _
                    refine q_Ru_seg (g2 := (13, [(0, .ref 64), (1, .int 3861), (2, .int v)], [.int 0, .int v, .int 3861, .int 0, .ref 64], (q_cX q_AX q_IX q_J0, 40, 26520))) 5 (fun _ _ => rfl) ?_
                    refine q_Ru_call (v := none) (h2 := (q_cX q_AX q_IX q_J0, 40, 26520)) rfl rfl ?_ ?_
                    · refine q_Ca_of (Nat.le_of_ble_eq_true rfl) ?_
                      refine q_Ru_seg (g2 := (19, [(0, .ref 64), (1, .int 0), (2, .int 3861), (3, .int v), (4, .int 0)], [], (q_cX q_AX q_IX q_J0, 40, 26520))) 3 (fun _ _ => rfl) ?_
                      exact q_Ru_ret rfl rfl
                    show q_Ru _ _ _ (16, [(0, .ref 64), (1, .int 3861), (2, .int v)], [], (q_cX q_AX q_IX q_J0, 40, 26520)) _
                    refine q_Ru_seg (g2 := (24, [(0, .ref 64), (1, .int 3861), (2, .int v)], [.int 0, .int v, .int 3861, .int 0, .ref 65], (q_cX q_AX q_IX q_J0, 40, 26520))) 6 (fun _ _ => rfl) ?_
                    refine q_Ru_call (v := (some (.int 0))) (h2 := (q_cX A75 I75 q_J0, 40, 26520)) rfl rfl ?_ ?_
                    · refine q_Ca_of (Nat.le_of_ble_eq_true rfl) ?_
                      refine q_Ru_seg (g2 := (74, [(0, .ref 65), (1, .int 0), (2, .int 3861), (3, .int v), (4, .int 0)], [.int v, .int 3861, .ref 66], (q_cX q_AX q_IX q_J0, 40, 26520))) 6 (fun _ _ => rfl) ?_
                      refine q_Ru_call (v := (some (.int 0))) (h2 := (q_cX A75 I75 q_J0, 40, 26520)) rfl rfl ?_ ?_
                      · refine q_Ca_of (Nat.le_of_ble_eq_true rfl) ?_
                        refine q_Ru_seg (g2 := (2, [(0, .ref 66), (1, .int 3861), (2, .int v)], [.int 3861, .ref 66], (q_cX q_AX q_IX q_J0, 40, 26520))) 2 (fun _ _ => rfl) ?_
                        refine q_Ru_call (v := (some (.int 0))) (h2 := (q_cX q_AX q_IX q_J0, 40, 26520)) rfl rfl ?_ ?_
                        · refine q_Ca_of (Nat.le_of_ble_eq_true rfl) ?_
                          refine q_Ru_seg (g2 := (27, [(2, .int 21), (0, .ref 66), (1, .int 3861)], [.int 0, .int 21, .ref 66], (q_cX q_AX q_IX q_J0, 40, 26520))) 16 (fun _ _ => rfl) ?_
                          refine q_Ru_call (v := (some (.int 0))) (h2 := (q_cX q_AX q_IX q_J0, 40, 26520)) rfl rfl ?_ ?_
                          · refine q_Ca_of (Nat.le_of_ble_eq_true rfl) ?_
                            refine q_Ru_seg (g2 := (183, [(0, .ref 66), (1, .int 21), (2, .int 0)], [.int 0], (q_cX q_AX q_IX q_J0, 40, 26520))) 3 (fun _ _ => rfl) ?_
                            exact q_Ru_ret rfl rfl
                          show q_Ru _ _ _ (30, [(2, .int 21), (0, .ref 66), (1, .int 3861)], [.int 0], (q_cX q_AX q_IX q_J0, 40, 26520)) _
                          exact q_Ru_ret rfl rfl
                        show q_Ru _ _ _ (5, [(0, .ref 66), (1, .int 3861), (2, .int v)], [.int 0], (q_cX q_AX q_IX q_J0, 40, 26520)) _
                        refine q_Ru_seg (g2 := (9, [(3, .int 0), (0, .ref 66), (1, .int 3861), (2, .int v)], [.int v, .int 3861, .ref 66], (q_cX q_AX q_IX q_J0, 40, 26520))) 4 (fun _ _ => rfl) ?_
                        refine q_Ru_call (v := none) (h2 := (q_cX A75 I75 q_J0, 40, 26520)) rfl rfl ?_ ?_
                        · exact p75.le (Nat.le_of_ble_eq_true rfl)
                        show q_Ru _ _ _ (12, [(3, .int 0), (0, .ref 66), (1, .int 3861), (2, .int v)], [], (q_cX A75 I75 q_J0, 40, 26520)) _
                        refine q_Ru_seg (g2 := (13, [(3, .int 0), (0, .ref 66), (1, .int 3861), (2, .int v)], [.int 0], (q_cX A75 I75 q_J0, 40, 26520))) 1 (fun _ _ => rfl) ?_
                        exact q_Ru_ret rfl rfl
                      show q_Ru _ _ _ (77, [(0, .ref 65), (1, .int 0), (2, .int 3861), (3, .int v), (4, .int 0)], [.int 0], (q_cX A75 I75 q_J0, 40, 26520)) _
                      exact q_Ru_ret rfl rfl
                    show q_Ru _ _ _ (27, [(0, .ref 64), (1, .int 3861), (2, .int v)], [.int 0], (q_cX A75 I75 q_J0, 40, 26520)) _
                    exact q_Ru_ret rfl rfl
                  show q_Ru _ _ _ (8, [(0, .ref 64), (1, .int 3861), (2, .int v), (3, .ref 103)], [.int 0, .int 0, .ref 103], (q_cX A75 I75 q_J0, 40, 26520)) _
                  refine q_Ru_seg (g2 := (22, [(0, .ref 64), (1, .int 3861), (2, .int v), (3, .ref 103)], [.int 0], (q_cX A75 I75 (q_uA q_J0 39 (vp_updL (fun _ => 0) 0 0)), 40, 26520))) 4 (fun _ _ => rfl) ?_
                  exact q_Ru_ret rfl rfl
                · refine q_Ca_of (Nat.le_of_ble_eq_true rfl) ?_
                  refine q_Ru_seg (g2 := (2, [(0, .ref 64), (1, .int 3861), (2, .int v)], [.int 3861, .ref 64], (q_cM q_AM q_IM q_J0, 34, 31630))) 2 (fun _ _ => rfl) ?_
                  refine q_Ru_call (v := (some (.int 0))) (h2 := (q_cM q_AM q_IM q_J0, 34, 31630)) rfl rfl ?_ ?_
                  · refine q_Ca_of (Nat.le_of_ble_eq_true rfl) ?_
                    refine q_Ru_seg (g2 := (5, [(0, .int 3861)], [.int 4095, .int 0, .int 3861], (q_cM q_AM q_IM q_J0, 34, 31630))) 3 (fun _ _ => rfl) ?_
                    refine q_Ru_call (v := (some (.int 1))) (h2 := (q_cM q_AM q_IM q_J0, 34, 31630)) rfl rfl ?_ ?_
                    · refine q_Ca_of (Nat.le_of_ble_eq_true rfl) ?_
                      refine q_Ru_seg (g2 := (15, [(0, .int 3861), (1, .int 0), (2, .int 4095)], [.int 1], (q_cM q_AM q_IM q_J0, 34, 31630))) 8 (fun _ _ => rfl) ?_
                      exact q_Ru_ret rfl rfl
                    show q_Ru _ _ _ (8, [(0, .int 3861)], [.int 1], (q_cM q_AM q_IM q_J0, 34, 31630)) _
                    refine q_Ru_seg (g2 := (16, [(0, .int 3861)], [.int 0], (q_cM q_AM q_IM q_J0, 34, 31630))) 2 (fun _ _ => rfl) ?_
                    exact q_Ru_ret rfl rfl
                  show q_Ru _ _ _ (5, [(0, .ref 64), (1, .int 3861), (2, .int v)], [.int 0, .ref 64], (q_cM q_AM q_IM q_J0, 34, 31630)) _
                  refine q_Ru_seg (g2 := (13, [(0, .ref 64), (1, .int 3861), (2, .int v)], [.int v, .ref 64], (q_cM q_AM q_IM q_J0, 34, 31630))) 2 (fun _ _ => rfl) ?_
                  refine q_Ru_call (v := (some (.int 0))) (h2 := (q_cM q_AM q_IM q_J0, 34, 31630)) rfl rfl ?_ ?_
                  · refine q_Ca_of (Nat.le_of_ble_eq_true rfl) ?_
                    refine q_Ru_seg (g2 := (5, [(0, .int v)], [.int 255, .int 0, .int v], (q_cM q_AM q_IM q_J0, 34, 31630))) 3 (fun _ _ => rfl) ?_
                    refine q_Ru_call (v := (some (.int 1))) (h2 := (q_cM q_AM q_IM q_J0, 34, 31630)) rfl rfl ?_ ?_
                    · refine q_Ca_of (Nat.le_of_ble_eq_true rfl) ?_
                      refine q_Ru_seg (g2 := (2, [(0, .int v), (1, .int 0), (2, .int 255)], [.int 0, .int v], (q_cM q_AM q_IM q_J0, 34, 31630))) 2 (fun _ _ => rfl) ?_
                      refine q_Ru_rsF (g2 := (5, [(0, .int v), (1, .int 0), (2, .int 255)], [], (q_cM q_AM q_IM q_J0, 34, 31630))) rfl rfl h233 ?_
                      refine q_Ru_seg (g2 := (7, [(0, .int v), (1, .int 0), (2, .int 255)], [.int 255, .int v], (q_cM q_AM q_IM q_J0, 34, 31630))) 2 (fun _ _ => rfl) ?_
                      refine q_Ru_rsF (g2 := (10, [(0, .int v), (1, .int 0), (2, .int 255)], [], (q_cM q_AM q_IM q_J0, 34, 31630))) rfl rfl h235 ?_
                      refine q_Ru_seg (g2 := (15, [(0, .int v), (1, .int 0), (2, .int 255)], [.int 1], (q_cM q_AM q_IM q_J0, 34, 31630))) 2 (fun _ _ => rfl) ?_
                      exact q_Ru_ret rfl rfl
                    show q_Ru _ _ _ (8, [(0, .int v)], [.int 1], (q_cM q_AM q_IM q_J0, 34, 31630)) _
                    refine q_Ru_seg (g2 := (16, [(0, .int v)], [.int 0], (q_cM q_AM q_IM q_J0, 34, 31630))) 2 (fun _ _ => rfl) ?_
                    exact q_Ru_ret rfl rfl
                  show q_Ru _ _ _ (16, [(0, .ref 64), (1, .int 3861), (2, .int v)], [.int 0, .ref 64], (q_cM q_AM q_IM q_J0, 34, 31630)) _
                  refine q_Ru_seg (g2 := (24, [(0, .ref 64), (1, .int 3861), (2, .int v)], [.int 0, .ref 64], (q_cM q_AM q_IM q_J0, 34, 31630))) 2 (fun _ _ => rfl) ?_
                  refine q_Ru_call (v := (some (.int 0))) (h2 := (q_cM q_AM (q_uI q_IM 0 39 0) q_J0, 34, 31630)) rfl rfl ?_ ?_
                  · refine q_Ca_of (Nat.le_of_ble_eq_true rfl) ?_
                    refine q_Ru_seg (g2 := (14, [(0, .ref 64), (1, .int 0)], [.int 0], (q_cM q_AM (q_uI q_IM 0 39 0) q_J0, 34, 31630))) 6 (fun _ _ => rfl) ?_
                    exact q_Ru_ret rfl rfl
                  show q_Ru _ _ _ (27, [(0, .ref 64), (1, .int 3861), (2, .int v)], [.int 0], (q_cM q_AM (q_uI q_IM 0 39 0) q_J0, 34, 31630)) _
                  refine q_Ru_seg (g2 := (34, [(0, .ref 64), (1, .int 3861), (2, .int v)], [.int 3861, .ref 64], (q_cM q_AM (q_uI q_IM 0 39 0) q_J0, 34, 31630))) 3 (fun _ _ => rfl) ?_
                  refine q_Ru_call (v := (some (.int 0))) (h2 := (q_cM q_AM (q_uI q_IM 0 39 0) q_J0, 34, 31630)) rfl rfl ?_ ?_
                  · refine q_Ca_of (Nat.le_of_ble_eq_true rfl) ?_
                    refine q_Ru_seg (g2 := (7, [(0, .ref 64), (1, .int 3861)], [.int 3887, .int 3840, .int 3861], (q_cM q_AM (q_uI q_IM 0 39 0) q_J0, 34, 31630))) 3 (fun _ _ => rfl) ?_
                    refine q_Ru_call (v := (some (.int 1))) (h2 := (q_cM q_AM (q_uI q_IM 0 39 0) q_J0, 34, 31630)) rfl rfl ?_ ?_
                    · refine q_Ca_of (Nat.le_of_ble_eq_true rfl) ?_
                      refine q_Ru_seg (g2 := (15, [(0, .int 3861), (1, .int 3840), (2, .int 3887)], [.int 1], (q_cM q_AM (q_uI q_IM 0 39 0) q_J0, 34, 31630))) 8 (fun _ _ => rfl) ?_
                      exact q_Ru_ret rfl rfl
                    show q_Ru _ _ _ (10, [(0, .ref 64), (1, .int 3861)], [.int 1], (q_cM q_AM (q_uI q_IM 0 39 0) q_J0, 34, 31630)) _
                    refine q_Ru_seg (g2 := (19, [(0, .ref 64), (1, .int 3861)], [.int 21, .ref 64], (q_cM q_AM (q_uI q_IM 0 39 0) q_J0, 34, 31630))) 5 (fun _ _ => rfl) ?_
                    refine q_Ru_call (v := (some (.int 0))) (h2 := (q_cM q_AM (q_uI q_IM 0 39 0) q_J0, 34, 31630)) rfl rfl ?_ ?_
                    · refine q_Ca_of (Nat.le_of_ble_eq_true rfl) ?_
                      refine q_Ru_seg (g2 := (30, [(0, .ref 64), (1, .int 21)], [.int 15, .int 12, .int 21], (q_cM q_AM (q_uI q_IM 0 39 0) q_J0, 34, 31630))) 9 (fun _ _ => rfl) ?_
                      refine q_Ru_call (v := (some (.int 0))) (h2 := (q_cM q_AM (q_uI q_IM 0 39 0) q_J0, 34, 31630)) rfl rfl ?_ ?_
                      · refine q_Ca_of (Nat.le_of_ble_eq_true rfl) ?_
                        refine q_Ru_seg (g2 := (15, [(0, .int 21), (1, .int 12), (2, .int 15)], [.int 0], (q_cM q_AM (q_uI q_IM 0 39 0) q_J0, 34, 31630))) 7 (fun _ _ => rfl) ?_
                        exact q_Ru_ret rfl rfl
                      show q_Ru _ _ _ (33, [(0, .ref 64), (1, .int 21)], [.int 0], (q_cM q_AM (q_uI q_IM 0 39 0) q_J0, 34, 31630)) _
                      refine q_Ru_seg (g2 := (190, [(0, .ref 64), (1, .int 21)], [.int 0], (q_cM q_AM (q_uI q_IM 0 39 0) q_J0, 34, 31630))) 20 (fun _ _ => rfl) ?_
                      exact q_Ru_ret rfl rfl
                    show q_Ru _ _ _ (22, [(0, .ref 64), (1, .int 3861)], [.int 0], (q_cM q_AM (q_uI q_IM 0 39 0) q_J0, 34, 31630)) _
                    exact q_Ru_ret rfl rfl
                  show q_Ru _ _ _ (37, [(0, .ref 64), (1, .int 3861), (2, .int v)], [.int 0], (q_cM q_AM (q_uI q_IM 0 39 0) q_J0, 34, 31630)) _
                  refine q_Ru_seg (g2 := (41, [(3, .int 0), (0, .ref 64), (1, .int 3861), (2, .int v)], [.int v, .int 3861, .ref 64], (q_cM q_AM (q_uI q_IM 0 39 0) q_J0, 34, 31630))) 4 (fun _ _ => rfl) ?_
                  refine q_Ru_call (v := none) (h2 := (q_cM A76 (q_uI q_IM 0 39 0) q_J0, 34, 31630)) rfl rfl ?_ ?_
                  · exact p76.le (Nat.le_of_ble_eq_true rfl)
                  show q_Ru _ _ _ (44, [(3, .int 0), (0, .ref 64), (1, .int 3861), (2, .int v)], [], (q_cM A76 (q_uI q_IM 0 39 0) q_J0, 34, 31630)) _
                  refine q_Ru_seg (g2 := (45, [(3, .int 0), (0, .ref 64), (1, .int 3861), (2, .int v)], [.ref 64], (q_cM A76 (q_uI q_IM 0 39 0) q_J0, 34, 31630))) 1 (fun _ _ => rfl) ?_
                  refine q_Ru_call (v := none) (h2 := (q_cM A76 (q_uI q_IM 0 39 0) q_J0, 34, 31630)) rfl rfl ?_ ?_
                  · refine q_Ca_of (Nat.le_of_ble_eq_true rfl) ?_
                    refine q_Ru_seg (g2 := (17, [(0, .ref 64)], [], (q_cM A76 (q_uI q_IM 0 39 0) q_J0, 34, 31630))) 3 (fun _ _ => rfl) ?_
                    exact q_Ru_ret rfl rfl
                  show q_Ru _ _ _ (48, [(3, .int 0), (0, .ref 64), (1, .int 3861), (2, .int v)], [], (q_cM A76 (q_uI q_IM 0 39 0) q_J0, 34, 31630)) _
                  refine q_Ru_seg (g2 := (49, [(3, .int 0), (0, .ref 64), (1, .int 3861), (2, .int v)], [.int 0], (q_cM A76 (q_uI q_IM 0 39 0) q_J0, 34, 31630))) 1 (fun _ _ => rfl) ?_
                  exact q_Ru_ret rfl rfl
              | 22, _, e249 =>
                have e249 : a = 3862 := e249
                subst e249
                obtain ⟨A77, I77, p77⟩ := q_p_write q_AX q_IX (40) (26520) 3862 v
                obtain ⟨A78, p78⟩ := q_p_writes q_AM (q_uI q_IM 0 39 0) (34) (31630) 3862 v (by decide) (by decide)
                refine ⟨0, 0, 0, ⟨(q_cX A77 I77 (q_uA q_J0 39 (vp_updL (fun _ => 0) 0 0)), 40, 26520), (q_uA q_J0 39 (vp_updL (fun _ => 0) 0 0)) 39, ?_, rfl, fun _ => rfl, Nat.le_of_ble_eq_true rfl, Nat.le_of_ble_eq_true rfl⟩, ⟨(q_cM A78 (q_uI q_IM 0 39 0) q_J0, 34, 31630), _, ?_, rfl, rfl, Nat.le_of_ble_eq_true rfl, Nat.le_of_ble_eq_true rfl⟩, fun _ => rfl⟩
                · refine q_Ca_of (Nat.le_of_ble_eq_true rfl) ?_
                  refine q_Ru_seg (g2 := (5, [(0, .ref 64), (1, .int 3862), (2, .int v), (3, .ref 103)], [.int v, .int 3862, .ref 64, .int 0, .ref 103], (q_cX q_AX q_IX q_J0, 40, 26520))) 5 (fun _ _ => rfl) ?_
                  refine q_Ru_call (v := (some (.int 0))) (h2 := (q_cX A77 I77 q_J0, 40, 26520)) rfl rfl ?_ ?_
                  · refine q_Ca_of (Nat.le_of_ble_eq_true rfl) ?_
                    refine q_Ru_seg (g2 := (1, [(0, .ref 64), (1, .int 3862), (2, .int v)], [.int 3862], (q_cX q_AX q_IX q_J0, 40, 26520))) 1 (fun _ _ => rfl) ?_
                    refine q_Ru_call (v := none) (h2 := (q_cX q_AX q_IX q_J0, 40, 26520)) rfl rfl ?_ ?_
                    · refine q_Ca_of (Nat.le_of_ble_eq_true rfl) ?_
                      refine q_Ru_seg (g2 := (4, [(0, .int 3862)], [.int 4096, .int 3862], (q_cX q_AX q_IX q_J0, 40, 26520))) 2 (fun _ _ => rfl) ?_
                      refine q_Ru_call (v := none) (h2 := (q_cX q_AX q_IX q_J0, 40, 26520)) rfl rfl ?_ ?_
                      · refine q_Ca_of (Nat.le_of_ble_eq_true rfl) ?_
                        refine q_Ru_seg (g2 := (19, [(0, .int 3862), (1, .int 4096)], [], (q_cX q_AX q_IX q_J0, 40, 26520))) 5 (fun _ _ => rfl) ?_
                        exact q_Ru_ret rfl rfl
                      show q_Ru _ _ _ (7, [(0, .int 3862)], [], (q_cX q_AX q_IX q_J0, 40, 26520)) _
                      exact q_Ru_ret rfl rfl
                    show q_Ru _ _ _ (4, [(0, .ref 64), (1, .int 3862), (2, .int v)], [], (q_cX q_AX q_IX q_J0, 40, 26520)) _
                    refine q_Ru_seg (g2 := (5, [(0, .ref 64), (1, .int 3862), (2, .int v)], [.int v], (q_cX q_AX q_IX q_J0, 40, 26520))) 1 (fun _ _ => rfl) ?_
                    refine q_Ru_call (v := none) (h2 := (q_cX q_AX q_IX q_J0, 40, 26520)) rfl rfl ?_ ?_
                    · refine q_Ca_of (Nat.le_of_ble_eq_true rfl) ?_
                      refine q_Ru_seg (g2 := (5, [(0, .int v)], [.int 255, .int 0, .int v], (q_cX q_AX q_IX q_J0, 40, 26520))) 3 (fun _ _ => rfl) ?_
                      refine q_Ru_call (v := none) (h2 := (q_cX q_AX q_IX q_J0, 40, 26520)) rfl rfl ?_ ?_
                      · refine q_Ca_of (Nat.le_of_ble_eq_true rfl) ?_
                        refine q_Ru_seg (g2 := (2, [(0, .int v), (1, .int 0), (2, .int 255)], [.int 0, .int v], (q_cX q_AX q_IX q_J0, 40, 26520))) 2 (fun _ _ => rfl) ?_
                        refine q_Ru_rsF (g2 := (5, [(0, .int v), (1, .int 0), (2, .int 255)], [], (q_cX q_AX q_IX q_J0, 40, 26520))) rfl rfl h233 ?_
                        refine q_Ru_seg (g2 := (7, [(0, .int v), (1, .int 0), (2, .int 255)], [.int 255, .int v], (q_cX q_AX q_IX q_J0, 40, 26520))) 2 (fun _ _ => rfl) ?_
                        refine q_Ru_rsT (g2 := (20, [(0, .int v), (1, .int 0), (2, .int 255)], [], (q_cX q_AX q_IX q_J0, 40, 26520))) rfl rfl (q_d_geF h235) ?_
                        exact q_Ru_ret rfl rfl
                      show q_Ru _ _ _ (8, [(0, .int v)], [], (q_cX q_AX q_IX q_J0, 40, 26520)) _
                      exact q_Ru_ret rfl rfl
                    show q_Ru _ _ _ (8, [(0, .ref 64), (1, .int 3862), (2, .int v)], [], (q_cX q_AX q_IX q_J0, 40, 26520)) _
                    refine q_Ru_seg (g2 := (13, [(0, .ref 64), (1, .int 3862), (2, .int v)], [.int 0, .int v, .int 3862, .int 0, .ref 64], (q_cX q_AX q_IX q_J0, 40, 26520))) 5 (fun _ _ => rfl) ?_
                    refine q_Ru_call (v := none) (h2 := (q_cX q_AX q_IX q_J0, 40, 26520)) rfl rfl ?_ ?_
                    · refine q_Ca_of (Nat.le_of_ble_eq_true rfl) ?_
                      refine q_Ru_seg (g2 := (19, [(0, .ref 64), (1, .int 0), (2, .int 3862), (3, .int v), (4, .int 0)], [], (q_cX q_AX q_IX q_J0, 40, 26520))) 3 (fun _ _ => rfl) ?_
                      exact q_Ru_ret rfl rfl
                    show q_Ru _ _ _ (16, [(0, .ref 64), (1, .int 3862), (2, .int v)], [], (q_cX q_AX q_IX q_J0, 40, 26520)) _
                    refine q_Ru_seg (g2 := (24, [(0, .ref 64), (1, .int 3862), (2, .int v)], [.int 0, .int v, .int 3862, .int 0, .ref 65], (q_cX q_AX q_IX q_J0, 40, 26520))) 6 (fun _ _ => rfl) ?_
                    refine q_Ru_call (v := (some (.int 0))) (h2 := (q_cX A77 I77 q_J0, 40, 26520)) rfl rfl ?_ ?_
                    · refine q_Ca_of (Nat.le_of_ble_eq_true rfl) ?_
                      refine q_Ru_seg (g2 := (74, [(0, .ref 65), (1, .int 0), (2, .int 3862), (3, .int v), (4, .int 0)], [.int v, .int 3862, .ref 66], (q_cX q_AX q_IX q_J0, 40, 26520))) 6 (fun _ _ => rfl) ?_
                      refine q_Ru_call (v := (some (.int 0))) (h2 := (q_cX A77 I77 q_J0, 40, 26520)) rfl rfl ?_ ?_
                      · refine q_Ca_of (Nat.le_of_ble_eq_true rfl) ?_
                        refine q_Ru_seg (g2 := (2, [(0, .ref 66), (1, .int 3862), (2, .int v)], [.int 3862, .ref 66], (q_cX q_AX q_IX q_J0, 40, 26520))) 2 (fun _ _ => rfl) ?_
                        refine q_Ru_call (v := (some (.int 0))) (h2 := (q_cX q_AX q_IX q_J0, 40, 26520)) rfl rfl ?_ ?_
                        · refine q_Ca_of (Nat.le_of_ble_eq_true rfl) ?_
                          refine q_Ru_seg (g2 := (27, [(2, .int 22), (0, .ref 66), (1, .int 3862)], [.int 0, .int 22, .ref 66], (q_cX q_AX q_IX q_J0, 40, 26520))) 16 (fun _ _ => rfl) ?_
                          refine q_Ru_call (v := (some (.int 0))) (h2 := (q_cX q_AX q_IX q_J0, 40, 26520)) rfl rfl ?_ ?_
                          · refine q_Ca_of (Nat.le_of_ble_eq_true rfl) ?_
                            refine q_Ru_seg (g2 := (183, [(0, .ref 66), (1, .int 22), (2, .int 0)], [.int 0], (q_cX q_AX q_IX q_J0, 40, 26520))) 3 (fun _ _ => rfl) ?_
                            exact q_Ru_ret rfl rfl
                          show q_Ru _ _ _ (30, [(2, .int 22), (0, .ref 66), (1, .int 3862)], [.int 0], (q_cX q_AX q_IX q_J0, 40, 26520)) _
                          exact q_Ru_ret rfl rfl
                        show q_Ru _ _ _ (5, [(0, .ref 66), (1, .int 3862), (2, .int v)], [.int 0], (q_cX q_AX q_IX q_J0, 40, 26520)) _
                        refine q_Ru_seg (g2 := (9, [(3, .int 0), (0, .ref 66), (1, .int 3862), (2, .int v)], [.int v, .int 3862, .ref 66], (q_cX q_AX q_IX q_J0, 40, 26520))) 4 (fun _ _ => rfl) ?_
                        refine q_Ru_call (v := none) (h2 := (q_cX A77 I77 q_J0, 40, 26520)) rfl rfl ?_ ?_
                        · exact p77.le (Nat.le_of_ble_eq_true rfl)
                        show q_Ru _ _ _ (12, [(3, .int 0), (0, .ref 66), (1, .int 3862), (2, .int v)], [], (q_cX A77 I77 q_J0, 40, 26520)) _
                        refine q_Ru_seg (g2 := (13, [(3, .int 0), (0, .ref 66), (1, .int 3862), (2, .int v)], [.int 0], (q_cX A77 I77 q_J0, 40, 26520))) 1 (fun _ _ => rfl) ?_
                        exact q_Ru_ret rfl rfl
                      show q_Ru _ _ _ (77, [(0, .ref 65), (1, .int 0), (2, .int 3862), (3, .int v), (4, .int 0)], [.int 0], (q_cX A77 I77 q_J0, 40, 26520)) _
                      exact q_Ru_ret rfl rfl
                    show q_Ru _ _ _ (27, [(0, .ref 64), (1, .int 3862), (2, .int v)], [.int 0], (q_cX A77 I77 q_J0, 40, 26520)) _
                    exact q_Ru_ret rfl rfl
                  show q_Ru _ _ _ (8, [(0, .ref 64), (1, .int 3862), (2, .int v), (3, .ref 103)], [.int 0, .int 0, .ref 103], (q_cX A77 I77 q_J0, 40, 26520)) _
                  refine q_Ru_seg (g2 := (22, [(0, .ref 64), (1, .int 3862), (2, .int v), (3, .ref 103)], [.int 0], (q_cX A77 I77 (q_uA q_J0 39 (vp_updL (fun _ => 0) 0 0)), 40, 26520))) 4 (fun _ _ => rfl) ?_
                  exact q_Ru_ret rfl rfl
                · refine q_Ca_of (Nat.le_of_ble_eq_true rfl) ?_
                  refine q_Ru_seg (g2 := (2, [(0, .ref 64), (1, .int 3862), (2, .int v)], [.int 3862, .ref 64], (q_cM q_AM q_IM q_J0, 34, 31630))) 2 (fun _ _ => rfl) ?_
                  refine q_Ru_call (v := (some (.int 0))) (h2 := (q_cM q_AM q_IM q_J0, 34, 31630)) rfl rfl ?_ ?_
                  · refine q_Ca_of (Nat.le_of_ble_eq_true rfl) ?_
                    refine q_Ru_seg (g2 := (5, [(0, .int 3862)], [.int 4095, .int 0, .int 3862], (q_cM q_AM q_IM q_J0, 34, 31630))) 3 (fun _ _ => rfl) ?_
                    refine q_Ru_call (v := (some (.int 1))) (h2 := (q_cM q_AM q_IM q_J0, 34, 31630)) rfl rfl ?_ ?_
                    · refine q_Ca_of (Nat.le_of_ble_eq_true rfl) ?_
                      refine q_Ru_seg (g2 := (15, [(0, .int 3862), (1, .int 0), (2, .int 4095)], [.int 1], (q_cM q_AM q_IM q_J0, 34, 31630))) 8 (fun _ _ => rfl) ?_
                      exact q_Ru_ret rfl rfl
                    show q_Ru _ _ _ (8, [(0, .int 3862)], [.int 1], (q_cM q_AM q_IM q_J0, 34, 31630)) _
                    refine q_Ru_seg (g2 := (16, [(0, .int 3862)], [.int 0], (q_cM q_AM q_IM q_J0, 34, 31630))) 2 (fun _ _ => rfl) ?_
                    exact q_Ru_ret rfl rfl
                  show q_Ru _ _ _ (5, [(0, .ref 64), (1, .int 3862), (2, .int v)], [.int 0, .ref 64], (q_cM q_AM q_IM q_J0, 34, 31630)) _
                  refine q_Ru_seg (g2 := (13, [(0, .ref 64), (1, .int 3862), (2, .int v)], [.int v, .ref 64], (q_cM q_AM q_IM q_J0, 34, 31630))) 2 (fun _ _ => rfl) ?_
                  refine q_Ru_call (v := (some (.int 0))) (h2 := (q_cM q_AM q_IM q_J0, 34, 31630)) rfl rfl ?_ ?_
                  · refine q_Ca_of (Nat.le_of_ble_eq_true rfl) ?_
                    refine q_Ru_seg (g2 := (5, [(0, .int v)], [.int 255, .int 0, .int v], (q_cM q_AM q_IM q_J0, 34, 31630))) 3 (fun _ _ => rfl) ?_
                    refine q_Ru_call (v := (some (.int 1))) (h2 := (q_cM q_AM q_IM q_J0, 34, 31630)) rfl rfl ?_ ?_
                    · refine q_Ca_of (Nat.le_of_ble_eq_true rfl) ?_
                      refine q_Ru_seg (g2 := (2, [(0, .int v), (1, .int 0), (2, .int 255)], [.int 0, .int v], (q_cM q_AM q_IM q_J0, 34, 31630))) 2 (fun _ _ => rfl) ?_
                      refine q_Ru_rsF (g2 := (5, [(0, .int v), (1, .int 0), (2, .int 255)], [], (q_cM q_AM q_IM q_J0, 34, 31630))) rfl rfl h233 ?_
                      refine q_Ru_seg (g2 := (7, [(0, .int v), (1, .int 0), (2, .int 255)], [.int 255, .int v], (q_cM q_AM q_IM q_J0, 34, 31630))) 2 (fun _ _ => rfl) ?_
                      refine q_Ru_rsF (g2 := (10, [(0, .int v), (1, .int 0), (2, .int 255)], [], (q_cM q_AM q_IM q_J0, 34, 31630))) rfl rfl h235 ?_
                      refine q_Ru_seg (g2 := (15, [(0, .int v), (1, .int 0), (2, .int 255)], [.int 1], (q_cM q_AM q_IM q_J0, 34, 31630))) 2 (fun _ _ => rfl) ?_
                      exact q_Ru_ret rfl rfl
                    show q_Ru _ _ _ (8, [(0, .int v)], [.int 1], (q_cM q_AM q_IM q_J0, 34, 31630)) _
                    refine q_Ru_seg (g2 := (16, [(0, .int v)], [.int 0], (q_cM q_AM q_IM q_J0, 34, 31630))) 2 (fun _ _ => rfl) ?_
                    exact q_Ru_ret rfl rfl
                  show q_Ru _ _ _ (16, [(0, .ref 64), (1, .int 3862), (2, .int v)], [.int 0, .ref 64], (q_cM q_AM q_IM q_J0, 34, 31630)) _
                  refine q_Ru_seg (g2 := (24, [(0, .ref 64), (1, .int 3862), (2, .int v)], [.int 0, .ref 64], (q_cM q_AM q_IM q_J0, 34, 31630))) 2 (fun _ _ => rfl) ?_
                  refine q_Ru_call (v := (some (.int 0))) (h2 := (q_cM q_AM (q_uI q_IM 0 39 0) q_J0, 34, 31630)) rfl rfl ?_ ?_
                  · refine q_Ca_of (Nat.le_of_ble_eq_true rfl) ?_
                    refine q_Ru_seg (g2 := (14, [(0, .ref 64), (1, .int 0)], [.int 0], (q_cM q_AM (q_uI q_IM 0 39 0) q_J0, 34, 31630))) 6 (fun _ _ => rfl) ?_
                    exact q_Ru_ret rfl rfl
                  show q_Ru _ _ _ (27, [(0, .ref 64), (1, .int 3862), (2, .int v)], [.int 0], (q_cM q_AM (q_uI q_IM 0 39 0) q_J0, 34, 31630)) _
                  refine q_Ru_seg (g2 := (34, [(0, .ref 64), (1, .int 3862), (2, .int v)], [.int 3862, .ref 64], (q_cM q_AM (q_uI q_IM 0 39 0) q_J0, 34, 31630))) 3 (fun _ _ => rfl) ?_
                  refine q_Ru_call (v := (some (.int 0))) (h2 := (q_cM q_AM (q_uI q_IM 0 39 0) q_J0, 34, 31630)) rfl rfl ?_ ?_
                  · refine q_Ca_of (Nat.le_of_ble_eq_true rfl) ?_
                    refine q_Ru_seg (g2 := (7, [(0, .ref 64), (1, .int 3862)], [.int 3887, .int 3840, .int 3862], (q_cM q_AM (q_uI q_IM 0 39 0) q_J0, 34, 31630))) 3 (fun _ _ => rfl) ?_
                    refine q_Ru_call (v := (some (.int 1))) (h2 := (q_cM q_AM (q_uI q_IM 0 39 0) q_J0, 34, 31630)) rfl rfl ?_ ?_
                    · refine q_Ca_of (Nat.le_of_ble_eq_true rfl) ?_
                      refine q_Ru_seg (g2 := (15, [(0, .int 3862), (1, .int 3840), (2, .int 3887)], [.int 1], (q_cM q_AM (q_uI q_IM 0 39 0) q_J0, 34, 31630))) 8 (fun _ _ => rfl) ?_
                      exact q_Ru_ret rfl rfl
                    show q_Ru _ _ _ (10, [(0, .ref 64), (1, .int 3862)], [.int 1], (q_cM q_AM (q_uI q_IM 0 39 0) q_J0, 34, 31630)) _
                    refine q_Ru_seg (g2 := (19, [(0, .ref 64), (1, .int 3862)], [.int 22, .ref 64], (q_cM q_AM (q_uI q_IM 0 39 0) q_J0, 34, 31630))) 5 (fun _ _ => rfl) ?_
                    refine q_Ru_call (v := (some (.int 0))) (h2 := (q_cM q_AM (q_uI q_IM 0 39 0) q_J0, 34, 31630)) rfl rfl ?_ ?_
                    · refine q_Ca_of (Nat.le_of_ble_eq_true rfl) ?_
                      refine q_Ru_seg (g2 := (30, [(0, .ref 64), (1, .int 22)], [.int 15, .int 12, .int 22], (q_cM q_AM (q_uI q_IM 0 39 0) q_J0, 34, 31630))) 9 (fun _ _ => rfl) ?_
                      refine q_Ru_call (v := (some (.int 0))) (h2 := (q_cM q_AM (q_uI q_IM 0 39 0) q_J0, 34, 31630)) rfl rfl ?_ ?_
                      · refine q_Ca_of (Nat.le_of_ble_eq_true rfl) ?_
                        refine q_Ru_seg (g2 := (15, [(0, .int 22), (1, .int 12), (2, .int 15)], [.int 0], (q_cM q_AM (q_uI q_IM 0 39 0) q_J0, 34, 31630))) 7 (fun _ _ => rfl) ?_
                        exact q_Ru_ret rfl rfl
                      show q_Ru _ _ _ (33, [(0, .ref 64), (1, .int 22)], [.int 0], (q_cM q_AM (q_uI q_IM 0 39 0) q_J0, 34, 31630)) _
                      refine q_Ru_seg (g2 := (190, [(0, .ref 64), (1, .int 22)], [.int 0], (q_cM q_AM (q_uI q_IM 0 39 0) q_J0, 34, 31630))) 20 (fun _ _ => rfl) ?_
                      exact q_Ru_ret rfl rfl
                    show q_Ru _ _ _ (22, [(0, .ref 64), (1, .int 3862)], [.int 0], (q_cM q_AM (q_uI q_IM 0 39 0) q_J0, 34, 31630)) _
                    exact q_Ru_ret rfl rfl
                  show q_Ru _ _ _ (37, [(0, .ref 64), (1, .int 3862), (2, .int v)], [.int 0], (q_cM q_AM (q_uI q_IM 0 39 0) q_J0, 34, 31630)) _
                  refine q_Ru_seg (g2 := (41, [(3, .int 0), (0, .ref 64), (1, .int 3862), (2, .int v)], [.int v, .int 3862, .ref 64], (q_cM q_AM (q_uI q_IM 0 39 0) q_J0, 34, 31630))) 4 (fun _ _ => rfl) ?_
                  refine q_Ru_call (v := none) (h2 := (q_cM A78 (q_uI q_IM 0 39 0) q_J0, 34, 31630)) rfl rfl ?_ ?_
                  · exact p78.le (Nat.le_of_ble_eq_true rfl)
                  show q_Ru _ _ _ (44, [(3, .int 0), (0, .ref 64), (1, .int 3862), (2, .int v)], [], (q_cM A78 (q_uI q_IM 0 39 0) q_J0, 34, 31630)) _
                  refine q_Ru_seg (g2 := (45, [(3, .int 0), (0, .ref 64), (1, .int 3862), (2, .int v)], [.ref 64], (q_cM A78 (q_uI q_IM 0 39 0) q_J0, 34, 31630))) 1 (fun _ _ => rfl) ?_
                  refine q_Ru_call (v := none) (h2 := (q_cM A78 (q_uI q_IM 0 39 0) q_J0, 34, 31630)) rfl rfl ?_ ?_
                  · refine q_Ca_of (Nat.le_of_ble_eq_true rfl) ?_
                    refine q_Ru_seg (g2 := (17, [(0, .ref 64)], [], (q_cM A78 (q_uI q_IM 0 39 0) q_J0, 34, 31630))) 3 (fun _ _ => rfl) ?_
                    exact q_Ru_ret rfl rfl
                  show q_Ru _ _ _ (48, [(3, .int 0), (0, .ref 64), (1, .int 3862), (2, .int v)], [], (q_cM A78 (q_uI q_IM 0 39 0) q_J0, 34, 31630)) _
                  refine q_Ru_seg (g2 := (49, [(3, .int 0), (0, .ref 64), (1, .int 3862), (2, .int v)], [.int 0], (q_cM A78 (q_uI q_IM 0 39 0) q_J0, 34, 31630))) 1 (fun _ _ => rfl) ?_
                  exact q_Ru_ret rfl rfl
              | 23, _, e249 =>
                have e249 : a = 3863 := e249
                subst e249
                obtain ⟨A79, I79, p79⟩ := q_p_write q_AX q_IX (40) (26520) 3863 v
                obtain ⟨A80, p80⟩ := q_p_writes q_AM (q_uI q_IM 0 39 0) (34) (31630) 3863 v (by decide) (by decide)
                refine ⟨0, 0, 0, ⟨(q_cX A79 I79 (q_uA q_J0 39 (vp_updL (fun _ => 0) 0 0)), 40, 26520), (q_uA q_J0 39 (vp_updL (fun _ => 0) 0 0)) 39, ?_, rfl, fun _ => rfl, Nat.le_of_ble_eq_true rfl, Nat.le_of_ble_eq_true rfl⟩, ⟨(q_cM A80 (q_uI q_IM 0 39 0) q_J0, 34, 31630), _, ?_, rfl, rfl, Nat.le_of_ble_eq_true rfl, Nat.le_of_ble_eq_true rfl⟩, fun _ => rfl⟩
                · refine q_Ca_of (Nat.le_of_ble_eq_true rfl) ?_
                  refine q_Ru_seg (g2 := (5, [(0, .ref 64), (1, .int 3863), (2, .int v), (3, .ref 103)], [.int v, .int 3863, .ref 64, .int 0, .ref 103], (q_cX q_AX q_IX q_J0, 40, 26520))) 5 (fun _ _ => rfl) ?_
                  refine q_Ru_call (v := (some (.int 0))) (h2 := (q_cX A79 I79 q_J0, 40, 26520)) rfl rfl ?_ ?_
                  · refine q_Ca_of (Nat.le_of_ble_eq_true rfl) ?_
                    refine q_Ru_seg (g2 := (1, [(0, .ref 64), (1, .int 3863), (2, .int v)], [.int 3863], (q_cX q_AX q_IX q_J0, 40, 26520))) 1 (fun _ _ => rfl) ?_
                    refine q_Ru_call (v := none) (h2 := (q_cX q_AX q_IX q_J0, 40, 26520)) rfl rfl ?_ ?_
                    · refine q_Ca_of (Nat.le_of_ble_eq_true rfl) ?_
                      refine q_Ru_seg (g2 := (4, [(0, .int 3863)], [.int 4096, .int 3863], (q_cX q_AX q_IX q_J0, 40, 26520))) 2 (fun _ _ => rfl) ?_
                      refine q_Ru_call (v := none) (h2 := (q_cX q_AX q_IX q_J0, 40, 26520)) rfl rfl ?_ ?_
                      · refine q_Ca_of (Nat.le_of_ble_eq_true rfl) ?_
                        refine q_Ru_seg (g2 := (19, [(0, .int 3863), (1, .int 4096)], [], (q_cX q_AX q_IX q_J0, 40, 26520))) 5 (fun _ _ => rfl) ?_
                        exact q_Ru_ret rfl rfl
                      show q_Ru _ _ _ (7, [(0, .int 3863)], [], (q_cX q_AX q_IX q_J0, 40, 26520)) _
                      exact q_Ru_ret rfl rfl
                    show q_Ru _ _ _ (4, [(0, .ref 64), (1, .int 3863), (2, .int v)], [], (q_cX q_AX q_IX q_J0, 40, 26520)) _
                    refine q_Ru_seg (g2 := (5, [(0, .ref 64), (1, .int 3863), (2, .int v)], [.int v], (q_cX q_AX q_IX q_J0, 40, 26520))) 1 (fun _ _ => rfl) ?_
                    refine q_Ru_call (v := none) (h2 := (q_cX q_AX q_IX q_J0, 40, 26520)) rfl rfl ?_ ?_
                    · refine q_Ca_of (Nat.le_of_ble_eq_true rfl) ?_
                      refine q_Ru_seg (g2 := (5, [(0, .int v)], [.int 255, .int 0, .int v], (q_cX q_AX q_IX q_J0, 40, 26520))) 3 (fun _ _ => rfl) ?_
                      refine q_Ru_call (v := none) (h2 := (q_cX q_AX q_IX q_J0, 40, 26520)) rfl rfl ?_ ?_
                      · refine q_Ca_of (Nat.le_of_ble_eq_true rfl) ?_
                        refine q_Ru_seg (g2 := (2, [(0, .int v), (1, .int 0), (2, .int 255)], [.int 0, .int v], (q_cX q_AX q_IX q_J0, 40, 26520))) 2 (fun _ _ => rfl) ?_
                        refine q_Ru_rsF (g2 := (5, [(0, .int v), (1, .int 0), (2, .int 255)], [], (q_cX q_AX q_IX q_J0, 40, 26520))) rfl rfl h233 ?_
                        refine q_Ru_seg (g2 := (7, [(0, .int v), (1, .int 0), (2, .int 255)], [.int 255, .int v], (q_cX q_AX q_IX q_J0, 40, 26520))) 2 (fun _ _ => rfl) ?_
                        refine q_Ru_rsT (g2 := (20, [(0, .int v), (1, .int 0), (2, .int 255)], [], (q_cX q_AX q_IX q_J0, 40, 26520))) rfl rfl (q_d_geF h235) ?_
                        exact q_Ru_ret rfl rfl
                      show q_Ru _ _ _ (8, [(0, .int v)], [], (q_cX q_AX q_IX q_J0, 40, 26520)) _
                      exact q_Ru_ret rfl rfl
                    show q_Ru _ _ _ (8, [(0, .ref 64), (1, .int 3863), (2, .int v)], [], (q_cX q_AX q_IX q_J0, 40, 26520)) _
                    refine q_Ru_seg (g2 := (13, [(0, .ref 64), (1, .int 3863), (2, .int v)], [.int 0, .int v, .int 3863, .int 0, .ref 64], (q_cX q_AX q_IX q_J0, 40, 26520))) 5 (fun _ _ => rfl) ?_
                    refine q_Ru_call (v := none) (h2 := (q_cX q_AX q_IX q_J0, 40, 26520)) rfl rfl ?_ ?_
                    · refine q_Ca_of (Nat.le_of_ble_eq_true rfl) ?_
                      refine q_Ru_seg (g2 := (19, [(0, .ref 64), (1, .int 0), (2, .int 3863), (3, .int v), (4, .int 0)], [], (q_cX q_AX q_IX q_J0, 40, 26520))) 3 (fun _ _ => rfl) ?_
                      exact q_Ru_ret rfl rfl
                    show q_Ru _ _ _ (16, [(0, .ref 64), (1, .int 3863), (2, .int v)], [], (q_cX q_AX q_IX q_J0, 40, 26520)) _
                    refine q_Ru_seg (g2 := (24, [(0, .ref 64), (1, .int 3863), (2, .int v)], [.int 0, .int v, .int 3863, .int 0, .ref 65], (q_cX q_AX q_IX q_J0, 40, 26520))) 6 (fun _ _ => rfl) ?_
                    refine q_Ru_call (v := (some (.int 0))) (h2 := (q_cX A79 I79 q_J0, 40, 26520)) rfl rfl ?_ ?_
                    · refine q_Ca_of (Nat.le_of_ble_eq_true rfl) ?_
                      refine q_Ru_seg (g2 := (74, [(0, .ref 65), (1, .int 0), (2, .int 3863), (3, .int v), (4, .int 0)], [.int v, .int 3863, .ref 66], (q_cX q_AX q_IX q_J0, 40, 26520))) 6 (fun _ _ => rfl) ?_
                      refine q_Ru_call (v := (some (.int 0))) (h2 := (q_cX A79 I79 q_J0, 40, 26520)) rfl rfl ?_ ?_
                      · refine q_Ca_of (Nat.le_of_ble_eq_true rfl) ?_
                        refine q_Ru_seg (g2 := (2, [(0, .ref 66), (1, .int 3863), (2, .int v)], [.int 3863, .ref 66], (q_cX q_AX q_IX q_J0, 40, 26520))) 2 (fun _ _ => rfl) ?_
                        refine q_Ru_call (v := (some (.int 0))) (h2 := (q_cX q_AX q_IX q_J0, 40, 26520)) rfl rfl ?_ ?_
                        · refine q_Ca_of (Nat.le_of_ble_eq_true rfl) ?_
                          refine q_Ru_seg (g2 := (27, [(2, .int 23), (0, .ref 66), (1, .int 3863)], [.int 0, .int 23, .ref 66], (q_cX q_AX q_IX q_J0, 40, 26520))) 16 (fun _ _ => rfl) ?_
                          refine q_Ru_call (v := (some (.int 0))) (h2 := (q_cX q_AX q_IX q_J0, 40, 26520)) rfl rfl ?_ ?_
                          · refine q_Ca_of (Nat.le_of_ble_eq_true rfl) ?_
                            refine q_Ru_seg (g2 := (183, [(0, .ref 66), (1, .int 23), (2, .int 0)], [.int 0], (q_cX q_AX q_IX q_J0, 40, 26520))) 3 (fun _ _ => rfl) ?_
                            exact q_Ru_ret rfl rfl
                          show q_Ru _ _ _ (30, [(2, .int 23), (0, .ref 66), (1, .int 3863)], [.int 0], (q_cX q_AX q_IX q_J0, 40, 26520)) _
                          exact q_Ru_ret rfl rfl
                        show q_Ru _ _ _ (5, [(0, .ref 66), (1, .int 3863), (2, .int v)], [.int 0], (q_cX q_AX q_IX q_J0, 40, 26520)) _
                        refine q_Ru_seg (g2 := (9, [(3, .int 0), (0, .ref 66), (1, .int 3863), (2, .int v)], [.int v, .int 3863, .ref 66], (q_cX q_AX q_IX q_J0, 40, 26520))) 4 (fun _ _ => rfl) ?_
                        refine q_Ru_call (v := none) (h2 := (q_cX A79 I79 q_J0, 40, 26520)) rfl rfl ?_ ?_
                        · exact p79.le (Nat.le_of_ble_eq_true rfl)
                        show q_Ru _ _ _ (12, [(3, .int 0), (0, .ref 66), (1, .int 3863), (2, .int v)], [], (q_cX A79 I79 q_J0, 40, 26520)) _
                        refine q_Ru_seg (g2 := (13, [(3, .int 0), (0, .ref 66), (1, .int 3863), (2, .int v)], [.int 0], (q_cX A79 I79 q_J0, 40, 26520))) 1 (fun _ _ => rfl) ?_
                        exact q_Ru_ret rfl rfl
                      show q_Ru _ _ _ (77, [(0, .ref 65), (1, .int 0), (2, .int 3863), (3, .int v), (4, .int 0)], [.int 0], (q_cX A79 I79 q_J0, 40, 26520)) _
                      exact q_Ru_ret rfl rfl
                    show q_Ru _ _ _ (27, [(0, .ref 64), (1, .int 3863), (2, .int v)], [.int 0], (q_cX A79 I79 q_J0, 40, 26520)) _
                    exact q_Ru_ret rfl rfl
                  show q_Ru _ _ _ (8, [(0, .ref 64), (1, .int 3863), (2, .int v), (3, .ref 103)], [.int 0, .int 0, .ref 103], (q_cX A79 I79 q_J0, 40, 26520)) _
                  refine q_Ru_seg (g2 := (22, [(0, .ref 64), (1, .int 3863), (2, .int v), (3, .ref 103)], [.int 0], (q_cX A79 I79 (q_uA q_J0 39 (vp_updL (fun _ => 0) 0 0)), 40, 26520))) 4 (fun _ _ => rfl) ?_
                  exact q_Ru_ret rfl rfl
                · refine q_Ca_of (Nat.le_of_ble_eq_true rfl) ?_
                  refine q_Ru_seg (g2 := (2, [(0, .ref 64), (1, .int 3863), (2, .int v)], [.int 3863, .ref 64], (q_cM q_AM q_IM q_J0, 34, 31630))) 2 (fun _ _ => rfl) ?_
                  refine q_Ru_call (v := (some (.int 0))) (h2 := (q_cM q_AM q_IM q_J0, 34, 31630)) rfl rfl ?_ ?_
                  · refine q_Ca_of (Nat.le_of_ble_eq_true rfl) ?_
                    refine q_Ru_seg (g2 := (5, [(0, .int 3863)], [.int 4095, .int 0, .int 3863], (q_cM q_AM q_IM q_J0, 34, 31630))) 3 (fun _ _ => rfl) ?_
                    refine q_Ru_call (v := (some (.int 1))) (h2 := (q_cM q_AM q_IM q_J0, 34, 31630)) rfl rfl ?_ ?_
                    · refine q_Ca_of (Nat.le_of_ble_eq_true rfl) ?_
                      refine q_Ru_seg (g2 := (15, [(0, .int 3863), (1, .int 0), (2, .int 4095)], [.int 1], (q_cM q_AM q_IM q_J0, 34, 31630))) 8 (fun _ _ => rfl) ?_
                      exact q_Ru_ret rfl rfl
                    show q_Ru _ _ _ (8, [(0, .int 3863)], [.int 1], (q_cM q_AM q_IM q_J0, 34, 31630)) _
                    refine q_Ru_seg (g2 := (16, [(0, .int 3863)], [.int 0], (q_cM q_AM q_IM q_J0, 34, 31630))) 2 (fun _ _ => rfl) ?_
                    exact q_Ru_ret rfl rfl
                  show q_Ru _ _ _ (5, [(0, .ref 64), (1, .int 3863), (2, .int v)], [.int 0, .ref 64], (q_cM q_AM q_IM q_J0, 34, 31630)) _
                  refine q_Ru_seg (g2 := (13, [(0, .ref 64), (1, .int 3863), (2, .int v)], [.int v, .ref 64], (q_cM q_AM q_IM q_J0, 34, 31630))) 2 (fun _ _ => rfl) ?_
                  refine q_Ru_call (v := (some (.int 0))) (h2 := (q_cM q_AM q_IM q_J0, 34, 31630)) rfl rfl ?_ ?_
                  · refine q_Ca_of (Nat.le_of_ble_eq_true rfl) ?_
                    refine q_Ru_seg (g2 := (5, [(0, .int v)], [.int 255, .int 0, .int v], (q_cM q_AM q_IM q_J0, 34, 31630))) 3 (fun _ _ => rfl) ?_
                    refine q_Ru_call (v := (some (.int 1))) (h2 := (q_cM q_AM q_IM q_J0, 34, 31630)) rfl rfl ?_ ?_
                    · refine q_Ca_of (Nat.le_of_ble_eq_true rfl) ?_
                      refine q_Ru_seg (g2 := (2, [(0, .int v), (1, .int 0), (2, .int 255)], [.int 0, .int v], (q_cM q_AM q_IM q_J0, 34, 31630))) 2 (fun _ _ => rfl) ?_
                      refine q_Ru_rsF (g2 := (5, [(0, .int v), (1, .int 0), (2, .int 255)], [], (q_cM q_AM q_IM q_J0, 34, 31630))) rfl rfl h233 ?_
                      refine q_Ru_seg (g2 := (7, [(0, .int v), (1, .int 0), (2, .int 255)], [.int 255, .int v], (q_cM q_AM q_IM q_J0, 34, 31630))) 2 (fun _ _ => rfl) ?_
                      refine q_Ru_rsF (g2 := (10, [(0, .int v), (1, .int 0), (2, .int 255)], [], (q_cM q_AM q_IM q_J0, 34, 31630))) rfl rfl h235 ?_
                      refine q_Ru_seg (g2 := (15, [(0, .int v), (1, .int 0), (2, .int 255)], [.int 1], (q_cM q_AM q_IM q_J0, 34, 31630))) 2 (fun _ _ => rfl) ?_
                      exact q_Ru_ret rfl rfl
                    show q_Ru _ _ _ (8, [(0, .int v)], [.int 1], (q_cM q_AM q_IM q_J0, 34, 31630)) _
                    refine q_Ru_seg (g2 := (16, [(0, .int v)], [.int 0], (q_cM q_AM q_IM q_J0, 34, 31630))) 2 (fun _ _ => rfl) ?_
                    exact q_Ru_ret rfl rfl
                  show q_Ru _ _ _ (16, [(0, .ref 64), (1, .int 3863), (2, .int v)], [.int 0, .ref 64], (q_cM q_AM q_IM q_J0, 34, 31630)) _
                  refine q_Ru_seg (g2 := (24, [(0, .ref 64), (1, .int 3863), (2, .int v)], [.int 0, .ref 64], (q_cM q_AM q_IM q_J0, 34, 31630))) 2 (fun _ _ => rfl) ?_
                  refine q_Ru_call (v := (some (.int 0))) (h2 := (q_cM q_AM (q_uI q_IM 0 39 0) q_J0, 34, 31630)) rfl rfl ?_ ?_
                  · refine q_Ca_of (Nat.le_of_ble_eq_true rfl) ?_
                    refine q_Ru_seg (g2 := (14, [(0, .ref 64), (1, .int 0)], [.int 0], (q_cM q_AM (q_uI q_IM 0 39 0) q_J0, 34, 31630))) 6 (fun _ _ => rfl) ?_
                    exact q_Ru_ret rfl rfl
                  show q_Ru _ _ _ (27, [(0, .ref 64), (1, .int 3863), (2, .int v)], [.int 0], (q_cM q_AM (q_uI q_IM 0 39 0) q_J0, 34, 31630)) _
                  refine q_Ru_seg (g2 := (34, [(0, .ref 64), (1, .int 3863), (2, .int v)], [.int 3863, .ref 64], (q_cM q_AM (q_uI q_IM 0 39 0) q_J0, 34, 31630))) 3 (fun _ _ => rfl) ?_
                  refine q_Ru_call (v := (some (.int 0))) (h2 := (q_cM q_AM (q_uI q_IM 0 39 0) q_J0, 34, 31630)) rfl rfl ?_ ?_
                  · refine q_Ca_of (Nat.le_of_ble_eq_true rfl) ?_
                    refine q_Ru_seg (g2 := (7, [(0, .ref 64), (1, .int 3863)], [.int 3887, .int 3840, .int 3863], (q_cM q_AM (q_uI q_IM 0 39 0) q_J0, 34, 31630))) 3 (fun _ _ => rfl) ?_
                    refine q_Ru_call (v := (some (.int 1))) (h2 := (q_cM q_AM (q_uI q_IM 0 39 0) q_J0, 34, 31630)) rfl rfl ?_ ?_
                    · refine q_Ca_of (Nat.le_of_ble_eq_true rfl) ?_
                      refine q_Ru_seg (g2 := (15, [(0, .int 3863), (1, .int 3840), (2, .int 3887)], [.int 1], (q_cM q_AM (q_uI q_IM 0 39 0) q_J0, 34, 31630))) 8 (fun _ _ => rfl) ?_
                      exact q_Ru_ret rfl rfl
                    show q_Ru _ _ _ (10, [(0, .ref 64), (1, .int 3863)], [.int 1], (q_cM q_AM (q_uI q_IM 0 39 0) q_J0, 34, 31630)) _
                    refine q_Ru_seg (g2 := (19, [(0, .ref 64), (1, .int 3863)], [.int 23, .ref 64], (q_cM q_AM (q_uI q_IM 0 39 0) q_J0, 34, 31630))) 5 (fun _ _ => rfl) ?_
                    refine q_Ru_call (v := (some (.int 0))) (h2 := (q_cM q_AM (q_uI q_IM 0 39 0) q_J0, 34, 31630)) rfl rfl ?_ ?_
                    · refine q_Ca_of (Nat.le_of_ble_eq_true rfl) ?_
                      refine q_Ru_seg (g2 := (30, [(0, .ref 64), (1, .int 23)], [.int 15, .int 12, .int 23], (q_cM q_AM (q_uI q_IM 0 39 0) q_J0, 34, 31630))) 9 (fun _ _ => rfl) ?_
                      refine q_Ru_call (v := (some (.int 0))) (h2 := (q_cM q_AM (q_uI q_IM 0 39 0) q_J0, 34, 31630)) rfl rfl ?_ ?_
                      · refine q_Ca_of (Nat.le_of_ble_eq_true rfl) ?_
                        refine q_Ru_seg (g2 := (15, [(0, .int 23), (1, .int 12), (2, .int 15)], [.int 0], (q_cM q_AM (q_uI q_IM 0 39 0) q_J0, 34, 31630))) 7 (fun _ _ => rfl) ?_
                        exact q_Ru_ret rfl rfl
                      show q_Ru _ _ _ (33, [(0, .ref 64), (1, .int 23)], [.int 0], (q_cM q_AM (q_uI q_IM 0 39 0) q_J0, 34, 31630)) _
                      refine q_Ru_seg (g2 := (190, [(0, .ref 64), (1, .int 23)], [.int 0], (q_cM q_AM (q_uI q_IM 0 39 0) q_J0, 34, 31630))) 20 (fun _ _ => rfl) ?_
                      exact q_Ru_ret rfl rfl
                    show q_Ru _ _ _ (22, [(0, .ref 64), (1, .int 3863)], [.int 0], (q_cM q_AM (q_uI q_IM 0 39 0) q_J0, 34, 31630)) _
                    exact q_Ru_ret rfl rfl
                  show q_Ru _ _ _ (37, [(0, .ref 64), (1, .int 3863), (2, .int v)], [.int 0], (q_cM q_AM (q_uI q_IM 0 39 0) q_J0, 34, 31630)) _
                  refine q_Ru_seg (g2 := (41, [(3, .int 0), (0, .ref 64), (1, .int 3863), (2, .int v)], [.int v, .int 3863, .ref 64], (q_cM q_AM (q_uI q_IM 0 39 0) q_J0, 34, 31630))) 4 (fun _ _ => rfl) ?_
                  refine q_Ru_call (v := none) (h2 := (q_cM A80 (q_uI q_IM 0 39 0) q_J0, 34, 31630)) rfl rfl ?_ ?_
                  · exact p80.le (Nat.le_of_ble_eq_true rfl)
                  show q_Ru _ _ _ (44, [(3, .int 0), (0, .ref 64), (1, .int 3863), (2, .int v)], [], (q_cM A80 (q_uI q_IM 0 39 0) q_J0, 34, 31630)) _
                  refine q_Ru_seg (g2 := (45, [(3, .int 0), (0, .ref 64), (1, .int 3863), (2, .int v)], [.ref 64], (q_cM A80 (q_uI q_IM 0 39 0) q_J0, 34, 31630))) 1 (fun _ _ => rfl) ?_
                  refine q_Ru_call (v := none) (h2 := (q_cM A80 (q_uI q_IM 0 39 0) q_J0, 34, 31630)) rfl rfl ?_ ?_
                  · refine q_Ca_of (Nat.le_of_ble_eq_true rfl) ?_
                    refine q_Ru_seg (g2 := (17, [(0, .ref 64)], [], (q_cM A80 (q_uI q_IM 0 39 0) q_J0, 34, 31630))) 3 (fun _ _ => rfl) ?_
                    exact q_Ru_ret rfl rfl
                  show q_Ru _ _ _ (48, [(3, .int 0), (0, .ref 64), (1, .int 3863), (2, .int v)], [], (q_cM A80 (q_uI q_IM 0 39 0) q_J0, 34, 31630)) _
                  refine q_Ru_seg (g2 := (49, [(3, .int 0), (0, .ref 64), (1, .int 3863), (2, .int v)], [.int 0], (q_cM A80 (q_uI q_IM 0 39 0) q_J0, 34, 31630))) 1 (fun _ _ => rfl) ?_
                  exact q_Ru_ret rfl rfl
              | 24, _, e249 =>
                have e249 : a = 3864 := e249
                subst e249
                obtain ⟨A81, I81, p81⟩ := q_p_write q_AX q_IX (40) (26520) 3864 v
                obtain ⟨A82, p82⟩ := q_p_writes q_AM (q_uI q_IM 0 39 0) (34) (31630) 3864 v (by decide) (by decide)
                refine ⟨0, 0, 0, ⟨(q_cX A81 I81 (q_uA q_J0 39 (vp_updL (fun _ => 0) 0 0)), 40, 26520), (q_uA q_J0 39 (vp_updL (fun _ => 0) 0 0)) 39, ?_, rfl, fun _ => rfl, Nat.le_of_ble_eq_true rfl, Nat.le_of_ble_eq_true rfl⟩, ⟨(q_cM A82 (q_uI q_IM 0 39 0) q_J0, 34, 31630), _, ?_, rfl, rfl, Nat.le_of_ble_eq_true rfl, Nat.le_of_ble_eq_true rfl⟩, fun _ => rfl⟩
                · refine q_Ca_of (Nat.le_of_ble_eq_true rfl) ?_
                  refine q_Ru_seg (g2 := (5, [(0, .ref 64), (1, .int 3864), (2, .int v), (3, .ref 103)], [.int v, .int 3864, .ref 64, .int 0, .ref 103], (q_cX q_AX q_IX q_J0, 40, 26520))) 5 (fun _ _ => rfl) ?_
                  refine q_Ru_call (v := (some (.int 0))) (h2 := (q_cX A81 I81 q_J0, 40, 26520)) rfl rfl ?_ ?_
                  · refine q_Ca_of (Nat.le_of_ble_eq_true rfl) ?_
                    refine q_Ru_seg (g2 := (1, [(0, .ref 64), (1, .int 3864), (2, .int v)], [.int 3864], (q_cX q_AX q_IX q_J0, 40, 26520))) 1 (fun _ _ => rfl) ?_
                    refine q_Ru_call (v := none) (h2 := (q_cX q_AX q_IX q_J0, 40, 26520)) rfl rfl ?_ ?_
                    · refine q_Ca_of (Nat.le_of_ble_eq_true rfl) ?_
                      refine q_Ru_seg (g2 := (4, [(0, .int 3864)], [.int 4096, .int 3864], (q_cX q_AX q_IX q_J0, 40, 26520))) 2 (fun _ _ => rfl) ?_
                      refine q_Ru_call (v := none) (h2 := (q_cX q_AX q_IX q_J0, 40, 26520)) rfl rfl ?_ ?_
                      · refine q_Ca_of (Nat.le_of_ble_eq_true rfl) ?_
                        refine q_Ru_seg (g2 := (19, [(0, .int 3864), (1, .int 4096)], [], (q_cX q_AX q_IX q_J0, 40, 26520))) 5 (fun _ _ => rfl) ?_
                        exact q_Ru_ret rfl rfl
                      show q_Ru _ _ _ (7, [(0, .int 3864)], [], (q_cX q_AX q_IX q_J0, 40, 26520)) _
                      exact q_Ru_ret rfl rfl
                    show q_Ru _ _ _ (4, [(0, .ref 64), (1, .int 3864), (2, .int v)], [], (q_cX q_AX q_IX q_J0, 40, 26520)) _
                    refine q_Ru_seg (g2 := (5, [(0, .ref 64), (1, .int 3864), (2, .int v)], [.int v], (q_cX q_AX q_IX q_J0, 40, 26520))) 1 (fun _ _ => rfl) ?_
                    refine q_Ru_call (v := none) (h2 := (q_cX q_AX q_IX q_J0, 40, 26520)) rfl rfl ?_ ?_
                    · refine q_Ca_of (Nat.le_of_ble_eq_true rfl) ?_
                      refine q_Ru_seg (g2 := (5, [(0, .int v)], [.int 255, .int 0, .int v], (q_cX q_AX q_IX q_J0, 40, 26520))) 3 (fun _ _ => rfl) ?_
                      refine q_Ru_call (v := none) (h2 := (q_cX q_AX q_IX q_J0, 40, 26520)) rfl rfl ?_ ?_
                      · refine q_Ca_of (Nat.le_of_ble_eq_true rfl) ?_
                        refine q_Ru_seg (g2 := (2, [(0, .int v), (1, .int 0), (2, .int 255)], [.int 0, .int v], (q_cX q_AX q_IX q_J0, 40, 26520))) 2 (fun _ _ => rfl) ?_
                        refine q_Ru_rsF (g2 := (5, [(0, .int v), (1, .int 0), (2, .int 255)], [], (q_cX q_AX q_IX q_J0, 40, 26520))) rfl rfl h233 ?_
                        refine q_Ru_seg (g2 := (7, [(0, .int v), (1, .int 0), (2, .int 255)], [.int 255, .int v], (q_cX q_AX q_IX q_J0, 40, 26520))) 2 (fun _ _ => rfl) ?_
                        refine q_Ru_rsT (g2 := (20, [(0, .int v), (1, .int 0), (2, .int 255)], [], (q_cX q_AX q_IX q_J0, 40, 26520))) rfl rfl (q_d_geF h235) ?_
                        exact q_Ru_ret rfl rfl
                      show q_Ru _ _ _ (8, [(0, .int v)], [], (q_cX q_AX q_IX q_J0, 40, 26520)) _
                      exact q_Ru_ret rfl rfl
                    show q_Ru _ _ _ (8, [(0, .ref 64), (1, .int 3864), (2, .int v)], [], (q_cX q_AX q_IX q_J0, 40, 26520)) _
                    refine q_Ru_seg (g2 := (13, [(0, .ref 64), (1, .int 3864), (2, .int v)], [.int 0, .int v, .int 3864, .int 0, .ref 64], (q_cX q_AX q_IX q_J0, 40, 26520))) 5 (fun _ _ => rfl) ?_
                    refine q_Ru_call (v := none) (h2 := (q_cX q_AX q_IX q_J0, 40, 26520)) rfl rfl ?_ ?_
                    · refine q_Ca_of (Nat.le_of_ble_eq_true rfl) ?_
                      refine q_Ru_seg (g2 := (19, [(0, .ref 64), (1, .int 0), (2, .int 3864), (3, .int v), (4, .int 0)], [], (q_cX q_AX q_IX q_J0, 40, 26520))) 3 (fun _ _ => rfl) ?_
                      exact q_Ru_ret rfl rfl
                    show q_Ru _ _ _ (16, [(0, .ref 64), (1, .int 3864), (2, .int v)], [], (q_cX q_AX q_IX q_J0, 40, 26520)) _
                    refine q_Ru_seg (g2 := (24, [(0, .ref 64), (1, .int 3864), (2, .int v)], [.int 0, .int v, .int 3864, .int 0, .ref 65], (q_cX q_AX q_IX q_J0, 40, 26520))) 6 (fun _ _ => rfl) ?_
                    refine q_Ru_call (v := (some (.int 0))) (h2 := (q_cX A81 I81 q_J0, 40, 26520)) rfl rfl ?_ ?_
                    · refine q_Ca_of (Nat.le_of_ble_eq_true rfl) ?_
                      refine q_Ru_seg (g2 := (74, [(0, .ref 65), (1, .int 0), (2, .int 3864), (3, .int v), (4, .int 0)], [.int v, .int 3864, .ref 66], (q_cX q_AX q_IX q_J0, 40, 26520))) 6 (fun _ _ => rfl) ?_
                      refine q_Ru_call (v := (some (.int 0))) (h2 := (q_cX A81 I81 q_J0, 40, 26520)) rfl rfl ?_ ?_
                      · refine q_Ca_of (Nat.le_of_ble_eq_true rfl) ?_
                        refine q_Ru_seg (g2 := (2, [(0, .ref 66), (1, .int 3864), (2, .int v)], [.int 3864, .ref 66], (q_cX q_AX q_IX q_J0, 40, 26520))) 2 (fun _ _ => rfl) ?_
                        refine q_Ru_call (v := (some (.int 0))) (h2 := (q_cX q_AX q_IX q_J0, 40, 26520)) rfl rfl ?_ ?_
                        · refine q_Ca_of (Nat.le_of_ble_eq_true rfl) ?_
                          refine q_Ru_seg (g2 := (27, [(2, .int 24), (0, .ref 66), (1, .int 3864)], [.int 0, .int 24, .ref 66], (q_cX q_AX q_IX q_J0, 40, 26520))) 16 (fun _ _ => rfl) ?_
                          refine q_Ru_call (v := (some (.int 0))) (h2 := (q_cX q_AX q_IX q_J0, 40, 26520)) rfl rfl ?_ ?_
                          · refine q_Ca_of (Nat.le_of_ble_eq_true rfl) ?_
                            refine q_Ru_seg (g2 := (183, [(0, .ref 66), (1, .int 24), (2, .int 0)], [.int 0], (q_cX q_AX q_IX q_J0, 40, 26520))) 3 (fun _ _ => rfl) ?_
                            exact q_Ru_ret rfl rfl
                          show q_Ru _ _ _ (30, [(2, .int 24), (0, .ref 66), (1, .int 3864)], [.int 0], (q_cX q_AX q_IX q_J0, 40, 26520)) _
                          exact q_Ru_ret rfl rfl
                        show q_Ru _ _ _ (5, [(0, .ref 66), (1, .int 3864), (2, .int v)], [.int 0], (q_cX q_AX q_IX q_J0, 40, 26520)) _
                        refine q_Ru_seg (g2 := (9, [(3, .int 0), (0, .ref 66), (1, .int 3864), (2, .int v)], [.int v, .int 3864, .ref 66], (q_cX q_AX q_IX q_J0, 40, 26520))) 4 (fun _ _ => rfl) ?_
                        refine q_Ru_call (v := none) (h2 := (q_cX A81 I81 q_J0, 40, 26520)) rfl rfl ?_ ?_
                        · exact p81.le (Nat.le_of_ble_eq_true rfl)
                        show q_Ru _ _ _ (12, [(3, .int 0), (0, .ref 66), (1, .int 3864), (2, .int v)], [], (q_cX A81 I81 q_J0, 40, 26520)) _
                        refine q_Ru_seg (g2 := (13, [(3, .int 0), (0, .ref 66), (1, .int 3864), (2, .int v)], [.int 0], (q_cX A81 I81 q_J0, 40, 26520))) 1 (fun _ _ => rfl) ?_
                        exact q_Ru_ret rfl rfl
                      show q_Ru _ _ _ (77, [(0, .ref 65), (1, .int 0), (2, .int 3864), (3, .int v), (4, .int 0)], [.int 0], (q_cX A81 I81 q_J0, 40, 26520)) _
                      exact q_Ru_ret rfl rfl
                    show q_Ru _ _ _ (27, [(0, .ref 64), (1, .int 3864), (2, .int v)], [.int 0], (q_cX A81 I81 q_J0, 40, 26520)) _
                    exact q_Ru_ret rfl rfl
                  show q_Ru _ _ _ (8, [(0, .ref 64), (1, .int 3864), (2, .int v), (3, .ref 103)], [.int 0, .int 0, .ref 103], (q_cX A81 I81 q_J0, 40, 26520)) _
                  refine q_Ru_seg (g2 := (22, [(0, .ref 64), (1, .int 3864), (2, .int v), (3, .ref 103)], [.int 0], (q_cX A81 I81 (q_uA q_J0 39 (vp_updL (fun _ => 0) 0 0)), 40, 26520))) 4 (fun _ _ => rfl) ?_
                  exact q_Ru_ret rfl rfl
                · refine q_Ca_of (Nat.le_of_ble_eq_true rfl) ?_
                  refine q_Ru_seg (g2 := (2, [(0, .ref 64), (1, .int 3864), (2, .int v)], [.int 3864, .ref 64], (q_cM q_AM q_IM q_J0, 34, 31630))) 2 (fun _ _ => rfl) ?_
                  refine q_Ru_call (v := (some (.int 0))) (h2 := (q_cM q_AM q_IM q_J0, 34, 31630)) rfl rfl ?_ ?_
                  · refine q_Ca_of (Nat.le_of_ble_eq_true rfl) ?_
                    refine q_Ru_seg (g2 := (5, [(0, .int 3864)], [.int 4095, .int 0, .int 3864], (q_cM q_AM q_IM q_J0, 34, 31630))) 3 (fun _ _ => rfl) ?_
                    refine q_Ru_call (v := (some (.int 1))) (h2 := (q_cM q_AM q_IM q_J0, 34, 31630)) rfl rfl ?_ ?_
                    · refine q_Ca_of (Nat.le_of_ble_eq_true rfl) ?_
                      refine q_Ru_seg (g2 := (15, [(0, .int 3864), (1, .int 0), (2, .int 4095)], [.int 1], (q_cM q_AM q_IM q_J0, 34, 31630))) 8 (fun _ _ => rfl) ?_
                      exact q_Ru_ret rfl rfl
                    show q_Ru _ _ _ (8, [(0, .int 3864)], [.int 1], (q_cM q_AM q_IM q_J0, 34, 31630)) _
                    refine q_Ru_seg (g2 := (16, [(0, .int 3864)], [.int 0], (q_cM q_AM q_IM q_J0, 34, 31630))) 2 (fun _ _ => rfl) ?_
                    exact q_Ru_ret rfl rfl
                  show q_Ru _ _ _ (5, [(0, .ref 64), (1, .int 3864), (2, .int v)], [.int 0, .ref 64], (q_cM q_AM q_IM q_J0, 34, 31630)) _
                  refine q_Ru_seg (g2 := (13, [(0, .ref 64), (1, .int 3864), (2, .int v)], [.int v, .ref 64], (q_cM q_AM q_IM q_J0, 34, 31630))) 2 (fun _ _ => rfl) ?_
                  refine q_Ru_call (v := (some (.int 0))) (h2 := (q_cM q_AM q_IM q_J0, 34, 31630)) rfl rfl ?_ ?_
                  · refine q_Ca_of (Nat.le_of_ble_eq_true rfl) ?_
                    refine q_Ru_seg (g2 := (5, [(0, .int v)], [.int 255, .int 0, .int v], (q_cM q_AM q_IM q_J0, 34, 31630))) 3 (fun _ _ => rfl) ?_
                    refine q_Ru_call (v := (some (.int 1))) (h2 := (q_cM q_AM q_IM q_J0, 34, 31630)) rfl rfl ?_ ?_
                    · refine q_Ca_of (Nat.le_of_ble_eq_true rfl) ?_
                      refine q_Ru_seg (g2 := (2, [(0, .int v), (1, .int 0), (2, .int 255)], [.int 0, .int v], (q_cM q_AM q_IM q_J0, 34, 31630))) 2 (fun _ _ => rfl) ?_
                      refine q_Ru_rsF (g2 := (5, [(0, .int v), (1, .int 0), (2, .int 255)], [], (q_cM q_AM q_IM q_J0, 34, 31630))) rfl rfl h233 ?_
                      refine q_Ru_seg (g2 := (7, [(0, .int v), (1, .int 0), (2, .int 255)], [.int 255, .int v], (q_cM q_AM q_IM q_J0, 34, 31630))) 2 (fun _ _ => rfl) ?_
                      refine q_Ru_rsF (g2 := (10, [(0, .int v), (1, .int 0), (2, .int 255)], [], (q_cM q_AM q_IM q_J0, 34, 31630))) rfl rfl h235 ?_
                      refine q_Ru_seg (g2 := (15, [(0, .int v), (1, .int 0), (2, .int 255)], [.int 1], (q_cM q_AM q_IM q_J0, 34, 31630))) 2 (fun _ _ => rfl) ?_
                      exact q_Ru_ret rfl rfl
                    show q_Ru _ _ _ (8, [(0, .int v)], [.int 1], (q_cM q_AM q_IM q_J0, 34, 31630)) _
                    refine q_Ru_seg (g2 := (16, [(0, .int v)], [.int 0], (q_cM q_AM q_IM q_J0, 34, 31630))) 2 (fun _ _ => rfl) ?_
                    exact q_Ru_ret rfl rfl
                  show q_Ru _ _ _ (16, [(0, .ref 64), (1, .int 3864), (2, .int v)], [.int 0, .ref 64], (q_cM q_AM q_IM q_J0, 34, 31630)) _
                  refine q_Ru_seg (g2 := (24, [(0, .ref 64), (1, .int 3864), (2, .int v)], [.int 0, .ref 64], (q_cM q_AM q_IM q_J0, 34, 31630))) 2 (fun _ _ => rfl) ?_
                  refine q_Ru_call (v := (some (.int 0))) (h2 := (q_cM q_AM (q_uI q_IM 0 39 0) q_J0, 34, 31630)) rfl rfl ?_ ?_
                  · refine q_Ca_of (Nat.le_of_ble_eq_true rfl) ?_
                    refine q_Ru_seg (g2 := (14, [(0, .ref 64), (1, .int 0)], [.int 0], (q_cM q_AM (q_uI q_IM 0 39 0) q_J0, 34, 31630))) 6 (fun _ _ => rfl) ?_
                    exact q_Ru_ret rfl rfl
                  show q_Ru _ _ _ (27, [(0, .ref 64), (1, .int 3864), (2, .int v)], [.int 0], (q_cM q_AM (q_uI q_IM 0 39 0) q_J0, 34, 31630)) _
                  refine q_Ru_seg (g2 := (34, [(0, .ref 64), (1, .int 3864), (2, .int v)], [.int 3864, .ref 64], (q_cM q_AM (q_uI q_IM 0 39 0) q_J0, 34, 31630))) 3 (fun _ _ => rfl) ?_
                  refine q_Ru_call (v := (some (.int 0))) (h2 := (q_cM q_AM (q_uI q_IM 0 39 0) q_J0, 34, 31630)) rfl rfl ?_ ?_
                  · refine q_Ca_of (Nat.le_of_ble_eq_true rfl) ?_
                    refine q_Ru_seg (g2 := (7, [(0, .ref 64), (1, .int 3864)], [.int 3887, .int 3840, .int 3864], (q_cM q_AM (q_uI q_IM 0 39 0) q_J0, 34, 31630))) 3 (fun _ _ => rfl) ?_
                    refine q_Ru_call (v := (some (.int 1))) (h2 := (q_cM q_AM (q_uI q_IM 0 39 0) q_J0, 34, 31630)) rfl rfl ?_ ?_
                    · refine q_Ca_of (Nat.le_of_ble_eq_true rfl) ?_
                      refine q_Ru_seg (g2 := (15, [(0, .int 3864), (1, .int 3840), (2, .int 3887)], [.int 1], (q_cM q_AM (q_uI q_IM 0 39 0) q_J0, 34, 31630))) 8 (fun _ _ => rfl) ?_
                      exact q_Ru_ret rfl rfl
                    show q_Ru _ _ _ (10, [(0, .ref 64), (1, .int 3864)], [.int 1], (q_cM q_AM (q_uI q_IM 0 39 0) q_J0, 34, 31630)) _
                    refine q_Ru_seg (g2 := (19, [(0, .ref 64), (1, .int 3864)], [.int 24, .ref 64], (q_cM q_AM (q_uI q_IM 0 39 0) q_J0, 34, 31630))) 5 (fun _ _ => rfl) ?_
                    refine q_Ru_call (v := (some (.int 0))) (h2 := (q_cM q_AM (q_uI q_IM 0 39 0) q_J0, 34, 31630)) rfl rfl ?_ ?_
                    · refine q_Ca_of (Nat.le_of_ble_eq_true rfl) ?_
                      refine q_Ru_seg (g2 := (30, [(0, .ref 64), (1, .int 24)], [.int 15, .int 12, .int 24], (q_cM q_AM (q_uI q_IM 0 39 0) q_J0, 34, 31630))) 9 (fun _ _ => rfl) ?_
                      refine q_Ru_call (v := (some (.int 0))) (h2 := (q_cM q_AM (q_uI q_IM 0 39 0) q_J0, 34, 31630)) rfl rfl ?_ ?_
                      · refine q_Ca_of (Nat.le_of_ble_eq_true rfl) ?_
                        refine q_Ru_seg (g2 := (15, [(0, .int 24), (1, .int 12), (2, .int 15)], [.int 0], (q_cM q_AM (q_uI q_IM 0 39 0) q_J0, 34, 31630))) 7 (fun _ _ => rfl) ?_
                        exact q_Ru_ret rfl rfl
                      show q_Ru _ _ _ (33, [(0, .ref 64), (1, .int 24)], [.int 0], (q_cM q_AM (q_uI q_IM 0 39 0) q_J0, 34, 31630)) _
                      refine q_Ru_seg (g2 := (190, [(0, .ref 64), (1, .int 24)], [.int 0], (q_cM q_AM (q_uI q_IM 0 39 0) q_J0, 34, 31630))) 20 (fun _ _ => rfl) ?_
                      exact q_Ru_ret rfl rfl
                    show q_Ru _ _ _ (22, [(0, .ref 64), (1, .int 3864)], [.int 0], (q_cM q_AM (q_uI q_IM 0 39 0) q_J0, 34, 31630)) _
                    exact q_Ru_ret rfl rfl
                  show q_Ru _ _ _ (37, [(0, .ref 64), (1, .int 3864), (2, .int v)], [.int 0], (q_cM q_AM (q_uI q_IM 0 39 0) q_J0, 34, 31630)) _
                  refine q_Ru_seg (g2 := (41, [(3, .int 0), (0, .ref 64), (1, .int 3864), (2, .int v)], [.int v, .int 3864, .ref 64], (q_cM q_AM (q_uI q_IM 0 39 0) q_J0, 34, 31630))) 4 (fun _ _ => rfl) ?_
                  refine q_Ru_call (v := none) (h2 := (q_cM A82 (q_uI q_IM 0 39 0) q_J0, 34, 31630)) rfl rfl ?_ ?_
                  · exact p82.le (Nat.le_of_ble_eq_true rfl)
                  show q_Ru _ _ _ (44, [(3, .int 0), (0, .ref 64), (1, .int 3864), (2, .int v)], [], (q_cM A82 (q_uI q_IM 0 39 0) q_J0, 34, 31630)) _
                  refine q_Ru_seg (g2 := (45, [(3, .int 0), (0, .ref 64), (1, .int 3864), (2, .int v)], [.ref 64], (q_cM A82 (q_uI q_IM 0 39 0) q_J0, 34, 31630))) 1 (fun _ _ => rfl) ?_
                  refine q_Ru_call (v := none) (h2 := (q_cM A82 (q_uI q_IM 0 39 0) q_J0, 34, 31630)) rfl rfl ?_ ?_
                  · refine q_Ca_of (Nat.le_of_ble_eq_true rfl) ?_
                    refine q_Ru_seg (g2 := (17, [(0, .ref 64)], [], (q_cM A82 (q_uI q_IM 0 39 0) q_J0, 34, 31630))) 3 (fun _ _ => rfl) ?_
                    exact q_Ru_ret rfl rfl
                  show q_Ru _ _ _ (48, [(3, .int 0), (0, .ref 64), (1, .int 3864), (2, .int v)], [], (q_cM A82 (q_uI q_IM 0 39 0) q_J0, 34, 31630)) _
                  refine q_Ru_seg (g2 := (49, [(3, .int 0), (0, .ref 64), (1, .int 3864), (2, .int v)], [.int 0], (q_cM A82 (q_uI q_IM 0 39 0) q_J0, 34, 31630))) 1 (fun _ _ => rfl) ?_
                  exact q_Ru_ret rfl rfl
              | 25, _, e249 =>
                have e249 : a = 3865 := e249
                subst e249
                obtain ⟨A83, I83, p83⟩ := q_p_write q_AX q_IX (40) (26520) 3865 v
                obtain ⟨A84, p84⟩ := q_p_writes q_AM (q_uI q_IM 0 39 0) (34) (31630) 3865 v (by decide) (by decide)
                refine ⟨0, 0, 0, ⟨(q_cX A83 I83 (q_uA q_J0 39 (vp_updL (fun _ => 0) 0 0)), 40, 26520), (q_uA q_J0 39 (vp_updL (fun _ => 0) 0 0)) 39, ?_, rfl, fun _ => rfl, Nat.le_of_ble_eq_true rfl, Nat.le_of_ble_eq_true rfl⟩, ⟨(q_cM A84 (q_uI q_IM 0 39 0) q_J0, 34, 31630), _, ?_, rfl, rfl, Nat.le_of_ble_eq_true rfl, Nat.le_of_ble_eq_true rfl⟩, fun _ => rfl⟩
                · refine q_Ca_of (Nat.le_of_ble_eq_true rfl) ?_
                  refine q_Ru_seg (g2 := (5, [(0, .ref 64), (1, .int 3865), (2, .int v), (3, .ref 103)], [.int v, .int 3865, .ref 64, .int 0, .ref 103], (q_cX q_AX q_IX q_J0, 40, 26520))) 5 (fun _ _ => rfl) ?_
                  refine q_Ru_call (v := (some (.int 0))) (h2 := (q_cX A83 I83 q_J0, 40, 26520)) rfl rfl ?_ ?_
                  · refine q_Ca_of (Nat.le_of_ble_eq_true rfl) ?_
                    refine q_Ru_seg (g2 := (1, [(0, .ref 64), (1, .int 3865), (2, .int v)], [.int 3865], (q_cX q_AX q_IX q_J0, 40, 26520))) 1 (fun _ _ => rfl) ?_
                    refine q_Ru_call (v := none) (h2 := (q_cX q_AX q_IX q_J0, 40, 26520)) rfl rfl ?_ ?_
                    · refine q_Ca_of (Nat.le_of_ble_eq_true rfl) ?_
                      refine q_Ru_seg (g2 := (4, [(0, .int 3865)], [.int 4096, .int 3865], (q_cX q_AX q_IX q_J0, 40, 26520))) 2 (fun _ _ => rfl) ?_
                      refine q_Ru_call (v := none) (h2 := (q_cX q_AX q_IX q_J0, 40, 26520)) rfl rfl ?_ ?_
                      · refine q_Ca_of (Nat.le_of_ble_eq_true rfl) ?_
                        refine q_Ru_seg (g2 := (19, [(0, .int 3865), (1, .int 4096)], [], (q_cX q_AX q_IX q_J0, 40, 26520))) 5 (fun _ _ => rfl) ?_
                        exact q_Ru_ret rfl rfl
                      show q_Ru _ _ _ (7, [(0, .int 3865)], [], (q_cX q_AX q_IX q_J0, 40, 26520)) _
                      exact q_Ru_ret rfl rfl
                    show q_Ru _ _ _ (4, [(0, .ref 64), (1, .int 3865), (2, .int v)], [], (q_cX q_AX q_IX q_J0, 40, 26520)) _
                    refine q_Ru_seg (g2 := (5, [(0, .ref 64), (1, .int 3865), (2, .int v)], [.int v], (q_cX q_AX q_IX q_J0, 40, 26520))) 1 (fun _ _ => rfl) ?_
                    refine q_Ru_call (v := none) (h2 := (q_cX q_AX q_IX q_J0, 40, 26520)) rfl rfl ?_ ?_
                    · refine q_Ca_of (Nat.le_of_ble_eq_true rfl) ?_
                      refine q_Ru_seg (g2 := (5, [(0, .int v)], [.int 255, .int 0, .int v], (q_cX q_AX q_IX q_J0, 40, 26520))) 3 (fun _ _ => rfl) ?_
                      refine q_Ru_call (v := none) (h2 := (q_cX q_AX q_IX q_J0, 40, 26520)) rfl rfl ?_ ?_
                      · refine q_Ca_of (Nat.le_of_ble_eq_true rfl) ?_
                        refine q_Ru_seg (g2 := (2, [(0, .int v), (1, .int 0), (2, .int 255)], [.int 0, .int v], (q_cX q_AX q_IX q_J0, 40, 26520))) 2 (fun _ _ => rfl) ?_
                        refine q_Ru_rsF (g2 := (5, [(0, .int v), (1, .int 0), (2, .int 255)], [], (q_cX q_AX q_IX q_J0, 40, 26520))) rfl rfl h233 ?_
                        refine q_Ru_seg (g2 := (7, [(0, .int v), (1, .int 0), (2, .int 255)], [.int 255, .int v], (q_cX q_AX q_IX q_J0, 40, 26520))) 2 (fun _ _ => rfl) ?_
                        refine q_Ru_rsT (g2 := (20, [(0, .int v), (1, .int 0), (2, .int 255)], [], (q_cX q_AX q_IX q_J0, 40, 26520))) rfl rfl (q_d_geF h235) ?_
                        exact q_Ru_ret rfl rfl
                      show q_Ru _ _ _ (8, [(0, .int v)], [], (q_cX q_AX q_IX q_J0, 40, 26520)) _
                      exact q_Ru_ret rfl rfl
                    show q_Ru _ _ _ (8, [(0, .ref 64), (1, .int 3865), (2, .int v)], [], (q_cX q_AX q_IX q_J0, 40, 26520)) _
                    refine q_Ru_seg (g2 := (13, [(0, .ref 64), (1, .int 3865), (2, .int v)], [.int 0, .int v, .int 3865, .int 0, .ref 64], (q_cX q_AX q_IX q_J0, 40, 26520))) 5 (fun _ _ => rfl) ?_
                    refine q_Ru_call (v := none) (h2 := (q_cX q_AX q_IX q_J0, 40, 26520)) rfl rfl ?_ ?_
                    · refine q_Ca_of (Nat.le_of_ble_eq_true rfl) ?_
                      refine q_Ru_seg (g2 := (19, [(0, .ref 64), (1, .int 0), (2, .int 3865), (3, .int v), (4, .int 0)], [], (q_cX q_AX q_IX q_J0, 40, 26520))) 3 (fun _ _ => rfl) ?_
                      exact q_Ru_ret rfl rfl
                    show q_Ru _ _ _ (16, [(0, .ref 64), (1, .int 3865), (2, .int v)], [], (q_cX q_AX q_IX q_J0, 40, 26520)) _
                    refine q_Ru_seg (g2 := (24, [(0, .ref 64), (1, .int 3865), (2, .int v)], [.int 0, .int v, .int 3865, .int 0, .ref 65], (q_cX q_AX q_IX q_J0, 40, 26520))) 6 (fun _ _ => rfl) ?_
                    refine q_Ru_call (v := (some (.int 0))) (h2 := (q_cX A83 I83 q_J0, 40, 26520)) rfl rfl ?_ ?_
                    · refine q_Ca_of (Nat.le_of_ble_eq_true rfl) ?_
                      refine q_Ru_seg (g2 := (74, [(0, .ref 65), (1, .int 0), (2, .int 3865), (3, .int v), (4, .int 0)], [.int v, .int 3865, .ref 66], (q_cX q_AX q_IX q_J0, 40, 26520))) 6 (fun _ _ => rfl) ?_
                      refine q_Ru_call (v := (some (.int 0))) (h2 := (q_cX A83 I83 q_J0, 40, 26520)) rfl rfl ?_ ?_
                      · refine q_Ca_of (Nat.le_of_ble_eq_true rfl) ?_
                        refine q_Ru_seg (g2 := (2, [(0, .ref 66), (1, .int 3865), (2, .int v)], [.int 3865, .ref 66], (q_cX q_AX q_IX q_J0, 40, 26520))) 2 (fun _ _ => rfl) ?_
                        refine q_Ru_call (v := (some (.int 0))) (h2 := (q_cX q_AX q_IX q_J0, 40, 26520)) rfl rfl ?_ ?_
                        · refine q_Ca_of (Nat.le_of_ble_eq_true rfl) ?_
                          refine q_Ru_seg (g2 := (27, [(2, .int 25), (0, .ref 66), (1, .int 3865)], [.int 0, .int 25, .ref 66], (q_cX q_AX q_IX q_J0, 40, 26520))) 16 (fun _ _ => rfl) ?_
                          refine q_Ru_call (v := (some (.int 0))) (h2 := (q_cX q_AX q_IX q_J0, 40, 26520)) rfl rfl ?_ ?_
                          · refine q_Ca_of (Nat.le_of_ble_eq_true rfl) ?_
                            refine q_Ru_seg (g2 := (183, [(0, .ref 66), (1, .int 25), (2, .int 0)], [.int 0], (q_cX q_AX q_IX q_J0, 40, 26520))) 3 (fun _ _ => rfl) ?_
                            exact q_Ru_ret rfl rfl
                          show q_Ru _ _ _ (30, [(2, .int 25), (0, .ref 66), (1, .int 3865)], [.int 0], (q_cX q_AX q_IX q_J0, 40, 26520)) _
                          exact q_Ru_ret rfl rfl
                        show q_Ru _ _ _ (5, [(0, .ref 66), (1, .int 3865), (2, .int v)], [.int 0], (q_cX q_AX q_IX q_J0, 40, 26520)) _
                        refine q_Ru_seg (g2 := (9, [(3, .int 0), (0, .ref 66), (1, .int 3865), (2, .int v)], [.int v, .int 3865, .ref 66], (q_cX q_AX q_IX q_J0, 40, 26520))) 4 (fun _ _ => rfl) ?_
                        refine q_Ru_call (v := none) (h2 := (q_cX A83 I83 q_J0, 40, 26520)) rfl rfl ?_ ?_
                        · exact p83.le (Nat.le_of_ble_eq_true rfl)
                        show q_Ru _ _ _ (12, [(3, .int 0), (0, .ref 66), (1, .int 3865), (2, .int v)], [], (q_cX A83 I83 q_J0, 40, 26520)) _
                        refine q_Ru_seg (g2 := (13, [(3, .int 0), (0, .ref 66), (1, .int 3865), (2, .int v)], [.int 0], (q_cX A83 I83 q_J0, 40, 26520))) 1 (fun _ _ => rfl) ?_
                        exact q_Ru_ret rfl rfl
                      show q_Ru _ _ _ (77, [(0, .ref 65), (1, .int 0), (2, .int 3865), (3, .int v), (4, .int 0)], [.int 0], (q_cX A83 I83 q_J0, 40, 26520)) _
                      exact q_Ru_ret rfl rfl
                    show q_Ru _ _ _ (27, [(0, .ref 64), (1, .int 3865), (2, .int v)], [.int 0], (q_cX A83 I83 q_J0, 40, 26520)) _
                    exact q_Ru_ret rfl rfl
                  show q_Ru _ _ _ (8, [(0, .ref 64), (1, .int 3865), (2, .int v), (3, .ref 103)], [.int 0, .int 0, .ref 103], (q_cX A83 I83 q_J0, 40, 26520)) _
                  refine q_Ru_seg (g2 := (22, [(0, .ref 64), (1, .int 3865), (2, .int v), (3, .ref 103)], [.int 0], (q_cX A83 I83 (q_uA q_J0 39 (vp_updL (fun _ => 0) 0 0)), 40, 26520))) 4 (fun _ _ => rfl) ?_
                  exact q_Ru_ret rfl rfl
                · refine q_Ca_of (Nat.le_of_ble_eq_true rfl) ?_
                  refine q_Ru_seg (g2 := (2, [(0, .ref 64), (1, .int 3865), (2, .int v)], [.int 3865, .ref 64], (q_cM q_AM q_IM q_J0, 34, 31630))) 2 (fun _ _ => rfl) ?_
                  refine q_Ru_call (v := (some (.int 0))) (h2 := (q_cM q_AM q_IM q_J0, 34, 31630)) rfl rfl ?_ ?_
                  · refine q_Ca_of (Nat.le_of_ble_eq_true rfl) ?_
                    refine q_Ru_seg (g2 := (5, [(0, .int 3865)], [.int 4095, .int 0, .int 3865], (q_cM q_AM q_IM q_J0, 34, 31630))) 3 (fun _ _ => rfl) ?_
                    refine q_Ru_call (v := (some (.int 1))) (h2 := (q_cM q_AM q_IM q_J0, 34, 31630)) rfl rfl ?_ ?_
                    · refine q_Ca_of (Nat.le_of_ble_eq_true rfl) ?_
                      refine q_Ru_seg (g2 := (15, [(0, .int 3865), (1, .int 0), (2, .int 4095)], [.int 1], (q_cM q_AM q_IM q_J0, 34, 31630))) 8 (fun _ _ => rfl) ?_
                      exact q_Ru_ret rfl rfl
                    show q_Ru _ _ _ (8, [(0, .int 3865)], [.int 1], (q_cM q_AM q_IM q_J0, 34, 31630)) _
                    refine q_Ru_seg (g2 := (16, [(0, .int 3865)], [.int 0], (q_cM q_AM q_IM q_J0, 34, 31630))) 2 (fun _ _ => rfl) ?_
                    exact q_Ru_ret rfl rfl
                  show q_Ru _ _ _ (5, [(0, .ref 64), (1, .int 3865), (2, .int v)], [.int 0, .ref 64], (q_cM q_AM q_IM q_J0, 34, 31630)) _
                  refine q_Ru_seg (g2 := (13, [(0, .ref 64), (1, .int 3865), (2, .int v)], [.int v, .ref 64], (q_cM q_AM q_IM q_J0, 34, 31630))) 2 (fun _ _ => rfl) ?_
                  refine q_Ru_call (v := (some (.int 0))) (h2 := (q_cM q_AM q_IM q_J0, 34, 31630)) rfl rfl ?_ ?_
                  · refine q_Ca_of (Nat.le_of_ble_eq_true rfl) ?_
                    refine q_Ru_seg (g2 := (5, [(0, .int v)], [.int 255, .int 0, .int v], (q_cM q_AM q_IM q_J0, 34, 31630))) 3 (fun _ _ => rfl) ?_
                    refine q_Ru_call (v := (some (.int 1))) (h2 := (q_cM q_AM q_IM q_J0, 34, 31630)) rfl rfl ?_ ?_
                    · refine q_Ca_of (Nat.le_of_ble_eq_true rfl) ?_
                      refine q_Ru_seg (g2 := (2, [(0, .int v), (1, .int 0), (2, .int 255)], [.int 0, .int v], (q_cM q_AM q_IM q_J0, 34, 31630))) 2 (fun _ _ => rfl) ?_
                      refine q_Ru_rsF (g2 := (5, [(0, .int v), (1, .int 0), (2, .int 255)], [], (q_cM q_AM q_IM q_J0, 34, 31630))) rfl rfl h233 ?_
                      refine q_Ru_seg (g2 := (7, [(0, .int v), (1, .int 0), (2, .int 255)], [.int 255, .int v], (q_cM q_AM q_IM q_J0, 34, 31630))) 2 (fun _ _ => rfl) ?_
                      refine q_Ru_rsF (g2 := (10, [(0, .int v), (1, .int 0), (2, .int 255)], [], (q_cM q_AM q_IM q_J0, 34, 31630))) rfl rfl h235 ?_
                      refine q_Ru_seg (g2 := (15, [(0, .int v), (1, .int 0), (2, .int 255)], [.int 1], (q_cM q_AM q_IM q_J0, 34, 31630))) 2 (fun _ _ => rfl) ?_
                      exact q_Ru_ret rfl rfl
                    show q_Ru _ _ _ (8, [(0, .int v)], [.int 1], (q_cM q_AM q_IM q_J0, 34, 31630)) _
                    refine q_Ru_seg (g2 := (16, [(0, .int v)], [.int 0], (q_cM q_AM q_IM q_J0, 34, 31630))) 2 (fun _ _ => rfl) ?_
                    exact q_Ru_ret rfl rfl
                  show q_Ru _ _ _ (16, [(0, .ref 64), (1, .int 3865), (2, .int v)], [.int 0, .ref 64], (q_cM q_AM q_IM q_J0, 34, 31630)) _
                  refine q_Ru_seg (g2 := (24, [(0, .ref 64), (1, .int 3865), (2, .int v)], [.int 0, .ref 64], (q_cM q_AM q_IM q_J0, 34, 31630))) 2 (fun _ _ => rfl) ?_
                  refine q_Ru_call (v := (some (.int 0))) (h2 := (q_cM q_AM (q_uI q_IM 0 39 0) q_J0, 34, 31630)) rfl rfl ?_ ?_
                  · refine q_Ca_of (Nat.le_of_ble_eq_true rfl) ?_
                    refine q_Ru_seg (g2 := (14, [(0, .ref 64), (1, .int 0)], [.int 0], (q_cM q_AM (q_uI q_IM 0 39 0) q_J0, 34, 31630))) 6 (fun _ _ => rfl) ?_
                    exact q_Ru_ret rfl rfl
                  show q_Ru _ _ _ (27, [(0, .ref 64), (1, .int 3865), (2, .int v)], [.int 0], (q_cM q_AM (q_uI q_IM 0 39 0) q_J0, 34, 31630)) _
                  refine q_Ru_seg (g2 := (34, [(0, .ref 64), (1, .int 3865), (2, .int v)], [.int 3865, .ref 64], (q_cM q_AM (q_uI q_IM 0 39 0) q_J0, 34, 31630))) 3 (fun _ _ => rfl) ?_
                  refine q_Ru_call (v := (some (.int 0))) (h2 := (q_cM q_AM (q_uI q_IM 0 39 0) q_J0, 34, 31630)) rfl rfl ?_ ?_
                  · refine q_Ca_of (Nat.le_of_ble_eq_true rfl) ?_
                    refine q_Ru_seg (g2 := (7, [(0, .ref 64), (1, .int 3865)], [.int 3887, .int 3840, .int 3865], (q_cM q_AM (q_uI q_IM 0 39 0) q_J0, 34, 31630))) 3 (fun _ _ => rfl) ?_
                    refine q_Ru_call (v := (some (.int 1))) (h2 := (q_cM q_AM (q_uI q_IM 0 39 0) q_J0, 34, 31630)) rfl rfl ?_ ?_
                    · refine q_Ca_of (Nat.le_of_ble_eq_true rfl) ?_
                      refine q_Ru_seg (g2 := (15, [(0, .int 3865), (1, .int 3840), (2, .int 3887)], [.int 1], (q_cM q_AM (q_uI q_IM 0 39 0) q_J0, 34, 31630))) 8 (fun _ _ => rfl) ?_
                      exact q_Ru_ret rfl rfl
                    show q_Ru _ _ _ (10, [(0, .ref 64), (1, .int 3865)], [.int 1], (q_cM q_AM (q_uI q_IM 0 39 0) q_J0, 34, 31630)) _
                    refine q_Ru_seg (g2 := (19, [(0, .ref 64), (1, .int 3865)], [.int 25, .ref 64], (q_cM q_AM (q_uI q_IM 0 39 0) q_J0, 34, 31630))) 5 (fun _ _ => rfl) ?_
                    refine q_Ru_call (v := (some (.int 0))) (h2 := (q_cM q_AM (q_uI q_IM 0 39 0) q_J0, 34, 31630)) rfl rfl ?_ ?_
                    · refine q_Ca_of (Nat.le_of_ble_eq_true rfl) ?_
                      refine q_Ru_seg (g2 := (30, [(0, .ref 64), (1, .int 25)], [.int 15, .int 12, .int 25], (q_cM q_AM (q_uI q_IM 0 39 0) q_J0, 34, 31630))) 9 (fun _ _ => rfl) ?_
                      refine q_Ru_call (v := (some (.int 0))) (h2 := (q_cM q_AM (q_uI q_IM 0 39 0) q_J0, 34, 31630)) rfl rfl ?_ ?_
                      · refine q_Ca_of (Nat.le_of_ble_eq_true rfl) ?_
                        refine q_Ru_seg (g2 := (15, [(0, .int 25), (1, .int 12), (2, .int 15)], [.int 0], (q_cM q_AM (q_uI q_IM 0 39 0) q_J0, 34, 31630))) 7 (fun _ _ => rfl) ?_
                        exact q_Ru_ret rfl rfl
                      show q_Ru _ _ _ (33, [(0, .ref 64), (1, .int 25)], [.int 0], (q_cM q_AM (q_uI q_IM 0 39 0) q_J0, 34, 31630)) _
                      refine q_Ru_seg (g2 := (190, [(0, .ref 64), (1, .int 25)], [.int 0], (q_cM q_AM (q_uI q_IM 0 39 0) q_J0, 34, 31630))) 20 (fun _ _ => rfl) ?_
                      exact q_Ru_ret rfl rfl
                    show q_Ru _ _ _ (22, [(0, .ref 64), (1, .int 3865)], [.int 0], (q_cM q_AM (q_uI q_IM 0 39 0) q_J0, 34, 31630)) _
                    exact q_Ru_ret rfl rfl
                  show q_Ru _ _ _ (37, [(0, .ref 64), (1, .int 3865), (2, .int v)], [.int 0], (q_cM q_AM (q_uI q_IM 0 39 0) q_J0, 34, 31630)) _
                  refine q_Ru_seg (g2 := (41, [(3, .int 0), (0, .ref 64), (1, .int 3865), (2, .int v)], [.int v, .int 3865, .ref 64], (q_cM q_AM (q_uI q_IM 0 39 0) q_J0, 34, 31630))) 4 (fun _ _ => rfl) ?_
                  refine q_Ru_call (v := none) (h2 := (q_cM A84 (q_uI q_IM 0 39 0) q_J0, 34, 31630)) rfl rfl ?_ ?_
                  · exact p84.le (Nat.le_of_ble_eq_true rfl)
                  show q_Ru _ _ _ (44, [(3, .int 0), (0, .ref 64), (1, .int 3865), (2, .int v)], [], (q_cM A84 (q_uI q_IM 0 39 0) q_J0, 34, 31630)) _
                  refine q_Ru_seg (g2 := (45, [(3, .int 0), (0, .ref 64), (1, .int 3865), (2, .int v)], [.ref 64], (q_cM A84 (q_uI q_IM 0 39 0) q_J0, 34, 31630))) 1 (fun _ _ => rfl) ?_
                  refine q_Ru_call (v := none) (h2 := (q_cM A84 (q_uI q_IM 0 39 0) q_J0, 34, 31630)) rfl rfl ?_ ?_
                  · refine q_Ca_of (Nat.le_of_ble_eq_true rfl) ?_
                    refine q_Ru_seg (g2 := (17, [(0, .ref 64)], [], (q_cM A84 (q_uI q_IM 0 39 0) q_J0, 34, 31630))) 3 (fun _ _ => rfl) ?_
                    exact q_Ru_ret rfl rfl
                  show q_Ru _ _ _ (48, [(3, .int 0), (0, .ref 64), (1, .int 3865), (2, .int v)], [], (q_cM A84 (q_uI q_IM 0 39 0) q_J0, 34, 31630)) _
                  refine q_Ru_seg (g2 := (49, [(3, .int 0), (0, .ref 64), (1, .int 3865), (2, .int v)], [.int 0], (q_cM A84 (q_uI q_IM 0 39 0) q_J0, 34, 31630))) 1 (fun _ _ => rfl) ?_
                  exact q_Ru_ret rfl rfl
              | 26, _, e249 =>
                have e249 : a = 3866 := e249
                subst e249
                obtain ⟨A85, I85, p85⟩ := q_p_write q_AX q_IX (40) (26520) 3866 v
                obtain ⟨A86, p86⟩ := q_p_writes q_AM (q_uI q_IM 0 39 0) (34) (31630) 3866 v (by decide) (by decide)
                refine ⟨0, 0, 0, ⟨(q_cX A85 I85 (q_uA q_J0 39 (vp_updL (fun _ => 0) 0 0)), 40, 26520), (q_uA q_J0 39 (vp_updL (fun _ => 0) 0 0)) 39, ?_, rfl, fun _ => rfl, Nat.le_of_ble_eq_true rfl, Nat.le_of_ble_eq_true rfl⟩, ⟨(q_cM A86 (q_uI q_IM 0 39 0) q_J0, 34, 31630), _, ?_, rfl, rfl, Nat.le_of_ble_eq_true rfl, Nat.le_of_ble_eq_true rfl⟩, fun _ => rfl⟩
                · refine q_Ca_of (Nat.le_of_ble_eq_true rfl) ?_
                  refine q_Ru_seg (g2 := (5, [(0, .ref 64), (1, .int 3866), (2, .int v), (3, .ref 103)], [.int v, .int 3866, .ref 64, .int 0, .ref 103], (q_cX q_AX q_IX q_J0, 40, 26520))) 5 (fun _ _ => rfl) ?_
                  refine q_Ru_call (v := (some (.int 0))) (h2 := (q_cX A85 I85 q_J0, 40, 26520)) rfl rfl ?_ ?_
                  · refine q_Ca_of (Nat.le_of_ble_eq_true rfl) ?_
                    refine q_Ru_seg (g2 := (1, [(0, .ref 64), (1, .int 3866), (2, .int v)], [.int 3866], (q_cX q_AX q_IX q_J0, 40, 26520))) 1 (fun _ _ => rfl) ?_
                    refine q_Ru_call (v := none) (h2 := (q_cX q_AX q_IX q_J0, 40, 26520)) rfl rfl ?_ ?_
                    · refine q_Ca_of (Nat.le_of_ble_eq_true rfl) ?_
                      refine q_Ru_seg (g2 := (4, [(0, .int 3866)], [.int 4096, .int 3866], (q_cX q_AX q_IX q_J0, 40, 26520))) 2 (fun _ _ => rfl) ?_
                      refine q_Ru_call (v := none) (h2 := (q_cX q_AX q_IX q_J0, 40, 26520)) rfl rfl ?_ ?_
                      · refine q_Ca_of (Nat.le_of_ble_eq_true rfl) ?_
                        refine q_Ru_seg (g2 := (19, [(0, .int 3866), (1, .int 4096)], [], (q_cX q_AX q_IX q_J0, 40, 26520))) 5 (fun _ _ => rfl) ?_
                        exact q_Ru_ret rfl rfl
                      show q_Ru _ _ _ (7, [(0, .int 3866)], [], (q_cX q_AX q_IX q_J0, 40, 26520)) _
                      exact q_Ru_ret rfl rfl
                    show q_Ru _ _ _ (4, [(0, .ref 64), (1, .int 3866), (2, .int v)], [], (q_cX q_AX q_IX q_J0, 40, 26520)) _
                    refine q_Ru_seg (g2 := (5, [(0, .ref 64), (1, .int 3866), (2, .int v)], [.int v], (q_cX q_AX q_IX q_J0, 40, 26520))) 1 (fun _ _ => rfl) ?_
                    refine q_Ru_call (v := none) (h2 := (q_cX q_AX q_IX q_J0, 40, 26520)) rfl rfl ?_ ?_
                    · refine q_Ca_of (Nat.le_of_ble_eq_true rfl) ?_
                      refine q_Ru_seg (g2 := (5, [(0, .int v)], [.int 255, .int 0, .int v], (q_cX q_AX q_IX q_J0, 40, 26520))) 3 (fun _ _ => rfl) ?_
                      refine q_Ru_call (v := none) (h2 := (q_cX q_AX q_IX q_J0, 40, 26520)) rfl rfl ?_ ?_
                      · refine q_Ca_of (Nat.le_of_ble_eq_true rfl) ?_
                        refine q_Ru_seg (g2 := (2, [(0, .int v), (1, .int 0), (2, .int 255)], [.int 0, .int v], (q_cX q_AX q_IX q_J0, 40, 26520))) 2 (fun _ _ => rfl) ?_
                        refine q_Ru_rsF (g2 := (5, [(0, .int v), (1, .int 0), (2, .int 255)], [], (q_cX q_AX q_IX q_J0, 40, 26520))) rfl rfl h233 ?_
                        refine q_Ru_seg (g2 := (7, [(0, .int v), (1, .int 0), (2, .int 255)], [.int 255, .int v], (q_cX q_AX q_IX q_J0, 40, 26520))) 2 (fun _ _ => rfl) ?_
                        refine q_Ru_rsT (g2 := (20, [(0, .int v), (1, .int 0), (2, .int 255)], [], (q_cX q_AX q_IX q_J0, 40, 26520))) rfl rfl (q_d_geF h235) ?_
                        exact q_Ru_ret rfl rfl
                      show q_Ru _ _ _ (8, [(0, .int v)], [], (q_cX q_AX q_IX q_J0, 40, 26520)) _
                      exact q_Ru_ret rfl rfl
                    show q_Ru _ _ _ (8, [(0, .ref 64), (1, .int 3866), (2, .int v)], [], (q_cX q_AX q_IX q_J0, 40, 26520)) _
                    refine q_Ru_seg (g2 := (13, [(0, .ref 64), (1, .int 3866), (2, .int v)], [.int 0, .int v, .int 3866, .int 0, .ref 64], (q_cX q_AX q_IX q_J0, 40, 26520))) 5 (fun _ _ => rfl) ?_
                    refine q_Ru_call (v := none) (h2 := (q_cX q_AX q_IX q_J0, 40, 26520)) rfl rfl ?_ ?_
                    · refine q_Ca_of (Nat.le_of_ble_eq_true rfl) ?_
                      refine q_Ru_seg (g2 := (19, [(0, .ref 64), (1, .int 0), (2, .int 3866), (3, .int v), (4, .int 0)], [], (q_cX q_AX q_IX q_J0, 40, 26520))) 3 (fun _ _ => rfl) ?_
                      exact q_Ru_ret rfl rfl
                    show q_Ru _ _ _ (16, [(0, .ref 64), (1, .int 3866), (2, .int v)], [], (q_cX q_AX q_IX q_J0, 40, 26520)) _
                    refine q_Ru_seg (g2 := (24, [(0, .ref 64), (1, .int 3866), (2, .int v)], [.int 0, .int v, .int 3866, .int 0, .ref 65], (q_cX q_AX q_IX q_J0, 40, 26520))) 6 (fun _ _ => rfl) ?_
                    refine q_Ru_call (v := (some (.int 0))) (h2 := (q_cX A85 I85 q_J0, 40, 26520)) rfl rfl ?_ ?_
                    · refine q_Ca_of (Nat.le_of_ble_eq_true rfl) ?_
                      refine q_Ru_seg (g2 := (74, [(0, .ref 65), (1, .int 0), (2, .int 3866), (3, .int v), (4, .int 0)], [.int v, .int 3866, .ref 66], (q_cX q_AX q_IX q_J0, 40, 26520))) 6 (fun _ _ => rfl) ?_
                      refine q_Ru_call (v := (some (.int 0))) (h2 := (q_cX A85 I85 q_J0, 40, 26520)) rfl rfl ?_ ?_
                      · refine q_Ca_of (Nat.le_of_ble_eq_true rfl) ?_
                        refine q_Ru_seg (g2 := (2, [(0, .ref 66), (1, .int 3866), (2, .int v)], [.int 3866, .ref 66], (q_cX q_AX q_IX q_J0, 40, 26520))) 2 (fun _ _ => rfl) ?_
                        refine q_Ru_call (v := (some (.int 0))) (h2 := (q_cX q_AX q_IX q_J0, 40, 26520)) rfl rfl ?_ ?_
                        · refine q_Ca_of (Nat.le_of_ble_eq_true rfl) ?_
                          refine q_Ru_seg (g2 := (27, [(2, .int 26), (0, .ref 66), (1, .int 3866)], [.int 0, .int 26, .ref 66], (q_cX q_AX q_IX q_J0, 40, 26520))) 16 (fun _ _ => rfl) ?_
                          refine q_Ru_call (v := (some (.int 0))) (h2 := (q_cX q_AX q_IX q_J0, 40, 26520)) rfl rfl ?_ ?_
                          · refine q_Ca_of (Nat.le_of_ble_eq_true rfl) ?_
                            refine q_Ru_seg (g2 := (183, [(0, .ref 66), (1, .int 26), (2, .int 0)], [.int 0], (q_cX q_AX q_IX q_J0, 40, 26520))) 3 (fun _ _ => rfl) ?_
                            exact q_Ru_ret rfl rfl
                          show q_Ru _ _ _ (30, [(2, .int 26), (0, .ref 66), (1, .int 3866)], [.int 0], (q_cX q_AX q_IX q_J0, 40, 26520)) _
                          exact q_Ru_ret rfl rfl
                        show q_Ru _ _ _ (5, [(0, .ref 66), (1, .int 3866), (2, .int v)], [.int 0], (q_cX q_AX q_IX q_J0, 40, 26520)) _
                        refine q_Ru_seg (g2 := (9, [(3, .int 0), (0, .ref 66), (1, .int 3866), (2, .int v)], [.int v, .int 3866, .ref 66], (q_cX q_AX q_IX q_J0, 40, 26520))) 4 (fun _ _ => rfl) ?_
                        refine q_Ru_call (v := none) (h2 := (q_cX A85 I85 q_J0, 40, 26520)) rfl rfl ?_ ?_
                        · exact p85.le (Nat.le_of_ble_eq_true rfl)
                        show q_Ru _ _ _ (12, [(3, .int 0), (0, .ref 66), (1, .int 3866), (2, .int v)], [], (q_cX A85 I85 q_J0, 40, 26520)) _
                        refine q_Ru_seg (g2 := (13, [(3, .int 0), (0, .ref 66), (1, .int 3866), (2, .int v)], [.int 0], (q_cX A85 I85 q_J0, 40, 26520))) 1 (fun _ _ => rfl) ?_
                        exact q_Ru_ret rfl rfl
                      show q_Ru _ _ _ (77, [(0, .ref 65), (1, .int 0), (2, .int 3866), (3, .int v), (4, .int 0)], [.int 0], (q_cX A85 I85 q_J0, 40, 26520)) _
                      exact q_Ru_ret rfl rfl
                    show q_Ru _ _ _ (27, [(0, .ref 64), (1, .int 3866), (2, .int v)], [.int 0], (q_cX A85 I85 q_J0, 40, 26520)) _
                    exact q_Ru_ret rfl rfl
                  show q_Ru _ _ _ (8, [(0, .ref 64), (1, .int 3866), (2, .int v), (3, .ref 103)], [.int 0, .int 0, .ref 103], (q_cX A85 I85 q_J0, 40, 26520)) _
                  refine q_Ru_seg (g2 := (22, [(0, .ref 64), (1, .int 3866), (2, .int v), (3, .ref 103)], [.int 0], (q_cX A85 I85 (q_uA q_J0 39 (vp_updL (fun _ => 0) 0 0)), 40, 26520))) 4 (fun _ _ => rfl) ?_
                  exact q_Ru_ret rfl rfl
                · refine q_Ca_of (Nat.le_of_ble_eq_true rfl) ?_
                  refine q_Ru_seg (g2 := (2, [(0, .ref 64), (1, .int 3866), (2, .int v)], [.int 3866, .ref 64], (q_cM q_AM q_IM q_J0, 34, 31630))) 2 (fun _ _ => rfl) ?_
                  refine q_Ru_call (v := (some (.int 0))) (h2 := (q_cM q_AM q_IM q_J0, 34, 31630)) rfl rfl ?_ ?_
                  · refine q_Ca_of (Nat.le_of_ble_eq_true rfl) ?_
                    refine q_Ru_seg (g2 := (5, [(0, .int 3866)], [.int 4095, .int 0, .int 3866], (q_cM q_AM q_IM q_J0, 34, 31630))) 3 (fun _ _ => rfl) ?_
                    refine q_Ru_call (v := (some (.int 1))) (h2 := (q_cM q_AM q_IM q_J0, 34, 31630)) rfl rfl ?_ ?_
                    · refine q_Ca_of (Nat.le_of_ble_eq_true rfl) ?_
                      refine q_Ru_seg (g2 := (15, [(0, .int 3866), (1, .int 0), (2, .int 4095)], [.int 1], (q_cM q_AM q_IM q_J0, 34, 31630))) 8 (fun _ _ => rfl) ?_
                      exact q_Ru_ret rfl rfl
                    show q_Ru _ _ _ (8, [(0, .int 3866)], [.int 1], (q_cM q_AM q_IM q_J0, 34, 31630)) _
                    refine q_Ru_seg (g2 := (16, [(0, .int 3866)], [.int 0], (q_cM q_AM q_IM q_J0, 34, 31630))) 2 (fun _ _ => rfl) ?_
                    exact q_Ru_ret rfl rfl
                  show q_Ru _ _ _ (5, [(0, .ref 64), (1, .int 3866), (2, .int v)], [.int 0, .ref 64], (q_cM q_AM q_IM q_J0, 34, 31630)) _
                  refine q_Ru_seg (g2 := (13, [(0, .ref 64), (1, .int 3866), (2, .int v)], [.int v, .ref 64], (q_cM q_AM q_IM q_J0, 34, 31630))) 2 (fun _ _ => rfl) ?_
                  refine q_Ru_call (v := (some (.int 0))) (h2 := (q_cM q_AM q_IM q_J0, 34, 31630)) rfl rfl ?_ ?_
                  · refine q_Ca_of (Nat.le_of_ble_eq_true rfl) ?_
                    refine q_Ru_seg (g2 := (5, [(0, .int v)], [.int 255, .int 0, .int v], (q_cM q_AM q_IM q_J0, 34, 31630))) 3 (fun _ _ => rfl) ?_
                    refine q_Ru_call (v := (some (.int 1))) (h2 := (q_cM q_AM q_IM q_J0, 34, 31630)) rfl rfl ?_ ?_
                    · refine q_Ca_of (Nat.le_of_ble_eq_true rfl) ?_
                      refine q_Ru_seg (g2 := (2, [(0, .int v), (1, .int 0), (2, .int 255)], [.int 0, .int v], (q_cM q_AM q_IM q_J0, 34, 31630))) 2 (fun _ _ => rfl) ?_
                      refine q_Ru_rsF (g2 := (5, [(0, .int v), (1, .int 0), (2, .int 255)], [], (q_cM q_AM q_IM q_J0, 34, 31630))) rfl rfl h233 ?_
                      refine q_Ru_seg (g2 := (7, [(0, .int v), (1, .int 0), (2, .int 255)], [.int 255, .int v], (q_cM q_AM q_IM q_J0, 34, 31630))) 2 (fun _ _ => rfl) ?_
                      refine q_Ru_rsF (g2 := (10, [(0, .int v), (1, .int 0), (2, .int 255)], [], (q_cM q_AM q_IM q_J0, 34, 31630))) rfl rfl h235 ?_
                      refine q_Ru_seg (g2 := (15, [(0, .int v), (1, .int 0), (2, .int 255)], [.int 1], (q_cM q_AM q_IM q_J0, 34, 31630))) 2 (fun _ _ => rfl) ?_
                      exact q_Ru_ret rfl rfl
                    show q_Ru _ _ _ (8, [(0, .int v)], [.int 1], (q_cM q_AM q_IM q_J0, 34, 31630)) _
                    refine q_Ru_seg (g2 := (16, [(0, .int v)], [.int 0], (q_cM q_AM q_IM q_J0, 34, 31630))) 2 (fun _ _ => rfl) ?_
                    exact q_Ru_ret rfl rfl
                  show q_Ru _ _ _ (16, [(0, .ref 64), (1, .int 3866), (2, .int v)], [.int 0, .ref 64], (q_cM q_AM q_IM q_J0, 34, 31630)) _
                  refine q_Ru_seg (g2 := (24, [(0, .ref 64), (1, .int 3866), (2, .int v)], [.int 0, .ref 64], (q_cM q_AM q_IM q_J0, 34, 31630))) 2 (fun _ _ => rfl) ?_
                  refine q_Ru_call (v := (some (.int 0))) (h2 := (q_cM q_AM (q_uI q_IM 0 39 0) q_J0, 34, 31630)) rfl rfl ?_ ?_
                  · refine q_Ca_of (Nat.le_of_ble_eq_true rfl) ?_
                    refine q_Ru_seg (g2 := (14, [(0, .ref 64), (1, .int 0)], [.int 0], (q_cM q_AM (q_uI q_IM 0 39 0) q_J0, 34, 31630))) 6 (fun _ _ => rfl) ?_
                    exact q_Ru_ret rfl rfl
                  show q_Ru _ _ _ (27, [(0, .ref 64), (1, .int 3866), (2, .int v)], [.int 0], (q_cM q_AM (q_uI q_IM 0 39 0) q_J0, 34, 31630)) _
                  refine q_Ru_seg (g2 := (34, [(0, .ref 64), (1, .int 3866), (2, .int v)], [.int 3866, .ref 64], (q_cM q_AM (q_uI q_IM 0 39 0) q_J0, 34, 31630))) 3 (fun _ _ => rfl) ?_
                  refine q_Ru_call (v := (some (.int 0))) (h2 := (q_cM q_AM (q_uI q_IM 0 39 0) q_J0, 34, 31630)) rfl rfl ?_ ?_
                  · refine q_Ca_of (Nat.le_of_ble_eq_true rfl) ?_
                    refine q_Ru_seg (g2 := (7, [(0, .ref 64), (1, .int 3866)], [.int 3887, .int 3840, .int 3866], (q_cM q_AM (q_uI q_IM 0 39 0) q_J0, 34, 31630))) 3 (fun _ _ => rfl) ?_
                    refine q_Ru_call (v := (some (.int 1))) (h2 := (q_cM q_AM (q_uI q_IM 0 39 0) q_J0, 34, 31630)) rfl rfl ?_ ?_
                    · refine q_Ca_of (Nat.le_of_ble_eq_true rfl) ?_
                      refine q_Ru_seg (g2 := (15, [(0, .int 3866), (1, .int 3840), (2, .int 3887)], [.int 1], (q_cM q_AM (q_uI q_IM 0 39 0) q_J0, 34, 31630))) 8 (fun _ _ => rfl) ?_
                      exact q_Ru_ret rfl rfl
                    show q_Ru _ _ _ (10, [(0, .ref 64), (1, .int 3866)], [.int 1], (q_cM q_AM (q_uI q_IM 0 39 0) q_J0, 34, 31630)) _
                    refine q_Ru_seg (g2 := (19, [(0, .ref 64), (1, .int 3866)], [.int 26, .ref 64], (q_cM q_AM (q_uI q_IM 0 39 0) q_J0, 34, 31630))) 5 (fun _ _ => rfl) ?_
                    refine q_Ru_call (v := (some (.int 0))) (h2 := (q_cM q_AM (q_uI q_IM 0 39 0) q_J0, 34, 31630)) rfl rfl ?_ ?_
                    · refine q_Ca_of (Nat.le_of_ble_eq_true rfl) ?_
                      refine q_Ru_seg (g2 := (30, [(0, .ref 64), (1, .int 26)], [.int 15, .int 12, .int 26], (q_cM q_AM (q_uI q_IM 0 39 0) q_J0, 34, 31630))) 9 (fun _ _ => rfl) ?_
                      refine q_Ru_call (v := (some (.int 0))) (h2 := (q_cM q_AM (q_uI q_IM 0 39 0) q_J0, 34, 31630)) rfl rfl ?_ ?_
                      · refine q_Ca_of (Nat.le_of_ble_eq_true rfl) ?_
                        refine q_Ru_seg (g2 := (15, [(0, .int 26), (1, .int 12), (2, .int 15)], [.int 0], (q_cM q_AM (q_uI q_IM 0 39 0) q_J0, 34, 31630))) 7 (fun _ _ => rfl) ?_
                        exact q_Ru_ret rfl rfl
                      show q_Ru _ _ _ (33, [(0, .ref 64), (1, .int 26)], [.int 0], (q_cM q_AM (q_uI q_IM 0 39 0) q_J0, 34, 31630)) _
                      refine q_Ru_seg (g2 := (190, [(0, .ref 64), (1, .int 26)], [.int 0], (q_cM q_AM (q_uI q_IM 0 39 0) q_J0, 34, 31630))) 20 (fun _ _ => rfl) ?_
                      exact q_Ru_ret rfl rfl
                    show q_Ru _ _ _ (22, [(0, .ref 64), (1, .int 3866)], [.int 0], (q_cM q_AM (q_uI q_IM 0 39 0) q_J0, 34, 31630)) _
                    exact q_Ru_ret rfl rfl
                  show q_Ru _ _ _ (37, [(0, .ref 64), (1, .int 3866), (2, .int v)], [.int 0], (q_cM q_AM (q_uI q_IM 0 39 0) q_J0, 34, 31630)) _
                  refine q_Ru_seg (g2 := (41, [(3, .int 0), (0, .ref 64), (1, .int 3866), (2, .int v)], [.int v, .int 3866, .ref 64], (q_cM q_AM (q_uI q_IM 0 39 0) q_J0, 34, 31630))) 4 (fun _ _ => rfl) ?_
                  refine q_Ru_call (v := none) (h2 := (q_cM A86 (q_uI q_IM 0 39 0) q_J0, 34, 31630)) rfl rfl ?_ ?_
                  · exact p86.le (Nat.le_of_ble_eq_true rfl)
                  show q_Ru _ _ _ (44, [(3, .int 0), (0, .ref 64), (1, .int 3866), (2, .int v)], [], (q_cM A86 (q_uI q_IM 0 39 0) q_J0, 34, 31630)) _
                  refine q_Ru_seg (g2 := (45, [(3, .int 0), (0, .ref 64), (1, .int 3866), (2, .int v)], [.ref 64], (q_cM A86 (q_uI q_IM 0 39 0) q_J0, 34, 31630))) 1 (fun _ _ => rfl) ?_
                  refine q_Ru_call (v := none) (h2 := (q_cM A86 (q_uI q_IM 0 39 0) q_J0, 34, 31630)) rfl rfl ?_ ?_
                  · refine q_Ca_of (Nat.le_of_ble_eq_true rfl) ?_
                    refine q_Ru_seg (g2 := (17, [(0, .ref 64)], [], (q_cM A86 (q_uI q_IM 0 39 0) q_J0, 34, 31630))) 3 (fun _ _ => rfl) ?_
                    exact q_Ru_ret rfl rfl
                  show q_Ru _ _ _ (48, [(3, .int 0), (0, .ref 64), (1, .int 3866), (2, .int v)], [], (q_cM A86 (q_uI q_IM 0 39 0) q_J0, 34, 31630)) _
                  refine q_Ru_seg (g2 := (49, [(3, .int 0), (0, .ref 64), (1, .int 3866), (2, .int v)], [.int 0], (q_cM A86 (q_uI q_IM 0 39 0) q_J0, 34, 31630))) 1 (fun _ _ => rfl) ?_
                  exact q_Ru_ret rfl rfl
              | 27, _, e249 =>
                have e249 : a = 3867 := e249
                subst e249
                obtain ⟨A87, I87, p87⟩ := q_p_write q_AX q_IX (40) (26520) 3867 v
                obtain ⟨A88, p88⟩ := q_p_writes q_AM (q_uI q_IM 0 39 0) (34) (31630) 3867 v (by decide) (by decide)
                refine ⟨0, 0, 0, ⟨(q_cX A87 I87 (q_uA q_J0 39 (vp_updL (fun _ => 0) 0 0)), 40, 26520), (q_uA q_J0 39 (vp_updL (fun _ => 0) 0 0)) 39, ?_, rfl, fun _ => rfl, Nat.le_of_ble_eq_true rfl, Nat.le_of_ble_eq_true rfl⟩, ⟨(q_cM A88 (q_uI q_IM 0 39 0) q_J0, 34, 31630), _, ?_, rfl, rfl, Nat.le_of_ble_eq_true rfl, Nat.le_of_ble_eq_true rfl⟩, fun _ => rfl⟩
                · refine q_Ca_of (Nat.le_of_ble_eq_true rfl) ?_
                  refine q_Ru_seg (g2 := (5, [(0, .ref 64), (1, .int 3867), (2, .int v), (3, .ref 103)], [.int v, .int 3867, .ref 64, .int 0, .ref 103], (q_cX q_AX q_IX q_J0, 40, 26520))) 5 (fun _ _ => rfl) ?_
                  refine q_Ru_call (v := (some (.int 0))) (h2 := (q_cX A87 I87 q_J0, 40, 26520)) rfl rfl ?_ ?_
                  · refine q_Ca_of (Nat.le_of_ble_eq_true rfl) ?_
                    refine q_Ru_seg (g2 := (1, [(0, .ref 64), (1, .int 3867), (2, .int v)], [.int 3867], (q_cX q_AX q_IX q_J0, 40, 26520))) 1 (fun _ _ => rfl) ?_
                    refine q_Ru_call (v := none) (h2 := (q_cX q_AX q_IX q_J0, 40, 26520)) rfl rfl ?_ ?_
                    · refine q_Ca_of (Nat.le_of_ble_eq_true rfl) ?_
                      refine q_Ru_seg (g2 := (4, [(0, .int 3867)], [.int 4096, .int 3867], (q_cX q_AX q_IX q_J0, 40, 26520))) 2 (fun _ _ => rfl) ?_
                      refine q_Ru_call (v := none) (h2 := (q_cX q_AX q_IX q_J0, 40, 26520)) rfl rfl ?_ ?_
                      · refine q_Ca_of (Nat.le_of_ble_eq_true rfl) ?_
                        refine q_Ru_seg (g2 := (19, [(0, .int 3867), (1, .int 4096)], [], (q_cX q_AX q_IX q_J0, 40, 26520))) 5 (fun _ _ => rfl) ?_
                        exact q_Ru_ret rfl rfl
                      show q_Ru _ _ _ (7, [(0, .int 3867)], [], (q_cX q_AX q_IX q_J0, 40, 26520)) _
                      exact q_Ru_ret rfl rfl
                    show q_Ru _ _ _ (4, [(0, .ref 64), (1, .int 3867), (2, .int v)], [], (q_cX q_AX q_IX q_J0, 40, 26520)) _
                    refine q_Ru_seg (g2 := (5, [(0, .ref 64), (1, .int 3867), (2, .int v)], [.int v], (q_cX q_AX q_IX q_J0, 40, 26520))) 1 (fun _ _ => rfl) ?_
                    refine q_Ru_call (v := none) (h2 := (q_cX q_AX q_IX q_J0, 40, 26520)) rfl rfl ?_ ?_
                    · refine q_Ca_of (Nat.le_of_ble_eq_true rfl) ?_
                      refine q_Ru_seg (g2 := (5, [(0, .int v)], [.int 255, .int 0, .int v], (q_cX q_AX q_IX q_J0, 40, 26520))) 3 (fun _ _ => rfl) ?_
                      refine q_Ru_call (v := none) (h2 := (q_cX q_AX q_IX q_J0, 40, 26520)) rfl rfl ?_ ?_
                      · refine q_Ca_of (Nat.le_of_ble_eq_true rfl) ?_
                        refine q_Ru_seg (g2 := (2, [(0, .int v), (1, .int 0), (2, .int 255)], [.int 0, .int v], (q_cX q_AX q_IX q_J0, 40, 26520))) 2 (fun _ _ => rfl) ?_
                        refine q_Ru_rsF (g2 := (5, [(0, .int v), (1, .int 0), (2, .int 255)], [], (q_cX q_AX q_IX q_J0, 40, 26520))) rfl rfl h233 ?_
                        refine q_Ru_seg (g2 := (7, [(0, .int v), (1, .int 0), (2, .int 255)], [.int 255, .int v], (q_cX q_AX q_IX q_J0, 40, 26520))) 2 (fun _ _ => rfl) ?_
                        refine q_Ru_rsT (g2 := (20, [(0, .int v), (1, .int 0), (2, .int 255)], [], (q_cX q_AX q_IX q_J0, 40, 26520))) rfl rfl (q_d_geF h235) ?_
                        exact q_Ru_ret rfl rfl
                      show q_Ru _ _ _ (8, [(0, .int v)], [], (q_cX q_AX q_IX q_J0, 40, 26520)) _
                      exact q_Ru_ret rfl rfl
                    show q_Ru _ _ _ (8, [(0, .ref 64), (1, .int 3867), (2, .int v)], [], (q_cX q_AX q_IX q_J0, 40, 26520)) _
                    refine q_Ru_seg (g2 := (13, [(0, .ref 64), (1, .int 3867), (2, .int v)], [.int 0, .int v, .int 3867, .int 0, .ref 64], (q_cX q_AX q_IX q_J0, 40, 26520))) 5 (fun _ _ => rfl) ?_
                    refine q_Ru_call (v := none) (h2 := (q_cX q_AX q_IX q_J0, 40, 26520)) rfl rfl ?_ ?_
                    · refine q_Ca_of (Nat.le_of_ble_eq_true rfl) ?_
                      refine q_Ru_seg (g2 := (19, [(0, .ref 64), (1, .int 0), (2, .int 3867), (3, .int v), (4, .int 0)], [], (q_cX q_AX q_IX q_J0, 40, 26520))) 3 (fun _ _ => rfl) ?_
                      exact q_Ru_ret rfl rfl
                    show q_Ru _ _ _ (16, [(0, .ref 64), (1, .int 3867), (2, .int v)], [], (q_cX q_AX q_IX q_J0, 40, 26520)) _
                    refine q_Ru_seg (g2 := (24, [(0, .ref 64), (1, .int 3867), (2, .int v)], [.int 0, .int v, .int 3867, .int 0, .ref 65], (q_cX q_AX q_IX q_J0, 40, 26520))) 6 (fun _ _ => rfl) ?_
                    refine q_Ru_call (v := (some (.int 0))) (h2 := (q_cX A87 I87 q_J0, 40, 26520)) rfl rfl ?_ ?_
                    · refine q_Ca_of (Nat.le_of_ble_eq_true rfl) ?_
                      refine q_Ru_seg (g2 := (74, [(0, .ref 65), (1, .int 0), (2, .int 3867), (3, .int v), (4, .int 0)], [.int v, .int 3867, .ref 66], (q_cX q_AX q_IX q_J0, 40, 26520))) 6 (fun _ _ => rfl) ?_
                      refine q_Ru_call (v := (some (.int 0))) (h2 := (q_cX A87 I87 q_J0, 40, 26520)) rfl rfl ?_ ?_
                      · refine q_Ca_of (Nat.le_of_ble_eq_true rfl) ?_
                        refine q_Ru_seg (g2 := (2, [(0, .ref 66), (1, .int 3867), (2, .int v)], [.int 3867, .ref 66], (q_cX q_AX q_IX q_J0, 40, 26520))) 2 (fun _ _ => rfl) ?_
                        refine q_Ru_call (v := (some (.int 0))) (h2 := (q_cX q_AX q_IX q_J0, 40, 26520)) rfl rfl ?_ ?_
                        · refine q_Ca_of (Nat.le_of_ble_eq_true rfl) ?_
                          refine q_Ru_seg (g2 := (27, [(2, .int 27), (0, .ref 66), (1, .int 3867)], [.int 0, .int 27, .ref 66], (q_cX q_AX q_IX q_J0, 40, 26520))) 16 (fun _ _ => rfl) ?_
                          refine q_Ru_call (v := (some (.int 0))) (h2 := (q_cX q_AX q_IX q_J0, 40, 26520)) rfl rfl ?_ ?_
                          · refine q_Ca_of (Nat.le_of_ble_eq_true rfl) ?_
                            refine q_Ru_seg (g2 := (183, [(0, .ref 66), (1, .int 27), (2, .int 0)], [.int 0], (q_cX q_AX q_IX q_J0, 40, 26520))) 3 (fun _ _ => rfl) ?_
                            exact q_Ru_ret rfl rfl
                          show q_Ru _ _ _ (30, [(2, .int 27), (0, .ref 66), (1, .int 3867)], [.int 0], (q_cX q_AX q_IX q_J0, 40, 26520)) _
                          exact q_Ru_ret rfl rfl
                        show q_Ru _ _ _ (5, [(0, .ref 66), (1, .int 3867), (2, .int v)], [.int 0], (q_cX q_AX q_IX q_J0, 40, 26520)) _
                        refine q_Ru_seg (g2 := (9, [(3, .int 0), (0, .ref 66), (1, .int 3867), (2, .int v)], [.int v, .int 3867, .ref 66], (q_cX q_AX q_IX q_J0, 40, 26520))) 4 (fun _ _ => rfl) ?_
                        refine q_Ru_call (v := none) (h2 := (q_cX A87 I87 q_J0, 40, 26520)) rfl rfl ?_ ?_
                        · exact p87.le (Nat.le_of_ble_eq_true rfl)
                        show q_Ru _ _ _ (12, [(3, .int 0), (0, .ref 66), (1, .int 3867), (2, .int v)], [], (q_cX A87 I87 q_J0, 40, 26520)) _
                        refine q_Ru_seg (g2 := (13, [(3, .int 0), (0, .ref 66), (1, .int 3867), (2, .int v)], [.int 0], (q_cX A87 I87 q_J0, 40, 26520))) 1 (fun _ _ => rfl) ?_
                        exact q_Ru_ret rfl rfl
                      show q_Ru _ _ _ (77, [(0, .ref 65), (1, .int 0), (2, .int 3867), (3, .int v), (4, .int 0)], [.int 0], (q_cX A87 I87 q_J0, 40, 26520)) _
                      exact q_Ru_ret rfl rfl
                    show q_Ru _ _ _ (27, [(0, .ref 64), (1, .int 3867), (2, .int v)], [.int 0], (q_cX A87 I87 q_J0, 40, 26520)) _
                    exact q_Ru_ret rfl rfl
                  show q_Ru _ _ _ (8, [(0, .ref 64), (1, .int 3867), (2, .int v), (3, .ref 103)], [.int 0, .int 0, .ref 103], (q_cX A87 I87 q_J0, 40, 26520)) _
                  refine q_Ru_seg (g2 := (22, [(0, .ref 64), (1, .int 3867), (2, .int v), (3, .ref 103)], [.int 0], (q_cX A87 I87 (q_uA q_J0 39 (vp_updL (fun _ => 0) 0 0)), 40, 26520))) 4 (fun _ _ => rfl) ?_
                  exact q_Ru_ret rfl rfl
                · refine q_Ca_of (Nat.le_of_ble_eq_true rfl) ?_
                  refine q_Ru_seg (g2 := (2, [(0, .ref 64), (1, .int 3867), (2, .int v)], [.int 3867, .ref 64], (q_cM q_AM q_IM q_J0, 34, 31630))) 2 (fun _ _ => rfl) ?_
                  refine q_Ru_call (v := (some (.int 0))) (h2 := (q_cM q_AM q_IM q_J0, 34, 31630)) rfl rfl ?_ ?_
                  · refine q_Ca_of (Nat.le_of_ble_eq_true rfl) ?_
                    refine q_Ru_seg (g2 := (5, [(0, .int 3867)], [.int 4095, .int 0, .int 3867], (q_cM q_AM q_IM q_J0, 34, 31630))) 3 (fun _ _ => rfl) ?_
                    refine q_Ru_call (v := (some (.int 1))) (h2 := (q_cM q_AM q_IM q_J0, 34, 31630)) rfl rfl ?_ ?_
                    · refine q_Ca_of (Nat.le_of_ble_eq_true rfl) ?_
                      refine q_Ru_seg (g2 := (15, [(0, .int 3867), (1, .int 0), (2, .int 4095)], [.int 1], (q_cM q_AM q_IM q_J0, 34, 31630))) 8 (fun _ _ => rfl) ?_
                      exact q_Ru_ret rfl rfl
                    show q_Ru _ _ _ (8, [(0, .int 3867)], [.int 1], (q_cM q_AM q_IM q_J0, 34, 31630)) _
                    refine q_Ru_seg (g2 := (16, [(0, .int 3867)], [.int 0], (q_cM q_AM q_IM q_J0, 34, 31630))) 2 (fun _ _ => rfl) ?_
                    exact q_Ru_ret rfl rfl
                  show q_Ru _ _ _ (5, [(0, .ref 64), (1, .int 3867), (2, .int v)], [.int 0, .ref 64], (q_cM q_AM q_IM q_J0, 34, 31630)) _
                  refine q_Ru_seg (g2 := (13, [(0, .ref 64), (1, .int 3867), (2, .int v)], [.int v, .ref 64], (q_cM q_AM q_IM q_J0, 34, 31630))) 2 (fun _ _ => rfl) ?_
                  refine q_Ru_call (v := (some (.int 0))) (h2 := (q_cM q_AM q_IM q_J0, 34, 31630)) rfl rfl ?_ ?_
                  · refine q_Ca_of (Nat.le_of_ble_eq_true rfl) ?_
                    refine q_Ru_seg (g2 := (5, [(0, .int v)], [.int 255, .int 0, .int v], (q_cM q_AM q_IM q_J0, 34, 31630))) 3 (fun _ _ => rfl) ?_
                    refine q_Ru_call (v := (some (.int 1))) (h2 := (q_cM q_AM q_IM q_J0, 34, 31630)) rfl rfl ?_ ?_
                    · refine q_Ca_of (Nat.le_of_ble_eq_true rfl) ?_
                      refine q_Ru_seg (g2 := (2, [(0, .int v), (1, .int 0), (2, .int 255)], [.int 0, .int v], (q_cM q_AM q_IM q_J0, 34, 31630))) 2 (fun _ _ => rfl) ?_
                      refine q_Ru_rsF (g2 := (5, [(0, .int v), (1, .int 0), (2, .int 255)], [], (q_cM q_AM q_IM q_J0, 34, 31630))) rfl rfl h233 ?_
                      refine q_Ru_seg (g2 := (7, [(0, .int v), (1, .int 0), (2, .int 255)], [.int 255, .int v], (q_cM q_AM q_IM q_J0, 34, 31630))) 2 (fun _ _ => rfl) ?_
                      refine q_Ru_rsF (g2 := (10, [(0, .int v), (1, .int 0), (2, .int 255)], [], (q_cM q_AM q_IM q_J0, 34, 31630))) rfl rfl h235 ?_
                      refine q_Ru_seg (g2 := (15, [(0, .int v), (1, .int 0), (2, .int 255)], [.int 1], (q_cM q_AM q_IM q_J0, 34, 31630))) 2 (fun _ _ => rfl) ?_
                      exact q_Ru_ret rfl rfl
                    show q_Ru _ _ _ (8, [(0, .int v)], [.int 1], (q_cM q_AM q_IM q_J0, 34, 31630)) _
                    refine q_Ru_seg (g2 := (16, [(0, .int v)], [.int 0], (q_cM q_AM q_IM q_J0, 34, 31630))) 2 (fun _ _ => rfl) ?_
                    exact q_Ru_ret rfl rfl
                  show q_Ru _ _ _ (16, [(0, .ref 64), (1, .int 3867), (2, .int v)], [.int 0, .ref 64], (q_cM q_AM q_IM q_J0, 34, 31630)) _
                  refine q_Ru_seg (g2 := (24, [(0, .ref 64), (1, .int 3867), (2, .int v)], [.int 0, .ref 64], (q_cM q_AM q_IM q_J0, 34, 31630))) 2 (fun _ _ => rfl) ?_
                  refine q_Ru_call (v := (some (.int 0))) (h2 := (q_cM q_AM (q_uI q_IM 0 39 0) q_J0, 34, 31630)) rfl rfl ?_ ?_
                  · refine q_Ca_of (Nat.le_of_ble_eq_true rfl) ?_
                    refine q_Ru_seg (g2 := (14, [(0, .ref 64), (1, .int 0)], [.int 0], (q_cM q_AM (q_uI q_IM 0 39 0) q_J0, 34, 31630))) 6 (fun _ _ => rfl) ?_
                    exact q_Ru_ret rfl rfl
                  show q_Ru _ _ _ (27, [(0, .ref 64), (1, .int 3867), (2, .int v)], [.int 0], (q_cM q_AM (q_uI q_IM 0 39 0) q_J0, 34, 31630)) _
                  refine q_Ru_seg (g2 := (34, [(0, .ref 64), (1, .int 3867), (2, .int v)], [.int 3867, .ref 64], (q_cM q_AM (q_uI q_IM 0 39 0) q_J0, 34, 31630))) 3 (fun _ _ => rfl) ?_
                  refine q_Ru_call (v := (some (.int 0))) (h2 := (q_cM q_AM (q_uI q_IM 0 39 0) q_J0, 34, 31630)) rfl rfl ?_ ?_
                  · refine q_Ca_of (Nat.le_of_ble_eq_true rfl) ?_
                    refine q_Ru_seg (g2 := (7, [(0, .ref 64), (1, .int 3867)], [.int 3887, .int 3840, .int 3867], (q_cM q_AM (q_uI q_IM 0 39 0) q_J0, 34, 31630))) 3 (fun _ _ => rfl) ?_
                    refine q_Ru_call (v := (some (.int 1))) (h2 := (q_cM q_AM (q_uI q_IM 0 39 0) q_J0, 34, 31630)) rfl rfl ?_ ?_
                    · refine q_Ca_of (Nat.le_of_ble_eq_true rfl) ?_
                      refine q_Ru_seg (g2 := (15, [(0, .int 3867), (1, .int 3840), (2, .int 3887)], [.int 1], (q_cM q_AM (q_uI q_IM 0 39 0) q_J0, 34, 31630))) 8 (fun _ _ => rfl) ?_
                      exact q_Ru_ret rfl rfl
                    show q_Ru _ _ _ (10, [(0, .ref 64), (1, .int 3867)], [.int 1], (q_cM q_AM (q_uI q_IM 0 39 0) q_J0, 34, 31630)) _
                    refine q_Ru_seg (g2 := (19, [(0, .ref 64), (1, .int 3867)], [.int 27, .ref 64], (q_cM q_AM (q_uI q_IM 0 39 0) q_J0, 34, 31630))) 5 (fun _ _ => rfl) ?_
                    refine q_Ru_call (v := (some (.int 0))) (h2 := (q_cM q_AM (q_uI q_IM 0 39 0) q_J0, 34, 31630)) rfl rfl ?_ ?_
                    · refine q_Ca_of (Nat.le_of_ble_eq_true rfl) ?_
                      refine q_Ru_seg (g2 := (30, [(0, .ref 64), (1, .int 27)], [.int 15, .int 12, .int 27], (q_cM q_AM (q_uI q_IM 0 39 0) q_J0, 34, 31630))) 9 (fun _ _ => rfl) ?_
                      refine q_Ru_call (v := (some (.int 0))) (h2 := (q_cM q_AM (q_uI q_IM 0 39 0) q_J0, 34, 31630)) rfl rfl ?_ ?_
                      · refine q_Ca_of (Nat.le_of_ble_eq_true rfl) ?_
                        refine q_Ru_seg (g2 := (15, [(0, .int 27), (1, .int 12), (2, .int 15)], [.int 0], (q_cM q_AM (q_uI q_IM 0 39 0) q_J0, 34, 31630))) 7 (fun _ _ => rfl) ?_
                        exact q_Ru_ret rfl rfl
                      show q_Ru _ _ _ (33, [(0, .ref 64), (1, .int 27)], [.int 0], (q_cM q_AM (q_uI q_IM 0 39 0) q_J0, 34, 31630)) _
                      refine q_Ru_seg (g2 := (190, [(0, .ref 64), (1, .int 27)], [.int 0], (q_cM q_AM (q_uI q_IM 0 39 0) q_J0, 34, 31630))) 20 (fun _ _ => rfl) ?_
                      exact q_Ru_ret rfl rfl
                    show q_Ru _ _ _ (22, [(0, .ref 64), (1, .int 3867)], [.int 0], (q_cM q_AM (q_uI q_IM 0 39 0) q_J0, 34, 31630)) _
                    exact q_Ru_ret rfl rfl
                  show q_Ru _ _ _ (37, [(0, .ref 64), (1, .int 3867), (2, .int v)], [.int 0], (q_cM q_AM (q_uI q_IM 0 39 0) q_J0, 34, 31630)) _
                  refine q_Ru_seg (g2 := (41, [(3, .int 0), (0, .ref 64), (1, .int 3867), (2, .int v)], [.int v, .int 3867, .ref 64], (q_cM q_AM (q_uI q_IM 0 39 0) q_J0, 34, 31630))) 4 (fun _ _ => rfl) ?_
                  refine q_Ru_call (v := none) (h2 := (q_cM A88 (q_uI q_IM 0 39 0) q_J0, 34, 31630)) rfl rfl ?_ ?_
                  · exact p88.le (Nat.le_of_ble_eq_true rfl)
                  show q_Ru _ _ _ (44, [(3, .int 0), (0, .ref 64), (1, .int 3867), (2, .int v)], [], (q_cM A88 (q_uI q_IM 0 39 0) q_J0, 34, 31630)) _
                  refine q_Ru_seg (g2 := (45, [(3, .int 0), (0, .ref 64), (1, .int 3867), (2, .int v)], [.ref 64], (q_cM A88 (q_uI q_IM 0 39 0) q_J0, 34, 31630))) 1 (fun _ _ => rfl) ?_
                  refine q_Ru_call (v := none) (h2 := (q_cM A88 (q_uI q_IM 0 39 0) q_J0, 34, 31630)) rfl rfl ?_ ?_
                  · refine q_Ca_of (Nat.le_of_ble_eq_true rfl) ?_
                    refine q_Ru_seg (g2 := (17, [(0, .ref 64)], [], (q_cM A88 (q_uI q_IM 0 39 0) q_J0, 34, 31630))) 3 (fun _ _ => rfl) ?_
                    exact q_Ru_ret rfl rfl
                  show q_Ru _ _ _ (48, [(3, .int 0), (0, .ref 64), (1, .int 3867), (2, .int v)], [], (q_cM A88 (q_uI q_IM 0 39 0) q_J0, 34, 31630)) _
                  refine q_Ru_seg (g2 := (49, [(3, .int 0), (0, .ref 64), (1, .int 3867), (2, .int v)], [.int 0], (q_cM A88 (q_uI q_IM 0 39 0) q_J0, 34, 31630))) 1 (fun _ _ => rfl) ?_
                  exact q_Ru_ret rfl rfl
              | 28, _, e249 =>
                have e249 : a = 3868 := e249
                subst e249
                obtain ⟨A89, I89, p89⟩ := q_p_write q_AX q_IX (40) (26520) 3868 v
                obtain ⟨A90, p90⟩ := q_p_writes q_AM (q_uI q_IM 0 39 0) (34) (31630) 3868 v (by decide) (by decide)
                refine ⟨0, 0, 0, ⟨(q_cX A89 I89 (q_uA q_J0 39 (vp_updL (fun _ => 0) 0 0)), 40, 26520), (q_uA q_J0 39 (vp_updL (fun _ => 0) 0 0)) 39, ?_, rfl, fun _ => rfl, Nat.le_of_ble_eq_true rfl, Nat.le_of_ble_eq_true rfl⟩, ⟨(q_cM A90 (q_uI q_IM 0 39 0) q_J0, 34, 31630), _, ?_, rfl, rfl, Nat.le_of_ble_eq_true rfl, Nat.le_of_ble_eq_true rfl⟩, fun _ => rfl⟩
                · refine q_Ca_of (Nat.le_of_ble_eq_true rfl) ?_
                  refine q_Ru_seg (g2 := (5, [(0, .ref 64), (1, .int 3868), (2, .int v), (3, .ref 103)], [.int v, .int 3868, .ref 64, .int 0, .ref 103], (q_cX q_AX q_IX q_J0, 40, 26520))) 5 (fun _ _ => rfl) ?_
                  refine q_Ru_call (v := (some (.int 0))) (h2 := (q_cX A89 I89 q_J0, 40, 26520)) rfl rfl ?_ ?_
                  · refine q_Ca_of (Nat.le_of_ble_eq_true rfl) ?_
                    refine q_Ru_seg (g2 := (1, [(0, .ref 64), (1, .int 3868), (2, .int v)], [.int 3868], (q_cX q_AX q_IX q_J0, 40, 26520))) 1 (fun _ _ => rfl) ?_
                    refine q_Ru_call (v := none) (h2 := (q_cX q_AX q_IX q_J0, 40, 26520)) rfl rfl ?_ ?_
                    · refine q_Ca_of (Nat.le_of_ble_eq_true rfl) ?_
                      refine q_Ru_seg (g2 := (4, [(0, .int 3868)], [.int 4096, .int 3868], (q_cX q_AX q_IX q_J0, 40, 26520))) 2 (fun _ _ => rfl) ?_
                      refine q_Ru_call (v := none) (h2 := (q_cX q_AX q_IX q_J0, 40, 26520)) rfl rfl ?_ ?_
                      · refine q_Ca_of (Nat.le_of_ble_eq_true rfl) ?_
                        refine q_Ru_seg (g2 := (19, [(0, .int 3868), (1, .int 4096)], [], (q_cX q_AX q_IX q_J0, 40, 26520))) 5 (fun _ _ => rfl) ?_
                        exact q_Ru_ret rfl rfl
                      show q_Ru _ _ _ (7, [(0, .int 3868)], [], (q_cX q_AX q_IX q_J0, 40, 26520)) _
                      exact q_Ru_ret rfl rfl
                    show q_Ru _ _ _ (4, [(0, .ref 64), (1, .int 3868), (2, .int v)], [], (q_cX q_AX q_IX q_J0, 40, 26520)) _
                    refine q_Ru_seg (g2 := (5, [(0, .ref 64), (1, .int 3868), (2, .int v)], [.int v], (q_cX q_AX q_IX q_J0, 40, 26520))) 1 (fun _ _ => rfl) ?_
                    refine q_Ru_call (v := none) (h2 := (q_cX q_AX q_IX q_J0, 40, 26520)) rfl rfl ?_ ?_
                    · refine q_Ca_of (Nat.le_of_ble_eq_true rfl) ?_
                      refine q_Ru_seg (g2 := (5, [(0, .int v)], [.int 255, .int 0, .int v], (q_cX q_AX q_IX q_J0, 40, 26520))) 3 (fun _ _ => rfl) ?_
                      refine q_Ru_call (v := none) (h2 := (q_cX q_AX q_IX q_J0, 40, 26520)) rfl rfl ?_ ?_
                      · refine q_Ca_of (Nat.le_of_ble_eq_true rfl) ?_
                        refine q_Ru_seg (g2 := (2, [(0, .int v), (1, .int 0), (2, .int 255)], [.int 0, .int v], (q_cX q_AX q_IX q_J0, 40, 26520))) 2 (fun _ _ => rfl) ?_
                        refine q_Ru_rsF (g2 := (5, [(0, .int v), (1, .int 0), (2, .int 255)], [], (q_cX q_AX q_IX q_J0, 40, 26520))) rfl rfl h233 ?_
                        refine q_Ru_seg (g2 := (7, [(0, .int v), (1, .int 0), (2, .int 255)], [.int 255, .int v], (q_cX q_AX q_IX q_J0, 40, 26520))) 2 (fun _ _ => rfl) ?_
                        refine q_Ru_rsT (g2 := (20, [(0, .int v), (1, .int 0), (2, .int 255)], [], (q_cX q_AX q_IX q_J0, 40, 26520))) rfl rfl (q_d_geF h235) ?_
                        exact q_Ru_ret rfl rfl
                      show q_Ru _ _ _ (8, [(0, .int v)], [], (q_cX q_AX q_IX q_J0, 40, 26520)) _
                      exact q_Ru_ret rfl rfl
                    show q_Ru _ _ _ (8, [(0, .ref 64), (1, .int 3868), (2, .int v)], [], (q_cX q_AX q_IX q_J0, 40, 26520)) _
                    refine q_Ru_seg (g2 := (13, [(0, .ref 64), (1, .int 3868), (2, .int v)], [.int 0, .int v, .int 3868, .int 0, .ref 64], (q_cX q_AX q_IX q_J0, 40, 26520))) 5 (fun _ _ => rfl) ?_
                    refine q_Ru_call (v := none) (h2 := (q_cX q_AX q_IX q_J0, 40, 26520)) rfl rfl ?_ ?_
                    · refine q_Ca_of (Nat.le_of_ble_eq_true rfl) ?_
                      refine q_Ru_seg (g2 := (19, [(0, .ref 64), (1, .int 0), (2, .int 3868), (3, .int v), (4, .int 0)], [], (q_cX q_AX q_IX q_J0, 40, 26520))) 3 (fun _ _ => rfl) ?_
                      exact q_Ru_ret rfl rfl
                    show q_Ru _ _ _ (16, [(0, .ref 64), (1, .int 3868), (2, .int v)], [], (q_cX q_AX q_IX q_J0, 40, 26520)) _
                    refine q_Ru_seg (g2 := (24, [(0, .ref 64), (1, .int 3868), (2, .int v)], [.int 0, .int v, .int 3868, .int 0, .ref 65], (q_cX q_AX q_IX q_J0, 40, 26520))) 6 (fun _ _ => rfl) ?_
                    refine q_Ru_call (v := (some (.int 0))) (h2 := (q_cX A89 I89 q_J0, 40, 26520)) rfl rfl ?_ ?_
                    · refine q_Ca_of (Nat.le_of_ble_eq_true rfl) ?_
                      refine q_Ru_seg (g2 := (74, [(0, .ref 65), (1, .int 0), (2, .int 3868), (3, .int v), (4, .int 0)], [.int v, .int 3868, .ref 66], (q_cX q_AX q_IX q_J0, 40, 26520))) 6 (fun _ _ => rfl) ?_
                      refine q_Ru_call (v := (some (.int 0))) (h2 := (q_cX A89 I89 q_J0, 40, 26520)) rfl rfl ?_ ?_
                      · refine q_Ca_of (Nat.le_of_ble_eq_true rfl) ?_
                        refine q_Ru_seg (g2 := (2, [(0, .ref 66), (1, .int 3868), (2, .int v)], [.int 3868, .ref 66], (q_cX q_AX q_IX q_J0, 40, 26520))) 2 (fun _ _ => rfl) ?_
                        refine q_Ru_call (v := (some (.int 0))) (h2 := (q_cX q_AX q_IX q_J0, 40, 26520)) rfl rfl ?_ ?_
                        · refine q_Ca_of (Nat.le_of_ble_eq_true rfl) ?_
                          refine q_Ru_seg (g2 := (27, [(2, .int 28), (0, .ref 66), (1, .int 3868)], [.int 0, .int 28, .ref 66], (q_cX q_AX q_IX q_J0, 40, 26520))) 16 (fun _ _ => rfl) ?_
                          refine q_Ru_call (v := (some (.int 0))) (h2 := (q_cX q_AX q_IX q_J0, 40, 26520)) rfl rfl ?_ ?_
                          · refine q_Ca_of (Nat.le_of_ble_eq_true rfl) ?_
                            refine q_Ru_seg (g2 := (183, [(0, .ref 66), (1, .int 28), (2, .int 0)], [.int 0], (q_cX q_AX q_IX q_J0, 40, 26520))) 3 (fun _ _ => rfl) ?_
                            exact q_Ru_ret rfl rfl
                          show q_Ru _ _ _ (30, [(2, .int 28), (0, .ref 66), (1, .int 3868)], [.int 0], (q_cX q_AX q_IX q_J0, 40, 26520)) _
                          exact q_Ru_ret rfl rfl
                        show q_Ru _ _ _ (5, [(0, .ref 66), (1, .int 3868), (2, .int v)], [.int 0], (q_cX q_AX q_IX q_J0, 40, 26520)) _
                        refine q_Ru_seg (g2 := (9, [(3, .int 0), (0, .ref 66), (1, .int 3868), (2, .int v)], [.int v, .int 3868, .ref 66], (q_cX q_AX q_IX q_J0, 40, 26520))) 4 (fun _ _ => rfl) ?_
                        refine q_Ru_call (v := none) (h2 := (q_cX A89 I89 q_J0, 40, 26520)) rfl rfl ?_ ?_
                        · exact p89.le (Nat.le_of_ble_eq_true rfl)
                        show q_Ru _ _ _ (12, [(3, .int 0), (0, .ref 66), (1, .int 3868), (2, .int v)], [], (q_cX A89 I89 q_J0, 40, 26520)) _
                        refine q_Ru_seg (g2 := (13, [(3, .int 0), (0, .ref 66), (1, .int 3868), (2, .int v)], [.int 0], (q_cX A89 I89 q_J0, 40, 26520))) 1 (fun _ _ => rfl) ?_
                        exact q_Ru_ret rfl rfl
                      show q_Ru _ _ _ (77, [(0, .ref 65), (1, .int 0), (2, .int 3868), (3, .int v), (4, .int 0)], [.int 0], (q_cX A89 I89 q_J0, 40, 26520)) _
                      exact q_Ru_ret rfl rfl
                    show q_Ru _ _ _ (27, [(0, .ref 64), (1, .int 3868), (2, .int v)], [.int 0], (q_cX A89 I89 q_J0, 40, 26520)) _
                    exact q_Ru_ret rfl rfl
                  show q_Ru _ _ _ (8, [(0, .ref 64), (1, .int 3868), (2, .int v), (3, .ref 103)], [.int 0, .int 0, .ref 103], (q_cX A89 I89 q_J0, 40, 26520)) _
                  refine q_Ru_seg (g2 := (22, [(0, .ref 64), (1, .int 3868), (2, .int v), (3, .ref 103)], [.int 0], (q_cX A89 I89 (q_uA q_J0 39 (vp_updL (fun _ => 0) 0 0)), 40, 26520))) 4 (fun _ _ => rfl) ?_
                  exact q_Ru_ret rfl rfl
                · refine q_Ca_of (Nat.le_of_ble_eq_true rfl) ?_
                  refine q_Ru_seg (g2 := (2, [(0, .ref 64), (1, .int 3868), (2, .int v)], [.int 3868, .ref 64], (q_cM q_AM q_IM q_J0, 34, 31630))) 2 (fun _ _ => rfl) ?_
                  refine q_Ru_call (v := (some (.int 0))) (h2 := (q_cM q_AM q_IM q_J0, 34, 31630)) rfl rfl ?_ ?_
                  · refine q_Ca_of (Nat.le_of_ble_eq_true rfl) ?_
                    refine q_Ru_seg (g2 := (5, [(0, .int 3868)], [.int 4095, .int 0, .int 3868], (q_cM q_AM q_IM q_J0, 34, 31630))) 3 (fun _ _ => rfl) ?_
                    refine q_Ru_call (v := (some (.int 1))) (h2 := (q_cM q_AM q_IM q_J0, 34, 31630)) rfl rfl ?_ ?_
                    · refine q_Ca_of (Nat.le_of_ble_eq_true rfl) ?_
                      refine q_Ru_seg (g2 := (15, [(0, .int 3868), (1, .int 0), (2, .int 4095)], [.int 1], (q_cM q_AM q_IM q_J0, 34, 31630))) 8 (fun _ _ => rfl) ?_
                      exact q_Ru_ret rfl rfl
                    show q_Ru _ _ _ (8, [(0, .int 3868)], [.int 1], (q_cM q_AM q_IM q_J0, 34, 31630)) _
                    refine q_Ru_seg (g2 := (16, [(0, .int 3868)], [.int 0], (q_cM q_AM q_IM q_J0, 34, 31630))) 2 (fun _ _ => rfl) ?_
                    exact q_Ru_ret rfl rfl
                  show q_Ru _ _ _ (5, [(0, .ref 64), (1, .int 3868), (2, .int v)], [.int 0, .ref 64], (q_cM q_AM q_IM q_J0, 34, 31630)) _
                  refine q_Ru_seg (g2 := (13, [(0, .ref 64), (1, .int 3868), (2, .int v)], [.int v, .ref 64], (q_cM q_AM q_IM q_J0, 34, 31630))) 2 (fun _ _ => rfl) ?_
                  refine q_Ru_call (v := (some (.int 0))) (h2 := (q_cM q_AM q_IM q_J0, 34, 31630)) rfl rfl ?_ ?_
                  · refine q_Ca_of (Nat.le_of_ble_eq_true rfl) ?_
                    refine q_Ru_seg (g2 := (5, [(0, .int v)], [.int 255, .int 0, .int v], (q_cM q_AM q_IM q_J0, 34, 31630))) 3 (fun _ _ => rfl) ?_
                    refine q_Ru_call (v := (some (.int 1))) (h2 := (q_cM q_AM q_IM q_J0, 34, 31630)) rfl rfl ?_ ?_
                    · refine q_Ca_of (Nat.le_of_ble_eq_true rfl) ?_
                      refine q_Ru_seg (g2 := (2, [(0, .int v), (1, .int 0), (2, .int 255)], [.int 0, .int v], (q_cM q_AM q_IM q_J0, 34, 31630))) 2 (fun _ _ => rfl) ?_
                      refine q_Ru_rsF (g2 := (5, [(0, .int v), (1, .int 0), (2, .int 255)], [], (q_cM q_AM q_IM q_J0, 34, 31630))) rfl rfl h233 ?_
                      refine q_Ru_seg (g2 := (7, [(0, .int v), (1, .int 0), (2, .int 255)], [.int 255, .int v], (q_cM q_AM q_IM q_J0, 34, 31630))) 2 (fun _ _ => rfl) ?_
                      refine q_Ru_rsF (g2 := (10, [(0, .int v), (1, .int 0), (2, .int 255)], [], (q_cM q_AM q_IM q_J0, 34, 31630))) rfl rfl h235 ?_
                      refine q_Ru_seg (g2 := (15, [(0, .int v), (1, .int 0), (2, .int 255)], [.int 1], (q_cM q_AM q_IM q_J0, 34, 31630))) 2 (fun _ _ => rfl) ?_
                      exact q_Ru_ret rfl rfl
                    show q_Ru _ _ _ (8, [(0, .int v)], [.int 1], (q_cM q_AM q_IM q_J0, 34, 31630)) _
                    refine q_Ru_seg (g2 := (16, [(0, .int v)], [.int 0], (q_cM q_AM q_IM q_J0, 34, 31630))) 2 (fun _ _ => rfl) ?_
                    exact q_Ru_ret rfl rfl
                  show q_Ru _ _ _ (16, [(0, .ref 64), (1, .int 3868), (2, .int v)], [.int 0, .ref 64], (q_cM q_AM q_IM q_J0, 34, 31630)) _
                  refine q_Ru_seg (g2 := (24, [(0, .ref 64), (1, .int 3868), (2, .int v)], [.int 0, .ref 64], (q_cM q_AM q_IM q_J0, 34, 31630))) 2 (fun _ _ => rfl) ?_
                  refine q_Ru_call (v := (some (.int 0))) (h2 := (q_cM q_AM (q_uI q_IM 0 39 0) q_J0, 34, 31630)) rfl rfl ?_ ?_
                  · refine q_Ca_of (Nat.le_of_ble_eq_true rfl) ?_
                    refine q_Ru_seg (g2 := (14, [(0, .ref 64), (1, .int 0)], [.int 0], (q_cM q_AM (q_uI q_IM 0 39 0) q_J0, 34, 31630))) 6 (fun _ _ => rfl) ?_
                    exact q_Ru_ret rfl rfl
                  show q_Ru _ _ _ (27, [(0, .ref 64), (1, .int 3868), (2, .int v)], [.int 0], (q_cM q_AM (q_uI q_IM 0 39 0) q_J0, 34, 31630)) _
                  refine q_Ru_seg (g2 := (34, [(0, .ref 64), (1, .int 3868), (2, .int v)], [.int 3868, .ref 64], (q_cM q_AM (q_uI q_IM 0 39 0) q_J0, 34, 31630))) 3 (fun _ _ => rfl) ?_
                  refine q_Ru_call (v := (some (.int 0))) (h2 := (q_cM q_AM (q_uI q_IM 0 39 0) q_J0, 34, 31630)) rfl rfl ?_ ?_
                  · refine q_Ca_of (Nat.le_of_ble_eq_true rfl) ?_
                    refine q_Ru_seg (g2 := (7, [(0, .ref 64), (1, .int 3868)], [.int 3887, .int 3840, .int 3868], (q_cM q_AM (q_uI q_IM 0 39 0) q_J0, 34, 31630))) 3 (fun _ _ => rfl) ?_
                    refine q_Ru_call (v := (some (.int 1))) (h2 := (q_cM q_AM (q_uI q_IM 0 39 0) q_J0, 34, 31630)) rfl rfl ?_ ?_
                    · refine q_Ca_of (Nat.le_of_ble_eq_true rfl) ?_
                      refine q_Ru_seg (g2 := (15, [(0, .int 3868), (1, .int 3840), (2, .int 3887)], [.int 1], (q_cM q_AM (q_uI q_IM 0 39 0) q_J0, 34, 31630))) 8 (fun _ _ => rfl) ?_
                      exact q_Ru_ret rfl rfl
                    show q_Ru _ _ _ (10, [(0, .ref 64), (1, .int 3868)], [.int 1], (q_cM q_AM (q_uI q_IM 0 39 0) q_J0, 34, 31630)) _
                    refine q_Ru_seg (g2 := (19, [(0, .ref 64), (1, .int 3868)], [.int 28, .ref 64], (q_cM q_AM (q_uI q_IM 0 39 0) q_J0, 34, 31630))) 5 (fun _ _ => rfl) ?_
                    refine q_Ru_call (v := (some (.int 0))) (h2 := (q_cM q_AM (q_uI q_IM 0 39 0) q_J0, 34, 31630)) rfl rfl ?_ ?_
                    · refine q_Ca_of (Nat.le_of_ble_eq_true rfl) ?_
                      refine q_Ru_seg (g2 := (30, [(0, .ref 64), (1, .int 28)], [.int 15, .int 12, .int 28], (q_cM q_AM (q_uI q_IM 0 39 0) q_J0, 34, 31630))) 9 (fun _ _ => rfl) ?_
                      refine q_Ru_call (v := (some (.int 0))) (h2 := (q_cM q_AM (q_uI q_IM 0 39 0) q_J0, 34, 31630)) rfl rfl ?_ ?_
                      · refine q_Ca_of (Nat.le_of_ble_eq_true rfl) ?_
                        refine q_Ru_seg (g2 := (15, [(0, .int 28), (1, .int 12), (2, .int 15)], [.int 0], (q_cM q_AM (q_uI q_IM 0 39 0) q_J0, 34, 31630))) 7 (fun _ _ => rfl) ?_
                        exact q_Ru_ret rfl rfl
                      show q_Ru _ _ _ (33, [(0, .ref 64), (1, .int 28)], [.int 0], (q_cM q_AM (q_uI q_IM 0 39 0) q_J0, 34, 31630)) _
                      refine q_Ru_seg (g2 := (190, [(0, .ref 64), (1, .int 28)], [.int 0], (q_cM q_AM (q_uI q_IM 0 39 0) q_J0, 34, 31630))) 20 (fun _ _ => rfl) ?_
                      exact q_Ru_ret rfl rfl
                    show q_Ru _ _ _ (22, [(0, .ref 64), (1, .int 3868)], [.int 0], (q_cM q_AM (q_uI q_IM 0 39 0) q_J0, 34, 31630)) _
                    exact q_Ru_ret rfl rfl
                  show q_Ru _ _ _ (37, [(0, .ref 64), (1, .int 3868), (2, .int v)], [.int 0], (q_cM q_AM (q_uI q_IM 0 39 0) q_J0, 34, 31630)) _
                  refine q_Ru_seg (g2 := (41, [(3, .int 0), (0, .ref 64), (1, .int 3868), (2, .int v)], [.int v, .int 3868, .ref 64], (q_cM q_AM (q_uI q_IM 0 39 0) q_J0, 34, 31630))) 4 (fun _ _ => rfl) ?_
                  refine q_Ru_call (v := none) (h2 := (q_cM A90 (q_uI q_IM 0 39 0) q_J0, 34, 31630)) rfl rfl ?_ ?_
                  · exact p90.le (Nat.le_of_ble_eq_true rfl)
                  show q_Ru _ _ _ (44, [(3, .int 0), (0, .ref 64), (1, .int 3868), (2, .int v)], [], (q_cM A90 (q_uI q_IM 0 39 0) q_J0, 34, 31630)) _
                  refine q_Ru_seg (g2 := (45, [(3, .int 0), (0, .ref 64), (1, .int 3868), (2, .int v)], [.ref 64], (q_cM A90 (q_uI q_IM 0 39 0) q_J0, 34, 31630))) 1 (fun _ _ => rfl) ?_
                  refine q_Ru_call (v := none) (h2 := (q_cM A90 (q_uI q_IM 0 39 0) q_J0, 34, 31630)) rfl rfl ?_ ?_
                  · refine q_Ca_of (Nat.le_of_ble_eq_true rfl) ?_
                    refine q_Ru_seg (g2 := (17, [(0, .ref 64)], [], (q_cM A90 (q_uI q_IM 0 39 0) q_J0, 34, 31630))) 3 (fun _ _ => rfl) ?_
                    exact q_Ru_ret rfl rfl
                  show q_Ru _ _ _ (48, [(3, .int 0), (0, .ref 64), (1, .int 3868), (2, .int v)], [], (q_cM A90 (q_uI q_IM 0 39 0) q_J0, 34, 31630)) _
                  refine q_Ru_seg (g2 := (49, [(3, .int 0), (0, .ref 64), (1, .int 3868), (2, .int v)], [.int 0], (q_cM A90 (q_uI q_IM 0 39 0) q_J0, 34, 31630))) 1 (fun _ _ => rfl) ?_
                  exact q_Ru_ret rfl rfl
              | 29, _, e249 =>
                have e249 : a = 3869 := e249
                subst e249
                obtain ⟨A91, I91, p91⟩ := q_p_write q_AX q_IX (40) (26520) 3869 v
                obtain ⟨A92, p92⟩ := q_p_writes q_AM (q_uI q_IM 0 39 0) (34) (31630) 3869 v (by decide) (by decide)
                refine ⟨0, 0, 0, ⟨(q_cX A91 I91 (q_uA q_J0 39 (vp_updL (fun _ => 0) 0 0)), 40, 26520), (q_uA q_J0 39 (vp_updL (fun _ => 0) 0 0)) 39, ?_, rfl, fun _ => rfl, Nat.le_of_ble_eq_true rfl, Nat.le_of_ble_eq_true rfl⟩, ⟨(q_cM A92 (q_uI q_IM 0 39 0) q_J0, 34, 31630), _, ?_, rfl, rfl, Nat.le_of_ble_eq_true rfl, Nat.le_of_ble_eq_true rfl⟩, fun _ => rfl⟩
                · refine q_Ca_of (Nat.le_of_ble_eq_true rfl) ?_
                  refine q_Ru_seg (g2 := (5, [(0, .ref 64), (1, .int 3869), (2, .int v), (3, .ref 103)], [.int v, .int 3869, .ref 64, .int 0, .ref 103], (q_cX q_AX q_IX q_J0, 40, 26520))) 5 (fun _ _ => rfl) ?_
                  refine q_Ru_call (v := (some (.int 0))) (h2 := (q_cX A91 I91 q_J0, 40, 26520)) rfl rfl ?_ ?_
                  · refine q_Ca_of (Nat.le_of_ble_eq_true rfl) ?_
                    refine q_Ru_seg (g2 := (1, [(0, .ref 64), (1, .int 3869), (2, .int v)], [.int 3869], (q_cX q_AX q_IX q_J0, 40, 26520))) 1 (fun _ _ => rfl) ?_
                    refine q_Ru_call (v := none) (h2 := (q_cX q_AX q_IX q_J0, 40, 26520)) rfl rfl ?_ ?_
                    · refine q_Ca_of (Nat.le_of_ble_eq_true rfl) ?_
                      refine q_Ru_seg (g2 := (4, [(0, .int 3869)], [.int 4096, .int 3869], (q_cX q_AX q_IX q_J0, 40, 26520))) 2 (fun _ _ => rfl) ?_
                      refine q_Ru_call (v := none) (h2 := (q_cX q_AX q_IX q_J0, 40, 26520)) rfl rfl ?_ ?_
                      · refine q_Ca_of (Nat.le_of_ble_eq_true rfl) ?_
                        refine q_Ru_seg (g2 := (19, [(0, .int 3869), (1, .int 4096)], [], (q_cX q_AX q_IX q_J0, 40, 26520))) 5 (fun _ _ => rfl) ?_
                        exact q_Ru_ret rfl rfl
                      show q_Ru _ _ _ (7, [(0, .int 3869)], [], (q_cX q_AX q_IX q_J0, 40, 26520)) _
                      exact q_Ru_ret rfl rfl
                    show q_Ru _ _ _ (4, [(0, .ref 64), (1, .int 3869), (2, .int v)], [], (q_cX q_AX q_IX q_J0, 40, 26520)) _
                    refine q_Ru_seg (g2 := (5, [(0, .ref 64), (1, .int 3869), (2, .int v)], [.int v], (q_cX q_AX q_IX q_J0, 40, 26520))) 1 (fun _ _ => rfl) ?_
                    refine q_Ru_call (v := none) (h2 := (q_cX q_AX q_IX q_J0, 40, 26520)) rfl rfl ?_ ?_
                    · refine q_Ca_of (Nat.le_of_ble_eq_true rfl) ?_
                      refine q_Ru_seg (g2 := (5, [(0, .int v)], [.int 255, .int 0, .int v], (q_cX q_AX q_IX q_J0, 40, 26520))) 3 (fun _ _ => rfl) ?_
                      refine q_Ru_call (v := none) (h2 := (q_cX q_AX q_IX q_J0, 40, 26520)) rfl rfl ?_ ?_
                      · refine q_Ca_of (Nat.le_of_ble_eq_true rfl) ?_
                        refine q_Ru_seg (g2 := (2, [(0, .int v), (1, .int 0), (2, .int 255)], [.int 0, .int v], (q_cX q_AX q_IX q_J0, 40, 26520))) 2 (fun _ _ => rfl) ?_
                        refine q_Ru_rsF (g2 := (5, [(0, .int v), (1, .int 0), (2, .int 255)], [], (q_cX q_AX q_IX q_J0, 40, 26520))) rfl rfl h233 ?_
                        refine q_Ru_seg (g2 := (7, [(0, .int v), (1, .int 0), (2, .int 255)], [.int 255, .int v], (q_cX q_AX q_IX q_J0, 40, 26520))) 2 (fun _ _ => rfl) ?_
                        refine q_Ru_rsT (g2 := (20, [(0, .int v), (1, .int 0), (2, .int 255)], [], (q_cX q_AX q_IX q_J0, 40, 26520))) rfl rfl (q_d_geF h235) ?_
                        exact q_Ru_ret rfl rfl
                      show q_Ru _ _ _ (8, [(0, .int v)], [], (q_cX q_AX q_IX q_J0, 40, 26520)) _
                      exact q_Ru_ret rfl rfl
                    show q_Ru _ _ _ (8, [(0, .ref 64), (1, .int 3869), (2, .int v)], [], (q_cX q_AX q_IX q_J0, 40, 26520)) _
                    refine q_Ru_seg (g2 := (13, [(0, .ref 64), (1, .int 3869), (2, .int v)], [.int 0, .int v, .int 3869, .int 0, .ref 64], (q_cX q_AX q_IX q_J0, 40, 26520))) 5 (fun _ _ => rfl) ?_
                    refine q_Ru_call (v := none) (h2 := (q_cX q_AX q_IX q_J0, 40, 26520)) rfl rfl ?_ ?_
                    · refine q_Ca_of (Nat.le_of_ble_eq_true rfl) ?_
                      refine q_Ru_seg (g2 := (19, [(0, .ref 64), (1, .int 0), (2, .int 3869), (3, .int v), (4, .int 0)], [], (q_cX q_AX q_IX q_J0, 40, 26520))) 3 (fun _ _ => rfl) ?_
                      exact q_Ru_ret rfl rfl
                    show q_Ru _ _ _ (16, [(0, .ref 64), (1, .int 3869), (2, .int v)], [], (q_cX q_AX q_IX q_J0, 40, 26520)) _
                    refine q_Ru_seg (g2 := (24, [(0, .ref 64), (1, .int 3869), (2, .int v)], [.int 0, .int v, .int 3869, .int 0, .ref 65], (q_cX q_AX q_IX q_J0, 40, 26520))) 6 (fun _ _ => rfl) ?_
                    refine q_Ru_call (v := (some (.int 0))) (h2 := (q_cX A91 I91 q_J0, 40, 26520)) rfl rfl ?_ ?_
                    · refine q_Ca_of (Nat.le_of_ble_eq_true rfl) ?_
                      refine q_Ru_seg (g2 := (74, [(0, .ref 65), (1, .int 0), (2, .int 3869), (3, .int v), (4, .int 0)], [.int v, .int 3869, .ref 66], (q_cX q_AX q_IX q_J0, 40, 26520))) 6 (fun _ _ => rfl) ?_
                      refine q_Ru_call (v := (some (.int 0))) (h2 := (q_cX A91 I91 q_J0, 40, 26520)) rfl rfl ?_ ?_
                      · refine q_Ca_of (Nat.le_of_ble_eq_true rfl) ?_
                        refine q_Ru_seg (g2 := (2, [(0, .ref 66), (1, .int 3869), (2, .int v)], [.int 3869, .ref 66], (q_cX q_AX q_IX q_J0, 40, 26520))) 2 (fun _ _ => rfl) ?_
                        refine q_Ru_call (v := (some (.int 0))) (h2 := (q_cX q_AX q_IX q_J0, 40, 26520)) rfl rfl ?_ ?_
                        · refine q_Ca_of (Nat.le_of_ble_eq_true rfl) ?_
                          refine q_Ru_seg (g2 := (27, [(2, .int 29), (0, .ref 66), (1, .int 3869)], [.int 0, .int 29, .ref 66], (q_cX q_AX q_IX q_J0, 40, 26520))) 16 (fun _ _ => rfl) ?_
                          refine q_Ru_call (v := (some (.int 0))) (h2 := (q_cX q_AX q_IX q_J0, 40, 26520)) rfl rfl ?_ ?_
                          · refine q_Ca_of (Nat.le_of_ble_eq_true rfl) ?_
                            refine q_Ru_seg (g2 := (183, [(0, .ref 66), (1, .int 29), (2, .int 0)], [.int 0], (q_cX q_AX q_IX q_J0, 40, 26520))) 3 (fun _ _ => rfl) ?_
                            exact q_Ru_ret rfl rfl
                          show q_Ru _ _ _ (30, [(2, .int 29), (0, .ref 66), (1, .int 3869)], [.int 0], (q_cX q_AX q_IX q_J0, 40, 26520)) _
                          exact q_Ru_ret rfl rfl
                        show q_Ru _ _ _ (5, [(0, .ref 66), (1, .int 3869), (2, .int v)], [.int 0], (q_cX q_AX q_IX q_J0, 40, 26520)) _
                        refine q_Ru_seg (g2 := (9, [(3, .int 0), (0, .ref 66), (1, .int 3869), (2, .int v)], [.int v, .int 3869, .ref 66], (q_cX q_AX q_IX q_J0, 40, 26520))) 4 (fun _ _ => rfl) ?_
                        refine q_Ru_call (v := none) (h2 := (q_cX A91 I91 q_J0, 40, 26520)) rfl rfl ?_ ?_
                        · exact p91.le (Nat.le_of_ble_eq_true rfl)
                        show q_Ru _ _ _ (12, [(3, .int 0), (0, .ref 66), (1, .int 3869), (2, .int v)], [], (q_cX A91 I91 q_J0, 40, 26520)) _
                        refine q_Ru_seg (g2 := (13, [(3, .int 0), (0, .ref 66), (1, .int 3869), (2, .int v)], [.int 0], (q_cX A91 I91 q_J0, 40, 26520))) 1 (fun _ _ => rfl) ?_
                        exact q_Ru_ret rfl rfl
                      show q_Ru _ _ _ (77, [(0, .ref 65), (1, .int 0), (2, .int 3869), (3, .int v), (4, .int 0)], [.int 0], (q_cX A91 I91 q_J0, 40, 26520)) _
                      exact q_Ru_ret rfl rfl
                    show q_Ru _ _ _ (27, [(0, .ref 64), (1, .int 3869), (2, .int v)], [.int 0], (q_cX A91 I91 q_J0, 40, 26520)) _
                    exact q_Ru_ret rfl rfl
                  show q_Ru _ _ _ (8, [(0, .ref 64), (1, .int 3869), (2, .int v), (3, .ref 103)], [.int 0, .int 0, .ref 103], (q_cX A91 I91 q_J0, 40, 26520)) _
                  refine q_Ru_seg (g2 := (22, [(0, .ref 64), (1, .int 3869), (2, .int v), (3, .ref 103)], [.int 0], (q_cX A91 I91 (q_uA q_J0 39 (vp_updL (fun _ => 0) 0 0)), 40, 26520))) 4 (fun _ _ => rfl) ?_
                  exact q_Ru_ret rfl rfl
                · refine q_Ca_of (Nat.le_of_ble_eq_true rfl) ?_
                  refine q_Ru_seg (g2 := (2, [(0, .ref 64), (1, .int 3869), (2, .int v)], [.int 3869, .ref 64], (q_cM q_AM q_IM q_J0, 34, 31630))) 2 (fun _ _ => rfl) ?_
                  refine q_Ru_call (v := (some (.int 0))) (h2 := (q_cM q_AM q_IM q_J0, 34, 31630)) rfl rfl ?_ ?_
                  · refine q_Ca_of (Nat.le_of_ble_eq_true rfl) ?_
                    refine q_Ru_seg (g2 := (5, [(0, .int 3869)], [.int 4095, .int 0, .int 3869], (q_cM q_AM q_IM q_J0, 34, 31630))) 3 (fun _ _ => rfl) ?_
                    refine q_Ru_call (v := (some (.int 1))) (h2 := (q_cM q_AM q_IM q_J0, 34, 31630)) rfl rfl ?_ ?_
                    · refine q_Ca_of (Nat.le_of_ble_eq_true rfl) ?_
                      refine q_Ru_seg (g2 := (15, [(0, .int 3869), (1, .int 0), (2, .int 4095)], [.int 1], (q_cM q_AM q_IM q_J0, 34, 31630))) 8 (fun _ _ => rfl) ?_
                      exact q_Ru_ret rfl rfl
                    show q_Ru _ _ _ (8, [(0, .int 3869)], [.int 1], (q_cM q_AM q_IM q_J0, 34, 31630)) _
                    refine q_Ru_seg (g2 := (16, [(0, .int 3869)], [.int 0], (q_cM q_AM q_IM q_J0, 34, 31630))) 2 (fun _ _ => rfl) ?_
                    exact q_Ru_ret rfl rfl
                  show q_Ru _ _ _ (5, [(0, .ref 64), (1, .int 3869), (2, .int v)], [.int 0, .ref 64], (q_cM q_AM q_IM q_J0, 34, 31630)) _
                  refine q_Ru_seg (g2 := (13, [(0, .ref 64), (1, .int 3869), (2, .int v)], [.int v, .ref 64], (q_cM q_AM q_IM q_J0, 34, 31630))) 2 (fun _ _ => rfl) ?_
                  refine q_Ru_call (v := (some (.int 0))) (h2 := (q_cM q_AM q_IM q_J0, 34, 31630)) rfl rfl ?_ ?_
                  · refine q_Ca_of (Nat.le_of_ble_eq_true rfl) ?_
                    refine q_Ru_seg (g2 := (5, [(0, .int v)], [.int 255, .int 0, .int v], (q_cM q_AM q_IM q_J0, 34, 31630))) 3 (fun _ _ => rfl) ?_
                    refine q_Ru_call (v := (some (.int 1))) (h2 := (q_cM q_AM q_IM q_J0, 34, 31630)) rfl rfl ?_ ?_
                    · refine q_Ca_of (Nat.le_of_ble_eq_true rfl) ?_
                      refine q_Ru_seg (g2 := (2, [(0, .int v), (1, .int 0), (2, .int 255)], [.int 0, .int v], (q_cM q_AM q_IM q_J0, 34, 31630))) 2 (fun _ _ => rfl) ?_
                      refine q_Ru_rsF (g2 := (5, [(0, .int v), (1, .int 0), (2, .int 255)], [], (q_cM q_AM q_IM q_J0, 34, 31630))) rfl rfl h233 ?_
                      refine q_Ru_seg (g2 := (7, [(0, .int v), (1, .int 0), (2, .int 255)], [.int 255, .int v], (q_cM q_AM q_IM q_J0, 34, 31630))) 2 (fun _ _ => rfl) ?_
                      refine q_Ru_rsF (g2 := (10, [(0, .int v), (1, .int 0), (2, .int 255)], [], (q_cM q_AM q_IM q_J0, 34, 31630))) rfl rfl h235 ?_
                      refine q_Ru_seg (g2 := (15, [(0, .int v), (1, .int 0), (2, .int 255)], [.int 1], (q_cM q_AM q_IM q_J0, 34, 31630))) 2 (fun _ _ => rfl) ?_
                      exact q_Ru_ret rfl rfl
                    show q_Ru _ _ _ (8, [(0, .int v)], [.int 1], (q_cM q_AM q_IM q_J0, 34, 31630)) _
                    refine q_Ru_seg (g2 := (16, [(0, .int v)], [.int 0], (q_cM q_AM q_IM q_J0, 34, 31630))) 2 (fun _ _ => rfl) ?_
                    exact q_Ru_ret rfl rfl
                  show q_Ru _ _ _ (16, [(0, .ref 64), (1, .int 3869), (2, .int v)], [.int 0, .ref 64], (q_cM q_AM q_IM q_J0, 34, 31630)) _
                  refine q_Ru_seg (g2 := (24, [(0, .ref 64), (1, .int 3869), (2, .int v)], [.int 0, .ref 64], (q_cM q_AM q_IM q_J0, 34, 31630))) 2 (fun _ _ => rfl) ?_
                  refine q_Ru_call (v := (some (.int 0))) (h2 := (q_cM q_AM (q_uI q_IM 0 39 0) q_J0, 34, 31630)) rfl rfl ?_ ?_
                  · refine q_Ca_of (Nat.le_of_ble_eq_true rfl) ?_
                    refine q_Ru_seg (g2 := (14, [(0, .ref 64), (1, .int 0)], [.int 0], (q_cM q_AM (q_uI q_IM 0 39 0) q_J0, 34, 31630))) 6 (fun _ _ => rfl) ?_
                    exact q_Ru_ret rfl rfl
                  show q_Ru _ _ _ (27, [(0, .ref 64), (1, .int 3869), (2, .int v)], [.int 0], (q_cM q_AM (q_uI q_IM 0 39 0) q_J0, 34, 31630)) _
                  refine q_Ru_seg (g2 := (34, [(0, .ref 64), (1, .int 3869), (2, .int v)], [.int 3869, .ref 64], (q_cM q_AM (q_uI q_IM 0 39 0) q_J0, 34, 31630))) 3 (fun _ _ => rfl) ?_
                  refine q_Ru_call (v := (some (.int 0))) (h2 := (q_cM q_AM (q_uI q_IM 0 39 0) q_J0, 34, 31630)) rfl rfl ?_ ?_
                  · refine q_Ca_of (Nat.le_of_ble_eq_true rfl) ?_
                    refine q_Ru_seg (g2 := (7, [(0, .ref 64), (1, .int 3869)], [.int 3887, .int 3840, .int 3869], (q_cM q_AM (q_uI q_IM 0 39 0) q_J0, 34, 31630))) 3 (fun _ _ => rfl) ?_
                    refine q_Ru_call (v := (some (.int 1))) (h2 := (q_cM q_AM (q_uI q_IM 0 39 0) q_J0, 34, 31630)) rfl rfl ?_ ?_
                    · refine q_Ca_of (Nat.le_of_ble_eq_true rfl) ?_
                      refine q_Ru_seg (g2 := (15, [(0, .int 3869), (1, .int 3840), (2, .int 3887)], [.int 1], (q_cM q_AM (q_uI q_IM 0 39 0) q_J0, 34, 31630))) 8 (fun _ _ => rfl) ?_
                      exact q_Ru_ret rfl rfl
                    show q_Ru _ _ _ (10, [(0, .ref 64), (1, .int 3869)], [.int 1], (q_cM q_AM (q_uI q_IM 0 39 0) q_J0, 34, 31630)) _
                    refine q_Ru_seg (g2 := (19, [(0, .ref 64), (1, .int 3869)], [.int 29, .ref 64], (q_cM q_AM (q_uI q_IM 0 39 0) q_J0, 34, 31630))) 5 (fun _ _ => rfl) ?_
                    refine q_Ru_call (v := (some (.int 0))) (h2 := (q_cM q_AM (q_uI q_IM 0 39 0) q_J0, 34, 31630)) rfl rfl ?_ ?_
                    · refine q_Ca_of (Nat.le_of_ble_eq_true rfl) ?_
                      refine q_Ru_seg (g2 := (30, [(0, .ref 64), (1, .int 29)], [.int 15, .int 12, .int 29], (q_cM q_AM (q_uI q_IM 0 39 0) q_J0, 34, 31630))) 9 (fun _ _ => rfl) ?_
                      refine q_Ru_call (v := (some (.int 0))) (h2 := (q_cM q_AM (q_uI q_IM 0 39 0) q_J0, 34, 31630)) rfl rfl ?_ ?_
                      · refine q_Ca_of (Nat.le_of_ble_eq_true rfl) ?_
                        refine q_Ru_seg (g2 := (15, [(0, .int 29), (1, .int 12), (2, .int 15)], [.int 0], (q_cM q_AM (q_uI q_IM 0 39 0) q_J0, 34, 31630))) 7 (fun _ _ => rfl) ?_
                        exact q_Ru_ret rfl rfl
                      show q_Ru _ _ _ (33, [(0, .ref 64), (1, .int 29)], [.int 0], (q_cM q_AM (q_uI q_IM 0 39 0) q_J0, 34, 31630)) _
                      refine q_Ru_seg (g2 := (93, [(0, .ref 64), (1, .int 29)], [.int 0], (q_cM q_AM (q_uI q_IM 0 39 0) q_J0, 34, 31630))) 8 (fun _ _ => rfl) ?_
                      exact q_Ru_ret rfl rfl
                    show q_Ru _ _ _ (22, [(0, .ref 64), (1, .int 3869)], [.int 0], (q_cM q_AM (q_uI q_IM 0 39 0) q_J0, 34, 31630)) _
                    exact q_Ru_ret rfl rfl
                  show q_Ru _ _ _ (37, [(0, .ref 64), (1, .int 3869), (2, .int v)], [.int 0], (q_cM q_AM (q_uI q_IM 0 39 0) q_J0, 34, 31630)) _
                  refine q_Ru_seg (g2 := (41, [(3, .int 0), (0, .ref 64), (1, .int 3869), (2, .int v)], [.int v, .int 3869, .ref 64], (q_cM q_AM (q_uI q_IM 0 39 0) q_J0, 34, 31630))) 4 (fun _ _ => rfl) ?_
                  refine q_Ru_call (v := none) (h2 := (q_cM A92 (q_uI q_IM 0 39 0) q_J0, 34, 31630)) rfl rfl ?_ ?_
                  · exact p92.le (Nat.le_of_ble_eq_true rfl)
                  show q_Ru _ _ _ (44, [(3, .int 0), (0, .ref 64), (1, .int 3869), (2, .int v)], [], (q_cM A92 (q_uI q_IM 0 39 0) q_J0, 34, 31630)) _
                  refine q_Ru_seg (g2 := (45, [(3, .int 0), (0, .ref 64), (1, .int 3869), (2, .int v)], [.ref 64], (q_cM A92 (q_uI q_IM 0 39 0) q_J0, 34, 31630))) 1 (fun _ _ => rfl) ?_
                  refine q_Ru_call (v := none) (h2 := (q_cM A92 (q_uI q_IM 0 39 0) q_J0, 34, 31630)) rfl rfl ?_ ?_
                  · refine q_Ca_of (Nat.le_of_ble_eq_true rfl) ?_
                    refine q_Ru_seg (g2 := (17, [(0, .ref 64)], [], (q_cM A92 (q_uI q_IM 0 39 0) q_J0, 34, 31630))) 3 (fun _ _ => rfl) ?_
                    exact q_Ru_ret rfl rfl
                  show q_Ru _ _ _ (48, [(3, .int 0), (0, .ref 64), (1, .int 3869), (2, .int v)], [], (q_cM A92 (q_uI q_IM 0 39 0) q_J0, 34, 31630)) _
                  refine q_Ru_seg (g2 := (49, [(3, .int 0), (0, .ref 64), (1, .int 3869), (2, .int v)], [.int 0], (q_cM A92 (q_uI q_IM 0 39 0) q_J0, 34, 31630))) 1 (fun _ _ => rfl) ?_
                  exact q_Ru_ret rfl rfl
              | 30, _, e249 =>
                have e249 : a = 3870 := e249
                subst e249
                obtain ⟨A93, I93, p93⟩ := q_p_write q_AX q_IX (40) (26520) 3870 v
                obtain ⟨A94, p94⟩ := q_p_writes q_AM (q_uI q_IM 0 39 0) (34) (31630) 3870 v (by decide) (by decide)
                refine ⟨0, 0, 0, ⟨(q_cX A93 I93 (q_uA q_J0 39 (vp_updL (fun _ => 0) 0 0)), 40, 26520), (q_uA q_J0 39 (vp_updL (fun _ => 0) 0 0)) 39, ?_, rfl, fun _ => rfl, Nat.le_of_ble_eq_true rfl, Nat.le_of_ble_eq_true rfl⟩, ⟨(q_cM A94 (q_uI q_IM 0 39 0) q_J0, 34, 31630), _, ?_, rfl, rfl, Nat.le_of_ble_eq_true rfl, Nat.le_of_ble_eq_true rfl⟩, fun _ => rfl⟩
                · refine q_Ca_of (Nat.le_of_ble_eq_true rfl) ?_
                  refine q_Ru_seg (g2 := (5, [(0, .ref 64), (1, .int 3870), (2, .int v), (3, .ref 103)], [.int v, .int 3870, .ref 64, .int 0, .ref 103], (q_cX q_AX q_IX q_J0, 40, 26520))) 5 (fun _ _ => rfl) ?_
                  refine q_Ru_call (v := (some (.int 0))) (h2 := (q_cX A93 I93 q_J0, 40, 26520)) rfl rfl ?_ ?_
                  · refine q_Ca_of (Nat.le_of_ble_eq_true rfl) ?_
                    refine q_Ru_seg (g2 := (1, [(0, .ref 64), (1, .int 3870), (2, .int v)], [.int 3870], (q_cX q_AX q_IX q_J0, 40, 26520))) 1 (fun _ _ => rfl) ?_
                    refine q_Ru_call (v := none) (h2 := (q_cX q_AX q_IX q_J0, 40, 26520)) rfl rfl ?_ ?_
                    · refine q_Ca_of (Nat.le_of_ble_eq_true rfl) ?_
                      refine q_Ru_seg (g2 := (4, [(0, .int 3870)], [.int 4096, .int 3870], (q_cX q_AX q_IX q_J0, 40, 26520))) 2 (fun _ _ => rfl) ?_
                      refine q_Ru_call (v := none) (h2 := (q_cX q_AX q_IX q_J0, 40, 26520)) rfl rfl ?_ ?_
                      · refine q_Ca_of (Nat.le_of_ble_eq_true rfl) ?_
                        refine q_Ru_seg (g2 := (19, [(0, .int 3870), (1, .int 4096)], [], (q_cX q_AX q_IX q_J0, 40, 26520))) 5 (fun _ _ => rfl) ?_
                        exact q_Ru_ret rfl rfl
                      show q_Ru _ _ _ (7, [(0, .int 3870)], [], (q_cX q_AX q_IX q_J0, 40, 26520)) _
                      exact q_Ru_ret rfl rfl
                    show q_Ru _ _ _ (4, [(0, .ref 64), (1, .int 3870), (2, .int v)], [], (q_cX q_AX q_IX q_J0, 40, 26520)) _
                    refine q_Ru_seg (g2 := (5, [(0, .ref 64), (1, .int 3870), (2, .int v)], [.int v], (q_cX q_AX q_IX q_J0, 40, 26520))) 1 (fun _ _ => rfl) ?_
                    refine q_Ru_call (v := none) (h2 := (q_cX q_AX q_IX q_J0, 40, 26520)) rfl rfl ?_ ?_
                    · refine q_Ca_of (Nat.le_of_ble_eq_true rfl) ?_
                      refine q_Ru_seg (g2 := (5, [(0, .int v)], [.int 255, .int 0, .int v], (q_cX q_AX q_IX q_J0, 40, 26520))) 3 (fun _ _ => rfl) ?_
                      refine q_Ru_call (v := none) (h2 := (q_cX q_AX q_IX q_J0, 40, 26520)) rfl rfl ?_ ?_
                      · refine q_Ca_of (Nat.le_of_ble_eq_true rfl) ?_
                        refine q_Ru_seg (g2 := (2, [(0, .int v), (1, .int 0), (2, .int 255)], [.int 0, .int v], (q_cX q_AX q_IX q_J0, 40, 26520))) 2 (fun _ _ => rfl) ?_
                        refine q_Ru_rsF (g2 := (5, [(0, .int v), (1, .int 0), (2, .int 255)], [], (q_cX q_AX q_IX q_J0, 40, 26520))) rfl rfl h233 ?_
                        refine q_Ru_seg (g2 := (7, [(0, .int v), (1, .int 0), (2, .int 255)], [.int 255, .int v], (q_cX q_AX q_IX q_J0, 40, 26520))) 2 (fun _ _ => rfl) ?_
                        refine q_Ru_rsT (g2 := (20, [(0, .int v), (1, .int 0), (2, .int 255)], [], (q_cX q_AX q_IX q_J0, 40, 26520))) rfl rfl (q_d_geF h235) ?_
                        exact q_Ru_ret rfl rfl
                      show q_Ru _ _ _ (8, [(0, .int v)], [], (q_cX q_AX q_IX q_J0, 40, 26520)) _
                      exact q_Ru_ret rfl rfl
                    show q_Ru _ _ _ (8, [(0, .ref 64), (1, .int 3870), (2, .int v)], [], (q_cX q_AX q_IX q_J0, 40, 26520)) _
                    refine q_Ru_seg (g2 := (13, [(0, .ref 64), (1, .int 3870), (2, .int v)], [.int 0, .int v, .int 3870, .int 0, .ref 64], (q_cX q_AX q_IX q_J0, 40, 26520))) 5 (fun _ _ => rfl) ?_
                    refine q_Ru_call (v := none) (h2 := (q_cX q_AX q_IX q_J0, 40, 26520)) rfl rfl ?_ ?_
                    · refine q_Ca_of (Nat.le_of_ble_eq_true rfl) ?_
                      refine q_Ru_seg (g2 := (19, [(0, .ref 64), (1, .int 0), (2, .int 3870), (3, .int v), (4, .int 0)], [], (q_cX q_AX q_IX q_J0, 40, 26520))) 3 (fun _ _ => rfl) ?_
                      exact q_Ru_ret rfl rfl
                    show q_Ru _ _ _ (16, [(0, .ref 64), (1, .int 3870), (2, .int v)], [], (q_cX q_AX q_IX q_J0, 40, 26520)) _
                    refine q_Ru_seg (g2 := (24, [(0, .ref 64), (1, .int 3870), (2, .int v)], [.int 0, .int v, .int 3870, .int 0, .ref 65], (q_cX q_AX q_IX q_J0, 40, 26520))) 6 (fun _ _ => rfl) ?_
                    refine q_Ru_call (v := (some (.int 0))) (h2 := (q_cX A93 I93 q_J0, 40, 26520)) rfl rfl ?_ ?_
                    · refine q_Ca_of (Nat.le_of_ble_eq_true rfl) ?_
                      refine q_Ru_seg (g2 := (74, [(0, .ref 65), (1, .int 0), (2, .int 3870), (3, .int v), (4, .int 0)], [.int v, .int 3870, .ref 66], (q_cX q_AX q_IX q_J0, 40, 26520))) 6 (fun _ _ => rfl) ?_
                      refine q_Ru_call (v := (some (.int 0))) (h2 := (q_cX A93 I93 q_J0, 40, 26520)) rfl rfl ?_ ?_
                      · refine q_Ca_of (Nat.le_of_ble_eq_true rfl) ?_
                        refine q_Ru_seg (g2 := (2, [(0, .ref 66), (1, .int 3870), (2, .int v)], [.int 3870, .ref 66], (q_cX q_AX q_IX q_J0, 40, 26520))) 2 (fun _ _ => rfl) ?_
                        refine q_Ru_call (v := (some (.int 0))) (h2 := (q_cX q_AX q_IX q_J0, 40, 26520)) rfl rfl ?_ ?_
                        · refine q_Ca_of (Nat.le_of_ble_eq_true rfl) ?_
                          refine q_Ru_seg (g2 := (27, [(2, .int 30), (0, .ref 66), (1, .int 3870)], [.int 0, .int 30, .ref 66], (q_cX q_AX q_IX q_J0, 40, 26520))) 16 (fun _ _ => rfl) ?_
                          refine q_Ru_call (v := (some (.int 0))) (h2 := (q_cX q_AX q_IX q_J0, 40, 26520)) rfl rfl ?_ ?_
                          · refine q_Ca_of (Nat.le_of_ble_eq_true rfl) ?_
                            refine q_Ru_seg (g2 := (183, [(0, .ref 66), (1, .int 30), (2, .int 0)], [.int 0], (q_cX q_AX q_IX q_J0, 40, 26520))) 3 (fun _ _ => rfl) ?_
                            exact q_Ru_ret rfl rfl
                          show q_Ru _ _ _ (30, [(2, .int 30), (0, .ref 66), (1, .int 3870)], [.int 0], (q_cX q_AX q_IX q_J0, 40, 26520)) _
                          exact q_Ru_ret rfl rfl
                        show q_Ru _ _ _ (5, [(0, .ref 66), (1, .int 3870), (2, .int v)], [.int 0], (q_cX q_AX q_IX q_J0, 40, 26520)) _
                        refine q_Ru_seg (g2 := (9, [(3, .int 0), (0, .ref 66), (1, .int 3870), (2, .int v)], [.int v, .int 3870, .ref 66], (q_cX q_AX q_IX q_J0, 40, 26520))) 4 (fun _ _ => rfl) ?_
                        refine q_Ru_call (v := none) (h2 := (q_cX A93 I93 q_J0, 40, 26520)) rfl rfl ?_ ?_
                        · exact p93.le (Nat.le_of_ble_eq_true rfl)
                        show q_Ru _ _ _ (12, [(3, .int 0), (0, .ref 66), (1, .int 3870), (2, .int v)], [], (q_cX A93 I93 q_J0, 40, 26520)) _
                        refine q_Ru_seg (g2 := (13, [(3, .int 0), (0, .ref 66), (1, .int 3870), (2, .int v)], [.int 0], (q_cX A93 I93 q_J0, 40, 26520))) 1 (fun _ _ => rfl) ?_
                        exact q_Ru_ret rfl rfl
                      show q_Ru _ _ _ (77, [(0, .ref 65), (1, .int 0), (2, .int 3870), (3, .int v), (4, .int 0)], [.int 0], (q_cX A93 I93 q_J0, 40, 26520)) _
                      exact q_Ru_ret rfl rfl
                    show q_Ru _ _ _ (27, [(0, .ref 64), (1, .int 3870), (2, .int v)], [.int 0], (q_cX A93 I93 q_J0, 40, 26520)) _
                    exact q_Ru_ret rfl rfl
                  show q_Ru _ _ _ (8, [(0, .ref 64), (1, .int 3870), (2, .int v), (3, .ref 103)], [.int 0, .int 0, .ref 103], (q_cX A93 I93 q_J0, 40, 26520)) _
                  refine q_Ru_seg (g2 := (22, [(0, .ref 64), (1, .int 3870), (2, .int v), (3, .ref 103)], [.int 0], (q_cX A93 I93 (q_uA q_J0 39 (vp_updL (fun _ => 0) 0 0)), 40, 26520))) 4 (fun _ _ => rfl) ?_
                  exact q_Ru_ret rfl rfl
                · refine q_Ca_of (Nat.le_of_ble_eq_true rfl) ?_
                  refine q_Ru_seg (g2 := (2, [(0, .ref 64), (1, .int 3870), (2, .int v)], [.int 3870, .ref 64], (q_cM q_AM q_IM q_J0, 34, 31630))) 2 (fun _ _ => rfl) ?_
                  refine q_Ru_call (v := (some (.int 0))) (h2 := (q_cM q_AM q_IM q_J0, 34, 31630)) rfl rfl ?_ ?_
                  · refine q_Ca_of (Nat.le_of_ble_eq_true rfl) ?_
                    refine q_Ru_seg (g2 := (5, [(0, .int 3870)], [.int 4095, .int 0, .int 3870], (q_cM q_AM q_IM q_J0, 34, 31630))) 3 (fun _ _ => rfl) ?_
                    refine q_Ru_call (v := (some (.int 1))) (h2 := (q_cM q_AM q_IM q_J0, 34, 31630)) rfl rfl ?_ ?_
                    · refine q_Ca_of (Nat.le_of_ble_eq_true rfl) ?_
                      refine q_Ru_seg (g2 := (15, [(0, .int 3870), (1, .int 0), (2, .int 4095)], [.int 1], (q_cM q_AM q_IM q_J0, 34, 31630))) 8 (fun _ _ => rfl) ?_
                      exact q_Ru_ret rfl rfl
                    show q_Ru _ _ _ (8, [(0, .int 3870)], [.int 1], (q_cM q_AM q_IM q_J0, 34, 31630)) _
                    refine q_Ru_seg (g2 := (16, [(0, .int 3870)], [.int 0], (q_cM q_AM q_IM q_J0, 34, 31630))) 2 (fun _ _ => rfl) ?_
                    exact q_Ru_ret rfl rfl
                  show q_Ru _ _ _ (5, [(0, .ref 64), (1, .int 3870), (2, .int v)], [.int 0, .ref 64], (q_cM q_AM q_IM q_J0, 34, 31630)) _
                  refine q_Ru_seg (g2 := (13, [(0, .ref 64), (1, .int 3870), (2, .int v)], [.int v, .ref 64], (q_cM q_AM q_IM q_J0, 34, 31630))) 2 (fun _ _ => rfl) ?_
                  refine q_Ru_call (v := (some (.int 0))) (h2 := (q_cM q_AM q_IM q_J0, 34, 31630)) rfl rfl ?_ ?_
                  · refine q_Ca_of (Nat.le_of_ble_eq_true rfl) ?_
                    refine q_Ru_seg (g2 := (5, [(0, .int v)], [.int 255, .int 0, .int v], (q_cM q_AM q_IM q_J0, 34, 31630))) 3 (fun _ _ => rfl) ?_
                    refine q_Ru_call (v := (some (.int 1))) (h2 := (q_cM q_AM q_IM q_J0, 34, 31630)) rfl rfl ?_ ?_
                    · refine q_Ca_of (Nat.le_of_ble_eq_true rfl) ?_
                      refine q_Ru_seg (g2 := (2, [(0, .int v), (1, .int 0), (2, .int 255)], [.int 0, .int v], (q_cM q_AM q_IM q_J0, 34, 31630))) 2 (fun _ _ => rfl) ?_
                      refine q_Ru_rsF (g2 := (5, [(0, .int v), (1, .int 0), (2, .int 255)], [], (q_cM q_AM q_IM q_J0, 34, 31630))) rfl rfl h233 ?_
                      refine q_Ru_seg (g2 := (7, [(0, .int v), (1, .int 0), (2, .int 255)], [.int 255, .int v], (q_cM q_AM q_IM q_J0, 34, 31630))) 2 (fun _ _ => rfl) ?_
                      refine q_Ru_rsF (g2 := (10, [(0, .int v), (1, .int 0), (2, .int 255)], [], (q_cM q_AM q_IM q_J0, 34, 31630))) rfl rfl h235 ?_
                      refine q_Ru_seg (g2 := (15, [(0, .int v), (1, .int 0), (2, .int 255)], [.int 1], (q_cM q_AM q_IM q_J0, 34, 31630))) 2 (fun _ _ => rfl) ?_
                      exact q_Ru_ret rfl rfl
                    show q_Ru _ _ _ (8, [(0, .int v)], [.int 1], (q_cM q_AM q_IM q_J0, 34, 31630)) _
                    refine q_Ru_seg (g2 := (16, [(0, .int v)], [.int 0], (q_cM q_AM q_IM q_J0, 34, 31630))) 2 (fun _ _ => rfl) ?_
                    exact q_Ru_ret rfl rfl
                  show q_Ru _ _ _ (16, [(0, .ref 64), (1, .int 3870), (2, .int v)], [.int 0, .ref 64], (q_cM q_AM q_IM q_J0, 34, 31630)) _
                  refine q_Ru_seg (g2 := (24, [(0, .ref 64), (1, .int 3870), (2, .int v)], [.int 0, .ref 64], (q_cM q_AM q_IM q_J0, 34, 31630))) 2 (fun _ _ => rfl) ?_
                  refine q_Ru_call (v := (some (.int 0))) (h2 := (q_cM q_AM (q_uI q_IM 0 39 0) q_J0, 34, 31630)) rfl rfl ?_ ?_
                  · refine q_Ca_of (Nat.le_of_ble_eq_true rfl) ?_
                    refine q_Ru_seg (g2 := (14, [(0, .ref 64), (1, .int 0)], [.int 0], (q_cM q_AM (q_uI q_IM 0 39 0) q_J0, 34, 31630))) 6 (fun _ _ => rfl) ?_
                    exact q_Ru_ret rfl rfl
                  show q_Ru _ _ _ (27, [(0, .ref 64), (1, .int 3870), (2, .int v)], [.int 0], (q_cM q_AM (q_uI q_IM 0 39 0) q_J0, 34, 31630)) _
                  refine q_Ru_seg (g2 := (34, [(0, .ref 64), (1, .int 3870), (2, .int v)], [.int 3870, .ref 64], (q_cM q_AM (q_uI q_IM 0 39 0) q_J0, 34, 31630))) 3 (fun _ _ => rfl) ?_
                  refine q_Ru_call (v := (some (.int 0))) (h2 := (q_cM q_AM (q_uI q_IM 0 39 0) q_J0, 34, 31630)) rfl rfl ?_ ?_
                  · refine q_Ca_of (Nat.le_of_ble_eq_true rfl) ?_
                    refine q_Ru_seg (g2 := (7, [(0, .ref 64), (1, .int 3870)], [.int 3887, .int 3840, .int 3870], (q_cM q_AM (q_uI q_IM 0 39 0) q_J0, 34, 31630))) 3 (fun _ _ => rfl) ?_
                    refine q_Ru_call (v := (some (.int 1))) (h2 := (q_cM q_AM (q_uI q_IM 0 39 0) q_J0, 34, 31630)) rfl rfl ?_ ?_
                    · refine q_Ca_of (Nat.le_of_ble_eq_true rfl) ?_
                      refine q_Ru_seg (g2 := (15, [(0, .int 3870), (1, .int 3840), (2, .int 3887)], [.int 1], (q_cM q_AM (q_uI q_IM 0 39 0) q_J0, 34, 31630))) 8 (fun _ _ => rfl) ?_
                      exact q_Ru_ret rfl rfl
                    show q_Ru _ _ _ (10, [(0, .ref 64), (1, .int 3870)], [.int 1], (q_cM q_AM (q_uI q_IM 0 39 0) q_J0, 34, 31630)) _
                    refine q_Ru_seg (g2 := (19, [(0, .ref 64), (1, .int 3870)], [.int 30, .ref 64], (q_cM q_AM (q_uI q_IM 0 39 0) q_J0, 34, 31630))) 5 (fun _ _ => rfl) ?_
                    refine q_Ru_call (v := (some (.int 0))) (h2 := (q_cM q_AM (q_uI q_IM 0 39 0) q_J0, 34, 31630)) rfl rfl ?_ ?_
                    · refine q_Ca_of (Nat.le_of_ble_eq_true rfl) ?_
                      refine q_Ru_seg (g2 := (30, [(0, .ref 64), (1, .int 30)], [.int 15, .int 12, .int 30], (q_cM q_AM (q_uI q_IM 0 39 0) q_J0, 34, 31630))) 9 (fun _ _ => rfl) ?_
                      refine q_Ru_call (v := (some (.int 0))) (h2 := (q_cM q_AM (q_uI q_IM 0 39 0) q_J0, 34, 31630)) rfl rfl ?_ ?_
                      · refine q_Ca_of (Nat.le_of_ble_eq_true rfl) ?_
                        refine q_Ru_seg (g2 := (15, [(0, .int 30), (1, .int 12), (2, .int 15)], [.int 0], (q_cM q_AM (q_uI q_IM 0 39 0) q_J0, 34, 31630))) 7 (fun _ _ => rfl) ?_
                        exact q_Ru_ret rfl rfl
                      show q_Ru _ _ _ (33, [(0, .ref 64), (1, .int 30)], [.int 0], (q_cM q_AM (q_uI q_IM 0 39 0) q_J0, 34, 31630)) _
                      refine q_Ru_seg (g2 := (107, [(0, .ref 64), (1, .int 30)], [.int 0], (q_cM q_AM (q_uI q_IM 0 39 0) q_J0, 34, 31630))) 11 (fun _ _ => rfl) ?_
                      exact q_Ru_ret rfl rfl
                    show q_Ru _ _ _ (22, [(0, .ref 64), (1, .int 3870)], [.int 0], (q_cM q_AM (q_uI q_IM 0 39 0) q_J0, 34, 31630)) _
                    exact q_Ru_ret rfl rfl
                  show q_Ru _ _ _ (37, [(0, .ref 64), (1, .int 3870), (2, .int v)], [.int 0], (q_cM q_AM (q_uI q_IM 0 39 0) q_J0, 34, 31630)) _
                  refine q_Ru_seg (g2 := (41, [(3, .int 0), (0, .ref 64), (1, .int 3870), (2, .int v)], [.int v, .int 3870, .ref 64], (q_cM q_AM (q_uI q_IM 0 39 0) q_J0, 34, 31630))) 4 (fun _ _ => rfl) ?_
                  refine q_Ru_call (v := none) (h2 := (q_cM A94 (q_uI q_IM 0 39 0) q_J0, 34, 31630)) rfl rfl ?_ ?_
                  · exact p94.le (Nat.le_of_ble_eq_true rfl)
                  show q_Ru _ _ _ (44, [(3, .int 0), (0, .ref 64), (1, .int 3870), (2, .int v)], [], (q_cM A94 (q_uI q_IM 0 39 0) q_J0, 34, 31630)) _
                  refine q_Ru_seg (g2 := (45, [(3, .int 0), (0, .ref 64), (1, .int 3870), (2, .int v)], [.ref 64], (q_cM A94 (q_uI q_IM 0 39 0) q_J0, 34, 31630))) 1 (fun _ _ => rfl) ?_
                  refine q_Ru_call (v := none) (h2 := (q_cM A94 (q_uI q_IM 0 39 0) q_J0, 34, 31630)) rfl rfl ?_ ?_
                  · refine q_Ca_of (Nat.le_of_ble_eq_true rfl) ?_
                    refine q_Ru_seg (g2 := (17, [(0, .ref 64)], [], (q_cM A94 (q_uI q_IM 0 39 0) q_J0, 34, 31630))) 3 (fun _ _ => rfl) ?_
                    exact q_Ru_ret rfl rfl
                  show q_Ru _ _ _ (48, [(3, .int 0), (0, .ref 64), (1, .int 3870), (2, .int v)], [], (q_cM A94 (q_uI q_IM 0 39 0) q_J0, 34, 31630)) _
                  refine q_Ru_seg (g2 := (49, [(3, .int 0), (0, .ref 64), (1, .int 3870), (2, .int v)], [.int 0], (q_cM A94 (q_uI q_IM 0 39 0) q_J0, 34, 31630))) 1 (fun _ _ => rfl) ?_
                  exact q_Ru_ret rfl rfl
              | 31, _, e249 =>
                have e249 : a = 3871 := e249
                subst e249
                obtain ⟨A95, I95, p95⟩ := q_p_write q_AX q_IX (40) (26520) 3871 v
                obtain ⟨A96, p96⟩ := q_p_writes (q_uA (q_uA (q_uA (q_uA (q_uA (q_uA (q_uA (q_uA q_AM 33 (upd (fun _ => 0) 0 0)) 33 (upd (upd (fun _ => 0) 0 0) 4 0)) 33 (upd (upd (upd (fun _ => 0) 0 0) 4 0) 1 0)) 33 (upd (upd (upd (upd (fun _ => 0) 0 0) 4 0) 1 0) 5 0)) 33 (upd (upd (upd (upd (upd (fun _ => 0) 0 0) 4 0) 1 0) 5 0) 2 0)) 33 (upd (upd (upd (upd (upd (upd (fun _ => 0) 0 0) 4 0) 1 0) 5 0) 2 0) 6 0)) 33 (upd (upd (upd (upd (upd (upd (upd (fun _ => 0) 0 0) 4 0) 1 0) 5 0) 2 0) 6 0) 3 0)) 33 (upd (upd (upd (upd (upd (upd (upd (upd (fun _ => 0) 0 0) 4 0) 1 0) 5 0) 2 0) 6 0) 3 0) 7 0)) (q_uI q_IM 0 39 0) (34) (31630) 3871 v (by decide) (by decide)
                refine ⟨0, 0, 0, ⟨(q_cX A95 I95 (q_uA q_J0 39 (vp_updL (fun _ => 0) 0 0)), 40, 26520), (q_uA q_J0 39 (vp_updL (fun _ => 0) 0 0)) 39, ?_, rfl, fun _ => rfl, Nat.le_of_ble_eq_true rfl, Nat.le_of_ble_eq_true rfl⟩, ⟨(q_cM A96 (q_uI q_IM 0 39 0) q_J0, 34, 31630), _, ?_, rfl, rfl, Nat.le_of_ble_eq_true rfl, Nat.le_of_ble_eq_true rfl⟩, fun _ => rfl⟩
                · refine q_Ca_of (Nat.le_of_ble_eq_true rfl) ?_
                  refine q_Ru_seg (g2 := (5, [(0, .ref 64), (1, .int 3871), (2, .int v), (3, .ref 103)], [.int v, .int 3871, .ref 64, .int 0, .ref 103], (q_cX q_AX q_IX q_J0, 40, 26520))) 5 (fun _ _ => rfl) ?_
                  refine q_Ru_call (v := (some (.int 0))) (h2 := (q_cX A95 I95 q_J0, 40, 26520)) rfl rfl ?_ ?_
                  · refine q_Ca_of (Nat.le_of_ble_eq_true rfl) ?_
                    refine q_Ru_seg (g2 := (1, [(0, .ref 64), (1, .int 3871), (2, .int v)], [.int 3871], (q_cX q_AX q_IX q_J0, 40, 26520))) 1 (fun _ _ => rfl) ?_
                    refine q_Ru_call (v := none) (h2 := (q_cX q_AX q_IX q_J0, 40, 26520)) rfl rfl ?_ ?_
                    · refine q_Ca_of (Nat.le_of_ble_eq_true rfl) ?_
                      refine q_Ru_seg (g2 := (4, [(0, .int 3871)], [.int 4096, .int 3871], (q_cX q_AX q_IX q_J0, 40, 26520))) 2 (fun _ _ => rfl) ?_
                      refine q_Ru_call (v := none) (h2 := (q_cX q_AX q_IX q_J0, 40, 26520)) rfl rfl ?_ ?_
                      · refine q_Ca_of (Nat.le_of_ble_eq_true rfl) ?_
                        refine q_Ru_seg (g2 := (19, [(0, .int 3871), (1, .int 4096)], [], (q_cX q_AX q_IX q_J0, 40, 26520))) 5 (fun _ _ => rfl) ?_
                        exact q_Ru_ret rfl rfl
                      show q_Ru _ _ _ (7, [(0, .int 3871)], [], (q_cX q_AX q_IX q_J0, 40, 26520)) _
                      exact q_Ru_ret rfl rfl
                    show q_Ru _ _ _ (4, [(0, .ref 64), (1, .int 3871), (2, .int v)], [], (q_cX q_AX q_IX q_J0, 40, 26520)) _
                    refine q_Ru_seg (g2 := (5, [(0, .ref 64), (1, .int 3871), (2, .int v)], [.int v], (q_cX q_AX q_IX q_J0, 40, 26520))) 1 (fun _ _ => rfl) ?_
                    refine q_Ru_call (v := none) (h2 := (q_cX q_AX q_IX q_J0, 40, 26520)) rfl rfl ?_ ?_
                    · refine q_Ca_of (Nat.le_of_ble_eq_true rfl) ?_
                      refine q_Ru_seg (g2 := (5, [(0, .int v)], [.int 255, .int 0, .int v], (q_cX q_AX q_IX q_J0, 40, 26520))) 3 (fun _ _ => rfl) ?_
                      refine q_Ru_call (v := none) (h2 := (q_cX q_AX q_IX q_J0, 40, 26520)) rfl rfl ?_ ?_
                      · refine q_Ca_of (Nat.le_of_ble_eq_true rfl) ?_
                        refine q_Ru_seg (g2 := (2, [(0, .int v), (1, .int 0), (2, .int 255)], [.int 0, .int v], (q_cX q_AX q_IX q_J0, 40, 26520))) 2 (fun _ _ => rfl) ?_
                        refine q_Ru_rsF (g2 := (5, [(0, .int v), (1, .int 0), (2, .int 255)], [], (q_cX q_AX q_IX q_J0, 40, 26520))) rfl rfl h233 ?_
                        refine q_Ru_seg (g2 := (7, [(0, .int v), (1, .int 0), (2, .int 255)], [.int 255, .int v], (q_cX q_AX q_IX q_J0, 40, 26520))) 2 (fun _ _ => rfl) ?_
                        refine q_Ru_rsT (g2 := (20, [(0, .int v), (1, .int 0), (2, .int 255)], [], (q_cX q_AX q_IX q_J0, 40, 26520))) rfl rfl (q_d_geF h235) ?_
                        exact q_Ru_ret rfl rfl
                      show q_Ru _ _ _ (8, [(0, .int v)], [], (q_cX q_AX q_IX q_J0, 40, 26520)) _
                      exact q_Ru_ret rfl rfl
                    show q_Ru _ _ _ (8, [(0, .ref 64), (1, .int 3871), (2, .int v)], [], (q_cX q_AX q_IX q_J0, 40, 26520)) _
                    refine q_Ru_seg (g2 := (13, [(0, .ref 64), (1, .int 3871), (2, .int v)], [.int 0, .int v, .int 3871, .int 0, .ref 64], (q_cX q_AX q_IX q_J0, 40, 26520))) 5 (fun _ _ => rfl) ?_
                    refine q_Ru_call (v := none) (h2 := (q_cX q_AX q_IX q_J0, 40, 26520)) rfl rfl ?_ ?_
                    · refine q_Ca_of (Nat.le_of_ble_eq_true rfl) ?_
                      refine q_Ru_seg (g2 := (19, [(0, .ref 64), (1, .int 0), (2, .int 3871), (3, .int v), (4, .int 0)], [], (q_cX q_AX q_IX q_J0, 40, 26520))) 3 (fun _ _ => rfl) ?_
                      exact q_Ru_ret rfl rfl
                    show q_Ru _ _ _ (16, [(0, .ref 64), (1, .int 3871), (2, .int v)], [], (q_cX q_AX q_IX q_J0, 40, 26520)) _
                    refine q_Ru_seg (g2 := (24, [(0, .ref 64), (1, .int 3871), (2, .int v)], [.int 0, .int v, .int 3871, .int 0, .ref 65], (q_cX q_AX q_IX q_J0, 40, 26520))) 6 (fun _ _ => rfl) ?_
                    refine q_Ru_call (v := (some (.int 0))) (h2 := (q_cX A95 I95 q_J0, 40, 26520)) rfl rfl ?_ ?_
                    · refine q_Ca_of (Nat.le_of_ble_eq_true rfl) ?_
                      refine q_Ru_seg (g2 := (74, [(0, .ref 65), (1, .int 0), (2, .int 3871), (3, .int v), (4, .int 0)], [.int v, .int 3871, .ref 66], (q_cX q_AX q_IX q_J0, 40, 26520))) 6 (fun _ _ => rfl) ?_
                      refine q_Ru_call (v := (some (.int 0))) (h2 := (q_cX A95 I95 q_J0, 40, 26520)) rfl rfl ?_ ?_
                      · refine q_Ca_of (Nat.le_of_ble_eq_true rfl) ?_
                        refine q_Ru_seg (g2 := (2, [(0, .ref 66), (1, .int 3871), (2, .int v)], [.int 3871, .ref 66], (q_cX q_AX q_IX q_J0, 40, 26520))) 2 (fun _ _ => rfl) ?_
                        refine q_Ru_call (v := (some (.int 0))) (h2 := (q_cX q_AX q_IX q_J0, 40, 26520)) rfl rfl ?_ ?_
                        · refine q_Ca_of (Nat.le_of_ble_eq_true rfl) ?_
                          refine q_Ru_seg (g2 := (27, [(2, .int 31), (0, .ref 66), (1, .int 3871)], [.int 0, .int 31, .ref 66], (q_cX q_AX q_IX q_J0, 40, 26520))) 16 (fun _ _ => rfl) ?_
                          refine q_Ru_call (v := (some (.int 0))) (h2 := (q_cX q_AX q_IX q_J0, 40, 26520)) rfl rfl ?_ ?_
                          · refine q_Ca_of (Nat.le_of_ble_eq_true rfl) ?_
                            refine q_Ru_seg (g2 := (146, [(0, .ref 66), (1, .int 31), (2, .int 0)], [.int 0], (q_cX q_AX q_IX q_J0, 40, 26520))) 15 (fun _ _ => rfl) ?_
                            exact q_Ru_ret rfl rfl
                          show q_Ru _ _ _ (30, [(2, .int 31), (0, .ref 66), (1, .int 3871)], [.int 0], (q_cX q_AX q_IX q_J0, 40, 26520)) _
                          exact q_Ru_ret rfl rfl
                        show q_Ru _ _ _ (5, [(0, .ref 66), (1, .int 3871), (2, .int v)], [.int 0], (q_cX q_AX q_IX q_J0, 40, 26520)) _
                        refine q_Ru_seg (g2 := (9, [(3, .int 0), (0, .ref 66), (1, .int 3871), (2, .int v)], [.int v, .int 3871, .ref 66], (q_cX q_AX q_IX q_J0, 40, 26520))) 4 (fun _ _ => rfl) ?_
                        refine q_Ru_call (v := none) (h2 := (q_cX A95 I95 q_J0, 40, 26520)) rfl rfl ?_ ?_
                        · exact p95.le (Nat.le_of_ble_eq_true rfl)
                        show q_Ru _ _ _ (12, [(3, .int 0), (0, .ref 66), (1, .int 3871), (2, .int v)], [], (q_cX A95 I95 q_J0, 40, 26520)) _
                        refine q_Ru_seg (g2 := (13, [(3, .int 0), (0, .ref 66), (1, .int 3871), (2, .int v)], [.int 0], (q_cX A95 I95 q_J0, 40, 26520))) 1 (fun _ _ => rfl) ?_
                        exact q_Ru_ret rfl rfl
                      show q_Ru _ _ _ (77, [(0, .ref 65), (1, .int 0), (2, .int 3871), (3, .int v), (4, .int 0)], [.int 0], (q_cX A95 I95 q_J0, 40, 26520)) _
                      exact q_Ru_ret rfl rfl
                    show q_Ru _ _ _ (27, [(0, .ref 64), (1, .int 3871), (2, .int v)], [.int 0], (q_cX A95 I95 q_J0, 40, 26520)) _
                    exact q_Ru_ret rfl rfl
                  show q_Ru _ _ _ (8, [(0, .ref 64), (1, .int 3871), (2, .int v), (3, .ref 103)], [.int 0, .int 0, .ref 103], (q_cX A95 I95 q_J0, 40, 26520)) _
                  refine q_Ru_seg (g2 := (22, [(0, .ref 64), (1, .int 3871), (2, .int v), (3, .ref 103)], [.int 0], (q_cX A95 I95 (q_uA q_J0 39 (vp_updL (fun _ => 0) 0 0)), 40, 26520))) 4 (fun _ _ => rfl) ?_
                  exact q_Ru_ret rfl rfl
                · refine q_Ca_of (Nat.le_of_ble_eq_true rfl) ?_
                  refine q_Ru_seg (g2 := (2, [(0, .ref 64), (1, .int 3871), (2, .int v)], [.int 3871, .ref 64], (q_cM q_AM q_IM q_J0, 34, 31630))) 2 (fun _ _ => rfl) ?_
                  refine q_Ru_call (v := (some (.int 0))) (h2 := (q_cM q_AM q_IM q_J0, 34, 31630)) rfl rfl ?_ ?_
                  · refine q_Ca_of (Nat.le_of_ble_eq_true rfl) ?_
                    refine q_Ru_seg (g2 := (5, [(0, .int 3871)], [.int 4095, .int 0, .int 3871], (q_cM q_AM q_IM q_J0, 34, 31630))) 3 (fun _ _ => rfl) ?_
                    refine q_Ru_call (v := (some (.int 1))) (h2 := (q_cM q_AM q_IM q_J0, 34, 31630)) rfl rfl ?_ ?_
                    · refine q_Ca_of (Nat.le_of_ble_eq_true rfl) ?_
                      refine q_Ru_seg (g2 := (15, [(0, .int 3871), (1, .int 0), (2, .int 4095)], [.int 1], (q_cM q_AM q_IM q_J0, 34, 31630))) 8 (fun _ _ => rfl) ?_
                      exact q_Ru_ret rfl rfl
                    show q_Ru _ _ _ (8, [(0, .int 3871)], [.int 1], (q_cM q_AM q_IM q_J0, 34, 31630)) _
                    refine q_Ru_seg (g2 := (16, [(0, .int 3871)], [.int 0], (q_cM q_AM q_IM q_J0, 34, 31630))) 2 (fun _ _ => rfl) ?_
                    exact q_Ru_ret rfl rfl
                  show q_Ru _ _ _ (5, [(0, .ref 64), (1, .int 3871), (2, .int v)], [.int 0, .ref 64], (q_cM q_AM q_IM q_J0, 34, 31630)) _
                  refine q_Ru_seg (g2 := (13, [(0, .ref 64), (1, .int 3871), (2, .int v)], [.int v, .ref 64], (q_cM q_AM q_IM q_J0, 34, 31630))) 2 (fun _ _ => rfl) ?_
                  refine q_Ru_call (v := (some (.int 0))) (h2 := (q_cM q_AM q_IM q_J0, 34, 31630)) rfl rfl ?_ ?_
                  · refine q_Ca_of (Nat.le_of_ble_eq_true rfl) ?_
                    refine q_Ru_seg (g2 := (5, [(0, .int v)], [.int 255, .int 0, .int v], (q_cM q_AM q_IM q_J0, 34, 31630))) 3 (fun _ _ => rfl) ?_
                    refine q_Ru_call (v := (some (.int 1))) (h2 := (q_cM q_AM q_IM q_J0, 34, 31630)) rfl rfl ?_ ?_
                    · refine q_Ca_of (Nat.le_of_ble_eq_true rfl) ?_
                      refine q_Ru_seg (g2 := (2, [(0, .int v), (1, .int 0), (2, .int 255)], [.int 0, .int v], (q_cM q_AM q_IM q_J0, 34, 31630))) 2 (fun _ _ => rfl) ?_
                      refine q_Ru_rsF (g2 := (5, [(0, .int v), (1, .int 0), (2, .int 255)], [], (q_cM q_AM q_IM q_J0, 34, 31630))) rfl rfl h233 ?_
                      refine q_Ru_seg (g2 := (7, [(0, .int v), (1, .int 0), (2, .int 255)], [.int 255, .int v], (q_cM q_AM q_IM q_J0, 34, 31630))) 2 (fun _ _ => rfl) ?_
                      refine q_Ru_rsF (g2 := (10, [(0, .int v), (1, .int 0), (2, .int 255)], [], (q_cM q_AM q_IM q_J0, 34, 31630))) rfl rfl h235 ?_
                      refine q_Ru_seg (g2 := (15, [(0, .int v), (1, .int 0), (2, .int 255)], [.int 1], (q_cM q_AM q_IM q_J0, 34, 31630))) 2 (fun _ _ => rfl) ?_
                      exact q_Ru_ret rfl rfl
                    show q_Ru _ _ _ (8, [(0, .int v)], [.int 1], (q_cM q_AM q_IM q_J0, 34, 31630)) _
                    refine q_Ru_seg (g2 := (16, [(0, .int v)], [.int 0], (q_cM q_AM q_IM q_J0, 34, 31630))) 2 (fun _ _ => rfl) ?_
                    exact q_Ru_ret rfl rfl
                  show q_Ru _ _ _ (16, [(0, .ref 64), (1, .int 3871), (2, .int v)], [.int 0, .ref 64], (q_cM q_AM q_IM q_J0, 34, 31630)) _
                  refine q_Ru_seg (g2 := (24, [(0, .ref 64), (1, .int 3871), (2, .int v)], [.int 0, .ref 64], (q_cM q_AM q_IM q_J0, 34, 31630))) 2 (fun _ _ => rfl) ?_
                  refine q_Ru_call (v := (some (.int 0))) (h2 := (q_cM q_AM (q_uI q_IM 0 39 0) q_J0, 34, 31630)) rfl rfl ?_ ?_
                  · refine q_Ca_of (Nat.le_of_ble_eq_true rfl) ?_
                    refine q_Ru_seg (g2 := (14, [(0, .ref 64), (1, .int 0)], [.int 0], (q_cM q_AM (q_uI q_IM 0 39 0) q_J0, 34, 31630))) 6 (fun _ _ => rfl) ?_
                    exact q_Ru_ret rfl rfl
                  show q_Ru _ _ _ (27, [(0, .ref 64), (1, .int 3871), (2, .int v)], [.int 0], (q_cM q_AM (q_uI q_IM 0 39 0) q_J0, 34, 31630)) _
                  refine q_Ru_seg (g2 := (34, [(0, .ref 64), (1, .int 3871), (2, .int v)], [.int 3871, .ref 64], (q_cM q_AM (q_uI q_IM 0 39 0) q_J0, 34, 31630))) 3 (fun _ _ => rfl) ?_
                  refine q_Ru_call (v := (some (.int 0))) (h2 := (q_cM (q_uA (q_uA (q_uA (q_uA (q_uA (q_uA (q_uA (q_uA q_AM 33 (upd (fun _ => 0) 0 0)) 33 (upd (upd (fun _ => 0) 0 0) 4 0)) 33 (upd (upd (upd (fun _ => 0) 0 0) 4 0) 1 0)) 33 (upd (upd (upd (upd (fun _ => 0) 0 0) 4 0) 1 0) 5 0)) 33 (upd (upd (upd (upd (upd (fun _ => 0) 0 0) 4 0) 1 0) 5 0) 2 0)) 33 (upd (upd (upd (upd (upd (upd (fun _ => 0) 0 0) 4 0) 1 0) 5 0) 2 0) 6 0)) 33 (upd (upd (upd (upd (upd (upd (upd (fun _ => 0) 0 0) 4 0) 1 0) 5 0) 2 0) 6 0) 3 0)) 33 (upd (upd (upd (upd (upd (upd (upd (upd (fun _ => 0) 0 0) 4 0) 1 0) 5 0) 2 0) 6 0) 3 0) 7 0)) (q_uI q_IM 0 39 0) q_J0, 34, 31630)) rfl rfl ?_ ?_
                  · refine q_Ca_of (Nat.le_of_ble_eq_true rfl) ?_
                    refine q_Ru_seg (g2 := (7, [(0, .ref 64), (1, .int 3871)], [.int 3887, .int 3840, .int 3871], (q_cM q_AM (q_uI q_IM 0 39 0) q_J0, 34, 31630))) 3 (fun _ _ => rfl) ?_
                    refine q_Ru_call (v := (some (.int 1))) (h2 := (q_cM q_AM (q_uI q_IM 0 39 0) q_J0, 34, 31630)) rfl rfl ?_ ?_
                    · refine q_Ca_of (Nat.le_of_ble_eq_true rfl) ?_
                      refine q_Ru_seg (g2 := (15, [(0, .int 3871), (1, .int 3840), (2, .int 3887)], [.int 1], (q_cM q_AM (q_uI q_IM 0 39 0) q_J0, 34, 31630))) 8 (fun _ _ => rfl) ?_
                      exact q_Ru_ret rfl rfl
                    show q_Ru _ _ _ (10, [(0, .ref 64), (1, .int 3871)], [.int 1], (q_cM q_AM (q_uI q_IM 0 39 0) q_J0, 34, 31630)) _
                    refine q_Ru_seg (g2 := (19, [(0, .ref 64), (1, .int 3871)], [.int 31, .ref 64], (q_cM q_AM (q_uI q_IM 0 39 0) q_J0, 34, 31630))) 5 (fun _ _ => rfl) ?_
                    refine q_Ru_call (v := (some (.int 0))) (h2 := (q_cM (q_uA (q_uA (q_uA (q_uA (q_uA (q_uA (q_uA (q_uA q_AM 33 (upd (fun _ => 0) 0 0)) 33 (upd (upd (fun _ => 0) 0 0) 4 0)) 33 (upd (upd (upd (fun _ => 0) 0 0) 4 0) 1 0)) 33 (upd (upd (upd (upd (fun _ => 0) 0 0) 4 0) 1 0) 5 0)) 33 (upd (upd (upd (upd (upd (fun _ => 0) 0 0) 4 0) 1 0) 5 0) 2 0)) 33 (upd (upd (upd (upd (upd (upd (fun _ => 0) 0 0) 4 0) 1 0) 5 0) 2 0) 6 0)) 33 (upd (upd (upd (upd (upd (upd (upd (fun _ => 0) 0 0) 4 0) 1 0) 5 0) 2 0) 6 0) 3 0)) 33 (upd (upd (upd (upd (upd (upd (upd (upd (fun _ => 0) 0 0) 4 0) 1 0) 5 0) 2 0) 6 0) 3 0) 7 0)) (q_uI q_IM 0 39 0) q_J0, 34, 31630)) rfl rfl ?_ ?_
                    · refine q_Ca_of (Nat.le_of_ble_eq_true rfl) ?_
                      refine q_Ru_seg (g2 := (30, [(0, .ref 64), (1, .int 31)], [.int 15, .int 12, .int 31], (q_cM q_AM (q_uI q_IM 0 39 0) q_J0, 34, 31630))) 9 (fun _ _ => rfl) ?_
                      refine q_Ru_call (v := (some (.int 0))) (h2 := (q_cM q_AM (q_uI q_IM 0 39 0) q_J0, 34, 31630)) rfl rfl ?_ ?_
                      · refine q_Ca_of (Nat.le_of_ble_eq_true rfl) ?_
                        refine q_Ru_seg (g2 := (15, [(0, .int 31), (1, .int 12), (2, .int 15)], [.int 0], (q_cM q_AM (q_uI q_IM 0 39 0) q_J0, 34, 31630))) 7 (fun _ _ => rfl) ?_
                        exact q_Ru_ret rfl rfl
                      show q_Ru _ _ _ (33, [(0, .ref 64), (1, .int 31)], [.int 0], (q_cM q_AM (q_uI q_IM 0 39 0) q_J0, 34, 31630)) _
                      refine q_Ru_seg (g2 := (122, [(0, .ref 64), (1, .int 31)], [.int 0, .ref 64], (q_cM q_AM (q_uI q_IM 0 39 0) q_J0, 34, 31630))) 15 (fun _ _ => rfl) ?_
                      refine q_Ru_call (v := (some (.int 0))) (h2 := (q_cM (q_uA (q_uA (q_uA (q_uA (q_uA (q_uA (q_uA (q_uA q_AM 33 (upd (fun _ => 0) 0 0)) 33 (upd (upd (fun _ => 0) 0 0) 4 0)) 33 (upd (upd (upd (fun _ => 0) 0 0) 4 0) 1 0)) 33 (upd (upd (upd (upd (fun _ => 0) 0 0) 4 0) 1 0) 5 0)) 33 (upd (upd (upd (upd (upd (fun _ => 0) 0 0) 4 0) 1 0) 5 0) 2 0)) 33 (upd (upd (upd (upd (upd (upd (fun _ => 0) 0 0) 4 0) 1 0) 5 0) 2 0) 6 0)) 33 (upd (upd (upd (upd (upd (upd (upd (fun _ => 0) 0 0) 4 0) 1 0) 5 0) 2 0) 6 0) 3 0)) 33 (upd (upd (upd (upd (upd (upd (upd (upd (fun _ => 0) 0 0) 4 0) 1 0) 5 0) 2 0) 6 0) 3 0) 7 0)) (q_uI q_IM 0 39 0) q_J0, 34, 31630)) rfl rfl ?_ ?_
                      · refine q_Ca_of (Nat.le_of_ble_eq_true rfl) ?_
                        refine q_Ru_seg (g2 := (14, [(2, .int 0), (0, .ref 64), (1, .int 0)], [.int 0, .int 0, .int 0, .ref 97], (q_cM q_AM (q_uI q_IM 0 39 0) q_J0, 34, 31630))) 10 (fun _ _ => rfl) ?_
                        refine q_Ru_call (v := (some (.int 0))) (h2 := (q_cM q_AM (q_uI q_IM 0 39 0) q_J0, 34, 31630)) rfl rfl ?_ ?_
                        · refine q_Ca_of (Nat.le_of_ble_eq_true rfl) ?_
                          refine q_Ru_seg (g2 := (14, [(0, .int 0), (1, .int 0)], [.int 0], (q_cM q_AM (q_uI q_IM 0 39 0) q_J0, 34, 31630))) 8 (fun _ _ => rfl) ?_
                          exact q_Ru_ret rfl rfl
                        show q_Ru _ _ _ (17, [(2, .int 0), (0, .ref 64), (1, .int 0)], [.int 0, .int 0, .ref 97], (q_cM q_AM (q_uI q_IM 0 39 0) q_J0, 34, 31630)) _
                        refine q_Ru_seg (g2 := (14, [(2, .int 1), (0, .ref 64), (1, .int 0)], [.int 1, .int 0, .int 1, .ref 97], (q_cM (q_uA (q_uA q_AM 33 (upd (fun _ => 0) 0 0)) 33 (upd (upd (fun _ => 0) 0 0) 4 0)) (q_uI q_IM 0 39 0) q_J0, 34, 31630))) 18 (fun _ _ => rfl) ?_
                        refine q_Ru_call (v := (some (.int 0))) (h2 := (q_cM (q_uA (q_uA q_AM 33 (upd (fun _ => 0) 0 0)) 33 (upd (upd (fun _ => 0) 0 0) 4 0)) (q_uI q_IM 0 39 0) q_J0, 34, 31630)) rfl rfl ?_ ?_
                        · refine q_Ca_of (Nat.le_of_ble_eq_true rfl) ?_
                          refine q_Ru_seg (g2 := (14, [(0, .int 0), (1, .int 1)], [.int 0], (q_cM (q_uA (q_uA q_AM 33 (upd (fun _ => 0) 0 0)) 33 (upd (upd (fun _ => 0) 0 0) 4 0)) (q_uI q_IM 0 39 0) q_J0, 34, 31630))) 8 (fun _ _ => rfl) ?_
                          exact q_Ru_ret rfl rfl
                        show q_Ru _ _ _ (17, [(2, .int 1), (0, .ref 64), (1, .int 0)], [.int 0, .int 1, .ref 97], (q_cM (q_uA (q_uA q_AM 33 (upd (fun _ => 0) 0 0)) 33 (upd (upd (fun _ => 0) 0 0) 4 0)) (q_uI q_IM 0 39 0) q_J0, 34, 31630)) _
                        refine q_Ru_seg (g2 := (14, [(2, .int 2), (0, .ref 64), (1, .int 0)], [.int 2, .int 0, .int 2, .ref 97], (q_cM (q_uA (q_uA (q_uA (q_uA q_AM 33 (upd (fun _ => 0) 0 0)) 33 (upd (upd (fun _ => 0) 0 0) 4 0)) 33 (upd (upd (upd (fun _ => 0) 0 0) 4 0) 1 0)) 33 (upd (upd (upd (upd (fun _ => 0) 0 0) 4 0) 1 0) 5 0)) (q_uI q_IM 0 39 0) q_J0, 34, 31630))) 18 (fun _ _ => rfl) ?_
                        refine q_Ru_call (v := (some (.int 0))) (h2 := (q_cM (q_uA (q_uA (q_uA (q_uA q_AM 33 (upd (fun _ => 0) 0 0)) 33 (upd (upd (fun _ => 0) 0 0) 4 0)) 33 (upd (upd (upd (fun _ => 0) 0 0) 4 0) 1 0)) 33 (upd (upd (upd (upd (fun _ => 0) 0 0) 4 0) 1 0) 5 0)) (q_uI q_IM 0 39 0) q_J0, 34, 31630)) rfl rfl ?_ ?_
                        · refine q_Ca_of (Nat.le_of_ble_eq_true rfl) ?_
                          refine q_Ru_seg (g2 := (14, [(0, .int 0), (1, .int 2)], [.int 0], (q_cM (q_uA (q_uA (q_uA (q_uA q_AM 33 (upd (fun _ => 0) 0 0)) 33 (upd (upd (fun _ => 0) 0 0) 4 0)) 33 (upd (upd (upd (fun _ => 0) 0 0) 4 0) 1 0)) 33 (upd (upd (upd (upd (fun _ => 0) 0 0) 4 0) 1 0) 5 0)) (q_uI q_IM 0 39 0) q_J0, 34, 31630))) 8 (fun _ _ => rfl) ?_
                          exact q_Ru_ret rfl rfl
                        show q_Ru _ _ _ (17, [(2, .int 2), (0, .ref 64), (1, .int 0)], [.int 0, .int 2, .ref 97], (q_cM (q_uA (q_uA (q_uA (q_uA q_AM 33 (upd (fun _ => 0) 0 0)) 33 (upd (upd (fun _ => 0) 0 0) 4 0)) 33 (upd (upd (upd (fun _ => 0) 0 0) 4 0) 1 0)) 33 (upd (upd (upd (upd (fun _ => 0) 0 0) 4 0) 1 0) 5 0)) (q_uI q_IM 0 39 0) q_J0, 34, 31630)) _
                        refine q_Ru_seg (g2 := (14, [(2, .int 3), (0, .ref 64), (1, .int 0)], [.int 3, .int 0, .int 3, .ref 97], (q_cM (q_uA (q_uA (q_uA (q_uA (q_uA (q_uA q_AM 33 (upd (fun _ => 0) 0 0)) 33 (upd (upd (fun _ => 0) 0 0) 4 0)) 33 (upd (upd (upd (fun _ => 0) 0 0) 4 0) 1 0)) 33 (upd (upd (upd (upd (fun _ => 0) 0 0) 4 0) 1 0) 5 0)) 33 (upd (upd (upd (upd (upd (fun _ => 0) 0 0) 4 0) 1 0) 5 0) 2 0)) 33 (upd (upd (upd (upd (upd (upd (fun _ => 0) 0 0) 4 0) 1 0) 5 0) 2 0) 6 0)) (q_uI q_IM 0 39 0) q_J0, 34, 31630))) 18 (fun _ _ => rfl) ?_
                        refine q_Ru_call (v := (some (.int 0))) (h2 := (q_cM (q_uA (q_uA (q_uA (q_uA (q_uA (q_uA q_AM 33 (upd (fun _ => 0) 0 0)) 33 (upd (upd (fun _ => 0) 0 0) 4 0)) 33 (upd (upd (upd (fun _ => 0) 0 0) 4 0) 1 0)) 33 (upd (upd (upd (upd (fun _ => 0) 0 0) 4 0) 1 0) 5 0)) 33 (upd (upd (upd (upd (upd (fun _ => 0) 0 0) 4 0) 1 0) 5 0) 2 0)) 33 (upd (upd (upd (upd (upd (upd (fun _ => 0) 0 0) 4 0) 1 0) 5 0) 2 0) 6 0)) (q_uI q_IM 0 39 0) q_J0, 34, 31630)) rfl rfl ?_ ?_
                        · refine q_Ca_of (Nat.le_of_ble_eq_true rfl) ?_
                          refine q_Ru_seg (g2 := (14, [(0, .int 0), (1, .int 3)], [.int 0], (q_cM (q_uA (q_uA (q_uA (q_uA (q_uA (q_uA q_AM 33 (upd (fun _ => 0) 0 0)) 33 (upd (upd (fun _ => 0) 0 0) 4 0)) 33 (upd (upd (upd (fun _ => 0) 0 0) 4 0) 1 0)) 33 (upd (upd (upd (upd (fun _ => 0) 0 0) 4 0) 1 0) 5 0)) 33 (upd (upd (upd (upd (upd (fun _ => 0) 0 0) 4 0) 1 0) 5 0) 2 0)) 33 (upd (upd (upd (upd (upd (upd (fun _ => 0) 0 0) 4 0) 1 0) 5 0) 2 0) 6 0)) (q_uI q_IM 0 39 0) q_J0, 34, 31630))) 8 (fun _ _ => rfl) ?_
                          exact q_Ru_ret rfl rfl
                        show q_Ru _ _ _ (17, [(2, .int 3), (0, .ref 64), (1, .int 0)], [.int 0, .int 3, .ref 97], (q_cM (q_uA (q_uA (q_uA (q_uA (q_uA (q_uA q_AM 33 (upd (fun _ => 0) 0 0)) 33 (upd (upd (fun _ => 0) 0 0) 4 0)) 33 (upd (upd (upd (fun _ => 0) 0 0) 4 0) 1 0)) 33 (upd (upd (upd (upd (fun _ => 0) 0 0) 4 0) 1 0) 5 0)) 33 (upd (upd (upd (upd (upd (fun _ => 0) 0 0) 4 0) 1 0) 5 0) 2 0)) 33 (upd (upd (upd (upd (upd (upd (fun _ => 0) 0 0) 4 0) 1 0) 5 0) 2 0) 6 0)) (q_uI q_IM 0 39 0) q_J0, 34, 31630)) _
                        refine q_Ru_seg (g2 := (55, [(3, .int 3), (2, .int 0), (0, .ref 64), (1, .int 0)], [.int 0], (q_cM (q_uA (q_uA (q_uA (q_uA (q_uA (q_uA (q_uA (q_uA q_AM 33 (upd (fun _ => 0) 0 0)) 33 (upd (upd (fun _ => 0) 0 0) 4 0)) 33 (upd (upd (upd (fun _ => 0) 0 0) 4 0) 1 0)) 33 (upd (upd (upd (upd (fun _ => 0) 0 0) 4 0) 1 0) 5 0)) 33 (upd (upd (upd (upd (upd (fun _ => 0) 0 0) 4 0) 1 0) 5 0) 2 0)) 33 (upd (upd (upd (upd (upd (upd (fun _ => 0) 0 0) 4 0) 1 0) 5 0) 2 0) 6 0)) 33 (upd (upd (upd (upd (upd (upd (upd (fun _ => 0) 0 0) 4 0) 1 0) 5 0) 2 0) 6 0) 3 0)) 33 (upd (upd (upd (upd (upd (upd (upd (upd (fun _ => 0) 0 0) 4 0) 1 0) 5 0) 2 0) 6 0) 3 0) 7 0)) (q_uI q_IM 0 39 0) q_J0, 34, 31630))) 60 (fun _ _ => rfl) ?_
                        refine q_Ru_seg (g2 := (44, [(3, .int 9), (2, .int 0), (0, .ref 64), (1, .int 0)], [.int 9], (q_cM (q_uA (q_uA (q_uA (q_uA (q_uA (q_uA (q_uA (q_uA q_AM 33 (upd (fun _ => 0) 0 0)) 33 (upd (upd (fun _ => 0) 0 0) 4 0)) 33 (upd (upd (upd (fun _ => 0) 0 0) 4 0) 1 0)) 33 (upd (upd (upd (upd (fun _ => 0) 0 0) 4 0) 1 0) 5 0)) 33 (upd (upd (upd (upd (upd (fun _ => 0) 0 0) 4 0) 1 0) 5 0) 2 0)) 33 (upd (upd (upd (upd (upd (upd (fun _ => 0) 0 0) 4 0) 1 0) 5 0) 2 0) 6 0)) 33 (upd (upd (upd (upd (upd (upd (upd (fun _ => 0) 0 0) 4 0) 1 0) 5 0) 2 0) 6 0) 3 0)) 33 (upd (upd (upd (upd (upd (upd (upd (upd (fun _ => 0) 0 0) 4 0) 1 0) 5 0) 2 0) 6 0) 3 0) 7 0)) (q_uI q_IM 0 39 0) q_J0, 34, 31630))) 60 (fun _ _ => rfl) ?_
                        refine q_Ru_seg (g2 := (54, [(3, .int 14), (2, .int 0), (0, .ref 64), (1, .int 0)], [.int 14, .ref 71], (q_cM (q_uA (q_uA (q_uA (q_uA (q_uA (q_uA (q_uA (q_uA q_AM 33 (upd (fun _ => 0) 0 0)) 33 (upd (upd (fun _ => 0) 0 0) 4 0)) 33 (upd (upd (upd (fun _ => 0) 0 0) 4 0) 1 0)) 33 (upd (upd (upd (upd (fun _ => 0) 0 0) 4 0) 1 0) 5 0)) 33 (upd (upd (upd (upd (upd (fun _ => 0) 0 0) 4 0) 1 0) 5 0) 2 0)) 33 (upd (upd (upd (upd (upd (upd (fun _ => 0) 0 0) 4 0) 1 0) 5 0) 2 0) 6 0)) 33 (upd (upd (upd (upd (upd (upd (upd (fun _ => 0) 0 0) 4 0) 1 0) 5 0) 2 0) 6 0) 3 0)) 33 (upd (upd (upd (upd (upd (upd (upd (upd (fun _ => 0) 0 0) 4 0) 1 0) 5 0) 2 0) 6 0) 3 0) 7 0)) (q_uI q_IM 0 39 0) q_J0, 34, 31630))) 60 (fun _ _ => rfl) ?_
                        refine q_Ru_seg (g2 := (44, [(3, .int 3), (2, .int 1), (0, .ref 64), (1, .int 0)], [.int 3], (q_cM (q_uA (q_uA (q_uA (q_uA (q_uA (q_uA (q_uA (q_uA q_AM 33 (upd (fun _ => 0) 0 0)) 33 (upd (upd (fun _ => 0) 0 0) 4 0)) 33 (upd (upd (upd (fun _ => 0) 0 0) 4 0) 1 0)) 33 (upd (upd (upd (upd (fun _ => 0) 0 0) 4 0) 1 0) 5 0)) 33 (upd (upd (upd (upd (upd (fun _ => 0) 0 0) 4 0) 1 0) 5 0) 2 0)) 33 (upd (upd (upd (upd (upd (upd (fun _ => 0) 0 0) 4 0) 1 0) 5 0) 2 0) 6 0)) 33 (upd (upd (upd (upd (upd (upd (upd (fun _ => 0) 0 0) 4 0) 1 0) 5 0) 2 0) 6 0) 3 0)) 33 (upd (upd (upd (upd (upd (upd (upd (upd (fun _ => 0) 0 0) 4 0) 1 0) 5 0) 2 0) 6 0) 3 0) 7 0)) (q_uI q_IM 0 39 0) q_J0, 34, 31630))) 60 (fun _ _ => rfl) ?_
                        refine q_Ru_seg (g2 := (54, [(3, .int 8), (2, .int 1), (0, .ref 64), (1, .int 0)], [.int 8, .ref 71], (q_cM (q_uA (q_uA (q_uA (q_uA (q_uA (q_uA (q_uA (q_uA q_AM 33 (upd (fun _ => 0) 0 0)) 33 (upd (upd (fun _ => 0) 0 0) 4 0)) 33 (upd (upd (upd (fun _ => 0) 0 0) 4 0) 1 0)) 33 (upd (upd (upd (upd (fun _ => 0) 0 0) 4 0) 1 0) 5 0)) 33 (upd (upd (upd (upd (upd (fun _ => 0) 0 0) 4 0) 1 0) 5 0) 2 0)) 33 (upd (upd (upd (upd (upd (upd (fun _ => 0) 0 0) 4 0) 1 0) 5 0) 2 0) 6 0)) 33 (upd (upd (upd (upd (upd (upd (upd (fun _ => 0) 0 0) 4 0) 1 0) 5 0) 2 0) 6 0) 3 0)) 33 (upd (upd (upd (upd (upd (upd (upd (upd (fun _ => 0) 0 0) 4 0) 1 0) 5 0) 2 0) 6 0) 3 0) 7 0)) (q_uI q_IM 0 39 0) q_J0, 34, 31630))) 60 (fun _ _ => rfl) ?_
                        refine q_Ru_seg (g2 := (43, [(3, .int 14), (2, .int 1), (0, .ref 64), (1, .int 0)], [], (q_cM (q_uA (q_uA (q_uA (q_uA (q_uA (q_uA (q_uA (q_uA q_AM 33 (upd (fun _ => 0) 0 0)) 33 (upd (upd (fun _ => 0) 0 0) 4 0)) 33 (upd (upd (upd (fun _ => 0) 0 0) 4 0) 1 0)) 33 (upd (upd (upd (upd (fun _ => 0) 0 0) 4 0) 1 0) 5 0)) 33 (upd (upd (upd (upd (upd (fun _ => 0) 0 0) 4 0) 1 0) 5 0) 2 0)) 33 (upd (upd (upd (upd (upd (upd (fun _ => 0) 0 0) 4 0) 1 0) 5 0) 2 0) 6 0)) 33 (upd (upd (upd (upd (upd (upd (upd (fun _ => 0) 0 0) 4 0) 1 0) 5 0) 2 0) 6 0) 3 0)) 33 (upd (upd (upd (upd (upd (upd (upd (upd (fun _ => 0) 0 0) 4 0) 1 0) 5 0) 2 0) 6 0) 3 0) 7 0)) (q_uI q_IM 0 39 0) q_J0, 34, 31630))) 60 (fun _ _ => rfl) ?_
                        refine q_Ru_seg (g2 := (54, [(3, .int 2), (2, .int 2), (0, .ref 64), (1, .int 0)], [.int 2, .ref 71], (q_cM (q_uA (q_uA (q_uA (q_uA (q_uA (q_uA (q_uA (q_uA q_AM 33 (upd (fun _ => 0) 0 0)) 33 (upd (upd (fun _ => 0) 0 0) 4 0)) 33 (upd (upd (upd (fun _ => 0) 0 0) 4 0) 1 0)) 33 (upd (upd (upd (upd (fun _ => 0) 0 0) 4 0) 1 0) 5 0)) 33 (upd (upd (upd (upd (upd (fun _ => 0) 0 0) 4 0) 1 0) 5 0) 2 0)) 33 (upd (upd (upd (upd (upd (upd (fun _ => 0) 0 0) 4 0) 1 0) 5 0) 2 0) 6 0)) 33 (upd (upd (upd (upd (upd (upd (upd (fun _ => 0) 0 0) 4 0) 1 0) 5 0) 2 0) 6 0) 3 0)) 33 (upd (upd (upd (upd (upd (upd (upd (upd (fun _ => 0) 0 0) 4 0) 1 0) 5 0) 2 0) 6 0) 3 0) 7 0)) (q_uI q_IM 0 39 0) q_J0, 34, 31630))) 60 (fun _ _ => rfl) ?_
                        refine q_Ru_seg (g2 := (43, [(3, .int 8), (2, .int 2), (0, .ref 64), (1, .int 0)], [], (q_cM (q_uA (q_uA (q_uA (q_uA (q_uA (q_uA (q_uA (q_uA q_AM 33 (upd (fun _ => 0) 0 0)) 33 (upd (upd (fun _ => 0) 0 0) 4 0)) 33 (upd (upd (upd (fun _ => 0) 0 0) 4 0) 1 0)) 33 (upd (upd (upd (upd (fun _ => 0) 0 0) 4 0) 1 0) 5 0)) 33 (upd (upd (upd (upd (upd (fun _ => 0) 0 0) 4 0) 1 0) 5 0) 2 0)) 33 (upd (upd (upd (upd (upd (upd (fun _ => 0) 0 0) 4 0) 1 0) 5 0) 2 0) 6 0)) 33 (upd (upd (upd (upd (upd (upd (upd (fun _ => 0) 0 0) 4 0) 1 0) 5 0) 2 0) 6 0) 3 0)) 33 (upd (upd (upd (upd (upd (upd (upd (upd (fun _ => 0) 0 0) 4 0) 1 0) 5 0) 2 0) 6 0) 3 0) 7 0)) (q_uI q_IM 0 39 0) q_J0, 34, 31630))) 60 (fun _ _ => rfl) ?_
                        refine q_Ru_seg (g2 := (53, [(3, .int 13), (2, .int 2), (0, .ref 64), (1, .int 0)], [.ref 71], (q_cM (q_uA (q_uA (q_uA (q_uA (q_uA (q_uA (q_uA (q_uA q_AM 33 (upd (fun _ => 0) 0 0)) 33 (upd (upd (fun _ => 0) 0 0) 4 0)) 33 (upd (upd (upd (fun _ => 0) 0 0) 4 0) 1 0)) 33 (upd (upd (upd (upd (fun _ => 0) 0 0) 4 0) 1 0) 5 0)) 33 (upd (upd (upd (upd (upd (fun _ => 0) 0 0) 4 0) 1 0) 5 0) 2 0)) 33 (upd (upd (upd (upd (upd (upd (fun _ => 0) 0 0) 4 0) 1 0) 5 0) 2 0) 6 0)) 33 (upd (upd (upd (upd (upd (upd (upd (fun _ => 0) 0 0) 4 0) 1 0) 5 0) 2 0) 6 0) 3 0)) 33 (upd (upd (upd (upd (upd (upd (upd (upd (fun _ => 0) 0 0) 4 0) 1 0) 5 0) 2 0) 6 0) 3 0) 7 0)) (q_uI q_IM 0 39 0) q_J0, 34, 31630))) 60 (fun _ _ => rfl) ?_
                        refine q_Ru_seg (g2 := (43, [(3, .int 2), (2, .int 3), (0, .ref 64), (1, .int 0)], [], (q_cM (q_uA (q_uA (q_uA (q_uA (q_uA (q_uA (q_uA (q_uA q_AM 33 (upd (fun _ => 0) 0 0)) 33 (upd (upd (fun _ => 0) 0 0) 4 0)) 33 (upd (upd (upd (fun _ => 0) 0 0) 4 0) 1 0)) 33 (upd (upd (upd (upd (fun _ => 0) 0 0) 4 0) 1 0) 5 0)) 33 (upd (upd (upd (upd (upd (fun _ => 0) 0 0) 4 0) 1 0) 5 0) 2 0)) 33 (upd (upd (upd (upd (upd (upd (fun _ => 0) 0 0) 4 0) 1 0) 5 0) 2 0) 6 0)) 33 (upd (upd (upd (upd (upd (upd (upd (fun _ => 0) 0 0) 4 0) 1 0) 5 0) 2 0) 6 0) 3 0)) 33 (upd (upd (upd (upd (upd (upd (upd (upd (fun _ => 0) 0 0) 4 0) 1 0) 5 0) 2 0) 6 0) 3 0) 7 0)) (q_uI q_IM 0 39 0) q_J0, 34, 31630))) 60 (fun _ _ => rfl) ?_
                        refine q_Ru_seg (g2 := (53, [(3, .int 7), (2, .int 3), (0, .ref 64), (1, .int 0)], [.ref 71], (q_cM (q_uA (q_uA (q_uA (q_uA (q_uA (q_uA (q_uA (q_uA q_AM 33 (upd (fun _ => 0) 0 0)) 33 (upd (upd (fun _ => 0) 0 0) 4 0)) 33 (upd (upd (upd (fun _ => 0) 0 0) 4 0) 1 0)) 33 (upd (upd (upd (upd (fun _ => 0) 0 0) 4 0) 1 0) 5 0)) 33 (upd (upd (upd (upd (upd (fun _ => 0) 0 0) 4 0) 1 0) 5 0) 2 0)) 33 (upd (upd (upd (upd (upd (upd (fun _ => 0) 0 0) 4 0) 1 0) 5 0) 2 0) 6 0)) 33 (upd (upd (upd (upd (upd (upd (upd (fun _ => 0) 0 0) 4 0) 1 0) 5 0) 2 0) 6 0) 3 0)) 33 (upd (upd (upd (upd (upd (upd (upd (upd (fun _ => 0) 0 0) 4 0) 1 0) 5 0) 2 0) 6 0) 3 0) 7 0)) (q_uI q_IM 0 39 0) q_J0, 34, 31630))) 60 (fun _ _ => rfl) ?_
                        refine q_Ru_seg (g2 := (117, [(3, .int 13), (2, .int 3), (0, .ref 64), (1, .int 0)], [], (q_cM (q_uA (q_uA (q_uA (q_uA (q_uA (q_uA (q_uA (q_uA q_AM 33 (upd (fun _ => 0) 0 0)) 33 (upd (upd (fun _ => 0) 0 0) 4 0)) 33 (upd (upd (upd (fun _ => 0) 0 0) 4 0) 1 0)) 33 (upd (upd (upd (upd (fun _ => 0) 0 0) 4 0) 1 0) 5 0)) 33 (upd (upd (upd (upd (upd (fun _ => 0) 0 0) 4 0) 1 0) 5 0) 2 0)) 33 (upd (upd (upd (upd (upd (upd (fun _ => 0) 0 0) 4 0) 1 0) 5 0) 2 0) 6 0)) 33 (upd (upd (upd (upd (upd (upd (upd (fun _ => 0) 0 0) 4 0) 1 0) 5 0) 2 0) 6 0) 3 0)) 33 (upd (upd (upd (upd (upd (upd (upd (upd (fun _ => 0) 0 0) 4 0) 1 0) 5 0) 2 0) 6 0) 3 0) 7 0)) (q_uI q_IM 0 39 0) q_J0, 34, 31630))) 60 (fun _ _ => rfl) ?_
                        refine q_Ru_seg (g2 := (53, [(3, .int 1), (2, .int 4), (0, .ref 64), (1, .int 0)], [.ref 71], (q_cM (q_uA (q_uA (q_uA (q_uA (q_uA (q_uA (q_uA (q_uA q_AM 33 (upd (fun _ => 0) 0 0)) 33 (upd (upd (fun _ => 0) 0 0) 4 0)) 33 (upd (upd (upd (fun _ => 0) 0 0) 4 0) 1 0)) 33 (upd (upd (upd (upd (fun _ => 0) 0 0) 4 0) 1 0) 5 0)) 33 (upd (upd (upd (upd (upd (fun _ => 0) 0 0) 4 0) 1 0) 5 0) 2 0)) 33 (upd (upd (upd (upd (upd (upd (fun _ => 0) 0 0) 4 0) 1 0) 5 0) 2 0) 6 0)) 33 (upd (upd (upd (upd (upd (upd (upd (fun _ => 0) 0 0) 4 0) 1 0) 5 0) 2 0) 6 0) 3 0)) 33 (upd (upd (upd (upd (upd (upd (upd (upd (fun _ => 0) 0 0) 4 0) 1 0) 5 0) 2 0) 6 0) 3 0) 7 0)) (q_uI q_IM 0 39 0) q_J0, 34, 31630))) 60 (fun _ _ => rfl) ?_
                        refine q_Ru_seg (g2 := (117, [(3, .int 7), (2, .int 4), (0, .ref 64), (1, .int 0)], [], (q_cM (q_uA (q_uA (q_uA (q_uA (q_uA (q_uA (q_uA (q_uA q_AM 33 (upd (fun _ => 0) 0 0)) 33 (upd (upd (fun _ => 0) 0 0) 4 0)) 33 (upd (upd (upd (fun _ => 0) 0 0) 4 0) 1 0)) 33 (upd (upd (upd (upd (fun _ => 0) 0 0) 4 0) 1 0) 5 0)) 33 (upd (upd (upd (upd (upd (fun _ => 0) 0 0) 4 0) 1 0) 5 0) 2 0)) 33 (upd (upd (upd (upd (upd (upd (fun _ => 0) 0 0) 4 0) 1 0) 5 0) 2 0) 6 0)) 33 (upd (upd (upd (upd (upd (upd (upd (fun _ => 0) 0 0) 4 0) 1 0) 5 0) 2 0) 6 0) 3 0)) 33 (upd (upd (upd (upd (upd (upd (upd (upd (fun _ => 0) 0 0) 4 0) 1 0) 5 0) 2 0) 6 0) 3 0) 7 0)) (q_uI q_IM 0 39 0) q_J0, 34, 31630))) 60 (fun _ _ => rfl) ?_
                        refine q_Ru_seg (g2 := (50, [(3, .int 12), (2, .int 4), (0, .ref 64), (1, .int 0)], [.ref 64], (q_cM (q_uA (q_uA (q_uA (q_uA (q_uA (q_uA (q_uA (q_uA q_AM 33 (upd (fun _ => 0) 0 0)) 33 (upd (upd (fun _ => 0) 0 0) 4 0)) 33 (upd (upd (upd (fun _ => 0) 0 0) 4 0) 1 0)) 33 (upd (upd (upd (upd (fun _ => 0) 0 0) 4 0) 1 0) 5 0)) 33 (upd (upd (upd (upd (upd (fun _ => 0) 0 0) 4 0) 1 0) 5 0) 2 0)) 33 (upd (upd (upd (upd (upd (upd (fun _ => 0) 0 0) 4 0) 1 0) 5 0) 2 0) 6 0)) 33 (upd (upd (upd (upd (upd (upd (upd (fun _ => 0) 0 0) 4 0) 1 0) 5 0) 2 0) 6 0) 3 0)) 33 (upd (upd (upd (upd (upd (upd (upd (upd (fun _ => 0) 0 0) 4 0) 1 0) 5 0) 2 0) 6 0) 3 0) 7 0)) (q_uI q_IM 0 39 0) q_J0, 34, 31630))) 60 (fun _ _ => rfl) ?_
                        refine q_Ru_seg (g2 := (117, [(3, .int 1), (2, .int 5), (0, .ref 64), (1, .int 0)], [], (q_cM (q_uA (q_uA (q_uA (q_uA (q_uA (q_uA (q_uA (q_uA q_AM 33 (upd (fun _ => 0) 0 0)) 33 (upd (upd (fun _ => 0) 0 0) 4 0)) 33 (upd (upd (upd (fun _ => 0) 0 0) 4 0) 1 0)) 33 (upd (upd (upd (upd (fun _ => 0) 0 0) 4 0) 1 0) 5 0)) 33 (upd (upd (upd (upd (upd (fun _ => 0) 0 0) 4 0) 1 0) 5 0) 2 0)) 33 (upd (upd (upd (upd (upd (upd (fun _ => 0) 0 0) 4 0) 1 0) 5 0) 2 0) 6 0)) 33 (upd (upd (upd (upd (upd (upd (upd (fun _ => 0) 0 0) 4 0) 1 0) 5 0) 2 0) 6 0) 3 0)) 33 (upd (upd (upd (upd (upd (upd (upd (upd (fun _ => 0) 0 0) 4 0) 1 0) 5 0) 2 0) 6 0) 3 0) 7 0)) (q_uI q_IM 0 39 0) q_J0, 34, 31630))) 60 (fun _ _ => rfl) ?_
                        refine q_Ru_seg (g2 := (50, [(3, .int 6), (2, .int 5), (0, .ref 64), (1, .int 0)], [.ref 64], (q_cM (q_uA (q_uA (q_uA (q_uA (q_uA (q_uA (q_uA (q_uA q_AM 33 (upd (fun _ => 0) 0 0)) 33 (upd (upd (fun _ => 0) 0 0) 4 0)) 33 (upd (upd (upd (fun _ => 0) 0 0) 4 0) 1 0)) 33 (upd (upd (upd (upd (fun _ => 0) 0 0) 4 0) 1 0) 5 0)) 33 (upd (upd (upd (upd (upd (fun _ => 0) 0 0) 4 0) 1 0) 5 0) 2 0)) 33 (upd (upd (upd (upd (upd (upd (fun _ => 0) 0 0) 4 0) 1 0) 5 0) 2 0) 6 0)) 33 (upd (upd (upd (upd (upd (upd (upd (fun _ => 0) 0 0) 4 0) 1 0) 5 0) 2 0) 6 0) 3 0)) 33 (upd (upd (upd (upd (upd (upd (upd (upd (fun _ => 0) 0 0) 4 0) 1 0) 5 0) 2 0) 6 0) 3 0) 7 0)) (q_uI q_IM 0 39 0) q_J0, 34, 31630))) 60 (fun _ _ => rfl) ?_
                        refine q_Ru_seg (g2 := (114, [(3, .int 11), (2, .int 5), (0, .ref 64), (1, .int 0)], [], (q_cM (q_uA (q_uA (q_uA (q_uA (q_uA (q_uA (q_uA (q_uA q_AM 33 (upd (fun _ => 0) 0 0)) 33 (upd (upd (fun _ => 0) 0 0) 4 0)) 33 (upd (upd (upd (fun _ => 0) 0 0) 4 0) 1 0)) 33 (upd (upd (upd (upd (fun _ => 0) 0 0) 4 0) 1 0) 5 0)) 33 (upd (upd (upd (upd (upd (fun _ => 0) 0 0) 4 0) 1 0) 5 0) 2 0)) 33 (upd (upd (upd (upd (upd (upd (fun _ => 0) 0 0) 4 0) 1 0) 5 0) 2 0) 6 0)) 33 (upd (upd (upd (upd (upd (upd (upd (fun _ => 0) 0 0) 4 0) 1 0) 5 0) 2 0) 6 0) 3 0)) 33 (upd (upd (upd (upd (upd (upd (upd (upd (fun _ => 0) 0 0) 4 0) 1 0) 5 0) 2 0) 6 0) 3 0) 7 0)) (q_uI q_IM 0 39 0) q_J0, 34, 31630))) 60 (fun _ _ => rfl) ?_
                        refine q_Ru_seg (g2 := (50, [(3, .int 0), (2, .int 6), (0, .ref 64), (1, .int 0)], [.ref 64], (q_cM (q_uA (q_uA (q_uA (q_uA (q_uA (q_uA (q_uA (q_uA q_AM 33 (upd (fun _ => 0) 0 0)) 33 (upd (upd (fun _ => 0) 0 0) 4 0)) 33 (upd (upd (upd (fun _ => 0) 0 0) 4 0) 1 0)) 33 (upd (upd (upd (upd (fun _ => 0) 0 0) 4 0) 1 0) 5 0)) 33 (upd (upd (upd (upd (upd (fun _ => 0) 0 0) 4 0) 1 0) 5 0) 2 0)) 33 (upd (upd (upd (upd (upd (upd (fun _ => 0) 0 0) 4 0) 1 0) 5 0) 2 0) 6 0)) 33 (upd (upd (upd (upd (upd (upd (upd (fun _ => 0) 0 0) 4 0) 1 0) 5 0) 2 0) 6 0) 3 0)) 33 (upd (upd (upd (upd (upd (upd (upd (upd (fun _ => 0) 0 0) 4 0) 1 0) 5 0) 2 0) 6 0) 3 0) 7 0)) (q_uI q_IM 0 39 0) q_J0, 34, 31630))) 60 (fun _ _ => rfl) ?_
                        refine q_Ru_seg (g2 := (114, [(3, .int 5), (2, .int 6), (0, .ref 64), (1, .int 0)], [], (q_cM (q_uA (q_uA (q_uA (q_uA (q_uA (q_uA (q_uA (q_uA q_AM 33 (upd (fun _ => 0) 0 0)) 33 (upd (upd (fun _ => 0) 0 0) 4 0)) 33 (upd (upd (upd (fun _ => 0) 0 0) 4 0) 1 0)) 33 (upd (upd (upd (upd (fun _ => 0) 0 0) 4 0) 1 0) 5 0)) 33 (upd (upd (upd (upd (upd (fun _ => 0) 0 0) 4 0) 1 0) 5 0) 2 0)) 33 (upd (upd (upd (upd (upd (upd (fun _ => 0) 0 0) 4 0) 1 0) 5 0) 2 0) 6 0)) 33 (upd (upd (upd (upd (upd (upd (upd (fun _ => 0) 0 0) 4 0) 1 0) 5 0) 2 0) 6 0) 3 0)) 33 (upd (upd (upd (upd (upd (upd (upd (upd (fun _ => 0) 0 0) 4 0) 1 0) 5 0) 2 0) 6 0) 3 0) 7 0)) (q_uI q_IM 0 39 0) q_J0, 34, 31630))) 60 (fun _ _ => rfl) ?_
                        refine q_Ru_seg (g2 := (49, [(3, .int 11), (2, .int 6), (0, .ref 64), (1, .int 0)], [], (q_cM (q_uA (q_uA (q_uA (q_uA (q_uA (q_uA (q_uA (q_uA q_AM 33 (upd (fun _ => 0) 0 0)) 33 (upd (upd (fun _ => 0) 0 0) 4 0)) 33 (upd (upd (upd (fun _ => 0) 0 0) 4 0) 1 0)) 33 (upd (upd (upd (upd (fun _ => 0) 0 0) 4 0) 1 0) 5 0)) 33 (upd (upd (upd (upd (upd (fun _ => 0) 0 0) 4 0) 1 0) 5 0) 2 0)) 33 (upd (upd (upd (upd (upd (upd (fun _ => 0) 0 0) 4 0) 1 0) 5 0) 2 0) 6 0)) 33 (upd (upd (upd (upd (upd (upd (upd (fun _ => 0) 0 0) 4 0) 1 0) 5 0) 2 0) 6 0) 3 0)) 33 (upd (upd (upd (upd (upd (upd (upd (upd (fun _ => 0) 0 0) 4 0) 1 0) 5 0) 2 0) 6 0) 3 0) 7 0)) (q_uI q_IM 0 39 0) q_J0, 34, 31630))) 60 (fun _ _ => rfl) ?_
                        refine q_Ru_seg (g2 := (41, [(2, .int 7), (3, .int 16), (0, .ref 64), (1, .int 0)], [], (q_cM (q_uA (q_uA (q_uA (q_uA (q_uA (q_uA (q_uA (q_uA q_AM 33 (upd (fun _ => 0) 0 0)) 33 (upd (upd (fun _ => 0) 0 0) 4 0)) 33 (upd (upd (upd (fun _ => 0) 0 0) 4 0) 1 0)) 33 (upd (upd (upd (upd (fun _ => 0) 0 0) 4 0) 1 0) 5 0)) 33 (upd (upd (upd (upd (upd (fun _ => 0) 0 0) 4 0) 1 0) 5 0) 2 0)) 33 (upd (upd (upd (upd (upd (upd (fun _ => 0) 0 0) 4 0) 1 0) 5 0) 2 0) 6 0)) 33 (upd (upd (upd (upd (upd (upd (upd (fun _ => 0) 0 0) 4 0) 1 0) 5 0) 2 0) 6 0) 3 0)) 33 (upd (upd (upd (upd (upd (upd (upd (upd (fun _ => 0) 0 0) 4 0) 1 0) 5 0) 2 0) 6 0) 3 0) 7 0)) (q_uI q_IM 0 39 0) q_J0, 34, 31630))) 60 (fun _ _ => rfl) ?_
                        refine q_Ru_seg (g2 := (49, [(3, .int 5), (2, .int 7), (0, .ref 64), (1, .int 0)], [], (q_cM (q_uA (q_uA (q_uA (q_uA (q_uA (q_uA (q_uA (q_uA q_AM 33 (upd (fun _ => 0) 0 0)) 33 (upd (upd (fun _ => 0) 0 0) 4 0)) 33 (upd (upd (upd (fun _ => 0) 0 0) 4 0) 1 0)) 33 (upd (upd (upd (upd (fun _ => 0) 0 0) 4 0) 1 0) 5 0)) 33 (upd (upd (upd (upd (upd (fun _ => 0) 0 0) 4 0) 1 0) 5 0) 2 0)) 33 (upd (upd (upd (upd (upd (upd (fun _ => 0) 0 0) 4 0) 1 0) 5 0) 2 0) 6 0)) 33 (upd (upd (upd (upd (upd (upd (upd (fun _ => 0) 0 0) 4 0) 1 0) 5 0) 2 0) 6 0) 3 0)) 33 (upd (upd (upd (upd (upd (upd (upd (upd (fun _ => 0) 0 0) 4 0) 1 0) 5 0) 2 0) 6 0) 3 0) 7 0)) (q_uI q_IM 0 39 0) q_J0, 34, 31630))) 60 (fun _ _ => rfl) ?_
                        refine q_Ru_seg (g2 := (58, [(3, .int 10), (2, .int 7), (0, .ref 64), (1, .int 0)], [], (q_cM (q_uA (q_uA (q_uA (q_uA (q_uA (q_uA (q_uA (q_uA q_AM 33 (upd (fun _ => 0) 0 0)) 33 (upd (upd (fun _ => 0) 0 0) 4 0)) 33 (upd (upd (upd (fun _ => 0) 0 0) 4 0) 1 0)) 33 (upd (upd (upd (upd (fun _ => 0) 0 0) 4 0) 1 0) 5 0)) 33 (upd (upd (upd (upd (upd (fun _ => 0) 0 0) 4 0) 1 0) 5 0) 2 0)) 33 (upd (upd (upd (upd (upd (upd (fun _ => 0) 0 0) 4 0) 1 0) 5 0) 2 0) 6 0)) 33 (upd (upd (upd (upd (upd (upd (upd (fun _ => 0) 0 0) 4 0) 1 0) 5 0) 2 0) 6 0) 3 0)) 33 (upd (upd (upd (upd (upd (upd (upd (upd (fun _ => 0) 0 0) 4 0) 1 0) 5 0) 2 0) 6 0) 3 0) 7 0)) (q_uI q_IM 0 39 0) q_J0, 34, 31630))) 60 (fun _ _ => rfl) ?_
                        refine q_Ru_seg (g2 := (46, [(3, .int 16), (2, .int 7), (0, .ref 64), (1, .int 0)], [.int 16, .int 16], (q_cM (q_uA (q_uA (q_uA (q_uA (q_uA (q_uA (q_uA (q_uA q_AM 33 (upd (fun _ => 0) 0 0)) 33 (upd (upd (fun _ => 0) 0 0) 4 0)) 33 (upd (upd (upd (fun _ => 0) 0 0) 4 0) 1 0)) 33 (upd (upd (upd (upd (fun _ => 0) 0 0) 4 0) 1 0) 5 0)) 33 (upd (upd (upd (upd (upd (fun _ => 0) 0 0) 4 0) 1 0) 5 0) 2 0)) 33 (upd (upd (upd (upd (upd (upd (fun _ => 0) 0 0) 4 0) 1 0) 5 0) 2 0) 6 0)) 33 (upd (upd (upd (upd (upd (upd (upd (fun _ => 0) 0 0) 4 0) 1 0) 5 0) 2 0) 6 0) 3 0)) 33 (upd (upd (upd (upd (upd (upd (upd (upd (fun _ => 0) 0 0) 4 0) 1 0) 5 0) 2 0) 6 0) 3 0) 7 0)) (q_uI q_IM 0 39 0) q_J0, 34, 31630))) 60 (fun _ _ => rfl) ?_
                        refine q_Ru_seg (g2 := (132, [(3, .int 3), (2, .int 0), (0, .ref 64), (1, .int 0)], [.int 4, .int 3], (q_cM (q_uA (q_uA (q_uA (q_uA (q_uA (q_uA (q_uA (q_uA q_AM 33 (upd (fun _ => 0) 0 0)) 33 (upd (upd (fun _ => 0) 0 0) 4 0)) 33 (upd (upd (upd (fun _ => 0) 0 0) 4 0) 1 0)) 33 (upd (upd (upd (upd (fun _ => 0) 0 0) 4 0) 1 0) 5 0)) 33 (upd (upd (upd (upd (upd (fun _ => 0) 0 0) 4 0) 1 0) 5 0) 2 0)) 33 (upd (upd (upd (upd (upd (upd (fun _ => 0) 0 0) 4 0) 1 0) 5 0) 2 0) 6 0)) 33 (upd (upd (upd (upd (upd (upd (upd (fun _ => 0) 0 0) 4 0) 1 0) 5 0) 2 0) 6 0) 3 0)) 33 (upd (upd (upd (upd (upd (upd (upd (upd (fun _ => 0) 0 0) 4 0) 1 0) 5 0) 2 0) 6 0) 3 0) 7 0)) (q_uI q_IM 0 39 0) q_J0, 34, 31630))) 60 (fun _ _ => rfl) ?_
                        refine q_Ru_seg (g2 := (163, [(3, .int 4), (2, .int 0), (0, .ref 64), (1, .int 0)], [.int 0], (q_cM (q_uA (q_uA (q_uA (q_uA (q_uA (q_uA (q_uA (q_uA q_AM 33 (upd (fun _ => 0) 0 0)) 33 (upd (upd (fun _ => 0) 0 0) 4 0)) 33 (upd (upd (upd (fun _ => 0) 0 0) 4 0) 1 0)) 33 (upd (upd (upd (upd (fun _ => 0) 0 0) 4 0) 1 0) 5 0)) 33 (upd (upd (upd (upd (upd (fun _ => 0) 0 0) 4 0) 1 0) 5 0) 2 0)) 33 (upd (upd (upd (upd (upd (upd (fun _ => 0) 0 0) 4 0) 1 0) 5 0) 2 0) 6 0)) 33 (upd (upd (upd (upd (upd (upd (upd (fun _ => 0) 0 0) 4 0) 1 0) 5 0) 2 0) 6 0) 3 0)) 33 (upd (upd (upd (upd (upd (upd (upd (upd (fun _ => 0) 0 0) 4 0) 1 0) 5 0) 2 0) 6 0) 3 0) 7 0)) (q_uI q_IM 0 39 0) q_J0, 34, 31630))) 18 (fun _ _ => rfl) ?_
                        exact q_Ru_ret rfl rfl
                      show q_Ru _ _ _ (125, [(0, .ref 64), (1, .int 31)], [.int 0], (q_cM (q_uA (q_uA (q_uA (q_uA (q_uA (q_uA (q_uA (q_uA q_AM 33 (upd (fun _ => 0) 0 0)) 33 (upd (upd (fun _ => 0) 0 0) 4 0)) 33 (upd (upd (upd (fun _ => 0) 0 0) 4 0) 1 0)) 33 (upd (upd (upd (upd (fun _ => 0) 0 0) 4 0) 1 0) 5 0)) 33 (upd (upd (upd (upd (upd (fun _ => 0) 0 0) 4 0) 1 0) 5 0) 2 0)) 33 (upd (upd (upd (upd (upd (upd (fun _ => 0) 0 0) 4 0) 1 0) 5 0) 2 0) 6 0)) 33 (upd (upd (upd (upd (upd (upd (upd (fun _ => 0) 0 0) 4 0) 1 0) 5 0) 2 0) 6 0) 3 0)) 33 (upd (upd (upd (upd (upd (upd (upd (upd (fun _ => 0) 0 0) 4 0) 1 0) 5 0) 2 0) 6 0) 3 0) 7 0)) (q_uI q_IM 0 39 0) q_J0, 34, 31630)) _
                      refine q_Ru_seg (g2 := (136, [(0, .ref 64), (1, .int 31)], [.int 0], (q_cM (q_uA (q_uA (q_uA (q_uA (q_uA (q_uA (q_uA (q_uA q_AM 33 (upd (fun _ => 0) 0 0)) 33 (upd (upd (fun _ => 0) 0 0) 4 0)) 33 (upd (upd (upd (fun _ => 0) 0 0) 4 0) 1 0)) 33 (upd (upd (upd (upd (fun _ => 0) 0 0) 4 0) 1 0) 5 0)) 33 (upd (upd (upd (upd (upd (fun _ => 0) 0 0) 4 0) 1 0) 5 0) 2 0)) 33 (upd (upd (upd (upd (upd (upd (fun _ => 0) 0 0) 4 0) 1 0) 5 0) 2 0) 6 0)) 33 (upd (upd (upd (upd (upd (upd (upd (fun _ => 0) 0 0) 4 0) 1 0) 5 0) 2 0) 6 0) 3 0)) 33 (upd (upd (upd (upd (upd (upd (upd (upd (fun _ => 0) 0 0) 4 0) 1 0) 5 0) 2 0) 6 0) 3 0) 7 0)) (q_uI q_IM 0 39 0) q_J0, 34, 31630))) 7 (fun _ _ => rfl) ?_
                      exact q_Ru_ret rfl rfl
                    show q_Ru _ _ _ (22, [(0, .ref 64), (1, .int 3871)], [.int 0], (q_cM (q_uA (q_uA (q_uA (q_uA (q_uA (q_uA (q_uA (q_uA q_AM 33 (upd (fun _ => 0) 0 0)) 33 (upd (upd (fun _ => 0) 0 0) 4 0)) 33 (upd (upd (upd (fun _ => 0) 0 0) 4 0) 1 0)) 33 (upd (upd (upd (upd (fun _ => 0) 0 0) 4 0) 1 0) 5 0)) 33 (upd (upd (upd (upd (upd (fun _ => 0) 0 0) 4 0) 1 0) 5 0) 2 0)) 33 (upd (upd (upd (upd (upd (upd (fun _ => 0) 0 0) 4 0) 1 0) 5 0) 2 0) 6 0)) 33 (upd (upd (upd (upd (upd (upd (upd (fun _ => 0) 0 0) 4 0) 1 0) 5 0) 2 0) 6 0) 3 0)) 33 (upd (upd (upd (upd (upd (upd (upd (upd (fun _ => 0) 0 0) 4 0) 1 0) 5 0) 2 0) 6 0) 3 0) 7 0)) (q_uI q_IM 0 39 0) q_J0, 34, 31630)) _
                    exact q_Ru_ret rfl rfl
                  show q_Ru _ _ _ (37, [(0, .ref 64), (1, .int 3871), (2, .int v)], [.int 0], (q_cM (q_uA (q_uA (q_uA (q_uA (q_uA (q_uA (q_uA (q_uA q_AM 33 (upd (fun _ => 0) 0 0)) 33 (upd (upd (fun _ => 0) 0 0) 4 0)) 33 (upd (upd (upd (fun _ => 0) 0 0) 4 0) 1 0)) 33 (upd (upd (upd (upd (fun _ => 0) 0 0) 4 0) 1 0) 5 0)) 33 (upd (upd (upd (upd (upd (fun _ => 0) 0 0) 4 0) 1 0) 5 0) 2 0)) 33 (upd (upd (upd (upd (upd (upd (fun _ => 0) 0 0) 4 0) 1 0) 5 0) 2 0) 6 0)) 33 (upd (upd (upd (upd (upd (upd (upd (fun _ => 0) 0 0) 4 0) 1 0) 5 0) 2 0) 6 0) 3 0)) 33 (upd (upd (upd (upd (upd (upd (upd (upd (fun _ => 0) 0 0) 4 0) 1 0) 5 0) 2 0) 6 0) 3 0) 7 0)) (q_uI q_IM 0 39 0) q_J0, 34, 31630)) _
                  refine q_Ru_seg (g2 := (41, [(3, .int 0), (0, .ref 64), (1, .int 3871), (2, .int v)], [.int v, .int 3871, .ref 64], (q_cM (q_uA (q_uA (q_uA (q_uA (q_uA (q_uA (q_uA (q_uA q_AM 33 (upd (fun _ => 0) 0 0)) 33 (upd (upd (fun _ => 0) 0 0) 4 0)) 33 (upd (upd (upd (fun _ => 0) 0 0) 4 0) 1 0)) 33 (upd (upd (upd (upd (fun _ => 0) 0 0) 4 0) 1 0) 5 0)) 33 (upd (upd (upd (upd (upd (fun _ => 0) 0 0) 4 0) 1 0) 5 0) 2 0)) 33 (upd (upd (upd (upd (upd (upd (fun _ => 0) 0 0) 4 0) 1 0) 5 0) 2 0) 6 0)) 33 (upd (upd (upd (upd (upd (upd (upd (fun _ => 0) 0 0) 4 0) 1 0) 5 0) 2 0) 6 0) 3 0)) 33 (upd (upd (upd (upd (upd (upd (upd (upd (fun _ => 0) 0 0) 4 0) 1 0) 5 0) 2 0) 6 0) 3 0) 7 0)) (q_uI q_IM 0 39 0) q_J0, 34, 31630))) 4 (fun _ _ => rfl) ?_
                  refine q_Ru_call (v := none) (h2 := (q_cM A96 (q_uI q_IM 0 39 0) q_J0, 34, 31630)) rfl rfl ?_ ?_
                  · exact p96.le (Nat.le_of_ble_eq_true rfl)
                  show q_Ru _ _ _ (44, [(3, .int 0), (0, .ref 64), (1, .int 3871), (2, .int v)], [], (q_cM A96 (q_uI q_IM 0 39 0) q_J0, 34, 31630)) _
                  refine q_Ru_seg (g2 := (45, [(3, .int 0), (0, .ref 64), (1, .int 3871), (2, .int v)], [.ref 64], (q_cM A96 (q_uI q_IM 0 39 0) q_J0, 34, 31630))) 1 (fun _ _ => rfl) ?_
                  refine q_Ru_call (v := none) (h2 := (q_cM A96 (q_uI q_IM 0 39 0) q_J0, 34, 31630)) rfl rfl ?_ ?_
                  · refine q_Ca_of (Nat.le_of_ble_eq_true rfl) ?_
                    refine q_Ru_seg (g2 := (17, [(0, .ref 64)], [], (q_cM A96 (q_uI q_IM 0 39 0) q_J0, 34, 31630))) 3 (fun _ _ => rfl) ?_
                    exact q_Ru_ret rfl rfl
                  show q_Ru _ _ _ (48, [(3, .int 0), (0, .ref 64), (1, .int 3871), (2, .int v)], [], (q_cM A96 (q_uI q_IM 0 39 0) q_J0, 34, 31630)) _
                  refine q_Ru_seg (g2 := (49, [(3, .int 0), (0, .ref 64), (1, .int 3871), (2, .int v)], [.int 0], (q_cM A96 (q_uI q_IM 0 39 0) q_J0, 34, 31630))) 1 (fun _ _ => rfl) ?_
                  exact q_Ru_ret rfl rfl
              | 32, _, e249 =>
                have e249 : a = 3872 := e249
                subst e249
                obtain ⟨A97, I97, p97⟩ := q_p_write q_AX q_IX (40) (26520) 3872 v
                obtain ⟨A98, p98⟩ := q_p_writes q_AM (q_uI q_IM 0 39 0) (34) (31630) 3872 v (by decide) (by decide)
                refine ⟨0, 0, 0, ⟨(q_cX A97 I97 (q_uA q_J0 39 (vp_updL (fun _ => 0) 0 0)), 40, 26520), (q_uA q_J0 39 (vp_updL (fun _ => 0) 0 0)) 39, ?_, rfl, fun _ => rfl, Nat.le_of_ble_eq_true rfl, Nat.le_of_ble_eq_true rfl⟩, ⟨(q_cM A98 (q_uI q_IM 0 39 0) q_J0, 34, 31630), _, ?_, rfl, rfl, Nat.le_of_ble_eq_true rfl, Nat.le_of_ble_eq_true rfl⟩, fun _ => rfl⟩
                · refine q_Ca_of (Nat.le_of_ble_eq_true rfl) ?_
                  refine q_Ru_seg (g2 := (5, [(0, .ref 64), (1, .int 3872), (2, .int v), (3, .ref 103)], [.int v, .int 3872, .ref 64, .int 0, .ref 103], (q_cX q_AX q_IX q_J0, 40, 26520))) 5 (fun _ _ => rfl) ?_
                  refine q_Ru_call (v := (some (.int 0))) (h2 := (q_cX A97 I97 q_J0, 40, 26520)) rfl rfl ?_ ?_
                  · refine q_Ca_of (Nat.le_of_ble_eq_true rfl) ?_
                    refine q_Ru_seg (g2 := (1, [(0, .ref 64), (1, .int 3872), (2, .int v)], [.int 3872], (q_cX q_AX q_IX q_J0, 40, 26520))) 1 (fun _ _ => rfl) ?_
                    refine q_Ru_call (v := none) (h2 := (q_cX q_AX q_IX q_J0, 40, 26520)) rfl rfl ?_ ?_
                    · refine q_Ca_of (Nat.le_of_ble_eq_true rfl) ?_
                      refine q_Ru_seg (g2 := (4, [(0, .int 3872)], [.int 4096, .int 3872], (q_cX q_AX q_IX q_J0, 40, 26520))) 2 (fun _ _ => rfl) ?_
                      refine q_Ru_call (v := none) (h2 := (q_cX q_AX q_IX q_J0, 40, 26520)) rfl rfl ?_ ?_
                      · refine q_Ca_of (Nat.le_of_ble_eq_true rfl) ?_
                        refine q_Ru_seg (g2 := (19, [(0, .int 3872), (1, .int 4096)], [], (q_cX q_AX q_IX q_J0, 40, 26520))) 5 (fun _ _ => rfl) ?_
                        exact q_Ru_ret rfl rfl
                      show q_Ru _ _ _ (7, [(0, .int 3872)], [], (q_cX q_AX q_IX q_J0, 40, 26520)) _
                      exact q_Ru_ret rfl rfl
                    show q_Ru _ _ _ (4, [(0, .ref 64), (1, .int 3872), (2, .int v)], [], (q_cX q_AX q_IX q_J0, 40, 26520)) _
                    refine q_Ru_seg (g2 := (5, [(0, .ref 64), (1, .int 3872), (2, .int v)], [.int v], (q_cX q_AX q_IX q_J0, 40, 26520))) 1 (fun _ _ => rfl) ?_
                    refine q_Ru_call (v := none) (h2 := (q_cX q_AX q_IX q_J0, 40, 26520)) rfl rfl ?_ ?_
                    · refine q_Ca_of (Nat.le_of_ble_eq_true rfl) ?_
                      refine q_Ru_seg (g2 := (5, [(0, .int v)], [.int 255, .int 0, .int v], (q_cX q_AX q_IX q_J0, 40, 26520))) 3 (fun _ _ => rfl) ?_
                      refine q_Ru_call (v := none) (h2 := (q_cX q_AX q_IX q_J0, 40, 26520)) rfl rfl ?_ ?_
                      · refine q_Ca_of (Nat.le_of_ble_eq_true rfl) ?_
                        refine q_Ru_seg (g2 := (2, [(0, .int v), (1, .int 0), (2, .int 255)], [.int 0, .int v], (q_cX q_AX q_IX q_J0, 40, 26520))) 2 (fun _ _ => rfl) ?_
                        refine q_Ru_rsF (g2 := (5, [(0, .int v), (1, .int 0), (2, .int 255)], [], (q_cX q_AX q_IX q_J0, 40, 26520))) rfl rfl h233 ?_
                        refine q_Ru_seg (g2 := (7, [(0, .int v), (1, .int 0), (2, .int 255)], [.int 255, .int v], (q_cX q_AX q_IX q_J0, 40, 26520))) 2 (fun _ _ => rfl) ?_
                        refine q_Ru_rsT (g2 := (20, [(0, .int v), (1, .int 0), (2, .int 255)], [], (q_cX q_AX q_IX q_J0, 40, 26520))) rfl rfl (q_d_geF h235) ?_
                        exact q_Ru_ret rfl rfl
                      show q_Ru _ _ _ (8, [(0, .int v)], [], (q_cX q_AX q_IX q_J0, 40, 26520)) _
                      exact q_Ru_ret rfl rfl
                    show q_Ru _ _ _ (8, [(0, .ref 64), (1, .int 3872), (2, .int v)], [], (q_cX q_AX q_IX q_J0, 40, 26520)) _
                    refine q_Ru_seg (g2 := (13, [(0, .ref 64), (1, .int 3872), (2, .int v)], [.int 0, .int v, .int 3872, .int 0, .ref 64], (q_cX q_AX q_IX q_J0, 40, 26520))) 5 (fun _ _ => rfl) ?_
                    refine q_Ru_call (v := none) (h2 := (q_cX q_AX q_IX q_J0, 40, 26520)) rfl rfl ?_ ?_
                    · refine q_Ca_of (Nat.le_of_ble_eq_true rfl) ?_
                      refine q_Ru_seg (g2 := (19, [(0, .ref 64), (1, .int 0), (2, .int 3872), (3, .int v), (4, .int 0)], [], (q_cX q_AX q_IX q_J0, 40, 26520))) 3 (fun _ _ => rfl) ?_
                      exact q_Ru_ret rfl rfl
                    show q_Ru _ _ _ (16, [(0, .ref 64), (1, .int 3872), (2, .int v)], [], (q_cX q_AX q_IX q_J0, 40, 26520)) _
                    refine q_Ru_seg (g2 := (24, [(0, .ref 64), (1, .int 3872), (2, .int v)], [.int 0, .int v, .int 3872, .int 0, .ref 65], (q_cX q_AX q_IX q_J0, 40, 26520))) 6 (fun _ _ => rfl) ?_
                    refine q_Ru_call (v := (some (.int 0))) (h2 := (q_cX A97 I97 q_J0, 40, 26520)) rfl rfl ?_ ?_
                    · refine q_Ca_of (Nat.le_of_ble_eq_true rfl) ?_
                      refine q_Ru_seg (g2 := (74, [(0, .ref 65), (1, .int 0), (2, .int 3872), (3, .int v), (4, .int 0)], [.int v, .int 3872, .ref 66], (q_cX q_AX q_IX q_J0, 40, 26520))) 6 (fun _ _ => rfl) ?_
                      refine q_Ru_call (v := (some (.int 0))) (h2 := (q_cX A97 I97 q_J0, 40, 26520)) rfl rfl ?_ ?_
                      · refine q_Ca_of (Nat.le_of_ble_eq_true rfl) ?_
                        refine q_Ru_seg (g2 := (2, [(0, .ref 66), (1, .int 3872), (2, .int v)], [.int 3872, .ref 66], (q_cX q_AX q_IX q_J0, 40, 26520))) 2 (fun _ _ => rfl) ?_
                        refine q_Ru_call (v := (some (.int 0))) (h2 := (q_cX q_AX q_IX q_J0, 40, 26520)) rfl rfl ?_ ?_
                        · refine q_Ca_of (Nat.le_of_ble_eq_true rfl) ?_
                          refine q_Ru_seg (g2 := (27, [(2, .int 32), (0, .ref 66), (1, .int 3872)], [.int 0, .int 32, .ref 66], (q_cX q_AX q_IX q_J0, 40, 26520))) 16 (fun _ _ => rfl) ?_
                          refine q_Ru_call (v := (some (.int 0))) (h2 := (q_cX q_AX q_IX q_J0, 40, 26520)) rfl rfl ?_ ?_
                          · refine q_Ca_of (Nat.le_of_ble_eq_true rfl) ?_
                            refine q_Ru_seg (g2 := (183, [(0, .ref 66), (1, .int 32), (2, .int 0)], [.int 0], (q_cX q_AX q_IX q_J0, 40, 26520))) 3 (fun _ _ => rfl) ?_
                            exact q_Ru_ret rfl rfl
                          show q_Ru _ _ _ (30, [(2, .int 32), (0, .ref 66), (1, .int 3872)], [.int 0], (q_cX q_AX q_IX q_J0, 40, 26520)) _
                          exact q_Ru_ret rfl rfl
                        show q_Ru _ _ _ (5, [(0, .ref 66), (1, .int 3872), (2, .int v)], [.int 0], (q_cX q_AX q_IX q_J0, 40, 26520)) _
                        refine q_Ru_seg (g2 := (9, [(3, .int 0), (0, .ref 66), (1, .int 3872), (2, .int v)], [.int v, .int 3872, .ref 66], (q_cX q_AX q_IX q_J0, 40, 26520))) 4 (fun _ _ => rfl) ?_
                        refine q_Ru_call (v := none) (h2 := (q_cX A97 I97 q_J0, 40, 26520)) rfl rfl ?_ ?_
                        · exact p97.le (Nat.le_of_ble_eq_true rfl)
                        show q_Ru _ _ _ (12, [(3, .int 0), (0, .ref 66), (1, .int 3872), (2, .int v)], [], (q_cX A97 I97 q_J0, 40, 26520)) _
                        refine q_Ru_seg (g2 := (13, [(3, .int 0), (0, .ref 66), (1, .int 3872), (2, .int v)], [.int 0], (q_cX A97 I97 q_J0, 40, 26520))) 1 (fun _ _ => rfl) ?_
                        exact q_Ru_ret rfl rfl
                      show q_Ru _ _ _ (77, [(0, .ref 65), (1, .int 0), (2, .int 3872), (3, .int v), (4, .int 0)], [.int 0], (q_cX A97 I97 q_J0, 40, 26520)) _
                      exact q_Ru_ret rfl rfl
                    show q_Ru _ _ _ (27, [(0, .ref 64), (1, .int 3872), (2, .int v)], [.int 0], (q_cX A97 I97 q_J0, 40, 26520)) _
                    exact q_Ru_ret rfl rfl
                  show q_Ru _ _ _ (8, [(0, .ref 64), (1, .int 3872), (2, .int v), (3, .ref 103)], [.int 0, .int 0, .ref 103], (q_cX A97 I97 q_J0, 40, 26520)) _
                  refine q_Ru_seg (g2 := (22, [(0, .ref 64), (1, .int 3872), (2, .int v), (3, .ref 103)], [.int 0], (q_cX A97 I97 (q_uA q_J0 39 (vp_updL (fun _ => 0) 0 0)), 40, 26520))) 4 (fun _ _ => rfl) ?_
                  exact q_Ru_ret rfl rfl
                · refine q_Ca_of (Nat.le_of_ble_eq_true rfl) ?_
                  refine q_Ru_seg (g2 := (2, [(0, .ref 64), (1, .int 3872), (2, .int v)], [.int 3872, .ref 64], (q_cM q_AM q_IM q_J0, 34, 31630))) 2 (fun _ _ => rfl) ?_
                  refine q_Ru_call (v := (some (.int 0))) (h2 := (q_cM q_AM q_IM q_J0, 34, 31630)) rfl rfl ?_ ?_
                  · refine q_Ca_of (Nat.le_of_ble_eq_true rfl) ?_
                    refine q_Ru_seg (g2 := (5, [(0, .int 3872)], [.int 4095, .int 0, .int 3872], (q_cM q_AM q_IM q_J0, 34, 31630))) 3 (fun _ _ => rfl) ?_
                    refine q_Ru_call (v := (some (.int 1))) (h2 := (q_cM q_AM q_IM q_J0, 34, 31630)) rfl rfl ?_ ?_
                    · refine q_Ca_of (Nat.le_of_ble_eq_true rfl) ?_
                      refine q_Ru_seg (g2 := (15, [(0, .int 3872), (1, .int 0), (2, .int 4095)], [.int 1], (q_cM q_AM q_IM q_J0, 34, 31630))) 8 (fun _ _ => rfl) ?_
                      exact q_Ru_ret rfl rfl
                    show q_Ru _ _ _ (8, [(0, .int 3872)], [.int 1], (q_cM q_AM q_IM q_J0, 34, 31630)) _
                    refine q_Ru_seg (g2 := (16, [(0, .int 3872)], [.int 0], (q_cM q_AM q_IM q_J0, 34, 31630))) 2 (fun _ _ => rfl) ?_
                    exact q_Ru_ret rfl rfl
                  show q_Ru _ _ _ (5, [(0, .ref 64), (1, .int 3872), (2, .int v)], [.int 0, .ref 64], (q_cM q_AM q_IM q_J0, 34, 31630)) _
                  refine q_Ru_seg (g2 := (13, [(0, .ref 64), (1, .int 3872), (2, .int v)], [.int v, .ref 64], (q_cM q_AM q_IM q_J0, 34, 31630))) 2 (fun _ _ => rfl) ?_
                  refine q_Ru_call (v := (some (.int 0))) (h2 := (q_cM q_AM q_IM q_J0, 34, 31630)) rfl rfl ?_ ?_
                  · refine q_Ca_of (Nat.le_of_ble_eq_true rfl) ?_
                    refine q_Ru_seg (g2 := (5, [(0, .int v)], [.int 255, .int 0, .int v], (q_cM q_AM q_IM q_J0, 34, 31630))) 3 (fun _ _ => rfl) ?_
                    refine q_Ru_call (v := (some (.int 1))) (h2 := (q_cM q_AM q_IM q_J0, 34, 31630)) rfl rfl ?_ ?_
                    · refine q_Ca_of (Nat.le_of_ble_eq_true rfl) ?_
                      refine q_Ru_seg (g2 := (2, [(0, .int v), (1, .int 0), (2, .int 255)], [.int 0, .int v], (q_cM q_AM q_IM q_J0, 34, 31630))) 2 (fun _ _ => rfl) ?_
                      refine q_Ru_rsF (g2 := (5, [(0, .int v), (1, .int 0), (2, .int 255)], [], (q_cM q_AM q_IM q_J0, 34, 31630))) rfl rfl h233 ?_
                      refine q_Ru_seg (g2 := (7, [(0, .int v), (1, .int 0), (2, .int 255)], [.int 255, .int v], (q_cM q_AM q_IM q_J0, 34, 31630))) 2 (fun _ _ => rfl) ?_
                      refine q_Ru_rsF (g2 := (10, [(0, .int v), (1, .int 0), (2, .int 255)], [], (q_cM q_AM q_IM q_J0, 34, 31630))) rfl rfl h235 ?_
                      refine q_Ru_seg (g2 := (15, [(0, .int v), (1, .int 0), (2, .int 255)], [.int 1], (q_cM q_AM q_IM q_J0, 34, 31630))) 2 (fun _ _ => rfl) ?_
                      exact q_Ru_ret rfl rfl
                    show q_Ru _ _ _ (8, [(0, .int v)], [.int 1], (q_cM q_AM q_IM q_J0, 34, 31630)) _
                    refine q_Ru_seg (g2 := (16, [(0, .int v)], [.int 0], (q_cM q_AM q_IM q_J0, 34, 31630))) 2 (fun _ _ => rfl) ?_
                    exact q_Ru_ret rfl rfl
                  show q_Ru _ _ _ (16, [(0, .ref 64), (1, .int 3872), (2, .int v)], [.int 0, .ref 64], (q_cM q_AM q_IM q_J0, 34, 31630)) _
                  refine q_Ru_seg (g2 := (24, [(0, .ref 64), (1, .int 3872), (2, .int v)], [.int 0, .ref 64], (q_cM q_AM q_IM q_J0, 34, 31630))) 2 (fun _ _ => rfl) ?_
                  refine q_Ru_call (v := (some (.int 0))) (h2 := (q_cM q_AM (q_uI q_IM 0 39 0) q_J0, 34, 31630)) rfl rfl ?_ ?_
                  · refine q_Ca_of (Nat.le_of_ble_eq_true rfl) ?_
                    refine q_Ru_seg (g2 := (14, [(0, .ref 64), (1, .int 0)], [.int 0], (q_cM q_AM (q_uI q_IM 0 39 0) q_J0, 34, 31630))) 6 (fun _ _ => rfl) ?_
                    exact q_Ru_ret rfl rfl
                  show q_Ru _ _ _ (27, [(0, .ref 64), (1, .int 3872), (2, .int v)], [.int 0], (q_cM q_AM (q_uI q_IM 0 39 0) q_J0, 34, 31630)) _
                  refine q_Ru_seg (g2 := (34, [(0, .ref 64), (1, .int 3872), (2, .int v)], [.int 3872, .ref 64], (q_cM q_AM (q_uI q_IM 0 39 0) q_J0, 34, 31630))) 3 (fun _ _ => rfl) ?_
                  refine q_Ru_call (v := (some (.int 0))) (h2 := (q_cM q_AM (q_uI q_IM 0 39 0) q_J0, 34, 31630)) rfl rfl ?_ ?_
                  · refine q_Ca_of (Nat.le_of_ble_eq_true rfl) ?_
                    refine q_Ru_seg (g2 := (7, [(0, .ref 64), (1, .int 3872)], [.int 3887, .int 3840, .int 3872], (q_cM q_AM (q_uI q_IM 0 39 0) q_J0, 34, 31630))) 3 (fun _ _ => rfl) ?_
                    refine q_Ru_call (v := (some (.int 1))) (h2 := (q_cM q_AM (q_uI q_IM 0 39 0) q_J0, 34, 31630)) rfl rfl ?_ ?_
                    · refine q_Ca_of (Nat.le_of_ble_eq_true rfl) ?_
                      refine q_Ru_seg (g2 := (15, [(0, .int 3872), (1, .int 3840), (2, .int 3887)], [.int 1], (q_cM q_AM (q_uI q_IM 0 39 0) q_J0, 34, 31630))) 8 (fun _ _ => rfl) ?_
                      exact q_Ru_ret rfl rfl
                    show q_Ru _ _ _ (10, [(0, .ref 64), (1, .int 3872)], [.int 1], (q_cM q_AM (q_uI q_IM 0 39 0) q_J0, 34, 31630)) _
                    refine q_Ru_seg (g2 := (19, [(0, .ref 64), (1, .int 3872)], [.int 32, .ref 64], (q_cM q_AM (q_uI q_IM 0 39 0) q_J0, 34, 31630))) 5 (fun _ _ => rfl) ?_
                    refine q_Ru_call (v := (some (.int 0))) (h2 := (q_cM q_AM (q_uI q_IM 0 39 0) q_J0, 34, 31630)) rfl rfl ?_ ?_
                    · refine q_Ca_of (Nat.le_of_ble_eq_true rfl) ?_
                      refine q_Ru_seg (g2 := (30, [(0, .ref 64), (1, .int 32)], [.int 15, .int 12, .int 32], (q_cM q_AM (q_uI q_IM 0 39 0) q_J0, 34, 31630))) 9 (fun _ _ => rfl) ?_
                      refine q_Ru_call (v := (some (.int 0))) (h2 := (q_cM q_AM (q_uI q_IM 0 39 0) q_J0, 34, 31630)) rfl rfl ?_ ?_
                      · refine q_Ca_of (Nat.le_of_ble_eq_true rfl) ?_
                        refine q_Ru_seg (g2 := (15, [(0, .int 32), (1, .int 12), (2, .int 15)], [.int 0], (q_cM q_AM (q_uI q_IM 0 39 0) q_J0, 34, 31630))) 7 (fun _ _ => rfl) ?_
                        exact q_Ru_ret rfl rfl
                      show q_Ru _ _ _ (33, [(0, .ref 64), (1, .int 32)], [.int 0], (q_cM q_AM (q_uI q_IM 0 39 0) q_J0, 34, 31630)) _
                      refine q_Ru_seg (g2 := (190, [(0, .ref 64), (1, .int 32)], [.int 0], (q_cM q_AM (q_uI q_IM 0 39 0) q_J0, 34, 31630))) 20 (fun _ _ => rfl) ?_
                      exact q_Ru_ret rfl rfl
                    show q_Ru _ _ _ (22, [(0, .ref 64), (1, .int 3872)], [.int 0], (q_cM q_AM (q_uI q_IM 0 39 0) q_J0, 34, 31630)) _
                    exact q_Ru_ret rfl rfl
                  show q_Ru _ _ _ (37, [(0, .ref 64), (1, .int 3872), (2, .int v)], [.int 0], (q_cM q_AM (q_uI q_IM 0 39 0) q_J0, 34, 31630)) _
                  refine q_Ru_seg (g2 := (41, [(3, .int 0), (0, .ref 64), (1, .int 3872), (2, .int v)], [.int v, .int 3872, .ref 64], (q_cM q_AM (q_uI q_IM 0 39 0) q_J0, 34, 31630))) 4 (fun _ _ => rfl) ?_
                  refine q_Ru_call (v := none) (h2 := (q_cM A98 (q_uI q_IM 0 39 0) q_J0, 34, 31630)) rfl rfl ?_ ?_
                  · exact p98.le (Nat.le_of_ble_eq_true rfl)
                  show q_Ru _ _ _ (44, [(3, .int 0), (0, .ref 64), (1, .int 3872), (2, .int v)], [], (q_cM A98 (q_uI q_IM 0 39 0) q_J0, 34, 31630)) _
                  refine q_Ru_seg (g2 := (45, [(3, .int 0), (0, .ref 64), (1, .int 3872), (2, .int v)], [.ref 64], (q_cM A98 (q_uI q_IM 0 39 0) q_J0, 34, 31630))) 1 (fun _ _ => rfl) ?_
                  refine q_Ru_call (v := none) (h2 := (q_cM A98 (q_uI q_IM 0 39 0) q_J0, 34, 31630)) rfl rfl ?_ ?_
                  · refine q_Ca_of (Nat.le_of_ble_eq_true rfl) ?_
                    refine q_Ru_seg (g2 := (17, [(0, .ref 64)], [], (q_cM A98 (q_uI q_IM 0 39 0) q_J0, 34, 31630))) 3 (fun _ _ => rfl) ?_
                    exact q_Ru_ret rfl rfl
                  show q_Ru _ _ _ (48, [(3, .int 0), (0, .ref 64), (1, .int 3872), (2, .int v)], [], (q_cM A98 (q_uI q_IM 0 39 0) q_J0, 34, 31630)) _
                  refine q_Ru_seg (g2 := (49, [(3, .int 0), (0, .ref 64), (1, .int 3872), (2, .int v)], [.int 0], (q_cM A98 (q_uI q_IM 0 39 0) q_J0, 34, 31630))) 1 (fun _ _ => rfl) ?_
                  exact q_Ru_ret rfl rfl
              | 33, _, e249 =>
                have e249 : a = 3873 := e249
                subst e249
                obtain ⟨A99, I99, p99⟩ := q_p_write q_AX q_IX (40) (26520) 3873 v
                obtain ⟨A100, p100⟩ := q_p_writes q_AM (q_uI q_IM 0 39 0) (34) (31630) 3873 v (by decide) (by decide)
                refine ⟨0, 0, 0, ⟨(q_cX A99 I99 (q_uA q_J0 39 (vp_updL (fun _ => 0) 0 0)), 40, 26520), (q_uA q_J0 39 (vp_updL (fun _ => 0) 0 0)) 39, ?_, rfl, fun _ => rfl, Nat.le_of_ble_eq_true rfl, Nat.le_of_ble_eq_true rfl⟩, ⟨(q_cM A100 (q_uI q_IM 0 39 0) q_J0, 34, 31630), _, ?_, rfl, rfl, Nat.le_of_ble_eq_true rfl, Nat.le_of_ble_eq_true rfl⟩, fun _ => rfl⟩
                · refine q_Ca_of (Nat.le_of_ble_eq_true rfl) ?_
                  refine q_Ru_seg (g2 := (5, [(0, .ref 64), (1, .int 3873), (2, .int v), (3, .ref 103)], [.int v, .int 3873, .ref 64, .int 0, .ref 103], (q_cX q_AX q_IX q_J0, 40, 26520))) 5 (fun _ _ => rfl) ?_
                  refine q_Ru_call (v := (some (.int 0))) (h2 := (q_cX A99 I99 q_J0, 40, 26520)) rfl rfl ?_ ?_
                  · refine q_Ca_of (Nat.le_of_ble_eq_true rfl) ?_
                    refine q_Ru_seg (g2 := (1, [(0, .ref 64), (1, .int 3873), (2, .int v)], [.int 3873], (q_cX q_AX q_IX q_J0, 40, 26520))) 1 (fun _ _ => rfl) ?_
                    refine q_Ru_call (v := none) (h2 := (q_cX q_AX q_IX q_J0, 40, 26520)) rfl rfl ?_ ?_
                    · refine q_Ca_of (Nat.le_of_ble_eq_true rfl) ?_
                      refine q_Ru_seg (g2 := (4, [(0, .int 3873)], [.int 4096, .int 3873], (q_cX q_AX q_IX q_J0, 40, 26520))) 2 (fun _ _ => rfl) ?_
                      refine q_Ru_call (v := none) (h2 := (q_cX q_AX q_IX q_J0, 40, 26520)) rfl rfl ?_ ?_
                      · refine q_Ca_of (Nat.le_of_ble_eq_true rfl) ?_
                        refine q_Ru_seg (g2 := (19, [(0, .int 3873), (1, .int 4096)], [], (q_cX q_AX q_IX q_J0, 40, 26520))) 5 (fun _ _ => rfl) ?_
                        exact q_Ru_ret rfl rfl
                      show q_Ru _ _ _ (7, [(0, .int 3873)], [], (q_cX q_AX q_IX q_J0, 40, 26520)) _
                      exact q_Ru_ret rfl rfl
                    show q_Ru _ _ _ (4, [(0, .ref 64), (1, .int 3873), (2, .int v)], [], (q_cX q_AX q_IX q_J0, 40, 26520)) _
                    refine q_Ru_seg (g2 := (5, [(0, .ref 64), (1, .int 3873), (2, .int v)], [.int v], (q_cX q_AX q_IX q_J0, 40, 26520))) 1 (fun _ _ => rfl) ?_
                    refine q_Ru_call (v := none) (h2 := (q_cX q_AX q_IX q_J0, 40, 26520)) rfl rfl ?_ ?_
                    · refine q_Ca_of (Nat.le_of_ble_eq_true rfl) ?_
                      refine q_Ru_seg (g2 := (5, [(0, .int v)], [.int 255, .int 0, .int v], (q_cX q_AX q_IX q_J0, 40, 26520))) 3 (fun _ _ => rfl) ?_
                      refine q_Ru_call (v := none) (h2 := (q_cX q_AX q_IX q_J0, 40, 26520)) rfl rfl ?_ ?_
                      · refine q_Ca_of (Nat.le_of_ble_eq_true rfl) ?_
                        refine q_Ru_seg (g2 := (2, [(0, .int v), (1, .int 0), (2, .int 255)], [.int 0, .int v], (q_cX q_AX q_IX q_J0, 40, 26520))) 2 (fun _ _ => rfl) ?_
                        refine q_Ru_rsF (g2 := (5, [(0, .int v), (1, .int 0), (2, .int 255)], [], (q_cX q_AX q_IX q_J0, 40, 26520))) rfl rfl h233 ?_
                        refine q_Ru_seg (g2 := (7, [(0, .int v), (1, .int 0), (2, .int 255)], [.int 255, .int v], (q_cX q_AX q_IX q_J0, 40, 26520))) 2 (fun _ _ => rfl) ?_
                        refine q_Ru_rsT (g2 := (20, [(0, .int v), (1, .int 0), (2, .int 255)], [], (q_cX q_AX q_IX q_J0, 40, 26520))) rfl rfl (q_d_geF h235) ?_
                        exact q_Ru_ret rfl rfl
                      show q_Ru _ _ _ (8, [(0, .int v)], [], (q_cX q_AX q_IX q_J0, 40, 26520)) _
                      exact q_Ru_ret rfl rfl
                    show q_Ru _ _ _ (8, [(0, .ref 64), (1, .int 3873), (2, .int v)], [], (q_cX q_AX q_IX q_J0, 40, 26520)) _
                    refine q_Ru_seg (g2 := (13, [(0, .ref 64), (1, .int 3873), (2, .int v)], [.int 0, .int v, .int 3873, .int 0, .ref 64], (q_cX q_AX q_IX q_J0, 40, 26520))) 5 (fun _ _ => rfl) ?_
                    refine q_Ru_call (v := none) (h2 := (q_cX q_AX q_IX q_J0, 40, 26520)) rfl rfl ?_ ?_
                    · refine q_Ca_of (Nat.le_of_ble_eq_true rfl) ?_
                      refine q_Ru_seg (g2 := (19, [(0, .ref 64), (1, .int 0), (2, .int 3873), (3, .int v), (4, .int 0)], [], (q_cX q_AX q_IX q_J0, 40, 26520))) 3 (fun _ _ => rfl) ?_
                      exact q_Ru_ret rfl rfl
                    show q_Ru _ _ _ (16, [(0, .ref 64), (1, .int 3873), (2, .int v)], [], (q_cX q_AX q_IX q_J0, 40, 26520)) _
                    refine q_Ru_seg (g2 := (24, [(0, .ref 64), (1, .int 3873), (2, .int v)], [.int 0, .int v, .int 3873, .int 0, .ref 65], (q_cX q_AX q_IX q_J0, 40, 26520))) 6 (fun _ _ => rfl) ?_
                    refine q_Ru_call (v := (some (.int 0))) (h2 := (q_cX A99 I99 q_J0, 40, 26520)) rfl rfl ?_ ?_
                    · refine q_Ca_of (Nat.le_of_ble_eq_true rfl) ?_
                      refine q_Ru_seg (g2 := (74, [(0, .ref 65), (1, .int 0), (2, .int 3873), (3, .int v), (4, .int 0)], [.int v, .int 3873, .ref 66], (q_cX q_AX q_IX q_J0, 40, 26520))) 6 (fun _ _ => rfl) ?_
                      refine q_Ru_call (v := (some (.int 0))) (h2 := (q_cX A99 I99 q_J0, 40, 26520)) rfl rfl ?_ ?_
                      · refine q_Ca_of (Nat.le_of_ble_eq_true rfl) ?_
                        refine q_Ru_seg (g2 := (2, [(0, .ref 66), (1, .int 3873), (2, .int v)], [.int 3873, .ref 66], (q_cX q_AX q_IX q_J0, 40, 26520))) 2 (fun _ _ => rfl) ?_
                        refine q_Ru_call (v := (some (.int 0))) (h2 := (q_cX q_AX q_IX q_J0, 40, 26520)) rfl rfl ?_ ?_
                        · refine q_Ca_of (Nat.le_of_ble_eq_true rfl) ?_
                          refine q_Ru_seg (g2 := (27, [(2, .int 33), (0, .ref 66), (1, .int 3873)], [.int 0, .int 33, .ref 66], (q_cX q_AX q_IX q_J0, 40, 26520))) 16 (fun _ _ => rfl) ?_
                          refine q_Ru_call (v := (some (.int 0))) (h2 := (q_cX q_AX q_IX q_J0, 40, 26520)) rfl rfl ?_ ?_
                          · refine q_Ca_of (Nat.le_of_ble_eq_true rfl) ?_
                            refine q_Ru_seg (g2 := (183, [(0, .ref 66), (1, .int 33), (2, .int 0)], [.int 0], (q_cX q_AX q_IX q_J0, 40, 26520))) 3 (fun _ _ => rfl) ?_
                            exact q_Ru_ret rfl rfl
                          show q_Ru _ _ _ (30, [(2, .int 33), (0, .ref 66), (1, .int 3873)], [.int 0], (q_cX q_AX q_IX q_J0, 40, 26520)) _
                          exact q_Ru_ret rfl rfl
                        show q_Ru _ _ _ (5, [(0, .ref 66), (1, .int 3873), (2, .int v)], [.int 0], (q_cX q_AX q_IX q_J0, 40, 26520)) _
                        refine q_Ru_seg (g2 := (9, [(3, .int 0), (0, .ref 66), (1, .int 3873), (2, .int v)], [.int v, .int 3873, .ref 66], (q_cX q_AX q_IX q_J0, 40, 26520))) 4 (fun _ _ => rfl) ?_
                        refine q_Ru_call (v := none) (h2 := (q_cX A99 I99 q_J0, 40, 26520)) rfl rfl ?_ ?_
                        · exact p99.le (Nat.le_of_ble_eq_true rfl)
                        show q_Ru _ _ _ (12, [(3, .int 0), (0, .ref 66), (1, .int 3873), (2, .int v)], [], (q_cX A99 I99 q_J0, 40, 26520)) _
                        refine q_Ru_seg (g2 := (13, [(3, .int 0), (0, .ref 66), (1, .int 3873), (2, .int v)], [.int 0], (q_cX A99 I99 q_J0, 40, 26520))) 1 (fun _ _ => rfl) ?_
                        exact q_Ru_ret rfl rfl
                      show q_Ru _ _ _ (77, [(0, .ref 65), (1, .int 0), (2, .int 3873), (3, .int v), (4, .int 0)], [.int 0], (q_cX A99 I99 q_J0, 40, 26520)) _
                      exact q_Ru_ret rfl rfl
                    show q_Ru _ _ _ (27, [(0, .ref 64), (1, .int 3873), (2, .int v)], [.int 0], (q_cX A99 I99 q_J0, 40, 26520)) _
                    exact q_Ru_ret rfl rfl
                  show q_Ru _ _ _ (8, [(0, .ref 64), (1, .int 3873), (2, .int v), (3, .ref 103)], [.int 0, .int 0, .ref 103], (q_cX A99 I99 q_J0, 40, 26520)) _
                  refine q_Ru_seg (g2 := (22, [(0, .ref 64), (1, .int 3873), (2, .int v), (3, .ref 103)], [.int 0], (q_cX A99 I99 (q_uA q_J0 39 (vp_updL (fun _ => 0) 0 0)), 40, 26520))) 4 (fun _ _ => rfl) ?_
                  exact q_Ru_ret rfl rfl
                · refine q_Ca_of (Nat.le_of_ble_eq_true rfl) ?_
                  refine q_Ru_seg (g2 := (2, [(0, .ref 64), (1, .int 3873), (2, .int v)], [.int 3873, .ref 64], (q_cM q_AM q_IM q_J0, 34, 31630))) 2 (fun _ _ => rfl) ?_
                  refine q_Ru_call (v := (some (.int 0))) (h2 := (q_cM q_AM q_IM q_J0, 34, 31630)) rfl rfl ?_ ?_
                  · refine q_Ca_of (Nat.le_of_ble_eq_true rfl) ?_
                    refine q_Ru_seg (g2 := (5, [(0, .int 3873)], [.int 4095, .int 0, .int 3873], (q_cM q_AM q_IM q_J0, 34, 31630))) 3 (fun _ _ => rfl) ?_
                    refine q_Ru_call (v := (some (.int 1))) (h2 := (q_cM q_AM q_IM q_J0, 34, 31630)) rfl rfl ?_ ?_
                    · refine q_Ca_of (Nat.le_of_ble_eq_true rfl) ?_
                      refine q_Ru_seg (g2 := (15, [(0, .int 3873), (1, .int 0), (2, .int 4095)], [.int 1], (q_cM q_AM q_IM q_J0, 34, 31630))) 8 (fun _ _ => rfl) ?_
                      exact q_Ru_ret rfl rfl
                    show q_Ru _ _ _ (8, [(0, .int 3873)], [.int 1], (q_cM q_AM q_IM q_J0, 34, 31630)) _
                    refine q_Ru_seg (g2 := (16, [(0, .int 3873)], [.int 0], (q_cM q_AM q_IM q_J0, 34, 31630))) 2 (fun _ _ => rfl) ?_
                    exact q_Ru_ret rfl rfl
                  show q_Ru _ _ _ (5, [(0, .ref 64), (1, .int 3873), (2, .int v)], [.int 0, .ref 64], (q_cM q_AM q_IM q_J0, 34, 31630)) _
                  refine q_Ru_seg (g2 := (13, [(0, .ref 64), (1, .int 3873), (2, .int v)], [.int v, .ref 64], (q_cM q_AM q_IM q_J0, 34, 31630))) 2 (fun _ _ => rfl) ?_
                  refine q_Ru_call (v := (some (.int 0))) (h2 := (q_cM q_AM q_IM q_J0, 34, 31630)) rfl rfl ?_ ?_
                  · refine q_Ca_of (Nat.le_of_ble_eq_true rfl) ?_
                    refine q_Ru_seg (g2 := (5, [(0, .int v)], [.int 255, .int 0, .int v], (q_cM q_AM q_IM q_J0, 34, 31630))) 3 (fun _ _ => rfl) ?_
                    refine q_Ru_call (v := (some (.int 1))) (h2 := (q_cM q_AM q_IM q_J0, 34, 31630)) rfl rfl ?_ ?_
                    · refine q_Ca_of (Nat.le_of_ble_eq_true rfl) ?_
                      refine q_Ru_seg (g2 := (2, [(0, .int v), (1, .int 0), (2, .int 255)], [.int 0, .int v], (q_cM q_AM q_IM q_J0, 34, 31630))) 2 (fun _ _ => rfl) ?_
                      refine q_Ru_rsF (g2 := (5, [(0, .int v), (1, .int 0), (2, .int 255)], [], (q_cM q_AM q_IM q_J0, 34, 31630))) rfl rfl h233 ?_
                      refine q_Ru_seg (g2 := (7, [(0, .int v), (1, .int 0), (2, .int 255)], [.int 255, .int v], (q_cM q_AM q_IM q_J0, 34, 31630))) 2 (fun _ _ => rfl) ?_
                      refine q_Ru_rsF (g2 := (10, [(0, .int v), (1, .int 0), (2, .int 255)], [], (q_cM q_AM q_IM q_J0, 34, 31630))) rfl rfl h235 ?_
                      refine q_Ru_seg (g2 := (15, [(0, .int v), (1, .int 0), (2, .int 255)], [.int 1], (q_cM q_AM q_IM q_J0, 34, 31630))) 2 (fun _ _ => rfl) ?_
                      exact q_Ru_ret rfl rfl
                    show q_Ru _ _ _ (8, [(0, .int v)], [.int 1], (q_cM q_AM q_IM q_J0, 34, 31630)) _
                    refine q_Ru_seg (g2 := (16, [(0, .int v)], [.int 0], (q_cM q_AM q_IM q_J0, 34, 31630))) 2 (fun _ _ => rfl) ?_
                    exact q_Ru_ret rfl rfl
                  show q_Ru _ _ _ (16, [(0, .ref 64), (1, .int 3873), (2, .int v)], [.int 0, .ref 64], (q_cM q_AM q_IM q_J0, 34, 31630)) _
                  refine q_Ru_seg (g2 := (24, [(0, .ref 64), (1, .int 3873), (2, .int v)], [.int 0, .ref 64], (q_cM q_AM q_IM q_J0, 34, 31630))) 2 (fun _ _ => rfl) ?_
                  refine q_Ru_call (v := (some (.int 0))) (h2 := (q_cM q_AM (q_uI q_IM 0 39 0) q_J0, 34, 31630)) rfl rfl ?_ ?_
                  · refine q_Ca_of (Nat.le_of_ble_eq_true rfl) ?_
                    refine q_Ru_seg (g2 := (14, [(0, .ref 64), (1, .int 0)], [.int 0], (q_cM q_AM (q_uI q_IM 0 39 0) q_J0, 34, 31630))) 6 (fun _ _ => rfl) ?_
                    exact q_Ru_ret rfl rfl
                  show q_Ru _ _ _ (27, [(0, .ref 64), (1, .int 3873), (2, .int v)], [.int 0], (q_cM q_AM (q_uI q_IM 0 39 0) q_J0, 34, 31630)) _
                  refine q_Ru_seg (g2 := (34, [(0, .ref 64), (1, .int 3873), (2, .int v)], [.int 3873, .ref 64], (q_cM q_AM (q_uI q_IM 0 39 0) q_J0, 34, 31630))) 3 (fun _ _ => rfl) ?_
                  refine q_Ru_call (v := (some (.int 0))) (h2 := (q_cM q_AM (q_uI q_IM 0 39 0) q_J0, 34, 31630)) rfl rfl ?_ ?_
                  · refine q_Ca_of (Nat.le_of_ble_eq_true rfl) ?_
                    refine q_Ru_seg (g2 := (7, [(0, .ref 64), (1, .int 3873)], [.int 3887, .int 3840, .int 3873], (q_cM q_AM (q_uI q_IM 0 39 0) q_J0, 34, 31630))) 3 (fun _ _ => rfl) ?_
                    refine q_Ru_call (v := (some (.int 1))) (h2 := (q_cM q_AM (q_uI q_IM 0 39 0) q_J0, 34, 31630)) rfl rfl ?_ ?_
                    · refine q_Ca_of (Nat.le_of_ble_eq_true rfl) ?_
                      refine q_Ru_seg (g2 := (15, [(0, .int 3873), (1, .int 3840), (2, .int 3887)], [.int 1], (q_cM q_AM (q_uI q_IM 0 39 0) q_J0, 34, 31630))) 8 (fun _ _ => rfl) ?_
                      exact q_Ru_ret rfl rfl
                    show q_Ru _ _ _ (10, [(0, .ref 64), (1, .int 3873)], [.int 1], (q_cM q_AM (q_uI q_IM 0 39 0) q_J0, 34, 31630)) _
                    refine q_Ru_seg (g2 := (19, [(0, .ref 64), (1, .int 3873)], [.int 33, .ref 64], (q_cM q_AM (q_uI q_IM 0 39 0) q_J0, 34, 31630))) 5 (fun _ _ => rfl) ?_
                    refine q_Ru_call (v := (some (.int 0))) (h2 := (q_cM q_AM (q_uI q_IM 0 39 0) q_J0, 34, 31630)) rfl rfl ?_ ?_
                    · refine q_Ca_of (Nat.le_of_ble_eq_true rfl) ?_
                      refine q_Ru_seg (g2 := (30, [(0, .ref 64), (1, .int 33)], [.int 15, .int 12, .int 33], (q_cM q_AM (q_uI q_IM 0 39 0) q_J0, 34, 31630))) 9 (fun _ _ => rfl) ?_
                      refine q_Ru_call (v := (some (.int 0))) (h2 := (q_cM q_AM (q_uI q_IM 0 39 0) q_J0, 34, 31630)) rfl rfl ?_ ?_
                      · refine q_Ca_of (Nat.le_of_ble_eq_true rfl) ?_
                        refine q_Ru_seg (g2 := (15, [(0, .int 33), (1, .int 12), (2, .int 15)], [.int 0], (q_cM q_AM (q_uI q_IM 0 39 0) q_J0, 34, 31630))) 7 (fun _ _ => rfl) ?_
                        exact q_Ru_ret rfl rfl
                      show q_Ru _ _ _ (33, [(0, .ref 64), (1, .int 33)], [.int 0], (q_cM q_AM (q_uI q_IM 0 39 0) q_J0, 34, 31630)) _
                      refine q_Ru_seg (g2 := (190, [(0, .ref 64), (1, .int 33)], [.int 0], (q_cM q_AM (q_uI q_IM 0 39 0) q_J0, 34, 31630))) 20 (fun _ _ => rfl) ?_
                      exact q_Ru_ret rfl rfl
                    show q_Ru _ _ _ (22, [(0, .ref 64), (1, .int 3873)], [.int 0], (q_cM q_AM (q_uI q_IM 0 39 0) q_J0, 34, 31630)) _
                    exact q_Ru_ret rfl rfl
                  show q_Ru _ _ _ (37, [(0, .ref 64), (1, .int 3873), (2, .int v)], [.int 0], (q_cM q_AM (q_uI q_IM 0 39 0) q_J0, 34, 31630)) _
                  refine q_Ru_seg (g2 := (41, [(3, .int 0), (0, .ref 64), (1, .int 3873), (2, .int v)], [.int v, .int 3873, .ref 64], (q_cM q_AM (q_uI q_IM 0 39 0) q_J0, 34, 31630))) 4 (fun _ _ => rfl) ?_
                  refine q_Ru_call (v := none) (h2 := (q_cM A100 (q_uI q_IM 0 39 0) q_J0, 34, 31630)) rfl rfl ?_ ?_
                  · exact p100.le (Nat.le_of_ble_eq_true rfl)
                  show q_Ru _ _ _ (44, [(3, .int 0), (0, .ref 64), (1, .int 3873), (2, .int v)], [], (q_cM A100 (q_uI q_IM 0 39 0) q_J0, 34, 31630)) _
                  refine q_Ru_seg (g2 := (45, [(3, .int 0), (0, .ref 64), (1, .int 3873), (2, .int v)], [.ref 64], (q_cM A100 (q_uI q_IM 0 39 0) q_J0, 34, 31630))) 1 (fun _ _ => rfl) ?_
                  refine q_Ru_call (v := none) (h2 := (q_cM A100 (q_uI q_IM 0 39 0) q_J0, 34, 31630)) rfl rfl ?_ ?_
                  · refine q_Ca_of (Nat.le_of_ble_eq_true rfl) ?_
                    refine q_Ru_seg (g2 := (17, [(0, .ref 64)], [], (q_cM A100 (q_uI q_IM 0 39 0) q_J0, 34, 31630))) 3 (fun _ _ => rfl) ?_
                    exact q_Ru_ret rfl rfl
                  show q_Ru _ _ _ (48, [(3, .int 0), (0, .ref 64), (1, .int 3873), (2, .int v)], [], (q_cM A100 (q_uI q_IM 0 39 0) q_J0, 34, 31630)) _
                  refine q_Ru_seg (g2 := (49, [(3, .int 0), (0, .ref 64), (1, .int 3873), (2, .int v)], [.int 0], (q_cM A100 (q_uI q_IM 0 39 0) q_J0, 34, 31630))) 1 (fun _ _ => rfl) ?_
                  exact q_Ru_ret rfl rfl
              | 34, _, e249 =>
                have e249 : a = 3874 := e249
                subst e249
                obtain ⟨A101, I101, p101⟩ := q_p_write q_AX q_IX (40) (26520) 3874 v
                obtain ⟨A102, p102⟩ := q_p_writes q_AM (q_uI q_IM 0 39 0) (34) (31630) 3874 v (by decide) (by decide)
                refine ⟨0, 0, 0, ⟨(q_cX A101 I101 (q_uA q_J0 39 (vp_updL (fun _ => 0) 0 0)), 40, 26520), (q_uA q_J0 39 (vp_updL (fun _ => 0) 0 0)) 39, ?_, rfl, fun _ => rfl, Nat.le_of_ble_eq_true rfl, Nat.le_of_ble_eq_true rfl⟩, ⟨(q_cM A102 (q_uI q_IM 0 39 0) q_J0, 34, 31630), _, ?_, rfl, rfl, Nat.le_of_ble_eq_true rfl, Nat.le_of_ble_eq_true rfl⟩, fun _ => rfl⟩
                · refine q_Ca_of (Nat.le_of_ble_eq_true rfl) ?_
                  refine q_Ru_seg (g2 := (5, [(0, .ref 64), (1, .int 3874), (2, .int v), (3, .ref 103)], [.int v, .int 3874, .ref 64, .int 0, .ref 103], (q_cX q_AX q_IX q_J0, 40, 26520))) 5 (fun _ _ => rfl) ?_
                  refine q_Ru_call (v := (some (.int 0))) (h2 := (q_cX A101 I101 q_J0, 40, 26520)) rfl rfl ?_ ?_
                  · refine q_Ca_of (Nat.le_of_ble_eq_true rfl) ?_
                    refine q_Ru_seg (g2 := (1, [(0, .ref 64), (1, .int 3874), (2, .int v)], [.int 3874], (q_cX q_AX q_IX q_J0, 40, 26520))) 1 (fun _ _ => rfl) ?_
                    refine q_Ru_call (v := none) (h2 := (q_cX q_AX q_IX q_J0, 40, 26520)) rfl rfl ?_ ?_
                    · refine q_Ca_of (Nat.le_of_ble_eq_true rfl) ?_
                      refine q_Ru_seg (g2 := (4, [(0, .int 3874)], [.int 4096, .int 3874], (q_cX q_AX q_IX q_J0, 40, 26520))) 2 (fun _ _ => rfl) ?_
                      refine q_Ru_call (v := none) (h2 := (q_cX q_AX q_IX q_J0, 40, 26520)) rfl rfl ?_ ?_
                      · refine q_Ca_of (Nat.le_of_ble_eq_true rfl) ?_
                        refine q_Ru_seg (g2 := (19, [(0, .int 3874), (1, .int 4096)], [], (q_cX q_AX q_IX q_J0, 40, 26520))) 5 (fun _ _ => rfl) ?_
                        exact q_Ru_ret rfl rfl
                      show q_Ru _ _ _ (7, [(0, .int 3874)], [], (q_cX q_AX q_IX q_J0, 40, 26520)) _
                      exact q_Ru_ret rfl rfl
                    show q_Ru _ _ _ (4, [(0, .ref 64), (1, .int 3874), (2, .int v)], [], (q_cX q_AX q_IX q_J0, 40, 26520)) _
                    refine q_Ru_seg (g2 := (5, [(0, .ref 64), (1, .int 3874), (2, .int v)], [.int v], (q_cX q_AX q_IX q_J0, 40, 26520))) 1 (fun _ _ => rfl) ?_
                    refine q_Ru_call (v := none) (h2 := (q_cX q_AX q_IX q_J0, 40, 26520)) rfl rfl ?_ ?_
                    · refine q_Ca_of (Nat.le_of_ble_eq_true rfl) ?_
                      refine q_Ru_seg (g2 := (5, [(0, .int v)], [.int 255, .int 0, .int v], (q_cX q_AX q_IX q_J0, 40, 26520))) 3 (fun _ _ => rfl) ?_
                      refine q_Ru_call (v := none) (h2 := (q_cX q_AX q_IX q_J0, 40, 26520)) rfl rfl ?_ ?_
                      · refine q_Ca_of (Nat.le_of_ble_eq_true rfl) ?_
                        refine q_Ru_seg (g2 := (2, [(0, .int v), (1, .int 0), (2, .int 255)], [.int 0, .int v], (q_cX q_AX q_IX q_J0, 40, 26520))) 2 (fun _ _ => rfl) ?_
                        refine q_Ru_rsF (g2 := (5, [(0, .int v), (1, .int 0), (2, .int 255)], [], (q_cX q_AX q_IX q_J0, 40, 26520))) rfl rfl h233 ?_
                        refine q_Ru_seg (g2 := (7, [(0, .int v), (1, .int 0), (2, .int 255)], [.int 255, .int v], (q_cX q_AX q_IX q_J0, 40, 26520))) 2 (fun _ _ => rfl) ?_
                        refine q_Ru_rsT (g2 := (20, [(0, .int v), (1, .int 0), (2, .int 255)], [], (q_cX q_AX q_IX q_J0, 40, 26520))) rfl rfl (q_d_geF h235) ?_
                        exact q_Ru_ret rfl rfl
                      show q_Ru _ _ _ (8, [(0, .int v)], [], (q_cX q_AX q_IX q_J0, 40, 26520)) _
                      exact q_Ru_ret rfl rfl
                    show q_Ru _ _ _ (8, [(0, .ref 64), (1, .int 3874), (2, .int v)], [], (q_cX q_AX q_IX q_J0, 40, 26520)) _
                    refine q_Ru_seg (g2 := (13, [(0, .ref 64), (1, .int 3874), (2, .int v)], [.int 0, .int v, .int 3874, .int 0, .ref 64], (q_cX q_AX q_IX q_J0, 40, 26520))) 5 (fun _ _ => rfl) ?_
                    refine q_Ru_call (v := none) (h2 := (q_cX q_AX q_IX q_J0, 40, 26520)) rfl rfl ?_ ?_
                    · refine q_Ca_of (Nat.le_of_ble_eq_true rfl) ?_
                      refine q_Ru_seg (g2 := (19, [(0, .ref 64), (1, .int 0), (2, .int 3874), (3, .int v), (4, .int 0)], [], (q_cX q_AX q_IX q_J0, 40, 26520))) 3 (fun _ _ => rfl) ?_
                      exact q_Ru_ret rfl rfl
                    show q_Ru _ _ _ (16, [(0, .ref 64), (1, .int 3874), (2, .int v)], [], (q_cX q_AX q_IX q_J0, 40, 26520)) _
                    refine q_Ru_seg (g2 := (24, [(0, .ref 64), (1, .int 3874), (2, .int v)], [.int 0, .int v, .int 3874, .int 0, .ref 65], (q_cX q_AX q_IX q_J0, 40, 26520))) 6 (fun _ _ => rfl) ?_
                    refine q_Ru_call (v := (some (.int 0))) (h2 := (q_cX A101 I101 q_J0, 40, 26520)) rfl rfl ?_ ?_
                    · refine q_Ca_of (Nat.le_of_ble_eq_true rfl) ?_
                      refine q_Ru_seg (g2 := (74, [(0, .ref 65), (1, .int 0), (2, .int 3874), (3, .int v), (4, .int 0)], [.int v, .int 3874, .ref 66], (q_cX q_AX q_IX q_J0, 40, 26520))) 6 (fun _ _ => rfl) ?_
                      refine q_Ru_call (v := (some (.int 0))) (h2 := (q_cX A101 I101 q_J0, 40, 26520)) rfl rfl ?_ ?_
                      · refine q_Ca_of (Nat.le_of_ble_eq_true rfl) ?_
                        refine q_Ru_seg (g2 := (2, [(0, .ref 66), (1, .int 3874), (2, .int v)], [.int 3874, .ref 66], (q_cX q_AX q_IX q_J0, 40, 26520))) 2 (fun _ _ => rfl) ?_
                        refine q_Ru_call (v := (some (.int 0))) (h2 := (q_cX q_AX q_IX q_J0, 40, 26520)) rfl rfl ?_ ?_
                        · refine q_Ca_of (Nat.le_of_ble_eq_true rfl) ?_
                          refine q_Ru_seg (g2 := (27, [(2, .int 34), (0, .ref 66), (1, .int 3874)], [.int 0, .int 34, .ref 66], (q_cX q_AX q_IX q_J0, 40, 26520))) 16 (fun _ _ => rfl) ?_
                          refine q_Ru_call (v := (some (.int 0))) (h2 := (q_cX q_AX q_IX q_J0, 40, 26520)) rfl rfl ?_ ?_
                          · refine q_Ca_of (Nat.le_of_ble_eq_true rfl) ?_
                            refine q_Ru_seg (g2 := (183, [(0, .ref 66), (1, .int 34), (2, .int 0)], [.int 0], (q_cX q_AX q_IX q_J0, 40, 26520))) 3 (fun _ _ => rfl) ?_
                            exact q_Ru_ret rfl rfl
                          show q_Ru _ _ _ (30, [(2, .int 34), (0, .ref 66), (1, .int 3874)], [.int 0], (q_cX q_AX q_IX q_J0, 40, 26520)) _
                          exact q_Ru_ret rfl rfl
                        show q_Ru _ _ _ (5, [(0, .ref 66), (1, .int 3874), (2, .int v)], [.int 0], (q_cX q_AX q_IX q_J0, 40, 26520)) _
                        refine q_Ru_seg (g2 := (9, [(3, .int 0), (0, .ref 66), (1, .int 3874), (2, .int v)], [.int v, .int 3874, .ref 66], (q_cX q_AX q_IX q_J0, 40, 26520))) 4 (fun _ _ => rfl) ?_
                        refine q_Ru_call (v := none) (h2 := (q_cX A101 I101 q_J0, 40, 26520)) rfl rfl ?_ ?_
                        · exact p101.le (Nat.le_of_ble_eq_true rfl)
                        show q_Ru _ _ _ (12, [(3, .int 0), (0, .ref 66), (1, .int 3874), (2, .int v)], [], (q_cX A101 I101 q_J0, 40, 26520)) _
                        refine q_Ru_seg (g2 := (13, [(3, .int 0), (0, .ref 66), (1, .int 3874), (2, .int v)], [.int 0], (q_cX A101 I101 q_J0, 40, 26520))) 1 (fun _ _ => rfl) ?_
                        exact q_Ru_ret rfl rfl
                      show q_Ru _ _ _ (77, [(0, .ref 65), (1, .int 0), (2, .int 3874), (3, .int v), (4, .int 0)], [.int 0], (q_cX A101 I101 q_J0, 40, 26520)) _
                      exact q_Ru_ret rfl rfl
                    show q_Ru _ _ _ (27, [(0, .ref 64), (1, .int 3874), (2, .int v)], [.int 0], (q_cX A101 I101 q_J0, 40, 26520)) _
                    exact q_Ru_ret rfl rfl
                  show q_Ru _ _ _ (8, [(0, .ref 64), (1, .int 3874), (2, .int v), (3, .ref 103)], [.int 0, .int 0, .ref 103], (q_cX A101 I101 q_J0, 40, 26520)) _
                  refine q_Ru_seg (g2 := (22, [(0, .ref 64), (1, .int 3874), (2, .int v), (3, .ref 103)], [.int 0], (q_cX A101 I101 (q_uA q_J0 39 (vp_updL (fun _ => 0) 0 0)), 40, 26520))) 4 (fun _ _ => rfl) ?_
                  exact q_Ru_ret rfl rfl
                · refine q_Ca_of (Nat.le_of_ble_eq_true rfl) ?_
                  refine q_Ru_seg (g2 := (2, [(0, .ref 64), (1, .int 3874), (2, .int v)], [.int 3874, .ref 64], (q_cM q_AM q_IM q_J0, 34, 31630))) 2 (fun _ _ => rfl) ?_
                  refine q_Ru_call (v := (some (.int 0))) (h2 := (q_cM q_AM q_IM q_J0, 34, 31630)) rfl rfl ?_ ?_
                  · refine q_Ca_of (Nat.le_of_ble_eq_true rfl) ?_
                    refine q_Ru_seg (g2 := (5, [(0, .int 3874)], [.int 4095, .int 0, .int 3874], (q_cM q_AM q_IM q_J0, 34, 31630))) 3 (fun _ _ => rfl) ?_
                    refine q_Ru_call (v := (some (.int 1))) (h2 := (q_cM q_AM q_IM q_J0, 34, 31630)) rfl rfl ?_ ?_
                    · refine q_Ca_of (Nat.le_of_ble_eq_true rfl) ?_
                      refine q_Ru_seg (g2 := (15, [(0, .int 3874), (1, .int 0), (2, .int 4095)], [.int 1], (q_cM q_AM q_IM q_J0, 34, 31630))) 8 (fun _ _ => rfl) ?_
                      exact q_Ru_ret rfl rfl
                    show q_Ru _ _ _ (8, [(0, .int 3874)], [.int 1], (q_cM q_AM q_IM q_J0, 34, 31630)) _
                    refine q_Ru_seg (g2 := (16, [(0, .int 3874)], [.int 0], (q_cM q_AM q_IM q_J0, 34, 31630))) 2 (fun _ _ => rfl) ?_
                    exact q_Ru_ret rfl rfl
                  show q_Ru _ _ _ (5, [(0, .ref 64), (1, .int 3874), (2, .int v)], [.int 0, .ref 64], (q_cM q_AM q_IM q_J0, 34, 31630)) _
                  refine q_Ru_seg (g2 := (13, [(0, .ref 64), (1, .int 3874), (2, .int v)], [.int v, .ref 64], (q_cM q_AM q_IM q_J0, 34, 31630))) 2 (fun _ _ => rfl) ?_
                  refine q_Ru_call (v := (some (.int 0))) (h2 := (q_cM q_AM q_IM q_J0, 34, 31630)) rfl rfl ?_ ?_
                  · refine q_Ca_of (Nat.le_of_ble_eq_true rfl) ?_
                    refine q_Ru_seg (g2 := (5, [(0, .int v)], [.int 255, .int 0, .int v], (q_cM q_AM q_IM q_J0, 34, 31630))) 3 (fun _ _ => rfl) ?_
                    refine q_Ru_call (v := (some (.int 1))) (h2 := (q_cM q_AM q_IM q_J0, 34, 31630)) rfl rfl ?_ ?_
                    · refine q_Ca_of (Nat.le_of_ble_eq_true rfl) ?_
                      refine q_Ru_seg (g2 := (2, [(0, .int v), (1, .int 0), (2, .int 255)], [.int 0, .int v], (q_cM q_AM q_IM q_J0, 34, 31630))) 2 (fun _ _ => rfl) ?_
                      refine q_Ru_rsF (g2 := (5, [(0, .int v), (1, .int 0), (2, .int 255)], [], (q_cM q_AM q_IM q_J0, 34, 31630))) rfl rfl h233 ?_
                      refine q_Ru_seg (g2 := (7, [(0, .int v), (1, .int 0), (2, .int 255)], [.int 255, .int v], (q_cM q_AM q_IM q_J0, 34, 31630))) 2 (fun _ _ => rfl) ?_
                      refine q_Ru_rsF (g2 := (10, [(0, .int v), (1, .int 0), (2, .int 255)], [], (q_cM q_AM q_IM q_J0, 34, 31630))) rfl rfl h235 ?_
                      refine q_Ru_seg (g2 := (15, [(0, .int v), (1, .int 0), (2, .int 255)], [.int 1], (q_cM q_AM q_IM q_J0, 34, 31630))) 2 (fun _ _ => rfl) ?_
                      exact q_Ru_ret rfl rfl
                    show q_Ru _ _ _ (8, [(0, .int v)], [.int 1], (q_cM q_AM q_IM q_J0, 34, 31630)) _
                    refine q_Ru_seg (g2 := (16, [(0, .int v)], [.int 0], (q_cM q_AM q_IM q_J0, 34, 31630))) 2 (fun _ _ => rfl) ?_
                    exact q_Ru_ret rfl rfl
                  show q_Ru _ _ _ (16, [(0, .ref 64), (1, .int 3874), (2, .int v)], [.int 0, .ref 64], (q_cM q_AM q_IM q_J0, 34, 31630)) _
                  refine q_Ru_seg (g2 := (24, [(0, .ref 64), (1, .int 3874), (2, .int v)], [.int 0, .ref 64], (q_cM q_AM q_IM q_J0, 34, 31630))) 2 (fun _ _ => rfl) ?_
                  refine q_Ru_call (v := (some (.int 0))) (h2 := (q_cM q_AM (q_uI q_IM 0 39 0) q_J0, 34, 31630)) rfl rfl ?_ ?_
                  · refine q_Ca_of (Nat.le_of_ble_eq_true rfl) ?_
                    refine q_Ru_seg (g2 := (14, [(0, .ref 64), (1, .int 0)], [.int 0], (q_cM q_AM (q_uI q_IM 0 39 0) q_J0, 34, 31630))) 6 (fun _ _ => rfl) ?_
                    exact q_Ru_ret rfl rfl
                  show q_Ru _ _ _ (27, [(0, .ref 64), (1, .int 3874), (2, .int v)], [.int 0], (q_cM q_AM (q_uI q_IM 0 39 0) q_J0, 34, 31630)) _
                  refine q_Ru_seg (g2 := (34, [(0, .ref 64), (1, .int 3874), (2, .int v)], [.int 3874, .ref 64], (q_cM q_AM (q_uI q_IM 0 39 0) q_J0, 34, 31630))) 3 (fun _ _ => rfl) ?_
                  refine q_Ru_call (v := (some (.int 0))) (h2 := (q_cM q_AM (q_uI q_IM 0 39 0) q_J0, 34, 31630)) rfl rfl ?_ ?_
                  · refine q_Ca_of (Nat.le_of_ble_eq_true rfl) ?_
                    refine q_Ru_seg (g2 := (7, [(0, .ref 64), (1, .int 3874)], [.int 3887, .int 3840, .int 3874], (q_cM q_AM (q_uI q_IM 0 39 0) q_J0, 34, 31630))) 3 (fun _ _ => rfl) ?_
                    refine q_Ru_call (v := (some (.int 1))) (h2 := (q_cM q_AM (q_uI q_IM 0 39 0) q_J0, 34, 31630)) rfl rfl ?_ ?_
                    · refine q_Ca_of (Nat.le_of_ble_eq_true rfl) ?_
                      refine q_Ru_seg (g2 := (15, [(0, .int 3874), (1, .int 3840), (2, .int 3887)], [.int 1], (q_cM q_AM (q_uI q_IM 0 39 0) q_J0, 34, 31630))) 8 (fun _ _ => rfl) ?_
                      exact q_Ru_ret rfl rfl
                    show q_Ru _ _ _ (10, [(0, .ref 64), (1, .int 3874)], [.int 1], (q_cM q_AM (q_uI q_IM 0 39 0) q_J0, 34, 31630)) _
                    refine q_Ru_seg (g2 := (19, [(0, .ref 64), (1, .int 3874)], [.int 34, .ref 64], (q_cM q_AM (q_uI q_IM 0 39 0) q_J0, 34, 31630))) 5 (fun _ _ => rfl) ?_
                    refine q_Ru_call (v := (some (.int 0))) (h2 := (q_cM q_AM (q_uI q_IM 0 39 0) q_J0, 34, 31630)) rfl rfl ?_ ?_
                    · refine q_Ca_of (Nat.le_of_ble_eq_true rfl) ?_
                      refine q_Ru_seg (g2 := (30, [(0, .ref 64), (1, .int 34)], [.int 15, .int 12, .int 34], (q_cM q_AM (q_uI q_IM 0 39 0) q_J0, 34, 31630))) 9 (fun _ _ => rfl) ?_
                      refine q_Ru_call (v := (some (.int 0))) (h2 := (q_cM q_AM (q_uI q_IM 0 39 0) q_J0, 34, 31630)) rfl rfl ?_ ?_
                      · refine q_Ca_of (Nat.le_of_ble_eq_true rfl) ?_
                        refine q_Ru_seg (g2 := (15, [(0, .int 34), (1, .int 12), (2, .int 15)], [.int 0], (q_cM q_AM (q_uI q_IM 0 39 0) q_J0, 34, 31630))) 7 (fun _ _ => rfl) ?_
                        exact q_Ru_ret rfl rfl
                      show q_Ru _ _ _ (33, [(0, .ref 64), (1, .int 34)], [.int 0], (q_cM q_AM (q_uI q_IM 0 39 0) q_J0, 34, 31630)) _
                      refine q_Ru_seg (g2 := (190, [(0, .ref 64), (1, .int 34)], [.int 0], (q_cM q_AM (q_uI q_IM 0 39 0) q_J0, 34, 31630))) 20 (fun _ _ => rfl) ?_
                      exact q_Ru_ret rfl rfl
                    show q_Ru _ _ _ (22, [(0, .ref 64), (1, .int 3874)], [.int 0], (q_cM q_AM (q_uI q_IM 0 39 0) q_J0, 34, 31630)) _
                    exact q_Ru_ret rfl rfl
                  show q_Ru _ _ _ (37, [(0, .ref 64), (1, .int 3874), (2, .int v)], [.int 0], (q_cM q_AM (q_uI q_IM 0 39 0) q_J0, 34, 31630)) _
                  refine q_Ru_seg (g2 := (41, [(3, .int 0), (0, .ref 64), (1, .int 3874), (2, .int v)], [.int v, .int 3874, .ref 64], (q_cM q_AM (q_uI q_IM 0 39 0) q_J0, 34, 31630))) 4 (fun _ _ => rfl) ?_
                  refine q_Ru_call (v := none) (h2 := (q_cM A102 (q_uI q_IM 0 39 0) q_J0, 34, 31630)) rfl rfl ?_ ?_
                  · exact p102.le (Nat.le_of_ble_eq_true rfl)
                  show q_Ru _ _ _ (44, [(3, .int 0), (0, .ref 64), (1, .int 3874), (2, .int v)], [], (q_cM A102 (q_uI q_IM 0 39 0) q_J0, 34, 31630)) _
                  refine q_Ru_seg (g2 := (45, [(3, .int 0), (0, .ref 64), (1, .int 3874), (2, .int v)], [.ref 64], (q_cM A102 (q_uI q_IM 0 39 0) q_J0, 34, 31630))) 1 (fun _ _ => rfl) ?_
                  refine q_Ru_call (v := none) (h2 := (q_cM A102 (q_uI q_IM 0 39 0) q_J0, 34, 31630)) rfl rfl ?_ ?_
                  · refine q_Ca_of (Nat.le_of_ble_eq_true rfl) ?_
                    refine q_Ru_seg (g2 := (17, [(0, .ref 64)], [], (q_cM A102 (q_uI q_IM 0 39 0) q_J0, 34, 31630))) 3 (fun _ _ => rfl) ?_
                    exact q_Ru_ret rfl rfl
                  show q_Ru _ _ _ (48, [(3, .int 0), (0, .ref 64), (1, .int 3874), (2, .int v)], [], (q_cM A102 (q_uI q_IM 0 39 0) q_J0, 34, 31630)) _
                  refine q_Ru_seg (g2 := (49, [(3, .int 0), (0, .ref 64), (1, .int 3874), (2, .int v)], [.int 0], (q_cM A102 (q_uI q_IM 0 39 0) q_J0, 34, 31630))) 1 (fun _ _ => rfl) ?_
                  exact q_Ru_ret rfl rfl
              | 35, _, e249 =>
                have e249 : a = 3875 := e249
                subst e249
                obtain ⟨A103, I103, p103⟩ := q_p_write q_AX q_IX (40) (26520) 3875 v
                obtain ⟨A104, p104⟩ := q_p_writes q_AM (q_uI q_IM 0 39 0) (34) (31630) 3875 v (by decide) (by decide)
                refine ⟨0, 0, 0, ⟨(q_cX A103 I103 (q_uA q_J0 39 (vp_updL (fun _ => 0) 0 0)), 40, 26520), (q_uA q_J0 39 (vp_updL (fun _ => 0) 0 0)) 39, ?_, rfl, fun _ => rfl, Nat.le_of_ble_eq_true rfl, Nat.le_of_ble_eq_true rfl⟩, ⟨(q_cM A104 (q_uI q_IM 0 39 0) q_J0, 34, 31630), _, ?_, rfl, rfl, Nat.le_of_ble_eq_true rfl, Nat.le_of_ble_eq_true rfl⟩, fun _ => rfl⟩
                · refine q_Ca_of (Nat.le_of_ble_eq_true rfl) ?_
                  refine q_Ru_seg (g2 := (5, [(0, .ref 64), (1, .int 3875), (2, .int v), (3, .ref 103)], [.int v, .int 3875, .ref 64, .int 0, .ref 103], (q_cX q_AX q_IX q_J0, 40, 26520))) 5 (fun _ _ => rfl) ?_
                  refine q_Ru_call (v := (some (.int 0))) (h2 := (q_cX A103 I103 q_J0, 40, 26520)) rfl rfl ?_ ?_
                  · refine q_Ca_of (Nat.le_of_ble_eq_true rfl) ?_
                    refine q_Ru_seg (g2 := (1, [(0, .ref 64), (1, .int 3875), (2, .int v)], [.int 3875], (q_cX q_AX q_IX q_J0, 40, 26520))) 1 (fun _ _ => rfl) ?_
                    refine q_Ru_call (v := none) (h2 := (q_cX q_AX q_IX q_J0, 40, 26520)) rfl rfl ?_ ?_
                    · refine q_Ca_of (Nat.le_of_ble_eq_true rfl) ?_
                      refine q_Ru_seg (g2 := (4, [(0, .int 3875)], [.int 4096, .int 3875], (q_cX q_AX q_IX q_J0, 40, 26520))) 2 (fun _ _ => rfl) ?_
                      refine q_Ru_call (v := none) (h2 := (q_cX q_AX q_IX q_J0, 40, 26520)) rfl rfl ?_ ?_
                      · refine q_Ca_of (Nat.le_of_ble_eq_true rfl) ?_
                        refine q_Ru_seg (g2 := (19, [(0, .int 3875), (1, .int 4096)], [], (q_cX q_AX q_IX q_J0, 40, 26520))) 5 (fun _ _ => rfl) ?_
                        exact q_Ru_ret rfl rfl
                      show q_Ru _ _ _ (7, [(0, .int 3875)], [], (q_cX q_AX q_IX q_J0, 40, 26520)) _
                      exact q_Ru_ret rfl rfl
                    show q_Ru _ _ _ (4, [(0, .ref 64), (1, .int 3875), (2, .int v)], [], (q_cX q_AX q_IX q_J0, 40, 26520)) _
                    refine q_Ru_seg (g2 := (5, [(0, .ref 64), (1, .int 3875), (2, .int v)], [.int v], (q_cX q_AX q_IX q_J0, 40, 26520))) 1 (fun _ _ => rfl) ?_
                    refine q_Ru_call (v := none) (h2 := (q_cX q_AX q_IX q_J0, 40, 26520)) rfl rfl ?_ ?_
                    · refine q_Ca_of (Nat.le_of_ble_eq_true rfl) ?_
                      refine q_Ru_seg (g2 := (5, [(0, .int v)], [.int 255, .int 0, .int v], (q_cX q_AX q_IX q_J0, 40, 26520))) 3 (fun _ _ => rfl) ?_
                      refine q_Ru_call (v := none) (h2 := (q_cX q_AX q_IX q_J0, 40, 26520)) rfl rfl ?_ ?_
                      · refine q_Ca_of (Nat.le_of_ble_eq_true rfl) ?_
                        refine q_Ru_seg (g2 := (2, [(0, .int v), (1, .int 0), (2, .int 255)], [.int 0, .int v], (q_cX q_AX q_IX q_J0, 40, 26520))) 2 (fun _ _ => rfl) ?_
                        refine q_Ru_rsF (g2 := (5, [(0, .int v), (1, .int 0), (2, .int 255)], [], (q_cX q_AX q_IX q_J0, 40, 26520))) rfl rfl h233 ?_
                        refine q_Ru_seg (g2 := (7, [(0, .int v), (1, .int 0), (2, .int 255)], [.int 255, .int v], (q_cX q_AX q_IX q_J0, 40, 26520))) 2 (fun _ _ => rfl) ?_
                        refine q_Ru_rsT (g2 := (20, [(0, .int v), (1, .int 0), (2, .int 255)], [], (q_cX q_AX q_IX q_J0, 40, 26520))) rfl rfl (q_d_geF h235) ?_
                        exact q_Ru_ret rfl rfl
                      show q_Ru _ _ _ (8, [(0, .int v)], [], (q_cX q_AX q_IX q_J0, 40, 26520)) _
                      exact q_Ru_ret rfl rfl
                    show q_Ru _ _ _ (8, [(0, .ref 64), (1, .int 3875), (2, .int v)], [], (q_cX q_AX q_IX q_J0, 40, 26520)) _
                    refine q_Ru_seg (g2 := (13, [(0, .ref 64), (1, .int 3875), (2, .int v)], [.int 0, .int v, .int 3875, .int 0, .ref 64], (q_cX q_AX q_IX q_J0, 40, 26520))) 5 (fun _ _ => rfl) ?_
                    refine q_Ru_call (v := none) (h2 := (q_cX q_AX q_IX q_J0, 40, 26520)) rfl rfl ?_ ?_
                    · refine q_Ca_of (Nat.le_of_ble_eq_true rfl) ?_
                      refine q_Ru_seg (g2 := (19, [(0, .ref 64), (1, .int 0), (2, .int 3875), (3, .int v), (4, .int 0)], [], (q_cX q_AX q_IX q_J0, 40, 26520))) 3 (fun _ _ => rfl) ?_
                      exact q_Ru_ret rfl rfl
                    show q_Ru _ _ _ (16, [(0, .ref 64), (1, .int 3875), (2, .int v)], [], (q_cX q_AX q_IX q_J0, 40, 26520)) _
                    refine q_Ru_seg (g2 := (24, [(0, .ref 64), (1, .int 3875), (2, .int v)], [.int 0, .int v, .int 3875, .int 0, .ref 65], (q_cX q_AX q_IX q_J0, 40, 26520))) 6 (fun _ _ => rfl) ?_
                    refine q_Ru_call (v := (some (.int 0))) (h2 := (q_cX A103 I103 q_J0, 40, 26520)) rfl rfl ?_ ?_
                    · refine q_Ca_of (Nat.le_of_ble_eq_true rfl) ?_
                      refine q_Ru_seg (g2 := (74, [(0, .ref 65), (1, .int 0), (2, .int 3875), (3, .int v), (4, .int 0)], [.int v, .int 3875, .ref 66], (q_cX q_AX q_IX q_J0, 40, 26520))) 6 (fun _ _ => rfl) ?_
                      refine q_Ru_call (v := (some (.int 0))) (h2 := (q_cX A103 I103 q_J0, 40, 26520)) rfl rfl ?_ ?_
                      · refine q_Ca_of (Nat.le_of_ble_eq_true rfl) ?_
                        refine q_Ru_seg (g2 := (2, [(0, .ref 66), (1, .int 3875), (2, .int v)], [.int 3875, .ref 66], (q_cX q_AX q_IX q_J0, 40, 26520))) 2 (fun _ _ => rfl) ?_
                        refine q_Ru_call (v := (some (.int 0))) (h2 := (q_cX q_AX q_IX q_J0, 40, 26520)) rfl rfl ?_ ?_
                        · refine q_Ca_of (Nat.le_of_ble_eq_true rfl) ?_
                          refine q_Ru_seg (g2 := (27, [(2, .int 35), (0, .ref 66), (1, .int 3875)], [.int 0, .int 35, .ref 66], (q_cX q_AX q_IX q_J0, 40, 26520))) 16 (fun _ _ => rfl) ?_
                          refine q_Ru_call (v := (some (.int 0))) (h2 := (q_cX q_AX q_IX q_J0, 40, 26520)) rfl rfl ?_ ?_
                          · refine q_Ca_of (Nat.le_of_ble_eq_true rfl) ?_
                            refine q_Ru_seg (g2 := (183, [(0, .ref 66), (1, .int 35), (2, .int 0)], [.int 0], (q_cX q_AX q_IX q_J0, 40, 26520))) 3 (fun _ _ => rfl) ?_
                            exact q_Ru_ret rfl rfl
                          show q_Ru _ _ _ (30, [(2, .int 35), (0, .ref 66), (1, .int 3875)], [.int 0], (q_cX q_AX q_IX q_J0, 40, 26520)) _
                          exact q_Ru_ret rfl rfl
                        show q_Ru _ _ _ (5, [(0, .ref 66), (1, .int 3875), (2, .int v)], [.int 0], (q_cX q_AX q_IX q_J0, 40, 26520)) _
                        refine q_Ru_seg (g2 := (9, [(3, .int 0), (0, .ref 66), (1, .int 3875), (2, .int v)], [.int v, .int 3875, .ref 66], (q_cX q_AX q_IX q_J0, 40, 26520))) 4 (fun _ _ => rfl) ?_
                        refine q_Ru_call (v := none) (h2 := (q_cX A103 I103 q_J0, 40, 26520)) rfl rfl ?_ ?_
                        · exact p103.le (Nat.le_of_ble_eq_true rfl)
                        show q_Ru _ _ _ (12, [(3, .int 0), (0, .ref 66), (1, .int 3875), (2, .int v)], [], (q_cX A103 I103 q_J0, 40, 26520)) _
                        refine q_Ru_seg (g2 := (13, [(3, .int 0), (0, .ref 66), (1, .int 3875), (2, .int v)], [.int 0], (q_cX A103 I103 q_J0, 40, 26520))) 1 (fun _ _ => rfl) ?_
                        exact q_Ru_ret rfl rfl
                      show q_Ru _ _ _ (77, [(0, .ref 65), (1, .int 0), (2, .int 3875), (3, .int v), (4, .int 0)], [.int 0], (q_cX A103 I103 q_J0, 40, 26520)) _
                      exact q_Ru_ret rfl rfl
                    show q_Ru _ _ _ (27, [(0, .ref 64), (1, .int 3875), (2, .int v)], [.int 0], (q_cX A103 I103 q_J0, 40, 26520)) _
                    exact q_Ru_ret rfl rfl
                  show q_Ru _ _ _ (8, [(0, .ref 64), (1, .int 3875), (2, .int v), (3, .ref 103)], [.int 0, .int 0, .ref 103], (q_cX A103 I103 q_J0, 40, 26520)) _
                  refine q_Ru_seg (g2 := (22, [(0, .ref 64), (1, .int 3875), (2, .int v), (3, .ref 103)], [.int 0], (q_cX A103 I103 (q_uA q_J0 39 (vp_updL (fun _ => 0) 0 0)), 40, 26520))) 4 (fun _ _ => rfl) ?_
                  exact q_Ru_ret rfl rfl
                · refine q_Ca_of (Nat.le_of_ble_eq_true rfl) ?_
                  refine q_Ru_seg (g2 := (2, [(0, .ref 64), (1, .int 3875), (2, .int v)], [.int 3875, .ref 64], (q_cM q_AM q_IM q_J0, 34, 31630))) 2 (fun _ _ => rfl) ?_
                  refine q_Ru_call (v := (some (.int 0))) (h2 := (q_cM q_AM q_IM q_J0, 34, 31630)) rfl rfl ?_ ?_
                  · refine q_Ca_of (Nat.le_of_ble_eq_true rfl) ?_
                    refine q_Ru_seg (g2 := (5, [(0, .int 3875)], [.int 4095, .int 0, .int 3875], (q_cM q_AM q_IM q_J0, 34, 31630))) 3 (fun _ _ => rfl) ?_
                    refine q_Ru_call (v := (some (.int 1))) (h2 := (q_cM q_AM q_IM q_J0, 34, 31630)) rfl rfl ?_ ?_
                    · refine q_Ca_of (Nat.le_of_ble_eq_true rfl) ?_
                      refine q_Ru_seg (g2 := (15, [(0, .int 3875), (1, .int 0), (2, .int 4095)], [.int 1], (q_cM q_AM q_IM q_J0, 34, 31630))) 8 (fun _ _ => rfl) ?_
                      exact q_Ru_ret rfl rfl
                    show q_Ru _ _ _ (8, [(0, .int 3875)], [.int 1], (q_cM q_AM q_IM q_J0, 34, 31630)) _
                    refine q_Ru_seg (g2 := (16, [(0, .int 3875)], [.int 0], (q_cM q_AM q_IM q_J0, 34, 31630))) 2 (fun _ _ => rfl) ?_
                    exact q_Ru_ret rfl rfl
                  show q_Ru _ _ _ (5, [(0, .ref 64), (1, .int 3875), (2, .int v)], [.int 0, .ref 64], (q_cM q_AM q_IM q_J0, 34, 31630)) _
                  refine q_Ru_seg (g2 := (13, [(0, .ref 64), (1, .int 3875), (2, .int v)], [.int v, .ref 64], (q_cM q_AM q_IM q_J0, 34, 31630))) 2 (fun _ _ => rfl) ?_
                  refine q_Ru_call (v := (some (.int 0))) (h2 := (q_cM q_AM q_IM q_J0, 34, 31630)) rfl rfl ?_ ?_
                  · refine q_Ca_of (Nat.le_of_ble_eq_true rfl) ?_
                    refine q_Ru_seg (g2 := (5, [(0, .int v)], [.int 255, .int 0, .int v], (q_cM q_AM q_IM q_J0, 34, 31630))) 3 (fun _ _ => rfl) ?_
                    refine q_Ru_call (v := (some (.int 1))) (h2 := (q_cM q_AM q_IM q_J0, 34, 31630)) rfl rfl ?_ ?_
                    · refine q_Ca_of (Nat.le_of_ble_eq_true rfl) ?_
                      refine q_Ru_seg (g2 := (2, [(0, .int v), (1, .int 0), (2, .int 255)], [.int 0, .int v], (q_cM q_AM q_IM q_J0, 34, 31630))) 2 (fun _ _ => rfl) ?_
                      refine q_Ru_rsF (g2 := (5, [(0, .int v), (1, .int 0), (2, .int 255)], [], (q_cM q_AM q_IM q_J0, 34, 31630))) rfl rfl h233 ?_
                      refine q_Ru_seg (g2 := (7, [(0, .int v), (1, .int 0), (2, .int 255)], [.int 255, .int v], (q_cM q_AM q_IM q_J0, 34, 31630))) 2 (fun _ _ => rfl) ?_
                      refine q_Ru_rsF (g2 := (10, [(0, .int v), (1, .int 0), (2, .int 255)], [], (q_cM q_AM q_IM q_J0, 34, 31630))) rfl rfl h235 ?_
                      refine q_Ru_seg (g2 := (15, [(0, .int v), (1, .int 0), (2, .int 255)], [.int 1], (q_cM q_AM q_IM q_J0, 34, 31630))) 2 (fun _ _ => rfl) ?_
                      exact q_Ru_ret rfl rfl
                    show q_Ru _ _ _ (8, [(0, .int v)], [.int 1], (q_cM q_AM q_IM q_J0, 34, 31630)) _
                    refine q_Ru_seg (g2 := (16, [(0, .int v)], [.int 0], (q_cM q_AM q_IM q_J0, 34, 31630))) 2 (fun _ _ => rfl) ?_
                    exact q_Ru_ret rfl rfl
                  show q_Ru _ _ _ (16, [(0, .ref 64), (1, .int 3875), (2, .int v)], [.int 0, .ref 64], (q_cM q_AM q_IM q_J0, 34, 31630)) _
                  refine q_Ru_seg (g2 := (24, [(0, .ref 64), (1, .int 3875), (2, .int v)], [.int 0, .ref 64], (q_cM q_AM q_IM q_J0, 34, 31630))) 2 (fun _ _ => rfl) ?_
                  refine q_Ru_call (v := (some (.int 0))) (h2 := (q_cM q_AM (q_uI q_IM 0 39 0) q_J0, 34, 31630)) rfl rfl ?_ ?_
                  · refine q_Ca_of (Nat.le_of_ble_eq_true rfl) ?_
                    refine q_Ru_seg (g2 := (14, [(0, .ref 64), (1, .int 0)], [.int 0], (q_cM q_AM (q_uI q_IM 0 39 0) q_J0, 34, 31630))) 6 (fun _ _ => rfl) ?_
                    exact q_Ru_ret rfl rfl
                  show q_Ru _ _ _ (27, [(0, .ref 64), (1, .int 3875), (2, .int v)], [.int 0], (q_cM q_AM (q_uI q_IM 0 39 0) q_J0, 34, 31630)) _
                  refine q_Ru_seg (g2 := (34, [(0, .ref 64), (1, .int 3875), (2, .int v)], [.int 3875, .ref 64], (q_cM q_AM (q_uI q_IM 0 39 0) q_J0, 34, 31630))) 3 (fun _ _ => rfl) ?_
                  refine q_Ru_call (v := (some (.int 0))) (h2 := (q_cM q_AM (q_uI q_IM 0 39 0) q_J0, 34, 31630)) rfl rfl ?_ ?_
                  · refine q_Ca_of (Nat.le_of_ble_eq_true rfl) ?_
                    refine q_Ru_seg (g2 := (7, [(0, .ref 64), (1, .int 3875)], [.int 3887, .int 3840, .int 3875], (q_cM q_AM (q_uI q_IM 0 39 0) q_J0, 34, 31630))) 3 (fun _ _ => rfl) ?_
                    refine q_Ru_call (v := (some (.int 1))) (h2 := (q_cM q_AM (q_uI q_IM 0 39 0) q_J0, 34, 31630)) rfl rfl ?_ ?_
                    · refine q_Ca_of (Nat.le_of_ble_eq_true rfl) ?_
                      refine q_Ru_seg (g2 := (15, [(0, .int 3875), (1, .int 3840), (2, .int 3887)], [.int 1], (q_cM q_AM (q_uI q_IM 0 39 0) q_J0, 34, 31630))) 8 (fun _ _ => rfl) ?_
                      exact q_Ru_ret rfl rfl
                    show q_Ru _ _ _ (10, [(0, .ref 64), (1, .int 3875)], [.int 1], (q_cM q_AM (q_uI q_IM 0 39 0) q_J0, 34, 31630)) _
                    refine q_Ru_seg (g2 := (19, [(0, .ref 64), (1, .int 3875)], [.int 35, .ref 64], (q_cM q_AM (q_uI q_IM 0 39 0) q_J0, 34, 31630))) 5 (fun _ _ => rfl) ?_
                    refine q_Ru_call (v := (some (.int 0))) (h2 := (q_cM q_AM (q_uI q_IM 0 39 0) q_J0, 34, 31630)) rfl rfl ?_ ?_
                    · refine q_Ca_of (Nat.le_of_ble_eq_true rfl) ?_
                      refine q_Ru_seg (g2 := (30, [(0, .ref 64), (1, .int 35)], [.int 15, .int 12, .int 35], (q_cM q_AM (q_uI q_IM 0 39 0) q_J0, 34, 31630))) 9 (fun _ _ => rfl) ?_
                      refine q_Ru_call (v := (some (.int 0))) (h2 := (q_cM q_AM (q_uI q_IM 0 39 0) q_J0, 34, 31630)) rfl rfl ?_ ?_
                      · refine q_Ca_of (Nat.le_of_ble_eq_true rfl) ?_
                        refine q_Ru_seg (g2 := (15, [(0, .int 35), (1, .int 12), (2, .int 15)], [.int 0], (q_cM q_AM (q_uI q_IM 0 39 0) q_J0, 34, 31630))) 7 (fun _ _ => rfl) ?_
                        exact q_Ru_ret rfl rfl
                      show q_Ru _ _ _ (33, [(0, .ref 64), (1, .int 35)], [.int 0], (q_cM q_AM (q_uI q_IM 0 39 0) q_J0, 34, 31630)) _
                      refine q_Ru_seg (g2 := (190, [(0, .ref 64), (1, .int 35)], [.int 0], (q_cM q_AM (q_uI q_IM 0 39 0) q_J0, 34, 31630))) 20 (fun _ _ => rfl) ?_
                      exact q_Ru_ret rfl rfl
                    show q_Ru _ _ _ (22, [(0, .ref 64), (1, .int 3875)], [.int 0], (q_cM q_AM (q_uI q_IM 0 39 0) q_J0, 34, 31630)) _
                    exact q_Ru_ret rfl rfl
                  show q_Ru _ _ _ (37, [(0, .ref 64), (1, .int 3875), (2, .int v)], [.int 0], (q_cM q_AM (q_uI q_IM 0 39 0) q_J0, 34, 31630)) _
                  refine q_Ru_seg (g2 := (41, [(3, .int 0), (0, .ref 64), (1, .int 3875), (2, .int v)], [.int v, .int 3875, .ref 64], (q_cM q_AM (q_uI q_IM 0 39 0) q_J0, 34, 31630))) 4 (fun _ _ => rfl) ?_
                  refine q_Ru_call (v := none) (h2 := (q_cM A104 (q_uI q_IM 0 39 0) q_J0, 34, 31630)) rfl rfl ?_ ?_
                  · exact p104.le (Nat.le_of_ble_eq_true rfl)
                  show q_Ru _ _ _ (44, [(3, .int 0), (0, .ref 64), (1, .int 3875), (2, .int v)], [], (q_cM A104 (q_uI q_IM 0 39 0) q_J0, 34, 31630)) _
                  refine q_Ru_seg (g2 := (45, [(3, .int 0), (0, .ref 64), (1, .int 3875), (2, .int v)], [.ref 64], (q_cM A104 (q_uI q_IM 0 39 0) q_J0, 34, 31630))) 1 (fun _ _ => rfl) ?_
                  refine q_Ru_call (v := none) (h2 := (q_cM A104 (q_uI q_IM 0 39 0) q_J0, 34, 31630)) rfl rfl ?_ ?_
                  · refine q_Ca_of (Nat.le_of_ble_eq_true rfl) ?_
                    refine q_Ru_seg (g2 := (17, [(0, .ref 64)], [], (q_cM A104 (q_uI q_IM 0 39 0) q_J0, 34, 31630))) 3 (fun _ _ => rfl) ?_
                    exact q_Ru_ret rfl rfl
                  show q_Ru _ _ _ (48, [(3, .int 0), (0, .ref 64), (1, .int 3875), (2, .int v)], [], (q_cM A104 (q_uI q_IM 0 39 0) q_J0, 34, 31630)) _
                  refine q_Ru_seg (g2 := (49, [(3, .int 0), (0, .ref 64), (1, .int 3875), (2, .int v)], [.int 0], (q_cM A104 (q_uI q_IM 0 39 0) q_J0, 34, 31630))) 1 (fun _ _ => rfl) ?_
                  exact q_Ru_ret rfl rfl
              | 36, _, e249 =>
                have e249 : a = 3876 := e249
                subst e249
                obtain ⟨A105, I105, p105⟩ := q_p_write q_AX q_IX (40) (26520) 3876 v
                obtain ⟨A106, p106⟩ := q_p_writes q_AM (q_uI q_IM 0 39 0) (34) (31630) 3876 v (by decide) (by decide)
                refine ⟨0, 0, 0, ⟨(q_cX A105 I105 (q_uA q_J0 39 (vp_updL (fun _ => 0) 0 0)), 40, 26520), (q_uA q_J0 39 (vp_updL (fun _ => 0) 0 0)) 39, ?_, rfl, fun _ => rfl, Nat.le_of_ble_eq_true rfl, Nat.le_of_ble_eq_true rfl⟩, ⟨(q_cM A106 (q_uI q_IM 0 39 0) q_J0, 34, 31630), _, ?_, rfl, rfl, Nat.le_of_ble_eq_true rfl, Nat.le_of_ble_eq_true rfl⟩, fun _ => rfl⟩
                · refine q_Ca_of (Nat.le_of_ble_eq_true rfl) ?_
                  refine q_Ru_seg (g2 := (5, [(0, .ref 64), (1, .int 3876), (2, .int v), (3, .ref 103)], [.int v, .int 3876, .ref 64, .int 0, .ref 103], (q_cX q_AX q_IX q_J0, 40, 26520))) 5 (fun _ _ => rfl) ?_
                  refine q_Ru_call (v := (some (.int 0))) (h2 := (q_cX A105 I105 q_J0, 40, 26520)) rfl rfl ?_ ?_
                  · refine q_Ca_of (Nat.le_of_ble_eq_true rfl) ?_
                    refine q_Ru_seg (g2 := (1, [(0, .ref 64), (1, .int 3876), (2, .int v)], [.int 3876], (q_cX q_AX q_IX q_J0, 40, 26520))) 1 (fun _ _ => rfl) ?_
                    refine q_Ru_call (v := none) (h2 := (q_cX q_AX q_IX q_J0, 40, 26520)) rfl rfl ?_ ?_
                    · refine q_Ca_of (Nat.le_of_ble_eq_true rfl) ?_
                      refine q_Ru_seg (g2 := (4, [(0, .int 3876)], [.int 4096, .int 3876], (q_cX q_AX q_IX q_J0, 40, 26520))) 2 (fun _ _ => rfl) ?_
                      refine q_Ru_call (v := none) (h2 := (q_cX q_AX q_IX q_J0, 40, 26520)) rfl rfl ?_ ?_
                      · refine q_Ca_of (Nat.le_of_ble_eq_true rfl) ?_
                        refine q_Ru_seg (g2 := (19, [(0, .int 3876), (1, .int 4096)], [], (q_cX q_AX q_IX q_J0, 40, 26520))) 5 (fun _ _ => rfl) ?_
                        exact q_Ru_ret rfl rfl
                      show q_Ru _ _ _ (7, [(0, .int 3876)], [], (q_cX q_AX q_IX q_J0, 40, 26520)) _
                      exact q_Ru_ret rfl rfl
                    show q_Ru _ _ _ (4, [(0, .ref 64), (1, .int 3876), (2, .int v)], [], (q_cX q_AX q_IX q_J0, 40, 26520)) _
                    refine q_Ru_seg (g2 := (5, [(0, .ref 64), (1, .int 3876), (2, .int v)], [.int v], (q_cX q_AX q_IX q_J0, 40, 26520))) 1 (fun _ _ => rfl) ?_
                    refine q_Ru_call (v := none) (h2 := (q_cX q_AX q_IX q_J0, 40, 26520)) rfl rfl ?_ ?_
                    · refine q_Ca_of (Nat.le_of_ble_eq_true rfl) ?_
                      refine q_Ru_seg (g2 := (5, [(0, .int v)], [.int 255, .int 0, .int v], (q_cX q_AX q_IX q_J0, 40, 26520))) 3 (fun _ _ => rfl) ?_
                      refine q_Ru_call (v := none) (h2 := (q_cX q_AX q_IX q_J0, 40, 26520)) rfl rfl ?_ ?_
                      · refine q_Ca_of (Nat.le_of_ble_eq_true rfl) ?_
                        refine q_Ru_seg (g2 := (2, [(0, .int v), (1, .int 0), (2, .int 255)], [.int 0, .int v], (q_cX q_AX q_IX q_J0, 40, 26520))) 2 (fun _ _ => rfl) ?_
                        refine q_Ru_rsF (g2 := (5, [(0, .int v), (1, .int 0), (2, .int 255)], [], (q_cX q_AX q_IX q_J0, 40, 26520))) rfl rfl h233 ?_
                        refine q_Ru_seg (g2 := (7, [(0, .int v), (1, .int 0), (2, .int 255)], [.int 255, .int v], (q_cX q_AX q_IX q_J0, 40, 26520))) 2 (fun _ _ => rfl) ?_
                        refine q_Ru_rsT (g2 := (20, [(0, .int v), (1, .int 0), (2, .int 255)], [], (q_cX q_AX q_IX q_J0, 40, 26520))) rfl rfl (q_d_geF h235) ?_
                        exact q_Ru_ret rfl rfl
                      show q_Ru _ _ _ (8, [(0, .int v)], [], (q_cX q_AX q_IX q_J0, 40, 26520)) _
                      exact q_Ru_ret rfl rfl
                    show q_Ru _ _ _ (8, [(0, .ref 64), (1, .int 3876), (2, .int v)], [], (q_cX q_AX q_IX q_J0, 40, 26520)) _
                    refine q_Ru_seg (g2 := (13, [(0, .ref 64), (1, .int 3876), (2, .int v)], [.int 0, .int v, .int 3876, .int 0, .ref 64], (q_cX q_AX q_IX q_J0, 40, 26520))) 5 (fun _ _ => rfl) ?_
                    refine q_Ru_call (v := none) (h2 := (q_cX q_AX q_IX q_J0, 40, 26520)) rfl rfl ?_ ?_
                    · refine q_Ca_of (Nat.le_of_ble_eq_true rfl) ?_
                      refine q_Ru_seg (g2 := (19, [(0, .ref 64), (1, .int 0), (2, .int 3876), (3, .int v), (4, .int 0)], [], (q_cX q_AX q_IX q_J0, 40, 26520))) 3 (fun _ _ => rfl) ?_
                      exact q_Ru_ret rfl rfl
                    show q_Ru _ _ _ (16, [(0, .ref 64), (1, .int 3876), (2, .int v)], [], (q_cX q_AX q_IX q_J0, 40, 26520)) _
                    refine q_Ru_seg (g2 := (24, [(0, .ref 64), (1, .int 3876), (2, .int v)], [.int 0, .int v, .int 3876, .int 0, .ref 65], (q_cX q_AX q_IX q_J0, 40, 26520))) 6 (fun _ _ => rfl) ?_
                    refine q_Ru_call (v := (some (.int 0))) (h2 := (q_cX A105 I105 q_J0, 40, 26520)) rfl rfl ?_ ?_
                    · refine q_Ca_of (Nat.le_of_ble_eq_true rfl) ?_
                      refine q_Ru_seg (g2 := (74, [(0, .ref 65), (1, .int 0), (2, .int 3876), (3, .int v), (4, .int 0)], [.int v, .int 3876, .ref 66], (q_cX q_AX q_IX q_J0, 40, 26520))) 6 (fun _ _ => rfl) ?_
                      refine q_Ru_call (v := (some (.int 0))) (h2 := (q_cX A105 I105 q_J0, 40, 26520)) rfl rfl ?_ ?_
                      · refine q_Ca_of (Nat.le_of_ble_eq_true rfl) ?_
                        refine q_Ru_seg (g2 := (2, [(0, .ref 66), (1, .int 3876), (2, .int v)], [.int 3876, .ref 66], (q_cX q_AX q_IX q_J0, 40, 26520))) 2 (fun _ _ => rfl) ?_
                        refine q_Ru_call (v := (some (.int 0))) (h2 := (q_cX q_AX q_IX q_J0, 40, 26520)) rfl rfl ?_ ?_
                        · refine q_Ca_of (Nat.le_of_ble_eq_true rfl) ?_
                          refine q_Ru_seg (g2 := (27, [(2, .int 36), (0, .ref 66), (1, .int 3876)], [.int 0, .int 36, .ref 66], (q_cX q_AX q_IX q_J0, 40, 26520))) 16 (fun _ _ => rfl) ?_
                          refine q_Ru_call (v := (some (.int 0))) (h2 := (q_cX q_AX q_IX q_J0, 40, 26520)) rfl rfl ?_ ?_
                          · refine q_Ca_of (Nat.le_of_ble_eq_true rfl) ?_
                            refine q_Ru_seg (g2 := (183, [(0, .ref 66), (1, .int 36), (2, .int 0)], [.int 0], (q_cX q_AX q_IX q_J0, 40, 26520))) 3 (fun _ _ => rfl) ?_
                            exact q_Ru_ret rfl rfl
                          show q_Ru _ _ _ (30, [(2, .int 36), (0, .ref 66), (1, .int 3876)], [.int 0], (q_cX q_AX q_IX q_J0, 40, 26520)) _
                          exact q_Ru_ret rfl rfl
                        show q_Ru _ _ _ (5, [(0, .ref 66), (1, .int 3876), (2, .int v)], [.int 0], (q_cX q_AX q_IX q_J0, 40, 26520)) _
                        refine q_Ru_seg (g2 := (9, [(3, .int 0), (0, .ref 66), (1, .int 3876), (2, .int v)], [.int v, .int 3876, .ref 66], (q_cX q_AX q_IX q_J0, 40, 26520))) 4 (fun _ _ => rfl) ?_
                        refine q_Ru_call (v := none) (h2 := (q_cX A105 I105 q_J0, 40, 26520)) rfl rfl ?_ ?_
                        · exact p105.le (Nat.le_of_ble_eq_true rfl)
                        show q_Ru _ _ _ (12, [(3, .int 0), (0, .ref 66), (1, .int 3876), (2, .int v)], [], (q_cX A105 I105 q_J0, 40, 26520)) _
                        refine q_Ru_seg (g2 := (13, [(3, .int 0), (0, .ref 66), (1, .int 3876), (2, .int v)], [.int 0], (q_cX A105 I105 q_J0, 40, 26520))) 1 (fun _ _ => rfl) ?_
                        exact q_Ru_ret rfl rfl
                      show q_Ru _ _ _ (77, [(0, .ref 65), (1, .int 0), (2, .int 3876), (3, .int v), (4, .int 0)], [.int 0], (q_cX A105 I105 q_J0, 40, 26520)) _
                      exact q_Ru_ret rfl rfl
                    show q_Ru _ _ _ (27, [(0, .ref 64), (1, .int 3876), (2, .int v)], [.int 0], (q_cX A105 I105 q_J0, 40, 26520)) _
                    exact q_Ru_ret rfl rfl
                  show q_Ru _ _ _ (8, [(0, .ref 64), (1, .int 3876), (2, .int v), (3, .ref 103)], [.int 0, .int 0, .ref 103], (q_cX A105 I105 q_J0, 40, 26520)) _
                  refine q_Ru_seg (g2 := (22, [(0, .ref 64), (1, .int 3876), (2, .int v), (3, .ref 103)], [.int 0], (q_cX A105 I105 (q_uA q_J0 39 (vp_updL (fun _ => 0) 0 0)), 40, 26520))) 4 (fun _ _ => rfl) ?_
                  exact q_Ru_ret rfl rfl
                · refine q_Ca_of (Nat.le_of_ble_eq_true rfl) ?_
                  refine q_Ru_seg (g2 := (2, [(0, .ref 64), (1, .int 3876), (2, .int v)], [.int 3876, .ref 64], (q_cM q_AM q_IM q_J0, 34, 31630))) 2 (fun _ _ => rfl) ?_
                  refine q_Ru_call (v := (some (.int 0))) (h2 := (q_cM q_AM q_IM q_J0, 34, 31630)) rfl rfl ?_ ?_
                  · refine q_Ca_of (Nat.le_of_ble_eq_true rfl) ?_
                    refine q_Ru_seg (g2 := (5, [(0, .int 3876)], [.int 4095, .int 0, .int 3876], (q_cM q_AM q_IM q_J0, 34, 31630))) 3 (fun _ _ => rfl) ?_
                    refine q_Ru_call (v := (some (.int 1))) (h2 := (q_cM q_AM q_IM q_J0, 34, 31630)) rfl rfl ?_ ?_
                    · refine q_Ca_of (Nat.le_of_ble_eq_true rfl) ?_
                      refine q_Ru_seg (g2 := (15, [(0, .int 3876), (1, .int 0), (2, .int 4095)], [.int 1], (q_cM q_AM q_IM q_J0, 34, 31630))) 8 (fun _ _ => rfl) ?_
                      exact q_Ru_ret rfl rfl
                    show q_Ru _ _ _ (8, [(0, .int 3876)], [.int 1], (q_cM q_AM q_IM q_J0, 34, 31630)) _
                    refine q_Ru_seg (g2 := (16, [(0, .int 3876)], [.int 0], (q_cM q_AM q_IM q_J0, 34, 31630))) 2 (fun _ _ => rfl) ?_
                    exact q_Ru_ret rfl rfl
                  show q_Ru _ _ _ (5, [(0, .ref 64), (1, .int 3876), (2, .int v)], [.int 0, .ref 64], (q_cM q_AM q_IM q_J0, 34, 31630)) _
                  refine q_Ru_seg (g2 := (13, [(0, .ref 64), (1, .int 3876), (2, .int v)], [.int v, .ref 64], (q_cM q_AM q_IM q_J0, 34, 31630))) 2 (fun _ _ => rfl) ?_
                  refine q_Ru_call (v := (some (.int 0))) (h2 := (q_cM q_AM q_IM q_J0, 34, 31630)) rfl rfl ?_ ?_
                  · refine q_Ca_of (Nat.le_of_ble_eq_true rfl) ?_
                    refine q_Ru_seg (g2 := (5, [(0, .int v)], [.int 255, .int 0, .int v], (q_cM q_AM q_IM q_J0, 34, 31630))) 3 (fun _ _ => rfl) ?_
                    refine q_Ru_call (v := (some (.int 1))) (h2 := (q_cM q_AM q_IM q_J0, 34, 31630)) rfl rfl ?_ ?_
                    · refine q_Ca_of (Nat.le_of_ble_eq_true rfl) ?_
                      refine q_Ru_seg (g2 := (2, [(0, .int v), (1, .int 0), (2, .int 255)], [.int 0, .int v], (q_cM q_AM q_IM q_J0, 34, 31630))) 2 (fun _ _ => rfl) ?_
                      refine q_Ru_rsF (g2 := (5, [(0, .int v), (1, .int 0), (2, .int 255)], [], (q_cM q_AM q_IM q_J0, 34, 31630))) rfl rfl h233 ?_
                      refine q_Ru_seg (g2 := (7, [(0, .int v), (1, .int 0), (2, .int 255)], [.int 255, .int v], (q_cM q_AM q_IM q_J0, 34, 31630))) 2 (fun _ _ => rfl) ?_
                      refine q_Ru_rsF (g2 := (10, [(0, .int v), (1, .int 0), (2, .int 255)], [], (q_cM q_AM q_IM q_J0, 34, 31630))) rfl rfl h235 ?_
                      refine q_Ru_seg (g2 := (15, [(0, .int v), (1, .int 0), (2, .int 255)], [.int 1], (q_cM q_AM q_IM q_J0, 34, 31630))) 2 (fun _ _ => rfl) ?_
                      exact q_Ru_ret rfl rfl
                    show q_Ru _ _ _ (8, [(0, .int v)], [.int 1], (q_cM q_AM q_IM q_J0, 34, 31630)) _
                    refine q_Ru_seg (g2 := (16, [(0, .int v)], [.int 0], (q_cM q_AM q_IM q_J0, 34, 31630))) 2 (fun _ _ => rfl) ?_
                    exact q_Ru_ret rfl rfl
                  show q_Ru _ _ _ (16, [(0, .ref 64), (1, .int 3876), (2, .int v)], [.int 0, .ref 64], (q_cM q_AM q_IM q_J0, 34, 31630)) _
                  refine q_Ru_seg (g2 := (24, [(0, .ref 64), (1, .int 3876), (2, .int v)], [.int 0, .ref 64], (q_cM q_AM q_IM q_J0, 34, 31630))) 2 (fun _ _ => rfl) ?_
                  refine q_Ru_call (v := (some (.int 0))) (h2 := (q_cM q_AM (q_uI q_IM 0 39 0) q_J0, 34, 31630)) rfl rfl ?_ ?_
                  · refine q_Ca_of (Nat.le_of_ble_eq_true rfl) ?_
                    refine q_Ru_seg (g2 := (14, [(0, .ref 64), (1, .int 0)], [.int 0], (q_cM q_AM (q_uI q_IM 0 39 0) q_J0, 34, 31630))) 6 (fun _ _ => rfl) ?_
                    exact q_Ru_ret rfl rfl
                  show q_Ru _ _ _ (27, [(0, .ref 64), (1, .int 3876), (2, .int v)], [.int 0], (q_cM q_AM (q_uI q_IM 0 39 0) q_J0, 34, 31630)) _
                  refine q_Ru_seg (g2 := (34, [(0, .ref 64), (1, .int 3876), (2, .int v)], [.int 3876, .ref 64], (q_cM q_AM (q_uI q_IM 0 39 0) q_J0, 34, 31630))) 3 (fun _ _ => rfl) ?_
                  refine q_Ru_call (v := (some (.int 0))) (h2 := (q_cM q_AM (q_uI q_IM 0 39 0) q_J0, 34, 31630)) rfl rfl ?_ ?_
                  · refine q_Ca_of (Nat.le_of_ble_eq_true rfl) ?_
                    refine q_Ru_seg (g2 := (7, [(0, .ref 64), (1, .int 3876)], [.int 3887, .int 3840, .int 3876], (q_cM q_AM (q_uI q_IM 0 39 0) q_J0, 34, 31630))) 3 (fun _ _ => rfl) ?_
                    refine q_Ru_call (v := (some (.int 1))) (h2 := (q_cM q_AM (q_uI q_IM 0 39 0) q_J0, 34, 31630)) rfl rfl ?_ ?_
                    · refine q_Ca_of (Nat.le_of_ble_eq_true rfl) ?_
                      refine q_Ru_seg (g2 := (15, [(0, .int 3876), (1, .int 3840), (2, .int 3887)], [.int 1], (q_cM q_AM (q_uI q_IM 0 39 0) q_J0, 34, 31630))) 8 (fun _ _ => rfl) ?_
                      exact q_Ru_ret rfl rfl
                    show q_Ru _ _ _ (10, [(0, .ref 64), (1, .int 3876)], [.int 1], (q_cM q_AM (q_uI q_IM 0 39 0) q_J0, 34, 31630)) _
                    refine q_Ru_seg (g2 := (19, [(0, .ref 64), (1, .int 3876)], [.int 36, .ref 64], (q_cM q_AM (q_uI q_IM 0 39 0) q_J0, 34, 31630))) 5 (fun _ _ => rfl) ?_
                    refine q_Ru_call (v := (some (.int 0))) (h2 := (q_cM q_AM (q_uI q_IM 0 39 0) q_J0, 34, 31630)) rfl rfl ?_ ?_
                    · refine q_Ca_of (Nat.le_of_ble_eq_true rfl) ?_
                      refine q_Ru_seg (g2 := (30, [(0, .ref 64), (1, .int 36)], [.int 15, .int 12, .int 36], (q_cM q_AM (q_uI q_IM 0 39 0) q_J0, 34, 31630))) 9 (fun _ _ => rfl) ?_
                      refine q_Ru_call (v := (some (.int 0))) (h2 := (q_cM q_AM (q_uI q_IM 0 39 0) q_J0, 34, 31630)) rfl rfl ?_ ?_
                      · refine q_Ca_of (Nat.le_of_ble_eq_true rfl) ?_
                        refine q_Ru_seg (g2 := (15, [(0, .int 36), (1, .int 12), (2, .int 15)], [.int 0], (q_cM q_AM (q_uI q_IM 0 39 0) q_J0, 34, 31630))) 7 (fun _ _ => rfl) ?_
                        exact q_Ru_ret rfl rfl
                      show q_Ru _ _ _ (33, [(0, .ref 64), (1, .int 36)], [.int 0], (q_cM q_AM (q_uI q_IM 0 39 0) q_J0, 34, 31630)) _
                      refine q_Ru_seg (g2 := (190, [(0, .ref 64), (1, .int 36)], [.int 0], (q_cM q_AM (q_uI q_IM 0 39 0) q_J0, 34, 31630))) 20 (fun _ _ => rfl) ?_
                      exact q_Ru_ret rfl rfl
                    show q_Ru _ _ _ (22, [(0, .ref 64), (1, .int 3876)], [.int 0], (q_cM q_AM (q_uI q_IM 0 39 0) q_J0, 34, 31630)) _
                    exact q_Ru_ret rfl rfl
                  show q_Ru _ _ _ (37, [(0, .ref 64), (1, .int 3876), (2, .int v)], [.int 0], (q_cM q_AM (q_uI q_IM 0 39 0) q_J0, 34, 31630)) _
                  refine q_Ru_seg (g2 := (41, [(3, .int 0), (0, .ref 64), (1, .int 3876), (2, .int v)], [.int v, .int 3876, .ref 64], (q_cM q_AM (q_uI q_IM 0 39 0) q_J0, 34, 31630))) 4 (fun _ _ => rfl) ?_
                  refine q_Ru_call (v := none) (h2 := (q_cM A106 (q_uI q_IM 0 39 0) q_J0, 34, 31630)) rfl rfl ?_ ?_
                  · exact p106.le (Nat.le_of_ble_eq_true rfl)
                  show q_Ru _ _ _ (44, [(3, .int 0), (0, .ref 64), (1, .int 3876), (2, .int v)], [], (q_cM A106 (q_uI q_IM 0 39 0) q_J0, 34, 31630)) _
                  refine q_Ru_seg (g2 := (45, [(3, .int 0), (0, .ref 64), (1, .int 3876), (2, .int v)], [.ref 64], (q_cM A106 (q_uI q_IM 0 39 0) q_J0, 34, 31630))) 1 (fun _ _ => rfl) ?_
                  refine q_Ru_call (v := none) (h2 := (q_cM A106 (q_uI q_IM 0 39 0) q_J0, 34, 31630)) rfl rfl ?_ ?_
                  · refine q_Ca_of (Nat.le_of_ble_eq_true rfl) ?_
                    refine q_Ru_seg (g2 := (17, [(0, .ref 64)], [], (q_cM A106 (q_uI q_IM 0 39 0) q_J0, 34, 31630))) 3 (fun _ _ => rfl) ?_
                    exact q_Ru_ret rfl rfl
                  show q_Ru _ _ _ (48, [(3, .int 0), (0, .ref 64), (1, .int 3876), (2, .int v)], [], (q_cM A106 (q_uI q_IM 0 39 0) q_J0, 34, 31630)) _
                  refine q_Ru_seg (g2 := (49, [(3, .int 0), (0, .ref 64), (1, .int 3876), (2, .int v)], [.int 0], (q_cM A106 (q_uI q_IM 0 39 0) q_J0, 34, 31630))) 1 (fun _ _ => rfl) ?_
                  exact q_Ru_ret rfl rfl
              | 37, _, e249 =>
                have e249 : a = 3877 := e249
                subst e249
                obtain ⟨A107, I107, p107⟩ := q_p_write q_AX q_IX (40) (26520) 3877 v
                obtain ⟨A108, p108⟩ := q_p_writes q_AM (q_uI q_IM 0 39 0) (34) (31630) 3877 v (by decide) (by decide)
                refine ⟨0, 0, 0, ⟨(q_cX A107 I107 (q_uA q_J0 39 (vp_updL (fun _ => 0) 0 0)), 40, 26520), (q_uA q_J0 39 (vp_updL (fun _ => 0) 0 0)) 39, ?_, rfl, fun _ => rfl, Nat.le_of_ble_eq_true rfl, Nat.le_of_ble_eq_true rfl⟩, ⟨(q_cM A108 (q_uI q_IM 0 39 0) q_J0, 34, 31630), _, ?_, rfl, rfl, Nat.le_of_ble_eq_true rfl, Nat.le_of_ble_eq_true rfl⟩, fun _ => rfl⟩
                · refine q_Ca_of (Nat.le_of_ble_eq_true rfl) ?_
                  refine q_Ru_seg (g2 := (5, [(0, .ref 64), (1, .int 3877), (2, .int v), (3, .ref 103)], [.int v, .int 3877, .ref 64, .int 0, .ref 103], (q_cX q_AX q_IX q_J0, 40, 26520))) 5 (fun _ _ => rfl) ?_
                  refine q_Ru_call (v := (some (.int 0))) (h2 := (q_cX A107 I107 q_J0, 40, 26520)) rfl rfl ?_ ?_
                  · refine q_Ca_of (Nat.le_of_ble_eq_true rfl) ?_
                    refine q_Ru_seg (g2 := (1, [(0, .ref 64), (1, .int 3877), (2, .int v)], [.int 3877], (q_cX q_AX q_IX q_J0, 40, 26520))) 1 (fun _ _ => rfl) ?_
                    refine q_Ru_call (v := none) (h2 := (q_cX q_AX q_IX q_J0, 40, 26520)) rfl rfl ?_ ?_
                    · refine q_Ca_of (Nat.le_of_ble_eq_true rfl) ?_
                      refine q_Ru_seg (g2 := (4, [(0, .int 3877)], [.int 4096, .int 3877], (q_cX q_AX q_IX q_J0, 40, 26520))) 2 (fun _ _ => rfl) ?_
                      refine q_Ru_call (v := none) (h2 := (q_cX q_AX q_IX q_J0, 40, 26520)) rfl rfl ?_ ?_
                      · refine q_Ca_of (Nat.le_of_ble_eq_true rfl) ?_
                        refine q_Ru_seg (g2 := (19, [(0, .int 3877), (1, .int 4096)], [], (q_cX q_AX q_IX q_J0, 40, 26520))) 5 (fun _ _ => rfl) ?_
                        exact q_Ru_ret rfl rfl
                      show q_Ru _ _ _ (7, [(0, .int 3877)], [], (q_cX q_AX q_IX q_J0, 40, 26520)) _
                      exact q_Ru_ret rfl rfl
                    show q_Ru _ _ _ (4, [(0, .ref 64), (1, .int 3877), (2, .int v)], [], (q_cX q_AX q_IX q_J0, 40, 26520)) _
                    refine q_Ru_seg (g2 := (5, [(0, .ref 64), (1, .int 3877), (2, .int v)], [.int v], (q_cX q_AX q_IX q_J0, 40, 26520))) 1 (fun _ _ => rfl) ?_
                    refine q_Ru_call (v := none) (h2 := (q_cX q_AX q_IX q_J0, 40, 26520)) rfl rfl ?_ ?_
                    · refine q_Ca_of (Nat.le_of_ble_eq_true rfl) ?_
                      refine q_Ru_seg (g2 := (5, [(0, .int v)], [.int 255, .int 0, .int v], (q_cX q_AX q_IX q_J0, 40, 26520))) 3 (fun _ _ => rfl) ?_
                      refine q_Ru_call (v := none) (h2 := (q_cX q_AX q_IX q_J0, 40, 26520)) rfl rfl ?_ ?_
                      · refine q_Ca_of (Nat.le_of_ble_eq_true rfl) ?_
                        refine q_Ru_seg (g2 := (2, [(0, .int v), (1, .int 0), (2, .int 255)], [.int 0, .int v], (q_cX q_AX q_IX q_J0, 40, 26520))) 2 (fun _ _ => rfl) ?_
                        refine q_Ru_rsF (g2 := (5, [(0, .int v), (1, .int 0), (2, .int 255)], [], (q_cX q_AX q_IX q_J0, 40, 26520))) rfl rfl h233 ?_
                        refine q_Ru_seg (g2 := (7, [(0, .int v), (1, .int 0), (2, .int 255)], [.int 255, .int v], (q_cX q_AX q_IX q_J0, 40, 26520))) 2 (fun _ _ => rfl) ?_
                        refine q_Ru_rsT (g2 := (20, [(0, .int v), (1, .int 0), (2, .int 255)], [], (q_cX q_AX q_IX q_J0, 40, 26520))) rfl rfl (q_d_geF h235) ?_
                        exact q_Ru_ret rfl rfl
                      show q_Ru _ _ _ (8, [(0, .int v)], [], (q_cX q_AX q_IX q_J0, 40, 26520)) _
                      exact q_Ru_ret rfl rfl
                    show q_Ru _ _ _ (8, [(0, .ref 64), (1, .int 3877), (2, .int v)], [], (q_cX q_AX q_IX q_J0, 40, 26520)) _
                    refine q_Ru_seg (g2 := (13, [(0, .ref 64), (1, .int 3877), (2, .int v)], [.int 0, .int v, .int 3877, .int 0, .ref 64], (q_cX q_AX q_IX q_J0, 40, 26520))) 5 (fun _ _ => rfl) ?_
                    refine q_Ru_call (v := none) (h2 := (q_cX q_AX q_IX q_J0, 40, 26520)) rfl rfl ?_ ?_
                    · refine q_Ca_of (Nat.le_of_ble_eq_true rfl) ?_
                      refine q_Ru_seg (g2 := (19, [(0, .ref 64), (1, .int 0), (2, .int 3877), (3, .int v), (4, .int 0)], [], (q_cX q_AX q_IX q_J0, 40, 26520))) 3 (fun _ _ => rfl) ?_
                      exact q_Ru_ret rfl rfl
                    show q_Ru _ _ _ (16, [(0, .ref 64), (1, .int 3877), (2, .int v)], [], (q_cX q_AX q_IX q_J0, 40, 26520)) _
                    refine q_Ru_seg (g2 := (24, [(0, .ref 64), (1, .int 3877), (2, .int v)], [.int 0, .int v, .int 3877, .int 0, .ref 65], (q_cX q_AX q_IX q_J0, 40, 26520))) 6 (fun _ _ => rfl) ?_
                    refine q_Ru_call (v := (some (.int 0))) (h2 := (q_cX A107 I107 q_J0, 40, 26520)) rfl rfl ?_ ?_
                    · refine q_Ca_of (Nat.le_of_ble_eq_true rfl) ?_
                      refine q_Ru_seg (g2 := (74, [(0, .ref 65), (1, .int 0), (2, .int 3877), (3, .int v), (4, .int 0)], [.int v, .int 3877, .ref 66], (q_cX q_AX q_IX q_J0, 40, 26520))) 6 (fun _ _ => rfl) ?_
                      refine q_Ru_call (v := (some (.int 0))) (h2 := (q_cX A107 I107 q_J0, 40, 26520)) rfl rfl ?_ ?_
                      · refine q_Ca_of (Nat.le_of_ble_eq_true rfl) ?_
                        refine q_Ru_seg (g2 := (2, [(0, .ref 66), (1, .int 3877), (2, .int v)], [.int 3877, .ref 66], (q_cX q_AX q_IX q_J0, 40, 26520))) 2 (fun _ _ => rfl) ?_
                        refine q_Ru_call (v := (some (.int 0))) (h2 := (q_cX q_AX q_IX q_J0, 40, 26520)) rfl rfl ?_ ?_
                        · refine q_Ca_of (Nat.le_of_ble_eq_true rfl) ?_
                          refine q_Ru_seg (g2 := (27, [(2, .int 37), (0, .ref 66), (1, .int 3877)], [.int 0, .int 37, .ref 66], (q_cX q_AX q_IX q_J0, 40, 26520))) 16 (fun _ _ => rfl) ?_
                          refine q_Ru_call (v := (some (.int 0))) (h2 := (q_cX q_AX q_IX q_J0, 40, 26520)) rfl rfl ?_ ?_
                          · refine q_Ca_of (Nat.le_of_ble_eq_true rfl) ?_
                            refine q_Ru_seg (g2 := (183, [(0, .ref 66), (1, .int 37), (2, .int 0)], [.int 0], (q_cX q_AX q_IX q_J0, 40, 26520))) 3 (fun _ _ => rfl) ?_
                            exact q_Ru_ret rfl rfl
                          show q_Ru _ _ _ (30, [(2, .int 37), (0, .ref 66), (1, .int 3877)], [.int 0], (q_cX q_AX q_IX q_J0, 40, 26520)) _
                          exact q_Ru_ret rfl rfl
                        show q_Ru _ _ _ (5, [(0, .ref 66), (1, .int 3877), (2, .int v)], [.int 0], (q_cX q_AX q_IX q_J0, 40, 26520)) _
                        refine q_Ru_seg (g2 := (9, [(3, .int 0), (0, .ref 66), (1, .int 3877), (2, .int v)], [.int v, .int 3877, .ref 66], (q_cX q_AX q_IX q_J0, 40, 26520))) 4 (fun _ _ => rfl) ?_
                        refine q_Ru_call (v := none) (h2 := (q_cX A107 I107 q_J0, 40, 26520)) rfl rfl ?_ ?_
                        · exact p107.le (Nat.le_of_ble_eq_true rfl)
                        show q_Ru _ _ _ (12, [(3, .int 0), (0, .ref 66), (1, .int 3877), (2, .int v)], [], (q_cX A107 I107 q_J0, 40, 26520)) _
                        refine q_Ru_seg (g2 := (13, [(3, .int 0), (0, .ref 66), (1, .int 3877), (2, .int v)], [.int 0], (q_cX A107 I107 q_J0, 40, 26520))) 1 (fun _ _ => rfl) ?_
                        exact q_Ru_ret rfl rfl
                      show q_Ru _ _ _ (77, [(0, .ref 65), (1, .int 0), (2, .int 3877), (3, .int v), (4, .int 0)], [.int 0], (q_cX A107 I107 q_J0, 40, 26520)) _
                      exact q_Ru_ret rfl rfl
                    show q_Ru _ _ _ (27, [(0, .ref 64), (1, .int 3877), (2, .int v)], [.int 0], (q_cX A107 I107 q_J0, 40, 26520)) _
                    exact q_Ru_ret rfl rfl
                  show q_Ru _ _ _ (8, [(0, .ref 64), (1, .int 3877), (2, .int v), (3, .ref 103)], [.int 0, .int 0, .ref 103], (q_cX A107 I107 q_J0, 40, 26520)) _
                  refine q_Ru_seg (g2 := (22, [(0, .ref 64), (1, .int 3877), (2, .int v), (3, .ref 103)], [.int 0], (q_cX A107 I107 (q_uA q_J0 39 (vp_updL (fun _ => 0) 0 0)), 40, 26520))) 4 (fun _ _ => rfl) ?_
                  exact q_Ru_ret rfl rfl
                · refine q_Ca_of (Nat.le_of_ble_eq_true rfl) ?_
                  refine q_Ru_seg (g2 := (2, [(0, .ref 64), (1, .int 3877), (2, .int v)], [.int 3877, .ref 64], (q_cM q_AM q_IM q_J0, 34, 31630))) 2 (fun _ _ => rfl) ?_
                  refine q_Ru_call (v := (some (.int 0))) (h2 := (q_cM q_AM q_IM q_J0, 34, 31630)) rfl rfl ?_ ?_
                  · refine q_Ca_of (Nat.le_of_ble_eq_true rfl) ?_
                    refine q_Ru_seg (g2 := (5, [(0, .int 3877)], [.int 4095, .int 0, .int 3877], (q_cM q_AM q_IM q_J0, 34, 31630))) 3 (fun _ _ => rfl) ?_
                    refine q_Ru_call (v := (some (.int 1))) (h2 := (q_cM q_AM q_IM q_J0, 34, 31630)) rfl rfl ?_ ?_
                    · refine q_Ca_of (Nat.le_of_ble_eq_true rfl) ?_
                      refine q_Ru_seg (g2 := (15, [(0, .int 3877), (1, .int 0), (2, .int 4095)], [.int 1], (q_cM q_AM q_IM q_J0, 34, 31630))) 8 (fun _ _ => rfl) ?_
                      exact q_Ru_ret rfl rfl
                    show q_Ru _ _ _ (8, [(0, .int 3877)], [.int 1], (q_cM q_AM q_IM q_J0, 34, 31630)) _
                    refine q_Ru_seg (g2 := (16, [(0, .int 3877)], [.int 0], (q_cM q_AM q_IM q_J0, 34, 31630))) 2 (fun _ _ => rfl) ?_
                    exact q_Ru_ret rfl rfl
                  show q_Ru _ _ _ (5, [(0, .ref 64), (1, .int 3877), (2, .int v)], [.int 0, .ref 64], (q_cM q_AM q_IM q_J0, 34, 31630)) _
                  refine q_Ru_seg (g2 := (13, [(0, .ref 64), (1, .int 3877), (2, .int v)], [.int v, .ref 64], (q_cM q_AM q_IM q_J0, 34, 31630))) 2 (fun _ _ => rfl) ?_
                  refine q_Ru_call (v := (some (.int 0))) (h2 := (q_cM q_AM q_IM q_J0, 34, 31630)) rfl rfl ?_ ?_
                  · refine q_Ca_of (Nat.le_of_ble_eq_true rfl) ?_
                    refine q_Ru_seg (g2 := (5, [(0, .int v)], [.int 255, .int 0, .int v], (q_cM q_AM q_IM q_J0, 34, 31630))) 3 (fun _ _ => rfl) ?_
                    refine q_Ru_call (v := (some (.int 1))) (h2 := (q_cM q_AM q_IM q_J0, 34, 31630)) rfl rfl ?_ ?_
                    · refine q_Ca_of (Nat.le_of_ble_eq_true rfl) ?_
                      refine q_Ru_seg (g2 := (2, [(0, .int v), (1, .int 0), (2, .int 255)], [.int 0, .int v], (q_cM q_AM q_IM q_J0, 34, 31630))) 2 (fun _ _ => rfl) ?_
                      refine q_Ru_rsF (g2 := (5, [(0, .int v), (1, .int 0), (2, .int 255)], [], (q_cM q_AM q_IM q_J0, 34, 31630))) rfl rfl h233 ?_
                      refine q_Ru_seg (g2 := (7, [(0, .int v), (1, .int 0), (2, .int 255)], [.int 255, .int v], (q_cM q_AM q_IM q_J0, 34, 31630))) 2 (fun _ _ => rfl) ?_
                      refine q_Ru_rsF (g2 := (10, [(0, .int v), (1, .int 0), (2, .int 255)], [], (q_cM q_AM q_IM q_J0, 34, 31630))) rfl rfl h235 ?_
                      refine q_Ru_seg (g2 := (15, [(0, .int v), (1, .int 0), (2, .int 255)], [.int 1], (q_cM q_AM q_IM q_J0, 34, 31630))) 2 (fun _ _ => rfl) ?_
                      exact q_Ru_ret rfl rfl
                    show q_Ru _ _ _ (8, [(0, .int v)], [.int 1], (q_cM q_AM q_IM q_J0, 34, 31630)) _
                    refine q_Ru_seg (g2 := (16, [(0, .int v)], [.int 0], (q_cM q_AM q_IM q_J0, 34, 31630))) 2 (fun _ _ => rfl) ?_
                    exact q_Ru_ret rfl rfl
                  show q_Ru _ _ _ (16, [(0, .ref 64), (1, .int 3877), (2, .int v)], [.int 0, .ref 64], (q_cM q_AM q_IM q_J0, 34, 31630)) _
                  refine q_Ru_seg (g2 := (24, [(0, .ref 64), (1, .int 3877), (2, .int v)], [.int 0, .ref 64], (q_cM q_AM q_IM q_J0, 34, 31630))) 2 (fun _ _ => rfl) ?_
                  refine q_Ru_call (v := (some (.int 0))) (h2 := (q_cM q_AM (q_uI q_IM 0 39 0) q_J0, 34, 31630)) rfl rfl ?_ ?_
                  · refine q_Ca_of (Nat.le_of_ble_eq_true rfl) ?_
                    refine q_Ru_seg (g2 := (14, [(0, .ref 64), (1, .int 0)], [.int 0], (q_cM q_AM (q_uI q_IM 0 39 0) q_J0, 34, 31630))) 6 (fun _ _ => rfl) ?_
                    exact q_Ru_ret rfl rfl
                  show q_Ru _ _ _ (27, [(0, .ref 64), (1, .int 3877), (2, .int v)], [.int 0], (q_cM q_AM (q_uI q_IM 0 39 0) q_J0, 34, 31630)) _
                  refine q_Ru_seg (g2 := (34, [(0, .ref 64), (1, .int 3877), (2, .int v)], [.int 3877, .ref 64], (q_cM q_AM (q_uI q_IM 0 39 0) q_J0, 34, 31630))) 3 (fun _ _ => rfl) ?_
                  refine q_Ru_call (v := (some (.int 0))) (h2 := (q_cM q_AM (q_uI q_IM 0 39 0) q_J0, 34, 31630)) rfl rfl ?_ ?_
                  · refine q_Ca_of (Nat.le_of_ble_eq_true rfl) ?_
                    refine q_Ru_seg (g2 := (7, [(0, .ref 64), (1, .int 3877)], [.int 3887, .int 3840, .int 3877], (q_cM q_AM (q_uI q_IM 0 39 0) q_J0, 34, 31630))) 3 (fun _ _ => rfl) ?_
                    refine q_Ru_call (v := (some (.int 1))) (h2 := (q_cM q_AM (q_uI q_IM 0 39 0) q_J0, 34, 31630)) rfl rfl ?_ ?_
                    · refine q_Ca_of (Nat.le_of_ble_eq_true rfl) ?_
                      refine q_Ru_seg (g2 := (15, [(0, .int 3877), (1, .int 3840), (2, .int 3887)], [.int 1], (q_cM q_AM (q_uI q_IM 0 39 0) q_J0, 34, 31630))) 8 (fun _ _ => rfl) ?_
                      exact q_Ru_ret rfl rfl
                    show q_Ru _ _ _ (10, [(0, .ref 64), (1, .int 3877)], [.int 1], (q_cM q_AM (q_uI q_IM 0 39 0) q_J0, 34, 31630)) _
                    refine q_Ru_seg (g2 := (19, [(0, .ref 64), (1, .int 3877)], [.int 37, .ref 64], (q_cM q_AM (q_uI q_IM 0 39 0) q_J0, 34, 31630))) 5 (fun _ _ => rfl) ?_
                    refine q_Ru_call (v := (some (.int 0))) (h2 := (q_cM q_AM (q_uI q_IM 0 39 0) q_J0, 34, 31630)) rfl rfl ?_ ?_
                    · refine q_Ca_of (Nat.le_of_ble_eq_true rfl) ?_
                      refine q_Ru_seg (g2 := (30, [(0, .ref 64), (1, .int 37)], [.int 15, .int 12, .int 37], (q_cM q_AM (q_uI q_IM 0 39 0) q_J0, 34, 31630))) 9 (fun _ _ => rfl) ?_
                      refine q_Ru_call (v := (some (.int 0))) (h2 := (q_cM q_AM (q_uI q_IM 0 39 0) q_J0, 34, 31630)) rfl rfl ?_ ?_
                      · refine q_Ca_of (Nat.le_of_ble_eq_true rfl) ?_
                        refine q_Ru_seg (g2 := (15, [(0, .int 37), (1, .int 12), (2, .int 15)], [.int 0], (q_cM q_AM (q_uI q_IM 0 39 0) q_J0, 34, 31630))) 7 (fun _ _ => rfl) ?_
                        exact q_Ru_ret rfl rfl
                      show q_Ru _ _ _ (33, [(0, .ref 64), (1, .int 37)], [.int 0], (q_cM q_AM (q_uI q_IM 0 39 0) q_J0, 34, 31630)) _
                      refine q_Ru_seg (g2 := (190, [(0, .ref 64), (1, .int 37)], [.int 0], (q_cM q_AM (q_uI q_IM 0 39 0) q_J0, 34, 31630))) 20 (fun _ _ => rfl) ?_
                      exact q_Ru_ret rfl rfl
                    show q_Ru _ _ _ (22, [(0, .ref 64), (1, .int 3877)], [.int 0], (q_cM q_AM (q_uI q_IM 0 39 0) q_J0, 34, 31630)) _
                    exact q_Ru_ret rfl rfl
                  show q_Ru _ _ _ (37, [(0, .ref 64), (1, .int 3877), (2, .int v)], [.int 0], (q_cM q_AM (q_uI q_IM 0 39 0) q_J0, 34, 31630)) _
                  refine q_Ru_seg (g2 := (41, [(3, .int 0), (0, .ref 64), (1, .int 3877), (2, .int v)], [.int v, .int 3877, .ref 64], (q_cM q_AM (q_uI q_IM 0 39 0) q_J0, 34, 31630))) 4 (fun _ _ => rfl) ?_
                  refine q_Ru_call (v := none) (h2 := (q_cM A108 (q_uI q_IM 0 39 0) q_J0, 34, 31630)) rfl rfl ?_ ?_
                  · exact p108.le (Nat.le_of_ble_eq_true rfl)
                  show q_Ru _ _ _ (44, [(3, .int 0), (0, .ref 64), (1, .int 3877), (2, .int v)], [], (q_cM A108 (q_uI q_IM 0 39 0) q_J0, 34, 31630)) _
                  refine q_Ru_seg (g2 := (45, [(3, .int 0), (0, .ref 64), (1, .int 3877), (2, .int v)], [.ref 64], (q_cM A108 (q_uI q_IM 0 39 0) q_J0, 34, 31630))) 1 (fun _ _ => rfl) ?_
                  refine q_Ru_call (v := none) (h2 := (q_cM A108 (q_uI q_IM 0 39 0) q_J0, 34, 31630)) rfl rfl ?_ ?_
                  · refine q_Ca_of (Nat.le_of_ble_eq_true rfl) ?_
                    refine q_Ru_seg (g2 := (17, [(0, .ref 64)], [], (q_cM A108 (q_uI q_IM 0 39 0) q_J0, 34, 31630))) 3 (fun _ _ => rfl) ?_
                    exact q_Ru_ret rfl rfl
                  show q_Ru _ _ _ (48, [(3, .int 0), (0, .ref 64), (1, .int 3877), (2, .int v)], [], (q_cM A108 (q_uI q_IM 0 39 0) q_J0, 34, 31630)) _
                  refine q_Ru_seg (g2 := (49, [(3, .int 0), (0, .ref 64), (1, .int 3877), (2, .int v)], [.int 0], (q_cM A108 (q_uI q_IM 0 39 0) q_J0, 34, 31630))) 1 (fun _ _ => rfl) ?_
                  exact q_Ru_ret rfl rfl
              | 38, _, e249 =>
                have e249 : a = 3878 := e249
                subst e249
                obtain ⟨A109, I109, p109⟩ := q_p_write q_AX q_IX (40) (26520) 3878 v
                obtain ⟨A110, p110⟩ := q_p_writes q_AM (q_uI q_IM 0 39 0) (34) (31630) 3878 v (by decide) (by decide)
                refine ⟨0, 0, 0, ⟨(q_cX A109 I109 (q_uA q_J0 39 (vp_updL (fun _ => 0) 0 0)), 40, 26520), (q_uA q_J0 39 (vp_updL (fun _ => 0) 0 0)) 39, ?_, rfl, fun _ => rfl, Nat.le_of_ble_eq_true rfl, Nat.le_of_ble_eq_true rfl⟩, ⟨(q_cM A110 (q_uI q_IM 0 39 0) q_J0, 34, 31630), _, ?_, rfl, rfl, Nat.le_of_ble_eq_true rfl, Nat.le_of_ble_eq_true rfl⟩, fun _ => rfl⟩
                · refine q_Ca_of (Nat.le_of_ble_eq_true rfl) ?_
                  refine q_Ru_seg (g2 := (5, [(0, .ref 64), (1, .int 3878), (2, .int v), (3, .ref 103)], [.int v, .int 3878, .ref 64, .int 0, .ref 103], (q_cX q_AX q_IX q_J0, 40, 26520))) 5 (fun _ _ => rfl) ?_
                  refine q_Ru_call (v := (some (.int 0))) (h2 := (q_cX A109 I109 q_J0, 40, 26520)) rfl rfl ?_ ?_
                  · refine q_Ca_of (Nat.le_of_ble_eq_true rfl) ?_
                    refine q_Ru_seg (g2 := (1, [(0, .ref 64), (1, .int 3878), (2, .int v)], [.int 3878], (q_cX q_AX q_IX q_J0, 40, 26520))) 1 (fun _ _ => rfl) ?_
                    refine q_Ru_call (v := none) (h2 := (q_cX q_AX q_IX q_J0, 40, 26520)) rfl rfl ?_ ?_
                    · refine q_Ca_of (Nat.le_of_ble_eq_true rfl) ?_
                      refine q_Ru_seg (g2 := (4, [(0, .int 3878)], [.int 4096, .int 3878], (q_cX q_AX q_IX q_J0, 40, 26520))) 2 (fun _ _ => rfl) ?_
                      refine q_Ru_call (v := none) (h2 := (q_cX q_AX q_IX q_J0, 40, 26520)) rfl rfl ?_ ?_
                      · refine q_Ca_of (Nat.le_of_ble_eq_true rfl) ?_
                        refine q_Ru_seg (g2 := (19, [(0, .int 3878), (1, .int 4096)], [], (q_cX q_AX q_IX q_J0, 40, 26520))) 5 (fun _ _ => rfl) ?_
                        exact q_Ru_ret rfl rfl
                      show q_Ru _ _ _ (7, [(0, .int 3878)], [], (q_cX q_AX q_IX q_J0, 40, 26520)) _
                      exact q_Ru_ret rfl rfl
                    show q_Ru _ _ _ (4, [(0, .ref 64), (1, .int 3878), (2, .int v)], [], (q_cX q_AX q_IX q_J0, 40, 26520)) _
                    refine q_Ru_seg (g2 := (5, [(0, .ref 64), (1, .int 3878), (2, .int v)], [.int v], (q_cX q_AX q_IX q_J0, 40, 26520))) 1 (fun _ _ => rfl) ?_
                    refine q_Ru_call (v := none) (h2 := (q_cX q_AX q_IX q_J0, 40, 26520)) rfl rfl ?_ ?_
                    · refine q_Ca_of (Nat.le_of_ble_eq_true rfl) ?_
                      refine q_Ru_seg (g2 := (5, [(0, .int v)], [.int 255, .int 0, .int v], (q_cX q_AX q_IX q_J0, 40, 26520))) 3 (fun _ _ => rfl) ?_
                      refine q_Ru_call (v := none) (h2 := (q_cX q_AX q_IX q_J0, 40, 26520)) rfl rfl ?_ ?_
                      · refine q_Ca_of (Nat.le_of_ble_eq_true rfl) ?_
                        refine q_Ru_seg (g2 := (2, [(0, .int v), (1, .int 0), (2, .int 255)], [.int 0, .int v], (q_cX q_AX q_IX q_J0, 40, 26520))) 2 (fun _ _ => rfl) ?_
                        refine q_Ru_rsF (g2 := (5, [(0, .int v), (1, .int 0), (2, .int 255)], [], (q_cX q_AX q_IX q_J0, 40, 26520))) rfl rfl h233 ?_
                        refine q_Ru_seg (g2 := (7, [(0, .int v), (1, .int 0), (2, .int 255)], [.int 255, .int v], (q_cX q_AX q_IX q_J0, 40, 26520))) 2 (fun _ _ => rfl) ?_
                        refine q_Ru_rsT (g2 := (20, [(0, .int v), (1, .int 0), (2, .int 255)], [], (q_cX q_AX q_IX q_J0, 40, 26520))) rfl rfl (q_d_geF h235) ?_
                        exact q_Ru_ret rfl rfl
                      show q_Ru _ _ _ (8, [(0, .int v)], [], (q_cX q_AX q_IX q_J0, 40, 26520)) _
                      exact q_Ru_ret rfl rfl
                    show q_Ru _ _ _ (8, [(0, .ref 64), (1, .int 3878), (2, .int v)], [], (q_cX q_AX q_IX q_J0, 40, 26520)) _
                    refine q_Ru_seg (g2 := (13, [(0, .ref 64), (1, .int 3878), (2, .int v)], [.int 0, .int v, .int 3878, .int 0, .ref 64], (q_cX q_AX q_IX q_J0, 40, 26520))) 5 (fun _ _ => rfl) ?_
                    refine q_Ru_call (v := none) (h2 := (q_cX q_AX q_IX q_J0, 40, 26520)) rfl rfl ?_ ?_
                    · refine q_Ca_of (Nat.le_of_ble_eq_true rfl) ?_
                      refine q_Ru_seg (g2 := (19, [(0, .ref 64), (1, .int 0), (2, .int 3878), (3, .int v), (4, .int 0)], [], (q_cX q_AX q_IX q_J0, 40, 26520))) 3 (fun _ _ => rfl) ?_
                      exact q_Ru_ret rfl rfl
                    show q_Ru _ _ _ (16, [(0, .ref 64), (1, .int 3878), (2, .int v)], [], (q_cX q_AX q_IX q_J0, 40, 26520)) _
                    refine q_Ru_seg (g2 := (24, [(0, .ref 64), (1, .int 3878), (2, .int v)], [.int 0, .int v, .int 3878, .int 0, .ref 65], (q_cX q_AX q_IX q_J0, 40, 26520))) 6 (fun _ _ => rfl) ?_
                    refine q_Ru_call (v := (some (.int 0))) (h2 := (q_cX A109 I109 q_J0, 40, 26520)) rfl rfl ?_ ?_
                    · refine q_Ca_of (Nat.le_of_ble_eq_true rfl) ?_
                      refine q_Ru_seg (g2 := (74, [(0, .ref 65), (1, .int 0), (2, .int 3878), (3, .int v), (4, .int 0)], [.int v, .int 3878, .ref 66], (q_cX q_AX q_IX q_J0, 40, 26520))) 6 (fun _ _ => rfl) ?_
                      refine q_Ru_call (v := (some (.int 0))) (h2 := (q_cX A109 I109 q_J0, 40, 26520)) rfl rfl ?_ ?_
                      · refine q_Ca_of (Nat.le_of_ble_eq_true rfl) ?_
                        refine q_Ru_seg (g2 := (2, [(0, .ref 66), (1, .int 3878), (2, .int v)], [.int 3878, .ref 66], (q_cX q_AX q_IX q_J0, 40, 26520))) 2 (fun _ _ => rfl) ?_
                        refine q_Ru_call (v := (some (.int 0))) (h2 := (q_cX q_AX q_IX q_J0, 40, 26520)) rfl rfl ?_ ?_
                        · refine q_Ca_of (Nat.le_of_ble_eq_true rfl) ?_
                          refine q_Ru_seg (g2 := (27, [(2, .int 38), (0, .ref 66), (1, .int 3878)], [.int 0, .int 38, .ref 66], (q_cX q_AX q_IX q_J0, 40, 26520))) 16 (fun _ _ => rfl) ?_
                          refine q_Ru_call (v := (some (.int 0))) (h2 := (q_cX q_AX q_IX q_J0, 40, 26520)) rfl rfl ?_ ?_
                          · refine q_Ca_of (Nat.le_of_ble_eq_true rfl) ?_
                            refine q_Ru_seg (g2 := (183, [(0, .ref 66), (1, .int 38), (2, .int 0)], [.int 0], (q_cX q_AX q_IX q_J0, 40, 26520))) 3 (fun _ _ => rfl) ?_
                            exact q_Ru_ret rfl rfl
                          show q_Ru _ _ _ (30, [(2, .int 38), (0, .ref 66), (1, .int 3878)], [.int 0], (q_cX q_AX q_IX q_J0, 40, 26520)) _
                          exact q_Ru_ret rfl rfl
                        show q_Ru _ _ _ (5, [(0, .ref 66), (1, .int 3878), (2, .int v)], [.int 0], (q_cX q_AX q_IX q_J0, 40, 26520)) _
                        refine q_Ru_seg (g2 := (9, [(3, .int 0), (0, .ref 66), (1, .int 3878), (2, .int v)], [.int v, .int 3878, .ref 66], (q_cX q_AX q_IX q_J0, 40, 26520))) 4 (fun _ _ => rfl) ?_
                        refine q_Ru_call (v := none) (h2 := (q_cX A109 I109 q_J0, 40, 26520)) rfl rfl ?_ ?_
                        · exact p109.le (Nat.le_of_ble_eq_true rfl)
                        show q_Ru _ _ _ (12, [(3, .int 0), (0, .ref 66), (1, .int 3878), (2, .int v)], [], (q_cX A109 I109 q_J0, 40, 26520)) _
                        refine q_Ru_seg (g2 := (13, [(3, .int 0), (0, .ref 66), (1, .int 3878), (2, .int v)], [.int 0], (q_cX A109 I109 q_J0, 40, 26520))) 1 (fun _ _ => rfl) ?_
                        exact q_Ru_ret rfl rfl
                      show q_Ru _ _ _ (77, [(0, .ref 65), (1, .int 0), (2, .int 3878), (3, .int v), (4, .int 0)], [.int 0], (q_cX A109 I109 q_J0, 40, 26520)) _
                      exact q_Ru_ret rfl rfl
                    show q_Ru _ _ _ (27, [(0, .ref 64), (1, .int 3878), (2, .int v)], [.int 0], (q_cX A109 I109 q_J0, 40, 26520)) _
                    exact q_Ru_ret rfl rfl
                  show q_Ru _ _ _ (8, [(0, .ref 64), (1, .int 3878), (2, .int v), (3, .ref 103)], [.int 0, .int 0, .ref 103], (q_cX A109 I109 q_J0, 40, 26520)) _
                  refine q_Ru_seg (g2 := (22, [(0, .ref 64), (1, .int 3878), (2, .int v), (3, .ref 103)], [.int 0], (q_cX A109 I109 (q_uA q_J0 39 (vp_updL (fun _ => 0) 0 0)), 40, 26520))) 4 (fun _ _ => rfl) ?_
                  exact q_Ru_ret rfl rfl
                · refine q_Ca_of (Nat.le_of_ble_eq_true rfl) ?_
                  refine q_Ru_seg (g2 := (2, [(0, .ref 64), (1, .int 3878), (2, .int v)], [.int 3878, .ref 64], (q_cM q_AM q_IM q_J0, 34, 31630))) 2 (fun _ _ => rfl) ?_
                  refine q_Ru_call (v := (some (.int 0))) (h2 := (q_cM q_AM q_IM q_J0, 34, 31630)) rfl rfl ?_ ?_
                  · refine q_Ca_of (Nat.le_of_ble_eq_true rfl) ?_
                    refine q_Ru_seg (g2 := (5, [(0, .int 3878)], [.int 4095, .int 0, .int 3878], (q_cM q_AM q_IM q_J0, 34, 31630))) 3 (fun _ _ => rfl) ?_
                    refine q_Ru_call (v := (some (.int 1))) (h2 := (q_cM q_AM q_IM q_J0, 34, 31630)) rfl rfl ?_ ?_
                    · refine q_Ca_of (Nat.le_of_ble_eq_true rfl) ?_
                      refine q_Ru_seg (g2 := (15, [(0, .int 3878), (1, .int 0), (2, .int 4095)], [.int 1], (q_cM q_AM q_IM q_J0, 34, 31630))) 8 (fun _ _ => rfl) ?_
                      exact q_Ru_ret rfl rfl
                    show q_Ru _ _ _ (8, [(0, .int 3878)], [.int 1], (q_cM q_AM q_IM q_J0, 34, 31630)) _
                    refine q_Ru_seg (g2 := (16, [(0, .int 3878)], [.int 0], (q_cM q_AM q_IM q_J0, 34, 31630))) 2 (fun _ _ => rfl) ?_
                    exact q_Ru_ret rfl rfl
                  show q_Ru _ _ _ (5, [(0, .ref 64), (1, .int 3878), (2, .int v)], [.int 0, .ref 64], (q_cM q_AM q_IM q_J0, 34, 31630)) _
                  refine q_Ru_seg (g2 := (13, [(0, .ref 64), (1, .int 3878), (2, .int v)], [.int v, .ref 64], (q_cM q_AM q_IM q_J0, 34, 31630))) 2 (fun _ _ => rfl) ?_
                  refine q_Ru_call (v := (some (.int 0))) (h2 := (q_cM q_AM q_IM q_J0, 34, 31630)) rfl rfl ?_ ?_
                  · refine q_Ca_of (Nat.le_of_ble_eq_true rfl) ?_
                    refine q_Ru_seg (g2 := (5, [(0, .int v)], [.int 255, .int 0, .int v], (q_cM q_AM q_IM q_J0, 34, 31630))) 3 (fun _ _ => rfl) ?_
                    refine q_Ru_call (v := (some (.int 1))) (h2 := (q_cM q_AM q_IM q_J0, 34, 31630)) rfl rfl ?_ ?_
                    · refine q_Ca_of (Nat.le_of_ble_eq_true rfl) ?_
                      refine q_Ru_seg (g2 := (2, [(0, .int v), (1, .int 0), (2, .int 255)], [.int 0, .int v], (q_cM q_AM q_IM q_J0, 34, 31630))) 2 (fun _ _ => rfl) ?_
                      refine q_Ru_rsF (g2 := (5, [(0, .int v), (1, .int 0), (2, .int 255)], [], (q_cM q_AM q_IM q_J0, 34, 31630))) rfl rfl h233 ?_
                      refine q_Ru_seg (g2 := (7, [(0, .int v), (1, .int 0), (2, .int 255)], [.int 255, .int v], (q_cM q_AM q_IM q_J0, 34, 31630))) 2 (fun _ _ => rfl) ?_
                      refine q_Ru_rsF (g2 := (10, [(0, .int v), (1, .int 0), (2, .int 255)], [], (q_cM q_AM q_IM q_J0, 34, 31630))) rfl rfl h235 ?_
                      refine q_Ru_seg (g2 := (15, [(0, .int v), (1, .int 0), (2, .int 255)], [.int 1], (q_cM q_AM q_IM q_J0, 34, 31630))) 2 (fun _ _ => rfl) ?_
                      exact q_Ru_ret rfl rfl
                    show q_Ru _ _ _ (8, [(0, .int v)], [.int 1], (q_cM q_AM q_IM q_J0, 34, 31630)) _
                    refine q_Ru_seg (g2 := (16, [(0, .int v)], [.int 0], (q_cM q_AM q_IM q_J0, 34, 31630))) 2 (fun _ _ => rfl) ?_
                    exact q_Ru_ret rfl rfl
                  show q_Ru _ _ _ (16, [(0, .ref 64), (1, .int 3878), (2, .int v)], [.int 0, .ref 64], (q_cM q_AM q_IM q_J0, 34, 31630)) _
                  refine q_Ru_seg (g2 := (24, [(0, .ref 64), (1, .int 3878), (2, .int v)], [.int 0, .ref 64], (q_cM q_AM q_IM q_J0, 34, 31630))) 2 (fun _ _ => rfl) ?_
                  refine q_Ru_call (v := (some (.int 0))) (h2 := (q_cM q_AM (q_uI q_IM 0 39 0) q_J0, 34, 31630)) rfl rfl ?_ ?_
                  · refine q_Ca_of (Nat.le_of_ble_eq_true rfl) ?_
                    refine q_Ru_seg (g2 := (14, [(0, .ref 64), (1, .int 0)], [.int 0], (q_cM q_AM (q_uI q_IM 0 39 0) q_J0, 34, 31630))) 6 (fun _ _ => rfl) ?_
                    exact q_Ru_ret rfl rfl
                  show q_Ru _ _ _ (27, [(0, .ref 64), (1, .int 3878), (2, .int v)], [.int 0], (q_cM q_AM (q_uI q_IM 0 39 0) q_J0, 34, 31630)) _
                  refine q_Ru_seg (g2 := (34, [(0, .ref 64), (1, .int 3878), (2, .int v)], [.int 3878, .ref 64], (q_cM q_AM (q_uI q_IM 0 39 0) q_J0, 34, 31630))) 3 (fun _ _ => rfl) ?_
                  refine q_Ru_call (v := (some (.int 0))) (h2 := (q_cM q_AM (q_uI q_IM 0 39 0) q_J0, 34, 31630)) rfl rfl ?_ ?_
                  · refine q_Ca_of (Nat.le_of_ble_eq_true rfl) ?_
                    refine q_Ru_seg (g2 := (7, [(0, .ref 64), (1, .int 3878)], [.int 3887, .int 3840, .int 3878], (q_cM q_AM (q_uI q_IM 0 39 0) q_J0, 34, 31630))) 3 (fun _ _ => rfl) ?_
                    refine q_Ru_call (v := (some (.int 1))) (h2 := (q_cM q_AM (q_uI q_IM 0 39 0) q_J0, 34, 31630)) rfl rfl ?_ ?_
                    · refine q_Ca_of (Nat.le_of_ble_eq_true rfl) ?_
                      refine q_Ru_seg (g2 := (15, [(0, .int 3878), (1, .int 3840), (2, .int 3887)], [.int 1], (q_cM q_AM (q_uI q_IM 0 39 0) q_J0, 34, 31630))) 8 (fun _ _ => rfl) ?_
                      exact q_Ru_ret rfl rfl
                    show q_Ru _ _ _ (10, [(0, .ref 64), (1, .int 3878)], [.int 1], (q_cM q_AM (q_uI q_IM 0 39 0) q_J0, 34, 31630)) _
                    refine q_Ru_seg (g2 := (19, [(0, .ref 64), (1, .int 3878)], [.int 38, .ref 64], (q_cM q_AM (q_uI q_IM 0 39 0) q_J0, 34, 31630))) 5 (fun _ _ => rfl) ?_
                    refine q_Ru_call (v := (some (.int 0))) (h2 := (q_cM q_AM (q_uI q_IM 0 39 0) q_J0, 34, 31630)) rfl rfl ?_ ?_
                    · refine q_Ca_of (Nat.le_of_ble_eq_true rfl) ?_
                      refine q_Ru_seg (g2 := (30, [(0, .ref 64), (1, .int 38)], [.int 15, .int 12, .int 38], (q_cM q_AM (q_uI q_IM 0 39 0) q_J0, 34, 31630))) 9 (fun _ _ => rfl) ?_
                      refine q_Ru_call (v := (some (.int 0))) (h2 := (q_cM q_AM (q_uI q_IM 0 39 0) q_J0, 34, 31630)) rfl rfl ?_ ?_
                      · refine q_Ca_of (Nat.le_of_ble_eq_true rfl) ?_
                        refine q_Ru_seg (g2 := (15, [(0, .int 38), (1, .int 12), (2, .int 15)], [.int 0], (q_cM q_AM (q_uI q_IM 0 39 0) q_J0, 34, 31630))) 7 (fun _ _ => rfl) ?_
                        exact q_Ru_ret rfl rfl
                      show q_Ru _ _ _ (33, [(0, .ref 64), (1, .int 38)], [.int 0], (q_cM q_AM (q_uI q_IM 0 39 0) q_J0, 34, 31630)) _
                      refine q_Ru_seg (g2 := (190, [(0, .ref 64), (1, .int 38)], [.int 0], (q_cM q_AM (q_uI q_IM 0 39 0) q_J0, 34, 31630))) 20 (fun _ _ => rfl) ?_
                      exact q_Ru_ret rfl rfl
                    show q_Ru _ _ _ (22, [(0, .ref 64), (1, .int 3878)], [.int 0], (q_cM q_AM (q_uI q_IM 0 39 0) q_J0, 34, 31630)) _
                    exact q_Ru_ret rfl rfl
                  show q_Ru _ _ _ (37, [(0, .ref 64), (1, .int 3878), (2, .int v)], [.int 0], (q_cM q_AM (q_uI q_IM 0 39 0) q_J0, 34, 31630)) _
                  refine q_Ru_seg (g2 := (41, [(3, .int 0), (0, .ref 64), (1, .int 3878), (2, .int v)], [.int v, .int 3878, .ref 64], (q_cM q_AM (q_uI q_IM 0 39 0) q_J0, 34, 31630))) 4 (fun _ _ => rfl) ?_
                  refine q_Ru_call (v := none) (h2 := (q_cM A110 (q_uI q_IM 0 39 0) q_J0, 34, 31630)) rfl rfl ?_ ?_
                  · exact p110.le (Nat.le_of_ble_eq_true rfl)
                  show q_Ru _ _ _ (44, [(3, .int 0), (0, .ref 64), (1, .int 3878), (2, .int v)], [], (q_cM A110 (q_uI q_IM 0 39 0) q_J0, 34, 31630)) _
                  refine q_Ru_seg (g2 := (45, [(3, .int 0), (0, .ref 64), (1, .int 3878), (2, .int v)], [.ref 64], (q_cM A110 (q_uI q_IM 0 39 0) q_J0, 34, 31630))) 1 (fun _ _ => rfl) ?_
                  refine q_Ru_call (v := none) (h2 := (q_cM A110 (q_uI q_IM 0 39 0) q_J0, 34, 31630)) rfl rfl ?_ ?_
                  · refine q_Ca_of (Nat.le_of_ble_eq_true rfl) ?_
                    refine q_Ru_seg (g2 := (17, [(0, .ref 64)], [], (q_cM A110 (q_uI q_IM 0 39 0) q_J0, 34, 31630))) 3 (fun _ _ => rfl) ?_
                    exact q_Ru_ret rfl rfl
                  show q_Ru _ _ _ (48, [(3, .int 0), (0, .ref 64), (1, .int 3878), (2, .int v)], [], (q_cM A110 (q_uI q_IM 0 39 0) q_J0, 34, 31630)) _
                  refine q_Ru_seg (g2 := (49, [(3, .int 0), (0, .ref 64), (1, .int 3878), (2, .int v)], [.int 0], (q_cM A110 (q_uI q_IM 0 39 0) q_J0, 34, 31630))) 1 (fun _ _ => rfl) ?_
                  exact q_Ru_ret rfl rfl
              | 39, _, e249 =>
                have e249 : a = 3879 := e249
                subst e249
                obtain ⟨A111, I111, p111⟩ := q_p_write q_AX q_IX (40) (26520) 3879 v
                obtain ⟨A112, p112⟩ := q_p_writes q_AM (q_uI q_IM 0 39 0) (34) (31630) 3879 v (by decide) (by decide)
                refine ⟨0, 0, 0, ⟨(q_cX A111 I111 (q_uA q_J0 39 (vp_updL (fun _ => 0) 0 0)), 40, 26520), (q_uA q_J0 39 (vp_updL (fun _ => 0) 0 0)) 39, ?_, rfl, fun _ => rfl, Nat.le_of_ble_eq_true rfl, Nat.le_of_ble_eq_true rfl⟩, ⟨(q_cM A112 (q_uI q_IM 0 39 0) q_J0, 34, 31630), _, ?_, rfl, rfl, Nat.le_of_ble_eq_true rfl, Nat.le_of_ble_eq_true rfl⟩, fun _ => rfl⟩
                · refine q_Ca_of (Nat.le_of_ble_eq_true rfl) ?_
                  refine q_Ru_seg (g2 := (5, [(0, .ref 64), (1, .int 3879), (2, .int v), (3, .ref 103)], [.int v, .int 3879, .ref 64, .int 0, .ref 103], (q_cX q_AX q_IX q_J0, 40, 26520))) 5 (fun _ _ => rfl) ?_
                  refine q_Ru_call (v := (some (.int 0))) (h2 := (q_cX A111 I111 q_J0, 40, 26520)) rfl rfl ?_ ?_
                  · refine q_Ca_of (Nat.le_of_ble_eq_true rfl) ?_
                    refine q_Ru_seg (g2 := (1, [(0, .ref 64), (1, .int 3879), (2, .int v)], [.int 3879], (q_cX q_AX q_IX q_J0, 40, 26520))) 1 (fun _ _ => rfl) ?_
                    refine q_Ru_call (v := none) (h2 := (q_cX q_AX q_IX q_J0, 40, 26520)) rfl rfl ?_ ?_
                    · refine q_Ca_of (Nat.le_of_ble_eq_true rfl) ?_
                      refine q_Ru_seg (g2 := (4, [(0, .int 3879)], [.int 4096, .int 3879], (q_cX q_AX q_IX q_J0, 40, 26520))) 2 (fun _ _ => rfl) ?_
                      refine q_Ru_call (v := none) (h2 := (q_cX q_AX q_IX q_J0, 40, 26520)) rfl rfl ?_ ?_
                      · refine q_Ca_of (Nat.le_of_ble_eq_true rfl) ?_
                        refine q_Ru_seg (g2 := (19, [(0, .int 3879), (1, .int 4096)], [], (q_cX q_AX q_IX q_J0, 40, 26520))) 5 (fun _ _ => rfl) ?_
                        exact q_Ru_ret rfl rfl
                      show q_Ru _ _ _ (7, [(0, .int 3879)], [], (q_cX q_AX q_IX q_J0, 40, 26520)) _
                      exact q_Ru_ret rfl rfl
                    show q_Ru _ _ _ (4, [(0, .ref 64), (1, .int 3879), (2, .int v)], [], (q_cX q_AX q_IX q_J0, 40, 26520)) _
                    refine q_Ru_seg (g2 := (5, [(0, .ref 64), (1, .int 3879), (2, .int v)], [.int v], (q_cX q_AX q_IX q_J0, 40, 26520))) 1 (fun _ _ => rfl) ?_
                    refine q_Ru_call (v := none) (h2 := (q_cX q_AX q_IX q_J0, 40, 26520)) rfl rfl ?_ ?_
                    · refine q_Ca_of (Nat.le_of_ble_eq_true rfl) ?_
                      refine q_Ru_seg (g2 := (5, [(0, .int v)], [.int 255, .int 0, .int v], (q_cX q_AX q_IX q_J0, 40, 26520))) 3 (fun _ _ => rfl) ?_
                      refine q_Ru_call (v := none) (h2 := (q_cX q_AX q_IX q_J0, 40, 26520)) rfl rfl ?_ ?_
                      · refine q_Ca_of (Nat.le_of_ble_eq_true rfl) ?_
                        refine q_Ru_seg (g2 := (2, [(0, .int v), (1, .int 0), (2, .int 255)], [.int 0, .int v], (q_cX q_AX q_IX q_J0, 40, 26520))) 2 (fun _ _ => rfl) ?_
                        refine q_Ru_rsF (g2 := (5, [(0, .int v), (1, .int 0), (2, .int 255)], [], (q_cX q_AX q_IX q_J0, 40, 26520))) rfl rfl h233 ?_
                        refine q_Ru_seg (g2 := (7, [(0, .int v), (1, .int 0), (2, .int 255)], [.int 255, .int v], (q_cX q_AX q_IX q_J0, 40, 26520))) 2 (fun _ _ => rfl) ?_
                        refine q_Ru_rsT (g2 := (20, [(0, .int v), (1, .int 0), (2, .int 255)], [], (q_cX q_AX q_IX q_J0, 40, 26520))) rfl rfl (q_d_geF h235) ?_
                        exact q_Ru_ret rfl rfl
                      show q_Ru _ _ _ (8, [(0, .int v)], [], (q_cX q_AX q_IX q_J0, 40, 26520)) _
                      exact q_Ru_ret rfl rfl
                    show q_Ru _ _ _ (8, [(0, .ref 64), (1, .int 3879), (2, .int v)], [], (q_cX q_AX q_IX q_J0, 40, 26520)) _
                    refine q_Ru_seg (g2 := (13, [(0, .ref 64), (1, .int 3879), (2, .int v)], [.int 0, .int v, .int 3879, .int 0, .ref 64], (q_cX q_AX q_IX q_J0, 40, 26520))) 5 (fun _ _ => rfl) ?_
                    refine q_Ru_call (v := none) (h2 := (q_cX q_AX q_IX q_J0, 40, 26520)) rfl rfl ?_ ?_
                    · refine q_Ca_of (Nat.le_of_ble_eq_true rfl) ?_
                      refine q_Ru_seg (g2 := (19, [(0, .ref 64), (1, .int 0), (2, .int 3879), (3, .int v), (4, .int 0)], [], (q_cX q_AX q_IX q_J0, 40, 26520))) 3 (fun _ _ => rfl) ?_
                      exact q_Ru_ret rfl rfl
                    show q_Ru _ _ _ (16, [(0, .ref 64), (1, .int 3879), (2, .int v)], [], (q_cX q_AX q_IX q_J0, 40, 26520)) _
                    refine q_Ru_seg (g2 := (24, [(0, .ref 64), (1, .int 3879), (2, .int v)], [.int 0, .int v, .int 3879, .int 0, .ref 65], (q_cX q_AX q_IX q_J0, 40, 26520))) 6 (fun _ _ => rfl) ?_
                    refine q_Ru_call (v := (some (.int 0))) (h2 := (q_cX A111 I111 q_J0, 40, 26520)) rfl rfl ?_ ?_
                    · refine q_Ca_of (Nat.le_of_ble_eq_true rfl) ?_
                      refine q_Ru_seg (g2 := (74, [(0, .ref 65), (1, .int 0), (2, .int 3879), (3, .int v), (4, .int 0)], [.int v, .int 3879, .ref 66], (q_cX q_AX q_IX q_J0, 40, 26520))) 6 (fun _ _ => rfl) ?_
                      refine q_Ru_call (v := (some (.int 0))) (h2 := (q_cX A111 I111 q_J0, 40, 26520)) rfl rfl ?_ ?_
                      · refine q_Ca_of (Nat.le_of_ble_eq_true rfl) ?_
                        refine q_Ru_seg (g2 := (2, [(0, .ref 66), (1, .int 3879), (2, .int v)], [.int 3879, .ref 66], (q_cX q_AX q_IX q_J0, 40, 26520))) 2 (fun _ _ => rfl) ?_
                        refine q_Ru_call (v := (some (.int 0))) (h2 := (q_cX q_AX q_IX q_J0, 40, 26520)) rfl rfl ?_ ?_
                        · refine q_Ca_of (Nat.le_of_ble_eq_true rfl) ?_
                          refine q_Ru_seg (g2 := (27, [(2, .int 39), (0, .ref 66), (1, .int 3879)], [.int 0, .int 39, .ref 66], (q_cX q_AX q_IX q_J0, 40, 26520))) 16 (fun _ _ => rfl) ?_
                          refine q_Ru_call (v := (some (.int 0))) (h2 := (q_cX q_AX q_IX q_J0, 40, 26520)) rfl rfl ?_ ?_
                          · refine q_Ca_of (Nat.le_of_ble_eq_true rfl) ?_
                            refine q_Ru_seg (g2 := (183, [(0, .ref 66), (1, .int 39), (2, .int 0)], [.int 0], (q_cX q_AX q_IX q_J0, 40, 26520))) 3 (fun _ _ => rfl) ?_
                            exact q_Ru_ret rfl rfl
                          show q_Ru _ _ _ (30, [(2, .int 39), (0, .ref 66), (1, .int 3879)], [.int 0], (q_cX q_AX q_IX q_J0, 40, 26520)) _
                          exact q_Ru_ret rfl rfl
                        show q_Ru _ _ _ (5, [(0, .ref 66), (1, .int 3879), (2, .int v)], [.int 0], (q_cX q_AX q_IX q_J0, 40, 26520)) _
                        refine q_Ru_seg (g2 := (9, [(3, .int 0), (0, .ref 66), (1, .int 3879), (2, .int v)], [.int v, .int 3879, .ref 66], (q_cX q_AX q_IX q_J0, 40, 26520))) 4 (fun _ _ => rfl) ?_
                        refine q_Ru_call (v := none) (h2 := (q_cX A111 I111 q_J0, 40, 26520)) rfl rfl ?_ ?_
                        · exact p111.le (Nat.le_of_ble_eq_true rfl)
                        show q_Ru _ _ _ (12, [(3, .int 0), (0, .ref 66), (1, .int 3879), (2, .int v)], [], (q_cX A111 I111 q_J0, 40, 26520)) _
                        refine q_Ru_seg (g2 := (13, [(3, .int 0), (0, .ref 66), (1, .int 3879), (2, .int v)], [.int 0], (q_cX A111 I111 q_J0, 40, 26520))) 1 (fun _ _ => rfl) ?_
                        exact q_Ru_ret rfl rfl
                      show q_Ru _ _ _ (77, [(0, .ref 65), (1, .int 0), (2, .int 3879), (3, .int v), (4, .int 0)], [.int 0], (q_cX A111 I111 q_J0, 40, 26520)) _
                      exact q_Ru_ret rfl rfl
                    show q_Ru _ _ _ (27, [(0, .ref 64), (1, .int 3879), (2, .int v)], [.int 0], (q_cX A111 I111 q_J0, 40, 26520)) _
                    exact q_Ru_ret rfl rfl
                  show q_Ru _ _ _ (8, [(0, .ref 64), (1, .int 3879), (2, .int v), (3, .ref 103)], [.int 0, .int 0, .ref 103], (q_cX A111 I111 q_J0, 40, 26520)) _
                  refine q_Ru_seg (g2 := (22, [(0, .ref 64), (1, .int 3879), (2, .int v), (3, .ref 103)], [.int 0], (q_cX A111 I111 (q_uA q_J0 39 (vp_updL (fun _ => 0) 0 0)), 40, 26520))) 4 (fun _ _ => rfl) ?_
                  exact q_Ru_ret rfl rfl
                · refine q_Ca_of (Nat.le_of_ble_eq_true rfl) ?_
                  refine q_Ru_seg (g2 := (2, [(0, .ref 64), (1, .int 3879), (2, .int v)], [.int 3879, .ref 64], (q_cM q_AM q_IM q_J0, 34, 31630))) 2 (fun _ _ => rfl) ?_
                  refine q_Ru_call (v := (some (.int 0))) (h2 := (q_cM q_AM q_IM q_J0, 34, 31630)) rfl rfl ?_ ?_
                  · refine q_Ca_of (Nat.le_of_ble_eq_true rfl) ?_
                    refine q_Ru_seg (g2 := (5, [(0, .int 3879)], [.int 4095, .int 0, .int 3879], (q_cM q_AM q_IM q_J0, 34, 31630))) 3 (fun _ _ => rfl) ?_
                    refine q_Ru_call (v := (some (.int 1))) (h2 := (q_cM q_AM q_IM q_J0, 34, 31630)) rfl rfl ?_ ?_
                    · refine q_Ca_of (Nat.le_of_ble_eq_true rfl) ?_
                      refine q_Ru_seg (g2 := (15, [(0, .int 3879), (1, .int 0), (2, .int 4095)], [.int 1], (q_cM q_AM q_IM q_J0, 34, 31630))) 8 (fun _ _ => rfl) ?_
                      exact q_Ru_ret rfl rfl
                    show q_Ru _ _ _ (8, [(0, .int 3879)], [.int 1], (q_cM q_AM q_IM q_J0, 34, 31630)) _
                    refine q_Ru_seg (g2 := (16, [(0, .int 3879)], [.int 0], (q_cM q_AM q_IM q_J0, 34, 31630))) 2 (fun _ _ => rfl) ?_
                    exact q_Ru_ret rfl rfl
                  show q_Ru _ _ _ (5, [(0, .ref 64), (1, .int 3879), (2, .int v)], [.int 0, .ref 64], (q_cM q_AM q_IM q_J0, 34, 31630)) _
                  refine q_Ru_seg (g2 := (13, [(0, .ref 64), (1, .int 3879), (2, .int v)], [.int v, .ref 64], (q_cM q_AM q_IM q_J0, 34, 31630))) 2 (fun _ _ => rfl) ?_
                  refine q_Ru_call (v := (some (.int 0))) (h2 := (q_cM q_AM q_IM q_J0, 34, 31630)) rfl rfl ?_ ?_
                  · refine q_Ca_of (Nat.le_of_ble_eq_true rfl) ?_
                    refine q_Ru_seg (g2 := (5, [(0, .int v)], [.int 255, .int 0, .int v], (q_cM q_AM q_IM q_J0, 34, 31630))) 3 (fun _ _ => rfl) ?_
                    refine q_Ru_call (v := (some (.int 1))) (h2 := (q_cM q_AM q_IM q_J0, 34, 31630)) rfl rfl ?_ ?_
                    · refine q_Ca_of (Nat.le_of_ble_eq_true rfl) ?_
                      refine q_Ru_seg (g2 := (2, [(0, .int v), (1, .int 0), (2, .int 255)], [.int 0, .int v], (q_cM q_AM q_IM q_J0, 34, 31630))) 2 (fun _ _ => rfl) ?_
                      refine q_Ru_rsF (g2 := (5, [(0, .int v), (1, .int 0), (2, .int 255)], [], (q_cM q_AM q_IM q_J0, 34, 31630))) rfl rfl h233 ?_
                      refine q_Ru_seg (g2 := (7, [(0, .int v), (1, .int 0), (2, .int 255)], [.int 255, .int v], (q_cM q_AM q_IM q_J0, 34, 31630))) 2 (fun _ _ => rfl) ?_
                      refine q_Ru_rsF (g2 := (10, [(0, .int v), (1, .int 0), (2, .int 255)], [], (q_cM q_AM q_IM q_J0, 34, 31630))) rfl rfl h235 ?_
                      refine q_Ru_seg (g2 := (15, [(0, .int v), (1, .int 0), (2, .int 255)], [.int 1], (q_cM q_AM q_IM q_J0, 34, 31630))) 2 (fun _ _ => rfl) ?_
                      exact q_Ru_ret rfl rfl
                    show q_Ru _ _ _ (8, [(0, .int v)], [.int 1], (q_cM q_AM q_IM q_J0, 34, 31630)) _
                    refine q_Ru_seg (g2 := (16, [(0, .int v)], [.int 0], (q_cM q_AM q_IM q_J0, 34, 31630))) 2 (fun _ _ => rfl) ?_
                    exact q_Ru_ret rfl rfl
                  show q_Ru _ _ _ (16, [(0, .ref 64), (1, .int 3879), (2, .int v)], [.int 0, .ref 64], (q_cM q_AM q_IM q_J0, 34, 31630)) _
                  refine q_Ru_seg (g2 := (24, [(0, .ref 64), (1, .int 3879), (2, .int v)], [.int 0, .ref 64], (q_cM q_AM q_IM q_J0, 34, 31630))) 2 (fun _ _ => rfl) ?_
                  refine q_Ru_call (v := (some (.int 0))) (h2 := (q_cM q_AM (q_uI q_IM 0 39 0) q_J0, 34, 31630)) rfl rfl ?_ ?_
                  · refine q_Ca_of (Nat.le_of_ble_eq_true rfl) ?_
                    refine q_Ru_seg (g2 := (14, [(0, .ref 64), (1, .int 0)], [.int 0], (q_cM q_AM (q_uI q_IM 0 39 0) q_J0, 34, 31630))) 6 (fun _ _ => rfl) ?_
                    exact q_Ru_ret rfl rfl
                  show q_Ru _ _ _ (27, [(0, .ref 64), (1, .int 3879), (2, .int v)], [.int 0], (q_cM q_AM (q_uI q_IM 0 39 0) q_J0, 34, 31630)) _
                  refine q_Ru_seg (g2 := (34, [(0, .ref 64), (1, .int 3879), (2, .int v)], [.int 3879, .ref 64], (q_cM q_AM (q_uI q_IM 0 39 0) q_J0, 34, 31630))) 3 (fun _ _ => rfl) ?_
                  refine q_Ru_call (v := (some (.int 0))) (h2 := (q_cM q_AM (q_uI q_IM 0 39 0) q_J0, 34, 31630)) rfl rfl ?_ ?_
                  · refine q_Ca_of (Nat.le_of_ble_eq_true rfl) ?_
                    refine q_Ru_seg (g2 := (7, [(0, .ref 64), (1, .int 3879)], [.int 3887, .int 3840, .int 3879], (q_cM q_AM (q_uI q_IM 0 39 0) q_J0, 34, 31630))) 3 (fun _ _ => rfl) ?_
                    refine q_Ru_call (v := (some (.int 1))) (h2 := (q_cM q_AM (q_uI q_IM 0 39 0) q_J0, 34, 31630)) rfl rfl ?_ ?_
                    · refine q_Ca_of (Nat.le_of_ble_eq_true rfl) ?_
                      refine q_Ru_seg (g2 := (15, [(0, .int 3879), (1, .int 3840), (2, .int 3887)], [.int 1], (q_cM q_AM (q_uI q_IM 0 39 0) q_J0, 34, 31630))) 8 (fun _ _ => rfl) ?_
                      exact q_Ru_ret rfl rfl
                    show q_Ru _ _ _ (10, [(0, .ref 64), (1, .int 3879)], [.int 1], (q_cM q_AM (q_uI q_IM 0 39 0) q_J0, 34, 31630)) _
                    refine q_Ru_seg (g2 := (19, [(0, .ref 64), (1, .int 3879)], [.int 39, .ref 64], (q_cM q_AM (q_uI q_IM 0 39 0) q_J0, 34, 31630))) 5 (fun _ _ => rfl) ?_
                    refine q_Ru_call (v := (some (.int 0))) (h2 := (q_cM q_AM (q_uI q_IM 0 39 0) q_J0, 34, 31630)) rfl rfl ?_ ?_
                    · refine q_Ca_of (Nat.le_of_ble_eq_true rfl) ?_
                      refine q_Ru_seg (g2 := (30, [(0, .ref 64), (1, .int 39)], [.int 15, .int 12, .int 39], (q_cM q_AM (q_uI q_IM 0 39 0) q_J0, 34, 31630))) 9 (fun _ _ => rfl) ?_
                      refine q_Ru_call (v := (some (.int 0))) (h2 := (q_cM q_AM (q_uI q_IM 0 39 0) q_J0, 34, 31630)) rfl rfl ?_ ?_
                      · refine q_Ca_of (Nat.le_of_ble_eq_true rfl) ?_
                        refine q_Ru_seg (g2 := (15, [(0, .int 39), (1, .int 12), (2, .int 15)], [.int 0], (q_cM q_AM (q_uI q_IM 0 39 0) q_J0, 34, 31630))) 7 (fun _ _ => rfl) ?_
                        exact q_Ru_ret rfl rfl
                      show q_Ru _ _ _ (33, [(0, .ref 64), (1, .int 39)], [.int 0], (q_cM q_AM (q_uI q_IM 0 39 0) q_J0, 34, 31630)) _
                      refine q_Ru_seg (g2 := (190, [(0, .ref 64), (1, .int 39)], [.int 0], (q_cM q_AM (q_uI q_IM 0 39 0) q_J0, 34, 31630))) 20 (fun _ _ => rfl) ?_
                      exact q_Ru_ret rfl rfl
                    show q_Ru _ _ _ (22, [(0, .ref 64), (1, .int 3879)], [.int 0], (q_cM q_AM (q_uI q_IM 0 39 0) q_J0, 34, 31630)) _
                    exact q_Ru_ret rfl rfl
                  show q_Ru _ _ _ (37, [(0, .ref 64), (1, .int 3879), (2, .int v)], [.int 0], (q_cM q_AM (q_uI q_IM 0 39 0) q_J0, 34, 31630)) _
                  refine q_Ru_seg (g2 := (41, [(3, .int 0), (0, .ref 64), (1, .int 3879), (2, .int v)], [.int v, .int 3879, .ref 64], (q_cM q_AM (q_uI q_IM 0 39 0) q_J0, 34, 31630))) 4 (fun _ _ => rfl) ?_
                  refine q_Ru_call (v := none) (h2 := (q_cM A112 (q_uI q_IM 0 39 0) q_J0, 34, 31630)) rfl rfl ?_ ?_
                  · exact p112.le (Nat.le_of_ble_eq_true rfl)
                  show q_Ru _ _ _ (44, [(3, .int 0), (0, .ref 64), (1, .int 3879), (2, .int v)], [], (q_cM A112 (q_uI q_IM 0 39 0) q_J0, 34, 31630)) _
                  refine q_Ru_seg (g2 := (45, [(3, .int 0), (0, .ref 64), (1, .int 3879), (2, .int v)], [.ref 64], (q_cM A112 (q_uI q_IM 0 39 0) q_J0, 34, 31630))) 1 (fun _ _ => rfl) ?_
                  refine q_Ru_call (v := none) (h2 := (q_cM A112 (q_uI q_IM 0 39 0) q_J0, 34, 31630)) rfl rfl ?_ ?_
                  · refine q_Ca_of (Nat.le_of_ble_eq_true rfl) ?_
                    refine q_Ru_seg (g2 := (17, [(0, .ref 64)], [], (q_cM A112 (q_uI q_IM 0 39 0) q_J0, 34, 31630))) 3 (fun _ _ => rfl) ?_
                    exact q_Ru_ret rfl rfl
                  show q_Ru _ _ _ (48, [(3, .int 0), (0, .ref 64), (1, .int 3879), (2, .int v)], [], (q_cM A112 (q_uI q_IM 0 39 0) q_J0, 34, 31630)) _
                  refine q_Ru_seg (g2 := (49, [(3, .int 0), (0, .ref 64), (1, .int 3879), (2, .int v)], [.int 0], (q_cM A112 (q_uI q_IM 0 39 0) q_J0, 34, 31630))) 1 (fun _ _ => rfl) ?_
                  exact q_Ru_ret rfl rfl
              | 40, _, e249 =>
                have e249 : a = 3880 := e249
                subst e249
                obtain ⟨A113, I113, p113⟩ := q_p_write q_AX q_IX (40) (26520) 3880 v
                obtain ⟨A114, p114⟩ := q_p_writes q_AM (q_uI q_IM 0 39 0) (34) (31630) 3880 v (by decide) (by decide)
                refine ⟨0, 0, 0, ⟨(q_cX A113 I113 (q_uA q_J0 39 (vp_updL (fun _ => 0) 0 0)), 40, 26520), (q_uA q_J0 39 (vp_updL (fun _ => 0) 0 0)) 39, ?_, rfl, fun _ => rfl, Nat.le_of_ble_eq_true rfl, Nat.le_of_ble_eq_true rfl⟩, ⟨(q_cM A114 (q_uI q_IM 0 39 0) q_J0, 34, 31630), _, ?_, rfl, rfl, Nat.le_of_ble_eq_true rfl, Nat.le_of_ble_eq_true rfl⟩, fun _ => rfl⟩
                · refine q_Ca_of (Nat.le_of_ble_eq_true rfl) ?_
                  refine q_Ru_seg (g2 := (5, [(0, .ref 64), (1, .int 3880), (2, .int v), (3, .ref 103)], [.int v, .int 3880, .ref 64, .int 0, .ref 103], (q_cX q_AX q_IX q_J0, 40, 26520))) 5 (fun _ _ => rfl) ?_
                  refine q_Ru_call (v := (some (.int 0))) (h2 := (q_cX A113 I113 q_J0, 40, 26520)) rfl rfl ?_ ?_
                  · refine q_Ca_of (Nat.le_of_ble_eq_true rfl) ?_
                    refine q_Ru_seg (g2 := (1, [(0, .ref 64), (1, .int 3880), (2, .int v)], [.int 3880], (q_cX q_AX q_IX q_J0, 40, 26520))) 1 (fun _ _ => rfl) ?_
                    refine q_Ru_call (v := none) (h2 := (q_cX q_AX q_IX q_J0, 40, 26520)) rfl rfl ?_ ?_
                    · refine q_Ca_of (Nat.le_of_ble_eq_true rfl) ?_
                      refine q_Ru_seg (g2 := (4, [(0, .int 3880)], [.int 4096, .int 3880], (q_cX q_AX q_IX q_J0, 40, 26520))) 2 (fun _ _ => rfl) ?_
                      refine q_Ru_call (v := none) (h2 := (q_cX q_AX q_IX q_J0, 40, 26520)) rfl rfl ?_ ?_
                      · refine q_Ca_of (Nat.le_of_ble_eq_true rfl) ?_
                        refine q_Ru_seg (g2 := (19, [(0, .int 3880), (1, .int 4096)], [], (q_cX q_AX q_IX q_J0, 40, 26520))) 5 (fun _ _ => rfl) ?_
                        exact q_Ru_ret rfl rfl
                      show q_Ru _ _ _ (7, [(0, .int 3880)], [], (q_cX q_AX q_IX q_J0, 40, 26520)) _
                      exact q_Ru_ret rfl rfl
                    show q_Ru _ _ _ (4, [(0, .ref 64), (1, .int 3880), (2, .int v)], [], (q_cX q_AX q_IX q_J0, 40, 26520)) _
                    refine q_Ru_seg (g2 := (5, [(0, .ref 64), (1, .int 3880), (2, .int v)], [.int v], (q_cX q_AX q_IX q_J0, 40, 26520))) 1 (fun _ _ => rfl) ?_
                    refine q_Ru_call (v := none) (h2 := (q_cX q_AX q_IX q_J0, 40, 26520)) rfl rfl ?_ ?_
                    · refine q_Ca_of (Nat.le_of_ble_eq_true rfl) ?_
                      refine q_Ru_seg (g2 := (5, [(0, .int v)], [.int 255, .int 0, .int v], (q_cX q_AX q_IX q_J0, 40, 26520))) 3 (fun _ _ => rfl) ?_
                      refine q_Ru_call (v := none) (h2 := (q_cX q_AX q_IX q_J0, 40, 26520)) rfl rfl ?_ ?_
                      · refine q_Ca_of (Nat.le_of_ble_eq_true rfl) ?_
                        refine q_Ru_seg (g2 := (2, [(0, .int v), (1, .int 0), (2, .int 255)], [.int 0, .int v], (q_cX q_AX q_IX q_J0, 40, 26520))) 2 (fun _ _ => rfl) ?_
                        refine q_Ru_rsF (g2 := (5, [(0, .int v), (1, .int 0), (2, .int 255)], [], (q_cX q_AX q_IX q_J0, 40, 26520))) rfl rfl h233 ?_
                        refine q_Ru_seg (g2 := (7, [(0, .int v), (1, .int 0), (2, .int 255)], [.int 255, .int v], (q_cX q_AX q_IX q_J0, 40, 26520))) 2 (fun _ _ => rfl) ?_
                        refine q_Ru_rsT (g2 := (20, [(0, .int v), (1, .int 0), (2, .int 255)], [], (q_cX q_AX q_IX q_J0, 40, 26520))) rfl rfl (q_d_geF h235) ?_
                        exact q_Ru_ret rfl rfl
                      show q_Ru _ _ _ (8, [(0, .int v)], [], (q_cX q_AX q_IX q_J0, 40, 26520)) _
                      exact q_Ru_ret rfl rfl
                    show q_Ru _ _ _ (8, [(0, .ref 64), (1, .int 3880), (2, .int v)], [], (q_cX q_AX q_IX q_J0, 40, 26520)) _
                    refine q_Ru_seg (g2 := (13, [(0, .ref 64), (1, .int 3880), (2, .int v)], [.int 0, .int v, .int 3880, .int 0, .ref 64], (q_cX q_AX q_IX q_J0, 40, 26520))) 5 (fun _ _ => rfl) ?_
                    refine q_Ru_call (v := none) (h2 := (q_cX q_AX q_IX q_J0, 40, 26520)) rfl rfl ?_ ?_
                    · refine q_Ca_of (Nat.le_of_ble_eq_true rfl) ?_
                      refine q_Ru_seg (g2 := (19, [(0, .ref 64), (1, .int 0), (2, .int 3880), (3, .int v), (4, .int 0)], [], (q_cX q_AX q_IX q_J0, 40, 26520))) 3 (fun _ _ => rfl) ?_
                      exact q_Ru_ret rfl rfl
                    show q_Ru _ _ _ (16, [(0, .ref 64), (1, .int 3880), (2, .int v)], [], (q_cX q_AX q_IX q_J0, 40, 26520)) _
                    refine q_Ru_seg (g2 := (24, [(0, .ref 64), (1, .int 3880), (2, .int v)], [.int 0, .int v, .int 3880, .int 0, .ref 65], (q_cX q_AX q_IX q_J0, 40, 26520))) 6 (fun _ _ => rfl) ?_
                    refine q_Ru_call (v := (some (.int 0))) (h2 := (q_cX A113 I113 q_J0, 40, 26520)) rfl rfl ?_ ?_
                    · refine q_Ca_of (Nat.le_of_ble_eq_true rfl) ?_
                      refine q_Ru_seg (g2 := (74, [(0, .ref 65), (1, .int 0), (2, .int 3880), (3, .int v), (4, .int 0)], [.int v, .int 3880, .ref 66], (q_cX q_AX q_IX q_J0, 40, 26520))) 6 (fun _ _ => rfl) ?_
                      refine q_Ru_call (v := (some (.int 0))) (h2 := (q_cX A113 I113 q_J0, 40, 26520)) rfl rfl ?_ ?_
                      · refine q_Ca_of (Nat.le_of_ble_eq_true rfl) ?_
                        refine q_Ru_seg (g2 := (2, [(0, .ref 66), (1, .int 3880), (2, .int v)], [.int 3880, .ref 66], (q_cX q_AX q_IX q_J0, 40, 26520))) 2 (fun _ _ => rfl) ?_
                        refine q_Ru_call (v := (some (.int 0))) (h2 := (q_cX q_AX q_IX q_J0, 40, 26520)) rfl rfl ?_ ?_
                        · refine q_Ca_of (Nat.le_of_ble_eq_true rfl) ?_
                          refine q_Ru_seg (g2 := (27, [(2, .int 40), (0, .ref 66), (1, .int 3880)], [.int 0, .int 40, .ref 66], (q_cX q_AX q_IX q_J0, 40, 26520))) 16 (fun _ _ => rfl) ?_
                          refine q_Ru_call (v := (some (.int 0))) (h2 := (q_cX q_AX q_IX q_J0, 40, 26520)) rfl rfl ?_ ?_
                          · refine q_Ca_of (Nat.le_of_ble_eq_true rfl) ?_
                            refine q_Ru_seg (g2 := (183, [(0, .ref 66), (1, .int 40), (2, .int 0)], [.int 0], (q_cX q_AX q_IX q_J0, 40, 26520))) 3 (fun _ _ => rfl) ?_
                            exact q_Ru_ret rfl rfl
                          show q_Ru _ _ _ (30, [(2, .int 40), (0, .ref 66), (1, .int 3880)], [.int 0], (q_cX q_AX q_IX q_J0, 40, 26520)) _
                          exact q_Ru_ret rfl rfl
                        show q_Ru _ _ _ (5, [(0, .ref 66), (1, .int 3880), (2, .int v)], [.int 0], (q_cX q_AX q_IX q_J0, 40, 26520)) _
                        refine q_Ru_seg (g2 := (9, [(3, .int 0), (0, .ref 66), (1, .int 3880), (2, .int v)], [.int v, .int 3880, .ref 66], (q_cX q_AX q_IX q_J0, 40, 26520))) 4 (fun _ _ => rfl) ?_
                        refine q_Ru_call (v := none) (h2 := (q_cX A113 I113 q_J0, 40, 26520)) rfl rfl ?_ ?_
                        · exact p113.le (Nat.le_of_ble_eq_true rfl)
                        show q_Ru _ _ _ (12, [(3, .int 0), (0, .ref 66), (1, .int 3880), (2, .int v)], [], (q_cX A113 I113 q_J0, 40, 26520)) _
                        refine q_Ru_seg (g2 := (13, [(3, .int 0), (0, .ref 66), (1, .int 3880), (2, .int v)], [.int 0], (q_cX A113 I113 q_J0, 40, 26520))) 1 (fun _ _ => rfl) ?_
                        exact q_Ru_ret rfl rfl
                      show q_Ru _ _ _ (77, [(0, .ref 65), (1, .int 0), (2, .int 3880), (3, .int v), (4, .int 0)], [.int 0], (q_cX A113 I113 q_J0, 40, 26520)) _
                      exact q_Ru_ret rfl rfl
                    show q_Ru _ _ _ (27, [(0, .ref 64), (1, .int 3880), (2, .int v)], [.int 0], (q_cX A113 I113 q_J0, 40, 26520)) _
                    exact q_Ru_ret rfl rfl
                  show q_Ru _ _ _ (8, [(0, .ref 64), (1, .int 3880), (2, .int v), (3, .ref 103)], [.int 0, .int 0, .ref 103], (q_cX A113 I113 q_J0, 40, 26520)) _
                  refine q_Ru_seg (g2 := (22, [(0, .ref 64), (1, .int 3880), (2, .int v), (3, .ref 103)], [.int 0], (q_cX A113 I113 (q_uA q_J0 39 (vp_updL (fun _ => 0) 0 0)), 40, 26520))) 4 (fun _ _ => rfl) ?_
                  exact q_Ru_ret rfl rfl
                · refine q_Ca_of (Nat.le_of_ble_eq_true rfl) ?_
                  refine q_Ru_seg (g2 := (2, [(0, .ref 64), (1, .int 3880), (2, .int v)], [.int 3880, .ref 64], (q_cM q_AM q_IM q_J0, 34, 31630))) 2 (fun _ _ => rfl) ?_
                  refine q_Ru_call (v := (some (.int 0))) (h2 := (q_cM q_AM q_IM q_J0, 34, 31630)) rfl rfl ?_ ?_
                  · refine q_Ca_of (Nat.le_of_ble_eq_true rfl) ?_
                    refine q_Ru_seg (g2 := (5, [(0, .int 3880)], [.int 4095, .int 0, .int 3880], (q_cM q_AM q_IM q_J0, 34, 31630))) 3 (fun _ _ => rfl) ?_
                    refine q_Ru_call (v := (some (.int 1))) (h2 := (q_cM q_AM q_IM q_J0, 34, 31630)) rfl rfl ?_ ?_
                    · refine q_Ca_of (Nat.le_of_ble_eq_true rfl) ?_
                      refine q_Ru_seg (g2 := (15, [(0, .int 3880), (1, .int 0), (2, .int 4095)], [.int 1], (q_cM q_AM q_IM q_J0, 34, 31630))) 8 (fun _ _ => rfl) ?_
                      exact q_Ru_ret rfl rfl
                    show q_Ru _ _ _ (8, [(0, .int 3880)], [.int 1], (q_cM q_AM q_IM q_J0, 34, 31630)) _
                    refine q_Ru_seg (g2 := (16, [(0, .int 3880)], [.int 0], (q_cM q_AM q_IM q_J0, 34, 31630))) 2 (fun _ _ => rfl) ?_
                    exact q_Ru_ret rfl rfl
                  show q_Ru _ _ _ (5, [(0, .ref 64), (1, .int 3880), (2, .int v)], [.int 0, .ref 64], (q_cM q_AM q_IM q_J0, 34, 31630)) _
                  refine q_Ru_seg (g2 := (13, [(0, .ref 64), (1, .int 3880), (2, .int v)], [.int v, .ref 64], (q_cM q_AM q_IM q_J0, 34, 31630))) 2 (fun _ _ => rfl) ?_
                  refine q_Ru_call (v := (some (.int 0))) (h2 := (q_cM q_AM q_IM q_J0, 34, 31630)) rfl rfl ?_ ?_
                  · refine q_Ca_of (Nat.le_of_ble_eq_true rfl) ?_
                    refine q_Ru_seg (g2 := (5, [(0, .int v)], [.int 255, .int 0, .int v], (q_cM q_AM q_IM q_J0, 34, 31630))) 3 (fun _ _ => rfl) ?_
                    refine q_Ru_call (v := (some (.int 1))) (h2 := (q_cM q_AM q_IM q_J0, 34, 31630)) rfl rfl ?_ ?_
                    · refine q_Ca_of (Nat.le_of_ble_eq_true rfl) ?_
                      refine q_Ru_seg (g2 := (2, [(0, .int v), (1, .int 0), (2, .int 255)], [.int 0, .int v], (q_cM q_AM q_IM q_J0, 34, 31630))) 2 (fun _ _ => rfl) ?_
                      refine q_Ru_rsF (g2 := (5, [(0, .int v), (1, .int 0), (2, .int 255)], [], (q_cM q_AM q_IM q_J0, 34, 31630))) rfl rfl h233 ?_
                      refine q_Ru_seg (g2 := (7, [(0, .int v), (1, .int 0), (2, .int 255)], [.int 255, .int v], (q_cM q_AM q_IM q_J0, 34, 31630))) 2 (fun _ _ => rfl) ?_
                      refine q_Ru_rsF (g2 := (10, [(0, .int v), (1, .int 0), (2, .int 255)], [], (q_cM q_AM q_IM q_J0, 34, 31630))) rfl rfl h235 ?_
                      refine q_Ru_seg (g2 := (15, [(0, .int v), (1, .int 0), (2, .int 255)], [.int 1], (q_cM q_AM q_IM q_J0, 34, 31630))) 2 (fun _ _ => rfl) ?_
                      exact q_Ru_ret rfl rfl
                    show q_Ru _ _ _ (8, [(0, .int v)], [.int 1], (q_cM q_AM q_IM q_J0, 34, 31630)) _
                    refine q_Ru_seg (g2 := (16, [(0, .int v)], [.int 0], (q_cM q_AM q_IM q_J0, 34, 31630))) 2 (fun _ _ => rfl) ?_
                    exact q_Ru_ret rfl rfl
                  show q_Ru _ _ _ (16, [(0, .ref 64), (1, .int 3880), (2, .int v)], [.int 0, .ref 64], (q_cM q_AM q_IM q_J0, 34, 31630)) _
                  refine q_Ru_seg (g2 := (24, [(0, .ref 64), (1, .int 3880), (2, .int v)], [.int 0, .ref 64], (q_cM q_AM q_IM q_J0, 34, 31630))) 2 (fun _ _ => rfl) ?_
                  refine q_Ru_call (v := (some (.int 0))) (h2 := (q_cM q_AM (q_uI q_IM 0 39 0) q_J0, 34, 31630)) rfl rfl ?_ ?_
                  · refine q_Ca_of (Nat.le_of_ble_eq_true rfl) ?_
                    refine q_Ru_seg (g2 := (14, [(0, .ref 64), (1, .int 0)], [.int 0], (q_cM q_AM (q_uI q_IM 0 39 0) q_J0, 34, 31630))) 6 (fun _ _ => rfl) ?_
                    exact q_Ru_ret rfl rfl
                  show q_Ru _ _ _ (27, [(0, .ref 64), (1, .int 3880), (2, .int v)], [.int 0], (q_cM q_AM (q_uI q_IM 0 39 0) q_J0, 34, 31630)) _
                  refine q_Ru_seg (g2 := (34, [(0, .ref 64), (1, .int 3880), (2, .int v)], [.int 3880, .ref 64], (q_cM q_AM (q_uI q_IM 0 39 0) q_J0, 34, 31630))) 3 (fun _ _ => rfl) ?_
                  refine q_Ru_call (v := (some (.int 0))) (h2 := (q_cM q_AM (q_uI q_IM 0 39 0) q_J0, 34, 31630)) rfl rfl ?_ ?_
                  · refine q_Ca_of (Nat.le_of_ble_eq_true rfl) ?_
                    refine q_Ru_seg (g2 := (7, [(0, .ref 64), (1, .int 3880)], [.int 3887, .int 3840, .int 3880], (q_cM q_AM (q_uI q_IM 0 39 0) q_J0, 34, 31630))) 3 (fun _ _ => rfl) ?_
                    refine q_Ru_call (v := (some (.int 1))) (h2 := (q_cM q_AM (q_uI q_IM 0 39 0) q_J0, 34, 31630)) rfl rfl ?_ ?_
                    · refine q_Ca_of (Nat.le_of_ble_eq_true rfl) ?_
                      refine q_Ru_seg (g2 := (15, [(0, .int 3880), (1, .int 3840), (2, .int 3887)], [.int 1], (q_cM q_AM (q_uI q_IM 0 39 0) q_J0, 34, 31630))) 8 (fun _ _ => rfl) ?_
                      exact q_Ru_ret rfl rfl
                    show q_Ru _ _ _ (10, [(0, .ref 64), (1, .int 3880)], [.int 1], (q_cM q_AM (q_uI q_IM 0 39 0) q_J0, 34, 31630)) _
                    refine q_Ru_seg (g2 := (19, [(0, .ref 64), (1, .int 3880)], [.int 40, .ref 64], (q_cM q_AM (q_uI q_IM 0 39 0) q_J0, 34, 31630))) 5 (fun _ _ => rfl) ?_
                    refine q_Ru_call (v := (some (.int 0))) (h2 := (q_cM q_AM (q_uI q_IM 0 39 0) q_J0, 34, 31630)) rfl rfl ?_ ?_
                    · refine q_Ca_of (Nat.le_of_ble_eq_true rfl) ?_
                      refine q_Ru_seg (g2 := (30, [(0, .ref 64), (1, .int 40)], [.int 15, .int 12, .int 40], (q_cM q_AM (q_uI q_IM 0 39 0) q_J0, 34, 31630))) 9 (fun _ _ => rfl) ?_
                      refine q_Ru_call (v := (some (.int 0))) (h2 := (q_cM q_AM (q_uI q_IM 0 39 0) q_J0, 34, 31630)) rfl rfl ?_ ?_
                      · refine q_Ca_of (Nat.le_of_ble_eq_true rfl) ?_
                        refine q_Ru_seg (g2 := (15, [(0, .int 40), (1, .int 12), (2, .int 15)], [.int 0], (q_cM q_AM (q_uI q_IM 0 39 0) q_J0, 34, 31630))) 7 (fun _ _ => rfl) ?_
                        exact q_Ru_ret rfl rfl
                      show q_Ru _ _ _ (33, [(0, .ref 64), (1, .int 40)], [.int 0], (q_cM q_AM (q_uI q_IM 0 39 0) q_J0, 34, 31630)) _
                      refine q_Ru_seg (g2 := (190, [(0, .ref 64), (1, .int 40)], [.int 0], (q_cM q_AM (q_uI q_IM 0 39 0) q_J0, 34, 31630))) 20 (fun _ _ => rfl) ?_
                      exact q_Ru_ret rfl rfl
                    show q_Ru _ _ _ (22, [(0, .ref 64), (1, .int 3880)], [.int 0], (q_cM q_AM (q_uI q_IM 0 39 0) q_J0, 34, 31630)) _
                    exact q_Ru_ret rfl rfl
                  show q_Ru _ _ _ (37, [(0, .ref 64), (1, .int 3880), (2, .int v)], [.int 0], (q_cM q_AM (q_uI q_IM 0 39 0) q_J0, 34, 31630)) _
                  refine q_Ru_seg (g2 := (41, [(3, .int 0), (0, .ref 64), (1, .int 3880), (2, .int v)], [.int v, .int 3880, .ref 64], (q_cM q_AM (q_uI q_IM 0 39 0) q_J0, 34, 31630))) 4 (fun _ _ => rfl) ?_
                  refine q_Ru_call (v := none) (h2 := (q_cM A114 (q_uI q_IM 0 39 0) q_J0, 34, 31630)) rfl rfl ?_ ?_
                  · exact p114.le (Nat.le_of_ble_eq_true rfl)
                  show q_Ru _ _ _ (44, [(3, .int 0), (0, .ref 64), (1, .int 3880), (2, .int v)], [], (q_cM A114 (q_uI q_IM 0 39 0) q_J0, 34, 31630)) _
                  refine q_Ru_seg (g2 := (45, [(3, .int 0), (0, .ref 64), (1, .int 3880), (2, .int v)], [.ref 64], (q_cM A114 (q_uI q_IM 0 39 0) q_J0, 34, 31630))) 1 (fun _ _ => rfl) ?_
                  refine q_Ru_call (v := none) (h2 := (q_cM A114 (q_uI q_IM 0 39 0) q_J0, 34, 31630)) rfl rfl ?_ ?_
                  · refine q_Ca_of (Nat.le_of_ble_eq_true rfl) ?_
                    refine q_Ru_seg (g2 := (17, [(0, .ref 64)], [], (q_cM A114 (q_uI q_IM 0 39 0) q_J0, 34, 31630))) 3 (fun _ _ => rfl) ?_
                    exact q_Ru_ret rfl rfl
                  show q_Ru _ _ _ (48, [(3, .int 0), (0, .ref 64), (1, .int 3880), (2, .int v)], [], (q_cM A114 (q_uI q_IM 0 39 0) q_J0, 34, 31630)) _
                  refine q_Ru_seg (g2 := (49, [(3, .int 0), (0, .ref 64), (1, .int 3880), (2, .int v)], [.int 0], (q_cM A114 (q_uI q_IM 0 39 0) q_J0, 34, 31630))) 1 (fun _ _ => rfl) ?_
                  exact q_Ru_ret rfl rfl
              | 41, _, e249 =>
                have e249 : a = 3881 := e249
                subst e249
                obtain ⟨A115, I115, p115⟩ := q_p_write q_AX q_IX (40) (26520) 3881 v
                obtain ⟨A116, p116⟩ := q_p_writes q_AM (q_uI q_IM 0 39 0) (34) (31630) 3881 v (by decide) (by decide)
                refine ⟨0, 0, 0, ⟨(q_cX A115 I115 (q_uA q_J0 39 (vp_updL (fun _ => 0) 0 0)), 40, 26520), (q_uA q_J0 39 (vp_updL (fun _ => 0) 0 0)) 39, ?_, rfl, fun _ => rfl, Nat.le_of_ble_eq_true rfl, Nat.le_of_ble_eq_true rfl⟩, ⟨(q_cM A116 (q_uI q_IM 0 39 0) q_J0, 34, 31630), _, ?_, rfl, rfl, Nat.le_of_ble_eq_true rfl, Nat.le_of_ble_eq_true rfl⟩, fun _ => rfl⟩
                · refine q_Ca_of (Nat.le_of_ble_eq_true rfl) ?_
                  refine q_Ru_seg (g2 := (5, [(0, .ref 64), (1, .int 3881), (2, .int v), (3, .ref 103)], [.int v, .int 3881, .ref 64, .int 0, .ref 103], (q_cX q_AX q_IX q_J0, 40, 26520))) 5 (fun _ _ => rfl) ?_
                  refine q_Ru_call (v := (some (.int 0))) (h2 := (q_cX A115 I115 q_J0, 40, 26520)) rfl rfl ?_ ?_
                  · refine q_Ca_of (Nat.le_of_ble_eq_true rfl) ?_
                    refine q_Ru_seg (g2 := (1, [(0, .ref 64), (1, .int 3881), (2, .int v)], [.int 3881], (q_cX q_AX q_IX q_J0, 40, 26520))) 1 (fun _ _ => rfl) ?_
                    refine q_Ru_call (v := none) (h2 := (q_cX q_AX q_IX q_J0, 40, 26520)) rfl rfl ?_ ?_
                    · refine q_Ca_of (Nat.le_of_ble_eq_true rfl) ?_
                      refine q_Ru_seg (g2 := (4, [(0, .int 3881)], [.int 4096, .int 3881], (q_cX q_AX q_IX q_J0, 40, 26520))) 2 (fun _ _ => rfl) ?_
                      refine q_Ru_call (v := none) (h2 := (q_cX q_AX q_IX q_J0, 40, 26520)) rfl rfl ?_ ?_
                      · refine q_Ca_of (Nat.le_of_ble_eq_true rfl) ?_
                        refine q_Ru_seg (g2 := (19, [(0, .int 3881), (1, .int 4096)], [], (q_cX q_AX q_IX q_J0, 40, 26520))) 5 (fun _ _ => rfl) ?_
                        exact q_Ru_ret rfl rfl
                      show q_Ru _ _ _ (7, [(0, .int 3881)], [], (q_cX q_AX q_IX q_J0, 40, 26520)) _
                      exact q_Ru_ret rfl rfl
                    show q_Ru _ _ _ (4, [(0, .ref 64), (1, .int 3881), (2, .int v)], [], (q_cX q_AX q_IX q_J0, 40, 26520)) _
                    refine q_Ru_seg (g2 := (5, [(0, .ref 64), (1, .int 3881), (2, .int v)], [.int v], (q_cX q_AX q_IX q_J0, 40, 26520))) 1 (fun _ _ => rfl) ?_
                    refine q_Ru_call (v := none) (h2 := (q_cX q_AX q_IX q_J0, 40, 26520)) rfl rfl ?_ ?_
                    · refine q_Ca_of (Nat.le_of_ble_eq_true rfl) ?_
                      refine q_Ru_seg (g2 := (5, [(0, .int v)], [.int 255, .int 0, .int v], (q_cX q_AX q_IX q_J0, 40, 26520))) 3 (fun _ _ => rfl) ?_
                      refine q_Ru_call (v := none) (h2 := (q_cX q_AX q_IX q_J0, 40, 26520)) rfl rfl ?_ ?_
                      · refine q_Ca_of (Nat.le_of_ble_eq_true rfl) ?_
                        refine q_Ru_seg (g2 := (2, [(0, .int v), (1, .int 0), (2, .int 255)], [.int 0, .int v], (q_cX q_AX q_IX q_J0, 40, 26520))) 2 (fun _ _ => rfl) ?_
                        refine q_Ru_rsF (g2 := (5, [(0, .int v), (1, .int 0), (2, .int 255)], [], (q_cX q_AX q_IX q_J0, 40, 26520))) rfl rfl h233 ?_
                        refine q_Ru_seg (g2 := (7, [(0, .int v), (1, .int 0), (2, .int 255)], [.int 255, .int v], (q_cX q_AX q_IX q_J0, 40, 26520))) 2 (fun _ _ => rfl) ?_
                        refine q_Ru_rsT (g2 := (20, [(0, .int v), (1, .int 0), (2, .int 255)], [], (q_cX q_AX q_IX q_J0, 40, 26520))) rfl rfl (q_d_geF h235) ?_
                        exact q_Ru_ret rfl rfl
                      show q_Ru _ _ _ (8, [(0, .int v)], [], (q_cX q_AX q_IX q_J0, 40, 26520)) _
                      exact q_Ru_ret rfl rfl
                    show q_Ru _ _ _ (8, [(0, .ref 64), (1, .int 3881), (2, .int v)], [], (q_cX q_AX q_IX q_J0, 40, 26520)) _
                    refine q_Ru_seg (g2 := (13, [(0, .ref 64), (1, .int 3881), (2, .int v)], [.int 0, .int v, .int 3881, .int 0, .ref 64], (q_cX q_AX q_IX q_J0, 40, 26520))) 5 (fun _ _ => rfl) ?_
                    refine q_Ru_call (v := none) (h2 := (q_cX q_AX q_IX q_J0, 40, 26520)) rfl rfl ?_ ?_
                    · refine q_Ca_of (Nat.le_of_ble_eq_true rfl) ?_
                      refine q_Ru_seg (g2 := (19, [(0, .ref 64), (1, .int 0), (2, .int 3881), (3, .int v), (4, .int 0)], [], (q_cX q_AX q_IX q_J0, 40, 26520))) 3 (fun _ _ => rfl) ?_
                      exact q_Ru_ret rfl rfl
                    show q_Ru _ _ _ (16, [(0, .ref 64), (1, .int 3881), (2, .int v)], [], (q_cX q_AX q_IX q_J0, 40, 26520)) _
                    refine q_Ru_seg (g2 := (24, [(0, .ref 64), (1, .int 3881), (2, .int v)], [.int 0, .int v, .int 3881, .int 0, .ref 65], (q_cX q_AX q_IX q_J0, 40, 26520))) 6 (fun _ _ => rfl) ?_
                    refine q_Ru_call (v := (some (.int 0))) (h2 := (q_cX A115 I115 q_J0, 40, 26520)) rfl rfl ?_ ?_
                    · refine q_Ca_of (Nat.le_of_ble_eq_true rfl) ?_
                      refine q_Ru_seg (g2 := (74, [(0, .ref 65), (1, .int 0), (2, .int 3881), (3, .int v), (4, .int 0)], [.int v, .int 3881, .ref 66], (q_cX q_AX q_IX q_J0, 40, 26520))) 6 (fun _ _ => rfl) ?_
                      refine q_Ru_call (v := (some (.int 0))) (h2 := (q_cX A115 I115 q_J0, 40, 26520)) rfl rfl ?_ ?_
                      · refine q_Ca_of (Nat.le_of_ble_eq_true rfl) ?_
                        refine q_Ru_seg (g2 := (2, [(0, .ref 66), (1, .int 3881), (2, .int v)], [.int 3881, .ref 66], (q_cX q_AX q_IX q_J0, 40, 26520))) 2 (fun _ _ => rfl) ?_
                        refine q_Ru_call (v := (some (.int 0))) (h2 := (q_cX q_AX q_IX q_J0, 40, 26520)) rfl rfl ?_ ?_
                        · refine q_Ca_of (Nat.le_of_ble_eq_true rfl) ?_
                          refine q_Ru_seg (g2 := (27, [(2, .int 41), (0, .ref 66), (1, .int 3881)], [.int 0, .int 41, .ref 66], (q_cX q_AX q_IX q_J0, 40, 26520))) 16 (fun _ _ => rfl) ?_
                          refine q_Ru_call (v := (some (.int 0))) (h2 := (q_cX q_AX q_IX q_J0, 40, 26520)) rfl rfl ?_ ?_
                          · refine q_Ca_of (Nat.le_of_ble_eq_true rfl) ?_
                            refine q_Ru_seg (g2 := (183, [(0, .ref 66), (1, .int 41), (2, .int 0)], [.int 0], (q_cX q_AX q_IX q_J0, 40, 26520))) 3 (fun _ _ => rfl) ?_
                            exact q_Ru_ret rfl rfl
                          show q_Ru _ _ _ (30, [(2, .int 41), (0, .ref 66), (1, .int 3881)], [.int 0], (q_cX q_AX q_IX q_J0, 40, 26520)) _
                          exact q_Ru_ret rfl rfl
                        show q_Ru _ _ _ (5, [(0, .ref 66), (1, .int 3881), (2, .int v)], [.int 0], (q_cX q_AX q_IX q_J0, 40, 26520)) _
                        refine q_Ru_seg (g2 := (9, [(3, .int 0), (0, .ref 66), (1, .int 3881), (2, .int v)], [.int v, .int 3881, .ref 66], (q_cX q_AX q_IX q_J0, 40, 26520))) 4 (fun _ _ => rfl) ?_
                        refine q_Ru_call (v := none) (h2 := (q_cX A115 I115 q_J0, 40, 26520)) rfl rfl ?_ ?_
                        · exact p115.le (Nat.le_of_ble_eq_true rfl)
                        show q_Ru _ _ _ (12, [(3, .int 0), (0, .ref 66), (1, .int 3881), (2, .int v)], [], (q_cX A115 I115 q_J0, 40, 26520)) _
                        refine q_Ru_seg (g2 := (13, [(3, .int 0), (0, .ref 66), (1, .int 3881), (2, .int v)], [.int 0], (q_cX A115 I115 q_J0, 40, 26520))) 1 (fun _ _ => rfl) ?_
                        exact q_Ru_ret rfl rfl
                      show q_Ru _ _ _ (77, [(0, .ref 65), (1, .int 0), (2, .int 3881), (3, .int v), (4, .int 0)], [.int 0], (q_cX A115 I115 q_J0, 40, 26520)) _
                      exact q_Ru_ret rfl rfl
                    show q_Ru _ _ _ (27, [(0, .ref 64), (1, .int 3881), (2, .int v)], [.int 0], (q_cX A115 I115 q_J0, 40, 26520)) _
                    exact q_Ru_ret rfl rfl
                  show q_Ru _ _ _ (8, [(0, .ref 64), (1, .int 3881), (2, .int v), (3, .ref 103)], [.int 0, .int 0, .ref 103], (q_cX A115 I115 q_J0, 40, 26520)) _
                  refine q_Ru_seg (g2 := (22, [(0, .ref 64), (1, .int 3881), (2, .int v), (3, .ref 103)], [.int 0], (q_cX A115 I115 (q_uA q_J0 39 (vp_updL (fun _ => 0) 0 0)), 40, 26520))) 4 (fun _ _ => rfl) ?_
                  exact q_Ru_ret rfl rfl
                · refine q_Ca_of (Nat.le_of_ble_eq_true rfl) ?_
                  refine q_Ru_seg (g2 := (2, [(0, .ref 64), (1, .int 3881), (2, .int v)], [.int 3881, .ref 64], (q_cM q_AM q_IM q_J0, 34, 31630))) 2 (fun _ _ => rfl) ?_
                  refine q_Ru_call (v := (some (.int 0))) (h2 := (q_cM q_AM q_IM q_J0, 34, 31630)) rfl rfl ?_ ?_
                  · refine q_Ca_of (Nat.le_of_ble_eq_true rfl) ?_
                    refine q_Ru_seg (g2 := (5, [(0, .int 3881)], [.int 4095, .int 0, .int 3881], (q_cM q_AM q_IM q_J0, 34, 31630))) 3 (fun _ _ => rfl) ?_
                    refine q_Ru_call (v := (some (.int 1))) (h2 := (q_cM q_AM q_IM q_J0, 34, 31630)) rfl rfl ?_ ?_
                    · refine q_Ca_of (Nat.le_of_ble_eq_true rfl) ?_
                      refine q_Ru_seg (g2 := (15, [(0, .int 3881), (1, .int 0), (2, .int 4095)], [.int 1], (q_cM q_AM q_IM q_J0, 34, 31630))) 8 (fun _ _ => rfl) ?_
                      exact q_Ru_ret rfl rfl
                    show q_Ru _ _ _ (8, [(0, .int 3881)], [.int 1], (q_cM q_AM q_IM q_J0, 34, 31630)) _
                    refine q_Ru_seg (g2 := (16, [(0, .int 3881)], [.int 0], (q_cM q_AM q_IM q_J0, 34, 31630))) 2 (fun _ _ => rfl) ?_
                    exact q_Ru_ret rfl rfl
                  show q_Ru _ _ _ (5, [(0, .ref 64), (1, .int 3881), (2, .int v)], [.int 0, .ref 64], (q_cM q_AM q_IM q_J0, 34, 31630)) _
                  refine q_Ru_seg (g2 := (13, [(0, .ref 64), (1, .int 3881), (2, .int v)], [.int v, .ref 64], (q_cM q_AM q_IM q_J0, 34, 31630))) 2 (fun _ _ => rfl) ?_
                  refine q_Ru_call (v := (some (.int 0))) (h2 := (q_cM q_AM q_IM q_J0, 34, 31630)) rfl rfl ?_ ?_
                  · refine q_Ca_of (Nat.le_of_ble_eq_true rfl) ?_
                    refine q_Ru_seg (g2 := (5, [(0, .int v)], [.int 255, .int 0, .int v], (q_cM q_AM q_IM q_J0, 34, 31630))) 3 (fun _ _ => rfl) ?_
                    refine q_Ru_call (v := (some (.int 1))) (h2 := (q_cM q_AM q_IM q_J0, 34, 31630)) rfl rfl ?_ ?_
                    · refine q_Ca_of (Nat.le_of_ble_eq_true rfl) ?_
                      refine q_Ru_seg (g2 := (2, [(0, .int v), (1, .int 0), (2, .int 255)], [.int 0, .int v], (q_cM q_AM q_IM q_J0, 34, 31630))) 2 (fun _ _ => rfl) ?_
                      refine q_Ru_rsF (g2 := (5, [(0, .int v), (1, .int 0), (2, .int 255)], [], (q_cM q_AM q_IM q_J0, 34, 31630))) rfl rfl h233 ?_
                      refine q_Ru_seg (g2 := (7, [(0, .int v), (1, .int 0), (2, .int 255)], [.int 255, .int v], (q_cM q_AM q_IM q_J0, 34, 31630))) 2 (fun _ _ => rfl) ?_
                      refine q_Ru_rsF (g2 := (10, [(0, .int v), (1, .int 0), (2, .int 255)], [], (q_cM q_AM q_IM q_J0, 34, 31630))) rfl rfl h235 ?_
                      refine q_Ru_seg (g2 := (15, [(0, .int v), (1, .int 0), (2, .int 255)], [.int 1], (q_cM q_AM q_IM q_J0, 34, 31630))) 2 (fun _ _ => rfl) ?_
                      exact q_Ru_ret rfl rfl
                    show q_Ru _ _ _ (8, [(0, .int v)], [.int 1], (q_cM q_AM q_IM q_J0, 34, 31630)) _
                    refine q_Ru_seg (g2 := (16, [(0, .int v)], [.int 0], (q_cM q_AM q_IM q_J0, 34, 31630))) 2 (fun _ _ => rfl) ?_
                    exact q_Ru_ret rfl rfl
                  show q_Ru _ _ _ (16, [(0, .ref 64), (1, .int 3881), (2, .int v)], [.int 0, .ref 64], (q_cM q_AM q_IM q_J0, 34, 31630)) _
                  refine q_Ru_seg (g2 := (24, [(0, .ref 64), (1, .int 3881), (2, .int v)], [.int 0, .ref 64], (q_cM q_AM q_IM q_J0, 34, 31630))) 2 (fun _ _ => rfl) ?_
                  refine q_Ru_call (v := (some (.int 0))) (h2 := (q_cM q_AM (q_uI q_IM 0 39 0) q_J0, 34, 31630)) rfl rfl ?_ ?_
                  · refine q_Ca_of (Nat.le_of_ble_eq_true rfl) ?_
                    refine q_Ru_seg (g2 := (14, [(0, .ref 64), (1, .int 0)], [.int 0], (q_cM q_AM (q_uI q_IM 0 39 0) q_J0, 34, 31630))) 6 (fun _ _ => rfl) ?_
                    exact q_Ru_ret rfl rfl
                  show q_Ru _ _ _ (27, [(0, .ref 64), (1, .int 3881), (2, .int v)], [.int 0], (q_cM q_AM (q_uI q_IM 0 39 0) q_J0, 34, 31630)) _
                  refine q_Ru_seg (g2 := (34, [(0, .ref 64), (1, .int 3881), (2, .int v)], [.int 3881, .ref 64], (q_cM q_AM (q_uI q_IM 0 39 0) q_J0, 34, 31630))) 3 (fun _ _ => rfl) ?_
                  refine q_Ru_call (v := (some (.int 0))) (h2 := (q_cM q_AM (q_uI q_IM 0 39 0) q_J0, 34, 31630)) rfl rfl ?_ ?_
                  · refine q_Ca_of (Nat.le_of_ble_eq_true rfl) ?_
                    refine q_Ru_seg (g2 := (7, [(0, .ref 64), (1, .int 3881)], [.int 3887, .int 3840, .int 3881], (q_cM q_AM (q_uI q_IM 0 39 0) q_J0, 34, 31630))) 3 (fun _ _ => rfl) ?_
                    refine q_Ru_call (v := (some (.int 1))) (h2 := (q_cM q_AM (q_uI q_IM 0 39 0) q_J0, 34, 31630)) rfl rfl ?_ ?_
                    · refine q_Ca_of (Nat.le_of_ble_eq_true rfl) ?_
                      refine q_Ru_seg (g2 := (15, [(0, .int 3881), (1, .int 3840), (2, .int 3887)], [.int 1], (q_cM q_AM (q_uI q_IM 0 39 0) q_J0, 34, 31630))) 8 (fun _ _ => rfl) ?_
                      exact q_Ru_ret rfl rfl
                    show q_Ru _ _ _ (10, [(0, .ref 64), (1, .int 3881)], [.int 1], (q_cM q_AM (q_uI q_IM 0 39 0) q_J0, 34, 31630)) _
                    refine q_Ru_seg (g2 := (19, [(0, .ref 64), (1, .int 3881)], [.int 41, .ref 64], (q_cM q_AM (q_uI q_IM 0 39 0) q_J0, 34, 31630))) 5 (fun _ _ => rfl) ?_
                    refine q_Ru_call (v := (some (.int 0))) (h2 := (q_cM q_AM (q_uI q_IM 0 39 0) q_J0, 34, 31630)) rfl rfl ?_ ?_
                    · refine q_Ca_of (Nat.le_of_ble_eq_true rfl) ?_
                      refine q_Ru_seg (g2 := (30, [(0, .ref 64), (1, .int 41)], [.int 15, .int 12, .int 41], (q_cM q_AM (q_uI q_IM 0 39 0) q_J0, 34, 31630))) 9 (fun _ _ => rfl) ?_
                      refine q_Ru_call (v := (some (.int 0))) (h2 := (q_cM q_AM (q_uI q_IM 0 39 0) q_J0, 34, 31630)) rfl rfl ?_ ?_
                      · refine q_Ca_of (Nat.le_of_ble_eq_true rfl) ?_
                        refine q_Ru_seg (g2 := (15, [(0, .int 41), (1, .int 12), (2, .int 15)], [.int 0], (q_cM q_AM (q_uI q_IM 0 39 0) q_J0, 34, 31630))) 7 (fun _ _ => rfl) ?_
                        exact q_Ru_ret rfl rfl
                      show q_Ru _ _ _ (33, [(0, .ref 64), (1, .int 41)], [.int 0], (q_cM q_AM (q_uI q_IM 0 39 0) q_J0, 34, 31630)) _
                      refine q_Ru_seg (g2 := (190, [(0, .ref 64), (1, .int 41)], [.int 0], (q_cM q_AM (q_uI q_IM 0 39 0) q_J0, 34, 31630))) 20 (fun _ _ => rfl) ?_
                      exact q_Ru_ret rfl rfl
                    show q_Ru _ _ _ (22, [(0, .ref 64), (1, .int 3881)], [.int 0], (q_cM q_AM (q_uI q_IM 0 39 0) q_J0, 34, 31630)) _
                    exact q_Ru_ret rfl rfl
                  show q_Ru _ _ _ (37, [(0, .ref 64), (1, .int 3881), (2, .int v)], [.int 0], (q_cM q_AM (q_uI q_IM 0 39 0) q_J0, 34, 31630)) _
                  refine q_Ru_seg (g2 := (41, [(3, .int 0), (0, .ref 64), (1, .int 3881), (2, .int v)], [.int v, .int 3881, .ref 64], (q_cM q_AM (q_uI q_IM 0 39 0) q_J0, 34, 31630))) 4 (fun _ _ => rfl) ?_
                  refine q_Ru_call (v := none) (h2 := (q_cM A116 (q_uI q_IM 0 39 0) q_J0, 34, 31630)) rfl rfl ?_ ?_
                  · exact p116.le (Nat.le_of_ble_eq_true rfl)
                  show q_Ru _ _ _ (44, [(3, .int 0), (0, .ref 64), (1, .int 3881), (2, .int v)], [], (q_cM A116 (q_uI q_IM 0 39 0) q_J0, 34, 31630)) _
                  refine q_Ru_seg (g2 := (45, [(3, .int 0), (0, .ref 64), (1, .int 3881), (2, .int v)], [.ref 64], (q_cM A116 (q_uI q_IM 0 39 0) q_J0, 34, 31630))) 1 (fun _ _ => rfl) ?_
                  refine q_Ru_call (v := none) (h2 := (q_cM A116 (q_uI q_IM 0 39 0) q_J0, 34, 31630)) rfl rfl ?_ ?_
                  · refine q_Ca_of (Nat.le_of_ble_eq_true rfl) ?_
                    refine q_Ru_seg (g2 := (17, [(0, .ref 64)], [], (q_cM A116 (q_uI q_IM 0 39 0) q_J0, 34, 31630))) 3 (fun _ _ => rfl) ?_
                    exact q_Ru_ret rfl rfl
                  show q_Ru _ _ _ (48, [(3, .int 0), (0, .ref 64), (1, .int 3881), (2, .int v)], [], (q_cM A116 (q_uI q_IM 0 39 0) q_J0, 34, 31630)) _
                  refine q_Ru_seg (g2 := (49, [(3, .int 0), (0, .ref 64), (1, .int 3881), (2, .int v)], [.int 0], (q_cM A116 (q_uI q_IM 0 39 0) q_J0, 34, 31630))) 1 (fun _ _ => rfl) ?_
                  exact q_Ru_ret rfl rfl
              | 42, _, e249 =>
                have e249 : a = 3882 := e249
                subst e249
                obtain ⟨A117, I117, p117⟩ := q_p_write q_AX q_IX (40) (26520) 3882 v
                obtain ⟨A118, p118⟩ := q_p_writes q_AM (q_uI q_IM 0 39 0) (34) (31630) 3882 v (by decide) (by decide)
                refine ⟨0, 0, 0, ⟨(q_cX A117 I117 (q_uA q_J0 39 (vp_updL (fun _ => 0) 0 0)), 40, 26520), (q_uA q_J0 39 (vp_updL (fun _ => 0) 0 0)) 39, ?_, rfl, fun _ => rfl, Nat.le_of_ble_eq_true rfl, Nat.le_of_ble_eq_true rfl⟩, ⟨(q_cM A118 (q_uI q_IM 0 39 0) q_J0, 34, 31630), _, ?_, rfl, rfl, Nat.le_of_ble_eq_true rfl, Nat.le_of_ble_eq_true rfl⟩, fun _ => rfl⟩
                · refine q_Ca_of (Nat.le_of_ble_eq_true rfl) ?_
                  refine q_Ru_seg (g2 := (5, [(0, .ref 64), (1, .int 3882), (2, .int v), (3, .ref 103)], [.int v, .int 3882, .ref 64, .int 0, .ref 103], (q_cX q_AX q_IX q_J0, 40, 26520))) 5 (fun _ _ => rfl) ?_
                  refine q_Ru_call (v := (some (.int 0))) (h2 := (q_cX A117 I117 q_J0, 40, 26520)) rfl rfl ?_ ?_
                  · refine q_Ca_of (Nat.le_of_ble_eq_true rfl) ?_
                    refine q_Ru_seg (g2 := (1, [(0, .ref 64), (1, .int 3882), (2, .int v)], [.int 3882], (q_cX q_AX q_IX q_J0, 40, 26520))) 1 (fun _ _ => rfl) ?_
                    refine q_Ru_call (v := none) (h2 := (q_cX q_AX q_IX q_J0, 40, 26520)) rfl rfl ?_ ?_
                    · refine q_Ca_of (Nat.le_of_ble_eq_true rfl) ?_
                      refine q_Ru_seg (g2 := (4, [(0, .int 3882)], [.int 4096, .int 3882], (q_cX q_AX q_IX q_J0, 40, 26520))) 2 (fun _ _ => rfl) ?_
                      refine q_Ru_call (v := none) (h2 := (q_cX q_AX q_IX q_J0, 40, 26520)) rfl rfl ?_ ?_
                      · refine q_Ca_of (Nat.le_of_ble_eq_true rfl) ?_
                        refine q_Ru_seg (g2 := (19, [(0, .int 3882), (1, .int 4096)], [], (q_cX q_AX q_IX q_J0, 40, 26520))) 5 (fun _ _ => rfl) ?_
                        exact q_Ru_ret rfl rfl
                      show q_Ru _ _ _ (7, [(0, .int 3882)], [], (q_cX q_AX q_IX q_J0, 40, 26520)) _
                      exact q_Ru_ret rfl rfl
                    show q_Ru _ _ _ (4, [(0, .ref 64), (1, .int 3882), (2, .int v)], [], (q_cX q_AX q_IX q_J0, 40, 26520)) _
                    refine q_Ru_seg (g2 := (5, [(0, .ref 64), (1, .int 3882), (2, .int v)], [.int v], (q_cX q_AX q_IX q_J0, 40, 26520))) 1 (fun _ _ => rfl) ?_
                    refine q_Ru_call (v := none) (h2 := (q_cX q_AX q_IX q_J0, 40, 26520)) rfl rfl ?_ ?_
                    · refine q_Ca_of (Nat.le_of_ble_eq_true rfl) ?_
                      refine q_Ru_seg (g2 := (5, [(0, .int v)], [.int 255, .int 0, .int v], (q_cX q_AX q_IX q_J0, 40, 26520))) 3 (fun _ _ => rfl) ?_
                      refine q_Ru_call (v := none) (h2 := (q_cX q_AX q_IX q_J0, 40, 26520)) rfl rfl ?_ ?_
                      · refine q_Ca_of (Nat.le_of_ble_eq_true rfl) ?_
                        refine q_Ru_seg (g2 := (2, [(0, .int v), (1, .int 0), (2, .int 255)], [.int 0, .int v], (q_cX q_AX q_IX q_J0, 40, 26520))) 2 (fun _ _ => rfl) ?_
                        refine q_Ru_rsF (g2 := (5, [(0, .int v), (1, .int 0), (2, .int 255)], [], (q_cX q_AX q_IX q_J0, 40, 26520))) rfl rfl h233 ?_
                        refine q_Ru_seg (g2 := (7, [(0, .int v), (1, .int 0), (2, .int 255)], [.int 255, .int v], (q_cX q_AX q_IX q_J0, 40, 26520))) 2 (fun _ _ => rfl) ?_
                        refine q_Ru_rsT (g2 := (20, [(0, .int v), (1, .int 0), (2, .int 255)], [], (q_cX q_AX q_IX q_J0, 40, 26520))) rfl rfl (q_d_geF h235) ?_
                        exact q_Ru_ret rfl rfl
                      show q_Ru _ _ _ (8, [(0, .int v)], [], (q_cX q_AX q_IX q_J0, 40, 26520)) _
                      exact q_Ru_ret rfl rfl
                    show q_Ru _ _ _ (8, [(0, .ref 64), (1, .int 3882), (2, .int v)], [], (q_cX q_AX q_IX q_J0, 40, 26520)) _
                    refine q_Ru_seg (g2 := (13, [(0, .ref 64), (1, .int 3882), (2, .int v)], [.int 0, .int v, .int 3882, .int 0, .ref 64], (q_cX q_AX q_IX q_J0, 40, 26520))) 5 (fun _ _ => rfl) ?_
                    refine q_Ru_call (v := none) (h2 := (q_cX q_AX q_IX q_J0, 40, 26520)) rfl rfl ?_ ?_
                    · refine q_Ca_of (Nat.le_of_ble_eq_true rfl) ?_
                      refine q_Ru_seg (g2 := (19, [(0, .ref 64), (1, .int 0), (2, .int 3882), (3, .int v), (4, .int 0)], [], (q_cX q_AX q_IX q_J0, 40, 26520))) 3 (fun _ _ => rfl) ?_
                      exact q_Ru_ret rfl rfl
                    show q_Ru _ _ _ (16, [(0, .ref 64), (1, .int 3882), (2, .int v)], [], (q_cX q_AX q_IX q_J0, 40, 26520)) _
                    refine q_Ru_seg (g2 := (24, [(0, .ref 64), (1, .int 3882), (2, .int v)], [.int 0, .int v, .int 3882, .int 0, .ref 65], (q_cX q_AX q_IX q_J0, 40, 26520))) 6 (fun _ _ => rfl) ?_
                    refine q_Ru_call (v := (some (.int 0))) (h2 := (q_cX A117 I117 q_J0, 40, 26520)) rfl rfl ?_ ?_
                    · refine q_Ca_of (Nat.le_of_ble_eq_true rfl) ?_
                      refine q_Ru_seg (g2 := (74, [(0, .ref 65), (1, .int 0), (2, .int 3882), (3, .int v), (4, .int 0)], [.int v, .int 3882, .ref 66], (q_cX q_AX q_IX q_J0, 40, 26520))) 6 (fun _ _ => rfl) ?_
                      refine q_Ru_call (v := (some (.int 0))) (h2 := (q_cX A117 I117 q_J0, 40, 26520)) rfl rfl ?_ ?_
                      · refine q_Ca_of (Nat.le_of_ble_eq_true rfl) ?_
                        refine q_Ru_seg (g2 := (2, [(0, .ref 66), (1, .int 3882), (2, .int v)], [.int 3882, .ref 66], (q_cX q_AX q_IX q_J0, 40, 26520))) 2 (fun _ _ => rfl) ?_
                        refine q_Ru_call (v := (some (.int 0))) (h2 := (q_cX q_AX q_IX q_J0, 40, 26520)) rfl rfl ?_ ?_
                        · refine q_Ca_of (Nat.le_of_ble_eq_true rfl) ?_
                          refine q_Ru_seg (g2 := (27, [(2, .int 42), (0, .ref 66), (1, .int 3882)], [.int 0, .int 42, .ref 66], (q_cX q_AX q_IX q_J0, 40, 26520))) 16 (fun _ _ => rfl) ?_
                          refine q_Ru_call (v := (some (.int 0))) (h2 := (q_cX q_AX q_IX q_J0, 40, 26520)) rfl rfl ?_ ?_
                          · refine q_Ca_of (Nat.le_of_ble_eq_true rfl) ?_
                            refine q_Ru_seg (g2 := (183, [(0, .ref 66), (1, .int 42), (2, .int 0)], [.int 0], (q_cX q_AX q_IX q_J0, 40, 26520))) 3 (fun _ _ => rfl) ?_
                            exact q_Ru_ret rfl rfl
                          show q_Ru _ _ _ (30, [(2, .int 42), (0, .ref 66), (1, .int 3882)], [.int 0], (q_cX q_AX q_IX q_J0, 40, 26520)) _
                          exact q_Ru_ret rfl rfl
                        show q_Ru _ _ _ (5, [(0, .ref 66), (1, .int 3882), (2, .int v)], [.int 0], (q_cX q_AX q_IX q_J0, 40, 26520)) _
                        refine q_Ru_seg (g2 := (9, [(3, .int 0), (0, .ref 66), (1, .int 3882), (2, .int v)], [.int v, .int 3882, .ref 66], (q_cX q_AX q_IX q_J0, 40, 26520))) 4 (fun _ _ => rfl) ?_
                        refine q_Ru_call (v := none) (h2 := (q_cX A117 I117 q_J0, 40, 26520)) rfl rfl ?_ ?_
                        · exact p117.le (Nat.le_of_ble_eq_true rfl)
                        show q_Ru _ _ _ (12, [(3, .int 0), (0, .ref 66), (1, .int 3882), (2, .int v)], [], (q_cX A117 I117 q_J0, 40, 26520)) _
                        refine q_Ru_seg (g2 := (13, [(3, .int 0), (0, .ref 66), (1, .int 3882), (2, .int v)], [.int 0], (q_cX A117 I117 q_J0, 40, 26520))) 1 (fun _ _ => rfl) ?_
                        exact q_Ru_ret rfl rfl
                      show q_Ru _ _ _ (77, [(0, .ref 65), (1, .int 0), (2, .int 3882), (3, .int v), (4, .int 0)], [.int 0], (q_cX A117 I117 q_J0, 40, 26520)) _
                      exact q_Ru_ret rfl rfl
                    show q_Ru _ _ _ (27, [(0, .ref 64), (1, .int 3882), (2, .int v)], [.int 0], (q_cX A117 I117 q_J0, 40, 26520)) _
                    exact q_Ru_ret rfl rfl
                  show q_Ru _ _ _ (8, [(0, .ref 64), (1, .int 3882), (2, .int v), (3, .ref 103)], [.int 0, .int 0, .ref 103], (q_cX A117 I117 q_J0, 40, 26520)) _
                  refine q_Ru_seg (g2 := (22, [(0, .ref 64), (1, .int 3882), (2, .int v), (3, .ref 103)], [.int 0], (q_cX A117 I117 (q_uA q_J0 39 (vp_updL (fun _ => 0) 0 0)), 40, 26520))) 4 (fun _ _ => rfl) ?_
                  exact q_Ru_ret rfl rfl
                · refine q_Ca_of (Nat.le_of_ble_eq_true rfl) ?_
                  refine q_Ru_seg (g2 := (2, [(0, .ref 64), (1, .int 3882), (2, .int v)], [.int 3882, .ref 64], (q_cM q_AM q_IM q_J0, 34, 31630))) 2 (fun _ _ => rfl) ?_
                  refine q_Ru_call (v := (some (.int 0))) (h2 := (q_cM q_AM q_IM q_J0, 34, 31630)) rfl rfl ?_ ?_
                  · refine q_Ca_of (Nat.le_of_ble_eq_true rfl) ?_
                    refine q_Ru_seg (g2 := (5, [(0, .int 3882)], [.int 4095, .int 0, .int 3882], (q_cM q_AM q_IM q_J0, 34, 31630))) 3 (fun _ _ => rfl) ?_
                    refine q_Ru_call (v := (some (.int 1))) (h2 := (q_cM q_AM q_IM q_J0, 34, 31630)) rfl rfl ?_ ?_
                    · refine q_Ca_of (Nat.le_of_ble_eq_true rfl) ?_
                      refine q_Ru_seg (g2 := (15, [(0, .int 3882), (1, .int 0), (2, .int 4095)], [.int 1], (q_cM q_AM q_IM q_J0, 34, 31630))) 8 (fun _ _ => rfl) ?_
                      exact q_Ru_ret rfl rfl
                    show q_Ru _ _ _ (8, [(0, .int 3882)], [.int 1], (q_cM q_AM q_IM q_J0, 34, 31630)) _
                    refine q_Ru_seg (g2 := (16, [(0, .int 3882)], [.int 0], (q_cM q_AM q_IM q_J0, 34, 31630))) 2 (fun _ _ => rfl) ?_
                    exact q_Ru_ret rfl rfl
                  show q_Ru _ _ _ (5, [(0, .ref 64), (1, .int 3882), (2, .int v)], [.int 0, .ref 64], (q_cM q_AM q_IM q_J0, 34, 31630)) _
                  refine q_Ru_seg (g2 := (13, [(0, .ref 64), (1, .int 3882), (2, .int v)], [.int v, .ref 64], (q_cM q_AM q_IM q_J0, 34, 31630))) 2 (fun _ _ => rfl) ?_
                  refine q_Ru_call (v := (some (.int 0))) (h2 := (q_cM q_AM q_IM q_J0, 34, 31630)) rfl rfl ?_ ?_
                  · refine q_Ca_of (Nat.le_of_ble_eq_true rfl) ?_
                    refine q_Ru_seg (g2 := (5, [(0, .int v)], [.int 255, .int 0, .int v], (q_cM q_AM q_IM q_J0, 34, 31630))) 3 (fun _ _ => rfl) ?_
                    refine q_Ru_call (v := (some (.int 1))) (h2 := (q_cM q_AM q_IM q_J0, 34, 31630)) rfl rfl ?_ ?_
                    · refine q_Ca_of (Nat.le_of_ble_eq_true rfl) ?_
                      refine q_Ru_seg (g2 := (2, [(0, .int v), (1, .int 0), (2, .int 255)], [.int 0, .int v], (q_cM q_AM q_IM q_J0, 34, 31630))) 2 (fun _ _ => rfl) ?_
                      refine q_Ru_rsF (g2 := (5, [(0, .int v), (1, .int 0), (2, .int 255)], [], (q_cM q_AM q_IM q_J0, 34, 31630))) rfl rfl h233 ?_
                      refine q_Ru_seg (g2 := (7, [(0, .int v), (1, .int 0), (2, .int 255)], [.int 255, .int v], (q_cM q_AM q_IM q_J0, 34, 31630))) 2 (fun _ _ => rfl) ?_
                      refine q_Ru_rsF (g2 := (10, [(0, .int v), (1, .int 0), (2, .int 255)], [], (q_cM q_AM q_IM q_J0, 34, 31630))) rfl rfl h235 ?_
                      refine q_Ru_seg (g2 := (15, [(0, .int v), (1, .int 0), (2, .int 255)], [.int 1], (q_cM q_AM q_IM q_J0, 34, 31630))) 2 (fun _ _ => rfl) ?_
                      exact q_Ru_ret rfl rfl
                    show q_Ru _ _ _ (8, [(0, .int v)], [.int 1], (q_cM q_AM q_IM q_J0, 34, 31630)) _
                    refine q_Ru_seg (g2 := (16, [(0, .int v)], [.int 0], (q_cM q_AM q_IM q_J0, 34, 31630))) 2 (fun _ _ => rfl) ?_
                    exact q_Ru_ret rfl rfl
                  show q_Ru _ _ _ (16, [(0, .ref 64), (1, .int 3882), (2, .int v)], [.int 0, .ref 64], (q_cM q_AM q_IM q_J0, 34, 31630)) _
                  refine q_Ru_seg (g2 := (24, [(0, .ref 64), (1, .int 3882), (2, .int v)], [.int 0, .ref 64], (q_cM q_AM q_IM q_J0, 34, 31630))) 2 (fun _ _ => rfl) ?_
                  refine q_Ru_call (v := (some (.int 0))) (h2 := (q_cM q_AM (q_uI q_IM 0 39 0) q_J0, 34, 31630)) rfl rfl ?_ ?_
                  · refine q_Ca_of (Nat.le_of_ble_eq_true rfl) ?_
                    refine q_Ru_seg (g2 := (14, [(0, .ref 64), (1, .int 0)], [.int 0], (q_cM q_AM (q_uI q_IM 0 39 0) q_J0, 34, 31630))) 6 (fun _ _ => rfl) ?_
                    exact q_Ru_ret rfl rfl
                  show q_Ru _ _ _ (27, [(0, .ref 64), (1, .int 3882), (2, .int v)], [.int 0], (q_cM q_AM (q_uI q_IM 0 39 0) q_J0, 34, 31630)) _
                  refine q_Ru_seg (g2 := (34, [(0, .ref 64), (1, .int 3882), (2, .int v)], [.int 3882, .ref 64], (q_cM q_AM (q_uI q_IM 0 39 0) q_J0, 34, 31630))) 3 (fun _ _ => rfl) ?_
                  refine q_Ru_call (v := (some (.int 0))) (h2 := (q_cM q_AM (q_uI q_IM 0 39 0) q_J0, 34, 31630)) rfl rfl ?_ ?_
                  · refine q_Ca_of (Nat.le_of_ble_eq_true rfl) ?_
                    refine q_Ru_seg (g2 := (7, [(0, .ref 64), (1, .int 3882)], [.int 3887, .int 3840, .int 3882], (q_cM q_AM (q_uI q_IM 0 39 0) q_J0, 34, 31630))) 3 (fun _ _ => rfl) ?_
                    refine q_Ru_call (v := (some (.int 1))) (h2 := (q_cM q_AM (q_uI q_IM 0 39 0) q_J0, 34, 31630)) rfl rfl ?_ ?_
                    · refine q_Ca_of (Nat.le_of_ble_eq_true rfl) ?_
                      refine q_Ru_seg (g2 := (15, [(0, .int 3882), (1, .int 3840), (2, .int 3887)], [.int 1], (q_cM q_AM (q_uI q_IM 0 39 0) q_J0, 34, 31630))) 8 (fun _ _ => rfl) ?_
                      exact q_Ru_ret rfl rfl
                    show q_Ru _ _ _ (10, [(0, .ref 64), (1, .int 3882)], [.int 1], (q_cM q_AM (q_uI q_IM 0 39 0) q_J0, 34, 31630)) _
                    refine q_Ru_seg (g2 := (19, [(0, .ref 64), (1, .int 3882)], [.int 42, .ref 64], (q_cM q_AM (q_uI q_IM 0 39 0) q_J0, 34, 31630))) 5 (fun _ _ => rfl) ?_
                    refine q_Ru_call (v := (some (.int 0))) (h2 := (q_cM q_AM (q_uI q_IM 0 39 0) q_J0, 34, 31630)) rfl rfl ?_ ?_
                    · refine q_Ca_of (Nat.le_of_ble_eq_true rfl) ?_
                      refine q_Ru_seg (g2 := (30, [(0, .ref 64), (1, .int 42)], [.int 15, .int 12, .int 42], (q_cM q_AM (q_uI q_IM 0 39 0) q_J0, 34, 31630))) 9 (fun _ _ => rfl) ?_
                      refine q_Ru_call (v := (some (.int 0))) (h2 := (q_cM q_AM (q_uI q_IM 0 39 0) q_J0, 34, 31630)) rfl rfl ?_ ?_
                      · refine q_Ca_of (Nat.le_of_ble_eq_true rfl) ?_
                        refine q_Ru_seg (g2 := (15, [(0, .int 42), (1, .int 12), (2, .int 15)], [.int 0], (q_cM q_AM (q_uI q_IM 0 39 0) q_J0, 34, 31630))) 7 (fun _ _ => rfl) ?_
                        exact q_Ru_ret rfl rfl
                      show q_Ru _ _ _ (33, [(0, .ref 64), (1, .int 42)], [.int 0], (q_cM q_AM (q_uI q_IM 0 39 0) q_J0, 34, 31630)) _
                      refine q_Ru_seg (g2 := (190, [(0, .ref 64), (1, .int 42)], [.int 0], (q_cM q_AM (q_uI q_IM 0 39 0) q_J0, 34, 31630))) 20 (fun _ _ => rfl) ?_
                      exact q_Ru_ret rfl rfl
                    show q_Ru _ _ _ (22, [(0, .ref 64), (1, .int 3882)], [.int 0], (q_cM q_AM (q_uI q_IM 0 39 0) q_J0, 34, 31630)) _
                    exact q_Ru_ret rfl rfl
                  show q_Ru _ _ _ (37, [(0, .ref 64), (1, .int 3882), (2, .int v)], [.int 0], (q_cM q_AM (q_uI q_IM 0 39 0) q_J0, 34, 31630)) _
                  refine q_Ru_seg (g2 := (41, [(3, .int 0), (0, .ref 64), (1, .int 3882), (2, .int v)], [.int v, .int 3882, .ref 64], (q_cM q_AM (q_uI q_IM 0 39 0) q_J0, 34, 31630))) 4 (fun _ _ => rfl) ?_
                  refine q_Ru_call (v := none) (h2 := (q_cM A118 (q_uI q_IM 0 39 0) q_J0, 34, 31630)) rfl rfl ?_ ?_
                  · exact p118.le (Nat.le_of_ble_eq_true rfl)
                  show q_Ru _ _ _ (44, [(3, .int 0), (0, .ref 64), (1, .int 3882), (2, .int v)], [], (q_cM A118 (q_uI q_IM 0 39 0) q_J0, 34, 31630)) _
                  refine q_Ru_seg (g2 := (45, [(3, .int 0), (0, .ref 64), (1, .int 3882), (2, .int v)], [.ref 64], (q_cM A118 (q_uI q_IM 0 39 0) q_J0, 34, 31630))) 1 (fun _ _ => rfl) ?_
                  refine q_Ru_call (v := none) (h2 := (q_cM A118 (q_uI q_IM 0 39 0) q_J0, 34, 31630)) rfl rfl ?_ ?_
                  · refine q_Ca_of (Nat.le_of_ble_eq_true rfl) ?_
                    refine q_Ru_seg (g2 := (17, [(0, .ref 64)], [], (q_cM A118 (q_uI q_IM 0 39 0) q_J0, 34, 31630))) 3 (fun _ _ => rfl) ?_
                    exact q_Ru_ret rfl rfl
                  show q_Ru _ _ _ (48, [(3, .int 0), (0, .ref 64), (1, .int 3882), (2, .int v)], [], (q_cM A118 (q_uI q_IM 0 39 0) q_J0, 34, 31630)) _
                  refine q_Ru_seg (g2 := (49, [(3, .int 0), (0, .ref 64), (1, .int 3882), (2, .int v)], [.int 0], (q_cM A118 (q_uI q_IM 0 39 0) q_J0, 34, 31630))) 1 (fun _ _ => rfl) ?_
                  exact q_Ru_ret rfl rfl
              | 43, _, e249 =>
                have e249 : a = 3883 := e249
                subst e249
                obtain ⟨A119, I119, p119⟩ := q_p_write q_AX q_IX (40) (26520) 3883 v
                obtain ⟨A120, p120⟩ := q_p_writes q_AM (q_uI q_IM 0 39 0) (34) (31630) 3883 v (by decide) (by decide)
                refine ⟨0, 0, 0, ⟨(q_cX A119 I119 (q_uA q_J0 39 (vp_updL (fun _ => 0) 0 0)), 40, 26520), (q_uA q_J0 39 (vp_updL (fun _ => 0) 0 0)) 39, ?_, rfl, fun _ => rfl, Nat.le_of_ble_eq_true rfl, Nat.le_of_ble_eq_true rfl⟩, ⟨(q_cM A120 (q_uI q_IM 0 39 0) q_J0, 34, 31630), _, ?_, rfl, rfl, Nat.le_of_ble_eq_true rfl, Nat.le_of_ble_eq_true rfl⟩, fun _ => rfl⟩
                · refine q_Ca_of (Nat.le_of_ble_eq_true rfl) ?_
                  refine q_Ru_seg (g2 := (5, [(0, .ref 64), (1, .int 3883), (2, .int v), (3, .ref 103)], [.int v, .int 3883, .ref 64, .int 0, .ref 103], (q_cX q_AX q_IX q_J0, 40, 26520))) 5 (fun _ _ => rfl) ?_
                  refine q_Ru_call (v := (some (.int 0))) (h2 := (q_cX A119 I119 q_J0, 40, 26520)) rfl rfl ?_ ?_
                  · refine q_Ca_of (Nat.le_of_ble_eq_true rfl) ?_
                    refine q_Ru_seg (g2 := (1, [(0, .ref 64), (1, .int 3883), (2, .int v)], [.int 3883], (q_cX q_AX q_IX q_J0, 40, 26520))) 1 (fun _ _ => rfl) ?_
                    refine q_Ru_call (v := none) (h2 := (q_cX q_AX q_IX q_J0, 40, 26520)) rfl rfl ?_ ?_
                    · refine q_Ca_of (Nat.le_of_ble_eq_true rfl) ?_
                      refine q_Ru_seg (g2 := (4, [(0, .int 3883)], [.int 4096, .int 3883], (q_cX q_AX q_IX q_J0, 40, 26520))) 2 (fun _ _ => rfl) ?_
                      refine q_Ru_call (v := none) (h2 := (q_cX q_AX q_IX q_J0, 40, 26520)) rfl rfl ?_ ?_
                      · refine q_Ca_of (Nat.le_of_ble_eq_true rfl) ?_
                        refine q_Ru_seg (g2 := (19, [(0, .int 3883), (1, .int 4096)], [], (q_cX q_AX q_IX q_J0, 40, 26520))) 5 (fun _ _ => rfl) ?_
                        exact q_Ru_ret rfl rfl
                      show q_Ru _ _ _ (7, [(0, .int 3883)], [], (q_cX q_AX q_IX q_J0, 40, 26520)) _
                      exact q_Ru_ret rfl rfl
                    show q_Ru _ _ _ (4, [(0, .ref 64), (1, .int 3883), (2, .int v)], [], (q_cX q_AX q_IX q_J0, 40, 26520)) _
                    refine q_Ru_seg (g2 := (5, [(0, .ref 64), (1, .int 3883), (2, .int v)], [.int v], (q_cX q_AX q_IX q_J0, 40, 26520))) 1 (fun _ _ => rfl) ?_
                    refine q_Ru_call (v := none) (h2 := (q_cX q_AX q_IX q_J0, 40, 26520)) rfl rfl ?_ ?_
                    · refine q_Ca_of (Nat.le_of_ble_eq_true rfl) ?_
                      refine q_Ru_seg (g2 := (5, [(0, .int v)], [.int 255, .int 0, .int v], (q_cX q_AX q_IX q_J0, 40, 26520))) 3 (fun _ _ => rfl) ?_
                      refine q_Ru_call (v := none) (h2 := (q_cX q_AX q_IX q_J0, 40, 26520)) rfl rfl ?_ ?_
                      · refine q_Ca_of (Nat.le_of_ble_eq_true rfl) ?_
                        refine q_Ru_seg (g2 := (2, [(0, .int v), (1, .int 0), (2, .int 255)], [.int 0, .int v], (q_cX q_AX q_IX q_J0, 40, 26520))) 2 (fun _ _ => rfl) ?_
                        refine q_Ru_rsF (g2 := (5, [(0, .int v), (1, .int 0), (2, .int 255)], [], (q_cX q_AX q_IX q_J0, 40, 26520))) rfl rfl h233 ?_
                        refine q_Ru_seg (g2 := (7, [(0, .int v), (1, .int 0), (2, .int 255)], [.int 255, .int v], (q_cX q_AX q_IX q_J0, 40, 26520))) 2 (fun _ _ => rfl) ?_
                        refine q_Ru_rsT (g2 := (20, [(0, .int v), (1, .int 0), (2, .int 255)], [], (q_cX q_AX q_IX q_J0, 40, 26520))) rfl rfl (q_d_geF h235) ?_
                        exact q_Ru_ret rfl rfl
                      show q_Ru _ _ _ (8, [(0, .int v)], [], (q_cX q_AX q_IX q_J0, 40, 26520)) _
                      exact q_Ru_ret rfl rfl
                    show q_Ru _ _ _ (8, [(0, .ref 64), (1, .int 3883), (2, .int v)], [], (q_cX q_AX q_IX q_J0, 40, 26520)) _
                    refine q_Ru_seg (g2 := (13, [(0, .ref 64), (1, .int 3883), (2, .int v)], [.int 0, .int v, .int 3883, .int 0, .ref 64], (q_cX q_AX q_IX q_J0, 40, 26520))) 5 (fun _ _ => rfl) ?_
                    refine q_Ru_call (v := none) (h2 := (q_cX q_AX q_IX q_J0, 40, 26520)) rfl rfl ?_ ?_
                    · refine q_Ca_of (Nat.le_of_ble_eq_true rfl) ?_
                      refine q_Ru_seg (g2 := (19, [(0, .ref 64), (1, .int 0), (2, .int 3883), (3, .int v), (4, .int 0)], [], (q_cX q_AX q_IX q_J0, 40, 26520))) 3 (fun _ _ => rfl) ?_
                      exact q_Ru_ret rfl rfl
                    show q_Ru _ _ _ (16, [(0, .ref 64), (1, .int 3883), (2, .int v)], [], (q_cX q_AX q_IX q_J0, 40, 26520)) _
                    refine q_Ru_seg (g2 := (24, [(0, .ref 64), (1, .int 3883), (2, .int v)], [.int 0, .int v, .int 3883, .int 0, .ref 65], (q_cX q_AX q_IX q_J0, 40, 26520))) 6 (fun _ _ => rfl) ?_
                    refine q_Ru_call (v := (some (.int 0))) (h2 := (q_cX A119 I119 q_J0, 40, 26520)) rfl rfl ?_ ?_
                    · refine q_Ca_of (Nat.le_of_ble_eq_true rfl) ?_
                      refine q_Ru_seg (g2 := (74, [(0, .ref 65), (1, .int 0), (2, .int 3883), (3, .int v), (4, .int 0)], [.int v, .int 3883, .ref 66], (q_cX q_AX q_IX q_J0, 40, 26520))) 6 (fun _ _ => rfl) ?_
                      refine q_Ru_call (v := (some (.int 0))) (h2 := (q_cX A119 I119 q_J0, 40, 26520)) rfl rfl ?_ ?_
                      · refine q_Ca_of (Nat.le_of_ble_eq_true rfl) ?_
                        refine q_Ru_seg (g2 := (2, [(0, .ref 66), (1, .int 3883), (2, .int v)], [.int 3883, .ref 66], (q_cX q_AX q_IX q_J0, 40, 26520))) 2 (fun _ _ => rfl) ?_
                        refine q_Ru_call (v := (some (.int 0))) (h2 := (q_cX q_AX q_IX q_J0, 40, 26520)) rfl rfl ?_ ?_
                        · refine q_Ca_of (Nat.le_of_ble_eq_true rfl) ?_
                          refine q_Ru_seg (g2 := (27, [(2, .int 43), (0, .ref 66), (1, .int 3883)], [.int 0, .int 43, .ref 66], (q_cX q_AX q_IX q_J0, 40, 26520))) 16 (fun _ _ => rfl) ?_
                          refine q_Ru_call (v := (some (.int 0))) (h2 := (q_cX q_AX q_IX q_J0, 40, 26520)) rfl rfl ?_ ?_
                          · refine q_Ca_of (Nat.le_of_ble_eq_true rfl) ?_
                            refine q_Ru_seg (g2 := (183, [(0, .ref 66), (1, .int 43), (2, .int 0)], [.int 0], (q_cX q_AX q_IX q_J0, 40, 26520))) 3 (fun _ _ => rfl) ?_
                            exact q_Ru_ret rfl rfl
                          show q_Ru _ _ _ (30, [(2, .int 43), (0, .ref 66), (1, .int 3883)], [.int 0], (q_cX q_AX q_IX q_J0, 40, 26520)) _
                          exact q_Ru_ret rfl rfl
                        show q_Ru _ _ _ (5, [(0, .ref 66), (1, .int 3883), (2, .int v)], [.int 0], (q_cX q_AX q_IX q_J0, 40, 26520)) _
                        refine q_Ru_seg (g2 := (9, [(3, .int 0), (0, .ref 66), (1, .int 3883), (2, .int v)], [.int v, .int 3883, .ref 66], (q_cX q_AX q_IX q_J0, 40, 26520))) 4 (fun _ _ => rfl) ?_
                        refine q_Ru_call (v := none) (h2 := (q_cX A119 I119 q_J0, 40, 26520)) rfl rfl ?_ ?_
                        · exact p119.le (Nat.le_of_ble_eq_true rfl)
                        show q_Ru _ _ _ (12, [(3, .int 0), (0, .ref 66), (1, .int 3883), (2, .int v)], [], (q_cX A119 I119 q_J0, 40, 26520)) _
                        refine q_Ru_seg (g2 := (13, [(3, .int 0), (0, .ref 66), (1, .int 3883), (2, .int v)], [.int 0], (q_cX A119 I119 q_J0, 40, 26520))) 1 (fun _ _ => rfl) ?_
                        exact q_Ru_ret rfl rfl
                      show q_Ru _ _ _ (77, [(0, .ref 65), (1, .int 0), (2, .int 3883), (3, .int v), (4, .int 0)], [.int 0], (q_cX A119 I119 q_J0, 40, 26520)) _
                      exact q_Ru_ret rfl rfl
                    show q_Ru _ _ _ (27, [(0, .ref 64), (1, .int 3883), (2, .int v)], [.int 0], (q_cX A119 I119 q_J0, 40, 26520)) _
                    exact q_Ru_ret rfl rfl
                  show q_Ru _ _ _ (8, [(0, .ref 64), (1, .int 3883), (2, .int v), (3, .ref 103)], [.int 0, .int 0, .ref 103], (q_cX A119 I119 q_J0, 40, 26520)) _
                  refine q_Ru_seg (g2 := (22, [(0, .ref 64), (1, .int 3883), (2, .int v), (3, .ref 103)], [.int 0], (q_cX A119 I119 (q_uA q_J0 39 (vp_updL (fun _ => 0) 0 0)), 40, 26520))) 4 (fun _ _ => rfl) ?_
                  exact q_Ru_ret rfl rfl
                · refine q_Ca_of (Nat.le_of_ble_eq_true rfl) ?_
                  refine q_Ru_seg (g2 := (2, [(0, .ref 64), (1, .int 3883), (2, .int v)], [.int 3883, .ref 64], (q_cM q_AM q_IM q_J0, 34, 31630))) 2 (fun _ _ => rfl) ?_
                  refine q_Ru_call (v := (some (.int 0))) (h2 := (q_cM q_AM q_IM q_J0, 34, 31630)) rfl rfl ?_ ?_
                  · refine q_Ca_of (Nat.le_of_ble_eq_true rfl) ?_
                    refine q_Ru_seg (g2 := (5, [(0, .int 3883)], [.int 4095, .int 0, .int 3883], (q_cM q_AM q_IM q_J0, 34, 31630))) 3 (fun _ _ => rfl) ?_
                    refine q_Ru_call (v := (some (.int 1))) (h2 := (q_cM q_AM q_IM q_J0, 34, 31630)) rfl rfl ?_ ?_
                    · refine q_Ca_of (Nat.le_of_ble_eq_true rfl) ?_
                      refine q_Ru_seg (g2 := (15, [(0, .int 3883), (1, .int 0), (2, .int 4095)], [.int 1], (q_cM q_AM q_IM q_J0, 34, 31630))) 8 (fun _ _ => rfl) ?_
                      exact q_Ru_ret rfl rfl
                    show q_Ru _ _ _ (8, [(0, .int 3883)], [.int 1], (q_cM q_AM q_IM q_J0, 34, 31630)) _
                    refine q_Ru_seg (g2 := (16, [(0, .int 3883)], [.int 0], (q_cM q_AM q_IM q_J0, 34, 31630))) 2 (fun _ _ => rfl) ?_
                    exact q_Ru_ret rfl rfl
                  show q_Ru _ _ _ (5, [(0, .ref 64), (1, .int 3883), (2, .int v)], [.int 0, .ref 64], (q_cM q_AM q_IM q_J0, 34, 31630)) _
                  refine q_Ru_seg (g2 := (13, [(0, .ref 64), (1, .int 3883), (2, .int v)], [.int v, .ref 64], (q_cM q_AM q_IM q_J0, 34, 31630))) 2 (fun _ _ => rfl) ?_
                  refine q_Ru_call (v := (some (.int 0))) (h2 := (q_cM q_AM q_IM q_J0, 34, 31630)) rfl rfl ?_ ?_
                  · refine q_Ca_of (Nat.le_of_ble_eq_true rfl) ?_
                    refine q_Ru_seg (g2 := (5, [(0, .int v)], [.int 255, .int 0, .int v], (q_cM q_AM q_IM q_J0, 34, 31630))) 3 (fun _ _ => rfl) ?_
                    refine q_Ru_call (v := (some (.int 1))) (h2 := (q_cM q_AM q_IM q_J0, 34, 31630)) rfl rfl ?_ ?_
                    · refine q_Ca_of (Nat.le_of_ble_eq_true rfl) ?_
                      refine q_Ru_seg (g2 := (2, [(0, .int v), (1, .int 0), (2, .int 255)], [.int 0, .int v], (q_cM q_AM q_IM q_J0, 34, 31630))) 2 (fun _ _ => rfl) ?_
                      refine q_Ru_rsF (g2 := (5, [(0, .int v), (1, .int 0), (2, .int 255)], [], (q_cM q_AM q_IM q_J0, 34, 31630))) rfl rfl h233 ?_
                      refine q_Ru_seg (g2 := (7, [(0, .int v), (1, .int 0), (2, .int 255)], [.int 255, .int v], (q_cM q_AM q_IM q_J0, 34, 31630))) 2 (fun _ _ => rfl) ?_
                      refine q_Ru_rsF (g2 := (10, [(0, .int v), (1, .int 0), (2, .int 255)], [], (q_cM q_AM q_IM q_J0, 34, 31630))) rfl rfl h235 ?_
                      refine q_Ru_seg (g2 := (15, [(0, .int v), (1, .int 0), (2, .int 255)], [.int 1], (q_cM q_AM q_IM q_J0, 34, 31630))) 2 (fun _ _ => rfl) ?_
                      exact q_Ru_ret rfl rfl
                    show q_Ru _ _ _ (8, [(0, .int v)], [.int 1], (q_cM q_AM q_IM q_J0, 34, 31630)) _
                    refine q_Ru_seg (g2 := (16, [(0, .int v)], [.int 0], (q_cM q_AM q_IM q_J0, 34, 31630))) 2 (fun _ _ => rfl) ?_
                    exact q_Ru_ret rfl rfl
                  show q_Ru _ _ _ (16, [(0, .ref 64), (1, .int 3883), (2, .int v)], [.int 0, .ref 64], (q_cM q_AM q_IM q_J0, 34, 31630)) _
                  refine q_Ru_seg (g2 := (24, [(0, .ref 64), (1, .int 3883), (2, .int v)], [.int 0, .ref 64], (q_cM q_AM q_IM q_J0, 34, 31630))) 2 (fun _ _ => rfl) ?_
                  refine q_Ru_call (v := (some (.int 0))) (h2 := (q_cM q_AM (q_uI q_IM 0 39 0) q_J0, 34, 31630)) rfl rfl ?_ ?_
                  · refine q_Ca_of (Nat.le_of_ble_eq_true rfl) ?_
                    refine q_Ru_seg (g2 := (14, [(0, .ref 64), (1, .int 0)], [.int 0], (q_cM q_AM (q_uI q_IM 0 39 0) q_J0, 34, 31630))) 6 (fun _ _ => rfl) ?_
                    exact q_Ru_ret rfl rfl
                  show q_Ru _ _ _ (27, [(0, .ref 64), (1, .int 3883), (2, .int v)], [.int 0], (q_cM q_AM (q_uI q_IM 0 39 0) q_J0, 34, 31630)) _
                  refine q_Ru_seg (g2 := (34, [(0, .ref 64), (1, .int 3883), (2, .int v)], [.int 3883, .ref 64], (q_cM q_AM (q_uI q_IM 0 39 0) q_J0, 34, 31630))) 3 (fun _ _ => rfl) ?_
                  refine q_Ru_call (v := (some (.int 0))) (h2 := (q_cM q_AM (q_uI q_IM 0 39 0) q_J0, 34, 31630)) rfl rfl ?_ ?_
                  · refine q_Ca_of (Nat.le_of_ble_eq_true rfl) ?_
                    refine q_Ru_seg (g2 := (7, [(0, .ref 64), (1, .int 3883)], [.int 3887, .int 3840, .int 3883], (q_cM q_AM (q_uI q_IM 0 39 0) q_J0, 34, 31630))) 3 (fun _ _ => rfl) ?_
                    refine q_Ru_call (v := (some (.int 1))) (h2 := (q_cM q_AM (q_uI q_IM 0 39 0) q_J0, 34, 31630)) rfl rfl ?_ ?_
                    · refine q_Ca_of (Nat.le_of_ble_eq_true rfl) ?_
                      refine q_Ru_seg (g2 := (15, [(0, .int 3883), (1, .int 3840), (2, .int 3887)], [.int 1], (q_cM q_AM (q_uI q_IM 0 39 0) q_J0, 34, 31630))) 8 (fun _ _ => rfl) ?_
                      exact q_Ru_ret rfl rfl
                    show q_Ru _ _ _ (10, [(0, .ref 64), (1, .int 3883)], [.int 1], (q_cM q_AM (q_uI q_IM 0 39 0) q_J0, 34, 31630)) _
                    refine q_Ru_seg (g2 := (19, [(0, .ref 64), (1, .int 3883)], [.int 43, .ref 64], (q_cM q_AM (q_uI q_IM 0 39 0) q_J0, 34, 31630))) 5 (fun _ _ => rfl) ?_
                    refine q_Ru_call (v := (some (.int 0))) (h2 := (q_cM q_AM (q_uI q_IM 0 39 0) q_J0, 34, 31630)) rfl rfl ?_ ?_
                    · refine q_Ca_of (Nat.le_of_ble_eq_true rfl) ?_
                      refine q_Ru_seg (g2 := (30, [(0, .ref 64), (1, .int 43)], [.int 15, .int 12, .int 43], (q_cM q_AM (q_uI q_IM 0 39 0) q_J0, 34, 31630))) 9 (fun _ _ => rfl) ?_
                      refine q_Ru_call (v := (some (.int 0))) (h2 := (q_cM q_AM (q_uI q_IM 0 39 0) q_J0, 34, 31630)) rfl rfl ?_ ?_
                      · refine q_Ca_of (Nat.le_of_ble_eq_true rfl) ?_
                        refine q_Ru_seg (g2 := (15, [(0, .int 43), (1, .int 12), (2, .int 15)], [.int 0], (q_cM q_AM (q_uI q_IM 0 39 0) q_J0, 34, 31630))) 7 (fun _ _ => rfl) ?_
                        exact q_Ru_ret rfl rfl
                      show q_Ru _ _ _ (33, [(0, .ref 64), (1, .int 43)], [.int 0], (q_cM q_AM (q_uI q_IM 0 39 0) q_J0, 34, 31630)) _
                      refine q_Ru_seg (g2 := (190, [(0, .ref 64), (1, .int 43)], [.int 0], (q_cM q_AM (q_uI q_IM 0 39 0) q_J0, 34, 31630))) 20 (fun _ _ => rfl) ?_
                      exact q_Ru_ret rfl rfl
                    show q_Ru _ _ _ (22, [(0, .ref 64), (1, .int 3883)], [.int 0], (q_cM q_AM (q_uI q_IM 0 39 0) q_J0, 34, 31630)) _
                    exact q_Ru_ret rfl rfl
                  show q_Ru _ _ _ (37, [(0, .ref 64), (1, .int 3883), (2, .int v)], [.int 0], (q_cM q_AM (q_uI q_IM 0 39 0) q_J0, 34, 31630)) _
                  refine q_Ru_seg (g2 := (41, [(3, .int 0), (0, .ref 64), (1, .int 3883), (2, .int v)], [.int v, .int 3883, .ref 64], (q_cM q_AM (q_uI q_IM 0 39 0) q_J0, 34, 31630))) 4 (fun _ _ => rfl) ?_
                  refine q_Ru_call (v := none) (h2 := (q_cM A120 (q_uI q_IM 0 39 0) q_J0, 34, 31630)) rfl rfl ?_ ?_
                  · exact p120.le (Nat.le_of_ble_eq_true rfl)
                  show q_Ru _ _ _ (44, [(3, .int 0), (0, .ref 64), (1, .int 3883), (2, .int v)], [], (q_cM A120 (q_uI q_IM 0 39 0) q_J0, 34, 31630)) _
                  refine q_Ru_seg (g2 := (45, [(3, .int 0), (0, .ref 64), (1, .int 3883), (2, .int v)], [.ref 64], (q_cM A120 (q_uI q_IM 0 39 0) q_J0, 34, 31630))) 1 (fun _ _ => rfl) ?_
                  refine q_Ru_call (v := none) (h2 := (q_cM A120 (q_uI q_IM 0 39 0) q_J0, 34, 31630)) rfl rfl ?_ ?_
                  · refine q_Ca_of (Nat.le_of_ble_eq_true rfl) ?_
                    refine q_Ru_seg (g2 := (17, [(0, .ref 64)], [], (q_cM A120 (q_uI q_IM 0 39 0) q_J0, 34, 31630))) 3 (fun _ _ => rfl) ?_
                    exact q_Ru_ret rfl rfl
                  show q_Ru _ _ _ (48, [(3, .int 0), (0, .ref 64), (1, .int 3883), (2, .int v)], [], (q_cM A120 (q_uI q_IM 0 39 0) q_J0, 34, 31630)) _
                  refine q_Ru_seg (g2 := (49, [(3, .int 0), (0, .ref 64), (1, .int 3883), (2, .int v)], [.int 0], (q_cM A120 (q_uI q_IM 0 39 0) q_J0, 34, 31630))) 1 (fun _ _ => rfl) ?_
                  exact q_Ru_ret rfl rfl
              | 44, _, e249 =>
                have e249 : a = 3884 := e249
                subst e249
                obtain ⟨A121, I121, p121⟩ := q_p_write q_AX q_IX (40) (26520) 3884 v
                obtain ⟨A122, p122⟩ := q_p_writes q_AM (q_uI q_IM 0 39 0) (34) (31630) 3884 v (by decide) (by decide)
                refine ⟨0, 0, 0, ⟨(q_cX A121 I121 (q_uA q_J0 39 (vp_updL (fun _ => 0) 0 0)), 40, 26520), (q_uA q_J0 39 (vp_updL (fun _ => 0) 0 0)) 39, ?_, rfl, fun _ => rfl, Nat.le_of_ble_eq_true rfl, Nat.le_of_ble_eq_true rfl⟩, ⟨(q_cM A122 (q_uI q_IM 0 39 0) q_J0, 34, 31630), _, ?_, rfl, rfl, Nat.le_of_ble_eq_true rfl, Nat.le_of_ble_eq_true rfl⟩, fun _ => rfl⟩
                · refine q_Ca_of (Nat.le_of_ble_eq_true rfl) ?_
                  refine q_Ru_seg (g2 := (5, [(0, .ref 64), (1, .int 3884), (2, .int v), (3, .ref 103)], [.int v, .int 3884, .ref 64, .int 0, .ref 103], (q_cX q_AX q_IX q_J0, 40, 26520))) 5 (fun _ _ => rfl) ?_
                  refine q_Ru_call (v := (some (.int 0))) (h2 := (q_cX A121 I121 q_J0, 40, 26520)) rfl rfl ?_ ?_
                  · refine q_Ca_of (Nat.le_of_ble_eq_true rfl) ?_
                    refine q_Ru_seg (g2 := (1, [(0, .ref 64), (1, .int 3884), (2, .int v)], [.int 3884], (q_cX q_AX q_IX q_J0, 40, 26520))) 1 (fun _ _ => rfl) ?_
                    refine q_Ru_call (v := none) (h2 := (q_cX q_AX q_IX q_J0, 40, 26520)) rfl rfl ?_ ?_
                    · refine q_Ca_of (Nat.le_of_ble_eq_true rfl) ?_
                      refine q_Ru_seg (g2 := (4, [(0, .int 3884)], [.int 4096, .int 3884], (q_cX q_AX q_IX q_J0, 40, 26520))) 2 (fun _ _ => rfl) ?_
                      refine q_Ru_call (v := none) (h2 := (q_cX q_AX q_IX q_J0, 40, 26520)) rfl rfl ?_ ?_
                      · refine q_Ca_of (Nat.le_of_ble_eq_true rfl) ?_
                        refine q_Ru_seg (g2 := (19, [(0, .int 3884), (1, .int 4096)], [], (q_cX q_AX q_IX q_J0, 40, 26520))) 5 (fun _ _ => rfl) ?_
                        exact q_Ru_ret rfl rfl
                      show q_Ru _ _ _ (7, [(0, .int 3884)], [], (q_cX q_AX q_IX q_J0, 40, 26520)) _
                      exact q_Ru_ret rfl rfl
                    show q_Ru _ _ _ (4, [(0, .ref 64), (1, .int 3884), (2, .int v)], [], (q_cX q_AX q_IX q_J0, 40, 26520)) _
                    refine q_Ru_seg (g2 := (5, [(0, .ref 64), (1, .int 3884), (2, .int v)], [.int v], (q_cX q_AX q_IX q_J0, 40, 26520))) 1 (fun _ _ => rfl) ?_
                    refine q_Ru_call (v := none) (h2 := (q_cX q_AX q_IX q_J0, 40, 26520)) rfl rfl ?_ ?_
                    · refine q_Ca_of (Nat.le_of_ble_eq_true rfl) ?_
                      refine q_Ru_seg (g2 := (5, [(0, .int v)], [.int 255, .int 0, .int v], (q_cX q_AX q_IX q_J0, 40, 26520))) 3 (fun _ _ => rfl) ?_
                      refine q_Ru_call (v := none) (h2 := (q_cX q_AX q_IX q_J0, 40, 26520)) rfl rfl ?_ ?_
                      · refine q_Ca_of (Nat.le_of_ble_eq_true rfl) ?_
                        refine q_Ru_seg (g2 := (2, [(0, .int v), (1, .int 0), (2, .int 255)], [.int 0, .int v], (q_cX q_AX q_IX q_J0, 40, 26520))) 2 (fun _ _ => rfl) ?_
                        refine q_Ru_rsF (g2 := (5, [(0, .int v), (1, .int 0), (2, .int 255)], [], (q_cX q_AX q_IX q_J0, 40, 26520))) rfl rfl h233 ?_
                        refine q_Ru_seg (g2 := (7, [(0, .int v), (1, .int 0), (2, .int 255)], [.int 255, .int v], (q_cX q_AX q_IX q_J0, 40, 26520))) 2 (fun _ _ => rfl) ?_
                        refine q_Ru_rsT (g2 := (20, [(0, .int v), (1, .int 0), (2, .int 255)], [], (q_cX q_AX q_IX q_J0, 40, 26520))) rfl rfl (q_d_geF h235) ?_
                        exact q_Ru_ret rfl rfl
                      show q_Ru _ _ _ (8, [(0, .int v)], [], (q_cX q_AX q_IX q_J0, 40, 26520)) _
                      exact q_Ru_ret rfl rfl
                    show q_Ru _ _ _ (8, [(0, .ref 64), (1, .int 3884), (2, .int v)], [], (q_cX q_AX q_IX q_J0, 40, 26520)) _
                    refine q_Ru_seg (g2 := (13, [(0, .ref 64), (1, .int 3884), (2, .int v)], [.int 0, .int v, .int 3884, .int 0, .ref 64], (q_cX q_AX q_IX q_J0, 40, 26520))) 5 (fun _ _ => rfl) ?_
                    refine q_Ru_call (v := none) (h2 := (q_cX q_AX q_IX q_J0, 40, 26520)) rfl rfl ?_ ?_
                    · refine q_Ca_of (Nat.le_of_ble_eq_true rfl) ?_
                      refine q_Ru_seg (g2 := (19, [(0, .ref 64), (1, .int 0), (2, .int 3884), (3, .int v), (4, .int 0)], [], (q_cX q_AX q_IX q_J0, 40, 26520))) 3 (fun _ _ => rfl) ?_
                      exact q_Ru_ret rfl rfl
                    show q_Ru _ _ _ (16, [(0, .ref 64), (1, .int 3884), (2, .int v)], [], (q_cX q_AX q_IX q_J0, 40, 26520)) _
                    refine q_Ru_seg (g2 := (24, [(0, .ref 64), (1, .int 3884), (2, .int v)], [.int 0, .int v, .int 3884, .int 0, .ref 65], (q_cX q_AX q_IX q_J0, 40, 26520))) 6 (fun _ _ => rfl) ?_
                    refine q_Ru_call (v := (some (.int 0))) (h2 := (q_cX A121 I121 q_J0, 40, 26520)) rfl rfl ?_ ?_
                    · refine q_Ca_of (Nat.le_of_ble_eq_true rfl) ?_
                      refine q_Ru_seg (g2 := (74, [(0, .ref 65), (1, .int 0), (2, .int 3884), (3, .int v), (4, .int 0)], [.int v, .int 3884, .ref 66], (q_cX q_AX q_IX q_J0, 40, 26520))) 6 (fun _ _ => rfl) ?_
                      refine q_Ru_call (v := (some (.int 0))) (h2 := (q_cX A121 I121 q_J0, 40, 26520)) rfl rfl ?_ ?_
                      · refine q_Ca_of (Nat.le_of_ble_eq_true rfl) ?_
                        refine q_Ru_seg (g2 := (2, [(0, .ref 66), (1, .int 3884), (2, .int v)], [.int 3884, .ref 66], (q_cX q_AX q_IX q_J0, 40, 26520))) 2 (fun _ _ => rfl) ?_
                        refine q_Ru_call (v := (some (.int 0))) (h2 := (q_cX q_AX q_IX q_J0, 40, 26520)) rfl rfl ?_ ?_
                        · refine q_Ca_of (Nat.le_of_ble_eq_true rfl) ?_
                          refine q_Ru_seg (g2 := (27, [(2, .int 44), (0, .ref 66), (1, .int 3884)], [.int 0, .int 44, .ref 66], (q_cX q_AX q_IX q_J0, 40, 26520))) 16 (fun _ _ => rfl) ?_
                          refine q_Ru_call (v := (some (.int 0))) (h2 := (q_cX q_AX q_IX q_J0, 40, 26520)) rfl rfl ?_ ?_
                          · refine q_Ca_of (Nat.le_of_ble_eq_true rfl) ?_
                            refine q_Ru_seg (g2 := (181, [(0, .ref 66), (1, .int 44), (2, .int 0)], [.int 0], (q_cX q_AX q_IX q_J0, 40, 26520))) 18 (fun _ _ => rfl) ?_
                            exact q_Ru_ret rfl rfl
                          show q_Ru _ _ _ (30, [(2, .int 44), (0, .ref 66), (1, .int 3884)], [.int 0], (q_cX q_AX q_IX q_J0, 40, 26520)) _
                          exact q_Ru_ret rfl rfl
                        show q_Ru _ _ _ (5, [(0, .ref 66), (1, .int 3884), (2, .int v)], [.int 0], (q_cX q_AX q_IX q_J0, 40, 26520)) _
                        refine q_Ru_seg (g2 := (9, [(3, .int 0), (0, .ref 66), (1, .int 3884), (2, .int v)], [.int v, .int 3884, .ref 66], (q_cX q_AX q_IX q_J0, 40, 26520))) 4 (fun _ _ => rfl) ?_
                        refine q_Ru_call (v := none) (h2 := (q_cX A121 I121 q_J0, 40, 26520)) rfl rfl ?_ ?_
                        · exact p121.le (Nat.le_of_ble_eq_true rfl)
                        show q_Ru _ _ _ (12, [(3, .int 0), (0, .ref 66), (1, .int 3884), (2, .int v)], [], (q_cX A121 I121 q_J0, 40, 26520)) _
                        refine q_Ru_seg (g2 := (13, [(3, .int 0), (0, .ref 66), (1, .int 3884), (2, .int v)], [.int 0], (q_cX A121 I121 q_J0, 40, 26520))) 1 (fun _ _ => rfl) ?_
                        exact q_Ru_ret rfl rfl
                      show q_Ru _ _ _ (77, [(0, .ref 65), (1, .int 0), (2, .int 3884), (3, .int v), (4, .int 0)], [.int 0], (q_cX A121 I121 q_J0, 40, 26520)) _
                      exact q_Ru_ret rfl rfl
                    show q_Ru _ _ _ (27, [(0, .ref 64), (1, .int 3884), (2, .int v)], [.int 0], (q_cX A121 I121 q_J0, 40, 26520)) _
                    exact q_Ru_ret rfl rfl
                  show q_Ru _ _ _ (8, [(0, .ref 64), (1, .int 3884), (2, .int v), (3, .ref 103)], [.int 0, .int 0, .ref 103], (q_cX A121 I121 q_J0, 40, 26520)) _
                  refine q_Ru_seg (g2 := (22, [(0, .ref 64), (1, .int 3884), (2, .int v), (3, .ref 103)], [.int 0], (q_cX A121 I121 (q_uA q_J0 39 (vp_updL (fun _ => 0) 0 0)), 40, 26520))) 4 (fun _ _ => rfl) ?_
                  exact q_Ru_ret rfl rfl
                · refine q_Ca_of (Nat.le_of_ble_eq_true rfl) ?_
                  refine q_Ru_seg (g2 := (2, [(0, .ref 64), (1, .int 3884), (2, .int v)], [.int 3884, .ref 64], (q_cM q_AM q_IM q_J0, 34, 31630))) 2 (fun _ _ => rfl) ?_
                  refine q_Ru_call (v := (some (.int 0))) (h2 := (q_cM q_AM q_IM q_J0, 34, 31630)) rfl rfl ?_ ?_
                  · refine q_Ca_of (Nat.le_of_ble_eq_true rfl) ?_
                    refine q_Ru_seg (g2 := (5, [(0, .int 3884)], [.int 4095, .int 0, .int 3884], (q_cM q_AM q_IM q_J0, 34, 31630))) 3 (fun _ _ => rfl) ?_
                    refine q_Ru_call (v := (some (.int 1))) (h2 := (q_cM q_AM q_IM q_J0, 34, 31630)) rfl rfl ?_ ?_
                    · refine q_Ca_of (Nat.le_of_ble_eq_true rfl) ?_
                      refine q_Ru_seg (g2 := (15, [(0, .int 3884), (1, .int 0), (2, .int 4095)], [.int 1], (q_cM q_AM q_IM q_J0, 34, 31630))) 8 (fun _ _ => rfl) ?_
                      exact q_Ru_ret rfl rfl
                    show q_Ru _ _ _ (8, [(0, .int 3884)], [.int 1], (q_cM q_AM q_IM q_J0, 34, 31630)) _
                    refine q_Ru_seg (g2 := (16, [(0, .int 3884)], [.int 0], (q_cM q_AM q_IM q_J0, 34, 31630))) 2 (fun _ _ => rfl) ?_
                    exact q_Ru_ret rfl rfl
                  show q_Ru _ _ _ (5, [(0, .ref 64), (1, .int 3884), (2, .int v)], [.int 0, .ref 64], (q_cM q_AM q_IM q_J0, 34, 31630)) _
                  refine q_Ru_seg (g2 := (13, [(0, .ref 64), (1, .int 3884), (2, .int v)], [.int v, .ref 64], (q_cM q_AM q_IM q_J0, 34, 31630))) 2 (fun _ _ => rfl) ?_
                  refine q_Ru_call (v := (some (.int 0))) (h2 := (q_cM q_AM q_IM q_J0, 34, 31630)) rfl rfl ?_ ?_
                  · refine q_Ca_of (Nat.le_of_ble_eq_true rfl) ?_
                    refine q_Ru_seg (g2 := (5, [(0, .int v)], [.int 255, .int 0, .int v], (q_cM q_AM q_IM q_J0, 34, 31630))) 3 (fun _ _ => rfl) ?_
                    refine q_Ru_call (v := (some (.int 1))) (h2 := (q_cM q_AM q_IM q_J0, 34, 31630)) rfl rfl ?_ ?_
                    · refine q_Ca_of (Nat.le_of_ble_eq_true rfl) ?_
                      refine q_Ru_seg (g2 := (2, [(0, .int v), (1, .int 0), (2, .int 255)], [.int 0, .int v], (q_cM q_AM q_IM q_J0, 34, 31630))) 2 (fun _ _ => rfl) ?_
                      refine q_Ru_rsF (g2 := (5, [(0, .int v), (1, .int 0), (2, .int 255)], [], (q_cM q_AM q_IM q_J0, 34, 31630))) rfl rfl h233 ?_
                      refine q_Ru_seg (g2 := (7, [(0, .int v), (1, .int 0), (2, .int 255)], [.int 255, .int v], (q_cM q_AM q_IM q_J0, 34, 31630))) 2 (fun _ _ => rfl) ?_
                      refine q_Ru_rsF (g2 := (10, [(0, .int v), (1, .int 0), (2, .int 255)], [], (q_cM q_AM q_IM q_J0, 34, 31630))) rfl rfl h235 ?_
                      refine q_Ru_seg (g2 := (15, [(0, .int v), (1, .int 0), (2, .int 255)], [.int 1], (q_cM q_AM q_IM q_J0, 34, 31630))) 2 (fun _ _ => rfl) ?_
                      exact q_Ru_ret rfl rfl
                    show q_Ru _ _ _ (8, [(0, .int v)], [.int 1], (q_cM q_AM q_IM q_J0, 34, 31630)) _
                    refine q_Ru_seg (g2 := (16, [(0, .int v)], [.int 0], (q_cM q_AM q_IM q_J0, 34, 31630))) 2 (fun _ _ => rfl) ?_
                    exact q_Ru_ret rfl rfl
                  show q_Ru _ _ _ (16, [(0, .ref 64), (1, .int 3884), (2, .int v)], [.int 0, .ref 64], (q_cM q_AM q_IM q_J0, 34, 31630)) _
                  refine q_Ru_seg (g2 := (24, [(0, .ref 64), (1, .int 3884), (2, .int v)], [.int 0, .ref 64], (q_cM q_AM q_IM q_J0, 34, 31630))) 2 (fun _ _ => rfl) ?_
                  refine q_Ru_call (v := (some (.int 0))) (h2 := (q_cM q_AM (q_uI q_IM 0 39 0) q_J0, 34, 31630)) rfl rfl ?_ ?_
                  · refine q_Ca_of (Nat.le_of_ble_eq_true rfl) ?_
                    refine q_Ru_seg (g2 := (14, [(0, .ref 64), (1, .int 0)], [.int 0], (q_cM q_AM (q_uI q_IM 0 39 0) q_J0, 34, 31630))) 6 (fun _ _ => rfl) ?_
                    exact q_Ru_ret rfl rfl
                  show q_Ru _ _ _ (27, [(0, .ref 64), (1, .int 3884), (2, .int v)], [.int 0], (q_cM q_AM (q_uI q_IM 0 39 0) q_J0, 34, 31630)) _
                  refine q_Ru_seg (g2 := (34, [(0, .ref 64), (1, .int 3884), (2, .int v)], [.int 3884, .ref 64], (q_cM q_AM (q_uI q_IM 0 39 0) q_J0, 34, 31630))) 3 (fun _ _ => rfl) ?_
                  refine q_Ru_call (v := (some (.int 0))) (h2 := (q_cM q_AM (q_uI q_IM 0 39 0) q_J0, 34, 31630)) rfl rfl ?_ ?_
                  · refine q_Ca_of (Nat.le_of_ble_eq_true rfl) ?_
                    refine q_Ru_seg (g2 := (7, [(0, .ref 64), (1, .int 3884)], [.int 3887, .int 3840, .int 3884], (q_cM q_AM (q_uI q_IM 0 39 0) q_J0, 34, 31630))) 3 (fun _ _ => rfl) ?_
                    refine q_Ru_call (v := (some (.int 1))) (h2 := (q_cM q_AM (q_uI q_IM 0 39 0) q_J0, 34, 31630)) rfl rfl ?_ ?_
                    · refine q_Ca_of (Nat.le_of_ble_eq_true rfl) ?_
                      refine q_Ru_seg (g2 := (15, [(0, .int 3884), (1, .int 3840), (2, .int 3887)], [.int 1], (q_cM q_AM (q_uI q_IM 0 39 0) q_J0, 34, 31630))) 8 (fun _ _ => rfl) ?_
                      exact q_Ru_ret rfl rfl
                    show q_Ru _ _ _ (10, [(0, .ref 64), (1, .int 3884)], [.int 1], (q_cM q_AM (q_uI q_IM 0 39 0) q_J0, 34, 31630)) _
                    refine q_Ru_seg (g2 := (19, [(0, .ref 64), (1, .int 3884)], [.int 44, .ref 64], (q_cM q_AM (q_uI q_IM 0 39 0) q_J0, 34, 31630))) 5 (fun _ _ => rfl) ?_
                    refine q_Ru_call (v := (some (.int 0))) (h2 := (q_cM q_AM (q_uI q_IM 0 39 0) q_J0, 34, 31630)) rfl rfl ?_ ?_
                    · refine q_Ca_of (Nat.le_of_ble_eq_true rfl) ?_
                      refine q_Ru_seg (g2 := (30, [(0, .ref 64), (1, .int 44)], [.int 15, .int 12, .int 44], (q_cM q_AM (q_uI q_IM 0 39 0) q_J0, 34, 31630))) 9 (fun _ _ => rfl) ?_
                      refine q_Ru_call (v := (some (.int 0))) (h2 := (q_cM q_AM (q_uI q_IM 0 39 0) q_J0, 34, 31630)) rfl rfl ?_ ?_
                      · refine q_Ca_of (Nat.le_of_ble_eq_true rfl) ?_
                        refine q_Ru_seg (g2 := (15, [(0, .int 44), (1, .int 12), (2, .int 15)], [.int 0], (q_cM q_AM (q_uI q_IM 0 39 0) q_J0, 34, 31630))) 7 (fun _ _ => rfl) ?_
                        exact q_Ru_ret rfl rfl
                      show q_Ru _ _ _ (33, [(0, .ref 64), (1, .int 44)], [.int 0], (q_cM q_AM (q_uI q_IM 0 39 0) q_J0, 34, 31630)) _
                      refine q_Ru_seg (g2 := (161, [(0, .ref 64), (1, .int 44)], [.ref 64, .int 0], (q_cM q_AM (q_uI q_IM 0 39 0) q_J0, 34, 31630))) 25 (fun _ _ => rfl) ?_
                      refine q_Ru_call (v := (some (.int 0))) (h2 := (q_cM q_AM (q_uI q_IM 0 39 0) q_J0, 34, 31630)) rfl rfl ?_ ?_
                      · refine q_Ca_of (Nat.le_of_ble_eq_true rfl) ?_
                        refine q_Ru_seg (g2 := (22, [(0, .ref 64)], [.int 0], (q_cM q_AM (q_uI q_IM 0 39 0) q_J0, 34, 31630))) 10 (fun _ _ => rfl) ?_
                        exact q_Ru_ret rfl rfl
                      show q_Ru _ _ _ (164, [(0, .ref 64), (1, .int 44)], [.int 0, .int 0], (q_cM q_AM (q_uI q_IM 0 39 0) q_J0, 34, 31630)) _
                      refine q_Ru_seg (g2 := (173, [(0, .ref 64), (1, .int 44)], [.int 0], (q_cM q_AM (q_uI q_IM 0 39 0) q_J0, 34, 31630))) 3 (fun _ _ => rfl) ?_
                      exact q_Ru_ret rfl rfl
                    show q_Ru _ _ _ (22, [(0, .ref 64), (1, .int 3884)], [.int 0], (q_cM q_AM (q_uI q_IM 0 39 0) q_J0, 34, 31630)) _
                    exact q_Ru_ret rfl rfl
                  show q_Ru _ _ _ (37, [(0, .ref 64), (1, .int 3884), (2, .int v)], [.int 0], (q_cM q_AM (q_uI q_IM 0 39 0) q_J0, 34, 31630)) _
                  refine q_Ru_seg (g2 := (41, [(3, .int 0), (0, .ref 64), (1, .int 3884), (2, .int v)], [.int v, .int 3884, .ref 64], (q_cM q_AM (q_uI q_IM 0 39 0) q_J0, 34, 31630))) 4 (fun _ _ => rfl) ?_
                  refine q_Ru_call (v := none) (h2 := (q_cM A122 (q_uI q_IM 0 39 0) q_J0, 34, 31630)) rfl rfl ?_ ?_
                  · exact p122.le (Nat.le_of_ble_eq_true rfl)
                  show q_Ru _ _ _ (44, [(3, .int 0), (0, .ref 64), (1, .int 3884), (2, .int v)], [], (q_cM A122 (q_uI q_IM 0 39 0) q_J0, 34, 31630)) _
                  refine q_Ru_seg (g2 := (45, [(3, .int 0), (0, .ref 64), (1, .int 3884), (2, .int v)], [.ref 64], (q_cM A122 (q_uI q_IM 0 39 0) q_J0, 34, 31630))) 1 (fun _ _ => rfl) ?_
                  refine q_Ru_call (v := none) (h2 := (q_cM A122 (q_uI q_IM 0 39 0) q_J0, 34, 31630)) rfl rfl ?_ ?_
                  · refine q_Ca_of (Nat.le_of_ble_eq_true rfl) ?_
                    refine q_Ru_seg (g2 := (17, [(0, .ref 64)], [], (q_cM A122 (q_uI q_IM 0 39 0) q_J0, 34, 31630))) 3 (fun _ _ => rfl) ?_
                    exact q_Ru_ret rfl rfl
                  show q_Ru _ _ _ (48, [(3, .int 0), (0, .ref 64), (1, .int 3884), (2, .int v)], [], (q_cM A122 (q_uI q_IM 0 39 0) q_J0, 34, 31630)) _
                  refine q_Ru_seg (g2 := (49, [(3, .int 0), (0, .ref 64), (1, .int 3884), (2, .int v)], [.int 0], (q_cM A122 (q_uI q_IM 0 39 0) q_J0, 34, 31630))) 1 (fun _ _ => rfl) ?_
                  exact q_Ru_ret rfl rfl
              | 45, _, e249 =>
                have e249 : a = 3885 := e249
                subst e249
                obtain ⟨A123, I123, p123⟩ := q_p_write q_AX q_IX (40) (26520) 3885 v
                obtain ⟨A124, p124⟩ := q_p_writes q_AM (q_uI q_IM 0 39 0) (34) (31630) 3885 v (by decide) (by decide)
                refine ⟨0, 0, 0, ⟨(q_cX A123 I123 (q_uA q_J0 39 (vp_updL (fun _ => 0) 0 0)), 40, 26520), (q_uA q_J0 39 (vp_updL (fun _ => 0) 0 0)) 39, ?_, rfl, fun _ => rfl, Nat.le_of_ble_eq_true rfl, Nat.le_of_ble_eq_true rfl⟩, ⟨(q_cM A124 (q_uI q_IM 0 39 0) q_J0, 34, 31630), _, ?_, rfl, rfl, Nat.le_of_ble_eq_true rfl, Nat.le_of_ble_eq_true rfl⟩, fun _ => rfl⟩
                · refine q_Ca_of (Nat.le_of_ble_eq_true rfl) ?_
                  refine q_Ru_seg (g2 := (5, [(0, .ref 64), (1, .int 3885), (2, .int v), (3, .ref 103)], [.int v, .int 3885, .ref 64, .int 0, .ref 103], (q_cX q_AX q_IX q_J0, 40, 26520))) 5 (fun _ _ => rfl) ?_
                  refine q_Ru_call (v := (some (.int 0))) (h2 := (q_cX A123 I123 q_J0, 40, 26520)) rfl rfl ?_ ?_
                  · refine q_Ca_of (Nat.le_of_ble_eq_true rfl) ?_
                    refine q_Ru_seg (g2 := (1, [(0, .ref 64), (1, .int 3885), (2, .int v)], [.int 3885], (q_cX q_AX q_IX q_J0, 40, 26520))) 1 (fun _ _ => rfl) ?_
                    refine q_Ru_call (v := none) (h2 := (q_cX q_AX q_IX q_J0, 40, 26520)) rfl rfl ?_ ?_
                    · refine q_Ca_of (Nat.le_of_ble_eq_true rfl) ?_
                      refine q_Ru_seg (g2 := (4, [(0, .int 3885)], [.int 4096, .int 3885], (q_cX q_AX q_IX q_J0, 40, 26520))) 2 (fun _ _ => rfl) ?_
                      refine q_Ru_call (v := none) (h2 := (q_cX q_AX q_IX q_J0, 40, 26520)) rfl rfl ?_ ?_
                      · refine q_Ca_of (Nat.le_of_ble_eq_true rfl) ?_
                        refine q_Ru_seg (g2 := (19, [(0, .int 3885), (1, .int 4096)], [], (q_cX q_AX q_IX q_J0, 40, 26520))) 5 (fun _ _ => rfl) ?_
                        exact q_Ru_ret rfl rfl
                      show q_Ru _ _ _ (7, [(0, .int 3885)], [], (q_cX q_AX q_IX q_J0, 40, 26520)) _
                      exact q_Ru_ret rfl rfl
                    show q_Ru _ _ _ (4, [(0, .ref 64), (1, .int 3885), (2, .int v)], [], (q_cX q_AX q_IX q_J0, 40, 26520)) _
                    refine q_Ru_seg (g2 := (5, [(0, .ref 64), (1, .int 3885), (2, .int v)], [.int v], (q_cX q_AX q_IX q_J0, 40, 26520))) 1 (fun _ _ => rfl) ?_
                    refine q_Ru_call (v := none) (h2 := (q_cX q_AX q_IX q_J0, 40, 26520)) rfl rfl ?_ ?_
                    · refine q_Ca_of (Nat.le_of_ble_eq_true rfl) ?_
                      refine q_Ru_seg (g2 := (5, [(0, .int v)], [.int 255, .int 0, .int v], (q_cX q_AX q_IX q_J0, 40, 26520))) 3 (fun _ _ => rfl) ?_
                      refine q_Ru_call (v := none) (h2 := (q_cX q_AX q_IX q_J0, 40, 26520)) rfl rfl ?_ ?_
                      · refine q_Ca_of (Nat.le_of_ble_eq_true rfl) ?_
                        refine q_Ru_seg (g2 := (2, [(0, .int v), (1, .int 0), (2, .int 255)], [.int 0, .int v], (q_cX q_AX q_IX q_J0, 40, 26520))) 2 (fun _ _ => rfl) ?_
                        refine q_Ru_rsF (g2 := (5, [(0, .int v), (1, .int 0), (2, .int 255)], [], (q_cX q_AX q_IX q_J0, 40, 26520))) rfl rfl h233 ?_
                        refine q_Ru_seg (g2 := (7, [(0, .int v), (1, .int 0), (2, .int 255)], [.int 255, .int v], (q_cX q_AX q_IX q_J0, 40, 26520))) 2 (fun _ _ => rfl) ?_
                        refine q_Ru_rsT (g2 := (20, [(0, .int v), (1, .int 0), (2, .int 255)], [], (q_cX q_AX q_IX q_J0, 40, 26520))) rfl rfl (q_d_geF h235) ?_
                        exact q_Ru_ret rfl rfl
                      show q_Ru _ _ _ (8, [(0, .int v)], [], (q_cX q_AX q_IX q_J0, 40, 26520)) _
                      exact q_Ru_ret rfl rfl
                    show q_Ru _ _ _ (8, [(0, .ref 64), (1, .int 3885), (2, .int v)], [], (q_cX q_AX q_IX q_J0, 40, 26520)) _
                    refine q_Ru_seg (g2 := (13, [(0, .ref 64), (1, .int 3885), (2, .int v)], [.int 0, .int v, .int 3885, .int 0, .ref 64], (q_cX q_AX q_IX q_J0, 40, 26520))) 5 (fun _ _ => rfl) ?_
                    refine q_Ru_call (v := none) (h2 := (q_cX q_AX q_IX q_J0, 40, 26520)) rfl rfl ?_ ?_
                    · refine q_Ca_of (Nat.le_of_ble_eq_true rfl) ?_
                      refine q_Ru_seg (g2 := (19, [(0, .ref 64), (1, .int 0), (2, .int 3885), (3, .int v), (4, .int 0)], [], (q_cX q_AX q_IX q_J0, 40, 26520))) 3 (fun _ _ => rfl) ?_
                      exact q_Ru_ret rfl rfl
                    show q_Ru _ _ _ (16, [(0, .ref 64), (1, .int 3885), (2, .int v)], [], (q_cX q_AX q_IX q_J0, 40, 26520)) _
                    refine q_Ru_seg (g2 := (24, [(0, .ref 64), (1, .int 3885), (2, .int v)], [.int 0, .int v, .int 3885, .int 0, .ref 65], (q_cX q_AX q_IX q_J0, 40, 26520))) 6 (fun _ _ => rfl) ?_
                    refine q_Ru_call (v := (some (.int 0))) (h2 := (q_cX A123 I123 q_J0, 40, 26520)) rfl rfl ?_ ?_
                    · refine q_Ca_of (Nat.le_of_ble_eq_true rfl) ?_
                      refine q_Ru_seg (g2 := (74, [(0, .ref 65), (1, .int 0), (2, .int 3885), (3, .int v), (4, .int 0)], [.int v, .int 3885, .ref 66], (q_cX q_AX q_IX q_J0, 40, 26520))) 6 (fun _ _ => rfl) ?_
                      refine q_Ru_call (v := (some (.int 0))) (h2 := (q_cX A123 I123 q_J0, 40, 26520)) rfl rfl ?_ ?_
                      · refine q_Ca_of (Nat.le_of_ble_eq_true rfl) ?_
                        refine q_Ru_seg (g2 := (2, [(0, .ref 66), (1, .int 3885), (2, .int v)], [.int 3885, .ref 66], (q_cX q_AX q_IX q_J0, 40, 26520))) 2 (fun _ _ => rfl) ?_
                        refine q_Ru_call (v := (some (.int 0))) (h2 := (q_cX q_AX q_IX q_J0, 40, 26520)) rfl rfl ?_ ?_
                        · refine q_Ca_of (Nat.le_of_ble_eq_true rfl) ?_
                          refine q_Ru_seg (g2 := (27, [(2, .int 45), (0, .ref 66), (1, .int 3885)], [.int 0, .int 45, .ref 66], (q_cX q_AX q_IX q_J0, 40, 26520))) 16 (fun _ _ => rfl) ?_
                          refine q_Ru_call (v := (some (.int 0))) (h2 := (q_cX q_AX q_IX q_J0, 40, 26520)) rfl rfl ?_ ?_
                          · refine q_Ca_of (Nat.le_of_ble_eq_true rfl) ?_
                            refine q_Ru_seg (g2 := (183, [(0, .ref 66), (1, .int 45), (2, .int 0)], [.int 0], (q_cX q_AX q_IX q_J0, 40, 26520))) 3 (fun _ _ => rfl) ?_
                            exact q_Ru_ret rfl rfl
                          show q_Ru _ _ _ (30, [(2, .int 45), (0, .ref 66), (1, .int 3885)], [.int 0], (q_cX q_AX q_IX q_J0, 40, 26520)) _
                          exact q_Ru_ret rfl rfl
                        show q_Ru _ _ _ (5, [(0, .ref 66), (1, .int 3885), (2, .int v)], [.int 0], (q_cX q_AX q_IX q_J0, 40, 26520)) _
                        refine q_Ru_seg (g2 := (9, [(3, .int 0), (0, .ref 66), (1, .int 3885), (2, .int v)], [.int v, .int 3885, .ref 66], (q_cX q_AX q_IX q_J0, 40, 26520))) 4 (fun _ _ => rfl) ?_
                        refine q_Ru_call (v := none) (h2 := (q_cX A123 I123 q_J0, 40, 26520)) rfl rfl ?_ ?_
                        · exact p123.le (Nat.le_of_ble_eq_true rfl)
                        show q_Ru _ _ _ (12, [(3, .int 0), (0, .ref 66), (1, .int 3885), (2, .int v)], [], (q_cX A123 I123 q_J0, 40, 26520)) _
                        refine q_Ru_seg (g2 := (13, [(3, .int 0), (0, .ref 66), (1, .int 3885), (2, .int v)], [.int 0], (q_cX A123 I123 q_J0, 40, 26520))) 1 (fun _ _ => rfl) ?_
                        exact q_Ru_ret rfl rfl
                      show q_Ru _ _ _ (77, [(0, .ref 65), (1, .int 0), (2, .int 3885), (3, .int v), (4, .int 0)], [.int 0], (q_cX A123 I123 q_J0, 40, 26520)) _
                      exact q_Ru_ret rfl rfl
                    show q_Ru _ _ _ (27, [(0, .ref 64), (1, .int 3885), (2, .int v)], [.int 0], (q_cX A123 I123 q_J0, 40, 26520)) _
                    exact q_Ru_ret rfl rfl
                  show q_Ru _ _ _ (8, [(0, .ref 64), (1, .int 3885), (2, .int v), (3, .ref 103)], [.int 0, .int 0, .ref 103], (q_cX A123 I123 q_J0, 40, 26520)) _
                  refine q_Ru_seg (g2 := (22, [(0, .ref 64), (1, .int 3885), (2, .int v), (3, .ref 103)], [.int 0], (q_cX A123 I123 (q_uA q_J0 39 (vp_updL (fun _ => 0) 0 0)), 40, 26520))) 4 (fun _ _ => rfl) ?_
                  exact q_Ru_ret rfl rfl
                · refine q_Ca_of (Nat.le_of_ble_eq_true rfl) ?_
                  refine q_Ru_seg (g2 := (2, [(0, .ref 64), (1, .int 3885), (2, .int v)], [.int 3885, .ref 64], (q_cM q_AM q_IM q_J0, 34, 31630))) 2 (fun _ _ => rfl) ?_
                  refine q_Ru_call (v := (some (.int 0))) (h2 := (q_cM q_AM q_IM q_J0, 34, 31630)) rfl rfl ?_ ?_
                  · refine q_Ca_of (Nat.le_of_ble_eq_true rfl) ?_
                    refine q_Ru_seg (g2 := (5, [(0, .int 3885)], [.int 4095, .int 0, .int 3885], (q_cM q_AM q_IM q_J0, 34, 31630))) 3 (fun _ _ => rfl) ?_
                    refine q_Ru_call (v := (some (.int 1))) (h2 := (q_cM q_AM q_IM q_J0, 34, 31630)) rfl rfl ?_ ?_
                    · refine q_Ca_of (Nat.le_of_ble_eq_true rfl) ?_
                      refine q_Ru_seg (g2 := (15, [(0, .int 3885), (1, .int 0), (2, .int 4095)], [.int 1], (q_cM q_AM q_IM q_J0, 34, 31630))) 8 (fun _ _ => rfl) ?_
                      exact q_Ru_ret rfl rfl
                    show q_Ru _ _ _ (8, [(0, .int 3885)], [.int 1], (q_cM q_AM q_IM q_J0, 34, 31630)) _
                    refine q_Ru_seg (g2 := (16, [(0, .int 3885)], [.int 0], (q_cM q_AM q_IM q_J0, 34, 31630))) 2 (fun _ _ => rfl) ?_
                    exact q_Ru_ret rfl rfl
                  show q_Ru _ _ _ (5, [(0, .ref 64), (1, .int 3885), (2, .int v)], [.int 0, .ref 64], (q_cM q_AM q_IM q_J0, 34, 31630)) _
                  refine q_Ru_seg (g2 := (13, [(0, .ref 64), (1, .int 3885), (2, .int v)], [.int v, .ref 64], (q_cM q_AM q_IM q_J0, 34, 31630))) 2 (fun _ _ => rfl) ?_
                  refine q_Ru_call (v := (some (.int 0))) (h2 := (q_cM q_AM q_IM q_J0, 34, 31630)) rfl rfl ?_ ?_
                  · refine q_Ca_of (Nat.le_of_ble_eq_true rfl) ?_
                    refine q_Ru_seg (g2 := (5, [(0, .int v)], [.int 255, .int 0, .int v], (q_cM q_AM q_IM q_J0, 34, 31630))) 3 (fun _ _ => rfl) ?_
                    refine q_Ru_call (v := (some (.int 1))) (h2 := (q_cM q_AM q_IM q_J0, 34, 31630)) rfl rfl ?_ ?_
                    · refine q_Ca_of (Nat.le_of_ble_eq_true rfl) ?_
                      refine q_Ru_seg (g2 := (2, [(0, .int v), (1, .int 0), (2, .int 255)], [.int 0, .int v], (q_cM q_AM q_IM q_J0, 34, 31630))) 2 (fun _ _ => rfl) ?_
                      refine q_Ru_rsF (g2 := (5, [(0, .int v), (1, .int 0), (2, .int 255)], [], (q_cM q_AM q_IM q_J0, 34, 31630))) rfl rfl h233 ?_
                      refine q_Ru_seg (g2 := (7, [(0, .int v), (1, .int 0), (2, .int 255)], [.int 255, .int v], (q_cM q_AM q_IM q_J0, 34, 31630))) 2 (fun _ _ => rfl) ?_
                      refine q_Ru_rsF (g2 := (10, [(0, .int v), (1, .int 0), (2, .int 255)], [], (q_cM q_AM q_IM q_J0, 34, 31630))) rfl rfl h235 ?_
                      refine q_Ru_seg (g2 := (15, [(0, .int v), (1, .int 0), (2, .int 255)], [.int 1], (q_cM q_AM q_IM q_J0, 34, 31630))) 2 (fun _ _ => rfl) ?_
                      exact q_Ru_ret rfl rfl
                    show q_Ru _ _ _ (8, [(0, .int v)], [.int 1], (q_cM q_AM q_IM q_J0, 34, 31630)) _
                    refine q_Ru_seg (g2 := (16, [(0, .int v)], [.int 0], (q_cM q_AM q_IM q_J0, 34, 31630))) 2 (fun _ _ => rfl) ?_
                    exact q_Ru_ret rfl rfl
                  show q_Ru _ _ _ (16, [(0, .ref 64), (1, .int 3885), (2, .int v)], [.int 0, .ref 64], (q_cM q_AM q_IM q_J0, 34, 31630)) _
                  refine q_Ru_seg (g2 := (24, [(0, .ref 64), (1, .int 3885), (2, .int v)], [.int 0, .ref 64], (q_cM q_AM q_IM q_J0, 34, 31630))) 2 (fun _ _ => rfl) ?_
                  refine q_Ru_call (v := (some (.int 0))) (h2 := (q_cM q_AM (q_uI q_IM 0 39 0) q_J0, 34, 31630)) rfl rfl ?_ ?_
                  · refine q_Ca_of (Nat.le_of_ble_eq_true rfl) ?_
                    refine q_Ru_seg (g2 := (14, [(0, .ref 64), (1, .int 0)], [.int 0], (q_cM q_AM (q_uI q_IM 0 39 0) q_J0, 34, 31630))) 6 (fun _ _ => rfl) ?_
                    exact q_Ru_ret rfl rfl
                  show q_Ru _ _ _ (27, [(0, .ref 64), (1, .int 3885), (2, .int v)], [.int 0], (q_cM q_AM (q_uI q_IM 0 39 0) q_J0, 34, 31630)) _
                  refine q_Ru_seg (g2 := (34, [(0, .ref 64), (1, .int 3885), (2, .int v)], [.int 3885, .ref 64], (q_cM q_AM (q_uI q_IM 0 39 0) q_J0, 34, 31630))) 3 (fun _ _ => rfl) ?_
                  refine q_Ru_call (v := (some (.int 0))) (h2 := (q_cM q_AM (q_uI q_IM 0 39 0) q_J0, 34, 31630)) rfl rfl ?_ ?_
                  · refine q_Ca_of (Nat.le_of_ble_eq_true rfl) ?_
                    refine q_Ru_seg (g2 := (7, [(0, .ref 64), (1, .int 3885)], [.int 3887, .int 3840, .int 3885], (q_cM q_AM (q_uI q_IM 0 39 0) q_J0, 34, 31630))) 3 (fun _ _ => rfl) ?_
                    refine q_Ru_call (v := (some (.int 1))) (h2 := (q_cM q_AM (q_uI q_IM 0 39 0) q_J0, 34, 31630)) rfl rfl ?_ ?_
                    · refine q_Ca_of (Nat.le_of_ble_eq_true rfl) ?_
                      refine q_Ru_seg (g2 := (15, [(0, .int 3885), (1, .int 3840), (2, .int 3887)], [.int 1], (q_cM q_AM (q_uI q_IM 0 39 0) q_J0, 34, 31630))) 8 (fun _ _ => rfl) ?_
                      exact q_Ru_ret rfl rfl
                    show q_Ru _ _ _ (10, [(0, .ref 64), (1, .int 3885)], [.int 1], (q_cM q_AM (q_uI q_IM 0 39 0) q_J0, 34, 31630)) _
                    refine q_Ru_seg (g2 := (19, [(0, .ref 64), (1, .int 3885)], [.int 45, .ref 64], (q_cM q_AM (q_uI q_IM 0 39 0) q_J0, 34, 31630))) 5 (fun _ _ => rfl) ?_
                    refine q_Ru_call (v := (some (.int 0))) (h2 := (q_cM q_AM (q_uI q_IM 0 39 0) q_J0, 34, 31630)) rfl rfl ?_ ?_
                    · refine q_Ca_of (Nat.le_of_ble_eq_true rfl) ?_
                      refine q_Ru_seg (g2 := (30, [(0, .ref 64), (1, .int 45)], [.int 15, .int 12, .int 45], (q_cM q_AM (q_uI q_IM 0 39 0) q_J0, 34, 31630))) 9 (fun _ _ => rfl) ?_
                      refine q_Ru_call (v := (some (.int 0))) (h2 := (q_cM q_AM (q_uI q_IM 0 39 0) q_J0, 34, 31630)) rfl rfl ?_ ?_
                      · refine q_Ca_of (Nat.le_of_ble_eq_true rfl) ?_
                        refine q_Ru_seg (g2 := (15, [(0, .int 45), (1, .int 12), (2, .int 15)], [.int 0], (q_cM q_AM (q_uI q_IM 0 39 0) q_J0, 34, 31630))) 7 (fun _ _ => rfl) ?_
                        exact q_Ru_ret rfl rfl
                      show q_Ru _ _ _ (33, [(0, .ref 64), (1, .int 45)], [.int 0], (q_cM q_AM (q_uI q_IM 0 39 0) q_J0, 34, 31630)) _
                      refine q_Ru_seg (g2 := (190, [(0, .ref 64), (1, .int 45)], [.int 0], (q_cM q_AM (q_uI q_IM 0 39 0) q_J0, 34, 31630))) 18 (fun _ _ => rfl) ?_
                      exact q_Ru_ret rfl rfl
                    show q_Ru _ _ _ (22, [(0, .ref 64), (1, .int 3885)], [.int 0], (q_cM q_AM (q_uI q_IM 0 39 0) q_J0, 34, 31630)) _
                    exact q_Ru_ret rfl rfl
                  show q_Ru _ _ _ (37, [(0, .ref 64), (1, .int 3885), (2, .int v)], [.int 0], (q_cM q_AM (q_uI q_IM 0 39 0) q_J0, 34, 31630)) _
                  refine q_Ru_seg (g2 := (41, [(3, .int 0), (0, .ref 64), (1, .int 3885), (2, .int v)], [.int v, .int 3885, .ref 64], (q_cM q_AM (q_uI q_IM 0 39 0) q_J0, 34, 31630))) 4 (fun _ _ => rfl) ?_
                  refine q_Ru_call (v := none) (h2 := (q_cM A124 (q_uI q_IM 0 39 0) q_J0, 34, 31630)) rfl rfl ?_ ?_
                  · exact p124.le (Nat.le_of_ble_eq_true rfl)
                  show q_Ru _ _ _ (44, [(3, .int 0), (0, .ref 64), (1, .int 3885), (2, .int v)], [], (q_cM A124 (q_uI q_IM 0 39 0) q_J0, 34, 31630)) _
                  refine q_Ru_seg (g2 := (45, [(3, .int 0), (0, .ref 64), (1, .int 3885), (2, .int v)], [.ref 64], (q_cM A124 (q_uI q_IM 0 39 0) q_J0, 34, 31630))) 1 (fun _ _ => rfl) ?_
                  refine q_Ru_call (v := none) (h2 := (q_cM A124 (q_uI q_IM 0 39 0) q_J0, 34, 31630)) rfl rfl ?_ ?_
                  · refine q_Ca_of (Nat.le_of_ble_eq_true rfl) ?_
                    refine q_Ru_seg (g2 := (17, [(0, .ref 64)], [], (q_cM A124 (q_uI q_IM 0 39 0) q_J0, 34, 31630))) 3 (fun _ _ => rfl) ?_
                    exact q_Ru_ret rfl rfl
                  show q_Ru _ _ _ (48, [(3, .int 0), (0, .ref 64), (1, .int 3885), (2, .int v)], [], (q_cM A124 (q_uI q_IM 0 39 0) q_J0, 34, 31630)) _
                  refine q_Ru_seg (g2 := (49, [(3, .int 0), (0, .ref 64), (1, .int 3885), (2, .int v)], [.int 0], (q_cM A124 (q_uI q_IM 0 39 0) q_J0, 34, 31630))) 1 (fun _ _ => rfl) ?_
                  exact q_Ru_ret rfl rfl
              | 46, _, e249 =>
                have e249 : a = 3886 := e249
                subst e249
                obtain ⟨A125, I125, p125⟩ := q_p_write q_AX q_IX (40) (26520) 3886 v
                obtain ⟨A126, p126⟩ := q_p_writes q_AM (q_uI q_IM 0 39 0) (34) (31630) 3886 v (by decide) (by decide)
                refine ⟨0, 0, 0, ⟨(q_cX A125 I125 (q_uA q_J0 39 (vp_updL (fun _ => 0) 0 0)), 40, 26520), (q_uA q_J0 39 (vp_updL (fun _ => 0) 0 0)) 39, ?_, rfl, fun _ => rfl, Nat.le_of_ble_eq_true rfl, Nat.le_of_ble_eq_true rfl⟩, ⟨(q_cM A126 (q_uI q_IM 0 39 0) q_J0, 34, 31630), _, ?_, rfl, rfl, Nat.le_of_ble_eq_true rfl, Nat.le_of_ble_eq_true rfl⟩, fun _ => rfl⟩
                · refine q_Ca_of (Nat.le_of_ble_eq_true rfl) ?_
                  refine q_Ru_seg (g2 := (5, [(0, .ref 64), (1, .int 3886), (2, .int v), (3, .ref 103)], [.int v, .int 3886, .ref 64, .int 0, .ref 103], (q_cX q_AX q_IX q_J0, 40, 26520))) 5 (fun _ _ => rfl) ?_
                  refine q_Ru_call (v := (some (.int 0))) (h2 := (q_cX A125 I125 q_J0, 40, 26520)) rfl rfl ?_ ?_
                  · refine q_Ca_of (Nat.le_of_ble_eq_true rfl) ?_
                    refine q_Ru_seg (g2 := (1, [(0, .ref 64), (1, .int 3886), (2, .int v)], [.int 3886], (q_cX q_AX q_IX q_J0, 40, 26520))) 1 (fun _ _ => rfl) ?_
                    refine q_Ru_call (v := none) (h2 := (q_cX q_AX q_IX q_J0, 40, 26520)) rfl rfl ?_ ?_
                    · refine q_Ca_of (Nat.le_of_ble_eq_true rfl) ?_
                      refine q_Ru_seg (g2 := (4, [(0, .int 3886)], [.int 4096, .int 3886], (q_cX q_AX q_IX q_J0, 40, 26520))) 2 (fun _ _ => rfl) ?_
                      refine q_Ru_call (v := none) (h2 := (q_cX q_AX q_IX q_J0, 40, 26520)) rfl rfl ?_ ?_
                      · refine q_Ca_of (Nat.le_of_ble_eq_true rfl) ?_
                        refine q_Ru_seg (g2 := (19, [(0, .int 3886), (1, .int 4096)], [], (q_cX q_AX q_IX q_J0, 40, 26520))) 5 (fun _ _ => rfl) ?_
                        exact q_Ru_ret rfl rfl
                      show q_Ru _ _ _ (7, [(0, .int 3886)], [], (q_cX q_AX q_IX q_J0, 40, 26520)) _
                      exact q_Ru_ret rfl rfl
                    show q_Ru _ _ _ (4, [(0, .ref 64), (1, .int 3886), (2, .int v)], [], (q_cX q_AX q_IX q_J0, 40, 26520)) _
                    refine q_Ru_seg (g2 := (5, [(0, .ref 64), (1, .int 3886), (2, .int v)], [.int v], (q_cX q_AX q_IX q_J0, 40, 26520))) 1 (fun _ _ => rfl) ?_
                    refine q_Ru_call (v := none) (h2 := (q_cX q_AX q_IX q_J0, 40, 26520)) rfl rfl ?_ ?_
                    · refine q_Ca_of (Nat.le_of_ble_eq_true rfl) ?_
                      refine q_Ru_seg (g2 := (5, [(0, .int v)], [.int 255, .int 0, .int v], (q_cX q_AX q_IX q_J0, 40, 26520))) 3 (fun _ _ => rfl) ?_
                      refine q_Ru_call (v := none) (h2 := (q_cX q_AX q_IX q_J0, 40, 26520)) rfl rfl ?_ ?_
                      · refine q_Ca_of (Nat.le_of_ble_eq_true rfl) ?_
                        refine q_Ru_seg (g2 := (2, [(0, .int v), (1, .int 0), (2, .int 255)], [.int 0, .int v], (q_cX q_AX q_IX q_J0, 40, 26520))) 2 (fun _ _ => rfl) ?_
                        refine q_Ru_rsF (g2 := (5, [(0, .int v), (1, .int 0), (2, .int 255)], [], (q_cX q_AX q_IX q_J0, 40, 26520))) rfl rfl h233 ?_
                        refine q_Ru_seg (g2 := (7, [(0, .int v), (1, .int 0), (2, .int 255)], [.int 255, .int v], (q_cX q_AX q_IX q_J0, 40, 26520))) 2 (fun _ _ => rfl) ?_
                        refine q_Ru_rsT (g2 := (20, [(0, .int v), (1, .int 0), (2, .int 255)], [], (q_cX q_AX q_IX q_J0, 40, 26520))) rfl rfl (q_d_geF h235) ?_
                        exact q_Ru_ret rfl rfl
                      show q_Ru _ _ _ (8, [(0, .int v)], [], (q_cX q_AX q_IX q_J0, 40, 26520)) _
                      exact q_Ru_ret rfl rfl
                    show q_Ru _ _ _ (8, [(0, .ref 64), (1, .int 3886), (2, .int v)], [], (q_cX q_AX q_IX q_J0, 40, 26520)) _
                    refine q_Ru_seg (g2 := (13, [(0, .ref 64), (1, .int 3886), (2, .int v)], [.int 0, .int v, .int 3886, .int 0, .ref 64], (q_cX q_AX q_IX q_J0, 40, 26520))) 5 (fun _ _ => rfl) ?_
                    refine q_Ru_call (v := none) (h2 := (q_cX q_AX q_IX q_J0, 40, 26520)) rfl rfl ?_ ?_
                    · refine q_Ca_of (Nat.le_of_ble_eq_true rfl) ?_
                      refine q_Ru_seg (g2 := (19, [(0, .ref 64), (1, .int 0), (2, .int 3886), (3, .int v), (4, .int 0)], [], (q_cX q_AX q_IX q_J0, 40, 26520))) 3 (fun _ _ => rfl) ?_
                      exact q_Ru_ret rfl rfl
                    show q_Ru _ _ _ (16, [(0, .ref 64), (1, .int 3886), (2, .int v)], [], (q_cX q_AX q_IX q_J0, 40, 26520)) _
                    refine q_Ru_seg (g2 := (24, [(0, .ref 64), (1, .int 3886), (2, .int v)], [.int 0, .int v, .int 3886, .int 0, .ref 65], (q_cX q_AX q_IX q_J0, 40, 26520))) 6 (fun _ _ => rfl) ?_
                    refine q_Ru_call (v := (some (.int 0))) (h2 := (q_cX A125 I125 q_J0, 40, 26520)) rfl rfl ?_ ?_
                    · refine q_Ca_of (Nat.le_of_ble_eq_true rfl) ?_
                      refine q_Ru_seg (g2 := (74, [(0, .ref 65), (1, .int 0), (2, .int 3886), (3, .int v), (4, .int 0)], [.int v, .int 3886, .ref 66], (q_cX q_AX q_IX q_J0, 40, 26520))) 6 (fun _ _ => rfl) ?_
                      refine q_Ru_call (v := (some (.int 0))) (h2 := (q_cX A125 I125 q_J0, 40, 26520)) rfl rfl ?_ ?_
                      · refine q_Ca_of (Nat.le_of_ble_eq_true rfl) ?_
                        refine q_Ru_seg (g2 := (2, [(0, .ref 66), (1, .int 3886), (2, .int v)], [.int 3886, .ref 66], (q_cX q_AX q_IX q_J0, 40, 26520))) 2 (fun _ _ => rfl) ?_
                        refine q_Ru_call (v := (some (.int 0))) (h2 := (q_cX q_AX q_IX q_J0, 40, 26520)) rfl rfl ?_ ?_
                        · refine q_Ca_of (Nat.le_of_ble_eq_true rfl) ?_
                          refine q_Ru_seg (g2 := (27, [(2, .int 46), (0, .ref 66), (1, .int 3886)], [.int 0, .int 46, .ref 66], (q_cX q_AX q_IX q_J0, 40, 26520))) 16 (fun _ _ => rfl) ?_
                          refine q_Ru_call (v := (some (.int 0))) (h2 := (q_cX q_AX q_IX q_J0, 40, 26520)) rfl rfl ?_ ?_
                          · refine q_Ca_of (Nat.le_of_ble_eq_true rfl) ?_
                            refine q_Ru_seg (g2 := (183, [(0, .ref 66), (1, .int 46), (2, .int 0)], [.int 0], (q_cX q_AX q_IX q_J0, 40, 26520))) 3 (fun _ _ => rfl) ?_
                            exact q_Ru_ret rfl rfl
                          show q_Ru _ _ _ (30, [(2, .int 46), (0, .ref 66), (1, .int 3886)], [.int 0], (q_cX q_AX q_IX q_J0, 40, 26520)) _
                          exact q_Ru_ret rfl rfl
                        show q_Ru _ _ _ (5, [(0, .ref 66), (1, .int 3886), (2, .int v)], [.int 0], (q_cX q_AX q_IX q_J0, 40, 26520)) _
                        refine q_Ru_seg (g2 := (9, [(3, .int 0), (0, .ref 66), (1, .int 3886), (2, .int v)], [.int v, .int 3886, .ref 66], (q_cX q_AX q_IX q_J0, 40, 26520))) 4 (fun _ _ => rfl) ?_
                        refine q_Ru_call (v := none) (h2 := (q_cX A125 I125 q_J0, 40, 26520)) rfl rfl ?_ ?_
                        · exact p125.le (Nat.le_of_ble_eq_true rfl)
                        show q_Ru _ _ _ (12, [(3, .int 0), (0, .ref 66), (1, .int 3886), (2, .int v)], [], (q_cX A125 I125 q_J0, 40, 26520)) _
                        refine q_Ru_seg (g2 := (13, [(3, .int 0), (0, .ref 66), (1, .int 3886), (2, .int v)], [.int 0], (q_cX A125 I125 q_J0, 40, 26520))) 1 (fun _ _ => rfl) ?_
                        exact q_Ru_ret rfl rfl
                      show q_Ru _ _ _ (77, [(0, .ref 65), (1, .int 0), (2, .int 3886), (3, .int v), (4, .int 0)], [.int 0], (q_cX A125 I125 q_J0, 40, 26520)) _
                      exact q_Ru_ret rfl rfl
                    show q_Ru _ _ _ (27, [(0, .ref 64), (1, .int 3886), (2, .int v)], [.int 0], (q_cX A125 I125 q_J0, 40, 26520)) _
                    exact q_Ru_ret rfl rfl
                  show q_Ru _ _ _ (8, [(0, .ref 64), (1, .int 3886), (2, .int v), (3, .ref 103)], [.int 0, .int 0, .ref 103], (q_cX A125 I125 q_J0, 40, 26520)) _
                  refine q_Ru_seg (g2 := (22, [(0, .ref 64), (1, .int 3886), (2, .int v), (3, .ref 103)], [.int 0], (q_cX A125 I125 (q_uA q_J0 39 (vp_updL (fun _ => 0) 0 0)), 40, 26520))) 4 (fun _ _ => rfl) ?_
                  exact q_Ru_ret rfl rfl
                · refine q_Ca_of (Nat.le_of_ble_eq_true rfl) ?_
                  refine q_Ru_seg (g2 := (2, [(0, .ref 64), (1, .int 3886), (2, .int v)], [.int 3886, .ref 64], (q_cM q_AM q_IM q_J0, 34, 31630))) 2 (fun _ _ => rfl) ?_
                  refine q_Ru_call (v := (some (.int 0))) (h2 := (q_cM q_AM q_IM q_J0, 34, 31630)) rfl rfl ?_ ?_
                  · refine q_Ca_of (Nat.le_of_ble_eq_true rfl) ?_
                    refine q_Ru_seg (g2 := (5, [(0, .int 3886)], [.int 4095, .int 0, .int 3886], (q_cM q_AM q_IM q_J0, 34, 31630))) 3 (fun _ _ => rfl) ?_
                    refine q_Ru_call (v := (some (.int 1))) (h2 := (q_cM q_AM q_IM q_J0, 34, 31630)) rfl rfl ?_ ?_
                    · refine q_Ca_of (Nat.le_of_ble_eq_true rfl) ?_
                      refine q_Ru_seg (g2 := (15, [(0, .int 3886), (1, .int 0), (2, .int 4095)], [.int 1], (q_cM q_AM q_IM q_J0, 34, 31630))) 8 (fun _ _ => rfl) ?_
                      exact q_Ru_ret rfl rfl
                    show q_Ru _ _ _ (8, [(0, .int 3886)], [.int 1], (q_cM q_AM q_IM q_J0, 34, 31630)) _
                    refine q_Ru_seg (g2 := (16, [(0, .int 3886)], [.int 0], (q_cM q_AM q_IM q_J0, 34, 31630))) 2 (fun _ _ => rfl) ?_
                    exact q_Ru_ret rfl rfl
                  show q_Ru _ _ _ (5, [(0, .ref 64), (1, .int 3886), (2, .int v)], [.int 0, .ref 64], (q_cM q_AM q_IM q_J0, 34, 31630)) _
                  refine q_Ru_seg (g2 := (13, [(0, .ref 64), (1, .int 3886), (2, .int v)], [.int v, .ref 64], (q_cM q_AM q_IM q_J0, 34, 31630))) 2 (fun _ _ => rfl) ?_
                  refine q_Ru_call (v := (some (.int 0))) (h2 := (q_cM q_AM q_IM q_J0, 34, 31630)) rfl rfl ?_ ?_
                  · refine q_Ca_of (Nat.le_of_ble_eq_true rfl) ?_
                    refine q_Ru_seg (g2 := (5, [(0, .int v)], [.int 255, .int 0, .int v], (q_cM q_AM q_IM q_J0, 34, 31630))) 3 (fun _ _ => rfl) ?_
                    refine q_Ru_call (v := (some (.int 1))) (h2 := (q_cM q_AM q_IM q_J0, 34, 31630)) rfl rfl ?_ ?_
                    · refine q_Ca_of (Nat.le_of_ble_eq_true rfl) ?_
                      refine q_Ru_seg (g2 := (2, [(0, .int v), (1, .int 0), (2, .int 255)], [.int 0, .int v], (q_cM q_AM q_IM q_J0, 34, 31630))) 2 (fun _ _ => rfl) ?_
                      refine q_Ru_rsF (g2 := (5, [(0, .int v), (1, .int 0), (2, .int 255)], [], (q_cM q_AM q_IM q_J0, 34, 31630))) rfl rfl h233 ?_
                      refine q_Ru_seg (g2 := (7, [(0, .int v), (1, .int 0), (2, .int 255)], [.int 255, .int v], (q_cM q_AM q_IM q_J0, 34, 31630))) 2 (fun _ _ => rfl) ?_
                      refine q_Ru_rsF (g2 := (10, [(0, .int v), (1, .int 0), (2, .int 255)], [], (q_cM q_AM q_IM q_J0, 34, 31630))) rfl rfl h235 ?_
                      refine q_Ru_seg (g2 := (15, [(0, .int v), (1, .int 0), (2, .int 255)], [.int 1], (q_cM q_AM q_IM q_J0, 34, 31630))) 2 (fun _ _ => rfl) ?_
                      exact q_Ru_ret rfl rfl
                    show q_Ru _ _ _ (8, [(0, .int v)], [.int 1], (q_cM q_AM q_IM q_J0, 34, 31630)) _
                    refine q_Ru_seg (g2 := (16, [(0, .int v)], [.int 0], (q_cM q_AM q_IM q_J0, 34, 31630))) 2 (fun _ _ => rfl) ?_
                    exact q_Ru_ret rfl rfl
                  show q_Ru _ _ _ (16, [(0, .ref 64), (1, .int 3886), (2, .int v)], [.int 0, .ref 64], (q_cM q_AM q_IM q_J0, 34, 31630)) _
                  refine q_Ru_seg (g2 := (24, [(0, .ref 64), (1, .int 3886), (2, .int v)], [.int 0, .ref 64], (q_cM q_AM q_IM q_J0, 34, 31630))) 2 (fun _ _ => rfl) ?_
                  refine q_Ru_call (v := (some (.int 0))) (h2 := (q_cM q_AM (q_uI q_IM 0 39 0) q_J0, 34, 31630)) rfl rfl ?_ ?_
                  · refine q_Ca_of (Nat.le_of_ble_eq_true rfl) ?_
                    refine q_Ru_seg (g2 := (14, [(0, .ref 64), (1, .int 0)], [.int 0], (q_cM q_AM (q_uI q_IM 0 39 0) q_J0, 34, 31630))) 6 (fun _ _ => rfl) ?_
                    exact q_Ru_ret rfl rfl
                  show q_Ru _ _ _ (27, [(0, .ref 64), (1, .int 3886), (2, .int v)], [.int 0], (q_cM q_AM (q_uI q_IM 0 39 0) q_J0, 34, 31630)) _
                  refine q_Ru_seg (g2 := (34, [(0, .ref 64), (1, .int 3886), (2, .int v)], [.int 3886, .ref 64], (q_cM q_AM (q_uI q_IM 0 39 0) q_J0, 34, 31630))) 3 (fun _ _ => rfl) ?_
                  refine q_Ru_call (v := (some (.int 0))) (h2 := (q_cM q_AM (q_uI q_IM 0 39 0) q_J0, 34, 31630)) rfl rfl ?_ ?_
                  · refine q_Ca_of (Nat.le_of_ble_eq_true rfl) ?_
                    refine q_Ru_seg (g2 := (7, [(0, .ref 64), (1, .int 3886)], [.int 3887, .int 3840, .int 3886], (q_cM q_AM (q_uI q_IM 0 39 0) q_J0, 34, 31630))) 3 (fun _ _ => rfl) ?_
                    refine q_Ru_call (v := (some (.int 1))) (h2 := (q_cM q_AM (q_uI q_IM 0 39 0) q_J0, 34, 31630)) rfl rfl ?_ ?_
                    · refine q_Ca_of (Nat.le_of_ble_eq_true rfl) ?_
                      refine q_Ru_seg (g2 := (15, [(0, .int 3886), (1, .int 3840), (2, .int 3887)], [.int 1], (q_cM q_AM (q_uI q_IM 0 39 0) q_J0, 34, 31630))) 8 (fun _ _ => rfl) ?_
                      exact q_Ru_ret rfl rfl
                    show q_Ru _ _ _ (10, [(0, .ref 64), (1, .int 3886)], [.int 1], (q_cM q_AM (q_uI q_IM 0 39 0) q_J0, 34, 31630)) _
                    refine q_Ru_seg (g2 := (19, [(0, .ref 64), (1, .int 3886)], [.int 46, .ref 64], (q_cM q_AM (q_uI q_IM 0 39 0) q_J0, 34, 31630))) 5 (fun _ _ => rfl) ?_
                    refine q_Ru_call (v := (some (.int 0))) (h2 := (q_cM q_AM (q_uI q_IM 0 39 0) q_J0, 34, 31630)) rfl rfl ?_ ?_
                    · refine q_Ca_of (Nat.le_of_ble_eq_true rfl) ?_
                      refine q_Ru_seg (g2 := (30, [(0, .ref 64), (1, .int 46)], [.int 15, .int 12, .int 46], (q_cM q_AM (q_uI q_IM 0 39 0) q_J0, 34, 31630))) 9 (fun _ _ => rfl) ?_
                      refine q_Ru_call (v := (some (.int 0))) (h2 := (q_cM q_AM (q_uI q_IM 0 39 0) q_J0, 34, 31630)) rfl rfl ?_ ?_
                      · refine q_Ca_of (Nat.le_of_ble_eq_true rfl) ?_
                        refine q_Ru_seg (g2 := (15, [(0, .int 46), (1, .int 12), (2, .int 15)], [.int 0], (q_cM q_AM (q_uI q_IM 0 39 0) q_J0, 34, 31630))) 7 (fun _ _ => rfl) ?_
                        exact q_Ru_ret rfl rfl
                      show q_Ru _ _ _ (33, [(0, .ref 64), (1, .int 46)], [.int 0], (q_cM q_AM (q_uI q_IM 0 39 0) q_J0, 34, 31630)) _
                      refine q_Ru_seg (g2 := (190, [(0, .ref 64), (1, .int 46)], [.int 0], (q_cM q_AM (q_uI q_IM 0 39 0) q_J0, 34, 31630))) 18 (fun _ _ => rfl) ?_
                      exact q_Ru_ret rfl rfl
                    show q_Ru _ _ _ (22, [(0, .ref 64), (1, .int 3886)], [.int 0], (q_cM q_AM (q_uI q_IM 0 39 0) q_J0, 34, 31630)) _
                    exact q_Ru_ret rfl rfl
                  show q_Ru _ _ _ (37, [(0, .ref 64), (1, .int 3886), (2, .int v)], [.int 0], (q_cM q_AM (q_uI q_IM 0 39 0) q_J0, 34, 31630)) _
                  refine q_Ru_seg (g2 := (41, [(3, .int 0), (0, .ref 64), (1, .int 3886), (2, .int v)], [.int v, .int 3886, .ref 64], (q_cM q_AM (q_uI q_IM 0 39 0) q_J0, 34, 31630))) 4 (fun _ _ => rfl) ?_
                  refine q_Ru_call (v := none) (h2 := (q_cM A126 (q_uI q_IM 0 39 0) q_J0, 34, 31630)) rfl rfl ?_ ?_
                  · exact p126.le (Nat.le_of_ble_eq_true rfl)
                  show q_Ru _ _ _ (44, [(3, .int 0), (0, .ref 64), (1, .int 3886), (2, .int v)], [], (q_cM A126 (q_uI q_IM 0 39 0) q_J0, 34, 31630)) _
                  refine q_Ru_seg (g2 := (45, [(3, .int 0), (0, .ref 64), (1, .int 3886), (2, .int v)], [.ref 64], (q_cM A126 (q_uI q_IM 0 39 0) q_J0, 34, 31630))) 1 (fun _ _ => rfl) ?_
                  refine q_Ru_call (v := none) (h2 := (q_cM A126 (q_uI q_IM 0 39 0) q_J0, 34, 31630)) rfl rfl ?_ ?_
                  · refine q_Ca_of (Nat.le_of_ble_eq_true rfl) ?_
                    refine q_Ru_seg (g2 := (17, [(0, .ref 64)], [], (q_cM A126 (q_uI q_IM 0 39 0) q_J0, 34, 31630))) 3 (fun _ _ => rfl) ?_
                    exact q_Ru_ret rfl rfl
                  show q_Ru _ _ _ (48, [(3, .int 0), (0, .ref 64), (1, .int 3886), (2, .int v)], [], (q_cM A126 (q_uI q_IM 0 39 0) q_J0, 34, 31630)) _
                  refine q_Ru_seg (g2 := (49, [(3, .int 0), (0, .ref 64), (1, .int 3886), (2, .int v)], [.int 0], (q_cM A126 (q_uI q_IM 0 39 0) q_J0, 34, 31630))) 1 (fun _ _ => rfl) ?_
                  exact q_Ru_ret rfl rfl
              | 47, _, e249 =>
                have e249 : a = 3887 := e249
                subst e249
                obtain ⟨A127, I127, p127⟩ := q_p_write q_AX q_IX (40) (26520) 3887 v
                obtain ⟨A128, p128⟩ := q_p_writes q_AM (q_uI q_IM 0 39 0) (34) (31630) 3887 v (by decide) (by decide)
                refine ⟨0, 0, 0, ⟨(q_cX A127 I127 (q_uA q_J0 39 (vp_updL (fun _ => 0) 0 0)), 40, 26520), (q_uA q_J0 39 (vp_updL (fun _ => 0) 0 0)) 39, ?_, rfl, fun _ => rfl, Nat.le_of_ble_eq_true rfl, Nat.le_of_ble_eq_true rfl⟩, ⟨(q_cM A128 (q_uI q_IM 0 39 0) q_J0, 34, 31630), _, ?_, rfl, rfl, Nat.le_of_ble_eq_true rfl, Nat.le_of_ble_eq_true rfl⟩, fun _ => rfl⟩
                · refine q_Ca_of (Nat.le_of_ble_eq_true rfl) ?_
                  refine q_Ru_seg (g2 := (5, [(0, .ref 64), (1, .int 3887), (2, .int v), (3, .ref 103)], [.int v, .int 3887, .ref 64, .int 0, .ref 103], (q_cX q_AX q_IX q_J0, 40, 26520))) 5 (fun _ _ => rfl) ?_
                  refine q_Ru_call (v := (some (.int 0))) (h2 := (q_cX A127 I127 q_J0, 40, 26520)) rfl rfl ?_ ?_
                  · refine q_Ca_of (Nat.le_of_ble_eq_true rfl) ?_
                    refine q_Ru_seg (g2 := (1, [(0, .ref 64), (1, .int 3887), (2, .int v)], [.int 3887], (q_cX q_AX q_IX q_J0, 40, 26520))) 1 (fun _ _ => rfl) ?_
                    refine q_Ru_call (v := none) (h2 := (q_cX q_AX q_IX q_J0, 40, 26520)) rfl rfl ?_ ?_
                    · refine q_Ca_of (Nat.le_of_ble_eq_true rfl) ?_
                      refine q_Ru_seg (g2 := (4, [(0, .int 3887)], [.int 4096, .int 3887], (q_cX q_AX q_IX q_J0, 40, 26520))) 2 (fun _ _ => rfl) ?_
                      refine q_Ru_call (v := none) (h2 := (q_cX q_AX q_IX q_J0, 40, 26520)) rfl rfl ?_ ?_
                      · refine q_Ca_of (Nat.le_of_ble_eq_true rfl) ?_
                        refine q_Ru_seg (g2 := (19, [(0, .int 3887), (1, .int 4096)], [], (q_cX q_AX q_IX q_J0, 40, 26520))) 5 (fun _ _ => rfl) ?_
                        exact q_Ru_ret rfl rfl
                      show q_Ru _ _ _ (7, [(0, .int 3887)], [], (q_cX q_AX q_IX q_J0, 40, 26520)) _
                      exact q_Ru_ret rfl rfl
                    show q_Ru _ _ _ (4, [(0, .ref 64), (1, .int 3887), (2, .int v)], [], (q_cX q_AX q_IX q_J0, 40, 26520)) _
                    refine q_Ru_seg (g2 := (5, [(0, .ref 64), (1, .int 3887), (2, .int v)], [.int v], (q_cX q_AX q_IX q_J0, 40, 26520))) 1 (fun _ _ => rfl) ?_
                    refine q_Ru_call (v := none) (h2 := (q_cX q_AX q_IX q_J0, 40, 26520)) rfl rfl ?_ ?_
                    · refine q_Ca_of (Nat.le_of_ble_eq_true rfl) ?_
                      refine q_Ru_seg (g2 := (5, [(0, .int v)], [.int 255, .int 0, .int v], (q_cX q_AX q_IX q_J0, 40, 26520))) 3 (fun _ _ => rfl) ?_
                      refine q_Ru_call (v := none) (h2 := (q_cX q_AX q_IX q_J0, 40, 26520)) rfl rfl ?_ ?_
                      · refine q_Ca_of (Nat.le_of_ble_eq_true rfl) ?_
                        refine q_Ru_seg (g2 := (2, [(0, .int v), (1, .int 0), (2, .int 255)], [.int 0, .int v], (q_cX q_AX q_IX q_J0, 40, 26520))) 2 (fun _ _ => rfl) ?_
                        refine q_Ru_rsF (g2 := (5, [(0, .int v), (1, .int 0), (2, .int 255)], [], (q_cX q_AX q_IX q_J0, 40, 26520))) rfl rfl h233 ?_
                        refine q_Ru_seg (g2 := (7, [(0, .int v), (1, .int 0), (2, .int 255)], [.int 255, .int v], (q_cX q_AX q_IX q_J0, 40, 26520))) 2 (fun _ _ => rfl) ?_
                        refine q_Ru_rsT (g2 := (20, [(0, .int v), (1, .int 0), (2, .int 255)], [], (q_cX q_AX q_IX q_J0, 40, 26520))) rfl rfl (q_d_geF h235) ?_
                        exact q_Ru_ret rfl rfl
                      show q_Ru _ _ _ (8, [(0, .int v)], [], (q_cX q_AX q_IX q_J0, 40, 26520)) _
                      exact q_Ru_ret rfl rfl
                    show q_Ru _ _ _ (8, [(0, .ref 64), (1, .int 3887), (2, .int v)], [], (q_cX q_AX q_IX q_J0, 40, 26520)) _
                    refine q_Ru_seg (g2 := (13, [(0, .ref 64), (1, .int 3887), (2, .int v)], [.int 0, .int v, .int 3887, .int 0, .ref 64], (q_cX q_AX q_IX q_J0, 40, 26520))) 5 (fun _ _ => rfl) ?_
                    refine q_Ru_call (v := none) (h2 := (q_cX q_AX q_IX q_J0, 40, 26520)) rfl rfl ?_ ?_
                    · refine q_Ca_of (Nat.le_of_ble_eq_true rfl) ?_
                      refine q_Ru_seg (g2 := (19, [(0, .ref 64), (1, .int 0), (2, .int 3887), (3, .int v), (4, .int 0)], [], (q_cX q_AX q_IX q_J0, 40, 26520))) 3 (fun _ _ => rfl) ?_
                      exact q_Ru_ret rfl rfl
                    show q_Ru _ _ _ (16, [(0, .ref 64), (1, .int 3887), (2, .int v)], [], (q_cX q_AX q_IX q_J0, 40, 26520)) _
                    refine q_Ru_seg (g2 := (24, [(0, .ref 64), (1, .int 3887), (2, .int v)], [.int 0, .int v, .int 3887, .int 0, .ref 65], (q_cX q_AX q_IX q_J0, 40, 26520))) 6 (fun _ _ => rfl) ?_
                    refine q_Ru_call (v := (some (.int 0))) (h2 := (q_cX A127 I127 q_J0, 40, 26520)) rfl rfl ?_ ?_
                    · refine q_Ca_of (Nat.le_of_ble_eq_true rfl) ?_
                      refine q_Ru_seg (g2 := (74, [(0, .ref 65), (1, .int 0), (2, .int 3887), (3, .int v), (4, .int 0)], [.int v, .int 3887, .ref 66], (q_cX q_AX q_IX q_J0, 40, 26520))) 6 (fun _ _ => rfl) ?_
                      refine q_Ru_call (v := (some (.int 0))) (h2 := (q_cX A127 I127 q_J0, 40, 26520)) rfl rfl ?_ ?_
                      · refine q_Ca_of (Nat.le_of_ble_eq_true rfl) ?_
                        refine q_Ru_seg (g2 := (2, [(0, .ref 66), (1, .int 3887), (2, .int v)], [.int 3887, .ref 66], (q_cX q_AX q_IX q_J0, 40, 26520))) 2 (fun _ _ => rfl) ?_
                        refine q_Ru_call (v := (some (.int 0))) (h2 := (q_cX q_AX q_IX q_J0, 40, 26520)) rfl rfl ?_ ?_
                        · refine q_Ca_of (Nat.le_of_ble_eq_true rfl) ?_
                          refine q_Ru_seg (g2 := (27, [(2, .int 47), (0, .ref 66), (1, .int 3887)], [.int 0, .int 47, .ref 66], (q_cX q_AX q_IX q_J0, 40, 26520))) 16 (fun _ _ => rfl) ?_
                          refine q_Ru_call (v := (some (.int 0))) (h2 := (q_cX q_AX q_IX q_J0, 40, 26520)) rfl rfl ?_ ?_
                          · refine q_Ca_of (Nat.le_of_ble_eq_true rfl) ?_
                            refine q_Ru_seg (g2 := (183, [(0, .ref 66), (1, .int 47), (2, .int 0)], [.int 0], (q_cX q_AX q_IX q_J0, 40, 26520))) 3 (fun _ _ => rfl) ?_
                            exact q_Ru_ret rfl rfl
                          show q_Ru _ _ _ (30, [(2, .int 47), (0, .ref 66), (1, .int 3887)], [.int 0], (q_cX q_AX q_IX q_J0, 40, 26520)) _
                          exact q_Ru_ret rfl rfl
                        show q_Ru _ _ _ (5, [(0, .ref 66), (1, .int 3887), (2, .int v)], [.int 0], (q_cX q_AX q_IX q_J0, 40, 26520)) _
                        refine q_Ru_seg (g2 := (9, [(3, .int 0), (0, .ref 66), (1, .int 3887), (2, .int v)], [.int v, .int 3887, .ref 66], (q_cX q_AX q_IX q_J0, 40, 26520))) 4 (fun _ _ => rfl) ?_
                        refine q_Ru_call (v := none) (h2 := (q_cX A127 I127 q_J0, 40, 26520)) rfl rfl ?_ ?_
                        · exact p127.le (Nat.le_of_ble_eq_true rfl)
                        show q_Ru _ _ _ (12, [(3, .int 0), (0, .ref 66), (1, .int 3887), (2, .int v)], [], (q_cX A127 I127 q_J0, 40, 26520)) _
                        refine q_Ru_seg (g2 := (13, [(3, .int 0), (0, .ref 66), (1, .int 3887), (2, .int v)], [.int 0], (q_cX A127 I127 q_J0, 40, 26520))) 1 (fun _ _ => rfl) ?_
                        exact q_Ru_ret rfl rfl
                      show q_Ru _ _ _ (77, [(0, .ref 65), (1, .int 0), (2, .int 3887), (3, .int v), (4, .int 0)], [.int 0], (q_cX A127 I127 q_J0, 40, 26520)) _
                      exact q_Ru_ret rfl rfl
                    show q_Ru _ _ _ (27, [(0, .ref 64), (1, .int 3887), (2, .int v)], [.int 0], (q_cX A127 I127 q_J0, 40, 26520)) _
                    exact q_Ru_ret rfl rfl
                  show q_Ru _ _ _ (8, [(0, .ref 64), (1, .int 3887), (2, .int v), (3, .ref 103)], [.int 0, .int 0, .ref 103], (q_cX A127 I127 q_J0, 40, 26520)) _
                  refine q_Ru_seg (g2 := (22, [(0, .ref 64), (1, .int 3887), (2, .int v), (3, .ref 103)], [.int 0], (q_cX A127 I127 (q_uA q_J0 39 (vp_updL (fun _ => 0) 0 0)), 40, 26520))) 4 (fun _ _ => rfl) ?_
                  exact q_Ru_ret rfl rfl
                · refine q_Ca_of (Nat.le_of_ble_eq_true rfl) ?_
                  refine q_Ru_seg (g2 := (2, [(0, .ref 64), (1, .int 3887), (2, .int v)], [.int 3887, .ref 64], (q_cM q_AM q_IM q_J0, 34, 31630))) 2 (fun _ _ => rfl) ?_
                  refine q_Ru_call (v := (some (.int 0))) (h2 := (q_cM q_AM q_IM q_J0, 34, 31630)) rfl rfl ?_ ?_
                  · refine q_Ca_of (Nat.le_of_ble_eq_true rfl) ?_
                    refine q_Ru_seg (g2 := (5, [(0, .int 3887)], [.int 4095, .int 0, .int 3887], (q_cM q_AM q_IM q_J0, 34, 31630))) 3 (fun _ _ => rfl) ?_
                    refine q_Ru_call (v := (some (.int 1))) (h2 := (q_cM q_AM q_IM q_J0, 34, 31630)) rfl rfl ?_ ?_
                    · refine q_Ca_of (Nat.le_of_ble_eq_true rfl) ?_
                      refine q_Ru_seg (g2 := (15, [(0, .int 3887), (1, .int 0), (2, .int 4095)], [.int 1], (q_cM q_AM q_IM q_J0, 34, 31630))) 8 (fun _ _ => rfl) ?_
                      exact q_Ru_ret rfl rfl
                    show q_Ru _ _ _ (8, [(0, .int 3887)], [.int 1], (q_cM q_AM q_IM q_J0, 34, 31630)) _
                    refine q_Ru_seg (g2 := (16, [(0, .int 3887)], [.int 0], (q_cM q_AM q_IM q_J0, 34, 31630))) 2 (fun _ _ => rfl) ?_
                    exact q_Ru_ret rfl rfl
                  show q_Ru _ _ _ (5, [(0, .ref 64), (1, .int 3887), (2, .int v)], [.int 0, .ref 64], (q_cM q_AM q_IM q_J0, 34, 31630)) _
                  refine q_Ru_seg (g2 := (13, [(0, .ref 64), (1, .int 3887), (2, .int v)], [.int v, .ref 64], (q_cM q_AM q_IM q_J0, 34, 31630))) 2 (fun _ _ => rfl) ?_
                  refine q_Ru_call (v := (some (.int 0))) (h2 := (q_cM q_AM q_IM q_J0, 34, 31630)) rfl rfl ?_ ?_
                  · refine q_Ca_of (Nat.le_of_ble_eq_true rfl) ?_
                    refine q_Ru_seg (g2 := (5, [(0, .int v)], [.int 255, .int 0, .int v], (q_cM q_AM q_IM q_J0, 34, 31630))) 3 (fun _ _ => rfl) ?_
                    refine q_Ru_call (v := (some (.int 1))) (h2 := (q_cM q_AM q_IM q_J0, 34, 31630)) rfl rfl ?_ ?_
                    · refine q_Ca_of (Nat.le_of_ble_eq_true rfl) ?_
                      refine q_Ru_seg (g2 := (2, [(0, .int v), (1, .int 0), (2, .int 255)], [.int 0, .int v], (q_cM q_AM q_IM q_J0, 34, 31630))) 2 (fun _ _ => rfl) ?_
                      refine q_Ru_rsF (g2 := (5, [(0, .int v), (1, .int 0), (2, .int 255)], [], (q_cM q_AM q_IM q_J0, 34, 31630))) rfl rfl h233 ?_
                      refine q_Ru_seg (g2 := (7, [(0, .int v), (1, .int 0), (2, .int 255)], [.int 255, .int v], (q_cM q_AM q_IM q_J0, 34, 31630))) 2 (fun _ _ => rfl) ?_
                      refine q_Ru_rsF (g2 := (10, [(0, .int v), (1, .int 0), (2, .int 255)], [], (q_cM q_AM q_IM q_J0, 34, 31630))) rfl rfl h235 ?_
                      refine q_Ru_seg (g2 := (15, [(0, .int v), (1, .int 0), (2, .int 255)], [.int 1], (q_cM q_AM q_IM q_J0, 34, 31630))) 2 (fun _ _ => rfl) ?_
                      exact q_Ru_ret rfl rfl
                    show q_Ru _ _ _ (8, [(0, .int v)], [.int 1], (q_cM q_AM q_IM q_J0, 34, 31630)) _
                    refine q_Ru_seg (g2 := (16, [(0, .int v)], [.int 0], (q_cM q_AM q_IM q_J0, 34, 31630))) 2 (fun _ _ => rfl) ?_
                    exact q_Ru_ret rfl rfl
                  show q_Ru _ _ _ (16, [(0, .ref 64), (1, .int 3887), (2, .int v)], [.int 0, .ref 64], (q_cM q_AM q_IM q_J0, 34, 31630)) _
                  refine q_Ru_seg (g2 := (24, [(0, .ref 64), (1, .int 3887), (2, .int v)], [.int 0, .ref 64], (q_cM q_AM q_IM q_J0, 34, 31630))) 2 (fun _ _ => rfl) ?_
                  refine q_Ru_call (v := (some (.int 0))) (h2 := (q_cM q_AM (q_uI q_IM 0 39 0) q_J0, 34, 31630)) rfl rfl ?_ ?_
                  · refine q_Ca_of (Nat.le_of_ble_eq_true rfl) ?_
                    refine q_Ru_seg (g2 := (14, [(0, .ref 64), (1, .int 0)], [.int 0], (q_cM q_AM (q_uI q_IM 0 39 0) q_J0, 34, 31630))) 6 (fun _ _ => rfl) ?_
                    exact q_Ru_ret rfl rfl
                  show q_Ru _ _ _ (27, [(0, .ref 64), (1, .int 3887), (2, .int v)], [.int 0], (q_cM q_AM (q_uI q_IM 0 39 0) q_J0, 34, 31630)) _
                  refine q_Ru_seg (g2 := (34, [(0, .ref 64), (1, .int 3887), (2, .int v)], [.int 3887, .ref 64], (q_cM q_AM (q_uI q_IM 0 39 0) q_J0, 34, 31630))) 3 (fun _ _ => rfl) ?_
                  refine q_Ru_call (v := (some (.int 0))) (h2 := (q_cM q_AM (q_uI q_IM 0 39 0) q_J0, 34, 31630)) rfl rfl ?_ ?_
                  · refine q_Ca_of (Nat.le_of_ble_eq_true rfl) ?_
                    refine q_Ru_seg (g2 := (7, [(0, .ref 64), (1, .int 3887)], [.int 3887, .int 3840, .int 3887], (q_cM q_AM (q_uI q_IM 0 39 0) q_J0, 34, 31630))) 3 (fun _ _ => rfl) ?_
                    refine q_Ru_call (v := (some (.int 1))) (h2 := (q_cM q_AM (q_uI q_IM 0 39 0) q_J0, 34, 31630)) rfl rfl ?_ ?_
                    · refine q_Ca_of (Nat.le_of_ble_eq_true rfl) ?_
                      refine q_Ru_seg (g2 := (15, [(0, .int 3887), (1, .int 3840), (2, .int 3887)], [.int 1], (q_cM q_AM (q_uI q_IM 0 39 0) q_J0, 34, 31630))) 8 (fun _ _ => rfl) ?_
                      exact q_Ru_ret rfl rfl
                    show q_Ru _ _ _ (10, [(0, .ref 64), (1, .int 3887)], [.int 1], (q_cM q_AM (q_uI q_IM 0 39 0) q_J0, 34, 31630)) _
                    refine q_Ru_seg (g2 := (19, [(0, .ref 64), (1, .int 3887)], [.int 47, .ref 64], (q_cM q_AM (q_uI q_IM 0 39 0) q_J0, 34, 31630))) 5 (fun _ _ => rfl) ?_
                    refine q_Ru_call (v := (some (.int 0))) (h2 := (q_cM q_AM (q_uI q_IM 0 39 0) q_J0, 34, 31630)) rfl rfl ?_ ?_
                    · refine q_Ca_of (Nat.le_of_ble_eq_true rfl) ?_
                      refine q_Ru_seg (g2 := (30, [(0, .ref 64), (1, .int 47)], [.int 15, .int 12, .int 47], (q_cM q_AM (q_uI q_IM 0 39 0) q_J0, 34, 31630))) 9 (fun _ _ => rfl) ?_
                      refine q_Ru_call (v := (some (.int 0))) (h2 := (q_cM q_AM (q_uI q_IM 0 39 0) q_J0, 34, 31630)) rfl rfl ?_ ?_
                      · refine q_Ca_of (Nat.le_of_ble_eq_true rfl) ?_
                        refine q_Ru_seg (g2 := (15, [(0, .int 47), (1, .int 12), (2, .int 15)], [.int 0], (q_cM q_AM (q_uI q_IM 0 39 0) q_J0, 34, 31630))) 7 (fun _ _ => rfl) ?_
                        exact q_Ru_ret rfl rfl
                      show q_Ru _ _ _ (33, [(0, .ref 64), (1, .int 47)], [.int 0], (q_cM q_AM (q_uI q_IM 0 39 0) q_J0, 34, 31630)) _
                      refine q_Ru_seg (g2 := (190, [(0, .ref 64), (1, .int 47)], [.int 0], (q_cM q_AM (q_uI q_IM 0 39 0) q_J0, 34, 31630))) 18 (fun _ _ => rfl) ?_
                      exact q_Ru_ret rfl rfl
                    show q_Ru _ _ _ (22, [(0, .ref 64), (1, .int 3887)], [.int 0], (q_cM q_AM (q_uI q_IM 0 39 0) q_J0, 34, 31630)) _
                    exact q_Ru_ret rfl rfl
                  show q_Ru _ _ _ (37, [(0, .ref 64), (1, .int 3887), (2, .int v)], [.int 0], (q_cM q_AM (q_uI q_IM 0 39 0) q_J0, 34, 31630)) _
                  refine q_Ru_seg (g2 := (41, [(3, .int 0), (0, .ref 64), (1, .int 3887), (2, .int v)], [.int v, .int 3887, .ref 64], (q_cM q_AM (q_uI q_IM 0 39 0) q_J0, 34, 31630))) 4 (fun _ _ => rfl) ?_
                  refine q_Ru_call (v := none) (h2 := (q_cM A128 (q_uI q_IM 0 39 0) q_J0, 34, 31630)) rfl rfl ?_ ?_
                  · exact p128.le (Nat.le_of_ble_eq_true rfl)
                  show q_Ru _ _ _ (44, [(3, .int 0), (0, .ref 64), (1, .int 3887), (2, .int v)], [], (q_cM A128 (q_uI q_IM 0 39 0) q_J0, 34, 31630)) _
                  refine q_Ru_seg (g2 := (45, [(3, .int 0), (0, .ref 64), (1, .int 3887), (2, .int v)], [.ref 64], (q_cM A128 (q_uI q_IM 0 39 0) q_J0, 34, 31630))) 1 (fun _ _ => rfl) ?_
                  refine q_Ru_call (v := none) (h2 := (q_cM A128 (q_uI q_IM 0 39 0) q_J0, 34, 31630)) rfl rfl ?_ ?_
                  · refine q_Ca_of (Nat.le_of_ble_eq_true rfl) ?_
                    refine q_Ru_seg (g2 := (17, [(0, .ref 64)], [], (q_cM A128 (q_uI q_IM 0 39 0) q_J0, 34, 31630))) 3 (fun _ _ => rfl) ?_
                    exact q_Ru_ret rfl rfl
                  show q_Ru _ _ _ (48, [(3, .int 0), (0, .ref 64), (1, .int 3887), (2, .int v)], [], (q_cM A128 (q_uI q_IM 0 39 0) q_J0, 34, 31630)) _
                  refine q_Ru_seg (g2 := (49, [(3, .int 0), (0, .ref 64), (1, .int 3887), (2, .int v)], [.int 0], (q_cM A128 (q_uI q_IM 0 39 0) q_J0, 34, 31630))) 1 (fun _ _ => rfl) ?_
                  exact q_Ru_ret rfl rfl
              | j249 + 48, g249, _ => exact absurd g249 (by omega)
            | false =>
              cases h250 : decide (4095 < a) with
              | true =>
                exact q_no (q_lo2 h250) (q_hi1 h232) (by decide)
              | false =>
                cases h251 : decide (a < 3840) with
                | true =>
                  exact q_no (q_sub_lo 3888 (q_lo1 h248) (q_sub_lo 3840 (q_lo1 h237) (q_lo1 h231) (q_hi1 h232)) (q_hi1 h232)) (q_hi1 h251) (by decide)
                | false =>
                  cases h252 : decide (3887 < a) with
                  | true =>
                    cases h253 : decide (a < 3072) with
                    | true =>
                      exact q_no (q_sub_lo 3888 (q_lo1 h248) (q_sub_lo 3840 (q_lo1 h237) (q_lo1 h231) (q_hi1 h232)) (q_hi1 h232)) (q_hi1 h253) (by decide)
                    | false =>
                      cases h254 : decide (3583 < a) with
                      | true =>
                        cases h255 : decide (a < 2048) with
                        | true =>
                          exact q_no (q_sub_lo 3888 (q_lo1 h248) (q_sub_lo 3840 (q_lo1 h237) (q_lo1 h231) (q_hi1 h232)) (q_hi1 h232)) (q_hi1 h255) (by decide)
                        | false =>
                          cases h256 : decide (2559 < a) with
                          | true =>
                            obtain ⟨A137, I137, p137⟩ := q_p_write q_AX q_IX (40) (26520) a v
                            obtain ⟨A138, p138⟩ := q_p_writes q_AM (q_uI q_IM 0 39 0) (34) (31630) a v (Int.le_trans (by decide) (q_sub_lo 3888 (q_lo1 h248) (q_sub_lo 3840 (q_lo1 h237) (q_lo1 h231) (q_hi1 h232)) (q_hi1 h232))) (q_hi1 h232)
                            refine ⟨0, 0, 0, ⟨(q_cX A137 I137 (q_uA q_J0 39 (vp_updL (fun _ => 0) 0 0)), 40, 26520), (q_uA q_J0 39 (vp_updL (fun _ => 0) 0 0)) 39, ?_, rfl, fun _ => rfl, Nat.le_of_ble_eq_true rfl, Nat.le_of_ble_eq_true rfl⟩, ⟨(q_cM A138 (q_uI q_IM 0 39 0) q_J0, 34, 31630), _, ?_, rfl, rfl, Nat.le_of_ble_eq_true rfl, Nat.le_of_ble_eq_true rfl⟩, fun _ => rfl⟩
                            · refine q_Ca_of (Nat.le_of_ble_eq_true rfl) ?_
                              refine q_Ru_seg (g2 := (5, [(0, .ref 64), (1, .int a), (2, .int v), (3, .ref 103)], [.int v, .int a, .ref 64, .int 0, .ref 103], (q_cX q_AX q_IX q_J0, 40, 26520))) 5 (fun _ _ => rfl) ?_
                              refine q_Ru_call (v := (some (.int 0))) (h2 := (q_cX A137 I137 q_J0, 40, 26520)) rfl rfl ?_ ?_
                              · refine q_Ca_of (Nat.le_of_ble_eq_true rfl) ?_
                                refine q_Ru_seg (g2 := (1, [(0, .ref 64), (1, .int a), (2, .int v)], [.int a], (q_cX q_AX q_IX q_J0, 40, 26520))) 1 (fun _ _ => rfl) ?_
                                refine q_Ru_call (v := none) (h2 := (q_cX q_AX q_IX q_J0, 40, 26520)) rfl rfl ?_ ?_
                                · refine q_Ca_of (Nat.le_of_ble_eq_true rfl) ?_
                                  refine q_Ru_seg (g2 := (4, [(0, .int a)], [.int 4096, .int a], (q_cX q_AX q_IX q_J0, 40, 26520))) 2 (fun _ _ => rfl) ?_
                                  refine q_Ru_call (v := none) (h2 := (q_cX q_AX q_IX q_J0, 40, 26520)) rfl rfl ?_ ?_
                                  · refine q_Ca_of (Nat.le_of_ble_eq_true rfl) ?_
                                    refine q_Ru_seg (g2 := (1, [(0, .int a), (1, .int 4096)], [.int a], (q_cX q_AX q_IX q_J0, 40, 26520))) 1 (fun _ _ => rfl) ?_
                                    refine q_Ru_rsF (g2 := (4, [(0, .int a), (1, .int 4096)], [], (q_cX q_AX q_IX q_J0, 40, 26520))) rfl rfl h231 ?_
                                    refine q_Ru_seg (g2 := (6, [(0, .int a), (1, .int 4096)], [.int 4096, .int a], (q_cX q_AX q_IX q_J0, 40, 26520))) 2 (fun _ _ => rfl) ?_
                                    refine q_Ru_rsT (g2 := (19, [(0, .int a), (1, .int 4096)], [], (q_cX q_AX q_IX q_J0, 40, 26520))) rfl rfl h232 ?_
                                    exact q_Ru_ret rfl rfl
                                  show q_Ru _ _ _ (7, [(0, .int a)], [], (q_cX q_AX q_IX q_J0, 40, 26520)) _
                                  exact q_Ru_ret rfl rfl
                                show q_Ru _ _ _ (4, [(0, .ref 64), (1, .int a), (2, .int v)], [], (q_cX q_AX q_IX q_J0, 40, 26520)) _
                                refine q_Ru_seg (g2 := (5, [(0, .ref 64), (1, .int a), (2, .int v)], [.int v], (q_cX q_AX q_IX q_J0, 40, 26520))) 1 (fun _ _ => rfl) ?_
                                refine q_Ru_call (v := none) (h2 := (q_cX q_AX q_IX q_J0, 40, 26520)) rfl rfl ?_ ?_
                                · refine q_Ca_of (Nat.le_of_ble_eq_true rfl) ?_
                                  refine q_Ru_seg (g2 := (5, [(0, .int v)], [.int 255, .int 0, .int v], (q_cX q_AX q_IX q_J0, 40, 26520))) 3 (fun _ _ => rfl) ?_
                                  refine q_Ru_call (v := none) (h2 := (q_cX q_AX q_IX q_J0, 40, 26520)) rfl rfl ?_ ?_
                                  · refine q_Ca_of (Nat.le_of_ble_eq_true rfl) ?_
                                    refine q_Ru_seg (g2 := (2, [(0, .int v), (1, .int 0), (2, .int 255)], [.int 0, .int v], (q_cX q_AX q_IX q_J0, 40, 26520))) 2 (fun _ _ => rfl) ?_
                                    refine q_Ru_rsF (g2 := (5, [(0, .int v), (1, .int 0), (2, .int 255)], [], (q_cX q_AX q_IX q_J0, 40, 26520))) rfl rfl h233 ?_
                                    refine q_Ru_seg (g2 := (7, [(0, .int v), (1, .int 0), (2, .int 255)], [.int 255, .int v], (q_cX q_AX q_IX q_J0, 40, 26520))) 2 (fun _ _ => rfl) ?_
                                    refine q_Ru_rsT (g2 := (20, [(0, .int v), (1, .int 0), (2, .int 255)], [], (q_cX q_AX q_IX q_J0, 40, 26520))) rfl rfl (q_d_geF h235) ?_
                                    exact q_Ru_ret rfl rfl
                                  show q_Ru _ _ _ (8, [(0, .int v)], [], (q_cX q_AX q_IX q_J0, 40, 26520)) _
                                  exact q_Ru_ret rfl rfl
                                show q_Ru _ _ _ (8, [(0, .ref 64), (1, .int a), (2, .int v)], [], (q_cX q_AX q_IX q_J0, 40, 26520)) _
                                refine q_Ru_seg (g2 := (13, [(0, .ref 64), (1, .int a), (2, .int v)], [.int 0, .int v, .int a, .int 0, .ref 64], (q_cX q_AX q_IX q_J0, 40, 26520))) 5 (fun _ _ => rfl) ?_
                                refine q_Ru_call (v := none) (h2 := (q_cX q_AX q_IX q_J0, 40, 26520)) rfl rfl ?_ ?_
                                · refine q_Ca_of (Nat.le_of_ble_eq_true rfl) ?_
                                  refine q_Ru_seg (g2 := (19, [(0, .ref 64), (1, .int 0), (2, .int a), (3, .int v), (4, .int 0)], [], (q_cX q_AX q_IX q_J0, 40, 26520))) 3 (fun _ _ => rfl) ?_
                                  exact q_Ru_ret rfl rfl
                                show q_Ru _ _ _ (16, [(0, .ref 64), (1, .int a), (2, .int v)], [], (q_cX q_AX q_IX q_J0, 40, 26520)) _
                                refine q_Ru_seg (g2 := (24, [(0, .ref 64), (1, .int a), (2, .int v)], [.int 0, .int v, .int a, .int 0, .ref 65], (q_cX q_AX q_IX q_J0, 40, 26520))) 6 (fun _ _ => rfl) ?_
                                refine q_Ru_call (v := (some (.int 0))) (h2 := (q_cX A137 I137 q_J0, 40, 26520)) rfl rfl ?_ ?_
                                · refine q_Ca_of (Nat.le_of_ble_eq_true rfl) ?_
                                  refine q_Ru_seg (g2 := (74, [(0, .ref 65), (1, .int 0), (2, .int a), (3, .int v), (4, .int 0)], [.int v, .int a, .ref 66], (q_cX q_AX q_IX q_J0, 40, 26520))) 6 (fun _ _ => rfl) ?_
                                  refine q_Ru_call (v := (some (.int 0))) (h2 := (q_cX A137 I137 q_J0, 40, 26520)) rfl rfl ?_ ?_
                                  · refine q_Ca_of (Nat.le_of_ble_eq_true rfl) ?_
                                    refine q_Ru_seg (g2 := (2, [(0, .ref 66), (1, .int a), (2, .int v)], [.int a, .ref 66], (q_cX q_AX q_IX q_J0, 40, 26520))) 2 (fun _ _ => rfl) ?_
                                    refine q_Ru_call (v := (some (.int 0))) (h2 := (q_cX q_AX q_IX q_J0, 40, 26520)) rfl rfl ?_ ?_
                                    · refine q_Ca_of (Nat.le_of_ble_eq_true rfl) ?_
                                      refine q_Ru_seg (g2 := (7, [(2, .int (a - 3840)), (0, .ref 66), (1, .int a)], [.int (a - 3840)], (q_cX q_AX q_IX q_J0, 40, 26520))) 5 (fun _ _ => rfl) ?_
                                      refine q_Ru_rsF (g2 := (10, [(2, .int (a - 3840)), (0, .ref 66), (1, .int a)], [], (q_cX q_AX q_IX q_J0, 40, 26520))) rfl rfl h237 ?_
                                      refine q_Ru_seg (g2 := (13, [(2, .int (a - 3840)), (0, .ref 66), (1, .int a)], [.int 48, .int (a - 3840)], (q_cX q_AX q_IX q_J0, 40, 26520))) 2 (fun _ _ => rfl) ?_
                                      refine q_Ru_rsT (g2 := (31, [(2, .int (a - 3840)), (0, .ref 66), (1, .int a)], [], (q_cX q_AX q_IX q_J0, 40, 26520))) rfl rfl (q_d_geF h248) ?_
                                      refine q_Ru_seg (g2 := (127, [(3, .int 0), (2, .int (a - 3840)), (0, .ref 66), (1, .int a)], [.int (a &&& 4095), .ref 68], (q_cX q_AX q_IX q_J0, 40, 26520))) 22 (fun _ _ => rfl) ?_
                                      refine q_Ru_rsT (g2 := (128, [(3, .int 0), (2, .int (a - 3840)), (0, .ref 66), (1, .int a)], [.int 0], (q_cX q_AX q_IX q_J0, 40, 26520))) rfl rfl (q_in_bd (x := a &&& 4095) (n := 4096) (U := 4095) (L := 0) (q_and_lo a 4095) (q_and_hi a 4095 4095)) ?_
                                      exact q_Ru_ret rfl rfl
                                    show q_Ru _ _ _ (5, [(0, .ref 66), (1, .int a), (2, .int v)], [.int 0], (q_cX q_AX q_IX q_J0, 40, 26520)) _
                                    refine q_Ru_seg (g2 := (9, [(3, .int 0), (0, .ref 66), (1, .int a), (2, .int v)], [.int v, .int a, .ref 66], (q_cX q_AX q_IX q_J0, 40, 26520))) 4 (fun _ _ => rfl) ?_
                                    refine q_Ru_call (v := none) (h2 := (q_cX A137 I137 q_J0, 40, 26520)) rfl rfl ?_ ?_
                                    · exact p137.le (Nat.le_of_ble_eq_true rfl)
                                    show q_Ru _ _ _ (12, [(3, .int 0), (0, .ref 66), (1, .int a), (2, .int v)], [], (q_cX A137 I137 q_J0, 40, 26520)) _
                                    refine q_Ru_seg (g2 := (13, [(3, .int 0), (0, .ref 66), (1, .int a), (2, .int v)], [.int 0], (q_cX A137 I137 q_J0, 40, 26520))) 1 (fun _ _ => rfl) ?_
                                    exact q_Ru_ret rfl rfl
                                  show q_Ru _ _ _ (77, [(0, .ref 65), (1, .int 0), (2, .int a), (3, .int v), (4, .int 0)], [.int 0], (q_cX A137 I137 q_J0, 40, 26520)) _
                                  exact q_Ru_ret rfl rfl
                                show q_Ru _ _ _ (27, [(0, .ref 64), (1, .int a), (2, .int v)], [.int 0], (q_cX A137 I137 q_J0, 40, 26520)) _
                                exact q_Ru_ret rfl rfl
                              show q_Ru _ _ _ (8, [(0, .ref 64), (1, .int a), (2, .int v), (3, .ref 103)], [.int 0, .int 0, .ref 103], (q_cX A137 I137 q_J0, 40, 26520)) _
                              refine q_Ru_seg (g2 := (22, [(0, .ref 64), (1, .int a), (2, .int v), (3, .ref 103)], [.int 0], (q_cX A137 I137 (q_uA q_J0 39 (vp_updL (fun _ => 0) 0 0)), 40, 26520))) 4 (fun _ _ => rfl) ?_
                              exact q_Ru_ret rfl rfl
                            · refine q_Ca_of (Nat.le_of_ble_eq_true rfl) ?_
                              refine q_Ru_seg (g2 := (2, [(0, .ref 64), (1, .int a), (2, .int v)], [.int a, .ref 64], (q_cM q_AM q_IM q_J0, 34, 31630))) 2 (fun _ _ => rfl) ?_
                              refine q_Ru_call (v := (some (.int 0))) (h2 := (q_cM q_AM q_IM q_J0, 34, 31630)) rfl rfl ?_ ?_
                              · refine q_Ca_of (Nat.le_of_ble_eq_true rfl) ?_
                                refine q_Ru_seg (g2 := (5, [(0, .int a)], [.int 4095, .int 0, .int a], (q_cM q_AM q_IM q_J0, 34, 31630))) 3 (fun _ _ => rfl) ?_
                                refine q_Ru_call (v := (some (.int 1))) (h2 := (q_cM q_AM q_IM q_J0, 34, 31630)) rfl rfl ?_ ?_
                                · refine q_Ca_of (Nat.le_of_ble_eq_true rfl) ?_
                                  refine q_Ru_seg (g2 := (2, [(0, .int a), (1, .int 0), (2, .int 4095)], [.int 0, .int a], (q_cM q_AM q_IM q_J0, 34, 31630))) 2 (fun _ _ => rfl) ?_
                                  refine q_Ru_rsF (g2 := (5, [(0, .int a), (1, .int 0), (2, .int 4095)], [], (q_cM q_AM q_IM q_J0, 34, 31630))) rfl rfl h231 ?_
                                  refine q_Ru_seg (g2 := (7, [(0, .int a), (1, .int 0), (2, .int 4095)], [.int 4095, .int a], (q_cM q_AM q_IM q_J0, 34, 31630))) 2 (fun _ _ => rfl) ?_
                                  refine q_Ru_rsF (g2 := (10, [(0, .int a), (1, .int 0), (2, .int 4095)], [], (q_cM q_AM q_IM q_J0, 34, 31630))) rfl rfl h250 ?_
                                  refine q_Ru_seg (g2 := (15, [(0, .int a), (1, .int 0), (2, .int 4095)], [.int 1], (q_cM q_AM q_IM q_J0, 34, 31630))) 2 (fun _ _ => rfl) ?_
                                  exact q_Ru_ret rfl rfl
                                show q_Ru _ _ _ (8, [(0, .int a)], [.int 1], (q_cM q_AM q_IM q_J0, 34, 31630)) _
                                refine q_Ru_seg (g2 := (16, [(0, .int a)], [.int 0], (q_cM q_AM q_IM q_J0, 34, 31630))) 2 (fun _ _ => rfl) ?_
                                exact q_Ru_ret rfl rfl
                              show q_Ru _ _ _ (5, [(0, .ref 64), (1, .int a), (2, .int v)], [.int 0, .ref 64], (q_cM q_AM q_IM q_J0, 34, 31630)) _
                              refine q_Ru_seg (g2 := (13, [(0, .ref 64), (1, .int a), (2, .int v)], [.int v, .ref 64], (q_cM q_AM q_IM q_J0, 34, 31630))) 2 (fun _ _ => rfl) ?_
                              refine q_Ru_call (v := (some (.int 0))) (h2 := (q_cM q_AM q_IM q_J0, 34, 31630)) rfl rfl ?_ ?_
                              · refine q_Ca_of (Nat.le_of_ble_eq_true rfl) ?_
                                refine q_Ru_seg (g2 := (5, [(0, .int v)], [.int 255, .int 0, .int v], (q_cM q_AM q_IM q_J0, 34, 31630))) 3 (fun _ _ => rfl) ?_
                                refine q_Ru_call (v := (some (.int 1))) (h2 := (q_cM q_AM q_IM q_J0, 34, 31630)) rfl rfl ?_ ?_
                                · refine q_Ca_of (Nat.le_of_ble_eq_true rfl) ?_
                                  refine q_Ru_seg (g2 := (2, [(0, .int v), (1, .int 0), (2, .int 255)], [.int 0, .int v], (q_cM q_AM q_IM q_J0, 34, 31630))) 2 (fun _ _ => rfl) ?_
                                  refine q_Ru_rsF (g2 := (5, [(0, .int v), (1, .int 0), (2, .int 255)], [], (q_cM q_AM q_IM q_J0, 34, 31630))) rfl rfl h233 ?_
                                  refine q_Ru_seg (g2 := (7, [(0, .int v), (1, .int 0), (2, .int 255)], [.int 255, .int v], (q_cM q_AM q_IM q_J0, 34, 31630))) 2 (fun _ _ => rfl) ?_
                                  refine q_Ru_rsF (g2 := (10, [(0, .int v), (1, .int 0), (2, .int 255)], [], (q_cM q_AM q_IM q_J0, 34, 31630))) rfl rfl h235 ?_
                                  refine q_Ru_seg (g2 := (15, [(0, .int v), (1, .int 0), (2, .int 255)], [.int 1], (q_cM q_AM q_IM q_J0, 34, 31630))) 2 (fun _ _ => rfl) ?_
                                  exact q_Ru_ret rfl rfl
                                show q_Ru _ _ _ (8, [(0, .int v)], [.int 1], (q_cM q_AM q_IM q_J0, 34, 31630)) _
                                refine q_Ru_seg (g2 := (16, [(0, .int v)], [.int 0], (q_cM q_AM q_IM q_J0, 34, 31630))) 2 (fun _ _ => rfl) ?_
                                exact q_Ru_ret rfl rfl
                              show q_Ru _ _ _ (16, [(0, .ref 64), (1, .int a), (2, .int v)], [.int 0, .ref 64], (q_cM q_AM q_IM q_J0, 34, 31630)) _
                              refine q_Ru_seg (g2 := (24, [(0, .ref 64), (1, .int a), (2, .int v)], [.int 0, .ref 64], (q_cM q_AM q_IM q_J0, 34, 31630))) 2 (fun _ _ => rfl) ?_
                              refine q_Ru_call (v := (some (.int 0))) (h2 := (q_cM q_AM (q_uI q_IM 0 39 0) q_J0, 34, 31630)) rfl rfl ?_ ?_
                              · refine q_Ca_of (Nat.le_of_ble_eq_true rfl) ?_
                                refine q_Ru_seg (g2 := (14, [(0, .ref 64), (1, .int 0)], [.int 0], (q_cM q_AM (q_uI q_IM 0 39 0) q_J0, 34, 31630))) 6 (fun _ _ => rfl) ?_
                                exact q_Ru_ret rfl rfl
                              show q_Ru _ _ _ (27, [(0, .ref 64), (1, .int a), (2, .int v)], [.int 0], (q_cM q_AM (q_uI q_IM 0 39 0) q_J0, 34, 31630)) _
                              refine q_Ru_seg (g2 := (34, [(0, .ref 64), (1, .int a), (2, .int v)], [.int a, .ref 64], (q_cM q_AM (q_uI q_IM 0 39 0) q_J0, 34, 31630))) 3 (fun _ _ => rfl) ?_
                              refine q_Ru_call (v := (some (.int 0))) (h2 := (q_cM q_AM (q_uI q_IM 0 39 0) q_J0, 34, 31630)) rfl rfl ?_ ?_
                              · refine q_Ca_of (Nat.le_of_ble_eq_true rfl) ?_
                                refine q_Ru_seg (g2 := (7, [(0, .ref 64), (1, .int a)], [.int 3887, .int 3840, .int a], (q_cM q_AM (q_uI q_IM 0 39 0) q_J0, 34, 31630))) 3 (fun _ _ => rfl) ?_
                                refine q_Ru_call (v := (some (.int 0))) (h2 := (q_cM q_AM (q_uI q_IM 0 39 0) q_J0, 34, 31630)) rfl rfl ?_ ?_
                                · refine q_Ca_of (Nat.le_of_ble_eq_true rfl) ?_
                                  refine q_Ru_seg (g2 := (2, [(0, .int a), (1, .int 3840), (2, .int 3887)], [.int 3840, .int a], (q_cM q_AM (q_uI q_IM 0 39 0) q_J0, 34, 31630))) 2 (fun _ _ => rfl) ?_
                                  refine q_Ru_rsF (g2 := (5, [(0, .int a), (1, .int 3840), (2, .int 3887)], [], (q_cM q_AM (q_uI q_IM 0 39 0) q_J0, 34, 31630))) rfl rfl h251 ?_
                                  refine q_Ru_seg (g2 := (7, [(0, .int a), (1, .int 3840), (2, .int 3887)], [.int 3887, .int a], (q_cM q_AM (q_uI q_IM 0 39 0) q_J0, 34, 31630))) 2 (fun _ _ => rfl) ?_
                                  refine q_Ru_rsT (g2 := (14, [(0, .int a), (1, .int 3840), (2, .int 3887)], [], (q_cM q_AM (q_uI q_IM 0 39 0) q_J0, 34, 31630))) rfl rfl h252 ?_
                                  refine q_Ru_seg (g2 := (15, [(0, .int a), (1, .int 3840), (2, .int 3887)], [.int 0], (q_cM q_AM (q_uI q_IM 0 39 0) q_J0, 34, 31630))) 1 (fun _ _ => rfl) ?_
                                  exact q_Ru_ret rfl rfl
                                show q_Ru _ _ _ (10, [(0, .ref 64), (1, .int a)], [.int 0], (q_cM q_AM (q_uI q_IM 0 39 0) q_J0, 34, 31630)) _
                                refine q_Ru_seg (g2 := (30, [(0, .ref 64), (1, .int a)], [.int 3583, .int 3072, .int a], (q_cM q_AM (q_uI q_IM 0 39 0) q_J0, 34, 31630))) 4 (fun _ _ => rfl) ?_
                                refine q_Ru_call (v := (some (.int 0))) (h2 := (q_cM q_AM (q_uI q_IM 0 39 0) q_J0, 34, 31630)) rfl rfl ?_ ?_
                                · refine q_Ca_of (Nat.le_of_ble_eq_true rfl) ?_
                                  refine q_Ru_seg (g2 := (2, [(0, .int a), (1, .int 3072), (2, .int 3583)], [.int 3072, .int a], (q_cM q_AM (q_uI q_IM 0 39 0) q_J0, 34, 31630))) 2 (fun _ _ => rfl) ?_
                                  refine q_Ru_rsF (g2 := (5, [(0, .int a), (1, .int 3072), (2, .int 3583)], [], (q_cM q_AM (q_uI q_IM 0 39 0) q_J0, 34, 31630))) rfl rfl h253 ?_
                                  refine q_Ru_seg (g2 := (7, [(0, .int a), (1, .int 3072), (2, .int 3583)], [.int 3583, .int a], (q_cM q_AM (q_uI q_IM 0 39 0) q_J0, 34, 31630))) 2 (fun _ _ => rfl) ?_
                                  refine q_Ru_rsT (g2 := (14, [(0, .int a), (1, .int 3072), (2, .int 3583)], [], (q_cM q_AM (q_uI q_IM 0 39 0) q_J0, 34, 31630))) rfl rfl h254 ?_
                                  refine q_Ru_seg (g2 := (15, [(0, .int a), (1, .int 3072), (2, .int 3583)], [.int 0], (q_cM q_AM (q_uI q_IM 0 39 0) q_J0, 34, 31630))) 1 (fun _ _ => rfl) ?_
                                  exact q_Ru_ret rfl rfl
                                show q_Ru _ _ _ (33, [(0, .ref 64), (1, .int a)], [.int 0], (q_cM q_AM (q_uI q_IM 0 39 0) q_J0, 34, 31630)) _
                                refine q_Ru_seg (g2 := (67, [(0, .ref 64), (1, .int a)], [.int 2559, .int 2048, .int a], (q_cM q_AM (q_uI q_IM 0 39 0) q_J0, 34, 31630))) 4 (fun _ _ => rfl) ?_
                                refine q_Ru_call (v := (some (.int 0))) (h2 := (q_cM q_AM (q_uI q_IM 0 39 0) q_J0, 34, 31630)) rfl rfl ?_ ?_
                                · refine q_Ca_of (Nat.le_of_ble_eq_true rfl) ?_
                                  refine q_Ru_seg (g2 := (2, [(0, .int a), (1, .int 2048), (2, .int 2559)], [.int 2048, .int a], (q_cM q_AM (q_uI q_IM 0 39 0) q_J0, 34, 31630))) 2 (fun _ _ => rfl) ?_
                                  refine q_Ru_rsF (g2 := (5, [(0, .int a), (1, .int 2048), (2, .int 2559)], [], (q_cM q_AM (q_uI q_IM 0 39 0) q_J0, 34, 31630))) rfl rfl h255 ?_
                                  refine q_Ru_seg (g2 := (7, [(0, .int a), (1, .int 2048), (2, .int 2559)], [.int 2559, .int a], (q_cM q_AM (q_uI q_IM 0 39 0) q_J0, 34, 31630))) 2 (fun _ _ => rfl) ?_
                                  refine q_Ru_rsT (g2 := (14, [(0, .int a), (1, .int 2048), (2, .int 2559)], [], (q_cM q_AM (q_uI q_IM 0 39 0) q_J0, 34, 31630))) rfl rfl h256 ?_
                                  refine q_Ru_seg (g2 := (15, [(0, .int a), (1, .int 2048), (2, .int 2559)], [.int 0], (q_cM q_AM (q_uI q_IM 0 39 0) q_J0, 34, 31630))) 1 (fun _ _ => rfl) ?_
                                  exact q_Ru_ret rfl rfl
                                show q_Ru _ _ _ (70, [(0, .ref 64), (1, .int a)], [.int 0], (q_cM q_AM (q_uI q_IM 0 39 0) q_J0, 34, 31630)) _
                                refine q_Ru_seg (g2 := (115, [(0, .ref 64), (1, .int a)], [.int a, .ref 65], (q_cM q_AM (q_uI q_IM 0 39 0) q_J0, 34, 31630))) 4 (fun _ _ => rfl) ?_
                                refine q_Ru_rsT (g2 := (116, [(0, .ref 64), (1, .int a)], [.int 0], (q_cM q_AM (q_uI q_IM 0 39 0) q_J0, 34, 31630))) rfl rfl (q_in_bd (x := a) (n := 4096) (U := 4095) (L := 3888) (q_sub_lo 3888 (q_lo1 h248) (q_sub_lo 3840 (q_lo1 h237) (q_lo1 h231) (q_hi1 h232)) (q_hi1 h232)) (q_hi1 h232)) ?_
                                exact q_Ru_ret rfl rfl
                              show q_Ru _ _ _ (37, [(0, .ref 64), (1, .int a), (2, .int v)], [.int 0], (q_cM q_AM (q_uI q_IM 0 39 0) q_J0, 34, 31630)) _
                              refine q_Ru_seg (g2 := (41, [(3, .int 0), (0, .ref 64), (1, .int a), (2, .int v)], [.int v, .int a, .ref 64], (q_cM q_AM (q_uI q_IM 0 39 0) q_J0, 34, 31630))) 4 (fun _ _ => rfl) ?_
                              refine q_Ru_call (v := none) (h2 := (q_cM A138 (q_uI q_IM 0 39 0) q_J0, 34, 31630)) rfl rfl ?_ ?_
                              · exact p138.le (Nat.le_of_ble_eq_true rfl)
                              show q_Ru _ _ _ (44, [(3, .int 0), (0, .ref 64), (1, .int a), (2, .int v)], [], (q_cM A138 (q_uI q_IM 0 39 0) q_J0, 34, 31630)) _
                              refine q_Ru_seg (g2 := (45, [(3, .int 0), (0, .ref 64), (1, .int a), (2, .int v)], [.ref 64], (q_cM A138 (q_uI q_IM 0 39 0) q_J0, 34, 31630))) 1 (fun _ _ => rfl) ?_
                              refine q_Ru_call (v := none) (h2 := (q_cM A138 (q_uI q_IM 0 39 0) q_J0, 34, 31630)) rfl rfl ?_ ?_
                              · refine q_Ca_of (Nat.le_of_ble_eq_true rfl) ?_
                                refine q_Ru_seg (g2 := (17, [(0, .ref 64)], [], (q_cM A138 (q_uI q_IM 0 39 0) q_J0, 34, 31630))) 3 (fun _ _ => rfl) ?_
                                exact q_Ru_ret rfl rfl
                              show q_Ru _ _ _ (48, [(3, .int 0), (0, .ref 64), (1, .int a), (2, .int v)], [], (q_cM A138 (q_uI q_IM 0 39 0) q_J0, 34, 31630)) _
                              refine q_Ru_seg (g2 := (49, [(3, .int 0), (0, .ref 64), (1, .int a), (2, .int v)], [.int 0], (q_cM A138 (q_uI q_IM 0 39 0) q_J0, 34, 31630))) 1 (fun _ _ => rfl) ?_
                              exact q_Ru_ret rfl rfl
                          | false =>
                            exact q_no (q_sub_lo 3888 (q_lo1 h248) (q_sub_lo 3840 (q_lo1 h237) (q_lo1 h231) (q_hi1 h232)) (q_hi1 h232)) (q_hi2 h256) (by decide)
                      | false =>
                        exact q_no (q_sub_lo 3888 (q_lo1 h248) (q_sub_lo 3840 (q_lo1 h237) (q_lo1 h231) (q_hi1 h232)) (q_hi1 h232)) (q_hi2 h254) (by decide)
                  | false =>
                    exact q_no (q_sub_lo 3888 (q_lo1 h248) (q_sub_lo 3840 (q_lo1 h237) (q_lo1 h231) (q_hi1 h232)) (q_hi1 h232)) (q_hi2 h252) (by decide)
    | false =>
      cases h257 : decide (4095 < a) with
      | true =>
        refine ⟨1, 0, 0, ⟨(q_cX q_AX q_IX q_J0, 40 + 1, 26520 + 6), q_J0 39, ?_, rfl, fun h => absurd h (by decide), Nat.le_of_ble_eq_true rfl, Nat.le_of_ble_eq_true rfl⟩, ⟨(q_cM q_AM (q_uI q_IM 0 39 1) q_J0, 34, 31630), _, ?_, rfl, rfl, Nat.le_of_ble_eq_true rfl, Nat.le_of_ble_eq_true rfl⟩, fun h => absurd h (by decide)⟩
        · refine q_Ca_of (Nat.le_of_ble_eq_true rfl) ?_
          refine q_Ru_seg (g2 := (5, [(0, .ref 64), (1, .int a), (2, .int v), (3, .ref 103)], [.int v, .int a, .ref 64, .int 0, .ref 103], (q_cX q_AX q_IX q_J0, 40, 26520))) 5 (fun _ _ => rfl) ?_
          refine q_Ru_callH (E := "java/lang/IndexOutOfBoundsException") (tg := 15) (i := 4) (h2 := (q_cX q_AX q_IX q_J0, 40 + 1, 26520 + 6)) rfl rfl ?_ rfl ?_
          · refine q_Ca_of (Nat.le_of_ble_eq_true rfl) ?_
            refine q_Ru_seg (g2 := (1, [(0, .ref 64), (1, .int a), (2, .int v)], [.int a], (q_cX q_AX q_IX q_J0, 40, 26520))) 1 (fun _ _ => rfl) ?_
            refine q_Ru_callX (E := "java/lang/IndexOutOfBoundsException") (h2 := (q_cX q_AX q_IX q_J0, 40 + 1, 26520 + 6)) rfl rfl ?_
            refine q_Ca_of (Nat.le_of_ble_eq_true rfl) ?_
            refine q_Ru_seg (g2 := (4, [(0, .int a)], [.int 4096, .int a], (q_cX q_AX q_IX q_J0, 40, 26520))) 2 (fun _ _ => rfl) ?_
            refine q_Ru_callX (E := "java/lang/IndexOutOfBoundsException") (h2 := (q_cX q_AX q_IX q_J0, 40 + 1, 26520 + 6)) rfl rfl ?_
            refine q_Ca_of (Nat.le_of_ble_eq_true rfl) ?_
            refine q_Ru_seg (g2 := (1, [(0, .int a), (1, .int 4096)], [.int a], (q_cX q_AX q_IX q_J0, 40, 26520))) 1 (fun _ _ => rfl) ?_
            refine q_Ru_rsF (g2 := (4, [(0, .int a), (1, .int 4096)], [], (q_cX q_AX q_IX q_J0, 40, 26520))) rfl rfl h231 ?_
            refine q_Ru_seg (g2 := (6, [(0, .int a), (1, .int 4096)], [.int 4096, .int a], (q_cX q_AX q_IX q_J0, 40, 26520))) 2 (fun _ _ => rfl) ?_
            refine q_Ru_rsF (g2 := (9, [(0, .int a), (1, .int 4096)], [], (q_cX q_AX q_IX q_J0, 40, 26520))) rfl rfl h232 ?_
            exact q_Ru_thr rfl rfl
          show q_Ru _ _ _ (15, [(0, .ref 64), (1, .int a), (2, .int v), (3, .ref 103)], [], (q_cX q_AX q_IX q_J0, 40 + 1, 26520 + 6)) _
          refine q_Ru_seg (g2 := (16, [(0, .ref 64), (1, .int a), (2, .int v), (3, .ref 103)], [.int 1], (q_cX q_AX q_IX q_J0, 40 + 1, 26520 + 6))) 1 (fun _ _ => rfl) ?_
          exact q_Ru_ret rfl rfl
        · refine q_Ca_of (Nat.le_of_ble_eq_true rfl) ?_
          refine q_Ru_seg (g2 := (2, [(0, .ref 64), (1, .int a), (2, .int v)], [.int a, .ref 64], (q_cM q_AM q_IM q_J0, 34, 31630))) 2 (fun _ _ => rfl) ?_
          refine q_Ru_call (v := (some (.int 1))) (h2 := (q_cM q_AM q_IM q_J0, 34, 31630)) rfl rfl ?_ ?_
          · refine q_Ca_of (Nat.le_of_ble_eq_true rfl) ?_
            refine q_Ru_seg (g2 := (5, [(0, .int a)], [.int 4095, .int 0, .int a], (q_cM q_AM q_IM q_J0, 34, 31630))) 3 (fun _ _ => rfl) ?_
            refine q_Ru_call (v := (some (.int 0))) (h2 := (q_cM q_AM q_IM q_J0, 34, 31630)) rfl rfl ?_ ?_
            · refine q_Ca_of (Nat.le_of_ble_eq_true rfl) ?_
              refine q_Ru_seg (g2 := (2, [(0, .int a), (1, .int 0), (2, .int 4095)], [.int 0, .int a], (q_cM q_AM q_IM q_J0, 34, 31630))) 2 (fun _ _ => rfl) ?_
              refine q_Ru_rsF (g2 := (5, [(0, .int a), (1, .int 0), (2, .int 4095)], [], (q_cM q_AM q_IM q_J0, 34, 31630))) rfl rfl h231 ?_
              refine q_Ru_seg (g2 := (7, [(0, .int a), (1, .int 0), (2, .int 4095)], [.int 4095, .int a], (q_cM q_AM q_IM q_J0, 34, 31630))) 2 (fun _ _ => rfl) ?_
              refine q_Ru_rsT (g2 := (14, [(0, .int a), (1, .int 0), (2, .int 4095)], [], (q_cM q_AM q_IM q_J0, 34, 31630))) rfl rfl h257 ?_
              refine q_Ru_seg (g2 := (15, [(0, .int a), (1, .int 0), (2, .int 4095)], [.int 0], (q_cM q_AM q_IM q_J0, 34, 31630))) 1 (fun _ _ => rfl) ?_
              exact q_Ru_ret rfl rfl
            show q_Ru _ _ _ (8, [(0, .int a)], [.int 0], (q_cM q_AM q_IM q_J0, 34, 31630)) _
            refine q_Ru_seg (g2 := (16, [(0, .int a)], [.int 1], (q_cM q_AM q_IM q_J0, 34, 31630))) 3 (fun _ _ => rfl) ?_
            exact q_Ru_ret rfl rfl
          show q_Ru _ _ _ (5, [(0, .ref 64), (1, .int a), (2, .int v)], [.int 1, .ref 64], (q_cM q_AM q_IM q_J0, 34, 31630)) _
          refine q_Ru_seg (g2 := (24, [(0, .ref 64), (1, .int a), (2, .int v)], [.int 1, .ref 64], (q_cM q_AM q_IM q_J0, 34, 31630))) 3 (fun _ _ => rfl) ?_
          refine q_Ru_call (v := (some (.int 1))) (h2 := (q_cM q_AM (q_uI q_IM 0 39 1) q_J0, 34, 31630)) rfl rfl ?_ ?_
          · refine q_Ca_of (Nat.le_of_ble_eq_true rfl) ?_
            refine q_Ru_seg (g2 := (14, [(0, .ref 64), (1, .int 1)], [.int 1], (q_cM q_AM (q_uI q_IM 0 39 1) q_J0, 34, 31630))) 7 (fun _ _ => rfl) ?_
            exact q_Ru_ret rfl rfl
          show q_Ru _ _ _ (27, [(0, .ref 64), (1, .int a), (2, .int v)], [.int 1], (q_cM q_AM (q_uI q_IM 0 39 1) q_J0, 34, 31630)) _
          refine q_Ru_seg (g2 := (31, [(0, .ref 64), (1, .int a), (2, .int v)], [.int 0], (q_cM q_AM (q_uI q_IM 0 39 1) q_J0, 34, 31630))) 2 (fun _ _ => rfl) ?_
          exact q_Ru_ret rfl rfl
      | false =>
        exact q_no (q_lo1 h232) (q_hi2 h257) (by decide)
