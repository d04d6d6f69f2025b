set_option maxHeartbeats 20000000 in
theorem q_op_ram (a : Int32) : ∃ (r b : Int32) (w : Int64), q_opX 4 [.int a] r w ∧ q_opM 220 [.int a] r (.int b) ∧ (r = 0 → w = b.toInt64) := by
  cases h130 : decide (a < 0) with
  | true =>
    refine ⟨1, 0, 0, ⟨(q_cX q_AX q_IX q_J0, 40 + 1, 26520 + 6), q_J0 39, ?_, rfl, fun h => absurd h (by decide), Nat.le_of_ble_eq_true rfl, Nat.le_of_ble_eq_true rfl⟩, ⟨(q_cM q_AM (q_uI q_IM 0 39 1) q_J0, 34, 31630), _, ?_, rfl, rfl, Nat.le_of_ble_eq_true rfl, Nat.le_of_ble_eq_true rfl⟩, fun h => absurd h (by decide)⟩
    · refine q_Ca_of (Nat.le_of_ble_eq_true rfl) ?_
      refine q_Ru_seg (g2 := (4, [(0, .ref 64), (1, .int a), (2, .ref 103)], [.int a, .ref 64, .int 0, .ref 103], (q_cX q_AX q_IX q_J0, 40, 26520))) 4 (fun _ _ => rfl) ?_
      refine q_Ru_callH (E := "java/lang/IndexOutOfBoundsException") (tg := 13) (i := 3) (h2 := (q_cX q_AX q_IX q_J0, 40 + 1, 26520 + 6)) rfl rfl ?_ rfl ?_
      · refine q_Ca_of (Nat.le_of_ble_eq_true rfl) ?_
        refine q_Ru_seg (g2 := (1, [(0, .ref 64), (1, .int a)], [.int a], (q_cX q_AX q_IX q_J0, 40, 26520))) 1 (fun _ _ => rfl) ?_
        refine q_Ru_callX (E := "java/lang/IndexOutOfBoundsException") (h2 := (q_cX q_AX q_IX q_J0, 40 + 1, 26520 + 6)) rfl rfl ?_
        refine q_Ca_of (Nat.le_of_ble_eq_true rfl) ?_
        refine q_Ru_seg (g2 := (4, [(0, .int a)], [.int 4096, .int a], (q_cX q_AX q_IX q_J0, 40, 26520))) 2 (fun _ _ => rfl) ?_
        refine q_Ru_callX (E := "java/lang/IndexOutOfBoundsException") (h2 := (q_cX q_AX q_IX q_J0, 40 + 1, 26520 + 6)) rfl rfl ?_
        refine q_Ca_of (Nat.le_of_ble_eq_true rfl) ?_
        refine q_Ru_seg (g2 := (1, [(0, .int a), (1, .int 4096)], [.int a], (q_cX q_AX q_IX q_J0, 40, 26520))) 1 (fun _ _ => rfl) ?_
        refine q_Ru_rsT (g2 := (9, [(0, .int a), (1, .int 4096)], [], (q_cX q_AX q_IX q_J0, 40, 26520))) rfl rfl h130 ?_
        exact q_Ru_thr rfl rfl
      show q_Ru _ _ _ (13, [(0, .ref 64), (1, .int a), (2, .ref 103)], [], (q_cX q_AX q_IX q_J0, 40 + 1, 26520 + 6)) _
      refine q_Ru_seg (g2 := (14, [(0, .ref 64), (1, .int a), (2, .ref 103)], [.int 1], (q_cX q_AX q_IX q_J0, 40 + 1, 26520 + 6))) 1 (fun _ _ => rfl) ?_
      exact q_Ru_ret rfl rfl
    · refine q_Ca_of (Nat.le_of_ble_eq_true rfl) ?_
      refine q_Ru_seg (g2 := (2, [(0, .ref 64), (1, .int a)], [.int a, .ref 64], (q_cM q_AM q_IM q_J0, 34, 31630))) 2 (fun _ _ => rfl) ?_
      refine q_Ru_call (v := (some (.int 1))) (h2 := (q_cM q_AM q_IM q_J0, 34, 31630)) rfl rfl ?_ ?_
      · refine q_Ca_of (Nat.le_of_ble_eq_true rfl) ?_
        refine q_Ru_seg (g2 := (5, [(0, .int a)], [.int 4095, .int 0, .int a], (q_cM q_AM q_IM q_J0, 34, 31630))) 3 (fun _ _ => rfl) ?_
        refine q_Ru_call (v := (some (.int 0))) (h2 := (q_cM q_AM q_IM q_J0, 34, 31630)) rfl rfl ?_ ?_
        · refine q_Ca_of (Nat.le_of_ble_eq_true rfl) ?_
          refine q_Ru_seg (g2 := (2, [(0, .int a), (1, .int 0), (2, .int 4095)], [.int 0, .int a], (q_cM q_AM q_IM q_J0, 34, 31630))) 2 (fun _ _ => rfl) ?_
          refine q_Ru_rsT (g2 := (14, [(0, .int a), (1, .int 0), (2, .int 4095)], [], (q_cM q_AM q_IM q_J0, 34, 31630))) rfl rfl h130 ?_
          refine q_Ru_seg (g2 := (15, [(0, .int a), (1, .int 0), (2, .int 4095)], [.int 0], (q_cM q_AM q_IM q_J0, 34, 31630))) 1 (fun _ _ => rfl) ?_
          exact q_Ru_ret rfl rfl
        show q_Ru _ _ _ (8, [(0, .int a)], [.int 0], (q_cM q_AM q_IM q_J0, 34, 31630)) _
        refine q_Ru_seg (g2 := (16, [(0, .int a)], [.int 1], (q_cM q_AM q_IM q_J0, 34, 31630))) 3 (fun _ _ => rfl) ?_
        exact q_Ru_ret rfl rfl
      show q_Ru _ _ _ (5, [(0, .ref 64), (1, .int a)], [.int 1, .ref 64], (q_cM q_AM q_IM q_J0, 34, 31630)) _
      refine q_Ru_seg (g2 := (13, [(0, .ref 64), (1, .int a)], [.int 1, .ref 64], (q_cM q_AM q_IM q_J0, 34, 31630))) 3 (fun _ _ => rfl) ?_
      refine q_Ru_call (v := (some (.int 1))) (h2 := (q_cM q_AM (q_uI q_IM 0 39 1) q_J0, 34, 31630)) rfl rfl ?_ ?_
      · refine q_Ca_of (Nat.le_of_ble_eq_true rfl) ?_
        refine q_Ru_seg (g2 := (14, [(0, .ref 64), (1, .int 1)], [.int 1], (q_cM q_AM (q_uI q_IM 0 39 1) q_J0, 34, 31630))) 7 (fun _ _ => rfl) ?_
        exact q_Ru_ret rfl rfl
      show q_Ru _ _ _ (16, [(0, .ref 64), (1, .int a)], [.int 1], (q_cM q_AM (q_uI q_IM 0 39 1) q_J0, 34, 31630)) _
      refine q_Ru_seg (g2 := (29, [(0, .ref 64), (1, .int a)], [.int 0], (q_cM q_AM (q_uI q_IM 0 39 1) q_J0, 34, 31630))) 3 (fun _ _ => rfl) ?_
      exact q_Ru_ret rfl rfl
  | false =>
    cases h131 : decide (a < 4096) with
    | true =>
      cases h132 : decide (4095 < a) with
      | true =>
        exact q_no (q_lo2 h132) (q_hi1 h131) (by decide)
      | false =>
        refine ⟨0, 0, 0, ⟨(q_cX q_AX q_IX (q_uA q_J0 39 (vp_updL (fun _ => 0) 0 0)), 40, 26520), (q_uA q_J0 39 (vp_updL (fun _ => 0) 0 0)) 39, ?_, rfl, fun _ => rfl, Nat.le_of_ble_eq_true rfl, Nat.le_of_ble_eq_true rfl⟩, ⟨(q_cM q_AM (q_uI q_IM 0 39 0) q_J0, 34, 31630), _, ?_, rfl, rfl, Nat.le_of_ble_eq_true rfl, Nat.le_of_ble_eq_true rfl⟩, fun _ => rfl⟩
        · refine q_Ca_of (Nat.le_of_ble_eq_true rfl) ?_
          refine q_Ru_seg (g2 := (4, [(0, .ref 64), (1, .int a), (2, .ref 103)], [.int a, .ref 64, .int 0, .ref 103], (q_cX q_AX q_IX q_J0, 40, 26520))) 4 (fun _ _ => rfl) ?_
          refine q_Ru_call (v := (some (.int 0))) (h2 := (q_cX q_AX q_IX q_J0, 40, 26520)) rfl rfl ?_ ?_
          · refine q_Ca_of (Nat.le_of_ble_eq_true rfl) ?_
            refine q_Ru_seg (g2 := (1, [(0, .ref 64), (1, .int a)], [.int a], (q_cX q_AX q_IX q_J0, 40, 26520))) 1 (fun _ _ => rfl) ?_
            refine q_Ru_call (v := none) (h2 := (q_cX q_AX q_IX q_J0, 40, 26520)) rfl rfl ?_ ?_
            · refine q_Ca_of (Nat.le_of_ble_eq_true rfl) ?_
              refine q_Ru_seg (g2 := (4, [(0, .int a)], [.int 4096, .int a], (q_cX q_AX q_IX q_J0, 40, 26520))) 2 (fun _ _ => rfl) ?_
              refine q_Ru_call (v := none) (h2 := (q_cX q_AX q_IX q_J0, 40, 26520)) rfl rfl ?_ ?_
              · refine q_Ca_of (Nat.le_of_ble_eq_true rfl) ?_
                refine q_Ru_seg (g2 := (1, [(0, .int a), (1, .int 4096)], [.int a], (q_cX q_AX q_IX q_J0, 40, 26520))) 1 (fun _ _ => rfl) ?_
                refine q_Ru_rsF (g2 := (4, [(0, .int a), (1, .int 4096)], [], (q_cX q_AX q_IX q_J0, 40, 26520))) rfl rfl h130 ?_
                refine q_Ru_seg (g2 := (6, [(0, .int a), (1, .int 4096)], [.int 4096, .int a], (q_cX q_AX q_IX q_J0, 40, 26520))) 2 (fun _ _ => rfl) ?_
                refine q_Ru_rsT (g2 := (19, [(0, .int a), (1, .int 4096)], [], (q_cX q_AX q_IX q_J0, 40, 26520))) rfl rfl h131 ?_
                exact q_Ru_ret rfl rfl
              show q_Ru _ _ _ (7, [(0, .int a)], [], (q_cX q_AX q_IX q_J0, 40, 26520)) _
              exact q_Ru_ret rfl rfl
            show q_Ru _ _ _ (4, [(0, .ref 64), (1, .int a)], [], (q_cX q_AX q_IX q_J0, 40, 26520)) _
            refine q_Ru_seg (g2 := (22, [(0, .ref 64), (1, .int a)], [.int (a &&& 4095), .ref 68], (q_cX q_AX q_IX q_J0, 40, 26520))) 8 (fun _ _ => rfl) ?_
            refine q_Ru_rsT (g2 := (23, [(0, .ref 64), (1, .int a)], [.int 0], (q_cX q_AX q_IX q_J0, 40, 26520))) rfl rfl (q_in_bd (x := a &&& 4095) (n := 4096) (U := 4095) (L := 0) (q_and_lo a 4095) (q_and_hi a 4095 4095)) ?_
            exact q_Ru_ret rfl rfl
          show q_Ru _ _ _ (7, [(0, .ref 64), (1, .int a), (2, .ref 103)], [.int 0, .int 0, .ref 103], (q_cX q_AX q_IX q_J0, 40, 26520)) _
          refine q_Ru_seg (g2 := (16, [(0, .ref 64), (1, .int a), (2, .ref 103)], [.int 0], (q_cX q_AX q_IX (q_uA q_J0 39 (vp_updL (fun _ => 0) 0 0)), 40, 26520))) 4 (fun _ _ => rfl) ?_
          exact q_Ru_ret rfl rfl
        · refine q_Ca_of (Nat.le_of_ble_eq_true rfl) ?_
          refine q_Ru_seg (g2 := (2, [(0, .ref 64), (1, .int a)], [.int a, .ref 64], (q_cM q_AM q_IM q_J0, 34, 31630))) 2 (fun _ _ => rfl) ?_
          refine q_Ru_call (v := (some (.int 0))) (h2 := (q_cM q_AM q_IM q_J0, 34, 31630)) rfl rfl ?_ ?_
          · refine q_Ca_of (Nat.le_of_ble_eq_true rfl) ?_
            refine q_Ru_seg (g2 := (5, [(0, .int a)], [.int 4095, .int 0, .int a], (q_cM q_AM q_IM q_J0, 34, 31630))) 3 (fun _ _ => rfl) ?_
            refine q_Ru_call (v := (some (.int 1))) (h2 := (q_cM q_AM q_IM q_J0, 34, 31630)) rfl rfl ?_ ?_
            · refine q_Ca_of (Nat.le_of_ble_eq_true rfl) ?_
              refine q_Ru_seg (g2 := (2, [(0, .int a), (1, .int 0), (2, .int 4095)], [.int 0, .int a], (q_cM q_AM q_IM q_J0, 34, 31630))) 2 (fun _ _ => rfl) ?_
              refine q_Ru_rsF (g2 := (5, [(0, .int a), (1, .int 0), (2, .int 4095)], [], (q_cM q_AM q_IM q_J0, 34, 31630))) rfl rfl h130 ?_
              refine q_Ru_seg (g2 := (7, [(0, .int a), (1, .int 0), (2, .int 4095)], [.int 4095, .int a], (q_cM q_AM q_IM q_J0, 34, 31630))) 2 (fun _ _ => rfl) ?_
              refine q_Ru_rsF (g2 := (10, [(0, .int a), (1, .int 0), (2, .int 4095)], [], (q_cM q_AM q_IM q_J0, 34, 31630))) rfl rfl h132 ?_
              refine q_Ru_seg (g2 := (15, [(0, .int a), (1, .int 0), (2, .int 4095)], [.int 1], (q_cM q_AM q_IM q_J0, 34, 31630))) 2 (fun _ _ => rfl) ?_
              exact q_Ru_ret rfl rfl
            show q_Ru _ _ _ (8, [(0, .int a)], [.int 1], (q_cM q_AM q_IM q_J0, 34, 31630)) _
            refine q_Ru_seg (g2 := (16, [(0, .int a)], [.int 0], (q_cM q_AM q_IM q_J0, 34, 31630))) 2 (fun _ _ => rfl) ?_
            exact q_Ru_ret rfl rfl
          show q_Ru _ _ _ (5, [(0, .ref 64), (1, .int a)], [.int 0, .ref 64], (q_cM q_AM q_IM q_J0, 34, 31630)) _
          refine q_Ru_seg (g2 := (13, [(0, .ref 64), (1, .int a)], [.int 0, .ref 64], (q_cM q_AM q_IM q_J0, 34, 31630))) 2 (fun _ _ => rfl) ?_
          refine q_Ru_call (v := (some (.int 0))) (h2 := (q_cM q_AM (q_uI q_IM 0 39 0) q_J0, 34, 31630)) rfl rfl ?_ ?_
          · refine q_Ca_of (Nat.le_of_ble_eq_true rfl) ?_
            refine q_Ru_seg (g2 := (14, [(0, .ref 64), (1, .int 0)], [.int 0], (q_cM q_AM (q_uI q_IM 0 39 0) q_J0, 34, 31630))) 6 (fun _ _ => rfl) ?_
            exact q_Ru_ret rfl rfl
          show q_Ru _ _ _ (16, [(0, .ref 64), (1, .int a)], [.int 0], (q_cM q_AM (q_uI q_IM 0 39 0) q_J0, 34, 31630)) _
          refine q_Ru_seg (g2 := (28, [(0, .ref 64), (1, .int a)], [.int a, .ref 65], (q_cM q_AM (q_uI q_IM 0 39 0) q_J0, 34, 31630))) 4 (fun _ _ => rfl) ?_
          refine q_Ru_rsT (g2 := (29, [(0, .ref 64), (1, .int a)], [.int 0], (q_cM q_AM (q_uI q_IM 0 39 0) q_J0, 34, 31630))) rfl rfl (q_in_bd (x := a) (n := 4096) (U := 4095) (L := 0) (q_lo1 h130) (q_hi1 h131)) ?_
          exact q_Ru_ret rfl rfl
    | false =>
      cases h133 : decide (4095 < a) with
      | true =>
        refine ⟨1, 0, 0, ⟨(q_cX q_AX q_IX q_J0, 40 + 1, 26520 + 6), q_J0 39, ?_, rfl, fun h => absurd h (by decide), Nat.le_of_ble_eq_true rfl, Nat.le_of_ble_eq_true rfl⟩, ⟨(q_cM q_AM (q_uI q_IM 0 39 1) q_J0, 34, 31630), _, ?_, rfl, rfl, Nat.le_of_ble_eq_true rfl, Nat.le_of_ble_eq_true rfl⟩, fun h => absurd h (by decide)⟩
        · refine q_Ca_of (Nat.le_of_ble_eq_true rfl) ?_
          refine q_Ru_seg (g2 := (4, [(0, .ref 64), (1, .int a), (2, .ref 103)], [.int a, .ref 64, .int 0, .ref 103], (q_cX q_AX q_IX q_J0, 40, 26520))) 4 (fun _ _ => rfl) ?_
          refine q_Ru_callH (E := "java/lang/IndexOutOfBoundsException") (tg := 13) (i := 3) (h2 := (q_cX q_AX q_IX q_J0, 40 + 1, 26520 + 6)) rfl rfl ?_ rfl ?_
          · refine q_Ca_of (Nat.le_of_ble_eq_true rfl) ?_
            refine q_Ru_seg (g2 := (1, [(0, .ref 64), (1, .int a)], [.int a], (q_cX q_AX q_IX q_J0, 40, 26520))) 1 (fun _ _ => rfl) ?_
            refine q_Ru_callX (E := "java/lang/IndexOutOfBoundsException") (h2 := (q_cX q_AX q_IX q_J0, 40 + 1, 26520 + 6)) rfl rfl ?_
            refine q_Ca_of (Nat.le_of_ble_eq_true rfl) ?_
            refine q_Ru_seg (g2 := (4, [(0, .int a)], [.int 4096, .int a], (q_cX q_AX q_IX q_J0, 40, 26520))) 2 (fun _ _ => rfl) ?_
            refine q_Ru_callX (E := "java/lang/IndexOutOfBoundsException") (h2 := (q_cX q_AX q_IX q_J0, 40 + 1, 26520 + 6)) rfl rfl ?_
            refine q_Ca_of (Nat.le_of_ble_eq_true rfl) ?_
            refine q_Ru_seg (g2 := (1, [(0, .int a), (1, .int 4096)], [.int a], (q_cX q_AX q_IX q_J0, 40, 26520))) 1 (fun _ _ => rfl) ?_
            refine q_Ru_rsF (g2 := (4, [(0, .int a), (1, .int 4096)], [], (q_cX q_AX q_IX q_J0, 40, 26520))) rfl rfl h130 ?_
            refine q_Ru_seg (g2 := (6, [(0, .int a), (1, .int 4096)], [.int 4096, .int a], (q_cX q_AX q_IX q_J0, 40, 26520))) 2 (fun _ _ => rfl) ?_
            refine q_Ru_rsF (g2 := (9, [(0, .int a), (1, .int 4096)], [], (q_cX q_AX q_IX q_J0, 40, 26520))) rfl rfl h131 ?_
            exact q_Ru_thr rfl rfl
          show q_Ru _ _ _ (13, [(0, .ref 64), (1, .int a), (2, .ref 103)], [], (q_cX q_AX q_IX q_J0, 40 + 1, 26520 + 6)) _
          refine q_Ru_seg (g2 := (14, [(0, .ref 64), (1, .int a), (2, .ref 103)], [.int 1], (q_cX q_AX q_IX q_J0, 40 + 1, 26520 + 6))) 1 (fun _ _ => rfl) ?_
          exact q_Ru_ret rfl rfl
        · refine q_Ca_of (Nat.le_of_ble_eq_true rfl) ?_
          refine q_Ru_seg (g2 := (2, [(0, .ref 64), (1, .int a)], [.int a, .ref 64], (q_cM q_AM q_IM q_J0, 34, 31630))) 2 (fun _ _ => rfl) ?_
          refine q_Ru_call (v := (some (.int 1))) (h2 := (q_cM q_AM q_IM q_J0, 34, 31630)) rfl rfl ?_ ?_
          · refine q_Ca_of (Nat.le_of_ble_eq_true rfl) ?_
            refine q_Ru_seg (g2 := (5, [(0, .int a)], [.int 4095, .int 0, .int a], (q_cM q_AM q_IM q_J0, 34, 31630))) 3 (fun _ _ => rfl) ?_
            refine q_Ru_call (v := (some (.int 0))) (h2 := (q_cM q_AM q_IM q_J0, 34, 31630)) rfl rfl ?_ ?_
            · refine q_Ca_of (Nat.le_of_ble_eq_true rfl) ?_
              refine q_Ru_seg (g2 := (2, [(0, .int a), (1, .int 0), (2, .int 4095)], [.int 0, .int a], (q_cM q_AM q_IM q_J0, 34, 31630))) 2 (fun _ _ => rfl) ?_
              refine q_Ru_rsF (g2 := (5, [(0, .int a), (1, .int 0), (2, .int 4095)], [], (q_cM q_AM q_IM q_J0, 34, 31630))) rfl rfl h130 ?_
              refine q_Ru_seg (g2 := (7, [(0, .int a), (1, .int 0), (2, .int 4095)], [.int 4095, .int a], (q_cM q_AM q_IM q_J0, 34, 31630))) 2 (fun _ _ => rfl) ?_
              refine q_Ru_rsT (g2 := (14, [(0, .int a), (1, .int 0), (2, .int 4095)], [], (q_cM q_AM q_IM q_J0, 34, 31630))) rfl rfl h133 ?_
              refine q_Ru_seg (g2 := (15, [(0, .int a), (1, .int 0), (2, .int 4095)], [.int 0], (q_cM q_AM q_IM q_J0, 34, 31630))) 1 (fun _ _ => rfl) ?_
              exact q_Ru_ret rfl rfl
            show q_Ru _ _ _ (8, [(0, .int a)], [.int 0], (q_cM q_AM q_IM q_J0, 34, 31630)) _
            refine q_Ru_seg (g2 := (16, [(0, .int a)], [.int 1], (q_cM q_AM q_IM q_J0, 34, 31630))) 3 (fun _ _ => rfl) ?_
            exact q_Ru_ret rfl rfl
          show q_Ru _ _ _ (5, [(0, .ref 64), (1, .int a)], [.int 1, .ref 64], (q_cM q_AM q_IM q_J0, 34, 31630)) _
          refine q_Ru_seg (g2 := (13, [(0, .ref 64), (1, .int a)], [.int 1, .ref 64], (q_cM q_AM q_IM q_J0, 34, 31630))) 3 (fun _ _ => rfl) ?_
          refine q_Ru_call (v := (some (.int 1))) (h2 := (q_cM q_AM (q_uI q_IM 0 39 1) q_J0, 34, 31630)) rfl rfl ?_ ?_
          · refine q_Ca_of (Nat.le_of_ble_eq_true rfl) ?_
            refine q_Ru_seg (g2 := (14, [(0, .ref 64), (1, .int 1)], [.int 1], (q_cM q_AM (q_uI q_IM 0 39 1) q_J0, 34, 31630))) 7 (fun _ _ => rfl) ?_
            exact q_Ru_ret rfl rfl
          show q_Ru _ _ _ (16, [(0, .ref 64), (1, .int a)], [.int 1], (q_cM q_AM (q_uI q_IM 0 39 1) q_J0, 34, 31630)) _
          refine q_Ru_seg (g2 := (29, [(0, .ref 64), (1, .int a)], [.int 0], (q_cM q_AM (q_uI q_IM 0 39 1) q_J0, 34, 31630))) 3 (fun _ _ => rfl) ?_
          exact q_Ru_ret rfl rfl
      | false =>
        exact q_no (q_lo1 h131) (q_hi2 h133) (by decide)
set_option maxHeartbeats 20000000 in
theorem q_op_lineAt (a : Int32) : ∃ (r b : Int32) (w : Int64), q_opX 7 [.int a] r w ∧ q_opM 287 [.int a] r (.int b) ∧ (r = 0 → w = b.toInt64) := by
  cases h134 : decide (a < 0) with
  | true =>
    refine ⟨1, 32, 0, ⟨(q_cX q_AX q_IX q_J0, 40 + 1, 26520 + 6), q_J0 39, ?_, rfl, fun h => absurd h (by decide), Nat.le_of_ble_eq_true rfl, Nat.le_of_ble_eq_true rfl⟩, ⟨(q_cM q_AM (q_uI q_IM 0 39 1) q_J0, 34, 31630), _, ?_, rfl, rfl, Nat.le_of_ble_eq_true rfl, Nat.le_of_ble_eq_true rfl⟩, fun h => absurd h (by decide)⟩
    · refine q_Ca_of (Nat.le_of_ble_eq_true rfl) ?_
      refine q_Ru_seg (g2 := (4, [(0, .ref 64), (1, .int a), (2, .ref 103)], [.int a, .ref 64, .int 0, .ref 103], (q_cX q_AX q_IX q_J0, 40, 26520))) 4 (fun _ _ => rfl) ?_
      refine q_Ru_callH (E := "java/lang/IndexOutOfBoundsException") (tg := 13) (i := 3) (h2 := (q_cX q_AX q_IX q_J0, 40 + 1, 26520 + 6)) rfl rfl ?_ rfl ?_
      · refine q_Ca_of (Nat.le_of_ble_eq_true rfl) ?_
        refine q_Ru_seg (g2 := (5, [(0, .ref 64), (1, .int a)], [.ref 98, .int a], (q_cX q_AX q_IX q_J0, 40, 26520))) 3 (fun _ _ => rfl) ?_
        refine q_Ru_call (v := (some (.int 0))) (h2 := (q_cX q_AX q_IX q_J0, 40, 26520)) rfl rfl ?_ ?_
        · refine q_Ca_of (Nat.le_of_ble_eq_true rfl) ?_
          refine q_Ru_seg (g2 := (1, [(0, .ref 98)], [.ref 98], (q_cX q_AX q_IX q_J0, 40, 26520))) 1 (fun _ _ => rfl) ?_
          refine q_Ru_call (v := (some (.int 0))) (h2 := (q_cX q_AX q_IX q_J0, 40, 26520)) rfl rfl ?_ ?_
          · refine q_Ca_of (Nat.le_of_ble_eq_true rfl) ?_
            refine q_Ru_seg (g2 := (4, [(0, .ref 98)], [.int 0], (q_cX q_AX q_IX q_J0, 40, 26520))) 2 (fun _ _ => rfl) ?_
            exact q_Ru_ret rfl rfl
          show q_Ru _ _ _ (4, [(0, .ref 98)], [.int 0], (q_cX q_AX q_IX q_J0, 40, 26520)) _
          exact q_Ru_ret rfl rfl
        show q_Ru _ _ _ (8, [(0, .ref 64), (1, .int a)], [.int 0, .int a], (q_cX q_AX q_IX q_J0, 40, 26520)) _
        refine q_Ru_callX (E := "java/lang/IndexOutOfBoundsException") (h2 := (q_cX q_AX q_IX q_J0, 40 + 1, 26520 + 6)) rfl rfl ?_
        refine q_Ca_of (Nat.le_of_ble_eq_true rfl) ?_
        refine q_Ru_seg (g2 := (1, [(0, .int a), (1, .int 0)], [.int a], (q_cX q_AX q_IX q_J0, 40, 26520))) 1 (fun _ _ => rfl) ?_
        refine q_Ru_rsT (g2 := (9, [(0, .int a), (1, .int 0)], [], (q_cX q_AX q_IX q_J0, 40, 26520))) rfl rfl h134 ?_
        exact q_Ru_thr rfl rfl
      show q_Ru _ _ _ (13, [(0, .ref 64), (1, .int a), (2, .ref 103)], [], (q_cX q_AX q_IX q_J0, 40 + 1, 26520 + 6)) _
      refine q_Ru_seg (g2 := (14, [(0, .ref 64), (1, .int a), (2, .ref 103)], [.int 1], (q_cX q_AX q_IX q_J0, 40 + 1, 26520 + 6))) 1 (fun _ _ => rfl) ?_
      exact q_Ru_ret rfl rfl
    · refine q_Ca_of (Nat.le_of_ble_eq_true rfl) ?_
      refine q_Ru_seg (g2 := (9, [(0, .ref 64), (1, .int a)], [.int (-1), .int 0, .int a, .ref 64], (q_cM q_AM q_IM q_J0, 34, 31630))) 7 (fun _ _ => rfl) ?_
      refine q_Ru_call (v := (some (.int 0))) (h2 := (q_cM q_AM q_IM q_J0, 34, 31630)) rfl rfl ?_ ?_
      · refine q_Ca_of (Nat.le_of_ble_eq_true rfl) ?_
        refine q_Ru_seg (g2 := (2, [(0, .int a), (1, .int 0), (2, .int (-1))], [.int 0, .int a], (q_cM q_AM q_IM q_J0, 34, 31630))) 2 (fun _ _ => rfl) ?_
        refine q_Ru_rsT (g2 := (14, [(0, .int a), (1, .int 0), (2, .int (-1))], [], (q_cM q_AM q_IM q_J0, 34, 31630))) rfl rfl h134 ?_
        refine q_Ru_seg (g2 := (15, [(0, .int a), (1, .int 0), (2, .int (-1))], [.int 0], (q_cM q_AM q_IM q_J0, 34, 31630))) 1 (fun _ _ => rfl) ?_
        exact q_Ru_ret rfl rfl
      show q_Ru _ _ _ (12, [(0, .ref 64), (1, .int a)], [.int 0, .ref 64], (q_cM q_AM q_IM q_J0, 34, 31630)) _
      refine q_Ru_seg (g2 := (20, [(0, .ref 64), (1, .int a)], [.int 1, .ref 64], (q_cM q_AM q_IM q_J0, 34, 31630))) 2 (fun _ _ => rfl) ?_
      refine q_Ru_call (v := (some (.int 1))) (h2 := (q_cM q_AM (q_uI q_IM 0 39 1) q_J0, 34, 31630)) rfl rfl ?_ ?_
      · refine q_Ca_of (Nat.le_of_ble_eq_true rfl) ?_
        refine q_Ru_seg (g2 := (14, [(0, .ref 64), (1, .int 1)], [.int 1], (q_cM q_AM (q_uI q_IM 0 39 1) q_J0, 34, 31630))) 7 (fun _ _ => rfl) ?_
        exact q_Ru_ret rfl rfl
      show q_Ru _ _ _ (23, [(0, .ref 64), (1, .int a)], [.int 1], (q_cM q_AM (q_uI q_IM 0 39 1) q_J0, 34, 31630)) _
      refine q_Ru_seg (g2 := (37, [(0, .ref 64), (1, .int a)], [.int 32], (q_cM q_AM (q_uI q_IM 0 39 1) q_J0, 34, 31630))) 3 (fun _ _ => rfl) ?_
      exact q_Ru_ret rfl rfl
  | false =>
    cases h135 : decide ((-1) < a) with
    | true =>
      refine ⟨1, 32, 0, ⟨(q_cX q_AX q_IX q_J0, 40 + 1, 26520 + 6), q_J0 39, ?_, rfl, fun h => absurd h (by decide), Nat.le_of_ble_eq_true rfl, Nat.le_of_ble_eq_true rfl⟩, ⟨(q_cM q_AM (q_uI q_IM 0 39 1) q_J0, 34, 31630), _, ?_, rfl, rfl, Nat.le_of_ble_eq_true rfl, Nat.le_of_ble_eq_true rfl⟩, fun h => absurd h (by decide)⟩
      · refine q_Ca_of (Nat.le_of_ble_eq_true rfl) ?_
        refine q_Ru_seg (g2 := (4, [(0, .ref 64), (1, .int a), (2, .ref 103)], [.int a, .ref 64, .int 0, .ref 103], (q_cX q_AX q_IX q_J0, 40, 26520))) 4 (fun _ _ => rfl) ?_
        refine q_Ru_callH (E := "java/lang/IndexOutOfBoundsException") (tg := 13) (i := 3) (h2 := (q_cX q_AX q_IX q_J0, 40 + 1, 26520 + 6)) rfl rfl ?_ rfl ?_
        · refine q_Ca_of (Nat.le_of_ble_eq_true rfl) ?_
          refine q_Ru_seg (g2 := (5, [(0, .ref 64), (1, .int a)], [.ref 98, .int a], (q_cX q_AX q_IX q_J0, 40, 26520))) 3 (fun _ _ => rfl) ?_
          refine q_Ru_call (v := (some (.int 0))) (h2 := (q_cX q_AX q_IX q_J0, 40, 26520)) rfl rfl ?_ ?_
          · refine q_Ca_of (Nat.le_of_ble_eq_true rfl) ?_
            refine q_Ru_seg (g2 := (1, [(0, .ref 98)], [.ref 98], (q_cX q_AX q_IX q_J0, 40, 26520))) 1 (fun _ _ => rfl) ?_
            refine q_Ru_call (v := (some (.int 0))) (h2 := (q_cX q_AX q_IX q_J0, 40, 26520)) rfl rfl ?_ ?_
            · refine q_Ca_of (Nat.le_of_ble_eq_true rfl) ?_
              refine q_Ru_seg (g2 := (4, [(0, .ref 98)], [.int 0], (q_cX q_AX q_IX q_J0, 40, 26520))) 2 (fun _ _ => rfl) ?_
              exact q_Ru_ret rfl rfl
            show q_Ru _ _ _ (4, [(0, .ref 98)], [.int 0], (q_cX q_AX q_IX q_J0, 40, 26520)) _
            exact q_Ru_ret rfl rfl
          show q_Ru _ _ _ (8, [(0, .ref 64), (1, .int a)], [.int 0, .int a], (q_cX q_AX q_IX q_J0, 40, 26520)) _
          refine q_Ru_callX (E := "java/lang/IndexOutOfBoundsException") (h2 := (q_cX q_AX q_IX q_J0, 40 + 1, 26520 + 6)) rfl rfl ?_
          refine q_Ca_of (Nat.le_of_ble_eq_true rfl) ?_
          refine q_Ru_seg (g2 := (1, [(0, .int a), (1, .int 0)], [.int a], (q_cX q_AX q_IX q_J0, 40, 26520))) 1 (fun _ _ => rfl) ?_
          refine q_Ru_rsF (g2 := (4, [(0, .int a), (1, .int 0)], [], (q_cX q_AX q_IX q_J0, 40, 26520))) rfl rfl h134 ?_
          refine q_Ru_seg (g2 := (6, [(0, .int a), (1, .int 0)], [.int 0, .int a], (q_cX q_AX q_IX q_J0, 40, 26520))) 2 (fun _ _ => rfl) ?_
          refine q_Ru_rsF (g2 := (9, [(0, .int a), (1, .int 0)], [], (q_cX q_AX q_IX q_J0, 40, 26520))) rfl rfl h134 ?_
          exact q_Ru_thr rfl rfl
        show q_Ru _ _ _ (13, [(0, .ref 64), (1, .int a), (2, .ref 103)], [], (q_cX q_AX q_IX q_J0, 40 + 1, 26520 + 6)) _
        refine q_Ru_seg (g2 := (14, [(0, .ref 64), (1, .int a), (2, .ref 103)], [.int 1], (q_cX q_AX q_IX q_J0, 40 + 1, 26520 + 6))) 1 (fun _ _ => rfl) ?_
        exact q_Ru_ret rfl rfl
      · refine q_Ca_of (Nat.le_of_ble_eq_true rfl) ?_
        refine q_Ru_seg (g2 := (9, [(0, .ref 64), (1, .int a)], [.int (-1), .int 0, .int a, .ref 64], (q_cM q_AM q_IM q_J0, 34, 31630))) 7 (fun _ _ => rfl) ?_
        refine q_Ru_call (v := (some (.int 0))) (h2 := (q_cM q_AM q_IM q_J0, 34, 31630)) rfl rfl ?_ ?_
        · refine q_Ca_of (Nat.le_of_ble_eq_true rfl) ?_
          refine q_Ru_seg (g2 := (2, [(0, .int a), (1, .int 0), (2, .int (-1))], [.int 0, .int a], (q_cM q_AM q_IM q_J0, 34, 31630))) 2 (fun _ _ => rfl) ?_
          refine q_Ru_rsF (g2 := (5, [(0, .int a), (1, .int 0), (2, .int (-1))], [], (q_cM q_AM q_IM q_J0, 34, 31630))) rfl rfl h134 ?_
          refine q_Ru_seg (g2 := (7, [(0, .int a), (1, .int 0), (2, .int (-1))], [.int (-1), .int a], (q_cM q_AM q_IM q_J0, 34, 31630))) 2 (fun _ _ => rfl) ?_
          refine q_Ru_rsT (g2 := (14, [(0, .int a), (1, .int 0), (2, .int (-1))], [], (q_cM q_AM q_IM q_J0, 34, 31630))) rfl rfl h135 ?_
          refine q_Ru_seg (g2 := (15, [(0, .int a), (1, .int 0), (2, .int (-1))], [.int 0], (q_cM q_AM q_IM q_J0, 34, 31630))) 1 (fun _ _ => rfl) ?_
          exact q_Ru_ret rfl rfl
        show q_Ru _ _ _ (12, [(0, .ref 64), (1, .int a)], [.int 0, .ref 64], (q_cM q_AM q_IM q_J0, 34, 31630)) _
        refine q_Ru_seg (g2 := (20, [(0, .ref 64), (1, .int a)], [.int 1, .ref 64], (q_cM q_AM q_IM q_J0, 34, 31630))) 2 (fun _ _ => rfl) ?_
        refine q_Ru_call (v := (some (.int 1))) (h2 := (q_cM q_AM (q_uI q_IM 0 39 1) q_J0, 34, 31630)) rfl rfl ?_ ?_
        · refine q_Ca_of (Nat.le_of_ble_eq_true rfl) ?_
          refine q_Ru_seg (g2 := (14, [(0, .ref 64), (1, .int 1)], [.int 1], (q_cM q_AM (q_uI q_IM 0 39 1) q_J0, 34, 31630))) 7 (fun _ _ => rfl) ?_
          exact q_Ru_ret rfl rfl
        show q_Ru _ _ _ (23, [(0, .ref 64), (1, .int a)], [.int 1], (q_cM q_AM (q_uI q_IM 0 39 1) q_J0, 34, 31630)) _
        refine q_Ru_seg (g2 := (37, [(0, .ref 64), (1, .int a)], [.int 32], (q_cM q_AM (q_uI q_IM 0 39 1) q_J0, 34, 31630))) 3 (fun _ _ => rfl) ?_
        exact q_Ru_ret rfl rfl
    | false =>
      exact q_no (q_lo1 h134) (q_hi2 h135) (by decide)
set_option maxHeartbeats 20000000 in
theorem q_op_register (a : Int32) : ∃ (r b : Int32) (w : Int64), q_opX 9 [.int a] r w ∧ q_opM 288 [.int a] r (.int b) ∧ (r = 0 → w = b.toInt64) := by
  cases h136 : decide (a < 0) with
  | true =>
    refine ⟨1, 0, 0, ⟨(q_cX q_AX q_IX q_J0, 40 + 1, 26520 + 6), q_J0 39, ?_, rfl, fun h => absurd h (by decide), Nat.le_of_ble_eq_true rfl, Nat.le_of_ble_eq_true rfl⟩, ⟨(q_cM q_AM (q_uI q_IM 0 39 1) q_J0, 34, 31630), _, ?_, rfl, rfl, Nat.le_of_ble_eq_true rfl, Nat.le_of_ble_eq_true rfl⟩, fun h => absurd h (by decide)⟩
    · refine q_Ca_of (Nat.le_of_ble_eq_true rfl) ?_
      refine q_Ru_seg (g2 := (4, [(0, .ref 64), (1, .int a), (2, .ref 103)], [.int a, .ref 64, .int 0, .ref 103], (q_cX q_AX q_IX q_J0, 40, 26520))) 4 (fun _ _ => rfl) ?_
      refine q_Ru_callH (E := "java/lang/IndexOutOfBoundsException") (tg := 13) (i := 3) (h2 := (q_cX q_AX q_IX q_J0, 40 + 1, 26520 + 6)) rfl rfl ?_ rfl ?_
      · refine q_Ca_of (Nat.le_of_ble_eq_true rfl) ?_
        refine q_Ru_seg (g2 := (2, [(0, .ref 64), (1, .int a)], [.int 5, .int a], (q_cX q_AX q_IX q_J0, 40, 26520))) 2 (fun _ _ => rfl) ?_
        refine q_Ru_callX (E := "java/lang/IndexOutOfBoundsException") (h2 := (q_cX q_AX q_IX q_J0, 40 + 1, 26520 + 6)) rfl rfl ?_
        refine q_Ca_of (Nat.le_of_ble_eq_true rfl) ?_
        refine q_Ru_seg (g2 := (1, [(0, .int a), (1, .int 5)], [.int a], (q_cX q_AX q_IX q_J0, 40, 26520))) 1 (fun _ _ => rfl) ?_
        refine q_Ru_rsT (g2 := (9, [(0, .int a), (1, .int 5)], [], (q_cX q_AX q_IX q_J0, 40, 26520))) rfl rfl h136 ?_
        exact q_Ru_thr rfl rfl
      show q_Ru _ _ _ (13, [(0, .ref 64), (1, .int a), (2, .ref 103)], [], (q_cX q_AX q_IX q_J0, 40 + 1, 26520 + 6)) _
      refine q_Ru_seg (g2 := (14, [(0, .ref 64), (1, .int a), (2, .ref 103)], [.int 1], (q_cX q_AX q_IX q_J0, 40 + 1, 26520 + 6))) 1 (fun _ _ => rfl) ?_
      exact q_Ru_ret rfl rfl
    · refine q_Ca_of (Nat.le_of_ble_eq_true rfl) ?_
      refine q_Ru_seg (g2 := (4, [(0, .ref 64), (1, .int a)], [.int 4, .int 0, .int a, .ref 64], (q_cM q_AM q_IM q_J0, 34, 31630))) 4 (fun _ _ => rfl) ?_
      refine q_Ru_call (v := (some (.int 0))) (h2 := (q_cM q_AM q_IM q_J0, 34, 31630)) rfl rfl ?_ ?_
      · refine q_Ca_of (Nat.le_of_ble_eq_true rfl) ?_
        refine q_Ru_seg (g2 := (2, [(0, .int a), (1, .int 0), (2, .int 4)], [.int 0, .int a], (q_cM q_AM q_IM q_J0, 34, 31630))) 2 (fun _ _ => rfl) ?_
        refine q_Ru_rsT (g2 := (14, [(0, .int a), (1, .int 0), (2, .int 4)], [], (q_cM q_AM q_IM q_J0, 34, 31630))) rfl rfl h136 ?_
        refine q_Ru_seg (g2 := (15, [(0, .int a), (1, .int 0), (2, .int 4)], [.int 0], (q_cM q_AM q_IM q_J0, 34, 31630))) 1 (fun _ _ => rfl) ?_
        exact q_Ru_ret rfl rfl
      show q_Ru _ _ _ (7, [(0, .ref 64), (1, .int a)], [.int 0, .ref 64], (q_cM q_AM q_IM q_J0, 34, 31630)) _
      refine q_Ru_seg (g2 := (15, [(0, .ref 64), (1, .int a)], [.int 1, .ref 64], (q_cM q_AM q_IM q_J0, 34, 31630))) 2 (fun _ _ => rfl) ?_
      refine q_Ru_call (v := (some (.int 1))) (h2 := (q_cM q_AM (q_uI q_IM 0 39 1) q_J0, 34, 31630)) rfl rfl ?_ ?_
      · refine q_Ca_of (Nat.le_of_ble_eq_true rfl) ?_
        refine q_Ru_seg (g2 := (14, [(0, .ref 64), (1, .int 1)], [.int 1], (q_cM q_AM (q_uI q_IM 0 39 1) q_J0, 34, 31630))) 7 (fun _ _ => rfl) ?_
        exact q_Ru_ret rfl rfl
      show q_Ru _ _ _ (18, [(0, .ref 64), (1, .int a)], [.int 1], (q_cM q_AM (q_uI q_IM 0 39 1) q_J0, 34, 31630)) _
      refine q_Ru_seg (g2 := (31, [(0, .ref 64), (1, .int a)], [.int 0], (q_cM q_AM (q_uI q_IM 0 39 1) q_J0, 34, 31630))) 3 (fun _ _ => rfl) ?_
      exact q_Ru_ret rfl rfl
  | false =>
    cases h137 : decide (a < 5) with
    | true =>
      obtain ⟨j138, g138, e138⟩ := q_en (l := 0) (n := 4) (q_lo1 h136) (q_hi1 h137)
      match j138, g138, e138 with
      | 0, _, e138 =>
        have e138 : a = 0 := e138
        subst e138
        refine ⟨0, 0, 0, ⟨(q_cX q_AX q_IX (q_uA q_J0 39 (vp_updL (fun _ => 0) 0 0)), 40, 26520), (q_uA q_J0 39 (vp_updL (fun _ => 0) 0 0)) 39, ?_, rfl, fun _ => rfl, Nat.le_of_ble_eq_true rfl, Nat.le_of_ble_eq_true rfl⟩, ⟨(q_cM q_AM (q_uI q_IM 0 39 0) q_J0, 34, 31630), _, ?_, rfl, rfl, Nat.le_of_ble_eq_true rfl, Nat.le_of_ble_eq_true rfl⟩, fun _ => rfl⟩
        · refine q_Ca_of (Nat.le_of_ble_eq_true rfl) ?_
          refine q_Ru_seg (g2 := (4, [(0, .ref 64), (1, .int 0), (2, .ref 103)], [.int 0, .ref 64, .int 0, .ref 103], (q_cX q_AX q_IX q_J0, 40, 26520))) 4 (fun _ _ => rfl) ?_
          refine q_Ru_call (v := (some (.int 0))) (h2 := (q_cX q_AX q_IX q_J0, 40, 26520)) rfl rfl ?_ ?_
          · refine q_Ca_of (Nat.le_of_ble_eq_true rfl) ?_
            refine q_Ru_seg (g2 := (2, [(0, .ref 64), (1, .int 0)], [.int 5, .int 0], (q_cX q_AX q_IX q_J0, 40, 26520))) 2 (fun _ _ => rfl) ?_
            refine q_Ru_call (v := none) (h2 := (q_cX q_AX q_IX q_J0, 40, 26520)) rfl rfl ?_ ?_
            · refine q_Ca_of (Nat.le_of_ble_eq_true rfl) ?_
              refine q_Ru_seg (g2 := (19, [(0, .int 0), (1, .int 5)], [], (q_cX q_AX q_IX q_J0, 40, 26520))) 5 (fun _ _ => rfl) ?_
              exact q_Ru_ret rfl rfl
            show q_Ru _ _ _ (5, [(0, .ref 64), (1, .int 0)], [], (q_cX q_AX q_IX q_J0, 40, 26520)) _
            refine q_Ru_seg (g2 := (13, [(0, .ref 64), (1, .int 0)], [.int 0, .ref 88], (q_cX q_AX q_IX q_J0, 40, 26520))) 4 (fun _ _ => rfl) ?_
            refine q_Ru_call (v := (some (.int 0))) (h2 := (q_cX q_AX q_IX q_J0, 40, 26520)) rfl rfl ?_ ?_
            · refine q_Ca_of (Nat.le_of_ble_eq_true rfl) ?_
              refine q_Ru_seg (g2 := (36, [(0, .ref 88), (1, .int 0)], [.int 0], (q_cX q_AX q_IX q_J0, 40, 26520))) 4 (fun _ _ => rfl) ?_
              exact q_Ru_ret rfl rfl
            show q_Ru _ _ _ (16, [(0, .ref 64), (1, .int 0)], [.int 0], (q_cX q_AX q_IX q_J0, 40, 26520)) _
            exact q_Ru_ret rfl rfl
          show q_Ru _ _ _ (7, [(0, .ref 64), (1, .int 0), (2, .ref 103)], [.int 0, .int 0, .ref 103], (q_cX q_AX q_IX q_J0, 40, 26520)) _
          refine q_Ru_seg (g2 := (16, [(0, .ref 64), (1, .int 0), (2, .ref 103)], [.int 0], (q_cX q_AX q_IX (q_uA q_J0 39 (vp_updL (fun _ => 0) 0 0)), 40, 26520))) 4 (fun _ _ => rfl) ?_
          exact q_Ru_ret rfl rfl
        · refine q_Ca_of (Nat.le_of_ble_eq_true rfl) ?_
          refine q_Ru_seg (g2 := (4, [(0, .ref 64), (1, .int 0)], [.int 4, .int 0, .int 0, .ref 64], (q_cM q_AM q_IM q_J0, 34, 31630))) 4 (fun _ _ => rfl) ?_
          refine q_Ru_call (v := (some (.int 1))) (h2 := (q_cM q_AM q_IM q_J0, 34, 31630)) rfl rfl ?_ ?_
          · refine q_Ca_of (Nat.le_of_ble_eq_true rfl) ?_
            refine q_Ru_seg (g2 := (15, [(0, .int 0), (1, .int 0), (2, .int 4)], [.int 1], (q_cM q_AM q_IM q_J0, 34, 31630))) 8 (fun _ _ => rfl) ?_
            exact q_Ru_ret rfl rfl
          show q_Ru _ _ _ (7, [(0, .ref 64), (1, .int 0)], [.int 1, .ref 64], (q_cM q_AM q_IM q_J0, 34, 31630)) _
          refine q_Ru_seg (g2 := (15, [(0, .ref 64), (1, .int 0)], [.int 0, .ref 64], (q_cM q_AM q_IM q_J0, 34, 31630))) 3 (fun _ _ => rfl) ?_
          refine q_Ru_call (v := (some (.int 0))) (h2 := (q_cM q_AM (q_uI q_IM 0 39 0) q_J0, 34, 31630)) rfl rfl ?_ ?_
          · refine q_Ca_of (Nat.le_of_ble_eq_true rfl) ?_
            refine q_Ru_seg (g2 := (14, [(0, .ref 64), (1, .int 0)], [.int 0], (q_cM q_AM (q_uI q_IM 0 39 0) q_J0, 34, 31630))) 6 (fun _ _ => rfl) ?_
            exact q_Ru_ret rfl rfl
          show q_Ru _ _ _ (18, [(0, .ref 64), (1, .int 0)], [.int 0], (q_cM q_AM (q_uI q_IM 0 39 0) q_J0, 34, 31630)) _
          refine q_Ru_seg (g2 := (31, [(0, .ref 64), (1, .int 0)], [.int 0], (q_cM q_AM (q_uI q_IM 0 39 0) q_J0, 34, 31630))) 5 (fun _ _ => rfl) ?_
          exact q_Ru_ret rfl rfl
      | 1, _, e138 =>
        have e138 : a = 1 := e138
        subst e138
        refine ⟨0, 0, 0, ⟨(q_cX q_AX q_IX (q_uA q_J0 39 (vp_updL (fun _ => 0) 0 0)), 40, 26520), (q_uA q_J0 39 (vp_updL (fun _ => 0) 0 0)) 39, ?_, rfl, fun _ => rfl, Nat.le_of_ble_eq_true rfl, Nat.le_of_ble_eq_true rfl⟩, ⟨(q_cM q_AM (q_uI q_IM 0 39 0) q_J0, 34, 31630), _, ?_, rfl, rfl, Nat.le_of_ble_eq_true rfl, Nat.le_of_ble_eq_true rfl⟩, fun _ => rfl⟩
        · refine q_Ca_of (Nat.le_of_ble_eq_true rfl) ?_
          refine q_Ru_seg (g2 := (4, [(0, .ref 64), (1, .int 1), (2, .ref 103)], [.int 1, .ref 64, .int 0, .ref 103], (q_cX q_AX q_IX q_J0, 40, 26520))) 4 (fun _ _ => rfl) ?_
          refine q_Ru_call (v := (some (.int 0))) (h2 := (q_cX q_AX q_IX q_J0, 40, 26520)) rfl rfl ?_ ?_
          · refine q_Ca_of (Nat.le_of_ble_eq_true rfl) ?_
            refine q_Ru_seg (g2 := (2, [(0, .ref 64), (1, .int 1)], [.int 5, .int 1], (q_cX q_AX q_IX q_J0, 40, 26520))) 2 (fun _ _ => rfl) ?_
            refine q_Ru_call (v := none) (h2 := (q_cX q_AX q_IX q_J0, 40, 26520)) rfl rfl ?_ ?_
            · refine q_Ca_of (Nat.le_of_ble_eq_true rfl) ?_
              refine q_Ru_seg (g2 := (19, [(0, .int 1), (1, .int 5)], [], (q_cX q_AX q_IX q_J0, 40, 26520))) 5 (fun _ _ => rfl) ?_
              exact q_Ru_ret rfl rfl
            show q_Ru _ _ _ (5, [(0, .ref 64), (1, .int 1)], [], (q_cX q_AX q_IX q_J0, 40, 26520)) _
            refine q_Ru_seg (g2 := (13, [(0, .ref 64), (1, .int 1)], [.int 1, .ref 88], (q_cX q_AX q_IX q_J0, 40, 26520))) 4 (fun _ _ => rfl) ?_
            refine q_Ru_call (v := (some (.int 0))) (h2 := (q_cX q_AX q_IX q_J0, 40, 26520)) rfl rfl ?_ ?_
            · refine q_Ca_of (Nat.le_of_ble_eq_true rfl) ?_
              refine q_Ru_seg (g2 := (41, [(0, .ref 88), (1, .int 1)], [.int 0], (q_cX q_AX q_IX q_J0, 40, 26520))) 4 (fun _ _ => rfl) ?_
              exact q_Ru_ret rfl rfl
            show q_Ru _ _ _ (16, [(0, .ref 64), (1, .int 1)], [.int 0], (q_cX q_AX q_IX q_J0, 40, 26520)) _
            exact q_Ru_ret rfl rfl
          show q_Ru _ _ _ (7, [(0, .ref 64), (1, .int 1), (2, .ref 103)], [.int 0, .int 0, .ref 103], (q_cX q_AX q_IX q_J0, 40, 26520)) _
          refine q_Ru_seg (g2 := (16, [(0, .ref 64), (1, .int 1), (2, .ref 103)], [.int 0], (q_cX q_AX q_IX (q_uA q_J0 39 (vp_updL (fun _ => 0) 0 0)), 40, 26520))) 4 (fun _ _ => rfl) ?_
          exact q_Ru_ret rfl rfl
        · refine q_Ca_of (Nat.le_of_ble_eq_true rfl) ?_
          refine q_Ru_seg (g2 := (4, [(0, .ref 64), (1, .int 1)], [.int 4, .int 0, .int 1, .ref 64], (q_cM q_AM q_IM q_J0, 34, 31630))) 4 (fun _ _ => rfl) ?_
          refine q_Ru_call (v := (some (.int 1))) (h2 := (q_cM q_AM q_IM q_J0, 34, 31630)) rfl rfl ?_ ?_
          · refine q_Ca_of (Nat.le_of_ble_eq_true rfl) ?_
            refine q_Ru_seg (g2 := (15, [(0, .int 1), (1, .int 0), (2, .int 4)], [.int 1], (q_cM q_AM q_IM q_J0, 34, 31630))) 8 (fun _ _ => rfl) ?_
            exact q_Ru_ret rfl rfl
          show q_Ru _ _ _ (7, [(0, .ref 64), (1, .int 1)], [.int 1, .ref 64], (q_cM q_AM q_IM q_J0, 34, 31630)) _
          refine q_Ru_seg (g2 := (15, [(0, .ref 64), (1, .int 1)], [.int 0, .ref 64], (q_cM q_AM q_IM q_J0, 34, 31630))) 3 (fun _ _ => rfl) ?_
          refine q_Ru_call (v := (some (.int 0))) (h2 := (q_cM q_AM (q_uI q_IM 0 39 0) q_J0, 34, 31630)) rfl rfl ?_ ?_
          · refine q_Ca_of (Nat.le_of_ble_eq_true rfl) ?_
            refine q_Ru_seg (g2 := (14, [(0, .ref 64), (1, .int 0)], [.int 0], (q_cM q_AM (q_uI q_IM 0 39 0) q_J0, 34, 31630))) 6 (fun _ _ => rfl) ?_
            exact q_Ru_ret rfl rfl
          show q_Ru _ _ _ (18, [(0, .ref 64), (1, .int 1)], [.int 0], (q_cM q_AM (q_uI q_IM 0 39 0) q_J0, 34, 31630)) _
          refine q_Ru_seg (g2 := (31, [(0, .ref 64), (1, .int 1)], [.int 0], (q_cM q_AM (q_uI q_IM 0 39 0) q_J0, 34, 31630))) 5 (fun _ _ => rfl) ?_
          exact q_Ru_ret rfl rfl
      | 2, _, e138 =>
        have e138 : a = 2 := e138
        subst e138
        refine ⟨0, 0, 0, ⟨(q_cX q_AX q_IX (q_uA q_J0 39 (vp_updL (fun _ => 0) 0 0)), 40, 26520), (q_uA q_J0 39 (vp_updL (fun _ => 0) 0 0)) 39, ?_, rfl, fun _ => rfl, Nat.le_of_ble_eq_true rfl, Nat.le_of_ble_eq_true rfl⟩, ⟨(q_cM q_AM (q_uI q_IM 0 39 0) q_J0, 34, 31630), _, ?_, rfl, rfl, Nat.le_of_ble_eq_true rfl, Nat.le_of_ble_eq_true rfl⟩, fun _ => rfl⟩
        · refine q_Ca_of (Nat.le_of_ble_eq_true rfl) ?_
          refine q_Ru_seg (g2 := (4, [(0, .ref 64), (1, .int 2), (2, .ref 103)], [.int 2, .ref 64, .int 0, .ref 103], (q_cX q_AX q_IX q_J0, 40, 26520))) 4 (fun _ _ => rfl) ?_
          refine q_Ru_call (v := (some (.int 0))) (h2 := (q_cX q_AX q_IX q_J0, 40, 26520)) rfl rfl ?_ ?_
          · refine q_Ca_of (Nat.le_of_ble_eq_true rfl) ?_
            refine q_Ru_seg (g2 := (2, [(0, .ref 64), (1, .int 2)], [.int 5, .int 2], (q_cX q_AX q_IX q_J0, 40, 26520))) 2 (fun _ _ => rfl) ?_
            refine q_Ru_call (v := none) (h2 := (q_cX q_AX q_IX q_J0, 40, 26520)) rfl rfl ?_ ?_
            · refine q_Ca_of (Nat.le_of_ble_eq_true rfl) ?_
              refine q_Ru_seg (g2 := (19, [(0, .int 2), (1, .int 5)], [], (q_cX q_AX q_IX q_J0, 40, 26520))) 5 (fun _ _ => rfl) ?_
              exact q_Ru_ret rfl rfl
            show q_Ru _ _ _ (5, [(0, .ref 64), (1, .int 2)], [], (q_cX q_AX q_IX q_J0, 40, 26520)) _
            refine q_Ru_seg (g2 := (13, [(0, .ref 64), (1, .int 2)], [.int 2, .ref 88], (q_cX q_AX q_IX q_J0, 40, 26520))) 4 (fun _ _ => rfl) ?_
            refine q_Ru_call (v := (some (.int 0))) (h2 := (q_cX q_AX q_IX q_J0, 40, 26520)) rfl rfl ?_ ?_
            · refine q_Ca_of (Nat.le_of_ble_eq_true rfl) ?_
              refine q_Ru_seg (g2 := (46, [(0, .ref 88), (1, .int 2)], [.int 0], (q_cX q_AX q_IX q_J0, 40, 26520))) 4 (fun _ _ => rfl) ?_
              exact q_Ru_ret rfl rfl
            show q_Ru _ _ _ (16, [(0, .ref 64), (1, .int 2)], [.int 0], (q_cX q_AX q_IX q_J0, 40, 26520)) _
            exact q_Ru_ret rfl rfl
          show q_Ru _ _ _ (7, [(0, .ref 64), (1, .int 2), (2, .ref 103)], [.int 0, .int 0, .ref 103], (q_cX q_AX q_IX q_J0, 40, 26520)) _
          refine q_Ru_seg (g2 := (16, [(0, .ref 64), (1, .int 2), (2, .ref 103)], [.int 0], (q_cX q_AX q_IX (q_uA q_J0 39 (vp_updL (fun _ => 0) 0 0)), 40, 26520))) 4 (fun _ _ => rfl) ?_
          exact q_Ru_ret rfl rfl
        · refine q_Ca_of (Nat.le_of_ble_eq_true rfl) ?_
          refine q_Ru_seg (g2 := (4, [(0, .ref 64), (1, .int 2)], [.int 4, .int 0, .int 2, .ref 64], (q_cM q_AM q_IM q_J0, 34, 31630))) 4 (fun _ _ => rfl) ?_
          refine q_Ru_call (v := (some (.int 1))) (h2 := (q_cM q_AM q_IM q_J0, 34, 31630)) rfl rfl ?_ ?_
          · refine q_Ca_of (Nat.le_of_ble_eq_true rfl) ?_
            refine q_Ru_seg (g2 := (15, [(0, .int 2), (1, .int 0), (2, .int 4)], [.int 1], (q_cM q_AM q_IM q_J0, 34, 31630))) 8 (fun _ _ => rfl) ?_
            exact q_Ru_ret rfl rfl
          show q_Ru _ _ _ (7, [(0, .ref 64), (1, .int 2)], [.int 1, .ref 64], (q_cM q_AM q_IM q_J0, 34, 31630)) _
          refine q_Ru_seg (g2 := (15, [(0, .ref 64), (1, .int 2)], [.int 0, .ref 64], (q_cM q_AM q_IM q_J0, 34, 31630))) 3 (fun _ _ => rfl) ?_
          refine q_Ru_call (v := (some (.int 0))) (h2 := (q_cM q_AM (q_uI q_IM 0 39 0) q_J0, 34, 31630)) rfl rfl ?_ ?_
          · refine q_Ca_of (Nat.le_of_ble_eq_true rfl) ?_
            refine q_Ru_seg (g2 := (14, [(0, .ref 64), (1, .int 0)], [.int 0], (q_cM q_AM (q_uI q_IM 0 39 0) q_J0, 34, 31630))) 6 (fun _ _ => rfl) ?_
            exact q_Ru_ret rfl rfl
          show q_Ru _ _ _ (18, [(0, .ref 64), (1, .int 2)], [.int 0], (q_cM q_AM (q_uI q_IM 0 39 0) q_J0, 34, 31630)) _
          refine q_Ru_seg (g2 := (31, [(0, .ref 64), (1, .int 2)], [.int 0], (q_cM q_AM (q_uI q_IM 0 39 0) q_J0, 34, 31630))) 5 (fun _ _ => rfl) ?_
          exact q_Ru_ret rfl rfl
      | 3, _, e138 =>
        have e138 : a = 3 := e138
        subst e138
        refine ⟨0, 255, 255, ⟨(q_cX q_AX q_IX (q_uA q_J0 39 (vp_updL (fun _ => 0) 0 255)), 40, 26520), (q_uA q_J0 39 (vp_updL (fun _ => 0) 0 255)) 39, ?_, rfl, fun _ => rfl, Nat.le_of_ble_eq_true rfl, Nat.le_of_ble_eq_true rfl⟩, ⟨(q_cM q_AM (q_uI q_IM 0 39 0) q_J0, 34, 31630), _, ?_, rfl, rfl, Nat.le_of_ble_eq_true rfl, Nat.le_of_ble_eq_true rfl⟩, fun _ => rfl⟩
        · refine q_Ca_of (Nat.le_of_ble_eq_true rfl) ?_
          refine q_Ru_seg (g2 := (4, [(0, .ref 64), (1, .int 3), (2, .ref 103)], [.int 3, .ref 64, .int 0, .ref 103], (q_cX q_AX q_IX q_J0, 40, 26520))) 4 (fun _ _ => rfl) ?_
          refine q_Ru_call (v := (some (.int 255))) (h2 := (q_cX q_AX q_IX q_J0, 40, 26520)) rfl rfl ?_ ?_
          · refine q_Ca_of (Nat.le_of_ble_eq_true rfl) ?_
            refine q_Ru_seg (g2 := (2, [(0, .ref 64), (1, .int 3)], [.int 5, .int 3], (q_cX q_AX q_IX q_J0, 40, 26520))) 2 (fun _ _ => rfl) ?_
            refine q_Ru_call (v := none) (h2 := (q_cX q_AX q_IX q_J0, 40, 26520)) rfl rfl ?_ ?_
            · refine q_Ca_of (Nat.le_of_ble_eq_true rfl) ?_
              refine q_Ru_seg (g2 := (19, [(0, .int 3), (1, .int 5)], [], (q_cX q_AX q_IX q_J0, 40, 26520))) 5 (fun _ _ => rfl) ?_
              exact q_Ru_ret rfl rfl
            show q_Ru _ _ _ (5, [(0, .ref 64), (1, .int 3)], [], (q_cX q_AX q_IX q_J0, 40, 26520)) _
            refine q_Ru_seg (g2 := (13, [(0, .ref 64), (1, .int 3)], [.int 3, .ref 88], (q_cX q_AX q_IX q_J0, 40, 26520))) 4 (fun _ _ => rfl) ?_
            refine q_Ru_call (v := (some (.int 255))) (h2 := (q_cX q_AX q_IX q_J0, 40, 26520)) rfl rfl ?_ ?_
            · refine q_Ca_of (Nat.le_of_ble_eq_true rfl) ?_
              refine q_Ru_seg (g2 := (51, [(0, .ref 88), (1, .int 3)], [.int 255], (q_cX q_AX q_IX q_J0, 40, 26520))) 4 (fun _ _ => rfl) ?_
              exact q_Ru_ret rfl rfl
            show q_Ru _ _ _ (16, [(0, .ref 64), (1, .int 3)], [.int 255], (q_cX q_AX q_IX q_J0, 40, 26520)) _
            exact q_Ru_ret rfl rfl
          show q_Ru _ _ _ (7, [(0, .ref 64), (1, .int 3), (2, .ref 103)], [.int 255, .int 0, .ref 103], (q_cX q_AX q_IX q_J0, 40, 26520)) _
          refine q_Ru_seg (g2 := (16, [(0, .ref 64), (1, .int 3), (2, .ref 103)], [.int 0], (q_cX q_AX q_IX (q_uA q_J0 39 (vp_updL (fun _ => 0) 0 255)), 40, 26520))) 4 (fun _ _ => rfl) ?_
          exact q_Ru_ret rfl rfl
        · refine q_Ca_of (Nat.le_of_ble_eq_true rfl) ?_
          refine q_Ru_seg (g2 := (4, [(0, .ref 64), (1, .int 3)], [.int 4, .int 0, .int 3, .ref 64], (q_cM q_AM q_IM q_J0, 34, 31630))) 4 (fun _ _ => rfl) ?_
          refine q_Ru_call (v := (some (.int 1))) (h2 := (q_cM q_AM q_IM q_J0, 34, 31630)) rfl rfl ?_ ?_
          · refine q_Ca_of (Nat.le_of_ble_eq_true rfl) ?_
            refine q_Ru_seg (g2 := (15, [(0, .int 3), (1, .int 0), (2, .int 4)], [.int 1], (q_cM q_AM q_IM q_J0, 34, 31630))) 8 (fun _ _ => rfl) ?_
            exact q_Ru_ret rfl rfl
          show q_Ru _ _ _ (7, [(0, .ref 64), (1, .int 3)], [.int 1, .ref 64], (q_cM q_AM q_IM q_J0, 34, 31630)) _
          refine q_Ru_seg (g2 := (15, [(0, .ref 64), (1, .int 3)], [.int 0, .ref 64], (q_cM q_AM q_IM q_J0, 34, 31630))) 3 (fun _ _ => rfl) ?_
          refine q_Ru_call (v := (some (.int 0))) (h2 := (q_cM q_AM (q_uI q_IM 0 39 0) q_J0, 34, 31630)) rfl rfl ?_ ?_
          · refine q_Ca_of (Nat.le_of_ble_eq_true rfl) ?_
            refine q_Ru_seg (g2 := (14, [(0, .ref 64), (1, .int 0)], [.int 0], (q_cM q_AM (q_uI q_IM 0 39 0) q_J0, 34, 31630))) 6 (fun _ _ => rfl) ?_
            exact q_Ru_ret rfl rfl
          show q_Ru _ _ _ (18, [(0, .ref 64), (1, .int 3)], [.int 0], (q_cM q_AM (q_uI q_IM 0 39 0) q_J0, 34, 31630)) _
          refine q_Ru_seg (g2 := (31, [(0, .ref 64), (1, .int 3)], [.int 255], (q_cM q_AM (q_uI q_IM 0 39 0) q_J0, 34, 31630))) 5 (fun _ _ => rfl) ?_
          exact q_Ru_ret rfl rfl
      | 4, _, e138 =>
        have e138 : a = 4 := e138
        subst e138
        refine ⟨0, 0, 0, ⟨(q_cX q_AX q_IX (q_uA q_J0 39 (vp_updL (fun _ => 0) 0 0)), 40, 26520), (q_uA q_J0 39 (vp_updL (fun _ => 0) 0 0)) 39, ?_, rfl, fun _ => rfl, Nat.le_of_ble_eq_true rfl, Nat.le_of_ble_eq_true rfl⟩, ⟨(q_cM q_AM (q_uI q_IM 0 39 0) q_J0, 34, 31630), _, ?_, rfl, rfl, Nat.le_of_ble_eq_true rfl, Nat.le_of_ble_eq_true rfl⟩, fun _ => rfl⟩
        · refine q_Ca_of (Nat.le_of_ble_eq_true rfl) ?_
          refine q_Ru_seg (g2 := (4, [(0, .ref 64), (1, .int 4), (2, .ref 103)], [.int 4, .ref 64, .int 0, .ref 103], (q_cX q_AX q_IX q_J0, 40, 26520))) 4 (fun _ _ => rfl) ?_
          refine q_Ru_call (v := (some (.int 0))) (h2 := (q_cX q_AX q_IX q_J0, 40, 26520)) rfl rfl ?_ ?_
          · refine q_Ca_of (Nat.le_of_ble_eq_true rfl) ?_
            refine q_Ru_seg (g2 := (2, [(0, .ref 64), (1, .int 4)], [.int 5, .int 4], (q_cX q_AX q_IX q_J0, 40, 26520))) 2 (fun _ _ => rfl) ?_
            refine q_Ru_call (v := none) (h2 := (q_cX q_AX q_IX q_J0, 40, 26520)) rfl rfl ?_ ?_
            · refine q_Ca_of (Nat.le_of_ble_eq_true rfl) ?_
              refine q_Ru_seg (g2 := (19, [(0, .int 4), (1, .int 5)], [], (q_cX q_AX q_IX q_J0, 40, 26520))) 5 (fun _ _ => rfl) ?_
              exact q_Ru_ret rfl rfl
            show q_Ru _ _ _ (5, [(0, .ref 64), (1, .int 4)], [], (q_cX q_AX q_IX q_J0, 40, 26520)) _
            refine q_Ru_seg (g2 := (13, [(0, .ref 64), (1, .int 4)], [.int 4, .ref 88], (q_cX q_AX q_IX q_J0, 40, 26520))) 4 (fun _ _ => rfl) ?_
            refine q_Ru_call (v := (some (.int 0))) (h2 := (q_cX q_AX q_IX q_J0, 40, 26520)) rfl rfl ?_ ?_
            · refine q_Ca_of (Nat.le_of_ble_eq_true rfl) ?_
              refine q_Ru_seg (g2 := (56, [(0, .ref 88), (1, .int 4)], [.int 0], (q_cX q_AX q_IX q_J0, 40, 26520))) 4 (fun _ _ => rfl) ?_
              exact q_Ru_ret rfl rfl
            show q_Ru _ _ _ (16, [(0, .ref 64), (1, .int 4)], [.int 0], (q_cX q_AX q_IX q_J0, 40, 26520)) _
            exact q_Ru_ret rfl rfl
          show q_Ru _ _ _ (7, [(0, .ref 64), (1, .int 4), (2, .ref 103)], [.int 0, .int 0, .ref 103], (q_cX q_AX q_IX q_J0, 40, 26520)) _
          refine q_Ru_seg (g2 := (16, [(0, .ref 64), (1, .int 4), (2, .ref 103)], [.int 0], (q_cX q_AX q_IX (q_uA q_J0 39 (vp_updL (fun _ => 0) 0 0)), 40, 26520))) 4 (fun _ _ => rfl) ?_
          exact q_Ru_ret rfl rfl
        · refine q_Ca_of (Nat.le_of_ble_eq_true rfl) ?_
          refine q_Ru_seg (g2 := (4, [(0, .ref 64), (1, .int 4)], [.int 4, .int 0, .int 4, .ref 64], (q_cM q_AM q_IM q_J0, 34, 31630))) 4 (fun _ _ => rfl) ?_
          refine q_Ru_call (v := (some (.int 1))) (h2 := (q_cM q_AM q_IM q_J0, 34, 31630)) rfl rfl ?_ ?_
          · refine q_Ca_of (Nat.le_of_ble_eq_true rfl) ?_
            refine q_Ru_seg (g2 := (15, [(0, .int 4), (1, .int 0), (2, .int 4)], [.int 1], (q_cM q_AM q_IM q_J0, 34, 31630))) 8 (fun _ _ => rfl) ?_
            exact q_Ru_ret rfl rfl
          show q_Ru _ _ _ (7, [(0, .ref 64), (1, .int 4)], [.int 1, .ref 64], (q_cM q_AM q_IM q_J0, 34, 31630)) _
          refine q_Ru_seg (g2 := (15, [(0, .ref 64), (1, .int 4)], [.int 0, .ref 64], (q_cM q_AM q_IM q_J0, 34, 31630))) 3 (fun _ _ => rfl) ?_
          refine q_Ru_call (v := (some (.int 0))) (h2 := (q_cM q_AM (q_uI q_IM 0 39 0) q_J0, 34, 31630)) rfl rfl ?_ ?_
          · refine q_Ca_of (Nat.le_of_ble_eq_true rfl) ?_
            refine q_Ru_seg (g2 := (14, [(0, .ref 64), (1, .int 0)], [.int 0], (q_cM q_AM (q_uI q_IM 0 39 0) q_J0, 34, 31630))) 6 (fun _ _ => rfl) ?_
            exact q_Ru_ret rfl rfl
          show q_Ru _ _ _ (18, [(0, .ref 64), (1, .int 4)], [.int 0], (q_cM q_AM (q_uI q_IM 0 39 0) q_J0, 34, 31630)) _
          refine q_Ru_seg (g2 := (31, [(0, .ref 64), (1, .int 4)], [.int 0], (q_cM q_AM (q_uI q_IM 0 39 0) q_J0, 34, 31630))) 5 (fun _ _ => rfl) ?_
          exact q_Ru_ret rfl rfl
      | j138 + 5, g138, _ => exact absurd g138 (by omega)
    | false =>
      cases h139 : decide (4 < a) with
      | true =>
        refine ⟨1, 0, 0, ⟨(q_cX q_AX q_IX q_J0, 40 + 1, 26520 + 6), q_J0 39, ?_, rfl, fun h => absurd h (by decide), Nat.le_of_ble_eq_true rfl, Nat.le_of_ble_eq_true rfl⟩, ⟨(q_cM q_AM (q_uI q_IM 0 39 1) q_J0, 34, 31630), _, ?_, rfl, rfl, Nat.le_of_ble_eq_true rfl, Nat.le_of_ble_eq_true rfl⟩, fun h => absurd h (by decide)⟩
        · refine q_Ca_of (Nat.le_of_ble_eq_true rfl) ?_
          refine q_Ru_seg (g2 := (4, [(0, .ref 64), (1, .int a), (2, .ref 103)], [.int a, .ref 64, .int 0, .ref 103], (q_cX q_AX q_IX q_J0, 40, 26520))) 4 (fun _ _ => rfl) ?_
          refine q_Ru_callH (E := "java/lang/IndexOutOfBoundsException") (tg := 13) (i := 3) (h2 := (q_cX q_AX q_IX q_J0, 40 + 1, 26520 + 6)) rfl rfl ?_ rfl ?_
          · refine q_Ca_of (Nat.le_of_ble_eq_true rfl) ?_
            refine q_Ru_seg (g2 := (2, [(0, .ref 64), (1, .int a)], [.int 5, .int a], (q_cX q_AX q_IX q_J0, 40, 26520))) 2 (fun _ _ => rfl) ?_
            refine q_Ru_callX (E := "java/lang/IndexOutOfBoundsException") (h2 := (q_cX q_AX q_IX q_J0, 40 + 1, 26520 + 6)) rfl rfl ?_
            refine q_Ca_of (Nat.le_of_ble_eq_true rfl) ?_
            refine q_Ru_seg (g2 := (1, [(0, .int a), (1, .int 5)], [.int a], (q_cX q_AX q_IX q_J0, 40, 26520))) 1 (fun _ _ => rfl) ?_
            refine q_Ru_rsF (g2 := (4, [(0, .int a), (1, .int 5)], [], (q_cX q_AX q_IX q_J0, 40, 26520))) rfl rfl h136 ?_
            refine q_Ru_seg (g2 := (6, [(0, .int a), (1, .int 5)], [.int 5, .int a], (q_cX q_AX q_IX q_J0, 40, 26520))) 2 (fun _ _ => rfl) ?_
            refine q_Ru_rsF (g2 := (9, [(0, .int a), (1, .int 5)], [], (q_cX q_AX q_IX q_J0, 40, 26520))) rfl rfl h137 ?_
            exact q_Ru_thr rfl rfl
          show q_Ru _ _ _ (13, [(0, .ref 64), (1, .int a), (2, .ref 103)], [], (q_cX q_AX q_IX q_J0, 40 + 1, 26520 + 6)) _
          refine q_Ru_seg (g2 := (14, [(0, .ref 64), (1, .int a), (2, .ref 103)], [.int 1], (q_cX q_AX q_IX q_J0, 40 + 1, 26520 + 6))) 1 (fun _ _ => rfl) ?_
          exact q_Ru_ret rfl rfl
        · refine q_Ca_of (Nat.le_of_ble_eq_true rfl) ?_
          refine q_Ru_seg (g2 := (4, [(0, .ref 64), (1, .int a)], [.int 4, .int 0, .int a, .ref 64], (q_cM q_AM q_IM q_J0, 34, 31630))) 4 (fun _ _ => rfl) ?_
          refine q_Ru_call (v := (some (.int 0))) (h2 := (q_cM q_AM q_IM q_J0, 34, 31630)) rfl rfl ?_ ?_
          · refine q_Ca_of (Nat.le_of_ble_eq_true rfl) ?_
            refine q_Ru_seg (g2 := (2, [(0, .int a), (1, .int 0), (2, .int 4)], [.int 0, .int a], (q_cM q_AM q_IM q_J0, 34, 31630))) 2 (fun _ _ => rfl) ?_
            refine q_Ru_rsF (g2 := (5, [(0, .int a), (1, .int 0), (2, .int 4)], [], (q_cM q_AM q_IM q_J0, 34, 31630))) rfl rfl h136 ?_
            refine q_Ru_seg (g2 := (7, [(0, .int a), (1, .int 0), (2, .int 4)], [.int 4, .int a], (q_cM q_AM q_IM q_J0, 34, 31630))) 2 (fun _ _ => rfl) ?_
            refine q_Ru_rsT (g2 := (14, [(0, .int a), (1, .int 0), (2, .int 4)], [], (q_cM q_AM q_IM q_J0, 34, 31630))) rfl rfl h139 ?_
            refine q_Ru_seg (g2 := (15, [(0, .int a), (1, .int 0), (2, .int 4)], [.int 0], (q_cM q_AM q_IM q_J0, 34, 31630))) 1 (fun _ _ => rfl) ?_
            exact q_Ru_ret rfl rfl
          show q_Ru _ _ _ (7, [(0, .ref 64), (1, .int a)], [.int 0, .ref 64], (q_cM q_AM q_IM q_J0, 34, 31630)) _
          refine q_Ru_seg (g2 := (15, [(0, .ref 64), (1, .int a)], [.int 1, .ref 64], (q_cM q_AM q_IM q_J0, 34, 31630))) 2 (fun _ _ => rfl) ?_
          refine q_Ru_call (v := (some (.int 1))) (h2 := (q_cM q_AM (q_uI q_IM 0 39 1) q_J0, 34, 31630)) rfl rfl ?_ ?_
          · refine q_Ca_of (Nat.le_of_ble_eq_true rfl) ?_
            refine q_Ru_seg (g2 := (14, [(0, .ref 64), (1, .int 1)], [.int 1], (q_cM q_AM (q_uI q_IM 0 39 1) q_J0, 34, 31630))) 7 (fun _ _ => rfl) ?_
            exact q_Ru_ret rfl rfl
          show q_Ru _ _ _ (18, [(0, .ref 64), (1, .int a)], [.int 1], (q_cM q_AM (q_uI q_IM 0 39 1) q_J0, 34, 31630)) _
          refine q_Ru_seg (g2 := (31, [(0, .ref 64), (1, .int a)], [.int 0], (q_cM q_AM (q_uI q_IM 0 39 1) q_J0, 34, 31630))) 3 (fun _ _ => rfl) ?_
          exact q_Ru_ret rfl rfl
      | false =>
        exact q_no (q_lo1 h137) (q_hi2 h139) (by decide)
set_option maxHeartbeats 20000000 in
theorem q_op_traceAt (a : Int32) : ∃ (r b : Int32) (w : Int64), q_opX 13 [.int a] r w ∧ q_opM 243 [.int a] r (.int b) ∧ (r = 0 → w = b.toInt64) := by
  cases h140 : decide (a < 0) with
  | true =>
    refine ⟨1, 0, 0, ⟨(q_cX q_AX q_IX q_J0, 40 + 1, 26520 + 6), q_J0 39, ?_, rfl, fun h => absurd h (by decide), Nat.le_of_ble_eq_true rfl, Nat.le_of_ble_eq_true rfl⟩, ⟨(q_cM q_AM (q_uI q_IM 0 39 1) q_J0, 34, 31630), _, ?_, rfl, rfl, Nat.le_of_ble_eq_true rfl, Nat.le_of_ble_eq_true rfl⟩, fun h => absurd h (by decide)⟩
    · refine q_Ca_of (Nat.le_of_ble_eq_true rfl) ?_
      refine q_Ru_seg (g2 := (4, [(0, .ref 64), (1, .int a), (2, .ref 103)], [.int a, .ref 64, .int 0, .ref 103], (q_cX q_AX q_IX q_J0, 40, 26520))) 4 (fun _ _ => rfl) ?_
      refine q_Ru_callH (E := "java/lang/IndexOutOfBoundsException") (tg := 13) (i := 3) (h2 := (q_cX q_AX q_IX q_J0, 40 + 1, 26520 + 6)) rfl rfl ?_ rfl ?_
      · refine q_Ca_of (Nat.le_of_ble_eq_true rfl) ?_
        refine q_Ru_seg (g2 := (27, [(2, .ref 88), (0, .ref 64), (1, .int a)], [.int 0, .int a], (q_cX q_AX q_IX q_J0, 40, 26520))) 12 (fun _ _ => rfl) ?_
        refine q_Ru_callX (E := "java/lang/IndexOutOfBoundsException") (h2 := (q_cX q_AX q_IX q_J0, 40 + 1, 26520 + 6)) rfl rfl ?_
        refine q_Ca_of (Nat.le_of_ble_eq_true rfl) ?_
        refine q_Ru_seg (g2 := (1, [(0, .int a), (1, .int 0)], [.int a], (q_cX q_AX q_IX q_J0, 40, 26520))) 1 (fun _ _ => rfl) ?_
        refine q_Ru_rsT (g2 := (9, [(0, .int a), (1, .int 0)], [], (q_cX q_AX q_IX q_J0, 40, 26520))) rfl rfl h140 ?_
        exact q_Ru_thr rfl rfl
      show q_Ru _ _ _ (13, [(0, .ref 64), (1, .int a), (2, .ref 103)], [], (q_cX q_AX q_IX q_J0, 40 + 1, 26520 + 6)) _
      refine q_Ru_seg (g2 := (14, [(0, .ref 64), (1, .int a), (2, .ref 103)], [.int 1], (q_cX q_AX q_IX q_J0, 40 + 1, 26520 + 6))) 1 (fun _ _ => rfl) ?_
      exact q_Ru_ret rfl rfl
    · refine q_Ca_of (Nat.le_of_ble_eq_true rfl) ?_
      refine q_Ru_seg (g2 := (17, [(0, .ref 64), (1, .int a)], [.int (-1), .int 0, .int a, .ref 64], (q_cM q_AM q_IM q_J0, 34, 31630))) 11 (fun _ _ => rfl) ?_
      refine q_Ru_call (v := (some (.int 0))) (h2 := (q_cM q_AM q_IM q_J0, 34, 31630)) rfl rfl ?_ ?_
      · refine q_Ca_of (Nat.le_of_ble_eq_true rfl) ?_
        refine q_Ru_seg (g2 := (2, [(0, .int a), (1, .int 0), (2, .int (-1))], [.int 0, .int a], (q_cM q_AM q_IM q_J0, 34, 31630))) 2 (fun _ _ => rfl) ?_
        refine q_Ru_rsT (g2 := (14, [(0, .int a), (1, .int 0), (2, .int (-1))], [], (q_cM q_AM q_IM q_J0, 34, 31630))) rfl rfl h140 ?_
        refine q_Ru_seg (g2 := (15, [(0, .int a), (1, .int 0), (2, .int (-1))], [.int 0], (q_cM q_AM q_IM q_J0, 34, 31630))) 1 (fun _ _ => rfl) ?_
        exact q_Ru_ret rfl rfl
      show q_Ru _ _ _ (20, [(0, .ref 64), (1, .int a)], [.int 0, .ref 64], (q_cM q_AM q_IM q_J0, 34, 31630)) _
      refine q_Ru_seg (g2 := (28, [(0, .ref 64), (1, .int a)], [.int 1, .ref 64], (q_cM q_AM q_IM q_J0, 34, 31630))) 2 (fun _ _ => rfl) ?_
      refine q_Ru_call (v := (some (.int 1))) (h2 := (q_cM q_AM (q_uI q_IM 0 39 1) q_J0, 34, 31630)) rfl rfl ?_ ?_
      · refine q_Ca_of (Nat.le_of_ble_eq_true rfl) ?_
        refine q_Ru_seg (g2 := (14, [(0, .ref 64), (1, .int 1)], [.int 1], (q_cM q_AM (q_uI q_IM 0 39 1) q_J0, 34, 31630))) 7 (fun _ _ => rfl) ?_
        exact q_Ru_ret rfl rfl
      show q_Ru _ _ _ (31, [(0, .ref 64), (1, .int a)], [.int 1], (q_cM q_AM (q_uI q_IM 0 39 1) q_J0, 34, 31630)) _
      refine q_Ru_seg (g2 := (57, [(0, .ref 64), (1, .int a)], [.int 0], (q_cM q_AM (q_uI q_IM 0 39 1) q_J0, 34, 31630))) 3 (fun _ _ => rfl) ?_
      exact q_Ru_ret rfl rfl
  | false =>
    cases h141 : decide ((-1) < a) with
    | true =>
      refine ⟨1, 0, 0, ⟨(q_cX q_AX q_IX q_J0, 40 + 1, 26520 + 6), q_J0 39, ?_, rfl, fun h => absurd h (by decide), Nat.le_of_ble_eq_true rfl, Nat.le_of_ble_eq_true rfl⟩, ⟨(q_cM q_AM (q_uI q_IM 0 39 1) q_J0, 34, 31630), _, ?_, rfl, rfl, Nat.le_of_ble_eq_true rfl, Nat.le_of_ble_eq_true rfl⟩, fun h => absurd h (by decide)⟩
      · refine q_Ca_of (Nat.le_of_ble_eq_true rfl) ?_
        refine q_Ru_seg (g2 := (4, [(0, .ref 64), (1, .int a), (2, .ref 103)], [.int a, .ref 64, .int 0, .ref 103], (q_cX q_AX q_IX q_J0, 40, 26520))) 4 (fun _ _ => rfl) ?_
        refine q_Ru_callH (E := "java/lang/IndexOutOfBoundsException") (tg := 13) (i := 3) (h2 := (q_cX q_AX q_IX q_J0, 40 + 1, 26520 + 6)) rfl rfl ?_ rfl ?_
        · refine q_Ca_of (Nat.le_of_ble_eq_true rfl) ?_
          refine q_Ru_seg (g2 := (27, [(2, .ref 88), (0, .ref 64), (1, .int a)], [.int 0, .int a], (q_cX q_AX q_IX q_J0, 40, 26520))) 12 (fun _ _ => rfl) ?_
          refine q_Ru_callX (E := "java/lang/IndexOutOfBoundsException") (h2 := (q_cX q_AX q_IX q_J0, 40 + 1, 26520 + 6)) rfl rfl ?_
          refine q_Ca_of (Nat.le_of_ble_eq_true rfl) ?_
          refine q_Ru_seg (g2 := (1, [(0, .int a), (1, .int 0)], [.int a], (q_cX q_AX q_IX q_J0, 40, 26520))) 1 (fun _ _ => rfl) ?_
          refine q_Ru_rsF (g2 := (4, [(0, .int a), (1, .int 0)], [], (q_cX q_AX q_IX q_J0, 40, 26520))) rfl rfl h140 ?_
          refine q_Ru_seg (g2 := (6, [(0, .int a), (1, .int 0)], [.int 0, .int a], (q_cX q_AX q_IX q_J0, 40, 26520))) 2 (fun _ _ => rfl) ?_
          refine q_Ru_rsF (g2 := (9, [(0, .int a), (1, .int 0)], [], (q_cX q_AX q_IX q_J0, 40, 26520))) rfl rfl h140 ?_
          exact q_Ru_thr rfl rfl
        show q_Ru _ _ _ (13, [(0, .ref 64), (1, .int a), (2, .ref 103)], [], (q_cX q_AX q_IX q_J0, 40 + 1, 26520 + 6)) _
        refine q_Ru_seg (g2 := (14, [(0, .ref 64), (1, .int a), (2, .ref 103)], [.int 1], (q_cX q_AX q_IX q_J0, 40 + 1, 26520 + 6))) 1 (fun _ _ => rfl) ?_
        exact q_Ru_ret rfl rfl
      · refine q_Ca_of (Nat.le_of_ble_eq_true rfl) ?_
        refine q_Ru_seg (g2 := (17, [(0, .ref 64), (1, .int a)], [.int (-1), .int 0, .int a, .ref 64], (q_cM q_AM q_IM q_J0, 34, 31630))) 11 (fun _ _ => rfl) ?_
        refine q_Ru_call (v := (some (.int 0))) (h2 := (q_cM q_AM q_IM q_J0, 34, 31630)) rfl rfl ?_ ?_
        · refine q_Ca_of (Nat.le_of_ble_eq_true rfl) ?_
          refine q_Ru_seg (g2 := (2, [(0, .int a), (1, .int 0), (2, .int (-1))], [.int 0, .int a], (q_cM q_AM q_IM q_J0, 34, 31630))) 2 (fun _ _ => rfl) ?_
          refine q_Ru_rsF (g2 := (5, [(0, .int a), (1, .int 0), (2, .int (-1))], [], (q_cM q_AM q_IM q_J0, 34, 31630))) rfl rfl h140 ?_
          refine q_Ru_seg (g2 := (7, [(0, .int a), (1, .int 0), (2, .int (-1))], [.int (-1), .int a], (q_cM q_AM q_IM q_J0, 34, 31630))) 2 (fun _ _ => rfl) ?_
          refine q_Ru_rsT (g2 := (14, [(0, .int a), (1, .int 0), (2, .int (-1))], [], (q_cM q_AM q_IM q_J0, 34, 31630))) rfl rfl h141 ?_
          refine q_Ru_seg (g2 := (15, [(0, .int a), (1, .int 0), (2, .int (-1))], [.int 0], (q_cM q_AM q_IM q_J0, 34, 31630))) 1 (fun _ _ => rfl) ?_
          exact q_Ru_ret rfl rfl
        show q_Ru _ _ _ (20, [(0, .ref 64), (1, .int a)], [.int 0, .ref 64], (q_cM q_AM q_IM q_J0, 34, 31630)) _
        refine q_Ru_seg (g2 := (28, [(0, .ref 64), (1, .int a)], [.int 1, .ref 64], (q_cM q_AM q_IM q_J0, 34, 31630))) 2 (fun _ _ => rfl) ?_
        refine q_Ru_call (v := (some (.int 1))) (h2 := (q_cM q_AM (q_uI q_IM 0 39 1) q_J0, 34, 31630)) rfl rfl ?_ ?_
        · refine q_Ca_of (Nat.le_of_ble_eq_true rfl) ?_
          refine q_Ru_seg (g2 := (14, [(0, .ref 64), (1, .int 1)], [.int 1], (q_cM q_AM (q_uI q_IM 0 39 1) q_J0, 34, 31630))) 7 (fun _ _ => rfl) ?_
          exact q_Ru_ret rfl rfl
        show q_Ru _ _ _ (31, [(0, .ref 64), (1, .int a)], [.int 1], (q_cM q_AM (q_uI q_IM 0 39 1) q_J0, 34, 31630)) _
        refine q_Ru_seg (g2 := (57, [(0, .ref 64), (1, .int a)], [.int 0], (q_cM q_AM (q_uI q_IM 0 39 1) q_J0, 34, 31630))) 3 (fun _ _ => rfl) ?_
        exact q_Ru_ret rfl rfl
    | false =>
      exact q_no (q_lo1 h140) (q_hi2 h141) (by decide)
set_option maxHeartbeats 20000000 in
theorem q_op_pixel (a v : Int32) : ∃ (r b : Int32) (w : Int64), q_opX 14 [.int a, .int v] r w ∧ q_opM 294 [.int a, .int v] r (.int b) ∧ (r = 0 → w = b.toInt64) := by
  cases h142 : decide (a < 0) with
  | true =>
    refine ⟨1, 0, 0, ⟨(q_cX q_AX q_IX q_J0, 40 + 1, 26520 + 6), q_J0 39, ?_, rfl, fun h => absurd h (by decide), Nat.le_of_ble_eq_true rfl, Nat.le_of_ble_eq_true rfl⟩, ⟨(q_cM q_AM (q_uI q_IM 0 39 1) q_J0, 34, 31630), _, ?_, rfl, rfl, Nat.le_of_ble_eq_true rfl, Nat.le_of_ble_eq_true rfl⟩, fun h => absurd h (by decide)⟩
    · refine q_Ca_of (Nat.le_of_ble_eq_true rfl) ?_
      refine q_Ru_seg (g2 := (5, [(0, .ref 64), (1, .int a), (2, .int v), (3, .ref 103)], [.int v, .int a, .ref 64, .int 0, .ref 103], (q_cX q_AX q_IX q_J0, 40, 26520))) 5 (fun _ _ => rfl) ?_
      refine q_Ru_callH (E := "java/lang/IndexOutOfBoundsException") (tg := 15) (i := 4) (h2 := (q_cX q_AX q_IX q_J0, 40 + 1, 26520 + 6)) rfl rfl ?_ rfl ?_
      · refine q_Ca_of (Nat.le_of_ble_eq_true rfl) ?_
        refine q_Ru_seg (g2 := (3, [(0, .ref 64), (1, .int a), (2, .int v)], [.int 32, .int a], (q_cX q_AX q_IX q_J0, 40, 26520))) 2 (fun _ _ => rfl) ?_
        refine q_Ru_callX (E := "java/lang/IndexOutOfBoundsException") (h2 := (q_cX q_AX q_IX q_J0, 40 + 1, 26520 + 6)) rfl rfl ?_
        refine q_Ca_of (Nat.le_of_ble_eq_true rfl) ?_
        refine q_Ru_seg (g2 := (1, [(0, .int a), (1, .int 32)], [.int a], (q_cX q_AX q_IX q_J0, 40, 26520))) 1 (fun _ _ => rfl) ?_
        refine q_Ru_rsT (g2 := (9, [(0, .int a), (1, .int 32)], [], (q_cX q_AX q_IX q_J0, 40, 26520))) rfl rfl h142 ?_
        exact q_Ru_thr rfl rfl
      show q_Ru _ _ _ (15, [(0, .ref 64), (1, .int a), (2, .int v), (3, .ref 103)], [], (q_cX q_AX q_IX q_J0, 40 + 1, 26520 + 6)) _
      refine q_Ru_seg (g2 := (16, [(0, .ref 64), (1, .int a), (2, .int v), (3, .ref 103)], [.int 1], (q_cX q_AX q_IX q_J0, 40 + 1, 26520 + 6))) 1 (fun _ _ => rfl) ?_
      exact q_Ru_ret rfl rfl
    · refine q_Ca_of (Nat.le_of_ble_eq_true rfl) ?_
      refine q_Ru_seg (g2 := (3, [(0, .ref 64), (1, .int a), (2, .int v)], [.int v, .int a, .ref 64], (q_cM q_AM q_IM q_J0, 34, 31630))) 3 (fun _ _ => rfl) ?_
      refine q_Ru_call (v := (some (.int 0))) (h2 := (q_cM q_AM (q_uI q_IM 0 39 1) q_J0, 34, 31630)) rfl rfl ?_ ?_
      · refine q_Ca_of (Nat.le_of_ble_eq_true rfl) ?_
        refine q_Ru_seg (g2 := (5, [(0, .ref 64), (1, .int a), (2, .int v)], [.int 31, .int 0, .int a, .ref 64], (q_cM q_AM q_IM q_J0, 34, 31630))) 4 (fun _ _ => rfl) ?_
        refine q_Ru_call (v := (some (.int 0))) (h2 := (q_cM q_AM q_IM q_J0, 34, 31630)) rfl rfl ?_ ?_
        · refine q_Ca_of (Nat.le_of_ble_eq_true rfl) ?_
          refine q_Ru_seg (g2 := (2, [(0, .int a), (1, .int 0), (2, .int 31)], [.int 0, .int a], (q_cM q_AM q_IM q_J0, 34, 31630))) 2 (fun _ _ => rfl) ?_
          refine q_Ru_rsT (g2 := (14, [(0, .int a), (1, .int 0), (2, .int 31)], [], (q_cM q_AM q_IM q_J0, 34, 31630))) rfl rfl h142 ?_
          refine q_Ru_seg (g2 := (15, [(0, .int a), (1, .int 0), (2, .int 31)], [.int 0], (q_cM q_AM q_IM q_J0, 34, 31630))) 1 (fun _ _ => rfl) ?_
          exact q_Ru_ret rfl rfl
        show q_Ru _ _ _ (8, [(0, .ref 64), (1, .int a), (2, .int v)], [.int 0, .ref 64], (q_cM q_AM q_IM q_J0, 34, 31630)) _
        refine q_Ru_seg (g2 := (26, [(0, .ref 64), (1, .int a), (2, .int v)], [.int 1, .ref 64], (q_cM q_AM q_IM q_J0, 34, 31630))) 2 (fun _ _ => rfl) ?_
        refine q_Ru_call (v := (some (.int 1))) (h2 := (q_cM q_AM (q_uI q_IM 0 39 1) q_J0, 34, 31630)) rfl rfl ?_ ?_
        · refine q_Ca_of (Nat.le_of_ble_eq_true rfl) ?_
          refine q_Ru_seg (g2 := (14, [(0, .ref 64), (1, .int 1)], [.int 1], (q_cM q_AM (q_uI q_IM 0 39 1) q_J0, 34, 31630))) 7 (fun _ _ => rfl) ?_
          exact q_Ru_ret rfl rfl
        show q_Ru _ _ _ (29, [(0, .ref 64), (1, .int a), (2, .int v)], [.int 1], (q_cM q_AM (q_uI q_IM 0 39 1) q_J0, 34, 31630)) _
        refine q_Ru_seg (g2 := (47, [(0, .ref 64), (1, .int a), (2, .int v)], [.int 0], (q_cM q_AM (q_uI q_IM 0 39 1) q_J0, 34, 31630))) 3 (fun _ _ => rfl) ?_
        exact q_Ru_ret rfl rfl
      show q_Ru _ _ _ (6, [(0, .ref 64), (1, .int a), (2, .int v)], [.int 0], (q_cM q_AM (q_uI q_IM 0 39 1) q_J0, 34, 31630)) _
      exact q_Ru_ret rfl rfl
  | false =>
    cases h143 : decide (a < 32) with
    | true =>
      cases h144 : decide (v < 0) with
      | true =>
        cases h145 : decide (31 < a) with
        | true =>
          exact q_no (q_lo2 h145) (q_hi1 h143) (by decide)
        | false =>
          refine ⟨1, 0, 0, ⟨(q_cX q_AX q_IX q_J0, 40 + 1, 26520 + 6), q_J0 39, ?_, rfl, fun h => absurd h (by decide), Nat.le_of_ble_eq_true rfl, Nat.le_of_ble_eq_true rfl⟩, ⟨(q_cM q_AM (q_uI q_IM 0 39 1) q_J0, 34, 31630), _, ?_, rfl, rfl, Nat.le_of_ble_eq_true rfl, Nat.le_of_ble_eq_true rfl⟩, fun h => absurd h (by decide)⟩
          · refine q_Ca_of (Nat.le_of_ble_eq_true rfl) ?_
            refine q_Ru_seg (g2 := (5, [(0, .ref 64), (1, .int a), (2, .int v), (3, .ref 103)], [.int v, .int a, .ref 64, .int 0, .ref 103], (q_cX q_AX q_IX q_J0, 40, 26520))) 5 (fun _ _ => rfl) ?_
            refine q_Ru_callH (E := "java/lang/IndexOutOfBoundsException") (tg := 15) (i := 4) (h2 := (q_cX q_AX q_IX q_J0, 40 + 1, 26520 + 6)) rfl rfl ?_ rfl ?_
            · refine q_Ca_of (Nat.le_of_ble_eq_true rfl) ?_
              refine q_Ru_seg (g2 := (3, [(0, .ref 64), (1, .int a), (2, .int v)], [.int 32, .int a], (q_cX q_AX q_IX q_J0, 40, 26520))) 2 (fun _ _ => rfl) ?_
              refine q_Ru_call (v := none) (h2 := (q_cX q_AX q_IX q_J0, 40, 26520)) rfl rfl ?_ ?_
              · refine q_Ca_of (Nat.le_of_ble_eq_true rfl) ?_
                refine q_Ru_seg (g2 := (1, [(0, .int a), (1, .int 32)], [.int a], (q_cX q_AX q_IX q_J0, 40, 26520))) 1 (fun _ _ => rfl) ?_
                refine q_Ru_rsF (g2 := (4, [(0, .int a), (1, .int 32)], [], (q_cX q_AX q_IX q_J0, 40, 26520))) rfl rfl h142 ?_
                refine q_Ru_seg (g2 := (6, [(0, .int a), (1, .int 32)], [.int 32, .int a], (q_cX q_AX q_IX q_J0, 40, 26520))) 2 (fun _ _ => rfl) ?_
                refine q_Ru_rsT (g2 := (19, [(0, .int a), (1, .int 32)], [], (q_cX q_AX q_IX q_J0, 40, 26520))) rfl rfl h143 ?_
                exact q_Ru_ret rfl rfl
              show q_Ru _ _ _ (6, [(0, .ref 64), (1, .int a), (2, .int v)], [], (q_cX q_AX q_IX q_J0, 40, 26520)) _
              refine q_Ru_seg (g2 := (9, [(0, .ref 64), (1, .int a), (2, .int v)], [.int 32, .int v], (q_cX q_AX q_IX q_J0, 40, 26520))) 2 (fun _ _ => rfl) ?_
              refine q_Ru_callX (E := "java/lang/IndexOutOfBoundsException") (h2 := (q_cX q_AX q_IX q_J0, 40 + 1, 26520 + 6)) rfl rfl ?_
              refine q_Ca_of (Nat.le_of_ble_eq_true rfl) ?_
              refine q_Ru_seg (g2 := (1, [(0, .int v), (1, .int 32)], [.int v], (q_cX q_AX q_IX q_J0, 40, 26520))) 1 (fun _ _ => rfl) ?_
              refine q_Ru_rsT (g2 := (9, [(0, .int v), (1, .int 32)], [], (q_cX q_AX q_IX q_J0, 40, 26520))) rfl rfl h144 ?_
              exact q_Ru_thr rfl rfl
            show q_Ru _ _ _ (15, [(0, .ref 64), (1, .int a), (2, .int v), (3, .ref 103)], [], (q_cX q_AX q_IX q_J0, 40 + 1, 26520 + 6)) _
            refine q_Ru_seg (g2 := (16, [(0, .ref 64), (1, .int a), (2, .int v), (3, .ref 103)], [.int 1], (q_cX q_AX q_IX q_J0, 40 + 1, 26520 + 6))) 1 (fun _ _ => rfl) ?_
            exact q_Ru_ret rfl rfl
          · refine q_Ca_of (Nat.le_of_ble_eq_true rfl) ?_
            refine q_Ru_seg (g2 := (3, [(0, .ref 64), (1, .int a), (2, .int v)], [.int v, .int a, .ref 64], (q_cM q_AM q_IM q_J0, 34, 31630))) 3 (fun _ _ => rfl) ?_
            refine q_Ru_call (v := (some (.int 0))) (h2 := (q_cM q_AM (q_uI q_IM 0 39 1) q_J0, 34, 31630)) rfl rfl ?_ ?_
            · refine q_Ca_of (Nat.le_of_ble_eq_true rfl) ?_
              refine q_Ru_seg (g2 := (5, [(0, .ref 64), (1, .int a), (2, .int v)], [.int 31, .int 0, .int a, .ref 64], (q_cM q_AM q_IM q_J0, 34, 31630))) 4 (fun _ _ => rfl) ?_
              refine q_Ru_call (v := (some (.int 1))) (h2 := (q_cM q_AM q_IM q_J0, 34, 31630)) rfl rfl ?_ ?_
              · refine q_Ca_of (Nat.le_of_ble_eq_true rfl) ?_
                refine q_Ru_seg (g2 := (2, [(0, .int a), (1, .int 0), (2, .int 31)], [.int 0, .int a], (q_cM q_AM q_IM q_J0, 34, 31630))) 2 (fun _ _ => rfl) ?_
                refine q_Ru_rsF (g2 := (5, [(0, .int a), (1, .int 0), (2, .int 31)], [], (q_cM q_AM q_IM q_J0, 34, 31630))) rfl rfl h142 ?_
                refine q_Ru_seg (g2 := (7, [(0, .int a), (1, .int 0), (2, .int 31)], [.int 31, .int a], (q_cM q_AM q_IM q_J0, 34, 31630))) 2 (fun _ _ => rfl) ?_
                refine q_Ru_rsF (g2 := (10, [(0, .int a), (1, .int 0), (2, .int 31)], [], (q_cM q_AM q_IM q_J0, 34, 31630))) rfl rfl h145 ?_
                refine q_Ru_seg (g2 := (15, [(0, .int a), (1, .int 0), (2, .int 31)], [.int 1], (q_cM q_AM q_IM q_J0, 34, 31630))) 2 (fun _ _ => rfl) ?_
                exact q_Ru_ret rfl rfl
              show q_Ru _ _ _ (8, [(0, .ref 64), (1, .int a), (2, .int v)], [.int 1, .ref 64], (q_cM q_AM q_IM q_J0, 34, 31630)) _
              refine q_Ru_seg (g2 := (15, [(0, .ref 64), (1, .int a), (2, .int v)], [.int 31, .int 0, .int v, .ref 64], (q_cM q_AM q_IM q_J0, 34, 31630))) 4 (fun _ _ => rfl) ?_
              refine q_Ru_call (v := (some (.int 0))) (h2 := (q_cM q_AM q_IM q_J0, 34, 31630)) rfl rfl ?_ ?_
              · refine q_Ca_of (Nat.le_of_ble_eq_true rfl) ?_
                refine q_Ru_seg (g2 := (2, [(0, .int v), (1, .int 0), (2, .int 31)], [.int 0, .int v], (q_cM q_AM q_IM q_J0, 34, 31630))) 2 (fun _ _ => rfl) ?_
                refine q_Ru_rsT (g2 := (14, [(0, .int v), (1, .int 0), (2, .int 31)], [], (q_cM q_AM q_IM q_J0, 34, 31630))) rfl rfl h144 ?_
                refine q_Ru_seg (g2 := (15, [(0, .int v), (1, .int 0), (2, .int 31)], [.int 0], (q_cM q_AM q_IM q_J0, 34, 31630))) 1 (fun _ _ => rfl) ?_
                exact q_Ru_ret rfl rfl
              show q_Ru _ _ _ (18, [(0, .ref 64), (1, .int a), (2, .int v)], [.int 0, .ref 64], (q_cM q_AM q_IM q_J0, 34, 31630)) _
              refine q_Ru_seg (g2 := (26, [(0, .ref 64), (1, .int a), (2, .int v)], [.int 1, .ref 64], (q_cM q_AM q_IM q_J0, 34, 31630))) 2 (fun _ _ => rfl) ?_
              refine q_Ru_call (v := (some (.int 1))) (h2 := (q_cM q_AM (q_uI q_IM 0 39 1) q_J0, 34, 31630)) rfl rfl ?_ ?_
              · refine q_Ca_of (Nat.le_of_ble_eq_true rfl) ?_
                refine q_Ru_seg (g2 := (14, [(0, .ref 64), (1, .int 1)], [.int 1], (q_cM q_AM (q_uI q_IM 0 39 1) q_J0, 34, 31630))) 7 (fun _ _ => rfl) ?_
                exact q_Ru_ret rfl rfl
              show q_Ru _ _ _ (29, [(0, .ref 64), (1, .int a), (2, .int v)], [.int 1], (q_cM q_AM (q_uI q_IM 0 39 1) q_J0, 34, 31630)) _
              refine q_Ru_seg (g2 := (47, [(0, .ref 64), (1, .int a), (2, .int v)], [.int 0], (q_cM q_AM (q_uI q_IM 0 39 1) q_J0, 34, 31630))) 3 (fun _ _ => rfl) ?_
              exact q_Ru_ret rfl rfl
            show q_Ru _ _ _ (6, [(0, .ref 64), (1, .int a), (2, .int v)], [.int 0], (q_cM q_AM (q_uI q_IM 0 39 1) q_J0, 34, 31630)) _
            exact q_Ru_ret rfl rfl
      | false =>
        cases h146 : decide (v < 32) with
        | true =>
          cases h147 : decide (31 < a) with
          | true =>
            exact q_no (q_lo2 h147) (q_hi1 h143) (by decide)
          | false =>
            cases h148 : decide (31 < v) with
            | true =>
              exact q_no (q_lo2 h148) (q_hi1 h146) (by decide)
            | false =>
              refine ⟨0, 0, 0, ⟨(q_cX q_AX q_IX (q_uA q_J0 39 (vp_updL (fun _ => 0) 0 0)), 40, 26520), (q_uA q_J0 39 (vp_updL (fun _ => 0) 0 0)) 39, ?_, rfl, fun _ => rfl, Nat.le_of_ble_eq_true rfl, Nat.le_of_ble_eq_true rfl⟩, ⟨(q_cM q_AM (q_uI q_IM 0 39 0) q_J0, 34, 31630), _, ?_, rfl, rfl, Nat.le_of_ble_eq_true rfl, Nat.le_of_ble_eq_true rfl⟩, fun _ => rfl⟩
              · refine q_Ca_of (Nat.le_of_ble_eq_true rfl) ?_
                refine q_Ru_seg (g2 := (5, [(0, .ref 64), (1, .int a), (2, .int v), (3, .ref 103)], [.int v, .int a, .ref 64, .int 0, .ref 103], (q_cX q_AX q_IX q_J0, 40, 26520))) 5 (fun _ _ => rfl) ?_
                refine q_Ru_call (v := (some (.int 0))) (h2 := (q_cX q_AX q_IX q_J0, 40, 26520)) rfl rfl ?_ ?_
                · refine q_Ca_of (Nat.le_of_ble_eq_true rfl) ?_
                  refine q_Ru_seg (g2 := (3, [(0, .ref 64), (1, .int a), (2, .int v)], [.int 32, .int a], (q_cX q_AX q_IX q_J0, 40, 26520))) 2 (fun _ _ => rfl) ?_
                  refine q_Ru_call (v := none) (h2 := (q_cX q_AX q_IX q_J0, 40, 26520)) rfl rfl ?_ ?_
                  · refine q_Ca_of (Nat.le_of_ble_eq_true rfl) ?_
                    refine q_Ru_seg (g2 := (1, [(0, .int a), (1, .int 32)], [.int a], (q_cX q_AX q_IX q_J0, 40, 26520))) 1 (fun _ _ => rfl) ?_
                    refine q_Ru_rsF (g2 := (4, [(0, .int a), (1, .int 32)], [], (q_cX q_AX q_IX q_J0, 40, 26520))) rfl rfl h142 ?_
                    refine q_Ru_seg (g2 := (6, [(0, .int a), (1, .int 32)], [.int 32, .int a], (q_cX q_AX q_IX q_J0, 40, 26520))) 2 (fun _ _ => rfl) ?_
                    refine q_Ru_rsT (g2 := (19, [(0, .int a), (1, .int 32)], [], (q_cX q_AX q_IX q_J0, 40, 26520))) rfl rfl h143 ?_
                    exact q_Ru_ret rfl rfl
                  show q_Ru _ _ _ (6, [(0, .ref 64), (1, .int a), (2, .int v)], [], (q_cX q_AX q_IX q_J0, 40, 26520)) _
                  refine q_Ru_seg (g2 := (9, [(0, .ref 64), (1, .int a), (2, .int v)], [.int 32, .int v], (q_cX q_AX q_IX q_J0, 40, 26520))) 2 (fun _ _ => rfl) ?_
                  refine q_Ru_call (v := none) (h2 := (q_cX q_AX q_IX q_J0, 40, 26520)) rfl rfl ?_ ?_
                  · refine q_Ca_of (Nat.le_of_ble_eq_true rfl) ?_
                    refine q_Ru_seg (g2 := (1, [(0, .int v), (1, .int 32)], [.int v], (q_cX q_AX q_IX q_J0, 40, 26520))) 1 (fun _ _ => rfl) ?_
                    refine q_Ru_rsF (g2 := (4, [(0, .int v), (1, .int 32)], [], (q_cX q_AX q_IX q_J0, 40, 26520))) rfl rfl h144 ?_
                    refine q_Ru_seg (g2 := (6, [(0, .int v), (1, .int 32)], [.int 32, .int v], (q_cX q_AX q_IX q_J0, 40, 26520))) 2 (fun _ _ => rfl) ?_
                    refine q_Ru_rsT (g2 := (19, [(0, .int v), (1, .int 32)], [], (q_cX q_AX q_IX q_J0, 40, 26520))) rfl rfl h146 ?_
                    exact q_Ru_ret rfl rfl
                  show q_Ru _ _ _ (12, [(0, .ref 64), (1, .int a), (2, .int v)], [], (q_cX q_AX q_IX q_J0, 40, 26520)) _
                  refine q_Ru_seg (g2 := (29, [(0, .ref 64), (1, .int a), (2, .int v)], [.int (((32 * v) + a) &&& 1023), .ref 96], (q_cX q_AX q_IX q_J0, 40, 26520))) 10 (fun _ _ => rfl) ?_
                  refine q_Ru_rsT (g2 := (30, [(0, .ref 64), (1, .int a), (2, .int v)], [.int 0], (q_cX q_AX q_IX q_J0, 40, 26520))) rfl rfl (q_in_bd (x := ((32 * v) + a) &&& 1023) (n := 1024) (U := 1023) (L := 0) (q_and_lo ((32 * v) + a) 1023) (q_and_hi ((32 * v) + a) 1023 1023)) ?_
                  exact q_Ru_ret rfl rfl
                show q_Ru _ _ _ (8, [(0, .ref 64), (1, .int a), (2, .int v), (3, .ref 103)], [.int 0, .int 0, .ref 103], (q_cX q_AX q_IX q_J0, 40, 26520)) _
                refine q_Ru_seg (g2 := (18, [(0, .ref 64), (1, .int a), (2, .int v), (3, .ref 103)], [.int 0], (q_cX q_AX q_IX (q_uA q_J0 39 (vp_updL (fun _ => 0) 0 0)), 40, 26520))) 4 (fun _ _ => rfl) ?_
                exact q_Ru_ret rfl rfl
              · refine q_Ca_of (Nat.le_of_ble_eq_true rfl) ?_
                refine q_Ru_seg (g2 := (3, [(0, .ref 64), (1, .int a), (2, .int v)], [.int v, .int a, .ref 64], (q_cM q_AM q_IM q_J0, 34, 31630))) 3 (fun _ _ => rfl) ?_
                refine q_Ru_call (v := (some (.int 0))) (h2 := (q_cM q_AM (q_uI q_IM 0 39 0) q_J0, 34, 31630)) rfl rfl ?_ ?_
                · refine q_Ca_of (Nat.le_of_ble_eq_true rfl) ?_
                  refine q_Ru_seg (g2 := (5, [(0, .ref 64), (1, .int a), (2, .int v)], [.int 31, .int 0, .int a, .ref 64], (q_cM q_AM q_IM q_J0, 34, 31630))) 4 (fun _ _ => rfl) ?_
                  refine q_Ru_call (v := (some (.int 1))) (h2 := (q_cM q_AM q_IM q_J0, 34, 31630)) rfl rfl ?_ ?_
                  · refine q_Ca_of (Nat.le_of_ble_eq_true rfl) ?_
                    refine q_Ru_seg (g2 := (2, [(0, .int a), (1, .int 0), (2, .int 31)], [.int 0, .int a], (q_cM q_AM q_IM q_J0, 34, 31630))) 2 (fun _ _ => rfl) ?_
                    refine q_Ru_rsF (g2 := (5, [(0, .int a), (1, .int 0), (2, .int 31)], [], (q_cM q_AM q_IM q_J0, 34, 31630))) rfl rfl h142 ?_
                    refine q_Ru_seg (g2 := (7, [(0, .int a), (1, .int 0), (2, .int 31)], [.int 31, .int a], (q_cM q_AM q_IM q_J0, 34, 31630))) 2 (fun _ _ => rfl) ?_
                    refine q_Ru_rsF (g2 := (10, [(0, .int a), (1, .int 0), (2, .int 31)], [], (q_cM q_AM q_IM q_J0, 34, 31630))) rfl rfl h147 ?_
                    refine q_Ru_seg (g2 := (15, [(0, .int a), (1, .int 0), (2, .int 31)], [.int 1], (q_cM q_AM q_IM q_J0, 34, 31630))) 2 (fun _ _ => rfl) ?_
                    exact q_Ru_ret rfl rfl
                  show q_Ru _ _ _ (8, [(0, .ref 64), (1, .int a), (2, .int v)], [.int 1, .ref 64], (q_cM q_AM q_IM q_J0, 34, 31630)) _
                  refine q_Ru_seg (g2 := (15, [(0, .ref 64), (1, .int a), (2, .int v)], [.int 31, .int 0, .int v, .ref 64], (q_cM q_AM q_IM q_J0, 34, 31630))) 4 (fun _ _ => rfl) ?_
                  refine q_Ru_call (v := (some (.int 1))) (h2 := (q_cM q_AM q_IM q_J0, 34, 31630)) rfl rfl ?_ ?_
                  · refine q_Ca_of (Nat.le_of_ble_eq_true rfl) ?_
                    refine q_Ru_seg (g2 := (2, [(0, .int v), (1, .int 0), (2, .int 31)], [.int 0, .int v], (q_cM q_AM q_IM q_J0, 34, 31630))) 2 (fun _ _ => rfl) ?_
                    refine q_Ru_rsF (g2 := (5, [(0, .int v), (1, .int 0), (2, .int 31)], [], (q_cM q_AM q_IM q_J0, 34, 31630))) rfl rfl h144 ?_
                    refine q_Ru_seg (g2 := (7, [(0, .int v), (1, .int 0), (2, .int 31)], [.int 31, .int v], (q_cM q_AM q_IM q_J0, 34, 31630))) 2 (fun _ _ => rfl) ?_
                    refine q_Ru_rsF (g2 := (10, [(0, .int v), (1, .int 0), (2, .int 31)], [], (q_cM q_AM q_IM q_J0, 34, 31630))) rfl rfl h148 ?_
                    refine q_Ru_seg (g2 := (15, [(0, .int v), (1, .int 0), (2, .int 31)], [.int 1], (q_cM q_AM q_IM q_J0, 34, 31630))) 2 (fun _ _ => rfl) ?_
                    exact q_Ru_ret rfl rfl
                  show q_Ru _ _ _ (18, [(0, .ref 64), (1, .int a), (2, .int v)], [.int 1, .ref 64], (q_cM q_AM q_IM q_J0, 34, 31630)) _
                  refine q_Ru_seg (g2 := (26, [(0, .ref 64), (1, .int a), (2, .int v)], [.int 0, .ref 64], (q_cM q_AM q_IM q_J0, 34, 31630))) 3 (fun _ _ => rfl) ?_
                  refine q_Ru_call (v := (some (.int 0))) (h2 := (q_cM q_AM (q_uI q_IM 0 39 0) q_J0, 34, 31630)) rfl rfl ?_ ?_
                  · refine q_Ca_of (Nat.le_of_ble_eq_true rfl) ?_
                    refine q_Ru_seg (g2 := (14, [(0, .ref 64), (1, .int 0)], [.int 0], (q_cM q_AM (q_uI q_IM 0 39 0) q_J0, 34, 31630))) 6 (fun _ _ => rfl) ?_
                    exact q_Ru_ret rfl rfl
                  show q_Ru _ _ _ (29, [(0, .ref 64), (1, .int a), (2, .int v)], [.int 0], (q_cM q_AM (q_uI q_IM 0 39 0) q_J0, 34, 31630)) _
                  refine q_Ru_seg (g2 := (46, [(0, .ref 64), (1, .int a), (2, .int v)], [.int ((32 * v) + a), .ref 69], (q_cM q_AM (q_uI q_IM 0 39 0) q_J0, 34, 31630))) 8 (fun _ _ => rfl) ?_
                  refine q_Ru_rsT (g2 := (47, [(0, .ref 64), (1, .int a), (2, .int v)], [.int 0], (q_cM q_AM (q_uI q_IM 0 39 0) q_J0, 34, 31630))) rfl rfl (q_in_lin (k := 32) (v := v) (a := a) (n := 1024) (V := 31) (M := 31) (q_lo1 h144) (q_hi1 h146) (q_lo1 h142) (q_hi1 h143)) ?_
                  exact q_Ru_ret rfl rfl
                show q_Ru _ _ _ (6, [(0, .ref 64), (1, .int a), (2, .int v)], [.int 0], (q_cM q_AM (q_uI q_IM 0 39 0) q_J0, 34, 31630)) _
                exact q_Ru_ret rfl rfl
        | false =>
          cases h149 : decide (31 < a) with
          | true =>
            exact q_no (q_lo2 h149) (q_hi1 h143) (by decide)
          | false =>
            cases h150 : decide (31 < v) with
            | true =>
              refine ⟨1, 0, 0, ⟨(q_cX q_AX q_IX q_J0, 40 + 1, 26520 + 6), q_J0 39, ?_, rfl, fun h => absurd h (by decide), Nat.le_of_ble_eq_true rfl, Nat.le_of_ble_eq_true rfl⟩, ⟨(q_cM q_AM (q_uI q_IM 0 39 1) q_J0, 34, 31630), _, ?_, rfl, rfl, Nat.le_of_ble_eq_true rfl, Nat.le_of_ble_eq_true rfl⟩, fun h => absurd h (by decide)⟩
              · refine q_Ca_of (Nat.le_of_ble_eq_true rfl) ?_
                refine q_Ru_seg (g2 := (5, [(0, .ref 64), (1, .int a), (2, .int v), (3, .ref 103)], [.int v, .int a, .ref 64, .int 0, .ref 103], (q_cX q_AX q_IX q_J0, 40, 26520))) 5 (fun _ _ => rfl) ?_
                refine q_Ru_callH (E := "java/lang/IndexOutOfBoundsException") (tg := 15) (i := 4) (h2 := (q_cX q_AX q_IX q_J0, 40 + 1, 26520 + 6)) rfl rfl ?_ rfl ?_
                · refine q_Ca_of (Nat.le_of_ble_eq_true rfl) ?_
                  refine q_Ru_seg (g2 := (3, [(0, .ref 64), (1, .int a), (2, .int v)], [.int 32, .int a], (q_cX q_AX q_IX q_J0, 40, 26520))) 2 (fun _ _ => rfl) ?_
                  refine q_Ru_call (v := none) (h2 := (q_cX q_AX q_IX q_J0, 40, 26520)) rfl rfl ?_ ?_
                  · refine q_Ca_of (Nat.le_of_ble_eq_true rfl) ?_
                    refine q_Ru_seg (g2 := (1, [(0, .int a), (1, .int 32)], [.int a], (q_cX q_AX q_IX q_J0, 40, 26520))) 1 (fun _ _ => rfl) ?_
                    refine q_Ru_rsF (g2 := (4, [(0, .int a), (1, .int 32)], [], (q_cX q_AX q_IX q_J0, 40, 26520))) rfl rfl h142 ?_
                    refine q_Ru_seg (g2 := (6, [(0, .int a), (1, .int 32)], [.int 32, .int a], (q_cX q_AX q_IX q_J0, 40, 26520))) 2 (fun _ _ => rfl) ?_
                    refine q_Ru_rsT (g2 := (19, [(0, .int a), (1, .int 32)], [], (q_cX q_AX q_IX q_J0, 40, 26520))) rfl rfl h143 ?_
                    exact q_Ru_ret rfl rfl
                  show q_Ru _ _ _ (6, [(0, .ref 64), (1, .int a), (2, .int v)], [], (q_cX q_AX q_IX q_J0, 40, 26520)) _
                  refine q_Ru_seg (g2 := (9, [(0, .ref 64), (1, .int a), (2, .int v)], [.int 32, .int v], (q_cX q_AX q_IX q_J0, 40, 26520))) 2 (fun _ _ => rfl) ?_
                  refine q_Ru_callX (E := "java/lang/IndexOutOfBoundsException") (h2 := (q_cX q_AX q_IX q_J0, 40 + 1, 26520 + 6)) rfl rfl ?_
                  refine q_Ca_of (Nat.le_of_ble_eq_true rfl) ?_
                  refine q_Ru_seg (g2 := (1, [(0, .int v), (1, .int 32)], [.int v], (q_cX q_AX q_IX q_J0, 40, 26520))) 1 (fun _ _ => rfl) ?_
                  refine q_Ru_rsF (g2 := (4, [(0, .int v), (1, .int 32)], [], (q_cX q_AX q_IX q_J0, 40, 26520))) rfl rfl h144 ?_
                  refine q_Ru_seg (g2 := (6, [(0, .int v), (1, .int 32)], [.int 32, .int v], (q_cX q_AX q_IX q_J0, 40, 26520))) 2 (fun _ _ => rfl) ?_
                  refine q_Ru_rsF (g2 := (9, [(0, .int v), (1, .int 32)], [], (q_cX q_AX q_IX q_J0, 40, 26520))) rfl rfl h146 ?_
                  exact q_Ru_thr rfl rfl
                show q_Ru _ _ _ (15, [(0, .ref 64), (1, .int a), (2, .int v), (3, .ref 103)], [], (q_cX q_AX q_IX q_J0, 40 + 1, 26520 + 6)) _
                refine q_Ru_seg (g2 := (16, [(0, .ref 64), (1, .int a), (2, .int v), (3, .ref 103)], [.int 1], (q_cX q_AX q_IX q_J0, 40 + 1, 26520 + 6))) 1 (fun _ _ => rfl) ?_
                exact q_Ru_ret rfl rfl
              · refine q_Ca_of (Nat.le_of_ble_eq_true rfl) ?_
                refine q_Ru_seg (g2 := (3, [(0, .ref 64), (1, .int a), (2, .int v)], [.int v, .int a, .ref 64], (q_cM q_AM q_IM q_J0, 34, 31630))) 3 (fun _ _ => rfl) ?_
                refine q_Ru_call (v := (some (.int 0))) (h2 := (q_cM q_AM (q_uI q_IM 0 39 1) q_J0, 34, 31630)) rfl rfl ?_ ?_
                · refine q_Ca_of (Nat.le_of_ble_eq_true rfl) ?_
                  refine q_Ru_seg (g2 := (5, [(0, .ref 64), (1, .int a), (2, .int v)], [.int 31, .int 0, .int a, .ref 64], (q_cM q_AM q_IM q_J0, 34, 31630))) 4 (fun _ _ => rfl) ?_
                  refine q_Ru_call (v := (some (.int 1))) (h2 := (q_cM q_AM q_IM q_J0, 34, 31630)) rfl rfl ?_ ?_
                  · refine q_Ca_of (Nat.le_of_ble_eq_true rfl) ?_
                    refine q_Ru_seg (g2 := (2, [(0, .int a), (1, .int 0), (2, .int 31)], [.int 0, .int a], (q_cM q_AM q_IM q_J0, 34, 31630))) 2 (fun _ _ => rfl) ?_
                    refine q_Ru_rsF (g2 := (5, [(0, .int a), (1, .int 0), (2, .int 31)], [], (q_cM q_AM q_IM q_J0, 34, 31630))) rfl rfl h142 ?_
                    refine q_Ru_seg (g2 := (7, [(0, .int a), (1, .int 0), (2, .int 31)], [.int 31, .int a], (q_cM q_AM q_IM q_J0, 34, 31630))) 2 (fun _ _ => rfl) ?_
                    refine q_Ru_rsF (g2 := (10, [(0, .int a), (1, .int 0), (2, .int 31)], [], (q_cM q_AM q_IM q_J0, 34, 31630))) rfl rfl h149 ?_
                    refine q_Ru_seg (g2 := (15, [(0, .int a), (1, .int 0), (2, .int 31)], [.int 1], (q_cM q_AM q_IM q_J0, 34, 31630))) 2 (fun _ _ => rfl) ?_
                    exact q_Ru_ret rfl rfl
                  show q_Ru _ _ _ (8, [(0, .ref 64), (1, .int a), (2, .int v)], [.int 1, .ref 64], (q_cM q_AM q_IM q_J0, 34, 31630)) _
                  refine q_Ru_seg (g2 := (15, [(0, .ref 64), (1, .int a), (2, .int v)], [.int 31, .int 0, .int v, .ref 64], (q_cM q_AM q_IM q_J0, 34, 31630))) 4 (fun _ _ => rfl) ?_
                  refine q_Ru_call (v := (some (.int 0))) (h2 := (q_cM q_AM q_IM q_J0, 34, 31630)) rfl rfl ?_ ?_
                  · refine q_Ca_of (Nat.le_of_ble_eq_true rfl) ?_
                    refine q_Ru_seg (g2 := (2, [(0, .int v), (1, .int 0), (2, .int 31)], [.int 0, .int v], (q_cM q_AM q_IM q_J0, 34, 31630))) 2 (fun _ _ => rfl) ?_
                    refine q_Ru_rsF (g2 := (5, [(0, .int v), (1, .int 0), (2, .int 31)], [], (q_cM q_AM q_IM q_J0, 34, 31630))) rfl rfl h144 ?_
                    refine q_Ru_seg (g2 := (7, [(0, .int v), (1, .int 0), (2, .int 31)], [.int 31, .int v], (q_cM q_AM q_IM q_J0, 34, 31630))) 2 (fun _ _ => rfl) ?_
                    refine q_Ru_rsT (g2 := (14, [(0, .int v), (1, .int 0), (2, .int 31)], [], (q_cM q_AM q_IM q_J0, 34, 31630))) rfl rfl h150 ?_
                    refine q_Ru_seg (g2 := (15, [(0, .int v), (1, .int 0), (2, .int 31)], [.int 0], (q_cM q_AM q_IM q_J0, 34, 31630))) 1 (fun _ _ => rfl) ?_
                    exact q_Ru_ret rfl rfl
                  show q_Ru _ _ _ (18, [(0, .ref 64), (1, .int a), (2, .int v)], [.int 0, .ref 64], (q_cM q_AM q_IM q_J0, 34, 31630)) _
                  refine q_Ru_seg (g2 := (26, [(0, .ref 64), (1, .int a), (2, .int v)], [.int 1, .ref 64], (q_cM q_AM q_IM q_J0, 34, 31630))) 2 (fun _ _ => rfl) ?_
                  refine q_Ru_call (v := (some (.int 1))) (h2 := (q_cM q_AM (q_uI q_IM 0 39 1) q_J0, 34, 31630)) rfl rfl ?_ ?_
                  · refine q_Ca_of (Nat.le_of_ble_eq_true rfl) ?_
                    refine q_Ru_seg (g2 := (14, [(0, .ref 64), (1, .int 1)], [.int 1], (q_cM q_AM (q_uI q_IM 0 39 1) q_J0, 34, 31630))) 7 (fun _ _ => rfl) ?_
                    exact q_Ru_ret rfl rfl
                  show q_Ru _ _ _ (29, [(0, .ref 64), (1, .int a), (2, .int v)], [.int 1], (q_cM q_AM (q_uI q_IM 0 39 1) q_J0, 34, 31630)) _
                  refine q_Ru_seg (g2 := (47, [(0, .ref 64), (1, .int a), (2, .int v)], [.int 0], (q_cM q_AM (q_uI q_IM 0 39 1) q_J0, 34, 31630))) 3 (fun _ _ => rfl) ?_
                  exact q_Ru_ret rfl rfl
                show q_Ru _ _ _ (6, [(0, .ref 64), (1, .int a), (2, .int v)], [.int 0], (q_cM q_AM (q_uI q_IM 0 39 1) q_J0, 34, 31630)) _
                exact q_Ru_ret rfl rfl
            | false =>
              exact q_no (q_lo1 h146) (q_hi2 h150) (by decide)
    | false =>
      cases h151 : decide (31 < a) with
      | true =>
        refine ⟨1, 0, 0, ⟨(q_cX q_AX q_IX q_J0, 40 + 1, 26520 + 6), q_J0 39, ?_, rfl, fun h => absurd h (by decide), Nat.le_of_ble_eq_true rfl, Nat.le_of_ble_eq_true rfl⟩, ⟨(q_cM q_AM (q_uI q_IM 0 39 1) q_J0, 34, 31630), _, ?_, rfl, rfl, Nat.le_of_ble_eq_true rfl, Nat.le_of_ble_eq_true rfl⟩, fun h => absurd h (by decide)⟩
        · refine q_Ca_of (Nat.le_of_ble_eq_true rfl) ?_
          refine q_Ru_seg (g2 := (5, [(0, .ref 64), (1, .int a), (2, .int v), (3, .ref 103)], [.int v, .int a, .ref 64, .int 0, .ref 103], (q_cX q_AX q_IX q_J0, 40, 26520))) 5 (fun _ _ => rfl) ?_
          refine q_Ru_callH (E := "java/lang/IndexOutOfBoundsException") (tg := 15) (i := 4) (h2 := (q_cX q_AX q_IX q_J0, 40 + 1, 26520 + 6)) rfl rfl ?_ rfl ?_
          · refine q_Ca_of (Nat.le_of_ble_eq_true rfl) ?_
            refine q_Ru_seg (g2 := (3, [(0, .ref 64), (1, .int a), (2, .int v)], [.int 32, .int a], (q_cX q_AX q_IX q_J0, 40, 26520))) 2 (fun _ _ => rfl) ?_
            refine q_Ru_callX (E := "java/lang/IndexOutOfBoundsException") (h2 := (q_cX q_AX q_IX q_J0, 40 + 1, 26520 + 6)) rfl rfl ?_
            refine q_Ca_of (Nat.le_of_ble_eq_true rfl) ?_
            refine q_Ru_seg (g2 := (1, [(0, .int a), (1, .int 32)], [.int a], (q_cX q_AX q_IX q_J0, 40, 26520))) 1 (fun _ _ => rfl) ?_
            refine q_Ru_rsF (g2 := (4, [(0, .int a), (1, .int 32)], [], (q_cX q_AX q_IX q_J0, 40, 26520))) rfl rfl h142 ?_
            refine q_Ru_seg (g2 := (6, [(0, .int a), (1, .int 32)], [.int 32, .int a], (q_cX q_AX q_IX q_J0, 40, 26520))) 2 (fun _ _ => rfl) ?_
            refine q_Ru_rsF (g2 := (9, [(0, .int a), (1, .int 32)], [], (q_cX q_AX q_IX q_J0, 40, 26520))) rfl rfl h143 ?_
            exact q_Ru_thr rfl rfl
          show q_Ru _ _ _ (15, [(0, .ref 64), (1, .int a), (2, .int v), (3, .ref 103)], [], (q_cX q_AX q_IX q_J0, 40 + 1, 26520 + 6)) _
          refine q_Ru_seg (g2 := (16, [(0, .ref 64), (1, .int a), (2, .int v), (3, .ref 103)], [.int 1], (q_cX q_AX q_IX q_J0, 40 + 1, 26520 + 6))) 1 (fun _ _ => rfl) ?_
          exact q_Ru_ret rfl rfl
        · refine q_Ca_of (Nat.le_of_ble_eq_true rfl) ?_
          refine q_Ru_seg (g2 := (3, [(0, .ref 64), (1, .int a), (2, .int v)], [.int v, .int a, .ref 64], (q_cM q_AM q_IM q_J0, 34, 31630))) 3 (fun _ _ => rfl) ?_
          refine q_Ru_call (v := (some (.int 0))) (h2 := (q_cM q_AM (q_uI q_IM 0 39 1) q_J0, 34, 31630)) rfl rfl ?_ ?_
          · refine q_Ca_of (Nat.le_of_ble_eq_true rfl) ?_
            refine q_Ru_seg (g2 := (5, [(0, .ref 64), (1, .int a), (2, .int v)], [.int 31, .int 0, .int a, .ref 64], (q_cM q_AM q_IM q_J0, 34, 31630))) 4 (fun _ _ => rfl) ?_
            refine q_Ru_call (v := (some (.int 0))) (h2 := (q_cM q_AM q_IM q_J0, 34, 31630)) rfl rfl ?_ ?_
            · refine q_Ca_of (Nat.le_of_ble_eq_true rfl) ?_
              refine q_Ru_seg (g2 := (2, [(0, .int a), (1, .int 0), (2, .int 31)], [.int 0, .int a], (q_cM q_AM q_IM q_J0, 34, 31630))) 2 (fun _ _ => rfl) ?_
              refine q_Ru_rsF (g2 := (5, [(0, .int a), (1, .int 0), (2, .int 31)], [], (q_cM q_AM q_IM q_J0, 34, 31630))) rfl rfl h142 ?_
              refine q_Ru_seg (g2 := (7, [(0, .int a), (1, .int 0), (2, .int 31)], [.int 31, .int a], (q_cM q_AM q_IM q_J0, 34, 31630))) 2 (fun _ _ => rfl) ?_
              refine q_Ru_rsT (g2 := (14, [(0, .int a), (1, .int 0), (2, .int 31)], [], (q_cM q_AM q_IM q_J0, 34, 31630))) rfl rfl h151 ?_
              refine q_Ru_seg (g2 := (15, [(0, .int a), (1, .int 0), (2, .int 31)], [.int 0], (q_cM q_AM q_IM q_J0, 34, 31630))) 1 (fun _ _ => rfl) ?_
              exact q_Ru_ret rfl rfl
            show q_Ru _ _ _ (8, [(0, .ref 64), (1, .int a), (2, .int v)], [.int 0, .ref 64], (q_cM q_AM q_IM q_J0, 34, 31630)) _
            refine q_Ru_seg (g2 := (26, [(0, .ref 64), (1, .int a), (2, .int v)], [.int 1, .ref 64], (q_cM q_AM q_IM q_J0, 34, 31630))) 2 (fun _ _ => rfl) ?_
            refine q_Ru_call (v := (some (.int 1))) (h2 := (q_cM q_AM (q_uI q_IM 0 39 1) q_J0, 34, 31630)) rfl rfl ?_ ?_
            · refine q_Ca_of (Nat.le_of_ble_eq_true rfl) ?_
              refine q_Ru_seg (g2 := (14, [(0, .ref 64), (1, .int 1)], [.int 1], (q_cM q_AM (q_uI q_IM 0 39 1) q_J0, 34, 31630))) 7 (fun _ _ => rfl) ?_
              exact q_Ru_ret rfl rfl
            show q_Ru _ _ _ (29, [(0, .ref 64), (1, .int a), (2, .int v)], [.int 1], (q_cM q_AM (q_uI q_IM 0 39 1) q_J0, 34, 31630)) _
            refine q_Ru_seg (g2 := (47, [(0, .ref 64), (1, .int a), (2, .int v)], [.int 0], (q_cM q_AM (q_uI q_IM 0 39 1) q_J0, 34, 31630))) 3 (fun _ _ => rfl) ?_
            exact q_Ru_ret rfl rfl
          show q_Ru _ _ _ (6, [(0, .ref 64), (1, .int a), (2, .int v)], [.int 0], (q_cM q_AM (q_uI q_IM 0 39 1) q_J0, 34, 31630)) _
          exact q_Ru_ret rfl rfl
      | false =>
        exact q_no (q_lo1 h143) (q_hi2 h151) (by decide)
set_option maxHeartbeats 20000000 in
theorem q_op_sample (a : Int32) : ∃ (r b : Int32) (w : Int64), q_opX 16 [.int a] r w ∧ q_opM 296 [.int a] r (.int b) ∧ (r = 0 → w = b.toInt64) := by
  cases h152 : decide (a < 0) with
  | true =>
    refine ⟨1, 0, 0, ⟨(q_cX q_AX q_IX q_J0, 40 + 1, 26520 + 6), q_J0 39, ?_, rfl, fun h => absurd h (by decide), Nat.le_of_ble_eq_true rfl, Nat.le_of_ble_eq_true rfl⟩, ⟨(q_cM q_AM (q_uI q_IM 0 39 1) q_J0, 34, 31630), _, ?_, rfl, rfl, Nat.le_of_ble_eq_true rfl, Nat.le_of_ble_eq_true rfl⟩, fun h => absurd h (by decide)⟩
    · refine q_Ca_of (Nat.le_of_ble_eq_true rfl) ?_
      refine q_Ru_seg (g2 := (4, [(0, .ref 64), (1, .int a), (2, .ref 103)], [.int a, .ref 64, .int 0, .ref 103], (q_cX q_AX q_IX q_J0, 40, 26520))) 4 (fun _ _ => rfl) ?_
      refine q_Ru_callH (E := "java/lang/IndexOutOfBoundsException") (tg := 13) (i := 3) (h2 := (q_cX q_AX q_IX q_J0, 40 + 1, 26520 + 6)) rfl rfl ?_ rfl ?_
      · refine q_Ca_of (Nat.le_of_ble_eq_true rfl) ?_
        refine q_Ru_seg (g2 := (3, [(0, .ref 64), (1, .int a)], [.int 40, .int a], (q_cX q_AX q_IX q_J0, 40, 26520))) 2 (fun _ _ => rfl) ?_
        refine q_Ru_callX (E := "java/lang/IndexOutOfBoundsException") (h2 := (q_cX q_AX q_IX q_J0, 40 + 1, 26520 + 6)) rfl rfl ?_
        refine q_Ca_of (Nat.le_of_ble_eq_true rfl) ?_
        refine q_Ru_seg (g2 := (1, [(0, .int a), (1, .int 40)], [.int a], (q_cX q_AX q_IX q_J0, 40, 26520))) 1 (fun _ _ => rfl) ?_
        refine q_Ru_rsT (g2 := (9, [(0, .int a), (1, .int 40)], [], (q_cX q_AX q_IX q_J0, 40, 26520))) rfl rfl h152 ?_
        exact q_Ru_thr rfl rfl
      show q_Ru _ _ _ (13, [(0, .ref 64), (1, .int a), (2, .ref 103)], [], (q_cX q_AX q_IX q_J0, 40 + 1, 26520 + 6)) _
      refine q_Ru_seg (g2 := (14, [(0, .ref 64), (1, .int a), (2, .ref 103)], [.int 1], (q_cX q_AX q_IX q_J0, 40 + 1, 26520 + 6))) 1 (fun _ _ => rfl) ?_
      exact q_Ru_ret rfl rfl
    · refine q_Ca_of (Nat.le_of_ble_eq_true rfl) ?_
      refine q_Ru_seg (g2 := (5, [(0, .ref 64), (1, .int a)], [.int 39, .int 0, .int a, .ref 64], (q_cM q_AM q_IM q_J0, 34, 31630))) 4 (fun _ _ => rfl) ?_
      refine q_Ru_call (v := (some (.int 0))) (h2 := (q_cM q_AM q_IM q_J0, 34, 31630)) rfl rfl ?_ ?_
      · refine q_Ca_of (Nat.le_of_ble_eq_true rfl) ?_
        refine q_Ru_seg (g2 := (2, [(0, .int a), (1, .int 0), (2, .int 39)], [.int 0, .int a], (q_cM q_AM q_IM q_J0, 34, 31630))) 2 (fun _ _ => rfl) ?_
        refine q_Ru_rsT (g2 := (14, [(0, .int a), (1, .int 0), (2, .int 39)], [], (q_cM q_AM q_IM q_J0, 34, 31630))) rfl rfl h152 ?_
        refine q_Ru_seg (g2 := (15, [(0, .int a), (1, .int 0), (2, .int 39)], [.int 0], (q_cM q_AM q_IM q_J0, 34, 31630))) 1 (fun _ _ => rfl) ?_
        exact q_Ru_ret rfl rfl
      show q_Ru _ _ _ (8, [(0, .ref 64), (1, .int a)], [.int 0, .ref 64], (q_cM q_AM q_IM q_J0, 34, 31630)) _
      refine q_Ru_seg (g2 := (16, [(0, .ref 64), (1, .int a)], [.int 1, .ref 64], (q_cM q_AM q_IM q_J0, 34, 31630))) 2 (fun _ _ => rfl) ?_
      refine q_Ru_call (v := (some (.int 1))) (h2 := (q_cM q_AM (q_uI q_IM 0 39 1) q_J0, 34, 31630)) rfl rfl ?_ ?_
      · refine q_Ca_of (Nat.le_of_ble_eq_true rfl) ?_
        refine q_Ru_seg (g2 := (14, [(0, .ref 64), (1, .int 1)], [.int 1], (q_cM q_AM (q_uI q_IM 0 39 1) q_J0, 34, 31630))) 7 (fun _ _ => rfl) ?_
        exact q_Ru_ret rfl rfl
      show q_Ru _ _ _ (19, [(0, .ref 64), (1, .int a)], [.int 1], (q_cM q_AM (q_uI q_IM 0 39 1) q_J0, 34, 31630)) _
      refine q_Ru_seg (g2 := (32, [(0, .ref 64), (1, .int a)], [.int 0], (q_cM q_AM (q_uI q_IM 0 39 1) q_J0, 34, 31630))) 3 (fun _ _ => rfl) ?_
      exact q_Ru_ret rfl rfl
  | false =>
    cases h153 : decide (a < 40) with
    | true =>
      cases h154 : decide (39 < a) with
      | true =>
        exact q_no (q_lo2 h154) (q_hi1 h153) (by decide)
      | false =>
        refine ⟨0, 0, 0, ⟨(q_cX q_AX q_IX (q_uA q_J0 39 (vp_updL (fun _ => 0) 0 0)), 40, 26520), (q_uA q_J0 39 (vp_updL (fun _ => 0) 0 0)) 39, ?_, rfl, fun _ => rfl, Nat.le_of_ble_eq_true rfl, Nat.le_of_ble_eq_true rfl⟩, ⟨(q_cM q_AM (q_uI q_IM 0 39 0) q_J0, 34, 31630), _, ?_, rfl, rfl, Nat.le_of_ble_eq_true rfl, Nat.le_of_ble_eq_true rfl⟩, fun _ => rfl⟩
        · refine q_Ca_of (Nat.le_of_ble_eq_true rfl) ?_
          refine q_Ru_seg (g2 := (4, [(0, .ref 64), (1, .int a), (2, .ref 103)], [.int a, .ref 64, .int 0, .ref 103], (q_cX q_AX q_IX q_J0, 40, 26520))) 4 (fun _ _ => rfl) ?_
          refine q_Ru_call (v := (some (.int 0))) (h2 := (q_cX q_AX q_IX q_J0, 40, 26520)) rfl rfl ?_ ?_
          · refine q_Ca_of (Nat.le_of_ble_eq_true rfl) ?_
            refine q_Ru_seg (g2 := (3, [(0, .ref 64), (1, .int a)], [.int 40, .int a], (q_cX q_AX q_IX q_J0, 40, 26520))) 2 (fun _ _ => rfl) ?_
            refine q_Ru_call (v := none) (h2 := (q_cX q_AX q_IX q_J0, 40, 26520)) rfl rfl ?_ ?_
            · refine q_Ca_of (Nat.le_of_ble_eq_true rfl) ?_
              refine q_Ru_seg (g2 := (1, [(0, .int a), (1, .int 40)], [.int a], (q_cX q_AX q_IX q_J0, 40, 26520))) 1 (fun _ _ => rfl) ?_
              refine q_Ru_rsF (g2 := (4, [(0, .int a), (1, .int 40)], [], (q_cX q_AX q_IX q_J0, 40, 26520))) rfl rfl h152 ?_
              refine q_Ru_seg (g2 := (6, [(0, .int a), (1, .int 40)], [.int 40, .int a], (q_cX q_AX q_IX q_J0, 40, 26520))) 2 (fun _ _ => rfl) ?_
              refine q_Ru_rsT (g2 := (19, [(0, .int a), (1, .int 40)], [], (q_cX q_AX q_IX q_J0, 40, 26520))) rfl rfl h153 ?_
              exact q_Ru_ret rfl rfl
            show q_Ru _ _ _ (6, [(0, .ref 64), (1, .int a)], [], (q_cX q_AX q_IX q_J0, 40, 26520)) _
            refine q_Ru_seg (g2 := (17, [(0, .ref 64), (1, .int a)], [.int a, .ref 95], (q_cX q_AX q_IX q_J0, 40, 26520))) 5 (fun _ _ => rfl) ?_
            refine q_Ru_rsT (g2 := (18, [(0, .ref 64), (1, .int a)], [.int 0], (q_cX q_AX q_IX q_J0, 40, 26520))) rfl rfl (q_in_bd (x := a) (n := 40) (U := 39) (L := 0) (q_lo1 h152) (q_hi1 h153)) ?_
            exact q_Ru_ret rfl rfl
          show q_Ru _ _ _ (7, [(0, .ref 64), (1, .int a), (2, .ref 103)], [.int 0, .int 0, .ref 103], (q_cX q_AX q_IX q_J0, 40, 26520)) _
          refine q_Ru_seg (g2 := (16, [(0, .ref 64), (1, .int a), (2, .ref 103)], [.int 0], (q_cX q_AX q_IX (q_uA q_J0 39 (vp_updL (fun _ => 0) 0 0)), 40, 26520))) 4 (fun _ _ => rfl) ?_
          exact q_Ru_ret rfl rfl
        · refine q_Ca_of (Nat.le_of_ble_eq_true rfl) ?_
          refine q_Ru_seg (g2 := (5, [(0, .ref 64), (1, .int a)], [.int 39, .int 0, .int a, .ref 64], (q_cM q_AM q_IM q_J0, 34, 31630))) 4 (fun _ _ => rfl) ?_
          refine q_Ru_call (v := (some (.int 1))) (h2 := (q_cM q_AM q_IM q_J0, 34, 31630)) rfl rfl ?_ ?_
          · refine q_Ca_of (Nat.le_of_ble_eq_true rfl) ?_
            refine q_Ru_seg (g2 := (2, [(0, .int a), (1, .int 0), (2, .int 39)], [.int 0, .int a], (q_cM q_AM q_IM q_J0, 34, 31630))) 2 (fun _ _ => rfl) ?_
            refine q_Ru_rsF (g2 := (5, [(0, .int a), (1, .int 0), (2, .int 39)], [], (q_cM q_AM q_IM q_J0, 34, 31630))) rfl rfl h152 ?_
            refine q_Ru_seg (g2 := (7, [(0, .int a), (1, .int 0), (2, .int 39)], [.int 39, .int a], (q_cM q_AM q_IM q_J0, 34, 31630))) 2 (fun _ _ => rfl) ?_
            refine q_Ru_rsF (g2 := (10, [(0, .int a), (1, .int 0), (2, .int 39)], [], (q_cM q_AM q_IM q_J0, 34, 31630))) rfl rfl h154 ?_
            refine q_Ru_seg (g2 := (15, [(0, .int a), (1, .int 0), (2, .int 39)], [.int 1], (q_cM q_AM q_IM q_J0, 34, 31630))) 2 (fun _ _ => rfl) ?_
            exact q_Ru_ret rfl rfl
          show q_Ru _ _ _ (8, [(0, .ref 64), (1, .int a)], [.int 1, .ref 64], (q_cM q_AM q_IM q_J0, 34, 31630)) _
          refine q_Ru_seg (g2 := (16, [(0, .ref 64), (1, .int a)], [.int 0, .ref 64], (q_cM q_AM q_IM q_J0, 34, 31630))) 3 (fun _ _ => rfl) ?_
          refine q_Ru_call (v := (some (.int 0))) (h2 := (q_cM q_AM (q_uI q_IM 0 39 0) q_J0, 34, 31630)) rfl rfl ?_ ?_
          · refine q_Ca_of (Nat.le_of_ble_eq_true rfl) ?_
            refine q_Ru_seg (g2 := (14, [(0, .ref 64), (1, .int 0)], [.int 0], (q_cM q_AM (q_uI q_IM 0 39 0) q_J0, 34, 31630))) 6 (fun _ _ => rfl) ?_
            exact q_Ru_ret rfl rfl
          show q_Ru _ _ _ (19, [(0, .ref 64), (1, .int a)], [.int 0], (q_cM q_AM (q_uI q_IM 0 39 0) q_J0, 34, 31630)) _
          refine q_Ru_seg (g2 := (31, [(0, .ref 64), (1, .int a)], [.int a, .ref 70], (q_cM q_AM (q_uI q_IM 0 39 0) q_J0, 34, 31630))) 4 (fun _ _ => rfl) ?_
          refine q_Ru_rsT (g2 := (32, [(0, .ref 64), (1, .int a)], [.int 0], (q_cM q_AM (q_uI q_IM 0 39 0) q_J0, 34, 31630))) rfl rfl (q_in_bd (x := a) (n := 40) (U := 39) (L := 0) (q_lo1 h152) (q_hi1 h153)) ?_
          exact q_Ru_ret rfl rfl
    | false =>
      cases h155 : decide (39 < a) with
      | true =>
        refine ⟨1, 0, 0, ⟨(q_cX q_AX q_IX q_J0, 40 + 1, 26520 + 6), q_J0 39, ?_, rfl, fun h => absurd h (by decide), Nat.le_of_ble_eq_true rfl, Nat.le_of_ble_eq_true rfl⟩, ⟨(q_cM q_AM (q_uI q_IM 0 39 1) q_J0, 34, 31630), _, ?_, rfl, rfl, Nat.le_of_ble_eq_true rfl, Nat.le_of_ble_eq_true rfl⟩, fun h => absurd h (by decide)⟩
        · refine q_Ca_of (Nat.le_of_ble_eq_true rfl) ?_
          refine q_Ru_seg (g2 := (4, [(0, .ref 64), (1, .int a), (2, .ref 103)], [.int a, .ref 64, .int 0, .ref 103], (q_cX q_AX q_IX q_J0, 40, 26520))) 4 (fun _ _ => rfl) ?_
          refine q_Ru_callH (E := "java/lang/IndexOutOfBoundsException") (tg := 13) (i := 3) (h2 := (q_cX q_AX q_IX q_J0, 40 + 1, 26520 + 6)) rfl rfl ?_ rfl ?_
          · refine q_Ca_of (Nat.le_of_ble_eq_true rfl) ?_
            refine q_Ru_seg (g2 := (3, [(0, .ref 64), (1, .int a)], [.int 40, .int a], (q_cX q_AX q_IX q_J0, 40, 26520))) 2 (fun _ _ => rfl) ?_
            refine q_Ru_callX (E := "java/lang/IndexOutOfBoundsException") (h2 := (q_cX q_AX q_IX q_J0, 40 + 1, 26520 + 6)) rfl rfl ?_
            refine q_Ca_of (Nat.le_of_ble_eq_true rfl) ?_
            refine q_Ru_seg (g2 := (1, [(0, .int a), (1, .int 40)], [.int a], (q_cX q_AX q_IX q_J0, 40, 26520))) 1 (fun _ _ => rfl) ?_
            refine q_Ru_rsF (g2 := (4, [(0, .int a), (1, .int 40)], [], (q_cX q_AX q_IX q_J0, 40, 26520))) rfl rfl h152 ?_
            refine q_Ru_seg (g2 := (6, [(0, .int a), (1, .int 40)], [.int 40, .int a], (q_cX q_AX q_IX q_J0, 40, 26520))) 2 (fun _ _ => rfl) ?_
            refine q_Ru_rsF (g2 := (9, [(0, .int a), (1, .int 40)], [], (q_cX q_AX q_IX q_J0, 40, 26520))) rfl rfl h153 ?_
            exact q_Ru_thr rfl rfl
          show q_Ru _ _ _ (13, [(0, .ref 64), (1, .int a), (2, .ref 103)], [], (q_cX q_AX q_IX q_J0, 40 + 1, 26520 + 6)) _
          refine q_Ru_seg (g2 := (14, [(0, .ref 64), (1, .int a), (2, .ref 103)], [.int 1], (q_cX q_AX q_IX q_J0, 40 + 1, 26520 + 6))) 1 (fun _ _ => rfl) ?_
          exact q_Ru_ret rfl rfl
        · refine q_Ca_of (Nat.le_of_ble_eq_true rfl) ?_
          refine q_Ru_seg (g2 := (5, [(0, .ref 64), (1, .int a)], [.int 39, .int 0, .int a, .ref 64], (q_cM q_AM q_IM q_J0, 34, 31630))) 4 (fun _ _ => rfl) ?_
          refine q_Ru_call (v := (some (.int 0))) (h2 := (q_cM q_AM q_IM q_J0, 34, 31630)) rfl rfl ?_ ?_
          · refine q_Ca_of (Nat.le_of_ble_eq_true rfl) ?_
            refine q_Ru_seg (g2 := (2, [(0, .int a), (1, .int 0), (2, .int 39)], [.int 0, .int a], (q_cM q_AM q_IM q_J0, 34, 31630))) 2 (fun _ _ => rfl) ?_
            refine q_Ru_rsF (g2 := (5, [(0, .int a), (1, .int 0), (2, .int 39)], [], (q_cM q_AM q_IM q_J0, 34, 31630))) rfl rfl h152 ?_
            refine q_Ru_seg (g2 := (7, [(0, .int a), (1, .int 0), (2, .int 39)], [.int 39, .int a], (q_cM q_AM q_IM q_J0, 34, 31630))) 2 (fun _ _ => rfl) ?_
            refine q_Ru_rsT (g2 := (14, [(0, .int a), (1, .int 0), (2, .int 39)], [], (q_cM q_AM q_IM q_J0, 34, 31630))) rfl rfl h155 ?_
            refine q_Ru_seg (g2 := (15, [(0, .int a), (1, .int 0), (2, .int 39)], [.int 0], (q_cM q_AM q_IM q_J0, 34, 31630))) 1 (fun _ _ => rfl) ?_
            exact q_Ru_ret rfl rfl
          show q_Ru _ _ _ (8, [(0, .ref 64), (1, .int a)], [.int 0, .ref 64], (q_cM q_AM q_IM q_J0, 34, 31630)) _
          refine q_Ru_seg (g2 := (16, [(0, .ref 64), (1, .int a)], [.int 1, .ref 64], (q_cM q_AM q_IM q_J0, 34, 31630))) 2 (fun _ _ => rfl) ?_
          refine q_Ru_call (v := (some (.int 1))) (h2 := (q_cM q_AM (q_uI q_IM 0 39 1) q_J0, 34, 31630)) rfl rfl ?_ ?_
          · refine q_Ca_of (Nat.le_of_ble_eq_true rfl) ?_
            refine q_Ru_seg (g2 := (14, [(0, .ref 64), (1, .int 1)], [.int 1], (q_cM q_AM (q_uI q_IM 0 39 1) q_J0, 34, 31630))) 7 (fun _ _ => rfl) ?_
            exact q_Ru_ret rfl rfl
          show q_Ru _ _ _ (19, [(0, .ref 64), (1, .int a)], [.int 1], (q_cM q_AM (q_uI q_IM 0 39 1) q_J0, 34, 31630)) _
          refine q_Ru_seg (g2 := (32, [(0, .ref 64), (1, .int a)], [.int 0], (q_cM q_AM (q_uI q_IM 0 39 1) q_J0, 34, 31630))) 3 (fun _ _ => rfl) ?_
          exact q_Ru_ret rfl rfl
      | false =>
        exact q_no (q_lo1 h153) (q_hi2 h155) (by decide)
set_option maxHeartbeats 20000000 in
theorem q_op_joystick (a : Int32) : ∃ (r b : Int32) (w : Int64), q_opX 20 [.int a] r w ∧ q_opM 300 [.int a] r (.int b) ∧ (r = 0 → w = b.toInt64) := by
  cases h156 : decide (a < 0) with
  | true =>
    refine ⟨1, 0, 0, ⟨(q_cX q_AX q_IX q_J0, 40 + 1, 26520 + 6), q_J0 39, ?_, rfl, fun h => absurd h (by decide), Nat.le_of_ble_eq_true rfl, Nat.le_of_ble_eq_true rfl⟩, ⟨(q_cM q_AM (q_uI q_IM 0 39 1) q_J0, 34, 31630), _, ?_, rfl, rfl, Nat.le_of_ble_eq_true rfl, Nat.le_of_ble_eq_true rfl⟩, fun h => absurd h (by decide)⟩
    · refine q_Ca_of (Nat.le_of_ble_eq_true rfl) ?_
      refine q_Ru_seg (g2 := (4, [(0, .ref 64), (1, .int a), (2, .ref 103)], [.int a, .ref 64, .int 0, .ref 103], (q_cX q_AX q_IX q_J0, 40, 26520))) 4 (fun _ _ => rfl) ?_
      refine q_Ru_callH (E := "java/lang/IllegalArgumentException") (tg := 13) (i := 3) (h2 := (q_cX q_AX q_IX q_J0, 40 + 1, 26520 + 6)) rfl rfl ?_ rfl ?_
      · refine q_Ca_of (Nat.le_of_ble_eq_true rfl) ?_
        refine q_Ru_seg (g2 := (4, [(0, .ref 64), (1, .int a)], [.int 15, .int 0, .int a], (q_cX q_AX q_IX q_J0, 40, 26520))) 3 (fun _ _ => rfl) ?_
        refine q_Ru_callX (E := "java/lang/IllegalArgumentException") (h2 := (q_cX q_AX q_IX q_J0, 40 + 1, 26520 + 6)) rfl rfl ?_
        refine q_Ca_of (Nat.le_of_ble_eq_true rfl) ?_
        refine q_Ru_seg (g2 := (2, [(0, .int a), (1, .int 0), (2, .int 15)], [.int 0, .int a], (q_cX q_AX q_IX q_J0, 40, 26520))) 2 (fun _ _ => rfl) ?_
        refine q_Ru_rsT (g2 := (10, [(0, .int a), (1, .int 0), (2, .int 15)], [], (q_cX q_AX q_IX q_J0, 40, 26520))) rfl rfl h156 ?_
        exact q_Ru_thr rfl rfl
      show q_Ru _ _ _ (13, [(0, .ref 64), (1, .int a), (2, .ref 103)], [], (q_cX q_AX q_IX q_J0, 40 + 1, 26520 + 6)) _
      refine q_Ru_seg (g2 := (14, [(0, .ref 64), (1, .int a), (2, .ref 103)], [.int 1], (q_cX q_AX q_IX q_J0, 40 + 1, 26520 + 6))) 1 (fun _ _ => rfl) ?_
      exact q_Ru_ret rfl rfl
    · refine q_Ca_of (Nat.le_of_ble_eq_true rfl) ?_
      refine q_Ru_seg (g2 := (5, [(0, .ref 64), (1, .int a)], [.int 15, .int 0, .int a, .ref 64], (q_cM q_AM q_IM q_J0, 34, 31630))) 4 (fun _ _ => rfl) ?_
      refine q_Ru_call (v := (some (.int 0))) (h2 := (q_cM q_AM q_IM q_J0, 34, 31630)) rfl rfl ?_ ?_
      · refine q_Ca_of (Nat.le_of_ble_eq_true rfl) ?_
        refine q_Ru_seg (g2 := (2, [(0, .int a), (1, .int 0), (2, .int 15)], [.int 0, .int a], (q_cM q_AM q_IM q_J0, 34, 31630))) 2 (fun _ _ => rfl) ?_
        refine q_Ru_rsT (g2 := (14, [(0, .int a), (1, .int 0), (2, .int 15)], [], (q_cM q_AM q_IM q_J0, 34, 31630))) rfl rfl h156 ?_
        refine q_Ru_seg (g2 := (15, [(0, .int a), (1, .int 0), (2, .int 15)], [.int 0], (q_cM q_AM q_IM q_J0, 34, 31630))) 1 (fun _ _ => rfl) ?_
        exact q_Ru_ret rfl rfl
      show q_Ru _ _ _ (8, [(0, .ref 64), (1, .int a)], [.int 0, .ref 64], (q_cM q_AM q_IM q_J0, 34, 31630)) _
      refine q_Ru_seg (g2 := (16, [(0, .ref 64), (1, .int a)], [.int 1, .ref 64], (q_cM q_AM q_IM q_J0, 34, 31630))) 2 (fun _ _ => rfl) ?_
      refine q_Ru_call (v := (some (.int 1))) (h2 := (q_cM q_AM (q_uI q_IM 0 39 1) q_J0, 34, 31630)) rfl rfl ?_ ?_
      · refine q_Ca_of (Nat.le_of_ble_eq_true rfl) ?_
        refine q_Ru_seg (g2 := (14, [(0, .ref 64), (1, .int 1)], [.int 1], (q_cM q_AM (q_uI q_IM 0 39 1) q_J0, 34, 31630))) 7 (fun _ _ => rfl) ?_
        exact q_Ru_ret rfl rfl
      show q_Ru _ _ _ (19, [(0, .ref 64), (1, .int a)], [.int 1], (q_cM q_AM (q_uI q_IM 0 39 1) q_J0, 34, 31630)) _
      refine q_Ru_seg (g2 := (23, [(0, .ref 64), (1, .int a)], [.int 0], (q_cM q_AM (q_uI q_IM 0 39 1) q_J0, 34, 31630))) 2 (fun _ _ => rfl) ?_
      exact q_Ru_ret rfl rfl
  | false =>
    cases h157 : decide (15 < a) with
    | true =>
      refine ⟨1, 0, 0, ⟨(q_cX q_AX q_IX q_J0, 40 + 1, 26520 + 6), q_J0 39, ?_, rfl, fun h => absurd h (by decide), Nat.le_of_ble_eq_true rfl, Nat.le_of_ble_eq_true rfl⟩, ⟨(q_cM q_AM (q_uI q_IM 0 39 1) q_J0, 34, 31630), _, ?_, rfl, rfl, Nat.le_of_ble_eq_true rfl, Nat.le_of_ble_eq_true rfl⟩, fun h => absurd h (by decide)⟩
      · refine q_Ca_of (Nat.le_of_ble_eq_true rfl) ?_
        refine q_Ru_seg (g2 := (4, [(0, .ref 64), (1, .int a), (2, .ref 103)], [.int a, .ref 64, .int 0, .ref 103], (q_cX q_AX q_IX q_J0, 40, 26520))) 4 (fun _ _ => rfl) ?_
        refine q_Ru_callH (E := "java/lang/IllegalArgumentException") (tg := 13) (i := 3) (h2 := (q_cX q_AX q_IX q_J0, 40 + 1, 26520 + 6)) rfl rfl ?_ rfl ?_
        · refine q_Ca_of (Nat.le_of_ble_eq_true rfl) ?_
          refine q_Ru_seg (g2 := (4, [(0, .ref 64), (1, .int a)], [.int 15, .int 0, .int a], (q_cX q_AX q_IX q_J0, 40, 26520))) 3 (fun _ _ => rfl) ?_
          refine q_Ru_callX (E := "java/lang/IllegalArgumentException") (h2 := (q_cX q_AX q_IX q_J0, 40 + 1, 26520 + 6)) rfl rfl ?_
          refine q_Ca_of (Nat.le_of_ble_eq_true rfl) ?_
          refine q_Ru_seg (g2 := (2, [(0, .int a), (1, .int 0), (2, .int 15)], [.int 0, .int a], (q_cX q_AX q_IX q_J0, 40, 26520))) 2 (fun _ _ => rfl) ?_
          refine q_Ru_rsF (g2 := (5, [(0, .int a), (1, .int 0), (2, .int 15)], [], (q_cX q_AX q_IX q_J0, 40, 26520))) rfl rfl h156 ?_
          refine q_Ru_seg (g2 := (7, [(0, .int a), (1, .int 0), (2, .int 15)], [.int 15, .int a], (q_cX q_AX q_IX q_J0, 40, 26520))) 2 (fun _ _ => rfl) ?_
          refine q_Ru_rsF (g2 := (10, [(0, .int a), (1, .int 0), (2, .int 15)], [], (q_cX q_AX q_IX q_J0, 40, 26520))) rfl rfl (q_d_geT h157) ?_
          exact q_Ru_thr rfl rfl
        show q_Ru _ _ _ (13, [(0, .ref 64), (1, .int a), (2, .ref 103)], [], (q_cX q_AX q_IX q_J0, 40 + 1, 26520 + 6)) _
        refine q_Ru_seg (g2 := (14, [(0, .ref 64), (1, .int a), (2, .ref 103)], [.int 1], (q_cX q_AX q_IX q_J0, 40 + 1, 26520 + 6))) 1 (fun _ _ => rfl) ?_
        exact q_Ru_ret rfl rfl
      · refine q_Ca_of (Nat.le_of_ble_eq_true rfl) ?_
        refine q_Ru_seg (g2 := (5, [(0, .ref 64), (1, .int a)], [.int 15, .int 0, .int a, .ref 64], (q_cM q_AM q_IM q_J0, 34, 31630))) 4 (fun _ _ => rfl) ?_
        refine q_Ru_call (v := (some (.int 0))) (h2 := (q_cM q_AM q_IM q_J0, 34, 31630)) rfl rfl ?_ ?_
        · refine q_Ca_of (Nat.le_of_ble_eq_true rfl) ?_
          refine q_Ru_seg (g2 := (2, [(0, .int a), (1, .int 0), (2, .int 15)], [.int 0, .int a], (q_cM q_AM q_IM q_J0, 34, 31630))) 2 (fun _ _ => rfl) ?_
          refine q_Ru_rsF (g2 := (5, [(0, .int a), (1, .int 0), (2, .int 15)], [], (q_cM q_AM q_IM q_J0, 34, 31630))) rfl rfl h156 ?_
          refine q_Ru_seg (g2 := (7, [(0, .int a), (1, .int 0), (2, .int 15)], [.int 15, .int a], (q_cM q_AM q_IM q_J0, 34, 31630))) 2 (fun _ _ => rfl) ?_
          refine q_Ru_rsT (g2 := (14, [(0, .int a), (1, .int 0), (2, .int 15)], [], (q_cM q_AM q_IM q_J0, 34, 31630))) rfl rfl h157 ?_
          refine q_Ru_seg (g2 := (15, [(0, .int a), (1, .int 0), (2, .int 15)], [.int 0], (q_cM q_AM q_IM q_J0, 34, 31630))) 1 (fun _ _ => rfl) ?_
          exact q_Ru_ret rfl rfl
        show q_Ru _ _ _ (8, [(0, .ref 64), (1, .int a)], [.int 0, .ref 64], (q_cM q_AM q_IM q_J0, 34, 31630)) _
        refine q_Ru_seg (g2 := (16, [(0, .ref 64), (1, .int a)], [.int 1, .ref 64], (q_cM q_AM q_IM q_J0, 34, 31630))) 2 (fun _ _ => rfl) ?_
        refine q_Ru_call (v := (some (.int 1))) (h2 := (q_cM q_AM (q_uI q_IM 0 39 1) q_J0, 34, 31630)) rfl rfl ?_ ?_
        · refine q_Ca_of (Nat.le_of_ble_eq_true rfl) ?_
          refine q_Ru_seg (g2 := (14, [(0, .ref 64), (1, .int 1)], [.int 1], (q_cM q_AM (q_uI q_IM 0 39 1) q_J0, 34, 31630))) 7 (fun _ _ => rfl) ?_
          exact q_Ru_ret rfl rfl
        show q_Ru _ _ _ (19, [(0, .ref 64), (1, .int a)], [.int 1], (q_cM q_AM (q_uI q_IM 0 39 1) q_J0, 34, 31630)) _
        refine q_Ru_seg (g2 := (23, [(0, .ref 64), (1, .int a)], [.int 0], (q_cM q_AM (q_uI q_IM 0 39 1) q_J0, 34, 31630))) 2 (fun _ _ => rfl) ?_
        exact q_Ru_ret rfl rfl
    | false =>
      refine ⟨0, 0, 0, ⟨(q_cX q_AX (q_uI q_IX 11 2 a) (q_uA q_J0 39 (vp_updL (fun _ => 0) 0 0)), 40, 26520), (q_uA q_J0 39 (vp_updL (fun _ => 0) 0 0)) 39, ?_, rfl, fun _ => rfl, Nat.le_of_ble_eq_true rfl, Nat.le_of_ble_eq_true rfl⟩, ⟨(q_cM (q_uA q_AM 14 (upd (upd (fun _ => 0) 3 255) 12 a)) (q_uI q_IM 0 39 0) q_J0, 34, 31630), _, ?_, rfl, rfl, Nat.le_of_ble_eq_true rfl, Nat.le_of_ble_eq_true rfl⟩, fun _ => rfl⟩
      · refine q_Ca_of (Nat.le_of_ble_eq_true rfl) ?_
        refine q_Ru_seg (g2 := (4, [(0, .ref 64), (1, .int a), (2, .ref 103)], [.int a, .ref 64, .int 0, .ref 103], (q_cX q_AX q_IX q_J0, 40, 26520))) 4 (fun _ _ => rfl) ?_
        refine q_Ru_call (v := (some (.int 0))) (h2 := (q_cX q_AX (q_uI q_IX 11 2 a) q_J0, 40, 26520)) rfl rfl ?_ ?_
        · refine q_Ca_of (Nat.le_of_ble_eq_true rfl) ?_
          refine q_Ru_seg (g2 := (4, [(0, .ref 64), (1, .int a)], [.int 15, .int 0, .int a], (q_cX q_AX q_IX q_J0, 40, 26520))) 3 (fun _ _ => rfl) ?_
          refine q_Ru_call (v := none) (h2 := (q_cX q_AX q_IX q_J0, 40, 26520)) rfl rfl ?_ ?_
          · refine q_Ca_of (Nat.le_of_ble_eq_true rfl) ?_
            refine q_Ru_seg (g2 := (2, [(0, .int a), (1, .int 0), (2, .int 15)], [.int 0, .int a], (q_cX q_AX q_IX q_J0, 40, 26520))) 2 (fun _ _ => rfl) ?_
            refine q_Ru_rsF (g2 := (5, [(0, .int a), (1, .int 0), (2, .int 15)], [], (q_cX q_AX q_IX q_J0, 40, 26520))) rfl rfl h156 ?_
            refine q_Ru_seg (g2 := (7, [(0, .int a), (1, .int 0), (2, .int 15)], [.int 15, .int a], (q_cX q_AX q_IX q_J0, 40, 26520))) 2 (fun _ _ => rfl) ?_
            refine q_Ru_rsT (g2 := (20, [(0, .int a), (1, .int 0), (2, .int 15)], [], (q_cX q_AX q_IX q_J0, 40, 26520))) rfl rfl (q_d_geF h157) ?_
            exact q_Ru_ret rfl rfl
          show q_Ru _ _ _ (7, [(0, .ref 64), (1, .int a)], [], (q_cX q_AX q_IX q_J0, 40, 26520)) _
          refine q_Ru_seg (g2 := (13, [(0, .ref 64), (1, .int a)], [.int 0, .int 0, .int a, .int 10, .ref 64], (q_cX q_AX q_IX q_J0, 40, 26520))) 5 (fun _ _ => rfl) ?_
          refine q_Ru_call (v := none) (h2 := (q_cX q_AX q_IX q_J0, 40, 26520)) rfl rfl ?_ ?_
          · refine q_Ca_of (Nat.le_of_ble_eq_true rfl) ?_
            refine q_Ru_seg (g2 := (19, [(0, .ref 64), (1, .int 10), (2, .int a), (3, .int 0), (4, .int 0)], [], (q_cX q_AX q_IX q_J0, 40, 26520))) 3 (fun _ _ => rfl) ?_
            exact q_Ru_ret rfl rfl
          show q_Ru _ _ _ (16, [(0, .ref 64), (1, .int a)], [], (q_cX q_AX q_IX q_J0, 40, 26520)) _
          refine q_Ru_seg (g2 := (25, [(0, .ref 64), (1, .int a)], [.int 0, .int 0, .int a, .int 10, .ref 65], (q_cX q_AX q_IX q_J0, 40, 26520))) 6 (fun _ _ => rfl) ?_
          refine q_Ru_call (v := (some (.int 0))) (h2 := (q_cX q_AX (q_uI q_IX 11 2 a) q_J0, 40, 26520)) rfl rfl ?_ ?_
          · refine q_Ca_of (Nat.le_of_ble_eq_true rfl) ?_
            refine q_Ru_seg (g2 := (176, [(0, .ref 65), (1, .int 10), (2, .int a), (3, .int 0), (4, .int 0)], [.int a, .ref 75], (q_cX q_AX q_IX q_J0, 40, 26520))) 6 (fun _ _ => rfl) ?_
            refine q_Ru_call (v := (some (.int 0))) (h2 := (q_cX q_AX (q_uI q_IX 11 2 a) q_J0, 40, 26520)) rfl rfl ?_ ?_
            · refine q_Ca_of (Nat.le_of_ble_eq_true rfl) ?_
              refine q_Ru_seg (g2 := (11, [(2, .int 0), (0, .ref 75), (1, .int a)], [.int 0], (q_cX q_AX (q_uI q_IX 11 2 a) q_J0, 40, 26520))) 7 (fun _ _ => rfl) ?_
              exact q_Ru_ret rfl rfl
            show q_Ru _ _ _ (179, [(0, .ref 65), (1, .int 10), (2, .int a), (3, .int 0), (4, .int 0)], [.int 0], (q_cX q_AX (q_uI q_IX 11 2 a) q_J0, 40, 26520)) _
            exact q_Ru_ret rfl rfl
          show q_Ru _ _ _ (28, [(0, .ref 64), (1, .int a)], [.int 0], (q_cX q_AX (q_uI q_IX 11 2 a) q_J0, 40, 26520)) _
          exact q_Ru_ret rfl rfl
        show q_Ru _ _ _ (7, [(0, .ref 64), (1, .int a), (2, .ref 103)], [.int 0, .int 0, .ref 103], (q_cX q_AX (q_uI q_IX 11 2 a) q_J0, 40, 26520)) _
        refine q_Ru_seg (g2 := (16, [(0, .ref 64), (1, .int a), (2, .ref 103)], [.int 0], (q_cX q_AX (q_uI q_IX 11 2 a) (q_uA q_J0 39 (vp_updL (fun _ => 0) 0 0)), 40, 26520))) 4 (fun _ _ => rfl) ?_
        exact q_Ru_ret rfl rfl
      · refine q_Ca_of (Nat.le_of_ble_eq_true rfl) ?_
        refine q_Ru_seg (g2 := (5, [(0, .ref 64), (1, .int a)], [.int 15, .int 0, .int a, .ref 64], (q_cM q_AM q_IM q_J0, 34, 31630))) 4 (fun _ _ => rfl) ?_
        refine q_Ru_call (v := (some (.int 1))) (h2 := (q_cM q_AM q_IM q_J0, 34, 31630)) rfl rfl ?_ ?_
        · refine q_Ca_of (Nat.le_of_ble_eq_true rfl) ?_
          refine q_Ru_seg (g2 := (2, [(0, .int a), (1, .int 0), (2, .int 15)], [.int 0, .int a], (q_cM q_AM q_IM q_J0, 34, 31630))) 2 (fun _ _ => rfl) ?_
          refine q_Ru_rsF (g2 := (5, [(0, .int a), (1, .int 0), (2, .int 15)], [], (q_cM q_AM q_IM q_J0, 34, 31630))) rfl rfl h156 ?_
          refine q_Ru_seg (g2 := (7, [(0, .int a), (1, .int 0), (2, .int 15)], [.int 15, .int a], (q_cM q_AM q_IM q_J0, 34, 31630))) 2 (fun _ _ => rfl) ?_
          refine q_Ru_rsF (g2 := (10, [(0, .int a), (1, .int 0), (2, .int 15)], [], (q_cM q_AM q_IM q_J0, 34, 31630))) rfl rfl h157 ?_
          refine q_Ru_seg (g2 := (15, [(0, .int a), (1, .int 0), (2, .int 15)], [.int 1], (q_cM q_AM q_IM q_J0, 34, 31630))) 2 (fun _ _ => rfl) ?_
          exact q_Ru_ret rfl rfl
        show q_Ru _ _ _ (8, [(0, .ref 64), (1, .int a)], [.int 1, .ref 64], (q_cM q_AM q_IM q_J0, 34, 31630)) _
        refine q_Ru_seg (g2 := (16, [(0, .ref 64), (1, .int a)], [.int 0, .ref 64], (q_cM q_AM q_IM q_J0, 34, 31630))) 3 (fun _ _ => rfl) ?_
        refine q_Ru_call (v := (some (.int 0))) (h2 := (q_cM q_AM (q_uI q_IM 0 39 0) q_J0, 34, 31630)) rfl rfl ?_ ?_
        · refine q_Ca_of (Nat.le_of_ble_eq_true rfl) ?_
          refine q_Ru_seg (g2 := (14, [(0, .ref 64), (1, .int 0)], [.int 0], (q_cM q_AM (q_uI q_IM 0 39 0) q_J0, 34, 31630))) 6 (fun _ _ => rfl) ?_
          exact q_Ru_ret rfl rfl
        show q_Ru _ _ _ (19, [(0, .ref 64), (1, .int a)], [.int 0], (q_cM q_AM (q_uI q_IM 0 39 0) q_J0, 34, 31630)) _
        refine q_Ru_seg (g2 := (41, [(2, .int 0), (0, .ref 64), (1, .int a)], [.ref 64], (q_cM (q_uA q_AM 14 (upd (upd (fun _ => 0) 3 255) 12 a)) (q_uI q_IM 0 39 0) q_J0, 34, 31630))) 12 (fun _ _ => rfl) ?_
        refine q_Ru_call (v := none) (h2 := (q_cM (q_uA q_AM 14 (upd (upd (fun _ => 0) 3 255) 12 a)) (q_uI q_IM 0 39 0) q_J0, 34, 31630)) rfl rfl ?_ ?_
        · refine q_Ca_of (Nat.le_of_ble_eq_true rfl) ?_
          refine q_Ru_seg (g2 := (17, [(0, .ref 64)], [], (q_cM (q_uA q_AM 14 (upd (upd (fun _ => 0) 3 255) 12 a)) (q_uI q_IM 0 39 0) q_J0, 34, 31630))) 3 (fun _ _ => rfl) ?_
          exact q_Ru_ret rfl rfl
        show q_Ru _ _ _ (44, [(2, .int 0), (0, .ref 64), (1, .int a)], [], (q_cM (q_uA q_AM 14 (upd (upd (fun _ => 0) 3 255) 12 a)) (q_uI q_IM 0 39 0) q_J0, 34, 31630)) _
        refine q_Ru_seg (g2 := (45, [(2, .int 0), (0, .ref 64), (1, .int a)], [.int 0], (q_cM (q_uA q_AM 14 (upd (upd (fun _ => 0) 3 255) 12 a)) (q_uI q_IM 0 39 0) q_J0, 34, 31630))) 1 (fun _ _ => rfl) ?_
        exact q_Ru_ret rfl rfl
set_option maxHeartbeats 20000000 in
theorem q_op_addPulse (a : Int32) : ∃ (r b : Int32) (w : Int64), q_opX 21 [.int a] r w ∧ q_opM 301 [.int a] r (.int b) ∧ (r = 0 → w = b.toInt64) := by
  cases h158 : decide (a < 1) with
  | true =>
    refine ⟨1, 0, 0, ⟨(q_cX q_AX q_IX q_J0, 40 + 1, 26520 + 6), q_J0 39, ?_, rfl, fun h => absurd h (by decide), Nat.le_of_ble_eq_true rfl, Nat.le_of_ble_eq_true rfl⟩, ⟨(q_cM q_AM (q_uI q_IM 0 39 1) q_J0, 34, 31630), _, ?_, rfl, rfl, Nat.le_of_ble_eq_true rfl, Nat.le_of_ble_eq_true rfl⟩, fun h => absurd h (by decide)⟩
    · refine q_Ca_of (Nat.le_of_ble_eq_true rfl) ?_
      refine q_Ru_seg (g2 := (4, [(0, .ref 64), (1, .int a), (2, .ref 103)], [.int a, .ref 64, .int 0, .ref 103], (q_cX q_AX q_IX q_J0, 40, 26520))) 4 (fun _ _ => rfl) ?_
      refine q_Ru_callH (E := "java/lang/IllegalArgumentException") (tg := 13) (i := 3) (h2 := (q_cX q_AX q_IX q_J0, 40 + 1, 26520 + 6)) rfl rfl ?_ rfl ?_
      · refine q_Ca_of (Nat.le_of_ble_eq_true rfl) ?_
        refine q_Ru_seg (g2 := (5, [(0, .ref 64), (1, .int a)], [.int 999, .int 1, .int a], (q_cX q_AX q_IX q_J0, 40, 26520))) 3 (fun _ _ => rfl) ?_
        refine q_Ru_callX (E := "java/lang/IllegalArgumentException") (h2 := (q_cX q_AX q_IX q_J0, 40 + 1, 26520 + 6)) rfl rfl ?_
        refine q_Ca_of (Nat.le_of_ble_eq_true rfl) ?_
        refine q_Ru_seg (g2 := (2, [(0, .int a), (1, .int 1), (2, .int 999)], [.int 1, .int a], (q_cX q_AX q_IX q_J0, 40, 26520))) 2 (fun _ _ => rfl) ?_
        refine q_Ru_rsT (g2 := (10, [(0, .int a), (1, .int 1), (2, .int 999)], [], (q_cX q_AX q_IX q_J0, 40, 26520))) rfl rfl h158 ?_
        exact q_Ru_thr rfl rfl
      show q_Ru _ _ _ (13, [(0, .ref 64), (1, .int a), (2, .ref 103)], [], (q_cX q_AX q_IX q_J0, 40 + 1, 26520 + 6)) _
      refine q_Ru_seg (g2 := (14, [(0, .ref 64), (1, .int a), (2, .ref 103)], [.int 1], (q_cX q_AX q_IX q_J0, 40 + 1, 26520 + 6))) 1 (fun _ _ => rfl) ?_
      exact q_Ru_ret rfl rfl
    · refine q_Ca_of (Nat.le_of_ble_eq_true rfl) ?_
      refine q_Ru_seg (g2 := (6, [(0, .ref 64), (1, .int a)], [.int 999, .int 1, .int a, .ref 64], (q_cM q_AM q_IM q_J0, 34, 31630))) 4 (fun _ _ => rfl) ?_
      refine q_Ru_call (v := (some (.int 0))) (h2 := (q_cM q_AM q_IM q_J0, 34, 31630)) rfl rfl ?_ ?_
      · refine q_Ca_of (Nat.le_of_ble_eq_true rfl) ?_
        refine q_Ru_seg (g2 := (2, [(0, .int a), (1, .int 1), (2, .int 999)], [.int 1, .int a], (q_cM q_AM q_IM q_J0, 34, 31630))) 2 (fun _ _ => rfl) ?_
        refine q_Ru_rsT (g2 := (14, [(0, .int a), (1, .int 1), (2, .int 999)], [], (q_cM q_AM q_IM q_J0, 34, 31630))) rfl rfl h158 ?_
        refine q_Ru_seg (g2 := (15, [(0, .int a), (1, .int 1), (2, .int 999)], [.int 0], (q_cM q_AM q_IM q_J0, 34, 31630))) 1 (fun _ _ => rfl) ?_
        exact q_Ru_ret rfl rfl
      show q_Ru _ _ _ (9, [(0, .ref 64), (1, .int a)], [.int 0, .ref 64], (q_cM q_AM q_IM q_J0, 34, 31630)) _
      refine q_Ru_seg (g2 := (33, [(0, .ref 64), (1, .int a)], [.int 1, .ref 64], (q_cM q_AM q_IM q_J0, 34, 31630))) 3 (fun _ _ => rfl) ?_
      refine q_Ru_call (v := (some (.int 1))) (h2 := (q_cM q_AM (q_uI q_IM 0 39 1) q_J0, 34, 31630)) rfl rfl ?_ ?_
      · refine q_Ca_of (Nat.le_of_ble_eq_true rfl) ?_
        refine q_Ru_seg (g2 := (14, [(0, .ref 64), (1, .int 1)], [.int 1], (q_cM q_AM (q_uI q_IM 0 39 1) q_J0, 34, 31630))) 7 (fun _ _ => rfl) ?_
        exact q_Ru_ret rfl rfl
      show q_Ru _ _ _ (36, [(0, .ref 64), (1, .int a)], [.int 1], (q_cM q_AM (q_uI q_IM 0 39 1) q_J0, 34, 31630)) _
      refine q_Ru_seg (g2 := (40, [(0, .ref 64), (1, .int a)], [.int 0], (q_cM q_AM (q_uI q_IM 0 39 1) q_J0, 34, 31630))) 2 (fun _ _ => rfl) ?_
      exact q_Ru_ret rfl rfl
  | false =>
    cases h159 : decide (999 < a) with
    | true =>
      refine ⟨1, 0, 0, ⟨(q_cX q_AX q_IX q_J0, 40 + 1, 26520 + 6), q_J0 39, ?_, rfl, fun h => absurd h (by decide), Nat.le_of_ble_eq_true rfl, Nat.le_of_ble_eq_true rfl⟩, ⟨(q_cM q_AM (q_uI q_IM 0 39 1) q_J0, 34, 31630), _, ?_, rfl, rfl, Nat.le_of_ble_eq_true rfl, Nat.le_of_ble_eq_true rfl⟩, fun h => absurd h (by decide)⟩
      · refine q_Ca_of (Nat.le_of_ble_eq_true rfl) ?_
        refine q_Ru_seg (g2 := (4, [(0, .ref 64), (1, .int a), (2, .ref 103)], [.int a, .ref 64, .int 0, .ref 103], (q_cX q_AX q_IX q_J0, 40, 26520))) 4 (fun _ _ => rfl) ?_
        refine q_Ru_callH (E := "java/lang/IllegalArgumentException") (tg := 13) (i := 3) (h2 := (q_cX q_AX q_IX q_J0, 40 + 1, 26520 + 6)) rfl rfl ?_ rfl ?_
        · refine q_Ca_of (Nat.le_of_ble_eq_true rfl) ?_
          refine q_Ru_seg (g2 := (5, [(0, .ref 64), (1, .int a)], [.int 999, .int 1, .int a], (q_cX q_AX q_IX q_J0, 40, 26520))) 3 (fun _ _ => rfl) ?_
          refine q_Ru_callX (E := "java/lang/IllegalArgumentException") (h2 := (q_cX q_AX q_IX q_J0, 40 + 1, 26520 + 6)) rfl rfl ?_
          refine q_Ca_of (Nat.le_of_ble_eq_true rfl) ?_
          refine q_Ru_seg (g2 := (2, [(0, .int a), (1, .int 1), (2, .int 999)], [.int 1, .int a], (q_cX q_AX q_IX q_J0, 40, 26520))) 2 (fun _ _ => rfl) ?_
          refine q_Ru_rsF (g2 := (5, [(0, .int a), (1, .int 1), (2, .int 999)], [], (q_cX q_AX q_IX q_J0, 40, 26520))) rfl rfl h158 ?_
          refine q_Ru_seg (g2 := (7, [(0, .int a), (1, .int 1), (2, .int 999)], [.int 999, .int a], (q_cX q_AX q_IX q_J0, 40, 26520))) 2 (fun _ _ => rfl) ?_
          refine q_Ru_rsF (g2 := (10, [(0, .int a), (1, .int 1), (2, .int 999)], [], (q_cX q_AX q_IX q_J0, 40, 26520))) rfl rfl (q_d_geT h159) ?_
          exact q_Ru_thr rfl rfl
        show q_Ru _ _ _ (13, [(0, .ref 64), (1, .int a), (2, .ref 103)], [], (q_cX q_AX q_IX q_J0, 40 + 1, 26520 + 6)) _
        refine q_Ru_seg (g2 := (14, [(0, .ref 64), (1, .int a), (2, .ref 103)], [.int 1], (q_cX q_AX q_IX q_J0, 40 + 1, 26520 + 6))) 1 (fun _ _ => rfl) ?_
        exact q_Ru_ret rfl rfl
      · refine q_Ca_of (Nat.le_of_ble_eq_true rfl) ?_
        refine q_Ru_seg (g2 := (6, [(0, .ref 64), (1, .int a)], [.int 999, .int 1, .int a, .ref 64], (q_cM q_AM q_IM q_J0, 34, 31630))) 4 (fun _ _ => rfl) ?_
        refine q_Ru_call (v := (some (.int 0))) (h2 := (q_cM q_AM q_IM q_J0, 34, 31630)) rfl rfl ?_ ?_
        · refine q_Ca_of (Nat.le_of_ble_eq_true rfl) ?_
          refine q_Ru_seg (g2 := (2, [(0, .int a), (1, .int 1), (2, .int 999)], [.int 1, .int a], (q_cM q_AM q_IM q_J0, 34, 31630))) 2 (fun _ _ => rfl) ?_
          refine q_Ru_rsF (g2 := (5, [(0, .int a), (1, .int 1), (2, .int 999)], [], (q_cM q_AM q_IM q_J0, 34, 31630))) rfl rfl h158 ?_
          refine q_Ru_seg (g2 := (7, [(0, .int a), (1, .int 1), (2, .int 999)], [.int 999, .int a], (q_cM q_AM q_IM q_J0, 34, 31630))) 2 (fun _ _ => rfl) ?_
          refine q_Ru_rsT (g2 := (14, [(0, .int a), (1, .int 1), (2, .int 999)], [], (q_cM q_AM q_IM q_J0, 34, 31630))) rfl rfl h159 ?_
          refine q_Ru_seg (g2 := (15, [(0, .int a), (1, .int 1), (2, .int 999)], [.int 0], (q_cM q_AM q_IM q_J0, 34, 31630))) 1 (fun _ _ => rfl) ?_
          exact q_Ru_ret rfl rfl
        show q_Ru _ _ _ (9, [(0, .ref 64), (1, .int a)], [.int 0, .ref 64], (q_cM q_AM q_IM q_J0, 34, 31630)) _
        refine q_Ru_seg (g2 := (33, [(0, .ref 64), (1, .int a)], [.int 1, .ref 64], (q_cM q_AM q_IM q_J0, 34, 31630))) 3 (fun _ _ => rfl) ?_
        refine q_Ru_call (v := (some (.int 1))) (h2 := (q_cM q_AM (q_uI q_IM 0 39 1) q_J0, 34, 31630)) rfl rfl ?_ ?_
        · refine q_Ca_of (Nat.le_of_ble_eq_true rfl) ?_
          refine q_Ru_seg (g2 := (14, [(0, .ref 64), (1, .int 1)], [.int 1], (q_cM q_AM (q_uI q_IM 0 39 1) q_J0, 34, 31630))) 7 (fun _ _ => rfl) ?_
          exact q_Ru_ret rfl rfl
        show q_Ru _ _ _ (36, [(0, .ref 64), (1, .int a)], [.int 1], (q_cM q_AM (q_uI q_IM 0 39 1) q_J0, 34, 31630)) _
        refine q_Ru_seg (g2 := (40, [(0, .ref 64), (1, .int a)], [.int 0], (q_cM q_AM (q_uI q_IM 0 39 1) q_J0, 34, 31630))) 2 (fun _ _ => rfl) ?_
        exact q_Ru_ret rfl rfl
    | false =>
      refine ⟨0, 1, 1, ⟨(q_cX (q_uA q_AX 10 (upd (fun _ => 0) 0 a)) (q_uI q_IX 9 1 1) (q_uA q_J0 39 (vp_updL (fun _ => 0) 0 1)), 40, 26520), (q_uA q_J0 39 (vp_updL (fun _ => 0) 0 1)) 39, ?_, rfl, fun _ => rfl, Nat.le_of_ble_eq_true rfl, Nat.le_of_ble_eq_true rfl⟩, ⟨(q_cM (q_uA (q_uA (q_uA q_AM 14 (upd (upd (fun _ => 0) 3 255) 15 a)) 8 (upd (fun _ => 0) 0 a)) 14 (upd (upd (upd (fun _ => 0) 3 255) 15 a) 13 1)) (q_uI q_IM 0 39 0) q_J0, 34, 31630), _, ?_, rfl, rfl, Nat.le_of_ble_eq_true rfl, Nat.le_of_ble_eq_true rfl⟩, fun _ => rfl⟩
      · refine q_Ca_of (Nat.le_of_ble_eq_true rfl) ?_
        refine q_Ru_seg (g2 := (4, [(0, .ref 64), (1, .int a), (2, .ref 103)], [.int a, .ref 64, .int 0, .ref 103], (q_cX q_AX q_IX q_J0, 40, 26520))) 4 (fun _ _ => rfl) ?_
        refine q_Ru_call (v := (some (.int 1))) (h2 := (q_cX (q_uA q_AX 10 (upd (fun _ => 0) 0 a)) (q_uI q_IX 9 1 1) q_J0, 40, 26520)) rfl rfl ?_ ?_
        · refine q_Ca_of (Nat.le_of_ble_eq_true rfl) ?_
          refine q_Ru_seg (g2 := (5, [(0, .ref 64), (1, .int a)], [.int 999, .int 1, .int a], (q_cX q_AX q_IX q_J0, 40, 26520))) 3 (fun _ _ => rfl) ?_
          refine q_Ru_call (v := none) (h2 := (q_cX q_AX q_IX q_J0, 40, 26520)) rfl rfl ?_ ?_
          · refine q_Ca_of (Nat.le_of_ble_eq_true rfl) ?_
            refine q_Ru_seg (g2 := (2, [(0, .int a), (1, .int 1), (2, .int 999)], [.int 1, .int a], (q_cX q_AX q_IX q_J0, 40, 26520))) 2 (fun _ _ => rfl) ?_
            refine q_Ru_rsF (g2 := (5, [(0, .int a), (1, .int 1), (2, .int 999)], [], (q_cX q_AX q_IX q_J0, 40, 26520))) rfl rfl h158 ?_
            refine q_Ru_seg (g2 := (7, [(0, .int a), (1, .int 1), (2, .int 999)], [.int 999, .int a], (q_cX q_AX q_IX q_J0, 40, 26520))) 2 (fun _ _ => rfl) ?_
            refine q_Ru_rsT (g2 := (20, [(0, .int a), (1, .int 1), (2, .int 999)], [], (q_cX q_AX q_IX q_J0, 40, 26520))) rfl rfl (q_d_geF h159) ?_
            exact q_Ru_ret rfl rfl
          show q_Ru _ _ _ (8, [(0, .ref 64), (1, .int a)], [], (q_cX q_AX q_IX q_J0, 40, 26520)) _
          refine q_Ru_seg (g2 := (42, [(0, .ref 64), (1, .int a)], [.int 0, .int 0, .int a, .int 11, .ref 64], (q_cX q_AX q_IX q_J0, 40, 26520))) 12 (fun _ _ => rfl) ?_
          refine q_Ru_call (v := none) (h2 := (q_cX q_AX q_IX q_J0, 40, 26520)) rfl rfl ?_ ?_
          · refine q_Ca_of (Nat.le_of_ble_eq_true rfl) ?_
            refine q_Ru_seg (g2 := (19, [(0, .ref 64), (1, .int 11), (2, .int a), (3, .int 0), (4, .int 0)], [], (q_cX q_AX q_IX q_J0, 40, 26520))) 3 (fun _ _ => rfl) ?_
            exact q_Ru_ret rfl rfl
          show q_Ru _ _ _ (45, [(0, .ref 64), (1, .int a)], [], (q_cX q_AX q_IX q_J0, 40, 26520)) _
          refine q_Ru_seg (g2 := (54, [(0, .ref 64), (1, .int a)], [.int 0, .int 0, .int a, .int 11, .ref 65], (q_cX q_AX q_IX q_J0, 40, 26520))) 6 (fun _ _ => rfl) ?_
          refine q_Ru_call (v := (some (.int 1))) (h2 := (q_cX (q_uA q_AX 10 (upd (fun _ => 0) 0 a)) (q_uI q_IX 9 1 1) q_J0, 40, 26520)) rfl rfl ?_ ?_
          · refine q_Ca_of (Nat.le_of_ble_eq_true rfl) ?_
            refine q_Ru_seg (g2 := (188, [(0, .ref 65), (1, .int 11), (2, .int a), (3, .int 0), (4, .int 0)], [.int a, .ref 73], (q_cX q_AX q_IX q_J0, 40, 26520))) 6 (fun _ _ => rfl) ?_
            refine q_Ru_call (v := (some (.int 1))) (h2 := (q_cX (q_uA q_AX 10 (upd (fun _ => 0) 0 a)) (q_uI q_IX 9 1 1) q_J0, 40, 26520)) rfl rfl ?_ ?_
            · refine q_Ca_of (Nat.le_of_ble_eq_true rfl) ?_
              refine q_Ru_seg (g2 := (40, [(0, .ref 73), (1, .int a)], [.int 1], (q_cX (q_uA q_AX 10 (upd (fun _ => 0) 0 a)) (q_uI q_IX 9 1 1) q_J0, 40, 26520))) 21 (fun _ _ => rfl) ?_
              exact q_Ru_ret rfl rfl
            show q_Ru _ _ _ (191, [(0, .ref 65), (1, .int 11), (2, .int a), (3, .int 0), (4, .int 0)], [.int 1], (q_cX (q_uA q_AX 10 (upd (fun _ => 0) 0 a)) (q_uI q_IX 9 1 1) q_J0, 40, 26520)) _
            exact q_Ru_ret rfl rfl
          show q_Ru _ _ _ (57, [(0, .ref 64), (1, .int a)], [.int 1], (q_cX (q_uA q_AX 10 (upd (fun _ => 0) 0 a)) (q_uI q_IX 9 1 1) q_J0, 40, 26520)) _
          exact q_Ru_ret rfl rfl
        show q_Ru _ _ _ (7, [(0, .ref 64), (1, .int a), (2, .ref 103)], [.int 1, .int 0, .ref 103], (q_cX (q_uA q_AX 10 (upd (fun _ => 0) 0 a)) (q_uI q_IX 9 1 1) q_J0, 40, 26520)) _
        refine q_Ru_seg (g2 := (19, [(0, .ref 64), (1, .int a), (2, .ref 103)], [.int 0], (q_cX (q_uA q_AX 10 (upd (fun _ => 0) 0 a)) (q_uI q_IX 9 1 1) (q_uA q_J0 39 (vp_updL (fun _ => 0) 0 1)), 40, 26520))) 4 (fun _ _ => rfl) ?_
        exact q_Ru_ret rfl rfl
      · refine q_Ca_of (Nat.le_of_ble_eq_true rfl) ?_
        refine q_Ru_seg (g2 := (6, [(0, .ref 64), (1, .int a)], [.int 999, .int 1, .int a, .ref 64], (q_cM q_AM q_IM q_J0, 34, 31630))) 4 (fun _ _ => rfl) ?_
        refine q_Ru_call (v := (some (.int 1))) (h2 := (q_cM q_AM q_IM q_J0, 34, 31630)) rfl rfl ?_ ?_
        · refine q_Ca_of (Nat.le_of_ble_eq_true rfl) ?_
          refine q_Ru_seg (g2 := (2, [(0, .int a), (1, .int 1), (2, .int 999)], [.int 1, .int a], (q_cM q_AM q_IM q_J0, 34, 31630))) 2 (fun _ _ => rfl) ?_
          refine q_Ru_rsF (g2 := (5, [(0, .int a), (1, .int 1), (2, .int 999)], [], (q_cM q_AM q_IM q_J0, 34, 31630))) rfl rfl h158 ?_
          refine q_Ru_seg (g2 := (7, [(0, .int a), (1, .int 1), (2, .int 999)], [.int 999, .int a], (q_cM q_AM q_IM q_J0, 34, 31630))) 2 (fun _ _ => rfl) ?_
          refine q_Ru_rsF (g2 := (10, [(0, .int a), (1, .int 1), (2, .int 999)], [], (q_cM q_AM q_IM q_J0, 34, 31630))) rfl rfl h159 ?_
          refine q_Ru_seg (g2 := (15, [(0, .int a), (1, .int 1), (2, .int 999)], [.int 1], (q_cM q_AM q_IM q_J0, 34, 31630))) 2 (fun _ _ => rfl) ?_
          exact q_Ru_ret rfl rfl
        show q_Ru _ _ _ (9, [(0, .ref 64), (1, .int a)], [.int 1, .ref 64], (q_cM q_AM q_IM q_J0, 34, 31630)) _
        refine q_Ru_seg (g2 := (33, [(0, .ref 64), (1, .int a)], [.int 0, .ref 64], (q_cM q_AM q_IM q_J0, 34, 31630))) 8 (fun _ _ => rfl) ?_
        refine q_Ru_call (v := (some (.int 0))) (h2 := (q_cM q_AM (q_uI q_IM 0 39 0) q_J0, 34, 31630)) rfl rfl ?_ ?_
        · refine q_Ca_of (Nat.le_of_ble_eq_true rfl) ?_
          refine q_Ru_seg (g2 := (14, [(0, .ref 64), (1, .int 0)], [.int 0], (q_cM q_AM (q_uI q_IM 0 39 0) q_J0, 34, 31630))) 6 (fun _ _ => rfl) ?_
          exact q_Ru_ret rfl rfl
        show q_Ru _ _ _ (36, [(0, .ref 64), (1, .int a)], [.int 0], (q_cM q_AM (q_uI q_IM 0 39 0) q_J0, 34, 31630)) _
        refine q_Ru_seg (g2 := (42, [(0, .ref 64), (1, .int a)], [.ref 64], (q_cM q_AM (q_uI q_IM 0 39 0) q_J0, 34, 31630))) 2 (fun _ _ => rfl) ?_
        refine q_Ru_call (v := (some (.int 0))) (h2 := (q_cM q_AM (q_uI q_IM 0 39 0) q_J0, 34, 31630)) rfl rfl ?_ ?_
        · refine q_Ca_of (Nat.le_of_ble_eq_true rfl) ?_
          refine q_Ru_seg (g2 := (22, [(0, .ref 64)], [.int 0], (q_cM q_AM (q_uI q_IM 0 39 0) q_J0, 34, 31630))) 10 (fun _ _ => rfl) ?_
          exact q_Ru_ret rfl rfl
        show q_Ru _ _ _ (45, [(0, .ref 64), (1, .int a)], [.int 0], (q_cM q_AM (q_uI q_IM 0 39 0) q_J0, 34, 31630)) _
        refine q_Ru_seg (g2 := (81, [(0, .ref 64), (1, .int a)], [.ref 64], (q_cM (q_uA (q_uA (q_uA q_AM 14 (upd (upd (fun _ => 0) 3 255) 15 a)) 8 (upd (fun _ => 0) 0 a)) 14 (upd (upd (upd (fun _ => 0) 3 255) 15 a) 13 1)) (q_uI q_IM 0 39 0) q_J0, 34, 31630))) 23 (fun _ _ => rfl) ?_
        refine q_Ru_call (v := none) (h2 := (q_cM (q_uA (q_uA (q_uA q_AM 14 (upd (upd (fun _ => 0) 3 255) 15 a)) 8 (upd (fun _ => 0) 0 a)) 14 (upd (upd (upd (fun _ => 0) 3 255) 15 a) 13 1)) (q_uI q_IM 0 39 0) q_J0, 34, 31630)) rfl rfl ?_ ?_
        · refine q_Ca_of (Nat.le_of_ble_eq_true rfl) ?_
          refine q_Ru_seg (g2 := (17, [(0, .ref 64)], [], (q_cM (q_uA (q_uA (q_uA q_AM 14 (upd (upd (fun _ => 0) 3 255) 15 a)) 8 (upd (fun _ => 0) 0 a)) 14 (upd (upd (upd (fun _ => 0) 3 255) 15 a) 13 1)) (q_uI q_IM 0 39 0) q_J0, 34, 31630))) 3 (fun _ _ => rfl) ?_
          exact q_Ru_ret rfl rfl
        show q_Ru _ _ _ (84, [(0, .ref 64), (1, .int a)], [], (q_cM (q_uA (q_uA (q_uA q_AM 14 (upd (upd (fun _ => 0) 3 255) 15 a)) 8 (upd (fun _ => 0) 0 a)) 14 (upd (upd (upd (fun _ => 0) 3 255) 15 a) 13 1)) (q_uI q_IM 0 39 0) q_J0, 34, 31630)) _
        refine q_Ru_seg (g2 := (91, [(0, .ref 64), (1, .int a)], [.int 1], (q_cM (q_uA (q_uA (q_uA q_AM 14 (upd (upd (fun _ => 0) 3 255) 15 a)) 8 (upd (fun _ => 0) 0 a)) 14 (upd (upd (upd (fun _ => 0) 3 255) 15 a) 13 1)) (q_uI q_IM 0 39 0) q_J0, 34, 31630))) 4 (fun _ _ => rfl) ?_
        exact q_Ru_ret rfl rfl
set_option maxHeartbeats 20000000 in
theorem q_op_pokeRom (a v : Int32) : ∃ (r b : Int32) (w : Int64), q_opX 1 [.int a, .int v] r w ∧ q_opM 217 [.int a, .int v] r (.int b) ∧ (r = 0 → w = b.toInt64) := by
  cases h160 : decide (a < 0) with
  | true =>
    refine ⟨1, 0, 0, ⟨(q_cX q_AX q_IX q_J0, 40 + 1, 26520 + 6), q_J0 39, ?_, rfl, fun h => absurd h (by decide), Nat.le_of_ble_eq_true rfl, Nat.le_of_ble_eq_true rfl⟩, ⟨(q_cM q_AM (q_uI q_IM 0 39 1) q_J0, 34, 31630), _, ?_, rfl, rfl, Nat.le_of_ble_eq_true rfl, Nat.le_of_ble_eq_true rfl⟩, fun h => absurd h (by decide)⟩
    · refine q_Ca_of (Nat.le_of_ble_eq_true rfl) ?_
      refine q_Ru_seg (g2 := (5, [(0, .ref 64), (1, .int a), (2, .int v), (3, .ref 103)], [.int v, .int a, .ref 64, .int 0, .ref 103], (q_cX q_AX q_IX q_J0, 40, 26520))) 5 (fun _ _ => rfl) ?_
      refine q_Ru_callH (E := "java/lang/IndexOutOfBoundsException") (tg := 15) (i := 4) (h2 := (q_cX q_AX q_IX q_J0, 40 + 1, 26520 + 6)) rfl rfl ?_ rfl ?_
      · refine q_Ca_of (Nat.le_of_ble_eq_true rfl) ?_
        refine q_Ru_seg (g2 := (4, [(0, .ref 64), (1, .int a), (2, .int v)], [.int 512, .int a], (q_cX q_AX q_IX q_J0, 40, 26520))) 2 (fun _ _ => rfl) ?_
        refine q_Ru_callX (E := "java/lang/IndexOutOfBoundsException") (h2 := (q_cX q_AX q_IX q_J0, 40 + 1, 26520 + 6)) rfl rfl ?_
        refine q_Ca_of (Nat.le_of_ble_eq_true rfl) ?_
        refine q_Ru_seg (g2 := (1, [(0, .int a), (1, .int 512)], [.int a], (q_cX q_AX q_IX q_J0, 40, 26520))) 1 (fun _ _ => rfl) ?_
        refine q_Ru_rsT (g2 := (9, [(0, .int a), (1, .int 512)], [], (q_cX q_AX q_IX q_J0, 40, 26520))) rfl rfl h160 ?_
        exact q_Ru_thr rfl rfl
      show q_Ru _ _ _ (15, [(0, .ref 64), (1, .int a), (2, .int v), (3, .ref 103)], [], (q_cX q_AX q_IX q_J0, 40 + 1, 26520 + 6)) _
      refine q_Ru_seg (g2 := (16, [(0, .ref 64), (1, .int a), (2, .int v), (3, .ref 103)], [.int 1], (q_cX q_AX q_IX q_J0, 40 + 1, 26520 + 6))) 1 (fun _ _ => rfl) ?_
      exact q_Ru_ret rfl rfl
    · refine q_Ca_of (Nat.le_of_ble_eq_true rfl) ?_
      refine q_Ru_seg (g2 := (6, [(0, .ref 64), (1, .int a), (2, .int v)], [.int 511, .int 0, .int a, .ref 64], (q_cM q_AM q_IM q_J0, 34, 31630))) 4 (fun _ _ => rfl) ?_
      refine q_Ru_call (v := (some (.int 0))) (h2 := (q_cM q_AM q_IM q_J0, 34, 31630)) rfl rfl ?_ ?_
      · refine q_Ca_of (Nat.le_of_ble_eq_true rfl) ?_
        refine q_Ru_seg (g2 := (2, [(0, .int a), (1, .int 0), (2, .int 511)], [.int 0, .int a], (q_cM q_AM q_IM q_J0, 34, 31630))) 2 (fun _ _ => rfl) ?_
        refine q_Ru_rsT (g2 := (14, [(0, .int a), (1, .int 0), (2, .int 511)], [], (q_cM q_AM q_IM q_J0, 34, 31630))) rfl rfl h160 ?_
        refine q_Ru_seg (g2 := (15, [(0, .int a), (1, .int 0), (2, .int 511)], [.int 0], (q_cM q_AM q_IM q_J0, 34, 31630))) 1 (fun _ _ => rfl) ?_
        exact q_Ru_ret rfl rfl
      show q_Ru _ _ _ (9, [(0, .ref 64), (1, .int a), (2, .int v)], [.int 0, .ref 64], (q_cM q_AM q_IM q_J0, 34, 31630)) _
      refine q_Ru_seg (g2 := (28, [(0, .ref 64), (1, .int a), (2, .int v)], [.int 1, .ref 64], (q_cM q_AM q_IM q_J0, 34, 31630))) 3 (fun _ _ => rfl) ?_
      refine q_Ru_call (v := (some (.int 1))) (h2 := (q_cM q_AM (q_uI q_IM 0 39 1) q_J0, 34, 31630)) rfl rfl ?_ ?_
      · refine q_Ca_of (Nat.le_of_ble_eq_true rfl) ?_
        refine q_Ru_seg (g2 := (14, [(0, .ref 64), (1, .int 1)], [.int 1], (q_cM q_AM (q_uI q_IM 0 39 1) q_J0, 34, 31630))) 7 (fun _ _ => rfl) ?_
        exact q_Ru_ret rfl rfl
      show q_Ru _ _ _ (31, [(0, .ref 64), (1, .int a), (2, .int v)], [.int 1], (q_cM q_AM (q_uI q_IM 0 39 1) q_J0, 34, 31630)) _
      refine q_Ru_seg (g2 := (35, [(0, .ref 64), (1, .int a), (2, .int v)], [.int 0], (q_cM q_AM (q_uI q_IM 0 39 1) q_J0, 34, 31630))) 2 (fun _ _ => rfl) ?_
      exact q_Ru_ret rfl rfl
  | false =>
    cases h161 : decide (a < 512) with
    | true =>
      cases h162 : decide (v < 0) with
      | true =>
        cases h163 : decide (511 < a) with
        | true =>
          exact q_no (q_lo2 h163) (q_hi1 h161) (by decide)
        | false =>
          refine ⟨2, 0, 0, ⟨(q_cX q_AX q_IX q_J0, 40 + 1, 26520 + 6), q_J0 39, ?_, rfl, fun h => absurd h (by decide), Nat.le_of_ble_eq_true rfl, Nat.le_of_ble_eq_true rfl⟩, ⟨(q_cM q_AM (q_uI q_IM 0 39 2) q_J0, 34, 31630), _, ?_, rfl, rfl, Nat.le_of_ble_eq_true rfl, Nat.le_of_ble_eq_true rfl⟩, fun h => absurd h (by decide)⟩
          · refine q_Ca_of (Nat.le_of_ble_eq_true rfl) ?_
            refine q_Ru_seg (g2 := (5, [(0, .ref 64), (1, .int a), (2, .int v), (3, .ref 103)], [.int v, .int a, .ref 64, .int 0, .ref 103], (q_cX q_AX q_IX q_J0, 40, 26520))) 5 (fun _ _ => rfl) ?_
            refine q_Ru_callH (E := "java/lang/IllegalArgumentException") (tg := 19) (i := 4) (h2 := (q_cX q_AX q_IX q_J0, 40 + 1, 26520 + 6)) rfl rfl ?_ rfl ?_
            · refine q_Ca_of (Nat.le_of_ble_eq_true rfl) ?_
              refine q_Ru_seg (g2 := (4, [(0, .ref 64), (1, .int a), (2, .int v)], [.int 512, .int a], (q_cX q_AX q_IX q_J0, 40, 26520))) 2 (fun _ _ => rfl) ?_
              refine q_Ru_call (v := none) (h2 := (q_cX q_AX q_IX q_J0, 40, 26520)) rfl rfl ?_ ?_
              · refine q_Ca_of (Nat.le_of_ble_eq_true rfl) ?_
                refine q_Ru_seg (g2 := (1, [(0, .int a), (1, .int 512)], [.int a], (q_cX q_AX q_IX q_J0, 40, 26520))) 1 (fun _ _ => rfl) ?_
                refine q_Ru_rsF (g2 := (4, [(0, .int a), (1, .int 512)], [], (q_cX q_AX q_IX q_J0, 40, 26520))) rfl rfl h160 ?_
                refine q_Ru_seg (g2 := (6, [(0, .int a), (1, .int 512)], [.int 512, .int a], (q_cX q_AX q_IX q_J0, 40, 26520))) 2 (fun _ _ => rfl) ?_
                refine q_Ru_rsT (g2 := (19, [(0, .int a), (1, .int 512)], [], (q_cX q_AX q_IX q_J0, 40, 26520))) rfl rfl h161 ?_
                exact q_Ru_ret rfl rfl
              show q_Ru _ _ _ (7, [(0, .ref 64), (1, .int a), (2, .int v)], [], (q_cX q_AX q_IX q_J0, 40, 26520)) _
              refine q_Ru_seg (g2 := (8, [(0, .ref 64), (1, .int a), (2, .int v)], [.int v], (q_cX q_AX q_IX q_J0, 40, 26520))) 1 (fun _ _ => rfl) ?_
              refine q_Ru_callX (E := "java/lang/IllegalArgumentException") (h2 := (q_cX q_AX q_IX q_J0, 40 + 1, 26520 + 6)) rfl rfl ?_
              refine q_Ca_of (Nat.le_of_ble_eq_true rfl) ?_
              refine q_Ru_seg (g2 := (5, [(0, .int v)], [.int 255, .int 0, .int v], (q_cX q_AX q_IX q_J0, 40, 26520))) 3 (fun _ _ => rfl) ?_
              refine q_Ru_callX (E := "java/lang/IllegalArgumentException") (h2 := (q_cX q_AX q_IX q_J0, 40 + 1, 26520 + 6)) rfl rfl ?_
              refine q_Ca_of (Nat.le_of_ble_eq_true rfl) ?_
              refine q_Ru_seg (g2 := (2, [(0, .int v), (1, .int 0), (2, .int 255)], [.int 0, .int v], (q_cX q_AX q_IX q_J0, 40, 26520))) 2 (fun _ _ => rfl) ?_
              refine q_Ru_rsT (g2 := (10, [(0, .int v), (1, .int 0), (2, .int 255)], [], (q_cX q_AX q_IX q_J0, 40, 26520))) rfl rfl h162 ?_
              exact q_Ru_thr rfl rfl
            show q_Ru _ _ _ (19, [(0, .ref 64), (1, .int a), (2, .int v), (3, .ref 103)], [], (q_cX q_AX q_IX q_J0, 40 + 1, 26520 + 6)) _
            refine q_Ru_seg (g2 := (20, [(0, .ref 64), (1, .int a), (2, .int v), (3, .ref 103)], [.int 2], (q_cX q_AX q_IX q_J0, 40 + 1, 26520 + 6))) 1 (fun _ _ => rfl) ?_
            exact q_Ru_ret rfl rfl
          · refine q_Ca_of (Nat.le_of_ble_eq_true rfl) ?_
            refine q_Ru_seg (g2 := (6, [(0, .ref 64), (1, .int a), (2, .int v)], [.int 511, .int 0, .int a, .ref 64], (q_cM q_AM q_IM q_J0, 34, 31630))) 4 (fun _ _ => rfl) ?_
            refine q_Ru_call (v := (some (.int 1))) (h2 := (q_cM q_AM q_IM q_J0, 34, 31630)) rfl rfl ?_ ?_
            · refine q_Ca_of (Nat.le_of_ble_eq_true rfl) ?_
              refine q_Ru_seg (g2 := (2, [(0, .int a), (1, .int 0), (2, .int 511)], [.int 0, .int a], (q_cM q_AM q_IM q_J0, 34, 31630))) 2 (fun _ _ => rfl) ?_
              refine q_Ru_rsF (g2 := (5, [(0, .int a), (1, .int 0), (2, .int 511)], [], (q_cM q_AM q_IM q_J0, 34, 31630))) rfl rfl h160 ?_
              refine q_Ru_seg (g2 := (7, [(0, .int a), (1, .int 0), (2, .int 511)], [.int 511, .int a], (q_cM q_AM q_IM q_J0, 34, 31630))) 2 (fun _ _ => rfl) ?_
              refine q_Ru_rsF (g2 := (10, [(0, .int a), (1, .int 0), (2, .int 511)], [], (q_cM q_AM q_IM q_J0, 34, 31630))) rfl rfl h163 ?_
              refine q_Ru_seg (g2 := (15, [(0, .int a), (1, .int 0), (2, .int 511)], [.int 1], (q_cM q_AM q_IM q_J0, 34, 31630))) 2 (fun _ _ => rfl) ?_
              exact q_Ru_ret rfl rfl
            show q_Ru _ _ _ (9, [(0, .ref 64), (1, .int a), (2, .int v)], [.int 1, .ref 64], (q_cM q_AM q_IM q_J0, 34, 31630)) _
            refine q_Ru_seg (g2 := (17, [(0, .ref 64), (1, .int a), (2, .int v)], [.int v, .ref 64], (q_cM q_AM q_IM q_J0, 34, 31630))) 2 (fun _ _ => rfl) ?_
            refine q_Ru_call (v := (some (.int 1))) (h2 := (q_cM q_AM q_IM q_J0, 34, 31630)) rfl rfl ?_ ?_
            · refine q_Ca_of (Nat.le_of_ble_eq_true rfl) ?_
              refine q_Ru_seg (g2 := (5, [(0, .int v)], [.int 255, .int 0, .int v], (q_cM q_AM q_IM q_J0, 34, 31630))) 3 (fun _ _ => rfl) ?_
              refine q_Ru_call (v := (some (.int 0))) (h2 := (q_cM q_AM q_IM q_J0, 34, 31630)) rfl rfl ?_ ?_
              · refine q_Ca_of (Nat.le_of_ble_eq_true rfl) ?_
                refine q_Ru_seg (g2 := (2, [(0, .int v), (1, .int 0), (2, .int 255)], [.int 0, .int v], (q_cM q_AM q_IM q_J0, 34, 31630))) 2 (fun _ _ => rfl) ?_
                refine q_Ru_rsT (g2 := (14, [(0, .int v), (1, .int 0), (2, .int 255)], [], (q_cM q_AM q_IM q_J0, 34, 31630))) rfl rfl h162 ?_
                refine q_Ru_seg (g2 := (15, [(0, .int v), (1, .int 0), (2, .int 255)], [.int 0], (q_cM q_AM q_IM q_J0, 34, 31630))) 1 (fun _ _ => rfl) ?_
                exact q_Ru_ret rfl rfl
              show q_Ru _ _ _ (8, [(0, .int v)], [.int 0], (q_cM q_AM q_IM q_J0, 34, 31630)) _
              refine q_Ru_seg (g2 := (16, [(0, .int v)], [.int 1], (q_cM q_AM q_IM q_J0, 34, 31630))) 3 (fun _ _ => rfl) ?_
              exact q_Ru_ret rfl rfl
            show q_Ru _ _ _ (20, [(0, .ref 64), (1, .int a), (2, .int v)], [.int 1, .ref 64], (q_cM q_AM q_IM q_J0, 34, 31630)) _
            refine q_Ru_seg (g2 := (28, [(0, .ref 64), (1, .int a), (2, .int v)], [.int 2, .ref 64], (q_cM q_AM q_IM q_J0, 34, 31630))) 3 (fun _ _ => rfl) ?_
            refine q_Ru_call (v := (some (.int 1))) (h2 := (q_cM q_AM (q_uI q_IM 0 39 2) q_J0, 34, 31630)) rfl rfl ?_ ?_
            · refine q_Ca_of (Nat.le_of_ble_eq_true rfl) ?_
              refine q_Ru_seg (g2 := (14, [(0, .ref 64), (1, .int 2)], [.int 1], (q_cM q_AM (q_uI q_IM 0 39 2) q_J0, 34, 31630))) 7 (fun _ _ => rfl) ?_
              exact q_Ru_ret rfl rfl
            show q_Ru _ _ _ (31, [(0, .ref 64), (1, .int a), (2, .int v)], [.int 1], (q_cM q_AM (q_uI q_IM 0 39 2) q_J0, 34, 31630)) _
            refine q_Ru_seg (g2 := (35, [(0, .ref 64), (1, .int a), (2, .int v)], [.int 0], (q_cM q_AM (q_uI q_IM 0 39 2) q_J0, 34, 31630))) 2 (fun _ _ => rfl) ?_
            exact q_Ru_ret rfl rfl
      | false =>
        cases h164 : decide (255 < v) with
        | true =>
          cases h165 : decide (511 < a) with
          | true =>
            exact q_no (q_lo2 h165) (q_hi1 h161) (by decide)
          | false =>
            refine ⟨2, 0, 0, ⟨(q_cX q_AX q_IX q_J0, 40 + 1, 26520 + 6), q_J0 39, ?_, rfl, fun h => absurd h (by decide), Nat.le_of_ble_eq_true rfl, Nat.le_of_ble_eq_true rfl⟩, ⟨(q_cM q_AM (q_uI q_IM 0 39 2) q_J0, 34, 31630), _, ?_, rfl, rfl, Nat.le_of_ble_eq_true rfl, Nat.le_of_ble_eq_true rfl⟩, fun h => absurd h (by decide)⟩
            · refine q_Ca_of (Nat.le_of_ble_eq_true rfl) ?_
              refine q_Ru_seg (g2 := (5, [(0, .ref 64), (1, .int a), (2, .int v), (3, .ref 103)], [.int v, .int a, .ref 64, .int 0, .ref 103], (q_cX q_AX q_IX q_J0, 40, 26520))) 5 (fun _ _ => rfl) ?_
              refine q_Ru_callH (E := "java/lang/IllegalArgumentException") (tg := 19) (i := 4) (h2 := (q_cX q_AX q_IX q_J0, 40 + 1, 26520 + 6)) rfl rfl ?_ rfl ?_
              · refine q_Ca_of (Nat.le_of_ble_eq_true rfl) ?_
                refine q_Ru_seg (g2 := (4, [(0, .ref 64), (1, .int a), (2, .int v)], [.int 512, .int a], (q_cX q_AX q_IX q_J0, 40, 26520))) 2 (fun _ _ => rfl) ?_
                refine q_Ru_call (v := none) (h2 := (q_cX q_AX q_IX q_J0, 40, 26520)) rfl rfl ?_ ?_
                · refine q_Ca_of (Nat.le_of_ble_eq_true rfl) ?_
                  refine q_Ru_seg (g2 := (1, [(0, .int a), (1, .int 512)], [.int a], (q_cX q_AX q_IX q_J0, 40, 26520))) 1 (fun _ _ => rfl) ?_
                  refine q_Ru_rsF (g2 := (4, [(0, .int a), (1, .int 512)], [], (q_cX q_AX q_IX q_J0, 40, 26520))) rfl rfl h160 ?_
                  refine q_Ru_seg (g2 := (6, [(0, .int a), (1, .int 512)], [.int 512, .int a], (q_cX q_AX q_IX q_J0, 40, 26520))) 2 (fun _ _ => rfl) ?_
                  refine q_Ru_rsT (g2 := (19, [(0, .int a), (1, .int 512)], [], (q_cX q_AX q_IX q_J0, 40, 26520))) rfl rfl h161 ?_
                  exact q_Ru_ret rfl rfl
                show q_Ru _ _ _ (7, [(0, .ref 64), (1, .int a), (2, .int v)], [], (q_cX q_AX q_IX q_J0, 40, 26520)) _
                refine q_Ru_seg (g2 := (8, [(0, .ref 64), (1, .int a), (2, .int v)], [.int v], (q_cX q_AX q_IX q_J0, 40, 26520))) 1 (fun _ _ => rfl) ?_
                refine q_Ru_callX (E := "java/lang/IllegalArgumentException") (h2 := (q_cX q_AX q_IX q_J0, 40 + 1, 26520 + 6)) rfl rfl ?_
                refine q_Ca_of (Nat.le_of_ble_eq_true rfl) ?_
                refine q_Ru_seg (g2 := (5, [(0, .int v)], [.int 255, .int 0, .int v], (q_cX q_AX q_IX q_J0, 40, 26520))) 3 (fun _ _ => rfl) ?_
                refine q_Ru_callX (E := "java/lang/IllegalArgumentException") (h2 := (q_cX q_AX q_IX q_J0, 40 + 1, 26520 + 6)) rfl rfl ?_
                refine q_Ca_of (Nat.le_of_ble_eq_true rfl) ?_
                refine q_Ru_seg (g2 := (2, [(0, .int v), (1, .int 0), (2, .int 255)], [.int 0, .int v], (q_cX q_AX q_IX q_J0, 40, 26520))) 2 (fun _ _ => rfl) ?_
                refine q_Ru_rsF (g2 := (5, [(0, .int v), (1, .int 0), (2, .int 255)], [], (q_cX q_AX q_IX q_J0, 40, 26520))) rfl rfl h162 ?_
                refine q_Ru_seg (g2 := (7, [(0, .int v), (1, .int 0), (2, .int 255)], [.int 255, .int v], (q_cX q_AX q_IX q_J0, 40, 26520))) 2 (fun _ _ => rfl) ?_
                refine q_Ru_rsF (g2 := (10, [(0, .int v), (1, .int 0), (2, .int 255)], [], (q_cX q_AX q_IX q_J0, 40, 26520))) rfl rfl (q_d_geT h164) ?_
                exact q_Ru_thr rfl rfl
              show q_Ru _ _ _ (19, [(0, .ref 64), (1, .int a), (2, .int v), (3, .ref 103)], [], (q_cX q_AX q_IX q_J0, 40 + 1, 26520 + 6)) _
              refine q_Ru_seg (g2 := (20, [(0, .ref 64), (1, .int a), (2, .int v), (3, .ref 103)], [.int 2], (q_cX q_AX q_IX q_J0, 40 + 1, 26520 + 6))) 1 (fun _ _ => rfl) ?_
              exact q_Ru_ret rfl rfl
            · refine q_Ca_of (Nat.le_of_ble_eq_true rfl) ?_
              refine q_Ru_seg (g2 := (6, [(0, .ref 64), (1, .int a), (2, .int v)], [.int 511, .int 0, .int a, .ref 64], (q_cM q_AM q_IM q_J0, 34, 31630))) 4 (fun _ _ => rfl) ?_
              refine q_Ru_call (v := (some (.int 1))) (h2 := (q_cM q_AM q_IM q_J0, 34, 31630)) rfl rfl ?_ ?_
              · refine q_Ca_of (Nat.le_of_ble_eq_true rfl) ?_
                refine q_Ru_seg (g2 := (2, [(0, .int a), (1, .int 0), (2, .int 511)], [.int 0, .int a], (q_cM q_AM q_IM q_J0, 34, 31630))) 2 (fun _ _ => rfl) ?_
                refine q_Ru_rsF (g2 := (5, [(0, .int a), (1, .int 0), (2, .int 511)], [], (q_cM q_AM q_IM q_J0, 34, 31630))) rfl rfl h160 ?_
                refine q_Ru_seg (g2 := (7, [(0, .int a), (1, .int 0), (2, .int 511)], [.int 511, .int a], (q_cM q_AM q_IM q_J0, 34, 31630))) 2 (fun _ _ => rfl) ?_
                refine q_Ru_rsF (g2 := (10, [(0, .int a), (1, .int 0), (2, .int 511)], [], (q_cM q_AM q_IM q_J0, 34, 31630))) rfl rfl h165 ?_
                refine q_Ru_seg (g2 := (15, [(0, .int a), (1, .int 0), (2, .int 511)], [.int 1], (q_cM q_AM q_IM q_J0, 34, 31630))) 2 (fun _ _ => rfl) ?_
                exact q_Ru_ret rfl rfl
              show q_Ru _ _ _ (9, [(0, .ref 64), (1, .int a), (2, .int v)], [.int 1, .ref 64], (q_cM q_AM q_IM q_J0, 34, 31630)) _
              refine q_Ru_seg (g2 := (17, [(0, .ref 64), (1, .int a), (2, .int v)], [.int v, .ref 64], (q_cM q_AM q_IM q_J0, 34, 31630))) 2 (fun _ _ => rfl) ?_
              refine q_Ru_call (v := (some (.int 1))) (h2 := (q_cM q_AM q_IM q_J0, 34, 31630)) rfl rfl ?_ ?_
              · refine q_Ca_of (Nat.le_of_ble_eq_true rfl) ?_
                refine q_Ru_seg (g2 := (5, [(0, .int v)], [.int 255, .int 0, .int v], (q_cM q_AM q_IM q_J0, 34, 31630))) 3 (fun _ _ => rfl) ?_
                refine q_Ru_call (v := (some (.int 0))) (h2 := (q_cM q_AM q_IM q_J0, 34, 31630)) rfl rfl ?_ ?_
                · refine q_Ca_of (Nat.le_of_ble_eq_true rfl) ?_
                  refine q_Ru_seg (g2 := (2, [(0, .int v), (1, .int 0), (2, .int 255)], [.int 0, .int v], (q_cM q_AM q_IM q_J0, 34, 31630))) 2 (fun _ _ => rfl) ?_
                  refine q_Ru_rsF (g2 := (5, [(0, .int v), (1, .int 0), (2, .int 255)], [], (q_cM q_AM q_IM q_J0, 34, 31630))) rfl rfl h162 ?_
                  refine q_Ru_seg (g2 := (7, [(0, .int v), (1, .int 0), (2, .int 255)], [.int 255, .int v], (q_cM q_AM q_IM q_J0, 34, 31630))) 2 (fun _ _ => rfl) ?_
                  refine q_Ru_rsT (g2 := (14, [(0, .int v), (1, .int 0), (2, .int 255)], [], (q_cM q_AM q_IM q_J0, 34, 31630))) rfl rfl h164 ?_
                  refine q_Ru_seg (g2 := (15, [(0, .int v), (1, .int 0), (2, .int 255)], [.int 0], (q_cM q_AM q_IM q_J0, 34, 31630))) 1 (fun _ _ => rfl) ?_
                  exact q_Ru_ret rfl rfl
                show q_Ru _ _ _ (8, [(0, .int v)], [.int 0], (q_cM q_AM q_IM q_J0, 34, 31630)) _
                refine q_Ru_seg (g2 := (16, [(0, .int v)], [.int 1], (q_cM q_AM q_IM q_J0, 34, 31630))) 3 (fun _ _ => rfl) ?_
                exact q_Ru_ret rfl rfl
              show q_Ru _ _ _ (20, [(0, .ref 64), (1, .int a), (2, .int v)], [.int 1, .ref 64], (q_cM q_AM q_IM q_J0, 34, 31630)) _
              refine q_Ru_seg (g2 := (28, [(0, .ref 64), (1, .int a), (2, .int v)], [.int 2, .ref 64], (q_cM q_AM q_IM q_J0, 34, 31630))) 3 (fun _ _ => rfl) ?_
              refine q_Ru_call (v := (some (.int 1))) (h2 := (q_cM q_AM (q_uI q_IM 0 39 2) q_J0, 34, 31630)) rfl rfl ?_ ?_
              · refine q_Ca_of (Nat.le_of_ble_eq_true rfl) ?_
                refine q_Ru_seg (g2 := (14, [(0, .ref 64), (1, .int 2)], [.int 1], (q_cM q_AM (q_uI q_IM 0 39 2) q_J0, 34, 31630))) 7 (fun _ _ => rfl) ?_
                exact q_Ru_ret rfl rfl
              show q_Ru _ _ _ (31, [(0, .ref 64), (1, .int a), (2, .int v)], [.int 1], (q_cM q_AM (q_uI q_IM 0 39 2) q_J0, 34, 31630)) _
              refine q_Ru_seg (g2 := (35, [(0, .ref 64), (1, .int a), (2, .int v)], [.int 0], (q_cM q_AM (q_uI q_IM 0 39 2) q_J0, 34, 31630))) 2 (fun _ _ => rfl) ?_
              exact q_Ru_ret rfl rfl
        | false =>
          cases h166 : decide (511 < a) with
          | true =>
            exact q_no (q_lo2 h166) (q_hi1 h161) (by decide)
          | false =>
            refine ⟨0, 0, 0, ⟨(q_cX (q_uA q_AX 6 (upd (fun _ => 0) ((a &&& 511).toNatClampNeg) v)) q_IX (q_uA q_J0 39 (vp_updL (fun _ => 0) 0 0)), 40, 26520), (q_uA q_J0 39 (vp_updL (fun _ => 0) 0 0)) 39, ?_, rfl, fun _ => rfl, Nat.le_of_ble_eq_true rfl, Nat.le_of_ble_eq_true rfl⟩, ⟨(q_cM (q_uA q_AM 2 (upd (fun _ => 0) (a.toNatClampNeg) v)) (q_uI q_IM 0 39 0) q_J0, 34, 31630), _, ?_, rfl, rfl, Nat.le_of_ble_eq_true rfl, Nat.le_of_ble_eq_true rfl⟩, fun _ => rfl⟩
            · refine q_Ca_of (Nat.le_of_ble_eq_true rfl) ?_
              refine q_Ru_seg (g2 := (5, [(0, .ref 64), (1, .int a), (2, .int v), (3, .ref 103)], [.int v, .int a, .ref 64, .int 0, .ref 103], (q_cX q_AX q_IX q_J0, 40, 26520))) 5 (fun _ _ => rfl) ?_
              refine q_Ru_call (v := (some (.int 0))) (h2 := (q_cX (q_uA q_AX 6 (upd (fun _ => 0) ((a &&& 511).toNatClampNeg) v)) q_IX q_J0, 40, 26520)) rfl rfl ?_ ?_
              · refine q_Ca_of (Nat.le_of_ble_eq_true rfl) ?_
                refine q_Ru_seg (g2 := (4, [(0, .ref 64), (1, .int a), (2, .int v)], [.int 512, .int a], (q_cX q_AX q_IX q_J0, 40, 26520))) 2 (fun _ _ => rfl) ?_
                refine q_Ru_call (v := none) (h2 := (q_cX q_AX q_IX q_J0, 40, 26520)) rfl rfl ?_ ?_
                · refine q_Ca_of (Nat.le_of_ble_eq_true rfl) ?_
                  refine q_Ru_seg (g2 := (1, [(0, .int a), (1, .int 512)], [.int a], (q_cX q_AX q_IX q_J0, 40, 26520))) 1 (fun _ _ => rfl) ?_
                  refine q_Ru_rsF (g2 := (4, [(0, .int a), (1, .int 512)], [], (q_cX q_AX q_IX q_J0, 40, 26520))) rfl rfl h160 ?_
                  refine q_Ru_seg (g2 := (6, [(0, .int a), (1, .int 512)], [.int 512, .int a], (q_cX q_AX q_IX q_J0, 40, 26520))) 2 (fun _ _ => rfl) ?_
                  refine q_Ru_rsT (g2 := (19, [(0, .int a), (1, .int 512)], [], (q_cX q_AX q_IX q_J0, 40, 26520))) rfl rfl h161 ?_
                  exact q_Ru_ret rfl rfl
                show q_Ru _ _ _ (7, [(0, .ref 64), (1, .int a), (2, .int v)], [], (q_cX q_AX q_IX q_J0, 40, 26520)) _
                refine q_Ru_seg (g2 := (8, [(0, .ref 64), (1, .int a), (2, .int v)], [.int v], (q_cX q_AX q_IX q_J0, 40, 26520))) 1 (fun _ _ => rfl) ?_
                refine q_Ru_call (v := none) (h2 := (q_cX q_AX q_IX q_J0, 40, 26520)) rfl rfl ?_ ?_
                · refine q_Ca_of (Nat.le_of_ble_eq_true rfl) ?_
                  refine q_Ru_seg (g2 := (5, [(0, .int v)], [.int 255, .int 0, .int v], (q_cX q_AX q_IX q_J0, 40, 26520))) 3 (fun _ _ => rfl) ?_
                  refine q_Ru_call (v := none) (h2 := (q_cX q_AX q_IX q_J0, 40, 26520)) rfl rfl ?_ ?_
                  · refine q_Ca_of (Nat.le_of_ble_eq_true rfl) ?_
                    refine q_Ru_seg (g2 := (2, [(0, .int v), (1, .int 0), (2, .int 255)], [.int 0, .int v], (q_cX q_AX q_IX q_J0, 40, 26520))) 2 (fun _ _ => rfl) ?_
                    refine q_Ru_rsF (g2 := (5, [(0, .int v), (1, .int 0), (2, .int 255)], [], (q_cX q_AX q_IX q_J0, 40, 26520))) rfl rfl h162 ?_
                    refine q_Ru_seg (g2 := (7, [(0, .int v), (1, .int 0), (2, .int 255)], [.int 255, .int v], (q_cX q_AX q_IX q_J0, 40, 26520))) 2 (fun _ _ => rfl) ?_
                    refine q_Ru_rsT (g2 := (20, [(0, .int v), (1, .int 0), (2, .int 255)], [], (q_cX q_AX q_IX q_J0, 40, 26520))) rfl rfl (q_d_geF h164) ?_
                    exact q_Ru_ret rfl rfl
                  show q_Ru _ _ _ (8, [(0, .int v)], [], (q_cX q_AX q_IX q_J0, 40, 26520)) _
                  exact q_Ru_ret rfl rfl
                show q_Ru _ _ _ (11, [(0, .ref 64), (1, .int a), (2, .int v)], [], (q_cX q_AX q_IX q_J0, 40, 26520)) _
                refine q_Ru_seg (g2 := (16, [(0, .ref 64), (1, .int a), (2, .int v)], [.int 0, .int v, .int a, .int 1, .ref 64], (q_cX q_AX q_IX q_J0, 40, 26520))) 5 (fun _ _ => rfl) ?_
                refine q_Ru_call (v := none) (h2 := (q_cX q_AX q_IX q_J0, 40, 26520)) rfl rfl ?_ ?_
                · refine q_Ca_of (Nat.le_of_ble_eq_true rfl) ?_
                  refine q_Ru_seg (g2 := (19, [(0, .ref 64), (1, .int 1), (2, .int a), (3, .int v), (4, .int 0)], [], (q_cX q_AX q_IX q_J0, 40, 26520))) 3 (fun _ _ => rfl) ?_
                  exact q_Ru_ret rfl rfl
                show q_Ru _ _ _ (19, [(0, .ref 64), (1, .int a), (2, .int v)], [], (q_cX q_AX q_IX q_J0, 40, 26520)) _
                refine q_Ru_seg (g2 := (27, [(0, .ref 64), (1, .int a), (2, .int v)], [.int 0, .int v, .int a, .int 1, .ref 65], (q_cX q_AX q_IX q_J0, 40, 26520))) 6 (fun _ _ => rfl) ?_
                refine q_Ru_call (v := (some (.int 0))) (h2 := (q_cX (q_uA q_AX 6 (upd (fun _ => 0) ((a &&& 511).toNatClampNeg) v)) q_IX q_J0, 40, 26520)) rfl rfl ?_ ?_
                · refine q_Ca_of (Nat.le_of_ble_eq_true rfl) ?_
                  refine q_Ru_seg (g2 := (84, [(0, .ref 65), (1, .int 1), (2, .int a), (3, .int v), (4, .int 0)], [.int v, .int a, .ref 66], (q_cX q_AX q_IX q_J0, 40, 26520))) 6 (fun _ _ => rfl) ?_
                  refine q_Ru_call (v := (some (.int 0))) (h2 := (q_cX (q_uA q_AX 6 (upd (fun _ => 0) ((a &&& 511).toNatClampNeg) v)) q_IX q_J0, 40, 26520)) rfl rfl ?_ ?_
                  · refine q_Ca_of (Nat.le_of_ble_eq_true rfl) ?_
                    refine q_Ru_seg (g2 := (11, [(3, .int (a &&& 511)), (0, .ref 66), (1, .int a), (2, .int v)], [.int (a &&& 511), .ref 70], (q_cX q_AX q_IX q_J0, 40, 26520))) 7 (fun _ _ => rfl) ?_
                    refine q_Ru_rsT (g2 := (12, [(3, .int (a &&& 511)), (0, .ref 66), (1, .int a), (2, .int v)], [.int 0], (q_cX q_AX q_IX q_J0, 40, 26520))) rfl rfl (q_in_bd (x := a &&& 511) (n := 512) (U := 511) (L := 0) (q_and_lo a 511) (q_and_hi a 511 511)) ?_
                    refine q_Ru_seg (g2 := (20, [(4, .int 0), (3, .int (a &&& 511)), (0, .ref 66), (1, .int a), (2, .int v)], [.int v, .int (a &&& 511), .ref 70], (q_cX q_AX q_IX q_J0, 40, 26520))) 5 (fun _ _ => rfl) ?_
                    refine q_Ru_rsT (g2 := (21, [(4, .int 0), (3, .int (a &&& 511)), (0, .ref 66), (1, .int a), (2, .int v)], [], (q_cX (q_uA q_AX 6 (upd (fun _ => 0) ((a &&& 511).toNatClampNeg) v)) q_IX q_J0, 40, 26520))) rfl rfl (q_in_bd (x := a &&& 511) (n := 512) (U := 511) (L := 0) (q_and_lo a 511) (q_and_hi a 511 511)) ?_
                    refine q_Ru_seg (g2 := (23, [(4, .int 0), (3, .int (a &&& 511)), (0, .ref 66), (1, .int a), (2, .int v)], [.int 0], (q_cX (q_uA q_AX 6 (upd (fun _ => 0) ((a &&& 511).toNatClampNeg) v)) q_IX q_J0, 40, 26520))) 1 (fun _ _ => rfl) ?_
                    exact q_Ru_ret rfl rfl
                  show q_Ru _ _ _ (87, [(0, .ref 65), (1, .int 1), (2, .int a), (3, .int v), (4, .int 0)], [.int 0], (q_cX (q_uA q_AX 6 (upd (fun _ => 0) ((a &&& 511).toNatClampNeg) v)) q_IX q_J0, 40, 26520)) _
                  exact q_Ru_ret rfl rfl
                show q_Ru _ _ _ (30, [(0, .ref 64), (1, .int a), (2, .int v)], [.int 0], (q_cX (q_uA q_AX 6 (upd (fun _ => 0) ((a &&& 511).toNatClampNeg) v)) q_IX q_J0, 40, 26520)) _
                exact q_Ru_ret rfl rfl
              show q_Ru _ _ _ (8, [(0, .ref 64), (1, .int a), (2, .int v), (3, .ref 103)], [.int 0, .int 0, .ref 103], (q_cX (q_uA q_AX 6 (upd (fun _ => 0) ((a &&& 511).toNatClampNeg) v)) q_IX q_J0, 40, 26520)) _
              refine q_Ru_seg (g2 := (22, [(0, .ref 64), (1, .int a), (2, .int v), (3, .ref 103)], [.int 0], (q_cX (q_uA q_AX 6 (upd (fun _ => 0) ((a &&& 511).toNatClampNeg) v)) q_IX (q_uA q_J0 39 (vp_updL (fun _ => 0) 0 0)), 40, 26520))) 4 (fun _ _ => rfl) ?_
              exact q_Ru_ret rfl rfl
            · refine q_Ca_of (Nat.le_of_ble_eq_true rfl) ?_
              refine q_Ru_seg (g2 := (6, [(0, .ref 64), (1, .int a), (2, .int v)], [.int 511, .int 0, .int a, .ref 64], (q_cM q_AM q_IM q_J0, 34, 31630))) 4 (fun _ _ => rfl) ?_
              refine q_Ru_call (v := (some (.int 1))) (h2 := (q_cM q_AM q_IM q_J0, 34, 31630)) rfl rfl ?_ ?_
              · refine q_Ca_of (Nat.le_of_ble_eq_true rfl) ?_
                refine q_Ru_seg (g2 := (2, [(0, .int a), (1, .int 0), (2, .int 511)], [.int 0, .int a], (q_cM q_AM q_IM q_J0, 34, 31630))) 2 (fun _ _ => rfl) ?_
                refine q_Ru_rsF (g2 := (5, [(0, .int a), (1, .int 0), (2, .int 511)], [], (q_cM q_AM q_IM q_J0, 34, 31630))) rfl rfl h160 ?_
                refine q_Ru_seg (g2 := (7, [(0, .int a), (1, .int 0), (2, .int 511)], [.int 511, .int a], (q_cM q_AM q_IM q_J0, 34, 31630))) 2 (fun _ _ => rfl) ?_
                refine q_Ru_rsF (g2 := (10, [(0, .int a), (1, .int 0), (2, .int 511)], [], (q_cM q_AM q_IM q_J0, 34, 31630))) rfl rfl h166 ?_
                refine q_Ru_seg (g2 := (15, [(0, .int a), (1, .int 0), (2, .int 511)], [.int 1], (q_cM q_AM q_IM q_J0, 34, 31630))) 2 (fun _ _ => rfl) ?_
                exact q_Ru_ret rfl rfl
              show q_Ru _ _ _ (9, [(0, .ref 64), (1, .int a), (2, .int v)], [.int 1, .ref 64], (q_cM q_AM q_IM q_J0, 34, 31630)) _
              refine q_Ru_seg (g2 := (17, [(0, .ref 64), (1, .int a), (2, .int v)], [.int v, .ref 64], (q_cM q_AM q_IM q_J0, 34, 31630))) 2 (fun _ _ => rfl) ?_
              refine q_Ru_call (v := (some (.int 0))) (h2 := (q_cM q_AM q_IM q_J0, 34, 31630)) rfl rfl ?_ ?_
              · refine q_Ca_of (Nat.le_of_ble_eq_true rfl) ?_
                refine q_Ru_seg (g2 := (5, [(0, .int v)], [.int 255, .int 0, .int v], (q_cM q_AM q_IM q_J0, 34, 31630))) 3 (fun _ _ => rfl) ?_
                refine q_Ru_call (v := (some (.int 1))) (h2 := (q_cM q_AM q_IM q_J0, 34, 31630)) rfl rfl ?_ ?_
                · refine q_Ca_of (Nat.le_of_ble_eq_true rfl) ?_
                  refine q_Ru_seg (g2 := (2, [(0, .int v), (1, .int 0), (2, .int 255)], [.int 0, .int v], (q_cM q_AM q_IM q_J0, 34, 31630))) 2 (fun _ _ => rfl) ?_
                  refine q_Ru_rsF (g2 := (5, [(0, .int v), (1, .int 0), (2, .int 255)], [], (q_cM q_AM q_IM q_J0, 34, 31630))) rfl rfl h162 ?_
                  refine q_Ru_seg (g2 := (7, [(0, .int v), (1, .int 0), (2, .int 255)], [.int 255, .int v], (q_cM q_AM q_IM q_J0, 34, 31630))) 2 (fun _ _ => rfl) ?_
                  refine q_Ru_rsF (g2 := (10, [(0, .int v), (1, .int 0), (2, .int 255)], [], (q_cM q_AM q_IM q_J0, 34, 31630))) rfl rfl h164 ?_
                  refine q_Ru_seg (g2 := (15, [(0, .int v), (1, .int 0), (2, .int 255)], [.int 1], (q_cM q_AM q_IM q_J0, 34, 31630))) 2 (fun _ _ => rfl) ?_
                  exact q_Ru_ret rfl rfl
                show q_Ru _ _ _ (8, [(0, .int v)], [.int 1], (q_cM q_AM q_IM q_J0, 34, 31630)) _
                refine q_Ru_seg (g2 := (16, [(0, .int v)], [.int 0], (q_cM q_AM q_IM q_J0, 34, 31630))) 2 (fun _ _ => rfl) ?_
                exact q_Ru_ret rfl rfl
              show q_Ru _ _ _ (20, [(0, .ref 64), (1, .int a), (2, .int v)], [.int 0, .ref 64], (q_cM q_AM q_IM q_J0, 34, 31630)) _
              refine q_Ru_seg (g2 := (28, [(0, .ref 64), (1, .int a), (2, .int v)], [.int 0, .ref 64], (q_cM q_AM q_IM q_J0, 34, 31630))) 2 (fun _ _ => rfl) ?_
              refine q_Ru_call (v := (some (.int 0))) (h2 := (q_cM q_AM (q_uI q_IM 0 39 0) q_J0, 34, 31630)) rfl rfl ?_ ?_
              · refine q_Ca_of (Nat.le_of_ble_eq_true rfl) ?_
                refine q_Ru_seg (g2 := (14, [(0, .ref 64), (1, .int 0)], [.int 0], (q_cM q_AM (q_uI q_IM 0 39 0) q_J0, 34, 31630))) 6 (fun _ _ => rfl) ?_
                exact q_Ru_ret rfl rfl
              show q_Ru _ _ _ (31, [(0, .ref 64), (1, .int a), (2, .int v)], [.int 0], (q_cM q_AM (q_uI q_IM 0 39 0) q_J0, 34, 31630)) _
              refine q_Ru_seg (g2 := (41, [(0, .ref 64), (1, .int a), (2, .int v)], [.int a, .ref 66], (q_cM q_AM (q_uI q_IM 0 39 0) q_J0, 34, 31630))) 4 (fun _ _ => rfl) ?_
              refine q_Ru_rsT (g2 := (42, [(0, .ref 64), (1, .int a), (2, .int v)], [.int 0], (q_cM q_AM (q_uI q_IM 0 39 0) q_J0, 34, 31630))) rfl rfl (q_in_bd (x := a) (n := 512) (U := 511) (L := 0) (q_lo1 h160) (q_hi1 h161)) ?_
              refine q_Ru_seg (g2 := (49, [(3, .int 0), (0, .ref 64), (1, .int a), (2, .int v)], [.int v, .int a, .ref 66], (q_cM q_AM (q_uI q_IM 0 39 0) q_J0, 34, 31630))) 5 (fun _ _ => rfl) ?_
              refine q_Ru_rsT (g2 := (50, [(3, .int 0), (0, .ref 64), (1, .int a), (2, .int v)], [], (q_cM (q_uA q_AM 2 (upd (fun _ => 0) (a.toNatClampNeg) v)) (q_uI q_IM 0 39 0) q_J0, 34, 31630))) rfl rfl (q_in_bd (x := a) (n := 512) (U := 511) (L := 0) (q_lo1 h160) (q_hi1 h161)) ?_
              refine q_Ru_seg (g2 := (51, [(3, .int 0), (0, .ref 64), (1, .int a), (2, .int v)], [.ref 64], (q_cM (q_uA q_AM 2 (upd (fun _ => 0) (a.toNatClampNeg) v)) (q_uI q_IM 0 39 0) q_J0, 34, 31630))) 1 (fun _ _ => rfl) ?_
              refine q_Ru_call (v := none) (h2 := (q_cM (q_uA q_AM 2 (upd (fun _ => 0) (a.toNatClampNeg) v)) (q_uI q_IM 0 39 0) q_J0, 34, 31630)) rfl rfl ?_ ?_
              · refine q_Ca_of (Nat.le_of_ble_eq_true rfl) ?_
                refine q_Ru_seg (g2 := (17, [(0, .ref 64)], [], (q_cM (q_uA q_AM 2 (upd (fun _ => 0) (a.toNatClampNeg) v)) (q_uI q_IM 0 39 0) q_J0, 34, 31630))) 3 (fun _ _ => rfl) ?_
                exact q_Ru_ret rfl rfl
              show q_Ru _ _ _ (54, [(3, .int 0), (0, .ref 64), (1, .int a), (2, .int v)], [], (q_cM (q_uA q_AM 2 (upd (fun _ => 0) (a.toNatClampNeg) v)) (q_uI q_IM 0 39 0) q_J0, 34, 31630)) _
              refine q_Ru_seg (g2 := (55, [(3, .int 0), (0, .ref 64), (1, .int a), (2, .int v)], [.int 0], (q_cM (q_uA q_AM 2 (upd (fun _ => 0) (a.toNatClampNeg) v)) (q_uI q_IM 0 39 0) q_J0, 34, 31630))) 1 (fun _ _ => rfl) ?_
              exact q_Ru_ret rfl rfl
    | false =>
      cases h167 : decide (511 < a) with
      | true =>
        refine ⟨1, 0, 0, ⟨(q_cX q_AX q_IX q_J0, 40 + 1, 26520 + 6), q_J0 39, ?_, rfl, fun h => absurd h (by decide), Nat.le_of_ble_eq_true rfl, Nat.le_of_ble_eq_true rfl⟩, ⟨(q_cM q_AM (q_uI q_IM 0 39 1) q_J0, 34, 31630), _, ?_, rfl, rfl, Nat.le_of_ble_eq_true rfl, Nat.le_of_ble_eq_true rfl⟩, fun h => absurd h (by decide)⟩
        · refine q_Ca_of (Nat.le_of_ble_eq_true rfl) ?_
          refine q_Ru_seg (g2 := (5, [(0, .ref 64), (1, .int a), (2, .int v), (3, .ref 103)], [.int v, .int a, .ref 64, .int 0, .ref 103], (q_cX q_AX q_IX q_J0, 40, 26520))) 5 (fun _ _ => rfl) ?_
          refine q_Ru_callH (E := "java/lang/IndexOutOfBoundsException") (tg := 15) (i := 4) (h2 := (q_cX q_AX q_IX q_J0, 40 + 1, 26520 + 6)) rfl rfl ?_ rfl ?_
          · refine q_Ca_of (Nat.le_of_ble_eq_true rfl) ?_
            refine q_Ru_seg (g2 := (4, [(0, .ref 64), (1, .int a), (2, .int v)], [.int 512, .int a], (q_cX q_AX q_IX q_J0, 40, 26520))) 2 (fun _ _ => rfl) ?_
            refine q_Ru_callX (E := "java/lang/IndexOutOfBoundsException") (h2 := (q_cX q_AX q_IX q_J0, 40 + 1, 26520 + 6)) rfl rfl ?_
            refine q_Ca_of (Nat.le_of_ble_eq_true rfl) ?_
            refine q_Ru_seg (g2 := (1, [(0, .int a), (1, .int 512)], [.int a], (q_cX q_AX q_IX q_J0, 40, 26520))) 1 (fun _ _ => rfl) ?_
            refine q_Ru_rsF (g2 := (4, [(0, .int a), (1, .int 512)], [], (q_cX q_AX q_IX q_J0, 40, 26520))) rfl rfl h160 ?_
            refine q_Ru_seg (g2 := (6, [(0, .int a), (1, .int 512)], [.int 512, .int a], (q_cX q_AX q_IX q_J0, 40, 26520))) 2 (fun _ _ => rfl) ?_
            refine q_Ru_rsF (g2 := (9, [(0, .int a), (1, .int 512)], [], (q_cX q_AX q_IX q_J0, 40, 26520))) rfl rfl h161 ?_
            exact q_Ru_thr rfl rfl
          show q_Ru _ _ _ (15, [(0, .ref 64), (1, .int a), (2, .int v), (3, .ref 103)], [], (q_cX q_AX q_IX q_J0, 40 + 1, 26520 + 6)) _
          refine q_Ru_seg (g2 := (16, [(0, .ref 64), (1, .int a), (2, .int v), (3, .ref 103)], [.int 1], (q_cX q_AX q_IX q_J0, 40 + 1, 26520 + 6))) 1 (fun _ _ => rfl) ?_
          exact q_Ru_ret rfl rfl
        · refine q_Ca_of (Nat.le_of_ble_eq_true rfl) ?_
          refine q_Ru_seg (g2 := (6, [(0, .ref 64), (1, .int a), (2, .int v)], [.int 511, .int 0, .int a, .ref 64], (q_cM q_AM q_IM q_J0, 34, 31630))) 4 (fun _ _ => rfl) ?_
          refine q_Ru_call (v := (some (.int 0))) (h2 := (q_cM q_AM q_IM q_J0, 34, 31630)) rfl rfl ?_ ?_
          · refine q_Ca_of (Nat.le_of_ble_eq_true rfl) ?_
            refine q_Ru_seg (g2 := (2, [(0, .int a), (1, .int 0), (2, .int 511)], [.int 0, .int a], (q_cM q_AM q_IM q_J0, 34, 31630))) 2 (fun _ _ => rfl) ?_
            refine q_Ru_rsF (g2 := (5, [(0, .int a), (1, .int 0), (2, .int 511)], [], (q_cM q_AM q_IM q_J0, 34, 31630))) rfl rfl h160 ?_
            refine q_Ru_seg (g2 := (7, [(0, .int a), (1, .int 0), (2, .int 511)], [.int 511, .int a], (q_cM q_AM q_IM q_J0, 34, 31630))) 2 (fun _ _ => rfl) ?_
            refine q_Ru_rsT (g2 := (14, [(0, .int a), (1, .int 0), (2, .int 511)], [], (q_cM q_AM q_IM q_J0, 34, 31630))) rfl rfl h167 ?_
            refine q_Ru_seg (g2 := (15, [(0, .int a), (1, .int 0), (2, .int 511)], [.int 0], (q_cM q_AM q_IM q_J0, 34, 31630))) 1 (fun _ _ => rfl) ?_
            exact q_Ru_ret rfl rfl
          show q_Ru _ _ _ (9, [(0, .ref 64), (1, .int a), (2, .int v)], [.int 0, .ref 64], (q_cM q_AM q_IM q_J0, 34, 31630)) _
          refine q_Ru_seg (g2 := (28, [(0, .ref 64), (1, .int a), (2, .int v)], [.int 1, .ref 64], (q_cM q_AM q_IM q_J0, 34, 31630))) 3 (fun _ _ => rfl) ?_
          refine q_Ru_call (v := (some (.int 1))) (h2 := (q_cM q_AM (q_uI q_IM 0 39 1) q_J0, 34, 31630)) rfl rfl ?_ ?_
          · refine q_Ca_of (Nat.le_of_ble_eq_true rfl) ?_
            refine q_Ru_seg (g2 := (14, [(0, .ref 64), (1, .int 1)], [.int 1], (q_cM q_AM (q_uI q_IM 0 39 1) q_J0, 34, 31630))) 7 (fun _ _ => rfl) ?_
            exact q_Ru_ret rfl rfl
          show q_Ru _ _ _ (31, [(0, .ref 64), (1, .int a), (2, .int v)], [.int 1], (q_cM q_AM (q_uI q_IM 0 39 1) q_J0, 34, 31630)) _
          refine q_Ru_seg (g2 := (35, [(0, .ref 64), (1, .int a), (2, .int v)], [.int 0], (q_cM q_AM (q_uI q_IM 0 39 1) q_J0, 34, 31630))) 2 (fun _ _ => rfl) ?_
          exact q_Ru_ret rfl rfl
      | false =>
        exact q_no (q_lo1 h161) (q_hi2 h167) (by decide)
set_option maxHeartbeats 20000000 in
theorem q_op_pokeCartridge (u a v : Int32) : ∃ (r b : Int32) (w : Int64), q_opX 2 [.int u, .int a, .int v] r w ∧ q_opM 218 [.int u, .int a, .int v] r (.int b) ∧ (r = 0 → w = b.toInt64) := by
  cases h168 : decide (u < 0) with
  | true =>
    refine ⟨1, 0, 0, ⟨(q_cX q_AX q_IX q_J0, 40 + 1, 26520 + 6), q_J0 39, ?_, rfl, fun h => absurd h (by decide), Nat.le_of_ble_eq_true rfl, Nat.le_of_ble_eq_true rfl⟩, ⟨(q_cM q_AM (q_uI q_IM 0 39 1) q_J0, 34, 31630), _, ?_, rfl, rfl, Nat.le_of_ble_eq_true rfl, Nat.le_of_ble_eq_true rfl⟩, fun h => absurd h (by decide)⟩
    · refine q_Ca_of (Nat.le_of_ble_eq_true rfl) ?_
      refine q_Ru_seg (g2 := (7, [(0, .ref 64), (1, .int u), (2, .int a), (3, .int v), (4, .ref 103)], [.int v, .int a, .int u, .ref 64, .int 0, .ref 103], (q_cX q_AX q_IX q_J0, 40, 26520))) 6 (fun _ _ => rfl) ?_
      refine q_Ru_callH (E := "java/lang/IndexOutOfBoundsException") (tg := 17) (i := 5) (h2 := (q_cX q_AX q_IX q_J0, 40 + 1, 26520 + 6)) rfl rfl ?_ rfl ?_
      · refine q_Ca_of (Nat.le_of_ble_eq_true rfl) ?_
        refine q_Ru_seg (g2 := (2, [(0, .ref 64), (1, .int u), (2, .int a), (3, .int v)], [.int 4, .int u], (q_cX q_AX q_IX q_J0, 40, 26520))) 2 (fun _ _ => rfl) ?_
        refine q_Ru_callX (E := "java/lang/IndexOutOfBoundsException") (h2 := (q_cX q_AX q_IX q_J0, 40 + 1, 26520 + 6)) rfl rfl ?_
        refine q_Ca_of (Nat.le_of_ble_eq_true rfl) ?_
        refine q_Ru_seg (g2 := (1, [(0, .int u), (1, .int 4)], [.int u], (q_cX q_AX q_IX q_J0, 40, 26520))) 1 (fun _ _ => rfl) ?_
        refine q_Ru_rsT (g2 := (9, [(0, .int u), (1, .int 4)], [], (q_cX q_AX q_IX q_J0, 40, 26520))) rfl rfl h168 ?_
        exact q_Ru_thr rfl rfl
      show q_Ru _ _ _ (17, [(0, .ref 64), (1, .int u), (2, .int a), (3, .int v), (4, .ref 103)], [], (q_cX q_AX q_IX q_J0, 40 + 1, 26520 + 6)) _
      refine q_Ru_seg (g2 := (18, [(0, .ref 64), (1, .int u), (2, .int a), (3, .int v), (4, .ref 103)], [.int 1], (q_cX q_AX q_IX q_J0, 40 + 1, 26520 + 6))) 1 (fun _ _ => rfl) ?_
      exact q_Ru_ret rfl rfl
    · refine q_Ca_of (Nat.le_of_ble_eq_true rfl) ?_
      refine q_Ru_seg (g2 := (4, [(0, .ref 64), (1, .int u), (2, .int a), (3, .int v)], [.int 3, .int 0, .int u, .ref 64], (q_cM q_AM q_IM q_J0, 34, 31630))) 4 (fun _ _ => rfl) ?_
      refine q_Ru_call (v := (some (.int 0))) (h2 := (q_cM q_AM q_IM q_J0, 34, 31630)) rfl rfl ?_ ?_
      · refine q_Ca_of (Nat.le_of_ble_eq_true rfl) ?_
        refine q_Ru_seg (g2 := (2, [(0, .int u), (1, .int 0), (2, .int 3)], [.int 0, .int u], (q_cM q_AM q_IM q_J0, 34, 31630))) 2 (fun _ _ => rfl) ?_
        refine q_Ru_rsT (g2 := (14, [(0, .int u), (1, .int 0), (2, .int 3)], [], (q_cM q_AM q_IM q_J0, 34, 31630))) rfl rfl h168 ?_
        refine q_Ru_seg (g2 := (15, [(0, .int u), (1, .int 0), (2, .int 3)], [.int 0], (q_cM q_AM q_IM q_J0, 34, 31630))) 1 (fun _ _ => rfl) ?_
        exact q_Ru_ret rfl rfl
      show q_Ru _ _ _ (7, [(0, .ref 64), (1, .int u), (2, .int a), (3, .int v)], [.int 0, .ref 64], (q_cM q_AM q_IM q_J0, 34, 31630)) _
      refine q_Ru_seg (g2 := (37, [(0, .ref 64), (1, .int u), (2, .int a), (3, .int v)], [.int 1, .ref 64], (q_cM q_AM q_IM q_J0, 34, 31630))) 3 (fun _ _ => rfl) ?_
      refine q_Ru_call (v := (some (.int 1))) (h2 := (q_cM q_AM (q_uI q_IM 0 39 1) q_J0, 34, 31630)) rfl rfl ?_ ?_
      · refine q_Ca_of (Nat.le_of_ble_eq_true rfl) ?_
        refine q_Ru_seg (g2 := (14, [(0, .ref 64), (1, .int 1)], [.int 1], (q_cM q_AM (q_uI q_IM 0 39 1) q_J0, 34, 31630))) 7 (fun _ _ => rfl) ?_
        exact q_Ru_ret rfl rfl
      show q_Ru _ _ _ (40, [(0, .ref 64), (1, .int u), (2, .int a), (3, .int v)], [.int 1], (q_cM q_AM (q_uI q_IM 0 39 1) q_J0, 34, 31630)) _
      refine q_Ru_seg (g2 := (44, [(0, .ref 64), (1, .int u), (2, .int a), (3, .int v)], [.int 0], (q_cM q_AM (q_uI q_IM 0 39 1) q_J0, 34, 31630))) 2 (fun _ _ => rfl) ?_
      exact q_Ru_ret rfl rfl
  | false =>
    cases h169 : decide (u < 4) with
    | true =>
      cases h170 : decide (a < 0) with
      | true =>
        cases h171 : decide (3 < u) with
        | true =>
          exact q_no (q_lo2 h171) (q_hi1 h169) (by decide)
        | false =>
          refine ⟨1, 0, 0, ⟨(q_cX q_AX q_IX q_J0, 40 + 1, 26520 + 6), q_J0 39, ?_, rfl, fun h => absurd h (by decide), Nat.le_of_ble_eq_true rfl, Nat.le_of_ble_eq_true rfl⟩, ⟨(q_cM q_AM (q_uI q_IM 0 39 1) q_J0, 34, 31630), _, ?_, rfl, rfl, Nat.le_of_ble_eq_true rfl, Nat.le_of_ble_eq_true rfl⟩, fun h => absurd h (by decide)⟩
          · refine q_Ca_of (Nat.le_of_ble_eq_true rfl) ?_
            refine q_Ru_seg (g2 := (7, [(0, .ref 64), (1, .int u), (2, .int a), (3, .int v), (4, .ref 103)], [.int v, .int a, .int u, .ref 64, .int 0, .ref 103], (q_cX q_AX q_IX q_J0, 40, 26520))) 6 (fun _ _ => rfl) ?_
            refine q_Ru_callH (E := "java/lang/IndexOutOfBoundsException") (tg := 17) (i := 5) (h2 := (q_cX q_AX q_IX q_J0, 40 + 1, 26520 + 6)) rfl rfl ?_ rfl ?_
            · refine q_Ca_of (Nat.le_of_ble_eq_true rfl) ?_
              refine q_Ru_seg (g2 := (2, [(0, .ref 64), (1, .int u), (2, .int a), (3, .int v)], [.int 4, .int u], (q_cX q_AX q_IX q_J0, 40, 26520))) 2 (fun _ _ => rfl) ?_
              refine q_Ru_call (v := none) (h2 := (q_cX q_AX q_IX q_J0, 40, 26520)) rfl rfl ?_ ?_
              · refine q_Ca_of (Nat.le_of_ble_eq_true rfl) ?_
                refine q_Ru_seg (g2 := (1, [(0, .int u), (1, .int 4)], [.int u], (q_cX q_AX q_IX q_J0, 40, 26520))) 1 (fun _ _ => rfl) ?_
                refine q_Ru_rsF (g2 := (4, [(0, .int u), (1, .int 4)], [], (q_cX q_AX q_IX q_J0, 40, 26520))) rfl rfl h168 ?_
                refine q_Ru_seg (g2 := (6, [(0, .int u), (1, .int 4)], [.int 4, .int u], (q_cX q_AX q_IX q_J0, 40, 26520))) 2 (fun _ _ => rfl) ?_
                refine q_Ru_rsT (g2 := (19, [(0, .int u), (1, .int 4)], [], (q_cX q_AX q_IX q_J0, 40, 26520))) rfl rfl h169 ?_
                exact q_Ru_ret rfl rfl
              show q_Ru _ _ _ (5, [(0, .ref 64), (1, .int u), (2, .int a), (3, .int v)], [], (q_cX q_AX q_IX q_J0, 40, 26520)) _
              refine q_Ru_seg (g2 := (9, [(0, .ref 64), (1, .int u), (2, .int a), (3, .int v)], [.int 512, .int a], (q_cX q_AX q_IX q_J0, 40, 26520))) 2 (fun _ _ => rfl) ?_
              refine q_Ru_callX (E := "java/lang/IndexOutOfBoundsException") (h2 := (q_cX q_AX q_IX q_J0, 40 + 1, 26520 + 6)) rfl rfl ?_
              refine q_Ca_of (Nat.le_of_ble_eq_true rfl) ?_
              refine q_Ru_seg (g2 := (1, [(0, .int a), (1, .int 512)], [.int a], (q_cX q_AX q_IX q_J0, 40, 26520))) 1 (fun _ _ => rfl) ?_
              refine q_Ru_rsT (g2 := (9, [(0, .int a), (1, .int 512)], [], (q_cX q_AX q_IX q_J0, 40, 26520))) rfl rfl h170 ?_
              exact q_Ru_thr rfl rfl
            show q_Ru _ _ _ (17, [(0, .ref 64), (1, .int u), (2, .int a), (3, .int v), (4, .ref 103)], [], (q_cX q_AX q_IX q_J0, 40 + 1, 26520 + 6)) _
            refine q_Ru_seg (g2 := (18, [(0, .ref 64), (1, .int u), (2, .int a), (3, .int v), (4, .ref 103)], [.int 1], (q_cX q_AX q_IX q_J0, 40 + 1, 26520 + 6))) 1 (fun _ _ => rfl) ?_
            exact q_Ru_ret rfl rfl
          · refine q_Ca_of (Nat.le_of_ble_eq_true rfl) ?_
            refine q_Ru_seg (g2 := (4, [(0, .ref 64), (1, .int u), (2, .int a), (3, .int v)], [.int 3, .int 0, .int u, .ref 64], (q_cM q_AM q_IM q_J0, 34, 31630))) 4 (fun _ _ => rfl) ?_
            refine q_Ru_call (v := (some (.int 1))) (h2 := (q_cM q_AM q_IM q_J0, 34, 31630)) rfl rfl ?_ ?_
            · refine q_Ca_of (Nat.le_of_ble_eq_true rfl) ?_
              refine q_Ru_seg (g2 := (2, [(0, .int u), (1, .int 0), (2, .int 3)], [.int 0, .int u], (q_cM q_AM q_IM q_J0, 34, 31630))) 2 (fun _ _ => rfl) ?_
              refine q_Ru_rsF (g2 := (5, [(0, .int u), (1, .int 0), (2, .int 3)], [], (q_cM q_AM q_IM q_J0, 34, 31630))) rfl rfl h168 ?_
              refine q_Ru_seg (g2 := (7, [(0, .int u), (1, .int 0), (2, .int 3)], [.int 3, .int u], (q_cM q_AM q_IM q_J0, 34, 31630))) 2 (fun _ _ => rfl) ?_
              refine q_Ru_rsF (g2 := (10, [(0, .int u), (1, .int 0), (2, .int 3)], [], (q_cM q_AM q_IM q_J0, 34, 31630))) rfl rfl h171 ?_
              refine q_Ru_seg (g2 := (15, [(0, .int u), (1, .int 0), (2, .int 3)], [.int 1], (q_cM q_AM q_IM q_J0, 34, 31630))) 2 (fun _ _ => rfl) ?_
              exact q_Ru_ret rfl rfl
            show q_Ru _ _ _ (7, [(0, .ref 64), (1, .int u), (2, .int a), (3, .int v)], [.int 1, .ref 64], (q_cM q_AM q_IM q_J0, 34, 31630)) _
            refine q_Ru_seg (g2 := (15, [(0, .ref 64), (1, .int u), (2, .int a), (3, .int v)], [.int 511, .int 0, .int a, .ref 64], (q_cM q_AM q_IM q_J0, 34, 31630))) 4 (fun _ _ => rfl) ?_
            refine q_Ru_call (v := (some (.int 0))) (h2 := (q_cM q_AM q_IM q_J0, 34, 31630)) rfl rfl ?_ ?_
            · refine q_Ca_of (Nat.le_of_ble_eq_true rfl) ?_
              refine q_Ru_seg (g2 := (2, [(0, .int a), (1, .int 0), (2, .int 511)], [.int 0, .int a], (q_cM q_AM q_IM q_J0, 34, 31630))) 2 (fun _ _ => rfl) ?_
              refine q_Ru_rsT (g2 := (14, [(0, .int a), (1, .int 0), (2, .int 511)], [], (q_cM q_AM q_IM q_J0, 34, 31630))) rfl rfl h170 ?_
              refine q_Ru_seg (g2 := (15, [(0, .int a), (1, .int 0), (2, .int 511)], [.int 0], (q_cM q_AM q_IM q_J0, 34, 31630))) 1 (fun _ _ => rfl) ?_
              exact q_Ru_ret rfl rfl
            show q_Ru _ _ _ (18, [(0, .ref 64), (1, .int u), (2, .int a), (3, .int v)], [.int 0, .ref 64], (q_cM q_AM q_IM q_J0, 34, 31630)) _
            refine q_Ru_seg (g2 := (37, [(0, .ref 64), (1, .int u), (2, .int a), (3, .int v)], [.int 1, .ref 64], (q_cM q_AM q_IM q_J0, 34, 31630))) 3 (fun _ _ => rfl) ?_
            refine q_Ru_call (v := (some (.int 1))) (h2 := (q_cM q_AM (q_uI q_IM 0 39 1) q_J0, 34, 31630)) rfl rfl ?_ ?_
            · refine q_Ca_of (Nat.le_of_ble_eq_true rfl) ?_
              refine q_Ru_seg (g2 := (14, [(0, .ref 64), (1, .int 1)], [.int 1], (q_cM q_AM (q_uI q_IM 0 39 1) q_J0, 34, 31630))) 7 (fun _ _ => rfl) ?_
              exact q_Ru_ret rfl rfl
            show q_Ru _ _ _ (40, [(0, .ref 64), (1, .int u), (2, .int a), (3, .int v)], [.int 1], (q_cM q_AM (q_uI q_IM 0 39 1) q_J0, 34, 31630)) _
            refine q_Ru_seg (g2 := (44, [(0, .ref 64), (1, .int u), (2, .int a), (3, .int v)], [.int 0], (q_cM q_AM (q_uI q_IM 0 39 1) q_J0, 34, 31630))) 2 (fun _ _ => rfl) ?_
            exact q_Ru_ret rfl rfl
      | false =>
        cases h172 : decide (a < 512) with
        | true =>
          cases h173 : decide (v < 0) with
          | true =>
            cases h174 : decide (3 < u) with
            | true =>
              exact q_no (q_lo2 h174) (q_hi1 h169) (by decide)
            | false =>
              cases h175 : decide (511 < a) with
              | true =>
                exact q_no (q_lo2 h175) (q_hi1 h172) (by decide)
              | false =>
                refine ⟨2, 0, 0, ⟨(q_cX q_AX q_IX q_J0, 40 + 1, 26520 + 6), q_J0 39, ?_, rfl, fun h => absurd h (by decide), Nat.le_of_ble_eq_true rfl, Nat.le_of_ble_eq_true rfl⟩, ⟨(q_cM q_AM (q_uI q_IM 0 39 2) q_J0, 34, 31630), _, ?_, rfl, rfl, Nat.le_of_ble_eq_true rfl, Nat.le_of_ble_eq_true rfl⟩, fun h => absurd h (by decide)⟩
                · refine q_Ca_of (Nat.le_of_ble_eq_true rfl) ?_
                  refine q_Ru_seg (g2 := (7, [(0, .ref 64), (1, .int u), (2, .int a), (3, .int v), (4, .ref 103)], [.int v, .int a, .int u, .ref 64, .int 0, .ref 103], (q_cX q_AX q_IX q_J0, 40, 26520))) 6 (fun _ _ => rfl) ?_
                  refine q_Ru_callH (E := "java/lang/IllegalArgumentException") (tg := 21) (i := 5) (h2 := (q_cX q_AX q_IX q_J0, 40 + 1, 26520 + 6)) rfl rfl ?_ rfl ?_
                  · refine q_Ca_of (Nat.le_of_ble_eq_true rfl) ?_
                    refine q_Ru_seg (g2 := (2, [(0, .ref 64), (1, .int u), (2, .int a), (3, .int v)], [.int 4, .int u], (q_cX q_AX q_IX q_J0, 40, 26520))) 2 (fun _ _ => rfl) ?_
                    refine q_Ru_call (v := none) (h2 := (q_cX q_AX q_IX q_J0, 40, 26520)) rfl rfl ?_ ?_
                    · refine q_Ca_of (Nat.le_of_ble_eq_true rfl) ?_
                      refine q_Ru_seg (g2 := (1, [(0, .int u), (1, .int 4)], [.int u], (q_cX q_AX q_IX q_J0, 40, 26520))) 1 (fun _ _ => rfl) ?_
                      refine q_Ru_rsF (g2 := (4, [(0, .int u), (1, .int 4)], [], (q_cX q_AX q_IX q_J0, 40, 26520))) rfl rfl h168 ?_
                      refine q_Ru_seg (g2 := (6, [(0, .int u), (1, .int 4)], [.int 4, .int u], (q_cX q_AX q_IX q_J0, 40, 26520))) 2 (fun _ _ => rfl) ?_
                      refine q_Ru_rsT (g2 := (19, [(0, .int u), (1, .int 4)], [], (q_cX q_AX q_IX q_J0, 40, 26520))) rfl rfl h169 ?_
                      exact q_Ru_ret rfl rfl
                    show q_Ru _ _ _ (5, [(0, .ref 64), (1, .int u), (2, .int a), (3, .int v)], [], (q_cX q_AX q_IX q_J0, 40, 26520)) _
                    refine q_Ru_seg (g2 := (9, [(0, .ref 64), (1, .int u), (2, .int a), (3, .int v)], [.int 512, .int a], (q_cX q_AX q_IX q_J0, 40, 26520))) 2 (fun _ _ => rfl) ?_
                    refine q_Ru_call (v := none) (h2 := (q_cX q_AX q_IX q_J0, 40, 26520)) rfl rfl ?_ ?_
                    · refine q_Ca_of (Nat.le_of_ble_eq_true rfl) ?_
                      refine q_Ru_seg (g2 := (1, [(0, .int a), (1, .int 512)], [.int a], (q_cX q_AX q_IX q_J0, 40, 26520))) 1 (fun _ _ => rfl) ?_
                      refine q_Ru_rsF (g2 := (4, [(0, .int a), (1, .int 512)], [], (q_cX q_AX q_IX q_J0, 40, 26520))) rfl rfl h170 ?_
                      refine q_Ru_seg (g2 := (6, [(0, .int a), (1, .int 512)], [.int 512, .int a], (q_cX q_AX q_IX q_J0, 40, 26520))) 2 (fun _ _ => rfl) ?_
                      refine q_Ru_rsT (g2 := (19, [(0, .int a), (1, .int 512)], [], (q_cX q_AX q_IX q_J0, 40, 26520))) rfl rfl h172 ?_
                      exact q_Ru_ret rfl rfl
                    show q_Ru _ _ _ (12, [(0, .ref 64), (1, .int u), (2, .int a), (3, .int v)], [], (q_cX q_AX q_IX q_J0, 40, 26520)) _
                    refine q_Ru_seg (g2 := (13, [(0, .ref 64), (1, .int u), (2, .int a), (3, .int v)], [.int v], (q_cX q_AX q_IX q_J0, 40, 26520))) 1 (fun _ _ => rfl) ?_
                    refine q_Ru_callX (E := "java/lang/IllegalArgumentException") (h2 := (q_cX q_AX q_IX q_J0, 40 + 1, 26520 + 6)) rfl rfl ?_
                    refine q_Ca_of (Nat.le_of_ble_eq_true rfl) ?_
                    refine q_Ru_seg (g2 := (5, [(0, .int v)], [.int 255, .int 0, .int v], (q_cX q_AX q_IX q_J0, 40, 26520))) 3 (fun _ _ => rfl) ?_
                    refine q_Ru_callX (E := "java/lang/IllegalArgumentException") (h2 := (q_cX q_AX q_IX q_J0, 40 + 1, 26520 + 6)) rfl rfl ?_
                    refine q_Ca_of (Nat.le_of_ble_eq_true rfl) ?_
                    refine q_Ru_seg (g2 := (2, [(0, .int v), (1, .int 0), (2, .int 255)], [.int 0, .int v], (q_cX q_AX q_IX q_J0, 40, 26520))) 2 (fun _ _ => rfl) ?_
                    refine q_Ru_rsT (g2 := (10, [(0, .int v), (1, .int 0), (2, .int 255)], [], (q_cX q_AX q_IX q_J0, 40, 26520))) rfl rfl h173 ?_
                    exact q_Ru_thr rfl rfl
                  show q_Ru _ _ _ (21, [(0, .ref 64), (1, .int u), (2, .int a), (3, .int v), (4, .ref 103)], [], (q_cX q_AX q_IX q_J0, 40 + 1, 26520 + 6)) _
                  refine q_Ru_seg (g2 := (22, [(0, .ref 64), (1, .int u), (2, .int a), (3, .int v), (4, .ref 103)], [.int 2], (q_cX q_AX q_IX q_J0, 40 + 1, 26520 + 6))) 1 (fun _ _ => rfl) ?_
                  exact q_Ru_ret rfl rfl
                · refine q_Ca_of (Nat.le_of_ble_eq_true rfl) ?_
                  refine q_Ru_seg (g2 := (4, [(0, .ref 64), (1, .int u), (2, .int a), (3, .int v)], [.int 3, .int 0, .int u, .ref 64], (q_cM q_AM q_IM q_J0, 34, 31630))) 4 (fun _ _ => rfl) ?_
                  refine q_Ru_call (v := (some (.int 1))) (h2 := (q_cM q_AM q_IM q_J0, 34, 31630)) rfl rfl ?_ ?_
                  · refine q_Ca_of (Nat.le_of_ble_eq_true rfl) ?_
                    refine q_Ru_seg (g2 := (2, [(0, .int u), (1, .int 0), (2, .int 3)], [.int 0, .int u], (q_cM q_AM q_IM q_J0, 34, 31630))) 2 (fun _ _ => rfl) ?_
                    refine q_Ru_rsF (g2 := (5, [(0, .int u), (1, .int 0), (2, .int 3)], [], (q_cM q_AM q_IM q_J0, 34, 31630))) rfl rfl h168 ?_
                    refine q_Ru_seg (g2 := (7, [(0, .int u), (1, .int 0), (2, .int 3)], [.int 3, .int u], (q_cM q_AM q_IM q_J0, 34, 31630))) 2 (fun _ _ => rfl) ?_
                    refine q_Ru_rsF (g2 := (10, [(0, .int u), (1, .int 0), (2, .int 3)], [], (q_cM q_AM q_IM q_J0, 34, 31630))) rfl rfl h174 ?_
                    refine q_Ru_seg (g2 := (15, [(0, .int u), (1, .int 0), (2, .int 3)], [.int 1], (q_cM q_AM q_IM q_J0, 34, 31630))) 2 (fun _ _ => rfl) ?_
                    exact q_Ru_ret rfl rfl
                  show q_Ru _ _ _ (7, [(0, .ref 64), (1, .int u), (2, .int a), (3, .int v)], [.int 1, .ref 64], (q_cM q_AM q_IM q_J0, 34, 31630)) _
                  refine q_Ru_seg (g2 := (15, [(0, .ref 64), (1, .int u), (2, .int a), (3, .int v)], [.int 511, .int 0, .int a, .ref 64], (q_cM q_AM q_IM q_J0, 34, 31630))) 4 (fun _ _ => rfl) ?_
                  refine q_Ru_call (v := (some (.int 1))) (h2 := (q_cM q_AM q_IM q_J0, 34, 31630)) rfl rfl ?_ ?_
                  · refine q_Ca_of (Nat.le_of_ble_eq_true rfl) ?_
                    refine q_Ru_seg (g2 := (2, [(0, .int a), (1, .int 0), (2, .int 511)], [.int 0, .int a], (q_cM q_AM q_IM q_J0, 34, 31630))) 2 (fun _ _ => rfl) ?_
                    refine q_Ru_rsF (g2 := (5, [(0, .int a), (1, .int 0), (2, .int 511)], [], (q_cM q_AM q_IM q_J0, 34, 31630))) rfl rfl h170 ?_
                    refine q_Ru_seg (g2 := (7, [(0, .int a), (1, .int 0), (2, .int 511)], [.int 511, .int a], (q_cM q_AM q_IM q_J0, 34, 31630))) 2 (fun _ _ => rfl) ?_
                    refine q_Ru_rsF (g2 := (10, [(0, .int a), (1, .int 0), (2, .int 511)], [], (q_cM q_AM q_IM q_J0, 34, 31630))) rfl rfl h175 ?_
                    refine q_Ru_seg (g2 := (15, [(0, .int a), (1, .int 0), (2, .int 511)], [.int 1], (q_cM q_AM q_IM q_J0, 34, 31630))) 2 (fun _ _ => rfl) ?_
                    exact q_Ru_ret rfl rfl
                  show q_Ru _ _ _ (18, [(0, .ref 64), (1, .int u), (2, .int a), (3, .int v)], [.int 1, .ref 64], (q_cM q_AM q_IM q_J0, 34, 31630)) _
                  refine q_Ru_seg (g2 := (26, [(0, .ref 64), (1, .int u), (2, .int a), (3, .int v)], [.int v, .ref 64], (q_cM q_AM q_IM q_J0, 34, 31630))) 2 (fun _ _ => rfl) ?_
                  refine q_Ru_call (v := (some (.int 1))) (h2 := (q_cM q_AM q_IM q_J0, 34, 31630)) rfl rfl ?_ ?_
                  · refine q_Ca_of (Nat.le_of_ble_eq_true rfl) ?_
                    refine q_Ru_seg (g2 := (5, [(0, .int v)], [.int 255, .int 0, .int v], (q_cM q_AM q_IM q_J0, 34, 31630))) 3 (fun _ _ => rfl) ?_
                    refine q_Ru_call (v := (some (.int 0))) (h2 := (q_cM q_AM q_IM q_J0, 34, 31630)) rfl rfl ?_ ?_
                    · refine q_Ca_of (Nat.le_of_ble_eq_true rfl) ?_
                      refine q_Ru_seg (g2 := (2, [(0, .int v), (1, .int 0), (2, .int 255)], [.int 0, .int v], (q_cM q_AM q_IM q_J0, 34, 31630))) 2 (fun _ _ => rfl) ?_
                      refine q_Ru_rsT (g2 := (14, [(0, .int v), (1, .int 0), (2, .int 255)], [], (q_cM q_AM q_IM q_J0, 34, 31630))) rfl rfl h173 ?_
                      refine q_Ru_seg (g2 := (15, [(0, .int v), (1, .int 0), (2, .int 255)], [.int 0], (q_cM q_AM q_IM q_J0, 34, 31630))) 1 (fun _ _ => rfl) ?_
                      exact q_Ru_ret rfl rfl
                    show q_Ru _ _ _ (8, [(0, .int v)], [.int 0], (q_cM q_AM q_IM q_J0, 34, 31630)) _
                    refine q_Ru_seg (g2 := (16, [(0, .int v)], [.int 1], (q_cM q_AM q_IM q_J0, 34, 31630))) 3 (fun _ _ => rfl) ?_
                    exact q_Ru_ret rfl rfl
                  show q_Ru _ _ _ (29, [(0, .ref 64), (1, .int u), (2, .int a), (3, .int v)], [.int 1, .ref 64], (q_cM q_AM q_IM q_J0, 34, 31630)) _
                  refine q_Ru_seg (g2 := (37, [(0, .ref 64), (1, .int u), (2, .int a), (3, .int v)], [.int 2, .ref 64], (q_cM q_AM q_IM q_J0, 34, 31630))) 3 (fun _ _ => rfl) ?_
                  refine q_Ru_call (v := (some (.int 1))) (h2 := (q_cM q_AM (q_uI q_IM 0 39 2) q_J0, 34, 31630)) rfl rfl ?_ ?_
                  · refine q_Ca_of (Nat.le_of_ble_eq_true rfl) ?_
                    refine q_Ru_seg (g2 := (14, [(0, .ref 64), (1, .int 2)], [.int 1], (q_cM q_AM (q_uI q_IM 0 39 2) q_J0, 34, 31630))) 7 (fun _ _ => rfl) ?_
                    exact q_Ru_ret rfl rfl
                  show q_Ru _ _ _ (40, [(0, .ref 64), (1, .int u), (2, .int a), (3, .int v)], [.int 1], (q_cM q_AM (q_uI q_IM 0 39 2) q_J0, 34, 31630)) _
                  refine q_Ru_seg (g2 := (44, [(0, .ref 64), (1, .int u), (2, .int a), (3, .int v)], [.int 0], (q_cM q_AM (q_uI q_IM 0 39 2) q_J0, 34, 31630))) 2 (fun _ _ => rfl) ?_
                  exact q_Ru_ret rfl rfl
          | false =>
            cases h176 : decide (255 < v) with
            | true =>
              cases h177 : decide (3 < u) with
              | true =>
                exact q_no (q_lo2 h177) (q_hi1 h169) (by decide)
              | false =>
                cases h178 : decide (511 < a) with
                | true =>
                  exact q_no (q_lo2 h178) (q_hi1 h172) (by decide)
                | false =>
                  refine ⟨2, 0, 0, ⟨(q_cX q_AX q_IX q_J0, 40 + 1, 26520 + 6), q_J0 39, ?_, rfl, fun h => absurd h (by decide), Nat.le_of_ble_eq_true rfl, Nat.le_of_ble_eq_true rfl⟩, ⟨(q_cM q_AM (q_uI q_IM 0 39 2) q_J0, 34, 31630), _, ?_, rfl, rfl, Nat.le_of_ble_eq_true rfl, Nat.le_of_ble_eq_true rfl⟩, fun h => absurd h (by decide)⟩
                  · refine q_Ca_of (Nat.le_of_ble_eq_true rfl) ?_
                    refine q_Ru_seg (g2 := (7, [(0, .ref 64), (1, .int u), (2, .int a), (3, .int v), (4, .ref 103)], [.int v, .int a, .int u, .ref 64, .int 0, .ref 103], (q_cX q_AX q_IX q_J0, 40, 26520))) 6 (fun _ _ => rfl) ?_
                    refine q_Ru_callH (E := "java/lang/IllegalArgumentException") (tg := 21) (i := 5) (h2 := (q_cX q_AX q_IX q_J0, 40 + 1, 26520 + 6)) rfl rfl ?_ rfl ?_
                    · refine q_Ca_of (Nat.le_of_ble_eq_true rfl) ?_
                      refine q_Ru_seg (g2 := (2, [(0, .ref 64), (1, .int u), (2, .int a), (3, .int v)], [.int 4, .int u], (q_cX q_AX q_IX q_J0, 40, 26520))) 2 (fun _ _ => rfl) ?_
                      refine q_Ru_call (v := none) (h2 := (q_cX q_AX q_IX q_J0, 40, 26520)) rfl rfl ?_ ?_
                      · refine q_Ca_of (Nat.le_of_ble_eq_true rfl) ?_
                        refine q_Ru_seg (g2 := (1, [(0, .int u), (1, .int 4)], [.int u], (q_cX q_AX q_IX q_J0, 40, 26520))) 1 (fun _ _ => rfl) ?_
                        refine q_Ru_rsF (g2 := (4, [(0, .int u), (1, .int 4)], [], (q_cX q_AX q_IX q_J0, 40, 26520))) rfl rfl h168 ?_
                        refine q_Ru_seg (g2 := (6, [(0, .int u), (1, .int 4)], [.int 4, .int u], (q_cX q_AX q_IX q_J0, 40, 26520))) 2 (fun _ _ => rfl) ?_
                        refine q_Ru_rsT (g2 := (19, [(0, .int u), (1, .int 4)], [], (q_cX q_AX q_IX q_J0, 40, 26520))) rfl rfl h169 ?_
                        exact q_Ru_ret rfl rfl
                      show q_Ru _ _ _ (5, [(0, .ref 64), (1, .int u), (2, .int a), (3, .int v)], [], (q_cX q_AX q_IX q_J0, 40, 26520)) _
                      refine q_Ru_seg (g2 := (9, [(0, .ref 64), (1, .int u), (2, .int a), (3, .int v)], [.int 512, .int a], (q_cX q_AX q_IX q_J0, 40, 26520))) 2 (fun _ _ => rfl) ?_
                      refine q_Ru_call (v := none) (h2 := (q_cX q_AX q_IX q_J0, 40, 26520)) rfl rfl ?_ ?_
                      · refine q_Ca_of (Nat.le_of_ble_eq_true rfl) ?_
                        refine q_Ru_seg (g2 := (1, [(0, .int a), (1, .int 512)], [.int a], (q_cX q_AX q_IX q_J0, 40, 26520))) 1 (fun _ _ => rfl) ?_
                        refine q_Ru_rsF (g2 := (4, [(0, .int a), (1, .int 512)], [], (q_cX q_AX q_IX q_J0, 40, 26520))) rfl rfl h170 ?_
                        refine q_Ru_seg (g2 := (6, [(0, .int a), (1, .int 512)], [.int 512, .int a], (q_cX q_AX q_IX q_J0, 40, 26520))) 2 (fun _ _ => rfl) ?_
                        refine q_Ru_rsT (g2 := (19, [(0, .int a), (1, .int 512)], [], (q_cX q_AX q_IX q_J0, 40, 26520))) rfl rfl h172 ?_
                        exact q_Ru_ret rfl rfl
                      show q_Ru _ _ _ (12, [(0, .ref 64), (1, .int u), (2, .int a), (3, .int v)], [], (q_cX q_AX q_IX q_J0, 40, 26520)) _
                      refine q_Ru_seg (g2 := (13, [(0, .ref 64), (1, .int u), (2, .int a), (3, .int v)], [.int v], (q_cX q_AX q_IX q_J0, 40, 26520))) 1 (fun _ _ => rfl) ?_
                      refine q_Ru_callX (E := "java/lang/IllegalArgumentException") (h2 := (q_cX q_AX q_IX q_J0, 40 + 1, 26520 + 6)) rfl rfl ?_
                      refine q_Ca_of (Nat.le_of_ble_eq_true rfl) ?_
                      refine q_Ru_seg (g2 := (5, [(0, .int v)], [.int 255, .int 0, .int v], (q_cX q_AX q_IX q_J0, 40, 26520))) 3 (fun _ _ => rfl) ?_
                      refine q_Ru_callX (E := "java/lang/IllegalArgumentException") (h2 := (q_cX q_AX q_IX q_J0, 40 + 1, 26520 + 6)) rfl rfl ?_
                      refine q_Ca_of (Nat.le_of_ble_eq_true rfl) ?_
                      refine q_Ru_seg (g2 := (2, [(0, .int v), (1, .int 0), (2, .int 255)], [.int 0, .int v], (q_cX q_AX q_IX q_J0, 40, 26520))) 2 (fun _ _ => rfl) ?_
                      refine q_Ru_rsF (g2 := (5, [(0, .int v), (1, .int 0), (2, .int 255)], [], (q_cX q_AX q_IX q_J0, 40, 26520))) rfl rfl h173 ?_
                      refine q_Ru_seg (g2 := (7, [(0, .int v), (1, .int 0), (2, .int 255)], [.int 255, .int v], (q_cX q_AX q_IX q_J0, 40, 26520))) 2 (fun _ _ => rfl) ?_
                      refine q_Ru_rsF (g2 := (10, [(0, .int v), (1, .int 0), (2, .int 255)], [], (q_cX q_AX q_IX q_J0, 40, 26520))) rfl rfl (q_d_geT h176) ?_
                      exact q_Ru_thr rfl rfl
                    show q_Ru _ _ _ (21, [(0, .ref 64), (1, .int u), (2, .int a), (3, .int v), (4, .ref 103)], [], (q_cX q_AX q_IX q_J0, 40 + 1, 26520 + 6)) _
                    refine q_Ru_seg (g2 := (22, [(0, .ref 64), (1, .int u), (2, .int a), (3, .int v), (4, .ref 103)], [.int 2], (q_cX q_AX q_IX q_J0, 40 + 1, 26520 + 6))) 1 (fun _ _ => rfl) ?_
                    exact q_Ru_ret rfl rfl
                  · refine q_Ca_of (Nat.le_of_ble_eq_true rfl) ?_
                    refine q_Ru_seg (g2 := (4, [(0, .ref 64), (1, .int u), (2, .int a), (3, .int v)], [.int 3, .int 0, .int u, .ref 64], (q_cM q_AM q_IM q_J0, 34, 31630))) 4 (fun _ _ => rfl) ?_
                    refine q_Ru_call (v := (some (.int 1))) (h2 := (q_cM q_AM q_IM q_J0, 34, 31630)) rfl rfl ?_ ?_
                    · refine q_Ca_of (Nat.le_of_ble_eq_true rfl) ?_
                      refine q_Ru_seg (g2 := (2, [(0, .int u), (1, .int 0), (2, .int 3)], [.int 0, .int u], (q_cM q_AM q_IM q_J0, 34, 31630))) 2 (fun _ _ => rfl) ?_
                      refine q_Ru_rsF (g2 := (5, [(0, .int u), (1, .int 0), (2, .int 3)], [], (q_cM q_AM q_IM q_J0, 34, 31630))) rfl rfl h168 ?_
                      refine q_Ru_seg (g2 := (7, [(0, .int u), (1, .int 0), (2, .int 3)], [.int 3, .int u], (q_cM q_AM q_IM q_J0, 34, 31630))) 2 (fun _ _ => rfl) ?_
                      refine q_Ru_rsF (g2 := (10, [(0, .int u), (1, .int 0), (2, .int 3)], [], (q_cM q_AM q_IM q_J0, 34, 31630))) rfl rfl h177 ?_
                      refine q_Ru_seg (g2 := (15, [(0, .int u), (1, .int 0), (2, .int 3)], [.int 1], (q_cM q_AM q_IM q_J0, 34, 31630))) 2 (fun _ _ => rfl) ?_
                      exact q_Ru_ret rfl rfl
                    show q_Ru _ _ _ (7, [(0, .ref 64), (1, .int u), (2, .int a), (3, .int v)], [.int 1, .ref 64], (q_cM q_AM q_IM q_J0, 34, 31630)) _
                    refine q_Ru_seg (g2 := (15, [(0, .ref 64), (1, .int u), (2, .int a), (3, .int v)], [.int 511, .int 0, .int a, .ref 64], (q_cM q_AM q_IM q_J0, 34, 31630))) 4 (fun _ _ => rfl) ?_
                    refine q_Ru_call (v := (some (.int 1))) (h2 := (q_cM q_AM q_IM q_J0, 34, 31630)) rfl rfl ?_ ?_
                    · refine q_Ca_of (Nat.le_of_ble_eq_true rfl) ?_
                      refine q_Ru_seg (g2 := (2, [(0, .int a), (1, .int 0), (2, .int 511)], [.int 0, .int a], (q_cM q_AM q_IM q_J0, 34, 31630))) 2 (fun _ _ => rfl) ?_
                      refine q_Ru_rsF (g2 := (5, [(0, .int a), (1, .int 0), (2, .int 511)], [], (q_cM q_AM q_IM q_J0, 34, 31630))) rfl rfl h170 ?_
                      refine q_Ru_seg (g2 := (7, [(0, .int a), (1, .int 0), (2, .int 511)], [.int 511, .int a], (q_cM q_AM q_IM q_J0, 34, 31630))) 2 (fun _ _ => rfl) ?_
                      refine q_Ru_rsF (g2 := (10, [(0, .int a), (1, .int 0), (2, .int 511)], [], (q_cM q_AM q_IM q_J0, 34, 31630))) rfl rfl h178 ?_
                      refine q_Ru_seg (g2 := (15, [(0, .int a), (1, .int 0), (2, .int 511)], [.int 1], (q_cM q_AM q_IM q_J0, 34, 31630))) 2 (fun _ _ => rfl) ?_
                      exact q_Ru_ret rfl rfl
                    show q_Ru _ _ _ (18, [(0, .ref 64), (1, .int u), (2, .int a), (3, .int v)], [.int 1, .ref 64], (q_cM q_AM q_IM q_J0, 34, 31630)) _
                    refine q_Ru_seg (g2 := (26, [(0, .ref 64), (1, .int u), (2, .int a), (3, .int v)], [.int v, .ref 64], (q_cM q_AM q_IM q_J0, 34, 31630))) 2 (fun _ _ => rfl) ?_
                    refine q_Ru_call (v := (some (.int 1))) (h2 := (q_cM q_AM q_IM q_J0, 34, 31630)) rfl rfl ?_ ?_
                    · refine q_Ca_of (Nat.le_of_ble_eq_true rfl) ?_
                      refine q_Ru_seg (g2 := (5, [(0, .int v)], [.int 255, .int 0, .int v], (q_cM q_AM q_IM q_J0, 34, 31630))) 3 (fun _ _ => rfl) ?_
                      refine q_Ru_call (v := (some (.int 0))) (h2 := (q_cM q_AM q_IM q_J0, 34, 31630)) rfl rfl ?_ ?_
                      · refine q_Ca_of (Nat.le_of_ble_eq_true rfl) ?_
                        refine q_Ru_seg (g2 := (2, [(0, .int v), (1, .int 0), (2, .int 255)], [.int 0, .int v], (q_cM q_AM q_IM q_J0, 34, 31630))) 2 (fun _ _ => rfl) ?_
                        refine q_Ru_rsF (g2 := (5, [(0, .int v), (1, .int 0), (2, .int 255)], [], (q_cM q_AM q_IM q_J0, 34, 31630))) rfl rfl h173 ?_
                        refine q_Ru_seg (g2 := (7, [(0, .int v), (1, .int 0), (2, .int 255)], [.int 255, .int v], (q_cM q_AM q_IM q_J0, 34, 31630))) 2 (fun _ _ => rfl) ?_
                        refine q_Ru_rsT (g2 := (14, [(0, .int v), (1, .int 0), (2, .int 255)], [], (q_cM q_AM q_IM q_J0, 34, 31630))) rfl rfl h176 ?_
                        refine q_Ru_seg (g2 := (15, [(0, .int v), (1, .int 0), (2, .int 255)], [.int 0], (q_cM q_AM q_IM q_J0, 34, 31630))) 1 (fun _ _ => rfl) ?_
                        exact q_Ru_ret rfl rfl
                      show q_Ru _ _ _ (8, [(0, .int v)], [.int 0], (q_cM q_AM q_IM q_J0, 34, 31630)) _
                      refine q_Ru_seg (g2 := (16, [(0, .int v)], [.int 1], (q_cM q_AM q_IM q_J0, 34, 31630))) 3 (fun _ _ => rfl) ?_
                      exact q_Ru_ret rfl rfl
                    show q_Ru _ _ _ (29, [(0, .ref 64), (1, .int u), (2, .int a), (3, .int v)], [.int 1, .ref 64], (q_cM q_AM q_IM q_J0, 34, 31630)) _
                    refine q_Ru_seg (g2 := (37, [(0, .ref 64), (1, .int u), (2, .int a), (3, .int v)], [.int 2, .ref 64], (q_cM q_AM q_IM q_J0, 34, 31630))) 3 (fun _ _ => rfl) ?_
                    refine q_Ru_call (v := (some (.int 1))) (h2 := (q_cM q_AM (q_uI q_IM 0 39 2) q_J0, 34, 31630)) rfl rfl ?_ ?_
                    · refine q_Ca_of (Nat.le_of_ble_eq_true rfl) ?_
                      refine q_Ru_seg (g2 := (14, [(0, .ref 64), (1, .int 2)], [.int 1], (q_cM q_AM (q_uI q_IM 0 39 2) q_J0, 34, 31630))) 7 (fun _ _ => rfl) ?_
                      exact q_Ru_ret rfl rfl
                    show q_Ru _ _ _ (40, [(0, .ref 64), (1, .int u), (2, .int a), (3, .int v)], [.int 1], (q_cM q_AM (q_uI q_IM 0 39 2) q_J0, 34, 31630)) _
                    refine q_Ru_seg (g2 := (44, [(0, .ref 64), (1, .int u), (2, .int a), (3, .int v)], [.int 0], (q_cM q_AM (q_uI q_IM 0 39 2) q_J0, 34, 31630))) 2 (fun _ _ => rfl) ?_
                    exact q_Ru_ret rfl rfl
            | false =>
              cases h179 : decide (3 < u) with
              | true =>
                exact q_no (q_lo2 h179) (q_hi1 h169) (by decide)
              | false =>
                cases h180 : decide (511 < a) with
                | true =>
                  exact q_no (q_lo2 h180) (q_hi1 h172) (by decide)
                | false =>
                  refine ⟨0, 0, 0, ⟨(q_cX (q_uA q_AX 7 (upd (fun _ => 0) ((((512 * u) + a) &&& 2047).toNatClampNeg) v)) q_IX (q_uA q_J0 39 (vp_updL (fun _ => 0) 0 0)), 40, 26520), (q_uA q_J0 39 (vp_updL (fun _ => 0) 0 0)) 39, ?_, rfl, fun _ => rfl, Nat.le_of_ble_eq_true rfl, Nat.le_of_ble_eq_true rfl⟩, ⟨(q_cM (q_uA q_AM 3 (upd (fun _ => 0) (((512 * u) + a).toNatClampNeg) v)) (q_uI q_IM 0 39 0) q_J0, 34, 31630), _, ?_, rfl, rfl, Nat.le_of_ble_eq_true rfl, Nat.le_of_ble_eq_true rfl⟩, fun _ => rfl⟩
                  · refine q_Ca_of (Nat.le_of_ble_eq_true rfl) ?_
                    refine q_Ru_seg (g2 := (7, [(0, .ref 64), (1, .int u), (2, .int a), (3, .int v), (4, .ref 103)], [.int v, .int a, .int u, .ref 64, .int 0, .ref 103], (q_cX q_AX q_IX q_J0, 40, 26520))) 6 (fun _ _ => rfl) ?_
                    refine q_Ru_call (v := (some (.int 0))) (h2 := (q_cX (q_uA q_AX 7 (upd (fun _ => 0) ((((512 * u) + a) &&& 2047).toNatClampNeg) v)) q_IX q_J0, 40, 26520)) rfl rfl ?_ ?_
                    · refine q_Ca_of (Nat.le_of_ble_eq_true rfl) ?_
                      refine q_Ru_seg (g2 := (2, [(0, .ref 64), (1, .int u), (2, .int a), (3, .int v)], [.int 4, .int u], (q_cX q_AX q_IX q_J0, 40, 26520))) 2 (fun _ _ => rfl) ?_
                      refine q_Ru_call (v := none) (h2 := (q_cX q_AX q_IX q_J0, 40, 26520)) rfl rfl ?_ ?_
                      · refine q_Ca_of (Nat.le_of_ble_eq_true rfl) ?_
                        refine q_Ru_seg (g2 := (1, [(0, .int u), (1, .int 4)], [.int u], (q_cX q_AX q_IX q_J0, 40, 26520))) 1 (fun _ _ => rfl) ?_
                        refine q_Ru_rsF (g2 := (4, [(0, .int u), (1, .int 4)], [], (q_cX q_AX q_IX q_J0, 40, 26520))) rfl rfl h168 ?_
                        refine q_Ru_seg (g2 := (6, [(0, .int u), (1, .int 4)], [.int 4, .int u], (q_cX q_AX q_IX q_J0, 40, 26520))) 2 (fun _ _ => rfl) ?_
                        refine q_Ru_rsT (g2 := (19, [(0, .int u), (1, .int 4)], [], (q_cX q_AX q_IX q_J0, 40, 26520))) rfl rfl h169 ?_
                        exact q_Ru_ret rfl rfl
                      show q_Ru _ _ _ (5, [(0, .ref 64), (1, .int u), (2, .int a), (3, .int v)], [], (q_cX q_AX q_IX q_J0, 40, 26520)) _
                      refine q_Ru_seg (g2 := (9, [(0, .ref 64), (1, .int u), (2, .int a), (3, .int v)], [.int 512, .int a], (q_cX q_AX q_IX q_J0, 40, 26520))) 2 (fun _ _ => rfl) ?_
                      refine q_Ru_call (v := none) (h2 := (q_cX q_AX q_IX q_J0, 40, 26520)) rfl rfl ?_ ?_
                      · refine q_Ca_of (Nat.le_of_ble_eq_true rfl) ?_
                        refine q_Ru_seg (g2 := (1, [(0, .int a), (1, .int 512)], [.int a], (q_cX q_AX q_IX q_J0, 40, 26520))) 1 (fun _ _ => rfl) ?_
                        refine q_Ru_rsF (g2 := (4, [(0, .int a), (1, .int 512)], [], (q_cX q_AX q_IX q_J0, 40, 26520))) rfl rfl h170 ?_
                        refine q_Ru_seg (g2 := (6, [(0, .int a), (1, .int 512)], [.int 512, .int a], (q_cX q_AX q_IX q_J0, 40, 26520))) 2 (fun _ _ => rfl) ?_
                        refine q_Ru_rsT (g2 := (19, [(0, .int a), (1, .int 512)], [], (q_cX q_AX q_IX q_J0, 40, 26520))) rfl rfl h172 ?_
                        exact q_Ru_ret rfl rfl
                      show q_Ru _ _ _ (12, [(0, .ref 64), (1, .int u), (2, .int a), (3, .int v)], [], (q_cX q_AX q_IX q_J0, 40, 26520)) _
                      refine q_Ru_seg (g2 := (13, [(0, .ref 64), (1, .int u), (2, .int a), (3, .int v)], [.int v], (q_cX q_AX q_IX q_J0, 40, 26520))) 1 (fun _ _ => rfl) ?_
                      refine q_Ru_call (v := none) (h2 := (q_cX q_AX q_IX q_J0, 40, 26520)) rfl rfl ?_ ?_
                      · refine q_Ca_of (Nat.le_of_ble_eq_true rfl) ?_
                        refine q_Ru_seg (g2 := (5, [(0, .int v)], [.int 255, .int 0, .int v], (q_cX q_AX q_IX q_J0, 40, 26520))) 3 (fun _ _ => rfl) ?_
                        refine q_Ru_call (v := none) (h2 := (q_cX q_AX q_IX q_J0, 40, 26520)) rfl rfl ?_ ?_
                        · refine q_Ca_of (Nat.le_of_ble_eq_true rfl) ?_
                          refine q_Ru_seg (g2 := (2, [(0, .int v), (1, .int 0), (2, .int 255)], [.int 0, .int v], (q_cX q_AX q_IX q_J0, 40, 26520))) 2 (fun _ _ => rfl) ?_
                          refine q_Ru_rsF (g2 := (5, [(0, .int v), (1, .int 0), (2, .int 255)], [], (q_cX q_AX q_IX q_J0, 40, 26520))) rfl rfl h173 ?_
                          refine q_Ru_seg (g2 := (7, [(0, .int v), (1, .int 0), (2, .int 255)], [.int 255, .int v], (q_cX q_AX q_IX q_J0, 40, 26520))) 2 (fun _ _ => rfl) ?_
                          refine q_Ru_rsT (g2 := (20, [(0, .int v), (1, .int 0), (2, .int 255)], [], (q_cX q_AX q_IX q_J0, 40, 26520))) rfl rfl (q_d_geF h176) ?_
                          exact q_Ru_ret rfl rfl
                        show q_Ru _ _ _ (8, [(0, .int v)], [], (q_cX q_AX q_IX q_J0, 40, 26520)) _
                        exact q_Ru_ret rfl rfl
                      show q_Ru _ _ _ (16, [(0, .ref 64), (1, .int u), (2, .int a), (3, .int v)], [], (q_cX q_AX q_IX q_J0, 40, 26520)) _
                      refine q_Ru_seg (g2 := (21, [(0, .ref 64), (1, .int u), (2, .int a), (3, .int v)], [.int v, .int a, .int u, .int 2, .ref 64], (q_cX q_AX q_IX q_J0, 40, 26520))) 5 (fun _ _ => rfl) ?_
                      refine q_Ru_call (v := none) (h2 := (q_cX q_AX q_IX q_J0, 40, 26520)) rfl rfl ?_ ?_
                      · refine q_Ca_of (Nat.le_of_ble_eq_true rfl) ?_
                        refine q_Ru_seg (g2 := (19, [(0, .ref 64), (1, .int 2), (2, .int u), (3, .int a), (4, .int v)], [], (q_cX q_AX q_IX q_J0, 40, 26520))) 3 (fun _ _ => rfl) ?_
                        exact q_Ru_ret rfl rfl
                      show q_Ru _ _ _ (24, [(0, .ref 64), (1, .int u), (2, .int a), (3, .int v)], [], (q_cX q_AX q_IX q_J0, 40, 26520)) _
                      refine q_Ru_seg (g2 := (32, [(0, .ref 64), (1, .int u), (2, .int a), (3, .int v)], [.int v, .int a, .int u, .int 2, .ref 65], (q_cX q_AX q_IX q_J0, 40, 26520))) 6 (fun _ _ => rfl) ?_
                      refine q_Ru_call (v := (some (.int 0))) (h2 := (q_cX (q_uA q_AX 7 (upd (fun _ => 0) ((((512 * u) + a) &&& 2047).toNatClampNeg) v)) q_IX q_J0, 40, 26520)) rfl rfl ?_ ?_
                      · refine q_Ca_of (Nat.le_of_ble_eq_true rfl) ?_
                        refine q_Ru_seg (g2 := (101, [(0, .ref 65), (1, .int 2), (2, .int u), (3, .int a), (4, .int v)], [.int v, .int ((512 * u) + a), .ref 66], (q_cX q_AX q_IX q_J0, 40, 26520))) 10 (fun _ _ => rfl) ?_
                        refine q_Ru_call (v := (some (.int 0))) (h2 := (q_cX (q_uA q_AX 7 (upd (fun _ => 0) ((((512 * u) + a) &&& 2047).toNatClampNeg) v)) q_IX q_J0, 40, 26520)) rfl rfl ?_ ?_
                        · refine q_Ca_of (Nat.le_of_ble_eq_true rfl) ?_
                          refine q_Ru_seg (g2 := (11, [(3, .int (((512 * u) + a) &&& 2047)), (0, .ref 66), (1, .int ((512 * u) + a)), (2, .int v)], [.int (((512 * u) + a) &&& 2047), .ref 71], (q_cX q_AX q_IX q_J0, 40, 26520))) 7 (fun _ _ => rfl) ?_
                          refine q_Ru_rsT (g2 := (12, [(3, .int (((512 * u) + a) &&& 2047)), (0, .ref 66), (1, .int ((512 * u) + a)), (2, .int v)], [.int 0], (q_cX q_AX q_IX q_J0, 40, 26520))) rfl rfl (q_in_bd (x := ((512 * u) + a) &&& 2047) (n := 2048) (U := 2047) (L := 0) (q_and_lo ((512 * u) + a) 2047) (q_and_hi ((512 * u) + a) 2047 2047)) ?_
                          refine q_Ru_seg (g2 := (20, [(4, .int 0), (3, .int (((512 * u) + a) &&& 2047)), (0, .ref 66), (1, .int ((512 * u) + a)), (2, .int v)], [.int v, .int (((512 * u) + a) &&& 2047), .ref 71], (q_cX q_AX q_IX q_J0, 40, 26520))) 5 (fun _ _ => rfl) ?_
                          refine q_Ru_rsT (g2 := (21, [(4, .int 0), (3, .int (((512 * u) + a) &&& 2047)), (0, .ref 66), (1, .int ((512 * u) + a)), (2, .int v)], [], (q_cX (q_uA q_AX 7 (upd (fun _ => 0) ((((512 * u) + a) &&& 2047).toNatClampNeg) v)) q_IX q_J0, 40, 26520))) rfl rfl (q_in_bd (x := ((512 * u) + a) &&& 2047) (n := 2048) (U := 2047) (L := 0) (q_and_lo ((512 * u) + a) 2047) (q_and_hi ((512 * u) + a) 2047 2047)) ?_
                          refine q_Ru_seg (g2 := (23, [(4, .int 0), (3, .int (((512 * u) + a) &&& 2047)), (0, .ref 66), (1, .int ((512 * u) + a)), (2, .int v)], [.int 0], (q_cX (q_uA q_AX 7 (upd (fun _ => 0) ((((512 * u) + a) &&& 2047).toNatClampNeg) v)) q_IX q_J0, 40, 26520))) 1 (fun _ _ => rfl) ?_
                          exact q_Ru_ret rfl rfl
                        show q_Ru _ _ _ (104, [(0, .ref 65), (1, .int 2), (2, .int u), (3, .int a), (4, .int v)], [.int 0], (q_cX (q_uA q_AX 7 (upd (fun _ => 0) ((((512 * u) + a) &&& 2047).toNatClampNeg) v)) q_IX q_J0, 40, 26520)) _
                        exact q_Ru_ret rfl rfl
                      show q_Ru _ _ _ (35, [(0, .ref 64), (1, .int u), (2, .int a), (3, .int v)], [.int 0], (q_cX (q_uA q_AX 7 (upd (fun _ => 0) ((((512 * u) + a) &&& 2047).toNatClampNeg) v)) q_IX q_J0, 40, 26520)) _
                      exact q_Ru_ret rfl rfl
                    show q_Ru _ _ _ (10, [(0, .ref 64), (1, .int u), (2, .int a), (3, .int v), (4, .ref 103)], [.int 0, .int 0, .ref 103], (q_cX (q_uA q_AX 7 (upd (fun _ => 0) ((((512 * u) + a) &&& 2047).toNatClampNeg) v)) q_IX q_J0, 40, 26520)) _
                    refine q_Ru_seg (g2 := (24, [(0, .ref 64), (1, .int u), (2, .int a), (3, .int v), (4, .ref 103)], [.int 0], (q_cX (q_uA q_AX 7 (upd (fun _ => 0) ((((512 * u) + a) &&& 2047).toNatClampNeg) v)) q_IX (q_uA q_J0 39 (vp_updL (fun _ => 0) 0 0)), 40, 26520))) 4 (fun _ _ => rfl) ?_
                    exact q_Ru_ret rfl rfl
                  · refine q_Ca_of (Nat.le_of_ble_eq_true rfl) ?_
                    refine q_Ru_seg (g2 := (4, [(0, .ref 64), (1, .int u), (2, .int a), (3, .int v)], [.int 3, .int 0, .int u, .ref 64], (q_cM q_AM q_IM q_J0, 34, 31630))) 4 (fun _ _ => rfl) ?_
                    refine q_Ru_call (v := (some (.int 1))) (h2 := (q_cM q_AM q_IM q_J0, 34, 31630)) rfl rfl ?_ ?_
                    · refine q_Ca_of (Nat.le_of_ble_eq_true rfl) ?_
                      refine q_Ru_seg (g2 := (2, [(0, .int u), (1, .int 0), (2, .int 3)], [.int 0, .int u], (q_cM q_AM q_IM q_J0, 34, 31630))) 2 (fun _ _ => rfl) ?_
                      refine q_Ru_rsF (g2 := (5, [(0, .int u), (1, .int 0), (2, .int 3)], [], (q_cM q_AM q_IM q_J0, 34, 31630))) rfl rfl h168 ?_
                      refine q_Ru_seg (g2 := (7, [(0, .int u), (1, .int 0), (2, .int 3)], [.int 3, .int u], (q_cM q_AM q_IM q_J0, 34, 31630))) 2 (fun _ _ => rfl) ?_
                      refine q_Ru_rsF (g2 := (10, [(0, .int u), (1, .int 0), (2, .int 3)], [], (q_cM q_AM q_IM q_J0, 34, 31630))) rfl rfl h179 ?_
                      refine q_Ru_seg (g2 := (15, [(0, .int u), (1, .int 0), (2, .int 3)], [.int 1], (q_cM q_AM q_IM q_J0, 34, 31630))) 2 (fun _ _ => rfl) ?_
                      exact q_Ru_ret rfl rfl
                    show q_Ru _ _ _ (7, [(0, .ref 64), (1, .int u), (2, .int a), (3, .int v)], [.int 1, .ref 64], (q_cM q_AM q_IM q_J0, 34, 31630)) _
                    refine q_Ru_seg (g2 := (15, [(0, .ref 64), (1, .int u), (2, .int a), (3, .int v)], [.int 511, .int 0, .int a, .ref 64], (q_cM q_AM q_IM q_J0, 34, 31630))) 4 (fun _ _ => rfl) ?_
                    refine q_Ru_call (v := (some (.int 1))) (h2 := (q_cM q_AM q_IM q_J0, 34, 31630)) rfl rfl ?_ ?_
                    · refine q_Ca_of (Nat.le_of_ble_eq_true rfl) ?_
                      refine q_Ru_seg (g2 := (2, [(0, .int a), (1, .int 0), (2, .int 511)], [.int 0, .int a], (q_cM q_AM q_IM q_J0, 34, 31630))) 2 (fun _ _ => rfl) ?_
                      refine q_Ru_rsF (g2 := (5, [(0, .int a), (1, .int 0), (2, .int 511)], [], (q_cM q_AM q_IM q_J0, 34, 31630))) rfl rfl h170 ?_
                      refine q_Ru_seg (g2 := (7, [(0, .int a), (1, .int 0), (2, .int 511)], [.int 511, .int a], (q_cM q_AM q_IM q_J0, 34, 31630))) 2 (fun _ _ => rfl) ?_
                      refine q_Ru_rsF (g2 := (10, [(0, .int a), (1, .int 0), (2, .int 511)], [], (q_cM q_AM q_IM q_J0, 34, 31630))) rfl rfl h180 ?_
                      refine q_Ru_seg (g2 := (15, [(0, .int a), (1, .int 0), (2, .int 511)], [.int 1], (q_cM q_AM q_IM q_J0, 34, 31630))) 2 (fun _ _ => rfl) ?_
                      exact q_Ru_ret rfl rfl
                    show q_Ru _ _ _ (18, [(0, .ref 64), (1, .int u), (2, .int a), (3, .int v)], [.int 1, .ref 64], (q_cM q_AM q_IM q_J0, 34, 31630)) _
                    refine q_Ru_seg (g2 := (26, [(0, .ref 64), (1, .int u), (2, .int a), (3, .int v)], [.int v, .ref 64], (q_cM q_AM q_IM q_J0, 34, 31630))) 2 (fun _ _ => rfl) ?_
                    refine q_Ru_call (v := (some (.int 0))) (h2 := (q_cM q_AM q_IM q_J0, 34, 31630)) rfl rfl ?_ ?_
                    · refine q_Ca_of (Nat.le_of_ble_eq_true rfl) ?_
                      refine q_Ru_seg (g2 := (5, [(0, .int v)], [.int 255, .int 0, .int v], (q_cM q_AM q_IM q_J0, 34, 31630))) 3 (fun _ _ => rfl) ?_
                      refine q_Ru_call (v := (some (.int 1))) (h2 := (q_cM q_AM q_IM q_J0, 34, 31630)) rfl rfl ?_ ?_
                      · refine q_Ca_of (Nat.le_of_ble_eq_true rfl) ?_
                        refine q_Ru_seg (g2 := (2, [(0, .int v), (1, .int 0), (2, .int 255)], [.int 0, .int v], (q_cM q_AM q_IM q_J0, 34, 31630))) 2 (fun _ _ => rfl) ?_
                        refine q_Ru_rsF (g2 := (5, [(0, .int v), (1, .int 0), (2, .int 255)], [], (q_cM q_AM q_IM q_J0, 34, 31630))) rfl rfl h173 ?_
                        refine q_Ru_seg (g2 := (7, [(0, .int v), (1, .int 0), (2, .int 255)], [.int 255, .int v], (q_cM q_AM q_IM q_J0, 34, 31630))) 2 (fun _ _ => rfl) ?_
                        refine q_Ru_rsF (g2 := (10, [(0, .int v), (1, .int 0), (2, .int 255)], [], (q_cM q_AM q_IM q_J0, 34, 31630))) rfl rfl h176 ?_
                        refine q_Ru_seg (g2 := (15, [(0, .int v), (1, .int 0), (2, .int 255)], [.int 1], (q_cM q_AM q_IM q_J0, 34, 31630))) 2 (fun _ _ => rfl) ?_
                        exact q_Ru_ret rfl rfl
                      show q_Ru _ _ _ (8, [(0, .int v)], [.int 1], (q_cM q_AM q_IM q_J0, 34, 31630)) _
                      refine q_Ru_seg (g2 := (16, [(0, .int v)], [.int 0], (q_cM q_AM q_IM q_J0, 34, 31630))) 2 (fun _ _ => rfl) ?_
                      exact q_Ru_ret rfl rfl
                    show q_Ru _ _ _ (29, [(0, .ref 64), (1, .int u), (2, .int a), (3, .int v)], [.int 0, .ref 64], (q_cM q_AM q_IM q_J0, 34, 31630)) _
                    refine q_Ru_seg (g2 := (37, [(0, .ref 64), (1, .int u), (2, .int a), (3, .int v)], [.int 0, .ref 64], (q_cM q_AM q_IM q_J0, 34, 31630))) 2 (fun _ _ => rfl) ?_
                    refine q_Ru_call (v := (some (.int 0))) (h2 := (q_cM q_AM (q_uI q_IM 0 39 0) q_J0, 34, 31630)) rfl rfl ?_ ?_
                    · refine q_Ca_of (Nat.le_of_ble_eq_true rfl) ?_
                      refine q_Ru_seg (g2 := (14, [(0, .ref 64), (1, .int 0)], [.int 0], (q_cM q_AM (q_uI q_IM 0 39 0) q_J0, 34, 31630))) 6 (fun _ _ => rfl) ?_
                      exact q_Ru_ret rfl rfl
                    show q_Ru _ _ _ (40, [(0, .ref 64), (1, .int u), (2, .int a), (3, .int v)], [.int 0], (q_cM q_AM (q_uI q_IM 0 39 0) q_J0, 34, 31630)) _
                    refine q_Ru_seg (g2 := (56, [(0, .ref 64), (1, .int u), (2, .int a), (3, .int v)], [.int ((512 * u) + a), .ref 67], (q_cM q_AM (q_uI q_IM 0 39 0) q_J0, 34, 31630))) 8 (fun _ _ => rfl) ?_
                    refine q_Ru_rsT (g2 := (57, [(0, .ref 64), (1, .int u), (2, .int a), (3, .int v)], [.int 0], (q_cM q_AM (q_uI q_IM 0 39 0) q_J0, 34, 31630))) rfl rfl (q_in_lin (k := 512) (v := u) (a := a) (n := 2048) (V := 3) (M := 511) (q_lo1 h168) (q_hi1 h169) (q_lo1 h170) (q_hi1 h172)) ?_
                    refine q_Ru_seg (g2 := (71, [(4, .int 0), (0, .ref 64), (1, .int u), (2, .int a), (3, .int v)], [.int v, .int ((512 * u) + a), .ref 67], (q_cM q_AM (q_uI q_IM 0 39 0) q_J0, 34, 31630))) 9 (fun _ _ => rfl) ?_
                    refine q_Ru_rsT (g2 := (72, [(4, .int 0), (0, .ref 64), (1, .int u), (2, .int a), (3, .int v)], [], (q_cM (q_uA q_AM 3 (upd (fun _ => 0) (((512 * u) + a).toNatClampNeg) v)) (q_uI q_IM 0 39 0) q_J0, 34, 31630))) rfl rfl (q_in_lin (k := 512) (v := u) (a := a) (n := 2048) (V := 3) (M := 511) (q_lo1 h168) (q_hi1 h169) (q_lo1 h170) (q_hi1 h172)) ?_
                    refine q_Ru_seg (g2 := (73, [(4, .int 0), (0, .ref 64), (1, .int u), (2, .int a), (3, .int v)], [.ref 64], (q_cM (q_uA q_AM 3 (upd (fun _ => 0) (((512 * u) + a).toNatClampNeg) v)) (q_uI q_IM 0 39 0) q_J0, 34, 31630))) 1 (fun _ _ => rfl) ?_
                    refine q_Ru_call (v := none) (h2 := (q_cM (q_uA q_AM 3 (upd (fun _ => 0) (((512 * u) + a).toNatClampNeg) v)) (q_uI q_IM 0 39 0) q_J0, 34, 31630)) rfl rfl ?_ ?_
                    · refine q_Ca_of (Nat.le_of_ble_eq_true rfl) ?_
                      refine q_Ru_seg (g2 := (17, [(0, .ref 64)], [], (q_cM (q_uA q_AM 3 (upd (fun _ => 0) (((512 * u) + a).toNatClampNeg) v)) (q_uI q_IM 0 39 0) q_J0, 34, 31630))) 3 (fun _ _ => rfl) ?_
                      exact q_Ru_ret rfl rfl
                    show q_Ru _ _ _ (76, [(4, .int 0), (0, .ref 64), (1, .int u), (2, .int a), (3, .int v)], [], (q_cM (q_uA q_AM 3 (upd (fun _ => 0) (((512 * u) + a).toNatClampNeg) v)) (q_uI q_IM 0 39 0) q_J0, 34, 31630)) _
                    refine q_Ru_seg (g2 := (78, [(4, .int 0), (0, .ref 64), (1, .int u), (2, .int a), (3, .int v)], [.int 0], (q_cM (q_uA q_AM 3 (upd (fun _ => 0) (((512 * u) + a).toNatClampNeg) v)) (q_uI q_IM 0 39 0) q_J0, 34, 31630))) 1 (fun _ _ => rfl) ?_
                    exact q_Ru_ret rfl rfl
        | false =>
          cases h181 : decide (3 < u) with
          | true =>
            exact q_no (q_lo2 h181) (q_hi1 h169) (by decide)
          | false =>
            cases h182 : decide (511 < a) with
            | true =>
              refine ⟨1, 0, 0, ⟨(q_cX q_AX q_IX q_J0, 40 + 1, 26520 + 6), q_J0 39, ?_, rfl, fun h => absurd h (by decide), Nat.le_of_ble_eq_true rfl, Nat.le_of_ble_eq_true rfl⟩, ⟨(q_cM q_AM (q_uI q_IM 0 39 1) q_J0, 34, 31630), _, ?_, rfl, rfl, Nat.le_of_ble_eq_true rfl, Nat.le_of_ble_eq_true rfl⟩, fun h => absurd h (by decide)⟩
              · refine q_Ca_of (Nat.le_of_ble_eq_true rfl) ?_
                refine q_Ru_seg (g2 := (7, [(0, .ref 64), (1, .int u), (2, .int a), (3, .int v), (4, .ref 103)], [.int v, .int a, .int u, .ref 64, .int 0, .ref 103], (q_cX q_AX q_IX q_J0, 40, 26520))) 6 (fun _ _ => rfl) ?_
                refine q_Ru_callH (E := "java/lang/IndexOutOfBoundsException") (tg := 17) (i := 5) (h2 := (q_cX q_AX q_IX q_J0, 40 + 1, 26520 + 6)) rfl rfl ?_ rfl ?_
                · refine q_Ca_of (Nat.le_of_ble_eq_true rfl) ?_
                  refine q_Ru_seg (g2 := (2, [(0, .ref 64), (1, .int u), (2, .int a), (3, .int v)], [.int 4, .int u], (q_cX q_AX q_IX q_J0, 40, 26520))) 2 (fun _ _ => rfl) ?_
                  refine q_Ru_call (v := none) (h2 := (q_cX q_AX q_IX q_J0, 40, 26520)) rfl rfl ?_ ?_
                  · refine q_Ca_of (Nat.le_of_ble_eq_true rfl) ?_
                    refine q_Ru_seg (g2 := (1, [(0, .int u), (1, .int 4)], [.int u], (q_cX q_AX q_IX q_J0, 40, 26520))) 1 (fun _ _ => rfl) ?_
                    refine q_Ru_rsF (g2 := (4, [(0, .int u), (1, .int 4)], [], (q_cX q_AX q_IX q_J0, 40, 26520))) rfl rfl h168 ?_
                    refine q_Ru_seg (g2 := (6, [(0, .int u), (1, .int 4)], [.int 4, .int u], (q_cX q_AX q_IX q_J0, 40, 26520))) 2 (fun _ _ => rfl) ?_
                    refine q_Ru_rsT (g2 := (19, [(0, .int u), (1, .int 4)], [], (q_cX q_AX q_IX q_J0, 40, 26520))) rfl rfl h169 ?_
                    exact q_Ru_ret rfl rfl
                  show q_Ru _ _ _ (5, [(0, .ref 64), (1, .int u), (2, .int a), (3, .int v)], [], (q_cX q_AX q_IX q_J0, 40, 26520)) _
                  refine q_Ru_seg (g2 := (9, [(0, .ref 64), (1, .int u), (2, .int a), (3, .int v)], [.int 512, .int a], (q_cX q_AX q_IX q_J0, 40, 26520))) 2 (fun _ _ => rfl) ?_
                  refine q_Ru_callX (E := "java/lang/IndexOutOfBoundsException") (h2 := (q_cX q_AX q_IX q_J0, 40 + 1, 26520 + 6)) rfl rfl ?_
                  refine q_Ca_of (Nat.le_of_ble_eq_true rfl) ?_
                  refine q_Ru_seg (g2 := (1, [(0, .int a), (1, .int 512)], [.int a], (q_cX q_AX q_IX q_J0, 40, 26520))) 1 (fun _ _ => rfl) ?_
                  refine q_Ru_rsF (g2 := (4, [(0, .int a), (1, .int 512)], [], (q_cX q_AX q_IX q_J0, 40, 26520))) rfl rfl h170 ?_
                  refine q_Ru_seg (g2 := (6, [(0, .int a), (1, .int 512)], [.int 512, .int a], (q_cX q_AX q_IX q_J0, 40, 26520))) 2 (fun _ _ => rfl) ?_
                  refine q_Ru_rsF (g2 := (9, [(0, .int a), (1, .int 512)], [], (q_cX q_AX q_IX q_J0, 40, 26520))) rfl rfl h172 ?_
                  exact q_Ru_thr rfl rfl
                show q_Ru _ _ _ (17, [(0, .ref 64), (1, .int u), (2, .int a), (3, .int v), (4, .ref 103)], [], (q_cX q_AX q_IX q_J0, 40 + 1, 26520 + 6)) _
                refine q_Ru_seg (g2 := (18, [(0, .ref 64), (1, .int u), (2, .int a), (3, .int v), (4, .ref 103)], [.int 1], (q_cX q_AX q_IX q_J0, 40 + 1, 26520 + 6))) 1 (fun _ _ => rfl) ?_
                exact q_Ru_ret rfl rfl
              · refine q_Ca_of (Nat.le_of_ble_eq_true rfl) ?_
                refine q_Ru_seg (g2 := (4, [(0, .ref 64), (1, .int u), (2, .int a), (3, .int v)], [.int 3, .int 0, .int u, .ref 64], (q_cM q_AM q_IM q_J0, 34, 31630))) 4 (fun _ _ => rfl) ?_
                refine q_Ru_call (v := (some (.int 1))) (h2 := (q_cM q_AM q_IM q_J0, 34, 31630)) rfl rfl ?_ ?_
                · refine q_Ca_of (Nat.le_of_ble_eq_true rfl) ?_
                  refine q_Ru_seg (g2 := (2, [(0, .int u), (1, .int 0), (2, .int 3)], [.int 0, .int u], (q_cM q_AM q_IM q_J0, 34, 31630))) 2 (fun _ _ => rfl) ?_
                  refine q_Ru_rsF (g2 := (5, [(0, .int u), (1, .int 0), (2, .int 3)], [], (q_cM q_AM q_IM q_J0, 34, 31630))) rfl rfl h168 ?_
                  refine q_Ru_seg (g2 := (7, [(0, .int u), (1, .int 0), (2, .int 3)], [.int 3, .int u], (q_cM q_AM q_IM q_J0, 34, 31630))) 2 (fun _ _ => rfl) ?_
                  refine q_Ru_rsF (g2 := (10, [(0, .int u), (1, .int 0), (2, .int 3)], [], (q_cM q_AM q_IM q_J0, 34, 31630))) rfl rfl h181 ?_
                  refine q_Ru_seg (g2 := (15, [(0, .int u), (1, .int 0), (2, .int 3)], [.int 1], (q_cM q_AM q_IM q_J0, 34, 31630))) 2 (fun _ _ => rfl) ?_
                  exact q_Ru_ret rfl rfl
                show q_Ru _ _ _ (7, [(0, .ref 64), (1, .int u), (2, .int a), (3, .int v)], [.int 1, .ref 64], (q_cM q_AM q_IM q_J0, 34, 31630)) _
                refine q_Ru_seg (g2 := (15, [(0, .ref 64), (1, .int u), (2, .int a), (3, .int v)], [.int 511, .int 0, .int a, .ref 64], (q_cM q_AM q_IM q_J0, 34, 31630))) 4 (fun _ _ => rfl) ?_
                refine q_Ru_call (v := (some (.int 0))) (h2 := (q_cM q_AM q_IM q_J0, 34, 31630)) rfl rfl ?_ ?_
                · refine q_Ca_of (Nat.le_of_ble_eq_true rfl) ?_
                  refine q_Ru_seg (g2 := (2, [(0, .int a), (1, .int 0), (2, .int 511)], [.int 0, .int a], (q_cM q_AM q_IM q_J0, 34, 31630))) 2 (fun _ _ => rfl) ?_
                  refine q_Ru_rsF (g2 := (5, [(0, .int a), (1, .int 0), (2, .int 511)], [], (q_cM q_AM q_IM q_J0, 34, 31630))) rfl rfl h170 ?_
                  refine q_Ru_seg (g2 := (7, [(0, .int a), (1, .int 0), (2, .int 511)], [.int 511, .int a], (q_cM q_AM q_IM q_J0, 34, 31630))) 2 (fun _ _ => rfl) ?_
                  refine q_Ru_rsT (g2 := (14, [(0, .int a), (1, .int 0), (2, .int 511)], [], (q_cM q_AM q_IM q_J0, 34, 31630))) rfl rfl h182 ?_
                  refine q_Ru_seg (g2 := (15, [(0, .int a), (1, .int 0), (2, .int 511)], [.int 0], (q_cM q_AM q_IM q_J0, 34, 31630))) 1 (fun _ _ => rfl) ?_
                  exact q_Ru_ret rfl rfl
                show q_Ru _ _ _ (18, [(0, .ref 64), (1, .int u), (2, .int a), (3, .int v)], [.int 0, .ref 64], (q_cM q_AM q_IM q_J0, 34, 31630)) _
                refine q_Ru_seg (g2 := (37, [(0, .ref 64), (1, .int u), (2, .int a), (3, .int v)], [.int 1, .ref 64], (q_cM q_AM q_IM q_J0, 34, 31630))) 3 (fun _ _ => rfl) ?_
                refine q_Ru_call (v := (some (.int 1))) (h2 := (q_cM q_AM (q_uI q_IM 0 39 1) q_J0, 34, 31630)) rfl rfl ?_ ?_
                · refine q_Ca_of (Nat.le_of_ble_eq_true rfl) ?_
                  refine q_Ru_seg (g2 := (14, [(0, .ref 64), (1, .int 1)], [.int 1], (q_cM q_AM (q_uI q_IM 0 39 1) q_J0, 34, 31630))) 7 (fun _ _ => rfl) ?_
                  exact q_Ru_ret rfl rfl
                show q_Ru _ _ _ (40, [(0, .ref 64), (1, .int u), (2, .int a), (3, .int v)], [.int 1], (q_cM q_AM (q_uI q_IM 0 39 1) q_J0, 34, 31630)) _
                refine q_Ru_seg (g2 := (44, [(0, .ref 64), (1, .int u), (2, .int a), (3, .int v)], [.int 0], (q_cM q_AM (q_uI q_IM 0 39 1) q_J0, 34, 31630))) 2 (fun _ _ => rfl) ?_
                exact q_Ru_ret rfl rfl
            | false =>
              exact q_no (q_lo1 h172) (q_hi2 h182) (by decide)
    | false =>
      cases h183 : decide (3 < u) with
      | true =>
        refine ⟨1, 0, 0, ⟨(q_cX q_AX q_IX q_J0, 40 + 1, 26520 + 6), q_J0 39, ?_, rfl, fun h => absurd h (by decide), Nat.le_of_ble_eq_true rfl, Nat.le_of_ble_eq_true rfl⟩, ⟨(q_cM q_AM (q_uI q_IM 0 39 1) q_J0, 34, 31630), _, ?_, rfl, rfl, Nat.le_of_ble_eq_true rfl, Nat.le_of_ble_eq_true rfl⟩, fun h => absurd h (by decide)⟩
        · refine q_Ca_of (Nat.le_of_ble_eq_true rfl) ?_
          refine q_Ru_seg (g2 := (7, [(0, .ref 64), (1, .int u), (2, .int a), (3, .int v), (4, .ref 103)], [.int v, .int a, .int u, .ref 64, .int 0, .ref 103], (q_cX q_AX q_IX q_J0, 40, 26520))) 6 (fun _ _ => rfl) ?_
          refine q_Ru_callH (E := "java/lang/IndexOutOfBoundsException") (tg := 17) (i := 5) (h2 := (q_cX q_AX q_IX q_J0, 40 + 1, 26520 + 6)) rfl rfl ?_ rfl ?_
          · refine q_Ca_of (Nat.le_of_ble_eq_true rfl) ?_
            refine q_Ru_seg (g2 := (2, [(0, .ref 64), (1, .int u), (2, .int a), (3, .int v)], [.int 4, .int u], (q_cX q_AX q_IX q_J0, 40, 26520))) 2 (fun _ _ => rfl) ?_
            refine q_Ru_callX (E := "java/lang/IndexOutOfBoundsException") (h2 := (q_cX q_AX q_IX q_J0, 40 + 1, 26520 + 6)) rfl rfl ?_
            refine q_Ca_of (Nat.le_of_ble_eq_true rfl) ?_
            refine q_Ru_seg (g2 := (1, [(0, .int u), (1, .int 4)], [.int u], (q_cX q_AX q_IX q_J0, 40, 26520))) 1 (fun _ _ => rfl) ?_
            refine q_Ru_rsF (g2 := (4, [(0, .int u), (1, .int 4)], [], (q_cX q_AX q_IX q_J0, 40, 26520))) rfl rfl h168 ?_
            refine q_Ru_seg (g2 := (6, [(0, .int u), (1, .int 4)], [.int 4, .int u], (q_cX q_AX q_IX q_J0, 40, 26520))) 2 (fun _ _ => rfl) ?_
            refine q_Ru_rsF (g2 := (9, [(0, .int u), (1, .int 4)], [], (q_cX q_AX q_IX q_J0, 40, 26520))) rfl rfl h169 ?_
            exact q_Ru_thr rfl rfl
          show q_Ru _ _ _ (17, [(0, .ref 64), (1, .int u), (2, .int a), (3, .int v), (4, .ref 103)], [], (q_cX q_AX q_IX q_J0, 40 + 1, 26520 + 6)) _
          refine q_Ru_seg (g2 := (18, [(0, .ref 64), (1, .int u), (2, .int a), (3, .int v), (4, .ref 103)], [.int 1], (q_cX q_AX q_IX q_J0, 40 + 1, 26520 + 6))) 1 (fun _ _ => rfl) ?_
          exact q_Ru_ret rfl rfl
        · refine q_Ca_of (Nat.le_of_ble_eq_true rfl) ?_
          refine q_Ru_seg (g2 := (4, [(0, .ref 64), (1, .int u), (2, .int a), (3, .int v)], [.int 3, .int 0, .int u, .ref 64], (q_cM q_AM q_IM q_J0, 34, 31630))) 4 (fun _ _ => rfl) ?_
          refine q_Ru_call (v := (some (.int 0))) (h2 := (q_cM q_AM q_IM q_J0, 34, 31630)) rfl rfl ?_ ?_
          · refine q_Ca_of (Nat.le_of_ble_eq_true rfl) ?_
            refine q_Ru_seg (g2 := (2, [(0, .int u), (1, .int 0), (2, .int 3)], [.int 0, .int u], (q_cM q_AM q_IM q_J0, 34, 31630))) 2 (fun _ _ => rfl) ?_
            refine q_Ru_rsF (g2 := (5, [(0, .int u), (1, .int 0), (2, .int 3)], [], (q_cM q_AM q_IM q_J0, 34, 31630))) rfl rfl h168 ?_
            refine q_Ru_seg (g2 := (7, [(0, .int u), (1, .int 0), (2, .int 3)], [.int 3, .int u], (q_cM q_AM q_IM q_J0, 34, 31630))) 2 (fun _ _ => rfl) ?_
            refine q_Ru_rsT (g2 := (14, [(0, .int u), (1, .int 0), (2, .int 3)], [], (q_cM q_AM q_IM q_J0, 34, 31630))) rfl rfl h183 ?_
            refine q_Ru_seg (g2 := (15, [(0, .int u), (1, .int 0), (2, .int 3)], [.int 0], (q_cM q_AM q_IM q_J0, 34, 31630))) 1 (fun _ _ => rfl) ?_
            exact q_Ru_ret rfl rfl
          show q_Ru _ _ _ (7, [(0, .ref 64), (1, .int u), (2, .int a), (3, .int v)], [.int 0, .ref 64], (q_cM q_AM q_IM q_J0, 34, 31630)) _
          refine q_Ru_seg (g2 := (37, [(0, .ref 64), (1, .int u), (2, .int a), (3, .int v)], [.int 1, .ref 64], (q_cM q_AM q_IM q_J0, 34, 31630))) 3 (fun _ _ => rfl) ?_
          refine q_Ru_call (v := (some (.int 1))) (h2 := (q_cM q_AM (q_uI q_IM 0 39 1) q_J0, 34, 31630)) rfl rfl ?_ ?_
          · refine q_Ca_of (Nat.le_of_ble_eq_true rfl) ?_
            refine q_Ru_seg (g2 := (14, [(0, .ref 64), (1, .int 1)], [.int 1], (q_cM q_AM (q_uI q_IM 0 39 1) q_J0, 34, 31630))) 7 (fun _ _ => rfl) ?_
            exact q_Ru_ret rfl rfl
          show q_Ru _ _ _ (40, [(0, .ref 64), (1, .int u), (2, .int a), (3, .int v)], [.int 1], (q_cM q_AM (q_uI q_IM 0 39 1) q_J0, 34, 31630)) _
          refine q_Ru_seg (g2 := (44, [(0, .ref 64), (1, .int u), (2, .int a), (3, .int v)], [.int 0], (q_cM q_AM (q_uI q_IM 0 39 1) q_J0, 34, 31630))) 2 (fun _ _ => rfl) ?_
          exact q_Ru_ret rfl rfl
      | false =>
        exact q_no (q_lo1 h169) (q_hi2 h183) (by decide)
set_option maxHeartbeats 20000000 in
theorem q_op_restore (a : Int32) : ∃ (r b : Int32) (w : Int64), q_opX 23 [.int a] r w ∧ q_opM 308 [.int a] r (.int b) ∧ (r = 0 → w = b.toInt64) := by
  cases h184 : decide (a < 0) with
  | true =>
    refine ⟨1, 0, 0, ⟨(q_cX q_AX q_IX q_J0, 40 + 1, 26520 + 6), q_J0 39, ?_, rfl, fun h => absurd h (by decide), Nat.le_of_ble_eq_true rfl, Nat.le_of_ble_eq_true rfl⟩, ⟨(q_cM q_AM (q_uI q_IM 0 39 1) q_J0, 34, 31630), _, ?_, rfl, rfl, Nat.le_of_ble_eq_true rfl, Nat.le_of_ble_eq_true rfl⟩, fun h => absurd h (by decide)⟩
    · refine q_Ca_of (Nat.le_of_ble_eq_true rfl) ?_
      refine q_Ru_seg (g2 := (4, [(0, .ref 64), (1, .int a), (2, .ref 103)], [.int a, .ref 64, .int 0, .ref 103], (q_cX q_AX q_IX q_J0, 40, 26520))) 4 (fun _ _ => rfl) ?_
      refine q_Ru_callH (E := "java/util/NoSuchElementException") (tg := 13) (i := 3) (h2 := (q_cX q_AX q_IX q_J0, 40 + 1, 26520 + 6)) rfl rfl ?_ rfl ?_
      · refine q_Ca_of (Nat.le_of_ble_eq_true rfl) ?_
        refine q_Ru_seg (g2 := (2, [(0, .ref 64), (1, .int a)], [.int a, .ref 64], (q_cX q_AX q_IX q_J0, 40, 26520))) 2 (fun _ _ => rfl) ?_
        refine q_Ru_call (v := (some (.null))) (h2 := (q_cX q_AX q_IX q_J0, 40, 26520)) rfl rfl ?_ ?_
        · refine q_Ca_of (Nat.le_of_ble_eq_true rfl) ?_
          refine q_Ru_seg (g2 := (1, [(0, .ref 64), (1, .int a)], [.int a], (q_cX q_AX q_IX q_J0, 40, 26520))) 1 (fun _ _ => rfl) ?_
          refine q_Ru_rsT (g2 := (18, [(0, .ref 64), (1, .int a)], [], (q_cX q_AX q_IX q_J0, 40, 26520))) rfl rfl h184 ?_
          refine q_Ru_seg (g2 := (19, [(0, .ref 64), (1, .int a)], [.null], (q_cX q_AX q_IX q_J0, 40, 26520))) 1 (fun _ _ => rfl) ?_
          exact q_Ru_ret rfl rfl
        show q_Ru _ _ _ (5, [(0, .ref 64), (1, .int a)], [.null], (q_cX q_AX q_IX q_J0, 40, 26520)) _
        refine q_Ru_seg (g2 := (10, [(2, .null), (0, .ref 64), (1, .int a)], [], (q_cX q_AX q_IX q_J0, 40, 26520))) 3 (fun _ _ => rfl) ?_
        exact q_Ru_thr rfl rfl
      show q_Ru _ _ _ (13, [(0, .ref 64), (1, .int a), (2, .ref 103)], [], (q_cX q_AX q_IX q_J0, 40 + 1, 26520 + 6)) _
      refine q_Ru_seg (g2 := (14, [(0, .ref 64), (1, .int a), (2, .ref 103)], [.int 1], (q_cX q_AX q_IX q_J0, 40 + 1, 26520 + 6))) 1 (fun _ _ => rfl) ?_
      exact q_Ru_ret rfl rfl
    · refine q_Ca_of (Nat.le_of_ble_eq_true rfl) ?_
      refine q_Ru_seg (g2 := (9, [(0, .ref 64), (1, .int a)], [.int (-1), .int 0, .int a, .ref 64], (q_cM q_AM q_IM q_J0, 34, 31630))) 7 (fun _ _ => rfl) ?_
      refine q_Ru_call (v := (some (.int 0))) (h2 := (q_cM q_AM q_IM q_J0, 34, 31630)) rfl rfl ?_ ?_
      · refine q_Ca_of (Nat.le_of_ble_eq_true rfl) ?_
        refine q_Ru_seg (g2 := (2, [(0, .int a), (1, .int 0), (2, .int (-1))], [.int 0, .int a], (q_cM q_AM q_IM q_J0, 34, 31630))) 2 (fun _ _ => rfl) ?_
        refine q_Ru_rsT (g2 := (14, [(0, .int a), (1, .int 0), (2, .int (-1))], [], (q_cM q_AM q_IM q_J0, 34, 31630))) rfl rfl h184 ?_
        refine q_Ru_seg (g2 := (15, [(0, .int a), (1, .int 0), (2, .int (-1))], [.int 0], (q_cM q_AM q_IM q_J0, 34, 31630))) 1 (fun _ _ => rfl) ?_
        exact q_Ru_ret rfl rfl
      show q_Ru _ _ _ (12, [(0, .ref 64), (1, .int a)], [.int 0, .ref 64], (q_cM q_AM q_IM q_J0, 34, 31630)) _
      refine q_Ru_seg (g2 := (20, [(0, .ref 64), (1, .int a)], [.int 1, .ref 64], (q_cM q_AM q_IM q_J0, 34, 31630))) 2 (fun _ _ => rfl) ?_
      refine q_Ru_call (v := (some (.int 1))) (h2 := (q_cM q_AM (q_uI q_IM 0 39 1) q_J0, 34, 31630)) rfl rfl ?_ ?_
      · refine q_Ca_of (Nat.le_of_ble_eq_true rfl) ?_
        refine q_Ru_seg (g2 := (14, [(0, .ref 64), (1, .int 1)], [.int 1], (q_cM q_AM (q_uI q_IM 0 39 1) q_J0, 34, 31630))) 7 (fun _ _ => rfl) ?_
        exact q_Ru_ret rfl rfl
      show q_Ru _ _ _ (23, [(0, .ref 64), (1, .int a)], [.int 1], (q_cM q_AM (q_uI q_IM 0 39 1) q_J0, 34, 31630)) _
      refine q_Ru_seg (g2 := (27, [(0, .ref 64), (1, .int a)], [.int 0], (q_cM q_AM (q_uI q_IM 0 39 1) q_J0, 34, 31630))) 2 (fun _ _ => rfl) ?_
      exact q_Ru_ret rfl rfl
  | false =>
    cases h185 : decide (a < 3) with
    | true =>
      obtain ⟨j186, g186, e186⟩ := q_en (l := 0) (n := 2) (q_lo1 h184) (q_hi1 h185)
      match j186, g186, e186 with
      | 0, _, e186 =>
        have e186 : a = 0 := e186
        subst e186
        refine ⟨1, 0, 0, ⟨(q_cX q_AX q_IX q_J0, 40 + 1, 26520 + 6), q_J0 39, ?_, rfl, fun h => absurd h (by decide), Nat.le_of_ble_eq_true rfl, Nat.le_of_ble_eq_true rfl⟩, ⟨(q_cM q_AM (q_uI q_IM 0 39 1) q_J0, 34, 31630), _, ?_, rfl, rfl, Nat.le_of_ble_eq_true rfl, Nat.le_of_ble_eq_true rfl⟩, fun h => absurd h (by decide)⟩
        · refine q_Ca_of (Nat.le_of_ble_eq_true rfl) ?_
          refine q_Ru_seg (g2 := (4, [(0, .ref 64), (1, .int 0), (2, .ref 103)], [.int 0, .ref 64, .int 0, .ref 103], (q_cX q_AX q_IX q_J0, 40, 26520))) 4 (fun _ _ => rfl) ?_
          refine q_Ru_callH (E := "java/util/NoSuchElementException") (tg := 13) (i := 3) (h2 := (q_cX q_AX q_IX q_J0, 40 + 1, 26520 + 6)) rfl rfl ?_ rfl ?_
          · refine q_Ca_of (Nat.le_of_ble_eq_true rfl) ?_
            refine q_Ru_seg (g2 := (2, [(0, .ref 64), (1, .int 0)], [.int 0, .ref 64], (q_cX q_AX q_IX q_J0, 40, 26520))) 2 (fun _ _ => rfl) ?_
            refine q_Ru_call (v := (some (.null))) (h2 := (q_cX q_AX q_IX q_J0, 40, 26520)) rfl rfl ?_ ?_
            · refine q_Ca_of (Nat.le_of_ble_eq_true rfl) ?_
              refine q_Ru_seg (g2 := (19, [(0, .ref 64), (1, .int 0)], [.null], (q_cX q_AX q_IX q_J0, 40, 26520))) 10 (fun _ _ => rfl) ?_
              exact q_Ru_ret rfl rfl
            show q_Ru _ _ _ (5, [(0, .ref 64), (1, .int 0)], [.null], (q_cX q_AX q_IX q_J0, 40, 26520)) _
            refine q_Ru_seg (g2 := (10, [(2, .null), (0, .ref 64), (1, .int 0)], [], (q_cX q_AX q_IX q_J0, 40, 26520))) 3 (fun _ _ => rfl) ?_
            exact q_Ru_thr rfl rfl
          show q_Ru _ _ _ (13, [(0, .ref 64), (1, .int 0), (2, .ref 103)], [], (q_cX q_AX q_IX q_J0, 40 + 1, 26520 + 6)) _
          refine q_Ru_seg (g2 := (14, [(0, .ref 64), (1, .int 0), (2, .ref 103)], [.int 1], (q_cX q_AX q_IX q_J0, 40 + 1, 26520 + 6))) 1 (fun _ _ => rfl) ?_
          exact q_Ru_ret rfl rfl
        · refine q_Ca_of (Nat.le_of_ble_eq_true rfl) ?_
          refine q_Ru_seg (g2 := (9, [(0, .ref 64), (1, .int 0)], [.int (-1), .int 0, .int 0, .ref 64], (q_cM q_AM q_IM q_J0, 34, 31630))) 7 (fun _ _ => rfl) ?_
          refine q_Ru_call (v := (some (.int 0))) (h2 := (q_cM q_AM q_IM q_J0, 34, 31630)) rfl rfl ?_ ?_
          · refine q_Ca_of (Nat.le_of_ble_eq_true rfl) ?_
            refine q_Ru_seg (g2 := (15, [(0, .int 0), (1, .int 0), (2, .int (-1))], [.int 0], (q_cM q_AM q_IM q_J0, 34, 31630))) 7 (fun _ _ => rfl) ?_
            exact q_Ru_ret rfl rfl
          show q_Ru _ _ _ (12, [(0, .ref 64), (1, .int 0)], [.int 0, .ref 64], (q_cM q_AM q_IM q_J0, 34, 31630)) _
          refine q_Ru_seg (g2 := (20, [(0, .ref 64), (1, .int 0)], [.int 1, .ref 64], (q_cM q_AM q_IM q_J0, 34, 31630))) 2 (fun _ _ => rfl) ?_
          refine q_Ru_call (v := (some (.int 1))) (h2 := (q_cM q_AM (q_uI q_IM 0 39 1) q_J0, 34, 31630)) rfl rfl ?_ ?_
          · refine q_Ca_of (Nat.le_of_ble_eq_true rfl) ?_
            refine q_Ru_seg (g2 := (14, [(0, .ref 64), (1, .int 1)], [.int 1], (q_cM q_AM (q_uI q_IM 0 39 1) q_J0, 34, 31630))) 7 (fun _ _ => rfl) ?_
            exact q_Ru_ret rfl rfl
          show q_Ru _ _ _ (23, [(0, .ref 64), (1, .int 0)], [.int 1], (q_cM q_AM (q_uI q_IM 0 39 1) q_J0, 34, 31630)) _
          refine q_Ru_seg (g2 := (27, [(0, .ref 64), (1, .int 0)], [.int 0], (q_cM q_AM (q_uI q_IM 0 39 1) q_J0, 34, 31630))) 2 (fun _ _ => rfl) ?_
          exact q_Ru_ret rfl rfl
      | 1, _, e186 =>
        have e186 : a = 1 := e186
        subst e186
        refine ⟨1, 0, 0, ⟨(q_cX q_AX q_IX q_J0, 40 + 1, 26520 + 6), q_J0 39, ?_, rfl, fun h => absurd h (by decide), Nat.le_of_ble_eq_true rfl, Nat.le_of_ble_eq_true rfl⟩, ⟨(q_cM q_AM (q_uI q_IM 0 39 1) q_J0, 34, 31630), _, ?_, rfl, rfl, Nat.le_of_ble_eq_true rfl, Nat.le_of_ble_eq_true rfl⟩, fun h => absurd h (by decide)⟩
        · refine q_Ca_of (Nat.le_of_ble_eq_true rfl) ?_
          refine q_Ru_seg (g2 := (4, [(0, .ref 64), (1, .int 1), (2, .ref 103)], [.int 1, .ref 64, .int 0, .ref 103], (q_cX q_AX q_IX q_J0, 40, 26520))) 4 (fun _ _ => rfl) ?_
          refine q_Ru_callH (E := "java/util/NoSuchElementException") (tg := 13) (i := 3) (h2 := (q_cX q_AX q_IX q_J0, 40 + 1, 26520 + 6)) rfl rfl ?_ rfl ?_
          · refine q_Ca_of (Nat.le_of_ble_eq_true rfl) ?_
            refine q_Ru_seg (g2 := (2, [(0, .ref 64), (1, .int 1)], [.int 1, .ref 64], (q_cX q_AX q_IX q_J0, 40, 26520))) 2 (fun _ _ => rfl) ?_
            refine q_Ru_call (v := (some (.null))) (h2 := (q_cX q_AX q_IX q_J0, 40, 26520)) rfl rfl ?_ ?_
            · refine q_Ca_of (Nat.le_of_ble_eq_true rfl) ?_
              refine q_Ru_seg (g2 := (19, [(0, .ref 64), (1, .int 1)], [.null], (q_cX q_AX q_IX q_J0, 40, 26520))) 10 (fun _ _ => rfl) ?_
              exact q_Ru_ret rfl rfl
            show q_Ru _ _ _ (5, [(0, .ref 64), (1, .int 1)], [.null], (q_cX q_AX q_IX q_J0, 40, 26520)) _
            refine q_Ru_seg (g2 := (10, [(2, .null), (0, .ref 64), (1, .int 1)], [], (q_cX q_AX q_IX q_J0, 40, 26520))) 3 (fun _ _ => rfl) ?_
            exact q_Ru_thr rfl rfl
          show q_Ru _ _ _ (13, [(0, .ref 64), (1, .int 1), (2, .ref 103)], [], (q_cX q_AX q_IX q_J0, 40 + 1, 26520 + 6)) _
          refine q_Ru_seg (g2 := (14, [(0, .ref 64), (1, .int 1), (2, .ref 103)], [.int 1], (q_cX q_AX q_IX q_J0, 40 + 1, 26520 + 6))) 1 (fun _ _ => rfl) ?_
          exact q_Ru_ret rfl rfl
        · refine q_Ca_of (Nat.le_of_ble_eq_true rfl) ?_
          refine q_Ru_seg (g2 := (9, [(0, .ref 64), (1, .int 1)], [.int (-1), .int 0, .int 1, .ref 64], (q_cM q_AM q_IM q_J0, 34, 31630))) 7 (fun _ _ => rfl) ?_
          refine q_Ru_call (v := (some (.int 0))) (h2 := (q_cM q_AM q_IM q_J0, 34, 31630)) rfl rfl ?_ ?_
          · refine q_Ca_of (Nat.le_of_ble_eq_true rfl) ?_
            refine q_Ru_seg (g2 := (15, [(0, .int 1), (1, .int 0), (2, .int (-1))], [.int 0], (q_cM q_AM q_IM q_J0, 34, 31630))) 7 (fun _ _ => rfl) ?_
            exact q_Ru_ret rfl rfl
          show q_Ru _ _ _ (12, [(0, .ref 64), (1, .int 1)], [.int 0, .ref 64], (q_cM q_AM q_IM q_J0, 34, 31630)) _
          refine q_Ru_seg (g2 := (20, [(0, .ref 64), (1, .int 1)], [.int 1, .ref 64], (q_cM q_AM q_IM q_J0, 34, 31630))) 2 (fun _ _ => rfl) ?_
          refine q_Ru_call (v := (some (.int 1))) (h2 := (q_cM q_AM (q_uI q_IM 0 39 1) q_J0, 34, 31630)) rfl rfl ?_ ?_
          · refine q_Ca_of (Nat.le_of_ble_eq_true rfl) ?_
            refine q_Ru_seg (g2 := (14, [(0, .ref 64), (1, .int 1)], [.int 1], (q_cM q_AM (q_uI q_IM 0 39 1) q_J0, 34, 31630))) 7 (fun _ _ => rfl) ?_
            exact q_Ru_ret rfl rfl
          show q_Ru _ _ _ (23, [(0, .ref 64), (1, .int 1)], [.int 1], (q_cM q_AM (q_uI q_IM 0 39 1) q_J0, 34, 31630)) _
          refine q_Ru_seg (g2 := (27, [(0, .ref 64), (1, .int 1)], [.int 0], (q_cM q_AM (q_uI q_IM 0 39 1) q_J0, 34, 31630))) 2 (fun _ _ => rfl) ?_
          exact q_Ru_ret rfl rfl
      | 2, _, e186 =>
        have e186 : a = 2 := e186
        subst e186
        refine ⟨1, 0, 0, ⟨(q_cX q_AX q_IX q_J0, 40 + 1, 26520 + 6), q_J0 39, ?_, rfl, fun h => absurd h (by decide), Nat.le_of_ble_eq_true rfl, Nat.le_of_ble_eq_true rfl⟩, ⟨(q_cM q_AM (q_uI q_IM 0 39 1) q_J0, 34, 31630), _, ?_, rfl, rfl, Nat.le_of_ble_eq_true rfl, Nat.le_of_ble_eq_true rfl⟩, fun h => absurd h (by decide)⟩
        · refine q_Ca_of (Nat.le_of_ble_eq_true rfl) ?_
          refine q_Ru_seg (g2 := (4, [(0, .ref 64), (1, .int 2), (2, .ref 103)], [.int 2, .ref 64, .int 0, .ref 103], (q_cX q_AX q_IX q_J0, 40, 26520))) 4 (fun _ _ => rfl) ?_
          refine q_Ru_callH (E := "java/util/NoSuchElementException") (tg := 13) (i := 3) (h2 := (q_cX q_AX q_IX q_J0, 40 + 1, 26520 + 6)) rfl rfl ?_ rfl ?_
          · refine q_Ca_of (Nat.le_of_ble_eq_true rfl) ?_
            refine q_Ru_seg (g2 := (2, [(0, .ref 64), (1, .int 2)], [.int 2, .ref 64], (q_cX q_AX q_IX q_J0, 40, 26520))) 2 (fun _ _ => rfl) ?_
            refine q_Ru_call (v := (some (.null))) (h2 := (q_cX q_AX q_IX q_J0, 40, 26520)) rfl rfl ?_ ?_
            · refine q_Ca_of (Nat.le_of_ble_eq_true rfl) ?_
              refine q_Ru_seg (g2 := (19, [(0, .ref 64), (1, .int 2)], [.null], (q_cX q_AX q_IX q_J0, 40, 26520))) 10 (fun _ _ => rfl) ?_
              exact q_Ru_ret rfl rfl
            show q_Ru _ _ _ (5, [(0, .ref 64), (1, .int 2)], [.null], (q_cX q_AX q_IX q_J0, 40, 26520)) _
            refine q_Ru_seg (g2 := (10, [(2, .null), (0, .ref 64), (1, .int 2)], [], (q_cX q_AX q_IX q_J0, 40, 26520))) 3 (fun _ _ => rfl) ?_
            exact q_Ru_thr rfl rfl
          show q_Ru _ _ _ (13, [(0, .ref 64), (1, .int 2), (2, .ref 103)], [], (q_cX q_AX q_IX q_J0, 40 + 1, 26520 + 6)) _
          refine q_Ru_seg (g2 := (14, [(0, .ref 64), (1, .int 2), (2, .ref 103)], [.int 1], (q_cX q_AX q_IX q_J0, 40 + 1, 26520 + 6))) 1 (fun _ _ => rfl) ?_
          exact q_Ru_ret rfl rfl
        · refine q_Ca_of (Nat.le_of_ble_eq_true rfl) ?_
          refine q_Ru_seg (g2 := (9, [(0, .ref 64), (1, .int 2)], [.int (-1), .int 0, .int 2, .ref 64], (q_cM q_AM q_IM q_J0, 34, 31630))) 7 (fun _ _ => rfl) ?_
          refine q_Ru_call (v := (some (.int 0))) (h2 := (q_cM q_AM q_IM q_J0, 34, 31630)) rfl rfl ?_ ?_
          · refine q_Ca_of (Nat.le_of_ble_eq_true rfl) ?_
            refine q_Ru_seg (g2 := (15, [(0, .int 2), (1, .int 0), (2, .int (-1))], [.int 0], (q_cM q_AM q_IM q_J0, 34, 31630))) 7 (fun _ _ => rfl) ?_
            exact q_Ru_ret rfl rfl
          show q_Ru _ _ _ (12, [(0, .ref 64), (1, .int 2)], [.int 0, .ref 64], (q_cM q_AM q_IM q_J0, 34, 31630)) _
          refine q_Ru_seg (g2 := (20, [(0, .ref 64), (1, .int 2)], [.int 1, .ref 64], (q_cM q_AM q_IM q_J0, 34, 31630))) 2 (fun _ _ => rfl) ?_
          refine q_Ru_call (v := (some (.int 1))) (h2 := (q_cM q_AM (q_uI q_IM 0 39 1) q_J0, 34, 31630)) rfl rfl ?_ ?_
          · refine q_Ca_of (Nat.le_of_ble_eq_true rfl) ?_
            refine q_Ru_seg (g2 := (14, [(0, .ref 64), (1, .int 1)], [.int 1], (q_cM q_AM (q_uI q_IM 0 39 1) q_J0, 34, 31630))) 7 (fun _ _ => rfl) ?_
            exact q_Ru_ret rfl rfl
          show q_Ru _ _ _ (23, [(0, .ref 64), (1, .int 2)], [.int 1], (q_cM q_AM (q_uI q_IM 0 39 1) q_J0, 34, 31630)) _
          refine q_Ru_seg (g2 := (27, [(0, .ref 64), (1, .int 2)], [.int 0], (q_cM q_AM (q_uI q_IM 0 39 1) q_J0, 34, 31630))) 2 (fun _ _ => rfl) ?_
          exact q_Ru_ret rfl rfl
      | j186 + 3, g186, _ => exact absurd g186 (by omega)
    | false =>
      cases h187 : decide ((-1) < a) with
      | true =>
        refine ⟨1, 0, 0, ⟨(q_cX q_AX q_IX q_J0, 40 + 1, 26520 + 6), q_J0 39, ?_, rfl, fun h => absurd h (by decide), Nat.le_of_ble_eq_true rfl, Nat.le_of_ble_eq_true rfl⟩, ⟨(q_cM q_AM (q_uI q_IM 0 39 1) q_J0, 34, 31630), _, ?_, rfl, rfl, Nat.le_of_ble_eq_true rfl, Nat.le_of_ble_eq_true rfl⟩, fun h => absurd h (by decide)⟩
        · refine q_Ca_of (Nat.le_of_ble_eq_true rfl) ?_
          refine q_Ru_seg (g2 := (4, [(0, .ref 64), (1, .int a), (2, .ref 103)], [.int a, .ref 64, .int 0, .ref 103], (q_cX q_AX q_IX q_J0, 40, 26520))) 4 (fun _ _ => rfl) ?_
          refine q_Ru_callH (E := "java/util/NoSuchElementException") (tg := 13) (i := 3) (h2 := (q_cX q_AX q_IX q_J0, 40 + 1, 26520 + 6)) rfl rfl ?_ rfl ?_
          · refine q_Ca_of (Nat.le_of_ble_eq_true rfl) ?_
            refine q_Ru_seg (g2 := (2, [(0, .ref 64), (1, .int a)], [.int a, .ref 64], (q_cX q_AX q_IX q_J0, 40, 26520))) 2 (fun _ _ => rfl) ?_
            refine q_Ru_call (v := (some (.null))) (h2 := (q_cX q_AX q_IX q_J0, 40, 26520)) rfl rfl ?_ ?_
            · refine q_Ca_of (Nat.le_of_ble_eq_true rfl) ?_
              refine q_Ru_seg (g2 := (1, [(0, .ref 64), (1, .int a)], [.int a], (q_cX q_AX q_IX q_J0, 40, 26520))) 1 (fun _ _ => rfl) ?_
              refine q_Ru_rsF (g2 := (4, [(0, .ref 64), (1, .int a)], [], (q_cX q_AX q_IX q_J0, 40, 26520))) rfl rfl h184 ?_
              refine q_Ru_seg (g2 := (6, [(0, .ref 64), (1, .int a)], [.int 3, .int a], (q_cX q_AX q_IX q_J0, 40, 26520))) 2 (fun _ _ => rfl) ?_
              refine q_Ru_rsT (g2 := (18, [(0, .ref 64), (1, .int a)], [], (q_cX q_AX q_IX q_J0, 40, 26520))) rfl rfl (q_d_geF h185) ?_
              refine q_Ru_seg (g2 := (19, [(0, .ref 64), (1, .int a)], [.null], (q_cX q_AX q_IX q_J0, 40, 26520))) 1 (fun _ _ => rfl) ?_
              exact q_Ru_ret rfl rfl
            show q_Ru _ _ _ (5, [(0, .ref 64), (1, .int a)], [.null], (q_cX q_AX q_IX q_J0, 40, 26520)) _
            refine q_Ru_seg (g2 := (10, [(2, .null), (0, .ref 64), (1, .int a)], [], (q_cX q_AX q_IX q_J0, 40, 26520))) 3 (fun _ _ => rfl) ?_
            exact q_Ru_thr rfl rfl
          show q_Ru _ _ _ (13, [(0, .ref 64), (1, .int a), (2, .ref 103)], [], (q_cX q_AX q_IX q_J0, 40 + 1, 26520 + 6)) _
          refine q_Ru_seg (g2 := (14, [(0, .ref 64), (1, .int a), (2, .ref 103)], [.int 1], (q_cX q_AX q_IX q_J0, 40 + 1, 26520 + 6))) 1 (fun _ _ => rfl) ?_
          exact q_Ru_ret rfl rfl
        · refine q_Ca_of (Nat.le_of_ble_eq_true rfl) ?_
          refine q_Ru_seg (g2 := (9, [(0, .ref 64), (1, .int a)], [.int (-1), .int 0, .int a, .ref 64], (q_cM q_AM q_IM q_J0, 34, 31630))) 7 (fun _ _ => rfl) ?_
          refine q_Ru_call (v := (some (.int 0))) (h2 := (q_cM q_AM q_IM q_J0, 34, 31630)) rfl rfl ?_ ?_
          · refine q_Ca_of (Nat.le_of_ble_eq_true rfl) ?_
            refine q_Ru_seg (g2 := (2, [(0, .int a), (1, .int 0), (2, .int (-1))], [.int 0, .int a], (q_cM q_AM q_IM q_J0, 34, 31630))) 2 (fun _ _ => rfl) ?_
            refine q_Ru_rsF (g2 := (5, [(0, .int a), (1, .int 0), (2, .int (-1))], [], (q_cM q_AM q_IM q_J0, 34, 31630))) rfl rfl h184 ?_
            refine q_Ru_seg (g2 := (7, [(0, .int a), (1, .int 0), (2, .int (-1))], [.int (-1), .int a], (q_cM q_AM q_IM q_J0, 34, 31630))) 2 (fun _ _ => rfl) ?_
            refine q_Ru_rsT (g2 := (14, [(0, .int a), (1, .int 0), (2, .int (-1))], [], (q_cM q_AM q_IM q_J0, 34, 31630))) rfl rfl h187 ?_
            refine q_Ru_seg (g2 := (15, [(0, .int a), (1, .int 0), (2, .int (-1))], [.int 0], (q_cM q_AM q_IM q_J0, 34, 31630))) 1 (fun _ _ => rfl) ?_
            exact q_Ru_ret rfl rfl
          show q_Ru _ _ _ (12, [(0, .ref 64), (1, .int a)], [.int 0, .ref 64], (q_cM q_AM q_IM q_J0, 34, 31630)) _
          refine q_Ru_seg (g2 := (20, [(0, .ref 64), (1, .int a)], [.int 1, .ref 64], (q_cM q_AM q_IM q_J0, 34, 31630))) 2 (fun _ _ => rfl) ?_
          refine q_Ru_call (v := (some (.int 1))) (h2 := (q_cM q_AM (q_uI q_IM 0 39 1) q_J0, 34, 31630)) rfl rfl ?_ ?_
          · refine q_Ca_of (Nat.le_of_ble_eq_true rfl) ?_
            refine q_Ru_seg (g2 := (14, [(0, .ref 64), (1, .int 1)], [.int 1], (q_cM q_AM (q_uI q_IM 0 39 1) q_J0, 34, 31630))) 7 (fun _ _ => rfl) ?_
            exact q_Ru_ret rfl rfl
          show q_Ru _ _ _ (23, [(0, .ref 64), (1, .int a)], [.int 1], (q_cM q_AM (q_uI q_IM 0 39 1) q_J0, 34, 31630)) _
          refine q_Ru_seg (g2 := (27, [(0, .ref 64), (1, .int a)], [.int 0], (q_cM q_AM (q_uI q_IM 0 39 1) q_J0, 34, 31630))) 2 (fun _ _ => rfl) ?_
          exact q_Ru_ret rfl rfl
      | false =>
        exact q_no (q_lo1 h185) (q_hi2 h187) (by decide)
set_option maxHeartbeats 20000000 in
theorem q_op_differences (a : Int32) : ∃ (r b : Int32) (w : Int64), q_opX 24 [.int a] r w ∧ q_opM 309 [.int a] r (.int b) ∧ (r = 0 → w = b.toInt64) := by
  cases h188 : decide (a < 0) with
  | true =>
    refine ⟨1, 0, 0, ⟨(q_cX q_AX q_IX q_J0, 40 + 1, 26520 + 6), q_J0 39, ?_, rfl, fun h => absurd h (by decide), Nat.le_of_ble_eq_true rfl, Nat.le_of_ble_eq_true rfl⟩, ⟨(q_cM q_AM (q_uI q_IM 0 39 1) q_J0, 34, 31630), _, ?_, rfl, rfl, Nat.le_of_ble_eq_true rfl, Nat.le_of_ble_eq_true rfl⟩, fun h => absurd h (by decide)⟩
    · refine q_Ca_of (Nat.le_of_ble_eq_true rfl) ?_
      refine q_Ru_seg (g2 := (4, [(0, .ref 64), (1, .int a), (2, .ref 103)], [.int a, .ref 64, .int 0, .ref 103], (q_cX q_AX q_IX q_J0, 40, 26520))) 4 (fun _ _ => rfl) ?_
      refine q_Ru_callH (E := "java/util/NoSuchElementException") (tg := 13) (i := 3) (h2 := (q_cX q_AX q_IX q_J0, 40 + 1, 26520 + 6)) rfl rfl ?_ rfl ?_
      · refine q_Ca_of (Nat.le_of_ble_eq_true rfl) ?_
        refine q_Ru_seg (g2 := (2, [(0, .ref 64), (1, .int a)], [.int a, .ref 64], (q_cX q_AX q_IX q_J0, 40, 26520))) 2 (fun _ _ => rfl) ?_
        refine q_Ru_call (v := (some (.null))) (h2 := (q_cX q_AX q_IX q_J0, 40, 26520)) rfl rfl ?_ ?_
        · refine q_Ca_of (Nat.le_of_ble_eq_true rfl) ?_
          refine q_Ru_seg (g2 := (1, [(0, .ref 64), (1, .int a)], [.int a], (q_cX q_AX q_IX q_J0, 40, 26520))) 1 (fun _ _ => rfl) ?_
          refine q_Ru_rsT (g2 := (18, [(0, .ref 64), (1, .int a)], [], (q_cX q_AX q_IX q_J0, 40, 26520))) rfl rfl h188 ?_
          refine q_Ru_seg (g2 := (19, [(0, .ref 64), (1, .int a)], [.null], (q_cX q_AX q_IX q_J0, 40, 26520))) 1 (fun _ _ => rfl) ?_
          exact q_Ru_ret rfl rfl
        show q_Ru _ _ _ (5, [(0, .ref 64), (1, .int a)], [.null], (q_cX q_AX q_IX q_J0, 40, 26520)) _
        refine q_Ru_seg (g2 := (10, [(2, .null), (0, .ref 64), (1, .int a)], [], (q_cX q_AX q_IX q_J0, 40, 26520))) 3 (fun _ _ => rfl) ?_
        exact q_Ru_thr rfl rfl
      show q_Ru _ _ _ (13, [(0, .ref 64), (1, .int a), (2, .ref 103)], [], (q_cX q_AX q_IX q_J0, 40 + 1, 26520 + 6)) _
      refine q_Ru_seg (g2 := (14, [(0, .ref 64), (1, .int a), (2, .ref 103)], [.int 1], (q_cX q_AX q_IX q_J0, 40 + 1, 26520 + 6))) 1 (fun _ _ => rfl) ?_
      exact q_Ru_ret rfl rfl
    · refine q_Ca_of (Nat.le_of_ble_eq_true rfl) ?_
      refine q_Ru_seg (g2 := (9, [(0, .ref 64), (1, .int a)], [.int (-1), .int 0, .int a, .ref 64], (q_cM q_AM q_IM q_J0, 34, 31630))) 7 (fun _ _ => rfl) ?_
      refine q_Ru_call (v := (some (.int 0))) (h2 := (q_cM q_AM q_IM q_J0, 34, 31630)) rfl rfl ?_ ?_
      · refine q_Ca_of (Nat.le_of_ble_eq_true rfl) ?_
        refine q_Ru_seg (g2 := (2, [(0, .int a), (1, .int 0), (2, .int (-1))], [.int 0, .int a], (q_cM q_AM q_IM q_J0, 34, 31630))) 2 (fun _ _ => rfl) ?_
        refine q_Ru_rsT (g2 := (14, [(0, .int a), (1, .int 0), (2, .int (-1))], [], (q_cM q_AM q_IM q_J0, 34, 31630))) rfl rfl h188 ?_
        refine q_Ru_seg (g2 := (15, [(0, .int a), (1, .int 0), (2, .int (-1))], [.int 0], (q_cM q_AM q_IM q_J0, 34, 31630))) 1 (fun _ _ => rfl) ?_
        exact q_Ru_ret rfl rfl
      show q_Ru _ _ _ (12, [(0, .ref 64), (1, .int a)], [.int 0, .ref 64], (q_cM q_AM q_IM q_J0, 34, 31630)) _
      refine q_Ru_seg (g2 := (20, [(0, .ref 64), (1, .int a)], [.int 1, .ref 64], (q_cM q_AM q_IM q_J0, 34, 31630))) 2 (fun _ _ => rfl) ?_
      refine q_Ru_call (v := (some (.int 1))) (h2 := (q_cM q_AM (q_uI q_IM 0 39 1) q_J0, 34, 31630)) rfl rfl ?_ ?_
      · refine q_Ca_of (Nat.le_of_ble_eq_true rfl) ?_
        refine q_Ru_seg (g2 := (14, [(0, .ref 64), (1, .int 1)], [.int 1], (q_cM q_AM (q_uI q_IM 0 39 1) q_J0, 34, 31630))) 7 (fun _ _ => rfl) ?_
        exact q_Ru_ret rfl rfl
      show q_Ru _ _ _ (23, [(0, .ref 64), (1, .int a)], [.int 1], (q_cM q_AM (q_uI q_IM 0 39 1) q_J0, 34, 31630)) _
      refine q_Ru_seg (g2 := (35, [(0, .ref 64), (1, .int a)], [.int 0], (q_cM q_AM (q_uI q_IM 0 39 1) q_J0, 34, 31630))) 3 (fun _ _ => rfl) ?_
      exact q_Ru_ret rfl rfl
  | false =>
    cases h189 : decide (a < 3) with
    | true =>
      obtain ⟨j190, g190, e190⟩ := q_en (l := 0) (n := 2) (q_lo1 h188) (q_hi1 h189)
      match j190, g190, e190 with
      | 0, _, e190 =>
        have e190 : a = 0 := e190
        subst e190
        refine ⟨1, 0, 0, ⟨(q_cX q_AX q_IX q_J0, 40 + 1, 26520 + 6), q_J0 39, ?_, rfl, fun h => absurd h (by decide), Nat.le_of_ble_eq_true rfl, Nat.le_of_ble_eq_true rfl⟩, ⟨(q_cM q_AM (q_uI q_IM 0 39 1) q_J0, 34, 31630), _, ?_, rfl, rfl, Nat.le_of_ble_eq_true rfl, Nat.le_of_ble_eq_true rfl⟩, fun h => absurd h (by decide)⟩
        · refine q_Ca_of (Nat.le_of_ble_eq_true rfl) ?_
          refine q_Ru_seg (g2 := (4, [(0, .ref 64), (1, .int 0), (2, .ref 103)], [.int 0, .ref 64, .int 0, .ref 103], (q_cX q_AX q_IX q_J0, 40, 26520))) 4 (fun _ _ => rfl) ?_
          refine q_Ru_callH (E := "java/util/NoSuchElementException") (tg := 13) (i := 3) (h2 := (q_cX q_AX q_IX q_J0, 40 + 1, 26520 + 6)) rfl rfl ?_ rfl ?_
          · refine q_Ca_of (Nat.le_of_ble_eq_true rfl) ?_
            refine q_Ru_seg (g2 := (2, [(0, .ref 64), (1, .int 0)], [.int 0, .ref 64], (q_cX q_AX q_IX q_J0, 40, 26520))) 2 (fun _ _ => rfl) ?_
            refine q_Ru_call (v := (some (.null))) (h2 := (q_cX q_AX q_IX q_J0, 40, 26520)) rfl rfl ?_ ?_
            · refine q_Ca_of (Nat.le_of_ble_eq_true rfl) ?_
              refine q_Ru_seg (g2 := (19, [(0, .ref 64), (1, .int 0)], [.null], (q_cX q_AX q_IX q_J0, 40, 26520))) 10 (fun _ _ => rfl) ?_
              exact q_Ru_ret rfl rfl
            show q_Ru _ _ _ (5, [(0, .ref 64), (1, .int 0)], [.null], (q_cX q_AX q_IX q_J0, 40, 26520)) _
            refine q_Ru_seg (g2 := (10, [(2, .null), (0, .ref 64), (1, .int 0)], [], (q_cX q_AX q_IX q_J0, 40, 26520))) 3 (fun _ _ => rfl) ?_
            exact q_Ru_thr rfl rfl
          show q_Ru _ _ _ (13, [(0, .ref 64), (1, .int 0), (2, .ref 103)], [], (q_cX q_AX q_IX q_J0, 40 + 1, 26520 + 6)) _
          refine q_Ru_seg (g2 := (14, [(0, .ref 64), (1, .int 0), (2, .ref 103)], [.int 1], (q_cX q_AX q_IX q_J0, 40 + 1, 26520 + 6))) 1 (fun _ _ => rfl) ?_
          exact q_Ru_ret rfl rfl
        · refine q_Ca_of (Nat.le_of_ble_eq_true rfl) ?_
          refine q_Ru_seg (g2 := (9, [(0, .ref 64), (1, .int 0)], [.int (-1), .int 0, .int 0, .ref 64], (q_cM q_AM q_IM q_J0, 34, 31630))) 7 (fun _ _ => rfl) ?_
          refine q_Ru_call (v := (some (.int 0))) (h2 := (q_cM q_AM q_IM q_J0, 34, 31630)) rfl rfl ?_ ?_
          · refine q_Ca_of (Nat.le_of_ble_eq_true rfl) ?_
            refine q_Ru_seg (g2 := (15, [(0, .int 0), (1, .int 0), (2, .int (-1))], [.int 0], (q_cM q_AM q_IM q_J0, 34, 31630))) 7 (fun _ _ => rfl) ?_
            exact q_Ru_ret rfl rfl
          show q_Ru _ _ _ (12, [(0, .ref 64), (1, .int 0)], [.int 0, .ref 64], (q_cM q_AM q_IM q_J0, 34, 31630)) _
          refine q_Ru_seg (g2 := (20, [(0, .ref 64), (1, .int 0)], [.int 1, .ref 64], (q_cM q_AM q_IM q_J0, 34, 31630))) 2 (fun _ _ => rfl) ?_
          refine q_Ru_call (v := (some (.int 1))) (h2 := (q_cM q_AM (q_uI q_IM 0 39 1) q_J0, 34, 31630)) rfl rfl ?_ ?_
          · refine q_Ca_of (Nat.le_of_ble_eq_true rfl) ?_
            refine q_Ru_seg (g2 := (14, [(0, .ref 64), (1, .int 1)], [.int 1], (q_cM q_AM (q_uI q_IM 0 39 1) q_J0, 34, 31630))) 7 (fun _ _ => rfl) ?_
            exact q_Ru_ret rfl rfl
          show q_Ru _ _ _ (23, [(0, .ref 64), (1, .int 0)], [.int 1], (q_cM q_AM (q_uI q_IM 0 39 1) q_J0, 34, 31630)) _
          refine q_Ru_seg (g2 := (35, [(0, .ref 64), (1, .int 0)], [.int 0], (q_cM q_AM (q_uI q_IM 0 39 1) q_J0, 34, 31630))) 3 (fun _ _ => rfl) ?_
          exact q_Ru_ret rfl rfl
      | 1, _, e190 =>
        have e190 : a = 1 := e190
        subst e190
        refine ⟨1, 0, 0, ⟨(q_cX q_AX q_IX q_J0, 40 + 1, 26520 + 6), q_J0 39, ?_, rfl, fun h => absurd h (by decide), Nat.le_of_ble_eq_true rfl, Nat.le_of_ble_eq_true rfl⟩, ⟨(q_cM q_AM (q_uI q_IM 0 39 1) q_J0, 34, 31630), _, ?_, rfl, rfl, Nat.le_of_ble_eq_true rfl, Nat.le_of_ble_eq_true rfl⟩, fun h => absurd h (by decide)⟩
        · refine q_Ca_of (Nat.le_of_ble_eq_true rfl) ?_
          refine q_Ru_seg (g2 := (4, [(0, .ref 64), (1, .int 1), (2, .ref 103)], [.int 1, .ref 64, .int 0, .ref 103], (q_cX q_AX q_IX q_J0, 40, 26520))) 4 (fun _ _ => rfl) ?_
          refine q_Ru_callH (E := "java/util/NoSuchElementException") (tg := 13) (i := 3) (h2 := (q_cX q_AX q_IX q_J0, 40 + 1, 26520 + 6)) rfl rfl ?_ rfl ?_
          · refine q_Ca_of (Nat.le_of_ble_eq_true rfl) ?_
            refine q_Ru_seg (g2 := (2, [(0, .ref 64), (1, .int 1)], [.int 1, .ref 64], (q_cX q_AX q_IX q_J0, 40, 26520))) 2 (fun _ _ => rfl) ?_
            refine q_Ru_call (v := (some (.null))) (h2 := (q_cX q_AX q_IX q_J0, 40, 26520)) rfl rfl ?_ ?_
            · refine q_Ca_of (Nat.le_of_ble_eq_true rfl) ?_
              refine q_Ru_seg (g2 := (19, [(0, .ref 64), (1, .int 1)], [.null], (q_cX q_AX q_IX q_J0, 40, 26520))) 10 (fun _ _ => rfl) ?_
              exact q_Ru_ret rfl rfl
            show q_Ru _ _ _ (5, [(0, .ref 64), (1, .int 1)], [.null], (q_cX q_AX q_IX q_J0, 40, 26520)) _
            refine q_Ru_seg (g2 := (10, [(2, .null), (0, .ref 64), (1, .int 1)], [], (q_cX q_AX q_IX q_J0, 40, 26520))) 3 (fun _ _ => rfl) ?_
            exact q_Ru_thr rfl rfl
          show q_Ru _ _ _ (13, [(0, .ref 64), (1, .int 1), (2, .ref 103)], [], (q_cX q_AX q_IX q_J0, 40 + 1, 26520 + 6)) _
          refine q_Ru_seg (g2 := (14, [(0, .ref 64), (1, .int 1), (2, .ref 103)], [.int 1], (q_cX q_AX q_IX q_J0, 40 + 1, 26520 + 6))) 1 (fun _ _ => rfl) ?_
          exact q_Ru_ret rfl rfl
        · refine q_Ca_of (Nat.le_of_ble_eq_true rfl) ?_
          refine q_Ru_seg (g2 := (9, [(0, .ref 64), (1, .int 1)], [.int (-1), .int 0, .int 1, .ref 64], (q_cM q_AM q_IM q_J0, 34, 31630))) 7 (fun _ _ => rfl) ?_
          refine q_Ru_call (v := (some (.int 0))) (h2 := (q_cM q_AM q_IM q_J0, 34, 31630)) rfl rfl ?_ ?_
          · refine q_Ca_of (Nat.le_of_ble_eq_true rfl) ?_
            refine q_Ru_seg (g2 := (15, [(0, .int 1), (1, .int 0), (2, .int (-1))], [.int 0], (q_cM q_AM q_IM q_J0, 34, 31630))) 7 (fun _ _ => rfl) ?_
            exact q_Ru_ret rfl rfl
          show q_Ru _ _ _ (12, [(0, .ref 64), (1, .int 1)], [.int 0, .ref 64], (q_cM q_AM q_IM q_J0, 34, 31630)) _
          refine q_Ru_seg (g2 := (20, [(0, .ref 64), (1, .int 1)], [.int 1, .ref 64], (q_cM q_AM q_IM q_J0, 34, 31630))) 2 (fun _ _ => rfl) ?_
          refine q_Ru_call (v := (some (.int 1))) (h2 := (q_cM q_AM (q_uI q_IM 0 39 1) q_J0, 34, 31630)) rfl rfl ?_ ?_
          · refine q_Ca_of (Nat.le_of_ble_eq_true rfl) ?_
            refine q_Ru_seg (g2 := (14, [(0, .ref 64), (1, .int 1)], [.int 1], (q_cM q_AM (q_uI q_IM 0 39 1) q_J0, 34, 31630))) 7 (fun _ _ => rfl) ?_
            exact q_Ru_ret rfl rfl
          show q_Ru _ _ _ (23, [(0, .ref 64), (1, .int 1)], [.int 1], (q_cM q_AM (q_uI q_IM 0 39 1) q_J0, 34, 31630)) _
          refine q_Ru_seg (g2 := (35, [(0, .ref 64), (1, .int 1)], [.int 0], (q_cM q_AM (q_uI q_IM 0 39 1) q_J0, 34, 31630))) 3 (fun _ _ => rfl) ?_
          exact q_Ru_ret rfl rfl
      | 2, _, e190 =>
        have e190 : a = 2 := e190
        subst e190
        refine ⟨1, 0, 0, ⟨(q_cX q_AX q_IX q_J0, 40 + 1, 26520 + 6), q_J0 39, ?_, rfl, fun h => absurd h (by decide), Nat.le_of_ble_eq_true rfl, Nat.le_of_ble_eq_true rfl⟩, ⟨(q_cM q_AM (q_uI q_IM 0 39 1) q_J0, 34, 31630), _, ?_, rfl, rfl, Nat.le_of_ble_eq_true rfl, Nat.le_of_ble_eq_true rfl⟩, fun h => absurd h (by decide)⟩
        · refine q_Ca_of (Nat.le_of_ble_eq_true rfl) ?_
          refine q_Ru_seg (g2 := (4, [(0, .ref 64), (1, .int 2), (2, .ref 103)], [.int 2, .ref 64, .int 0, .ref 103], (q_cX q_AX q_IX q_J0, 40, 26520))) 4 (fun _ _ => rfl) ?_
          refine q_Ru_callH (E := "java/util/NoSuchElementException") (tg := 13) (i := 3) (h2 := (q_cX q_AX q_IX q_J0, 40 + 1, 26520 + 6)) rfl rfl ?_ rfl ?_
          · refine q_Ca_of (Nat.le_of_ble_eq_true rfl) ?_
            refine q_Ru_seg (g2 := (2, [(0, .ref 64), (1, .int 2)], [.int 2, .ref 64], (q_cX q_AX q_IX q_J0, 40, 26520))) 2 (fun _ _ => rfl) ?_
            refine q_Ru_call (v := (some (.null))) (h2 := (q_cX q_AX q_IX q_J0, 40, 26520)) rfl rfl ?_ ?_
            · refine q_Ca_of (Nat.le_of_ble_eq_true rfl) ?_
              refine q_Ru_seg (g2 := (19, [(0, .ref 64), (1, .int 2)], [.null], (q_cX q_AX q_IX q_J0, 40, 26520))) 10 (fun _ _ => rfl) ?_
              exact q_Ru_ret rfl rfl
            show q_Ru _ _ _ (5, [(0, .ref 64), (1, .int 2)], [.null], (q_cX q_AX q_IX q_J0, 40, 26520)) _
            refine q_Ru_seg (g2 := (10, [(2, .null), (0, .ref 64), (1, .int 2)], [], (q_cX q_AX q_IX q_J0, 40, 26520))) 3 (fun _ _ => rfl) ?_
            exact q_Ru_thr rfl rfl
          show q_Ru _ _ _ (13, [(0, .ref 64), (1, .int 2), (2, .ref 103)], [], (q_cX q_AX q_IX q_J0, 40 + 1, 26520 + 6)) _
          refine q_Ru_seg (g2 := (14, [(0, .ref 64), (1, .int 2), (2, .ref 103)], [.int 1], (q_cX q_AX q_IX q_J0, 40 + 1, 26520 + 6))) 1 (fun _ _ => rfl) ?_
          exact q_Ru_ret rfl rfl
        · refine q_Ca_of (Nat.le_of_ble_eq_true rfl) ?_
          refine q_Ru_seg (g2 := (9, [(0, .ref 64), (1, .int 2)], [.int (-1), .int 0, .int 2, .ref 64], (q_cM q_AM q_IM q_J0, 34, 31630))) 7 (fun _ _ => rfl) ?_
          refine q_Ru_call (v := (some (.int 0))) (h2 := (q_cM q_AM q_IM q_J0, 34, 31630)) rfl rfl ?_ ?_
          · refine q_Ca_of (Nat.le_of_ble_eq_true rfl) ?_
            refine q_Ru_seg (g2 := (15, [(0, .int 2), (1, .int 0), (2, .int (-1))], [.int 0], (q_cM q_AM q_IM q_J0, 34, 31630))) 7 (fun _ _ => rfl) ?_
            exact q_Ru_ret rfl rfl
          show q_Ru _ _ _ (12, [(0, .ref 64), (1, .int 2)], [.int 0, .ref 64], (q_cM q_AM q_IM q_J0, 34, 31630)) _
          refine q_Ru_seg (g2 := (20, [(0, .ref 64), (1, .int 2)], [.int 1, .ref 64], (q_cM q_AM q_IM q_J0, 34, 31630))) 2 (fun _ _ => rfl) ?_
          refine q_Ru_call (v := (some (.int 1))) (h2 := (q_cM q_AM (q_uI q_IM 0 39 1) q_J0, 34, 31630)) rfl rfl ?_ ?_
          · refine q_Ca_of (Nat.le_of_ble_eq_true rfl) ?_
            refine q_Ru_seg (g2 := (14, [(0, .ref 64), (1, .int 1)], [.int 1], (q_cM q_AM (q_uI q_IM 0 39 1) q_J0, 34, 31630))) 7 (fun _ _ => rfl) ?_
            exact q_Ru_ret rfl rfl
          show q_Ru _ _ _ (23, [(0, .ref 64), (1, .int 2)], [.int 1], (q_cM q_AM (q_uI q_IM 0 39 1) q_J0, 34, 31630)) _
          refine q_Ru_seg (g2 := (35, [(0, .ref 64), (1, .int 2)], [.int 0], (q_cM q_AM (q_uI q_IM 0 39 1) q_J0, 34, 31630))) 3 (fun _ _ => rfl) ?_
          exact q_Ru_ret rfl rfl
      | j190 + 3, g190, _ => exact absurd g190 (by omega)
    | false =>
      cases h191 : decide ((-1) < a) with
      | true =>
        refine ⟨1, 0, 0, ⟨(q_cX q_AX q_IX q_J0, 40 + 1, 26520 + 6), q_J0 39, ?_, rfl, fun h => absurd h (by decide), Nat.le_of_ble_eq_true rfl, Nat.le_of_ble_eq_true rfl⟩, ⟨(q_cM q_AM (q_uI q_IM 0 39 1) q_J0, 34, 31630), _, ?_, rfl, rfl, Nat.le_of_ble_eq_true rfl, Nat.le_of_ble_eq_true rfl⟩, fun h => absurd h (by decide)⟩
        · refine q_Ca_of (Nat.le_of_ble_eq_true rfl) ?_
          refine q_Ru_seg (g2 := (4, [(0, .ref 64), (1, .int a), (2, .ref 103)], [.int a, .ref 64, .int 0, .ref 103], (q_cX q_AX q_IX q_J0, 40, 26520))) 4 (fun _ _ => rfl) ?_
          refine q_Ru_callH (E := "java/util/NoSuchElementException") (tg := 13) (i := 3) (h2 := (q_cX q_AX q_IX q_J0, 40 + 1, 26520 + 6)) rfl rfl ?_ rfl ?_
          · refine q_Ca_of (Nat.le_of_ble_eq_true rfl) ?_
            refine q_Ru_seg (g2 := (2, [(0, .ref 64), (1, .int a)], [.int a, .ref 64], (q_cX q_AX q_IX q_J0, 40, 26520))) 2 (fun _ _ => rfl) ?_
            refine q_Ru_call (v := (some (.null))) (h2 := (q_cX q_AX q_IX q_J0, 40, 26520)) rfl rfl ?_ ?_
            · refine q_Ca_of (Nat.le_of_ble_eq_true rfl) ?_
              refine q_Ru_seg (g2 := (1, [(0, .ref 64), (1, .int a)], [.int a], (q_cX q_AX q_IX q_J0, 40, 26520))) 1 (fun _ _ => rfl) ?_
              refine q_Ru_rsF (g2 := (4, [(0, .ref 64), (1, .int a)], [], (q_cX q_AX q_IX q_J0, 40, 26520))) rfl rfl h188 ?_
              refine q_Ru_seg (g2 := (6, [(0, .ref 64), (1, .int a)], [.int 3, .int a], (q_cX q_AX q_IX q_J0, 40, 26520))) 2 (fun _ _ => rfl) ?_
              refine q_Ru_rsT (g2 := (18, [(0, .ref 64), (1, .int a)], [], (q_cX q_AX q_IX q_J0, 40, 26520))) rfl rfl (q_d_geF h189) ?_
              refine q_Ru_seg (g2 := (19, [(0, .ref 64), (1, .int a)], [.null], (q_cX q_AX q_IX q_J0, 40, 26520))) 1 (fun _ _ => rfl) ?_
              exact q_Ru_ret rfl rfl
            show q_Ru _ _ _ (5, [(0, .ref 64), (1, .int a)], [.null], (q_cX q_AX q_IX q_J0, 40, 26520)) _
            refine q_Ru_seg (g2 := (10, [(2, .null), (0, .ref 64), (1, .int a)], [], (q_cX q_AX q_IX q_J0, 40, 26520))) 3 (fun _ _ => rfl) ?_
            exact q_Ru_thr rfl rfl
          show q_Ru _ _ _ (13, [(0, .ref 64), (1, .int a), (2, .ref 103)], [], (q_cX q_AX q_IX q_J0, 40 + 1, 26520 + 6)) _
          refine q_Ru_seg (g2 := (14, [(0, .ref 64), (1, .int a), (2, .ref 103)], [.int 1], (q_cX q_AX q_IX q_J0, 40 + 1, 26520 + 6))) 1 (fun _ _ => rfl) ?_
          exact q_Ru_ret rfl rfl
        · refine q_Ca_of (Nat.le_of_ble_eq_true rfl) ?_
          refine q_Ru_seg (g2 := (9, [(0, .ref 64), (1, .int a)], [.int (-1), .int 0, .int a, .ref 64], (q_cM q_AM q_IM q_J0, 34, 31630))) 7 (fun _ _ => rfl) ?_
          refine q_Ru_call (v := (some (.int 0))) (h2 := (q_cM q_AM q_IM q_J0, 34, 31630)) rfl rfl ?_ ?_
          · refine q_Ca_of (Nat.le_of_ble_eq_true rfl) ?_
            refine q_Ru_seg (g2 := (2, [(0, .int a), (1, .int 0), (2, .int (-1))], [.int 0, .int a], (q_cM q_AM q_IM q_J0, 34, 31630))) 2 (fun _ _ => rfl) ?_
            refine q_Ru_rsF (g2 := (5, [(0, .int a), (1, .int 0), (2, .int (-1))], [], (q_cM q_AM q_IM q_J0, 34, 31630))) rfl rfl h188 ?_
            refine q_Ru_seg (g2 := (7, [(0, .int a), (1, .int 0), (2, .int (-1))], [.int (-1), .int a], (q_cM q_AM q_IM q_J0, 34, 31630))) 2 (fun _ _ => rfl) ?_
            refine q_Ru_rsT (g2 := (14, [(0, .int a), (1, .int 0), (2, .int (-1))], [], (q_cM q_AM q_IM q_J0, 34, 31630))) rfl rfl h191 ?_
            refine q_Ru_seg (g2 := (15, [(0, .int a), (1, .int 0), (2, .int (-1))], [.int 0], (q_cM q_AM q_IM q_J0, 34, 31630))) 1 (fun _ _ => rfl) ?_
            exact q_Ru_ret rfl rfl
          show q_Ru _ _ _ (12, [(0, .ref 64), (1, .int a)], [.int 0, .ref 64], (q_cM q_AM q_IM q_J0, 34, 31630)) _
          refine q_Ru_seg (g2 := (20, [(0, .ref 64), (1, .int a)], [.int 1, .ref 64], (q_cM q_AM q_IM q_J0, 34, 31630))) 2 (fun _ _ => rfl) ?_
          refine q_Ru_call (v := (some (.int 1))) (h2 := (q_cM q_AM (q_uI q_IM 0 39 1) q_J0, 34, 31630)) rfl rfl ?_ ?_
          · refine q_Ca_of (Nat.le_of_ble_eq_true rfl) ?_
            refine q_Ru_seg (g2 := (14, [(0, .ref 64), (1, .int 1)], [.int 1], (q_cM q_AM (q_uI q_IM 0 39 1) q_J0, 34, 31630))) 7 (fun _ _ => rfl) ?_
            exact q_Ru_ret rfl rfl
          show q_Ru _ _ _ (23, [(0, .ref 64), (1, .int a)], [.int 1], (q_cM q_AM (q_uI q_IM 0 39 1) q_J0, 34, 31630)) _
          refine q_Ru_seg (g2 := (35, [(0, .ref 64), (1, .int a)], [.int 0], (q_cM q_AM (q_uI q_IM 0 39 1) q_J0, 34, 31630))) 3 (fun _ _ => rfl) ?_
          exact q_Ru_ret rfl rfl
      | false =>
        exact q_no (q_lo1 h189) (q_hi2 h191) (by decide)
set_option maxHeartbeats 20000000 in
theorem q_op_setRegister (a v : Int32) : ∃ (r b : Int32) (w : Int64), q_opX 10 [.int a, .int v] r w ∧ q_opM 289 [.int a, .int v] r (.int b) ∧ (r = 0 → w = b.toInt64) := by
  cases h192 : decide (a < 0) with
  | true =>
    refine ⟨1, 0, 0, ⟨(q_cX q_AX q_IX q_J0, 40 + 1, 26520 + 6), q_J0 39, ?_, rfl, fun h => absurd h (by decide), Nat.le_of_ble_eq_true rfl, Nat.le_of_ble_eq_true rfl⟩, ⟨(q_cM q_AM (q_uI q_IM 0 39 1) q_J0, 34, 31630), _, ?_, rfl, rfl, Nat.le_of_ble_eq_true rfl, Nat.le_of_ble_eq_true rfl⟩, fun h => absurd h (by decide)⟩
    · refine q_Ca_of (Nat.le_of_ble_eq_true rfl) ?_
      refine q_Ru_seg (g2 := (5, [(0, .ref 64), (1, .int a), (2, .int v), (3, .ref 103)], [.int v, .int a, .ref 64, .int 0, .ref 103], (q_cX q_AX q_IX q_J0, 40, 26520))) 5 (fun _ _ => rfl) ?_
      refine q_Ru_callH (E := "java/lang/IndexOutOfBoundsException") (tg := 15) (i := 4) (h2 := (q_cX q_AX q_IX q_J0, 40 + 1, 26520 + 6)) rfl rfl ?_ rfl ?_
      · refine q_Ca_of (Nat.le_of_ble_eq_true rfl) ?_
        refine q_Ru_seg (g2 := (2, [(0, .ref 64), (1, .int a), (2, .int v)], [.int 5, .int a], (q_cX q_AX q_IX q_J0, 40, 26520))) 2 (fun _ _ => rfl) ?_
        refine q_Ru_callX (E := "java/lang/IndexOutOfBoundsException") (h2 := (q_cX q_AX q_IX q_J0, 40 + 1, 26520 + 6)) rfl rfl ?_
        refine q_Ca_of (Nat.le_of_ble_eq_true rfl) ?_
        refine q_Ru_seg (g2 := (1, [(0, .int a), (1, .int 5)], [.int a], (q_cX q_AX q_IX q_J0, 40, 26520))) 1 (fun _ _ => rfl) ?_
        refine q_Ru_rsT (g2 := (9, [(0, .int a), (1, .int 5)], [], (q_cX q_AX q_IX q_J0, 40, 26520))) rfl rfl h192 ?_
        exact q_Ru_thr rfl rfl
      show q_Ru _ _ _ (15, [(0, .ref 64), (1, .int a), (2, .int v), (3, .ref 103)], [], (q_cX q_AX q_IX q_J0, 40 + 1, 26520 + 6)) _
      refine q_Ru_seg (g2 := (16, [(0, .ref 64), (1, .int a), (2, .int v), (3, .ref 103)], [.int 1], (q_cX q_AX q_IX q_J0, 40 + 1, 26520 + 6))) 1 (fun _ _ => rfl) ?_
      exact q_Ru_ret rfl rfl
    · refine q_Ca_of (Nat.le_of_ble_eq_true rfl) ?_
      refine q_Ru_seg (g2 := (4, [(0, .ref 64), (1, .int a), (2, .int v)], [.int 4, .int 0, .int a, .ref 64], (q_cM q_AM q_IM q_J0, 34, 31630))) 4 (fun _ _ => rfl) ?_
      refine q_Ru_call (v := (some (.int 0))) (h2 := (q_cM q_AM q_IM q_J0, 34, 31630)) rfl rfl ?_ ?_
      · refine q_Ca_of (Nat.le_of_ble_eq_true rfl) ?_
        refine q_Ru_seg (g2 := (2, [(0, .int a), (1, .int 0), (2, .int 4)], [.int 0, .int a], (q_cM q_AM q_IM q_J0, 34, 31630))) 2 (fun _ _ => rfl) ?_
        refine q_Ru_rsT (g2 := (14, [(0, .int a), (1, .int 0), (2, .int 4)], [], (q_cM q_AM q_IM q_J0, 34, 31630))) rfl rfl h192 ?_
        refine q_Ru_seg (g2 := (15, [(0, .int a), (1, .int 0), (2, .int 4)], [.int 0], (q_cM q_AM q_IM q_J0, 34, 31630))) 1 (fun _ _ => rfl) ?_
        exact q_Ru_ret rfl rfl
      show q_Ru _ _ _ (7, [(0, .ref 64), (1, .int a), (2, .int v)], [.int 0, .ref 64], (q_cM q_AM q_IM q_J0, 34, 31630)) _
      refine q_Ru_seg (g2 := (55, [(0, .ref 64), (1, .int a), (2, .int v)], [.int 1, .ref 64], (q_cM q_AM q_IM q_J0, 34, 31630))) 3 (fun _ _ => rfl) ?_
      refine q_Ru_call (v := (some (.int 1))) (h2 := (q_cM q_AM (q_uI q_IM 0 39 1) q_J0, 34, 31630)) rfl rfl ?_ ?_
      · refine q_Ca_of (Nat.le_of_ble_eq_true rfl) ?_
        refine q_Ru_seg (g2 := (14, [(0, .ref 64), (1, .int 1)], [.int 1], (q_cM q_AM (q_uI q_IM 0 39 1) q_J0, 34, 31630))) 7 (fun _ _ => rfl) ?_
        exact q_Ru_ret rfl rfl
      show q_Ru _ _ _ (58, [(0, .ref 64), (1, .int a), (2, .int v)], [.int 1], (q_cM q_AM (q_uI q_IM 0 39 1) q_J0, 34, 31630)) _
      refine q_Ru_seg (g2 := (62, [(0, .ref 64), (1, .int a), (2, .int v)], [.int 0], (q_cM q_AM (q_uI q_IM 0 39 1) q_J0, 34, 31630))) 2 (fun _ _ => rfl) ?_
      exact q_Ru_ret rfl rfl
  | false =>
    cases h193 : decide (a < 5) with
    | true =>
      cases h194 : decide (a = 4) with
      | true =>
        have eh194 := of_decide_eq_true h194
        subst eh194
        cases h195 : decide (v < 0) with
        | true =>
          refine ⟨2, 0, 0, ⟨(q_cX q_AX q_IX q_J0, 40 + 1, 26520 + 6), q_J0 39, ?_, rfl, fun h => absurd h (by decide), Nat.le_of_ble_eq_true rfl, Nat.le_of_ble_eq_true rfl⟩, ⟨(q_cM q_AM (q_uI q_IM 0 39 2) q_J0, 34, 31630), _, ?_, rfl, rfl, Nat.le_of_ble_eq_true rfl, Nat.le_of_ble_eq_true rfl⟩, fun h => absurd h (by decide)⟩
          · refine q_Ca_of (Nat.le_of_ble_eq_true rfl) ?_
            refine q_Ru_seg (g2 := (5, [(0, .ref 64), (1, .int 4), (2, .int v), (3, .ref 103)], [.int v, .int 4, .ref 64, .int 0, .ref 103], (q_cX q_AX q_IX q_J0, 40, 26520))) 5 (fun _ _ => rfl) ?_
            refine q_Ru_callH (E := "java/lang/IllegalArgumentException") (tg := 19) (i := 4) (h2 := (q_cX q_AX q_IX q_J0, 40 + 1, 26520 + 6)) rfl rfl ?_ rfl ?_
            · refine q_Ca_of (Nat.le_of_ble_eq_true rfl) ?_
              refine q_Ru_seg (g2 := (2, [(0, .ref 64), (1, .int 4), (2, .int v)], [.int 5, .int 4], (q_cX q_AX q_IX q_J0, 40, 26520))) 2 (fun _ _ => rfl) ?_
              refine q_Ru_call (v := none) (h2 := (q_cX q_AX q_IX q_J0, 40, 26520)) rfl rfl ?_ ?_
              · refine q_Ca_of (Nat.le_of_ble_eq_true rfl) ?_
                refine q_Ru_seg (g2 := (19, [(0, .int 4), (1, .int 5)], [], (q_cX q_AX q_IX q_J0, 40, 26520))) 5 (fun _ _ => rfl) ?_
                exact q_Ru_ret rfl rfl
              show q_Ru _ _ _ (5, [(0, .ref 64), (1, .int 4), (2, .int v)], [], (q_cX q_AX q_IX q_J0, 40, 26520)) _
              refine q_Ru_seg (g2 := (21, [(0, .ref 64), (1, .int 4), (2, .int v)], [.int 4095, .int 0, .int v], (q_cX q_AX q_IX q_J0, 40, 26520))) 7 (fun _ _ => rfl) ?_
              refine q_Ru_callX (E := "java/lang/IllegalArgumentException") (h2 := (q_cX q_AX q_IX q_J0, 40 + 1, 26520 + 6)) rfl rfl ?_
              refine q_Ca_of (Nat.le_of_ble_eq_true rfl) ?_
              refine q_Ru_seg (g2 := (2, [(0, .int v), (1, .int 0), (2, .int 4095)], [.int 0, .int v], (q_cX q_AX q_IX q_J0, 40, 26520))) 2 (fun _ _ => rfl) ?_
              refine q_Ru_rsT (g2 := (10, [(0, .int v), (1, .int 0), (2, .int 4095)], [], (q_cX q_AX q_IX q_J0, 40, 26520))) rfl rfl h195 ?_
              exact q_Ru_thr rfl rfl
            show q_Ru _ _ _ (19, [(0, .ref 64), (1, .int 4), (2, .int v), (3, .ref 103)], [], (q_cX q_AX q_IX q_J0, 40 + 1, 26520 + 6)) _
            refine q_Ru_seg (g2 := (20, [(0, .ref 64), (1, .int 4), (2, .int v), (3, .ref 103)], [.int 2], (q_cX q_AX q_IX q_J0, 40 + 1, 26520 + 6))) 1 (fun _ _ => rfl) ?_
            exact q_Ru_ret rfl rfl
          · refine q_Ca_of (Nat.le_of_ble_eq_true rfl) ?_
            refine q_Ru_seg (g2 := (4, [(0, .ref 64), (1, .int 4), (2, .int v)], [.int 4, .int 0, .int 4, .ref 64], (q_cM q_AM q_IM q_J0, 34, 31630))) 4 (fun _ _ => rfl) ?_
            refine q_Ru_call (v := (some (.int 1))) (h2 := (q_cM q_AM q_IM q_J0, 34, 31630)) rfl rfl ?_ ?_
            · refine q_Ca_of (Nat.le_of_ble_eq_true rfl) ?_
              refine q_Ru_seg (g2 := (15, [(0, .int 4), (1, .int 0), (2, .int 4)], [.int 1], (q_cM q_AM q_IM q_J0, 34, 31630))) 8 (fun _ _ => rfl) ?_
              exact q_Ru_ret rfl rfl
            show q_Ru _ _ _ (7, [(0, .ref 64), (1, .int 4), (2, .int v)], [.int 1, .ref 64], (q_cM q_AM q_IM q_J0, 34, 31630)) _
            refine q_Ru_seg (g2 := (30, [(0, .ref 64), (1, .int 4), (2, .int v)], [.int 4095, .int 0, .int v, .ref 64], (q_cM q_AM q_IM q_J0, 34, 31630))) 8 (fun _ _ => rfl) ?_
            refine q_Ru_call (v := (some (.int 0))) (h2 := (q_cM q_AM q_IM q_J0, 34, 31630)) rfl rfl ?_ ?_
            · refine q_Ca_of (Nat.le_of_ble_eq_true rfl) ?_
              refine q_Ru_seg (g2 := (2, [(0, .int v), (1, .int 0), (2, .int 4095)], [.int 0, .int v], (q_cM q_AM q_IM q_J0, 34, 31630))) 2 (fun _ _ => rfl) ?_
              refine q_Ru_rsT (g2 := (14, [(0, .int v), (1, .int 0), (2, .int 4095)], [], (q_cM q_AM q_IM q_J0, 34, 31630))) rfl rfl h195 ?_
              refine q_Ru_seg (g2 := (15, [(0, .int v), (1, .int 0), (2, .int 4095)], [.int 0], (q_cM q_AM q_IM q_J0, 34, 31630))) 1 (fun _ _ => rfl) ?_
              exact q_Ru_ret rfl rfl
            show q_Ru _ _ _ (33, [(0, .ref 64), (1, .int 4), (2, .int v)], [.int 0, .ref 64], (q_cM q_AM q_IM q_J0, 34, 31630)) _
            refine q_Ru_seg (g2 := (55, [(0, .ref 64), (1, .int 4), (2, .int v)], [.int 2, .ref 64], (q_cM q_AM q_IM q_J0, 34, 31630))) 3 (fun _ _ => rfl) ?_
            refine q_Ru_call (v := (some (.int 1))) (h2 := (q_cM q_AM (q_uI q_IM 0 39 2) q_J0, 34, 31630)) rfl rfl ?_ ?_
            · refine q_Ca_of (Nat.le_of_ble_eq_true rfl) ?_
              refine q_Ru_seg (g2 := (14, [(0, .ref 64), (1, .int 2)], [.int 1], (q_cM q_AM (q_uI q_IM 0 39 2) q_J0, 34, 31630))) 7 (fun _ _ => rfl) ?_
              exact q_Ru_ret rfl rfl
            show q_Ru _ _ _ (58, [(0, .ref 64), (1, .int 4), (2, .int v)], [.int 1], (q_cM q_AM (q_uI q_IM 0 39 2) q_J0, 34, 31630)) _
            refine q_Ru_seg (g2 := (62, [(0, .ref 64), (1, .int 4), (2, .int v)], [.int 0], (q_cM q_AM (q_uI q_IM 0 39 2) q_J0, 34, 31630))) 2 (fun _ _ => rfl) ?_
            exact q_Ru_ret rfl rfl
        | false =>
          cases h196 : decide (4095 < v) with
          | true =>
            refine ⟨2, 0, 0, ⟨(q_cX q_AX q_IX q_J0, 40 + 1, 26520 + 6), q_J0 39, ?_, rfl, fun h => absurd h (by decide), Nat.le_of_ble_eq_true rfl, Nat.le_of_ble_eq_true rfl⟩, ⟨(q_cM q_AM (q_uI q_IM 0 39 2) q_J0, 34, 31630), _, ?_, rfl, rfl, Nat.le_of_ble_eq_true rfl, Nat.le_of_ble_eq_true rfl⟩, fun h => absurd h (by decide)⟩
            · refine q_Ca_of (Nat.le_of_ble_eq_true rfl) ?_
              refine q_Ru_seg (g2 := (5, [(0, .ref 64), (1, .int 4), (2, .int v), (3, .ref 103)], [.int v, .int 4, .ref 64, .int 0, .ref 103], (q_cX q_AX q_IX q_J0, 40, 26520))) 5 (fun _ _ => rfl) ?_
              refine q_Ru_callH (E := "java/lang/IllegalArgumentException") (tg := 19) (i := 4) (h2 := (q_cX q_AX q_IX q_J0, 40 + 1, 26520 + 6)) rfl rfl ?_ rfl ?_
              · refine q_Ca_of (Nat.le_of_ble_eq_true rfl) ?_
                refine q_Ru_seg (g2 := (2, [(0, .ref 64), (1, .int 4), (2, .int v)], [.int 5, .int 4], (q_cX q_AX q_IX q_J0, 40, 26520))) 2 (fun _ _ => rfl) ?_
                refine q_Ru_call (v := none) (h2 := (q_cX q_AX q_IX q_J0, 40, 26520)) rfl rfl ?_ ?_
                · refine q_Ca_of (Nat.le_of_ble_eq_true rfl) ?_
                  refine q_Ru_seg (g2 := (19, [(0, .int 4), (1, .int 5)], [], (q_cX q_AX q_IX q_J0, 40, 26520))) 5 (fun _ _ => rfl) ?_
                  exact q_Ru_ret rfl rfl
                show q_Ru _ _ _ (5, [(0, .ref 64), (1, .int 4), (2, .int v)], [], (q_cX q_AX q_IX q_J0, 40, 26520)) _
                refine q_Ru_seg (g2 := (21, [(0, .ref 64), (1, .int 4), (2, .int v)], [.int 4095, .int 0, .int v], (q_cX q_AX q_IX q_J0, 40, 26520))) 7 (fun _ _ => rfl) ?_
                refine q_Ru_callX (E := "java/lang/IllegalArgumentException") (h2 := (q_cX q_AX q_IX q_J0, 40 + 1, 26520 + 6)) rfl rfl ?_
                refine q_Ca_of (Nat.le_of_ble_eq_true rfl) ?_
                refine q_Ru_seg (g2 := (2, [(0, .int v), (1, .int 0), (2, .int 4095)], [.int 0, .int v], (q_cX q_AX q_IX q_J0, 40, 26520))) 2 (fun _ _ => rfl) ?_
                refine q_Ru_rsF (g2 := (5, [(0, .int v), (1, .int 0), (2, .int 4095)], [], (q_cX q_AX q_IX q_J0, 40, 26520))) rfl rfl h195 ?_
                refine q_Ru_seg (g2 := (7, [(0, .int v), (1, .int 0), (2, .int 4095)], [.int 4095, .int v], (q_cX q_AX q_IX q_J0, 40, 26520))) 2 (fun _ _ => rfl) ?_
                refine q_Ru_rsF (g2 := (10, [(0, .int v), (1, .int 0), (2, .int 4095)], [], (q_cX q_AX q_IX q_J0, 40, 26520))) rfl rfl (q_d_geT h196) ?_
                exact q_Ru_thr rfl rfl
              show q_Ru _ _ _ (19, [(0, .ref 64), (1, .int 4), (2, .int v), (3, .ref 103)], [], (q_cX q_AX q_IX q_J0, 40 + 1, 26520 + 6)) _
              refine q_Ru_seg (g2 := (20, [(0, .ref 64), (1, .int 4), (2, .int v), (3, .ref 103)], [.int 2], (q_cX q_AX q_IX q_J0, 40 + 1, 26520 + 6))) 1 (fun _ _ => rfl) ?_
              exact q_Ru_ret rfl rfl
            · refine q_Ca_of (Nat.le_of_ble_eq_true rfl) ?_
              refine q_Ru_seg (g2 := (4, [(0, .ref 64), (1, .int 4), (2, .int v)], [.int 4, .int 0, .int 4, .ref 64], (q_cM q_AM q_IM q_J0, 34, 31630))) 4 (fun _ _ => rfl) ?_
              refine q_Ru_call (v := (some (.int 1))) (h2 := (q_cM q_AM q_IM q_J0, 34, 31630)) rfl rfl ?_ ?_
              · refine q_Ca_of (Nat.le_of_ble_eq_true rfl) ?_
                refine q_Ru_seg (g2 := (15, [(0, .int 4), (1, .int 0), (2, .int 4)], [.int 1], (q_cM q_AM q_IM q_J0, 34, 31630))) 8 (fun _ _ => rfl) ?_
                exact q_Ru_ret rfl rfl
              show q_Ru _ _ _ (7, [(0, .ref 64), (1, .int 4), (2, .int v)], [.int 1, .ref 64], (q_cM q_AM q_IM q_J0, 34, 31630)) _
              refine q_Ru_seg (g2 := (30, [(0, .ref 64), (1, .int 4), (2, .int v)], [.int 4095, .int 0, .int v, .ref 64], (q_cM q_AM q_IM q_J0, 34, 31630))) 8 (fun _ _ => rfl) ?_
              refine q_Ru_call (v := (some (.int 0))) (h2 := (q_cM q_AM q_IM q_J0, 34, 31630)) rfl rfl ?_ ?_
              · refine q_Ca_of (Nat.le_of_ble_eq_true rfl) ?_
                refine q_Ru_seg (g2 := (2, [(0, .int v), (1, .int 0), (2, .int 4095)], [.int 0, .int v], (q_cM q_AM q_IM q_J0, 34, 31630))) 2 (fun _ _ => rfl) ?_
                refine q_Ru_rsF (g2 := (5, [(0, .int v), (1, .int 0), (2, .int 4095)], [], (q_cM q_AM q_IM q_J0, 34, 31630))) rfl rfl h195 ?_
                refine q_Ru_seg (g2 := (7, [(0, .int v), (1, .int 0), (2, .int 4095)], [.int 4095, .int v], (q_cM q_AM q_IM q_J0, 34, 31630))) 2 (fun _ _ => rfl) ?_
                refine q_Ru_rsT (g2 := (14, [(0, .int v), (1, .int 0), (2, .int 4095)], [], (q_cM q_AM q_IM q_J0, 34, 31630))) rfl rfl h196 ?_
                refine q_Ru_seg (g2 := (15, [(0, .int v), (1, .int 0), (2, .int 4095)], [.int 0], (q_cM q_AM q_IM q_J0, 34, 31630))) 1 (fun _ _ => rfl) ?_
                exact q_Ru_ret rfl rfl
              show q_Ru _ _ _ (33, [(0, .ref 64), (1, .int 4), (2, .int v)], [.int 0, .ref 64], (q_cM q_AM q_IM q_J0, 34, 31630)) _
              refine q_Ru_seg (g2 := (55, [(0, .ref 64), (1, .int 4), (2, .int v)], [.int 2, .ref 64], (q_cM q_AM q_IM q_J0, 34, 31630))) 3 (fun _ _ => rfl) ?_
              refine q_Ru_call (v := (some (.int 1))) (h2 := (q_cM q_AM (q_uI q_IM 0 39 2) q_J0, 34, 31630)) rfl rfl ?_ ?_
              · refine q_Ca_of (Nat.le_of_ble_eq_true rfl) ?_
                refine q_Ru_seg (g2 := (14, [(0, .ref 64), (1, .int 2)], [.int 1], (q_cM q_AM (q_uI q_IM 0 39 2) q_J0, 34, 31630))) 7 (fun _ _ => rfl) ?_
                exact q_Ru_ret rfl rfl
              show q_Ru _ _ _ (58, [(0, .ref 64), (1, .int 4), (2, .int v)], [.int 1], (q_cM q_AM (q_uI q_IM 0 39 2) q_J0, 34, 31630)) _
              refine q_Ru_seg (g2 := (62, [(0, .ref 64), (1, .int 4), (2, .int v)], [.int 0], (q_cM q_AM (q_uI q_IM 0 39 2) q_J0, 34, 31630))) 2 (fun _ _ => rfl) ?_
              exact q_Ru_ret rfl rfl
          | false =>
            refine ⟨0, 0, 0, ⟨(q_cX q_AX (q_uI q_IX 24 4 v) (q_uA q_J0 39 (vp_updL (fun _ => 0) 0 0)), 40, 26520), (q_uA q_J0 39 (vp_updL (fun _ => 0) 0 0)) 39, ?_, rfl, fun _ => rfl, Nat.le_of_ble_eq_true rfl, Nat.le_of_ble_eq_true rfl⟩, ⟨(q_cM (q_uA q_AM 14 (upd (upd (fun _ => 0) 3 255) 4 v)) (q_uI q_IM 0 39 0) q_J0, 34, 31630), _, ?_, rfl, rfl, Nat.le_of_ble_eq_true rfl, Nat.le_of_ble_eq_true rfl⟩, fun _ => rfl⟩
            · refine q_Ca_of (Nat.le_of_ble_eq_true rfl) ?_
              refine q_Ru_seg (g2 := (5, [(0, .ref 64), (1, .int 4), (2, .int v), (3, .ref 103)], [.int v, .int 4, .ref 64, .int 0, .ref 103], (q_cX q_AX q_IX q_J0, 40, 26520))) 5 (fun _ _ => rfl) ?_
              refine q_Ru_call (v := (some (.int 0))) (h2 := (q_cX q_AX (q_uI q_IX 24 4 v) q_J0, 40, 26520)) rfl rfl ?_ ?_
              · refine q_Ca_of (Nat.le_of_ble_eq_true rfl) ?_
                refine q_Ru_seg (g2 := (2, [(0, .ref 64), (1, .int 4), (2, .int v)], [.int 5, .int 4], (q_cX q_AX q_IX q_J0, 40, 26520))) 2 (fun _ _ => rfl) ?_
                refine q_Ru_call (v := none) (h2 := (q_cX q_AX q_IX q_J0, 40, 26520)) rfl rfl ?_ ?_
                · refine q_Ca_of (Nat.le_of_ble_eq_true rfl) ?_
                  refine q_Ru_seg (g2 := (19, [(0, .int 4), (1, .int 5)], [], (q_cX q_AX q_IX q_J0, 40, 26520))) 5 (fun _ _ => rfl) ?_
                  exact q_Ru_ret rfl rfl
                show q_Ru _ _ _ (5, [(0, .ref 64), (1, .int 4), (2, .int v)], [], (q_cX q_AX q_IX q_J0, 40, 26520)) _
                refine q_Ru_seg (g2 := (21, [(0, .ref 64), (1, .int 4), (2, .int v)], [.int 4095, .int 0, .int v], (q_cX q_AX q_IX q_J0, 40, 26520))) 7 (fun _ _ => rfl) ?_
                refine q_Ru_call (v := none) (h2 := (q_cX q_AX q_IX q_J0, 40, 26520)) rfl rfl ?_ ?_
                · refine q_Ca_of (Nat.le_of_ble_eq_true rfl) ?_
                  refine q_Ru_seg (g2 := (2, [(0, .int v), (1, .int 0), (2, .int 4095)], [.int 0, .int v], (q_cX q_AX q_IX q_J0, 40, 26520))) 2 (fun _ _ => rfl) ?_
                  refine q_Ru_rsF (g2 := (5, [(0, .int v), (1, .int 0), (2, .int 4095)], [], (q_cX q_AX q_IX q_J0, 40, 26520))) rfl rfl h195 ?_
                  refine q_Ru_seg (g2 := (7, [(0, .int v), (1, .int 0), (2, .int 4095)], [.int 4095, .int v], (q_cX q_AX q_IX q_J0, 40, 26520))) 2 (fun _ _ => rfl) ?_
                  refine q_Ru_rsT (g2 := (20, [(0, .int v), (1, .int 0), (2, .int 4095)], [], (q_cX q_AX q_IX q_J0, 40, 26520))) rfl rfl (q_d_geF h196) ?_
                  exact q_Ru_ret rfl rfl
                show q_Ru _ _ _ (24, [(0, .ref 64), (1, .int 4), (2, .int v)], [], (q_cX q_AX q_IX q_J0, 40, 26520)) _
                refine q_Ru_seg (g2 := (52, [(0, .ref 64), (1, .int 4), (2, .int v)], [.int 0, .int v, .int 4, .int 4, .ref 64], (q_cX q_AX q_IX q_J0, 40, 26520))) 10 (fun _ _ => rfl) ?_
                refine q_Ru_call (v := none) (h2 := (q_cX q_AX q_IX q_J0, 40, 26520)) rfl rfl ?_ ?_
                · refine q_Ca_of (Nat.le_of_ble_eq_true rfl) ?_
                  refine q_Ru_seg (g2 := (19, [(0, .ref 64), (1, .int 4), (2, .int 4), (3, .int v), (4, .int 0)], [], (q_cX q_AX q_IX q_J0, 40, 26520))) 3 (fun _ _ => rfl) ?_
                  exact q_Ru_ret rfl rfl
                show q_Ru _ _ _ (55, [(0, .ref 64), (1, .int 4), (2, .int v)], [], (q_cX q_AX q_IX q_J0, 40, 26520)) _
                refine q_Ru_seg (g2 := (63, [(0, .ref 64), (1, .int 4), (2, .int v)], [.int 0, .int v, .int 4, .int 4, .ref 65], (q_cX q_AX q_IX q_J0, 40, 26520))) 6 (fun _ _ => rfl) ?_
                refine q_Ru_call (v := (some (.int 0))) (h2 := (q_cX q_AX (q_uI q_IX 24 4 v) q_J0, 40, 26520)) rfl rfl ?_ ?_
                · refine q_Ca_of (Nat.le_of_ble_eq_true rfl) ?_
                  refine q_Ru_seg (g2 := (123, [(0, .ref 65), (1, .int 4), (2, .int 4), (3, .int v), (4, .int 0)], [.int v, .int 4, .ref 88], (q_cX q_AX q_IX q_J0, 40, 26520))) 6 (fun _ _ => rfl) ?_
                  refine q_Ru_call (v := (some (.int 0))) (h2 := (q_cX q_AX (q_uI q_IX 24 4 v) q_J0, 40, 26520)) rfl rfl ?_ ?_
                  · refine q_Ca_of (Nat.le_of_ble_eq_true rfl) ?_
                    refine q_Ru_seg (g2 := (2, [(0, .ref 88), (1, .int 4), (2, .int v)], [.int 4, .ref 88], (q_cX q_AX q_IX q_J0, 40, 26520))) 2 (fun _ _ => rfl) ?_
                    refine q_Ru_call (v := (some (.int 0))) (h2 := (q_cX q_AX q_IX q_J0, 40, 26520)) rfl rfl ?_ ?_
                    · refine q_Ca_of (Nat.le_of_ble_eq_true rfl) ?_
                      refine q_Ru_seg (g2 := (56, [(0, .ref 88), (1, .int 4)], [.int 0], (q_cX q_AX q_IX q_J0, 40, 26520))) 4 (fun _ _ => rfl) ?_
                      exact q_Ru_ret rfl rfl
                    show q_Ru _ _ _ (5, [(0, .ref 88), (1, .int 4), (2, .int v)], [.int 0], (q_cX q_AX q_IX q_J0, 40, 26520)) _
                    refine q_Ru_seg (g2 := (74, [(3, .int 0), (0, .ref 88), (1, .int 4), (2, .int v)], [.int 0], (q_cX q_AX (q_uI q_IX 24 4 v) q_J0, 40, 26520))) 7 (fun _ _ => rfl) ?_
                    exact q_Ru_ret rfl rfl
                  show q_Ru _ _ _ (126, [(0, .ref 65), (1, .int 4), (2, .int 4), (3, .int v), (4, .int 0)], [.int 0], (q_cX q_AX (q_uI q_IX 24 4 v) q_J0, 40, 26520)) _
                  exact q_Ru_ret rfl rfl
                show q_Ru _ _ _ (66, [(0, .ref 64), (1, .int 4), (2, .int v)], [.int 0], (q_cX q_AX (q_uI q_IX 24 4 v) q_J0, 40, 26520)) _
                exact q_Ru_ret rfl rfl
              show q_Ru _ _ _ (8, [(0, .ref 64), (1, .int 4), (2, .int v), (3, .ref 103)], [.int 0, .int 0, .ref 103], (q_cX q_AX (q_uI q_IX 24 4 v) q_J0, 40, 26520)) _
              refine q_Ru_seg (g2 := (26, [(0, .ref 64), (1, .int 4), (2, .int v), (3, .ref 103)], [.int 0], (q_cX q_AX (q_uI q_IX 24 4 v) (q_uA q_J0 39 (vp_updL (fun _ => 0) 0 0)), 40, 26520))) 4 (fun _ _ => rfl) ?_
              exact q_Ru_ret rfl rfl
            · refine q_Ca_of (Nat.le_of_ble_eq_true rfl) ?_
              refine q_Ru_seg (g2 := (4, [(0, .ref 64), (1, .int 4), (2, .int v)], [.int 4, .int 0, .int 4, .ref 64], (q_cM q_AM q_IM q_J0, 34, 31630))) 4 (fun _ _ => rfl) ?_
              refine q_Ru_call (v := (some (.int 1))) (h2 := (q_cM q_AM q_IM q_J0, 34, 31630)) rfl rfl ?_ ?_
              · refine q_Ca_of (Nat.le_of_ble_eq_true rfl) ?_
                refine q_Ru_seg (g2 := (15, [(0, .int 4), (1, .int 0), (2, .int 4)], [.int 1], (q_cM q_AM q_IM q_J0, 34, 31630))) 8 (fun _ _ => rfl) ?_
                exact q_Ru_ret rfl rfl
              show q_Ru _ _ _ (7, [(0, .ref 64), (1, .int 4), (2, .int v)], [.int 1, .ref 64], (q_cM q_AM q_IM q_J0, 34, 31630)) _
              refine q_Ru_seg (g2 := (30, [(0, .ref 64), (1, .int 4), (2, .int v)], [.int 4095, .int 0, .int v, .ref 64], (q_cM q_AM q_IM q_J0, 34, 31630))) 8 (fun _ _ => rfl) ?_
              refine q_Ru_call (v := (some (.int 1))) (h2 := (q_cM q_AM q_IM q_J0, 34, 31630)) rfl rfl ?_ ?_
              · refine q_Ca_of (Nat.le_of_ble_eq_true rfl) ?_
                refine q_Ru_seg (g2 := (2, [(0, .int v), (1, .int 0), (2, .int 4095)], [.int 0, .int v], (q_cM q_AM q_IM q_J0, 34, 31630))) 2 (fun _ _ => rfl) ?_
                refine q_Ru_rsF (g2 := (5, [(0, .int v), (1, .int 0), (2, .int 4095)], [], (q_cM q_AM q_IM q_J0, 34, 31630))) rfl rfl h195 ?_
                refine q_Ru_seg (g2 := (7, [(0, .int v), (1, .int 0), (2, .int 4095)], [.int 4095, .int v], (q_cM q_AM q_IM q_J0, 34, 31630))) 2 (fun _ _ => rfl) ?_
                refine q_Ru_rsF (g2 := (10, [(0, .int v), (1, .int 0), (2, .int 4095)], [], (q_cM q_AM q_IM q_J0, 34, 31630))) rfl rfl h196 ?_
                refine q_Ru_seg (g2 := (15, [(0, .int v), (1, .int 0), (2, .int 4095)], [.int 1], (q_cM q_AM q_IM q_J0, 34, 31630))) 2 (fun _ _ => rfl) ?_
                exact q_Ru_ret rfl rfl
              show q_Ru _ _ _ (33, [(0, .ref 64), (1, .int 4), (2, .int v)], [.int 1, .ref 64], (q_cM q_AM q_IM q_J0, 34, 31630)) _
              refine q_Ru_seg (g2 := (55, [(0, .ref 64), (1, .int 4), (2, .int v)], [.int 0, .ref 64], (q_cM q_AM q_IM q_J0, 34, 31630))) 7 (fun _ _ => rfl) ?_
              refine q_Ru_call (v := (some (.int 0))) (h2 := (q_cM q_AM (q_uI q_IM 0 39 0) q_J0, 34, 31630)) rfl rfl ?_ ?_
              · refine q_Ca_of (Nat.le_of_ble_eq_true rfl) ?_
                refine q_Ru_seg (g2 := (14, [(0, .ref 64), (1, .int 0)], [.int 0], (q_cM q_AM (q_uI q_IM 0 39 0) q_J0, 34, 31630))) 6 (fun _ _ => rfl) ?_
                exact q_Ru_ret rfl rfl
              show q_Ru _ _ _ (58, [(0, .ref 64), (1, .int 4), (2, .int v)], [.int 0], (q_cM q_AM (q_uI q_IM 0 39 0) q_J0, 34, 31630)) _
              refine q_Ru_seg (g2 := (78, [(3, .int 0), (0, .ref 64), (1, .int 4), (2, .int v)], [.ref 64], (q_cM (q_uA q_AM 14 (upd (upd (fun _ => 0) 3 255) 4 v)) (q_uI q_IM 0 39 0) q_J0, 34, 31630))) 12 (fun _ _ => rfl) ?_
              refine q_Ru_call (v := none) (h2 := (q_cM (q_uA q_AM 14 (upd (upd (fun _ => 0) 3 255) 4 v)) (q_uI q_IM 0 39 0) q_J0, 34, 31630)) rfl rfl ?_ ?_
              · refine q_Ca_of (Nat.le_of_ble_eq_true rfl) ?_
                refine q_Ru_seg (g2 := (17, [(0, .ref 64)], [], (q_cM (q_uA q_AM 14 (upd (upd (fun _ => 0) 3 255) 4 v)) (q_uI q_IM 0 39 0) q_J0, 34, 31630))) 3 (fun _ _ => rfl) ?_
                exact q_Ru_ret rfl rfl
              show q_Ru _ _ _ (81, [(3, .int 0), (0, .ref 64), (1, .int 4), (2, .int v)], [], (q_cM (q_uA q_AM 14 (upd (upd (fun _ => 0) 3 255) 4 v)) (q_uI q_IM 0 39 0) q_J0, 34, 31630)) _
              refine q_Ru_seg (g2 := (82, [(3, .int 0), (0, .ref 64), (1, .int 4), (2, .int v)], [.int 0], (q_cM (q_uA q_AM 14 (upd (upd (fun _ => 0) 3 255) 4 v)) (q_uI q_IM 0 39 0) q_J0, 34, 31630))) 1 (fun _ _ => rfl) ?_
              exact q_Ru_ret rfl rfl
      | false =>
        cases h197 : decide (v < 0) with
        | true =>
          cases h198 : decide (4 < a) with
          | true =>
            exact q_no (q_lo2 h198) (q_hi1 h193) (by decide)
          | false =>
            refine ⟨2, 0, 0, ⟨(q_cX q_AX q_IX q_J0, 40 + 1, 26520 + 6), q_J0 39, ?_, rfl, fun h => absurd h (by decide), Nat.le_of_ble_eq_true rfl, Nat.le_of_ble_eq_true rfl⟩, ⟨(q_cM q_AM (q_uI q_IM 0 39 2) q_J0, 34, 31630), _, ?_, rfl, rfl, Nat.le_of_ble_eq_true rfl, Nat.le_of_ble_eq_true rfl⟩, fun h => absurd h (by decide)⟩
            · refine q_Ca_of (Nat.le_of_ble_eq_true rfl) ?_
              refine q_Ru_seg (g2 := (5, [(0, .ref 64), (1, .int a), (2, .int v), (3, .ref 103)], [.int v, .int a, .ref 64, .int 0, .ref 103], (q_cX q_AX q_IX q_J0, 40, 26520))) 5 (fun _ _ => rfl) ?_
              refine q_Ru_callH (E := "java/lang/IllegalArgumentException") (tg := 19) (i := 4) (h2 := (q_cX q_AX q_IX q_J0, 40 + 1, 26520 + 6)) rfl rfl ?_ rfl ?_
              · refine q_Ca_of (Nat.le_of_ble_eq_true rfl) ?_
                refine q_Ru_seg (g2 := (2, [(0, .ref 64), (1, .int a), (2, .int v)], [.int 5, .int a], (q_cX q_AX q_IX q_J0, 40, 26520))) 2 (fun _ _ => rfl) ?_
                refine q_Ru_call (v := none) (h2 := (q_cX q_AX q_IX q_J0, 40, 26520)) rfl rfl ?_ ?_
                · refine q_Ca_of (Nat.le_of_ble_eq_true rfl) ?_
                  refine q_Ru_seg (g2 := (1, [(0, .int a), (1, .int 5)], [.int a], (q_cX q_AX q_IX q_J0, 40, 26520))) 1 (fun _ _ => rfl) ?_
                  refine q_Ru_rsF (g2 := (4, [(0, .int a), (1, .int 5)], [], (q_cX q_AX q_IX q_J0, 40, 26520))) rfl rfl h192 ?_
                  refine q_Ru_seg (g2 := (6, [(0, .int a), (1, .int 5)], [.int 5, .int a], (q_cX q_AX q_IX q_J0, 40, 26520))) 2 (fun _ _ => rfl) ?_
                  refine q_Ru_rsT (g2 := (19, [(0, .int a), (1, .int 5)], [], (q_cX q_AX q_IX q_J0, 40, 26520))) rfl rfl h193 ?_
                  exact q_Ru_ret rfl rfl
                show q_Ru _ _ _ (5, [(0, .ref 64), (1, .int a), (2, .int v)], [], (q_cX q_AX q_IX q_J0, 40, 26520)) _
                refine q_Ru_seg (g2 := (9, [(0, .ref 64), (1, .int a), (2, .int v)], [.int 4, .int a, .int 0, .int v], (q_cX q_AX q_IX q_J0, 40, 26520))) 4 (fun _ _ => rfl) ?_
                refine q_Ru_rsT (g2 := (18, [(0, .ref 64), (1, .int a), (2, .int v)], [.int 0, .int v], (q_cX q_AX q_IX q_J0, 40, 26520))) rfl rfl (q_d_neF h194) ?_
                refine q_Ru_seg (g2 := (21, [(0, .ref 64), (1, .int a), (2, .int v)], [.int 255, .int 0, .int v], (q_cX q_AX q_IX q_J0, 40, 26520))) 1 (fun _ _ => rfl) ?_
                refine q_Ru_callX (E := "java/lang/IllegalArgumentException") (h2 := (q_cX q_AX q_IX q_J0, 40 + 1, 26520 + 6)) rfl rfl ?_
                refine q_Ca_of (Nat.le_of_ble_eq_true rfl) ?_
                refine q_Ru_seg (g2 := (2, [(0, .int v), (1, .int 0), (2, .int 255)], [.int 0, .int v], (q_cX q_AX q_IX q_J0, 40, 26520))) 2 (fun _ _ => rfl) ?_
                refine q_Ru_rsT (g2 := (10, [(0, .int v), (1, .int 0), (2, .int 255)], [], (q_cX q_AX q_IX q_J0, 40, 26520))) rfl rfl h197 ?_
                exact q_Ru_thr rfl rfl
              show q_Ru _ _ _ (19, [(0, .ref 64), (1, .int a), (2, .int v), (3, .ref 103)], [], (q_cX q_AX q_IX q_J0, 40 + 1, 26520 + 6)) _
              refine q_Ru_seg (g2 := (20, [(0, .ref 64), (1, .int a), (2, .int v), (3, .ref 103)], [.int 2], (q_cX q_AX q_IX q_J0, 40 + 1, 26520 + 6))) 1 (fun _ _ => rfl) ?_
              exact q_Ru_ret rfl rfl
            · refine q_Ca_of (Nat.le_of_ble_eq_true rfl) ?_
              refine q_Ru_seg (g2 := (4, [(0, .ref 64), (1, .int a), (2, .int v)], [.int 4, .int 0, .int a, .ref 64], (q_cM q_AM q_IM q_J0, 34, 31630))) 4 (fun _ _ => rfl) ?_
              refine q_Ru_call (v := (some (.int 1))) (h2 := (q_cM q_AM q_IM q_J0, 34, 31630)) rfl rfl ?_ ?_
              · refine q_Ca_of (Nat.le_of_ble_eq_true rfl) ?_
                refine q_Ru_seg (g2 := (2, [(0, .int a), (1, .int 0), (2, .int 4)], [.int 0, .int a], (q_cM q_AM q_IM q_J0, 34, 31630))) 2 (fun _ _ => rfl) ?_
                refine q_Ru_rsF (g2 := (5, [(0, .int a), (1, .int 0), (2, .int 4)], [], (q_cM q_AM q_IM q_J0, 34, 31630))) rfl rfl h192 ?_
                refine q_Ru_seg (g2 := (7, [(0, .int a), (1, .int 0), (2, .int 4)], [.int 4, .int a], (q_cM q_AM q_IM q_J0, 34, 31630))) 2 (fun _ _ => rfl) ?_
                refine q_Ru_rsF (g2 := (10, [(0, .int a), (1, .int 0), (2, .int 4)], [], (q_cM q_AM q_IM q_J0, 34, 31630))) rfl rfl h198 ?_
                refine q_Ru_seg (g2 := (15, [(0, .int a), (1, .int 0), (2, .int 4)], [.int 1], (q_cM q_AM q_IM q_J0, 34, 31630))) 2 (fun _ _ => rfl) ?_
                exact q_Ru_ret rfl rfl
              show q_Ru _ _ _ (7, [(0, .ref 64), (1, .int a), (2, .int v)], [.int 1, .ref 64], (q_cM q_AM q_IM q_J0, 34, 31630)) _
              refine q_Ru_seg (g2 := (18, [(0, .ref 64), (1, .int a), (2, .int v)], [.int 4, .int a, .int 0, .int v, .ref 64], (q_cM q_AM q_IM q_J0, 34, 31630))) 5 (fun _ _ => rfl) ?_
              refine q_Ru_rsT (g2 := (27, [(0, .ref 64), (1, .int a), (2, .int v)], [.int 0, .int v, .ref 64], (q_cM q_AM q_IM q_J0, 34, 31630))) rfl rfl (q_d_neF h194) ?_
              refine q_Ru_seg (g2 := (30, [(0, .ref 64), (1, .int a), (2, .int v)], [.int 255, .int 0, .int v, .ref 64], (q_cM q_AM q_IM q_J0, 34, 31630))) 1 (fun _ _ => rfl) ?_
              refine q_Ru_call (v := (some (.int 0))) (h2 := (q_cM q_AM q_IM q_J0, 34, 31630)) rfl rfl ?_ ?_
              · refine q_Ca_of (Nat.le_of_ble_eq_true rfl) ?_
                refine q_Ru_seg (g2 := (2, [(0, .int v), (1, .int 0), (2, .int 255)], [.int 0, .int v], (q_cM q_AM q_IM q_J0, 34, 31630))) 2 (fun _ _ => rfl) ?_
                refine q_Ru_rsT (g2 := (14, [(0, .int v), (1, .int 0), (2, .int 255)], [], (q_cM q_AM q_IM q_J0, 34, 31630))) rfl rfl h197 ?_
                refine q_Ru_seg (g2 := (15, [(0, .int v), (1, .int 0), (2, .int 255)], [.int 0], (q_cM q_AM q_IM q_J0, 34, 31630))) 1 (fun _ _ => rfl) ?_
                exact q_Ru_ret rfl rfl
              show q_Ru _ _ _ (33, [(0, .ref 64), (1, .int a), (2, .int v)], [.int 0, .ref 64], (q_cM q_AM q_IM q_J0, 34, 31630)) _
              refine q_Ru_seg (g2 := (55, [(0, .ref 64), (1, .int a), (2, .int v)], [.int 2, .ref 64], (q_cM q_AM q_IM q_J0, 34, 31630))) 3 (fun _ _ => rfl) ?_
              refine q_Ru_call (v := (some (.int 1))) (h2 := (q_cM q_AM (q_uI q_IM 0 39 2) q_J0, 34, 31630)) rfl rfl ?_ ?_
              · refine q_Ca_of (Nat.le_of_ble_eq_true rfl) ?_
                refine q_Ru_seg (g2 := (14, [(0, .ref 64), (1, .int 2)], [.int 1], (q_cM q_AM (q_uI q_IM 0 39 2) q_J0, 34, 31630))) 7 (fun _ _ => rfl) ?_
                exact q_Ru_ret rfl rfl
              show q_Ru _ _ _ (58, [(0, .ref 64), (1, .int a), (2, .int v)], [.int 1], (q_cM q_AM (q_uI q_IM 0 39 2) q_J0, 34, 31630)) _
              refine q_Ru_seg (g2 := (62, [(0, .ref 64), (1, .int a), (2, .int v)], [.int 0], (q_cM q_AM (q_uI q_IM 0 39 2) q_J0, 34, 31630))) 2 (fun _ _ => rfl) ?_
              exact q_Ru_ret rfl rfl
        | false =>
          cases h199 : decide (255 < v) with
          | true =>
            cases h200 : decide (4 < a) with
            | true =>
              exact q_no (q_lo2 h200) (q_hi1 h193) (by decide)
            | false =>
              refine ⟨2, 0, 0, ⟨(q_cX q_AX q_IX q_J0, 40 + 1, 26520 + 6), q_J0 39, ?_, rfl, fun h => absurd h (by decide), Nat.le_of_ble_eq_true rfl, Nat.le_of_ble_eq_true rfl⟩, ⟨(q_cM q_AM (q_uI q_IM 0 39 2) q_J0, 34, 31630), _, ?_, rfl, rfl, Nat.le_of_ble_eq_true rfl, Nat.le_of_ble_eq_true rfl⟩, fun h => absurd h (by decide)⟩
              · refine q_Ca_of (Nat.le_of_ble_eq_true rfl) ?_
                refine q_Ru_seg (g2 := (5, [(0, .ref 64), (1, .int a), (2, .int v), (3, .ref 103)], [.int v, .int a, .ref 64, .int 0, .ref 103], (q_cX q_AX q_IX q_J0, 40, 26520))) 5 (fun _ _ => rfl) ?_
                refine q_Ru_callH (E := "java/lang/IllegalArgumentException") (tg := 19) (i := 4) (h2 := (q_cX q_AX q_IX q_J0, 40 + 1, 26520 + 6)) rfl rfl ?_ rfl ?_
                · refine q_Ca_of (Nat.le_of_ble_eq_true rfl) ?_
                  refine q_Ru_seg (g2 := (2, [(0, .ref 64), (1, .int a), (2, .int v)], [.int 5, .int a], (q_cX q_AX q_IX q_J0, 40, 26520))) 2 (fun _ _ => rfl) ?_
                  refine q_Ru_call (v := none) (h2 := (q_cX q_AX q_IX q_J0, 40, 26520)) rfl rfl ?_ ?_
                  · refine q_Ca_of (Nat.le_of_ble_eq_true rfl) ?_
                    refine q_Ru_seg (g2 := (1, [(0, .int a), (1, .int 5)], [.int a], (q_cX q_AX q_IX q_J0, 40, 26520))) 1 (fun _ _ => rfl) ?_
                    refine q_Ru_rsF (g2 := (4, [(0, .int a), (1, .int 5)], [], (q_cX q_AX q_IX q_J0, 40, 26520))) rfl rfl h192 ?_
                    refine q_Ru_seg (g2 := (6, [(0, .int a), (1, .int 5)], [.int 5, .int a], (q_cX q_AX q_IX q_J0, 40, 26520))) 2 (fun _ _ => rfl) ?_
                    refine q_Ru_rsT (g2 := (19, [(0, .int a), (1, .int 5)], [], (q_cX q_AX q_IX q_J0, 40, 26520))) rfl rfl h193 ?_
                    exact q_Ru_ret rfl rfl
                  show q_Ru _ _ _ (5, [(0, .ref 64), (1, .int a), (2, .int v)], [], (q_cX q_AX q_IX q_J0, 40, 26520)) _
                  refine q_Ru_seg (g2 := (9, [(0, .ref 64), (1, .int a), (2, .int v)], [.int 4, .int a, .int 0, .int v], (q_cX q_AX q_IX q_J0, 40, 26520))) 4 (fun _ _ => rfl) ?_
                  refine q_Ru_rsT (g2 := (18, [(0, .ref 64), (1, .int a), (2, .int v)], [.int 0, .int v], (q_cX q_AX q_IX q_J0, 40, 26520))) rfl rfl (q_d_neF h194) ?_
                  refine q_Ru_seg (g2 := (21, [(0, .ref 64), (1, .int a), (2, .int v)], [.int 255, .int 0, .int v], (q_cX q_AX q_IX q_J0, 40, 26520))) 1 (fun _ _ => rfl) ?_
                  refine q_Ru_callX (E := "java/lang/IllegalArgumentException") (h2 := (q_cX q_AX q_IX q_J0, 40 + 1, 26520 + 6)) rfl rfl ?_
                  refine q_Ca_of (Nat.le_of_ble_eq_true rfl) ?_
                  refine q_Ru_seg (g2 := (2, [(0, .int v), (1, .int 0), (2, .int 255)], [.int 0, .int v], (q_cX q_AX q_IX q_J0, 40, 26520))) 2 (fun _ _ => rfl) ?_
                  refine q_Ru_rsF (g2 := (5, [(0, .int v), (1, .int 0), (2, .int 255)], [], (q_cX q_AX q_IX q_J0, 40, 26520))) rfl rfl h197 ?_
                  refine q_Ru_seg (g2 := (7, [(0, .int v), (1, .int 0), (2, .int 255)], [.int 255, .int v], (q_cX q_AX q_IX q_J0, 40, 26520))) 2 (fun _ _ => rfl) ?_
                  refine q_Ru_rsF (g2 := (10, [(0, .int v), (1, .int 0), (2, .int 255)], [], (q_cX q_AX q_IX q_J0, 40, 26520))) rfl rfl (q_d_geT h199) ?_
                  exact q_Ru_thr rfl rfl
                show q_Ru _ _ _ (19, [(0, .ref 64), (1, .int a), (2, .int v), (3, .ref 103)], [], (q_cX q_AX q_IX q_J0, 40 + 1, 26520 + 6)) _
                refine q_Ru_seg (g2 := (20, [(0, .ref 64), (1, .int a), (2, .int v), (3, .ref 103)], [.int 2], (q_cX q_AX q_IX q_J0, 40 + 1, 26520 + 6))) 1 (fun _ _ => rfl) ?_
                exact q_Ru_ret rfl rfl
              · refine q_Ca_of (Nat.le_of_ble_eq_true rfl) ?_
                refine q_Ru_seg (g2 := (4, [(0, .ref 64), (1, .int a), (2, .int v)], [.int 4, .int 0, .int a, .ref 64], (q_cM q_AM q_IM q_J0, 34, 31630))) 4 (fun _ _ => rfl) ?_
                refine q_Ru_call (v := (some (.int 1))) (h2 := (q_cM q_AM q_IM q_J0, 34, 31630)) rfl rfl ?_ ?_
                · refine q_Ca_of (Nat.le_of_ble_eq_true rfl) ?_
                  refine q_Ru_seg (g2 := (2, [(0, .int a), (1, .int 0), (2, .int 4)], [.int 0, .int a], (q_cM q_AM q_IM q_J0, 34, 31630))) 2 (fun _ _ => rfl) ?_
                  refine q_Ru_rsF (g2 := (5, [(0, .int a), (1, .int 0), (2, .int 4)], [], (q_cM q_AM q_IM q_J0, 34, 31630))) rfl rfl h192 ?_
                  refine q_Ru_seg (g2 := (7, [(0, .int a), (1, .int 0), (2, .int 4)], [.int 4, .int a], (q_cM q_AM q_IM q_J0, 34, 31630))) 2 (fun _ _ => rfl) ?_
                  refine q_Ru_rsF (g2 := (10, [(0, .int a), (1, .int 0), (2, .int 4)], [], (q_cM q_AM q_IM q_J0, 34, 31630))) rfl rfl h200 ?_
                  refine q_Ru_seg (g2 := (15, [(0, .int a), (1, .int 0), (2, .int 4)], [.int 1], (q_cM q_AM q_IM q_J0, 34, 31630))) 2 (fun _ _ => rfl) ?_
                  exact q_Ru_ret rfl rfl
                show q_Ru _ _ _ (7, [(0, .ref 64), (1, .int a), (2, .int v)], [.int 1, .ref 64], (q_cM q_AM q_IM q_J0, 34, 31630)) _
                refine q_Ru_seg (g2 := (18, [(0, .ref 64), (1, .int a), (2, .int v)], [.int 4, .int a, .int 0, .int v, .ref 64], (q_cM q_AM q_IM q_J0, 34, 31630))) 5 (fun _ _ => rfl) ?_
                refine q_Ru_rsT (g2 := (27, [(0, .ref 64), (1, .int a), (2, .int v)], [.int 0, .int v, .ref 64], (q_cM q_AM q_IM q_J0, 34, 31630))) rfl rfl (q_d_neF h194) ?_
                refine q_Ru_seg (g2 := (30, [(0, .ref 64), (1, .int a), (2, .int v)], [.int 255, .int 0, .int v, .ref 64], (q_cM q_AM q_IM q_J0, 34, 31630))) 1 (fun _ _ => rfl) ?_
                refine q_Ru_call (v := (some (.int 0))) (h2 := (q_cM q_AM q_IM q_J0, 34, 31630)) rfl rfl ?_ ?_
                · refine q_Ca_of (Nat.le_of_ble_eq_true rfl) ?_
                  refine q_Ru_seg (g2 := (2, [(0, .int v), (1, .int 0), (2, .int 255)], [.int 0, .int v], (q_cM q_AM q_IM q_J0, 34, 31630))) 2 (fun _ _ => rfl) ?_
                  refine q_Ru_rsF (g2 := (5, [(0, .int v), (1, .int 0), (2, .int 255)], [], (q_cM q_AM q_IM q_J0, 34, 31630))) rfl rfl h197 ?_
                  refine q_Ru_seg (g2 := (7, [(0, .int v), (1, .int 0), (2, .int 255)], [.int 255, .int v], (q_cM q_AM q_IM q_J0, 34, 31630))) 2 (fun _ _ => rfl) ?_
                  refine q_Ru_rsT (g2 := (14, [(0, .int v), (1, .int 0), (2, .int 255)], [], (q_cM q_AM q_IM q_J0, 34, 31630))) rfl rfl h199 ?_
                  refine q_Ru_seg (g2 := (15, [(0, .int v), (1, .int 0), (2, .int 255)], [.int 0], (q_cM q_AM q_IM q_J0, 34, 31630))) 1 (fun _ _ => rfl) ?_
                  exact q_Ru_ret rfl rfl
                show q_Ru _ _ _ (33, [(0, .ref 64), (1, .int a), (2, .int v)], [.int 0, .ref 64], (q_cM q_AM q_IM q_J0, 34, 31630)) _
                refine q_Ru_seg (g2 := (55, [(0, .ref 64), (1, .int a), (2, .int v)], [.int 2, .ref 64], (q_cM q_AM q_IM q_J0, 34, 31630))) 3 (fun _ _ => rfl) ?_
                refine q_Ru_call (v := (some (.int 1))) (h2 := (q_cM q_AM (q_uI q_IM 0 39 2) q_J0, 34, 31630)) rfl rfl ?_ ?_
                · refine q_Ca_of (Nat.le_of_ble_eq_true rfl) ?_
                  refine q_Ru_seg (g2 := (14, [(0, .ref 64), (1, .int 2)], [.int 1], (q_cM q_AM (q_uI q_IM 0 39 2) q_J0, 34, 31630))) 7 (fun _ _ => rfl) ?_
                  exact q_Ru_ret rfl rfl
                show q_Ru _ _ _ (58, [(0, .ref 64), (1, .int a), (2, .int v)], [.int 1], (q_cM q_AM (q_uI q_IM 0 39 2) q_J0, 34, 31630)) _
                refine q_Ru_seg (g2 := (62, [(0, .ref 64), (1, .int a), (2, .int v)], [.int 0], (q_cM q_AM (q_uI q_IM 0 39 2) q_J0, 34, 31630))) 2 (fun _ _ => rfl) ?_
                exact q_Ru_ret rfl rfl
          | false =>
            obtain ⟨j201, g201, e201⟩ := q_en (l := 0) (n := 4) (q_lo1 h192) (q_hi1 h193)
            match j201, g201, e201 with
            | 0, _, e201 =>
              have e201 : a = 0 := e201
              subst e201
              refine ⟨0, 0, 0, ⟨(q_cX q_AX (q_uI q_IX 24 0 v) (q_uA q_J0 39 (vp_updL (fun _ => 0) 0 0)), 40, 26520), (q_uA q_J0 39 (vp_updL (fun _ => 0) 0 0)) 39, ?_, rfl, fun _ => rfl, Nat.le_of_ble_eq_true rfl, Nat.le_of_ble_eq_true rfl⟩, ⟨(q_cM (q_uA q_AM 14 (upd (upd (fun _ => 0) 3 255) 0 v)) (q_uI q_IM 0 39 0) q_J0, 34, 31630), _, ?_, rfl, rfl, Nat.le_of_ble_eq_true rfl, Nat.le_of_ble_eq_true rfl⟩, fun _ => rfl⟩
              · refine q_Ca_of (Nat.le_of_ble_eq_true rfl) ?_
                refine q_Ru_seg (g2 := (5, [(0, .ref 64), (1, .int 0), (2, .int v), (3, .ref 103)], [.int v, .int 0, .ref 64, .int 0, .ref 103], (q_cX q_AX q_IX q_J0, 40, 26520))) 5 (fun _ _ => rfl) ?_
                refine q_Ru_call (v := (some (.int 0))) (h2 := (q_cX q_AX (q_uI q_IX 24 0 v) q_J0, 40, 26520)) rfl rfl ?_ ?_
                · refine q_Ca_of (Nat.le_of_ble_eq_true rfl) ?_
                  refine q_Ru_seg (g2 := (2, [(0, .ref 64), (1, .int 0), (2, .int v)], [.int 5, .int 0], (q_cX q_AX q_IX q_J0, 40, 26520))) 2 (fun _ _ => rfl) ?_
                  refine q_Ru_call (v := none) (h2 := (q_cX q_AX q_IX q_J0, 40, 26520)) rfl rfl ?_ ?_
                  · refine q_Ca_of (Nat.le_of_ble_eq_true rfl) ?_
                    refine q_Ru_seg (g2 := (19, [(0, .int 0), (1, .int 5)], [], (q_cX q_AX q_IX q_J0, 40, 26520))) 5 (fun _ _ => rfl) ?_
                    exact q_Ru_ret rfl rfl
                  show q_Ru _ _ _ (5, [(0, .ref 64), (1, .int 0), (2, .int v)], [], (q_cX q_AX q_IX q_J0, 40, 26520)) _
                  refine q_Ru_seg (g2 := (21, [(0, .ref 64), (1, .int 0), (2, .int v)], [.int 255, .int 0, .int v], (q_cX q_AX q_IX q_J0, 40, 26520))) 6 (fun _ _ => rfl) ?_
                  refine q_Ru_call (v := none) (h2 := (q_cX q_AX q_IX q_J0, 40, 26520)) rfl rfl ?_ ?_
                  · refine q_Ca_of (Nat.le_of_ble_eq_true rfl) ?_
                    refine q_Ru_seg (g2 := (2, [(0, .int v), (1, .int 0), (2, .int 255)], [.int 0, .int v], (q_cX q_AX q_IX q_J0, 40, 26520))) 2 (fun _ _ => rfl) ?_
                    refine q_Ru_rsF (g2 := (5, [(0, .int v), (1, .int 0), (2, .int 255)], [], (q_cX q_AX q_IX q_J0, 40, 26520))) rfl rfl h197 ?_
                    refine q_Ru_seg (g2 := (7, [(0, .int v), (1, .int 0), (2, .int 255)], [.int 255, .int v], (q_cX q_AX q_IX q_J0, 40, 26520))) 2 (fun _ _ => rfl) ?_
                    refine q_Ru_rsT (g2 := (20, [(0, .int v), (1, .int 0), (2, .int 255)], [], (q_cX q_AX q_IX q_J0, 40, 26520))) rfl rfl (q_d_geF h199) ?_
                    exact q_Ru_ret rfl rfl
                  show q_Ru _ _ _ (24, [(0, .ref 64), (1, .int 0), (2, .int v)], [], (q_cX q_AX q_IX q_J0, 40, 26520)) _
                  refine q_Ru_seg (g2 := (52, [(0, .ref 64), (1, .int 0), (2, .int v)], [.int 0, .int v, .int 0, .int 4, .ref 64], (q_cX q_AX q_IX q_J0, 40, 26520))) 10 (fun _ _ => rfl) ?_
                  refine q_Ru_call (v := none) (h2 := (q_cX q_AX q_IX q_J0, 40, 26520)) rfl rfl ?_ ?_
                  · refine q_Ca_of (Nat.le_of_ble_eq_true rfl) ?_
                    refine q_Ru_seg (g2 := (19, [(0, .ref 64), (1, .int 4), (2, .int 0), (3, .int v), (4, .int 0)], [], (q_cX q_AX q_IX q_J0, 40, 26520))) 3 (fun _ _ => rfl) ?_
                    exact q_Ru_ret rfl rfl
                  show q_Ru _ _ _ (55, [(0, .ref 64), (1, .int 0), (2, .int v)], [], (q_cX q_AX q_IX q_J0, 40, 26520)) _
                  refine q_Ru_seg (g2 := (63, [(0, .ref 64), (1, .int 0), (2, .int v)], [.int 0, .int v, .int 0, .int 4, .ref 65], (q_cX q_AX q_IX q_J0, 40, 26520))) 6 (fun _ _ => rfl) ?_
                  refine q_Ru_call (v := (some (.int 0))) (h2 := (q_cX q_AX (q_uI q_IX 24 0 v) q_J0, 40, 26520)) rfl rfl ?_ ?_
                  · refine q_Ca_of (Nat.le_of_ble_eq_true rfl) ?_
                    refine q_Ru_seg (g2 := (123, [(0, .ref 65), (1, .int 4), (2, .int 0), (3, .int v), (4, .int 0)], [.int v, .int 0, .ref 88], (q_cX q_AX q_IX q_J0, 40, 26520))) 6 (fun _ _ => rfl) ?_
                    refine q_Ru_call (v := (some (.int 0))) (h2 := (q_cX q_AX (q_uI q_IX 24 0 v) q_J0, 40, 26520)) rfl rfl ?_ ?_
                    · refine q_Ca_of (Nat.le_of_ble_eq_true rfl) ?_
                      refine q_Ru_seg (g2 := (2, [(0, .ref 88), (1, .int 0), (2, .int v)], [.int 0, .ref 88], (q_cX q_AX q_IX q_J0, 40, 26520))) 2 (fun _ _ => rfl) ?_
                      refine q_Ru_call (v := (some (.int 0))) (h2 := (q_cX q_AX q_IX q_J0, 40, 26520)) rfl rfl ?_ ?_
                      · refine q_Ca_of (Nat.le_of_ble_eq_true rfl) ?_
                        refine q_Ru_seg (g2 := (36, [(0, .ref 88), (1, .int 0)], [.int 0], (q_cX q_AX q_IX q_J0, 40, 26520))) 4 (fun _ _ => rfl) ?_
                        exact q_Ru_ret rfl rfl
                      show q_Ru _ _ _ (5, [(0, .ref 88), (1, .int 0), (2, .int v)], [.int 0], (q_cX q_AX q_IX q_J0, 40, 26520)) _
                      refine q_Ru_seg (g2 := (74, [(3, .int 0), (0, .ref 88), (1, .int 0), (2, .int v)], [.int 0], (q_cX q_AX (q_uI q_IX 24 0 v) q_J0, 40, 26520))) 8 (fun _ _ => rfl) ?_
                      exact q_Ru_ret rfl rfl
                    show q_Ru _ _ _ (126, [(0, .ref 65), (1, .int 4), (2, .int 0), (3, .int v), (4, .int 0)], [.int 0], (q_cX q_AX (q_uI q_IX 24 0 v) q_J0, 40, 26520)) _
                    exact q_Ru_ret rfl rfl
                  show q_Ru _ _ _ (66, [(0, .ref 64), (1, .int 0), (2, .int v)], [.int 0], (q_cX q_AX (q_uI q_IX 24 0 v) q_J0, 40, 26520)) _
                  exact q_Ru_ret rfl rfl
                show q_Ru _ _ _ (8, [(0, .ref 64), (1, .int 0), (2, .int v), (3, .ref 103)], [.int 0, .int 0, .ref 103], (q_cX q_AX (q_uI q_IX 24 0 v) q_J0, 40, 26520)) _
                refine q_Ru_seg (g2 := (26, [(0, .ref 64), (1, .int 0), (2, .int v), (3, .ref 103)], [.int 0], (q_cX q_AX (q_uI q_IX 24 0 v) (q_uA q_J0 39 (vp_updL (fun _ => 0) 0 0)), 40, 26520))) 4 (fun _ _ => rfl) ?_
                exact q_Ru_ret rfl rfl
              · refine q_Ca_of (Nat.le_of_ble_eq_true rfl) ?_
                refine q_Ru_seg (g2 := (4, [(0, .ref 64), (1, .int 0), (2, .int v)], [.int 4, .int 0, .int 0, .ref 64], (q_cM q_AM q_IM q_J0, 34, 31630))) 4 (fun _ _ => rfl) ?_
                refine q_Ru_call (v := (some (.int 1))) (h2 := (q_cM q_AM q_IM q_J0, 34, 31630)) rfl rfl ?_ ?_
                · refine q_Ca_of (Nat.le_of_ble_eq_true rfl) ?_
                  refine q_Ru_seg (g2 := (15, [(0, .int 0), (1, .int 0), (2, .int 4)], [.int 1], (q_cM q_AM q_IM q_J0, 34, 31630))) 8 (fun _ _ => rfl) ?_
                  exact q_Ru_ret rfl rfl
                show q_Ru _ _ _ (7, [(0, .ref 64), (1, .int 0), (2, .int v)], [.int 1, .ref 64], (q_cM q_AM q_IM q_J0, 34, 31630)) _
                refine q_Ru_seg (g2 := (30, [(0, .ref 64), (1, .int 0), (2, .int v)], [.int 255, .int 0, .int v, .ref 64], (q_cM q_AM q_IM q_J0, 34, 31630))) 7 (fun _ _ => rfl) ?_
                refine q_Ru_call (v := (some (.int 1))) (h2 := (q_cM q_AM q_IM q_J0, 34, 31630)) rfl rfl ?_ ?_
                · refine q_Ca_of (Nat.le_of_ble_eq_true rfl) ?_
                  refine q_Ru_seg (g2 := (2, [(0, .int v), (1, .int 0), (2, .int 255)], [.int 0, .int v], (q_cM q_AM q_IM q_J0, 34, 31630))) 2 (fun _ _ => rfl) ?_
                  refine q_Ru_rsF (g2 := (5, [(0, .int v), (1, .int 0), (2, .int 255)], [], (q_cM q_AM q_IM q_J0, 34, 31630))) rfl rfl h197 ?_
                  refine q_Ru_seg (g2 := (7, [(0, .int v), (1, .int 0), (2, .int 255)], [.int 255, .int v], (q_cM q_AM q_IM q_J0, 34, 31630))) 2 (fun _ _ => rfl) ?_
                  refine q_Ru_rsF (g2 := (10, [(0, .int v), (1, .int 0), (2, .int 255)], [], (q_cM q_AM q_IM q_J0, 34, 31630))) rfl rfl h199 ?_
                  refine q_Ru_seg (g2 := (15, [(0, .int v), (1, .int 0), (2, .int 255)], [.int 1], (q_cM q_AM q_IM q_J0, 34, 31630))) 2 (fun _ _ => rfl) ?_
                  exact q_Ru_ret rfl rfl
                show q_Ru _ _ _ (33, [(0, .ref 64), (1, .int 0), (2, .int v)], [.int 1, .ref 64], (q_cM q_AM q_IM q_J0, 34, 31630)) _
                refine q_Ru_seg (g2 := (55, [(0, .ref 64), (1, .int 0), (2, .int v)], [.int 0, .ref 64], (q_cM q_AM q_IM q_J0, 34, 31630))) 7 (fun _ _ => rfl) ?_
                refine q_Ru_call (v := (some (.int 0))) (h2 := (q_cM q_AM (q_uI q_IM 0 39 0) q_J0, 34, 31630)) rfl rfl ?_ ?_
                · refine q_Ca_of (Nat.le_of_ble_eq_true rfl) ?_
                  refine q_Ru_seg (g2 := (14, [(0, .ref 64), (1, .int 0)], [.int 0], (q_cM q_AM (q_uI q_IM 0 39 0) q_J0, 34, 31630))) 6 (fun _ _ => rfl) ?_
                  exact q_Ru_ret rfl rfl
                show q_Ru _ _ _ (58, [(0, .ref 64), (1, .int 0), (2, .int v)], [.int 0], (q_cM q_AM (q_uI q_IM 0 39 0) q_J0, 34, 31630)) _
                refine q_Ru_seg (g2 := (78, [(3, .int 0), (0, .ref 64), (1, .int 0), (2, .int v)], [.ref 64], (q_cM (q_uA q_AM 14 (upd (upd (fun _ => 0) 3 255) 0 v)) (q_uI q_IM 0 39 0) q_J0, 34, 31630))) 12 (fun _ _ => rfl) ?_
                refine q_Ru_call (v := none) (h2 := (q_cM (q_uA q_AM 14 (upd (upd (fun _ => 0) 3 255) 0 v)) (q_uI q_IM 0 39 0) q_J0, 34, 31630)) rfl rfl ?_ ?_
                · refine q_Ca_of (Nat.le_of_ble_eq_true rfl) ?_
                  refine q_Ru_seg (g2 := (17, [(0, .ref 64)], [], (q_cM (q_uA q_AM 14 (upd (upd (fun _ => 0) 3 255) 0 v)) (q_uI q_IM 0 39 0) q_J0, 34, 31630))) 3 (fun _ _ => rfl) ?_
                  exact q_Ru_ret rfl rfl
                show q_Ru _ _ _ (81, [(3, .int 0), (0, .ref 64), (1, .int 0), (2, .int v)], [], (q_cM (q_uA q_AM 14 (upd (upd (fun _ => 0) 3 255) 0 v)) (q_uI q_IM 0 39 0) q_J0, 34, 31630)) _
                refine q_Ru_seg (g2 := (82, [(3, .int 0), (0, .ref 64), (1, .int 0), (2, .int v)], [.int 0], (q_cM (q_uA q_AM 14 (upd (upd (fun _ => 0) 3 255) 0 v)) (q_uI q_IM 0 39 0) q_J0, 34, 31630))) 1 (fun _ _ => rfl) ?_
                exact q_Ru_ret rfl rfl
            | 1, _, e201 =>
              have e201 : a = 1 := e201
              subst e201
              refine ⟨0, 0, 0, ⟨(q_cX q_AX (q_uI q_IX 24 1 v) (q_uA q_J0 39 (vp_updL (fun _ => 0) 0 0)), 40, 26520), (q_uA q_J0 39 (vp_updL (fun _ => 0) 0 0)) 39, ?_, rfl, fun _ => rfl, Nat.le_of_ble_eq_true rfl, Nat.le_of_ble_eq_true rfl⟩, ⟨(q_cM (q_uA q_AM 14 (upd (upd (fun _ => 0) 3 255) 1 v)) (q_uI q_IM 0 39 0) q_J0, 34, 31630), _, ?_, rfl, rfl, Nat.le_of_ble_eq_true rfl, Nat.le_of_ble_eq_true rfl⟩, fun _ => rfl⟩
              · refine q_Ca_of (Nat.le_of_ble_eq_true rfl) ?_
                refine q_Ru_seg (g2 := (5, [(0, .ref 64), (1, .int 1), (2, .int v), (3, .ref 103)], [.int v, .int 1, .ref 64, .int 0, .ref 103], (q_cX q_AX q_IX q_J0, 40, 26520))) 5 (fun _ _ => rfl) ?_
                refine q_Ru_call (v := (some (.int 0))) (h2 := (q_cX q_AX (q_uI q_IX 24 1 v) q_J0, 40, 26520)) rfl rfl ?_ ?_
                · refine q_Ca_of (Nat.le_of_ble_eq_true rfl) ?_
                  refine q_Ru_seg (g2 := (2, [(0, .ref 64), (1, .int 1), (2, .int v)], [.int 5, .int 1], (q_cX q_AX q_IX q_J0, 40, 26520))) 2 (fun _ _ => rfl) ?_
                  refine q_Ru_call (v := none) (h2 := (q_cX q_AX q_IX q_J0, 40, 26520)) rfl rfl ?_ ?_
                  · refine q_Ca_of (Nat.le_of_ble_eq_true rfl) ?_
                    refine q_Ru_seg (g2 := (19, [(0, .int 1), (1, .int 5)], [], (q_cX q_AX q_IX q_J0, 40, 26520))) 5 (fun _ _ => rfl) ?_
                    exact q_Ru_ret rfl rfl
                  show q_Ru _ _ _ (5, [(0, .ref 64), (1, .int 1), (2, .int v)], [], (q_cX q_AX q_IX q_J0, 40, 26520)) _
                  refine q_Ru_seg (g2 := (21, [(0, .ref 64), (1, .int 1), (2, .int v)], [.int 255, .int 0, .int v], (q_cX q_AX q_IX q_J0, 40, 26520))) 6 (fun _ _ => rfl) ?_
                  refine q_Ru_call (v := none) (h2 := (q_cX q_AX q_IX q_J0, 40, 26520)) rfl rfl ?_ ?_
                  · refine q_Ca_of (Nat.le_of_ble_eq_true rfl) ?_
                    refine q_Ru_seg (g2 := (2, [(0, .int v), (1, .int 0), (2, .int 255)], [.int 0, .int v], (q_cX q_AX q_IX q_J0, 40, 26520))) 2 (fun _ _ => rfl) ?_
                    refine q_Ru_rsF (g2 := (5, [(0, .int v), (1, .int 0), (2, .int 255)], [], (q_cX q_AX q_IX q_J0, 40, 26520))) rfl rfl h197 ?_
                    refine q_Ru_seg (g2 := (7, [(0, .int v), (1, .int 0), (2, .int 255)], [.int 255, .int v], (q_cX q_AX q_IX q_J0, 40, 26520))) 2 (fun _ _ => rfl) ?_
                    refine q_Ru_rsT (g2 := (20, [(0, .int v), (1, .int 0), (2, .int 255)], [], (q_cX q_AX q_IX q_J0, 40, 26520))) rfl rfl (q_d_geF h199) ?_
                    exact q_Ru_ret rfl rfl
                  show q_Ru _ _ _ (24, [(0, .ref 64), (1, .int 1), (2, .int v)], [], (q_cX q_AX q_IX q_J0, 40, 26520)) _
                  refine q_Ru_seg (g2 := (52, [(0, .ref 64), (1, .int 1), (2, .int v)], [.int 0, .int v, .int 1, .int 4, .ref 64], (q_cX q_AX q_IX q_J0, 40, 26520))) 10 (fun _ _ => rfl) ?_
                  refine q_Ru_call (v := none) (h2 := (q_cX q_AX q_IX q_J0, 40, 26520)) rfl rfl ?_ ?_
                  · refine q_Ca_of (Nat.le_of_ble_eq_true rfl) ?_
                    refine q_Ru_seg (g2 := (19, [(0, .ref 64), (1, .int 4), (2, .int 1), (3, .int v), (4, .int 0)], [], (q_cX q_AX q_IX q_J0, 40, 26520))) 3 (fun _ _ => rfl) ?_
                    exact q_Ru_ret rfl rfl
                  show q_Ru _ _ _ (55, [(0, .ref 64), (1, .int 1), (2, .int v)], [], (q_cX q_AX q_IX q_J0, 40, 26520)) _
                  refine q_Ru_seg (g2 := (63, [(0, .ref 64), (1, .int 1), (2, .int v)], [.int 0, .int v, .int 1, .int 4, .ref 65], (q_cX q_AX q_IX q_J0, 40, 26520))) 6 (fun _ _ => rfl) ?_
                  refine q_Ru_call (v := (some (.int 0))) (h2 := (q_cX q_AX (q_uI q_IX 24 1 v) q_J0, 40, 26520)) rfl rfl ?_ ?_
                  · refine q_Ca_of (Nat.le_of_ble_eq_true rfl) ?_
                    refine q_Ru_seg (g2 := (123, [(0, .ref 65), (1, .int 4), (2, .int 1), (3, .int v), (4, .int 0)], [.int v, .int 1, .ref 88], (q_cX q_AX q_IX q_J0, 40, 26520))) 6 (fun _ _ => rfl) ?_
                    refine q_Ru_call (v := (some (.int 0))) (h2 := (q_cX q_AX (q_uI q_IX 24 1 v) q_J0, 40, 26520)) rfl rfl ?_ ?_
                    · refine q_Ca_of (Nat.le_of_ble_eq_true rfl) ?_
                      refine q_Ru_seg (g2 := (2, [(0, .ref 88), (1, .int 1), (2, .int v)], [.int 1, .ref 88], (q_cX q_AX q_IX q_J0, 40, 26520))) 2 (fun _ _ => rfl) ?_
                      refine q_Ru_call (v := (some (.int 0))) (h2 := (q_cX q_AX q_IX q_J0, 40, 26520)) rfl rfl ?_ ?_
                      · refine q_Ca_of (Nat.le_of_ble_eq_true rfl) ?_
                        refine q_Ru_seg (g2 := (41, [(0, .ref 88), (1, .int 1)], [.int 0], (q_cX q_AX q_IX q_J0, 40, 26520))) 4 (fun _ _ => rfl) ?_
                        exact q_Ru_ret rfl rfl
                      show q_Ru _ _ _ (5, [(0, .ref 88), (1, .int 1), (2, .int v)], [.int 0], (q_cX q_AX q_IX q_J0, 40, 26520)) _
                      refine q_Ru_seg (g2 := (74, [(3, .int 0), (0, .ref 88), (1, .int 1), (2, .int v)], [.int 0], (q_cX q_AX (q_uI q_IX 24 1 v) q_J0, 40, 26520))) 8 (fun _ _ => rfl) ?_
                      exact q_Ru_ret rfl rfl
                    show q_Ru _ _ _ (126, [(0, .ref 65), (1, .int 4), (2, .int 1), (3, .int v), (4, .int 0)], [.int 0], (q_cX q_AX (q_uI q_IX 24 1 v) q_J0, 40, 26520)) _
                    exact q_Ru_ret rfl rfl
                  show q_Ru _ _ _ (66, [(0, .ref 64), (1, .int 1), (2, .int v)], [.int 0], (q_cX q_AX (q_uI q_IX 24 1 v) q_J0, 40, 26520)) _
                  exact q_Ru_ret rfl rfl
                show q_Ru _ _ _ (8, [(0, .ref 64), (1, .int 1), (2, .int v), (3, .ref 103)], [.int 0, .int 0, .ref 103], (q_cX q_AX (q_uI q_IX 24 1 v) q_J0, 40, 26520)) _
                refine q_Ru_seg (g2 := (26, [(0, .ref 64), (1, .int 1), (2, .int v), (3, .ref 103)], [.int 0], (q_cX q_AX (q_uI q_IX 24 1 v) (q_uA q_J0 39 (vp_updL (fun _ => 0) 0 0)), 40, 26520))) 4 (fun _ _ => rfl) ?_
                exact q_Ru_ret rfl rfl
              · refine q_Ca_of (Nat.le_of_ble_eq_true rfl) ?_
                refine q_Ru_seg (g2 := (4, [(0, .ref 64), (1, .int 1), (2, .int v)], [.int 4, .int 0, .int 1, .ref 64], (q_cM q_AM q_IM q_J0, 34, 31630))) 4 (fun _ _ => rfl) ?_
                refine q_Ru_call (v := (some (.int 1))) (h2 := (q_cM q_AM q_IM q_J0, 34, 31630)) rfl rfl ?_ ?_
                · refine q_Ca_of (Nat.le_of_ble_eq_true rfl) ?_
                  refine q_Ru_seg (g2 := (15, [(0, .int 1), (1, .int 0), (2, .int 4)], [.int 1], (q_cM q_AM q_IM q_J0, 34, 31630))) 8 (fun _ _ => rfl) ?_
                  exact q_Ru_ret rfl rfl
                show q_Ru _ _ _ (7, [(0, .ref 64), (1, .int 1), (2, .int v)], [.int 1, .ref 64], (q_cM q_AM q_IM q_J0, 34, 31630)) _
                refine q_Ru_seg (g2 := (30, [(0, .ref 64), (1, .int 1), (2, .int v)], [.int 255, .int 0, .int v, .ref 64], (q_cM q_AM q_IM q_J0, 34, 31630))) 7 (fun _ _ => rfl) ?_
                refine q_Ru_call (v := (some (.int 1))) (h2 := (q_cM q_AM q_IM q_J0, 34, 31630)) rfl rfl ?_ ?_
                · refine q_Ca_of (Nat.le_of_ble_eq_true rfl) ?_
                  refine q_Ru_seg (g2 := (2, [(0, .int v), (1, .int 0), (2, .int 255)], [.int 0, .int v], (q_cM q_AM q_IM q_J0, 34, 31630))) 2 (fun _ _ => rfl) ?_
                  refine q_Ru_rsF (g2 := (5, [(0, .int v), (1, .int 0), (2, .int 255)], [], (q_cM q_AM q_IM q_J0, 34, 31630))) rfl rfl h197 ?_
                  refine q_Ru_seg (g2 := (7, [(0, .int v), (1, .int 0), (2, .int 255)], [.int 255, .int v], (q_cM q_AM q_IM q_J0, 34, 31630))) 2 (fun _ _ => rfl) ?_
                  refine q_Ru_rsF (g2 := (10, [(0, .int v), (1, .int 0), (2, .int 255)], [], (q_cM q_AM q_IM q_J0, 34, 31630))) rfl rfl h199 ?_
                  refine q_Ru_seg (g2 := (15, [(0, .int v), (1, .int 0), (2, .int 255)], [.int 1], (q_cM q_AM q_IM q_J0, 34, 31630))) 2 (fun _ _ => rfl) ?_
                  exact q_Ru_ret rfl rfl
                show q_Ru _ _ _ (33, [(0, .ref 64), (1, .int 1), (2, .int v)], [.int 1, .ref 64], (q_cM q_AM q_IM q_J0, 34, 31630)) _
                refine q_Ru_seg (g2 := (55, [(0, .ref 64), (1, .int 1), (2, .int v)], [.int 0, .ref 64], (q_cM q_AM q_IM q_J0, 34, 31630))) 7 (fun _ _ => rfl) ?_
                refine q_Ru_call (v := (some (.int 0))) (h2 := (q_cM q_AM (q_uI q_IM 0 39 0) q_J0, 34, 31630)) rfl rfl ?_ ?_
                · refine q_Ca_of (Nat.le_of_ble_eq_true rfl) ?_
                  refine q_Ru_seg (g2 := (14, [(0, .ref 64), (1, .int 0)], [.int 0], (q_cM q_AM (q_uI q_IM 0 39 0) q_J0, 34, 31630))) 6 (fun _ _ => rfl) ?_
                  exact q_Ru_ret rfl rfl
                show q_Ru _ _ _ (58, [(0, .ref 64), (1, .int 1), (2, .int v)], [.int 0], (q_cM q_AM (q_uI q_IM 0 39 0) q_J0, 34, 31630)) _
                refine q_Ru_seg (g2 := (78, [(3, .int 0), (0, .ref 64), (1, .int 1), (2, .int v)], [.ref 64], (q_cM (q_uA q_AM 14 (upd (upd (fun _ => 0) 3 255) 1 v)) (q_uI q_IM 0 39 0) q_J0, 34, 31630))) 12 (fun _ _ => rfl) ?_
                refine q_Ru_call (v := none) (h2 := (q_cM (q_uA q_AM 14 (upd (upd (fun _ => 0) 3 255) 1 v)) (q_uI q_IM 0 39 0) q_J0, 34, 31630)) rfl rfl ?_ ?_
                · refine q_Ca_of (Nat.le_of_ble_eq_true rfl) ?_
                  refine q_Ru_seg (g2 := (17, [(0, .ref 64)], [], (q_cM (q_uA q_AM 14 (upd (upd (fun _ => 0) 3 255) 1 v)) (q_uI q_IM 0 39 0) q_J0, 34, 31630))) 3 (fun _ _ => rfl) ?_
                  exact q_Ru_ret rfl rfl
                show q_Ru _ _ _ (81, [(3, .int 0), (0, .ref 64), (1, .int 1), (2, .int v)], [], (q_cM (q_uA q_AM 14 (upd (upd (fun _ => 0) 3 255) 1 v)) (q_uI q_IM 0 39 0) q_J0, 34, 31630)) _
                refine q_Ru_seg (g2 := (82, [(3, .int 0), (0, .ref 64), (1, .int 1), (2, .int v)], [.int 0], (q_cM (q_uA q_AM 14 (upd (upd (fun _ => 0) 3 255) 1 v)) (q_uI q_IM 0 39 0) q_J0, 34, 31630))) 1 (fun _ _ => rfl) ?_
                exact q_Ru_ret rfl rfl
            | 2, _, e201 =>
              have e201 : a = 2 := e201
              subst e201
              refine ⟨0, 0, 0, ⟨(q_cX q_AX (q_uI q_IX 24 2 v) (q_uA q_J0 39 (vp_updL (fun _ => 0) 0 0)), 40, 26520), (q_uA q_J0 39 (vp_updL (fun _ => 0) 0 0)) 39, ?_, rfl, fun _ => rfl, Nat.le_of_ble_eq_true rfl, Nat.le_of_ble_eq_true rfl⟩, ⟨(q_cM (q_uA q_AM 14 (upd (upd (fun _ => 0) 3 255) 2 v)) (q_uI q_IM 0 39 0) q_J0, 34, 31630), _, ?_, rfl, rfl, Nat.le_of_ble_eq_true rfl, Nat.le_of_ble_eq_true rfl⟩, fun _ => rfl⟩
              · refine q_Ca_of (Nat.le_of_ble_eq_true rfl) ?_
                refine q_Ru_seg (g2 := (5, [(0, .ref 64), (1, .int 2), (2, .int v), (3, .ref 103)], [.int v, .int 2, .ref 64, .int 0, .ref 103], (q_cX q_AX q_IX q_J0, 40, 26520))) 5 (fun _ _ => rfl) ?_
                refine q_Ru_call (v := (some (.int 0))) (h2 := (q_cX q_AX (q_uI q_IX 24 2 v) q_J0, 40, 26520)) rfl rfl ?_ ?_
                · refine q_Ca_of (Nat.le_of_ble_eq_true rfl) ?_
                  refine q_Ru_seg (g2 := (2, [(0, .ref 64), (1, .int 2), (2, .int v)], [.int 5, .int 2], (q_cX q_AX q_IX q_J0, 40, 26520))) 2 (fun _ _ => rfl) ?_
                  refine q_Ru_call (v := none) (h2 := (q_cX q_AX q_IX q_J0, 40, 26520)) rfl rfl ?_ ?_
                  · refine q_Ca_of (Nat.le_of_ble_eq_true rfl) ?_
                    refine q_Ru_seg (g2 := (19, [(0, .int 2), (1, .int 5)], [], (q_cX q_AX q_IX q_J0, 40, 26520))) 5 (fun _ _ => rfl) ?_
                    exact q_Ru_ret rfl rfl
                  show q_Ru _ _ _ (5, [(0, .ref 64), (1, .int 2), (2, .int v)], [], (q_cX q_AX q_IX q_J0, 40, 26520)) _
                  refine q_Ru_seg (g2 := (21, [(0, .ref 64), (1, .int 2), (2, .int v)], [.int 255, .int 0, .int v], (q_cX q_AX q_IX q_J0, 40, 26520))) 6 (fun _ _ => rfl) ?_
                  refine q_Ru_call (v := none) (h2 := (q_cX q_AX q_IX q_J0, 40, 26520)) rfl rfl ?_ ?_
                  · refine q_Ca_of (Nat.le_of_ble_eq_true rfl) ?_
                    refine q_Ru_seg (g2 := (2, [(0, .int v), (1, .int 0), (2, .int 255)], [.int 0, .int v], (q_cX q_AX q_IX q_J0, 40, 26520))) 2 (fun _ _ => rfl) ?_
                    refine q_Ru_rsF (g2 := (5, [(0, .int v), (1, .int 0), (2, .int 255)], [], (q_cX q_AX q_IX q_J0, 40, 26520))) rfl rfl h197 ?_
                    refine q_Ru_seg (g2 := (7, [(0, .int v), (1, .int 0), (2, .int 255)], [.int 255, .int v], (q_cX q_AX q_IX q_J0, 40, 26520))) 2 (fun _ _ => rfl) ?_
                    refine q_Ru_rsT (g2 := (20, [(0, .int v), (1, .int 0), (2, .int 255)], [], (q_cX q_AX q_IX q_J0, 40, 26520))) rfl rfl (q_d_geF h199) ?_
                    exact q_Ru_ret rfl rfl
                  show q_Ru _ _ _ (24, [(0, .ref 64), (1, .int 2), (2, .int v)], [], (q_cX q_AX q_IX q_J0, 40, 26520)) _
                  refine q_Ru_seg (g2 := (52, [(0, .ref 64), (1, .int 2), (2, .int v)], [.int 0, .int v, .int 2, .int 4, .ref 64], (q_cX q_AX q_IX q_J0, 40, 26520))) 10 (fun _ _ => rfl) ?_
                  refine q_Ru_call (v := none) (h2 := (q_cX q_AX q_IX q_J0, 40, 26520)) rfl rfl ?_ ?_
                  · refine q_Ca_of (Nat.le_of_ble_eq_true rfl) ?_
                    refine q_Ru_seg (g2 := (19, [(0, .ref 64), (1, .int 4), (2, .int 2), (3, .int v), (4, .int 0)], [], (q_cX q_AX q_IX q_J0, 40, 26520))) 3 (fun _ _ => rfl) ?_
                    exact q_Ru_ret rfl rfl
                  show q_Ru _ _ _ (55, [(0, .ref 64), (1, .int 2), (2, .int v)], [], (q_cX q_AX q_IX q_J0, 40, 26520)) _
                  refine q_Ru_seg (g2 := (63, [(0, .ref 64), (1, .int 2), (2, .int v)], [.int 0, .int v, .int 2, .int 4, .ref 65], (q_cX q_AX q_IX q_J0, 40, 26520))) 6 (fun _ _ => rfl) ?_
                  refine q_Ru_call (v := (some (.int 0))) (h2 := (q_cX q_AX (q_uI q_IX 24 2 v) q_J0, 40, 26520)) rfl rfl ?_ ?_
                  · refine q_Ca_of (Nat.le_of_ble_eq_true rfl) ?_
                    refine q_Ru_seg (g2 := (123, [(0, .ref 65), (1, .int 4), (2, .int 2), (3, .int v), (4, .int 0)], [.int v, .int 2, .ref 88], (q_cX q_AX q_IX q_J0, 40, 26520))) 6 (fun _ _ => rfl) ?_
                    refine q_Ru_call (v := (some (.int 0))) (h2 := (q_cX q_AX (q_uI q_IX 24 2 v) q_J0, 40, 26520)) rfl rfl ?_ ?_
                    · refine q_Ca_of (Nat.le_of_ble_eq_true rfl) ?_
                      refine q_Ru_seg (g2 := (2, [(0, .ref 88), (1, .int 2), (2, .int v)], [.int 2, .ref 88], (q_cX q_AX q_IX q_J0, 40, 26520))) 2 (fun _ _ => rfl) ?_
                      refine q_Ru_call (v := (some (.int 0))) (h2 := (q_cX q_AX q_IX q_J0, 40, 26520)) rfl rfl ?_ ?_
                      · refine q_Ca_of (Nat.le_of_ble_eq_true rfl) ?_
                        refine q_Ru_seg (g2 := (46, [(0, .ref 88), (1, .int 2)], [.int 0], (q_cX q_AX q_IX q_J0, 40, 26520))) 4 (fun _ _ => rfl) ?_
                        exact q_Ru_ret rfl rfl
                      show q_Ru _ _ _ (5, [(0, .ref 88), (1, .int 2), (2, .int v)], [.int 0], (q_cX q_AX q_IX q_J0, 40, 26520)) _
                      refine q_Ru_seg (g2 := (74, [(3, .int 0), (0, .ref 88), (1, .int 2), (2, .int v)], [.int 0], (q_cX q_AX (q_uI q_IX 24 2 v) q_J0, 40, 26520))) 8 (fun _ _ => rfl) ?_
                      exact q_Ru_ret rfl rfl
                    show q_Ru _ _ _ (126, [(0, .ref 65), (1, .int 4), (2, .int 2), (3, .int v), (4, .int 0)], [.int 0], (q_cX q_AX (q_uI q_IX 24 2 v) q_J0, 40, 26520)) _
                    exact q_Ru_ret rfl rfl
                  show q_Ru _ _ _ (66, [(0, .ref 64), (1, .int 2), (2, .int v)], [.int 0], (q_cX q_AX (q_uI q_IX 24 2 v) q_J0, 40, 26520)) _
                  exact q_Ru_ret rfl rfl
                show q_Ru _ _ _ (8, [(0, .ref 64), (1, .int 2), (2, .int v), (3, .ref 103)], [.int 0, .int 0, .ref 103], (q_cX q_AX (q_uI q_IX 24 2 v) q_J0, 40, 26520)) _
                refine q_Ru_seg (g2 := (26, [(0, .ref 64), (1, .int 2), (2, .int v), (3, .ref 103)], [.int 0], (q_cX q_AX (q_uI q_IX 24 2 v) (q_uA q_J0 39 (vp_updL (fun _ => 0) 0 0)), 40, 26520))) 4 (fun _ _ => rfl) ?_
                exact q_Ru_ret rfl rfl
              · refine q_Ca_of (Nat.le_of_ble_eq_true rfl) ?_
                refine q_Ru_seg (g2 := (4, [(0, .ref 64), (1, .int 2), (2, .int v)], [.int 4, .int 0, .int 2, .ref 64], (q_cM q_AM q_IM q_J0, 34, 31630))) 4 (fun _ _ => rfl) ?_
                refine q_Ru_call (v := (some (.int 1))) (h2 := (q_cM q_AM q_IM q_J0, 34, 31630)) rfl rfl ?_ ?_
                · refine q_Ca_of (Nat.le_of_ble_eq_true rfl) ?_
                  refine q_Ru_seg (g2 := (15, [(0, .int 2), (1, .int 0), (2, .int 4)], [.int 1], (q_cM q_AM q_IM q_J0, 34, 31630))) 8 (fun _ _ => rfl) ?_
                  exact q_Ru_ret rfl rfl
                show q_Ru _ _ _ (7, [(0, .ref 64), (1, .int 2), (2, .int v)], [.int 1, .ref 64], (q_cM q_AM q_IM q_J0, 34, 31630)) _
                refine q_Ru_seg (g2 := (30, [(0, .ref 64), (1, .int 2), (2, .int v)], [.int 255, .int 0, .int v, .ref 64], (q_cM q_AM q_IM q_J0, 34, 31630))) 7 (fun _ _ => rfl) ?_
                refine q_Ru_call (v := (some (.int 1))) (h2 := (q_cM q_AM q_IM q_J0, 34, 31630)) rfl rfl ?_ ?_
                · refine q_Ca_of (Nat.le_of_ble_eq_true rfl) ?_
                  refine q_Ru_seg (g2 := (2, [(0, .int v), (1, .int 0), (2, .int 255)], [.int 0, .int v], (q_cM q_AM q_IM q_J0, 34, 31630))) 2 (fun _ _ => rfl) ?_
                  refine q_Ru_rsF (g2 := (5, [(0, .int v), (1, .int 0), (2, .int 255)], [], (q_cM q_AM q_IM q_J0, 34, 31630))) rfl rfl h197 ?_
                  refine q_Ru_seg (g2 := (7, [(0, .int v), (1, .int 0), (2, .int 255)], [.int 255, .int v], (q_cM q_AM q_IM q_J0, 34, 31630))) 2 (fun _ _ => rfl) ?_
                  refine q_Ru_rsF (g2 := (10, [(0, .int v), (1, .int 0), (2, .int 255)], [], (q_cM q_AM q_IM q_J0, 34, 31630))) rfl rfl h199 ?_
                  refine q_Ru_seg (g2 := (15, [(0, .int v), (1, .int 0), (2, .int 255)], [.int 1], (q_cM q_AM q_IM q_J0, 34, 31630))) 2 (fun _ _ => rfl) ?_
                  exact q_Ru_ret rfl rfl
                show q_Ru _ _ _ (33, [(0, .ref 64), (1, .int 2), (2, .int v)], [.int 1, .ref 64], (q_cM q_AM q_IM q_J0, 34, 31630)) _
                refine q_Ru_seg (g2 := (55, [(0, .ref 64), (1, .int 2), (2, .int v)], [.int 0, .ref 64], (q_cM q_AM q_IM q_J0, 34, 31630))) 7 (fun _ _ => rfl) ?_
                refine q_Ru_call (v := (some (.int 0))) (h2 := (q_cM q_AM (q_uI q_IM 0 39 0) q_J0, 34, 31630)) rfl rfl ?_ ?_
                · refine q_Ca_of (Nat.le_of_ble_eq_true rfl) ?_
                  refine q_Ru_seg (g2 := (14, [(0, .ref 64), (1, .int 0)], [.int 0], (q_cM q_AM (q_uI q_IM 0 39 0) q_J0, 34, 31630))) 6 (fun _ _ => rfl) ?_
                  exact q_Ru_ret rfl rfl
                show q_Ru _ _ _ (58, [(0, .ref 64), (1, .int 2), (2, .int v)], [.int 0], (q_cM q_AM (q_uI q_IM 0 39 0) q_J0, 34, 31630)) _
                refine q_Ru_seg (g2 := (78, [(3, .int 0), (0, .ref 64), (1, .int 2), (2, .int v)], [.ref 64], (q_cM (q_uA q_AM 14 (upd (upd (fun _ => 0) 3 255) 2 v)) (q_uI q_IM 0 39 0) q_J0, 34, 31630))) 12 (fun _ _ => rfl) ?_
                refine q_Ru_call (v := none) (h2 := (q_cM (q_uA q_AM 14 (upd (upd (fun _ => 0) 3 255) 2 v)) (q_uI q_IM 0 39 0) q_J0, 34, 31630)) rfl rfl ?_ ?_
                · refine q_Ca_of (Nat.le_of_ble_eq_true rfl) ?_
                  refine q_Ru_seg (g2 := (17, [(0, .ref 64)], [], (q_cM (q_uA q_AM 14 (upd (upd (fun _ => 0) 3 255) 2 v)) (q_uI q_IM 0 39 0) q_J0, 34, 31630))) 3 (fun _ _ => rfl) ?_
                  exact q_Ru_ret rfl rfl
                show q_Ru _ _ _ (81, [(3, .int 0), (0, .ref 64), (1, .int 2), (2, .int v)], [], (q_cM (q_uA q_AM 14 (upd (upd (fun _ => 0) 3 255) 2 v)) (q_uI q_IM 0 39 0) q_J0, 34, 31630)) _
                refine q_Ru_seg (g2 := (82, [(3, .int 0), (0, .ref 64), (1, .int 2), (2, .int v)], [.int 0], (q_cM (q_uA q_AM 14 (upd (upd (fun _ => 0) 3 255) 2 v)) (q_uI q_IM 0 39 0) q_J0, 34, 31630))) 1 (fun _ _ => rfl) ?_
                exact q_Ru_ret rfl rfl
            | 3, _, e201 =>
              have e201 : a = 3 := e201
              subst e201
              refine ⟨0, 255, 255, ⟨(q_cX q_AX (q_uI q_IX 24 3 v) (q_uA q_J0 39 (vp_updL (fun _ => 0) 0 255)), 40, 26520), (q_uA q_J0 39 (vp_updL (fun _ => 0) 0 255)) 39, ?_, rfl, fun _ => rfl, Nat.le_of_ble_eq_true rfl, Nat.le_of_ble_eq_true rfl⟩, ⟨(q_cM (q_uA q_AM 14 (upd (upd (fun _ => 0) 3 255) 3 v)) (q_uI q_IM 0 39 0) q_J0, 34, 31630), _, ?_, rfl, rfl, Nat.le_of_ble_eq_true rfl, Nat.le_of_ble_eq_true rfl⟩, fun _ => rfl⟩
              · refine q_Ca_of (Nat.le_of_ble_eq_true rfl) ?_
                refine q_Ru_seg (g2 := (5, [(0, .ref 64), (1, .int 3), (2, .int v), (3, .ref 103)], [.int v, .int 3, .ref 64, .int 0, .ref 103], (q_cX q_AX q_IX q_J0, 40, 26520))) 5 (fun _ _ => rfl) ?_
                refine q_Ru_call (v := (some (.int 255))) (h2 := (q_cX q_AX (q_uI q_IX 24 3 v) q_J0, 40, 26520)) rfl rfl ?_ ?_
                · refine q_Ca_of (Nat.le_of_ble_eq_true rfl) ?_
                  refine q_Ru_seg (g2 := (2, [(0, .ref 64), (1, .int 3), (2, .int v)], [.int 5, .int 3], (q_cX q_AX q_IX q_J0, 40, 26520))) 2 (fun _ _ => rfl) ?_
                  refine q_Ru_call (v := none) (h2 := (q_cX q_AX q_IX q_J0, 40, 26520)) rfl rfl ?_ ?_
                  · refine q_Ca_of (Nat.le_of_ble_eq_true rfl) ?_
                    refine q_Ru_seg (g2 := (19, [(0, .int 3), (1, .int 5)], [], (q_cX q_AX q_IX q_J0, 40, 26520))) 5 (fun _ _ => rfl) ?_
                    exact q_Ru_ret rfl rfl
                  show q_Ru _ _ _ (5, [(0, .ref 64), (1, .int 3), (2, .int v)], [], (q_cX q_AX q_IX q_J0, 40, 26520)) _
                  refine q_Ru_seg (g2 := (21, [(0, .ref 64), (1, .int 3), (2, .int v)], [.int 255, .int 0, .int v], (q_cX q_AX q_IX q_J0, 40, 26520))) 6 (fun _ _ => rfl) ?_
                  refine q_Ru_call (v := none) (h2 := (q_cX q_AX q_IX q_J0, 40, 26520)) rfl rfl ?_ ?_
                  · refine q_Ca_of (Nat.le_of_ble_eq_true rfl) ?_
                    refine q_Ru_seg (g2 := (2, [(0, .int v), (1, .int 0), (2, .int 255)], [.int 0, .int v], (q_cX q_AX q_IX q_J0, 40, 26520))) 2 (fun _ _ => rfl) ?_
                    refine q_Ru_rsF (g2 := (5, [(0, .int v), (1, .int 0), (2, .int 255)], [], (q_cX q_AX q_IX q_J0, 40, 26520))) rfl rfl h197 ?_
                    refine q_Ru_seg (g2 := (7, [(0, .int v), (1, .int 0), (2, .int 255)], [.int 255, .int v], (q_cX q_AX q_IX q_J0, 40, 26520))) 2 (fun _ _ => rfl) ?_
                    refine q_Ru_rsT (g2 := (20, [(0, .int v), (1, .int 0), (2, .int 255)], [], (q_cX q_AX q_IX q_J0, 40, 26520))) rfl rfl (q_d_geF h199) ?_
                    exact q_Ru_ret rfl rfl
                  show q_Ru _ _ _ (24, [(0, .ref 64), (1, .int 3), (2, .int v)], [], (q_cX q_AX q_IX q_J0, 40, 26520)) _
                  refine q_Ru_seg (g2 := (52, [(0, .ref 64), (1, .int 3), (2, .int v)], [.int 0, .int v, .int 3, .int 4, .ref 64], (q_cX q_AX q_IX q_J0, 40, 26520))) 10 (fun _ _ => rfl) ?_
                  refine q_Ru_call (v := none) (h2 := (q_cX q_AX q_IX q_J0, 40, 26520)) rfl rfl ?_ ?_
                  · refine q_Ca_of (Nat.le_of_ble_eq_true rfl) ?_
                    refine q_Ru_seg (g2 := (19, [(0, .ref 64), (1, .int 4), (2, .int 3), (3, .int v), (4, .int 0)], [], (q_cX q_AX q_IX q_J0, 40, 26520))) 3 (fun _ _ => rfl) ?_
                    exact q_Ru_ret rfl rfl
                  show q_Ru _ _ _ (55, [(0, .ref 64), (1, .int 3), (2, .int v)], [], (q_cX q_AX q_IX q_J0, 40, 26520)) _
                  refine q_Ru_seg (g2 := (63, [(0, .ref 64), (1, .int 3), (2, .int v)], [.int 0, .int v, .int 3, .int 4, .ref 65], (q_cX q_AX q_IX q_J0, 40, 26520))) 6 (fun _ _ => rfl) ?_
                  refine q_Ru_call (v := (some (.int 255))) (h2 := (q_cX q_AX (q_uI q_IX 24 3 v) q_J0, 40, 26520)) rfl rfl ?_ ?_
                  · refine q_Ca_of (Nat.le_of_ble_eq_true rfl) ?_
                    refine q_Ru_seg (g2 := (123, [(0, .ref 65), (1, .int 4), (2, .int 3), (3, .int v), (4, .int 0)], [.int v, .int 3, .ref 88], (q_cX q_AX q_IX q_J0, 40, 26520))) 6 (fun _ _ => rfl) ?_
                    refine q_Ru_call (v := (some (.int 255))) (h2 := (q_cX q_AX (q_uI q_IX 24 3 v) q_J0, 40, 26520)) rfl rfl ?_ ?_
                    · refine q_Ca_of (Nat.le_of_ble_eq_true rfl) ?_
                      refine q_Ru_seg (g2 := (2, [(0, .ref 88), (1, .int 3), (2, .int v)], [.int 3, .ref 88], (q_cX q_AX q_IX q_J0, 40, 26520))) 2 (fun _ _ => rfl) ?_
                      refine q_Ru_call (v := (some (.int 255))) (h2 := (q_cX q_AX q_IX q_J0, 40, 26520)) rfl rfl ?_ ?_
                      · refine q_Ca_of (Nat.le_of_ble_eq_true rfl) ?_
                        refine q_Ru_seg (g2 := (51, [(0, .ref 88), (1, .int 3)], [.int 255], (q_cX q_AX q_IX q_J0, 40, 26520))) 4 (fun _ _ => rfl) ?_
                        exact q_Ru_ret rfl rfl
                      show q_Ru _ _ _ (5, [(0, .ref 88), (1, .int 3), (2, .int v)], [.int 255], (q_cX q_AX q_IX q_J0, 40, 26520)) _
                      refine q_Ru_seg (g2 := (74, [(3, .int 255), (0, .ref 88), (1, .int 3), (2, .int v)], [.int 255], (q_cX q_AX (q_uI q_IX 24 3 v) q_J0, 40, 26520))) 8 (fun _ _ => rfl) ?_
                      exact q_Ru_ret rfl rfl
                    show q_Ru _ _ _ (126, [(0, .ref 65), (1, .int 4), (2, .int 3), (3, .int v), (4, .int 0)], [.int 255], (q_cX q_AX (q_uI q_IX 24 3 v) q_J0, 40, 26520)) _
                    exact q_Ru_ret rfl rfl
                  show q_Ru _ _ _ (66, [(0, .ref 64), (1, .int 3), (2, .int v)], [.int 255], (q_cX q_AX (q_uI q_IX 24 3 v) q_J0, 40, 26520)) _
                  exact q_Ru_ret rfl rfl
                show q_Ru _ _ _ (8, [(0, .ref 64), (1, .int 3), (2, .int v), (3, .ref 103)], [.int 255, .int 0, .ref 103], (q_cX q_AX (q_uI q_IX 24 3 v) q_J0, 40, 26520)) _
                refine q_Ru_seg (g2 := (26, [(0, .ref 64), (1, .int 3), (2, .int v), (3, .ref 103)], [.int 0], (q_cX q_AX (q_uI q_IX 24 3 v) (q_uA q_J0 39 (vp_updL (fun _ => 0) 0 255)), 40, 26520))) 4 (fun _ _ => rfl) ?_
                exact q_Ru_ret rfl rfl
              · refine q_Ca_of (Nat.le_of_ble_eq_true rfl) ?_
                refine q_Ru_seg (g2 := (4, [(0, .ref 64), (1, .int 3), (2, .int v)], [.int 4, .int 0, .int 3, .ref 64], (q_cM q_AM q_IM q_J0, 34, 31630))) 4 (fun _ _ => rfl) ?_
                refine q_Ru_call (v := (some (.int 1))) (h2 := (q_cM q_AM q_IM q_J0, 34, 31630)) rfl rfl ?_ ?_
                · refine q_Ca_of (Nat.le_of_ble_eq_true rfl) ?_
                  refine q_Ru_seg (g2 := (15, [(0, .int 3), (1, .int 0), (2, .int 4)], [.int 1], (q_cM q_AM q_IM q_J0, 34, 31630))) 8 (fun _ _ => rfl) ?_
                  exact q_Ru_ret rfl rfl
                show q_Ru _ _ _ (7, [(0, .ref 64), (1, .int 3), (2, .int v)], [.int 1, .ref 64], (q_cM q_AM q_IM q_J0, 34, 31630)) _
                refine q_Ru_seg (g2 := (30, [(0, .ref 64), (1, .int 3), (2, .int v)], [.int 255, .int 0, .int v, .ref 64], (q_cM q_AM q_IM q_J0, 34, 31630))) 7 (fun _ _ => rfl) ?_
                refine q_Ru_call (v := (some (.int 1))) (h2 := (q_cM q_AM q_IM q_J0, 34, 31630)) rfl rfl ?_ ?_
                · refine q_Ca_of (Nat.le_of_ble_eq_true rfl) ?_
                  refine q_Ru_seg (g2 := (2, [(0, .int v), (1, .int 0), (2, .int 255)], [.int 0, .int v], (q_cM q_AM q_IM q_J0, 34, 31630))) 2 (fun _ _ => rfl) ?_
                  refine q_Ru_rsF (g2 := (5, [(0, .int v), (1, .int 0), (2, .int 255)], [], (q_cM q_AM q_IM q_J0, 34, 31630))) rfl rfl h197 ?_
                  refine q_Ru_seg (g2 := (7, [(0, .int v), (1, .int 0), (2, .int 255)], [.int 255, .int v], (q_cM q_AM q_IM q_J0, 34, 31630))) 2 (fun _ _ => rfl) ?_
                  refine q_Ru_rsF (g2 := (10, [(0, .int v), (1, .int 0), (2, .int 255)], [], (q_cM q_AM q_IM q_J0, 34, 31630))) rfl rfl h199 ?_
                  refine q_Ru_seg (g2 := (15, [(0, .int v), (1, .int 0), (2, .int 255)], [.int 1], (q_cM q_AM q_IM q_J0, 34, 31630))) 2 (fun _ _ => rfl) ?_
                  exact q_Ru_ret rfl rfl
                show q_Ru _ _ _ (33, [(0, .ref 64), (1, .int 3), (2, .int v)], [.int 1, .ref 64], (q_cM q_AM q_IM q_J0, 34, 31630)) _
                refine q_Ru_seg (g2 := (55, [(0, .ref 64), (1, .int 3), (2, .int v)], [.int 0, .ref 64], (q_cM q_AM q_IM q_J0, 34, 31630))) 7 (fun _ _ => rfl) ?_
                refine q_Ru_call (v := (some (.int 0))) (h2 := (q_cM q_AM (q_uI q_IM 0 39 0) q_J0, 34, 31630)) rfl rfl ?_ ?_
                · refine q_Ca_of (Nat.le_of_ble_eq_true rfl) ?_
                  refine q_Ru_seg (g2 := (14, [(0, .ref 64), (1, .int 0)], [.int 0], (q_cM q_AM (q_uI q_IM 0 39 0) q_J0, 34, 31630))) 6 (fun _ _ => rfl) ?_
                  exact q_Ru_ret rfl rfl
                show q_Ru _ _ _ (58, [(0, .ref 64), (1, .int 3), (2, .int v)], [.int 0], (q_cM q_AM (q_uI q_IM 0 39 0) q_J0, 34, 31630)) _
                refine q_Ru_seg (g2 := (78, [(3, .int 255), (0, .ref 64), (1, .int 3), (2, .int v)], [.ref 64], (q_cM (q_uA q_AM 14 (upd (upd (fun _ => 0) 3 255) 3 v)) (q_uI q_IM 0 39 0) q_J0, 34, 31630))) 12 (fun _ _ => rfl) ?_
                refine q_Ru_call (v := none) (h2 := (q_cM (q_uA q_AM 14 (upd (upd (fun _ => 0) 3 255) 3 v)) (q_uI q_IM 0 39 0) q_J0, 34, 31630)) rfl rfl ?_ ?_
                · refine q_Ca_of (Nat.le_of_ble_eq_true rfl) ?_
                  refine q_Ru_seg (g2 := (17, [(0, .ref 64)], [], (q_cM (q_uA q_AM 14 (upd (upd (fun _ => 0) 3 255) 3 v)) (q_uI q_IM 0 39 0) q_J0, 34, 31630))) 3 (fun _ _ => rfl) ?_
                  exact q_Ru_ret rfl rfl
                show q_Ru _ _ _ (81, [(3, .int 255), (0, .ref 64), (1, .int 3), (2, .int v)], [], (q_cM (q_uA q_AM 14 (upd (upd (fun _ => 0) 3 255) 3 v)) (q_uI q_IM 0 39 0) q_J0, 34, 31630)) _
                refine q_Ru_seg (g2 := (82, [(3, .int 255), (0, .ref 64), (1, .int 3), (2, .int v)], [.int 255], (q_cM (q_uA q_AM 14 (upd (upd (fun _ => 0) 3 255) 3 v)) (q_uI q_IM 0 39 0) q_J0, 34, 31630))) 1 (fun _ _ => rfl) ?_
                exact q_Ru_ret rfl rfl
            | 4, _, e201 =>
              have e201 : a = 4 := e201
              subst e201
              cases h202 : decide (4095 < v) with
              | true =>
                exact q_no (q_lo2 h202) (q_hi2 h199) (by decide)
              | false =>
                refine ⟨0, 0, 0, ⟨(q_cX q_AX (q_uI q_IX 24 4 v) (q_uA q_J0 39 (vp_updL (fun _ => 0) 0 0)), 40, 26520), (q_uA q_J0 39 (vp_updL (fun _ => 0) 0 0)) 39, ?_, rfl, fun _ => rfl, Nat.le_of_ble_eq_true rfl, Nat.le_of_ble_eq_true rfl⟩, ⟨(q_cM (q_uA q_AM 14 (upd (upd (fun _ => 0) 3 255) 4 v)) (q_uI q_IM 0 39 0) q_J0, 34, 31630), _, ?_, rfl, rfl, Nat.le_of_ble_eq_true rfl, Nat.le_of_ble_eq_true rfl⟩, fun _ => rfl⟩
                · refine q_Ca_of (Nat.le_of_ble_eq_true rfl) ?_
                  refine q_Ru_seg (g2 := (5, [(0, .ref 64), (1, .int 4), (2, .int v), (3, .ref 103)], [.int v, .int 4, .ref 64, .int 0, .ref 103], (q_cX q_AX q_IX q_J0, 40, 26520))) 5 (fun _ _ => rfl) ?_
                  refine q_Ru_call (v := (some (.int 0))) (h2 := (q_cX q_AX (q_uI q_IX 24 4 v) q_J0, 40, 26520)) rfl rfl ?_ ?_
                  · refine q_Ca_of (Nat.le_of_ble_eq_true rfl) ?_
                    refine q_Ru_seg (g2 := (2, [(0, .ref 64), (1, .int 4), (2, .int v)], [.int 5, .int 4], (q_cX q_AX q_IX q_J0, 40, 26520))) 2 (fun _ _ => rfl) ?_
                    refine q_Ru_call (v := none) (h2 := (q_cX q_AX q_IX q_J0, 40, 26520)) rfl rfl ?_ ?_
                    · refine q_Ca_of (Nat.le_of_ble_eq_true rfl) ?_
                      refine q_Ru_seg (g2 := (19, [(0, .int 4), (1, .int 5)], [], (q_cX q_AX q_IX q_J0, 40, 26520))) 5 (fun _ _ => rfl) ?_
                      exact q_Ru_ret rfl rfl
                    show q_Ru _ _ _ (5, [(0, .ref 64), (1, .int 4), (2, .int v)], [], (q_cX q_AX q_IX q_J0, 40, 26520)) _
                    refine q_Ru_seg (g2 := (21, [(0, .ref 64), (1, .int 4), (2, .int v)], [.int 4095, .int 0, .int v], (q_cX q_AX q_IX q_J0, 40, 26520))) 7 (fun _ _ => rfl) ?_
                    refine q_Ru_call (v := none) (h2 := (q_cX q_AX q_IX q_J0, 40, 26520)) rfl rfl ?_ ?_
                    · refine q_Ca_of (Nat.le_of_ble_eq_true rfl) ?_
                      refine q_Ru_seg (g2 := (2, [(0, .int v), (1, .int 0), (2, .int 4095)], [.int 0, .int v], (q_cX q_AX q_IX q_J0, 40, 26520))) 2 (fun _ _ => rfl) ?_
                      refine q_Ru_rsF (g2 := (5, [(0, .int v), (1, .int 0), (2, .int 4095)], [], (q_cX q_AX q_IX q_J0, 40, 26520))) rfl rfl h197 ?_
                      refine q_Ru_seg (g2 := (7, [(0, .int v), (1, .int 0), (2, .int 4095)], [.int 4095, .int v], (q_cX q_AX q_IX q_J0, 40, 26520))) 2 (fun _ _ => rfl) ?_
                      refine q_Ru_rsT (g2 := (20, [(0, .int v), (1, .int 0), (2, .int 4095)], [], (q_cX q_AX q_IX q_J0, 40, 26520))) rfl rfl (q_d_geF h202) ?_
                      exact q_Ru_ret rfl rfl
                    show q_Ru _ _ _ (24, [(0, .ref 64), (1, .int 4), (2, .int v)], [], (q_cX q_AX q_IX q_J0, 40, 26520)) _
                    refine q_Ru_seg (g2 := (52, [(0, .ref 64), (1, .int 4), (2, .int v)], [.int 0, .int v, .int 4, .int 4, .ref 64], (q_cX q_AX q_IX q_J0, 40, 26520))) 10 (fun _ _ => rfl) ?_
                    refine q_Ru_call (v := none) (h2 := (q_cX q_AX q_IX q_J0, 40, 26520)) rfl rfl ?_ ?_
                    · refine q_Ca_of (Nat.le_of_ble_eq_true rfl) ?_
                      refine q_Ru_seg (g2 := (19, [(0, .ref 64), (1, .int 4), (2, .int 4), (3, .int v), (4, .int 0)], [], (q_cX q_AX q_IX q_J0, 40, 26520))) 3 (fun _ _ => rfl) ?_
                      exact q_Ru_ret rfl rfl
                    show q_Ru _ _ _ (55, [(0, .ref 64), (1, .int 4), (2, .int v)], [], (q_cX q_AX q_IX q_J0, 40, 26520)) _
                    refine q_Ru_seg (g2 := (63, [(0, .ref 64), (1, .int 4), (2, .int v)], [.int 0, .int v, .int 4, .int 4, .ref 65], (q_cX q_AX q_IX q_J0, 40, 26520))) 6 (fun _ _ => rfl) ?_
                    refine q_Ru_call (v := (some (.int 0))) (h2 := (q_cX q_AX (q_uI q_IX 24 4 v) q_J0, 40, 26520)) rfl rfl ?_ ?_
                    · refine q_Ca_of (Nat.le_of_ble_eq_true rfl) ?_
                      refine q_Ru_seg (g2 := (123, [(0, .ref 65), (1, .int 4), (2, .int 4), (3, .int v), (4, .int 0)], [.int v, .int 4, .ref 88], (q_cX q_AX q_IX q_J0, 40, 26520))) 6 (fun _ _ => rfl) ?_
                      refine q_Ru_call (v := (some (.int 0))) (h2 := (q_cX q_AX (q_uI q_IX 24 4 v) q_J0, 40, 26520)) rfl rfl ?_ ?_
                      · refine q_Ca_of (Nat.le_of_ble_eq_true rfl) ?_
                        refine q_Ru_seg (g2 := (2, [(0, .ref 88), (1, .int 4), (2, .int v)], [.int 4, .ref 88], (q_cX q_AX q_IX q_J0, 40, 26520))) 2 (fun _ _ => rfl) ?_
                        refine q_Ru_call (v := (some (.int 0))) (h2 := (q_cX q_AX q_IX q_J0, 40, 26520)) rfl rfl ?_ ?_
                        · refine q_Ca_of (Nat.le_of_ble_eq_true rfl) ?_
                          refine q_Ru_seg (g2 := (56, [(0, .ref 88), (1, .int 4)], [.int 0], (q_cX q_AX q_IX q_J0, 40, 26520))) 4 (fun _ _ => rfl) ?_
                          exact q_Ru_ret rfl rfl
                        show q_Ru _ _ _ (5, [(0, .ref 88), (1, .int 4), (2, .int v)], [.int 0], (q_cX q_AX q_IX q_J0, 40, 26520)) _
                        refine q_Ru_seg (g2 := (74, [(3, .int 0), (0, .ref 88), (1, .int 4), (2, .int v)], [.int 0], (q_cX q_AX (q_uI q_IX 24 4 v) q_J0, 40, 26520))) 7 (fun _ _ => rfl) ?_
                        exact q_Ru_ret rfl rfl
                      show q_Ru _ _ _ (126, [(0, .ref 65), (1, .int 4), (2, .int 4), (3, .int v), (4, .int 0)], [.int 0], (q_cX q_AX (q_uI q_IX 24 4 v) q_J0, 40, 26520)) _
                      exact q_Ru_ret rfl rfl
                    show q_Ru _ _ _ (66, [(0, .ref 64), (1, .int 4), (2, .int v)], [.int 0], (q_cX q_AX (q_uI q_IX 24 4 v) q_J0, 40, 26520)) _
                    exact q_Ru_ret rfl rfl
                  show q_Ru _ _ _ (8, [(0, .ref 64), (1, .int 4), (2, .int v), (3, .ref 103)], [.int 0, .int 0, .ref 103], (q_cX q_AX (q_uI q_IX 24 4 v) q_J0, 40, 26520)) _
                  refine q_Ru_seg (g2 := (26, [(0, .ref 64), (1, .int 4), (2, .int v), (3, .ref 103)], [.int 0], (q_cX q_AX (q_uI q_IX 24 4 v) (q_uA q_J0 39 (vp_updL (fun _ => 0) 0 0)), 40, 26520))) 4 (fun _ _ => rfl) ?_
                  exact q_Ru_ret rfl rfl
                · refine q_Ca_of (Nat.le_of_ble_eq_true rfl) ?_
                  refine q_Ru_seg (g2 := (4, [(0, .ref 64), (1, .int 4), (2, .int v)], [.int 4, .int 0, .int 4, .ref 64], (q_cM q_AM q_IM q_J0, 34, 31630))) 4 (fun _ _ => rfl) ?_
                  refine q_Ru_call (v := (some (.int 1))) (h2 := (q_cM q_AM q_IM q_J0, 34, 31630)) rfl rfl ?_ ?_
                  · refine q_Ca_of (Nat.le_of_ble_eq_true rfl) ?_
                    refine q_Ru_seg (g2 := (15, [(0, .int 4), (1, .int 0), (2, .int 4)], [.int 1], (q_cM q_AM q_IM q_J0, 34, 31630))) 8 (fun _ _ => rfl) ?_
                    exact q_Ru_ret rfl rfl
                  show q_Ru _ _ _ (7, [(0, .ref 64), (1, .int 4), (2, .int v)], [.int 1, .ref 64], (q_cM q_AM q_IM q_J0, 34, 31630)) _
                  refine q_Ru_seg (g2 := (30, [(0, .ref 64), (1, .int 4), (2, .int v)], [.int 4095, .int 0, .int v, .ref 64], (q_cM q_AM q_IM q_J0, 34, 31630))) 8 (fun _ _ => rfl) ?_
                  refine q_Ru_call (v := (some (.int 1))) (h2 := (q_cM q_AM q_IM q_J0, 34, 31630)) rfl rfl ?_ ?_
                  · refine q_Ca_of (Nat.le_of_ble_eq_true rfl) ?_
                    refine q_Ru_seg (g2 := (2, [(0, .int v), (1, .int 0), (2, .int 4095)], [.int 0, .int v], (q_cM q_AM q_IM q_J0, 34, 31630))) 2 (fun _ _ => rfl) ?_
                    refine q_Ru_rsF (g2 := (5, [(0, .int v), (1, .int 0), (2, .int 4095)], [], (q_cM q_AM q_IM q_J0, 34, 31630))) rfl rfl h197 ?_
                    refine q_Ru_seg (g2 := (7, [(0, .int v), (1, .int 0), (2, .int 4095)], [.int 4095, .int v], (q_cM q_AM q_IM q_J0, 34, 31630))) 2 (fun _ _ => rfl) ?_
                    refine q_Ru_rsF (g2 := (10, [(0, .int v), (1, .int 0), (2, .int 4095)], [], (q_cM q_AM q_IM q_J0, 34, 31630))) rfl rfl h202 ?_
                    refine q_Ru_seg (g2 := (15, [(0, .int v), (1, .int 0), (2, .int 4095)], [.int 1], (q_cM q_AM q_IM q_J0, 34, 31630))) 2 (fun _ _ => rfl) ?_
                    exact q_Ru_ret rfl rfl
                  show q_Ru _ _ _ (33, [(0, .ref 64), (1, .int 4), (2, .int v)], [.int 1, .ref 64], (q_cM q_AM q_IM q_J0, 34, 31630)) _
                  refine q_Ru_seg (g2 := (55, [(0, .ref 64), (1, .int 4), (2, .int v)], [.int 0, .ref 64], (q_cM q_AM q_IM q_J0, 34, 31630))) 7 (fun _ _ => rfl) ?_
                  refine q_Ru_call (v := (some (.int 0))) (h2 := (q_cM q_AM (q_uI q_IM 0 39 0) q_J0, 34, 31630)) rfl rfl ?_ ?_
                  · refine q_Ca_of (Nat.le_of_ble_eq_true rfl) ?_
                    refine q_Ru_seg (g2 := (14, [(0, .ref 64), (1, .int 0)], [.int 0], (q_cM q_AM (q_uI q_IM 0 39 0) q_J0, 34, 31630))) 6 (fun _ _ => rfl) ?_
                    exact q_Ru_ret rfl rfl
                  show q_Ru _ _ _ (58, [(0, .ref 64), (1, .int 4), (2, .int v)], [.int 0], (q_cM q_AM (q_uI q_IM 0 39 0) q_J0, 34, 31630)) _
                  refine q_Ru_seg (g2 := (78, [(3, .int 0), (0, .ref 64), (1, .int 4), (2, .int v)], [.ref 64], (q_cM (q_uA q_AM 14 (upd (upd (fun _ => 0) 3 255) 4 v)) (q_uI q_IM 0 39 0) q_J0, 34, 31630))) 12 (fun _ _ => rfl) ?_
                  refine q_Ru_call (v := none) (h2 := (q_cM (q_uA q_AM 14 (upd (upd (fun _ => 0) 3 255) 4 v)) (q_uI q_IM 0 39 0) q_J0, 34, 31630)) rfl rfl ?_ ?_
                  · refine q_Ca_of (Nat.le_of_ble_eq_true rfl) ?_
                    refine q_Ru_seg (g2 := (17, [(0, .ref 64)], [], (q_cM (q_uA q_AM 14 (upd (upd (fun _ => 0) 3 255) 4 v)) (q_uI q_IM 0 39 0) q_J0, 34, 31630))) 3 (fun _ _ => rfl) ?_
                    exact q_Ru_ret rfl rfl
                  show q_Ru _ _ _ (81, [(3, .int 0), (0, .ref 64), (1, .int 4), (2, .int v)], [], (q_cM (q_uA q_AM 14 (upd (upd (fun _ => 0) 3 255) 4 v)) (q_uI q_IM 0 39 0) q_J0, 34, 31630)) _
                  refine q_Ru_seg (g2 := (82, [(3, .int 0), (0, .ref 64), (1, .int 4), (2, .int v)], [.int 0], (q_cM (q_uA q_AM 14 (upd (upd (fun _ => 0) 3 255) 4 v)) (q_uI q_IM 0 39 0) q_J0, 34, 31630))) 1 (fun _ _ => rfl) ?_
                  exact q_Ru_ret rfl rfl
            | j201 + 5, g201, _ => exact absurd g201 (by omega)
    | false =>
      cases h203 : decide (4 < a) with
      | true =>
        refine ⟨1, 0, 0, ⟨(q_cX q_AX q_IX q_J0, 40 + 1, 26520 + 6), q_J0 39, ?_, rfl, fun h => absurd h (by decide), Nat.le_of_ble_eq_true rfl, Nat.le_of_ble_eq_true rfl⟩, ⟨(q_cM q_AM (q_uI q_IM 0 39 1) q_J0, 34, 31630), _, ?_, rfl, rfl, Nat.le_of_ble_eq_true rfl, Nat.le_of_ble_eq_true rfl⟩, fun h => absurd h (by decide)⟩
        · refine q_Ca_of (Nat.le_of_ble_eq_true rfl) ?_
          refine q_Ru_seg (g2 := (5, [(0, .ref 64), (1, .int a), (2, .int v), (3, .ref 103)], [.int v, .int a, .ref 64, .int 0, .ref 103], (q_cX q_AX q_IX q_J0, 40, 26520))) 5 (fun _ _ => rfl) ?_
          refine q_Ru_callH (E := "java/lang/IndexOutOfBoundsException") (tg := 15) (i := 4) (h2 := (q_cX q_AX q_IX q_J0, 40 + 1, 26520 + 6)) rfl rfl ?_ rfl ?_
          · refine q_Ca_of (Nat.le_of_ble_eq_true rfl) ?_
            refine q_Ru_seg (g2 := (2, [(0, .ref 64), (1, .int a), (2, .int v)], [.int 5, .int a], (q_cX q_AX q_IX q_J0, 40, 26520))) 2 (fun _ _ => rfl) ?_
            refine q_Ru_callX (E := "java/lang/IndexOutOfBoundsException") (h2 := (q_cX q_AX q_IX q_J0, 40 + 1, 26520 + 6)) rfl rfl ?_
            refine q_Ca_of (Nat.le_of_ble_eq_true rfl) ?_
            refine q_Ru_seg (g2 := (1, [(0, .int a), (1, .int 5)], [.int a], (q_cX q_AX q_IX q_J0, 40, 26520))) 1 (fun _ _ => rfl) ?_
            refine q_Ru_rsF (g2 := (4, [(0, .int a), (1, .int 5)], [], (q_cX q_AX q_IX q_J0, 40, 26520))) rfl rfl h192 ?_
            refine q_Ru_seg (g2 := (6, [(0, .int a), (1, .int 5)], [.int 5, .int a], (q_cX q_AX q_IX q_J0, 40, 26520))) 2 (fun _ _ => rfl) ?_
            refine q_Ru_rsF (g2 := (9, [(0, .int a), (1, .int 5)], [], (q_cX q_AX q_IX q_J0, 40, 26520))) rfl rfl h193 ?_
            exact q_Ru_thr rfl rfl
          show q_Ru _ _ _ (15, [(0, .ref 64), (1, .int a), (2, .int v), (3, .ref 103)], [], (q_cX q_AX q_IX q_J0, 40 + 1, 26520 + 6)) _
          refine q_Ru_seg (g2 := (16, [(0, .ref 64), (1, .int a), (2, .int v), (3, .ref 103)], [.int 1], (q_cX q_AX q_IX q_J0, 40 + 1, 26520 + 6))) 1 (fun _ _ => rfl) ?_
          exact q_Ru_ret rfl rfl
        · refine q_Ca_of (Nat.le_of_ble_eq_true rfl) ?_
          refine q_Ru_seg (g2 := (4, [(0, .ref 64), (1, .int a), (2, .int v)], [.int 4, .int 0, .int a, .ref 64], (q_cM q_AM q_IM q_J0, 34, 31630))) 4 (fun _ _ => rfl) ?_
          refine q_Ru_call (v := (some (.int 0))) (h2 := (q_cM q_AM q_IM q_J0, 34, 31630)) rfl rfl ?_ ?_
          · refine q_Ca_of (Nat.le_of_ble_eq_true rfl) ?_
            refine q_Ru_seg (g2 := (2, [(0, .int a), (1, .int 0), (2, .int 4)], [.int 0, .int a], (q_cM q_AM q_IM q_J0, 34, 31630))) 2 (fun _ _ => rfl) ?_
            refine q_Ru_rsF (g2 := (5, [(0, .int a), (1, .int 0), (2, .int 4)], [], (q_cM q_AM q_IM q_J0, 34, 31630))) rfl rfl h192 ?_
            refine q_Ru_seg (g2 := (7, [(0, .int a), (1, .int 0), (2, .int 4)], [.int 4, .int a], (q_cM q_AM q_IM q_J0, 34, 31630))) 2 (fun _ _ => rfl) ?_
            refine q_Ru_rsT (g2 := (14, [(0, .int a), (1, .int 0), (2, .int 4)], [], (q_cM q_AM q_IM q_J0, 34, 31630))) rfl rfl h203 ?_
            refine q_Ru_seg (g2 := (15, [(0, .int a), (1, .int 0), (2, .int 4)], [.int 0], (q_cM q_AM q_IM q_J0, 34, 31630))) 1 (fun _ _ => rfl) ?_
            exact q_Ru_ret rfl rfl
          show q_Ru _ _ _ (7, [(0, .ref 64), (1, .int a), (2, .int v)], [.int 0, .ref 64], (q_cM q_AM q_IM q_J0, 34, 31630)) _
          refine q_Ru_seg (g2 := (55, [(0, .ref 64), (1, .int a), (2, .int v)], [.int 1, .ref 64], (q_cM q_AM q_IM q_J0, 34, 31630))) 3 (fun _ _ => rfl) ?_
          refine q_Ru_call (v := (some (.int 1))) (h2 := (q_cM q_AM (q_uI q_IM 0 39 1) q_J0, 34, 31630)) rfl rfl ?_ ?_
          · refine q_Ca_of (Nat.le_of_ble_eq_true rfl) ?_
            refine q_Ru_seg (g2 := (14, [(0, .ref 64), (1, .int 1)], [.int 1], (q_cM q_AM (q_uI q_IM 0 39 1) q_J0, 34, 31630))) 7 (fun _ _ => rfl) ?_
            exact q_Ru_ret rfl rfl
          show q_Ru _ _ _ (58, [(0, .ref 64), (1, .int a), (2, .int v)], [.int 1], (q_cM q_AM (q_uI q_IM 0 39 1) q_J0, 34, 31630)) _
          refine q_Ru_seg (g2 := (62, [(0, .ref 64), (1, .int a), (2, .int v)], [.int 0], (q_cM q_AM (q_uI q_IM 0 39 1) q_J0, 34, 31630))) 2 (fun _ _ => rfl) ?_
          exact q_Ru_ret rfl rfl
      | false =>
        exact q_no (q_lo1 h193) (q_hi2 h203) (by decide)
set_option maxHeartbeats 20000000 in
theorem q_op_level (a : Int32) : ∃ (r b : Int32) (w : Int64), q_opX 17 [.int a] r w ∧ q_opM 297 [.int a] r (.int b) ∧ (r = 0 → w = b.toInt64) := by
  cases h204 : decide (a < 0) with
  | true =>
    refine ⟨1, 0, 0, ⟨(q_cX q_AX q_IX q_J0, 40 + 1, 26520 + 6), q_J0 39, ?_, rfl, fun h => absurd h (by decide), Nat.le_of_ble_eq_true rfl, Nat.le_of_ble_eq_true rfl⟩, ⟨(q_cM q_AM (q_uI q_IM 0 39 1) q_J0, 34, 31630), _, ?_, rfl, rfl, Nat.le_of_ble_eq_true rfl, Nat.le_of_ble_eq_true rfl⟩, fun h => absurd h (by decide)⟩
    · refine q_Ca_of (Nat.le_of_ble_eq_true rfl) ?_
      refine q_Ru_seg (g2 := (4, [(0, .ref 64), (1, .int a), (2, .ref 103)], [.int a, .ref 64, .int 0, .ref 103], (q_cX q_AX q_IX q_J0, 40, 26520))) 4 (fun _ _ => rfl) ?_
      refine q_Ru_callH (E := "java/lang/IndexOutOfBoundsException") (tg := 13) (i := 3) (h2 := (q_cX q_AX q_IX q_J0, 40 + 1, 26520 + 6)) rfl rfl ?_ rfl ?_
      · refine q_Ca_of (Nat.le_of_ble_eq_true rfl) ?_
        refine q_Ru_seg (g2 := (2, [(0, .ref 64), (1, .int a)], [.int 3, .int a], (q_cX q_AX q_IX q_J0, 40, 26520))) 2 (fun _ _ => rfl) ?_
        refine q_Ru_callX (E := "java/lang/IndexOutOfBoundsException") (h2 := (q_cX q_AX q_IX q_J0, 40 + 1, 26520 + 6)) rfl rfl ?_
        refine q_Ca_of (Nat.le_of_ble_eq_true rfl) ?_
        refine q_Ru_seg (g2 := (1, [(0, .int a), (1, .int 3)], [.int a], (q_cX q_AX q_IX q_J0, 40, 26520))) 1 (fun _ _ => rfl) ?_
        refine q_Ru_rsT (g2 := (9, [(0, .int a), (1, .int 3)], [], (q_cX q_AX q_IX q_J0, 40, 26520))) rfl rfl h204 ?_
        exact q_Ru_thr rfl rfl
      show q_Ru _ _ _ (13, [(0, .ref 64), (1, .int a), (2, .ref 103)], [], (q_cX q_AX q_IX q_J0, 40 + 1, 26520 + 6)) _
      refine q_Ru_seg (g2 := (14, [(0, .ref 64), (1, .int a), (2, .ref 103)], [.int 1], (q_cX q_AX q_IX q_J0, 40 + 1, 26520 + 6))) 1 (fun _ _ => rfl) ?_
      exact q_Ru_ret rfl rfl
    · refine q_Ca_of (Nat.le_of_ble_eq_true rfl) ?_
      refine q_Ru_seg (g2 := (4, [(0, .ref 64), (1, .int a)], [.int 2, .int 0, .int a, .ref 64], (q_cM q_AM q_IM q_J0, 34, 31630))) 4 (fun _ _ => rfl) ?_
      refine q_Ru_call (v := (some (.int 0))) (h2 := (q_cM q_AM q_IM q_J0, 34, 31630)) rfl rfl ?_ ?_
      · refine q_Ca_of (Nat.le_of_ble_eq_true rfl) ?_
        refine q_Ru_seg (g2 := (2, [(0, .int a), (1, .int 0), (2, .int 2)], [.int 0, .int a], (q_cM q_AM q_IM q_J0, 34, 31630))) 2 (fun _ _ => rfl) ?_
        refine q_Ru_rsT (g2 := (14, [(0, .int a), (1, .int 0), (2, .int 2)], [], (q_cM q_AM q_IM q_J0, 34, 31630))) rfl rfl h204 ?_
        refine q_Ru_seg (g2 := (15, [(0, .int a), (1, .int 0), (2, .int 2)], [.int 0], (q_cM q_AM q_IM q_J0, 34, 31630))) 1 (fun _ _ => rfl) ?_
        exact q_Ru_ret rfl rfl
      show q_Ru _ _ _ (7, [(0, .ref 64), (1, .int a)], [.int 0, .ref 64], (q_cM q_AM q_IM q_J0, 34, 31630)) _
      refine q_Ru_seg (g2 := (15, [(0, .ref 64), (1, .int a)], [.int 1, .ref 64], (q_cM q_AM q_IM q_J0, 34, 31630))) 2 (fun _ _ => rfl) ?_
      refine q_Ru_call (v := (some (.int 1))) (h2 := (q_cM q_AM (q_uI q_IM 0 39 1) q_J0, 34, 31630)) rfl rfl ?_ ?_
      · refine q_Ca_of (Nat.le_of_ble_eq_true rfl) ?_
        refine q_Ru_seg (g2 := (14, [(0, .ref 64), (1, .int 1)], [.int 1], (q_cM q_AM (q_uI q_IM 0 39 1) q_J0, 34, 31630))) 7 (fun _ _ => rfl) ?_
        exact q_Ru_ret rfl rfl
      show q_Ru _ _ _ (18, [(0, .ref 64), (1, .int a)], [.int 1], (q_cM q_AM (q_uI q_IM 0 39 1) q_J0, 34, 31630)) _
      refine q_Ru_seg (g2 := (31, [(0, .ref 64), (1, .int a)], [.int 0], (q_cM q_AM (q_uI q_IM 0 39 1) q_J0, 34, 31630))) 3 (fun _ _ => rfl) ?_
      exact q_Ru_ret rfl rfl
  | false =>
    cases h205 : decide (a < 3) with
    | true =>
      cases h206 : decide (2 < a) with
      | true =>
        exact q_no (q_lo2 h206) (q_hi1 h205) (by decide)
      | false =>
        refine ⟨0, 0, 0, ⟨(q_cX q_AX q_IX (q_uA q_J0 39 (vp_updL (fun _ => 0) 0 0)), 40, 26520), (q_uA q_J0 39 (vp_updL (fun _ => 0) 0 0)) 39, ?_, rfl, fun _ => rfl, Nat.le_of_ble_eq_true rfl, Nat.le_of_ble_eq_true rfl⟩, ⟨(q_cM q_AM (q_uI q_IM 0 39 0) q_J0, 34, 31630), _, ?_, rfl, rfl, Nat.le_of_ble_eq_true rfl, Nat.le_of_ble_eq_true rfl⟩, fun _ => rfl⟩
        · refine q_Ca_of (Nat.le_of_ble_eq_true rfl) ?_
          refine q_Ru_seg (g2 := (4, [(0, .ref 64), (1, .int a), (2, .ref 103)], [.int a, .ref 64, .int 0, .ref 103], (q_cX q_AX q_IX q_J0, 40, 26520))) 4 (fun _ _ => rfl) ?_
          refine q_Ru_call (v := (some (.int 0))) (h2 := (q_cX q_AX q_IX q_J0, 40, 26520)) rfl rfl ?_ ?_
          · refine q_Ca_of (Nat.le_of_ble_eq_true rfl) ?_
            refine q_Ru_seg (g2 := (2, [(0, .ref 64), (1, .int a)], [.int 3, .int a], (q_cX q_AX q_IX q_J0, 40, 26520))) 2 (fun _ _ => rfl) ?_
            refine q_Ru_call (v := none) (h2 := (q_cX q_AX q_IX q_J0, 40, 26520)) rfl rfl ?_ ?_
            · refine q_Ca_of (Nat.le_of_ble_eq_true rfl) ?_
              refine q_Ru_seg (g2 := (1, [(0, .int a), (1, .int 3)], [.int a], (q_cX q_AX q_IX q_J0, 40, 26520))) 1 (fun _ _ => rfl) ?_
              refine q_Ru_rsF (g2 := (4, [(0, .int a), (1, .int 3)], [], (q_cX q_AX q_IX q_J0, 40, 26520))) rfl rfl h204 ?_
              refine q_Ru_seg (g2 := (6, [(0, .int a), (1, .int 3)], [.int 3, .int a], (q_cX q_AX q_IX q_J0, 40, 26520))) 2 (fun _ _ => rfl) ?_
              refine q_Ru_rsT (g2 := (19, [(0, .int a), (1, .int 3)], [], (q_cX q_AX q_IX q_J0, 40, 26520))) rfl rfl h205 ?_
              exact q_Ru_ret rfl rfl
            show q_Ru _ _ _ (5, [(0, .ref 64), (1, .int a)], [], (q_cX q_AX q_IX q_J0, 40, 26520)) _
            refine q_Ru_seg (g2 := (16, [(0, .ref 64), (1, .int a)], [.int a, .ref 92], (q_cX q_AX q_IX q_J0, 40, 26520))) 5 (fun _ _ => rfl) ?_
            refine q_Ru_rsT (g2 := (17, [(0, .ref 64), (1, .int a)], [.int 0], (q_cX q_AX q_IX q_J0, 40, 26520))) rfl rfl (q_in_bd (x := a) (n := 3) (U := 2) (L := 0) (q_lo1 h204) (q_hi1 h205)) ?_
            exact q_Ru_ret rfl rfl
          show q_Ru _ _ _ (7, [(0, .ref 64), (1, .int a), (2, .ref 103)], [.int 0, .int 0, .ref 103], (q_cX q_AX q_IX q_J0, 40, 26520)) _
          refine q_Ru_seg (g2 := (16, [(0, .ref 64), (1, .int a), (2, .ref 103)], [.int 0], (q_cX q_AX q_IX (q_uA q_J0 39 (vp_updL (fun _ => 0) 0 0)), 40, 26520))) 4 (fun _ _ => rfl) ?_
          exact q_Ru_ret rfl rfl
        · refine q_Ca_of (Nat.le_of_ble_eq_true rfl) ?_
          refine q_Ru_seg (g2 := (4, [(0, .ref 64), (1, .int a)], [.int 2, .int 0, .int a, .ref 64], (q_cM q_AM q_IM q_J0, 34, 31630))) 4 (fun _ _ => rfl) ?_
          refine q_Ru_call (v := (some (.int 1))) (h2 := (q_cM q_AM q_IM q_J0, 34, 31630)) rfl rfl ?_ ?_
          · refine q_Ca_of (Nat.le_of_ble_eq_true rfl) ?_
            refine q_Ru_seg (g2 := (2, [(0, .int a), (1, .int 0), (2, .int 2)], [.int 0, .int a], (q_cM q_AM q_IM q_J0, 34, 31630))) 2 (fun _ _ => rfl) ?_
            refine q_Ru_rsF (g2 := (5, [(0, .int a), (1, .int 0), (2, .int 2)], [], (q_cM q_AM q_IM q_J0, 34, 31630))) rfl rfl h204 ?_
            refine q_Ru_seg (g2 := (7, [(0, .int a), (1, .int 0), (2, .int 2)], [.int 2, .int a], (q_cM q_AM q_IM q_J0, 34, 31630))) 2 (fun _ _ => rfl) ?_
            refine q_Ru_rsF (g2 := (10, [(0, .int a), (1, .int 0), (2, .int 2)], [], (q_cM q_AM q_IM q_J0, 34, 31630))) rfl rfl h206 ?_
            refine q_Ru_seg (g2 := (15, [(0, .int a), (1, .int 0), (2, .int 2)], [.int 1], (q_cM q_AM q_IM q_J0, 34, 31630))) 2 (fun _ _ => rfl) ?_
            exact q_Ru_ret rfl rfl
          show q_Ru _ _ _ (7, [(0, .ref 64), (1, .int a)], [.int 1, .ref 64], (q_cM q_AM q_IM q_J0, 34, 31630)) _
          refine q_Ru_seg (g2 := (15, [(0, .ref 64), (1, .int a)], [.int 0, .ref 64], (q_cM q_AM q_IM q_J0, 34, 31630))) 3 (fun _ _ => rfl) ?_
          refine q_Ru_call (v := (some (.int 0))) (h2 := (q_cM q_AM (q_uI q_IM 0 39 0) q_J0, 34, 31630)) rfl rfl ?_ ?_
          · refine q_Ca_of (Nat.le_of_ble_eq_true rfl) ?_
            refine q_Ru_seg (g2 := (14, [(0, .ref 64), (1, .int 0)], [.int 0], (q_cM q_AM (q_uI q_IM 0 39 0) q_J0, 34, 31630))) 6 (fun _ _ => rfl) ?_
            exact q_Ru_ret rfl rfl
          show q_Ru _ _ _ (18, [(0, .ref 64), (1, .int a)], [.int 0], (q_cM q_AM (q_uI q_IM 0 39 0) q_J0, 34, 31630)) _
          refine q_Ru_seg (g2 := (30, [(0, .ref 64), (1, .int a)], [.int a, .ref 75], (q_cM q_AM (q_uI q_IM 0 39 0) q_J0, 34, 31630))) 4 (fun _ _ => rfl) ?_
          refine q_Ru_rsT (g2 := (31, [(0, .ref 64), (1, .int a)], [.int 0], (q_cM q_AM (q_uI q_IM 0 39 0) q_J0, 34, 31630))) rfl rfl (q_in_bd (x := a) (n := 3) (U := 2) (L := 0) (q_lo1 h204) (q_hi1 h205)) ?_
          exact q_Ru_ret rfl rfl
    | false =>
      cases h207 : decide (2 < a) with
      | true =>
        refine ⟨1, 0, 0, ⟨(q_cX q_AX q_IX q_J0, 40 + 1, 26520 + 6), q_J0 39, ?_, rfl, fun h => absurd h (by decide), Nat.le_of_ble_eq_true rfl, Nat.le_of_ble_eq_true rfl⟩, ⟨(q_cM q_AM (q_uI q_IM 0 39 1) q_J0, 34, 31630), _, ?_, rfl, rfl, Nat.le_of_ble_eq_true rfl, Nat.le_of_ble_eq_true rfl⟩, fun h => absurd h (by decide)⟩
        · refine q_Ca_of (Nat.le_of_ble_eq_true rfl) ?_
          refine q_Ru_seg (g2 := (4, [(0, .ref 64), (1, .int a), (2, .ref 103)], [.int a, .ref 64, .int 0, .ref 103], (q_cX q_AX q_IX q_J0, 40, 26520))) 4 (fun _ _ => rfl) ?_
          refine q_Ru_callH (E := "java/lang/IndexOutOfBoundsException") (tg := 13) (i := 3) (h2 := (q_cX q_AX q_IX q_J0, 40 + 1, 26520 + 6)) rfl rfl ?_ rfl ?_
          · refine q_Ca_of (Nat.le_of_ble_eq_true rfl) ?_
            refine q_Ru_seg (g2 := (2, [(0, .ref 64), (1, .int a)], [.int 3, .int a], (q_cX q_AX q_IX q_J0, 40, 26520))) 2 (fun _ _ => rfl) ?_
            refine q_Ru_callX (E := "java/lang/IndexOutOfBoundsException") (h2 := (q_cX q_AX q_IX q_J0, 40 + 1, 26520 + 6)) rfl rfl ?_
            refine q_Ca_of (Nat.le_of_ble_eq_true rfl) ?_
            refine q_Ru_seg (g2 := (1, [(0, .int a), (1, .int 3)], [.int a], (q_cX q_AX q_IX q_J0, 40, 26520))) 1 (fun _ _ => rfl) ?_
            refine q_Ru_rsF (g2 := (4, [(0, .int a), (1, .int 3)], [], (q_cX q_AX q_IX q_J0, 40, 26520))) rfl rfl h204 ?_
            refine q_Ru_seg (g2 := (6, [(0, .int a), (1, .int 3)], [.int 3, .int a], (q_cX q_AX q_IX q_J0, 40, 26520))) 2 (fun _ _ => rfl) ?_
            refine q_Ru_rsF (g2 := (9, [(0, .int a), (1, .int 3)], [], (q_cX q_AX q_IX q_J0, 40, 26520))) rfl rfl h205 ?_
            exact q_Ru_thr rfl rfl
          show q_Ru _ _ _ (13, [(0, .ref 64), (1, .int a), (2, .ref 103)], [], (q_cX q_AX q_IX q_J0, 40 + 1, 26520 + 6)) _
          refine q_Ru_seg (g2 := (14, [(0, .ref 64), (1, .int a), (2, .ref 103)], [.int 1], (q_cX q_AX q_IX q_J0, 40 + 1, 26520 + 6))) 1 (fun _ _ => rfl) ?_
          exact q_Ru_ret rfl rfl
        · refine q_Ca_of (Nat.le_of_ble_eq_true rfl) ?_
          refine q_Ru_seg (g2 := (4, [(0, .ref 64), (1, .int a)], [.int 2, .int 0, .int a, .ref 64], (q_cM q_AM q_IM q_J0, 34, 31630))) 4 (fun _ _ => rfl) ?_
          refine q_Ru_call (v := (some (.int 0))) (h2 := (q_cM q_AM q_IM q_J0, 34, 31630)) rfl rfl ?_ ?_
          · refine q_Ca_of (Nat.le_of_ble_eq_true rfl) ?_
            refine q_Ru_seg (g2 := (2, [(0, .int a), (1, .int 0), (2, .int 2)], [.int 0, .int a], (q_cM q_AM q_IM q_J0, 34, 31630))) 2 (fun _ _ => rfl) ?_
            refine q_Ru_rsF (g2 := (5, [(0, .int a), (1, .int 0), (2, .int 2)], [], (q_cM q_AM q_IM q_J0, 34, 31630))) rfl rfl h204 ?_
            refine q_Ru_seg (g2 := (7, [(0, .int a), (1, .int 0), (2, .int 2)], [.int 2, .int a], (q_cM q_AM q_IM q_J0, 34, 31630))) 2 (fun _ _ => rfl) ?_
            refine q_Ru_rsT (g2 := (14, [(0, .int a), (1, .int 0), (2, .int 2)], [], (q_cM q_AM q_IM q_J0, 34, 31630))) rfl rfl h207 ?_
            refine q_Ru_seg (g2 := (15, [(0, .int a), (1, .int 0), (2, .int 2)], [.int 0], (q_cM q_AM q_IM q_J0, 34, 31630))) 1 (fun _ _ => rfl) ?_
            exact q_Ru_ret rfl rfl
          show q_Ru _ _ _ (7, [(0, .ref 64), (1, .int a)], [.int 0, .ref 64], (q_cM q_AM q_IM q_J0, 34, 31630)) _
          refine q_Ru_seg (g2 := (15, [(0, .ref 64), (1, .int a)], [.int 1, .ref 64], (q_cM q_AM q_IM q_J0, 34, 31630))) 2 (fun _ _ => rfl) ?_
          refine q_Ru_call (v := (some (.int 1))) (h2 := (q_cM q_AM (q_uI q_IM 0 39 1) q_J0, 34, 31630)) rfl rfl ?_ ?_
          · refine q_Ca_of (Nat.le_of_ble_eq_true rfl) ?_
            refine q_Ru_seg (g2 := (14, [(0, .ref 64), (1, .int 1)], [.int 1], (q_cM q_AM (q_uI q_IM 0 39 1) q_J0, 34, 31630))) 7 (fun _ _ => rfl) ?_
            exact q_Ru_ret rfl rfl
          show q_Ru _ _ _ (18, [(0, .ref 64), (1, .int a)], [.int 1], (q_cM q_AM (q_uI q_IM 0 39 1) q_J0, 34, 31630)) _
          refine q_Ru_seg (g2 := (31, [(0, .ref 64), (1, .int a)], [.int 0], (q_cM q_AM (q_uI q_IM 0 39 1) q_J0, 34, 31630))) 3 (fun _ _ => rfl) ?_
          exact q_Ru_ret rfl rfl
      | false =>
        exact q_no (q_lo1 h205) (q_hi2 h207) (by decide)
