set_option maxHeartbeats 20000000 in
theorem q_op_writeLine99 (L : Nat) (xs : Nat → Int32) (a : Int32) : ∃ (r b : Int32) (w : Int64), q_opXT (q_TBs 99 L xs) 6 [.int a] r w ∧ q_opM 286 [.int a] r (.int b) ∧ (r = 0 → w = b.toInt64) := by
  cases h245 : decide (a < 0) with
  | true =>
    refine ⟨1, 0, 0, ⟨(q_cX q_AX q_IX q_J0, 40 + 1, 26520 + 6), q_J0 39, ?_, rfl, fun h => absurd h (by decide), Nat.le_of_ble_eq_true rfl, Nat.le_of_ble_eq_true rfl⟩, ⟨(q_cM q_AM (q_uI q_IM 0 39 1) q_J0, 34, 31630), _, ?_, rfl, rfl, Nat.le_of_ble_eq_true rfl, Nat.le_of_ble_eq_true rfl⟩, fun h => absurd h (by decide)⟩
    · refine q_Ca_of (Nat.le_of_ble_eq_true rfl) ?_
      refine q_Ru_seg (g2 := (4, [(0, .ref 64), (1, .int a), (2, .ref 103)], [.int a, .ref 64, .int 0, .ref 103], (q_cX q_AX q_IX q_J0, 40, 26520))) 4 (fun _ _ => rfl) ?_
      refine q_Ru_callH (E := "java/lang/IndexOutOfBoundsException") (tg := 13) (i := 3) (h2 := (q_cX q_AX q_IX q_J0, 40 + 1, 26520 + 6)) rfl rfl ?_ rfl ?_
      · refine q_Ca_of (Nat.le_of_ble_eq_true rfl) ?_
        refine q_Ru_seg (g2 := (1, [(0, .ref 64), (1, .int a)], [.int a], (q_cX q_AX q_IX q_J0, 40, 26520))) 1 (fun _ _ => rfl) ?_
        refine q_Ru_callX (E := "java/lang/IndexOutOfBoundsException") (h2 := (q_cX q_AX q_IX q_J0, 40 + 1, 26520 + 6)) rfl rfl ?_
        refine q_Ca_of (Nat.le_of_ble_eq_true rfl) ?_
        refine q_Ru_seg (g2 := (4, [(0, .int a)], [.int 4096, .int a], (q_cX q_AX q_IX q_J0, 40, 26520))) 2 (fun _ _ => rfl) ?_
        refine q_Ru_callX (E := "java/lang/IndexOutOfBoundsException") (h2 := (q_cX q_AX q_IX q_J0, 40 + 1, 26520 + 6)) rfl rfl ?_
        refine q_Ca_of (Nat.le_of_ble_eq_true rfl) ?_
        refine q_Ru_seg (g2 := (1, [(0, .int a), (1, .int 4096)], [.int a], (q_cX q_AX q_IX q_J0, 40, 26520))) 1 (fun _ _ => rfl) ?_
        refine q_Ru_rsT (g2 := (9, [(0, .int a), (1, .int 4096)], [], (q_cX q_AX q_IX q_J0, 40, 26520))) rfl rfl h245 ?_
        exact q_Ru_thr rfl rfl
      show q_Ru _ _ _ (13, [(0, .ref 64), (1, .int a), (2, .ref 103)], [], (q_cX q_AX q_IX q_J0, 40 + 1, 26520 + 6)) _
      refine q_Ru_seg (g2 := (14, [(0, .ref 64), (1, .int a), (2, .ref 103)], [.int 1], (q_cX q_AX q_IX q_J0, 40 + 1, 26520 + 6))) 1 (fun _ _ => rfl) ?_
      exact q_Ru_ret rfl rfl
    · refine q_Ca_of (Nat.le_of_ble_eq_true rfl) ?_
      refine q_Ru_seg (g2 := (2, [(0, .ref 64), (1, .int a)], [.int a, .ref 64], (q_cM q_AM q_IM q_J0, 34, 31630))) 2 (fun _ _ => rfl) ?_
      refine q_Ru_call (v := (some (.int 1))) (h2 := (q_cM q_AM q_IM q_J0, 34, 31630)) rfl rfl ?_ ?_
      · refine q_Ca_of (Nat.le_of_ble_eq_true rfl) ?_
        refine q_Ru_seg (g2 := (5, [(0, .int a)], [.int 4095, .int 0, .int a], (q_cM q_AM q_IM q_J0, 34, 31630))) 3 (fun _ _ => rfl) ?_
        refine q_Ru_call (v := (some (.int 0))) (h2 := (q_cM q_AM q_IM q_J0, 34, 31630)) rfl rfl ?_ ?_
        · refine q_Ca_of (Nat.le_of_ble_eq_true rfl) ?_
          refine q_Ru_seg (g2 := (2, [(0, .int a), (1, .int 0), (2, .int 4095)], [.int 0, .int a], (q_cM q_AM q_IM q_J0, 34, 31630))) 2 (fun _ _ => rfl) ?_
          refine q_Ru_rsT (g2 := (14, [(0, .int a), (1, .int 0), (2, .int 4095)], [], (q_cM q_AM q_IM q_J0, 34, 31630))) rfl rfl h245 ?_
          refine q_Ru_seg (g2 := (15, [(0, .int a), (1, .int 0), (2, .int 4095)], [.int 0], (q_cM q_AM q_IM q_J0, 34, 31630))) 1 (fun _ _ => rfl) ?_
          exact q_Ru_ret rfl rfl
        show q_Ru _ _ _ (8, [(0, .int a)], [.int 0], (q_cM q_AM q_IM q_J0, 34, 31630)) _
        refine q_Ru_seg (g2 := (16, [(0, .int a)], [.int 1], (q_cM q_AM q_IM q_J0, 34, 31630))) 3 (fun _ _ => rfl) ?_
        exact q_Ru_ret rfl rfl
      show q_Ru _ _ _ (5, [(0, .ref 64), (1, .int a)], [.int 1, .ref 64], (q_cM q_AM q_IM q_J0, 34, 31630)) _
      refine q_Ru_seg (g2 := (13, [(0, .ref 64), (1, .int a)], [.int 1, .ref 64], (q_cM q_AM q_IM q_J0, 34, 31630))) 3 (fun _ _ => rfl) ?_
      refine q_Ru_call (v := (some (.int 1))) (h2 := (q_cM q_AM (q_uI q_IM 0 39 1) q_J0, 34, 31630)) rfl rfl ?_ ?_
      · refine q_Ca_of (Nat.le_of_ble_eq_true rfl) ?_
        refine q_Ru_seg (g2 := (14, [(0, .ref 64), (1, .int 1)], [.int 1], (q_cM q_AM (q_uI q_IM 0 39 1) q_J0, 34, 31630))) 7 (fun _ _ => rfl) ?_
        exact q_Ru_ret rfl rfl
      show q_Ru _ _ _ (16, [(0, .ref 64), (1, .int a)], [.int 1], (q_cM q_AM (q_uI q_IM 0 39 1) q_J0, 34, 31630)) _
      refine q_Ru_seg (g2 := (20, [(0, .ref 64), (1, .int a)], [.int 0], (q_cM q_AM (q_uI q_IM 0 39 1) q_J0, 34, 31630))) 2 (fun _ _ => rfl) ?_
      exact q_Ru_ret rfl rfl
  | false =>
    cases h246 : decide (a < 4096) with
    | true =>
      by_cases w0 : a.toInt ≤ 9
      · exact q_op_writeLine99_0 L xs a (by have e9 : 0 ≤ a.toInt := (q_lo1 h245); omega) w0
      by_cases w1 : a.toInt ≤ 99
      · exact q_op_writeLine99_1 L xs a (by have e9 : 0 ≤ a.toInt := (q_lo1 h245); omega) w1
      by_cases w2 : a.toInt ≤ 999
      · exact q_op_writeLine99_2 L xs a (by have e9 : 0 ≤ a.toInt := (q_lo1 h245); omega) w2
      exact q_op_writeLine99_3 L xs a (by omega) (q_hi1 h246)
    | false =>
      cases h247 : decide (4095 < a) with
      | true =>
        refine ⟨1, 0, 0, ⟨(q_cX q_AX q_IX q_J0, 40 + 1, 26520 + 6), q_J0 39, ?_, rfl, fun h => absurd h (by decide), Nat.le_of_ble_eq_true rfl, Nat.le_of_ble_eq_true rfl⟩, ⟨(q_cM q_AM (q_uI q_IM 0 39 1) q_J0, 34, 31630), _, ?_, rfl, rfl, Nat.le_of_ble_eq_true rfl, Nat.le_of_ble_eq_true rfl⟩, fun h => absurd h (by decide)⟩
        · refine q_Ca_of (Nat.le_of_ble_eq_true rfl) ?_
          refine q_Ru_seg (g2 := (4, [(0, .ref 64), (1, .int a), (2, .ref 103)], [.int a, .ref 64, .int 0, .ref 103], (q_cX q_AX q_IX q_J0, 40, 26520))) 4 (fun _ _ => rfl) ?_
          refine q_Ru_callH (E := "java/lang/IndexOutOfBoundsException") (tg := 13) (i := 3) (h2 := (q_cX q_AX q_IX q_J0, 40 + 1, 26520 + 6)) rfl rfl ?_ rfl ?_
          · refine q_Ca_of (Nat.le_of_ble_eq_true rfl) ?_
            refine q_Ru_seg (g2 := (1, [(0, .ref 64), (1, .int a)], [.int a], (q_cX q_AX q_IX q_J0, 40, 26520))) 1 (fun _ _ => rfl) ?_
            refine q_Ru_callX (E := "java/lang/IndexOutOfBoundsException") (h2 := (q_cX q_AX q_IX q_J0, 40 + 1, 26520 + 6)) rfl rfl ?_
            refine q_Ca_of (Nat.le_of_ble_eq_true rfl) ?_
            refine q_Ru_seg (g2 := (4, [(0, .int a)], [.int 4096, .int a], (q_cX q_AX q_IX q_J0, 40, 26520))) 2 (fun _ _ => rfl) ?_
            refine q_Ru_callX (E := "java/lang/IndexOutOfBoundsException") (h2 := (q_cX q_AX q_IX q_J0, 40 + 1, 26520 + 6)) rfl rfl ?_
            refine q_Ca_of (Nat.le_of_ble_eq_true rfl) ?_
            refine q_Ru_seg (g2 := (1, [(0, .int a), (1, .int 4096)], [.int a], (q_cX q_AX q_IX q_J0, 40, 26520))) 1 (fun _ _ => rfl) ?_
            refine q_Ru_rsF (g2 := (4, [(0, .int a), (1, .int 4096)], [], (q_cX q_AX q_IX q_J0, 40, 26520))) rfl rfl h245 ?_
            refine q_Ru_seg (g2 := (6, [(0, .int a), (1, .int 4096)], [.int 4096, .int a], (q_cX q_AX q_IX q_J0, 40, 26520))) 2 (fun _ _ => rfl) ?_
            refine q_Ru_rsF (g2 := (9, [(0, .int a), (1, .int 4096)], [], (q_cX q_AX q_IX q_J0, 40, 26520))) rfl rfl h246 ?_
            exact q_Ru_thr rfl rfl
          show q_Ru _ _ _ (13, [(0, .ref 64), (1, .int a), (2, .ref 103)], [], (q_cX q_AX q_IX q_J0, 40 + 1, 26520 + 6)) _
          refine q_Ru_seg (g2 := (14, [(0, .ref 64), (1, .int a), (2, .ref 103)], [.int 1], (q_cX q_AX q_IX q_J0, 40 + 1, 26520 + 6))) 1 (fun _ _ => rfl) ?_
          exact q_Ru_ret rfl rfl
        · refine q_Ca_of (Nat.le_of_ble_eq_true rfl) ?_
          refine q_Ru_seg (g2 := (2, [(0, .ref 64), (1, .int a)], [.int a, .ref 64], (q_cM q_AM q_IM q_J0, 34, 31630))) 2 (fun _ _ => rfl) ?_
          refine q_Ru_call (v := (some (.int 1))) (h2 := (q_cM q_AM q_IM q_J0, 34, 31630)) rfl rfl ?_ ?_
          · refine q_Ca_of (Nat.le_of_ble_eq_true rfl) ?_
            refine q_Ru_seg (g2 := (5, [(0, .int a)], [.int 4095, .int 0, .int a], (q_cM q_AM q_IM q_J0, 34, 31630))) 3 (fun _ _ => rfl) ?_
            refine q_Ru_call (v := (some (.int 0))) (h2 := (q_cM q_AM q_IM q_J0, 34, 31630)) rfl rfl ?_ ?_
            · refine q_Ca_of (Nat.le_of_ble_eq_true rfl) ?_
              refine q_Ru_seg (g2 := (2, [(0, .int a), (1, .int 0), (2, .int 4095)], [.int 0, .int a], (q_cM q_AM q_IM q_J0, 34, 31630))) 2 (fun _ _ => rfl) ?_
              refine q_Ru_rsF (g2 := (5, [(0, .int a), (1, .int 0), (2, .int 4095)], [], (q_cM q_AM q_IM q_J0, 34, 31630))) rfl rfl h245 ?_
              refine q_Ru_seg (g2 := (7, [(0, .int a), (1, .int 0), (2, .int 4095)], [.int 4095, .int a], (q_cM q_AM q_IM q_J0, 34, 31630))) 2 (fun _ _ => rfl) ?_
              refine q_Ru_rsT (g2 := (14, [(0, .int a), (1, .int 0), (2, .int 4095)], [], (q_cM q_AM q_IM q_J0, 34, 31630))) rfl rfl h247 ?_
              refine q_Ru_seg (g2 := (15, [(0, .int a), (1, .int 0), (2, .int 4095)], [.int 0], (q_cM q_AM q_IM q_J0, 34, 31630))) 1 (fun _ _ => rfl) ?_
              exact q_Ru_ret rfl rfl
            show q_Ru _ _ _ (8, [(0, .int a)], [.int 0], (q_cM q_AM q_IM q_J0, 34, 31630)) _
            refine q_Ru_seg (g2 := (16, [(0, .int a)], [.int 1], (q_cM q_AM q_IM q_J0, 34, 31630))) 3 (fun _ _ => rfl) ?_
            exact q_Ru_ret rfl rfl
          show q_Ru _ _ _ (5, [(0, .ref 64), (1, .int a)], [.int 1, .ref 64], (q_cM q_AM q_IM q_J0, 34, 31630)) _
          refine q_Ru_seg (g2 := (13, [(0, .ref 64), (1, .int a)], [.int 1, .ref 64], (q_cM q_AM q_IM q_J0, 34, 31630))) 3 (fun _ _ => rfl) ?_
          refine q_Ru_call (v := (some (.int 1))) (h2 := (q_cM q_AM (q_uI q_IM 0 39 1) q_J0, 34, 31630)) rfl rfl ?_ ?_
          · refine q_Ca_of (Nat.le_of_ble_eq_true rfl) ?_
            refine q_Ru_seg (g2 := (14, [(0, .ref 64), (1, .int 1)], [.int 1], (q_cM q_AM (q_uI q_IM 0 39 1) q_J0, 34, 31630))) 7 (fun _ _ => rfl) ?_
            exact q_Ru_ret rfl rfl
          show q_Ru _ _ _ (16, [(0, .ref 64), (1, .int a)], [.int 1], (q_cM q_AM (q_uI q_IM 0 39 1) q_J0, 34, 31630)) _
          refine q_Ru_seg (g2 := (20, [(0, .ref 64), (1, .int a)], [.int 0], (q_cM q_AM (q_uI q_IM 0 39 1) q_J0, 34, 31630))) 2 (fun _ _ => rfl) ?_
          exact q_Ru_ret rfl rfl
      | false =>
        exact q_no (q_lo1 h246) (q_hi2 h247) (by decide)
theorem q_op_writeLine (z : Nat) (hz : z = 98 ∨ z = 99) (L : Nat) (xs : Nat → Int32) (a : Int32) : ∃ (r b : Int32) (w : Int64), q_opXT (q_TBs z L xs) 6 [.int a] r w ∧ q_opM 286 [.int a] r (.int b) ∧ (r = 0 → w = b.toInt64) := by
  rcases hz with rfl | rfl
  · exact q_op_writeLine98 L xs a
  · exact q_op_writeLine99 L xs a
