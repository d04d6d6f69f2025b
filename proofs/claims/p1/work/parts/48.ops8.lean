set_option maxHeartbeats 20000000 in
theorem q_op_peek (a : Int32) : ∃ (r b : Int32) (w : Int64), q_opX 3 [.int a] r w ∧ q_opM 219 [.int a] r (.int b) ∧ (r = 0 → w = b.toInt64) := by
  cases h208 : decide (a < 0) with
  | true =>
    refine ⟨1, 0, 0, ⟨(q_cX q_AX q_IX q_J0, 40 + 1, 26520 + 6), q_J0 39, ?_, rfl, fun h => absurd h (by decide), Nat.le_of_ble_eq_true rfl, Nat.le_of_ble_eq_true rfl⟩, ⟨(q_cM q_AM (q_uI q_IM 0 39 1) q_J0, 34, 31630), _, ?_, rfl, rfl, Nat.le_of_ble_eq_true rfl, Nat.le_of_ble_eq_true rfl⟩, fun h => absurd h (by decide)⟩
    · refine q_Ca_of (Nat.le_of_ble_eq_true rfl) ?_
      refine q_Ru_seg (g2 := (4, [(0, .ref 64), (1, .int a), (2, .ref 103)], [.int a, .ref 64, .int 0, .ref 103], (q_cX q_AX q_IX q_J0, 40, 26520))) 4 (fun _ _ => rfl) ?_
      refine q_Ru_callH (E := "java/lang/IndexOutOfBoundsException") (tg := 13) (i := 3) (h2 := (q_cX q_AX q_IX q_J0, 40 + 1, 26520 + 6)) rfl rfl ?_ rfl ?_
      · refine q_Ca_of (Nat.le_of_ble_eq_true rfl) ?_
        refine q_Ru_seg (g2 := (1, [(0, .ref 64), (1, .int a)], [.int a], (q_cX q_AX q_IX q_J0, 40, 26520))) 1 (fun _ _ => rfl) ?_
        refine q_Ru_callX (E := "java/lang/IndexOutOfBoundsException") (h2 := (q_cX q_AX q_IX q_J0, 40 + 1, 26520 + 6)) rfl rfl ?_
        refine q_Ca_of (Nat.le_of_ble_eq_true rfl) ?_
        refine q_Ru_seg (g2 := (4, [(0, .int a)], [.int 4096, .int a], (q_cX q_AX q_IX q_J0, 40, 26520))) 2 (fun _ _ => rfl) ?_
        refine q_Ru_callX (E := "java/lang/IndexOutOfBoundsException") (h2 := (q_cX q_AX q_IX q_J0, 40 + 1, 26520 + 6)) rfl rfl ?_
        refine q_Ca_of (Nat.le_of_ble_eq_true rfl) ?_
        refine q_Ru_seg (g2 := (1, [(0, .int a), (1, .int 4096)], [.int a], (q_cX q_AX q_IX q_J0, 40, 26520))) 1 (fun _ _ => rfl) ?_
        refine q_Ru_rsT (g2 := (9, [(0, .int a), (1, .int 4096)], [], (q_cX q_AX q_IX q_J0, 40, 26520))) rfl rfl h208 ?_
        exact q_Ru_thr rfl rfl
      show q_Ru _ _ _ (13, [(0, .ref 64), (1, .int a), (2, .ref 103)], [], (q_cX q_AX q_IX q_J0, 40 + 1, 26520 + 6)) _
      refine q_Ru_seg (g2 := (14, [(0, .ref 64), (1, .int a), (2, .ref 103)], [.int 1], (q_cX q_AX q_IX q_J0, 40 + 1, 26520 + 6))) 1 (fun _ _ => rfl) ?_
      exact q_Ru_ret rfl rfl
    · refine q_Ca_of (Nat.le_of_ble_eq_true rfl) ?_
      refine q_Ru_seg (g2 := (2, [(0, .ref 64), (1, .int a)], [.int a, .ref 64], (q_cM q_AM q_IM q_J0, 34, 31630))) 2 (fun _ _ => rfl) ?_
      refine q_Ru_call (v := (some (.int 1))) (h2 := (q_cM q_AM q_IM q_J0, 34, 31630)) rfl rfl ?_ ?_
      · refine q_Ca_of (Nat.le_of_ble_eq_true rfl) ?_
        refine q_Ru_seg (g2 := (5, [(0, .int a)], [.int 4095, .int 0, .int a], (q_cM q_AM q_IM q_J0, 34, 31630))) 3 (fun _ _ => rfl) ?_
        refine q_Ru_call (v := (some (.int 0))) (h2 := (q_cM q_AM q_IM q_J0, 34, 31630)) rfl rfl ?_ ?_
        · refine q_Ca_of (Nat.le_of_ble_eq_true rfl) ?_
          refine q_Ru_seg (g2 := (2, [(0, .int a), (1, .int 0), (2, .int 4095)], [.int 0, .int a], (q_cM q_AM q_IM q_J0, 34, 31630))) 2 (fun _ _ => rfl) ?_
          refine q_Ru_rsT (g2 := (14, [(0, .int a), (1, .int 0), (2, .int 4095)], [], (q_cM q_AM q_IM q_J0, 34, 31630))) rfl rfl h208 ?_
          refine q_Ru_seg (g2 := (15, [(0, .int a), (1, .int 0), (2, .int 4095)], [.int 0], (q_cM q_AM q_IM q_J0, 34, 31630))) 1 (fun _ _ => rfl) ?_
          exact q_Ru_ret rfl rfl
        show q_Ru _ _ _ (8, [(0, .int a)], [.int 0], (q_cM q_AM q_IM q_J0, 34, 31630)) _
        refine q_Ru_seg (g2 := (16, [(0, .int a)], [.int 1], (q_cM q_AM q_IM q_J0, 34, 31630))) 3 (fun _ _ => rfl) ?_
        exact q_Ru_ret rfl rfl
      show q_Ru _ _ _ (5, [(0, .ref 64), (1, .int a)], [.int 1, .ref 64], (q_cM q_AM q_IM q_J0, 34, 31630)) _
      refine q_Ru_seg (g2 := (13, [(0, .ref 64), (1, .int a)], [.int 1, .ref 64], (q_cM q_AM q_IM q_J0, 34, 31630))) 3 (fun _ _ => rfl) ?_
      refine q_Ru_call (v := (some (.int 1))) (h2 := (q_cM q_AM (q_uI q_IM 0 39 1) q_J0, 34, 31630)) rfl rfl ?_ ?_
      · refine q_Ca_of (Nat.le_of_ble_eq_true rfl) ?_
        refine q_Ru_seg (g2 := (14, [(0, .ref 64), (1, .int 1)], [.int 1], (q_cM q_AM (q_uI q_IM 0 39 1) q_J0, 34, 31630))) 7 (fun _ _ => rfl) ?_
        exact q_Ru_ret rfl rfl
      show q_Ru _ _ _ (16, [(0, .ref 64), (1, .int a)], [.int 1], (q_cM q_AM (q_uI q_IM 0 39 1) q_J0, 34, 31630)) _
      refine q_Ru_seg (g2 := (28, [(0, .ref 64), (1, .int a)], [.int 0], (q_cM q_AM (q_uI q_IM 0 39 1) q_J0, 34, 31630))) 3 (fun _ _ => rfl) ?_
      exact q_Ru_ret rfl rfl
  | false =>
    cases h209 : decide (a < 4096) with
    | true =>
      cases h210 : decide (a - 3840 < 0) with
      | true =>
        cases h211 : decide (4095 < a) with
        | true =>
          exact q_no (q_lo2 h211) (q_sub_hi 3839 (q_hi1 h210) (q_lo1 h208) (q_hi1 h209)) (by decide)
        | false =>
          cases h212 : decide (a < 3840) with
          | true =>
            cases h213 : decide (a < 3072) with
            | true =>
              cases h214 : decide (a < 2048) with
              | true =>
                refine ⟨0, 0, 0, ⟨(q_cX q_AX q_IX (q_uA q_J0 39 (vp_updL (fun _ => 0) 0 0)), 40, 26520), (q_uA q_J0 39 (vp_updL (fun _ => 0) 0 0)) 39, ?_, rfl, fun _ => rfl, Nat.le_of_ble_eq_true rfl, Nat.le_of_ble_eq_true rfl⟩, ⟨(q_cM q_AM (q_uI q_IM 0 39 0) q_J0, 34, 31630), _, ?_, rfl, rfl, Nat.le_of_ble_eq_true rfl, Nat.le_of_ble_eq_true rfl⟩, fun _ => rfl⟩
                · refine q_Ca_of (Nat.le_of_ble_eq_true rfl) ?_
                  refine q_Ru_seg (g2 := (4, [(0, .ref 64), (1, .int a), (2, .ref 103)], [.int a, .ref 64, .int 0, .ref 103], (q_cX q_AX q_IX q_J0, 40, 26520))) 4 (fun _ _ => rfl) ?_
                  refine q_Ru_call (v := (some (.int 0))) (h2 := (q_cX q_AX q_IX q_J0, 40, 26520)) rfl rfl ?_ ?_
                  · refine q_Ca_of (Nat.le_of_ble_eq_true rfl) ?_
                    refine q_Ru_seg (g2 := (1, [(0, .ref 64), (1, .int a)], [.int a], (q_cX q_AX q_IX q_J0, 40, 26520))) 1 (fun _ _ => rfl) ?_
                    refine q_Ru_call (v := none) (h2 := (q_cX q_AX q_IX q_J0, 40, 26520)) rfl rfl ?_ ?_
                    · refine q_Ca_of (Nat.le_of_ble_eq_true rfl) ?_
                      refine q_Ru_seg (g2 := (4, [(0, .int a)], [.int 4096, .int a], (q_cX q_AX q_IX q_J0, 40, 26520))) 2 (fun _ _ => rfl) ?_
                      refine q_Ru_call (v := none) (h2 := (q_cX q_AX q_IX q_J0, 40, 26520)) rfl rfl ?_ ?_
                      · refine q_Ca_of (Nat.le_of_ble_eq_true rfl) ?_
                        refine q_Ru_seg (g2 := (1, [(0, .int a), (1, .int 4096)], [.int a], (q_cX q_AX q_IX q_J0, 40, 26520))) 1 (fun _ _ => rfl) ?_
                        refine q_Ru_rsF (g2 := (4, [(0, .int a), (1, .int 4096)], [], (q_cX q_AX q_IX q_J0, 40, 26520))) rfl rfl h208 ?_
                        refine q_Ru_seg (g2 := (6, [(0, .int a), (1, .int 4096)], [.int 4096, .int a], (q_cX q_AX q_IX q_J0, 40, 26520))) 2 (fun _ _ => rfl) ?_
                        refine q_Ru_rsT (g2 := (19, [(0, .int a), (1, .int 4096)], [], (q_cX q_AX q_IX q_J0, 40, 26520))) rfl rfl h209 ?_
                        exact q_Ru_ret rfl rfl
                      show q_Ru _ _ _ (7, [(0, .int a)], [], (q_cX q_AX q_IX q_J0, 40, 26520)) _
                      exact q_Ru_ret rfl rfl
                    show q_Ru _ _ _ (4, [(0, .ref 64), (1, .int a)], [], (q_cX q_AX q_IX q_J0, 40, 26520)) _
                    refine q_Ru_seg (g2 := (12, [(0, .ref 64), (1, .int a)], [.int a, .ref 66], (q_cX q_AX q_IX q_J0, 40, 26520))) 4 (fun _ _ => rfl) ?_
                    refine q_Ru_call (v := (some (.int 0))) (h2 := (q_cX q_AX q_IX q_J0, 40, 26520)) rfl rfl ?_ ?_
                    · refine q_Ca_of (Nat.le_of_ble_eq_true rfl) ?_
                      refine q_Ru_seg (g2 := (7, [(2, .int (a - 3840)), (0, .ref 66), (1, .int a)], [.int (a - 3840)], (q_cX q_AX q_IX q_J0, 40, 26520))) 5 (fun _ _ => rfl) ?_
                      refine q_Ru_rsT (g2 := (31, [(2, .int (a - 3840)), (0, .ref 66), (1, .int a)], [], (q_cX q_AX q_IX q_J0, 40, 26520))) rfl rfl h210 ?_
                      refine q_Ru_seg (g2 := (127, [(3, .int 0), (2, .int (a - 3840)), (0, .ref 66), (1, .int a)], [.int (a &&& 4095), .ref 68], (q_cX q_AX q_IX q_J0, 40, 26520))) 22 (fun _ _ => rfl) ?_
                      refine q_Ru_rsT (g2 := (128, [(3, .int 0), (2, .int (a - 3840)), (0, .ref 66), (1, .int a)], [.int 0], (q_cX q_AX q_IX q_J0, 40, 26520))) rfl rfl (q_in_bd (x := a &&& 4095) (n := 4096) (U := 4095) (L := 0) (q_and_lo a 4095) (q_and_hi a 4095 4095)) ?_
                      exact q_Ru_ret rfl rfl
                    show q_Ru _ _ _ (15, [(0, .ref 64), (1, .int a)], [.int 0], (q_cX q_AX q_IX q_J0, 40, 26520)) _
                    exact q_Ru_ret rfl rfl
                  show q_Ru _ _ _ (7, [(0, .ref 64), (1, .int a), (2, .ref 103)], [.int 0, .int 0, .ref 103], (q_cX q_AX q_IX q_J0, 40, 26520)) _
                  refine q_Ru_seg (g2 := (16, [(0, .ref 64), (1, .int a), (2, .ref 103)], [.int 0], (q_cX q_AX q_IX (q_uA q_J0 39 (vp_updL (fun _ => 0) 0 0)), 40, 26520))) 4 (fun _ _ => rfl) ?_
                  exact q_Ru_ret rfl rfl
                · refine q_Ca_of (Nat.le_of_ble_eq_true rfl) ?_
                  refine q_Ru_seg (g2 := (2, [(0, .ref 64), (1, .int a)], [.int a, .ref 64], (q_cM q_AM q_IM q_J0, 34, 31630))) 2 (fun _ _ => rfl) ?_
                  refine q_Ru_call (v := (some (.int 0))) (h2 := (q_cM q_AM q_IM q_J0, 34, 31630)) rfl rfl ?_ ?_
                  · refine q_Ca_of (Nat.le_of_ble_eq_true rfl) ?_
                    refine q_Ru_seg (g2 := (5, [(0, .int a)], [.int 4095, .int 0, .int a], (q_cM q_AM q_IM q_J0, 34, 31630))) 3 (fun _ _ => rfl) ?_
                    refine q_Ru_call (v := (some (.int 1))) (h2 := (q_cM q_AM q_IM q_J0, 34, 31630)) rfl rfl ?_ ?_
                    · refine q_Ca_of (Nat.le_of_ble_eq_true rfl) ?_
                      refine q_Ru_seg (g2 := (2, [(0, .int a), (1, .int 0), (2, .int 4095)], [.int 0, .int a], (q_cM q_AM q_IM q_J0, 34, 31630))) 2 (fun _ _ => rfl) ?_
                      refine q_Ru_rsF (g2 := (5, [(0, .int a), (1, .int 0), (2, .int 4095)], [], (q_cM q_AM q_IM q_J0, 34, 31630))) rfl rfl h208 ?_
                      refine q_Ru_seg (g2 := (7, [(0, .int a), (1, .int 0), (2, .int 4095)], [.int 4095, .int a], (q_cM q_AM q_IM q_J0, 34, 31630))) 2 (fun _ _ => rfl) ?_
                      refine q_Ru_rsF (g2 := (10, [(0, .int a), (1, .int 0), (2, .int 4095)], [], (q_cM q_AM q_IM q_J0, 34, 31630))) rfl rfl h211 ?_
                      refine q_Ru_seg (g2 := (15, [(0, .int a), (1, .int 0), (2, .int 4095)], [.int 1], (q_cM q_AM q_IM q_J0, 34, 31630))) 2 (fun _ _ => rfl) ?_
                      exact q_Ru_ret rfl rfl
                    show q_Ru _ _ _ (8, [(0, .int a)], [.int 1], (q_cM q_AM q_IM q_J0, 34, 31630)) _
                    refine q_Ru_seg (g2 := (16, [(0, .int a)], [.int 0], (q_cM q_AM q_IM q_J0, 34, 31630))) 2 (fun _ _ => rfl) ?_
                    exact q_Ru_ret rfl rfl
                  show q_Ru _ _ _ (5, [(0, .ref 64), (1, .int a)], [.int 0, .ref 64], (q_cM q_AM q_IM q_J0, 34, 31630)) _
                  refine q_Ru_seg (g2 := (13, [(0, .ref 64), (1, .int a)], [.int 0, .ref 64], (q_cM q_AM q_IM q_J0, 34, 31630))) 2 (fun _ _ => rfl) ?_
                  refine q_Ru_call (v := (some (.int 0))) (h2 := (q_cM q_AM (q_uI q_IM 0 39 0) q_J0, 34, 31630)) rfl rfl ?_ ?_
                  · refine q_Ca_of (Nat.le_of_ble_eq_true rfl) ?_
                    refine q_Ru_seg (g2 := (14, [(0, .ref 64), (1, .int 0)], [.int 0], (q_cM q_AM (q_uI q_IM 0 39 0) q_J0, 34, 31630))) 6 (fun _ _ => rfl) ?_
                    exact q_Ru_ret rfl rfl
                  show q_Ru _ _ _ (16, [(0, .ref 64), (1, .int a)], [.int 0], (q_cM q_AM (q_uI q_IM 0 39 0) q_J0, 34, 31630)) _
                  refine q_Ru_seg (g2 := (25, [(0, .ref 64), (1, .int a)], [.int a, .ref 64], (q_cM q_AM (q_uI q_IM 0 39 0) q_J0, 34, 31630))) 3 (fun _ _ => rfl) ?_
                  refine q_Ru_call (v := (some (.int 0))) (h2 := (q_cM q_AM (q_uI q_IM 0 39 0) q_J0, 34, 31630)) rfl rfl ?_ ?_
                  · refine q_Ca_of (Nat.le_of_ble_eq_true rfl) ?_
                    refine q_Ru_seg (g2 := (7, [(0, .ref 64), (1, .int a)], [.int 3887, .int 3840, .int a], (q_cM q_AM (q_uI q_IM 0 39 0) q_J0, 34, 31630))) 3 (fun _ _ => rfl) ?_
                    refine q_Ru_call (v := (some (.int 0))) (h2 := (q_cM q_AM (q_uI q_IM 0 39 0) q_J0, 34, 31630)) rfl rfl ?_ ?_
                    · refine q_Ca_of (Nat.le_of_ble_eq_true rfl) ?_
                      refine q_Ru_seg (g2 := (2, [(0, .int a), (1, .int 3840), (2, .int 3887)], [.int 3840, .int a], (q_cM q_AM (q_uI q_IM 0 39 0) q_J0, 34, 31630))) 2 (fun _ _ => rfl) ?_
                      refine q_Ru_rsT (g2 := (14, [(0, .int a), (1, .int 3840), (2, .int 3887)], [], (q_cM q_AM (q_uI q_IM 0 39 0) q_J0, 34, 31630))) rfl rfl h212 ?_
                      refine q_Ru_seg (g2 := (15, [(0, .int a), (1, .int 3840), (2, .int 3887)], [.int 0], (q_cM q_AM (q_uI q_IM 0 39 0) q_J0, 34, 31630))) 1 (fun _ _ => rfl) ?_
                      exact q_Ru_ret rfl rfl
                    show q_Ru _ _ _ (10, [(0, .ref 64), (1, .int a)], [.int 0], (q_cM q_AM (q_uI q_IM 0 39 0) q_J0, 34, 31630)) _
                    refine q_Ru_seg (g2 := (30, [(0, .ref 64), (1, .int a)], [.int 3583, .int 3072, .int a], (q_cM q_AM (q_uI q_IM 0 39 0) q_J0, 34, 31630))) 4 (fun _ _ => rfl) ?_
                    refine q_Ru_call (v := (some (.int 0))) (h2 := (q_cM q_AM (q_uI q_IM 0 39 0) q_J0, 34, 31630)) rfl rfl ?_ ?_
                    · refine q_Ca_of (Nat.le_of_ble_eq_true rfl) ?_
                      refine q_Ru_seg (g2 := (2, [(0, .int a), (1, .int 3072), (2, .int 3583)], [.int 3072, .int a], (q_cM q_AM (q_uI q_IM 0 39 0) q_J0, 34, 31630))) 2 (fun _ _ => rfl) ?_
                      refine q_Ru_rsT (g2 := (14, [(0, .int a), (1, .int 3072), (2, .int 3583)], [], (q_cM q_AM (q_uI q_IM 0 39 0) q_J0, 34, 31630))) rfl rfl h213 ?_
                      refine q_Ru_seg (g2 := (15, [(0, .int a), (1, .int 3072), (2, .int 3583)], [.int 0], (q_cM q_AM (q_uI q_IM 0 39 0) q_J0, 34, 31630))) 1 (fun _ _ => rfl) ?_
                      exact q_Ru_ret rfl rfl
                    show q_Ru _ _ _ (33, [(0, .ref 64), (1, .int a)], [.int 0], (q_cM q_AM (q_uI q_IM 0 39 0) q_J0, 34, 31630)) _
                    refine q_Ru_seg (g2 := (67, [(0, .ref 64), (1, .int a)], [.int 2559, .int 2048, .int a], (q_cM q_AM (q_uI q_IM 0 39 0) q_J0, 34, 31630))) 4 (fun _ _ => rfl) ?_
                    refine q_Ru_call (v := (some (.int 0))) (h2 := (q_cM q_AM (q_uI q_IM 0 39 0) q_J0, 34, 31630)) rfl rfl ?_ ?_
                    · refine q_Ca_of (Nat.le_of_ble_eq_true rfl) ?_
                      refine q_Ru_seg (g2 := (2, [(0, .int a), (1, .int 2048), (2, .int 2559)], [.int 2048, .int a], (q_cM q_AM (q_uI q_IM 0 39 0) q_J0, 34, 31630))) 2 (fun _ _ => rfl) ?_
                      refine q_Ru_rsT (g2 := (14, [(0, .int a), (1, .int 2048), (2, .int 2559)], [], (q_cM q_AM (q_uI q_IM 0 39 0) q_J0, 34, 31630))) rfl rfl h214 ?_
                      refine q_Ru_seg (g2 := (15, [(0, .int a), (1, .int 2048), (2, .int 2559)], [.int 0], (q_cM q_AM (q_uI q_IM 0 39 0) q_J0, 34, 31630))) 1 (fun _ _ => rfl) ?_
                      exact q_Ru_ret rfl rfl
                    show q_Ru _ _ _ (70, [(0, .ref 64), (1, .int a)], [.int 0], (q_cM q_AM (q_uI q_IM 0 39 0) q_J0, 34, 31630)) _
                    refine q_Ru_seg (g2 := (115, [(0, .ref 64), (1, .int a)], [.int a, .ref 65], (q_cM q_AM (q_uI q_IM 0 39 0) q_J0, 34, 31630))) 4 (fun _ _ => rfl) ?_
                    refine q_Ru_rsT (g2 := (116, [(0, .ref 64), (1, .int a)], [.int 0], (q_cM q_AM (q_uI q_IM 0 39 0) q_J0, 34, 31630))) rfl rfl (q_in_bd (x := a) (n := 4096) (U := 2047) (L := 0) (q_lo1 h208) (q_hi1 h214)) ?_
                    exact q_Ru_ret rfl rfl
                  show q_Ru _ _ _ (28, [(0, .ref 64), (1, .int a)], [.int 0], (q_cM q_AM (q_uI q_IM 0 39 0) q_J0, 34, 31630)) _
                  exact q_Ru_ret rfl rfl
              | false =>
                cases h215 : decide (2559 < a) with
                | true =>
                  refine ⟨0, 0, 0, ⟨(q_cX q_AX q_IX (q_uA q_J0 39 (vp_updL (fun _ => 0) 0 0)), 40, 26520), (q_uA q_J0 39 (vp_updL (fun _ => 0) 0 0)) 39, ?_, rfl, fun _ => rfl, Nat.le_of_ble_eq_true rfl, Nat.le_of_ble_eq_true rfl⟩, ⟨(q_cM q_AM (q_uI q_IM 0 39 0) q_J0, 34, 31630), _, ?_, rfl, rfl, Nat.le_of_ble_eq_true rfl, Nat.le_of_ble_eq_true rfl⟩, fun _ => rfl⟩
                  · refine q_Ca_of (Nat.le_of_ble_eq_true rfl) ?_
                    refine q_Ru_seg (g2 := (4, [(0, .ref 64), (1, .int a), (2, .ref 103)], [.int a, .ref 64, .int 0, .ref 103], (q_cX q_AX q_IX q_J0, 40, 26520))) 4 (fun _ _ => rfl) ?_
                    refine q_Ru_call (v := (some (.int 0))) (h2 := (q_cX q_AX q_IX q_J0, 40, 26520)) rfl rfl ?_ ?_
                    · refine q_Ca_of (Nat.le_of_ble_eq_true rfl) ?_
                      refine q_Ru_seg (g2 := (1, [(0, .ref 64), (1, .int a)], [.int a], (q_cX q_AX q_IX q_J0, 40, 26520))) 1 (fun _ _ => rfl) ?_
                      refine q_Ru_call (v := none) (h2 := (q_cX q_AX q_IX q_J0, 40, 26520)) rfl rfl ?_ ?_
                      · refine q_Ca_of (Nat.le_of_ble_eq_true rfl) ?_
                        refine q_Ru_seg (g2 := (4, [(0, .int a)], [.int 4096, .int a], (q_cX q_AX q_IX q_J0, 40, 26520))) 2 (fun _ _ => rfl) ?_
                        refine q_Ru_call (v := none) (h2 := (q_cX q_AX q_IX q_J0, 40, 26520)) rfl rfl ?_ ?_
                        · refine q_Ca_of (Nat.le_of_ble_eq_true rfl) ?_
                          refine q_Ru_seg (g2 := (1, [(0, .int a), (1, .int 4096)], [.int a], (q_cX q_AX q_IX q_J0, 40, 26520))) 1 (fun _ _ => rfl) ?_
                          refine q_Ru_rsF (g2 := (4, [(0, .int a), (1, .int 4096)], [], (q_cX q_AX q_IX q_J0, 40, 26520))) rfl rfl h208 ?_
                          refine q_Ru_seg (g2 := (6, [(0, .int a), (1, .int 4096)], [.int 4096, .int a], (q_cX q_AX q_IX q_J0, 40, 26520))) 2 (fun _ _ => rfl) ?_
                          refine q_Ru_rsT (g2 := (19, [(0, .int a), (1, .int 4096)], [], (q_cX q_AX q_IX q_J0, 40, 26520))) rfl rfl h209 ?_
                          exact q_Ru_ret rfl rfl
                        show q_Ru _ _ _ (7, [(0, .int a)], [], (q_cX q_AX q_IX q_J0, 40, 26520)) _
                        exact q_Ru_ret rfl rfl
                      show q_Ru _ _ _ (4, [(0, .ref 64), (1, .int a)], [], (q_cX q_AX q_IX q_J0, 40, 26520)) _
                      refine q_Ru_seg (g2 := (12, [(0, .ref 64), (1, .int a)], [.int a, .ref 66], (q_cX q_AX q_IX q_J0, 40, 26520))) 4 (fun _ _ => rfl) ?_
                      refine q_Ru_call (v := (some (.int 0))) (h2 := (q_cX q_AX q_IX q_J0, 40, 26520)) rfl rfl ?_ ?_
                      · refine q_Ca_of (Nat.le_of_ble_eq_true rfl) ?_
                        refine q_Ru_seg (g2 := (7, [(2, .int (a - 3840)), (0, .ref 66), (1, .int a)], [.int (a - 3840)], (q_cX q_AX q_IX q_J0, 40, 26520))) 5 (fun _ _ => rfl) ?_
                        refine q_Ru_rsT (g2 := (31, [(2, .int (a - 3840)), (0, .ref 66), (1, .int a)], [], (q_cX q_AX q_IX q_J0, 40, 26520))) rfl rfl h210 ?_
                        refine q_Ru_seg (g2 := (127, [(3, .int 0), (2, .int (a - 3840)), (0, .ref 66), (1, .int a)], [.int (a &&& 4095), .ref 68], (q_cX q_AX q_IX q_J0, 40, 26520))) 22 (fun _ _ => rfl) ?_
                        refine q_Ru_rsT (g2 := (128, [(3, .int 0), (2, .int (a - 3840)), (0, .ref 66), (1, .int a)], [.int 0], (q_cX q_AX q_IX q_J0, 40, 26520))) rfl rfl (q_in_bd (x := a &&& 4095) (n := 4096) (U := 4095) (L := 0) (q_and_lo a 4095) (q_and_hi a 4095 4095)) ?_
                        exact q_Ru_ret rfl rfl
                      show q_Ru _ _ _ (15, [(0, .ref 64), (1, .int a)], [.int 0], (q_cX q_AX q_IX q_J0, 40, 26520)) _
                      exact q_Ru_ret rfl rfl
                    show q_Ru _ _ _ (7, [(0, .ref 64), (1, .int a), (2, .ref 103)], [.int 0, .int 0, .ref 103], (q_cX q_AX q_IX q_J0, 40, 26520)) _
                    refine q_Ru_seg (g2 := (16, [(0, .ref 64), (1, .int a), (2, .ref 103)], [.int 0], (q_cX q_AX q_IX (q_uA q_J0 39 (vp_updL (fun _ => 0) 0 0)), 40, 26520))) 4 (fun _ _ => rfl) ?_
                    exact q_Ru_ret rfl rfl
                  · refine q_Ca_of (Nat.le_of_ble_eq_true rfl) ?_
                    refine q_Ru_seg (g2 := (2, [(0, .ref 64), (1, .int a)], [.int a, .ref 64], (q_cM q_AM q_IM q_J0, 34, 31630))) 2 (fun _ _ => rfl) ?_
                    refine q_Ru_call (v := (some (.int 0))) (h2 := (q_cM q_AM q_IM q_J0, 34, 31630)) rfl rfl ?_ ?_
                    · refine q_Ca_of (Nat.le_of_ble_eq_true rfl) ?_
                      refine q_Ru_seg (g2 := (5, [(0, .int a)], [.int 4095, .int 0, .int a], (q_cM q_AM q_IM q_J0, 34, 31630))) 3 (fun _ _ => rfl) ?_
                      refine q_Ru_call (v := (some (.int 1))) (h2 := (q_cM q_AM q_IM q_J0, 34, 31630)) rfl rfl ?_ ?_
                      · refine q_Ca_of (Nat.le_of_ble_eq_true rfl) ?_
                        refine q_Ru_seg (g2 := (2, [(0, .int a), (1, .int 0), (2, .int 4095)], [.int 0, .int a], (q_cM q_AM q_IM q_J0, 34, 31630))) 2 (fun _ _ => rfl) ?_
                        refine q_Ru_rsF (g2 := (5, [(0, .int a), (1, .int 0), (2, .int 4095)], [], (q_cM q_AM q_IM q_J0, 34, 31630))) rfl rfl h208 ?_
                        refine q_Ru_seg (g2 := (7, [(0, .int a), (1, .int 0), (2, .int 4095)], [.int 4095, .int a], (q_cM q_AM q_IM q_J0, 34, 31630))) 2 (fun _ _ => rfl) ?_
                        refine q_Ru_rsF (g2 := (10, [(0, .int a), (1, .int 0), (2, .int 4095)], [], (q_cM q_AM q_IM q_J0, 34, 31630))) rfl rfl h211 ?_
                        refine q_Ru_seg (g2 := (15, [(0, .int a), (1, .int 0), (2, .int 4095)], [.int 1], (q_cM q_AM q_IM q_J0, 34, 31630))) 2 (fun _ _ => rfl) ?_
                        exact q_Ru_ret rfl rfl
                      show q_Ru _ _ _ (8, [(0, .int a)], [.int 1], (q_cM q_AM q_IM q_J0, 34, 31630)) _
                      refine q_Ru_seg (g2 := (16, [(0, .int a)], [.int 0], (q_cM q_AM q_IM q_J0, 34, 31630))) 2 (fun _ _ => rfl) ?_
                      exact q_Ru_ret rfl rfl
                    show q_Ru _ _ _ (5, [(0, .ref 64), (1, .int a)], [.int 0, .ref 64], (q_cM q_AM q_IM q_J0, 34, 31630)) _
                    refine q_Ru_seg (g2 := (13, [(0, .ref 64), (1, .int a)], [.int 0, .ref 64], (q_cM q_AM q_IM q_J0, 34, 31630))) 2 (fun _ _ => rfl) ?_
                    refine q_Ru_call (v := (some (.int 0))) (h2 := (q_cM q_AM (q_uI q_IM 0 39 0) q_J0, 34, 31630)) rfl rfl ?_ ?_
                    · refine q_Ca_of (Nat.le_of_ble_eq_true rfl) ?_
                      refine q_Ru_seg (g2 := (14, [(0, .ref 64), (1, .int 0)], [.int 0], (q_cM q_AM (q_uI q_IM 0 39 0) q_J0, 34, 31630))) 6 (fun _ _ => rfl) ?_
                      exact q_Ru_ret rfl rfl
                    show q_Ru _ _ _ (16, [(0, .ref 64), (1, .int a)], [.int 0], (q_cM q_AM (q_uI q_IM 0 39 0) q_J0, 34, 31630)) _
                    refine q_Ru_seg (g2 := (25, [(0, .ref 64), (1, .int a)], [.int a, .ref 64], (q_cM q_AM (q_uI q_IM 0 39 0) q_J0, 34, 31630))) 3 (fun _ _ => rfl) ?_
                    refine q_Ru_call (v := (some (.int 0))) (h2 := (q_cM q_AM (q_uI q_IM 0 39 0) q_J0, 34, 31630)) rfl rfl ?_ ?_
                    · refine q_Ca_of (Nat.le_of_ble_eq_true rfl) ?_
                      refine q_Ru_seg (g2 := (7, [(0, .ref 64), (1, .int a)], [.int 3887, .int 3840, .int a], (q_cM q_AM (q_uI q_IM 0 39 0) q_J0, 34, 31630))) 3 (fun _ _ => rfl) ?_
                      refine q_Ru_call (v := (some (.int 0))) (h2 := (q_cM q_AM (q_uI q_IM 0 39 0) q_J0, 34, 31630)) rfl rfl ?_ ?_
                      · refine q_Ca_of (Nat.le_of_ble_eq_true rfl) ?_
                        refine q_Ru_seg (g2 := (2, [(0, .int a), (1, .int 3840), (2, .int 3887)], [.int 3840, .int a], (q_cM q_AM (q_uI q_IM 0 39 0) q_J0, 34, 31630))) 2 (fun _ _ => rfl) ?_
                        refine q_Ru_rsT (g2 := (14, [(0, .int a), (1, .int 3840), (2, .int 3887)], [], (q_cM q_AM (q_uI q_IM 0 39 0) q_J0, 34, 31630))) rfl rfl h212 ?_
                        refine q_Ru_seg (g2 := (15, [(0, .int a), (1, .int 3840), (2, .int 3887)], [.int 0], (q_cM q_AM (q_uI q_IM 0 39 0) q_J0, 34, 31630))) 1 (fun _ _ => rfl) ?_
                        exact q_Ru_ret rfl rfl
                      show q_Ru _ _ _ (10, [(0, .ref 64), (1, .int a)], [.int 0], (q_cM q_AM (q_uI q_IM 0 39 0) q_J0, 34, 31630)) _
                      refine q_Ru_seg (g2 := (30, [(0, .ref 64), (1, .int a)], [.int 3583, .int 3072, .int a], (q_cM q_AM (q_uI q_IM 0 39 0) q_J0, 34, 31630))) 4 (fun _ _ => rfl) ?_
                      refine q_Ru_call (v := (some (.int 0))) (h2 := (q_cM q_AM (q_uI q_IM 0 39 0) q_J0, 34, 31630)) rfl rfl ?_ ?_
                      · refine q_Ca_of (Nat.le_of_ble_eq_true rfl) ?_
                        refine q_Ru_seg (g2 := (2, [(0, .int a), (1, .int 3072), (2, .int 3583)], [.int 3072, .int a], (q_cM q_AM (q_uI q_IM 0 39 0) q_J0, 34, 31630))) 2 (fun _ _ => rfl) ?_
                        refine q_Ru_rsT (g2 := (14, [(0, .int a), (1, .int 3072), (2, .int 3583)], [], (q_cM q_AM (q_uI q_IM 0 39 0) q_J0, 34, 31630))) rfl rfl h213 ?_
                        refine q_Ru_seg (g2 := (15, [(0, .int a), (1, .int 3072), (2, .int 3583)], [.int 0], (q_cM q_AM (q_uI q_IM 0 39 0) q_J0, 34, 31630))) 1 (fun _ _ => rfl) ?_
                        exact q_Ru_ret rfl rfl
                      show q_Ru _ _ _ (33, [(0, .ref 64), (1, .int a)], [.int 0], (q_cM q_AM (q_uI q_IM 0 39 0) q_J0, 34, 31630)) _
                      refine q_Ru_seg (g2 := (67, [(0, .ref 64), (1, .int a)], [.int 2559, .int 2048, .int a], (q_cM q_AM (q_uI q_IM 0 39 0) q_J0, 34, 31630))) 4 (fun _ _ => rfl) ?_
                      refine q_Ru_call (v := (some (.int 0))) (h2 := (q_cM q_AM (q_uI q_IM 0 39 0) q_J0, 34, 31630)) rfl rfl ?_ ?_
                      · refine q_Ca_of (Nat.le_of_ble_eq_true rfl) ?_
                        refine q_Ru_seg (g2 := (2, [(0, .int a), (1, .int 2048), (2, .int 2559)], [.int 2048, .int a], (q_cM q_AM (q_uI q_IM 0 39 0) q_J0, 34, 31630))) 2 (fun _ _ => rfl) ?_
                        refine q_Ru_rsF (g2 := (5, [(0, .int a), (1, .int 2048), (2, .int 2559)], [], (q_cM q_AM (q_uI q_IM 0 39 0) q_J0, 34, 31630))) rfl rfl h214 ?_
                        refine q_Ru_seg (g2 := (7, [(0, .int a), (1, .int 2048), (2, .int 2559)], [.int 2559, .int a], (q_cM q_AM (q_uI q_IM 0 39 0) q_J0, 34, 31630))) 2 (fun _ _ => rfl) ?_
                        refine q_Ru_rsT (g2 := (14, [(0, .int a), (1, .int 2048), (2, .int 2559)], [], (q_cM q_AM (q_uI q_IM 0 39 0) q_J0, 34, 31630))) rfl rfl h215 ?_
                        refine q_Ru_seg (g2 := (15, [(0, .int a), (1, .int 2048), (2, .int 2559)], [.int 0], (q_cM q_AM (q_uI q_IM 0 39 0) q_J0, 34, 31630))) 1 (fun _ _ => rfl) ?_
                        exact q_Ru_ret rfl rfl
                      show q_Ru _ _ _ (70, [(0, .ref 64), (1, .int a)], [.int 0], (q_cM q_AM (q_uI q_IM 0 39 0) q_J0, 34, 31630)) _
                      refine q_Ru_seg (g2 := (115, [(0, .ref 64), (1, .int a)], [.int a, .ref 65], (q_cM q_AM (q_uI q_IM 0 39 0) q_J0, 34, 31630))) 4 (fun _ _ => rfl) ?_
                      refine q_Ru_rsT (g2 := (116, [(0, .ref 64), (1, .int a)], [.int 0], (q_cM q_AM (q_uI q_IM 0 39 0) q_J0, 34, 31630))) rfl rfl (q_in_bd (x := a) (n := 4096) (U := 3071) (L := 2560) (q_lo2 h215) (q_hi1 h213)) ?_
                      exact q_Ru_ret rfl rfl
                    show q_Ru _ _ _ (28, [(0, .ref 64), (1, .int a)], [.int 0], (q_cM q_AM (q_uI q_IM 0 39 0) q_J0, 34, 31630)) _
                    exact q_Ru_ret rfl rfl
                | false =>
                  refine ⟨0, 0, 0, ⟨(q_cX q_AX q_IX (q_uA q_J0 39 (vp_updL (fun _ => 0) 0 0)), 40, 26520), (q_uA q_J0 39 (vp_updL (fun _ => 0) 0 0)) 39, ?_, rfl, fun _ => rfl, Nat.le_of_ble_eq_true rfl, Nat.le_of_ble_eq_true rfl⟩, ⟨(q_cM q_AM (q_uI q_IM 0 39 0) q_J0, 34, 31630), _, ?_, rfl, rfl, Nat.le_of_ble_eq_true rfl, Nat.le_of_ble_eq_true rfl⟩, fun _ => rfl⟩
                  · refine q_Ca_of (Nat.le_of_ble_eq_true rfl) ?_
                    refine q_Ru_seg (g2 := (4, [(0, .ref 64), (1, .int a), (2, .ref 103)], [.int a, .ref 64, .int 0, .ref 103], (q_cX q_AX q_IX q_J0, 40, 26520))) 4 (fun _ _ => rfl) ?_
                    refine q_Ru_call (v := (some (.int 0))) (h2 := (q_cX q_AX q_IX q_J0, 40, 26520)) rfl rfl ?_ ?_
                    · refine q_Ca_of (Nat.le_of_ble_eq_true rfl) ?_
                      refine q_Ru_seg (g2 := (1, [(0, .ref 64), (1, .int a)], [.int a], (q_cX q_AX q_IX q_J0, 40, 26520))) 1 (fun _ _ => rfl) ?_
                      refine q_Ru_call (v := none) (h2 := (q_cX q_AX q_IX q_J0, 40, 26520)) rfl rfl ?_ ?_
                      · refine q_Ca_of (Nat.le_of_ble_eq_true rfl) ?_
                        refine q_Ru_seg (g2 := (4, [(0, .int a)], [.int 4096, .int a], (q_cX q_AX q_IX q_J0, 40, 26520))) 2 (fun _ _ => rfl) ?_
                        refine q_Ru_call (v := none) (h2 := (q_cX q_AX q_IX q_J0, 40, 26520)) rfl rfl ?_ ?_
                        · refine q_Ca_of (Nat.le_of_ble_eq_true rfl) ?_
                          refine q_Ru_seg (g2 := (1, [(0, .int a), (1, .int 4096)], [.int a], (q_cX q_AX q_IX q_J0, 40, 26520))) 1 (fun _ _ => rfl) ?_
                          refine q_Ru_rsF (g2 := (4, [(0, .int a), (1, .int 4096)], [], (q_cX q_AX q_IX q_J0, 40, 26520))) rfl rfl h208 ?_
                          refine q_Ru_seg (g2 := (6, [(0, .int a), (1, .int 4096)], [.int 4096, .int a], (q_cX q_AX q_IX q_J0, 40, 26520))) 2 (fun _ _ => rfl) ?_
                          refine q_Ru_rsT (g2 := (19, [(0, .int a), (1, .int 4096)], [], (q_cX q_AX q_IX q_J0, 40, 26520))) rfl rfl h209 ?_
                          exact q_Ru_ret rfl rfl
                        show q_Ru _ _ _ (7, [(0, .int a)], [], (q_cX q_AX q_IX q_J0, 40, 26520)) _
                        exact q_Ru_ret rfl rfl
                      show q_Ru _ _ _ (4, [(0, .ref 64), (1, .int a)], [], (q_cX q_AX q_IX q_J0, 40, 26520)) _
                      refine q_Ru_seg (g2 := (12, [(0, .ref 64), (1, .int a)], [.int a, .ref 66], (q_cX q_AX q_IX q_J0, 40, 26520))) 4 (fun _ _ => rfl) ?_
                      refine q_Ru_call (v := (some (.int 0))) (h2 := (q_cX q_AX q_IX q_J0, 40, 26520)) rfl rfl ?_ ?_
                      · refine q_Ca_of (Nat.le_of_ble_eq_true rfl) ?_
                        refine q_Ru_seg (g2 := (7, [(2, .int (a - 3840)), (0, .ref 66), (1, .int a)], [.int (a - 3840)], (q_cX q_AX q_IX q_J0, 40, 26520))) 5 (fun _ _ => rfl) ?_
                        refine q_Ru_rsT (g2 := (31, [(2, .int (a - 3840)), (0, .ref 66), (1, .int a)], [], (q_cX q_AX q_IX q_J0, 40, 26520))) rfl rfl h210 ?_
                        refine q_Ru_seg (g2 := (127, [(3, .int 0), (2, .int (a - 3840)), (0, .ref 66), (1, .int a)], [.int (a &&& 4095), .ref 68], (q_cX q_AX q_IX q_J0, 40, 26520))) 22 (fun _ _ => rfl) ?_
                        refine q_Ru_rsT (g2 := (128, [(3, .int 0), (2, .int (a - 3840)), (0, .ref 66), (1, .int a)], [.int 0], (q_cX q_AX q_IX q_J0, 40, 26520))) rfl rfl (q_in_bd (x := a &&& 4095) (n := 4096) (U := 4095) (L := 0) (q_and_lo a 4095) (q_and_hi a 4095 4095)) ?_
                        exact q_Ru_ret rfl rfl
                      show q_Ru _ _ _ (15, [(0, .ref 64), (1, .int a)], [.int 0], (q_cX q_AX q_IX q_J0, 40, 26520)) _
                      exact q_Ru_ret rfl rfl
                    show q_Ru _ _ _ (7, [(0, .ref 64), (1, .int a), (2, .ref 103)], [.int 0, .int 0, .ref 103], (q_cX q_AX q_IX q_J0, 40, 26520)) _
                    refine q_Ru_seg (g2 := (16, [(0, .ref 64), (1, .int a), (2, .ref 103)], [.int 0], (q_cX q_AX q_IX (q_uA q_J0 39 (vp_updL (fun _ => 0) 0 0)), 40, 26520))) 4 (fun _ _ => rfl) ?_
                    exact q_Ru_ret rfl rfl
                  · refine q_Ca_of (Nat.le_of_ble_eq_true rfl) ?_
                    refine q_Ru_seg (g2 := (2, [(0, .ref 64), (1, .int a)], [.int a, .ref 64], (q_cM q_AM q_IM q_J0, 34, 31630))) 2 (fun _ _ => rfl) ?_
                    refine q_Ru_call (v := (some (.int 0))) (h2 := (q_cM q_AM q_IM q_J0, 34, 31630)) rfl rfl ?_ ?_
                    · refine q_Ca_of (Nat.le_of_ble_eq_true rfl) ?_
                      refine q_Ru_seg (g2 := (5, [(0, .int a)], [.int 4095, .int 0, .int a], (q_cM q_AM q_IM q_J0, 34, 31630))) 3 (fun _ _ => rfl) ?_
                      refine q_Ru_call (v := (some (.int 1))) (h2 := (q_cM q_AM q_IM q_J0, 34, 31630)) rfl rfl ?_ ?_
                      · refine q_Ca_of (Nat.le_of_ble_eq_true rfl) ?_
                        refine q_Ru_seg (g2 := (2, [(0, .int a), (1, .int 0), (2, .int 4095)], [.int 0, .int a], (q_cM q_AM q_IM q_J0, 34, 31630))) 2 (fun _ _ => rfl) ?_
                        refine q_Ru_rsF (g2 := (5, [(0, .int a), (1, .int 0), (2, .int 4095)], [], (q_cM q_AM q_IM q_J0, 34, 31630))) rfl rfl h208 ?_
                        refine q_Ru_seg (g2 := (7, [(0, .int a), (1, .int 0), (2, .int 4095)], [.int 4095, .int a], (q_cM q_AM q_IM q_J0, 34, 31630))) 2 (fun _ _ => rfl) ?_
                        refine q_Ru_rsF (g2 := (10, [(0, .int a), (1, .int 0), (2, .int 4095)], [], (q_cM q_AM q_IM q_J0, 34, 31630))) rfl rfl h211 ?_
                        refine q_Ru_seg (g2 := (15, [(0, .int a), (1, .int 0), (2, .int 4095)], [.int 1], (q_cM q_AM q_IM q_J0, 34, 31630))) 2 (fun _ _ => rfl) ?_
                        exact q_Ru_ret rfl rfl
                      show q_Ru _ _ _ (8, [(0, .int a)], [.int 1], (q_cM q_AM q_IM q_J0, 34, 31630)) _
                      refine q_Ru_seg (g2 := (16, [(0, .int a)], [.int 0], (q_cM q_AM q_IM q_J0, 34, 31630))) 2 (fun _ _ => rfl) ?_
                      exact q_Ru_ret rfl rfl
                    show q_Ru _ _ _ (5, [(0, .ref 64), (1, .int a)], [.int 0, .ref 64], (q_cM q_AM q_IM q_J0, 34, 31630)) _
                    refine q_Ru_seg (g2 := (13, [(0, .ref 64), (1, .int a)], [.int 0, .ref 64], (q_cM q_AM q_IM q_J0, 34, 31630))) 2 (fun _ _ => rfl) ?_
                    refine q_Ru_call (v := (some (.int 0))) (h2 := (q_cM q_AM (q_uI q_IM 0 39 0) q_J0, 34, 31630)) rfl rfl ?_ ?_
                    · refine q_Ca_of (Nat.le_of_ble_eq_true rfl) ?_
                      refine q_Ru_seg (g2 := (14, [(0, .ref 64), (1, .int 0)], [.int 0], (q_cM q_AM (q_uI q_IM 0 39 0) q_J0, 34, 31630))) 6 (fun _ _ => rfl) ?_
                      exact q_Ru_ret rfl rfl
                    show q_Ru _ _ _ (16, [(0, .ref 64), (1, .int a)], [.int 0], (q_cM q_AM (q_uI q_IM 0 39 0) q_J0, 34, 31630)) _
                    refine q_Ru_seg (g2 := (25, [(0, .ref 64), (1, .int a)], [.int a, .ref 64], (q_cM q_AM (q_uI q_IM 0 39 0) q_J0, 34, 31630))) 3 (fun _ _ => rfl) ?_
                    refine q_Ru_call (v := (some (.int 0))) (h2 := (q_cM q_AM (q_uI q_IM 0 39 0) q_J0, 34, 31630)) rfl rfl ?_ ?_
                    · refine q_Ca_of (Nat.le_of_ble_eq_true rfl) ?_
                      refine q_Ru_seg (g2 := (7, [(0, .ref 64), (1, .int a)], [.int 3887, .int 3840, .int a], (q_cM q_AM (q_uI q_IM 0 39 0) q_J0, 34, 31630))) 3 (fun _ _ => rfl) ?_
                      refine q_Ru_call (v := (some (.int 0))) (h2 := (q_cM q_AM (q_uI q_IM 0 39 0) q_J0, 34, 31630)) rfl rfl ?_ ?_
                      · refine q_Ca_of (Nat.le_of_ble_eq_true rfl) ?_
                        refine q_Ru_seg (g2 := (2, [(0, .int a), (1, .int 3840), (2, .int 3887)], [.int 3840, .int a], (q_cM q_AM (q_uI q_IM 0 39 0) q_J0, 34, 31630))) 2 (fun _ _ => rfl) ?_
                        refine q_Ru_rsT (g2 := (14, [(0, .int a), (1, .int 3840), (2, .int 3887)], [], (q_cM q_AM (q_uI q_IM 0 39 0) q_J0, 34, 31630))) rfl rfl h212 ?_
                        refine q_Ru_seg (g2 := (15, [(0, .int a), (1, .int 3840), (2, .int 3887)], [.int 0], (q_cM q_AM (q_uI q_IM 0 39 0) q_J0, 34, 31630))) 1 (fun _ _ => rfl) ?_
                        exact q_Ru_ret rfl rfl
                      show q_Ru _ _ _ (10, [(0, .ref 64), (1, .int a)], [.int 0], (q_cM q_AM (q_uI q_IM 0 39 0) q_J0, 34, 31630)) _
                      refine q_Ru_seg (g2 := (30, [(0, .ref 64), (1, .int a)], [.int 3583, .int 3072, .int a], (q_cM q_AM (q_uI q_IM 0 39 0) q_J0, 34, 31630))) 4 (fun _ _ => rfl) ?_
                      refine q_Ru_call (v := (some (.int 0))) (h2 := (q_cM q_AM (q_uI q_IM 0 39 0) q_J0, 34, 31630)) rfl rfl ?_ ?_
                      · refine q_Ca_of (Nat.le_of_ble_eq_true rfl) ?_
                        refine q_Ru_seg (g2 := (2, [(0, .int a), (1, .int 3072), (2, .int 3583)], [.int 3072, .int a], (q_cM q_AM (q_uI q_IM 0 39 0) q_J0, 34, 31630))) 2 (fun _ _ => rfl) ?_
                        refine q_Ru_rsT (g2 := (14, [(0, .int a), (1, .int 3072), (2, .int 3583)], [], (q_cM q_AM (q_uI q_IM 0 39 0) q_J0, 34, 31630))) rfl rfl h213 ?_
                        refine q_Ru_seg (g2 := (15, [(0, .int a), (1, .int 3072), (2, .int 3583)], [.int 0], (q_cM q_AM (q_uI q_IM 0 39 0) q_J0, 34, 31630))) 1 (fun _ _ => rfl) ?_
                        exact q_Ru_ret rfl rfl
                      show q_Ru _ _ _ (33, [(0, .ref 64), (1, .int a)], [.int 0], (q_cM q_AM (q_uI q_IM 0 39 0) q_J0, 34, 31630)) _
                      refine q_Ru_seg (g2 := (67, [(0, .ref 64), (1, .int a)], [.int 2559, .int 2048, .int a], (q_cM q_AM (q_uI q_IM 0 39 0) q_J0, 34, 31630))) 4 (fun _ _ => rfl) ?_
                      refine q_Ru_call (v := (some (.int 1))) (h2 := (q_cM q_AM (q_uI q_IM 0 39 0) q_J0, 34, 31630)) rfl rfl ?_ ?_
                      · refine q_Ca_of (Nat.le_of_ble_eq_true rfl) ?_
                        refine q_Ru_seg (g2 := (2, [(0, .int a), (1, .int 2048), (2, .int 2559)], [.int 2048, .int a], (q_cM q_AM (q_uI q_IM 0 39 0) q_J0, 34, 31630))) 2 (fun _ _ => rfl) ?_
                        refine q_Ru_rsF (g2 := (5, [(0, .int a), (1, .int 2048), (2, .int 2559)], [], (q_cM q_AM (q_uI q_IM 0 39 0) q_J0, 34, 31630))) rfl rfl h214 ?_
                        refine q_Ru_seg (g2 := (7, [(0, .int a), (1, .int 2048), (2, .int 2559)], [.int 2559, .int a], (q_cM q_AM (q_uI q_IM 0 39 0) q_J0, 34, 31630))) 2 (fun _ _ => rfl) ?_
                        refine q_Ru_rsF (g2 := (10, [(0, .int a), (1, .int 2048), (2, .int 2559)], [], (q_cM q_AM (q_uI q_IM 0 39 0) q_J0, 34, 31630))) rfl rfl h215 ?_
                        refine q_Ru_seg (g2 := (15, [(0, .int a), (1, .int 2048), (2, .int 2559)], [.int 1], (q_cM q_AM (q_uI q_IM 0 39 0) q_J0, 34, 31630))) 2 (fun _ _ => rfl) ?_
                        exact q_Ru_ret rfl rfl
                      show q_Ru _ _ _ (70, [(0, .ref 64), (1, .int a)], [.int 1], (q_cM q_AM (q_uI q_IM 0 39 0) q_J0, 34, 31630)) _
                      refine q_Ru_seg (g2 := (80, [(0, .ref 64), (1, .int a)], [.int 1, .int 0], (q_cM q_AM (q_uI q_IM 0 39 0) q_J0, 34, 31630))) 6 (fun _ _ => rfl) ?_
                      refine q_Ru_call (v := (some (.int 0))) (h2 := (q_cM q_AM (q_uI q_IM 0 39 0) q_J0, 34, 31630)) rfl rfl ?_ ?_
                      · refine q_Ca_of (Nat.le_of_ble_eq_true rfl) ?_
                        refine q_Ru_seg (g2 := (14, [(0, .int 0), (1, .int 1)], [.int 0], (q_cM q_AM (q_uI q_IM 0 39 0) q_J0, 34, 31630))) 8 (fun _ _ => rfl) ?_
                        exact q_Ru_ret rfl rfl
                      show q_Ru _ _ _ (83, [(0, .ref 64), (1, .int a)], [.int 0], (q_cM q_AM (q_uI q_IM 0 39 0) q_J0, 34, 31630)) _
                      refine q_Ru_seg (g2 := (115, [(0, .ref 64), (1, .int a)], [.int a, .ref 65], (q_cM q_AM (q_uI q_IM 0 39 0) q_J0, 34, 31630))) 4 (fun _ _ => rfl) ?_
                      refine q_Ru_rsT (g2 := (116, [(0, .ref 64), (1, .int a)], [.int 0], (q_cM q_AM (q_uI q_IM 0 39 0) q_J0, 34, 31630))) rfl rfl (q_in_bd (x := a) (n := 4096) (U := 2559) (L := 2048) (q_lo1 h214) (q_hi2 h215)) ?_
                      exact q_Ru_ret rfl rfl
                    show q_Ru _ _ _ (28, [(0, .ref 64), (1, .int a)], [.int 0], (q_cM q_AM (q_uI q_IM 0 39 0) q_J0, 34, 31630)) _
                    exact q_Ru_ret rfl rfl
            | false =>
              cases h216 : decide (3583 < a) with
              | true =>
                cases h217 : decide (a < 2048) with
                | true =>
                  exact q_no (q_lo2 h216) (q_hi1 h217) (by decide)
                | false =>
                  cases h218 : decide (2559 < a) with
                  | true =>
                    refine ⟨0, 0, 0, ⟨(q_cX q_AX q_IX (q_uA q_J0 39 (vp_updL (fun _ => 0) 0 0)), 40, 26520), (q_uA q_J0 39 (vp_updL (fun _ => 0) 0 0)) 39, ?_, rfl, fun _ => rfl, Nat.le_of_ble_eq_true rfl, Nat.le_of_ble_eq_true rfl⟩, ⟨(q_cM q_AM (q_uI q_IM 0 39 0) q_J0, 34, 31630), _, ?_, rfl, rfl, Nat.le_of_ble_eq_true rfl, Nat.le_of_ble_eq_true rfl⟩, fun _ => rfl⟩
                    · refine q_Ca_of (Nat.le_of_ble_eq_true rfl) ?_
                      refine q_Ru_seg (g2 := (4, [(0, .ref 64), (1, .int a), (2, .ref 103)], [.int a, .ref 64, .int 0, .ref 103], (q_cX q_AX q_IX q_J0, 40, 26520))) 4 (fun _ _ => rfl) ?_
                      refine q_Ru_call (v := (some (.int 0))) (h2 := (q_cX q_AX q_IX q_J0, 40, 26520)) rfl rfl ?_ ?_
                      · refine q_Ca_of (Nat.le_of_ble_eq_true rfl) ?_
                        refine q_Ru_seg (g2 := (1, [(0, .ref 64), (1, .int a)], [.int a], (q_cX q_AX q_IX q_J0, 40, 26520))) 1 (fun _ _ => rfl) ?_
                        refine q_Ru_call (v := none) (h2 := (q_cX q_AX q_IX q_J0, 40, 26520)) rfl rfl ?_ ?_
                        · refine q_Ca_of (Nat.le_of_ble_eq_true rfl) ?_
                          refine q_Ru_seg (g2 := (4, [(0, .int a)], [.int 4096, .int a], (q_cX q_AX q_IX q_J0, 40, 26520))) 2 (fun _ _ => rfl) ?_
                          refine q_Ru_call (v := none) (h2 := (q_cX q_AX q_IX q_J0, 40, 26520)) rfl rfl ?_ ?_
                          · refine q_Ca_of (Nat.le_of_ble_eq_true rfl) ?_
                            refine q_Ru_seg (g2 := (1, [(0, .int a), (1, .int 4096)], [.int a], (q_cX q_AX q_IX q_J0, 40, 26520))) 1 (fun _ _ => rfl) ?_
                            refine q_Ru_rsF (g2 := (4, [(0, .int a), (1, .int 4096)], [], (q_cX q_AX q_IX q_J0, 40, 26520))) rfl rfl h208 ?_
                            refine q_Ru_seg (g2 := (6, [(0, .int a), (1, .int 4096)], [.int 4096, .int a], (q_cX q_AX q_IX q_J0, 40, 26520))) 2 (fun _ _ => rfl) ?_
                            refine q_Ru_rsT (g2 := (19, [(0, .int a), (1, .int 4096)], [], (q_cX q_AX q_IX q_J0, 40, 26520))) rfl rfl h209 ?_
                            exact q_Ru_ret rfl rfl
                          show q_Ru _ _ _ (7, [(0, .int a)], [], (q_cX q_AX q_IX q_J0, 40, 26520)) _
                          exact q_Ru_ret rfl rfl
                        show q_Ru _ _ _ (4, [(0, .ref 64), (1, .int a)], [], (q_cX q_AX q_IX q_J0, 40, 26520)) _
                        refine q_Ru_seg (g2 := (12, [(0, .ref 64), (1, .int a)], [.int a, .ref 66], (q_cX q_AX q_IX q_J0, 40, 26520))) 4 (fun _ _ => rfl) ?_
                        refine q_Ru_call (v := (some (.int 0))) (h2 := (q_cX q_AX q_IX q_J0, 40, 26520)) rfl rfl ?_ ?_
                        · refine q_Ca_of (Nat.le_of_ble_eq_true rfl) ?_
                          refine q_Ru_seg (g2 := (7, [(2, .int (a - 3840)), (0, .ref 66), (1, .int a)], [.int (a - 3840)], (q_cX q_AX q_IX q_J0, 40, 26520))) 5 (fun _ _ => rfl) ?_
                          refine q_Ru_rsT (g2 := (31, [(2, .int (a - 3840)), (0, .ref 66), (1, .int a)], [], (q_cX q_AX q_IX q_J0, 40, 26520))) rfl rfl h210 ?_
                          refine q_Ru_seg (g2 := (127, [(3, .int 0), (2, .int (a - 3840)), (0, .ref 66), (1, .int a)], [.int (a &&& 4095), .ref 68], (q_cX q_AX q_IX q_J0, 40, 26520))) 22 (fun _ _ => rfl) ?_
                          refine q_Ru_rsT (g2 := (128, [(3, .int 0), (2, .int (a - 3840)), (0, .ref 66), (1, .int a)], [.int 0], (q_cX q_AX q_IX q_J0, 40, 26520))) rfl rfl (q_in_bd (x := a &&& 4095) (n := 4096) (U := 4095) (L := 0) (q_and_lo a 4095) (q_and_hi a 4095 4095)) ?_
                          exact q_Ru_ret rfl rfl
                        show q_Ru _ _ _ (15, [(0, .ref 64), (1, .int a)], [.int 0], (q_cX q_AX q_IX q_J0, 40, 26520)) _
                        exact q_Ru_ret rfl rfl
                      show q_Ru _ _ _ (7, [(0, .ref 64), (1, .int a), (2, .ref 103)], [.int 0, .int 0, .ref 103], (q_cX q_AX q_IX q_J0, 40, 26520)) _
                      refine q_Ru_seg (g2 := (16, [(0, .ref 64), (1, .int a), (2, .ref 103)], [.int 0], (q_cX q_AX q_IX (q_uA q_J0 39 (vp_updL (fun _ => 0) 0 0)), 40, 26520))) 4 (fun _ _ => rfl) ?_
                      exact q_Ru_ret rfl rfl
                    · refine q_Ca_of (Nat.le_of_ble_eq_true rfl) ?_
                      refine q_Ru_seg (g2 := (2, [(0, .ref 64), (1, .int a)], [.int a, .ref 64], (q_cM q_AM q_IM q_J0, 34, 31630))) 2 (fun _ _ => rfl) ?_
                      refine q_Ru_call (v := (some (.int 0))) (h2 := (q_cM q_AM q_IM q_J0, 34, 31630)) rfl rfl ?_ ?_
                      · refine q_Ca_of (Nat.le_of_ble_eq_true rfl) ?_
                        refine q_Ru_seg (g2 := (5, [(0, .int a)], [.int 4095, .int 0, .int a], (q_cM q_AM q_IM q_J0, 34, 31630))) 3 (fun _ _ => rfl) ?_
                        refine q_Ru_call (v := (some (.int 1))) (h2 := (q_cM q_AM q_IM q_J0, 34, 31630)) rfl rfl ?_ ?_
                        · refine q_Ca_of (Nat.le_of_ble_eq_true rfl) ?_
                          refine q_Ru_seg (g2 := (2, [(0, .int a), (1, .int 0), (2, .int 4095)], [.int 0, .int a], (q_cM q_AM q_IM q_J0, 34, 31630))) 2 (fun _ _ => rfl) ?_
                          refine q_Ru_rsF (g2 := (5, [(0, .int a), (1, .int 0), (2, .int 4095)], [], (q_cM q_AM q_IM q_J0, 34, 31630))) rfl rfl h208 ?_
                          refine q_Ru_seg (g2 := (7, [(0, .int a), (1, .int 0), (2, .int 4095)], [.int 4095, .int a], (q_cM q_AM q_IM q_J0, 34, 31630))) 2 (fun _ _ => rfl) ?_
                          refine q_Ru_rsF (g2 := (10, [(0, .int a), (1, .int 0), (2, .int 4095)], [], (q_cM q_AM q_IM q_J0, 34, 31630))) rfl rfl h211 ?_
                          refine q_Ru_seg (g2 := (15, [(0, .int a), (1, .int 0), (2, .int 4095)], [.int 1], (q_cM q_AM q_IM q_J0, 34, 31630))) 2 (fun _ _ => rfl) ?_
                          exact q_Ru_ret rfl rfl
                        show q_Ru _ _ _ (8, [(0, .int a)], [.int 1], (q_cM q_AM q_IM q_J0, 34, 31630)) _
                        refine q_Ru_seg (g2 := (16, [(0, .int a)], [.int 0], (q_cM q_AM q_IM q_J0, 34, 31630))) 2 (fun _ _ => rfl) ?_
                        exact q_Ru_ret rfl rfl
                      show q_Ru _ _ _ (5, [(0, .ref 64), (1, .int a)], [.int 0, .ref 64], (q_cM q_AM q_IM q_J0, 34, 31630)) _
                      refine q_Ru_seg (g2 := (13, [(0, .ref 64), (1, .int a)], [.int 0, .ref 64], (q_cM q_AM q_IM q_J0, 34, 31630))) 2 (fun _ _ => rfl) ?_
                      refine q_Ru_call (v := (some (.int 0))) (h2 := (q_cM q_AM (q_uI q_IM 0 39 0) q_J0, 34, 31630)) rfl rfl ?_ ?_
                      · refine q_Ca_of (Nat.le_of_ble_eq_true rfl) ?_
                        refine q_Ru_seg (g2 := (14, [(0, .ref 64), (1, .int 0)], [.int 0], (q_cM q_AM (q_uI q_IM 0 39 0) q_J0, 34, 31630))) 6 (fun _ _ => rfl) ?_
                        exact q_Ru_ret rfl rfl
                      show q_Ru _ _ _ (16, [(0, .ref 64), (1, .int a)], [.int 0], (q_cM q_AM (q_uI q_IM 0 39 0) q_J0, 34, 31630)) _
                      refine q_Ru_seg (g2 := (25, [(0, .ref 64), (1, .int a)], [.int a, .ref 64], (q_cM q_AM (q_uI q_IM 0 39 0) q_J0, 34, 31630))) 3 (fun _ _ => rfl) ?_
                      refine q_Ru_call (v := (some (.int 0))) (h2 := (q_cM q_AM (q_uI q_IM 0 39 0) q_J0, 34, 31630)) rfl rfl ?_ ?_
                      · refine q_Ca_of (Nat.le_of_ble_eq_true rfl) ?_
                        refine q_Ru_seg (g2 := (7, [(0, .ref 64), (1, .int a)], [.int 3887, .int 3840, .int a], (q_cM q_AM (q_uI q_IM 0 39 0) q_J0, 34, 31630))) 3 (fun _ _ => rfl) ?_
                        refine q_Ru_call (v := (some (.int 0))) (h2 := (q_cM q_AM (q_uI q_IM 0 39 0) q_J0, 34, 31630)) rfl rfl ?_ ?_
                        · refine q_Ca_of (Nat.le_of_ble_eq_true rfl) ?_
                          refine q_Ru_seg (g2 := (2, [(0, .int a), (1, .int 3840), (2, .int 3887)], [.int 3840, .int a], (q_cM q_AM (q_uI q_IM 0 39 0) q_J0, 34, 31630))) 2 (fun _ _ => rfl) ?_
                          refine q_Ru_rsT (g2 := (14, [(0, .int a), (1, .int 3840), (2, .int 3887)], [], (q_cM q_AM (q_uI q_IM 0 39 0) q_J0, 34, 31630))) rfl rfl h212 ?_
                          refine q_Ru_seg (g2 := (15, [(0, .int a), (1, .int 3840), (2, .int 3887)], [.int 0], (q_cM q_AM (q_uI q_IM 0 39 0) q_J0, 34, 31630))) 1 (fun _ _ => rfl) ?_
                          exact q_Ru_ret rfl rfl
                        show q_Ru _ _ _ (10, [(0, .ref 64), (1, .int a)], [.int 0], (q_cM q_AM (q_uI q_IM 0 39 0) q_J0, 34, 31630)) _
                        refine q_Ru_seg (g2 := (30, [(0, .ref 64), (1, .int a)], [.int 3583, .int 3072, .int a], (q_cM q_AM (q_uI q_IM 0 39 0) q_J0, 34, 31630))) 4 (fun _ _ => rfl) ?_
                        refine q_Ru_call (v := (some (.int 0))) (h2 := (q_cM q_AM (q_uI q_IM 0 39 0) q_J0, 34, 31630)) rfl rfl ?_ ?_
                        · refine q_Ca_of (Nat.le_of_ble_eq_true rfl) ?_
                          refine q_Ru_seg (g2 := (2, [(0, .int a), (1, .int 3072), (2, .int 3583)], [.int 3072, .int a], (q_cM q_AM (q_uI q_IM 0 39 0) q_J0, 34, 31630))) 2 (fun _ _ => rfl) ?_
                          refine q_Ru_rsF (g2 := (5, [(0, .int a), (1, .int 3072), (2, .int 3583)], [], (q_cM q_AM (q_uI q_IM 0 39 0) q_J0, 34, 31630))) rfl rfl h213 ?_
                          refine q_Ru_seg (g2 := (7, [(0, .int a), (1, .int 3072), (2, .int 3583)], [.int 3583, .int a], (q_cM q_AM (q_uI q_IM 0 39 0) q_J0, 34, 31630))) 2 (fun _ _ => rfl) ?_
                          refine q_Ru_rsT (g2 := (14, [(0, .int a), (1, .int 3072), (2, .int 3583)], [], (q_cM q_AM (q_uI q_IM 0 39 0) q_J0, 34, 31630))) rfl rfl h216 ?_
                          refine q_Ru_seg (g2 := (15, [(0, .int a), (1, .int 3072), (2, .int 3583)], [.int 0], (q_cM q_AM (q_uI q_IM 0 39 0) q_J0, 34, 31630))) 1 (fun _ _ => rfl) ?_
                          exact q_Ru_ret rfl rfl
                        show q_Ru _ _ _ (33, [(0, .ref 64), (1, .int a)], [.int 0], (q_cM q_AM (q_uI q_IM 0 39 0) q_J0, 34, 31630)) _
                        refine q_Ru_seg (g2 := (67, [(0, .ref 64), (1, .int a)], [.int 2559, .int 2048, .int a], (q_cM q_AM (q_uI q_IM 0 39 0) q_J0, 34, 31630))) 4 (fun _ _ => rfl) ?_
                        refine q_Ru_call (v := (some (.int 0))) (h2 := (q_cM q_AM (q_uI q_IM 0 39 0) q_J0, 34, 31630)) rfl rfl ?_ ?_
                        · refine q_Ca_of (Nat.le_of_ble_eq_true rfl) ?_
                          refine q_Ru_seg (g2 := (2, [(0, .int a), (1, .int 2048), (2, .int 2559)], [.int 2048, .int a], (q_cM q_AM (q_uI q_IM 0 39 0) q_J0, 34, 31630))) 2 (fun _ _ => rfl) ?_
                          refine q_Ru_rsF (g2 := (5, [(0, .int a), (1, .int 2048), (2, .int 2559)], [], (q_cM q_AM (q_uI q_IM 0 39 0) q_J0, 34, 31630))) rfl rfl h217 ?_
                          refine q_Ru_seg (g2 := (7, [(0, .int a), (1, .int 2048), (2, .int 2559)], [.int 2559, .int a], (q_cM q_AM (q_uI q_IM 0 39 0) q_J0, 34, 31630))) 2 (fun _ _ => rfl) ?_
                          refine q_Ru_rsT (g2 := (14, [(0, .int a), (1, .int 2048), (2, .int 2559)], [], (q_cM q_AM (q_uI q_IM 0 39 0) q_J0, 34, 31630))) rfl rfl h218 ?_
                          refine q_Ru_seg (g2 := (15, [(0, .int a), (1, .int 2048), (2, .int 2559)], [.int 0], (q_cM q_AM (q_uI q_IM 0 39 0) q_J0, 34, 31630))) 1 (fun _ _ => rfl) ?_
                          exact q_Ru_ret rfl rfl
                        show q_Ru _ _ _ (70, [(0, .ref 64), (1, .int a)], [.int 0], (q_cM q_AM (q_uI q_IM 0 39 0) q_J0, 34, 31630)) _
                        refine q_Ru_seg (g2 := (115, [(0, .ref 64), (1, .int a)], [.int a, .ref 65], (q_cM q_AM (q_uI q_IM 0 39 0) q_J0, 34, 31630))) 4 (fun _ _ => rfl) ?_
                        refine q_Ru_rsT (g2 := (116, [(0, .ref 64), (1, .int a)], [.int 0], (q_cM q_AM (q_uI q_IM 0 39 0) q_J0, 34, 31630))) rfl rfl (q_in_bd (x := a) (n := 4096) (U := 3839) (L := 3584) (q_lo2 h216) (q_sub_hi 3839 (q_hi1 h210) (q_lo1 h208) (q_hi1 h209))) ?_
                        exact q_Ru_ret rfl rfl
                      show q_Ru _ _ _ (28, [(0, .ref 64), (1, .int a)], [.int 0], (q_cM q_AM (q_uI q_IM 0 39 0) q_J0, 34, 31630)) _
                      exact q_Ru_ret rfl rfl
                  | false =>
                    exact q_no (q_lo2 h216) (q_hi2 h218) (by decide)
              | false =>
                cases h219 : decide (a < 2048) with
                | true =>
                  exact q_no (q_lo1 h213) (q_hi1 h219) (by decide)
                | false =>
                  cases h220 : decide (2559 < a) with
                  | true =>
                    refine ⟨0, 0, 0, ⟨(q_cX q_AX q_IX (q_uA q_J0 39 (vp_updL (fun _ => 0) 0 0)), 40, 26520), (q_uA q_J0 39 (vp_updL (fun _ => 0) 0 0)) 39, ?_, rfl, fun _ => rfl, Nat.le_of_ble_eq_true rfl, Nat.le_of_ble_eq_true rfl⟩, ⟨(q_cM q_AM (q_uI q_IM 0 39 0) q_J0, 34, 31630), _, ?_, rfl, rfl, Nat.le_of_ble_eq_true rfl, Nat.le_of_ble_eq_true rfl⟩, fun _ => rfl⟩
                    · refine q_Ca_of (Nat.le_of_ble_eq_true rfl) ?_
                      refine q_Ru_seg (g2 := (4, [(0, .ref 64), (1, .int a), (2, .ref 103)], [.int a, .ref 64, .int 0, .ref 103], (q_cX q_AX q_IX q_J0, 40, 26520))) 4 (fun _ _ => rfl) ?_
                      refine q_Ru_call (v := (some (.int 0))) (h2 := (q_cX q_AX q_IX q_J0, 40, 26520)) rfl rfl ?_ ?_
                      · refine q_Ca_of (Nat.le_of_ble_eq_true rfl) ?_
                        refine q_Ru_seg (g2 := (1, [(0, .ref 64), (1, .int a)], [.int a], (q_cX q_AX q_IX q_J0, 40, 26520))) 1 (fun _ _ => rfl) ?_
                        refine q_Ru_call (v := none) (h2 := (q_cX q_AX q_IX q_J0, 40, 26520)) rfl rfl ?_ ?_
                        · refine q_Ca_of (Nat.le_of_ble_eq_true rfl) ?_
                          refine q_Ru_seg (g2 := (4, [(0, .int a)], [.int 4096, .int a], (q_cX q_AX q_IX q_J0, 40, 26520))) 2 (fun _ _ => rfl) ?_
                          refine q_Ru_call (v := none) (h2 := (q_cX q_AX q_IX q_J0, 40, 26520)) rfl rfl ?_ ?_
                          · refine q_Ca_of (Nat.le_of_ble_eq_true rfl) ?_
                            refine q_Ru_seg (g2 := (1, [(0, .int a), (1, .int 4096)], [.int a], (q_cX q_AX q_IX q_J0, 40, 26520))) 1 (fun _ _ => rfl) ?_
                            refine q_Ru_rsF (g2 := (4, [(0, .int a), (1, .int 4096)], [], (q_cX q_AX q_IX q_J0, 40, 26520))) rfl rfl h208 ?_
                            refine q_Ru_seg (g2 := (6, [(0, .int a), (1, .int 4096)], [.int 4096, .int a], (q_cX q_AX q_IX q_J0, 40, 26520))) 2 (fun _ _ => rfl) ?_
                            refine q_Ru_rsT (g2 := (19, [(0, .int a), (1, .int 4096)], [], (q_cX q_AX q_IX q_J0, 40, 26520))) rfl rfl h209 ?_
                            exact q_Ru_ret rfl rfl
                          show q_Ru _ _ _ (7, [(0, .int a)], [], (q_cX q_AX q_IX q_J0, 40, 26520)) _
                          exact q_Ru_ret rfl rfl
                        show q_Ru _ _ _ (4, [(0, .ref 64), (1, .int a)], [], (q_cX q_AX q_IX q_J0, 40, 26520)) _
                        refine q_Ru_seg (g2 := (12, [(0, .ref 64), (1, .int a)], [.int a, .ref 66], (q_cX q_AX q_IX q_J0, 40, 26520))) 4 (fun _ _ => rfl) ?_
                        refine q_Ru_call (v := (some (.int 0))) (h2 := (q_cX q_AX q_IX q_J0, 40, 26520)) rfl rfl ?_ ?_
                        · refine q_Ca_of (Nat.le_of_ble_eq_true rfl) ?_
                          refine q_Ru_seg (g2 := (7, [(2, .int (a - 3840)), (0, .ref 66), (1, .int a)], [.int (a - 3840)], (q_cX q_AX q_IX q_J0, 40, 26520))) 5 (fun _ _ => rfl) ?_
                          refine q_Ru_rsT (g2 := (31, [(2, .int (a - 3840)), (0, .ref 66), (1, .int a)], [], (q_cX q_AX q_IX q_J0, 40, 26520))) rfl rfl h210 ?_
                          refine q_Ru_seg (g2 := (127, [(3, .int 0), (2, .int (a - 3840)), (0, .ref 66), (1, .int a)], [.int (a &&& 4095), .ref 68], (q_cX q_AX q_IX q_J0, 40, 26520))) 22 (fun _ _ => rfl) ?_
                          refine q_Ru_rsT (g2 := (128, [(3, .int 0), (2, .int (a - 3840)), (0, .ref 66), (1, .int a)], [.int 0], (q_cX q_AX q_IX q_J0, 40, 26520))) rfl rfl (q_in_bd (x := a &&& 4095) (n := 4096) (U := 4095) (L := 0) (q_and_lo a 4095) (q_and_hi a 4095 4095)) ?_
                          exact q_Ru_ret rfl rfl
                        show q_Ru _ _ _ (15, [(0, .ref 64), (1, .int a)], [.int 0], (q_cX q_AX q_IX q_J0, 40, 26520)) _
                        exact q_Ru_ret rfl rfl
                      show q_Ru _ _ _ (7, [(0, .ref 64), (1, .int a), (2, .ref 103)], [.int 0, .int 0, .ref 103], (q_cX q_AX q_IX q_J0, 40, 26520)) _
                      refine q_Ru_seg (g2 := (16, [(0, .ref 64), (1, .int a), (2, .ref 103)], [.int 0], (q_cX q_AX q_IX (q_uA q_J0 39 (vp_updL (fun _ => 0) 0 0)), 40, 26520))) 4 (fun _ _ => rfl) ?_
                      exact q_Ru_ret rfl rfl
                    · refine q_Ca_of (Nat.le_of_ble_eq_true rfl) ?_
                      refine q_Ru_seg (g2 := (2, [(0, .ref 64), (1, .int a)], [.int a, .ref 64], (q_cM q_AM q_IM q_J0, 34, 31630))) 2 (fun _ _ => rfl) ?_
                      refine q_Ru_call (v := (some (.int 0))) (h2 := (q_cM q_AM q_IM q_J0, 34, 31630)) rfl rfl ?_ ?_
                      · refine q_Ca_of (Nat.le_of_ble_eq_true rfl) ?_
                        refine q_Ru_seg (g2 := (5, [(0, .int a)], [.int 4095, .int 0, .int a], (q_cM q_AM q_IM q_J0, 34, 31630))) 3 (fun _ _ => rfl) ?_
                        refine q_Ru_call (v := (some (.int 1))) (h2 := (q_cM q_AM q_IM q_J0, 34, 31630)) rfl rfl ?_ ?_
                        · refine q_Ca_of (Nat.le_of_ble_eq_true rfl) ?_
                          refine q_Ru_seg (g2 := (2, [(0, .int a), (1, .int 0), (2, .int 4095)], [.int 0, .int a], (q_cM q_AM q_IM q_J0, 34, 31630))) 2 (fun _ _ => rfl) ?_
                          refine q_Ru_rsF (g2 := (5, [(0, .int a), (1, .int 0), (2, .int 4095)], [], (q_cM q_AM q_IM q_J0, 34, 31630))) rfl rfl h208 ?_
                          refine q_Ru_seg (g2 := (7, [(0, .int a), (1, .int 0), (2, .int 4095)], [.int 4095, .int a], (q_cM q_AM q_IM q_J0, 34, 31630))) 2 (fun _ _ => rfl) ?_
                          refine q_Ru_rsF (g2 := (10, [(0, .int a), (1, .int 0), (2, .int 4095)], [], (q_cM q_AM q_IM q_J0, 34, 31630))) rfl rfl h211 ?_
                          refine q_Ru_seg (g2 := (15, [(0, .int a), (1, .int 0), (2, .int 4095)], [.int 1], (q_cM q_AM q_IM q_J0, 34, 31630))) 2 (fun _ _ => rfl) ?_
                          exact q_Ru_ret rfl rfl
                        show q_Ru _ _ _ (8, [(0, .int a)], [.int 1], (q_cM q_AM q_IM q_J0, 34, 31630)) _
                        refine q_Ru_seg (g2 := (16, [(0, .int a)], [.int 0], (q_cM q_AM q_IM q_J0, 34, 31630))) 2 (fun _ _ => rfl) ?_
                        exact q_Ru_ret rfl rfl
                      show q_Ru _ _ _ (5, [(0, .ref 64), (1, .int a)], [.int 0, .ref 64], (q_cM q_AM q_IM q_J0, 34, 31630)) _
                      refine q_Ru_seg (g2 := (13, [(0, .ref 64), (1, .int a)], [.int 0, .ref 64], (q_cM q_AM q_IM q_J0, 34, 31630))) 2 (fun _ _ => rfl) ?_
                      refine q_Ru_call (v := (some (.int 0))) (h2 := (q_cM q_AM (q_uI q_IM 0 39 0) q_J0, 34, 31630)) rfl rfl ?_ ?_
                      · refine q_Ca_of (Nat.le_of_ble_eq_true rfl) ?_
                        refine q_Ru_seg (g2 := (14, [(0, .ref 64), (1, .int 0)], [.int 0], (q_cM q_AM (q_uI q_IM 0 39 0) q_J0, 34, 31630))) 6 (fun _ _ => rfl) ?_
                        exact q_Ru_ret rfl rfl
                      show q_Ru _ _ _ (16, [(0, .ref 64), (1, .int a)], [.int 0], (q_cM q_AM (q_uI q_IM 0 39 0) q_J0, 34, 31630)) _
                      refine q_Ru_seg (g2 := (25, [(0, .ref 64), (1, .int a)], [.int a, .ref 64], (q_cM q_AM (q_uI q_IM 0 39 0) q_J0, 34, 31630))) 3 (fun _ _ => rfl) ?_
                      refine q_Ru_call (v := (some (.int 0))) (h2 := (q_cM q_AM (q_uI q_IM 0 39 0) q_J0, 34, 31630)) rfl rfl ?_ ?_
                      · refine q_Ca_of (Nat.le_of_ble_eq_true rfl) ?_
                        refine q_Ru_seg (g2 := (7, [(0, .ref 64), (1, .int a)], [.int 3887, .int 3840, .int a], (q_cM q_AM (q_uI q_IM 0 39 0) q_J0, 34, 31630))) 3 (fun _ _ => rfl) ?_
                        refine q_Ru_call (v := (some (.int 0))) (h2 := (q_cM q_AM (q_uI q_IM 0 39 0) q_J0, 34, 31630)) rfl rfl ?_ ?_
                        · refine q_Ca_of (Nat.le_of_ble_eq_true rfl) ?_
                          refine q_Ru_seg (g2 := (2, [(0, .int a), (1, .int 3840), (2, .int 3887)], [.int 3840, .int a], (q_cM q_AM (q_uI q_IM 0 39 0) q_J0, 34, 31630))) 2 (fun _ _ => rfl) ?_
                          refine q_Ru_rsT (g2 := (14, [(0, .int a), (1, .int 3840), (2, .int 3887)], [], (q_cM q_AM (q_uI q_IM 0 39 0) q_J0, 34, 31630))) rfl rfl h212 ?_
                          refine q_Ru_seg (g2 := (15, [(0, .int a), (1, .int 3840), (2, .int 3887)], [.int 0], (q_cM q_AM (q_uI q_IM 0 39 0) q_J0, 34, 31630))) 1 (fun _ _ => rfl) ?_
                          exact q_Ru_ret rfl rfl
                        show q_Ru _ _ _ (10, [(0, .ref 64), (1, .int a)], [.int 0], (q_cM q_AM (q_uI q_IM 0 39 0) q_J0, 34, 31630)) _
                        refine q_Ru_seg (g2 := (30, [(0, .ref 64), (1, .int a)], [.int 3583, .int 3072, .int a], (q_cM q_AM (q_uI q_IM 0 39 0) q_J0, 34, 31630))) 4 (fun _ _ => rfl) ?_
                        refine q_Ru_call (v := (some (.int 1))) (h2 := (q_cM q_AM (q_uI q_IM 0 39 0) q_J0, 34, 31630)) rfl rfl ?_ ?_
                        · refine q_Ca_of (Nat.le_of_ble_eq_true rfl) ?_
                          refine q_Ru_seg (g2 := (2, [(0, .int a), (1, .int 3072), (2, .int 3583)], [.int 3072, .int a], (q_cM q_AM (q_uI q_IM 0 39 0) q_J0, 34, 31630))) 2 (fun _ _ => rfl) ?_
                          refine q_Ru_rsF (g2 := (5, [(0, .int a), (1, .int 3072), (2, .int 3583)], [], (q_cM q_AM (q_uI q_IM 0 39 0) q_J0, 34, 31630))) rfl rfl h213 ?_
                          refine q_Ru_seg (g2 := (7, [(0, .int a), (1, .int 3072), (2, .int 3583)], [.int 3583, .int a], (q_cM q_AM (q_uI q_IM 0 39 0) q_J0, 34, 31630))) 2 (fun _ _ => rfl) ?_
                          refine q_Ru_rsF (g2 := (10, [(0, .int a), (1, .int 3072), (2, .int 3583)], [], (q_cM q_AM (q_uI q_IM 0 39 0) q_J0, 34, 31630))) rfl rfl h216 ?_
                          refine q_Ru_seg (g2 := (15, [(0, .int a), (1, .int 3072), (2, .int 3583)], [.int 1], (q_cM q_AM (q_uI q_IM 0 39 0) q_J0, 34, 31630))) 2 (fun _ _ => rfl) ?_
                          exact q_Ru_ret rfl rfl
                        show q_Ru _ _ _ (33, [(0, .ref 64), (1, .int a)], [.int 1], (q_cM q_AM (q_uI q_IM 0 39 0) q_J0, 34, 31630)) _
                        refine q_Ru_seg (g2 := (43, [(0, .ref 64), (1, .int a)], [.int 0, .int 0], (q_cM q_AM (q_uI q_IM 0 39 0) q_J0, 34, 31630))) 6 (fun _ _ => rfl) ?_
                        refine q_Ru_call (v := (some (.int 0))) (h2 := (q_cM q_AM (q_uI q_IM 0 39 0) q_J0, 34, 31630)) rfl rfl ?_ ?_
                        · refine q_Ca_of (Nat.le_of_ble_eq_true rfl) ?_
                          refine q_Ru_seg (g2 := (14, [(0, .int 0), (1, .int 0)], [.int 0], (q_cM q_AM (q_uI q_IM 0 39 0) q_J0, 34, 31630))) 8 (fun _ _ => rfl) ?_
                          exact q_Ru_ret rfl rfl
                        show q_Ru _ _ _ (46, [(0, .ref 64), (1, .int a)], [.int 0], (q_cM q_AM (q_uI q_IM 0 39 0) q_J0, 34, 31630)) _
                        refine q_Ru_seg (g2 := (67, [(0, .ref 64), (1, .int a)], [.int 2559, .int 2048, .int a], (q_cM q_AM (q_uI q_IM 0 39 0) q_J0, 34, 31630))) 4 (fun _ _ => rfl) ?_
                        refine q_Ru_call (v := (some (.int 0))) (h2 := (q_cM q_AM (q_uI q_IM 0 39 0) q_J0, 34, 31630)) rfl rfl ?_ ?_
                        · refine q_Ca_of (Nat.le_of_ble_eq_true rfl) ?_
                          refine q_Ru_seg (g2 := (2, [(0, .int a), (1, .int 2048), (2, .int 2559)], [.int 2048, .int a], (q_cM q_AM (q_uI q_IM 0 39 0) q_J0, 34, 31630))) 2 (fun _ _ => rfl) ?_
                          refine q_Ru_rsF (g2 := (5, [(0, .int a), (1, .int 2048), (2, .int 2559)], [], (q_cM q_AM (q_uI q_IM 0 39 0) q_J0, 34, 31630))) rfl rfl h219 ?_
                          refine q_Ru_seg (g2 := (7, [(0, .int a), (1, .int 2048), (2, .int 2559)], [.int 2559, .int a], (q_cM q_AM (q_uI q_IM 0 39 0) q_J0, 34, 31630))) 2 (fun _ _ => rfl) ?_
                          refine q_Ru_rsT (g2 := (14, [(0, .int a), (1, .int 2048), (2, .int 2559)], [], (q_cM q_AM (q_uI q_IM 0 39 0) q_J0, 34, 31630))) rfl rfl h220 ?_
                          refine q_Ru_seg (g2 := (15, [(0, .int a), (1, .int 2048), (2, .int 2559)], [.int 0], (q_cM q_AM (q_uI q_IM 0 39 0) q_J0, 34, 31630))) 1 (fun _ _ => rfl) ?_
                          exact q_Ru_ret rfl rfl
                        show q_Ru _ _ _ (70, [(0, .ref 64), (1, .int a)], [.int 0], (q_cM q_AM (q_uI q_IM 0 39 0) q_J0, 34, 31630)) _
                        refine q_Ru_seg (g2 := (115, [(0, .ref 64), (1, .int a)], [.int a, .ref 65], (q_cM q_AM (q_uI q_IM 0 39 0) q_J0, 34, 31630))) 4 (fun _ _ => rfl) ?_
                        refine q_Ru_rsT (g2 := (116, [(0, .ref 64), (1, .int a)], [.int 0], (q_cM q_AM (q_uI q_IM 0 39 0) q_J0, 34, 31630))) rfl rfl (q_in_bd (x := a) (n := 4096) (U := 3583) (L := 3072) (q_lo1 h213) (q_hi2 h216)) ?_
                        exact q_Ru_ret rfl rfl
                      show q_Ru _ _ _ (28, [(0, .ref 64), (1, .int a)], [.int 0], (q_cM q_AM (q_uI q_IM 0 39 0) q_J0, 34, 31630)) _
                      exact q_Ru_ret rfl rfl
                  | false =>
                    exact q_no (q_lo1 h213) (q_hi2 h220) (by decide)
          | false =>
            exact q_no (q_lo1 h212) (q_sub_hi 3839 (q_hi1 h210) (q_lo1 h208) (q_hi1 h209)) (by decide)
      | false =>
        cases h221 : decide (a - 3840 < 48) with
        | true =>
          obtain ⟨j222, g222, e222⟩ := q_en (l := 3840) (n := 47) (q_sub_lo 3840 (q_lo1 h210) (q_lo1 h208) (q_hi1 h209)) (q_sub_hi 3887 (q_hi1 h221) (q_sub_lo 3840 (q_lo1 h210) (q_lo1 h208) (q_hi1 h209)) (q_hi1 h209))
          match j222, g222, e222 with
          | 0, _, e222 =>
            have e222 : a = 3840 := e222
            subst e222
            refine ⟨0, 0, 0, ⟨(q_cX q_AX q_IX (q_uA q_J0 39 (vp_updL (fun _ => 0) 0 0)), 40, 26520), (q_uA q_J0 39 (vp_updL (fun _ => 0) 0 0)) 39, ?_, rfl, fun _ => rfl, Nat.le_of_ble_eq_true rfl, Nat.le_of_ble_eq_true rfl⟩, ⟨(q_cM q_AM (q_uI q_IM 0 39 0) q_J0, 34, 31630), _, ?_, rfl, rfl, Nat.le_of_ble_eq_true rfl, Nat.le_of_ble_eq_true rfl⟩, fun _ => rfl⟩
            · refine q_Ca_of (Nat.le_of_ble_eq_true rfl) ?_
              refine q_Ru_seg (g2 := (4, [(0, .ref 64), (1, .int 3840), (2, .ref 103)], [.int 3840, .ref 64, .int 0, .ref 103], (q_cX q_AX q_IX q_J0, 40, 26520))) 4 (fun _ _ => rfl) ?_
              refine q_Ru_call (v := (some (.int 0))) (h2 := (q_cX q_AX q_IX q_J0, 40, 26520)) rfl rfl ?_ ?_
              · refine q_Ca_of (Nat.le_of_ble_eq_true rfl) ?_
                refine q_Ru_seg (g2 := (1, [(0, .ref 64), (1, .int 3840)], [.int 3840], (q_cX q_AX q_IX q_J0, 40, 26520))) 1 (fun _ _ => rfl) ?_
                refine q_Ru_call (v := none) (h2 := (q_cX q_AX q_IX q_J0, 40, 26520)) rfl rfl ?_ ?_
                · refine q_Ca_of (Nat.le_of_ble_eq_true rfl) ?_
                  refine q_Ru_seg (g2 := (4, [(0, .int 3840)], [.int 4096, .int 3840], (q_cX q_AX q_IX q_J0, 40, 26520))) 2 (fun _ _ => rfl) ?_
                  refine q_Ru_call (v := none) (h2 := (q_cX q_AX q_IX q_J0, 40, 26520)) rfl rfl ?_ ?_
                  · refine q_Ca_of (Nat.le_of_ble_eq_true rfl) ?_
                    refine q_Ru_seg (g2 := (19, [(0, .int 3840), (1, .int 4096)], [], (q_cX q_AX q_IX q_J0, 40, 26520))) 5 (fun _ _ => rfl) ?_
                    exact q_Ru_ret rfl rfl
                  show q_Ru _ _ _ (7, [(0, .int 3840)], [], (q_cX q_AX q_IX q_J0, 40, 26520)) _
                  exact q_Ru_ret rfl rfl
                show q_Ru _ _ _ (4, [(0, .ref 64), (1, .int 3840)], [], (q_cX q_AX q_IX q_J0, 40, 26520)) _
                refine q_Ru_seg (g2 := (12, [(0, .ref 64), (1, .int 3840)], [.int 3840, .ref 66], (q_cX q_AX q_IX q_J0, 40, 26520))) 4 (fun _ _ => rfl) ?_
                refine q_Ru_call (v := (some (.int 0))) (h2 := (q_cX q_AX q_IX q_J0, 40, 26520)) rfl rfl ?_ ?_
                · refine q_Ca_of (Nat.le_of_ble_eq_true rfl) ?_
                  refine q_Ru_seg (g2 := (27, [(2, .int 0), (0, .ref 66), (1, .int 3840)], [.int 0, .int 0, .ref 66], (q_cX q_AX q_IX q_J0, 40, 26520))) 16 (fun _ _ => rfl) ?_
                  refine q_Ru_call (v := (some (.int 0))) (h2 := (q_cX q_AX q_IX q_J0, 40, 26520)) rfl rfl ?_ ?_
                  · refine q_Ca_of (Nat.le_of_ble_eq_true rfl) ?_
                    refine q_Ru_seg (g2 := (183, [(0, .ref 66), (1, .int 0), (2, .int 0)], [.int 0], (q_cX q_AX q_IX q_J0, 40, 26520))) 3 (fun _ _ => rfl) ?_
                    exact q_Ru_ret rfl rfl
                  show q_Ru _ _ _ (30, [(2, .int 0), (0, .ref 66), (1, .int 3840)], [.int 0], (q_cX q_AX q_IX q_J0, 40, 26520)) _
                  exact q_Ru_ret rfl rfl
                show q_Ru _ _ _ (15, [(0, .ref 64), (1, .int 3840)], [.int 0], (q_cX q_AX q_IX q_J0, 40, 26520)) _
                exact q_Ru_ret rfl rfl
              show q_Ru _ _ _ (7, [(0, .ref 64), (1, .int 3840), (2, .ref 103)], [.int 0, .int 0, .ref 103], (q_cX q_AX q_IX q_J0, 40, 26520)) _
              refine q_Ru_seg (g2 := (16, [(0, .ref 64), (1, .int 3840), (2, .ref 103)], [.int 0], (q_cX q_AX q_IX (q_uA q_J0 39 (vp_updL (fun _ => 0) 0 0)), 40, 26520))) 4 (fun _ _ => rfl) ?_
              exact q_Ru_ret rfl rfl
            · refine q_Ca_of (Nat.le_of_ble_eq_true rfl) ?_
              refine q_Ru_seg (g2 := (2, [(0, .ref 64), (1, .int 3840)], [.int 3840, .ref 64], (q_cM q_AM q_IM q_J0, 34, 31630))) 2 (fun _ _ => rfl) ?_
              refine q_Ru_call (v := (some (.int 0))) (h2 := (q_cM q_AM q_IM q_J0, 34, 31630)) rfl rfl ?_ ?_
              · refine q_Ca_of (Nat.le_of_ble_eq_true rfl) ?_
                refine q_Ru_seg (g2 := (5, [(0, .int 3840)], [.int 4095, .int 0, .int 3840], (q_cM q_AM q_IM q_J0, 34, 31630))) 3 (fun _ _ => rfl) ?_
                refine q_Ru_call (v := (some (.int 1))) (h2 := (q_cM q_AM q_IM q_J0, 34, 31630)) rfl rfl ?_ ?_
                · refine q_Ca_of (Nat.le_of_ble_eq_true rfl) ?_
                  refine q_Ru_seg (g2 := (15, [(0, .int 3840), (1, .int 0), (2, .int 4095)], [.int 1], (q_cM q_AM q_IM q_J0, 34, 31630))) 8 (fun _ _ => rfl) ?_
                  exact q_Ru_ret rfl rfl
                show q_Ru _ _ _ (8, [(0, .int 3840)], [.int 1], (q_cM q_AM q_IM q_J0, 34, 31630)) _
                refine q_Ru_seg (g2 := (16, [(0, .int 3840)], [.int 0], (q_cM q_AM q_IM q_J0, 34, 31630))) 2 (fun _ _ => rfl) ?_
                exact q_Ru_ret rfl rfl
              show q_Ru _ _ _ (5, [(0, .ref 64), (1, .int 3840)], [.int 0, .ref 64], (q_cM q_AM q_IM q_J0, 34, 31630)) _
              refine q_Ru_seg (g2 := (13, [(0, .ref 64), (1, .int 3840)], [.int 0, .ref 64], (q_cM q_AM q_IM q_J0, 34, 31630))) 2 (fun _ _ => rfl) ?_
              refine q_Ru_call (v := (some (.int 0))) (h2 := (q_cM q_AM (q_uI q_IM 0 39 0) q_J0, 34, 31630)) rfl rfl ?_ ?_
              · refine q_Ca_of (Nat.le_of_ble_eq_true rfl) ?_
                refine q_Ru_seg (g2 := (14, [(0, .ref 64), (1, .int 0)], [.int 0], (q_cM q_AM (q_uI q_IM 0 39 0) q_J0, 34, 31630))) 6 (fun _ _ => rfl) ?_
                exact q_Ru_ret rfl rfl
              show q_Ru _ _ _ (16, [(0, .ref 64), (1, .int 3840)], [.int 0], (q_cM q_AM (q_uI q_IM 0 39 0) q_J0, 34, 31630)) _
              refine q_Ru_seg (g2 := (25, [(0, .ref 64), (1, .int 3840)], [.int 3840, .ref 64], (q_cM q_AM (q_uI q_IM 0 39 0) q_J0, 34, 31630))) 3 (fun _ _ => rfl) ?_
              refine q_Ru_call (v := (some (.int 0))) (h2 := (q_cM q_AM (q_uI q_IM 0 39 0) q_J0, 34, 31630)) rfl rfl ?_ ?_
              · refine q_Ca_of (Nat.le_of_ble_eq_true rfl) ?_
                refine q_Ru_seg (g2 := (7, [(0, .ref 64), (1, .int 3840)], [.int 3887, .int 3840, .int 3840], (q_cM q_AM (q_uI q_IM 0 39 0) q_J0, 34, 31630))) 3 (fun _ _ => rfl) ?_
                refine q_Ru_call (v := (some (.int 1))) (h2 := (q_cM q_AM (q_uI q_IM 0 39 0) q_J0, 34, 31630)) rfl rfl ?_ ?_
                · refine q_Ca_of (Nat.le_of_ble_eq_true rfl) ?_
                  refine q_Ru_seg (g2 := (15, [(0, .int 3840), (1, .int 3840), (2, .int 3887)], [.int 1], (q_cM q_AM (q_uI q_IM 0 39 0) q_J0, 34, 31630))) 8 (fun _ _ => rfl) ?_
                  exact q_Ru_ret rfl rfl
                show q_Ru _ _ _ (10, [(0, .ref 64), (1, .int 3840)], [.int 1], (q_cM q_AM (q_uI q_IM 0 39 0) q_J0, 34, 31630)) _
                refine q_Ru_seg (g2 := (19, [(0, .ref 64), (1, .int 3840)], [.int 0, .ref 64], (q_cM q_AM (q_uI q_IM 0 39 0) q_J0, 34, 31630))) 5 (fun _ _ => rfl) ?_
                refine q_Ru_call (v := (some (.int 0))) (h2 := (q_cM q_AM (q_uI q_IM 0 39 0) q_J0, 34, 31630)) rfl rfl ?_ ?_
                · refine q_Ca_of (Nat.le_of_ble_eq_true rfl) ?_
                  refine q_Ru_seg (g2 := (30, [(0, .ref 64), (1, .int 0)], [.int 15, .int 12, .int 0], (q_cM q_AM (q_uI q_IM 0 39 0) q_J0, 34, 31630))) 9 (fun _ _ => rfl) ?_
                  refine q_Ru_call (v := (some (.int 0))) (h2 := (q_cM q_AM (q_uI q_IM 0 39 0) q_J0, 34, 31630)) rfl rfl ?_ ?_
                  · refine q_Ca_of (Nat.le_of_ble_eq_true rfl) ?_
                    refine q_Ru_seg (g2 := (15, [(0, .int 0), (1, .int 12), (2, .int 15)], [.int 0], (q_cM q_AM (q_uI q_IM 0 39 0) q_J0, 34, 31630))) 4 (fun _ _ => rfl) ?_
                    exact q_Ru_ret rfl rfl
                  show q_Ru _ _ _ (33, [(0, .ref 64), (1, .int 0)], [.int 0], (q_cM q_AM (q_uI q_IM 0 39 0) q_J0, 34, 31630)) _
                  refine q_Ru_seg (g2 := (190, [(0, .ref 64), (1, .int 0)], [.int 0], (q_cM q_AM (q_uI q_IM 0 39 0) q_J0, 34, 31630))) 20 (fun _ _ => rfl) ?_
                  exact q_Ru_ret rfl rfl
                show q_Ru _ _ _ (22, [(0, .ref 64), (1, .int 3840)], [.int 0], (q_cM q_AM (q_uI q_IM 0 39 0) q_J0, 34, 31630)) _
                exact q_Ru_ret rfl rfl
              show q_Ru _ _ _ (28, [(0, .ref 64), (1, .int 3840)], [.int 0], (q_cM q_AM (q_uI q_IM 0 39 0) q_J0, 34, 31630)) _
              exact q_Ru_ret rfl rfl
          | 1, _, e222 =>
            have e222 : a = 3841 := e222
            subst e222
            refine ⟨0, 0, 0, ⟨(q_cX q_AX q_IX (q_uA q_J0 39 (vp_updL (fun _ => 0) 0 0)), 40, 26520), (q_uA q_J0 39 (vp_updL (fun _ => 0) 0 0)) 39, ?_, rfl, fun _ => rfl, Nat.le_of_ble_eq_true rfl, Nat.le_of_ble_eq_true rfl⟩, ⟨(q_cM q_AM (q_uI q_IM 0 39 0) q_J0, 34, 31630), _, ?_, rfl, rfl, Nat.le_of_ble_eq_true rfl, Nat.le_of_ble_eq_true rfl⟩, fun _ => rfl⟩
            · refine q_Ca_of (Nat.le_of_ble_eq_true rfl) ?_
              refine q_Ru_seg (g2 := (4, [(0, .ref 64), (1, .int 3841), (2, .ref 103)], [.int 3841, .ref 64, .int 0, .ref 103], (q_cX q_AX q_IX q_J0, 40, 26520))) 4 (fun _ _ => rfl) ?_
              refine q_Ru_call (v := (some (.int 0))) (h2 := (q_cX q_AX q_IX q_J0, 40, 26520)) rfl rfl ?_ ?_
              · refine q_Ca_of (Nat.le_of_ble_eq_true rfl) ?_
                refine q_Ru_seg (g2 := (1, [(0, .ref 64), (1, .int 3841)], [.int 3841], (q_cX q_AX q_IX q_J0, 40, 26520))) 1 (fun _ _ => rfl) ?_
                refine q_Ru_call (v := none) (h2 := (q_cX q_AX q_IX q_J0, 40, 26520)) rfl rfl ?_ ?_
                · refine q_Ca_of (Nat.le_of_ble_eq_true rfl) ?_
                  refine q_Ru_seg (g2 := (4, [(0, .int 3841)], [.int 4096, .int 3841], (q_cX q_AX q_IX q_J0, 40, 26520))) 2 (fun _ _ => rfl) ?_
                  refine q_Ru_call (v := none) (h2 := (q_cX q_AX q_IX q_J0, 40, 26520)) rfl rfl ?_ ?_
                  · refine q_Ca_of (Nat.le_of_ble_eq_true rfl) ?_
                    refine q_Ru_seg (g2 := (19, [(0, .int 3841), (1, .int 4096)], [], (q_cX q_AX q_IX q_J0, 40, 26520))) 5 (fun _ _ => rfl) ?_
                    exact q_Ru_ret rfl rfl
                  show q_Ru _ _ _ (7, [(0, .int 3841)], [], (q_cX q_AX q_IX q_J0, 40, 26520)) _
                  exact q_Ru_ret rfl rfl
                show q_Ru _ _ _ (4, [(0, .ref 64), (1, .int 3841)], [], (q_cX q_AX q_IX q_J0, 40, 26520)) _
                refine q_Ru_seg (g2 := (12, [(0, .ref 64), (1, .int 3841)], [.int 3841, .ref 66], (q_cX q_AX q_IX q_J0, 40, 26520))) 4 (fun _ _ => rfl) ?_
                refine q_Ru_call (v := (some (.int 0))) (h2 := (q_cX q_AX q_IX q_J0, 40, 26520)) rfl rfl ?_ ?_
                · refine q_Ca_of (Nat.le_of_ble_eq_true rfl) ?_
                  refine q_Ru_seg (g2 := (27, [(2, .int 1), (0, .ref 66), (1, .int 3841)], [.int 0, .int 1, .ref 66], (q_cX q_AX q_IX q_J0, 40, 26520))) 16 (fun _ _ => rfl) ?_
                  refine q_Ru_call (v := (some (.int 0))) (h2 := (q_cX q_AX q_IX q_J0, 40, 26520)) rfl rfl ?_ ?_
                  · refine q_Ca_of (Nat.le_of_ble_eq_true rfl) ?_
                    refine q_Ru_seg (g2 := (183, [(0, .ref 66), (1, .int 1), (2, .int 0)], [.int 0], (q_cX q_AX q_IX q_J0, 40, 26520))) 3 (fun _ _ => rfl) ?_
                    exact q_Ru_ret rfl rfl
                  show q_Ru _ _ _ (30, [(2, .int 1), (0, .ref 66), (1, .int 3841)], [.int 0], (q_cX q_AX q_IX q_J0, 40, 26520)) _
                  exact q_Ru_ret rfl rfl
                show q_Ru _ _ _ (15, [(0, .ref 64), (1, .int 3841)], [.int 0], (q_cX q_AX q_IX q_J0, 40, 26520)) _
                exact q_Ru_ret rfl rfl
              show q_Ru _ _ _ (7, [(0, .ref 64), (1, .int 3841), (2, .ref 103)], [.int 0, .int 0, .ref 103], (q_cX q_AX q_IX q_J0, 40, 26520)) _
              refine q_Ru_seg (g2 := (16, [(0, .ref 64), (1, .int 3841), (2, .ref 103)], [.int 0], (q_cX q_AX q_IX (q_uA q_J0 39 (vp_updL (fun _ => 0) 0 0)), 40, 26520))) 4 (fun _ _ => rfl) ?_
              exact q_Ru_ret rfl rfl
            · refine q_Ca_of (Nat.le_of_ble_eq_true rfl) ?_
              refine q_Ru_seg (g2 := (2, [(0, .ref 64), (1, .int 3841)], [.int 3841, .ref 64], (q_cM q_AM q_IM q_J0, 34, 31630))) 2 (fun _ _ => rfl) ?_
              refine q_Ru_call (v := (some (.int 0))) (h2 := (q_cM q_AM q_IM q_J0, 34, 31630)) rfl rfl ?_ ?_
              · refine q_Ca_of (Nat.le_of_ble_eq_true rfl) ?_
                refine q_Ru_seg (g2 := (5, [(0, .int 3841)], [.int 4095, .int 0, .int 3841], (q_cM q_AM q_IM q_J0, 34, 31630))) 3 (fun _ _ => rfl) ?_
                refine q_Ru_call (v := (some (.int 1))) (h2 := (q_cM q_AM q_IM q_J0, 34, 31630)) rfl rfl ?_ ?_
                · refine q_Ca_of (Nat.le_of_ble_eq_true rfl) ?_
                  refine q_Ru_seg (g2 := (15, [(0, .int 3841), (1, .int 0), (2, .int 4095)], [.int 1], (q_cM q_AM q_IM q_J0, 34, 31630))) 8 (fun _ _ => rfl) ?_
                  exact q_Ru_ret rfl rfl
                show q_Ru _ _ _ (8, [(0, .int 3841)], [.int 1], (q_cM q_AM q_IM q_J0, 34, 31630)) _
                refine q_Ru_seg (g2 := (16, [(0, .int 3841)], [.int 0], (q_cM q_AM q_IM q_J0, 34, 31630))) 2 (fun _ _ => rfl) ?_
                exact q_Ru_ret rfl rfl
              show q_Ru _ _ _ (5, [(0, .ref 64), (1, .int 3841)], [.int 0, .ref 64], (q_cM q_AM q_IM q_J0, 34, 31630)) _
              refine q_Ru_seg (g2 := (13, [(0, .ref 64), (1, .int 3841)], [.int 0, .ref 64], (q_cM q_AM q_IM q_J0, 34, 31630))) 2 (fun _ _ => rfl) ?_
              refine q_Ru_call (v := (some (.int 0))) (h2 := (q_cM q_AM (q_uI q_IM 0 39 0) q_J0, 34, 31630)) rfl rfl ?_ ?_
              · refine q_Ca_of (Nat.le_of_ble_eq_true rfl) ?_
                refine q_Ru_seg (g2 := (14, [(0, .ref 64), (1, .int 0)], [.int 0], (q_cM q_AM (q_uI q_IM 0 39 0) q_J0, 34, 31630))) 6 (fun _ _ => rfl) ?_
                exact q_Ru_ret rfl rfl
              show q_Ru _ _ _ (16, [(0, .ref 64), (1, .int 3841)], [.int 0], (q_cM q_AM (q_uI q_IM 0 39 0) q_J0, 34, 31630)) _
              refine q_Ru_seg (g2 := (25, [(0, .ref 64), (1, .int 3841)], [.int 3841, .ref 64], (q_cM q_AM (q_uI q_IM 0 39 0) q_J0, 34, 31630))) 3 (fun _ _ => rfl) ?_
              refine q_Ru_call (v := (some (.int 0))) (h2 := (q_cM q_AM (q_uI q_IM 0 39 0) q_J0, 34, 31630)) rfl rfl ?_ ?_
              · refine q_Ca_of (Nat.le_of_ble_eq_true rfl) ?_
                refine q_Ru_seg (g2 := (7, [(0, .ref 64), (1, .int 3841)], [.int 3887, .int 3840, .int 3841], (q_cM q_AM (q_uI q_IM 0 39 0) q_J0, 34, 31630))) 3 (fun _ _ => rfl) ?_
                refine q_Ru_call (v := (some (.int 1))) (h2 := (q_cM q_AM (q_uI q_IM 0 39 0) q_J0, 34, 31630)) rfl rfl ?_ ?_
                · refine q_Ca_of (Nat.le_of_ble_eq_true rfl) ?_
                  refine q_Ru_seg (g2 := (15, [(0, .int 3841), (1, .int 3840), (2, .int 3887)], [.int 1], (q_cM q_AM (q_uI q_IM 0 39 0) q_J0, 34, 31630))) 8 (fun _ _ => rfl) ?_
                  exact q_Ru_ret rfl rfl
                show q_Ru _ _ _ (10, [(0, .ref 64), (1, .int 3841)], [.int 1], (q_cM q_AM (q_uI q_IM 0 39 0) q_J0, 34, 31630)) _
                refine q_Ru_seg (g2 := (19, [(0, .ref 64), (1, .int 3841)], [.int 1, .ref 64], (q_cM q_AM (q_uI q_IM 0 39 0) q_J0, 34, 31630))) 5 (fun _ _ => rfl) ?_
                refine q_Ru_call (v := (some (.int 0))) (h2 := (q_cM q_AM (q_uI q_IM 0 39 0) q_J0, 34, 31630)) rfl rfl ?_ ?_
                · refine q_Ca_of (Nat.le_of_ble_eq_true rfl) ?_
                  refine q_Ru_seg (g2 := (30, [(0, .ref 64), (1, .int 1)], [.int 15, .int 12, .int 1], (q_cM q_AM (q_uI q_IM 0 39 0) q_J0, 34, 31630))) 9 (fun _ _ => rfl) ?_
                  refine q_Ru_call (v := (some (.int 0))) (h2 := (q_cM q_AM (q_uI q_IM 0 39 0) q_J0, 34, 31630)) rfl rfl ?_ ?_
                  · refine q_Ca_of (Nat.le_of_ble_eq_true rfl) ?_
                    refine q_Ru_seg (g2 := (15, [(0, .int 1), (1, .int 12), (2, .int 15)], [.int 0], (q_cM q_AM (q_uI q_IM 0 39 0) q_J0, 34, 31630))) 4 (fun _ _ => rfl) ?_
                    exact q_Ru_ret rfl rfl
                  show q_Ru _ _ _ (33, [(0, .ref 64), (1, .int 1)], [.int 0], (q_cM q_AM (q_uI q_IM 0 39 0) q_J0, 34, 31630)) _
                  refine q_Ru_seg (g2 := (190, [(0, .ref 64), (1, .int 1)], [.int 0], (q_cM q_AM (q_uI q_IM 0 39 0) q_J0, 34, 31630))) 20 (fun _ _ => rfl) ?_
                  exact q_Ru_ret rfl rfl
                show q_Ru _ _ _ (22, [(0, .ref 64), (1, .int 3841)], [.int 0], (q_cM q_AM (q_uI q_IM 0 39 0) q_J0, 34, 31630)) _
                exact q_Ru_ret rfl rfl
              show q_Ru _ _ _ (28, [(0, .ref 64), (1, .int 3841)], [.int 0], (q_cM q_AM (q_uI q_IM 0 39 0) q_J0, 34, 31630)) _
              exact q_Ru_ret rfl rfl
          | 2, _, e222 =>
            have e222 : a = 3842 := e222
            subst e222
            refine ⟨0, 0, 0, ⟨(q_cX q_AX q_IX (q_uA q_J0 39 (vp_updL (fun _ => 0) 0 0)), 40, 26520), (q_uA q_J0 39 (vp_updL (fun _ => 0) 0 0)) 39, ?_, rfl, fun _ => rfl, Nat.le_of_ble_eq_true rfl, Nat.le_of_ble_eq_true rfl⟩, ⟨(q_cM q_AM (q_uI q_IM 0 39 0) q_J0, 34, 31630), _, ?_, rfl, rfl, Nat.le_of_ble_eq_true rfl, Nat.le_of_ble_eq_true rfl⟩, fun _ => rfl⟩
            · refine q_Ca_of (Nat.le_of_ble_eq_true rfl) ?_
              refine q_Ru_seg (g2 := (4, [(0, .ref 64), (1, .int 3842), (2, .ref 103)], [.int 3842, .ref 64, .int 0, .ref 103], (q_cX q_AX q_IX q_J0, 40, 26520))) 4 (fun _ _ => rfl) ?_
              refine q_Ru_call (v := (some (.int 0))) (h2 := (q_cX q_AX q_IX q_J0, 40, 26520)) rfl rfl ?_ ?_
              · refine q_Ca_of (Nat.le_of_ble_eq_true rfl) ?_
                refine q_Ru_seg (g2 := (1, [(0, .ref 64), (1, .int 3842)], [.int 3842], (q_cX q_AX q_IX q_J0, 40, 26520))) 1 (fun _ _ => rfl) ?_
                refine q_Ru_call (v := none) (h2 := (q_cX q_AX q_IX q_J0, 40, 26520)) rfl rfl ?_ ?_
                · refine q_Ca_of (Nat.le_of_ble_eq_true rfl) ?_
                  refine q_Ru_seg (g2 := (4, [(0, .int 3842)], [.int 4096, .int 3842], (q_cX q_AX q_IX q_J0, 40, 26520))) 2 (fun _ _ => rfl) ?_
                  refine q_Ru_call (v := none) (h2 := (q_cX q_AX q_IX q_J0, 40, 26520)) rfl rfl ?_ ?_
                  · refine q_Ca_of (Nat.le_of_ble_eq_true rfl) ?_
                    refine q_Ru_seg (g2 := (19, [(0, .int 3842), (1, .int 4096)], [], (q_cX q_AX q_IX q_J0, 40, 26520))) 5 (fun _ _ => rfl) ?_
                    exact q_Ru_ret rfl rfl
                  show q_Ru _ _ _ (7, [(0, .int 3842)], [], (q_cX q_AX q_IX q_J0, 40, 26520)) _
                  exact q_Ru_ret rfl rfl
                show q_Ru _ _ _ (4, [(0, .ref 64), (1, .int 3842)], [], (q_cX q_AX q_IX q_J0, 40, 26520)) _
                refine q_Ru_seg (g2 := (12, [(0, .ref 64), (1, .int 3842)], [.int 3842, .ref 66], (q_cX q_AX q_IX q_J0, 40, 26520))) 4 (fun _ _ => rfl) ?_
                refine q_Ru_call (v := (some (.int 0))) (h2 := (q_cX q_AX q_IX q_J0, 40, 26520)) rfl rfl ?_ ?_
                · refine q_Ca_of (Nat.le_of_ble_eq_true rfl) ?_
                  refine q_Ru_seg (g2 := (27, [(2, .int 2), (0, .ref 66), (1, .int 3842)], [.int 0, .int 2, .ref 66], (q_cX q_AX q_IX q_J0, 40, 26520))) 16 (fun _ _ => rfl) ?_
                  refine q_Ru_call (v := (some (.int 0))) (h2 := (q_cX q_AX q_IX q_J0, 40, 26520)) rfl rfl ?_ ?_
                  · refine q_Ca_of (Nat.le_of_ble_eq_true rfl) ?_
                    refine q_Ru_seg (g2 := (183, [(0, .ref 66), (1, .int 2), (2, .int 0)], [.int 0], (q_cX q_AX q_IX q_J0, 40, 26520))) 3 (fun _ _ => rfl) ?_
                    exact q_Ru_ret rfl rfl
                  show q_Ru _ _ _ (30, [(2, .int 2), (0, .ref 66), (1, .int 3842)], [.int 0], (q_cX q_AX q_IX q_J0, 40, 26520)) _
                  exact q_Ru_ret rfl rfl
                show q_Ru _ _ _ (15, [(0, .ref 64), (1, .int 3842)], [.int 0], (q_cX q_AX q_IX q_J0, 40, 26520)) _
                exact q_Ru_ret rfl rfl
              show q_Ru _ _ _ (7, [(0, .ref 64), (1, .int 3842), (2, .ref 103)], [.int 0, .int 0, .ref 103], (q_cX q_AX q_IX q_J0, 40, 26520)) _
              refine q_Ru_seg (g2 := (16, [(0, .ref 64), (1, .int 3842), (2, .ref 103)], [.int 0], (q_cX q_AX q_IX (q_uA q_J0 39 (vp_updL (fun _ => 0) 0 0)), 40, 26520))) 4 (fun _ _ => rfl) ?_
              exact q_Ru_ret rfl rfl
            · refine q_Ca_of (Nat.le_of_ble_eq_true rfl) ?_
              refine q_Ru_seg (g2 := (2, [(0, .ref 64), (1, .int 3842)], [.int 3842, .ref 64], (q_cM q_AM q_IM q_J0, 34, 31630))) 2 (fun _ _ => rfl) ?_
              refine q_Ru_call (v := (some (.int 0))) (h2 := (q_cM q_AM q_IM q_J0, 34, 31630)) rfl rfl ?_ ?_
              · refine q_Ca_of (Nat.le_of_ble_eq_true rfl) ?_
                refine q_Ru_seg (g2 := (5, [(0, .int 3842)], [.int 4095, .int 0, .int 3842], (q_cM q_AM q_IM q_J0, 34, 31630))) 3 (fun _ _ => rfl) ?_
                refine q_Ru_call (v := (some (.int 1))) (h2 := (q_cM q_AM q_IM q_J0, 34, 31630)) rfl rfl ?_ ?_
                · refine q_Ca_of (Nat.le_of_ble_eq_true rfl) ?_
                  refine q_Ru_seg (g2 := (15, [(0, .int 3842), (1, .int 0), (2, .int 4095)], [.int 1], (q_cM q_AM q_IM q_J0, 34, 31630))) 8 (fun _ _ => rfl) ?_
                  exact q_Ru_ret rfl rfl
                show q_Ru _ _ _ (8, [(0, .int 3842)], [.int 1], (q_cM q_AM q_IM q_J0, 34, 31630)) _
                refine q_Ru_seg (g2 := (16, [(0, .int 3842)], [.int 0], (q_cM q_AM q_IM q_J0, 34, 31630))) 2 (fun _ _ => rfl) ?_
                exact q_Ru_ret rfl rfl
              show q_Ru _ _ _ (5, [(0, .ref 64), (1, .int 3842)], [.int 0, .ref 64], (q_cM q_AM q_IM q_J0, 34, 31630)) _
              refine q_Ru_seg (g2 := (13, [(0, .ref 64), (1, .int 3842)], [.int 0, .ref 64], (q_cM q_AM q_IM q_J0, 34, 31630))) 2 (fun _ _ => rfl) ?_
              refine q_Ru_call (v := (some (.int 0))) (h2 := (q_cM q_AM (q_uI q_IM 0 39 0) q_J0, 34, 31630)) rfl rfl ?_ ?_
              · refine q_Ca_of (Nat.le_of_ble_eq_true rfl) ?_
                refine q_Ru_seg (g2 := (14, [(0, .ref 64), (1, .int 0)], [.int 0], (q_cM q_AM (q_uI q_IM 0 39 0) q_J0, 34, 31630))) 6 (fun _ _ => rfl) ?_
                exact q_Ru_ret rfl rfl
              show q_Ru _ _ _ (16, [(0, .ref 64), (1, .int 3842)], [.int 0], (q_cM q_AM (q_uI q_IM 0 39 0) q_J0, 34, 31630)) _
              refine q_Ru_seg (g2 := (25, [(0, .ref 64), (1, .int 3842)], [.int 3842, .ref 64], (q_cM q_AM (q_uI q_IM 0 39 0) q_J0, 34, 31630))) 3 (fun _ _ => rfl) ?_
              refine q_Ru_call (v := (some (.int 0))) (h2 := (q_cM q_AM (q_uI q_IM 0 39 0) q_J0, 34, 31630)) rfl rfl ?_ ?_
              · refine q_Ca_of (Nat.le_of_ble_eq_true rfl) ?_
                refine q_Ru_seg (g2 := (7, [(0, .ref 64), (1, .int 3842)], [.int 3887, .int 3840, .int 3842], (q_cM q_AM (q_uI q_IM 0 39 0) q_J0, 34, 31630))) 3 (fun _ _ => rfl) ?_
                refine q_Ru_call (v := (some (.int 1))) (h2 := (q_cM q_AM (q_uI q_IM 0 39 0) q_J0, 34, 31630)) rfl rfl ?_ ?_
                · refine q_Ca_of (Nat.le_of_ble_eq_true rfl) ?_
                  refine q_Ru_seg (g2 := (15, [(0, .int 3842), (1, .int 3840), (2, .int 3887)], [.int 1], (q_cM q_AM (q_uI q_IM 0 39 0) q_J0, 34, 31630))) 8 (fun _ _ => rfl) ?_
                  exact q_Ru_ret rfl rfl
                show q_Ru _ _ _ (10, [(0, .ref 64), (1, .int 3842)], [.int 1], (q_cM q_AM (q_uI q_IM 0 39 0) q_J0, 34, 31630)) _
                refine q_Ru_seg (g2 := (19, [(0, .ref 64), (1, .int 3842)], [.int 2, .ref 64], (q_cM q_AM (q_uI q_IM 0 39 0) q_J0, 34, 31630))) 5 (fun _ _ => rfl) ?_
                refine q_Ru_call (v := (some (.int 0))) (h2 := (q_cM q_AM (q_uI q_IM 0 39 0) q_J0, 34, 31630)) rfl rfl ?_ ?_
                · refine q_Ca_of (Nat.le_of_ble_eq_true rfl) ?_
                  refine q_Ru_seg (g2 := (30, [(0, .ref 64), (1, .int 2)], [.int 15, .int 12, .int 2], (q_cM q_AM (q_uI q_IM 0 39 0) q_J0, 34, 31630))) 9 (fun _ _ => rfl) ?_
                  refine q_Ru_call (v := (some (.int 0))) (h2 := (q_cM q_AM (q_uI q_IM 0 39 0) q_J0, 34, 31630)) rfl rfl ?_ ?_
                  · refine q_Ca_of (Nat.le_of_ble_eq_true rfl) ?_
                    refine q_Ru_seg (g2 := (15, [(0, .int 2), (1, .int 12), (2, .int 15)], [.int 0], (q_cM q_AM (q_uI q_IM 0 39 0) q_J0, 34, 31630))) 4 (fun _ _ => rfl) ?_
                    exact q_Ru_ret rfl rfl
                  show q_Ru _ _ _ (33, [(0, .ref 64), (1, .int 2)], [.int 0], (q_cM q_AM (q_uI q_IM 0 39 0) q_J0, 34, 31630)) _
                  refine q_Ru_seg (g2 := (190, [(0, .ref 64), (1, .int 2)], [.int 0], (q_cM q_AM (q_uI q_IM 0 39 0) q_J0, 34, 31630))) 20 (fun _ _ => rfl) ?_
                  exact q_Ru_ret rfl rfl
                show q_Ru _ _ _ (22, [(0, .ref 64), (1, .int 3842)], [.int 0], (q_cM q_AM (q_uI q_IM 0 39 0) q_J0, 34, 31630)) _
                exact q_Ru_ret rfl rfl
              show q_Ru _ _ _ (28, [(0, .ref 64), (1, .int 3842)], [.int 0], (q_cM q_AM (q_uI q_IM 0 39 0) q_J0, 34, 31630)) _
              exact q_Ru_ret rfl rfl
          | 3, _, e222 =>
            have e222 : a = 3843 := e222
            subst e222
            refine ⟨0, 0, 0, ⟨(q_cX q_AX q_IX (q_uA q_J0 39 (vp_updL (fun _ => 0) 0 0)), 40, 26520), (q_uA q_J0 39 (vp_updL (fun _ => 0) 0 0)) 39, ?_, rfl, fun _ => rfl, Nat.le_of_ble_eq_true rfl, Nat.le_of_ble_eq_true rfl⟩, ⟨(q_cM q_AM (q_uI q_IM 0 39 0) q_J0, 34, 31630), _, ?_, rfl, rfl, Nat.le_of_ble_eq_true rfl, Nat.le_of_ble_eq_true rfl⟩, fun _ => rfl⟩
            · refine q_Ca_of (Nat.le_of_ble_eq_true rfl) ?_
              refine q_Ru_seg (g2 := (4, [(0, .ref 64), (1, .int 3843), (2, .ref 103)], [.int 3843, .ref 64, .int 0, .ref 103], (q_cX q_AX q_IX q_J0, 40, 26520))) 4 (fun _ _ => rfl) ?_
              refine q_Ru_call (v := (some (.int 0))) (h2 := (q_cX q_AX q_IX q_J0, 40, 26520)) rfl rfl ?_ ?_
              · refine q_Ca_of (Nat.le_of_ble_eq_true rfl) ?_
                refine q_Ru_seg (g2 := (1, [(0, .ref 64), (1, .int 3843)], [.int 3843], (q_cX q_AX q_IX q_J0, 40, 26520))) 1 (fun _ _ => rfl) ?_
                refine q_Ru_call (v := none) (h2 := (q_cX q_AX q_IX q_J0, 40, 26520)) rfl rfl ?_ ?_
                · refine q_Ca_of (Nat.le_of_ble_eq_true rfl) ?_
                  refine q_Ru_seg (g2 := (4, [(0, .int 3843)], [.int 4096, .int 3843], (q_cX q_AX q_IX q_J0, 40, 26520))) 2 (fun _ _ => rfl) ?_
                  refine q_Ru_call (v := none) (h2 := (q_cX q_AX q_IX q_J0, 40, 26520)) rfl rfl ?_ ?_
                  · refine q_Ca_of (Nat.le_of_ble_eq_true rfl) ?_
                    refine q_Ru_seg (g2 := (19, [(0, .int 3843), (1, .int 4096)], [], (q_cX q_AX q_IX q_J0, 40, 26520))) 5 (fun _ _ => rfl) ?_
                    exact q_Ru_ret rfl rfl
                  show q_Ru _ _ _ (7, [(0, .int 3843)], [], (q_cX q_AX q_IX q_J0, 40, 26520)) _
                  exact q_Ru_ret rfl rfl
                show q_Ru _ _ _ (4, [(0, .ref 64), (1, .int 3843)], [], (q_cX q_AX q_IX q_J0, 40, 26520)) _
                refine q_Ru_seg (g2 := (12, [(0, .ref 64), (1, .int 3843)], [.int 3843, .ref 66], (q_cX q_AX q_IX q_J0, 40, 26520))) 4 (fun _ _ => rfl) ?_
                refine q_Ru_call (v := (some (.int 0))) (h2 := (q_cX q_AX q_IX q_J0, 40, 26520)) rfl rfl ?_ ?_
                · refine q_Ca_of (Nat.le_of_ble_eq_true rfl) ?_
                  refine q_Ru_seg (g2 := (27, [(2, .int 3), (0, .ref 66), (1, .int 3843)], [.int 0, .int 3, .ref 66], (q_cX q_AX q_IX q_J0, 40, 26520))) 16 (fun _ _ => rfl) ?_
                  refine q_Ru_call (v := (some (.int 0))) (h2 := (q_cX q_AX q_IX q_J0, 40, 26520)) rfl rfl ?_ ?_
                  · refine q_Ca_of (Nat.le_of_ble_eq_true rfl) ?_
                    refine q_Ru_seg (g2 := (183, [(0, .ref 66), (1, .int 3), (2, .int 0)], [.int 0], (q_cX q_AX q_IX q_J0, 40, 26520))) 3 (fun _ _ => rfl) ?_
                    exact q_Ru_ret rfl rfl
                  show q_Ru _ _ _ (30, [(2, .int 3), (0, .ref 66), (1, .int 3843)], [.int 0], (q_cX q_AX q_IX q_J0, 40, 26520)) _
                  exact q_Ru_ret rfl rfl
                show q_Ru _ _ _ (15, [(0, .ref 64), (1, .int 3843)], [.int 0], (q_cX q_AX q_IX q_J0, 40, 26520)) _
                exact q_Ru_ret rfl rfl
              show q_Ru _ _ _ (7, [(0, .ref 64), (1, .int 3843), (2, .ref 103)], [.int 0, .int 0, .ref 103], (q_cX q_AX q_IX q_J0, 40, 26520)) _
              refine q_Ru_seg (g2 := (16, [(0, .ref 64), (1, .int 3843), (2, .ref 103)], [.int 0], (q_cX q_AX q_IX (q_uA q_J0 39 (vp_updL (fun _ => 0) 0 0)), 40, 26520))) 4 (fun _ _ => rfl) ?_
              exact q_Ru_ret rfl rfl
            · refine q_Ca_of (Nat.le_of_ble_eq_true rfl) ?_
              refine q_Ru_seg (g2 := (2, [(0, .ref 64), (1, .int 3843)], [.int 3843, .ref 64], (q_cM q_AM q_IM q_J0, 34, 31630))) 2 (fun _ _ => rfl) ?_
              refine q_Ru_call (v := (some (.int 0))) (h2 := (q_cM q_AM q_IM q_J0, 34, 31630)) rfl rfl ?_ ?_
              · refine q_Ca_of (Nat.le_of_ble_eq_true rfl) ?_
                refine q_Ru_seg (g2 := (5, [(0, .int 3843)], [.int 4095, .int 0, .int 3843], (q_cM q_AM q_IM q_J0, 34, 31630))) 3 (fun _ _ => rfl) ?_
                refine q_Ru_call (v := (some (.int 1))) (h2 := (q_cM q_AM q_IM q_J0, 34, 31630)) rfl rfl ?_ ?_
                · refine q_Ca_of (Nat.le_of_ble_eq_true rfl) ?_
                  refine q_Ru_seg (g2 := (15, [(0, .int 3843), (1, .int 0), (2, .int 4095)], [.int 1], (q_cM q_AM q_IM q_J0, 34, 31630))) 8 (fun _ _ => rfl) ?_
                  exact q_Ru_ret rfl rfl
                show q_Ru _ _ _ (8, [(0, .int 3843)], [.int 1], (q_cM q_AM q_IM q_J0, 34, 31630)) _
                refine q_Ru_seg (g2 := (16, [(0, .int 3843)], [.int 0], (q_cM q_AM q_IM q_J0, 34, 31630))) 2 (fun _ _ => rfl) ?_
                exact q_Ru_ret rfl rfl
              show q_Ru _ _ _ (5, [(0, .ref 64), (1, .int 3843)], [.int 0, .ref 64], (q_cM q_AM q_IM q_J0, 34, 31630)) _
              refine q_Ru_seg (g2 := (13, [(0, .ref 64), (1, .int 3843)], [.int 0, .ref 64], (q_cM q_AM q_IM q_J0, 34, 31630))) 2 (fun _ _ => rfl) ?_
              refine q_Ru_call (v := (some (.int 0))) (h2 := (q_cM q_AM (q_uI q_IM 0 39 0) q_J0, 34, 31630)) rfl rfl ?_ ?_
              · refine q_Ca_of (Nat.le_of_ble_eq_true rfl) ?_
                refine q_Ru_seg (g2 := (14, [(0, .ref 64), (1, .int 0)], [.int 0], (q_cM q_AM (q_uI q_IM 0 39 0) q_J0, 34, 31630))) 6 (fun _ _ => rfl) ?_
                exact q_Ru_ret rfl rfl
              show q_Ru _ _ _ (16, [(0, .ref 64), (1, .int 3843)], [.int 0], (q_cM q_AM (q_uI q_IM 0 39 0) q_J0, 34, 31630)) _
              refine q_Ru_seg (g2 := (25, [(0, .ref 64), (1, .int 3843)], [.int 3843, .ref 64], (q_cM q_AM (q_uI q_IM 0 39 0) q_J0, 34, 31630))) 3 (fun _ _ => rfl) ?_
              refine q_Ru_call (v := (some (.int 0))) (h2 := (q_cM q_AM (q_uI q_IM 0 39 0) q_J0, 34, 31630)) rfl rfl ?_ ?_
              · refine q_Ca_of (Nat.le_of_ble_eq_true rfl) ?_
                refine q_Ru_seg (g2 := (7, [(0, .ref 64), (1, .int 3843)], [.int 3887, .int 3840, .int 3843], (q_cM q_AM (q_uI q_IM 0 39 0) q_J0, 34, 31630))) 3 (fun _ _ => rfl) ?_
                refine q_Ru_call (v := (some (.int 1))) (h2 := (q_cM q_AM (q_uI q_IM 0 39 0) q_J0, 34, 31630)) rfl rfl ?_ ?_
                · refine q_Ca_of (Nat.le_of_ble_eq_true rfl) ?_
                  refine q_Ru_seg (g2 := (15, [(0, .int 3843), (1, .int 3840), (2, .int 3887)], [.int 1], (q_cM q_AM (q_uI q_IM 0 39 0) q_J0, 34, 31630))) 8 (fun _ _ => rfl) ?_
                  exact q_Ru_ret rfl rfl
                show q_Ru _ _ _ (10, [(0, .ref 64), (1, .int 3843)], [.int 1], (q_cM q_AM (q_uI q_IM 0 39 0) q_J0, 34, 31630)) _
                refine q_Ru_seg (g2 := (19, [(0, .ref 64), (1, .int 3843)], [.int 3, .ref 64], (q_cM q_AM (q_uI q_IM 0 39 0) q_J0, 34, 31630))) 5 (fun _ _ => rfl) ?_
                refine q_Ru_call (v := (some (.int 0))) (h2 := (q_cM q_AM (q_uI q_IM 0 39 0) q_J0, 34, 31630)) rfl rfl ?_ ?_
                · refine q_Ca_of (Nat.le_of_ble_eq_true rfl) ?_
                  refine q_Ru_seg (g2 := (30, [(0, .ref 64), (1, .int 3)], [.int 15, .int 12, .int 3], (q_cM q_AM (q_uI q_IM 0 39 0) q_J0, 34, 31630))) 9 (fun _ _ => rfl) ?_
                  refine q_Ru_call (v := (some (.int 0))) (h2 := (q_cM q_AM (q_uI q_IM 0 39 0) q_J0, 34, 31630)) rfl rfl ?_ ?_
                  · refine q_Ca_of (Nat.le_of_ble_eq_true rfl) ?_
                    refine q_Ru_seg (g2 := (15, [(0, .int 3), (1, .int 12), (2, .int 15)], [.int 0], (q_cM q_AM (q_uI q_IM 0 39 0) q_J0, 34, 31630))) 4 (fun _ _ => rfl) ?_
                    exact q_Ru_ret rfl rfl
                  show q_Ru _ _ _ (33, [(0, .ref 64), (1, .int 3)], [.int 0], (q_cM q_AM (q_uI q_IM 0 39 0) q_J0, 34, 31630)) _
                  refine q_Ru_seg (g2 := (190, [(0, .ref 64), (1, .int 3)], [.int 0], (q_cM q_AM (q_uI q_IM 0 39 0) q_J0, 34, 31630))) 20 (fun _ _ => rfl) ?_
                  exact q_Ru_ret rfl rfl
                show q_Ru _ _ _ (22, [(0, .ref 64), (1, .int 3843)], [.int 0], (q_cM q_AM (q_uI q_IM 0 39 0) q_J0, 34, 31630)) _
                exact q_Ru_ret rfl rfl
              show q_Ru _ _ _ (28, [(0, .ref 64), (1, .int 3843)], [.int 0], (q_cM q_AM (q_uI q_IM 0 39 0) q_J0, 34, 31630)) _
              exact q_Ru_ret rfl rfl
          | 4, _, e222 =>
            have e222 : a = 3844 := e222
            subst e222
            refine ⟨0, 0, 0, ⟨(q_cX q_AX q_IX (q_uA q_J0 39 (vp_updL (fun _ => 0) 0 0)), 40, 26520), (q_uA q_J0 39 (vp_updL (fun _ => 0) 0 0)) 39, ?_, rfl, fun _ => rfl, Nat.le_of_ble_eq_true rfl, Nat.le_of_ble_eq_true rfl⟩, ⟨(q_cM q_AM (q_uI q_IM 0 39 0) q_J0, 34, 31630), _, ?_, rfl, rfl, Nat.le_of_ble_eq_true rfl, Nat.le_of_ble_eq_true rfl⟩, fun _ => rfl⟩
            · refine q_Ca_of (Nat.le_of_ble_eq_true rfl) ?_
              refine q_Ru_seg (g2 := (4, [(0, .ref 64), (1, .int 3844), (2, .ref 103)], [.int 3844, .ref 64, .int 0, .ref 103], (q_cX q_AX q_IX q_J0, 40, 26520))) 4 (fun _ _ => rfl) ?_
              refine q_Ru_call (v := (some (.int 0))) (h2 := (q_cX q_AX q_IX q_J0, 40, 26520)) rfl rfl ?_ ?_
              · refine q_Ca_of (Nat.le_of_ble_eq_true rfl) ?_
                refine q_Ru_seg (g2 := (1, [(0, .ref 64), (1, .int 3844)], [.int 3844], (q_cX q_AX q_IX q_J0, 40, 26520))) 1 (fun _ _ => rfl) ?_
                refine q_Ru_call (v := none) (h2 := (q_cX q_AX q_IX q_J0, 40, 26520)) rfl rfl ?_ ?_
                · refine q_Ca_of (Nat.le_of_ble_eq_true rfl) ?_
                  refine q_Ru_seg (g2 := (4, [(0, .int 3844)], [.int 4096, .int 3844], (q_cX q_AX q_IX q_J0, 40, 26520))) 2 (fun _ _ => rfl) ?_
                  refine q_Ru_call (v := none) (h2 := (q_cX q_AX q_IX q_J0, 40, 26520)) rfl rfl ?_ ?_
                  · refine q_Ca_of (Nat.le_of_ble_eq_true rfl) ?_
                    refine q_Ru_seg (g2 := (19, [(0, .int 3844), (1, .int 4096)], [], (q_cX q_AX q_IX q_J0, 40, 26520))) 5 (fun _ _ => rfl) ?_
                    exact q_Ru_ret rfl rfl
                  show q_Ru _ _ _ (7, [(0, .int 3844)], [], (q_cX q_AX q_IX q_J0, 40, 26520)) _
                  exact q_Ru_ret rfl rfl
                show q_Ru _ _ _ (4, [(0, .ref 64), (1, .int 3844)], [], (q_cX q_AX q_IX q_J0, 40, 26520)) _
                refine q_Ru_seg (g2 := (12, [(0, .ref 64), (1, .int 3844)], [.int 3844, .ref 66], (q_cX q_AX q_IX q_J0, 40, 26520))) 4 (fun _ _ => rfl) ?_
                refine q_Ru_call (v := (some (.int 0))) (h2 := (q_cX q_AX q_IX q_J0, 40, 26520)) rfl rfl ?_ ?_
                · refine q_Ca_of (Nat.le_of_ble_eq_true rfl) ?_
                  refine q_Ru_seg (g2 := (27, [(2, .int 4), (0, .ref 66), (1, .int 3844)], [.int 0, .int 4, .ref 66], (q_cX q_AX q_IX q_J0, 40, 26520))) 16 (fun _ _ => rfl) ?_
                  refine q_Ru_call (v := (some (.int 0))) (h2 := (q_cX q_AX q_IX q_J0, 40, 26520)) rfl rfl ?_ ?_
                  · refine q_Ca_of (Nat.le_of_ble_eq_true rfl) ?_
                    refine q_Ru_seg (g2 := (183, [(0, .ref 66), (1, .int 4), (2, .int 0)], [.int 0], (q_cX q_AX q_IX q_J0, 40, 26520))) 3 (fun _ _ => rfl) ?_
                    exact q_Ru_ret rfl rfl
                  show q_Ru _ _ _ (30, [(2, .int 4), (0, .ref 66), (1, .int 3844)], [.int 0], (q_cX q_AX q_IX q_J0, 40, 26520)) _
                  exact q_Ru_ret rfl rfl
                show q_Ru _ _ _ (15, [(0, .ref 64), (1, .int 3844)], [.int 0], (q_cX q_AX q_IX q_J0, 40, 26520)) _
                exact q_Ru_ret rfl rfl
              show q_Ru _ _ _ (7, [(0, .ref 64), (1, .int 3844), (2, .ref 103)], [.int 0, .int 0, .ref 103], (q_cX q_AX q_IX q_J0, 40, 26520)) _
              refine q_Ru_seg (g2 := (16, [(0, .ref 64), (1, .int 3844), (2, .ref 103)], [.int 0], (q_cX q_AX q_IX (q_uA q_J0 39 (vp_updL (fun _ => 0) 0 0)), 40, 26520))) 4 (fun _ _ => rfl) ?_
              exact q_Ru_ret rfl rfl
            · refine q_Ca_of (Nat.le_of_ble_eq_true rfl) ?_
              refine q_Ru_seg (g2 := (2, [(0, .ref 64), (1, .int 3844)], [.int 3844, .ref 64], (q_cM q_AM q_IM q_J0, 34, 31630))) 2 (fun _ _ => rfl) ?_
              refine q_Ru_call (v := (some (.int 0))) (h2 := (q_cM q_AM q_IM q_J0, 34, 31630)) rfl rfl ?_ ?_
              · refine q_Ca_of (Nat.le_of_ble_eq_true rfl) ?_
                refine q_Ru_seg (g2 := (5, [(0, .int 3844)], [.int 4095, .int 0, .int 3844], (q_cM q_AM q_IM q_J0, 34, 31630))) 3 (fun _ _ => rfl) ?_
                refine q_Ru_call (v := (some (.int 1))) (h2 := (q_cM q_AM q_IM q_J0, 34, 31630)) rfl rfl ?_ ?_
                · refine q_Ca_of (Nat.le_of_ble_eq_true rfl) ?_
                  refine q_Ru_seg (g2 := (15, [(0, .int 3844), (1, .int 0), (2, .int 4095)], [.int 1], (q_cM q_AM q_IM q_J0, 34, 31630))) 8 (fun _ _ => rfl) ?_
                  exact q_Ru_ret rfl rfl
                show q_Ru _ _ _ (8, [(0, .int 3844)], [.int 1], (q_cM q_AM q_IM q_J0, 34, 31630)) _
                refine q_Ru_seg (g2 := (16, [(0, .int 3844)], [.int 0], (q_cM q_AM q_IM q_J0, 34, 31630))) 2 (fun _ _ => rfl) ?_
                exact q_Ru_ret rfl rfl
              show q_Ru _ _ _ (5, [(0, .ref 64), (1, .int 3844)], [.int 0, .ref 64], (q_cM q_AM q_IM q_J0, 34, 31630)) _
              refine q_Ru_seg (g2 := (13, [(0, .ref 64), (1, .int 3844)], [.int 0, .ref 64], (q_cM q_AM q_IM q_J0, 34, 31630))) 2 (fun _ _ => rfl) ?_
              refine q_Ru_call (v := (some (.int 0))) (h2 := (q_cM q_AM (q_uI q_IM 0 39 0) q_J0, 34, 31630)) rfl rfl ?_ ?_
              · refine q_Ca_of (Nat.le_of_ble_eq_true rfl) ?_
                refine q_Ru_seg (g2 := (14, [(0, .ref 64), (1, .int 0)], [.int 0], (q_cM q_AM (q_uI q_IM 0 39 0) q_J0, 34, 31630))) 6 (fun _ _ => rfl) ?_
                exact q_Ru_ret rfl rfl
              show q_Ru _ _ _ (16, [(0, .ref 64), (1, .int 3844)], [.int 0], (q_cM q_AM (q_uI q_IM 0 39 0) q_J0, 34, 31630)) _
              refine q_Ru_seg (g2 := (25, [(0, .ref 64), (1, .int 3844)], [.int 3844, .ref 64], (q_cM q_AM (q_uI q_IM 0 39 0) q_J0, 34, 31630))) 3 (fun _ _ => rfl) ?_
              refine q_Ru_call (v := (some (.int 0))) (h2 := (q_cM q_AM (q_uI q_IM 0 39 0) q_J0, 34, 31630)) rfl rfl ?_ ?_
              · refine q_Ca_of (Nat.le_of_ble_eq_true rfl) ?_
                refine q_Ru_seg (g2 := (7, [(0, .ref 64), (1, .int 3844)], [.int 3887, .int 3840, .int 3844], (q_cM q_AM (q_uI q_IM 0 39 0) q_J0, 34, 31630))) 3 (fun _ _ => rfl) ?_
                refine q_Ru_call (v := (some (.int 1))) (h2 := (q_cM q_AM (q_uI q_IM 0 39 0) q_J0, 34, 31630)) rfl rfl ?_ ?_
                · refine q_Ca_of (Nat.le_of_ble_eq_true rfl) ?_
                  refine q_Ru_seg (g2 := (15, [(0, .int 3844), (1, .int 3840), (2, .int 3887)], [.int 1], (q_cM q_AM (q_uI q_IM 0 39 0) q_J0, 34, 31630))) 8 (fun _ _ => rfl) ?_
                  exact q_Ru_ret rfl rfl
                show q_Ru _ _ _ (10, [(0, .ref 64), (1, .int 3844)], [.int 1], (q_cM q_AM (q_uI q_IM 0 39 0) q_J0, 34, 31630)) _
                refine q_Ru_seg (g2 := (19, [(0, .ref 64), (1, .int 3844)], [.int 4, .ref 64], (q_cM q_AM (q_uI q_IM 0 39 0) q_J0, 34, 31630))) 5 (fun _ _ => rfl) ?_
                refine q_Ru_call (v := (some (.int 0))) (h2 := (q_cM q_AM (q_uI q_IM 0 39 0) q_J0, 34, 31630)) rfl rfl ?_ ?_
                · refine q_Ca_of (Nat.le_of_ble_eq_true rfl) ?_
                  refine q_Ru_seg (g2 := (30, [(0, .ref 64), (1, .int 4)], [.int 15, .int 12, .int 4], (q_cM q_AM (q_uI q_IM 0 39 0) q_J0, 34, 31630))) 9 (fun _ _ => rfl) ?_
                  refine q_Ru_call (v := (some (.int 0))) (h2 := (q_cM q_AM (q_uI q_IM 0 39 0) q_J0, 34, 31630)) rfl rfl ?_ ?_
                  · refine q_Ca_of (Nat.le_of_ble_eq_true rfl) ?_
                    refine q_Ru_seg (g2 := (15, [(0, .int 4), (1, .int 12), (2, .int 15)], [.int 0], (q_cM q_AM (q_uI q_IM 0 39 0) q_J0, 34, 31630))) 4 (fun _ _ => rfl) ?_
                    exact q_Ru_ret rfl rfl
                  show q_Ru _ _ _ (33, [(0, .ref 64), (1, .int 4)], [.int 0], (q_cM q_AM (q_uI q_IM 0 39 0) q_J0, 34, 31630)) _
                  refine q_Ru_seg (g2 := (190, [(0, .ref 64), (1, .int 4)], [.int 0], (q_cM q_AM (q_uI q_IM 0 39 0) q_J0, 34, 31630))) 20 (fun _ _ => rfl) ?_
                  exact q_Ru_ret rfl rfl
                show q_Ru _ _ _ (22, [(0, .ref 64), (1, .int 3844)], [.int 0], (q_cM q_AM (q_uI q_IM 0 39 0) q_J0, 34, 31630)) _
                exact q_Ru_ret rfl rfl
              show q_Ru _ _ _ (28, [(0, .ref 64), (1, .int 3844)], [.int 0], (q_cM q_AM (q_uI q_IM 0 39 0) q_J0, 34, 31630)) _
              exact q_Ru_ret rfl rfl
          | 5, _, e222 =>
            have e222 : a = 3845 := e222
            subst e222
            refine ⟨0, 0, 0, ⟨(q_cX q_AX q_IX (q_uA q_J0 39 (vp_updL (fun _ => 0) 0 0)), 40, 26520), (q_uA q_J0 39 (vp_updL (fun _ => 0) 0 0)) 39, ?_, rfl, fun _ => rfl, Nat.le_of_ble_eq_true rfl, Nat.le_of_ble_eq_true rfl⟩, ⟨(q_cM q_AM (q_uI q_IM 0 39 0) q_J0, 34, 31630), _, ?_, rfl, rfl, Nat.le_of_ble_eq_true rfl, Nat.le_of_ble_eq_true rfl⟩, fun _ => rfl⟩
            · refine q_Ca_of (Nat.le_of_ble_eq_true rfl) ?_
              refine q_Ru_seg (g2 := (4, [(0, .ref 64), (1, .int 3845), (2, .ref 103)], [.int 3845, .ref 64, .int 0, .ref 103], (q_cX q_AX q_IX q_J0, 40, 26520))) 4 (fun _ _ => rfl) ?_
              refine q_Ru_call (v := (some (.int 0))) (h2 := (q_cX q_AX q_IX q_J0, 40, 26520)) rfl rfl ?_ ?_
              · refine q_Ca_of (Nat.le_of_ble_eq_true rfl) ?_
                refine q_Ru_seg (g2 := (1, [(0, .ref 64), (1, .int 3845)], [.int 3845], (q_cX q_AX q_IX q_J0, 40, 26520))) 1 (fun _ _ => rfl) ?_
                refine q_Ru_call (v := none) (h2 := (q_cX q_AX q_IX q_J0, 40, 26520)) rfl rfl ?_ ?_
                · refine q_Ca_of (Nat.le_of_ble_eq_true rfl) ?_
                  refine q_Ru_seg (g2 := (4, [(0, .int 3845)], [.int 4096, .int 3845], (q_cX q_AX q_IX q_J0, 40, 26520))) 2 (fun _ _ => rfl) ?_
                  refine q_Ru_call (v := none) (h2 := (q_cX q_AX q_IX q_J0, 40, 26520)) rfl rfl ?_ ?_
                  · refine q_Ca_of (Nat.le_of_ble_eq_true rfl) ?_
                    refine q_Ru_seg (g2 := (19, [(0, .int 3845), (1, .int 4096)], [], (q_cX q_AX q_IX q_J0, 40, 26520))) 5 (fun _ _ => rfl) ?_
                    exact q_Ru_ret rfl rfl
                  show q_Ru _ _ _ (7, [(0, .int 3845)], [], (q_cX q_AX q_IX q_J0, 40, 26520)) _
                  exact q_Ru_ret rfl rfl
                show q_Ru _ _ _ (4, [(0, .ref 64), (1, .int 3845)], [], (q_cX q_AX q_IX q_J0, 40, 26520)) _
                refine q_Ru_seg (g2 := (12, [(0, .ref 64), (1, .int 3845)], [.int 3845, .ref 66], (q_cX q_AX q_IX q_J0, 40, 26520))) 4 (fun _ _ => rfl) ?_
                refine q_Ru_call (v := (some (.int 0))) (h2 := (q_cX q_AX q_IX q_J0, 40, 26520)) rfl rfl ?_ ?_
                · refine q_Ca_of (Nat.le_of_ble_eq_true rfl) ?_
                  refine q_Ru_seg (g2 := (27, [(2, .int 5), (0, .ref 66), (1, .int 3845)], [.int 0, .int 5, .ref 66], (q_cX q_AX q_IX q_J0, 40, 26520))) 16 (fun _ _ => rfl) ?_
                  refine q_Ru_call (v := (some (.int 0))) (h2 := (q_cX q_AX q_IX q_J0, 40, 26520)) rfl rfl ?_ ?_
                  · refine q_Ca_of (Nat.le_of_ble_eq_true rfl) ?_
                    refine q_Ru_seg (g2 := (183, [(0, .ref 66), (1, .int 5), (2, .int 0)], [.int 0], (q_cX q_AX q_IX q_J0, 40, 26520))) 3 (fun _ _ => rfl) ?_
                    exact q_Ru_ret rfl rfl
                  show q_Ru _ _ _ (30, [(2, .int 5), (0, .ref 66), (1, .int 3845)], [.int 0], (q_cX q_AX q_IX q_J0, 40, 26520)) _
                  exact q_Ru_ret rfl rfl
                show q_Ru _ _ _ (15, [(0, .ref 64), (1, .int 3845)], [.int 0], (q_cX q_AX q_IX q_J0, 40, 26520)) _
                exact q_Ru_ret rfl rfl
              show q_Ru _ _ _ (7, [(0, .ref 64), (1, .int 3845), (2, .ref 103)], [.int 0, .int 0, .ref 103], (q_cX q_AX q_IX q_J0, 40, 26520)) _
              refine q_Ru_seg (g2 := (16, [(0, .ref 64), (1, .int 3845), (2, .ref 103)], [.int 0], (q_cX q_AX q_IX (q_uA q_J0 39 (vp_updL (fun _ => 0) 0 0)), 40, 26520))) 4 (fun _ _ => rfl) ?_
              exact q_Ru_ret rfl rfl
            · refine q_Ca_of (Nat.le_of_ble_eq_true rfl) ?_
              refine q_Ru_seg (g2 := (2, [(0, .ref 64), (1, .int 3845)], [.int 3845, .ref 64], (q_cM q_AM q_IM q_J0, 34, 31630))) 2 (fun _ _ => rfl) ?_
              refine q_Ru_call (v := (some (.int 0))) (h2 := (q_cM q_AM q_IM q_J0, 34, 31630)) rfl rfl ?_ ?_
              · refine q_Ca_of (Nat.le_of_ble_eq_true rfl) ?_
                refine q_Ru_seg (g2 := (5, [(0, .int 3845)], [.int 4095, .int 0, .int 3845], (q_cM q_AM q_IM q_J0, 34, 31630))) 3 (fun _ _ => rfl) ?_
                refine q_Ru_call (v := (some (.int 1))) (h2 := (q_cM q_AM q_IM q_J0, 34, 31630)) rfl rfl ?_ ?_
                · refine q_Ca_of (Nat.le_of_ble_eq_true rfl) ?_
                  refine q_Ru_seg (g2 := (15, [(0, .int 3845), (1, .int 0), (2, .int 4095)], [.int 1], (q_cM q_AM q_IM q_J0, 34, 31630))) 8 (fun _ _ => rfl) ?_
                  exact q_Ru_ret rfl rfl
                show q_Ru _ _ _ (8, [(0, .int 3845)], [.int 1], (q_cM q_AM q_IM q_J0, 34, 31630)) _
                refine q_Ru_seg (g2 := (16, [(0, .int 3845)], [.int 0], (q_cM q_AM q_IM q_J0, 34, 31630))) 2 (fun _ _ => rfl) ?_
                exact q_Ru_ret rfl rfl
              show q_Ru _ _ _ (5, [(0, .ref 64), (1, .int 3845)], [.int 0, .ref 64], (q_cM q_AM q_IM q_J0, 34, 31630)) _
              refine q_Ru_seg (g2 := (13, [(0, .ref 64), (1, .int 3845)], [.int 0, .ref 64], (q_cM q_AM q_IM q_J0, 34, 31630))) 2 (fun _ _ => rfl) ?_
              refine q_Ru_call (v := (some (.int 0))) (h2 := (q_cM q_AM (q_uI q_IM 0 39 0) q_J0, 34, 31630)) rfl rfl ?_ ?_
              · refine q_Ca_of (Nat.le_of_ble_eq_true rfl) ?_
                refine q_Ru_seg (g2 := (14, [(0, .ref 64), (1, .int 0)], [.int 0], (q_cM q_AM (q_uI q_IM 0 39 0) q_J0, 34, 31630))) 6 (fun _ _ => rfl) ?_
                exact q_Ru_ret rfl rfl
              show q_Ru _ _ _ (16, [(0, .ref 64), (1, .int 3845)], [.int 0], (q_cM q_AM (q_uI q_IM 0 39 0) q_J0, 34, 31630)) _
              refine q_Ru_seg (g2 := (25, [(0, .ref 64), (1, .int 3845)], [.int 3845, .ref 64], (q_cM q_AM (q_uI q_IM 0 39 0) q_J0, 34, 31630))) 3 (fun _ _ => rfl) ?_
              refine q_Ru_call (v := (some (.int 0))) (h2 := (q_cM q_AM (q_uI q_IM 0 39 0) q_J0, 34, 31630)) rfl rfl ?_ ?_
              · refine q_Ca_of (Nat.le_of_ble_eq_true rfl) ?_
                refine q_Ru_seg (g2 := (7, [(0, .ref 64), (1, .int 3845)], [.int 3887, .int 3840, .int 3845], (q_cM q_AM (q_uI q_IM 0 39 0) q_J0, 34, 31630))) 3 (fun _ _ => rfl) ?_
                refine q_Ru_call (v := (some (.int 1))) (h2 := (q_cM q_AM (q_uI q_IM 0 39 0) q_J0, 34, 31630)) rfl rfl ?_ ?_
                · refine q_Ca_of (Nat.le_of_ble_eq_true rfl) ?_
                  refine q_Ru_seg (g2 := (15, [(0, .int 3845), (1, .int 3840), (2, .int 3887)], [.int 1], (q_cM q_AM (q_uI q_IM 0 39 0) q_J0, 34, 31630))) 8 (fun _ _ => rfl) ?_
                  exact q_Ru_ret rfl rfl
                show q_Ru _ _ _ (10, [(0, .ref 64), (1, .int 3845)], [.int 1], (q_cM q_AM (q_uI q_IM 0 39 0) q_J0, 34, 31630)) _
                refine q_Ru_seg (g2 := (19, [(0, .ref 64), (1, .int 3845)], [.int 5, .ref 64], (q_cM q_AM (q_uI q_IM 0 39 0) q_J0, 34, 31630))) 5 (fun _ _ => rfl) ?_
                refine q_Ru_call (v := (some (.int 0))) (h2 := (q_cM q_AM (q_uI q_IM 0 39 0) q_J0, 34, 31630)) rfl rfl ?_ ?_
                · refine q_Ca_of (Nat.le_of_ble_eq_true rfl) ?_
                  refine q_Ru_seg (g2 := (30, [(0, .ref 64), (1, .int 5)], [.int 15, .int 12, .int 5], (q_cM q_AM (q_uI q_IM 0 39 0) q_J0, 34, 31630))) 9 (fun _ _ => rfl) ?_
                  refine q_Ru_call (v := (some (.int 0))) (h2 := (q_cM q_AM (q_uI q_IM 0 39 0) q_J0, 34, 31630)) rfl rfl ?_ ?_
                  · refine q_Ca_of (Nat.le_of_ble_eq_true rfl) ?_
                    refine q_Ru_seg (g2 := (15, [(0, .int 5), (1, .int 12), (2, .int 15)], [.int 0], (q_cM q_AM (q_uI q_IM 0 39 0) q_J0, 34, 31630))) 4 (fun _ _ => rfl) ?_
                    exact q_Ru_ret rfl rfl
                  show q_Ru _ _ _ (33, [(0, .ref 64), (1, .int 5)], [.int 0], (q_cM q_AM (q_uI q_IM 0 39 0) q_J0, 34, 31630)) _
                  refine q_Ru_seg (g2 := (190, [(0, .ref 64), (1, .int 5)], [.int 0], (q_cM q_AM (q_uI q_IM 0 39 0) q_J0, 34, 31630))) 20 (fun _ _ => rfl) ?_
                  exact q_Ru_ret rfl rfl
                show q_Ru _ _ _ (22, [(0, .ref 64), (1, .int 3845)], [.int 0], (q_cM q_AM (q_uI q_IM 0 39 0) q_J0, 34, 31630)) _
                exact q_Ru_ret rfl rfl
              show q_Ru _ _ _ (28, [(0, .ref 64), (1, .int 3845)], [.int 0], (q_cM q_AM (q_uI q_IM 0 39 0) q_J0, 34, 31630)) _
              exact q_Ru_ret rfl rfl
          | 6, _, e222 =>
            have e222 : a = 3846 := e222
            subst e222
            refine ⟨0, 0, 0, ⟨(q_cX q_AX q_IX (q_uA q_J0 39 (vp_updL (fun _ => 0) 0 0)), 40, 26520), (q_uA q_J0 39 (vp_updL (fun _ => 0) 0 0)) 39, ?_, rfl, fun _ => rfl, Nat.le_of_ble_eq_true rfl, Nat.le_of_ble_eq_true rfl⟩, ⟨(q_cM q_AM (q_uI q_IM 0 39 0) q_J0, 34, 31630), _, ?_, rfl, rfl, Nat.le_of_ble_eq_true rfl, Nat.le_of_ble_eq_true rfl⟩, fun _ => rfl⟩
            · refine q_Ca_of (Nat.le_of_ble_eq_true rfl) ?_
              refine q_Ru_seg (g2 := (4, [(0, .ref 64), (1, .int 3846), (2, .ref 103)], [.int 3846, .ref 64, .int 0, .ref 103], (q_cX q_AX q_IX q_J0, 40, 26520))) 4 (fun _ _ => rfl) ?_
              refine q_Ru_call (v := (some (.int 0))) (h2 := (q_cX q_AX q_IX q_J0, 40, 26520)) rfl rfl ?_ ?_
              · refine q_Ca_of (Nat.le_of_ble_eq_true rfl) ?_
                refine q_Ru_seg (g2 := (1, [(0, .ref 64), (1, .int 3846)], [.int 3846], (q_cX q_AX q_IX q_J0, 40, 26520))) 1 (fun _ _ => rfl) ?_
                refine q_Ru_call (v := none) (h2 := (q_cX q_AX q_IX q_J0, 40, 26520)) rfl rfl ?_ ?_
                · refine q_Ca_of (Nat.le_of_ble_eq_true rfl) ?_
                  refine q_Ru_seg (g2 := (4, [(0, .int 3846)], [.int 4096, .int 3846], (q_cX q_AX q_IX q_J0, 40, 26520))) 2 (fun _ _ => rfl) ?_
                  refine q_Ru_call (v := none) (h2 := (q_cX q_AX q_IX q_J0, 40, 26520)) rfl rfl ?_ ?_
                  · refine q_Ca_of (Nat.le_of_ble_eq_true rfl) ?_
                    refine q_Ru_seg (g2 := (19, [(0, .int 3846), (1, .int 4096)], [], (q_cX q_AX q_IX q_J0, 40, 26520))) 5 (fun _ _ => rfl) ?_
                    exact q_Ru_ret rfl rfl
                  show q_Ru _ _ _ (7, [(0, .int 3846)], [], (q_cX q_AX q_IX q_J0, 40, 26520)) _
                  exact q_Ru_ret rfl rfl
                show q_Ru _ _ _ (4, [(0, .ref 64), (1, .int 3846)], [], (q_cX q_AX q_IX q_J0, 40, 26520)) _
                refine q_Ru_seg (g2 := (12, [(0, .ref 64), (1, .int 3846)], [.int 3846, .ref 66], (q_cX q_AX q_IX q_J0, 40, 26520))) 4 (fun _ _ => rfl) ?_
                refine q_Ru_call (v := (some (.int 0))) (h2 := (q_cX q_AX q_IX q_J0, 40, 26520)) rfl rfl ?_ ?_
                · refine q_Ca_of (Nat.le_of_ble_eq_true rfl) ?_
                  refine q_Ru_seg (g2 := (27, [(2, .int 6), (0, .ref 66), (1, .int 3846)], [.int 0, .int 6, .ref 66], (q_cX q_AX q_IX q_J0, 40, 26520))) 16 (fun _ _ => rfl) ?_
                  refine q_Ru_call (v := (some (.int 0))) (h2 := (q_cX q_AX q_IX q_J0, 40, 26520)) rfl rfl ?_ ?_
                  · refine q_Ca_of (Nat.le_of_ble_eq_true rfl) ?_
                    refine q_Ru_seg (g2 := (183, [(0, .ref 66), (1, .int 6), (2, .int 0)], [.int 0], (q_cX q_AX q_IX q_J0, 40, 26520))) 3 (fun _ _ => rfl) ?_
                    exact q_Ru_ret rfl rfl
                  show q_Ru _ _ _ (30, [(2, .int 6), (0, .ref 66), (1, .int 3846)], [.int 0], (q_cX q_AX q_IX q_J0, 40, 26520)) _
                  exact q_Ru_ret rfl rfl
                show q_Ru _ _ _ (15, [(0, .ref 64), (1, .int 3846)], [.int 0], (q_cX q_AX q_IX q_J0, 40, 26520)) _
                exact q_Ru_ret rfl rfl
              show q_Ru _ _ _ (7, [(0, .ref 64), (1, .int 3846), (2, .ref 103)], [.int 0, .int 0, .ref 103], (q_cX q_AX q_IX q_J0, 40, 26520)) _
              refine q_Ru_seg (g2 := (16, [(0, .ref 64), (1, .int 3846), (2, .ref 103)], [.int 0], (q_cX q_AX q_IX (q_uA q_J0 39 (vp_updL (fun _ => 0) 0 0)), 40, 26520))) 4 (fun _ _ => rfl) ?_
              exact q_Ru_ret rfl rfl
            · refine q_Ca_of (Nat.le_of_ble_eq_true rfl) ?_
              refine q_Ru_seg (g2 := (2, [(0, .ref 64), (1, .int 3846)], [.int 3846, .ref 64], (q_cM q_AM q_IM q_J0, 34, 31630))) 2 (fun _ _ => rfl) ?_
              refine q_Ru_call (v := (some (.int 0))) (h2 := (q_cM q_AM q_IM q_J0, 34, 31630)) rfl rfl ?_ ?_
              · refine q_Ca_of (Nat.le_of_ble_eq_true rfl) ?_
                refine q_Ru_seg (g2 := (5, [(0, .int 3846)], [.int 4095, .int 0, .int 3846], (q_cM q_AM q_IM q_J0, 34, 31630))) 3 (fun _ _ => rfl) ?_
                refine q_Ru_call (v := (some (.int 1))) (h2 := (q_cM q_AM q_IM q_J0, 34, 31630)) rfl rfl ?_ ?_
                · refine q_Ca_of (Nat.le_of_ble_eq_true rfl) ?_
                  refine q_Ru_seg (g2 := (15, [(0, .int 3846), (1, .int 0), (2, .int 4095)], [.int 1], (q_cM q_AM q_IM q_J0, 34, 31630))) 8 (fun _ _ => rfl) ?_
                  exact q_Ru_ret rfl rfl
                show q_Ru _ _ _ (8, [(0, .int 3846)], [.int 1], (q_cM q_AM q_IM q_J0, 34, 31630)) _
                refine q_Ru_seg (g2 := (16, [(0, .int 3846)], [.int 0], (q_cM q_AM q_IM q_J0, 34, 31630))) 2 (fun _ _ => rfl) ?_
                exact q_Ru_ret rfl rfl
              show q_Ru _ _ _ (5, [(0, .ref 64), (1, .int 3846)], [.int 0, .ref 64], (q_cM q_AM q_IM q_J0, 34, 31630)) _
              refine q_Ru_seg (g2 := (13, [(0, .ref 64), (1, .int 3846)], [.int 0, .ref 64], (q_cM q_AM q_IM q_J0, 34, 31630))) 2 (fun _ _ => rfl) ?_
              refine q_Ru_call (v := (some (.int 0))) (h2 := (q_cM q_AM (q_uI q_IM 0 39 0) q_J0, 34, 31630)) rfl rfl ?_ ?_
              · refine q_Ca_of (Nat.le_of_ble_eq_true rfl) ?_
                refine q_Ru_seg (g2 := (14, [(0, .ref 64), (1, .int 0)], [.int 0], (q_cM q_AM (q_uI q_IM 0 39 0) q_J0, 34, 31630))) 6 (fun _ _ => rfl) ?_
                exact q_Ru_ret rfl rfl
              show q_Ru _ _ _ (16, [(0, .ref 64), (1, .int 3846)], [.int 0], (q_cM q_AM (q_uI q_IM 0 39 0) q_J0, 34, 31630)) _
              refine q_Ru_seg (g2 := (25, [(0, .ref 64), (1, .int 3846)], [.int 3846, .ref 64], (q_cM q_AM (q_uI q_IM 0 39 0) q_J0, 34, 31630))) 3 (fun _ _ => rfl) ?_
              refine q_Ru_call (v := (some (.int 0))) (h2 := (q_cM q_AM (q_uI q_IM 0 39 0) q_J0, 34, 31630)) rfl rfl ?_ ?_
              · refine q_Ca_of (Nat.le_of_ble_eq_true rfl) ?_
                refine q_Ru_seg (g2 := (7, [(0, .ref 64), (1, .int 3846)], [.int 3887, .int 3840, .int 3846], (q_cM q_AM (q_uI q_IM 0 39 0) q_J0, 34, 31630))) 3 (fun _ _ => rfl) ?_
                refine q_Ru_call (v := (some (.int 1))) (h2 := (q_cM q_AM (q_uI q_IM 0 39 0) q_J0, 34, 31630)) rfl rfl ?_ ?_
                · refine q_Ca_of (Nat.le_of_ble_eq_true rfl) ?_
                  refine q_Ru_seg (g2 := (15, [(0, .int 3846), (1, .int 3840), (2, .int 3887)], [.int 1], (q_cM q_AM (q_uI q_IM 0 39 0) q_J0, 34, 31630))) 8 (fun _ _ => rfl) ?_
                  exact q_Ru_ret rfl rfl
                show q_Ru _ _ _ (10, [(0, .ref 64), (1, .int 3846)], [.int 1], (q_cM q_AM (q_uI q_IM 0 39 0) q_J0, 34, 31630)) _
                refine q_Ru_seg (g2 := (19, [(0, .ref 64), (1, .int 3846)], [.int 6, .ref 64], (q_cM q_AM (q_uI q_IM 0 39 0) q_J0, 34, 31630))) 5 (fun _ _ => rfl) ?_
                refine q_Ru_call (v := (some (.int 0))) (h2 := (q_cM q_AM (q_uI q_IM 0 39 0) q_J0, 34, 31630)) rfl rfl ?_ ?_
                · refine q_Ca_of (Nat.le_of_ble_eq_true rfl) ?_
                  refine q_Ru_seg (g2 := (30, [(0, .ref 64), (1, .int 6)], [.int 15, .int 12, .int 6], (q_cM q_AM (q_uI q_IM 0 39 0) q_J0, 34, 31630))) 9 (fun _ _ => rfl) ?_
                  refine q_Ru_call (v := (some (.int 0))) (h2 := (q_cM q_AM (q_uI q_IM 0 39 0) q_J0, 34, 31630)) rfl rfl ?_ ?_
                  · refine q_Ca_of (Nat.le_of_ble_eq_true rfl) ?_
                    refine q_Ru_seg (g2 := (15, [(0, .int 6), (1, .int 12), (2, .int 15)], [.int 0], (q_cM q_AM (q_uI q_IM 0 39 0) q_J0, 34, 31630))) 4 (fun _ _ => rfl) ?_
                    exact q_Ru_ret rfl rfl
                  show q_Ru _ _ _ (33, [(0, .ref 64), (1, .int 6)], [.int 0], (q_cM q_AM (q_uI q_IM 0 39 0) q_J0, 34, 31630)) _
                  refine q_Ru_seg (g2 := (190, [(0, .ref 64), (1, .int 6)], [.int 0], (q_cM q_AM (q_uI q_IM 0 39 0) q_J0, 34, 31630))) 20 (fun _ _ => rfl) ?_
                  exact q_Ru_ret rfl rfl
                show q_Ru _ _ _ (22, [(0, .ref 64), (1, .int 3846)], [.int 0], (q_cM q_AM (q_uI q_IM 0 39 0) q_J0, 34, 31630)) _
                exact q_Ru_ret rfl rfl
              show q_Ru _ _ _ (28, [(0, .ref 64), (1, .int 3846)], [.int 0], (q_cM q_AM (q_uI q_IM 0 39 0) q_J0, 34, 31630)) _
              exact q_Ru_ret rfl rfl
          | 7, _, e222 =>
            have e222 : a = 3847 := e222
            subst e222
            refine ⟨0, 0, 0, ⟨(q_cX q_AX q_IX (q_uA q_J0 39 (vp_updL (fun _ => 0) 0 0)), 40, 26520), (q_uA q_J0 39 (vp_updL (fun _ => 0) 0 0)) 39, ?_, rfl, fun _ => rfl, Nat.le_of_ble_eq_true rfl, Nat.le_of_ble_eq_true rfl⟩, ⟨(q_cM q_AM (q_uI q_IM 0 39 0) q_J0, 34, 31630), _, ?_, rfl, rfl, Nat.le_of_ble_eq_true rfl, Nat.le_of_ble_eq_true rfl⟩, fun _ => rfl⟩
            · refine q_Ca_of (Nat.le_of_ble_eq_true rfl) ?_
              refine q_Ru_seg (g2 := (4, [(0, .ref 64), (1, .int 3847), (2, .ref 103)], [.int 3847, .ref 64, .int 0, .ref 103], (q_cX q_AX q_IX q_J0, 40, 26520))) 4 (fun _ _ => rfl) ?_
              refine q_Ru_call (v := (some (.int 0))) (h2 := (q_cX q_AX q_IX q_J0, 40, 26520)) rfl rfl ?_ ?_
              · refine q_Ca_of (Nat.le_of_ble_eq_true rfl) ?_
                refine q_Ru_seg (g2 := (1, [(0, .ref 64), (1, .int 3847)], [.int 3847], (q_cX q_AX q_IX q_J0, 40, 26520))) 1 (fun _ _ => rfl) ?_
                refine q_Ru_call (v := none) (h2 := (q_cX q_AX q_IX q_J0, 40, 26520)) rfl rfl ?_ ?_
                · refine q_Ca_of (Nat.le_of_ble_eq_true rfl) ?_
                  refine q_Ru_seg (g2 := (4, [(0, .int 3847)], [.int 4096, .int 3847], (q_cX q_AX q_IX q_J0, 40, 26520))) 2 (fun _ _ => rfl) ?_
                  refine q_Ru_call (v := none) (h2 := (q_cX q_AX q_IX q_J0, 40, 26520)) rfl rfl ?_ ?_
                  · refine q_Ca_of (Nat.le_of_ble_eq_true rfl) ?_
                    refine q_Ru_seg (g2 := (19, [(0, .int 3847), (1, .int 4096)], [], (q_cX q_AX q_IX q_J0, 40, 26520))) 5 (fun _ _ => rfl) ?_
                    exact q_Ru_ret rfl rfl
                  show q_Ru _ _ _ (7, [(0, .int 3847)], [], (q_cX q_AX q_IX q_J0, 40, 26520)) _
                  exact q_Ru_ret rfl rfl
                show q_Ru _ _ _ (4, [(0, .ref 64), (1, .int 3847)], [], (q_cX q_AX q_IX q_J0, 40, 26520)) _
                refine q_Ru_seg (g2 := (12, [(0, .ref 64), (1, .int 3847)], [.int 3847, .ref 66], (q_cX q_AX q_IX q_J0, 40, 26520))) 4 (fun _ _ => rfl) ?_
                refine q_Ru_call (v := (some (.int 0))) (h2 := (q_cX q_AX q_IX q_J0, 40, 26520)) rfl rfl ?_ ?_
                · refine q_Ca_of (Nat.le_of_ble_eq_true rfl) ?_
                  refine q_Ru_seg (g2 := (27, [(2, .int 7), (0, .ref 66), (1, .int 3847)], [.int 0, .int 7, .ref 66], (q_cX q_AX q_IX q_J0, 40, 26520))) 16 (fun _ _ => rfl) ?_
                  refine q_Ru_call (v := (some (.int 0))) (h2 := (q_cX q_AX q_IX q_J0, 40, 26520)) rfl rfl ?_ ?_
                  · refine q_Ca_of (Nat.le_of_ble_eq_true rfl) ?_
                    refine q_Ru_seg (g2 := (183, [(0, .ref 66), (1, .int 7), (2, .int 0)], [.int 0], (q_cX q_AX q_IX q_J0, 40, 26520))) 3 (fun _ _ => rfl) ?_
                    exact q_Ru_ret rfl rfl
                  show q_Ru _ _ _ (30, [(2, .int 7), (0, .ref 66), (1, .int 3847)], [.int 0], (q_cX q_AX q_IX q_J0, 40, 26520)) _
                  exact q_Ru_ret rfl rfl
                show q_Ru _ _ _ (15, [(0, .ref 64), (1, .int 3847)], [.int 0], (q_cX q_AX q_IX q_J0, 40, 26520)) _
                exact q_Ru_ret rfl rfl
              show q_Ru _ _ _ (7, [(0, .ref 64), (1, .int 3847), (2, .ref 103)], [.int 0, .int 0, .ref 103], (q_cX q_AX q_IX q_J0, 40, 26520)) _
              refine q_Ru_seg (g2 := (16, [(0, .ref 64), (1, .int 3847), (2, .ref 103)], [.int 0], (q_cX q_AX q_IX (q_uA q_J0 39 (vp_updL (fun _ => 0) 0 0)), 40, 26520))) 4 (fun _ _ => rfl) ?_
              exact q_Ru_ret rfl rfl
            · refine q_Ca_of (Nat.le_of_ble_eq_true rfl) ?_
              refine q_Ru_seg (g2 := (2, [(0, .ref 64), (1, .int 3847)], [.int 3847, .ref 64], (q_cM q_AM q_IM q_J0, 34, 31630))) 2 (fun _ _ => rfl) ?_
              refine q_Ru_call (v := (some (.int 0))) (h2 := (q_cM q_AM q_IM q_J0, 34, 31630)) rfl rfl ?_ ?_
              · refine q_Ca_of (Nat.le_of_ble_eq_true rfl) ?_
                refine q_Ru_seg (g2 := (5, [(0, .int 3847)], [.int 4095, .int 0, .int 3847], (q_cM q_AM q_IM q_J0, 34, 31630))) 3 (fun _ _ => rfl) ?_
                refine q_Ru_call (v := (some (.int 1))) (h2 := (q_cM q_AM q_IM q_J0, 34, 31630)) rfl rfl ?_ ?_
                · refine q_Ca_of (Nat.le_of_ble_eq_true rfl) ?_
                  refine q_Ru_seg (g2 := (15, [(0, .int 3847), (1, .int 0), (2, .int 4095)], [.int 1], (q_cM q_AM q_IM q_J0, 34, 31630))) 8 (fun _ _ => rfl) ?_
                  exact q_Ru_ret rfl rfl
                show q_Ru _ _ _ (8, [(0, .int 3847)], [.int 1], (q_cM q_AM q_IM q_J0, 34, 31630)) _
                refine q_Ru_seg (g2 := (16, [(0, .int 3847)], [.int 0], (q_cM q_AM q_IM q_J0, 34, 31630))) 2 (fun _ _ => rfl) ?_
                exact q_Ru_ret rfl rfl
              show q_Ru _ _ _ (5, [(0, .ref 64), (1, .int 3847)], [.int 0, .ref 64], (q_cM q_AM q_IM q_J0, 34, 31630)) _
              refine q_Ru_seg (g2 := (13, [(0, .ref 64), (1, .int 3847)], [.int 0, .ref 64], (q_cM q_AM q_IM q_J0, 34, 31630))) 2 (fun _ _ => rfl) ?_
              refine q_Ru_call (v := (some (.int 0))) (h2 := (q_cM q_AM (q_uI q_IM 0 39 0) q_J0, 34, 31630)) rfl rfl ?_ ?_
              · refine q_Ca_of (Nat.le_of_ble_eq_true rfl) ?_
                refine q_Ru_seg (g2 := (14, [(0, .ref 64), (1, .int 0)], [.int 0], (q_cM q_AM (q_uI q_IM 0 39 0) q_J0, 34, 31630))) 6 (fun _ _ => rfl) ?_
                exact q_Ru_ret rfl rfl
              show q_Ru _ _ _ (16, [(0, .ref 64), (1, .int 3847)], [.int 0], (q_cM q_AM (q_uI q_IM 0 39 0) q_J0, 34, 31630)) _
              refine q_Ru_seg (g2 := (25, [(0, .ref 64), (1, .int 3847)], [.int 3847, .ref 64], (q_cM q_AM (q_uI q_IM 0 39 0) q_J0, 34, 31630))) 3 (fun _ _ => rfl) ?_
              refine q_Ru_call (v := (some (.int 0))) (h2 := (q_cM q_AM (q_uI q_IM 0 39 0) q_J0, 34, 31630)) rfl rfl ?_ ?_
              · refine q_Ca_of (Nat.le_of_ble_eq_true rfl) ?_
                refine q_Ru_seg (g2 := (7, [(0, .ref 64), (1, .int 3847)], [.int 3887, .int 3840, .int 3847], (q_cM q_AM (q_uI q_IM 0 39 0) q_J0, 34, 31630))) 3 (fun _ _ => rfl) ?_
                refine q_Ru_call (v := (some (.int 1))) (h2 := (q_cM q_AM (q_uI q_IM 0 39 0) q_J0, 34, 31630)) rfl rfl ?_ ?_
                · refine q_Ca_of (Nat.le_of_ble_eq_true rfl) ?_
                  refine q_Ru_seg (g2 := (15, [(0, .int 3847), (1, .int 3840), (2, .int 3887)], [.int 1], (q_cM q_AM (q_uI q_IM 0 39 0) q_J0, 34, 31630))) 8 (fun _ _ => rfl) ?_
                  exact q_Ru_ret rfl rfl
                show q_Ru _ _ _ (10, [(0, .ref 64), (1, .int 3847)], [.int 1], (q_cM q_AM (q_uI q_IM 0 39 0) q_J0, 34, 31630)) _
                refine q_Ru_seg (g2 := (19, [(0, .ref 64), (1, .int 3847)], [.int 7, .ref 64], (q_cM q_AM (q_uI q_IM 0 39 0) q_J0, 34, 31630))) 5 (fun _ _ => rfl) ?_
                refine q_Ru_call (v := (some (.int 0))) (h2 := (q_cM q_AM (q_uI q_IM 0 39 0) q_J0, 34, 31630)) rfl rfl ?_ ?_
                · refine q_Ca_of (Nat.le_of_ble_eq_true rfl) ?_
                  refine q_Ru_seg (g2 := (30, [(0, .ref 64), (1, .int 7)], [.int 15, .int 12, .int 7], (q_cM q_AM (q_uI q_IM 0 39 0) q_J0, 34, 31630))) 9 (fun _ _ => rfl) ?_
                  refine q_Ru_call (v := (some (.int 0))) (h2 := (q_cM q_AM (q_uI q_IM 0 39 0) q_J0, 34, 31630)) rfl rfl ?_ ?_
                  · refine q_Ca_of (Nat.le_of_ble_eq_true rfl) ?_
                    refine q_Ru_seg (g2 := (15, [(0, .int 7), (1, .int 12), (2, .int 15)], [.int 0], (q_cM q_AM (q_uI q_IM 0 39 0) q_J0, 34, 31630))) 4 (fun _ _ => rfl) ?_
                    exact q_Ru_ret rfl rfl
                  show q_Ru _ _ _ (33, [(0, .ref 64), (1, .int 7)], [.int 0], (q_cM q_AM (q_uI q_IM 0 39 0) q_J0, 34, 31630)) _
                  refine q_Ru_seg (g2 := (190, [(0, .ref 64), (1, .int 7)], [.int 0], (q_cM q_AM (q_uI q_IM 0 39 0) q_J0, 34, 31630))) 20 (fun _ _ => rfl) ?_
                  exact q_Ru_ret rfl rfl
                show q_Ru _ _ _ (22, [(0, .ref 64), (1, .int 3847)], [.int 0], (q_cM q_AM (q_uI q_IM 0 39 0) q_J0, 34, 31630)) _
                exact q_Ru_ret rfl rfl
              show q_Ru _ _ _ (28, [(0, .ref 64), (1, .int 3847)], [.int 0], (q_cM q_AM (q_uI q_IM 0 39 0) q_J0, 34, 31630)) _
              exact q_Ru_ret rfl rfl
          | 8, _, e222 =>
            have e222 : a = 3848 := e222
            subst e222
            refine ⟨0, 0, 0, ⟨(q_cX q_AX q_IX (q_uA q_J0 39 (vp_updL (fun _ => 0) 0 0)), 40, 26520), (q_uA q_J0 39 (vp_updL (fun _ => 0) 0 0)) 39, ?_, rfl, fun _ => rfl, Nat.le_of_ble_eq_true rfl, Nat.le_of_ble_eq_true rfl⟩, ⟨(q_cM q_AM (q_uI q_IM 0 39 0) q_J0, 34, 31630), _, ?_, rfl, rfl, Nat.le_of_ble_eq_true rfl, Nat.le_of_ble_eq_true rfl⟩, fun _ => rfl⟩
            · refine q_Ca_of (Nat.le_of_ble_eq_true rfl) ?_
              refine q_Ru_seg (g2 := (4, [(0, .ref 64), (1, .int 3848), (2, .ref 103)], [.int 3848, .ref 64, .int 0, .ref 103], (q_cX q_AX q_IX q_J0, 40, 26520))) 4 (fun _ _ => rfl) ?_
              refine q_Ru_call (v := (some (.int 0))) (h2 := (q_cX q_AX q_IX q_J0, 40, 26520)) rfl rfl ?_ ?_
              · refine q_Ca_of (Nat.le_of_ble_eq_true rfl) ?_
                refine q_Ru_seg (g2 := (1, [(0, .ref 64), (1, .int 3848)], [.int 3848], (q_cX q_AX q_IX q_J0, 40, 26520))) 1 (fun _ _ => rfl) ?_
                refine q_Ru_call (v := none) (h2 := (q_cX q_AX q_IX q_J0, 40, 26520)) rfl rfl ?_ ?_
                · refine q_Ca_of (Nat.le_of_ble_eq_true rfl) ?_
                  refine q_Ru_seg (g2 := (4, [(0, .int 3848)], [.int 4096, .int 3848], (q_cX q_AX q_IX q_J0, 40, 26520))) 2 (fun _ _ => rfl) ?_
                  refine q_Ru_call (v := none) (h2 := (q_cX q_AX q_IX q_J0, 40, 26520)) rfl rfl ?_ ?_
                  · refine q_Ca_of (Nat.le_of_ble_eq_true rfl) ?_
                    refine q_Ru_seg (g2 := (19, [(0, .int 3848), (1, .int 4096)], [], (q_cX q_AX q_IX q_J0, 40, 26520))) 5 (fun _ _ => rfl) ?_
                    exact q_Ru_ret rfl rfl
                  show q_Ru _ _ _ (7, [(0, .int 3848)], [], (q_cX q_AX q_IX q_J0, 40, 26520)) _
                  exact q_Ru_ret rfl rfl
                show q_Ru _ _ _ (4, [(0, .ref 64), (1, .int 3848)], [], (q_cX q_AX q_IX q_J0, 40, 26520)) _
                refine q_Ru_seg (g2 := (12, [(0, .ref 64), (1, .int 3848)], [.int 3848, .ref 66], (q_cX q_AX q_IX q_J0, 40, 26520))) 4 (fun _ _ => rfl) ?_
                refine q_Ru_call (v := (some (.int 0))) (h2 := (q_cX q_AX q_IX q_J0, 40, 26520)) rfl rfl ?_ ?_
                · refine q_Ca_of (Nat.le_of_ble_eq_true rfl) ?_
                  refine q_Ru_seg (g2 := (27, [(2, .int 8), (0, .ref 66), (1, .int 3848)], [.int 0, .int 8, .ref 66], (q_cX q_AX q_IX q_J0, 40, 26520))) 16 (fun _ _ => rfl) ?_
                  refine q_Ru_call (v := (some (.int 0))) (h2 := (q_cX q_AX q_IX q_J0, 40, 26520)) rfl rfl ?_ ?_
                  · refine q_Ca_of (Nat.le_of_ble_eq_true rfl) ?_
                    refine q_Ru_seg (g2 := (183, [(0, .ref 66), (1, .int 8), (2, .int 0)], [.int 0], (q_cX q_AX q_IX q_J0, 40, 26520))) 3 (fun _ _ => rfl) ?_
                    exact q_Ru_ret rfl rfl
                  show q_Ru _ _ _ (30, [(2, .int 8), (0, .ref 66), (1, .int 3848)], [.int 0], (q_cX q_AX q_IX q_J0, 40, 26520)) _
                  exact q_Ru_ret rfl rfl
                show q_Ru _ _ _ (15, [(0, .ref 64), (1, .int 3848)], [.int 0], (q_cX q_AX q_IX q_J0, 40, 26520)) _
                exact q_Ru_ret rfl rfl
              show q_Ru _ _ _ (7, [(0, .ref 64), (1, .int 3848), (2, .ref 103)], [.int 0, .int 0, .ref 103], (q_cX q_AX q_IX q_J0, 40, 26520)) _
              refine q_Ru_seg (g2 := (16, [(0, .ref 64), (1, .int 3848), (2, .ref 103)], [.int 0], (q_cX q_AX q_IX (q_uA q_J0 39 (vp_updL (fun _ => 0) 0 0)), 40, 26520))) 4 (fun _ _ => rfl) ?_
              exact q_Ru_ret rfl rfl
            · refine q_Ca_of (Nat.le_of_ble_eq_true rfl) ?_
              refine q_Ru_seg (g2 := (2, [(0, .ref 64), (1, .int 3848)], [.int 3848, .ref 64], (q_cM q_AM q_IM q_J0, 34, 31630))) 2 (fun _ _ => rfl) ?_
              refine q_Ru_call (v := (some (.int 0))) (h2 := (q_cM q_AM q_IM q_J0, 34, 31630)) rfl rfl ?_ ?_
              · refine q_Ca_of (Nat.le_of_ble_eq_true rfl) ?_
                refine q_Ru_seg (g2 := (5, [(0, .int 3848)], [.int 4095, .int 0, .int 3848], (q_cM q_AM q_IM q_J0, 34, 31630))) 3 (fun _ _ => rfl) ?_
                refine q_Ru_call (v := (some (.int 1))) (h2 := (q_cM q_AM q_IM q_J0, 34, 31630)) rfl rfl ?_ ?_
                · refine q_Ca_of (Nat.le_of_ble_eq_true rfl) ?_
                  refine q_Ru_seg (g2 := (15, [(0, .int 3848), (1, .int 0), (2, .int 4095)], [.int 1], (q_cM q_AM q_IM q_J0, 34, 31630))) 8 (fun _ _ => rfl) ?_
                  exact q_Ru_ret rfl rfl
                show q_Ru _ _ _ (8, [(0, .int 3848)], [.int 1], (q_cM q_AM q_IM q_J0, 34, 31630)) _
                refine q_Ru_seg (g2 := (16, [(0, .int 3848)], [.int 0], (q_cM q_AM q_IM q_J0, 34, 31630))) 2 (fun _ _ => rfl) ?_
                exact q_Ru_ret rfl rfl
              show q_Ru _ _ _ (5, [(0, .ref 64), (1, .int 3848)], [.int 0, .ref 64], (q_cM q_AM q_IM q_J0, 34, 31630)) _
              refine q_Ru_seg (g2 := (13, [(0, .ref 64), (1, .int 3848)], [.int 0, .ref 64], (q_cM q_AM q_IM q_J0, 34, 31630))) 2 (fun _ _ => rfl) ?_
              refine q_Ru_call (v := (some (.int 0))) (h2 := (q_cM q_AM (q_uI q_IM 0 39 0) q_J0, 34, 31630)) rfl rfl ?_ ?_
              · refine q_Ca_of (Nat.le_of_ble_eq_true rfl) ?_
                refine q_Ru_seg (g2 := (14, [(0, .ref 64), (1, .int 0)], [.int 0], (q_cM q_AM (q_uI q_IM 0 39 0) q_J0, 34, 31630))) 6 (fun _ _ => rfl) ?_
                exact q_Ru_ret rfl rfl
              show q_Ru _ _ _ (16, [(0, .ref 64), (1, .int 3848)], [.int 0], (q_cM q_AM (q_uI q_IM 0 39 0) q_J0, 34, 31630)) _
              refine q_Ru_seg (g2 := (25, [(0, .ref 64), (1, .int 3848)], [.int 3848, .ref 64], (q_cM q_AM (q_uI q_IM 0 39 0) q_J0, 34, 31630))) 3 (fun _ _ => rfl) ?_
              refine q_Ru_call (v := (some (.int 0))) (h2 := (q_cM q_AM (q_uI q_IM 0 39 0) q_J0, 34, 31630)) rfl rfl ?_ ?_
              · refine q_Ca_of (Nat.le_of_ble_eq_true rfl) ?_
                refine q_Ru_seg (g2 := (7, [(0, .ref 64), (1, .int 3848)], [.int 3887, .int 3840, .int 3848], (q_cM q_AM (q_uI q_IM 0 39 0) q_J0, 34, 31630))) 3 (fun _ _ => rfl) ?_
                refine q_Ru_call (v := (some (.int 1))) (h2 := (q_cM q_AM (q_uI q_IM 0 39 0) q_J0, 34, 31630)) rfl rfl ?_ ?_
                · refine q_Ca_of (Nat.le_of_ble_eq_true rfl) ?_
                  refine q_Ru_seg (g2 := (15, [(0, .int 3848), (1, .int 3840), (2, .int 3887)], [.int 1], (q_cM q_AM (q_uI q_IM 0 39 0) q_J0, 34, 31630))) 8 (fun _ _ => rfl) ?_
                  exact q_Ru_ret rfl rfl
                show q_Ru _ _ _ (10, [(0, .ref 64), (1, .int 3848)], [.int 1], (q_cM q_AM (q_uI q_IM 0 39 0) q_J0, 34, 31630)) _
                refine q_Ru_seg (g2 := (19, [(0, .ref 64), (1, .int 3848)], [.int 8, .ref 64], (q_cM q_AM (q_uI q_IM 0 39 0) q_J0, 34, 31630))) 5 (fun _ _ => rfl) ?_
                refine q_Ru_call (v := (some (.int 0))) (h2 := (q_cM q_AM (q_uI q_IM 0 39 0) q_J0, 34, 31630)) rfl rfl ?_ ?_
                · refine q_Ca_of (Nat.le_of_ble_eq_true rfl) ?_
                  refine q_Ru_seg (g2 := (30, [(0, .ref 64), (1, .int 8)], [.int 15, .int 12, .int 8], (q_cM q_AM (q_uI q_IM 0 39 0) q_J0, 34, 31630))) 9 (fun _ _ => rfl) ?_
                  refine q_Ru_call (v := (some (.int 0))) (h2 := (q_cM q_AM (q_uI q_IM 0 39 0) q_J0, 34, 31630)) rfl rfl ?_ ?_
                  · refine q_Ca_of (Nat.le_of_ble_eq_true rfl) ?_
                    refine q_Ru_seg (g2 := (15, [(0, .int 8), (1, .int 12), (2, .int 15)], [.int 0], (q_cM q_AM (q_uI q_IM 0 39 0) q_J0, 34, 31630))) 4 (fun _ _ => rfl) ?_
                    exact q_Ru_ret rfl rfl
                  show q_Ru _ _ _ (33, [(0, .ref 64), (1, .int 8)], [.int 0], (q_cM q_AM (q_uI q_IM 0 39 0) q_J0, 34, 31630)) _
                  refine q_Ru_seg (g2 := (190, [(0, .ref 64), (1, .int 8)], [.int 0], (q_cM q_AM (q_uI q_IM 0 39 0) q_J0, 34, 31630))) 20 (fun _ _ => rfl) ?_
                  exact q_Ru_ret rfl rfl
                show q_Ru _ _ _ (22, [(0, .ref 64), (1, .int 3848)], [.int 0], (q_cM q_AM (q_uI q_IM 0 39 0) q_J0, 34, 31630)) _
                exact q_Ru_ret rfl rfl
              show q_Ru _ _ _ (28, [(0, .ref 64), (1, .int 3848)], [.int 0], (q_cM q_AM (q_uI q_IM 0 39 0) q_J0, 34, 31630)) _
              exact q_Ru_ret rfl rfl
          | 9, _, e222 =>
            have e222 : a = 3849 := e222
            subst e222
            refine ⟨0, 0, 0, ⟨(q_cX q_AX q_IX (q_uA q_J0 39 (vp_updL (fun _ => 0) 0 0)), 40, 26520), (q_uA q_J0 39 (vp_updL (fun _ => 0) 0 0)) 39, ?_, rfl, fun _ => rfl, Nat.le_of_ble_eq_true rfl, Nat.le_of_ble_eq_true rfl⟩, ⟨(q_cM q_AM (q_uI q_IM 0 39 0) q_J0, 34, 31630), _, ?_, rfl, rfl, Nat.le_of_ble_eq_true rfl, Nat.le_of_ble_eq_true rfl⟩, fun _ => rfl⟩
            · refine q_Ca_of (Nat.le_of_ble_eq_true rfl) ?_
              refine q_Ru_seg (g2 := (4, [(0, .ref 64), (1, .int 3849), (2, .ref 103)], [.int 3849, .ref 64, .int 0, .ref 103], (q_cX q_AX q_IX q_J0, 40, 26520))) 4 (fun _ _ => rfl) ?_
              refine q_Ru_call (v := (some (.int 0))) (h2 := (q_cX q_AX q_IX q_J0, 40, 26520)) rfl rfl ?_ ?_
              · refine q_Ca_of (Nat.le_of_ble_eq_true rfl) ?_
                refine q_Ru_seg (g2 := (1, [(0, .ref 64), (1, .int 3849)], [.int 3849], (q_cX q_AX q_IX q_J0, 40, 26520))) 1 (fun _ _ => rfl) ?_
                refine q_Ru_call (v := none) (h2 := (q_cX q_AX q_IX q_J0, 40, 26520)) rfl rfl ?_ ?_
                · refine q_Ca_of (Nat.le_of_ble_eq_true rfl) ?_
                  refine q_Ru_seg (g2 := (4, [(0, .int 3849)], [.int 4096, .int 3849], (q_cX q_AX q_IX q_J0, 40, 26520))) 2 (fun _ _ => rfl) ?_
                  refine q_Ru_call (v := none) (h2 := (q_cX q_AX q_IX q_J0, 40, 26520)) rfl rfl ?_ ?_
                  · refine q_Ca_of (Nat.le_of_ble_eq_true rfl) ?_
                    refine q_Ru_seg (g2 := (19, [(0, .int 3849), (1, .int 4096)], [], (q_cX q_AX q_IX q_J0, 40, 26520))) 5 (fun _ _ => rfl) ?_
                    exact q_Ru_ret rfl rfl
                  show q_Ru _ _ _ (7, [(0, .int 3849)], [], (q_cX q_AX q_IX q_J0, 40, 26520)) _
                  exact q_Ru_ret rfl rfl
                show q_Ru _ _ _ (4, [(0, .ref 64), (1, .int 3849)], [], (q_cX q_AX q_IX q_J0, 40, 26520)) _
                refine q_Ru_seg (g2 := (12, [(0, .ref 64), (1, .int 3849)], [.int 3849, .ref 66], (q_cX q_AX q_IX q_J0, 40, 26520))) 4 (fun _ _ => rfl) ?_
                refine q_Ru_call (v := (some (.int 0))) (h2 := (q_cX q_AX q_IX q_J0, 40, 26520)) rfl rfl ?_ ?_
                · refine q_Ca_of (Nat.le_of_ble_eq_true rfl) ?_
                  refine q_Ru_seg (g2 := (27, [(2, .int 9), (0, .ref 66), (1, .int 3849)], [.int 0, .int 9, .ref 66], (q_cX q_AX q_IX q_J0, 40, 26520))) 16 (fun _ _ => rfl) ?_
                  refine q_Ru_call (v := (some (.int 0))) (h2 := (q_cX q_AX q_IX q_J0, 40, 26520)) rfl rfl ?_ ?_
                  · refine q_Ca_of (Nat.le_of_ble_eq_true rfl) ?_
                    refine q_Ru_seg (g2 := (80, [(0, .ref 66), (1, .int 9), (2, .int 0)], [.int 0], (q_cX q_AX q_IX q_J0, 40, 26520))) 9 (fun _ _ => rfl) ?_
                    exact q_Ru_ret rfl rfl
                  show q_Ru _ _ _ (30, [(2, .int 9), (0, .ref 66), (1, .int 3849)], [.int 0], (q_cX q_AX q_IX q_J0, 40, 26520)) _
                  exact q_Ru_ret rfl rfl
                show q_Ru _ _ _ (15, [(0, .ref 64), (1, .int 3849)], [.int 0], (q_cX q_AX q_IX q_J0, 40, 26520)) _
                exact q_Ru_ret rfl rfl
              show q_Ru _ _ _ (7, [(0, .ref 64), (1, .int 3849), (2, .ref 103)], [.int 0, .int 0, .ref 103], (q_cX q_AX q_IX q_J0, 40, 26520)) _
              refine q_Ru_seg (g2 := (16, [(0, .ref 64), (1, .int 3849), (2, .ref 103)], [.int 0], (q_cX q_AX q_IX (q_uA q_J0 39 (vp_updL (fun _ => 0) 0 0)), 40, 26520))) 4 (fun _ _ => rfl) ?_
              exact q_Ru_ret rfl rfl
            · refine q_Ca_of (Nat.le_of_ble_eq_true rfl) ?_
              refine q_Ru_seg (g2 := (2, [(0, .ref 64), (1, .int 3849)], [.int 3849, .ref 64], (q_cM q_AM q_IM q_J0, 34, 31630))) 2 (fun _ _ => rfl) ?_
              refine q_Ru_call (v := (some (.int 0))) (h2 := (q_cM q_AM q_IM q_J0, 34, 31630)) rfl rfl ?_ ?_
              · refine q_Ca_of (Nat.le_of_ble_eq_true rfl) ?_
                refine q_Ru_seg (g2 := (5, [(0, .int 3849)], [.int 4095, .int 0, .int 3849], (q_cM q_AM q_IM q_J0, 34, 31630))) 3 (fun _ _ => rfl) ?_
                refine q_Ru_call (v := (some (.int 1))) (h2 := (q_cM q_AM q_IM q_J0, 34, 31630)) rfl rfl ?_ ?_
                · refine q_Ca_of (Nat.le_of_ble_eq_true rfl) ?_
                  refine q_Ru_seg (g2 := (15, [(0, .int 3849), (1, .int 0), (2, .int 4095)], [.int 1], (q_cM q_AM q_IM q_J0, 34, 31630))) 8 (fun _ _ => rfl) ?_
                  exact q_Ru_ret rfl rfl
                show q_Ru _ _ _ (8, [(0, .int 3849)], [.int 1], (q_cM q_AM q_IM q_J0, 34, 31630)) _
                refine q_Ru_seg (g2 := (16, [(0, .int 3849)], [.int 0], (q_cM q_AM q_IM q_J0, 34, 31630))) 2 (fun _ _ => rfl) ?_
                exact q_Ru_ret rfl rfl
              show q_Ru _ _ _ (5, [(0, .ref 64), (1, .int 3849)], [.int 0, .ref 64], (q_cM q_AM q_IM q_J0, 34, 31630)) _
              refine q_Ru_seg (g2 := (13, [(0, .ref 64), (1, .int 3849)], [.int 0, .ref 64], (q_cM q_AM q_IM q_J0, 34, 31630))) 2 (fun _ _ => rfl) ?_
              refine q_Ru_call (v := (some (.int 0))) (h2 := (q_cM q_AM (q_uI q_IM 0 39 0) q_J0, 34, 31630)) rfl rfl ?_ ?_
              · refine q_Ca_of (Nat.le_of_ble_eq_true rfl) ?_
                refine q_Ru_seg (g2 := (14, [(0, .ref 64), (1, .int 0)], [.int 0], (q_cM q_AM (q_uI q_IM 0 39 0) q_J0, 34, 31630))) 6 (fun _ _ => rfl) ?_
                exact q_Ru_ret rfl rfl
              show q_Ru _ _ _ (16, [(0, .ref 64), (1, .int 3849)], [.int 0], (q_cM q_AM (q_uI q_IM 0 39 0) q_J0, 34, 31630)) _
              refine q_Ru_seg (g2 := (25, [(0, .ref 64), (1, .int 3849)], [.int 3849, .ref 64], (q_cM q_AM (q_uI q_IM 0 39 0) q_J0, 34, 31630))) 3 (fun _ _ => rfl) ?_
              refine q_Ru_call (v := (some (.int 0))) (h2 := (q_cM q_AM (q_uI q_IM 0 39 0) q_J0, 34, 31630)) rfl rfl ?_ ?_
              · refine q_Ca_of (Nat.le_of_ble_eq_true rfl) ?_
                refine q_Ru_seg (g2 := (7, [(0, .ref 64), (1, .int 3849)], [.int 3887, .int 3840, .int 3849], (q_cM q_AM (q_uI q_IM 0 39 0) q_J0, 34, 31630))) 3 (fun _ _ => rfl) ?_
                refine q_Ru_call (v := (some (.int 1))) (h2 := (q_cM q_AM (q_uI q_IM 0 39 0) q_J0, 34, 31630)) rfl rfl ?_ ?_
                · refine q_Ca_of (Nat.le_of_ble_eq_true rfl) ?_
                  refine q_Ru_seg (g2 := (15, [(0, .int 3849), (1, .int 3840), (2, .int 3887)], [.int 1], (q_cM q_AM (q_uI q_IM 0 39 0) q_J0, 34, 31630))) 8 (fun _ _ => rfl) ?_
                  exact q_Ru_ret rfl rfl
                show q_Ru _ _ _ (10, [(0, .ref 64), (1, .int 3849)], [.int 1], (q_cM q_AM (q_uI q_IM 0 39 0) q_J0, 34, 31630)) _
                refine q_Ru_seg (g2 := (19, [(0, .ref 64), (1, .int 3849)], [.int 9, .ref 64], (q_cM q_AM (q_uI q_IM 0 39 0) q_J0, 34, 31630))) 5 (fun _ _ => rfl) ?_
                refine q_Ru_call (v := (some (.int 0))) (h2 := (q_cM q_AM (q_uI q_IM 0 39 0) q_J0, 34, 31630)) rfl rfl ?_ ?_
                · refine q_Ca_of (Nat.le_of_ble_eq_true rfl) ?_
                  refine q_Ru_seg (g2 := (7, [(0, .ref 64), (1, .int 9)], [.ref 64], (q_cM q_AM (q_uI q_IM 0 39 0) q_J0, 34, 31630))) 4 (fun _ _ => rfl) ?_
                  refine q_Ru_call (v := (some (.int 0))) (h2 := (q_cM q_AM (q_uI q_IM 0 39 0) q_J0, 34, 31630)) rfl rfl ?_ ?_
                  · refine q_Ca_of (Nat.le_of_ble_eq_true rfl) ?_
                    refine q_Ru_seg (g2 := (13, [(0, .ref 64)], [.int 0], (q_cM q_AM (q_uI q_IM 0 39 0) q_J0, 34, 31630))) 7 (fun _ _ => rfl) ?_
                    exact q_Ru_ret rfl rfl
                  show q_Ru _ _ _ (10, [(0, .ref 64), (1, .int 9)], [.int 0], (q_cM q_AM (q_uI q_IM 0 39 0) q_J0, 34, 31630)) _
                  exact q_Ru_ret rfl rfl
                show q_Ru _ _ _ (22, [(0, .ref 64), (1, .int 3849)], [.int 0], (q_cM q_AM (q_uI q_IM 0 39 0) q_J0, 34, 31630)) _
                exact q_Ru_ret rfl rfl
              show q_Ru _ _ _ (28, [(0, .ref 64), (1, .int 3849)], [.int 0], (q_cM q_AM (q_uI q_IM 0 39 0) q_J0, 34, 31630)) _
              exact q_Ru_ret rfl rfl
          | 10, _, e222 =>
            have e222 : a = 3850 := e222
            subst e222
            refine ⟨0, 0, 0, ⟨(q_cX q_AX q_IX (q_uA q_J0 39 (vp_updL (fun _ => 0) 0 0)), 40, 26520), (q_uA q_J0 39 (vp_updL (fun _ => 0) 0 0)) 39, ?_, rfl, fun _ => rfl, Nat.le_of_ble_eq_true rfl, Nat.le_of_ble_eq_true rfl⟩, ⟨(q_cM q_AM (q_uI q_IM 0 39 0) q_J0, 34, 31630), _, ?_, rfl, rfl, Nat.le_of_ble_eq_true rfl, Nat.le_of_ble_eq_true rfl⟩, fun _ => rfl⟩
            · refine q_Ca_of (Nat.le_of_ble_eq_true rfl) ?_
              refine q_Ru_seg (g2 := (4, [(0, .ref 64), (1, .int 3850), (2, .ref 103)], [.int 3850, .ref 64, .int 0, .ref 103], (q_cX q_AX q_IX q_J0, 40, 26520))) 4 (fun _ _ => rfl) ?_
              refine q_Ru_call (v := (some (.int 0))) (h2 := (q_cX q_AX q_IX q_J0, 40, 26520)) rfl rfl ?_ ?_
              · refine q_Ca_of (Nat.le_of_ble_eq_true rfl) ?_
                refine q_Ru_seg (g2 := (1, [(0, .ref 64), (1, .int 3850)], [.int 3850], (q_cX q_AX q_IX q_J0, 40, 26520))) 1 (fun _ _ => rfl) ?_
                refine q_Ru_call (v := none) (h2 := (q_cX q_AX q_IX q_J0, 40, 26520)) rfl rfl ?_ ?_
                · refine q_Ca_of (Nat.le_of_ble_eq_true rfl) ?_
                  refine q_Ru_seg (g2 := (4, [(0, .int 3850)], [.int 4096, .int 3850], (q_cX q_AX q_IX q_J0, 40, 26520))) 2 (fun _ _ => rfl) ?_
                  refine q_Ru_call (v := none) (h2 := (q_cX q_AX q_IX q_J0, 40, 26520)) rfl rfl ?_ ?_
                  · refine q_Ca_of (Nat.le_of_ble_eq_true rfl) ?_
                    refine q_Ru_seg (g2 := (19, [(0, .int 3850), (1, .int 4096)], [], (q_cX q_AX q_IX q_J0, 40, 26520))) 5 (fun _ _ => rfl) ?_
                    exact q_Ru_ret rfl rfl
                  show q_Ru _ _ _ (7, [(0, .int 3850)], [], (q_cX q_AX q_IX q_J0, 40, 26520)) _
                  exact q_Ru_ret rfl rfl
                show q_Ru _ _ _ (4, [(0, .ref 64), (1, .int 3850)], [], (q_cX q_AX q_IX q_J0, 40, 26520)) _
                refine q_Ru_seg (g2 := (12, [(0, .ref 64), (1, .int 3850)], [.int 3850, .ref 66], (q_cX q_AX q_IX q_J0, 40, 26520))) 4 (fun _ _ => rfl) ?_
                refine q_Ru_call (v := (some (.int 0))) (h2 := (q_cX q_AX q_IX q_J0, 40, 26520)) rfl rfl ?_ ?_
                · refine q_Ca_of (Nat.le_of_ble_eq_true rfl) ?_
                  refine q_Ru_seg (g2 := (27, [(2, .int 10), (0, .ref 66), (1, .int 3850)], [.int 0, .int 10, .ref 66], (q_cX q_AX q_IX q_J0, 40, 26520))) 16 (fun _ _ => rfl) ?_
                  refine q_Ru_call (v := (some (.int 0))) (h2 := (q_cX q_AX q_IX q_J0, 40, 26520)) rfl rfl ?_ ?_
                  · refine q_Ca_of (Nat.le_of_ble_eq_true rfl) ?_
                    refine q_Ru_seg (g2 := (183, [(0, .ref 66), (1, .int 10), (2, .int 0)], [.int 0], (q_cX q_AX q_IX q_J0, 40, 26520))) 3 (fun _ _ => rfl) ?_
                    exact q_Ru_ret rfl rfl
                  show q_Ru _ _ _ (30, [(2, .int 10), (0, .ref 66), (1, .int 3850)], [.int 0], (q_cX q_AX q_IX q_J0, 40, 26520)) _
                  exact q_Ru_ret rfl rfl
                show q_Ru _ _ _ (15, [(0, .ref 64), (1, .int 3850)], [.int 0], (q_cX q_AX q_IX q_J0, 40, 26520)) _
                exact q_Ru_ret rfl rfl
              show q_Ru _ _ _ (7, [(0, .ref 64), (1, .int 3850), (2, .ref 103)], [.int 0, .int 0, .ref 103], (q_cX q_AX q_IX q_J0, 40, 26520)) _
              refine q_Ru_seg (g2 := (16, [(0, .ref 64), (1, .int 3850), (2, .ref 103)], [.int 0], (q_cX q_AX q_IX (q_uA q_J0 39 (vp_updL (fun _ => 0) 0 0)), 40, 26520))) 4 (fun _ _ => rfl) ?_
              exact q_Ru_ret rfl rfl
            · refine q_Ca_of (Nat.le_of_ble_eq_true rfl) ?_
              refine q_Ru_seg (g2 := (2, [(0, .ref 64), (1, .int 3850)], [.int 3850, .ref 64], (q_cM q_AM q_IM q_J0, 34, 31630))) 2 (fun _ _ => rfl) ?_
              refine q_Ru_call (v := (some (.int 0))) (h2 := (q_cM q_AM q_IM q_J0, 34, 31630)) rfl rfl ?_ ?_
              · refine q_Ca_of (Nat.le_of_ble_eq_true rfl) ?_
                refine q_Ru_seg (g2 := (5, [(0, .int 3850)], [.int 4095, .int 0, .int 3850], (q_cM q_AM q_IM q_J0, 34, 31630))) 3 (fun _ _ => rfl) ?_
                refine q_Ru_call (v := (some (.int 1))) (h2 := (q_cM q_AM q_IM q_J0, 34, 31630)) rfl rfl ?_ ?_
                · refine q_Ca_of (Nat.le_of_ble_eq_true rfl) ?_
                  refine q_Ru_seg (g2 := (15, [(0, .int 3850), (1, .int 0), (2, .int 4095)], [.int 1], (q_cM q_AM q_IM q_J0, 34, 31630))) 8 (fun _ _ => rfl) ?_
                  exact q_Ru_ret rfl rfl
                show q_Ru _ _ _ (8, [(0, .int 3850)], [.int 1], (q_cM q_AM q_IM q_J0, 34, 31630)) _
                refine q_Ru_seg (g2 := (16, [(0, .int 3850)], [.int 0], (q_cM q_AM q_IM q_J0, 34, 31630))) 2 (fun _ _ => rfl) ?_
                exact q_Ru_ret rfl rfl
              show q_Ru _ _ _ (5, [(0, .ref 64), (1, .int 3850)], [.int 0, .ref 64], (q_cM q_AM q_IM q_J0, 34, 31630)) _
              refine q_Ru_seg (g2 := (13, [(0, .ref 64), (1, .int 3850)], [.int 0, .ref 64], (q_cM q_AM q_IM q_J0, 34, 31630))) 2 (fun _ _ => rfl) ?_
              refine q_Ru_call (v := (some (.int 0))) (h2 := (q_cM q_AM (q_uI q_IM 0 39 0) q_J0, 34, 31630)) rfl rfl ?_ ?_
              · refine q_Ca_of (Nat.le_of_ble_eq_true rfl) ?_
                refine q_Ru_seg (g2 := (14, [(0, .ref 64), (1, .int 0)], [.int 0], (q_cM q_AM (q_uI q_IM 0 39 0) q_J0, 34, 31630))) 6 (fun _ _ => rfl) ?_
                exact q_Ru_ret rfl rfl
              show q_Ru _ _ _ (16, [(0, .ref 64), (1, .int 3850)], [.int 0], (q_cM q_AM (q_uI q_IM 0 39 0) q_J0, 34, 31630)) _
              refine q_Ru_seg (g2 := (25, [(0, .ref 64), (1, .int 3850)], [.int 3850, .ref 64], (q_cM q_AM (q_uI q_IM 0 39 0) q_J0, 34, 31630))) 3 (fun _ _ => rfl) ?_
              refine q_Ru_call (v := (some (.int 0))) (h2 := (q_cM q_AM (q_uI q_IM 0 39 0) q_J0, 34, 31630)) rfl rfl ?_ ?_
              · refine q_Ca_of (Nat.le_of_ble_eq_true rfl) ?_
                refine q_Ru_seg (g2 := (7, [(0, .ref 64), (1, .int 3850)], [.int 3887, .int 3840, .int 3850], (q_cM q_AM (q_uI q_IM 0 39 0) q_J0, 34, 31630))) 3 (fun _ _ => rfl) ?_
                refine q_Ru_call (v := (some (.int 1))) (h2 := (q_cM q_AM (q_uI q_IM 0 39 0) q_J0, 34, 31630)) rfl rfl ?_ ?_
                · refine q_Ca_of (Nat.le_of_ble_eq_true rfl) ?_
                  refine q_Ru_seg (g2 := (15, [(0, .int 3850), (1, .int 3840), (2, .int 3887)], [.int 1], (q_cM q_AM (q_uI q_IM 0 39 0) q_J0, 34, 31630))) 8 (fun _ _ => rfl) ?_
                  exact q_Ru_ret rfl rfl
                show q_Ru _ _ _ (10, [(0, .ref 64), (1, .int 3850)], [.int 1], (q_cM q_AM (q_uI q_IM 0 39 0) q_J0, 34, 31630)) _
                refine q_Ru_seg (g2 := (19, [(0, .ref 64), (1, .int 3850)], [.int 10, .ref 64], (q_cM q_AM (q_uI q_IM 0 39 0) q_J0, 34, 31630))) 5 (fun _ _ => rfl) ?_
                refine q_Ru_call (v := (some (.int 0))) (h2 := (q_cM q_AM (q_uI q_IM 0 39 0) q_J0, 34, 31630)) rfl rfl ?_ ?_
                · refine q_Ca_of (Nat.le_of_ble_eq_true rfl) ?_
                  refine q_Ru_seg (g2 := (24, [(0, .ref 64), (1, .int 10)], [.int 0], (q_cM q_AM (q_uI q_IM 0 39 0) q_J0, 34, 31630))) 10 (fun _ _ => rfl) ?_
                  exact q_Ru_ret rfl rfl
                show q_Ru _ _ _ (22, [(0, .ref 64), (1, .int 3850)], [.int 0], (q_cM q_AM (q_uI q_IM 0 39 0) q_J0, 34, 31630)) _
                exact q_Ru_ret rfl rfl
              show q_Ru _ _ _ (28, [(0, .ref 64), (1, .int 3850)], [.int 0], (q_cM q_AM (q_uI q_IM 0 39 0) q_J0, 34, 31630)) _
              exact q_Ru_ret rfl rfl
          | 11, _, e222 =>
            have e222 : a = 3851 := e222
            subst e222
            refine ⟨0, 0, 0, ⟨(q_cX q_AX q_IX (q_uA q_J0 39 (vp_updL (fun _ => 0) 0 0)), 40, 26520), (q_uA q_J0 39 (vp_updL (fun _ => 0) 0 0)) 39, ?_, rfl, fun _ => rfl, Nat.le_of_ble_eq_true rfl, Nat.le_of_ble_eq_true rfl⟩, ⟨(q_cM q_AM (q_uI q_IM 0 39 0) q_J0, 34, 31630), _, ?_, rfl, rfl, Nat.le_of_ble_eq_true rfl, Nat.le_of_ble_eq_true rfl⟩, fun _ => rfl⟩
            · refine q_Ca_of (Nat.le_of_ble_eq_true rfl) ?_
              refine q_Ru_seg (g2 := (4, [(0, .ref 64), (1, .int 3851), (2, .ref 103)], [.int 3851, .ref 64, .int 0, .ref 103], (q_cX q_AX q_IX q_J0, 40, 26520))) 4 (fun _ _ => rfl) ?_
              refine q_Ru_call (v := (some (.int 0))) (h2 := (q_cX q_AX q_IX q_J0, 40, 26520)) rfl rfl ?_ ?_
              · refine q_Ca_of (Nat.le_of_ble_eq_true rfl) ?_
                refine q_Ru_seg (g2 := (1, [(0, .ref 64), (1, .int 3851)], [.int 3851], (q_cX q_AX q_IX q_J0, 40, 26520))) 1 (fun _ _ => rfl) ?_
                refine q_Ru_call (v := none) (h2 := (q_cX q_AX q_IX q_J0, 40, 26520)) rfl rfl ?_ ?_
                · refine q_Ca_of (Nat.le_of_ble_eq_true rfl) ?_
                  refine q_Ru_seg (g2 := (4, [(0, .int 3851)], [.int 4096, .int 3851], (q_cX q_AX q_IX q_J0, 40, 26520))) 2 (fun _ _ => rfl) ?_
                  refine q_Ru_call (v := none) (h2 := (q_cX q_AX q_IX q_J0, 40, 26520)) rfl rfl ?_ ?_
                  · refine q_Ca_of (Nat.le_of_ble_eq_true rfl) ?_
                    refine q_Ru_seg (g2 := (19, [(0, .int 3851), (1, .int 4096)], [], (q_cX q_AX q_IX q_J0, 40, 26520))) 5 (fun _ _ => rfl) ?_
                    exact q_Ru_ret rfl rfl
                  show q_Ru _ _ _ (7, [(0, .int 3851)], [], (q_cX q_AX q_IX q_J0, 40, 26520)) _
                  exact q_Ru_ret rfl rfl
                show q_Ru _ _ _ (4, [(0, .ref 64), (1, .int 3851)], [], (q_cX q_AX q_IX q_J0, 40, 26520)) _
                refine q_Ru_seg (g2 := (12, [(0, .ref 64), (1, .int 3851)], [.int 3851, .ref 66], (q_cX q_AX q_IX q_J0, 40, 26520))) 4 (fun _ _ => rfl) ?_
                refine q_Ru_call (v := (some (.int 0))) (h2 := (q_cX q_AX q_IX q_J0, 40, 26520)) rfl rfl ?_ ?_
                · refine q_Ca_of (Nat.le_of_ble_eq_true rfl) ?_
                  refine q_Ru_seg (g2 := (27, [(2, .int 11), (0, .ref 66), (1, .int 3851)], [.int 0, .int 11, .ref 66], (q_cX q_AX q_IX q_J0, 40, 26520))) 16 (fun _ _ => rfl) ?_
                  refine q_Ru_call (v := (some (.int 0))) (h2 := (q_cX q_AX q_IX q_J0, 40, 26520)) rfl rfl ?_ ?_
                  · refine q_Ca_of (Nat.le_of_ble_eq_true rfl) ?_
                    refine q_Ru_seg (g2 := (183, [(0, .ref 66), (1, .int 11), (2, .int 0)], [.int 0], (q_cX q_AX q_IX q_J0, 40, 26520))) 3 (fun _ _ => rfl) ?_
                    exact q_Ru_ret rfl rfl
                  show q_Ru _ _ _ (30, [(2, .int 11), (0, .ref 66), (1, .int 3851)], [.int 0], (q_cX q_AX q_IX q_J0, 40, 26520)) _
                  exact q_Ru_ret rfl rfl
                show q_Ru _ _ _ (15, [(0, .ref 64), (1, .int 3851)], [.int 0], (q_cX q_AX q_IX q_J0, 40, 26520)) _
                exact q_Ru_ret rfl rfl
              show q_Ru _ _ _ (7, [(0, .ref 64), (1, .int 3851), (2, .ref 103)], [.int 0, .int 0, .ref 103], (q_cX q_AX q_IX q_J0, 40, 26520)) _
              refine q_Ru_seg (g2 := (16, [(0, .ref 64), (1, .int 3851), (2, .ref 103)], [.int 0], (q_cX q_AX q_IX (q_uA q_J0 39 (vp_updL (fun _ => 0) 0 0)), 40, 26520))) 4 (fun _ _ => rfl) ?_
              exact q_Ru_ret rfl rfl
            · refine q_Ca_of (Nat.le_of_ble_eq_true rfl) ?_
              refine q_Ru_seg (g2 := (2, [(0, .ref 64), (1, .int 3851)], [.int 3851, .ref 64], (q_cM q_AM q_IM q_J0, 34, 31630))) 2 (fun _ _ => rfl) ?_
              refine q_Ru_call (v := (some (.int 0))) (h2 := (q_cM q_AM q_IM q_J0, 34, 31630)) rfl rfl ?_ ?_
              · refine q_Ca_of (Nat.le_of_ble_eq_true rfl) ?_
                refine q_Ru_seg (g2 := (5, [(0, .int 3851)], [.int 4095, .int 0, .int 3851], (q_cM q_AM q_IM q_J0, 34, 31630))) 3 (fun _ _ => rfl) ?_
                refine q_Ru_call (v := (some (.int 1))) (h2 := (q_cM q_AM q_IM q_J0, 34, 31630)) rfl rfl ?_ ?_
                · refine q_Ca_of (Nat.le_of_ble_eq_true rfl) ?_
                  refine q_Ru_seg (g2 := (15, [(0, .int 3851), (1, .int 0), (2, .int 4095)], [.int 1], (q_cM q_AM q_IM q_J0, 34, 31630))) 8 (fun _ _ => rfl) ?_
                  exact q_Ru_ret rfl rfl
                show q_Ru _ _ _ (8, [(0, .int 3851)], [.int 1], (q_cM q_AM q_IM q_J0, 34, 31630)) _
                refine q_Ru_seg (g2 := (16, [(0, .int 3851)], [.int 0], (q_cM q_AM q_IM q_J0, 34, 31630))) 2 (fun _ _ => rfl) ?_
                exact q_Ru_ret rfl rfl
              show q_Ru _ _ _ (5, [(0, .ref 64), (1, .int 3851)], [.int 0, .ref 64], (q_cM q_AM q_IM q_J0, 34, 31630)) _
              refine q_Ru_seg (g2 := (13, [(0, .ref 64), (1, .int 3851)], [.int 0, .ref 64], (q_cM q_AM q_IM q_J0, 34, 31630))) 2 (fun _ _ => rfl) ?_
              refine q_Ru_call (v := (some (.int 0))) (h2 := (q_cM q_AM (q_uI q_IM 0 39 0) q_J0, 34, 31630)) rfl rfl ?_ ?_
              · refine q_Ca_of (Nat.le_of_ble_eq_true rfl) ?_
                refine q_Ru_seg (g2 := (14, [(0, .ref 64), (1, .int 0)], [.int 0], (q_cM q_AM (q_uI q_IM 0 39 0) q_J0, 34, 31630))) 6 (fun _ _ => rfl) ?_
                exact q_Ru_ret rfl rfl
              show q_Ru _ _ _ (16, [(0, .ref 64), (1, .int 3851)], [.int 0], (q_cM q_AM (q_uI q_IM 0 39 0) q_J0, 34, 31630)) _
              refine q_Ru_seg (g2 := (25, [(0, .ref 64), (1, .int 3851)], [.int 3851, .ref 64], (q_cM q_AM (q_uI q_IM 0 39 0) q_J0, 34, 31630))) 3 (fun _ _ => rfl) ?_
              refine q_Ru_call (v := (some (.int 0))) (h2 := (q_cM q_AM (q_uI q_IM 0 39 0) q_J0, 34, 31630)) rfl rfl ?_ ?_
              · refine q_Ca_of (Nat.le_of_ble_eq_true rfl) ?_
                refine q_Ru_seg (g2 := (7, [(0, .ref 64), (1, .int 3851)], [.int 3887, .int 3840, .int 3851], (q_cM q_AM (q_uI q_IM 0 39 0) q_J0, 34, 31630))) 3 (fun _ _ => rfl) ?_
                refine q_Ru_call (v := (some (.int 1))) (h2 := (q_cM q_AM (q_uI q_IM 0 39 0) q_J0, 34, 31630)) rfl rfl ?_ ?_
                · refine q_Ca_of (Nat.le_of_ble_eq_true rfl) ?_
                  refine q_Ru_seg (g2 := (15, [(0, .int 3851), (1, .int 3840), (2, .int 3887)], [.int 1], (q_cM q_AM (q_uI q_IM 0 39 0) q_J0, 34, 31630))) 8 (fun _ _ => rfl) ?_
                  exact q_Ru_ret rfl rfl
                show q_Ru _ _ _ (10, [(0, .ref 64), (1, .int 3851)], [.int 1], (q_cM q_AM (q_uI q_IM 0 39 0) q_J0, 34, 31630)) _
                refine q_Ru_seg (g2 := (19, [(0, .ref 64), (1, .int 3851)], [.int 11, .ref 64], (q_cM q_AM (q_uI q_IM 0 39 0) q_J0, 34, 31630))) 5 (fun _ _ => rfl) ?_
                refine q_Ru_call (v := (some (.int 0))) (h2 := (q_cM q_AM (q_uI q_IM 0 39 0) q_J0, 34, 31630)) rfl rfl ?_ ?_
                · refine q_Ca_of (Nat.le_of_ble_eq_true rfl) ?_
                  refine q_Ru_seg (g2 := (30, [(0, .ref 64), (1, .int 11)], [.int 15, .int 12, .int 11], (q_cM q_AM (q_uI q_IM 0 39 0) q_J0, 34, 31630))) 9 (fun _ _ => rfl) ?_
                  refine q_Ru_call (v := (some (.int 0))) (h2 := (q_cM q_AM (q_uI q_IM 0 39 0) q_J0, 34, 31630)) rfl rfl ?_ ?_
                  · refine q_Ca_of (Nat.le_of_ble_eq_true rfl) ?_
                    refine q_Ru_seg (g2 := (15, [(0, .int 11), (1, .int 12), (2, .int 15)], [.int 0], (q_cM q_AM (q_uI q_IM 0 39 0) q_J0, 34, 31630))) 4 (fun _ _ => rfl) ?_
                    exact q_Ru_ret rfl rfl
                  show q_Ru _ _ _ (33, [(0, .ref 64), (1, .int 11)], [.int 0], (q_cM q_AM (q_uI q_IM 0 39 0) q_J0, 34, 31630)) _
                  refine q_Ru_seg (g2 := (190, [(0, .ref 64), (1, .int 11)], [.int 0], (q_cM q_AM (q_uI q_IM 0 39 0) q_J0, 34, 31630))) 20 (fun _ _ => rfl) ?_
                  exact q_Ru_ret rfl rfl
                show q_Ru _ _ _ (22, [(0, .ref 64), (1, .int 3851)], [.int 0], (q_cM q_AM (q_uI q_IM 0 39 0) q_J0, 34, 31630)) _
                exact q_Ru_ret rfl rfl
              show q_Ru _ _ _ (28, [(0, .ref 64), (1, .int 3851)], [.int 0], (q_cM q_AM (q_uI q_IM 0 39 0) q_J0, 34, 31630)) _
              exact q_Ru_ret rfl rfl
          | 12, _, e222 =>
            have e222 : a = 3852 := e222
            subst e222
            refine ⟨0, 0, 0, ⟨(q_cX q_AX q_IX (q_uA q_J0 39 (vp_updL (fun _ => 0) 0 0)), 40, 26520), (q_uA q_J0 39 (vp_updL (fun _ => 0) 0 0)) 39, ?_, rfl, fun _ => rfl, Nat.le_of_ble_eq_true rfl, Nat.le_of_ble_eq_true rfl⟩, ⟨(q_cM q_AM (q_uI q_IM 0 39 0) q_J0, 34, 31630), _, ?_, rfl, rfl, Nat.le_of_ble_eq_true rfl, Nat.le_of_ble_eq_true rfl⟩, fun _ => rfl⟩
            · refine q_Ca_of (Nat.le_of_ble_eq_true rfl) ?_
              refine q_Ru_seg (g2 := (4, [(0, .ref 64), (1, .int 3852), (2, .ref 103)], [.int 3852, .ref 64, .int 0, .ref 103], (q_cX q_AX q_IX q_J0, 40, 26520))) 4 (fun _ _ => rfl) ?_
              refine q_Ru_call (v := (some (.int 0))) (h2 := (q_cX q_AX q_IX q_J0, 40, 26520)) rfl rfl ?_ ?_
              · refine q_Ca_of (Nat.le_of_ble_eq_true rfl) ?_
                refine q_Ru_seg (g2 := (1, [(0, .ref 64), (1, .int 3852)], [.int 3852], (q_cX q_AX q_IX q_J0, 40, 26520))) 1 (fun _ _ => rfl) ?_
                refine q_Ru_call (v := none) (h2 := (q_cX q_AX q_IX q_J0, 40, 26520)) rfl rfl ?_ ?_
                · refine q_Ca_of (Nat.le_of_ble_eq_true rfl) ?_
                  refine q_Ru_seg (g2 := (4, [(0, .int 3852)], [.int 4096, .int 3852], (q_cX q_AX q_IX q_J0, 40, 26520))) 2 (fun _ _ => rfl) ?_
                  refine q_Ru_call (v := none) (h2 := (q_cX q_AX q_IX q_J0, 40, 26520)) rfl rfl ?_ ?_
                  · refine q_Ca_of (Nat.le_of_ble_eq_true rfl) ?_
                    refine q_Ru_seg (g2 := (19, [(0, .int 3852), (1, .int 4096)], [], (q_cX q_AX q_IX q_J0, 40, 26520))) 5 (fun _ _ => rfl) ?_
                    exact q_Ru_ret rfl rfl
                  show q_Ru _ _ _ (7, [(0, .int 3852)], [], (q_cX q_AX q_IX q_J0, 40, 26520)) _
                  exact q_Ru_ret rfl rfl
                show q_Ru _ _ _ (4, [(0, .ref 64), (1, .int 3852)], [], (q_cX q_AX q_IX q_J0, 40, 26520)) _
                refine q_Ru_seg (g2 := (12, [(0, .ref 64), (1, .int 3852)], [.int 3852, .ref 66], (q_cX q_AX q_IX q_J0, 40, 26520))) 4 (fun _ _ => rfl) ?_
                refine q_Ru_call (v := (some (.int 0))) (h2 := (q_cX q_AX q_IX q_J0, 40, 26520)) rfl rfl ?_ ?_
                · refine q_Ca_of (Nat.le_of_ble_eq_true rfl) ?_
                  refine q_Ru_seg (g2 := (27, [(2, .int 12), (0, .ref 66), (1, .int 3852)], [.int 0, .int 12, .ref 66], (q_cX q_AX q_IX q_J0, 40, 26520))) 16 (fun _ _ => rfl) ?_
                  refine q_Ru_call (v := (some (.int 0))) (h2 := (q_cX q_AX q_IX q_J0, 40, 26520)) rfl rfl ?_ ?_
                  · refine q_Ca_of (Nat.le_of_ble_eq_true rfl) ?_
                    refine q_Ru_seg (g2 := (91, [(0, .ref 66), (1, .int 12), (2, .int 0)], [.int 0], (q_cX q_AX q_IX q_J0, 40, 26520))) 8 (fun _ _ => rfl) ?_
                    exact q_Ru_ret rfl rfl
                  show q_Ru _ _ _ (30, [(2, .int 12), (0, .ref 66), (1, .int 3852)], [.int 0], (q_cX q_AX q_IX q_J0, 40, 26520)) _
                  exact q_Ru_ret rfl rfl
                show q_Ru _ _ _ (15, [(0, .ref 64), (1, .int 3852)], [.int 0], (q_cX q_AX q_IX q_J0, 40, 26520)) _
                exact q_Ru_ret rfl rfl
              show q_Ru _ _ _ (7, [(0, .ref 64), (1, .int 3852), (2, .ref 103)], [.int 0, .int 0, .ref 103], (q_cX q_AX q_IX q_J0, 40, 26520)) _
              refine q_Ru_seg (g2 := (16, [(0, .ref 64), (1, .int 3852), (2, .ref 103)], [.int 0], (q_cX q_AX q_IX (q_uA q_J0 39 (vp_updL (fun _ => 0) 0 0)), 40, 26520))) 4 (fun _ _ => rfl) ?_
              exact q_Ru_ret rfl rfl
            · refine q_Ca_of (Nat.le_of_ble_eq_true rfl) ?_
              refine q_Ru_seg (g2 := (2, [(0, .ref 64), (1, .int 3852)], [.int 3852, .ref 64], (q_cM q_AM q_IM q_J0, 34, 31630))) 2 (fun _ _ => rfl) ?_
              refine q_Ru_call (v := (some (.int 0))) (h2 := (q_cM q_AM q_IM q_J0, 34, 31630)) rfl rfl ?_ ?_
              · refine q_Ca_of (Nat.le_of_ble_eq_true rfl) ?_
                refine q_Ru_seg (g2 := (5, [(0, .int 3852)], [.int 4095, .int 0, .int 3852], (q_cM q_AM q_IM q_J0, 34, 31630))) 3 (fun _ _ => rfl) ?_
                refine q_Ru_call (v := (some (.int 1))) (h2 := (q_cM q_AM q_IM q_J0, 34, 31630)) rfl rfl ?_ ?_
                · refine q_Ca_of (Nat.le_of_ble_eq_true rfl) ?_
                  refine q_Ru_seg (g2 := (15, [(0, .int 3852), (1, .int 0), (2, .int 4095)], [.int 1], (q_cM q_AM q_IM q_J0, 34, 31630))) 8 (fun _ _ => rfl) ?_
                  exact q_Ru_ret rfl rfl
                show q_Ru _ _ _ (8, [(0, .int 3852)], [.int 1], (q_cM q_AM q_IM q_J0, 34, 31630)) _
                refine q_Ru_seg (g2 := (16, [(0, .int 3852)], [.int 0], (q_cM q_AM q_IM q_J0, 34, 31630))) 2 (fun _ _ => rfl) ?_
                exact q_Ru_ret rfl rfl
              show q_Ru _ _ _ (5, [(0, .ref 64), (1, .int 3852)], [.int 0, .ref 64], (q_cM q_AM q_IM q_J0, 34, 31630)) _
              refine q_Ru_seg (g2 := (13, [(0, .ref 64), (1, .int 3852)], [.int 0, .ref 64], (q_cM q_AM q_IM q_J0, 34, 31630))) 2 (fun _ _ => rfl) ?_
              refine q_Ru_call (v := (some (.int 0))) (h2 := (q_cM q_AM (q_uI q_IM 0 39 0) q_J0, 34, 31630)) rfl rfl ?_ ?_
              · refine q_Ca_of (Nat.le_of_ble_eq_true rfl) ?_
                refine q_Ru_seg (g2 := (14, [(0, .ref 64), (1, .int 0)], [.int 0], (q_cM q_AM (q_uI q_IM 0 39 0) q_J0, 34, 31630))) 6 (fun _ _ => rfl) ?_
                exact q_Ru_ret rfl rfl
              show q_Ru _ _ _ (16, [(0, .ref 64), (1, .int 3852)], [.int 0], (q_cM q_AM (q_uI q_IM 0 39 0) q_J0, 34, 31630)) _
              refine q_Ru_seg (g2 := (25, [(0, .ref 64), (1, .int 3852)], [.int 3852, .ref 64], (q_cM q_AM (q_uI q_IM 0 39 0) q_J0, 34, 31630))) 3 (fun _ _ => rfl) ?_
              refine q_Ru_call (v := (some (.int 0))) (h2 := (q_cM q_AM (q_uI q_IM 0 39 0) q_J0, 34, 31630)) rfl rfl ?_ ?_
              · refine q_Ca_of (Nat.le_of_ble_eq_true rfl) ?_
                refine q_Ru_seg (g2 := (7, [(0, .ref 64), (1, .int 3852)], [.int 3887, .int 3840, .int 3852], (q_cM q_AM (q_uI q_IM 0 39 0) q_J0, 34, 31630))) 3 (fun _ _ => rfl) ?_
                refine q_Ru_call (v := (some (.int 1))) (h2 := (q_cM q_AM (q_uI q_IM 0 39 0) q_J0, 34, 31630)) rfl rfl ?_ ?_
                · refine q_Ca_of (Nat.le_of_ble_eq_true rfl) ?_
                  refine q_Ru_seg (g2 := (15, [(0, .int 3852), (1, .int 3840), (2, .int 3887)], [.int 1], (q_cM q_AM (q_uI q_IM 0 39 0) q_J0, 34, 31630))) 8 (fun _ _ => rfl) ?_
                  exact q_Ru_ret rfl rfl
                show q_Ru _ _ _ (10, [(0, .ref 64), (1, .int 3852)], [.int 1], (q_cM q_AM (q_uI q_IM 0 39 0) q_J0, 34, 31630)) _
                refine q_Ru_seg (g2 := (19, [(0, .ref 64), (1, .int 3852)], [.int 12, .ref 64], (q_cM q_AM (q_uI q_IM 0 39 0) q_J0, 34, 31630))) 5 (fun _ _ => rfl) ?_
                refine q_Ru_call (v := (some (.int 0))) (h2 := (q_cM q_AM (q_uI q_IM 0 39 0) q_J0, 34, 31630)) rfl rfl ?_ ?_
                · refine q_Ca_of (Nat.le_of_ble_eq_true rfl) ?_
                  refine q_Ru_seg (g2 := (30, [(0, .ref 64), (1, .int 12)], [.int 15, .int 12, .int 12], (q_cM q_AM (q_uI q_IM 0 39 0) q_J0, 34, 31630))) 9 (fun _ _ => rfl) ?_
                  refine q_Ru_call (v := (some (.int 1))) (h2 := (q_cM q_AM (q_uI q_IM 0 39 0) q_J0, 34, 31630)) rfl rfl ?_ ?_
                  · refine q_Ca_of (Nat.le_of_ble_eq_true rfl) ?_
                    refine q_Ru_seg (g2 := (15, [(0, .int 12), (1, .int 12), (2, .int 15)], [.int 1], (q_cM q_AM (q_uI q_IM 0 39 0) q_J0, 34, 31630))) 8 (fun _ _ => rfl) ?_
                    exact q_Ru_ret rfl rfl
                  show q_Ru _ _ _ (33, [(0, .ref 64), (1, .int 12)], [.int 1], (q_cM q_AM (q_uI q_IM 0 39 0) q_J0, 34, 31630)) _
                  refine q_Ru_seg (g2 := (79, [(0, .ref 64), (1, .int 12)], [.int 0], (q_cM q_AM (q_uI q_IM 0 39 0) q_J0, 34, 31630))) 18 (fun _ _ => rfl) ?_
                  exact q_Ru_ret rfl rfl
                show q_Ru _ _ _ (22, [(0, .ref 64), (1, .int 3852)], [.int 0], (q_cM q_AM (q_uI q_IM 0 39 0) q_J0, 34, 31630)) _
                exact q_Ru_ret rfl rfl
              show q_Ru _ _ _ (28, [(0, .ref 64), (1, .int 3852)], [.int 0], (q_cM q_AM (q_uI q_IM 0 39 0) q_J0, 34, 31630)) _
              exact q_Ru_ret rfl rfl
          | 13, _, e222 =>
            have e222 : a = 3853 := e222
            subst e222
            refine ⟨0, 0, 0, ⟨(q_cX q_AX q_IX (q_uA q_J0 39 (vp_updL (fun _ => 0) 0 0)), 40, 26520), (q_uA q_J0 39 (vp_updL (fun _ => 0) 0 0)) 39, ?_, rfl, fun _ => rfl, Nat.le_of_ble_eq_true rfl, Nat.le_of_ble_eq_true rfl⟩, ⟨(q_cM q_AM (q_uI q_IM 0 39 0) q_J0, 34, 31630), _, ?_, rfl, rfl, Nat.le_of_ble_eq_true rfl, Nat.le_of_ble_eq_true rfl⟩, fun _ => rfl⟩
            · refine q_Ca_of (Nat.le_of_ble_eq_true rfl) ?_
              refine q_Ru_seg (g2 := (4, [(0, .ref 64), (1, .int 3853), (2, .ref 103)], [.int 3853, .ref 64, .int 0, .ref 103], (q_cX q_AX q_IX q_J0, 40, 26520))) 4 (fun _ _ => rfl) ?_
              refine q_Ru_call (v := (some (.int 0))) (h2 := (q_cX q_AX q_IX q_J0, 40, 26520)) rfl rfl ?_ ?_
              · refine q_Ca_of (Nat.le_of_ble_eq_true rfl) ?_
                refine q_Ru_seg (g2 := (1, [(0, .ref 64), (1, .int 3853)], [.int 3853], (q_cX q_AX q_IX q_J0, 40, 26520))) 1 (fun _ _ => rfl) ?_
                refine q_Ru_call (v := none) (h2 := (q_cX q_AX q_IX q_J0, 40, 26520)) rfl rfl ?_ ?_
                · refine q_Ca_of (Nat.le_of_ble_eq_true rfl) ?_
                  refine q_Ru_seg (g2 := (4, [(0, .int 3853)], [.int 4096, .int 3853], (q_cX q_AX q_IX q_J0, 40, 26520))) 2 (fun _ _ => rfl) ?_
                  refine q_Ru_call (v := none) (h2 := (q_cX q_AX q_IX q_J0, 40, 26520)) rfl rfl ?_ ?_
                  · refine q_Ca_of (Nat.le_of_ble_eq_true rfl) ?_
                    refine q_Ru_seg (g2 := (19, [(0, .int 3853), (1, .int 4096)], [], (q_cX q_AX q_IX q_J0, 40, 26520))) 5 (fun _ _ => rfl) ?_
                    exact q_Ru_ret rfl rfl
                  show q_Ru _ _ _ (7, [(0, .int 3853)], [], (q_cX q_AX q_IX q_J0, 40, 26520)) _
                  exact q_Ru_ret rfl rfl
                show q_Ru _ _ _ (4, [(0, .ref 64), (1, .int 3853)], [], (q_cX q_AX q_IX q_J0, 40, 26520)) _
                refine q_Ru_seg (g2 := (12, [(0, .ref 64), (1, .int 3853)], [.int 3853, .ref 66], (q_cX q_AX q_IX q_J0, 40, 26520))) 4 (fun _ _ => rfl) ?_
                refine q_Ru_call (v := (some (.int 0))) (h2 := (q_cX q_AX q_IX q_J0, 40, 26520)) rfl rfl ?_ ?_
                · refine q_Ca_of (Nat.le_of_ble_eq_true rfl) ?_
                  refine q_Ru_seg (g2 := (27, [(2, .int 13), (0, .ref 66), (1, .int 3853)], [.int 0, .int 13, .ref 66], (q_cX q_AX q_IX q_J0, 40, 26520))) 16 (fun _ _ => rfl) ?_
                  refine q_Ru_call (v := (some (.int 0))) (h2 := (q_cX q_AX q_IX q_J0, 40, 26520)) rfl rfl ?_ ?_
                  · refine q_Ca_of (Nat.le_of_ble_eq_true rfl) ?_
                    refine q_Ru_seg (g2 := (101, [(0, .ref 66), (1, .int 13), (2, .int 0)], [.int 0], (q_cX q_AX q_IX q_J0, 40, 26520))) 8 (fun _ _ => rfl) ?_
                    exact q_Ru_ret rfl rfl
                  show q_Ru _ _ _ (30, [(2, .int 13), (0, .ref 66), (1, .int 3853)], [.int 0], (q_cX q_AX q_IX q_J0, 40, 26520)) _
                  exact q_Ru_ret rfl rfl
                show q_Ru _ _ _ (15, [(0, .ref 64), (1, .int 3853)], [.int 0], (q_cX q_AX q_IX q_J0, 40, 26520)) _
                exact q_Ru_ret rfl rfl
              show q_Ru _ _ _ (7, [(0, .ref 64), (1, .int 3853), (2, .ref 103)], [.int 0, .int 0, .ref 103], (q_cX q_AX q_IX q_J0, 40, 26520)) _
              refine q_Ru_seg (g2 := (16, [(0, .ref 64), (1, .int 3853), (2, .ref 103)], [.int 0], (q_cX q_AX q_IX (q_uA q_J0 39 (vp_updL (fun _ => 0) 0 0)), 40, 26520))) 4 (fun _ _ => rfl) ?_
              exact q_Ru_ret rfl rfl
            · refine q_Ca_of (Nat.le_of_ble_eq_true rfl) ?_
              refine q_Ru_seg (g2 := (2, [(0, .ref 64), (1, .int 3853)], [.int 3853, .ref 64], (q_cM q_AM q_IM q_J0, 34, 31630))) 2 (fun _ _ => rfl) ?_
              refine q_Ru_call (v := (some (.int 0))) (h2 := (q_cM q_AM q_IM q_J0, 34, 31630)) rfl rfl ?_ ?_
              · refine q_Ca_of (Nat.le_of_ble_eq_true rfl) ?_
                refine q_Ru_seg (g2 := (5, [(0, .int 3853)], [.int 4095, .int 0, .int 3853], (q_cM q_AM q_IM q_J0, 34, 31630))) 3 (fun _ _ => rfl) ?_
                refine q_Ru_call (v := (some (.int 1))) (h2 := (q_cM q_AM q_IM q_J0, 34, 31630)) rfl rfl ?_ ?_
                · refine q_Ca_of (Nat.le_of_ble_eq_true rfl) ?_
                  refine q_Ru_seg (g2 := (15, [(0, .int 3853), (1, .int 0), (2, .int 4095)], [.int 1], (q_cM q_AM q_IM q_J0, 34, 31630))) 8 (fun _ _ => rfl) ?_
                  exact q_Ru_ret rfl rfl
                show q_Ru _ _ _ (8, [(0, .int 3853)], [.int 1], (q_cM q_AM q_IM q_J0, 34, 31630)) _
                refine q_Ru_seg (g2 := (16, [(0, .int 3853)], [.int 0], (q_cM q_AM q_IM q_J0, 34, 31630))) 2 (fun _ _ => rfl) ?_
                exact q_Ru_ret rfl rfl
              show q_Ru _ _ _ (5, [(0, .ref 64), (1, .int 3853)], [.int 0, .ref 64], (q_cM q_AM q_IM q_J0, 34, 31630)) _
              refine q_Ru_seg (g2 := (13, [(0, .ref 64), (1, .int 3853)], [.int 0, .ref 64], (q_cM q_AM q_IM q_J0, 34, 31630))) 2 (fun _ _ => rfl) ?_
              refine q_Ru_call (v := (some (.int 0))) (h2 := (q_cM q_AM (q_uI q_IM 0 39 0) q_J0, 34, 31630)) rfl rfl ?_ ?_
              · refine q_Ca_of (Nat.le_of_ble_eq_true rfl) ?_
                refine q_Ru_seg (g2 := (14, [(0, .ref 64), (1, .int 0)], [.int 0], (q_cM q_AM (q_uI q_IM 0 39 0) q_J0, 34, 31630))) 6 (fun _ _ => rfl) ?_
                exact q_Ru_ret rfl rfl
              show q_Ru _ _ _ (16, [(0, .ref 64), (1, .int 3853)], [.int 0], (q_cM q_AM (q_uI q_IM 0 39 0) q_J0, 34, 31630)) _
              refine q_Ru_seg (g2 := (25, [(0, .ref 64), (1, .int 3853)], [.int 3853, .ref 64], (q_cM q_AM (q_uI q_IM 0 39 0) q_J0, 34, 31630))) 3 (fun _ _ => rfl) ?_
              refine q_Ru_call (v := (some (.int 0))) (h2 := (q_cM q_AM (q_uI q_IM 0 39 0) q_J0, 34, 31630)) rfl rfl ?_ ?_
              · refine q_Ca_of (Nat.le_of_ble_eq_true rfl) ?_
                refine q_Ru_seg (g2 := (7, [(0, .ref 64), (1, .int 3853)], [.int 3887, .int 3840, .int 3853], (q_cM q_AM (q_uI q_IM 0 39 0) q_J0, 34, 31630))) 3 (fun _ _ => rfl) ?_
                refine q_Ru_call (v := (some (.int 1))) (h2 := (q_cM q_AM (q_uI q_IM 0 39 0) q_J0, 34, 31630)) rfl rfl ?_ ?_
                · refine q_Ca_of (Nat.le_of_ble_eq_true rfl) ?_
                  refine q_Ru_seg (g2 := (15, [(0, .int 3853), (1, .int 3840), (2, .int 3887)], [.int 1], (q_cM q_AM (q_uI q_IM 0 39 0) q_J0, 34, 31630))) 8 (fun _ _ => rfl) ?_
                  exact q_Ru_ret rfl rfl
                show q_Ru _ _ _ (10, [(0, .ref 64), (1, .int 3853)], [.int 1], (q_cM q_AM (q_uI q_IM 0 39 0) q_J0, 34, 31630)) _
                refine q_Ru_seg (g2 := (19, [(0, .ref 64), (1, .int 3853)], [.int 13, .ref 64], (q_cM q_AM (q_uI q_IM 0 39 0) q_J0, 34, 31630))) 5 (fun _ _ => rfl) ?_
                refine q_Ru_call (v := (some (.int 0))) (h2 := (q_cM q_AM (q_uI q_IM 0 39 0) q_J0, 34, 31630)) rfl rfl ?_ ?_
                · refine q_Ca_of (Nat.le_of_ble_eq_true rfl) ?_
                  refine q_Ru_seg (g2 := (30, [(0, .ref 64), (1, .int 13)], [.int 15, .int 12, .int 13], (q_cM q_AM (q_uI q_IM 0 39 0) q_J0, 34, 31630))) 9 (fun _ _ => rfl) ?_
                  refine q_Ru_call (v := (some (.int 1))) (h2 := (q_cM q_AM (q_uI q_IM 0 39 0) q_J0, 34, 31630)) rfl rfl ?_ ?_
                  · refine q_Ca_of (Nat.le_of_ble_eq_true rfl) ?_
                    refine q_Ru_seg (g2 := (15, [(0, .int 13), (1, .int 12), (2, .int 15)], [.int 1], (q_cM q_AM (q_uI q_IM 0 39 0) q_J0, 34, 31630))) 8 (fun _ _ => rfl) ?_
                    exact q_Ru_ret rfl rfl
                  show q_Ru _ _ _ (33, [(0, .ref 64), (1, .int 13)], [.int 1], (q_cM q_AM (q_uI q_IM 0 39 0) q_J0, 34, 31630)) _
                  refine q_Ru_seg (g2 := (79, [(0, .ref 64), (1, .int 13)], [.int 0], (q_cM q_AM (q_uI q_IM 0 39 0) q_J0, 34, 31630))) 19 (fun _ _ => rfl) ?_
                  exact q_Ru_ret rfl rfl
                show q_Ru _ _ _ (22, [(0, .ref 64), (1, .int 3853)], [.int 0], (q_cM q_AM (q_uI q_IM 0 39 0) q_J0, 34, 31630)) _
                exact q_Ru_ret rfl rfl
              show q_Ru _ _ _ (28, [(0, .ref 64), (1, .int 3853)], [.int 0], (q_cM q_AM (q_uI q_IM 0 39 0) q_J0, 34, 31630)) _
              exact q_Ru_ret rfl rfl
          | 14, _, e222 =>
            have e222 : a = 3854 := e222
            subst e222
            refine ⟨0, 0, 0, ⟨(q_cX q_AX q_IX (q_uA q_J0 39 (vp_updL (fun _ => 0) 0 0)), 40, 26520), (q_uA q_J0 39 (vp_updL (fun _ => 0) 0 0)) 39, ?_, rfl, fun _ => rfl, Nat.le_of_ble_eq_true rfl, Nat.le_of_ble_eq_true rfl⟩, ⟨(q_cM q_AM (q_uI q_IM 0 39 0) q_J0, 34, 31630), _, ?_, rfl, rfl, Nat.le_of_ble_eq_true rfl, Nat.le_of_ble_eq_true rfl⟩, fun _ => rfl⟩
            · refine q_Ca_of (Nat.le_of_ble_eq_true rfl) ?_
              refine q_Ru_seg (g2 := (4, [(0, .ref 64), (1, .int 3854), (2, .ref 103)], [.int 3854, .ref 64, .int 0, .ref 103], (q_cX q_AX q_IX q_J0, 40, 26520))) 4 (fun _ _ => rfl) ?_
              refine q_Ru_call (v := (some (.int 0))) (h2 := (q_cX q_AX q_IX q_J0, 40, 26520)) rfl rfl ?_ ?_
              · refine q_Ca_of (Nat.le_of_ble_eq_true rfl) ?_
                refine q_Ru_seg (g2 := (1, [(0, .ref 64), (1, .int 3854)], [.int 3854], (q_cX q_AX q_IX q_J0, 40, 26520))) 1 (fun _ _ => rfl) ?_
                refine q_Ru_call (v := none) (h2 := (q_cX q_AX q_IX q_J0, 40, 26520)) rfl rfl ?_ ?_
                · refine q_Ca_of (Nat.le_of_ble_eq_true rfl) ?_
                  refine q_Ru_seg (g2 := (4, [(0, .int 3854)], [.int 4096, .int 3854], (q_cX q_AX q_IX q_J0, 40, 26520))) 2 (fun _ _ => rfl) ?_
                  refine q_Ru_call (v := none) (h2 := (q_cX q_AX q_IX q_J0, 40, 26520)) rfl rfl ?_ ?_
                  · refine q_Ca_of (Nat.le_of_ble_eq_true rfl) ?_
                    refine q_Ru_seg (g2 := (19, [(0, .int 3854), (1, .int 4096)], [], (q_cX q_AX q_IX q_J0, 40, 26520))) 5 (fun _ _ => rfl) ?_
                    exact q_Ru_ret rfl rfl
                  show q_Ru _ _ _ (7, [(0, .int 3854)], [], (q_cX q_AX q_IX q_J0, 40, 26520)) _
                  exact q_Ru_ret rfl rfl
                show q_Ru _ _ _ (4, [(0, .ref 64), (1, .int 3854)], [], (q_cX q_AX q_IX q_J0, 40, 26520)) _
                refine q_Ru_seg (g2 := (12, [(0, .ref 64), (1, .int 3854)], [.int 3854, .ref 66], (q_cX q_AX q_IX q_J0, 40, 26520))) 4 (fun _ _ => rfl) ?_
                refine q_Ru_call (v := (some (.int 0))) (h2 := (q_cX q_AX q_IX q_J0, 40, 26520)) rfl rfl ?_ ?_
                · refine q_Ca_of (Nat.le_of_ble_eq_true rfl) ?_
                  refine q_Ru_seg (g2 := (27, [(2, .int 14), (0, .ref 66), (1, .int 3854)], [.int 0, .int 14, .ref 66], (q_cX q_AX q_IX q_J0, 40, 26520))) 16 (fun _ _ => rfl) ?_
                  refine q_Ru_call (v := (some (.int 0))) (h2 := (q_cX q_AX q_IX q_J0, 40, 26520)) rfl rfl ?_ ?_
                  · refine q_Ca_of (Nat.le_of_ble_eq_true rfl) ?_
                    refine q_Ru_seg (g2 := (112, [(0, .ref 66), (1, .int 14), (2, .int 0)], [.int 0], (q_cX q_AX q_IX q_J0, 40, 26520))) 8 (fun _ _ => rfl) ?_
                    exact q_Ru_ret rfl rfl
                  show q_Ru _ _ _ (30, [(2, .int 14), (0, .ref 66), (1, .int 3854)], [.int 0], (q_cX q_AX q_IX q_J0, 40, 26520)) _
                  exact q_Ru_ret rfl rfl
                show q_Ru _ _ _ (15, [(0, .ref 64), (1, .int 3854)], [.int 0], (q_cX q_AX q_IX q_J0, 40, 26520)) _
                exact q_Ru_ret rfl rfl
              show q_Ru _ _ _ (7, [(0, .ref 64), (1, .int 3854), (2, .ref 103)], [.int 0, .int 0, .ref 103], (q_cX q_AX q_IX q_J0, 40, 26520)) _
              refine q_Ru_seg (g2 := (16, [(0, .ref 64), (1, .int 3854), (2, .ref 103)], [.int 0], (q_cX q_AX q_IX (q_uA q_J0 39 (vp_updL (fun _ => 0) 0 0)), 40, 26520))) 4 (fun _ _ => rfl) ?_
              exact q_Ru_ret rfl rfl
            · refine q_Ca_of (Nat.le_of_ble_eq_true rfl) ?_
              refine q_Ru_seg (g2 := (2, [(0, .ref 64), (1, .int 3854)], [.int 3854, .ref 64], (q_cM q_AM q_IM q_J0, 34, 31630))) 2 (fun _ _ => rfl) ?_
              refine q_Ru_call (v := (some (.int 0))) (h2 := (q_cM q_AM q_IM q_J0, 34, 31630)) rfl rfl ?_ ?_
              · refine q_Ca_of (Nat.le_of_ble_eq_true rfl) ?_
                refine q_Ru_seg (g2 := (5, [(0, .int 3854)], [.int 4095, .int 0, .int 3854], (q_cM q_AM q_IM q_J0, 34, 31630))) 3 (fun _ _ => rfl) ?_
                refine q_Ru_call (v := (some (.int 1))) (h2 := (q_cM q_AM q_IM q_J0, 34, 31630)) rfl rfl ?_ ?_
                · refine q_Ca_of (Nat.le_of_ble_eq_true rfl) ?_
                  refine q_Ru_seg (g2 := (15, [(0, .int 3854), (1, .int 0), (2, .int 4095)], [.int 1], (q_cM q_AM q_IM q_J0, 34, 31630))) 8 (fun _ _ => rfl) ?_
                  exact q_Ru_ret rfl rfl
                show q_Ru _ _ _ (8, [(0, .int 3854)], [.int 1], (q_cM q_AM q_IM q_J0, 34, 31630)) _
                refine q_Ru_seg (g2 := (16, [(0, .int 3854)], [.int 0], (q_cM q_AM q_IM q_J0, 34, 31630))) 2 (fun _ _ => rfl) ?_
                exact q_Ru_ret rfl rfl
              show q_Ru _ _ _ (5, [(0, .ref 64), (1, .int 3854)], [.int 0, .ref 64], (q_cM q_AM q_IM q_J0, 34, 31630)) _
              refine q_Ru_seg (g2 := (13, [(0, .ref 64), (1, .int 3854)], [.int 0, .ref 64], (q_cM q_AM q_IM q_J0, 34, 31630))) 2 (fun _ _ => rfl) ?_
              refine q_Ru_call (v := (some (.int 0))) (h2 := (q_cM q_AM (q_uI q_IM 0 39 0) q_J0, 34, 31630)) rfl rfl ?_ ?_
              · refine q_Ca_of (Nat.le_of_ble_eq_true rfl) ?_
                refine q_Ru_seg (g2 := (14, [(0, .ref 64), (1, .int 0)], [.int 0], (q_cM q_AM (q_uI q_IM 0 39 0) q_J0, 34, 31630))) 6 (fun _ _ => rfl) ?_
                exact q_Ru_ret rfl rfl
              show q_Ru _ _ _ (16, [(0, .ref 64), (1, .int 3854)], [.int 0], (q_cM q_AM (q_uI q_IM 0 39 0) q_J0, 34, 31630)) _
              refine q_Ru_seg (g2 := (25, [(0, .ref 64), (1, .int 3854)], [.int 3854, .ref 64], (q_cM q_AM (q_uI q_IM 0 39 0) q_J0, 34, 31630))) 3 (fun _ _ => rfl) ?_
              refine q_Ru_call (v := (some (.int 0))) (h2 := (q_cM q_AM (q_uI q_IM 0 39 0) q_J0, 34, 31630)) rfl rfl ?_ ?_
              · refine q_Ca_of (Nat.le_of_ble_eq_true rfl) ?_
                refine q_Ru_seg (g2 := (7, [(0, .ref 64), (1, .int 3854)], [.int 3887, .int 3840, .int 3854], (q_cM q_AM (q_uI q_IM 0 39 0) q_J0, 34, 31630))) 3 (fun _ _ => rfl) ?_
                refine q_Ru_call (v := (some (.int 1))) (h2 := (q_cM q_AM (q_uI q_IM 0 39 0) q_J0, 34, 31630)) rfl rfl ?_ ?_
                · refine q_Ca_of (Nat.le_of_ble_eq_true rfl) ?_
                  refine q_Ru_seg (g2 := (15, [(0, .int 3854), (1, .int 3840), (2, .int 3887)], [.int 1], (q_cM q_AM (q_uI q_IM 0 39 0) q_J0, 34, 31630))) 8 (fun _ _ => rfl) ?_
                  exact q_Ru_ret rfl rfl
                show q_Ru _ _ _ (10, [(0, .ref 64), (1, .int 3854)], [.int 1], (q_cM q_AM (q_uI q_IM 0 39 0) q_J0, 34, 31630)) _
                refine q_Ru_seg (g2 := (19, [(0, .ref 64), (1, .int 3854)], [.int 14, .ref 64], (q_cM q_AM (q_uI q_IM 0 39 0) q_J0, 34, 31630))) 5 (fun _ _ => rfl) ?_
                refine q_Ru_call (v := (some (.int 0))) (h2 := (q_cM q_AM (q_uI q_IM 0 39 0) q_J0, 34, 31630)) rfl rfl ?_ ?_
                · refine q_Ca_of (Nat.le_of_ble_eq_true rfl) ?_
                  refine q_Ru_seg (g2 := (30, [(0, .ref 64), (1, .int 14)], [.int 15, .int 12, .int 14], (q_cM q_AM (q_uI q_IM 0 39 0) q_J0, 34, 31630))) 9 (fun _ _ => rfl) ?_
                  refine q_Ru_call (v := (some (.int 1))) (h2 := (q_cM q_AM (q_uI q_IM 0 39 0) q_J0, 34, 31630)) rfl rfl ?_ ?_
                  · refine q_Ca_of (Nat.le_of_ble_eq_true rfl) ?_
                    refine q_Ru_seg (g2 := (15, [(0, .int 14), (1, .int 12), (2, .int 15)], [.int 1], (q_cM q_AM (q_uI q_IM 0 39 0) q_J0, 34, 31630))) 8 (fun _ _ => rfl) ?_
                    exact q_Ru_ret rfl rfl
                  show q_Ru _ _ _ (33, [(0, .ref 64), (1, .int 14)], [.int 1], (q_cM q_AM (q_uI q_IM 0 39 0) q_J0, 34, 31630)) _
                  refine q_Ru_seg (g2 := (79, [(0, .ref 64), (1, .int 14)], [.int 0], (q_cM q_AM (q_uI q_IM 0 39 0) q_J0, 34, 31630))) 18 (fun _ _ => rfl) ?_
                  exact q_Ru_ret rfl rfl
                show q_Ru _ _ _ (22, [(0, .ref 64), (1, .int 3854)], [.int 0], (q_cM q_AM (q_uI q_IM 0 39 0) q_J0, 34, 31630)) _
                exact q_Ru_ret rfl rfl
              show q_Ru _ _ _ (28, [(0, .ref 64), (1, .int 3854)], [.int 0], (q_cM q_AM (q_uI q_IM 0 39 0) q_J0, 34, 31630)) _
              exact q_Ru_ret rfl rfl
          | 15, _, e222 =>
            have e222 : a = 3855 := e222
            subst e222
            refine ⟨0, 0, 0, ⟨(q_cX q_AX q_IX (q_uA q_J0 39 (vp_updL (fun _ => 0) 0 0)), 40, 26520), (q_uA q_J0 39 (vp_updL (fun _ => 0) 0 0)) 39, ?_, rfl, fun _ => rfl, Nat.le_of_ble_eq_true rfl, Nat.le_of_ble_eq_true rfl⟩, ⟨(q_cM q_AM (q_uI q_IM 0 39 0) q_J0, 34, 31630), _, ?_, rfl, rfl, Nat.le_of_ble_eq_true rfl, Nat.le_of_ble_eq_true rfl⟩, fun _ => rfl⟩
            · refine q_Ca_of (Nat.le_of_ble_eq_true rfl) ?_
              refine q_Ru_seg (g2 := (4, [(0, .ref 64), (1, .int 3855), (2, .ref 103)], [.int 3855, .ref 64, .int 0, .ref 103], (q_cX q_AX q_IX q_J0, 40, 26520))) 4 (fun _ _ => rfl) ?_
              refine q_Ru_call (v := (some (.int 0))) (h2 := (q_cX q_AX q_IX q_J0, 40, 26520)) rfl rfl ?_ ?_
              · refine q_Ca_of (Nat.le_of_ble_eq_true rfl) ?_
                refine q_Ru_seg (g2 := (1, [(0, .ref 64), (1, .int 3855)], [.int 3855], (q_cX q_AX q_IX q_J0, 40, 26520))) 1 (fun _ _ => rfl) ?_
                refine q_Ru_call (v := none) (h2 := (q_cX q_AX q_IX q_J0, 40, 26520)) rfl rfl ?_ ?_
                · refine q_Ca_of (Nat.le_of_ble_eq_true rfl) ?_
                  refine q_Ru_seg (g2 := (4, [(0, .int 3855)], [.int 4096, .int 3855], (q_cX q_AX q_IX q_J0, 40, 26520))) 2 (fun _ _ => rfl) ?_
                  refine q_Ru_call (v := none) (h2 := (q_cX q_AX q_IX q_J0, 40, 26520)) rfl rfl ?_ ?_
                  · refine q_Ca_of (Nat.le_of_ble_eq_true rfl) ?_
                    refine q_Ru_seg (g2 := (19, [(0, .int 3855), (1, .int 4096)], [], (q_cX q_AX q_IX q_J0, 40, 26520))) 5 (fun _ _ => rfl) ?_
                    exact q_Ru_ret rfl rfl
                  show q_Ru _ _ _ (7, [(0, .int 3855)], [], (q_cX q_AX q_IX q_J0, 40, 26520)) _
                  exact q_Ru_ret rfl rfl
                show q_Ru _ _ _ (4, [(0, .ref 64), (1, .int 3855)], [], (q_cX q_AX q_IX q_J0, 40, 26520)) _
                refine q_Ru_seg (g2 := (12, [(0, .ref 64), (1, .int 3855)], [.int 3855, .ref 66], (q_cX q_AX q_IX q_J0, 40, 26520))) 4 (fun _ _ => rfl) ?_
                refine q_Ru_call (v := (some (.int 0))) (h2 := (q_cX q_AX q_IX q_J0, 40, 26520)) rfl rfl ?_ ?_
                · refine q_Ca_of (Nat.le_of_ble_eq_true rfl) ?_
                  refine q_Ru_seg (g2 := (27, [(2, .int 15), (0, .ref 66), (1, .int 3855)], [.int 0, .int 15, .ref 66], (q_cX q_AX q_IX q_J0, 40, 26520))) 16 (fun _ _ => rfl) ?_
                  refine q_Ru_call (v := (some (.int 0))) (h2 := (q_cX q_AX q_IX q_J0, 40, 26520)) rfl rfl ?_ ?_
                  · refine q_Ca_of (Nat.le_of_ble_eq_true rfl) ?_
                    refine q_Ru_seg (g2 := (122, [(0, .ref 66), (1, .int 15), (2, .int 0)], [.int 0], (q_cX q_AX q_IX q_J0, 40, 26520))) 8 (fun _ _ => rfl) ?_
                    exact q_Ru_ret rfl rfl
                  show q_Ru _ _ _ (30, [(2, .int 15), (0, .ref 66), (1, .int 3855)], [.int 0], (q_cX q_AX q_IX q_J0, 40, 26520)) _
                  exact q_Ru_ret rfl rfl
                show q_Ru _ _ _ (15, [(0, .ref 64), (1, .int 3855)], [.int 0], (q_cX q_AX q_IX q_J0, 40, 26520)) _
                exact q_Ru_ret rfl rfl
              show q_Ru _ _ _ (7, [(0, .ref 64), (1, .int 3855), (2, .ref 103)], [.int 0, .int 0, .ref 103], (q_cX q_AX q_IX q_J0, 40, 26520)) _
              refine q_Ru_seg (g2 := (16, [(0, .ref 64), (1, .int 3855), (2, .ref 103)], [.int 0], (q_cX q_AX q_IX (q_uA q_J0 39 (vp_updL (fun _ => 0) 0 0)), 40, 26520))) 4 (fun _ _ => rfl) ?_
              exact q_Ru_ret rfl rfl
            · refine q_Ca_of (Nat.le_of_ble_eq_true rfl) ?_
              refine q_Ru_seg (g2 := (2, [(0, .ref 64), (1, .int 3855)], [.int 3855, .ref 64], (q_cM q_AM q_IM q_J0, 34, 31630))) 2 (fun _ _ => rfl) ?_
              refine q_Ru_call (v := (some (.int 0))) (h2 := (q_cM q_AM q_IM q_J0, 34, 31630)) rfl rfl ?_ ?_
              · refine q_Ca_of (Nat.le_of_ble_eq_true rfl) ?_
                refine q_Ru_seg (g2 := (5, [(0, .int 3855)], [.int 4095, .int 0, .int 3855], (q_cM q_AM q_IM q_J0, 34, 31630))) 3 (fun _ _ => rfl) ?_
                refine q_Ru_call (v := (some (.int 1))) (h2 := (q_cM q_AM q_IM q_J0, 34, 31630)) rfl rfl ?_ ?_
                · refine q_Ca_of (Nat.le_of_ble_eq_true rfl) ?_
                  refine q_Ru_seg (g2 := (15, [(0, .int 3855), (1, .int 0), (2, .int 4095)], [.int 1], (q_cM q_AM q_IM q_J0, 34, 31630))) 8 (fun _ _ => rfl) ?_
                  exact q_Ru_ret rfl rfl
                show q_Ru _ _ _ (8, [(0, .int 3855)], [.int 1], (q_cM q_AM q_IM q_J0, 34, 31630)) _
                refine q_Ru_seg (g2 := (16, [(0, .int 3855)], [.int 0], (q_cM q_AM q_IM q_J0, 34, 31630))) 2 (fun _ _ => rfl) ?_
                exact q_Ru_ret rfl rfl
              show q_Ru _ _ _ (5, [(0, .ref 64), (1, .int 3855)], [.int 0, .ref 64], (q_cM q_AM q_IM q_J0, 34, 31630)) _
              refine q_Ru_seg (g2 := (13, [(0, .ref 64), (1, .int 3855)], [.int 0, .ref 64], (q_cM q_AM q_IM q_J0, 34, 31630))) 2 (fun _ _ => rfl) ?_
              refine q_Ru_call (v := (some (.int 0))) (h2 := (q_cM q_AM (q_uI q_IM 0 39 0) q_J0, 34, 31630)) rfl rfl ?_ ?_
              · refine q_Ca_of (Nat.le_of_ble_eq_true rfl) ?_
                refine q_Ru_seg (g2 := (14, [(0, .ref 64), (1, .int 0)], [.int 0], (q_cM q_AM (q_uI q_IM 0 39 0) q_J0, 34, 31630))) 6 (fun _ _ => rfl) ?_
                exact q_Ru_ret rfl rfl
              show q_Ru _ _ _ (16, [(0, .ref 64), (1, .int 3855)], [.int 0], (q_cM q_AM (q_uI q_IM 0 39 0) q_J0, 34, 31630)) _
              refine q_Ru_seg (g2 := (25, [(0, .ref 64), (1, .int 3855)], [.int 3855, .ref 64], (q_cM q_AM (q_uI q_IM 0 39 0) q_J0, 34, 31630))) 3 (fun _ _ => rfl) ?_
              refine q_Ru_call (v := (some (.int 0))) (h2 := (q_cM q_AM (q_uI q_IM 0 39 0) q_J0, 34, 31630)) rfl rfl ?_ ?_
              · refine q_Ca_of (Nat.le_of_ble_eq_true rfl) ?_
                refine q_Ru_seg (g2 := (7, [(0, .ref 64), (1, .int 3855)], [.int 3887, .int 3840, .int 3855], (q_cM q_AM (q_uI q_IM 0 39 0) q_J0, 34, 31630))) 3 (fun _ _ => rfl) ?_
                refine q_Ru_call (v := (some (.int 1))) (h2 := (q_cM q_AM (q_uI q_IM 0 39 0) q_J0, 34, 31630)) rfl rfl ?_ ?_
                · refine q_Ca_of (Nat.le_of_ble_eq_true rfl) ?_
                  refine q_Ru_seg (g2 := (15, [(0, .int 3855), (1, .int 3840), (2, .int 3887)], [.int 1], (q_cM q_AM (q_uI q_IM 0 39 0) q_J0, 34, 31630))) 8 (fun _ _ => rfl) ?_
                  exact q_Ru_ret rfl rfl
                show q_Ru _ _ _ (10, [(0, .ref 64), (1, .int 3855)], [.int 1], (q_cM q_AM (q_uI q_IM 0 39 0) q_J0, 34, 31630)) _
                refine q_Ru_seg (g2 := (19, [(0, .ref 64), (1, .int 3855)], [.int 15, .ref 64], (q_cM q_AM (q_uI q_IM 0 39 0) q_J0, 34, 31630))) 5 (fun _ _ => rfl) ?_
                refine q_Ru_call (v := (some (.int 0))) (h2 := (q_cM q_AM (q_uI q_IM 0 39 0) q_J0, 34, 31630)) rfl rfl ?_ ?_
                · refine q_Ca_of (Nat.le_of_ble_eq_true rfl) ?_
                  refine q_Ru_seg (g2 := (30, [(0, .ref 64), (1, .int 15)], [.int 15, .int 12, .int 15], (q_cM q_AM (q_uI q_IM 0 39 0) q_J0, 34, 31630))) 9 (fun _ _ => rfl) ?_
                  refine q_Ru_call (v := (some (.int 1))) (h2 := (q_cM q_AM (q_uI q_IM 0 39 0) q_J0, 34, 31630)) rfl rfl ?_ ?_
                  · refine q_Ca_of (Nat.le_of_ble_eq_true rfl) ?_
                    refine q_Ru_seg (g2 := (15, [(0, .int 15), (1, .int 12), (2, .int 15)], [.int 1], (q_cM q_AM (q_uI q_IM 0 39 0) q_J0, 34, 31630))) 8 (fun _ _ => rfl) ?_
                    exact q_Ru_ret rfl rfl
                  show q_Ru _ _ _ (33, [(0, .ref 64), (1, .int 15)], [.int 1], (q_cM q_AM (q_uI q_IM 0 39 0) q_J0, 34, 31630)) _
                  refine q_Ru_seg (g2 := (79, [(0, .ref 64), (1, .int 15)], [.int 0], (q_cM q_AM (q_uI q_IM 0 39 0) q_J0, 34, 31630))) 19 (fun _ _ => rfl) ?_
                  exact q_Ru_ret rfl rfl
                show q_Ru _ _ _ (22, [(0, .ref 64), (1, .int 3855)], [.int 0], (q_cM q_AM (q_uI q_IM 0 39 0) q_J0, 34, 31630)) _
                exact q_Ru_ret rfl rfl
              show q_Ru _ _ _ (28, [(0, .ref 64), (1, .int 3855)], [.int 0], (q_cM q_AM (q_uI q_IM 0 39 0) q_J0, 34, 31630)) _
              exact q_Ru_ret rfl rfl
          | 16, _, e222 =>
            have e222 : a = 3856 := e222
            subst e222
            refine ⟨0, 0, 0, ⟨(q_cX q_AX q_IX (q_uA q_J0 39 (vp_updL (fun _ => 0) 0 0)), 40, 26520), (q_uA q_J0 39 (vp_updL (fun _ => 0) 0 0)) 39, ?_, rfl, fun _ => rfl, Nat.le_of_ble_eq_true rfl, Nat.le_of_ble_eq_true rfl⟩, ⟨(q_cM q_AM (q_uI q_IM 0 39 0) q_J0, 34, 31630), _, ?_, rfl, rfl, Nat.le_of_ble_eq_true rfl, Nat.le_of_ble_eq_true rfl⟩, fun _ => rfl⟩
            · refine q_Ca_of (Nat.le_of_ble_eq_true rfl) ?_
              refine q_Ru_seg (g2 := (4, [(0, .ref 64), (1, .int 3856), (2, .ref 103)], [.int 3856, .ref 64, .int 0, .ref 103], (q_cX q_AX q_IX q_J0, 40, 26520))) 4 (fun _ _ => rfl) ?_
              refine q_Ru_call (v := (some (.int 0))) (h2 := (q_cX q_AX q_IX q_J0, 40, 26520)) rfl rfl ?_ ?_
              · refine q_Ca_of (Nat.le_of_ble_eq_true rfl) ?_
                refine q_Ru_seg (g2 := (1, [(0, .ref 64), (1, .int 3856)], [.int 3856], (q_cX q_AX q_IX q_J0, 40, 26520))) 1 (fun _ _ => rfl) ?_
                refine q_Ru_call (v := none) (h2 := (q_cX q_AX q_IX q_J0, 40, 26520)) rfl rfl ?_ ?_
                · refine q_Ca_of (Nat.le_of_ble_eq_true rfl) ?_
                  refine q_Ru_seg (g2 := (4, [(0, .int 3856)], [.int 4096, .int 3856], (q_cX q_AX q_IX q_J0, 40, 26520))) 2 (fun _ _ => rfl) ?_
                  refine q_Ru_call (v := none) (h2 := (q_cX q_AX q_IX q_J0, 40, 26520)) rfl rfl ?_ ?_
                  · refine q_Ca_of (Nat.le_of_ble_eq_true rfl) ?_
                    refine q_Ru_seg (g2 := (19, [(0, .int 3856), (1, .int 4096)], [], (q_cX q_AX q_IX q_J0, 40, 26520))) 5 (fun _ _ => rfl) ?_
                    exact q_Ru_ret rfl rfl
                  show q_Ru _ _ _ (7, [(0, .int 3856)], [], (q_cX q_AX q_IX q_J0, 40, 26520)) _
                  exact q_Ru_ret rfl rfl
                show q_Ru _ _ _ (4, [(0, .ref 64), (1, .int 3856)], [], (q_cX q_AX q_IX q_J0, 40, 26520)) _
                refine q_Ru_seg (g2 := (12, [(0, .ref 64), (1, .int 3856)], [.int 3856, .ref 66], (q_cX q_AX q_IX q_J0, 40, 26520))) 4 (fun _ _ => rfl) ?_
                refine q_Ru_call (v := (some (.int 0))) (h2 := (q_cX q_AX q_IX q_J0, 40, 26520)) rfl rfl ?_ ?_
                · refine q_Ca_of (Nat.le_of_ble_eq_true rfl) ?_
                  refine q_Ru_seg (g2 := (27, [(2, .int 16), (0, .ref 66), (1, .int 3856)], [.int 0, .int 16, .ref 66], (q_cX q_AX q_IX q_J0, 40, 26520))) 16 (fun _ _ => rfl) ?_
                  refine q_Ru_call (v := (some (.int 0))) (h2 := (q_cX q_AX q_IX q_J0, 40, 26520)) rfl rfl ?_ ?_
                  · refine q_Ca_of (Nat.le_of_ble_eq_true rfl) ?_
                    refine q_Ru_seg (g2 := (183, [(0, .ref 66), (1, .int 16), (2, .int 0)], [.int 0], (q_cX q_AX q_IX q_J0, 40, 26520))) 3 (fun _ _ => rfl) ?_
                    exact q_Ru_ret rfl rfl
                  show q_Ru _ _ _ (30, [(2, .int 16), (0, .ref 66), (1, .int 3856)], [.int 0], (q_cX q_AX q_IX q_J0, 40, 26520)) _
                  exact q_Ru_ret rfl rfl
                show q_Ru _ _ _ (15, [(0, .ref 64), (1, .int 3856)], [.int 0], (q_cX q_AX q_IX q_J0, 40, 26520)) _
                exact q_Ru_ret rfl rfl
              show q_Ru _ _ _ (7, [(0, .ref 64), (1, .int 3856), (2, .ref 103)], [.int 0, .int 0, .ref 103], (q_cX q_AX q_IX q_J0, 40, 26520)) _
              refine q_Ru_seg (g2 := (16, [(0, .ref 64), (1, .int 3856), (2, .ref 103)], [.int 0], (q_cX q_AX q_IX (q_uA q_J0 39 (vp_updL (fun _ => 0) 0 0)), 40, 26520))) 4 (fun _ _ => rfl) ?_
              exact q_Ru_ret rfl rfl
            · refine q_Ca_of (Nat.le_of_ble_eq_true rfl) ?_
              refine q_Ru_seg (g2 := (2, [(0, .ref 64), (1, .int 3856)], [.int 3856, .ref 64], (q_cM q_AM q_IM q_J0, 34, 31630))) 2 (fun _ _ => rfl) ?_
              refine q_Ru_call (v := (some (.int 0))) (h2 := (q_cM q_AM q_IM q_J0, 34, 31630)) rfl rfl ?_ ?_
              · refine q_Ca_of (Nat.le_of_ble_eq_true rfl) ?_
                refine q_Ru_seg (g2 := (5, [(0, .int 3856)], [.int 4095, .int 0, .int 3856], (q_cM q_AM q_IM q_J0, 34, 31630))) 3 (fun _ _ => rfl) ?_
                refine q_Ru_call (v := (some (.int 1))) (h2 := (q_cM q_AM q_IM q_J0, 34, 31630)) rfl rfl ?_ ?_
                · refine q_Ca_of (Nat.le_of_ble_eq_true rfl) ?_
                  refine q_Ru_seg (g2 := (15, [(0, .int 3856), (1, .int 0), (2, .int 4095)], [.int 1], (q_cM q_AM q_IM q_J0, 34, 31630))) 8 (fun _ _ => rfl) ?_
                  exact q_Ru_ret rfl rfl
                show q_Ru _ _ _ (8, [(0, .int 3856)], [.int 1], (q_cM q_AM q_IM q_J0, 34, 31630)) _
                refine q_Ru_seg (g2 := (16, [(0, .int 3856)], [.int 0], (q_cM q_AM q_IM q_J0, 34, 31630))) 2 (fun _ _ => rfl) ?_
                exact q_Ru_ret rfl rfl
              show q_Ru _ _ _ (5, [(0, .ref 64), (1, .int 3856)], [.int 0, .ref 64], (q_cM q_AM q_IM q_J0, 34, 31630)) _
              refine q_Ru_seg (g2 := (13, [(0, .ref 64), (1, .int 3856)], [.int 0, .ref 64], (q_cM q_AM q_IM q_J0, 34, 31630))) 2 (fun _ _ => rfl) ?_
              refine q_Ru_call (v := (some (.int 0))) (h2 := (q_cM q_AM (q_uI q_IM 0 39 0) q_J0, 34, 31630)) rfl rfl ?_ ?_
              · refine q_Ca_of (Nat.le_of_ble_eq_true rfl) ?_
                refine q_Ru_seg (g2 := (14, [(0, .ref 64), (1, .int 0)], [.int 0], (q_cM q_AM (q_uI q_IM 0 39 0) q_J0, 34, 31630))) 6 (fun _ _ => rfl) ?_
                exact q_Ru_ret rfl rfl
              show q_Ru _ _ _ (16, [(0, .ref 64), (1, .int 3856)], [.int 0], (q_cM q_AM (q_uI q_IM 0 39 0) q_J0, 34, 31630)) _
              refine q_Ru_seg (g2 := (25, [(0, .ref 64), (1, .int 3856)], [.int 3856, .ref 64], (q_cM q_AM (q_uI q_IM 0 39 0) q_J0, 34, 31630))) 3 (fun _ _ => rfl) ?_
              refine q_Ru_call (v := (some (.int 0))) (h2 := (q_cM q_AM (q_uI q_IM 0 39 0) q_J0, 34, 31630)) rfl rfl ?_ ?_
              · refine q_Ca_of (Nat.le_of_ble_eq_true rfl) ?_
                refine q_Ru_seg (g2 := (7, [(0, .ref 64), (1, .int 3856)], [.int 3887, .int 3840, .int 3856], (q_cM q_AM (q_uI q_IM 0 39 0) q_J0, 34, 31630))) 3 (fun _ _ => rfl) ?_
                refine q_Ru_call (v := (some (.int 1))) (h2 := (q_cM q_AM (q_uI q_IM 0 39 0) q_J0, 34, 31630)) rfl rfl ?_ ?_
                · refine q_Ca_of (Nat.le_of_ble_eq_true rfl) ?_
                  refine q_Ru_seg (g2 := (15, [(0, .int 3856), (1, .int 3840), (2, .int 3887)], [.int 1], (q_cM q_AM (q_uI q_IM 0 39 0) q_J0, 34, 31630))) 8 (fun _ _ => rfl) ?_
                  exact q_Ru_ret rfl rfl
                show q_Ru _ _ _ (10, [(0, .ref 64), (1, .int 3856)], [.int 1], (q_cM q_AM (q_uI q_IM 0 39 0) q_J0, 34, 31630)) _
                refine q_Ru_seg (g2 := (19, [(0, .ref 64), (1, .int 3856)], [.int 16, .ref 64], (q_cM q_AM (q_uI q_IM 0 39 0) q_J0, 34, 31630))) 5 (fun _ _ => rfl) ?_
                refine q_Ru_call (v := (some (.int 0))) (h2 := (q_cM q_AM (q_uI q_IM 0 39 0) q_J0, 34, 31630)) rfl rfl ?_ ?_
                · refine q_Ca_of (Nat.le_of_ble_eq_true rfl) ?_
                  refine q_Ru_seg (g2 := (30, [(0, .ref 64), (1, .int 16)], [.int 15, .int 12, .int 16], (q_cM q_AM (q_uI q_IM 0 39 0) q_J0, 34, 31630))) 9 (fun _ _ => rfl) ?_
                  refine q_Ru_call (v := (some (.int 0))) (h2 := (q_cM q_AM (q_uI q_IM 0 39 0) q_J0, 34, 31630)) rfl rfl ?_ ?_
                  · refine q_Ca_of (Nat.le_of_ble_eq_true rfl) ?_
                    refine q_Ru_seg (g2 := (15, [(0, .int 16), (1, .int 12), (2, .int 15)], [.int 0], (q_cM q_AM (q_uI q_IM 0 39 0) q_J0, 34, 31630))) 7 (fun _ _ => rfl) ?_
                    exact q_Ru_ret rfl rfl
                  show q_Ru _ _ _ (33, [(0, .ref 64), (1, .int 16)], [.int 0], (q_cM q_AM (q_uI q_IM 0 39 0) q_J0, 34, 31630)) _
                  refine q_Ru_seg (g2 := (190, [(0, .ref 64), (1, .int 16)], [.int 0], (q_cM q_AM (q_uI q_IM 0 39 0) q_J0, 34, 31630))) 20 (fun _ _ => rfl) ?_
                  exact q_Ru_ret rfl rfl
                show q_Ru _ _ _ (22, [(0, .ref 64), (1, .int 3856)], [.int 0], (q_cM q_AM (q_uI q_IM 0 39 0) q_J0, 34, 31630)) _
                exact q_Ru_ret rfl rfl
              show q_Ru _ _ _ (28, [(0, .ref 64), (1, .int 3856)], [.int 0], (q_cM q_AM (q_uI q_IM 0 39 0) q_J0, 34, 31630)) _
              exact q_Ru_ret rfl rfl
          | 17, _, e222 =>
            have e222 : a = 3857 := e222
            subst e222
            refine ⟨0, 0, 0, ⟨(q_cX q_AX q_IX (q_uA q_J0 39 (vp_updL (fun _ => 0) 0 0)), 40, 26520), (q_uA q_J0 39 (vp_updL (fun _ => 0) 0 0)) 39, ?_, rfl, fun _ => rfl, Nat.le_of_ble_eq_true rfl, Nat.le_of_ble_eq_true rfl⟩, ⟨(q_cM q_AM (q_uI q_IM 0 39 0) q_J0, 34, 31630), _, ?_, rfl, rfl, Nat.le_of_ble_eq_true rfl, Nat.le_of_ble_eq_true rfl⟩, fun _ => rfl⟩
            · refine q_Ca_of (Nat.le_of_ble_eq_true rfl) ?_
              refine q_Ru_seg (g2 := (4, [(0, .ref 64), (1, .int 3857), (2, .ref 103)], [.int 3857, .ref 64, .int 0, .ref 103], (q_cX q_AX q_IX q_J0, 40, 26520))) 4 (fun _ _ => rfl) ?_
              refine q_Ru_call (v := (some (.int 0))) (h2 := (q_cX q_AX q_IX q_J0, 40, 26520)) rfl rfl ?_ ?_
              · refine q_Ca_of (Nat.le_of_ble_eq_true rfl) ?_
                refine q_Ru_seg (g2 := (1, [(0, .ref 64), (1, .int 3857)], [.int 3857], (q_cX q_AX q_IX q_J0, 40, 26520))) 1 (fun _ _ => rfl) ?_
                refine q_Ru_call (v := none) (h2 := (q_cX q_AX q_IX q_J0, 40, 26520)) rfl rfl ?_ ?_
                · refine q_Ca_of (Nat.le_of_ble_eq_true rfl) ?_
                  refine q_Ru_seg (g2 := (4, [(0, .int 3857)], [.int 4096, .int 3857], (q_cX q_AX q_IX q_J0, 40, 26520))) 2 (fun _ _ => rfl) ?_
                  refine q_Ru_call (v := none) (h2 := (q_cX q_AX q_IX q_J0, 40, 26520)) rfl rfl ?_ ?_
                  · refine q_Ca_of (Nat.le_of_ble_eq_true rfl) ?_
                    refine q_Ru_seg (g2 := (19, [(0, .int 3857), (1, .int 4096)], [], (q_cX q_AX q_IX q_J0, 40, 26520))) 5 (fun _ _ => rfl) ?_
                    exact q_Ru_ret rfl rfl
                  show q_Ru _ _ _ (7, [(0, .int 3857)], [], (q_cX q_AX q_IX q_J0, 40, 26520)) _
                  exact q_Ru_ret rfl rfl
                show q_Ru _ _ _ (4, [(0, .ref 64), (1, .int 3857)], [], (q_cX q_AX q_IX q_J0, 40, 26520)) _
                refine q_Ru_seg (g2 := (12, [(0, .ref 64), (1, .int 3857)], [.int 3857, .ref 66], (q_cX q_AX q_IX q_J0, 40, 26520))) 4 (fun _ _ => rfl) ?_
                refine q_Ru_call (v := (some (.int 0))) (h2 := (q_cX q_AX q_IX q_J0, 40, 26520)) rfl rfl ?_ ?_
                · refine q_Ca_of (Nat.le_of_ble_eq_true rfl) ?_
                  refine q_Ru_seg (g2 := (27, [(2, .int 17), (0, .ref 66), (1, .int 3857)], [.int 0, .int 17, .ref 66], (q_cX q_AX q_IX q_J0, 40, 26520))) 16 (fun _ _ => rfl) ?_
                  refine q_Ru_call (v := (some (.int 0))) (h2 := (q_cX q_AX q_IX q_J0, 40, 26520)) rfl rfl ?_ ?_
                  · refine q_Ca_of (Nat.le_of_ble_eq_true rfl) ?_
                    refine q_Ru_seg (g2 := (183, [(0, .ref 66), (1, .int 17), (2, .int 0)], [.int 0], (q_cX q_AX q_IX q_J0, 40, 26520))) 3 (fun _ _ => rfl) ?_
                    exact q_Ru_ret rfl rfl
                  show q_Ru _ _ _ (30, [(2, .int 17), (0, .ref 66), (1, .int 3857)], [.int 0], (q_cX q_AX q_IX q_J0, 40, 26520)) _
                  exact q_Ru_ret rfl rfl
                show q_Ru _ _ _ (15, [(0, .ref 64), (1, .int 3857)], [.int 0], (q_cX q_AX q_IX q_J0, 40, 26520)) _
                exact q_Ru_ret rfl rfl
              show q_Ru _ _ _ (7, [(0, .ref 64), (1, .int 3857), (2, .ref 103)], [.int 0, .int 0, .ref 103], (q_cX q_AX q_IX q_J0, 40, 26520)) _
              refine q_Ru_seg (g2 := (16, [(0, .ref 64), (1, .int 3857), (2, .ref 103)], [.int 0], (q_cX q_AX q_IX (q_uA q_J0 39 (vp_updL (fun _ => 0) 0 0)), 40, 26520))) 4 (fun _ _ => rfl) ?_
              exact q_Ru_ret rfl rfl
            · refine q_Ca_of (Nat.le_of_ble_eq_true rfl) ?_
              refine q_Ru_seg (g2 := (2, [(0, .ref 64), (1, .int 3857)], [.int 3857, .ref 64], (q_cM q_AM q_IM q_J0, 34, 31630))) 2 (fun _ _ => rfl) ?_
              refine q_Ru_call (v := (some (.int 0))) (h2 := (q_cM q_AM q_IM q_J0, 34, 31630)) rfl rfl ?_ ?_
              · refine q_Ca_of (Nat.le_of_ble_eq_true rfl) ?_
                refine q_Ru_seg (g2 := (5, [(0, .int 3857)], [.int 4095, .int 0, .int 3857], (q_cM q_AM q_IM q_J0, 34, 31630))) 3 (fun _ _ => rfl) ?_
                refine q_Ru_call (v := (some (.int 1))) (h2 := (q_cM q_AM q_IM q_J0, 34, 31630)) rfl rfl ?_ ?_
                · refine q_Ca_of (Nat.le_of_ble_eq_true rfl) ?_
                  refine q_Ru_seg (g2 := (15, [(0, .int 3857), (1, .int 0), (2, .int 4095)], [.int 1], (q_cM q_AM q_IM q_J0, 34, 31630))) 8 (fun _ _ => rfl) ?_
                  exact q_Ru_ret rfl rfl
                show q_Ru _ _ _ (8, [(0, .int 3857)], [.int 1], (q_cM q_AM q_IM q_J0, 34, 31630)) _
                refine q_Ru_seg (g2 := (16, [(0, .int 3857)], [.int 0], (q_cM q_AM q_IM q_J0, 34, 31630))) 2 (fun _ _ => rfl) ?_
                exact q_Ru_ret rfl rfl
              show q_Ru _ _ _ (5, [(0, .ref 64), (1, .int 3857)], [.int 0, .ref 64], (q_cM q_AM q_IM q_J0, 34, 31630)) _
              refine q_Ru_seg (g2 := (13, [(0, .ref 64), (1, .int 3857)], [.int 0, .ref 64], (q_cM q_AM q_IM q_J0, 34, 31630))) 2 (fun _ _ => rfl) ?_
              refine q_Ru_call (v := (some (.int 0))) (h2 := (q_cM q_AM (q_uI q_IM 0 39 0) q_J0, 34, 31630)) rfl rfl ?_ ?_
              · refine q_Ca_of (Nat.le_of_ble_eq_true rfl) ?_
                refine q_Ru_seg (g2 := (14, [(0, .ref 64), (1, .int 0)], [.int 0], (q_cM q_AM (q_uI q_IM 0 39 0) q_J0, 34, 31630))) 6 (fun _ _ => rfl) ?_
                exact q_Ru_ret rfl rfl
              show q_Ru _ _ _ (16, [(0, .ref 64), (1, .int 3857)], [.int 0], (q_cM q_AM (q_uI q_IM 0 39 0) q_J0, 34, 31630)) _
              refine q_Ru_seg (g2 := (25, [(0, .ref 64), (1, .int 3857)], [.int 3857, .ref 64], (q_cM q_AM (q_uI q_IM 0 39 0) q_J0, 34, 31630))) 3 (fun _ _ => rfl) ?_
              refine q_Ru_call (v := (some (.int 0))) (h2 := (q_cM q_AM (q_uI q_IM 0 39 0) q_J0, 34, 31630)) rfl rfl ?_ ?_
              · refine q_Ca_of (Nat.le_of_ble_eq_true rfl) ?_
                refine q_Ru_seg (g2 := (7, [(0, .ref 64), (1, .int 3857)], [.int 3887, .int 3840, .int 3857], (q_cM q_AM (q_uI q_IM 0 39 0) q_J0, 34, 31630))) 3 (fun _ _ => rfl) ?_
                refine q_Ru_call (v := (some (.int 1))) (h2 := (q_cM q_AM (q_uI q_IM 0 39 0) q_J0, 34, 31630)) rfl rfl ?_ ?_
                · refine q_Ca_of (Nat.le_of_ble_eq_true rfl) ?_
                  refine q_Ru_seg (g2 := (15, [(0, .int 3857), (1, .int 3840), (2, .int 3887)], [.int 1], (q_cM q_AM (q_uI q_IM 0 39 0) q_J0, 34, 31630))) 8 (fun _ _ => rfl) ?_
                  exact q_Ru_ret rfl rfl
                show q_Ru _ _ _ (10, [(0, .ref 64), (1, .int 3857)], [.int 1], (q_cM q_AM (q_uI q_IM 0 39 0) q_J0, 34, 31630)) _
                refine q_Ru_seg (g2 := (19, [(0, .ref 64), (1, .int 3857)], [.int 17, .ref 64], (q_cM q_AM (q_uI q_IM 0 39 0) q_J0, 34, 31630))) 5 (fun _ _ => rfl) ?_
                refine q_Ru_call (v := (some (.int 0))) (h2 := (q_cM q_AM (q_uI q_IM 0 39 0) q_J0, 34, 31630)) rfl rfl ?_ ?_
                · refine q_Ca_of (Nat.le_of_ble_eq_true rfl) ?_
                  refine q_Ru_seg (g2 := (30, [(0, .ref 64), (1, .int 17)], [.int 15, .int 12, .int 17], (q_cM q_AM (q_uI q_IM 0 39 0) q_J0, 34, 31630))) 9 (fun _ _ => rfl) ?_
                  refine q_Ru_call (v := (some (.int 0))) (h2 := (q_cM q_AM (q_uI q_IM 0 39 0) q_J0, 34, 31630)) rfl rfl ?_ ?_
                  · refine q_Ca_of (Nat.le_of_ble_eq_true rfl) ?_
                    refine q_Ru_seg (g2 := (15, [(0, .int 17), (1, .int 12), (2, .int 15)], [.int 0], (q_cM q_AM (q_uI q_IM 0 39 0) q_J0, 34, 31630))) 7 (fun _ _ => rfl) ?_
                    exact q_Ru_ret rfl rfl
                  show q_Ru _ _ _ (33, [(0, .ref 64), (1, .int 17)], [.int 0], (q_cM q_AM (q_uI q_IM 0 39 0) q_J0, 34, 31630)) _
                  refine q_Ru_seg (g2 := (190, [(0, .ref 64), (1, .int 17)], [.int 0], (q_cM q_AM (q_uI q_IM 0 39 0) q_J0, 34, 31630))) 20 (fun _ _ => rfl) ?_
                  exact q_Ru_ret rfl rfl
                show q_Ru _ _ _ (22, [(0, .ref 64), (1, .int 3857)], [.int 0], (q_cM q_AM (q_uI q_IM 0 39 0) q_J0, 34, 31630)) _
                exact q_Ru_ret rfl rfl
              show q_Ru _ _ _ (28, [(0, .ref 64), (1, .int 3857)], [.int 0], (q_cM q_AM (q_uI q_IM 0 39 0) q_J0, 34, 31630)) _
              exact q_Ru_ret rfl rfl
          | 18, _, e222 =>
            have e222 : a = 3858 := e222
            subst e222
            refine ⟨0, 0, 0, ⟨(q_cX q_AX q_IX (q_uA q_J0 39 (vp_updL (fun _ => 0) 0 0)), 40, 26520), (q_uA q_J0 39 (vp_updL (fun _ => 0) 0 0)) 39, ?_, rfl, fun _ => rfl, Nat.le_of_ble_eq_true rfl, Nat.le_of_ble_eq_true rfl⟩, ⟨(q_cM q_AM (q_uI q_IM 0 39 0) q_J0, 34, 31630), _, ?_, rfl, rfl, Nat.le_of_ble_eq_true rfl, Nat.le_of_ble_eq_true rfl⟩, fun _ => rfl⟩
            · refine q_Ca_of (Nat.le_of_ble_eq_true rfl) ?_
              refine q_Ru_seg (g2 := (4, [(0, .ref 64), (1, .int 3858), (2, .ref 103)], [.int 3858, .ref 64, .int 0, .ref 103], (q_cX q_AX q_IX q_J0, 40, 26520))) 4 (fun _ _ => rfl) ?_
              refine q_Ru_call (v := (some (.int 0))) (h2 := (q_cX q_AX q_IX q_J0, 40, 26520)) rfl rfl ?_ ?_
              · refine q_Ca_of (Nat.le_of_ble_eq_true rfl) ?_
                refine q_Ru_seg (g2 := (1, [(0, .ref 64), (1, .int 3858)], [.int 3858], (q_cX q_AX q_IX q_J0, 40, 26520))) 1 (fun _ _ => rfl) ?_
                refine q_Ru_call (v := none) (h2 := (q_cX q_AX q_IX q_J0, 40, 26520)) rfl rfl ?_ ?_
                · refine q_Ca_of (Nat.le_of_ble_eq_true rfl) ?_
                  refine q_Ru_seg (g2 := (4, [(0, .int 3858)], [.int 4096, .int 3858], (q_cX q_AX q_IX q_J0, 40, 26520))) 2 (fun _ _ => rfl) ?_
                  refine q_Ru_call (v := none) (h2 := (q_cX q_AX q_IX q_J0, 40, 26520)) rfl rfl ?_ ?_
                  · refine q_Ca_of (Nat.le_of_ble_eq_true rfl) ?_
                    refine q_Ru_seg (g2 := (19, [(0, .int 3858), (1, .int 4096)], [], (q_cX q_AX q_IX q_J0, 40, 26520))) 5 (fun _ _ => rfl) ?_
                    exact q_Ru_ret rfl rfl
                  show q_Ru _ _ _ (7, [(0, .int 3858)], [], (q_cX q_AX q_IX q_J0, 40, 26520)) _
                  exact q_Ru_ret rfl rfl
                show q_Ru _ _ _ (4, [(0, .ref 64), (1, .int 3858)], [], (q_cX q_AX q_IX q_J0, 40, 26520)) _
                refine q_Ru_seg (g2 := (12, [(0, .ref 64), (1, .int 3858)], [.int 3858, .ref 66], (q_cX q_AX q_IX q_J0, 40, 26520))) 4 (fun _ _ => rfl) ?_
                refine q_Ru_call (v := (some (.int 0))) (h2 := (q_cX q_AX q_IX q_J0, 40, 26520)) rfl rfl ?_ ?_
                · refine q_Ca_of (Nat.le_of_ble_eq_true rfl) ?_
                  refine q_Ru_seg (g2 := (27, [(2, .int 18), (0, .ref 66), (1, .int 3858)], [.int 0, .int 18, .ref 66], (q_cX q_AX q_IX q_J0, 40, 26520))) 16 (fun _ _ => rfl) ?_
                  refine q_Ru_call (v := (some (.int 0))) (h2 := (q_cX q_AX q_IX q_J0, 40, 26520)) rfl rfl ?_ ?_
                  · refine q_Ca_of (Nat.le_of_ble_eq_true rfl) ?_
                    refine q_Ru_seg (g2 := (183, [(0, .ref 66), (1, .int 18), (2, .int 0)], [.int 0], (q_cX q_AX q_IX q_J0, 40, 26520))) 3 (fun _ _ => rfl) ?_
                    exact q_Ru_ret rfl rfl
                  show q_Ru _ _ _ (30, [(2, .int 18), (0, .ref 66), (1, .int 3858)], [.int 0], (q_cX q_AX q_IX q_J0, 40, 26520)) _
                  exact q_Ru_ret rfl rfl
                show q_Ru _ _ _ (15, [(0, .ref 64), (1, .int 3858)], [.int 0], (q_cX q_AX q_IX q_J0, 40, 26520)) _
                exact q_Ru_ret rfl rfl
              show q_Ru _ _ _ (7, [(0, .ref 64), (1, .int 3858), (2, .ref 103)], [.int 0, .int 0, .ref 103], (q_cX q_AX q_IX q_J0, 40, 26520)) _
              refine q_Ru_seg (g2 := (16, [(0, .ref 64), (1, .int 3858), (2, .ref 103)], [.int 0], (q_cX q_AX q_IX (q_uA q_J0 39 (vp_updL (fun _ => 0) 0 0)), 40, 26520))) 4 (fun _ _ => rfl) ?_
              exact q_Ru_ret rfl rfl
            · refine q_Ca_of (Nat.le_of_ble_eq_true rfl) ?_
              refine q_Ru_seg (g2 := (2, [(0, .ref 64), (1, .int 3858)], [.int 3858, .ref 64], (q_cM q_AM q_IM q_J0, 34, 31630))) 2 (fun _ _ => rfl) ?_
              refine q_Ru_call (v := (some (.int 0))) (h2 := (q_cM q_AM q_IM q_J0, 34, 31630)) rfl rfl ?_ ?_
              · refine q_Ca_of (Nat.le_of_ble_eq_true rfl) ?_
                refine q_Ru_seg (g2 := (5, [(0, .int 3858)], [.int 4095, .int 0, .int 3858], (q_cM q_AM q_IM q_J0, 34, 31630))) 3 (fun _ _ => rfl) ?_
                refine q_Ru_call (v := (some (.int 1))) (h2 := (q_cM q_AM q_IM q_J0, 34, 31630)) rfl rfl ?_ ?_
                · refine q_Ca_of (Nat.le_of_ble_eq_true rfl) ?_
                  refine q_Ru_seg (g2 := (15, [(0, .int 3858), (1, .int 0), (2, .int 4095)], [.int 1], (q_cM q_AM q_IM q_J0, 34, 31630))) 8 (fun _ _ => rfl) ?_
                  exact q_Ru_ret rfl rfl
                show q_Ru _ _ _ (8, [(0, .int 3858)], [.int 1], (q_cM q_AM q_IM q_J0, 34, 31630)) _
                refine q_Ru_seg (g2 := (16, [(0, .int 3858)], [.int 0], (q_cM q_AM q_IM q_J0, 34, 31630))) 2 (fun _ _ => rfl) ?_
                exact q_Ru_ret rfl rfl
              show q_Ru _ _ _ (5, [(0, .ref 64), (1, .int 3858)], [.int 0, .ref 64], (q_cM q_AM q_IM q_J0, 34, 31630)) _
              refine q_Ru_seg (g2 := (13, [(0, .ref 64), (1, .int 3858)], [.int 0, .ref 64], (q_cM q_AM q_IM q_J0, 34, 31630))) 2 (fun _ _ => rfl) ?_
              refine q_Ru_call (v := (some (.int 0))) (h2 := (q_cM q_AM (q_uI q_IM 0 39 0) q_J0, 34, 31630)) rfl rfl ?_ ?_
              · refine q_Ca_of (Nat.le_of_ble_eq_true rfl) ?_
                refine q_Ru_seg (g2 := (14, [(0, .ref 64), (1, .int 0)], [.int 0], (q_cM q_AM (q_uI q_IM 0 39 0) q_J0, 34, 31630))) 6 (fun _ _ => rfl) ?_
                exact q_Ru_ret rfl rfl
              show q_Ru _ _ _ (16, [(0, .ref 64), (1, .int 3858)], [.int 0], (q_cM q_AM (q_uI q_IM 0 39 0) q_J0, 34, 31630)) _
              refine q_Ru_seg (g2 := (25, [(0, .ref 64), (1, .int 3858)], [.int 3858, .ref 64], (q_cM q_AM (q_uI q_IM 0 39 0) q_J0, 34, 31630))) 3 (fun _ _ => rfl) ?_
              refine q_Ru_call (v := (some (.int 0))) (h2 := (q_cM q_AM (q_uI q_IM 0 39 0) q_J0, 34, 31630)) rfl rfl ?_ ?_
              · refine q_Ca_of (Nat.le_of_ble_eq_true rfl) ?_
                refine q_Ru_seg (g2 := (7, [(0, .ref 64), (1, .int 3858)], [.int 3887, .int 3840, .int 3858], (q_cM q_AM (q_uI q_IM 0 39 0) q_J0, 34, 31630))) 3 (fun _ _ => rfl) ?_
                refine q_Ru_call (v := (some (.int 1))) (h2 := (q_cM q_AM (q_uI q_IM 0 39 0) q_J0, 34, 31630)) rfl rfl ?_ ?_
                · refine q_Ca_of (Nat.le_of_ble_eq_true rfl) ?_
                  refine q_Ru_seg (g2 := (15, [(0, .int 3858), (1, .int 3840), (2, .int 3887)], [.int 1], (q_cM q_AM (q_uI q_IM 0 39 0) q_J0, 34, 31630))) 8 (fun _ _ => rfl) ?_
                  exact q_Ru_ret rfl rfl
                show q_Ru _ _ _ (10, [(0, .ref 64), (1, .int 3858)], [.int 1], (q_cM q_AM (q_uI q_IM 0 39 0) q_J0, 34, 31630)) _
                refine q_Ru_seg (g2 := (19, [(0, .ref 64), (1, .int 3858)], [.int 18, .ref 64], (q_cM q_AM (q_uI q_IM 0 39 0) q_J0, 34, 31630))) 5 (fun _ _ => rfl) ?_
                refine q_Ru_call (v := (some (.int 0))) (h2 := (q_cM q_AM (q_uI q_IM 0 39 0) q_J0, 34, 31630)) rfl rfl ?_ ?_
                · refine q_Ca_of (Nat.le_of_ble_eq_true rfl) ?_
                  refine q_Ru_seg (g2 := (30, [(0, .ref 64), (1, .int 18)], [.int 15, .int 12, .int 18], (q_cM q_AM (q_uI q_IM 0 39 0) q_J0, 34, 31630))) 9 (fun _ _ => rfl) ?_
                  refine q_Ru_call (v := (some (.int 0))) (h2 := (q_cM q_AM (q_uI q_IM 0 39 0) q_J0, 34, 31630)) rfl rfl ?_ ?_
                  · refine q_Ca_of (Nat.le_of_ble_eq_true rfl) ?_
                    refine q_Ru_seg (g2 := (15, [(0, .int 18), (1, .int 12), (2, .int 15)], [.int 0], (q_cM q_AM (q_uI q_IM 0 39 0) q_J0, 34, 31630))) 7 (fun _ _ => rfl) ?_
                    exact q_Ru_ret rfl rfl
                  show q_Ru _ _ _ (33, [(0, .ref 64), (1, .int 18)], [.int 0], (q_cM q_AM (q_uI q_IM 0 39 0) q_J0, 34, 31630)) _
                  refine q_Ru_seg (g2 := (190, [(0, .ref 64), (1, .int 18)], [.int 0], (q_cM q_AM (q_uI q_IM 0 39 0) q_J0, 34, 31630))) 20 (fun _ _ => rfl) ?_
                  exact q_Ru_ret rfl rfl
                show q_Ru _ _ _ (22, [(0, .ref 64), (1, .int 3858)], [.int 0], (q_cM q_AM (q_uI q_IM 0 39 0) q_J0, 34, 31630)) _
                exact q_Ru_ret rfl rfl
              show q_Ru _ _ _ (28, [(0, .ref 64), (1, .int 3858)], [.int 0], (q_cM q_AM (q_uI q_IM 0 39 0) q_J0, 34, 31630)) _
              exact q_Ru_ret rfl rfl
          | 19, _, e222 =>
            have e222 : a = 3859 := e222
            subst e222
            refine ⟨0, 0, 0, ⟨(q_cX q_AX q_IX (q_uA q_J0 39 (vp_updL (fun _ => 0) 0 0)), 40, 26520), (q_uA q_J0 39 (vp_updL (fun _ => 0) 0 0)) 39, ?_, rfl, fun _ => rfl, Nat.le_of_ble_eq_true rfl, Nat.le_of_ble_eq_true rfl⟩, ⟨(q_cM q_AM (q_uI q_IM 0 39 0) q_J0, 34, 31630), _, ?_, rfl, rfl, Nat.le_of_ble_eq_true rfl, Nat.le_of_ble_eq_true rfl⟩, fun _ => rfl⟩
            · refine q_Ca_of (Nat.le_of_ble_eq_true rfl) ?_
              refine q_Ru_seg (g2 := (4, [(0, .ref 64), (1, .int 3859), (2, .ref 103)], [.int 3859, .ref 64, .int 0, .ref 103], (q_cX q_AX q_IX q_J0, 40, 26520))) 4 (fun _ _ => rfl) ?_
              refine q_Ru_call (v := (some (.int 0))) (h2 := (q_cX q_AX q_IX q_J0, 40, 26520)) rfl rfl ?_ ?_
              · refine q_Ca_of (Nat.le_of_ble_eq_true rfl) ?_
                refine q_Ru_seg (g2 := (1, [(0, .ref 64), (1, .int 3859)], [.int 3859], (q_cX q_AX q_IX q_J0, 40, 26520))) 1 (fun _ _ => rfl) ?_
                refine q_Ru_call (v := none) (h2 := (q_cX q_AX q_IX q_J0, 40, 26520)) rfl rfl ?_ ?_
                · refine q_Ca_of (Nat.le_of_ble_eq_true rfl) ?_
                  refine q_Ru_seg (g2 := (4, [(0, .int 3859)], [.int 4096, .int 3859], (q_cX q_AX q_IX q_J0, 40, 26520))) 2 (fun _ _ => rfl) ?_
                  refine q_Ru_call (v := none) (h2 := (q_cX q_AX q_IX q_J0, 40, 26520)) rfl rfl ?_ ?_
                  · refine q_Ca_of (Nat.le_of_ble_eq_true rfl) ?_
                    refine q_Ru_seg (g2 := (19, [(0, .int 3859), (1, .int 4096)], [], (q_cX q_AX q_IX q_J0, 40, 26520))) 5 (fun _ _ => rfl) ?_
                    exact q_Ru_ret rfl rfl
                  show q_Ru _ _ _ (7, [(0, .int 3859)], [], (q_cX q_AX q_IX q_J0, 40, 26520)) _
                  exact q_Ru_ret rfl rfl
                show q_Ru _ _ _ (4, [(0, .ref 64), (1, .int 3859)], [], (q_cX q_AX q_IX q_J0, 40, 26520)) _
                refine q_Ru_seg (g2 := (12, [(0, .ref 64), (1, .int 3859)], [.int 3859, .ref 66], (q_cX q_AX q_IX q_J0, 40, 26520))) 4 (fun _ _ => rfl) ?_
                refine q_Ru_call (v := (some (.int 0))) (h2 := (q_cX q_AX q_IX q_J0, 40, 26520)) rfl rfl ?_ ?_
                · refine q_Ca_of (Nat.le_of_ble_eq_true rfl) ?_
                  refine q_Ru_seg (g2 := (27, [(2, .int 19), (0, .ref 66), (1, .int 3859)], [.int 0, .int 19, .ref 66], (q_cX q_AX q_IX q_J0, 40, 26520))) 16 (fun _ _ => rfl) ?_
                  refine q_Ru_call (v := (some (.int 0))) (h2 := (q_cX q_AX q_IX q_J0, 40, 26520)) rfl rfl ?_ ?_
                  · refine q_Ca_of (Nat.le_of_ble_eq_true rfl) ?_
                    refine q_Ru_seg (g2 := (183, [(0, .ref 66), (1, .int 19), (2, .int 0)], [.int 0], (q_cX q_AX q_IX q_J0, 40, 26520))) 3 (fun _ _ => rfl) ?_
                    exact q_Ru_ret rfl rfl
                  show q_Ru _ _ _ (30, [(2, .int 19), (0, .ref 66), (1, .int 3859)], [.int 0], (q_cX q_AX q_IX q_J0, 40, 26520)) _
                  exact q_Ru_ret rfl rfl
                show q_Ru _ _ _ (15, [(0, .ref 64), (1, .int 3859)], [.int 0], (q_cX q_AX q_IX q_J0, 40, 26520)) _
                exact q_Ru_ret rfl rfl
              show q_Ru _ _ _ (7, [(0, .ref 64), (1, .int 3859), (2, .ref 103)], [.int 0, .int 0, .ref 103], (q_cX q_AX q_IX q_J0, 40, 26520)) _
              refine q_Ru_seg (g2 := (16, [(0, .ref 64), (1, .int 3859), (2, .ref 103)], [.int 0], (q_cX q_AX q_IX (q_uA q_J0 39 (vp_updL (fun _ => 0) 0 0)), 40, 26520))) 4 (fun _ _ => rfl) ?_
              exact q_Ru_ret rfl rfl
            · refine q_Ca_of (Nat.le_of_ble_eq_true rfl) ?_
              refine q_Ru_seg (g2 := (2, [(0, .ref 64), (1, .int 3859)], [.int 3859, .ref 64], (q_cM q_AM q_IM q_J0, 34, 31630))) 2 (fun _ _ => rfl) ?_
              refine q_Ru_call (v := (some (.int 0))) (h2 := (q_cM q_AM q_IM q_J0, 34, 31630)) rfl rfl ?_ ?_
              · refine q_Ca_of (Nat.le_of_ble_eq_true rfl) ?_
                refine q_Ru_seg (g2 := (5, [(0, .int 3859)], [.int 4095, .int 0, .int 3859], (q_cM q_AM q_IM q_J0, 34, 31630))) 3 (fun _ _ => rfl) ?_
                refine q_Ru_call (v := (some (.int 1))) (h2 := (q_cM q_AM q_IM q_J0, 34, 31630)) rfl rfl ?_ ?_
                · refine q_Ca_of (Nat.le_of_ble_eq_true rfl) ?_
                  refine q_Ru_seg (g2 := (15, [(0, .int 3859), (1, .int 0), (2, .int 4095)], [.int 1], (q_cM q_AM q_IM q_J0, 34, 31630))) 8 (fun _ _ => rfl) ?_
                  exact q_Ru_ret rfl rfl
                show q_Ru _ _ _ (8, [(0, .int 3859)], [.int 1], (q_cM q_AM q_IM q_J0, 34, 31630)) _
                refine q_Ru_seg (g2 := (16, [(0, .int 3859)], [.int 0], (q_cM q_AM q_IM q_J0, 34, 31630))) 2 (fun _ _ => rfl) ?_
                exact q_Ru_ret rfl rfl
              show q_Ru _ _ _ (5, [(0, .ref 64), (1, .int 3859)], [.int 0, .ref 64], (q_cM q_AM q_IM q_J0, 34, 31630)) _
              refine q_Ru_seg (g2 := (13, [(0, .ref 64), (1, .int 3859)], [.int 0, .ref 64], (q_cM q_AM q_IM q_J0, 34, 31630))) 2 (fun _ _ => rfl) ?_
              refine q_Ru_call (v := (some (.int 0))) (h2 := (q_cM q_AM (q_uI q_IM 0 39 0) q_J0, 34, 31630)) rfl rfl ?_ ?_
              · refine q_Ca_of (Nat.le_of_ble_eq_true rfl) ?_
                refine q_Ru_seg (g2 := (14, [(0, .ref 64), (1, .int 0)], [.int 0], (q_cM q_AM (q_uI q_IM 0 39 0) q_J0, 34, 31630))) 6 (fun _ _ => rfl) ?_
                exact q_Ru_ret rfl rfl
              show q_Ru _ _ _ (16, [(0, .ref 64), (1, .int 3859)], [.int 0], (q_cM q_AM (q_uI q_IM 0 39 0) q_J0, 34, 31630)) _
              refine q_Ru_seg (g2 := (25, [(0, .ref 64), (1, .int 3859)], [.int 3859, .ref 64], (q_cM q_AM (q_uI q_IM 0 39 0) q_J0, 34, 31630))) 3 (fun _ _ => rfl) ?_
              refine q_Ru_call (v := (some (.int 0))) (h2 := (q_cM q_AM (q_uI q_IM 0 39 0) q_J0, 34, 31630)) rfl rfl ?_ ?_
              · refine q_Ca_of (Nat.le_of_ble_eq_true rfl) ?_
                refine q_Ru_seg (g2 := (7, [(0, .ref 64), (1, .int 3859)], [.int 3887, .int 3840, .int 3859], (q_cM q_AM (q_uI q_IM 0 39 0) q_J0, 34, 31630))) 3 (fun _ _ => rfl) ?_
                refine q_Ru_call (v := (some (.int 1))) (h2 := (q_cM q_AM (q_uI q_IM 0 39 0) q_J0, 34, 31630)) rfl rfl ?_ ?_
                · refine q_Ca_of (Nat.le_of_ble_eq_true rfl) ?_
                  refine q_Ru_seg (g2 := (15, [(0, .int 3859), (1, .int 3840), (2, .int 3887)], [.int 1], (q_cM q_AM (q_uI q_IM 0 39 0) q_J0, 34, 31630))) 8 (fun _ _ => rfl) ?_
                  exact q_Ru_ret rfl rfl
                show q_Ru _ _ _ (10, [(0, .ref 64), (1, .int 3859)], [.int 1], (q_cM q_AM (q_uI q_IM 0 39 0) q_J0, 34, 31630)) _
                refine q_Ru_seg (g2 := (19, [(0, .ref 64), (1, .int 3859)], [.int 19, .ref 64], (q_cM q_AM (q_uI q_IM 0 39 0) q_J0, 34, 31630))) 5 (fun _ _ => rfl) ?_
                refine q_Ru_call (v := (some (.int 0))) (h2 := (q_cM q_AM (q_uI q_IM 0 39 0) q_J0, 34, 31630)) rfl rfl ?_ ?_
                · refine q_Ca_of (Nat.le_of_ble_eq_true rfl) ?_
                  refine q_Ru_seg (g2 := (30, [(0, .ref 64), (1, .int 19)], [.int 15, .int 12, .int 19], (q_cM q_AM (q_uI q_IM 0 39 0) q_J0, 34, 31630))) 9 (fun _ _ => rfl) ?_
                  refine q_Ru_call (v := (some (.int 0))) (h2 := (q_cM q_AM (q_uI q_IM 0 39 0) q_J0, 34, 31630)) rfl rfl ?_ ?_
                  · refine q_Ca_of (Nat.le_of_ble_eq_true rfl) ?_
                    refine q_Ru_seg (g2 := (15, [(0, .int 19), (1, .int 12), (2, .int 15)], [.int 0], (q_cM q_AM (q_uI q_IM 0 39 0) q_J0, 34, 31630))) 7 (fun _ _ => rfl) ?_
                    exact q_Ru_ret rfl rfl
                  show q_Ru _ _ _ (33, [(0, .ref 64), (1, .int 19)], [.int 0], (q_cM q_AM (q_uI q_IM 0 39 0) q_J0, 34, 31630)) _
                  refine q_Ru_seg (g2 := (190, [(0, .ref 64), (1, .int 19)], [.int 0], (q_cM q_AM (q_uI q_IM 0 39 0) q_J0, 34, 31630))) 20 (fun _ _ => rfl) ?_
                  exact q_Ru_ret rfl rfl
                show q_Ru _ _ _ (22, [(0, .ref 64), (1, .int 3859)], [.int 0], (q_cM q_AM (q_uI q_IM 0 39 0) q_J0, 34, 31630)) _
                exact q_Ru_ret rfl rfl
              show q_Ru _ _ _ (28, [(0, .ref 64), (1, .int 3859)], [.int 0], (q_cM q_AM (q_uI q_IM 0 39 0) q_J0, 34, 31630)) _
              exact q_Ru_ret rfl rfl
          | 20, _, e222 =>
            have e222 : a = 3860 := e222
            subst e222
            refine ⟨0, 0, 0, ⟨(q_cX q_AX q_IX (q_uA q_J0 39 (vp_updL (fun _ => 0) 0 0)), 40, 26520), (q_uA q_J0 39 (vp_updL (fun _ => 0) 0 0)) 39, ?_, rfl, fun _ => rfl, Nat.le_of_ble_eq_true rfl, Nat.le_of_ble_eq_true rfl⟩, ⟨(q_cM q_AM (q_uI q_IM 0 39 0) q_J0, 34, 31630), _, ?_, rfl, rfl, Nat.le_of_ble_eq_true rfl, Nat.le_of_ble_eq_true rfl⟩, fun _ => rfl⟩
            · refine q_Ca_of (Nat.le_of_ble_eq_true rfl) ?_
              refine q_Ru_seg (g2 := (4, [(0, .ref 64), (1, .int 3860), (2, .ref 103)], [.int 3860, .ref 64, .int 0, .ref 103], (q_cX q_AX q_IX q_J0, 40, 26520))) 4 (fun _ _ => rfl) ?_
              refine q_Ru_call (v := (some (.int 0))) (h2 := (q_cX q_AX q_IX q_J0, 40, 26520)) rfl rfl ?_ ?_
              · refine q_Ca_of (Nat.le_of_ble_eq_true rfl) ?_
                refine q_Ru_seg (g2 := (1, [(0, .ref 64), (1, .int 3860)], [.int 3860], (q_cX q_AX q_IX q_J0, 40, 26520))) 1 (fun _ _ => rfl) ?_
                refine q_Ru_call (v := none) (h2 := (q_cX q_AX q_IX q_J0, 40, 26520)) rfl rfl ?_ ?_
                · refine q_Ca_of (Nat.le_of_ble_eq_true rfl) ?_
                  refine q_Ru_seg (g2 := (4, [(0, .int 3860)], [.int 4096, .int 3860], (q_cX q_AX q_IX q_J0, 40, 26520))) 2 (fun _ _ => rfl) ?_
                  refine q_Ru_call (v := none) (h2 := (q_cX q_AX q_IX q_J0, 40, 26520)) rfl rfl ?_ ?_
                  · refine q_Ca_of (Nat.le_of_ble_eq_true rfl) ?_
                    refine q_Ru_seg (g2 := (19, [(0, .int 3860), (1, .int 4096)], [], (q_cX q_AX q_IX q_J0, 40, 26520))) 5 (fun _ _ => rfl) ?_
                    exact q_Ru_ret rfl rfl
                  show q_Ru _ _ _ (7, [(0, .int 3860)], [], (q_cX q_AX q_IX q_J0, 40, 26520)) _
                  exact q_Ru_ret rfl rfl
                show q_Ru _ _ _ (4, [(0, .ref 64), (1, .int 3860)], [], (q_cX q_AX q_IX q_J0, 40, 26520)) _
                refine q_Ru_seg (g2 := (12, [(0, .ref 64), (1, .int 3860)], [.int 3860, .ref 66], (q_cX q_AX q_IX q_J0, 40, 26520))) 4 (fun _ _ => rfl) ?_
                refine q_Ru_call (v := (some (.int 0))) (h2 := (q_cX q_AX q_IX q_J0, 40, 26520)) rfl rfl ?_ ?_
                · refine q_Ca_of (Nat.le_of_ble_eq_true rfl) ?_
                  refine q_Ru_seg (g2 := (27, [(2, .int 20), (0, .ref 66), (1, .int 3860)], [.int 0, .int 20, .ref 66], (q_cX q_AX q_IX q_J0, 40, 26520))) 16 (fun _ _ => rfl) ?_
                  refine q_Ru_call (v := (some (.int 0))) (h2 := (q_cX q_AX q_IX q_J0, 40, 26520)) rfl rfl ?_ ?_
                  · refine q_Ca_of (Nat.le_of_ble_eq_true rfl) ?_
                    refine q_Ru_seg (g2 := (183, [(0, .ref 66), (1, .int 20), (2, .int 0)], [.int 0], (q_cX q_AX q_IX q_J0, 40, 26520))) 3 (fun _ _ => rfl) ?_
                    exact q_Ru_ret rfl rfl
                  show q_Ru _ _ _ (30, [(2, .int 20), (0, .ref 66), (1, .int 3860)], [.int 0], (q_cX q_AX q_IX q_J0, 40, 26520)) _
                  exact q_Ru_ret rfl rfl
                show q_Ru _ _ _ (15, [(0, .ref 64), (1, .int 3860)], [.int 0], (q_cX q_AX q_IX q_J0, 40, 26520)) _
                exact q_Ru_ret rfl rfl
              show q_Ru _ _ _ (7, [(0, .ref 64), (1, .int 3860), (2, .ref 103)], [.int 0, .int 0, .ref 103], (q_cX q_AX q_IX q_J0, 40, 26520)) _
              refine q_Ru_seg (g2 := (16, [(0, .ref 64), (1, .int 3860), (2, .ref 103)], [.int 0], (q_cX q_AX q_IX (q_uA q_J0 39 (vp_updL (fun _ => 0) 0 0)), 40, 26520))) 4 (fun _ _ => rfl) ?_
              exact q_Ru_ret rfl rfl
            · refine q_Ca_of (Nat.le_of_ble_eq_true rfl) ?_
              refine q_Ru_seg (g2 := (2, [(0, .ref 64), (1, .int 3860)], [.int 3860, .ref 64], (q_cM q_AM q_IM q_J0, 34, 31630))) 2 (fun _ _ => rfl) ?_
              refine q_Ru_call (v := (some (.int 0))) (h2 := (q_cM q_AM q_IM q_J0, 34, 31630)) rfl rfl ?_ ?_
              · refine q_Ca_of (Nat.le_of_ble_eq_true rfl) ?_
                refine q_Ru_seg (g2 := (5, [(0, .int 3860)], [.int 4095, .int 0, .int 3860], (q_cM q_AM q_IM q_J0, 34, 31630))) 3 (fun _ _ => rfl) ?_
                refine q_Ru_call (v := (some (.int 1))) (h2 := (q_cM q_AM q_IM q_J0, 34, 31630)) rfl rfl ?_ ?_
                · refine q_Ca_of (Nat.le_of_ble_eq_true rfl) ?_
                  refine q_Ru_seg (g2 := (15, [(0, .int 3860), (1, .int 0), (2, .int 4095)], [.int 1], (q_cM q_AM q_IM q_J0, 34, 31630))) 8 (fun _ _ => rfl) ?_
                  exact q_Ru_ret rfl rfl
                show q_Ru _ _ _ (8, [(0, .int 3860)], [.int 1], (q_cM q_AM q_IM q_J0, 34, 31630)) _
                refine q_Ru_seg (g2 := (16, [(0, .int 3860)], [.int 0], (q_cM q_AM q_IM q_J0, 34, 31630))) 2 (fun _ _ => rfl) ?_
                exact q_Ru_ret rfl rfl
              show q_Ru _ _ _ (5, [(0, .ref 64), (1, .int 3860)], [.int 0, .ref 64], (q_cM q_AM q_IM q_J0, 34, 31630)) _
              refine q_Ru_seg (g2 := (13, [(0, .ref 64), (1, .int 3860)], [.int 0, .ref 64], (q_cM q_AM q_IM q_J0, 34, 31630))) 2 (fun _ _ => rfl) ?_
              refine q_Ru_call (v := (some (.int 0))) (h2 := (q_cM q_AM (q_uI q_IM 0 39 0) q_J0, 34, 31630)) rfl rfl ?_ ?_
              · refine q_Ca_of (Nat.le_of_ble_eq_true rfl) ?_
                refine q_Ru_seg (g2 := (14, [(0, .ref 64), (1, .int 0)], [.int 0], (q_cM q_AM (q_uI q_IM 0 39 0) q_J0, 34, 31630))) 6 (fun _ _ => rfl) ?_
                exact q_Ru_ret rfl rfl
              show q_Ru _ _ _ (16, [(0, .ref 64), (1, .int 3860)], [.int 0], (q_cM q_AM (q_uI q_IM 0 39 0) q_J0, 34, 31630)) _
              refine q_Ru_seg (g2 := (25, [(0, .ref 64), (1, .int 3860)], [.int 3860, .ref 64], (q_cM q_AM (q_uI q_IM 0 39 0) q_J0, 34, 31630))) 3 (fun _ _ => rfl) ?_
              refine q_Ru_call (v := (some (.int 0))) (h2 := (q_cM q_AM (q_uI q_IM 0 39 0) q_J0, 34, 31630)) rfl rfl ?_ ?_
              · refine q_Ca_of (Nat.le_of_ble_eq_true rfl) ?_
                refine q_Ru_seg (g2 := (7, [(0, .ref 64), (1, .int 3860)], [.int 3887, .int 3840, .int 3860], (q_cM q_AM (q_uI q_IM 0 39 0) q_J0, 34, 31630))) 3 (fun _ _ => rfl) ?_
                refine q_Ru_call (v := (some (.int 1))) (h2 := (q_cM q_AM (q_uI q_IM 0 39 0) q_J0, 34, 31630)) rfl rfl ?_ ?_
                · refine q_Ca_of (Nat.le_of_ble_eq_true rfl) ?_
                  refine q_Ru_seg (g2 := (15, [(0, .int 3860), (1, .int 3840), (2, .int 3887)], [.int 1], (q_cM q_AM (q_uI q_IM 0 39 0) q_J0, 34, 31630))) 8 (fun _ _ => rfl) ?_
                  exact q_Ru_ret rfl rfl
                show q_Ru _ _ _ (10, [(0, .ref 64), (1, .int 3860)], [.int 1], (q_cM q_AM (q_uI q_IM 0 39 0) q_J0, 34, 31630)) _
                refine q_Ru_seg (g2 := (19, [(0, .ref 64), (1, .int 3860)], [.int 20, .ref 64], (q_cM q_AM (q_uI q_IM 0 39 0) q_J0, 34, 31630))) 5 (fun _ _ => rfl) ?_
                refine q_Ru_call (v := (some (.int 0))) (h2 := (q_cM q_AM (q_uI q_IM 0 39 0) q_J0, 34, 31630)) rfl rfl ?_ ?_
                · refine q_Ca_of (Nat.le_of_ble_eq_true rfl) ?_
                  refine q_Ru_seg (g2 := (30, [(0, .ref 64), (1, .int 20)], [.int 15, .int 12, .int 20], (q_cM q_AM (q_uI q_IM 0 39 0) q_J0, 34, 31630))) 9 (fun _ _ => rfl) ?_
                  refine q_Ru_call (v := (some (.int 0))) (h2 := (q_cM q_AM (q_uI q_IM 0 39 0) q_J0, 34, 31630)) rfl rfl ?_ ?_
                  · refine q_Ca_of (Nat.le_of_ble_eq_true rfl) ?_
                    refine q_Ru_seg (g2 := (15, [(0, .int 20), (1, .int 12), (2, .int 15)], [.int 0], (q_cM q_AM (q_uI q_IM 0 39 0) q_J0, 34, 31630))) 7 (fun _ _ => rfl) ?_
                    exact q_Ru_ret rfl rfl
                  show q_Ru _ _ _ (33, [(0, .ref 64), (1, .int 20)], [.int 0], (q_cM q_AM (q_uI q_IM 0 39 0) q_J0, 34, 31630)) _
                  refine q_Ru_seg (g2 := (190, [(0, .ref 64), (1, .int 20)], [.int 0], (q_cM q_AM (q_uI q_IM 0 39 0) q_J0, 34, 31630))) 20 (fun _ _ => rfl) ?_
                  exact q_Ru_ret rfl rfl
                show q_Ru _ _ _ (22, [(0, .ref 64), (1, .int 3860)], [.int 0], (q_cM q_AM (q_uI q_IM 0 39 0) q_J0, 34, 31630)) _
                exact q_Ru_ret rfl rfl
              show q_Ru _ _ _ (28, [(0, .ref 64), (1, .int 3860)], [.int 0], (q_cM q_AM (q_uI q_IM 0 39 0) q_J0, 34, 31630)) _
              exact q_Ru_ret rfl rfl
          | 21, _, e222 =>
            have e222 : a = 3861 := e222
            subst e222
            refine ⟨0, 0, 0, ⟨(q_cX q_AX q_IX (q_uA q_J0 39 (vp_updL (fun _ => 0) 0 0)), 40, 26520), (q_uA q_J0 39 (vp_updL (fun _ => 0) 0 0)) 39, ?_, rfl, fun _ => rfl, Nat.le_of_ble_eq_true rfl, Nat.le_of_ble_eq_true rfl⟩, ⟨(q_cM q_AM (q_uI q_IM 0 39 0) q_J0, 34, 31630), _, ?_, rfl, rfl, Nat.le_of_ble_eq_true rfl, Nat.le_of_ble_eq_true rfl⟩, fun _ => rfl⟩
            · refine q_Ca_of (Nat.le_of_ble_eq_true rfl) ?_
              refine q_Ru_seg (g2 := (4, [(0, .ref 64), (1, .int 3861), (2, .ref 103)], [.int 3861, .ref 64, .int 0, .ref 103], (q_cX q_AX q_IX q_J0, 40, 26520))) 4 (fun _ _ => rfl) ?_
              refine q_Ru_call (v := (some (.int 0))) (h2 := (q_cX q_AX q_IX q_J0, 40, 26520)) rfl rfl ?_ ?_
              · refine q_Ca_of (Nat.le_of_ble_eq_true rfl) ?_
                refine q_Ru_seg (g2 := (1, [(0, .ref 64), (1, .int 3861)], [.int 3861], (q_cX q_AX q_IX q_J0, 40, 26520))) 1 (fun _ _ => rfl) ?_
                refine q_Ru_call (v := none) (h2 := (q_cX q_AX q_IX q_J0, 40, 26520)) rfl rfl ?_ ?_
                · refine q_Ca_of (Nat.le_of_ble_eq_true rfl) ?_
                  refine q_Ru_seg (g2 := (4, [(0, .int 3861)], [.int 4096, .int 3861], (q_cX q_AX q_IX q_J0, 40, 26520))) 2 (fun _ _ => rfl) ?_
                  refine q_Ru_call (v := none) (h2 := (q_cX q_AX q_IX q_J0, 40, 26520)) rfl rfl ?_ ?_
                  · refine q_Ca_of (Nat.le_of_ble_eq_true rfl) ?_
                    refine q_Ru_seg (g2 := (19, [(0, .int 3861), (1, .int 4096)], [], (q_cX q_AX q_IX q_J0, 40, 26520))) 5 (fun _ _ => rfl) ?_
                    exact q_Ru_ret rfl rfl
                  show q_Ru _ _ _ (7, [(0, .int 3861)], [], (q_cX q_AX q_IX q_J0, 40, 26520)) _
                  exact q_Ru_ret rfl rfl
                show q_Ru _ _ _ (4, [(0, .ref 64), (1, .int 3861)], [], (q_cX q_AX q_IX q_J0, 40, 26520)) _
                refine q_Ru_seg (g2 := (12, [(0, .ref 64), (1, .int 3861)], [.int 3861, .ref 66], (q_cX q_AX q_IX q_J0, 40, 26520))) 4 (fun _ _ => rfl) ?_
                refine q_Ru_call (v := (some (.int 0))) (h2 := (q_cX q_AX q_IX q_J0, 40, 26520)) rfl rfl ?_ ?_
                · refine q_Ca_of (Nat.le_of_ble_eq_true rfl) ?_
                  refine q_Ru_seg (g2 := (27, [(2, .int 21), (0, .ref 66), (1, .int 3861)], [.int 0, .int 21, .ref 66], (q_cX q_AX q_IX q_J0, 40, 26520))) 16 (fun _ _ => rfl) ?_
                  refine q_Ru_call (v := (some (.int 0))) (h2 := (q_cX q_AX q_IX q_J0, 40, 26520)) rfl rfl ?_ ?_
                  · refine q_Ca_of (Nat.le_of_ble_eq_true rfl) ?_
                    refine q_Ru_seg (g2 := (183, [(0, .ref 66), (1, .int 21), (2, .int 0)], [.int 0], (q_cX q_AX q_IX q_J0, 40, 26520))) 3 (fun _ _ => rfl) ?_
                    exact q_Ru_ret rfl rfl
                  show q_Ru _ _ _ (30, [(2, .int 21), (0, .ref 66), (1, .int 3861)], [.int 0], (q_cX q_AX q_IX q_J0, 40, 26520)) _
                  exact q_Ru_ret rfl rfl
                show q_Ru _ _ _ (15, [(0, .ref 64), (1, .int 3861)], [.int 0], (q_cX q_AX q_IX q_J0, 40, 26520)) _
                exact q_Ru_ret rfl rfl
              show q_Ru _ _ _ (7, [(0, .ref 64), (1, .int 3861), (2, .ref 103)], [.int 0, .int 0, .ref 103], (q_cX q_AX q_IX q_J0, 40, 26520)) _
              refine q_Ru_seg (g2 := (16, [(0, .ref 64), (1, .int 3861), (2, .ref 103)], [.int 0], (q_cX q_AX q_IX (q_uA q_J0 39 (vp_updL (fun _ => 0) 0 0)), 40, 26520))) 4 (fun _ _ => rfl) ?_
              exact q_Ru_ret rfl rfl
            · refine q_Ca_of (Nat.le_of_ble_eq_true rfl) ?_
              refine q_Ru_seg (g2 := (2, [(0, .ref 64), (1, .int 3861)], [.int 3861, .ref 64], (q_cM q_AM q_IM q_J0, 34, 31630))) 2 (fun _ _ => rfl) ?_
              refine q_Ru_call (v := (some (.int 0))) (h2 := (q_cM q_AM q_IM q_J0, 34, 31630)) rfl rfl ?_ ?_
              · refine q_Ca_of (Nat.le_of_ble_eq_true rfl) ?_
                refine q_Ru_seg (g2 := (5, [(0, .int 3861)], [.int 4095, .int 0, .int 3861], (q_cM q_AM q_IM q_J0, 34, 31630))) 3 (fun _ _ => rfl) ?_
                refine q_Ru_call (v := (some (.int 1))) (h2 := (q_cM q_AM q_IM q_J0, 34, 31630)) rfl rfl ?_ ?_
                · refine q_Ca_of (Nat.le_of_ble_eq_true rfl) ?_
                  refine q_Ru_seg (g2 := (15, [(0, .int 3861), (1, .int 0), (2, .int 4095)], [.int 1], (q_cM q_AM q_IM q_J0, 34, 31630))) 8 (fun _ _ => rfl) ?_
                  exact q_Ru_ret rfl rfl
                show q_Ru _ _ _ (8, [(0, .int 3861)], [.int 1], (q_cM q_AM q_IM q_J0, 34, 31630)) _
                refine q_Ru_seg (g2 := (16, [(0, .int 3861)], [.int 0], (q_cM q_AM q_IM q_J0, 34, 31630))) 2 (fun _ _ => rfl) ?_
                exact q_Ru_ret rfl rfl
              show q_Ru _ _ _ (5, [(0, .ref 64), (1, .int 3861)], [.int 0, .ref 64], (q_cM q_AM q_IM q_J0, 34, 31630)) _
              refine q_Ru_seg (g2 := (13, [(0, .ref 64), (1, .int 3861)], [.int 0, .ref 64], (q_cM q_AM q_IM q_J0, 34, 31630))) 2 (fun _ _ => rfl) ?_
              refine q_Ru_call (v := (some (.int 0))) (h2 := (q_cM q_AM (q_uI q_IM 0 39 0) q_J0, 34, 31630)) rfl rfl ?_ ?_
              · refine q_Ca_of (Nat.le_of_ble_eq_true rfl) ?_
                refine q_Ru_seg (g2 := (14, [(0, .ref 64), (1, .int 0)], [.int 0], (q_cM q_AM (q_uI q_IM 0 39 0) q_J0, 34, 31630))) 6 (fun _ _ => rfl) ?_
                exact q_Ru_ret rfl rfl
              show q_Ru _ _ _ (16, [(0, .ref 64), (1, .int 3861)], [.int 0], (q_cM q_AM (q_uI q_IM 0 39 0) q_J0, 34, 31630)) _
              refine q_Ru_seg (g2 := (25, [(0, .ref 64), (1, .int 3861)], [.int 3861, .ref 64], (q_cM q_AM (q_uI q_IM 0 39 0) q_J0, 34, 31630))) 3 (fun _ _ => rfl) ?_
              refine q_Ru_call (v := (some (.int 0))) (h2 := (q_cM q_AM (q_uI q_IM 0 39 0) q_J0, 34, 31630)) rfl rfl ?_ ?_
              · refine q_Ca_of (Nat.le_of_ble_eq_true rfl) ?_
                refine q_Ru_seg (g2 := (7, [(0, .ref 64), (1, .int 3861)], [.int 3887, .int 3840, .int 3861], (q_cM q_AM (q_uI q_IM 0 39 0) q_J0, 34, 31630))) 3 (fun _ _ => rfl) ?_
                refine q_Ru_call (v := (some (.int 1))) (h2 := (q_cM q_AM (q_uI q_IM 0 39 0) q_J0, 34, 31630)) rfl rfl ?_ ?_
                · refine q_Ca_of (Nat.le_of_ble_eq_true rfl) ?_
                  refine q_Ru_seg (g2 := (15, [(0, .int 3861), (1, .int 3840), (2, .int 3887)], [.int 1], (q_cM q_AM (q_uI q_IM 0 39 0) q_J0, 34, 31630))) 8 (fun _ _ => rfl) ?_
                  exact q_Ru_ret rfl rfl
                show q_Ru _ _ _ (10, [(0, .ref 64), (1, .int 3861)], [.int 1], (q_cM q_AM (q_uI q_IM 0 39 0) q_J0, 34, 31630)) _
                refine q_Ru_seg (g2 := (19, [(0, .ref 64), (1, .int 3861)], [.int 21, .ref 64], (q_cM q_AM (q_uI q_IM 0 39 0) q_J0, 34, 31630))) 5 (fun _ _ => rfl) ?_
                refine q_Ru_call (v := (some (.int 0))) (h2 := (q_cM q_AM (q_uI q_IM 0 39 0) q_J0, 34, 31630)) rfl rfl ?_ ?_
                · refine q_Ca_of (Nat.le_of_ble_eq_true rfl) ?_
                  refine q_Ru_seg (g2 := (30, [(0, .ref 64), (1, .int 21)], [.int 15, .int 12, .int 21], (q_cM q_AM (q_uI q_IM 0 39 0) q_J0, 34, 31630))) 9 (fun _ _ => rfl) ?_
                  refine q_Ru_call (v := (some (.int 0))) (h2 := (q_cM q_AM (q_uI q_IM 0 39 0) q_J0, 34, 31630)) rfl rfl ?_ ?_
                  · refine q_Ca_of (Nat.le_of_ble_eq_true rfl) ?_
                    refine q_Ru_seg (g2 := (15, [(0, .int 21), (1, .int 12), (2, .int 15)], [.int 0], (q_cM q_AM (q_uI q_IM 0 39 0) q_J0, 34, 31630))) 7 (fun _ _ => rfl) ?_
                    exact q_Ru_ret rfl rfl
                  show q_Ru _ _ _ (33, [(0, .ref 64), (1, .int 21)], [.int 0], (q_cM q_AM (q_uI q_IM 0 39 0) q_J0, 34, 31630)) _
                  refine q_Ru_seg (g2 := (190, [(0, .ref 64), (1, .int 21)], [.int 0], (q_cM q_AM (q_uI q_IM 0 39 0) q_J0, 34, 31630))) 20 (fun _ _ => rfl) ?_
                  exact q_Ru_ret rfl rfl
                show q_Ru _ _ _ (22, [(0, .ref 64), (1, .int 3861)], [.int 0], (q_cM q_AM (q_uI q_IM 0 39 0) q_J0, 34, 31630)) _
                exact q_Ru_ret rfl rfl
              show q_Ru _ _ _ (28, [(0, .ref 64), (1, .int 3861)], [.int 0], (q_cM q_AM (q_uI q_IM 0 39 0) q_J0, 34, 31630)) _
              exact q_Ru_ret rfl rfl
          | 22, _, e222 =>
            have e222 : a = 3862 := e222
            subst e222
            refine ⟨0, 0, 0, ⟨(q_cX q_AX q_IX (q_uA q_J0 39 (vp_updL (fun _ => 0) 0 0)), 40, 26520), (q_uA q_J0 39 (vp_updL (fun _ => 0) 0 0)) 39, ?_, rfl, fun _ => rfl, Nat.le_of_ble_eq_true rfl, Nat.le_of_ble_eq_true rfl⟩, ⟨(q_cM q_AM (q_uI q_IM 0 39 0) q_J0, 34, 31630), _, ?_, rfl, rfl, Nat.le_of_ble_eq_true rfl, Nat.le_of_ble_eq_true rfl⟩, fun _ => rfl⟩
            · refine q_Ca_of (Nat.le_of_ble_eq_true rfl) ?_
              refine q_Ru_seg (g2 := (4, [(0, .ref 64), (1, .int 3862), (2, .ref 103)], [.int 3862, .ref 64, .int 0, .ref 103], (q_cX q_AX q_IX q_J0, 40, 26520))) 4 (fun _ _ => rfl) ?_
              refine q_Ru_call (v := (some (.int 0))) (h2 := (q_cX q_AX q_IX q_J0, 40, 26520)) rfl rfl ?_ ?_
              · refine q_Ca_of (Nat.le_of_ble_eq_true rfl) ?_
                refine q_Ru_seg (g2 := (1, [(0, .ref 64), (1, .int 3862)], [.int 3862], (q_cX q_AX q_IX q_J0, 40, 26520))) 1 (fun _ _ => rfl) ?_
                refine q_Ru_call (v := none) (h2 := (q_cX q_AX q_IX q_J0, 40, 26520)) rfl rfl ?_ ?_
                · refine q_Ca_of (Nat.le_of_ble_eq_true rfl) ?_
                  refine q_Ru_seg (g2 := (4, [(0, .int 3862)], [.int 4096, .int 3862], (q_cX q_AX q_IX q_J0, 40, 26520))) 2 (fun _ _ => rfl) ?_
                  refine q_Ru_call (v := none) (h2 := (q_cX q_AX q_IX q_J0, 40, 26520)) rfl rfl ?_ ?_
                  · refine q_Ca_of (Nat.le_of_ble_eq_true rfl) ?_
                    refine q_Ru_seg (g2 := (19, [(0, .int 3862), (1, .int 4096)], [], (q_cX q_AX q_IX q_J0, 40, 26520))) 5 (fun _ _ => rfl) ?_
                    exact q_Ru_ret rfl rfl
                  show q_Ru _ _ _ (7, [(0, .int 3862)], [], (q_cX q_AX q_IX q_J0, 40, 26520)) _
                  exact q_Ru_ret rfl rfl
                show q_Ru _ _ _ (4, [(0, .ref 64), (1, .int 3862)], [], (q_cX q_AX q_IX q_J0, 40, 26520)) _
                refine q_Ru_seg (g2 := (12, [(0, .ref 64), (1, .int 3862)], [.int 3862, .ref 66], (q_cX q_AX q_IX q_J0, 40, 26520))) 4 (fun _ _ => rfl) ?_
                refine q_Ru_call (v := (some (.int 0))) (h2 := (q_cX q_AX q_IX q_J0, 40, 26520)) rfl rfl ?_ ?_
                · refine q_Ca_of (Nat.le_of_ble_eq_true rfl) ?_
                  refine q_Ru_seg (g2 := (27, [(2, .int 22), (0, .ref 66), (1, .int 3862)], [.int 0, .int 22, .ref 66], (q_cX q_AX q_IX q_J0, 40, 26520))) 16 (fun _ _ => rfl) ?_
                  refine q_Ru_call (v := (some (.int 0))) (h2 := (q_cX q_AX q_IX q_J0, 40, 26520)) rfl rfl ?_ ?_
                  · refine q_Ca_of (Nat.le_of_ble_eq_true rfl) ?_
                    refine q_Ru_seg (g2 := (183, [(0, .ref 66), (1, .int 22), (2, .int 0)], [.int 0], (q_cX q_AX q_IX q_J0, 40, 26520))) 3 (fun _ _ => rfl) ?_
                    exact q_Ru_ret rfl rfl
                  show q_Ru _ _ _ (30, [(2, .int 22), (0, .ref 66), (1, .int 3862)], [.int 0], (q_cX q_AX q_IX q_J0, 40, 26520)) _
                  exact q_Ru_ret rfl rfl
                show q_Ru _ _ _ (15, [(0, .ref 64), (1, .int 3862)], [.int 0], (q_cX q_AX q_IX q_J0, 40, 26520)) _
                exact q_Ru_ret rfl rfl
              show q_Ru _ _ _ (7, [(0, .ref 64), (1, .int 3862), (2, .ref 103)], [.int 0, .int 0, .ref 103], (q_cX q_AX q_IX q_J0, 40, 26520)) _
              refine q_Ru_seg (g2 := (16, [(0, .ref 64), (1, .int 3862), (2, .ref 103)], [.int 0], (q_cX q_AX q_IX (q_uA q_J0 39 (vp_updL (fun _ => 0) 0 0)), 40, 26520))) 4 (fun _ _ => rfl) ?_
              exact q_Ru_ret rfl rfl
            · refine q_Ca_of (Nat.le_of_ble_eq_true rfl) ?_
              refine q_Ru_seg (g2 := (2, [(0, .ref 64), (1, .int 3862)], [.int 3862, .ref 64], (q_cM q_AM q_IM q_J0, 34, 31630))) 2 (fun _ _ => rfl) ?_
              refine q_Ru_call (v := (some (.int 0))) (h2 := (q_cM q_AM q_IM q_J0, 34, 31630)) rfl rfl ?_ ?_
              · refine q_Ca_of (Nat.le_of_ble_eq_true rfl) ?_
                refine q_Ru_seg (g2 := (5, [(0, .int 3862)], [.int 4095, .int 0, .int 3862], (q_cM q_AM q_IM q_J0, 34, 31630))) 3 (fun _ _ => rfl) ?_
                refine q_Ru_call (v := (some (.int 1))) (h2 := (q_cM q_AM q_IM q_J0, 34, 31630)) rfl rfl ?_ ?_
                · refine q_Ca_of (Nat.le_of_ble_eq_true rfl) ?_
                  refine q_Ru_seg (g2 := (15, [(0, .int 3862), (1, .int 0), (2, .int 4095)], [.int 1], (q_cM q_AM q_IM q_J0, 34, 31630))) 8 (fun _ _ => rfl) ?_
                  exact q_Ru_ret rfl rfl
                show q_Ru _ _ _ (8, [(0, .int 3862)], [.int 1], (q_cM q_AM q_IM q_J0, 34, 31630)) _
                refine q_Ru_seg (g2 := (16, [(0, .int 3862)], [.int 0], (q_cM q_AM q_IM q_J0, 34, 31630))) 2 (fun _ _ => rfl) ?_
                exact q_Ru_ret rfl rfl
              show q_Ru _ _ _ (5, [(0, .ref 64), (1, .int 3862)], [.int 0, .ref 64], (q_cM q_AM q_IM q_J0, 34, 31630)) _
              refine q_Ru_seg (g2 := (13, [(0, .ref 64), (1, .int 3862)], [.int 0, .ref 64], (q_cM q_AM q_IM q_J0, 34, 31630))) 2 (fun _ _ => rfl) ?_
              refine q_Ru_call (v := (some (.int 0))) (h2 := (q_cM q_AM (q_uI q_IM 0 39 0) q_J0, 34, 31630)) rfl rfl ?_ ?_
              · refine q_Ca_of (Nat.le_of_ble_eq_true rfl) ?_
                refine q_Ru_seg (g2 := (14, [(0, .ref 64), (1, .int 0)], [.int 0], (q_cM q_AM (q_uI q_IM 0 39 0) q_J0, 34, 31630))) 6 (fun _ _ => rfl) ?_
                exact q_Ru_ret rfl rfl
              show q_Ru _ _ _ (16, [(0, .ref 64), (1, .int 3862)], [.int 0], (q_cM q_AM (q_uI q_IM 0 39 0) q_J0, 34, 31630)) _
              refine q_Ru_seg (g2 := (25, [(0, .ref 64), (1, .int 3862)], [.int 3862, .ref 64], (q_cM q_AM (q_uI q_IM 0 39 0) q_J0, 34, 31630))) 3 (fun _ _ => rfl) ?_
              refine q_Ru_call (v := (some (.int 0))) (h2 := (q_cM q_AM (q_uI q_IM 0 39 0) q_J0, 34, 31630)) rfl rfl ?_ ?_
              · refine q_Ca_of (Nat.le_of_ble_eq_true rfl) ?_
                refine q_Ru_seg (g2 := (7, [(0, .ref 64), (1, .int 3862)], [.int 3887, .int 3840, .int 3862], (q_cM q_AM (q_uI q_IM 0 39 0) q_J0, 34, 31630))) 3 (fun _ _ => rfl) ?_
                refine q_Ru_call (v := (some (.int 1))) (h2 := (q_cM q_AM (q_uI q_IM 0 39 0) q_J0, 34, 31630)) rfl rfl ?_ ?_
                · refine q_Ca_of (Nat.le_of_ble_eq_true rfl) ?_
                  refine q_Ru_seg (g2 := (15, [(0, .int 3862), (1, .int 3840), (2, .int 3887)], [.int 1], (q_cM q_AM (q_uI q_IM 0 39 0) q_J0, 34, 31630))) 8 (fun _ _ => rfl) ?_
                  exact q_Ru_ret rfl rfl
                show q_Ru _ _ _ (10, [(0, .ref 64), (1, .int 3862)], [.int 1], (q_cM q_AM (q_uI q_IM 0 39 0) q_J0, 34, 31630)) _
                refine q_Ru_seg (g2 := (19, [(0, .ref 64), (1, .int 3862)], [.int 22, .ref 64], (q_cM q_AM (q_uI q_IM 0 39 0) q_J0, 34, 31630))) 5 (fun _ _ => rfl) ?_
                refine q_Ru_call (v := (some (.int 0))) (h2 := (q_cM q_AM (q_uI q_IM 0 39 0) q_J0, 34, 31630)) rfl rfl ?_ ?_
                · refine q_Ca_of (Nat.le_of_ble_eq_true rfl) ?_
                  refine q_Ru_seg (g2 := (30, [(0, .ref 64), (1, .int 22)], [.int 15, .int 12, .int 22], (q_cM q_AM (q_uI q_IM 0 39 0) q_J0, 34, 31630))) 9 (fun _ _ => rfl) ?_
                  refine q_Ru_call (v := (some (.int 0))) (h2 := (q_cM q_AM (q_uI q_IM 0 39 0) q_J0, 34, 31630)) rfl rfl ?_ ?_
                  · refine q_Ca_of (Nat.le_of_ble_eq_true rfl) ?_
                    refine q_Ru_seg (g2 := (15, [(0, .int 22), (1, .int 12), (2, .int 15)], [.int 0], (q_cM q_AM (q_uI q_IM 0 39 0) q_J0, 34, 31630))) 7 (fun _ _ => rfl) ?_
                    exact q_Ru_ret rfl rfl
                  show q_Ru _ _ _ (33, [(0, .ref 64), (1, .int 22)], [.int 0], (q_cM q_AM (q_uI q_IM 0 39 0) q_J0, 34, 31630)) _
                  refine q_Ru_seg (g2 := (190, [(0, .ref 64), (1, .int 22)], [.int 0], (q_cM q_AM (q_uI q_IM 0 39 0) q_J0, 34, 31630))) 20 (fun _ _ => rfl) ?_
                  exact q_Ru_ret rfl rfl
                show q_Ru _ _ _ (22, [(0, .ref 64), (1, .int 3862)], [.int 0], (q_cM q_AM (q_uI q_IM 0 39 0) q_J0, 34, 31630)) _
                exact q_Ru_ret rfl rfl
              show q_Ru _ _ _ (28, [(0, .ref 64), (1, .int 3862)], [.int 0], (q_cM q_AM (q_uI q_IM 0 39 0) q_J0, 34, 31630)) _
              exact q_Ru_ret rfl rfl
          | 23, _, e222 =>
            have e222 : a = 3863 := e222
            subst e222
            refine ⟨0, 0, 0, ⟨(q_cX q_AX q_IX (q_uA q_J0 39 (vp_updL (fun _ => 0) 0 0)), 40, 26520), (q_uA q_J0 39 (vp_updL (fun _ => 0) 0 0)) 39, ?_, rfl, fun _ => rfl, Nat.le_of_ble_eq_true rfl, Nat.le_of_ble_eq_true rfl⟩, ⟨(q_cM q_AM (q_uI q_IM 0 39 0) q_J0, 34, 31630), _, ?_, rfl, rfl, Nat.le_of_ble_eq_true rfl, Nat.le_of_ble_eq_true rfl⟩, fun _ => rfl⟩
            · refine q_Ca_of (Nat.le_of_ble_eq_true rfl) ?_
              refine q_Ru_seg (g2 := (4, [(0, .ref 64), (1, .int 3863), (2, .ref 103)], [.int 3863, .ref 64, .int 0, .ref 103], (q_cX q_AX q_IX q_J0, 40, 26520))) 4 (fun _ _ => rfl) ?_
              refine q_Ru_call (v := (some (.int 0))) (h2 := (q_cX q_AX q_IX q_J0, 40, 26520)) rfl rfl ?_ ?_
              · refine q_Ca_of (Nat.le_of_ble_eq_true rfl) ?_
                refine q_Ru_seg (g2 := (1, [(0, .ref 64), (1, .int 3863)], [.int 3863], (q_cX q_AX q_IX q_J0, 40, 26520))) 1 (fun _ _ => rfl) ?_
                refine q_Ru_call (v := none) (h2 := (q_cX q_AX q_IX q_J0, 40, 26520)) rfl rfl ?_ ?_
                · refine q_Ca_of (Nat.le_of_ble_eq_true rfl) ?_
                  refine q_Ru_seg (g2 := (4, [(0, .int 3863)], [.int 4096, .int 3863], (q_cX q_AX q_IX q_J0, 40, 26520))) 2 (fun _ _ => rfl) ?_
                  refine q_Ru_call (v := none) (h2 := (q_cX q_AX q_IX q_J0, 40, 26520)) rfl rfl ?_ ?_
                  · refine q_Ca_of (Nat.le_of_ble_eq_true rfl) ?_
                    refine q_Ru_seg (g2 := (19, [(0, .int 3863), (1, .int 4096)], [], (q_cX q_AX q_IX q_J0, 40, 26520))) 5 (fun _ _ => rfl) ?_
                    exact q_Ru_ret rfl rfl
                  show q_Ru _ _ _ (7, [(0, .int 3863)], [], (q_cX q_AX q_IX q_J0, 40, 26520)) _
                  exact q_Ru_ret rfl rfl
                show q_Ru _ _ _ (4, [(0, .ref 64), (1, .int 3863)], [], (q_cX q_AX q_IX q_J0, 40, 26520)) _
                refine q_Ru_seg (g2 := (12, [(0, .ref 64), (1, .int 3863)], [.int 3863, .ref 66], (q_cX q_AX q_IX q_J0, 40, 26520))) 4 (fun _ _ => rfl) ?_
                refine q_Ru_call (v := (some (.int 0))) (h2 := (q_cX q_AX q_IX q_J0, 40, 26520)) rfl rfl ?_ ?_
                · refine q_Ca_of (Nat.le_of_ble_eq_true rfl) ?_
                  refine q_Ru_seg (g2 := (27, [(2, .int 23), (0, .ref 66), (1, .int 3863)], [.int 0, .int 23, .ref 66], (q_cX q_AX q_IX q_J0, 40, 26520))) 16 (fun _ _ => rfl) ?_
                  refine q_Ru_call (v := (some (.int 0))) (h2 := (q_cX q_AX q_IX q_J0, 40, 26520)) rfl rfl ?_ ?_
                  · refine q_Ca_of (Nat.le_of_ble_eq_true rfl) ?_
                    refine q_Ru_seg (g2 := (183, [(0, .ref 66), (1, .int 23), (2, .int 0)], [.int 0], (q_cX q_AX q_IX q_J0, 40, 26520))) 3 (fun _ _ => rfl) ?_
                    exact q_Ru_ret rfl rfl
                  show q_Ru _ _ _ (30, [(2, .int 23), (0, .ref 66), (1, .int 3863)], [.int 0], (q_cX q_AX q_IX q_J0, 40, 26520)) _
                  exact q_Ru_ret rfl rfl
                show q_Ru _ _ _ (15, [(0, .ref 64), (1, .int 3863)], [.int 0], (q_cX q_AX q_IX q_J0, 40, 26520)) _
                exact q_Ru_ret rfl rfl
              show q_Ru _ _ _ (7, [(0, .ref 64), (1, .int 3863), (2, .ref 103)], [.int 0, .int 0, .ref 103], (q_cX q_AX q_IX q_J0, 40, 26520)) _
              refine q_Ru_seg (g2 := (16, [(0, .ref 64), (1, .int 3863), (2, .ref 103)], [.int 0], (q_cX q_AX q_IX (q_uA q_J0 39 (vp_updL (fun _ => 0) 0 0)), 40, 26520))) 4 (fun _ _ => rfl) ?_
              exact q_Ru_ret rfl rfl
            · refine q_Ca_of (Nat.le_of_ble_eq_true rfl) ?_
              refine q_Ru_seg (g2 := (2, [(0, .ref 64), (1, .int 3863)], [.int 3863, .ref 64], (q_cM q_AM q_IM q_J0, 34, 31630))) 2 (fun _ _ => rfl) ?_
              refine q_Ru_call (v := (some (.int 0))) (h2 := (q_cM q_AM q_IM q_J0, 34, 31630)) rfl rfl ?_ ?_
              · refine q_Ca_of (Nat.le_of_ble_eq_true rfl) ?_
                refine q_Ru_seg (g2 := (5, [(0, .int 3863)], [.int 4095, .int 0, .int 3863], (q_cM q_AM q_IM q_J0, 34, 31630))) 3 (fun _ _ => rfl) ?_
                refine q_Ru_call (v := (some (.int 1))) (h2 := (q_cM q_AM q_IM q_J0, 34, 31630)) rfl rfl ?_ ?_
                · refine q_Ca_of (Nat.le_of_ble_eq_true rfl) ?_
                  refine q_Ru_seg (g2 := (15, [(0, .int 3863), (1, .int 0), (2, .int 4095)], [.int 1], (q_cM q_AM q_IM q_J0, 34, 31630))) 8 (fun _ _ => rfl) ?_
                  exact q_Ru_ret rfl rfl
                show q_Ru _ _ _ (8, [(0, .int 3863)], [.int 1], (q_cM q_AM q_IM q_J0, 34, 31630)) _
                refine q_Ru_seg (g2 := (16, [(0, .int 3863)], [.int 0], (q_cM q_AM q_IM q_J0, 34, 31630))) 2 (fun _ _ => rfl) ?_
                exact q_Ru_ret rfl rfl
              show q_Ru _ _ _ (5, [(0, .ref 64), (1, .int 3863)], [.int 0, .ref 64], (q_cM q_AM q_IM q_J0, 34, 31630)) _
              refine q_Ru_seg (g2 := (13, [(0, .ref 64), (1, .int 3863)], [.int 0, .ref 64], (q_cM q_AM q_IM q_J0, 34, 31630))) 2 (fun _ _ => rfl) ?_
              refine q_Ru_call (v := (some (.int 0))) (h2 := (q_cM q_AM (q_uI q_IM 0 39 0) q_J0, 34, 31630)) rfl rfl ?_ ?_
              · refine q_Ca_of (Nat.le_of_ble_eq_true rfl) ?_
                refine q_Ru_seg (g2 := (14, [(0, .ref 64), (1, .int 0)], [.int 0], (q_cM q_AM (q_uI q_IM 0 39 0) q_J0, 34, 31630))) 6 (fun _ _ => rfl) ?_
                exact q_Ru_ret rfl rfl
              show q_Ru _ _ _ (16, [(0, .ref 64), (1, .int 3863)], [.int 0], (q_cM q_AM (q_uI q_IM 0 39 0) q_J0, 34, 31630)) _
              refine q_Ru_seg (g2 := (25, [(0, .ref 64), (1, .int 3863)], [.int 3863, .ref 64], (q_cM q_AM (q_uI q_IM 0 39 0) q_J0, 34, 31630))) 3 (fun _ _ => rfl) ?_
              refine q_Ru_call (v := (some (.int 0))) (h2 := (q_cM q_AM (q_uI q_IM 0 39 0) q_J0, 34, 31630)) rfl rfl ?_ ?_
              · refine q_Ca_of (Nat.le_of_ble_eq_true rfl) ?_
                refine q_Ru_seg (g2 := (7, [(0, .ref 64), (1, .int 3863)], [.int 3887, .int 3840, .int 3863], (q_cM q_AM (q_uI q_IM 0 39 0) q_J0, 34, 31630))) 3 (fun _ _ => rfl) ?_
                refine q_Ru_call (v := (some (.int 1))) (h2 := (q_cM q_AM (q_uI q_IM 0 39 0) q_J0, 34, 31630)) rfl rfl ?_ ?_
                · refine q_Ca_of (Nat.le_of_ble_eq_true rfl) ?_
                  refine q_Ru_seg (g2 := (15, [(0, .int 3863), (1, .int 3840), (2, .int 3887)], [.int 1], (q_cM q_AM (q_uI q_IM 0 39 0) q_J0, 34, 31630))) 8 (fun _ _ => rfl) ?_
                  exact q_Ru_ret rfl rfl
                show q_Ru _ _ _ (10, [(0, .ref 64), (1, .int 3863)], [.int 1], (q_cM q_AM (q_uI q_IM 0 39 0) q_J0, 34, 31630)) _
                refine q_Ru_seg (g2 := (19, [(0, .ref 64), (1, .int 3863)], [.int 23, .ref 64], (q_cM q_AM (q_uI q_IM 0 39 0) q_J0, 34, 31630))) 5 (fun _ _ => rfl) ?_
                refine q_Ru_call (v := (some (.int 0))) (h2 := (q_cM q_AM (q_uI q_IM 0 39 0) q_J0, 34, 31630)) rfl rfl ?_ ?_
                · refine q_Ca_of (Nat.le_of_ble_eq_true rfl) ?_
                  refine q_Ru_seg (g2 := (30, [(0, .ref 64), (1, .int 23)], [.int 15, .int 12, .int 23], (q_cM q_AM (q_uI q_IM 0 39 0) q_J0, 34, 31630))) 9 (fun _ _ => rfl) ?_
                  refine q_Ru_call (v := (some (.int 0))) (h2 := (q_cM q_AM (q_uI q_IM 0 39 0) q_J0, 34, 31630)) rfl rfl ?_ ?_
                  · refine q_Ca_of (Nat.le_of_ble_eq_true rfl) ?_
                    refine q_Ru_seg (g2 := (15, [(0, .int 23), (1, .int 12), (2, .int 15)], [.int 0], (q_cM q_AM (q_uI q_IM 0 39 0) q_J0, 34, 31630))) 7 (fun _ _ => rfl) ?_
                    exact q_Ru_ret rfl rfl
                  show q_Ru _ _ _ (33, [(0, .ref 64), (1, .int 23)], [.int 0], (q_cM q_AM (q_uI q_IM 0 39 0) q_J0, 34, 31630)) _
                  refine q_Ru_seg (g2 := (190, [(0, .ref 64), (1, .int 23)], [.int 0], (q_cM q_AM (q_uI q_IM 0 39 0) q_J0, 34, 31630))) 20 (fun _ _ => rfl) ?_
                  exact q_Ru_ret rfl rfl
                show q_Ru _ _ _ (22, [(0, .ref 64), (1, .int 3863)], [.int 0], (q_cM q_AM (q_uI q_IM 0 39 0) q_J0, 34, 31630)) _
                exact q_Ru_ret rfl rfl
              show q_Ru _ _ _ (28, [(0, .ref 64), (1, .int 3863)], [.int 0], (q_cM q_AM (q_uI q_IM 0 39 0) q_J0, 34, 31630)) _
              exact q_Ru_ret rfl rfl
          | 24, _, e222 =>
            have e222 : a = 3864 := e222
            subst e222
            refine ⟨0, 0, 0, ⟨(q_cX q_AX q_IX (q_uA q_J0 39 (vp_updL (fun _ => 0) 0 0)), 40, 26520), (q_uA q_J0 39 (vp_updL (fun _ => 0) 0 0)) 39, ?_, rfl, fun _ => rfl, Nat.le_of_ble_eq_true rfl, Nat.le_of_ble_eq_true rfl⟩, ⟨(q_cM q_AM (q_uI q_IM 0 39 0) q_J0, 34, 31630), _, ?_, rfl, rfl, Nat.le_of_ble_eq_true rfl, Nat.le_of_ble_eq_true rfl⟩, fun _ => rfl⟩
            · refine q_Ca_of (Nat.le_of_ble_eq_true rfl) ?_
              refine q_Ru_seg (g2 := (4, [(0, .ref 64), (1, .int 3864), (2, .ref 103)], [.int 3864, .ref 64, .int 0, .ref 103], (q_cX q_AX q_IX q_J0, 40, 26520))) 4 (fun _ _ => rfl) ?_
              refine q_Ru_call (v := (some (.int 0))) (h2 := (q_cX q_AX q_IX q_J0, 40, 26520)) rfl rfl ?_ ?_
              · refine q_Ca_of (Nat.le_of_ble_eq_true rfl) ?_
                refine q_Ru_seg (g2 := (1, [(0, .ref 64), (1, .int 3864)], [.int 3864], (q_cX q_AX q_IX q_J0, 40, 26520))) 1 (fun _ _ => rfl) ?_
                refine q_Ru_call (v := none) (h2 := (q_cX q_AX q_IX q_J0, 40, 26520)) rfl rfl ?_ ?_
                · refine q_Ca_of (Nat.le_of_ble_eq_true rfl) ?_
                  refine q_Ru_seg (g2 := (4, [(0, .int 3864)], [.int 4096, .int 3864], (q_cX q_AX q_IX q_J0, 40, 26520))) 2 (fun _ _ => rfl) ?_
                  refine q_Ru_call (v := none) (h2 := (q_cX q_AX q_IX q_J0, 40, 26520)) rfl rfl ?_ ?_
                  · refine q_Ca_of (Nat.le_of_ble_eq_true rfl) ?_
                    refine q_Ru_seg (g2 := (19, [(0, .int 3864), (1, .int 4096)], [], (q_cX q_AX q_IX q_J0, 40, 26520))) 5 (fun _ _ => rfl) ?_
                    exact q_Ru_ret rfl rfl
                  show q_Ru _ _ _ (7, [(0, .int 3864)], [], (q_cX q_AX q_IX q_J0, 40, 26520)) _
                  exact q_Ru_ret rfl rfl
                show q_Ru _ _ _ (4, [(0, .ref 64), (1, .int 3864)], [], (q_cX q_AX q_IX q_J0, 40, 26520)) _
                refine q_Ru_seg (g2 := (12, [(0, .ref 64), (1, .int 3864)], [.int 3864, .ref 66], (q_cX q_AX q_IX q_J0, 40, 26520))) 4 (fun _ _ => rfl) ?_
                refine q_Ru_call (v := (some (.int 0))) (h2 := (q_cX q_AX q_IX q_J0, 40, 26520)) rfl rfl ?_ ?_
                · refine q_Ca_of (Nat.le_of_ble_eq_true rfl) ?_
                  refine q_Ru_seg (g2 := (27, [(2, .int 24), (0, .ref 66), (1, .int 3864)], [.int 0, .int 24, .ref 66], (q_cX q_AX q_IX q_J0, 40, 26520))) 16 (fun _ _ => rfl) ?_
                  refine q_Ru_call (v := (some (.int 0))) (h2 := (q_cX q_AX q_IX q_J0, 40, 26520)) rfl rfl ?_ ?_
                  · refine q_Ca_of (Nat.le_of_ble_eq_true rfl) ?_
                    refine q_Ru_seg (g2 := (183, [(0, .ref 66), (1, .int 24), (2, .int 0)], [.int 0], (q_cX q_AX q_IX q_J0, 40, 26520))) 3 (fun _ _ => rfl) ?_
                    exact q_Ru_ret rfl rfl
                  show q_Ru _ _ _ (30, [(2, .int 24), (0, .ref 66), (1, .int 3864)], [.int 0], (q_cX q_AX q_IX q_J0, 40, 26520)) _
                  exact q_Ru_ret rfl rfl
                show q_Ru _ _ _ (15, [(0, .ref 64), (1, .int 3864)], [.int 0], (q_cX q_AX q_IX q_J0, 40, 26520)) _
                exact q_Ru_ret rfl rfl
              show q_Ru _ _ _ (7, [(0, .ref 64), (1, .int 3864), (2, .ref 103)], [.int 0, .int 0, .ref 103], (q_cX q_AX q_IX q_J0, 40, 26520)) _
              refine q_Ru_seg (g2 := (16, [(0, .ref 64), (1, .int 3864), (2, .ref 103)], [.int 0], (q_cX q_AX q_IX (q_uA q_J0 39 (vp_updL (fun _ => 0) 0 0)), 40, 26520))) 4 (fun _ _ => rfl) ?_
              exact q_Ru_ret rfl rfl
            · refine q_Ca_of (Nat.le_of_ble_eq_true rfl) ?_
              refine q_Ru_seg (g2 := (2, [(0, .ref 64), (1, .int 3864)], [.int 3864, .ref 64], (q_cM q_AM q_IM q_J0, 34, 31630))) 2 (fun _ _ => rfl) ?_
              refine q_Ru_call (v := (some (.int 0))) (h2 := (q_cM q_AM q_IM q_J0, 34, 31630)) rfl rfl ?_ ?_
              · refine q_Ca_of (Nat.le_of_ble_eq_true rfl) ?_
                refine q_Ru_seg (g2 := (5, [(0, .int 3864)], [.int 4095, .int 0, .int 3864], (q_cM q_AM q_IM q_J0, 34, 31630))) 3 (fun _ _ => rfl) ?_
                refine q_Ru_call (v := (some (.int 1))) (h2 := (q_cM q_AM q_IM q_J0, 34, 31630)) rfl rfl ?_ ?_
                · refine q_Ca_of (Nat.le_of_ble_eq_true rfl) ?_
                  refine q_Ru_seg (g2 := (15, [(0, .int 3864), (1, .int 0), (2, .int 4095)], [.int 1], (q_cM q_AM q_IM q_J0, 34, 31630))) 8 (fun _ _ => rfl) ?_
                  exact q_Ru_ret rfl rfl
                show q_Ru _ _ _ (8, [(0, .int 3864)], [.int 1], (q_cM q_AM q_IM q_J0, 34, 31630)) _
                refine q_Ru_seg (g2 := (16, [(0, .int 3864)], [.int 0], (q_cM q_AM q_IM q_J0, 34, 31630))) 2 (fun _ _ => rfl) ?_
                exact q_Ru_ret rfl rfl
              show q_Ru _ _ _ (5, [(0, .ref 64), (1, .int 3864)], [.int 0, .ref 64], (q_cM q_AM q_IM q_J0, 34, 31630)) _
              refine q_Ru_seg (g2 := (13, [(0, .ref 64), (1, .int 3864)], [.int 0, .ref 64], (q_cM q_AM q_IM q_J0, 34, 31630))) 2 (fun _ _ => rfl) ?_
              refine q_Ru_call (v := (some (.int 0))) (h2 := (q_cM q_AM (q_uI q_IM 0 39 0) q_J0, 34, 31630)) rfl rfl ?_ ?_
              · refine q_Ca_of (Nat.le_of_ble_eq_true rfl) ?_
                refine q_Ru_seg (g2 := (14, [(0, .ref 64), (1, .int 0)], [.int 0], (q_cM q_AM (q_uI q_IM 0 39 0) q_J0, 34, 31630))) 6 (fun _ _ => rfl) ?_
                exact q_Ru_ret rfl rfl
              show q_Ru _ _ _ (16, [(0, .ref 64), (1, .int 3864)], [.int 0], (q_cM q_AM (q_uI q_IM 0 39 0) q_J0, 34, 31630)) _
              refine q_Ru_seg (g2 := (25, [(0, .ref 64), (1, .int 3864)], [.int 3864, .ref 64], (q_cM q_AM (q_uI q_IM 0 39 0) q_J0, 34, 31630))) 3 (fun _ _ => rfl) ?_
              refine q_Ru_call (v := (some (.int 0))) (h2 := (q_cM q_AM (q_uI q_IM 0 39 0) q_J0, 34, 31630)) rfl rfl ?_ ?_
              · refine q_Ca_of (Nat.le_of_ble_eq_true rfl) ?_
                refine q_Ru_seg (g2 := (7, [(0, .ref 64), (1, .int 3864)], [.int 3887, .int 3840, .int 3864], (q_cM q_AM (q_uI q_IM 0 39 0) q_J0, 34, 31630))) 3 (fun _ _ => rfl) ?_
                refine q_Ru_call (v := (some (.int 1))) (h2 := (q_cM q_AM (q_uI q_IM 0 39 0) q_J0, 34, 31630)) rfl rfl ?_ ?_
                · refine q_Ca_of (Nat.le_of_ble_eq_true rfl) ?_
                  refine q_Ru_seg (g2 := (15, [(0, .int 3864), (1, .int 3840), (2, .int 3887)], [.int 1], (q_cM q_AM (q_uI q_IM 0 39 0) q_J0, 34, 31630))) 8 (fun _ _ => rfl) ?_
                  exact q_Ru_ret rfl rfl
                show q_Ru _ _ _ (10, [(0, .ref 64), (1, .int 3864)], [.int 1], (q_cM q_AM (q_uI q_IM 0 39 0) q_J0, 34, 31630)) _
                refine q_Ru_seg (g2 := (19, [(0, .ref 64), (1, .int 3864)], [.int 24, .ref 64], (q_cM q_AM (q_uI q_IM 0 39 0) q_J0, 34, 31630))) 5 (fun _ _ => rfl) ?_
                refine q_Ru_call (v := (some (.int 0))) (h2 := (q_cM q_AM (q_uI q_IM 0 39 0) q_J0, 34, 31630)) rfl rfl ?_ ?_
                · refine q_Ca_of (Nat.le_of_ble_eq_true rfl) ?_
                  refine q_Ru_seg (g2 := (30, [(0, .ref 64), (1, .int 24)], [.int 15, .int 12, .int 24], (q_cM q_AM (q_uI q_IM 0 39 0) q_J0, 34, 31630))) 9 (fun _ _ => rfl) ?_
                  refine q_Ru_call (v := (some (.int 0))) (h2 := (q_cM q_AM (q_uI q_IM 0 39 0) q_J0, 34, 31630)) rfl rfl ?_ ?_
                  · refine q_Ca_of (Nat.le_of_ble_eq_true rfl) ?_
                    refine q_Ru_seg (g2 := (15, [(0, .int 24), (1, .int 12), (2, .int 15)], [.int 0], (q_cM q_AM (q_uI q_IM 0 39 0) q_J0, 34, 31630))) 7 (fun _ _ => rfl) ?_
                    exact q_Ru_ret rfl rfl
                  show q_Ru _ _ _ (33, [(0, .ref 64), (1, .int 24)], [.int 0], (q_cM q_AM (q_uI q_IM 0 39 0) q_J0, 34, 31630)) _
                  refine q_Ru_seg (g2 := (190, [(0, .ref 64), (1, .int 24)], [.int 0], (q_cM q_AM (q_uI q_IM 0 39 0) q_J0, 34, 31630))) 20 (fun _ _ => rfl) ?_
                  exact q_Ru_ret rfl rfl
                show q_Ru _ _ _ (22, [(0, .ref 64), (1, .int 3864)], [.int 0], (q_cM q_AM (q_uI q_IM 0 39 0) q_J0, 34, 31630)) _
                exact q_Ru_ret rfl rfl
              show q_Ru _ _ _ (28, [(0, .ref 64), (1, .int 3864)], [.int 0], (q_cM q_AM (q_uI q_IM 0 39 0) q_J0, 34, 31630)) _
              exact q_Ru_ret rfl rfl
          | 25, _, e222 =>
            have e222 : a = 3865 := e222
            subst e222
            refine ⟨0, 0, 0, ⟨(q_cX q_AX q_IX (q_uA q_J0 39 (vp_updL (fun _ => 0) 0 0)), 40, 26520), (q_uA q_J0 39 (vp_updL (fun _ => 0) 0 0)) 39, ?_, rfl, fun _ => rfl, Nat.le_of_ble_eq_true rfl, Nat.le_of_ble_eq_true rfl⟩, ⟨(q_cM q_AM (q_uI q_IM 0 39 0) q_J0, 34, 31630), _, ?_, rfl, rfl, Nat.le_of_ble_eq_true rfl, Nat.le_of_ble_eq_true rfl⟩, fun _ => rfl⟩
            · refine q_Ca_of (Nat.le_of_ble_eq_true rfl) ?_
              refine q_Ru_seg (g2 := (4, [(0, .ref 64), (1, .int 3865), (2, .ref 103)], [.int 3865, .ref 64, .int 0, .ref 103], (q_cX q_AX q_IX q_J0, 40, 26520))) 4 (fun _ _ => rfl) ?_
              refine q_Ru_call (v := (some (.int 0))) (h2 := (q_cX q_AX q_IX q_J0, 40, 26520)) rfl rfl ?_ ?_
              · refine q_Ca_of (Nat.le_of_ble_eq_true rfl) ?_
                refine q_Ru_seg (g2 := (1, [(0, .ref 64), (1, .int 3865)], [.int 3865], (q_cX q_AX q_IX q_J0, 40, 26520))) 1 (fun _ _ => rfl) ?_
                refine q_Ru_call (v := none) (h2 := (q_cX q_AX q_IX q_J0, 40, 26520)) rfl rfl ?_ ?_
                · refine q_Ca_of (Nat.le_of_ble_eq_true rfl) ?_
                  refine q_Ru_seg (g2 := (4, [(0, .int 3865)], [.int 4096, .int 3865], (q_cX q_AX q_IX q_J0, 40, 26520))) 2 (fun _ _ => rfl) ?_
                  refine q_Ru_call (v := none) (h2 := (q_cX q_AX q_IX q_J0, 40, 26520)) rfl rfl ?_ ?_
                  · refine q_Ca_of (Nat.le_of_ble_eq_true rfl) ?_
                    refine q_Ru_seg (g2 := (19, [(0, .int 3865), (1, .int 4096)], [], (q_cX q_AX q_IX q_J0, 40, 26520))) 5 (fun _ _ => rfl) ?_
                    exact q_Ru_ret rfl rfl
                  show q_Ru _ _ _ (7, [(0, .int 3865)], [], (q_cX q_AX q_IX q_J0, 40, 26520)) _
                  exact q_Ru_ret rfl rfl
                show q_Ru _ _ _ (4, [(0, .ref 64), (1, .int 3865)], [], (q_cX q_AX q_IX q_J0, 40, 26520)) _
                refine q_Ru_seg (g2 := (12, [(0, .ref 64), (1, .int 3865)], [.int 3865, .ref 66], (q_cX q_AX q_IX q_J0, 40, 26520))) 4 (fun _ _ => rfl) ?_
                refine q_Ru_call (v := (some (.int 0))) (h2 := (q_cX q_AX q_IX q_J0, 40, 26520)) rfl rfl ?_ ?_
                · refine q_Ca_of (Nat.le_of_ble_eq_true rfl) ?_
                  refine q_Ru_seg (g2 := (27, [(2, .int 25), (0, .ref 66), (1, .int 3865)], [.int 0, .int 25, .ref 66], (q_cX q_AX q_IX q_J0, 40, 26520))) 16 (fun _ _ => rfl) ?_
                  refine q_Ru_call (v := (some (.int 0))) (h2 := (q_cX q_AX q_IX q_J0, 40, 26520)) rfl rfl ?_ ?_
                  · refine q_Ca_of (Nat.le_of_ble_eq_true rfl) ?_
                    refine q_Ru_seg (g2 := (183, [(0, .ref 66), (1, .int 25), (2, .int 0)], [.int 0], (q_cX q_AX q_IX q_J0, 40, 26520))) 3 (fun _ _ => rfl) ?_
                    exact q_Ru_ret rfl rfl
                  show q_Ru _ _ _ (30, [(2, .int 25), (0, .ref 66), (1, .int 3865)], [.int 0], (q_cX q_AX q_IX q_J0, 40, 26520)) _
                  exact q_Ru_ret rfl rfl
                show q_Ru _ _ _ (15, [(0, .ref 64), (1, .int 3865)], [.int 0], (q_cX q_AX q_IX q_J0, 40, 26520)) _
                exact q_Ru_ret rfl rfl
              show q_Ru _ _ _ (7, [(0, .ref 64), (1, .int 3865), (2, .ref 103)], [.int 0, .int 0, .ref 103], (q_cX q_AX q_IX q_J0, 40, 26520)) _
              refine q_Ru_seg (g2 := (16, [(0, .ref 64), (1, .int 3865), (2, .ref 103)], [.int 0], (q_cX q_AX q_IX (q_uA q_J0 39 (vp_updL (fun _ => 0) 0 0)), 40, 26520))) 4 (fun _ _ => rfl) ?_
              exact q_Ru_ret rfl rfl
            · refine q_Ca_of (Nat.le_of_ble_eq_true rfl) ?_
              refine q_Ru_seg (g2 := (2, [(0, .ref 64), (1, .int 3865)], [.int 3865, .ref 64], (q_cM q_AM q_IM q_J0, 34, 31630))) 2 (fun _ _ => rfl) ?_
              refine q_Ru_call (v := (some (.int 0))) (h2 := (q_cM q_AM q_IM q_J0, 34, 31630)) rfl rfl ?_ ?_
              · refine q_Ca_of (Nat.le_of_ble_eq_true rfl) ?_
                refine q_Ru_seg (g2 := (5, [(0, .int 3865)], [.int 4095, .int 0, .int 3865], (q_cM q_AM q_IM q_J0, 34, 31630))) 3 (fun _ _ => rfl) ?_
                refine q_Ru_call (v := (some (.int 1))) (h2 := (q_cM q_AM q_IM q_J0, 34, 31630)) rfl rfl ?_ ?_
                · refine q_Ca_of (Nat.le_of_ble_eq_true rfl) ?_
                  refine q_Ru_seg (g2 := (15, [(0, .int 3865), (1, .int 0), (2, .int 4095)], [.int 1], (q_cM q_AM q_IM q_J0, 34, 31630))) 8 (fun _ _ => rfl) ?_
                  exact q_Ru_ret rfl rfl
                show q_Ru _ _ _ (8, [(0, .int 3865)], [.int 1], (q_cM q_AM q_IM q_J0, 34, 31630)) _
                refine q_Ru_seg (g2 := (16, [(0, .int 3865)], [.int 0], (q_cM q_AM q_IM q_J0, 34, 31630))) 2 (fun _ _ => rfl) ?_
                exact q_Ru_ret rfl rfl
              show q_Ru _ _ _ (5, [(0, .ref 64), (1, .int 3865)], [.int 0, .ref 64], (q_cM q_AM q_IM q_J0, 34, 31630)) _
              refine q_Ru_seg (g2 := (13, [(0, .ref 64), (1, .int 3865)], [.int 0, .ref 64], (q_cM q_AM q_IM q_J0, 34, 31630))) 2 (fun _ _ => rfl) ?_
              refine q_Ru_call (v := (some (.int 0))) (h2 := (q_cM q_AM (q_uI q_IM 0 39 0) q_J0, 34, 31630)) rfl rfl ?_ ?_
              · refine q_Ca_of (Nat.le_of_ble_eq_true rfl) ?_
                refine q_Ru_seg (g2 := (14, [(0, .ref 64), (1, .int 0)], [.int 0], (q_cM q_AM (q_uI q_IM 0 39 0) q_J0, 34, 31630))) 6 (fun _ _ => rfl) ?_
                exact q_Ru_ret rfl rfl
              show q_Ru _ _ _ (16, [(0, .ref 64), (1, .int 3865)], [.int 0], (q_cM q_AM (q_uI q_IM 0 39 0) q_J0, 34, 31630)) _
              refine q_Ru_seg (g2 := (25, [(0, .ref 64), (1, .int 3865)], [.int 3865, .ref 64], (q_cM q_AM (q_uI q_IM 0 39 0) q_J0, 34, 31630))) 3 (fun _ _ => rfl) ?_
              refine q_Ru_call (v := (some (.int 0))) (h2 := (q_cM q_AM (q_uI q_IM 0 39 0) q_J0, 34, 31630)) rfl rfl ?_ ?_
              · refine q_Ca_of (Nat.le_of_ble_eq_true rfl) ?_
                refine q_Ru_seg (g2 := (7, [(0, .ref 64), (1, .int 3865)], [.int 3887, .int 3840, .int 3865], (q_cM q_AM (q_uI q_IM 0 39 0) q_J0, 34, 31630))) 3 (fun _ _ => rfl) ?_
                refine q_Ru_call (v := (some (.int 1))) (h2 := (q_cM q_AM (q_uI q_IM 0 39 0) q_J0, 34, 31630)) rfl rfl ?_ ?_
                · refine q_Ca_of (Nat.le_of_ble_eq_true rfl) ?_
                  refine q_Ru_seg (g2 := (15, [(0, .int 3865), (1, .int 3840), (2, .int 3887)], [.int 1], (q_cM q_AM (q_uI q_IM 0 39 0) q_J0, 34, 31630))) 8 (fun _ _ => rfl) ?_
                  exact q_Ru_ret rfl rfl
                show q_Ru _ _ _ (10, [(0, .ref 64), (1, .int 3865)], [.int 1], (q_cM q_AM (q_uI q_IM 0 39 0) q_J0, 34, 31630)) _
                refine q_Ru_seg (g2 := (19, [(0, .ref 64), (1, .int 3865)], [.int 25, .ref 64], (q_cM q_AM (q_uI q_IM 0 39 0) q_J0, 34, 31630))) 5 (fun _ _ => rfl) ?_
                refine q_Ru_call (v := (some (.int 0))) (h2 := (q_cM q_AM (q_uI q_IM 0 39 0) q_J0, 34, 31630)) rfl rfl ?_ ?_
                · refine q_Ca_of (Nat.le_of_ble_eq_true rfl) ?_
                  refine q_Ru_seg (g2 := (30, [(0, .ref 64), (1, .int 25)], [.int 15, .int 12, .int 25], (q_cM q_AM (q_uI q_IM 0 39 0) q_J0, 34, 31630))) 9 (fun _ _ => rfl) ?_
                  refine q_Ru_call (v := (some (.int 0))) (h2 := (q_cM q_AM (q_uI q_IM 0 39 0) q_J0, 34, 31630)) rfl rfl ?_ ?_
                  · refine q_Ca_of (Nat.le_of_ble_eq_true rfl) ?_
                    refine q_Ru_seg (g2 := (15, [(0, .int 25), (1, .int 12), (2, .int 15)], [.int 0], (q_cM q_AM (q_uI q_IM 0 39 0) q_J0, 34, 31630))) 7 (fun _ _ => rfl) ?_
                    exact q_Ru_ret rfl rfl
                  show q_Ru _ _ _ (33, [(0, .ref 64), (1, .int 25)], [.int 0], (q_cM q_AM (q_uI q_IM 0 39 0) q_J0, 34, 31630)) _
                  refine q_Ru_seg (g2 := (190, [(0, .ref 64), (1, .int 25)], [.int 0], (q_cM q_AM (q_uI q_IM 0 39 0) q_J0, 34, 31630))) 20 (fun _ _ => rfl) ?_
                  exact q_Ru_ret rfl rfl
                show q_Ru _ _ _ (22, [(0, .ref 64), (1, .int 3865)], [.int 0], (q_cM q_AM (q_uI q_IM 0 39 0) q_J0, 34, 31630)) _
                exact q_Ru_ret rfl rfl
              show q_Ru _ _ _ (28, [(0, .ref 64), (1, .int 3865)], [.int 0], (q_cM q_AM (q_uI q_IM 0 39 0) q_J0, 34, 31630)) _
              exact q_Ru_ret rfl rfl
          | 26, _, e222 =>
            have e222 : a = 3866 := e222
            subst e222
            refine ⟨0, 0, 0, ⟨(q_cX q_AX q_IX (q_uA q_J0 39 (vp_updL (fun _ => 0) 0 0)), 40, 26520), (q_uA q_J0 39 (vp_updL (fun _ => 0) 0 0)) 39, ?_, rfl, fun _ => rfl, Nat.le_of_ble_eq_true rfl, Nat.le_of_ble_eq_true rfl⟩, ⟨(q_cM q_AM (q_uI q_IM 0 39 0) q_J0, 34, 31630), _, ?_, rfl, rfl, Nat.le_of_ble_eq_true rfl, Nat.le_of_ble_eq_true rfl⟩, fun _ => rfl⟩
            · refine q_Ca_of (Nat.le_of_ble_eq_true rfl) ?_
              refine q_Ru_seg (g2 := (4, [(0, .ref 64), (1, .int 3866), (2, .ref 103)], [.int 3866, .ref 64, .int 0, .ref 103], (q_cX q_AX q_IX q_J0, 40, 26520))) 4 (fun _ _ => rfl) ?_
              refine q_Ru_call (v := (some (.int 0))) (h2 := (q_cX q_AX q_IX q_J0, 40, 26520)) rfl rfl ?_ ?_
              · refine q_Ca_of (Nat.le_of_ble_eq_true rfl) ?_
                refine q_Ru_seg (g2 := (1, [(0, .ref 64), (1, .int 3866)], [.int 3866], (q_cX q_AX q_IX q_J0, 40, 26520))) 1 (fun _ _ => rfl) ?_
                refine q_Ru_call (v := none) (h2 := (q_cX q_AX q_IX q_J0, 40, 26520)) rfl rfl ?_ ?_
                · refine q_Ca_of (Nat.le_of_ble_eq_true rfl) ?_
                  refine q_Ru_seg (g2 := (4, [(0, .int 3866)], [.int 4096, .int 3866], (q_cX q_AX q_IX q_J0, 40, 26520))) 2 (fun _ _ => rfl) ?_
                  refine q_Ru_call (v := none) (h2 := (q_cX q_AX q_IX q_J0, 40, 26520)) rfl rfl ?_ ?_
                  · refine q_Ca_of (Nat.le_of_ble_eq_true rfl) ?_
                    refine q_Ru_seg (g2 := (19, [(0, .int 3866), (1, .int 4096)], [], (q_cX q_AX q_IX q_J0, 40, 26520))) 5 (fun _ _ => rfl) ?_
                    exact q_Ru_ret rfl rfl
                  show q_Ru _ _ _ (7, [(0, .int 3866)], [], (q_cX q_AX q_IX q_J0, 40, 26520)) _
                  exact q_Ru_ret rfl rfl
                show q_Ru _ _ _ (4, [(0, .ref 64), (1, .int 3866)], [], (q_cX q_AX q_IX q_J0, 40, 26520)) _
                refine q_Ru_seg (g2 := (12, [(0, .ref 64), (1, .int 3866)], [.int 3866, .ref 66], (q_cX q_AX q_IX q_J0, 40, 26520))) 4 (fun _ _ => rfl) ?_
                refine q_Ru_call (v := (some (.int 0))) (h2 := (q_cX q_AX q_IX q_J0, 40, 26520)) rfl rfl ?_ ?_
                · refine q_Ca_of (Nat.le_of_ble_eq_true rfl) ?_
                  refine q_Ru_seg (g2 := (27, [(2, .int 26), (0, .ref 66), (1, .int 3866)], [.int 0, .int 26, .ref 66], (q_cX q_AX q_IX q_J0, 40, 26520))) 16 (fun _ _ => rfl) ?_
                  refine q_Ru_call (v := (some (.int 0))) (h2 := (q_cX q_AX q_IX q_J0, 40, 26520)) rfl rfl ?_ ?_
                  · refine q_Ca_of (Nat.le_of_ble_eq_true rfl) ?_
                    refine q_Ru_seg (g2 := (183, [(0, .ref 66), (1, .int 26), (2, .int 0)], [.int 0], (q_cX q_AX q_IX q_J0, 40, 26520))) 3 (fun _ _ => rfl) ?_
                    exact q_Ru_ret rfl rfl
                  show q_Ru _ _ _ (30, [(2, .int 26), (0, .ref 66), (1, .int 3866)], [.int 0], (q_cX q_AX q_IX q_J0, 40, 26520)) _
                  exact q_Ru_ret rfl rfl
                show q_Ru _ _ _ (15, [(0, .ref 64), (1, .int 3866)], [.int 0], (q_cX q_AX q_IX q_J0, 40, 26520)) _
                exact q_Ru_ret rfl rfl
              show q_Ru _ _ _ (7, [(0, .ref 64), (1, .int 3866), (2, .ref 103)], [.int 0, .int 0, .ref 103], (q_cX q_AX q_IX q_J0, 40, 26520)) _
              refine q_Ru_seg (g2 := (16, [(0, .ref 64), (1, .int 3866), (2, .ref 103)], [.int 0], (q_cX q_AX q_IX (q_uA q_J0 39 (vp_updL (fun _ => 0) 0 0)), 40, 26520))) 4 (fun _ _ => rfl) ?_
              exact q_Ru_ret rfl rfl
            · refine q_Ca_of (Nat.le_of_ble_eq_true rfl) ?_
              refine q_Ru_seg (g2 := (2, [(0, .ref 64), (1, .int 3866)], [.int 3866, .ref 64], (q_cM q_AM q_IM q_J0, 34, 31630))) 2 (fun _ _ => rfl) ?_
              refine q_Ru_call (v := (some (.int 0))) (h2 := (q_cM q_AM q_IM q_J0, 34, 31630)) rfl rfl ?_ ?_
              · refine q_Ca_of (Nat.le_of_ble_eq_true rfl) ?_
                refine q_Ru_seg (g2 := (5, [(0, .int 3866)], [.int 4095, .int 0, .int 3866], (q_cM q_AM q_IM q_J0, 34, 31630))) 3 (fun _ _ => rfl) ?_
                refine q_Ru_call (v := (some (.int 1))) (h2 := (q_cM q_AM q_IM q_J0, 34, 31630)) rfl rfl ?_ ?_
                · refine q_Ca_of (Nat.le_of_ble_eq_true rfl) ?_
                  refine q_Ru_seg (g2 := (15, [(0, .int 3866), (1, .int 0), (2, .int 4095)], [.int 1], (q_cM q_AM q_IM q_J0, 34, 31630))) 8 (fun _ _ => rfl) ?_
                  exact q_Ru_ret rfl rfl
                show q_Ru _ _ _ (8, [(0, .int 3866)], [.int 1], (q_cM q_AM q_IM q_J0, 34, 31630)) _
                refine q_Ru_seg (g2 := (16, [(0, .int 3866)], [.int 0], (q_cM q_AM q_IM q_J0, 34, 31630))) 2 (fun _ _ => rfl) ?_
                exact q_Ru_ret rfl rfl
              show q_Ru _ _ _ (5, [(0, .ref 64), (1, .int 3866)], [.int 0, .ref 64], (q_cM q_AM q_IM q_J0, 34, 31630)) _
              refine q_Ru_seg (g2 := (13, [(0, .ref 64), (1, .int 3866)], [.int 0, .ref 64], (q_cM q_AM q_IM q_J0, 34, 31630))) 2 (fun _ _ => rfl) ?_
              refine q_Ru_call (v := (some (.int 0))) (h2 := (q_cM q_AM (q_uI q_IM 0 39 0) q_J0, 34, 31630)) rfl rfl ?_ ?_
              · refine q_Ca_of (Nat.le_of_ble_eq_true rfl) ?_
                refine q_Ru_seg (g2 := (14, [(0, .ref 64), (1, .int 0)], [.int 0], (q_cM q_AM (q_uI q_IM 0 39 0) q_J0, 34, 31630))) 6 (fun _ _ => rfl) ?_
                exact q_Ru_ret rfl rfl
              show q_Ru _ _ _ (16, [(0, .ref 64), (1, .int 3866)], [.int 0], (q_cM q_AM (q_uI q_IM 0 39 0) q_J0, 34, 31630)) _
              refine q_Ru_seg (g2 := (25, [(0, .ref 64), (1, .int 3866)], [.int 3866, .ref 64], (q_cM q_AM (q_uI q_IM 0 39 0) q_J0, 34, 31630))) 3 (fun _ _ => rfl) ?_
              refine q_Ru_call (v := (some (.int 0))) (h2 := (q_cM q_AM (q_uI q_IM 0 39 0) q_J0, 34, 31630)) rfl rfl ?_ ?_
              · refine q_Ca_of (Nat.le_of_ble_eq_true rfl) ?_
                refine q_Ru_seg (g2 := (7, [(0, .ref 64), (1, .int 3866)], [.int 3887, .int 3840, .int 3866], (q_cM q_AM (q_uI q_IM 0 39 0) q_J0, 34, 31630))) 3 (fun _ _ => rfl) ?_
                refine q_Ru_call (v := (some (.int 1))) (h2 := (q_cM q_AM (q_uI q_IM 0 39 0) q_J0, 34, 31630)) rfl rfl ?_ ?_
                · refine q_Ca_of (Nat.le_of_ble_eq_true rfl) ?_
                  refine q_Ru_seg (g2 := (15, [(0, .int 3866), (1, .int 3840), (2, .int 3887)], [.int 1], (q_cM q_AM (q_uI q_IM 0 39 0) q_J0, 34, 31630))) 8 (fun _ _ => rfl) ?_
                  exact q_Ru_ret rfl rfl
                show q_Ru _ _ _ (10, [(0, .ref 64), (1, .int 3866)], [.int 1], (q_cM q_AM (q_uI q_IM 0 39 0) q_J0, 34, 31630)) _
                refine q_Ru_seg (g2 := (19, [(0, .ref 64), (1, .int 3866)], [.int 26, .ref 64], (q_cM q_AM (q_uI q_IM 0 39 0) q_J0, 34, 31630))) 5 (fun _ _ => rfl) ?_
                refine q_Ru_call (v := (some (.int 0))) (h2 := (q_cM q_AM (q_uI q_IM 0 39 0) q_J0, 34, 31630)) rfl rfl ?_ ?_
                · refine q_Ca_of (Nat.le_of_ble_eq_true rfl) ?_
                  refine q_Ru_seg (g2 := (30, [(0, .ref 64), (1, .int 26)], [.int 15, .int 12, .int 26], (q_cM q_AM (q_uI q_IM 0 39 0) q_J0, 34, 31630))) 9 (fun _ _ => rfl) ?_
                  refine q_Ru_call (v := (some (.int 0))) (h2 := (q_cM q_AM (q_uI q_IM 0 39 0) q_J0, 34, 31630)) rfl rfl ?_ ?_
                  · refine q_Ca_of (Nat.le_of_ble_eq_true rfl) ?_
                    refine q_Ru_seg (g2 := (15, [(0, .int 26), (1, .int 12), (2, .int 15)], [.int 0], (q_cM q_AM (q_uI q_IM 0 39 0) q_J0, 34, 31630))) 7 (fun _ _ => rfl) ?_
                    exact q_Ru_ret rfl rfl
                  show q_Ru _ _ _ (33, [(0, .ref 64), (1, .int 26)], [.int 0], (q_cM q_AM (q_uI q_IM 0 39 0) q_J0, 34, 31630)) _
                  refine q_Ru_seg (g2 := (190, [(0, .ref 64), (1, .int 26)], [.int 0], (q_cM q_AM (q_uI q_IM 0 39 0) q_J0, 34, 31630))) 20 (fun _ _ => rfl) ?_
                  exact q_Ru_ret rfl rfl
                show q_Ru _ _ _ (22, [(0, .ref 64), (1, .int 3866)], [.int 0], (q_cM q_AM (q_uI q_IM 0 39 0) q_J0, 34, 31630)) _
                exact q_Ru_ret rfl rfl
              show q_Ru _ _ _ (28, [(0, .ref 64), (1, .int 3866)], [.int 0], (q_cM q_AM (q_uI q_IM 0 39 0) q_J0, 34, 31630)) _
              exact q_Ru_ret rfl rfl
          | 27, _, e222 =>
            have e222 : a = 3867 := e222
            subst e222
            refine ⟨0, 0, 0, ⟨(q_cX q_AX q_IX (q_uA q_J0 39 (vp_updL (fun _ => 0) 0 0)), 40, 26520), (q_uA q_J0 39 (vp_updL (fun _ => 0) 0 0)) 39, ?_, rfl, fun _ => rfl, Nat.le_of_ble_eq_true rfl, Nat.le_of_ble_eq_true rfl⟩, ⟨(q_cM q_AM (q_uI q_IM 0 39 0) q_J0, 34, 31630), _, ?_, rfl, rfl, Nat.le_of_ble_eq_true rfl, Nat.le_of_ble_eq_true rfl⟩, fun _ => rfl⟩
            · refine q_Ca_of (Nat.le_of_ble_eq_true rfl) ?_
              refine q_Ru_seg (g2 := (4, [(0, .ref 64), (1, .int 3867), (2, .ref 103)], [.int 3867, .ref 64, .int 0, .ref 103], (q_cX q_AX q_IX q_J0, 40, 26520))) 4 (fun _ _ => rfl) ?_
              refine q_Ru_call (v := (some (.int 0))) (h2 := (q_cX q_AX q_IX q_J0, 40, 26520)) rfl rfl ?_ ?_
              · refine q_Ca_of (Nat.le_of_ble_eq_true rfl) ?_
                refine q_Ru_seg (g2 := (1, [(0, .ref 64), (1, .int 3867)], [.int 3867], (q_cX q_AX q_IX q_J0, 40, 26520))) 1 (fun _ _ => rfl) ?_
                refine q_Ru_call (v := none) (h2 := (q_cX q_AX q_IX q_J0, 40, 26520)) rfl rfl ?_ ?_
                · refine q_Ca_of (Nat.le_of_ble_eq_true rfl) ?_
                  refine q_Ru_seg (g2 := (4, [(0, .int 3867)], [.int 4096, .int 3867], (q_cX q_AX q_IX q_J0, 40, 26520))) 2 (fun _ _ => rfl) ?_
                  refine q_Ru_call (v := none) (h2 := (q_cX q_AX q_IX q_J0, 40, 26520)) rfl rfl ?_ ?_
                  · refine q_Ca_of (Nat.le_of_ble_eq_true rfl) ?_
                    refine q_Ru_seg (g2 := (19, [(0, .int 3867), (1, .int 4096)], [], (q_cX q_AX q_IX q_J0, 40, 26520))) 5 (fun _ _ => rfl) ?_
                    exact q_Ru_ret rfl rfl
                  show q_Ru _ _ _ (7, [(0, .int 3867)], [], (q_cX q_AX q_IX q_J0, 40, 26520)) _
                  exact q_Ru_ret rfl rfl
                show q_Ru _ _ _ (4, [(0, .ref 64), (1, .int 3867)], [], (q_cX q_AX q_IX q_J0, 40, 26520)) _
                refine q_Ru_seg (g2 := (12, [(0, .ref 64), (1, .int 3867)], [.int 3867, .ref 66], (q_cX q_AX q_IX q_J0, 40, 26520))) 4 (fun _ _ => rfl) ?_
                refine q_Ru_call (v := (some (.int 0))) (h2 := (q_cX q_AX q_IX q_J0, 40, 26520)) rfl rfl ?_ ?_
                · refine q_Ca_of (Nat.le_of_ble_eq_true rfl) ?_
                  refine q_Ru_seg (g2 := (27, [(2, .int 27), (0, .ref 66), (1, .int 3867)], [.int 0, .int 27, .ref 66], (q_cX q_AX q_IX q_J0, 40, 26520))) 16 (fun _ _ => rfl) ?_
                  refine q_Ru_call (v := (some (.int 0))) (h2 := (q_cX q_AX q_IX q_J0, 40, 26520)) rfl rfl ?_ ?_
                  · refine q_Ca_of (Nat.le_of_ble_eq_true rfl) ?_
                    refine q_Ru_seg (g2 := (183, [(0, .ref 66), (1, .int 27), (2, .int 0)], [.int 0], (q_cX q_AX q_IX q_J0, 40, 26520))) 3 (fun _ _ => rfl) ?_
                    exact q_Ru_ret rfl rfl
                  show q_Ru _ _ _ (30, [(2, .int 27), (0, .ref 66), (1, .int 3867)], [.int 0], (q_cX q_AX q_IX q_J0, 40, 26520)) _
                  exact q_Ru_ret rfl rfl
                show q_Ru _ _ _ (15, [(0, .ref 64), (1, .int 3867)], [.int 0], (q_cX q_AX q_IX q_J0, 40, 26520)) _
                exact q_Ru_ret rfl rfl
              show q_Ru _ _ _ (7, [(0, .ref 64), (1, .int 3867), (2, .ref 103)], [.int 0, .int 0, .ref 103], (q_cX q_AX q_IX q_J0, 40, 26520)) _
              refine q_Ru_seg (g2 := (16, [(0, .ref 64), (1, .int 3867), (2, .ref 103)], [.int 0], (q_cX q_AX q_IX (q_uA q_J0 39 (vp_updL (fun _ => 0) 0 0)), 40, 26520))) 4 (fun _ _ => rfl) ?_
              exact q_Ru_ret rfl rfl
            · refine q_Ca_of (Nat.le_of_ble_eq_true rfl) ?_
              refine q_Ru_seg (g2 := (2, [(0, .ref 64), (1, .int 3867)], [.int 3867, .ref 64], (q_cM q_AM q_IM q_J0, 34, 31630))) 2 (fun _ _ => rfl) ?_
              refine q_Ru_call (v := (some (.int 0))) (h2 := (q_cM q_AM q_IM q_J0, 34, 31630)) rfl rfl ?_ ?_
              · refine q_Ca_of (Nat.le_of_ble_eq_true rfl) ?_
                refine q_Ru_seg (g2 := (5, [(0, .int 3867)], [.int 4095, .int 0, .int 3867], (q_cM q_AM q_IM q_J0, 34, 31630))) 3 (fun _ _ => rfl) ?_
                refine q_Ru_call (v := (some (.int 1))) (h2 := (q_cM q_AM q_IM q_J0, 34, 31630)) rfl rfl ?_ ?_
                · refine q_Ca_of (Nat.le_of_ble_eq_true rfl) ?_
                  refine q_Ru_seg (g2 := (15, [(0, .int 3867), (1, .int 0), (2, .int 4095)], [.int 1], (q_cM q_AM q_IM q_J0, 34, 31630))) 8 (fun _ _ => rfl) ?_
                  exact q_Ru_ret rfl rfl
                show q_Ru _ _ _ (8, [(0, .int 3867)], [.int 1], (q_cM q_AM q_IM q_J0, 34, 31630)) _
                refine q_Ru_seg (g2 := (16, [(0, .int 3867)], [.int 0], (q_cM q_AM q_IM q_J0, 34, 31630))) 2 (fun _ _ => rfl) ?_
                exact q_Ru_ret rfl rfl
              show q_Ru _ _ _ (5, [(0, .ref 64), (1, .int 3867)], [.int 0, .ref 64], (q_cM q_AM q_IM q_J0, 34, 31630)) _
              refine q_Ru_seg (g2 := (13, [(0, .ref 64), (1, .int 3867)], [.int 0, .ref 64], (q_cM q_AM q_IM q_J0, 34, 31630))) 2 (fun _ _ => rfl) ?_
              refine q_Ru_call (v := (some (.int 0))) (h2 := (q_cM q_AM (q_uI q_IM 0 39 0) q_J0, 34, 31630)) rfl rfl ?_ ?_
              · refine q_Ca_of (Nat.le_of_ble_eq_true rfl) ?_
                refine q_Ru_seg (g2 := (14, [(0, .ref 64), (1, .int 0)], [.int 0], (q_cM q_AM (q_uI q_IM 0 39 0) q_J0, 34, 31630))) 6 (fun _ _ => rfl) ?_
                exact q_Ru_ret rfl rfl
              show q_Ru _ _ _ (16, [(0, .ref 64), (1, .int 3867)], [.int 0], (q_cM q_AM (q_uI q_IM 0 39 0) q_J0, 34, 31630)) _
              refine q_Ru_seg (g2 := (25, [(0, .ref 64), (1, .int 3867)], [.int 3867, .ref 64], (q_cM q_AM (q_uI q_IM 0 39 0) q_J0, 34, 31630))) 3 (fun _ _ => rfl) ?_
              refine q_Ru_call (v := (some (.int 0))) (h2 := (q_cM q_AM (q_uI q_IM 0 39 0) q_J0, 34, 31630)) rfl rfl ?_ ?_
              · refine q_Ca_of (Nat.le_of_ble_eq_true rfl) ?_
                refine q_Ru_seg (g2 := (7, [(0, .ref 64), (1, .int 3867)], [.int 3887, .int 3840, .int 3867], (q_cM q_AM (q_uI q_IM 0 39 0) q_J0, 34, 31630))) 3 (fun _ _ => rfl) ?_
                refine q_Ru_call (v := (some (.int 1))) (h2 := (q_cM q_AM (q_uI q_IM 0 39 0) q_J0, 34, 31630)) rfl rfl ?_ ?_
                · refine q_Ca_of (Nat.le_of_ble_eq_true rfl) ?_
                  refine q_Ru_seg (g2 := (15, [(0, .int 3867), (1, .int 3840), (2, .int 3887)], [.int 1], (q_cM q_AM (q_uI q_IM 0 39 0) q_J0, 34, 31630))) 8 (fun _ _ => rfl) ?_
                  exact q_Ru_ret rfl rfl
                show q_Ru _ _ _ (10, [(0, .ref 64), (1, .int 3867)], [.int 1], (q_cM q_AM (q_uI q_IM 0 39 0) q_J0, 34, 31630)) _
                refine q_Ru_seg (g2 := (19, [(0, .ref 64), (1, .int 3867)], [.int 27, .ref 64], (q_cM q_AM (q_uI q_IM 0 39 0) q_J0, 34, 31630))) 5 (fun _ _ => rfl) ?_
                refine q_Ru_call (v := (some (.int 0))) (h2 := (q_cM q_AM (q_uI q_IM 0 39 0) q_J0, 34, 31630)) rfl rfl ?_ ?_
                · refine q_Ca_of (Nat.le_of_ble_eq_true rfl) ?_
                  refine q_Ru_seg (g2 := (30, [(0, .ref 64), (1, .int 27)], [.int 15, .int 12, .int 27], (q_cM q_AM (q_uI q_IM 0 39 0) q_J0, 34, 31630))) 9 (fun _ _ => rfl) ?_
                  refine q_Ru_call (v := (some (.int 0))) (h2 := (q_cM q_AM (q_uI q_IM 0 39 0) q_J0, 34, 31630)) rfl rfl ?_ ?_
                  · refine q_Ca_of (Nat.le_of_ble_eq_true rfl) ?_
                    refine q_Ru_seg (g2 := (15, [(0, .int 27), (1, .int 12), (2, .int 15)], [.int 0], (q_cM q_AM (q_uI q_IM 0 39 0) q_J0, 34, 31630))) 7 (fun _ _ => rfl) ?_
                    exact q_Ru_ret rfl rfl
                  show q_Ru _ _ _ (33, [(0, .ref 64), (1, .int 27)], [.int 0], (q_cM q_AM (q_uI q_IM 0 39 0) q_J0, 34, 31630)) _
                  refine q_Ru_seg (g2 := (190, [(0, .ref 64), (1, .int 27)], [.int 0], (q_cM q_AM (q_uI q_IM 0 39 0) q_J0, 34, 31630))) 20 (fun _ _ => rfl) ?_
                  exact q_Ru_ret rfl rfl
                show q_Ru _ _ _ (22, [(0, .ref 64), (1, .int 3867)], [.int 0], (q_cM q_AM (q_uI q_IM 0 39 0) q_J0, 34, 31630)) _
                exact q_Ru_ret rfl rfl
              show q_Ru _ _ _ (28, [(0, .ref 64), (1, .int 3867)], [.int 0], (q_cM q_AM (q_uI q_IM 0 39 0) q_J0, 34, 31630)) _
              exact q_Ru_ret rfl rfl
          | 28, _, e222 =>
            have e222 : a = 3868 := e222
            subst e222
            refine ⟨0, 0, 0, ⟨(q_cX q_AX q_IX (q_uA q_J0 39 (vp_updL (fun _ => 0) 0 0)), 40, 26520), (q_uA q_J0 39 (vp_updL (fun _ => 0) 0 0)) 39, ?_, rfl, fun _ => rfl, Nat.le_of_ble_eq_true rfl, Nat.le_of_ble_eq_true rfl⟩, ⟨(q_cM q_AM (q_uI q_IM 0 39 0) q_J0, 34, 31630), _, ?_, rfl, rfl, Nat.le_of_ble_eq_true rfl, Nat.le_of_ble_eq_true rfl⟩, fun _ => rfl⟩
            · refine q_Ca_of (Nat.le_of_ble_eq_true rfl) ?_
              refine q_Ru_seg (g2 := (4, [(0, .ref 64), (1, .int 3868), (2, .ref 103)], [.int 3868, .ref 64, .int 0, .ref 103], (q_cX q_AX q_IX q_J0, 40, 26520))) 4 (fun _ _ => rfl) ?_
              refine q_Ru_call (v := (some (.int 0))) (h2 := (q_cX q_AX q_IX q_J0, 40, 26520)) rfl rfl ?_ ?_
              · refine q_Ca_of (Nat.le_of_ble_eq_true rfl) ?_
                refine q_Ru_seg (g2 := (1, [(0, .ref 64), (1, .int 3868)], [.int 3868], (q_cX q_AX q_IX q_J0, 40, 26520))) 1 (fun _ _ => rfl) ?_
                refine q_Ru_call (v := none) (h2 := (q_cX q_AX q_IX q_J0, 40, 26520)) rfl rfl ?_ ?_
                · refine q_Ca_of (Nat.le_of_ble_eq_true rfl) ?_
                  refine q_Ru_seg (g2 := (4, [(0, .int 3868)], [.int 4096, .int 3868], (q_cX q_AX q_IX q_J0, 40, 26520))) 2 (fun _ _ => rfl) ?_
                  refine q_Ru_call (v := none) (h2 := (q_cX q_AX q_IX q_J0, 40, 26520)) rfl rfl ?_ ?_
                  · refine q_Ca_of (Nat.le_of_ble_eq_true rfl) ?_
                    refine q_Ru_seg (g2 := (19, [(0, .int 3868), (1, .int 4096)], [], (q_cX q_AX q_IX q_J0, 40, 26520))) 5 (fun _ _ => rfl) ?_
                    exact q_Ru_ret rfl rfl
                  show q_Ru _ _ _ (7, [(0, .int 3868)], [], (q_cX q_AX q_IX q_J0, 40, 26520)) _
                  exact q_Ru_ret rfl rfl
                show q_Ru _ _ _ (4, [(0, .ref 64), (1, .int 3868)], [], (q_cX q_AX q_IX q_J0, 40, 26520)) _
                refine q_Ru_seg (g2 := (12, [(0, .ref 64), (1, .int 3868)], [.int 3868, .ref 66], (q_cX q_AX q_IX q_J0, 40, 26520))) 4 (fun _ _ => rfl) ?_
                refine q_Ru_call (v := (some (.int 0))) (h2 := (q_cX q_AX q_IX q_J0, 40, 26520)) rfl rfl ?_ ?_
                · refine q_Ca_of (Nat.le_of_ble_eq_true rfl) ?_
                  refine q_Ru_seg (g2 := (27, [(2, .int 28), (0, .ref 66), (1, .int 3868)], [.int 0, .int 28, .ref 66], (q_cX q_AX q_IX q_J0, 40, 26520))) 16 (fun _ _ => rfl) ?_
                  refine q_Ru_call (v := (some (.int 0))) (h2 := (q_cX q_AX q_IX q_J0, 40, 26520)) rfl rfl ?_ ?_
                  · refine q_Ca_of (Nat.le_of_ble_eq_true rfl) ?_
                    refine q_Ru_seg (g2 := (183, [(0, .ref 66), (1, .int 28), (2, .int 0)], [.int 0], (q_cX q_AX q_IX q_J0, 40, 26520))) 3 (fun _ _ => rfl) ?_
                    exact q_Ru_ret rfl rfl
                  show q_Ru _ _ _ (30, [(2, .int 28), (0, .ref 66), (1, .int 3868)], [.int 0], (q_cX q_AX q_IX q_J0, 40, 26520)) _
                  exact q_Ru_ret rfl rfl
                show q_Ru _ _ _ (15, [(0, .ref 64), (1, .int 3868)], [.int 0], (q_cX q_AX q_IX q_J0, 40, 26520)) _
                exact q_Ru_ret rfl rfl
              show q_Ru _ _ _ (7, [(0, .ref 64), (1, .int 3868), (2, .ref 103)], [.int 0, .int 0, .ref 103], (q_cX q_AX q_IX q_J0, 40, 26520)) _
              refine q_Ru_seg (g2 := (16, [(0, .ref 64), (1, .int 3868), (2, .ref 103)], [.int 0], (q_cX q_AX q_IX (q_uA q_J0 39 (vp_updL (fun _ => 0) 0 0)), 40, 26520))) 4 (fun _ _ => rfl) ?_
              exact q_Ru_ret rfl rfl
            · refine q_Ca_of (Nat.le_of_ble_eq_true rfl) ?_
              refine q_Ru_seg (g2 := (2, [(0, .ref 64), (1, .int 3868)], [.int 3868, .ref 64], (q_cM q_AM q_IM q_J0, 34, 31630))) 2 (fun _ _ => rfl) ?_
              refine q_Ru_call (v := (some (.int 0))) (h2 := (q_cM q_AM q_IM q_J0, 34, 31630)) rfl rfl ?_ ?_
              · refine q_Ca_of (Nat.le_of_ble_eq_true rfl) ?_
                refine q_Ru_seg (g2 := (5, [(0, .int 3868)], [.int 4095, .int 0, .int 3868], (q_cM q_AM q_IM q_J0, 34, 31630))) 3 (fun _ _ => rfl) ?_
                refine q_Ru_call (v := (some (.int 1))) (h2 := (q_cM q_AM q_IM q_J0, 34, 31630)) rfl rfl ?_ ?_
                · refine q_Ca_of (Nat.le_of_ble_eq_true rfl) ?_
                  refine q_Ru_seg (g2 := (15, [(0, .int 3868), (1, .int 0), (2, .int 4095)], [.int 1], (q_cM q_AM q_IM q_J0, 34, 31630))) 8 (fun _ _ => rfl) ?_
                  exact q_Ru_ret rfl rfl
                show q_Ru _ _ _ (8, [(0, .int 3868)], [.int 1], (q_cM q_AM q_IM q_J0, 34, 31630)) _
                refine q_Ru_seg (g2 := (16, [(0, .int 3868)], [.int 0], (q_cM q_AM q_IM q_J0, 34, 31630))) 2 (fun _ _ => rfl) ?_
                exact q_Ru_ret rfl rfl
              show q_Ru _ _ _ (5, [(0, .ref 64), (1, .int 3868)], [.int 0, .ref 64], (q_cM q_AM q_IM q_J0, 34, 31630)) _
              refine q_Ru_seg (g2 := (13, [(0, .ref 64), (1, .int 3868)], [.int 0, .ref 64], (q_cM q_AM q_IM q_J0, 34, 31630))) 2 (fun _ _ => rfl) ?_
              refine q_Ru_call (v := (some (.int 0))) (h2 := (q_cM q_AM (q_uI q_IM 0 39 0) q_J0, 34, 31630)) rfl rfl ?_ ?_
              · refine q_Ca_of (Nat.le_of_ble_eq_true rfl) ?_
                refine q_Ru_seg (g2 := (14, [(0, .ref 64), (1, .int 0)], [.int 0], (q_cM q_AM (q_uI q_IM 0 39 0) q_J0, 34, 31630))) 6 (fun _ _ => rfl) ?_
                exact q_Ru_ret rfl rfl
              show q_Ru _ _ _ (16, [(0, .ref 64), (1, .int 3868)], [.int 0], (q_cM q_AM (q_uI q_IM 0 39 0) q_J0, 34, 31630)) _
              refine q_Ru_seg (g2 := (25, [(0, .ref 64), (1, .int 3868)], [.int 3868, .ref 64], (q_cM q_AM (q_uI q_IM 0 39 0) q_J0, 34, 31630))) 3 (fun _ _ => rfl) ?_
              refine q_Ru_call (v := (some (.int 0))) (h2 := (q_cM q_AM (q_uI q_IM 0 39 0) q_J0, 34, 31630)) rfl rfl ?_ ?_
              · refine q_Ca_of (Nat.le_of_ble_eq_true rfl) ?_
                refine q_Ru_seg (g2 := (7, [(0, .ref 64), (1, .int 3868)], [.int 3887, .int 3840, .int 3868], (q_cM q_AM (q_uI q_IM 0 39 0) q_J0, 34, 31630))) 3 (fun _ _ => rfl) ?_
                refine q_Ru_call (v := (some (.int 1))) (h2 := (q_cM q_AM (q_uI q_IM 0 39 0) q_J0, 34, 31630)) rfl rfl ?_ ?_
                · refine q_Ca_of (Nat.le_of_ble_eq_true rfl) ?_
                  refine q_Ru_seg (g2 := (15, [(0, .int 3868), (1, .int 3840), (2, .int 3887)], [.int 1], (q_cM q_AM (q_uI q_IM 0 39 0) q_J0, 34, 31630))) 8 (fun _ _ => rfl) ?_
                  exact q_Ru_ret rfl rfl
                show q_Ru _ _ _ (10, [(0, .ref 64), (1, .int 3868)], [.int 1], (q_cM q_AM (q_uI q_IM 0 39 0) q_J0, 34, 31630)) _
                refine q_Ru_seg (g2 := (19, [(0, .ref 64), (1, .int 3868)], [.int 28, .ref 64], (q_cM q_AM (q_uI q_IM 0 39 0) q_J0, 34, 31630))) 5 (fun _ _ => rfl) ?_
                refine q_Ru_call (v := (some (.int 0))) (h2 := (q_cM q_AM (q_uI q_IM 0 39 0) q_J0, 34, 31630)) rfl rfl ?_ ?_
                · refine q_Ca_of (Nat.le_of_ble_eq_true rfl) ?_
                  refine q_Ru_seg (g2 := (30, [(0, .ref 64), (1, .int 28)], [.int 15, .int 12, .int 28], (q_cM q_AM (q_uI q_IM 0 39 0) q_J0, 34, 31630))) 9 (fun _ _ => rfl) ?_
                  refine q_Ru_call (v := (some (.int 0))) (h2 := (q_cM q_AM (q_uI q_IM 0 39 0) q_J0, 34, 31630)) rfl rfl ?_ ?_
                  · refine q_Ca_of (Nat.le_of_ble_eq_true rfl) ?_
                    refine q_Ru_seg (g2 := (15, [(0, .int 28), (1, .int 12), (2, .int 15)], [.int 0], (q_cM q_AM (q_uI q_IM 0 39 0) q_J0, 34, 31630))) 7 (fun _ _ => rfl) ?_
                    exact q_Ru_ret rfl rfl
                  show q_Ru _ _ _ (33, [(0, .ref 64), (1, .int 28)], [.int 0], (q_cM q_AM (q_uI q_IM 0 39 0) q_J0, 34, 31630)) _
                  refine q_Ru_seg (g2 := (190, [(0, .ref 64), (1, .int 28)], [.int 0], (q_cM q_AM (q_uI q_IM 0 39 0) q_J0, 34, 31630))) 20 (fun _ _ => rfl) ?_
                  exact q_Ru_ret rfl rfl
                show q_Ru _ _ _ (22, [(0, .ref 64), (1, .int 3868)], [.int 0], (q_cM q_AM (q_uI q_IM 0 39 0) q_J0, 34, 31630)) _
                exact q_Ru_ret rfl rfl
              show q_Ru _ _ _ (28, [(0, .ref 64), (1, .int 3868)], [.int 0], (q_cM q_AM (q_uI q_IM 0 39 0) q_J0, 34, 31630)) _
              exact q_Ru_ret rfl rfl
          | 29, _, e222 =>
            have e222 : a = 3869 := e222
            subst e222
            refine ⟨0, 0, 0, ⟨(q_cX q_AX q_IX (q_uA q_J0 39 (vp_updL (fun _ => 0) 0 0)), 40, 26520), (q_uA q_J0 39 (vp_updL (fun _ => 0) 0 0)) 39, ?_, rfl, fun _ => rfl, Nat.le_of_ble_eq_true rfl, Nat.le_of_ble_eq_true rfl⟩, ⟨(q_cM q_AM (q_uI q_IM 0 39 0) q_J0, 34, 31630), _, ?_, rfl, rfl, Nat.le_of_ble_eq_true rfl, Nat.le_of_ble_eq_true rfl⟩, fun _ => rfl⟩
            · refine q_Ca_of (Nat.le_of_ble_eq_true rfl) ?_
              refine q_Ru_seg (g2 := (4, [(0, .ref 64), (1, .int 3869), (2, .ref 103)], [.int 3869, .ref 64, .int 0, .ref 103], (q_cX q_AX q_IX q_J0, 40, 26520))) 4 (fun _ _ => rfl) ?_
              refine q_Ru_call (v := (some (.int 0))) (h2 := (q_cX q_AX q_IX q_J0, 40, 26520)) rfl rfl ?_ ?_
              · refine q_Ca_of (Nat.le_of_ble_eq_true rfl) ?_
                refine q_Ru_seg (g2 := (1, [(0, .ref 64), (1, .int 3869)], [.int 3869], (q_cX q_AX q_IX q_J0, 40, 26520))) 1 (fun _ _ => rfl) ?_
                refine q_Ru_call (v := none) (h2 := (q_cX q_AX q_IX q_J0, 40, 26520)) rfl rfl ?_ ?_
                · refine q_Ca_of (Nat.le_of_ble_eq_true rfl) ?_
                  refine q_Ru_seg (g2 := (4, [(0, .int 3869)], [.int 4096, .int 3869], (q_cX q_AX q_IX q_J0, 40, 26520))) 2 (fun _ _ => rfl) ?_
                  refine q_Ru_call (v := none) (h2 := (q_cX q_AX q_IX q_J0, 40, 26520)) rfl rfl ?_ ?_
                  · refine q_Ca_of (Nat.le_of_ble_eq_true rfl) ?_
                    refine q_Ru_seg (g2 := (19, [(0, .int 3869), (1, .int 4096)], [], (q_cX q_AX q_IX q_J0, 40, 26520))) 5 (fun _ _ => rfl) ?_
                    exact q_Ru_ret rfl rfl
                  show q_Ru _ _ _ (7, [(0, .int 3869)], [], (q_cX q_AX q_IX q_J0, 40, 26520)) _
                  exact q_Ru_ret rfl rfl
                show q_Ru _ _ _ (4, [(0, .ref 64), (1, .int 3869)], [], (q_cX q_AX q_IX q_J0, 40, 26520)) _
                refine q_Ru_seg (g2 := (12, [(0, .ref 64), (1, .int 3869)], [.int 3869, .ref 66], (q_cX q_AX q_IX q_J0, 40, 26520))) 4 (fun _ _ => rfl) ?_
                refine q_Ru_call (v := (some (.int 0))) (h2 := (q_cX q_AX q_IX q_J0, 40, 26520)) rfl rfl ?_ ?_
                · refine q_Ca_of (Nat.le_of_ble_eq_true rfl) ?_
                  refine q_Ru_seg (g2 := (27, [(2, .int 29), (0, .ref 66), (1, .int 3869)], [.int 0, .int 29, .ref 66], (q_cX q_AX q_IX q_J0, 40, 26520))) 16 (fun _ _ => rfl) ?_
                  refine q_Ru_call (v := (some (.int 0))) (h2 := (q_cX q_AX q_IX q_J0, 40, 26520)) rfl rfl ?_ ?_
                  · refine q_Ca_of (Nat.le_of_ble_eq_true rfl) ?_
                    refine q_Ru_seg (g2 := (183, [(0, .ref 66), (1, .int 29), (2, .int 0)], [.int 0], (q_cX q_AX q_IX q_J0, 40, 26520))) 3 (fun _ _ => rfl) ?_
                    exact q_Ru_ret rfl rfl
                  show q_Ru _ _ _ (30, [(2, .int 29), (0, .ref 66), (1, .int 3869)], [.int 0], (q_cX q_AX q_IX q_J0, 40, 26520)) _
                  exact q_Ru_ret rfl rfl
                show q_Ru _ _ _ (15, [(0, .ref 64), (1, .int 3869)], [.int 0], (q_cX q_AX q_IX q_J0, 40, 26520)) _
                exact q_Ru_ret rfl rfl
              show q_Ru _ _ _ (7, [(0, .ref 64), (1, .int 3869), (2, .ref 103)], [.int 0, .int 0, .ref 103], (q_cX q_AX q_IX q_J0, 40, 26520)) _
              refine q_Ru_seg (g2 := (16, [(0, .ref 64), (1, .int 3869), (2, .ref 103)], [.int 0], (q_cX q_AX q_IX (q_uA q_J0 39 (vp_updL (fun _ => 0) 0 0)), 40, 26520))) 4 (fun _ _ => rfl) ?_
              exact q_Ru_ret rfl rfl
            · refine q_Ca_of (Nat.le_of_ble_eq_true rfl) ?_
              refine q_Ru_seg (g2 := (2, [(0, .ref 64), (1, .int 3869)], [.int 3869, .ref 64], (q_cM q_AM q_IM q_J0, 34, 31630))) 2 (fun _ _ => rfl) ?_
              refine q_Ru_call (v := (some (.int 0))) (h2 := (q_cM q_AM q_IM q_J0, 34, 31630)) rfl rfl ?_ ?_
              · refine q_Ca_of (Nat.le_of_ble_eq_true rfl) ?_
                refine q_Ru_seg (g2 := (5, [(0, .int 3869)], [.int 4095, .int 0, .int 3869], (q_cM q_AM q_IM q_J0, 34, 31630))) 3 (fun _ _ => rfl) ?_
                refine q_Ru_call (v := (some (.int 1))) (h2 := (q_cM q_AM q_IM q_J0, 34, 31630)) rfl rfl ?_ ?_
                · refine q_Ca_of (Nat.le_of_ble_eq_true rfl) ?_
                  refine q_Ru_seg (g2 := (15, [(0, .int 3869), (1, .int 0), (2, .int 4095)], [.int 1], (q_cM q_AM q_IM q_J0, 34, 31630))) 8 (fun _ _ => rfl) ?_
                  exact q_Ru_ret rfl rfl
                show q_Ru _ _ _ (8, [(0, .int 3869)], [.int 1], (q_cM q_AM q_IM q_J0, 34, 31630)) _
                refine q_Ru_seg (g2 := (16, [(0, .int 3869)], [.int 0], (q_cM q_AM q_IM q_J0, 34, 31630))) 2 (fun _ _ => rfl) ?_
                exact q_Ru_ret rfl rfl
              show q_Ru _ _ _ (5, [(0, .ref 64), (1, .int 3869)], [.int 0, .ref 64], (q_cM q_AM q_IM q_J0, 34, 31630)) _
              refine q_Ru_seg (g2 := (13, [(0, .ref 64), (1, .int 3869)], [.int 0, .ref 64], (q_cM q_AM q_IM q_J0, 34, 31630))) 2 (fun _ _ => rfl) ?_
              refine q_Ru_call (v := (some (.int 0))) (h2 := (q_cM q_AM (q_uI q_IM 0 39 0) q_J0, 34, 31630)) rfl rfl ?_ ?_
              · refine q_Ca_of (Nat.le_of_ble_eq_true rfl) ?_
                refine q_Ru_seg (g2 := (14, [(0, .ref 64), (1, .int 0)], [.int 0], (q_cM q_AM (q_uI q_IM 0 39 0) q_J0, 34, 31630))) 6 (fun _ _ => rfl) ?_
                exact q_Ru_ret rfl rfl
              show q_Ru _ _ _ (16, [(0, .ref 64), (1, .int 3869)], [.int 0], (q_cM q_AM (q_uI q_IM 0 39 0) q_J0, 34, 31630)) _
              refine q_Ru_seg (g2 := (25, [(0, .ref 64), (1, .int 3869)], [.int 3869, .ref 64], (q_cM q_AM (q_uI q_IM 0 39 0) q_J0, 34, 31630))) 3 (fun _ _ => rfl) ?_
              refine q_Ru_call (v := (some (.int 0))) (h2 := (q_cM q_AM (q_uI q_IM 0 39 0) q_J0, 34, 31630)) rfl rfl ?_ ?_
              · refine q_Ca_of (Nat.le_of_ble_eq_true rfl) ?_
                refine q_Ru_seg (g2 := (7, [(0, .ref 64), (1, .int 3869)], [.int 3887, .int 3840, .int 3869], (q_cM q_AM (q_uI q_IM 0 39 0) q_J0, 34, 31630))) 3 (fun _ _ => rfl) ?_
                refine q_Ru_call (v := (some (.int 1))) (h2 := (q_cM q_AM (q_uI q_IM 0 39 0) q_J0, 34, 31630)) rfl rfl ?_ ?_
                · refine q_Ca_of (Nat.le_of_ble_eq_true rfl) ?_
                  refine q_Ru_seg (g2 := (15, [(0, .int 3869), (1, .int 3840), (2, .int 3887)], [.int 1], (q_cM q_AM (q_uI q_IM 0 39 0) q_J0, 34, 31630))) 8 (fun _ _ => rfl) ?_
                  exact q_Ru_ret rfl rfl
                show q_Ru _ _ _ (10, [(0, .ref 64), (1, .int 3869)], [.int 1], (q_cM q_AM (q_uI q_IM 0 39 0) q_J0, 34, 31630)) _
                refine q_Ru_seg (g2 := (19, [(0, .ref 64), (1, .int 3869)], [.int 29, .ref 64], (q_cM q_AM (q_uI q_IM 0 39 0) q_J0, 34, 31630))) 5 (fun _ _ => rfl) ?_
                refine q_Ru_call (v := (some (.int 0))) (h2 := (q_cM q_AM (q_uI q_IM 0 39 0) q_J0, 34, 31630)) rfl rfl ?_ ?_
                · refine q_Ca_of (Nat.le_of_ble_eq_true rfl) ?_
                  refine q_Ru_seg (g2 := (30, [(0, .ref 64), (1, .int 29)], [.int 15, .int 12, .int 29], (q_cM q_AM (q_uI q_IM 0 39 0) q_J0, 34, 31630))) 9 (fun _ _ => rfl) ?_
                  refine q_Ru_call (v := (some (.int 0))) (h2 := (q_cM q_AM (q_uI q_IM 0 39 0) q_J0, 34, 31630)) rfl rfl ?_ ?_
                  · refine q_Ca_of (Nat.le_of_ble_eq_true rfl) ?_
                    refine q_Ru_seg (g2 := (15, [(0, .int 29), (1, .int 12), (2, .int 15)], [.int 0], (q_cM q_AM (q_uI q_IM 0 39 0) q_J0, 34, 31630))) 7 (fun _ _ => rfl) ?_
                    exact q_Ru_ret rfl rfl
                  show q_Ru _ _ _ (33, [(0, .ref 64), (1, .int 29)], [.int 0], (q_cM q_AM (q_uI q_IM 0 39 0) q_J0, 34, 31630)) _
                  refine q_Ru_seg (g2 := (93, [(0, .ref 64), (1, .int 29)], [.int 0], (q_cM q_AM (q_uI q_IM 0 39 0) q_J0, 34, 31630))) 8 (fun _ _ => rfl) ?_
                  exact q_Ru_ret rfl rfl
                show q_Ru _ _ _ (22, [(0, .ref 64), (1, .int 3869)], [.int 0], (q_cM q_AM (q_uI q_IM 0 39 0) q_J0, 34, 31630)) _
                exact q_Ru_ret rfl rfl
              show q_Ru _ _ _ (28, [(0, .ref 64), (1, .int 3869)], [.int 0], (q_cM q_AM (q_uI q_IM 0 39 0) q_J0, 34, 31630)) _
              exact q_Ru_ret rfl rfl
          | 30, _, e222 =>
            have e222 : a = 3870 := e222
            subst e222
            refine ⟨0, 0, 0, ⟨(q_cX q_AX q_IX (q_uA q_J0 39 (vp_updL (fun _ => 0) 0 0)), 40, 26520), (q_uA q_J0 39 (vp_updL (fun _ => 0) 0 0)) 39, ?_, rfl, fun _ => rfl, Nat.le_of_ble_eq_true rfl, Nat.le_of_ble_eq_true rfl⟩, ⟨(q_cM q_AM (q_uI q_IM 0 39 0) q_J0, 34, 31630), _, ?_, rfl, rfl, Nat.le_of_ble_eq_true rfl, Nat.le_of_ble_eq_true rfl⟩, fun _ => rfl⟩
            · refine q_Ca_of (Nat.le_of_ble_eq_true rfl) ?_
              refine q_Ru_seg (g2 := (4, [(0, .ref 64), (1, .int 3870), (2, .ref 103)], [.int 3870, .ref 64, .int 0, .ref 103], (q_cX q_AX q_IX q_J0, 40, 26520))) 4 (fun _ _ => rfl) ?_
              refine q_Ru_call (v := (some (.int 0))) (h2 := (q_cX q_AX q_IX q_J0, 40, 26520)) rfl rfl ?_ ?_
              · refine q_Ca_of (Nat.le_of_ble_eq_true rfl) ?_
                refine q_Ru_seg (g2 := (1, [(0, .ref 64), (1, .int 3870)], [.int 3870], (q_cX q_AX q_IX q_J0, 40, 26520))) 1 (fun _ _ => rfl) ?_
                refine q_Ru_call (v := none) (h2 := (q_cX q_AX q_IX q_J0, 40, 26520)) rfl rfl ?_ ?_
                · refine q_Ca_of (Nat.le_of_ble_eq_true rfl) ?_
                  refine q_Ru_seg (g2 := (4, [(0, .int 3870)], [.int 4096, .int 3870], (q_cX q_AX q_IX q_J0, 40, 26520))) 2 (fun _ _ => rfl) ?_
                  refine q_Ru_call (v := none) (h2 := (q_cX q_AX q_IX q_J0, 40, 26520)) rfl rfl ?_ ?_
                  · refine q_Ca_of (Nat.le_of_ble_eq_true rfl) ?_
                    refine q_Ru_seg (g2 := (19, [(0, .int 3870), (1, .int 4096)], [], (q_cX q_AX q_IX q_J0, 40, 26520))) 5 (fun _ _ => rfl) ?_
                    exact q_Ru_ret rfl rfl
                  show q_Ru _ _ _ (7, [(0, .int 3870)], [], (q_cX q_AX q_IX q_J0, 40, 26520)) _
                  exact q_Ru_ret rfl rfl
                show q_Ru _ _ _ (4, [(0, .ref 64), (1, .int 3870)], [], (q_cX q_AX q_IX q_J0, 40, 26520)) _
                refine q_Ru_seg (g2 := (12, [(0, .ref 64), (1, .int 3870)], [.int 3870, .ref 66], (q_cX q_AX q_IX q_J0, 40, 26520))) 4 (fun _ _ => rfl) ?_
                refine q_Ru_call (v := (some (.int 0))) (h2 := (q_cX q_AX q_IX q_J0, 40, 26520)) rfl rfl ?_ ?_
                · refine q_Ca_of (Nat.le_of_ble_eq_true rfl) ?_
                  refine q_Ru_seg (g2 := (27, [(2, .int 30), (0, .ref 66), (1, .int 3870)], [.int 0, .int 30, .ref 66], (q_cX q_AX q_IX q_J0, 40, 26520))) 16 (fun _ _ => rfl) ?_
                  refine q_Ru_call (v := (some (.int 0))) (h2 := (q_cX q_AX q_IX q_J0, 40, 26520)) rfl rfl ?_ ?_
                  · refine q_Ca_of (Nat.le_of_ble_eq_true rfl) ?_
                    refine q_Ru_seg (g2 := (183, [(0, .ref 66), (1, .int 30), (2, .int 0)], [.int 0], (q_cX q_AX q_IX q_J0, 40, 26520))) 3 (fun _ _ => rfl) ?_
                    exact q_Ru_ret rfl rfl
                  show q_Ru _ _ _ (30, [(2, .int 30), (0, .ref 66), (1, .int 3870)], [.int 0], (q_cX q_AX q_IX q_J0, 40, 26520)) _
                  exact q_Ru_ret rfl rfl
                show q_Ru _ _ _ (15, [(0, .ref 64), (1, .int 3870)], [.int 0], (q_cX q_AX q_IX q_J0, 40, 26520)) _
                exact q_Ru_ret rfl rfl
              show q_Ru _ _ _ (7, [(0, .ref 64), (1, .int 3870), (2, .ref 103)], [.int 0, .int 0, .ref 103], (q_cX q_AX q_IX q_J0, 40, 26520)) _
              refine q_Ru_seg (g2 := (16, [(0, .ref 64), (1, .int 3870), (2, .ref 103)], [.int 0], (q_cX q_AX q_IX (q_uA q_J0 39 (vp_updL (fun _ => 0) 0 0)), 40, 26520))) 4 (fun _ _ => rfl) ?_
              exact q_Ru_ret rfl rfl
            · refine q_Ca_of (Nat.le_of_ble_eq_true rfl) ?_
              refine q_Ru_seg (g2 := (2, [(0, .ref 64), (1, .int 3870)], [.int 3870, .ref 64], (q_cM q_AM q_IM q_J0, 34, 31630))) 2 (fun _ _ => rfl) ?_
              refine q_Ru_call (v := (some (.int 0))) (h2 := (q_cM q_AM q_IM q_J0, 34, 31630)) rfl rfl ?_ ?_
              · refine q_Ca_of (Nat.le_of_ble_eq_true rfl) ?_
                refine q_Ru_seg (g2 := (5, [(0, .int 3870)], [.int 4095, .int 0, .int 3870], (q_cM q_AM q_IM q_J0, 34, 31630))) 3 (fun _ _ => rfl) ?_
                refine q_Ru_call (v := (some (.int 1))) (h2 := (q_cM q_AM q_IM q_J0, 34, 31630)) rfl rfl ?_ ?_
                · refine q_Ca_of (Nat.le_of_ble_eq_true rfl) ?_
                  refine q_Ru_seg (g2 := (15, [(0, .int 3870), (1, .int 0), (2, .int 4095)], [.int 1], (q_cM q_AM q_IM q_J0, 34, 31630))) 8 (fun _ _ => rfl) ?_
                  exact q_Ru_ret rfl rfl
                show q_Ru _ _ _ (8, [(0, .int 3870)], [.int 1], (q_cM q_AM q_IM q_J0, 34, 31630)) _
                refine q_Ru_seg (g2 := (16, [(0, .int 3870)], [.int 0], (q_cM q_AM q_IM q_J0, 34, 31630))) 2 (fun _ _ => rfl) ?_
                exact q_Ru_ret rfl rfl
              show q_Ru _ _ _ (5, [(0, .ref 64), (1, .int 3870)], [.int 0, .ref 64], (q_cM q_AM q_IM q_J0, 34, 31630)) _
              refine q_Ru_seg (g2 := (13, [(0, .ref 64), (1, .int 3870)], [.int 0, .ref 64], (q_cM q_AM q_IM q_J0, 34, 31630))) 2 (fun _ _ => rfl) ?_
              refine q_Ru_call (v := (some (.int 0))) (h2 := (q_cM q_AM (q_uI q_IM 0 39 0) q_J0, 34, 31630)) rfl rfl ?_ ?_
              · refine q_Ca_of (Nat.le_of_ble_eq_true rfl) ?_
                refine q_Ru_seg (g2 := (14, [(0, .ref 64), (1, .int 0)], [.int 0], (q_cM q_AM (q_uI q_IM 0 39 0) q_J0, 34, 31630))) 6 (fun _ _ => rfl) ?_
                exact q_Ru_ret rfl rfl
              show q_Ru _ _ _ (16, [(0, .ref 64), (1, .int 3870)], [.int 0], (q_cM q_AM (q_uI q_IM 0 39 0) q_J0, 34, 31630)) _
              refine q_Ru_seg (g2 := (25, [(0, .ref 64), (1, .int 3870)], [.int 3870, .ref 64], (q_cM q_AM (q_uI q_IM 0 39 0) q_J0, 34, 31630))) 3 (fun _ _ => rfl) ?_
              refine q_Ru_call (v := (some (.int 0))) (h2 := (q_cM q_AM (q_uI q_IM 0 39 0) q_J0, 34, 31630)) rfl rfl ?_ ?_
              · refine q_Ca_of (Nat.le_of_ble_eq_true rfl) ?_
                refine q_Ru_seg (g2 := (7, [(0, .ref 64), (1, .int 3870)], [.int 3887, .int 3840, .int 3870], (q_cM q_AM (q_uI q_IM 0 39 0) q_J0, 34, 31630))) 3 (fun _ _ => rfl) ?_
                refine q_Ru_call (v := (some (.int 1))) (h2 := (q_cM q_AM (q_uI q_IM 0 39 0) q_J0, 34, 31630)) rfl rfl ?_ ?_
                · refine q_Ca_of (Nat.le_of_ble_eq_true rfl) ?_
                  refine q_Ru_seg (g2 := (15, [(0, .int 3870), (1, .int 3840), (2, .int 3887)], [.int 1], (q_cM q_AM (q_uI q_IM 0 39 0) q_J0, 34, 31630))) 8 (fun _ _ => rfl) ?_
                  exact q_Ru_ret rfl rfl
                show q_Ru _ _ _ (10, [(0, .ref 64), (1, .int 3870)], [.int 1], (q_cM q_AM (q_uI q_IM 0 39 0) q_J0, 34, 31630)) _
                refine q_Ru_seg (g2 := (19, [(0, .ref 64), (1, .int 3870)], [.int 30, .ref 64], (q_cM q_AM (q_uI q_IM 0 39 0) q_J0, 34, 31630))) 5 (fun _ _ => rfl) ?_
                refine q_Ru_call (v := (some (.int 0))) (h2 := (q_cM q_AM (q_uI q_IM 0 39 0) q_J0, 34, 31630)) rfl rfl ?_ ?_
                · refine q_Ca_of (Nat.le_of_ble_eq_true rfl) ?_
                  refine q_Ru_seg (g2 := (30, [(0, .ref 64), (1, .int 30)], [.int 15, .int 12, .int 30], (q_cM q_AM (q_uI q_IM 0 39 0) q_J0, 34, 31630))) 9 (fun _ _ => rfl) ?_
                  refine q_Ru_call (v := (some (.int 0))) (h2 := (q_cM q_AM (q_uI q_IM 0 39 0) q_J0, 34, 31630)) rfl rfl ?_ ?_
                  · refine q_Ca_of (Nat.le_of_ble_eq_true rfl) ?_
                    refine q_Ru_seg (g2 := (15, [(0, .int 30), (1, .int 12), (2, .int 15)], [.int 0], (q_cM q_AM (q_uI q_IM 0 39 0) q_J0, 34, 31630))) 7 (fun _ _ => rfl) ?_
                    exact q_Ru_ret rfl rfl
                  show q_Ru _ _ _ (33, [(0, .ref 64), (1, .int 30)], [.int 0], (q_cM q_AM (q_uI q_IM 0 39 0) q_J0, 34, 31630)) _
                  refine q_Ru_seg (g2 := (107, [(0, .ref 64), (1, .int 30)], [.int 0], (q_cM q_AM (q_uI q_IM 0 39 0) q_J0, 34, 31630))) 11 (fun _ _ => rfl) ?_
                  exact q_Ru_ret rfl rfl
                show q_Ru _ _ _ (22, [(0, .ref 64), (1, .int 3870)], [.int 0], (q_cM q_AM (q_uI q_IM 0 39 0) q_J0, 34, 31630)) _
                exact q_Ru_ret rfl rfl
              show q_Ru _ _ _ (28, [(0, .ref 64), (1, .int 3870)], [.int 0], (q_cM q_AM (q_uI q_IM 0 39 0) q_J0, 34, 31630)) _
              exact q_Ru_ret rfl rfl
          | 31, _, e222 =>
            have e222 : a = 3871 := e222
            subst e222
            refine ⟨0, 0, 0, ⟨(q_cX q_AX q_IX (q_uA q_J0 39 (vp_updL (fun _ => 0) 0 0)), 40, 26520), (q_uA q_J0 39 (vp_updL (fun _ => 0) 0 0)) 39, ?_, rfl, fun _ => rfl, Nat.le_of_ble_eq_true rfl, Nat.le_of_ble_eq_true rfl⟩, ⟨(q_cM (q_uA (q_uA (q_uA (q_uA (q_uA (q_uA (q_uA (q_uA q_AM 33 (upd (fun _ => 0) 0 0)) 33 (upd (upd (fun _ => 0) 0 0) 4 0)) 33 (upd (upd (upd (fun _ => 0) 0 0) 4 0) 1 0)) 33 (upd (upd (upd (upd (fun _ => 0) 0 0) 4 0) 1 0) 5 0)) 33 (upd (upd (upd (upd (upd (fun _ => 0) 0 0) 4 0) 1 0) 5 0) 2 0)) 33 (upd (upd (upd (upd (upd (upd (fun _ => 0) 0 0) 4 0) 1 0) 5 0) 2 0) 6 0)) 33 (upd (upd (upd (upd (upd (upd (upd (fun _ => 0) 0 0) 4 0) 1 0) 5 0) 2 0) 6 0) 3 0)) 33 (upd (upd (upd (upd (upd (upd (upd (upd (fun _ => 0) 0 0) 4 0) 1 0) 5 0) 2 0) 6 0) 3 0) 7 0)) (q_uI q_IM 0 39 0) q_J0, 34, 31630), _, ?_, rfl, rfl, Nat.le_of_ble_eq_true rfl, Nat.le_of_ble_eq_true rfl⟩, fun _ => rfl⟩
            · refine q_Ca_of (Nat.le_of_ble_eq_true rfl) ?_
              refine q_Ru_seg (g2 := (4, [(0, .ref 64), (1, .int 3871), (2, .ref 103)], [.int 3871, .ref 64, .int 0, .ref 103], (q_cX q_AX q_IX q_J0, 40, 26520))) 4 (fun _ _ => rfl) ?_
              refine q_Ru_call (v := (some (.int 0))) (h2 := (q_cX q_AX q_IX q_J0, 40, 26520)) rfl rfl ?_ ?_
              · refine q_Ca_of (Nat.le_of_ble_eq_true rfl) ?_
                refine q_Ru_seg (g2 := (1, [(0, .ref 64), (1, .int 3871)], [.int 3871], (q_cX q_AX q_IX q_J0, 40, 26520))) 1 (fun _ _ => rfl) ?_
                refine q_Ru_call (v := none) (h2 := (q_cX q_AX q_IX q_J0, 40, 26520)) rfl rfl ?_ ?_
                · refine q_Ca_of (Nat.le_of_ble_eq_true rfl) ?_
                  refine q_Ru_seg (g2 := (4, [(0, .int 3871)], [.int 4096, .int 3871], (q_cX q_AX q_IX q_J0, 40, 26520))) 2 (fun _ _ => rfl) ?_
                  refine q_Ru_call (v := none) (h2 := (q_cX q_AX q_IX q_J0, 40, 26520)) rfl rfl ?_ ?_
                  · refine q_Ca_of (Nat.le_of_ble_eq_true rfl) ?_
                    refine q_Ru_seg (g2 := (19, [(0, .int 3871), (1, .int 4096)], [], (q_cX q_AX q_IX q_J0, 40, 26520))) 5 (fun _ _ => rfl) ?_
                    exact q_Ru_ret rfl rfl
                  show q_Ru _ _ _ (7, [(0, .int 3871)], [], (q_cX q_AX q_IX q_J0, 40, 26520)) _
                  exact q_Ru_ret rfl rfl
                show q_Ru _ _ _ (4, [(0, .ref 64), (1, .int 3871)], [], (q_cX q_AX q_IX q_J0, 40, 26520)) _
                refine q_Ru_seg (g2 := (12, [(0, .ref 64), (1, .int 3871)], [.int 3871, .ref 66], (q_cX q_AX q_IX q_J0, 40, 26520))) 4 (fun _ _ => rfl) ?_
                refine q_Ru_call (v := (some (.int 0))) (h2 := (q_cX q_AX q_IX q_J0, 40, 26520)) rfl rfl ?_ ?_
                · refine q_Ca_of (Nat.le_of_ble_eq_true rfl) ?_
                  refine q_Ru_seg (g2 := (27, [(2, .int 31), (0, .ref 66), (1, .int 3871)], [.int 0, .int 31, .ref 66], (q_cX q_AX q_IX q_J0, 40, 26520))) 16 (fun _ _ => rfl) ?_
                  refine q_Ru_call (v := (some (.int 0))) (h2 := (q_cX q_AX q_IX q_J0, 40, 26520)) rfl rfl ?_ ?_
                  · refine q_Ca_of (Nat.le_of_ble_eq_true rfl) ?_
                    refine q_Ru_seg (g2 := (146, [(0, .ref 66), (1, .int 31), (2, .int 0)], [.int 0], (q_cX q_AX q_IX q_J0, 40, 26520))) 15 (fun _ _ => rfl) ?_
                    exact q_Ru_ret rfl rfl
                  show q_Ru _ _ _ (30, [(2, .int 31), (0, .ref 66), (1, .int 3871)], [.int 0], (q_cX q_AX q_IX q_J0, 40, 26520)) _
                  exact q_Ru_ret rfl rfl
                show q_Ru _ _ _ (15, [(0, .ref 64), (1, .int 3871)], [.int 0], (q_cX q_AX q_IX q_J0, 40, 26520)) _
                exact q_Ru_ret rfl rfl
              show q_Ru _ _ _ (7, [(0, .ref 64), (1, .int 3871), (2, .ref 103)], [.int 0, .int 0, .ref 103], (q_cX q_AX q_IX q_J0, 40, 26520)) _
              refine q_Ru_seg (g2 := (16, [(0, .ref 64), (1, .int 3871), (2, .ref 103)], [.int 0], (q_cX q_AX q_IX (q_uA q_J0 39 (vp_updL (fun _ => 0) 0 0)), 40, 26520))) 4 (fun _ _ => rfl) ?_
              exact q_Ru_ret rfl rfl
            · refine q_Ca_of (Nat.le_of_ble_eq_true rfl) ?_
              refine q_Ru_seg (g2 := (2, [(0, .ref 64), (1, .int 3871)], [.int 3871, .ref 64], (q_cM q_AM q_IM q_J0, 34, 31630))) 2 (fun _ _ => rfl) ?_
              refine q_Ru_call (v := (some (.int 0))) (h2 := (q_cM q_AM q_IM q_J0, 34, 31630)) rfl rfl ?_ ?_
              · refine q_Ca_of (Nat.le_of_ble_eq_true rfl) ?_
                refine q_Ru_seg (g2 := (5, [(0, .int 3871)], [.int 4095, .int 0, .int 3871], (q_cM q_AM q_IM q_J0, 34, 31630))) 3 (fun _ _ => rfl) ?_
                refine q_Ru_call (v := (some (.int 1))) (h2 := (q_cM q_AM q_IM q_J0, 34, 31630)) rfl rfl ?_ ?_
                · refine q_Ca_of (Nat.le_of_ble_eq_true rfl) ?_
                  refine q_Ru_seg (g2 := (15, [(0, .int 3871), (1, .int 0), (2, .int 4095)], [.int 1], (q_cM q_AM q_IM q_J0, 34, 31630))) 8 (fun _ _ => rfl) ?_
                  exact q_Ru_ret rfl rfl
                show q_Ru _ _ _ (8, [(0, .int 3871)], [.int 1], (q_cM q_AM q_IM q_J0, 34, 31630)) _
                refine q_Ru_seg (g2 := (16, [(0, .int 3871)], [.int 0], (q_cM q_AM q_IM q_J0, 34, 31630))) 2 (fun _ _ => rfl) ?_
                exact q_Ru_ret rfl rfl
              show q_Ru _ _ _ (5, [(0, .ref 64), (1, .int 3871)], [.int 0, .ref 64], (q_cM q_AM q_IM q_J0, 34, 31630)) _
              refine q_Ru_seg (g2 := (13, [(0, .ref 64), (1, .int 3871)], [.int 0, .ref 64], (q_cM q_AM q_IM q_J0, 34, 31630))) 2 (fun _ _ => rfl) ?_
              refine q_Ru_call (v := (some (.int 0))) (h2 := (q_cM q_AM (q_uI q_IM 0 39 0) q_J0, 34, 31630)) rfl rfl ?_ ?_
              · refine q_Ca_of (Nat.le_of_ble_eq_true rfl) ?_
                refine q_Ru_seg (g2 := (14, [(0, .ref 64), (1, .int 0)], [.int 0], (q_cM q_AM (q_uI q_IM 0 39 0) q_J0, 34, 31630))) 6 (fun _ _ => rfl) ?_
                exact q_Ru_ret rfl rfl
              show q_Ru _ _ _ (16, [(0, .ref 64), (1, .int 3871)], [.int 0], (q_cM q_AM (q_uI q_IM 0 39 0) q_J0, 34, 31630)) _
              refine q_Ru_seg (g2 := (25, [(0, .ref 64), (1, .int 3871)], [.int 3871, .ref 64], (q_cM q_AM (q_uI q_IM 0 39 0) q_J0, 34, 31630))) 3 (fun _ _ => rfl) ?_
              refine q_Ru_call (v := (some (.int 0))) (h2 := (q_cM (q_uA (q_uA (q_uA (q_uA (q_uA (q_uA (q_uA (q_uA q_AM 33 (upd (fun _ => 0) 0 0)) 33 (upd (upd (fun _ => 0) 0 0) 4 0)) 33 (upd (upd (upd (fun _ => 0) 0 0) 4 0) 1 0)) 33 (upd (upd (upd (upd (fun _ => 0) 0 0) 4 0) 1 0) 5 0)) 33 (upd (upd (upd (upd (upd (fun _ => 0) 0 0) 4 0) 1 0) 5 0) 2 0)) 33 (upd (upd (upd (upd (upd (upd (fun _ => 0) 0 0) 4 0) 1 0) 5 0) 2 0) 6 0)) 33 (upd (upd (upd (upd (upd (upd (upd (fun _ => 0) 0 0) 4 0) 1 0) 5 0) 2 0) 6 0) 3 0)) 33 (upd (upd (upd (upd (upd (upd (upd (upd (fun _ => 0) 0 0) 4 0) 1 0) 5 0) 2 0) 6 0) 3 0) 7 0)) (q_uI q_IM 0 39 0) q_J0, 34, 31630)) rfl rfl ?_ ?_
              · refine q_Ca_of (Nat.le_of_ble_eq_true rfl) ?_
                refine q_Ru_seg (g2 := (7, [(0, .ref 64), (1, .int 3871)], [.int 3887, .int 3840, .int 3871], (q_cM q_AM (q_uI q_IM 0 39 0) q_J0, 34, 31630))) 3 (fun _ _ => rfl) ?_
                refine q_Ru_call (v := (some (.int 1))) (h2 := (q_cM q_AM (q_uI q_IM 0 39 0) q_J0, 34, 31630)) rfl rfl ?_ ?_
                · refine q_Ca_of (Nat.le_of_ble_eq_true rfl) ?_
                  refine q_Ru_seg (g2 := (15, [(0, .int 3871), (1, .int 3840), (2, .int 3887)], [.int 1], (q_cM q_AM (q_uI q_IM 0 39 0) q_J0, 34, 31630))) 8 (fun _ _ => rfl) ?_
                  exact q_Ru_ret rfl rfl
                show q_Ru _ _ _ (10, [(0, .ref 64), (1, .int 3871)], [.int 1], (q_cM q_AM (q_uI q_IM 0 39 0) q_J0, 34, 31630)) _
                refine q_Ru_seg (g2 := (19, [(0, .ref 64), (1, .int 3871)], [.int 31, .ref 64], (q_cM q_AM (q_uI q_IM 0 39 0) q_J0, 34, 31630))) 5 (fun _ _ => rfl) ?_
                refine q_Ru_call (v := (some (.int 0))) (h2 := (q_cM (q_uA (q_uA (q_uA (q_uA (q_uA (q_uA (q_uA (q_uA q_AM 33 (upd (fun _ => 0) 0 0)) 33 (upd (upd (fun _ => 0) 0 0) 4 0)) 33 (upd (upd (upd (fun _ => 0) 0 0) 4 0) 1 0)) 33 (upd (upd (upd (upd (fun _ => 0) 0 0) 4 0) 1 0) 5 0)) 33 (upd (upd (upd (upd (upd (fun _ => 0) 0 0) 4 0) 1 0) 5 0) 2 0)) 33 (upd (upd (upd (upd (upd (upd (fun _ => 0) 0 0) 4 0) 1 0) 5 0) 2 0) 6 0)) 33 (upd (upd (upd (upd (upd (upd (upd (fun _ => 0) 0 0) 4 0) 1 0) 5 0) 2 0) 6 0) 3 0)) 33 (upd (upd (upd (upd (upd (upd (upd (upd (fun _ => 0) 0 0) 4 0) 1 0) 5 0) 2 0) 6 0) 3 0) 7 0)) (q_uI q_IM 0 39 0) q_J0, 34, 31630)) rfl rfl ?_ ?_
                · refine q_Ca_of (Nat.le_of_ble_eq_true rfl) ?_
                  refine q_Ru_seg (g2 := (30, [(0, .ref 64), (1, .int 31)], [.int 15, .int 12, .int 31], (q_cM q_AM (q_uI q_IM 0 39 0) q_J0, 34, 31630))) 9 (fun _ _ => rfl) ?_
                  refine q_Ru_call (v := (some (.int 0))) (h2 := (q_cM q_AM (q_uI q_IM 0 39 0) q_J0, 34, 31630)) rfl rfl ?_ ?_
                  · refine q_Ca_of (Nat.le_of_ble_eq_true rfl) ?_
                    refine q_Ru_seg (g2 := (15, [(0, .int 31), (1, .int 12), (2, .int 15)], [.int 0], (q_cM q_AM (q_uI q_IM 0 39 0) q_J0, 34, 31630))) 7 (fun _ _ => rfl) ?_
                    exact q_Ru_ret rfl rfl
                  show q_Ru _ _ _ (33, [(0, .ref 64), (1, .int 31)], [.int 0], (q_cM q_AM (q_uI q_IM 0 39 0) q_J0, 34, 31630)) _
                  refine q_Ru_seg (g2 := (122, [(0, .ref 64), (1, .int 31)], [.int 0, .ref 64], (q_cM q_AM (q_uI q_IM 0 39 0) q_J0, 34, 31630))) 15 (fun _ _ => rfl) ?_
                  refine q_Ru_call (v := (some (.int 0))) (h2 := (q_cM (q_uA (q_uA (q_uA (q_uA (q_uA (q_uA (q_uA (q_uA q_AM 33 (upd (fun _ => 0) 0 0)) 33 (upd (upd (fun _ => 0) 0 0) 4 0)) 33 (upd (upd (upd (fun _ => 0) 0 0) 4 0) 1 0)) 33 (upd (upd (upd (upd (fun _ => 0) 0 0) 4 0) 1 0) 5 0)) 33 (upd (upd (upd (upd (upd (fun _ => 0) 0 0) 4 0) 1 0) 5 0) 2 0)) 33 (upd (upd (upd (upd (upd (upd (fun _ => 0) 0 0) 4 0) 1 0) 5 0) 2 0) 6 0)) 33 (upd (upd (upd (upd (upd (upd (upd (fun _ => 0) 0 0) 4 0) 1 0) 5 0) 2 0) 6 0) 3 0)) 33 (upd (upd (upd (upd (upd (upd (upd (upd (fun _ => 0) 0 0) 4 0) 1 0) 5 0) 2 0) 6 0) 3 0) 7 0)) (q_uI q_IM 0 39 0) q_J0, 34, 31630)) rfl rfl ?_ ?_
                  · refine q_Ca_of (Nat.le_of_ble_eq_true rfl) ?_
                    refine q_Ru_seg (g2 := (14, [(2, .int 0), (0, .ref 64), (1, .int 0)], [.int 0, .int 0, .int 0, .ref 97], (q_cM q_AM (q_uI q_IM 0 39 0) q_J0, 34, 31630))) 10 (fun _ _ => rfl) ?_
                    refine q_Ru_call (v := (some (.int 0))) (h2 := (q_cM q_AM (q_uI q_IM 0 39 0) q_J0, 34, 31630)) rfl rfl ?_ ?_
                    · refine q_Ca_of (Nat.le_of_ble_eq_true rfl) ?_
                      refine q_Ru_seg (g2 := (14, [(0, .int 0), (1, .int 0)], [.int 0], (q_cM q_AM (q_uI q_IM 0 39 0) q_J0, 34, 31630))) 8 (fun _ _ => rfl) ?_
                      exact q_Ru_ret rfl rfl
                    show q_Ru _ _ _ (17, [(2, .int 0), (0, .ref 64), (1, .int 0)], [.int 0, .int 0, .ref 97], (q_cM q_AM (q_uI q_IM 0 39 0) q_J0, 34, 31630)) _
                    refine q_Ru_seg (g2 := (14, [(2, .int 1), (0, .ref 64), (1, .int 0)], [.int 1, .int 0, .int 1, .ref 97], (q_cM (q_uA (q_uA q_AM 33 (upd (fun _ => 0) 0 0)) 33 (upd (upd (fun _ => 0) 0 0) 4 0)) (q_uI q_IM 0 39 0) q_J0, 34, 31630))) 18 (fun _ _ => rfl) ?_
                    refine q_Ru_call (v := (some (.int 0))) (h2 := (q_cM (q_uA (q_uA q_AM 33 (upd (fun _ => 0) 0 0)) 33 (upd (upd (fun _ => 0) 0 0) 4 0)) (q_uI q_IM 0 39 0) q_J0, 34, 31630)) rfl rfl ?_ ?_
                    · refine q_Ca_of (Nat.le_of_ble_eq_true rfl) ?_
                      refine q_Ru_seg (g2 := (14, [(0, .int 0), (1, .int 1)], [.int 0], (q_cM (q_uA (q_uA q_AM 33 (upd (fun _ => 0) 0 0)) 33 (upd (upd (fun _ => 0) 0 0) 4 0)) (q_uI q_IM 0 39 0) q_J0, 34, 31630))) 8 (fun _ _ => rfl) ?_
                      exact q_Ru_ret rfl rfl
                    show q_Ru _ _ _ (17, [(2, .int 1), (0, .ref 64), (1, .int 0)], [.int 0, .int 1, .ref 97], (q_cM (q_uA (q_uA q_AM 33 (upd (fun _ => 0) 0 0)) 33 (upd (upd (fun _ => 0) 0 0) 4 0)) (q_uI q_IM 0 39 0) q_J0, 34, 31630)) _
                    refine q_Ru_seg (g2 := (14, [(2, .int 2), (0, .ref 64), (1, .int 0)], [.int 2, .int 0, .int 2, .ref 97], (q_cM (q_uA (q_uA (q_uA (q_uA q_AM 33 (upd (fun _ => 0) 0 0)) 33 (upd (upd (fun _ => 0) 0 0) 4 0)) 33 (upd (upd (upd (fun _ => 0) 0 0) 4 0) 1 0)) 33 (upd (upd (upd (upd (fun _ => 0) 0 0) 4 0) 1 0) 5 0)) (q_uI q_IM 0 39 0) q_J0, 34, 31630))) 18 (fun _ _ => rfl) ?_
                    refine q_Ru_call (v := (some (.int 0))) (h2 := (q_cM (q_uA (q_uA (q_uA (q_uA q_AM 33 (upd (fun _ => 0) 0 0)) 33 (upd (upd (fun _ => 0) 0 0) 4 0)) 33 (upd (upd (upd (fun _ => 0) 0 0) 4 0) 1 0)) 33 (upd (upd (upd (upd (fun _ => 0) 0 0) 4 0) 1 0) 5 0)) (q_uI q_IM 0 39 0) q_J0, 34, 31630)) rfl rfl ?_ ?_
                    · refine q_Ca_of (Nat.le_of_ble_eq_true rfl) ?_
                      refine q_Ru_seg (g2 := (14, [(0, .int 0), (1, .int 2)], [.int 0], (q_cM (q_uA (q_uA (q_uA (q_uA q_AM 33 (upd (fun _ => 0) 0 0)) 33 (upd (upd (fun _ => 0) 0 0) 4 0)) 33 (upd (upd (upd (fun _ => 0) 0 0) 4 0) 1 0)) 33 (upd (upd (upd (upd (fun _ => 0) 0 0) 4 0) 1 0) 5 0)) (q_uI q_IM 0 39 0) q_J0, 34, 31630))) 8 (fun _ _ => rfl) ?_
                      exact q_Ru_ret rfl rfl
                    show q_Ru _ _ _ (17, [(2, .int 2), (0, .ref 64), (1, .int 0)], [.int 0, .int 2, .ref 97], (q_cM (q_uA (q_uA (q_uA (q_uA q_AM 33 (upd (fun _ => 0) 0 0)) 33 (upd (upd (fun _ => 0) 0 0) 4 0)) 33 (upd (upd (upd (fun _ => 0) 0 0) 4 0) 1 0)) 33 (upd (upd (upd (upd (fun _ => 0) 0 0) 4 0) 1 0) 5 0)) (q_uI q_IM 0 39 0) q_J0, 34, 31630)) _
                    refine q_Ru_seg (g2 := (14, [(2, .int 3), (0, .ref 64), (1, .int 0)], [.int 3, .int 0, .int 3, .ref 97], (q_cM (q_uA (q_uA (q_uA (q_uA (q_uA (q_uA q_AM 33 (upd (fun _ => 0) 0 0)) 33 (upd (upd (fun _ => 0) 0 0) 4 0)) 33 (upd (upd (upd (fun _ => 0) 0 0) 4 0) 1 0)) 33 (upd (upd (upd (upd (fun _ => 0) 0 0) 4 0) 1 0) 5 0)) 33 (upd (upd (upd (upd (upd (fun _ => 0) 0 0) 4 0) 1 0) 5 0) 2 0)) 33 (upd (upd (upd (upd (upd (upd (fun _ => 0) 0 0) 4 0) 1 0) 5 0) 2 0) 6 0)) (q_uI q_IM 0 39 0) q_J0, 34, 31630))) 18 (fun _ _ => rfl) ?_
                    refine q_Ru_call (v := (some (.int 0))) (h2 := (q_cM (q_uA (q_uA (q_uA (q_uA (q_uA (q_uA q_AM 33 (upd (fun _ => 0) 0 0)) 33 (upd (upd (fun _ => 0) 0 0) 4 0)) 33 (upd (upd (upd (fun _ => 0) 0 0) 4 0) 1 0)) 33 (upd (upd (upd (upd (fun _ => 0) 0 0) 4 0) 1 0) 5 0)) 33 (upd (upd (upd (upd (upd (fun _ => 0) 0 0) 4 0) 1 0) 5 0) 2 0)) 33 (upd (upd (upd (upd (upd (upd (fun _ => 0) 0 0) 4 0) 1 0) 5 0) 2 0) 6 0)) (q_uI q_IM 0 39 0) q_J0, 34, 31630)) rfl rfl ?_ ?_
                    · refine q_Ca_of (Nat.le_of_ble_eq_true rfl) ?_
                      refine q_Ru_seg (g2 := (14, [(0, .int 0), (1, .int 3)], [.int 0], (q_cM (q_uA (q_uA (q_uA (q_uA (q_uA (q_uA q_AM 33 (upd (fun _ => 0) 0 0)) 33 (upd (upd (fun _ => 0) 0 0) 4 0)) 33 (upd (upd (upd (fun _ => 0) 0 0) 4 0) 1 0)) 33 (upd (upd (upd (upd (fun _ => 0) 0 0) 4 0) 1 0) 5 0)) 33 (upd (upd (upd (upd (upd (fun _ => 0) 0 0) 4 0) 1 0) 5 0) 2 0)) 33 (upd (upd (upd (upd (upd (upd (fun _ => 0) 0 0) 4 0) 1 0) 5 0) 2 0) 6 0)) (q_uI q_IM 0 39 0) q_J0, 34, 31630))) 8 (fun _ _ => rfl) ?_
                      exact q_Ru_ret rfl rfl
                    show q_Ru _ _ _ (17, [(2, .int 3), (0, .ref 64), (1, .int 0)], [.int 0, .int 3, .ref 97], (q_cM (q_uA (q_uA (q_uA (q_uA (q_uA (q_uA q_AM 33 (upd (fun _ => 0) 0 0)) 33 (upd (upd (fun _ => 0) 0 0) 4 0)) 33 (upd (upd (upd (fun _ => 0) 0 0) 4 0) 1 0)) 33 (upd (upd (upd (upd (fun _ => 0) 0 0) 4 0) 1 0) 5 0)) 33 (upd (upd (upd (upd (upd (fun _ => 0) 0 0) 4 0) 1 0) 5 0) 2 0)) 33 (upd (upd (upd (upd (upd (upd (fun _ => 0) 0 0) 4 0) 1 0) 5 0) 2 0) 6 0)) (q_uI q_IM 0 39 0) q_J0, 34, 31630)) _
                    refine q_Ru_seg (g2 := (55, [(3, .int 3), (2, .int 0), (0, .ref 64), (1, .int 0)], [.int 0], (q_cM (q_uA (q_uA (q_uA (q_uA (q_uA (q_uA (q_uA (q_uA q_AM 33 (upd (fun _ => 0) 0 0)) 33 (upd (upd (fun _ => 0) 0 0) 4 0)) 33 (upd (upd (upd (fun _ => 0) 0 0) 4 0) 1 0)) 33 (upd (upd (upd (upd (fun _ => 0) 0 0) 4 0) 1 0) 5 0)) 33 (upd (upd (upd (upd (upd (fun _ => 0) 0 0) 4 0) 1 0) 5 0) 2 0)) 33 (upd (upd (upd (upd (upd (upd (fun _ => 0) 0 0) 4 0) 1 0) 5 0) 2 0) 6 0)) 33 (upd (upd (upd (upd (upd (upd (upd (fun _ => 0) 0 0) 4 0) 1 0) 5 0) 2 0) 6 0) 3 0)) 33 (upd (upd (upd (upd (upd (upd (upd (upd (fun _ => 0) 0 0) 4 0) 1 0) 5 0) 2 0) 6 0) 3 0) 7 0)) (q_uI q_IM 0 39 0) q_J0, 34, 31630))) 60 (fun _ _ => rfl) ?_
                    refine q_Ru_seg (g2 := (44, [(3, .int 9), (2, .int 0), (0, .ref 64), (1, .int 0)], [.int 9], (q_cM (q_uA (q_uA (q_uA (q_uA (q_uA (q_uA (q_uA (q_uA q_AM 33 (upd (fun _ => 0) 0 0)) 33 (upd (upd (fun _ => 0) 0 0) 4 0)) 33 (upd (upd (upd (fun _ => 0) 0 0) 4 0) 1 0)) 33 (upd (upd (upd (upd (fun _ => 0) 0 0) 4 0) 1 0) 5 0)) 33 (upd (upd (upd (upd (upd (fun _ => 0) 0 0) 4 0) 1 0) 5 0) 2 0)) 33 (upd (upd (upd (upd (upd (upd (fun _ => 0) 0 0) 4 0) 1 0) 5 0) 2 0) 6 0)) 33 (upd (upd (upd (upd (upd (upd (upd (fun _ => 0) 0 0) 4 0) 1 0) 5 0) 2 0) 6 0) 3 0)) 33 (upd (upd (upd (upd (upd (upd (upd (upd (fun _ => 0) 0 0) 4 0) 1 0) 5 0) 2 0) 6 0) 3 0) 7 0)) (q_uI q_IM 0 39 0) q_J0, 34, 31630))) 60 (fun _ _ => rfl) ?_
                    refine q_Ru_seg (g2 := (54, [(3, .int 14), (2, .int 0), (0, .ref 64), (1, .int 0)], [.int 14, .ref 71], (q_cM (q_uA (q_uA (q_uA (q_uA (q_uA (q_uA (q_uA (q_uA q_AM 33 (upd (fun _ => 0) 0 0)) 33 (upd (upd (fun _ => 0) 0 0) 4 0)) 33 (upd (upd (upd (fun _ => 0) 0 0) 4 0) 1 0)) 33 (upd (upd (upd (upd (fun _ => 0) 0 0) 4 0) 1 0) 5 0)) 33 (upd (upd (upd (upd (upd (fun _ => 0) 0 0) 4 0) 1 0) 5 0) 2 0)) 33 (upd (upd (upd (upd (upd (upd (fun _ => 0) 0 0) 4 0) 1 0) 5 0) 2 0) 6 0)) 33 (upd (upd (upd (upd (upd (upd (upd (fun _ => 0) 0 0) 4 0) 1 0) 5 0) 2 0) 6 0) 3 0)) 33 (upd (upd (upd (upd (upd (upd (upd (upd (fun _ => 0) 0 0) 4 0) 1 0) 5 0) 2 0) 6 0) 3 0) 7 0)) (q_uI q_IM 0 39 0) q_J0, 34, 31630))) 60 (fun _ _ => rfl) ?_
                    refine q_Ru_seg (g2 := (44, [(3, .int 3), (2, .int 1), (0, .ref 64), (1, .int 0)], [.int 3], (q_cM (q_uA (q_uA (q_uA (q_uA (q_uA (q_uA (q_uA (q_uA q_AM 33 (upd (fun _ => 0) 0 0)) 33 (upd (upd (fun _ => 0) 0 0) 4 0)) 33 (upd (upd (upd (fun _ => 0) 0 0) 4 0) 1 0)) 33 (upd (upd (upd (upd (fun _ => 0) 0 0) 4 0) 1 0) 5 0)) 33 (upd (upd (upd (upd (upd (fun _ => 0) 0 0) 4 0) 1 0) 5 0) 2 0)) 33 (upd (upd (upd (upd (upd (upd (fun _ => 0) 0 0) 4 0) 1 0) 5 0) 2 0) 6 0)) 33 (upd (upd (upd (upd (upd (upd (upd (fun _ => 0) 0 0) 4 0) 1 0) 5 0) 2 0) 6 0) 3 0)) 33 (upd (upd (upd (upd (upd (upd (upd (upd (fun _ => 0) 0 0) 4 0) 1 0) 5 0) 2 0) 6 0) 3 0) 7 0)) (q_uI q_IM 0 39 0) q_J0, 34, 31630))) 60 (fun _ _ => rfl) ?_
                    refine q_Ru_seg (g2 := (54, [(3, .int 8), (2, .int 1), (0, .ref 64), (1, .int 0)], [.int 8, .ref 71], (q_cM (q_uA (q_uA (q_uA (q_uA (q_uA (q_uA (q_uA (q_uA q_AM 33 (upd (fun _ => 0) 0 0)) 33 (upd (upd (fun _ => 0) 0 0) 4 0)) 33 (upd (upd (upd (fun _ => 0) 0 0) 4 0) 1 0)) 33 (upd (upd (upd (upd (fun _ => 0) 0 0) 4 0) 1 0) 5 0)) 33 (upd (upd (upd (upd (upd (fun _ => 0) 0 0) 4 0) 1 0) 5 0) 2 0)) 33 (upd (upd (upd (upd (upd (upd (fun _ => 0) 0 0) 4 0) 1 0) 5 0) 2 0) 6 0)) 33 (upd (upd (upd (upd (upd (upd (upd (fun _ => 0) 0 0) 4 0) 1 0) 5 0) 2 0) 6 0) 3 0)) 33 (upd (upd (upd (upd (upd (upd (upd (upd (fun _ => 0) 0 0) 4 0) 1 0) 5 0) 2 0) 6 0) 3 0) 7 0)) (q_uI q_IM 0 39 0) q_J0, 34, 31630))) 60 (fun _ _ => rfl) ?_
                    refine q_Ru_seg (g2 := (43, [(3, .int 14), (2, .int 1), (0, .ref 64), (1, .int 0)], [], (q_cM (q_uA (q_uA (q_uA (q_uA (q_uA (q_uA (q_uA (q_uA q_AM 33 (upd (fun _ => 0) 0 0)) 33 (upd (upd (fun _ => 0) 0 0) 4 0)) 33 (upd (upd (upd (fun _ => 0) 0 0) 4 0) 1 0)) 33 (upd (upd (upd (upd (fun _ => 0) 0 0) 4 0) 1 0) 5 0)) 33 (upd (upd (upd (upd (upd (fun _ => 0) 0 0) 4 0) 1 0) 5 0) 2 0)) 33 (upd (upd (upd (upd (upd (upd (fun _ => 0) 0 0) 4 0) 1 0) 5 0) 2 0) 6 0)) 33 (upd (upd (upd (upd (upd (upd (upd (fun _ => 0) 0 0) 4 0) 1 0) 5 0) 2 0) 6 0) 3 0)) 33 (upd (upd (upd (upd (upd (upd (upd (upd (fun _ => 0) 0 0) 4 0) 1 0) 5 0) 2 0) 6 0) 3 0) 7 0)) (q_uI q_IM 0 39 0) q_J0, 34, 31630))) 60 (fun _ _ => rfl) ?_
                    refine q_Ru_seg (g2 := (54, [(3, .int 2), (2, .int 2), (0, .ref 64), (1, .int 0)], [.int 2, .ref 71], (q_cM (q_uA (q_uA (q_uA (q_uA (q_uA (q_uA (q_uA (q_uA q_AM 33 (upd (fun _ => 0) 0 0)) 33 (upd (upd (fun _ => 0) 0 0) 4 0)) 33 (upd (upd (upd (fun _ => 0) 0 0) 4 0) 1 0)) 33 (upd (upd (upd (upd (fun _ => 0) 0 0) 4 0) 1 0) 5 0)) 33 (upd (upd (upd (upd (upd (fun _ => 0) 0 0) 4 0) 1 0) 5 0) 2 0)) 33 (upd (upd (upd (upd (upd (upd (fun _ => 0) 0 0) 4 0) 1 0) 5 0) 2 0) 6 0)) 33 (upd (upd (upd (upd (upd (upd (upd (fun _ => 0) 0 0) 4 0) 1 0) 5 0) 2 0) 6 0) 3 0)) 33 (upd (upd (upd (upd (upd (upd (upd (upd (fun _ => 0) 0 0) 4 0) 1 0) 5 0) 2 0) 6 0) 3 0) 7 0)) (q_uI q_IM 0 39 0) q_J0, 34, 31630))) 60 (fun _ _ => rfl) ?_
                    refine q_Ru_seg (g2 := (43, [(3, .int 8), (2, .int 2), (0, .ref 64), (1, .int 0)], [], (q_cM (q_uA (q_uA (q_uA (q_uA (q_uA (q_uA (q_uA (q_uA q_AM 33 (upd (fun _ => 0) 0 0)) 33 (upd (upd (fun _ => 0) 0 0) 4 0)) 33 (upd (upd (upd (fun _ => 0) 0 0) 4 0) 1 0)) 33 (upd (upd (upd (upd (fun _ => 0) 0 0) 4 0) 1 0) 5 0)) 33 (upd (upd (upd (upd (upd (fun _ => 0) 0 0) 4 0) 1 0) 5 0) 2 0)) 33 (upd (upd (upd (upd (upd (upd (fun _ => 0) 0 0) 4 0) 1 0) 5 0) 2 0) 6 0)) 33 (upd (upd (upd (upd (upd (upd (upd (fun _ => 0) 0 0) 4 0) 1 0) 5 0) 2 0) 6 0) 3 0)) 33 (upd (upd (upd (upd (upd (upd (upd (upd (fun _ => 0) 0 0) 4 0) 1 0) 5 0) 2 0) 6 0) 3 0) 7 0)) (q_uI q_IM 0 39 0) q_J0, 34, 31630))) 60 (fun _ _ => rfl) ?_
                    refine q_Ru_seg (g2 := (53, [(3, .int 13), (2, .int 2), (0, .ref 64), (1, .int 0)], [.ref 71], (q_cM (q_uA (q_uA (q_uA (q_uA (q_uA (q_uA (q_uA (q_uA q_AM 33 (upd (fun _ => 0) 0 0)) 33 (upd (upd (fun _ => 0) 0 0) 4 0)) 33 (upd (upd (upd (fun _ => 0) 0 0) 4 0) 1 0)) 33 (upd (upd (upd (upd (fun _ => 0) 0 0) 4 0) 1 0) 5 0)) 33 (upd (upd (upd (upd (upd (fun _ => 0) 0 0) 4 0) 1 0) 5 0) 2 0)) 33 (upd (upd (upd (upd (upd (upd (fun _ => 0) 0 0) 4 0) 1 0) 5 0) 2 0) 6 0)) 33 (upd (upd (upd (upd (upd (upd (upd (fun _ => 0) 0 0) 4 0) 1 0) 5 0) 2 0) 6 0) 3 0)) 33 (upd (upd (upd (upd (upd (upd (upd (upd (fun _ => 0) 0 0) 4 0) 1 0) 5 0) 2 0) 6 0) 3 0) 7 0)) (q_uI q_IM 0 39 0) q_J0, 34, 31630))) 60 (fun _ _ => rfl) ?_
                    refine q_Ru_seg (g2 := (43, [(3, .int 2), (2, .int 3), (0, .ref 64), (1, .int 0)], [], (q_cM (q_uA (q_uA (q_uA (q_uA (q_uA (q_uA (q_uA (q_uA q_AM 33 (upd (fun _ => 0) 0 0)) 33 (upd (upd (fun _ => 0) 0 0) 4 0)) 33 (upd (upd (upd (fun _ => 0) 0 0) 4 0) 1 0)) 33 (upd (upd (upd (upd (fun _ => 0) 0 0) 4 0) 1 0) 5 0)) 33 (upd (upd (upd (upd (upd (fun _ => 0) 0 0) 4 0) 1 0) 5 0) 2 0)) 33 (upd (upd (upd (upd (upd (upd (fun _ => 0) 0 0) 4 0) 1 0) 5 0) 2 0) 6 0)) 33 (upd (upd (upd (upd (upd (upd (upd (fun _ => 0) 0 0) 4 0) 1 0) 5 0) 2 0) 6 0) 3 0)) 33 (upd (upd (upd (upd (upd (upd (upd (upd (fun _ => 0) 0 0) 4 0) 1 0) 5 0) 2 0) 6 0) 3 0) 7 0)) (q_uI q_IM 0 39 0) q_J0, 34, 31630))) 60 (fun _ _ => rfl) ?_
                    refine q_Ru_seg (g2 := (53, [(3, .int 7), (2, .int 3), (0, .ref 64), (1, .int 0)], [.ref 71], (q_cM (q_uA (q_uA (q_uA (q_uA (q_uA (q_uA (q_uA (q_uA q_AM 33 (upd (fun _ => 0) 0 0)) 33 (upd (upd (fun _ => 0) 0 0) 4 0)) 33 (upd (upd (upd (fun _ => 0) 0 0) 4 0) 1 0)) 33 (upd (upd (upd (upd (fun _ => 0) 0 0) 4 0) 1 0) 5 0)) 33 (upd (upd (upd (upd (upd (fun _ => 0) 0 0) 4 0) 1 0) 5 0) 2 0)) 33 (upd (upd (upd (upd (upd (upd (fun _ => 0) 0 0) 4 0) 1 0) 5 0) 2 0) 6 0)) 33 (upd (upd (upd (upd (upd (upd (upd (fun _ => 0) 0 0) 4 0) 1 0) 5 0) 2 0) 6 0) 3 0)) 33 (upd (upd (upd (upd (upd (upd (upd (upd (fun _ => 0) 0 0) 4 0) 1 0) 5 0) 2 0) 6 0) 3 0) 7 0)) (q_uI q_IM 0 39 0) q_J0, 34, 31630))) 60 (fun _ _ => rfl) ?_
                    refine q_Ru_seg (g2 := (117, [(3, .int 13), (2, .int 3), (0, .ref 64), (1, .int 0)], [], (q_cM (q_uA (q_uA (q_uA (q_uA (q_uA (q_uA (q_uA (q_uA q_AM 33 (upd (fun _ => 0) 0 0)) 33 (upd (upd (fun _ => 0) 0 0) 4 0)) 33 (upd (upd (upd (fun _ => 0) 0 0) 4 0) 1 0)) 33 (upd (upd (upd (upd (fun _ => 0) 0 0) 4 0) 1 0) 5 0)) 33 (upd (upd (upd (upd (upd (fun _ => 0) 0 0) 4 0) 1 0) 5 0) 2 0)) 33 (upd (upd (upd (upd (upd (upd (fun _ => 0) 0 0) 4 0) 1 0) 5 0) 2 0) 6 0)) 33 (upd (upd (upd (upd (upd (upd (upd (fun _ => 0) 0 0) 4 0) 1 0) 5 0) 2 0) 6 0) 3 0)) 33 (upd (upd (upd (upd (upd (upd (upd (upd (fun _ => 0) 0 0) 4 0) 1 0) 5 0) 2 0) 6 0) 3 0) 7 0)) (q_uI q_IM 0 39 0) q_J0, 34, 31630))) 60 (fun _ _ => rfl) ?_
                    refine q_Ru_seg (g2 := (53, [(3, .int 1), (2, .int 4), (0, .ref 64), (1, .int 0)], [.ref 71], (q_cM (q_uA (q_uA (q_uA (q_uA (q_uA (q_uA (q_uA (q_uA q_AM 33 (upd (fun _ => 0) 0 0)) 33 (upd (upd (fun _ => 0) 0 0) 4 0)) 33 (upd (upd (upd (fun _ => 0) 0 0) 4 0) 1 0)) 33 (upd (upd (upd (upd (fun _ => 0) 0 0) 4 0) 1 0) 5 0)) 33 (upd (upd (upd (upd (upd (fun _ => 0) 0 0) 4 0) 1 0) 5 0) 2 0)) 33 (upd (upd (upd (upd (upd (upd (fun _ => 0) 0 0) 4 0) 1 0) 5 0) 2 0) 6 0)) 33 (upd (upd (upd (upd (upd (upd (upd (fun _ => 0) 0 0) 4 0) 1 0) 5 0) 2 0) 6 0) 3 0)) 33 (upd (upd (upd (upd (upd (upd (upd (upd (fun _ => 0) 0 0) 4 0) 1 0) 5 0) 2 0) 6 0) 3 0) 7 0)) (q_uI q_IM 0 39 0) q_J0, 34, 31630))) 60 (fun _ _ => rfl) ?_
                    refine q_Ru_seg (g2 := (117, [(3, .int 7), (2, .int 4), (0, .ref 64), (1, .int 0)], [], (q_cM (q_uA (q_uA (q_uA (q_uA (q_uA (q_uA (q_uA (q_uA q_AM 33 (upd (fun _ => 0) 0 0)) 33 (upd (upd (fun _ => 0) 0 0) 4 0)) 33 (upd (upd (upd (fun _ => 0) 0 0) 4 0) 1 0)) 33 (upd (upd (upd (upd (fun _ => 0) 0 0) 4 0) 1 0) 5 0)) 33 (upd (upd (upd (upd (upd (fun _ => 0) 0 0) 4 0) 1 0) 5 0) 2 0)) 33 (upd (upd (upd (upd (upd (upd (fun _ => 0) 0 0) 4 0) 1 0) 5 0) 2 0) 6 0)) 33 (upd (upd (upd (upd (upd (upd (upd (fun _ => 0) 0 0) 4 0) 1 0) 5 0) 2 0) 6 0) 3 0)) 33 (upd (upd (upd (upd (upd (upd (upd (upd (fun _ => 0) 0 0) 4 0) 1 0) 5 0) 2 0) 6 0) 3 0) 7 0)) (q_uI q_IM 0 39 0) q_J0, 34, 31630))) 60 (fun _ _ => rfl) ?_
                    refine q_Ru_seg (g2 := (50, [(3, .int 12), (2, .int 4), (0, .ref 64), (1, .int 0)], [.ref 64], (q_cM (q_uA (q_uA (q_uA (q_uA (q_uA (q_uA (q_uA (q_uA q_AM 33 (upd (fun _ => 0) 0 0)) 33 (upd (upd (fun _ => 0) 0 0) 4 0)) 33 (upd (upd (upd (fun _ => 0) 0 0) 4 0) 1 0)) 33 (upd (upd (upd (upd (fun _ => 0) 0 0) 4 0) 1 0) 5 0)) 33 (upd (upd (upd (upd (upd (fun _ => 0) 0 0) 4 0) 1 0) 5 0) 2 0)) 33 (upd (upd (upd (upd (upd (upd (fun _ => 0) 0 0) 4 0) 1 0) 5 0) 2 0) 6 0)) 33 (upd (upd (upd (upd (upd (upd (upd (fun _ => 0) 0 0) 4 0) 1 0) 5 0) 2 0) 6 0) 3 0)) 33 (upd (upd (upd (upd (upd (upd (upd (upd (fun _ => 0) 0 0) 4 0) 1 0) 5 0) 2 0) 6 0) 3 0) 7 0)) (q_uI q_IM 0 39 0) q_J0, 34, 31630))) 60 (fun _ _ => rfl) ?_
                    refine q_Ru_seg (g2 := (117, [(3, .int 1), (2, .int 5), (0, .ref 64), (1, .int 0)], [], (q_cM (q_uA (q_uA (q_uA (q_uA (q_uA (q_uA (q_uA (q_uA q_AM 33 (upd (fun _ => 0) 0 0)) 33 (upd (upd (fun _ => 0) 0 0) 4 0)) 33 (upd (upd (upd (fun _ => 0) 0 0) 4 0) 1 0)) 33 (upd (upd (upd (upd (fun _ => 0) 0 0) 4 0) 1 0) 5 0)) 33 (upd (upd (upd (upd (upd (fun _ => 0) 0 0) 4 0) 1 0) 5 0) 2 0)) 33 (upd (upd (upd (upd (upd (upd (fun _ => 0) 0 0) 4 0) 1 0) 5 0) 2 0) 6 0)) 33 (upd (upd (upd (upd (upd (upd (upd (fun _ => 0) 0 0) 4 0) 1 0) 5 0) 2 0) 6 0) 3 0)) 33 (upd (upd (upd (upd (upd (upd (upd (upd (fun _ => 0) 0 0) 4 0) 1 0) 5 0) 2 0) 6 0) 3 0) 7 0)) (q_uI q_IM 0 39 0) q_J0, 34, 31630))) 60 (fun _ _ => rfl) ?_
                    refine q_Ru_seg (g2 := (50, [(3, .int 6), (2, .int 5), (0, .ref 64), (1, .int 0)], [.ref 64], (q_cM (q_uA (q_uA (q_uA (q_uA (q_uA (q_uA (q_uA (q_uA q_AM 33 (upd (fun _ => 0) 0 0)) 33 (upd (upd (fun _ => 0) 0 0) 4 0)) 33 (upd (upd (upd (fun _ => 0) 0 0) 4 0) 1 0)) 33 (upd (upd (upd (upd (fun _ => 0) 0 0) 4 0) 1 0) 5 0)) 33 (upd (upd (upd (upd (upd (fun _ => 0) 0 0) 4 0) 1 0) 5 0) 2 0)) 33 (upd (upd (upd (upd (upd (upd (fun _ => 0) 0 0) 4 0) 1 0) 5 0) 2 0) 6 0)) 33 (upd (upd (upd (upd (upd (upd (upd (fun _ => 0) 0 0) 4 0) 1 0) 5 0) 2 0) 6 0) 3 0)) 33 (upd (upd (upd (upd (upd (upd (upd (upd (fun _ => 0) 0 0) 4 0) 1 0) 5 0) 2 0) 6 0) 3 0) 7 0)) (q_uI q_IM 0 39 0) q_J0, 34, 31630))) 60 (fun _ _ => rfl) ?_
                    refine q_Ru_seg (g2 := (114, [(3, .int 11), (2, .int 5), (0, .ref 64), (1, .int 0)], [], (q_cM (q_uA (q_uA (q_uA (q_uA (q_uA (q_uA (q_uA (q_uA q_AM 33 (upd (fun _ => 0) 0 0)) 33 (upd (upd (fun _ => 0) 0 0) 4 0)) 33 (upd (upd (upd (fun _ => 0) 0 0) 4 0) 1 0)) 33 (upd (upd (upd (upd (fun _ => 0) 0 0) 4 0) 1 0) 5 0)) 33 (upd (upd (upd (upd (upd (fun _ => 0) 0 0) 4 0) 1 0) 5 0) 2 0)) 33 (upd (upd (upd (upd (upd (upd (fun _ => 0) 0 0) 4 0) 1 0) 5 0) 2 0) 6 0)) 33 (upd (upd (upd (upd (upd (upd (upd (fun _ => 0) 0 0) 4 0) 1 0) 5 0) 2 0) 6 0) 3 0)) 33 (upd (upd (upd (upd (upd (upd (upd (upd (fun _ => 0) 0 0) 4 0) 1 0) 5 0) 2 0) 6 0) 3 0) 7 0)) (q_uI q_IM 0 39 0) q_J0, 34, 31630))) 60 (fun _ _ => rfl) ?_
                    refine q_Ru_seg (g2 := (50, [(3, .int 0), (2, .int 6), (0, .ref 64), (1, .int 0)], [.ref 64], (q_cM (q_uA (q_uA (q_uA (q_uA (q_uA (q_uA (q_uA (q_uA q_AM 33 (upd (fun _ => 0) 0 0)) 33 (upd (upd (fun _ => 0) 0 0) 4 0)) 33 (upd (upd (upd (fun _ => 0) 0 0) 4 0) 1 0)) 33 (upd (upd (upd (upd (fun _ => 0) 0 0) 4 0) 1 0) 5 0)) 33 (upd (upd (upd (upd (upd (fun _ => 0) 0 0) 4 0) 1 0) 5 0) 2 0)) 33 (upd (upd (upd (upd (upd (upd (fun _ => 0) 0 0) 4 0) 1 0) 5 0) 2 0) 6 0)) 33 (upd (upd (upd (upd (upd (upd (upd (fun _ => 0) 0 0) 4 0) 1 0) 5 0) 2 0) 6 0) 3 0)) 33 (upd (upd (upd (upd (upd (upd (upd (upd (fun _ => 0) 0 0) 4 0) 1 0) 5 0) 2 0) 6 0) 3 0) 7 0)) (q_uI q_IM 0 39 0) q_J0, 34, 31630))) 60 (fun _ _ => rfl) ?_
                    refine q_Ru_seg (g2 := (114, [(3, .int 5), (2, .int 6), (0, .ref 64), (1, .int 0)], [], (q_cM (q_uA (q_uA (q_uA (q_uA (q_uA (q_uA (q_uA (q_uA q_AM 33 (upd (fun _ => 0) 0 0)) 33 (upd (upd (fun _ => 0) 0 0) 4 0)) 33 (upd (upd (upd (fun _ => 0) 0 0) 4 0) 1 0)) 33 (upd (upd (upd (upd (fun _ => 0) 0 0) 4 0) 1 0) 5 0)) 33 (upd (upd (upd (upd (upd (fun _ => 0) 0 0) 4 0) 1 0) 5 0) 2 0)) 33 (upd (upd (upd (upd (upd (upd (fun _ => 0) 0 0) 4 0) 1 0) 5 0) 2 0) 6 0)) 33 (upd (upd (upd (upd (upd (upd (upd (fun _ => 0) 0 0) 4 0) 1 0) 5 0) 2 0) 6 0) 3 0)) 33 (upd (upd (upd (upd (upd (upd (upd (upd (fun _ => 0) 0 0) 4 0) 1 0) 5 0) 2 0) 6 0) 3 0) 7 0)) (q_uI q_IM 0 39 0) q_J0, 34, 31630))) 60 (fun _ _ => rfl) ?_
                    refine q_Ru_seg (g2 := (49, [(3, .int 11), (2, .int 6), (0, .ref 64), (1, .int 0)], [], (q_cM (q_uA (q_uA (q_uA (q_uA (q_uA (q_uA (q_uA (q_uA q_AM 33 (upd (fun _ => 0) 0 0)) 33 (upd (upd (fun _ => 0) 0 0) 4 0)) 33 (upd (upd (upd (fun _ => 0) 0 0) 4 0) 1 0)) 33 (upd (upd (upd (upd (fun _ => 0) 0 0) 4 0) 1 0) 5 0)) 33 (upd (upd (upd (upd (upd (fun _ => 0) 0 0) 4 0) 1 0) 5 0) 2 0)) 33 (upd (upd (upd (upd (upd (upd (fun _ => 0) 0 0) 4 0) 1 0) 5 0) 2 0) 6 0)) 33 (upd (upd (upd (upd (upd (upd (upd (fun _ => 0) 0 0) 4 0) 1 0) 5 0) 2 0) 6 0) 3 0)) 33 (upd (upd (upd (upd (upd (upd (upd (upd (fun _ => 0) 0 0) 4 0) 1 0) 5 0) 2 0) 6 0) 3 0) 7 0)) (q_uI q_IM 0 39 0) q_J0, 34, 31630))) 60 (fun _ _ => rfl) ?_
                    refine q_Ru_seg (g2 := (41, [(2, .int 7), (3, .int 16), (0, .ref 64), (1, .int 0)], [], (q_cM (q_uA (q_uA (q_uA (q_uA (q_uA (q_uA (q_uA (q_uA q_AM 33 (upd (fun _ => 0) 0 0)) 33 (upd (upd (fun _ => 0) 0 0) 4 0)) 33 (upd (upd (upd (fun _ => 0) 0 0) 4 0) 1 0)) 33 (upd (upd (upd (upd (fun _ => 0) 0 0) 4 0) 1 0) 5 0)) 33 (upd (upd (upd (upd (upd (fun _ => 0) 0 0) 4 0) 1 0) 5 0) 2 0)) 33 (upd (upd (upd (upd (upd (upd (fun _ => 0) 0 0) 4 0) 1 0) 5 0) 2 0) 6 0)) 33 (upd (upd (upd (upd (upd (upd (upd (fun _ => 0) 0 0) 4 0) 1 0) 5 0) 2 0) 6 0) 3 0)) 33 (upd (upd (upd (upd (upd (upd (upd (upd (fun _ => 0) 0 0) 4 0) 1 0) 5 0) 2 0) 6 0) 3 0) 7 0)) (q_uI q_IM 0 39 0) q_J0, 34, 31630))) 60 (fun _ _ => rfl) ?_
                    refine q_Ru_seg (g2 := (49, [(3, .int 5), (2, .int 7), (0, .ref 64), (1, .int 0)], [], (q_cM (q_uA (q_uA (q_uA (q_uA (q_uA (q_uA (q_uA (q_uA q_AM 33 (upd (fun _ => 0) 0 0)) 33 (upd (upd (fun _ => 0) 0 0) 4 0)) 33 (upd (upd (upd (fun _ => 0) 0 0) 4 0) 1 0)) 33 (upd (upd (upd (upd (fun _ => 0) 0 0) 4 0) 1 0) 5 0)) 33 (upd (upd (upd (upd (upd (fun _ => 0) 0 0) 4 0) 1 0) 5 0) 2 0)) 33 (upd (upd (upd (upd (upd (upd (fun _ => 0) 0 0) 4 0) 1 0) 5 0) 2 0) 6 0)) 33 (upd (upd (upd (upd (upd (upd (upd (fun _ => 0) 0 0) 4 0) 1 0) 5 0) 2 0) 6 0) 3 0)) 33 (upd (upd (upd (upd (upd (upd (upd (upd (fun _ => 0) 0 0) 4 0) 1 0) 5 0) 2 0) 6 0) 3 0) 7 0)) (q_uI q_IM 0 39 0) q_J0, 34, 31630))) 60 (fun _ _ => rfl) ?_
                    refine q_Ru_seg (g2 := (58, [(3, .int 10), (2, .int 7), (0, .ref 64), (1, .int 0)], [], (q_cM (q_uA (q_uA (q_uA (q_uA (q_uA (q_uA (q_uA (q_uA q_AM 33 (upd (fun _ => 0) 0 0)) 33 (upd (upd (fun _ => 0) 0 0) 4 0)) 33 (upd (upd (upd (fun _ => 0) 0 0) 4 0) 1 0)) 33 (upd (upd (upd (upd (fun _ => 0) 0 0) 4 0) 1 0) 5 0)) 33 (upd (upd (upd (upd (upd (fun _ => 0) 0 0) 4 0) 1 0) 5 0) 2 0)) 33 (upd (upd (upd (upd (upd (upd (fun _ => 0) 0 0) 4 0) 1 0) 5 0) 2 0) 6 0)) 33 (upd (upd (upd (upd (upd (upd (upd (fun _ => 0) 0 0) 4 0) 1 0) 5 0) 2 0) 6 0) 3 0)) 33 (upd (upd (upd (upd (upd (upd (upd (upd (fun _ => 0) 0 0) 4 0) 1 0) 5 0) 2 0) 6 0) 3 0) 7 0)) (q_uI q_IM 0 39 0) q_J0, 34, 31630))) 60 (fun _ _ => rfl) ?_
                    refine q_Ru_seg (g2 := (46, [(3, .int 16), (2, .int 7), (0, .ref 64), (1, .int 0)], [.int 16, .int 16], (q_cM (q_uA (q_uA (q_uA (q_uA (q_uA (q_uA (q_uA (q_uA q_AM 33 (upd (fun _ => 0) 0 0)) 33 (upd (upd (fun _ => 0) 0 0) 4 0)) 33 (upd (upd (upd (fun _ => 0) 0 0) 4 0) 1 0)) 33 (upd (upd (upd (upd (fun _ => 0) 0 0) 4 0) 1 0) 5 0)) 33 (upd (upd (upd (upd (upd (fun _ => 0) 0 0) 4 0) 1 0) 5 0) 2 0)) 33 (upd (upd (upd (upd (upd (upd (fun _ => 0) 0 0) 4 0) 1 0) 5 0) 2 0) 6 0)) 33 (upd (upd (upd (upd (upd (upd (upd (fun _ => 0) 0 0) 4 0) 1 0) 5 0) 2 0) 6 0) 3 0)) 33 (upd (upd (upd (upd (upd (upd (upd (upd (fun _ => 0) 0 0) 4 0) 1 0) 5 0) 2 0) 6 0) 3 0) 7 0)) (q_uI q_IM 0 39 0) q_J0, 34, 31630))) 60 (fun _ _ => rfl) ?_
                    refine q_Ru_seg (g2 := (132, [(3, .int 3), (2, .int 0), (0, .ref 64), (1, .int 0)], [.int 4, .int 3], (q_cM (q_uA (q_uA (q_uA (q_uA (q_uA (q_uA (q_uA (q_uA q_AM 33 (upd (fun _ => 0) 0 0)) 33 (upd (upd (fun _ => 0) 0 0) 4 0)) 33 (upd (upd (upd (fun _ => 0) 0 0) 4 0) 1 0)) 33 (upd (upd (upd (upd (fun _ => 0) 0 0) 4 0) 1 0) 5 0)) 33 (upd (upd (upd (upd (upd (fun _ => 0) 0 0) 4 0) 1 0) 5 0) 2 0)) 33 (upd (upd (upd (upd (upd (upd (fun _ => 0) 0 0) 4 0) 1 0) 5 0) 2 0) 6 0)) 33 (upd (upd (upd (upd (upd (upd (upd (fun _ => 0) 0 0) 4 0) 1 0) 5 0) 2 0) 6 0) 3 0)) 33 (upd (upd (upd (upd (upd (upd (upd (upd (fun _ => 0) 0 0) 4 0) 1 0) 5 0) 2 0) 6 0) 3 0) 7 0)) (q_uI q_IM 0 39 0) q_J0, 34, 31630))) 60 (fun _ _ => rfl) ?_
                    refine q_Ru_seg (g2 := (163, [(3, .int 4), (2, .int 0), (0, .ref 64), (1, .int 0)], [.int 0], (q_cM (q_uA (q_uA (q_uA (q_uA (q_uA (q_uA (q_uA (q_uA q_AM 33 (upd (fun _ => 0) 0 0)) 33 (upd (upd (fun _ => 0) 0 0) 4 0)) 33 (upd (upd (upd (fun _ => 0) 0 0) 4 0) 1 0)) 33 (upd (upd (upd (upd (fun _ => 0) 0 0) 4 0) 1 0) 5 0)) 33 (upd (upd (upd (upd (upd (fun _ => 0) 0 0) 4 0) 1 0) 5 0) 2 0)) 33 (upd (upd (upd (upd (upd (upd (fun _ => 0) 0 0) 4 0) 1 0) 5 0) 2 0) 6 0)) 33 (upd (upd (upd (upd (upd (upd (upd (fun _ => 0) 0 0) 4 0) 1 0) 5 0) 2 0) 6 0) 3 0)) 33 (upd (upd (upd (upd (upd (upd (upd (upd (fun _ => 0) 0 0) 4 0) 1 0) 5 0) 2 0) 6 0) 3 0) 7 0)) (q_uI q_IM 0 39 0) q_J0, 34, 31630))) 18 (fun _ _ => rfl) ?_
                    exact q_Ru_ret rfl rfl
                  show q_Ru _ _ _ (125, [(0, .ref 64), (1, .int 31)], [.int 0], (q_cM (q_uA (q_uA (q_uA (q_uA (q_uA (q_uA (q_uA (q_uA q_AM 33 (upd (fun _ => 0) 0 0)) 33 (upd (upd (fun _ => 0) 0 0) 4 0)) 33 (upd (upd (upd (fun _ => 0) 0 0) 4 0) 1 0)) 33 (upd (upd (upd (upd (fun _ => 0) 0 0) 4 0) 1 0) 5 0)) 33 (upd (upd (upd (upd (upd (fun _ => 0) 0 0) 4 0) 1 0) 5 0) 2 0)) 33 (upd (upd (upd (upd (upd (upd (fun _ => 0) 0 0) 4 0) 1 0) 5 0) 2 0) 6 0)) 33 (upd (upd (upd (upd (upd (upd (upd (fun _ => 0) 0 0) 4 0) 1 0) 5 0) 2 0) 6 0) 3 0)) 33 (upd (upd (upd (upd (upd (upd (upd (upd (fun _ => 0) 0 0) 4 0) 1 0) 5 0) 2 0) 6 0) 3 0) 7 0)) (q_uI q_IM 0 39 0) q_J0, 34, 31630)) _
                  refine q_Ru_seg (g2 := (136, [(0, .ref 64), (1, .int 31)], [.int 0], (q_cM (q_uA (q_uA (q_uA (q_uA (q_uA (q_uA (q_uA (q_uA q_AM 33 (upd (fun _ => 0) 0 0)) 33 (upd (upd (fun _ => 0) 0 0) 4 0)) 33 (upd (upd (upd (fun _ => 0) 0 0) 4 0) 1 0)) 33 (upd (upd (upd (upd (fun _ => 0) 0 0) 4 0) 1 0) 5 0)) 33 (upd (upd (upd (upd (upd (fun _ => 0) 0 0) 4 0) 1 0) 5 0) 2 0)) 33 (upd (upd (upd (upd (upd (upd (fun _ => 0) 0 0) 4 0) 1 0) 5 0) 2 0) 6 0)) 33 (upd (upd (upd (upd (upd (upd (upd (fun _ => 0) 0 0) 4 0) 1 0) 5 0) 2 0) 6 0) 3 0)) 33 (upd (upd (upd (upd (upd (upd (upd (upd (fun _ => 0) 0 0) 4 0) 1 0) 5 0) 2 0) 6 0) 3 0) 7 0)) (q_uI q_IM 0 39 0) q_J0, 34, 31630))) 7 (fun _ _ => rfl) ?_
                  exact q_Ru_ret rfl rfl
                show q_Ru _ _ _ (22, [(0, .ref 64), (1, .int 3871)], [.int 0], (q_cM (q_uA (q_uA (q_uA (q_uA (q_uA (q_uA (q_uA (q_uA q_AM 33 (upd (fun _ => 0) 0 0)) 33 (upd (upd (fun _ => 0) 0 0) 4 0)) 33 (upd (upd (upd (fun _ => 0) 0 0) 4 0) 1 0)) 33 (upd (upd (upd (upd (fun _ => 0) 0 0) 4 0) 1 0) 5 0)) 33 (upd (upd (upd (upd (upd (fun _ => 0) 0 0) 4 0) 1 0) 5 0) 2 0)) 33 (upd (upd (upd (upd (upd (upd (fun _ => 0) 0 0) 4 0) 1 0) 5 0) 2 0) 6 0)) 33 (upd (upd (upd (upd (upd (upd (upd (fun _ => 0) 0 0) 4 0) 1 0) 5 0) 2 0) 6 0) 3 0)) 33 (upd (upd (upd (upd (upd (upd (upd (upd (fun _ => 0) 0 0) 4 0) 1 0) 5 0) 2 0) 6 0) 3 0) 7 0)) (q_uI q_IM 0 39 0) q_J0, 34, 31630)) _
                exact q_Ru_ret rfl rfl
              show q_Ru _ _ _ (28, [(0, .ref 64), (1, .int 3871)], [.int 0], (q_cM (q_uA (q_uA (q_uA (q_uA (q_uA (q_uA (q_uA (q_uA q_AM 33 (upd (fun _ => 0) 0 0)) 33 (upd (upd (fun _ => 0) 0 0) 4 0)) 33 (upd (upd (upd (fun _ => 0) 0 0) 4 0) 1 0)) 33 (upd (upd (upd (upd (fun _ => 0) 0 0) 4 0) 1 0) 5 0)) 33 (upd (upd (upd (upd (upd (fun _ => 0) 0 0) 4 0) 1 0) 5 0) 2 0)) 33 (upd (upd (upd (upd (upd (upd (fun _ => 0) 0 0) 4 0) 1 0) 5 0) 2 0) 6 0)) 33 (upd (upd (upd (upd (upd (upd (upd (fun _ => 0) 0 0) 4 0) 1 0) 5 0) 2 0) 6 0) 3 0)) 33 (upd (upd (upd (upd (upd (upd (upd (upd (fun _ => 0) 0 0) 4 0) 1 0) 5 0) 2 0) 6 0) 3 0) 7 0)) (q_uI q_IM 0 39 0) q_J0, 34, 31630)) _
              exact q_Ru_ret rfl rfl
          | 32, _, e222 =>
            have e222 : a = 3872 := e222
            subst e222
            refine ⟨0, 0, 0, ⟨(q_cX q_AX q_IX (q_uA q_J0 39 (vp_updL (fun _ => 0) 0 0)), 40, 26520), (q_uA q_J0 39 (vp_updL (fun _ => 0) 0 0)) 39, ?_, rfl, fun _ => rfl, Nat.le_of_ble_eq_true rfl, Nat.le_of_ble_eq_true rfl⟩, ⟨(q_cM q_AM (q_uI q_IM 0 39 0) q_J0, 34, 31630), _, ?_, rfl, rfl, Nat.le_of_ble_eq_true rfl, Nat.le_of_ble_eq_true rfl⟩, fun _ => rfl⟩
            · refine q_Ca_of (Nat.le_of_ble_eq_true rfl) ?_
              refine q_Ru_seg (g2 := (4, [(0, .ref 64), (1, .int 3872), (2, .ref 103)], [.int 3872, .ref 64, .int 0, .ref 103], (q_cX q_AX q_IX q_J0, 40, 26520))) 4 (fun _ _ => rfl) ?_
              refine q_Ru_call (v := (some (.int 0))) (h2 := (q_cX q_AX q_IX q_J0, 40, 26520)) rfl rfl ?_ ?_
              · refine q_Ca_of (Nat.le_of_ble_eq_true rfl) ?_
                refine q_Ru_seg (g2 := (1, [(0, .ref 64), (1, .int 3872)], [.int 3872], (q_cX q_AX q_IX q_J0, 40, 26520))) 1 (fun _ _ => rfl) ?_
                refine q_Ru_call (v := none) (h2 := (q_cX q_AX q_IX q_J0, 40, 26520)) rfl rfl ?_ ?_
                · refine q_Ca_of (Nat.le_of_ble_eq_true rfl) ?_
                  refine q_Ru_seg (g2 := (4, [(0, .int 3872)], [.int 4096, .int 3872], (q_cX q_AX q_IX q_J0, 40, 26520))) 2 (fun _ _ => rfl) ?_
                  refine q_Ru_call (v := none) (h2 := (q_cX q_AX q_IX q_J0, 40, 26520)) rfl rfl ?_ ?_
                  · refine q_Ca_of (Nat.le_of_ble_eq_true rfl) ?_
                    refine q_Ru_seg (g2 := (19, [(0, .int 3872), (1, .int 4096)], [], (q_cX q_AX q_IX q_J0, 40, 26520))) 5 (fun _ _ => rfl) ?_
                    exact q_Ru_ret rfl rfl
                  show q_Ru _ _ _ (7, [(0, .int 3872)], [], (q_cX q_AX q_IX q_J0, 40, 26520)) _
                  exact q_Ru_ret rfl rfl
                show q_Ru _ _ _ (4, [(0, .ref 64), (1, .int 3872)], [], (q_cX q_AX q_IX q_J0, 40, 26520)) _
                refine q_Ru_seg (g2 := (12, [(0, .ref 64), (1, .int 3872)], [.int 3872, .ref 66], (q_cX q_AX q_IX q_J0, 40, 26520))) 4 (fun _ _ => rfl) ?_
                refine q_Ru_call (v := (some (.int 0))) (h2 := (q_cX q_AX q_IX q_J0, 40, 26520)) rfl rfl ?_ ?_
                · refine q_Ca_of (Nat.le_of_ble_eq_true rfl) ?_
                  refine q_Ru_seg (g2 := (27, [(2, .int 32), (0, .ref 66), (1, .int 3872)], [.int 0, .int 32, .ref 66], (q_cX q_AX q_IX q_J0, 40, 26520))) 16 (fun _ _ => rfl) ?_
                  refine q_Ru_call (v := (some (.int 0))) (h2 := (q_cX q_AX q_IX q_J0, 40, 26520)) rfl rfl ?_ ?_
                  · refine q_Ca_of (Nat.le_of_ble_eq_true rfl) ?_
                    refine q_Ru_seg (g2 := (183, [(0, .ref 66), (1, .int 32), (2, .int 0)], [.int 0], (q_cX q_AX q_IX q_J0, 40, 26520))) 3 (fun _ _ => rfl) ?_
                    exact q_Ru_ret rfl rfl
                  show q_Ru _ _ _ (30, [(2, .int 32), (0, .ref 66), (1, .int 3872)], [.int 0], (q_cX q_AX q_IX q_J0, 40, 26520)) _
                  exact q_Ru_ret rfl rfl
                show q_Ru _ _ _ (15, [(0, .ref 64), (1, .int 3872)], [.int 0], (q_cX q_AX q_IX q_J0, 40, 26520)) _
                exact q_Ru_ret rfl rfl
              show q_Ru _ _ _ (7, [(0, .ref 64), (1, .int 3872), (2, .ref 103)], [.int 0, .int 0, .ref 103], (q_cX q_AX q_IX q_J0, 40, 26520)) _
              refine q_Ru_seg (g2 := (16, [(0, .ref 64), (1, .int 3872), (2, .ref 103)], [.int 0], (q_cX q_AX q_IX (q_uA q_J0 39 (vp_updL (fun _ => 0) 0 0)), 40, 26520))) 4 (fun _ _ => rfl) ?_
              exact q_Ru_ret rfl rfl
            · refine q_Ca_of (Nat.le_of_ble_eq_true rfl) ?_
              refine q_Ru_seg (g2 := (2, [(0, .ref 64), (1, .int 3872)], [.int 3872, .ref 64], (q_cM q_AM q_IM q_J0, 34, 31630))) 2 (fun _ _ => rfl) ?_
              refine q_Ru_call (v := (some (.int 0))) (h2 := (q_cM q_AM q_IM q_J0, 34, 31630)) rfl rfl ?_ ?_
              · refine q_Ca_of (Nat.le_of_ble_eq_true rfl) ?_
                refine q_Ru_seg (g2 := (5, [(0, .int 3872)], [.int 4095, .int 0, .int 3872], (q_cM q_AM q_IM q_J0, 34, 31630))) 3 (fun _ _ => rfl) ?_
                refine q_Ru_call (v := (some (.int 1))) (h2 := (q_cM q_AM q_IM q_J0, 34, 31630)) rfl rfl ?_ ?_
                · refine q_Ca_of (Nat.le_of_ble_eq_true rfl) ?_
                  refine q_Ru_seg (g2 := (15, [(0, .int 3872), (1, .int 0), (2, .int 4095)], [.int 1], (q_cM q_AM q_IM q_J0, 34, 31630))) 8 (fun _ _ => rfl) ?_
                  exact q_Ru_ret rfl rfl
                show q_Ru _ _ _ (8, [(0, .int 3872)], [.int 1], (q_cM q_AM q_IM q_J0, 34, 31630)) _
                refine q_Ru_seg (g2 := (16, [(0, .int 3872)], [.int 0], (q_cM q_AM q_IM q_J0, 34, 31630))) 2 (fun _ _ => rfl) ?_
                exact q_Ru_ret rfl rfl
              show q_Ru _ _ _ (5, [(0, .ref 64), (1, .int 3872)], [.int 0, .ref 64], (q_cM q_AM q_IM q_J0, 34, 31630)) _
              refine q_Ru_seg (g2 := (13, [(0, .ref 64), (1, .int 3872)], [.int 0, .ref 64], (q_cM q_AM q_IM q_J0, 34, 31630))) 2 (fun _ _ => rfl) ?_
              refine q_Ru_call (v := (some (.int 0))) (h2 := (q_cM q_AM (q_uI q_IM 0 39 0) q_J0, 34, 31630)) rfl rfl ?_ ?_
              · refine q_Ca_of (Nat.le_of_ble_eq_true rfl) ?_
                refine q_Ru_seg (g2 := (14, [(0, .ref 64), (1, .int 0)], [.int 0], (q_cM q_AM (q_uI q_IM 0 39 0) q_J0, 34, 31630))) 6 (fun _ _ => rfl) ?_
                exact q_Ru_ret rfl rfl
              show q_Ru _ _ _ (16, [(0, .ref 64), (1, .int 3872)], [.int 0], (q_cM q_AM (q_uI q_IM 0 39 0) q_J0, 34, 31630)) _
              refine q_Ru_seg (g2 := (25, [(0, .ref 64), (1, .int 3872)], [.int 3872, .ref 64], (q_cM q_AM (q_uI q_IM 0 39 0) q_J0, 34, 31630))) 3 (fun _ _ => rfl) ?_
              refine q_Ru_call (v := (some (.int 0))) (h2 := (q_cM q_AM (q_uI q_IM 0 39 0) q_J0, 34, 31630)) rfl rfl ?_ ?_
              · refine q_Ca_of (Nat.le_of_ble_eq_true rfl) ?_
                refine q_Ru_seg (g2 := (7, [(0, .ref 64), (1, .int 3872)], [.int 3887, .int 3840, .int 3872], (q_cM q_AM (q_uI q_IM 0 39 0) q_J0, 34, 31630))) 3 (fun _ _ => rfl) ?_
                refine q_Ru_call (v := (some (.int 1))) (h2 := (q_cM q_AM (q_uI q_IM 0 39 0) q_J0, 34, 31630)) rfl rfl ?_ ?_
                · refine q_Ca_of (Nat.le_of_ble_eq_true rfl) ?_
                  refine q_Ru_seg (g2 := (15, [(0, .int 3872), (1, .int 3840), (2, .int 3887)], [.int 1], (q_cM q_AM (q_uI q_IM 0 39 0) q_J0, 34, 31630))) 8 (fun _ _ => rfl) ?_
                  exact q_Ru_ret rfl rfl
                show q_Ru _ _ _ (10, [(0, .ref 64), (1, .int 3872)], [.int 1], (q_cM q_AM (q_uI q_IM 0 39 0) q_J0, 34, 31630)) _
                refine q_Ru_seg (g2 := (19, [(0, .ref 64), (1, .int 3872)], [.int 32, .ref 64], (q_cM q_AM (q_uI q_IM 0 39 0) q_J0, 34, 31630))) 5 (fun _ _ => rfl) ?_
                refine q_Ru_call (v := (some (.int 0))) (h2 := (q_cM q_AM (q_uI q_IM 0 39 0) q_J0, 34, 31630)) rfl rfl ?_ ?_
                · refine q_Ca_of (Nat.le_of_ble_eq_true rfl) ?_
                  refine q_Ru_seg (g2 := (30, [(0, .ref 64), (1, .int 32)], [.int 15, .int 12, .int 32], (q_cM q_AM (q_uI q_IM 0 39 0) q_J0, 34, 31630))) 9 (fun _ _ => rfl) ?_
                  refine q_Ru_call (v := (some (.int 0))) (h2 := (q_cM q_AM (q_uI q_IM 0 39 0) q_J0, 34, 31630)) rfl rfl ?_ ?_
                  · refine q_Ca_of (Nat.le_of_ble_eq_true rfl) ?_
                    refine q_Ru_seg (g2 := (15, [(0, .int 32), (1, .int 12), (2, .int 15)], [.int 0], (q_cM q_AM (q_uI q_IM 0 39 0) q_J0, 34, 31630))) 7 (fun _ _ => rfl) ?_
                    exact q_Ru_ret rfl rfl
                  show q_Ru _ _ _ (33, [(0, .ref 64), (1, .int 32)], [.int 0], (q_cM q_AM (q_uI q_IM 0 39 0) q_J0, 34, 31630)) _
                  refine q_Ru_seg (g2 := (190, [(0, .ref 64), (1, .int 32)], [.int 0], (q_cM q_AM (q_uI q_IM 0 39 0) q_J0, 34, 31630))) 20 (fun _ _ => rfl) ?_
                  exact q_Ru_ret rfl rfl
                show q_Ru _ _ _ (22, [(0, .ref 64), (1, .int 3872)], [.int 0], (q_cM q_AM (q_uI q_IM 0 39 0) q_J0, 34, 31630)) _
                exact q_Ru_ret rfl rfl
              show q_Ru _ _ _ (28, [(0, .ref 64), (1, .int 3872)], [.int 0], (q_cM q_AM (q_uI q_IM 0 39 0) q_J0, 34, 31630)) _
              exact q_Ru_ret rfl rfl
          | 33, _, e222 =>
            have e222 : a = 3873 := e222
            subst e222
            refine ⟨0, 0, 0, ⟨(q_cX q_AX q_IX (q_uA q_J0 39 (vp_updL (fun _ => 0) 0 0)), 40, 26520), (q_uA q_J0 39 (vp_updL (fun _ => 0) 0 0)) 39, ?_, rfl, fun _ => rfl, Nat.le_of_ble_eq_true rfl, Nat.le_of_ble_eq_true rfl⟩, ⟨(q_cM q_AM (q_uI q_IM 0 39 0) q_J0, 34, 31630), _, ?_, rfl, rfl, Nat.le_of_ble_eq_true rfl, Nat.le_of_ble_eq_true rfl⟩, fun _ => rfl⟩
            · refine q_Ca_of (Nat.le_of_ble_eq_true rfl) ?_
              refine q_Ru_seg (g2 := (4, [(0, .ref 64), (1, .int 3873), (2, .ref 103)], [.int 3873, .ref 64, .int 0, .ref 103], (q_cX q_AX q_IX q_J0, 40, 26520))) 4 (fun _ _ => rfl) ?_
              refine q_Ru_call (v := (some (.int 0))) (h2 := (q_cX q_AX q_IX q_J0, 40, 26520)) rfl rfl ?_ ?_
              · refine q_Ca_of (Nat.le_of_ble_eq_true rfl) ?_
                refine q_Ru_seg (g2 := (1, [(0, .ref 64), (1, .int 3873)], [.int 3873], (q_cX q_AX q_IX q_J0, 40, 26520))) 1 (fun _ _ => rfl) ?_
                refine q_Ru_call (v := none) (h2 := (q_cX q_AX q_IX q_J0, 40, 26520)) rfl rfl ?_ ?_
                · refine q_Ca_of (Nat.le_of_ble_eq_true rfl) ?_
                  refine q_Ru_seg (g2 := (4, [(0, .int 3873)], [.int 4096, .int 3873], (q_cX q_AX q_IX q_J0, 40, 26520))) 2 (fun _ _ => rfl) ?_
                  refine q_Ru_call (v := none) (h2 := (q_cX q_AX q_IX q_J0, 40, 26520)) rfl rfl ?_ ?_
                  · refine q_Ca_of (Nat.le_of_ble_eq_true rfl) ?_
                    refine q_Ru_seg (g2 := (19, [(0, .int 3873), (1, .int 4096)], [], (q_cX q_AX q_IX q_J0, 40, 26520))) 5 (fun _ _ => rfl) ?_
                    exact q_Ru_ret rfl rfl
                  show q_Ru _ _ _ (7, [(0, .int 3873)], [], (q_cX q_AX q_IX q_J0, 40, 26520)) _
                  exact q_Ru_ret rfl rfl
                show q_Ru _ _ _ (4, [(0, .ref 64), (1, .int 3873)], [], (q_cX q_AX q_IX q_J0, 40, 26520)) _
                refine q_Ru_seg (g2 := (12, [(0, .ref 64), (1, .int 3873)], [.int 3873, .ref 66], (q_cX q_AX q_IX q_J0, 40, 26520))) 4 (fun _ _ => rfl) ?_
                refine q_Ru_call (v := (some (.int 0))) (h2 := (q_cX q_AX q_IX q_J0, 40, 26520)) rfl rfl ?_ ?_
                · refine q_Ca_of (Nat.le_of_ble_eq_true rfl) ?_
                  refine q_Ru_seg (g2 := (27, [(2, .int 33), (0, .ref 66), (1, .int 3873)], [.int 0, .int 33, .ref 66], (q_cX q_AX q_IX q_J0, 40, 26520))) 16 (fun _ _ => rfl) ?_
                  refine q_Ru_call (v := (some (.int 0))) (h2 := (q_cX q_AX q_IX q_J0, 40, 26520)) rfl rfl ?_ ?_
                  · refine q_Ca_of (Nat.le_of_ble_eq_true rfl) ?_
                    refine q_Ru_seg (g2 := (183, [(0, .ref 66), (1, .int 33), (2, .int 0)], [.int 0], (q_cX q_AX q_IX q_J0, 40, 26520))) 3 (fun _ _ => rfl) ?_
                    exact q_Ru_ret rfl rfl
                  show q_Ru _ _ _ (30, [(2, .int 33), (0, .ref 66), (1, .int 3873)], [.int 0], (q_cX q_AX q_IX q_J0, 40, 26520)) _
                  exact q_Ru_ret rfl rfl
                show q_Ru _ _ _ (15, [(0, .ref 64), (1, .int 3873)], [.int 0], (q_cX q_AX q_IX q_J0, 40, 26520)) _
                exact q_Ru_ret rfl rfl
              show q_Ru _ _ _ (7, [(0, .ref 64), (1, .int 3873), (2, .ref 103)], [.int 0, .int 0, .ref 103], (q_cX q_AX q_IX q_J0, 40, 26520)) _
              refine q_Ru_seg (g2 := (16, [(0, .ref 64), (1, .int 3873), (2, .ref 103)], [.int 0], (q_cX q_AX q_IX (q_uA q_J0 39 (vp_updL (fun _ => 0) 0 0)), 40, 26520))) 4 (fun _ _ => rfl) ?_
              exact q_Ru_ret rfl rfl
            · refine q_Ca_of (Nat.le_of_ble_eq_true rfl) ?_
              refine q_Ru_seg (g2 := (2, [(0, .ref 64), (1, .int 3873)], [.int 3873, .ref 64], (q_cM q_AM q_IM q_J0, 34, 31630))) 2 (fun _ _ => rfl) ?_
              refine q_Ru_call (v := (some (.int 0))) (h2 := (q_cM q_AM q_IM q_J0, 34, 31630)) rfl rfl ?_ ?_
              · refine q_Ca_of (Nat.le_of_ble_eq_true rfl) ?_
                refine q_Ru_seg (g2 := (5, [(0, .int 3873)], [.int 4095, .int 0, .int 3873], (q_cM q_AM q_IM q_J0, 34, 31630))) 3 (fun _ _ => rfl) ?_
                refine q_Ru_call (v := (some (.int 1))) (h2 := (q_cM q_AM q_IM q_J0, 34, 31630)) rfl rfl ?_ ?_
                · refine q_Ca_of (Nat.le_of_ble_eq_true rfl) ?_
                  refine q_Ru_seg (g2 := (15, [(0, .int 3873), (1, .int 0), (2, .int 4095)], [.int 1], (q_cM q_AM q_IM q_J0, 34, 31630))) 8 (fun _ _ => rfl) ?_
                  exact q_Ru_ret rfl rfl
                show q_Ru _ _ _ (8, [(0, .int 3873)], [.int 1], (q_cM q_AM q_IM q_J0, 34, 31630)) _
                refine q_Ru_seg (g2 := (16, [(0, .int 3873)], [.int 0], (q_cM q_AM q_IM q_J0, 34, 31630))) 2 (fun _ _ => rfl) ?_
                exact q_Ru_ret rfl rfl
              show q_Ru _ _ _ (5, [(0, .ref 64), (1, .int 3873)], [.int 0, .ref 64], (q_cM q_AM q_IM q_J0, 34, 31630)) _
              refine q_Ru_seg (g2 := (13, [(0, .ref 64), (1, .int 3873)], [.int 0, .ref 64], (q_cM q_AM q_IM q_J0, 34, 31630))) 2 (fun _ _ => rfl) ?_
              refine q_Ru_call (v := (some (.int 0))) (h2 := (q_cM q_AM (q_uI q_IM 0 39 0) q_J0, 34, 31630)) rfl rfl ?_ ?_
              · refine q_Ca_of (Nat.le_of_ble_eq_true rfl) ?_
                refine q_Ru_seg (g2 := (14, [(0, .ref 64), (1, .int 0)], [.int 0], (q_cM q_AM (q_uI q_IM 0 39 0) q_J0, 34, 31630))) 6 (fun _ _ => rfl) ?_
                exact q_Ru_ret rfl rfl
              show q_Ru _ _ _ (16, [(0, .ref 64), (1, .int 3873)], [.int 0], (q_cM q_AM (q_uI q_IM 0 39 0) q_J0, 34, 31630)) _
              refine q_Ru_seg (g2 := (25, [(0, .ref 64), (1, .int 3873)], [.int 3873, .ref 64], (q_cM q_AM (q_uI q_IM 0 39 0) q_J0, 34, 31630))) 3 (fun _ _ => rfl) ?_
              refine q_Ru_call (v := (some (.int 0))) (h2 := (q_cM q_AM (q_uI q_IM 0 39 0) q_J0, 34, 31630)) rfl rfl ?_ ?_
              · refine q_Ca_of (Nat.le_of_ble_eq_true rfl) ?_
                refine q_Ru_seg (g2 := (7, [(0, .ref 64), (1, .int 3873)], [.int 3887, .int 3840, .int 3873], (q_cM q_AM (q_uI q_IM 0 39 0) q_J0, 34, 31630))) 3 (fun _ _ => rfl) ?_
                refine q_Ru_call (v := (some (.int 1))) (h2 := (q_cM q_AM (q_uI q_IM 0 39 0) q_J0, 34, 31630)) rfl rfl ?_ ?_
                · refine q_Ca_of (Nat.le_of_ble_eq_true rfl) ?_
                  refine q_Ru_seg (g2 := (15, [(0, .int 3873), (1, .int 3840), (2, .int 3887)], [.int 1], (q_cM q_AM (q_uI q_IM 0 39 0) q_J0, 34, 31630))) 8 (fun _ _ => rfl) ?_
                  exact q_Ru_ret rfl rfl
                show q_Ru _ _ _ (10, [(0, .ref 64), (1, .int 3873)], [.int 1], (q_cM q_AM (q_uI q_IM 0 39 0) q_J0, 34, 31630)) _
                refine q_Ru_seg (g2 := (19, [(0, .ref 64), (1, .int 3873)], [.int 33, .ref 64], (q_cM q_AM (q_uI q_IM 0 39 0) q_J0, 34, 31630))) 5 (fun _ _ => rfl) ?_
                refine q_Ru_call (v := (some (.int 0))) (h2 := (q_cM q_AM (q_uI q_IM 0 39 0) q_J0, 34, 31630)) rfl rfl ?_ ?_
                · refine q_Ca_of (Nat.le_of_ble_eq_true rfl) ?_
                  refine q_Ru_seg (g2 := (30, [(0, .ref 64), (1, .int 33)], [.int 15, .int 12, .int 33], (q_cM q_AM (q_uI q_IM 0 39 0) q_J0, 34, 31630))) 9 (fun _ _ => rfl) ?_
                  refine q_Ru_call (v := (some (.int 0))) (h2 := (q_cM q_AM (q_uI q_IM 0 39 0) q_J0, 34, 31630)) rfl rfl ?_ ?_
                  · refine q_Ca_of (Nat.le_of_ble_eq_true rfl) ?_
                    refine q_Ru_seg (g2 := (15, [(0, .int 33), (1, .int 12), (2, .int 15)], [.int 0], (q_cM q_AM (q_uI q_IM 0 39 0) q_J0, 34, 31630))) 7 (fun _ _ => rfl) ?_
                    exact q_Ru_ret rfl rfl
                  show q_Ru _ _ _ (33, [(0, .ref 64), (1, .int 33)], [.int 0], (q_cM q_AM (q_uI q_IM 0 39 0) q_J0, 34, 31630)) _
                  refine q_Ru_seg (g2 := (190, [(0, .ref 64), (1, .int 33)], [.int 0], (q_cM q_AM (q_uI q_IM 0 39 0) q_J0, 34, 31630))) 20 (fun _ _ => rfl) ?_
                  exact q_Ru_ret rfl rfl
                show q_Ru _ _ _ (22, [(0, .ref 64), (1, .int 3873)], [.int 0], (q_cM q_AM (q_uI q_IM 0 39 0) q_J0, 34, 31630)) _
                exact q_Ru_ret rfl rfl
              show q_Ru _ _ _ (28, [(0, .ref 64), (1, .int 3873)], [.int 0], (q_cM q_AM (q_uI q_IM 0 39 0) q_J0, 34, 31630)) _
              exact q_Ru_ret rfl rfl
          | 34, _, e222 =>
            have e222 : a = 3874 := e222
            subst e222
            refine ⟨0, 0, 0, ⟨(q_cX q_AX q_IX (q_uA q_J0 39 (vp_updL (fun _ => 0) 0 0)), 40, 26520), (q_uA q_J0 39 (vp_updL (fun _ => 0) 0 0)) 39, ?_, rfl, fun _ => rfl, Nat.le_of_ble_eq_true rfl, Nat.le_of_ble_eq_true rfl⟩, ⟨(q_cM q_AM (q_uI q_IM 0 39 0) q_J0, 34, 31630), _, ?_, rfl, rfl, Nat.le_of_ble_eq_true rfl, Nat.le_of_ble_eq_true rfl⟩, fun _ => rfl⟩
            · refine q_Ca_of (Nat.le_of_ble_eq_true rfl) ?_
              refine q_Ru_seg (g2 := (4, [(0, .ref 64), (1, .int 3874), (2, .ref 103)], [.int 3874, .ref 64, .int 0, .ref 103], (q_cX q_AX q_IX q_J0, 40, 26520))) 4 (fun _ _ => rfl) ?_
              refine q_Ru_call (v := (some (.int 0))) (h2 := (q_cX q_AX q_IX q_J0, 40, 26520)) rfl rfl ?_ ?_
              · refine q_Ca_of (Nat.le_of_ble_eq_true rfl) ?_
                refine q_Ru_seg (g2 := (1, [(0, .ref 64), (1, .int 3874)], [.int 3874], (q_cX q_AX q_IX q_J0, 40, 26520))) 1 (fun _ _ => rfl) ?_
                refine q_Ru_call (v := none) (h2 := (q_cX q_AX q_IX q_J0, 40, 26520)) rfl rfl ?_ ?_
                · refine q_Ca_of (Nat.le_of_ble_eq_true rfl) ?_
                  refine q_Ru_seg (g2 := (4, [(0, .int 3874)], [.int 4096, .int 3874], (q_cX q_AX q_IX q_J0, 40, 26520))) 2 (fun _ _ => rfl) ?_
                  refine q_Ru_call (v := none) (h2 := (q_cX q_AX q_IX q_J0, 40, 26520)) rfl rfl ?_ ?_
                  · refine q_Ca_of (Nat.le_of_ble_eq_true rfl) ?_
                    refine q_Ru_seg (g2 := (19, [(0, .int 3874), (1, .int 4096)], [], (q_cX q_AX q_IX q_J0, 40, 26520))) 5 (fun _ _ => rfl) ?_
                    exact q_Ru_ret rfl rfl
                  show q_Ru _ _ _ (7, [(0, .int 3874)], [], (q_cX q_AX q_IX q_J0, 40, 26520)) _
                  exact q_Ru_ret rfl rfl
                show q_Ru _ _ _ (4, [(0, .ref 64), (1, .int 3874)], [], (q_cX q_AX q_IX q_J0, 40, 26520)) _
                refine q_Ru_seg (g2 := (12, [(0, .ref 64), (1, .int 3874)], [.int 3874, .ref 66], (q_cX q_AX q_IX q_J0, 40, 26520))) 4 (fun _ _ => rfl) ?_
                refine q_Ru_call (v := (some (.int 0))) (h2 := (q_cX q_AX q_IX q_J0, 40, 26520)) rfl rfl ?_ ?_
                · refine q_Ca_of (Nat.le_of_ble_eq_true rfl) ?_
                  refine q_Ru_seg (g2 := (27, [(2, .int 34), (0, .ref 66), (1, .int 3874)], [.int 0, .int 34, .ref 66], (q_cX q_AX q_IX q_J0, 40, 26520))) 16 (fun _ _ => rfl) ?_
                  refine q_Ru_call (v := (some (.int 0))) (h2 := (q_cX q_AX q_IX q_J0, 40, 26520)) rfl rfl ?_ ?_
                  · refine q_Ca_of (Nat.le_of_ble_eq_true rfl) ?_
                    refine q_Ru_seg (g2 := (183, [(0, .ref 66), (1, .int 34), (2, .int 0)], [.int 0], (q_cX q_AX q_IX q_J0, 40, 26520))) 3 (fun _ _ => rfl) ?_
                    exact q_Ru_ret rfl rfl
                  show q_Ru _ _ _ (30, [(2, .int 34), (0, .ref 66), (1, .int 3874)], [.int 0], (q_cX q_AX q_IX q_J0, 40, 26520)) _
                  exact q_Ru_ret rfl rfl
                show q_Ru _ _ _ (15, [(0, .ref 64), (1, .int 3874)], [.int 0], (q_cX q_AX q_IX q_J0, 40, 26520)) _
                exact q_Ru_ret rfl rfl
              show q_Ru _ _ _ (7, [(0, .ref 64), (1, .int 3874), (2, .ref 103)], [.int 0, .int 0, .ref 103], (q_cX q_AX q_IX q_J0, 40, 26520)) _
              refine q_Ru_seg (g2 := (16, [(0, .ref 64), (1, .int 3874), (2, .ref 103)], [.int 0], (q_cX q_AX q_IX (q_uA q_J0 39 (vp_updL (fun _ => 0) 0 0)), 40, 26520))) 4 (fun _ _ => rfl) ?_
              exact q_Ru_ret rfl rfl
            · refine q_Ca_of (Nat.le_of_ble_eq_true rfl) ?_
              refine q_Ru_seg (g2 := (2, [(0, .ref 64), (1, .int 3874)], [.int 3874, .ref 64], (q_cM q_AM q_IM q_J0, 34, 31630))) 2 (fun _ _ => rfl) ?_
              refine q_Ru_call (v := (some (.int 0))) (h2 := (q_cM q_AM q_IM q_J0, 34, 31630)) rfl rfl ?_ ?_
              · refine q_Ca_of (Nat.le_of_ble_eq_true rfl) ?_
                refine q_Ru_seg (g2 := (5, [(0, .int 3874)], [.int 4095, .int 0, .int 3874], (q_cM q_AM q_IM q_J0, 34, 31630))) 3 (fun _ _ => rfl) ?_
                refine q_Ru_call (v := (some (.int 1))) (h2 := (q_cM q_AM q_IM q_J0, 34, 31630)) rfl rfl ?_ ?_
                · refine q_Ca_of (Nat.le_of_ble_eq_true rfl) ?_
                  refine q_Ru_seg (g2 := (15, [(0, .int 3874), (1, .int 0), (2, .int 4095)], [.int 1], (q_cM q_AM q_IM q_J0, 34, 31630))) 8 (fun _ _ => rfl) ?_
                  exact q_Ru_ret rfl rfl
                show q_Ru _ _ _ (8, [(0, .int 3874)], [.int 1], (q_cM q_AM q_IM q_J0, 34, 31630)) _
                refine q_Ru_seg (g2 := (16, [(0, .int 3874)], [.int 0], (q_cM q_AM q_IM q_J0, 34, 31630))) 2 (fun _ _ => rfl) ?_
                exact q_Ru_ret rfl rfl
              show q_Ru _ _ _ (5, [(0, .ref 64), (1, .int 3874)], [.int 0, .ref 64], (q_cM q_AM q_IM q_J0, 34, 31630)) _
              refine q_Ru_seg (g2 := (13, [(0, .ref 64), (1, .int 3874)], [.int 0, .ref 64], (q_cM q_AM q_IM q_J0, 34, 31630))) 2 (fun _ _ => rfl) ?_
              refine q_Ru_call (v := (some (.int 0))) (h2 := (q_cM q_AM (q_uI q_IM 0 39 0) q_J0, 34, 31630)) rfl rfl ?_ ?_
              · refine q_Ca_of (Nat.le_of_ble_eq_true rfl) ?_
                refine q_Ru_seg (g2 := (14, [(0, .ref 64), (1, .int 0)], [.int 0], (q_cM q_AM (q_uI q_IM 0 39 0) q_J0, 34, 31630))) 6 (fun _ _ => rfl) ?_
                exact q_Ru_ret rfl rfl
              show q_Ru _ _ _ (16, [(0, .ref 64), (1, .int 3874)], [.int 0], (q_cM q_AM (q_uI q_IM 0 39 0) q_J0, 34, 31630)) _
              refine q_Ru_seg (g2 := (25, [(0, .ref 64), (1, .int 3874)], [.int 3874, .ref 64], (q_cM q_AM (q_uI q_IM 0 39 0) q_J0, 34, 31630))) 3 (fun _ _ => rfl) ?_
              refine q_Ru_call (v := (some (.int 0))) (h2 := (q_cM q_AM (q_uI q_IM 0 39 0) q_J0, 34, 31630)) rfl rfl ?_ ?_
              · refine q_Ca_of (Nat.le_of_ble_eq_true rfl) ?_
                refine q_Ru_seg (g2 := (7, [(0, .ref 64), (1, .int 3874)], [.int 3887, .int 3840, .int 3874], (q_cM q_AM (q_uI q_IM 0 39 0) q_J0, 34, 31630))) 3 (fun _ _ => rfl) ?_
                refine q_Ru_call (v := (some (.int 1))) (h2 := (q_cM q_AM (q_uI q_IM 0 39 0) q_J0, 34, 31630)) rfl rfl ?_ ?_
                · refine q_Ca_of (Nat.le_of_ble_eq_true rfl) ?_
                  refine q_Ru_seg (g2 := (15, [(0, .int 3874), (1, .int 3840), (2, .int 3887)], [.int 1], (q_cM q_AM (q_uI q_IM 0 39 0) q_J0, 34, 31630))) 8 (fun _ _ => rfl) ?_
                  exact q_Ru_ret rfl rfl
                show q_Ru _ _ _ (10, [(0, .ref 64), (1, .int 3874)], [.int 1], (q_cM q_AM (q_uI q_IM 0 39 0) q_J0, 34, 31630)) _
                refine q_Ru_seg (g2 := (19, [(0, .ref 64), (1, .int 3874)], [.int 34, .ref 64], (q_cM q_AM (q_uI q_IM 0 39 0) q_J0, 34, 31630))) 5 (fun _ _ => rfl) ?_
                refine q_Ru_call (v := (some (.int 0))) (h2 := (q_cM q_AM (q_uI q_IM 0 39 0) q_J0, 34, 31630)) rfl rfl ?_ ?_
                · refine q_Ca_of (Nat.le_of_ble_eq_true rfl) ?_
                  refine q_Ru_seg (g2 := (30, [(0, .ref 64), (1, .int 34)], [.int 15, .int 12, .int 34], (q_cM q_AM (q_uI q_IM 0 39 0) q_J0, 34, 31630))) 9 (fun _ _ => rfl) ?_
                  refine q_Ru_call (v := (some (.int 0))) (h2 := (q_cM q_AM (q_uI q_IM 0 39 0) q_J0, 34, 31630)) rfl rfl ?_ ?_
                  · refine q_Ca_of (Nat.le_of_ble_eq_true rfl) ?_
                    refine q_Ru_seg (g2 := (15, [(0, .int 34), (1, .int 12), (2, .int 15)], [.int 0], (q_cM q_AM (q_uI q_IM 0 39 0) q_J0, 34, 31630))) 7 (fun _ _ => rfl) ?_
                    exact q_Ru_ret rfl rfl
                  show q_Ru _ _ _ (33, [(0, .ref 64), (1, .int 34)], [.int 0], (q_cM q_AM (q_uI q_IM 0 39 0) q_J0, 34, 31630)) _
                  refine q_Ru_seg (g2 := (190, [(0, .ref 64), (1, .int 34)], [.int 0], (q_cM q_AM (q_uI q_IM 0 39 0) q_J0, 34, 31630))) 20 (fun _ _ => rfl) ?_
                  exact q_Ru_ret rfl rfl
                show q_Ru _ _ _ (22, [(0, .ref 64), (1, .int 3874)], [.int 0], (q_cM q_AM (q_uI q_IM 0 39 0) q_J0, 34, 31630)) _
                exact q_Ru_ret rfl rfl
              show q_Ru _ _ _ (28, [(0, .ref 64), (1, .int 3874)], [.int 0], (q_cM q_AM (q_uI q_IM 0 39 0) q_J0, 34, 31630)) _
              exact q_Ru_ret rfl rfl
          | 35, _, e222 =>
            have e222 : a = 3875 := e222
            subst e222
            refine ⟨0, 0, 0, ⟨(q_cX q_AX q_IX (q_uA q_J0 39 (vp_updL (fun _ => 0) 0 0)), 40, 26520), (q_uA q_J0 39 (vp_updL (fun _ => 0) 0 0)) 39, ?_, rfl, fun _ => rfl, Nat.le_of_ble_eq_true rfl, Nat.le_of_ble_eq_true rfl⟩, ⟨(q_cM q_AM (q_uI q_IM 0 39 0) q_J0, 34, 31630), _, ?_, rfl, rfl, Nat.le_of_ble_eq_true rfl, Nat.le_of_ble_eq_true rfl⟩, fun _ => rfl⟩
            · refine q_Ca_of (Nat.le_of_ble_eq_true rfl) ?_
              refine q_Ru_seg (g2 := (4, [(0, .ref 64), (1, .int 3875), (2, .ref 103)], [.int 3875, .ref 64, .int 0, .ref 103], (q_cX q_AX q_IX q_J0, 40, 26520))) 4 (fun _ _ => rfl) ?_
              refine q_Ru_call (v := (some (.int 0))) (h2 := (q_cX q_AX q_IX q_J0, 40, 26520)) rfl rfl ?_ ?_
              · refine q_Ca_of (Nat.le_of_ble_eq_true rfl) ?_
                refine q_Ru_seg (g2 := (1, [(0, .ref 64), (1, .int 3875)], [.int 3875], (q_cX q_AX q_IX q_J0, 40, 26520))) 1 (fun _ _ => rfl) ?_
                refine q_Ru_call (v := none) (h2 := (q_cX q_AX q_IX q_J0, 40, 26520)) rfl rfl ?_ ?_
                · refine q_Ca_of (Nat.le_of_ble_eq_true rfl) ?_
                  refine q_Ru_seg (g2 := (4, [(0, .int 3875)], [.int 4096, .int 3875], (q_cX q_AX q_IX q_J0, 40, 26520))) 2 (fun _ _ => rfl) ?_
                  refine q_Ru_call (v := none) (h2 := (q_cX q_AX q_IX q_J0, 40, 26520)) rfl rfl ?_ ?_
                  · refine q_Ca_of (Nat.le_of_ble_eq_true rfl) ?_
                    refine q_Ru_seg (g2 := (19, [(0, .int 3875), (1, .int 4096)], [], (q_cX q_AX q_IX q_J0, 40, 26520))) 5 (fun _ _ => rfl) ?_
                    exact q_Ru_ret rfl rfl
                  show q_Ru _ _ _ (7, [(0, .int 3875)], [], (q_cX q_AX q_IX q_J0, 40, 26520)) _
                  exact q_Ru_ret rfl rfl
                show q_Ru _ _ _ (4, [(0, .ref 64), (1, .int 3875)], [], (q_cX q_AX q_IX q_J0, 40, 26520)) _
                refine q_Ru_seg (g2 := (12, [(0, .ref 64), (1, .int 3875)], [.int 3875, .ref 66], (q_cX q_AX q_IX q_J0, 40, 26520))) 4 (fun _ _ => rfl) ?_
                refine q_Ru_call (v := (some (.int 0))) (h2 := (q_cX q_AX q_IX q_J0, 40, 26520)) rfl rfl ?_ ?_
                · refine q_Ca_of (Nat.le_of_ble_eq_true rfl) ?_
                  refine q_Ru_seg (g2 := (27, [(2, .int 35), (0, .ref 66), (1, .int 3875)], [.int 0, .int 35, .ref 66], (q_cX q_AX q_IX q_J0, 40, 26520))) 16 (fun _ _ => rfl) ?_
                  refine q_Ru_call (v := (some (.int 0))) (h2 := (q_cX q_AX q_IX q_J0, 40, 26520)) rfl rfl ?_ ?_
                  · refine q_Ca_of (Nat.le_of_ble_eq_true rfl) ?_
                    refine q_Ru_seg (g2 := (183, [(0, .ref 66), (1, .int 35), (2, .int 0)], [.int 0], (q_cX q_AX q_IX q_J0, 40, 26520))) 3 (fun _ _ => rfl) ?_
                    exact q_Ru_ret rfl rfl
                  show q_Ru _ _ _ (30, [(2, .int 35), (0, .ref 66), (1, .int 3875)], [.int 0], (q_cX q_AX q_IX q_J0, 40, 26520)) _
                  exact q_Ru_ret rfl rfl
                show q_Ru _ _ _ (15, [(0, .ref 64), (1, .int 3875)], [.int 0], (q_cX q_AX q_IX q_J0, 40, 26520)) _
                exact q_Ru_ret rfl rfl
              show q_Ru _ _ _ (7, [(0, .ref 64), (1, .int 3875), (2, .ref 103)], [.int 0, .int 0, .ref 103], (q_cX q_AX q_IX q_J0, 40, 26520)) _
              refine q_Ru_seg (g2 := (16, [(0, .ref 64), (1, .int 3875), (2, .ref 103)], [.int 0], (q_cX q_AX q_IX (q_uA q_J0 39 (vp_updL (fun _ => 0) 0 0)), 40, 26520))) 4 (fun _ _ => rfl) ?_
              exact q_Ru_ret rfl rfl
            · refine q_Ca_of (Nat.le_of_ble_eq_true rfl) ?_
              refine q_Ru_seg (g2 := (2, [(0, .ref 64), (1, .int 3875)], [.int 3875, .ref 64], (q_cM q_AM q_IM q_J0, 34, 31630))) 2 (fun _ _ => rfl) ?_
              refine q_Ru_call (v := (some (.int 0))) (h2 := (q_cM q_AM q_IM q_J0, 34, 31630)) rfl rfl ?_ ?_
              · refine q_Ca_of (Nat.le_of_ble_eq_true rfl) ?_
                refine q_Ru_seg (g2 := (5, [(0, .int 3875)], [.int 4095, .int 0, .int 3875], (q_cM q_AM q_IM q_J0, 34, 31630))) 3 (fun _ _ => rfl) ?_
                refine q_Ru_call (v := (some (.int 1))) (h2 := (q_cM q_AM q_IM q_J0, 34, 31630)) rfl rfl ?_ ?_
                · refine q_Ca_of (Nat.le_of_ble_eq_true rfl) ?_
                  refine q_Ru_seg (g2 := (15, [(0, .int 3875), (1, .int 0), (2, .int 4095)], [.int 1], (q_cM q_AM q_IM q_J0, 34, 31630))) 8 (fun _ _ => rfl) ?_
                  exact q_Ru_ret rfl rfl
                show q_Ru _ _ _ (8, [(0, .int 3875)], [.int 1], (q_cM q_AM q_IM q_J0, 34, 31630)) _
                refine q_Ru_seg (g2 := (16, [(0, .int 3875)], [.int 0], (q_cM q_AM q_IM q_J0, 34, 31630))) 2 (fun _ _ => rfl) ?_
                exact q_Ru_ret rfl rfl
              show q_Ru _ _ _ (5, [(0, .ref 64), (1, .int 3875)], [.int 0, .ref 64], (q_cM q_AM q_IM q_J0, 34, 31630)) _
              refine q_Ru_seg (g2 := (13, [(0, .ref 64), (1, .int 3875)], [.int 0, .ref 64], (q_cM q_AM q_IM q_J0, 34, 31630))) 2 (fun _ _ => rfl) ?_
              refine q_Ru_call (v := (some (.int 0))) (h2 := (q_cM q_AM (q_uI q_IM 0 39 0) q_J0, 34, 31630)) rfl rfl ?_ ?_
              · refine q_Ca_of (Nat.le_of_ble_eq_true rfl) ?_
                refine q_Ru_seg (g2 := (14, [(0, .ref 64), (1, .int 0)], [.int 0], (q_cM q_AM (q_uI q_IM 0 39 0) q_J0, 34, 31630))) 6 (fun _ _ => rfl) ?_
                exact q_Ru_ret rfl rfl
              show q_Ru _ _ _ (16, [(0, .ref 64), (1, .int 3875)], [.int 0], (q_cM q_AM (q_uI q_IM 0 39 0) q_J0, 34, 31630)) _
              refine q_Ru_seg (g2 := (25, [(0, .ref 64), (1, .int 3875)], [.int 3875, .ref 64], (q_cM q_AM (q_uI q_IM 0 39 0) q_J0, 34, 31630))) 3 (fun _ _ => rfl) ?_
              refine q_Ru_call (v := (some (.int 0))) (h2 := (q_cM q_AM (q_uI q_IM 0 39 0) q_J0, 34, 31630)) rfl rfl ?_ ?_
              · refine q_Ca_of (Nat.le_of_ble_eq_true rfl) ?_
                refine q_Ru_seg (g2 := (7, [(0, .ref 64), (1, .int 3875)], [.int 3887, .int 3840, .int 3875], (q_cM q_AM (q_uI q_IM 0 39 0) q_J0, 34, 31630))) 3 (fun _ _ => rfl) ?_
                refine q_Ru_call (v := (some (.int 1))) (h2 := (q_cM q_AM (q_uI q_IM 0 39 0) q_J0, 34, 31630)) rfl rfl ?_ ?_
                · refine q_Ca_of (Nat.le_of_ble_eq_true rfl) ?_
                  refine q_Ru_seg (g2 := (15, [(0, .int 3875), (1, .int 3840), (2, .int 3887)], [.int 1], (q_cM q_AM (q_uI q_IM 0 39 0) q_J0, 34, 31630))) 8 (fun _ _ => rfl) ?_
                  exact q_Ru_ret rfl rfl
                show q_Ru _ _ _ (10, [(0, .ref 64), (1, .int 3875)], [.int 1], (q_cM q_AM (q_uI q_IM 0 39 0) q_J0, 34, 31630)) _
                refine q_Ru_seg (g2 := (19, [(0, .ref 64), (1, .int 3875)], [.int 35, .ref 64], (q_cM q_AM (q_uI q_IM 0 39 0) q_J0, 34, 31630))) 5 (fun _ _ => rfl) ?_
                refine q_Ru_call (v := (some (.int 0))) (h2 := (q_cM q_AM (q_uI q_IM 0 39 0) q_J0, 34, 31630)) rfl rfl ?_ ?_
                · refine q_Ca_of (Nat.le_of_ble_eq_true rfl) ?_
                  refine q_Ru_seg (g2 := (30, [(0, .ref 64), (1, .int 35)], [.int 15, .int 12, .int 35], (q_cM q_AM (q_uI q_IM 0 39 0) q_J0, 34, 31630))) 9 (fun _ _ => rfl) ?_
                  refine q_Ru_call (v := (some (.int 0))) (h2 := (q_cM q_AM (q_uI q_IM 0 39 0) q_J0, 34, 31630)) rfl rfl ?_ ?_
                  · refine q_Ca_of (Nat.le_of_ble_eq_true rfl) ?_
                    refine q_Ru_seg (g2 := (15, [(0, .int 35), (1, .int 12), (2, .int 15)], [.int 0], (q_cM q_AM (q_uI q_IM 0 39 0) q_J0, 34, 31630))) 7 (fun _ _ => rfl) ?_
                    exact q_Ru_ret rfl rfl
                  show q_Ru _ _ _ (33, [(0, .ref 64), (1, .int 35)], [.int 0], (q_cM q_AM (q_uI q_IM 0 39 0) q_J0, 34, 31630)) _
                  refine q_Ru_seg (g2 := (190, [(0, .ref 64), (1, .int 35)], [.int 0], (q_cM q_AM (q_uI q_IM 0 39 0) q_J0, 34, 31630))) 20 (fun _ _ => rfl) ?_
                  exact q_Ru_ret rfl rfl
                show q_Ru _ _ _ (22, [(0, .ref 64), (1, .int 3875)], [.int 0], (q_cM q_AM (q_uI q_IM 0 39 0) q_J0, 34, 31630)) _
                exact q_Ru_ret rfl rfl
              show q_Ru _ _ _ (28, [(0, .ref 64), (1, .int 3875)], [.int 0], (q_cM q_AM (q_uI q_IM 0 39 0) q_J0, 34, 31630)) _
              exact q_Ru_ret rfl rfl
          | 36, _, e222 =>
            have e222 : a = 3876 := e222
            subst e222
            refine ⟨0, 0, 0, ⟨(q_cX q_AX q_IX (q_uA q_J0 39 (vp_updL (fun _ => 0) 0 0)), 40, 26520), (q_uA q_J0 39 (vp_updL (fun _ => 0) 0 0)) 39, ?_, rfl, fun _ => rfl, Nat.le_of_ble_eq_true rfl, Nat.le_of_ble_eq_true rfl⟩, ⟨(q_cM q_AM (q_uI q_IM 0 39 0) q_J0, 34, 31630), _, ?_, rfl, rfl, Nat.le_of_ble_eq_true rfl, Nat.le_of_ble_eq_true rfl⟩, fun _ => rfl⟩
            · refine q_Ca_of (Nat.le_of_ble_eq_true rfl) ?_
              refine q_Ru_seg (g2 := (4, [(0, .ref 64), (1, .int 3876), (2, .ref 103)], [.int 3876, .ref 64, .int 0, .ref 103], (q_cX q_AX q_IX q_J0, 40, 26520))) 4 (fun _ _ => rfl) ?_
              refine q_Ru_call (v := (some (.int 0))) (h2 := (q_cX q_AX q_IX q_J0, 40, 26520)) rfl rfl ?_ ?_
              · refine q_Ca_of (Nat.le_of_ble_eq_true rfl) ?_
                refine q_Ru_seg (g2 := (1, [(0, .ref 64), (1, .int 3876)], [.int 3876], (q_cX q_AX q_IX q_J0, 40, 26520))) 1 (fun _ _ => rfl) ?_
                refine q_Ru_call (v := none) (h2 := (q_cX q_AX q_IX q_J0, 40, 26520)) rfl rfl ?_ ?_
                · refine q_Ca_of (Nat.le_of_ble_eq_true rfl) ?_
                  refine q_Ru_seg (g2 := (4, [(0, .int 3876)], [.int 4096, .int 3876], (q_cX q_AX q_IX q_J0, 40, 26520))) 2 (fun _ _ => rfl) ?_
                  refine q_Ru_call (v := none) (h2 := (q_cX q_AX q_IX q_J0, 40, 26520)) rfl rfl ?_ ?_
                  · refine q_Ca_of (Nat.le_of_ble_eq_true rfl) ?_
                    refine q_Ru_seg (g2 := (19, [(0, .int 3876), (1, .int 4096)], [], (q_cX q_AX q_IX q_J0, 40, 26520))) 5 (fun _ _ => rfl) ?_
                    exact q_Ru_ret rfl rfl
                  show q_Ru _ _ _ (7, [(0, .int 3876)], [], (q_cX q_AX q_IX q_J0, 40, 26520)) _
                  exact q_Ru_ret rfl rfl
                show q_Ru _ _ _ (4, [(0, .ref 64), (1, .int 3876)], [], (q_cX q_AX q_IX q_J0, 40, 26520)) _
                refine q_Ru_seg (g2 := (12, [(0, .ref 64), (1, .int 3876)], [.int 3876, .ref 66], (q_cX q_AX q_IX q_J0, 40, 26520))) 4 (fun _ _ => rfl) ?_
                refine q_Ru_call (v := (some (.int 0))) (h2 := (q_cX q_AX q_IX q_J0, 40, 26520)) rfl rfl ?_ ?_
                · refine q_Ca_of (Nat.le_of_ble_eq_true rfl) ?_
                  refine q_Ru_seg (g2 := (27, [(2, .int 36), (0, .ref 66), (1, .int 3876)], [.int 0, .int 36, .ref 66], (q_cX q_AX q_IX q_J0, 40, 26520))) 16 (fun _ _ => rfl) ?_
                  refine q_Ru_call (v := (some (.int 0))) (h2 := (q_cX q_AX q_IX q_J0, 40, 26520)) rfl rfl ?_ ?_
                  · refine q_Ca_of (Nat.le_of_ble_eq_true rfl) ?_
                    refine q_Ru_seg (g2 := (183, [(0, .ref 66), (1, .int 36), (2, .int 0)], [.int 0], (q_cX q_AX q_IX q_J0, 40, 26520))) 3 (fun _ _ => rfl) ?_
                    exact q_Ru_ret rfl rfl
                  show q_Ru _ _ _ (30, [(2, .int 36), (0, .ref 66), (1, .int 3876)], [.int 0], (q_cX q_AX q_IX q_J0, 40, 26520)) _
                  exact q_Ru_ret rfl rfl
                show q_Ru _ _ _ (15, [(0, .ref 64), (1, .int 3876)], [.int 0], (q_cX q_AX q_IX q_J0, 40, 26520)) _
                exact q_Ru_ret rfl rfl
              show q_Ru _ _ _ (7, [(0, .ref 64), (1, .int 3876), (2, .ref 103)], [.int 0, .int 0, .ref 103], (q_cX q_AX q_IX q_J0, 40, 26520)) _
              refine q_Ru_seg (g2 := (16, [(0, .ref 64), (1, .int 3876), (2, .ref 103)], [.int 0], (q_cX q_AX q_IX (q_uA q_J0 39 (vp_updL (fun _ => 0) 0 0)), 40, 26520))) 4 (fun _ _ => rfl) ?_
              exact q_Ru_ret rfl rfl
            · refine q_Ca_of (Nat.le_of_ble_eq_true rfl) ?_
              refine q_Ru_seg (g2 := (2, [(0, .ref 64), (1, .int 3876)], [.int 3876, .ref 64], (q_cM q_AM q_IM q_J0, 34, 31630))) 2 (fun _ _ => rfl) ?_
              refine q_Ru_call (v := (some (.int 0))) (h2 := (q_cM q_AM q_IM q_J0, 34, 31630)) rfl rfl ?_ ?_
              · refine q_Ca_of (Nat.le_of_ble_eq_true rfl) ?_
                refine q_Ru_seg (g2 := (5, [(0, .int 3876)], [.int 4095, .int 0, .int 3876], (q_cM q_AM q_IM q_J0, 34, 31630))) 3 (fun _ _ => rfl) ?_
                refine q_Ru_call (v := (some (.int 1))) (h2 := (q_cM q_AM q_IM q_J0, 34, 31630)) rfl rfl ?_ ?_
                · refine q_Ca_of (Nat.le_of_ble_eq_true rfl) ?_
                  refine q_Ru_seg (g2 := (15, [(0, .int 3876), (1, .int 0), (2, .int 4095)], [.int 1], (q_cM q_AM q_IM q_J0, 34, 31630))) 8 (fun _ _ => rfl) ?_
                  exact q_Ru_ret rfl rfl
                show q_Ru _ _ _ (8, [(0, .int 3876)], [.int 1], (q_cM q_AM q_IM q_J0, 34, 31630)) _
                refine q_Ru_seg (g2 := (16, [(0, .int 3876)], [.int 0], (q_cM q_AM q_IM q_J0, 34, 31630))) 2 (fun _ _ => rfl) ?_
                exact q_Ru_ret rfl rfl
              show q_Ru _ _ _ (5, [(0, .ref 64), (1, .int 3876)], [.int 0, .ref 64], (q_cM q_AM q_IM q_J0, 34, 31630)) _
              refine q_Ru_seg (g2 := (13, [(0, .ref 64), (1, .int 3876)], [.int 0, .ref 64], (q_cM q_AM q_IM q_J0, 34, 31630))) 2 (fun _ _ => rfl) ?_
              refine q_Ru_call (v := (some (.int 0))) (h2 := (q_cM q_AM (q_uI q_IM 0 39 0) q_J0, 34, 31630)) rfl rfl ?_ ?_
              · refine q_Ca_of (Nat.le_of_ble_eq_true rfl) ?_
                refine q_Ru_seg (g2 := (14, [(0, .ref 64), (1, .int 0)], [.int 0], (q_cM q_AM (q_uI q_IM 0 39 0) q_J0, 34, 31630))) 6 (fun _ _ => rfl) ?_
                exact q_Ru_ret rfl rfl
              show q_Ru _ _ _ (16, [(0, .ref 64), (1, .int 3876)], [.int 0], (q_cM q_AM (q_uI q_IM 0 39 0) q_J0, 34, 31630)) _
              refine q_Ru_seg (g2 := (25, [(0, .ref 64), (1, .int 3876)], [.int 3876, .ref 64], (q_cM q_AM (q_uI q_IM 0 39 0) q_J0, 34, 31630))) 3 (fun _ _ => rfl) ?_
              refine q_Ru_call (v := (some (.int 0))) (h2 := (q_cM q_AM (q_uI q_IM 0 39 0) q_J0, 34, 31630)) rfl rfl ?_ ?_
              · refine q_Ca_of (Nat.le_of_ble_eq_true rfl) ?_
                refine q_Ru_seg (g2 := (7, [(0, .ref 64), (1, .int 3876)], [.int 3887, .int 3840, .int 3876], (q_cM q_AM (q_uI q_IM 0 39 0) q_J0, 34, 31630))) 3 (fun _ _ => rfl) ?_
                refine q_Ru_call (v := (some (.int 1))) (h2 := (q_cM q_AM (q_uI q_IM 0 39 0) q_J0, 34, 31630)) rfl rfl ?_ ?_
                · refine q_Ca_of (Nat.le_of_ble_eq_true rfl) ?_
                  refine q_Ru_seg (g2 := (15, [(0, .int 3876), (1, .int 3840), (2, .int 3887)], [.int 1], (q_cM q_AM (q_uI q_IM 0 39 0) q_J0, 34, 31630))) 8 (fun _ _ => rfl) ?_
                  exact q_Ru_ret rfl rfl
                show q_Ru _ _ _ (10, [(0, .ref 64), (1, .int 3876)], [.int 1], (q_cM q_AM (q_uI q_IM 0 39 0) q_J0, 34, 31630)) _
                refine q_Ru_seg (g2 := (19, [(0, .ref 64), (1, .int 3876)], [.int 36, .ref 64], (q_cM q_AM (q_uI q_IM 0 39 0) q_J0, 34, 31630))) 5 (fun _ _ => rfl) ?_
                refine q_Ru_call (v := (some (.int 0))) (h2 := (q_cM q_AM (q_uI q_IM 0 39 0) q_J0, 34, 31630)) rfl rfl ?_ ?_
                · refine q_Ca_of (Nat.le_of_ble_eq_true rfl) ?_
                  refine q_Ru_seg (g2 := (30, [(0, .ref 64), (1, .int 36)], [.int 15, .int 12, .int 36], (q_cM q_AM (q_uI q_IM 0 39 0) q_J0, 34, 31630))) 9 (fun _ _ => rfl) ?_
                  refine q_Ru_call (v := (some (.int 0))) (h2 := (q_cM q_AM (q_uI q_IM 0 39 0) q_J0, 34, 31630)) rfl rfl ?_ ?_
                  · refine q_Ca_of (Nat.le_of_ble_eq_true rfl) ?_
                    refine q_Ru_seg (g2 := (15, [(0, .int 36), (1, .int 12), (2, .int 15)], [.int 0], (q_cM q_AM (q_uI q_IM 0 39 0) q_J0, 34, 31630))) 7 (fun _ _ => rfl) ?_
                    exact q_Ru_ret rfl rfl
                  show q_Ru _ _ _ (33, [(0, .ref 64), (1, .int 36)], [.int 0], (q_cM q_AM (q_uI q_IM 0 39 0) q_J0, 34, 31630)) _
                  refine q_Ru_seg (g2 := (190, [(0, .ref 64), (1, .int 36)], [.int 0], (q_cM q_AM (q_uI q_IM 0 39 0) q_J0, 34, 31630))) 20 (fun _ _ => rfl) ?_
                  exact q_Ru_ret rfl rfl
                show q_Ru _ _ _ (22, [(0, .ref 64), (1, .int 3876)], [.int 0], (q_cM q_AM (q_uI q_IM 0 39 0) q_J0, 34, 31630)) _
                exact q_Ru_ret rfl rfl
              show q_Ru _ _ _ (28, [(0, .ref 64), (1, .int 3876)], [.int 0], (q_cM q_AM (q_uI q_IM 0 39 0) q_J0, 34, 31630)) _
              exact q_Ru_ret rfl rfl
          | 37, _, e222 =>
            have e222 : a = 3877 := e222
            subst e222
            refine ⟨0, 0, 0, ⟨(q_cX q_AX q_IX (q_uA q_J0 39 (vp_updL (fun _ => 0) 0 0)), 40, 26520), (q_uA q_J0 39 (vp_updL (fun _ => 0) 0 0)) 39, ?_, rfl, fun _ => rfl, Nat.le_of_ble_eq_true rfl, Nat.le_of_ble_eq_true rfl⟩, ⟨(q_cM q_AM (q_uI q_IM 0 39 0) q_J0, 34, 31630), _, ?_, rfl, rfl, Nat.le_of_ble_eq_true rfl, Nat.le_of_ble_eq_true rfl⟩, fun _ => rfl⟩
            · refine q_Ca_of (Nat.le_of_ble_eq_true rfl) ?_
              refine q_Ru_seg (g2 := (4, [(0, .ref 64), (1, .int 3877), (2, .ref 103)], [.int 3877, .ref 64, .int 0, .ref 103], (q_cX q_AX q_IX q_J0, 40, 26520))) 4 (fun _ _ => rfl) ?_
              refine q_Ru_call (v := (some (.int 0))) (h2 := (q_cX q_AX q_IX q_J0, 40, 26520)) rfl rfl ?_ ?_
              · refine q_Ca_of (Nat.le_of_ble_eq_true rfl) ?_
                refine q_Ru_seg (g2 := (1, [(0, .ref 64), (1, .int 3877)], [.int 3877], (q_cX q_AX q_IX q_J0, 40, 26520))) 1 (fun _ _ => rfl) ?_
                refine q_Ru_call (v := none) (h2 := (q_cX q_AX q_IX q_J0, 40, 26520)) rfl rfl ?_ ?_
                · refine q_Ca_of (Nat.le_of_ble_eq_true rfl) ?_
                  refine q_Ru_seg (g2 := (4, [(0, .int 3877)], [.int 4096, .int 3877], (q_cX q_AX q_IX q_J0, 40, 26520))) 2 (fun _ _ => rfl) ?_
                  refine q_Ru_call (v := none) (h2 := (q_cX q_AX q_IX q_J0, 40, 26520)) rfl rfl ?_ ?_
                  · refine q_Ca_of (Nat.le_of_ble_eq_true rfl) ?_
                    refine q_Ru_seg (g2 := (19, [(0, .int 3877), (1, .int 4096)], [], (q_cX q_AX q_IX q_J0, 40, 26520))) 5 (fun _ _ => rfl) ?_
                    exact q_Ru_ret rfl rfl
                  show q_Ru _ _ _ (7, [(0, .int 3877)], [], (q_cX q_AX q_IX q_J0, 40, 26520)) _
                  exact q_Ru_ret rfl rfl
                show q_Ru _ _ _ (4, [(0, .ref 64), (1, .int 3877)], [], (q_cX q_AX q_IX q_J0, 40, 26520)) _
                refine q_Ru_seg (g2 := (12, [(0, .ref 64), (1, .int 3877)], [.int 3877, .ref 66], (q_cX q_AX q_IX q_J0, 40, 26520))) 4 (fun _ _ => rfl) ?_
                refine q_Ru_call (v := (some (.int 0))) (h2 := (q_cX q_AX q_IX q_J0, 40, 26520)) rfl rfl ?_ ?_
                · refine q_Ca_of (Nat.le_of_ble_eq_true rfl) ?_
                  refine q_Ru_seg (g2 := (27, [(2, .int 37), (0, .ref 66), (1, .int 3877)], [.int 0, .int 37, .ref 66], (q_cX q_AX q_IX q_J0, 40, 26520))) 16 (fun _ _ => rfl) ?_
                  refine q_Ru_call (v := (some (.int 0))) (h2 := (q_cX q_AX q_IX q_J0, 40, 26520)) rfl rfl ?_ ?_
                  · refine q_Ca_of (Nat.le_of_ble_eq_true rfl) ?_
                    refine q_Ru_seg (g2 := (183, [(0, .ref 66), (1, .int 37), (2, .int 0)], [.int 0], (q_cX q_AX q_IX q_J0, 40, 26520))) 3 (fun _ _ => rfl) ?_
                    exact q_Ru_ret rfl rfl
                  show q_Ru _ _ _ (30, [(2, .int 37), (0, .ref 66), (1, .int 3877)], [.int 0], (q_cX q_AX q_IX q_J0, 40, 26520)) _
                  exact q_Ru_ret rfl rfl
                show q_Ru _ _ _ (15, [(0, .ref 64), (1, .int 3877)], [.int 0], (q_cX q_AX q_IX q_J0, 40, 26520)) _
                exact q_Ru_ret rfl rfl
              show q_Ru _ _ _ (7, [(0, .ref 64), (1, .int 3877), (2, .ref 103)], [.int 0, .int 0, .ref 103], (q_cX q_AX q_IX q_J0, 40, 26520)) _
              refine q_Ru_seg (g2 := (16, [(0, .ref 64), (1, .int 3877), (2, .ref 103)], [.int 0], (q_cX q_AX q_IX (q_uA q_J0 39 (vp_updL (fun _ => 0) 0 0)), 40, 26520))) 4 (fun _ _ => rfl) ?_
              exact q_Ru_ret rfl rfl
            · refine q_Ca_of (Nat.le_of_ble_eq_true rfl) ?_
              refine q_Ru_seg (g2 := (2, [(0, .ref 64), (1, .int 3877)], [.int 3877, .ref 64], (q_cM q_AM q_IM q_J0, 34, 31630))) 2 (fun _ _ => rfl) ?_
              refine q_Ru_call (v := (some (.int 0))) (h2 := (q_cM q_AM q_IM q_J0, 34, 31630)) rfl rfl ?_ ?_
              · refine q_Ca_of (Nat.le_of_ble_eq_true rfl) ?_
                refine q_Ru_seg (g2 := (5, [(0, .int 3877)], [.int 4095, .int 0, .int 3877], (q_cM q_AM q_IM q_J0, 34, 31630))) 3 (fun _ _ => rfl) ?_
                refine q_Ru_call (v := (some (.int 1))) (h2 := (q_cM q_AM q_IM q_J0, 34, 31630)) rfl rfl ?_ ?_
                · refine q_Ca_of (Nat.le_of_ble_eq_true rfl) ?_
                  refine q_Ru_seg (g2 := (15, [(0, .int 3877), (1, .int 0), (2, .int 4095)], [.int 1], (q_cM q_AM q_IM q_J0, 34, 31630))) 8 (fun _ _ => rfl) ?_
                  exact q_Ru_ret rfl rfl
                show q_Ru _ _ _ (8, [(0, .int 3877)], [.int 1], (q_cM q_AM q_IM q_J0, 34, 31630)) _
                refine q_Ru_seg (g2 := (16, [(0, .int 3877)], [.int 0], (q_cM q_AM q_IM q_J0, 34, 31630))) 2 (fun _ _ => rfl) ?_
                exact q_Ru_ret rfl rfl
              show q_Ru _ _ _ (5, [(0, .ref 64), (1, .int 3877)], [.int 0, .ref 64], (q_cM q_AM q_IM q_J0, 34, 31630)) _
              refine q_Ru_seg (g2 := (13, [(0, .ref 64), (1, .int 3877)], [.int 0, .ref 64], (q_cM q_AM q_IM q_J0, 34, 31630))) 2 (fun _ _ => rfl) ?_
              refine q_Ru_call (v := (some (.int 0))) (h2 := (q_cM q_AM (q_uI q_IM 0 39 0) q_J0, 34, 31630)) rfl rfl ?_ ?_
              · refine q_Ca_of (Nat.le_of_ble_eq_true rfl) ?_
                refine q_Ru_seg (g2 := (14, [(0, .ref 64), (1, .int 0)], [.int 0], (q_cM q_AM (q_uI q_IM 0 39 0) q_J0, 34, 31630))) 6 (fun _ _ => rfl) ?_
                exact q_Ru_ret rfl rfl
              show q_Ru _ _ _ (16, [(0, .ref 64), (1, .int 3877)], [.int 0], (q_cM q_AM (q_uI q_IM 0 39 0) q_J0, 34, 31630)) _
              refine q_Ru_seg (g2 := (25, [(0, .ref 64), (1, .int 3877)], [.int 3877, .ref 64], (q_cM q_AM (q_uI q_IM 0 39 0) q_J0, 34, 31630))) 3 (fun _ _ => rfl) ?_
              refine q_Ru_call (v := (some (.int 0))) (h2 := (q_cM q_AM (q_uI q_IM 0 39 0) q_J0, 34, 31630)) rfl rfl ?_ ?_
              · refine q_Ca_of (Nat.le_of_ble_eq_true rfl) ?_
                refine q_Ru_seg (g2 := (7, [(0, .ref 64), (1, .int 3877)], [.int 3887, .int 3840, .int 3877], (q_cM q_AM (q_uI q_IM 0 39 0) q_J0, 34, 31630))) 3 (fun _ _ => rfl) ?_
                refine q_Ru_call (v := (some (.int 1))) (h2 := (q_cM q_AM (q_uI q_IM 0 39 0) q_J0, 34, 31630)) rfl rfl ?_ ?_
                · refine q_Ca_of (Nat.le_of_ble_eq_true rfl) ?_
                  refine q_Ru_seg (g2 := (15, [(0, .int 3877), (1, .int 3840), (2, .int 3887)], [.int 1], (q_cM q_AM (q_uI q_IM 0 39 0) q_J0, 34, 31630))) 8 (fun _ _ => rfl) ?_
                  exact q_Ru_ret rfl rfl
                show q_Ru _ _ _ (10, [(0, .ref 64), (1, .int 3877)], [.int 1], (q_cM q_AM (q_uI q_IM 0 39 0) q_J0, 34, 31630)) _
                refine q_Ru_seg (g2 := (19, [(0, .ref 64), (1, .int 3877)], [.int 37, .ref 64], (q_cM q_AM (q_uI q_IM 0 39 0) q_J0, 34, 31630))) 5 (fun _ _ => rfl) ?_
                refine q_Ru_call (v := (some (.int 0))) (h2 := (q_cM q_AM (q_uI q_IM 0 39 0) q_J0, 34, 31630)) rfl rfl ?_ ?_
                · refine q_Ca_of (Nat.le_of_ble_eq_true rfl) ?_
                  refine q_Ru_seg (g2 := (30, [(0, .ref 64), (1, .int 37)], [.int 15, .int 12, .int 37], (q_cM q_AM (q_uI q_IM 0 39 0) q_J0, 34, 31630))) 9 (fun _ _ => rfl) ?_
                  refine q_Ru_call (v := (some (.int 0))) (h2 := (q_cM q_AM (q_uI q_IM 0 39 0) q_J0, 34, 31630)) rfl rfl ?_ ?_
                  · refine q_Ca_of (Nat.le_of_ble_eq_true rfl) ?_
                    refine q_Ru_seg (g2 := (15, [(0, .int 37), (1, .int 12), (2, .int 15)], [.int 0], (q_cM q_AM (q_uI q_IM 0 39 0) q_J0, 34, 31630))) 7 (fun _ _ => rfl) ?_
                    exact q_Ru_ret rfl rfl
                  show q_Ru _ _ _ (33, [(0, .ref 64), (1, .int 37)], [.int 0], (q_cM q_AM (q_uI q_IM 0 39 0) q_J0, 34, 31630)) _
                  refine q_Ru_seg (g2 := (190, [(0, .ref 64), (1, .int 37)], [.int 0], (q_cM q_AM (q_uI q_IM 0 39 0) q_J0, 34, 31630))) 20 (fun _ _ => rfl) ?_
                  exact q_Ru_ret rfl rfl
                show q_Ru _ _ _ (22, [(0, .ref 64), (1, .int 3877)], [.int 0], (q_cM q_AM (q_uI q_IM 0 39 0) q_J0, 34, 31630)) _
                exact q_Ru_ret rfl rfl
              show q_Ru _ _ _ (28, [(0, .ref 64), (1, .int 3877)], [.int 0], (q_cM q_AM (q_uI q_IM 0 39 0) q_J0, 34, 31630)) _
              exact q_Ru_ret rfl rfl
          | 38, _, e222 =>
            have e222 : a = 3878 := e222
            subst e222
            refine ⟨0, 0, 0, ⟨(q_cX q_AX q_IX (q_uA q_J0 39 (vp_updL (fun _ => 0) 0 0)), 40, 26520), (q_uA q_J0 39 (vp_updL (fun _ => 0) 0 0)) 39, ?_, rfl, fun _ => rfl, Nat.le_of_ble_eq_true rfl, Nat.le_of_ble_eq_true rfl⟩, ⟨(q_cM q_AM (q_uI q_IM 0 39 0) q_J0, 34, 31630), _, ?_, rfl, rfl, Nat.le_of_ble_eq_true rfl, Nat.le_of_ble_eq_true rfl⟩, fun _ => rfl⟩
            · refine q_Ca_of (Nat.le_of_ble_eq_true rfl) ?_
              refine q_Ru_seg (g2 := (4, [(0, .ref 64), (1, .int 3878), (2, .ref 103)], [.int 3878, .ref 64, .int 0, .ref 103], (q_cX q_AX q_IX q_J0, 40, 26520))) 4 (fun _ _ => rfl) ?_
              refine q_Ru_call (v := (some (.int 0))) (h2 := (q_cX q_AX q_IX q_J0, 40, 26520)) rfl rfl ?_ ?_
              · refine q_Ca_of (Nat.le_of_ble_eq_true rfl) ?_
                refine q_Ru_seg (g2 := (1, [(0, .ref 64), (1, .int 3878)], [.int 3878], (q_cX q_AX q_IX q_J0, 40, 26520))) 1 (fun _ _ => rfl) ?_
                refine q_Ru_call (v := none) (h2 := (q_cX q_AX q_IX q_J0, 40, 26520)) rfl rfl ?_ ?_
                · refine q_Ca_of (Nat.le_of_ble_eq_true rfl) ?_
                  refine q_Ru_seg (g2 := (4, [(0, .int 3878)], [.int 4096, .int 3878], (q_cX q_AX q_IX q_J0, 40, 26520))) 2 (fun _ _ => rfl) ?_
                  refine q_Ru_call (v := none) (h2 := (q_cX q_AX q_IX q_J0, 40, 26520)) rfl rfl ?_ ?_
                  · refine q_Ca_of (Nat.le_of_ble_eq_true rfl) ?_
                    refine q_Ru_seg (g2 := (19, [(0, .int 3878), (1, .int 4096)], [], (q_cX q_AX q_IX q_J0, 40, 26520))) 5 (fun _ _ => rfl) ?_
                    exact q_Ru_ret rfl rfl
                  show q_Ru _ _ _ (7, [(0, .int 3878)], [], (q_cX q_AX q_IX q_J0, 40, 26520)) _
                  exact q_Ru_ret rfl rfl
                show q_Ru _ _ _ (4, [(0, .ref 64), (1, .int 3878)], [], (q_cX q_AX q_IX q_J0, 40, 26520)) _
                refine q_Ru_seg (g2 := (12, [(0, .ref 64), (1, .int 3878)], [.int 3878, .ref 66], (q_cX q_AX q_IX q_J0, 40, 26520))) 4 (fun _ _ => rfl) ?_
                refine q_Ru_call (v := (some (.int 0))) (h2 := (q_cX q_AX q_IX q_J0, 40, 26520)) rfl rfl ?_ ?_
                · refine q_Ca_of (Nat.le_of_ble_eq_true rfl) ?_
                  refine q_Ru_seg (g2 := (27, [(2, .int 38), (0, .ref 66), (1, .int 3878)], [.int 0, .int 38, .ref 66], (q_cX q_AX q_IX q_J0, 40, 26520))) 16 (fun _ _ => rfl) ?_
                  refine q_Ru_call (v := (some (.int 0))) (h2 := (q_cX q_AX q_IX q_J0, 40, 26520)) rfl rfl ?_ ?_
                  · refine q_Ca_of (Nat.le_of_ble_eq_true rfl) ?_
                    refine q_Ru_seg (g2 := (183, [(0, .ref 66), (1, .int 38), (2, .int 0)], [.int 0], (q_cX q_AX q_IX q_J0, 40, 26520))) 3 (fun _ _ => rfl) ?_
                    exact q_Ru_ret rfl rfl
                  show q_Ru _ _ _ (30, [(2, .int 38), (0, .ref 66), (1, .int 3878)], [.int 0], (q_cX q_AX q_IX q_J0, 40, 26520)) _
                  exact q_Ru_ret rfl rfl
                show q_Ru _ _ _ (15, [(0, .ref 64), (1, .int 3878)], [.int 0], (q_cX q_AX q_IX q_J0, 40, 26520)) _
                exact q_Ru_ret rfl rfl
              show q_Ru _ _ _ (7, [(0, .ref 64), (1, .int 3878), (2, .ref 103)], [.int 0, .int 0, .ref 103], (q_cX q_AX q_IX q_J0, 40, 26520)) _
              refine q_Ru_seg (g2 := (16, [(0, .ref 64), (1, .int 3878), (2, .ref 103)], [.int 0], (q_cX q_AX q_IX (q_uA q_J0 39 (vp_updL (fun _ => 0) 0 0)), 40, 26520))) 4 (fun _ _ => rfl) ?_
              exact q_Ru_ret rfl rfl
            · refine q_Ca_of (Nat.le_of_ble_eq_true rfl) ?_
              refine q_Ru_seg (g2 := (2, [(0, .ref 64), (1, .int 3878)], [.int 3878, .ref 64], (q_cM q_AM q_IM q_J0, 34, 31630))) 2 (fun _ _ => rfl) ?_
              refine q_Ru_call (v := (some (.int 0))) (h2 := (q_cM q_AM q_IM q_J0, 34, 31630)) rfl rfl ?_ ?_
              · refine q_Ca_of (Nat.le_of_ble_eq_true rfl) ?_
                refine q_Ru_seg (g2 := (5, [(0, .int 3878)], [.int 4095, .int 0, .int 3878], (q_cM q_AM q_IM q_J0, 34, 31630))) 3 (fun _ _ => rfl) ?_
                refine q_Ru_call (v := (some (.int 1))) (h2 := (q_cM q_AM q_IM q_J0, 34, 31630)) rfl rfl ?_ ?_
                · refine q_Ca_of (Nat.le_of_ble_eq_true rfl) ?_
                  refine q_Ru_seg (g2 := (15, [(0, .int 3878), (1, .int 0), (2, .int 4095)], [.int 1], (q_cM q_AM q_IM q_J0, 34, 31630))) 8 (fun _ _ => rfl) ?_
                  exact q_Ru_ret rfl rfl
                show q_Ru _ _ _ (8, [(0, .int 3878)], [.int 1], (q_cM q_AM q_IM q_J0, 34, 31630)) _
                refine q_Ru_seg (g2 := (16, [(0, .int 3878)], [.int 0], (q_cM q_AM q_IM q_J0, 34, 31630))) 2 (fun _ _ => rfl) ?_
                exact q_Ru_ret rfl rfl
              show q_Ru _ _ _ (5, [(0, .ref 64), (1, .int 3878)], [.int 0, .ref 64], (q_cM q_AM q_IM q_J0, 34, 31630)) _
              refine q_Ru_seg (g2 := (13, [(0, .ref 64), (1, .int 3878)], [.int 0, .ref 64], (q_cM q_AM q_IM q_J0, 34, 31630))) 2 (fun _ _ => rfl) ?_
              refine q_Ru_call (v := (some (.int 0))) (h2 := (q_cM q_AM (q_uI q_IM 0 39 0) q_J0, 34, 31630)) rfl rfl ?_ ?_
              · refine q_Ca_of (Nat.le_of_ble_eq_true rfl) ?_
                refine q_Ru_seg (g2 := (14, [(0, .ref 64), (1, .int 0)], [.int 0], (q_cM q_AM (q_uI q_IM 0 39 0) q_J0, 34, 31630))) 6 (fun _ _ => rfl) ?_
                exact q_Ru_ret rfl rfl
              show q_Ru _ _ _ (16, [(0, .ref 64), (1, .int 3878)], [.int 0], (q_cM q_AM (q_uI q_IM 0 39 0) q_J0, 34, 31630)) _
              refine q_Ru_seg (g2 := (25, [(0, .ref 64), (1, .int 3878)], [.int 3878, .ref 64], (q_cM q_AM (q_uI q_IM 0 39 0) q_J0, 34, 31630))) 3 (fun _ _ => rfl) ?_
              refine q_Ru_call (v := (some (.int 0))) (h2 := (q_cM q_AM (q_uI q_IM 0 39 0) q_J0, 34, 31630)) rfl rfl ?_ ?_
              · refine q_Ca_of (Nat.le_of_ble_eq_true rfl) ?_
                refine q_Ru_seg (g2 := (7, [(0, .ref 64), (1, .int 3878)], [.int 3887, .int 3840, .int 3878], (q_cM q_AM (q_uI q_IM 0 39 0) q_J0, 34, 31630))) 3 (fun _ _ => rfl) ?_
                refine q_Ru_call (v := (some (.int 1))) (h2 := (q_cM q_AM (q_uI q_IM 0 39 0) q_J0, 34, 31630)) rfl rfl ?_ ?_
                · refine q_Ca_of (Nat.le_of_ble_eq_true rfl) ?_
                  refine q_Ru_seg (g2 := (15, [(0, .int 3878), (1, .int 3840), (2, .int 3887)], [.int 1], (q_cM q_AM (q_uI q_IM 0 39 0) q_J0, 34, 31630))) 8 (fun _ _ => rfl) ?_
                  exact q_Ru_ret rfl rfl
                show q_Ru _ _ _ (10, [(0, .ref 64), (1, .int 3878)], [.int 1], (q_cM q_AM (q_uI q_IM 0 39 0) q_J0, 34, 31630)) _
                refine q_Ru_seg (g2 := (19, [(0, .ref 64), (1, .int 3878)], [.int 38, .ref 64], (q_cM q_AM (q_uI q_IM 0 39 0) q_J0, 34, 31630))) 5 (fun _ _ => rfl) ?_
                refine q_Ru_call (v := (some (.int 0))) (h2 := (q_cM q_AM (q_uI q_IM 0 39 0) q_J0, 34, 31630)) rfl rfl ?_ ?_
                · refine q_Ca_of (Nat.le_of_ble_eq_true rfl) ?_
                  refine q_Ru_seg (g2 := (30, [(0, .ref 64), (1, .int 38)], [.int 15, .int 12, .int 38], (q_cM q_AM (q_uI q_IM 0 39 0) q_J0, 34, 31630))) 9 (fun _ _ => rfl) ?_
                  refine q_Ru_call (v := (some (.int 0))) (h2 := (q_cM q_AM (q_uI q_IM 0 39 0) q_J0, 34, 31630)) rfl rfl ?_ ?_
                  · refine q_Ca_of (Nat.le_of_ble_eq_true rfl) ?_
                    refine q_Ru_seg (g2 := (15, [(0, .int 38), (1, .int 12), (2, .int 15)], [.int 0], (q_cM q_AM (q_uI q_IM 0 39 0) q_J0, 34, 31630))) 7 (fun _ _ => rfl) ?_
                    exact q_Ru_ret rfl rfl
                  show q_Ru _ _ _ (33, [(0, .ref 64), (1, .int 38)], [.int 0], (q_cM q_AM (q_uI q_IM 0 39 0) q_J0, 34, 31630)) _
                  refine q_Ru_seg (g2 := (190, [(0, .ref 64), (1, .int 38)], [.int 0], (q_cM q_AM (q_uI q_IM 0 39 0) q_J0, 34, 31630))) 20 (fun _ _ => rfl) ?_
                  exact q_Ru_ret rfl rfl
                show q_Ru _ _ _ (22, [(0, .ref 64), (1, .int 3878)], [.int 0], (q_cM q_AM (q_uI q_IM 0 39 0) q_J0, 34, 31630)) _
                exact q_Ru_ret rfl rfl
              show q_Ru _ _ _ (28, [(0, .ref 64), (1, .int 3878)], [.int 0], (q_cM q_AM (q_uI q_IM 0 39 0) q_J0, 34, 31630)) _
              exact q_Ru_ret rfl rfl
          | 39, _, e222 =>
            have e222 : a = 3879 := e222
            subst e222
            refine ⟨0, 0, 0, ⟨(q_cX q_AX q_IX (q_uA q_J0 39 (vp_updL (fun _ => 0) 0 0)), 40, 26520), (q_uA q_J0 39 (vp_updL (fun _ => 0) 0 0)) 39, ?_, rfl, fun _ => rfl, Nat.le_of_ble_eq_true rfl, Nat.le_of_ble_eq_true rfl⟩, ⟨(q_cM q_AM (q_uI q_IM 0 39 0) q_J0, 34, 31630), _, ?_, rfl, rfl, Nat.le_of_ble_eq_true rfl, Nat.le_of_ble_eq_true rfl⟩, fun _ => rfl⟩
            · refine q_Ca_of (Nat.le_of_ble_eq_true rfl) ?_
              refine q_Ru_seg (g2 := (4, [(0, .ref 64), (1, .int 3879), (2, .ref 103)], [.int 3879, .ref 64, .int 0, .ref 103], (q_cX q_AX q_IX q_J0, 40, 26520))) 4 (fun _ _ => rfl) ?_
              refine q_Ru_call (v := (some (.int 0))) (h2 := (q_cX q_AX q_IX q_J0, 40, 26520)) rfl rfl ?_ ?_
              · refine q_Ca_of (Nat.le_of_ble_eq_true rfl) ?_
                refine q_Ru_seg (g2 := (1, [(0, .ref 64), (1, .int 3879)], [.int 3879], (q_cX q_AX q_IX q_J0, 40, 26520))) 1 (fun _ _ => rfl) ?_
                refine q_Ru_call (v := none) (h2 := (q_cX q_AX q_IX q_J0, 40, 26520)) rfl rfl ?_ ?_
                · refine q_Ca_of (Nat.le_of_ble_eq_true rfl) ?_
                  refine q_Ru_seg (g2 := (4, [(0, .int 3879)], [.int 4096, .int 3879], (q_cX q_AX q_IX q_J0, 40, 26520))) 2 (fun _ _ => rfl) ?_
                  refine q_Ru_call (v := none) (h2 := (q_cX q_AX q_IX q_J0, 40, 26520)) rfl rfl ?_ ?_
                  · refine q_Ca_of (Nat.le_of_ble_eq_true rfl) ?_
                    refine q_Ru_seg (g2 := (19, [(0, .int 3879), (1, .int 4096)], [], (q_cX q_AX q_IX q_J0, 40, 26520))) 5 (fun _ _ => rfl) ?_
                    exact q_Ru_ret rfl rfl
                  show q_Ru _ _ _ (7, [(0, .int 3879)], [], (q_cX q_AX q_IX q_J0, 40, 26520)) _
                  exact q_Ru_ret rfl rfl
                show q_Ru _ _ _ (4, [(0, .ref 64), (1, .int 3879)], [], (q_cX q_AX q_IX q_J0, 40, 26520)) _
                refine q_Ru_seg (g2 := (12, [(0, .ref 64), (1, .int 3879)], [.int 3879, .ref 66], (q_cX q_AX q_IX q_J0, 40, 26520))) 4 (fun _ _ => rfl) ?_
                refine q_Ru_call (v := (some (.int 0))) (h2 := (q_cX q_AX q_IX q_J0, 40, 26520)) rfl rfl ?_ ?_
                · refine q_Ca_of (Nat.le_of_ble_eq_true rfl) ?_
                  refine q_Ru_seg (g2 := (27, [(2, .int 39), (0, .ref 66), (1, .int 3879)], [.int 0, .int 39, .ref 66], (q_cX q_AX q_IX q_J0, 40, 26520))) 16 (fun _ _ => rfl) ?_
                  refine q_Ru_call (v := (some (.int 0))) (h2 := (q_cX q_AX q_IX q_J0, 40, 26520)) rfl rfl ?_ ?_
                  · refine q_Ca_of (Nat.le_of_ble_eq_true rfl) ?_
                    refine q_Ru_seg (g2 := (183, [(0, .ref 66), (1, .int 39), (2, .int 0)], [.int 0], (q_cX q_AX q_IX q_J0, 40, 26520))) 3 (fun _ _ => rfl) ?_
                    exact q_Ru_ret rfl rfl
                  show q_Ru _ _ _ (30, [(2, .int 39), (0, .ref 66), (1, .int 3879)], [.int 0], (q_cX q_AX q_IX q_J0, 40, 26520)) _
                  exact q_Ru_ret rfl rfl
                show q_Ru _ _ _ (15, [(0, .ref 64), (1, .int 3879)], [.int 0], (q_cX q_AX q_IX q_J0, 40, 26520)) _
                exact q_Ru_ret rfl rfl
              show q_Ru _ _ _ (7, [(0, .ref 64), (1, .int 3879), (2, .ref 103)], [.int 0, .int 0, .ref 103], (q_cX q_AX q_IX q_J0, 40, 26520)) _
              refine q_Ru_seg (g2 := (16, [(0, .ref 64), (1, .int 3879), (2, .ref 103)], [.int 0], (q_cX q_AX q_IX (q_uA q_J0 39 (vp_updL (fun _ => 0) 0 0)), 40, 26520))) 4 (fun _ _ => rfl) ?_
              exact q_Ru_ret rfl rfl
            · refine q_Ca_of (Nat.le_of_ble_eq_true rfl) ?_
              refine q_Ru_seg (g2 := (2, [(0, .ref 64), (1, .int 3879)], [.int 3879, .ref 64], (q_cM q_AM q_IM q_J0, 34, 31630))) 2 (fun _ _ => rfl) ?_
              refine q_Ru_call (v := (some (.int 0))) (h2 := (q_cM q_AM q_IM q_J0, 34, 31630)) rfl rfl ?_ ?_
              · refine q_Ca_of (Nat.le_of_ble_eq_true rfl) ?_
                refine q_Ru_seg (g2 := (5, [(0, .int 3879)], [.int 4095, .int 0, .int 3879], (q_cM q_AM q_IM q_J0, 34, 31630))) 3 (fun _ _ => rfl) ?_
                refine q_Ru_call (v := (some (.int 1))) (h2 := (q_cM q_AM q_IM q_J0, 34, 31630)) rfl rfl ?_ ?_
                · refine q_Ca_of (Nat.le_of_ble_eq_true rfl) ?_
                  refine q_Ru_seg (g2 := (15, [(0, .int 3879), (1, .int 0), (2, .int 4095)], [.int 1], (q_cM q_AM q_IM q_J0, 34, 31630))) 8 (fun _ _ => rfl) ?_
                  exact q_Ru_ret rfl rfl
                show q_Ru _ _ _ (8, [(0, .int 3879)], [.int 1], (q_cM q_AM q_IM q_J0, 34, 31630)) _
                refine q_Ru_seg (g2 := (16, [(0, .int 3879)], [.int 0], (q_cM q_AM q_IM q_J0, 34, 31630))) 2 (fun _ _ => rfl) ?_
                exact q_Ru_ret rfl rfl
              show q_Ru _ _ _ (5, [(0, .ref 64), (1, .int 3879)], [.int 0, .ref 64], (q_cM q_AM q_IM q_J0, 34, 31630)) _
              refine q_Ru_seg (g2 := (13, [(0, .ref 64), (1, .int 3879)], [.int 0, .ref 64], (q_cM q_AM q_IM q_J0, 34, 31630))) 2 (fun _ _ => rfl) ?_
              refine q_Ru_call (v := (some (.int 0))) (h2 := (q_cM q_AM (q_uI q_IM 0 39 0) q_J0, 34, 31630)) rfl rfl ?_ ?_
              · refine q_Ca_of (Nat.le_of_ble_eq_true rfl) ?_
                refine q_Ru_seg (g2 := (14, [(0, .ref 64), (1, .int 0)], [.int 0], (q_cM q_AM (q_uI q_IM 0 39 0) q_J0, 34, 31630))) 6 (fun _ _ => rfl) ?_
                exact q_Ru_ret rfl rfl
              show q_Ru _ _ _ (16, [(0, .ref 64), (1, .int 3879)], [.int 0], (q_cM q_AM (q_uI q_IM 0 39 0) q_J0, 34, 31630)) _
              refine q_Ru_seg (g2 := (25, [(0, .ref 64), (1, .int 3879)], [.int 3879, .ref 64], (q_cM q_AM (q_uI q_IM 0 39 0) q_J0, 34, 31630))) 3 (fun _ _ => rfl) ?_
              refine q_Ru_call (v := (some (.int 0))) (h2 := (q_cM q_AM (q_uI q_IM 0 39 0) q_J0, 34, 31630)) rfl rfl ?_ ?_
              · refine q_Ca_of (Nat.le_of_ble_eq_true rfl) ?_
                refine q_Ru_seg (g2 := (7, [(0, .ref 64), (1, .int 3879)], [.int 3887, .int 3840, .int 3879], (q_cM q_AM (q_uI q_IM 0 39 0) q_J0, 34, 31630))) 3 (fun _ _ => rfl) ?_
                refine q_Ru_call (v := (some (.int 1))) (h2 := (q_cM q_AM (q_uI q_IM 0 39 0) q_J0, 34, 31630)) rfl rfl ?_ ?_
                · refine q_Ca_of (Nat.le_of_ble_eq_true rfl) ?_
                  refine q_Ru_seg (g2 := (15, [(0, .int 3879), (1, .int 3840), (2, .int 3887)], [.int 1], (q_cM q_AM (q_uI q_IM 0 39 0) q_J0, 34, 31630))) 8 (fun _ _ => rfl) ?_
                  exact q_Ru_ret rfl rfl
                show q_Ru _ _ _ (10, [(0, .ref 64), (1, .int 3879)], [.int 1], (q_cM q_AM (q_uI q_IM 0 39 0) q_J0, 34, 31630)) _
                refine q_Ru_seg (g2 := (19, [(0, .ref 64), (1, .int 3879)], [.int 39, .ref 64], (q_cM q_AM (q_uI q_IM 0 39 0) q_J0, 34, 31630))) 5 (fun _ _ => rfl) ?_
                refine q_Ru_call (v := (some (.int 0))) (h2 := (q_cM q_AM (q_uI q_IM 0 39 0) q_J0, 34, 31630)) rfl rfl ?_ ?_
                · refine q_Ca_of (Nat.le_of_ble_eq_true rfl) ?_
                  refine q_Ru_seg (g2 := (30, [(0, .ref 64), (1, .int 39)], [.int 15, .int 12, .int 39], (q_cM q_AM (q_uI q_IM 0 39 0) q_J0, 34, 31630))) 9 (fun _ _ => rfl) ?_
                  refine q_Ru_call (v := (some (.int 0))) (h2 := (q_cM q_AM (q_uI q_IM 0 39 0) q_J0, 34, 31630)) rfl rfl ?_ ?_
                  · refine q_Ca_of (Nat.le_of_ble_eq_true rfl) ?_
                    refine q_Ru_seg (g2 := (15, [(0, .int 39), (1, .int 12), (2, .int 15)], [.int 0], (q_cM q_AM (q_uI q_IM 0 39 0) q_J0, 34, 31630))) 7 (fun _ _ => rfl) ?_
                    exact q_Ru_ret rfl rfl
                  show q_Ru _ _ _ (33, [(0, .ref 64), (1, .int 39)], [.int 0], (q_cM q_AM (q_uI q_IM 0 39 0) q_J0, 34, 31630)) _
                  refine q_Ru_seg (g2 := (190, [(0, .ref 64), (1, .int 39)], [.int 0], (q_cM q_AM (q_uI q_IM 0 39 0) q_J0, 34, 31630))) 20 (fun _ _ => rfl) ?_
                  exact q_Ru_ret rfl rfl
                show q_Ru _ _ _ (22, [(0, .ref 64), (1, .int 3879)], [.int 0], (q_cM q_AM (q_uI q_IM 0 39 0) q_J0, 34, 31630)) _
                exact q_Ru_ret rfl rfl
              show q_Ru _ _ _ (28, [(0, .ref 64), (1, .int 3879)], [.int 0], (q_cM q_AM (q_uI q_IM 0 39 0) q_J0, 34, 31630)) _
              exact q_Ru_ret rfl rfl
          | 40, _, e222 =>
            have e222 : a = 3880 := e222
            subst e222
            refine ⟨0, 0, 0, ⟨(q_cX q_AX q_IX (q_uA q_J0 39 (vp_updL (fun _ => 0) 0 0)), 40, 26520), (q_uA q_J0 39 (vp_updL (fun _ => 0) 0 0)) 39, ?_, rfl, fun _ => rfl, Nat.le_of_ble_eq_true rfl, Nat.le_of_ble_eq_true rfl⟩, ⟨(q_cM q_AM (q_uI q_IM 0 39 0) q_J0, 34, 31630), _, ?_, rfl, rfl, Nat.le_of_ble_eq_true rfl, Nat.le_of_ble_eq_true rfl⟩, fun _ => rfl⟩
            · refine q_Ca_of (Nat.le_of_ble_eq_true rfl) ?_
              refine q_Ru_seg (g2 := (4, [(0, .ref 64), (1, .int 3880), (2, .ref 103)], [.int 3880, .ref 64, .int 0, .ref 103], (q_cX q_AX q_IX q_J0, 40, 26520))) 4 (fun _ _ => rfl) ?_
              refine q_Ru_call (v := (some (.int 0))) (h2 := (q_cX q_AX q_IX q_J0, 40, 26520)) rfl rfl ?_ ?_
              · refine q_Ca_of (Nat.le_of_ble_eq_true rfl) ?_
                refine q_Ru_seg (g2 := (1, [(0, .ref 64), (1, .int 3880)], [.int 3880], (q_cX q_AX q_IX q_J0, 40, 26520))) 1 (fun _ _ => rfl) ?_
                refine q_Ru_call (v := none) (h2 := (q_cX q_AX q_IX q_J0, 40, 26520)) rfl rfl ?_ ?_
                · refine q_Ca_of (Nat.le_of_ble_eq_true rfl) ?_
                  refine q_Ru_seg (g2 := (4, [(0, .int 3880)], [.int 4096, .int 3880], (q_cX q_AX q_IX q_J0, 40, 26520))) 2 (fun _ _ => rfl) ?_
                  refine q_Ru_call (v := none) (h2 := (q_cX q_AX q_IX q_J0, 40, 26520)) rfl rfl ?_ ?_
                  · refine q_Ca_of (Nat.le_of_ble_eq_true rfl) ?_
                    refine q_Ru_seg (g2 := (19, [(0, .int 3880), (1, .int 4096)], [], (q_cX q_AX q_IX q_J0, 40, 26520))) 5 (fun _ _ => rfl) ?_
                    exact q_Ru_ret rfl rfl
                  show q_Ru _ _ _ (7, [(0, .int 3880)], [], (q_cX q_AX q_IX q_J0, 40, 26520)) _
                  exact q_Ru_ret rfl rfl
                show q_Ru _ _ _ (4, [(0, .ref 64), (1, .int 3880)], [], (q_cX q_AX q_IX q_J0, 40, 26520)) _
                refine q_Ru_seg (g2 := (12, [(0, .ref 64), (1, .int 3880)], [.int 3880, .ref 66], (q_cX q_AX q_IX q_J0, 40, 26520))) 4 (fun _ _ => rfl) ?_
                refine q_Ru_call (v := (some (.int 0))) (h2 := (q_cX q_AX q_IX q_J0, 40, 26520)) rfl rfl ?_ ?_
                · refine q_Ca_of (Nat.le_of_ble_eq_true rfl) ?_
                  refine q_Ru_seg (g2 := (27, [(2, .int 40), (0, .ref 66), (1, .int 3880)], [.int 0, .int 40, .ref 66], (q_cX q_AX q_IX q_J0, 40, 26520))) 16 (fun _ _ => rfl) ?_
                  refine q_Ru_call (v := (some (.int 0))) (h2 := (q_cX q_AX q_IX q_J0, 40, 26520)) rfl rfl ?_ ?_
                  · refine q_Ca_of (Nat.le_of_ble_eq_true rfl) ?_
                    refine q_Ru_seg (g2 := (183, [(0, .ref 66), (1, .int 40), (2, .int 0)], [.int 0], (q_cX q_AX q_IX q_J0, 40, 26520))) 3 (fun _ _ => rfl) ?_
                    exact q_Ru_ret rfl rfl
                  show q_Ru _ _ _ (30, [(2, .int 40), (0, .ref 66), (1, .int 3880)], [.int 0], (q_cX q_AX q_IX q_J0, 40, 26520)) _
                  exact q_Ru_ret rfl rfl
                show q_Ru _ _ _ (15, [(0, .ref 64), (1, .int 3880)], [.int 0], (q_cX q_AX q_IX q_J0, 40, 26520)) _
                exact q_Ru_ret rfl rfl
              show q_Ru _ _ _ (7, [(0, .ref 64), (1, .int 3880), (2, .ref 103)], [.int 0, .int 0, .ref 103], (q_cX q_AX q_IX q_J0, 40, 26520)) _
              refine q_Ru_seg (g2 := (16, [(0, .ref 64), (1, .int 3880), (2, .ref 103)], [.int 0], (q_cX q_AX q_IX (q_uA q_J0 39 (vp_updL (fun _ => 0) 0 0)), 40, 26520))) 4 (fun _ _ => rfl) ?_
              exact q_Ru_ret rfl rfl
            · refine q_Ca_of (Nat.le_of_ble_eq_true rfl) ?_
              refine q_Ru_seg (g2 := (2, [(0, .ref 64), (1, .int 3880)], [.int 3880, .ref 64], (q_cM q_AM q_IM q_J0, 34, 31630))) 2 (fun _ _ => rfl) ?_
              refine q_Ru_call (v := (some (.int 0))) (h2 := (q_cM q_AM q_IM q_J0, 34, 31630)) rfl rfl ?_ ?_
              · refine q_Ca_of (Nat.le_of_ble_eq_true rfl) ?_
                refine q_Ru_seg (g2 := (5, [(0, .int 3880)], [.int 4095, .int 0, .int 3880], (q_cM q_AM q_IM q_J0, 34, 31630))) 3 (fun _ _ => rfl) ?_
                refine q_Ru_call (v := (some (.int 1))) (h2 := (q_cM q_AM q_IM q_J0, 34, 31630)) rfl rfl ?_ ?_
                · refine q_Ca_of (Nat.le_of_ble_eq_true rfl) ?_
                  refine q_Ru_seg (g2 := (15, [(0, .int 3880), (1, .int 0), (2, .int 4095)], [.int 1], (q_cM q_AM q_IM q_J0, 34, 31630))) 8 (fun _ _ => rfl) ?_
                  exact q_Ru_ret rfl rfl
                show q_Ru _ _ _ (8, [(0, .int 3880)], [.int 1], (q_cM q_AM q_IM q_J0, 34, 31630)) _
                refine q_Ru_seg (g2 := (16, [(0, .int 3880)], [.int 0], (q_cM q_AM q_IM q_J0, 34, 31630))) 2 (fun _ _ => rfl) ?_
                exact q_Ru_ret rfl rfl
              show q_Ru _ _ _ (5, [(0, .ref 64), (1, .int 3880)], [.int 0, .ref 64], (q_cM q_AM q_IM q_J0, 34, 31630)) _
              refine q_Ru_seg (g2 := (13, [(0, .ref 64), (1, .int 3880)], [.int 0, .ref 64], (q_cM q_AM q_IM q_J0, 34, 31630))) 2 (fun _ _ => rfl) ?_
              refine q_Ru_call (v := (some (.int 0))) (h2 := (q_cM q_AM (q_uI q_IM 0 39 0) q_J0, 34, 31630)) rfl rfl ?_ ?_
              · refine q_Ca_of (Nat.le_of_ble_eq_true rfl) ?_
                refine q_Ru_seg (g2 := (14, [(0, .ref 64), (1, .int 0)], [.int 0], (q_cM q_AM (q_uI q_IM 0 39 0) q_J0, 34, 31630))) 6 (fun _ _ => rfl) ?_
                exact q_Ru_ret rfl rfl
              show q_Ru _ _ _ (16, [(0, .ref 64), (1, .int 3880)], [.int 0], (q_cM q_AM (q_uI q_IM 0 39 0) q_J0, 34, 31630)) _
              refine q_Ru_seg (g2 := (25, [(0, .ref 64), (1, .int 3880)], [.int 3880, .ref 64], (q_cM q_AM (q_uI q_IM 0 39 0) q_J0, 34, 31630))) 3 (fun _ _ => rfl) ?_
              refine q_Ru_call (v := (some (.int 0))) (h2 := (q_cM q_AM (q_uI q_IM 0 39 0) q_J0, 34, 31630)) rfl rfl ?_ ?_
              · refine q_Ca_of (Nat.le_of_ble_eq_true rfl) ?_
                refine q_Ru_seg (g2 := (7, [(0, .ref 64), (1, .int 3880)], [.int 3887, .int 3840, .int 3880], (q_cM q_AM (q_uI q_IM 0 39 0) q_J0, 34, 31630))) 3 (fun _ _ => rfl) ?_
                refine q_Ru_call (v := (some (.int 1))) (h2 := (q_cM q_AM (q_uI q_IM 0 39 0) q_J0, 34, 31630)) rfl rfl ?_ ?_
                · refine q_Ca_of (Nat.le_of_ble_eq_true rfl) ?_
                  refine q_Ru_seg (g2 := (15, [(0, .int 3880), (1, .int 3840), (2, .int 3887)], [.int 1], (q_cM q_AM (q_uI q_IM 0 39 0) q_J0, 34, 31630))) 8 (fun _ _ => rfl) ?_
                  exact q_Ru_ret rfl rfl
                show q_Ru _ _ _ (10, [(0, .ref 64), (1, .int 3880)], [.int 1], (q_cM q_AM (q_uI q_IM 0 39 0) q_J0, 34, 31630)) _
                refine q_Ru_seg (g2 := (19, [(0, .ref 64), (1, .int 3880)], [.int 40, .ref 64], (q_cM q_AM (q_uI q_IM 0 39 0) q_J0, 34, 31630))) 5 (fun _ _ => rfl) ?_
                refine q_Ru_call (v := (some (.int 0))) (h2 := (q_cM q_AM (q_uI q_IM 0 39 0) q_J0, 34, 31630)) rfl rfl ?_ ?_
                · refine q_Ca_of (Nat.le_of_ble_eq_true rfl) ?_
                  refine q_Ru_seg (g2 := (30, [(0, .ref 64), (1, .int 40)], [.int 15, .int 12, .int 40], (q_cM q_AM (q_uI q_IM 0 39 0) q_J0, 34, 31630))) 9 (fun _ _ => rfl) ?_
                  refine q_Ru_call (v := (some (.int 0))) (h2 := (q_cM q_AM (q_uI q_IM 0 39 0) q_J0, 34, 31630)) rfl rfl ?_ ?_
                  · refine q_Ca_of (Nat.le_of_ble_eq_true rfl) ?_
                    refine q_Ru_seg (g2 := (15, [(0, .int 40), (1, .int 12), (2, .int 15)], [.int 0], (q_cM q_AM (q_uI q_IM 0 39 0) q_J0, 34, 31630))) 7 (fun _ _ => rfl) ?_
                    exact q_Ru_ret rfl rfl
                  show q_Ru _ _ _ (33, [(0, .ref 64), (1, .int 40)], [.int 0], (q_cM q_AM (q_uI q_IM 0 39 0) q_J0, 34, 31630)) _
                  refine q_Ru_seg (g2 := (190, [(0, .ref 64), (1, .int 40)], [.int 0], (q_cM q_AM (q_uI q_IM 0 39 0) q_J0, 34, 31630))) 20 (fun _ _ => rfl) ?_
                  exact q_Ru_ret rfl rfl
                show q_Ru _ _ _ (22, [(0, .ref 64), (1, .int 3880)], [.int 0], (q_cM q_AM (q_uI q_IM 0 39 0) q_J0, 34, 31630)) _
                exact q_Ru_ret rfl rfl
              show q_Ru _ _ _ (28, [(0, .ref 64), (1, .int 3880)], [.int 0], (q_cM q_AM (q_uI q_IM 0 39 0) q_J0, 34, 31630)) _
              exact q_Ru_ret rfl rfl
          | 41, _, e222 =>
            have e222 : a = 3881 := e222
            subst e222
            refine ⟨0, 0, 0, ⟨(q_cX q_AX q_IX (q_uA q_J0 39 (vp_updL (fun _ => 0) 0 0)), 40, 26520), (q_uA q_J0 39 (vp_updL (fun _ => 0) 0 0)) 39, ?_, rfl, fun _ => rfl, Nat.le_of_ble_eq_true rfl, Nat.le_of_ble_eq_true rfl⟩, ⟨(q_cM q_AM (q_uI q_IM 0 39 0) q_J0, 34, 31630), _, ?_, rfl, rfl, Nat.le_of_ble_eq_true rfl, Nat.le_of_ble_eq_true rfl⟩, fun _ => rfl⟩
            · refine q_Ca_of (Nat.le_of_ble_eq_true rfl) ?_
              refine q_Ru_seg (g2 := (4, [(0, .ref 64), (1, .int 3881), (2, .ref 103)], [.int 3881, .ref 64, .int 0, .ref 103], (q_cX q_AX q_IX q_J0, 40, 26520))) 4 (fun _ _ => rfl) ?_
              refine q_Ru_call (v := (some (.int 0))) (h2 := (q_cX q_AX q_IX q_J0, 40, 26520)) rfl rfl ?_ ?_
              · refine q_Ca_of (Nat.le_of_ble_eq_true rfl) ?_
                refine q_Ru_seg (g2 := (1, [(0, .ref 64), (1, .int 3881)], [.int 3881], (q_cX q_AX q_IX q_J0, 40, 26520))) 1 (fun _ _ => rfl) ?_
                refine q_Ru_call (v := none) (h2 := (q_cX q_AX q_IX q_J0, 40, 26520)) rfl rfl ?_ ?_
                · refine q_Ca_of (Nat.le_of_ble_eq_true rfl) ?_
                  refine q_Ru_seg (g2 := (4, [(0, .int 3881)], [.int 4096, .int 3881], (q_cX q_AX q_IX q_J0, 40, 26520))) 2 (fun _ _ => rfl) ?_
                  refine q_Ru_call (v := none) (h2 := (q_cX q_AX q_IX q_J0, 40, 26520)) rfl rfl ?_ ?_
                  · refine q_Ca_of (Nat.le_of_ble_eq_true rfl) ?_
                    refine q_Ru_seg (g2 := (19, [(0, .int 3881), (1, .int 4096)], [], (q_cX q_AX q_IX q_J0, 40, 26520))) 5 (fun _ _ => rfl) ?_
                    exact q_Ru_ret rfl rfl
                  show q_Ru _ _ _ (7, [(0, .int 3881)], [], (q_cX q_AX q_IX q_J0, 40, 26520)) _
                  exact q_Ru_ret rfl rfl
                show q_Ru _ _ _ (4, [(0, .ref 64), (1, .int 3881)], [], (q_cX q_AX q_IX q_J0, 40, 26520)) _
                refine q_Ru_seg (g2 := (12, [(0, .ref 64), (1, .int 3881)], [.int 3881, .ref 66], (q_cX q_AX q_IX q_J0, 40, 26520))) 4 (fun _ _ => rfl) ?_
                refine q_Ru_call (v := (some (.int 0))) (h2 := (q_cX q_AX q_IX q_J0, 40, 26520)) rfl rfl ?_ ?_
                · refine q_Ca_of (Nat.le_of_ble_eq_true rfl) ?_
                  refine q_Ru_seg (g2 := (27, [(2, .int 41), (0, .ref 66), (1, .int 3881)], [.int 0, .int 41, .ref 66], (q_cX q_AX q_IX q_J0, 40, 26520))) 16 (fun _ _ => rfl) ?_
                  refine q_Ru_call (v := (some (.int 0))) (h2 := (q_cX q_AX q_IX q_J0, 40, 26520)) rfl rfl ?_ ?_
                  · refine q_Ca_of (Nat.le_of_ble_eq_true rfl) ?_
                    refine q_Ru_seg (g2 := (183, [(0, .ref 66), (1, .int 41), (2, .int 0)], [.int 0], (q_cX q_AX q_IX q_J0, 40, 26520))) 3 (fun _ _ => rfl) ?_
                    exact q_Ru_ret rfl rfl
                  show q_Ru _ _ _ (30, [(2, .int 41), (0, .ref 66), (1, .int 3881)], [.int 0], (q_cX q_AX q_IX q_J0, 40, 26520)) _
                  exact q_Ru_ret rfl rfl
                show q_Ru _ _ _ (15, [(0, .ref 64), (1, .int 3881)], [.int 0], (q_cX q_AX q_IX q_J0, 40, 26520)) _
                exact q_Ru_ret rfl rfl
              show q_Ru _ _ _ (7, [(0, .ref 64), (1, .int 3881), (2, .ref 103)], [.int 0, .int 0, .ref 103], (q_cX q_AX q_IX q_J0, 40, 26520)) _
              refine q_Ru_seg (g2 := (16, [(0, .ref 64), (1, .int 3881), (2, .ref 103)], [.int 0], (q_cX q_AX q_IX (q_uA q_J0 39 (vp_updL (fun _ => 0) 0 0)), 40, 26520))) 4 (fun _ _ => rfl) ?_
              exact q_Ru_ret rfl rfl
            · refine q_Ca_of (Nat.le_of_ble_eq_true rfl) ?_
              refine q_Ru_seg (g2 := (2, [(0, .ref 64), (1, .int 3881)], [.int 3881, .ref 64], (q_cM q_AM q_IM q_J0, 34, 31630))) 2 (fun _ _ => rfl) ?_
              refine q_Ru_call (v := (some (.int 0))) (h2 := (q_cM q_AM q_IM q_J0, 34, 31630)) rfl rfl ?_ ?_
              · refine q_Ca_of (Nat.le_of_ble_eq_true rfl) ?_
                refine q_Ru_seg (g2 := (5, [(0, .int 3881)], [.int 4095, .int 0, .int 3881], (q_cM q_AM q_IM q_J0, 34, 31630))) 3 (fun _ _ => rfl) ?_
                refine q_Ru_call (v := (some (.int 1))) (h2 := (q_cM q_AM q_IM q_J0, 34, 31630)) rfl rfl ?_ ?_
                · refine q_Ca_of (Nat.le_of_ble_eq_true rfl) ?_
                  refine q_Ru_seg (g2 := (15, [(0, .int 3881), (1, .int 0), (2, .int 4095)], [.int 1], (q_cM q_AM q_IM q_J0, 34, 31630))) 8 (fun _ _ => rfl) ?_
                  exact q_Ru_ret rfl rfl
                show q_Ru _ _ _ (8, [(0, .int 3881)], [.int 1], (q_cM q_AM q_IM q_J0, 34, 31630)) _
                refine q_Ru_seg (g2 := (16, [(0, .int 3881)], [.int 0], (q_cM q_AM q_IM q_J0, 34, 31630))) 2 (fun _ _ => rfl) ?_
                exact q_Ru_ret rfl rfl
              show q_Ru _ _ _ (5, [(0, .ref 64), (1, .int 3881)], [.int 0, .ref 64], (q_cM q_AM q_IM q_J0, 34, 31630)) _
              refine q_Ru_seg (g2 := (13, [(0, .ref 64), (1, .int 3881)], [.int 0, .ref 64], (q_cM q_AM q_IM q_J0, 34, 31630))) 2 (fun _ _ => rfl) ?_
              refine q_Ru_call (v := (some (.int 0))) (h2 := (q_cM q_AM (q_uI q_IM 0 39 0) q_J0, 34, 31630)) rfl rfl ?_ ?_
              · refine q_Ca_of (Nat.le_of_ble_eq_true rfl) ?_
                refine q_Ru_seg (g2 := (14, [(0, .ref 64), (1, .int 0)], [.int 0], (q_cM q_AM (q_uI q_IM 0 39 0) q_J0, 34, 31630))) 6 (fun _ _ => rfl) ?_
                exact q_Ru_ret rfl rfl
              show q_Ru _ _ _ (16, [(0, .ref 64), (1, .int 3881)], [.int 0], (q_cM q_AM (q_uI q_IM 0 39 0) q_J0, 34, 31630)) _
              refine q_Ru_seg (g2 := (25, [(0, .ref 64), (1, .int 3881)], [.int 3881, .ref 64], (q_cM q_AM (q_uI q_IM 0 39 0) q_J0, 34, 31630))) 3 (fun _ _ => rfl) ?_
              refine q_Ru_call (v := (some (.int 0))) (h2 := (q_cM q_AM (q_uI q_IM 0 39 0) q_J0, 34, 31630)) rfl rfl ?_ ?_
              · refine q_Ca_of (Nat.le_of_ble_eq_true rfl) ?_
                refine q_Ru_seg (g2 := (7, [(0, .ref 64), (1, .int 3881)], [.int 3887, .int 3840, .int 3881], (q_cM q_AM (q_uI q_IM 0 39 0) q_J0, 34, 31630))) 3 (fun _ _ => rfl) ?_
                refine q_Ru_call (v := (some (.int 1))) (h2 := (q_cM q_AM (q_uI q_IM 0 39 0) q_J0, 34, 31630)) rfl rfl ?_ ?_
                · refine q_Ca_of (Nat.le_of_ble_eq_true rfl) ?_
                  refine q_Ru_seg (g2 := (15, [(0, .int 3881), (1, .int 3840), (2, .int 3887)], [.int 1], (q_cM q_AM (q_uI q_IM 0 39 0) q_J0, 34, 31630))) 8 (fun _ _ => rfl) ?_
                  exact q_Ru_ret rfl rfl
                show q_Ru _ _ _ (10, [(0, .ref 64), (1, .int 3881)], [.int 1], (q_cM q_AM (q_uI q_IM 0 39 0) q_J0, 34, 31630)) _
                refine q_Ru_seg (g2 := (19, [(0, .ref 64), (1, .int 3881)], [.int 41, .ref 64], (q_cM q_AM (q_uI q_IM 0 39 0) q_J0, 34, 31630))) 5 (fun _ _ => rfl) ?_
                refine q_Ru_call (v := (some (.int 0))) (h2 := (q_cM q_AM (q_uI q_IM 0 39 0) q_J0, 34, 31630)) rfl rfl ?_ ?_
                · refine q_Ca_of (Nat.le_of_ble_eq_true rfl) ?_
                  refine q_Ru_seg (g2 := (30, [(0, .ref 64), (1, .int 41)], [.int 15, .int 12, .int 41], (q_cM q_AM (q_uI q_IM 0 39 0) q_J0, 34, 31630))) 9 (fun _ _ => rfl) ?_
                  refine q_Ru_call (v := (some (.int 0))) (h2 := (q_cM q_AM (q_uI q_IM 0 39 0) q_J0, 34, 31630)) rfl rfl ?_ ?_
                  · refine q_Ca_of (Nat.le_of_ble_eq_true rfl) ?_
                    refine q_Ru_seg (g2 := (15, [(0, .int 41), (1, .int 12), (2, .int 15)], [.int 0], (q_cM q_AM (q_uI q_IM 0 39 0) q_J0, 34, 31630))) 7 (fun _ _ => rfl) ?_
                    exact q_Ru_ret rfl rfl
                  show q_Ru _ _ _ (33, [(0, .ref 64), (1, .int 41)], [.int 0], (q_cM q_AM (q_uI q_IM 0 39 0) q_J0, 34, 31630)) _
                  refine q_Ru_seg (g2 := (190, [(0, .ref 64), (1, .int 41)], [.int 0], (q_cM q_AM (q_uI q_IM 0 39 0) q_J0, 34, 31630))) 20 (fun _ _ => rfl) ?_
                  exact q_Ru_ret rfl rfl
                show q_Ru _ _ _ (22, [(0, .ref 64), (1, .int 3881)], [.int 0], (q_cM q_AM (q_uI q_IM 0 39 0) q_J0, 34, 31630)) _
                exact q_Ru_ret rfl rfl
              show q_Ru _ _ _ (28, [(0, .ref 64), (1, .int 3881)], [.int 0], (q_cM q_AM (q_uI q_IM 0 39 0) q_J0, 34, 31630)) _
              exact q_Ru_ret rfl rfl
          | 42, _, e222 =>
            have e222 : a = 3882 := e222
            subst e222
            refine ⟨0, 0, 0, ⟨(q_cX q_AX q_IX (q_uA q_J0 39 (vp_updL (fun _ => 0) 0 0)), 40, 26520), (q_uA q_J0 39 (vp_updL (fun _ => 0) 0 0)) 39, ?_, rfl, fun _ => rfl, Nat.le_of_ble_eq_true rfl, Nat.le_of_ble_eq_true rfl⟩, ⟨(q_cM q_AM (q_uI q_IM 0 39 0) q_J0, 34, 31630), _, ?_, rfl, rfl, Nat.le_of_ble_eq_true rfl, Nat.le_of_ble_eq_true rfl⟩, fun _ => rfl⟩
            · refine q_Ca_of (Nat.le_of_ble_eq_true rfl) ?_
              refine q_Ru_seg (g2 := (4, [(0, .ref 64), (1, .int 3882), (2, .ref 103)], [.int 3882, .ref 64, .int 0, .ref 103], (q_cX q_AX q_IX q_J0, 40, 26520))) 4 (fun _ _ => rfl) ?_
              refine q_Ru_call (v := (some (.int 0))) (h2 := (q_cX q_AX q_IX q_J0, 40, 26520)) rfl rfl ?_ ?_
              · refine q_Ca_of (Nat.le_of_ble_eq_true rfl) ?_
                refine q_Ru_seg (g2 := (1, [(0, .ref 64), (1, .int 3882)], [.int 3882], (q_cX q_AX q_IX q_J0, 40, 26520))) 1 (fun _ _ => rfl) ?_
                refine q_Ru_call (v := none) (h2 := (q_cX q_AX q_IX q_J0, 40, 26520)) rfl rfl ?_ ?_
                · refine q_Ca_of (Nat.le_of_ble_eq_true rfl) ?_
                  refine q_Ru_seg (g2 := (4, [(0, .int 3882)], [.int 4096, .int 3882], (q_cX q_AX q_IX q_J0, 40, 26520))) 2 (fun _ _ => rfl) ?_
                  refine q_Ru_call (v := none) (h2 := (q_cX q_AX q_IX q_J0, 40, 26520)) rfl rfl ?_ ?_
                  · refine q_Ca_of (Nat.le_of_ble_eq_true rfl) ?_
                    refine q_Ru_seg (g2 := (19, [(0, .int 3882), (1, .int 4096)], [], (q_cX q_AX q_IX q_J0, 40, 26520))) 5 (fun _ _ => rfl) ?_
                    exact q_Ru_ret rfl rfl
                  show q_Ru _ _ _ (7, [(0, .int 3882)], [], (q_cX q_AX q_IX q_J0, 40, 26520)) _
                  exact q_Ru_ret rfl rfl
                show q_Ru _ _ _ (4, [(0, .ref 64), (1, .int 3882)], [], (q_cX q_AX q_IX q_J0, 40, 26520)) _
                refine q_Ru_seg (g2 := (12, [(0, .ref 64), (1, .int 3882)], [.int 3882, .ref 66], (q_cX q_AX q_IX q_J0, 40, 26520))) 4 (fun _ _ => rfl) ?_
                refine q_Ru_call (v := (some (.int 0))) (h2 := (q_cX q_AX q_IX q_J0, 40, 26520)) rfl rfl ?_ ?_
                · refine q_Ca_of (Nat.le_of_ble_eq_true rfl) ?_
                  refine q_Ru_seg (g2 := (27, [(2, .int 42), (0, .ref 66), (1, .int 3882)], [.int 0, .int 42, .ref 66], (q_cX q_AX q_IX q_J0, 40, 26520))) 16 (fun _ _ => rfl) ?_
                  refine q_Ru_call (v := (some (.int 0))) (h2 := (q_cX q_AX q_IX q_J0, 40, 26520)) rfl rfl ?_ ?_
                  · refine q_Ca_of (Nat.le_of_ble_eq_true rfl) ?_
                    refine q_Ru_seg (g2 := (183, [(0, .ref 66), (1, .int 42), (2, .int 0)], [.int 0], (q_cX q_AX q_IX q_J0, 40, 26520))) 3 (fun _ _ => rfl) ?_
                    exact q_Ru_ret rfl rfl
                  show q_Ru _ _ _ (30, [(2, .int 42), (0, .ref 66), (1, .int 3882)], [.int 0], (q_cX q_AX q_IX q_J0, 40, 26520)) _
                  exact q_Ru_ret rfl rfl
                show q_Ru _ _ _ (15, [(0, .ref 64), (1, .int 3882)], [.int 0], (q_cX q_AX q_IX q_J0, 40, 26520)) _
                exact q_Ru_ret rfl rfl
              show q_Ru _ _ _ (7, [(0, .ref 64), (1, .int 3882), (2, .ref 103)], [.int 0, .int 0, .ref 103], (q_cX q_AX q_IX q_J0, 40, 26520)) _
              refine q_Ru_seg (g2 := (16, [(0, .ref 64), (1, .int 3882), (2, .ref 103)], [.int 0], (q_cX q_AX q_IX (q_uA q_J0 39 (vp_updL (fun _ => 0) 0 0)), 40, 26520))) 4 (fun _ _ => rfl) ?_
              exact q_Ru_ret rfl rfl
            · refine q_Ca_of (Nat.le_of_ble_eq_true rfl) ?_
              refine q_Ru_seg (g2 := (2, [(0, .ref 64), (1, .int 3882)], [.int 3882, .ref 64], (q_cM q_AM q_IM q_J0, 34, 31630))) 2 (fun _ _ => rfl) ?_
              refine q_Ru_call (v := (some (.int 0))) (h2 := (q_cM q_AM q_IM q_J0, 34, 31630)) rfl rfl ?_ ?_
              · refine q_Ca_of (Nat.le_of_ble_eq_true rfl) ?_
                refine q_Ru_seg (g2 := (5, [(0, .int 3882)], [.int 4095, .int 0, .int 3882], (q_cM q_AM q_IM q_J0, 34, 31630))) 3 (fun _ _ => rfl) ?_
                refine q_Ru_call (v := (some (.int 1))) (h2 := (q_cM q_AM q_IM q_J0, 34, 31630)) rfl rfl ?_ ?_
                · refine q_Ca_of (Nat.le_of_ble_eq_true rfl) ?_
                  refine q_Ru_seg (g2 := (15, [(0, .int 3882), (1, .int 0), (2, .int 4095)], [.int 1], (q_cM q_AM q_IM q_J0, 34, 31630))) 8 (fun _ _ => rfl) ?_
                  exact q_Ru_ret rfl rfl
                show q_Ru _ _ _ (8, [(0, .int 3882)], [.int 1], (q_cM q_AM q_IM q_J0, 34, 31630)) _
                refine q_Ru_seg (g2 := (16, [(0, .int 3882)], [.int 0], (q_cM q_AM q_IM q_J0, 34, 31630))) 2 (fun _ _ => rfl) ?_
                exact q_Ru_ret rfl rfl
              show q_Ru _ _ _ (5, [(0, .ref 64), (1, .int 3882)], [.int 0, .ref 64], (q_cM q_AM q_IM q_J0, 34, 31630)) _
              refine q_Ru_seg (g2 := (13, [(0, .ref 64), (1, .int 3882)], [.int 0, .ref 64], (q_cM q_AM q_IM q_J0, 34, 31630))) 2 (fun _ _ => rfl) ?_
              refine q_Ru_call (v := (some (.int 0))) (h2 := (q_cM q_AM (q_uI q_IM 0 39 0) q_J0, 34, 31630)) rfl rfl ?_ ?_
              · refine q_Ca_of (Nat.le_of_ble_eq_true rfl) ?_
                refine q_Ru_seg (g2 := (14, [(0, .ref 64), (1, .int 0)], [.int 0], (q_cM q_AM (q_uI q_IM 0 39 0) q_J0, 34, 31630))) 6 (fun _ _ => rfl) ?_
                exact q_Ru_ret rfl rfl
              show q_Ru _ _ _ (16, [(0, .ref 64), (1, .int 3882)], [.int 0], (q_cM q_AM (q_uI q_IM 0 39 0) q_J0, 34, 31630)) _
              refine q_Ru_seg (g2 := (25, [(0, .ref 64), (1, .int 3882)], [.int 3882, .ref 64], (q_cM q_AM (q_uI q_IM 0 39 0) q_J0, 34, 31630))) 3 (fun _ _ => rfl) ?_
              refine q_Ru_call (v := (some (.int 0))) (h2 := (q_cM q_AM (q_uI q_IM 0 39 0) q_J0, 34, 31630)) rfl rfl ?_ ?_
              · refine q_Ca_of (Nat.le_of_ble_eq_true rfl) ?_
                refine q_Ru_seg (g2 := (7, [(0, .ref 64), (1, .int 3882)], [.int 3887, .int 3840, .int 3882], (q_cM q_AM (q_uI q_IM 0 39 0) q_J0, 34, 31630))) 3 (fun _ _ => rfl) ?_
                refine q_Ru_call (v := (some (.int 1))) (h2 := (q_cM q_AM (q_uI q_IM 0 39 0) q_J0, 34, 31630)) rfl rfl ?_ ?_
                · refine q_Ca_of (Nat.le_of_ble_eq_true rfl) ?_
                  refine q_Ru_seg (g2 := (15, [(0, .int 3882), (1, .int 3840), (2, .int 3887)], [.int 1], (q_cM q_AM (q_uI q_IM 0 39 0) q_J0, 34, 31630))) 8 (fun _ _ => rfl) ?_
                  exact q_Ru_ret rfl rfl
                show q_Ru _ _ _ (10, [(0, .ref 64), (1, .int 3882)], [.int 1], (q_cM q_AM (q_uI q_IM 0 39 0) q_J0, 34, 31630)) _
                refine q_Ru_seg (g2 := (19, [(0, .ref 64), (1, .int 3882)], [.int 42, .ref 64], (q_cM q_AM (q_uI q_IM 0 39 0) q_J0, 34, 31630))) 5 (fun _ _ => rfl) ?_
                refine q_Ru_call (v := (some (.int 0))) (h2 := (q_cM q_AM (q_uI q_IM 0 39 0) q_J0, 34, 31630)) rfl rfl ?_ ?_
                · refine q_Ca_of (Nat.le_of_ble_eq_true rfl) ?_
                  refine q_Ru_seg (g2 := (30, [(0, .ref 64), (1, .int 42)], [.int 15, .int 12, .int 42], (q_cM q_AM (q_uI q_IM 0 39 0) q_J0, 34, 31630))) 9 (fun _ _ => rfl) ?_
                  refine q_Ru_call (v := (some (.int 0))) (h2 := (q_cM q_AM (q_uI q_IM 0 39 0) q_J0, 34, 31630)) rfl rfl ?_ ?_
                  · refine q_Ca_of (Nat.le_of_ble_eq_true rfl) ?_
                    refine q_Ru_seg (g2 := (15, [(0, .int 42), (1, .int 12), (2, .int 15)], [.int 0], (q_cM q_AM (q_uI q_IM 0 39 0) q_J0, 34, 31630))) 7 (fun _ _ => rfl) ?_
                    exact q_Ru_ret rfl rfl
                  show q_Ru _ _ _ (33, [(0, .ref 64), (1, .int 42)], [.int 0], (q_cM q_AM (q_uI q_IM 0 39 0) q_J0, 34, 31630)) _
                  refine q_Ru_seg (g2 := (190, [(0, .ref 64), (1, .int 42)], [.int 0], (q_cM q_AM (q_uI q_IM 0 39 0) q_J0, 34, 31630))) 20 (fun _ _ => rfl) ?_
                  exact q_Ru_ret rfl rfl
                show q_Ru _ _ _ (22, [(0, .ref 64), (1, .int 3882)], [.int 0], (q_cM q_AM (q_uI q_IM 0 39 0) q_J0, 34, 31630)) _
                exact q_Ru_ret rfl rfl
              show q_Ru _ _ _ (28, [(0, .ref 64), (1, .int 3882)], [.int 0], (q_cM q_AM (q_uI q_IM 0 39 0) q_J0, 34, 31630)) _
              exact q_Ru_ret rfl rfl
          | 43, _, e222 =>
            have e222 : a = 3883 := e222
            subst e222
            refine ⟨0, 0, 0, ⟨(q_cX q_AX q_IX (q_uA q_J0 39 (vp_updL (fun _ => 0) 0 0)), 40, 26520), (q_uA q_J0 39 (vp_updL (fun _ => 0) 0 0)) 39, ?_, rfl, fun _ => rfl, Nat.le_of_ble_eq_true rfl, Nat.le_of_ble_eq_true rfl⟩, ⟨(q_cM q_AM (q_uI q_IM 0 39 0) q_J0, 34, 31630), _, ?_, rfl, rfl, Nat.le_of_ble_eq_true rfl, Nat.le_of_ble_eq_true rfl⟩, fun _ => rfl⟩
            · refine q_Ca_of (Nat.le_of_ble_eq_true rfl) ?_
              refine q_Ru_seg (g2 := (4, [(0, .ref 64), (1, .int 3883), (2, .ref 103)], [.int 3883, .ref 64, .int 0, .ref 103], (q_cX q_AX q_IX q_J0, 40, 26520))) 4 (fun _ _ => rfl) ?_
              refine q_Ru_call (v := (some (.int 0))) (h2 := (q_cX q_AX q_IX q_J0, 40, 26520)) rfl rfl ?_ ?_
              · refine q_Ca_of (Nat.le_of_ble_eq_true rfl) ?_
                refine q_Ru_seg (g2 := (1, [(0, .ref 64), (1, .int 3883)], [.int 3883], (q_cX q_AX q_IX q_J0, 40, 26520))) 1 (fun _ _ => rfl) ?_
                refine q_Ru_call (v := none) (h2 := (q_cX q_AX q_IX q_J0, 40, 26520)) rfl rfl ?_ ?_
                · refine q_Ca_of (Nat.le_of_ble_eq_true rfl) ?_
                  refine q_Ru_seg (g2 := (4, [(0, .int 3883)], [.int 4096, .int 3883], (q_cX q_AX q_IX q_J0, 40, 26520))) 2 (fun _ _ => rfl) ?_
                  refine q_Ru_call (v := none) (h2 := (q_cX q_AX q_IX q_J0, 40, 26520)) rfl rfl ?_ ?_
                  · refine q_Ca_of (Nat.le_of_ble_eq_true rfl) ?_
                    refine q_Ru_seg (g2 := (19, [(0, .int 3883), (1, .int 4096)], [], (q_cX q_AX q_IX q_J0, 40, 26520))) 5 (fun _ _ => rfl) ?_
                    exact q_Ru_ret rfl rfl
                  show q_Ru _ _ _ (7, [(0, .int 3883)], [], (q_cX q_AX q_IX q_J0, 40, 26520)) _
                  exact q_Ru_ret rfl rfl
                show q_Ru _ _ _ (4, [(0, .ref 64), (1, .int 3883)], [], (q_cX q_AX q_IX q_J0, 40, 26520)) _
                refine q_Ru_seg (g2 := (12, [(0, .ref 64), (1, .int 3883)], [.int 3883, .ref 66], (q_cX q_AX q_IX q_J0, 40, 26520))) 4 (fun _ _ => rfl) ?_
                refine q_Ru_call (v := (some (.int 0))) (h2 := (q_cX q_AX q_IX q_J0, 40, 26520)) rfl rfl ?_ ?_
                · refine q_Ca_of (Nat.le_of_ble_eq_true rfl) ?_
                  refine q_Ru_seg (g2 := (27, [(2, .int 43), (0, .ref 66), (1, .int 3883)], [.int 0, .int 43, .ref 66], (q_cX q_AX q_IX q_J0, 40, 26520))) 16 (fun _ _ => rfl) ?_
                  refine q_Ru_call (v := (some (.int 0))) (h2 := (q_cX q_AX q_IX q_J0, 40, 26520)) rfl rfl ?_ ?_
                  · refine q_Ca_of (Nat.le_of_ble_eq_true rfl) ?_
                    refine q_Ru_seg (g2 := (183, [(0, .ref 66), (1, .int 43), (2, .int 0)], [.int 0], (q_cX q_AX q_IX q_J0, 40, 26520))) 3 (fun _ _ => rfl) ?_
                    exact q_Ru_ret rfl rfl
                  show q_Ru _ _ _ (30, [(2, .int 43), (0, .ref 66), (1, .int 3883)], [.int 0], (q_cX q_AX q_IX q_J0, 40, 26520)) _
                  exact q_Ru_ret rfl rfl
                show q_Ru _ _ _ (15, [(0, .ref 64), (1, .int 3883)], [.int 0], (q_cX q_AX q_IX q_J0, 40, 26520)) _
                exact q_Ru_ret rfl rfl
              show q_Ru _ _ _ (7, [(0, .ref 64), (1, .int 3883), (2, .ref 103)], [.int 0, .int 0, .ref 103], (q_cX q_AX q_IX q_J0, 40, 26520)) _
              refine q_Ru_seg (g2 := (16, [(0, .ref 64), (1, .int 3883), (2, .ref 103)], [.int 0], (q_cX q_AX q_IX (q_uA q_J0 39 (vp_updL (fun _ => 0) 0 0)), 40, 26520))) 4 (fun _ _ => rfl) ?_
              exact q_Ru_ret rfl rfl
            · refine q_Ca_of (Nat.le_of_ble_eq_true rfl) ?_
              refine q_Ru_seg (g2 := (2, [(0, .ref 64), (1, .int 3883)], [.int 3883, .ref 64], (q_cM q_AM q_IM q_J0, 34, 31630))) 2 (fun _ _ => rfl) ?_
              refine q_Ru_call (v := (some (.int 0))) (h2 := (q_cM q_AM q_IM q_J0, 34, 31630)) rfl rfl ?_ ?_
              · refine q_Ca_of (Nat.le_of_ble_eq_true rfl) ?_
                refine q_Ru_seg (g2 := (5, [(0, .int 3883)], [.int 4095, .int 0, .int 3883], (q_cM q_AM q_IM q_J0, 34, 31630))) 3 (fun _ _ => rfl) ?_
                refine q_Ru_call (v := (some (.int 1))) (h2 := (q_cM q_AM q_IM q_J0, 34, 31630)) rfl rfl ?_ ?_
                · refine q_Ca_of (Nat.le_of_ble_eq_true rfl) ?_
                  refine q_Ru_seg (g2 := (15, [(0, .int 3883), (1, .int 0), (2, .int 4095)], [.int 1], (q_cM q_AM q_IM q_J0, 34, 31630))) 8 (fun _ _ => rfl) ?_
                  exact q_Ru_ret rfl rfl
                show q_Ru _ _ _ (8, [(0, .int 3883)], [.int 1], (q_cM q_AM q_IM q_J0, 34, 31630)) _
                refine q_Ru_seg (g2 := (16, [(0, .int 3883)], [.int 0], (q_cM q_AM q_IM q_J0, 34, 31630))) 2 (fun _ _ => rfl) ?_
                exact q_Ru_ret rfl rfl
              show q_Ru _ _ _ (5, [(0, .ref 64), (1, .int 3883)], [.int 0, .ref 64], (q_cM q_AM q_IM q_J0, 34, 31630)) _
              refine q_Ru_seg (g2 := (13, [(0, .ref 64), (1, .int 3883)], [.int 0, .ref 64], (q_cM q_AM q_IM q_J0, 34, 31630))) 2 (fun _ _ => rfl) ?_
              refine q_Ru_call (v := (some (.int 0))) (h2 := (q_cM q_AM (q_uI q_IM 0 39 0) q_J0, 34, 31630)) rfl rfl ?_ ?_
              · refine q_Ca_of (Nat.le_of_ble_eq_true rfl) ?_
                refine q_Ru_seg (g2 := (14, [(0, .ref 64), (1, .int 0)], [.int 0], (q_cM q_AM (q_uI q_IM 0 39 0) q_J0, 34, 31630))) 6 (fun _ _ => rfl) ?_
                exact q_Ru_ret rfl rfl
              show q_Ru _ _ _ (16, [(0, .ref 64), (1, .int 3883)], [.int 0], (q_cM q_AM (q_uI q_IM 0 39 0) q_J0, 34, 31630)) _
              refine q_Ru_seg (g2 := (25, [(0, .ref 64), (1, .int 3883)], [.int 3883, .ref 64], (q_cM q_AM (q_uI q_IM 0 39 0) q_J0, 34, 31630))) 3 (fun _ _ => rfl) ?_
              refine q_Ru_call (v := (some (.int 0))) (h2 := (q_cM q_AM (q_uI q_IM 0 39 0) q_J0, 34, 31630)) rfl rfl ?_ ?_
              · refine q_Ca_of (Nat.le_of_ble_eq_true rfl) ?_
                refine q_Ru_seg (g2 := (7, [(0, .ref 64), (1, .int 3883)], [.int 3887, .int 3840, .int 3883], (q_cM q_AM (q_uI q_IM 0 39 0) q_J0, 34, 31630))) 3 (fun _ _ => rfl) ?_
                refine q_Ru_call (v := (some (.int 1))) (h2 := (q_cM q_AM (q_uI q_IM 0 39 0) q_J0, 34, 31630)) rfl rfl ?_ ?_
                · refine q_Ca_of (Nat.le_of_ble_eq_true rfl) ?_
                  refine q_Ru_seg (g2 := (15, [(0, .int 3883), (1, .int 3840), (2, .int 3887)], [.int 1], (q_cM q_AM (q_uI q_IM 0 39 0) q_J0, 34, 31630))) 8 (fun _ _ => rfl) ?_
                  exact q_Ru_ret rfl rfl
                show q_Ru _ _ _ (10, [(0, .ref 64), (1, .int 3883)], [.int 1], (q_cM q_AM (q_uI q_IM 0 39 0) q_J0, 34, 31630)) _
                refine q_Ru_seg (g2 := (19, [(0, .ref 64), (1, .int 3883)], [.int 43, .ref 64], (q_cM q_AM (q_uI q_IM 0 39 0) q_J0, 34, 31630))) 5 (fun _ _ => rfl) ?_
                refine q_Ru_call (v := (some (.int 0))) (h2 := (q_cM q_AM (q_uI q_IM 0 39 0) q_J0, 34, 31630)) rfl rfl ?_ ?_
                · refine q_Ca_of (Nat.le_of_ble_eq_true rfl) ?_
                  refine q_Ru_seg (g2 := (30, [(0, .ref 64), (1, .int 43)], [.int 15, .int 12, .int 43], (q_cM q_AM (q_uI q_IM 0 39 0) q_J0, 34, 31630))) 9 (fun _ _ => rfl) ?_
                  refine q_Ru_call (v := (some (.int 0))) (h2 := (q_cM q_AM (q_uI q_IM 0 39 0) q_J0, 34, 31630)) rfl rfl ?_ ?_
                  · refine q_Ca_of (Nat.le_of_ble_eq_true rfl) ?_
                    refine q_Ru_seg (g2 := (15, [(0, .int 43), (1, .int 12), (2, .int 15)], [.int 0], (q_cM q_AM (q_uI q_IM 0 39 0) q_J0, 34, 31630))) 7 (fun _ _ => rfl) ?_
                    exact q_Ru_ret rfl rfl
                  show q_Ru _ _ _ (33, [(0, .ref 64), (1, .int 43)], [.int 0], (q_cM q_AM (q_uI q_IM 0 39 0) q_J0, 34, 31630)) _
                  refine q_Ru_seg (g2 := (190, [(0, .ref 64), (1, .int 43)], [.int 0], (q_cM q_AM (q_uI q_IM 0 39 0) q_J0, 34, 31630))) 20 (fun _ _ => rfl) ?_
                  exact q_Ru_ret rfl rfl
                show q_Ru _ _ _ (22, [(0, .ref 64), (1, .int 3883)], [.int 0], (q_cM q_AM (q_uI q_IM 0 39 0) q_J0, 34, 31630)) _
                exact q_Ru_ret rfl rfl
              show q_Ru _ _ _ (28, [(0, .ref 64), (1, .int 3883)], [.int 0], (q_cM q_AM (q_uI q_IM 0 39 0) q_J0, 34, 31630)) _
              exact q_Ru_ret rfl rfl
          | 44, _, e222 =>
            have e222 : a = 3884 := e222
            subst e222
            refine ⟨0, 0, 0, ⟨(q_cX q_AX q_IX (q_uA q_J0 39 (vp_updL (fun _ => 0) 0 0)), 40, 26520), (q_uA q_J0 39 (vp_updL (fun _ => 0) 0 0)) 39, ?_, rfl, fun _ => rfl, Nat.le_of_ble_eq_true rfl, Nat.le_of_ble_eq_true rfl⟩, ⟨(q_cM q_AM (q_uI q_IM 0 39 0) q_J0, 34, 31630), _, ?_, rfl, rfl, Nat.le_of_ble_eq_true rfl, Nat.le_of_ble_eq_true rfl⟩, fun _ => rfl⟩
            · refine q_Ca_of (Nat.le_of_ble_eq_true rfl) ?_
              refine q_Ru_seg (g2 := (4, [(0, .ref 64), (1, .int 3884), (2, .ref 103)], [.int 3884, .ref 64, .int 0, .ref 103], (q_cX q_AX q_IX q_J0, 40, 26520))) 4 (fun _ _ => rfl) ?_
              refine q_Ru_call (v := (some (.int 0))) (h2 := (q_cX q_AX q_IX q_J0, 40, 26520)) rfl rfl ?_ ?_
              · refine q_Ca_of (Nat.le_of_ble_eq_true rfl) ?_
                refine q_Ru_seg (g2 := (1, [(0, .ref 64), (1, .int 3884)], [.int 3884], (q_cX q_AX q_IX q_J0, 40, 26520))) 1 (fun _ _ => rfl) ?_
                refine q_Ru_call (v := none) (h2 := (q_cX q_AX q_IX q_J0, 40, 26520)) rfl rfl ?_ ?_
                · refine q_Ca_of (Nat.le_of_ble_eq_true rfl) ?_
                  refine q_Ru_seg (g2 := (4, [(0, .int 3884)], [.int 4096, .int 3884], (q_cX q_AX q_IX q_J0, 40, 26520))) 2 (fun _ _ => rfl) ?_
                  refine q_Ru_call (v := none) (h2 := (q_cX q_AX q_IX q_J0, 40, 26520)) rfl rfl ?_ ?_
                  · refine q_Ca_of (Nat.le_of_ble_eq_true rfl) ?_
                    refine q_Ru_seg (g2 := (19, [(0, .int 3884), (1, .int 4096)], [], (q_cX q_AX q_IX q_J0, 40, 26520))) 5 (fun _ _ => rfl) ?_
                    exact q_Ru_ret rfl rfl
                  show q_Ru _ _ _ (7, [(0, .int 3884)], [], (q_cX q_AX q_IX q_J0, 40, 26520)) _
                  exact q_Ru_ret rfl rfl
                show q_Ru _ _ _ (4, [(0, .ref 64), (1, .int 3884)], [], (q_cX q_AX q_IX q_J0, 40, 26520)) _
                refine q_Ru_seg (g2 := (12, [(0, .ref 64), (1, .int 3884)], [.int 3884, .ref 66], (q_cX q_AX q_IX q_J0, 40, 26520))) 4 (fun _ _ => rfl) ?_
                refine q_Ru_call (v := (some (.int 0))) (h2 := (q_cX q_AX q_IX q_J0, 40, 26520)) rfl rfl ?_ ?_
                · refine q_Ca_of (Nat.le_of_ble_eq_true rfl) ?_
                  refine q_Ru_seg (g2 := (27, [(2, .int 44), (0, .ref 66), (1, .int 3884)], [.int 0, .int 44, .ref 66], (q_cX q_AX q_IX q_J0, 40, 26520))) 16 (fun _ _ => rfl) ?_
                  refine q_Ru_call (v := (some (.int 0))) (h2 := (q_cX q_AX q_IX q_J0, 40, 26520)) rfl rfl ?_ ?_
                  · refine q_Ca_of (Nat.le_of_ble_eq_true rfl) ?_
                    refine q_Ru_seg (g2 := (181, [(0, .ref 66), (1, .int 44), (2, .int 0)], [.int 0], (q_cX q_AX q_IX q_J0, 40, 26520))) 18 (fun _ _ => rfl) ?_
                    exact q_Ru_ret rfl rfl
                  show q_Ru _ _ _ (30, [(2, .int 44), (0, .ref 66), (1, .int 3884)], [.int 0], (q_cX q_AX q_IX q_J0, 40, 26520)) _
                  exact q_Ru_ret rfl rfl
                show q_Ru _ _ _ (15, [(0, .ref 64), (1, .int 3884)], [.int 0], (q_cX q_AX q_IX q_J0, 40, 26520)) _
                exact q_Ru_ret rfl rfl
              show q_Ru _ _ _ (7, [(0, .ref 64), (1, .int 3884), (2, .ref 103)], [.int 0, .int 0, .ref 103], (q_cX q_AX q_IX q_J0, 40, 26520)) _
              refine q_Ru_seg (g2 := (16, [(0, .ref 64), (1, .int 3884), (2, .ref 103)], [.int 0], (q_cX q_AX q_IX (q_uA q_J0 39 (vp_updL (fun _ => 0) 0 0)), 40, 26520))) 4 (fun _ _ => rfl) ?_
              exact q_Ru_ret rfl rfl
            · refine q_Ca_of (Nat.le_of_ble_eq_true rfl) ?_
              refine q_Ru_seg (g2 := (2, [(0, .ref 64), (1, .int 3884)], [.int 3884, .ref 64], (q_cM q_AM q_IM q_J0, 34, 31630))) 2 (fun _ _ => rfl) ?_
              refine q_Ru_call (v := (some (.int 0))) (h2 := (q_cM q_AM q_IM q_J0, 34, 31630)) rfl rfl ?_ ?_
              · refine q_Ca_of (Nat.le_of_ble_eq_true rfl) ?_
                refine q_Ru_seg (g2 := (5, [(0, .int 3884)], [.int 4095, .int 0, .int 3884], (q_cM q_AM q_IM q_J0, 34, 31630))) 3 (fun _ _ => rfl) ?_
                refine q_Ru_call (v := (some (.int 1))) (h2 := (q_cM q_AM q_IM q_J0, 34, 31630)) rfl rfl ?_ ?_
                · refine q_Ca_of (Nat.le_of_ble_eq_true rfl) ?_
                  refine q_Ru_seg (g2 := (15, [(0, .int 3884), (1, .int 0), (2, .int 4095)], [.int 1], (q_cM q_AM q_IM q_J0, 34, 31630))) 8 (fun _ _ => rfl) ?_
                  exact q_Ru_ret rfl rfl
                show q_Ru _ _ _ (8, [(0, .int 3884)], [.int 1], (q_cM q_AM q_IM q_J0, 34, 31630)) _
                refine q_Ru_seg (g2 := (16, [(0, .int 3884)], [.int 0], (q_cM q_AM q_IM q_J0, 34, 31630))) 2 (fun _ _ => rfl) ?_
                exact q_Ru_ret rfl rfl
              show q_Ru _ _ _ (5, [(0, .ref 64), (1, .int 3884)], [.int 0, .ref 64], (q_cM q_AM q_IM q_J0, 34, 31630)) _
              refine q_Ru_seg (g2 := (13, [(0, .ref 64), (1, .int 3884)], [.int 0, .ref 64], (q_cM q_AM q_IM q_J0, 34, 31630))) 2 (fun _ _ => rfl) ?_
              refine q_Ru_call (v := (some (.int 0))) (h2 := (q_cM q_AM (q_uI q_IM 0 39 0) q_J0, 34, 31630)) rfl rfl ?_ ?_
              · refine q_Ca_of (Nat.le_of_ble_eq_true rfl) ?_
                refine q_Ru_seg (g2 := (14, [(0, .ref 64), (1, .int 0)], [.int 0], (q_cM q_AM (q_uI q_IM 0 39 0) q_J0, 34, 31630))) 6 (fun _ _ => rfl) ?_
                exact q_Ru_ret rfl rfl
              show q_Ru _ _ _ (16, [(0, .ref 64), (1, .int 3884)], [.int 0], (q_cM q_AM (q_uI q_IM 0 39 0) q_J0, 34, 31630)) _
              refine q_Ru_seg (g2 := (25, [(0, .ref 64), (1, .int 3884)], [.int 3884, .ref 64], (q_cM q_AM (q_uI q_IM 0 39 0) q_J0, 34, 31630))) 3 (fun _ _ => rfl) ?_
              refine q_Ru_call (v := (some (.int 0))) (h2 := (q_cM q_AM (q_uI q_IM 0 39 0) q_J0, 34, 31630)) rfl rfl ?_ ?_
              · refine q_Ca_of (Nat.le_of_ble_eq_true rfl) ?_
                refine q_Ru_seg (g2 := (7, [(0, .ref 64), (1, .int 3884)], [.int 3887, .int 3840, .int 3884], (q_cM q_AM (q_uI q_IM 0 39 0) q_J0, 34, 31630))) 3 (fun _ _ => rfl) ?_
                refine q_Ru_call (v := (some (.int 1))) (h2 := (q_cM q_AM (q_uI q_IM 0 39 0) q_J0, 34, 31630)) rfl rfl ?_ ?_
                · refine q_Ca_of (Nat.le_of_ble_eq_true rfl) ?_
                  refine q_Ru_seg (g2 := (15, [(0, .int 3884), (1, .int 3840), (2, .int 3887)], [.int 1], (q_cM q_AM (q_uI q_IM 0 39 0) q_J0, 34, 31630))) 8 (fun _ _ => rfl) ?_
                  exact q_Ru_ret rfl rfl
                show q_Ru _ _ _ (10, [(0, .ref 64), (1, .int 3884)], [.int 1], (q_cM q_AM (q_uI q_IM 0 39 0) q_J0, 34, 31630)) _
                refine q_Ru_seg (g2 := (19, [(0, .ref 64), (1, .int 3884)], [.int 44, .ref 64], (q_cM q_AM (q_uI q_IM 0 39 0) q_J0, 34, 31630))) 5 (fun _ _ => rfl) ?_
                refine q_Ru_call (v := (some (.int 0))) (h2 := (q_cM q_AM (q_uI q_IM 0 39 0) q_J0, 34, 31630)) rfl rfl ?_ ?_
                · refine q_Ca_of (Nat.le_of_ble_eq_true rfl) ?_
                  refine q_Ru_seg (g2 := (30, [(0, .ref 64), (1, .int 44)], [.int 15, .int 12, .int 44], (q_cM q_AM (q_uI q_IM 0 39 0) q_J0, 34, 31630))) 9 (fun _ _ => rfl) ?_
                  refine q_Ru_call (v := (some (.int 0))) (h2 := (q_cM q_AM (q_uI q_IM 0 39 0) q_J0, 34, 31630)) rfl rfl ?_ ?_
                  · refine q_Ca_of (Nat.le_of_ble_eq_true rfl) ?_
                    refine q_Ru_seg (g2 := (15, [(0, .int 44), (1, .int 12), (2, .int 15)], [.int 0], (q_cM q_AM (q_uI q_IM 0 39 0) q_J0, 34, 31630))) 7 (fun _ _ => rfl) ?_
                    exact q_Ru_ret rfl rfl
                  show q_Ru _ _ _ (33, [(0, .ref 64), (1, .int 44)], [.int 0], (q_cM q_AM (q_uI q_IM 0 39 0) q_J0, 34, 31630)) _
                  refine q_Ru_seg (g2 := (161, [(0, .ref 64), (1, .int 44)], [.ref 64, .int 0], (q_cM q_AM (q_uI q_IM 0 39 0) q_J0, 34, 31630))) 25 (fun _ _ => rfl) ?_
                  refine q_Ru_call (v := (some (.int 0))) (h2 := (q_cM q_AM (q_uI q_IM 0 39 0) q_J0, 34, 31630)) rfl rfl ?_ ?_
                  · refine q_Ca_of (Nat.le_of_ble_eq_true rfl) ?_
                    refine q_Ru_seg (g2 := (22, [(0, .ref 64)], [.int 0], (q_cM q_AM (q_uI q_IM 0 39 0) q_J0, 34, 31630))) 10 (fun _ _ => rfl) ?_
                    exact q_Ru_ret rfl rfl
                  show q_Ru _ _ _ (164, [(0, .ref 64), (1, .int 44)], [.int 0, .int 0], (q_cM q_AM (q_uI q_IM 0 39 0) q_J0, 34, 31630)) _
                  refine q_Ru_seg (g2 := (173, [(0, .ref 64), (1, .int 44)], [.int 0], (q_cM q_AM (q_uI q_IM 0 39 0) q_J0, 34, 31630))) 3 (fun _ _ => rfl) ?_
                  exact q_Ru_ret rfl rfl
                show q_Ru _ _ _ (22, [(0, .ref 64), (1, .int 3884)], [.int 0], (q_cM q_AM (q_uI q_IM 0 39 0) q_J0, 34, 31630)) _
                exact q_Ru_ret rfl rfl
              show q_Ru _ _ _ (28, [(0, .ref 64), (1, .int 3884)], [.int 0], (q_cM q_AM (q_uI q_IM 0 39 0) q_J0, 34, 31630)) _
              exact q_Ru_ret rfl rfl
          | 45, _, e222 =>
            have e222 : a = 3885 := e222
            subst e222
            refine ⟨0, 0, 0, ⟨(q_cX q_AX q_IX (q_uA q_J0 39 (vp_updL (fun _ => 0) 0 0)), 40, 26520), (q_uA q_J0 39 (vp_updL (fun _ => 0) 0 0)) 39, ?_, rfl, fun _ => rfl, Nat.le_of_ble_eq_true rfl, Nat.le_of_ble_eq_true rfl⟩, ⟨(q_cM q_AM (q_uI q_IM 0 39 0) q_J0, 34, 31630), _, ?_, rfl, rfl, Nat.le_of_ble_eq_true rfl, Nat.le_of_ble_eq_true rfl⟩, fun _ => rfl⟩
            · refine q_Ca_of (Nat.le_of_ble_eq_true rfl) ?_
              refine q_Ru_seg (g2 := (4, [(0, .ref 64), (1, .int 3885), (2, .ref 103)], [.int 3885, .ref 64, .int 0, .ref 103], (q_cX q_AX q_IX q_J0, 40, 26520))) 4 (fun _ _ => rfl) ?_
              refine q_Ru_call (v := (some (.int 0))) (h2 := (q_cX q_AX q_IX q_J0, 40, 26520)) rfl rfl ?_ ?_
              · refine q_Ca_of (Nat.le_of_ble_eq_true rfl) ?_
                refine q_Ru_seg (g2 := (1, [(0, .ref 64), (1, .int 3885)], [.int 3885], (q_cX q_AX q_IX q_J0, 40, 26520))) 1 (fun _ _ => rfl) ?_
                refine q_Ru_call (v := none) (h2 := (q_cX q_AX q_IX q_J0, 40, 26520)) rfl rfl ?_ ?_
                · refine q_Ca_of (Nat.le_of_ble_eq_true rfl) ?_
                  refine q_Ru_seg (g2 := (4, [(0, .int 3885)], [.int 4096, .int 3885], (q_cX q_AX q_IX q_J0, 40, 26520))) 2 (fun _ _ => rfl) ?_
                  refine q_Ru_call (v := none) (h2 := (q_cX q_AX q_IX q_J0, 40, 26520)) rfl rfl ?_ ?_
                  · refine q_Ca_of (Nat.le_of_ble_eq_true rfl) ?_
                    refine q_Ru_seg (g2 := (19, [(0, .int 3885), (1, .int 4096)], [], (q_cX q_AX q_IX q_J0, 40, 26520))) 5 (fun _ _ => rfl) ?_
                    exact q_Ru_ret rfl rfl
                  show q_Ru _ _ _ (7, [(0, .int 3885)], [], (q_cX q_AX q_IX q_J0, 40, 26520)) _
                  exact q_Ru_ret rfl rfl
                show q_Ru _ _ _ (4, [(0, .ref 64), (1, .int 3885)], [], (q_cX q_AX q_IX q_J0, 40, 26520)) _
                refine q_Ru_seg (g2 := (12, [(0, .ref 64), (1, .int 3885)], [.int 3885, .ref 66], (q_cX q_AX q_IX q_J0, 40, 26520))) 4 (fun _ _ => rfl) ?_
                refine q_Ru_call (v := (some (.int 0))) (h2 := (q_cX q_AX q_IX q_J0, 40, 26520)) rfl rfl ?_ ?_
                · refine q_Ca_of (Nat.le_of_ble_eq_true rfl) ?_
                  refine q_Ru_seg (g2 := (27, [(2, .int 45), (0, .ref 66), (1, .int 3885)], [.int 0, .int 45, .ref 66], (q_cX q_AX q_IX q_J0, 40, 26520))) 16 (fun _ _ => rfl) ?_
                  refine q_Ru_call (v := (some (.int 0))) (h2 := (q_cX q_AX q_IX q_J0, 40, 26520)) rfl rfl ?_ ?_
                  · refine q_Ca_of (Nat.le_of_ble_eq_true rfl) ?_
                    refine q_Ru_seg (g2 := (183, [(0, .ref 66), (1, .int 45), (2, .int 0)], [.int 0], (q_cX q_AX q_IX q_J0, 40, 26520))) 3 (fun _ _ => rfl) ?_
                    exact q_Ru_ret rfl rfl
                  show q_Ru _ _ _ (30, [(2, .int 45), (0, .ref 66), (1, .int 3885)], [.int 0], (q_cX q_AX q_IX q_J0, 40, 26520)) _
                  exact q_Ru_ret rfl rfl
                show q_Ru _ _ _ (15, [(0, .ref 64), (1, .int 3885)], [.int 0], (q_cX q_AX q_IX q_J0, 40, 26520)) _
                exact q_Ru_ret rfl rfl
              show q_Ru _ _ _ (7, [(0, .ref 64), (1, .int 3885), (2, .ref 103)], [.int 0, .int 0, .ref 103], (q_cX q_AX q_IX q_J0, 40, 26520)) _
              refine q_Ru_seg (g2 := (16, [(0, .ref 64), (1, .int 3885), (2, .ref 103)], [.int 0], (q_cX q_AX q_IX (q_uA q_J0 39 (vp_updL (fun _ => 0) 0 0)), 40, 26520))) 4 (fun _ _ => rfl) ?_
              exact q_Ru_ret rfl rfl
            · refine q_Ca_of (Nat.le_of_ble_eq_true rfl) ?_
              refine q_Ru_seg (g2 := (2, [(0, .ref 64), (1, .int 3885)], [.int 3885, .ref 64], (q_cM q_AM q_IM q_J0, 34, 31630))) 2 (fun _ _ => rfl) ?_
              refine q_Ru_call (v := (some (.int 0))) (h2 := (q_cM q_AM q_IM q_J0, 34, 31630)) rfl rfl ?_ ?_
              · refine q_Ca_of (Nat.le_of_ble_eq_true rfl) ?_
                refine q_Ru_seg (g2 := (5, [(0, .int 3885)], [.int 4095, .int 0, .int 3885], (q_cM q_AM q_IM q_J0, 34, 31630))) 3 (fun _ _ => rfl) ?_
                refine q_Ru_call (v := (some (.int 1))) (h2 := (q_cM q_AM q_IM q_J0, 34, 31630)) rfl rfl ?_ ?_
                · refine q_Ca_of (Nat.le_of_ble_eq_true rfl) ?_
                  refine q_Ru_seg (g2 := (15, [(0, .int 3885), (1, .int 0), (2, .int 4095)], [.int 1], (q_cM q_AM q_IM q_J0, 34, 31630))) 8 (fun _ _ => rfl) ?_
                  exact q_Ru_ret rfl rfl
                show q_Ru _ _ _ (8, [(0, .int 3885)], [.int 1], (q_cM q_AM q_IM q_J0, 34, 31630)) _
                refine q_Ru_seg (g2 := (16, [(0, .int 3885)], [.int 0], (q_cM q_AM q_IM q_J0, 34, 31630))) 2 (fun _ _ => rfl) ?_
                exact q_Ru_ret rfl rfl
              show q_Ru _ _ _ (5, [(0, .ref 64), (1, .int 3885)], [.int 0, .ref 64], (q_cM q_AM q_IM q_J0, 34, 31630)) _
              refine q_Ru_seg (g2 := (13, [(0, .ref 64), (1, .int 3885)], [.int 0, .ref 64], (q_cM q_AM q_IM q_J0, 34, 31630))) 2 (fun _ _ => rfl) ?_
              refine q_Ru_call (v := (some (.int 0))) (h2 := (q_cM q_AM (q_uI q_IM 0 39 0) q_J0, 34, 31630)) rfl rfl ?_ ?_
              · refine q_Ca_of (Nat.le_of_ble_eq_true rfl) ?_
                refine q_Ru_seg (g2 := (14, [(0, .ref 64), (1, .int 0)], [.int 0], (q_cM q_AM (q_uI q_IM 0 39 0) q_J0, 34, 31630))) 6 (fun _ _ => rfl) ?_
                exact q_Ru_ret rfl rfl
              show q_Ru _ _ _ (16, [(0, .ref 64), (1, .int 3885)], [.int 0], (q_cM q_AM (q_uI q_IM 0 39 0) q_J0, 34, 31630)) _
              refine q_Ru_seg (g2 := (25, [(0, .ref 64), (1, .int 3885)], [.int 3885, .ref 64], (q_cM q_AM (q_uI q_IM 0 39 0) q_J0, 34, 31630))) 3 (fun _ _ => rfl) ?_
              refine q_Ru_call (v := (some (.int 0))) (h2 := (q_cM q_AM (q_uI q_IM 0 39 0) q_J0, 34, 31630)) rfl rfl ?_ ?_
              · refine q_Ca_of (Nat.le_of_ble_eq_true rfl) ?_
                refine q_Ru_seg (g2 := (7, [(0, .ref 64), (1, .int 3885)], [.int 3887, .int 3840, .int 3885], (q_cM q_AM (q_uI q_IM 0 39 0) q_J0, 34, 31630))) 3 (fun _ _ => rfl) ?_
                refine q_Ru_call (v := (some (.int 1))) (h2 := (q_cM q_AM (q_uI q_IM 0 39 0) q_J0, 34, 31630)) rfl rfl ?_ ?_
                · refine q_Ca_of (Nat.le_of_ble_eq_true rfl) ?_
                  refine q_Ru_seg (g2 := (15, [(0, .int 3885), (1, .int 3840), (2, .int 3887)], [.int 1], (q_cM q_AM (q_uI q_IM 0 39 0) q_J0, 34, 31630))) 8 (fun _ _ => rfl) ?_
                  exact q_Ru_ret rfl rfl
                show q_Ru _ _ _ (10, [(0, .ref 64), (1, .int 3885)], [.int 1], (q_cM q_AM (q_uI q_IM 0 39 0) q_J0, 34, 31630)) _
                refine q_Ru_seg (g2 := (19, [(0, .ref 64), (1, .int 3885)], [.int 45, .ref 64], (q_cM q_AM (q_uI q_IM 0 39 0) q_J0, 34, 31630))) 5 (fun _ _ => rfl) ?_
                refine q_Ru_call (v := (some (.int 0))) (h2 := (q_cM q_AM (q_uI q_IM 0 39 0) q_J0, 34, 31630)) rfl rfl ?_ ?_
                · refine q_Ca_of (Nat.le_of_ble_eq_true rfl) ?_
                  refine q_Ru_seg (g2 := (30, [(0, .ref 64), (1, .int 45)], [.int 15, .int 12, .int 45], (q_cM q_AM (q_uI q_IM 0 39 0) q_J0, 34, 31630))) 9 (fun _ _ => rfl) ?_
                  refine q_Ru_call (v := (some (.int 0))) (h2 := (q_cM q_AM (q_uI q_IM 0 39 0) q_J0, 34, 31630)) rfl rfl ?_ ?_
                  · refine q_Ca_of (Nat.le_of_ble_eq_true rfl) ?_
                    refine q_Ru_seg (g2 := (15, [(0, .int 45), (1, .int 12), (2, .int 15)], [.int 0], (q_cM q_AM (q_uI q_IM 0 39 0) q_J0, 34, 31630))) 7 (fun _ _ => rfl) ?_
                    exact q_Ru_ret rfl rfl
                  show q_Ru _ _ _ (33, [(0, .ref 64), (1, .int 45)], [.int 0], (q_cM q_AM (q_uI q_IM 0 39 0) q_J0, 34, 31630)) _
                  refine q_Ru_seg (g2 := (190, [(0, .ref 64), (1, .int 45)], [.int 0], (q_cM q_AM (q_uI q_IM 0 39 0) q_J0, 34, 31630))) 18 (fun _ _ => rfl) ?_
                  exact q_Ru_ret rfl rfl
                show q_Ru _ _ _ (22, [(0, .ref 64), (1, .int 3885)], [.int 0], (q_cM q_AM (q_uI q_IM 0 39 0) q_J0, 34, 31630)) _
                exact q_Ru_ret rfl rfl
              show q_Ru _ _ _ (28, [(0, .ref 64), (1, .int 3885)], [.int 0], (q_cM q_AM (q_uI q_IM 0 39 0) q_J0, 34, 31630)) _
              exact q_Ru_ret rfl rfl
          | 46, _, e222 =>
            have e222 : a = 3886 := e222
            subst e222
            refine ⟨0, 0, 0, ⟨(q_cX q_AX q_IX (q_uA q_J0 39 (vp_updL (fun _ => 0) 0 0)), 40, 26520), (q_uA q_J0 39 (vp_updL (fun _ => 0) 0 0)) 39, ?_, rfl, fun _ => rfl, Nat.le_of_ble_eq_true rfl, Nat.le_of_ble_eq_true rfl⟩, ⟨(q_cM q_AM (q_uI q_IM 0 39 0) q_J0, 34, 31630), _, ?_, rfl, rfl, Nat.le_of_ble_eq_true rfl, Nat.le_of_ble_eq_true rfl⟩, fun _ => rfl⟩
            · refine q_Ca_of (Nat.le_of_ble_eq_true rfl) ?_
              refine q_Ru_seg (g2 := (4, [(0, .ref 64), (1, .int 3886), (2, .ref 103)], [.int 3886, .ref 64, .int 0, .ref 103], (q_cX q_AX q_IX q_J0, 40, 26520))) 4 (fun _ _ => rfl) ?_
              refine q_Ru_call (v := (some (.int 0))) (h2 := (q_cX q_AX q_IX q_J0, 40, 26520)) rfl rfl ?_ ?_
              · refine q_Ca_of (Nat.le_of_ble_eq_true rfl) ?_
                refine q_Ru_seg (g2 := (1, [(0, .ref 64), (1, .int 3886)], [.int 3886], (q_cX q_AX q_IX q_J0, 40, 26520))) 1 (fun _ _ => rfl) ?_
                refine q_Ru_call (v := none) (h2 := (q_cX q_AX q_IX q_J0, 40, 26520)) rfl rfl ?_ ?_
                · refine q_Ca_of (Nat.le_of_ble_eq_true rfl) ?_
                  refine q_Ru_seg (g2 := (4, [(0, .int 3886)], [.int 4096, .int 3886], (q_cX q_AX q_IX q_J0, 40, 26520))) 2 (fun _ _ => rfl) ?_
                  refine q_Ru_call (v := none) (h2 := (q_cX q_AX q_IX q_J0, 40, 26520)) rfl rfl ?_ ?_
                  · refine q_Ca_of (Nat.le_of_ble_eq_true rfl) ?_
                    refine q_Ru_seg (g2 := (19, [(0, .int 3886), (1, .int 4096)], [], (q_cX q_AX q_IX q_J0, 40, 26520))) 5 (fun _ _ => rfl) ?_
                    exact q_Ru_ret rfl rfl
                  show q_Ru _ _ _ (7, [(0, .int 3886)], [], (q_cX q_AX q_IX q_J0, 40, 26520)) _
                  exact q_Ru_ret rfl rfl
                show q_Ru _ _ _ (4, [(0, .ref 64), (1, .int 3886)], [], (q_cX q_AX q_IX q_J0, 40, 26520)) _
                refine q_Ru_seg (g2 := (12, [(0, .ref 64), (1, .int 3886)], [.int 3886, .ref 66], (q_cX q_AX q_IX q_J0, 40, 26520))) 4 (fun _ _ => rfl) ?_
                refine q_Ru_call (v := (some (.int 0))) (h2 := (q_cX q_AX q_IX q_J0, 40, 26520)) rfl rfl ?_ ?_
                · refine q_Ca_of (Nat.le_of_ble_eq_true rfl) ?_
                  refine q_Ru_seg (g2 := (27, [(2, .int 46), (0, .ref 66), (1, .int 3886)], [.int 0, .int 46, .ref 66], (q_cX q_AX q_IX q_J0, 40, 26520))) 16 (fun _ _ => rfl) ?_
                  refine q_Ru_call (v := (some (.int 0))) (h2 := (q_cX q_AX q_IX q_J0, 40, 26520)) rfl rfl ?_ ?_
                  · refine q_Ca_of (Nat.le_of_ble_eq_true rfl) ?_
                    refine q_Ru_seg (g2 := (183, [(0, .ref 66), (1, .int 46), (2, .int 0)], [.int 0], (q_cX q_AX q_IX q_J0, 40, 26520))) 3 (fun _ _ => rfl) ?_
                    exact q_Ru_ret rfl rfl
                  show q_Ru _ _ _ (30, [(2, .int 46), (0, .ref 66), (1, .int 3886)], [.int 0], (q_cX q_AX q_IX q_J0, 40, 26520)) _
                  exact q_Ru_ret rfl rfl
                show q_Ru _ _ _ (15, [(0, .ref 64), (1, .int 3886)], [.int 0], (q_cX q_AX q_IX q_J0, 40, 26520)) _
                exact q_Ru_ret rfl rfl
              show q_Ru _ _ _ (7, [(0, .ref 64), (1, .int 3886), (2, .ref 103)], [.int 0, .int 0, .ref 103], (q_cX q_AX q_IX q_J0, 40, 26520)) _
              refine q_Ru_seg (g2 := (16, [(0, .ref 64), (1, .int 3886), (2, .ref 103)], [.int 0], (q_cX q_AX q_IX (q_uA q_J0 39 (vp_updL (fun _ => 0) 0 0)), 40, 26520))) 4 (fun _ _ => rfl) ?_
              exact q_Ru_ret rfl rfl
            · refine q_Ca_of (Nat.le_of_ble_eq_true rfl) ?_
              refine q_Ru_seg (g2 := (2, [(0, .ref 64), (1, .int 3886)], [.int 3886, .ref 64], (q_cM q_AM q_IM q_J0, 34, 31630))) 2 (fun _ _ => rfl) ?_
              refine q_Ru_call (v := (some (.int 0))) (h2 := (q_cM q_AM q_IM q_J0, 34, 31630)) rfl rfl ?_ ?_
              · refine q_Ca_of (Nat.le_of_ble_eq_true rfl) ?_
                refine q_Ru_seg (g2 := (5, [(0, .int 3886)], [.int 4095, .int 0, .int 3886], (q_cM q_AM q_IM q_J0, 34, 31630))) 3 (fun _ _ => rfl) ?_
                refine q_Ru_call (v := (some (.int 1))) (h2 := (q_cM q_AM q_IM q_J0, 34, 31630)) rfl rfl ?_ ?_
                · refine q_Ca_of (Nat.le_of_ble_eq_true rfl) ?_
                  refine q_Ru_seg (g2 := (15, [(0, .int 3886), (1, .int 0), (2, .int 4095)], [.int 1], (q_cM q_AM q_IM q_J0, 34, 31630))) 8 (fun _ _ => rfl) ?_
                  exact q_Ru_ret rfl rfl
                show q_Ru _ _ _ (8, [(0, .int 3886)], [.int 1], (q_cM q_AM q_IM q_J0, 34, 31630)) _
                refine q_Ru_seg (g2 := (16, [(0, .int 3886)], [.int 0], (q_cM q_AM q_IM q_J0, 34, 31630))) 2 (fun _ _ => rfl) ?_
                exact q_Ru_ret rfl rfl
              show q_Ru _ _ _ (5, [(0, .ref 64), (1, .int 3886)], [.int 0, .ref 64], (q_cM q_AM q_IM q_J0, 34, 31630)) _
              refine q_Ru_seg (g2 := (13, [(0, .ref 64), (1, .int 3886)], [.int 0, .ref 64], (q_cM q_AM q_IM q_J0, 34, 31630))) 2 (fun _ _ => rfl) ?_
              refine q_Ru_call (v := (some (.int 0))) (h2 := (q_cM q_AM (q_uI q_IM 0 39 0) q_J0, 34, 31630)) rfl rfl ?_ ?_
              · refine q_Ca_of (Nat.le_of_ble_eq_true rfl) ?_
                refine q_Ru_seg (g2 := (14, [(0, .ref 64), (1, .int 0)], [.int 0], (q_cM q_AM (q_uI q_IM 0 39 0) q_J0, 34, 31630))) 6 (fun _ _ => rfl) ?_
                exact q_Ru_ret rfl rfl
              show q_Ru _ _ _ (16, [(0, .ref 64), (1, .int 3886)], [.int 0], (q_cM q_AM (q_uI q_IM 0 39 0) q_J0, 34, 31630)) _
              refine q_Ru_seg (g2 := (25, [(0, .ref 64), (1, .int 3886)], [.int 3886, .ref 64], (q_cM q_AM (q_uI q_IM 0 39 0) q_J0, 34, 31630))) 3 (fun _ _ => rfl) ?_
              refine q_Ru_call (v := (some (.int 0))) (h2 := (q_cM q_AM (q_uI q_IM 0 39 0) q_J0, 34, 31630)) rfl rfl ?_ ?_
              · refine q_Ca_of (Nat.le_of_ble_eq_true rfl) ?_
                refine q_Ru_seg (g2 := (7, [(0, .ref 64), (1, .int 3886)], [.int 3887, .int 3840, .int 3886], (q_cM q_AM (q_uI q_IM 0 39 0) q_J0, 34, 31630))) 3 (fun _ _ => rfl) ?_
                refine q_Ru_call (v := (some (.int 1))) (h2 := (q_cM q_AM (q_uI q_IM 0 39 0) q_J0, 34, 31630)) rfl rfl ?_ ?_
                · refine q_Ca_of (Nat.le_of_ble_eq_true rfl) ?_
                  refine q_Ru_seg (g2 := (15, [(0, .int 3886), (1, .int 3840), (2, .int 3887)], [.int 1], (q_cM q_AM (q_uI q_IM 0 39 0) q_J0, 34, 31630))) 8 (fun _ _ => rfl) ?_
                  exact q_Ru_ret rfl rfl
                show q_Ru _ _ _ (10, [(0, .ref 64), (1, .int 3886)], [.int 1], (q_cM q_AM (q_uI q_IM 0 39 0) q_J0, 34, 31630)) _
                refine q_Ru_seg (g2 := (19, [(0, .ref 64), (1, .int 3886)], [.int 46, .ref 64], (q_cM q_AM (q_uI q_IM 0 39 0) q_J0, 34, 31630))) 5 (fun _ _ => rfl) ?_
                refine q_Ru_call (v := (some (.int 0))) (h2 := (q_cM q_AM (q_uI q_IM 0 39 0) q_J0, 34, 31630)) rfl rfl ?_ ?_
                · refine q_Ca_of (Nat.le_of_ble_eq_true rfl) ?_
                  refine q_Ru_seg (g2 := (30, [(0, .ref 64), (1, .int 46)], [.int 15, .int 12, .int 46], (q_cM q_AM (q_uI q_IM 0 39 0) q_J0, 34, 31630))) 9 (fun _ _ => rfl) ?_
                  refine q_Ru_call (v := (some (.int 0))) (h2 := (q_cM q_AM (q_uI q_IM 0 39 0) q_J0, 34, 31630)) rfl rfl ?_ ?_
                  · refine q_Ca_of (Nat.le_of_ble_eq_true rfl) ?_
                    refine q_Ru_seg (g2 := (15, [(0, .int 46), (1, .int 12), (2, .int 15)], [.int 0], (q_cM q_AM (q_uI q_IM 0 39 0) q_J0, 34, 31630))) 7 (fun _ _ => rfl) ?_
                    exact q_Ru_ret rfl rfl
                  show q_Ru _ _ _ (33, [(0, .ref 64), (1, .int 46)], [.int 0], (q_cM q_AM (q_uI q_IM 0 39 0) q_J0, 34, 31630)) _
                  refine q_Ru_seg (g2 := (190, [(0, .ref 64), (1, .int 46)], [.int 0], (q_cM q_AM (q_uI q_IM 0 39 0) q_J0, 34, 31630))) 18 (fun _ _ => rfl) ?_
                  exact q_Ru_ret rfl rfl
                show q_Ru _ _ _ (22, [(0, .ref 64), (1, .int 3886)], [.int 0], (q_cM q_AM (q_uI q_IM 0 39 0) q_J0, 34, 31630)) _
                exact q_Ru_ret rfl rfl
              show q_Ru _ _ _ (28, [(0, .ref 64), (1, .int 3886)], [.int 0], (q_cM q_AM (q_uI q_IM 0 39 0) q_J0, 34, 31630)) _
              exact q_Ru_ret rfl rfl
          | 47, _, e222 =>
            have e222 : a = 3887 := e222
            subst e222
            refine ⟨0, 0, 0, ⟨(q_cX q_AX q_IX (q_uA q_J0 39 (vp_updL (fun _ => 0) 0 0)), 40, 26520), (q_uA q_J0 39 (vp_updL (fun _ => 0) 0 0)) 39, ?_, rfl, fun _ => rfl, Nat.le_of_ble_eq_true rfl, Nat.le_of_ble_eq_true rfl⟩, ⟨(q_cM q_AM (q_uI q_IM 0 39 0) q_J0, 34, 31630), _, ?_, rfl, rfl, Nat.le_of_ble_eq_true rfl, Nat.le_of_ble_eq_true rfl⟩, fun _ => rfl⟩
            · refine q_Ca_of (Nat.le_of_ble_eq_true rfl) ?_
              refine q_Ru_seg (g2 := (4, [(0, .ref 64), (1, .int 3887), (2, .ref 103)], [.int 3887, .ref 64, .int 0, .ref 103], (q_cX q_AX q_IX q_J0, 40, 26520))) 4 (fun _ _ => rfl) ?_
              refine q_Ru_call (v := (some (.int 0))) (h2 := (q_cX q_AX q_IX q_J0, 40, 26520)) rfl rfl ?_ ?_
              · refine q_Ca_of (Nat.le_of_ble_eq_true rfl) ?_
                refine q_Ru_seg (g2 := (1, [(0, .ref 64), (1, .int 3887)], [.int 3887], (q_cX q_AX q_IX q_J0, 40, 26520))) 1 (fun _ _ => rfl) ?_
                refine q_Ru_call (v := none) (h2 := (q_cX q_AX q_IX q_J0, 40, 26520)) rfl rfl ?_ ?_
                · refine q_Ca_of (Nat.le_of_ble_eq_true rfl) ?_
                  refine q_Ru_seg (g2 := (4, [(0, .int 3887)], [.int 4096, .int 3887], (q_cX q_AX q_IX q_J0, 40, 26520))) 2 (fun _ _ => rfl) ?_
                  refine q_Ru_call (v := none) (h2 := (q_cX q_AX q_IX q_J0, 40, 26520)) rfl rfl ?_ ?_
                  · refine q_Ca_of (Nat.le_of_ble_eq_true rfl) ?_
                    refine q_Ru_seg (g2 := (19, [(0, .int 3887), (1, .int 4096)], [], (q_cX q_AX q_IX q_J0, 40, 26520))) 5 (fun _ _ => rfl) ?_
                    exact q_Ru_ret rfl rfl
                  show q_Ru _ _ _ (7, [(0, .int 3887)], [], (q_cX q_AX q_IX q_J0, 40, 26520)) _
                  exact q_Ru_ret rfl rfl
                show q_Ru _ _ _ (4, [(0, .ref 64), (1, .int 3887)], [], (q_cX q_AX q_IX q_J0, 40, 26520)) _
                refine q_Ru_seg (g2 := (12, [(0, .ref 64), (1, .int 3887)], [.int 3887, .ref 66], (q_cX q_AX q_IX q_J0, 40, 26520))) 4 (fun _ _ => rfl) ?_
                refine q_Ru_call (v := (some (.int 0))) (h2 := (q_cX q_AX q_IX q_J0, 40, 26520)) rfl rfl ?_ ?_
                · refine q_Ca_of (Nat.le_of_ble_eq_true rfl) ?_
                  refine q_Ru_seg (g2 := (27, [(2, .int 47), (0, .ref 66), (1, .int 3887)], [.int 0, .int 47, .ref 66], (q_cX q_AX q_IX q_J0, 40, 26520))) 16 (fun _ _ => rfl) ?_
                  refine q_Ru_call (v := (some (.int 0))) (h2 := (q_cX q_AX q_IX q_J0, 40, 26520)) rfl rfl ?_ ?_
                  · refine q_Ca_of (Nat.le_of_ble_eq_true rfl) ?_
                    refine q_Ru_seg (g2 := (183, [(0, .ref 66), (1, .int 47), (2, .int 0)], [.int 0], (q_cX q_AX q_IX q_J0, 40, 26520))) 3 (fun _ _ => rfl) ?_
                    exact q_Ru_ret rfl rfl
                  show q_Ru _ _ _ (30, [(2, .int 47), (0, .ref 66), (1, .int 3887)], [.int 0], (q_cX q_AX q_IX q_J0, 40, 26520)) _
                  exact q_Ru_ret rfl rfl
                show q_Ru _ _ _ (15, [(0, .ref 64), (1, .int 3887)], [.int 0], (q_cX q_AX q_IX q_J0, 40, 26520)) _
                exact q_Ru_ret rfl rfl
              show q_Ru _ _ _ (7, [(0, .ref 64), (1, .int 3887), (2, .ref 103)], [.int 0, .int 0, .ref 103], (q_cX q_AX q_IX q_J0, 40, 26520)) _
              refine q_Ru_seg (g2 := (16, [(0, .ref 64), (1, .int 3887), (2, .ref 103)], [.int 0], (q_cX q_AX q_IX (q_uA q_J0 39 (vp_updL (fun _ => 0) 0 0)), 40, 26520))) 4 (fun _ _ => rfl) ?_
              exact q_Ru_ret rfl rfl
            · refine q_Ca_of (Nat.le_of_ble_eq_true rfl) ?_
              refine q_Ru_seg (g2 := (2, [(0, .ref 64), (1, .int 3887)], [.int 3887, .ref 64], (q_cM q_AM q_IM q_J0, 34, 31630))) 2 (fun _ _ => rfl) ?_
              refine q_Ru_call (v := (some (.int 0))) (h2 := (q_cM q_AM q_IM q_J0, 34, 31630)) rfl rfl ?_ ?_
              · refine q_Ca_of (Nat.le_of_ble_eq_true rfl) ?_
                refine q_Ru_seg (g2 := (5, [(0, .int 3887)], [.int 4095, .int 0, .int 3887], (q_cM q_AM q_IM q_J0, 34, 31630))) 3 (fun _ _ => rfl) ?_
                refine q_Ru_call (v := (some (.int 1))) (h2 := (q_cM q_AM q_IM q_J0, 34, 31630)) rfl rfl ?_ ?_
                · refine q_Ca_of (Nat.le_of_ble_eq_true rfl) ?_
                  refine q_Ru_seg (g2 := (15, [(0, .int 3887), (1, .int 0), (2, .int 4095)], [.int 1], (q_cM q_AM q_IM q_J0, 34, 31630))) 8 (fun _ _ => rfl) ?_
                  exact q_Ru_ret rfl rfl
                show q_Ru _ _ _ (8, [(0, .int 3887)], [.int 1], (q_cM q_AM q_IM q_J0, 34, 31630)) _
                refine q_Ru_seg (g2 := (16, [(0, .int 3887)], [.int 0], (q_cM q_AM q_IM q_J0, 34, 31630))) 2 (fun _ _ => rfl) ?_
                exact q_Ru_ret rfl rfl
              show q_Ru _ _ _ (5, [(0, .ref 64), (1, .int 3887)], [.int 0, .ref 64], (q_cM q_AM q_IM q_J0, 34, 31630)) _
              refine q_Ru_seg (g2 := (13, [(0, .ref 64), (1, .int 3887)], [.int 0, .ref 64], (q_cM q_AM q_IM q_J0, 34, 31630))) 2 (fun _ _ => rfl) ?_
              refine q_Ru_call (v := (some (.int 0))) (h2 := (q_cM q_AM (q_uI q_IM 0 39 0) q_J0, 34, 31630)) rfl rfl ?_ ?_
              · refine q_Ca_of (Nat.le_of_ble_eq_true rfl) ?_
                refine q_Ru_seg (g2 := (14, [(0, .ref 64), (1, .int 0)], [.int 0], (q_cM q_AM (q_uI q_IM 0 39 0) q_J0, 34, 31630))) 6 (fun _ _ => rfl) ?_
                exact q_Ru_ret rfl rfl
              show q_Ru _ _ _ (16, [(0, .ref 64), (1, .int 3887)], [.int 0], (q_cM q_AM (q_uI q_IM 0 39 0) q_J0, 34, 31630)) _
              refine q_Ru_seg (g2 := (25, [(0, .ref 64), (1, .int 3887)], [.int 3887, .ref 64], (q_cM q_AM (q_uI q_IM 0 39 0) q_J0, 34, 31630))) 3 (fun _ _ => rfl) ?_
              refine q_Ru_call (v := (some (.int 0))) (h2 := (q_cM q_AM (q_uI q_IM 0 39 0) q_J0, 34, 31630)) rfl rfl ?_ ?_
              · refine q_Ca_of (Nat.le_of_ble_eq_true rfl) ?_
                refine q_Ru_seg (g2 := (7, [(0, .ref 64), (1, .int 3887)], [.int 3887, .int 3840, .int 3887], (q_cM q_AM (q_uI q_IM 0 39 0) q_J0, 34, 31630))) 3 (fun _ _ => rfl) ?_
                refine q_Ru_call (v := (some (.int 1))) (h2 := (q_cM q_AM (q_uI q_IM 0 39 0) q_J0, 34, 31630)) rfl rfl ?_ ?_
                · refine q_Ca_of (Nat.le_of_ble_eq_true rfl) ?_
                  refine q_Ru_seg (g2 := (15, [(0, .int 3887), (1, .int 3840), (2, .int 3887)], [.int 1], (q_cM q_AM (q_uI q_IM 0 39 0) q_J0, 34, 31630))) 8 (fun _ _ => rfl) ?_
                  exact q_Ru_ret rfl rfl
                show q_Ru _ _ _ (10, [(0, .ref 64), (1, .int 3887)], [.int 1], (q_cM q_AM (q_uI q_IM 0 39 0) q_J0, 34, 31630)) _
                refine q_Ru_seg (g2 := (19, [(0, .ref 64), (1, .int 3887)], [.int 47, .ref 64], (q_cM q_AM (q_uI q_IM 0 39 0) q_J0, 34, 31630))) 5 (fun _ _ => rfl) ?_
                refine q_Ru_call (v := (some (.int 0))) (h2 := (q_cM q_AM (q_uI q_IM 0 39 0) q_J0, 34, 31630)) rfl rfl ?_ ?_
                · refine q_Ca_of (Nat.le_of_ble_eq_true rfl) ?_
                  refine q_Ru_seg (g2 := (30, [(0, .ref 64), (1, .int 47)], [.int 15, .int 12, .int 47], (q_cM q_AM (q_uI q_IM 0 39 0) q_J0, 34, 31630))) 9 (fun _ _ => rfl) ?_
                  refine q_Ru_call (v := (some (.int 0))) (h2 := (q_cM q_AM (q_uI q_IM 0 39 0) q_J0, 34, 31630)) rfl rfl ?_ ?_
                  · refine q_Ca_of (Nat.le_of_ble_eq_true rfl) ?_
                    refine q_Ru_seg (g2 := (15, [(0, .int 47), (1, .int 12), (2, .int 15)], [.int 0], (q_cM q_AM (q_uI q_IM 0 39 0) q_J0, 34, 31630))) 7 (fun _ _ => rfl) ?_
                    exact q_Ru_ret rfl rfl
                  show q_Ru _ _ _ (33, [(0, .ref 64), (1, .int 47)], [.int 0], (q_cM q_AM (q_uI q_IM 0 39 0) q_J0, 34, 31630)) _
                  refine q_Ru_seg (g2 := (190, [(0, .ref 64), (1, .int 47)], [.int 0], (q_cM q_AM (q_uI q_IM 0 39 0) q_J0, 34, 31630))) 18 (fun _ _ => rfl) ?_
                  exact q_Ru_ret rfl rfl
                show q_Ru _ _ _ (22, [(0, .ref 64), (1, .int 3887)], [.int 0], (q_cM q_AM (q_uI q_IM 0 39 0) q_J0, 34, 31630)) _
                exact q_Ru_ret rfl rfl
              show q_Ru _ _ _ (28, [(0, .ref 64), (1, .int 3887)], [.int 0], (q_cM q_AM (q_uI q_IM 0 39 0) q_J0, 34, 31630)) _
              exact q_Ru_ret rfl rfl
          | j222 + 48, g222, _ => exact absurd g222 (by omega)
        | false =>
          cases h223 : decide (4095 < a) with
          | true =>
            exact q_no (q_lo2 h223) (q_hi1 h209) (by decide)
          | false =>
            cases h224 : decide (a < 3840) with
            | true =>
              exact q_no (q_sub_lo 3888 (q_lo1 h221) (q_sub_lo 3840 (q_lo1 h210) (q_lo1 h208) (q_hi1 h209)) (q_hi1 h209)) (q_hi1 h224) (by decide)
            | false =>
              cases h225 : decide (3887 < a) with
              | true =>
                cases h226 : decide (a < 3072) with
                | true =>
                  exact q_no (q_sub_lo 3888 (q_lo1 h221) (q_sub_lo 3840 (q_lo1 h210) (q_lo1 h208) (q_hi1 h209)) (q_hi1 h209)) (q_hi1 h226) (by decide)
                | false =>
                  cases h227 : decide (3583 < a) with
                  | true =>
                    cases h228 : decide (a < 2048) with
                    | true =>
                      exact q_no (q_sub_lo 3888 (q_lo1 h221) (q_sub_lo 3840 (q_lo1 h210) (q_lo1 h208) (q_hi1 h209)) (q_hi1 h209)) (q_hi1 h228) (by decide)
                    | false =>
                      cases h229 : decide (2559 < a) with
                      | true =>
                        refine ⟨0, 0, 0, ⟨(q_cX q_AX q_IX (q_uA q_J0 39 (vp_updL (fun _ => 0) 0 0)), 40, 26520), (q_uA q_J0 39 (vp_updL (fun _ => 0) 0 0)) 39, ?_, rfl, fun _ => rfl, Nat.le_of_ble_eq_true rfl, Nat.le_of_ble_eq_true rfl⟩, ⟨(q_cM q_AM (q_uI q_IM 0 39 0) q_J0, 34, 31630), _, ?_, rfl, rfl, Nat.le_of_ble_eq_true rfl, Nat.le_of_ble_eq_true rfl⟩, fun _ => rfl⟩
                        · refine q_Ca_of (Nat.le_of_ble_eq_true rfl) ?_
                          refine q_Ru_seg (g2 := (4, [(0, .ref 64), (1, .int a), (2, .ref 103)], [.int a, .ref 64, .int 0, .ref 103], (q_cX q_AX q_IX q_J0, 40, 26520))) 4 (fun _ _ => rfl) ?_
                          refine q_Ru_call (v := (some (.int 0))) (h2 := (q_cX q_AX q_IX q_J0, 40, 26520)) rfl rfl ?_ ?_
                          · refine q_Ca_of (Nat.le_of_ble_eq_true rfl) ?_
                            refine q_Ru_seg (g2 := (1, [(0, .ref 64), (1, .int a)], [.int a], (q_cX q_AX q_IX q_J0, 40, 26520))) 1 (fun _ _ => rfl) ?_
                            refine q_Ru_call (v := none) (h2 := (q_cX q_AX q_IX q_J0, 40, 26520)) rfl rfl ?_ ?_
                            · refine q_Ca_of (Nat.le_of_ble_eq_true rfl) ?_
                              refine q_Ru_seg (g2 := (4, [(0, .int a)], [.int 4096, .int a], (q_cX q_AX q_IX q_J0, 40, 26520))) 2 (fun _ _ => rfl) ?_
                              refine q_Ru_call (v := none) (h2 := (q_cX q_AX q_IX q_J0, 40, 26520)) rfl rfl ?_ ?_
                              · refine q_Ca_of (Nat.le_of_ble_eq_true rfl) ?_
                                refine q_Ru_seg (g2 := (1, [(0, .int a), (1, .int 4096)], [.int a], (q_cX q_AX q_IX q_J0, 40, 26520))) 1 (fun _ _ => rfl) ?_
                                refine q_Ru_rsF (g2 := (4, [(0, .int a), (1, .int 4096)], [], (q_cX q_AX q_IX q_J0, 40, 26520))) rfl rfl h208 ?_
                                refine q_Ru_seg (g2 := (6, [(0, .int a), (1, .int 4096)], [.int 4096, .int a], (q_cX q_AX q_IX q_J0, 40, 26520))) 2 (fun _ _ => rfl) ?_
                                refine q_Ru_rsT (g2 := (19, [(0, .int a), (1, .int 4096)], [], (q_cX q_AX q_IX q_J0, 40, 26520))) rfl rfl h209 ?_
                                exact q_Ru_ret rfl rfl
                              show q_Ru _ _ _ (7, [(0, .int a)], [], (q_cX q_AX q_IX q_J0, 40, 26520)) _
                              exact q_Ru_ret rfl rfl
                            show q_Ru _ _ _ (4, [(0, .ref 64), (1, .int a)], [], (q_cX q_AX q_IX q_J0, 40, 26520)) _
                            refine q_Ru_seg (g2 := (12, [(0, .ref 64), (1, .int a)], [.int a, .ref 66], (q_cX q_AX q_IX q_J0, 40, 26520))) 4 (fun _ _ => rfl) ?_
                            refine q_Ru_call (v := (some (.int 0))) (h2 := (q_cX q_AX q_IX q_J0, 40, 26520)) rfl rfl ?_ ?_
                            · refine q_Ca_of (Nat.le_of_ble_eq_true rfl) ?_
                              refine q_Ru_seg (g2 := (7, [(2, .int (a - 3840)), (0, .ref 66), (1, .int a)], [.int (a - 3840)], (q_cX q_AX q_IX q_J0, 40, 26520))) 5 (fun _ _ => rfl) ?_
                              refine q_Ru_rsF (g2 := (10, [(2, .int (a - 3840)), (0, .ref 66), (1, .int a)], [], (q_cX q_AX q_IX q_J0, 40, 26520))) rfl rfl h210 ?_
                              refine q_Ru_seg (g2 := (13, [(2, .int (a - 3840)), (0, .ref 66), (1, .int a)], [.int 48, .int (a - 3840)], (q_cX q_AX q_IX q_J0, 40, 26520))) 2 (fun _ _ => rfl) ?_
                              refine q_Ru_rsT (g2 := (31, [(2, .int (a - 3840)), (0, .ref 66), (1, .int a)], [], (q_cX q_AX q_IX q_J0, 40, 26520))) rfl rfl (q_d_geF h221) ?_
                              refine q_Ru_seg (g2 := (127, [(3, .int 0), (2, .int (a - 3840)), (0, .ref 66), (1, .int a)], [.int (a &&& 4095), .ref 68], (q_cX q_AX q_IX q_J0, 40, 26520))) 22 (fun _ _ => rfl) ?_
                              refine q_Ru_rsT (g2 := (128, [(3, .int 0), (2, .int (a - 3840)), (0, .ref 66), (1, .int a)], [.int 0], (q_cX q_AX q_IX q_J0, 40, 26520))) rfl rfl (q_in_bd (x := a &&& 4095) (n := 4096) (U := 4095) (L := 0) (q_and_lo a 4095) (q_and_hi a 4095 4095)) ?_
                              exact q_Ru_ret rfl rfl
                            show q_Ru _ _ _ (15, [(0, .ref 64), (1, .int a)], [.int 0], (q_cX q_AX q_IX q_J0, 40, 26520)) _
                            exact q_Ru_ret rfl rfl
                          show q_Ru _ _ _ (7, [(0, .ref 64), (1, .int a), (2, .ref 103)], [.int 0, .int 0, .ref 103], (q_cX q_AX q_IX q_J0, 40, 26520)) _
                          refine q_Ru_seg (g2 := (16, [(0, .ref 64), (1, .int a), (2, .ref 103)], [.int 0], (q_cX q_AX q_IX (q_uA q_J0 39 (vp_updL (fun _ => 0) 0 0)), 40, 26520))) 4 (fun _ _ => rfl) ?_
                          exact q_Ru_ret rfl rfl
                        · refine q_Ca_of (Nat.le_of_ble_eq_true rfl) ?_
                          refine q_Ru_seg (g2 := (2, [(0, .ref 64), (1, .int a)], [.int a, .ref 64], (q_cM q_AM q_IM q_J0, 34, 31630))) 2 (fun _ _ => rfl) ?_
                          refine q_Ru_call (v := (some (.int 0))) (h2 := (q_cM q_AM q_IM q_J0, 34, 31630)) rfl rfl ?_ ?_
                          · refine q_Ca_of (Nat.le_of_ble_eq_true rfl) ?_
                            refine q_Ru_seg (g2 := (5, [(0, .int a)], [.int 4095, .int 0, .int a], (q_cM q_AM q_IM q_J0, 34, 31630))) 3 (fun _ _ => rfl) ?_
                            refine q_Ru_call (v := (some (.int 1))) (h2 := (q_cM q_AM q_IM q_J0, 34, 31630)) rfl rfl ?_ ?_
                            · refine q_Ca_of (Nat.le_of_ble_eq_true rfl) ?_
                              refine q_Ru_seg (g2 := (2, [(0, .int a), (1, .int 0), (2, .int 4095)], [.int 0, .int a], (q_cM q_AM q_IM q_J0, 34, 31630))) 2 (fun _ _ => rfl) ?_
                              refine q_Ru_rsF (g2 := (5, [(0, .int a), (1, .int 0), (2, .int 4095)], [], (q_cM q_AM q_IM q_J0, 34, 31630))) rfl rfl h208 ?_
                              refine q_Ru_seg (g2 := (7, [(0, .int a), (1, .int 0), (2, .int 4095)], [.int 4095, .int a], (q_cM q_AM q_IM q_J0, 34, 31630))) 2 (fun _ _ => rfl) ?_
                              refine q_Ru_rsF (g2 := (10, [(0, .int a), (1, .int 0), (2, .int 4095)], [], (q_cM q_AM q_IM q_J0, 34, 31630))) rfl rfl h223 ?_
                              refine q_Ru_seg (g2 := (15, [(0, .int a), (1, .int 0), (2, .int 4095)], [.int 1], (q_cM q_AM q_IM q_J0, 34, 31630))) 2 (fun _ _ => rfl) ?_
                              exact q_Ru_ret rfl rfl
                            show q_Ru _ _ _ (8, [(0, .int a)], [.int 1], (q_cM q_AM q_IM q_J0, 34, 31630)) _
                            refine q_Ru_seg (g2 := (16, [(0, .int a)], [.int 0], (q_cM q_AM q_IM q_J0, 34, 31630))) 2 (fun _ _ => rfl) ?_
                            exact q_Ru_ret rfl rfl
                          show q_Ru _ _ _ (5, [(0, .ref 64), (1, .int a)], [.int 0, .ref 64], (q_cM q_AM q_IM q_J0, 34, 31630)) _
                          refine q_Ru_seg (g2 := (13, [(0, .ref 64), (1, .int a)], [.int 0, .ref 64], (q_cM q_AM q_IM q_J0, 34, 31630))) 2 (fun _ _ => rfl) ?_
                          refine q_Ru_call (v := (some (.int 0))) (h2 := (q_cM q_AM (q_uI q_IM 0 39 0) q_J0, 34, 31630)) rfl rfl ?_ ?_
                          · refine q_Ca_of (Nat.le_of_ble_eq_true rfl) ?_
                            refine q_Ru_seg (g2 := (14, [(0, .ref 64), (1, .int 0)], [.int 0], (q_cM q_AM (q_uI q_IM 0 39 0) q_J0, 34, 31630))) 6 (fun _ _ => rfl) ?_
                            exact q_Ru_ret rfl rfl
                          show q_Ru _ _ _ (16, [(0, .ref 64), (1, .int a)], [.int 0], (q_cM q_AM (q_uI q_IM 0 39 0) q_J0, 34, 31630)) _
                          refine q_Ru_seg (g2 := (25, [(0, .ref 64), (1, .int a)], [.int a, .ref 64], (q_cM q_AM (q_uI q_IM 0 39 0) q_J0, 34, 31630))) 3 (fun _ _ => rfl) ?_
                          refine q_Ru_call (v := (some (.int 0))) (h2 := (q_cM q_AM (q_uI q_IM 0 39 0) q_J0, 34, 31630)) rfl rfl ?_ ?_
                          · refine q_Ca_of (Nat.le_of_ble_eq_true rfl) ?_
                            refine q_Ru_seg (g2 := (7, [(0, .ref 64), (1, .int a)], [.int 3887, .int 3840, .int a], (q_cM q_AM (q_uI q_IM 0 39 0) q_J0, 34, 31630))) 3 (fun _ _ => rfl) ?_
                            refine q_Ru_call (v := (some (.int 0))) (h2 := (q_cM q_AM (q_uI q_IM 0 39 0) q_J0, 34, 31630)) rfl rfl ?_ ?_
                            · refine q_Ca_of (Nat.le_of_ble_eq_true rfl) ?_
                              refine q_Ru_seg (g2 := (2, [(0, .int a), (1, .int 3840), (2, .int 3887)], [.int 3840, .int a], (q_cM q_AM (q_uI q_IM 0 39 0) q_J0, 34, 31630))) 2 (fun _ _ => rfl) ?_
                              refine q_Ru_rsF (g2 := (5, [(0, .int a), (1, .int 3840), (2, .int 3887)], [], (q_cM q_AM (q_uI q_IM 0 39 0) q_J0, 34, 31630))) rfl rfl h224 ?_
                              refine q_Ru_seg (g2 := (7, [(0, .int a), (1, .int 3840), (2, .int 3887)], [.int 3887, .int a], (q_cM q_AM (q_uI q_IM 0 39 0) q_J0, 34, 31630))) 2 (fun _ _ => rfl) ?_
                              refine q_Ru_rsT (g2 := (14, [(0, .int a), (1, .int 3840), (2, .int 3887)], [], (q_cM q_AM (q_uI q_IM 0 39 0) q_J0, 34, 31630))) rfl rfl h225 ?_
                              refine q_Ru_seg (g2 := (15, [(0, .int a), (1, .int 3840), (2, .int 3887)], [.int 0], (q_cM q_AM (q_uI q_IM 0 39 0) q_J0, 34, 31630))) 1 (fun _ _ => rfl) ?_
                              exact q_Ru_ret rfl rfl
                            show q_Ru _ _ _ (10, [(0, .ref 64), (1, .int a)], [.int 0], (q_cM q_AM (q_uI q_IM 0 39 0) q_J0, 34, 31630)) _
                            refine q_Ru_seg (g2 := (30, [(0, .ref 64), (1, .int a)], [.int 3583, .int 3072, .int a], (q_cM q_AM (q_uI q_IM 0 39 0) q_J0, 34, 31630))) 4 (fun _ _ => rfl) ?_
                            refine q_Ru_call (v := (some (.int 0))) (h2 := (q_cM q_AM (q_uI q_IM 0 39 0) q_J0, 34, 31630)) rfl rfl ?_ ?_
                            · refine q_Ca_of (Nat.le_of_ble_eq_true rfl) ?_
                              refine q_Ru_seg (g2 := (2, [(0, .int a), (1, .int 3072), (2, .int 3583)], [.int 3072, .int a], (q_cM q_AM (q_uI q_IM 0 39 0) q_J0, 34, 31630))) 2 (fun _ _ => rfl) ?_
                              refine q_Ru_rsF (g2 := (5, [(0, .int a), (1, .int 3072), (2, .int 3583)], [], (q_cM q_AM (q_uI q_IM 0 39 0) q_J0, 34, 31630))) rfl rfl h226 ?_
                              refine q_Ru_seg (g2 := (7, [(0, .int a), (1, .int 3072), (2, .int 3583)], [.int 3583, .int a], (q_cM q_AM (q_uI q_IM 0 39 0) q_J0, 34, 31630))) 2 (fun _ _ => rfl) ?_
                              refine q_Ru_rsT (g2 := (14, [(0, .int a), (1, .int 3072), (2, .int 3583)], [], (q_cM q_AM (q_uI q_IM 0 39 0) q_J0, 34, 31630))) rfl rfl h227 ?_
                              refine q_Ru_seg (g2 := (15, [(0, .int a), (1, .int 3072), (2, .int 3583)], [.int 0], (q_cM q_AM (q_uI q_IM 0 39 0) q_J0, 34, 31630))) 1 (fun _ _ => rfl) ?_
                              exact q_Ru_ret rfl rfl
                            show q_Ru _ _ _ (33, [(0, .ref 64), (1, .int a)], [.int 0], (q_cM q_AM (q_uI q_IM 0 39 0) q_J0, 34, 31630)) _
                            refine q_Ru_seg (g2 := (67, [(0, .ref 64), (1, .int a)], [.int 2559, .int 2048, .int a], (q_cM q_AM (q_uI q_IM 0 39 0) q_J0, 34, 31630))) 4 (fun _ _ => rfl) ?_
                            refine q_Ru_call (v := (some (.int 0))) (h2 := (q_cM q_AM (q_uI q_IM 0 39 0) q_J0, 34, 31630)) rfl rfl ?_ ?_
                            · refine q_Ca_of (Nat.le_of_ble_eq_true rfl) ?_
                              refine q_Ru_seg (g2 := (2, [(0, .int a), (1, .int 2048), (2, .int 2559)], [.int 2048, .int a], (q_cM q_AM (q_uI q_IM 0 39 0) q_J0, 34, 31630))) 2 (fun _ _ => rfl) ?_
                              refine q_Ru_rsF (g2 := (5, [(0, .int a), (1, .int 2048), (2, .int 2559)], [], (q_cM q_AM (q_uI q_IM 0 39 0) q_J0, 34, 31630))) rfl rfl h228 ?_
                              refine q_Ru_seg (g2 := (7, [(0, .int a), (1, .int 2048), (2, .int 2559)], [.int 2559, .int a], (q_cM q_AM (q_uI q_IM 0 39 0) q_J0, 34, 31630))) 2 (fun _ _ => rfl) ?_
                              refine q_Ru_rsT (g2 := (14, [(0, .int a), (1, .int 2048), (2, .int 2559)], [], (q_cM q_AM (q_uI q_IM 0 39 0) q_J0, 34, 31630))) rfl rfl h229 ?_
                              refine q_Ru_seg (g2 := (15, [(0, .int a), (1, .int 2048), (2, .int 2559)], [.int 0], (q_cM q_AM (q_uI q_IM 0 39 0) q_J0, 34, 31630))) 1 (fun _ _ => rfl) ?_
                              exact q_Ru_ret rfl rfl
                            show q_Ru _ _ _ (70, [(0, .ref 64), (1, .int a)], [.int 0], (q_cM q_AM (q_uI q_IM 0 39 0) q_J0, 34, 31630)) _
                            refine q_Ru_seg (g2 := (115, [(0, .ref 64), (1, .int a)], [.int a, .ref 65], (q_cM q_AM (q_uI q_IM 0 39 0) q_J0, 34, 31630))) 4 (fun _ _ => rfl) ?_
                            refine q_Ru_rsT (g2 := (116, [(0, .ref 64), (1, .int a)], [.int 0], (q_cM q_AM (q_uI q_IM 0 39 0) q_J0, 34, 31630))) rfl rfl (q_in_bd (x := a) (n := 4096) (U := 4095) (L := 3888) (q_sub_lo 3888 (q_lo1 h221) (q_sub_lo 3840 (q_lo1 h210) (q_lo1 h208) (q_hi1 h209)) (q_hi1 h209)) (q_hi1 h209)) ?_
                            exact q_Ru_ret rfl rfl
                          show q_Ru _ _ _ (28, [(0, .ref 64), (1, .int a)], [.int 0], (q_cM q_AM (q_uI q_IM 0 39 0) q_J0, 34, 31630)) _
                          exact q_Ru_ret rfl rfl
                      | false =>
                        exact q_no (q_sub_lo 3888 (q_lo1 h221) (q_sub_lo 3840 (q_lo1 h210) (q_lo1 h208) (q_hi1 h209)) (q_hi1 h209)) (q_hi2 h229) (by decide)
                  | false =>
                    exact q_no (q_sub_lo 3888 (q_lo1 h221) (q_sub_lo 3840 (q_lo1 h210) (q_lo1 h208) (q_hi1 h209)) (q_hi1 h209)) (q_hi2 h227) (by decide)
              | false =>
                exact q_no (q_sub_lo 3888 (q_lo1 h221) (q_sub_lo 3840 (q_lo1 h210) (q_lo1 h208) (q_hi1 h209)) (q_hi1 h209)) (q_hi2 h225) (by decide)
    | false =>
      cases h230 : decide (4095 < a) with
      | true =>
        refine ⟨1, 0, 0, ⟨(q_cX q_AX q_IX q_J0, 40 + 1, 26520 + 6), q_J0 39, ?_, rfl, fun h => absurd h (by decide), Nat.le_of_ble_eq_true rfl, Nat.le_of_ble_eq_true rfl⟩, ⟨(q_cM q_AM (q_uI q_IM 0 39 1) q_J0, 34, 31630), _, ?_, rfl, rfl, Nat.le_of_ble_eq_true rfl, Nat.le_of_ble_eq_true rfl⟩, fun h => absurd h (by decide)⟩
        · refine q_Ca_of (Nat.le_of_ble_eq_true rfl) ?_
          refine q_Ru_seg (g2 := (4, [(0, .ref 64), (1, .int a), (2, .ref 103)], [.int a, .ref 64, .int 0, .ref 103], (q_cX q_AX q_IX q_J0, 40, 26520))) 4 (fun _ _ => rfl) ?_
          refine q_Ru_callH (E := "java/lang/IndexOutOfBoundsException") (tg := 13) (i := 3) (h2 := (q_cX q_AX q_IX q_J0, 40 + 1, 26520 + 6)) rfl rfl ?_ rfl ?_
          · refine q_Ca_of (Nat.le_of_ble_eq_true rfl) ?_
            refine q_Ru_seg (g2 := (1, [(0, .ref 64), (1, .int a)], [.int a], (q_cX q_AX q_IX q_J0, 40, 26520))) 1 (fun _ _ => rfl) ?_
            refine q_Ru_callX (E := "java/lang/IndexOutOfBoundsException") (h2 := (q_cX q_AX q_IX q_J0, 40 + 1, 26520 + 6)) rfl rfl ?_
            refine q_Ca_of (Nat.le_of_ble_eq_true rfl) ?_
            refine q_Ru_seg (g2 := (4, [(0, .int a)], [.int 4096, .int a], (q_cX q_AX q_IX q_J0, 40, 26520))) 2 (fun _ _ => rfl) ?_
            refine q_Ru_callX (E := "java/lang/IndexOutOfBoundsException") (h2 := (q_cX q_AX q_IX q_J0, 40 + 1, 26520 + 6)) rfl rfl ?_
            refine q_Ca_of (Nat.le_of_ble_eq_true rfl) ?_
            refine q_Ru_seg (g2 := (1, [(0, .int a), (1, .int 4096)], [.int a], (q_cX q_AX q_IX q_J0, 40, 26520))) 1 (fun _ _ => rfl) ?_
            refine q_Ru_rsF (g2 := (4, [(0, .int a), (1, .int 4096)], [], (q_cX q_AX q_IX q_J0, 40, 26520))) rfl rfl h208 ?_
            refine q_Ru_seg (g2 := (6, [(0, .int a), (1, .int 4096)], [.int 4096, .int a], (q_cX q_AX q_IX q_J0, 40, 26520))) 2 (fun _ _ => rfl) ?_
            refine q_Ru_rsF (g2 := (9, [(0, .int a), (1, .int 4096)], [], (q_cX q_AX q_IX q_J0, 40, 26520))) rfl rfl h209 ?_
            exact q_Ru_thr rfl rfl
          show q_Ru _ _ _ (13, [(0, .ref 64), (1, .int a), (2, .ref 103)], [], (q_cX q_AX q_IX q_J0, 40 + 1, 26520 + 6)) _
          refine q_Ru_seg (g2 := (14, [(0, .ref 64), (1, .int a), (2, .ref 103)], [.int 1], (q_cX q_AX q_IX q_J0, 40 + 1, 26520 + 6))) 1 (fun _ _ => rfl) ?_
          exact q_Ru_ret rfl rfl
        · refine q_Ca_of (Nat.le_of_ble_eq_true rfl) ?_
          refine q_Ru_seg (g2 := (2, [(0, .ref 64), (1, .int a)], [.int a, .ref 64], (q_cM q_AM q_IM q_J0, 34, 31630))) 2 (fun _ _ => rfl) ?_
          refine q_Ru_call (v := (some (.int 1))) (h2 := (q_cM q_AM q_IM q_J0, 34, 31630)) rfl rfl ?_ ?_
          · refine q_Ca_of (Nat.le_of_ble_eq_true rfl) ?_
            refine q_Ru_seg (g2 := (5, [(0, .int a)], [.int 4095, .int 0, .int a], (q_cM q_AM q_IM q_J0, 34, 31630))) 3 (fun _ _ => rfl) ?_
            refine q_Ru_call (v := (some (.int 0))) (h2 := (q_cM q_AM q_IM q_J0, 34, 31630)) rfl rfl ?_ ?_
            · refine q_Ca_of (Nat.le_of_ble_eq_true rfl) ?_
              refine q_Ru_seg (g2 := (2, [(0, .int a), (1, .int 0), (2, .int 4095)], [.int 0, .int a], (q_cM q_AM q_IM q_J0, 34, 31630))) 2 (fun _ _ => rfl) ?_
              refine q_Ru_rsF (g2 := (5, [(0, .int a), (1, .int 0), (2, .int 4095)], [], (q_cM q_AM q_IM q_J0, 34, 31630))) rfl rfl h208 ?_
              refine q_Ru_seg (g2 := (7, [(0, .int a), (1, .int 0), (2, .int 4095)], [.int 4095, .int a], (q_cM q_AM q_IM q_J0, 34, 31630))) 2 (fun _ _ => rfl) ?_
              refine q_Ru_rsT (g2 := (14, [(0, .int a), (1, .int 0), (2, .int 4095)], [], (q_cM q_AM q_IM q_J0, 34, 31630))) rfl rfl h230 ?_
              refine q_Ru_seg (g2 := (15, [(0, .int a), (1, .int 0), (2, .int 4095)], [.int 0], (q_cM q_AM q_IM q_J0, 34, 31630))) 1 (fun _ _ => rfl) ?_
              exact q_Ru_ret rfl rfl
            show q_Ru _ _ _ (8, [(0, .int a)], [.int 0], (q_cM q_AM q_IM q_J0, 34, 31630)) _
            refine q_Ru_seg (g2 := (16, [(0, .int a)], [.int 1], (q_cM q_AM q_IM q_J0, 34, 31630))) 3 (fun _ _ => rfl) ?_
            exact q_Ru_ret rfl rfl
          show q_Ru _ _ _ (5, [(0, .ref 64), (1, .int a)], [.int 1, .ref 64], (q_cM q_AM q_IM q_J0, 34, 31630)) _
          refine q_Ru_seg (g2 := (13, [(0, .ref 64), (1, .int a)], [.int 1, .ref 64], (q_cM q_AM q_IM q_J0, 34, 31630))) 3 (fun _ _ => rfl) ?_
          refine q_Ru_call (v := (some (.int 1))) (h2 := (q_cM q_AM (q_uI q_IM 0 39 1) q_J0, 34, 31630)) rfl rfl ?_ ?_
          · refine q_Ca_of (Nat.le_of_ble_eq_true rfl) ?_
            refine q_Ru_seg (g2 := (14, [(0, .ref 64), (1, .int 1)], [.int 1], (q_cM q_AM (q_uI q_IM 0 39 1) q_J0, 34, 31630))) 7 (fun _ _ => rfl) ?_
            exact q_Ru_ret rfl rfl
          show q_Ru _ _ _ (16, [(0, .ref 64), (1, .int a)], [.int 1], (q_cM q_AM (q_uI q_IM 0 39 1) q_J0, 34, 31630)) _
          refine q_Ru_seg (g2 := (28, [(0, .ref 64), (1, .int a)], [.int 0], (q_cM q_AM (q_uI q_IM 0 39 1) q_J0, 34, 31630))) 3 (fun _ _ => rfl) ?_
          exact q_Ru_ret rfl rfl
      | false =>
        exact q_no (q_lo1 h209) (q_hi2 h230) (by decide)
