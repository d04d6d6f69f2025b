set_option maxRecDepth 100000 in
theorem q_t_columns : (List.range 16).all (fun i => (q_ckO (q_eX 30000 19 (.ref 64 :: ([.int (Int32.ofInt (0 + (i : Int)))] ++ [.ref 103]))) 0 0 && q_ckM (q_eM 30000 299 (.ref 64 :: [.int (Int32.ofInt (0 + (i : Int)))])) 0 0)) = true := by decide +kernel
set_option maxHeartbeats 20000000 in
theorem q_op_columns (a : Int32) : ∃ (r b : Int32) (w : Int64), q_opX 19 [.int a] r w ∧ q_opM 299 [.int a] r (.int b) ∧ (r = 0 → w = b.toInt64) := by
  cases h146 : decide (a < 0) with
  | true =>
    refine ⟨1, 0, 0, ⟨(q_cX q_AX q_IX q_J0, 40 + 1, 26520 + 6), q_J0 39, ?_, rfl, fun h => absurd h (by decide), Nat.le_of_ble_eq_true rfl, Nat.le_of_ble_eq_true rfl⟩, ⟨(q_cM q_AM (q_uI q_IM 0 39 1) q_J0, 34, 31630), _, ?_, rfl, rfl, Nat.le_of_ble_eq_true rfl, Nat.le_of_ble_eq_true rfl⟩, fun h => absurd h (by decide)⟩
    · refine q_Ca_of (Nat.le_of_ble_eq_true rfl) ?_
      refine q_Ru_seg (g2 := (4, [(0, .ref 64), (1, .int a), (2, .ref 103)], [.int a, .ref 64, .int 0, .ref 103], (q_cX q_AX q_IX q_J0, 40, 26520))) 4 (fun _ _ => rfl) ?_
      refine q_Ru_callH (E := "java/lang/IllegalArgumentException") (tg := 13) (i := 3) (h2 := (q_cX q_AX q_IX q_J0, 40 + 1, 26520 + 6)) rfl rfl ?_ rfl ?_
      · refine q_Ca_of (Nat.le_of_ble_eq_true rfl) ?_
        refine q_Ru_seg (g2 := (4, [(0, .ref 64), (1, .int a)], [.int 15, .int 0, .int a], (q_cX q_AX q_IX q_J0, 40, 26520))) 3 (fun _ _ => rfl) ?_
        refine q_Ru_callX (E := "java/lang/IllegalArgumentException") (h2 := (q_cX q_AX q_IX q_J0, 40 + 1, 26520 + 6)) rfl rfl ?_
        refine q_Ca_of (Nat.le_of_ble_eq_true rfl) ?_
        refine q_Ru_seg (g2 := (2, [(0, .int a), (1, .int 0), (2, .int 15)], [.int 0, .int a], (q_cX q_AX q_IX q_J0, 40, 26520))) 2 (fun _ _ => rfl) ?_
        refine q_Ru_rsT (g2 := (10, [(0, .int a), (1, .int 0), (2, .int 15)], [], (q_cX q_AX q_IX q_J0, 40, 26520))) rfl rfl h146 ?_
        exact q_Ru_thr rfl rfl
      show q_Ru _ _ _ (13, [(0, .ref 64), (1, .int a), (2, .ref 103)], [], (q_cX q_AX q_IX q_J0, 40 + 1, 26520 + 6)) _
      refine q_Ru_seg (g2 := (14, [(0, .ref 64), (1, .int a), (2, .ref 103)], [.int 1], (q_cX q_AX q_IX q_J0, 40 + 1, 26520 + 6))) 1 (fun _ _ => rfl) ?_
      exact q_Ru_ret rfl rfl
    · refine q_Ca_of (Nat.le_of_ble_eq_true rfl) ?_
      refine q_Ru_seg (g2 := (5, [(0, .ref 64), (1, .int a)], [.int 15, .int 0, .int a, .ref 64], (q_cM q_AM q_IM q_J0, 34, 31630))) 4 (fun _ _ => rfl) ?_
      refine q_Ru_call (v := (some (.int 0))) (h2 := (q_cM q_AM q_IM q_J0, 34, 31630)) rfl rfl ?_ ?_
      · refine q_Ca_of (Nat.le_of_ble_eq_true rfl) ?_
        refine q_Ru_seg (g2 := (2, [(0, .int a), (1, .int 0), (2, .int 15)], [.int 0, .int a], (q_cM q_AM q_IM q_J0, 34, 31630))) 2 (fun _ _ => rfl) ?_
        refine q_Ru_rsT (g2 := (14, [(0, .int a), (1, .int 0), (2, .int 15)], [], (q_cM q_AM q_IM q_J0, 34, 31630))) rfl rfl h146 ?_
        refine q_Ru_seg (g2 := (15, [(0, .int a), (1, .int 0), (2, .int 15)], [.int 0], (q_cM q_AM q_IM q_J0, 34, 31630))) 1 (fun _ _ => rfl) ?_
        exact q_Ru_ret rfl rfl
      show q_Ru _ _ _ (8, [(0, .ref 64), (1, .int a)], [.int 0, .ref 64], (q_cM q_AM q_IM q_J0, 34, 31630)) _
      refine q_Ru_seg (g2 := (16, [(0, .ref 64), (1, .int a)], [.int 1, .ref 64], (q_cM q_AM q_IM q_J0, 34, 31630))) 2 (fun _ _ => rfl) ?_
      refine q_Ru_call (v := (some (.int 1))) (h2 := (q_cM q_AM (q_uI q_IM 0 39 1) q_J0, 34, 31630)) rfl rfl ?_ ?_
      · refine q_Ca_of (Nat.le_of_ble_eq_true rfl) ?_
        refine q_Ru_seg (g2 := (14, [(0, .ref 64), (1, .int 1)], [.int 1], (q_cM q_AM (q_uI q_IM 0 39 1) q_J0, 34, 31630))) 7 (fun _ _ => rfl) ?_
        exact q_Ru_ret rfl rfl
      show q_Ru _ _ _ (19, [(0, .ref 64), (1, .int a)], [.int 1], (q_cM q_AM (q_uI q_IM 0 39 1) q_J0, 34, 31630)) _
      refine q_Ru_seg (g2 := (31, [(0, .ref 64), (1, .int a)], [.int 0], (q_cM q_AM (q_uI q_IM 0 39 1) q_J0, 34, 31630))) 3 (fun _ _ => rfl) ?_
      exact q_Ru_ret rfl rfl
  | false =>
    cases h147 : decide (15 < a) with
    | true =>
      refine ⟨1, 0, 0, ⟨(q_cX q_AX q_IX q_J0, 40 + 1, 26520 + 6), q_J0 39, ?_, rfl, fun h => absurd h (by decide), Nat.le_of_ble_eq_true rfl, Nat.le_of_ble_eq_true rfl⟩, ⟨(q_cM q_AM (q_uI q_IM 0 39 1) q_J0, 34, 31630), _, ?_, rfl, rfl, Nat.le_of_ble_eq_true rfl, Nat.le_of_ble_eq_true rfl⟩, fun h => absurd h (by decide)⟩
      · refine q_Ca_of (Nat.le_of_ble_eq_true rfl) ?_
        refine q_Ru_seg (g2 := (4, [(0, .ref 64), (1, .int a), (2, .ref 103)], [.int a, .ref 64, .int 0, .ref 103], (q_cX q_AX q_IX q_J0, 40, 26520))) 4 (fun _ _ => rfl) ?_
        refine q_Ru_callH (E := "java/lang/IllegalArgumentException") (tg := 13) (i := 3) (h2 := (q_cX q_AX q_IX q_J0, 40 + 1, 26520 + 6)) rfl rfl ?_ rfl ?_
        · refine q_Ca_of (Nat.le_of_ble_eq_true rfl) ?_
          refine q_Ru_seg (g2 := (4, [(0, .ref 64), (1, .int a)], [.int 15, .int 0, .int a], (q_cX q_AX q_IX q_J0, 40, 26520))) 3 (fun _ _ => rfl) ?_
          refine q_Ru_callX (E := "java/lang/IllegalArgumentException") (h2 := (q_cX q_AX q_IX q_J0, 40 + 1, 26520 + 6)) rfl rfl ?_
          refine q_Ca_of (Nat.le_of_ble_eq_true rfl) ?_
          refine q_Ru_seg (g2 := (2, [(0, .int a), (1, .int 0), (2, .int 15)], [.int 0, .int a], (q_cX q_AX q_IX q_J0, 40, 26520))) 2 (fun _ _ => rfl) ?_
          refine q_Ru_rsF (g2 := (5, [(0, .int a), (1, .int 0), (2, .int 15)], [], (q_cX q_AX q_IX q_J0, 40, 26520))) rfl rfl h146 ?_
          refine q_Ru_seg (g2 := (7, [(0, .int a), (1, .int 0), (2, .int 15)], [.int 15, .int a], (q_cX q_AX q_IX q_J0, 40, 26520))) 2 (fun _ _ => rfl) ?_
          refine q_Ru_rsF (g2 := (10, [(0, .int a), (1, .int 0), (2, .int 15)], [], (q_cX q_AX q_IX q_J0, 40, 26520))) rfl rfl (q_d_geT h147) ?_
          exact q_Ru_thr rfl rfl
        show q_Ru _ _ _ (13, [(0, .ref 64), (1, .int a), (2, .ref 103)], [], (q_cX q_AX q_IX q_J0, 40 + 1, 26520 + 6)) _
        refine q_Ru_seg (g2 := (14, [(0, .ref 64), (1, .int a), (2, .ref 103)], [.int 1], (q_cX q_AX q_IX q_J0, 40 + 1, 26520 + 6))) 1 (fun _ _ => rfl) ?_
        exact q_Ru_ret rfl rfl
      · refine q_Ca_of (Nat.le_of_ble_eq_true rfl) ?_
        refine q_Ru_seg (g2 := (5, [(0, .ref 64), (1, .int a)], [.int 15, .int 0, .int a, .ref 64], (q_cM q_AM q_IM q_J0, 34, 31630))) 4 (fun _ _ => rfl) ?_
        refine q_Ru_call (v := (some (.int 0))) (h2 := (q_cM q_AM q_IM q_J0, 34, 31630)) rfl rfl ?_ ?_
        · refine q_Ca_of (Nat.le_of_ble_eq_true rfl) ?_
          refine q_Ru_seg (g2 := (2, [(0, .int a), (1, .int 0), (2, .int 15)], [.int 0, .int a], (q_cM q_AM q_IM q_J0, 34, 31630))) 2 (fun _ _ => rfl) ?_
          refine q_Ru_rsF (g2 := (5, [(0, .int a), (1, .int 0), (2, .int 15)], [], (q_cM q_AM q_IM q_J0, 34, 31630))) rfl rfl h146 ?_
          refine q_Ru_seg (g2 := (7, [(0, .int a), (1, .int 0), (2, .int 15)], [.int 15, .int a], (q_cM q_AM q_IM q_J0, 34, 31630))) 2 (fun _ _ => rfl) ?_
          refine q_Ru_rsT (g2 := (14, [(0, .int a), (1, .int 0), (2, .int 15)], [], (q_cM q_AM q_IM q_J0, 34, 31630))) rfl rfl h147 ?_
          refine q_Ru_seg (g2 := (15, [(0, .int a), (1, .int 0), (2, .int 15)], [.int 0], (q_cM q_AM q_IM q_J0, 34, 31630))) 1 (fun _ _ => rfl) ?_
          exact q_Ru_ret rfl rfl
        show q_Ru _ _ _ (8, [(0, .ref 64), (1, .int a)], [.int 0, .ref 64], (q_cM q_AM q_IM q_J0, 34, 31630)) _
        refine q_Ru_seg (g2 := (16, [(0, .ref 64), (1, .int a)], [.int 1, .ref 64], (q_cM q_AM q_IM q_J0, 34, 31630))) 2 (fun _ _ => rfl) ?_
        refine q_Ru_call (v := (some (.int 1))) (h2 := (q_cM q_AM (q_uI q_IM 0 39 1) q_J0, 34, 31630)) rfl rfl ?_ ?_
        · refine q_Ca_of (Nat.le_of_ble_eq_true rfl) ?_
          refine q_Ru_seg (g2 := (14, [(0, .ref 64), (1, .int 1)], [.int 1], (q_cM q_AM (q_uI q_IM 0 39 1) q_J0, 34, 31630))) 7 (fun _ _ => rfl) ?_
          exact q_Ru_ret rfl rfl
        show q_Ru _ _ _ (19, [(0, .ref 64), (1, .int a)], [.int 1], (q_cM q_AM (q_uI q_IM 0 39 1) q_J0, 34, 31630)) _
        refine q_Ru_seg (g2 := (31, [(0, .ref 64), (1, .int a)], [.int 0], (q_cM q_AM (q_uI q_IM 0 39 1) q_J0, 34, 31630))) 3 (fun _ _ => rfl) ?_
        exact q_Ru_ret rfl rfl
    | false =>
      obtain ⟨i, hi, ei⟩ := q_en (l := 0) (n := 15) (q_lo1 h146) (q_hi2 h147)
      rw [ei]
      have t := List.all_eq_true.mp q_t_columns i (List.mem_range.mpr (by omega))
      rw [Bool.and_eq_true] at t
      exact ⟨0, 0, 0, q_opX_ck 30000 t.1, q_opM_ck 30000 t.2, fun _ => rfl⟩
set_option maxHeartbeats 20000000 in
theorem q_op_pixelAgain (a v : Int32) : ∃ (r b : Int32) (w : Int64), q_opX 15 [.int a, .int v] r w ∧ q_opM 295 [.int a, .int v] r (.int b) ∧ (r = 0 → w = b.toInt64) := by
  cases h148 : decide (a < 0) with
  | true =>
    refine ⟨1, 0, 0, ⟨(q_cX q_AX q_IX q_J0, 40 + 1, 26520 + 6), q_J0 39, ?_, rfl, fun h => absurd h (by decide), Nat.le_of_ble_eq_true rfl, Nat.le_of_ble_eq_true rfl⟩, ⟨(q_cM q_AM (q_uI q_IM 0 39 1) q_J0, 34, 31630), _, ?_, rfl, rfl, Nat.le_of_ble_eq_true rfl, Nat.le_of_ble_eq_true rfl⟩, fun h => absurd h (by decide)⟩
    · refine q_Ca_of (Nat.le_of_ble_eq_true rfl) ?_
      refine q_Ru_seg (g2 := (5, [(0, .ref 64), (1, .int a), (2, .int v), (3, .ref 103)], [.int v, .int a, .ref 64, .int 0, .ref 103], (q_cX q_AX q_IX q_J0, 40, 26520))) 5 (fun _ _ => rfl) ?_
      refine q_Ru_callH (E := "java/lang/IndexOutOfBoundsException") (tg := 15) (i := 4) (h2 := (q_cX q_AX q_IX q_J0, 40 + 1, 26520 + 6)) rfl rfl ?_ rfl ?_
      · refine q_Ca_of (Nat.le_of_ble_eq_true rfl) ?_
        refine q_Ru_seg (g2 := (3, [(0, .ref 64), (1, .int a), (2, .int v)], [.int 32, .int a], (q_cX q_AX q_IX q_J0, 40, 26520))) 2 (fun _ _ => rfl) ?_
        refine q_Ru_callX (E := "java/lang/IndexOutOfBoundsException") (h2 := (q_cX q_AX q_IX q_J0, 40 + 1, 26520 + 6)) rfl rfl ?_
        refine q_Ca_of (Nat.le_of_ble_eq_true rfl) ?_
        refine q_Ru_seg (g2 := (1, [(0, .int a), (1, .int 32)], [.int a], (q_cX q_AX q_IX q_J0, 40, 26520))) 1 (fun _ _ => rfl) ?_
        refine q_Ru_rsT (g2 := (9, [(0, .int a), (1, .int 32)], [], (q_cX q_AX q_IX q_J0, 40, 26520))) rfl rfl h148 ?_
        exact q_Ru_thr rfl rfl
      show q_Ru _ _ _ (15, [(0, .ref 64), (1, .int a), (2, .int v), (3, .ref 103)], [], (q_cX q_AX q_IX q_J0, 40 + 1, 26520 + 6)) _
      refine q_Ru_seg (g2 := (16, [(0, .ref 64), (1, .int a), (2, .int v), (3, .ref 103)], [.int 1], (q_cX q_AX q_IX q_J0, 40 + 1, 26520 + 6))) 1 (fun _ _ => rfl) ?_
      exact q_Ru_ret rfl rfl
    · refine q_Ca_of (Nat.le_of_ble_eq_true rfl) ?_
      refine q_Ru_seg (g2 := (3, [(0, .ref 64), (1, .int a), (2, .int v)], [.int v, .int a, .ref 64], (q_cM q_AM q_IM q_J0, 34, 31630))) 3 (fun _ _ => rfl) ?_
      refine q_Ru_call (v := (some (.int 0))) (h2 := (q_cM q_AM (q_uI q_IM 0 39 1) q_J0, 34, 31630)) rfl rfl ?_ ?_
      · refine q_Ca_of (Nat.le_of_ble_eq_true rfl) ?_
        refine q_Ru_seg (g2 := (5, [(0, .ref 64), (1, .int a), (2, .int v)], [.int 31, .int 0, .int a, .ref 64], (q_cM q_AM q_IM q_J0, 34, 31630))) 4 (fun _ _ => rfl) ?_
        refine q_Ru_call (v := (some (.int 0))) (h2 := (q_cM q_AM q_IM q_J0, 34, 31630)) rfl rfl ?_ ?_
        · refine q_Ca_of (Nat.le_of_ble_eq_true rfl) ?_
          refine q_Ru_seg (g2 := (2, [(0, .int a), (1, .int 0), (2, .int 31)], [.int 0, .int a], (q_cM q_AM q_IM q_J0, 34, 31630))) 2 (fun _ _ => rfl) ?_
          refine q_Ru_rsT (g2 := (14, [(0, .int a), (1, .int 0), (2, .int 31)], [], (q_cM q_AM q_IM q_J0, 34, 31630))) rfl rfl h148 ?_
          refine q_Ru_seg (g2 := (15, [(0, .int a), (1, .int 0), (2, .int 31)], [.int 0], (q_cM q_AM q_IM q_J0, 34, 31630))) 1 (fun _ _ => rfl) ?_
          exact q_Ru_ret rfl rfl
        show q_Ru _ _ _ (8, [(0, .ref 64), (1, .int a), (2, .int v)], [.int 0, .ref 64], (q_cM q_AM q_IM q_J0, 34, 31630)) _
        refine q_Ru_seg (g2 := (26, [(0, .ref 64), (1, .int a), (2, .int v)], [.int 1, .ref 64], (q_cM q_AM q_IM q_J0, 34, 31630))) 2 (fun _ _ => rfl) ?_
        refine q_Ru_call (v := (some (.int 1))) (h2 := (q_cM q_AM (q_uI q_IM 0 39 1) q_J0, 34, 31630)) rfl rfl ?_ ?_
        · refine q_Ca_of (Nat.le_of_ble_eq_true rfl) ?_
          refine q_Ru_seg (g2 := (14, [(0, .ref 64), (1, .int 1)], [.int 1], (q_cM q_AM (q_uI q_IM 0 39 1) q_J0, 34, 31630))) 7 (fun _ _ => rfl) ?_
          exact q_Ru_ret rfl rfl
        show q_Ru _ _ _ (29, [(0, .ref 64), (1, .int a), (2, .int v)], [.int 1], (q_cM q_AM (q_uI q_IM 0 39 1) q_J0, 34, 31630)) _
        refine q_Ru_seg (g2 := (47, [(0, .ref 64), (1, .int a), (2, .int v)], [.int 0], (q_cM q_AM (q_uI q_IM 0 39 1) q_J0, 34, 31630))) 3 (fun _ _ => rfl) ?_
        exact q_Ru_ret rfl rfl
      show q_Ru _ _ _ (6, [(0, .ref 64), (1, .int a), (2, .int v)], [.int 0], (q_cM q_AM (q_uI q_IM 0 39 1) q_J0, 34, 31630)) _
      exact q_Ru_ret rfl rfl
  | false =>
    cases h149 : decide (a < 32) with
    | true =>
      cases h150 : decide (v < 0) with
      | true =>
        have h151 : decide (31 < a) = false := q_not_tr (q_tbl1 (fun a => !decide (31 < a)) (l := 0) (n := 31) (by decide +kernel) (q_lo1 h148) (q_hi1 h149))
        refine ⟨1, 0, 0, ⟨(q_cX q_AX q_IX q_J0, 40 + 1, 26520 + 6), q_J0 39, ?_, rfl, fun h => absurd h (by decide), Nat.le_of_ble_eq_true rfl, Nat.le_of_ble_eq_true rfl⟩, ⟨(q_cM q_AM (q_uI q_IM 0 39 1) q_J0, 34, 31630), _, ?_, rfl, rfl, Nat.le_of_ble_eq_true rfl, Nat.le_of_ble_eq_true rfl⟩, fun h => absurd h (by decide)⟩
        · refine q_Ca_of (Nat.le_of_ble_eq_true rfl) ?_
          refine q_Ru_seg (g2 := (5, [(0, .ref 64), (1, .int a), (2, .int v), (3, .ref 103)], [.int v, .int a, .ref 64, .int 0, .ref 103], (q_cX q_AX q_IX q_J0, 40, 26520))) 5 (fun _ _ => rfl) ?_
          refine q_Ru_callH (E := "java/lang/IndexOutOfBoundsException") (tg := 15) (i := 4) (h2 := (q_cX q_AX q_IX q_J0, 40 + 1, 26520 + 6)) rfl rfl ?_ rfl ?_
          · refine q_Ca_of (Nat.le_of_ble_eq_true rfl) ?_
            refine q_Ru_seg (g2 := (3, [(0, .ref 64), (1, .int a), (2, .int v)], [.int 32, .int a], (q_cX q_AX q_IX q_J0, 40, 26520))) 2 (fun _ _ => rfl) ?_
            refine q_Ru_call (v := none) (h2 := (q_cX q_AX q_IX q_J0, 40, 26520)) rfl rfl ?_ ?_
            · refine q_Ca_of (Nat.le_of_ble_eq_true rfl) ?_
              refine q_Ru_seg (g2 := (1, [(0, .int a), (1, .int 32)], [.int a], (q_cX q_AX q_IX q_J0, 40, 26520))) 1 (fun _ _ => rfl) ?_
              refine q_Ru_rsF (g2 := (4, [(0, .int a), (1, .int 32)], [], (q_cX q_AX q_IX q_J0, 40, 26520))) rfl rfl h148 ?_
              refine q_Ru_seg (g2 := (6, [(0, .int a), (1, .int 32)], [.int 32, .int a], (q_cX q_AX q_IX q_J0, 40, 26520))) 2 (fun _ _ => rfl) ?_
              refine q_Ru_rsT (g2 := (19, [(0, .int a), (1, .int 32)], [], (q_cX q_AX q_IX q_J0, 40, 26520))) rfl rfl h149 ?_
              exact q_Ru_ret rfl rfl
            show q_Ru _ _ _ (6, [(0, .ref 64), (1, .int a), (2, .int v)], [], (q_cX q_AX q_IX q_J0, 40, 26520)) _
            refine q_Ru_seg (g2 := (9, [(0, .ref 64), (1, .int a), (2, .int v)], [.int 32, .int v], (q_cX q_AX q_IX q_J0, 40, 26520))) 2 (fun _ _ => rfl) ?_
            refine q_Ru_callX (E := "java/lang/IndexOutOfBoundsException") (h2 := (q_cX q_AX q_IX q_J0, 40 + 1, 26520 + 6)) rfl rfl ?_
            refine q_Ca_of (Nat.le_of_ble_eq_true rfl) ?_
            refine q_Ru_seg (g2 := (1, [(0, .int v), (1, .int 32)], [.int v], (q_cX q_AX q_IX q_J0, 40, 26520))) 1 (fun _ _ => rfl) ?_
            refine q_Ru_rsT (g2 := (9, [(0, .int v), (1, .int 32)], [], (q_cX q_AX q_IX q_J0, 40, 26520))) rfl rfl h150 ?_
            exact q_Ru_thr rfl rfl
          show q_Ru _ _ _ (15, [(0, .ref 64), (1, .int a), (2, .int v), (3, .ref 103)], [], (q_cX q_AX q_IX q_J0, 40 + 1, 26520 + 6)) _
          refine q_Ru_seg (g2 := (16, [(0, .ref 64), (1, .int a), (2, .int v), (3, .ref 103)], [.int 1], (q_cX q_AX q_IX q_J0, 40 + 1, 26520 + 6))) 1 (fun _ _ => rfl) ?_
          exact q_Ru_ret rfl rfl
        · refine q_Ca_of (Nat.le_of_ble_eq_true rfl) ?_
          refine q_Ru_seg (g2 := (3, [(0, .ref 64), (1, .int a), (2, .int v)], [.int v, .int a, .ref 64], (q_cM q_AM q_IM q_J0, 34, 31630))) 3 (fun _ _ => rfl) ?_
          refine q_Ru_call (v := (some (.int 0))) (h2 := (q_cM q_AM (q_uI q_IM 0 39 1) q_J0, 34, 31630)) rfl rfl ?_ ?_
          · refine q_Ca_of (Nat.le_of_ble_eq_true rfl) ?_
            refine q_Ru_seg (g2 := (5, [(0, .ref 64), (1, .int a), (2, .int v)], [.int 31, .int 0, .int a, .ref 64], (q_cM q_AM q_IM q_J0, 34, 31630))) 4 (fun _ _ => rfl) ?_
            refine q_Ru_call (v := (some (.int 1))) (h2 := (q_cM q_AM q_IM q_J0, 34, 31630)) rfl rfl ?_ ?_
            · refine q_Ca_of (Nat.le_of_ble_eq_true rfl) ?_
              refine q_Ru_seg (g2 := (2, [(0, .int a), (1, .int 0), (2, .int 31)], [.int 0, .int a], (q_cM q_AM q_IM q_J0, 34, 31630))) 2 (fun _ _ => rfl) ?_
              refine q_Ru_rsF (g2 := (5, [(0, .int a), (1, .int 0), (2, .int 31)], [], (q_cM q_AM q_IM q_J0, 34, 31630))) rfl rfl h148 ?_
              refine q_Ru_seg (g2 := (7, [(0, .int a), (1, .int 0), (2, .int 31)], [.int 31, .int a], (q_cM q_AM q_IM q_J0, 34, 31630))) 2 (fun _ _ => rfl) ?_
              refine q_Ru_rsF (g2 := (10, [(0, .int a), (1, .int 0), (2, .int 31)], [], (q_cM q_AM q_IM q_J0, 34, 31630))) rfl rfl h151 ?_
              refine q_Ru_seg (g2 := (15, [(0, .int a), (1, .int 0), (2, .int 31)], [.int 1], (q_cM q_AM q_IM q_J0, 34, 31630))) 2 (fun _ _ => rfl) ?_
              exact q_Ru_ret rfl rfl
            show q_Ru _ _ _ (8, [(0, .ref 64), (1, .int a), (2, .int v)], [.int 1, .ref 64], (q_cM q_AM q_IM q_J0, 34, 31630)) _
            refine q_Ru_seg (g2 := (15, [(0, .ref 64), (1, .int a), (2, .int v)], [.int 31, .int 0, .int v, .ref 64], (q_cM q_AM q_IM q_J0, 34, 31630))) 4 (fun _ _ => rfl) ?_
            refine q_Ru_call (v := (some (.int 0))) (h2 := (q_cM q_AM q_IM q_J0, 34, 31630)) rfl rfl ?_ ?_
            · refine q_Ca_of (Nat.le_of_ble_eq_true rfl) ?_
              refine q_Ru_seg (g2 := (2, [(0, .int v), (1, .int 0), (2, .int 31)], [.int 0, .int v], (q_cM q_AM q_IM q_J0, 34, 31630))) 2 (fun _ _ => rfl) ?_
              refine q_Ru_rsT (g2 := (14, [(0, .int v), (1, .int 0), (2, .int 31)], [], (q_cM q_AM q_IM q_J0, 34, 31630))) rfl rfl h150 ?_
              refine q_Ru_seg (g2 := (15, [(0, .int v), (1, .int 0), (2, .int 31)], [.int 0], (q_cM q_AM q_IM q_J0, 34, 31630))) 1 (fun _ _ => rfl) ?_
              exact q_Ru_ret rfl rfl
            show q_Ru _ _ _ (18, [(0, .ref 64), (1, .int a), (2, .int v)], [.int 0, .ref 64], (q_cM q_AM q_IM q_J0, 34, 31630)) _
            refine q_Ru_seg (g2 := (26, [(0, .ref 64), (1, .int a), (2, .int v)], [.int 1, .ref 64], (q_cM q_AM q_IM q_J0, 34, 31630))) 2 (fun _ _ => rfl) ?_
            refine q_Ru_call (v := (some (.int 1))) (h2 := (q_cM q_AM (q_uI q_IM 0 39 1) q_J0, 34, 31630)) rfl rfl ?_ ?_
            · refine q_Ca_of (Nat.le_of_ble_eq_true rfl) ?_
              refine q_Ru_seg (g2 := (14, [(0, .ref 64), (1, .int 1)], [.int 1], (q_cM q_AM (q_uI q_IM 0 39 1) q_J0, 34, 31630))) 7 (fun _ _ => rfl) ?_
              exact q_Ru_ret rfl rfl
            show q_Ru _ _ _ (29, [(0, .ref 64), (1, .int a), (2, .int v)], [.int 1], (q_cM q_AM (q_uI q_IM 0 39 1) q_J0, 34, 31630)) _
            refine q_Ru_seg (g2 := (47, [(0, .ref 64), (1, .int a), (2, .int v)], [.int 0], (q_cM q_AM (q_uI q_IM 0 39 1) q_J0, 34, 31630))) 3 (fun _ _ => rfl) ?_
            exact q_Ru_ret rfl rfl
          show q_Ru _ _ _ (6, [(0, .ref 64), (1, .int a), (2, .int v)], [.int 0], (q_cM q_AM (q_uI q_IM 0 39 1) q_J0, 34, 31630)) _
          exact q_Ru_ret rfl rfl
      | false =>
        cases h152 : decide (v < 32) with
        | true =>
          have h153 : decide ((24 * (v + 4)) + ((a / 2) + 4) < 0) = false := q_not_tr (q_tbl2 (fun a v => !decide ((24 * (v + 4)) + ((a / 2) + 4) < 0)) (l := 0) (n := 31) (l2 := 0) (n2 := 31) (by decide +kernel) (q_lo1 h148) (q_hi1 h149) (q_lo1 h150) (q_hi1 h152))
          have h154 : decide (31 < a) = false := q_not_tr (q_tbl1 (fun a => !decide (31 < a)) (l := 0) (n := 31) (by decide +kernel) (q_lo1 h148) (q_hi1 h149))
          have h155 : decide (31 < v) = false := q_not_tr (q_tbl1 (fun v => !decide (31 < v)) (l := 0) (n := 31) (by decide +kernel) (q_lo1 h150) (q_hi1 h152))
          refine ⟨0, 0, 0, ⟨(q_cX q_AX q_IX (q_uA q_J0 39 (vp_updL (fun _ => 0) 0 0)), 40, 26520), (q_uA q_J0 39 (vp_updL (fun _ => 0) 0 0)) 39, ?_, rfl, fun _ => rfl, Nat.le_of_ble_eq_true rfl, Nat.le_of_ble_eq_true rfl⟩, ⟨(q_cM q_AM (q_uI q_IM 0 39 0) q_J0, 34, 31630), _, ?_, rfl, rfl, Nat.le_of_ble_eq_true rfl, Nat.le_of_ble_eq_true rfl⟩, fun _ => rfl⟩
          · refine q_Ca_of (Nat.le_of_ble_eq_true rfl) ?_
            refine q_Ru_seg (g2 := (5, [(0, .ref 64), (1, .int a), (2, .int v), (3, .ref 103)], [.int v, .int a, .ref 64, .int 0, .ref 103], (q_cX q_AX q_IX q_J0, 40, 26520))) 5 (fun _ _ => rfl) ?_
            refine q_Ru_call (v := (some (.int 0))) (h2 := (q_cX q_AX q_IX q_J0, 40, 26520)) rfl rfl ?_ ?_
            · refine q_Ca_of (Nat.le_of_ble_eq_true rfl) ?_
              refine q_Ru_seg (g2 := (3, [(0, .ref 64), (1, .int a), (2, .int v)], [.int 32, .int a], (q_cX q_AX q_IX q_J0, 40, 26520))) 2 (fun _ _ => rfl) ?_
              refine q_Ru_call (v := none) (h2 := (q_cX q_AX q_IX q_J0, 40, 26520)) rfl rfl ?_ ?_
              · refine q_Ca_of (Nat.le_of_ble_eq_true rfl) ?_
                refine q_Ru_seg (g2 := (1, [(0, .int a), (1, .int 32)], [.int a], (q_cX q_AX q_IX q_J0, 40, 26520))) 1 (fun _ _ => rfl) ?_
                refine q_Ru_rsF (g2 := (4, [(0, .int a), (1, .int 32)], [], (q_cX q_AX q_IX q_J0, 40, 26520))) rfl rfl h148 ?_
                refine q_Ru_seg (g2 := (6, [(0, .int a), (1, .int 32)], [.int 32, .int a], (q_cX q_AX q_IX q_J0, 40, 26520))) 2 (fun _ _ => rfl) ?_
                refine q_Ru_rsT (g2 := (19, [(0, .int a), (1, .int 32)], [], (q_cX q_AX q_IX q_J0, 40, 26520))) rfl rfl h149 ?_
                exact q_Ru_ret rfl rfl
              show q_Ru _ _ _ (6, [(0, .ref 64), (1, .int a), (2, .int v)], [], (q_cX q_AX q_IX q_J0, 40, 26520)) _
              refine q_Ru_seg (g2 := (9, [(0, .ref 64), (1, .int a), (2, .int v)], [.int 32, .int v], (q_cX q_AX q_IX q_J0, 40, 26520))) 2 (fun _ _ => rfl) ?_
              refine q_Ru_call (v := none) (h2 := (q_cX q_AX q_IX q_J0, 40, 26520)) rfl rfl ?_ ?_
              · refine q_Ca_of (Nat.le_of_ble_eq_true rfl) ?_
                refine q_Ru_seg (g2 := (1, [(0, .int v), (1, .int 32)], [.int v], (q_cX q_AX q_IX q_J0, 40, 26520))) 1 (fun _ _ => rfl) ?_
                refine q_Ru_rsF (g2 := (4, [(0, .int v), (1, .int 32)], [], (q_cX q_AX q_IX q_J0, 40, 26520))) rfl rfl h150 ?_
                refine q_Ru_seg (g2 := (6, [(0, .int v), (1, .int 32)], [.int 32, .int v], (q_cX q_AX q_IX q_J0, 40, 26520))) 2 (fun _ _ => rfl) ?_
                refine q_Ru_rsT (g2 := (19, [(0, .int v), (1, .int 32)], [], (q_cX q_AX q_IX q_J0, 40, 26520))) rfl rfl h152 ?_
                exact q_Ru_ret rfl rfl
              show q_Ru _ _ _ (12, [(0, .ref 64), (1, .int a), (2, .int v)], [], (q_cX q_AX q_IX q_J0, 40, 26520)) _
              refine q_Ru_seg (g2 := (25, [(0, .ref 64), (1, .int a), (2, .int v)], [.ref 100, .int v, .int a, .ref 66], (q_cX q_AX q_IX q_J0, 40, 26520))) 7 (fun _ _ => rfl) ?_
              refine q_Ru_call (v := (some (.int 0))) (h2 := (q_cX q_AX q_IX q_J0, 40, 26520)) rfl rfl ?_ ?_
              · refine q_Ca_of (Nat.le_of_ble_eq_true rfl) ?_
                refine q_Ru_seg (g2 := (21, [(5, .int ((24 * (v + 4)) + ((a / 2) + 4))), (4, .int ((a / 2) + 4)), (0, .ref 66), (1, .int a), (2, .int v), (3, .ref 100)], [.ref 66, .int ((24 * (v + 4)) + ((a / 2) + 4))], (q_cX q_AX q_IX q_J0, 40, 26520))) 16 (fun _ _ => rfl) ?_
                refine q_Ru_call (v := (some (.ref 78))) (h2 := (q_cX q_AX q_IX q_J0, 40, 26520)) rfl rfl ?_ ?_
                · refine q_Ca_of (Nat.le_of_ble_eq_true rfl) ?_
                  refine q_Ru_seg (g2 := (28, [(0, .ref 66)], [.ref 78], (q_cX q_AX q_IX q_J0, 40, 26520))) 12 (fun _ _ => rfl) ?_
                  exact q_Ru_ret rfl rfl
                show q_Ru _ _ _ (24, [(5, .int ((24 * (v + 4)) + ((a / 2) + 4))), (4, .int ((a / 2) + 4)), (0, .ref 66), (1, .int a), (2, .int v), (3, .ref 100)], [.ref 78, .int ((24 * (v + 4)) + ((a / 2) + 4))], (q_cX q_AX q_IX q_J0, 40, 26520)) _
                refine q_Ru_seg (g2 := (27, [(5, .int ((24 * (v + 4)) + ((a / 2) + 4))), (4, .int ((a / 2) + 4)), (0, .ref 66), (1, .int a), (2, .int v), (3, .ref 100)], [.int 0, .int ((24 * (v + 4)) + ((a / 2) + 4))], (q_cX q_AX q_IX q_J0, 40, 26520))) 1 (fun _ _ => rfl) ?_
                refine q_Ru_rsT (g2 := (37, [(5, .int ((24 * (v + 4)) + ((a / 2) + 4))), (4, .int ((a / 2) + 4)), (0, .ref 66), (1, .int a), (2, .int v), (3, .ref 100)], [], (q_cX q_AX q_IX q_J0, 40, 26520))) rfl rfl (q_d_geF h153) ?_
                refine q_Ru_seg (g2 := (38, [(5, .int ((24 * (v + 4)) + ((a / 2) + 4))), (4, .int ((a / 2) + 4)), (0, .ref 66), (1, .int a), (2, .int v), (3, .ref 100)], [.ref 66], (q_cX q_AX q_IX q_J0, 40, 26520))) 1 (fun _ _ => rfl) ?_
                refine q_Ru_call (v := (some (.ref 83))) (h2 := (q_cX q_AX q_IX q_J0, 40, 26520)) rfl rfl ?_ ?_
                · refine q_Ca_of (Nat.le_of_ble_eq_true rfl) ?_
                  refine q_Ru_seg (g2 := (28, [(0, .ref 66)], [.ref 83], (q_cX q_AX q_IX q_J0, 40, 26520))) 12 (fun _ _ => rfl) ?_
                  exact q_Ru_ret rfl rfl
                show q_Ru _ _ _ (41, [(5, .int ((24 * (v + 4)) + ((a / 2) + 4))), (4, .int ((a / 2) + 4)), (0, .ref 66), (1, .int a), (2, .int v), (3, .ref 100)], [.ref 83], (q_cX q_AX q_IX q_J0, 40, 26520)) _
                refine q_Ru_seg (g2 := (50, [(6, .ref 83), (5, .int ((24 * (v + 4)) + ((a / 2) + 4))), (4, .int ((a / 2) + 4)), (0, .ref 66), (1, .int a), (2, .int v), (3, .ref 100)], [.int 0, .int ((24 * (v + 4)) + ((a / 2) + 4))], (q_cX q_AX q_IX q_J0, 40, 26520))) 4 (fun _ _ => rfl) ?_
                refine q_Ru_rsF (g2 := (53, [(6, .ref 83), (5, .int ((24 * (v + 4)) + ((a / 2) + 4))), (4, .int ((a / 2) + 4)), (0, .ref 66), (1, .int a), (2, .int v), (3, .ref 100)], [], (q_cX q_AX q_IX q_J0, 40, 26520))) rfl rfl h153 ?_
                refine q_Ru_seg (g2 := (54, [(6, .ref 83), (5, .int ((24 * (v + 4)) + ((a / 2) + 4))), (4, .int ((a / 2) + 4)), (0, .ref 66), (1, .int a), (2, .int v), (3, .ref 100)], [.int 0], (q_cX q_AX q_IX q_J0, 40, 26520))) 1 (fun _ _ => rfl) ?_
                exact q_Ru_ret rfl rfl
              show q_Ru _ _ _ (28, [(0, .ref 64), (1, .int a), (2, .int v)], [.int 0], (q_cX q_AX q_IX q_J0, 40, 26520)) _
              exact q_Ru_ret rfl rfl
            show q_Ru _ _ _ (8, [(0, .ref 64), (1, .int a), (2, .int v), (3, .ref 103)], [.int 0, .int 0, .ref 103], (q_cX q_AX q_IX q_J0, 40, 26520)) _
            refine q_Ru_seg (g2 := (18, [(0, .ref 64), (1, .int a), (2, .int v), (3, .ref 103)], [.int 0], (q_cX q_AX q_IX (q_uA q_J0 39 (vp_updL (fun _ => 0) 0 0)), 40, 26520))) 4 (fun _ _ => rfl) ?_
            exact q_Ru_ret rfl rfl
          · refine q_Ca_of (Nat.le_of_ble_eq_true rfl) ?_
            refine q_Ru_seg (g2 := (3, [(0, .ref 64), (1, .int a), (2, .int v)], [.int v, .int a, .ref 64], (q_cM q_AM q_IM q_J0, 34, 31630))) 3 (fun _ _ => rfl) ?_
            refine q_Ru_call (v := (some (.int 0))) (h2 := (q_cM q_AM (q_uI q_IM 0 39 0) q_J0, 34, 31630)) rfl rfl ?_ ?_
            · refine q_Ca_of (Nat.le_of_ble_eq_true rfl) ?_
              refine q_Ru_seg (g2 := (5, [(0, .ref 64), (1, .int a), (2, .int v)], [.int 31, .int 0, .int a, .ref 64], (q_cM q_AM q_IM q_J0, 34, 31630))) 4 (fun _ _ => rfl) ?_
              refine q_Ru_call (v := (some (.int 1))) (h2 := (q_cM q_AM q_IM q_J0, 34, 31630)) rfl rfl ?_ ?_
              · refine q_Ca_of (Nat.le_of_ble_eq_true rfl) ?_
                refine q_Ru_seg (g2 := (2, [(0, .int a), (1, .int 0), (2, .int 31)], [.int 0, .int a], (q_cM q_AM q_IM q_J0, 34, 31630))) 2 (fun _ _ => rfl) ?_
                refine q_Ru_rsF (g2 := (5, [(0, .int a), (1, .int 0), (2, .int 31)], [], (q_cM q_AM q_IM q_J0, 34, 31630))) rfl rfl h148 ?_
                refine q_Ru_seg (g2 := (7, [(0, .int a), (1, .int 0), (2, .int 31)], [.int 31, .int a], (q_cM q_AM q_IM q_J0, 34, 31630))) 2 (fun _ _ => rfl) ?_
                refine q_Ru_rsF (g2 := (10, [(0, .int a), (1, .int 0), (2, .int 31)], [], (q_cM q_AM q_IM q_J0, 34, 31630))) rfl rfl h154 ?_
                refine q_Ru_seg (g2 := (15, [(0, .int a), (1, .int 0), (2, .int 31)], [.int 1], (q_cM q_AM q_IM q_J0, 34, 31630))) 2 (fun _ _ => rfl) ?_
                exact q_Ru_ret rfl rfl
              show q_Ru _ _ _ (8, [(0, .ref 64), (1, .int a), (2, .int v)], [.int 1, .ref 64], (q_cM q_AM q_IM q_J0, 34, 31630)) _
              refine q_Ru_seg (g2 := (15, [(0, .ref 64), (1, .int a), (2, .int v)], [.int 31, .int 0, .int v, .ref 64], (q_cM q_AM q_IM q_J0, 34, 31630))) 4 (fun _ _ => rfl) ?_
              refine q_Ru_call (v := (some (.int 1))) (h2 := (q_cM q_AM q_IM q_J0, 34, 31630)) rfl rfl ?_ ?_
              · refine q_Ca_of (Nat.le_of_ble_eq_true rfl) ?_
                refine q_Ru_seg (g2 := (2, [(0, .int v), (1, .int 0), (2, .int 31)], [.int 0, .int v], (q_cM q_AM q_IM q_J0, 34, 31630))) 2 (fun _ _ => rfl) ?_
                refine q_Ru_rsF (g2 := (5, [(0, .int v), (1, .int 0), (2, .int 31)], [], (q_cM q_AM q_IM q_J0, 34, 31630))) rfl rfl h150 ?_
                refine q_Ru_seg (g2 := (7, [(0, .int v), (1, .int 0), (2, .int 31)], [.int 31, .int v], (q_cM q_AM q_IM q_J0, 34, 31630))) 2 (fun _ _ => rfl) ?_
                refine q_Ru_rsF (g2 := (10, [(0, .int v), (1, .int 0), (2, .int 31)], [], (q_cM q_AM q_IM q_J0, 34, 31630))) rfl rfl h155 ?_
                refine q_Ru_seg (g2 := (15, [(0, .int v), (1, .int 0), (2, .int 31)], [.int 1], (q_cM q_AM q_IM q_J0, 34, 31630))) 2 (fun _ _ => rfl) ?_
                exact q_Ru_ret rfl rfl
              show q_Ru _ _ _ (18, [(0, .ref 64), (1, .int a), (2, .int v)], [.int 1, .ref 64], (q_cM q_AM q_IM q_J0, 34, 31630)) _
              refine q_Ru_seg (g2 := (26, [(0, .ref 64), (1, .int a), (2, .int v)], [.int 0, .ref 64], (q_cM q_AM q_IM q_J0, 34, 31630))) 3 (fun _ _ => rfl) ?_
              refine q_Ru_call (v := (some (.int 0))) (h2 := (q_cM q_AM (q_uI q_IM 0 39 0) q_J0, 34, 31630)) rfl rfl ?_ ?_
              · refine q_Ca_of (Nat.le_of_ble_eq_true rfl) ?_
                refine q_Ru_seg (g2 := (14, [(0, .ref 64), (1, .int 0)], [.int 0], (q_cM q_AM (q_uI q_IM 0 39 0) q_J0, 34, 31630))) 6 (fun _ _ => rfl) ?_
                exact q_Ru_ret rfl rfl
              show q_Ru _ _ _ (29, [(0, .ref 64), (1, .int a), (2, .int v)], [.int 0], (q_cM q_AM (q_uI q_IM 0 39 0) q_J0, 34, 31630)) _
              refine q_Ru_seg (g2 := (46, [(0, .ref 64), (1, .int a), (2, .int v)], [.int ((32 * v) + a), .ref 69], (q_cM q_AM (q_uI q_IM 0 39 0) q_J0, 34, 31630))) 8 (fun _ _ => rfl) ?_
              refine q_Ru_rsT (g2 := (47, [(0, .ref 64), (1, .int a), (2, .int v)], [.int 0], (q_cM q_AM (q_uI q_IM 0 39 0) q_J0, 34, 31630))) rfl rfl (q_in_lin (k := 32) (v := v) (a := a) (n := 1024) (V := 31) (M := 31) (q_lo1 h150) (q_hi1 h152) (q_lo1 h148) (q_hi1 h149)) ?_
              exact q_Ru_ret rfl rfl
            show q_Ru _ _ _ (6, [(0, .ref 64), (1, .int a), (2, .int v)], [.int 0], (q_cM q_AM (q_uI q_IM 0 39 0) q_J0, 34, 31630)) _
            exact q_Ru_ret rfl rfl
        | false =>
          have h156 : decide (31 < a) = false := q_not_tr (q_tbl1 (fun a => !decide (31 < a)) (l := 0) (n := 31) (by decide +kernel) (q_lo1 h148) (q_hi1 h149))
          cases h157 : decide (31 < v) with
          | true =>
            refine ⟨1, 0, 0, ⟨(q_cX q_AX q_IX q_J0, 40 + 1, 26520 + 6), q_J0 39, ?_, rfl, fun h => absurd h (by decide), Nat.le_of_ble_eq_true rfl, Nat.le_of_ble_eq_true rfl⟩, ⟨(q_cM q_AM (q_uI q_IM 0 39 1) q_J0, 34, 31630), _, ?_, rfl, rfl, Nat.le_of_ble_eq_true rfl, Nat.le_of_ble_eq_true rfl⟩, fun h => absurd h (by decide)⟩
            · refine q_Ca_of (Nat.le_of_ble_eq_true rfl) ?_
              refine q_Ru_seg (g2 := (5, [(0, .ref 64), (1, .int a), (2, .int v), (3, .ref 103)], [.int v, .int a, .ref 64, .int 0, .ref 103], (q_cX q_AX q_IX q_J0, 40, 26520))) 5 (fun _ _ => rfl) ?_
              refine q_Ru_callH (E := "java/lang/IndexOutOfBoundsException") (tg := 15) (i := 4) (h2 := (q_cX q_AX q_IX q_J0, 40 + 1, 26520 + 6)) rfl rfl ?_ rfl ?_
              · refine q_Ca_of (Nat.le_of_ble_eq_true rfl) ?_
                refine q_Ru_seg (g2 := (3, [(0, .ref 64), (1, .int a), (2, .int v)], [.int 32, .int a], (q_cX q_AX q_IX q_J0, 40, 26520))) 2 (fun _ _ => rfl) ?_
                refine q_Ru_call (v := none) (h2 := (q_cX q_AX q_IX q_J0, 40, 26520)) rfl rfl ?_ ?_
                · refine q_Ca_of (Nat.le_of_ble_eq_true rfl) ?_
                  refine q_Ru_seg (g2 := (1, [(0, .int a), (1, .int 32)], [.int a], (q_cX q_AX q_IX q_J0, 40, 26520))) 1 (fun _ _ => rfl) ?_
                  refine q_Ru_rsF (g2 := (4, [(0, .int a), (1, .int 32)], [], (q_cX q_AX q_IX q_J0, 40, 26520))) rfl rfl h148 ?_
                  refine q_Ru_seg (g2 := (6, [(0, .int a), (1, .int 32)], [.int 32, .int a], (q_cX q_AX q_IX q_J0, 40, 26520))) 2 (fun _ _ => rfl) ?_
                  refine q_Ru_rsT (g2 := (19, [(0, .int a), (1, .int 32)], [], (q_cX q_AX q_IX q_J0, 40, 26520))) rfl rfl h149 ?_
                  exact q_Ru_ret rfl rfl
                show q_Ru _ _ _ (6, [(0, .ref 64), (1, .int a), (2, .int v)], [], (q_cX q_AX q_IX q_J0, 40, 26520)) _
                refine q_Ru_seg (g2 := (9, [(0, .ref 64), (1, .int a), (2, .int v)], [.int 32, .int v], (q_cX q_AX q_IX q_J0, 40, 26520))) 2 (fun _ _ => rfl) ?_
                refine q_Ru_callX (E := "java/lang/IndexOutOfBoundsException") (h2 := (q_cX q_AX q_IX q_J0, 40 + 1, 26520 + 6)) rfl rfl ?_
                refine q_Ca_of (Nat.le_of_ble_eq_true rfl) ?_
                refine q_Ru_seg (g2 := (1, [(0, .int v), (1, .int 32)], [.int v], (q_cX q_AX q_IX q_J0, 40, 26520))) 1 (fun _ _ => rfl) ?_
                refine q_Ru_rsF (g2 := (4, [(0, .int v), (1, .int 32)], [], (q_cX q_AX q_IX q_J0, 40, 26520))) rfl rfl h150 ?_
                refine q_Ru_seg (g2 := (6, [(0, .int v), (1, .int 32)], [.int 32, .int v], (q_cX q_AX q_IX q_J0, 40, 26520))) 2 (fun _ _ => rfl) ?_
                refine q_Ru_rsF (g2 := (9, [(0, .int v), (1, .int 32)], [], (q_cX q_AX q_IX q_J0, 40, 26520))) rfl rfl h152 ?_
                exact q_Ru_thr rfl rfl
              show q_Ru _ _ _ (15, [(0, .ref 64), (1, .int a), (2, .int v), (3, .ref 103)], [], (q_cX q_AX q_IX q_J0, 40 + 1, 26520 + 6)) _
              refine q_Ru_seg (g2 := (16, [(0, .ref 64), (1, .int a), (2, .int v), (3, .ref 103)], [.int 1], (q_cX q_AX q_IX q_J0, 40 + 1, 26520 + 6))) 1 (fun _ _ => rfl) ?_
              exact q_Ru_ret rfl rfl
            · refine q_Ca_of (Nat.le_of_ble_eq_true rfl) ?_
              refine q_Ru_seg (g2 := (3, [(0, .ref 64), (1, .int a), (2, .int v)], [.int v, .int a, .ref 64], (q_cM q_AM q_IM q_J0, 34, 31630))) 3 (fun _ _ => rfl) ?_
              refine q_Ru_call (v := (some (.int 0))) (h2 := (q_cM q_AM (q_uI q_IM 0 39 1) q_J0, 34, 31630)) rfl rfl ?_ ?_
              · refine q_Ca_of (Nat.le_of_ble_eq_true rfl) ?_
                refine q_Ru_seg (g2 := (5, [(0, .ref 64), (1, .int a), (2, .int v)], [.int 31, .int 0, .int a, .ref 64], (q_cM q_AM q_IM q_J0, 34, 31630))) 4 (fun _ _ => rfl) ?_
                refine q_Ru_call (v := (some (.int 1))) (h2 := (q_cM q_AM q_IM q_J0, 34, 31630)) rfl rfl ?_ ?_
                · refine q_Ca_of (Nat.le_of_ble_eq_true rfl) ?_
                  refine q_Ru_seg (g2 := (2, [(0, .int a), (1, .int 0), (2, .int 31)], [.int 0, .int a], (q_cM q_AM q_IM q_J0, 34, 31630))) 2 (fun _ _ => rfl) ?_
                  refine q_Ru_rsF (g2 := (5, [(0, .int a), (1, .int 0), (2, .int 31)], [], (q_cM q_AM q_IM q_J0, 34, 31630))) rfl rfl h148 ?_
                  refine q_Ru_seg (g2 := (7, [(0, .int a), (1, .int 0), (2, .int 31)], [.int 31, .int a], (q_cM q_AM q_IM q_J0, 34, 31630))) 2 (fun _ _ => rfl) ?_
                  refine q_Ru_rsF (g2 := (10, [(0, .int a), (1, .int 0), (2, .int 31)], [], (q_cM q_AM q_IM q_J0, 34, 31630))) rfl rfl h156 ?_
                  refine q_Ru_seg (g2 := (15, [(0, .int a), (1, .int 0), (2, .int 31)], [.int 1], (q_cM q_AM q_IM q_J0, 34, 31630))) 2 (fun _ _ => rfl) ?_
                  exact q_Ru_ret rfl rfl
                show q_Ru _ _ _ (8, [(0, .ref 64), (1, .int a), (2, .int v)], [.int 1, .ref 64], (q_cM q_AM q_IM q_J0, 34, 31630)) _
                refine q_Ru_seg (g2 := (15, [(0, .ref 64), (1, .int a), (2, .int v)], [.int 31, .int 0, .int v, .ref 64], (q_cM q_AM q_IM q_J0, 34, 31630))) 4 (fun _ _ => rfl) ?_
                refine q_Ru_call (v := (some (.int 0))) (h2 := (q_cM q_AM q_IM q_J0, 34, 31630)) rfl rfl ?_ ?_
                · refine q_Ca_of (Nat.le_of_ble_eq_true rfl) ?_
                  refine q_Ru_seg (g2 := (2, [(0, .int v), (1, .int 0), (2, .int 31)], [.int 0, .int v], (q_cM q_AM q_IM q_J0, 34, 31630))) 2 (fun _ _ => rfl) ?_
                  refine q_Ru_rsF (g2 := (5, [(0, .int v), (1, .int 0), (2, .int 31)], [], (q_cM q_AM q_IM q_J0, 34, 31630))) rfl rfl h150 ?_
                  refine q_Ru_seg (g2 := (7, [(0, .int v), (1, .int 0), (2, .int 31)], [.int 31, .int v], (q_cM q_AM q_IM q_J0, 34, 31630))) 2 (fun _ _ => rfl) ?_
                  refine q_Ru_rsT (g2 := (14, [(0, .int v), (1, .int 0), (2, .int 31)], [], (q_cM q_AM q_IM q_J0, 34, 31630))) rfl rfl h157 ?_
                  refine q_Ru_seg (g2 := (15, [(0, .int v), (1, .int 0), (2, .int 31)], [.int 0], (q_cM q_AM q_IM q_J0, 34, 31630))) 1 (fun _ _ => rfl) ?_
                  exact q_Ru_ret rfl rfl
                show q_Ru _ _ _ (18, [(0, .ref 64), (1, .int a), (2, .int v)], [.int 0, .ref 64], (q_cM q_AM q_IM q_J0, 34, 31630)) _
                refine q_Ru_seg (g2 := (26, [(0, .ref 64), (1, .int a), (2, .int v)], [.int 1, .ref 64], (q_cM q_AM q_IM q_J0, 34, 31630))) 2 (fun _ _ => rfl) ?_
                refine q_Ru_call (v := (some (.int 1))) (h2 := (q_cM q_AM (q_uI q_IM 0 39 1) q_J0, 34, 31630)) rfl rfl ?_ ?_
                · refine q_Ca_of (Nat.le_of_ble_eq_true rfl) ?_
                  refine q_Ru_seg (g2 := (14, [(0, .ref 64), (1, .int 1)], [.int 1], (q_cM q_AM (q_uI q_IM 0 39 1) q_J0, 34, 31630))) 7 (fun _ _ => rfl) ?_
                  exact q_Ru_ret rfl rfl
                show q_Ru _ _ _ (29, [(0, .ref 64), (1, .int a), (2, .int v)], [.int 1], (q_cM q_AM (q_uI q_IM 0 39 1) q_J0, 34, 31630)) _
                refine q_Ru_seg (g2 := (47, [(0, .ref 64), (1, .int a), (2, .int v)], [.int 0], (q_cM q_AM (q_uI q_IM 0 39 1) q_J0, 34, 31630))) 3 (fun _ _ => rfl) ?_
                exact q_Ru_ret rfl rfl
              show q_Ru _ _ _ (6, [(0, .ref 64), (1, .int a), (2, .int v)], [.int 0], (q_cM q_AM (q_uI q_IM 0 39 1) q_J0, 34, 31630)) _
              exact q_Ru_ret rfl rfl
          | false =>
            exact q_no (q_lo1 h152) (q_hi2 h157) (by decide)
    | false =>
      cases h158 : decide (31 < a) with
      | true =>
        refine ⟨1, 0, 0, ⟨(q_cX q_AX q_IX q_J0, 40 + 1, 26520 + 6), q_J0 39, ?_, rfl, fun h => absurd h (by decide), Nat.le_of_ble_eq_true rfl, Nat.le_of_ble_eq_true rfl⟩, ⟨(q_cM q_AM (q_uI q_IM 0 39 1) q_J0, 34, 31630), _, ?_, rfl, rfl, Nat.le_of_ble_eq_true rfl, Nat.le_of_ble_eq_true rfl⟩, fun h => absurd h (by decide)⟩
        · refine q_Ca_of (Nat.le_of_ble_eq_true rfl) ?_
          refine q_Ru_seg (g2 := (5, [(0, .ref 64), (1, .int a), (2, .int v), (3, .ref 103)], [.int v, .int a, .ref 64, .int 0, .ref 103], (q_cX q_AX q_IX q_J0, 40, 26520))) 5 (fun _ _ => rfl) ?_
          refine q_Ru_callH (E := "java/lang/IndexOutOfBoundsException") (tg := 15) (i := 4) (h2 := (q_cX q_AX q_IX q_J0, 40 + 1, 26520 + 6)) rfl rfl ?_ rfl ?_
          · refine q_Ca_of (Nat.le_of_ble_eq_true rfl) ?_
            refine q_Ru_seg (g2 := (3, [(0, .ref 64), (1, .int a), (2, .int v)], [.int 32, .int a], (q_cX q_AX q_IX q_J0, 40, 26520))) 2 (fun _ _ => rfl) ?_
            refine q_Ru_callX (E := "java/lang/IndexOutOfBoundsException") (h2 := (q_cX q_AX q_IX q_J0, 40 + 1, 26520 + 6)) rfl rfl ?_
            refine q_Ca_of (Nat.le_of_ble_eq_true rfl) ?_
            refine q_Ru_seg (g2 := (1, [(0, .int a), (1, .int 32)], [.int a], (q_cX q_AX q_IX q_J0, 40, 26520))) 1 (fun _ _ => rfl) ?_
            refine q_Ru_rsF (g2 := (4, [(0, .int a), (1, .int 32)], [], (q_cX q_AX q_IX q_J0, 40, 26520))) rfl rfl h148 ?_
            refine q_Ru_seg (g2 := (6, [(0, .int a), (1, .int 32)], [.int 32, .int a], (q_cX q_AX q_IX q_J0, 40, 26520))) 2 (fun _ _ => rfl) ?_
            refine q_Ru_rsF (g2 := (9, [(0, .int a), (1, .int 32)], [], (q_cX q_AX q_IX q_J0, 40, 26520))) rfl rfl h149 ?_
            exact q_Ru_thr rfl rfl
          show q_Ru _ _ _ (15, [(0, .ref 64), (1, .int a), (2, .int v), (3, .ref 103)], [], (q_cX q_AX q_IX q_J0, 40 + 1, 26520 + 6)) _
          refine q_Ru_seg (g2 := (16, [(0, .ref 64), (1, .int a), (2, .int v), (3, .ref 103)], [.int 1], (q_cX q_AX q_IX q_J0, 40 + 1, 26520 + 6))) 1 (fun _ _ => rfl) ?_
          exact q_Ru_ret rfl rfl
        · refine q_Ca_of (Nat.le_of_ble_eq_true rfl) ?_
          refine q_Ru_seg (g2 := (3, [(0, .ref 64), (1, .int a), (2, .int v)], [.int v, .int a, .ref 64], (q_cM q_AM q_IM q_J0, 34, 31630))) 3 (fun _ _ => rfl) ?_
          refine q_Ru_call (v := (some (.int 0))) (h2 := (q_cM q_AM (q_uI q_IM 0 39 1) q_J0, 34, 31630)) rfl rfl ?_ ?_
          · refine q_Ca_of (Nat.le_of_ble_eq_true rfl) ?_
            refine q_Ru_seg (g2 := (5, [(0, .ref 64), (1, .int a), (2, .int v)], [.int 31, .int 0, .int a, .ref 64], (q_cM q_AM q_IM q_J0, 34, 31630))) 4 (fun _ _ => rfl) ?_
            refine q_Ru_call (v := (some (.int 0))) (h2 := (q_cM q_AM q_IM q_J0, 34, 31630)) rfl rfl ?_ ?_
            · refine q_Ca_of (Nat.le_of_ble_eq_true rfl) ?_
              refine q_Ru_seg (g2 := (2, [(0, .int a), (1, .int 0), (2, .int 31)], [.int 0, .int a], (q_cM q_AM q_IM q_J0, 34, 31630))) 2 (fun _ _ => rfl) ?_
              refine q_Ru_rsF (g2 := (5, [(0, .int a), (1, .int 0), (2, .int 31)], [], (q_cM q_AM q_IM q_J0, 34, 31630))) rfl rfl h148 ?_
              refine q_Ru_seg (g2 := (7, [(0, .int a), (1, .int 0), (2, .int 31)], [.int 31, .int a], (q_cM q_AM q_IM q_J0, 34, 31630))) 2 (fun _ _ => rfl) ?_
              refine q_Ru_rsT (g2 := (14, [(0, .int a), (1, .int 0), (2, .int 31)], [], (q_cM q_AM q_IM q_J0, 34, 31630))) rfl rfl h158 ?_
              refine q_Ru_seg (g2 := (15, [(0, .int a), (1, .int 0), (2, .int 31)], [.int 0], (q_cM q_AM q_IM q_J0, 34, 31630))) 1 (fun _ _ => rfl) ?_
              exact q_Ru_ret rfl rfl
            show q_Ru _ _ _ (8, [(0, .ref 64), (1, .int a), (2, .int v)], [.int 0, .ref 64], (q_cM q_AM q_IM q_J0, 34, 31630)) _
            refine q_Ru_seg (g2 := (26, [(0, .ref 64), (1, .int a), (2, .int v)], [.int 1, .ref 64], (q_cM q_AM q_IM q_J0, 34, 31630))) 2 (fun _ _ => rfl) ?_
            refine q_Ru_call (v := (some (.int 1))) (h2 := (q_cM q_AM (q_uI q_IM 0 39 1) q_J0, 34, 31630)) rfl rfl ?_ ?_
            · refine q_Ca_of (Nat.le_of_ble_eq_true rfl) ?_
              refine q_Ru_seg (g2 := (14, [(0, .ref 64), (1, .int 1)], [.int 1], (q_cM q_AM (q_uI q_IM 0 39 1) q_J0, 34, 31630))) 7 (fun _ _ => rfl) ?_
              exact q_Ru_ret rfl rfl
            show q_Ru _ _ _ (29, [(0, .ref 64), (1, .int a), (2, .int v)], [.int 1], (q_cM q_AM (q_uI q_IM 0 39 1) q_J0, 34, 31630)) _
            refine q_Ru_seg (g2 := (47, [(0, .ref 64), (1, .int a), (2, .int v)], [.int 0], (q_cM q_AM (q_uI q_IM 0 39 1) q_J0, 34, 31630))) 3 (fun _ _ => rfl) ?_
            exact q_Ru_ret rfl rfl
          show q_Ru _ _ _ (6, [(0, .ref 64), (1, .int a), (2, .int v)], [.int 0], (q_cM q_AM (q_uI q_IM 0 39 1) q_J0, 34, 31630)) _
          exact q_Ru_ret rfl rfl
      | false =>
        exact q_no (q_lo1 h149) (q_hi2 h158) (by decide)
