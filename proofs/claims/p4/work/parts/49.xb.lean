def dz_X8_64_236 (s : q_S) (a1 : Int32) (a2 : Int32) (a3 : Int32) : Option (q_S × Int32 × Nat) :=
  cond (decide (a1 < 0)) (some (s, 1, 1)) (cond (decide (a1 < 4096)) (cond (decide (a2 < 0)) (some (s, 1, 1)) (cond (decide (a2 < 4096)) (cond (decide (a3 < 1)) (some (s, 2, 1)) (cond (decide (4096 < a3)) (some (s, 2, 1)) ((dz_X36_22 5000 s a1 a2 a3 0 0).bind fun r3 => some ((q_sL s 172 (vp_updL (s.2.2 172) 0 r3.toInt64)), 0, 0)))) (some (s, 1, 1)))) (some (s, 1, 1)))
set_option maxHeartbeats 4000000 in
theorem dzt_X8_64_236 (z L : Nat) (xs : Nat → Int32) (s : q_S) (c n : Nat) (a1 : Int32) (a2 : Int32) (a3 : Int32) (x : q_S × Int32 × Nat) (h : dz_X8_64_236 s a1 a2 a3 = some x) : q_Ca (q_TBs z L xs) 6 8 [.ref 64, .int a1, .int a2, .int a3, .ref 236] (q_kX s c n) ((q_oEX c n) x) := by
  refine q_CaP_of (φ := (q_oEX c n)) (Nat.le_of_ble_eq_true rfl) ?_ h
  clear h
  unfold dz_X8_64_236
  refine q_RP_seg (g2 := (7, [(0, .ref 64), (1, .int a1), (2, .int a2), (3, .int a3), (4, .ref 236)], [.int a3, .int a2, .int a1, .ref 64, .int 0, .ref 236], (q_kX s c n))) 6 (fun _ _ => rfl) ?_
  cases h7 : decide (a1 < 0) with
  | true =>
    refine q_RP_cT ?_
    refine q_RP_callH (E := "java/lang/IndexOutOfBoundsException") (tg := 17) (i := 5) (h2 := (q_kX s (c + 1) (n + 6))) rfl rfl ?_ rfl ?_
    · refine q_Ca_of (Nat.le_of_ble_eq_true rfl) ?_
      refine q_Ru_seg (g2 := (1, [(0, .ref 64), (1, .int a1), (2, .int a2), (3, .int a3)], [.int a1], (q_kX s c n))) 1 (fun _ _ => rfl) ?_
      refine q_Ru_callX (E := "java/lang/IndexOutOfBoundsException") (h2 := (q_kX s (c + 1) (n + 6))) rfl rfl ?_
      refine q_Ca_of (Nat.le_of_ble_eq_true rfl) ?_
      refine q_Ru_seg (g2 := (4, [(0, .int a1)], [.int 4096, .int a1], (q_kX s c n))) 2 (fun _ _ => rfl) ?_
      refine q_Ru_callX (E := "java/lang/IndexOutOfBoundsException") (h2 := (q_kX s (c + 1) (n + 6))) rfl rfl ?_
      refine q_Ca_of (Nat.le_of_ble_eq_true rfl) ?_
      refine q_Ru_seg (g2 := (1, [(0, .int a1), (1, .int 4096)], [.int a1], (q_kX s c n))) 1 (fun _ _ => rfl) ?_
      refine q_Ru_rsT (g2 := (9, [(0, .int a1), (1, .int 4096)], [], (q_kX s c n))) rfl rfl h7 ?_
      exact q_Ru_thr rfl rfl
    show q_RP _ _ _ (17, [(0, .ref 64), (1, .int a1), (2, .int a2), (3, .int a3), (4, .ref 236)], [], (q_kX s (c + 1) (n + 6))) _ _
    refine q_RP_seg (g2 := (18, [(0, .ref 64), (1, .int a1), (2, .int a2), (3, .int a3), (4, .ref 236)], [.int 1], (q_kX s (c + 1) (n + 6)))) 1 (fun _ _ => rfl) ?_
    exact q_RP_ret rfl rfl rfl
  | false =>
    refine q_RP_cF ?_
    cases h8 : decide (a1 < 4096) with
    | true =>
      refine q_RP_cT ?_
      cases h9 : decide (a2 < 0) with
      | true =>
        refine q_RP_cT ?_
        refine q_RP_callH (E := "java/lang/IndexOutOfBoundsException") (tg := 17) (i := 5) (h2 := (q_kX s (c + 1) (n + 6))) rfl rfl ?_ rfl ?_
        · refine q_Ca_of (Nat.le_of_ble_eq_true rfl) ?_
          refine q_Ru_seg (g2 := (1, [(0, .ref 64), (1, .int a1), (2, .int a2), (3, .int a3)], [.int a1], (q_kX s c n))) 1 (fun _ _ => rfl) ?_
          refine q_Ru_call (v := none) (h2 := (q_kX s c n)) rfl rfl ?_ ?_
          · refine q_Ca_of (Nat.le_of_ble_eq_true rfl) ?_
            refine q_Ru_seg (g2 := (4, [(0, .int a1)], [.int 4096, .int a1], (q_kX s c n))) 2 (fun _ _ => rfl) ?_
            refine q_Ru_call (v := none) (h2 := (q_kX s c n)) rfl rfl ?_ ?_
            · refine q_Ca_of (Nat.le_of_ble_eq_true rfl) ?_
              refine q_Ru_seg (g2 := (1, [(0, .int a1), (1, .int 4096)], [.int a1], (q_kX s c n))) 1 (fun _ _ => rfl) ?_
              refine q_Ru_rsF (g2 := (4, [(0, .int a1), (1, .int 4096)], [], (q_kX s c n))) rfl rfl h7 ?_
              refine q_Ru_seg (g2 := (6, [(0, .int a1), (1, .int 4096)], [.int 4096, .int a1], (q_kX s c n))) 2 (fun _ _ => rfl) ?_
              refine q_Ru_rsT (g2 := (19, [(0, .int a1), (1, .int 4096)], [], (q_kX s c n))) rfl rfl h8 ?_
              exact q_Ru_ret rfl rfl
            show q_Ru _ _ _ (7, [(0, .int a1)], [], (q_kX s c n)) _
            exact q_Ru_ret rfl rfl
          show q_Ru _ _ _ (4, [(0, .ref 64), (1, .int a1), (2, .int a2), (3, .int a3)], [], (q_kX s c n)) _
          refine q_Ru_seg (g2 := (5, [(0, .ref 64), (1, .int a1), (2, .int a2), (3, .int a3)], [.int a2], (q_kX s c n))) 1 (fun _ _ => rfl) ?_
          refine q_Ru_callX (E := "java/lang/IndexOutOfBoundsException") (h2 := (q_kX s (c + 1) (n + 6))) rfl rfl ?_
          refine q_Ca_of (Nat.le_of_ble_eq_true rfl) ?_
          refine q_Ru_seg (g2 := (4, [(0, .int a2)], [.int 4096, .int a2], (q_kX s c n))) 2 (fun _ _ => rfl) ?_
          refine q_Ru_callX (E := "java/lang/IndexOutOfBoundsException") (h2 := (q_kX s (c + 1) (n + 6))) rfl rfl ?_
          refine q_Ca_of (Nat.le_of_ble_eq_true rfl) ?_
          refine q_Ru_seg (g2 := (1, [(0, .int a2), (1, .int 4096)], [.int a2], (q_kX s c n))) 1 (fun _ _ => rfl) ?_
          refine q_Ru_rsT (g2 := (9, [(0, .int a2), (1, .int 4096)], [], (q_kX s c n))) rfl rfl h9 ?_
          exact q_Ru_thr rfl rfl
        show q_RP _ _ _ (17, [(0, .ref 64), (1, .int a1), (2, .int a2), (3, .int a3), (4, .ref 236)], [], (q_kX s (c + 1) (n + 6))) _ _
        refine q_RP_seg (g2 := (18, [(0, .ref 64), (1, .int a1), (2, .int a2), (3, .int a3), (4, .ref 236)], [.int 1], (q_kX s (c + 1) (n + 6)))) 1 (fun _ _ => rfl) ?_
        exact q_RP_ret rfl rfl rfl
      | false =>
        refine q_RP_cF ?_
        cases h10 : decide (a2 < 4096) with
        | true =>
          refine q_RP_cT ?_
          cases h11 : decide (a3 < 1) with
          | true =>
            refine q_RP_cT ?_
            refine q_RP_callH (E := "java/lang/IllegalArgumentException") (tg := 21) (i := 5) (h2 := (q_kX s (c + 1) (n + 6))) rfl rfl ?_ rfl ?_
            · refine q_Ca_of (Nat.le_of_ble_eq_true rfl) ?_
              refine q_Ru_seg (g2 := (1, [(0, .ref 64), (1, .int a1), (2, .int a2), (3, .int a3)], [.int a1], (q_kX s c n))) 1 (fun _ _ => rfl) ?_
              refine q_Ru_call (v := none) (h2 := (q_kX s c n)) rfl rfl ?_ ?_
              · refine q_Ca_of (Nat.le_of_ble_eq_true rfl) ?_
                refine q_Ru_seg (g2 := (4, [(0, .int a1)], [.int 4096, .int a1], (q_kX s c n))) 2 (fun _ _ => rfl) ?_
                refine q_Ru_call (v := none) (h2 := (q_kX s c n)) rfl rfl ?_ ?_
                · refine q_Ca_of (Nat.le_of_ble_eq_true rfl) ?_
                  refine q_Ru_seg (g2 := (1, [(0, .int a1), (1, .int 4096)], [.int a1], (q_kX s c n))) 1 (fun _ _ => rfl) ?_
                  refine q_Ru_rsF (g2 := (4, [(0, .int a1), (1, .int 4096)], [], (q_kX s c n))) rfl rfl h7 ?_
                  refine q_Ru_seg (g2 := (6, [(0, .int a1), (1, .int 4096)], [.int 4096, .int a1], (q_kX s c n))) 2 (fun _ _ => rfl) ?_
                  refine q_Ru_rsT (g2 := (19, [(0, .int a1), (1, .int 4096)], [], (q_kX s c n))) rfl rfl h8 ?_
                  exact q_Ru_ret rfl rfl
                show q_Ru _ _ _ (7, [(0, .int a1)], [], (q_kX s c n)) _
                exact q_Ru_ret rfl rfl
              show q_Ru _ _ _ (4, [(0, .ref 64), (1, .int a1), (2, .int a2), (3, .int a3)], [], (q_kX s c n)) _
              refine q_Ru_seg (g2 := (5, [(0, .ref 64), (1, .int a1), (2, .int a2), (3, .int a3)], [.int a2], (q_kX s c n))) 1 (fun _ _ => rfl) ?_
              refine q_Ru_call (v := none) (h2 := (q_kX s c n)) rfl rfl ?_ ?_
              · refine q_Ca_of (Nat.le_of_ble_eq_true rfl) ?_
                refine q_Ru_seg (g2 := (4, [(0, .int a2)], [.int 4096, .int a2], (q_kX s c n))) 2 (fun _ _ => rfl) ?_
                refine q_Ru_call (v := none) (h2 := (q_kX s c n)) rfl rfl ?_ ?_
                · refine q_Ca_of (Nat.le_of_ble_eq_true rfl) ?_
                  refine q_Ru_seg (g2 := (1, [(0, .int a2), (1, .int 4096)], [.int a2], (q_kX s c n))) 1 (fun _ _ => rfl) ?_
                  refine q_Ru_rsF (g2 := (4, [(0, .int a2), (1, .int 4096)], [], (q_kX s c n))) rfl rfl h9 ?_
                  refine q_Ru_seg (g2 := (6, [(0, .int a2), (1, .int 4096)], [.int 4096, .int a2], (q_kX s c n))) 2 (fun _ _ => rfl) ?_
                  refine q_Ru_rsT (g2 := (19, [(0, .int a2), (1, .int 4096)], [], (q_kX s c n))) rfl rfl h10 ?_
                  exact q_Ru_ret rfl rfl
                show q_Ru _ _ _ (7, [(0, .int a2)], [], (q_kX s c n)) _
                exact q_Ru_ret rfl rfl
              show q_Ru _ _ _ (8, [(0, .ref 64), (1, .int a1), (2, .int a2), (3, .int a3)], [], (q_kX s c n)) _
              refine q_Ru_seg (g2 := (13, [(0, .ref 64), (1, .int a1), (2, .int a2), (3, .int a3)], [.int 4096, .int 1, .int a3], (q_kX s c n))) 3 (fun _ _ => rfl) ?_
              refine q_Ru_callX (E := "java/lang/IllegalArgumentException") (h2 := (q_kX s (c + 1) (n + 6))) rfl rfl ?_
              refine q_Ca_of (Nat.le_of_ble_eq_true rfl) ?_
              refine q_Ru_seg (g2 := (2, [(0, .int a3), (1, .int 1), (2, .int 4096)], [.int 1, .int a3], (q_kX s c n))) 2 (fun _ _ => rfl) ?_
              refine q_Ru_rsT (g2 := (10, [(0, .int a3), (1, .int 1), (2, .int 4096)], [], (q_kX s c n))) rfl rfl h11 ?_
              exact q_Ru_thr rfl rfl
            show q_RP _ _ _ (21, [(0, .ref 64), (1, .int a1), (2, .int a2), (3, .int a3), (4, .ref 236)], [], (q_kX s (c + 1) (n + 6))) _ _
            refine q_RP_seg (g2 := (22, [(0, .ref 64), (1, .int a1), (2, .int a2), (3, .int a3), (4, .ref 236)], [.int 2], (q_kX s (c + 1) (n + 6)))) 1 (fun _ _ => rfl) ?_
            exact q_RP_ret rfl rfl rfl
          | false =>
            refine q_RP_cF ?_
            cases h12 : decide (4096 < a3) with
            | true =>
              refine q_RP_cT ?_
              refine q_RP_callH (E := "java/lang/IllegalArgumentException") (tg := 21) (i := 5) (h2 := (q_kX s (c + 1) (n + 6))) rfl rfl ?_ rfl ?_
              · refine q_Ca_of (Nat.le_of_ble_eq_true rfl) ?_
                refine q_Ru_seg (g2 := (1, [(0, .ref 64), (1, .int a1), (2, .int a2), (3, .int a3)], [.int a1], (q_kX s c n))) 1 (fun _ _ => rfl) ?_
                refine q_Ru_call (v := none) (h2 := (q_kX s c n)) rfl rfl ?_ ?_
                · refine q_Ca_of (Nat.le_of_ble_eq_true rfl) ?_
                  refine q_Ru_seg (g2 := (4, [(0, .int a1)], [.int 4096, .int a1], (q_kX s c n))) 2 (fun _ _ => rfl) ?_
                  refine q_Ru_call (v := none) (h2 := (q_kX s c n)) rfl rfl ?_ ?_
                  · refine q_Ca_of (Nat.le_of_ble_eq_true rfl) ?_
                    refine q_Ru_seg (g2 := (1, [(0, .int a1), (1, .int 4096)], [.int a1], (q_kX s c n))) 1 (fun _ _ => rfl) ?_
                    refine q_Ru_rsF (g2 := (4, [(0, .int a1), (1, .int 4096)], [], (q_kX s c n))) rfl rfl h7 ?_
                    refine q_Ru_seg (g2 := (6, [(0, .int a1), (1, .int 4096)], [.int 4096, .int a1], (q_kX s c n))) 2 (fun _ _ => rfl) ?_
                    refine q_Ru_rsT (g2 := (19, [(0, .int a1), (1, .int 4096)], [], (q_kX s c n))) rfl rfl h8 ?_
                    exact q_Ru_ret rfl rfl
                  show q_Ru _ _ _ (7, [(0, .int a1)], [], (q_kX s c n)) _
                  exact q_Ru_ret rfl rfl
                show q_Ru _ _ _ (4, [(0, .ref 64), (1, .int a1), (2, .int a2), (3, .int a3)], [], (q_kX s c n)) _
                refine q_Ru_seg (g2 := (5, [(0, .ref 64), (1, .int a1), (2, .int a2), (3, .int a3)], [.int a2], (q_kX s c n))) 1 (fun _ _ => rfl) ?_
                refine q_Ru_call (v := none) (h2 := (q_kX s c n)) rfl rfl ?_ ?_
                · refine q_Ca_of (Nat.le_of_ble_eq_true rfl) ?_
                  refine q_Ru_seg (g2 := (4, [(0, .int a2)], [.int 4096, .int a2], (q_kX s c n))) 2 (fun _ _ => rfl) ?_
                  refine q_Ru_call (v := none) (h2 := (q_kX s c n)) rfl rfl ?_ ?_
                  · refine q_Ca_of (Nat.le_of_ble_eq_true rfl) ?_
                    refine q_Ru_seg (g2 := (1, [(0, .int a2), (1, .int 4096)], [.int a2], (q_kX s c n))) 1 (fun _ _ => rfl) ?_
                    refine q_Ru_rsF (g2 := (4, [(0, .int a2), (1, .int 4096)], [], (q_kX s c n))) rfl rfl h9 ?_
                    refine q_Ru_seg (g2 := (6, [(0, .int a2), (1, .int 4096)], [.int 4096, .int a2], (q_kX s c n))) 2 (fun _ _ => rfl) ?_
                    refine q_Ru_rsT (g2 := (19, [(0, .int a2), (1, .int 4096)], [], (q_kX s c n))) rfl rfl h10 ?_
                    exact q_Ru_ret rfl rfl
                  show q_Ru _ _ _ (7, [(0, .int a2)], [], (q_kX s c n)) _
                  exact q_Ru_ret rfl rfl
                show q_Ru _ _ _ (8, [(0, .ref 64), (1, .int a1), (2, .int a2), (3, .int a3)], [], (q_kX s c n)) _
                refine q_Ru_seg (g2 := (13, [(0, .ref 64), (1, .int a1), (2, .int a2), (3, .int a3)], [.int 4096, .int 1, .int a3], (q_kX s c n))) 3 (fun _ _ => rfl) ?_
                refine q_Ru_callX (E := "java/lang/IllegalArgumentException") (h2 := (q_kX s (c + 1) (n + 6))) rfl rfl ?_
                refine q_Ca_of (Nat.le_of_ble_eq_true rfl) ?_
                refine q_Ru_seg (g2 := (2, [(0, .int a3), (1, .int 1), (2, .int 4096)], [.int 1, .int a3], (q_kX s c n))) 2 (fun _ _ => rfl) ?_
                refine q_Ru_rsF (g2 := (5, [(0, .int a3), (1, .int 1), (2, .int 4096)], [], (q_kX s c n))) rfl rfl h11 ?_
                refine q_Ru_seg (g2 := (7, [(0, .int a3), (1, .int 1), (2, .int 4096)], [.int 4096, .int a3], (q_kX s c n))) 2 (fun _ _ => rfl) ?_
                refine q_Ru_rsF (g2 := (10, [(0, .int a3), (1, .int 1), (2, .int 4096)], [], (q_kX s c n))) rfl rfl (q_d_geT h12) ?_
                exact q_Ru_thr rfl rfl
              show q_RP _ _ _ (21, [(0, .ref 64), (1, .int a1), (2, .int a2), (3, .int a3), (4, .ref 236)], [], (q_kX s (c + 1) (n + 6))) _ _
              refine q_RP_seg (g2 := (22, [(0, .ref 64), (1, .int a1), (2, .int a2), (3, .int a3), (4, .ref 236)], [.int 2], (q_kX s (c + 1) (n + 6)))) 1 (fun _ _ => rfl) ?_
              exact q_RP_ret rfl rfl rfl
            | false =>
              refine q_RP_cF ?_
              refine q_RP_bd fun r3 er3 => ?_
              refine q_RP_call (v := (some (.int r3))) (h2 := (q_kX s c n)) rfl rfl ?_ ?_
              · refine q_Ca_of (Nat.le_of_ble_eq_true rfl) ?_
                refine q_Ru_seg (g2 := (1, [(0, .ref 64), (1, .int a1), (2, .int a2), (3, .int a3)], [.int a1], (q_kX s c n))) 1 (fun _ _ => rfl) ?_
                refine q_Ru_call (v := none) (h2 := (q_kX s c n)) rfl rfl ?_ ?_
                · refine q_Ca_of (Nat.le_of_ble_eq_true rfl) ?_
                  refine q_Ru_seg (g2 := (4, [(0, .int a1)], [.int 4096, .int a1], (q_kX s c n))) 2 (fun _ _ => rfl) ?_
                  refine q_Ru_call (v := none) (h2 := (q_kX s c n)) rfl rfl ?_ ?_
                  · refine q_Ca_of (Nat.le_of_ble_eq_true rfl) ?_
                    refine q_Ru_seg (g2 := (1, [(0, .int a1), (1, .int 4096)], [.int a1], (q_kX s c n))) 1 (fun _ _ => rfl) ?_
                    refine q_Ru_rsF (g2 := (4, [(0, .int a1), (1, .int 4096)], [], (q_kX s c n))) rfl rfl h7 ?_
                    refine q_Ru_seg (g2 := (6, [(0, .int a1), (1, .int 4096)], [.int 4096, .int a1], (q_kX s c n))) 2 (fun _ _ => rfl) ?_
                    refine q_Ru_rsT (g2 := (19, [(0, .int a1), (1, .int 4096)], [], (q_kX s c n))) rfl rfl h8 ?_
                    exact q_Ru_ret rfl rfl
                  show q_Ru _ _ _ (7, [(0, .int a1)], [], (q_kX s c n)) _
                  exact q_Ru_ret rfl rfl
                show q_Ru _ _ _ (4, [(0, .ref 64), (1, .int a1), (2, .int a2), (3, .int a3)], [], (q_kX s c n)) _
                refine q_Ru_seg (g2 := (5, [(0, .ref 64), (1, .int a1), (2, .int a2), (3, .int a3)], [.int a2], (q_kX s c n))) 1 (fun _ _ => rfl) ?_
                refine q_Ru_call (v := none) (h2 := (q_kX s c n)) rfl rfl ?_ ?_
                · refine q_Ca_of (Nat.le_of_ble_eq_true rfl) ?_
                  refine q_Ru_seg (g2 := (4, [(0, .int a2)], [.int 4096, .int a2], (q_kX s c n))) 2 (fun _ _ => rfl) ?_
                  refine q_Ru_call (v := none) (h2 := (q_kX s c n)) rfl rfl ?_ ?_
                  · refine q_Ca_of (Nat.le_of_ble_eq_true rfl) ?_
                    refine q_Ru_seg (g2 := (1, [(0, .int a2), (1, .int 4096)], [.int a2], (q_kX s c n))) 1 (fun _ _ => rfl) ?_
                    refine q_Ru_rsF (g2 := (4, [(0, .int a2), (1, .int 4096)], [], (q_kX s c n))) rfl rfl h9 ?_
                    refine q_Ru_seg (g2 := (6, [(0, .int a2), (1, .int 4096)], [.int 4096, .int a2], (q_kX s c n))) 2 (fun _ _ => rfl) ?_
                    refine q_Ru_rsT (g2 := (19, [(0, .int a2), (1, .int 4096)], [], (q_kX s c n))) rfl rfl h10 ?_
                    exact q_Ru_ret rfl rfl
                  show q_Ru _ _ _ (7, [(0, .int a2)], [], (q_kX s c n)) _
                  exact q_Ru_ret rfl rfl
                show q_Ru _ _ _ (8, [(0, .ref 64), (1, .int a1), (2, .int a2), (3, .int a3)], [], (q_kX s c n)) _
                refine q_Ru_seg (g2 := (13, [(0, .ref 64), (1, .int a1), (2, .int a2), (3, .int a3)], [.int 4096, .int 1, .int a3], (q_kX s c n))) 3 (fun _ _ => rfl) ?_
                refine q_Ru_call (v := none) (h2 := (q_kX s c n)) rfl rfl ?_ ?_
                · refine q_Ca_of (Nat.le_of_ble_eq_true rfl) ?_
                  refine q_Ru_seg (g2 := (2, [(0, .int a3), (1, .int 1), (2, .int 4096)], [.int 1, .int a3], (q_kX s c n))) 2 (fun _ _ => rfl) ?_
                  refine q_Ru_rsF (g2 := (5, [(0, .int a3), (1, .int 1), (2, .int 4096)], [], (q_kX s c n))) rfl rfl h11 ?_
                  refine q_Ru_seg (g2 := (7, [(0, .int a3), (1, .int 1), (2, .int 4096)], [.int 4096, .int a3], (q_kX s c n))) 2 (fun _ _ => rfl) ?_
                  refine q_Ru_rsT (g2 := (20, [(0, .int a3), (1, .int 1), (2, .int 4096)], [], (q_kX s c n))) rfl rfl (q_d_geF h12) ?_
                  exact q_Ru_ret rfl rfl
                show q_Ru _ _ _ (16, [(0, .ref 64), (1, .int a1), (2, .int a2), (3, .int a3)], [], (q_kX s c n)) _
                refine q_Ru_seg (g2 := (22, [(5, .int 0), (4, .int 0), (0, .ref 64), (1, .int a1), (2, .int a2), (3, .int a3)], [], (q_kX s c n))) 4 (fun _ _ => rfl) ?_
                exact q_Ru_xt (q_xt_mk (q_mn1 2 rfl (q_mn1 3 rfl (q_mn1 4 rfl (q_mn1 5 rfl (q_mn1 1 rfl (q_mn1 0 rfl q_mn0)))))) rfl) (q_Ru_le (Nat.le_of_ble_eq_true rfl) (dzt_X36_22 z L xs c n s 5000 a1 a2 a3 0 0 r3 er3))
              show q_RP _ _ _ (10, [(0, .ref 64), (1, .int a1), (2, .int a2), (3, .int a3), (4, .ref 236)], [.int r3, .int 0, .ref 236], (q_kX s c n)) _ _
              refine q_RP_seg (g2 := (11, [(0, .ref 64), (1, .int a1), (2, .int a2), (3, .int a3), (4, .ref 236)], [.long r3.toInt64, .int 0, .ref 236], (q_kX s c n))) 1 (fun _ _ => rfl) ?_
              refine q_RP_rsT (g2 := (12, [(0, .ref 64), (1, .int a1), (2, .int a2), (3, .int a3), (4, .ref 236)], [], (q_kX (q_sL s 172 (vp_updL (s.2.2 172) 0 r3.toInt64)) c n))) rfl q_wX172 rfl ?_
              refine q_RP_seg (g2 := (24, [(0, .ref 64), (1, .int a1), (2, .int a2), (3, .int a3), (4, .ref 236)], [.int 0], (q_kX (q_sL s 172 (vp_updL (s.2.2 172) 0 r3.toInt64)) c n))) 2 (fun _ _ => rfl) ?_
              exact q_RP_ret rfl rfl rfl
        | false =>
          refine q_RP_cF ?_
          refine q_RP_callH (E := "java/lang/IndexOutOfBoundsException") (tg := 17) (i := 5) (h2 := (q_kX s (c + 1) (n + 6))) rfl rfl ?_ rfl ?_
          · refine q_Ca_of (Nat.le_of_ble_eq_true rfl) ?_
            refine q_Ru_seg (g2 := (1, [(0, .ref 64), (1, .int a1), (2, .int a2), (3, .int a3)], [.int a1], (q_kX s c n))) 1 (fun _ _ => rfl) ?_
            refine q_Ru_call (v := none) (h2 := (q_kX s c n)) rfl rfl ?_ ?_
            · refine q_Ca_of (Nat.le_of_ble_eq_true rfl) ?_
              refine q_Ru_seg (g2 := (4, [(0, .int a1)], [.int 4096, .int a1], (q_kX s c n))) 2 (fun _ _ => rfl) ?_
              refine q_Ru_call (v := none) (h2 := (q_kX s c n)) rfl rfl ?_ ?_
              · refine q_Ca_of (Nat.le_of_ble_eq_true rfl) ?_
                refine q_Ru_seg (g2 := (1, [(0, .int a1), (1, .int 4096)], [.int a1], (q_kX s c n))) 1 (fun _ _ => rfl) ?_
                refine q_Ru_rsF (g2 := (4, [(0, .int a1), (1, .int 4096)], [], (q_kX s c n))) rfl rfl h7 ?_
                refine q_Ru_seg (g2 := (6, [(0, .int a1), (1, .int 4096)], [.int 4096, .int a1], (q_kX s c n))) 2 (fun _ _ => rfl) ?_
                refine q_Ru_rsT (g2 := (19, [(0, .int a1), (1, .int 4096)], [], (q_kX s c n))) rfl rfl h8 ?_
                exact q_Ru_ret rfl rfl
              show q_Ru _ _ _ (7, [(0, .int a1)], [], (q_kX s c n)) _
              exact q_Ru_ret rfl rfl
            show q_Ru _ _ _ (4, [(0, .ref 64), (1, .int a1), (2, .int a2), (3, .int a3)], [], (q_kX s c n)) _
            refine q_Ru_seg (g2 := (5, [(0, .ref 64), (1, .int a1), (2, .int a2), (3, .int a3)], [.int a2], (q_kX s c n))) 1 (fun _ _ => rfl) ?_
            refine q_Ru_callX (E := "java/lang/IndexOutOfBoundsException") (h2 := (q_kX s (c + 1) (n + 6))) rfl rfl ?_
            refine q_Ca_of (Nat.le_of_ble_eq_true rfl) ?_
            refine q_Ru_seg (g2 := (4, [(0, .int a2)], [.int 4096, .int a2], (q_kX s c n))) 2 (fun _ _ => rfl) ?_
            refine q_Ru_callX (E := "java/lang/IndexOutOfBoundsException") (h2 := (q_kX s (c + 1) (n + 6))) rfl rfl ?_
            refine q_Ca_of (Nat.le_of_ble_eq_true rfl) ?_
            refine q_Ru_seg (g2 := (1, [(0, .int a2), (1, .int 4096)], [.int a2], (q_kX s c n))) 1 (fun _ _ => rfl) ?_
            refine q_Ru_rsF (g2 := (4, [(0, .int a2), (1, .int 4096)], [], (q_kX s c n))) rfl rfl h9 ?_
            refine q_Ru_seg (g2 := (6, [(0, .int a2), (1, .int 4096)], [.int 4096, .int a2], (q_kX s c n))) 2 (fun _ _ => rfl) ?_
            refine q_Ru_rsF (g2 := (9, [(0, .int a2), (1, .int 4096)], [], (q_kX s c n))) rfl rfl h10 ?_
            exact q_Ru_thr rfl rfl
          show q_RP _ _ _ (17, [(0, .ref 64), (1, .int a1), (2, .int a2), (3, .int a3), (4, .ref 236)], [], (q_kX s (c + 1) (n + 6))) _ _
          refine q_RP_seg (g2 := (18, [(0, .ref 64), (1, .int a1), (2, .int a2), (3, .int a3), (4, .ref 236)], [.int 1], (q_kX s (c + 1) (n + 6)))) 1 (fun _ _ => rfl) ?_
          exact q_RP_ret rfl rfl rfl
    | false =>
      refine q_RP_cF ?_
      refine q_RP_callH (E := "java/lang/IndexOutOfBoundsException") (tg := 17) (i := 5) (h2 := (q_kX s (c + 1) (n + 6))) rfl rfl ?_ rfl ?_
      · refine q_Ca_of (Nat.le_of_ble_eq_true rfl) ?_
        refine q_Ru_seg (g2 := (1, [(0, .ref 64), (1, .int a1), (2, .int a2), (3, .int a3)], [.int a1], (q_kX s c n))) 1 (fun _ _ => rfl) ?_
        refine q_Ru_callX (E := "java/lang/IndexOutOfBoundsException") (h2 := (q_kX s (c + 1) (n + 6))) rfl rfl ?_
        refine q_Ca_of (Nat.le_of_ble_eq_true rfl) ?_
        refine q_Ru_seg (g2 := (4, [(0, .int a1)], [.int 4096, .int a1], (q_kX s c n))) 2 (fun _ _ => rfl) ?_
        refine q_Ru_callX (E := "java/lang/IndexOutOfBoundsException") (h2 := (q_kX s (c + 1) (n + 6))) rfl rfl ?_
        refine q_Ca_of (Nat.le_of_ble_eq_true rfl) ?_
        refine q_Ru_seg (g2 := (1, [(0, .int a1), (1, .int 4096)], [.int a1], (q_kX s c n))) 1 (fun _ _ => rfl) ?_
        refine q_Ru_rsF (g2 := (4, [(0, .int a1), (1, .int 4096)], [], (q_kX s c n))) rfl rfl h7 ?_
        refine q_Ru_seg (g2 := (6, [(0, .int a1), (1, .int 4096)], [.int 4096, .int a1], (q_kX s c n))) 2 (fun _ _ => rfl) ?_
        refine q_Ru_rsF (g2 := (9, [(0, .int a1), (1, .int 4096)], [], (q_kX s c n))) rfl rfl h8 ?_
        exact q_Ru_thr rfl rfl
      show q_RP _ _ _ (17, [(0, .ref 64), (1, .int a1), (2, .int a2), (3, .int a3), (4, .ref 236)], [], (q_kX s (c + 1) (n + 6))) _ _
      refine q_RP_seg (g2 := (18, [(0, .ref 64), (1, .int a1), (2, .int a2), (3, .int a3), (4, .ref 236)], [.int 1], (q_kX s (c + 1) (n + 6)))) 1 (fun _ _ => rfl) ?_
      exact q_RP_ret rfl rfl rfl
def dz_X9_64_236 (s : q_S) (a1 : Int32) : q_S × Int32 × Nat :=
  cond (decide (a1 < 0)) ((s, 1, 1)) (cond (decide (a1 < 5)) (q_let (dz_N133_87 (q_vw 32 1 73 s) a1) fun r1 => ((q_sL s 172 (vp_updL (s.2.2 172) 0 r1.toInt64)), 0, 0)) ((s, 1, 1)))
set_option maxHeartbeats 4000000 in
theorem dzt_X9_64_236 (z L : Nat) (xs : Nat → Int32) (s : q_S) (c n : Nat) (a1 : Int32) : q_Ca (q_TBs z L xs) 4 9 [.ref 64, .int a1, .ref 236] (q_kX s c n) ((q_oEX c n) (dz_X9_64_236 s a1)) := by
  refine q_CaT_of (φ := (q_oEX c n)) (Nat.le_of_ble_eq_true rfl) ?_
  unfold dz_X9_64_236
  refine q_RT_seg (g2 := (4, [(0, .ref 64), (1, .int a1), (2, .ref 236)], [.int a1, .ref 64, .int 0, .ref 236], (q_kX s c n))) 4 (fun _ _ => rfl) ?_
  cases h1 : decide (a1 < 0) with
  | true =>
    refine q_RT_cT ?_
    refine q_RT_callH (E := "java/lang/IndexOutOfBoundsException") (tg := 13) (i := 3) (h2 := (q_kX s (c + 1) (n + 6))) rfl rfl ?_ rfl ?_
    · refine q_Ca_of (Nat.le_of_ble_eq_true rfl) ?_
      refine q_Ru_seg (g2 := (2, [(0, .ref 64), (1, .int a1)], [.int 5, .int a1], (q_kX s c n))) 2 (fun _ _ => rfl) ?_
      refine q_Ru_callX (E := "java/lang/IndexOutOfBoundsException") (h2 := (q_kX s (c + 1) (n + 6))) rfl rfl ?_
      refine q_Ca_of (Nat.le_of_ble_eq_true rfl) ?_
      refine q_Ru_seg (g2 := (1, [(0, .int a1), (1, .int 5)], [.int a1], (q_kX s c n))) 1 (fun _ _ => rfl) ?_
      refine q_Ru_rsT (g2 := (9, [(0, .int a1), (1, .int 5)], [], (q_kX s c n))) rfl rfl h1 ?_
      exact q_Ru_thr rfl rfl
    show q_RT _ _ _ (13, [(0, .ref 64), (1, .int a1), (2, .ref 236)], [], (q_kX s (c + 1) (n + 6))) _ _
    refine q_RT_seg (g2 := (14, [(0, .ref 64), (1, .int a1), (2, .ref 236)], [.int 1], (q_kX s (c + 1) (n + 6)))) 1 (fun _ _ => rfl) ?_
    exact q_RT_ret rfl rfl rfl
  | false =>
    refine q_RT_cF ?_
    cases h2 : decide (a1 < 5) with
    | true =>
      refine q_RT_cT ?_
      generalize er1 : dz_N133_87 (q_vw 32 1 73 s) a1 = r1
      refine q_RT_let ?_
      refine q_RT_call (v := (some (.int r1))) (h2 := (q_kX s c n)) rfl rfl ?_ ?_
      · refine q_Ca_of (Nat.le_of_ble_eq_true rfl) ?_
        refine q_Ru_seg (g2 := (2, [(0, .ref 64), (1, .int a1)], [.int 5, .int a1], (q_kX s c n))) 2 (fun _ _ => rfl) ?_
        refine q_Ru_call (v := none) (h2 := (q_kX s c n)) rfl rfl ?_ ?_
        · refine q_Ca_of (Nat.le_of_ble_eq_true rfl) ?_
          refine q_Ru_seg (g2 := (1, [(0, .int a1), (1, .int 5)], [.int a1], (q_kX s c n))) 1 (fun _ _ => rfl) ?_
          refine q_Ru_rsF (g2 := (4, [(0, .int a1), (1, .int 5)], [], (q_kX s c n))) rfl rfl h1 ?_
          refine q_Ru_seg (g2 := (6, [(0, .int a1), (1, .int 5)], [.int 5, .int a1], (q_kX s c n))) 2 (fun _ _ => rfl) ?_
          refine q_Ru_rsT (g2 := (19, [(0, .int a1), (1, .int 5)], [], (q_kX s c n))) rfl rfl h2 ?_
          exact q_Ru_ret rfl rfl
        show q_Ru _ _ _ (5, [(0, .ref 64), (1, .int a1)], [], (q_kX s c n)) _
        refine q_Ru_seg (g2 := (13, [(0, .ref 64), (1, .int a1)], [.int a1, .ref 88], (q_kX s c n))) 4 (fun _ _ => rfl) ?_
        refine q_Ru_call (v := (some (.int r1))) (h2 := (q_kX s c n)) rfl rfl ?_ ?_
        · exact (q_emNX_1p rfl (fun _ => rfl) ((q_cE (φ := (q_oP (q_kN (q_vw 32 1 73 s) c n))) er1 (dzt_N133_87 (q_vw 32 1 73 s) c n a1)).tb q_TB0_le)).le (Nat.le_of_ble_eq_true rfl)
        show q_Ru _ _ _ (16, [(0, .ref 64), (1, .int a1)], [.int r1], (q_kX s c n)) _
        exact q_Ru_ret rfl rfl
      show q_RT _ _ _ (7, [(0, .ref 64), (1, .int a1), (2, .ref 236)], [.int r1, .int 0, .ref 236], (q_kX s c n)) _ _
      refine q_RT_seg (g2 := (8, [(0, .ref 64), (1, .int a1), (2, .ref 236)], [.long r1.toInt64, .int 0, .ref 236], (q_kX s c n))) 1 (fun _ _ => rfl) ?_
      refine q_RT_rsT (g2 := (9, [(0, .ref 64), (1, .int a1), (2, .ref 236)], [], (q_kX (q_sL s 172 (vp_updL (s.2.2 172) 0 r1.toInt64)) c n))) rfl q_wX172 rfl ?_
      refine q_RT_seg (g2 := (16, [(0, .ref 64), (1, .int a1), (2, .ref 236)], [.int 0], (q_kX (q_sL s 172 (vp_updL (s.2.2 172) 0 r1.toInt64)) c n))) 2 (fun _ _ => rfl) ?_
      exact q_RT_ret rfl rfl rfl
    | false =>
      refine q_RT_cF ?_
      refine q_RT_callH (E := "java/lang/IndexOutOfBoundsException") (tg := 13) (i := 3) (h2 := (q_kX s (c + 1) (n + 6))) rfl rfl ?_ rfl ?_
      · refine q_Ca_of (Nat.le_of_ble_eq_true rfl) ?_
        refine q_Ru_seg (g2 := (2, [(0, .ref 64), (1, .int a1)], [.int 5, .int a1], (q_kX s c n))) 2 (fun _ _ => rfl) ?_
        refine q_Ru_callX (E := "java/lang/IndexOutOfBoundsException") (h2 := (q_kX s (c + 1) (n + 6))) rfl rfl ?_
        refine q_Ca_of (Nat.le_of_ble_eq_true rfl) ?_
        refine q_Ru_seg (g2 := (1, [(0, .int a1), (1, .int 5)], [.int a1], (q_kX s c n))) 1 (fun _ _ => rfl) ?_
        refine q_Ru_rsF (g2 := (4, [(0, .int a1), (1, .int 5)], [], (q_kX s c n))) rfl rfl h1 ?_
        refine q_Ru_seg (g2 := (6, [(0, .int a1), (1, .int 5)], [.int 5, .int a1], (q_kX s c n))) 2 (fun _ _ => rfl) ?_
        refine q_Ru_rsF (g2 := (9, [(0, .int a1), (1, .int 5)], [], (q_kX s c n))) rfl rfl h2 ?_
        exact q_Ru_thr rfl rfl
      show q_RT _ _ _ (13, [(0, .ref 64), (1, .int a1), (2, .ref 236)], [], (q_kX s (c + 1) (n + 6))) _ _
      refine q_RT_seg (g2 := (14, [(0, .ref 64), (1, .int a1), (2, .ref 236)], [.int 1], (q_kX s (c + 1) (n + 6)))) 1 (fun _ _ => rfl) ?_
      exact q_RT_ret rfl rfl rfl
def dz_X10_64_236 (s : q_S) (a1 : Int32) (a2 : Int32) : Option (q_S × Int32 × Nat) :=
  cond (decide (a1 < 0)) (some (s, 1, 1)) (cond (decide (a1 < 5)) (cond (decide (a1 = 4)) (cond (decide (a2 < 0)) (some (s, 2, 1)) (cond (decide (4095 < a2)) (some (s, 2, 1)) (cond (decide (0 < s.2.1 24 9)) (some (s, 3, 1)) (q_let (dz_X184_98 s 4 a1 a2 0) fun r2 => (dz_N79_64 (q_vw 32 1 73 r2) 4 a1 a2 0).bind fun r3 => some ((q_sL (q_pt 32 3 1 73 r2 r3.1) 172 (vp_updL ((q_pt 32 3 1 73 r2 r3.1).2.2 172) 0 r3.2.toInt64)), 0, 0))))) (cond (decide (a2 < 0)) (some (s, 2, 1)) (cond (decide (255 < a2)) (some (s, 2, 1)) (cond (decide (0 < s.2.1 24 9)) (some (s, 3, 1)) (q_let (dz_X184_98 s 4 a1 a2 0) fun r4 => (dz_N79_64 (q_vw 32 1 73 r4) 4 a1 a2 0).bind fun r5 => some ((q_sL (q_pt 32 3 1 73 r4 r5.1) 172 (vp_updL ((q_pt 32 3 1 73 r4 r5.1).2.2 172) 0 r5.2.toInt64)), 0, 0)))))) (some (s, 1, 1)))
set_option maxHeartbeats 4000000 in
theorem dzt_X10_64_236 (z L : Nat) (xs : Nat → Int32) (s : q_S) (c n : Nat) (a1 : Int32) (a2 : Int32) (x : q_S × Int32 × Nat) (h : dz_X10_64_236 s a1 a2 = some x) : q_Ca (q_TBs z L xs) 10 10 [.ref 64, .int a1, .int a2, .ref 236] (q_kX s c n) ((q_oEX c n) x) := by
  refine q_CaP_of (φ := (q_oEX c n)) (Nat.le_of_ble_eq_true rfl) ?_ h
  clear h
  unfold dz_X10_64_236
  refine q_RP_seg (g2 := (5, [(0, .ref 64), (1, .int a1), (2, .int a2), (3, .ref 236)], [.int a2, .int a1, .ref 64, .int 0, .ref 236], (q_kX s c n))) 5 (fun _ _ => rfl) ?_
  cases h7 : decide (a1 < 0) with
  | true =>
    refine q_RP_cT ?_
    refine q_RP_callH (E := "java/lang/IndexOutOfBoundsException") (tg := 15) (i := 4) (h2 := (q_kX s (c + 1) (n + 6))) rfl rfl ?_ rfl ?_
    · refine q_Ca_of (Nat.le_of_ble_eq_true rfl) ?_
      refine q_Ru_seg (g2 := (2, [(0, .ref 64), (1, .int a1), (2, .int a2)], [.int 5, .int a1], (q_kX s c n))) 2 (fun _ _ => rfl) ?_
      refine q_Ru_callX (E := "java/lang/IndexOutOfBoundsException") (h2 := (q_kX s (c + 1) (n + 6))) rfl rfl ?_
      refine q_Ca_of (Nat.le_of_ble_eq_true rfl) ?_
      refine q_Ru_seg (g2 := (1, [(0, .int a1), (1, .int 5)], [.int a1], (q_kX s c n))) 1 (fun _ _ => rfl) ?_
      refine q_Ru_rsT (g2 := (9, [(0, .int a1), (1, .int 5)], [], (q_kX s c n))) rfl rfl h7 ?_
      exact q_Ru_thr rfl rfl
    show q_RP _ _ _ (15, [(0, .ref 64), (1, .int a1), (2, .int a2), (3, .ref 236)], [], (q_kX s (c + 1) (n + 6))) _ _
    refine q_RP_seg (g2 := (16, [(0, .ref 64), (1, .int a1), (2, .int a2), (3, .ref 236)], [.int 1], (q_kX s (c + 1) (n + 6)))) 1 (fun _ _ => rfl) ?_
    exact q_RP_ret rfl rfl rfl
  | false =>
    refine q_RP_cF ?_
    cases h8 : decide (a1 < 5) with
    | true =>
      refine q_RP_cT ?_
      cases h9 : decide (a1 = 4) with
      | true =>
        refine q_RP_cT ?_
        cases h10 : decide (a2 < 0) with
        | true =>
          refine q_RP_cT ?_
          refine q_RP_callH (E := "java/lang/IllegalArgumentException") (tg := 19) (i := 4) (h2 := (q_kX s (c + 1) (n + 6))) rfl rfl ?_ rfl ?_
          · refine q_Ca_of (Nat.le_of_ble_eq_true rfl) ?_
            refine q_Ru_seg (g2 := (2, [(0, .ref 64), (1, .int a1), (2, .int a2)], [.int 5, .int a1], (q_kX s c n))) 2 (fun _ _ => rfl) ?_
            refine q_Ru_call (v := none) (h2 := (q_kX s c n)) rfl rfl ?_ ?_
            · refine q_Ca_of (Nat.le_of_ble_eq_true rfl) ?_
              refine q_Ru_seg (g2 := (1, [(0, .int a1), (1, .int 5)], [.int a1], (q_kX s c n))) 1 (fun _ _ => rfl) ?_
              refine q_Ru_rsF (g2 := (4, [(0, .int a1), (1, .int 5)], [], (q_kX s c n))) rfl rfl h7 ?_
              refine q_Ru_seg (g2 := (6, [(0, .int a1), (1, .int 5)], [.int 5, .int a1], (q_kX s c n))) 2 (fun _ _ => rfl) ?_
              refine q_Ru_rsT (g2 := (19, [(0, .int a1), (1, .int 5)], [], (q_kX s c n))) rfl rfl h8 ?_
              exact q_Ru_ret rfl rfl
            show q_Ru _ _ _ (5, [(0, .ref 64), (1, .int a1), (2, .int a2)], [], (q_kX s c n)) _
            refine q_Ru_seg (g2 := (9, [(0, .ref 64), (1, .int a1), (2, .int a2)], [.int 4, .int a1, .int 0, .int a2], (q_kX s c n))) 4 (fun _ _ => rfl) ?_
            refine q_Ru_rsF (g2 := (12, [(0, .ref 64), (1, .int a1), (2, .int a2)], [.int 0, .int a2], (q_kX s c n))) rfl rfl (q_d_neT h9) ?_
            refine q_Ru_seg (g2 := (21, [(0, .ref 64), (1, .int a1), (2, .int a2)], [.int 4095, .int 0, .int a2], (q_kX s c n))) 2 (fun _ _ => rfl) ?_
            refine q_Ru_callX (E := "java/lang/IllegalArgumentException") (h2 := (q_kX s (c + 1) (n + 6))) rfl rfl ?_
            refine q_Ca_of (Nat.le_of_ble_eq_true rfl) ?_
            refine q_Ru_seg (g2 := (2, [(0, .int a2), (1, .int 0), (2, .int 4095)], [.int 0, .int a2], (q_kX s c n))) 2 (fun _ _ => rfl) ?_
            refine q_Ru_rsT (g2 := (10, [(0, .int a2), (1, .int 0), (2, .int 4095)], [], (q_kX s c n))) rfl rfl h10 ?_
            exact q_Ru_thr rfl rfl
          show q_RP _ _ _ (19, [(0, .ref 64), (1, .int a1), (2, .int a2), (3, .ref 236)], [], (q_kX s (c + 1) (n + 6))) _ _
          refine q_RP_seg (g2 := (20, [(0, .ref 64), (1, .int a1), (2, .int a2), (3, .ref 236)], [.int 2], (q_kX s (c + 1) (n + 6)))) 1 (fun _ _ => rfl) ?_
          exact q_RP_ret rfl rfl rfl
        | false =>
          refine q_RP_cF ?_
          cases h11 : decide (4095 < a2) with
          | true =>
            refine q_RP_cT ?_
            refine q_RP_callH (E := "java/lang/IllegalArgumentException") (tg := 19) (i := 4) (h2 := (q_kX s (c + 1) (n + 6))) rfl rfl ?_ rfl ?_
            · refine q_Ca_of (Nat.le_of_ble_eq_true rfl) ?_
              refine q_Ru_seg (g2 := (2, [(0, .ref 64), (1, .int a1), (2, .int a2)], [.int 5, .int a1], (q_kX s c n))) 2 (fun _ _ => rfl) ?_
              refine q_Ru_call (v := none) (h2 := (q_kX s c n)) rfl rfl ?_ ?_
              · refine q_Ca_of (Nat.le_of_ble_eq_true rfl) ?_
                refine q_Ru_seg (g2 := (1, [(0, .int a1), (1, .int 5)], [.int a1], (q_kX s c n))) 1 (fun _ _ => rfl) ?_
                refine q_Ru_rsF (g2 := (4, [(0, .int a1), (1, .int 5)], [], (q_kX s c n))) rfl rfl h7 ?_
                refine q_Ru_seg (g2 := (6, [(0, .int a1), (1, .int 5)], [.int 5, .int a1], (q_kX s c n))) 2 (fun _ _ => rfl) ?_
                refine q_Ru_rsT (g2 := (19, [(0, .int a1), (1, .int 5)], [], (q_kX s c n))) rfl rfl h8 ?_
                exact q_Ru_ret rfl rfl
              show q_Ru _ _ _ (5, [(0, .ref 64), (1, .int a1), (2, .int a2)], [], (q_kX s c n)) _
              refine q_Ru_seg (g2 := (9, [(0, .ref 64), (1, .int a1), (2, .int a2)], [.int 4, .int a1, .int 0, .int a2], (q_kX s c n))) 4 (fun _ _ => rfl) ?_
              refine q_Ru_rsF (g2 := (12, [(0, .ref 64), (1, .int a1), (2, .int a2)], [.int 0, .int a2], (q_kX s c n))) rfl rfl (q_d_neT h9) ?_
              refine q_Ru_seg (g2 := (21, [(0, .ref 64), (1, .int a1), (2, .int a2)], [.int 4095, .int 0, .int a2], (q_kX s c n))) 2 (fun _ _ => rfl) ?_
              refine q_Ru_callX (E := "java/lang/IllegalArgumentException") (h2 := (q_kX s (c + 1) (n + 6))) rfl rfl ?_
              refine q_Ca_of (Nat.le_of_ble_eq_true rfl) ?_
              refine q_Ru_seg (g2 := (2, [(0, .int a2), (1, .int 0), (2, .int 4095)], [.int 0, .int a2], (q_kX s c n))) 2 (fun _ _ => rfl) ?_
              refine q_Ru_rsF (g2 := (5, [(0, .int a2), (1, .int 0), (2, .int 4095)], [], (q_kX s c n))) rfl rfl h10 ?_
              refine q_Ru_seg (g2 := (7, [(0, .int a2), (1, .int 0), (2, .int 4095)], [.int 4095, .int a2], (q_kX s c n))) 2 (fun _ _ => rfl) ?_
              refine q_Ru_rsF (g2 := (10, [(0, .int a2), (1, .int 0), (2, .int 4095)], [], (q_kX s c n))) rfl rfl (q_d_geT h11) ?_
              exact q_Ru_thr rfl rfl
            show q_RP _ _ _ (19, [(0, .ref 64), (1, .int a1), (2, .int a2), (3, .ref 236)], [], (q_kX s (c + 1) (n + 6))) _ _
            refine q_RP_seg (g2 := (20, [(0, .ref 64), (1, .int a1), (2, .int a2), (3, .ref 236)], [.int 2], (q_kX s (c + 1) (n + 6)))) 1 (fun _ _ => rfl) ?_
            exact q_RP_ret rfl rfl rfl
          | false =>
            refine q_RP_cF ?_
            cases h12 : decide (0 < s.2.1 24 9) with
            | true =>
              refine q_RP_cT ?_
              refine q_RP_callH (E := "java/lang/IllegalStateException") (tg := 23) (i := 4) (h2 := (q_kX s (c + 1) (n + 6))) rfl rfl ?_ rfl ?_
              · refine q_Ca_of (Nat.le_of_ble_eq_true rfl) ?_
                refine q_Ru_seg (g2 := (2, [(0, .ref 64), (1, .int a1), (2, .int a2)], [.int 5, .int a1], (q_kX s c n))) 2 (fun _ _ => rfl) ?_
                refine q_Ru_call (v := none) (h2 := (q_kX s c n)) rfl rfl ?_ ?_
                · refine q_Ca_of (Nat.le_of_ble_eq_true rfl) ?_
                  refine q_Ru_seg (g2 := (1, [(0, .int a1), (1, .int 5)], [.int a1], (q_kX s c n))) 1 (fun _ _ => rfl) ?_
                  refine q_Ru_rsF (g2 := (4, [(0, .int a1), (1, .int 5)], [], (q_kX s c n))) rfl rfl h7 ?_
                  refine q_Ru_seg (g2 := (6, [(0, .int a1), (1, .int 5)], [.int 5, .int a1], (q_kX s c n))) 2 (fun _ _ => rfl) ?_
                  refine q_Ru_rsT (g2 := (19, [(0, .int a1), (1, .int 5)], [], (q_kX s c n))) rfl rfl h8 ?_
                  exact q_Ru_ret rfl rfl
                show q_Ru _ _ _ (5, [(0, .ref 64), (1, .int a1), (2, .int a2)], [], (q_kX s c n)) _
                refine q_Ru_seg (g2 := (9, [(0, .ref 64), (1, .int a1), (2, .int a2)], [.int 4, .int a1, .int 0, .int a2], (q_kX s c n))) 4 (fun _ _ => rfl) ?_
                refine q_Ru_rsF (g2 := (12, [(0, .ref 64), (1, .int a1), (2, .int a2)], [.int 0, .int a2], (q_kX s c n))) rfl rfl (q_d_neT h9) ?_
                refine q_Ru_seg (g2 := (21, [(0, .ref 64), (1, .int a1), (2, .int a2)], [.int 4095, .int 0, .int a2], (q_kX s c n))) 2 (fun _ _ => rfl) ?_
                refine q_Ru_call (v := none) (h2 := (q_kX s c n)) rfl rfl ?_ ?_
                · refine q_Ca_of (Nat.le_of_ble_eq_true rfl) ?_
                  refine q_Ru_seg (g2 := (2, [(0, .int a2), (1, .int 0), (2, .int 4095)], [.int 0, .int a2], (q_kX s c n))) 2 (fun _ _ => rfl) ?_
                  refine q_Ru_rsF (g2 := (5, [(0, .int a2), (1, .int 0), (2, .int 4095)], [], (q_kX s c n))) rfl rfl h10 ?_
                  refine q_Ru_seg (g2 := (7, [(0, .int a2), (1, .int 0), (2, .int 4095)], [.int 4095, .int a2], (q_kX s c n))) 2 (fun _ _ => rfl) ?_
                  refine q_Ru_rsT (g2 := (20, [(0, .int a2), (1, .int 0), (2, .int 4095)], [], (q_kX s c n))) rfl rfl (q_d_geF h11) ?_
                  exact q_Ru_ret rfl rfl
                show q_Ru _ _ _ (24, [(0, .ref 64), (1, .int a1), (2, .int a2)], [], (q_kX s c n)) _
                refine q_Ru_seg (g2 := (34, [(0, .ref 64), (1, .int a1), (2, .int a2)], [.int (s.2.1 24 9)], (q_kX s c n))) 4 (fun _ _ => rfl) ?_
                refine q_Ru_rsF (g2 := (37, [(0, .ref 64), (1, .int a1), (2, .int a2)], [], (q_kX s c n))) rfl rfl (q_d_geT h12) ?_
                exact q_Ru_thr rfl rfl
              show q_RP _ _ _ (23, [(0, .ref 64), (1, .int a1), (2, .int a2), (3, .ref 236)], [], (q_kX s (c + 1) (n + 6))) _ _
              refine q_RP_seg (g2 := (24, [(0, .ref 64), (1, .int a1), (2, .int a2), (3, .ref 236)], [.int 3], (q_kX s (c + 1) (n + 6)))) 1 (fun _ _ => rfl) ?_
              exact q_RP_ret rfl rfl rfl
            | false =>
              refine q_RP_cF ?_
              generalize er2 : dz_X184_98 s 4 a1 a2 0 = r2
              refine q_RP_let ?_
              refine q_RP_bd fun r3 er3 => ?_
              refine q_RP_call (v := (some (.int r3.2))) (h2 := (q_kX (q_pt 32 3 1 73 r2 r3.1) c n)) rfl rfl ?_ ?_
              · refine q_Ca_of (Nat.le_of_ble_eq_true rfl) ?_
                refine q_Ru_seg (g2 := (2, [(0, .ref 64), (1, .int a1), (2, .int a2)], [.int 5, .int a1], (q_kX s c n))) 2 (fun _ _ => rfl) ?_
                refine q_Ru_call (v := none) (h2 := (q_kX s c n)) rfl rfl ?_ ?_
                · refine q_Ca_of (Nat.le_of_ble_eq_true rfl) ?_
                  refine q_Ru_seg (g2 := (1, [(0, .int a1), (1, .int 5)], [.int a1], (q_kX s c n))) 1 (fun _ _ => rfl) ?_
                  refine q_Ru_rsF (g2 := (4, [(0, .int a1), (1, .int 5)], [], (q_kX s c n))) rfl rfl h7 ?_
                  refine q_Ru_seg (g2 := (6, [(0, .int a1), (1, .int 5)], [.int 5, .int a1], (q_kX s c n))) 2 (fun _ _ => rfl) ?_
                  refine q_Ru_rsT (g2 := (19, [(0, .int a1), (1, .int 5)], [], (q_kX s c n))) rfl rfl h8 ?_
                  exact q_Ru_ret rfl rfl
                show q_Ru _ _ _ (5, [(0, .ref 64), (1, .int a1), (2, .int a2)], [], (q_kX s c n)) _
                refine q_Ru_seg (g2 := (9, [(0, .ref 64), (1, .int a1), (2, .int a2)], [.int 4, .int a1, .int 0, .int a2], (q_kX s c n))) 4 (fun _ _ => rfl) ?_
                refine q_Ru_rsF (g2 := (12, [(0, .ref 64), (1, .int a1), (2, .int a2)], [.int 0, .int a2], (q_kX s c n))) rfl rfl (q_d_neT h9) ?_
                refine q_Ru_seg (g2 := (21, [(0, .ref 64), (1, .int a1), (2, .int a2)], [.int 4095, .int 0, .int a2], (q_kX s c n))) 2 (fun _ _ => rfl) ?_
                refine q_Ru_call (v := none) (h2 := (q_kX s c n)) rfl rfl ?_ ?_
                · refine q_Ca_of (Nat.le_of_ble_eq_true rfl) ?_
                  refine q_Ru_seg (g2 := (2, [(0, .int a2), (1, .int 0), (2, .int 4095)], [.int 0, .int a2], (q_kX s c n))) 2 (fun _ _ => rfl) ?_
                  refine q_Ru_rsF (g2 := (5, [(0, .int a2), (1, .int 0), (2, .int 4095)], [], (q_kX s c n))) rfl rfl h10 ?_
                  refine q_Ru_seg (g2 := (7, [(0, .int a2), (1, .int 0), (2, .int 4095)], [.int 4095, .int a2], (q_kX s c n))) 2 (fun _ _ => rfl) ?_
                  refine q_Ru_rsT (g2 := (20, [(0, .int a2), (1, .int 0), (2, .int 4095)], [], (q_kX s c n))) rfl rfl (q_d_geF h11) ?_
                  exact q_Ru_ret rfl rfl
                show q_Ru _ _ _ (24, [(0, .ref 64), (1, .int a1), (2, .int a2)], [], (q_kX s c n)) _
                refine q_Ru_seg (g2 := (34, [(0, .ref 64), (1, .int a1), (2, .int a2)], [.int (s.2.1 24 9)], (q_kX s c n))) 4 (fun _ _ => rfl) ?_
                refine q_Ru_rsT (g2 := (47, [(0, .ref 64), (1, .int a1), (2, .int a2)], [], (q_kX s c n))) rfl rfl (q_d_geF h12) ?_
                refine q_Ru_seg (g2 := (55, [(0, .ref 64), (1, .int a1), (2, .int a2)], [.int 0, .int a2, .int a1, .int 4, .ref 98], (q_kX s c n))) 6 (fun _ _ => rfl) ?_
                refine q_Ru_call (v := none) (h2 := (q_kX r2 c n)) rfl rfl ?_ ?_
                · exact (q_cE (φ := (q_oSX c n)) er2 (dzt_X184_98 z L xs s c n 4 a1 a2 0)).le (Nat.le_of_ble_eq_true rfl)
                show q_Ru _ _ _ (58, [(0, .ref 64), (1, .int a1), (2, .int a2)], [], (q_kX r2 c n)) _
                refine q_Ru_seg (g2 := (66, [(0, .ref 64), (1, .int a1), (2, .int a2)], [.int 0, .int a2, .int a1, .int 4, .ref 65], (q_kX r2 c n))) 6 (fun _ _ => rfl) ?_
                refine q_Ru_call (v := (some (.int r3.2))) (h2 := (q_kX (q_pt 32 3 1 73 r2 r3.1) c n)) rfl rfl ?_ ?_
                · exact (q_emNX_1 rfl (fun _ => rfl) ((dzt_N79_64 (q_vw 32 1 73 r2) c n 4 a1 a2 0 r3 er3).tb q_TB0_le)).le (Nat.le_of_ble_eq_true rfl)
                show q_Ru _ _ _ (69, [(0, .ref 64), (1, .int a1), (2, .int a2)], [.int r3.2], (q_kX (q_pt 32 3 1 73 r2 r3.1) c n)) _
                exact q_Ru_ret rfl rfl
              show q_RP _ _ _ (8, [(0, .ref 64), (1, .int a1), (2, .int a2), (3, .ref 236)], [.int r3.2, .int 0, .ref 236], (q_kX (q_pt 32 3 1 73 r2 r3.1) c n)) _ _
              refine q_RP_seg (g2 := (9, [(0, .ref 64), (1, .int a1), (2, .int a2), (3, .ref 236)], [.long r3.2.toInt64, .int 0, .ref 236], (q_kX (q_pt 32 3 1 73 r2 r3.1) c n))) 1 (fun _ _ => rfl) ?_
              refine q_RP_rsT (g2 := (10, [(0, .ref 64), (1, .int a1), (2, .int a2), (3, .ref 236)], [], (q_kX (q_sL (q_pt 32 3 1 73 r2 r3.1) 172 (vp_updL ((q_pt 32 3 1 73 r2 r3.1).2.2 172) 0 r3.2.toInt64)) c n))) rfl q_wX172 rfl ?_
              refine q_RP_seg (g2 := (26, [(0, .ref 64), (1, .int a1), (2, .int a2), (3, .ref 236)], [.int 0], (q_kX (q_sL (q_pt 32 3 1 73 r2 r3.1) 172 (vp_updL ((q_pt 32 3 1 73 r2 r3.1).2.2 172) 0 r3.2.toInt64)) c n))) 2 (fun _ _ => rfl) ?_
              exact q_RP_ret rfl rfl rfl
      | false =>
        refine q_RP_cF ?_
        cases h13 : decide (a2 < 0) with
        | true =>
          refine q_RP_cT ?_
          refine q_RP_callH (E := "java/lang/IllegalArgumentException") (tg := 19) (i := 4) (h2 := (q_kX s (c + 1) (n + 6))) rfl rfl ?_ rfl ?_
          · refine q_Ca_of (Nat.le_of_ble_eq_true rfl) ?_
            refine q_Ru_seg (g2 := (2, [(0, .ref 64), (1, .int a1), (2, .int a2)], [.int 5, .int a1], (q_kX s c n))) 2 (fun _ _ => rfl) ?_
            refine q_Ru_call (v := none) (h2 := (q_kX s c n)) rfl rfl ?_ ?_
            · refine q_Ca_of (Nat.le_of_ble_eq_true rfl) ?_
              refine q_Ru_seg (g2 := (1, [(0, .int a1), (1, .int 5)], [.int a1], (q_kX s c n))) 1 (fun _ _ => rfl) ?_
              refine q_Ru_rsF (g2 := (4, [(0, .int a1), (1, .int 5)], [], (q_kX s c n))) rfl rfl h7 ?_
              refine q_Ru_seg (g2 := (6, [(0, .int a1), (1, .int 5)], [.int 5, .int a1], (q_kX s c n))) 2 (fun _ _ => rfl) ?_
              refine q_Ru_rsT (g2 := (19, [(0, .int a1), (1, .int 5)], [], (q_kX s c n))) rfl rfl h8 ?_
              exact q_Ru_ret rfl rfl
            show q_Ru _ _ _ (5, [(0, .ref 64), (1, .int a1), (2, .int a2)], [], (q_kX s c n)) _
            refine q_Ru_seg (g2 := (9, [(0, .ref 64), (1, .int a1), (2, .int a2)], [.int 4, .int a1, .int 0, .int a2], (q_kX s c n))) 4 (fun _ _ => rfl) ?_
            refine q_Ru_rsT (g2 := (18, [(0, .ref 64), (1, .int a1), (2, .int a2)], [.int 0, .int a2], (q_kX s c n))) rfl rfl (q_d_neF h9) ?_
            refine q_Ru_seg (g2 := (21, [(0, .ref 64), (1, .int a1), (2, .int a2)], [.int 255, .int 0, .int a2], (q_kX s c n))) 1 (fun _ _ => rfl) ?_
            refine q_Ru_callX (E := "java/lang/IllegalArgumentException") (h2 := (q_kX s (c + 1) (n + 6))) rfl rfl ?_
            refine q_Ca_of (Nat.le_of_ble_eq_true rfl) ?_
            refine q_Ru_seg (g2 := (2, [(0, .int a2), (1, .int 0), (2, .int 255)], [.int 0, .int a2], (q_kX s c n))) 2 (fun _ _ => rfl) ?_
            refine q_Ru_rsT (g2 := (10, [(0, .int a2), (1, .int 0), (2, .int 255)], [], (q_kX s c n))) rfl rfl h13 ?_
            exact q_Ru_thr rfl rfl
          show q_RP _ _ _ (19, [(0, .ref 64), (1, .int a1), (2, .int a2), (3, .ref 236)], [], (q_kX s (c + 1) (n + 6))) _ _
          refine q_RP_seg (g2 := (20, [(0, .ref 64), (1, .int a1), (2, .int a2), (3, .ref 236)], [.int 2], (q_kX s (c + 1) (n + 6)))) 1 (fun _ _ => rfl) ?_
          exact q_RP_ret rfl rfl rfl
        | false =>
          refine q_RP_cF ?_
          cases h14 : decide (255 < a2) with
          | true =>
            refine q_RP_cT ?_
            refine q_RP_callH (E := "java/lang/IllegalArgumentException") (tg := 19) (i := 4) (h2 := (q_kX s (c + 1) (n + 6))) rfl rfl ?_ rfl ?_
            · refine q_Ca_of (Nat.le_of_ble_eq_true rfl) ?_
              refine q_Ru_seg (g2 := (2, [(0, .ref 64), (1, .int a1), (2, .int a2)], [.int 5, .int a1], (q_kX s c n))) 2 (fun _ _ => rfl) ?_
              refine q_Ru_call (v := none) (h2 := (q_kX s c n)) rfl rfl ?_ ?_
              · refine q_Ca_of (Nat.le_of_ble_eq_true rfl) ?_
                refine q_Ru_seg (g2 := (1, [(0, .int a1), (1, .int 5)], [.int a1], (q_kX s c n))) 1 (fun _ _ => rfl) ?_
                refine q_Ru_rsF (g2 := (4, [(0, .int a1), (1, .int 5)], [], (q_kX s c n))) rfl rfl h7 ?_
                refine q_Ru_seg (g2 := (6, [(0, .int a1), (1, .int 5)], [.int 5, .int a1], (q_kX s c n))) 2 (fun _ _ => rfl) ?_
                refine q_Ru_rsT (g2 := (19, [(0, .int a1), (1, .int 5)], [], (q_kX s c n))) rfl rfl h8 ?_
                exact q_Ru_ret rfl rfl
              show q_Ru _ _ _ (5, [(0, .ref 64), (1, .int a1), (2, .int a2)], [], (q_kX s c n)) _
              refine q_Ru_seg (g2 := (9, [(0, .ref 64), (1, .int a1), (2, .int a2)], [.int 4, .int a1, .int 0, .int a2], (q_kX s c n))) 4 (fun _ _ => rfl) ?_
              refine q_Ru_rsT (g2 := (18, [(0, .ref 64), (1, .int a1), (2, .int a2)], [.int 0, .int a2], (q_kX s c n))) rfl rfl (q_d_neF h9) ?_
              refine q_Ru_seg (g2 := (21, [(0, .ref 64), (1, .int a1), (2, .int a2)], [.int 255, .int 0, .int a2], (q_kX s c n))) 1 (fun _ _ => rfl) ?_
              refine q_Ru_callX (E := "java/lang/IllegalArgumentException") (h2 := (q_kX s (c + 1) (n + 6))) rfl rfl ?_
              refine q_Ca_of (Nat.le_of_ble_eq_true rfl) ?_
              refine q_Ru_seg (g2 := (2, [(0, .int a2), (1, .int 0), (2, .int 255)], [.int 0, .int a2], (q_kX s c n))) 2 (fun _ _ => rfl) ?_
              refine q_Ru_rsF (g2 := (5, [(0, .int a2), (1, .int 0), (2, .int 255)], [], (q_kX s c n))) rfl rfl h13 ?_
              refine q_Ru_seg (g2 := (7, [(0, .int a2), (1, .int 0), (2, .int 255)], [.int 255, .int a2], (q_kX s c n))) 2 (fun _ _ => rfl) ?_
              refine q_Ru_rsF (g2 := (10, [(0, .int a2), (1, .int 0), (2, .int 255)], [], (q_kX s c n))) rfl rfl (q_d_geT h14) ?_
              exact q_Ru_thr rfl rfl
            show q_RP _ _ _ (19, [(0, .ref 64), (1, .int a1), (2, .int a2), (3, .ref 236)], [], (q_kX s (c + 1) (n + 6))) _ _
            refine q_RP_seg (g2 := (20, [(0, .ref 64), (1, .int a1), (2, .int a2), (3, .ref 236)], [.int 2], (q_kX s (c + 1) (n + 6)))) 1 (fun _ _ => rfl) ?_
            exact q_RP_ret rfl rfl rfl
          | false =>
            refine q_RP_cF ?_
            cases h15 : decide (0 < s.2.1 24 9) with
            | true =>
              refine q_RP_cT ?_
              refine q_RP_callH (E := "java/lang/IllegalStateException") (tg := 23) (i := 4) (h2 := (q_kX s (c + 1) (n + 6))) rfl rfl ?_ rfl ?_
              · refine q_Ca_of (Nat.le_of_ble_eq_true rfl) ?_
                refine q_Ru_seg (g2 := (2, [(0, .ref 64), (1, .int a1), (2, .int a2)], [.int 5, .int a1], (q_kX s c n))) 2 (fun _ _ => rfl) ?_
                refine q_Ru_call (v := none) (h2 := (q_kX s c n)) rfl rfl ?_ ?_
                · refine q_Ca_of (Nat.le_of_ble_eq_true rfl) ?_
                  refine q_Ru_seg (g2 := (1, [(0, .int a1), (1, .int 5)], [.int a1], (q_kX s c n))) 1 (fun _ _ => rfl) ?_
                  refine q_Ru_rsF (g2 := (4, [(0, .int a1), (1, .int 5)], [], (q_kX s c n))) rfl rfl h7 ?_
                  refine q_Ru_seg (g2 := (6, [(0, .int a1), (1, .int 5)], [.int 5, .int a1], (q_kX s c n))) 2 (fun _ _ => rfl) ?_
                  refine q_Ru_rsT (g2 := (19, [(0, .int a1), (1, .int 5)], [], (q_kX s c n))) rfl rfl h8 ?_
                  exact q_Ru_ret rfl rfl
                show q_Ru _ _ _ (5, [(0, .ref 64), (1, .int a1), (2, .int a2)], [], (q_kX s c n)) _
                refine q_Ru_seg (g2 := (9, [(0, .ref 64), (1, .int a1), (2, .int a2)], [.int 4, .int a1, .int 0, .int a2], (q_kX s c n))) 4 (fun _ _ => rfl) ?_
                refine q_Ru_rsT (g2 := (18, [(0, .ref 64), (1, .int a1), (2, .int a2)], [.int 0, .int a2], (q_kX s c n))) rfl rfl (q_d_neF h9) ?_
                refine q_Ru_seg (g2 := (21, [(0, .ref 64), (1, .int a1), (2, .int a2)], [.int 255, .int 0, .int a2], (q_kX s c n))) 1 (fun _ _ => rfl) ?_
                refine q_Ru_call (v := none) (h2 := (q_kX s c n)) rfl rfl ?_ ?_
                · refine q_Ca_of (Nat.le_of_ble_eq_true rfl) ?_
                  refine q_Ru_seg (g2 := (2, [(0, .int a2), (1, .int 0), (2, .int 255)], [.int 0, .int a2], (q_kX s c n))) 2 (fun _ _ => rfl) ?_
                  refine q_Ru_rsF (g2 := (5, [(0, .int a2), (1, .int 0), (2, .int 255)], [], (q_kX s c n))) rfl rfl h13 ?_
                  refine q_Ru_seg (g2 := (7, [(0, .int a2), (1, .int 0), (2, .int 255)], [.int 255, .int a2], (q_kX s c n))) 2 (fun _ _ => rfl) ?_
                  refine q_Ru_rsT (g2 := (20, [(0, .int a2), (1, .int 0), (2, .int 255)], [], (q_kX s c n))) rfl rfl (q_d_geF h14) ?_
                  exact q_Ru_ret rfl rfl
                show q_Ru _ _ _ (24, [(0, .ref 64), (1, .int a1), (2, .int a2)], [], (q_kX s c n)) _
                refine q_Ru_seg (g2 := (34, [(0, .ref 64), (1, .int a1), (2, .int a2)], [.int (s.2.1 24 9)], (q_kX s c n))) 4 (fun _ _ => rfl) ?_
                refine q_Ru_rsF (g2 := (37, [(0, .ref 64), (1, .int a1), (2, .int a2)], [], (q_kX s c n))) rfl rfl (q_d_geT h15) ?_
                exact q_Ru_thr rfl rfl
              show q_RP _ _ _ (23, [(0, .ref 64), (1, .int a1), (2, .int a2), (3, .ref 236)], [], (q_kX s (c + 1) (n + 6))) _ _
              refine q_RP_seg (g2 := (24, [(0, .ref 64), (1, .int a1), (2, .int a2), (3, .ref 236)], [.int 3], (q_kX s (c + 1) (n + 6)))) 1 (fun _ _ => rfl) ?_
              exact q_RP_ret rfl rfl rfl
            | false =>
              refine q_RP_cF ?_
              generalize er4 : dz_X184_98 s 4 a1 a2 0 = r4
              refine q_RP_let ?_
              refine q_RP_bd fun r5 er5 => ?_
              refine q_RP_call (v := (some (.int r5.2))) (h2 := (q_kX (q_pt 32 3 1 73 r4 r5.1) c n)) rfl rfl ?_ ?_
              · refine q_Ca_of (Nat.le_of_ble_eq_true rfl) ?_
                refine q_Ru_seg (g2 := (2, [(0, .ref 64), (1, .int a1), (2, .int a2)], [.int 5, .int a1], (q_kX s c n))) 2 (fun _ _ => rfl) ?_
                refine q_Ru_call (v := none) (h2 := (q_kX s c n)) rfl rfl ?_ ?_
                · refine q_Ca_of (Nat.le_of_ble_eq_true rfl) ?_
                  refine q_Ru_seg (g2 := (1, [(0, .int a1), (1, .int 5)], [.int a1], (q_kX s c n))) 1 (fun _ _ => rfl) ?_
                  refine q_Ru_rsF (g2 := (4, [(0, .int a1), (1, .int 5)], [], (q_kX s c n))) rfl rfl h7 ?_
                  refine q_Ru_seg (g2 := (6, [(0, .int a1), (1, .int 5)], [.int 5, .int a1], (q_kX s c n))) 2 (fun _ _ => rfl) ?_
                  refine q_Ru_rsT (g2 := (19, [(0, .int a1), (1, .int 5)], [], (q_kX s c n))) rfl rfl h8 ?_
                  exact q_Ru_ret rfl rfl
                show q_Ru _ _ _ (5, [(0, .ref 64), (1, .int a1), (2, .int a2)], [], (q_kX s c n)) _
                refine q_Ru_seg (g2 := (9, [(0, .ref 64), (1, .int a1), (2, .int a2)], [.int 4, .int a1, .int 0, .int a2], (q_kX s c n))) 4 (fun _ _ => rfl) ?_
                refine q_Ru_rsT (g2 := (18, [(0, .ref 64), (1, .int a1), (2, .int a2)], [.int 0, .int a2], (q_kX s c n))) rfl rfl (q_d_neF h9) ?_
                refine q_Ru_seg (g2 := (21, [(0, .ref 64), (1, .int a1), (2, .int a2)], [.int 255, .int 0, .int a2], (q_kX s c n))) 1 (fun _ _ => rfl) ?_
                refine q_Ru_call (v := none) (h2 := (q_kX s c n)) rfl rfl ?_ ?_
                · refine q_Ca_of (Nat.le_of_ble_eq_true rfl) ?_
                  refine q_Ru_seg (g2 := (2, [(0, .int a2), (1, .int 0), (2, .int 255)], [.int 0, .int a2], (q_kX s c n))) 2 (fun _ _ => rfl) ?_
                  refine q_Ru_rsF (g2 := (5, [(0, .int a2), (1, .int 0), (2, .int 255)], [], (q_kX s c n))) rfl rfl h13 ?_
                  refine q_Ru_seg (g2 := (7, [(0, .int a2), (1, .int 0), (2, .int 255)], [.int 255, .int a2], (q_kX s c n))) 2 (fun _ _ => rfl) ?_
                  refine q_Ru_rsT (g2 := (20, [(0, .int a2), (1, .int 0), (2, .int 255)], [], (q_kX s c n))) rfl rfl (q_d_geF h14) ?_
                  exact q_Ru_ret rfl rfl
                show q_Ru _ _ _ (24, [(0, .ref 64), (1, .int a1), (2, .int a2)], [], (q_kX s c n)) _
                refine q_Ru_seg (g2 := (34, [(0, .ref 64), (1, .int a1), (2, .int a2)], [.int (s.2.1 24 9)], (q_kX s c n))) 4 (fun _ _ => rfl) ?_
                refine q_Ru_rsT (g2 := (47, [(0, .ref 64), (1, .int a1), (2, .int a2)], [], (q_kX s c n))) rfl rfl (q_d_geF h15) ?_
                refine q_Ru_seg (g2 := (55, [(0, .ref 64), (1, .int a1), (2, .int a2)], [.int 0, .int a2, .int a1, .int 4, .ref 98], (q_kX s c n))) 6 (fun _ _ => rfl) ?_
                refine q_Ru_call (v := none) (h2 := (q_kX r4 c n)) rfl rfl ?_ ?_
                · exact (q_cE (φ := (q_oSX c n)) er4 (dzt_X184_98 z L xs s c n 4 a1 a2 0)).le (Nat.le_of_ble_eq_true rfl)
                show q_Ru _ _ _ (58, [(0, .ref 64), (1, .int a1), (2, .int a2)], [], (q_kX r4 c n)) _
                refine q_Ru_seg (g2 := (66, [(0, .ref 64), (1, .int a1), (2, .int a2)], [.int 0, .int a2, .int a1, .int 4, .ref 65], (q_kX r4 c n))) 6 (fun _ _ => rfl) ?_
                refine q_Ru_call (v := (some (.int r5.2))) (h2 := (q_kX (q_pt 32 3 1 73 r4 r5.1) c n)) rfl rfl ?_ ?_
                · exact (q_emNX_1 rfl (fun _ => rfl) ((dzt_N79_64 (q_vw 32 1 73 r4) c n 4 a1 a2 0 r5 er5).tb q_TB0_le)).le (Nat.le_of_ble_eq_true rfl)
                show q_Ru _ _ _ (69, [(0, .ref 64), (1, .int a1), (2, .int a2)], [.int r5.2], (q_kX (q_pt 32 3 1 73 r4 r5.1) c n)) _
                exact q_Ru_ret rfl rfl
              show q_RP _ _ _ (8, [(0, .ref 64), (1, .int a1), (2, .int a2), (3, .ref 236)], [.int r5.2, .int 0, .ref 236], (q_kX (q_pt 32 3 1 73 r4 r5.1) c n)) _ _
              refine q_RP_seg (g2 := (9, [(0, .ref 64), (1, .int a1), (2, .int a2), (3, .ref 236)], [.long r5.2.toInt64, .int 0, .ref 236], (q_kX (q_pt 32 3 1 73 r4 r5.1) c n))) 1 (fun _ _ => rfl) ?_
              refine q_RP_rsT (g2 := (10, [(0, .ref 64), (1, .int a1), (2, .int a2), (3, .ref 236)], [], (q_kX (q_sL (q_pt 32 3 1 73 r4 r5.1) 172 (vp_updL ((q_pt 32 3 1 73 r4 r5.1).2.2 172) 0 r5.2.toInt64)) c n))) rfl q_wX172 rfl ?_
              refine q_RP_seg (g2 := (26, [(0, .ref 64), (1, .int a1), (2, .int a2), (3, .ref 236)], [.int 0], (q_kX (q_sL (q_pt 32 3 1 73 r4 r5.1) 172 (vp_updL ((q_pt 32 3 1 73 r4 r5.1).2.2 172) 0 r5.2.toInt64)) c n))) 2 (fun _ _ => rfl) ?_
              exact q_RP_ret rfl rfl rfl
    | false =>
      refine q_RP_cF ?_
      refine q_RP_callH (E := "java/lang/IndexOutOfBoundsException") (tg := 15) (i := 4) (h2 := (q_kX s (c + 1) (n + 6))) rfl rfl ?_ rfl ?_
      · refine q_Ca_of (Nat.le_of_ble_eq_true rfl) ?_
        refine q_Ru_seg (g2 := (2, [(0, .ref 64), (1, .int a1), (2, .int a2)], [.int 5, .int a1], (q_kX s c n))) 2 (fun _ _ => rfl) ?_
        refine q_Ru_callX (E := "java/lang/IndexOutOfBoundsException") (h2 := (q_kX s (c + 1) (n + 6))) rfl rfl ?_
        refine q_Ca_of (Nat.le_of_ble_eq_true rfl) ?_
        refine q_Ru_seg (g2 := (1, [(0, .int a1), (1, .int 5)], [.int a1], (q_kX s c n))) 1 (fun _ _ => rfl) ?_
        refine q_Ru_rsF (g2 := (4, [(0, .int a1), (1, .int 5)], [], (q_kX s c n))) rfl rfl h7 ?_
        refine q_Ru_seg (g2 := (6, [(0, .int a1), (1, .int 5)], [.int 5, .int a1], (q_kX s c n))) 2 (fun _ _ => rfl) ?_
        refine q_Ru_rsF (g2 := (9, [(0, .int a1), (1, .int 5)], [], (q_kX s c n))) rfl rfl h8 ?_
        exact q_Ru_thr rfl rfl
      show q_RP _ _ _ (15, [(0, .ref 64), (1, .int a1), (2, .int a2), (3, .ref 236)], [], (q_kX s (c + 1) (n + 6))) _ _
      refine q_RP_seg (g2 := (16, [(0, .ref 64), (1, .int a1), (2, .int a2), (3, .ref 236)], [.int 1], (q_kX s (c + 1) (n + 6)))) 1 (fun _ _ => rfl) ?_
      exact q_RP_ret rfl rfl rfl
def dz_X11_64_236 (s : q_S) (a1 : Int32) : Option (q_S × Int32 × Nat) :=
  cond (decide (a1 < 1)) (some (s, 1, 1)) (cond (decide (1000 < a1)) (some (s, 1, 1)) (q_let (dz_X184_98 s 7 a1 0 0) fun r2 => (dz_N79_64 (q_vw 32 1 73 r2) 7 a1 0 0).bind fun r3 => some ((q_sL (q_pt 32 3 1 73 r2 r3.1) 172 (vp_updL ((q_pt 32 3 1 73 r2 r3.1).2.2 172) 0 r3.2.toInt64)), 0, 0)))
set_option maxHeartbeats 4000000 in
theorem dzt_X11_64_236 (z L : Nat) (xs : Nat → Int32) (s : q_S) (c n : Nat) (a1 : Int32) (x : q_S × Int32 × Nat) (h : dz_X11_64_236 s a1 = some x) : q_Ca (q_TBs z L xs) 10 11 [.ref 64, .int a1, .ref 236] (q_kX s c n) ((q_oEX c n) x) := by
  refine q_CaP_of (φ := (q_oEX c n)) (Nat.le_of_ble_eq_true rfl) ?_ h
  clear h
  unfold dz_X11_64_236
  refine q_RP_seg (g2 := (4, [(0, .ref 64), (1, .int a1), (2, .ref 236)], [.int a1, .ref 64, .int 0, .ref 236], (q_kX s c n))) 4 (fun _ _ => rfl) ?_
  cases h3 : decide (a1 < 1) with
  | true =>
    refine q_RP_cT ?_
    refine q_RP_callH (E := "java/lang/IllegalArgumentException") (tg := 13) (i := 3) (h2 := (q_kX s (c + 1) (n + 6))) rfl rfl ?_ rfl ?_
    · refine q_Ca_of (Nat.le_of_ble_eq_true rfl) ?_
      refine q_Ru_seg (g2 := (5, [(0, .ref 64), (1, .int a1)], [.int 1000, .int 1, .int a1], (q_kX s c n))) 3 (fun _ _ => rfl) ?_
      refine q_Ru_callX (E := "java/lang/IllegalArgumentException") (h2 := (q_kX s (c + 1) (n + 6))) rfl rfl ?_
      refine q_Ca_of (Nat.le_of_ble_eq_true rfl) ?_
      refine q_Ru_seg (g2 := (2, [(0, .int a1), (1, .int 1), (2, .int 1000)], [.int 1, .int a1], (q_kX s c n))) 2 (fun _ _ => rfl) ?_
      refine q_Ru_rsT (g2 := (10, [(0, .int a1), (1, .int 1), (2, .int 1000)], [], (q_kX s c n))) rfl rfl h3 ?_
      exact q_Ru_thr rfl rfl
    show q_RP _ _ _ (13, [(0, .ref 64), (1, .int a1), (2, .ref 236)], [], (q_kX s (c + 1) (n + 6))) _ _
    refine q_RP_seg (g2 := (14, [(0, .ref 64), (1, .int a1), (2, .ref 236)], [.int 1], (q_kX s (c + 1) (n + 6)))) 1 (fun _ _ => rfl) ?_
    exact q_RP_ret rfl rfl rfl
  | false =>
    refine q_RP_cF ?_
    cases h4 : decide (1000 < a1) with
    | true =>
      refine q_RP_cT ?_
      refine q_RP_callH (E := "java/lang/IllegalArgumentException") (tg := 13) (i := 3) (h2 := (q_kX s (c + 1) (n + 6))) rfl rfl ?_ rfl ?_
      · refine q_Ca_of (Nat.le_of_ble_eq_true rfl) ?_
        refine q_Ru_seg (g2 := (5, [(0, .ref 64), (1, .int a1)], [.int 1000, .int 1, .int a1], (q_kX s c n))) 3 (fun _ _ => rfl) ?_
        refine q_Ru_callX (E := "java/lang/IllegalArgumentException") (h2 := (q_kX s (c + 1) (n + 6))) rfl rfl ?_
        refine q_Ca_of (Nat.le_of_ble_eq_true rfl) ?_
        refine q_Ru_seg (g2 := (2, [(0, .int a1), (1, .int 1), (2, .int 1000)], [.int 1, .int a1], (q_kX s c n))) 2 (fun _ _ => rfl) ?_
        refine q_Ru_rsF (g2 := (5, [(0, .int a1), (1, .int 1), (2, .int 1000)], [], (q_kX s c n))) rfl rfl h3 ?_
        refine q_Ru_seg (g2 := (7, [(0, .int a1), (1, .int 1), (2, .int 1000)], [.int 1000, .int a1], (q_kX s c n))) 2 (fun _ _ => rfl) ?_
        refine q_Ru_rsF (g2 := (10, [(0, .int a1), (1, .int 1), (2, .int 1000)], [], (q_kX s c n))) rfl rfl (q_d_geT h4) ?_
        exact q_Ru_thr rfl rfl
      show q_RP _ _ _ (13, [(0, .ref 64), (1, .int a1), (2, .ref 236)], [], (q_kX s (c + 1) (n + 6))) _ _
      refine q_RP_seg (g2 := (14, [(0, .ref 64), (1, .int a1), (2, .ref 236)], [.int 1], (q_kX s (c + 1) (n + 6)))) 1 (fun _ _ => rfl) ?_
      exact q_RP_ret rfl rfl rfl
    | false =>
      refine q_RP_cF ?_
      generalize er2 : dz_X184_98 s 7 a1 0 0 = r2
      refine q_RP_let ?_
      refine q_RP_bd fun r3 er3 => ?_
      refine q_RP_call (v := (some (.int r3.2))) (h2 := (q_kX (q_pt 32 3 1 73 r2 r3.1) c n)) rfl rfl ?_ ?_
      · refine q_Ca_of (Nat.le_of_ble_eq_true rfl) ?_
        refine q_Ru_seg (g2 := (5, [(0, .ref 64), (1, .int a1)], [.int 1000, .int 1, .int a1], (q_kX s c n))) 3 (fun _ _ => rfl) ?_
        refine q_Ru_call (v := none) (h2 := (q_kX s c n)) rfl rfl ?_ ?_
        · refine q_Ca_of (Nat.le_of_ble_eq_true rfl) ?_
          refine q_Ru_seg (g2 := (2, [(0, .int a1), (1, .int 1), (2, .int 1000)], [.int 1, .int a1], (q_kX s c n))) 2 (fun _ _ => rfl) ?_
          refine q_Ru_rsF (g2 := (5, [(0, .int a1), (1, .int 1), (2, .int 1000)], [], (q_kX s c n))) rfl rfl h3 ?_
          refine q_Ru_seg (g2 := (7, [(0, .int a1), (1, .int 1), (2, .int 1000)], [.int 1000, .int a1], (q_kX s c n))) 2 (fun _ _ => rfl) ?_
          refine q_Ru_rsT (g2 := (20, [(0, .int a1), (1, .int 1), (2, .int 1000)], [], (q_kX s c n))) rfl rfl (q_d_geF h4) ?_
          exact q_Ru_ret rfl rfl
        show q_Ru _ _ _ (8, [(0, .ref 64), (1, .int a1)], [], (q_kX s c n)) _
        refine q_Ru_seg (g2 := (17, [(0, .ref 64), (1, .int a1)], [.int 0, .int 0, .int a1, .int 7, .ref 98], (q_kX s c n))) 6 (fun _ _ => rfl) ?_
        refine q_Ru_call (v := none) (h2 := (q_kX r2 c n)) rfl rfl ?_ ?_
        · exact (q_cE (φ := (q_oSX c n)) er2 (dzt_X184_98 z L xs s c n 7 a1 0 0)).le (Nat.le_of_ble_eq_true rfl)
        show q_Ru _ _ _ (20, [(0, .ref 64), (1, .int a1)], [], (q_kX r2 c n)) _
        refine q_Ru_seg (g2 := (29, [(0, .ref 64), (1, .int a1)], [.int 0, .int 0, .int a1, .int 7, .ref 65], (q_kX r2 c n))) 6 (fun _ _ => rfl) ?_
        refine q_Ru_call (v := (some (.int r3.2))) (h2 := (q_kX (q_pt 32 3 1 73 r2 r3.1) c n)) rfl rfl ?_ ?_
        · exact (q_emNX_1 rfl (fun _ => rfl) ((dzt_N79_64 (q_vw 32 1 73 r2) c n 7 a1 0 0 r3 er3).tb q_TB0_le)).le (Nat.le_of_ble_eq_true rfl)
        show q_Ru _ _ _ (32, [(0, .ref 64), (1, .int a1)], [.int r3.2], (q_kX (q_pt 32 3 1 73 r2 r3.1) c n)) _
        exact q_Ru_ret rfl rfl
      show q_RP _ _ _ (7, [(0, .ref 64), (1, .int a1), (2, .ref 236)], [.int r3.2, .int 0, .ref 236], (q_kX (q_pt 32 3 1 73 r2 r3.1) c n)) _ _
      refine q_RP_seg (g2 := (8, [(0, .ref 64), (1, .int a1), (2, .ref 236)], [.long r3.2.toInt64, .int 0, .ref 236], (q_kX (q_pt 32 3 1 73 r2 r3.1) c n))) 1 (fun _ _ => rfl) ?_
      refine q_RP_rsT (g2 := (9, [(0, .ref 64), (1, .int a1), (2, .ref 236)], [], (q_kX (q_sL (q_pt 32 3 1 73 r2 r3.1) 172 (vp_updL ((q_pt 32 3 1 73 r2 r3.1).2.2 172) 0 r3.2.toInt64)) c n))) rfl q_wX172 rfl ?_
      refine q_RP_seg (g2 := (16, [(0, .ref 64), (1, .int a1), (2, .ref 236)], [.int 0], (q_kX (q_sL (q_pt 32 3 1 73 r2 r3.1) 172 (vp_updL ((q_pt 32 3 1 73 r2 r3.1).2.2 172) 0 r3.2.toInt64)) c n))) 2 (fun _ _ => rfl) ?_
      exact q_RP_ret rfl rfl rfl
def dz_X12_64_236 (s : q_S) : Option (q_S × Int32 × Nat) :=
  cond (decide (s.2.1 24 7 = 0)) (q_let (dz_X184_98 s 8 0 0 0) fun r2 => (dz_N79_64 (q_vw 32 1 73 r2) 8 0 0 0).bind fun r3 => some ((q_sL (q_pt 32 3 1 73 r2 r3.1) 172 (vp_updL ((q_pt 32 3 1 73 r2 r3.1).2.2 172) 0 r3.2.toInt64)), 0, 0)) (some (s, 1, 1))
set_option maxHeartbeats 4000000 in
theorem dzt_X12_64_236 (z L : Nat) (xs : Nat → Int32) (s : q_S) (c n : Nat) (x : q_S × Int32 × Nat) (h : dz_X12_64_236 s = some x) : q_Ca (q_TBs z L xs) 10 12 [.ref 64, .ref 236] (q_kX s c n) ((q_oEX c n) x) := by
  refine q_CaP_of (φ := (q_oEX c n)) (Nat.le_of_ble_eq_true rfl) ?_ h
  clear h
  unfold dz_X12_64_236
  refine q_RP_seg (g2 := (3, [(0, .ref 64), (1, .ref 236)], [.ref 64, .int 0, .ref 236], (q_kX s c n))) 3 (fun _ _ => rfl) ?_
  cases h2 : decide (s.2.1 24 7 = 0) with
  | true =>
    refine q_RP_cT ?_
    generalize er2 : dz_X184_98 s 8 0 0 0 = r2
    refine q_RP_let ?_
    refine q_RP_bd fun r3 er3 => ?_
    refine q_RP_call (v := (some (.int r3.2))) (h2 := (q_kX (q_pt 32 3 1 73 r2 r3.1) c n)) rfl rfl ?_ ?_
    · refine q_Ca_of (Nat.le_of_ble_eq_true rfl) ?_
      refine q_Ru_seg (g2 := (10, [(0, .ref 64)], [.int (s.2.1 24 7)], (q_kX s c n))) 4 (fun _ _ => rfl) ?_
      refine q_Ru_rsT (g2 := (23, [(0, .ref 64)], [], (q_kX s c n))) rfl rfl h2 ?_
      refine q_Ru_seg (g2 := (32, [(0, .ref 64)], [.int 0, .int 0, .int 0, .int 8, .ref 98], (q_kX s c n))) 6 (fun _ _ => rfl) ?_
      refine q_Ru_call (v := none) (h2 := (q_kX r2 c n)) rfl rfl ?_ ?_
      · exact (q_cE (φ := (q_oSX c n)) er2 (dzt_X184_98 z L xs s c n 8 0 0 0)).le (Nat.le_of_ble_eq_true rfl)
      show q_Ru _ _ _ (35, [(0, .ref 64)], [], (q_kX r2 c n)) _
      refine q_Ru_seg (g2 := (44, [(0, .ref 64)], [.int 0, .int 0, .int 0, .int 8, .ref 65], (q_kX r2 c n))) 6 (fun _ _ => rfl) ?_
      refine q_Ru_call (v := (some (.int r3.2))) (h2 := (q_kX (q_pt 32 3 1 73 r2 r3.1) c n)) rfl rfl ?_ ?_
      · exact (q_emNX_1 rfl (fun _ => rfl) ((dzt_N79_64 (q_vw 32 1 73 r2) c n 8 0 0 0 r3 er3).tb q_TB0_le)).le (Nat.le_of_ble_eq_true rfl)
      show q_Ru _ _ _ (47, [(0, .ref 64)], [.int r3.2], (q_kX (q_pt 32 3 1 73 r2 r3.1) c n)) _
      exact q_Ru_ret rfl rfl
    show q_RP _ _ _ (6, [(0, .ref 64), (1, .ref 236)], [.int r3.2, .int 0, .ref 236], (q_kX (q_pt 32 3 1 73 r2 r3.1) c n)) _ _
    refine q_RP_seg (g2 := (7, [(0, .ref 64), (1, .ref 236)], [.long r3.2.toInt64, .int 0, .ref 236], (q_kX (q_pt 32 3 1 73 r2 r3.1) c n))) 1 (fun _ _ => rfl) ?_
    refine q_RP_rsT (g2 := (8, [(0, .ref 64), (1, .ref 236)], [], (q_kX (q_sL (q_pt 32 3 1 73 r2 r3.1) 172 (vp_updL ((q_pt 32 3 1 73 r2 r3.1).2.2 172) 0 r3.2.toInt64)) c n))) rfl q_wX172 rfl ?_
    refine q_RP_seg (g2 := (15, [(0, .ref 64), (1, .ref 236)], [.int 0], (q_kX (q_sL (q_pt 32 3 1 73 r2 r3.1) 172 (vp_updL ((q_pt 32 3 1 73 r2 r3.1).2.2 172) 0 r3.2.toInt64)) c n))) 2 (fun _ _ => rfl) ?_
    exact q_RP_ret rfl rfl rfl
  | false =>
    refine q_RP_cF ?_
    refine q_RP_callH (E := "java/lang/IllegalStateException") (tg := 12) (i := 2) (h2 := (q_kX s (c + 1) (n + 6))) rfl rfl ?_ rfl ?_
    · refine q_Ca_of (Nat.le_of_ble_eq_true rfl) ?_
      refine q_Ru_seg (g2 := (10, [(0, .ref 64)], [.int (s.2.1 24 7)], (q_kX s c n))) 4 (fun _ _ => rfl) ?_
      refine q_Ru_rsF (g2 := (13, [(0, .ref 64)], [], (q_kX s c n))) rfl rfl h2 ?_
      exact q_Ru_thr rfl rfl
    show q_RP _ _ _ (12, [(0, .ref 64), (1, .ref 236)], [], (q_kX s (c + 1) (n + 6))) _ _
    refine q_RP_seg (g2 := (13, [(0, .ref 64), (1, .ref 236)], [.int 1], (q_kX s (c + 1) (n + 6)))) 1 (fun _ _ => rfl) ?_
    exact q_RP_ret rfl rfl rfl
def dz_X13_64_236 (s : q_S) (a1 : Int32) : q_S × Int32 × Nat :=
  cond (decide (s.2.1 24 11 < 16)) (cond (decide (a1 < 0)) ((s, 1, 1)) (cond (decide (a1 < s.2.1 24 11)) (((q_sL s 172 (vp_updL (s.2.2 172) 0 (((s.1 25) (((((s.2.1 24 11) - 1) - a1) &&& 15).toNatClampNeg)).toInt64))), 0, 0)) ((s, 1, 1)))) (cond (decide (a1 < 0)) ((s, 1, 1)) (cond (decide (a1 < 16)) (((q_sL s 172 (vp_updL (s.2.2 172) 0 (((s.1 25) (((((s.2.1 24 11) - 1) - a1) &&& 15).toNatClampNeg)).toInt64))), 0, 0)) ((s, 1, 1))))
set_option maxHeartbeats 4000000 in
theorem dzt_X13_64_236 (z L : Nat) (xs : Nat → Int32) (s : q_S) (c n : Nat) (a1 : Int32) : q_Ca (q_TBs z L xs) 3 13 [.ref 64, .int a1, .ref 236] (q_kX s c n) ((q_oEX c n) (dz_X13_64_236 s a1)) := by
  refine q_CaT_of (φ := (q_oEX c n)) (Nat.le_of_ble_eq_true rfl) ?_
  unfold dz_X13_64_236
  refine q_RT_seg (g2 := (4, [(0, .ref 64), (1, .int a1), (2, .ref 236)], [.int a1, .ref 64, .int 0, .ref 236], (q_kX s c n))) 4 (fun _ _ => rfl) ?_
  cases h1 : decide (s.2.1 24 11 < 16) with
  | true =>
    refine q_RT_cT ?_
    cases h2 : decide (a1 < 0) with
    | true =>
      refine q_RT_cT ?_
      refine q_RT_callH (E := "java/lang/IndexOutOfBoundsException") (tg := 13) (i := 3) (h2 := (q_kX s (c + 1) (n + 6))) rfl rfl ?_ rfl ?_
      · refine q_Ca_of (Nat.le_of_ble_eq_true rfl) ?_
        refine q_Ru_seg (g2 := (15, [(2, .ref 88), (0, .ref 64), (1, .int a1)], [.int 16, .int (s.2.1 24 11), .int a1], (q_kX s c n))) 8 (fun _ _ => rfl) ?_
        refine q_Ru_rsF (g2 := (18, [(2, .ref 88), (0, .ref 64), (1, .int a1)], [.int a1], (q_kX s c n))) rfl rfl (q_d_geT h1) ?_
        refine q_Ru_seg (g2 := (27, [(2, .ref 88), (0, .ref 64), (1, .int a1)], [.int (s.2.1 24 11), .int a1], (q_kX s c n))) 3 (fun _ _ => rfl) ?_
        refine q_Ru_callX (E := "java/lang/IndexOutOfBoundsException") (h2 := (q_kX s (c + 1) (n + 6))) rfl rfl ?_
        refine q_Ca_of (Nat.le_of_ble_eq_true rfl) ?_
        refine q_Ru_seg (g2 := (1, [(0, .int a1), (1, .int (s.2.1 24 11))], [.int a1], (q_kX s c n))) 1 (fun _ _ => rfl) ?_
        refine q_Ru_rsT (g2 := (9, [(0, .int a1), (1, .int (s.2.1 24 11))], [], (q_kX s c n))) rfl rfl h2 ?_
        exact q_Ru_thr rfl rfl
      show q_RT _ _ _ (13, [(0, .ref 64), (1, .int a1), (2, .ref 236)], [], (q_kX s (c + 1) (n + 6))) _ _
      refine q_RT_seg (g2 := (14, [(0, .ref 64), (1, .int a1), (2, .ref 236)], [.int 1], (q_kX s (c + 1) (n + 6)))) 1 (fun _ _ => rfl) ?_
      exact q_RT_ret rfl rfl rfl
    | false =>
      refine q_RT_cF ?_
      cases h3 : decide (a1 < s.2.1 24 11) with
      | true =>
        refine q_RT_cT ?_
        refine q_RT_call (v := (some (.int ((s.1 25) (((((s.2.1 24 11) - 1) - a1) &&& 15).toNatClampNeg))))) (h2 := (q_kX s c n)) rfl rfl ?_ ?_
        · refine q_Ca_of (Nat.le_of_ble_eq_true rfl) ?_
          refine q_Ru_seg (g2 := (15, [(2, .ref 88), (0, .ref 64), (1, .int a1)], [.int 16, .int (s.2.1 24 11), .int a1], (q_kX s c n))) 8 (fun _ _ => rfl) ?_
          refine q_Ru_rsF (g2 := (18, [(2, .ref 88), (0, .ref 64), (1, .int a1)], [.int a1], (q_kX s c n))) rfl rfl (q_d_geT h1) ?_
          refine q_Ru_seg (g2 := (27, [(2, .ref 88), (0, .ref 64), (1, .int a1)], [.int (s.2.1 24 11), .int a1], (q_kX s c n))) 3 (fun _ _ => rfl) ?_
          refine q_Ru_call (v := none) (h2 := (q_kX s c n)) rfl rfl ?_ ?_
          · refine q_Ca_of (Nat.le_of_ble_eq_true rfl) ?_
            refine q_Ru_seg (g2 := (1, [(0, .int a1), (1, .int (s.2.1 24 11))], [.int a1], (q_kX s c n))) 1 (fun _ _ => rfl) ?_
            refine q_Ru_rsF (g2 := (4, [(0, .int a1), (1, .int (s.2.1 24 11))], [], (q_kX s c n))) rfl rfl h2 ?_
            refine q_Ru_seg (g2 := (6, [(0, .int a1), (1, .int (s.2.1 24 11))], [.int (s.2.1 24 11), .int a1], (q_kX s c n))) 2 (fun _ _ => rfl) ?_
            refine q_Ru_rsT (g2 := (19, [(0, .int a1), (1, .int (s.2.1 24 11))], [], (q_kX s c n))) rfl rfl h3 ?_
            exact q_Ru_ret rfl rfl
          show q_Ru _ _ _ (30, [(2, .ref 88), (0, .ref 64), (1, .int a1)], [], (q_kX s c n)) _
          refine q_Ru_seg (g2 := (45, [(2, .ref 88), (0, .ref 64), (1, .int a1)], [.int ((((s.2.1 24 11) - 1) - a1) &&& 15), .ref 89], (q_kX s c n))) 10 (fun _ _ => rfl) ?_
          refine q_Ru_rsT (g2 := (46, [(2, .ref 88), (0, .ref 64), (1, .int a1)], [.int ((s.1 25) (((((s.2.1 24 11) - 1) - a1) &&& 15).toNatClampNeg))], (q_kX s c n))) rfl rfl (q_in_bd (x := (((s.2.1 24 11) - 1) - a1) &&& 15) (n := 16) (U := 15) (L := 0) (q_and_lo (((s.2.1 24 11) - 1) - a1) 15) (q_and_hi (((s.2.1 24 11) - 1) - a1) 15 15)) ?_
          exact q_Ru_ret rfl rfl
        show q_RT _ _ _ (7, [(0, .ref 64), (1, .int a1), (2, .ref 236)], [.int ((s.1 25) (((((s.2.1 24 11) - 1) - a1) &&& 15).toNatClampNeg)), .int 0, .ref 236], (q_kX s c n)) _ _
        refine q_RT_seg (g2 := (8, [(0, .ref 64), (1, .int a1), (2, .ref 236)], [.long (((s.1 25) (((((s.2.1 24 11) - 1) - a1) &&& 15).toNatClampNeg)).toInt64), .int 0, .ref 236], (q_kX s c n))) 1 (fun _ _ => rfl) ?_
        refine q_RT_rsT (g2 := (9, [(0, .ref 64), (1, .int a1), (2, .ref 236)], [], (q_kX (q_sL s 172 (vp_updL (s.2.2 172) 0 (((s.1 25) (((((s.2.1 24 11) - 1) - a1) &&& 15).toNatClampNeg)).toInt64))) c n))) rfl q_wX172 rfl ?_
        refine q_RT_seg (g2 := (16, [(0, .ref 64), (1, .int a1), (2, .ref 236)], [.int 0], (q_kX (q_sL s 172 (vp_updL (s.2.2 172) 0 (((s.1 25) (((((s.2.1 24 11) - 1) - a1) &&& 15).toNatClampNeg)).toInt64))) c n))) 2 (fun _ _ => rfl) ?_
        exact q_RT_ret rfl rfl rfl
      | false =>
        refine q_RT_cF ?_
        refine q_RT_callH (E := "java/lang/IndexOutOfBoundsException") (tg := 13) (i := 3) (h2 := (q_kX s (c + 1) (n + 6))) rfl rfl ?_ rfl ?_
        · refine q_Ca_of (Nat.le_of_ble_eq_true rfl) ?_
          refine q_Ru_seg (g2 := (15, [(2, .ref 88), (0, .ref 64), (1, .int a1)], [.int 16, .int (s.2.1 24 11), .int a1], (q_kX s c n))) 8 (fun _ _ => rfl) ?_
          refine q_Ru_rsF (g2 := (18, [(2, .ref 88), (0, .ref 64), (1, .int a1)], [.int a1], (q_kX s c n))) rfl rfl (q_d_geT h1) ?_
          refine q_Ru_seg (g2 := (27, [(2, .ref 88), (0, .ref 64), (1, .int a1)], [.int (s.2.1 24 11), .int a1], (q_kX s c n))) 3 (fun _ _ => rfl) ?_
          refine q_Ru_callX (E := "java/lang/IndexOutOfBoundsException") (h2 := (q_kX s (c + 1) (n + 6))) rfl rfl ?_
          refine q_Ca_of (Nat.le_of_ble_eq_true rfl) ?_
          refine q_Ru_seg (g2 := (1, [(0, .int a1), (1, .int (s.2.1 24 11))], [.int a1], (q_kX s c n))) 1 (fun _ _ => rfl) ?_
          refine q_Ru_rsF (g2 := (4, [(0, .int a1), (1, .int (s.2.1 24 11))], [], (q_kX s c n))) rfl rfl h2 ?_
          refine q_Ru_seg (g2 := (6, [(0, .int a1), (1, .int (s.2.1 24 11))], [.int (s.2.1 24 11), .int a1], (q_kX s c n))) 2 (fun _ _ => rfl) ?_
          refine q_Ru_rsF (g2 := (9, [(0, .int a1), (1, .int (s.2.1 24 11))], [], (q_kX s c n))) rfl rfl h3 ?_
          exact q_Ru_thr rfl rfl
        show q_RT _ _ _ (13, [(0, .ref 64), (1, .int a1), (2, .ref 236)], [], (q_kX s (c + 1) (n + 6))) _ _
        refine q_RT_seg (g2 := (14, [(0, .ref 64), (1, .int a1), (2, .ref 236)], [.int 1], (q_kX s (c + 1) (n + 6)))) 1 (fun _ _ => rfl) ?_
        exact q_RT_ret rfl rfl rfl
  | false =>
    refine q_RT_cF ?_
    cases h4 : decide (a1 < 0) with
    | true =>
      refine q_RT_cT ?_
      refine q_RT_callH (E := "java/lang/IndexOutOfBoundsException") (tg := 13) (i := 3) (h2 := (q_kX s (c + 1) (n + 6))) rfl rfl ?_ rfl ?_
      · refine q_Ca_of (Nat.le_of_ble_eq_true rfl) ?_
        refine q_Ru_seg (g2 := (15, [(2, .ref 88), (0, .ref 64), (1, .int a1)], [.int 16, .int (s.2.1 24 11), .int a1], (q_kX s c n))) 8 (fun _ _ => rfl) ?_
        refine q_Ru_rsT (g2 := (25, [(2, .ref 88), (0, .ref 64), (1, .int a1)], [.int a1], (q_kX s c n))) rfl rfl (q_d_geF h1) ?_
        refine q_Ru_seg (g2 := (27, [(2, .ref 88), (0, .ref 64), (1, .int a1)], [.int 16, .int a1], (q_kX s c n))) 1 (fun _ _ => rfl) ?_
        refine q_Ru_callX (E := "java/lang/IndexOutOfBoundsException") (h2 := (q_kX s (c + 1) (n + 6))) rfl rfl ?_
        refine q_Ca_of (Nat.le_of_ble_eq_true rfl) ?_
        refine q_Ru_seg (g2 := (1, [(0, .int a1), (1, .int 16)], [.int a1], (q_kX s c n))) 1 (fun _ _ => rfl) ?_
        refine q_Ru_rsT (g2 := (9, [(0, .int a1), (1, .int 16)], [], (q_kX s c n))) rfl rfl h4 ?_
        exact q_Ru_thr rfl rfl
      show q_RT _ _ _ (13, [(0, .ref 64), (1, .int a1), (2, .ref 236)], [], (q_kX s (c + 1) (n + 6))) _ _
      refine q_RT_seg (g2 := (14, [(0, .ref 64), (1, .int a1), (2, .ref 236)], [.int 1], (q_kX s (c + 1) (n + 6)))) 1 (fun _ _ => rfl) ?_
      exact q_RT_ret rfl rfl rfl
    | false =>
      refine q_RT_cF ?_
      cases h5 : decide (a1 < 16) with
      | true =>
        refine q_RT_cT ?_
        refine q_RT_call (v := (some (.int ((s.1 25) (((((s.2.1 24 11) - 1) - a1) &&& 15).toNatClampNeg))))) (h2 := (q_kX s c n)) rfl rfl ?_ ?_
        · refine q_Ca_of (Nat.le_of_ble_eq_true rfl) ?_
          refine q_Ru_seg (g2 := (15, [(2, .ref 88), (0, .ref 64), (1, .int a1)], [.int 16, .int (s.2.1 24 11), .int a1], (q_kX s c n))) 8 (fun _ _ => rfl) ?_
          refine q_Ru_rsT (g2 := (25, [(2, .ref 88), (0, .ref 64), (1, .int a1)], [.int a1], (q_kX s c n))) rfl rfl (q_d_geF h1) ?_
          refine q_Ru_seg (g2 := (27, [(2, .ref 88), (0, .ref 64), (1, .int a1)], [.int 16, .int a1], (q_kX s c n))) 1 (fun _ _ => rfl) ?_
          refine q_Ru_call (v := none) (h2 := (q_kX s c n)) rfl rfl ?_ ?_
          · refine q_Ca_of (Nat.le_of_ble_eq_true rfl) ?_
            refine q_Ru_seg (g2 := (1, [(0, .int a1), (1, .int 16)], [.int a1], (q_kX s c n))) 1 (fun _ _ => rfl) ?_
            refine q_Ru_rsF (g2 := (4, [(0, .int a1), (1, .int 16)], [], (q_kX s c n))) rfl rfl h4 ?_
            refine q_Ru_seg (g2 := (6, [(0, .int a1), (1, .int 16)], [.int 16, .int a1], (q_kX s c n))) 2 (fun _ _ => rfl) ?_
            refine q_Ru_rsT (g2 := (19, [(0, .int a1), (1, .int 16)], [], (q_kX s c n))) rfl rfl h5 ?_
            exact q_Ru_ret rfl rfl
          show q_Ru _ _ _ (30, [(2, .ref 88), (0, .ref 64), (1, .int a1)], [], (q_kX s c n)) _
          refine q_Ru_seg (g2 := (45, [(2, .ref 88), (0, .ref 64), (1, .int a1)], [.int ((((s.2.1 24 11) - 1) - a1) &&& 15), .ref 89], (q_kX s c n))) 10 (fun _ _ => rfl) ?_
          refine q_Ru_rsT (g2 := (46, [(2, .ref 88), (0, .ref 64), (1, .int a1)], [.int ((s.1 25) (((((s.2.1 24 11) - 1) - a1) &&& 15).toNatClampNeg))], (q_kX s c n))) rfl rfl (q_in_bd (x := (((s.2.1 24 11) - 1) - a1) &&& 15) (n := 16) (U := 15) (L := 0) (q_and_lo (((s.2.1 24 11) - 1) - a1) 15) (q_and_hi (((s.2.1 24 11) - 1) - a1) 15 15)) ?_
          exact q_Ru_ret rfl rfl
        show q_RT _ _ _ (7, [(0, .ref 64), (1, .int a1), (2, .ref 236)], [.int ((s.1 25) (((((s.2.1 24 11) - 1) - a1) &&& 15).toNatClampNeg)), .int 0, .ref 236], (q_kX s c n)) _ _
        refine q_RT_seg (g2 := (8, [(0, .ref 64), (1, .int a1), (2, .ref 236)], [.long (((s.1 25) (((((s.2.1 24 11) - 1) - a1) &&& 15).toNatClampNeg)).toInt64), .int 0, .ref 236], (q_kX s c n))) 1 (fun _ _ => rfl) ?_
        refine q_RT_rsT (g2 := (9, [(0, .ref 64), (1, .int a1), (2, .ref 236)], [], (q_kX (q_sL s 172 (vp_updL (s.2.2 172) 0 (((s.1 25) (((((s.2.1 24 11) - 1) - a1) &&& 15).toNatClampNeg)).toInt64))) c n))) rfl q_wX172 rfl ?_
        refine q_RT_seg (g2 := (16, [(0, .ref 64), (1, .int a1), (2, .ref 236)], [.int 0], (q_kX (q_sL s 172 (vp_updL (s.2.2 172) 0 (((s.1 25) (((((s.2.1 24 11) - 1) - a1) &&& 15).toNatClampNeg)).toInt64))) c n))) 2 (fun _ _ => rfl) ?_
        exact q_RT_ret rfl rfl rfl
      | false =>
        refine q_RT_cF ?_
        refine q_RT_callH (E := "java/lang/IndexOutOfBoundsException") (tg := 13) (i := 3) (h2 := (q_kX s (c + 1) (n + 6))) rfl rfl ?_ rfl ?_
        · refine q_Ca_of (Nat.le_of_ble_eq_true rfl) ?_
          refine q_Ru_seg (g2 := (15, [(2, .ref 88), (0, .ref 64), (1, .int a1)], [.int 16, .int (s.2.1 24 11), .int a1], (q_kX s c n))) 8 (fun _ _ => rfl) ?_
          refine q_Ru_rsT (g2 := (25, [(2, .ref 88), (0, .ref 64), (1, .int a1)], [.int a1], (q_kX s c n))) rfl rfl (q_d_geF h1) ?_
          refine q_Ru_seg (g2 := (27, [(2, .ref 88), (0, .ref 64), (1, .int a1)], [.int 16, .int a1], (q_kX s c n))) 1 (fun _ _ => rfl) ?_
          refine q_Ru_callX (E := "java/lang/IndexOutOfBoundsException") (h2 := (q_kX s (c + 1) (n + 6))) rfl rfl ?_
          refine q_Ca_of (Nat.le_of_ble_eq_true rfl) ?_
          refine q_Ru_seg (g2 := (1, [(0, .int a1), (1, .int 16)], [.int a1], (q_kX s c n))) 1 (fun _ _ => rfl) ?_
          refine q_Ru_rsF (g2 := (4, [(0, .int a1), (1, .int 16)], [], (q_kX s c n))) rfl rfl h4 ?_
          refine q_Ru_seg (g2 := (6, [(0, .int a1), (1, .int 16)], [.int 16, .int a1], (q_kX s c n))) 2 (fun _ _ => rfl) ?_
          refine q_Ru_rsF (g2 := (9, [(0, .int a1), (1, .int 16)], [], (q_kX s c n))) rfl rfl h5 ?_
          exact q_Ru_thr rfl rfl
        show q_RT _ _ _ (13, [(0, .ref 64), (1, .int a1), (2, .ref 236)], [], (q_kX s (c + 1) (n + 6))) _ _
        refine q_RT_seg (g2 := (14, [(0, .ref 64), (1, .int a1), (2, .ref 236)], [.int 1], (q_kX s (c + 1) (n + 6)))) 1 (fun _ _ => rfl) ?_
        exact q_RT_ret rfl rfl rfl
def dz_X14_64_236 (s : q_S) (a1 : Int32) (a2 : Int32) : q_S × Int32 × Nat :=
  cond (decide (a1 < 0)) ((s, 1, 1)) (cond (decide (a1 < 32)) (cond (decide (a2 < 0)) ((s, 1, 1)) (cond (decide (a2 < 32)) (((q_sL s 172 (vp_updL (s.2.2 172) 0 (((s.1 32) ((((32 * a2) + a1) &&& 1023).toNatClampNeg)).toInt64))), 0, 0)) ((s, 1, 1)))) ((s, 1, 1)))
set_option maxHeartbeats 4000000 in
theorem dzt_X14_64_236 (z L : Nat) (xs : Nat → Int32) (s : q_S) (c n : Nat) (a1 : Int32) (a2 : Int32) : q_Ca (q_TBs z L xs) 3 14 [.ref 64, .int a1, .int a2, .ref 236] (q_kX s c n) ((q_oEX c n) (dz_X14_64_236 s a1 a2)) := by
  refine q_CaT_of (φ := (q_oEX c n)) (Nat.le_of_ble_eq_true rfl) ?_
  unfold dz_X14_64_236
  refine q_RT_seg (g2 := (5, [(0, .ref 64), (1, .int a1), (2, .int a2), (3, .ref 236)], [.int a2, .int a1, .ref 64, .int 0, .ref 236], (q_kX s c n))) 5 (fun _ _ => rfl) ?_
  cases h1 : decide (a1 < 0) with
  | true =>
    refine q_RT_cT ?_
    refine q_RT_callH (E := "java/lang/IndexOutOfBoundsException") (tg := 15) (i := 4) (h2 := (q_kX s (c + 1) (n + 6))) rfl rfl ?_ rfl ?_
    · refine q_Ca_of (Nat.le_of_ble_eq_true rfl) ?_
      refine q_Ru_seg (g2 := (3, [(0, .ref 64), (1, .int a1), (2, .int a2)], [.int 32, .int a1], (q_kX s c n))) 2 (fun _ _ => rfl) ?_
      refine q_Ru_callX (E := "java/lang/IndexOutOfBoundsException") (h2 := (q_kX s (c + 1) (n + 6))) rfl rfl ?_
      refine q_Ca_of (Nat.le_of_ble_eq_true rfl) ?_
      refine q_Ru_seg (g2 := (1, [(0, .int a1), (1, .int 32)], [.int a1], (q_kX s c n))) 1 (fun _ _ => rfl) ?_
      refine q_Ru_rsT (g2 := (9, [(0, .int a1), (1, .int 32)], [], (q_kX s c n))) rfl rfl h1 ?_
      exact q_Ru_thr rfl rfl
    show q_RT _ _ _ (15, [(0, .ref 64), (1, .int a1), (2, .int a2), (3, .ref 236)], [], (q_kX s (c + 1) (n + 6))) _ _
    refine q_RT_seg (g2 := (16, [(0, .ref 64), (1, .int a1), (2, .int a2), (3, .ref 236)], [.int 1], (q_kX s (c + 1) (n + 6)))) 1 (fun _ _ => rfl) ?_
    exact q_RT_ret rfl rfl rfl
  | false =>
    refine q_RT_cF ?_
    cases h2 : decide (a1 < 32) with
    | true =>
      refine q_RT_cT ?_
      cases h3 : decide (a2 < 0) with
      | true =>
        refine q_RT_cT ?_
        refine q_RT_callH (E := "java/lang/IndexOutOfBoundsException") (tg := 15) (i := 4) (h2 := (q_kX s (c + 1) (n + 6))) rfl rfl ?_ rfl ?_
        · refine q_Ca_of (Nat.le_of_ble_eq_true rfl) ?_
          refine q_Ru_seg (g2 := (3, [(0, .ref 64), (1, .int a1), (2, .int a2)], [.int 32, .int a1], (q_kX s c n))) 2 (fun _ _ => rfl) ?_
          refine q_Ru_call (v := none) (h2 := (q_kX s c n)) rfl rfl ?_ ?_
          · refine q_Ca_of (Nat.le_of_ble_eq_true rfl) ?_
            refine q_Ru_seg (g2 := (1, [(0, .int a1), (1, .int 32)], [.int a1], (q_kX s c n))) 1 (fun _ _ => rfl) ?_
            refine q_Ru_rsF (g2 := (4, [(0, .int a1), (1, .int 32)], [], (q_kX s c n))) rfl rfl h1 ?_
            refine q_Ru_seg (g2 := (6, [(0, .int a1), (1, .int 32)], [.int 32, .int a1], (q_kX s c n))) 2 (fun _ _ => rfl) ?_
            refine q_Ru_rsT (g2 := (19, [(0, .int a1), (1, .int 32)], [], (q_kX s c n))) rfl rfl h2 ?_
            exact q_Ru_ret rfl rfl
          show q_Ru _ _ _ (6, [(0, .ref 64), (1, .int a1), (2, .int a2)], [], (q_kX s c n)) _
          refine q_Ru_seg (g2 := (9, [(0, .ref 64), (1, .int a1), (2, .int a2)], [.int 32, .int a2], (q_kX s c n))) 2 (fun _ _ => rfl) ?_
          refine q_Ru_callX (E := "java/lang/IndexOutOfBoundsException") (h2 := (q_kX s (c + 1) (n + 6))) rfl rfl ?_
          refine q_Ca_of (Nat.le_of_ble_eq_true rfl) ?_
          refine q_Ru_seg (g2 := (1, [(0, .int a2), (1, .int 32)], [.int a2], (q_kX s c n))) 1 (fun _ _ => rfl) ?_
          refine q_Ru_rsT (g2 := (9, [(0, .int a2), (1, .int 32)], [], (q_kX s c n))) rfl rfl h3 ?_
          exact q_Ru_thr rfl rfl
        show q_RT _ _ _ (15, [(0, .ref 64), (1, .int a1), (2, .int a2), (3, .ref 236)], [], (q_kX s (c + 1) (n + 6))) _ _
        refine q_RT_seg (g2 := (16, [(0, .ref 64), (1, .int a1), (2, .int a2), (3, .ref 236)], [.int 1], (q_kX s (c + 1) (n + 6)))) 1 (fun _ _ => rfl) ?_
        exact q_RT_ret rfl rfl rfl
      | false =>
        refine q_RT_cF ?_
        cases h4 : decide (a2 < 32) with
        | true =>
          refine q_RT_cT ?_
          refine q_RT_call (v := (some (.int ((s.1 32) ((((32 * a2) + a1) &&& 1023).toNatClampNeg))))) (h2 := (q_kX s c n)) rfl rfl ?_ ?_
          · refine q_Ca_of (Nat.le_of_ble_eq_true rfl) ?_
            refine q_Ru_seg (g2 := (3, [(0, .ref 64), (1, .int a1), (2, .int a2)], [.int 32, .int a1], (q_kX s c n))) 2 (fun _ _ => rfl) ?_
            refine q_Ru_call (v := none) (h2 := (q_kX s c n)) rfl rfl ?_ ?_
            · refine q_Ca_of (Nat.le_of_ble_eq_true rfl) ?_
              refine q_Ru_seg (g2 := (1, [(0, .int a1), (1, .int 32)], [.int a1], (q_kX s c n))) 1 (fun _ _ => rfl) ?_
              refine q_Ru_rsF (g2 := (4, [(0, .int a1), (1, .int 32)], [], (q_kX s c n))) rfl rfl h1 ?_
              refine q_Ru_seg (g2 := (6, [(0, .int a1), (1, .int 32)], [.int 32, .int a1], (q_kX s c n))) 2 (fun _ _ => rfl) ?_
              refine q_Ru_rsT (g2 := (19, [(0, .int a1), (1, .int 32)], [], (q_kX s c n))) rfl rfl h2 ?_
              exact q_Ru_ret rfl rfl
            show q_Ru _ _ _ (6, [(0, .ref 64), (1, .int a1), (2, .int a2)], [], (q_kX s c n)) _
            refine q_Ru_seg (g2 := (9, [(0, .ref 64), (1, .int a1), (2, .int a2)], [.int 32, .int a2], (q_kX s c n))) 2 (fun _ _ => rfl) ?_
            refine q_Ru_call (v := none) (h2 := (q_kX s c n)) rfl rfl ?_ ?_
            · refine q_Ca_of (Nat.le_of_ble_eq_true rfl) ?_
              refine q_Ru_seg (g2 := (1, [(0, .int a2), (1, .int 32)], [.int a2], (q_kX s c n))) 1 (fun _ _ => rfl) ?_
              refine q_Ru_rsF (g2 := (4, [(0, .int a2), (1, .int 32)], [], (q_kX s c n))) rfl rfl h3 ?_
              refine q_Ru_seg (g2 := (6, [(0, .int a2), (1, .int 32)], [.int 32, .int a2], (q_kX s c n))) 2 (fun _ _ => rfl) ?_
              refine q_Ru_rsT (g2 := (19, [(0, .int a2), (1, .int 32)], [], (q_kX s c n))) rfl rfl h4 ?_
              exact q_Ru_ret rfl rfl
            show q_Ru _ _ _ (12, [(0, .ref 64), (1, .int a1), (2, .int a2)], [], (q_kX s c n)) _
            refine q_Ru_seg (g2 := (29, [(0, .ref 64), (1, .int a1), (2, .int a2)], [.int (((32 * a2) + a1) &&& 1023), .ref 96], (q_kX s c n))) 10 (fun _ _ => rfl) ?_
            refine q_Ru_rsT (g2 := (30, [(0, .ref 64), (1, .int a1), (2, .int a2)], [.int ((s.1 32) ((((32 * a2) + a1) &&& 1023).toNatClampNeg))], (q_kX s c n))) rfl rfl (q_in_bd (x := ((32 * a2) + a1) &&& 1023) (n := 1024) (U := 1023) (L := 0) (q_and_lo ((32 * a2) + a1) 1023) (q_and_hi ((32 * a2) + a1) 1023 1023)) ?_
            exact q_Ru_ret rfl rfl
          show q_RT _ _ _ (8, [(0, .ref 64), (1, .int a1), (2, .int a2), (3, .ref 236)], [.int ((s.1 32) ((((32 * a2) + a1) &&& 1023).toNatClampNeg)), .int 0, .ref 236], (q_kX s c n)) _ _
          refine q_RT_seg (g2 := (9, [(0, .ref 64), (1, .int a1), (2, .int a2), (3, .ref 236)], [.long (((s.1 32) ((((32 * a2) + a1) &&& 1023).toNatClampNeg)).toInt64), .int 0, .ref 236], (q_kX s c n))) 1 (fun _ _ => rfl) ?_
          refine q_RT_rsT (g2 := (10, [(0, .ref 64), (1, .int a1), (2, .int a2), (3, .ref 236)], [], (q_kX (q_sL s 172 (vp_updL (s.2.2 172) 0 (((s.1 32) ((((32 * a2) + a1) &&& 1023).toNatClampNeg)).toInt64))) c n))) rfl q_wX172 rfl ?_
          refine q_RT_seg (g2 := (18, [(0, .ref 64), (1, .int a1), (2, .int a2), (3, .ref 236)], [.int 0], (q_kX (q_sL s 172 (vp_updL (s.2.2 172) 0 (((s.1 32) ((((32 * a2) + a1) &&& 1023).toNatClampNeg)).toInt64))) c n))) 2 (fun _ _ => rfl) ?_
          exact q_RT_ret rfl rfl rfl
        | false =>
          refine q_RT_cF ?_
          refine q_RT_callH (E := "java/lang/IndexOutOfBoundsException") (tg := 15) (i := 4) (h2 := (q_kX s (c + 1) (n + 6))) rfl rfl ?_ rfl ?_
          · refine q_Ca_of (Nat.le_of_ble_eq_true rfl) ?_
            refine q_Ru_seg (g2 := (3, [(0, .ref 64), (1, .int a1), (2, .int a2)], [.int 32, .int a1], (q_kX s c n))) 2 (fun _ _ => rfl) ?_
            refine q_Ru_call (v := none) (h2 := (q_kX s c n)) rfl rfl ?_ ?_
            · refine q_Ca_of (Nat.le_of_ble_eq_true rfl) ?_
              refine q_Ru_seg (g2 := (1, [(0, .int a1), (1, .int 32)], [.int a1], (q_kX s c n))) 1 (fun _ _ => rfl) ?_
              refine q_Ru_rsF (g2 := (4, [(0, .int a1), (1, .int 32)], [], (q_kX s c n))) rfl rfl h1 ?_
              refine q_Ru_seg (g2 := (6, [(0, .int a1), (1, .int 32)], [.int 32, .int a1], (q_kX s c n))) 2 (fun _ _ => rfl) ?_
              refine q_Ru_rsT (g2 := (19, [(0, .int a1), (1, .int 32)], [], (q_kX s c n))) rfl rfl h2 ?_
              exact q_Ru_ret rfl rfl
            show q_Ru _ _ _ (6, [(0, .ref 64), (1, .int a1), (2, .int a2)], [], (q_kX s c n)) _
            refine q_Ru_seg (g2 := (9, [(0, .ref 64), (1, .int a1), (2, .int a2)], [.int 32, .int a2], (q_kX s c n))) 2 (fun _ _ => rfl) ?_
            refine q_Ru_callX (E := "java/lang/IndexOutOfBoundsException") (h2 := (q_kX s (c + 1) (n + 6))) rfl rfl ?_
            refine q_Ca_of (Nat.le_of_ble_eq_true rfl) ?_
            refine q_Ru_seg (g2 := (1, [(0, .int a2), (1, .int 32)], [.int a2], (q_kX s c n))) 1 (fun _ _ => rfl) ?_
            refine q_Ru_rsF (g2 := (4, [(0, .int a2), (1, .int 32)], [], (q_kX s c n))) rfl rfl h3 ?_
            refine q_Ru_seg (g2 := (6, [(0, .int a2), (1, .int 32)], [.int 32, .int a2], (q_kX s c n))) 2 (fun _ _ => rfl) ?_
            refine q_Ru_rsF (g2 := (9, [(0, .int a2), (1, .int 32)], [], (q_kX s c n))) rfl rfl h4 ?_
            exact q_Ru_thr rfl rfl
          show q_RT _ _ _ (15, [(0, .ref 64), (1, .int a1), (2, .int a2), (3, .ref 236)], [], (q_kX s (c + 1) (n + 6))) _ _
          refine q_RT_seg (g2 := (16, [(0, .ref 64), (1, .int a1), (2, .int a2), (3, .ref 236)], [.int 1], (q_kX s (c + 1) (n + 6)))) 1 (fun _ _ => rfl) ?_
          exact q_RT_ret rfl rfl rfl
    | false =>
      refine q_RT_cF ?_
      refine q_RT_callH (E := "java/lang/IndexOutOfBoundsException") (tg := 15) (i := 4) (h2 := (q_kX s (c + 1) (n + 6))) rfl rfl ?_ rfl ?_
      · refine q_Ca_of (Nat.le_of_ble_eq_true rfl) ?_
        refine q_Ru_seg (g2 := (3, [(0, .ref 64), (1, .int a1), (2, .int a2)], [.int 32, .int a1], (q_kX s c n))) 2 (fun _ _ => rfl) ?_
        refine q_Ru_callX (E := "java/lang/IndexOutOfBoundsException") (h2 := (q_kX s (c + 1) (n + 6))) rfl rfl ?_
        refine q_Ca_of (Nat.le_of_ble_eq_true rfl) ?_
        refine q_Ru_seg (g2 := (1, [(0, .int a1), (1, .int 32)], [.int a1], (q_kX s c n))) 1 (fun _ _ => rfl) ?_
        refine q_Ru_rsF (g2 := (4, [(0, .int a1), (1, .int 32)], [], (q_kX s c n))) rfl rfl h1 ?_
        refine q_Ru_seg (g2 := (6, [(0, .int a1), (1, .int 32)], [.int 32, .int a1], (q_kX s c n))) 2 (fun _ _ => rfl) ?_
        refine q_Ru_rsF (g2 := (9, [(0, .int a1), (1, .int 32)], [], (q_kX s c n))) rfl rfl h2 ?_
        exact q_Ru_thr rfl rfl
      show q_RT _ _ _ (15, [(0, .ref 64), (1, .int a1), (2, .int a2), (3, .ref 236)], [], (q_kX s (c + 1) (n + 6))) _ _
      refine q_RT_seg (g2 := (16, [(0, .ref 64), (1, .int a1), (2, .int a2), (3, .ref 236)], [.int 1], (q_kX s (c + 1) (n + 6)))) 1 (fun _ _ => rfl) ?_
      exact q_RT_ret rfl rfl rfl
def dz_X15_64_236 (s : q_S) (a1 : Int32) (a2 : Int32) : Option (q_S × Int32 × Nat) :=
  cond (decide (a1 < 0)) (some (s, 1, 1)) (cond (decide (a1 < 32)) (cond (decide (a2 < 0)) (some (s, 1, 1)) (cond (decide (a2 < 32)) ((dz_N108_65_96 (q_vw 32 1 73 s) a1 a2).bind fun r1 => some ((q_sL (q_pt 32 3 1 73 s r1.1) 172 (vp_updL ((q_pt 32 3 1 73 s r1.1).2.2 172) 0 r1.2.toInt64)), 0, 0)) (some (s, 1, 1)))) (some (s, 1, 1)))
set_option maxHeartbeats 4000000 in
theorem dzt_X15_64_236 (z L : Nat) (xs : Nat → Int32) (s : q_S) (c n : Nat) (a1 : Int32) (a2 : Int32) (x : q_S × Int32 × Nat) (h : dz_X15_64_236 s a1 a2 = some x) : q_Ca (q_TBs z L xs) 7 15 [.ref 64, .int a1, .int a2, .ref 236] (q_kX s c n) ((q_oEX c n) x) := by
  refine q_CaP_of (φ := (q_oEX c n)) (Nat.le_of_ble_eq_true rfl) ?_ h
  clear h
  unfold dz_X15_64_236
  refine q_RP_seg (g2 := (5, [(0, .ref 64), (1, .int a1), (2, .int a2), (3, .ref 236)], [.int a2, .int a1, .ref 64, .int 0, .ref 236], (q_kX s c n))) 5 (fun _ _ => rfl) ?_
  cases h5 : decide (a1 < 0) with
  | true =>
    refine q_RP_cT ?_
    refine q_RP_callH (E := "java/lang/IndexOutOfBoundsException") (tg := 15) (i := 4) (h2 := (q_kX s (c + 1) (n + 6))) rfl rfl ?_ rfl ?_
    · refine q_Ca_of (Nat.le_of_ble_eq_true rfl) ?_
      refine q_Ru_seg (g2 := (3, [(0, .ref 64), (1, .int a1), (2, .int a2)], [.int 32, .int a1], (q_kX s c n))) 2 (fun _ _ => rfl) ?_
      refine q_Ru_callX (E := "java/lang/IndexOutOfBoundsException") (h2 := (q_kX s (c + 1) (n + 6))) rfl rfl ?_
      refine q_Ca_of (Nat.le_of_ble_eq_true rfl) ?_
      refine q_Ru_seg (g2 := (1, [(0, .int a1), (1, .int 32)], [.int a1], (q_kX s c n))) 1 (fun _ _ => rfl) ?_
      refine q_Ru_rsT (g2 := (9, [(0, .int a1), (1, .int 32)], [], (q_kX s c n))) rfl rfl h5 ?_
      exact q_Ru_thr rfl rfl
    show q_RP _ _ _ (15, [(0, .ref 64), (1, .int a1), (2, .int a2), (3, .ref 236)], [], (q_kX s (c + 1) (n + 6))) _ _
    refine q_RP_seg (g2 := (16, [(0, .ref 64), (1, .int a1), (2, .int a2), (3, .ref 236)], [.int 1], (q_kX s (c + 1) (n + 6)))) 1 (fun _ _ => rfl) ?_
    exact q_RP_ret rfl rfl rfl
  | false =>
    refine q_RP_cF ?_
    cases h6 : decide (a1 < 32) with
    | true =>
      refine q_RP_cT ?_
      cases h7 : decide (a2 < 0) with
      | true =>
        refine q_RP_cT ?_
        refine q_RP_callH (E := "java/lang/IndexOutOfBoundsException") (tg := 15) (i := 4) (h2 := (q_kX s (c + 1) (n + 6))) rfl rfl ?_ rfl ?_
        · refine q_Ca_of (Nat.le_of_ble_eq_true rfl) ?_
          refine q_Ru_seg (g2 := (3, [(0, .ref 64), (1, .int a1), (2, .int a2)], [.int 32, .int a1], (q_kX s c n))) 2 (fun _ _ => rfl) ?_
          refine q_Ru_call (v := none) (h2 := (q_kX s c n)) rfl rfl ?_ ?_
          · refine q_Ca_of (Nat.le_of_ble_eq_true rfl) ?_
            refine q_Ru_seg (g2 := (1, [(0, .int a1), (1, .int 32)], [.int a1], (q_kX s c n))) 1 (fun _ _ => rfl) ?_
            refine q_Ru_rsF (g2 := (4, [(0, .int a1), (1, .int 32)], [], (q_kX s c n))) rfl rfl h5 ?_
            refine q_Ru_seg (g2 := (6, [(0, .int a1), (1, .int 32)], [.int 32, .int a1], (q_kX s c n))) 2 (fun _ _ => rfl) ?_
            refine q_Ru_rsT (g2 := (19, [(0, .int a1), (1, .int 32)], [], (q_kX s c n))) rfl rfl h6 ?_
            exact q_Ru_ret rfl rfl
          show q_Ru _ _ _ (6, [(0, .ref 64), (1, .int a1), (2, .int a2)], [], (q_kX s c n)) _
          refine q_Ru_seg (g2 := (9, [(0, .ref 64), (1, .int a1), (2, .int a2)], [.int 32, .int a2], (q_kX s c n))) 2 (fun _ _ => rfl) ?_
          refine q_Ru_callX (E := "java/lang/IndexOutOfBoundsException") (h2 := (q_kX s (c + 1) (n + 6))) rfl rfl ?_
          refine q_Ca_of (Nat.le_of_ble_eq_true rfl) ?_
          refine q_Ru_seg (g2 := (1, [(0, .int a2), (1, .int 32)], [.int a2], (q_kX s c n))) 1 (fun _ _ => rfl) ?_
          refine q_Ru_rsT (g2 := (9, [(0, .int a2), (1, .int 32)], [], (q_kX s c n))) rfl rfl h7 ?_
          exact q_Ru_thr rfl rfl
        show q_RP _ _ _ (15, [(0, .ref 64), (1, .int a1), (2, .int a2), (3, .ref 236)], [], (q_kX s (c + 1) (n + 6))) _ _
        refine q_RP_seg (g2 := (16, [(0, .ref 64), (1, .int a1), (2, .int a2), (3, .ref 236)], [.int 1], (q_kX s (c + 1) (n + 6)))) 1 (fun _ _ => rfl) ?_
        exact q_RP_ret rfl rfl rfl
      | false =>
        refine q_RP_cF ?_
        cases h8 : decide (a2 < 32) with
        | true =>
          refine q_RP_cT ?_
          refine q_RP_bd fun r1 er1 => ?_
          refine q_RP_call (v := (some (.int r1.2))) (h2 := (q_kX (q_pt 32 3 1 73 s r1.1) c n)) rfl rfl ?_ ?_
          · refine q_Ca_of (Nat.le_of_ble_eq_true rfl) ?_
            refine q_Ru_seg (g2 := (3, [(0, .ref 64), (1, .int a1), (2, .int a2)], [.int 32, .int a1], (q_kX s c n))) 2 (fun _ _ => rfl) ?_
            refine q_Ru_call (v := none) (h2 := (q_kX s c n)) rfl rfl ?_ ?_
            · refine q_Ca_of (Nat.le_of_ble_eq_true rfl) ?_
              refine q_Ru_seg (g2 := (1, [(0, .int a1), (1, .int 32)], [.int a1], (q_kX s c n))) 1 (fun _ _ => rfl) ?_
              refine q_Ru_rsF (g2 := (4, [(0, .int a1), (1, .int 32)], [], (q_kX s c n))) rfl rfl h5 ?_
              refine q_Ru_seg (g2 := (6, [(0, .int a1), (1, .int 32)], [.int 32, .int a1], (q_kX s c n))) 2 (fun _ _ => rfl) ?_
              refine q_Ru_rsT (g2 := (19, [(0, .int a1), (1, .int 32)], [], (q_kX s c n))) rfl rfl h6 ?_
              exact q_Ru_ret rfl rfl
            show q_Ru _ _ _ (6, [(0, .ref 64), (1, .int a1), (2, .int a2)], [], (q_kX s c n)) _
            refine q_Ru_seg (g2 := (9, [(0, .ref 64), (1, .int a1), (2, .int a2)], [.int 32, .int a2], (q_kX s c n))) 2 (fun _ _ => rfl) ?_
            refine q_Ru_call (v := none) (h2 := (q_kX s c n)) rfl rfl ?_ ?_
            · refine q_Ca_of (Nat.le_of_ble_eq_true rfl) ?_
              refine q_Ru_seg (g2 := (1, [(0, .int a2), (1, .int 32)], [.int a2], (q_kX s c n))) 1 (fun _ _ => rfl) ?_
              refine q_Ru_rsF (g2 := (4, [(0, .int a2), (1, .int 32)], [], (q_kX s c n))) rfl rfl h7 ?_
              refine q_Ru_seg (g2 := (6, [(0, .int a2), (1, .int 32)], [.int 32, .int a2], (q_kX s c n))) 2 (fun _ _ => rfl) ?_
              refine q_Ru_rsT (g2 := (19, [(0, .int a2), (1, .int 32)], [], (q_kX s c n))) rfl rfl h8 ?_
              exact q_Ru_ret rfl rfl
            show q_Ru _ _ _ (12, [(0, .ref 64), (1, .int a1), (2, .int a2)], [], (q_kX s c n)) _
            refine q_Ru_seg (g2 := (25, [(0, .ref 64), (1, .int a1), (2, .int a2)], [.ref 137, .int a2, .int a1, .ref 66], (q_kX s c n))) 7 (fun _ _ => rfl) ?_
            refine q_Ru_call (v := (some (.int r1.2))) (h2 := (q_kX (q_pt 32 3 1 73 s r1.1) c n)) rfl rfl ?_ ?_
            · exact (q_emNX_1 rfl (fun _ => rfl) ((dzt_N108_65_96 (q_vw 32 1 73 s) c n a1 a2 r1 er1).tb q_TB0_le)).le (Nat.le_of_ble_eq_true rfl)
            show q_Ru _ _ _ (28, [(0, .ref 64), (1, .int a1), (2, .int a2)], [.int r1.2], (q_kX (q_pt 32 3 1 73 s r1.1) c n)) _
            exact q_Ru_ret rfl rfl
          show q_RP _ _ _ (8, [(0, .ref 64), (1, .int a1), (2, .int a2), (3, .ref 236)], [.int r1.2, .int 0, .ref 236], (q_kX (q_pt 32 3 1 73 s r1.1) c n)) _ _
          refine q_RP_seg (g2 := (9, [(0, .ref 64), (1, .int a1), (2, .int a2), (3, .ref 236)], [.long r1.2.toInt64, .int 0, .ref 236], (q_kX (q_pt 32 3 1 73 s r1.1) c n))) 1 (fun _ _ => rfl) ?_
          refine q_RP_rsT (g2 := (10, [(0, .ref 64), (1, .int a1), (2, .int a2), (3, .ref 236)], [], (q_kX (q_sL (q_pt 32 3 1 73 s r1.1) 172 (vp_updL ((q_pt 32 3 1 73 s r1.1).2.2 172) 0 r1.2.toInt64)) c n))) rfl q_wX172 rfl ?_
          refine q_RP_seg (g2 := (18, [(0, .ref 64), (1, .int a1), (2, .int a2), (3, .ref 236)], [.int 0], (q_kX (q_sL (q_pt 32 3 1 73 s r1.1) 172 (vp_updL ((q_pt 32 3 1 73 s r1.1).2.2 172) 0 r1.2.toInt64)) c n))) 2 (fun _ _ => rfl) ?_
          exact q_RP_ret rfl rfl rfl
        | false =>
          refine q_RP_cF ?_
          refine q_RP_callH (E := "java/lang/IndexOutOfBoundsException") (tg := 15) (i := 4) (h2 := (q_kX s (c + 1) (n + 6))) rfl rfl ?_ rfl ?_
          · refine q_Ca_of (Nat.le_of_ble_eq_true rfl) ?_
            refine q_Ru_seg (g2 := (3, [(0, .ref 64), (1, .int a1), (2, .int a2)], [.int 32, .int a1], (q_kX s c n))) 2 (fun _ _ => rfl) ?_
            refine q_Ru_call (v := none) (h2 := (q_kX s c n)) rfl rfl ?_ ?_
            · refine q_Ca_of (Nat.le_of_ble_eq_true rfl) ?_
              refine q_Ru_seg (g2 := (1, [(0, .int a1), (1, .int 32)], [.int a1], (q_kX s c n))) 1 (fun _ _ => rfl) ?_
              refine q_Ru_rsF (g2 := (4, [(0, .int a1), (1, .int 32)], [], (q_kX s c n))) rfl rfl h5 ?_
              refine q_Ru_seg (g2 := (6, [(0, .int a1), (1, .int 32)], [.int 32, .int a1], (q_kX s c n))) 2 (fun _ _ => rfl) ?_
              refine q_Ru_rsT (g2 := (19, [(0, .int a1), (1, .int 32)], [], (q_kX s c n))) rfl rfl h6 ?_
              exact q_Ru_ret rfl rfl
            show q_Ru _ _ _ (6, [(0, .ref 64), (1, .int a1), (2, .int a2)], [], (q_kX s c n)) _
            refine q_Ru_seg (g2 := (9, [(0, .ref 64), (1, .int a1), (2, .int a2)], [.int 32, .int a2], (q_kX s c n))) 2 (fun _ _ => rfl) ?_
            refine q_Ru_callX (E := "java/lang/IndexOutOfBoundsException") (h2 := (q_kX s (c + 1) (n + 6))) rfl rfl ?_
            refine q_Ca_of (Nat.le_of_ble_eq_true rfl) ?_
            refine q_Ru_seg (g2 := (1, [(0, .int a2), (1, .int 32)], [.int a2], (q_kX s c n))) 1 (fun _ _ => rfl) ?_
            refine q_Ru_rsF (g2 := (4, [(0, .int a2), (1, .int 32)], [], (q_kX s c n))) rfl rfl h7 ?_
            refine q_Ru_seg (g2 := (6, [(0, .int a2), (1, .int 32)], [.int 32, .int a2], (q_kX s c n))) 2 (fun _ _ => rfl) ?_
            refine q_Ru_rsF (g2 := (9, [(0, .int a2), (1, .int 32)], [], (q_kX s c n))) rfl rfl h8 ?_
            exact q_Ru_thr rfl rfl
          show q_RP _ _ _ (15, [(0, .ref 64), (1, .int a1), (2, .int a2), (3, .ref 236)], [], (q_kX s (c + 1) (n + 6))) _ _
          refine q_RP_seg (g2 := (16, [(0, .ref 64), (1, .int a1), (2, .int a2), (3, .ref 236)], [.int 1], (q_kX s (c + 1) (n + 6)))) 1 (fun _ _ => rfl) ?_
          exact q_RP_ret rfl rfl rfl
    | false =>
      refine q_RP_cF ?_
      refine q_RP_callH (E := "java/lang/IndexOutOfBoundsException") (tg := 15) (i := 4) (h2 := (q_kX s (c + 1) (n + 6))) rfl rfl ?_ rfl ?_
      · refine q_Ca_of (Nat.le_of_ble_eq_true rfl) ?_
        refine q_Ru_seg (g2 := (3, [(0, .ref 64), (1, .int a1), (2, .int a2)], [.int 32, .int a1], (q_kX s c n))) 2 (fun _ _ => rfl) ?_
        refine q_Ru_callX (E := "java/lang/IndexOutOfBoundsException") (h2 := (q_kX s (c + 1) (n + 6))) rfl rfl ?_
        refine q_Ca_of (Nat.le_of_ble_eq_true rfl) ?_
        refine q_Ru_seg (g2 := (1, [(0, .int a1), (1, .int 32)], [.int a1], (q_kX s c n))) 1 (fun _ _ => rfl) ?_
        refine q_Ru_rsF (g2 := (4, [(0, .int a1), (1, .int 32)], [], (q_kX s c n))) rfl rfl h5 ?_
        refine q_Ru_seg (g2 := (6, [(0, .int a1), (1, .int 32)], [.int 32, .int a1], (q_kX s c n))) 2 (fun _ _ => rfl) ?_
        refine q_Ru_rsF (g2 := (9, [(0, .int a1), (1, .int 32)], [], (q_kX s c n))) rfl rfl h6 ?_
        exact q_Ru_thr rfl rfl
      show q_RP _ _ _ (15, [(0, .ref 64), (1, .int a1), (2, .int a2), (3, .ref 236)], [], (q_kX s (c + 1) (n + 6))) _ _
      refine q_RP_seg (g2 := (16, [(0, .ref 64), (1, .int a1), (2, .int a2), (3, .ref 236)], [.int 1], (q_kX s (c + 1) (n + 6)))) 1 (fun _ _ => rfl) ?_
      exact q_RP_ret rfl rfl rfl
def dz_X16_64_236 (s : q_S) (a1 : Int32) : q_S × Int32 × Nat :=
  cond (decide (a1 < 0)) ((s, 1, 1)) (cond (decide (a1 < 40)) (((q_sL s 172 (vp_updL (s.2.2 172) 0 (((s.1 31) (a1.toNatClampNeg)).toInt64))), 0, 0)) ((s, 1, 1)))
set_option maxHeartbeats 4000000 in
theorem dzt_X16_64_236 (z L : Nat) (xs : Nat → Int32) (s : q_S) (c n : Nat) (a1 : Int32) : q_Ca (q_TBs z L xs) 3 16 [.ref 64, .int a1, .ref 236] (q_kX s c n) ((q_oEX c n) (dz_X16_64_236 s a1)) := by
  refine q_CaT_of (φ := (q_oEX c n)) (Nat.le_of_ble_eq_true rfl) ?_
  unfold dz_X16_64_236
  refine q_RT_seg (g2 := (4, [(0, .ref 64), (1, .int a1), (2, .ref 236)], [.int a1, .ref 64, .int 0, .ref 236], (q_kX s c n))) 4 (fun _ _ => rfl) ?_
  cases h1 : decide (a1 < 0) with
  | true =>
    refine q_RT_cT ?_
    refine q_RT_callH (E := "java/lang/IndexOutOfBoundsException") (tg := 13) (i := 3) (h2 := (q_kX s (c + 1) (n + 6))) rfl rfl ?_ rfl ?_
    · refine q_Ca_of (Nat.le_of_ble_eq_true rfl) ?_
      refine q_Ru_seg (g2 := (3, [(0, .ref 64), (1, .int a1)], [.int 40, .int a1], (q_kX s c n))) 2 (fun _ _ => rfl) ?_
      refine q_Ru_callX (E := "java/lang/IndexOutOfBoundsException") (h2 := (q_kX s (c + 1) (n + 6))) rfl rfl ?_
      refine q_Ca_of (Nat.le_of_ble_eq_true rfl) ?_
      refine q_Ru_seg (g2 := (1, [(0, .int a1), (1, .int 40)], [.int a1], (q_kX s c n))) 1 (fun _ _ => rfl) ?_
      refine q_Ru_rsT (g2 := (9, [(0, .int a1), (1, .int 40)], [], (q_kX s c n))) rfl rfl h1 ?_
      exact q_Ru_thr rfl rfl
    show q_RT _ _ _ (13, [(0, .ref 64), (1, .int a1), (2, .ref 236)], [], (q_kX s (c + 1) (n + 6))) _ _
    refine q_RT_seg (g2 := (14, [(0, .ref 64), (1, .int a1), (2, .ref 236)], [.int 1], (q_kX s (c + 1) (n + 6)))) 1 (fun _ _ => rfl) ?_
    exact q_RT_ret rfl rfl rfl
  | false =>
    refine q_RT_cF ?_
    cases h2 : decide (a1 < 40) with
    | true =>
      refine q_RT_cT ?_
      refine q_RT_call (v := (some (.int ((s.1 31) (a1.toNatClampNeg))))) (h2 := (q_kX s c n)) rfl rfl ?_ ?_
      · refine q_Ca_of (Nat.le_of_ble_eq_true rfl) ?_
        refine q_Ru_seg (g2 := (3, [(0, .ref 64), (1, .int a1)], [.int 40, .int a1], (q_kX s c n))) 2 (fun _ _ => rfl) ?_
        refine q_Ru_call (v := none) (h2 := (q_kX s c n)) rfl rfl ?_ ?_
        · refine q_Ca_of (Nat.le_of_ble_eq_true rfl) ?_
          refine q_Ru_seg (g2 := (1, [(0, .int a1), (1, .int 40)], [.int a1], (q_kX s c n))) 1 (fun _ _ => rfl) ?_
          refine q_Ru_rsF (g2 := (4, [(0, .int a1), (1, .int 40)], [], (q_kX s c n))) rfl rfl h1 ?_
          refine q_Ru_seg (g2 := (6, [(0, .int a1), (1, .int 40)], [.int 40, .int a1], (q_kX s c n))) 2 (fun _ _ => rfl) ?_
          refine q_Ru_rsT (g2 := (19, [(0, .int a1), (1, .int 40)], [], (q_kX s c n))) rfl rfl h2 ?_
          exact q_Ru_ret rfl rfl
        show q_Ru _ _ _ (6, [(0, .ref 64), (1, .int a1)], [], (q_kX s c n)) _
        refine q_Ru_seg (g2 := (17, [(0, .ref 64), (1, .int a1)], [.int a1, .ref 95], (q_kX s c n))) 5 (fun _ _ => rfl) ?_
        refine q_Ru_rsT (g2 := (18, [(0, .ref 64), (1, .int a1)], [.int ((s.1 31) (a1.toNatClampNeg))], (q_kX s c n))) rfl rfl (q_in_bd (x := a1) (n := 40) (U := 39) (L := 0) (q_lo1 h1) (q_hi1 h2)) ?_
        exact q_Ru_ret rfl rfl
      show q_RT _ _ _ (7, [(0, .ref 64), (1, .int a1), (2, .ref 236)], [.int ((s.1 31) (a1.toNatClampNeg)), .int 0, .ref 236], (q_kX s c n)) _ _
      refine q_RT_seg (g2 := (8, [(0, .ref 64), (1, .int a1), (2, .ref 236)], [.long (((s.1 31) (a1.toNatClampNeg)).toInt64), .int 0, .ref 236], (q_kX s c n))) 1 (fun _ _ => rfl) ?_
      refine q_RT_rsT (g2 := (9, [(0, .ref 64), (1, .int a1), (2, .ref 236)], [], (q_kX (q_sL s 172 (vp_updL (s.2.2 172) 0 (((s.1 31) (a1.toNatClampNeg)).toInt64))) c n))) rfl q_wX172 rfl ?_
      refine q_RT_seg (g2 := (16, [(0, .ref 64), (1, .int a1), (2, .ref 236)], [.int 0], (q_kX (q_sL s 172 (vp_updL (s.2.2 172) 0 (((s.1 31) (a1.toNatClampNeg)).toInt64))) c n))) 2 (fun _ _ => rfl) ?_
      exact q_RT_ret rfl rfl rfl
    | false =>
      refine q_RT_cF ?_
      refine q_RT_callH (E := "java/lang/IndexOutOfBoundsException") (tg := 13) (i := 3) (h2 := (q_kX s (c + 1) (n + 6))) rfl rfl ?_ rfl ?_
      · refine q_Ca_of (Nat.le_of_ble_eq_true rfl) ?_
        refine q_Ru_seg (g2 := (3, [(0, .ref 64), (1, .int a1)], [.int 40, .int a1], (q_kX s c n))) 2 (fun _ _ => rfl) ?_
        refine q_Ru_callX (E := "java/lang/IndexOutOfBoundsException") (h2 := (q_kX s (c + 1) (n + 6))) rfl rfl ?_
        refine q_Ca_of (Nat.le_of_ble_eq_true rfl) ?_
        refine q_Ru_seg (g2 := (1, [(0, .int a1), (1, .int 40)], [.int a1], (q_kX s c n))) 1 (fun _ _ => rfl) ?_
        refine q_Ru_rsF (g2 := (4, [(0, .int a1), (1, .int 40)], [], (q_kX s c n))) rfl rfl h1 ?_
        refine q_Ru_seg (g2 := (6, [(0, .int a1), (1, .int 40)], [.int 40, .int a1], (q_kX s c n))) 2 (fun _ _ => rfl) ?_
        refine q_Ru_rsF (g2 := (9, [(0, .int a1), (1, .int 40)], [], (q_kX s c n))) rfl rfl h2 ?_
        exact q_Ru_thr rfl rfl
      show q_RT _ _ _ (13, [(0, .ref 64), (1, .int a1), (2, .ref 236)], [], (q_kX s (c + 1) (n + 6))) _ _
      refine q_RT_seg (g2 := (14, [(0, .ref 64), (1, .int a1), (2, .ref 236)], [.int 1], (q_kX s (c + 1) (n + 6)))) 1 (fun _ _ => rfl) ?_
      exact q_RT_ret rfl rfl rfl
def dz_X17_64_236 (s : q_S) (a1 : Int32) : q_S × Int32 × Nat :=
  cond (decide (a1 < 0)) ((s, 1, 1)) (cond (decide (a1 < 3)) (((q_sL s 172 (vp_updL (s.2.2 172) 0 (((s.1 28) (a1.toNatClampNeg)).toInt64))), 0, 0)) ((s, 1, 1)))
set_option maxHeartbeats 4000000 in
theorem dzt_X17_64_236 (z L : Nat) (xs : Nat → Int32) (s : q_S) (c n : Nat) (a1 : Int32) : q_Ca (q_TBs z L xs) 3 17 [.ref 64, .int a1, .ref 236] (q_kX s c n) ((q_oEX c n) (dz_X17_64_236 s a1)) := by
  refine q_CaT_of (φ := (q_oEX c n)) (Nat.le_of_ble_eq_true rfl) ?_
  unfold dz_X17_64_236
  refine q_RT_seg (g2 := (4, [(0, .ref 64), (1, .int a1), (2, .ref 236)], [.int a1, .ref 64, .int 0, .ref 236], (q_kX s c n))) 4 (fun _ _ => rfl) ?_
  cases h1 : decide (a1 < 0) with
  | true =>
    refine q_RT_cT ?_
    refine q_RT_callH (E := "java/lang/IndexOutOfBoundsException") (tg := 13) (i := 3) (h2 := (q_kX s (c + 1) (n + 6))) rfl rfl ?_ rfl ?_
    · refine q_Ca_of (Nat.le_of_ble_eq_true rfl) ?_
      refine q_Ru_seg (g2 := (2, [(0, .ref 64), (1, .int a1)], [.int 3, .int a1], (q_kX s c n))) 2 (fun _ _ => rfl) ?_
      refine q_Ru_callX (E := "java/lang/IndexOutOfBoundsException") (h2 := (q_kX s (c + 1) (n + 6))) rfl rfl ?_
      refine q_Ca_of (Nat.le_of_ble_eq_true rfl) ?_
      refine q_Ru_seg (g2 := (1, [(0, .int a1), (1, .int 3)], [.int a1], (q_kX s c n))) 1 (fun _ _ => rfl) ?_
      refine q_Ru_rsT (g2 := (9, [(0, .int a1), (1, .int 3)], [], (q_kX s c n))) rfl rfl h1 ?_
      exact q_Ru_thr rfl rfl
    show q_RT _ _ _ (13, [(0, .ref 64), (1, .int a1), (2, .ref 236)], [], (q_kX s (c + 1) (n + 6))) _ _
    refine q_RT_seg (g2 := (14, [(0, .ref 64), (1, .int a1), (2, .ref 236)], [.int 1], (q_kX s (c + 1) (n + 6)))) 1 (fun _ _ => rfl) ?_
    exact q_RT_ret rfl rfl rfl
  | false =>
    refine q_RT_cF ?_
    cases h2 : decide (a1 < 3) with
    | true =>
      refine q_RT_cT ?_
      refine q_RT_call (v := (some (.int ((s.1 28) (a1.toNatClampNeg))))) (h2 := (q_kX s c n)) rfl rfl ?_ ?_
      · refine q_Ca_of (Nat.le_of_ble_eq_true rfl) ?_
        refine q_Ru_seg (g2 := (2, [(0, .ref 64), (1, .int a1)], [.int 3, .int a1], (q_kX s c n))) 2 (fun _ _ => rfl) ?_
        refine q_Ru_call (v := none) (h2 := (q_kX s c n)) rfl rfl ?_ ?_
        · refine q_Ca_of (Nat.le_of_ble_eq_true rfl) ?_
          refine q_Ru_seg (g2 := (1, [(0, .int a1), (1, .int 3)], [.int a1], (q_kX s c n))) 1 (fun _ _ => rfl) ?_
          refine q_Ru_rsF (g2 := (4, [(0, .int a1), (1, .int 3)], [], (q_kX s c n))) rfl rfl h1 ?_
          refine q_Ru_seg (g2 := (6, [(0, .int a1), (1, .int 3)], [.int 3, .int a1], (q_kX s c n))) 2 (fun _ _ => rfl) ?_
          refine q_Ru_rsT (g2 := (19, [(0, .int a1), (1, .int 3)], [], (q_kX s c n))) rfl rfl h2 ?_
          exact q_Ru_ret rfl rfl
        show q_Ru _ _ _ (5, [(0, .ref 64), (1, .int a1)], [], (q_kX s c n)) _
        refine q_Ru_seg (g2 := (16, [(0, .ref 64), (1, .int a1)], [.int a1, .ref 92], (q_kX s c n))) 5 (fun _ _ => rfl) ?_
        refine q_Ru_rsT (g2 := (17, [(0, .ref 64), (1, .int a1)], [.int ((s.1 28) (a1.toNatClampNeg))], (q_kX s c n))) rfl rfl (q_in_bd (x := a1) (n := 3) (U := 2) (L := 0) (q_lo1 h1) (q_hi1 h2)) ?_
        exact q_Ru_ret rfl rfl
      show q_RT _ _ _ (7, [(0, .ref 64), (1, .int a1), (2, .ref 236)], [.int ((s.1 28) (a1.toNatClampNeg)), .int 0, .ref 236], (q_kX s c n)) _ _
      refine q_RT_seg (g2 := (8, [(0, .ref 64), (1, .int a1), (2, .ref 236)], [.long (((s.1 28) (a1.toNatClampNeg)).toInt64), .int 0, .ref 236], (q_kX s c n))) 1 (fun _ _ => rfl) ?_
      refine q_RT_rsT (g2 := (9, [(0, .ref 64), (1, .int a1), (2, .ref 236)], [], (q_kX (q_sL s 172 (vp_updL (s.2.2 172) 0 (((s.1 28) (a1.toNatClampNeg)).toInt64))) c n))) rfl q_wX172 rfl ?_
      refine q_RT_seg (g2 := (16, [(0, .ref 64), (1, .int a1), (2, .ref 236)], [.int 0], (q_kX (q_sL s 172 (vp_updL (s.2.2 172) 0 (((s.1 28) (a1.toNatClampNeg)).toInt64))) c n))) 2 (fun _ _ => rfl) ?_
      exact q_RT_ret rfl rfl rfl
    | false =>
      refine q_RT_cF ?_
      refine q_RT_callH (E := "java/lang/IndexOutOfBoundsException") (tg := 13) (i := 3) (h2 := (q_kX s (c + 1) (n + 6))) rfl rfl ?_ rfl ?_
      · refine q_Ca_of (Nat.le_of_ble_eq_true rfl) ?_
        refine q_Ru_seg (g2 := (2, [(0, .ref 64), (1, .int a1)], [.int 3, .int a1], (q_kX s c n))) 2 (fun _ _ => rfl) ?_
        refine q_Ru_callX (E := "java/lang/IndexOutOfBoundsException") (h2 := (q_kX s (c + 1) (n + 6))) rfl rfl ?_
        refine q_Ca_of (Nat.le_of_ble_eq_true rfl) ?_
        refine q_Ru_seg (g2 := (1, [(0, .int a1), (1, .int 3)], [.int a1], (q_kX s c n))) 1 (fun _ _ => rfl) ?_
        refine q_Ru_rsF (g2 := (4, [(0, .int a1), (1, .int 3)], [], (q_kX s c n))) rfl rfl h1 ?_
        refine q_Ru_seg (g2 := (6, [(0, .int a1), (1, .int 3)], [.int 3, .int a1], (q_kX s c n))) 2 (fun _ _ => rfl) ?_
        refine q_Ru_rsF (g2 := (9, [(0, .int a1), (1, .int 3)], [], (q_kX s c n))) rfl rfl h2 ?_
        exact q_Ru_thr rfl rfl
      show q_RT _ _ _ (13, [(0, .ref 64), (1, .int a1), (2, .ref 236)], [], (q_kX s (c + 1) (n + 6))) _ _
      refine q_RT_seg (g2 := (14, [(0, .ref 64), (1, .int a1), (2, .ref 236)], [.int 1], (q_kX s (c + 1) (n + 6)))) 1 (fun _ _ => rfl) ?_
      exact q_RT_ret rfl rfl rfl
def dz_X18_64_f_236 (s : q_S) (a1 : Int32) (a2 : Int32) : Option (q_S × Int32 × Nat) :=
  cond (decide (a1 < 0)) (some (s, 1, 1)) (cond (decide (a1 < 4)) (cond (decide (a2 < 0)) (some (s, 1, 1)) (cond (decide (a2 < 4)) (q_let (dz_X184_98 s 9 a1 a2 0) fun r2 => (dz_N79_64 (q_vw 32 1 73 r2) 9 a1 a2 0).bind fun r3 => cond (decide (r3.2 = 1)) (some ((q_sL (q_pt 32 3 1 73 r2 r3.1) 172 (vp_updL ((q_pt 32 3 1 73 r2 r3.1).2.2 172) 0 1)), 0, 0)) (some ((q_sL (q_pt 32 3 1 73 r2 r3.1) 172 (vp_updL ((q_pt 32 3 1 73 r2 r3.1).2.2 172) 0 0)), 0, 0))) (some (s, 1, 1)))) (some (s, 1, 1)))
set_option maxHeartbeats 4000000 in
theorem dzt_X18_64_f_236 (z L : Nat) (xs : Nat → Int32) (s : q_S) (c n : Nat) (a1 : Int32) (a2 : Int32) (x : q_S × Int32 × Nat) (h : dz_X18_64_f_236 s a1 a2 = some x) : q_Ca (q_TBs z L xs) 10 18 [.ref 64, .int a1, .int a2, .int 0, .ref 236] (q_kX s c n) ((q_oEX c n) x) := by
  refine q_CaP_of (φ := (q_oEX c n)) (Nat.le_of_ble_eq_true rfl) ?_ h
  clear h
  unfold dz_X18_64_f_236
  refine q_RP_seg (g2 := (7, [(0, .ref 64), (1, .int a1), (2, .int a2), (3, .int 0), (4, .ref 236)], [.int 0, .int a2, .int a1, .ref 64, .int 0, .ref 236], (q_kX s c n))) 6 (fun _ _ => rfl) ?_
  cases h5 : decide (a1 < 0) with
  | true =>
    refine q_RP_cT ?_
    refine q_RP_callH (E := "java/lang/IndexOutOfBoundsException") (tg := 24) (i := 5) (h2 := (q_kX s (c + 1) (n + 6))) rfl rfl ?_ rfl ?_
    · refine q_Ca_of (Nat.le_of_ble_eq_true rfl) ?_
      refine q_Ru_seg (g2 := (2, [(0, .ref 64), (1, .int a1), (2, .int a2), (3, .int 0)], [.int 4, .int a1], (q_kX s c n))) 2 (fun _ _ => rfl) ?_
      refine q_Ru_callX (E := "java/lang/IndexOutOfBoundsException") (h2 := (q_kX s (c + 1) (n + 6))) rfl rfl ?_
      refine q_Ca_of (Nat.le_of_ble_eq_true rfl) ?_
      refine q_Ru_seg (g2 := (1, [(0, .int a1), (1, .int 4)], [.int a1], (q_kX s c n))) 1 (fun _ _ => rfl) ?_
      refine q_Ru_rsT (g2 := (9, [(0, .int a1), (1, .int 4)], [], (q_kX s c n))) rfl rfl h5 ?_
      exact q_Ru_thr rfl rfl
    show q_RP _ _ _ (24, [(0, .ref 64), (1, .int a1), (2, .int a2), (3, .int 0), (4, .ref 236)], [], (q_kX s (c + 1) (n + 6))) _ _
    refine q_RP_seg (g2 := (25, [(0, .ref 64), (1, .int a1), (2, .int a2), (3, .int 0), (4, .ref 236)], [.int 1], (q_kX s (c + 1) (n + 6)))) 1 (fun _ _ => rfl) ?_
    exact q_RP_ret rfl rfl rfl
  | false =>
    refine q_RP_cF ?_
    cases h6 : decide (a1 < 4) with
    | true =>
      refine q_RP_cT ?_
      cases h7 : decide (a2 < 0) with
      | true =>
        refine q_RP_cT ?_
        refine q_RP_callH (E := "java/lang/IndexOutOfBoundsException") (tg := 24) (i := 5) (h2 := (q_kX s (c + 1) (n + 6))) rfl rfl ?_ rfl ?_
        · refine q_Ca_of (Nat.le_of_ble_eq_true rfl) ?_
          refine q_Ru_seg (g2 := (2, [(0, .ref 64), (1, .int a1), (2, .int a2), (3, .int 0)], [.int 4, .int a1], (q_kX s c n))) 2 (fun _ _ => rfl) ?_
          refine q_Ru_call (v := none) (h2 := (q_kX s c n)) rfl rfl ?_ ?_
          · refine q_Ca_of (Nat.le_of_ble_eq_true rfl) ?_
            refine q_Ru_seg (g2 := (1, [(0, .int a1), (1, .int 4)], [.int a1], (q_kX s c n))) 1 (fun _ _ => rfl) ?_
            refine q_Ru_rsF (g2 := (4, [(0, .int a1), (1, .int 4)], [], (q_kX s c n))) rfl rfl h5 ?_
            refine q_Ru_seg (g2 := (6, [(0, .int a1), (1, .int 4)], [.int 4, .int a1], (q_kX s c n))) 2 (fun _ _ => rfl) ?_
            refine q_Ru_rsT (g2 := (19, [(0, .int a1), (1, .int 4)], [], (q_kX s c n))) rfl rfl h6 ?_
            exact q_Ru_ret rfl rfl
          show q_Ru _ _ _ (5, [(0, .ref 64), (1, .int a1), (2, .int a2), (3, .int 0)], [], (q_kX s c n)) _
          refine q_Ru_seg (g2 := (7, [(0, .ref 64), (1, .int a1), (2, .int a2), (3, .int 0)], [.int 4, .int a2], (q_kX s c n))) 2 (fun _ _ => rfl) ?_
          refine q_Ru_callX (E := "java/lang/IndexOutOfBoundsException") (h2 := (q_kX s (c + 1) (n + 6))) rfl rfl ?_
          refine q_Ca_of (Nat.le_of_ble_eq_true rfl) ?_
          refine q_Ru_seg (g2 := (1, [(0, .int a2), (1, .int 4)], [.int a2], (q_kX s c n))) 1 (fun _ _ => rfl) ?_
          refine q_Ru_rsT (g2 := (9, [(0, .int a2), (1, .int 4)], [], (q_kX s c n))) rfl rfl h7 ?_
          exact q_Ru_thr rfl rfl
        show q_RP _ _ _ (24, [(0, .ref 64), (1, .int a1), (2, .int a2), (3, .int 0), (4, .ref 236)], [], (q_kX s (c + 1) (n + 6))) _ _
        refine q_RP_seg (g2 := (25, [(0, .ref 64), (1, .int a1), (2, .int a2), (3, .int 0), (4, .ref 236)], [.int 1], (q_kX s (c + 1) (n + 6)))) 1 (fun _ _ => rfl) ?_
        exact q_RP_ret rfl rfl rfl
      | false =>
        refine q_RP_cF ?_
        cases h8 : decide (a2 < 4) with
        | true =>
          refine q_RP_cT ?_
          generalize er2 : dz_X184_98 s 9 a1 a2 0 = r2
          refine q_RP_let ?_
          refine q_RP_bd fun r3 er3 => ?_
          cases h9 : decide (r3.2 = 1) with
          | true =>
            refine q_RP_cT ?_
            refine q_RP_call (v := (some (.int 1))) (h2 := (q_kX (q_pt 32 3 1 73 r2 r3.1) c n)) rfl rfl ?_ ?_
            · refine q_Ca_of (Nat.le_of_ble_eq_true rfl) ?_
              refine q_Ru_seg (g2 := (2, [(0, .ref 64), (1, .int a1), (2, .int a2), (3, .int 0)], [.int 4, .int a1], (q_kX s c n))) 2 (fun _ _ => rfl) ?_
              refine q_Ru_call (v := none) (h2 := (q_kX s c n)) rfl rfl ?_ ?_
              · refine q_Ca_of (Nat.le_of_ble_eq_true rfl) ?_
                refine q_Ru_seg (g2 := (1, [(0, .int a1), (1, .int 4)], [.int a1], (q_kX s c n))) 1 (fun _ _ => rfl) ?_
                refine q_Ru_rsF (g2 := (4, [(0, .int a1), (1, .int 4)], [], (q_kX s c n))) rfl rfl h5 ?_
                refine q_Ru_seg (g2 := (6, [(0, .int a1), (1, .int 4)], [.int 4, .int a1], (q_kX s c n))) 2 (fun _ _ => rfl) ?_
                refine q_Ru_rsT (g2 := (19, [(0, .int a1), (1, .int 4)], [], (q_kX s c n))) rfl rfl h6 ?_
                exact q_Ru_ret rfl rfl
              show q_Ru _ _ _ (5, [(0, .ref 64), (1, .int a1), (2, .int a2), (3, .int 0)], [], (q_kX s c n)) _
              refine q_Ru_seg (g2 := (7, [(0, .ref 64), (1, .int a1), (2, .int a2), (3, .int 0)], [.int 4, .int a2], (q_kX s c n))) 2 (fun _ _ => rfl) ?_
              refine q_Ru_call (v := none) (h2 := (q_kX s c n)) rfl rfl ?_ ?_
              · refine q_Ca_of (Nat.le_of_ble_eq_true rfl) ?_
                refine q_Ru_seg (g2 := (1, [(0, .int a2), (1, .int 4)], [.int a2], (q_kX s c n))) 1 (fun _ _ => rfl) ?_
                refine q_Ru_rsF (g2 := (4, [(0, .int a2), (1, .int 4)], [], (q_kX s c n))) rfl rfl h7 ?_
                refine q_Ru_seg (g2 := (6, [(0, .int a2), (1, .int 4)], [.int 4, .int a2], (q_kX s c n))) 2 (fun _ _ => rfl) ?_
                refine q_Ru_rsT (g2 := (19, [(0, .int a2), (1, .int 4)], [], (q_kX s c n))) rfl rfl h8 ?_
                exact q_Ru_ret rfl rfl
              show q_Ru _ _ _ (10, [(0, .ref 64), (1, .int a1), (2, .int a2), (3, .int 0)], [], (q_kX s c n)) _
              refine q_Ru_seg (g2 := (31, [(4, .int 0), (0, .ref 64), (1, .int a1), (2, .int a2), (3, .int 0)], [.int 0, .int a2, .int a1, .int 9, .ref 98], (q_kX s c n))) 10 (fun _ _ => rfl) ?_
              refine q_Ru_call (v := none) (h2 := (q_kX r2 c n)) rfl rfl ?_ ?_
              · exact (q_cE (φ := (q_oSX c n)) er2 (dzt_X184_98 z L xs s c n 9 a1 a2 0)).le (Nat.le_of_ble_eq_true rfl)
              show q_Ru _ _ _ (34, [(4, .int 0), (0, .ref 64), (1, .int a1), (2, .int a2), (3, .int 0)], [], (q_kX r2 c n)) _
              refine q_Ru_seg (g2 := (44, [(4, .int 0), (0, .ref 64), (1, .int a1), (2, .int a2), (3, .int 0)], [.int 0, .int a2, .int a1, .int 9, .ref 65], (q_kX r2 c n))) 6 (fun _ _ => rfl) ?_
              refine q_Ru_call (v := (some (.int r3.2))) (h2 := (q_kX (q_pt 32 3 1 73 r2 r3.1) c n)) rfl rfl ?_ ?_
              · exact (q_emNX_1 rfl (fun _ => rfl) ((dzt_N79_64 (q_vw 32 1 73 r2) c n 9 a1 a2 0 r3 er3).tb q_TB0_le)).le (Nat.le_of_ble_eq_true rfl)
              show q_Ru _ _ _ (47, [(4, .int 0), (0, .ref 64), (1, .int a1), (2, .int a2), (3, .int 0)], [.int r3.2], (q_kX (q_pt 32 3 1 73 r2 r3.1) c n)) _
              refine q_Ru_seg (g2 := (48, [(4, .int 0), (0, .ref 64), (1, .int a1), (2, .int a2), (3, .int 0)], [.int 1, .int r3.2], (q_kX (q_pt 32 3 1 73 r2 r3.1) c n))) 1 (fun _ _ => rfl) ?_
              refine q_Ru_rsF (g2 := (51, [(4, .int 0), (0, .ref 64), (1, .int a1), (2, .int a2), (3, .int 0)], [], (q_kX (q_pt 32 3 1 73 r2 r3.1) c n))) rfl rfl (q_d_neT h9) ?_
              refine q_Ru_seg (g2 := (56, [(4, .int 0), (0, .ref 64), (1, .int a1), (2, .int a2), (3, .int 0)], [.int 1], (q_kX (q_pt 32 3 1 73 r2 r3.1) c n))) 2 (fun _ _ => rfl) ?_
              exact q_Ru_ret rfl rfl
            show q_RP _ _ _ (10, [(0, .ref 64), (1, .int a1), (2, .int a2), (3, .int 0), (4, .ref 236)], [.int 1, .int 0, .ref 236], (q_kX (q_pt 32 3 1 73 r2 r3.1) c n)) _ _
            refine q_RP_seg (g2 := (18, [(0, .ref 64), (1, .int a1), (2, .int a2), (3, .int 0), (4, .ref 236)], [.long 1, .int 0, .ref 236], (q_kX (q_pt 32 3 1 73 r2 r3.1) c n))) 3 (fun _ _ => rfl) ?_
            refine q_RP_rsT (g2 := (19, [(0, .ref 64), (1, .int a1), (2, .int a2), (3, .int 0), (4, .ref 236)], [], (q_kX (q_sL (q_pt 32 3 1 73 r2 r3.1) 172 (vp_updL ((q_pt 32 3 1 73 r2 r3.1).2.2 172) 0 1)) c n))) rfl q_wX172 rfl ?_
            refine q_RP_seg (g2 := (27, [(0, .ref 64), (1, .int a1), (2, .int a2), (3, .int 0), (4, .ref 236)], [.int 0], (q_kX (q_sL (q_pt 32 3 1 73 r2 r3.1) 172 (vp_updL ((q_pt 32 3 1 73 r2 r3.1).2.2 172) 0 1)) c n))) 2 (fun _ _ => rfl) ?_
            exact q_RP_ret rfl rfl rfl
          | false =>
            refine q_RP_cF ?_
            refine q_RP_call (v := (some (.int 0))) (h2 := (q_kX (q_pt 32 3 1 73 r2 r3.1) c n)) rfl rfl ?_ ?_
            · refine q_Ca_of (Nat.le_of_ble_eq_true rfl) ?_
              refine q_Ru_seg (g2 := (2, [(0, .ref 64), (1, .int a1), (2, .int a2), (3, .int 0)], [.int 4, .int a1], (q_kX s c n))) 2 (fun _ _ => rfl) ?_
              refine q_Ru_call (v := none) (h2 := (q_kX s c n)) rfl rfl ?_ ?_
              · refine q_Ca_of (Nat.le_of_ble_eq_true rfl) ?_
                refine q_Ru_seg (g2 := (1, [(0, .int a1), (1, .int 4)], [.int a1], (q_kX s c n))) 1 (fun _ _ => rfl) ?_
                refine q_Ru_rsF (g2 := (4, [(0, .int a1), (1, .int 4)], [], (q_kX s c n))) rfl rfl h5 ?_
                refine q_Ru_seg (g2 := (6, [(0, .int a1), (1, .int 4)], [.int 4, .int a1], (q_kX s c n))) 2 (fun _ _ => rfl) ?_
                refine q_Ru_rsT (g2 := (19, [(0, .int a1), (1, .int 4)], [], (q_kX s c n))) rfl rfl h6 ?_
                exact q_Ru_ret rfl rfl
              show q_Ru _ _ _ (5, [(0, .ref 64), (1, .int a1), (2, .int a2), (3, .int 0)], [], (q_kX s c n)) _
              refine q_Ru_seg (g2 := (7, [(0, .ref 64), (1, .int a1), (2, .int a2), (3, .int 0)], [.int 4, .int a2], (q_kX s c n))) 2 (fun _ _ => rfl) ?_
              refine q_Ru_call (v := none) (h2 := (q_kX s c n)) rfl rfl ?_ ?_
              · refine q_Ca_of (Nat.le_of_ble_eq_true rfl) ?_
                refine q_Ru_seg (g2 := (1, [(0, .int a2), (1, .int 4)], [.int a2], (q_kX s c n))) 1 (fun _ _ => rfl) ?_
                refine q_Ru_rsF (g2 := (4, [(0, .int a2), (1, .int 4)], [], (q_kX s c n))) rfl rfl h7 ?_
                refine q_Ru_seg (g2 := (6, [(0, .int a2), (1, .int 4)], [.int 4, .int a2], (q_kX s c n))) 2 (fun _ _ => rfl) ?_
                refine q_Ru_rsT (g2 := (19, [(0, .int a2), (1, .int 4)], [], (q_kX s c n))) rfl rfl h8 ?_
                exact q_Ru_ret rfl rfl
              show q_Ru _ _ _ (10, [(0, .ref 64), (1, .int a1), (2, .int a2), (3, .int 0)], [], (q_kX s c n)) _
              refine q_Ru_seg (g2 := (31, [(4, .int 0), (0, .ref 64), (1, .int a1), (2, .int a2), (3, .int 0)], [.int 0, .int a2, .int a1, .int 9, .ref 98], (q_kX s c n))) 10 (fun _ _ => rfl) ?_
              refine q_Ru_call (v := none) (h2 := (q_kX r2 c n)) rfl rfl ?_ ?_
              · exact (q_cE (φ := (q_oSX c n)) er2 (dzt_X184_98 z L xs s c n 9 a1 a2 0)).le (Nat.le_of_ble_eq_true rfl)
              show q_Ru _ _ _ (34, [(4, .int 0), (0, .ref 64), (1, .int a1), (2, .int a2), (3, .int 0)], [], (q_kX r2 c n)) _
              refine q_Ru_seg (g2 := (44, [(4, .int 0), (0, .ref 64), (1, .int a1), (2, .int a2), (3, .int 0)], [.int 0, .int a2, .int a1, .int 9, .ref 65], (q_kX r2 c n))) 6 (fun _ _ => rfl) ?_
              refine q_Ru_call (v := (some (.int r3.2))) (h2 := (q_kX (q_pt 32 3 1 73 r2 r3.1) c n)) rfl rfl ?_ ?_
              · exact (q_emNX_1 rfl (fun _ => rfl) ((dzt_N79_64 (q_vw 32 1 73 r2) c n 9 a1 a2 0 r3 er3).tb q_TB0_le)).le (Nat.le_of_ble_eq_true rfl)
              show q_Ru _ _ _ (47, [(4, .int 0), (0, .ref 64), (1, .int a1), (2, .int a2), (3, .int 0)], [.int r3.2], (q_kX (q_pt 32 3 1 73 r2 r3.1) c n)) _
              refine q_Ru_seg (g2 := (48, [(4, .int 0), (0, .ref 64), (1, .int a1), (2, .int a2), (3, .int 0)], [.int 1, .int r3.2], (q_kX (q_pt 32 3 1 73 r2 r3.1) c n))) 1 (fun _ _ => rfl) ?_
              refine q_Ru_rsT (g2 := (55, [(4, .int 0), (0, .ref 64), (1, .int a1), (2, .int a2), (3, .int 0)], [], (q_kX (q_pt 32 3 1 73 r2 r3.1) c n))) rfl rfl (q_d_neF h9) ?_
              refine q_Ru_seg (g2 := (56, [(4, .int 0), (0, .ref 64), (1, .int a1), (2, .int a2), (3, .int 0)], [.int 0], (q_kX (q_pt 32 3 1 73 r2 r3.1) c n))) 1 (fun _ _ => rfl) ?_
              exact q_Ru_ret rfl rfl
            show q_RP _ _ _ (10, [(0, .ref 64), (1, .int a1), (2, .int a2), (3, .int 0), (4, .ref 236)], [.int 0, .int 0, .ref 236], (q_kX (q_pt 32 3 1 73 r2 r3.1) c n)) _ _
            refine q_RP_seg (g2 := (18, [(0, .ref 64), (1, .int a1), (2, .int a2), (3, .int 0), (4, .ref 236)], [.long 0, .int 0, .ref 236], (q_kX (q_pt 32 3 1 73 r2 r3.1) c n))) 2 (fun _ _ => rfl) ?_
            refine q_RP_rsT (g2 := (19, [(0, .ref 64), (1, .int a1), (2, .int a2), (3, .int 0), (4, .ref 236)], [], (q_kX (q_sL (q_pt 32 3 1 73 r2 r3.1) 172 (vp_updL ((q_pt 32 3 1 73 r2 r3.1).2.2 172) 0 0)) c n))) rfl q_wX172 rfl ?_
            refine q_RP_seg (g2 := (27, [(0, .ref 64), (1, .int a1), (2, .int a2), (3, .int 0), (4, .ref 236)], [.int 0], (q_kX (q_sL (q_pt 32 3 1 73 r2 r3.1) 172 (vp_updL ((q_pt 32 3 1 73 r2 r3.1).2.2 172) 0 0)) c n))) 2 (fun _ _ => rfl) ?_
            exact q_RP_ret rfl rfl rfl
        | false =>
          refine q_RP_cF ?_
          refine q_RP_callH (E := "java/lang/IndexOutOfBoundsException") (tg := 24) (i := 5) (h2 := (q_kX s (c + 1) (n + 6))) rfl rfl ?_ rfl ?_
          · refine q_Ca_of (Nat.le_of_ble_eq_true rfl) ?_
            refine q_Ru_seg (g2 := (2, [(0, .ref 64), (1, .int a1), (2, .int a2), (3, .int 0)], [.int 4, .int a1], (q_kX s c n))) 2 (fun _ _ => rfl) ?_
            refine q_Ru_call (v := none) (h2 := (q_kX s c n)) rfl rfl ?_ ?_
            · refine q_Ca_of (Nat.le_of_ble_eq_true rfl) ?_
              refine q_Ru_seg (g2 := (1, [(0, .int a1), (1, .int 4)], [.int a1], (q_kX s c n))) 1 (fun _ _ => rfl) ?_
              refine q_Ru_rsF (g2 := (4, [(0, .int a1), (1, .int 4)], [], (q_kX s c n))) rfl rfl h5 ?_
              refine q_Ru_seg (g2 := (6, [(0, .int a1), (1, .int 4)], [.int 4, .int a1], (q_kX s c n))) 2 (fun _ _ => rfl) ?_
              refine q_Ru_rsT (g2 := (19, [(0, .int a1), (1, .int 4)], [], (q_kX s c n))) rfl rfl h6 ?_
              exact q_Ru_ret rfl rfl
            show q_Ru _ _ _ (5, [(0, .ref 64), (1, .int a1), (2, .int a2), (3, .int 0)], [], (q_kX s c n)) _
            refine q_Ru_seg (g2 := (7, [(0, .ref 64), (1, .int a1), (2, .int a2), (3, .int 0)], [.int 4, .int a2], (q_kX s c n))) 2 (fun _ _ => rfl) ?_
            refine q_Ru_callX (E := "java/lang/IndexOutOfBoundsException") (h2 := (q_kX s (c + 1) (n + 6))) rfl rfl ?_
            refine q_Ca_of (Nat.le_of_ble_eq_true rfl) ?_
            refine q_Ru_seg (g2 := (1, [(0, .int a2), (1, .int 4)], [.int a2], (q_kX s c n))) 1 (fun _ _ => rfl) ?_
            refine q_Ru_rsF (g2 := (4, [(0, .int a2), (1, .int 4)], [], (q_kX s c n))) rfl rfl h7 ?_
            refine q_Ru_seg (g2 := (6, [(0, .int a2), (1, .int 4)], [.int 4, .int a2], (q_kX s c n))) 2 (fun _ _ => rfl) ?_
            refine q_Ru_rsF (g2 := (9, [(0, .int a2), (1, .int 4)], [], (q_kX s c n))) rfl rfl h8 ?_
            exact q_Ru_thr rfl rfl
          show q_RP _ _ _ (24, [(0, .ref 64), (1, .int a1), (2, .int a2), (3, .int 0), (4, .ref 236)], [], (q_kX s (c + 1) (n + 6))) _ _
          refine q_RP_seg (g2 := (25, [(0, .ref 64), (1, .int a1), (2, .int a2), (3, .int 0), (4, .ref 236)], [.int 1], (q_kX s (c + 1) (n + 6)))) 1 (fun _ _ => rfl) ?_
          exact q_RP_ret rfl rfl rfl
    | false =>
      refine q_RP_cF ?_
      refine q_RP_callH (E := "java/lang/IndexOutOfBoundsException") (tg := 24) (i := 5) (h2 := (q_kX s (c + 1) (n + 6))) rfl rfl ?_ rfl ?_
      · refine q_Ca_of (Nat.le_of_ble_eq_true rfl) ?_
        refine q_Ru_seg (g2 := (2, [(0, .ref 64), (1, .int a1), (2, .int a2), (3, .int 0)], [.int 4, .int a1], (q_kX s c n))) 2 (fun _ _ => rfl) ?_
        refine q_Ru_callX (E := "java/lang/IndexOutOfBoundsException") (h2 := (q_kX s (c + 1) (n + 6))) rfl rfl ?_
        refine q_Ca_of (Nat.le_of_ble_eq_true rfl) ?_
        refine q_Ru_seg (g2 := (1, [(0, .int a1), (1, .int 4)], [.int a1], (q_kX s c n))) 1 (fun _ _ => rfl) ?_
        refine q_Ru_rsF (g2 := (4, [(0, .int a1), (1, .int 4)], [], (q_kX s c n))) rfl rfl h5 ?_
        refine q_Ru_seg (g2 := (6, [(0, .int a1), (1, .int 4)], [.int 4, .int a1], (q_kX s c n))) 2 (fun _ _ => rfl) ?_
        refine q_Ru_rsF (g2 := (9, [(0, .int a1), (1, .int 4)], [], (q_kX s c n))) rfl rfl h6 ?_
        exact q_Ru_thr rfl rfl
      show q_RP _ _ _ (24, [(0, .ref 64), (1, .int a1), (2, .int a2), (3, .int 0), (4, .ref 236)], [], (q_kX s (c + 1) (n + 6))) _ _
      refine q_RP_seg (g2 := (25, [(0, .ref 64), (1, .int a1), (2, .int a2), (3, .int 0), (4, .ref 236)], [.int 1], (q_kX s (c + 1) (n + 6)))) 1 (fun _ _ => rfl) ?_
      exact q_RP_ret rfl rfl rfl
