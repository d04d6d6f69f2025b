section
-- 49.xb
def dz_X8_64_236 (s : q_S) (a1 : Int32) (a2 : Int32) (a3 : Int32) : Option (q_S × Int32 × Nat) :=
  cond (decide (a1 < 0)) (some (s, 1, 1)) (cond (decide (a1 < 4096)) (cond (decide (a2 < 0)) (some (s, 1, 1)) (cond (decide (a2 < 4096)) (cond (decide (a3 < 1)) (some (s, 2, 1)) (cond (decide (4096 < a3)) (some (s, 2, 1)) ((dz_X36_22 5000 s a1 a2 a3 0 0).bind fun r3 => some ((q_sL s 172 (vp_updL (s.2.2 172) 0 r3.toInt64)), 0, 0)))) (some (s, 1, 1)))) (some (s, 1, 1)))
set_option maxHeartbeats 4000000 in
theorem dzt_X8_64_236 (z L : Nat) (xs : Nat → Int32) (s : q_S) (c n : Nat) (a1 : Int32) (a2 : Int32) (a3 : Int32) (x : q_S × Int32 × Nat) (h : dz_X8_64_236 s a1 a2 a3 = some x) : q_Ca (q_TBs z L xs) 6 8 [.ref 64, .int a1, .int a2, .int a3, .ref 236] (q_kX s c n) ((q_oEX c n) x) := by
  refine q_CaP_of (φ := (q_oEX c n)) (Nat.le_of_ble_eq_true rfl) ?_ h
  clear h
  unfold dz_X8_64_236
  refine q_RP_seg (g2 := (7, [(0, .ref 64), (1, .int a1), (2, .int a2), (3, .int a3), (4, .ref 236)], [.int a3, .int a2, .int a1, .ref 64, .int 0, .ref 236], (q_kX s c n))) 6 (fun _ _ => rfl) ?_
  cases h7 : decide (a1 < 0) with
  | true =>
    refine q_RP_cT ?_
    refine q_RP_callH (E := "java/lang/IndexOutOfBoundsException") (tg := 17) (i := 5) (h2 := (q_kX s (c + 1) (n + 6))) rfl rfl ?_ rfl ?_
    · refine q_Ca_of (Nat.le_of_ble_eq_true rfl) ?_
      refine q_Ru_seg (g2 := (1, [(0, .ref 64), (1, .int a1), (2, .int a2), (3, .int a3)], [.int a1], (q_kX s c n))) 1 (fun _ _ => rfl) ?_
      refine q_Ru_callX (E := "java/lang/IndexOutOfBoundsException") (h2 := (q_kX s (c + 1) (n + 6))) rfl rfl ?_
      refine q_Ca_of (Nat.le_of_ble_eq_true rfl) ?_
      refine q_Ru_seg (g2 := (4, [(0, .int a1)], [.int 4096, .int a1], (q_kX s c n))) 2 (fun _ _ => rfl) ?_
      refine q_Ru_callX (E := "java/lang/IndexOutOfBoundsException") (h2 := (q_kX s (c + 1) (n + 6))) rfl rfl ?_
      refine q_Ca_of (Nat.le_of_ble_eq_true rfl) ?_
      refine q_Ru_seg (g2 := (1, [(0, .int a1), (1, .int 4096)], [.int a1], (q_kX s c n))) 1 (fun _ _ => rfl) ?_
      refine q_Ru_rsT (g2 := (9, [(0, .int a1), (1, .int 4096)], [], (q_kX s c n))) rfl rfl h7 ?_
      exact q_Ru_thr rfl rfl
    show q_RP _ _ _ (17, [(0, .ref 64), (1, .int a1), (2, .int a2), (3, .int a3), (4, .ref 236)], [], (q_kX s (c + 1) (n + 6))) _ _
    refine q_RP_seg (g2 := (18, [(0, .ref 64), (1, .int a1), (2, .int a2), (3, .int a3), (4, .ref 236)], [.int 1], (q_kX s (c + 1) (n + 6)))) 1 (fun _ _ => rfl) ?_
    exact q_RP_ret rfl rfl rfl
  | false =>
    refine q_RP_cF ?_
    cases h8 : decide (a1 < 4096) with
    | true =>
      refine q_RP_cT ?_
      cases h9 : decide (a2 < 0) with
      | true =>
        refine q_RP_cT ?_
        refine q_RP_callH (E := "java/lang/IndexOutOfBoundsException") (tg := 17) (i := 5) (h2 := (q_kX s (c + 1) (n + 6))) rfl rfl ?_ rfl ?_
        · refine q_Ca_of (Nat.le_of_ble_eq_true rfl) ?_
          refine q_Ru_seg (g2 := (1, [(0, .ref 64), (1, .int a1), (2, .int a2), (3, .int a3)], [.int a1], (q_kX s c n))) 1 (fun _ _ => rfl) ?_
          refine q_Ru_call (v := none) (h2 := (q_kX s c n)) rfl rfl ?_ ?_
          · refine q_Ca_of (Nat.le_of_ble_eq_true rfl) ?_
            refine q_Ru_seg (g2 := (4, [(0, .int a1)], [.int 4096, .int a1], (q_kX s c n))) 2 (fun _ _ => rfl) ?_
            refine q_Ru_call (v := none) (h2 := (q_kX s c n)) rfl rfl ?_ ?_
            · refine q_Ca_of (Nat.le_of_ble_eq_true rfl) ?_
              refine q_Ru_seg (g2 := (1, [(0, .int a1), (1, .int 4096)], [.int a1], (q_kX s c n))) 1 (fun _ _ => rfl) ?_
              refine q_Ru_rsF (g2 := (4, [(0, .int a1), (1, .int 4096)], [], (q_kX s c n))) rfl rfl h7 ?_
              refine q_Ru_seg (g2 := (6, [(0, .int a1), (1, .int 4096)], [.int 4096, .int a1], (q_kX s c n))) 2 (fun _ _ => rfl) ?_
              refine q_Ru_rsT (g2 := (19, [(0, .int a1), (1, .int 4096)], [], (q_kX s c n))) rfl rfl h8 ?_
              exact q_Ru_ret rfl rfl
            show q_Ru _ _ _ (7, [(0, .int a1)], [], (q_kX s c n)) _
            exact q_Ru_ret rfl rfl
          show q_Ru _ _ _ (4, [(0, .ref 64), (1, .int a1), (2, .int a2), (3, .int a3)], [], (q_kX s c n)) _
          refine q_Ru_seg (g2 := (5, [(0, .ref 64), (1, .int a1), (2, .int a2), (3, .int a3)], [.int a2], (q_kX s c n))) 1 (fun _ _ => rfl) ?_
          refine q_Ru_callX (E := "java/lang/IndexOutOfBoundsException") (h2 := (q_kX s (c + 1) (n + 6))) rfl rfl ?_
          refine q_Ca_of (Nat.le_of_ble_eq_true rfl) ?_
          refine q_Ru_seg (g2 := (4, [(0, .int a2)], [.int 4096, .int a2], (q_kX s c n))) 2 (fun _ _ => rfl) ?_
          refine q_Ru_callX (E := "java/lang/IndexOutOfBoundsException") (h2 := (q_kX s (c + 1) (n + 6))) rfl rfl ?_
          refine q_Ca_of (Nat.le_of_ble_eq_true rfl) ?_
          refine q_Ru_seg (g2 := (1, [(0, .int a2), (1, .int 4096)], [.int a2], (q_kX s c n))) 1 (fun _ _ => rfl) ?_
          refine q_Ru_rsT (g2 := (9, [(0, .int a2), (1, .int 4096)], [], (q_kX s c n))) rfl rfl h9 ?_
          exact q_Ru_thr rfl rfl
        show q_RP _ _ _ (17, [(0, .ref 64), (1, .int a1), (2, .int a2), (3, .int a3), (4, .ref 236)], [], (q_kX s (c + 1) (n + 6))) _ _
        refine q_RP_seg (g2 := (18, [(0, .ref 64), (1, .int a1), (2, .int a2), (3, .int a3), (4, .ref 236)], [.int 1], (q_kX s (c + 1) (n + 6)))) 1 (fun _ _ => rfl) ?_
        exact q_RP_ret rfl rfl rfl
      | false =>
        refine q_RP_cF ?_
        cases h10 : decide (a2 < 4096) with
        | true =>
          refine q_RP_cT ?_
          cases h11 : decide (a3 < 1) with
          | true =>
            refine q_RP_cT ?_
            refine q_RP_callH (E := "java/lang/IllegalArgumentException") (tg := 21) (i := 5) (h2 := (q_kX s (c + 1) (n + 6))) rfl rfl ?_ rfl ?_
            · refine q_Ca_of (Nat.le_of_ble_eq_true rfl) ?_
              refine q_Ru_seg (g2 := (1, [(0, .ref 64), (1, .int a1), (2, .int a2), (3, .int a3)], [.int a1], (q_kX s c n))) 1 (fun _ _ => rfl) ?_
              refine q_Ru_call (v := none) (h2 := (q_kX s c n)) rfl rfl ?_ ?_
              · refine q_Ca_of (Nat.le_of_ble_eq_true rfl) ?_
                refine q_Ru_seg (g2 := (4, [(0, .int a1)], [.int 4096, .int a1], (q_kX s c n))) 2 (fun _ _ => rfl) ?_
                refine q_Ru_call (v := none) (h2 := (q_kX s c n)) rfl rfl ?_ ?_
                · refine q_Ca_of (Nat.le_of_ble_eq_true rfl) ?_
                  refine q_Ru_seg (g2 := (1, [(0, .int a1), (1, .int 4096)], [.int a1], (q_kX s c n))) 1 (fun _ _ => rfl) ?_
                  refine q_Ru_rsF (g2 := (4, [(0, .int a1), (1, .int 4096)], [], (q_kX s c n))) rfl rfl h7 ?_
                  refine q_Ru_seg (g2 := (6, [(0, .int a1), (1, .int 4096)], [.int 4096, .int a1], (q_kX s c n))) 2 (fun _ _ => rfl) ?_
                  refine q_Ru_rsT (g2 := (19, [(0, .int a1), (1, .int 4096)], [], (q_kX s c n))) rfl rfl h8 ?_
                  exact q_Ru_ret rfl rfl
                show q_Ru _ _ _ (7, [(0, .int a1)], [], (q_kX s c n)) _
                exact q_Ru_ret rfl rfl
              show q_Ru _ _ _ (4, [(0, .ref 64), (1, .int a1), (2, .int a2), (3, .int a3)], [], (q_kX s c n)) _
              refine q_Ru_seg (g2 := (5, [(0, .ref 64), (1, .int a1), (2, .int a2), (3, .int a3)], [.int a2], (q_kX s c n))) 1 (fun _ _ => rfl) ?_
              refine q_Ru_call (v := none) (h2 := (q_kX s c n)) rfl rfl ?_ ?_
              · refine q_Ca_of (Nat.le_of_ble_eq_true rfl) ?_
                refine q_Ru_seg (g2 := (4, [(0, .int a2)], [.int 4096, .int a2], (q_kX s c n))) 2 (fun _ _ => rfl) ?_
                refine q_Ru_call (v := none) (h2 := (q_kX s c n)) rfl rfl ?_ ?_
                · refine q_Ca_of (Nat.le_of_ble_eq_true rfl) ?_
                  refine q_Ru_seg (g2 := (1, [(0, .int a2), (1, .int 4096)], [.int a2], (q_kX s c n))) 1 (fun _ _ => rfl) ?_
                  refine q_Ru_rsF (g2 := (4, [(0, .int a2), (1, .int 4096)], [], (q_kX s c n))) rfl rfl h9 ?_
                  refine q_Ru_seg (g2 := (6, [(0, .int a2), (1, .int 4096)], [.int 4096, .int a2], (q_kX s c n))) 2 (fun _ _ => rfl) ?_
                  refine q_Ru_rsT (g2 := (19, [(0, .int a2), (1, .int 4096)], [], (q_kX s c n))) rfl rfl h10 ?_
                  exact q_Ru_ret rfl rfl
                show q_Ru _ _ _ (7, [(0, .int a2)], [], (q_kX s c n)) _
                exact q_Ru_ret rfl rfl
              show q_Ru _ _ _ (8, [(0, .ref 64), (1, .int a1), (2, .int a2), (3, .int a3)], [], (q_kX s c n)) _
              refine q_Ru_seg (g2 := (13, [(0, .ref 64), (1, .int a1), (2, .int a2), (3, .int a3)], [.int 4096, .int 1, .int a3], (q_kX s c n))) 3 (fun _ _ => rfl) ?_
              refine q_Ru_callX (E := "java/lang/IllegalArgumentException") (h2 := (q_kX s (c + 1) (n + 6))) rfl rfl ?_
              refine q_Ca_of (Nat.le_of_ble_eq_true rfl) ?_
              refine q_Ru_seg (g2 := (2, [(0, .int a3), (1, .int 1), (2, .int 4096)], [.int 1, .int a3], (q_kX s c n))) 2 (fun _ _ => rfl) ?_
              refine q_Ru_rsT (g2 := (10, [(0, .int a3), (1, .int 1), (2, .int 4096)], [], (q_kX s c n))) rfl rfl h11 ?_
              exact q_Ru_thr rfl rfl
            show q_RP _ _ _ (21, [(0, .ref 64), (1, .int a1), (2, .int a2), (3, .int a3), (4, .ref 236)], [], (q_kX s (c + 1) (n + 6))) _ _
            refine q_RP_seg (g2 := (22, [(0, .ref 64), (1, .int a1), (2, .int a2), (3, .int a3), (4, .ref 236)], [.int 2], (q_kX s (c + 1) (n + 6)))) 1 (fun _ _ => rfl) ?_
            exact q_RP_ret rfl rfl rfl
          | false =>
            refine q_RP_cF ?_
            cases h12 : decide (4096 < a3) with
            | true =>
              refine q_RP_cT ?_
              refine q_RP_callH (E := "java/lang/IllegalArgumentException") (tg := 21) (i := 5) (h2 := (q_kX s (c + 1) (n + 6))) rfl rfl ?_ rfl ?_
              · refine q_Ca_of (Nat.le_of_ble_eq_true rfl) ?_
                refine q_Ru_seg (g2 := (1, [(0, .ref 64), (1, .int a1), (2, .int a2), (3, .int a3)], [.int a1], (q_kX s c n))) 1 (fun _ _ => rfl) ?_
                refine q_Ru_call (v := none) (h2 := (q_kX s c n)) rfl rfl ?_ ?_
                · refine q_Ca_of (Nat.le_of_ble_eq_true rfl) ?_
                  refine q_Ru_seg (g2 := (4, [(0, .int a1)], [.int 4096, .int a1], (q_kX s c n))) 2 (fun _ _ => rfl) ?_
                  refine q_Ru_call (v := none) (h2 := (q_kX s c n)) rfl rfl ?_ ?_
                  · refine q_Ca_of (Nat.le_of_ble_eq_true rfl) ?_
                    refine q_Ru_seg (g2 := (1, [(0, .int a1), (1, .int 4096)], [.int a1], (q_kX s c n))) 1 (fun _ _ => rfl) ?_
                    refine q_Ru_rsF (g2 := (4, [(0, .int a1), (1, .int 4096)], [], (q_kX s c n))) rfl rfl h7 ?_
                    refine q_Ru_seg (g2 := (6, [(0, .int a1), (1, .int 4096)], [.int 4096, .int a1], (q_kX s c n))) 2 (fun _ _ => rfl) ?_
                    refine q_Ru_rsT (g2 := (19, [(0, .int a1), (1, .int 4096)], [], (q_kX s c n))) rfl rfl h8 ?_
                    exact q_Ru_ret rfl rfl
                  show q_Ru _ _ _ (7, [(0, .int a1)], [], (q_kX s c n)) _
                  exact q_Ru_ret rfl rfl
                show q_Ru _ _ _ (4, [(0, .ref 64), (1, .int a1), (2, .int a2), (3, .int a3)], [], (q_kX s c n)) _
                refine q_Ru_seg (g2 := (5, [(0, .ref 64), (1, .int a1), (2, .int a2), (3, .int a3)], [.int a2], (q_kX s c n))) 1 (fun _ _ => rfl) ?_
                refine q_Ru_call (v := none) (h2 := (q_kX s c n)) rfl rfl ?_ ?_
                · refine q_Ca_of (Nat.le_of_ble_eq_true rfl) ?_
                  refine q_Ru_seg (g2 := (4, [(0, .int a2)], [.int 4096, .int a2], (q_kX s c n))) 2 (fun _ _ => rfl) ?_
                  refine q_Ru_call (v := none) (h2 := (q_kX s c n)) rfl rfl ?_ ?_
                  · refine q_Ca_of (Nat.le_of_ble_eq_true rfl) ?_
                    refine q_Ru_seg (g2 := (1, [(0, .int a2), (1, .int 4096)], [.int a2], (q_kX s c n))) 1 (fun _ _ => rfl) ?_
                    refine q_Ru_rsF (g2 := (4, [(0, .int a2), (1, .int 4096)], [], (q_kX s c n))) rfl rfl h9 ?_
                    refine q_Ru_seg (g2 := (6, [(0, .int a2), (1, .int 4096)], [.int 4096, .int a2], (q_kX s c n))) 2 (fun _ _ => rfl) ?_
                    refine q_Ru_rsT (g2 := (19, [(0, .int a2), (1, .int 4096)], [], (q_kX s c n))) rfl rfl h10 ?_
                    exact q_Ru_ret rfl rfl
                  show q_Ru _ _ _ (7, [(0, .int a2)], [], (q_kX s c n)) _
                  exact q_Ru_ret rfl rfl
                show q_Ru _ _ _ (8, [(0, .ref 64), (1, .int a1), (2, .int a2), (3, .int a3)], [], (q_kX s c n)) _
                refine q_Ru_seg (g2 := (13, [(0, .ref 64), (1, .int a1), (2, .int a2), (3, .int a3)], [.int 4096, .int 1, .int a3], (q_kX s c n))) 3 (fun _ _ => rfl) ?_
                refine q_Ru_callX (E := "java/lang/IllegalArgumentException") (h2 := (q_kX s (c + 1) (n + 6))) rfl rfl ?_
                refine q_Ca_of (Nat.le_of_ble_eq_true rfl) ?_
                refine q_Ru_seg (g2 := (2, [(0, .int a3), (1, .int 1), (2, .int 4096)], [.int 1, .int a3], (q_kX s c n))) 2 (fun _ _ => rfl) ?_
                refine q_Ru_rsF (g2 := (5, [(0, .int a3), (1, .int 1), (2, .int 4096)], [], (q_kX s c n))) rfl rfl h11 ?_
                refine q_Ru_seg (g2 := (7, [(0, .int a3), (1, .int 1), (2, .int 4096)], [.int 4096, .int a3], (q_kX s c n))) 2 (fun _ _ => rfl) ?_
                refine q_Ru_rsF (g2 := (10, [(0, .int a3), (1, .int 1), (2, .int 4096)], [], (q_kX s c n))) rfl rfl (q_d_geT h12) ?_
                exact q_Ru_thr rfl rfl
              show q_RP _ _ _ (21, [(0, .ref 64), (1, .int a1), (2, .int a2), (3, .int a3), (4, .ref 236)], [], (q_kX s (c + 1) (n + 6))) _ _
              refine q_RP_seg (g2 := (22, [(0, .ref 64), (1, .int a1), (2, .int a2), (3, .int a3), (4, .ref 236)], [.int 2], (q_kX s (c + 1) (n + 6)))) 1 (fun _ _ => rfl) ?_
              exact q_RP_ret rfl rfl rfl
            | false =>
              refine q_RP_cF ?_
              refine q_RP_bd fun r3 er3 => ?_
              refine q_RP_call (v := (some (.int r3))) (h2 := (q_kX s c n)) rfl rfl ?_ ?_
              · refine q_Ca_of (Nat.le_of_ble_eq_true rfl) ?_
                refine q_Ru_seg (g2 := (1, [(0, .ref 64), (1, .int a1), (2, .int a2), (3, .int a3)], [.int a1], (q_kX s c n))) 1 (fun _ _ => rfl) ?_
                refine q_Ru_call (v := none) (h2 := (q_kX s c n)) rfl rfl ?_ ?_
                · refine q_Ca_of (Nat.le_of_ble_eq_true rfl) ?_
                  refine q_Ru_seg (g2 := (4, [(0, .int a1)], [.int 4096, .int a1], (q_kX s c n))) 2 (fun _ _ => rfl) ?_
                  refine q_Ru_call (v := none) (h2 := (q_kX s c n)) rfl rfl ?_ ?_
                  · refine q_Ca_of (Nat.le_of_ble_eq_true rfl) ?_
                    refine q_Ru_seg (g2 := (1, [(0, .int a1), (1, .int 4096)], [.int a1], (q_kX s c n))) 1 (fun _ _ => rfl) ?_
                    refine q_Ru_rsF (g2 := (4, [(0, .int a1), (1, .int 4096)], [], (q_kX s c n))) rfl rfl h7 ?_
                    refine q_Ru_seg (g2 := (6, [(0, .int a1), (1, .int 4096)], [.int 4096, .int a1], (q_kX s c n))) 2 (fun _ _ => rfl) ?_
                    refine q_Ru_rsT (g2 := (19, [(0, .int a1), (1, .int 4096)], [], (q_kX s c n))) rfl rfl h8 ?_
                    exact q_Ru_ret rfl rfl
                  show q_Ru _ _ _ (7, [(0, .int a1)], [], (q_kX s c n)) _
                  exact q_Ru_ret rfl rfl
                show q_Ru _ _ _ (4, [(0, .ref 64), (1, .int a1), (2, .int a2), (3, .int a3)], [], (q_kX s c n)) _
                refine q_Ru_seg (g2 := (5, [(0, .ref 64), (1, .int a1), (2, .int a2), (3, .int a3)], [.int a2], (q_kX s c n))) 1 (fun _ _ => rfl) ?_
                refine q_Ru_call (v := none) (h2 := (q_kX s c n)) rfl rfl ?_ ?_
                · refine q_Ca_of (Nat.le_of_ble_eq_true rfl) ?_
                  refine q_Ru_seg (g2 := (4, [(0, .int a2)], [.int 4096, .int a2], (q_kX s c n))) 2 (fun _ _ => rfl) ?_
                  refine q_Ru_call (v := none) (h2 := (q_kX s c n)) rfl rfl ?_ ?_
                  · refine q_Ca_of (Nat.le_of_ble_eq_true rfl) ?_
                    refine q_Ru_seg (g2 := (1, [(0, .int a2), (1, .int 4096)], [.int a2], (q_kX s c n))) 1 (fun _ _ => rfl) ?_
                    refine q_Ru_rsF (g2 := (4, [(0, .int a2), (1, .int 4096)], [], (q_kX s c n))) rfl rfl h9 ?_
                    refine q_Ru_seg (g2 := (6, [(0, .int a2), (1, .int 4096)], [.int 4096, .int a2], (q_kX s c n))) 2 (fun _ _ => rfl) ?_
                    refine q_Ru_rsT (g2 := (19, [(0, .int a2), (1, .int 4096)], [], (q_kX s c n))) rfl rfl h10 ?_
                    exact q_Ru_ret rfl rfl
                  show q_Ru _ _ _ (7, [(0, .int a2)], [], (q_kX s c n)) _
                  exact q_Ru_ret rfl rfl
                show q_Ru _ _ _ (8, [(0, .ref 64), (1, .int a1), (2, .int a2), (3, .int a3)], [], (q_kX s c n)) _
                refine q_Ru_seg (g2 := (13, [(0, .ref 64), (1, .int a1), (2, .int a2), (3, .int a3)], [.int 4096, .int 1, .int a3], (q_kX s c n))) 3 (fun _ _ => rfl) ?_
                refine q_Ru_call (v := none) (h2 := (q_kX s c n)) rfl rfl ?_ ?_
                · refine q_Ca_of (Nat.le_of_ble_eq_true rfl) ?_
                  refine q_Ru_seg (g2 := (2, [(0, .int a3), (1, .int 1), (2, .int 4096)], [.int 1, .int a3], (q_kX s c n))) 2 (fun _ _ => rfl) ?_
                  refine q_Ru_rsF (g2 := (5, [(0, .int a3), (1, .int 1), (2, .int 4096)], [], (q_kX s c n))) rfl rfl h11 ?_
                  refine q_Ru_seg (g2 := (7, [(0, .int a3), (1, .int 1), (2, .int 4096)], [.int 4096, .int a3], (q_kX s c n))) 2 (fun _ _ => rfl) ?_
                  refine q_Ru_rsT (g2 := (20, [(0, .int a3), (1, .int 1), (2, .int 4096)], [], (q_kX s c n))) rfl rfl (q_d_geF h12) ?_
                  exact q_Ru_ret rfl rfl
                show q_Ru _ _ _ (16, [(0, .ref 64), (1, .int a1), (2, .int a2), (3, .int a3)], [], (q_kX s c n)) _
                refine q_Ru_seg (g2 := (22, [(5, .int 0), (4, .int 0), (0, .ref 64), (1, .int a1), (2, .int a2), (3, .int a3)], [], (q_kX s c n))) 4 (fun _ _ => rfl) ?_
                exact q_Ru_xt (q_xt_mk (q_mn1 2 rfl (q_mn1 3 rfl (q_mn1 4 rfl (q_mn1 5 rfl (q_mn1 1 rfl (q_mn1 0 rfl q_mn0)))))) rfl) (q_Ru_le (Nat.le_of_ble_eq_true rfl) (dzt_X36_22 z L xs c n s 5000 a1 a2 a3 0 0 r3 er3))
              show q_RP _ _ _ (10, [(0, .ref 64), (1, .int a1), (2, .int a2), (3, .int a3), (4, .ref 236)], [.int r3, .int 0, .ref 236], (q_kX s c n)) _ _
              refine q_RP_seg (g2 := (11, [(0, .ref 64), (1, .int a1), (2, .int a2), (3, .int a3), (4, .ref 236)], [.long r3.toInt64, .int 0, .ref 236], (q_kX s c n))) 1 (fun _ _ => rfl) ?_
              refine q_RP_rsT (g2 := (12, [(0, .ref 64), (1, .int a1), (2, .int a2), (3, .int a3), (4, .ref 236)], [], (q_kX (q_sL s 172 (vp_updL (s.2.2 172) 0 r3.toInt64)) c n))) rfl q_wX172 rfl ?_
              refine q_RP_seg (g2 := (24, [(0, .ref 64), (1, .int a1), (2, .int a2), (3, .int a3), (4, .ref 236)], [.int 0], (q_kX (q_sL s 172 (vp_updL (s.2.2 172) 0 r3.toInt64)) c n))) 2 (fun _ _ => rfl) ?_
              exact q_RP_ret rfl rfl rfl
        | false =>
          refine q_RP_cF ?_
          refine q_RP_callH (E := "java/lang/IndexOutOfBoundsException") (tg := 17) (i := 5) (h2 := (q_kX s (c + 1) (n + 6))) rfl rfl ?_ rfl ?_
          · refine q_Ca_of (Nat.le_of_ble_eq_true rfl) ?_
            refine q_Ru_seg (g2 := (1, [(0, .ref 64), (1, .int a1), (2, .int a2), (3, .int a3)], [.int a1], (q_kX s c n))) 1 (fun _ _ => rfl) ?_
            refine q_Ru_call (v := none) (h2 := (q_kX s c n)) rfl rfl ?_ ?_
            · refine q_Ca_of (Nat.le_of_ble_eq_true rfl) ?_
              refine q_Ru_seg (g2 := (4, [(0, .int a1)], [.int 4096, .int a1], (q_kX s c n))) 2 (fun _ _ => rfl) ?_
              refine q_Ru_call (v := none) (h2 := (q_kX s c n)) rfl rfl ?_ ?_
              · refine q_Ca_of (Nat.le_of_ble_eq_true rfl) ?_
                refine q_Ru_seg (g2 := (1, [(0, .int a1), (1, .int 4096)], [.int a1], (q_kX s c n))) 1 (fun _ _ => rfl) ?_
                refine q_Ru_rsF (g2 := (4, [(0, .int a1), (1, .int 4096)], [], (q_kX s c n))) rfl rfl h7 ?_
                refine q_Ru_seg (g2 := (6, [(0, .int a1), (1, .int 4096)], [.int 4096, .int a1], (q_kX s c n))) 2 (fun _ _ => rfl) ?_
                refine q_Ru_rsT (g2 := (19, [(0, .int a1), (1, .int 4096)], [], (q_kX s c n))) rfl rfl h8 ?_
                exact q_Ru_ret rfl rfl
              show q_Ru _ _ _ (7, [(0, .int a1)], [], (q_kX s c n)) _
              exact q_Ru_ret rfl rfl
            show q_Ru _ _ _ (4, [(0, .ref 64), (1, .int a1), (2, .int a2), (3, .int a3)], [], (q_kX s c n)) _
            refine q_Ru_seg (g2 := (5, [(0, .ref 64), (1, .int a1), (2, .int a2), (3, .int a3)], [.int a2], (q_kX s c n))) 1 (fun _ _ => rfl) ?_
            refine q_Ru_callX (E := "java/lang/IndexOutOfBoundsException") (h2 := (q_kX s (c + 1) (n + 6))) rfl rfl ?_
            refine q_Ca_of (Nat.le_of_ble_eq_true rfl) ?_
            refine q_Ru_seg (g2 := (4, [(0, .int a2)], [.int 4096, .int a2], (q_kX s c n))) 2 (fun _ _ => rfl) ?_
            refine q_Ru_callX (E := "java/lang/IndexOutOfBoundsException") (h2 := (q_kX s (c + 1) (n + 6))) rfl rfl ?_
            refine q_Ca_of (Nat.le_of_ble_eq_true rfl) ?_
            refine q_Ru_seg (g2 := (1, [(0, .int a2), (1, .int 4096)], [.int a2], (q_kX s c n))) 1 (fun _ _ => rfl) ?_
            refine q_Ru_rsF (g2 := (4, [(0, .int a2), (1, .int 4096)], [], (q_kX s c n))) rfl rfl h9 ?_
            refine q_Ru_seg (g2 := (6, [(0, .int a2), (1, .int 4096)], [.int 4096, .int a2], (q_kX s c n))) 2 (fun _ _ => rfl) ?_
            refine q_Ru_rsF (g2 := (9, [(0, .int a2), (1, .int 4096)], [], (q_kX s c n))) rfl rfl h10 ?_
            exact q_Ru_thr rfl rfl
          show q_RP _ _ _ (17, [(0, .ref 64), (1, .int a1), (2, .int a2), (3, .int a3), (4, .ref 236)], [], (q_kX s (c + 1) (n + 6))) _ _
          refine q_RP_seg (g2 := (18, [(0, .ref 64), (1, .int a1), (2, .int a2), (3, .int a3), (4, .ref 236)], [.int 1], (q_kX s (c + 1) (n + 6)))) 1 (fun _ _ => rfl) ?_
          exact q_RP_ret rfl rfl rfl
    | false =>
      refine q_RP_cF ?_
      refine q_RP_callH (E := "java/lang/IndexOutOfBoundsException") (tg := 17) (i := 5) (h2 := (q_kX s (c + 1) (n + 6))) rfl rfl ?_ rfl ?_
      · refine q_Ca_of (Nat.le_of_ble_eq_true rfl) ?_
        refine q_Ru_seg (g2 := (1, [(0, .ref 64), (1, .int a1), (2, .int a2), (3, .int a3)], [.int a1], (q_kX s c n))) 1 (fun _ _ => rfl) ?_
        refine q_Ru_callX (E := "java/lang/IndexOutOfBoundsException") (h2 := (q_kX s (c + 1) (n + 6))) rfl rfl ?_
        refine q_Ca_of (Nat.le_of_ble_eq_true rfl) ?_
        refine q_Ru_seg (g2 := (4, [(0, .int a1)], [.int 4096, .int a1], (q_kX s c n))) 2 (fun _ _ => rfl) ?_
        refine q_Ru_callX (E := "java/lang/IndexOutOfBoundsException") (h2 := (q_kX s (c + 1) (n + 6))) rfl rfl ?_
        refine q_Ca_of (Nat.le_of_ble_eq_true rfl) ?_
        refine q_Ru_seg (g2 := (1, [(0, .int a1), (1, .int 4096)], [.int a1], (q_kX s c n))) 1 (fun _ _ => rfl) ?_
        refine q_Ru_rsF (g2 := (4, [(0, .int a1), (1, .int 4096)], [], (q_kX s c n))) rfl rfl h7 ?_
        refine q_Ru_seg (g2 := (6, [(0, .int a1), (1, .int 4096)], [.int 4096, .int a1], (q_kX s c n))) 2 (fun _ _ => rfl) ?_
        refine q_Ru_rsF (g2 := (9, [(0, .int a1), (1, .int 4096)], [], (q_kX s c n))) rfl rfl h8 ?_
        exact q_Ru_thr rfl rfl
      show q_RP _ _ _ (17, [(0, .ref 64), (1, .int a1), (2, .int a2), (3, .int a3), (4, .ref 236)], [], (q_kX s (c + 1) (n + 6))) _ _
      refine q_RP_seg (g2 := (18, [(0, .ref 64), (1, .int a1), (2, .int a2), (3, .int a3), (4, .ref 236)], [.int 1], (q_kX s (c + 1) (n + 6)))) 1 (fun _ _ => rfl) ?_
      exact q_RP_ret rfl rfl rfl
def dz_X9_64_236 (s : q_S) (a1 : Int32) : q_S × Int32 × Nat :=
  cond (decide (a1 < 0)) ((s, 1, 1)) (cond (decide (a1 < 5)) (q_let (dz_N133_87 (q_vw 32 1 73 s) a1) fun r1 => ((q_sL s 172 (vp_updL (s.2.2 172) 0 r1.toInt64)), 0, 0)) ((s, 1, 1)))
set_option maxHeartbeats 4000000 in
theorem dzt_X9_64_236 (z L : Nat) (xs : Nat → Int32) (s : q_S) (c n : Nat) (a1 : Int32) : q_Ca (q_TBs z L xs) 4 9 [.ref 64, .int a1, .ref 236] (q_kX s c n) ((q_oEX c n) (dz_X9_64_236 s a1)) := by
  refine q_CaT_of (φ := (q_oEX c n)) (Nat.le_of_ble_eq_true rfl) ?_
  unfold dz_X9_64_236
  refine q_RT_seg (g2 := (4, [(0, .ref 64), (1, .int a1), (2, .ref 236)], [.int a1, .ref 64, .int 0, .ref 236], (q_kX s c n))) 4 (fun _ _ => rfl) ?_
  cases h1 : decide (a1 < 0) with
  | true =>
    refine q_RT_cT ?_
    refine q_RT_callH (E := "java/lang/IndexOutOfBoundsException") (tg := 13) (i := 3) (h2 := (q_kX s (c + 1) (n + 6))) rfl rfl ?_ rfl ?_
    · refine q_Ca_of (Nat.le_of_ble_eq_true rfl) ?_
      refine q_Ru_seg (g2 := (2, [(0, .ref 64), (1, .int a1)], [.int 5, .int a1], (q_kX s c n))) 2 (fun _ _ => rfl) ?_
      refine q_Ru_callX (E := "java/lang/IndexOutOfBoundsException") (h2 := (q_kX s (c + 1) (n + 6))) rfl rfl ?_
      refine q_Ca_of (Nat.le_of_ble_eq_true rfl) ?_
      refine q_Ru_seg (g2 := (1, [(0, .int a1), (1, .int 5)], [.int a1], (q_kX s c n))) 1 (fun _ _ => rfl) ?_
      refine q_Ru_rsT (g2 := (9, [(0, .int a1), (1, .int 5)], [], (q_kX s c n))) rfl rfl h1 ?_
      exact q_Ru_thr rfl rfl
    show q_RT _ _ _ (13, [(0, .ref 64), (1, .int a1), (2, .ref 236)], [], (q_kX s (c + 1) (n + 6))) _ _
    refine q_RT_seg (g2 := (14, [(0, .ref 64), (1, .int a1), (2, .ref 236)], [.int 1], (q_kX s (c + 1) (n + 6)))) 1 (fun _ _ => rfl) ?_
    exact q_RT_ret rfl rfl rfl
  | false =>
    refine q_RT_cF ?_
    cases h2 : decide (a1 < 5) with
    | true =>
      refine q_RT_cT ?_
      generalize er1 : dz_N133_87 (q_vw 32 1 73 s) a1 = r1
      refine q_RT_let ?_
      refine q_RT_call (v := (some (.int r1))) (h2 := (q_kX s c n)) rfl rfl ?_ ?_
      · refine q_Ca_of (Nat.le_of_ble_eq_true rfl) ?_
        refine q_Ru_seg (g2 := (2, [(0, .ref 64), (1, .int a1)], [.int 5, .int a1], (q_kX s c n))) 2 (fun _ _ => rfl) ?_
        refine q_Ru_call (v := none) (h2 := (q_kX s c n)) rfl rfl ?_ ?_
        · refine q_Ca_of (Nat.le_of_ble_eq_true rfl) ?_
          refine q_Ru_seg (g2 := (1, [(0, .int a1), (1, .int 5)], [.int a1], (q_kX s c n))) 1 (fun _ _ => rfl) ?_
          refine q_Ru_rsF (g2 := (4, [(0, .int a1), (1, .int 5)], [], (q_kX s c n))) rfl rfl h1 ?_
          refine q_Ru_seg (g2 := (6, [(0, .int a1), (1, .int 5)], [.int 5, .int a1], (q_kX s c n))) 2 (fun _ _ => rfl) ?_
          refine q_Ru_rsT (g2 := (19, [(0, .int a1), (1, .int 5)], [], (q_kX s c n))) rfl rfl h2 ?_
          exact q_Ru_ret rfl rfl
        show q_Ru _ _ _ (5, [(0, .ref 64), (1, .int a1)], [], (q_kX s c n)) _
        refine q_Ru_seg (g2 := (13, [(0, .ref 64), (1, .int a1)], [.int a1, .ref 88], (q_kX s c n))) 4 (fun _ _ => rfl) ?_
        refine q_Ru_call (v := (some (.int r1))) (h2 := (q_kX s c n)) rfl rfl ?_ ?_
        · exact (q_emNX_1p rfl (fun _ => rfl) ((q_cE (φ := (q_oP (q_kN (q_vw 32 1 73 s) c n))) er1 (dzt_N133_87 (q_vw 32 1 73 s) c n a1)).tb q_TB0_le)).le (Nat.le_of_ble_eq_true rfl)
        show q_Ru _ _ _ (16, [(0, .ref 64), (1, .int a1)], [.int r1], (q_kX s c n)) _
        exact q_Ru_ret rfl rfl
      show q_RT _ _ _ (7, [(0, .ref 64), (1, .int a1), (2, .ref 236)], [.int r1, .int 0, .ref 236], (q_kX s c n)) _ _
      refine q_RT_seg (g2 := (8, [(0, .ref 64), (1, .int a1), (2, .ref 236)], [.long r1.toInt64, .int 0, .ref 236], (q_kX s c n))) 1 (fun _ _ => rfl) ?_
      refine q_RT_rsT (g2 := (9, [(0, .ref 64), (1, .int a1), (2, .ref 236)], [], (q_kX (q_sL s 172 (vp_updL (s.2.2 172) 0 r1.toInt64)) c n))) rfl q_wX172 rfl ?_
      refine q_RT_seg (g2 := (16, [(0, .ref 64), (1, .int a1), (2, .ref 236)], [.int 0], (q_kX (q_sL s 172 (vp_updL (s.2.2 172) 0 r1.toInt64)) c n))) 2 (fun _ _ => rfl) ?_
      exact q_RT_ret rfl rfl rfl
    | false =>
      refine q_RT_cF ?_
      refine q_RT_callH (E := "java/lang/IndexOutOfBoundsException") (tg := 13) (i := 3) (h2 := (q_kX s (c + 1) (n + 6))) rfl rfl ?_ rfl ?_
      · refine q_Ca_of (Nat.le_of_ble_eq_true rfl) ?_
        refine q_Ru_seg (g2 := (2, [(0, .ref 64), (1, .int a1)], [.int 5, .int a1], (q_kX s c n))) 2 (fun _ _ => rfl) ?_
        refine q_Ru_callX (E := "java/lang/IndexOutOfBoundsException") (h2 := (q_kX s (c + 1) (n + 6))) rfl rfl ?_
        refine q_Ca_of (Nat.le_of_ble_eq_true rfl) ?_
        refine q_Ru_seg (g2 := (1, [(0, .int a1), (1, .int 5)], [.int a1], (q_kX s c n))) 1 (fun _ _ => rfl) ?_
        refine q_Ru_rsF (g2 := (4, [(0, .int a1), (1, .int 5)], [], (q_kX s c n))) rfl rfl h1 ?_
        refine q_Ru_seg (g2 := (6, [(0, .int a1), (1, .int 5)], [.int 5, .int a1], (q_kX s c n))) 2 (fun _ _ => rfl) ?_
        refine q_Ru_rsF (g2 := (9, [(0, .int a1), (1, .int 5)], [], (q_kX s c n))) rfl rfl h2 ?_
        exact q_Ru_thr rfl rfl
      show q_RT _ _ _ (13, [(0, .ref 64), (1, .int a1), (2, .ref 236)], [], (q_kX s (c + 1) (n + 6))) _ _
      refine q_RT_seg (g2 := (14, [(0, .ref 64), (1, .int a1), (2, .ref 236)], [.int 1], (q_kX s (c + 1) (n + 6)))) 1 (fun _ _ => rfl) ?_
      exact q_RT_ret rfl rfl rfl
def dz_X10_64_236 (s : q_S) (a1 : Int32) (a2 : Int32) : Option (q_S × Int32 × Nat) :=
  cond (decide (a1 < 0)) (some (s, 1, 1)) (cond (decide (a1 < 5)) (cond (decide (a1 = 4)) (cond (decide (a2 < 0)) (some (s, 2, 1)) (cond (decide (4095 < a2)) (some (s, 2, 1)) (cond (decide (0 < s.2.1 24 9)) (some (s, 3, 1)) (q_let (dz_X184_98 s 4 a1 a2 0) fun r2 => (dz_N79_64 (q_vw 32 1 73 r2) 4 a1 a2 0).bind fun r3 => some ((q_sL (q_pt 32 3 1 73 r2 r3.1) 172 (vp_updL ((q_pt 32 3 1 73 r2 r3.1).2.2 172) 0 r3.2.toInt64)), 0, 0))))) (cond (decide (a2 < 0)) (some (s, 2, 1)) (cond (decide (255 < a2)) (some (s, 2, 1)) (cond (decide (0 < s.2.1 24 9)) (some (s, 3, 1)) (q_let (dz_X184_98 s 4 a1 a2 0) fun r4 => (dz_N79_64 (q_vw 32 1 73 r4) 4 a1 a2 0).bind fun r5 => some ((q_sL (q_pt 32 3 1 73 r4 r5.1) 172 (vp_updL ((q_pt 32 3 1 73 r4 r5.1).2.2 172) 0 r5.2.toInt64)), 0, 0)))))) (some (s, 1, 1)))
set_option maxHeartbeats 4000000 in
theorem dzt_X10_64_236 (z L : Nat) (xs : Nat → Int32) (s : q_S) (c n : Nat) (a1 : Int32) (a2 : Int32) (x : q_S × Int32 × Nat) (h : dz_X10_64_236 s a1 a2 = some x) : q_Ca (q_TBs z L xs) 10 10 [.ref 64, .int a1, .int a2, .ref 236] (q_kX s c n) ((q_oEX c n) x) := by
  refine q_CaP_of (φ := (q_oEX c n)) (Nat.le_of_ble_eq_true rfl) ?_ h
  clear h
  unfold dz_X10_64_236
  refine q_RP_seg (g2 := (5, [(0, .ref 64), (1, .int a1), (2, .int a2), (3, .ref 236)], [.int a2, .int a1, .ref 64, .int 0, .ref 236], (q_kX s c n))) 5 (fun _ _ => rfl) ?_
  cases h7 : decide (a1 < 0) with
  | true =>
    refine q_RP_cT ?_
    refine q_RP_callH (E := "java/lang/IndexOutOfBoundsException") (tg := 15) (i := 4) (h2 := (q_kX s (c + 1) (n + 6))) rfl rfl ?_ rfl ?_
    · refine q_Ca_of (Nat.le_of_ble_eq_true rfl) ?_
      refine q_Ru_seg (g2 := (2, [(0, .ref 64), (1, .int a1), (2, .int a2)], [.int 5, .int a1], (q_kX s c n))) 2 (fun _ _ => rfl) ?_
      refine q_Ru_callX (E := "java/lang/IndexOutOfBoundsException") (h2 := (q_kX s (c + 1) (n + 6))) rfl rfl ?_
      refine q_Ca_of (Nat.le_of_ble_eq_true rfl) ?_
      refine q_Ru_seg (g2 := (1, [(0, .int a1), (1, .int 5)], [.int a1], (q_kX s c n))) 1 (fun _ _ => rfl) ?_
      refine q_Ru_rsT (g2 := (9, [(0, .int a1), (1, .int 5)], [], (q_kX s c n))) rfl rfl h7 ?_
      exact q_Ru_thr rfl rfl
    show q_RP _ _ _ (15, [(0, .ref 64), (1, .int a1), (2, .int a2), (3, .ref 236)], [], (q_kX s (c + 1) (n + 6))) _ _
    refine q_RP_seg (g2 := (16, [(0, .ref 64), (1, .int a1), (2, .int a2), (3, .ref 236)], [.int 1], (q_kX s (c + 1) (n + 6)))) 1 (fun _ _ => rfl) ?_
    exact q_RP_ret rfl rfl rfl
  | false =>
    refine q_RP_cF ?_
    cases h8 : decide (a1 < 5) with
    | true =>
      refine q_RP_cT ?_
      cases h9 : decide (a1 = 4) with
      | true =>
        refine q_RP_cT ?_
        cases h10 : decide (a2 < 0) with
        | true =>
          refine q_RP_cT ?_
          refine q_RP_callH (E := "java/lang/IllegalArgumentException") (tg := 19) (i := 4) (h2 := (q_kX s (c + 1) (n + 6))) rfl rfl ?_ rfl ?_
          · refine q_Ca_of (Nat.le_of_ble_eq_true rfl) ?_
            refine q_Ru_seg (g2 := (2, [(0, .ref 64), (1, .int a1), (2, .int a2)], [.int 5, .int a1], (q_kX s c n))) 2 (fun _ _ => rfl) ?_
            refine q_Ru_call (v := none) (h2 := (q_kX s c n)) rfl rfl ?_ ?_
            · refine q_Ca_of (Nat.le_of_ble_eq_true rfl) ?_
              refine q_Ru_seg (g2 := (1, [(0, .int a1), (1, .int 5)], [.int a1], (q_kX s c n))) 1 (fun _ _ => rfl) ?_
              refine q_Ru_rsF (g2 := (4, [(0, .int a1), (1, .int 5)], [], (q_kX s c n))) rfl rfl h7 ?_
              refine q_Ru_seg (g2 := (6, [(0, .int a1), (1, .int 5)], [.int 5, .int a1], (q_kX s c n))) 2 (fun _ _ => rfl) ?_
              refine q_Ru_rsT (g2 := (19, [(0, .int a1), (1, .int 5)], [], (q_kX s c n))) rfl rfl h8 ?_
              exact q_Ru_ret rfl rfl
            show q_Ru _ _ _ (5, [(0, .ref 64), (1, .int a1), (2, .int a2)], [], (q_kX s c n)) _
            refine q_Ru_seg (g2 := (9, [(0, .ref 64), (1, .int a1), (2, .int a2)], [.int 4, .int a1, .int 0, .int a2], (q_kX s c n))) 4 (fun _ _ => rfl) ?_
            refine q_Ru_rsF (g2 := (12, [(0, .ref 64), (1, .int a1), (2, .int a2)], [.int 0, .int a2], (q_kX s c n))) rfl rfl (q_d_neT h9) ?_
            refine q_Ru_seg (g2 := (21, [(0, .ref 64), (1, .int a1), (2, .int a2)], [.int 4095, .int 0, .int a2], (q_kX s c n))) 2 (fun _ _ => rfl) ?_
            refine q_Ru_callX (E := "java/lang/IllegalArgumentException") (h2 := (q_kX s (c + 1) (n + 6))) rfl rfl ?_
            refine q_Ca_of (Nat.le_of_ble_eq_true rfl) ?_
            refine q_Ru_seg (g2 := (2, [(0, .int a2), (1, .int 0), (2, .int 4095)], [.int 0, .int a2], (q_kX s c n))) 2 (fun _ _ => rfl) ?_
            refine q_Ru_rsT (g2 := (10, [(0, .int a2), (1, .int 0), (2, .int 4095)], [], (q_kX s c n))) rfl rfl h10 ?_
            exact q_Ru_thr rfl rfl
          show q_RP _ _ _ (19, [(0, .ref 64), (1, .int a1), (2, .int a2), (3, .ref 236)], [], (q_kX s (c + 1) (n + 6))) _ _
          refine q_RP_seg (g2 := (20, [(0, .ref 64), (1, .int a1), (2, .int a2), (3, .ref 236)], [.int 2], (q_kX s (c + 1) (n + 6)))) 1 (fun _ _ => rfl) ?_
          exact q_RP_ret rfl rfl rfl
        | false =>
          refine q_RP_cF ?_
          cases h11 : decide (4095 < a2) with
          | true =>
            refine q_RP_cT ?_
            refine q_RP_callH (E := "java/lang/IllegalArgumentException") (tg := 19) (i := 4) (h2 := (q_kX s (c + 1) (n + 6))) rfl rfl ?_ rfl ?_
            · refine q_Ca_of (Nat.le_of_ble_eq_true rfl) ?_
              refine q_Ru_seg (g2 := (2, [(0, .ref 64), (1, .int a1), (2, .int a2)], [.int 5, .int a1], (q_kX s c n))) 2 (fun _ _ => rfl) ?_
              refine q_Ru_call (v := none) (h2 := (q_kX s c n)) rfl rfl ?_ ?_
              · refine q_Ca_of (Nat.le_of_ble_eq_true rfl) ?_
                refine q_Ru_seg (g2 := (1, [(0, .int a1), (1, .int 5)], [.int a1], (q_kX s c n))) 1 (fun _ _ => rfl) ?_
                refine q_Ru_rsF (g2 := (4, [(0, .int a1), (1, .int 5)], [], (q_kX s c n))) rfl rfl h7 ?_
                refine q_Ru_seg (g2 := (6, [(0, .int a1), (1, .int 5)], [.int 5, .int a1], (q_kX s c n))) 2 (fun _ _ => rfl) ?_
                refine q_Ru_rsT (g2 := (19, [(0, .int a1), (1, .int 5)], [], (q_kX s c n))) rfl rfl h8 ?_
                exact q_Ru_ret rfl rfl
              show q_Ru _ _ _ (5, [(0, .ref 64), (1, .int a1), (2, .int a2)], [], (q_kX s c n)) _
              refine q_Ru_seg (g2 := (9, [(0, .ref 64), (1, .int a1), (2, .int a2)], [.int 4, .int a1, .int 0, .int a2], (q_kX s c n))) 4 (fun _ _ => rfl) ?_
              refine q_Ru_rsF (g2 := (12, [(0, .ref 64), (1, .int a1), (2, .int a2)], [.int 0, .int a2], (q_kX s c n))) rfl rfl (q_d_neT h9) ?_
              refine q_Ru_seg (g2 := (21, [(0, .ref 64), (1, .int a1), (2, .int a2)], [.int 4095, .int 0, .int a2], (q_kX s c n))) 2 (fun _ _ => rfl) ?_
              refine q_Ru_callX (E := "java/lang/IllegalArgumentException") (h2 := (q_kX s (c + 1) (n + 6))) rfl rfl ?_
              refine q_Ca_of (Nat.le_of_ble_eq_true rfl) ?_
              refine q_Ru_seg (g2 := (2, [(0, .int a2), (1, .int 0), (2, .int 4095)], [.int 0, .int a2], (q_kX s c n))) 2 (fun _ _ => rfl) ?_
              refine q_Ru_rsF (g2 := (5, [(0, .int a2), (1, .int 0), (2, .int 4095)], [], (q_kX s c n))) rfl rfl h10 ?_
              refine q_Ru_seg (g2 := (7, [(0, .int a2), (1, .int 0), (2, .int 4095)], [.int 4095, .int a2], (q_kX s c n))) 2 (fun _ _ => rfl) ?_
              refine q_Ru_rsF (g2 := (10, [(0, .int a2), (1, .int 0), (2, .int 4095)], [], (q_kX s c n))) rfl rfl (q_d_geT h11) ?_
              exact q_Ru_thr rfl rfl
            show q_RP _ _ _ (19, [(0, .ref 64), (1, .int a1), (2, .int a2), (3, .ref 236)], [], (q_kX s (c + 1) (n + 6))) _ _
            refine q_RP_seg (g2 := (20, [(0, .ref 64), (1, .int a1), (2, .int a2), (3, .ref 236)], [.int 2], (q_kX s (c + 1) (n + 6)))) 1 (fun _ _ => rfl) ?_
            exact q_RP_ret rfl rfl rfl
          | false =>
            refine q_RP_cF ?_
            cases h12 : decide (0 < s.2.1 24 9) with
            | true =>
              refine q_RP_cT ?_
              refine q_RP_callH (E := "java/lang/IllegalStateException") (tg := 23) (i := 4) (h2 := (q_kX s (c + 1) (n + 6))) rfl rfl ?_ rfl ?_
              · refine q_Ca_of (Nat.le_of_ble_eq_true rfl) ?_
                refine q_Ru_seg (g2 := (2, [(0, .ref 64), (1, .int a1), (2, .int a2)], [.int 5, .int a1], (q_kX s c n))) 2 (fun _ _ => rfl) ?_
                refine q_Ru_call (v := none) (h2 := (q_kX s c n)) rfl rfl ?_ ?_
                · refine q_Ca_of (Nat.le_of_ble_eq_true rfl) ?_
                  refine q_Ru_seg (g2 := (1, [(0, .int a1), (1, .int 5)], [.int a1], (q_kX s c n))) 1 (fun _ _ => rfl) ?_
                  refine q_Ru_rsF (g2 := (4, [(0, .int a1), (1, .int 5)], [], (q_kX s c n))) rfl rfl h7 ?_
                  refine q_Ru_seg (g2 := (6, [(0, .int a1), (1, .int 5)], [.int 5, .int a1], (q_kX s c n))) 2 (fun _ _ => rfl) ?_
                  refine q_Ru_rsT (g2 := (19, [(0, .int a1), (1, .int 5)], [], (q_kX s c n))) rfl rfl h8 ?_
                  exact q_Ru_ret rfl rfl
                show q_Ru _ _ _ (5, [(0, .ref 64), (1, .int a1), (2, .int a2)], [], (q_kX s c n)) _
                refine q_Ru_seg (g2 := (9, [(0, .ref 64), (1, .int a1), (2, .int a2)], [.int 4, .int a1, .int 0, .int a2], (q_kX s c n))) 4 (fun _ _ => rfl) ?_
                refine q_Ru_rsF (g2 := (12, [(0, .ref 64), (1, .int a1), (2, .int a2)], [.int 0, .int a2], (q_kX s c n))) rfl rfl (q_d_neT h9) ?_
                refine q_Ru_seg (g2 := (21, [(0, .ref 64), (1, .int a1), (2, .int a2)], [.int 4095, .int 0, .int a2], (q_kX s c n))) 2 (fun _ _ => rfl) ?_
                refine q_Ru_call (v := none) (h2 := (q_kX s c n)) rfl rfl ?_ ?_
                · refine q_Ca_of (Nat.le_of_ble_eq_true rfl) ?_
                  refine q_Ru_seg (g2 := (2, [(0, .int a2), (1, .int 0), (2, .int 4095)], [.int 0, .int a2], (q_kX s c n))) 2 (fun _ _ => rfl) ?_
                  refine q_Ru_rsF (g2 := (5, [(0, .int a2), (1, .int 0), (2, .int 4095)], [], (q_kX s c n))) rfl rfl h10 ?_
                  refine q_Ru_seg (g2 := (7, [(0, .int a2), (1, .int 0), (2, .int 4095)], [.int 4095, .int a2], (q_kX s c n))) 2 (fun _ _ => rfl) ?_
                  refine q_Ru_rsT (g2 := (20, [(0, .int a2), (1, .int 0), (2, .int 4095)], [], (q_kX s c n))) rfl rfl (q_d_geF h11) ?_
                  exact q_Ru_ret rfl rfl
                show q_Ru _ _ _ (24, [(0, .ref 64), (1, .int a1), (2, .int a2)], [], (q_kX s c n)) _
                refine q_Ru_seg (g2 := (34, [(0, .ref 64), (1, .int a1), (2, .int a2)], [.int (s.2.1 24 9)], (q_kX s c n))) 4 (fun _ _ => rfl) ?_
                refine q_Ru_rsF (g2 := (37, [(0, .ref 64), (1, .int a1), (2, .int a2)], [], (q_kX s c n))) rfl rfl (q_d_geT h12) ?_
                exact q_Ru_thr rfl rfl
              show q_RP _ _ _ (23, [(0, .ref 64), (1, .int a1), (2, .int a2), (3, .ref 236)], [], (q_kX s (c + 1) (n + 6))) _ _
              refine q_RP_seg (g2 := (24, [(0, .ref 64), (1, .int a1), (2, .int a2), (3, .ref 236)], [.int 3], (q_kX s (c + 1) (n + 6)))) 1 (fun _ _ => rfl) ?_
              exact q_RP_ret rfl rfl rfl
            | false =>
              refine q_RP_cF ?_
              generalize er2 : dz_X184_98 s 4 a1 a2 0 = r2
              refine q_RP_let ?_
              refine q_RP_bd fun r3 er3 => ?_
              refine q_RP_call (v := (some (.int r3.2))) (h2 := (q_kX (q_pt 32 3 1 73 r2 r3.1) c n)) rfl rfl ?_ ?_
              · refine q_Ca_of (Nat.le_of_ble_eq_true rfl) ?_
                refine q_Ru_seg (g2 := (2, [(0, .ref 64), (1, .int a1), (2, .int a2)], [.int 5, .int a1], (q_kX s c n))) 2 (fun _ _ => rfl) ?_
                refine q_Ru_call (v := none) (h2 := (q_kX s c n)) rfl rfl ?_ ?_
                · refine q_Ca_of (Nat.le_of_ble_eq_true rfl) ?_
                  refine q_Ru_seg (g2 := (1, [(0, .int a1), (1, .int 5)], [.int a1], (q_kX s c n))) 1 (fun _ _ => rfl) ?_
                  refine q_Ru_rsF (g2 := (4, [(0, .int a1), (1, .int 5)], [], (q_kX s c n))) rfl rfl h7 ?_
                  refine q_Ru_seg (g2 := (6, [(0, .int a1), (1, .int 5)], [.int 5, .int a1], (q_kX s c n))) 2 (fun _ _ => rfl) ?_
                  refine q_Ru_rsT (g2 := (19, [(0, .int a1), (1, .int 5)], [], (q_kX s c n))) rfl rfl h8 ?_
                  exact q_Ru_ret rfl rfl
                show q_Ru _ _ _ (5, [(0, .ref 64), (1, .int a1), (2, .int a2)], [], (q_kX s c n)) _
                refine q_Ru_seg (g2 := (9, [(0, .ref 64), (1, .int a1), (2, .int a2)], [.int 4, .int a1, .int 0, .int a2], (q_kX s c n))) 4 (fun _ _ => rfl) ?_
                refine q_Ru_rsF (g2 := (12, [(0, .ref 64), (1, .int a1), (2, .int a2)], [.int 0, .int a2], (q_kX s c n))) rfl rfl (q_d_neT h9) ?_
                refine q_Ru_seg (g2 := (21, [(0, .ref 64), (1, .int a1), (2, .int a2)], [.int 4095, .int 0, .int a2], (q_kX s c n))) 2 (fun _ _ => rfl) ?_
                refine q_Ru_call (v := none) (h2 := (q_kX s c n)) rfl rfl ?_ ?_
                · refine q_Ca_of (Nat.le_of_ble_eq_true rfl) ?_
                  refine q_Ru_seg (g2 := (2, [(0, .int a2), (1, .int 0), (2, .int 4095)], [.int 0, .int a2], (q_kX s c n))) 2 (fun _ _ => rfl) ?_
                  refine q_Ru_rsF (g2 := (5, [(0, .int a2), (1, .int 0), (2, .int 4095)], [], (q_kX s c n))) rfl rfl h10 ?_
                  refine q_Ru_seg (g2 := (7, [(0, .int a2), (1, .int 0), (2, .int 4095)], [.int 4095, .int a2], (q_kX s c n))) 2 (fun _ _ => rfl) ?_
                  refine q_Ru_rsT (g2 := (20, [(0, .int a2), (1, .int 0), (2, .int 4095)], [], (q_kX s c n))) rfl rfl (q_d_geF h11) ?_
                  exact q_Ru_ret rfl rfl
                show q_Ru _ _ _ (24, [(0, .ref 64), (1, .int a1), (2, .int a2)], [], (q_kX s c n)) _
                refine q_Ru_seg (g2 := (34, [(0, .ref 64), (1, .int a1), (2, .int a2)], [.int (s.2.1 24 9)], (q_kX s c n))) 4 (fun _ _ => rfl) ?_
                refine q_Ru_rsT (g2 := (47, [(0, .ref 64), (1, .int a1), (2, .int a2)], [], (q_kX s c n))) rfl rfl (q_d_geF h12) ?_
                refine q_Ru_seg (g2 := (55, [(0, .ref 64), (1, .int a1), (2, .int a2)], [.int 0, .int a2, .int a1, .int 4, .ref 98], (q_kX s c n))) 6 (fun _ _ => rfl) ?_
                refine q_Ru_call (v := none) (h2 := (q_kX r2 c n)) rfl rfl ?_ ?_
                · exact (q_cE (φ := (q_oSX c n)) er2 (dzt_X184_98 z L xs s c n 4 a1 a2 0)).le (Nat.le_of_ble_eq_true rfl)
                show q_Ru _ _ _ (58, [(0, .ref 64), (1, .int a1), (2, .int a2)], [], (q_kX r2 c n)) _
                refine q_Ru_seg (g2 := (66, [(0, .ref 64), (1, .int a1), (2, .int a2)], [.int 0, .int a2, .int a1, .int 4, .ref 65], (q_kX r2 c n))) 6 (fun _ _ => rfl) ?_
                refine q_Ru_call (v := (some (.int r3.2))) (h2 := (q_kX (q_pt 32 3 1 73 r2 r3.1) c n)) rfl rfl ?_ ?_
                · exact (q_emNX_1 rfl (fun _ => rfl) ((dzt_N79_64 (q_vw 32 1 73 r2) c n 4 a1 a2 0 r3 er3).tb q_TB0_le)).le (Nat.le_of_ble_eq_true rfl)
                show q_Ru _ _ _ (69, [(0, .ref 64), (1, .int a1), (2, .int a2)], [.int r3.2], (q_kX (q_pt 32 3 1 73 r2 r3.1) c n)) _
                exact q_Ru_ret rfl rfl
              show q_RP _ _ _ (8, [(0, .ref 64), (1, .int a1), (2, .int a2), (3, .ref 236)], [.int r3.2, .int 0, .ref 236], (q_kX (q_pt 32 3 1 73 r2 r3.1) c n)) _ _
              refine q_RP_seg (g2 := (9, [(0, .ref 64), (1, .int a1), (2, .int a2), (3, .ref 236)], [.long r3.2.toInt64, .int 0, .ref 236], (q_kX (q_pt 32 3 1 73 r2 r3.1) c n))) 1 (fun _ _ => rfl) ?_
              refine q_RP_rsT (g2 := (10, [(0, .ref 64), (1, .int a1), (2, .int a2), (3, .ref 236)], [], (q_kX (q_sL (q_pt 32 3 1 73 r2 r3.1) 172 (vp_updL ((q_pt 32 3 1 73 r2 r3.1).2.2 172) 0 r3.2.toInt64)) c n))) rfl q_wX172 rfl ?_
              refine q_RP_seg (g2 := (26, [(0, .ref 64), (1, .int a1), (2, .int a2), (3, .ref 236)], [.int 0], (q_kX (q_sL (q_pt 32 3 1 73 r2 r3.1) 172 (vp_updL ((q_pt 32 3 1 73 r2 r3.1).2.2 172) 0 r3.2.toInt64)) c n))) 2 (fun _ _ => rfl) ?_
              exact q_RP_ret rfl rfl rfl
      | false =>
        refine q_RP_cF ?_
        cases h13 : decide (a2 < 0) with
        | true =>
          refine q_RP_cT ?_
          refine q_RP_callH (E := "java/lang/IllegalArgumentException") (tg := 19) (i := 4) (h2 := (q_kX s (c + 1) (n + 6))) rfl rfl ?_ rfl ?_
          · refine q_Ca_of (Nat.le_of_ble_eq_true rfl) ?_
            refine q_Ru_seg (g2 := (2, [(0, .ref 64), (1, .int a1), (2, .int a2)], [.int 5, .int a1], (q_kX s c n))) 2 (fun _ _ => rfl) ?_
            refine q_Ru_call (v := none) (h2 := (q_kX s c n)) rfl rfl ?_ ?_
            · refine q_Ca_of (Nat.le_of_ble_eq_true rfl) ?_
              refine q_Ru_seg (g2 := (1, [(0, .int a1), (1, .int 5)], [.int a1], (q_kX s c n))) 1 (fun _ _ => rfl) ?_
              refine q_Ru_rsF (g2 := (4, [(0, .int a1), (1, .int 5)], [], (q_kX s c n))) rfl rfl h7 ?_
              refine q_Ru_seg (g2 := (6, [(0, .int a1), (1, .int 5)], [.int 5, .int a1], (q_kX s c n))) 2 (fun _ _ => rfl) ?_
              refine q_Ru_rsT (g2 := (19, [(0, .int a1), (1, .int 5)], [], (q_kX s c n))) rfl rfl h8 ?_
              exact q_Ru_ret rfl rfl
            show q_Ru _ _ _ (5, [(0, .ref 64), (1, .int a1), (2, .int a2)], [], (q_kX s c n)) _
            refine q_Ru_seg (g2 := (9, [(0, .ref 64), (1, .int a1), (2, .int a2)], [.int 4, .int a1, .int 0, .int a2], (q_kX s c n))) 4 (fun _ _ => rfl) ?_
            refine q_Ru_rsT (g2 := (18, [(0, .ref 64), (1, .int a1), (2, .int a2)], [.int 0, .int a2], (q_kX s c n))) rfl rfl (q_d_neF h9) ?_
            refine q_Ru_seg (g2 := (21, [(0, .ref 64), (1, .int a1), (2, .int a2)], [.int 255, .int 0, .int a2], (q_kX s c n))) 1 (fun _ _ => rfl) ?_
            refine q_Ru_callX (E := "java/lang/IllegalArgumentException") (h2 := (q_kX s (c + 1) (n + 6))) rfl rfl ?_
            refine q_Ca_of (Nat.le_of_ble_eq_true rfl) ?_
            refine q_Ru_seg (g2 := (2, [(0, .int a2), (1, .int 0), (2, .int 255)], [.int 0, .int a2], (q_kX s c n))) 2 (fun _ _ => rfl) ?_
            refine q_Ru_rsT (g2 := (10, [(0, .int a2), (1, .int 0), (2, .int 255)], [], (q_kX s c n))) rfl rfl h13 ?_
            exact q_Ru_thr rfl rfl
          show q_RP _ _ _ (19, [(0, .ref 64), (1, .int a1), (2, .int a2), (3, .ref 236)], [], (q_kX s (c + 1) (n + 6))) _ _
          refine q_RP_seg (g2 := (20, [(0, .ref 64), (1, .int a1), (2, .int a2), (3, .ref 236)], [.int 2], (q_kX s (c + 1) (n + 6)))) 1 (fun _ _ => rfl) ?_
          exact q_RP_ret rfl rfl rfl
        | false =>
          refine q_RP_cF ?_
          cases h14 : decide (255 < a2) with
          | true =>
            refine q_RP_cT ?_
            refine q_RP_callH (E := "java/lang/IllegalArgumentException") (tg := 19) (i := 4) (h2 := (q_kX s (c + 1) (n + 6))) rfl rfl ?_ rfl ?_
            · refine q_Ca_of (Nat.le_of_ble_eq_true rfl) ?_
              refine q_Ru_seg (g2 := (2, [(0, .ref 64), (1, .int a1), (2, .int a2)], [.int 5, .int a1], (q_kX s c n))) 2 (fun _ _ => rfl) ?_
              refine q_Ru_call (v := none) (h2 := (q_kX s c n)) rfl rfl ?_ ?_
              · refine q_Ca_of (Nat.le_of_ble_eq_true rfl) ?_
                refine q_Ru_seg (g2 := (1, [(0, .int a1), (1, .int 5)], [.int a1], (q_kX s c n))) 1 (fun _ _ => rfl) ?_
                refine q_Ru_rsF (g2 := (4, [(0, .int a1), (1, .int 5)], [], (q_kX s c n))) rfl rfl h7 ?_
                refine q_Ru_seg (g2 := (6, [(0, .int a1), (1, .int 5)], [.int 5, .int a1], (q_kX s c n))) 2 (fun _ _ => rfl) ?_
                refine q_Ru_rsT (g2 := (19, [(0, .int a1), (1, .int 5)], [], (q_kX s c n))) rfl rfl h8 ?_
                exact q_Ru_ret rfl rfl
              show q_Ru _ _ _ (5, [(0, .ref 64), (1, .int a1), (2, .int a2)], [], (q_kX s c n)) _
              refine q_Ru_seg (g2 := (9, [(0, .ref 64), (1, .int a1), (2, .int a2)], [.int 4, .int a1, .int 0, .int a2], (q_kX s c n))) 4 (fun _ _ => rfl) ?_
              refine q_Ru_rsT (g2 := (18, [(0, .ref 64), (1, .int a1), (2, .int a2)], [.int 0, .int a2], (q_kX s c n))) rfl rfl (q_d_neF h9) ?_
              refine q_Ru_seg (g2 := (21, [(0, .ref 64), (1, .int a1), (2, .int a2)], [.int 255, .int 0, .int a2], (q_kX s c n))) 1 (fun _ _ => rfl) ?_
              refine q_Ru_callX (E := "java/lang/IllegalArgumentException") (h2 := (q_kX s (c + 1) (n + 6))) rfl rfl ?_
              refine q_Ca_of (Nat.le_of_ble_eq_true rfl) ?_
              refine q_Ru_seg (g2 := (2, [(0, .int a2), (1, .int 0), (2, .int 255)], [.int 0, .int a2], (q_kX s c n))) 2 (fun _ _ => rfl) ?_
              refine q_Ru_rsF (g2 := (5, [(0, .int a2), (1, .int 0), (2, .int 255)], [], (q_kX s c n))) rfl rfl h13 ?_
              refine q_Ru_seg (g2 := (7, [(0, .int a2), (1, .int 0), (2, .int 255)], [.int 255, .int a2], (q_kX s c n))) 2 (fun _ _ => rfl) ?_
              refine q_Ru_rsF (g2 := (10, [(0, .int a2), (1, .int 0), (2, .int 255)], [], (q_kX s c n))) rfl rfl (q_d_geT h14) ?_
              exact q_Ru_thr rfl rfl
            show q_RP _ _ _ (19, [(0, .ref 64), (1, .int a1), (2, .int a2), (3, .ref 236)], [], (q_kX s (c + 1) (n + 6))) _ _
            refine q_RP_seg (g2 := (20, [(0, .ref 64), (1, .int a1), (2, .int a2), (3, .ref 236)], [.int 2], (q_kX s (c + 1) (n + 6)))) 1 (fun _ _ => rfl) ?_
            exact q_RP_ret rfl rfl rfl
          | false =>
            refine q_RP_cF ?_
            cases h15 : decide (0 < s.2.1 24 9) with
            | true =>
              refine q_RP_cT ?_
              refine q_RP_callH (E := "java/lang/IllegalStateException") (tg := 23) (i := 4) (h2 := (q_kX s (c + 1) (n + 6))) rfl rfl ?_ rfl ?_
              · refine q_Ca_of (Nat.le_of_ble_eq_true rfl) ?_
                refine q_Ru_seg (g2 := (2, [(0, .ref 64), (1, .int a1), (2, .int a2)], [.int 5, .int a1], (q_kX s c n))) 2 (fun _ _ => rfl) ?_
                refine q_Ru_call (v := none) (h2 := (q_kX s c n)) rfl rfl ?_ ?_
                · refine q_Ca_of (Nat.le_of_ble_eq_true rfl) ?_
                  refine q_Ru_seg (g2 := (1, [(0, .int a1), (1, .int 5)], [.int a1], (q_kX s c n))) 1 (fun _ _ => rfl) ?_
                  refine q_Ru_rsF (g2 := (4, [(0, .int a1), (1, .int 5)], [], (q_kX s c n))) rfl rfl h7 ?_
                  refine q_Ru_seg (g2 := (6, [(0, .int a1), (1, .int 5)], [.int 5, .int a1], (q_kX s c n))) 2 (fun _ _ => rfl) ?_
                  refine q_Ru_rsT (g2 := (19, [(0, .int a1), (1, .int 5)], [], (q_kX s c n))) rfl rfl h8 ?_
                  exact q_Ru_ret rfl rfl
                show q_Ru _ _ _ (5, [(0, .ref 64), (1, .int a1), (2, .int a2)], [], (q_kX s c n)) _
                refine q_Ru_seg (g2 := (9, [(0, .ref 64), (1, .int a1), (2, .int a2)], [.int 4, .int a1, .int 0, .int a2], (q_kX s c n))) 4 (fun _ _ => rfl) ?_
                refine q_Ru_rsT (g2 := (18, [(0, .ref 64), (1, .int a1), (2, .int a2)], [.int 0, .int a2], (q_kX s c n))) rfl rfl (q_d_neF h9) ?_
                refine q_Ru_seg (g2 := (21, [(0, .ref 64), (1, .int a1), (2, .int a2)], [.int 255, .int 0, .int a2], (q_kX s c n))) 1 (fun _ _ => rfl) ?_
                refine q_Ru_call (v := none) (h2 := (q_kX s c n)) rfl rfl ?_ ?_
                · refine q_Ca_of (Nat.le_of_ble_eq_true rfl) ?_
                  refine q_Ru_seg (g2 := (2, [(0, .int a2), (1, .int 0), (2, .int 255)], [.int 0, .int a2], (q_kX s c n))) 2 (fun _ _ => rfl) ?_
                  refine q_Ru_rsF (g2 := (5, [(0, .int a2), (1, .int 0), (2, .int 255)], [], (q_kX s c n))) rfl rfl h13 ?_
                  refine q_Ru_seg (g2 := (7, [(0, .int a2), (1, .int 0), (2, .int 255)], [.int 255, .int a2], (q_kX s c n))) 2 (fun _ _ => rfl) ?_
                  refine q_Ru_rsT (g2 := (20, [(0, .int a2), (1, .int 0), (2, .int 255)], [], (q_kX s c n))) rfl rfl (q_d_geF h14) ?_
                  exact q_Ru_ret rfl rfl
                show q_Ru _ _ _ (24, [(0, .ref 64), (1, .int a1), (2, .int a2)], [], (q_kX s c n)) _
                refine q_Ru_seg (g2 := (34, [(0, .ref 64), (1, .int a1), (2, .int a2)], [.int (s.2.1 24 9)], (q_kX s c n))) 4 (fun _ _ => rfl) ?_
                refine q_Ru_rsF (g2 := (37, [(0, .ref 64), (1, .int a1), (2, .int a2)], [], (q_kX s c n))) rfl rfl (q_d_geT h15) ?_
                exact q_Ru_thr rfl rfl
              show q_RP _ _ _ (23, [(0, .ref 64), (1, .int a1), (2, .int a2), (3, .ref 236)], [], (q_kX s (c + 1) (n + 6))) _ _
              refine q_RP_seg (g2 := (24, [(0, .ref 64), (1, .int a1), (2, .int a2), (3, .ref 236)], [.int 3], (q_kX s (c + 1) (n + 6)))) 1 (fun _ _ => rfl) ?_
              exact q_RP_ret rfl rfl rfl
            | false =>
              refine q_RP_cF ?_
              generalize er4 : dz_X184_98 s 4 a1 a2 0 = r4
              refine q_RP_let ?_
              refine q_RP_bd fun r5 er5 => ?_
              refine q_RP_call (v := (some (.int r5.2))) (h2 := (q_kX (q_pt 32 3 1 73 r4 r5.1) c n)) rfl rfl ?_ ?_
              · refine q_Ca_of (Nat.le_of_ble_eq_true rfl) ?_
                refine q_Ru_seg (g2 := (2, [(0, .ref 64), (1, .int a1), (2, .int a2)], [.int 5, .int a1], (q_kX s c n))) 2 (fun _ _ => rfl) ?_
                refine q_Ru_call (v := none) (h2 := (q_kX s c n)) rfl rfl ?_ ?_
                · refine q_Ca_of (Nat.le_of_ble_eq_true rfl) ?_
                  refine q_Ru_seg (g2 := (1, [(0, .int a1), (1, .int 5)], [.int a1], (q_kX s c n))) 1 (fun _ _ => rfl) ?_
                  refine q_Ru_rsF (g2 := (4, [(0, .int a1), (1, .int 5)], [], (q_kX s c n))) rfl rfl h7 ?_
                  refine q_Ru_seg (g2 := (6, [(0, .int a1), (1, .int 5)], [.int 5, .int a1], (q_kX s c n))) 2 (fun _ _ => rfl) ?_
                  refine q_Ru_rsT (g2 := (19, [(0, .int a1), (1, .int 5)], [], (q_kX s c n))) rfl rfl h8 ?_
                  exact q_Ru_ret rfl rfl
                show q_Ru _ _ _ (5, [(0, .ref 64), (1, .int a1), (2, .int a2)], [], (q_kX s c n)) _
                refine q_Ru_seg (g2 := (9, [(0, .ref 64), (1, .int a1), (2, .int a2)], [.int 4, .int a1, .int 0, .int a2], (q_kX s c n))) 4 (fun _ _ => rfl) ?_
                refine q_Ru_rsT (g2 := (18, [(0, .ref 64), (1, .int a1), (2, .int a2)], [.int 0, .int a2], (q_kX s c n))) rfl rfl (q_d_neF h9) ?_
                refine q_Ru_seg (g2 := (21, [(0, .ref 64), (1, .int a1), (2, .int a2)], [.int 255, .int 0, .int a2], (q_kX s c n))) 1 (fun _ _ => rfl) ?_
                refine q_Ru_call (v := none) (h2 := (q_kX s c n)) rfl rfl ?_ ?_
                · refine q_Ca_of (Nat.le_of_ble_eq_true rfl) ?_
                  refine q_Ru_seg (g2 := (2, [(0, .int a2), (1, .int 0), (2, .int 255)], [.int 0, .int a2], (q_kX s c n))) 2 (fun _ _ => rfl) ?_
                  refine q_Ru_rsF (g2 := (5, [(0, .int a2), (1, .int 0), (2, .int 255)], [], (q_kX s c n))) rfl rfl h13 ?_
                  refine q_Ru_seg (g2 := (7, [(0, .int a2), (1, .int 0), (2, .int 255)], [.int 255, .int a2], (q_kX s c n))) 2 (fun _ _ => rfl) ?_
                  refine q_Ru_rsT (g2 := (20, [(0, .int a2), (1, .int 0), (2, .int 255)], [], (q_kX s c n))) rfl rfl (q_d_geF h14) ?_
                  exact q_Ru_ret rfl rfl
                show q_Ru _ _ _ (24, [(0, .ref 64), (1, .int a1), (2, .int a2)], [], (q_kX s c n)) _
                refine q_Ru_seg (g2 := (34, [(0, .ref 64), (1, .int a1), (2, .int a2)], [.int (s.2.1 24 9)], (q_kX s c n))) 4 (fun _ _ => rfl) ?_
                refine q_Ru_rsT (g2 := (47, [(0, .ref 64), (1, .int a1), (2, .int a2)], [], (q_kX s c n))) rfl rfl (q_d_geF h15) ?_
                refine q_Ru_seg (g2 := (55, [(0, .ref 64), (1, .int a1), (2, .int a2)], [.int 0, .int a2, .int a1, .int 4, .ref 98], (q_kX s c n))) 6 (fun _ _ => rfl) ?_
                refine q_Ru_call (v := none) (h2 := (q_kX r4 c n)) rfl rfl ?_ ?_
                · exact (q_cE (φ := (q_oSX c n)) er4 (dzt_X184_98 z L xs s c n 4 a1 a2 0)).le (Nat.le_of_ble_eq_true rfl)
                show q_Ru _ _ _ (58, [(0, .ref 64), (1, .int a1), (2, .int a2)], [], (q_kX r4 c n)) _
                refine q_Ru_seg (g2 := (66, [(0, .ref 64), (1, .int a1), (2, .int a2)], [.int 0, .int a2, .int a1, .int 4, .ref 65], (q_kX r4 c n))) 6 (fun _ _ => rfl) ?_
                refine q_Ru_call (v := (some (.int r5.2))) (h2 := (q_kX (q_pt 32 3 1 73 r4 r5.1) c n)) rfl rfl ?_ ?_
                · exact (q_emNX_1 rfl (fun _ => rfl) ((dzt_N79_64 (q_vw 32 1 73 r4) c n 4 a1 a2 0 r5 er5).tb q_TB0_le)).le (Nat.le_of_ble_eq_true rfl)
                show q_Ru _ _ _ (69, [(0, .ref 64), (1, .int a1), (2, .int a2)], [.int r5.2], (q_kX (q_pt 32 3 1 73 r4 r5.1) c n)) _
                exact q_Ru_ret rfl rfl
              show q_RP _ _ _ (8, [(0, .ref 64), (1, .int a1), (2, .int a2), (3, .ref 236)], [.int r5.2, .int 0, .ref 236], (q_kX (q_pt 32 3 1 73 r4 r5.1) c n)) _ _
              refine q_RP_seg (g2 := (9, [(0, .ref 64), (1, .int a1), (2, .int a2), (3, .ref 236)], [.long r5.2.toInt64, .int 0, .ref 236], (q_kX (q_pt 32 3 1 73 r4 r5.1) c n))) 1 (fun _ _ => rfl) ?_
              refine q_RP_rsT (g2 := (10, [(0, .ref 64), (1, .int a1), (2, .int a2), (3, .ref 236)], [], (q_kX (q_sL (q_pt 32 3 1 73 r4 r5.1) 172 (vp_updL ((q_pt 32 3 1 73 r4 r5.1).2.2 172) 0 r5.2.toInt64)) c n))) rfl q_wX172 rfl ?_
              refine q_RP_seg (g2 := (26, [(0, .ref 64), (1, .int a1), (2, .int a2), (3, .ref 236)], [.int 0], (q_kX (q_sL (q_pt 32 3 1 73 r4 r5.1) 172 (vp_updL ((q_pt 32 3 1 73 r4 r5.1).2.2 172) 0 r5.2.toInt64)) c n))) 2 (fun _ _ => rfl) ?_
              exact q_RP_ret rfl rfl rfl
    | false =>
      refine q_RP_cF ?_
      refine q_RP_callH (E := "java/lang/IndexOutOfBoundsException") (tg := 15) (i := 4) (h2 := (q_kX s (c + 1) (n + 6))) rfl rfl ?_ rfl ?_
      · refine q_Ca_of (Nat.le_of_ble_eq_true rfl) ?_
        refine q_Ru_seg (g2 := (2, [(0, .ref 64), (1, .int a1), (2, .int a2)], [.int 5, .int a1], (q_kX s c n))) 2 (fun _ _ => rfl) ?_
        refine q_Ru_callX (E := "java/lang/IndexOutOfBoundsException") (h2 := (q_kX s (c + 1) (n + 6))) rfl rfl ?_
        refine q_Ca_of (Nat.le_of_ble_eq_true rfl) ?_
        refine q_Ru_seg (g2 := (1, [(0, .int a1), (1, .int 5)], [.int a1], (q_kX s c n))) 1 (fun _ _ => rfl) ?_
        refine q_Ru_rsF (g2 := (4, [(0, .int a1), (1, .int 5)], [], (q_kX s c n))) rfl rfl h7 ?_
        refine q_Ru_seg (g2 := (6, [(0, .int a1), (1, .int 5)], [.int 5, .int a1], (q_kX s c n))) 2 (fun _ _ => rfl) ?_
        refine q_Ru_rsF (g2 := (9, [(0, .int a1), (1, .int 5)], [], (q_kX s c n))) rfl rfl h8 ?_
        exact q_Ru_thr rfl rfl
      show q_RP _ _ _ (15, [(0, .ref 64), (1, .int a1), (2, .int a2), (3, .ref 236)], [], (q_kX s (c + 1) (n + 6))) _ _
      refine q_RP_seg (g2 := (16, [(0, .ref 64), (1, .int a1), (2, .int a2), (3, .ref 236)], [.int 1], (q_kX s (c + 1) (n + 6)))) 1 (fun _ _ => rfl) ?_
      exact q_RP_ret rfl rfl rfl
def dz_X11_64_236 (s : q_S) (a1 : Int32) : Option (q_S × Int32 × Nat) :=
  cond (decide (a1 < 1)) (some (s, 1, 1)) (cond (decide (1000 < a1)) (some (s, 1, 1)) (q_let (dz_X184_98 s 7 a1 0 0) fun r2 => (dz_N79_64 (q_vw 32 1 73 r2) 7 a1 0 0).bind fun r3 => some ((q_sL (q_pt 32 3 1 73 r2 r3.1) 172 (vp_updL ((q_pt 32 3 1 73 r2 r3.1).2.2 172) 0 r3.2.toInt64)), 0, 0)))
set_option maxHeartbeats 4000000 in
theorem dzt_X11_64_236 (z L : Nat) (xs : Nat → Int32) (s : q_S) (c n : Nat) (a1 : Int32) (x : q_S × Int32 × Nat) (h : dz_X11_64_236 s a1 = some x) : q_Ca (q_TBs z L xs) 10 11 [.ref 64, .int a1, .ref 236] (q_kX s c n) ((q_oEX c n) x) := by
  refine q_CaP_of (φ := (q_oEX c n)) (Nat.le_of_ble_eq_true rfl) ?_ h
  clear h
  unfold dz_X11_64_236
  refine q_RP_seg (g2 := (4, [(0, .ref 64), (1, .int a1), (2, .ref 236)], [.int a1, .ref 64, .int 0, .ref 236], (q_kX s c n))) 4 (fun _ _ => rfl) ?_
  cases h3 : decide (a1 < 1) with
  | true =>
    refine q_RP_cT ?_
    refine q_RP_callH (E := "java/lang/IllegalArgumentException") (tg := 13) (i := 3) (h2 := (q_kX s (c + 1) (n + 6))) rfl rfl ?_ rfl ?_
    · refine q_Ca_of (Nat.le_of_ble_eq_true rfl) ?_
      refine q_Ru_seg (g2 := (5, [(0, .ref 64), (1, .int a1)], [.int 1000, .int 1, .int a1], (q_kX s c n))) 3 (fun _ _ => rfl) ?_
      refine q_Ru_callX (E := "java/lang/IllegalArgumentException") (h2 := (q_kX s (c + 1) (n + 6))) rfl rfl ?_
      refine q_Ca_of (Nat.le_of_ble_eq_true rfl) ?_
      refine q_Ru_seg (g2 := (2, [(0, .int a1), (1, .int 1), (2, .int 1000)], [.int 1, .int a1], (q_kX s c n))) 2 (fun _ _ => rfl) ?_
      refine q_Ru_rsT (g2 := (10, [(0, .int a1), (1, .int 1), (2, .int 1000)], [], (q_kX s c n))) rfl rfl h3 ?_
      exact q_Ru_thr rfl rfl
    show q_RP _ _ _ (13, [(0, .ref 64), (1, .int a1), (2, .ref 236)], [], (q_kX s (c + 1) (n + 6))) _ _
    refine q_RP_seg (g2 := (14, [(0, .ref 64), (1, .int a1), (2, .ref 236)], [.int 1], (q_kX s (c + 1) (n + 6)))) 1 (fun _ _ => rfl) ?_
    exact q_RP_ret rfl rfl rfl
  | false =>
    refine q_RP_cF ?_
    cases h4 : decide (1000 < a1) with
    | true =>
      refine q_RP_cT ?_
      refine q_RP_callH (E := "java/lang/IllegalArgumentException") (tg := 13) (i := 3) (h2 := (q_kX s (c + 1) (n + 6))) rfl rfl ?_ rfl ?_
      · refine q_Ca_of (Nat.le_of_ble_eq_true rfl) ?_
        refine q_Ru_seg (g2 := (5, [(0, .ref 64), (1, .int a1)], [.int 1000, .int 1, .int a1], (q_kX s c n))) 3 (fun _ _ => rfl) ?_
        refine q_Ru_callX (E := "java/lang/IllegalArgumentException") (h2 := (q_kX s (c + 1) (n + 6))) rfl rfl ?_
        refine q_Ca_of (Nat.le_of_ble_eq_true rfl) ?_
        refine q_Ru_seg (g2 := (2, [(0, .int a1), (1, .int 1), (2, .int 1000)], [.int 1, .int a1], (q_kX s c n))) 2 (fun _ _ => rfl) ?_
        refine q_Ru_rsF (g2 := (5, [(0, .int a1), (1, .int 1), (2, .int 1000)], [], (q_kX s c n))) rfl rfl h3 ?_
        refine q_Ru_seg (g2 := (7, [(0, .int a1), (1, .int 1), (2, .int 1000)], [.int 1000, .int a1], (q_kX s c n))) 2 (fun _ _ => rfl) ?_
        refine q_Ru_rsF (g2 := (10, [(0, .int a1), (1, .int 1), (2, .int 1000)], [], (q_kX s c n))) rfl rfl (q_d_geT h4) ?_
        exact q_Ru_thr rfl rfl
      show q_RP _ _ _ (13, [(0, .ref 64), (1, .int a1), (2, .ref 236)], [], (q_kX s (c + 1) (n + 6))) _ _
      refine q_RP_seg (g2 := (14, [(0, .ref 64), (1, .int a1), (2, .ref 236)], [.int 1], (q_kX s (c + 1) (n + 6)))) 1 (fun _ _ => rfl) ?_
      exact q_RP_ret rfl rfl rfl
    | false =>
      refine q_RP_cF ?_
      generalize er2 : dz_X184_98 s 7 a1 0 0 = r2
      refine q_RP_let ?_
      refine q_RP_bd fun r3 er3 => ?_
      refine q_RP_call (v := (some (.int r3.2))) (h2 := (q_kX (q_pt 32 3 1 73 r2 r3.1) c n)) rfl rfl ?_ ?_
      · refine q_Ca_of (Nat.le_of_ble_eq_true rfl) ?_
        refine q_Ru_seg (g2 := (5, [(0, .ref 64), (1, .int a1)], [.int 1000, .int 1, .int a1], (q_kX s c n))) 3 (fun _ _ => rfl) ?_
        refine q_Ru_call (v := none) (h2 := (q_kX s c n)) rfl rfl ?_ ?_
        · refine q_Ca_of (Nat.le_of_ble_eq_true rfl) ?_
          refine q_Ru_seg (g2 := (2, [(0, .int a1), (1, .int 1), (2, .int 1000)], [.int 1, .int a1], (q_kX s c n))) 2 (fun _ _ => rfl) ?_
          refine q_Ru_rsF (g2 := (5, [(0, .int a1), (1, .int 1), (2, .int 1000)], [], (q_kX s c n))) rfl rfl h3 ?_
          refine q_Ru_seg (g2 := (7, [(0, .int a1), (1, .int 1), (2, .int 1000)], [.int 1000, .int a1], (q_kX s c n))) 2 (fun _ _ => rfl) ?_
          refine q_Ru_rsT (g2 := (20, [(0, .int a1), (1, .int 1), (2, .int 1000)], [], (q_kX s c n))) rfl rfl (q_d_geF h4) ?_
          exact q_Ru_ret rfl rfl
        show q_Ru _ _ _ (8, [(0, .ref 64), (1, .int a1)], [], (q_kX s c n)) _
        refine q_Ru_seg (g2 := (17, [(0, .ref 64), (1, .int a1)], [.int 0, .int 0, .int a1, .int 7, .ref 98], (q_kX s c n))) 6 (fun _ _ => rfl) ?_
        refine q_Ru_call (v := none) (h2 := (q_kX r2 c n)) rfl rfl ?_ ?_
        · exact (q_cE (φ := (q_oSX c n)) er2 (dzt_X184_98 z L xs s c n 7 a1 0 0)).le (Nat.le_of_ble_eq_true rfl)
        show q_Ru _ _ _ (20, [(0, .ref 64), (1, .int a1)], [], (q_kX r2 c n)) _
        refine q_Ru_seg (g2 := (29, [(0, .ref 64), (1, .int a1)], [.int 0, .int 0, .int a1, .int 7, .ref 65], (q_kX r2 c n))) 6 (fun _ _ => rfl) ?_
        refine q_Ru_call (v := (some (.int r3.2))) (h2 := (q_kX (q_pt 32 3 1 73 r2 r3.1) c n)) rfl rfl ?_ ?_
        · exact (q_emNX_1 rfl (fun _ => rfl) ((dzt_N79_64 (q_vw 32 1 73 r2) c n 7 a1 0 0 r3 er3).tb q_TB0_le)).le (Nat.le_of_ble_eq_true rfl)
        show q_Ru _ _ _ (32, [(0, .ref 64), (1, .int a1)], [.int r3.2], (q_kX (q_pt 32 3 1 73 r2 r3.1) c n)) _
        exact q_Ru_ret rfl rfl
      show q_RP _ _ _ (7, [(0, .ref 64), (1, .int a1), (2, .ref 236)], [.int r3.2, .int 0, .ref 236], (q_kX (q_pt 32 3 1 73 r2 r3.1) c n)) _ _
      refine q_RP_seg (g2 := (8, [(0, .ref 64), (1, .int a1), (2, .ref 236)], [.long r3.2.toInt64, .int 0, .ref 236], (q_kX (q_pt 32 3 1 73 r2 r3.1) c n))) 1 (fun _ _ => rfl) ?_
      refine q_RP_rsT (g2 := (9, [(0, .ref 64), (1, .int a1), (2, .ref 236)], [], (q_kX (q_sL (q_pt 32 3 1 73 r2 r3.1) 172 (vp_updL ((q_pt 32 3 1 73 r2 r3.1).2.2 172) 0 r3.2.toInt64)) c n))) rfl q_wX172 rfl ?_
      refine q_RP_seg (g2 := (16, [(0, .ref 64), (1, .int a1), (2, .ref 236)], [.int 0], (q_kX (q_sL (q_pt 32 3 1 73 r2 r3.1) 172 (vp_updL ((q_pt 32 3 1 73 r2 r3.1).2.2 172) 0 r3.2.toInt64)) c n))) 2 (fun _ _ => rfl) ?_
      exact q_RP_ret rfl rfl rfl
def dz_X12_64_236 (s : q_S) : Option (q_S × Int32 × Nat) :=
  cond (decide (s.2.1 24 7 = 0)) (q_let (dz_X184_98 s 8 0 0 0) fun r2 => (dz_N79_64 (q_vw 32 1 73 r2) 8 0 0 0).bind fun r3 => some ((q_sL (q_pt 32 3 1 73 r2 r3.1) 172 (vp_updL ((q_pt 32 3 1 73 r2 r3.1).2.2 172) 0 r3.2.toInt64)), 0, 0)) (some (s, 1, 1))
set_option maxHeartbeats 4000000 in
theorem dzt_X12_64_236 (z L : Nat) (xs : Nat → Int32) (s : q_S) (c n : Nat) (x : q_S × Int32 × Nat) (h : dz_X12_64_236 s = some x) : q_Ca (q_TBs z L xs) 10 12 [.ref 64, .ref 236] (q_kX s c n) ((q_oEX c n) x) := by
  refine q_CaP_of (φ := (q_oEX c n)) (Nat.le_of_ble_eq_true rfl) ?_ h
  clear h
  unfold dz_X12_64_236
  refine q_RP_seg (g2 := (3, [(0, .ref 64), (1, .ref 236)], [.ref 64, .int 0, .ref 236], (q_kX s c n))) 3 (fun _ _ => rfl) ?_
  cases h2 : decide (s.2.1 24 7 = 0) with
  | true =>
    refine q_RP_cT ?_
    generalize er2 : dz_X184_98 s 8 0 0 0 = r2
    refine q_RP_let ?_
    refine q_RP_bd fun r3 er3 => ?_
    refine q_RP_call (v := (some (.int r3.2))) (h2 := (q_kX (q_pt 32 3 1 73 r2 r3.1) c n)) rfl rfl ?_ ?_
    · refine q_Ca_of (Nat.le_of_ble_eq_true rfl) ?_
      refine q_Ru_seg (g2 := (10, [(0, .ref 64)], [.int (s.2.1 24 7)], (q_kX s c n))) 4 (fun _ _ => rfl) ?_
      refine q_Ru_rsT (g2 := (23, [(0, .ref 64)], [], (q_kX s c n))) rfl rfl h2 ?_
      refine q_Ru_seg (g2 := (32, [(0, .ref 64)], [.int 0, .int 0, .int 0, .int 8, .ref 98], (q_kX s c n))) 6 (fun _ _ => rfl) ?_
      refine q_Ru_call (v := none) (h2 := (q_kX r2 c n)) rfl rfl ?_ ?_
      · exact (q_cE (φ := (q_oSX c n)) er2 (dzt_X184_98 z L xs s c n 8 0 0 0)).le (Nat.le_of_ble_eq_true rfl)
      show q_Ru _ _ _ (35, [(0, .ref 64)], [], (q_kX r2 c n)) _
      refine q_Ru_seg (g2 := (44, [(0, .ref 64)], [.int 0, .int 0, .int 0, .int 8, .ref 65], (q_kX r2 c n))) 6 (fun _ _ => rfl) ?_
      refine q_Ru_call (v := (some (.int r3.2))) (h2 := (q_kX (q_pt 32 3 1 73 r2 r3.1) c n)) rfl rfl ?_ ?_
      · exact (q_emNX_1 rfl (fun _ => rfl) ((dzt_N79_64 (q_vw 32 1 73 r2) c n 8 0 0 0 r3 er3).tb q_TB0_le)).le (Nat.le_of_ble_eq_true rfl)
      show q_Ru _ _ _ (47, [(0, .ref 64)], [.int r3.2], (q_kX (q_pt 32 3 1 73 r2 r3.1) c n)) _
      exact q_Ru_ret rfl rfl
    show q_RP _ _ _ (6, [(0, .ref 64), (1, .ref 236)], [.int r3.2, .int 0, .ref 236], (q_kX (q_pt 32 3 1 73 r2 r3.1) c n)) _ _
    refine q_RP_seg (g2 := (7, [(0, .ref 64), (1, .ref 236)], [.long r3.2.toInt64, .int 0, .ref 236], (q_kX (q_pt 32 3 1 73 r2 r3.1) c n))) 1 (fun _ _ => rfl) ?_
    refine q_RP_rsT (g2 := (8, [(0, .ref 64), (1, .ref 236)], [], (q_kX (q_sL (q_pt 32 3 1 73 r2 r3.1) 172 (vp_updL ((q_pt 32 3 1 73 r2 r3.1).2.2 172) 0 r3.2.toInt64)) c n))) rfl q_wX172 rfl ?_
    refine q_RP_seg (g2 := (15, [(0, .ref 64), (1, .ref 236)], [.int 0], (q_kX (q_sL (q_pt 32 3 1 73 r2 r3.1) 172 (vp_updL ((q_pt 32 3 1 73 r2 r3.1).2.2 172) 0 r3.2.toInt64)) c n))) 2 (fun _ _ => rfl) ?_
    exact q_RP_ret rfl rfl rfl
  | false =>
    refine q_RP_cF ?_
    refine q_RP_callH (E := "java/lang/IllegalStateException") (tg := 12) (i := 2) (h2 := (q_kX s (c + 1) (n + 6))) rfl rfl ?_ rfl ?_
    · refine q_Ca_of (Nat.le_of_ble_eq_true rfl) ?_
      refine q_Ru_seg (g2 := (10, [(0, .ref 64)], [.int (s.2.1 24 7)], (q_kX s c n))) 4 (fun _ _ => rfl) ?_
      refine q_Ru_rsF (g2 := (13, [(0, .ref 64)], [], (q_kX s c n))) rfl rfl h2 ?_
      exact q_Ru_thr rfl rfl
    show q_RP _ _ _ (12, [(0, .ref 64), (1, .ref 236)], [], (q_kX s (c + 1) (n + 6))) _ _
    refine q_RP_seg (g2 := (13, [(0, .ref 64), (1, .ref 236)], [.int 1], (q_kX s (c + 1) (n + 6)))) 1 (fun _ _ => rfl) ?_
    exact q_RP_ret rfl rfl rfl
def dz_X13_64_236 (s : q_S) (a1 : Int32) : q_S × Int32 × Nat :=
  cond (decide (s.2.1 24 11 < 16)) (cond (decide (a1 < 0)) ((s, 1, 1)) (cond (decide (a1 < s.2.1 24 11)) (((q_sL s 172 (vp_updL (s.2.2 172) 0 (((s.1 25) (((((s.2.1 24 11) - 1) - a1) &&& 15).toNatClampNeg)).toInt64))), 0, 0)) ((s, 1, 1)))) (cond (decide (a1 < 0)) ((s, 1, 1)) (cond (decide (a1 < 16)) (((q_sL s 172 (vp_updL (s.2.2 172) 0 (((s.1 25) (((((s.2.1 24 11) - 1) - a1) &&& 15).toNatClampNeg)).toInt64))), 0, 0)) ((s, 1, 1))))
set_option maxHeartbeats 4000000 in
theorem dzt_X13_64_236 (z L : Nat) (xs : Nat → Int32) (s : q_S) (c n : Nat) (a1 : Int32) : q_Ca (q_TBs z L xs) 3 13 [.ref 64, .int a1, .ref 236] (q_kX s c n) ((q_oEX c n) (dz_X13_64_236 s a1)) := by
  refine q_CaT_of (φ := (q_oEX c n)) (Nat.le_of_ble_eq_true rfl) ?_
  unfold dz_X13_64_236
  refine q_RT_seg (g2 := (4, [(0, .ref 64), (1, .int a1), (2, .ref 236)], [.int a1, .ref 64, .int 0, .ref 236], (q_kX s c n))) 4 (fun _ _ => rfl) ?_
  cases h1 : decide (s.2.1 24 11 < 16) with
  | true =>
    refine q_RT_cT ?_
    cases h2 : decide (a1 < 0) with
    | true =>
      refine q_RT_cT ?_
      refine q_RT_callH (E := "java/lang/IndexOutOfBoundsException") (tg := 13) (i := 3) (h2 := (q_kX s (c + 1) (n + 6))) rfl rfl ?_ rfl ?_
      · refine q_Ca_of (Nat.le_of_ble_eq_true rfl) ?_
        refine q_Ru_seg (g2 := (15, [(2, .ref 88), (0, .ref 64), (1, .int a1)], [.int 16, .int (s.2.1 24 11), .int a1], (q_kX s c n))) 8 (fun _ _ => rfl) ?_
        refine q_Ru_rsF (g2 := (18, [(2, .ref 88), (0, .ref 64), (1, .int a1)], [.int a1], (q_kX s c n))) rfl rfl (q_d_geT h1) ?_
        refine q_Ru_seg (g2 := (27, [(2, .ref 88), (0, .ref 64), (1, .int a1)], [.int (s.2.1 24 11), .int a1], (q_kX s c n))) 3 (fun _ _ => rfl) ?_
        refine q_Ru_callX (E := "java/lang/IndexOutOfBoundsException") (h2 := (q_kX s (c + 1) (n + 6))) rfl rfl ?_
        refine q_Ca_of (Nat.le_of_ble_eq_true rfl) ?_
        refine q_Ru_seg (g2 := (1, [(0, .int a1), (1, .int (s.2.1 24 11))], [.int a1], (q_kX s c n))) 1 (fun _ _ => rfl) ?_
        refine q_Ru_rsT (g2 := (9, [(0, .int a1), (1, .int (s.2.1 24 11))], [], (q_kX s c n))) rfl rfl h2 ?_
        exact q_Ru_thr rfl rfl
      show q_RT _ _ _ (13, [(0, .ref 64), (1, .int a1), (2, .ref 236)], [], (q_kX s (c + 1) (n + 6))) _ _
      refine q_RT_seg (g2 := (14, [(0, .ref 64), (1, .int a1), (2, .ref 236)], [.int 1], (q_kX s (c + 1) (n + 6)))) 1 (fun _ _ => rfl) ?_
      exact q_RT_ret rfl rfl rfl
    | false =>
      refine q_RT_cF ?_
      cases h3 : decide (a1 < s.2.1 24 11) with
      | true =>
        refine q_RT_cT ?_
        refine q_RT_call (v := (some (.int ((s.1 25) (((((s.2.1 24 11) - 1) - a1) &&& 15).toNatClampNeg))))) (h2 := (q_kX s c n)) rfl rfl ?_ ?_
        · refine q_Ca_of (Nat.le_of_ble_eq_true rfl) ?_
          refine q_Ru_seg (g2 := (15, [(2, .ref 88), (0, .ref 64), (1, .int a1)], [.int 16, .int (s.2.1 24 11), .int a1], (q_kX s c n))) 8 (fun _ _ => rfl) ?_
          refine q_Ru_rsF (g2 := (18, [(2, .ref 88), (0, .ref 64), (1, .int a1)], [.int a1], (q_kX s c n))) rfl rfl (q_d_geT h1) ?_
          refine q_Ru_seg (g2 := (27, [(2, .ref 88), (0, .ref 64), (1, .int a1)], [.int (s.2.1 24 11), .int a1], (q_kX s c n))) 3 (fun _ _ => rfl) ?_
          refine q_Ru_call (v := none) (h2 := (q_kX s c n)) rfl rfl ?_ ?_
          · refine q_Ca_of (Nat.le_of_ble_eq_true rfl) ?_
            refine q_Ru_seg (g2 := (1, [(0, .int a1), (1, .int (s.2.1 24 11))], [.int a1], (q_kX s c n))) 1 (fun _ _ => rfl) ?_
            refine q_Ru_rsF (g2 := (4, [(0, .int a1), (1, .int (s.2.1 24 11))], [], (q_kX s c n))) rfl rfl h2 ?_
            refine q_Ru_seg (g2 := (6, [(0, .int a1), (1, .int (s.2.1 24 11))], [.int (s.2.1 24 11), .int a1], (q_kX s c n))) 2 (fun _ _ => rfl) ?_
            refine q_Ru_rsT (g2 := (19, [(0, .int a1), (1, .int (s.2.1 24 11))], [], (q_kX s c n))) rfl rfl h3 ?_
            exact q_Ru_ret rfl rfl
          show q_Ru _ _ _ (30, [(2, .ref 88), (0, .ref 64), (1, .int a1)], [], (q_kX s c n)) _
          refine q_Ru_seg (g2 := (45, [(2, .ref 88), (0, .ref 64), (1, .int a1)], [.int ((((s.2.1 24 11) - 1) - a1) &&& 15), .ref 89], (q_kX s c n))) 10 (fun _ _ => rfl) ?_
          refine q_Ru_rsT (g2 := (46, [(2, .ref 88), (0, .ref 64), (1, .int a1)], [.int ((s.1 25) (((((s.2.1 24 11) - 1) - a1) &&& 15).toNatClampNeg))], (q_kX s c n))) rfl rfl (q_in_bd (x := (((s.2.1 24 11) - 1) - a1) &&& 15) (n := 16) (U := 15) (L := 0) (q_and_lo (((s.2.1 24 11) - 1) - a1) 15) (q_and_hi (((s.2.1 24 11) - 1) - a1) 15 15)) ?_
          exact q_Ru_ret rfl rfl
        show q_RT _ _ _ (7, [(0, .ref 64), (1, .int a1), (2, .ref 236)], [.int ((s.1 25) (((((s.2.1 24 11) - 1) - a1) &&& 15).toNatClampNeg)), .int 0, .ref 236], (q_kX s c n)) _ _
        refine q_RT_seg (g2 := (8, [(0, .ref 64), (1, .int a1), (2, .ref 236)], [.long (((s.1 25) (((((s.2.1 24 11) - 1) - a1) &&& 15).toNatClampNeg)).toInt64), .int 0, .ref 236], (q_kX s c n))) 1 (fun _ _ => rfl) ?_
        refine q_RT_rsT (g2 := (9, [(0, .ref 64), (1, .int a1), (2, .ref 236)], [], (q_kX (q_sL s 172 (vp_updL (s.2.2 172) 0 (((s.1 25) (((((s.2.1 24 11) - 1) - a1) &&& 15).toNatClampNeg)).toInt64))) c n))) rfl q_wX172 rfl ?_
        refine q_RT_seg (g2 := (16, [(0, .ref 64), (1, .int a1), (2, .ref 236)], [.int 0], (q_kX (q_sL s 172 (vp_updL (s.2.2 172) 0 (((s.1 25) (((((s.2.1 24 11) - 1) - a1) &&& 15).toNatClampNeg)).toInt64))) c n))) 2 (fun _ _ => rfl) ?_
        exact q_RT_ret rfl rfl rfl
      | false =>
        refine q_RT_cF ?_
        refine q_RT_callH (E := "java/lang/IndexOutOfBoundsException") (tg := 13) (i := 3) (h2 := (q_kX s (c + 1) (n + 6))) rfl rfl ?_ rfl ?_
        · refine q_Ca_of (Nat.le_of_ble_eq_true rfl) ?_
          refine q_Ru_seg (g2 := (15, [(2, .ref 88), (0, .ref 64), (1, .int a1)], [.int 16, .int (s.2.1 24 11), .int a1], (q_kX s c n))) 8 (fun _ _ => rfl) ?_
          refine q_Ru_rsF (g2 := (18, [(2, .ref 88), (0, .ref 64), (1, .int a1)], [.int a1], (q_kX s c n))) rfl rfl (q_d_geT h1) ?_
          refine q_Ru_seg (g2 := (27, [(2, .ref 88), (0, .ref 64), (1, .int a1)], [.int (s.2.1 24 11), .int a1], (q_kX s c n))) 3 (fun _ _ => rfl) ?_
          refine q_Ru_callX (E := "java/lang/IndexOutOfBoundsException") (h2 := (q_kX s (c + 1) (n + 6))) rfl rfl ?_
          refine q_Ca_of (Nat.le_of_ble_eq_true rfl) ?_
          refine q_Ru_seg (g2 := (1, [(0, .int a1), (1, .int (s.2.1 24 11))], [.int a1], (q_kX s c n))) 1 (fun _ _ => rfl) ?_
          refine q_Ru_rsF (g2 := (4, [(0, .int a1), (1, .int (s.2.1 24 11))], [], (q_kX s c n))) rfl rfl h2 ?_
          refine q_Ru_seg (g2 := (6, [(0, .int a1), (1, .int (s.2.1 24 11))], [.int (s.2.1 24 11), .int a1], (q_kX s c n))) 2 (fun _ _ => rfl) ?_
          refine q_Ru_rsF (g2 := (9, [(0, .int a1), (1, .int (s.2.1 24 11))], [], (q_kX s c n))) rfl rfl h3 ?_
          exact q_Ru_thr rfl rfl
        show q_RT _ _ _ (13, [(0, .ref 64), (1, .int a1), (2, .ref 236)], [], (q_kX s (c + 1) (n + 6))) _ _
        refine q_RT_seg (g2 := (14, [(0, .ref 64), (1, .int a1), (2, .ref 236)], [.int 1], (q_kX s (c + 1) (n + 6)))) 1 (fun _ _ => rfl) ?_
        exact q_RT_ret rfl rfl rfl
  | false =>
    refine q_RT_cF ?_
    cases h4 : decide (a1 < 0) with
    | true =>
      refine q_RT_cT ?_
      refine q_RT_callH (E := "java/lang/IndexOutOfBoundsException") (tg := 13) (i := 3) (h2 := (q_kX s (c + 1) (n + 6))) rfl rfl ?_ rfl ?_
      · refine q_Ca_of (Nat.le_of_ble_eq_true rfl) ?_
        refine q_Ru_seg (g2 := (15, [(2, .ref 88), (0, .ref 64), (1, .int a1)], [.int 16, .int (s.2.1 24 11), .int a1], (q_kX s c n))) 8 (fun _ _ => rfl) ?_
        refine q_Ru_rsT (g2 := (25, [(2, .ref 88), (0, .ref 64), (1, .int a1)], [.int a1], (q_kX s c n))) rfl rfl (q_d_geF h1) ?_
        refine q_Ru_seg (g2 := (27, [(2, .ref 88), (0, .ref 64), (1, .int a1)], [.int 16, .int a1], (q_kX s c n))) 1 (fun _ _ => rfl) ?_
        refine q_Ru_callX (E := "java/lang/IndexOutOfBoundsException") (h2 := (q_kX s (c + 1) (n + 6))) rfl rfl ?_
        refine q_Ca_of (Nat.le_of_ble_eq_true rfl) ?_
        refine q_Ru_seg (g2 := (1, [(0, .int a1), (1, .int 16)], [.int a1], (q_kX s c n))) 1 (fun _ _ => rfl) ?_
        refine q_Ru_rsT (g2 := (9, [(0, .int a1), (1, .int 16)], [], (q_kX s c n))) rfl rfl h4 ?_
        exact q_Ru_thr rfl rfl
      show q_RT _ _ _ (13, [(0, .ref 64), (1, .int a1), (2, .ref 236)], [], (q_kX s (c + 1) (n + 6))) _ _
      refine q_RT_seg (g2 := (14, [(0, .ref 64), (1, .int a1), (2, .ref 236)], [.int 1], (q_kX s (c + 1) (n + 6)))) 1 (fun _ _ => rfl) ?_
      exact q_RT_ret rfl rfl rfl
    | false =>
      refine q_RT_cF ?_
      cases h5 : decide (a1 < 16) with
      | true =>
        refine q_RT_cT ?_
        refine q_RT_call (v := (some (.int ((s.1 25) (((((s.2.1 24 11) - 1) - a1) &&& 15).toNatClampNeg))))) (h2 := (q_kX s c n)) rfl rfl ?_ ?_
        · refine q_Ca_of (Nat.le_of_ble_eq_true rfl) ?_
          refine q_Ru_seg (g2 := (15, [(2, .ref 88), (0, .ref 64), (1, .int a1)], [.int 16, .int (s.2.1 24 11), .int a1], (q_kX s c n))) 8 (fun _ _ => rfl) ?_
          refine q_Ru_rsT (g2 := (25, [(2, .ref 88), (0, .ref 64), (1, .int a1)], [.int a1], (q_kX s c n))) rfl rfl (q_d_geF h1) ?_
          refine q_Ru_seg (g2 := (27, [(2, .ref 88), (0, .ref 64), (1, .int a1)], [.int 16, .int a1], (q_kX s c n))) 1 (fun _ _ => rfl) ?_
          refine q_Ru_call (v := none) (h2 := (q_kX s c n)) rfl rfl ?_ ?_
          · refine q_Ca_of (Nat.le_of_ble_eq_true rfl) ?_
            refine q_Ru_seg (g2 := (1, [(0, .int a1), (1, .int 16)], [.int a1], (q_kX s c n))) 1 (fun _ _ => rfl) ?_
            refine q_Ru_rsF (g2 := (4, [(0, .int a1), (1, .int 16)], [], (q_kX s c n))) rfl rfl h4 ?_
            refine q_Ru_seg (g2 := (6, [(0, .int a1), (1, .int 16)], [.int 16, .int a1], (q_kX s c n))) 2 (fun _ _ => rfl) ?_
            refine q_Ru_rsT (g2 := (19, [(0, .int a1), (1, .int 16)], [], (q_kX s c n))) rfl rfl h5 ?_
            exact q_Ru_ret rfl rfl
          show q_Ru _ _ _ (30, [(2, .ref 88), (0, .ref 64), (1, .int a1)], [], (q_kX s c n)) _
          refine q_Ru_seg (g2 := (45, [(2, .ref 88), (0, .ref 64), (1, .int a1)], [.int ((((s.2.1 24 11) - 1) - a1) &&& 15), .ref 89], (q_kX s c n))) 10 (fun _ _ => rfl) ?_
          refine q_Ru_rsT (g2 := (46, [(2, .ref 88), (0, .ref 64), (1, .int a1)], [.int ((s.1 25) (((((s.2.1 24 11) - 1) - a1) &&& 15).toNatClampNeg))], (q_kX s c n))) rfl rfl (q_in_bd (x := (((s.2.1 24 11) - 1) - a1) &&& 15) (n := 16) (U := 15) (L := 0) (q_and_lo (((s.2.1 24 11) - 1) - a1) 15) (q_and_hi (((s.2.1 24 11) - 1) - a1) 15 15)) ?_
          exact q_Ru_ret rfl rfl
        show q_RT _ _ _ (7, [(0, .ref 64), (1, .int a1), (2, .ref 236)], [.int ((s.1 25) (((((s.2.1 24 11) - 1) - a1) &&& 15).toNatClampNeg)), .int 0, .ref 236], (q_kX s c n)) _ _
        refine q_RT_seg (g2 := (8, [(0, .ref 64), (1, .int a1), (2, .ref 236)], [.long (((s.1 25) (((((s.2.1 24 11) - 1) - a1) &&& 15).toNatClampNeg)).toInt64), .int 0, .ref 236], (q_kX s c n))) 1 (fun _ _ => rfl) ?_
        refine q_RT_rsT (g2 := (9, [(0, .ref 64), (1, .int a1), (2, .ref 236)], [], (q_kX (q_sL s 172 (vp_updL (s.2.2 172) 0 (((s.1 25) (((((s.2.1 24 11) - 1) - a1) &&& 15).toNatClampNeg)).toInt64))) c n))) rfl q_wX172 rfl ?_
        refine q_RT_seg (g2 := (16, [(0, .ref 64), (1, .int a1), (2, .ref 236)], [.int 0], (q_kX (q_sL s 172 (vp_updL (s.2.2 172) 0 (((s.1 25) (((((s.2.1 24 11) - 1) - a1) &&& 15).toNatClampNeg)).toInt64))) c n))) 2 (fun _ _ => rfl) ?_
        exact q_RT_ret rfl rfl rfl
      | false =>
        refine q_RT_cF ?_
        refine q_RT_callH (E := "java/lang/IndexOutOfBoundsException") (tg := 13) (i := 3) (h2 := (q_kX s (c + 1) (n + 6))) rfl rfl ?_ rfl ?_
        · refine q_Ca_of (Nat.le_of_ble_eq_true rfl) ?_
          refine q_Ru_seg (g2 := (15, [(2, .ref 88), (0, .ref 64), (1, .int a1)], [.int 16, .int (s.2.1 24 11), .int a1], (q_kX s c n))) 8 (fun _ _ => rfl) ?_
          refine q_Ru_rsT (g2 := (25, [(2, .ref 88), (0, .ref 64), (1, .int a1)], [.int a1], (q_kX s c n))) rfl rfl (q_d_geF h1) ?_
          refine q_Ru_seg (g2 := (27, [(2, .ref 88), (0, .ref 64), (1, .int a1)], [.int 16, .int a1], (q_kX s c n))) 1 (fun _ _ => rfl) ?_
          refine q_Ru_callX (E := "java/lang/IndexOutOfBoundsException") (h2 := (q_kX s (c + 1) (n + 6))) rfl rfl ?_
          refine q_Ca_of (Nat.le_of_ble_eq_true rfl) ?_
          refine q_Ru_seg (g2 := (1, [(0, .int a1), (1, .int 16)], [.int a1], (q_kX s c n))) 1 (fun _ _ => rfl) ?_
          refine q_Ru_rsF (g2 := (4, [(0, .int a1), (1, .int 16)], [], (q_kX s c n))) rfl rfl h4 ?_
          refine q_Ru_seg (g2 := (6, [(0, .int a1), (1, .int 16)], [.int 16, .int a1], (q_kX s c n))) 2 (fun _ _ => rfl) ?_
          refine q_Ru_rsF (g2 := (9, [(0, .int a1), (1, .int 16)], [], (q_kX s c n))) rfl rfl h5 ?_
          exact q_Ru_thr rfl rfl
        show q_RT _ _ _ (13, [(0, .ref 64), (1, .int a1), (2, .ref 236)], [], (q_kX s (c + 1) (n + 6))) _ _
        refine q_RT_seg (g2 := (14, [(0, .ref 64), (1, .int a1), (2, .ref 236)], [.int 1], (q_kX s (c + 1) (n + 6)))) 1 (fun _ _ => rfl) ?_
        exact q_RT_ret rfl rfl rfl
def dz_X14_64_236 (s : q_S) (a1 : Int32) (a2 : Int32) : q_S × Int32 × Nat :=
  cond (decide (a1 < 0)) ((s, 1, 1)) (cond (decide (a1 < 32)) (cond (decide (a2 < 0)) ((s, 1, 1)) (cond (decide (a2 < 32)) (((q_sL s 172 (vp_updL (s.2.2 172) 0 (((s.1 32) ((((32 * a2) + a1) &&& 1023).toNatClampNeg)).toInt64))), 0, 0)) ((s, 1, 1)))) ((s, 1, 1)))
set_option maxHeartbeats 4000000 in
theorem dzt_X14_64_236 (z L : Nat) (xs : Nat → Int32) (s : q_S) (c n : Nat) (a1 : Int32) (a2 : Int32) : q_Ca (q_TBs z L xs) 3 14 [.ref 64, .int a1, .int a2, .ref 236] (q_kX s c n) ((q_oEX c n) (dz_X14_64_236 s a1 a2)) := by
  refine q_CaT_of (φ := (q_oEX c n)) (Nat.le_of_ble_eq_true rfl) ?_
  unfold dz_X14_64_236
  refine q_RT_seg (g2 := (5, [(0, .ref 64), (1, .int a1), (2, .int a2), (3, .ref 236)], [.int a2, .int a1, .ref 64, .int 0, .ref 236], (q_kX s c n))) 5 (fun _ _ => rfl) ?_
  cases h1 : decide (a1 < 0) with
  | true =>
    refine q_RT_cT ?_
    refine q_RT_callH (E := "java/lang/IndexOutOfBoundsException") (tg := 15) (i := 4) (h2 := (q_kX s (c + 1) (n + 6))) rfl rfl ?_ rfl ?_
    · refine q_Ca_of (Nat.le_of_ble_eq_true rfl) ?_
      refine q_Ru_seg (g2 := (3, [(0, .ref 64), (1, .int a1), (2, .int a2)], [.int 32, .int a1], (q_kX s c n))) 2 (fun _ _ => rfl) ?_
      refine q_Ru_callX (E := "java/lang/IndexOutOfBoundsException") (h2 := (q_kX s (c + 1) (n + 6))) rfl rfl ?_
      refine q_Ca_of (Nat.le_of_ble_eq_true rfl) ?_
      refine q_Ru_seg (g2 := (1, [(0, .int a1), (1, .int 32)], [.int a1], (q_kX s c n))) 1 (fun _ _ => rfl) ?_
      refine q_Ru_rsT (g2 := (9, [(0, .int a1), (1, .int 32)], [], (q_kX s c n))) rfl rfl h1 ?_
      exact q_Ru_thr rfl rfl
    show q_RT _ _ _ (15, [(0, .ref 64), (1, .int a1), (2, .int a2), (3, .ref 236)], [], (q_kX s (c + 1) (n + 6))) _ _
    refine q_RT_seg (g2 := (16, [(0, .ref 64), (1, .int a1), (2, .int a2), (3, .ref 236)], [.int 1], (q_kX s (c + 1) (n + 6)))) 1 (fun _ _ => rfl) ?_
    exact q_RT_ret rfl rfl rfl
  | false =>
    refine q_RT_cF ?_
    cases h2 : decide (a1 < 32) with
    | true =>
      refine q_RT_cT ?_
      cases h3 : decide (a2 < 0) with
      | true =>
        refine q_RT_cT ?_
        refine q_RT_callH (E := "java/lang/IndexOutOfBoundsException") (tg := 15) (i := 4) (h2 := (q_kX s (c + 1) (n + 6))) rfl rfl ?_ rfl ?_
        · refine q_Ca_of (Nat.le_of_ble_eq_true rfl) ?_
          refine q_Ru_seg (g2 := (3, [(0, .ref 64), (1, .int a1), (2, .int a2)], [.int 32, .int a1], (q_kX s c n))) 2 (fun _ _ => rfl) ?_
          refine q_Ru_call (v := none) (h2 := (q_kX s c n)) rfl rfl ?_ ?_
          · refine q_Ca_of (Nat.le_of_ble_eq_true rfl) ?_
            refine q_Ru_seg (g2 := (1, [(0, .int a1), (1, .int 32)], [.int a1], (q_kX s c n))) 1 (fun _ _ => rfl) ?_
            refine q_Ru_rsF (g2 := (4, [(0, .int a1), (1, .int 32)], [], (q_kX s c n))) rfl rfl h1 ?_
            refine q_Ru_seg (g2 := (6, [(0, .int a1), (1, .int 32)], [.int 32, .int a1], (q_kX s c n))) 2 (fun _ _ => rfl) ?_
            refine q_Ru_rsT (g2 := (19, [(0, .int a1), (1, .int 32)], [], (q_kX s c n))) rfl rfl h2 ?_
            exact q_Ru_ret rfl rfl
          show q_Ru _ _ _ (6, [(0, .ref 64), (1, .int a1), (2, .int a2)], [], (q_kX s c n)) _
          refine q_Ru_seg (g2 := (9, [(0, .ref 64), (1, .int a1), (2, .int a2)], [.int 32, .int a2], (q_kX s c n))) 2 (fun _ _ => rfl) ?_
          refine q_Ru_callX (E := "java/lang/IndexOutOfBoundsException") (h2 := (q_kX s (c + 1) (n + 6))) rfl rfl ?_
          refine q_Ca_of (Nat.le_of_ble_eq_true rfl) ?_
          refine q_Ru_seg (g2 := (1, [(0, .int a2), (1, .int 32)], [.int a2], (q_kX s c n))) 1 (fun _ _ => rfl) ?_
          refine q_Ru_rsT (g2 := (9, [(0, .int a2), (1, .int 32)], [], (q_kX s c n))) rfl rfl h3 ?_
          exact q_Ru_thr rfl rfl
        show q_RT _ _ _ (15, [(0, .ref 64), (1, .int a1), (2, .int a2), (3, .ref 236)], [], (q_kX s (c + 1) (n + 6))) _ _
        refine q_RT_seg (g2 := (16, [(0, .ref 64), (1, .int a1), (2, .int a2), (3, .ref 236)], [.int 1], (q_kX s (c + 1) (n + 6)))) 1 (fun _ _ => rfl) ?_
        exact q_RT_ret rfl rfl rfl
      | false =>
        refine q_RT_cF ?_
        cases h4 : decide (a2 < 32) with
        | true =>
          refine q_RT_cT ?_
          refine q_RT_call (v := (some (.int ((s.1 32) ((((32 * a2) + a1) &&& 1023).toNatClampNeg))))) (h2 := (q_kX s c n)) rfl rfl ?_ ?_
          · refine q_Ca_of (Nat.le_of_ble_eq_true rfl) ?_
            refine q_Ru_seg (g2 := (3, [(0, .ref 64), (1, .int a1), (2, .int a2)], [.int 32, .int a1], (q_kX s c n))) 2 (fun _ _ => rfl) ?_
            refine q_Ru_call (v := none) (h2 := (q_kX s c n)) rfl rfl ?_ ?_
            · refine q_Ca_of (Nat.le_of_ble_eq_true rfl) ?_
              refine q_Ru_seg (g2 := (1, [(0, .int a1), (1, .int 32)], [.int a1], (q_kX s c n))) 1 (fun _ _ => rfl) ?_
              refine q_Ru_rsF (g2 := (4, [(0, .int a1), (1, .int 32)], [], (q_kX s c n))) rfl rfl h1 ?_
              refine q_Ru_seg (g2 := (6, [(0, .int a1), (1, .int 32)], [.int 32, .int a1], (q_kX s c n))) 2 (fun _ _ => rfl) ?_
              refine q_Ru_rsT (g2 := (19, [(0, .int a1), (1, .int 32)], [], (q_kX s c n))) rfl rfl h2 ?_
              exact q_Ru_ret rfl rfl
            show q_Ru _ _ _ (6, [(0, .ref 64), (1, .int a1), (2, .int a2)], [], (q_kX s c n)) _
            refine q_Ru_seg (g2 := (9, [(0, .ref 64), (1, .int a1), (2, .int a2)], [.int 32, .int a2], (q_kX s c n))) 2 (fun _ _ => rfl) ?_
            refine q_Ru_call (v := none) (h2 := (q_kX s c n)) rfl rfl ?_ ?_
            · refine q_Ca_of (Nat.le_of_ble_eq_true rfl) ?_
              refine q_Ru_seg (g2 := (1, [(0, .int a2), (1, .int 32)], [.int a2], (q_kX s c n))) 1 (fun _ _ => rfl) ?_
              refine q_Ru_rsF (g2 := (4, [(0, .int a2), (1, .int 32)], [], (q_kX s c n))) rfl rfl h3 ?_
              refine q_Ru_seg (g2 := (6, [(0, .int a2), (1, .int 32)], [.int 32, .int a2], (q_kX s c n))) 2 (fun _ _ => rfl) ?_
              refine q_Ru_rsT (g2 := (19, [(0, .int a2), (1, .int 32)], [], (q_kX s c n))) rfl rfl h4 ?_
              exact q_Ru_ret rfl rfl
            show q_Ru _ _ _ (12, [(0, .ref 64), (1, .int a1), (2, .int a2)], [], (q_kX s c n)) _
            refine q_Ru_seg (g2 := (29, [(0, .ref 64), (1, .int a1), (2, .int a2)], [.int (((32 * a2) + a1) &&& 1023), .ref 96], (q_kX s c n))) 10 (fun _ _ => rfl) ?_
            refine q_Ru_rsT (g2 := (30, [(0, .ref 64), (1, .int a1), (2, .int a2)], [.int ((s.1 32) ((((32 * a2) + a1) &&& 1023).toNatClampNeg))], (q_kX s c n))) rfl rfl (q_in_bd (x := ((32 * a2) + a1) &&& 1023) (n := 1024) (U := 1023) (L := 0) (q_and_lo ((32 * a2) + a1) 1023) (q_and_hi ((32 * a2) + a1) 1023 1023)) ?_
            exact q_Ru_ret rfl rfl
          show q_RT _ _ _ (8, [(0, .ref 64), (1, .int a1), (2, .int a2), (3, .ref 236)], [.int ((s.1 32) ((((32 * a2) + a1) &&& 1023).toNatClampNeg)), .int 0, .ref 236], (q_kX s c n)) _ _
          refine q_RT_seg (g2 := (9, [(0, .ref 64), (1, .int a1), (2, .int a2), (3, .ref 236)], [.long (((s.1 32) ((((32 * a2) + a1) &&& 1023).toNatClampNeg)).toInt64), .int 0, .ref 236], (q_kX s c n))) 1 (fun _ _ => rfl) ?_
          refine q_RT_rsT (g2 := (10, [(0, .ref 64), (1, .int a1), (2, .int a2), (3, .ref 236)], [], (q_kX (q_sL s 172 (vp_updL (s.2.2 172) 0 (((s.1 32) ((((32 * a2) + a1) &&& 1023).toNatClampNeg)).toInt64))) c n))) rfl q_wX172 rfl ?_
          refine q_RT_seg (g2 := (18, [(0, .ref 64), (1, .int a1), (2, .int a2), (3, .ref 236)], [.int 0], (q_kX (q_sL s 172 (vp_updL (s.2.2 172) 0 (((s.1 32) ((((32 * a2) + a1) &&& 1023).toNatClampNeg)).toInt64))) c n))) 2 (fun _ _ => rfl) ?_
          exact q_RT_ret rfl rfl rfl
        | false =>
          refine q_RT_cF ?_
          refine q_RT_callH (E := "java/lang/IndexOutOfBoundsException") (tg := 15) (i := 4) (h2 := (q_kX s (c + 1) (n + 6))) rfl rfl ?_ rfl ?_
          · refine q_Ca_of (Nat.le_of_ble_eq_true rfl) ?_
            refine q_Ru_seg (g2 := (3, [(0, .ref 64), (1, .int a1), (2, .int a2)], [.int 32, .int a1], (q_kX s c n))) 2 (fun _ _ => rfl) ?_
            refine q_Ru_call (v := none) (h2 := (q_kX s c n)) rfl rfl ?_ ?_
            · refine q_Ca_of (Nat.le_of_ble_eq_true rfl) ?_
              refine q_Ru_seg (g2 := (1, [(0, .int a1), (1, .int 32)], [.int a1], (q_kX s c n))) 1 (fun _ _ => rfl) ?_
              refine q_Ru_rsF (g2 := (4, [(0, .int a1), (1, .int 32)], [], (q_kX s c n))) rfl rfl h1 ?_
              refine q_Ru_seg (g2 := (6, [(0, .int a1), (1, .int 32)], [.int 32, .int a1], (q_kX s c n))) 2 (fun _ _ => rfl) ?_
              refine q_Ru_rsT (g2 := (19, [(0, .int a1), (1, .int 32)], [], (q_kX s c n))) rfl rfl h2 ?_
              exact q_Ru_ret rfl rfl
            show q_Ru _ _ _ (6, [(0, .ref 64), (1, .int a1), (2, .int a2)], [], (q_kX s c n)) _
            refine q_Ru_seg (g2 := (9, [(0, .ref 64), (1, .int a1), (2, .int a2)], [.int 32, .int a2], (q_kX s c n))) 2 (fun _ _ => rfl) ?_
            refine q_Ru_callX (E := "java/lang/IndexOutOfBoundsException") (h2 := (q_kX s (c + 1) (n + 6))) rfl rfl ?_
            refine q_Ca_of (Nat.le_of_ble_eq_true rfl) ?_
            refine q_Ru_seg (g2 := (1, [(0, .int a2), (1, .int 32)], [.int a2], (q_kX s c n))) 1 (fun _ _ => rfl) ?_
            refine q_Ru_rsF (g2 := (4, [(0, .int a2), (1, .int 32)], [], (q_kX s c n))) rfl rfl h3 ?_
            refine q_Ru_seg (g2 := (6, [(0, .int a2), (1, .int 32)], [.int 32, .int a2], (q_kX s c n))) 2 (fun _ _ => rfl) ?_
            refine q_Ru_rsF (g2 := (9, [(0, .int a2), (1, .int 32)], [], (q_kX s c n))) rfl rfl h4 ?_
            exact q_Ru_thr rfl rfl
          show q_RT _ _ _ (15, [(0, .ref 64), (1, .int a1), (2, .int a2), (3, .ref 236)], [], (q_kX s (c + 1) (n + 6))) _ _
          refine q_RT_seg (g2 := (16, [(0, .ref 64), (1, .int a1), (2, .int a2), (3, .ref 236)], [.int 1], (q_kX s (c + 1) (n + 6)))) 1 (fun _ _ => rfl) ?_
          exact q_RT_ret rfl rfl rfl
    | false =>
      refine q_RT_cF ?_
      refine q_RT_callH (E := "java/lang/IndexOutOfBoundsException") (tg := 15) (i := 4) (h2 := (q_kX s (c + 1) (n + 6))) rfl rfl ?_ rfl ?_
      · refine q_Ca_of (Nat.le_of_ble_eq_true rfl) ?_
        refine q_Ru_seg (g2 := (3, [(0, .ref 64), (1, .int a1), (2, .int a2)], [.int 32, .int a1], (q_kX s c n))) 2 (fun _ _ => rfl) ?_
        refine q_Ru_callX (E := "java/lang/IndexOutOfBoundsException") (h2 := (q_kX s (c + 1) (n + 6))) rfl rfl ?_
        refine q_Ca_of (Nat.le_of_ble_eq_true rfl) ?_
        refine q_Ru_seg (g2 := (1, [(0, .int a1), (1, .int 32)], [.int a1], (q_kX s c n))) 1 (fun _ _ => rfl) ?_
        refine q_Ru_rsF (g2 := (4, [(0, .int a1), (1, .int 32)], [], (q_kX s c n))) rfl rfl h1 ?_
        refine q_Ru_seg (g2 := (6, [(0, .int a1), (1, .int 32)], [.int 32, .int a1], (q_kX s c n))) 2 (fun _ _ => rfl) ?_
        refine q_Ru_rsF (g2 := (9, [(0, .int a1), (1, .int 32)], [], (q_kX s c n))) rfl rfl h2 ?_
        exact q_Ru_thr rfl rfl
      show q_RT _ _ _ (15, [(0, .ref 64), (1, .int a1), (2, .int a2), (3, .ref 236)], [], (q_kX s (c + 1) (n + 6))) _ _
      refine q_RT_seg (g2 := (16, [(0, .ref 64), (1, .int a1), (2, .int a2), (3, .ref 236)], [.int 1], (q_kX s (c + 1) (n + 6)))) 1 (fun _ _ => rfl) ?_
      exact q_RT_ret rfl rfl rfl
def dz_X15_64_236 (s : q_S) (a1 : Int32) (a2 : Int32) : Option (q_S × Int32 × Nat) :=
  cond (decide (a1 < 0)) (some (s, 1, 1)) (cond (decide (a1 < 32)) (cond (decide (a2 < 0)) (some (s, 1, 1)) (cond (decide (a2 < 32)) ((dz_N108_65_96 (q_vw 32 1 73 s) a1 a2).bind fun r1 => some ((q_sL (q_pt 32 3 1 73 s r1.1) 172 (vp_updL ((q_pt 32 3 1 73 s r1.1).2.2 172) 0 r1.2.toInt64)), 0, 0)) (some (s, 1, 1)))) (some (s, 1, 1)))
set_option maxHeartbeats 4000000 in
theorem dzt_X15_64_236 (z L : Nat) (xs : Nat → Int32) (s : q_S) (c n : Nat) (a1 : Int32) (a2 : Int32) (x : q_S × Int32 × Nat) (h : dz_X15_64_236 s a1 a2 = some x) : q_Ca (q_TBs z L xs) 7 15 [.ref 64, .int a1, .int a2, .ref 236] (q_kX s c n) ((q_oEX c n) x) := by
  refine q_CaP_of (φ := (q_oEX c n)) (Nat.le_of_ble_eq_true rfl) ?_ h
  clear h
  unfold dz_X15_64_236
  refine q_RP_seg (g2 := (5, [(0, .ref 64), (1, .int a1), (2, .int a2), (3, .ref 236)], [.int a2, .int a1, .ref 64, .int 0, .ref 236], (q_kX s c n))) 5 (fun _ _ => rfl) ?_
  cases h5 : decide (a1 < 0) with
  | true =>
    refine q_RP_cT ?_
    refine q_RP_callH (E := "java/lang/IndexOutOfBoundsException") (tg := 15) (i := 4) (h2 := (q_kX s (c + 1) (n + 6))) rfl rfl ?_ rfl ?_
    · refine q_Ca_of (Nat.le_of_ble_eq_true rfl) ?_
      refine q_Ru_seg (g2 := (3, [(0, .ref 64), (1, .int a1), (2, .int a2)], [.int 32, .int a1], (q_kX s c n))) 2 (fun _ _ => rfl) ?_
      refine q_Ru_callX (E := "java/lang/IndexOutOfBoundsException") (h2 := (q_kX s (c + 1) (n + 6))) rfl rfl ?_
      refine q_Ca_of (Nat.le_of_ble_eq_true rfl) ?_
      refine q_Ru_seg (g2 := (1, [(0, .int a1), (1, .int 32)], [.int a1], (q_kX s c n))) 1 (fun _ _ => rfl) ?_
      refine q_Ru_rsT (g2 := (9, [(0, .int a1), (1, .int 32)], [], (q_kX s c n))) rfl rfl h5 ?_
      exact q_Ru_thr rfl rfl
    show q_RP _ _ _ (15, [(0, .ref 64), (1, .int a1), (2, .int a2), (3, .ref 236)], [], (q_kX s (c + 1) (n + 6))) _ _
    refine q_RP_seg (g2 := (16, [(0, .ref 64), (1, .int a1), (2, .int a2), (3, .ref 236)], [.int 1], (q_kX s (c + 1) (n + 6)))) 1 (fun _ _ => rfl) ?_
    exact q_RP_ret rfl rfl rfl
  | false =>
    refine q_RP_cF ?_
    cases h6 : decide (a1 < 32) with
    | true =>
      refine q_RP_cT ?_
      cases h7 : decide (a2 < 0) with
      | true =>
        refine q_RP_cT ?_
        refine q_RP_callH (E := "java/lang/IndexOutOfBoundsException") (tg := 15) (i := 4) (h2 := (q_kX s (c + 1) (n + 6))) rfl rfl ?_ rfl ?_
        · refine q_Ca_of (Nat.le_of_ble_eq_true rfl) ?_
          refine q_Ru_seg (g2 := (3, [(0, .ref 64), (1, .int a1), (2, .int a2)], [.int 32, .int a1], (q_kX s c n))) 2 (fun _ _ => rfl) ?_
          refine q_Ru_call (v := none) (h2 := (q_kX s c n)) rfl rfl ?_ ?_
          · refine q_Ca_of (Nat.le_of_ble_eq_true rfl) ?_
            refine q_Ru_seg (g2 := (1, [(0, .int a1), (1, .int 32)], [.int a1], (q_kX s c n))) 1 (fun _ _ => rfl) ?_
            refine q_Ru_rsF (g2 := (4, [(0, .int a1), (1, .int 32)], [], (q_kX s c n))) rfl rfl h5 ?_
            refine q_Ru_seg (g2 := (6, [(0, .int a1), (1, .int 32)], [.int 32, .int a1], (q_kX s c n))) 2 (fun _ _ => rfl) ?_
            refine q_Ru_rsT (g2 := (19, [(0, .int a1), (1, .int 32)], [], (q_kX s c n))) rfl rfl h6 ?_
            exact q_Ru_ret rfl rfl
          show q_Ru _ _ _ (6, [(0, .ref 64), (1, .int a1), (2, .int a2)], [], (q_kX s c n)) _
          refine q_Ru_seg (g2 := (9, [(0, .ref 64), (1, .int a1), (2, .int a2)], [.int 32, .int a2], (q_kX s c n))) 2 (fun _ _ => rfl) ?_
          refine q_Ru_callX (E := "java/lang/IndexOutOfBoundsException") (h2 := (q_kX s (c + 1) (n + 6))) rfl rfl ?_
          refine q_Ca_of (Nat.le_of_ble_eq_true rfl) ?_
          refine q_Ru_seg (g2 := (1, [(0, .int a2), (1, .int 32)], [.int a2], (q_kX s c n))) 1 (fun _ _ => rfl) ?_
          refine q_Ru_rsT (g2 := (9, [(0, .int a2), (1, .int 32)], [], (q_kX s c n))) rfl rfl h7 ?_
          exact q_Ru_thr rfl rfl
        show q_RP _ _ _ (15, [(0, .ref 64), (1, .int a1), (2, .int a2), (3, .ref 236)], [], (q_kX s (c + 1) (n + 6))) _ _
        refine q_RP_seg (g2 := (16, [(0, .ref 64), (1, .int a1), (2, .int a2), (3, .ref 236)], [.int 1], (q_kX s (c + 1) (n + 6)))) 1 (fun _ _ => rfl) ?_
        exact q_RP_ret rfl rfl rfl
      | false =>
        refine q_RP_cF ?_
        cases h8 : decide (a2 < 32) with
        | true =>
          refine q_RP_cT ?_
          refine q_RP_bd fun r1 er1 => ?_
          refine q_RP_call (v := (some (.int r1.2))) (h2 := (q_kX (q_pt 32 3 1 73 s r1.1) c n)) rfl rfl ?_ ?_
          · refine q_Ca_of (Nat.le_of_ble_eq_true rfl) ?_
            refine q_Ru_seg (g2 := (3, [(0, .ref 64), (1, .int a1), (2, .int a2)], [.int 32, .int a1], (q_kX s c n))) 2 (fun _ _ => rfl) ?_
            refine q_Ru_call (v := none) (h2 := (q_kX s c n)) rfl rfl ?_ ?_
            · refine q_Ca_of (Nat.le_of_ble_eq_true rfl) ?_
              refine q_Ru_seg (g2 := (1, [(0, .int a1), (1, .int 32)], [.int a1], (q_kX s c n))) 1 (fun _ _ => rfl) ?_
              refine q_Ru_rsF (g2 := (4, [(0, .int a1), (1, .int 32)], [], (q_kX s c n))) rfl rfl h5 ?_
              refine q_Ru_seg (g2 := (6, [(0, .int a1), (1, .int 32)], [.int 32, .int a1], (q_kX s c n))) 2 (fun _ _ => rfl) ?_
              refine q_Ru_rsT (g2 := (19, [(0, .int a1), (1, .int 32)], [], (q_kX s c n))) rfl rfl h6 ?_
              exact q_Ru_ret rfl rfl
            show q_Ru _ _ _ (6, [(0, .ref 64), (1, .int a1), (2, .int a2)], [], (q_kX s c n)) _
            refine q_Ru_seg (g2 := (9, [(0, .ref 64), (1, .int a1), (2, .int a2)], [.int 32, .int a2], (q_kX s c n))) 2 (fun _ _ => rfl) ?_
            refine q_Ru_call (v := none) (h2 := (q_kX s c n)) rfl rfl ?_ ?_
            · refine q_Ca_of (Nat.le_of_ble_eq_true rfl) ?_
              refine q_Ru_seg (g2 := (1, [(0, .int a2), (1, .int 32)], [.int a2], (q_kX s c n))) 1 (fun _ _ => rfl) ?_
              refine q_Ru_rsF (g2 := (4, [(0, .int a2), (1, .int 32)], [], (q_kX s c n))) rfl rfl h7 ?_
              refine q_Ru_seg (g2 := (6, [(0, .int a2), (1, .int 32)], [.int 32, .int a2], (q_kX s c n))) 2 (fun _ _ => rfl) ?_
              refine q_Ru_rsT (g2 := (19, [(0, .int a2), (1, .int 32)], [], (q_kX s c n))) rfl rfl h8 ?_
              exact q_Ru_ret rfl rfl
            show q_Ru _ _ _ (12, [(0, .ref 64), (1, .int a1), (2, .int a2)], [], (q_kX s c n)) _
            refine q_Ru_seg (g2 := (25, [(0, .ref 64), (1, .int a1), (2, .int a2)], [.ref 137, .int a2, .int a1, .ref 66], (q_kX s c n))) 7 (fun _ _ => rfl) ?_
            refine q_Ru_call (v := (some (.int r1.2))) (h2 := (q_kX (q_pt 32 3 1 73 s r1.1) c n)) rfl rfl ?_ ?_
            · exact (q_emNX_1 rfl (fun _ => rfl) ((dzt_N108_65_96 (q_vw 32 1 73 s) c n a1 a2 r1 er1).tb q_TB0_le)).le (Nat.le_of_ble_eq_true rfl)
            show q_Ru _ _ _ (28, [(0, .ref 64), (1, .int a1), (2, .int a2)], [.int r1.2], (q_kX (q_pt 32 3 1 73 s r1.1) c n)) _
            exact q_Ru_ret rfl rfl
          show q_RP _ _ _ (8, [(0, .ref 64), (1, .int a1), (2, .int a2), (3, .ref 236)], [.int r1.2, .int 0, .ref 236], (q_kX (q_pt 32 3 1 73 s r1.1) c n)) _ _
          refine q_RP_seg (g2 := (9, [(0, .ref 64), (1, .int a1), (2, .int a2), (3, .ref 236)], [.long r1.2.toInt64, .int 0, .ref 236], (q_kX (q_pt 32 3 1 73 s r1.1) c n))) 1 (fun _ _ => rfl) ?_
          refine q_RP_rsT (g2 := (10, [(0, .ref 64), (1, .int a1), (2, .int a2), (3, .ref 236)], [], (q_kX (q_sL (q_pt 32 3 1 73 s r1.1) 172 (vp_updL ((q_pt 32 3 1 73 s r1.1).2.2 172) 0 r1.2.toInt64)) c n))) rfl q_wX172 rfl ?_
          refine q_RP_seg (g2 := (18, [(0, .ref 64), (1, .int a1), (2, .int a2), (3, .ref 236)], [.int 0], (q_kX (q_sL (q_pt 32 3 1 73 s r1.1) 172 (vp_updL ((q_pt 32 3 1 73 s r1.1).2.2 172) 0 r1.2.toInt64)) c n))) 2 (fun _ _ => rfl) ?_
          exact q_RP_ret rfl rfl rfl
        | false =>
          refine q_RP_cF ?_
          refine q_RP_callH (E := "java/lang/IndexOutOfBoundsException") (tg := 15) (i := 4) (h2 := (q_kX s (c + 1) (n + 6))) rfl rfl ?_ rfl ?_
          · refine q_Ca_of (Nat.le_of_ble_eq_true rfl) ?_
            refine q_Ru_seg (g2 := (3, [(0, .ref 64), (1, .int a1), (2, .int a2)], [.int 32, .int a1], (q_kX s c n))) 2 (fun _ _ => rfl) ?_
            refine q_Ru_call (v := none) (h2 := (q_kX s c n)) rfl rfl ?_ ?_
            · refine q_Ca_of (Nat.le_of_ble_eq_true rfl) ?_
              refine q_Ru_seg (g2 := (1, [(0, .int a1), (1, .int 32)], [.int a1], (q_kX s c n))) 1 (fun _ _ => rfl) ?_
              refine q_Ru_rsF (g2 := (4, [(0, .int a1), (1, .int 32)], [], (q_kX s c n))) rfl rfl h5 ?_
              refine q_Ru_seg (g2 := (6, [(0, .int a1), (1, .int 32)], [.int 32, .int a1], (q_kX s c n))) 2 (fun _ _ => rfl) ?_
              refine q_Ru_rsT (g2 := (19, [(0, .int a1), (1, .int 32)], [], (q_kX s c n))) rfl rfl h6 ?_
              exact q_Ru_ret rfl rfl
            show q_Ru _ _ _ (6, [(0, .ref 64), (1, .int a1), (2, .int a2)], [], (q_kX s c n)) _
            refine q_Ru_seg (g2 := (9, [(0, .ref 64), (1, .int a1), (2, .int a2)], [.int 32, .int a2], (q_kX s c n))) 2 (fun _ _ => rfl) ?_
            refine q_Ru_callX (E := "java/lang/IndexOutOfBoundsException") (h2 := (q_kX s (c + 1) (n + 6))) rfl rfl ?_
            refine q_Ca_of (Nat.le_of_ble_eq_true rfl) ?_
            refine q_Ru_seg (g2 := (1, [(0, .int a2), (1, .int 32)], [.int a2], (q_kX s c n))) 1 (fun _ _ => rfl) ?_
            refine q_Ru_rsF (g2 := (4, [(0, .int a2), (1, .int 32)], [], (q_kX s c n))) rfl rfl h7 ?_
            refine q_Ru_seg (g2 := (6, [(0, .int a2), (1, .int 32)], [.int 32, .int a2], (q_kX s c n))) 2 (fun _ _ => rfl) ?_
            refine q_Ru_rsF (g2 := (9, [(0, .int a2), (1, .int 32)], [], (q_kX s c n))) rfl rfl h8 ?_
            exact q_Ru_thr rfl rfl
          show q_RP _ _ _ (15, [(0, .ref 64), (1, .int a1), (2, .int a2), (3, .ref 236)], [], (q_kX s (c + 1) (n + 6))) _ _
          refine q_RP_seg (g2 := (16, [(0, .ref 64), (1, .int a1), (2, .int a2), (3, .ref 236)], [.int 1], (q_kX s (c + 1) (n + 6)))) 1 (fun _ _ => rfl) ?_
          exact q_RP_ret rfl rfl rfl
    | false =>
      refine q_RP_cF ?_
      refine q_RP_callH (E := "java/lang/IndexOutOfBoundsException") (tg := 15) (i := 4) (h2 := (q_kX s (c + 1) (n + 6))) rfl rfl ?_ rfl ?_
      · refine q_Ca_of (Nat.le_of_ble_eq_true rfl) ?_
        refine q_Ru_seg (g2 := (3, [(0, .ref 64), (1, .int a1), (2, .int a2)], [.int 32, .int a1], (q_kX s c n))) 2 (fun _ _ => rfl) ?_
        refine q_Ru_callX (E := "java/lang/IndexOutOfBoundsException") (h2 := (q_kX s (c + 1) (n + 6))) rfl rfl ?_
        refine q_Ca_of (Nat.le_of_ble_eq_true rfl) ?_
        refine q_Ru_seg (g2 := (1, [(0, .int a1), (1, .int 32)], [.int a1], (q_kX s c n))) 1 (fun _ _ => rfl) ?_
        refine q_Ru_rsF (g2 := (4, [(0, .int a1), (1, .int 32)], [], (q_kX s c n))) rfl rfl h5 ?_
        refine q_Ru_seg (g2 := (6, [(0, .int a1), (1, .int 32)], [.int 32, .int a1], (q_kX s c n))) 2 (fun _ _ => rfl) ?_
        refine q_Ru_rsF (g2 := (9, [(0, .int a1), (1, .int 32)], [], (q_kX s c n))) rfl rfl h6 ?_
        exact q_Ru_thr rfl rfl
      show q_RP _ _ _ (15, [(0, .ref 64), (1, .int a1), (2, .int a2), (3, .ref 236)], [], (q_kX s (c + 1) (n + 6))) _ _
      refine q_RP_seg (g2 := (16, [(0, .ref 64), (1, .int a1), (2, .int a2), (3, .ref 236)], [.int 1], (q_kX s (c + 1) (n + 6)))) 1 (fun _ _ => rfl) ?_
      exact q_RP_ret rfl rfl rfl
def dz_X16_64_236 (s : q_S) (a1 : Int32) : q_S × Int32 × Nat :=
  cond (decide (a1 < 0)) ((s, 1, 1)) (cond (decide (a1 < 40)) (((q_sL s 172 (vp_updL (s.2.2 172) 0 (((s.1 31) (a1.toNatClampNeg)).toInt64))), 0, 0)) ((s, 1, 1)))
set_option maxHeartbeats 4000000 in
theorem dzt_X16_64_236 (z L : Nat) (xs : Nat → Int32) (s : q_S) (c n : Nat) (a1 : Int32) : q_Ca (q_TBs z L xs) 3 16 [.ref 64, .int a1, .ref 236] (q_kX s c n) ((q_oEX c n) (dz_X16_64_236 s a1)) := by
  refine q_CaT_of (φ := (q_oEX c n)) (Nat.le_of_ble_eq_true rfl) ?_
  unfold dz_X16_64_236
  refine q_RT_seg (g2 := (4, [(0, .ref 64), (1, .int a1), (2, .ref 236)], [.int a1, .ref 64, .int 0, .ref 236], (q_kX s c n))) 4 (fun _ _ => rfl) ?_
  cases h1 : decide (a1 < 0) with
  | true =>
    refine q_RT_cT ?_
    refine q_RT_callH (E := "java/lang/IndexOutOfBoundsException") (tg := 13) (i := 3) (h2 := (q_kX s (c + 1) (n + 6))) rfl rfl ?_ rfl ?_
    · refine q_Ca_of (Nat.le_of_ble_eq_true rfl) ?_
      refine q_Ru_seg (g2 := (3, [(0, .ref 64), (1, .int a1)], [.int 40, .int a1], (q_kX s c n))) 2 (fun _ _ => rfl) ?_
      refine q_Ru_callX (E := "java/lang/IndexOutOfBoundsException") (h2 := (q_kX s (c + 1) (n + 6))) rfl rfl ?_
      refine q_Ca_of (Nat.le_of_ble_eq_true rfl) ?_
      refine q_Ru_seg (g2 := (1, [(0, .int a1), (1, .int 40)], [.int a1], (q_kX s c n))) 1 (fun _ _ => rfl) ?_
      refine q_Ru_rsT (g2 := (9, [(0, .int a1), (1, .int 40)], [], (q_kX s c n))) rfl rfl h1 ?_
      exact q_Ru_thr rfl rfl
    show q_RT _ _ _ (13, [(0, .ref 64), (1, .int a1), (2, .ref 236)], [], (q_kX s (c + 1) (n + 6))) _ _
    refine q_RT_seg (g2 := (14, [(0, .ref 64), (1, .int a1), (2, .ref 236)], [.int 1], (q_kX s (c + 1) (n + 6)))) 1 (fun _ _ => rfl) ?_
    exact q_RT_ret rfl rfl rfl
  | false =>
    refine q_RT_cF ?_
    cases h2 : decide (a1 < 40) with
    | true =>
      refine q_RT_cT ?_
      refine q_RT_call (v := (some (.int ((s.1 31) (a1.toNatClampNeg))))) (h2 := (q_kX s c n)) rfl rfl ?_ ?_
      · refine q_Ca_of (Nat.le_of_ble_eq_true rfl) ?_
        refine q_Ru_seg (g2 := (3, [(0, .ref 64), (1, .int a1)], [.int 40, .int a1], (q_kX s c n))) 2 (fun _ _ => rfl) ?_
        refine q_Ru_call (v := none) (h2 := (q_kX s c n)) rfl rfl ?_ ?_
        · refine q_Ca_of (Nat.le_of_ble_eq_true rfl) ?_
          refine q_Ru_seg (g2 := (1, [(0, .int a1), (1, .int 40)], [.int a1], (q_kX s c n))) 1 (fun _ _ => rfl) ?_
          refine q_Ru_rsF (g2 := (4, [(0, .int a1), (1, .int 40)], [], (q_kX s c n))) rfl rfl h1 ?_
          refine q_Ru_seg (g2 := (6, [(0, .int a1), (1, .int 40)], [.int 40, .int a1], (q_kX s c n))) 2 (fun _ _ => rfl) ?_
          refine q_Ru_rsT (g2 := (19, [(0, .int a1), (1, .int 40)], [], (q_kX s c n))) rfl rfl h2 ?_
          exact q_Ru_ret rfl rfl
        show q_Ru _ _ _ (6, [(0, .ref 64), (1, .int a1)], [], (q_kX s c n)) _
        refine q_Ru_seg (g2 := (17, [(0, .ref 64), (1, .int a1)], [.int a1, .ref 95], (q_kX s c n))) 5 (fun _ _ => rfl) ?_
        refine q_Ru_rsT (g2 := (18, [(0, .ref 64), (1, .int a1)], [.int ((s.1 31) (a1.toNatClampNeg))], (q_kX s c n))) rfl rfl (q_in_bd (x := a1) (n := 40) (U := 39) (L := 0) (q_lo1 h1) (q_hi1 h2)) ?_
        exact q_Ru_ret rfl rfl
      show q_RT _ _ _ (7, [(0, .ref 64), (1, .int a1), (2, .ref 236)], [.int ((s.1 31) (a1.toNatClampNeg)), .int 0, .ref 236], (q_kX s c n)) _ _
      refine q_RT_seg (g2 := (8, [(0, .ref 64), (1, .int a1), (2, .ref 236)], [.long (((s.1 31) (a1.toNatClampNeg)).toInt64), .int 0, .ref 236], (q_kX s c n))) 1 (fun _ _ => rfl) ?_
      refine q_RT_rsT (g2 := (9, [(0, .ref 64), (1, .int a1), (2, .ref 236)], [], (q_kX (q_sL s 172 (vp_updL (s.2.2 172) 0 (((s.1 31) (a1.toNatClampNeg)).toInt64))) c n))) rfl q_wX172 rfl ?_
      refine q_RT_seg (g2 := (16, [(0, .ref 64), (1, .int a1), (2, .ref 236)], [.int 0], (q_kX (q_sL s 172 (vp_updL (s.2.2 172) 0 (((s.1 31) (a1.toNatClampNeg)).toInt64))) c n))) 2 (fun _ _ => rfl) ?_
      exact q_RT_ret rfl rfl rfl
    | false =>
      refine q_RT_cF ?_
      refine q_RT_callH (E := "java/lang/IndexOutOfBoundsException") (tg := 13) (i := 3) (h2 := (q_kX s (c + 1) (n + 6))) rfl rfl ?_ rfl ?_
      · refine q_Ca_of (Nat.le_of_ble_eq_true rfl) ?_
        refine q_Ru_seg (g2 := (3, [(0, .ref 64), (1, .int a1)], [.int 40, .int a1], (q_kX s c n))) 2 (fun _ _ => rfl) ?_
        refine q_Ru_callX (E := "java/lang/IndexOutOfBoundsException") (h2 := (q_kX s (c + 1) (n + 6))) rfl rfl ?_
        refine q_Ca_of (Nat.le_of_ble_eq_true rfl) ?_
        refine q_Ru_seg (g2 := (1, [(0, .int a1), (1, .int 40)], [.int a1], (q_kX s c n))) 1 (fun _ _ => rfl) ?_
        refine q_Ru_rsF (g2 := (4, [(0, .int a1), (1, .int 40)], [], (q_kX s c n))) rfl rfl h1 ?_
        refine q_Ru_seg (g2 := (6, [(0, .int a1), (1, .int 40)], [.int 40, .int a1], (q_kX s c n))) 2 (fun _ _ => rfl) ?_
        refine q_Ru_rsF (g2 := (9, [(0, .int a1), (1, .int 40)], [], (q_kX s c n))) rfl rfl h2 ?_
        exact q_Ru_thr rfl rfl
      show q_RT _ _ _ (13, [(0, .ref 64), (1, .int a1), (2, .ref 236)], [], (q_kX s (c + 1) (n + 6))) _ _
      refine q_RT_seg (g2 := (14, [(0, .ref 64), (1, .int a1), (2, .ref 236)], [.int 1], (q_kX s (c + 1) (n + 6)))) 1 (fun _ _ => rfl) ?_
      exact q_RT_ret rfl rfl rfl
def dz_X17_64_236 (s : q_S) (a1 : Int32) : q_S × Int32 × Nat :=
  cond (decide (a1 < 0)) ((s, 1, 1)) (cond (decide (a1 < 3)) (((q_sL s 172 (vp_updL (s.2.2 172) 0 (((s.1 28) (a1.toNatClampNeg)).toInt64))), 0, 0)) ((s, 1, 1)))
set_option maxHeartbeats 4000000 in
theorem dzt_X17_64_236 (z L : Nat) (xs : Nat → Int32) (s : q_S) (c n : Nat) (a1 : Int32) : q_Ca (q_TBs z L xs) 3 17 [.ref 64, .int a1, .ref 236] (q_kX s c n) ((q_oEX c n) (dz_X17_64_236 s a1)) := by
  refine q_CaT_of (φ := (q_oEX c n)) (Nat.le_of_ble_eq_true rfl) ?_
  unfold dz_X17_64_236
  refine q_RT_seg (g2 := (4, [(0, .ref 64), (1, .int a1), (2, .ref 236)], [.int a1, .ref 64, .int 0, .ref 236], (q_kX s c n))) 4 (fun _ _ => rfl) ?_
  cases h1 : decide (a1 < 0) with
  | true =>
    refine q_RT_cT ?_
    refine q_RT_callH (E := "java/lang/IndexOutOfBoundsException") (tg := 13) (i := 3) (h2 := (q_kX s (c + 1) (n + 6))) rfl rfl ?_ rfl ?_
    · refine q_Ca_of (Nat.le_of_ble_eq_true rfl) ?_
      refine q_Ru_seg (g2 := (2, [(0, .ref 64), (1, .int a1)], [.int 3, .int a1], (q_kX s c n))) 2 (fun _ _ => rfl) ?_
      refine q_Ru_callX (E := "java/lang/IndexOutOfBoundsException") (h2 := (q_kX s (c + 1) (n + 6))) rfl rfl ?_
      refine q_Ca_of (Nat.le_of_ble_eq_true rfl) ?_
      refine q_Ru_seg (g2 := (1, [(0, .int a1), (1, .int 3)], [.int a1], (q_kX s c n))) 1 (fun _ _ => rfl) ?_
      refine q_Ru_rsT (g2 := (9, [(0, .int a1), (1, .int 3)], [], (q_kX s c n))) rfl rfl h1 ?_
      exact q_Ru_thr rfl rfl
    show q_RT _ _ _ (13, [(0, .ref 64), (1, .int a1), (2, .ref 236)], [], (q_kX s (c + 1) (n + 6))) _ _
    refine q_RT_seg (g2 := (14, [(0, .ref 64), (1, .int a1), (2, .ref 236)], [.int 1], (q_kX s (c + 1) (n + 6)))) 1 (fun _ _ => rfl) ?_
    exact q_RT_ret rfl rfl rfl
  | false =>
    refine q_RT_cF ?_
    cases h2 : decide (a1 < 3) with
    | true =>
      refine q_RT_cT ?_
      refine q_RT_call (v := (some (.int ((s.1 28) (a1.toNatClampNeg))))) (h2 := (q_kX s c n)) rfl rfl ?_ ?_
      · refine q_Ca_of (Nat.le_of_ble_eq_true rfl) ?_
        refine q_Ru_seg (g2 := (2, [(0, .ref 64), (1, .int a1)], [.int 3, .int a1], (q_kX s c n))) 2 (fun _ _ => rfl) ?_
        refine q_Ru_call (v := none) (h2 := (q_kX s c n)) rfl rfl ?_ ?_
        · refine q_Ca_of (Nat.le_of_ble_eq_true rfl) ?_
          refine q_Ru_seg (g2 := (1, [(0, .int a1), (1, .int 3)], [.int a1], (q_kX s c n))) 1 (fun _ _ => rfl) ?_
          refine q_Ru_rsF (g2 := (4, [(0, .int a1), (1, .int 3)], [], (q_kX s c n))) rfl rfl h1 ?_
          refine q_Ru_seg (g2 := (6, [(0, .int a1), (1, .int 3)], [.int 3, .int a1], (q_kX s c n))) 2 (fun _ _ => rfl) ?_
          refine q_Ru_rsT (g2 := (19, [(0, .int a1), (1, .int 3)], [], (q_kX s c n))) rfl rfl h2 ?_
          exact q_Ru_ret rfl rfl
        show q_Ru _ _ _ (5, [(0, .ref 64), (1, .int a1)], [], (q_kX s c n)) _
        refine q_Ru_seg (g2 := (16, [(0, .ref 64), (1, .int a1)], [.int a1, .ref 92], (q_kX s c n))) 5 (fun _ _ => rfl) ?_
        refine q_Ru_rsT (g2 := (17, [(0, .ref 64), (1, .int a1)], [.int ((s.1 28) (a1.toNatClampNeg))], (q_kX s c n))) rfl rfl (q_in_bd (x := a1) (n := 3) (U := 2) (L := 0) (q_lo1 h1) (q_hi1 h2)) ?_
        exact q_Ru_ret rfl rfl
      show q_RT _ _ _ (7, [(0, .ref 64), (1, .int a1), (2, .ref 236)], [.int ((s.1 28) (a1.toNatClampNeg)), .int 0, .ref 236], (q_kX s c n)) _ _
      refine q_RT_seg (g2 := (8, [(0, .ref 64), (1, .int a1), (2, .ref 236)], [.long (((s.1 28) (a1.toNatClampNeg)).toInt64), .int 0, .ref 236], (q_kX s c n))) 1 (fun _ _ => rfl) ?_
      refine q_RT_rsT (g2 := (9, [(0, .ref 64), (1, .int a1), (2, .ref 236)], [], (q_kX (q_sL s 172 (vp_updL (s.2.2 172) 0 (((s.1 28) (a1.toNatClampNeg)).toInt64))) c n))) rfl q_wX172 rfl ?_
      refine q_RT_seg (g2 := (16, [(0, .ref 64), (1, .int a1), (2, .ref 236)], [.int 0], (q_kX (q_sL s 172 (vp_updL (s.2.2 172) 0 (((s.1 28) (a1.toNatClampNeg)).toInt64))) c n))) 2 (fun _ _ => rfl) ?_
      exact q_RT_ret rfl rfl rfl
    | false =>
      refine q_RT_cF ?_
      refine q_RT_callH (E := "java/lang/IndexOutOfBoundsException") (tg := 13) (i := 3) (h2 := (q_kX s (c + 1) (n + 6))) rfl rfl ?_ rfl ?_
      · refine q_Ca_of (Nat.le_of_ble_eq_true rfl) ?_
        refine q_Ru_seg (g2 := (2, [(0, .ref 64), (1, .int a1)], [.int 3, .int a1], (q_kX s c n))) 2 (fun _ _ => rfl) ?_
        refine q_Ru_callX (E := "java/lang/IndexOutOfBoundsException") (h2 := (q_kX s (c + 1) (n + 6))) rfl rfl ?_
        refine q_Ca_of (Nat.le_of_ble_eq_true rfl) ?_
        refine q_Ru_seg (g2 := (1, [(0, .int a1), (1, .int 3)], [.int a1], (q_kX s c n))) 1 (fun _ _ => rfl) ?_
        refine q_Ru_rsF (g2 := (4, [(0, .int a1), (1, .int 3)], [], (q_kX s c n))) rfl rfl h1 ?_
        refine q_Ru_seg (g2 := (6, [(0, .int a1), (1, .int 3)], [.int 3, .int a1], (q_kX s c n))) 2 (fun _ _ => rfl) ?_
        refine q_Ru_rsF (g2 := (9, [(0, .int a1), (1, .int 3)], [], (q_kX s c n))) rfl rfl h2 ?_
        exact q_Ru_thr rfl rfl
      show q_RT _ _ _ (13, [(0, .ref 64), (1, .int a1), (2, .ref 236)], [], (q_kX s (c + 1) (n + 6))) _ _
      refine q_RT_seg (g2 := (14, [(0, .ref 64), (1, .int a1), (2, .ref 236)], [.int 1], (q_kX s (c + 1) (n + 6)))) 1 (fun _ _ => rfl) ?_
      exact q_RT_ret rfl rfl rfl
def dz_X18_64_f_236 (s : q_S) (a1 : Int32) (a2 : Int32) : Option (q_S × Int32 × Nat) :=
  cond (decide (a1 < 0)) (some (s, 1, 1)) (cond (decide (a1 < 4)) (cond (decide (a2 < 0)) (some (s, 1, 1)) (cond (decide (a2 < 4)) (q_let (dz_X184_98 s 9 a1 a2 0) fun r2 => (dz_N79_64 (q_vw 32 1 73 r2) 9 a1 a2 0).bind fun r3 => cond (decide (r3.2 = 1)) (some ((q_sL (q_pt 32 3 1 73 r2 r3.1) 172 (vp_updL ((q_pt 32 3 1 73 r2 r3.1).2.2 172) 0 1)), 0, 0)) (some ((q_sL (q_pt 32 3 1 73 r2 r3.1) 172 (vp_updL ((q_pt 32 3 1 73 r2 r3.1).2.2 172) 0 0)), 0, 0))) (some (s, 1, 1)))) (some (s, 1, 1)))
set_option maxHeartbeats 4000000 in
theorem dzt_X18_64_f_236 (z L : Nat) (xs : Nat → Int32) (s : q_S) (c n : Nat) (a1 : Int32) (a2 : Int32) (x : q_S × Int32 × Nat) (h : dz_X18_64_f_236 s a1 a2 = some x) : q_Ca (q_TBs z L xs) 10 18 [.ref 64, .int a1, .int a2, .int 0, .ref 236] (q_kX s c n) ((q_oEX c n) x) := by
  refine q_CaP_of (φ := (q_oEX c n)) (Nat.le_of_ble_eq_true rfl) ?_ h
  clear h
  unfold dz_X18_64_f_236
  refine q_RP_seg (g2 := (7, [(0, .ref 64), (1, .int a1), (2, .int a2), (3, .int 0), (4, .ref 236)], [.int 0, .int a2, .int a1, .ref 64, .int 0, .ref 236], (q_kX s c n))) 6 (fun _ _ => rfl) ?_
  cases h5 : decide (a1 < 0) with
  | true =>
    refine q_RP_cT ?_
    refine q_RP_callH (E := "java/lang/IndexOutOfBoundsException") (tg := 24) (i := 5) (h2 := (q_kX s (c + 1) (n + 6))) rfl rfl ?_ rfl ?_
    · refine q_Ca_of (Nat.le_of_ble_eq_true rfl) ?_
      refine q_Ru_seg (g2 := (2, [(0, .ref 64), (1, .int a1), (2, .int a2), (3, .int 0)], [.int 4, .int a1], (q_kX s c n))) 2 (fun _ _ => rfl) ?_
      refine q_Ru_callX (E := "java/lang/IndexOutOfBoundsException") (h2 := (q_kX s (c + 1) (n + 6))) rfl rfl ?_
      refine q_Ca_of (Nat.le_of_ble_eq_true rfl) ?_
      refine q_Ru_seg (g2 := (1, [(0, .int a1), (1, .int 4)], [.int a1], (q_kX s c n))) 1 (fun _ _ => rfl) ?_
      refine q_Ru_rsT (g2 := (9, [(0, .int a1), (1, .int 4)], [], (q_kX s c n))) rfl rfl h5 ?_
      exact q_Ru_thr rfl rfl
    show q_RP _ _ _ (24, [(0, .ref 64), (1, .int a1), (2, .int a2), (3, .int 0), (4, .ref 236)], [], (q_kX s (c + 1) (n + 6))) _ _
    refine q_RP_seg (g2 := (25, [(0, .ref 64), (1, .int a1), (2, .int a2), (3, .int 0), (4, .ref 236)], [.int 1], (q_kX s (c + 1) (n + 6)))) 1 (fun _ _ => rfl) ?_
    exact q_RP_ret rfl rfl rfl
  | false =>
    refine q_RP_cF ?_
    cases h6 : decide (a1 < 4) with
    | true =>
      refine q_RP_cT ?_
      cases h7 : decide (a2 < 0) with
      | true =>
        refine q_RP_cT ?_
        refine q_RP_callH (E := "java/lang/IndexOutOfBoundsException") (tg := 24) (i := 5) (h2 := (q_kX s (c + 1) (n + 6))) rfl rfl ?_ rfl ?_
        · refine q_Ca_of (Nat.le_of_ble_eq_true rfl) ?_
          refine q_Ru_seg (g2 := (2, [(0, .ref 64), (1, .int a1), (2, .int a2), (3, .int 0)], [.int 4, .int a1], (q_kX s c n))) 2 (fun _ _ => rfl) ?_
          refine q_Ru_call (v := none) (h2 := (q_kX s c n)) rfl rfl ?_ ?_
          · refine q_Ca_of (Nat.le_of_ble_eq_true rfl) ?_
            refine q_Ru_seg (g2 := (1, [(0, .int a1), (1, .int 4)], [.int a1], (q_kX s c n))) 1 (fun _ _ => rfl) ?_
            refine q_Ru_rsF (g2 := (4, [(0, .int a1), (1, .int 4)], [], (q_kX s c n))) rfl rfl h5 ?_
            refine q_Ru_seg (g2 := (6, [(0, .int a1), (1, .int 4)], [.int 4, .int a1], (q_kX s c n))) 2 (fun _ _ => rfl) ?_
            refine q_Ru_rsT (g2 := (19, [(0, .int a1), (1, .int 4)], [], (q_kX s c n))) rfl rfl h6 ?_
            exact q_Ru_ret rfl rfl
          show q_Ru _ _ _ (5, [(0, .ref 64), (1, .int a1), (2, .int a2), (3, .int 0)], [], (q_kX s c n)) _
          refine q_Ru_seg (g2 := (7, [(0, .ref 64), (1, .int a1), (2, .int a2), (3, .int 0)], [.int 4, .int a2], (q_kX s c n))) 2 (fun _ _ => rfl) ?_
          refine q_Ru_callX (E := "java/lang/IndexOutOfBoundsException") (h2 := (q_kX s (c + 1) (n + 6))) rfl rfl ?_
          refine q_Ca_of (Nat.le_of_ble_eq_true rfl) ?_
          refine q_Ru_seg (g2 := (1, [(0, .int a2), (1, .int 4)], [.int a2], (q_kX s c n))) 1 (fun _ _ => rfl) ?_
          refine q_Ru_rsT (g2 := (9, [(0, .int a2), (1, .int 4)], [], (q_kX s c n))) rfl rfl h7 ?_
          exact q_Ru_thr rfl rfl
        show q_RP _ _ _ (24, [(0, .ref 64), (1, .int a1), (2, .int a2), (3, .int 0), (4, .ref 236)], [], (q_kX s (c + 1) (n + 6))) _ _
        refine q_RP_seg (g2 := (25, [(0, .ref 64), (1, .int a1), (2, .int a2), (3, .int 0), (4, .ref 236)], [.int 1], (q_kX s (c + 1) (n + 6)))) 1 (fun _ _ => rfl) ?_
        exact q_RP_ret rfl rfl rfl
      | false =>
        refine q_RP_cF ?_
        cases h8 : decide (a2 < 4) with
        | true =>
          refine q_RP_cT ?_
          generalize er2 : dz_X184_98 s 9 a1 a2 0 = r2
          refine q_RP_let ?_
          refine q_RP_bd fun r3 er3 => ?_
          cases h9 : decide (r3.2 = 1) with
          | true =>
            refine q_RP_cT ?_
            refine q_RP_call (v := (some (.int 1))) (h2 := (q_kX (q_pt 32 3 1 73 r2 r3.1) c n)) rfl rfl ?_ ?_
            · refine q_Ca_of (Nat.le_of_ble_eq_true rfl) ?_
              refine q_Ru_seg (g2 := (2, [(0, .ref 64), (1, .int a1), (2, .int a2), (3, .int 0)], [.int 4, .int a1], (q_kX s c n))) 2 (fun _ _ => rfl) ?_
              refine q_Ru_call (v := none) (h2 := (q_kX s c n)) rfl rfl ?_ ?_
              · refine q_Ca_of (Nat.le_of_ble_eq_true rfl) ?_
                refine q_Ru_seg (g2 := (1, [(0, .int a1), (1, .int 4)], [.int a1], (q_kX s c n))) 1 (fun _ _ => rfl) ?_
                refine q_Ru_rsF (g2 := (4, [(0, .int a1), (1, .int 4)], [], (q_kX s c n))) rfl rfl h5 ?_
                refine q_Ru_seg (g2 := (6, [(0, .int a1), (1, .int 4)], [.int 4, .int a1], (q_kX s c n))) 2 (fun _ _ => rfl) ?_
                refine q_Ru_rsT (g2 := (19, [(0, .int a1), (1, .int 4)], [], (q_kX s c n))) rfl rfl h6 ?_
                exact q_Ru_ret rfl rfl
              show q_Ru _ _ _ (5, [(0, .ref 64), (1, .int a1), (2, .int a2), (3, .int 0)], [], (q_kX s c n)) _
              refine q_Ru_seg (g2 := (7, [(0, .ref 64), (1, .int a1), (2, .int a2), (3, .int 0)], [.int 4, .int a2], (q_kX s c n))) 2 (fun _ _ => rfl) ?_
              refine q_Ru_call (v := none) (h2 := (q_kX s c n)) rfl rfl ?_ ?_
              · refine q_Ca_of (Nat.le_of_ble_eq_true rfl) ?_
                refine q_Ru_seg (g2 := (1, [(0, .int a2), (1, .int 4)], [.int a2], (q_kX s c n))) 1 (fun _ _ => rfl) ?_
                refine q_Ru_rsF (g2 := (4, [(0, .int a2), (1, .int 4)], [], (q_kX s c n))) rfl rfl h7 ?_
                refine q_Ru_seg (g2 := (6, [(0, .int a2), (1, .int 4)], [.int 4, .int a2], (q_kX s c n))) 2 (fun _ _ => rfl) ?_
                refine q_Ru_rsT (g2 := (19, [(0, .int a2), (1, .int 4)], [], (q_kX s c n))) rfl rfl h8 ?_
                exact q_Ru_ret rfl rfl
              show q_Ru _ _ _ (10, [(0, .ref 64), (1, .int a1), (2, .int a2), (3, .int 0)], [], (q_kX s c n)) _
              refine q_Ru_seg (g2 := (31, [(4, .int 0), (0, .ref 64), (1, .int a1), (2, .int a2), (3, .int 0)], [.int 0, .int a2, .int a1, .int 9, .ref 98], (q_kX s c n))) 10 (fun _ _ => rfl) ?_
              refine q_Ru_call (v := none) (h2 := (q_kX r2 c n)) rfl rfl ?_ ?_
              · exact (q_cE (φ := (q_oSX c n)) er2 (dzt_X184_98 z L xs s c n 9 a1 a2 0)).le (Nat.le_of_ble_eq_true rfl)
              show q_Ru _ _ _ (34, [(4, .int 0), (0, .ref 64), (1, .int a1), (2, .int a2), (3, .int 0)], [], (q_kX r2 c n)) _
              refine q_Ru_seg (g2 := (44, [(4, .int 0), (0, .ref 64), (1, .int a1), (2, .int a2), (3, .int 0)], [.int 0, .int a2, .int a1, .int 9, .ref 65], (q_kX r2 c n))) 6 (fun _ _ => rfl) ?_
              refine q_Ru_call (v := (some (.int r3.2))) (h2 := (q_kX (q_pt 32 3 1 73 r2 r3.1) c n)) rfl rfl ?_ ?_
              · exact (q_emNX_1 rfl (fun _ => rfl) ((dzt_N79_64 (q_vw 32 1 73 r2) c n 9 a1 a2 0 r3 er3).tb q_TB0_le)).le (Nat.le_of_ble_eq_true rfl)
              show q_Ru _ _ _ (47, [(4, .int 0), (0, .ref 64), (1, .int a1), (2, .int a2), (3, .int 0)], [.int r3.2], (q_kX (q_pt 32 3 1 73 r2 r3.1) c n)) _
              refine q_Ru_seg (g2 := (48, [(4, .int 0), (0, .ref 64), (1, .int a1), (2, .int a2), (3, .int 0)], [.int 1, .int r3.2], (q_kX (q_pt 32 3 1 73 r2 r3.1) c n))) 1 (fun _ _ => rfl) ?_
              refine q_Ru_rsF (g2 := (51, [(4, .int 0), (0, .ref 64), (1, .int a1), (2, .int a2), (3, .int 0)], [], (q_kX (q_pt 32 3 1 73 r2 r3.1) c n))) rfl rfl (q_d_neT h9) ?_
              refine q_Ru_seg (g2 := (56, [(4, .int 0), (0, .ref 64), (1, .int a1), (2, .int a2), (3, .int 0)], [.int 1], (q_kX (q_pt 32 3 1 73 r2 r3.1) c n))) 2 (fun _ _ => rfl) ?_
              exact q_Ru_ret rfl rfl
            show q_RP _ _ _ (10, [(0, .ref 64), (1, .int a1), (2, .int a2), (3, .int 0), (4, .ref 236)], [.int 1, .int 0, .ref 236], (q_kX (q_pt 32 3 1 73 r2 r3.1) c n)) _ _
            refine q_RP_seg (g2 := (18, [(0, .ref 64), (1, .int a1), (2, .int a2), (3, .int 0), (4, .ref 236)], [.long 1, .int 0, .ref 236], (q_kX (q_pt 32 3 1 73 r2 r3.1) c n))) 3 (fun _ _ => rfl) ?_
            refine q_RP_rsT (g2 := (19, [(0, .ref 64), (1, .int a1), (2, .int a2), (3, .int 0), (4, .ref 236)], [], (q_kX (q_sL (q_pt 32 3 1 73 r2 r3.1) 172 (vp_updL ((q_pt 32 3 1 73 r2 r3.1).2.2 172) 0 1)) c n))) rfl q_wX172 rfl ?_
            refine q_RP_seg (g2 := (27, [(0, .ref 64), (1, .int a1), (2, .int a2), (3, .int 0), (4, .ref 236)], [.int 0], (q_kX (q_sL (q_pt 32 3 1 73 r2 r3.1) 172 (vp_updL ((q_pt 32 3 1 73 r2 r3.1).2.2 172) 0 1)) c n))) 2 (fun _ _ => rfl) ?_
            exact q_RP_ret rfl rfl rfl
          | false =>
            refine q_RP_cF ?_
            refine q_RP_call (v := (some (.int 0))) (h2 := (q_kX (q_pt 32 3 1 73 r2 r3.1) c n)) rfl rfl ?_ ?_
            · refine q_Ca_of (Nat.le_of_ble_eq_true rfl) ?_
              refine q_Ru_seg (g2 := (2, [(0, .ref 64), (1, .int a1), (2, .int a2), (3, .int 0)], [.int 4, .int a1], (q_kX s c n))) 2 (fun _ _ => rfl) ?_
              refine q_Ru_call (v := none) (h2 := (q_kX s c n)) rfl rfl ?_ ?_
              · refine q_Ca_of (Nat.le_of_ble_eq_true rfl) ?_
                refine q_Ru_seg (g2 := (1, [(0, .int a1), (1, .int 4)], [.int a1], (q_kX s c n))) 1 (fun _ _ => rfl) ?_
                refine q_Ru_rsF (g2 := (4, [(0, .int a1), (1, .int 4)], [], (q_kX s c n))) rfl rfl h5 ?_
                refine q_Ru_seg (g2 := (6, [(0, .int a1), (1, .int 4)], [.int 4, .int a1], (q_kX s c n))) 2 (fun _ _ => rfl) ?_
                refine q_Ru_rsT (g2 := (19, [(0, .int a1), (1, .int 4)], [], (q_kX s c n))) rfl rfl h6 ?_
                exact q_Ru_ret rfl rfl
              show q_Ru _ _ _ (5, [(0, .ref 64), (1, .int a1), (2, .int a2), (3, .int 0)], [], (q_kX s c n)) _
              refine q_Ru_seg (g2 := (7, [(0, .ref 64), (1, .int a1), (2, .int a2), (3, .int 0)], [.int 4, .int a2], (q_kX s c n))) 2 (fun _ _ => rfl) ?_
              refine q_Ru_call (v := none) (h2 := (q_kX s c n)) rfl rfl ?_ ?_
              · refine q_Ca_of (Nat.le_of_ble_eq_true rfl) ?_
                refine q_Ru_seg (g2 := (1, [(0, .int a2), (1, .int 4)], [.int a2], (q_kX s c n))) 1 (fun _ _ => rfl) ?_
                refine q_Ru_rsF (g2 := (4, [(0, .int a2), (1, .int 4)], [], (q_kX s c n))) rfl rfl h7 ?_
                refine q_Ru_seg (g2 := (6, [(0, .int a2), (1, .int 4)], [.int 4, .int a2], (q_kX s c n))) 2 (fun _ _ => rfl) ?_
                refine q_Ru_rsT (g2 := (19, [(0, .int a2), (1, .int 4)], [], (q_kX s c n))) rfl rfl h8 ?_
                exact q_Ru_ret rfl rfl
              show q_Ru _ _ _ (10, [(0, .ref 64), (1, .int a1), (2, .int a2), (3, .int 0)], [], (q_kX s c n)) _
              refine q_Ru_seg (g2 := (31, [(4, .int 0), (0, .ref 64), (1, .int a1), (2, .int a2), (3, .int 0)], [.int 0, .int a2, .int a1, .int 9, .ref 98], (q_kX s c n))) 10 (fun _ _ => rfl) ?_
              refine q_Ru_call (v := none) (h2 := (q_kX r2 c n)) rfl rfl ?_ ?_
              · exact (q_cE (φ := (q_oSX c n)) er2 (dzt_X184_98 z L xs s c n 9 a1 a2 0)).le (Nat.le_of_ble_eq_true rfl)
              show q_Ru _ _ _ (34, [(4, .int 0), (0, .ref 64), (1, .int a1), (2, .int a2), (3, .int 0)], [], (q_kX r2 c n)) _
              refine q_Ru_seg (g2 := (44, [(4, .int 0), (0, .ref 64), (1, .int a1), (2, .int a2), (3, .int 0)], [.int 0, .int a2, .int a1, .int 9, .ref 65], (q_kX r2 c n))) 6 (fun _ _ => rfl) ?_
              refine q_Ru_call (v := (some (.int r3.2))) (h2 := (q_kX (q_pt 32 3 1 73 r2 r3.1) c n)) rfl rfl ?_ ?_
              · exact (q_emNX_1 rfl (fun _ => rfl) ((dzt_N79_64 (q_vw 32 1 73 r2) c n 9 a1 a2 0 r3 er3).tb q_TB0_le)).le (Nat.le_of_ble_eq_true rfl)
              show q_Ru _ _ _ (47, [(4, .int 0), (0, .ref 64), (1, .int a1), (2, .int a2), (3, .int 0)], [.int r3.2], (q_kX (q_pt 32 3 1 73 r2 r3.1) c n)) _
              refine q_Ru_seg (g2 := (48, [(4, .int 0), (0, .ref 64), (1, .int a1), (2, .int a2), (3, .int 0)], [.int 1, .int r3.2], (q_kX (q_pt 32 3 1 73 r2 r3.1) c n))) 1 (fun _ _ => rfl) ?_
              refine q_Ru_rsT (g2 := (55, [(4, .int 0), (0, .ref 64), (1, .int a1), (2, .int a2), (3, .int 0)], [], (q_kX (q_pt 32 3 1 73 r2 r3.1) c n))) rfl rfl (q_d_neF h9) ?_
              refine q_Ru_seg (g2 := (56, [(4, .int 0), (0, .ref 64), (1, .int a1), (2, .int a2), (3, .int 0)], [.int 0], (q_kX (q_pt 32 3 1 73 r2 r3.1) c n))) 1 (fun _ _ => rfl) ?_
              exact q_Ru_ret rfl rfl
            show q_RP _ _ _ (10, [(0, .ref 64), (1, .int a1), (2, .int a2), (3, .int 0), (4, .ref 236)], [.int 0, .int 0, .ref 236], (q_kX (q_pt 32 3 1 73 r2 r3.1) c n)) _ _
            refine q_RP_seg (g2 := (18, [(0, .ref 64), (1, .int a1), (2, .int a2), (3, .int 0), (4, .ref 236)], [.long 0, .int 0, .ref 236], (q_kX (q_pt 32 3 1 73 r2 r3.1) c n))) 2 (fun _ _ => rfl) ?_
            refine q_RP_rsT (g2 := (19, [(0, .ref 64), (1, .int a1), (2, .int a2), (3, .int 0), (4, .ref 236)], [], (q_kX (q_sL (q_pt 32 3 1 73 r2 r3.1) 172 (vp_updL ((q_pt 32 3 1 73 r2 r3.1).2.2 172) 0 0)) c n))) rfl q_wX172 rfl ?_
            refine q_RP_seg (g2 := (27, [(0, .ref 64), (1, .int a1), (2, .int a2), (3, .int 0), (4, .ref 236)], [.int 0], (q_kX (q_sL (q_pt 32 3 1 73 r2 r3.1) 172 (vp_updL ((q_pt 32 3 1 73 r2 r3.1).2.2 172) 0 0)) c n))) 2 (fun _ _ => rfl) ?_
            exact q_RP_ret rfl rfl rfl
        | false =>
          refine q_RP_cF ?_
          refine q_RP_callH (E := "java/lang/IndexOutOfBoundsException") (tg := 24) (i := 5) (h2 := (q_kX s (c + 1) (n + 6))) rfl rfl ?_ rfl ?_
          · refine q_Ca_of (Nat.le_of_ble_eq_true rfl) ?_
            refine q_Ru_seg (g2 := (2, [(0, .ref 64), (1, .int a1), (2, .int a2), (3, .int 0)], [.int 4, .int a1], (q_kX s c n))) 2 (fun _ _ => rfl) ?_
            refine q_Ru_call (v := none) (h2 := (q_kX s c n)) rfl rfl ?_ ?_
            · refine q_Ca_of (Nat.le_of_ble_eq_true rfl) ?_
              refine q_Ru_seg (g2 := (1, [(0, .int a1), (1, .int 4)], [.int a1], (q_kX s c n))) 1 (fun _ _ => rfl) ?_
              refine q_Ru_rsF (g2 := (4, [(0, .int a1), (1, .int 4)], [], (q_kX s c n))) rfl rfl h5 ?_
              refine q_Ru_seg (g2 := (6, [(0, .int a1), (1, .int 4)], [.int 4, .int a1], (q_kX s c n))) 2 (fun _ _ => rfl) ?_
              refine q_Ru_rsT (g2 := (19, [(0, .int a1), (1, .int 4)], [], (q_kX s c n))) rfl rfl h6 ?_
              exact q_Ru_ret rfl rfl
            show q_Ru _ _ _ (5, [(0, .ref 64), (1, .int a1), (2, .int a2), (3, .int 0)], [], (q_kX s c n)) _
            refine q_Ru_seg (g2 := (7, [(0, .ref 64), (1, .int a1), (2, .int a2), (3, .int 0)], [.int 4, .int a2], (q_kX s c n))) 2 (fun _ _ => rfl) ?_
            refine q_Ru_callX (E := "java/lang/IndexOutOfBoundsException") (h2 := (q_kX s (c + 1) (n + 6))) rfl rfl ?_
            refine q_Ca_of (Nat.le_of_ble_eq_true rfl) ?_
            refine q_Ru_seg (g2 := (1, [(0, .int a2), (1, .int 4)], [.int a2], (q_kX s c n))) 1 (fun _ _ => rfl) ?_
            refine q_Ru_rsF (g2 := (4, [(0, .int a2), (1, .int 4)], [], (q_kX s c n))) rfl rfl h7 ?_
            refine q_Ru_seg (g2 := (6, [(0, .int a2), (1, .int 4)], [.int 4, .int a2], (q_kX s c n))) 2 (fun _ _ => rfl) ?_
            refine q_Ru_rsF (g2 := (9, [(0, .int a2), (1, .int 4)], [], (q_kX s c n))) rfl rfl h8 ?_
            exact q_Ru_thr rfl rfl
          show q_RP _ _ _ (24, [(0, .ref 64), (1, .int a1), (2, .int a2), (3, .int 0), (4, .ref 236)], [], (q_kX s (c + 1) (n + 6))) _ _
          refine q_RP_seg (g2 := (25, [(0, .ref 64), (1, .int a1), (2, .int a2), (3, .int 0), (4, .ref 236)], [.int 1], (q_kX s (c + 1) (n + 6)))) 1 (fun _ _ => rfl) ?_
          exact q_RP_ret rfl rfl rfl
    | false =>
      refine q_RP_cF ?_
      refine q_RP_callH (E := "java/lang/IndexOutOfBoundsException") (tg := 24) (i := 5) (h2 := (q_kX s (c + 1) (n + 6))) rfl rfl ?_ rfl ?_
      · refine q_Ca_of (Nat.le_of_ble_eq_true rfl) ?_
        refine q_Ru_seg (g2 := (2, [(0, .ref 64), (1, .int a1), (2, .int a2), (3, .int 0)], [.int 4, .int a1], (q_kX s c n))) 2 (fun _ _ => rfl) ?_
        refine q_Ru_callX (E := "java/lang/IndexOutOfBoundsException") (h2 := (q_kX s (c + 1) (n + 6))) rfl rfl ?_
        refine q_Ca_of (Nat.le_of_ble_eq_true rfl) ?_
        refine q_Ru_seg (g2 := (1, [(0, .int a1), (1, .int 4)], [.int a1], (q_kX s c n))) 1 (fun _ _ => rfl) ?_
        refine q_Ru_rsF (g2 := (4, [(0, .int a1), (1, .int 4)], [], (q_kX s c n))) rfl rfl h5 ?_
        refine q_Ru_seg (g2 := (6, [(0, .int a1), (1, .int 4)], [.int 4, .int a1], (q_kX s c n))) 2 (fun _ _ => rfl) ?_
        refine q_Ru_rsF (g2 := (9, [(0, .int a1), (1, .int 4)], [], (q_kX s c n))) rfl rfl h6 ?_
        exact q_Ru_thr rfl rfl
      show q_RP _ _ _ (24, [(0, .ref 64), (1, .int a1), (2, .int a2), (3, .int 0), (4, .ref 236)], [], (q_kX s (c + 1) (n + 6))) _ _
      refine q_RP_seg (g2 := (25, [(0, .ref 64), (1, .int a1), (2, .int a2), (3, .int 0), (4, .ref 236)], [.int 1], (q_kX s (c + 1) (n + 6)))) 1 (fun _ _ => rfl) ?_
      exact q_RP_ret rfl rfl rfl
end
section
-- 49.xc
def dz_X18_64_t_236 (s : q_S) (a1 : Int32) (a2 : Int32) : Option (q_S × Int32 × Nat) :=
  cond (decide (a1 < 0)) (some (s, 1, 1)) (cond (decide (a1 < 4)) (cond (decide (a2 < 0)) (some (s, 1, 1)) (cond (decide (a2 < 4)) (q_let (dz_X184_98 s 9 a1 a2 1) fun r2 => (dz_N79_64 (q_vw 32 1 73 r2) 9 a1 a2 1).bind fun r3 => cond (decide (r3.2 = 1)) (some ((q_sL (q_pt 32 3 1 73 r2 r3.1) 172 (vp_updL ((q_pt 32 3 1 73 r2 r3.1).2.2 172) 0 1)), 0, 0)) (some ((q_sL (q_pt 32 3 1 73 r2 r3.1) 172 (vp_updL ((q_pt 32 3 1 73 r2 r3.1).2.2 172) 0 0)), 0, 0))) (some (s, 1, 1)))) (some (s, 1, 1)))
set_option maxHeartbeats 4000000 in
theorem dzt_X18_64_t_236 (z L : Nat) (xs : Nat → Int32) (s : q_S) (c n : Nat) (a1 : Int32) (a2 : Int32) (x : q_S × Int32 × Nat) (h : dz_X18_64_t_236 s a1 a2 = some x) : q_Ca (q_TBs z L xs) 10 18 [.ref 64, .int a1, .int a2, .int 1, .ref 236] (q_kX s c n) ((q_oEX c n) x) := by
  refine q_CaP_of (φ := (q_oEX c n)) (Nat.le_of_ble_eq_true rfl) ?_ h
  clear h
  unfold dz_X18_64_t_236
  refine q_RP_seg (g2 := (7, [(0, .ref 64), (1, .int a1), (2, .int a2), (3, .int 1), (4, .ref 236)], [.int 1, .int a2, .int a1, .ref 64, .int 0, .ref 236], (q_kX s c n))) 6 (fun _ _ => rfl) ?_
  cases h5 : decide (a1 < 0) with
  | true =>
    refine q_RP_cT ?_
    refine q_RP_callH (E := "java/lang/IndexOutOfBoundsException") (tg := 24) (i := 5) (h2 := (q_kX s (c + 1) (n + 6))) rfl rfl ?_ rfl ?_
    · refine q_Ca_of (Nat.le_of_ble_eq_true rfl) ?_
      refine q_Ru_seg (g2 := (2, [(0, .ref 64), (1, .int a1), (2, .int a2), (3, .int 1)], [.int 4, .int a1], (q_kX s c n))) 2 (fun _ _ => rfl) ?_
      refine q_Ru_callX (E := "java/lang/IndexOutOfBoundsException") (h2 := (q_kX s (c + 1) (n + 6))) rfl rfl ?_
      refine q_Ca_of (Nat.le_of_ble_eq_true rfl) ?_
      refine q_Ru_seg (g2 := (1, [(0, .int a1), (1, .int 4)], [.int a1], (q_kX s c n))) 1 (fun _ _ => rfl) ?_
      refine q_Ru_rsT (g2 := (9, [(0, .int a1), (1, .int 4)], [], (q_kX s c n))) rfl rfl h5 ?_
      exact q_Ru_thr rfl rfl
    show q_RP _ _ _ (24, [(0, .ref 64), (1, .int a1), (2, .int a2), (3, .int 1), (4, .ref 236)], [], (q_kX s (c + 1) (n + 6))) _ _
    refine q_RP_seg (g2 := (25, [(0, .ref 64), (1, .int a1), (2, .int a2), (3, .int 1), (4, .ref 236)], [.int 1], (q_kX s (c + 1) (n + 6)))) 1 (fun _ _ => rfl) ?_
    exact q_RP_ret rfl rfl rfl
  | false =>
    refine q_RP_cF ?_
    cases h6 : decide (a1 < 4) with
    | true =>
      refine q_RP_cT ?_
      cases h7 : decide (a2 < 0) with
      | true =>
        refine q_RP_cT ?_
        refine q_RP_callH (E := "java/lang/IndexOutOfBoundsException") (tg := 24) (i := 5) (h2 := (q_kX s (c + 1) (n + 6))) rfl rfl ?_ rfl ?_
        · refine q_Ca_of (Nat.le_of_ble_eq_true rfl) ?_
          refine q_Ru_seg (g2 := (2, [(0, .ref 64), (1, .int a1), (2, .int a2), (3, .int 1)], [.int 4, .int a1], (q_kX s c n))) 2 (fun _ _ => rfl) ?_
          refine q_Ru_call (v := none) (h2 := (q_kX s c n)) rfl rfl ?_ ?_
          · refine q_Ca_of (Nat.le_of_ble_eq_true rfl) ?_
            refine q_Ru_seg (g2 := (1, [(0, .int a1), (1, .int 4)], [.int a1], (q_kX s c n))) 1 (fun _ _ => rfl) ?_
            refine q_Ru_rsF (g2 := (4, [(0, .int a1), (1, .int 4)], [], (q_kX s c n))) rfl rfl h5 ?_
            refine q_Ru_seg (g2 := (6, [(0, .int a1), (1, .int 4)], [.int 4, .int a1], (q_kX s c n))) 2 (fun _ _ => rfl) ?_
            refine q_Ru_rsT (g2 := (19, [(0, .int a1), (1, .int 4)], [], (q_kX s c n))) rfl rfl h6 ?_
            exact q_Ru_ret rfl rfl
          show q_Ru _ _ _ (5, [(0, .ref 64), (1, .int a1), (2, .int a2), (3, .int 1)], [], (q_kX s c n)) _
          refine q_Ru_seg (g2 := (7, [(0, .ref 64), (1, .int a1), (2, .int a2), (3, .int 1)], [.int 4, .int a2], (q_kX s c n))) 2 (fun _ _ => rfl) ?_
          refine q_Ru_callX (E := "java/lang/IndexOutOfBoundsException") (h2 := (q_kX s (c + 1) (n + 6))) rfl rfl ?_
          refine q_Ca_of (Nat.le_of_ble_eq_true rfl) ?_
          refine q_Ru_seg (g2 := (1, [(0, .int a2), (1, .int 4)], [.int a2], (q_kX s c n))) 1 (fun _ _ => rfl) ?_
          refine q_Ru_rsT (g2 := (9, [(0, .int a2), (1, .int 4)], [], (q_kX s c n))) rfl rfl h7 ?_
          exact q_Ru_thr rfl rfl
        show q_RP _ _ _ (24, [(0, .ref 64), (1, .int a1), (2, .int a2), (3, .int 1), (4, .ref 236)], [], (q_kX s (c + 1) (n + 6))) _ _
        refine q_RP_seg (g2 := (25, [(0, .ref 64), (1, .int a1), (2, .int a2), (3, .int 1), (4, .ref 236)], [.int 1], (q_kX s (c + 1) (n + 6)))) 1 (fun _ _ => rfl) ?_
        exact q_RP_ret rfl rfl rfl
      | false =>
        refine q_RP_cF ?_
        cases h8 : decide (a2 < 4) with
        | true =>
          refine q_RP_cT ?_
          generalize er2 : dz_X184_98 s 9 a1 a2 1 = r2
          refine q_RP_let ?_
          refine q_RP_bd fun r3 er3 => ?_
          cases h9 : decide (r3.2 = 1) with
          | true =>
            refine q_RP_cT ?_
            refine q_RP_call (v := (some (.int 1))) (h2 := (q_kX (q_pt 32 3 1 73 r2 r3.1) c n)) rfl rfl ?_ ?_
            · refine q_Ca_of (Nat.le_of_ble_eq_true rfl) ?_
              refine q_Ru_seg (g2 := (2, [(0, .ref 64), (1, .int a1), (2, .int a2), (3, .int 1)], [.int 4, .int a1], (q_kX s c n))) 2 (fun _ _ => rfl) ?_
              refine q_Ru_call (v := none) (h2 := (q_kX s c n)) rfl rfl ?_ ?_
              · refine q_Ca_of (Nat.le_of_ble_eq_true rfl) ?_
                refine q_Ru_seg (g2 := (1, [(0, .int a1), (1, .int 4)], [.int a1], (q_kX s c n))) 1 (fun _ _ => rfl) ?_
                refine q_Ru_rsF (g2 := (4, [(0, .int a1), (1, .int 4)], [], (q_kX s c n))) rfl rfl h5 ?_
                refine q_Ru_seg (g2 := (6, [(0, .int a1), (1, .int 4)], [.int 4, .int a1], (q_kX s c n))) 2 (fun _ _ => rfl) ?_
                refine q_Ru_rsT (g2 := (19, [(0, .int a1), (1, .int 4)], [], (q_kX s c n))) rfl rfl h6 ?_
                exact q_Ru_ret rfl rfl
              show q_Ru _ _ _ (5, [(0, .ref 64), (1, .int a1), (2, .int a2), (3, .int 1)], [], (q_kX s c n)) _
              refine q_Ru_seg (g2 := (7, [(0, .ref 64), (1, .int a1), (2, .int a2), (3, .int 1)], [.int 4, .int a2], (q_kX s c n))) 2 (fun _ _ => rfl) ?_
              refine q_Ru_call (v := none) (h2 := (q_kX s c n)) rfl rfl ?_ ?_
              · refine q_Ca_of (Nat.le_of_ble_eq_true rfl) ?_
                refine q_Ru_seg (g2 := (1, [(0, .int a2), (1, .int 4)], [.int a2], (q_kX s c n))) 1 (fun _ _ => rfl) ?_
                refine q_Ru_rsF (g2 := (4, [(0, .int a2), (1, .int 4)], [], (q_kX s c n))) rfl rfl h7 ?_
                refine q_Ru_seg (g2 := (6, [(0, .int a2), (1, .int 4)], [.int 4, .int a2], (q_kX s c n))) 2 (fun _ _ => rfl) ?_
                refine q_Ru_rsT (g2 := (19, [(0, .int a2), (1, .int 4)], [], (q_kX s c n))) rfl rfl h8 ?_
                exact q_Ru_ret rfl rfl
              show q_Ru _ _ _ (10, [(0, .ref 64), (1, .int a1), (2, .int a2), (3, .int 1)], [], (q_kX s c n)) _
              refine q_Ru_seg (g2 := (31, [(4, .int 1), (0, .ref 64), (1, .int a1), (2, .int a2), (3, .int 1)], [.int 1, .int a2, .int a1, .int 9, .ref 98], (q_kX s c n))) 11 (fun _ _ => rfl) ?_
              refine q_Ru_call (v := none) (h2 := (q_kX r2 c n)) rfl rfl ?_ ?_
              · exact (q_cE (φ := (q_oSX c n)) er2 (dzt_X184_98 z L xs s c n 9 a1 a2 1)).le (Nat.le_of_ble_eq_true rfl)
              show q_Ru _ _ _ (34, [(4, .int 1), (0, .ref 64), (1, .int a1), (2, .int a2), (3, .int 1)], [], (q_kX r2 c n)) _
              refine q_Ru_seg (g2 := (44, [(4, .int 1), (0, .ref 64), (1, .int a1), (2, .int a2), (3, .int 1)], [.int 1, .int a2, .int a1, .int 9, .ref 65], (q_kX r2 c n))) 6 (fun _ _ => rfl) ?_
              refine q_Ru_call (v := (some (.int r3.2))) (h2 := (q_kX (q_pt 32 3 1 73 r2 r3.1) c n)) rfl rfl ?_ ?_
              · exact (q_emNX_1 rfl (fun _ => rfl) ((dzt_N79_64 (q_vw 32 1 73 r2) c n 9 a1 a2 1 r3 er3).tb q_TB0_le)).le (Nat.le_of_ble_eq_true rfl)
              show q_Ru _ _ _ (47, [(4, .int 1), (0, .ref 64), (1, .int a1), (2, .int a2), (3, .int 1)], [.int r3.2], (q_kX (q_pt 32 3 1 73 r2 r3.1) c n)) _
              refine q_Ru_seg (g2 := (48, [(4, .int 1), (0, .ref 64), (1, .int a1), (2, .int a2), (3, .int 1)], [.int 1, .int r3.2], (q_kX (q_pt 32 3 1 73 r2 r3.1) c n))) 1 (fun _ _ => rfl) ?_
              refine q_Ru_rsF (g2 := (51, [(4, .int 1), (0, .ref 64), (1, .int a1), (2, .int a2), (3, .int 1)], [], (q_kX (q_pt 32 3 1 73 r2 r3.1) c n))) rfl rfl (q_d_neT h9) ?_
              refine q_Ru_seg (g2 := (56, [(4, .int 1), (0, .ref 64), (1, .int a1), (2, .int a2), (3, .int 1)], [.int 1], (q_kX (q_pt 32 3 1 73 r2 r3.1) c n))) 2 (fun _ _ => rfl) ?_
              exact q_Ru_ret rfl rfl
            show q_RP _ _ _ (10, [(0, .ref 64), (1, .int a1), (2, .int a2), (3, .int 1), (4, .ref 236)], [.int 1, .int 0, .ref 236], (q_kX (q_pt 32 3 1 73 r2 r3.1) c n)) _ _
            refine q_RP_seg (g2 := (18, [(0, .ref 64), (1, .int a1), (2, .int a2), (3, .int 1), (4, .ref 236)], [.long 1, .int 0, .ref 236], (q_kX (q_pt 32 3 1 73 r2 r3.1) c n))) 3 (fun _ _ => rfl) ?_
            refine q_RP_rsT (g2 := (19, [(0, .ref 64), (1, .int a1), (2, .int a2), (3, .int 1), (4, .ref 236)], [], (q_kX (q_sL (q_pt 32 3 1 73 r2 r3.1) 172 (vp_updL ((q_pt 32 3 1 73 r2 r3.1).2.2 172) 0 1)) c n))) rfl q_wX172 rfl ?_
            refine q_RP_seg (g2 := (27, [(0, .ref 64), (1, .int a1), (2, .int a2), (3, .int 1), (4, .ref 236)], [.int 0], (q_kX (q_sL (q_pt 32 3 1 73 r2 r3.1) 172 (vp_updL ((q_pt 32 3 1 73 r2 r3.1).2.2 172) 0 1)) c n))) 2 (fun _ _ => rfl) ?_
            exact q_RP_ret rfl rfl rfl
          | false =>
            refine q_RP_cF ?_
            refine q_RP_call (v := (some (.int 0))) (h2 := (q_kX (q_pt 32 3 1 73 r2 r3.1) c n)) rfl rfl ?_ ?_
            · refine q_Ca_of (Nat.le_of_ble_eq_true rfl) ?_
              refine q_Ru_seg (g2 := (2, [(0, .ref 64), (1, .int a1), (2, .int a2), (3, .int 1)], [.int 4, .int a1], (q_kX s c n))) 2 (fun _ _ => rfl) ?_
              refine q_Ru_call (v := none) (h2 := (q_kX s c n)) rfl rfl ?_ ?_
              · refine q_Ca_of (Nat.le_of_ble_eq_true rfl) ?_
                refine q_Ru_seg (g2 := (1, [(0, .int a1), (1, .int 4)], [.int a1], (q_kX s c n))) 1 (fun _ _ => rfl) ?_
                refine q_Ru_rsF (g2 := (4, [(0, .int a1), (1, .int 4)], [], (q_kX s c n))) rfl rfl h5 ?_
                refine q_Ru_seg (g2 := (6, [(0, .int a1), (1, .int 4)], [.int 4, .int a1], (q_kX s c n))) 2 (fun _ _ => rfl) ?_
                refine q_Ru_rsT (g2 := (19, [(0, .int a1), (1, .int 4)], [], (q_kX s c n))) rfl rfl h6 ?_
                exact q_Ru_ret rfl rfl
              show q_Ru _ _ _ (5, [(0, .ref 64), (1, .int a1), (2, .int a2), (3, .int 1)], [], (q_kX s c n)) _
              refine q_Ru_seg (g2 := (7, [(0, .ref 64), (1, .int a1), (2, .int a2), (3, .int 1)], [.int 4, .int a2], (q_kX s c n))) 2 (fun _ _ => rfl) ?_
              refine q_Ru_call (v := none) (h2 := (q_kX s c n)) rfl rfl ?_ ?_
              · refine q_Ca_of (Nat.le_of_ble_eq_true rfl) ?_
                refine q_Ru_seg (g2 := (1, [(0, .int a2), (1, .int 4)], [.int a2], (q_kX s c n))) 1 (fun _ _ => rfl) ?_
                refine q_Ru_rsF (g2 := (4, [(0, .int a2), (1, .int 4)], [], (q_kX s c n))) rfl rfl h7 ?_
                refine q_Ru_seg (g2 := (6, [(0, .int a2), (1, .int 4)], [.int 4, .int a2], (q_kX s c n))) 2 (fun _ _ => rfl) ?_
                refine q_Ru_rsT (g2 := (19, [(0, .int a2), (1, .int 4)], [], (q_kX s c n))) rfl rfl h8 ?_
                exact q_Ru_ret rfl rfl
              show q_Ru _ _ _ (10, [(0, .ref 64), (1, .int a1), (2, .int a2), (3, .int 1)], [], (q_kX s c n)) _
              refine q_Ru_seg (g2 := (31, [(4, .int 1), (0, .ref 64), (1, .int a1), (2, .int a2), (3, .int 1)], [.int 1, .int a2, .int a1, .int 9, .ref 98], (q_kX s c n))) 11 (fun _ _ => rfl) ?_
              refine q_Ru_call (v := none) (h2 := (q_kX r2 c n)) rfl rfl ?_ ?_
              · exact (q_cE (φ := (q_oSX c n)) er2 (dzt_X184_98 z L xs s c n 9 a1 a2 1)).le (Nat.le_of_ble_eq_true rfl)
              show q_Ru _ _ _ (34, [(4, .int 1), (0, .ref 64), (1, .int a1), (2, .int a2), (3, .int 1)], [], (q_kX r2 c n)) _
              refine q_Ru_seg (g2 := (44, [(4, .int 1), (0, .ref 64), (1, .int a1), (2, .int a2), (3, .int 1)], [.int 1, .int a2, .int a1, .int 9, .ref 65], (q_kX r2 c n))) 6 (fun _ _ => rfl) ?_
              refine q_Ru_call (v := (some (.int r3.2))) (h2 := (q_kX (q_pt 32 3 1 73 r2 r3.1) c n)) rfl rfl ?_ ?_
              · exact (q_emNX_1 rfl (fun _ => rfl) ((dzt_N79_64 (q_vw 32 1 73 r2) c n 9 a1 a2 1 r3 er3).tb q_TB0_le)).le (Nat.le_of_ble_eq_true rfl)
              show q_Ru _ _ _ (47, [(4, .int 1), (0, .ref 64), (1, .int a1), (2, .int a2), (3, .int 1)], [.int r3.2], (q_kX (q_pt 32 3 1 73 r2 r3.1) c n)) _
              refine q_Ru_seg (g2 := (48, [(4, .int 1), (0, .ref 64), (1, .int a1), (2, .int a2), (3, .int 1)], [.int 1, .int r3.2], (q_kX (q_pt 32 3 1 73 r2 r3.1) c n))) 1 (fun _ _ => rfl) ?_
              refine q_Ru_rsT (g2 := (55, [(4, .int 1), (0, .ref 64), (1, .int a1), (2, .int a2), (3, .int 1)], [], (q_kX (q_pt 32 3 1 73 r2 r3.1) c n))) rfl rfl (q_d_neF h9) ?_
              refine q_Ru_seg (g2 := (56, [(4, .int 1), (0, .ref 64), (1, .int a1), (2, .int a2), (3, .int 1)], [.int 0], (q_kX (q_pt 32 3 1 73 r2 r3.1) c n))) 1 (fun _ _ => rfl) ?_
              exact q_Ru_ret rfl rfl
            show q_RP _ _ _ (10, [(0, .ref 64), (1, .int a1), (2, .int a2), (3, .int 1), (4, .ref 236)], [.int 0, .int 0, .ref 236], (q_kX (q_pt 32 3 1 73 r2 r3.1) c n)) _ _
            refine q_RP_seg (g2 := (18, [(0, .ref 64), (1, .int a1), (2, .int a2), (3, .int 1), (4, .ref 236)], [.long 0, .int 0, .ref 236], (q_kX (q_pt 32 3 1 73 r2 r3.1) c n))) 2 (fun _ _ => rfl) ?_
            refine q_RP_rsT (g2 := (19, [(0, .ref 64), (1, .int a1), (2, .int a2), (3, .int 1), (4, .ref 236)], [], (q_kX (q_sL (q_pt 32 3 1 73 r2 r3.1) 172 (vp_updL ((q_pt 32 3 1 73 r2 r3.1).2.2 172) 0 0)) c n))) rfl q_wX172 rfl ?_
            refine q_RP_seg (g2 := (27, [(0, .ref 64), (1, .int a1), (2, .int a2), (3, .int 1), (4, .ref 236)], [.int 0], (q_kX (q_sL (q_pt 32 3 1 73 r2 r3.1) 172 (vp_updL ((q_pt 32 3 1 73 r2 r3.1).2.2 172) 0 0)) c n))) 2 (fun _ _ => rfl) ?_
            exact q_RP_ret rfl rfl rfl
        | false =>
          refine q_RP_cF ?_
          refine q_RP_callH (E := "java/lang/IndexOutOfBoundsException") (tg := 24) (i := 5) (h2 := (q_kX s (c + 1) (n + 6))) rfl rfl ?_ rfl ?_
          · refine q_Ca_of (Nat.le_of_ble_eq_true rfl) ?_
            refine q_Ru_seg (g2 := (2, [(0, .ref 64), (1, .int a1), (2, .int a2), (3, .int 1)], [.int 4, .int a1], (q_kX s c n))) 2 (fun _ _ => rfl) ?_
            refine q_Ru_call (v := none) (h2 := (q_kX s c n)) rfl rfl ?_ ?_
            · refine q_Ca_of (Nat.le_of_ble_eq_true rfl) ?_
              refine q_Ru_seg (g2 := (1, [(0, .int a1), (1, .int 4)], [.int a1], (q_kX s c n))) 1 (fun _ _ => rfl) ?_
              refine q_Ru_rsF (g2 := (4, [(0, .int a1), (1, .int 4)], [], (q_kX s c n))) rfl rfl h5 ?_
              refine q_Ru_seg (g2 := (6, [(0, .int a1), (1, .int 4)], [.int 4, .int a1], (q_kX s c n))) 2 (fun _ _ => rfl) ?_
              refine q_Ru_rsT (g2 := (19, [(0, .int a1), (1, .int 4)], [], (q_kX s c n))) rfl rfl h6 ?_
              exact q_Ru_ret rfl rfl
            show q_Ru _ _ _ (5, [(0, .ref 64), (1, .int a1), (2, .int a2), (3, .int 1)], [], (q_kX s c n)) _
            refine q_Ru_seg (g2 := (7, [(0, .ref 64), (1, .int a1), (2, .int a2), (3, .int 1)], [.int 4, .int a2], (q_kX s c n))) 2 (fun _ _ => rfl) ?_
            refine q_Ru_callX (E := "java/lang/IndexOutOfBoundsException") (h2 := (q_kX s (c + 1) (n + 6))) rfl rfl ?_
            refine q_Ca_of (Nat.le_of_ble_eq_true rfl) ?_
            refine q_Ru_seg (g2 := (1, [(0, .int a2), (1, .int 4)], [.int a2], (q_kX s c n))) 1 (fun _ _ => rfl) ?_
            refine q_Ru_rsF (g2 := (4, [(0, .int a2), (1, .int 4)], [], (q_kX s c n))) rfl rfl h7 ?_
            refine q_Ru_seg (g2 := (6, [(0, .int a2), (1, .int 4)], [.int 4, .int a2], (q_kX s c n))) 2 (fun _ _ => rfl) ?_
            refine q_Ru_rsF (g2 := (9, [(0, .int a2), (1, .int 4)], [], (q_kX s c n))) rfl rfl h8 ?_
            exact q_Ru_thr rfl rfl
          show q_RP _ _ _ (24, [(0, .ref 64), (1, .int a1), (2, .int a2), (3, .int 1), (4, .ref 236)], [], (q_kX s (c + 1) (n + 6))) _ _
          refine q_RP_seg (g2 := (25, [(0, .ref 64), (1, .int a1), (2, .int a2), (3, .int 1), (4, .ref 236)], [.int 1], (q_kX s (c + 1) (n + 6)))) 1 (fun _ _ => rfl) ?_
          exact q_RP_ret rfl rfl rfl
    | false =>
      refine q_RP_cF ?_
      refine q_RP_callH (E := "java/lang/IndexOutOfBoundsException") (tg := 24) (i := 5) (h2 := (q_kX s (c + 1) (n + 6))) rfl rfl ?_ rfl ?_
      · refine q_Ca_of (Nat.le_of_ble_eq_true rfl) ?_
        refine q_Ru_seg (g2 := (2, [(0, .ref 64), (1, .int a1), (2, .int a2), (3, .int 1)], [.int 4, .int a1], (q_kX s c n))) 2 (fun _ _ => rfl) ?_
        refine q_Ru_callX (E := "java/lang/IndexOutOfBoundsException") (h2 := (q_kX s (c + 1) (n + 6))) rfl rfl ?_
        refine q_Ca_of (Nat.le_of_ble_eq_true rfl) ?_
        refine q_Ru_seg (g2 := (1, [(0, .int a1), (1, .int 4)], [.int a1], (q_kX s c n))) 1 (fun _ _ => rfl) ?_
        refine q_Ru_rsF (g2 := (4, [(0, .int a1), (1, .int 4)], [], (q_kX s c n))) rfl rfl h5 ?_
        refine q_Ru_seg (g2 := (6, [(0, .int a1), (1, .int 4)], [.int 4, .int a1], (q_kX s c n))) 2 (fun _ _ => rfl) ?_
        refine q_Ru_rsF (g2 := (9, [(0, .int a1), (1, .int 4)], [], (q_kX s c n))) rfl rfl h6 ?_
        exact q_Ru_thr rfl rfl
      show q_RP _ _ _ (24, [(0, .ref 64), (1, .int a1), (2, .int a2), (3, .int 1), (4, .ref 236)], [], (q_kX s (c + 1) (n + 6))) _ _
      refine q_RP_seg (g2 := (25, [(0, .ref 64), (1, .int a1), (2, .int a2), (3, .int 1), (4, .ref 236)], [.int 1], (q_kX s (c + 1) (n + 6)))) 1 (fun _ _ => rfl) ?_
      exact q_RP_ret rfl rfl rfl
def dz_X19_64_236 (s : q_S) (a1 : Int32) : q_S × Int32 × Nat :=
  cond (decide (a1 < 0)) ((s, 1, 1)) (cond (decide (15 < a1)) ((s, 1, 1)) (((q_sL s 172 (vp_updL (s.2.2 172) 0 (((s.1 13) ((a1 &&& 15).toNatClampNeg)).toInt64))), 0, 0)))
set_option maxHeartbeats 4000000 in
theorem dzt_X19_64_236 (z L : Nat) (xs : Nat → Int32) (s : q_S) (c n : Nat) (a1 : Int32) : q_Ca (q_TBs z L xs) 3 19 [.ref 64, .int a1, .ref 236] (q_kX s c n) ((q_oEX c n) (dz_X19_64_236 s a1)) := by
  refine q_CaT_of (φ := (q_oEX c n)) (Nat.le_of_ble_eq_true rfl) ?_
  unfold dz_X19_64_236
  refine q_RT_seg (g2 := (4, [(0, .ref 64), (1, .int a1), (2, .ref 236)], [.int a1, .ref 64, .int 0, .ref 236], (q_kX s c n))) 4 (fun _ _ => rfl) ?_
  cases h1 : decide (a1 < 0) with
  | true =>
    refine q_RT_cT ?_
    refine q_RT_callH (E := "java/lang/IllegalArgumentException") (tg := 13) (i := 3) (h2 := (q_kX s (c + 1) (n + 6))) rfl rfl ?_ rfl ?_
    · refine q_Ca_of (Nat.le_of_ble_eq_true rfl) ?_
      refine q_Ru_seg (g2 := (4, [(0, .ref 64), (1, .int a1)], [.int 15, .int 0, .int a1], (q_kX s c n))) 3 (fun _ _ => rfl) ?_
      refine q_Ru_callX (E := "java/lang/IllegalArgumentException") (h2 := (q_kX s (c + 1) (n + 6))) rfl rfl ?_
      refine q_Ca_of (Nat.le_of_ble_eq_true rfl) ?_
      refine q_Ru_seg (g2 := (2, [(0, .int a1), (1, .int 0), (2, .int 15)], [.int 0, .int a1], (q_kX s c n))) 2 (fun _ _ => rfl) ?_
      refine q_Ru_rsT (g2 := (10, [(0, .int a1), (1, .int 0), (2, .int 15)], [], (q_kX s c n))) rfl rfl h1 ?_
      exact q_Ru_thr rfl rfl
    show q_RT _ _ _ (13, [(0, .ref 64), (1, .int a1), (2, .ref 236)], [], (q_kX s (c + 1) (n + 6))) _ _
    refine q_RT_seg (g2 := (14, [(0, .ref 64), (1, .int a1), (2, .ref 236)], [.int 1], (q_kX s (c + 1) (n + 6)))) 1 (fun _ _ => rfl) ?_
    exact q_RT_ret rfl rfl rfl
  | false =>
    refine q_RT_cF ?_
    cases h2 : decide (15 < a1) with
    | true =>
      refine q_RT_cT ?_
      refine q_RT_callH (E := "java/lang/IllegalArgumentException") (tg := 13) (i := 3) (h2 := (q_kX s (c + 1) (n + 6))) rfl rfl ?_ rfl ?_
      · refine q_Ca_of (Nat.le_of_ble_eq_true rfl) ?_
        refine q_Ru_seg (g2 := (4, [(0, .ref 64), (1, .int a1)], [.int 15, .int 0, .int a1], (q_kX s c n))) 3 (fun _ _ => rfl) ?_
        refine q_Ru_callX (E := "java/lang/IllegalArgumentException") (h2 := (q_kX s (c + 1) (n + 6))) rfl rfl ?_
        refine q_Ca_of (Nat.le_of_ble_eq_true rfl) ?_
        refine q_Ru_seg (g2 := (2, [(0, .int a1), (1, .int 0), (2, .int 15)], [.int 0, .int a1], (q_kX s c n))) 2 (fun _ _ => rfl) ?_
        refine q_Ru_rsF (g2 := (5, [(0, .int a1), (1, .int 0), (2, .int 15)], [], (q_kX s c n))) rfl rfl h1 ?_
        refine q_Ru_seg (g2 := (7, [(0, .int a1), (1, .int 0), (2, .int 15)], [.int 15, .int a1], (q_kX s c n))) 2 (fun _ _ => rfl) ?_
        refine q_Ru_rsF (g2 := (10, [(0, .int a1), (1, .int 0), (2, .int 15)], [], (q_kX s c n))) rfl rfl (q_d_geT h2) ?_
        exact q_Ru_thr rfl rfl
      show q_RT _ _ _ (13, [(0, .ref 64), (1, .int a1), (2, .ref 236)], [], (q_kX s (c + 1) (n + 6))) _ _
      refine q_RT_seg (g2 := (14, [(0, .ref 64), (1, .int a1), (2, .ref 236)], [.int 1], (q_kX s (c + 1) (n + 6)))) 1 (fun _ _ => rfl) ?_
      exact q_RT_ret rfl rfl rfl
    | false =>
      refine q_RT_cF ?_
      refine q_RT_call (v := (some (.int ((s.1 13) ((a1 &&& 15).toNatClampNeg))))) (h2 := (q_kX s c n)) rfl rfl ?_ ?_
      · refine q_Ca_of (Nat.le_of_ble_eq_true rfl) ?_
        refine q_Ru_seg (g2 := (4, [(0, .ref 64), (1, .int a1)], [.int 15, .int 0, .int a1], (q_kX s c n))) 3 (fun _ _ => rfl) ?_
        refine q_Ru_call (v := none) (h2 := (q_kX s c n)) rfl rfl ?_ ?_
        · refine q_Ca_of (Nat.le_of_ble_eq_true rfl) ?_
          refine q_Ru_seg (g2 := (2, [(0, .int a1), (1, .int 0), (2, .int 15)], [.int 0, .int a1], (q_kX s c n))) 2 (fun _ _ => rfl) ?_
          refine q_Ru_rsF (g2 := (5, [(0, .int a1), (1, .int 0), (2, .int 15)], [], (q_kX s c n))) rfl rfl h1 ?_
          refine q_Ru_seg (g2 := (7, [(0, .int a1), (1, .int 0), (2, .int 15)], [.int 15, .int a1], (q_kX s c n))) 2 (fun _ _ => rfl) ?_
          refine q_Ru_rsT (g2 := (20, [(0, .int a1), (1, .int 0), (2, .int 15)], [], (q_kX s c n))) rfl rfl (q_d_geF h2) ?_
          exact q_Ru_ret rfl rfl
        show q_Ru _ _ _ (7, [(0, .ref 64), (1, .int a1)], [], (q_kX s c n)) _
        refine q_Ru_seg (g2 := (24, [(0, .ref 64), (1, .int a1)], [.int (a1 &&& 15), .ref 77], (q_kX s c n))) 8 (fun _ _ => rfl) ?_
        refine q_Ru_rsT (g2 := (25, [(0, .ref 64), (1, .int a1)], [.int ((s.1 13) ((a1 &&& 15).toNatClampNeg))], (q_kX s c n))) rfl rfl (q_in_bd (x := a1 &&& 15) (n := 16) (U := 15) (L := 0) (q_and_lo a1 15) (q_and_hi a1 15 15)) ?_
        exact q_Ru_ret rfl rfl
      show q_RT _ _ _ (7, [(0, .ref 64), (1, .int a1), (2, .ref 236)], [.int ((s.1 13) ((a1 &&& 15).toNatClampNeg)), .int 0, .ref 236], (q_kX s c n)) _ _
      refine q_RT_seg (g2 := (8, [(0, .ref 64), (1, .int a1), (2, .ref 236)], [.long (((s.1 13) ((a1 &&& 15).toNatClampNeg)).toInt64), .int 0, .ref 236], (q_kX s c n))) 1 (fun _ _ => rfl) ?_
      refine q_RT_rsT (g2 := (9, [(0, .ref 64), (1, .int a1), (2, .ref 236)], [], (q_kX (q_sL s 172 (vp_updL (s.2.2 172) 0 (((s.1 13) ((a1 &&& 15).toNatClampNeg)).toInt64))) c n))) rfl q_wX172 rfl ?_
      refine q_RT_seg (g2 := (16, [(0, .ref 64), (1, .int a1), (2, .ref 236)], [.int 0], (q_kX (q_sL s 172 (vp_updL (s.2.2 172) 0 (((s.1 13) ((a1 &&& 15).toNatClampNeg)).toInt64))) c n))) 2 (fun _ _ => rfl) ?_
      exact q_RT_ret rfl rfl rfl
def dz_X20_64_236 (s : q_S) (a1 : Int32) : Option (q_S × Int32 × Nat) :=
  cond (decide (a1 < 0)) (some (s, 1, 1)) (cond (decide (15 < a1)) (some (s, 1, 1)) (q_let (dz_X184_98 s 10 a1 0 0) fun r2 => (dz_N79_64 (q_vw 32 1 73 r2) 10 a1 0 0).bind fun r3 => some ((q_sL (q_pt 32 3 1 73 r2 r3.1) 172 (vp_updL ((q_pt 32 3 1 73 r2 r3.1).2.2 172) 0 r3.2.toInt64)), 0, 0)))
set_option maxHeartbeats 4000000 in
theorem dzt_X20_64_236 (z L : Nat) (xs : Nat → Int32) (s : q_S) (c n : Nat) (a1 : Int32) (x : q_S × Int32 × Nat) (h : dz_X20_64_236 s a1 = some x) : q_Ca (q_TBs z L xs) 10 20 [.ref 64, .int a1, .ref 236] (q_kX s c n) ((q_oEX c n) x) := by
  refine q_CaP_of (φ := (q_oEX c n)) (Nat.le_of_ble_eq_true rfl) ?_ h
  clear h
  unfold dz_X20_64_236
  refine q_RP_seg (g2 := (4, [(0, .ref 64), (1, .int a1), (2, .ref 236)], [.int a1, .ref 64, .int 0, .ref 236], (q_kX s c n))) 4 (fun _ _ => rfl) ?_
  cases h3 : decide (a1 < 0) with
  | true =>
    refine q_RP_cT ?_
    refine q_RP_callH (E := "java/lang/IllegalArgumentException") (tg := 13) (i := 3) (h2 := (q_kX s (c + 1) (n + 6))) rfl rfl ?_ rfl ?_
    · refine q_Ca_of (Nat.le_of_ble_eq_true rfl) ?_
      refine q_Ru_seg (g2 := (4, [(0, .ref 64), (1, .int a1)], [.int 15, .int 0, .int a1], (q_kX s c n))) 3 (fun _ _ => rfl) ?_
      refine q_Ru_callX (E := "java/lang/IllegalArgumentException") (h2 := (q_kX s (c + 1) (n + 6))) rfl rfl ?_
      refine q_Ca_of (Nat.le_of_ble_eq_true rfl) ?_
      refine q_Ru_seg (g2 := (2, [(0, .int a1), (1, .int 0), (2, .int 15)], [.int 0, .int a1], (q_kX s c n))) 2 (fun _ _ => rfl) ?_
      refine q_Ru_rsT (g2 := (10, [(0, .int a1), (1, .int 0), (2, .int 15)], [], (q_kX s c n))) rfl rfl h3 ?_
      exact q_Ru_thr rfl rfl
    show q_RP _ _ _ (13, [(0, .ref 64), (1, .int a1), (2, .ref 236)], [], (q_kX s (c + 1) (n + 6))) _ _
    refine q_RP_seg (g2 := (14, [(0, .ref 64), (1, .int a1), (2, .ref 236)], [.int 1], (q_kX s (c + 1) (n + 6)))) 1 (fun _ _ => rfl) ?_
    exact q_RP_ret rfl rfl rfl
  | false =>
    refine q_RP_cF ?_
    cases h4 : decide (15 < a1) with
    | true =>
      refine q_RP_cT ?_
      refine q_RP_callH (E := "java/lang/IllegalArgumentException") (tg := 13) (i := 3) (h2 := (q_kX s (c + 1) (n + 6))) rfl rfl ?_ rfl ?_
      · refine q_Ca_of (Nat.le_of_ble_eq_true rfl) ?_
        refine q_Ru_seg (g2 := (4, [(0, .ref 64), (1, .int a1)], [.int 15, .int 0, .int a1], (q_kX s c n))) 3 (fun _ _ => rfl) ?_
        refine q_Ru_callX (E := "java/lang/IllegalArgumentException") (h2 := (q_kX s (c + 1) (n + 6))) rfl rfl ?_
        refine q_Ca_of (Nat.le_of_ble_eq_true rfl) ?_
        refine q_Ru_seg (g2 := (2, [(0, .int a1), (1, .int 0), (2, .int 15)], [.int 0, .int a1], (q_kX s c n))) 2 (fun _ _ => rfl) ?_
        refine q_Ru_rsF (g2 := (5, [(0, .int a1), (1, .int 0), (2, .int 15)], [], (q_kX s c n))) rfl rfl h3 ?_
        refine q_Ru_seg (g2 := (7, [(0, .int a1), (1, .int 0), (2, .int 15)], [.int 15, .int a1], (q_kX s c n))) 2 (fun _ _ => rfl) ?_
        refine q_Ru_rsF (g2 := (10, [(0, .int a1), (1, .int 0), (2, .int 15)], [], (q_kX s c n))) rfl rfl (q_d_geT h4) ?_
        exact q_Ru_thr rfl rfl
      show q_RP _ _ _ (13, [(0, .ref 64), (1, .int a1), (2, .ref 236)], [], (q_kX s (c + 1) (n + 6))) _ _
      refine q_RP_seg (g2 := (14, [(0, .ref 64), (1, .int a1), (2, .ref 236)], [.int 1], (q_kX s (c + 1) (n + 6)))) 1 (fun _ _ => rfl) ?_
      exact q_RP_ret rfl rfl rfl
    | false =>
      refine q_RP_cF ?_
      generalize er2 : dz_X184_98 s 10 a1 0 0 = r2
      refine q_RP_let ?_
      refine q_RP_bd fun r3 er3 => ?_
      refine q_RP_call (v := (some (.int r3.2))) (h2 := (q_kX (q_pt 32 3 1 73 r2 r3.1) c n)) rfl rfl ?_ ?_
      · refine q_Ca_of (Nat.le_of_ble_eq_true rfl) ?_
        refine q_Ru_seg (g2 := (4, [(0, .ref 64), (1, .int a1)], [.int 15, .int 0, .int a1], (q_kX s c n))) 3 (fun _ _ => rfl) ?_
        refine q_Ru_call (v := none) (h2 := (q_kX s c n)) rfl rfl ?_ ?_
        · refine q_Ca_of (Nat.le_of_ble_eq_true rfl) ?_
          refine q_Ru_seg (g2 := (2, [(0, .int a1), (1, .int 0), (2, .int 15)], [.int 0, .int a1], (q_kX s c n))) 2 (fun _ _ => rfl) ?_
          refine q_Ru_rsF (g2 := (5, [(0, .int a1), (1, .int 0), (2, .int 15)], [], (q_kX s c n))) rfl rfl h3 ?_
          refine q_Ru_seg (g2 := (7, [(0, .int a1), (1, .int 0), (2, .int 15)], [.int 15, .int a1], (q_kX s c n))) 2 (fun _ _ => rfl) ?_
          refine q_Ru_rsT (g2 := (20, [(0, .int a1), (1, .int 0), (2, .int 15)], [], (q_kX s c n))) rfl rfl (q_d_geF h4) ?_
          exact q_Ru_ret rfl rfl
        show q_Ru _ _ _ (7, [(0, .ref 64), (1, .int a1)], [], (q_kX s c n)) _
        refine q_Ru_seg (g2 := (16, [(0, .ref 64), (1, .int a1)], [.int 0, .int 0, .int a1, .int 10, .ref 98], (q_kX s c n))) 6 (fun _ _ => rfl) ?_
        refine q_Ru_call (v := none) (h2 := (q_kX r2 c n)) rfl rfl ?_ ?_
        · exact (q_cE (φ := (q_oSX c n)) er2 (dzt_X184_98 z L xs s c n 10 a1 0 0)).le (Nat.le_of_ble_eq_true rfl)
        show q_Ru _ _ _ (19, [(0, .ref 64), (1, .int a1)], [], (q_kX r2 c n)) _
        refine q_Ru_seg (g2 := (28, [(0, .ref 64), (1, .int a1)], [.int 0, .int 0, .int a1, .int 10, .ref 65], (q_kX r2 c n))) 6 (fun _ _ => rfl) ?_
        refine q_Ru_call (v := (some (.int r3.2))) (h2 := (q_kX (q_pt 32 3 1 73 r2 r3.1) c n)) rfl rfl ?_ ?_
        · exact (q_emNX_1 rfl (fun _ => rfl) ((dzt_N79_64 (q_vw 32 1 73 r2) c n 10 a1 0 0 r3 er3).tb q_TB0_le)).le (Nat.le_of_ble_eq_true rfl)
        show q_Ru _ _ _ (31, [(0, .ref 64), (1, .int a1)], [.int r3.2], (q_kX (q_pt 32 3 1 73 r2 r3.1) c n)) _
        exact q_Ru_ret rfl rfl
      show q_RP _ _ _ (7, [(0, .ref 64), (1, .int a1), (2, .ref 236)], [.int r3.2, .int 0, .ref 236], (q_kX (q_pt 32 3 1 73 r2 r3.1) c n)) _ _
      refine q_RP_seg (g2 := (8, [(0, .ref 64), (1, .int a1), (2, .ref 236)], [.long r3.2.toInt64, .int 0, .ref 236], (q_kX (q_pt 32 3 1 73 r2 r3.1) c n))) 1 (fun _ _ => rfl) ?_
      refine q_RP_rsT (g2 := (9, [(0, .ref 64), (1, .int a1), (2, .ref 236)], [], (q_kX (q_sL (q_pt 32 3 1 73 r2 r3.1) 172 (vp_updL ((q_pt 32 3 1 73 r2 r3.1).2.2 172) 0 r3.2.toInt64)) c n))) rfl q_wX172 rfl ?_
      refine q_RP_seg (g2 := (16, [(0, .ref 64), (1, .int a1), (2, .ref 236)], [.int 0], (q_kX (q_sL (q_pt 32 3 1 73 r2 r3.1) 172 (vp_updL ((q_pt 32 3 1 73 r2 r3.1).2.2 172) 0 r3.2.toInt64)) c n))) 2 (fun _ _ => rfl) ?_
      exact q_RP_ret rfl rfl rfl
def dz_X21_64_236 (s : q_S) (a1 : Int32) : Option (q_S × Int32 × Nat) :=
  cond (decide (a1 < 1)) (some (s, 1, 1)) (cond (decide (999 < a1)) (some (s, 1, 1)) (cond (decide (s.2.1 9 1 < 40)) (q_let (dz_X184_98 s 11 a1 0 0) fun r2 => (dz_N79_64 (q_vw 32 1 73 r2) 11 a1 0 0).bind fun r3 => some ((q_sL (q_pt 32 3 1 73 r2 r3.1) 172 (vp_updL ((q_pt 32 3 1 73 r2 r3.1).2.2 172) 0 r3.2.toInt64)), 0, 0)) (some (s, 2, 1))))
set_option maxHeartbeats 4000000 in
theorem dzt_X21_64_236 (z L : Nat) (xs : Nat → Int32) (s : q_S) (c n : Nat) (a1 : Int32) (x : q_S × Int32 × Nat) (h : dz_X21_64_236 s a1 = some x) : q_Ca (q_TBs z L xs) 10 21 [.ref 64, .int a1, .ref 236] (q_kX s c n) ((q_oEX c n) x) := by
  refine q_CaP_of (φ := (q_oEX c n)) (Nat.le_of_ble_eq_true rfl) ?_ h
  clear h
  unfold dz_X21_64_236
  refine q_RP_seg (g2 := (4, [(0, .ref 64), (1, .int a1), (2, .ref 236)], [.int a1, .ref 64, .int 0, .ref 236], (q_kX s c n))) 4 (fun _ _ => rfl) ?_
  cases h4 : decide (a1 < 1) with
  | true =>
    refine q_RP_cT ?_
    refine q_RP_callH (E := "java/lang/IllegalArgumentException") (tg := 13) (i := 3) (h2 := (q_kX s (c + 1) (n + 6))) rfl rfl ?_ rfl ?_
    · refine q_Ca_of (Nat.le_of_ble_eq_true rfl) ?_
      refine q_Ru_seg (g2 := (5, [(0, .ref 64), (1, .int a1)], [.int 999, .int 1, .int a1], (q_kX s c n))) 3 (fun _ _ => rfl) ?_
      refine q_Ru_callX (E := "java/lang/IllegalArgumentException") (h2 := (q_kX s (c + 1) (n + 6))) rfl rfl ?_
      refine q_Ca_of (Nat.le_of_ble_eq_true rfl) ?_
      refine q_Ru_seg (g2 := (2, [(0, .int a1), (1, .int 1), (2, .int 999)], [.int 1, .int a1], (q_kX s c n))) 2 (fun _ _ => rfl) ?_
      refine q_Ru_rsT (g2 := (10, [(0, .int a1), (1, .int 1), (2, .int 999)], [], (q_kX s c n))) rfl rfl h4 ?_
      exact q_Ru_thr rfl rfl
    show q_RP _ _ _ (13, [(0, .ref 64), (1, .int a1), (2, .ref 236)], [], (q_kX s (c + 1) (n + 6))) _ _
    refine q_RP_seg (g2 := (14, [(0, .ref 64), (1, .int a1), (2, .ref 236)], [.int 1], (q_kX s (c + 1) (n + 6)))) 1 (fun _ _ => rfl) ?_
    exact q_RP_ret rfl rfl rfl
  | false =>
    refine q_RP_cF ?_
    cases h5 : decide (999 < a1) with
    | true =>
      refine q_RP_cT ?_
      refine q_RP_callH (E := "java/lang/IllegalArgumentException") (tg := 13) (i := 3) (h2 := (q_kX s (c + 1) (n + 6))) rfl rfl ?_ rfl ?_
      · refine q_Ca_of (Nat.le_of_ble_eq_true rfl) ?_
        refine q_Ru_seg (g2 := (5, [(0, .ref 64), (1, .int a1)], [.int 999, .int 1, .int a1], (q_kX s c n))) 3 (fun _ _ => rfl) ?_
        refine q_Ru_callX (E := "java/lang/IllegalArgumentException") (h2 := (q_kX s (c + 1) (n + 6))) rfl rfl ?_
        refine q_Ca_of (Nat.le_of_ble_eq_true rfl) ?_
        refine q_Ru_seg (g2 := (2, [(0, .int a1), (1, .int 1), (2, .int 999)], [.int 1, .int a1], (q_kX s c n))) 2 (fun _ _ => rfl) ?_
        refine q_Ru_rsF (g2 := (5, [(0, .int a1), (1, .int 1), (2, .int 999)], [], (q_kX s c n))) rfl rfl h4 ?_
        refine q_Ru_seg (g2 := (7, [(0, .int a1), (1, .int 1), (2, .int 999)], [.int 999, .int a1], (q_kX s c n))) 2 (fun _ _ => rfl) ?_
        refine q_Ru_rsF (g2 := (10, [(0, .int a1), (1, .int 1), (2, .int 999)], [], (q_kX s c n))) rfl rfl (q_d_geT h5) ?_
        exact q_Ru_thr rfl rfl
      show q_RP _ _ _ (13, [(0, .ref 64), (1, .int a1), (2, .ref 236)], [], (q_kX s (c + 1) (n + 6))) _ _
      refine q_RP_seg (g2 := (14, [(0, .ref 64), (1, .int a1), (2, .ref 236)], [.int 1], (q_kX s (c + 1) (n + 6)))) 1 (fun _ _ => rfl) ?_
      exact q_RP_ret rfl rfl rfl
    | false =>
      refine q_RP_cF ?_
      cases h6 : decide (s.2.1 9 1 < 40) with
      | true =>
        refine q_RP_cT ?_
        generalize er2 : dz_X184_98 s 11 a1 0 0 = r2
        refine q_RP_let ?_
        refine q_RP_bd fun r3 er3 => ?_
        refine q_RP_call (v := (some (.int r3.2))) (h2 := (q_kX (q_pt 32 3 1 73 r2 r3.1) c n)) rfl rfl ?_ ?_
        · refine q_Ca_of (Nat.le_of_ble_eq_true rfl) ?_
          refine q_Ru_seg (g2 := (5, [(0, .ref 64), (1, .int a1)], [.int 999, .int 1, .int a1], (q_kX s c n))) 3 (fun _ _ => rfl) ?_
          refine q_Ru_call (v := none) (h2 := (q_kX s c n)) rfl rfl ?_ ?_
          · refine q_Ca_of (Nat.le_of_ble_eq_true rfl) ?_
            refine q_Ru_seg (g2 := (2, [(0, .int a1), (1, .int 1), (2, .int 999)], [.int 1, .int a1], (q_kX s c n))) 2 (fun _ _ => rfl) ?_
            refine q_Ru_rsF (g2 := (5, [(0, .int a1), (1, .int 1), (2, .int 999)], [], (q_kX s c n))) rfl rfl h4 ?_
            refine q_Ru_seg (g2 := (7, [(0, .int a1), (1, .int 1), (2, .int 999)], [.int 999, .int a1], (q_kX s c n))) 2 (fun _ _ => rfl) ?_
            refine q_Ru_rsT (g2 := (20, [(0, .int a1), (1, .int 1), (2, .int 999)], [], (q_kX s c n))) rfl rfl (q_d_geF h5) ?_
            exact q_Ru_ret rfl rfl
          show q_Ru _ _ _ (8, [(0, .ref 64), (1, .int a1)], [], (q_kX s c n)) _
          refine q_Ru_seg (g2 := (23, [(0, .ref 64), (1, .int a1)], [.int 40, .int (s.2.1 9 1)], (q_kX s c n))) 6 (fun _ _ => rfl) ?_
          refine q_Ru_rsT (g2 := (36, [(0, .ref 64), (1, .int a1)], [], (q_kX s c n))) rfl rfl h6 ?_
          refine q_Ru_seg (g2 := (45, [(0, .ref 64), (1, .int a1)], [.int 0, .int 0, .int a1, .int 11, .ref 98], (q_kX s c n))) 6 (fun _ _ => rfl) ?_
          refine q_Ru_call (v := none) (h2 := (q_kX r2 c n)) rfl rfl ?_ ?_
          · exact (q_cE (φ := (q_oSX c n)) er2 (dzt_X184_98 z L xs s c n 11 a1 0 0)).le (Nat.le_of_ble_eq_true rfl)
          show q_Ru _ _ _ (48, [(0, .ref 64), (1, .int a1)], [], (q_kX r2 c n)) _
          refine q_Ru_seg (g2 := (57, [(0, .ref 64), (1, .int a1)], [.int 0, .int 0, .int a1, .int 11, .ref 65], (q_kX r2 c n))) 6 (fun _ _ => rfl) ?_
          refine q_Ru_call (v := (some (.int r3.2))) (h2 := (q_kX (q_pt 32 3 1 73 r2 r3.1) c n)) rfl rfl ?_ ?_
          · exact (q_emNX_1 rfl (fun _ => rfl) ((dzt_N79_64 (q_vw 32 1 73 r2) c n 11 a1 0 0 r3 er3).tb q_TB0_le)).le (Nat.le_of_ble_eq_true rfl)
          show q_Ru _ _ _ (60, [(0, .ref 64), (1, .int a1)], [.int r3.2], (q_kX (q_pt 32 3 1 73 r2 r3.1) c n)) _
          exact q_Ru_ret rfl rfl
        show q_RP _ _ _ (7, [(0, .ref 64), (1, .int a1), (2, .ref 236)], [.int r3.2, .int 0, .ref 236], (q_kX (q_pt 32 3 1 73 r2 r3.1) c n)) _ _
        refine q_RP_seg (g2 := (8, [(0, .ref 64), (1, .int a1), (2, .ref 236)], [.long r3.2.toInt64, .int 0, .ref 236], (q_kX (q_pt 32 3 1 73 r2 r3.1) c n))) 1 (fun _ _ => rfl) ?_
        refine q_RP_rsT (g2 := (9, [(0, .ref 64), (1, .int a1), (2, .ref 236)], [], (q_kX (q_sL (q_pt 32 3 1 73 r2 r3.1) 172 (vp_updL ((q_pt 32 3 1 73 r2 r3.1).2.2 172) 0 r3.2.toInt64)) c n))) rfl q_wX172 rfl ?_
        refine q_RP_seg (g2 := (19, [(0, .ref 64), (1, .int a1), (2, .ref 236)], [.int 0], (q_kX (q_sL (q_pt 32 3 1 73 r2 r3.1) 172 (vp_updL ((q_pt 32 3 1 73 r2 r3.1).2.2 172) 0 r3.2.toInt64)) c n))) 2 (fun _ _ => rfl) ?_
        exact q_RP_ret rfl rfl rfl
      | false =>
        refine q_RP_cF ?_
        refine q_RP_callH (E := "java/lang/IllegalStateException") (tg := 16) (i := 3) (h2 := (q_kX s (c + 1) (n + 6))) rfl rfl ?_ rfl ?_
        · refine q_Ca_of (Nat.le_of_ble_eq_true rfl) ?_
          refine q_Ru_seg (g2 := (5, [(0, .ref 64), (1, .int a1)], [.int 999, .int 1, .int a1], (q_kX s c n))) 3 (fun _ _ => rfl) ?_
          refine q_Ru_call (v := none) (h2 := (q_kX s c n)) rfl rfl ?_ ?_
          · refine q_Ca_of (Nat.le_of_ble_eq_true rfl) ?_
            refine q_Ru_seg (g2 := (2, [(0, .int a1), (1, .int 1), (2, .int 999)], [.int 1, .int a1], (q_kX s c n))) 2 (fun _ _ => rfl) ?_
            refine q_Ru_rsF (g2 := (5, [(0, .int a1), (1, .int 1), (2, .int 999)], [], (q_kX s c n))) rfl rfl h4 ?_
            refine q_Ru_seg (g2 := (7, [(0, .int a1), (1, .int 1), (2, .int 999)], [.int 999, .int a1], (q_kX s c n))) 2 (fun _ _ => rfl) ?_
            refine q_Ru_rsT (g2 := (20, [(0, .int a1), (1, .int 1), (2, .int 999)], [], (q_kX s c n))) rfl rfl (q_d_geF h5) ?_
            exact q_Ru_ret rfl rfl
          show q_Ru _ _ _ (8, [(0, .ref 64), (1, .int a1)], [], (q_kX s c n)) _
          refine q_Ru_seg (g2 := (23, [(0, .ref 64), (1, .int a1)], [.int 40, .int (s.2.1 9 1)], (q_kX s c n))) 6 (fun _ _ => rfl) ?_
          refine q_Ru_rsF (g2 := (26, [(0, .ref 64), (1, .int a1)], [], (q_kX s c n))) rfl rfl h6 ?_
          exact q_Ru_thr rfl rfl
        show q_RP _ _ _ (16, [(0, .ref 64), (1, .int a1), (2, .ref 236)], [], (q_kX s (c + 1) (n + 6))) _ _
        refine q_RP_seg (g2 := (17, [(0, .ref 64), (1, .int a1), (2, .ref 236)], [.int 2], (q_kX s (c + 1) (n + 6)))) 1 (fun _ _ => rfl) ?_
        exact q_RP_ret rfl rfl rfl
def dz_X22_64_236 (s : q_S) : Option (q_S × Int32 × Nat) :=
  cond (decide (s.2.1 0 2 < 0)) (some (s, 1, 1)) (cond (decide (s.2.1 0 2 < 3)) (cond (decide (s.2.1 0 2 = 0)) ((dz_W77_64_96 (q_vw 32 76 1 s)).bind fun r1 => some ((q_sL (q_sI (q_pt 32 32 76 1 s r1) 0 2 1) 172 (vp_updL ((q_pt 32 32 76 1 s r1).2.2 172) 0 0)), 0, 0)) (cond (decide (s.2.1 0 2 = 1)) ((dz_W77_64_96 (q_vw 32 108 1 s)).bind fun r2 => some ((q_sL (q_sI (q_pt 32 32 108 1 s r2) 0 2 2) 172 (vp_updL ((q_pt 32 32 108 1 s r2).2.2 172) 0 1)), 0, 0)) (cond (decide (s.2.1 0 2 = 2)) ((dz_W77_64_96 (q_vw 32 140 1 s)).bind fun r3 => some ((q_sL (q_sI (q_pt 32 32 140 1 s r3) 0 2 3) 172 (vp_updL ((q_pt 32 32 140 1 s r3).2.2 172) 0 2)), 0, 0)) (none)))) (some (s, 1, 1)))
set_option maxHeartbeats 4000000 in
theorem dzt_X22_64_236 (z L : Nat) (xs : Nat → Int32) (s : q_S) (c n : Nat) (x : q_S × Int32 × Nat) (h : dz_X22_64_236 s = some x) : q_Ca (q_TBs z L xs) 7 22 [.ref 64, .ref 236] (q_kX s c n) ((q_oEX c n) x) := by
  refine q_CaP_of (φ := (q_oEX c n)) (Nat.le_of_ble_eq_true rfl) ?_ h
  clear h
  unfold dz_X22_64_236
  refine q_RP_seg (g2 := (3, [(0, .ref 64), (1, .ref 236)], [.ref 64, .int 0, .ref 236], (q_kX s c n))) 3 (fun _ _ => rfl) ?_
  cases h4 : decide (s.2.1 0 2 < 0) with
  | true =>
    refine q_RP_cT ?_
    refine q_RP_callH (E := "java/lang/IllegalStateException") (tg := 12) (i := 2) (h2 := (q_kX s (c + 1) (n + 6))) rfl rfl ?_ rfl ?_
    · refine q_Ca_of (Nat.le_of_ble_eq_true rfl) ?_
      refine q_Ru_seg (g2 := (6, [(1, .int (s.2.1 0 2)), (0, .ref 64)], [.int (s.2.1 0 2)], (q_kX s c n))) 4 (fun _ _ => rfl) ?_
      refine q_Ru_rsT (g2 := (14, [(1, .int (s.2.1 0 2)), (0, .ref 64)], [], (q_kX s c n))) rfl rfl h4 ?_
      exact q_Ru_thr rfl rfl
    show q_RP _ _ _ (12, [(0, .ref 64), (1, .ref 236)], [], (q_kX s (c + 1) (n + 6))) _ _
    refine q_RP_seg (g2 := (13, [(0, .ref 64), (1, .ref 236)], [.int 1], (q_kX s (c + 1) (n + 6)))) 1 (fun _ _ => rfl) ?_
    exact q_RP_ret rfl rfl rfl
  | false =>
    refine q_RP_cF ?_
    cases h5 : decide (s.2.1 0 2 < 3) with
    | true =>
      refine q_RP_cT ?_
      cases h6 : decide (s.2.1 0 2 = 0) with
      | true =>
        refine q_RP_cT ?_
        refine q_RP_bd fun r1 er1 => ?_
        refine q_RP_call (v := (some (.int 0))) (h2 := (q_kX (q_sI (q_pt 32 32 76 1 s r1) 0 2 1) c n)) rfl rfl ?_ ?_
        · refine q_Ca_of (Nat.le_of_ble_eq_true rfl) ?_
          refine q_Ru_seg (g2 := (4, [(0, .ref 64)], [.int (s.2.1 0 2)], (q_kX s c n))) 2 (fun _ _ => rfl) ?_
          rw [of_decide_eq_true h6]
          refine q_Ru_seg (g2 := (34, [(1, .int 0), (0, .ref 64)], [.ref 65, .ref 140], (q_kX s c n))) 12 (fun _ _ => rfl) ?_
          refine q_Ru_call (v := none) (h2 := (q_kX (q_pt 32 32 76 1 s r1) c n)) rfl rfl ?_ ?_
          · exact (q_emWX_76_1 rfl (fun _ => rfl) ((dzt_W77_64_96 (q_vw 32 76 1 s) c n r1 er1).tb q_TB0_le)).le (Nat.le_of_ble_eq_true rfl)
          show q_Ru _ _ _ (37, [(1, .int 0), (0, .ref 64)], [], (q_kX (q_pt 32 32 76 1 s r1) c n)) _
          refine q_Ru_seg (g2 := (41, [(1, .int 0), (0, .ref 64)], [.int 1, .ref 64], (q_kX (q_pt 32 32 76 1 s r1) c n))) 4 (fun _ _ => rfl) ?_
          refine q_Ru_st1 (g2 := (44, [(1, .int 0), (0, .ref 64)], [], (q_kX (q_sI (q_pt 32 32 76 1 s r1) 0 2 1) c n))) rfl q_pX0_2 ?_
          refine q_Ru_seg (g2 := (45, [(1, .int 0), (0, .ref 64)], [.int 0], (q_kX (q_sI (q_pt 32 32 76 1 s r1) 0 2 1) c n))) 1 (fun _ _ => rfl) ?_
          exact q_Ru_ret rfl rfl
        show q_RP _ _ _ (6, [(0, .ref 64), (1, .ref 236)], [.int 0, .int 0, .ref 236], (q_kX (q_sI (q_pt 32 32 76 1 s r1) 0 2 1) c n)) _ _
        refine q_RP_seg (g2 := (7, [(0, .ref 64), (1, .ref 236)], [.long 0, .int 0, .ref 236], (q_kX (q_sI (q_pt 32 32 76 1 s r1) 0 2 1) c n))) 1 (fun _ _ => rfl) ?_
        refine q_RP_rsT (g2 := (8, [(0, .ref 64), (1, .ref 236)], [], (q_kX (q_sL (q_sI (q_pt 32 32 76 1 s r1) 0 2 1) 172 (vp_updL ((q_pt 32 32 76 1 s r1).2.2 172) 0 0)) c n))) rfl q_wX172 rfl ?_
        refine q_RP_seg (g2 := (15, [(0, .ref 64), (1, .ref 236)], [.int 0], (q_kX (q_sL (q_sI (q_pt 32 32 76 1 s r1) 0 2 1) 172 (vp_updL ((q_pt 32 32 76 1 s r1).2.2 172) 0 0)) c n))) 2 (fun _ _ => rfl) ?_
        exact q_RP_ret rfl rfl rfl
      | false =>
        refine q_RP_cF ?_
        cases h7 : decide (s.2.1 0 2 = 1) with
        | true =>
          refine q_RP_cT ?_
          refine q_RP_bd fun r2 er2 => ?_
          refine q_RP_call (v := (some (.int 1))) (h2 := (q_kX (q_sI (q_pt 32 32 108 1 s r2) 0 2 2) c n)) rfl rfl ?_ ?_
          · refine q_Ca_of (Nat.le_of_ble_eq_true rfl) ?_
            refine q_Ru_seg (g2 := (4, [(0, .ref 64)], [.int (s.2.1 0 2)], (q_kX s c n))) 2 (fun _ _ => rfl) ?_
            rw [of_decide_eq_true h7]
            refine q_Ru_seg (g2 := (34, [(1, .int 1), (0, .ref 64)], [.ref 65, .ref 172], (q_kX s c n))) 12 (fun _ _ => rfl) ?_
            refine q_Ru_call (v := none) (h2 := (q_kX (q_pt 32 32 108 1 s r2) c n)) rfl rfl ?_ ?_
            · exact (q_emWX_108_1 rfl (fun _ => rfl) ((dzt_W77_64_96 (q_vw 32 108 1 s) c n r2 er2).tb q_TB0_le)).le (Nat.le_of_ble_eq_true rfl)
            show q_Ru _ _ _ (37, [(1, .int 1), (0, .ref 64)], [], (q_kX (q_pt 32 32 108 1 s r2) c n)) _
            refine q_Ru_seg (g2 := (41, [(1, .int 1), (0, .ref 64)], [.int 2, .ref 64], (q_kX (q_pt 32 32 108 1 s r2) c n))) 4 (fun _ _ => rfl) ?_
            refine q_Ru_st1 (g2 := (44, [(1, .int 1), (0, .ref 64)], [], (q_kX (q_sI (q_pt 32 32 108 1 s r2) 0 2 2) c n))) rfl q_pX0_2 ?_
            refine q_Ru_seg (g2 := (45, [(1, .int 1), (0, .ref 64)], [.int 1], (q_kX (q_sI (q_pt 32 32 108 1 s r2) 0 2 2) c n))) 1 (fun _ _ => rfl) ?_
            exact q_Ru_ret rfl rfl
          show q_RP _ _ _ (6, [(0, .ref 64), (1, .ref 236)], [.int 1, .int 0, .ref 236], (q_kX (q_sI (q_pt 32 32 108 1 s r2) 0 2 2) c n)) _ _
          refine q_RP_seg (g2 := (7, [(0, .ref 64), (1, .ref 236)], [.long 1, .int 0, .ref 236], (q_kX (q_sI (q_pt 32 32 108 1 s r2) 0 2 2) c n))) 1 (fun _ _ => rfl) ?_
          refine q_RP_rsT (g2 := (8, [(0, .ref 64), (1, .ref 236)], [], (q_kX (q_sL (q_sI (q_pt 32 32 108 1 s r2) 0 2 2) 172 (vp_updL ((q_pt 32 32 108 1 s r2).2.2 172) 0 1)) c n))) rfl q_wX172 rfl ?_
          refine q_RP_seg (g2 := (15, [(0, .ref 64), (1, .ref 236)], [.int 0], (q_kX (q_sL (q_sI (q_pt 32 32 108 1 s r2) 0 2 2) 172 (vp_updL ((q_pt 32 32 108 1 s r2).2.2 172) 0 1)) c n))) 2 (fun _ _ => rfl) ?_
          exact q_RP_ret rfl rfl rfl
        | false =>
          refine q_RP_cF ?_
          cases h8 : decide (s.2.1 0 2 = 2) with
          | true =>
            refine q_RP_cT ?_
            refine q_RP_bd fun r3 er3 => ?_
            refine q_RP_call (v := (some (.int 2))) (h2 := (q_kX (q_sI (q_pt 32 32 140 1 s r3) 0 2 3) c n)) rfl rfl ?_ ?_
            · refine q_Ca_of (Nat.le_of_ble_eq_true rfl) ?_
              refine q_Ru_seg (g2 := (4, [(0, .ref 64)], [.int (s.2.1 0 2)], (q_kX s c n))) 2 (fun _ _ => rfl) ?_
              rw [of_decide_eq_true h8]
              refine q_Ru_seg (g2 := (34, [(1, .int 2), (0, .ref 64)], [.ref 65, .ref 204], (q_kX s c n))) 12 (fun _ _ => rfl) ?_
              refine q_Ru_call (v := none) (h2 := (q_kX (q_pt 32 32 140 1 s r3) c n)) rfl rfl ?_ ?_
              · exact (q_emWX_140_1 rfl (fun _ => rfl) ((dzt_W77_64_96 (q_vw 32 140 1 s) c n r3 er3).tb q_TB0_le)).le (Nat.le_of_ble_eq_true rfl)
              show q_Ru _ _ _ (37, [(1, .int 2), (0, .ref 64)], [], (q_kX (q_pt 32 32 140 1 s r3) c n)) _
              refine q_Ru_seg (g2 := (41, [(1, .int 2), (0, .ref 64)], [.int 3, .ref 64], (q_kX (q_pt 32 32 140 1 s r3) c n))) 4 (fun _ _ => rfl) ?_
              refine q_Ru_st1 (g2 := (44, [(1, .int 2), (0, .ref 64)], [], (q_kX (q_sI (q_pt 32 32 140 1 s r3) 0 2 3) c n))) rfl q_pX0_2 ?_
              refine q_Ru_seg (g2 := (45, [(1, .int 2), (0, .ref 64)], [.int 2], (q_kX (q_sI (q_pt 32 32 140 1 s r3) 0 2 3) c n))) 1 (fun _ _ => rfl) ?_
              exact q_Ru_ret rfl rfl
            show q_RP _ _ _ (6, [(0, .ref 64), (1, .ref 236)], [.int 2, .int 0, .ref 236], (q_kX (q_sI (q_pt 32 32 140 1 s r3) 0 2 3) c n)) _ _
            refine q_RP_seg (g2 := (7, [(0, .ref 64), (1, .ref 236)], [.long 2, .int 0, .ref 236], (q_kX (q_sI (q_pt 32 32 140 1 s r3) 0 2 3) c n))) 1 (fun _ _ => rfl) ?_
            refine q_RP_rsT (g2 := (8, [(0, .ref 64), (1, .ref 236)], [], (q_kX (q_sL (q_sI (q_pt 32 32 140 1 s r3) 0 2 3) 172 (vp_updL ((q_pt 32 32 140 1 s r3).2.2 172) 0 2)) c n))) rfl q_wX172 rfl ?_
            refine q_RP_seg (g2 := (15, [(0, .ref 64), (1, .ref 236)], [.int 0], (q_kX (q_sL (q_sI (q_pt 32 32 140 1 s r3) 0 2 3) 172 (vp_updL ((q_pt 32 32 140 1 s r3).2.2 172) 0 2)) c n))) 2 (fun _ _ => rfl) ?_
            exact q_RP_ret rfl rfl rfl
          | false =>
            refine q_RP_cF ?_
            exact q_RP_no
    | false =>
      refine q_RP_cF ?_
      refine q_RP_callH (E := "java/lang/IllegalStateException") (tg := 12) (i := 2) (h2 := (q_kX s (c + 1) (n + 6))) rfl rfl ?_ rfl ?_
      · refine q_Ca_of (Nat.le_of_ble_eq_true rfl) ?_
        refine q_Ru_seg (g2 := (6, [(1, .int (s.2.1 0 2)), (0, .ref 64)], [.int (s.2.1 0 2)], (q_kX s c n))) 4 (fun _ _ => rfl) ?_
        refine q_Ru_rsF (g2 := (9, [(1, .int (s.2.1 0 2)), (0, .ref 64)], [], (q_kX s c n))) rfl rfl h4 ?_
        refine q_Ru_seg (g2 := (11, [(1, .int (s.2.1 0 2)), (0, .ref 64)], [.int 3, .int (s.2.1 0 2)], (q_kX s c n))) 2 (fun _ _ => rfl) ?_
        refine q_Ru_rsF (g2 := (14, [(1, .int (s.2.1 0 2)), (0, .ref 64)], [], (q_kX s c n))) rfl rfl h5 ?_
        exact q_Ru_thr rfl rfl
      show q_RP _ _ _ (12, [(0, .ref 64), (1, .ref 236)], [], (q_kX s (c + 1) (n + 6))) _ _
      refine q_RP_seg (g2 := (13, [(0, .ref 64), (1, .ref 236)], [.int 1], (q_kX s (c + 1) (n + 6)))) 1 (fun _ _ => rfl) ?_
      exact q_RP_ret rfl rfl rfl
def dz_X23_64_236 (s : q_S) (a1 : Int32) : Option (q_S × Int32 × Nat) :=
  cond (decide (a1 < 0)) (some (s, 1, 1)) (cond (decide (a1 < s.2.1 0 2)) (cond (decide (a1 < 3)) (cond (decide (a1 = 0)) (cond (decide (0 < s.2.1 0 2)) ((dz_W111_66_98 (q_vw 32 1 76 s)).bind fun r1 => (dz_W77_64_96 (q_vw 32 1 76 s)).bind fun r2 => some ((q_sL (q_sI (q_pt 32 32 1 76 s r2) 34 7 0) 172 (vp_updL ((q_pt 32 32 1 76 s r2).2.2 172) 0 r1.toInt64)), 0, 0)) (some (s, 1, 1))) (cond (decide (a1 = 1)) (cond (decide (1 < s.2.1 0 2)) ((dz_W111_66_98 (q_vw 32 1 108 s)).bind fun r3 => (dz_W77_64_96 (q_vw 32 1 108 s)).bind fun r4 => some ((q_sL (q_sI (q_pt 32 32 1 108 s r4) 34 7 0) 172 (vp_updL ((q_pt 32 32 1 108 s r4).2.2 172) 0 r3.toInt64)), 0, 0)) (some (s, 1, 1))) (cond (decide (a1 = 2)) (cond (decide (2 < s.2.1 0 2)) ((dz_W111_66_98 (q_vw 32 1 140 s)).bind fun r5 => (dz_W77_64_96 (q_vw 32 1 140 s)).bind fun r6 => some ((q_sL (q_sI (q_pt 32 32 1 140 s r6) 34 7 0) 172 (vp_updL ((q_pt 32 32 1 140 s r6).2.2 172) 0 r5.toInt64)), 0, 0)) (some (s, 1, 1))) (none)))) (some (s, 1, 1))) (some (s, 1, 1)))
set_option maxHeartbeats 4000000 in
theorem dzt_X23_64_236 (z L : Nat) (xs : Nat → Int32) (s : q_S) (c n : Nat) (a1 : Int32) (x : q_S × Int32 × Nat) (h : dz_X23_64_236 s a1 = some x) : q_Ca (q_TBs z L xs) 7 23 [.ref 64, .int a1, .ref 236] (q_kX s c n) ((q_oEX c n) x) := by
  refine q_CaP_of (φ := (q_oEX c n)) (Nat.le_of_ble_eq_true rfl) ?_ h
  clear h
  unfold dz_X23_64_236
  refine q_RP_seg (g2 := (4, [(0, .ref 64), (1, .int a1), (2, .ref 236)], [.int a1, .ref 64, .int 0, .ref 236], (q_kX s c n))) 4 (fun _ _ => rfl) ?_
  cases h6 : decide (a1 < 0) with
  | true =>
    refine q_RP_cT ?_
    refine q_RP_callH (E := "java/util/NoSuchElementException") (tg := 13) (i := 3) (h2 := (q_kX s (c + 1) (n + 6))) rfl rfl ?_ rfl ?_
    · refine q_Ca_of (Nat.le_of_ble_eq_true rfl) ?_
      refine q_Ru_seg (g2 := (2, [(0, .ref 64), (1, .int a1)], [.int a1, .ref 64], (q_kX s c n))) 2 (fun _ _ => rfl) ?_
      refine q_Ru_call (v := (some (.null))) (h2 := (q_kX s c n)) rfl rfl ?_ ?_
      · refine q_Ca_of (Nat.le_of_ble_eq_true rfl) ?_
        refine q_Ru_seg (g2 := (1, [(0, .ref 64), (1, .int a1)], [.int a1], (q_kX s c n))) 1 (fun _ _ => rfl) ?_
        refine q_Ru_rsT (g2 := (26, [(0, .ref 64), (1, .int a1)], [], (q_kX s c n))) rfl rfl h6 ?_
        refine q_Ru_seg (g2 := (27, [(0, .ref 64), (1, .int a1)], [.null], (q_kX s c n))) 1 (fun _ _ => rfl) ?_
        exact q_Ru_ret rfl rfl
      show q_Ru _ _ _ (5, [(0, .ref 64), (1, .int a1)], [.null], (q_kX s c n)) _
      refine q_Ru_seg (g2 := (10, [(2, .null), (0, .ref 64), (1, .int a1)], [], (q_kX s c n))) 3 (fun _ _ => rfl) ?_
      exact q_Ru_thr rfl rfl
    show q_RP _ _ _ (13, [(0, .ref 64), (1, .int a1), (2, .ref 236)], [], (q_kX s (c + 1) (n + 6))) _ _
    refine q_RP_seg (g2 := (14, [(0, .ref 64), (1, .int a1), (2, .ref 236)], [.int 1], (q_kX s (c + 1) (n + 6)))) 1 (fun _ _ => rfl) ?_
    exact q_RP_ret rfl rfl rfl
  | false =>
    refine q_RP_cF ?_
    cases h7 : decide (a1 < s.2.1 0 2) with
    | true =>
      refine q_RP_cT ?_
      cases h8 : decide (a1 < 3) with
      | true =>
        refine q_RP_cT ?_
        cases h9 : decide (a1 = 0) with
        | true =>
          refine q_RP_cT ?_
          cases h10 : decide (0 < s.2.1 0 2) with
          | true =>
            refine q_RP_cT ?_
            refine q_RP_bd fun r1 er1 => ?_
            refine q_RP_bd fun r2 er2 => ?_
            refine q_RP_call (v := (some (.int r1))) (h2 := (q_kX (q_sI (q_pt 32 32 1 76 s r2) 34 7 0) c n)) rfl rfl ?_ ?_
            · refine q_Ca_of (Nat.le_of_ble_eq_true rfl) ?_
              refine q_Ru_seg (g2 := (2, [(0, .ref 64), (1, .int a1)], [.int a1, .ref 64], (q_kX s c n))) 2 (fun _ _ => rfl) ?_
              rw [of_decide_eq_true h9]
              refine q_Ru_call (v := (some (.ref 140))) (h2 := (q_kX s c n)) rfl rfl ?_ ?_
              · refine q_Ca_of (Nat.le_of_ble_eq_true rfl) ?_
                refine q_Ru_seg (g2 := (9, [(0, .ref 64), (1, .int 0)], [.int (s.2.1 0 2), .int 0], (q_kX s c n))) 5 (fun _ _ => rfl) ?_
                refine q_Ru_rsF (g2 := (12, [(0, .ref 64), (1, .int 0)], [], (q_kX s c n))) rfl rfl (q_d_geT h10) ?_
                refine q_Ru_seg (g2 := (27, [(0, .ref 64), (1, .int 0)], [.ref 140], (q_kX s c n))) 8 (fun _ _ => rfl) ?_
                exact q_Ru_ret rfl rfl
              show q_Ru _ _ _ (5, [(0, .ref 64), (1, .int 0)], [.ref 140], (q_kX s c n)) _
              refine q_Ru_seg (g2 := (37, [(2, .ref 140), (0, .ref 64), (1, .int 0)], [.ref 142, .ref 67], (q_kX s c n))) 10 (fun _ _ => rfl) ?_
              refine q_Ru_call (v := (some (.int r1))) (h2 := (q_kX s c n)) rfl rfl ?_ ?_
              · exact (q_emWX_1_76p rfl (fun _ => rfl) ((dzt_W111_66_98 (q_vw 32 1 76 s) c n r1 er1).tb q_TB0_le)).le (Nat.le_of_ble_eq_true rfl)
              show q_Ru _ _ _ (40, [(2, .ref 140), (0, .ref 64), (1, .int 0)], [.int r1], (q_kX s c n)) _
              refine q_Ru_seg (g2 := (46, [(3, .int r1), (2, .ref 140), (0, .ref 64), (1, .int 0)], [.ref 140, .ref 65], (q_kX s c n))) 4 (fun _ _ => rfl) ?_
              refine q_Ru_call (v := none) (h2 := (q_kX (q_pt 32 32 1 76 s r2) c n)) rfl rfl ?_ ?_
              · exact (q_emWX_1_76 rfl (fun _ => rfl) ((dzt_W77_64_96 (q_vw 32 1 76 s) c n r2 er2).tb q_TB0_le)).le (Nat.le_of_ble_eq_true rfl)
              show q_Ru _ _ _ (49, [(3, .int r1), (2, .ref 140), (0, .ref 64), (1, .int 0)], [], (q_kX (q_pt 32 32 1 76 s r2) c n)) _
              refine q_Ru_seg (g2 := (54, [(3, .int r1), (2, .ref 140), (0, .ref 64), (1, .int 0)], [.int 0, .ref 98], (q_kX (q_pt 32 32 1 76 s r2) c n))) 3 (fun _ _ => rfl) ?_
              refine q_Ru_st1 (g2 := (57, [(3, .int r1), (2, .ref 140), (0, .ref 64), (1, .int 0)], [], (q_kX (q_sI (q_pt 32 32 1 76 s r2) 34 7 0) c n))) rfl q_pX34_7f ?_
              refine q_Ru_seg (g2 := (58, [(3, .int r1), (2, .ref 140), (0, .ref 64), (1, .int 0)], [.int r1], (q_kX (q_sI (q_pt 32 32 1 76 s r2) 34 7 0) c n))) 1 (fun _ _ => rfl) ?_
              exact q_Ru_ret rfl rfl
            show q_RP _ _ _ (7, [(0, .ref 64), (1, .int a1), (2, .ref 236)], [.int r1, .int 0, .ref 236], (q_kX (q_sI (q_pt 32 32 1 76 s r2) 34 7 0) c n)) _ _
            refine q_RP_seg (g2 := (8, [(0, .ref 64), (1, .int a1), (2, .ref 236)], [.long r1.toInt64, .int 0, .ref 236], (q_kX (q_sI (q_pt 32 32 1 76 s r2) 34 7 0) c n))) 1 (fun _ _ => rfl) ?_
            refine q_RP_rsT (g2 := (9, [(0, .ref 64), (1, .int a1), (2, .ref 236)], [], (q_kX (q_sL (q_sI (q_pt 32 32 1 76 s r2) 34 7 0) 172 (vp_updL ((q_pt 32 32 1 76 s r2).2.2 172) 0 r1.toInt64)) c n))) rfl q_wX172 rfl ?_
            refine q_RP_seg (g2 := (16, [(0, .ref 64), (1, .int a1), (2, .ref 236)], [.int 0], (q_kX (q_sL (q_sI (q_pt 32 32 1 76 s r2) 34 7 0) 172 (vp_updL ((q_pt 32 32 1 76 s r2).2.2 172) 0 r1.toInt64)) c n))) 2 (fun _ _ => rfl) ?_
            exact q_RP_ret rfl rfl rfl
          | false =>
            refine q_RP_cF ?_
            refine q_RP_callH (E := "java/util/NoSuchElementException") (tg := 13) (i := 3) (h2 := (q_kX s (c + 1) (n + 6))) rfl rfl ?_ rfl ?_
            · refine q_Ca_of (Nat.le_of_ble_eq_true rfl) ?_
              refine q_Ru_seg (g2 := (2, [(0, .ref 64), (1, .int a1)], [.int a1, .ref 64], (q_kX s c n))) 2 (fun _ _ => rfl) ?_
              rw [of_decide_eq_true h9]
              refine q_Ru_call (v := (some (.null))) (h2 := (q_kX s c n)) rfl rfl ?_ ?_
              · refine q_Ca_of (Nat.le_of_ble_eq_true rfl) ?_
                refine q_Ru_seg (g2 := (9, [(0, .ref 64), (1, .int 0)], [.int (s.2.1 0 2), .int 0], (q_kX s c n))) 5 (fun _ _ => rfl) ?_
                refine q_Ru_rsT (g2 := (26, [(0, .ref 64), (1, .int 0)], [], (q_kX s c n))) rfl rfl (q_d_geF h10) ?_
                refine q_Ru_seg (g2 := (27, [(0, .ref 64), (1, .int 0)], [.null], (q_kX s c n))) 1 (fun _ _ => rfl) ?_
                exact q_Ru_ret rfl rfl
              show q_Ru _ _ _ (5, [(0, .ref 64), (1, .int 0)], [.null], (q_kX s c n)) _
              refine q_Ru_seg (g2 := (10, [(2, .null), (0, .ref 64), (1, .int 0)], [], (q_kX s c n))) 3 (fun _ _ => rfl) ?_
              exact q_Ru_thr rfl rfl
            show q_RP _ _ _ (13, [(0, .ref 64), (1, .int a1), (2, .ref 236)], [], (q_kX s (c + 1) (n + 6))) _ _
            refine q_RP_seg (g2 := (14, [(0, .ref 64), (1, .int a1), (2, .ref 236)], [.int 1], (q_kX s (c + 1) (n + 6)))) 1 (fun _ _ => rfl) ?_
            exact q_RP_ret rfl rfl rfl
        | false =>
          refine q_RP_cF ?_
          cases h11 : decide (a1 = 1) with
          | true =>
            refine q_RP_cT ?_
            cases h12 : decide (1 < s.2.1 0 2) with
            | true =>
              refine q_RP_cT ?_
              refine q_RP_bd fun r3 er3 => ?_
              refine q_RP_bd fun r4 er4 => ?_
              refine q_RP_call (v := (some (.int r3))) (h2 := (q_kX (q_sI (q_pt 32 32 1 108 s r4) 34 7 0) c n)) rfl rfl ?_ ?_
              · refine q_Ca_of (Nat.le_of_ble_eq_true rfl) ?_
                refine q_Ru_seg (g2 := (2, [(0, .ref 64), (1, .int a1)], [.int a1, .ref 64], (q_kX s c n))) 2 (fun _ _ => rfl) ?_
                rw [of_decide_eq_true h11]
                refine q_Ru_call (v := (some (.ref 172))) (h2 := (q_kX s c n)) rfl rfl ?_ ?_
                · refine q_Ca_of (Nat.le_of_ble_eq_true rfl) ?_
                  refine q_Ru_seg (g2 := (9, [(0, .ref 64), (1, .int 1)], [.int (s.2.1 0 2), .int 1], (q_kX s c n))) 5 (fun _ _ => rfl) ?_
                  refine q_Ru_rsF (g2 := (12, [(0, .ref 64), (1, .int 1)], [], (q_kX s c n))) rfl rfl (q_d_geT h12) ?_
                  refine q_Ru_seg (g2 := (27, [(0, .ref 64), (1, .int 1)], [.ref 172], (q_kX s c n))) 8 (fun _ _ => rfl) ?_
                  exact q_Ru_ret rfl rfl
                show q_Ru _ _ _ (5, [(0, .ref 64), (1, .int 1)], [.ref 172], (q_kX s c n)) _
                refine q_Ru_seg (g2 := (37, [(2, .ref 172), (0, .ref 64), (1, .int 1)], [.ref 174, .ref 67], (q_kX s c n))) 10 (fun _ _ => rfl) ?_
                refine q_Ru_call (v := (some (.int r3))) (h2 := (q_kX s c n)) rfl rfl ?_ ?_
                · exact (q_emWX_1_108p rfl (fun _ => rfl) ((dzt_W111_66_98 (q_vw 32 1 108 s) c n r3 er3).tb q_TB0_le)).le (Nat.le_of_ble_eq_true rfl)
                show q_Ru _ _ _ (40, [(2, .ref 172), (0, .ref 64), (1, .int 1)], [.int r3], (q_kX s c n)) _
                refine q_Ru_seg (g2 := (46, [(3, .int r3), (2, .ref 172), (0, .ref 64), (1, .int 1)], [.ref 172, .ref 65], (q_kX s c n))) 4 (fun _ _ => rfl) ?_
                refine q_Ru_call (v := none) (h2 := (q_kX (q_pt 32 32 1 108 s r4) c n)) rfl rfl ?_ ?_
                · exact (q_emWX_1_108 rfl (fun _ => rfl) ((dzt_W77_64_96 (q_vw 32 1 108 s) c n r4 er4).tb q_TB0_le)).le (Nat.le_of_ble_eq_true rfl)
                show q_Ru _ _ _ (49, [(3, .int r3), (2, .ref 172), (0, .ref 64), (1, .int 1)], [], (q_kX (q_pt 32 32 1 108 s r4) c n)) _
                refine q_Ru_seg (g2 := (54, [(3, .int r3), (2, .ref 172), (0, .ref 64), (1, .int 1)], [.int 0, .ref 98], (q_kX (q_pt 32 32 1 108 s r4) c n))) 3 (fun _ _ => rfl) ?_
                refine q_Ru_st1 (g2 := (57, [(3, .int r3), (2, .ref 172), (0, .ref 64), (1, .int 1)], [], (q_kX (q_sI (q_pt 32 32 1 108 s r4) 34 7 0) c n))) rfl q_pX34_7f ?_
                refine q_Ru_seg (g2 := (58, [(3, .int r3), (2, .ref 172), (0, .ref 64), (1, .int 1)], [.int r3], (q_kX (q_sI (q_pt 32 32 1 108 s r4) 34 7 0) c n))) 1 (fun _ _ => rfl) ?_
                exact q_Ru_ret rfl rfl
              show q_RP _ _ _ (7, [(0, .ref 64), (1, .int a1), (2, .ref 236)], [.int r3, .int 0, .ref 236], (q_kX (q_sI (q_pt 32 32 1 108 s r4) 34 7 0) c n)) _ _
              refine q_RP_seg (g2 := (8, [(0, .ref 64), (1, .int a1), (2, .ref 236)], [.long r3.toInt64, .int 0, .ref 236], (q_kX (q_sI (q_pt 32 32 1 108 s r4) 34 7 0) c n))) 1 (fun _ _ => rfl) ?_
              refine q_RP_rsT (g2 := (9, [(0, .ref 64), (1, .int a1), (2, .ref 236)], [], (q_kX (q_sL (q_sI (q_pt 32 32 1 108 s r4) 34 7 0) 172 (vp_updL ((q_pt 32 32 1 108 s r4).2.2 172) 0 r3.toInt64)) c n))) rfl q_wX172 rfl ?_
              refine q_RP_seg (g2 := (16, [(0, .ref 64), (1, .int a1), (2, .ref 236)], [.int 0], (q_kX (q_sL (q_sI (q_pt 32 32 1 108 s r4) 34 7 0) 172 (vp_updL ((q_pt 32 32 1 108 s r4).2.2 172) 0 r3.toInt64)) c n))) 2 (fun _ _ => rfl) ?_
              exact q_RP_ret rfl rfl rfl
            | false =>
              refine q_RP_cF ?_
              refine q_RP_callH (E := "java/util/NoSuchElementException") (tg := 13) (i := 3) (h2 := (q_kX s (c + 1) (n + 6))) rfl rfl ?_ rfl ?_
              · refine q_Ca_of (Nat.le_of_ble_eq_true rfl) ?_
                refine q_Ru_seg (g2 := (2, [(0, .ref 64), (1, .int a1)], [.int a1, .ref 64], (q_kX s c n))) 2 (fun _ _ => rfl) ?_
                rw [of_decide_eq_true h11]
                refine q_Ru_call (v := (some (.null))) (h2 := (q_kX s c n)) rfl rfl ?_ ?_
                · refine q_Ca_of (Nat.le_of_ble_eq_true rfl) ?_
                  refine q_Ru_seg (g2 := (9, [(0, .ref 64), (1, .int 1)], [.int (s.2.1 0 2), .int 1], (q_kX s c n))) 5 (fun _ _ => rfl) ?_
                  refine q_Ru_rsT (g2 := (26, [(0, .ref 64), (1, .int 1)], [], (q_kX s c n))) rfl rfl (q_d_geF h12) ?_
                  refine q_Ru_seg (g2 := (27, [(0, .ref 64), (1, .int 1)], [.null], (q_kX s c n))) 1 (fun _ _ => rfl) ?_
                  exact q_Ru_ret rfl rfl
                show q_Ru _ _ _ (5, [(0, .ref 64), (1, .int 1)], [.null], (q_kX s c n)) _
                refine q_Ru_seg (g2 := (10, [(2, .null), (0, .ref 64), (1, .int 1)], [], (q_kX s c n))) 3 (fun _ _ => rfl) ?_
                exact q_Ru_thr rfl rfl
              show q_RP _ _ _ (13, [(0, .ref 64), (1, .int a1), (2, .ref 236)], [], (q_kX s (c + 1) (n + 6))) _ _
              refine q_RP_seg (g2 := (14, [(0, .ref 64), (1, .int a1), (2, .ref 236)], [.int 1], (q_kX s (c + 1) (n + 6)))) 1 (fun _ _ => rfl) ?_
              exact q_RP_ret rfl rfl rfl
          | false =>
            refine q_RP_cF ?_
            cases h13 : decide (a1 = 2) with
            | true =>
              refine q_RP_cT ?_
              cases h14 : decide (2 < s.2.1 0 2) with
              | true =>
                refine q_RP_cT ?_
                refine q_RP_bd fun r5 er5 => ?_
                refine q_RP_bd fun r6 er6 => ?_
                refine q_RP_call (v := (some (.int r5))) (h2 := (q_kX (q_sI (q_pt 32 32 1 140 s r6) 34 7 0) c n)) rfl rfl ?_ ?_
                · refine q_Ca_of (Nat.le_of_ble_eq_true rfl) ?_
                  refine q_Ru_seg (g2 := (2, [(0, .ref 64), (1, .int a1)], [.int a1, .ref 64], (q_kX s c n))) 2 (fun _ _ => rfl) ?_
                  rw [of_decide_eq_true h13]
                  refine q_Ru_call (v := (some (.ref 204))) (h2 := (q_kX s c n)) rfl rfl ?_ ?_
                  · refine q_Ca_of (Nat.le_of_ble_eq_true rfl) ?_
                    refine q_Ru_seg (g2 := (9, [(0, .ref 64), (1, .int 2)], [.int (s.2.1 0 2), .int 2], (q_kX s c n))) 5 (fun _ _ => rfl) ?_
                    refine q_Ru_rsF (g2 := (12, [(0, .ref 64), (1, .int 2)], [], (q_kX s c n))) rfl rfl (q_d_geT h14) ?_
                    refine q_Ru_seg (g2 := (27, [(0, .ref 64), (1, .int 2)], [.ref 204], (q_kX s c n))) 8 (fun _ _ => rfl) ?_
                    exact q_Ru_ret rfl rfl
                  show q_Ru _ _ _ (5, [(0, .ref 64), (1, .int 2)], [.ref 204], (q_kX s c n)) _
                  refine q_Ru_seg (g2 := (37, [(2, .ref 204), (0, .ref 64), (1, .int 2)], [.ref 206, .ref 67], (q_kX s c n))) 10 (fun _ _ => rfl) ?_
                  refine q_Ru_call (v := (some (.int r5))) (h2 := (q_kX s c n)) rfl rfl ?_ ?_
                  · exact (q_emWX_1_140p rfl (fun _ => rfl) ((dzt_W111_66_98 (q_vw 32 1 140 s) c n r5 er5).tb q_TB0_le)).le (Nat.le_of_ble_eq_true rfl)
                  show q_Ru _ _ _ (40, [(2, .ref 204), (0, .ref 64), (1, .int 2)], [.int r5], (q_kX s c n)) _
                  refine q_Ru_seg (g2 := (46, [(3, .int r5), (2, .ref 204), (0, .ref 64), (1, .int 2)], [.ref 204, .ref 65], (q_kX s c n))) 4 (fun _ _ => rfl) ?_
                  refine q_Ru_call (v := none) (h2 := (q_kX (q_pt 32 32 1 140 s r6) c n)) rfl rfl ?_ ?_
                  · exact (q_emWX_1_140 rfl (fun _ => rfl) ((dzt_W77_64_96 (q_vw 32 1 140 s) c n r6 er6).tb q_TB0_le)).le (Nat.le_of_ble_eq_true rfl)
                  show q_Ru _ _ _ (49, [(3, .int r5), (2, .ref 204), (0, .ref 64), (1, .int 2)], [], (q_kX (q_pt 32 32 1 140 s r6) c n)) _
                  refine q_Ru_seg (g2 := (54, [(3, .int r5), (2, .ref 204), (0, .ref 64), (1, .int 2)], [.int 0, .ref 98], (q_kX (q_pt 32 32 1 140 s r6) c n))) 3 (fun _ _ => rfl) ?_
                  refine q_Ru_st1 (g2 := (57, [(3, .int r5), (2, .ref 204), (0, .ref 64), (1, .int 2)], [], (q_kX (q_sI (q_pt 32 32 1 140 s r6) 34 7 0) c n))) rfl q_pX34_7f ?_
                  refine q_Ru_seg (g2 := (58, [(3, .int r5), (2, .ref 204), (0, .ref 64), (1, .int 2)], [.int r5], (q_kX (q_sI (q_pt 32 32 1 140 s r6) 34 7 0) c n))) 1 (fun _ _ => rfl) ?_
                  exact q_Ru_ret rfl rfl
                show q_RP _ _ _ (7, [(0, .ref 64), (1, .int a1), (2, .ref 236)], [.int r5, .int 0, .ref 236], (q_kX (q_sI (q_pt 32 32 1 140 s r6) 34 7 0) c n)) _ _
                refine q_RP_seg (g2 := (8, [(0, .ref 64), (1, .int a1), (2, .ref 236)], [.long r5.toInt64, .int 0, .ref 236], (q_kX (q_sI (q_pt 32 32 1 140 s r6) 34 7 0) c n))) 1 (fun _ _ => rfl) ?_
                refine q_RP_rsT (g2 := (9, [(0, .ref 64), (1, .int a1), (2, .ref 236)], [], (q_kX (q_sL (q_sI (q_pt 32 32 1 140 s r6) 34 7 0) 172 (vp_updL ((q_pt 32 32 1 140 s r6).2.2 172) 0 r5.toInt64)) c n))) rfl q_wX172 rfl ?_
                refine q_RP_seg (g2 := (16, [(0, .ref 64), (1, .int a1), (2, .ref 236)], [.int 0], (q_kX (q_sL (q_sI (q_pt 32 32 1 140 s r6) 34 7 0) 172 (vp_updL ((q_pt 32 32 1 140 s r6).2.2 172) 0 r5.toInt64)) c n))) 2 (fun _ _ => rfl) ?_
                exact q_RP_ret rfl rfl rfl
              | false =>
                refine q_RP_cF ?_
                refine q_RP_callH (E := "java/util/NoSuchElementException") (tg := 13) (i := 3) (h2 := (q_kX s (c + 1) (n + 6))) rfl rfl ?_ rfl ?_
                · refine q_Ca_of (Nat.le_of_ble_eq_true rfl) ?_
                  refine q_Ru_seg (g2 := (2, [(0, .ref 64), (1, .int a1)], [.int a1, .ref 64], (q_kX s c n))) 2 (fun _ _ => rfl) ?_
                  rw [of_decide_eq_true h13]
                  refine q_Ru_call (v := (some (.null))) (h2 := (q_kX s c n)) rfl rfl ?_ ?_
                  · refine q_Ca_of (Nat.le_of_ble_eq_true rfl) ?_
                    refine q_Ru_seg (g2 := (9, [(0, .ref 64), (1, .int 2)], [.int (s.2.1 0 2), .int 2], (q_kX s c n))) 5 (fun _ _ => rfl) ?_
                    refine q_Ru_rsT (g2 := (26, [(0, .ref 64), (1, .int 2)], [], (q_kX s c n))) rfl rfl (q_d_geF h14) ?_
                    refine q_Ru_seg (g2 := (27, [(0, .ref 64), (1, .int 2)], [.null], (q_kX s c n))) 1 (fun _ _ => rfl) ?_
                    exact q_Ru_ret rfl rfl
                  show q_Ru _ _ _ (5, [(0, .ref 64), (1, .int 2)], [.null], (q_kX s c n)) _
                  refine q_Ru_seg (g2 := (10, [(2, .null), (0, .ref 64), (1, .int 2)], [], (q_kX s c n))) 3 (fun _ _ => rfl) ?_
                  exact q_Ru_thr rfl rfl
                show q_RP _ _ _ (13, [(0, .ref 64), (1, .int a1), (2, .ref 236)], [], (q_kX s (c + 1) (n + 6))) _ _
                refine q_RP_seg (g2 := (14, [(0, .ref 64), (1, .int a1), (2, .ref 236)], [.int 1], (q_kX s (c + 1) (n + 6)))) 1 (fun _ _ => rfl) ?_
                exact q_RP_ret rfl rfl rfl
            | false =>
              refine q_RP_cF ?_
              exact q_RP_no
      | false =>
        refine q_RP_cF ?_
        refine q_RP_callH (E := "java/util/NoSuchElementException") (tg := 13) (i := 3) (h2 := (q_kX s (c + 1) (n + 6))) rfl rfl ?_ rfl ?_
        · refine q_Ca_of (Nat.le_of_ble_eq_true rfl) ?_
          refine q_Ru_seg (g2 := (2, [(0, .ref 64), (1, .int a1)], [.int a1, .ref 64], (q_kX s c n))) 2 (fun _ _ => rfl) ?_
          refine q_Ru_call (v := (some (.null))) (h2 := (q_kX s c n)) rfl rfl ?_ ?_
          · refine q_Ca_of (Nat.le_of_ble_eq_true rfl) ?_
            refine q_Ru_seg (g2 := (1, [(0, .ref 64), (1, .int a1)], [.int a1], (q_kX s c n))) 1 (fun _ _ => rfl) ?_
            refine q_Ru_rsF (g2 := (4, [(0, .ref 64), (1, .int a1)], [], (q_kX s c n))) rfl rfl h6 ?_
            refine q_Ru_seg (g2 := (9, [(0, .ref 64), (1, .int a1)], [.int (s.2.1 0 2), .int a1], (q_kX s c n))) 3 (fun _ _ => rfl) ?_
            refine q_Ru_rsF (g2 := (12, [(0, .ref 64), (1, .int a1)], [], (q_kX s c n))) rfl rfl (q_d_geT h7) ?_
            refine q_Ru_seg (g2 := (14, [(0, .ref 64), (1, .int a1)], [.int 3, .int a1], (q_kX s c n))) 2 (fun _ _ => rfl) ?_
            refine q_Ru_rsT (g2 := (26, [(0, .ref 64), (1, .int a1)], [], (q_kX s c n))) rfl rfl (q_d_geF h8) ?_
            refine q_Ru_seg (g2 := (27, [(0, .ref 64), (1, .int a1)], [.null], (q_kX s c n))) 1 (fun _ _ => rfl) ?_
            exact q_Ru_ret rfl rfl
          show q_Ru _ _ _ (5, [(0, .ref 64), (1, .int a1)], [.null], (q_kX s c n)) _
          refine q_Ru_seg (g2 := (10, [(2, .null), (0, .ref 64), (1, .int a1)], [], (q_kX s c n))) 3 (fun _ _ => rfl) ?_
          exact q_Ru_thr rfl rfl
        show q_RP _ _ _ (13, [(0, .ref 64), (1, .int a1), (2, .ref 236)], [], (q_kX s (c + 1) (n + 6))) _ _
        refine q_RP_seg (g2 := (14, [(0, .ref 64), (1, .int a1), (2, .ref 236)], [.int 1], (q_kX s (c + 1) (n + 6)))) 1 (fun _ _ => rfl) ?_
        exact q_RP_ret rfl rfl rfl
    | false =>
      refine q_RP_cF ?_
      refine q_RP_callH (E := "java/util/NoSuchElementException") (tg := 13) (i := 3) (h2 := (q_kX s (c + 1) (n + 6))) rfl rfl ?_ rfl ?_
      · refine q_Ca_of (Nat.le_of_ble_eq_true rfl) ?_
        refine q_Ru_seg (g2 := (2, [(0, .ref 64), (1, .int a1)], [.int a1, .ref 64], (q_kX s c n))) 2 (fun _ _ => rfl) ?_
        refine q_Ru_call (v := (some (.null))) (h2 := (q_kX s c n)) rfl rfl ?_ ?_
        · refine q_Ca_of (Nat.le_of_ble_eq_true rfl) ?_
          refine q_Ru_seg (g2 := (1, [(0, .ref 64), (1, .int a1)], [.int a1], (q_kX s c n))) 1 (fun _ _ => rfl) ?_
          refine q_Ru_rsF (g2 := (4, [(0, .ref 64), (1, .int a1)], [], (q_kX s c n))) rfl rfl h6 ?_
          refine q_Ru_seg (g2 := (9, [(0, .ref 64), (1, .int a1)], [.int (s.2.1 0 2), .int a1], (q_kX s c n))) 3 (fun _ _ => rfl) ?_
          refine q_Ru_rsT (g2 := (26, [(0, .ref 64), (1, .int a1)], [], (q_kX s c n))) rfl rfl (q_d_geF h7) ?_
          refine q_Ru_seg (g2 := (27, [(0, .ref 64), (1, .int a1)], [.null], (q_kX s c n))) 1 (fun _ _ => rfl) ?_
          exact q_Ru_ret rfl rfl
        show q_Ru _ _ _ (5, [(0, .ref 64), (1, .int a1)], [.null], (q_kX s c n)) _
        refine q_Ru_seg (g2 := (10, [(2, .null), (0, .ref 64), (1, .int a1)], [], (q_kX s c n))) 3 (fun _ _ => rfl) ?_
        exact q_Ru_thr rfl rfl
      show q_RP _ _ _ (13, [(0, .ref 64), (1, .int a1), (2, .ref 236)], [], (q_kX s (c + 1) (n + 6))) _ _
      refine q_RP_seg (g2 := (14, [(0, .ref 64), (1, .int a1), (2, .ref 236)], [.int 1], (q_kX s (c + 1) (n + 6)))) 1 (fun _ _ => rfl) ?_
      exact q_RP_ret rfl rfl rfl
def dz_X24_64_236 (s : q_S) (a1 : Int32) : Option (q_S × Int32 × Nat) :=
  cond (decide (a1 < 0)) (some (s, 1, 1)) (cond (decide (a1 < s.2.1 0 2)) (cond (decide (a1 < 3)) (cond (decide (a1 = 0)) (cond (decide (0 < s.2.1 0 2)) ((dz_W111_66_98 (q_vw 32 1 76 s)).bind fun r1 => some ((q_sL s 172 (vp_updL (s.2.2 172) 0 r1.toInt64)), 0, 0)) (some (s, 1, 1))) (cond (decide (a1 = 1)) (cond (decide (1 < s.2.1 0 2)) ((dz_W111_66_98 (q_vw 32 1 108 s)).bind fun r2 => some ((q_sL s 172 (vp_updL (s.2.2 172) 0 r2.toInt64)), 0, 0)) (some (s, 1, 1))) (cond (decide (a1 = 2)) (cond (decide (2 < s.2.1 0 2)) ((dz_W111_66_98 (q_vw 32 1 140 s)).bind fun r3 => some ((q_sL s 172 (vp_updL (s.2.2 172) 0 r3.toInt64)), 0, 0)) (some (s, 1, 1))) (none)))) (some (s, 1, 1))) (some (s, 1, 1)))
set_option maxHeartbeats 4000000 in
theorem dzt_X24_64_236 (z L : Nat) (xs : Nat → Int32) (s : q_S) (c n : Nat) (a1 : Int32) (x : q_S × Int32 × Nat) (h : dz_X24_64_236 s a1 = some x) : q_Ca (q_TBs z L xs) 4 24 [.ref 64, .int a1, .ref 236] (q_kX s c n) ((q_oEX c n) x) := by
  refine q_CaP_of (φ := (q_oEX c n)) (Nat.le_of_ble_eq_true rfl) ?_ h
  clear h
  unfold dz_X24_64_236
  refine q_RP_seg (g2 := (4, [(0, .ref 64), (1, .int a1), (2, .ref 236)], [.int a1, .ref 64, .int 0, .ref 236], (q_kX s c n))) 4 (fun _ _ => rfl) ?_
  cases h6 : decide (a1 < 0) with
  | true =>
    refine q_RP_cT ?_
    refine q_RP_callH (E := "java/util/NoSuchElementException") (tg := 13) (i := 3) (h2 := (q_kX s (c + 1) (n + 6))) rfl rfl ?_ rfl ?_
    · refine q_Ca_of (Nat.le_of_ble_eq_true rfl) ?_
      refine q_Ru_seg (g2 := (2, [(0, .ref 64), (1, .int a1)], [.int a1, .ref 64], (q_kX s c n))) 2 (fun _ _ => rfl) ?_
      refine q_Ru_call (v := (some (.null))) (h2 := (q_kX s c n)) rfl rfl ?_ ?_
      · refine q_Ca_of (Nat.le_of_ble_eq_true rfl) ?_
        refine q_Ru_seg (g2 := (1, [(0, .ref 64), (1, .int a1)], [.int a1], (q_kX s c n))) 1 (fun _ _ => rfl) ?_
        refine q_Ru_rsT (g2 := (26, [(0, .ref 64), (1, .int a1)], [], (q_kX s c n))) rfl rfl h6 ?_
        refine q_Ru_seg (g2 := (27, [(0, .ref 64), (1, .int a1)], [.null], (q_kX s c n))) 1 (fun _ _ => rfl) ?_
        exact q_Ru_ret rfl rfl
      show q_Ru _ _ _ (5, [(0, .ref 64), (1, .int a1)], [.null], (q_kX s c n)) _
      refine q_Ru_seg (g2 := (10, [(2, .null), (0, .ref 64), (1, .int a1)], [], (q_kX s c n))) 3 (fun _ _ => rfl) ?_
      exact q_Ru_thr rfl rfl
    show q_RP _ _ _ (13, [(0, .ref 64), (1, .int a1), (2, .ref 236)], [], (q_kX s (c + 1) (n + 6))) _ _
    refine q_RP_seg (g2 := (14, [(0, .ref 64), (1, .int a1), (2, .ref 236)], [.int 1], (q_kX s (c + 1) (n + 6)))) 1 (fun _ _ => rfl) ?_
    exact q_RP_ret rfl rfl rfl
  | false =>
    refine q_RP_cF ?_
    cases h7 : decide (a1 < s.2.1 0 2) with
    | true =>
      refine q_RP_cT ?_
      cases h8 : decide (a1 < 3) with
      | true =>
        refine q_RP_cT ?_
        cases h9 : decide (a1 = 0) with
        | true =>
          refine q_RP_cT ?_
          cases h10 : decide (0 < s.2.1 0 2) with
          | true =>
            refine q_RP_cT ?_
            refine q_RP_bd fun r1 er1 => ?_
            refine q_RP_call (v := (some (.int r1))) (h2 := (q_kX s c n)) rfl rfl ?_ ?_
            · refine q_Ca_of (Nat.le_of_ble_eq_true rfl) ?_
              refine q_Ru_seg (g2 := (2, [(0, .ref 64), (1, .int a1)], [.int a1, .ref 64], (q_kX s c n))) 2 (fun _ _ => rfl) ?_
              rw [of_decide_eq_true h9]
              refine q_Ru_call (v := (some (.ref 140))) (h2 := (q_kX s c n)) rfl rfl ?_ ?_
              · refine q_Ca_of (Nat.le_of_ble_eq_true rfl) ?_
                refine q_Ru_seg (g2 := (9, [(0, .ref 64), (1, .int 0)], [.int (s.2.1 0 2), .int 0], (q_kX s c n))) 5 (fun _ _ => rfl) ?_
                refine q_Ru_rsF (g2 := (12, [(0, .ref 64), (1, .int 0)], [], (q_kX s c n))) rfl rfl (q_d_geT h10) ?_
                refine q_Ru_seg (g2 := (27, [(0, .ref 64), (1, .int 0)], [.ref 140], (q_kX s c n))) 8 (fun _ _ => rfl) ?_
                exact q_Ru_ret rfl rfl
              show q_Ru _ _ _ (5, [(0, .ref 64), (1, .int 0)], [.ref 140], (q_kX s c n)) _
              refine q_Ru_seg (g2 := (37, [(2, .ref 140), (0, .ref 64), (1, .int 0)], [.ref 142, .ref 67], (q_kX s c n))) 10 (fun _ _ => rfl) ?_
              refine q_Ru_call (v := (some (.int r1))) (h2 := (q_kX s c n)) rfl rfl ?_ ?_
              · exact (q_emWX_1_76p rfl (fun _ => rfl) ((dzt_W111_66_98 (q_vw 32 1 76 s) c n r1 er1).tb q_TB0_le)).le (Nat.le_of_ble_eq_true rfl)
              show q_Ru _ _ _ (40, [(2, .ref 140), (0, .ref 64), (1, .int 0)], [.int r1], (q_kX s c n)) _
              exact q_Ru_ret rfl rfl
            show q_RP _ _ _ (7, [(0, .ref 64), (1, .int a1), (2, .ref 236)], [.int r1, .int 0, .ref 236], (q_kX s c n)) _ _
            refine q_RP_seg (g2 := (8, [(0, .ref 64), (1, .int a1), (2, .ref 236)], [.long r1.toInt64, .int 0, .ref 236], (q_kX s c n))) 1 (fun _ _ => rfl) ?_
            refine q_RP_rsT (g2 := (9, [(0, .ref 64), (1, .int a1), (2, .ref 236)], [], (q_kX (q_sL s 172 (vp_updL (s.2.2 172) 0 r1.toInt64)) c n))) rfl q_wX172 rfl ?_
            refine q_RP_seg (g2 := (16, [(0, .ref 64), (1, .int a1), (2, .ref 236)], [.int 0], (q_kX (q_sL s 172 (vp_updL (s.2.2 172) 0 r1.toInt64)) c n))) 2 (fun _ _ => rfl) ?_
            exact q_RP_ret rfl rfl rfl
          | false =>
            refine q_RP_cF ?_
            refine q_RP_callH (E := "java/util/NoSuchElementException") (tg := 13) (i := 3) (h2 := (q_kX s (c + 1) (n + 6))) rfl rfl ?_ rfl ?_
            · refine q_Ca_of (Nat.le_of_ble_eq_true rfl) ?_
              refine q_Ru_seg (g2 := (2, [(0, .ref 64), (1, .int a1)], [.int a1, .ref 64], (q_kX s c n))) 2 (fun _ _ => rfl) ?_
              rw [of_decide_eq_true h9]
              refine q_Ru_call (v := (some (.null))) (h2 := (q_kX s c n)) rfl rfl ?_ ?_
              · refine q_Ca_of (Nat.le_of_ble_eq_true rfl) ?_
                refine q_Ru_seg (g2 := (9, [(0, .ref 64), (1, .int 0)], [.int (s.2.1 0 2), .int 0], (q_kX s c n))) 5 (fun _ _ => rfl) ?_
                refine q_Ru_rsT (g2 := (26, [(0, .ref 64), (1, .int 0)], [], (q_kX s c n))) rfl rfl (q_d_geF h10) ?_
                refine q_Ru_seg (g2 := (27, [(0, .ref 64), (1, .int 0)], [.null], (q_kX s c n))) 1 (fun _ _ => rfl) ?_
                exact q_Ru_ret rfl rfl
              show q_Ru _ _ _ (5, [(0, .ref 64), (1, .int 0)], [.null], (q_kX s c n)) _
              refine q_Ru_seg (g2 := (10, [(2, .null), (0, .ref 64), (1, .int 0)], [], (q_kX s c n))) 3 (fun _ _ => rfl) ?_
              exact q_Ru_thr rfl rfl
            show q_RP _ _ _ (13, [(0, .ref 64), (1, .int a1), (2, .ref 236)], [], (q_kX s (c + 1) (n + 6))) _ _
            refine q_RP_seg (g2 := (14, [(0, .ref 64), (1, .int a1), (2, .ref 236)], [.int 1], (q_kX s (c + 1) (n + 6)))) 1 (fun _ _ => rfl) ?_
            exact q_RP_ret rfl rfl rfl
        | false =>
          refine q_RP_cF ?_
          cases h11 : decide (a1 = 1) with
          | true =>
            refine q_RP_cT ?_
            cases h12 : decide (1 < s.2.1 0 2) with
            | true =>
              refine q_RP_cT ?_
              refine q_RP_bd fun r2 er2 => ?_
              refine q_RP_call (v := (some (.int r2))) (h2 := (q_kX s c n)) rfl rfl ?_ ?_
              · refine q_Ca_of (Nat.le_of_ble_eq_true rfl) ?_
                refine q_Ru_seg (g2 := (2, [(0, .ref 64), (1, .int a1)], [.int a1, .ref 64], (q_kX s c n))) 2 (fun _ _ => rfl) ?_
                rw [of_decide_eq_true h11]
                refine q_Ru_call (v := (some (.ref 172))) (h2 := (q_kX s c n)) rfl rfl ?_ ?_
                · refine q_Ca_of (Nat.le_of_ble_eq_true rfl) ?_
                  refine q_Ru_seg (g2 := (9, [(0, .ref 64), (1, .int 1)], [.int (s.2.1 0 2), .int 1], (q_kX s c n))) 5 (fun _ _ => rfl) ?_
                  refine q_Ru_rsF (g2 := (12, [(0, .ref 64), (1, .int 1)], [], (q_kX s c n))) rfl rfl (q_d_geT h12) ?_
                  refine q_Ru_seg (g2 := (27, [(0, .ref 64), (1, .int 1)], [.ref 172], (q_kX s c n))) 8 (fun _ _ => rfl) ?_
                  exact q_Ru_ret rfl rfl
                show q_Ru _ _ _ (5, [(0, .ref 64), (1, .int 1)], [.ref 172], (q_kX s c n)) _
                refine q_Ru_seg (g2 := (37, [(2, .ref 172), (0, .ref 64), (1, .int 1)], [.ref 174, .ref 67], (q_kX s c n))) 10 (fun _ _ => rfl) ?_
                refine q_Ru_call (v := (some (.int r2))) (h2 := (q_kX s c n)) rfl rfl ?_ ?_
                · exact (q_emWX_1_108p rfl (fun _ => rfl) ((dzt_W111_66_98 (q_vw 32 1 108 s) c n r2 er2).tb q_TB0_le)).le (Nat.le_of_ble_eq_true rfl)
                show q_Ru _ _ _ (40, [(2, .ref 172), (0, .ref 64), (1, .int 1)], [.int r2], (q_kX s c n)) _
                exact q_Ru_ret rfl rfl
              show q_RP _ _ _ (7, [(0, .ref 64), (1, .int a1), (2, .ref 236)], [.int r2, .int 0, .ref 236], (q_kX s c n)) _ _
              refine q_RP_seg (g2 := (8, [(0, .ref 64), (1, .int a1), (2, .ref 236)], [.long r2.toInt64, .int 0, .ref 236], (q_kX s c n))) 1 (fun _ _ => rfl) ?_
              refine q_RP_rsT (g2 := (9, [(0, .ref 64), (1, .int a1), (2, .ref 236)], [], (q_kX (q_sL s 172 (vp_updL (s.2.2 172) 0 r2.toInt64)) c n))) rfl q_wX172 rfl ?_
              refine q_RP_seg (g2 := (16, [(0, .ref 64), (1, .int a1), (2, .ref 236)], [.int 0], (q_kX (q_sL s 172 (vp_updL (s.2.2 172) 0 r2.toInt64)) c n))) 2 (fun _ _ => rfl) ?_
              exact q_RP_ret rfl rfl rfl
            | false =>
              refine q_RP_cF ?_
              refine q_RP_callH (E := "java/util/NoSuchElementException") (tg := 13) (i := 3) (h2 := (q_kX s (c + 1) (n + 6))) rfl rfl ?_ rfl ?_
              · refine q_Ca_of (Nat.le_of_ble_eq_true rfl) ?_
                refine q_Ru_seg (g2 := (2, [(0, .ref 64), (1, .int a1)], [.int a1, .ref 64], (q_kX s c n))) 2 (fun _ _ => rfl) ?_
                rw [of_decide_eq_true h11]
                refine q_Ru_call (v := (some (.null))) (h2 := (q_kX s c n)) rfl rfl ?_ ?_
                · refine q_Ca_of (Nat.le_of_ble_eq_true rfl) ?_
                  refine q_Ru_seg (g2 := (9, [(0, .ref 64), (1, .int 1)], [.int (s.2.1 0 2), .int 1], (q_kX s c n))) 5 (fun _ _ => rfl) ?_
                  refine q_Ru_rsT (g2 := (26, [(0, .ref 64), (1, .int 1)], [], (q_kX s c n))) rfl rfl (q_d_geF h12) ?_
                  refine q_Ru_seg (g2 := (27, [(0, .ref 64), (1, .int 1)], [.null], (q_kX s c n))) 1 (fun _ _ => rfl) ?_
                  exact q_Ru_ret rfl rfl
                show q_Ru _ _ _ (5, [(0, .ref 64), (1, .int 1)], [.null], (q_kX s c n)) _
                refine q_Ru_seg (g2 := (10, [(2, .null), (0, .ref 64), (1, .int 1)], [], (q_kX s c n))) 3 (fun _ _ => rfl) ?_
                exact q_Ru_thr rfl rfl
              show q_RP _ _ _ (13, [(0, .ref 64), (1, .int a1), (2, .ref 236)], [], (q_kX s (c + 1) (n + 6))) _ _
              refine q_RP_seg (g2 := (14, [(0, .ref 64), (1, .int a1), (2, .ref 236)], [.int 1], (q_kX s (c + 1) (n + 6)))) 1 (fun _ _ => rfl) ?_
              exact q_RP_ret rfl rfl rfl
          | false =>
            refine q_RP_cF ?_
            cases h13 : decide (a1 = 2) with
            | true =>
              refine q_RP_cT ?_
              cases h14 : decide (2 < s.2.1 0 2) with
              | true =>
                refine q_RP_cT ?_
                refine q_RP_bd fun r3 er3 => ?_
                refine q_RP_call (v := (some (.int r3))) (h2 := (q_kX s c n)) rfl rfl ?_ ?_
                · refine q_Ca_of (Nat.le_of_ble_eq_true rfl) ?_
                  refine q_Ru_seg (g2 := (2, [(0, .ref 64), (1, .int a1)], [.int a1, .ref 64], (q_kX s c n))) 2 (fun _ _ => rfl) ?_
                  rw [of_decide_eq_true h13]
                  refine q_Ru_call (v := (some (.ref 204))) (h2 := (q_kX s c n)) rfl rfl ?_ ?_
                  · refine q_Ca_of (Nat.le_of_ble_eq_true rfl) ?_
                    refine q_Ru_seg (g2 := (9, [(0, .ref 64), (1, .int 2)], [.int (s.2.1 0 2), .int 2], (q_kX s c n))) 5 (fun _ _ => rfl) ?_
                    refine q_Ru_rsF (g2 := (12, [(0, .ref 64), (1, .int 2)], [], (q_kX s c n))) rfl rfl (q_d_geT h14) ?_
                    refine q_Ru_seg (g2 := (27, [(0, .ref 64), (1, .int 2)], [.ref 204], (q_kX s c n))) 8 (fun _ _ => rfl) ?_
                    exact q_Ru_ret rfl rfl
                  show q_Ru _ _ _ (5, [(0, .ref 64), (1, .int 2)], [.ref 204], (q_kX s c n)) _
                  refine q_Ru_seg (g2 := (37, [(2, .ref 204), (0, .ref 64), (1, .int 2)], [.ref 206, .ref 67], (q_kX s c n))) 10 (fun _ _ => rfl) ?_
                  refine q_Ru_call (v := (some (.int r3))) (h2 := (q_kX s c n)) rfl rfl ?_ ?_
                  · exact (q_emWX_1_140p rfl (fun _ => rfl) ((dzt_W111_66_98 (q_vw 32 1 140 s) c n r3 er3).tb q_TB0_le)).le (Nat.le_of_ble_eq_true rfl)
                  show q_Ru _ _ _ (40, [(2, .ref 204), (0, .ref 64), (1, .int 2)], [.int r3], (q_kX s c n)) _
                  exact q_Ru_ret rfl rfl
                show q_RP _ _ _ (7, [(0, .ref 64), (1, .int a1), (2, .ref 236)], [.int r3, .int 0, .ref 236], (q_kX s c n)) _ _
                refine q_RP_seg (g2 := (8, [(0, .ref 64), (1, .int a1), (2, .ref 236)], [.long r3.toInt64, .int 0, .ref 236], (q_kX s c n))) 1 (fun _ _ => rfl) ?_
                refine q_RP_rsT (g2 := (9, [(0, .ref 64), (1, .int a1), (2, .ref 236)], [], (q_kX (q_sL s 172 (vp_updL (s.2.2 172) 0 r3.toInt64)) c n))) rfl q_wX172 rfl ?_
                refine q_RP_seg (g2 := (16, [(0, .ref 64), (1, .int a1), (2, .ref 236)], [.int 0], (q_kX (q_sL s 172 (vp_updL (s.2.2 172) 0 r3.toInt64)) c n))) 2 (fun _ _ => rfl) ?_
                exact q_RP_ret rfl rfl rfl
              | false =>
                refine q_RP_cF ?_
                refine q_RP_callH (E := "java/util/NoSuchElementException") (tg := 13) (i := 3) (h2 := (q_kX s (c + 1) (n + 6))) rfl rfl ?_ rfl ?_
                · refine q_Ca_of (Nat.le_of_ble_eq_true rfl) ?_
                  refine q_Ru_seg (g2 := (2, [(0, .ref 64), (1, .int a1)], [.int a1, .ref 64], (q_kX s c n))) 2 (fun _ _ => rfl) ?_
                  rw [of_decide_eq_true h13]
                  refine q_Ru_call (v := (some (.null))) (h2 := (q_kX s c n)) rfl rfl ?_ ?_
                  · refine q_Ca_of (Nat.le_of_ble_eq_true rfl) ?_
                    refine q_Ru_seg (g2 := (9, [(0, .ref 64), (1, .int 2)], [.int (s.2.1 0 2), .int 2], (q_kX s c n))) 5 (fun _ _ => rfl) ?_
                    refine q_Ru_rsT (g2 := (26, [(0, .ref 64), (1, .int 2)], [], (q_kX s c n))) rfl rfl (q_d_geF h14) ?_
                    refine q_Ru_seg (g2 := (27, [(0, .ref 64), (1, .int 2)], [.null], (q_kX s c n))) 1 (fun _ _ => rfl) ?_
                    exact q_Ru_ret rfl rfl
                  show q_Ru _ _ _ (5, [(0, .ref 64), (1, .int 2)], [.null], (q_kX s c n)) _
                  refine q_Ru_seg (g2 := (10, [(2, .null), (0, .ref 64), (1, .int 2)], [], (q_kX s c n))) 3 (fun _ _ => rfl) ?_
                  exact q_Ru_thr rfl rfl
                show q_RP _ _ _ (13, [(0, .ref 64), (1, .int a1), (2, .ref 236)], [], (q_kX s (c + 1) (n + 6))) _ _
                refine q_RP_seg (g2 := (14, [(0, .ref 64), (1, .int a1), (2, .ref 236)], [.int 1], (q_kX s (c + 1) (n + 6)))) 1 (fun _ _ => rfl) ?_
                exact q_RP_ret rfl rfl rfl
            | false =>
              refine q_RP_cF ?_
              exact q_RP_no
      | false =>
        refine q_RP_cF ?_
        refine q_RP_callH (E := "java/util/NoSuchElementException") (tg := 13) (i := 3) (h2 := (q_kX s (c + 1) (n + 6))) rfl rfl ?_ rfl ?_
        · refine q_Ca_of (Nat.le_of_ble_eq_true rfl) ?_
          refine q_Ru_seg (g2 := (2, [(0, .ref 64), (1, .int a1)], [.int a1, .ref 64], (q_kX s c n))) 2 (fun _ _ => rfl) ?_
          refine q_Ru_call (v := (some (.null))) (h2 := (q_kX s c n)) rfl rfl ?_ ?_
          · refine q_Ca_of (Nat.le_of_ble_eq_true rfl) ?_
            refine q_Ru_seg (g2 := (1, [(0, .ref 64), (1, .int a1)], [.int a1], (q_kX s c n))) 1 (fun _ _ => rfl) ?_
            refine q_Ru_rsF (g2 := (4, [(0, .ref 64), (1, .int a1)], [], (q_kX s c n))) rfl rfl h6 ?_
            refine q_Ru_seg (g2 := (9, [(0, .ref 64), (1, .int a1)], [.int (s.2.1 0 2), .int a1], (q_kX s c n))) 3 (fun _ _ => rfl) ?_
            refine q_Ru_rsF (g2 := (12, [(0, .ref 64), (1, .int a1)], [], (q_kX s c n))) rfl rfl (q_d_geT h7) ?_
            refine q_Ru_seg (g2 := (14, [(0, .ref 64), (1, .int a1)], [.int 3, .int a1], (q_kX s c n))) 2 (fun _ _ => rfl) ?_
            refine q_Ru_rsT (g2 := (26, [(0, .ref 64), (1, .int a1)], [], (q_kX s c n))) rfl rfl (q_d_geF h8) ?_
            refine q_Ru_seg (g2 := (27, [(0, .ref 64), (1, .int a1)], [.null], (q_kX s c n))) 1 (fun _ _ => rfl) ?_
            exact q_Ru_ret rfl rfl
          show q_Ru _ _ _ (5, [(0, .ref 64), (1, .int a1)], [.null], (q_kX s c n)) _
          refine q_Ru_seg (g2 := (10, [(2, .null), (0, .ref 64), (1, .int a1)], [], (q_kX s c n))) 3 (fun _ _ => rfl) ?_
          exact q_Ru_thr rfl rfl
        show q_RP _ _ _ (13, [(0, .ref 64), (1, .int a1), (2, .ref 236)], [], (q_kX s (c + 1) (n + 6))) _ _
        refine q_RP_seg (g2 := (14, [(0, .ref 64), (1, .int a1), (2, .ref 236)], [.int 1], (q_kX s (c + 1) (n + 6)))) 1 (fun _ _ => rfl) ?_
        exact q_RP_ret rfl rfl rfl
    | false =>
      refine q_RP_cF ?_
      refine q_RP_callH (E := "java/util/NoSuchElementException") (tg := 13) (i := 3) (h2 := (q_kX s (c + 1) (n + 6))) rfl rfl ?_ rfl ?_
      · refine q_Ca_of (Nat.le_of_ble_eq_true rfl) ?_
        refine q_Ru_seg (g2 := (2, [(0, .ref 64), (1, .int a1)], [.int a1, .ref 64], (q_kX s c n))) 2 (fun _ _ => rfl) ?_
        refine q_Ru_call (v := (some (.null))) (h2 := (q_kX s c n)) rfl rfl ?_ ?_
        · refine q_Ca_of (Nat.le_of_ble_eq_true rfl) ?_
          refine q_Ru_seg (g2 := (1, [(0, .ref 64), (1, .int a1)], [.int a1], (q_kX s c n))) 1 (fun _ _ => rfl) ?_
          refine q_Ru_rsF (g2 := (4, [(0, .ref 64), (1, .int a1)], [], (q_kX s c n))) rfl rfl h6 ?_
          refine q_Ru_seg (g2 := (9, [(0, .ref 64), (1, .int a1)], [.int (s.2.1 0 2), .int a1], (q_kX s c n))) 3 (fun _ _ => rfl) ?_
          refine q_Ru_rsT (g2 := (26, [(0, .ref 64), (1, .int a1)], [], (q_kX s c n))) rfl rfl (q_d_geF h7) ?_
          refine q_Ru_seg (g2 := (27, [(0, .ref 64), (1, .int a1)], [.null], (q_kX s c n))) 1 (fun _ _ => rfl) ?_
          exact q_Ru_ret rfl rfl
        show q_Ru _ _ _ (5, [(0, .ref 64), (1, .int a1)], [.null], (q_kX s c n)) _
        refine q_Ru_seg (g2 := (10, [(2, .null), (0, .ref 64), (1, .int a1)], [], (q_kX s c n))) 3 (fun _ _ => rfl) ?_
        exact q_Ru_thr rfl rfl
      show q_RP _ _ _ (13, [(0, .ref 64), (1, .int a1), (2, .ref 236)], [], (q_kX s (c + 1) (n + 6))) _ _
      refine q_RP_seg (g2 := (14, [(0, .ref 64), (1, .int a1), (2, .ref 236)], [.int 1], (q_kX s (c + 1) (n + 6)))) 1 (fun _ _ => rfl) ?_
      exact q_RP_ret rfl rfl rfl
def dz_X25_64_236 (s : q_S) : q_S × Int32 × Nat :=
  cond (decide (s.2.1 34 7 = 0)) ((s, 1, 1)) (((q_sL s 172 (vp_updL (s.2.2 172) 0 ((s.2.1 34 5).toInt64))), 0, 0))
set_option maxHeartbeats 4000000 in
theorem dzt_X25_64_236 (z L : Nat) (xs : Nat → Int32) (s : q_S) (c n : Nat) : q_Ca (q_TBs z L xs) 2 25 [.ref 64, .ref 236] (q_kX s c n) ((q_oEX c n) (dz_X25_64_236 s)) := by
  refine q_CaT_of (φ := (q_oEX c n)) (Nat.le_of_ble_eq_true rfl) ?_
  unfold dz_X25_64_236
  refine q_RT_seg (g2 := (3, [(0, .ref 64), (1, .ref 236)], [.ref 64, .int 0, .ref 236], (q_kX s c n))) 3 (fun _ _ => rfl) ?_
  cases h1 : decide (s.2.1 34 7 = 0) with
  | true =>
    refine q_RT_cT ?_
    refine q_RT_callH (E := "java/lang/IllegalStateException") (tg := 12) (i := 2) (h2 := (q_kX s (c + 1) (n + 6))) rfl rfl ?_ rfl ?_
    · refine q_Ca_of (Nat.le_of_ble_eq_true rfl) ?_
      refine q_Ru_seg (g2 := (7, [(0, .ref 64)], [.int (s.2.1 34 7)], (q_kX s c n))) 3 (fun _ _ => rfl) ?_
      refine q_Ru_rsF (g2 := (10, [(0, .ref 64)], [], (q_kX s c n))) rfl rfl (q_d_neT h1) ?_
      exact q_Ru_thr rfl rfl
    show q_RT _ _ _ (12, [(0, .ref 64), (1, .ref 236)], [], (q_kX s (c + 1) (n + 6))) _ _
    refine q_RT_seg (g2 := (13, [(0, .ref 64), (1, .ref 236)], [.int 1], (q_kX s (c + 1) (n + 6)))) 1 (fun _ _ => rfl) ?_
    exact q_RT_ret rfl rfl rfl
  | false =>
    refine q_RT_cF ?_
    refine q_RT_call (v := (some (.int (s.2.1 34 5)))) (h2 := (q_kX s c n)) rfl rfl ?_ ?_
    · refine q_Ca_of (Nat.le_of_ble_eq_true rfl) ?_
      refine q_Ru_seg (g2 := (7, [(0, .ref 64)], [.int (s.2.1 34 7)], (q_kX s c n))) 3 (fun _ _ => rfl) ?_
      refine q_Ru_rsT (g2 := (20, [(0, .ref 64)], [], (q_kX s c n))) rfl rfl (q_d_neF h1) ?_
      refine q_Ru_seg (g2 := (27, [(0, .ref 64)], [.int (s.2.1 34 5)], (q_kX s c n))) 3 (fun _ _ => rfl) ?_
      exact q_Ru_ret rfl rfl
    show q_RT _ _ _ (6, [(0, .ref 64), (1, .ref 236)], [.int (s.2.1 34 5), .int 0, .ref 236], (q_kX s c n)) _ _
    refine q_RT_seg (g2 := (7, [(0, .ref 64), (1, .ref 236)], [.long ((s.2.1 34 5).toInt64), .int 0, .ref 236], (q_kX s c n))) 1 (fun _ _ => rfl) ?_
    refine q_RT_rsT (g2 := (8, [(0, .ref 64), (1, .ref 236)], [], (q_kX (q_sL s 172 (vp_updL (s.2.2 172) 0 ((s.2.1 34 5).toInt64))) c n))) rfl q_wX172 rfl ?_
    refine q_RT_seg (g2 := (15, [(0, .ref 64), (1, .ref 236)], [.int 0], (q_kX (q_sL s 172 (vp_updL (s.2.2 172) 0 ((s.2.1 34 5).toInt64))) c n))) 2 (fun _ _ => rfl) ?_
    exact q_RT_ret rfl rfl rfl
def dz_X65_27 (m : Nat) : q_S → Int32 → Option (q_S × Bool) := Nat.rec (motive := fun _ => q_S → Int32 → Option (q_S × Bool)) (fun _ _ => none) (fun _ k27 s v2 =>
  cond (decide (v2 < s.2.1 34 5)) (q_let (v2 &&& 511) fun x1 => cond (q_in x1 512) ((dz_N79_64 (q_vw 32 35 73 s) ((s.1 67) (x1.toNatClampNeg)) ((s.1 68) (x1.toNatClampNeg)) ((s.1 69) (x1.toNatClampNeg)) ((s.1 70) (x1.toNatClampNeg))).bind fun r2 => k27 (q_pt 32 3 35 73 s r2.1) (v2 + 1)) none) ((dz_W78_64_96 (q_vw 32 35 1 (q_sI s 34 6 (s.2.1 34 5)))).bind fun r3 => cond r3 (some ((q_sI s 34 6 (s.2.1 34 5)), true)) (some ((q_sI s 34 6 (s.2.1 34 5)), false)))) m
theorem dzs_X65_27 (m : Nat) (s : q_S) (v2 : Int32) : dz_X65_27 (m + 1) s v2 = (fun k27 : q_S → Int32 → Option (q_S × Bool) =>
  cond (decide (v2 < s.2.1 34 5)) (q_let (v2 &&& 511) fun x1 => cond (q_in x1 512) ((dz_N79_64 (q_vw 32 35 73 s) ((s.1 67) (x1.toNatClampNeg)) ((s.1 68) (x1.toNatClampNeg)) ((s.1 69) (x1.toNatClampNeg)) ((s.1 70) (x1.toNatClampNeg))).bind fun r2 => k27 (q_pt 32 3 35 73 s r2.1) (v2 + 1)) none) ((dz_W78_64_96 (q_vw 32 35 1 (q_sI s 34 6 (s.2.1 34 5)))).bind fun r3 => cond r3 (some ((q_sI s 34 6 (s.2.1 34 5)), true)) (some ((q_sI s 34 6 (s.2.1 34 5)), false)))) (dz_X65_27 m) := rfl
set_option maxHeartbeats 4000000 in
theorem dzt_X65_27 (z L : Nat) (xs : Nat → Int32) (c n : Nat) : ∀ (m : Nat) (s : q_S) (v2 : Int32), q_RP (q_TBs z L xs) 7 65 (27, [(0, .ref 64), (1, .ref 98), (2, .int v2)], [], (q_kX s c n)) (q_oJX c n) (dz_X65_27 m s v2) := by
  intro m
  induction m with
  | zero => intro s v2; exact q_RP_no
  | succ m ih =>
    intro s v2
    have hk27 := ih
    clear ih
    rw [dzs_X65_27]
    generalize dz_X65_27 m = k27 at hk27 ⊢
    dsimp only
    refine q_RP_seg (g2 := (32, [(0, .ref 64), (1, .ref 98), (2, .int v2)], [.int (s.2.1 34 5), .int v2], (q_kX s c n))) 3 (fun _ _ => rfl) ?_
    cases h3 : decide (v2 < s.2.1 34 5) with
    | true =>
      refine q_RP_cT ?_
      refine q_RP_rsF (g2 := (35, [(0, .ref 64), (1, .ref 98), (2, .int v2)], [], (q_kX s c n))) rfl rfl (q_d_geT h3) ?_
      refine q_RP_seg (g2 := (40, [(0, .ref 64), (1, .ref 98), (2, .int v2)], [.int (v2 &&& 511)], (q_kX s c n))) 3 (fun _ _ => rfl) ?_
      generalize (v2 &&& 511) = x1
      refine q_RP_let ?_
      show q_RP _ _ _ (40, [(0, .ref 64), (1, .ref 98), (2, .int v2)], [.int x1], (q_kX s c n)) _ _
      refine q_RP_seg (g2 := (50, [(3, .int x1), (0, .ref 64), (1, .ref 98), (2, .int v2)], [.int x1, .ref 131, .ref 99], (q_kX s c n))) 6 (fun _ _ => rfl) ?_
      refine q_RP_as fun i4 => ?_
      refine q_RP_rsT (g2 := (51, [(3, .int x1), (0, .ref 64), (1, .ref 98), (2, .int v2)], [.int ((s.1 67) (x1.toNatClampNeg)), .ref 99], (q_kX s c n))) rfl rfl i4 ?_
      refine q_RP_seg (g2 := (56, [(3, .int x1), (0, .ref 64), (1, .ref 98), (2, .int v2)], [.int x1, .ref 132, .int ((s.1 67) (x1.toNatClampNeg)), .ref 99], (q_kX s c n))) 3 (fun _ _ => rfl) ?_
      refine q_RP_rsT (g2 := (57, [(3, .int x1), (0, .ref 64), (1, .ref 98), (2, .int v2)], [.int ((s.1 68) (x1.toNatClampNeg)), .int ((s.1 67) (x1.toNatClampNeg)), .ref 99], (q_kX s c n))) rfl rfl i4 ?_
      refine q_RP_seg (g2 := (62, [(3, .int x1), (0, .ref 64), (1, .ref 98), (2, .int v2)], [.int x1, .ref 133, .int ((s.1 68) (x1.toNatClampNeg)), .int ((s.1 67) (x1.toNatClampNeg)), .ref 99], (q_kX s c n))) 3 (fun _ _ => rfl) ?_
      refine q_RP_rsT (g2 := (63, [(3, .int x1), (0, .ref 64), (1, .ref 98), (2, .int v2)], [.int ((s.1 69) (x1.toNatClampNeg)), .int ((s.1 68) (x1.toNatClampNeg)), .int ((s.1 67) (x1.toNatClampNeg)), .ref 99], (q_kX s c n))) rfl rfl i4 ?_
      refine q_RP_seg (g2 := (68, [(3, .int x1), (0, .ref 64), (1, .ref 98), (2, .int v2)], [.int x1, .ref 134, .int ((s.1 69) (x1.toNatClampNeg)), .int ((s.1 68) (x1.toNatClampNeg)), .int ((s.1 67) (x1.toNatClampNeg)), .ref 99], (q_kX s c n))) 3 (fun _ _ => rfl) ?_
      refine q_RP_rsT (g2 := (69, [(3, .int x1), (0, .ref 64), (1, .ref 98), (2, .int v2)], [.int ((s.1 70) (x1.toNatClampNeg)), .int ((s.1 69) (x1.toNatClampNeg)), .int ((s.1 68) (x1.toNatClampNeg)), .int ((s.1 67) (x1.toNatClampNeg)), .ref 99], (q_kX s c n))) rfl rfl i4 ?_
      refine q_RP_bd fun r2 er2 => ?_
      refine q_RP_call (v := (some (.int r2.2))) (h2 := (q_kX (q_pt 32 3 35 73 s r2.1) c n)) rfl rfl ((q_emNX_35 rfl (fun _ => rfl) ((dzt_N79_64 (q_vw 32 35 73 s) c n ((s.1 67) (x1.toNatClampNeg)) ((s.1 68) (x1.toNatClampNeg)) ((s.1 69) (x1.toNatClampNeg)) ((s.1 70) (x1.toNatClampNeg)) r2 er2).tb q_TB0_le)).le (Nat.le_of_ble_eq_true rfl)) ?_
      show q_RP _ _ _ (72, [(3, .int x1), (0, .ref 64), (1, .ref 98), (2, .int v2)], [.int r2.2], (q_kX (q_pt 32 3 35 73 s r2.1) c n)) _ _
      refine q_RP_seg (g2 := (27, [(2, .int (v2 + 1)), (3, .int x1), (0, .ref 64), (1, .ref 98)], [], (q_kX (q_pt 32 3 35 73 s r2.1) c n))) 3 (fun _ _ => rfl) ?_
      exact q_RP_xt (q_xt_mk (q_mn1 2 rfl (q_mn1 3 rfl (q_mn1 0 rfl q_mn0))) rfl) (hk27 (q_pt 32 3 35 73 s r2.1) (v2 + 1))
    | false =>
      refine q_RP_cF ?_
      refine q_RP_rsT (g2 := (79, [(0, .ref 64), (1, .ref 98), (2, .int v2)], [], (q_kX s c n))) rfl rfl (q_d_geF h3) ?_
      refine q_RP_seg (g2 := (84, [(0, .ref 64), (1, .ref 98), (2, .int v2)], [.int (s.2.1 34 5), .ref 98], (q_kX s c n))) 3 (fun _ _ => rfl) ?_
      refine q_RP_st1 (g2 := (87, [(0, .ref 64), (1, .ref 98), (2, .int v2)], [], (q_kX (q_sI s 34 6 (s.2.1 34 5)) c n))) rfl q_pX34_6 ?_
      refine q_RP_seg (g2 := (95, [(0, .ref 64), (1, .ref 98), (2, .int v2)], [.ref 65, .ref 99], (q_kX (q_sI s 34 6 (s.2.1 34 5)) c n))) 4 (fun _ _ => rfl) ?_
      refine q_RP_bd fun r3 er3 => ?_
      refine q_RP_call (v := (some (.int (q_b r3)))) (h2 := (q_kX (q_sI s 34 6 (s.2.1 34 5)) c n)) rfl rfl ((q_emWX_35_1p rfl (fun _ => rfl) ((dzt_W78_64_96 (q_vw 32 35 1 (q_sI s 34 6 (s.2.1 34 5))) c n r3 er3).tb q_TB0_le)).le (Nat.le_of_ble_eq_true rfl)) ?_
      show q_RP _ _ _ (98, [(0, .ref 64), (1, .ref 98), (2, .int v2)], [.int (q_b r3)], (q_kX (q_sI s 34 6 (s.2.1 34 5)) c n)) _ _
      cases h5 : r3 with
      | true =>
        refine q_RP_cT ?_
        show q_RP _ _ _ (98, [(0, .ref 64), (1, .ref 98), (2, .int v2)], [.int 1], (q_kX (q_sI s 34 6 (s.2.1 34 5)) c n)) _ _
        exact q_RP_ret rfl rfl rfl
      | false =>
        refine q_RP_cF ?_
        show q_RP _ _ _ (98, [(0, .ref 64), (1, .ref 98), (2, .int v2)], [.int 0], (q_kX (q_sI s 34 6 (s.2.1 34 5)) c n)) _ _
        exact q_RP_ret rfl rfl rfl
def dz_X26_64_236 (s : q_S) : Option (q_S × Int32 × Nat) :=
  cond (decide (s.2.1 34 7 = 0)) (some (s, 1, 1)) ((dz_X65_27 5000 s (s.2.1 34 6)).bind fun r4 => cond (decide (q_b r4.2 = 0)) (some ((q_sL r4.1 172 (vp_updL (r4.1.2.2 172) 0 0)), 0, 0)) (some ((q_sL r4.1 172 (vp_updL (r4.1.2.2 172) 0 1)), 0, 0)))
set_option maxHeartbeats 4000000 in
theorem dzt_X26_64_236 (z L : Nat) (xs : Nat → Int32) (s : q_S) (c n : Nat) (x : q_S × Int32 × Nat) (h : dz_X26_64_236 s = some x) : q_Ca (q_TBs z L xs) 11 26 [.ref 64, .ref 236] (q_kX s c n) ((q_oEX c n) x) := by
  refine q_CaP_of (φ := (q_oEX c n)) (Nat.le_of_ble_eq_true rfl) ?_ h
  clear h
  unfold dz_X26_64_236
  refine q_RP_seg (g2 := (3, [(0, .ref 64), (1, .ref 236)], [.ref 64, .int 0, .ref 236], (q_kX s c n))) 3 (fun _ _ => rfl) ?_
  cases h2 : decide (s.2.1 34 7 = 0) with
  | true =>
    refine q_RP_cT ?_
    refine q_RP_callH (E := "java/lang/IllegalStateException") (tg := 19) (i := 2) (h2 := (q_kX s (c + 1) (n + 6))) rfl rfl ?_ rfl ?_
    · refine q_Ca_of (Nat.le_of_ble_eq_true rfl) ?_
      refine q_Ru_seg (g2 := (9, [(1, .ref 98), (0, .ref 64)], [.int (s.2.1 34 7)], (q_kX s c n))) 5 (fun _ _ => rfl) ?_
      refine q_Ru_rsF (g2 := (12, [(1, .ref 98), (0, .ref 64)], [], (q_kX s c n))) rfl rfl (q_d_neT h2) ?_
      exact q_Ru_thr rfl rfl
    show q_RP _ _ _ (19, [(0, .ref 64), (1, .ref 236)], [], (q_kX s (c + 1) (n + 6))) _ _
    refine q_RP_seg (g2 := (20, [(0, .ref 64), (1, .ref 236)], [.int 1], (q_kX s (c + 1) (n + 6)))) 1 (fun _ _ => rfl) ?_
    exact q_RP_ret rfl rfl rfl
  | false =>
    refine q_RP_cF ?_
    refine q_RP_bd fun r4 er4 => ?_
    refine q_RP_call (v := (some (.int (q_b r4.2)))) (h2 := (q_kX r4.1 c n)) rfl rfl ?_ ?_
    · refine q_Ca_of (Nat.le_of_ble_eq_true rfl) ?_
      refine q_Ru_seg (g2 := (9, [(1, .ref 98), (0, .ref 64)], [.int (s.2.1 34 7)], (q_kX s c n))) 5 (fun _ _ => rfl) ?_
      refine q_Ru_rsT (g2 := (22, [(1, .ref 98), (0, .ref 64)], [], (q_kX s c n))) rfl rfl (q_d_neF h2) ?_
      refine q_Ru_seg (g2 := (27, [(2, .int (s.2.1 34 6)), (1, .ref 98), (0, .ref 64)], [], (q_kX s c n))) 3 (fun _ _ => rfl) ?_
      exact q_Ru_xt (q_xt_mk (q_mn1 2 rfl (q_mn1 1 rfl (q_mn1 0 rfl q_mn0))) rfl) (q_Ru_le (Nat.le_of_ble_eq_true rfl) (dzt_X65_27 z L xs c n 5000 s (s.2.1 34 6) r4 er4))
    show q_RP _ _ _ (6, [(0, .ref 64), (1, .ref 236)], [.int (q_b r4.2), .int 0, .ref 236], (q_kX r4.1 c n)) _ _
    cases h6 : decide (q_b r4.2 = 0) with
    | true =>
      refine q_RP_cT ?_
      refine q_RP_rsT (g2 := (13, [(0, .ref 64), (1, .ref 236)], [.int 0, .ref 236], (q_kX r4.1 c n))) rfl rfl h6 ?_
      refine q_RP_seg (g2 := (14, [(0, .ref 64), (1, .ref 236)], [.long 0, .int 0, .ref 236], (q_kX r4.1 c n))) 1 (fun _ _ => rfl) ?_
      refine q_RP_rsT (g2 := (15, [(0, .ref 64), (1, .ref 236)], [], (q_kX (q_sL r4.1 172 (vp_updL (r4.1.2.2 172) 0 0)) c n))) rfl q_wX172 rfl ?_
      refine q_RP_seg (g2 := (22, [(0, .ref 64), (1, .ref 236)], [.int 0], (q_kX (q_sL r4.1 172 (vp_updL (r4.1.2.2 172) 0 0)) c n))) 2 (fun _ _ => rfl) ?_
      exact q_RP_ret rfl rfl rfl
    | false =>
      refine q_RP_cF ?_
      refine q_RP_rsF (g2 := (9, [(0, .ref 64), (1, .ref 236)], [.int 0, .ref 236], (q_kX r4.1 c n))) rfl rfl h6 ?_
      refine q_RP_seg (g2 := (14, [(0, .ref 64), (1, .ref 236)], [.long 1, .int 0, .ref 236], (q_kX r4.1 c n))) 2 (fun _ _ => rfl) ?_
      refine q_RP_rsT (g2 := (15, [(0, .ref 64), (1, .ref 236)], [], (q_kX (q_sL r4.1 172 (vp_updL (r4.1.2.2 172) 0 1)) c n))) rfl q_wX172 rfl ?_
      refine q_RP_seg (g2 := (22, [(0, .ref 64), (1, .ref 236)], [.int 0], (q_kX (q_sL r4.1 172 (vp_updL (r4.1.2.2 172) 0 1)) c n))) 2 (fun _ _ => rfl) ?_
      exact q_RP_ret rfl rfl rfl
def dz_X39_64 (s : q_S) : Int32 :=
  (((s.2.1 24 5) ||| 32) ||| 16)
set_option maxHeartbeats 4000000 in
theorem dzt_X39_64 (z L : Nat) (xs : Nat → Int32) (s : q_S) (c n : Nat) : q_Ca (q_TBs z L xs) 1 39 [.ref 64] (q_kX s c n) ((q_oP (q_kX s c n)) (dz_X39_64 s)) := by
  refine q_CaT_of (φ := (q_oP (q_kX s c n))) (Nat.le_of_ble_eq_true rfl) ?_
  unfold dz_X39_64
  refine q_RT_seg (g2 := (10, [(0, .ref 64)], [.int (s.2.1 24 5)], (q_kX s c n))) 4 (fun _ _ => rfl) ?_
  refine q_RT_seg (g2 := (16, [(0, .ref 64)], [.int (((s.2.1 24 5) ||| 32) ||| 16)], (q_kX s c n))) 4 (fun _ _ => rfl) ?_
  exact q_RT_ret rfl rfl rfl
def dz_X40_64 (s : q_S) : Option (q_S × Int32) :=
  q_let (dz_X184_98 s 5 0 0 0) fun r3 => (dz_N79_64 (q_vw 32 1 73 r3) 5 0 0 0).bind fun r4 => some ((q_pt 32 3 1 73 r3 r4.1), r4.2)
set_option maxHeartbeats 4000000 in
theorem dzt_X40_64 (z L : Nat) (xs : Nat → Int32) (s : q_S) (c n : Nat) (x : q_S × Int32) (h : dz_X40_64 s = some x) : q_Ca (q_TBs z L xs) 8 40 [.ref 64] (q_kX s c n) ((q_oIX c n) x) := by
  refine q_CaP_of (φ := (q_oIX c n)) (Nat.le_of_ble_eq_true rfl) ?_ h
  clear h
  unfold dz_X40_64
  refine q_RP_seg (g2 := (8, [(0, .ref 64)], [.int 0, .int 0, .int 0, .int 5, .ref 98], (q_kX s c n))) 6 (fun _ _ => rfl) ?_
  refine q_RP_call (v := none) (h2 := (q_kX (dz_X184_98 s 5 0 0 0) c n)) rfl rfl ((dzt_X184_98 z L xs s c n 5 0 0 0).le (Nat.le_of_ble_eq_true rfl)) ?_
  generalize dz_X184_98 s 5 0 0 0 = r3
  refine q_RP_let ?_
  show q_RP _ _ _ (11, [(0, .ref 64)], [], (q_kX r3 c n)) _ _
  refine q_RP_seg (g2 := (19, [(0, .ref 64)], [.int 0, .int 0, .int 0, .int 5, .ref 65], (q_kX r3 c n))) 6 (fun _ _ => rfl) ?_
  refine q_RP_bd fun r4 er4 => ?_
  refine q_RP_call (v := (some (.int r4.2))) (h2 := (q_kX (q_pt 32 3 1 73 r3 r4.1) c n)) rfl rfl ((q_emNX_1 rfl (fun _ => rfl) ((dzt_N79_64 (q_vw 32 1 73 r3) c n 5 0 0 0 r4 er4).tb q_TB0_le)).le (Nat.le_of_ble_eq_true rfl)) ?_
  show q_RP _ _ _ (22, [(0, .ref 64)], [.int r4.2], (q_kX (q_pt 32 3 1 73 r3 r4.1) c n)) _ _
  exact q_RP_ret rfl rfl rfl
def dz_X41_64 (s : q_S) : Option (q_S × Int32) :=
  q_let (dz_X184_98 s 6 0 0 0) fun r3 => (dz_N79_64 (q_vw 32 1 73 r3) 6 0 0 0).bind fun r4 => some ((q_pt 32 3 1 73 r3 r4.1), r4.2)
set_option maxHeartbeats 4000000 in
theorem dzt_X41_64 (z L : Nat) (xs : Nat → Int32) (s : q_S) (c n : Nat) (x : q_S × Int32) (h : dz_X41_64 s = some x) : q_Ca (q_TBs z L xs) 8 41 [.ref 64] (q_kX s c n) ((q_oIX c n) x) := by
  refine q_CaP_of (φ := (q_oIX c n)) (Nat.le_of_ble_eq_true rfl) ?_ h
  clear h
  unfold dz_X41_64
  refine q_RP_seg (g2 := (9, [(0, .ref 64)], [.int 0, .int 0, .int 0, .int 6, .ref 98], (q_kX s c n))) 6 (fun _ _ => rfl) ?_
  refine q_RP_call (v := none) (h2 := (q_kX (dz_X184_98 s 6 0 0 0) c n)) rfl rfl ((dzt_X184_98 z L xs s c n 6 0 0 0).le (Nat.le_of_ble_eq_true rfl)) ?_
  generalize dz_X184_98 s 6 0 0 0 = r3
  refine q_RP_let ?_
  show q_RP _ _ _ (12, [(0, .ref 64)], [], (q_kX r3 c n)) _ _
  refine q_RP_seg (g2 := (21, [(0, .ref 64)], [.int 0, .int 0, .int 0, .int 6, .ref 65], (q_kX r3 c n))) 6 (fun _ _ => rfl) ?_
  refine q_RP_bd fun r4 er4 => ?_
  refine q_RP_call (v := (some (.int r4.2))) (h2 := (q_kX (q_pt 32 3 1 73 r3 r4.1) c n)) rfl rfl ((q_emNX_1 rfl (fun _ => rfl) ((dzt_N79_64 (q_vw 32 1 73 r3) c n 6 0 0 0 r4 er4).tb q_TB0_le)).le (Nat.le_of_ble_eq_true rfl)) ?_
  show q_RP _ _ _ (24, [(0, .ref 64)], [.int r4.2], (q_kX (q_pt 32 3 1 73 r3 r4.1) c n)) _ _
  exact q_RP_ret rfl rfl rfl
def dz_X44_64 (s : q_S) : Int64 :=
  (s.2.2 2 8)
set_option maxHeartbeats 4000000 in
theorem dzt_X44_64 (z L : Nat) (xs : Nat → Int32) (s : q_S) (c n : Nat) : q_Ca (q_TBs z L xs) 1 44 [.ref 64] (q_kX s c n) ((q_oL (q_kX s c n)) (dz_X44_64 s)) := by
  refine q_CaT_of (φ := (q_oL (q_kX s c n))) (Nat.le_of_ble_eq_true rfl) ?_
  unfold dz_X44_64
  refine q_RT_seg (g2 := (10, [(0, .ref 64)], [.long (s.2.2 2 8)], (q_kX s c n))) 4 (fun _ _ => rfl) ?_
  exact q_RT_ret rfl rfl rfl
def dz_X45_64 (s : q_S) : Option (Bool) :=
  (dz_N102_65 (q_vw 32 1 73 s)).bind fun r2 => cond r2 (some true) (some false)
set_option maxHeartbeats 4000000 in
theorem dzt_X45_64 (z L : Nat) (xs : Nat → Int32) (s : q_S) (c n : Nat) (x : Bool) (h : dz_X45_64 s = some x) : q_Ca (q_TBs z L xs) 5 45 [.ref 64] (q_kX s c n) ((q_oB (q_kX s c n)) x) := by
  refine q_CaP_of (φ := (q_oB (q_kX s c n))) (Nat.le_of_ble_eq_true rfl) ?_ h
  clear h
  unfold dz_X45_64
  refine q_RP_seg (g2 := (7, [(0, .ref 64)], [.ref 66], (q_kX s c n))) 3 (fun _ _ => rfl) ?_
  refine q_RP_bd fun r2 er2 => ?_
  refine q_RP_call (v := (some (.int (q_b r2)))) (h2 := (q_kX s c n)) rfl rfl ((q_emNX_1p rfl (fun _ => rfl) ((dzt_N102_65 (q_vw 32 1 73 s) c n r2 er2).tb q_TB0_le)).le (Nat.le_of_ble_eq_true rfl)) ?_
  show q_RP _ _ _ (10, [(0, .ref 64)], [.int (q_b r2)], (q_kX s c n)) _ _
  cases h1 : r2 with
  | true =>
    refine q_RP_cT ?_
    show q_RP _ _ _ (10, [(0, .ref 64)], [.int 1], (q_kX s c n)) _ _
    exact q_RP_ret rfl rfl rfl
  | false =>
    refine q_RP_cF ?_
    show q_RP _ _ _ (10, [(0, .ref 64)], [.int 0], (q_kX s c n)) _ _
    exact q_RP_ret rfl rfl rfl
def dz_X46_64 (s : q_S) : Int32 :=
  (s.2.1 24 9)
set_option maxHeartbeats 4000000 in
theorem dzt_X46_64 (z L : Nat) (xs : Nat → Int32) (s : q_S) (c n : Nat) : q_Ca (q_TBs z L xs) 1 46 [.ref 64] (q_kX s c n) ((q_oP (q_kX s c n)) (dz_X46_64 s)) := by
  refine q_CaT_of (φ := (q_oP (q_kX s c n))) (Nat.le_of_ble_eq_true rfl) ?_
  unfold dz_X46_64
  refine q_RT_seg (g2 := (10, [(0, .ref 64)], [.int (s.2.1 24 9)], (q_kX s c n))) 4 (fun _ _ => rfl) ?_
  exact q_RT_ret rfl rfl rfl
def dz_X47_64 (s : q_S) : Int32 :=
  (s.2.1 24 10)
set_option maxHeartbeats 4000000 in
theorem dzt_X47_64 (z L : Nat) (xs : Nat → Int32) (s : q_S) (c n : Nat) : q_Ca (q_TBs z L xs) 1 47 [.ref 64] (q_kX s c n) ((q_oP (q_kX s c n)) (dz_X47_64 s)) := by
  refine q_CaT_of (φ := (q_oP (q_kX s c n))) (Nat.le_of_ble_eq_true rfl) ?_
  unfold dz_X47_64
  refine q_RT_seg (g2 := (10, [(0, .ref 64)], [.int (s.2.1 24 10)], (q_kX s c n))) 4 (fun _ _ => rfl) ?_
  exact q_RT_ret rfl rfl rfl
def dz_X48_64 (s : q_S) : Option (Bool) :=
  cond (q_z1 (s.2.1 24 7)) (some (decide (s.2.1 24 7 = 1))) none
set_option maxHeartbeats 4000000 in
theorem dzt_X48_64 (z L : Nat) (xs : Nat → Int32) (s : q_S) (c n : Nat) (x : Bool) (h : dz_X48_64 s = some x) : q_Ca (q_TBs z L xs) 1 48 [.ref 64] (q_kX s c n) ((q_oB (q_kX s c n)) x) := by
  refine q_CaP_of (φ := (q_oB (q_kX s c n))) (Nat.le_of_ble_eq_true rfl) ?_ h
  clear h
  unfold dz_X48_64
  refine q_RP_seg (g2 := (10, [(0, .ref 64)], [.int (s.2.1 24 7)], (q_kX s c n))) 4 (fun _ _ => rfl) ?_
  refine q_RP_as fun i1 => ?_
  exact q_RP_ret rfl (q_rz01 i1) (by show (Sum.inl (some (Value.int (q_b (decide (s.2.1 24 7 = 1))))), _) = _; rw [q_b01 i1]; try rfl)
def dz_X58_64 (s : q_S) : Option (q_S × Int32) :=
  q_let (dz_X184_98 s 12 0 0 0) fun r3 => (dz_N79_64 (q_vw 32 1 73 r3) 12 0 0 0).bind fun r4 => some ((q_pt 32 3 1 73 r3 r4.1), r4.2)
set_option maxHeartbeats 4000000 in
theorem dzt_X58_64 (z L : Nat) (xs : Nat → Int32) (s : q_S) (c n : Nat) (x : q_S × Int32) (h : dz_X58_64 s = some x) : q_Ca (q_TBs z L xs) 8 58 [.ref 64] (q_kX s c n) ((q_oIX c n) x) := by
  refine q_CaP_of (φ := (q_oIX c n)) (Nat.le_of_ble_eq_true rfl) ?_ h
  clear h
  unfold dz_X58_64
  refine q_RP_seg (g2 := (9, [(0, .ref 64)], [.int 0, .int 0, .int 0, .int 12, .ref 98], (q_kX s c n))) 6 (fun _ _ => rfl) ?_
  refine q_RP_call (v := none) (h2 := (q_kX (dz_X184_98 s 12 0 0 0) c n)) rfl rfl ((dzt_X184_98 z L xs s c n 12 0 0 0).le (Nat.le_of_ble_eq_true rfl)) ?_
  generalize dz_X184_98 s 12 0 0 0 = r3
  refine q_RP_let ?_
  show q_RP _ _ _ (12, [(0, .ref 64)], [], (q_kX r3 c n)) _ _
  refine q_RP_seg (g2 := (21, [(0, .ref 64)], [.int 0, .int 0, .int 0, .int 12, .ref 65], (q_kX r3 c n))) 6 (fun _ _ => rfl) ?_
  refine q_RP_bd fun r4 er4 => ?_
  refine q_RP_call (v := (some (.int r4.2))) (h2 := (q_kX (q_pt 32 3 1 73 r3 r4.1) c n)) rfl rfl ((q_emNX_1 rfl (fun _ => rfl) ((dzt_N79_64 (q_vw 32 1 73 r3) c n 12 0 0 0 r4 er4).tb q_TB0_le)).le (Nat.le_of_ble_eq_true rfl)) ?_
  show q_RP _ _ _ (24, [(0, .ref 64)], [.int r4.2], (q_kX (q_pt 32 3 1 73 r3 r4.1) c n)) _ _
  exact q_RP_ret rfl rfl rfl
def dz_X59_64 (s : q_S) : Int32 :=
  ((s.2.1 9 1) - (s.2.1 9 2))
set_option maxHeartbeats 4000000 in
theorem dzt_X59_64 (z L : Nat) (xs : Nat → Int32) (s : q_S) (c n : Nat) : q_Ca (q_TBs z L xs) 1 59 [.ref 64] (q_kX s c n) ((q_oP (q_kX s c n)) (dz_X59_64 s)) := by
  refine q_CaT_of (φ := (q_oP (q_kX s c n))) (Nat.le_of_ble_eq_true rfl) ?_
  unfold dz_X59_64
  refine q_RT_seg (g2 := (13, [(0, .ref 64)], [.int (s.2.1 9 1)], (q_kX s c n))) 5 (fun _ _ => rfl) ?_
  refine q_RT_seg (g2 := (26, [(0, .ref 64)], [.int (s.2.1 9 2), .int (s.2.1 9 1)], (q_kX s c n))) 5 (fun _ _ => rfl) ?_
  refine q_RT_seg (g2 := (27, [(0, .ref 64)], [.int ((s.2.1 9 1) - (s.2.1 9 2))], (q_kX s c n))) 1 (fun _ _ => rfl) ?_
  exact q_RT_ret rfl rfl rfl
def dz_X183_98_65 (s : q_S) : Option (q_S) :=
  (dz_W77_64_96 (q_vw 32 35 1 s)).bind fun r2 => some (q_sI (q_sI (q_sI (q_pt 32 32 35 1 s r2) 34 5 0) 34 6 0) 34 7 1)
set_option maxHeartbeats 4000000 in
theorem dzt_X183_98_65 (z L : Nat) (xs : Nat → Int32) (s : q_S) (c n : Nat) (x : q_S) (h : dz_X183_98_65 s = some x) : q_Ca (q_TBs z L xs) 5 183 [.ref 98, .ref 65] (q_kX s c n) ((q_oSX c n) x) := by
  refine q_CaP_of (φ := (q_oSX c n)) (Nat.le_of_ble_eq_true rfl) ?_ h
  clear h
  unfold dz_X183_98_65
  refine q_RP_seg (g2 := (5, [(0, .ref 98), (1, .ref 65)], [.ref 65, .ref 99], (q_kX s c n))) 3 (fun _ _ => rfl) ?_
  refine q_RP_bd fun r2 er2 => ?_
  refine q_RP_call (v := none) (h2 := (q_kX (q_pt 32 32 35 1 s r2) c n)) rfl rfl ((q_emWX_35_1 rfl (fun _ => rfl) ((dzt_W77_64_96 (q_vw 32 35 1 s) c n r2 er2).tb q_TB0_le)).le (Nat.le_of_ble_eq_true rfl)) ?_
  show q_RP _ _ _ (8, [(0, .ref 98), (1, .ref 65)], [], (q_kX (q_pt 32 32 35 1 s r2) c n)) _ _
  refine q_RP_seg (g2 := (10, [(0, .ref 98), (1, .ref 65)], [.int 0, .ref 98], (q_kX (q_pt 32 32 35 1 s r2) c n))) 2 (fun _ _ => rfl) ?_
  refine q_RP_st1 (g2 := (13, [(0, .ref 98), (1, .ref 65)], [], (q_kX (q_sI (q_pt 32 32 35 1 s r2) 34 5 0) c n))) rfl q_pX34_5 ?_
  refine q_RP_seg (g2 := (15, [(0, .ref 98), (1, .ref 65)], [.int 0, .ref 98], (q_kX (q_sI (q_pt 32 32 35 1 s r2) 34 5 0) c n))) 2 (fun _ _ => rfl) ?_
  refine q_RP_st1 (g2 := (18, [(0, .ref 98), (1, .ref 65)], [], (q_kX (q_sI (q_sI (q_pt 32 32 35 1 s r2) 34 5 0) 34 6 0) c n))) rfl q_pX34_6 ?_
  refine q_RP_seg (g2 := (20, [(0, .ref 98), (1, .ref 65)], [.int 1, .ref 98], (q_kX (q_sI (q_sI (q_pt 32 32 35 1 s r2) 34 5 0) 34 6 0) c n))) 2 (fun _ _ => rfl) ?_
  refine q_RP_st1 (g2 := (23, [(0, .ref 98), (1, .ref 65)], [], (q_kX (q_sI (q_sI (q_sI (q_pt 32 32 35 1 s r2) 34 5 0) 34 6 0) 34 7 1) c n))) rfl q_pX34_7t ?_
  exact q_RP_ret rfl rfl rfl
def dz_X63_64 (s : q_S) : Option (q_S × Int32) :=
  cond (decide (s.2.1 34 7 = 0)) ((dz_X183_98_65 s).bind fun r2 => some (r2, 0)) (q_let (s.2.1 34 5) fun x3 => (dz_X183_98_65 s).bind fun r4 => some (r4, x3))
set_option maxHeartbeats 4000000 in
theorem dzt_X63_64 (z L : Nat) (xs : Nat → Int32) (s : q_S) (c n : Nat) (x : q_S × Int32) (h : dz_X63_64 s = some x) : q_Ca (q_TBs z L xs) 6 63 [.ref 64] (q_kX s c n) ((q_oIX c n) x) := by
  refine q_CaP_of (φ := (q_oIX c n)) (Nat.le_of_ble_eq_true rfl) ?_ h
  clear h
  unfold dz_X63_64
  refine q_RP_seg (g2 := (7, [(0, .ref 64)], [.int (s.2.1 34 7)], (q_kX s c n))) 3 (fun _ _ => rfl) ?_
  cases h2 : decide (s.2.1 34 7 = 0) with
  | true =>
    refine q_RP_cT ?_
    refine q_RP_rsT (g2 := (20, [(0, .ref 64)], [], (q_kX s c n))) rfl rfl h2 ?_
    refine q_RP_seg (g2 := (30, [(1, .int 0), (0, .ref 64)], [.ref 65, .ref 98], (q_kX s c n))) 6 (fun _ _ => rfl) ?_
    refine q_RP_bd fun r2 er2 => ?_
    refine q_RP_call (v := none) (h2 := (q_kX r2 c n)) rfl rfl ((dzt_X183_98_65 z L xs s c n r2 er2).le (Nat.le_of_ble_eq_true rfl)) ?_
    show q_RP _ _ _ (33, [(1, .int 0), (0, .ref 64)], [], (q_kX r2 c n)) _ _
    refine q_RP_seg (g2 := (34, [(1, .int 0), (0, .ref 64)], [.int 0], (q_kX r2 c n))) 1 (fun _ _ => rfl) ?_
    exact q_RP_ret rfl rfl rfl
  | false =>
    refine q_RP_cF ?_
    refine q_RP_rsF (g2 := (10, [(0, .ref 64)], [], (q_kX s c n))) rfl rfl h2 ?_
    refine q_RP_seg (g2 := (17, [(0, .ref 64)], [.int (s.2.1 34 5)], (q_kX s c n))) 3 (fun _ _ => rfl) ?_
    refine q_RP_seg (g2 := (21, [(0, .ref 64)], [.int (s.2.1 34 5)], (q_kX s c n))) 1 (fun _ _ => rfl) ?_
    generalize (s.2.1 34 5) = x3
    refine q_RP_let ?_
    show q_RP _ _ _ (21, [(0, .ref 64)], [.int x3], (q_kX s c n)) _ _
    refine q_RP_seg (g2 := (30, [(1, .int x3), (0, .ref 64)], [.ref 65, .ref 98], (q_kX s c n))) 5 (fun _ _ => rfl) ?_
    refine q_RP_bd fun r4 er4 => ?_
    refine q_RP_call (v := none) (h2 := (q_kX r4 c n)) rfl rfl ((dzt_X183_98_65 z L xs s c n r4 er4).le (Nat.le_of_ble_eq_true rfl)) ?_
    show q_RP _ _ _ (33, [(1, .int x3), (0, .ref 64)], [], (q_kX r4 c n)) _ _
    refine q_RP_seg (g2 := (34, [(1, .int x3), (0, .ref 64)], [.int x3], (q_kX r4 c n))) 1 (fun _ _ => rfl) ?_
    exact q_RP_ret rfl rfl rfl
def dz_X66_64_4 (m : Nat) : q_S → Int32 → Int32 → Option (Int32) := Nat.rec (motive := fun _ => q_S → Int32 → Int32 → Option (Int32)) (fun _ _ _ => none) (fun _ k4 s v1 v2 =>
  cond (decide (v2 < 1024)) (cond (q_in v2 1024) (q_let ((31 * v1) + ((s.1 32) (v2.toNatClampNeg))) fun x1 => k4 s x1 (v2 + 1)) none) (some v1)) m
theorem dzs_X66_64_4 (m : Nat) (s : q_S) (v1 : Int32) (v2 : Int32) : dz_X66_64_4 (m + 1) s v1 v2 = (fun k4 : q_S → Int32 → Int32 → Option (Int32) =>
  cond (decide (v2 < 1024)) (cond (q_in v2 1024) (q_let ((31 * v1) + ((s.1 32) (v2.toNatClampNeg))) fun x1 => k4 s x1 (v2 + 1)) none) (some v1)) (dz_X66_64_4 m) := rfl
set_option maxHeartbeats 4000000 in
theorem dzt_X66_64_4 (z L : Nat) (xs : Nat → Int32) (c n : Nat) (s : q_S) : ∀ (m : Nat) (v1 : Int32) (v2 : Int32), q_RP (q_TBs z L xs) 0 66 (4, [(0, .ref 64), (1, .int v1), (2, .int v2)], [], (q_kX s c n)) (q_oP (q_kX s c n)) (dz_X66_64_4 m s v1 v2) := by
  intro m
  induction m with
  | zero => intro v1 v2; exact q_RP_no
  | succ m ih =>
    intro v1 v2
    have hk4 := ih
    clear ih
    rw [dzs_X66_64_4]
    generalize dz_X66_64_4 m = k4 at hk4 ⊢
    dsimp only
    refine q_RP_seg (g2 := (8, [(0, .ref 64), (1, .int v1), (2, .int v2)], [.int 1024, .int v2], (q_kX s c n))) 2 (fun _ _ => rfl) ?_
    cases h1 : decide (v2 < 1024) with
    | true =>
      refine q_RP_cT ?_
      refine q_RP_rsF (g2 := (11, [(0, .ref 64), (1, .int v1), (2, .int v2)], [], (q_kX s c n))) rfl rfl (q_d_geT h1) ?_
      refine q_RP_seg (g2 := (23, [(0, .ref 64), (1, .int v1), (2, .int v2)], [.int v2, .ref 96, .int (31 * v1)], (q_kX s c n))) 7 (fun _ _ => rfl) ?_
      refine q_RP_as fun i2 => ?_
      refine q_RP_rsT (g2 := (24, [(0, .ref 64), (1, .int v1), (2, .int v2)], [.int ((s.1 32) (v2.toNatClampNeg)), .int (31 * v1)], (q_kX s c n))) rfl rfl i2 ?_
      refine q_RP_seg (g2 := (25, [(0, .ref 64), (1, .int v1), (2, .int v2)], [.int ((31 * v1) + ((s.1 32) (v2.toNatClampNeg)))], (q_kX s c n))) 1 (fun _ _ => rfl) ?_
      generalize ((31 * v1) + ((s.1 32) (v2.toNatClampNeg))) = x1
      refine q_RP_let ?_
      show q_RP _ _ _ (25, [(0, .ref 64), (1, .int v1), (2, .int v2)], [.int x1], (q_kX s c n)) _ _
      refine q_RP_seg (g2 := (4, [(2, .int (v2 + 1)), (1, .int x1), (0, .ref 64)], [], (q_kX s c n))) 3 (fun _ _ => rfl) ?_
      exact q_RP_xt (q_xt_mk (q_mn1 2 rfl (q_mn1 1 rfl (q_mn1 0 rfl q_mn0))) rfl) (hk4 x1 (v2 + 1))
    | false =>
      refine q_RP_cF ?_
      refine q_RP_rsT (g2 := (32, [(0, .ref 64), (1, .int v1), (2, .int v2)], [], (q_kX s c n))) rfl rfl (q_d_geF h1) ?_
      refine q_RP_seg (g2 := (33, [(0, .ref 64), (1, .int v1), (2, .int v2)], [.int v1], (q_kX s c n))) 1 (fun _ _ => rfl) ?_
      exact q_RP_ret rfl rfl rfl
def dz_X66_64 (s : q_S) : Option (Int32) :=
  dz_X66_64_4 5000 s 0 0
set_option maxHeartbeats 4000000 in
theorem dzt_X66_64 (z L : Nat) (xs : Nat → Int32) (s : q_S) (c n : Nat) (x : Int32) (h : dz_X66_64 s = some x) : q_Ca (q_TBs z L xs) 1 66 [.ref 64] (q_kX s c n) ((q_oP (q_kX s c n)) x) := by
  refine q_CaP_of (φ := (q_oP (q_kX s c n))) (Nat.le_of_ble_eq_true rfl) ?_ h
  clear h
  unfold dz_X66_64
  refine q_RP_seg (g2 := (4, [(2, .int 0), (1, .int 0), (0, .ref 64)], [], (q_kX s c n))) 4 (fun _ _ => rfl) ?_
  exact q_RP_xt (q_xt_mk (q_mn1 2 rfl (q_mn1 1 rfl (q_mn1 0 rfl q_mn0))) rfl) (dzt_X66_64_4 z L xs c n s 5000 0 0)
def dz_X67_64 (s : q_S) : Int64 :=
  (s.2.2 1 4)
set_option maxHeartbeats 4000000 in
theorem dzt_X67_64 (z L : Nat) (xs : Nat → Int32) (s : q_S) (c n : Nat) : q_Ca (q_TBs z L xs) 1 67 [.ref 64] (q_kX s c n) ((q_oL (q_kX s c n)) (dz_X67_64 s)) := by
  refine q_CaT_of (φ := (q_oL (q_kX s c n))) (Nat.le_of_ble_eq_true rfl) ?_
  unfold dz_X67_64
  refine q_RT_seg (g2 := (7, [(0, .ref 64)], [.long (s.2.2 1 4)], (q_kX s c n))) 3 (fun _ _ => rfl) ?_
  exact q_RT_ret rfl rfl rfl
def dz_X68_64_20 (m : Nat) : q_S → Int32 → Int32 → Int32 → Option (UInt32) := Nat.rec (motive := fun _ => q_S → Int32 → Int32 → Int32 → Option (UInt32)) (fun _ _ _ _ => none) (fun _ k20 s v1 v2 v3 =>
  cond (decide (v3 < 1024)) (cond (q_in v3 1024) (cond (decide ((s.1 32) (v3.toNatClampNeg) = v1)) (k20 s v1 v2 (v3 + 1)) (k20 s v1 (v2 + 1) (v3 + 1))) none) (cond (q_nnf (FP.fdiv (FP.i2f v2) 1149239296)) (some (FP.fdiv (FP.i2f v2) 1149239296)) none)) m
theorem dzs_X68_64_20 (m : Nat) (s : q_S) (v1 : Int32) (v2 : Int32) (v3 : Int32) : dz_X68_64_20 (m + 1) s v1 v2 v3 = (fun k20 : q_S → Int32 → Int32 → Int32 → Option (UInt32) =>
  cond (decide (v3 < 1024)) (cond (q_in v3 1024) (cond (decide ((s.1 32) (v3.toNatClampNeg) = v1)) (k20 s v1 v2 (v3 + 1)) (k20 s v1 (v2 + 1) (v3 + 1))) none) (cond (q_nnf (FP.fdiv (FP.i2f v2) 1149239296)) (some (FP.fdiv (FP.i2f v2) 1149239296)) none)) (dz_X68_64_20 m) := rfl
set_option maxHeartbeats 4000000 in
theorem dzt_X68_64_20 (z L : Nat) (xs : Nat → Int32) (c n : Nat) (s : q_S) : ∀ (m : Nat) (v1 : Int32) (v2 : Int32) (v3 : Int32), q_RP (q_TBs z L xs) 0 68 (20, [(0, .ref 64), (1, .int v1), (2, .int v2), (3, .int v3)], [], (q_kX s c n)) (q_oF (q_kX s c n)) (dz_X68_64_20 m s v1 v2 v3) := by
  intro m
  induction m with
  | zero => intro v1 v2 v3; exact q_RP_no
  | succ m ih =>
    intro v1 v2 v3
    have hk20 := ih
    clear ih
    rw [dzs_X68_64_20]
    generalize dz_X68_64_20 m = k20 at hk20 ⊢
    dsimp only
    refine q_RP_seg (g2 := (24, [(0, .ref 64), (1, .int v1), (2, .int v2), (3, .int v3)], [.int 1024, .int v3], (q_kX s c n))) 2 (fun _ _ => rfl) ?_
    cases h1 : decide (v3 < 1024) with
    | true =>
      refine q_RP_cT ?_
      refine q_RP_rsF (g2 := (27, [(0, .ref 64), (1, .int v1), (2, .int v2), (3, .int v3)], [], (q_kX s c n))) rfl rfl (q_d_geT h1) ?_
      refine q_RP_seg (g2 := (35, [(0, .ref 64), (1, .int v1), (2, .int v2), (3, .int v3)], [.int v3, .ref 96], (q_kX s c n))) 4 (fun _ _ => rfl) ?_
      refine q_RP_as fun i2 => ?_
      refine q_RP_rsT (g2 := (36, [(0, .ref 64), (1, .int v1), (2, .int v2), (3, .int v3)], [.int ((s.1 32) (v3.toNatClampNeg))], (q_kX s c n))) rfl rfl i2 ?_
      refine q_RP_seg (g2 := (37, [(0, .ref 64), (1, .int v1), (2, .int v2), (3, .int v3)], [.int v1, .int ((s.1 32) (v3.toNatClampNeg))], (q_kX s c n))) 1 (fun _ _ => rfl) ?_
      cases h3 : decide ((s.1 32) (v3.toNatClampNeg) = v1) with
      | true =>
        refine q_RP_cT ?_
        refine q_RP_rsT (g2 := (43, [(0, .ref 64), (1, .int v1), (2, .int v2), (3, .int v3)], [], (q_kX s c n))) rfl rfl h3 ?_
        refine q_RP_seg (g2 := (20, [(3, .int (v3 + 1)), (0, .ref 64), (1, .int v1), (2, .int v2)], [], (q_kX s c n))) 2 (fun _ _ => rfl) ?_
        exact q_RP_xt (q_xt_mk (q_mn1 1 rfl (q_mn1 2 rfl (q_mn1 3 rfl (q_mn1 0 rfl q_mn0)))) rfl) (hk20 v1 v2 (v3 + 1))
      | false =>
        refine q_RP_cF ?_
        refine q_RP_rsF (g2 := (40, [(0, .ref 64), (1, .int v1), (2, .int v2), (3, .int v3)], [], (q_kX s c n))) rfl rfl h3 ?_
        refine q_RP_seg (g2 := (20, [(3, .int (v3 + 1)), (2, .int (v2 + 1)), (0, .ref 64), (1, .int v1)], [], (q_kX s c n))) 3 (fun _ _ => rfl) ?_
        exact q_RP_xt (q_xt_mk (q_mn1 2 rfl (q_mn1 3 rfl (q_mn1 1 rfl (q_mn1 0 rfl q_mn0)))) rfl) (hk20 v1 (v2 + 1) (v3 + 1))
    | false =>
      refine q_RP_cF ?_
      refine q_RP_rsT (g2 := (49, [(0, .ref 64), (1, .int v1), (2, .int v2), (3, .int v3)], [], (q_kX s c n))) rfl rfl (q_d_geF h1) ?_
      refine q_RP_seg (g2 := (53, [(0, .ref 64), (1, .int v1), (2, .int v2), (3, .int v3)], [.float 1149239296, .float (FP.i2f v2)], (q_kX s c n))) 3 (fun _ _ => rfl) ?_
      refine q_RP_as fun i4 => ?_
      refine q_RP_st1 (g2 := (54, [(0, .ref 64), (1, .int v1), (2, .int v2), (3, .int v3)], [.float (FP.fdiv (FP.i2f v2) 1149239296)], (q_kX s c n))) rfl (q_fdv i4) ?_
      exact q_RP_ret rfl rfl rfl
def dz_X68_64 (s : q_S) : Option (UInt32) :=
  q_let ((s.1 5) 3) fun x1 => dz_X68_64_20 5000 s x1 0 0
set_option maxHeartbeats 4000000 in
theorem dzt_X68_64 (z L : Nat) (xs : Nat → Int32) (s : q_S) (c n : Nat) (x : UInt32) (h : dz_X68_64 s = some x) : q_Ca (q_TBs z L xs) 1 68 [.ref 64] (q_kX s c n) ((q_oF (q_kX s c n)) x) := by
  refine q_CaP_of (φ := (q_oF (q_kX s c n))) (Nat.le_of_ble_eq_true rfl) ?_ h
  clear h
  unfold dz_X68_64
  refine q_RP_seg (g2 := (15, [(0, .ref 64)], [.int ((s.1 5) 3)], (q_kX s c n))) 7 (fun _ _ => rfl) ?_
  generalize ((s.1 5) 3) = x1
  refine q_RP_let ?_
  show q_RP _ _ _ (15, [(0, .ref 64)], [.int x1], (q_kX s c n)) _ _
  refine q_RP_seg (g2 := (20, [(3, .int 0), (2, .int 0), (1, .int x1), (0, .ref 64)], [], (q_kX s c n))) 5 (fun _ _ => rfl) ?_
  exact q_RP_xt (q_xt_mk (q_mn1 3 rfl (q_mn1 2 rfl (q_mn1 1 rfl (q_mn1 0 rfl q_mn0)))) rfl) (dzt_X68_64_20 z L xs c n s 5000 x1 0 0)
def dz_X69_64_4 (m : Nat) : q_S → Int32 → Int32 → Option (UInt64) := Nat.rec (motive := fun _ => q_S → Int32 → Int32 → Option (UInt64)) (fun _ _ _ => none) (fun _ k4 s v1 v2 =>
  cond (decide (v2 < 40)) (cond (q_in v2 40) (q_let (v1 + ((s.1 31) (v2.toNatClampNeg))) fun x1 => k4 s x1 (v2 + 1)) none) (cond (q_nnd (FP.ddiv (FP.i2d v1) 4630826316843712512)) (some (FP.ddiv (FP.i2d v1) 4630826316843712512)) none)) m
theorem dzs_X69_64_4 (m : Nat) (s : q_S) (v1 : Int32) (v2 : Int32) : dz_X69_64_4 (m + 1) s v1 v2 = (fun k4 : q_S → Int32 → Int32 → Option (UInt64) =>
  cond (decide (v2 < 40)) (cond (q_in v2 40) (q_let (v1 + ((s.1 31) (v2.toNatClampNeg))) fun x1 => k4 s x1 (v2 + 1)) none) (cond (q_nnd (FP.ddiv (FP.i2d v1) 4630826316843712512)) (some (FP.ddiv (FP.i2d v1) 4630826316843712512)) none)) (dz_X69_64_4 m) := rfl
set_option maxHeartbeats 4000000 in
theorem dzt_X69_64_4 (z L : Nat) (xs : Nat → Int32) (c n : Nat) (s : q_S) : ∀ (m : Nat) (v1 : Int32) (v2 : Int32), q_RP (q_TBs z L xs) 0 69 (4, [(0, .ref 64), (1, .int v1), (2, .int v2)], [], (q_kX s c n)) (q_oD (q_kX s c n)) (dz_X69_64_4 m s v1 v2) := by
  intro m
  induction m with
  | zero => intro v1 v2; exact q_RP_no
  | succ m ih =>
    intro v1 v2
    have hk4 := ih
    clear ih
    rw [dzs_X69_64_4]
    generalize dz_X69_64_4 m = k4 at hk4 ⊢
    dsimp only
    refine q_RP_seg (g2 := (7, [(0, .ref 64), (1, .int v1), (2, .int v2)], [.int 40, .int v2], (q_kX s c n))) 2 (fun _ _ => rfl) ?_
    cases h1 : decide (v2 < 40) with
    | true =>
      refine q_RP_cT ?_
      refine q_RP_rsF (g2 := (10, [(0, .ref 64), (1, .int v1), (2, .int v2)], [], (q_kX s c n))) rfl rfl (q_d_geT h1) ?_
      refine q_RP_seg (g2 := (22, [(0, .ref 64), (1, .int v1), (2, .int v2)], [.int v2, .ref 95, .int v1], (q_kX s c n))) 6 (fun _ _ => rfl) ?_
      refine q_RP_as fun i2 => ?_
      refine q_RP_rsT (g2 := (23, [(0, .ref 64), (1, .int v1), (2, .int v2)], [.int ((s.1 31) (v2.toNatClampNeg)), .int v1], (q_kX s c n))) rfl rfl i2 ?_
      refine q_RP_seg (g2 := (24, [(0, .ref 64), (1, .int v1), (2, .int v2)], [.int (v1 + ((s.1 31) (v2.toNatClampNeg)))], (q_kX s c n))) 1 (fun _ _ => rfl) ?_
      generalize (v1 + ((s.1 31) (v2.toNatClampNeg))) = x1
      refine q_RP_let ?_
      show q_RP _ _ _ (24, [(0, .ref 64), (1, .int v1), (2, .int v2)], [.int x1], (q_kX s c n)) _ _
      refine q_RP_seg (g2 := (4, [(2, .int (v2 + 1)), (1, .int x1), (0, .ref 64)], [], (q_kX s c n))) 3 (fun _ _ => rfl) ?_
      exact q_RP_xt (q_xt_mk (q_mn1 2 rfl (q_mn1 1 rfl (q_mn1 0 rfl q_mn0))) rfl) (hk4 x1 (v2 + 1))
    | false =>
      refine q_RP_cF ?_
      refine q_RP_rsT (g2 := (31, [(0, .ref 64), (1, .int v1), (2, .int v2)], [], (q_kX s c n))) rfl rfl (q_d_geF h1) ?_
      refine q_RP_seg (g2 := (36, [(0, .ref 64), (1, .int v1), (2, .int v2)], [.double 4630826316843712512, .double (FP.i2d v1)], (q_kX s c n))) 3 (fun _ _ => rfl) ?_
      refine q_RP_as fun i3 => ?_
      refine q_RP_st1 (g2 := (37, [(0, .ref 64), (1, .int v1), (2, .int v2)], [.double (FP.ddiv (FP.i2d v1) 4630826316843712512)], (q_kX s c n))) rfl (q_ddv i3) ?_
      exact q_RP_ret rfl rfl rfl
def dz_X69_64 (s : q_S) : Option (UInt64) :=
  dz_X69_64_4 5000 s 0 0
set_option maxHeartbeats 4000000 in
theorem dzt_X69_64 (z L : Nat) (xs : Nat → Int32) (s : q_S) (c n : Nat) (x : UInt64) (h : dz_X69_64 s = some x) : q_Ca (q_TBs z L xs) 1 69 [.ref 64] (q_kX s c n) ((q_oD (q_kX s c n)) x) := by
  refine q_CaP_of (φ := (q_oD (q_kX s c n))) (Nat.le_of_ble_eq_true rfl) ?_ h
  clear h
  unfold dz_X69_64
  refine q_RP_seg (g2 := (4, [(2, .int 0), (1, .int 0), (0, .ref 64)], [], (q_kX s c n))) 4 (fun _ _ => rfl) ?_
  exact q_RP_xt (q_xt_mk (q_mn1 2 rfl (q_mn1 1 rfl (q_mn1 0 rfl q_mn0))) rfl) (dzt_X69_64_4 z L xs c n s 5000 0 0)
end
section
-- 50.z
/-! ===== the law's start and its end ===== -/
def q_AL (i : Nat) : Nat → Int32 := cond (Nat.blt i 172) (q_AX i) (cond (Nat.blt i 206) (q_AM (i - 172)) (fun _ => 0))
def q_IL (i k : Nat) : Int32 := cond (Nat.blt i 172) (q_IX i k) (cond (Nat.blt i 206) (q_IM (i - 172) k) 0)
def q_SL0 : q_S := (q_AL, q_IL, q_J0)
def q_oX : q_C := .inr (13, [.null, .null, .int 0, .null, .null, .null])
def q_oM : q_C := .inr (14, [.null, .null, .null, .null, .null, .null, .null, .null, .null, .null, .null, .null, .null, .null, .null, .long 0, .long 0, .int 0, .null, .null, .null, .null, .null, .null, .null, .null, .null, .null, .null, .null, .null, .null, .null, .null, .int 0, .int 0, .null, .null, .int 0, .int 0])
set_option maxRecDepth 1000000 in
theorem q_newML {TB : Nat → Option (Nat × Nat × (Nat → Int32))} : q_Ca TB 2 197 [.ref 236] ((q_cX q_AX q_IX q_J0).take 172 ++ [q_oM], 173, 117991) (.inl none, (q_cL q_AL q_IL q_J0).take 206, 206, 149581) := ⟨400, rfl⟩
set_option maxRecDepth 1000000 in
theorem q_lwS1 {z L : Nat} {xs : Nat → Int32} {o : q_Out} (h : q_Ru (q_TBs z L xs) 20 375 (15, [(1, .ref 64), (0, .ref 0)], [.ref 236], ((q_cL q_AL q_IL q_J0).take 206, 206, 149581)) o) : q_Ru (q_TBs z L xs) 20 375 (0, [(0, .ref 0)], [], ([], 0, 0)) o := by
  refine q_Ru_seg (g2 := (4, [(0, .ref 0)], [.ref 64, .ref 64], ([q_oX], 1, 6))) 2 (fun _ _ => rfl) ?_
  refine q_Ru_call (v := none) (h2 := ((q_cX q_AX q_IX q_J0).take 172, 172, 117951)) rfl rfl (q_newX.le (Nat.le_of_ble_eq_true rfl)) ?_
  show q_Ru _ _ _ (7, [(0, .ref 0)], [.ref 64], ((q_cX q_AX q_IX q_J0).take 172, 172, 117951)) _
  refine q_Ru_seg (g2 := (12, [(1, .ref 64), (0, .ref 0)], [.ref 236, .ref 236], ((q_cX q_AX q_IX q_J0).take 172 ++ [q_oM], 173, 117991))) 3 (fun _ _ => rfl) ?_
  refine q_Ru_call (v := none) (h2 := ((q_cL q_AL q_IL q_J0).take 206, 206, 149581)) rfl rfl (q_newML.le (Nat.le_of_ble_eq_true rfl)) ?_
  exact h
set_option maxRecDepth 1000000 in
theorem q_lwS {z L : Nat} {xs : Nat → Int32} {o : q_Out} (h : q_Ru (q_TBs z L xs) 20 375 (23, [(4, .int 0), (3, .ref 270), (2, .ref 236), (1, .ref 64), (0, .ref 0)], [], (q_kL q_SL0 207 149582)) o) : q_Ru (q_TBs z L xs) 20 375 (0, [(0, .ref 0)], [], ([], 0, 0)) o := by
  refine q_lwS1 ?_
  refine q_Ru_seg (g2 := (17, [(2, .ref 236), (1, .ref 64), (0, .ref 0)], [.int 1], ((q_cL q_AL q_IL q_J0).take 206, 206, 149581))) 2 (fun _ _ => rfl) ?_
  refine q_Ru_rsT (g2 := (19, [(2, .ref 236), (1, .ref 64), (0, .ref 0)], [.ref 270], ((q_cL q_AL q_IL q_J0).take 206 ++ [.inl (2, 1, .inr (.inl fun _ => 0))], 207, 149582))) rfl rfl rfl ?_
  refine q_Ru_seg (g2 := (23, [(4, .int 0), (3, .ref 270), (2, .ref 236), (1, .ref 64), (0, .ref 0)], [], (q_kL q_SL0 207 149582))) 3 (fun _ _ => rfl) ?_
  exact h
theorem q_lwE (z L : Nat) (xs : Nat → Int32) (S : q_S) (c n : Nat) (i : Int32) (hi : decide ((Int32.ofNat L) - 4 < i) = true) : q_Ru (q_TBs z L xs) 20 375 (23, [(4, .int i), (3, .ref 270), (2, .ref 236), (1, .ref 64), (0, .ref 0)], [], (q_kL S c n)) (.inl (some (.int 1)), q_kL S c n) := by
  refine q_Ru_seg (g2 := (29, [(4, .int i), (3, .ref 270), (2, .ref 236), (1, .ref 64), (0, .ref 0)], [.int ((Int32.ofNat L) - 4), .int i], (q_kL S c n))) 5 (fun _ _ => rfl) ?_
  refine q_Ru_rsT (g2 := (1307, [(4, .int i), (3, .ref 270), (2, .ref 236), (1, .ref 64), (0, .ref 0)], [], (q_kL S c n))) rfl rfl hi ?_
  refine q_Ru_seg (g2 := (1308, [(4, .int i), (3, .ref 270), (2, .ref 236), (1, .ref 64), (0, .ref 0)], [.int 1], (q_kL S c n))) 1 (fun _ _ => rfl) ?_
  exact q_Ru_ret rfl rfl
end
