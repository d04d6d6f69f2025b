section
-- 49.xb
def dz_X8_64_236 (s : q_S) (a1 : Int32) (a2 : Int32) (a3 : Int32) : Option (q_S × Int32 × Nat) :=
  cond (decide (a1 < 0)) (some (s, 1, 1)) (cond (decide (a1 < 4096)) (cond (decide (a2 < 0)) (some (s, 1, 1)) (cond (decide (a2 < 4096)) (cond (decide (a3 < 1)) (some (s, 2, 1)) (cond (decide (4096 < a3)) (some (s, 2, 1)) ((dz_X36_22 5000 s a1 a2 a3 0 0).bind fun r3 => some ((q_sL s 172 (vp_updL (s.2.2 172) 0 r3.toInt64)), 0, 0)))) (some (s, 1, 1)))) (some (s, 1, 1)))
set_option maxHeartbeats 4000000 in
theorem dzt_X8_64_236 (z L : Nat) (xs : Nat → Int32) (s : q_S) (c n : Nat) (a1 : Int32) (a2 : Int32) (a3 : Int32) (x : q_S × Int32 × Nat) (h : dz_X8_64_236 s a1 a2 a3 = some x) : q_Ca (q_TBs z L xs) 6 8 [.ref 64, .int a1, .int a2, .int a3, .ref 236] (q_kX s c n) ((q_oEX c n) x) := by
  refine q_CaP_of (φ := (q_oEX c n)) (Nat.le_of_ble_eq_true rfl) ?_ h
  clear h
  unfold dz_X8_64_236
  refine q_RP_seg (g2 := (7, [(0, .ref 64), (1, .int a1), (2, .int a2), (3, .int a3), (4, .ref 236)], [.int a3, .int a2, .int a1, .ref 64, .int 0, .ref 236], (q_kX s c n))) 6 (fun _ _ => rfl) ?_
  cases h7 : decide (a1 < 0) with
  | true =>
    refine q_RP_cT ?_
    refine q_RP_callH (E := "java/lang/IndexOutOfBoundsException") (tg := 17) (i := 5) (h2 := (q_kX s (c + 1) (n + 6))) rfl rfl ?_ rfl ?_
    · refine q_Ca_of (Nat.le_of_ble_eq_true rfl) ?_
      refine q_Ru_seg (g2 := (1, [(0, .ref 64), (1, .int a1), (2, .int a2), (3, .int a3)], [.int a1], (q_kX s c n))) 1 (fun _ _ => rfl) ?_
      refine q_Ru_callX (E := "java/lang/IndexOutOfBoundsException") (h2 := (q_kX s (c + 1) (n + 6))) rfl rfl ?_
      refine q_Ca_of (Nat.le_of_ble_eq_true rfl) ?_
      refine q_Ru_seg (g2 := (4, [(0, .int a1)], [.int 4096, .int a1], (q_kX s c n))) 2 (fun _ _ => rfl) ?_
      refine q_Ru_callX (E := "java/lang/IndexOutOfBoundsException") (h2 := (q_kX s (c + 1) (n + 6))) rfl rfl ?_
      refine q_Ca_of (Nat.le_of_ble_eq_true rfl) ?_
      refine q_Ru_seg (g2 := (1, [(0, .int a1), (1, .int 4096)], [.int a1], (q_kX s c n))) 1 (fun _ _ => rfl) ?_
      refine q_Ru_rsT (g2 := (9, [(0, .int a1), (1, .int 4096)], [], (q_kX s c n))) rfl rfl h7 ?_
      exact q_Ru_thr rfl rfl
    show q_RP _ _ _ (17, [(0, .ref 64), (1, .int a1), (2, .int a2), (3, .int a3), (4, .ref 236)], [], (q_kX s (c + 1) (n + 6))) _ _
    refine q_RP_seg (g2 := (18, [(0, .ref 64), (1, .int a1), (2, .int a2), (3, .int a3), (4, .ref 236)], [.int 1], (q_kX s (c + 1) (n + 6)))) 1 (fun _ _ => rfl) ?_
    exact q_RP_ret rfl rfl rfl
  | false =>
    refine q_RP_cF ?_
    cases h8 : decide (a1 < 4096) with
    | true =>
      refine q_RP_cT ?_
      cases h9 : decide (a2 < 0) with
      | true =>
        refine q_RP_cT ?_
        refine q_RP_callH (E := "java/lang/IndexOutOfBoundsException") (tg := 17) (i := 5) (h2 := (q_kX s (c + 1) (n + 6))) rfl rfl ?_ rfl ?_
        · refine q_Ca_of (Nat.le_of_ble_eq_true rfl) ?_
          refine q_Ru_seg (g2 := (1, [(0, .ref 64), (1, .int a1), (2, .int a2), (3, .int a3)], [.int a1], (q_kX s c n))) 1 (fun _ _ => rfl) ?_
          refine q_Ru_call (v := none) (h2 := (q_kX s c n)) rfl rfl ?_ ?_
          · refine q_Ca_of (Nat.le_of_ble_eq_true rfl) ?_
            refine q_Ru_seg (g2 := (4, [(0, .int a1)], [.int 4096, .int a1], (q_kX s c n))) 2 (fun _ _ => rfl) ?_
            refine q_Ru_call (v := none) (h2 := (q_kX s c n)) rfl rfl ?_ ?_
            · refine q_Ca_of (Nat.le_of_ble_eq_true rfl) ?_
              refine q_Ru_seg (g2 := (1, [(0, .int a1), (1, .int 4096)], [.int a1], (q_kX s c n))) 1 (fun _ _ => rfl) ?_
              refine q_Ru_rsF (g2 := (4, [(0, .int a1), (1, .int 4096)], [], (q_kX s c n))) rfl rfl h7 ?_
              refine q_Ru_seg (g2 := (6, [(0, .int a1), (1, .int 4096)], [.int 4096, .int a1], (q_kX s c n))) 2 (fun _ _ => rfl) ?_
              refine q_Ru_rsT (g2 := (19, [(0, .int a1), (1, .int 4096)], [], (q_kX s c n))) rfl rfl h8 ?_
              exact q_Ru_ret rfl rfl
            show q_Ru _ _ _ (7, [(0, .int a1)], [], (q_kX s c n)) _
            exact q_Ru_ret rfl rfl
          show q_Ru _ _ _ (4, [(0, .ref 64), (1, .int a1), (2, .int a2), (3, .int a3)], [], (q_kX s c n)) _
          refine q_Ru_seg (g2 := (5, [(0, .ref 64), (1, .int a1), (2, .int a2), (3, .int a3)], [.int a2], (q_kX s c n))) 1 (fun _ _ => rfl) ?_
          refine q_Ru_callX (E := "java/lang/IndexOutOfBoundsException") (h2 := (q_kX s (c + 1) (n + 6))) rfl rfl ?_
          refine q_Ca_of (Nat.le_of_ble_eq_true rfl) ?_
          refine q_Ru_seg (g2 := (4, [(0, .int a2)], [.int 4096, .int a2], (q_kX s c n))) 2 (fun _ _ => rfl) ?_
          refine q_Ru_callX (E := "java/lang/IndexOutOfBoundsException") (h2 := (q_kX s (c + 1) (n + 6))) rfl rfl ?_
          refine q_Ca_of (Nat.le_of_ble_eq_true rfl) ?_
          refine q_Ru_seg (g2 := (1, [(0, .int a2), (1, .int 4096)], [.int a2], (q_kX s c n))) 1 (fun _ _ => rfl) ?_
          refine q_Ru_rsT (g2 := (9, [(0, .int a2), (1, .int 4096)], [], (q_kX s c n))) rfl rfl h9 ?_
          exact q_Ru_thr rfl rfl
        show q_RP _ _ _ (17, [(0, .ref 64), (1, .int a1), (2, .int a2), (3, .int a3), (4, .ref 236)], [], (q_kX s (c + 1) (n + 6))) _ _
        refine q_RP_seg (g2 := (18, [(0, .ref 64), (1, .int a1), (2, .int a2), (3, .int a3), (4, .ref 236)], [.int 1], (q_kX s (c + 1) (n + 6)))) 1 (fun _ _ => rfl) ?_
        exact q_RP_ret rfl rfl rfl
      | false =>
        refine q_RP_cF ?_
        cases h10 : decide (a2 < 4096) with
        | true =>
          refine q_RP_cT ?_
          cases h11 : decide (a3 < 1) with
          | true =>
            refine q_RP_cT ?_
            refine q_RP_callH (E := "java/lang/IllegalArgumentException") (tg := 21) (i := 5) (h2 := (q_kX s (c + 1) (n + 6))) rfl rfl ?_ rfl ?_
            · refine q_Ca_of (Nat.le_of_ble_eq_true rfl) ?_
              refine q_Ru_seg (g2 := (1, [(0, .ref 64), (1, .int a1), (2, .int a2), (3, .int a3)], [.int a1], (q_kX s c n))) 1 (fun _ _ => rfl) ?_
              refine q_Ru_call (v := none) (h2 := (q_kX s c n)) rfl rfl ?_ ?_
              · refine q_Ca_of (Nat.le_of_ble_eq_true rfl) ?_
                refine q_Ru_seg (g2 := (4, [(0, .int a1)], [.int 4096, .int a1], (q_kX s c n))) 2 (fun _ _ => rfl) ?_
                refine q_Ru_call (v := none) (h2 := (q_kX s c n)) rfl rfl ?_ ?_
                · refine q_Ca_of (Nat.le_of_ble_eq_true rfl) ?_
                  refine q_Ru_seg (g2 := (1, [(0, .int a1), (1, .int 4096)], [.int a1], (q_kX s c n))) 1 (fun _ _ => rfl) ?_
                  refine q_Ru_rsF (g2 := (4, [(0, .int a1), (1, .int 4096)], [], (q_kX s c n))) rfl rfl h7 ?_
                  refine q_Ru_seg (g2 := (6, [(0, .int a1), (1, .int 4096)], [.int 4096, .int a1], (q_kX s c n))) 2 (fun _ _ => rfl) ?_
                  refine q_Ru_rsT (g2 := (19, [(0, .int a1), (1, .int 4096)], [], (q_kX s c n))) rfl rfl h8 ?_
                  exact q_Ru_ret rfl rfl
                show q_Ru _ _ _ (7, [(0, .int a1)], [], (q_kX s c n)) _
                exact q_Ru_ret rfl rfl
              show q_Ru _ _ _ (4, [(0, .ref 64), (1, .int a1), (2, .int a2), (3, .int a3)], [], (q_kX s c n)) _
              refine q_Ru_seg (g2 := (5, [(0, .ref 64), (1, .int a1), (2, .int a2), (3, .int a3)], [.int a2], (q_kX s c n))) 1 (fun _ _ => rfl) ?_
              refine q_Ru_call (v := none) (h2 := (q_kX s c n)) rfl rfl ?_ ?_
              · refine q_Ca_of (Nat.le_of_ble_eq_true rfl) ?_
                refine q_Ru_seg (g2 := (4, [(0, .int a2)], [.int 4096, .int a2], (q_kX s c n))) 2 (fun _ _ => rfl) ?_
                refine q_Ru_call (v := none) (h2 := (q_kX s c n)) rfl rfl ?_ ?_
                · refine q_Ca_of (Nat.le_of_ble_eq_true rfl) ?_
                  refine q_Ru_seg (g2 := (1, [(0, .int a2), (1, .int 4096)], [.int a2], (q_kX s c n))) 1 (fun _ _ => rfl) ?_
                  refine q_Ru_rsF (g2 := (4, [(0, .int a2), (1, .int 4096)], [], (q_kX s c n))) rfl rfl h9 ?_
                  refine q_Ru_seg (g2 := (6, [(0, .int a2), (1, .int 4096)], [.int 4096, .int a2], (q_kX s c n))) 2 (fun _ _ => rfl) ?_
                  refine q_Ru_rsT (g2 := (19, [(0, .int a2), (1, .int 4096)], [], (q_kX s c n))) rfl rfl h10 ?_
                  exact q_Ru_ret rfl rfl
                show q_Ru _ _ _ (7, [(0, .int a2)], [], (q_kX s c n)) _
                exact q_Ru_ret rfl rfl
              show q_Ru _ _ _ (8, [(0, .ref 64), (1, .int a1), (2, .int a2), (3, .int a3)], [], (q_kX s c n)) _
              refine q_Ru_seg (g2 := (13, [(0, .ref 64), (1, .int a1), (2, .int a2), (3, .int a3)], [.int 4096, .int 1, .int a3], (q_kX s c n))) 3 (fun _ _ => rfl) ?_
              refine q_Ru_callX (E := "java/lang/IllegalArgumentException") (h2 := (q_kX s (c + 1) (n + 6))) rfl rfl ?_
              refine q_Ca_of (Nat.le_of_ble_eq_true rfl) ?_
              refine q_Ru_seg (g2 := (2, [(0, .int a3), (1, .int 1), (2, .int 4096)], [.int 1, .int a3], (q_kX s c n))) 2 (fun _ _ => rfl) ?_
              refine q_Ru_rsT (g2 := (10, [(0, .int a3), (1, .int 1), (2, .int 4096)], [], (q_kX s c n))) rfl rfl h11 ?_
              exact q_Ru_thr rfl rfl
            show q_RP _ _ _ (21, [(0, .ref 64), (1, .int a1), (2, .int a2), (3, .int a3), (4, .ref 236)], [], (q_kX s (c + 1) (n + 6))) _ _
            refine q_RP_seg (g2 := (22, [(0, .ref 64), (1, .int a1), (2, .int a2), (3, .int a3), (4, .ref 236)], [.int 2], (q_kX s (c + 1) (n + 6)))) 1 (fun _ _ => rfl) ?_
            exact q_RP_ret rfl rfl rfl
          | false =>
            refine q_RP_cF ?_
            cases h12 : decide (4096 < a3) with
            | true =>
              refine q_RP_cT ?_
              refine q_RP_callH (E := "java/lang/IllegalArgumentException") (tg := 21) (i := 5) (h2 := (q_kX s (c + 1) (n + 6))) rfl rfl ?_ rfl ?_
              · refine q_Ca_of (Nat.le_of_ble_eq_true rfl) ?_
                refine q_Ru_seg (g2 := (1, [(0, .ref 64), (1, .int a1), (2, .int a2), (3, .int a3)], [.int a1], (q_kX s c n))) 1 (fun _ _ => rfl) ?_
                refine q_Ru_call (v := none) (h2 := (q_kX s c n)) rfl rfl ?_ ?_
                · refine q_Ca_of (Nat.le_of_ble_eq_true rfl) ?_
                  refine q_Ru_seg (g2 := (4, [(0, .int a1)], [.int 4096, .int a1], (q_kX s c n))) 2 (fun _ _ => rfl) ?_
                  refine q_Ru_call (v := none) (h2 := (q_kX s c n)) rfl rfl ?_ ?_
                  · refine q_Ca_of (Nat.le_of_ble_eq_true rfl) ?_
                    refine q_Ru_seg (g2 := (1, [(0, .int a1), (1, .int 4096)], [.int a1], (q_kX s c n))) 1 (fun _ _ => rfl) ?_
                    refine q_Ru_rsF (g2 := (4, [(0, .int a1), (1, .int 4096)], [], (q_kX s c n))) rfl rfl h7 ?_
                    refine q_Ru_seg (g2 := (6, [(0, .int a1), (1, .int 4096)], [.int 4096, .int a1], (q_kX s c n))) 2 (fun _ _ => rfl) ?_
                    refine q_Ru_rsT (g2 := (19, [(0, .int a1), (1, .int 4096)], [], (q_kX s c n))) rfl rfl h8 ?_
                    exact q_Ru_ret rfl rfl
                  show q_Ru _ _ _ (7, [(0, .int a1)], [], (q_kX s c n)) _
                  exact q_Ru_ret rfl rfl
                show q_Ru _ _ _ (4, [(0, .ref 64), (1, .int a1), (2, .int a2), (3, .int a3)], [], (q_kX s c n)) _
                refine q_Ru_seg (g2 := (5, [(0, .ref 64), (1, .int a1), (2, .int a2), (3, .int a3)], [.int a2], (q_kX s c n))) 1 (fun _ _ => rfl) ?_
                refine q_Ru_call (v := none) (h2 := (q_kX s c n)) rfl rfl ?_ ?_
                · refine q_Ca_of (Nat.le_of_ble_eq_true rfl) ?_
                  refine q_Ru_seg (g2 := (4, [(0, .int a2)], [.int 4096, .int a2], (q_kX s c n))) 2 (fun _ _ => rfl) ?_
                  refine q_Ru_call (v := none) (h2 := (q_kX s c n)) rfl rfl ?_ ?_
                  · refine q_Ca_of (Nat.le_of_ble_eq_true rfl) ?_
                    refine q_Ru_seg (g2 := (1, [(0, .int a2), (1, .int 4096)], [.int a2], (q_kX s c n))) 1 (fun _ _ => rfl) ?_
                    refine q_Ru_rsF (g2 := (4, [(0, .int a2), (1, .int 4096)], [], (q_kX s c n))) rfl rfl h9 ?_
                    refine q_Ru_seg (g2 := (6, [(0, .int a2), (1, .int 4096)], [.int 4096, .int a2], (q_kX s c n))) 2 (fun _ _ => rfl) ?_
                    refine q_Ru_rsT (g2 := (19, [(0, .int a2), (1, .int 4096)], [], (q_kX s c n))) rfl rfl h10 ?_
                    exact q_Ru_ret rfl rfl
                  show q_Ru _ _ _ (7, [(0, .int a2)], [], (q_kX s c n)) _
                  exact q_Ru_ret rfl rfl
                show q_Ru _ _ _ (8, [(0, .ref 64), (1, .int a1), (2, .int a2), (3, .int a3)], [], (q_kX s c n)) _
                refine q_Ru_seg (g2 := (13, [(0, .ref 64), (1, .int a1), (2, .int a2), (3, .int a3)], [.int 4096, .int 1, .int a3], (q_kX s c n))) 3 (fun _ _ => rfl) ?_
                refine q_Ru_callX (E := "java/lang/IllegalArgumentException") (h2 := (q_kX s (c + 1) (n + 6))) rfl rfl ?_
                refine q_Ca_of (Nat.le_of_ble_eq_true rfl) ?_
                refine q_Ru_seg (g2 := (2, [(0, .int a3), (1, .int 1), (2, .int 4096)], [.int 1, .int a3], (q_kX s c n))) 2 (fun _ _ => rfl) ?_
                refine q_Ru_rsF (g2 := (5, [(0, .int a3), (1, .int 1), (2, .int 4096)], [], (q_kX s c n))) rfl rfl h11 ?_
                refine q_Ru_seg (g2 := (7, [(0, .int a3), (1, .int 1), (2, .int 4096)], [.int 4096, .int a3], (q_kX s c n))) 2 (fun _ _ => rfl) ?_
                refine q_Ru_rsF (g2 := (10, [(0, .int a3), (1, .int 1), (2, .int 4096)], [], (q_kX s c n))) rfl rfl (q_d_geT h12) ?_
                exact q_Ru_thr rfl rfl
              show q_RP _ _ _ (21, [(0, .ref 64), (1, .int a1), (2, .int a2), (3, .int a3), (4, .ref 236)], [], (q_kX s (c + 1) (n + 6))) _ _
              refine q_RP_seg (g2 := (22, [(0, .ref 64), (1, .int a1), (2, .int a2), (3, .int a3), (4, .ref 236)], [.int 2], (q_kX s (c + 1) (n + 6)))) 1 (fun _ _ => rfl) ?_
              exact q_RP_ret rfl rfl rfl
            | false =>
              refine q_RP_cF ?_
              refine q_RP_bd fun r3 er3 => ?_
              refine q_RP_call (v := (some (.int r3))) (h2 := (q_kX s c n)) rfl rfl ?_ ?_
              · refine q_Ca_of (Nat.le_of_ble_eq_true rfl) ?_
                refine q_Ru_seg (g2 := (1, [(0, .ref 64), (1, .int a1), (2, .int a2), (3, .int a3)], [.int a1], (q_kX s c n))) 1 (fun _ _ => rfl) ?_
                refine q_Ru_call (v := none) (h2 := (q_kX s c n)) rfl rfl ?_ ?_
                · refine q_Ca_of (Nat.le_of_ble_eq_true rfl) ?_
                  refine q_Ru_seg (g2 := (4, [(0, .int a1)], [.int 4096, .int a1], (q_kX s c n))) 2 (fun _ _ => rfl) ?_
                  refine q_Ru_call (v := none) (h2 := (q_kX s c n)) rfl rfl ?_ ?_
                  · refine q_Ca_of (Nat.le_of_ble_eq_true rfl) ?_
                    refine q_Ru_seg (g2 := (1, [(0, .int a1), (1, .int 4096)], [.int a1], (q_kX s c n))) 1 (fun _ _ => rfl) ?_
                    refine q_Ru_rsF (g2 := (4, [(0, .int a1), (1, .int 4096)], [], (q_kX s c n))) rfl rfl h7 ?_
                    refine q_Ru_seg (g2 := (6, [(0, .int a1), (1, .int 4096)], [.int 4096, .int a1], (q_kX s c n))) 2 (fun _ _ => rfl) ?_
                    refine q_Ru_rsT (g2 := (19, [(0, .int a1), (1, .int 4096)], [], (q_kX s c n))) rfl rfl h8 ?_
                    exact q_Ru_ret rfl rfl
                  show q_Ru _ _ _ (7, [(0, .int a1)], [], (q_kX s c n)) _
                  exact q_Ru_ret rfl rfl
                show q_Ru _ _ _ (4, [(0, .ref 64), (1, .int a1), (2, .int a2), (3, .int a3)], [], (q_kX s c n)) _
                refine q_Ru_seg (g2 := (5, [(0, .ref 64), (1, .int a1), (2, .int a2), (3, .int a3)], [.int a2], (q_kX s c n))) 1 (fun _ _ => rfl) ?_
                refine q_Ru_call (v := none) (h2 := (q_kX s c n)) rfl rfl ?_ ?_
                · refine q_Ca_of (Nat.le_of_ble_eq_true rfl) ?_
                  refine q_Ru_seg (g2 := (4, [(0, .int a2)], [.int 4096, .int a2], (q_kX s c n))) 2 (fun _ _ => rfl) ?_
                  refine q_Ru_call (v := none) (h2 := (q_kX s c n)) rfl rfl ?_ ?_
                  · refine q_Ca_of (Nat.le_of_ble_eq_true rfl) ?_
                    refine q_Ru_seg (g2 := (1, [(0, .int a2), (1, .int 4096)], [.int a2], (q_kX s c n))) 1 (fun _ _ => rfl) ?_
                    refine q_Ru_rsF (g2 := (4, [(0, .int a2), (1, .int 4096)], [], (q_kX s c n))) rfl rfl h9 ?_
                    refine q_Ru_seg (g2 := (6, [(0, .int a2), (1, .int 4096)], [.int 4096, .int a2], (q_kX s c n))) 2 (fun _ _ => rfl) ?_
                    refine q_Ru_rsT (g2 := (19, [(0, .int a2), (1, .int 4096)], [], (q_kX s c n))) rfl rfl h10 ?_
                    exact q_Ru_ret rfl rfl
                  show q_Ru _ _ _ (7, [(0, .int a2)], [], (q_kX s c n)) _
                  exact q_Ru_ret rfl rfl
                show q_Ru _ _ _ (8, [(0, .ref 64), (1, .int a1), (2, .int a2), (3, .int a3)], [], (q_kX s c n)) _
                refine q_Ru_seg (g2 := (13, [(0, .ref 64), (1, .int a1), (2, .int a2), (3, .int a3)], [.int 4096, .int 1, .int a3], (q_kX s c n))) 3 (fun _ _ => rfl) ?_
                refine q_Ru_call (v := none) (h2 := (q_kX s c n)) rfl rfl ?_ ?_
                · refine q_Ca_of (Nat.le_of_ble_eq_true rfl) ?_
                  refine q_Ru_seg (g2 := (2, [(0, .int a3), (1, .int 1), (2, .int 4096)], [.int 1, .int a3], (q_kX s c n))) 2 (fun _ _ => rfl) ?_
                  refine q_Ru_rsF (g2 := (5, [(0, .int a3), (1, .int 1), (2, .int 4096)], [], (q_kX s c n))) rfl rfl h11 ?_
                  refine q_Ru_seg (g2 := (7, [(0, .int a3), (1, .int 1), (2, .int 4096)], [.int 4096, .int a3], (q_kX s c n))) 2 (fun _ _ => rfl) ?_
                  refine q_Ru_rsT (g2 := (20, [(0, .int a3), (1, .int 1), (2, .int 4096)], [], (q_kX s c n))) rfl rfl (q_d_geF h12) ?_
                  exact q_Ru_ret rfl rfl
                show q_Ru _ _ _ (16, [(0, .ref 64), (1, .int a1), (2, .int a2), (3, .int a3)], [], (q_kX s c n)) _
                refine q_Ru_seg (g2 := (22, [(5, .int 0), (4, .int 0), (0, .ref 64), (1, .int a1), (2, .int a2), (3, .int a3)], [], (q_kX s c n))) 4 (fun _ _ => rfl) ?_
                exact q_Ru_xt (q_xt_mk (q_mn1 2 rfl (q_mn1 3 rfl (q_mn1 4 rfl (q_mn1 5 rfl (q_mn1 1 rfl (q_mn1 0 rfl q_mn0)))))) rfl) (q_Ru_le (Nat.le_of_ble_eq_true rfl) (dzt_X36_22 z L xs c n s 5000 a1 a2 a3 0 0 r3 er3))
              show q_RP _ _ _ (10, [(0, .ref 64), (1, .int a1), (2, .int a2), (3, .int a3), (4, .ref 236)], [.int r3, .int 0, .ref 236], (q_kX s c n)) _ _
              refine q_RP_seg (g2 := (11, [(0, .ref 64), (1, .int a1), (2, .int a2), (3, .int a3), (4, .ref 236)], [.long r3.toInt64, .int 0, .ref 236], (q_kX s c n))) 1 (fun _ _ => rfl) ?_
              refine q_RP_rsT (g2 := (12, [(0, .ref 64), (1, .int a1), (2, .int a2), (3, .int a3), (4, .ref 236)], [], (q_kX (q_sL s 172 (vp_updL (s.2.2 172) 0 r3.toInt64)) c n))) rfl q_wX172 rfl ?_
              refine q_RP_seg (g2 := (24, [(0, .ref 64), (1, .int a1), (2, .int a2), (3, .int a3), (4, .ref 236)], [.int 0], (q_kX (q_sL s 172 (vp_updL (s.2.2 172) 0 r3.toInt64)) c n))) 2 (fun _ _ => rfl) ?_
              exact q_RP_ret rfl rfl rfl
        | false =>
          refine q_RP_cF ?_
          refine q_RP_callH (E := "java/lang/IndexOutOfBoundsException") (tg := 17) (i := 5) (h2 := (q_kX s (c + 1) (n + 6))) rfl rfl ?_ rfl ?_
          · refine q_Ca_of (Nat.le_of_ble_eq_true rfl) ?_
            refine q_Ru_seg (g2 := (1, [(0, .ref 64), (1, .int a1), (2, .int a2), (3, .int a3)], [.int a1], (q_kX s c n))) 1 (fun _ _ => rfl) ?_
            refine q_Ru_call (v := none) (h2 := (q_kX s c n)) rfl rfl ?_ ?_
            · refine q_Ca_of (Nat.le_of_ble_eq_true rfl) ?_
              refine q_Ru_seg (g2 := (4, [(0, .int a1)], [.int 4096, .int a1], (q_kX s c n))) 2 (fun _ _ => rfl) ?_
              refine q_Ru_call (v := none) (h2 := (q_kX s c n)) rfl rfl ?_ ?_
              · refine q_Ca_of (Nat.le_of_ble_eq_true rfl) ?_
                refine q_Ru_seg (g2 := (1, [(0, .int a1), (1, .int 4096)], [.int a1], (q_kX s c n))) 1 (fun _ _ => rfl) ?_
                refine q_Ru_rsF (g2 := (4, [(0, .int a1), (1, .int 4096)], [], (q_kX s c n))) rfl rfl h7 ?_
                refine q_Ru_seg (g2 := (6, [(0, .int a1), (1, .int 4096)], [.int 4096, .int a1], (q_kX s c n))) 2 (fun _ _ => rfl) ?_
                refine q_Ru_rsT (g2 := (19, [(0, .int a1), (1, .int 4096)], [], (q_kX s c n))) rfl rfl h8 ?_
                exact q_Ru_ret rfl rfl
              show q_Ru _ _ _ (7, [(0, .int a1)], [], (q_kX s c n)) _
              exact q_Ru_ret rfl rfl
            show q_Ru _ _ _ (4, [(0, .ref 64), (1, .int a1), (2, .int a2), (3, .int a3)], [], (q_kX s c n)) _
            refine q_Ru_seg (g2 := (5, [(0, .ref 64), (1, .int a1), (2, .int a2), (3, .int a3)], [.int a2], (q_kX s c n))) 1 (fun _ _ => rfl) ?_
            refine q_Ru_callX (E := "java/lang/IndexOutOfBoundsException") (h2 := (q_kX s (c + 1) (n + 6))) rfl rfl ?_
            refine q_Ca_of (Nat.le_of_ble_eq_true rfl) ?_
            refine q_Ru_seg (g2 := (4, [(0, .int a2)], [.int 4096, .int a2], (q_kX s c n))) 2 (fun _ _ => rfl) ?_
            refine q_Ru_callX (E := "java/lang/IndexOutOfBoundsException") (h2 := (q_kX s (c + 1) (n + 6))) rfl rfl ?_
            refine q_Ca_of (Nat.le_of_ble_eq_true rfl) ?_
            refine q_Ru_seg (g2 := (1, [(0, .int a2), (1, .int 4096)], [.int a2], (q_kX s c n))) 1 (fun _ _ => rfl) ?_
            refine q_Ru_rsF (g2 := (4, [(0, .int a2), (1, .int 4096)], [], (q_kX s c n))) rfl rfl h9 ?_
            refine q_Ru_seg (g2 := (6, [(0, .int a2), (1, .int 4096)], [.int 4096, .int a2], (q_kX s c n))) 2 (fun _ _ => rfl) ?_
            refine q_Ru_rsF (g2 := (9, [(0, .int a2), (1, .int 4096)], [], (q_kX s c n))) rfl rfl h10 ?_
            exact q_Ru_thr rfl rfl
          show q_RP _ _ _ (17, [(0, .ref 64), (1, .int a1), (2, .int a2), (3, .int a3), (4, .ref 236)], [], (q_kX s (c + 1) (n + 6))) _ _
          refine q_RP_seg (g2 := (18, [(0, .ref 64), (1, .int a1), (2, .int a2), (3, .int a3), (4, .ref 236)], [.int 1], (q_kX s (c + 1) (n + 6)))) 1 (fun _ _ => rfl) ?_
          exact q_RP_ret rfl rfl rfl
    | false =>
      refine q_RP_cF ?_
      refine q_RP_callH (E := "java/lang/IndexOutOfBoundsException") (tg := 17) (i := 5) (h2 := (q_kX s (c + 1) (n + 6))) rfl rfl ?_ rfl ?_
      · refine q_Ca_of (Nat.le_of_ble_eq_true rfl) ?_
        refine q_Ru_seg (g2 := (1, [(0, .ref 64), (1, .int a1), (2, .int a2), (3, .int a3)], [.int a1], (q_kX s c n))) 1 (fun _ _ => rfl) ?_
        refine q_Ru_callX (E := "java/lang/IndexOutOfBoundsException") (h2 := (q_kX s (c + 1) (n + 6))) rfl rfl ?_
        refine q_Ca_of (Nat.le_of_ble_eq_true rfl) ?_
        refine q_Ru_seg (g2 := (4, [(0, .int a1)], [.int 4096, .int a1], (q_kX s c n))) 2 (fun _ _ => rfl) ?_
        refine q_Ru_callX (E := "java/lang/IndexOutOfBoundsException") (h2 := (q_kX s (c + 1) (n + 6))) rfl rfl ?_
        refine q_Ca_of (Nat.le_of_ble_eq_true rfl) ?_
        refine q_Ru_seg (g2 := (1, [(0, .int a1), (1, .int 4096)], [.int a1], (q_kX s c n))) 1 (fun _ _ => rfl) ?_
        refine q_Ru_rsF (g2 := (4, [(0, .int a1), (1, .int 4096)], [], (q_kX s c n))) rfl rfl h7 ?_
        refine q_Ru_seg (g2 := (6, [(0, .int a1), (1, .int 4096)], [.int 4096, .int a1], (q_kX s c n))) 2 (fun _ _ => rfl) ?_
        refine q_Ru_rsF (g2 := (9, [(0, .int a1), (1, .int 4096)], [], (q_kX s c n))) rfl rfl h8 ?_
        exact q_Ru_thr rfl rfl
      show q_RP _ _ _ (17, [(0, .ref 64), (1, .int a1), (2, .int a2), (3, .int a3), (4, .ref 236)], [], (q_kX s (c + 1) (n + 6))) _ _
      refine q_RP_seg (g2 := (18, [(0, .ref 64), (1, .int a1), (2, .int a2), (3, .int a3), (4, .ref 236)], [.int 1], (q_kX s (c + 1) (n + 6)))) 1 (fun _ _ => rfl) ?_
      exact q_RP_ret rfl rfl rfl
def dz_X9_64_236 (s : q_S) (a1 : Int32) : q_S × Int32 × Nat :=
  cond (decide (a1 < 0)) ((s, 1, 1)) (cond (decide (a1 < 5)) (q_let (dz_N133_87 (q_vw 32 1 73 s) a1) fun r1 => ((q_sL s 172 (vp_updL (s.2.2 172) 0 r1.toInt64)), 0, 0)) ((s, 1, 1)))
set_option maxHeartbeats 4000000 in
theorem dzt_X9_64_236 (z L : Nat) (xs : Nat → Int32) (s : q_S) (c n : Nat) (a1 : Int32) : q_Ca (q_TBs z L xs) 4 9 [.ref 64, .int a1, .ref 236] (q_kX s c n) ((q_oEX c n) (dz_X9_64_236 s a1)) := by
  refine q_CaT_of (φ := (q_oEX c n)) (Nat.le_of_ble_eq_true rfl) ?_
  unfold dz_X9_64_236
  refine q_RT_seg (g2 := (4, [(0, .ref 64), (1, .int a1), (2, .ref 236)], [.int a1, .ref 64, .int 0, .ref 236], (q_kX s c n))) 4 (fun _ _ => rfl) ?_
  cases h1 : decide (a1 < 0) with
  | true =>
    refine q_RT_cT ?_
    refine q_RT_callH (E := "java/lang/IndexOutOfBoundsException") (tg := 13) (i := 3) (h2 := (q_kX s (c + 1) (n + 6))) rfl rfl ?_ rfl ?_
    · refine q_Ca_of (Nat.le_of_ble_eq_true rfl) ?_
      refine q_Ru_seg (g2 := (2, [(0, .ref 64), (1, .int a1)], [.int 5, .int a1], (q_kX s c n))) 2 (fun _ _ => rfl) ?_
      refine q_Ru_callX (E := "java/lang/IndexOutOfBoundsException") (h2 := (q_kX s (c + 1) (n + 6))) rfl rfl ?_
      refine q_Ca_of (Nat.le_of_ble_eq_true rfl) ?_
      refine q_Ru_seg (g2 := (1, [(0, .int a1), (1, .int 5)], [.int a1], (q_kX s c n))) 1 (fun _ _ => rfl) ?_
      refine q_Ru_rsT (g2 := (9, [(0, .int a1), (1, .int 5)], [], (q_kX s c n))) rfl rfl h1 ?_
      exact q_Ru_thr rfl rfl
    show q_RT _ _ _ (13, [(0, .ref 64), (1, .int a1), (2, .ref 236)], [], (q_kX s (c + 1) (n + 6))) _ _
    refine q_RT_seg (g2 := (14, [(0, .ref 64), (1, .int a1), (2, .ref 236)], [.int 1], (q_kX s (c + 1) (n + 6)))) 1 (fun _ _ => rfl) ?_
    exact q_RT_ret rfl rfl rfl
  | false =>
    refine q_RT_cF ?_
    cases h2 : decide (a1 < 5) with
    | true =>
      refine q_RT_cT ?_
      generalize er1 : dz_N133_87 (q_vw 32 1 73 s) a1 = r1
      refine q_RT_let ?_
      refine q_RT_call (v := (some (.int r1))) (h2 := (q_kX s c n)) rfl rfl ?_ ?_
      · refine q_Ca_of (Nat.le_of_ble_eq_true rfl) ?_
        refine q_Ru_seg (g2 := (2, [(0, .ref 64), (1, .int a1)], [.int 5, .int a1], (q_kX s c n))) 2 (fun _ _ => rfl) ?_
        refine q_Ru_call (v := none) (h2 := (q_kX s c n)) rfl rfl ?_ ?_
        · refine q_Ca_of (Nat.le_of_ble_eq_true rfl) ?_
          refine q_Ru_seg (g2 := (1, [(0, .int a1), (1, .int 5)], [.int a1], (q_kX s c n))) 1 (fun _ _ => rfl) ?_
          refine q_Ru_rsF (g2 := (4, [(0, .int a1), (1, .int 5)], [], (q_kX s c n))) rfl rfl h1 ?_
          refine q_Ru_seg (g2 := (6, [(0, .int a1), (1, .int 5)], [.int 5, .int a1], (q_kX s c n))) 2 (fun _ _ => rfl) ?_
          refine q_Ru_rsT (g2 := (19, [(0, .int a1), (1, .int 5)], [], (q_kX s c n))) rfl rfl h2 ?_
          exact q_Ru_ret rfl rfl
        show q_Ru _ _ _ (5, [(0, .ref 64), (1, .int a1)], [], (q_kX s c n)) _
        refine q_Ru_seg (g2 := (13, [(0, .ref 64), (1, .int a1)], [.int a1, .ref 88], (q_kX s c n))) 4 (fun _ _ => rfl) ?_
        refine q_Ru_call (v := (some (.int r1))) (h2 := (q_kX s c n)) rfl rfl ?_ ?_
        · exact (q_emNX_1p rfl (fun _ => rfl) ((q_cE (φ := (q_oP (q_kN (q_vw 32 1 73 s) c n))) er1 (dzt_N133_87 (q_vw 32 1 73 s) c n a1)).tb q_TB0_le)).le (Nat.le_of_ble_eq_true rfl)
        show q_Ru _ _ _ (16, [(0, .ref 64), (1, .int a1)], [.int r1], (q_kX s c n)) _
        exact q_Ru_ret rfl rfl
      show q_RT _ _ _ (7, [(0, .ref 64), (1, .int a1), (2, .ref 236)], [.int r1, .int 0, .ref 236], (q_kX s c n)) _ _
      refine q_RT_seg (g2 := (8, [(0, .ref 64), (1, .int a1), (2, .ref 236)], [.long r1.toInt64, .int 0, .ref 236], (q_kX s c n))) 1 (fun _ _ => rfl) ?_
      refine q_RT_rsT (g2 := (9, [(0, .ref 64), (1, .int a1), (2, .ref 236)], [], (q_kX (q_sL s 172 (vp_updL (s.2.2 172) 0 r1.toInt64)) c n))) rfl q_wX172 rfl ?_
      refine q_RT_seg (g2 := (16, [(0, .ref 64), (1, .int a1), (2, .ref 236)], [.int 0], (q_kX (q_sL s 172 (vp_updL (s.2.2 172) 0 r1.toInt64)) c n))) 2 (fun _ _ => rfl) ?_
      exact q_RT_ret rfl rfl rfl
    | false =>
      refine q_RT_cF ?_
      refine q_RT_callH (E := "java/lang/IndexOutOfBoundsException") (tg := 13) (i := 3) (h2 := (q_kX s (c + 1) (n + 6))) rfl rfl ?_ rfl ?_
      · refine q_Ca_of (Nat.le_of_ble_eq_true rfl) ?_
        refine q_Ru_seg (g2 := (2, [(0, .ref 64), (1, .int a1)], [.int 5, .int a1], (q_kX s c n))) 2 (fun _ _ => rfl) ?_
        refine q_Ru_callX (E := "java/lang/IndexOutOfBoundsException") (h2 := (q_kX s (c + 1) (n + 6))) rfl rfl ?_
        refine q_Ca_of (Nat.le_of_ble_eq_true rfl) ?_
        refine q_Ru_seg (g2 := (1, [(0, .int a1), (1, .int 5)], [.int a1], (q_kX s c n))) 1 (fun _ _ => rfl) ?_
        refine q_Ru_rsF (g2 := (4, [(0, .int a1), (1, .int 5)], [], (q_kX s c n))) rfl rfl h1 ?_
        refine q_Ru_seg (g2 := (6, [(0, .int a1), (1, .int 5)], [.int 5, .int a1], (q_kX s c n))) 2 (fun _ _ => rfl) ?_
        refine q_Ru_rsF (g2 := (9, [(0, .int a1), (1, .int 5)], [], (q_kX s c n))) rfl rfl h2 ?_
        exact q_Ru_thr rfl rfl
      show q_RT _ _ _ (13, [(0, .ref 64), (1, .int a1), (2, .ref 236)], [], (q_kX s (c + 1) (n + 6))) _ _
      refine q_RT_seg (g2 := (14, [(0, .ref 64), (1, .int a1), (2, .ref 236)], [.int 1], (q_kX s (c + 1) (n + 6)))) 1 (fun _ _ => rfl) ?_
      exact q_RT_ret rfl rfl rfl
def dz_X10_64_236 (s : q_S) (a1 : Int32) (a2 : Int32) : Option (q_S × Int32 × Nat) :=
  cond (decide (a1 < 0)) (some (s, 1, 1)) (cond (decide (a1 < 5)) (cond (decide (a1 = 4)) (cond (decide (a2 < 0)) (some (s, 2, 1)) (cond (decide (4095 < a2)) (some (s, 2, 1)) (cond (decide (0 < s.2.1 24 9)) (some (s, 3, 1)) (q_let (dz_X184_98 s 4 a1 a2 0) fun r2 => (dz_N79_64 (q_vw 32 1 73 r2) 4 a1 a2 0).bind fun r3 => some ((q_sL (q_pt 32 3 1 73 r2 r3.1) 172 (vp_updL ((q_pt 32 3 1 73 r2 r3.1).2.2 172) 0 r3.2.toInt64)), 0, 0))))) (cond (decide (a2 < 0)) (some (s, 2, 1)) (cond (decide (255 < a2)) (some (s, 2, 1)) (cond (decide (0 < s.2.1 24 9)) (some (s, 3, 1)) (q_let (dz_X184_98 s 4 a1 a2 0) fun r4 => (dz_N79_64 (q_vw 32 1 73 r4) 4 a1 a2 0).bind fun r5 => some ((q_sL (q_pt 32 3 1 73 r4 r5.1) 172 (vp_updL ((q_pt 32 3 1 73 r4 r5.1).2.2 172) 0 r5.2.toInt64)), 0, 0)))))) (some (s, 1, 1)))
set_option maxHeartbeats 4000000 in
theorem dzt_X10_64_236 (z L : Nat) (xs : Nat → Int32) (s : q_S) (c n : Nat) (a1 : Int32) (a2 : Int32) (x : q_S × Int32 × Nat) (h : dz_X10_64_236 s a1 a2 = some x) : q_Ca (q_TBs z L xs) 10 10 [.ref 64, .int a1, .int a2, .ref 236] (q_kX s c n) ((q_oEX c n) x) := by
  refine q_CaP_of (φ := (q_oEX c n)) (Nat.le_of_ble_eq_true rfl) ?_ h
  clear h
  unfold dz_X10_64_236
  refine q_RP_seg (g2 := (5, [(0, .ref 64), (1, .int a1), (2, .int a2), (3, .ref 236)], [.int a2, .int a1, .ref 64, .int 0, .ref 236], (q_kX s c n))) 5 (fun _ _ => rfl) ?_
  cases h7 : decide (a1 < 0) with
  | true =>
    refine q_RP_cT ?_
    refine q_RP_callH (E := "java/lang/IndexOutOfBoundsException") (tg := 15) (i := 4) (h2 := (q_kX s (c + 1) (n + 6))) rfl rfl ?_ rfl ?_
    · refine q_Ca_of (Nat.le_of_ble_eq_true rfl) ?_
      refine q_Ru_seg (g2 := (2, [(0, .ref 64), (1, .int a1), (2, .int a2)], [.int 5, .int a1], (q_kX s c n))) 2 (fun _ _ => rfl) ?_
      refine q_Ru_callX (E := "java/lang/IndexOutOfBoundsException") (h2 := (q_kX s (c + 1) (n + 6))) rfl rfl ?_
      refine q_Ca_of (Nat.le_of_ble_eq_true rfl) ?_
      refine q_Ru_seg (g2 := (1, [(0, .int a1), (1, .int 5)], [.int a1], (q_kX s c n))) 1 (fun _ _ => rfl) ?_
      refine q_Ru_rsT (g2 := (9, [(0, .int a1), (1, .int 5)], [], (q_kX s c n))) rfl rfl h7 ?_
      exact q_Ru_thr rfl rfl
    show q_RP _ _ _ (15, [(0, .ref 64), (1, .int a1), (2, .int a2), (3, .ref 236)], [], (q_kX s (c + 1) (n + 6))) _ _
    refine q_RP_seg (g2 := (16, [(0, .ref 64), (1, .int a1), (2, .int a2), (3, .ref 236)], [.int 1], (q_kX s (c + 1) (n + 6)))) 1 (fun _ _ => rfl) ?_
    exact q_RP_ret rfl rfl rfl
  | false =>
    refine q_RP_cF ?_
    cases h8 : decide (a1 < 5) with
    | true =>
      refine q_RP_cT ?_
      cases h9 : decide (a1 = 4) with
      | true =>
        refine q_RP_cT ?_
        cases h10 : decide (a2 < 0) with
        | true =>
          refine q_RP_cT ?_
          refine q_RP_callH (E := "java/lang/IllegalArgumentException") (tg := 19) (i := 4) (h2 := (q_kX s (c + 1) (n + 6))) rfl rfl ?_ rfl ?_
          · refine q_Ca_of (Nat.le_of_ble_eq_true rfl) ?_
            refine q_Ru_seg (g2 := (2, [(0, .ref 64), (1, .int a1), (2, .int a2)], [.int 5, .int a1], (q_kX s c n))) 2 (fun _ _ => rfl) ?_
            refine q_Ru_call (v := none) (h2 := (q_kX s c n)) rfl rfl ?_ ?_
            · refine q_Ca_of (Nat.le_of_ble_eq_true rfl) ?_
              refine q_Ru_seg (g2 := (1, [(0, .int a1), (1, .int 5)], [.int a1], (q_kX s c n))) 1 (fun _ _ => rfl) ?_
              refine q_Ru_rsF (g2 := (4, [(0, .int a1), (1, .int 5)], [], (q_kX s c n))) rfl rfl h7 ?_
              refine q_Ru_seg (g2 := (6, [(0, .int a1), (1, .int 5)], [.int 5, .int a1], (q_kX s c n))) 2 (fun _ _ => rfl) ?_
              refine q_Ru_rsT (g2 := (19, [(0, .int a1), (1, .int 5)], [], (q_kX s c n))) rfl rfl h8 ?_
              exact q_Ru_ret rfl rfl
            show q_Ru _ _ _ (5, [(0, .ref 64), (1, .int a1), (2, .int a2)], [], (q_kX s c n)) _
            refine q_Ru_seg (g2 := (9, [(0, .ref 64), (1, .int a1), (2, .int a2)], [.int 4, .int a1, .int 0, .int a2], (q_kX s c n))) 4 (fun _ _ => rfl) ?_
            refine q_Ru_rsF (g2 := (12, [(0, .ref 64), (1, .int a1), (2, .int a2)], [.int 0, .int a2], (q_kX s c n))) rfl rfl (q_d_neT h9) ?_
            refine q_Ru_seg (g2 := (21, [(0, .ref 64), (1, .int a1), (2, .int a2)], [.int 4095, .int 0, .int a2], (q_kX s c n))) 2 (fun _ _ => rfl) ?_
            refine q_Ru_callX (E := "java/lang/IllegalArgumentException") (h2 := (q_kX s (c + 1) (n + 6))) rfl rfl ?_
            refine q_Ca_of (Nat.le_of_ble_eq_true rfl) ?_
            refine q_Ru_seg (g2 := (2, [(0, .int a2), (1, .int 0), (2, .int 4095)], [.int 0, .int a2], (q_kX s c n))) 2 (fun _ _ => rfl) ?_
            refine q_Ru_rsT (g2 := (10, [(0, .int a2), (1, .int 0), (2, .int 4095)], [], (q_kX s c n))) rfl rfl h10 ?_
            exact q_Ru_thr rfl rfl
          show q_RP _ _ _ (19, [(0, .ref 64), (1, .int a1), (2, .int a2), (3, .ref 236)], [], (q_kX s (c + 1) (n + 6))) _ _
          refine q_RP_seg (g2 := (20, [(0, .ref 64), (1, .int a1), (2, .int a2), (3, .ref 236)], [.int 2], (q_kX s (c + 1) (n + 6)))) 1 (fun _ _ => rfl) ?_
          exact q_RP_ret rfl rfl rfl
        | false =>
          refine q_RP_cF ?_
          cases h11 : decide (4095 < a2) with
          | true =>
            refine q_RP_cT ?_
            refine q_RP_callH (E := "java/lang/IllegalArgumentException") (tg := 19) (i := 4) (h2 := (q_kX s (c + 1) (n + 6))) rfl rfl ?_ rfl ?_
            · refine q_Ca_of (Nat.le_of_ble_eq_true rfl) ?_
              refine q_Ru_seg (g2 := (2, [(0, .ref 64), (1, .int a1), (2, .int a2)], [.int 5, .int a1], (q_kX s c n))) 2 (fun _ _ => rfl) ?_
              refine q_Ru_call (v := none) (h2 := (q_kX s c n)) rfl rfl ?_ ?_
              · refine q_Ca_of (Nat.le_of_ble_eq_true rfl) ?_
                refine q_Ru_seg (g2 := (1, [(0, .int a1), (1, .int 5)], [.int a1], (q_kX s c n))) 1 (fun _ _ => rfl) ?_
                refine q_Ru_rsF (g2 := (4, [(0, .int a1), (1, .int 5)], [], (q_kX s c n))) rfl rfl h7 ?_
                refine q_Ru_seg (g2 := (6, [(0, .int a1), (1, .int 5)], [.int 5, .int a1], (q_kX s c n))) 2 (fun _ _ => rfl) ?_
                refine q_Ru_rsT (g2 := (19, [(0, .int a1), (1, .int 5)], [], (q_kX s c n))) rfl rfl h8 ?_
                exact q_Ru_ret rfl rfl
              show q_Ru _ _ _ (5, [(0, .ref 64), (1, .int a1), (2, .int a2)], [], (q_kX s c n)) _
              refine q_Ru_seg (g2 := (9, [(0, .ref 64), (1, .int a1), (2, .int a2)], [.int 4, .int a1, .int 0, .int a2], (q_kX s c n))) 4 (fun _ _ => rfl) ?_
              refine q_Ru_rsF (g2 := (12, [(0, .ref 64), (1, .int a1), (2, .int a2)], [.int 0, .int a2], (q_kX s c n))) rfl rfl (q_d_neT h9) ?_
              refine q_Ru_seg (g2 := (21, [(0, .ref 64), (1, .int a1), (2, .int a2)], [.int 4095, .int 0, .int a2], (q_kX s c n))) 2 (fun _ _ => rfl) ?_
              refine q_Ru_callX (E := "java/lang/IllegalArgumentException") (h2 := (q_kX s (c + 1) (n + 6))) rfl rfl ?_
              refine q_Ca_of (Nat.le_of_ble_eq_true rfl) ?_
              refine q_Ru_seg (g2 := (2, [(0, .int a2), (1, .int 0), (2, .int 4095)], [.int 0, .int a2], (q_kX s c n))) 2 (fun _ _ => rfl) ?_
              refine q_Ru_rsF (g2 := (5, [(0, .int a2), (1, .int 0), (2, .int 4095)], [], (q_kX s c n))) rfl rfl h10 ?_
              refine q_Ru_seg (g2 := (7, [(0, .int a2), (1, .int 0), (2, .int 4095)], [.int 4095, .int a2], (q_kX s c n))) 2 (fun _ _ => rfl) ?_
              refine q_Ru_rsF (g2 := (10, [(0, .int a2), (1, .int 0), (2, .int 4095)], [], (q_kX s c n))) rfl rfl (q_d_geT h11) ?_
              exact q_Ru_thr rfl rfl
            show q_RP _ _ _ (19, [(0, .ref 64), (1, .int a1), (2, .int a2), (3, .ref 236)], [], (q_kX s (c + 1) (n + 6))) _ _
            refine q_RP_seg (g2 := (20, [(0, .ref 64), (1, .int a1), (2, .int a2), (3, .ref 236)], [.int 2], (q_kX s (c + 1) (n + 6)))) 1 (fun _ _ => rfl) ?_
            exact q_RP_ret rfl rfl rfl
          | false =>
            refine q_RP_cF ?_
            cases h12 : decide (0 < s.2.1 24 9) with
            | true =>
              refine q_RP_cT ?_
              refine q_RP_callH (E := "java/lang/IllegalStateException") (tg := 23) (i := 4) (h2 := (q_kX s (c + 1) (n + 6))) rfl rfl ?_ rfl ?_
              · refine q_Ca_of (Nat.le_of_ble_eq_true rfl) ?_
                refine q_Ru_seg (g2 := (2, [(0, .ref 64), (1, .int a1), (2, .int a2)], [.int 5, .int a1], (q_kX s c n))) 2 (fun _ _ => rfl) ?_
                refine q_Ru_call (v := none) (h2 := (q_kX s c n)) rfl rfl ?_ ?_
                · refine q_Ca_of (Nat.le_of_ble_eq_true rfl) ?_
                  refine q_Ru_seg (g2 := (1, [(0, .int a1), (1, .int 5)], [.int a1], (q_kX s c n))) 1 (fun _ _ => rfl) ?_
                  refine q_Ru_rsF (g2 := (4, [(0, .int a1), (1, .int 5)], [], (q_kX s c n))) rfl rfl h7 ?_
                  refine q_Ru_seg (g2 := (6, [(0, .int a1), (1, .int 5)], [.int 5, .int a1], (q_kX s c n))) 2 (fun _ _ => rfl) ?_
                  refine q_Ru_rsT (g2 := (19, [(0, .int a1), (1, .int 5)], [], (q_kX s c n))) rfl rfl h8 ?_
                  exact q_Ru_ret rfl rfl
                show q_Ru _ _ _ (5, [(0, .ref 64), (1, .int a1), (2, .int a2)], [], (q_kX s c n)) _
                refine q_Ru_seg (g2 := (9, [(0, .ref 64), (1, .int a1), (2, .int a2)], [.int 4, .int a1, .int 0, .int a2], (q_kX s c n))) 4 (fun _ _ => rfl) ?_
                refine q_Ru_rsF (g2 := (12, [(0, .ref 64), (1, .int a1), (2, .int a2)], [.int 0, .int a2], (q_kX s c n))) rfl rfl (q_d_neT h9) ?_
                refine q_Ru_seg (g2 := (21, [(0, .ref 64), (1, .int a1), (2, .int a2)], [.int 4095, .int 0, .int a2], (q_kX s c n))) 2 (fun _ _ => rfl) ?_
                refine q_Ru_call (v := none) (h2 := (q_kX s c n)) rfl rfl ?_ ?_
                · refine q_Ca_of (Nat.le_of_ble_eq_true rfl) ?_
                  refine q_Ru_seg (g2 := (2, [(0, .int a2), (1, .int 0), (2, .int 4095)], [.int 0, .int a2], (q_kX s c n))) 2 (fun _ _ => rfl) ?_
                  refine q_Ru_rsF (g2 := (5, [(0, .int a2), (1, .int 0), (2, .int 4095)], [], (q_kX s c n))) rfl rfl h10 ?_
                  refine q_Ru_seg (g2 := (7, [(0, .int a2), (1, .int 0), (2, .int 4095)], [.int 4095, .int a2], (q_kX s c n))) 2 (fun _ _ => rfl) ?_
                  refine q_Ru_rsT (g2 := (20, [(0, .int a2), (1, .int 0), (2, .int 4095)], [], (q_kX s c n))) rfl rfl (q_d_geF h11) ?_
                  exact q_Ru_ret rfl rfl
                show q_Ru _ _ _ (24, [(0, .ref 64), (1, .int a1), (2, .int a2)], [], (q_kX s c n)) _
                refine q_Ru_seg (g2 := (34, [(0, .ref 64), (1, .int a1), (2, .int a2)], [.int (s.2.1 24 9)], (q_kX s c n))) 4 (fun _ _ => rfl) ?_
                refine q_Ru_rsF (g2 := (37, [(0, .ref 64), (1, .int a1), (2, .int a2)], [], (q_kX s c n))) rfl rfl (q_d_geT h12) ?_
                exact q_Ru_thr rfl rfl
              show q_RP _ _ _ (23, [(0, .ref 64), (1, .int a1), (2, .int a2), (3, .ref 236)], [], (q_kX s (c + 1) (n + 6))) _ _
              refine q_RP_seg (g2 := (24, [(0, .ref 64), (1, .int a1), (2, .int a2), (3, .ref 236)], [.int 3], (q_kX s (c + 1) (n + 6)))) 1 (fun _ _ => rfl) ?_
              exact q_RP_ret rfl rfl rfl
            | false =>
              refine q_RP_cF ?_
              generalize er2 : dz_X184_98 s 4 a1 a2 0 = r2
              refine q_RP_let ?_
              refine q_RP_bd fun r3 er3 => ?_
              refine q_RP_call (v := (some (.int r3.2))) (h2 := (q_kX (q_pt 32 3 1 73 r2 r3.1) c n)) rfl rfl ?_ ?_
              · refine q_Ca_of (Nat.le_of_ble_eq_true rfl) ?_
                refine q_Ru_seg (g2 := (2, [(0, .ref 64), (1, .int a1), (2, .int a2)], [.int 5, .int a1], (q_kX s c n))) 2 (fun _ _ => rfl) ?_
                refine q_Ru_call (v := none) (h2 := (q_kX s c n)) rfl rfl ?_ ?_
                · refine q_Ca_of (Nat.le_of_ble_eq_true rfl) ?_
                  refine q_Ru_seg (g2 := (1, [(0, .int a1), (1, .int 5)], [.int a1], (q_kX s c n))) 1 (fun _ _ => rfl) ?_
                  refine q_Ru_rsF (g2 := (4, [(0, .int a1), (1, .int 5)], [], (q_kX s c n))) rfl rfl h7 ?_
                  refine q_Ru_seg (g2 := (6, [(0, .int a1), (1, .int 5)], [.int 5, .int a1], (q_kX s c n))) 2 (fun _ _ => rfl) ?_
                  refine q_Ru_rsT (g2 := (19, [(0, .int a1), (1, .int 5)], [], (q_kX s c n))) rfl rfl h8 ?_
                  exact q_Ru_ret rfl rfl
                show q_Ru _ _ _ (5, [(0, .ref 64), (1, .int a1), (2, .int a2)], [], (q_kX s c n)) _
                refine q_Ru_seg (g2 := (9, [(0, .ref 64), (1, .int a1), (2, .int a2)], [.int 4, .int a1, .int 0, .int a2], (q_kX s c n))) 4 (fun _ _ => rfl) ?_
                refine q_Ru_rsF (g2 := (12, [(0, .ref 64), (1, .int a1), (2, .int a2)], [.int 0, .int a2], (q_kX s c n))) rfl rfl (q_d_neT h9) ?_
                refine q_Ru_seg (g2 := (21, [(0, .ref 64), (1, .int a1), (2, .int a2)], [.int 4095, .int 0, .int a2], (q_kX s c n))) 2 (fun _ _ => rfl) ?_
                refine q_Ru_call (v := none) (h2 := (q_kX s c n)) rfl rfl ?_ ?_
                · refine q_Ca_of (Nat.le_of_ble_eq_true rfl) ?_
                  refine q_Ru_seg (g2 := (2, [(0, .int a2), (1, .int 0), (2, .int 4095)], [.int 0, .int a2], (q_kX s c n))) 2 (fun _ _ => rfl) ?_
                  refine q_Ru_rsF (g2 := (5, [(0, .int a2), (1, .int 0), (2, .int 4095)], [], (q_kX s c n))) rfl rfl h10 ?_
                  refine q_Ru_seg (g2 := (7, [(0, .int a2), (1, .int 0), (2, .int 4095)], [.int 4095, .int a2], (q_kX s c n))) 2 (fun _ _ => rfl) ?_
                  refine q_Ru_rsT (g2 := (20, [(0, .int a2), (1, .int 0), (2, .int 4095)], [], (q_kX s c n))) rfl rfl (q_d_geF h11) ?_
                  exact q_Ru_ret rfl rfl
                show q_Ru _ _ _ (24, [(0, .ref 64), (1, .int a1), (2, .int a2)], [], (q_kX s c n)) _
                refine q_Ru_seg (g2 := (34, [(0, .ref 64), (1, .int a1), (2, .int a2)], [.int (s.2.1 24 9)], (q_kX s c n))) 4 (fun _ _ => rfl) ?_
                refine q_Ru_rsT (g2 := (47, [(0, .ref 64), (1, .int a1), (2, .int a2)], [], (q_kX s c n))) rfl rfl (q_d_geF h12) ?_
                refine q_Ru_seg (g2 := (55, [(0, .ref 64), (1, .int a1), (2, .int a2)], [.int 0, .int a2, .int a1, .int 4, .ref 98], (q_kX s c n))) 6 (fun _ _ => rfl) ?_
                refine q_Ru_call (v := none) (h2 := (q_kX r2 c n)) rfl rfl ?_ ?_
                · exact (q_cE (φ := (q_oSX c n)) er2 (dzt_X184_98 z L xs s c n 4 a1 a2 0)).le (Nat.le_of_ble_eq_true rfl)
                show q_Ru _ _ _ (58, [(0, .ref 64), (1, .int a1), (2, .int a2)], [], (q_kX r2 c n)) _
                refine q_Ru_seg (g2 := (66, [(0, .ref 64), (1, .int a1), (2, .int a2)], [.int 0, .int a2, .int a1, .int 4, .ref 65], (q_kX r2 c n))) 6 (fun _ _ => rfl) ?_
                refine q_Ru_call (v := (some (.int r3.2))) (h2 := (q_kX (q_pt 32 3 1 73 r2 r3.1) c n)) rfl rfl ?_ ?_
                · exact (q_emNX_1 rfl (fun _ => rfl) ((dzt_N79_64 (q_vw 32 1 73 r2) c n 4 a1 a2 0 r3 er3).tb q_TB0_le)).le (Nat.le_of_ble_eq_true rfl)
                show q_Ru _ _ _ (69, [(0, .ref 64), (1, .int a1), (2, .int a2)], [.int r3.2], (q_kX (q_pt 32 3 1 73 r2 r3.1) c n)) _
                exact q_Ru_ret rfl rfl
              show q_RP _ _ _ (8, [(0, .ref 64), (1, .int a1), (2, .int a2), (3, .ref 236)], [.int r3.2, .int 0, .ref 236], (q_kX (q_pt 32 3 1 73 r2 r3.1) c n)) _ _
              refine q_RP_seg (g2 := (9, [(0, .ref 64), (1, .int a1), (2, .int a2), (3, .ref 236)], [.long r3.2.toInt64, .int 0, .ref 236], (q_kX (q_pt 32 3 1 73 r2 r3.1) c n))) 1 (fun _ _ => rfl) ?_
              refine q_RP_rsT (g2 := (10, [(0, .ref 64), (1, .int a1), (2, .int a2), (3, .ref 236)], [], (q_kX (q_sL (q_pt 32 3 1 73 r2 r3.1) 172 (vp_updL ((q_pt 32 3 1 73 r2 r3.1).2.2 172) 0 r3.2.toInt64)) c n))) rfl q_wX172 rfl ?_
              refine q_RP_seg (g2 := (26, [(0, .ref 64), (1, .int a1), (2, .int a2), (3, .ref 236)], [.int 0], (q_kX (q_sL (q_pt 32 3 1 73 r2 r3.1) 172 (vp_updL ((q_pt 32 3 1 73 r2 r3.1).2.2 172) 0 r3.2.toInt64)) c n))) 2 (fun _ _ => rfl) ?_
              exact q_RP_ret rfl rfl rfl
      | false =>
        refine q_RP_cF ?_
        cases h13 : decide (a2 < 0) with
        | true =>
          refine q_RP_cT ?_
          refine q_RP_callH (E := "java/lang/IllegalArgumentException") (tg := 19) (i := 4) (h2 := (q_kX s (c + 1) (n + 6))) rfl rfl ?_ rfl ?_
          · refine q_Ca_of (Nat.le_of_ble_eq_true rfl) ?_
            refine q_Ru_seg (g2 := (2, [(0, .ref 64), (1, .int a1), (2, .int a2)], [.int 5, .int a1], (q_kX s c n))) 2 (fun _ _ => rfl) ?_
            refine q_Ru_call (v := none) (h2 := (q_kX s c n)) rfl rfl ?_ ?_
            · refine q_Ca_of (Nat.le_of_ble_eq_true rfl) ?_
              refine q_Ru_seg (g2 := (1, [(0, .int a1), (1, .int 5)], [.int a1], (q_kX s c n))) 1 (fun _ _ => rfl) ?_
              refine q_Ru_rsF (g2 := (4, [(0, .int a1), (1, .int 5)], [], (q_kX s c n))) rfl rfl h7 ?_
              refine q_Ru_seg (g2 := (6, [(0, .int a1), (1, .int 5)], [.int 5, .int a1], (q_kX s c n))) 2 (fun _ _ => rfl) ?_
              refine q_Ru_rsT (g2 := (19, [(0, .int a1), (1, .int 5)], [], (q_kX s c n))) rfl rfl h8 ?_
              exact q_Ru_ret rfl rfl
            show q_Ru _ _ _ (5, [(0, .ref 64), (1, .int a1), (2, .int a2)], [], (q_kX s c n)) _
            refine q_Ru_seg (g2 := (9, [(0, .ref 64), (1, .int a1), (2, .int a2)], [.int 4, .int a1, .int 0, .int a2], (q_kX s c n))) 4 (fun _ _ => rfl) ?_
            refine q_Ru_rsT (g2 := (18, [(0, .ref 64), (1, .int a1), (2, .int a2)], [.int 0, .int a2], (q_kX s c n))) rfl rfl (q_d_neF h9) ?_
            refine q_Ru_seg (g2 := (21, [(0, .ref 64), (1, .int a1), (2, .int a2)], [.int 255, .int 0, .int a2], (q_kX s c n))) 1 (fun _ _ => rfl) ?_
            refine q_Ru_callX (E := "java/lang/IllegalArgumentException") (h2 := (q_kX s (c + 1) (n + 6))) rfl rfl ?_
            refine q_Ca_of (Nat.le_of_ble_eq_true rfl) ?_
            refine q_Ru_seg (g2 := (2, [(0, .int a2), (1, .int 0), (2, .int 255)], [.int 0, .int a2], (q_kX s c n))) 2 (fun _ _ => rfl) ?_
            refine q_Ru_rsT (g2 := (10, [(0, .int a2), (1, .int 0), (2, .int 255)], [], (q_kX s c n))) rfl rfl h13 ?_
            exact q_Ru_thr rfl rfl
          show q_RP _ _ _ (19, [(0, .ref 64), (1, .int a1), (2, .int a2), (3, .ref 236)], [], (q_kX s (c + 1) (n + 6))) _ _
          refine q_RP_seg (g2 := (20, [(0, .ref 64), (1, .int a1), (2, .int a2), (3, .ref 236)], [.int 2], (q_kX s (c + 1) (n + 6)))) 1 (fun _ _ => rfl) ?_
          exact q_RP_ret rfl rfl rfl
        | false =>
          refine q_RP_cF ?_
          cases h14 : decide (255 < a2) with
          | true =>
            refine q_RP_cT ?_
            refine q_RP_callH (E := "java/lang/IllegalArgumentException") (tg := 19) (i := 4) (h2 := (q_kX s (c + 1) (n + 6))) rfl rfl ?_ rfl ?_
            · refine q_Ca_of (Nat.le_of_ble_eq_true rfl) ?_
              refine q_Ru_seg (g2 := (2, [(0, .ref 64), (1, .int a1), (2, .int a2)], [.int 5, .int a1], (q_kX s c n))) 2 (fun _ _ => rfl) ?_
              refine q_Ru_call (v := none) (h2 := (q_kX s c n)) rfl rfl ?_ ?_
              · refine q_Ca_of (Nat.le_of_ble_eq_true rfl) ?_
                refine q_Ru_seg (g2 := (1, [(0, .int a1), (1, .int 5)], [.int a1], (q_kX s c n))) 1 (fun _ _ => rfl) ?_
                refine q_Ru_rsF (g2 := (4, [(0, .int a1), (1, .int 5)], [], (q_kX s c n))) rfl rfl h7 ?_
                refine q_Ru_seg (g2 := (6, [(0, .int a1), (1, .int 5)], [.int 5, .int a1], (q_kX s c n))) 2 (fun _ _ => rfl) ?_
                refine q_Ru_rsT (g2 := (19, [(0, .int a1), (1, .int 5)], [], (q_kX s c n))) rfl rfl h8 ?_
                exact q_Ru_ret rfl rfl
              show q_Ru _ _ _ (5, [(0, .ref 64), (1, .int a1), (2, .int a2)], [], (q_kX s c n)) _
              refine q_Ru_seg (g2 := (9, [(0, .ref 64), (1, .int a1), (2, .int a2)], [.int 4, .int a1, .int 0, .int a2], (q_kX s c n))) 4 (fun _ _ => rfl) ?_
              refine q_Ru_rsT (g2 := (18, [(0, .ref 64), (1, .int a1), (2, .int a2)], [.int 0, .int a2], (q_kX s c n))) rfl rfl (q_d_neF h9) ?_
              refine q_Ru_seg (g2 := (21, [(0, .ref 64), (1, .int a1), (2, .int a2)], [.int 255, .int 0, .int a2], (q_kX s c n))) 1 (fun _ _ => rfl) ?_
              refine q_Ru_callX (E := "java/lang/IllegalArgumentException") (h2 := (q_kX s (c + 1) (n + 6))) rfl rfl ?_
              refine q_Ca_of (Nat.le_of_ble_eq_true rfl) ?_
              refine q_Ru_seg (g2 := (2, [(0, .int a2), (1, .int 0), (2, .int 255)], [.int 0, .int a2], (q_kX s c n))) 2 (fun _ _ => rfl) ?_
              refine q_Ru_rsF (g2 := (5, [(0, .int a2), (1, .int 0), (2, .int 255)], [], (q_kX s c n))) rfl rfl h13 ?_
              refine q_Ru_seg (g2 := (7, [(0, .int a2), (1, .int 0), (2, .int 255)], [.int 255, .int a2], (q_kX s c n))) 2 (fun _ _ => rfl) ?_
              refine q_Ru_rsF (g2 := (10, [(0, .int a2), (1, .int 0), (2, .int 255)], [], (q_kX s c n))) rfl rfl (q_d_geT h14) ?_
              exact q_Ru_thr rfl rfl
            show q_RP _ _ _ (19, [(0, .ref 64), (1, .int a1), (2, .int a2), (3, .ref 236)], [], (q_kX s (c + 1) (n + 6))) _ _
            refine q_RP_seg (g2 := (20, [(0, .ref 64), (1, .int a1), (2, .int a2), (3, .ref 236)], [.int 2], (q_kX s (c + 1) (n + 6)))) 1 (fun _ _ => rfl) ?_
            exact q_RP_ret rfl rfl rfl
          | false =>
            refine q_RP_cF ?_
            cases h15 : decide (0 < s.2.1 24 9) with
            | true =>
              refine q_RP_cT ?_
              refine q_RP_callH (E := "java/lang/IllegalStateException") (tg := 23) (i := 4) (h2 := (q_kX s (c + 1) (n + 6))) rfl rfl ?_ rfl ?_
              · refine q_Ca_of (Nat.le_of_ble_eq_true rfl) ?_
                refine q_Ru_seg (g2 := (2, [(0, .ref 64), (1, .int a1), (2, .int a2)], [.int 5, .int a1], (q_kX s c n))) 2 (fun _ _ => rfl) ?_
                refine q_Ru_call (v := none) (h2 := (q_kX s c n)) rfl rfl ?_ ?_
                · refine q_Ca_of (Nat.le_of_ble_eq_true rfl) ?_
                  refine q_Ru_seg (g2 := (1, [(0, .int a1), (1, .int 5)], [.int a1], (q_kX s c n))) 1 (fun _ _ => rfl) ?_
                  refine q_Ru_rsF (g2 := (4, [(0, .int a1), (1, .int 5)], [], (q_kX s c n))) rfl rfl h7 ?_
                  refine q_Ru_seg (g2 := (6, [(0, .int a1), (1, .int 5)], [.int 5, .int a1], (q_kX s c n))) 2 (fun _ _ => rfl) ?_
                  refine q_Ru_rsT (g2 := (19, [(0, .int a1), (1, .int 5)], [], (q_kX s c n))) rfl rfl h8 ?_
                  exact q_Ru_ret rfl rfl
                show q_Ru _ _ _ (5, [(0, .ref 64), (1, .int a1), (2, .int a2)], [], (q_kX s c n)) _
                refine q_Ru_seg (g2 := (9, [(0, .ref 64), (1, .int a1), (2, .int a2)], [.int 4, .int a1, .int 0, .int a2], (q_kX s c n))) 4 (fun _ _ => rfl) ?_
                refine q_Ru_rsT (g2 := (18, [(0, .ref 64), (1, .int a1), (2, .int a2)], [.int 0, .int a2], (q_kX s c n))) rfl rfl (q_d_neF h9) ?_
                refine q_Ru_seg (g2 := (21, [(0, .ref 64), (1, .int a1), (2, .int a2)], [.int 255, .int 0, .int a2], (q_kX s c n))) 1 (fun _ _ => rfl) ?_
                refine q_Ru_call (v := none) (h2 := (q_kX s c n)) rfl rfl ?_ ?_
                · refine q_Ca_of (Nat.le_of_ble_eq_true rfl) ?_
                  refine q_Ru_seg (g2 := (2, [(0, .int a2), (1, .int 0), (2, .int 255)], [.int 0, .int a2], (q_kX s c n))) 2 (fun _ _ => rfl) ?_
                  refine q_Ru_rsF (g2 := (5, [(0, .int a2), (1, .int 0), (2, .int 255)], [], (q_kX s c n))) rfl rfl h13 ?_
                  refine q_Ru_seg (g2 := (7, [(0, .int a2), (1, .int 0), (2, .int 255)], [.int 255, .int a2], (q_kX s c n))) 2 (fun _ _ => rfl) ?_
                  refine q_Ru_rsT (g2 := (20, [(0, .int a2), (1, .int 0), (2, .int 255)], [], (q_kX s c n))) rfl rfl (q_d_geF h14) ?_
                  exact q_Ru_ret rfl rfl
                show q_Ru _ _ _ (24, [(0, .ref 64), (1, .int a1), (2, .int a2)], [], (q_kX s c n)) _
                refine q_Ru_seg (g2 := (34, [(0, .ref 64), (1, .int a1), (2, .int a2)], [.int (s.2.1 24 9)], (q_kX s c n))) 4 (fun _ _ => rfl) ?_
                refine q_Ru_rsF (g2 := (37, [(0, .ref 64), (1, .int a1), (2, .int a2)], [], (q_kX s c n))) rfl rfl (q_d_geT h15) ?_
                exact q_Ru_thr rfl rfl
              show q_RP _ _ _ (23, [(0, .ref 64), (1, .int a1), (2, .int a2), (3, .ref 236)], [], (q_kX s (c + 1) (n + 6))) _ _
              refine q_RP_seg (g2 := (24, [(0, .ref 64), (1, .int a1), (2, .int a2), (3, .ref 236)], [.int 3], (q_kX s (c + 1) (n + 6)))) 1 (fun _ _ => rfl) ?_
              exact q_RP_ret rfl rfl rfl
            | false =>
              refine q_RP_cF ?_
              generalize er4 : dz_X184_98 s 4 a1 a2 0 = r4
              refine q_RP_let ?_
              refine q_RP_bd fun r5 er5 => ?_
              refine q_RP_call (v := (some (.int r5.2))) (h2 := (q_kX (q_pt 32 3 1 73 r4 r5.1) c n)) rfl rfl ?_ ?_
              · refine q_Ca_of (Nat.le_of_ble_eq_true rfl) ?_
                refine q_Ru_seg (g2 := (2, [(0, .ref 64), (1, .int a1), (2, .int a2)], [.int 5, .int a1], (q_kX s c n))) 2 (fun _ _ => rfl) ?_
                refine q_Ru_call (v := none) (h2 := (q_kX s c n)) rfl rfl ?_ ?_
                · refine q_Ca_of (Nat.le_of_ble_eq_true rfl) ?_
                  refine q_Ru_seg (g2 := (1, [(0, .int a1), (1, .int 5)], [.int a1], (q_kX s c n))) 1 (fun _ _ => rfl) ?_
                  refine q_Ru_rsF (g2 := (4, [(0, .int a1), (1, .int 5)], [], (q_kX s c n))) rfl rfl h7 ?_
                  refine q_Ru_seg (g2 := (6, [(0, .int a1), (1, .int 5)], [.int 5, .int a1], (q_kX s c n))) 2 (fun _ _ => rfl) ?_
                  refine q_Ru_rsT (g2 := (19, [(0, .int a1), (1, .int 5)], [], (q_kX s c n))) rfl rfl h8 ?_
                  exact q_Ru_ret rfl rfl
                show q_Ru _ _ _ (5, [(0, .ref 64), (1, .int a1), (2, .int a2)], [], (q_kX s c n)) _
                refine q_Ru_seg (g2 := (9, [(0, .ref 64), (1, .int a1), (2, .int a2)], [.int 4, .int a1, .int 0, .int a2], (q_kX s c n))) 4 (fun _ _ => rfl) ?_
                refine q_Ru_rsT (g2 := (18, [(0, .ref 64), (1, .int a1), (2, .int a2)], [.int 0, .int a2], (q_kX s c n))) rfl rfl (q_d_neF h9) ?_
                refine q_Ru_seg (g2 := (21, [(0, .ref 64), (1, .int a1), (2, .int a2)], [.int 255, .int 0, .int a2], (q_kX s c n))) 1 (fun _ _ => rfl) ?_
                refine q_Ru_call (v := none) (h2 := (q_kX s c n)) rfl rfl ?_ ?_
                · refine q_Ca_of (Nat.le_of_ble_eq_true rfl) ?_
                  refine q_Ru_seg (g2 := (2, [(0, .int a2), (1, .int 0), (2, .int 255)], [.int 0, .int a2], (q_kX s c n))) 2 (fun _ _ => rfl) ?_
                  refine q_Ru_rsF (g2 := (5, [(0, .int a2), (1, .int 0), (2, .int 255)], [], (q_kX s c n))) rfl rfl h13 ?_
                  refine q_Ru_seg (g2 := (7, [(0, .int a2), (1, .int 0), (2, .int 255)], [.int 255, .int a2], (q_kX s c n))) 2 (fun _ _ => rfl) ?_
                  refine q_Ru_rsT (g2 := (20, [(0, .int a2), (1, .int 0), (2, .int 255)], [], (q_kX s c n))) rfl rfl (q_d_geF h14) ?_
                  exact q_Ru_ret rfl rfl
                show q_Ru _ _ _ (24, [(0, .ref 64), (1, .int a1), (2, .int a2)], [], (q_kX s c n)) _
                refine q_Ru_seg (g2 := (34, [(0, .ref 64), (1, .int a1), (2, .int a2)], [.int (s.2.1 24 9)], (q_kX s c n))) 4 (fun _ _ => rfl) ?_
                refine q_Ru_rsT (g2 := (47, [(0, .ref 64), (1, .int a1), (2, .int a2)], [], (q_kX s c n))) rfl rfl (q_d_geF h15) ?_
                refine q_Ru_seg (g2 := (55, [(0, .ref 64), (1, .int a1), (2, .int a2)], [.int 0, .int a2, .int a1, .int 4, .ref 98], (q_kX s c n))) 6 (fun _ _ => rfl) ?_
                refine q_Ru_call (v := none) (h2 := (q_kX r4 c n)) rfl rfl ?_ ?_
                · exact (q_cE (φ := (q_oSX c n)) er4 (dzt_X184_98 z L xs s c n 4 a1 a2 0)).le (Nat.le_of_ble_eq_true rfl)
                show q_Ru _ _ _ (58, [(0, .ref 64), (1, .int a1), (2, .int a2)], [], (q_kX r4 c n)) _
                refine q_Ru_seg (g2 := (66, [(0, .ref 64), (1, .int a1), (2, .int a2)], [.int 0, .int a2, .int a1, .int 4, .ref 65], (q_kX r4 c n))) 6 (fun _ _ => rfl) ?_
                refine q_Ru_call (v := (some (.int r5.2))) (h2 := (q_kX (q_pt 32 3 1 73 r4 r5.1) c n)) rfl rfl ?_ ?_
                · exact (q_emNX_1 rfl (fun _ => rfl) ((dzt_N79_64 (q_vw 32 1 73 r4) c n 4 a1 a2 0 r5 er5).tb q_TB0_le)).le (Nat.le_of_ble_eq_true rfl)
                show q_Ru _ _ _ (69, [(0, .ref 64), (1, .int a1), (2, .int a2)], [.int r5.2], (q_kX (q_pt 32 3 1 73 r4 r5.1) c n)) _
                exact q_Ru_ret rfl rfl
              show q_RP _ _ _ (8, [(0, .ref 64), (1, .int a1), (2, .int a2), (3, .ref 236)], [.int r5.2, .int 0, .ref 236], (q_kX (q_pt 32 3 1 73 r4 r5.1) c n)) _ _
              refine q_RP_seg (g2 := (9, [(0, .ref 64), (1, .int a1), (2, .int a2), (3, .ref 236)], [.long r5.2.toInt64, .int 0, .ref 236], (q_kX (q_pt 32 3 1 73 r4 r5.1) c n))) 1 (fun _ _ => rfl) ?_
              refine q_RP_rsT (g2 := (10, [(0, .ref 64), (1, .int a1), (2, .int a2), (3, .ref 236)], [], (q_kX (q_sL (q_pt 32 3 1 73 r4 r5.1) 172 (vp_updL ((q_pt 32 3 1 73 r4 r5.1).2.2 172) 0 r5.2.toInt64)) c n))) rfl q_wX172 rfl ?_
              refine q_RP_seg (g2 := (26, [(0, .ref 64), (1, .int a1), (2, .int a2), (3, .ref 236)], [.int 0], (q_kX (q_sL (q_pt 32 3 1 73 r4 r5.1) 172 (vp_updL ((q_pt 32 3 1 73 r4 r5.1).2.2 172) 0 r5.2.toInt64)) c n))) 2 (fun _ _ => rfl) ?_
              exact q_RP_ret rfl rfl rfl
    | false =>
      refine q_RP_cF ?_
      refine q_RP_callH (E := "java/lang/IndexOutOfBoundsException") (tg := 15) (i := 4) (h2 := (q_kX s (c + 1) (n + 6))) rfl rfl ?_ rfl ?_
      · refine q_Ca_of (Nat.le_of_ble_eq_true rfl) ?_
        refine q_Ru_seg (g2 := (2, [(0, .ref 64), (1, .int a1), (2, .int a2)], [.int 5, .int a1], (q_kX s c n))) 2 (fun _ _ => rfl) ?_
        refine q_Ru_callX (E := "java/lang/IndexOutOfBoundsException") (h2 := (q_kX s (c + 1) (n + 6))) rfl rfl ?_
        refine q_Ca_of (Nat.le_of_ble_eq_true rfl) ?_
        refine q_Ru_seg (g2 := (1, [(0, .int a1), (1, .int 5)], [.int a1], (q_kX s c n))) 1 (fun _ _ => rfl) ?_
        refine q_Ru_rsF (g2 := (4, [(0, .int a1), (1, .int 5)], [], (q_kX s c n))) rfl rfl h7 ?_
        refine q_Ru_seg (g2 := (6, [(0, .int a1), (1, .int 5)], [.int 5, .int a1], (q_kX s c n))) 2 (fun _ _ => rfl) ?_
        refine q_Ru_rsF (g2 := (9, [(0, .int a1), (1, .int 5)], [], (q_kX s c n))) rfl rfl h8 ?_
        exact q_Ru_thr rfl rfl
      show q_RP _ _ _ (15, [(0, .ref 64), (1, .int a1), (2, .int a2), (3, .ref 236)], [], (q_kX s (c + 1) (n + 6))) _ _
      refine q_RP_seg (g2 := (16, [(0, .ref 64), (1, .int a1), (2, .int a2), (3, .ref 236)], [.int 1], (q_kX s (c + 1) (n + 6)))) 1 (fun _ _ => rfl) ?_
      exact q_RP_ret rfl rfl rfl
def dz_X11_64_236 (s : q_S) (a1 : Int32) : Option (q_S × Int32 × Nat) :=
  cond (decide (a1 < 1)) (some (s, 1, 1)) (cond (decide (1000 < a1)) (some (s, 1, 1)) (q_let (dz_X184_98 s 7 a1 0 0) fun r2 => (dz_N79_64 (q_vw 32 1 73 r2) 7 a1 0 0).bind fun r3 => some ((q_sL (q_pt 32 3 1 73 r2 r3.1) 172 (vp_updL ((q_pt 32 3 1 73 r2 r3.1).2.2 172) 0 r3.2.toInt64)), 0, 0)))
set_option maxHeartbeats 4000000 in
theorem dzt_X11_64_236 (z L : Nat) (xs : Nat → Int32) (s : q_S) (c n : Nat) (a1 : Int32) (x : q_S × Int32 × Nat) (h : dz_X11_64_236 s a1 = some x) : q_Ca (q_TBs z L xs) 10 11 [.ref 64, .int a1, .ref 236] (q_kX s c n) ((q_oEX c n) x) := by
  refine q_CaP_of (φ := (q_oEX c n)) (Nat.le_of_ble_eq_true rfl) ?_ h
  clear h
  unfold dz_X11_64_236
  refine q_RP_seg (g2 := (4, [(0, .ref 64), (1, .int a1), (2, .ref 236)], [.int a1, .ref 64, .int 0, .ref 236], (q_kX s c n))) 4 (fun _ _ => rfl) ?_
  cases h3 : decide (a1 < 1) with
  | true =>
    refine q_RP_cT ?_
    refine q_RP_callH (E := "java/lang/IllegalArgumentException") (tg := 13) (i := 3) (h2 := (q_kX s (c + 1) (n + 6))) rfl rfl ?_ rfl ?_
    · refine q_Ca_of (Nat.le_of_ble_eq_true rfl) ?_
      refine q_Ru_seg (g2 := (5, [(0, .ref 64), (1, .int a1)], [.int 1000, .int 1, .int a1], (q_kX s c n))) 3 (fun _ _ => rfl) ?_
      refine q_Ru_callX (E := "java/lang/IllegalArgumentException") (h2 := (q_kX s (c + 1) (n + 6))) rfl rfl ?_
      refine q_Ca_of (Nat.le_of_ble_eq_true rfl) ?_
      refine q_Ru_seg (g2 := (2, [(0, .int a1), (1, .int 1), (2, .int 1000)], [.int 1, .int a1], (q_kX s c n))) 2 (fun _ _ => rfl) ?_
      refine q_Ru_rsT (g2 := (10, [(0, .int a1), (1, .int 1), (2, .int 1000)], [], (q_kX s c n))) rfl rfl h3 ?_
      exact q_Ru_thr rfl rfl
    show q_RP _ _ _ (13, [(0, .ref 64), (1, .int a1), (2, .ref 236)], [], (q_kX s (c + 1) (n + 6))) _ _
    refine q_RP_seg (g2 := (14, [(0, .ref 64), (1, .int a1), (2, .ref 236)], [.int 1], (q_kX s (c + 1) (n + 6)))) 1 (fun _ _ => rfl) ?_
    exact q_RP_ret rfl rfl rfl
  | false =>
    refine q_RP_cF ?_
    cases h4 : decide (1000 < a1) with
    | true =>
      refine q_RP_cT ?_
      refine q_RP_callH (E := "java/lang/IllegalArgumentException") (tg := 13) (i := 3) (h2 := (q_kX s (c + 1) (n + 6))) rfl rfl ?_ rfl ?_
      · refine q_Ca_of (Nat.le_of_ble_eq_true rfl) ?_
        refine q_Ru_seg (g2 := (5, [(0, .ref 64), (1, .int a1)], [.int 1000, .int 1, .int a1], (q_kX s c n))) 3 (fun _ _ => rfl) ?_
        refine q_Ru_callX (E := "java/lang/IllegalArgumentException") (h2 := (q_kX s (c + 1) (n + 6))) rfl rfl ?_
        refine q_Ca_of (Nat.le_of_ble_eq_true rfl) ?_
        refine q_Ru_seg (g2 := (2, [(0, .int a1), (1, .int 1), (2, .int 1000)], [.int 1, .int a1], (q_kX s c n))) 2 (fun _ _ => rfl) ?_
        refine q_Ru_rsF (g2 := (5, [(0, .int a1), (1, .int 1), (2, .int 1000)], [], (q_kX s c n))) rfl rfl h3 ?_
        refine q_Ru_seg (g2 := (7, [(0, .int a1), (1, .int 1), (2, .int 1000)], [.int 1000, .int a1], (q_kX s c n))) 2 (fun _ _ => rfl) ?_
        refine q_Ru_rsF (g2 := (10, [(0, .int a1), (1, .int 1), (2, .int 1000)], [], (q_kX s c n))) rfl rfl (q_d_geT h4) ?_
        exact q_Ru_thr rfl rfl
      show q_RP _ _ _ (13, [(0, .ref 64), (1, .int a1), (2, .ref 236)], [], (q_kX s (c + 1) (n + 6))) _ _
      refine q_RP_seg (g2 := (14, [(0, .ref 64), (1, .int a1), (2, .ref 236)], [.int 1], (q_kX s (c + 1) (n + 6)))) 1 (fun _ _ => rfl) ?_
      exact q_RP_ret rfl rfl rfl
    | false =>
      refine q_RP_cF ?_
      generalize er2 : dz_X184_98 s 7 a1 0 0 = r2
      refine q_RP_let ?_
      refine q_RP_bd fun r3 er3 => ?_
      refine q_RP_call (v := (some (.int r3.2))) (h2 := (q_kX (q_pt 32 3 1 73 r2 r3.1) c n)) rfl rfl ?_ ?_
      · refine q_Ca_of (Nat.le_of_ble_eq_true rfl) ?_
        refine q_Ru_seg (g2 := (5, [(0, .ref 64), (1, .int a1)], [.int 1000, .int 1, .int a1], (q_kX s c n))) 3 (fun _ _ => rfl) ?_
        refine q_Ru_call (v := none) (h2 := (q_kX s c n)) rfl rfl ?_ ?_
        · refine q_Ca_of (Nat.le_of_ble_eq_true rfl) ?_
          refine q_Ru_seg (g2 := (2, [(0, .int a1), (1, .int 1), (2, .int 1000)], [.int 1, .int a1], (q_kX s c n))) 2 (fun _ _ => rfl) ?_
          refine q_Ru_rsF (g2 := (5, [(0, .int a1), (1, .int 1), (2, .int 1000)], [], (q_kX s c n))) rfl rfl h3 ?_
          refine q_Ru_seg (g2 := (7, [(0, .int a1), (1, .int 1), (2, .int 1000)], [.int 1000, .int a1], (q_kX s c n))) 2 (fun _ _ => rfl) ?_
          refine q_Ru_rsT (g2 := (20, [(0, .int a1), (1, .int 1), (2, .int 1000)], [], (q_kX s c n))) rfl rfl (q_d_geF h4) ?_
          exact q_Ru_ret rfl rfl
        show q_Ru _ _ _ (8, [(0, .ref 64), (1, .int a1)], [], (q_kX s c n)) _
        refine q_Ru_seg (g2 := (17, [(0, .ref 64), (1, .int a1)], [.int 0, .int 0, .int a1, .int 7, .ref 98], (q_kX s c n))) 6 (fun _ _ => rfl) ?_
        refine q_Ru_call (v := none) (h2 := (q_kX r2 c n)) rfl rfl ?_ ?_
        · exact (q_cE (φ := (q_oSX c n)) er2 (dzt_X184_98 z L xs s c n 7 a1 0 0)).le (Nat.le_of_ble_eq_true rfl)
        show q_Ru _ _ _ (20, [(0, .ref 64), (1, .int a1)], [], (q_kX r2 c n)) _
        refine q_Ru_seg (g2 := (29, [(0, .ref 64), (1, .int a1)], [.int 0, .int 0, .int a1, .int 7, .ref 65], (q_kX r2 c n))) 6 (fun _ _ => rfl) ?_
        refine q_Ru_call (v := (some (.int r3.2))) (h2 := (q_kX (q_pt 32 3 1 73 r2 r3.1) c n)) rfl rfl ?_ ?_
        · exact (q_emNX_1 rfl (fun _ => rfl) ((dzt_N79_64 (q_vw 32 1 73 r2) c n 7 a1 0 0 r3 er3).tb q_TB0_le)).le (Nat.le_of_ble_eq_true rfl)
        show q_Ru _ _ _ (32, [(0, .ref 64), (1, .int a1)], [.int r3.2], (q_kX (q_pt 32 3 1 73 r2 r3.1) c n)) _
        exact q_Ru_ret rfl rfl
      show q_RP _ _ _ (7, [(0, .ref 64), (1, .int a1), (2, .ref 236)], [.int r3.2, .int 0, .ref 236], (q_kX (q_pt 32 3 1 73 r2 r3.1) c n)) _ _
      refine q_RP_seg (g2 := (8, [(0, .ref 64), (1, .int a1), (2, .ref 236)], [.long r3.2.toInt64, .int 0, .ref 236], (q_kX (q_pt 32 3 1 73 r2 r3.1) c n))) 1 (fun _ _ => rfl) ?_
      refine q_RP_rsT (g2 := (9, [(0, .ref 64), (1, .int a1), (2, .ref 236)], [], (q_kX (q_sL (q_pt 32 3 1 73 r2 r3.1) 172 (vp_updL ((q_pt 32 3 1 73 r2 r3.1).2.2 172) 0 r3.2.toInt64)) c n))) rfl q_wX172 rfl ?_
      refine q_RP_seg (g2 := (16, [(0, .ref 64), (1, .int a1), (2, .ref 236)], [.int 0], (q_kX (q_sL (q_pt 32 3 1 73 r2 r3.1) 172 (vp_updL ((q_pt 32 3 1 73 r2 r3.1).2.2 172) 0 r3.2.toInt64)) c n))) 2 (fun _ _ => rfl) ?_
      exact q_RP_ret rfl rfl rfl
def dz_X12_64_236 (s : q_S) : Option (q_S × Int32 × Nat) :=
  cond (decide (s.2.1 24 7 = 0)) (q_let (dz_X184_98 s 8 0 0 0) fun r2 => (dz_N79_64 (q_vw 32 1 73 r2) 8 0 0 0).bind fun r3 => some ((q_sL (q_pt 32 3 1 73 r2 r3.1) 172 (vp_updL ((q_pt 32 3 1 73 r2 r3.1).2.2 172) 0 r3.2.toInt64)), 0, 0)) (some (s, 1, 1))
set_option maxHeartbeats 4000000 in
theorem dzt_X12_64_236 (z L : Nat) (xs : Nat → Int32) (s : q_S) (c n : Nat) (x : q_S × Int32 × Nat) (h : dz_X12_64_236 s = some x) : q_Ca (q_TBs z L xs) 10 12 [.ref 64, .ref 236] (q_kX s c n) ((q_oEX c n) x) := by
  refine q_CaP_of (φ := (q_oEX c n)) (Nat.le_of_ble_eq_true rfl) ?_ h
  clear h
  unfold dz_X12_64_236
  refine q_RP_seg (g2 := (3, [(0, .ref 64), (1, .ref 236)], [.ref 64, .int 0, .ref 236], (q_kX s c n))) 3 (fun _ _ => rfl) ?_
  cases h2 : decide (s.2.1 24 7 = 0) with
  | true =>
    refine q_RP_cT ?_
    generalize er2 : dz_X184_98 s 8 0 0 0 = r2
    refine q_RP_let ?_
    refine q_RP_bd fun r3 er3 => ?_
    refine q_RP_call (v := (some (.int r3.2))) (h2 := (q_kX (q_pt 32 3 1 73 r2 r3.1) c n)) rfl rfl ?_ ?_
    · refine q_Ca_of (Nat.le_of_ble_eq_true rfl) ?_
      refine q_Ru_seg (g2 := (10, [(0, .ref 64)], [.int (s.2.1 24 7)], (q_kX s c n))) 4 (fun _ _ => rfl) ?_
      refine q_Ru_rsT (g2 := (23, [(0, .ref 64)], [], (q_kX s c n))) rfl rfl h2 ?_
      refine q_Ru_seg (g2 := (32, [(0, .ref 64)], [.int 0, .int 0, .int 0, .int 8, .ref 98], (q_kX s c n))) 6 (fun _ _ => rfl) ?_
      refine q_Ru_call (v := none) (h2 := (q_kX r2 c n)) rfl rfl ?_ ?_
      · exact (q_cE (φ := (q_oSX c n)) er2 (dzt_X184_98 z L xs s c n 8 0 0 0)).le (Nat.le_of_ble_eq_true rfl)
      show q_Ru _ _ _ (35, [(0, .ref 64)], [], (q_kX r2 c n)) _
      refine q_Ru_seg (g2 := (44, [(0, .ref 64)], [.int 0, .int 0, .int 0, .int 8, .ref 65], (q_kX r2 c n))) 6 (fun _ _ => rfl) ?_
      refine q_Ru_call (v := (some (.int r3.2))) (h2 := (q_kX (q_pt 32 3 1 73 r2 r3.1) c n)) rfl rfl ?_ ?_
      · exact (q_emNX_1 rfl (fun _ => rfl) ((dzt_N79_64 (q_vw 32 1 73 r2) c n 8 0 0 0 r3 er3).tb q_TB0_le)).le (Nat.le_of_ble_eq_true rfl)
      show q_Ru _ _ _ (47, [(0, .ref 64)], [.int r3.2], (q_kX (q_pt 32 3 1 73 r2 r3.1) c n)) _
      exact q_Ru_ret rfl rfl
    show q_RP _ _ _ (6, [(0, .ref 64), (1, .ref 236)], [.int r3.2, .int 0, .ref 236], (q_kX (q_pt 32 3 1 73 r2 r3.1) c n)) _ _
    refine q_RP_seg (g2 := (7, [(0, .ref 64), (1, .ref 236)], [.long r3.2.toInt64, .int 0, .ref 236], (q_kX (q_pt 32 3 1 73 r2 r3.1) c n))) 1 (fun _ _ => rfl) ?_
    refine q_RP_rsT (g2 := (8, [(0, .ref 64), (1, .ref 236)], [], (q_kX (q_sL (q_pt 32 3 1 73 r2 r3.1) 172 (vp_updL ((q_pt 32 3 1 73 r2 r3.1).2.2 172) 0 r3.2.toInt64)) c n))) rfl q_wX172 rfl ?_
    refine q_RP_seg (g2 := (15, [(0, .ref 64), (1, .ref 236)], [.int 0], (q_kX (q_sL (q_pt 32 3 1 73 r2 r3.1) 172 (vp_updL ((q_pt 32 3 1 73 r2 r3.1).2.2 172) 0 r3.2.toInt64)) c n))) 2 (fun _ _ => rfl) ?_
    exact q_RP_ret rfl rfl rfl
  | false =>
    refine q_RP_cF ?_
    refine q_RP_callH (E := "java/lang/IllegalStateException") (tg := 12) (i := 2) (h2 := (q_kX s (c + 1) (n + 6))) rfl rfl ?_ rfl ?_
    · refine q_Ca_of (Nat.le_of_ble_eq_true rfl) ?_
      refine q_Ru_seg (g2 := (10, [(0, .ref 64)], [.int (s.2.1 24 7)], (q_kX s c n))) 4 (fun _ _ => rfl) ?_
      refine q_Ru_rsF (g2 := (13, [(0, .ref 64)], [], (q_kX s c n))) rfl rfl h2 ?_
      exact q_Ru_thr rfl rfl
    show q_RP _ _ _ (12, [(0, .ref 64), (1, .ref 236)], [], (q_kX s (c + 1) (n + 6))) _ _
    refine q_RP_seg (g2 := (13, [(0, .ref 64), (1, .ref 236)], [.int 1], (q_kX s (c + 1) (n + 6)))) 1 (fun _ _ => rfl) ?_
    exact q_RP_ret rfl rfl rfl
def dz_X13_64_236 (s : q_S) (a1 : Int32) : q_S × Int32 × Nat :=
  cond (decide (s.2.1 24 11 < 16)) (cond (decide (a1 < 0)) ((s, 1, 1)) (cond (decide (a1 < s.2.1 24 11)) (((q_sL s 172 (vp_updL (s.2.2 172) 0 (((s.1 25) (((((s.2.1 24 11) - 1) - a1) &&& 15).toNatClampNeg)).toInt64))), 0, 0)) ((s, 1, 1)))) (cond (decide (a1 < 0)) ((s, 1, 1)) (cond (decide (a1 < 16)) (((q_sL s 172 (vp_updL (s.2.2 172) 0 (((s.1 25) (((((s.2.1 24 11) - 1) - a1) &&& 15).toNatClampNeg)).toInt64))), 0, 0)) ((s, 1, 1))))
set_option maxHeartbeats 4000000 in
theorem dzt_X13_64_236 (z L : Nat) (xs : Nat → Int32) (s : q_S) (c n : Nat) (a1 : Int32) : q_Ca (q_TBs z L xs) 3 13 [.ref 64, .int a1, .ref 236] (q_kX s c n) ((q_oEX c n) (dz_X13_64_236 s a1)) := by
  refine q_CaT_of (φ := (q_oEX c n)) (Nat.le_of_ble_eq_true rfl) ?_
  unfold dz_X13_64_236
  refine q_RT_seg (g2 := (4, [(0, .ref 64), (1, .int a1), (2, .ref 236)], [.int a1, .ref 64, .int 0, .ref 236], (q_kX s c n))) 4 (fun _ _ => rfl) ?_
  cases h1 : decide (s.2.1 24 11 < 16) with
  | true =>
    refine q_RT_cT ?_
    cases h2 : decide (a1 < 0) with
    | true =>
      refine q_RT_cT ?_
      refine q_RT_callH (E := "java/lang/IndexOutOfBoundsException") (tg := 13) (i := 3) (h2 := (q_kX s (c + 1) (n + 6))) rfl rfl ?_ rfl ?_
      · refine q_Ca_of (Nat.le_of_ble_eq_true rfl) ?_
        refine q_Ru_seg (g2 := (15, [(2, .ref 88), (0, .ref 64), (1, .int a1)], [.int 16, .int (s.2.1 24 11), .int a1], (q_kX s c n))) 8 (fun _ _ => rfl) ?_
        refine q_Ru_rsF (g2 := (18, [(2, .ref 88), (0, .ref 64), (1, .int a1)], [.int a1], (q_kX s c n))) rfl rfl (q_d_geT h1) ?_
        refine q_Ru_seg (g2 := (27, [(2, .ref 88), (0, .ref 64), (1, .int a1)], [.int (s.2.1 24 11), .int a1], (q_kX s c n))) 3 (fun _ _ => rfl) ?_
        refine q_Ru_callX (E := "java/lang/IndexOutOfBoundsException") (h2 := (q_kX s (c + 1) (n + 6))) rfl rfl ?_
        refine q_Ca_of (Nat.le_of_ble_eq_true rfl) ?_
        refine q_Ru_seg (g2 := (1, [(0, .int a1), (1, .int (s.2.1 24 11))], [.int a1], (q_kX s c n))) 1 (fun _ _ => rfl) ?_
        refine q_Ru_rsT (g2 := (9, [(0, .int a1), (1, .int (s.2.1 24 11))], [], (q_kX s c n))) rfl rfl h2 ?_
        exact q_Ru_thr rfl rfl
      show q_RT _ _ _ (13, [(0, .ref 64), (1, .int a1), (2, .ref 236)], [], (q_kX s (c + 1) (n + 6))) _ _
      refine q_RT_seg (g2 := (14, [(0, .ref 64), (1, .int a1), (2, .ref 236)], [.int 1], (q_kX s (c + 1) (n + 6)))) 1 (fun _ _ => rfl) ?_
      exact q_RT_ret rfl rfl rfl
    | false =>
      refine q_RT_cF ?_
      cases h3 : decide (a1 < s.2.1 24 11) with
      | true =>
        refine q_RT_cT ?_
        refine q_RT_call (v := (some (.int ((s.1 25) (((((s.2.1 24 11) - 1) - a1) &&& 15).toNatClampNeg))))) (h2 := (q_kX s c n)) rfl rfl ?_ ?_
        · refine q_Ca_of (Nat.le_of_ble_eq_true rfl) ?_
          refine q_Ru_seg (g2 := (15, [(2, .ref 88), (0, .ref 64), (1, .int a1)], [.int 16, .int (s.2.1 24 11), .int a1], (q_kX s c n))) 8 (fun _ _ => rfl) ?_
          refine q_Ru_rsF (g2 := (18, [(2, .ref 88), (0, .ref 64), (1, .int a1)], [.int a1], (q_kX s c n))) rfl rfl (q_d_geT h1) ?_
          refine q_Ru_seg (g2 := (27, [(2, .ref 88), (0, .ref 64), (1, .int a1)], [.int (s.2.1 24 11), .int a1], (q_kX s c n))) 3 (fun _ _ => rfl) ?_
          refine q_Ru_call (v := none) (h2 := (q_kX s c n)) rfl rfl ?_ ?_
          · refine q_Ca_of (Nat.le_of_ble_eq_true rfl) ?_
            refine q_Ru_seg (g2 := (1, [(0, .int a1), (1, .int (s.2.1 24 11))], [.int a1], (q_kX s c n))) 1 (fun _ _ => rfl) ?_
            refine q_Ru_rsF (g2 := (4, [(0, .int a1), (1, .int (s.2.1 24 11))], [], (q_kX s c n))) rfl rfl h2 ?_
            refine q_Ru_seg (g2 := (6, [(0, .int a1), (1, .int (s.2.1 24 11))], [.int (s.2.1 24 11), .int a1], (q_kX s c n))) 2 (fun _ _ => rfl) ?_
            refine q_Ru_rsT (g2 := (19, [(0, .int a1), (1, .int (s.2.1 24 11))], [], (q_kX s c n))) rfl rfl h3 ?_
            exact q_Ru_ret rfl rfl
          show q_Ru _ _ _ (30, [(2, .ref 88), (0, .ref 64), (1, .int a1)], [], (q_kX s c n)) _
          refine q_Ru_seg (g2 := (45, [(2, .ref 88), (0, .ref 64), (1, .int a1)], [.int ((((s.2.1 24 11) - 1) - a1) &&& 15), .ref 89], (q_kX s c n))) 10 (fun _ _ => rfl) ?_
          refine q_Ru_rsT (g2 := (46, [(2, .ref 88), (0, .ref 64), (1, .int a1)], [.int ((s.1 25) (((((s.2.1 24 11) - 1) - a1) &&& 15).toNatClampNeg))], (q_kX s c n))) rfl rfl (q_in_bd (x := (((s.2.1 24 11) - 1) - a1) &&& 15) (n := 16) (U := 15) (L := 0) (q_and_lo (((s.2.1 24 11) - 1) - a1) 15) (q_and_hi (((s.2.1 24 11) - 1) - a1) 15 15)) ?_
          exact q_Ru_ret rfl rfl
        show q_RT _ _ _ (7, [(0, .ref 64), (1, .int a1), (2, .ref 236)], [.int ((s.1 25) (((((s.2.1 24 11) - 1) - a1) &&& 15).toNatClampNeg)), .int 0, .ref 236], (q_kX s c n)) _ _
        refine q_RT_seg (g2 := (8, [(0, .ref 64), (1, .int a1), (2, .ref 236)], [.long (((s.1 25) (((((s.2.1 24 11) - 1) - a1) &&& 15).toNatClampNeg)).toInt64), .int 0, .ref 236], (q_kX s c n))) 1 (fun _ _ => rfl) ?_
        refine q_RT_rsT (g2 := (9, [(0, .ref 64), (1, .int a1), (2, .ref 236)], [], (q_kX (q_sL s 172 (vp_updL (s.2.2 172) 0 (((s.1 25) (((((s.2.1 24 11) - 1) - a1) &&& 15).toNatClampNeg)).toInt64))) c n))) rfl q_wX172 rfl ?_
        refine q_RT_seg (g2 := (16, [(0, .ref 64), (1, .int a1), (2, .ref 236)], [.int 0], (q_kX (q_sL s 172 (vp_updL (s.2.2 172) 0 (((s.1 25) (((((s.2.1 24 11) - 1) - a1) &&& 15).toNatClampNeg)).toInt64))) c n))) 2 (fun _ _ => rfl) ?_
        exact q_RT_ret rfl rfl rfl
      | false =>
        refine q_RT_cF ?_
        refine q_RT_callH (E := "java/lang/IndexOutOfBoundsException") (tg := 13) (i := 3) (h2 := (q_kX s (c + 1) (n + 6))) rfl rfl ?_ rfl ?_
        · refine q_Ca_of (Nat.le_of_ble_eq_true rfl) ?_
          refine q_Ru_seg (g2 := (15, [(2, .ref 88), (0, .ref 64), (1, .int a1)], [.int 16, .int (s.2.1 24 11), .int a1], (q_kX s c n))) 8 (fun _ _ => rfl) ?_
          refine q_Ru_rsF (g2 := (18, [(2, .ref 88), (0, .ref 64), (1, .int a1)], [.int a1], (q_kX s c n))) rfl rfl (q_d_geT h1) ?_
          refine q_Ru_seg (g2 := (27, [(2, .ref 88), (0, .ref 64), (1, .int a1)], [.int (s.2.1 24 11), .int a1], (q_kX s c n))) 3 (fun _ _ => rfl) ?_
          refine q_Ru_callX (E := "java/lang/IndexOutOfBoundsException") (h2 := (q_kX s (c + 1) (n + 6))) rfl rfl ?_
          refine q_Ca_of (Nat.le_of_ble_eq_true rfl) ?_
          refine q_Ru_seg (g2 := (1, [(0, .int a1), (1, .int (s.2.1 24 11))], [.int a1], (q_kX s c n))) 1 (fun _ _ => rfl) ?_
          refine q_Ru_rsF (g2 := (4, [(0, .int a1), (1, .int (s.2.1 24 11))], [], (q_kX s c n))) rfl rfl h2 ?_
          refine q_Ru_seg (g2 := (6, [(0, .int a1), (1, .int (s.2.1 24 11))], [.int (s.2.1 24 11), .int a1], (q_kX s c n))) 2 (fun _ _ => rfl) ?_
          refine q_Ru_rsF (g2 := (9, [(0, .int a1), (1, .int (s.2.1 24 11))], [], (q_kX s c n))) rfl rfl h3 ?_
          exact q_Ru_thr rfl rfl
        show q_RT _ _ _ (13, [(0, .ref 64), (1, .int a1), (2, .ref 236)], [], (q_kX s (c + 1) (n + 6))) _ _
        refine q_RT_seg (g2 := (14, [(0, .ref 64), (1, .int a1), (2, .ref 236)], [.int 1], (q_kX s (c + 1) (n + 6)))) 1 (fun _ _ => rfl) ?_
        exact q_RT_ret rfl rfl rfl
  | false =>
    refine q_RT_cF ?_
    cases h4 : decide (a1 < 0) with
    | true =>
      refine q_RT_cT ?_
      refine q_RT_callH (E := "java/lang/IndexOutOfBoundsException") (tg := 13) (i := 3) (h2 := (q_kX s (c + 1) (n + 6))) rfl rfl ?_ rfl ?_
      · refine q_Ca_of (Nat.le_of_ble_eq_true rfl) ?_
        refine q_Ru_seg (g2 := (15, [(2, .ref 88), (0, .ref 64), (1, .int a1)], [.int 16, .int (s.2.1 24 11), .int a1], (q_kX s c n))) 8 (fun _ _ => rfl) ?_
        refine q_Ru_rsT (g2 := (25, [(2, .ref 88), (0, .ref 64), (1, .int a1)], [.int a1], (q_kX s c n))) rfl rfl (q_d_geF h1) ?_
        refine q_Ru_seg (g2 := (27, [(2, .ref 88), (0, .ref 64), (1, .int a1)], [.int 16, .int a1], (q_kX s c n))) 1 (fun _ _ => rfl) ?_
        refine q_Ru_callX (E := "java/lang/IndexOutOfBoundsException") (h2 := (q_kX s (c + 1) (n + 6))) rfl rfl ?_
        refine q_Ca_of (Nat.le_of_ble_eq_true rfl) ?_
        refine q_Ru_seg (g2 := (1, [(0, .int a1), (1, .int 16)], [.int a1], (q_kX s c n))) 1 (fun _ _ => rfl) ?_
        refine q_Ru_rsT (g2 := (9, [(0, .int a1), (1, .int 16)], [], (q_kX s c n))) rfl rfl h4 ?_
        exact q_Ru_thr rfl rfl
      show q_RT _ _ _ (13, [(0, .ref 64), (1, .int a1), (2, .ref 236)], [], (q_kX s (c + 1) (n + 6))) _ _
      refine q_RT_seg (g2 := (14, [(0, .ref 64), (1, .int a1), (2, .ref 236)], [.int 1], (q_kX s (c + 1) (n + 6)))) 1 (fun _ _ => rfl) ?_
      exact q_RT_ret rfl rfl rfl
    | false =>
      refine q_RT_cF ?_
      cases h5 : decide (a1 < 16) with
      | true =>
        refine q_RT_cT ?_
        refine q_RT_call (v := (some (.int ((s.1 25) (((((s.2.1 24 11) - 1) - a1) &&& 15).toNatClampNeg))))) (h2 := (q_kX s c n)) rfl rfl ?_ ?_
        · refine q_Ca_of (Nat.le_of_ble_eq_true rfl) ?_
          refine q_Ru_seg (g2 := (15, [(2, .ref 88), (0, .ref 64), (1, .int a1)], [.int 16, .int (s.2.1 24 11), .int a1], (q_kX s c n))) 8 (fun _ _ => rfl) ?_
          refine q_Ru_rsT (g2 := (25, [(2, .ref 88), (0, .ref 64), (1, .int a1)], [.int a1], (q_kX s c n))) rfl rfl (q_d_geF h1) ?_
          refine q_Ru_seg (g2 := (27, [(2, .ref 88), (0, .ref 64), (1, .int a1)], [.int 16, .int a1], (q_kX s c n))) 1 (fun _ _ => rfl) ?_
          refine q_Ru_call (v := none) (h2 := (q_kX s c n)) rfl rfl ?_ ?_
          · refine q_Ca_of (Nat.le_of_ble_eq_true rfl) ?_
            refine q_Ru_seg (g2 := (1, [(0, .int a1), (1, .int 16)], [.int a1], (q_kX s c n))) 1 (fun _ _ => rfl) ?_
            refine q_Ru_rsF (g2 := (4, [(0, .int a1), (1, .int 16)], [], (q_kX s c n))) rfl rfl h4 ?_
            refine q_Ru_seg (g2 := (6, [(0, .int a1), (1, .int 16)], [.int 16, .int a1], (q_kX s c n))) 2 (fun _ _ => rfl) ?_
            refine q_Ru_rsT (g2 := (19, [(0, .int a1), (1, .int 16)], [], (q_kX s c n))) rfl rfl h5 ?_
            exact q_Ru_ret rfl rfl
          show q_Ru _ _ _ (30, [(2, .ref 88), (0, .ref 64), (1, .int a1)], [], (q_kX s c n)) _
          refine q_Ru_seg (g2 := (45, [(2, .ref 88), (0, .ref 64), (1, .int a1)], [.int ((((s.2.1 24 11) - 1) - a1) &&& 15), .ref 89], (q_kX s c n))) 10 (fun _ _ => rfl) ?_
          refine q_Ru_rsT (g2 := (46, [(2, .ref 88), (0, .ref 64), (1, .int a1)], [.int ((s.1 25) (((((s.2.1 24 11) - 1) - a1) &&& 15).toNatClampNeg))], (q_kX s c n))) rfl rfl (q_in_bd (x := (((s.2.1 24 11) - 1) - a1) &&& 15) (n := 16) (U := 15) (L := 0) (q_and_lo (((s.2.1 24 11) - 1) - a1) 15) (q_and_hi (((s.2.1 24 11) - 1) - a1) 15 15)) ?_
          exact q_Ru_ret rfl rfl
        show q_RT _ _ _ (7, [(0, .ref 64), (1, .int a1), (2, .ref 236)], [.int ((s.1 25) (((((s.2.1 24 11) - 1) - a1) &&& 15).toNatClampNeg)), .int 0, .ref 236], (q_kX s c n)) _ _
        refine q_RT_seg (g2 := (8, [(0, .ref 64), (1, .int a1), (2, .ref 236)], [.long (((s.1 25) (((((s.2.1 24 11) - 1) - a1) &&& 15).toNatClampNeg)).toInt64), .int 0, .ref 236], (q_kX s c n))) 1 (fun _ _ => rfl) ?_
        refine q_RT_rsT (g2 := (9, [(0, .ref 64), (1, .int a1), (2, .ref 236)], [], (q_kX (q_sL s 172 (vp_updL (s.2.2 172) 0 (((s.1 25) (((((s.2.1 24 11) - 1) - a1) &&& 15).toNatClampNeg)).toInt64))) c n))) rfl q_wX172 rfl ?_
        refine q_RT_seg (g2 := (16, [(0, .ref 64), (1, .int a1), (2, .ref 236)], [.int 0], (q_kX (q_sL s 172 (vp_updL (s.2.2 172) 0 (((s.1 25) (((((s.2.1 24 11) - 1) - a1) &&& 15).toNatClampNeg)).toInt64))) c n))) 2 (fun _ _ => rfl) ?_
        exact q_RT_ret rfl rfl rfl
      | false =>
        refine q_RT_cF ?_
        refine q_RT_callH (E := "java/lang/IndexOutOfBoundsException") (tg := 13) (i := 3) (h2 := (q_kX s (c + 1) (n + 6))) rfl rfl ?_ rfl ?_
        · refine q_Ca_of (Nat.le_of_ble_eq_true rfl) ?_
          refine q_Ru_seg (g2 := (15, [(2, .ref 88), (0, .ref 64), (1, .int a1)], [.int 16, .int (s.2.1 24 11), .int a1], (q_kX s c n))) 8 (fun _ _ => rfl) ?_
          refine q_Ru_rsT (g2 := (25, [(2, .ref 88), (0, .ref 64), (1, .int a1)], [.int a1], (q_kX s c n))) rfl rfl (q_d_geF h1) ?_
          refine q_Ru_seg (g2 := (27, [(2, .ref 88), (0, .ref 64), (1, .int a1)], [.int 16, .int a1], (q_kX s c n))) 1 (fun _ _ => rfl) ?_
          refine q_Ru_callX (E := "java/lang/IndexOutOfBoundsException") (h2 := (q_kX s (c + 1) (n + 6))) rfl rfl ?_
          refine q_Ca_of (Nat.le_of_ble_eq_true rfl) ?_
          refine q_Ru_seg (g2 := (1, [(0, .int a1), (1, .int 16)], [.int a1], (q_kX s c n))) 1 (fun _ _ => rfl) ?_
          refine q_Ru_rsF (g2 := (4, [(0, .int a1), (1, .int 16)], [], (q_kX s c n))) rfl rfl h4 ?_
          refine q_Ru_seg (g2 := (6, [(0, .int a1), (1, .int 16)], [.int 16, .int a1], (q_kX s c n))) 2 (fun _ _ => rfl) ?_
          refine q_Ru_rsF (g2 := (9, [(0, .int a1), (1, .int 16)], [], (q_kX s c n))) rfl rfl h5 ?_
          exact q_Ru_thr rfl rfl
        show q_RT _ _ _ (13, [(0, .ref 64), (1, .int a1), (2, .ref 236)], [], (q_kX s (c + 1) (n + 6))) _ _
        refine q_RT_seg (g2 := (14, [(0, .ref 64), (1, .int a1), (2, .ref 236)], [.int 1], (q_kX s (c + 1) (n + 6)))) 1 (fun _ _ => rfl) ?_
        exact q_RT_ret rfl rfl rfl
def dz_X14_64_236 (s : q_S) (a1 : Int32) (a2 : Int32) : q_S × Int32 × Nat :=
  cond (decide (a1 < 0)) ((s, 1, 1)) (cond (decide (a1 < 32)) (cond (decide (a2 < 0)) ((s, 1, 1)) (cond (decide (a2 < 32)) (((q_sL s 172 (vp_updL (s.2.2 172) 0 (((s.1 32) ((((32 * a2) + a1) &&& 1023).toNatClampNeg)).toInt64))), 0, 0)) ((s, 1, 1)))) ((s, 1, 1)))
set_option maxHeartbeats 4000000 in
theorem dzt_X14_64_236 (z L : Nat) (xs : Nat → Int32) (s : q_S) (c n : Nat) (a1 : Int32) (a2 : Int32) : q_Ca (q_TBs z L xs) 3 14 [.ref 64, .int a1, .int a2, .ref 236] (q_kX s c n) ((q_oEX c n) (dz_X14_64_236 s a1 a2)) := by
  refine q_CaT_of (φ := (q_oEX c n)) (Nat.le_of_ble_eq_true rfl) ?_
  unfold dz_X14_64_236
  refine q_RT_seg (g2 := (5, [(0, .ref 64), (1, .int a1), (2, .int a2), (3, .ref 236)], [.int a2, .int a1, .ref 64, .int 0, .ref 236], (q_kX s c n))) 5 (fun _ _ => rfl) ?_
  cases h1 : decide (a1 < 0) with
  | true =>
    refine q_RT_cT ?_
    refine q_RT_callH (E := "java/lang/IndexOutOfBoundsException") (tg := 15) (i := 4) (h2 := (q_kX s (c + 1) (n + 6))) rfl rfl ?_ rfl ?_
    · refine q_Ca_of (Nat.le_of_ble_eq_true rfl) ?_
      refine q_Ru_seg (g2 := (3, [(0, .ref 64), (1, .int a1), (2, .int a2)], [.int 32, .int a1], (q_kX s c n))) 2 (fun _ _ => rfl) ?_
      refine q_Ru_callX (E := "java/lang/IndexOutOfBoundsException") (h2 := (q_kX s (c + 1) (n + 6))) rfl rfl ?_
      refine q_Ca_of (Nat.le_of_ble_eq_true rfl) ?_
      refine q_Ru_seg (g2 := (1, [(0, .int a1), (1, .int 32)], [.int a1], (q_kX s c n))) 1 (fun _ _ => rfl) ?_
      refine q_Ru_rsT (g2 := (9, [(0, .int a1), (1, .int 32)], [], (q_kX s c n))) rfl rfl h1 ?_
      exact q_Ru_thr rfl rfl
    show q_RT _ _ _ (15, [(0, .ref 64), (1, .int a1), (2, .int a2), (3, .ref 236)], [], (q_kX s (c + 1) (n + 6))) _ _
    refine q_RT_seg (g2 := (16, [(0, .ref 64), (1, .int a1), (2, .int a2), (3, .ref 236)], [.int 1], (q_kX s (c + 1) (n + 6)))) 1 (fun _ _ => rfl) ?_
    exact q_RT_ret rfl rfl rfl
  | false =>
    refine q_RT_cF ?_
    cases h2 : decide (a1 < 32) with
    | true =>
      refine q_RT_cT ?_
      cases h3 : decide (a2 < 0) with
      | true =>
        refine q_RT_cT ?_
        refine q_RT_callH (E := "java/lang/IndexOutOfBoundsException") (tg := 15) (i := 4) (h2 := (q_kX s (c + 1) (n + 6))) rfl rfl ?_ rfl ?_
        · refine q_Ca_of (Nat.le_of_ble_eq_true rfl) ?_
          refine q_Ru_seg (g2 := (3, [(0, .ref 64), (1, .int a1), (2, .int a2)], [.int 32, .int a1], (q_kX s c n))) 2 (fun _ _ => rfl) ?_
          refine q_Ru_call (v := none) (h2 := (q_kX s c n)) rfl rfl ?_ ?_
          · refine q_Ca_of (Nat.le_of_ble_eq_true rfl) ?_
            refine q_Ru_seg (g2 := (1, [(0, .int a1), (1, .int 32)], [.int a1], (q_kX s c n))) 1 (fun _ _ => rfl) ?_
            refine q_Ru_rsF (g2 := (4, [(0, .int a1), (1, .int 32)], [], (q_kX s c n))) rfl rfl h1 ?_
            refine q_Ru_seg (g2 := (6, [(0, .int a1), (1, .int 32)], [.int 32, .int a1], (q_kX s c n))) 2 (fun _ _ => rfl) ?_
            refine q_Ru_rsT (g2 := (19, [(0, .int a1), (1, .int 32)], [], (q_kX s c n))) rfl rfl h2 ?_
            exact q_Ru_ret rfl rfl
          show q_Ru _ _ _ (6, [(0, .ref 64), (1, .int a1), (2, .int a2)], [], (q_kX s c n)) _
          refine q_Ru_seg (g2 := (9, [(0, .ref 64), (1, .int a1), (2, .int a2)], [.int 32, .int a2], (q_kX s c n))) 2 (fun _ _ => rfl) ?_
          refine q_Ru_callX (E := "java/lang/IndexOutOfBoundsException") (h2 := (q_kX s (c + 1) (n + 6))) rfl rfl ?_
          refine q_Ca_of (Nat.le_of_ble_eq_true rfl) ?_
          refine q_Ru_seg (g2 := (1, [(0, .int a2), (1, .int 32)], [.int a2], (q_kX s c n))) 1 (fun _ _ => rfl) ?_
          refine q_Ru_rsT (g2 := (9, [(0, .int a2), (1, .int 32)], [], (q_kX s c n))) rfl rfl h3 ?_
          exact q_Ru_thr rfl rfl
        show q_RT _ _ _ (15, [(0, .ref 64), (1, .int a1), (2, .int a2), (3, .ref 236)], [], (q_kX s (c + 1) (n + 6))) _ _
        refine q_RT_seg (g2 := (16, [(0, .ref 64), (1, .int a1), (2, .int a2), (3, .ref 236)], [.int 1], (q_kX s (c + 1) (n + 6)))) 1 (fun _ _ => rfl) ?_
        exact q_RT_ret rfl rfl rfl
      | false =>
        refine q_RT_cF ?_
        cases h4 : decide (a2 < 32) with
        | true =>
          refine q_RT_cT ?_
          refine q_RT_call (v := (some (.int ((s.1 32) ((((32 * a2) + a1) &&& 1023).toNatClampNeg))))) (h2 := (q_kX s c n)) rfl rfl ?_ ?_
          · refine q_Ca_of (Nat.le_of_ble_eq_true rfl) ?_
            refine q_Ru_seg (g2 := (3, [(0, .ref 64), (1, .int a1), (2, .int a2)], [.int 32, .int a1], (q_kX s c n))) 2 (fun _ _ => rfl) ?_
            refine q_Ru_call (v := none) (h2 := (q_kX s c n)) rfl rfl ?_ ?_
            · refine q_Ca_of (Nat.le_of_ble_eq_true rfl) ?_
              refine q_Ru_seg (g2 := (1, [(0, .int a1), (1, .int 32)], [.int a1], (q_kX s c n))) 1 (fun _ _ => rfl) ?_
              refine q_Ru_rsF (g2 := (4, [(0, .int a1), (1, .int 32)], [], (q_kX s c n))) rfl rfl h1 ?_
              refine q_Ru_seg (g2 := (6, [(0, .int a1), (1, .int 32)], [.int 32, .int a1], (q_kX s c n))) 2 (fun _ _ => rfl) ?_
              refine q_Ru_rsT (g2 := (19, [(0, .int a1), (1, .int 32)], [], (q_kX s c n))) rfl rfl h2 ?_
              exact q_Ru_ret rfl rfl
            show q_Ru _ _ _ (6, [(0, .ref 64), (1, .int a1), (2, .int a2)], [], (q_kX s c n)) _
            refine q_Ru_seg (g2 := (9, [(0, .ref 64), (1, .int a1), (2, .int a2)], [.int 32, .int a2], (q_kX s c n))) 2 (fun _ _ => rfl) ?_
            refine q_Ru_call (v := none) (h2 := (q_kX s c n)) rfl rfl ?_ ?_
            · refine q_Ca_of (Nat.le_of_ble_eq_true rfl) ?_
              refine q_Ru_seg (g2 := (1, [(0, .int a2), (1, .int 32)], [.int a2], (q_kX s c n))) 1 (fun _ _ => rfl) ?_
              refine q_Ru_rsF (g2 := (4, [(0, .int a2), (1, .int 32)], [], (q_kX s c n))) rfl rfl h3 ?_
              refine q_Ru_seg (g2 := (6, [(0, .int a2), (1, .int 32)], [.int 32, .int a2], (q_kX s c n))) 2 (fun _ _ => rfl) ?_
              refine q_Ru_rsT (g2 := (19, [(0, .int a2), (1, .int 32)], [], (q_kX s c n))) rfl rfl h4 ?_
              exact q_Ru_ret rfl rfl
            show q_Ru _ _ _ (12, [(0, .ref 64), (1, .int a1), (2, .int a2)], [], (q_kX s c n)) _
            refine q_Ru_seg (g2 := (29, [(0, .ref 64), (1, .int a1), (2, .int a2)], [.int (((32 * a2) + a1) &&& 1023), .ref 96], (q_kX s c n))) 10 (fun _ _ => rfl) ?_
            refine q_Ru_rsT (g2 := (30, [(0, .ref 64), (1, .int a1), (2, .int a2)], [.int ((s.1 32) ((((32 * a2) + a1) &&& 1023).toNatClampNeg))], (q_kX s c n))) rfl rfl (q_in_bd (x := ((32 * a2) + a1) &&& 1023) (n := 1024) (U := 1023) (L := 0) (q_and_lo ((32 * a2) + a1) 1023) (q_and_hi ((32 * a2) + a1) 1023 1023)) ?_
            exact q_Ru_ret rfl rfl
          show q_RT _ _ _ (8, [(0, .ref 64), (1, .int a1), (2, .int a2), (3, .ref 236)], [.int ((s.1 32) ((((32 * a2) + a1) &&& 1023).toNatClampNeg)), .int 0, .ref 236], (q_kX s c n)) _ _
          refine q_RT_seg (g2 := (9, [(0, .ref 64), (1, .int a1), (2, .int a2), (3, .ref 236)], [.long (((s.1 32) ((((32 * a2) + a1) &&& 1023).toNatClampNeg)).toInt64), .int 0, .ref 236], (q_kX s c n))) 1 (fun _ _ => rfl) ?_
          refine q_RT_rsT (g2 := (10, [(0, .ref 64), (1, .int a1), (2, .int a2), (3, .ref 236)], [], (q_kX (q_sL s 172 (vp_updL (s.2.2 172) 0 (((s.1 32) ((((32 * a2) + a1) &&& 1023).toNatClampNeg)).toInt64))) c n))) rfl q_wX172 rfl ?_
          refine q_RT_seg (g2 := (18, [(0, .ref 64), (1, .int a1), (2, .int a2), (3, .ref 236)], [.int 0], (q_kX (q_sL s 172 (vp_updL (s.2.2 172) 0 (((s.1 32) ((((32 * a2) + a1) &&& 1023).toNatClampNeg)).toInt64))) c n))) 2 (fun _ _ => rfl) ?_
          exact q_RT_ret rfl rfl rfl
        | false =>
          refine q_RT_cF ?_
          refine q_RT_callH (E := "java/lang/IndexOutOfBoundsException") (tg := 15) (i := 4) (h2 := (q_kX s (c + 1) (n + 6))) rfl rfl ?_ rfl ?_
          · refine q_Ca_of (Nat.le_of_ble_eq_true rfl) ?_
            refine q_Ru_seg (g2 := (3, [(0, .ref 64), (1, .int a1), (2, .int a2)], [.int 32, .int a1], (q_kX s c n))) 2 (fun _ _ => rfl) ?_
            refine q_Ru_call (v := none) (h2 := (q_kX s c n)) rfl rfl ?_ ?_
            · refine q_Ca_of (Nat.le_of_ble_eq_true rfl) ?_
              refine q_Ru_seg (g2 := (1, [(0, .int a1), (1, .int 32)], [.int a1], (q_kX s c n))) 1 (fun _ _ => rfl) ?_
              refine q_Ru_rsF (g2 := (4, [(0, .int a1), (1, .int 32)], [], (q_kX s c n))) rfl rfl h1 ?_
              refine q_Ru_seg (g2 := (6, [(0, .int a1), (1, .int 32)], [.int 32, .int a1], (q_kX s c n))) 2 (fun _ _ => rfl) ?_
              refine q_Ru_rsT (g2 := (19, [(0, .int a1), (1, .int 32)], [], (q_kX s c n))) rfl rfl h2 ?_
              exact q_Ru_ret rfl rfl
            show q_Ru _ _ _ (6, [(0, .ref 64), (1, .int a1), (2, .int a2)], [], (q_kX s c n)) _
            refine q_Ru_seg (g2 := (9, [(0, .ref 64), (1, .int a1), (2, .int a2)], [.int 32, .int a2], (q_kX s c n))) 2 (fun _ _ => rfl) ?_
            refine q_Ru_callX (E := "java/lang/IndexOutOfBoundsException") (h2 := (q_kX s (c + 1) (n + 6))) rfl rfl ?_
            refine q_Ca_of (Nat.le_of_ble_eq_true rfl) ?_
            refine q_Ru_seg (g2 := (1, [(0, .int a2), (1, .int 32)], [.int a2], (q_kX s c n))) 1 (fun _ _ => rfl) ?_
            refine q_Ru_rsF (g2 := (4, [(0, .int a2), (1, .int 32)], [], (q_kX s c n))) rfl rfl h3 ?_
            refine q_Ru_seg (g2 := (6, [(0, .int a2), (1, .int 32)], [.int 32, .int a2], (q_kX s c n))) 2 (fun _ _ => rfl) ?_
            refine q_Ru_rsF (g2 := (9, [(0, .int a2), (1, .int 32)], [], (q_kX s c n))) rfl rfl h4 ?_
            exact q_Ru_thr rfl rfl
          show q_RT _ _ _ (15, [(0, .ref 64), (1, .int a1), (2, .int a2), (3, .ref 236)], [], (q_kX s (c + 1) (n + 6))) _ _
          refine q_RT_seg (g2 := (16, [(0, .ref 64), (1, .int a1), (2, .int a2), (3, .ref 236)], [.int 1], (q_kX s (c + 1) (n + 6)))) 1 (fun _ _ => rfl) ?_
          exact q_RT_ret rfl rfl rfl
    | false =>
      refine q_RT_cF ?_
      refine q_RT_callH (E := "java/lang/IndexOutOfBoundsException") (tg := 15) (i := 4) (h2 := (q_kX s (c + 1) (n + 6))) rfl rfl ?_ rfl ?_
      · refine q_Ca_of (Nat.le_of_ble_eq_true rfl) ?_
        refine q_Ru_seg (g2 := (3, [(0, .ref 64), (1, .int a1), (2, .int a2)], [.int 32, .int a1], (q_kX s c n))) 2 (fun _ _ => rfl) ?_
        refine q_Ru_callX (E := "java/lang/IndexOutOfBoundsException") (h2 := (q_kX s (c + 1) (n + 6))) rfl rfl ?_
        refine q_Ca_of (Nat.le_of_ble_eq_true rfl) ?_
        refine q_Ru_seg (g2 := (1, [(0, .int a1), (1, .int 32)], [.int a1], (q_kX s c n))) 1 (fun _ _ => rfl) ?_
        refine q_Ru_rsF (g2 := (4, [(0, .int a1), (1, .int 32)], [], (q_kX s c n))) rfl rfl h1 ?_
        refine q_Ru_seg (g2 := (6, [(0, .int a1), (1, .int 32)], [.int 32, .int a1], (q_kX s c n))) 2 (fun _ _ => rfl) ?_
        refine q_Ru_rsF (g2 := (9, [(0, .int a1), (1, .int 32)], [], (q_kX s c n))) rfl rfl h2 ?_
        exact q_Ru_thr rfl rfl
      show q_RT _ _ _ (15, [(0, .ref 64), (1, .int a1), (2, .int a2), (3, .ref 236)], [], (q_kX s (c + 1) (n + 6))) _ _
      refine q_RT_seg (g2 := (16, [(0, .ref 64), (1, .int a1), (2, .int a2), (3, .ref 236)], [.int 1], (q_kX s (c + 1) (n + 6)))) 1 (fun _ _ => rfl) ?_
      exact q_RT_ret rfl rfl rfl
def dz_X15_64_236 (s : q_S) (a1 : Int32) (a2 : Int32) : Option (q_S × Int32 × Nat) :=
  cond (decide (a1 < 0)) (some (s, 1, 1)) (cond (decide (a1 < 32)) (cond (decide (a2 < 0)) (some (s, 1, 1)) (cond (decide (a2 < 32)) ((dz_N108_65_96 (q_vw 32 1 73 s) a1 a2).bind fun r1 => some ((q_sL (q_pt 32 3 1 73 s r1.1) 172 (vp_updL ((q_pt 32 3 1 73 s r1.1).2.2 172) 0 r1.2.toInt64)), 0, 0)) (some (s, 1, 1)))) (some (s, 1, 1)))
set_option maxHeartbeats 4000000 in
theorem dzt_X15_64_236 (z L : Nat) (xs : Nat → Int32) (s : q_S) (c n : Nat) (a1 : Int32) (a2 : Int32) (x : q_S × Int32 × Nat) (h : dz_X15_64_236 s a1 a2 = some x) : q_Ca (q_TBs z L xs) 7 15 [.ref 64, .int a1, .int a2, .ref 236] (q_kX s c n) ((q_oEX c n) x) := by
  refine q_CaP_of (φ := (q_oEX c n)) (Nat.le_of_ble_eq_true rfl) ?_ h
  clear h
  unfold dz_X15_64_236
  refine q_RP_seg (g2 := (5, [(0, .ref 64), (1, .int a1), (2, .int a2), (3, .ref 236)], [.int a2, .int a1, .ref 64, .int 0, .ref 236], (q_kX s c n))) 5 (fun _ _ => rfl) ?_
  cases h5 : decide (a1 < 0) with
  | true =>
    refine q_RP_cT ?_
    refine q_RP_callH (E := "java/lang/IndexOutOfBoundsException") (tg := 15) (i := 4) (h2 := (q_kX s (c + 1) (n + 6))) rfl rfl ?_ rfl ?_
    · refine q_Ca_of (Nat.le_of_ble_eq_true rfl) ?_
      refine q_Ru_seg (g2 := (3, [(0, .ref 64), (1, .int a1), (2, .int a2)], [.int 32, .int a1], (q_kX s c n))) 2 (fun _ _ => rfl) ?_
      refine q_Ru_callX (E := "java/lang/IndexOutOfBoundsException") (h2 := (q_kX s (c + 1) (n + 6))) rfl rfl ?_
      refine q_Ca_of (Nat.le_of_ble_eq_true rfl) ?_
      refine q_Ru_seg (g2 := (1, [(0, .int a1), (1, .int 32)], [.int a1], (q_kX s c n))) 1 (fun _ _ => rfl) ?_
      refine q_Ru_rsT (g2 := (9, [(0, .int a1), (1, .int 32)], [], (q_kX s c n))) rfl rfl h5 ?_
      exact q_Ru_thr rfl rfl
    show q_RP _ _ _ (15, [(0, .ref 64), (1, .int a1), (2, .int a2), (3, .ref 236)], [], (q_kX s (c + 1) (n + 6))) _ _
    refine q_RP_seg (g2 := (16, [(0, .ref 64), (1, .int a1), (2, .int a2), (3, .ref 236)], [.int 1], (q_kX s (c + 1) (n + 6)))) 1 (fun _ _ => rfl) ?_
    exact q_RP_ret rfl rfl rfl
  | false =>
    refine q_RP_cF ?_
    cases h6 : decide (a1 < 32) with
    | true =>
      refine q_RP_cT ?_
      cases h7 : decide (a2 < 0) with
      | true =>
        refine q_RP_cT ?_
        refine q_RP_callH (E := "java/lang/IndexOutOfBoundsException") (tg := 15) (i := 4) (h2 := (q_kX s (c + 1) (n + 6))) rfl rfl ?_ rfl ?_
        · refine q_Ca_of (Nat.le_of_ble_eq_true rfl) ?_
          refine q_Ru_seg (g2 := (3, [(0, .ref 64), (1, .int a1), (2, .int a2)], [.int 32, .int a1], (q_kX s c n))) 2 (fun _ _ => rfl) ?_
          refine q_Ru_call (v := none) (h2 := (q_kX s c n)) rfl rfl ?_ ?_
          · refine q_Ca_of (Nat.le_of_ble_eq_true rfl) ?_
            refine q_Ru_seg (g2 := (1, [(0, .int a1), (1, .int 32)], [.int a1], (q_kX s c n))) 1 (fun _ _ => rfl) ?_
            refine q_Ru_rsF (g2 := (4, [(0, .int a1), (1, .int 32)], [], (q_kX s c n))) rfl rfl h5 ?_
            refine q_Ru_seg (g2 := (6, [(0, .int a1), (1, .int 32)], [.int 32, .int a1], (q_kX s c n))) 2 (fun _ _ => rfl) ?_
            refine q_Ru_rsT (g2 := (19, [(0, .int a1), (1, .int 32)], [], (q_kX s c n))) rfl rfl h6 ?_
            exact q_Ru_ret rfl rfl
          show q_Ru _ _ _ (6, [(0, .ref 64), (1, .int a1), (2, .int a2)], [], (q_kX s c n)) _
          refine q_Ru_seg (g2 := (9, [(0, .ref 64), (1, .int a1), (2, .int a2)], [.int 32, .int a2], (q_kX s c n))) 2 (fun _ _ => rfl) ?_
          refine q_Ru_callX (E := "java/lang/IndexOutOfBoundsException") (h2 := (q_kX s (c + 1) (n + 6))) rfl rfl ?_
          refine q_Ca_of (Nat.le_of_ble_eq_true rfl) ?_
          refine q_Ru_seg (g2 := (1, [(0, .int a2), (1, .int 32)], [.int a2], (q_kX s c n))) 1 (fun _ _ => rfl) ?_
          refine q_Ru_rsT (g2 := (9, [(0, .int a2), (1, .int 32)], [], (q_kX s c n))) rfl rfl h7 ?_
          exact q_Ru_thr rfl rfl
        show q_RP _ _ _ (15, [(0, .ref 64), (1, .int a1), (2, .int a2), (3, .ref 236)], [], (q_kX s (c + 1) (n + 6))) _ _
        refine q_RP_seg (g2 := (16, [(0, .ref 64), (1, .int a1), (2, .int a2), (3, .ref 236)], [.int 1], (q_kX s (c + 1) (n + 6)))) 1 (fun _ _ => rfl) ?_
        exact q_RP_ret rfl rfl rfl
      | false =>
        refine q_RP_cF ?_
        cases h8 : decide (a2 < 32) with
        | true =>
          refine q_RP_cT ?_
          refine q_RP_bd fun r1 er1 => ?_
          refine q_RP_call (v := (some (.int r1.2))) (h2 := (q_kX (q_pt 32 3 1 73 s r1.1) c n)) rfl rfl ?_ ?_
          · refine q_Ca_of (Nat.le_of_ble_eq_true rfl) ?_
            refine q_Ru_seg (g2 := (3, [(0, .ref 64), (1, .int a1), (2, .int a2)], [.int 32, .int a1], (q_kX s c n))) 2 (fun _ _ => rfl) ?_
            refine q_Ru_call (v := none) (h2 := (q_kX s c n)) rfl rfl ?_ ?_
            · refine q_Ca_of (Nat.le_of_ble_eq_true rfl) ?_
              refine q_Ru_seg (g2 := (1, [(0, .int a1), (1, .int 32)], [.int a1], (q_kX s c n))) 1 (fun _ _ => rfl) ?_
              refine q_Ru_rsF (g2 := (4, [(0, .int a1), (1, .int 32)], [], (q_kX s c n))) rfl rfl h5 ?_
              refine q_Ru_seg (g2 := (6, [(0, .int a1), (1, .int 32)], [.int 32, .int a1], (q_kX s c n))) 2 (fun _ _ => rfl) ?_
              refine q_Ru_rsT (g2 := (19, [(0, .int a1), (1, .int 32)], [], (q_kX s c n))) rfl rfl h6 ?_
              exact q_Ru_ret rfl rfl
            show q_Ru _ _ _ (6, [(0, .ref 64), (1, .int a1), (2, .int a2)], [], (q_kX s c n)) _
            refine q_Ru_seg (g2 := (9, [(0, .ref 64), (1, .int a1), (2, .int a2)], [.int 32, .int a2], (q_kX s c n))) 2 (fun _ _ => rfl) ?_
            refine q_Ru_call (v := none) (h2 := (q_kX s c n)) rfl rfl ?_ ?_
            · refine q_Ca_of (Nat.le_of_ble_eq_true rfl) ?_
              refine q_Ru_seg (g2 := (1, [(0, .int a2), (1, .int 32)], [.int a2], (q_kX s c n))) 1 (fun _ _ => rfl) ?_
              refine q_Ru_rsF (g2 := (4, [(0, .int a2), (1, .int 32)], [], (q_kX s c n))) rfl rfl h7 ?_
              refine q_Ru_seg (g2 := (6, [(0, .int a2), (1, .int 32)], [.int 32, .int a2], (q_kX s c n))) 2 (fun _ _ => rfl) ?_
              refine q_Ru_rsT (g2 := (19, [(0, .int a2), (1, .int 32)], [], (q_kX s c n))) rfl rfl h8 ?_
              exact q_Ru_ret rfl rfl
            show q_Ru _ _ _ (12, [(0, .ref 64), (1, .int a1), (2, .int a2)], [], (q_kX s c n)) _
            refine q_Ru_seg (g2 := (25, [(0, .ref 64), (1, .int a1), (2, .int a2)], [.ref 137, .int a2, .int a1, .ref 66], (q_kX s c n))) 7 (fun _ _ => rfl) ?_
            refine q_Ru_call (v := (some (.int r1.2))) (h2 := (q_kX (q_pt 32 3 1 73 s r1.1) c n)) rfl rfl ?_ ?_
            · exact (q_emNX_1 rfl (fun _ => rfl) ((dzt_N108_65_96 (q_vw 32 1 73 s) c n a1 a2 r1 er1).tb q_TB0_le)).le (Nat.le_of_ble_eq_true rfl)
            show q_Ru _ _ _ (28, [(0, .ref 64), (1, .int a1), (2, .int a2)], [.int r1.2], (q_kX (q_pt 32 3 1 73 s r1.1) c n)) _
            exact q_Ru_ret rfl rfl
          show q_RP _ _ _ (8, [(0, .ref 64), (1, .int a1), (2, .int a2), (3, .ref 236)], [.int r1.2, .int 0, .ref 236], (q_kX (q_pt 32 3 1 73 s r1.1) c n)) _ _
          refine q_RP_seg (g2 := (9, [(0, .ref 64), (1, .int a1), (2, .int a2), (3, .ref 236)], [.long r1.2.toInt64, .int 0, .ref 236], (q_kX (q_pt 32 3 1 73 s r1.1) c n))) 1 (fun _ _ => rfl) ?_
          refine q_RP_rsT (g2 := (10, [(0, .ref 64), (1, .int a1), (2, .int a2), (3, .ref 236)], [], (q_kX (q_sL (q_pt 32 3 1 73 s r1.1) 172 (vp_updL ((q_pt 32 3 1 73 s r1.1).2.2 172) 0 r1.2.toInt64)) c n))) rfl q_wX172 rfl ?_
          refine q_RP_seg (g2 := (18, [(0, .ref 64), (1, .int a1), (2, .int a2), (3, .ref 236)], [.int 0], (q_kX (q_sL (q_pt 32 3 1 73 s r1.1) 172 (vp_updL ((q_pt 32 3 1 73 s r1.1).2.2 172) 0 r1.2.toInt64)) c n))) 2 (fun _ _ => rfl) ?_
          exact q_RP_ret rfl rfl rfl
        | false =>
          refine q_RP_cF ?_
          refine q_RP_callH (E := "java/lang/IndexOutOfBoundsException") (tg := 15) (i := 4) (h2 := (q_kX s (c + 1) (n + 6))) rfl rfl ?_ rfl ?_
          · refine q_Ca_of (Nat.le_of_ble_eq_true rfl) ?_
            refine q_Ru_seg (g2 := (3, [(0, .ref 64), (1, .int a1), (2, .int a2)], [.int 32, .int a1], (q_kX s c n))) 2 (fun _ _ => rfl) ?_
            refine q_Ru_call (v := none) (h2 := (q_kX s c n)) rfl rfl ?_ ?_
            · refine q_Ca_of (Nat.le_of_ble_eq_true rfl) ?_
              refine q_Ru_seg (g2 := (1, [(0, .int a1), (1, .int 32)], [.int a1], (q_kX s c n))) 1 (fun _ _ => rfl) ?_
              refine q_Ru_rsF (g2 := (4, [(0, .int a1), (1, .int 32)], [], (q_kX s c n))) rfl rfl h5 ?_
              refine q_Ru_seg (g2 := (6, [(0, .int a1), (1, .int 32)], [.int 32, .int a1], (q_kX s c n))) 2 (fun _ _ => rfl) ?_
              refine q_Ru_rsT (g2 := (19, [(0, .int a1), (1, .int 32)], [], (q_kX s c n))) rfl rfl h6 ?_
              exact q_Ru_ret rfl rfl
            show q_Ru _ _ _ (6, [(0, .ref 64), (1, .int a1), (2, .int a2)], [], (q_kX s c n)) _
            refine q_Ru_seg (g2 := (9, [(0, .ref 64), (1, .int a1), (2, .int a2)], [.int 32, .int a2], (q_kX s c n))) 2 (fun _ _ => rfl) ?_
            refine q_Ru_callX (E := "java/lang/IndexOutOfBoundsException") (h2 := (q_kX s (c + 1) (n + 6))) rfl rfl ?_
            refine q_Ca_of (Nat.le_of_ble_eq_true rfl) ?_
            refine q_Ru_seg (g2 := (1, [(0, .int a2), (1, .int 32)], [.int a2], (q_kX s c n))) 1 (fun _ _ => rfl) ?_
            refine q_Ru_rsF (g2 := (4, [(0, .int a2), (1, .int 32)], [], (q_kX s c n))) rfl rfl h7 ?_
            refine q_Ru_seg (g2 := (6, [(0, .int a2), (1, .int 32)], [.int 32, .int a2], (q_kX s c n))) 2 (fun _ _ => rfl) ?_
            refine q_Ru_rsF (g2 := (9, [(0, .int a2), (1, .int 32)], [], (q_kX s c n))) rfl rfl h8 ?_
            exact q_Ru_thr rfl rfl
          show q_RP _ _ _ (15, [(0, .ref 64), (1, .int a1), (2, .int a2), (3, .ref 236)], [], (q_kX s (c + 1) (n + 6))) _ _
          refine q_RP_seg (g2 := (16, [(0, .ref 64), (1, .int a1), (2, .int a2), (3, .ref 236)], [.int 1], (q_kX s (c + 1) (n + 6)))) 1 (fun _ _ => rfl) ?_
          exact q_RP_ret rfl rfl rfl
    | false =>
      refine q_RP_cF ?_
      refine q_RP_callH (E := "java/lang/IndexOutOfBoundsException") (tg := 15) (i := 4) (h2 := (q_kX s (c + 1) (n + 6))) rfl rfl ?_ rfl ?_
      · refine q_Ca_of (Nat.le_of_ble_eq_true rfl) ?_
        refine q_Ru_seg (g2 := (3, [(0, .ref 64), (1, .int a1), (2, .int a2)], [.int 32, .int a1], (q_kX s c n))) 2 (fun _ _ => rfl) ?_
        refine q_Ru_callX (E := "java/lang/IndexOutOfBoundsException") (h2 := (q_kX s (c + 1) (n + 6))) rfl rfl ?_
        refine q_Ca_of (Nat.le_of_ble_eq_true rfl) ?_
        refine q_Ru_seg (g2 := (1, [(0, .int a1), (1, .int 32)], [.int a1], (q_kX s c n))) 1 (fun _ _ => rfl) ?_
        refine q_Ru_rsF (g2 := (4, [(0, .int a1), (1, .int 32)], [], (q_kX s c n))) rfl rfl h5 ?_
        refine q_Ru_seg (g2 := (6, [(0, .int a1), (1, .int 32)], [.int 32, .int a1], (q_kX s c n))) 2 (fun _ _ => rfl) ?_
        refine q_Ru_rsF (g2 := (9, [(0, .int a1), (1, .int 32)], [], (q_kX s c n))) rfl rfl h6 ?_
        exact q_Ru_thr rfl rfl
      show q_RP _ _ _ (15, [(0, .ref 64), (1, .int a1), (2, .int a2), (3, .ref 236)], [], (q_kX s (c + 1) (n + 6))) _ _
      refine q_RP_seg (g2 := (16, [(0, .ref 64), (1, .int a1), (2, .int a2), (3, .ref 236)], [.int 1], (q_kX s (c + 1) (n + 6)))) 1 (fun _ _ => rfl) ?_
      exact q_RP_ret rfl rfl rfl
def dz_X16_64_236 (s : q_S) (a1 : Int32) : q_S × Int32 × Nat :=
  cond (decide (a1 < 0)) ((s, 1, 1)) (cond (decide (a1 < 40)) (((q_sL s 172 (vp_updL (s.2.2 172) 0 (((s.1 31) (a1.toNatClampNeg)).toInt64))), 0, 0)) ((s, 1, 1)))
set_option maxHeartbeats 4000000 in
theorem dzt_X16_64_236 (z L : Nat) (xs : Nat → Int32) (s : q_S) (c n : Nat) (a1 : Int32) : q_Ca (q_TBs z L xs) 3 16 [.ref 64, .int a1, .ref 236] (q_kX s c n) ((q_oEX c n) (dz_X16_64_236 s a1)) := by
  refine q_CaT_of (φ := (q_oEX c n)) (Nat.le_of_ble_eq_true rfl) ?_
  unfold dz_X16_64_236
  refine q_RT_seg (g2 := (4, [(0, .ref 64), (1, .int a1), (2, .ref 236)], [.int a1, .ref 64, .int 0, .ref 236], (q_kX s c n))) 4 (fun _ _ => rfl) ?_
  cases h1 : decide (a1 < 0) with
  | true =>
    refine q_RT_cT ?_
    refine q_RT_callH (E := "java/lang/IndexOutOfBoundsException") (tg := 13) (i := 3) (h2 := (q_kX s (c + 1) (n + 6))) rfl rfl ?_ rfl ?_
    · refine q_Ca_of (Nat.le_of_ble_eq_true rfl) ?_
      refine q_Ru_seg (g2 := (3, [(0, .ref 64), (1, .int a1)], [.int 40, .int a1], (q_kX s c n))) 2 (fun _ _ => rfl) ?_
      refine q_Ru_callX (E := "java/lang/IndexOutOfBoundsException") (h2 := (q_kX s (c + 1) (n + 6))) rfl rfl ?_
      refine q_Ca_of (Nat.le_of_ble_eq_true rfl) ?_
      refine q_Ru_seg (g2 := (1, [(0, .int a1), (1, .int 40)], [.int a1], (q_kX s c n))) 1 (fun _ _ => rfl) ?_
      refine q_Ru_rsT (g2 := (9, [(0, .int a1), (1, .int 40)], [], (q_kX s c n))) rfl rfl h1 ?_
      exact q_Ru_thr rfl rfl
    show q_RT _ _ _ (13, [(0, .ref 64), (1, .int a1), (2, .ref 236)], [], (q_kX s (c + 1) (n + 6))) _ _
    refine q_RT_seg (g2 := (14, [(0, .ref 64), (1, .int a1), (2, .ref 236)], [.int 1], (q_kX s (c + 1) (n + 6)))) 1 (fun _ _ => rfl) ?_
    exact q_RT_ret rfl rfl rfl
  | false =>
    refine q_RT_cF ?_
    cases h2 : decide (a1 < 40) with
    | true =>
      refine q_RT_cT ?_
      refine q_RT_call (v := (some (.int ((s.1 31) (a1.toNatClampNeg))))) (h2 := (q_kX s c n)) rfl rfl ?_ ?_
      · refine q_Ca_of (Nat.le_of_ble_eq_true rfl) ?_
        refine q_Ru_seg (g2 := (3, [(0, .ref 64), (1, .int a1)], [.int 40, .int a1], (q_kX s c n))) 2 (fun _ _ => rfl) ?_
        refine q_Ru_call (v := none) (h2 := (q_kX s c n)) rfl rfl ?_ ?_
        · refine q_Ca_of (Nat.le_of_ble_eq_true rfl) ?_
          refine q_Ru_seg (g2 := (1, [(0, .int a1), (1, .int 40)], [.int a1], (q_kX s c n))) 1 (fun _ _ => rfl) ?_
          refine q_Ru_rsF (g2 := (4, [(0, .int a1), (1, .int 40)], [], (q_kX s c n))) rfl rfl h1 ?_
          refine q_Ru_seg (g2 := (6, [(0, .int a1), (1, .int 40)], [.int 40, .int a1], (q_kX s c n))) 2 (fun _ _ => rfl) ?_
          refine q_Ru_rsT (g2 := (19, [(0, .int a1), (1, .int 40)], [], (q_kX s c n))) rfl rfl h2 ?_
          exact q_Ru_ret rfl rfl
        show q_Ru _ _ _ (6, [(0, .ref 64), (1, .int a1)], [], (q_kX s c n)) _
        refine q_Ru_seg (g2 := (17, [(0, .ref 64), (1, .int a1)], [.int a1, .ref 95], (q_kX s c n))) 5 (fun _ _ => rfl) ?_
        refine q_Ru_rsT (g2 := (18, [(0, .ref 64), (1, .int a1)], [.int ((s.1 31) (a1.toNatClampNeg))], (q_kX s c n))) rfl rfl (q_in_bd (x := a1) (n := 40) (U := 39) (L := 0) (q_lo1 h1) (q_hi1 h2)) ?_
        exact q_Ru_ret rfl rfl
      show q_RT _ _ _ (7, [(0, .ref 64), (1, .int a1), (2, .ref 236)], [.int ((s.1 31) (a1.toNatClampNeg)), .int 0, .ref 236], (q_kX s c n)) _ _
      refine q_RT_seg (g2 := (8, [(0, .ref 64), (1, .int a1), (2, .ref 236)], [.long (((s.1 31) (a1.toNatClampNeg)).toInt64), .int 0, .ref 236], (q_kX s c n))) 1 (fun _ _ => rfl) ?_
      refine q_RT_rsT (g2 := (9, [(0, .ref 64), (1, .int a1), (2, .ref 236)], [], (q_kX (q_sL s 172 (vp_updL (s.2.2 172) 0 (((s.1 31) (a1.toNatClampNeg)).toInt64))) c n))) rfl q_wX172 rfl ?_
      refine q_RT_seg (g2 := (16, [(0, .ref 64), (1, .int a1), (2, .ref 236)], [.int 0], (q_kX (q_sL s 172 (vp_updL (s.2.2 172) 0 (((s.1 31) (a1.toNatClampNeg)).toInt64))) c n))) 2 (fun _ _ => rfl) ?_
      exact q_RT_ret rfl rfl rfl
    | false =>
      refine q_RT_cF ?_
      refine q_RT_callH (E := "java/lang/IndexOutOfBoundsException") (tg := 13) (i := 3) (h2 := (q_kX s (c + 1) (n + 6))) rfl rfl ?_ rfl ?_
      · refine q_Ca_of (Nat.le_of_ble_eq_true rfl) ?_
        refine q_Ru_seg (g2 := (3, [(0, .ref 64), (1, .int a1)], [.int 40, .int a1], (q_kX s c n))) 2 (fun _ _ => rfl) ?_
        refine q_Ru_callX (E := "java/lang/IndexOutOfBoundsException") (h2 := (q_kX s (c + 1) (n + 6))) rfl rfl ?_
        refine q_Ca_of (Nat.le_of_ble_eq_true rfl) ?_
        refine q_Ru_seg (g2 := (1, [(0, .int a1), (1, .int 40)], [.int a1], (q_kX s c n))) 1 (fun _ _ => rfl) ?_
        refine q_Ru_rsF (g2 := (4, [(0, .int a1), (1, .int 40)], [], (q_kX s c n))) rfl rfl h1 ?_
        refine q_Ru_seg (g2 := (6, [(0, .int a1), (1, .int 40)], [.int 40, .int a1], (q_kX s c n))) 2 (fun _ _ => rfl) ?_
        refine q_Ru_rsF (g2 := (9, [(0, .int a1), (1, .int 40)], [], (q_kX s c n))) rfl rfl h2 ?_
        exact q_Ru_thr rfl rfl
      show q_RT _ _ _ (13, [(0, .ref 64), (1, .int a1), (2, .ref 236)], [], (q_kX s (c + 1) (n + 6))) _ _
      refine q_RT_seg (g2 := (14, [(0, .ref 64), (1, .int a1), (2, .ref 236)], [.int 1], (q_kX s (c + 1) (n + 6)))) 1 (fun _ _ => rfl) ?_
      exact q_RT_ret rfl rfl rfl
def dz_X17_64_236 (s : q_S) (a1 : Int32) : q_S × Int32 × Nat :=
  cond (decide (a1 < 0)) ((s, 1, 1)) (cond (decide (a1 < 3)) (((q_sL s 172 (vp_updL (s.2.2 172) 0 (((s.1 28) (a1.toNatClampNeg)).toInt64))), 0, 0)) ((s, 1, 1)))
set_option maxHeartbeats 4000000 in
theorem dzt_X17_64_236 (z L : Nat) (xs : Nat → Int32) (s : q_S) (c n : Nat) (a1 : Int32) : q_Ca (q_TBs z L xs) 3 17 [.ref 64, .int a1, .ref 236] (q_kX s c n) ((q_oEX c n) (dz_X17_64_236 s a1)) := by
  refine q_CaT_of (φ := (q_oEX c n)) (Nat.le_of_ble_eq_true rfl) ?_
  unfold dz_X17_64_236
  refine q_RT_seg (g2 := (4, [(0, .ref 64), (1, .int a1), (2, .ref 236)], [.int a1, .ref 64, .int 0, .ref 236], (q_kX s c n))) 4 (fun _ _ => rfl) ?_
  cases h1 : decide (a1 < 0) with
  | true =>
    refine q_RT_cT ?_
    refine q_RT_callH (E := "java/lang/IndexOutOfBoundsException") (tg := 13) (i := 3) (h2 := (q_kX s (c + 1) (n + 6))) rfl rfl ?_ rfl ?_
    · refine q_Ca_of (Nat.le_of_ble_eq_true rfl) ?_
      refine q_Ru_seg (g2 := (2, [(0, .ref 64), (1, .int a1)], [.int 3, .int a1], (q_kX s c n))) 2 (fun _ _ => rfl) ?_
      refine q_Ru_callX (E := "java/lang/IndexOutOfBoundsException") (h2 := (q_kX s (c + 1) (n + 6))) rfl rfl ?_
      refine q_Ca_of (Nat.le_of_ble_eq_true rfl) ?_
      refine q_Ru_seg (g2 := (1, [(0, .int a1), (1, .int 3)], [.int a1], (q_kX s c n))) 1 (fun _ _ => rfl) ?_
      refine q_Ru_rsT (g2 := (9, [(0, .int a1), (1, .int 3)], [], (q_kX s c n))) rfl rfl h1 ?_
      exact q_Ru_thr rfl rfl
    show q_RT _ _ _ (13, [(0, .ref 64), (1, .int a1), (2, .ref 236)], [], (q_kX s (c + 1) (n + 6))) _ _
    refine q_RT_seg (g2 := (14, [(0, .ref 64), (1, .int a1), (2, .ref 236)], [.int 1], (q_kX s (c + 1) (n + 6)))) 1 (fun _ _ => rfl) ?_
    exact q_RT_ret rfl rfl rfl
  | false =>
    refine q_RT_cF ?_
    cases h2 : decide (a1 < 3) with
    | true =>
      refine q_RT_cT ?_
      refine q_RT_call (v := (some (.int ((s.1 28) (a1.toNatClampNeg))))) (h2 := (q_kX s c n)) rfl rfl ?_ ?_
      · refine q_Ca_of (Nat.le_of_ble_eq_true rfl) ?_
        refine q_Ru_seg (g2 := (2, [(0, .ref 64), (1, .int a1)], [.int 3, .int a1], (q_kX s c n))) 2 (fun _ _ => rfl) ?_
        refine q_Ru_call (v := none) (h2 := (q_kX s c n)) rfl rfl ?_ ?_
        · refine q_Ca_of (Nat.le_of_ble_eq_true rfl) ?_
          refine q_Ru_seg (g2 := (1, [(0, .int a1), (1, .int 3)], [.int a1], (q_kX s c n))) 1 (fun _ _ => rfl) ?_
          refine q_Ru_rsF (g2 := (4, [(0, .int a1), (1, .int 3)], [], (q_kX s c n))) rfl rfl h1 ?_
          refine q_Ru_seg (g2 := (6, [(0, .int a1), (1, .int 3)], [.int 3, .int a1], (q_kX s c n))) 2 (fun _ _ => rfl) ?_
          refine q_Ru_rsT (g2 := (19, [(0, .int a1), (1, .int 3)], [], (q_kX s c n))) rfl rfl h2 ?_
          exact q_Ru_ret rfl rfl
        show q_Ru _ _ _ (5, [(0, .ref 64), (1, .int a1)], [], (q_kX s c n)) _
        refine q_Ru_seg (g2 := (16, [(0, .ref 64), (1, .int a1)], [.int a1, .ref 92], (q_kX s c n))) 5 (fun _ _ => rfl) ?_
        refine q_Ru_rsT (g2 := (17, [(0, .ref 64), (1, .int a1)], [.int ((s.1 28) (a1.toNatClampNeg))], (q_kX s c n))) rfl rfl (q_in_bd (x := a1) (n := 3) (U := 2) (L := 0) (q_lo1 h1) (q_hi1 h2)) ?_
        exact q_Ru_ret rfl rfl
      show q_RT _ _ _ (7, [(0, .ref 64), (1, .int a1), (2, .ref 236)], [.int ((s.1 28) (a1.toNatClampNeg)), .int 0, .ref 236], (q_kX s c n)) _ _
      refine q_RT_seg (g2 := (8, [(0, .ref 64), (1, .int a1), (2, .ref 236)], [.long (((s.1 28) (a1.toNatClampNeg)).toInt64), .int 0, .ref 236], (q_kX s c n))) 1 (fun _ _ => rfl) ?_
      refine q_RT_rsT (g2 := (9, [(0, .ref 64), (1, .int a1), (2, .ref 236)], [], (q_kX (q_sL s 172 (vp_updL (s.2.2 172) 0 (((s.1 28) (a1.toNatClampNeg)).toInt64))) c n))) rfl q_wX172 rfl ?_
      refine q_RT_seg (g2 := (16, [(0, .ref 64), (1, .int a1), (2, .ref 236)], [.int 0], (q_kX (q_sL s 172 (vp_updL (s.2.2 172) 0 (((s.1 28) (a1.toNatClampNeg)).toInt64))) c n))) 2 (fun _ _ => rfl) ?_
      exact q_RT_ret rfl rfl rfl
    | false =>
      refine q_RT_cF ?_
      refine q_RT_callH (E := "java/lang/IndexOutOfBoundsException") (tg := 13) (i := 3) (h2 := (q_kX s (c + 1) (n + 6))) rfl rfl ?_ rfl ?_
      · refine q_Ca_of (Nat.le_of_ble_eq_true rfl) ?_
        refine q_Ru_seg (g2 := (2, [(0, .ref 64), (1, .int a1)], [.int 3, .int a1], (q_kX s c n))) 2 (fun _ _ => rfl) ?_
        refine q_Ru_callX (E := "java/lang/IndexOutOfBoundsException") (h2 := (q_kX s (c + 1) (n + 6))) rfl rfl ?_
        refine q_Ca_of (Nat.le_of_ble_eq_true rfl) ?_
        refine q_Ru_seg (g2 := (1, [(0, .int a1), (1, .int 3)], [.int a1], (q_kX s c n))) 1 (fun _ _ => rfl) ?_
        refine q_Ru_rsF (g2 := (4, [(0, .int a1), (1, .int 3)], [], (q_kX s c n))) rfl rfl h1 ?_
        refine q_Ru_seg (g2 := (6, [(0, .int a1), (1, .int 3)], [.int 3, .int a1], (q_kX s c n))) 2 (fun _ _ => rfl) ?_
        refine q_Ru_rsF (g2 := (9, [(0, .int a1), (1, .int 3)], [], (q_kX s c n))) rfl rfl h2 ?_
        exact q_Ru_thr rfl rfl
      show q_RT _ _ _ (13, [(0, .ref 64), (1, .int a1), (2, .ref 236)], [], (q_kX s (c + 1) (n + 6))) _ _
      refine q_RT_seg (g2 := (14, [(0, .ref 64), (1, .int a1), (2, .ref 236)], [.int 1], (q_kX s (c + 1) (n + 6)))) 1 (fun _ _ => rfl) ?_
      exact q_RT_ret rfl rfl rfl
def dz_X18_64_f_236 (s : q_S) (a1 : Int32) (a2 : Int32) : Option (q_S × Int32 × Nat) :=
  cond (decide (a1 < 0)) (some (s, 1, 1)) (cond (decide (a1 < 4)) (cond (decide (a2 < 0)) (some (s, 1, 1)) (cond (decide (a2 < 4)) (q_let (dz_X184_98 s 9 a1 a2 0) fun r2 => (dz_N79_64 (q_vw 32 1 73 r2) 9 a1 a2 0).bind fun r3 => cond (decide (r3.2 = 1)) (some ((q_sL (q_pt 32 3 1 73 r2 r3.1) 172 (vp_updL ((q_pt 32 3 1 73 r2 r3.1).2.2 172) 0 1)), 0, 0)) (some ((q_sL (q_pt 32 3 1 73 r2 r3.1) 172 (vp_updL ((q_pt 32 3 1 73 r2 r3.1).2.2 172) 0 0)), 0, 0))) (some (s, 1, 1)))) (some (s, 1, 1)))
set_option maxHeartbeats 4000000 in
theorem dzt_X18_64_f_236 (z L : Nat) (xs : Nat → Int32) (s : q_S) (c n : Nat) (a1 : Int32) (a2 : Int32) (x : q_S × Int32 × Nat) (h : dz_X18_64_f_236 s a1 a2 = some x) : q_Ca (q_TBs z L xs) 10 18 [.ref 64, .int a1, .int a2, .int 0, .ref 236] (q_kX s c n) ((q_oEX c n) x) := by
  refine q_CaP_of (φ := (q_oEX c n)) (Nat.le_of_ble_eq_true rfl) ?_ h
  clear h
  unfold dz_X18_64_f_236
  refine q_RP_seg (g2 := (7, [(0, .ref 64), (1, .int a1), (2, .int a2), (3, .int 0), (4, .ref 236)], [.int 0, .int a2, .int a1, .ref 64, .int 0, .ref 236], (q_kX s c n))) 6 (fun _ _ => rfl) ?_
  cases h5 : decide (a1 < 0) with
  | true =>
    refine q_RP_cT ?_
    refine q_RP_callH (E := "java/lang/IndexOutOfBoundsException") (tg := 24) (i := 5) (h2 := (q_kX s (c + 1) (n + 6))) rfl rfl ?_ rfl ?_
    · refine q_Ca_of (Nat.le_of_ble_eq_true rfl) ?_
      refine q_Ru_seg (g2 := (2, [(0, .ref 64), (1, .int a1), (2, .int a2), (3, .int 0)], [.int 4, .int a1], (q_kX s c n))) 2 (fun _ _ => rfl) ?_
      refine q_Ru_callX (E := "java/lang/IndexOutOfBoundsException") (h2 := (q_kX s (c + 1) (n + 6))) rfl rfl ?_
      refine q_Ca_of (Nat.le_of_ble_eq_true rfl) ?_
      refine q_Ru_seg (g2 := (1, [(0, .int a1), (1, .int 4)], [.int a1], (q_kX s c n))) 1 (fun _ _ => rfl) ?_
      refine q_Ru_rsT (g2 := (9, [(0, .int a1), (1, .int 4)], [], (q_kX s c n))) rfl rfl h5 ?_
      exact q_Ru_thr rfl rfl
    show q_RP _ _ _ (24, [(0, .ref 64), (1, .int a1), (2, .int a2), (3, .int 0), (4, .ref 236)], [], (q_kX s (c + 1) (n + 6))) _ _
    refine q_RP_seg (g2 := (25, [(0, .ref 64), (1, .int a1), (2, .int a2), (3, .int 0), (4, .ref 236)], [.int 1], (q_kX s (c + 1) (n + 6)))) 1 (fun _ _ => rfl) ?_
    exact q_RP_ret rfl rfl rfl
  | false =>
    refine q_RP_cF ?_
    cases h6 : decide (a1 < 4) with
    | true =>
      refine q_RP_cT ?_
      cases h7 : decide (a2 < 0) with
      | true =>
        refine q_RP_cT ?_
        refine q_RP_callH (E := "java/lang/IndexOutOfBoundsException") (tg := 24) (i := 5) (h2 := (q_kX s (c + 1) (n + 6))) rfl rfl ?_ rfl ?_
        · refine q_Ca_of (Nat.le_of_ble_eq_true rfl) ?_
          refine q_Ru_seg (g2 := (2, [(0, .ref 64), (1, .int a1), (2, .int a2), (3, .int 0)], [.int 4, .int a1], (q_kX s c n))) 2 (fun _ _ => rfl) ?_
          refine q_Ru_call (v := none) (h2 := (q_kX s c n)) rfl rfl ?_ ?_
          · refine q_Ca_of (Nat.le_of_ble_eq_true rfl) ?_
            refine q_Ru_seg (g2 := (1, [(0, .int a1), (1, .int 4)], [.int a1], (q_kX s c n))) 1 (fun _ _ => rfl) ?_
            refine q_Ru_rsF (g2 := (4, [(0, .int a1), (1, .int 4)], [], (q_kX s c n))) rfl rfl h5 ?_
            refine q_Ru_seg (g2 := (6, [(0, .int a1), (1, .int 4)], [.int 4, .int a1], (q_kX s c n))) 2 (fun _ _ => rfl) ?_
            refine q_Ru_rsT (g2 := (19, [(0, .int a1), (1, .int 4)], [], (q_kX s c n))) rfl rfl h6 ?_
            exact q_Ru_ret rfl rfl
          show q_Ru _ _ _ (5, [(0, .ref 64), (1, .int a1), (2, .int a2), (3, .int 0)], [], (q_kX s c n)) _
          refine q_Ru_seg (g2 := (7, [(0, .ref 64), (1, .int a1), (2, .int a2), (3, .int 0)], [.int 4, .int a2], (q_kX s c n))) 2 (fun _ _ => rfl) ?_
          refine q_Ru_callX (E := "java/lang/IndexOutOfBoundsException") (h2 := (q_kX s (c + 1) (n + 6))) rfl rfl ?_
          refine q_Ca_of (Nat.le_of_ble_eq_true rfl) ?_
          refine q_Ru_seg (g2 := (1, [(0, .int a2), (1, .int 4)], [.int a2], (q_kX s c n))) 1 (fun _ _ => rfl) ?_
          refine q_Ru_rsT (g2 := (9, [(0, .int a2), (1, .int 4)], [], (q_kX s c n))) rfl rfl h7 ?_
          exact q_Ru_thr rfl rfl
        show q_RP _ _ _ (24, [(0, .ref 64), (1, .int a1), (2, .int a2), (3, .int 0), (4, .ref 236)], [], (q_kX s (c + 1) (n + 6))) _ _
        refine q_RP_seg (g2 := (25, [(0, .ref 64), (1, .int a1), (2, .int a2), (3, .int 0), (4, .ref 236)], [.int 1], (q_kX s (c + 1) (n + 6)))) 1 (fun _ _ => rfl) ?_
        exact q_RP_ret rfl rfl rfl
      | false =>
        refine q_RP_cF ?_
        cases h8 : decide (a2 < 4) with
        | true =>
          refine q_RP_cT ?_
          generalize er2 : dz_X184_98 s 9 a1 a2 0 = r2
          refine q_RP_let ?_
          refine q_RP_bd fun r3 er3 => ?_
          cases h9 : decide (r3.2 = 1) with
          | true =>
            refine q_RP_cT ?_
            refine q_RP_call (v := (some (.int 1))) (h2 := (q_kX (q_pt 32 3 1 73 r2 r3.1) c n)) rfl rfl ?_ ?_
            · refine q_Ca_of (Nat.le_of_ble_eq_true rfl) ?_
              refine q_Ru_seg (g2 := (2, [(0, .ref 64), (1, .int a1), (2, .int a2), (3, .int 0)], [.int 4, .int a1], (q_kX s c n))) 2 (fun _ _ => rfl) ?_
              refine q_Ru_call (v := none) (h2 := (q_kX s c n)) rfl rfl ?_ ?_
              · refine q_Ca_of (Nat.le_of_ble_eq_true rfl) ?_
                refine q_Ru_seg (g2 := (1, [(0, .int a1), (1, .int 4)], [.int a1], (q_kX s c n))) 1 (fun _ _ => rfl) ?_
                refine q_Ru_rsF (g2 := (4, [(0, .int a1), (1, .int 4)], [], (q_kX s c n))) rfl rfl h5 ?_
                refine q_Ru_seg (g2 := (6, [(0, .int a1), (1, .int 4)], [.int 4, .int a1], (q_kX s c n))) 2 (fun _ _ => rfl) ?_
                refine q_Ru_rsT (g2 := (19, [(0, .int a1), (1, .int 4)], [], (q_kX s c n))) rfl rfl h6 ?_
                exact q_Ru_ret rfl rfl
              show q_Ru _ _ _ (5, [(0, .ref 64), (1, .int a1), (2, .int a2), (3, .int 0)], [], (q_kX s c n)) _
              refine q_Ru_seg (g2 := (7, [(0, .ref 64), (1, .int a1), (2, .int a2), (3, .int 0)], [.int 4, .int a2], (q_kX s c n))) 2 (fun _ _ => rfl) ?_
              refine q_Ru_call (v := none) (h2 := (q_kX s c n)) rfl rfl ?_ ?_
              · refine q_Ca_of (Nat.le_of_ble_eq_true rfl) ?_
                refine q_Ru_seg (g2 := (1, [(0, .int a2), (1, .int 4)], [.int a2], (q_kX s c n))) 1 (fun _ _ => rfl) ?_
                refine q_Ru_rsF (g2 := (4, [(0, .int a2), (1, .int 4)], [], (q_kX s c n))) rfl rfl h7 ?_
                refine q_Ru_seg (g2 := (6, [(0, .int a2), (1, .int 4)], [.int 4, .int a2], (q_kX s c n))) 2 (fun _ _ => rfl) ?_
                refine q_Ru_rsT (g2 := (19, [(0, .int a2), (1, .int 4)], [], (q_kX s c n))) rfl rfl h8 ?_
                exact q_Ru_ret rfl rfl
              show q_Ru _ _ _ (10, [(0, .ref 64), (1, .int a1), (2, .int a2), (3, .int 0)], [], (q_kX s c n)) _
              refine q_Ru_seg (g2 := (31, [(4, .int 0), (0, .ref 64), (1, .int a1), (2, .int a2), (3, .int 0)], [.int 0, .int a2, .int a1, .int 9, .ref 98], (q_kX s c n))) 10 (fun _ _ => rfl) ?_
              refine q_Ru_call (v := none) (h2 := (q_kX r2 c n)) rfl rfl ?_ ?_
              · exact (q_cE (φ := (q_oSX c n)) er2 (dzt_X184_98 z L xs s c n 9 a1 a2 0)).le (Nat.le_of_ble_eq_true rfl)
              show q_Ru _ _ _ (34, [(4, .int 0), (0, .ref 64), (1, .int a1), (2, .int a2), (3, .int 0)], [], (q_kX r2 c n)) _
              refine q_Ru_seg (g2 := (44, [(4, .int 0), (0, .ref 64), (1, .int a1), (2, .int a2), (3, .int 0)], [.int 0, .int a2, .int a1, .int 9, .ref 65], (q_kX r2 c n))) 6 (fun _ _ => rfl) ?_
              refine q_Ru_call (v := (some (.int r3.2))) (h2 := (q_kX (q_pt 32 3 1 73 r2 r3.1) c n)) rfl rfl ?_ ?_
              · exact (q_emNX_1 rfl (fun _ => rfl) ((dzt_N79_64 (q_vw 32 1 73 r2) c n 9 a1 a2 0 r3 er3).tb q_TB0_le)).le (Nat.le_of_ble_eq_true rfl)
              show q_Ru _ _ _ (47, [(4, .int 0), (0, .ref 64), (1, .int a1), (2, .int a2), (3, .int 0)], [.int r3.2], (q_kX (q_pt 32 3 1 73 r2 r3.1) c n)) _
              refine q_Ru_seg (g2 := (48, [(4, .int 0), (0, .ref 64), (1, .int a1), (2, .int a2), (3, .int 0)], [.int 1, .int r3.2], (q_kX (q_pt 32 3 1 73 r2 r3.1) c n))) 1 (fun _ _ => rfl) ?_
              refine q_Ru_rsF (g2 := (51, [(4, .int 0), (0, .ref 64), (1, .int a1), (2, .int a2), (3, .int 0)], [], (q_kX (q_pt 32 3 1 73 r2 r3.1) c n))) rfl rfl (q_d_neT h9) ?_
              refine q_Ru_seg (g2 := (56, [(4, .int 0), (0, .ref 64), (1, .int a1), (2, .int a2), (3, .int 0)], [.int 1], (q_kX (q_pt 32 3 1 73 r2 r3.1) c n))) 2 (fun _ _ => rfl) ?_
              exact q_Ru_ret rfl rfl
            show q_RP _ _ _ (10, [(0, .ref 64), (1, .int a1), (2, .int a2), (3, .int 0), (4, .ref 236)], [.int 1, .int 0, .ref 236], (q_kX (q_pt 32 3 1 73 r2 r3.1) c n)) _ _
            refine q_RP_seg (g2 := (18, [(0, .ref 64), (1, .int a1), (2, .int a2), (3, .int 0), (4, .ref 236)], [.long 1, .int 0, .ref 236], (q_kX (q_pt 32 3 1 73 r2 r3.1) c n))) 3 (fun _ _ => rfl) ?_
            refine q_RP_rsT (g2 := (19, [(0, .ref 64), (1, .int a1), (2, .int a2), (3, .int 0), (4, .ref 236)], [], (q_kX (q_sL (q_pt 32 3 1 73 r2 r3.1) 172 (vp_updL ((q_pt 32 3 1 73 r2 r3.1).2.2 172) 0 1)) c n))) rfl q_wX172 rfl ?_
            refine q_RP_seg (g2 := (27, [(0, .ref 64), (1, .int a1), (2, .int a2), (3, .int 0), (4, .ref 236)], [.int 0], (q_kX (q_sL (q_pt 32 3 1 73 r2 r3.1) 172 (vp_updL ((q_pt 32 3 1 73 r2 r3.1).2.2 172) 0 1)) c n))) 2 (fun _ _ => rfl) ?_
            exact q_RP_ret rfl rfl rfl
          | false =>
            refine q_RP_cF ?_
            refine q_RP_call (v := (some (.int 0))) (h2 := (q_kX (q_pt 32 3 1 73 r2 r3.1) c n)) rfl rfl ?_ ?_
            · refine q_Ca_of (Nat.le_of_ble_eq_true rfl) ?_
              refine q_Ru_seg (g2 := (2, [(0, .ref 64), (1, .int a1), (2, .int a2), (3, .int 0)], [.int 4, .int a1], (q_kX s c n))) 2 (fun _ _ => rfl) ?_
              refine q_Ru_call (v := none) (h2 := (q_kX s c n)) rfl rfl ?_ ?_
              · refine q_Ca_of (Nat.le_of_ble_eq_true rfl) ?_
                refine q_Ru_seg (g2 := (1, [(0, .int a1), (1, .int 4)], [.int a1], (q_kX s c n))) 1 (fun _ _ => rfl) ?_
                refine q_Ru_rsF (g2 := (4, [(0, .int a1), (1, .int 4)], [], (q_kX s c n))) rfl rfl h5 ?_
                refine q_Ru_seg (g2 := (6, [(0, .int a1), (1, .int 4)], [.int 4, .int a1], (q_kX s c n))) 2 (fun _ _ => rfl) ?_
                refine q_Ru_rsT (g2 := (19, [(0, .int a1), (1, .int 4)], [], (q_kX s c n))) rfl rfl h6 ?_
                exact q_Ru_ret rfl rfl
              show q_Ru _ _ _ (5, [(0, .ref 64), (1, .int a1), (2, .int a2), (3, .int 0)], [], (q_kX s c n)) _
              refine q_Ru_seg (g2 := (7, [(0, .ref 64), (1, .int a1), (2, .int a2), (3, .int 0)], [.int 4, .int a2], (q_kX s c n))) 2 (fun _ _ => rfl) ?_
              refine q_Ru_call (v := none) (h2 := (q_kX s c n)) rfl rfl ?_ ?_
              · refine q_Ca_of (Nat.le_of_ble_eq_true rfl) ?_
                refine q_Ru_seg (g2 := (1, [(0, .int a2), (1, .int 4)], [.int a2], (q_kX s c n))) 1 (fun _ _ => rfl) ?_
                refine q_Ru_rsF (g2 := (4, [(0, .int a2), (1, .int 4)], [], (q_kX s c n))) rfl rfl h7 ?_
                refine q_Ru_seg (g2 := (6, [(0, .int a2), (1, .int 4)], [.int 4, .int a2], (q_kX s c n))) 2 (fun _ _ => rfl) ?_
                refine q_Ru_rsT (g2 := (19, [(0, .int a2), (1, .int 4)], [], (q_kX s c n))) rfl rfl h8 ?_
                exact q_Ru_ret rfl rfl
              show q_Ru _ _ _ (10, [(0, .ref 64), (1, .int a1), (2, .int a2), (3, .int 0)], [], (q_kX s c n)) _
              refine q_Ru_seg (g2 := (31, [(4, .int 0), (0, .ref 64), (1, .int a1), (2, .int a2), (3, .int 0)], [.int 0, .int a2, .int a1, .int 9, .ref 98], (q_kX s c n))) 10 (fun _ _ => rfl) ?_
              refine q_Ru_call (v := none) (h2 := (q_kX r2 c n)) rfl rfl ?_ ?_
              · exact (q_cE (φ := (q_oSX c n)) er2 (dzt_X184_98 z L xs s c n 9 a1 a2 0)).le (Nat.le_of_ble_eq_true rfl)
              show q_Ru _ _ _ (34, [(4, .int 0), (0, .ref 64), (1, .int a1), (2, .int a2), (3, .int 0)], [], (q_kX r2 c n)) _
              refine q_Ru_seg (g2 := (44, [(4, .int 0), (0, .ref 64), (1, .int a1), (2, .int a2), (3, .int 0)], [.int 0, .int a2, .int a1, .int 9, .ref 65], (q_kX r2 c n))) 6 (fun _ _ => rfl) ?_
              refine q_Ru_call (v := (some (.int r3.2))) (h2 := (q_kX (q_pt 32 3 1 73 r2 r3.1) c n)) rfl rfl ?_ ?_
              · exact (q_emNX_1 rfl (fun _ => rfl) ((dzt_N79_64 (q_vw 32 1 73 r2) c n 9 a1 a2 0 r3 er3).tb q_TB0_le)).le (Nat.le_of_ble_eq_true rfl)
              show q_Ru _ _ _ (47, [(4, .int 0), (0, .ref 64), (1, .int a1), (2, .int a2), (3, .int 0)], [.int r3.2], (q_kX (q_pt 32 3 1 73 r2 r3.1) c n)) _
              refine q_Ru_seg (g2 := (48, [(4, .int 0), (0, .ref 64), (1, .int a1), (2, .int a2), (3, .int 0)], [.int 1, .int r3.2], (q_kX (q_pt 32 3 1 73 r2 r3.1) c n))) 1 (fun _ _ => rfl) ?_
              refine q_Ru_rsT (g2 := (55, [(4, .int 0), (0, .ref 64), (1, .int a1), (2, .int a2), (3, .int 0)], [], (q_kX (q_pt 32 3 1 73 r2 r3.1) c n))) rfl rfl (q_d_neF h9) ?_
              refine q_Ru_seg (g2 := (56, [(4, .int 0), (0, .ref 64), (1, .int a1), (2, .int a2), (3, .int 0)], [.int 0], (q_kX (q_pt 32 3 1 73 r2 r3.1) c n))) 1 (fun _ _ => rfl) ?_
              exact q_Ru_ret rfl rfl
            show q_RP _ _ _ (10, [(0, .ref 64), (1, .int a1), (2, .int a2), (3, .int 0), (4, .ref 236)], [.int 0, .int 0, .ref 236], (q_kX (q_pt 32 3 1 73 r2 r3.1) c n)) _ _
            refine q_RP_seg (g2 := (18, [(0, .ref 64), (1, .int a1), (2, .int a2), (3, .int 0), (4, .ref 236)], [.long 0, .int 0, .ref 236], (q_kX (q_pt 32 3 1 73 r2 r3.1) c n))) 2 (fun _ _ => rfl) ?_
            refine q_RP_rsT (g2 := (19, [(0, .ref 64), (1, .int a1), (2, .int a2), (3, .int 0), (4, .ref 236)], [], (q_kX (q_sL (q_pt 32 3 1 73 r2 r3.1) 172 (vp_updL ((q_pt 32 3 1 73 r2 r3.1).2.2 172) 0 0)) c n))) rfl q_wX172 rfl ?_
            refine q_RP_seg (g2 := (27, [(0, .ref 64), (1, .int a1), (2, .int a2), (3, .int 0), (4, .ref 236)], [.int 0], (q_kX (q_sL (q_pt 32 3 1 73 r2 r3.1) 172 (vp_updL ((q_pt 32 3 1 73 r2 r3.1).2.2 172) 0 0)) c n))) 2 (fun _ _ => rfl) ?_
            exact q_RP_ret rfl rfl rfl
        | false =>
          refine q_RP_cF ?_
          refine q_RP_callH (E := "java/lang/IndexOutOfBoundsException") (tg := 24) (i := 5) (h2 := (q_kX s (c + 1) (n + 6))) rfl rfl ?_ rfl ?_
          · refine q_Ca_of (Nat.le_of_ble_eq_true rfl) ?_
            refine q_Ru_seg (g2 := (2, [(0, .ref 64), (1, .int a1), (2, .int a2), (3, .int 0)], [.int 4, .int a1], (q_kX s c n))) 2 (fun _ _ => rfl) ?_
            refine q_Ru_call (v := none) (h2 := (q_kX s c n)) rfl rfl ?_ ?_
            · refine q_Ca_of (Nat.le_of_ble_eq_true rfl) ?_
              refine q_Ru_seg (g2 := (1, [(0, .int a1), (1, .int 4)], [.int a1], (q_kX s c n))) 1 (fun _ _ => rfl) ?_
              refine q_Ru_rsF (g2 := (4, [(0, .int a1), (1, .int 4)], [], (q_kX s c n))) rfl rfl h5 ?_
              refine q_Ru_seg (g2 := (6, [(0, .int a1), (1, .int 4)], [.int 4, .int a1], (q_kX s c n))) 2 (fun _ _ => rfl) ?_
              refine q_Ru_rsT (g2 := (19, [(0, .int a1), (1, .int 4)], [], (q_kX s c n))) rfl rfl h6 ?_
              exact q_Ru_ret rfl rfl
            show q_Ru _ _ _ (5, [(0, .ref 64), (1, .int a1), (2, .int a2), (3, .int 0)], [], (q_kX s c n)) _
            refine q_Ru_seg (g2 := (7, [(0, .ref 64), (1, .int a1), (2, .int a2), (3, .int 0)], [.int 4, .int a2], (q_kX s c n))) 2 (fun _ _ => rfl) ?_
            refine q_Ru_callX (E := "java/lang/IndexOutOfBoundsException") (h2 := (q_kX s (c + 1) (n + 6))) rfl rfl ?_
            refine q_Ca_of (Nat.le_of_ble_eq_true rfl) ?_
            refine q_Ru_seg (g2 := (1, [(0, .int a2), (1, .int 4)], [.int a2], (q_kX s c n))) 1 (fun _ _ => rfl) ?_
            refine q_Ru_rsF (g2 := (4, [(0, .int a2), (1, .int 4)], [], (q_kX s c n))) rfl rfl h7 ?_
            refine q_Ru_seg (g2 := (6, [(0, .int a2), (1, .int 4)], [.int 4, .int a2], (q_kX s c n))) 2 (fun _ _ => rfl) ?_
            refine q_Ru_rsF (g2 := (9, [(0, .int a2), (1, .int 4)], [], (q_kX s c n))) rfl rfl h8 ?_
            exact q_Ru_thr rfl rfl
          show q_RP _ _ _ (24, [(0, .ref 64), (1, .int a1), (2, .int a2), (3, .int 0), (4, .ref 236)], [], (q_kX s (c + 1) (n + 6))) _ _
          refine q_RP_seg (g2 := (25, [(0, .ref 64), (1, .int a1), (2, .int a2), (3, .int 0), (4, .ref 236)], [.int 1], (q_kX s (c + 1) (n + 6)))) 1 (fun _ _ => rfl) ?_
          exact q_RP_ret rfl rfl rfl
    | false =>
      refine q_RP_cF ?_
      refine q_RP_callH (E := "java/lang/IndexOutOfBoundsException") (tg := 24) (i := 5) (h2 := (q_kX s (c + 1) (n + 6))) rfl rfl ?_ rfl ?_
      · refine q_Ca_of (Nat.le_of_ble_eq_true rfl) ?_
        refine q_Ru_seg (g2 := (2, [(0, .ref 64), (1, .int a1), (2, .int a2), (3, .int 0)], [.int 4, .int a1], (q_kX s c n))) 2 (fun _ _ => rfl) ?_
        refine q_Ru_callX (E := "java/lang/IndexOutOfBoundsException") (h2 := (q_kX s (c + 1) (n + 6))) rfl rfl ?_
        refine q_Ca_of (Nat.le_of_ble_eq_true rfl) ?_
        refine q_Ru_seg (g2 := (1, [(0, .int a1), (1, .int 4)], [.int a1], (q_kX s c n))) 1 (fun _ _ => rfl) ?_
        refine q_Ru_rsF (g2 := (4, [(0, .int a1), (1, .int 4)], [], (q_kX s c n))) rfl rfl h5 ?_
        refine q_Ru_seg (g2 := (6, [(0, .int a1), (1, .int 4)], [.int 4, .int a1], (q_kX s c n))) 2 (fun _ _ => rfl) ?_
        refine q_Ru_rsF (g2 := (9, [(0, .int a1), (1, .int 4)], [], (q_kX s c n))) rfl rfl h6 ?_
        exact q_Ru_thr rfl rfl
      show q_RP _ _ _ (24, [(0, .ref 64), (1, .int a1), (2, .int a2), (3, .int 0), (4, .ref 236)], [], (q_kX s (c + 1) (n + 6))) _ _
      refine q_RP_seg (g2 := (25, [(0, .ref 64), (1, .int a1), (2, .int a2), (3, .int 0), (4, .ref 236)], [.int 1], (q_kX s (c + 1) (n + 6)))) 1 (fun _ _ => rfl) ?_
      exact q_RP_ret rfl rfl rfl
end
section
-- 49.xc
def dz_X18_64_t_236 (s : q_S) (a1 : Int32) (a2 : Int32) : Option (q_S × Int32 × Nat) :=
  cond (decide (a1 < 0)) (some (s, 1, 1)) (cond (decide (a1 < 4)) (cond (decide (a2 < 0)) (some (s, 1, 1)) (cond (decide (a2 < 4)) (q_let (dz_X184_98 s 9 a1 a2 1) fun r2 => (dz_N79_64 (q_vw 32 1 73 r2) 9 a1 a2 1).bind fun r3 => cond (decide (r3.2 = 1)) (some ((q_sL (q_pt 32 3 1 73 r2 r3.1) 172 (vp_updL ((q_pt 32 3 1 73 r2 r3.1).2.2 172) 0 1)), 0, 0)) (some ((q_sL (q_pt 32 3 1 73 r2 r3.1) 172 (vp_updL ((q_pt 32 3 1 73 r2 r3.1).2.2 172) 0 0)), 0, 0))) (some (s, 1, 1)))) (some (s, 1, 1)))
set_option maxHeartbeats 4000000 in
theorem dzt_X18_64_t_236 (z L : Nat) (xs : Nat → Int32) (s : q_S) (c n : Nat) (a1 : Int32) (a2 : Int32) (x : q_S × Int32 × Nat) (h : dz_X18_64_t_236 s a1 a2 = some x) : q_Ca (q_TBs z L xs) 10 18 [.ref 64, .int a1, .int a2, .int 1, .ref 236] (q_kX s c n) ((q_oEX c n) x) := by
  refine q_CaP_of (φ := (q_oEX c n)) (Nat.le_of_ble_eq_true rfl) ?_ h
  clear h
  unfold dz_X18_64_t_236
  refine q_RP_seg (g2 := (7, [(0, .ref 64), (1, .int a1), (2, .int a2), (3, .int 1), (4, .ref 236)], [.int 1, .int a2, .int a1, .ref 64, .int 0, .ref 236], (q_kX s c n))) 6 (fun _ _ => rfl) ?_
  cases h5 : decide (a1 < 0) with
  | true =>
    refine q_RP_cT ?_
    refine q_RP_callH (E := "java/lang/IndexOutOfBoundsException") (tg := 24) (i := 5) (h2 := (q_kX s (c + 1) (n + 6))) rfl rfl ?_ rfl ?_
    · refine q_Ca_of (Nat.le_of_ble_eq_true rfl) ?_
      refine q_Ru_seg (g2 := (2, [(0, .ref 64), (1, .int a1), (2, .int a2), (3, .int 1)], [.int 4, .int a1], (q_kX s c n))) 2 (fun _ _ => rfl) ?_
      refine q_Ru_callX (E := "java/lang/IndexOutOfBoundsException") (h2 := (q_kX s (c + 1) (n + 6))) rfl rfl ?_
      refine q_Ca_of (Nat.le_of_ble_eq_true rfl) ?_
      refine q_Ru_seg (g2 := (1, [(0, .int a1), (1, .int 4)], [.int a1], (q_kX s c n))) 1 (fun _ _ => rfl) ?_
      refine q_Ru_rsT (g2 := (9, [(0, .int a1), (1, .int 4)], [], (q_kX s c n))) rfl rfl h5 ?_
      exact q_Ru_thr rfl rfl
    show q_RP _ _ _ (24, [(0, .ref 64), (1, .int a1), (2, .int a2), (3, .int 1), (4, .ref 236)], [], (q_kX s (c + 1) (n + 6))) _ _
    refine q_RP_seg (g2 := (25, [(0, .ref 64), (1, .int a1), (2, .int a2), (3, .int 1), (4, .ref 236)], [.int 1], (q_kX s (c + 1) (n + 6)))) 1 (fun _ _ => rfl) ?_
    exact q_RP_ret rfl rfl rfl
  | false =>
    refine q_RP_cF ?_
    cases h6 : decide (a1 < 4) with
    | true =>
      refine q_RP_cT ?_
      cases h7 : decide (a2 < 0) with
      | true =>
        refine q_RP_cT ?_
        refine q_RP_callH (E := "java/lang/IndexOutOfBoundsException") (tg := 24) (i := 5) (h2 := (q_kX s (c + 1) (n + 6))) rfl rfl ?_ rfl ?_
        · refine q_Ca_of (Nat.le_of_ble_eq_true rfl) ?_
          refine q_Ru_seg (g2 := (2, [(0, .ref 64), (1, .int a1), (2, .int a2), (3, .int 1)], [.int 4, .int a1], (q_kX s c n))) 2 (fun _ _ => rfl) ?_
          refine q_Ru_call (v := none) (h2 := (q_kX s c n)) rfl rfl ?_ ?_
          · refine q_Ca_of (Nat.le_of_ble_eq_true rfl) ?_
            refine q_Ru_seg (g2 := (1, [(0, .int a1), (1, .int 4)], [.int a1], (q_kX s c n))) 1 (fun _ _ => rfl) ?_
            refine q_Ru_rsF (g2 := (4, [(0, .int a1), (1, .int 4)], [], (q_kX s c n))) rfl rfl h5 ?_
            refine q_Ru_seg (g2 := (6, [(0, .int a1), (1, .int 4)], [.int 4, .int a1], (q_kX s c n))) 2 (fun _ _ => rfl) ?_
            refine q_Ru_rsT (g2 := (19, [(0, .int a1), (1, .int 4)], [], (q_kX s c n))) rfl rfl h6 ?_
            exact q_Ru_ret rfl rfl
          show q_Ru _ _ _ (5, [(0, .ref 64), (1, .int a1), (2, .int a2), (3, .int 1)], [], (q_kX s c n)) _
          refine q_Ru_seg (g2 := (7, [(0, .ref 64), (1, .int a1), (2, .int a2), (3, .int 1)], [.int 4, .int a2], (q_kX s c n))) 2 (fun _ _ => rfl) ?_
          refine q_Ru_callX (E := "java/lang/IndexOutOfBoundsException") (h2 := (q_kX s (c + 1) (n + 6))) rfl rfl ?_
          refine q_Ca_of (Nat.le_of_ble_eq_true rfl) ?_
          refine q_Ru_seg (g2 := (1, [(0, .int a2), (1, .int 4)], [.int a2], (q_kX s c n))) 1 (fun _ _ => rfl) ?_
          refine q_Ru_rsT (g2 := (9, [(0, .int a2), (1, .int 4)], [], (q_kX s c n))) rfl rfl h7 ?_
          exact q_Ru_thr rfl rfl
        show q_RP _ _ _ (24, [(0, .ref 64), (1, .int a1), (2, .int a2), (3, .int 1), (4, .ref 236)], [], (q_kX s (c + 1) (n + 6))) _ _
        refine q_RP_seg (g2 := (25, [(0, .ref 64), (1, .int a1), (2, .int a2), (3, .int 1), (4, .ref 236)], [.int 1], (q_kX s (c + 1) (n + 6)))) 1 (fun _ _ => rfl) ?_
        exact q_RP_ret rfl rfl rfl
      | false =>
        refine q_RP_cF ?_
        cases h8 : decide (a2 < 4) with
        | true =>
          refine q_RP_cT ?_
          generalize er2 : dz_X184_98 s 9 a1 a2 1 = r2
          refine q_RP_let ?_
          refine q_RP_bd fun r3 er3 => ?_
          cases h9 : decide (r3.2 = 1) with
          | true =>
            refine q_RP_cT ?_
            refine q_RP_call (v := (some (.int 1))) (h2 := (q_kX (q_pt 32 3 1 73 r2 r3.1) c n)) rfl rfl ?_ ?_
            · refine q_Ca_of (Nat.le_of_ble_eq_true rfl) ?_
              refine q_Ru_seg (g2 := (2, [(0, .ref 64), (1, .int a1), (2, .int a2), (3, .int 1)], [.int 4, .int a1], (q_kX s c n))) 2 (fun _ _ => rfl) ?_
              refine q_Ru_call (v := none) (h2 := (q_kX s c n)) rfl rfl ?_ ?_
              · refine q_Ca_of (Nat.le_of_ble_eq_true rfl) ?_
                refine q_Ru_seg (g2 := (1, [(0, .int a1), (1, .int 4)], [.int a1], (q_kX s c n))) 1 (fun _ _ => rfl) ?_
                refine q_Ru_rsF (g2 := (4, [(0, .int a1), (1, .int 4)], [], (q_kX s c n))) rfl rfl h5 ?_
                refine q_Ru_seg (g2 := (6, [(0, .int a1), (1, .int 4)], [.int 4, .int a1], (q_kX s c n))) 2 (fun _ _ => rfl) ?_
                refine q_Ru_rsT (g2 := (19, [(0, .int a1), (1, .int 4)], [], (q_kX s c n))) rfl rfl h6 ?_
                exact q_Ru_ret rfl rfl
              show q_Ru _ _ _ (5, [(0, .ref 64), (1, .int a1), (2, .int a2), (3, .int 1)], [], (q_kX s c n)) _
              refine q_Ru_seg (g2 := (7, [(0, .ref 64), (1, .int a1), (2, .int a2), (3, .int 1)], [.int 4, .int a2], (q_kX s c n))) 2 (fun _ _ => rfl) ?_
              refine q_Ru_call (v := none) (h2 := (q_kX s c n)) rfl rfl ?_ ?_
              · refine q_Ca_of (Nat.le_of_ble_eq_true rfl) ?_
                refine q_Ru_seg (g2 := (1, [(0, .int a2), (1, .int 4)], [.int a2], (q_kX s c n))) 1 (fun _ _ => rfl) ?_
                refine q_Ru_rsF (g2 := (4, [(0, .int a2), (1, .int 4)], [], (q_kX s c n))) rfl rfl h7 ?_
                refine q_Ru_seg (g2 := (6, [(0, .int a2), (1, .int 4)], [.int 4, .int a2], (q_kX s c n))) 2 (fun _ _ => rfl) ?_
                refine q_Ru_rsT (g2 := (19, [(0, .int a2), (1, .int 4)], [], (q_kX s c n))) rfl rfl h8 ?_
                exact q_Ru_ret rfl rfl
              show q_Ru _ _ _ (10, [(0, .ref 64), (1, .int a1), (2, .int a2), (3, .int 1)], [], (q_kX s c n)) _
              refine q_Ru_seg (g2 := (31, [(4, .int 1), (0, .ref 64), (1, .int a1), (2, .int a2), (3, .int 1)], [.int 1, .int a2, .int a1, .int 9, .ref 98], (q_kX s c n))) 11 (fun _ _ => rfl) ?_
              refine q_Ru_call (v := none) (h2 := (q_kX r2 c n)) rfl rfl ?_ ?_
              · exact (q_cE (φ := (q_oSX c n)) er2 (dzt_X184_98 z L xs s c n 9 a1 a2 1)).le (Nat.le_of_ble_eq_true rfl)
              show q_Ru _ _ _ (34, [(4, .int 1), (0, .ref 64), (1, .int a1), (2, .int a2), (3, .int 1)], [], (q_kX r2 c n)) _
              refine q_Ru_seg (g2 := (44, [(4, .int 1), (0, .ref 64), (1, .int a1), (2, .int a2), (3, .int 1)], [.int 1, .int a2, .int a1, .int 9, .ref 65], (q_kX r2 c n))) 6 (fun _ _ => rfl) ?_
              refine q_Ru_call (v := (some (.int r3.2))) (h2 := (q_kX (q_pt 32 3 1 73 r2 r3.1) c n)) rfl rfl ?_ ?_
              · exact (q_emNX_1 rfl (fun _ => rfl) ((dzt_N79_64 (q_vw 32 1 73 r2) c n 9 a1 a2 1 r3 er3).tb q_TB0_le)).le (Nat.le_of_ble_eq_true rfl)
              show q_Ru _ _ _ (47, [(4, .int 1), (0, .ref 64), (1, .int a1), (2, .int a2), (3, .int 1)], [.int r3.2], (q_kX (q_pt 32 3 1 73 r2 r3.1) c n)) _
              refine q_Ru_seg (g2 := (48, [(4, .int 1), (0, .ref 64), (1, .int a1), (2, .int a2), (3, .int 1)], [.int 1, .int r3.2], (q_kX (q_pt 32 3 1 73 r2 r3.1) c n))) 1 (fun _ _ => rfl) ?_
              refine q_Ru_rsF (g2 := (51, [(4, .int 1), (0, .ref 64), (1, .int a1), (2, .int a2), (3, .int 1)], [], (q_kX (q_pt 32 3 1 73 r2 r3.1) c n))) rfl rfl (q_d_neT h9) ?_
              refine q_Ru_seg (g2 := (56, [(4, .int 1), (0, .ref 64), (1, .int a1), (2, .int a2), (3, .int 1)], [.int 1], (q_kX (q_pt 32 3 1 73 r2 r3.1) c n))) 2 (fun _ _ => rfl) ?_
              exact q_Ru_ret rfl rfl
            show q_RP _ _ _ (10, [(0, .ref 64), (1, .int a1), (2, .int a2), (3, .int 1), (4, .ref 236)], [.int 1, .int 0, .ref 236], (q_kX (q_pt 32 3 1 73 r2 r3.1) c n)) _ _
            refine q_RP_seg (g2 := (18, [(0, .ref 64), (1, .int a1), (2, .int a2), (3, .int 1), (4, .ref 236)], [.long 1, .int 0, .ref 236], (q_kX (q_pt 32 3 1 73 r2 r3.1) c n))) 3 (fun _ _ => rfl) ?_
            refine q_RP_rsT (g2 := (19, [(0, .ref 64), (1, .int a1), (2, .int a2), (3, .int 1), (4, .ref 236)], [], (q_kX (q_sL (q_pt 32 3 1 73 r2 r3.1) 172 (vp_updL ((q_pt 32 3 1 73 r2 r3.1).2.2 172) 0 1)) c n))) rfl q_wX172 rfl ?_
            refine q_RP_seg (g2 := (27, [(0, .ref 64), (1, .int a1), (2, .int a2), (3, .int 1), (4, .ref 236)], [.int 0], (q_kX (q_sL (q_pt 32 3 1 73 r2 r3.1) 172 (vp_updL ((q_pt 32 3 1 73 r2 r3.1).2.2 172) 0 1)) c n))) 2 (fun _ _ => rfl) ?_
            exact q_RP_ret rfl rfl rfl
          | false =>
            refine q_RP_cF ?_
            refine q_RP_call (v := (some (.int 0))) (h2 := (q_kX (q_pt 32 3 1 73 r2 r3.1) c n)) rfl rfl ?_ ?_
            · refine q_Ca_of (Nat.le_of_ble_eq_true rfl) ?_
              refine q_Ru_seg (g2 := (2, [(0, .ref 64), (1, .int a1), (2, .int a2), (3, .int 1)], [.int 4, .int a1], (q_kX s c n))) 2 (fun _ _ => rfl) ?_
              refine q_Ru_call (v := none) (h2 := (q_kX s c n)) rfl rfl ?_ ?_
              · refine q_Ca_of (Nat.le_of_ble_eq_true rfl) ?_
                refine q_Ru_seg (g2 := (1, [(0, .int a1), (1, .int 4)], [.int a1], (q_kX s c n))) 1 (fun _ _ => rfl) ?_
                refine q_Ru_rsF (g2 := (4, [(0, .int a1), (1, .int 4)], [], (q_kX s c n))) rfl rfl h5 ?_
                refine q_Ru_seg (g2 := (6, [(0, .int a1), (1, .int 4)], [.int 4, .int a1], (q_kX s c n))) 2 (fun _ _ => rfl) ?_
                refine q_Ru_rsT (g2 := (19, [(0, .int a1), (1, .int 4)], [], (q_kX s c n))) rfl rfl h6 ?_
                exact q_Ru_ret rfl rfl
              show q_Ru _ _ _ (5, [(0, .ref 64), (1, .int a1), (2, .int a2), (3, .int 1)], [], (q_kX s c n)) _
              refine q_Ru_seg (g2 := (7, [(0, .ref 64), (1, .int a1), (2, .int a2), (3, .int 1)], [.int 4, .int a2], (q_kX s c n))) 2 (fun _ _ => rfl) ?_
              refine q_Ru_call (v := none) (h2 := (q_kX s c n)) rfl rfl ?_ ?_
              · refine q_Ca_of (Nat.le_of_ble_eq_true rfl) ?_
                refine q_Ru_seg (g2 := (1, [(0, .int a2), (1, .int 4)], [.int a2], (q_kX s c n))) 1 (fun _ _ => rfl) ?_
                refine q_Ru_rsF (g2 := (4, [(0, .int a2), (1, .int 4)], [], (q_kX s c n))) rfl rfl h7 ?_
                refine q_Ru_seg (g2 := (6, [(0, .int a2), (1, .int 4)], [.int 4, .int a2], (q_kX s c n))) 2 (fun _ _ => rfl) ?_
                refine q_Ru_rsT (g2 := (19, [(0, .int a2), (1, .int 4)], [], (q_kX s c n))) rfl rfl h8 ?_
                exact q_Ru_ret rfl rfl
              show q_Ru _ _ _ (10, [(0, .ref 64), (1, .int a1), (2, .int a2), (3, .int 1)], [], (q_kX s c n)) _
              refine q_Ru_seg (g2 := (31, [(4, .int 1), (0, .ref 64), (1, .int a1), (2, .int a2), (3, .int 1)], [.int 1, .int a2, .int a1, .int 9, .ref 98], (q_kX s c n))) 11 (fun _ _ => rfl) ?_
              refine q_Ru_call (v := none) (h2 := (q_kX r2 c n)) rfl rfl ?_ ?_
              · exact (q_cE (φ := (q_oSX c n)) er2 (dzt_X184_98 z L xs s c n 9 a1 a2 1)).le (Nat.le_of_ble_eq_true rfl)
              show q_Ru _ _ _ (34, [(4, .int 1), (0, .ref 64), (1, .int a1), (2, .int a2), (3, .int 1)], [], (q_kX r2 c n)) _
              refine q_Ru_seg (g2 := (44, [(4, .int 1), (0, .ref 64), (1, .int a1), (2, .int a2), (3, .int 1)], [.int 1, .int a2, .int a1, .int 9, .ref 65], (q_kX r2 c n))) 6 (fun _ _ => rfl) ?_
              refine q_Ru_call (v := (some (.int r3.2))) (h2 := (q_kX (q_pt 32 3 1 73 r2 r3.1) c n)) rfl rfl ?_ ?_
              · exact (q_emNX_1 rfl (fun _ => rfl) ((dzt_N79_64 (q_vw 32 1 73 r2) c n 9 a1 a2 1 r3 er3).tb q_TB0_le)).le (Nat.le_of_ble_eq_true rfl)
              show q_Ru _ _ _ (47, [(4, .int 1), (0, .ref 64), (1, .int a1), (2, .int a2), (3, .int 1)], [.int r3.2], (q_kX (q_pt 32 3 1 73 r2 r3.1) c n)) _
              refine q_Ru_seg (g2 := (48, [(4, .int 1), (0, .ref 64), (1, .int a1), (2, .int a2), (3, .int 1)], [.int 1, .int r3.2], (q_kX (q_pt 32 3 1 73 r2 r3.1) c n))) 1 (fun _ _ => rfl) ?_
              refine q_Ru_rsT (g2 := (55, [(4, .int 1), (0, .ref 64), (1, .int a1), (2, .int a2), (3, .int 1)], [], (q_kX (q_pt 32 3 1 73 r2 r3.1) c n))) rfl rfl (q_d_neF h9) ?_
              refine q_Ru_seg (g2 := (56, [(4, .int 1), (0, .ref 64), (1, .int a1), (2, .int a2), (3, .int 1)], [.int 0], (q_kX (q_pt 32 3 1 73 r2 r3.1) c n))) 1 (fun _ _ => rfl) ?_
              exact q_Ru_ret rfl rfl
            show q_RP _ _ _ (10, [(0, .ref 64), (1, .int a1), (2, .int a2), (3, .int 1), (4, .ref 236)], [.int 0, .int 0, .ref 236], (q_kX (q_pt 32 3 1 73 r2 r3.1) c n)) _ _
            refine q_RP_seg (g2 := (18, [(0, .ref 64), (1, .int a1), (2, .int a2), (3, .int 1), (4, .ref 236)], [.long 0, .int 0, .ref 236], (q_kX (q_pt 32 3 1 73 r2 r3.1) c n))) 2 (fun _ _ => rfl) ?_
            refine q_RP_rsT (g2 := (19, [(0, .ref 64), (1, .int a1), (2, .int a2), (3, .int 1), (4, .ref 236)], [], (q_kX (q_sL (q_pt 32 3 1 73 r2 r3.1) 172 (vp_updL ((q_pt 32 3 1 73 r2 r3.1).2.2 172) 0 0)) c n))) rfl q_wX172 rfl ?_
            refine q_RP_seg (g2 := (27, [(0, .ref 64), (1, .int a1), (2, .int a2), (3, .int 1), (4, .ref 236)], [.int 0], (q_kX (q_sL (q_pt 32 3 1 73 r2 r3.1) 172 (vp_updL ((q_pt 32 3 1 73 r2 r3.1).2.2 172) 0 0)) c n))) 2 (fun _ _ => rfl) ?_
            exact q_RP_ret rfl rfl rfl
        | false =>
          refine q_RP_cF ?_
          refine q_RP_callH (E := "java/lang/IndexOutOfBoundsException") (tg := 24) (i := 5) (h2 := (q_kX s (c + 1) (n + 6))) rfl rfl ?_ rfl ?_
          · refine q_Ca_of (Nat.le_of_ble_eq_true rfl) ?_
            refine q_Ru_seg (g2 := (2, [(0, .ref 64), (1, .int a1), (2, .int a2), (3, .int 1)], [.int 4, .int a1], (q_kX s c n))) 2 (fun _ _ => rfl) ?_
            refine q_Ru_call (v := none) (h2 := (q_kX s c n)) rfl rfl ?_ ?_
            · refine q_Ca_of (Nat.le_of_ble_eq_true rfl) ?_
              refine q_Ru_seg (g2 := (1, [(0, .int a1), (1, .int 4)], [.int a1], (q_kX s c n))) 1 (fun _ _ => rfl) ?_
              refine q_Ru_rsF (g2 := (4, [(0, .int a1), (1, .int 4)], [], (q_kX s c n))) rfl rfl h5 ?_
              refine q_Ru_seg (g2 := (6, [(0, .int a1), (1, .int 4)], [.int 4, .int a1], (q_kX s c n))) 2 (fun _ _ => rfl) ?_
              refine q_Ru_rsT (g2 := (19, [(0, .int a1), (1, .int 4)], [], (q_kX s c n))) rfl rfl h6 ?_
              exact q_Ru_ret rfl rfl
            show q_Ru _ _ _ (5, [(0, .ref 64), (1, .int a1), (2, .int a2), (3, .int 1)], [], (q_kX s c n)) _
            refine q_Ru_seg (g2 := (7, [(0, .ref 64), (1, .int a1), (2, .int a2), (3, .int 1)], [.int 4, .int a2], (q_kX s c n))) 2 (fun _ _ => rfl) ?_
            refine q_Ru_callX (E := "java/lang/IndexOutOfBoundsException") (h2 := (q_kX s (c + 1) (n + 6))) rfl rfl ?_
            refine q_Ca_of (Nat.le_of_ble_eq_true rfl) ?_
            refine q_Ru_seg (g2 := (1, [(0, .int a2), (1, .int 4)], [.int a2], (q_kX s c n))) 1 (fun _ _ => rfl) ?_
            refine q_Ru_rsF (g2 := (4, [(0, .int a2), (1, .int 4)], [], (q_kX s c n))) rfl rfl h7 ?_
            refine q_Ru_seg (g2 := (6, [(0, .int a2), (1, .int 4)], [.int 4, .int a2], (q_kX s c n))) 2 (fun _ _ => rfl) ?_
            refine q_Ru_rsF (g2 := (9, [(0, .int a2), (1, .int 4)], [], (q_kX s c n))) rfl rfl h8 ?_
            exact q_Ru_thr rfl rfl
          show q_RP _ _ _ (24, [(0, .ref 64), (1, .int a1), (2, .int a2), (3, .int 1), (4, .ref 236)], [], (q_kX s (c + 1) (n + 6))) _ _
          refine q_RP_seg (g2 := (25, [(0, .ref 64), (1, .int a1), (2, .int a2), (3, .int 1), (4, .ref 236)], [.int 1], (q_kX s (c + 1) (n + 6)))) 1 (fun _ _ => rfl) ?_
          exact q_RP_ret rfl rfl rfl
    | false =>
      refine q_RP_cF ?_
      refine q_RP_callH (E := "java/lang/IndexOutOfBoundsException") (tg := 24) (i := 5) (h2 := (q_kX s (c + 1) (n + 6))) rfl rfl ?_ rfl ?_
      · refine q_Ca_of (Nat.le_of_ble_eq_true rfl) ?_
        refine q_Ru_seg (g2 := (2, [(0, .ref 64), (1, .int a1), (2, .int a2), (3, .int 1)], [.int 4, .int a1], (q_kX s c n))) 2 (fun _ _ => rfl) ?_
        refine q_Ru_callX (E := "java/lang/IndexOutOfBoundsException") (h2 := (q_kX s (c + 1) (n + 6))) rfl rfl ?_
        refine q_Ca_of (Nat.le_of_ble_eq_true rfl) ?_
        refine q_Ru_seg (g2 := (1, [(0, .int a1), (1, .int 4)], [.int a1], (q_kX s c n))) 1 (fun _ _ => rfl) ?_
        refine q_Ru_rsF (g2 := (4, [(0, .int a1), (1, .int 4)], [], (q_kX s c n))) rfl rfl h5 ?_
        refine q_Ru_seg (g2 := (6, [(0, .int a1), (1, .int 4)], [.int 4, .int a1], (q_kX s c n))) 2 (fun _ _ => rfl) ?_
        refine q_Ru_rsF (g2 := (9, [(0, .int a1), (1, .int 4)], [], (q_kX s c n))) rfl rfl h6 ?_
        exact q_Ru_thr rfl rfl
      show q_RP _ _ _ (24, [(0, .ref 64), (1, .int a1), (2, .int a2), (3, .int 1), (4, .ref 236)], [], (q_kX s (c + 1) (n + 6))) _ _
      refine q_RP_seg (g2 := (25, [(0, .ref 64), (1, .int a1), (2, .int a2), (3, .int 1), (4, .ref 236)], [.int 1], (q_kX s (c + 1) (n + 6)))) 1 (fun _ _ => rfl) ?_
      exact q_RP_ret rfl rfl rfl
def dz_X19_64_236 (s : q_S) (a1 : Int32) : q_S × Int32 × Nat :=
  cond (decide (a1 < 0)) ((s, 1, 1)) (cond (decide (15 < a1)) ((s, 1, 1)) (((q_sL s 172 (vp_updL (s.2.2 172) 0 (((s.1 13) ((a1 &&& 15).toNatClampNeg)).toInt64))), 0, 0)))
set_option maxHeartbeats 4000000 in
theorem dzt_X19_64_236 (z L : Nat) (xs : Nat → Int32) (s : q_S) (c n : Nat) (a1 : Int32) : q_Ca (q_TBs z L xs) 3 19 [.ref 64, .int a1, .ref 236] (q_kX s c n) ((q_oEX c n) (dz_X19_64_236 s a1)) := by
  refine q_CaT_of (φ := (q_oEX c n)) (Nat.le_of_ble_eq_true rfl) ?_
  unfold dz_X19_64_236
  refine q_RT_seg (g2 := (4, [(0, .ref 64), (1, .int a1), (2, .ref 236)], [.int a1, .ref 64, .int 0, .ref 236], (q_kX s c n))) 4 (fun _ _ => rfl) ?_
  cases h1 : decide (a1 < 0) with
  | true =>
    refine q_RT_cT ?_
    refine q_RT_callH (E := "java/lang/IllegalArgumentException") (tg := 13) (i := 3) (h2 := (q_kX s (c + 1) (n + 6))) rfl rfl ?_ rfl ?_
    · refine q_Ca_of (Nat.le_of_ble_eq_true rfl) ?_
      refine q_Ru_seg (g2 := (4, [(0, .ref 64), (1, .int a1)], [.int 15, .int 0, .int a1], (q_kX s c n))) 3 (fun _ _ => rfl) ?_
      refine q_Ru_callX (E := "java/lang/IllegalArgumentException") (h2 := (q_kX s (c + 1) (n + 6))) rfl rfl ?_
      refine q_Ca_of (Nat.le_of_ble_eq_true rfl) ?_
      refine q_Ru_seg (g2 := (2, [(0, .int a1), (1, .int 0), (2, .int 15)], [.int 0, .int a1], (q_kX s c n))) 2 (fun _ _ => rfl) ?_
      refine q_Ru_rsT (g2 := (10, [(0, .int a1), (1, .int 0), (2, .int 15)], [], (q_kX s c n))) rfl rfl h1 ?_
      exact q_Ru_thr rfl rfl
    show q_RT _ _ _ (13, [(0, .ref 64), (1, .int a1), (2, .ref 236)], [], (q_kX s (c + 1) (n + 6))) _ _
    refine q_RT_seg (g2 := (14, [(0, .ref 64), (1, .int a1), (2, .ref 236)], [.int 1], (q_kX s (c + 1) (n + 6)))) 1 (fun _ _ => rfl) ?_
    exact q_RT_ret rfl rfl rfl
  | false =>
    refine q_RT_cF ?_
    cases h2 : decide (15 < a1) with
    | true =>
      refine q_RT_cT ?_
      refine q_RT_callH (E := "java/lang/IllegalArgumentException") (tg := 13) (i := 3) (h2 := (q_kX s (c + 1) (n + 6))) rfl rfl ?_ rfl ?_
      · refine q_Ca_of (Nat.le_of_ble_eq_true rfl) ?_
        refine q_Ru_seg (g2 := (4, [(0, .ref 64), (1, .int a1)], [.int 15, .int 0, .int a1], (q_kX s c n))) 3 (fun _ _ => rfl) ?_
        refine q_Ru_callX (E := "java/lang/IllegalArgumentException") (h2 := (q_kX s (c + 1) (n + 6))) rfl rfl ?_
        refine q_Ca_of (Nat.le_of_ble_eq_true rfl) ?_
        refine q_Ru_seg (g2 := (2, [(0, .int a1), (1, .int 0), (2, .int 15)], [.int 0, .int a1], (q_kX s c n))) 2 (fun _ _ => rfl) ?_
        refine q_Ru_rsF (g2 := (5, [(0, .int a1), (1, .int 0), (2, .int 15)], [], (q_kX s c n))) rfl rfl h1 ?_
        refine q_Ru_seg (g2 := (7, [(0, .int a1), (1, .int 0), (2, .int 15)], [.int 15, .int a1], (q_kX s c n))) 2 (fun _ _ => rfl) ?_
        refine q_Ru_rsF (g2 := (10, [(0, .int a1), (1, .int 0), (2, .int 15)], [], (q_kX s c n))) rfl rfl (q_d_geT h2) ?_
        exact q_Ru_thr rfl rfl
      show q_RT _ _ _ (13, [(0, .ref 64), (1, .int a1), (2, .ref 236)], [], (q_kX s (c + 1) (n + 6))) _ _
      refine q_RT_seg (g2 := (14, [(0, .ref 64), (1, .int a1), (2, .ref 236)], [.int 1], (q_kX s (c + 1) (n + 6)))) 1 (fun _ _ => rfl) ?_
      exact q_RT_ret rfl rfl rfl
    | false =>
      refine q_RT_cF ?_
      refine q_RT_call (v := (some (.int ((s.1 13) ((a1 &&& 15).toNatClampNeg))))) (h2 := (q_kX s c n)) rfl rfl ?_ ?_
      · refine q_Ca_of (Nat.le_of_ble_eq_true rfl) ?_
        refine q_Ru_seg (g2 := (4, [(0, .ref 64), (1, .int a1)], [.int 15, .int 0, .int a1], (q_kX s c n))) 3 (fun _ _ => rfl) ?_
        refine q_Ru_call (v := none) (h2 := (q_kX s c n)) rfl rfl ?_ ?_
        · refine q_Ca_of (Nat.le_of_ble_eq_true rfl) ?_
          refine q_Ru_seg (g2 := (2, [(0, .int a1), (1, .int 0), (2, .int 15)], [.int 0, .int a1], (q_kX s c n))) 2 (fun _ _ => rfl) ?_
          refine q_Ru_rsF (g2 := (5, [(0, .int a1), (1, .int 0), (2, .int 15)], [], (q_kX s c n))) rfl rfl h1 ?_
          refine q_Ru_seg (g2 := (7, [(0, .int a1), (1, .int 0), (2, .int 15)], [.int 15, .int a1], (q_kX s c n))) 2 (fun _ _ => rfl) ?_
          refine q_Ru_rsT (g2 := (20, [(0, .int a1), (1, .int 0), (2, .int 15)], [], (q_kX s c n))) rfl rfl (q_d_geF h2) ?_
          exact q_Ru_ret rfl rfl
        show q_Ru _ _ _ (7, [(0, .ref 64), (1, .int a1)], [], (q_kX s c n)) _
        refine q_Ru_seg (g2 := (24, [(0, .ref 64), (1, .int a1)], [.int (a1 &&& 15), .ref 77], (q_kX s c n))) 8 (fun _ _ => rfl) ?_
        refine q_Ru_rsT (g2 := (25, [(0, .ref 64), (1, .int a1)], [.int ((s.1 13) ((a1 &&& 15).toNatClampNeg))], (q_kX s c n))) rfl rfl (q_in_bd (x := a1 &&& 15) (n := 16) (U := 15) (L := 0) (q_and_lo a1 15) (q_and_hi a1 15 15)) ?_
        exact q_Ru_ret rfl rfl
      show q_RT _ _ _ (7, [(0, .ref 64), (1, .int a1), (2, .ref 236)], [.int ((s.1 13) ((a1 &&& 15).toNatClampNeg)), .int 0, .ref 236], (q_kX s c n)) _ _
      refine q_RT_seg (g2 := (8, [(0, .ref 64), (1, .int a1), (2, .ref 236)], [.long (((s.1 13) ((a1 &&& 15).toNatClampNeg)).toInt64), .int 0, .ref 236], (q_kX s c n))) 1 (fun _ _ => rfl) ?_
      refine q_RT_rsT (g2 := (9, [(0, .ref 64), (1, .int a1), (2, .ref 236)], [], (q_kX (q_sL s 172 (vp_updL (s.2.2 172) 0 (((s.1 13) ((a1 &&& 15).toNatClampNeg)).toInt64))) c n))) rfl q_wX172 rfl ?_
      refine q_RT_seg (g2 := (16, [(0, .ref 64), (1, .int a1), (2, .ref 236)], [.int 0], (q_kX (q_sL s 172 (vp_updL (s.2.2 172) 0 (((s.1 13) ((a1 &&& 15).toNatClampNeg)).toInt64))) c n))) 2 (fun _ _ => rfl) ?_
      exact q_RT_ret rfl rfl rfl
def dz_X20_64_236 (s : q_S) (a1 : Int32) : Option (q_S × Int32 × Nat) :=
  cond (decide (a1 < 0)) (some (s, 1, 1)) (cond (decide (15 < a1)) (some (s, 1, 1)) (q_let (dz_X184_98 s 10 a1 0 0) fun r2 => (dz_N79_64 (q_vw 32 1 73 r2) 10 a1 0 0).bind fun r3 => some ((q_sL (q_pt 32 3 1 73 r2 r3.1) 172 (vp_updL ((q_pt 32 3 1 73 r2 r3.1).2.2 172) 0 r3.2.toInt64)), 0, 0)))
set_option maxHeartbeats 4000000 in
theorem dzt_X20_64_236 (z L : Nat) (xs : Nat → Int32) (s : q_S) (c n : Nat) (a1 : Int32) (x : q_S × Int32 × Nat) (h : dz_X20_64_236 s a1 = some x) : q_Ca (q_TBs z L xs) 10 20 [.ref 64, .int a1, .ref 236] (q_kX s c n) ((q_oEX c n) x) := by
  refine q_CaP_of (φ := (q_oEX c n)) (Nat.le_of_ble_eq_true rfl) ?_ h
  clear h
  unfold dz_X20_64_236
  refine q_RP_seg (g2 := (4, [(0, .ref 64), (1, .int a1), (2, .ref 236)], [.int a1, .ref 64, .int 0, .ref 236], (q_kX s c n))) 4 (fun _ _ => rfl) ?_
  cases h3 : decide (a1 < 0) with
  | true =>
    refine q_RP_cT ?_
    refine q_RP_callH (E := "java/lang/IllegalArgumentException") (tg := 13) (i := 3) (h2 := (q_kX s (c + 1) (n + 6))) rfl rfl ?_ rfl ?_
    · refine q_Ca_of (Nat.le_of_ble_eq_true rfl) ?_
      refine q_Ru_seg (g2 := (4, [(0, .ref 64), (1, .int a1)], [.int 15, .int 0, .int a1], (q_kX s c n))) 3 (fun _ _ => rfl) ?_
      refine q_Ru_callX (E := "java/lang/IllegalArgumentException") (h2 := (q_kX s (c + 1) (n + 6))) rfl rfl ?_
      refine q_Ca_of (Nat.le_of_ble_eq_true rfl) ?_
      refine q_Ru_seg (g2 := (2, [(0, .int a1), (1, .int 0), (2, .int 15)], [.int 0, .int a1], (q_kX s c n))) 2 (fun _ _ => rfl) ?_
      refine q_Ru_rsT (g2 := (10, [(0, .int a1), (1, .int 0), (2, .int 15)], [], (q_kX s c n))) rfl rfl h3 ?_
      exact q_Ru_thr rfl rfl
    show q_RP _ _ _ (13, [(0, .ref 64), (1, .int a1), (2, .ref 236)], [], (q_kX s (c + 1) (n + 6))) _ _
    refine q_RP_seg (g2 := (14, [(0, .ref 64), (1, .int a1), (2, .ref 236)], [.int 1], (q_kX s (c + 1) (n + 6)))) 1 (fun _ _ => rfl) ?_
    exact q_RP_ret rfl rfl rfl
  | false =>
    refine q_RP_cF ?_
    cases h4 : decide (15 < a1) with
    | true =>
      refine q_RP_cT ?_
      refine q_RP_callH (E := "java/lang/IllegalArgumentException") (tg := 13) (i := 3) (h2 := (q_kX s (c + 1) (n + 6))) rfl rfl ?_ rfl ?_
      · refine q_Ca_of (Nat.le_of_ble_eq_true rfl) ?_
        refine q_Ru_seg (g2 := (4, [(0, .ref 64), (1, .int a1)], [.int 15, .int 0, .int a1], (q_kX s c n))) 3 (fun _ _ => rfl) ?_
        refine q_Ru_callX (E := "java/lang/IllegalArgumentException") (h2 := (q_kX s (c + 1) (n + 6))) rfl rfl ?_
        refine q_Ca_of (Nat.le_of_ble_eq_true rfl) ?_
        refine q_Ru_seg (g2 := (2, [(0, .int a1), (1, .int 0), (2, .int 15)], [.int 0, .int a1], (q_kX s c n))) 2 (fun _ _ => rfl) ?_
        refine q_Ru_rsF (g2 := (5, [(0, .int a1), (1, .int 0), (2, .int 15)], [], (q_kX s c n))) rfl rfl h3 ?_
        refine q_Ru_seg (g2 := (7, [(0, .int a1), (1, .int 0), (2, .int 15)], [.int 15, .int a1], (q_kX s c n))) 2 (fun _ _ => rfl) ?_
        refine q_Ru_rsF (g2 := (10, [(0, .int a1), (1, .int 0), (2, .int 15)], [], (q_kX s c n))) rfl rfl (q_d_geT h4) ?_
        exact q_Ru_thr rfl rfl
      show q_RP _ _ _ (13, [(0, .ref 64), (1, .int a1), (2, .ref 236)], [], (q_kX s (c + 1) (n + 6))) _ _
      refine q_RP_seg (g2 := (14, [(0, .ref 64), (1, .int a1), (2, .ref 236)], [.int 1], (q_kX s (c + 1) (n + 6)))) 1 (fun _ _ => rfl) ?_
      exact q_RP_ret rfl rfl rfl
    | false =>
      refine q_RP_cF ?_
      generalize er2 : dz_X184_98 s 10 a1 0 0 = r2
      refine q_RP_let ?_
      refine q_RP_bd fun r3 er3 => ?_
      refine q_RP_call (v := (some (.int r3.2))) (h2 := (q_kX (q_pt 32 3 1 73 r2 r3.1) c n)) rfl rfl ?_ ?_
      · refine q_Ca_of (Nat.le_of_ble_eq_true rfl) ?_
        refine q_Ru_seg (g2 := (4, [(0, .ref 64), (1, .int a1)], [.int 15, .int 0, .int a1], (q_kX s c n))) 3 (fun _ _ => rfl) ?_
        refine q_Ru_call (v := none) (h2 := (q_kX s c n)) rfl rfl ?_ ?_
        · refine q_Ca_of (Nat.le_of_ble_eq_true rfl) ?_
          refine q_Ru_seg (g2 := (2, [(0, .int a1), (1, .int 0), (2, .int 15)], [.int 0, .int a1], (q_kX s c n))) 2 (fun _ _ => rfl) ?_
          refine q_Ru_rsF (g2 := (5, [(0, .int a1), (1, .int 0), (2, .int 15)], [], (q_kX s c n))) rfl rfl h3 ?_
          refine q_Ru_seg (g2 := (7, [(0, .int a1), (1, .int 0), (2, .int 15)], [.int 15, .int a1], (q_kX s c n))) 2 (fun _ _ => rfl) ?_
          refine q_Ru_rsT (g2 := (20, [(0, .int a1), (1, .int 0), (2, .int 15)], [], (q_kX s c n))) rfl rfl (q_d_geF h4) ?_
          exact q_Ru_ret rfl rfl
        show q_Ru _ _ _ (7, [(0, .ref 64), (1, .int a1)], [], (q_kX s c n)) _
        refine q_Ru_seg (g2 := (16, [(0, .ref 64), (1, .int a1)], [.int 0, .int 0, .int a1, .int 10, .ref 98], (q_kX s c n))) 6 (fun _ _ => rfl) ?_
        refine q_Ru_call (v := none) (h2 := (q_kX r2 c n)) rfl rfl ?_ ?_
        · exact (q_cE (φ := (q_oSX c n)) er2 (dzt_X184_98 z L xs s c n 10 a1 0 0)).le (Nat.le_of_ble_eq_true rfl)
        show q_Ru _ _ _ (19, [(0, .ref 64), (1, .int a1)], [], (q_kX r2 c n)) _
        refine q_Ru_seg (g2 := (28, [(0, .ref 64), (1, .int a1)], [.int 0, .int 0, .int a1, .int 10, .ref 65], (q_kX r2 c n))) 6 (fun _ _ => rfl) ?_
        refine q_Ru_call (v := (some (.int r3.2))) (h2 := (q_kX (q_pt 32 3 1 73 r2 r3.1) c n)) rfl rfl ?_ ?_
        · exact (q_emNX_1 rfl (fun _ => rfl) ((dzt_N79_64 (q_vw 32 1 73 r2) c n 10 a1 0 0 r3 er3).tb q_TB0_le)).le (Nat.le_of_ble_eq_true rfl)
        show q_Ru _ _ _ (31, [(0, .ref 64), (1, .int a1)], [.int r3.2], (q_kX (q_pt 32 3 1 73 r2 r3.1) c n)) _
        exact q_Ru_ret rfl rfl
      show q_RP _ _ _ (7, [(0, .ref 64), (1, .int a1), (2, .ref 236)], [.int r3.2, .int 0, .ref 236], (q_kX (q_pt 32 3 1 73 r2 r3.1) c n)) _ _
      refine q_RP_seg (g2 := (8, [(0, .ref 64), (1, .int a1), (2, .ref 236)], [.long r3.2.toInt64, .int 0, .ref 236], (q_kX (q_pt 32 3 1 73 r2 r3.1) c n))) 1 (fun _ _ => rfl) ?_
      refine q_RP_rsT (g2 := (9, [(0, .ref 64), (1, .int a1), (2, .ref 236)], [], (q_kX (q_sL (q_pt 32 3 1 73 r2 r3.1) 172 (vp_updL ((q_pt 32 3 1 73 r2 r3.1).2.2 172) 0 r3.2.toInt64)) c n))) rfl q_wX172 rfl ?_
      refine q_RP_seg (g2 := (16, [(0, .ref 64), (1, .int a1), (2, .ref 236)], [.int 0], (q_kX (q_sL (q_pt 32 3 1 73 r2 r3.1) 172 (vp_updL ((q_pt 32 3 1 73 r2 r3.1).2.2 172) 0 r3.2.toInt64)) c n))) 2 (fun _ _ => rfl) ?_
      exact q_RP_ret rfl rfl rfl
def dz_X21_64_236 (s : q_S) (a1 : Int32) : Option (q_S × Int32 × Nat) :=
  cond (decide (a1 < 1)) (some (s, 1, 1)) (cond (decide (999 < a1)) (some (s, 1, 1)) (cond (decide (s.2.1 9 1 < 40)) (q_let (dz_X184_98 s 11 a1 0 0) fun r2 => (dz_N79_64 (q_vw 32 1 73 r2) 11 a1 0 0).bind fun r3 => some ((q_sL (q_pt 32 3 1 73 r2 r3.1) 172 (vp_updL ((q_pt 32 3 1 73 r2 r3.1).2.2 172) 0 r3.2.toInt64)), 0, 0)) (some (s, 2, 1))))
set_option maxHeartbeats 4000000 in
theorem dzt_X21_64_236 (z L : Nat) (xs : Nat → Int32) (s : q_S) (c n : Nat) (a1 : Int32) (x : q_S × Int32 × Nat) (h : dz_X21_64_236 s a1 = some x) : q_Ca (q_TBs z L xs) 10 21 [.ref 64, .int a1, .ref 236] (q_kX s c n) ((q_oEX c n) x) := by
  refine q_CaP_of (φ := (q_oEX c n)) (Nat.le_of_ble_eq_true rfl) ?_ h
  clear h
  unfold dz_X21_64_236
  refine q_RP_seg (g2 := (4, [(0, .ref 64), (1, .int a1), (2, .ref 236)], [.int a1, .ref 64, .int 0, .ref 236], (q_kX s c n))) 4 (fun _ _ => rfl) ?_
  cases h4 : decide (a1 < 1) with
  | true =>
    refine q_RP_cT ?_
    refine q_RP_callH (E := "java/lang/IllegalArgumentException") (tg := 13) (i := 3) (h2 := (q_kX s (c + 1) (n + 6))) rfl rfl ?_ rfl ?_
    · refine q_Ca_of (Nat.le_of_ble_eq_true rfl) ?_
      refine q_Ru_seg (g2 := (5, [(0, .ref 64), (1, .int a1)], [.int 999, .int 1, .int a1], (q_kX s c n))) 3 (fun _ _ => rfl) ?_
      refine q_Ru_callX (E := "java/lang/IllegalArgumentException") (h2 := (q_kX s (c + 1) (n + 6))) rfl rfl ?_
      refine q_Ca_of (Nat.le_of_ble_eq_true rfl) ?_
      refine q_Ru_seg (g2 := (2, [(0, .int a1), (1, .int 1), (2, .int 999)], [.int 1, .int a1], (q_kX s c n))) 2 (fun _ _ => rfl) ?_
      refine q_Ru_rsT (g2 := (10, [(0, .int a1), (1, .int 1), (2, .int 999)], [], (q_kX s c n))) rfl rfl h4 ?_
      exact q_Ru_thr rfl rfl
    show q_RP _ _ _ (13, [(0, .ref 64), (1, .int a1), (2, .ref 236)], [], (q_kX s (c + 1) (n + 6))) _ _
    refine q_RP_seg (g2 := (14, [(0, .ref 64), (1, .int a1), (2, .ref 236)], [.int 1], (q_kX s (c + 1) (n + 6)))) 1 (fun _ _ => rfl) ?_
    exact q_RP_ret rfl rfl rfl
  | false =>
    refine q_RP_cF ?_
    cases h5 : decide (999 < a1) with
    | true =>
      refine q_RP_cT ?_
      refine q_RP_callH (E := "java/lang/IllegalArgumentException") (tg := 13) (i := 3) (h2 := (q_kX s (c + 1) (n + 6))) rfl rfl ?_ rfl ?_
      · refine q_Ca_of (Nat.le_of_ble_eq_true rfl) ?_
        refine q_Ru_seg (g2 := (5, [(0, .ref 64), (1, .int a1)], [.int 999, .int 1, .int a1], (q_kX s c n))) 3 (fun _ _ => rfl) ?_
        refine q_Ru_callX (E := "java/lang/IllegalArgumentException") (h2 := (q_kX s (c + 1) (n + 6))) rfl rfl ?_
        refine q_Ca_of (Nat.le_of_ble_eq_true rfl) ?_
        refine q_Ru_seg (g2 := (2, [(0, .int a1), (1, .int 1), (2, .int 999)], [.int 1, .int a1], (q_kX s c n))) 2 (fun _ _ => rfl) ?_
        refine q_Ru_rsF (g2 := (5, [(0, .int a1), (1, .int 1), (2, .int 999)], [], (q_kX s c n))) rfl rfl h4 ?_
        refine q_Ru_seg (g2 := (7, [(0, .int a1), (1, .int 1), (2, .int 999)], [.int 999, .int a1], (q_kX s c n))) 2 (fun _ _ => rfl) ?_
        refine q_Ru_rsF (g2 := (10, [(0, .int a1), (1, .int 1), (2, .int 999)], [], (q_kX s c n))) rfl rfl (q_d_geT h5) ?_
        exact q_Ru_thr rfl rfl
      show q_RP _ _ _ (13, [(0, .ref 64), (1, .int a1), (2, .ref 236)], [], (q_kX s (c + 1) (n + 6))) _ _
      refine q_RP_seg (g2 := (14, [(0, .ref 64), (1, .int a1), (2, .ref 236)], [.int 1], (q_kX s (c + 1) (n + 6)))) 1 (fun _ _ => rfl) ?_
      exact q_RP_ret rfl rfl rfl
    | false =>
      refine q_RP_cF ?_
      cases h6 : decide (s.2.1 9 1 < 40) with
      | true =>
        refine q_RP_cT ?_
        generalize er2 : dz_X184_98 s 11 a1 0 0 = r2
        refine q_RP_let ?_
        refine q_RP_bd fun r3 er3 => ?_
        refine q_RP_call (v := (some (.int r3.2))) (h2 := (q_kX (q_pt 32 3 1 73 r2 r3.1) c n)) rfl rfl ?_ ?_
        · refine q_Ca_of (Nat.le_of_ble_eq_true rfl) ?_
          refine q_Ru_seg (g2 := (5, [(0, .ref 64), (1, .int a1)], [.int 999, .int 1, .int a1], (q_kX s c n))) 3 (fun _ _ => rfl) ?_
          refine q_Ru_call (v := none) (h2 := (q_kX s c n)) rfl rfl ?_ ?_
          · refine q_Ca_of (Nat.le_of_ble_eq_true rfl) ?_
            refine q_Ru_seg (g2 := (2, [(0, .int a1), (1, .int 1), (2, .int 999)], [.int 1, .int a1], (q_kX s c n))) 2 (fun _ _ => rfl) ?_
            refine q_Ru_rsF (g2 := (5, [(0, .int a1), (1, .int 1), (2, .int 999)], [], (q_kX s c n))) rfl rfl h4 ?_
            refine q_Ru_seg (g2 := (7, [(0, .int a1), (1, .int 1), (2, .int 999)], [.int 999, .int a1], (q_kX s c n))) 2 (fun _ _ => rfl) ?_
            refine q_Ru_rsT (g2 := (20, [(0, .int a1), (1, .int 1), (2, .int 999)], [], (q_kX s c n))) rfl rfl (q_d_geF h5) ?_
            exact q_Ru_ret rfl rfl
          show q_Ru _ _ _ (8, [(0, .ref 64), (1, .int a1)], [], (q_kX s c n)) _
          refine q_Ru_seg (g2 := (23, [(0, .ref 64), (1, .int a1)], [.int 40, .int (s.2.1 9 1)], (q_kX s c n))) 6 (fun _ _ => rfl) ?_
          refine q_Ru_rsT (g2 := (36, [(0, .ref 64), (1, .int a1)], [], (q_kX s c n))) rfl rfl h6 ?_
          refine q_Ru_seg (g2 := (45, [(0, .ref 64), (1, .int a1)], [.int 0, .int 0, .int a1, .int 11, .ref 98], (q_kX s c n))) 6 (fun _ _ => rfl) ?_
          refine q_Ru_call (v := none) (h2 := (q_kX r2 c n)) rfl rfl ?_ ?_
          · exact (q_cE (φ := (q_oSX c n)) er2 (dzt_X184_98 z L xs s c n 11 a1 0 0)).le (Nat.le_of_ble_eq_true rfl)
          show q_Ru _ _ _ (48, [(0, .ref 64), (1, .int a1)], [], (q_kX r2 c n)) _
          refine q_Ru_seg (g2 := (57, [(0, .ref 64), (1, .int a1)], [.int 0, .int 0, .int a1, .int 11, .ref 65], (q_kX r2 c n))) 6 (fun _ _ => rfl) ?_
          refine q_Ru_call (v := (some (.int r3.2))) (h2 := (q_kX (q_pt 32 3 1 73 r2 r3.1) c n)) rfl rfl ?_ ?_
          · exact (q_emNX_1 rfl (fun _ => rfl) ((dzt_N79_64 (q_vw 32 1 73 r2) c n 11 a1 0 0 r3 er3).tb q_TB0_le)).le (Nat.le_of_ble_eq_true rfl)
          show q_Ru _ _ _ (60, [(0, .ref 64), (1, .int a1)], [.int r3.2], (q_kX (q_pt 32 3 1 73 r2 r3.1) c n)) _
          exact q_Ru_ret rfl rfl
        show q_RP _ _ _ (7, [(0, .ref 64), (1, .int a1), (2, .ref 236)], [.int r3.2, .int 0, .ref 236], (q_kX (q_pt 32 3 1 73 r2 r3.1) c n)) _ _
        refine q_RP_seg (g2 := (8, [(0, .ref 64), (1, .int a1), (2, .ref 236)], [.long r3.2.toInt64, .int 0, .ref 236], (q_kX (q_pt 32 3 1 73 r2 r3.1) c n))) 1 (fun _ _ => rfl) ?_
        refine q_RP_rsT (g2 := (9, [(0, .ref 64), (1, .int a1), (2, .ref 236)], [], (q_kX (q_sL (q_pt 32 3 1 73 r2 r3.1) 172 (vp_updL ((q_pt 32 3 1 73 r2 r3.1).2.2 172) 0 r3.2.toInt64)) c n))) rfl q_wX172 rfl ?_
        refine q_RP_seg (g2 := (19, [(0, .ref 64), (1, .int a1), (2, .ref 236)], [.int 0], (q_kX (q_sL (q_pt 32 3 1 73 r2 r3.1) 172 (vp_updL ((q_pt 32 3 1 73 r2 r3.1).2.2 172) 0 r3.2.toInt64)) c n))) 2 (fun _ _ => rfl) ?_
        exact q_RP_ret rfl rfl rfl
      | false =>
        refine q_RP_cF ?_
        refine q_RP_callH (E := "java/lang/IllegalStateException") (tg := 16) (i := 3) (h2 := (q_kX s (c + 1) (n + 6))) rfl rfl ?_ rfl ?_
        · refine q_Ca_of (Nat.le_of_ble_eq_true rfl) ?_
          refine q_Ru_seg (g2 := (5, [(0, .ref 64), (1, .int a1)], [.int 999, .int 1, .int a1], (q_kX s c n))) 3 (fun _ _ => rfl) ?_
          refine q_Ru_call (v := none) (h2 := (q_kX s c n)) rfl rfl ?_ ?_
          · refine q_Ca_of (Nat.le_of_ble_eq_true rfl) ?_
            refine q_Ru_seg (g2 := (2, [(0, .int a1), (1, .int 1), (2, .int 999)], [.int 1, .int a1], (q_kX s c n))) 2 (fun _ _ => rfl) ?_
            refine q_Ru_rsF (g2 := (5, [(0, .int a1), (1, .int 1), (2, .int 999)], [], (q_kX s c n))) rfl rfl h4 ?_
            refine q_Ru_seg (g2 := (7, [(0, .int a1), (1, .int 1), (2, .int 999)], [.int 999, .int a1], (q_kX s c n))) 2 (fun _ _ => rfl) ?_
            refine q_Ru_rsT (g2 := (20, [(0, .int a1), (1, .int 1), (2, .int 999)], [], (q_kX s c n))) rfl rfl (q_d_geF h5) ?_
            exact q_Ru_ret rfl rfl
          show q_Ru _ _ _ (8, [(0, .ref 64), (1, .int a1)], [], (q_kX s c n)) _
          refine q_Ru_seg (g2 := (23, [(0, .ref 64), (1, .int a1)], [.int 40, .int (s.2.1 9 1)], (q_kX s c n))) 6 (fun _ _ => rfl) ?_
          refine q_Ru_rsF (g2 := (26, [(0, .ref 64), (1, .int a1)], [], (q_kX s c n))) rfl rfl h6 ?_
          exact q_Ru_thr rfl rfl
        show q_RP _ _ _ (16, [(0, .ref 64), (1, .int a1), (2, .ref 236)], [], (q_kX s (c + 1) (n + 6))) _ _
        refine q_RP_seg (g2 := (17, [(0, .ref 64), (1, .int a1), (2, .ref 236)], [.int 2], (q_kX s (c + 1) (n + 6)))) 1 (fun _ _ => rfl) ?_
        exact q_RP_ret rfl rfl rfl
def dz_X22_64_236 (s : q_S) : Option (q_S × Int32 × Nat) :=
  cond (decide (s.2.1 0 2 < 0)) (some (s, 1, 1)) (cond (decide (s.2.1 0 2 < 3)) (cond (decide (s.2.1 0 2 = 0)) ((dz_W77_64_96 (q_vw 32 76 1 s)).bind fun r1 => some ((q_sL (q_sI (q_pt 32 32 76 1 s r1) 0 2 1) 172 (vp_updL ((q_pt 32 32 76 1 s r1).2.2 172) 0 0)), 0, 0)) (cond (decide (s.2.1 0 2 = 1)) ((dz_W77_64_96 (q_vw 32 108 1 s)).bind fun r2 => some ((q_sL (q_sI (q_pt 32 32 108 1 s r2) 0 2 2) 172 (vp_updL ((q_pt 32 32 108 1 s r2).2.2 172) 0 1)), 0, 0)) (cond (decide (s.2.1 0 2 = 2)) ((dz_W77_64_96 (q_vw 32 140 1 s)).bind fun r3 => some ((q_sL (q_sI (q_pt 32 32 140 1 s r3) 0 2 3) 172 (vp_updL ((q_pt 32 32 140 1 s r3).2.2 172) 0 2)), 0, 0)) (none)))) (some (s, 1, 1)))
set_option maxHeartbeats 4000000 in
theorem dzt_X22_64_236 (z L : Nat) (xs : Nat → Int32) (s : q_S) (c n : Nat) (x : q_S × Int32 × Nat) (h : dz_X22_64_236 s = some x) : q_Ca (q_TBs z L xs) 7 22 [.ref 64, .ref 236] (q_kX s c n) ((q_oEX c n) x) := by
  refine q_CaP_of (φ := (q_oEX c n)) (Nat.le_of_ble_eq_true rfl) ?_ h
  clear h
  unfold dz_X22_64_236
  refine q_RP_seg (g2 := (3, [(0, .ref 64), (1, .ref 236)], [.ref 64, .int 0, .ref 236], (q_kX s c n))) 3 (fun _ _ => rfl) ?_
  cases h4 : decide (s.2.1 0 2 < 0) with
  | true =>
    refine q_RP_cT ?_
    refine q_RP_callH (E := "java/lang/IllegalStateException") (tg := 12) (i := 2) (h2 := (q_kX s (c + 1) (n + 6))) rfl rfl ?_ rfl ?_
    · refine q_Ca_of (Nat.le_of_ble_eq_true rfl) ?_
      refine q_Ru_seg (g2 := (6, [(1, .int (s.2.1 0 2)), (0, .ref 64)], [.int (s.2.1 0 2)], (q_kX s c n))) 4 (fun _ _ => rfl) ?_
      refine q_Ru_rsT (g2 := (14, [(1, .int (s.2.1 0 2)), (0, .ref 64)], [], (q_kX s c n))) rfl rfl h4 ?_
      exact q_Ru_thr rfl rfl
    show q_RP _ _ _ (12, [(0, .ref 64), (1, .ref 236)], [], (q_kX s (c + 1) (n + 6))) _ _
    refine q_RP_seg (g2 := (13, [(0, .ref 64), (1, .ref 236)], [.int 1], (q_kX s (c + 1) (n + 6)))) 1 (fun _ _ => rfl) ?_
    exact q_RP_ret rfl rfl rfl
  | false =>
    refine q_RP_cF ?_
    cases h5 : decide (s.2.1 0 2 < 3) with
    | true =>
      refine q_RP_cT ?_
      cases h6 : decide (s.2.1 0 2 = 0) with
      | true =>
        refine q_RP_cT ?_
        refine q_RP_bd fun r1 er1 => ?_
        refine q_RP_call (v := (some (.int 0))) (h2 := (q_kX (q_sI (q_pt 32 32 76 1 s r1) 0 2 1) c n)) rfl rfl ?_ ?_
        · refine q_Ca_of (Nat.le_of_ble_eq_true rfl) ?_
          refine q_Ru_seg (g2 := (4, [(0, .ref 64)], [.int (s.2.1 0 2)], (q_kX s c n))) 2 (fun _ _ => rfl) ?_
          rw [of_decide_eq_true h6]
          refine q_Ru_seg (g2 := (34, [(1, .int 0), (0, .ref 64)], [.ref 65, .ref 140], (q_kX s c n))) 12 (fun _ _ => rfl) ?_
          refine q_Ru_call (v := none) (h2 := (q_kX (q_pt 32 32 76 1 s r1) c n)) rfl rfl ?_ ?_
          · exact (q_emWX_76_1 rfl (fun _ => rfl) ((dzt_W77_64_96 (q_vw 32 76 1 s) c n r1 er1).tb q_TB0_le)).le (Nat.le_of_ble_eq_true rfl)
          show q_Ru _ _ _ (37, [(1, .int 0), (0, .ref 64)], [], (q_kX (q_pt 32 32 76 1 s r1) c n)) _
          refine q_Ru_seg (g2 := (41, [(1, .int 0), (0, .ref 64)], [.int 1, .ref 64], (q_kX (q_pt 32 32 76 1 s r1) c n))) 4 (fun _ _ => rfl) ?_
          refine q_Ru_st1 (g2 := (44, [(1, .int 0), (0, .ref 64)], [], (q_kX (q_sI (q_pt 32 32 76 1 s r1) 0 2 1) c n))) rfl q_pX0_2 ?_
          refine q_Ru_seg (g2 := (45, [(1, .int 0), (0, .ref 64)], [.int 0], (q_kX (q_sI (q_pt 32 32 76 1 s r1) 0 2 1) c n))) 1 (fun _ _ => rfl) ?_
          exact q_Ru_ret rfl rfl
        show q_RP _ _ _ (6, [(0, .ref 64), (1, .ref 236)], [.int 0, .int 0, .ref 236], (q_kX (q_sI (q_pt 32 32 76 1 s r1) 0 2 1) c n)) _ _
        refine q_RP_seg (g2 := (7, [(0, .ref 64), (1, .ref 236)], [.long 0, .int 0, .ref 236], (q_kX (q_sI (q_pt 32 32 76 1 s r1) 0 2 1) c n))) 1 (fun _ _ => rfl) ?_
        refine q_RP_rsT (g2 := (8, [(0, .ref 64), (1, .ref 236)], [], (q_kX (q_sL (q_sI (q_pt 32 32 76 1 s r1) 0 2 1) 172 (vp_updL ((q_pt 32 32 76 1 s r1).2.2 172) 0 0)) c n))) rfl q_wX172 rfl ?_
        refine q_RP_seg (g2 := (15, [(0, .ref 64), (1, .ref 236)], [.int 0], (q_kX (q_sL (q_sI (q_pt 32 32 76 1 s r1) 0 2 1) 172 (vp_updL ((q_pt 32 32 76 1 s r1).2.2 172) 0 0)) c n))) 2 (fun _ _ => rfl) ?_
        exact q_RP_ret rfl rfl rfl
      | false =>
        refine q_RP_cF ?_
        cases h7 : decide (s.2.1 0 2 = 1) with
        | true =>
          refine q_RP_cT ?_
          refine q_RP_bd fun r2 er2 => ?_
          refine q_RP_call (v := (some (.int 1))) (h2 := (q_kX (q_sI (q_pt 32 32 108 1 s r2) 0 2 2) c n)) rfl rfl ?_ ?_
          · refine q_Ca_of (Nat.le_of_ble_eq_true rfl) ?_
            refine q_Ru_seg (g2 := (4, [(0, .ref 64)], [.int (s.2.1 0 2)], (q_kX s c n))) 2 (fun _ _ => rfl) ?_
            rw [of_decide_eq_true h7]
            refine q_Ru_seg (g2 := (34, [(1, .int 1), (0, .ref 64)], [.ref 65, .ref 172], (q_kX s c n))) 12 (fun _ _ => rfl) ?_
            refine q_Ru_call (v := none) (h2 := (q_kX (q_pt 32 32 108 1 s r2) c n)) rfl rfl ?_ ?_
            · exact (q_emWX_108_1 rfl (fun _ => rfl) ((dzt_W77_64_96 (q_vw 32 108 1 s) c n r2 er2).tb q_TB0_le)).le (Nat.le_of_ble_eq_true rfl)
            show q_Ru _ _ _ (37, [(1, .int 1), (0, .ref 64)], [], (q_kX (q_pt 32 32 108 1 s r2) c n)) _
            refine q_Ru_seg (g2 := (41, [(1, .int 1), (0, .ref 64)], [.int 2, .ref 64], (q_kX (q_pt 32 32 108 1 s r2) c n))) 4 (fun _ _ => rfl) ?_
            refine q_Ru_st1 (g2 := (44, [(1, .int 1), (0, .ref 64)], [], (q_kX (q_sI (q_pt 32 32 108 1 s r2) 0 2 2) c n))) rfl q_pX0_2 ?_
            refine q_Ru_seg (g2 := (45, [(1, .int 1), (0, .ref 64)], [.int 1], (q_kX (q_sI (q_pt 32 32 108 1 s r2) 0 2 2) c n))) 1 (fun _ _ => rfl) ?_
            exact q_Ru_ret rfl rfl
          show q_RP _ _ _ (6, [(0, .ref 64), (1, .ref 236)], [.int 1, .int 0, .ref 236], (q_kX (q_sI (q_pt 32 32 108 1 s r2) 0 2 2) c n)) _ _
          refine q_RP_seg (g2 := (7, [(0, .ref 64), (1, .ref 236)], [.long 1, .int 0, .ref 236], (q_kX (q_sI (q_pt 32 32 108 1 s r2) 0 2 2) c n))) 1 (fun _ _ => rfl) ?_
          refine q_RP_rsT (g2 := (8, [(0, .ref 64), (1, .ref 236)], [], (q_kX (q_sL (q_sI (q_pt 32 32 108 1 s r2) 0 2 2) 172 (vp_updL ((q_pt 32 32 108 1 s r2).2.2 172) 0 1)) c n))) rfl q_wX172 rfl ?_
          refine q_RP_seg (g2 := (15, [(0, .ref 64), (1, .ref 236)], [.int 0], (q_kX (q_sL (q_sI (q_pt 32 32 108 1 s r2) 0 2 2) 172 (vp_updL ((q_pt 32 32 108 1 s r2).2.2 172) 0 1)) c n))) 2 (fun _ _ => rfl) ?_
          exact q_RP_ret rfl rfl rfl
        | false =>
          refine q_RP_cF ?_
          cases h8 : decide (s.2.1 0 2 = 2) with
          | true =>
            refine q_RP_cT ?_
            refine q_RP_bd fun r3 er3 => ?_
            refine q_RP_call (v := (some (.int 2))) (h2 := (q_kX (q_sI (q_pt 32 32 140 1 s r3) 0 2 3) c n)) rfl rfl ?_ ?_
            · refine q_Ca_of (Nat.le_of_ble_eq_true rfl) ?_
              refine q_Ru_seg (g2 := (4, [(0, .ref 64)], [.int (s.2.1 0 2)], (q_kX s c n))) 2 (fun _ _ => rfl) ?_
              rw [of_decide_eq_true h8]
              refine q_Ru_seg (g2 := (34, [(1, .int 2), (0, .ref 64)], [.ref 65, .ref 204], (q_kX s c n))) 12 (fun _ _ => rfl) ?_
              refine q_Ru_call (v := none) (h2 := (q_kX (q_pt 32 32 140 1 s r3) c n)) rfl rfl ?_ ?_
              · exact (q_emWX_140_1 rfl (fun _ => rfl) ((dzt_W77_64_96 (q_vw 32 140 1 s) c n r3 er3).tb q_TB0_le)).le (Nat.le_of_ble_eq_true rfl)
              show q_Ru _ _ _ (37, [(1, .int 2), (0, .ref 64)], [], (q_kX (q_pt 32 32 140 1 s r3) c n)) _
              refine q_Ru_seg (g2 := (41, [(1, .int 2), (0, .ref 64)], [.int 3, .ref 64], (q_kX (q_pt 32 32 140 1 s r3) c n))) 4 (fun _ _ => rfl) ?_
              refine q_Ru_st1 (g2 := (44, [(1, .int 2), (0, .ref 64)], [], (q_kX (q_sI (q_pt 32 32 140 1 s r3) 0 2 3) c n))) rfl q_pX0_2 ?_
              refine q_Ru_seg (g2 := (45, [(1, .int 2), (0, .ref 64)], [.int 2], (q_kX (q_sI (q_pt 32 32 140 1 s r3) 0 2 3) c n))) 1 (fun _ _ => rfl) ?_
              exact q_Ru_ret rfl rfl
            show q_RP _ _ _ (6, [(0, .ref 64), (1, .ref 236)], [.int 2, .int 0, .ref 236], (q_kX (q_sI (q_pt 32 32 140 1 s r3) 0 2 3) c n)) _ _
            refine q_RP_seg (g2 := (7, [(0, .ref 64), (1, .ref 236)], [.long 2, .int 0, .ref 236], (q_kX (q_sI (q_pt 32 32 140 1 s r3) 0 2 3) c n))) 1 (fun _ _ => rfl) ?_
            refine q_RP_rsT (g2 := (8, [(0, .ref 64), (1, .ref 236)], [], (q_kX (q_sL (q_sI (q_pt 32 32 140 1 s r3) 0 2 3) 172 (vp_updL ((q_pt 32 32 140 1 s r3).2.2 172) 0 2)) c n))) rfl q_wX172 rfl ?_
            refine q_RP_seg (g2 := (15, [(0, .ref 64), (1, .ref 236)], [.int 0], (q_kX (q_sL (q_sI (q_pt 32 32 140 1 s r3) 0 2 3) 172 (vp_updL ((q_pt 32 32 140 1 s r3).2.2 172) 0 2)) c n))) 2 (fun _ _ => rfl) ?_
            exact q_RP_ret rfl rfl rfl
          | false =>
            refine q_RP_cF ?_
            exact q_RP_no
    | false =>
      refine q_RP_cF ?_
      refine q_RP_callH (E := "java/lang/IllegalStateException") (tg := 12) (i := 2) (h2 := (q_kX s (c + 1) (n + 6))) rfl rfl ?_ rfl ?_
      · refine q_Ca_of (Nat.le_of_ble_eq_true rfl) ?_
        refine q_Ru_seg (g2 := (6, [(1, .int (s.2.1 0 2)), (0, .ref 64)], [.int (s.2.1 0 2)], (q_kX s c n))) 4 (fun _ _ => rfl) ?_
        refine q_Ru_rsF (g2 := (9, [(1, .int (s.2.1 0 2)), (0, .ref 64)], [], (q_kX s c n))) rfl rfl h4 ?_
        refine q_Ru_seg (g2 := (11, [(1, .int (s.2.1 0 2)), (0, .ref 64)], [.int 3, .int (s.2.1 0 2)], (q_kX s c n))) 2 (fun _ _ => rfl) ?_
        refine q_Ru_rsF (g2 := (14, [(1, .int (s.2.1 0 2)), (0, .ref 64)], [], (q_kX s c n))) rfl rfl h5 ?_
        exact q_Ru_thr rfl rfl
      show q_RP _ _ _ (12, [(0, .ref 64), (1, .ref 236)], [], (q_kX s (c + 1) (n + 6))) _ _
      refine q_RP_seg (g2 := (13, [(0, .ref 64), (1, .ref 236)], [.int 1], (q_kX s (c + 1) (n + 6)))) 1 (fun _ _ => rfl) ?_
      exact q_RP_ret rfl rfl rfl
def dz_X23_64_236 (s : q_S) (a1 : Int32) : Option (q_S × Int32 × Nat) :=
  cond (decide (a1 < 0)) (some (s, 1, 1)) (cond (decide (a1 < s.2.1 0 2)) (cond (decide (a1 < 3)) (cond (decide (a1 = 0)) (cond (decide (0 < s.2.1 0 2)) ((dz_W111_66_98 (q_vw 32 1 76 s)).bind fun r1 => (dz_W77_64_96 (q_vw 32 1 76 s)).bind fun r2 => some ((q_sL (q_sI (q_pt 32 32 1 76 s r2) 34 7 0) 172 (vp_updL ((q_pt 32 32 1 76 s r2).2.2 172) 0 r1.toInt64)), 0, 0)) (some (s, 1, 1))) (cond (decide (a1 = 1)) (cond (decide (1 < s.2.1 0 2)) ((dz_W111_66_98 (q_vw 32 1 108 s)).bind fun r3 => (dz_W77_64_96 (q_vw 32 1 108 s)).bind fun r4 => some ((q_sL (q_sI (q_pt 32 32 1 108 s r4) 34 7 0) 172 (vp_updL ((q_pt 32 32 1 108 s r4).2.2 172) 0 r3.toInt64)), 0, 0)) (some (s, 1, 1))) (cond (decide (a1 = 2)) (cond (decide (2 < s.2.1 0 2)) ((dz_W111_66_98 (q_vw 32 1 140 s)).bind fun r5 => (dz_W77_64_96 (q_vw 32 1 140 s)).bind fun r6 => some ((q_sL (q_sI (q_pt 32 32 1 140 s r6) 34 7 0) 172 (vp_updL ((q_pt 32 32 1 140 s r6).2.2 172) 0 r5.toInt64)), 0, 0)) (some (s, 1, 1))) (none)))) (some (s, 1, 1))) (some (s, 1, 1)))
set_option maxHeartbeats 4000000 in
theorem dzt_X23_64_236 (z L : Nat) (xs : Nat → Int32) (s : q_S) (c n : Nat) (a1 : Int32) (x : q_S × Int32 × Nat) (h : dz_X23_64_236 s a1 = some x) : q_Ca (q_TBs z L xs) 7 23 [.ref 64, .int a1, .ref 236] (q_kX s c n) ((q_oEX c n) x) := by
  refine q_CaP_of (φ := (q_oEX c n)) (Nat.le_of_ble_eq_true rfl) ?_ h
  clear h
  unfold dz_X23_64_236
  refine q_RP_seg (g2 := (4, [(0, .ref 64), (1, .int a1), (2, .ref 236)], [.int a1, .ref 64, .int 0, .ref 236], (q_kX s c n))) 4 (fun _ _ => rfl) ?_
  cases h6 : decide (a1 < 0) with
  | true =>
    refine q_RP_cT ?_
    refine q_RP_callH (E := "java/util/NoSuchElementException") (tg := 13) (i := 3) (h2 := (q_kX s (c + 1) (n + 6))) rfl rfl ?_ rfl ?_
    · refine q_Ca_of (Nat.le_of_ble_eq_true rfl) ?_
      refine q_Ru_seg (g2 := (2, [(0, .ref 64), (1, .int a1)], [.int a1, .ref 64], (q_kX s c n))) 2 (fun _ _ => rfl) ?_
      refine q_Ru_call (v := (some (.null))) (h2 := (q_kX s c n)) rfl rfl ?_ ?_
      · refine q_Ca_of (Nat.le_of_ble_eq_true rfl) ?_
        refine q_Ru_seg (g2 := (1, [(0, .ref 64), (1, .int a1)], [.int a1], (q_kX s c n))) 1 (fun _ _ => rfl) ?_
        refine q_Ru_rsT (g2 := (26, [(0, .ref 64), (1, .int a1)], [], (q_kX s c n))) rfl rfl h6 ?_
        refine q_Ru_seg (g2 := (27, [(0, .ref 64), (1, .int a1)], [.null], (q_kX s c n))) 1 (fun _ _ => rfl) ?_
        exact q_Ru_ret rfl rfl
      show q_Ru _ _ _ (5, [(0, .ref 64), (1, .int a1)], [.null], (q_kX s c n)) _
      refine q_Ru_seg (g2 := (10, [(2, .null), (0, .ref 64), (1, .int a1)], [], (q_kX s c n))) 3 (fun _ _ => rfl) ?_
      exact q_Ru_thr rfl rfl
    show q_RP _ _ _ (13, [(0, .ref 64), (1, .int a1), (2, .ref 236)], [], (q_kX s (c + 1) (n + 6))) _ _
    refine q_RP_seg (g2 := (14, [(0, .ref 64), (1, .int a1), (2, .ref 236)], [.int 1], (q_kX s (c + 1) (n + 6)))) 1 (fun _ _ => rfl) ?_
    exact q_RP_ret rfl rfl rfl
  | false =>
    refine q_RP_cF ?_
    cases h7 : decide (a1 < s.2.1 0 2) with
    | true =>
      refine q_RP_cT ?_
      cases h8 : decide (a1 < 3) with
      | true =>
        refine q_RP_cT ?_
        cases h9 : decide (a1 = 0) with
        | true =>
          refine q_RP_cT ?_
          cases h10 : decide (0 < s.2.1 0 2) with
          | true =>
            refine q_RP_cT ?_
            refine q_RP_bd fun r1 er1 => ?_
            refine q_RP_bd fun r2 er2 => ?_
            refine q_RP_call (v := (some (.int r1))) (h2 := (q_kX (q_sI (q_pt 32 32 1 76 s r2) 34 7 0) c n)) rfl rfl ?_ ?_
            · refine q_Ca_of (Nat.le_of_ble_eq_true rfl) ?_
              refine q_Ru_seg (g2 := (2, [(0, .ref 64), (1, .int a1)], [.int a1, .ref 64], (q_kX s c n))) 2 (fun _ _ => rfl) ?_
              rw [of_decide_eq_true h9]
              refine q_Ru_call (v := (some (.ref 140))) (h2 := (q_kX s c n)) rfl rfl ?_ ?_
              · refine q_Ca_of (Nat.le_of_ble_eq_true rfl) ?_
                refine q_Ru_seg (g2 := (9, [(0, .ref 64), (1, .int 0)], [.int (s.2.1 0 2), .int 0], (q_kX s c n))) 5 (fun _ _ => rfl) ?_
                refine q_Ru_rsF (g2 := (12, [(0, .ref 64), (1, .int 0)], [], (q_kX s c n))) rfl rfl (q_d_geT h10) ?_
                refine q_Ru_seg (g2 := (27, [(0, .ref 64), (1, .int 0)], [.ref 140], (q_kX s c n))) 8 (fun _ _ => rfl) ?_
                exact q_Ru_ret rfl rfl
              show q_Ru _ _ _ (5, [(0, .ref 64), (1, .int 0)], [.ref 140], (q_kX s c n)) _
              refine q_Ru_seg (g2 := (37, [(2, .ref 140), (0, .ref 64), (1, .int 0)], [.ref 142, .ref 67], (q_kX s c n))) 10 (fun _ _ => rfl) ?_
              refine q_Ru_call (v := (some (.int r1))) (h2 := (q_kX s c n)) rfl rfl ?_ ?_
              · exact (q_emWX_1_76p rfl (fun _ => rfl) ((dzt_W111_66_98 (q_vw 32 1 76 s) c n r1 er1).tb q_TB0_le)).le (Nat.le_of_ble_eq_true rfl)
              show q_Ru _ _ _ (40, [(2, .ref 140), (0, .ref 64), (1, .int 0)], [.int r1], (q_kX s c n)) _
              refine q_Ru_seg (g2 := (46, [(3, .int r1), (2, .ref 140), (0, .ref 64), (1, .int 0)], [.ref 140, .ref 65], (q_kX s c n))) 4 (fun _ _ => rfl) ?_
              refine q_Ru_call (v := none) (h2 := (q_kX (q_pt 32 32 1 76 s r2) c n)) rfl rfl ?_ ?_
              · exact (q_emWX_1_76 rfl (fun _ => rfl) ((dzt_W77_64_96 (q_vw 32 1 76 s) c n r2 er2).tb q_TB0_le)).le (Nat.le_of_ble_eq_true rfl)
              show q_Ru _ _ _ (49, [(3, .int r1), (2, .ref 140), (0, .ref 64), (1, .int 0)], [], (q_kX (q_pt 32 32 1 76 s r2) c n)) _
              refine q_Ru_seg (g2 := (54, [(3, .int r1), (2, .ref 140), (0, .ref 64), (1, .int 0)], [.int 0, .ref 98], (q_kX (q_pt 32 32 1 76 s r2) c n))) 3 (fun _ _ => rfl) ?_
              refine q_Ru_st1 (g2 := (57, [(3, .int r1), (2, .ref 140), (0, .ref 64), (1, .int 0)], [], (q_kX (q_sI (q_pt 32 32 1 76 s r2) 34 7 0) c n))) rfl q_pX34_7f ?_
              refine q_Ru_seg (g2 := (58, [(3, .int r1), (2, .ref 140), (0, .ref 64), (1, .int 0)], [.int r1], (q_kX (q_sI (q_pt 32 32 1 76 s r2) 34 7 0) c n))) 1 (fun _ _ => rfl) ?_
              exact q_Ru_ret rfl rfl
            show q_RP _ _ _ (7, [(0, .ref 64), (1, .int a1), (2, .ref 236)], [.int r1, .int 0, .ref 236], (q_kX (q_sI (q_pt 32 32 1 76 s r2) 34 7 0) c n)) _ _
            refine q_RP_seg (g2 := (8, [(0, .ref 64), (1, .int a1), (2, .ref 236)], [.long r1.toInt64, .int 0, .ref 236], (q_kX (q_sI (q_pt 32 32 1 76 s r2) 34 7 0) c n))) 1 (fun _ _ => rfl) ?_
            refine q_RP_rsT (g2 := (9, [(0, .ref 64), (1, .int a1), (2, .ref 236)], [], (q_kX (q_sL (q_sI (q_pt 32 32 1 76 s r2) 34 7 0) 172 (vp_updL ((q_pt 32 32 1 76 s r2).2.2 172) 0 r1.toInt64)) c n))) rfl q_wX172 rfl ?_
            refine q_RP_seg (g2 := (16, [(0, .ref 64), (1, .int a1), (2, .ref 236)], [.int 0], (q_kX (q_sL (q_sI (q_pt 32 32 1 76 s r2) 34 7 0) 172 (vp_updL ((q_pt 32 32 1 76 s r2).2.2 172) 0 r1.toInt64)) c n))) 2 (fun _ _ => rfl) ?_
            exact q_RP_ret rfl rfl rfl
          | false =>
            refine q_RP_cF ?_
            refine q_RP_callH (E := "java/util/NoSuchElementException") (tg := 13) (i := 3) (h2 := (q_kX s (c + 1) (n + 6))) rfl rfl ?_ rfl ?_
            · refine q_Ca_of (Nat.le_of_ble_eq_true rfl) ?_
              refine q_Ru_seg (g2 := (2, [(0, .ref 64), (1, .int a1)], [.int a1, .ref 64], (q_kX s c n))) 2 (fun _ _ => rfl) ?_
              rw [of_decide_eq_true h9]
              refine q_Ru_call (v := (some (.null))) (h2 := (q_kX s c n)) rfl rfl ?_ ?_
              · refine q_Ca_of (Nat.le_of_ble_eq_true rfl) ?_
                refine q_Ru_seg (g2 := (9, [(0, .ref 64), (1, .int 0)], [.int (s.2.1 0 2), .int 0], (q_kX s c n))) 5 (fun _ _ => rfl) ?_
                refine q_Ru_rsT (g2 := (26, [(0, .ref 64), (1, .int 0)], [], (q_kX s c n))) rfl rfl (q_d_geF h10) ?_
                refine q_Ru_seg (g2 := (27, [(0, .ref 64), (1, .int 0)], [.null], (q_kX s c n))) 1 (fun _ _ => rfl) ?_
                exact q_Ru_ret rfl rfl
              show q_Ru _ _ _ (5, [(0, .ref 64), (1, .int 0)], [.null], (q_kX s c n)) _
              refine q_Ru_seg (g2 := (10, [(2, .null), (0, .ref 64), (1, .int 0)], [], (q_kX s c n))) 3 (fun _ _ => rfl) ?_
              exact q_Ru_thr rfl rfl
            show q_RP _ _ _ (13, [(0, .ref 64), (1, .int a1), (2, .ref 236)], [], (q_kX s (c + 1) (n + 6))) _ _
            refine q_RP_seg (g2 := (14, [(0, .ref 64), (1, .int a1), (2, .ref 236)], [.int 1], (q_kX s (c + 1) (n + 6)))) 1 (fun _ _ => rfl) ?_
            exact q_RP_ret rfl rfl rfl
        | false =>
          refine q_RP_cF ?_
          cases h11 : decide (a1 = 1) with
          | true =>
            refine q_RP_cT ?_
            cases h12 : decide (1 < s.2.1 0 2) with
            | true =>
              refine q_RP_cT ?_
              refine q_RP_bd fun r3 er3 => ?_
              refine q_RP_bd fun r4 er4 => ?_
              refine q_RP_call (v := (some (.int r3))) (h2 := (q_kX (q_sI (q_pt 32 32 1 108 s r4) 34 7 0) c n)) rfl rfl ?_ ?_
              · refine q_Ca_of (Nat.le_of_ble_eq_true rfl) ?_
                refine q_Ru_seg (g2 := (2, [(0, .ref 64), (1, .int a1)], [.int a1, .ref 64], (q_kX s c n))) 2 (fun _ _ => rfl) ?_
                rw [of_decide_eq_true h11]
                refine q_Ru_call (v := (some (.ref 172))) (h2 := (q_kX s c n)) rfl rfl ?_ ?_
                · refine q_Ca_of (Nat.le_of_ble_eq_true rfl) ?_
                  refine q_Ru_seg (g2 := (9, [(0, .ref 64), (1, .int 1)], [.int (s.2.1 0 2), .int 1], (q_kX s c n))) 5 (fun _ _ => rfl) ?_
                  refine q_Ru_rsF (g2 := (12, [(0, .ref 64), (1, .int 1)], [], (q_kX s c n))) rfl rfl (q_d_geT h12) ?_
                  refine q_Ru_seg (g2 := (27, [(0, .ref 64), (1, .int 1)], [.ref 172], (q_kX s c n))) 8 (fun _ _ => rfl) ?_
                  exact q_Ru_ret rfl rfl
                show q_Ru _ _ _ (5, [(0, .ref 64), (1, .int 1)], [.ref 172], (q_kX s c n)) _
                refine q_Ru_seg (g2 := (37, [(2, .ref 172), (0, .ref 64), (1, .int 1)], [.ref 174, .ref 67], (q_kX s c n))) 10 (fun _ _ => rfl) ?_
                refine q_Ru_call (v := (some (.int r3))) (h2 := (q_kX s c n)) rfl rfl ?_ ?_
                · exact (q_emWX_1_108p rfl (fun _ => rfl) ((dzt_W111_66_98 (q_vw 32 1 108 s) c n r3 er3).tb q_TB0_le)).le (Nat.le_of_ble_eq_true rfl)
                show q_Ru _ _ _ (40, [(2, .ref 172), (0, .ref 64), (1, .int 1)], [.int r3], (q_kX s c n)) _
                refine q_Ru_seg (g2 := (46, [(3, .int r3), (2, .ref 172), (0, .ref 64), (1, .int 1)], [.ref 172, .ref 65], (q_kX s c n))) 4 (fun _ _ => rfl) ?_
                refine q_Ru_call (v := none) (h2 := (q_kX (q_pt 32 32 1 108 s r4) c n)) rfl rfl ?_ ?_
                · exact (q_emWX_1_108 rfl (fun _ => rfl) ((dzt_W77_64_96 (q_vw 32 1 108 s) c n r4 er4).tb q_TB0_le)).le (Nat.le_of_ble_eq_true rfl)
                show q_Ru _ _ _ (49, [(3, .int r3), (2, .ref 172), (0, .ref 64), (1, .int 1)], [], (q_kX (q_pt 32 32 1 108 s r4) c n)) _
                refine q_Ru_seg (g2 := (54, [(3, .int r3), (2, .ref 172), (0, .ref 64), (1, .int 1)], [.int 0, .ref 98], (q_kX (q_pt 32 32 1 108 s r4) c n))) 3 (fun _ _ => rfl) ?_
                refine q_Ru_st1 (g2 := (57, [(3, .int r3), (2, .ref 172), (0, .ref 64), (1, .int 1)], [], (q_kX (q_sI (q_pt 32 32 1 108 s r4) 34 7 0) c n))) rfl q_pX34_7f ?_
                refine q_Ru_seg (g2 := (58, [(3, .int r3), (2, .ref 172), (0, .ref 64), (1, .int 1)], [.int r3], (q_kX (q_sI (q_pt 32 32 1 108 s r4) 34 7 0) c n))) 1 (fun _ _ => rfl) ?_
                exact q_Ru_ret rfl rfl
              show q_RP _ _ _ (7, [(0, .ref 64), (1, .int a1), (2, .ref 236)], [.int r3, .int 0, .ref 236], (q_kX (q_sI (q_pt 32 32 1 108 s r4) 34 7 0) c n)) _ _
              refine q_RP_seg (g2 := (8, [(0, .ref 64), (1, .int a1), (2, .ref 236)], [.long r3.toInt64, .int 0, .ref 236], (q_kX (q_sI (q_pt 32 32 1 108 s r4) 34 7 0) c n))) 1 (fun _ _ => rfl) ?_
              refine q_RP_rsT (g2 := (9, [(0, .ref 64), (1, .int a1), (2, .ref 236)], [], (q_kX (q_sL (q_sI (q_pt 32 32 1 108 s r4) 34 7 0) 172 (vp_updL ((q_pt 32 32 1 108 s r4).2.2 172) 0 r3.toInt64)) c n))) rfl q_wX172 rfl ?_
              refine q_RP_seg (g2 := (16, [(0, .ref 64), (1, .int a1), (2, .ref 236)], [.int 0], (q_kX (q_sL (q_sI (q_pt 32 32 1 108 s r4) 34 7 0) 172 (vp_updL ((q_pt 32 32 1 108 s r4).2.2 172) 0 r3.toInt64)) c n))) 2 (fun _ _ => rfl) ?_
              exact q_RP_ret rfl rfl rfl
            | false =>
              refine q_RP_cF ?_
              refine q_RP_callH (E := "java/util/NoSuchElementException") (tg := 13) (i := 3) (h2 := (q_kX s (c + 1) (n + 6))) rfl rfl ?_ rfl ?_
              · refine q_Ca_of (Nat.le_of_ble_eq_true rfl) ?_
                refine q_Ru_seg (g2 := (2, [(0, .ref 64), (1, .int a1)], [.int a1, .ref 64], (q_kX s c n))) 2 (fun _ _ => rfl) ?_
                rw [of_decide_eq_true h11]
                refine q_Ru_call (v := (some (.null))) (h2 := (q_kX s c n)) rfl rfl ?_ ?_
                · refine q_Ca_of (Nat.le_of_ble_eq_true rfl) ?_
                  refine q_Ru_seg (g2 := (9, [(0, .ref 64), (1, .int 1)], [.int (s.2.1 0 2), .int 1], (q_kX s c n))) 5 (fun _ _ => rfl) ?_
                  refine q_Ru_rsT (g2 := (26, [(0, .ref 64), (1, .int 1)], [], (q_kX s c n))) rfl rfl (q_d_geF h12) ?_
                  refine q_Ru_seg (g2 := (27, [(0, .ref 64), (1, .int 1)], [.null], (q_kX s c n))) 1 (fun _ _ => rfl) ?_
                  exact q_Ru_ret rfl rfl
                show q_Ru _ _ _ (5, [(0, .ref 64), (1, .int 1)], [.null], (q_kX s c n)) _
                refine q_Ru_seg (g2 := (10, [(2, .null), (0, .ref 64), (1, .int 1)], [], (q_kX s c n))) 3 (fun _ _ => rfl) ?_
                exact q_Ru_thr rfl rfl
              show q_RP _ _ _ (13, [(0, .ref 64), (1, .int a1), (2, .ref 236)], [], (q_kX s (c + 1) (n + 6))) _ _
              refine q_RP_seg (g2 := (14, [(0, .ref 64), (1, .int a1), (2, .ref 236)], [.int 1], (q_kX s (c + 1) (n + 6)))) 1 (fun _ _ => rfl) ?_
              exact q_RP_ret rfl rfl rfl
          | false =>
            refine q_RP_cF ?_
            cases h13 : decide (a1 = 2) with
            | true =>
              refine q_RP_cT ?_
              cases h14 : decide (2 < s.2.1 0 2) with
              | true =>
                refine q_RP_cT ?_
                refine q_RP_bd fun r5 er5 => ?_
                refine q_RP_bd fun r6 er6 => ?_
                refine q_RP_call (v := (some (.int r5))) (h2 := (q_kX (q_sI (q_pt 32 32 1 140 s r6) 34 7 0) c n)) rfl rfl ?_ ?_
                · refine q_Ca_of (Nat.le_of_ble_eq_true rfl) ?_
                  refine q_Ru_seg (g2 := (2, [(0, .ref 64), (1, .int a1)], [.int a1, .ref 64], (q_kX s c n))) 2 (fun _ _ => rfl) ?_
                  rw [of_decide_eq_true h13]
                  refine q_Ru_call (v := (some (.ref 204))) (h2 := (q_kX s c n)) rfl rfl ?_ ?_
                  · refine q_Ca_of (Nat.le_of_ble_eq_true rfl) ?_
                    refine q_Ru_seg (g2 := (9, [(0, .ref 64), (1, .int 2)], [.int (s.2.1 0 2), .int 2], (q_kX s c n))) 5 (fun _ _ => rfl) ?_
                    refine q_Ru_rsF (g2 := (12, [(0, .ref 64), (1, .int 2)], [], (q_kX s c n))) rfl rfl (q_d_geT h14) ?_
                    refine q_Ru_seg (g2 := (27, [(0, .ref 64), (1, .int 2)], [.ref 204], (q_kX s c n))) 8 (fun _ _ => rfl) ?_
                    exact q_Ru_ret rfl rfl
                  show q_Ru _ _ _ (5, [(0, .ref 64), (1, .int 2)], [.ref 204], (q_kX s c n)) _
                  refine q_Ru_seg (g2 := (37, [(2, .ref 204), (0, .ref 64), (1, .int 2)], [.ref 206, .ref 67], (q_kX s c n))) 10 (fun _ _ => rfl) ?_
                  refine q_Ru_call (v := (some (.int r5))) (h2 := (q_kX s c n)) rfl rfl ?_ ?_
                  · exact (q_emWX_1_140p rfl (fun _ => rfl) ((dzt_W111_66_98 (q_vw 32 1 140 s) c n r5 er5).tb q_TB0_le)).le (Nat.le_of_ble_eq_true rfl)
                  show q_Ru _ _ _ (40, [(2, .ref 204), (0, .ref 64), (1, .int 2)], [.int r5], (q_kX s c n)) _
                  refine q_Ru_seg (g2 := (46, [(3, .int r5), (2, .ref 204), (0, .ref 64), (1, .int 2)], [.ref 204, .ref 65], (q_kX s c n))) 4 (fun _ _ => rfl) ?_
                  refine q_Ru_call (v := none) (h2 := (q_kX (q_pt 32 32 1 140 s r6) c n)) rfl rfl ?_ ?_
                  · exact (q_emWX_1_140 rfl (fun _ => rfl) ((dzt_W77_64_96 (q_vw 32 1 140 s) c n r6 er6).tb q_TB0_le)).le (Nat.le_of_ble_eq_true rfl)
                  show q_Ru _ _ _ (49, [(3, .int r5), (2, .ref 204), (0, .ref 64), (1, .int 2)], [], (q_kX (q_pt 32 32 1 140 s r6) c n)) _
                  refine q_Ru_seg (g2 := (54, [(3, .int r5), (2, .ref 204), (0, .ref 64), (1, .int 2)], [.int 0, .ref 98], (q_kX (q_pt 32 32 1 140 s r6) c n))) 3 (fun _ _ => rfl) ?_
                  refine q_Ru_st1 (g2 := (57, [(3, .int r5), (2, .ref 204), (0, .ref 64), (1, .int 2)], [], (q_kX (q_sI (q_pt 32 32 1 140 s r6) 34 7 0) c n))) rfl q_pX34_7f ?_
                  refine q_Ru_seg (g2 := (58, [(3, .int r5), (2, .ref 204), (0, .ref 64), (1, .int 2)], [.int r5], (q_kX (q_sI (q_pt 32 32 1 140 s r6) 34 7 0) c n))) 1 (fun _ _ => rfl) ?_
                  exact q_Ru_ret rfl rfl
                show q_RP _ _ _ (7, [(0, .ref 64), (1, .int a1), (2, .ref 236)], [.int r5, .int 0, .ref 236], (q_kX (q_sI (q_pt 32 32 1 140 s r6) 34 7 0) c n)) _ _
                refine q_RP_seg (g2 := (8, [(0, .ref 64), (1, .int a1), (2, .ref 236)], [.long r5.toInt64, .int 0, .ref 236], (q_kX (q_sI (q_pt 32 32 1 140 s r6) 34 7 0) c n))) 1 (fun _ _ => rfl) ?_
                refine q_RP_rsT (g2 := (9, [(0, .ref 64), (1, .int a1), (2, .ref 236)], [], (q_kX (q_sL (q_sI (q_pt 32 32 1 140 s r6) 34 7 0) 172 (vp_updL ((q_pt 32 32 1 140 s r6).2.2 172) 0 r5.toInt64)) c n))) rfl q_wX172 rfl ?_
                refine q_RP_seg (g2 := (16, [(0, .ref 64), (1, .int a1), (2, .ref 236)], [.int 0], (q_kX (q_sL (q_sI (q_pt 32 32 1 140 s r6) 34 7 0) 172 (vp_updL ((q_pt 32 32 1 140 s r6).2.2 172) 0 r5.toInt64)) c n))) 2 (fun _ _ => rfl) ?_
                exact q_RP_ret rfl rfl rfl
              | false =>
                refine q_RP_cF ?_
                refine q_RP_callH (E := "java/util/NoSuchElementException") (tg := 13) (i := 3) (h2 := (q_kX s (c + 1) (n + 6))) rfl rfl ?_ rfl ?_
                · refine q_Ca_of (Nat.le_of_ble_eq_true rfl) ?_
                  refine q_Ru_seg (g2 := (2, [(0, .ref 64), (1, .int a1)], [.int a1, .ref 64], (q_kX s c n))) 2 (fun _ _ => rfl) ?_
                  rw [of_decide_eq_true h13]
                  refine q_Ru_call (v := (some (.null))) (h2 := (q_kX s c n)) rfl rfl ?_ ?_
                  · refine q_Ca_of (Nat.le_of_ble_eq_true rfl) ?_
                    refine q_Ru_seg (g2 := (9, [(0, .ref 64), (1, .int 2)], [.int (s.2.1 0 2), .int 2], (q_kX s c n))) 5 (fun _ _ => rfl) ?_
                    refine q_Ru_rsT (g2 := (26, [(0, .ref 64), (1, .int 2)], [], (q_kX s c n))) rfl rfl (q_d_geF h14) ?_
                    refine q_Ru_seg (g2 := (27, [(0, .ref 64), (1, .int 2)], [.null], (q_kX s c n))) 1 (fun _ _ => rfl) ?_
                    exact q_Ru_ret rfl rfl
                  show q_Ru _ _ _ (5, [(0, .ref 64), (1, .int 2)], [.null], (q_kX s c n)) _
                  refine q_Ru_seg (g2 := (10, [(2, .null), (0, .ref 64), (1, .int 2)], [], (q_kX s c n))) 3 (fun _ _ => rfl) ?_
                  exact q_Ru_thr rfl rfl
                show q_RP _ _ _ (13, [(0, .ref 64), (1, .int a1), (2, .ref 236)], [], (q_kX s (c + 1) (n + 6))) _ _
                refine q_RP_seg (g2 := (14, [(0, .ref 64), (1, .int a1), (2, .ref 236)], [.int 1], (q_kX s (c + 1) (n + 6)))) 1 (fun _ _ => rfl) ?_
                exact q_RP_ret rfl rfl rfl
            | false =>
              refine q_RP_cF ?_
              exact q_RP_no
      | false =>
        refine q_RP_cF ?_
        refine q_RP_callH (E := "java/util/NoSuchElementException") (tg := 13) (i := 3) (h2 := (q_kX s (c + 1) (n + 6))) rfl rfl ?_ rfl ?_
        · refine q_Ca_of (Nat.le_of_ble_eq_true rfl) ?_
          refine q_Ru_seg (g2 := (2, [(0, .ref 64), (1, .int a1)], [.int a1, .ref 64], (q_kX s c n))) 2 (fun _ _ => rfl) ?_
          refine q_Ru_call (v := (some (.null))) (h2 := (q_kX s c n)) rfl rfl ?_ ?_
          · refine q_Ca_of (Nat.le_of_ble_eq_true rfl) ?_
            refine q_Ru_seg (g2 := (1, [(0, .ref 64), (1, .int a1)], [.int a1], (q_kX s c n))) 1 (fun _ _ => rfl) ?_
            refine q_Ru_rsF (g2 := (4, [(0, .ref 64), (1, .int a1)], [], (q_kX s c n))) rfl rfl h6 ?_
            refine q_Ru_seg (g2 := (9, [(0, .ref 64), (1, .int a1)], [.int (s.2.1 0 2), .int a1], (q_kX s c n))) 3 (fun _ _ => rfl) ?_
            refine q_Ru_rsF (g2 := (12, [(0, .ref 64), (1, .int a1)], [], (q_kX s c n))) rfl rfl (q_d_geT h7) ?_
            refine q_Ru_seg (g2 := (14, [(0, .ref 64), (1, .int a1)], [.int 3, .int a1], (q_kX s c n))) 2 (fun _ _ => rfl) ?_
            refine q_Ru_rsT (g2 := (26, [(0, .ref 64), (1, .int a1)], [], (q_kX s c n))) rfl rfl (q_d_geF h8) ?_
            refine q_Ru_seg (g2 := (27, [(0, .ref 64), (1, .int a1)], [.null], (q_kX s c n))) 1 (fun _ _ => rfl) ?_
            exact q_Ru_ret rfl rfl
          show q_Ru _ _ _ (5, [(0, .ref 64), (1, .int a1)], [.null], (q_kX s c n)) _
          refine q_Ru_seg (g2 := (10, [(2, .null), (0, .ref 64), (1, .int a1)], [], (q_kX s c n))) 3 (fun _ _ => rfl) ?_
          exact q_Ru_thr rfl rfl
        show q_RP _ _ _ (13, [(0, .ref 64), (1, .int a1), (2, .ref 236)], [], (q_kX s (c + 1) (n + 6))) _ _
        refine q_RP_seg (g2 := (14, [(0, .ref 64), (1, .int a1), (2, .ref 236)], [.int 1], (q_kX s (c + 1) (n + 6)))) 1 (fun _ _ => rfl) ?_
        exact q_RP_ret rfl rfl rfl
    | false =>
      refine q_RP_cF ?_
      refine q_RP_callH (E := "java/util/NoSuchElementException") (tg := 13) (i := 3) (h2 := (q_kX s (c + 1) (n + 6))) rfl rfl ?_ rfl ?_
      · refine q_Ca_of (Nat.le_of_ble_eq_true rfl) ?_
        refine q_Ru_seg (g2 := (2, [(0, .ref 64), (1, .int a1)], [.int a1, .ref 64], (q_kX s c n))) 2 (fun _ _ => rfl) ?_
        refine q_Ru_call (v := (some (.null))) (h2 := (q_kX s c n)) rfl rfl ?_ ?_
        · refine q_Ca_of (Nat.le_of_ble_eq_true rfl) ?_
          refine q_Ru_seg (g2 := (1, [(0, .ref 64), (1, .int a1)], [.int a1], (q_kX s c n))) 1 (fun _ _ => rfl) ?_
          refine q_Ru_rsF (g2 := (4, [(0, .ref 64), (1, .int a1)], [], (q_kX s c n))) rfl rfl h6 ?_
          refine q_Ru_seg (g2 := (9, [(0, .ref 64), (1, .int a1)], [.int (s.2.1 0 2), .int a1], (q_kX s c n))) 3 (fun _ _ => rfl) ?_
          refine q_Ru_rsT (g2 := (26, [(0, .ref 64), (1, .int a1)], [], (q_kX s c n))) rfl rfl (q_d_geF h7) ?_
          refine q_Ru_seg (g2 := (27, [(0, .ref 64), (1, .int a1)], [.null], (q_kX s c n))) 1 (fun _ _ => rfl) ?_
          exact q_Ru_ret rfl rfl
        show q_Ru _ _ _ (5, [(0, .ref 64), (1, .int a1)], [.null], (q_kX s c n)) _
        refine q_Ru_seg (g2 := (10, [(2, .null), (0, .ref 64), (1, .int a1)], [], (q_kX s c n))) 3 (fun _ _ => rfl) ?_
        exact q_Ru_thr rfl rfl
      show q_RP _ _ _ (13, [(0, .ref 64), (1, .int a1), (2, .ref 236)], [], (q_kX s (c + 1) (n + 6))) _ _
      refine q_RP_seg (g2 := (14, [(0, .ref 64), (1, .int a1), (2, .ref 236)], [.int 1], (q_kX s (c + 1) (n + 6)))) 1 (fun _ _ => rfl) ?_
      exact q_RP_ret rfl rfl rfl
def dz_X24_64_236 (s : q_S) (a1 : Int32) : Option (q_S × Int32 × Nat) :=
  cond (decide (a1 < 0)) (some (s, 1, 1)) (cond (decide (a1 < s.2.1 0 2)) (cond (decide (a1 < 3)) (cond (decide (a1 = 0)) (cond (decide (0 < s.2.1 0 2)) ((dz_W111_66_98 (q_vw 32 1 76 s)).bind fun r1 => some ((q_sL s 172 (vp_updL (s.2.2 172) 0 r1.toInt64)), 0, 0)) (some (s, 1, 1))) (cond (decide (a1 = 1)) (cond (decide (1 < s.2.1 0 2)) ((dz_W111_66_98 (q_vw 32 1 108 s)).bind fun r2 => some ((q_sL s 172 (vp_updL (s.2.2 172) 0 r2.toInt64)), 0, 0)) (some (s, 1, 1))) (cond (decide (a1 = 2)) (cond (decide (2 < s.2.1 0 2)) ((dz_W111_66_98 (q_vw 32 1 140 s)).bind fun r3 => some ((q_sL s 172 (vp_updL (s.2.2 172) 0 r3.toInt64)), 0, 0)) (some (s, 1, 1))) (none)))) (some (s, 1, 1))) (some (s, 1, 1)))
set_option maxHeartbeats 4000000 in
theorem dzt_X24_64_236 (z L : Nat) (xs : Nat → Int32) (s : q_S) (c n : Nat) (a1 : Int32) (x : q_S × Int32 × Nat) (h : dz_X24_64_236 s a1 = some x) : q_Ca (q_TBs z L xs) 4 24 [.ref 64, .int a1, .ref 236] (q_kX s c n) ((q_oEX c n) x) := by
  refine q_CaP_of (φ := (q_oEX c n)) (Nat.le_of_ble_eq_true rfl) ?_ h
  clear h
  unfold dz_X24_64_236
  refine q_RP_seg (g2 := (4, [(0, .ref 64), (1, .int a1), (2, .ref 236)], [.int a1, .ref 64, .int 0, .ref 236], (q_kX s c n))) 4 (fun _ _ => rfl) ?_
  cases h6 : decide (a1 < 0) with
  | true =>
    refine q_RP_cT ?_
    refine q_RP_callH (E := "java/util/NoSuchElementException") (tg := 13) (i := 3) (h2 := (q_kX s (c + 1) (n + 6))) rfl rfl ?_ rfl ?_
    · refine q_Ca_of (Nat.le_of_ble_eq_true rfl) ?_
      refine q_Ru_seg (g2 := (2, [(0, .ref 64), (1, .int a1)], [.int a1, .ref 64], (q_kX s c n))) 2 (fun _ _ => rfl) ?_
      refine q_Ru_call (v := (some (.null))) (h2 := (q_kX s c n)) rfl rfl ?_ ?_
      · refine q_Ca_of (Nat.le_of_ble_eq_true rfl) ?_
        refine q_Ru_seg (g2 := (1, [(0, .ref 64), (1, .int a1)], [.int a1], (q_kX s c n))) 1 (fun _ _ => rfl) ?_
        refine q_Ru_rsT (g2 := (26, [(0, .ref 64), (1, .int a1)], [], (q_kX s c n))) rfl rfl h6 ?_
        refine q_Ru_seg (g2 := (27, [(0, .ref 64), (1, .int a1)], [.null], (q_kX s c n))) 1 (fun _ _ => rfl) ?_
        exact q_Ru_ret rfl rfl
      show q_Ru _ _ _ (5, [(0, .ref 64), (1, .int a1)], [.null], (q_kX s c n)) _
      refine q_Ru_seg (g2 := (10, [(2, .null), (0, .ref 64), (1, .int a1)], [], (q_kX s c n))) 3 (fun _ _ => rfl) ?_
      exact q_Ru_thr rfl rfl
    show q_RP _ _ _ (13, [(0, .ref 64), (1, .int a1), (2, .ref 236)], [], (q_kX s (c + 1) (n + 6))) _ _
    refine q_RP_seg (g2 := (14, [(0, .ref 64), (1, .int a1), (2, .ref 236)], [.int 1], (q_kX s (c + 1) (n + 6)))) 1 (fun _ _ => rfl) ?_
    exact q_RP_ret rfl rfl rfl
  | false =>
    refine q_RP_cF ?_
    cases h7 : decide (a1 < s.2.1 0 2) with
    | true =>
      refine q_RP_cT ?_
      cases h8 : decide (a1 < 3) with
      | true =>
        refine q_RP_cT ?_
        cases h9 : decide (a1 = 0) with
        | true =>
          refine q_RP_cT ?_
          cases h10 : decide (0 < s.2.1 0 2) with
          | true =>
            refine q_RP_cT ?_
            refine q_RP_bd fun r1 er1 => ?_
            refine q_RP_call (v := (some (.int r1))) (h2 := (q_kX s c n)) rfl rfl ?_ ?_
            · refine q_Ca_of (Nat.le_of_ble_eq_true rfl) ?_
              refine q_Ru_seg (g2 := (2, [(0, .ref 64), (1, .int a1)], [.int a1, .ref 64], (q_kX s c n))) 2 (fun _ _ => rfl) ?_
              rw [of_decide_eq_true h9]
              refine q_Ru_call (v := (some (.ref 140))) (h2 := (q_kX s c n)) rfl rfl ?_ ?_
              · refine q_Ca_of (Nat.le_of_ble_eq_true rfl) ?_
                refine q_Ru_seg (g2 := (9, [(0, .ref 64), (1, .int 0)], [.int (s.2.1 0 2), .int 0], (q_kX s c n))) 5 (fun _ _ => rfl) ?_
                refine q_Ru_rsF (g2 := (12, [(0, .ref 64), (1, .int 0)], [], (q_kX s c n))) rfl rfl (q_d_geT h10) ?_
                refine q_Ru_seg (g2 := (27, [(0, .ref 64), (1, .int 0)], [.ref 140], (q_kX s c n))) 8 (fun _ _ => rfl) ?_
                exact q_Ru_ret rfl rfl
              show q_Ru _ _ _ (5, [(0, .ref 64), (1, .int 0)], [.ref 140], (q_kX s c n)) _
              refine q_Ru_seg (g2 := (37, [(2, .ref 140), (0, .ref 64), (1, .int 0)], [.ref 142, .ref 67], (q_kX s c n))) 10 (fun _ _ => rfl) ?_
              refine q_Ru_call (v := (some (.int r1))) (h2 := (q_kX s c n)) rfl rfl ?_ ?_
              · exact (q_emWX_1_76p rfl (fun _ => rfl) ((dzt_W111_66_98 (q_vw 32 1 76 s) c n r1 er1).tb q_TB0_le)).le (Nat.le_of_ble_eq_true rfl)
              show q_Ru _ _ _ (40, [(2, .ref 140), (0, .ref 64), (1, .int 0)], [.int r1], (q_kX s c n)) _
              exact q_Ru_ret rfl rfl
            show q_RP _ _ _ (7, [(0, .ref 64), (1, .int a1), (2, .ref 236)], [.int r1, .int 0, .ref 236], (q_kX s c n)) _ _
            refine q_RP_seg (g2 := (8, [(0, .ref 64), (1, .int a1), (2, .ref 236)], [.long r1.toInt64, .int 0, .ref 236], (q_kX s c n))) 1 (fun _ _ => rfl) ?_
            refine q_RP_rsT (g2 := (9, [(0, .ref 64), (1, .int a1), (2, .ref 236)], [], (q_kX (q_sL s 172 (vp_updL (s.2.2 172) 0 r1.toInt64)) c n))) rfl q_wX172 rfl ?_
            refine q_RP_seg (g2 := (16, [(0, .ref 64), (1, .int a1), (2, .ref 236)], [.int 0], (q_kX (q_sL s 172 (vp_updL (s.2.2 172) 0 r1.toInt64)) c n))) 2 (fun _ _ => rfl) ?_
            exact q_RP_ret rfl rfl rfl
          | false =>
            refine q_RP_cF ?_
            refine q_RP_callH (E := "java/util/NoSuchElementException") (tg := 13) (i := 3) (h2 := (q_kX s (c + 1) (n + 6))) rfl rfl ?_ rfl ?_
            · refine q_Ca_of (Nat.le_of_ble_eq_true rfl) ?_
              refine q_Ru_seg (g2 := (2, [(0, .ref 64), (1, .int a1)], [.int a1, .ref 64], (q_kX s c n))) 2 (fun _ _ => rfl) ?_
              rw [of_decide_eq_true h9]
              refine q_Ru_call (v := (some (.null))) (h2 := (q_kX s c n)) rfl rfl ?_ ?_
              · refine q_Ca_of (Nat.le_of_ble_eq_true rfl) ?_
                refine q_Ru_seg (g2 := (9, [(0, .ref 64), (1, .int 0)], [.int (s.2.1 0 2), .int 0], (q_kX s c n))) 5 (fun _ _ => rfl) ?_
                refine q_Ru_rsT (g2 := (26, [(0, .ref 64), (1, .int 0)], [], (q_kX s c n))) rfl rfl (q_d_geF h10) ?_
                refine q_Ru_seg (g2 := (27, [(0, .ref 64), (1, .int 0)], [.null], (q_kX s c n))) 1 (fun _ _ => rfl) ?_
                exact q_Ru_ret rfl rfl
              show q_Ru _ _ _ (5, [(0, .ref 64), (1, .int 0)], [.null], (q_kX s c n)) _
              refine q_Ru_seg (g2 := (10, [(2, .null), (0, .ref 64), (1, .int 0)], [], (q_kX s c n))) 3 (fun _ _ => rfl) ?_
              exact q_Ru_thr rfl rfl
            show q_RP _ _ _ (13, [(0, .ref 64), (1, .int a1), (2, .ref 236)], [], (q_kX s (c + 1) (n + 6))) _ _
            refine q_RP_seg (g2 := (14, [(0, .ref 64), (1, .int a1), (2, .ref 236)], [.int 1], (q_kX s (c + 1) (n + 6)))) 1 (fun _ _ => rfl) ?_
            exact q_RP_ret rfl rfl rfl
        | false =>
          refine q_RP_cF ?_
          cases h11 : decide (a1 = 1) with
          | true =>
            refine q_RP_cT ?_
            cases h12 : decide (1 < s.2.1 0 2) with
            | true =>
              refine q_RP_cT ?_
              refine q_RP_bd fun r2 er2 => ?_
              refine q_RP_call (v := (some (.int r2))) (h2 := (q_kX s c n)) rfl rfl ?_ ?_
              · refine q_Ca_of (Nat.le_of_ble_eq_true rfl) ?_
                refine q_Ru_seg (g2 := (2, [(0, .ref 64), (1, .int a1)], [.int a1, .ref 64], (q_kX s c n))) 2 (fun _ _ => rfl) ?_
                rw [of_decide_eq_true h11]
                refine q_Ru_call (v := (some (.ref 172))) (h2 := (q_kX s c n)) rfl rfl ?_ ?_
                · refine q_Ca_of (Nat.le_of_ble_eq_true rfl) ?_
                  refine q_Ru_seg (g2 := (9, [(0, .ref 64), (1, .int 1)], [.int (s.2.1 0 2), .int 1], (q_kX s c n))) 5 (fun _ _ => rfl) ?_
                  refine q_Ru_rsF (g2 := (12, [(0, .ref 64), (1, .int 1)], [], (q_kX s c n))) rfl rfl (q_d_geT h12) ?_
                  refine q_Ru_seg (g2 := (27, [(0, .ref 64), (1, .int 1)], [.ref 172], (q_kX s c n))) 8 (fun _ _ => rfl) ?_
                  exact q_Ru_ret rfl rfl
                show q_Ru _ _ _ (5, [(0, .ref 64), (1, .int 1)], [.ref 172], (q_kX s c n)) _
                refine q_Ru_seg (g2 := (37, [(2, .ref 172), (0, .ref 64), (1, .int 1)], [.ref 174, .ref 67], (q_kX s c n))) 10 (fun _ _ => rfl) ?_
                refine q_Ru_call (v := (some (.int r2))) (h2 := (q_kX s c n)) rfl rfl ?_ ?_
                · exact (q_emWX_1_108p rfl (fun _ => rfl) ((dzt_W111_66_98 (q_vw 32 1 108 s) c n r2 er2).tb q_TB0_le)).le (Nat.le_of_ble_eq_true rfl)
                show q_Ru _ _ _ (40, [(2, .ref 172), (0, .ref 64), (1, .int 1)], [.int r2], (q_kX s c n)) _
                exact q_Ru_ret rfl rfl
              show q_RP _ _ _ (7, [(0, .ref 64), (1, .int a1), (2, .ref 236)], [.int r2, .int 0, .ref 236], (q_kX s c n)) _ _
              refine q_RP_seg (g2 := (8, [(0, .ref 64), (1, .int a1), (2, .ref 236)], [.long r2.toInt64, .int 0, .ref 236], (q_kX s c n))) 1 (fun _ _ => rfl) ?_
              refine q_RP_rsT (g2 := (9, [(0, .ref 64), (1, .int a1), (2, .ref 236)], [], (q_kX (q_sL s 172 (vp_updL (s.2.2 172) 0 r2.toInt64)) c n))) rfl q_wX172 rfl ?_
              refine q_RP_seg (g2 := (16, [(0, .ref 64), (1, .int a1), (2, .ref 236)], [.int 0], (q_kX (q_sL s 172 (vp_updL (s.2.2 172) 0 r2.toInt64)) c n))) 2 (fun _ _ => rfl) ?_
              exact q_RP_ret rfl rfl rfl
            | false =>
              refine q_RP_cF ?_
              refine q_RP_callH (E := "java/util/NoSuchElementException") (tg := 13) (i := 3) (h2 := (q_kX s (c + 1) (n + 6))) rfl rfl ?_ rfl ?_
              · refine q_Ca_of (Nat.le_of_ble_eq_true rfl) ?_
                refine q_Ru_seg (g2 := (2, [(0, .ref 64), (1, .int a1)], [.int a1, .ref 64], (q_kX s c n))) 2 (fun _ _ => rfl) ?_
                rw [of_decide_eq_true h11]
                refine q_Ru_call (v := (some (.null))) (h2 := (q_kX s c n)) rfl rfl ?_ ?_
                · refine q_Ca_of (Nat.le_of_ble_eq_true rfl) ?_
                  refine q_Ru_seg (g2 := (9, [(0, .ref 64), (1, .int 1)], [.int (s.2.1 0 2), .int 1], (q_kX s c n))) 5 (fun _ _ => rfl) ?_
                  refine q_Ru_rsT (g2 := (26, [(0, .ref 64), (1, .int 1)], [], (q_kX s c n))) rfl rfl (q_d_geF h12) ?_
                  refine q_Ru_seg (g2 := (27, [(0, .ref 64), (1, .int 1)], [.null], (q_kX s c n))) 1 (fun _ _ => rfl) ?_
                  exact q_Ru_ret rfl rfl
                show q_Ru _ _ _ (5, [(0, .ref 64), (1, .int 1)], [.null], (q_kX s c n)) _
                refine q_Ru_seg (g2 := (10, [(2, .null), (0, .ref 64), (1, .int 1)], [], (q_kX s c n))) 3 (fun _ _ => rfl) ?_
                exact q_Ru_thr rfl rfl
              show q_RP _ _ _ (13, [(0, .ref 64), (1, .int a1), (2, .ref 236)], [], (q_kX s (c + 1) (n + 6))) _ _
              refine q_RP_seg (g2 := (14, [(0, .ref 64), (1, .int a1), (2, .ref 236)], [.int 1], (q_kX s (c + 1) (n + 6)))) 1 (fun _ _ => rfl) ?_
              exact q_RP_ret rfl rfl rfl
          | false =>
            refine q_RP_cF ?_
            cases h13 : decide (a1 = 2) with
            | true =>
              refine q_RP_cT ?_
              cases h14 : decide (2 < s.2.1 0 2) with
              | true =>
                refine q_RP_cT ?_
                refine q_RP_bd fun r3 er3 => ?_
                refine q_RP_call (v := (some (.int r3))) (h2 := (q_kX s c n)) rfl rfl ?_ ?_
                · refine q_Ca_of (Nat.le_of_ble_eq_true rfl) ?_
                  refine q_Ru_seg (g2 := (2, [(0, .ref 64), (1, .int a1)], [.int a1, .ref 64], (q_kX s c n))) 2 (fun _ _ => rfl) ?_
                  rw [of_decide_eq_true h13]
                  refine q_Ru_call (v := (some (.ref 204))) (h2 := (q_kX s c n)) rfl rfl ?_ ?_
                  · refine q_Ca_of (Nat.le_of_ble_eq_true rfl) ?_
                    refine q_Ru_seg (g2 := (9, [(0, .ref 64), (1, .int 2)], [.int (s.2.1 0 2), .int 2], (q_kX s c n))) 5 (fun _ _ => rfl) ?_
                    refine q_Ru_rsF (g2 := (12, [(0, .ref 64), (1, .int 2)], [], (q_kX s c n))) rfl rfl (q_d_geT h14) ?_
                    refine q_Ru_seg (g2 := (27, [(0, .ref 64), (1, .int 2)], [.ref 204], (q_kX s c n))) 8 (fun _ _ => rfl) ?_
                    exact q_Ru_ret rfl rfl
                  show q_Ru _ _ _ (5, [(0, .ref 64), (1, .int 2)], [.ref 204], (q_kX s c n)) _
                  refine q_Ru_seg (g2 := (37, [(2, .ref 204), (0, .ref 64), (1, .int 2)], [.ref 206, .ref 67], (q_kX s c n))) 10 (fun _ _ => rfl) ?_
                  refine q_Ru_call (v := (some (.int r3))) (h2 := (q_kX s c n)) rfl rfl ?_ ?_
                  · exact (q_emWX_1_140p rfl (fun _ => rfl) ((dzt_W111_66_98 (q_vw 32 1 140 s) c n r3 er3).tb q_TB0_le)).le (Nat.le_of_ble_eq_true rfl)
                  show q_Ru _ _ _ (40, [(2, .ref 204), (0, .ref 64), (1, .int 2)], [.int r3], (q_kX s c n)) _
                  exact q_Ru_ret rfl rfl
                show q_RP _ _ _ (7, [(0, .ref 64), (1, .int a1), (2, .ref 236)], [.int r3, .int 0, .ref 236], (q_kX s c n)) _ _
                refine q_RP_seg (g2 := (8, [(0, .ref 64), (1, .int a1), (2, .ref 236)], [.long r3.toInt64, .int 0, .ref 236], (q_kX s c n))) 1 (fun _ _ => rfl) ?_
                refine q_RP_rsT (g2 := (9, [(0, .ref 64), (1, .int a1), (2, .ref 236)], [], (q_kX (q_sL s 172 (vp_updL (s.2.2 172) 0 r3.toInt64)) c n))) rfl q_wX172 rfl ?_
                refine q_RP_seg (g2 := (16, [(0, .ref 64), (1, .int a1), (2, .ref 236)], [.int 0], (q_kX (q_sL s 172 (vp_updL (s.2.2 172) 0 r3.toInt64)) c n))) 2 (fun _ _ => rfl) ?_
                exact q_RP_ret rfl rfl rfl
              | false =>
                refine q_RP_cF ?_
                refine q_RP_callH (E := "java/util/NoSuchElementException") (tg := 13) (i := 3) (h2 := (q_kX s (c + 1) (n + 6))) rfl rfl ?_ rfl ?_
                · refine q_Ca_of (Nat.le_of_ble_eq_true rfl) ?_
                  refine q_Ru_seg (g2 := (2, [(0, .ref 64), (1, .int a1)], [.int a1, .ref 64], (q_kX s c n))) 2 (fun _ _ => rfl) ?_
                  rw [of_decide_eq_true h13]
                  refine q_Ru_call (v := (some (.null))) (h2 := (q_kX s c n)) rfl rfl ?_ ?_
                  · refine q_Ca_of (Nat.le_of_ble_eq_true rfl) ?_
                    refine q_Ru_seg (g2 := (9, [(0, .ref 64), (1, .int 2)], [.int (s.2.1 0 2), .int 2], (q_kX s c n))) 5 (fun _ _ => rfl) ?_
                    refine q_Ru_rsT (g2 := (26, [(0, .ref 64), (1, .int 2)], [], (q_kX s c n))) rfl rfl (q_d_geF h14) ?_
                    refine q_Ru_seg (g2 := (27, [(0, .ref 64), (1, .int 2)], [.null], (q_kX s c n))) 1 (fun _ _ => rfl) ?_
                    exact q_Ru_ret rfl rfl
                  show q_Ru _ _ _ (5, [(0, .ref 64), (1, .int 2)], [.null], (q_kX s c n)) _
                  refine q_Ru_seg (g2 := (10, [(2, .null), (0, .ref 64), (1, .int 2)], [], (q_kX s c n))) 3 (fun _ _ => rfl) ?_
                  exact q_Ru_thr rfl rfl
                show q_RP _ _ _ (13, [(0, .ref 64), (1, .int a1), (2, .ref 236)], [], (q_kX s (c + 1) (n + 6))) _ _
                refine q_RP_seg (g2 := (14, [(0, .ref 64), (1, .int a1), (2, .ref 236)], [.int 1], (q_kX s (c + 1) (n + 6)))) 1 (fun _ _ => rfl) ?_
                exact q_RP_ret rfl rfl rfl
            | false =>
              refine q_RP_cF ?_
              exact q_RP_no
      | false =>
        refine q_RP_cF ?_
        refine q_RP_callH (E := "java/util/NoSuchElementException") (tg := 13) (i := 3) (h2 := (q_kX s (c + 1) (n + 6))) rfl rfl ?_ rfl ?_
        · refine q_Ca_of (Nat.le_of_ble_eq_true rfl) ?_
          refine q_Ru_seg (g2 := (2, [(0, .ref 64), (1, .int a1)], [.int a1, .ref 64], (q_kX s c n))) 2 (fun _ _ => rfl) ?_
          refine q_Ru_call (v := (some (.null))) (h2 := (q_kX s c n)) rfl rfl ?_ ?_
          · refine q_Ca_of (Nat.le_of_ble_eq_true rfl) ?_
            refine q_Ru_seg (g2 := (1, [(0, .ref 64), (1, .int a1)], [.int a1], (q_kX s c n))) 1 (fun _ _ => rfl) ?_
            refine q_Ru_rsF (g2 := (4, [(0, .ref 64), (1, .int a1)], [], (q_kX s c n))) rfl rfl h6 ?_
            refine q_Ru_seg (g2 := (9, [(0, .ref 64), (1, .int a1)], [.int (s.2.1 0 2), .int a1], (q_kX s c n))) 3 (fun _ _ => rfl) ?_
            refine q_Ru_rsF (g2 := (12, [(0, .ref 64), (1, .int a1)], [], (q_kX s c n))) rfl rfl (q_d_geT h7) ?_
            refine q_Ru_seg (g2 := (14, [(0, .ref 64), (1, .int a1)], [.int 3, .int a1], (q_kX s c n))) 2 (fun _ _ => rfl) ?_
            refine q_Ru_rsT (g2 := (26, [(0, .ref 64), (1, .int a1)], [], (q_kX s c n))) rfl rfl (q_d_geF h8) ?_
            refine q_Ru_seg (g2 := (27, [(0, .ref 64), (1, .int a1)], [.null], (q_kX s c n))) 1 (fun _ _ => rfl) ?_
            exact q_Ru_ret rfl rfl
          show q_Ru _ _ _ (5, [(0, .ref 64), (1, .int a1)], [.null], (q_kX s c n)) _
          refine q_Ru_seg (g2 := (10, [(2, .null), (0, .ref 64), (1, .int a1)], [], (q_kX s c n))) 3 (fun _ _ => rfl) ?_
          exact q_Ru_thr rfl rfl
        show q_RP _ _ _ (13, [(0, .ref 64), (1, .int a1), (2, .ref 236)], [], (q_kX s (c + 1) (n + 6))) _ _
        refine q_RP_seg (g2 := (14, [(0, .ref 64), (1, .int a1), (2, .ref 236)], [.int 1], (q_kX s (c + 1) (n + 6)))) 1 (fun _ _ => rfl) ?_
        exact q_RP_ret rfl rfl rfl
    | false =>
      refine q_RP_cF ?_
      refine q_RP_callH (E := "java/util/NoSuchElementException") (tg := 13) (i := 3) (h2 := (q_kX s (c + 1) (n + 6))) rfl rfl ?_ rfl ?_
      · refine q_Ca_of (Nat.le_of_ble_eq_true rfl) ?_
        refine q_Ru_seg (g2 := (2, [(0, .ref 64), (1, .int a1)], [.int a1, .ref 64], (q_kX s c n))) 2 (fun _ _ => rfl) ?_
        refine q_Ru_call (v := (some (.null))) (h2 := (q_kX s c n)) rfl rfl ?_ ?_
        · refine q_Ca_of (Nat.le_of_ble_eq_true rfl) ?_
          refine q_Ru_seg (g2 := (1, [(0, .ref 64), (1, .int a1)], [.int a1], (q_kX s c n))) 1 (fun _ _ => rfl) ?_
          refine q_Ru_rsF (g2 := (4, [(0, .ref 64), (1, .int a1)], [], (q_kX s c n))) rfl rfl h6 ?_
          refine q_Ru_seg (g2 := (9, [(0, .ref 64), (1, .int a1)], [.int (s.2.1 0 2), .int a1], (q_kX s c n))) 3 (fun _ _ => rfl) ?_
          refine q_Ru_rsT (g2 := (26, [(0, .ref 64), (1, .int a1)], [], (q_kX s c n))) rfl rfl (q_d_geF h7) ?_
          refine q_Ru_seg (g2 := (27, [(0, .ref 64), (1, .int a1)], [.null], (q_kX s c n))) 1 (fun _ _ => rfl) ?_
          exact q_Ru_ret rfl rfl
        show q_Ru _ _ _ (5, [(0, .ref 64), (1, .int a1)], [.null], (q_kX s c n)) _
        refine q_Ru_seg (g2 := (10, [(2, .null), (0, .ref 64), (1, .int a1)], [], (q_kX s c n))) 3 (fun _ _ => rfl) ?_
        exact q_Ru_thr rfl rfl
      show q_RP _ _ _ (13, [(0, .ref 64), (1, .int a1), (2, .ref 236)], [], (q_kX s (c + 1) (n + 6))) _ _
      refine q_RP_seg (g2 := (14, [(0, .ref 64), (1, .int a1), (2, .ref 236)], [.int 1], (q_kX s (c + 1) (n + 6)))) 1 (fun _ _ => rfl) ?_
      exact q_RP_ret rfl rfl rfl
def dz_X25_64_236 (s : q_S) : q_S × Int32 × Nat :=
  cond (decide (s.2.1 34 7 = 0)) ((s, 1, 1)) (((q_sL s 172 (vp_updL (s.2.2 172) 0 ((s.2.1 34 5).toInt64))), 0, 0))
set_option maxHeartbeats 4000000 in
theorem dzt_X25_64_236 (z L : Nat) (xs : Nat → Int32) (s : q_S) (c n : Nat) : q_Ca (q_TBs z L xs) 2 25 [.ref 64, .ref 236] (q_kX s c n) ((q_oEX c n) (dz_X25_64_236 s)) := by
  refine q_CaT_of (φ := (q_oEX c n)) (Nat.le_of_ble_eq_true rfl) ?_
  unfold dz_X25_64_236
  refine q_RT_seg (g2 := (3, [(0, .ref 64), (1, .ref 236)], [.ref 64, .int 0, .ref 236], (q_kX s c n))) 3 (fun _ _ => rfl) ?_
  cases h1 : decide (s.2.1 34 7 = 0) with
  | true =>
    refine q_RT_cT ?_
    refine q_RT_callH (E := "java/lang/IllegalStateException") (tg := 12) (i := 2) (h2 := (q_kX s (c + 1) (n + 6))) rfl rfl ?_ rfl ?_
    · refine q_Ca_of (Nat.le_of_ble_eq_true rfl) ?_
      refine q_Ru_seg (g2 := (7, [(0, .ref 64)], [.int (s.2.1 34 7)], (q_kX s c n))) 3 (fun _ _ => rfl) ?_
      refine q_Ru_rsF (g2 := (10, [(0, .ref 64)], [], (q_kX s c n))) rfl rfl (q_d_neT h1) ?_
      exact q_Ru_thr rfl rfl
    show q_RT _ _ _ (12, [(0, .ref 64), (1, .ref 236)], [], (q_kX s (c + 1) (n + 6))) _ _
    refine q_RT_seg (g2 := (13, [(0, .ref 64), (1, .ref 236)], [.int 1], (q_kX s (c + 1) (n + 6)))) 1 (fun _ _ => rfl) ?_
    exact q_RT_ret rfl rfl rfl
  | false =>
    refine q_RT_cF ?_
    refine q_RT_call (v := (some (.int (s.2.1 34 5)))) (h2 := (q_kX s c n)) rfl rfl ?_ ?_
    · refine q_Ca_of (Nat.le_of_ble_eq_true rfl) ?_
      refine q_Ru_seg (g2 := (7, [(0, .ref 64)], [.int (s.2.1 34 7)], (q_kX s c n))) 3 (fun _ _ => rfl) ?_
      refine q_Ru_rsT (g2 := (20, [(0, .ref 64)], [], (q_kX s c n))) rfl rfl (q_d_neF h1) ?_
      refine q_Ru_seg (g2 := (27, [(0, .ref 64)], [.int (s.2.1 34 5)], (q_kX s c n))) 3 (fun _ _ => rfl) ?_
      exact q_Ru_ret rfl rfl
    show q_RT _ _ _ (6, [(0, .ref 64), (1, .ref 236)], [.int (s.2.1 34 5), .int 0, .ref 236], (q_kX s c n)) _ _
    refine q_RT_seg (g2 := (7, [(0, .ref 64), (1, .ref 236)], [.long ((s.2.1 34 5).toInt64), .int 0, .ref 236], (q_kX s c n))) 1 (fun _ _ => rfl) ?_
    refine q_RT_rsT (g2 := (8, [(0, .ref 64), (1, .ref 236)], [], (q_kX (q_sL s 172 (vp_updL (s.2.2 172) 0 ((s.2.1 34 5).toInt64))) c n))) rfl q_wX172 rfl ?_
    refine q_RT_seg (g2 := (15, [(0, .ref 64), (1, .ref 236)], [.int 0], (q_kX (q_sL s 172 (vp_updL (s.2.2 172) 0 ((s.2.1 34 5).toInt64))) c n))) 2 (fun _ _ => rfl) ?_
    exact q_RT_ret rfl rfl rfl
def dz_X65_27 (m : Nat) : q_S → Int32 → Option (q_S × Bool) := Nat.rec (motive := fun _ => q_S → Int32 → Option (q_S × Bool)) (fun _ _ => none) (fun _ k27 s v2 =>
  cond (decide (v2 < s.2.1 34 5)) (q_let (v2 &&& 511) fun x1 => cond (q_in x1 512) ((dz_N79_64 (q_vw 32 35 73 s) ((s.1 67) (x1.toNatClampNeg)) ((s.1 68) (x1.toNatClampNeg)) ((s.1 69) (x1.toNatClampNeg)) ((s.1 70) (x1.toNatClampNeg))).bind fun r2 => k27 (q_pt 32 3 35 73 s r2.1) (v2 + 1)) none) ((dz_W78_64_96 (q_vw 32 35 1 (q_sI s 34 6 (s.2.1 34 5)))).bind fun r3 => cond r3 (some ((q_sI s 34 6 (s.2.1 34 5)), true)) (some ((q_sI s 34 6 (s.2.1 34 5)), false)))) m
theorem dzs_X65_27 (m : Nat) (s : q_S) (v2 : Int32) : dz_X65_27 (m + 1) s v2 = (fun k27 : q_S → Int32 → Option (q_S × Bool) =>
  cond (decide (v2 < s.2.1 34 5)) (q_let (v2 &&& 511) fun x1 => cond (q_in x1 512) ((dz_N79_64 (q_vw 32 35 73 s) ((s.1 67) (x1.toNatClampNeg)) ((s.1 68) (x1.toNatClampNeg)) ((s.1 69) (x1.toNatClampNeg)) ((s.1 70) (x1.toNatClampNeg))).bind fun r2 => k27 (q_pt 32 3 35 73 s r2.1) (v2 + 1)) none) ((dz_W78_64_96 (q_vw 32 35 1 (q_sI s 34 6 (s.2.1 34 5)))).bind fun r3 => cond r3 (some ((q_sI s 34 6 (s.2.1 34 5)), true)) (some ((q_sI s 34 6 (s.2.1 34 5)), false)))) (dz_X65_27 m) := rfl
set_option maxHeartbeats 4000000 in
theorem dzt_X65_27 (z L : Nat) (xs : Nat → Int32) (c n : Nat) : ∀ (m : Nat) (s : q_S) (v2 : Int32), q_RP (q_TBs z L xs) 7 65 (27, [(0, .ref 64), (1, .ref 98), (2, .int v2)], [], (q_kX s c n)) (q_oJX c n) (dz_X65_27 m s v2) := by
  intro m
  induction m with
  | zero => intro s v2; exact q_RP_no
  | succ m ih =>
    intro s v2
    have hk27 := ih
    clear ih
    rw [dzs_X65_27]
    generalize dz_X65_27 m = k27 at hk27 ⊢
    dsimp only
    refine q_RP_seg (g2 := (32, [(0, .ref 64), (1, .ref 98), (2, .int v2)], [.int (s.2.1 34 5), .int v2], (q_kX s c n))) 3 (fun _ _ => rfl) ?_
    cases h3 : decide (v2 < s.2.1 34 5) with
    | true =>
      refine q_RP_cT ?_
      refine q_RP_rsF (g2 := (35, [(0, .ref 64), (1, .ref 98), (2, .int v2)], [], (q_kX s c n))) rfl rfl (q_d_geT h3) ?_
      refine q_RP_seg (g2 := (40, [(0, .ref 64), (1, .ref 98), (2, .int v2)], [.int (v2 &&& 511)], (q_kX s c n))) 3 (fun _ _ => rfl) ?_
      generalize (v2 &&& 511) = x1
      refine q_RP_let ?_
      show q_RP _ _ _ (40, [(0, .ref 64), (1, .ref 98), (2, .int v2)], [.int x1], (q_kX s c n)) _ _
      refine q_RP_seg (g2 := (50, [(3, .int x1), (0, .ref 64), (1, .ref 98), (2, .int v2)], [.int x1, .ref 131, .ref 99], (q_kX s c n))) 6 (fun _ _ => rfl) ?_
      refine q_RP_as fun i4 => ?_
      refine q_RP_rsT (g2 := (51, [(3, .int x1), (0, .ref 64), (1, .ref 98), (2, .int v2)], [.int ((s.1 67) (x1.toNatClampNeg)), .ref 99], (q_kX s c n))) rfl rfl i4 ?_
      refine q_RP_seg (g2 := (56, [(3, .int x1), (0, .ref 64), (1, .ref 98), (2, .int v2)], [.int x1, .ref 132, .int ((s.1 67) (x1.toNatClampNeg)), .ref 99], (q_kX s c n))) 3 (fun _ _ => rfl) ?_
      refine q_RP_rsT (g2 := (57, [(3, .int x1), (0, .ref 64), (1, .ref 98), (2, .int v2)], [.int ((s.1 68) (x1.toNatClampNeg)), .int ((s.1 67) (x1.toNatClampNeg)), .ref 99], (q_kX s c n))) rfl rfl i4 ?_
      refine q_RP_seg (g2 := (62, [(3, .int x1), (0, .ref 64), (1, .ref 98), (2, .int v2)], [.int x1, .ref 133, .int ((s.1 68) (x1.toNatClampNeg)), .int ((s.1 67) (x1.toNatClampNeg)), .ref 99], (q_kX s c n))) 3 (fun _ _ => rfl) ?_
      refine q_RP_rsT (g2 := (63, [(3, .int x1), (0, .ref 64), (1, .ref 98), (2, .int v2)], [.int ((s.1 69) (x1.toNatClampNeg)), .int ((s.1 68) (x1.toNatClampNeg)), .int ((s.1 67) (x1.toNatClampNeg)), .ref 99], (q_kX s c n))) rfl rfl i4 ?_
      refine q_RP_seg (g2 := (68, [(3, .int x1), (0, .ref 64), (1, .ref 98), (2, .int v2)], [.int x1, .ref 134, .int ((s.1 69) (x1.toNatClampNeg)), .int ((s.1 68) (x1.toNatClampNeg)), .int ((s.1 67) (x1.toNatClampNeg)), .ref 99], (q_kX s c n))) 3 (fun _ _ => rfl) ?_
      refine q_RP_rsT (g2 := (69, [(3, .int x1), (0, .ref 64), (1, .ref 98), (2, .int v2)], [.int ((s.1 70) (x1.toNatClampNeg)), .int ((s.1 69) (x1.toNatClampNeg)), .int ((s.1 68) (x1.toNatClampNeg)), .int ((s.1 67) (x1.toNatClampNeg)), .ref 99], (q_kX s c n))) rfl rfl i4 ?_
      refine q_RP_bd fun r2 er2 => ?_
      refine q_RP_call (v := (some (.int r2.2))) (h2 := (q_kX (q_pt 32 3 35 73 s r2.1) c n)) rfl rfl ((q_emNX_35 rfl (fun _ => rfl) ((dzt_N79_64 (q_vw 32 35 73 s) c n ((s.1 67) (x1.toNatClampNeg)) ((s.1 68) (x1.toNatClampNeg)) ((s.1 69) (x1.toNatClampNeg)) ((s.1 70) (x1.toNatClampNeg)) r2 er2).tb q_TB0_le)).le (Nat.le_of_ble_eq_true rfl)) ?_
      show q_RP _ _ _ (72, [(3, .int x1), (0, .ref 64), (1, .ref 98), (2, .int v2)], [.int r2.2], (q_kX (q_pt 32 3 35 73 s r2.1) c n)) _ _
      refine q_RP_seg (g2 := (27, [(2, .int (v2 + 1)), (3, .int x1), (0, .ref 64), (1, .ref 98)], [], (q_kX (q_pt 32 3 35 73 s r2.1) c n))) 3 (fun _ _ => rfl) ?_
      exact q_RP_xt (q_xt_mk (q_mn1 2 rfl (q_mn1 3 rfl (q_mn1 0 rfl q_mn0))) rfl) (hk27 (q_pt 32 3 35 73 s r2.1) (v2 + 1))
    | false =>
      refine q_RP_cF ?_
      refine q_RP_rsT (g2 := (79, [(0, .ref 64), (1, .ref 98), (2, .int v2)], [], (q_kX s c n))) rfl rfl (q_d_geF h3) ?_
      refine q_RP_seg (g2 := (84, [(0, .ref 64), (1, .ref 98), (2, .int v2)], [.int (s.2.1 34 5), .ref 98], (q_kX s c n))) 3 (fun _ _ => rfl) ?_
      refine q_RP_st1 (g2 := (87, [(0, .ref 64), (1, .ref 98), (2, .int v2)], [], (q_kX (q_sI s 34 6 (s.2.1 34 5)) c n))) rfl q_pX34_6 ?_
      refine q_RP_seg (g2 := (95, [(0, .ref 64), (1, .ref 98), (2, .int v2)], [.ref 65, .ref 99], (q_kX (q_sI s 34 6 (s.2.1 34 5)) c n))) 4 (fun _ _ => rfl) ?_
      refine q_RP_bd fun r3 er3 => ?_
      refine q_RP_call (v := (some (.int (q_b r3)))) (h2 := (q_kX (q_sI s 34 6 (s.2.1 34 5)) c n)) rfl rfl ((q_emWX_35_1p rfl (fun _ => rfl) ((dzt_W78_64_96 (q_vw 32 35 1 (q_sI s 34 6 (s.2.1 34 5))) c n r3 er3).tb q_TB0_le)).le (Nat.le_of_ble_eq_true rfl)) ?_
      show q_RP _ _ _ (98, [(0, .ref 64), (1, .ref 98), (2, .int v2)], [.int (q_b r3)], (q_kX (q_sI s 34 6 (s.2.1 34 5)) c n)) _ _
      cases h5 : r3 with
      | true =>
        refine q_RP_cT ?_
        show q_RP _ _ _ (98, [(0, .ref 64), (1, .ref 98), (2, .int v2)], [.int 1], (q_kX (q_sI s 34 6 (s.2.1 34 5)) c n)) _ _
        exact q_RP_ret rfl rfl rfl
      | false =>
        refine q_RP_cF ?_
        show q_RP _ _ _ (98, [(0, .ref 64), (1, .ref 98), (2, .int v2)], [.int 0], (q_kX (q_sI s 34 6 (s.2.1 34 5)) c n)) _ _
        exact q_RP_ret rfl rfl rfl
def dz_X26_64_236 (s : q_S) : Option (q_S × Int32 × Nat) :=
  cond (decide (s.2.1 34 7 = 0)) (some (s, 1, 1)) ((dz_X65_27 5000 s (s.2.1 34 6)).bind fun r4 => cond (decide (q_b r4.2 = 0)) (some ((q_sL r4.1 172 (vp_updL (r4.1.2.2 172) 0 0)), 0, 0)) (some ((q_sL r4.1 172 (vp_updL (r4.1.2.2 172) 0 1)), 0, 0)))
set_option maxHeartbeats 4000000 in
theorem dzt_X26_64_236 (z L : Nat) (xs : Nat → Int32) (s : q_S) (c n : Nat) (x : q_S × Int32 × Nat) (h : dz_X26_64_236 s = some x) : q_Ca (q_TBs z L xs) 11 26 [.ref 64, .ref 236] (q_kX s c n) ((q_oEX c n) x) := by
  refine q_CaP_of (φ := (q_oEX c n)) (Nat.le_of_ble_eq_true rfl) ?_ h
  clear h
  unfold dz_X26_64_236
  refine q_RP_seg (g2 := (3, [(0, .ref 64), (1, .ref 236)], [.ref 64, .int 0, .ref 236], (q_kX s c n))) 3 (fun _ _ => rfl) ?_
  cases h2 : decide (s.2.1 34 7 = 0) with
  | true =>
    refine q_RP_cT ?_
    refine q_RP_callH (E := "java/lang/IllegalStateException") (tg := 19) (i := 2) (h2 := (q_kX s (c + 1) (n + 6))) rfl rfl ?_ rfl ?_
    · refine q_Ca_of (Nat.le_of_ble_eq_true rfl) ?_
      refine q_Ru_seg (g2 := (9, [(1, .ref 98), (0, .ref 64)], [.int (s.2.1 34 7)], (q_kX s c n))) 5 (fun _ _ => rfl) ?_
      refine q_Ru_rsF (g2 := (12, [(1, .ref 98), (0, .ref 64)], [], (q_kX s c n))) rfl rfl (q_d_neT h2) ?_
      exact q_Ru_thr rfl rfl
    show q_RP _ _ _ (19, [(0, .ref 64), (1, .ref 236)], [], (q_kX s (c + 1) (n + 6))) _ _
    refine q_RP_seg (g2 := (20, [(0, .ref 64), (1, .ref 236)], [.int 1], (q_kX s (c + 1) (n + 6)))) 1 (fun _ _ => rfl) ?_
    exact q_RP_ret rfl rfl rfl
  | false =>
    refine q_RP_cF ?_
    refine q_RP_bd fun r4 er4 => ?_
    refine q_RP_call (v := (some (.int (q_b r4.2)))) (h2 := (q_kX r4.1 c n)) rfl rfl ?_ ?_
    · refine q_Ca_of (Nat.le_of_ble_eq_true rfl) ?_
      refine q_Ru_seg (g2 := (9, [(1, .ref 98), (0, .ref 64)], [.int (s.2.1 34 7)], (q_kX s c n))) 5 (fun _ _ => rfl) ?_
      refine q_Ru_rsT (g2 := (22, [(1, .ref 98), (0, .ref 64)], [], (q_kX s c n))) rfl rfl (q_d_neF h2) ?_
      refine q_Ru_seg (g2 := (27, [(2, .int (s.2.1 34 6)), (1, .ref 98), (0, .ref 64)], [], (q_kX s c n))) 3 (fun _ _ => rfl) ?_
      exact q_Ru_xt (q_xt_mk (q_mn1 2 rfl (q_mn1 1 rfl (q_mn1 0 rfl q_mn0))) rfl) (q_Ru_le (Nat.le_of_ble_eq_true rfl) (dzt_X65_27 z L xs c n 5000 s (s.2.1 34 6) r4 er4))
    show q_RP _ _ _ (6, [(0, .ref 64), (1, .ref 236)], [.int (q_b r4.2), .int 0, .ref 236], (q_kX r4.1 c n)) _ _
    cases h6 : decide (q_b r4.2 = 0) with
    | true =>
      refine q_RP_cT ?_
      refine q_RP_rsT (g2 := (13, [(0, .ref 64), (1, .ref 236)], [.int 0, .ref 236], (q_kX r4.1 c n))) rfl rfl h6 ?_
      refine q_RP_seg (g2 := (14, [(0, .ref 64), (1, .ref 236)], [.long 0, .int 0, .ref 236], (q_kX r4.1 c n))) 1 (fun _ _ => rfl) ?_
      refine q_RP_rsT (g2 := (15, [(0, .ref 64), (1, .ref 236)], [], (q_kX (q_sL r4.1 172 (vp_updL (r4.1.2.2 172) 0 0)) c n))) rfl q_wX172 rfl ?_
      refine q_RP_seg (g2 := (22, [(0, .ref 64), (1, .ref 236)], [.int 0], (q_kX (q_sL r4.1 172 (vp_updL (r4.1.2.2 172) 0 0)) c n))) 2 (fun _ _ => rfl) ?_
      exact q_RP_ret rfl rfl rfl
    | false =>
      refine q_RP_cF ?_
      refine q_RP_rsF (g2 := (9, [(0, .ref 64), (1, .ref 236)], [.int 0, .ref 236], (q_kX r4.1 c n))) rfl rfl h6 ?_
      refine q_RP_seg (g2 := (14, [(0, .ref 64), (1, .ref 236)], [.long 1, .int 0, .ref 236], (q_kX r4.1 c n))) 2 (fun _ _ => rfl) ?_
      refine q_RP_rsT (g2 := (15, [(0, .ref 64), (1, .ref 236)], [], (q_kX (q_sL r4.1 172 (vp_updL (r4.1.2.2 172) 0 1)) c n))) rfl q_wX172 rfl ?_
      refine q_RP_seg (g2 := (22, [(0, .ref 64), (1, .ref 236)], [.int 0], (q_kX (q_sL r4.1 172 (vp_updL (r4.1.2.2 172) 0 1)) c n))) 2 (fun _ _ => rfl) ?_
      exact q_RP_ret rfl rfl rfl
def dz_X39_64 (s : q_S) : Int32 :=
  (((s.2.1 24 5) ||| 32) ||| 16)
set_option maxHeartbeats 4000000 in
theorem dzt_X39_64 (z L : Nat) (xs : Nat → Int32) (s : q_S) (c n : Nat) : q_Ca (q_TBs z L xs) 1 39 [.ref 64] (q_kX s c n) ((q_oP (q_kX s c n)) (dz_X39_64 s)) := by
  refine q_CaT_of (φ := (q_oP (q_kX s c n))) (Nat.le_of_ble_eq_true rfl) ?_
  unfold dz_X39_64
  refine q_RT_seg (g2 := (10, [(0, .ref 64)], [.int (s.2.1 24 5)], (q_kX s c n))) 4 (fun _ _ => rfl) ?_
  refine q_RT_seg (g2 := (16, [(0, .ref 64)], [.int (((s.2.1 24 5) ||| 32) ||| 16)], (q_kX s c n))) 4 (fun _ _ => rfl) ?_
  exact q_RT_ret rfl rfl rfl
def dz_X40_64 (s : q_S) : Option (q_S × Int32) :=
  q_let (dz_X184_98 s 5 0 0 0) fun r3 => (dz_N79_64 (q_vw 32 1 73 r3) 5 0 0 0).bind fun r4 => some ((q_pt 32 3 1 73 r3 r4.1), r4.2)
set_option maxHeartbeats 4000000 in
theorem dzt_X40_64 (z L : Nat) (xs : Nat → Int32) (s : q_S) (c n : Nat) (x : q_S × Int32) (h : dz_X40_64 s = some x) : q_Ca (q_TBs z L xs) 8 40 [.ref 64] (q_kX s c n) ((q_oIX c n) x) := by
  refine q_CaP_of (φ := (q_oIX c n)) (Nat.le_of_ble_eq_true rfl) ?_ h
  clear h
  unfold dz_X40_64
  refine q_RP_seg (g2 := (8, [(0, .ref 64)], [.int 0, .int 0, .int 0, .int 5, .ref 98], (q_kX s c n))) 6 (fun _ _ => rfl) ?_
  refine q_RP_call (v := none) (h2 := (q_kX (dz_X184_98 s 5 0 0 0) c n)) rfl rfl ((dzt_X184_98 z L xs s c n 5 0 0 0).le (Nat.le_of_ble_eq_true rfl)) ?_
  generalize dz_X184_98 s 5 0 0 0 = r3
  refine q_RP_let ?_
  show q_RP _ _ _ (11, [(0, .ref 64)], [], (q_kX r3 c n)) _ _
  refine q_RP_seg (g2 := (19, [(0, .ref 64)], [.int 0, .int 0, .int 0, .int 5, .ref 65], (q_kX r3 c n))) 6 (fun _ _ => rfl) ?_
  refine q_RP_bd fun r4 er4 => ?_
  refine q_RP_call (v := (some (.int r4.2))) (h2 := (q_kX (q_pt 32 3 1 73 r3 r4.1) c n)) rfl rfl ((q_emNX_1 rfl (fun _ => rfl) ((dzt_N79_64 (q_vw 32 1 73 r3) c n 5 0 0 0 r4 er4).tb q_TB0_le)).le (Nat.le_of_ble_eq_true rfl)) ?_
  show q_RP _ _ _ (22, [(0, .ref 64)], [.int r4.2], (q_kX (q_pt 32 3 1 73 r3 r4.1) c n)) _ _
  exact q_RP_ret rfl rfl rfl
def dz_X41_64 (s : q_S) : Option (q_S × Int32) :=
  q_let (dz_X184_98 s 6 0 0 0) fun r3 => (dz_N79_64 (q_vw 32 1 73 r3) 6 0 0 0).bind fun r4 => some ((q_pt 32 3 1 73 r3 r4.1), r4.2)
set_option maxHeartbeats 4000000 in
theorem dzt_X41_64 (z L : Nat) (xs : Nat → Int32) (s : q_S) (c n : Nat) (x : q_S × Int32) (h : dz_X41_64 s = some x) : q_Ca (q_TBs z L xs) 8 41 [.ref 64] (q_kX s c n) ((q_oIX c n) x) := by
  refine q_CaP_of (φ := (q_oIX c n)) (Nat.le_of_ble_eq_true rfl) ?_ h
  clear h
  unfold dz_X41_64
  refine q_RP_seg (g2 := (9, [(0, .ref 64)], [.int 0, .int 0, .int 0, .int 6, .ref 98], (q_kX s c n))) 6 (fun _ _ => rfl) ?_
  refine q_RP_call (v := none) (h2 := (q_kX (dz_X184_98 s 6 0 0 0) c n)) rfl rfl ((dzt_X184_98 z L xs s c n 6 0 0 0).le (Nat.le_of_ble_eq_true rfl)) ?_
  generalize dz_X184_98 s 6 0 0 0 = r3
  refine q_RP_let ?_
  show q_RP _ _ _ (12, [(0, .ref 64)], [], (q_kX r3 c n)) _ _
  refine q_RP_seg (g2 := (21, [(0, .ref 64)], [.int 0, .int 0, .int 0, .int 6, .ref 65], (q_kX r3 c n))) 6 (fun _ _ => rfl) ?_
  refine q_RP_bd fun r4 er4 => ?_
  refine q_RP_call (v := (some (.int r4.2))) (h2 := (q_kX (q_pt 32 3 1 73 r3 r4.1) c n)) rfl rfl ((q_emNX_1 rfl (fun _ => rfl) ((dzt_N79_64 (q_vw 32 1 73 r3) c n 6 0 0 0 r4 er4).tb q_TB0_le)).le (Nat.le_of_ble_eq_true rfl)) ?_
  show q_RP _ _ _ (24, [(0, .ref 64)], [.int r4.2], (q_kX (q_pt 32 3 1 73 r3 r4.1) c n)) _ _
  exact q_RP_ret rfl rfl rfl
def dz_X44_64 (s : q_S) : Int64 :=
  (s.2.2 2 8)
set_option maxHeartbeats 4000000 in
theorem dzt_X44_64 (z L : Nat) (xs : Nat → Int32) (s : q_S) (c n : Nat) : q_Ca (q_TBs z L xs) 1 44 [.ref 64] (q_kX s c n) ((q_oL (q_kX s c n)) (dz_X44_64 s)) := by
  refine q_CaT_of (φ := (q_oL (q_kX s c n))) (Nat.le_of_ble_eq_true rfl) ?_
  unfold dz_X44_64
  refine q_RT_seg (g2 := (10, [(0, .ref 64)], [.long (s.2.2 2 8)], (q_kX s c n))) 4 (fun _ _ => rfl) ?_
  exact q_RT_ret rfl rfl rfl
def dz_X45_64 (s : q_S) : Option (Bool) :=
  (dz_N102_65 (q_vw 32 1 73 s)).bind fun r2 => cond r2 (some true) (some false)
set_option maxHeartbeats 4000000 in
theorem dzt_X45_64 (z L : Nat) (xs : Nat → Int32) (s : q_S) (c n : Nat) (x : Bool) (h : dz_X45_64 s = some x) : q_Ca (q_TBs z L xs) 5 45 [.ref 64] (q_kX s c n) ((q_oB (q_kX s c n)) x) := by
  refine q_CaP_of (φ := (q_oB (q_kX s c n))) (Nat.le_of_ble_eq_true rfl) ?_ h
  clear h
  unfold dz_X45_64
  refine q_RP_seg (g2 := (7, [(0, .ref 64)], [.ref 66], (q_kX s c n))) 3 (fun _ _ => rfl) ?_
  refine q_RP_bd fun r2 er2 => ?_
  refine q_RP_call (v := (some (.int (q_b r2)))) (h2 := (q_kX s c n)) rfl rfl ((q_emNX_1p rfl (fun _ => rfl) ((dzt_N102_65 (q_vw 32 1 73 s) c n r2 er2).tb q_TB0_le)).le (Nat.le_of_ble_eq_true rfl)) ?_
  show q_RP _ _ _ (10, [(0, .ref 64)], [.int (q_b r2)], (q_kX s c n)) _ _
  cases h1 : r2 with
  | true =>
    refine q_RP_cT ?_
    show q_RP _ _ _ (10, [(0, .ref 64)], [.int 1], (q_kX s c n)) _ _
    exact q_RP_ret rfl rfl rfl
  | false =>
    refine q_RP_cF ?_
    show q_RP _ _ _ (10, [(0, .ref 64)], [.int 0], (q_kX s c n)) _ _
    exact q_RP_ret rfl rfl rfl
def dz_X46_64 (s : q_S) : Int32 :=
  (s.2.1 24 9)
set_option maxHeartbeats 4000000 in
theorem dzt_X46_64 (z L : Nat) (xs : Nat → Int32) (s : q_S) (c n : Nat) : q_Ca (q_TBs z L xs) 1 46 [.ref 64] (q_kX s c n) ((q_oP (q_kX s c n)) (dz_X46_64 s)) := by
  refine q_CaT_of (φ := (q_oP (q_kX s c n))) (Nat.le_of_ble_eq_true rfl) ?_
  unfold dz_X46_64
  refine q_RT_seg (g2 := (10, [(0, .ref 64)], [.int (s.2.1 24 9)], (q_kX s c n))) 4 (fun _ _ => rfl) ?_
  exact q_RT_ret rfl rfl rfl
def dz_X47_64 (s : q_S) : Int32 :=
  (s.2.1 24 10)
set_option maxHeartbeats 4000000 in
theorem dzt_X47_64 (z L : Nat) (xs : Nat → Int32) (s : q_S) (c n : Nat) : q_Ca (q_TBs z L xs) 1 47 [.ref 64] (q_kX s c n) ((q_oP (q_kX s c n)) (dz_X47_64 s)) := by
  refine q_CaT_of (φ := (q_oP (q_kX s c n))) (Nat.le_of_ble_eq_true rfl) ?_
  unfold dz_X47_64
  refine q_RT_seg (g2 := (10, [(0, .ref 64)], [.int (s.2.1 24 10)], (q_kX s c n))) 4 (fun _ _ => rfl) ?_
  exact q_RT_ret rfl rfl rfl
def dz_X48_64 (s : q_S) : Option (Bool) :=
  cond (q_z1 (s.2.1 24 7)) (some (decide (s.2.1 24 7 = 1))) none
set_option maxHeartbeats 4000000 in
theorem dzt_X48_64 (z L : Nat) (xs : Nat → Int32) (s : q_S) (c n : Nat) (x : Bool) (h : dz_X48_64 s = some x) : q_Ca (q_TBs z L xs) 1 48 [.ref 64] (q_kX s c n) ((q_oB (q_kX s c n)) x) := by
  refine q_CaP_of (φ := (q_oB (q_kX s c n))) (Nat.le_of_ble_eq_true rfl) ?_ h
  clear h
  unfold dz_X48_64
  refine q_RP_seg (g2 := (10, [(0, .ref 64)], [.int (s.2.1 24 7)], (q_kX s c n))) 4 (fun _ _ => rfl) ?_
  refine q_RP_as fun i1 => ?_
  exact q_RP_ret rfl (q_rz01 i1) (by show (Sum.inl (some (Value.int (q_b (decide (s.2.1 24 7 = 1))))), _) = _; rw [q_b01 i1]; try rfl)
def dz_X58_64 (s : q_S) : Option (q_S × Int32) :=
  q_let (dz_X184_98 s 12 0 0 0) fun r3 => (dz_N79_64 (q_vw 32 1 73 r3) 12 0 0 0).bind fun r4 => some ((q_pt 32 3 1 73 r3 r4.1), r4.2)
set_option maxHeartbeats 4000000 in
theorem dzt_X58_64 (z L : Nat) (xs : Nat → Int32) (s : q_S) (c n : Nat) (x : q_S × Int32) (h : dz_X58_64 s = some x) : q_Ca (q_TBs z L xs) 8 58 [.ref 64] (q_kX s c n) ((q_oIX c n) x) := by
  refine q_CaP_of (φ := (q_oIX c n)) (Nat.le_of_ble_eq_true rfl) ?_ h
  clear h
  unfold dz_X58_64
  refine q_RP_seg (g2 := (9, [(0, .ref 64)], [.int 0, .int 0, .int 0, .int 12, .ref 98], (q_kX s c n))) 6 (fun _ _ => rfl) ?_
  refine q_RP_call (v := none) (h2 := (q_kX (dz_X184_98 s 12 0 0 0) c n)) rfl rfl ((dzt_X184_98 z L xs s c n 12 0 0 0).le (Nat.le_of_ble_eq_true rfl)) ?_
  generalize dz_X184_98 s 12 0 0 0 = r3
  refine q_RP_let ?_
  show q_RP _ _ _ (12, [(0, .ref 64)], [], (q_kX r3 c n)) _ _
  refine q_RP_seg (g2 := (21, [(0, .ref 64)], [.int 0, .int 0, .int 0, .int 12, .ref 65], (q_kX r3 c n))) 6 (fun _ _ => rfl) ?_
  refine q_RP_bd fun r4 er4 => ?_
  refine q_RP_call (v := (some (.int r4.2))) (h2 := (q_kX (q_pt 32 3 1 73 r3 r4.1) c n)) rfl rfl ((q_emNX_1 rfl (fun _ => rfl) ((dzt_N79_64 (q_vw 32 1 73 r3) c n 12 0 0 0 r4 er4).tb q_TB0_le)).le (Nat.le_of_ble_eq_true rfl)) ?_
  show q_RP _ _ _ (24, [(0, .ref 64)], [.int r4.2], (q_kX (q_pt 32 3 1 73 r3 r4.1) c n)) _ _
  exact q_RP_ret rfl rfl rfl
def dz_X59_64 (s : q_S) : Int32 :=
  ((s.2.1 9 1) - (s.2.1 9 2))
set_option maxHeartbeats 4000000 in
theorem dzt_X59_64 (z L : Nat) (xs : Nat → Int32) (s : q_S) (c n : Nat) : q_Ca (q_TBs z L xs) 1 59 [.ref 64] (q_kX s c n) ((q_oP (q_kX s c n)) (dz_X59_64 s)) := by
  refine q_CaT_of (φ := (q_oP (q_kX s c n))) (Nat.le_of_ble_eq_true rfl) ?_
  unfold dz_X59_64
  refine q_RT_seg (g2 := (13, [(0, .ref 64)], [.int (s.2.1 9 1)], (q_kX s c n))) 5 (fun _ _ => rfl) ?_
  refine q_RT_seg (g2 := (26, [(0, .ref 64)], [.int (s.2.1 9 2), .int (s.2.1 9 1)], (q_kX s c n))) 5 (fun _ _ => rfl) ?_
  refine q_RT_seg (g2 := (27, [(0, .ref 64)], [.int ((s.2.1 9 1) - (s.2.1 9 2))], (q_kX s c n))) 1 (fun _ _ => rfl) ?_
  exact q_RT_ret rfl rfl rfl
def dz_X183_98_65 (s : q_S) : Option (q_S) :=
  (dz_W77_64_96 (q_vw 32 35 1 s)).bind fun r2 => some (q_sI (q_sI (q_sI (q_pt 32 32 35 1 s r2) 34 5 0) 34 6 0) 34 7 1)
set_option maxHeartbeats 4000000 in
theorem dzt_X183_98_65 (z L : Nat) (xs : Nat → Int32) (s : q_S) (c n : Nat) (x : q_S) (h : dz_X183_98_65 s = some x) : q_Ca (q_TBs z L xs) 5 183 [.ref 98, .ref 65] (q_kX s c n) ((q_oSX c n) x) := by
  refine q_CaP_of (φ := (q_oSX c n)) (Nat.le_of_ble_eq_true rfl) ?_ h
  clear h
  unfold dz_X183_98_65
  refine q_RP_seg (g2 := (5, [(0, .ref 98), (1, .ref 65)], [.ref 65, .ref 99], (q_kX s c n))) 3 (fun _ _ => rfl) ?_
  refine q_RP_bd fun r2 er2 => ?_
  refine q_RP_call (v := none) (h2 := (q_kX (q_pt 32 32 35 1 s r2) c n)) rfl rfl ((q_emWX_35_1 rfl (fun _ => rfl) ((dzt_W77_64_96 (q_vw 32 35 1 s) c n r2 er2).tb q_TB0_le)).le (Nat.le_of_ble_eq_true rfl)) ?_
  show q_RP _ _ _ (8, [(0, .ref 98), (1, .ref 65)], [], (q_kX (q_pt 32 32 35 1 s r2) c n)) _ _
  refine q_RP_seg (g2 := (10, [(0, .ref 98), (1, .ref 65)], [.int 0, .ref 98], (q_kX (q_pt 32 32 35 1 s r2) c n))) 2 (fun _ _ => rfl) ?_
  refine q_RP_st1 (g2 := (13, [(0, .ref 98), (1, .ref 65)], [], (q_kX (q_sI (q_pt 32 32 35 1 s r2) 34 5 0) c n))) rfl q_pX34_5 ?_
  refine q_RP_seg (g2 := (15, [(0, .ref 98), (1, .ref 65)], [.int 0, .ref 98], (q_kX (q_sI (q_pt 32 32 35 1 s r2) 34 5 0) c n))) 2 (fun _ _ => rfl) ?_
  refine q_RP_st1 (g2 := (18, [(0, .ref 98), (1, .ref 65)], [], (q_kX (q_sI (q_sI (q_pt 32 32 35 1 s r2) 34 5 0) 34 6 0) c n))) rfl q_pX34_6 ?_
  refine q_RP_seg (g2 := (20, [(0, .ref 98), (1, .ref 65)], [.int 1, .ref 98], (q_kX (q_sI (q_sI (q_pt 32 32 35 1 s r2) 34 5 0) 34 6 0) c n))) 2 (fun _ _ => rfl) ?_
  refine q_RP_st1 (g2 := (23, [(0, .ref 98), (1, .ref 65)], [], (q_kX (q_sI (q_sI (q_sI (q_pt 32 32 35 1 s r2) 34 5 0) 34 6 0) 34 7 1) c n))) rfl q_pX34_7t ?_
  exact q_RP_ret rfl rfl rfl
def dz_X63_64 (s : q_S) : Option (q_S × Int32) :=
  cond (decide (s.2.1 34 7 = 0)) ((dz_X183_98_65 s).bind fun r2 => some (r2, 0)) (q_let (s.2.1 34 5) fun x3 => (dz_X183_98_65 s).bind fun r4 => some (r4, x3))
set_option maxHeartbeats 4000000 in
theorem dzt_X63_64 (z L : Nat) (xs : Nat → Int32) (s : q_S) (c n : Nat) (x : q_S × Int32) (h : dz_X63_64 s = some x) : q_Ca (q_TBs z L xs) 6 63 [.ref 64] (q_kX s c n) ((q_oIX c n) x) := by
  refine q_CaP_of (φ := (q_oIX c n)) (Nat.le_of_ble_eq_true rfl) ?_ h
  clear h
  unfold dz_X63_64
  refine q_RP_seg (g2 := (7, [(0, .ref 64)], [.int (s.2.1 34 7)], (q_kX s c n))) 3 (fun _ _ => rfl) ?_
  cases h2 : decide (s.2.1 34 7 = 0) with
  | true =>
    refine q_RP_cT ?_
    refine q_RP_rsT (g2 := (20, [(0, .ref 64)], [], (q_kX s c n))) rfl rfl h2 ?_
    refine q_RP_seg (g2 := (30, [(1, .int 0), (0, .ref 64)], [.ref 65, .ref 98], (q_kX s c n))) 6 (fun _ _ => rfl) ?_
    refine q_RP_bd fun r2 er2 => ?_
    refine q_RP_call (v := none) (h2 := (q_kX r2 c n)) rfl rfl ((dzt_X183_98_65 z L xs s c n r2 er2).le (Nat.le_of_ble_eq_true rfl)) ?_
    show q_RP _ _ _ (33, [(1, .int 0), (0, .ref 64)], [], (q_kX r2 c n)) _ _
    refine q_RP_seg (g2 := (34, [(1, .int 0), (0, .ref 64)], [.int 0], (q_kX r2 c n))) 1 (fun _ _ => rfl) ?_
    exact q_RP_ret rfl rfl rfl
  | false =>
    refine q_RP_cF ?_
    refine q_RP_rsF (g2 := (10, [(0, .ref 64)], [], (q_kX s c n))) rfl rfl h2 ?_
    refine q_RP_seg (g2 := (17, [(0, .ref 64)], [.int (s.2.1 34 5)], (q_kX s c n))) 3 (fun _ _ => rfl) ?_
    refine q_RP_seg (g2 := (21, [(0, .ref 64)], [.int (s.2.1 34 5)], (q_kX s c n))) 1 (fun _ _ => rfl) ?_
    generalize (s.2.1 34 5) = x3
    refine q_RP_let ?_
    show q_RP _ _ _ (21, [(0, .ref 64)], [.int x3], (q_kX s c n)) _ _
    refine q_RP_seg (g2 := (30, [(1, .int x3), (0, .ref 64)], [.ref 65, .ref 98], (q_kX s c n))) 5 (fun _ _ => rfl) ?_
    refine q_RP_bd fun r4 er4 => ?_
    refine q_RP_call (v := none) (h2 := (q_kX r4 c n)) rfl rfl ((dzt_X183_98_65 z L xs s c n r4 er4).le (Nat.le_of_ble_eq_true rfl)) ?_
    show q_RP _ _ _ (33, [(1, .int x3), (0, .ref 64)], [], (q_kX r4 c n)) _ _
    refine q_RP_seg (g2 := (34, [(1, .int x3), (0, .ref 64)], [.int x3], (q_kX r4 c n))) 1 (fun _ _ => rfl) ?_
    exact q_RP_ret rfl rfl rfl
def dz_X66_64_4 (m : Nat) : q_S → Int32 → Int32 → Option (Int32) := Nat.rec (motive := fun _ => q_S → Int32 → Int32 → Option (Int32)) (fun _ _ _ => none) (fun _ k4 s v1 v2 =>
  cond (decide (v2 < 1024)) (cond (q_in v2 1024) (q_let ((31 * v1) + ((s.1 32) (v2.toNatClampNeg))) fun x1 => k4 s x1 (v2 + 1)) none) (some v1)) m
theorem dzs_X66_64_4 (m : Nat) (s : q_S) (v1 : Int32) (v2 : Int32) : dz_X66_64_4 (m + 1) s v1 v2 = (fun k4 : q_S → Int32 → Int32 → Option (Int32) =>
  cond (decide (v2 < 1024)) (cond (q_in v2 1024) (q_let ((31 * v1) + ((s.1 32) (v2.toNatClampNeg))) fun x1 => k4 s x1 (v2 + 1)) none) (some v1)) (dz_X66_64_4 m) := rfl
set_option maxHeartbeats 4000000 in
theorem dzt_X66_64_4 (z L : Nat) (xs : Nat → Int32) (c n : Nat) (s : q_S) : ∀ (m : Nat) (v1 : Int32) (v2 : Int32), q_RP (q_TBs z L xs) 0 66 (4, [(0, .ref 64), (1, .int v1), (2, .int v2)], [], (q_kX s c n)) (q_oP (q_kX s c n)) (dz_X66_64_4 m s v1 v2) := by
  intro m
  induction m with
  | zero => intro v1 v2; exact q_RP_no
  | succ m ih =>
    intro v1 v2
    have hk4 := ih
    clear ih
    rw [dzs_X66_64_4]
    generalize dz_X66_64_4 m = k4 at hk4 ⊢
    dsimp only
    refine q_RP_seg (g2 := (8, [(0, .ref 64), (1, .int v1), (2, .int v2)], [.int 1024, .int v2], (q_kX s c n))) 2 (fun _ _ => rfl) ?_
    cases h1 : decide (v2 < 1024) with
    | true =>
      refine q_RP_cT ?_
      refine q_RP_rsF (g2 := (11, [(0, .ref 64), (1, .int v1), (2, .int v2)], [], (q_kX s c n))) rfl rfl (q_d_geT h1) ?_
      refine q_RP_seg (g2 := (23, [(0, .ref 64), (1, .int v1), (2, .int v2)], [.int v2, .ref 96, .int (31 * v1)], (q_kX s c n))) 7 (fun _ _ => rfl) ?_
      refine q_RP_as fun i2 => ?_
      refine q_RP_rsT (g2 := (24, [(0, .ref 64), (1, .int v1), (2, .int v2)], [.int ((s.1 32) (v2.toNatClampNeg)), .int (31 * v1)], (q_kX s c n))) rfl rfl i2 ?_
      refine q_RP_seg (g2 := (25, [(0, .ref 64), (1, .int v1), (2, .int v2)], [.int ((31 * v1) + ((s.1 32) (v2.toNatClampNeg)))], (q_kX s c n))) 1 (fun _ _ => rfl) ?_
      generalize ((31 * v1) + ((s.1 32) (v2.toNatClampNeg))) = x1
      refine q_RP_let ?_
      show q_RP _ _ _ (25, [(0, .ref 64), (1, .int v1), (2, .int v2)], [.int x1], (q_kX s c n)) _ _
      refine q_RP_seg (g2 := (4, [(2, .int (v2 + 1)), (1, .int x1), (0, .ref 64)], [], (q_kX s c n))) 3 (fun _ _ => rfl) ?_
      exact q_RP_xt (q_xt_mk (q_mn1 2 rfl (q_mn1 1 rfl (q_mn1 0 rfl q_mn0))) rfl) (hk4 x1 (v2 + 1))
    | false =>
      refine q_RP_cF ?_
      refine q_RP_rsT (g2 := (32, [(0, .ref 64), (1, .int v1), (2, .int v2)], [], (q_kX s c n))) rfl rfl (q_d_geF h1) ?_
      refine q_RP_seg (g2 := (33, [(0, .ref 64), (1, .int v1), (2, .int v2)], [.int v1], (q_kX s c n))) 1 (fun _ _ => rfl) ?_
      exact q_RP_ret rfl rfl rfl
def dz_X66_64 (s : q_S) : Option (Int32) :=
  dz_X66_64_4 5000 s 0 0
set_option maxHeartbeats 4000000 in
theorem dzt_X66_64 (z L : Nat) (xs : Nat → Int32) (s : q_S) (c n : Nat) (x : Int32) (h : dz_X66_64 s = some x) : q_Ca (q_TBs z L xs) 1 66 [.ref 64] (q_kX s c n) ((q_oP (q_kX s c n)) x) := by
  refine q_CaP_of (φ := (q_oP (q_kX s c n))) (Nat.le_of_ble_eq_true rfl) ?_ h
  clear h
  unfold dz_X66_64
  refine q_RP_seg (g2 := (4, [(2, .int 0), (1, .int 0), (0, .ref 64)], [], (q_kX s c n))) 4 (fun _ _ => rfl) ?_
  exact q_RP_xt (q_xt_mk (q_mn1 2 rfl (q_mn1 1 rfl (q_mn1 0 rfl q_mn0))) rfl) (dzt_X66_64_4 z L xs c n s 5000 0 0)
def dz_X67_64 (s : q_S) : Int64 :=
  (s.2.2 1 4)
set_option maxHeartbeats 4000000 in
theorem dzt_X67_64 (z L : Nat) (xs : Nat → Int32) (s : q_S) (c n : Nat) : q_Ca (q_TBs z L xs) 1 67 [.ref 64] (q_kX s c n) ((q_oL (q_kX s c n)) (dz_X67_64 s)) := by
  refine q_CaT_of (φ := (q_oL (q_kX s c n))) (Nat.le_of_ble_eq_true rfl) ?_
  unfold dz_X67_64
  refine q_RT_seg (g2 := (7, [(0, .ref 64)], [.long (s.2.2 1 4)], (q_kX s c n))) 3 (fun _ _ => rfl) ?_
  exact q_RT_ret rfl rfl rfl
def dz_X68_64_20 (m : Nat) : q_S → Int32 → Int32 → Int32 → Option (UInt32) := Nat.rec (motive := fun _ => q_S → Int32 → Int32 → Int32 → Option (UInt32)) (fun _ _ _ _ => none) (fun _ k20 s v1 v2 v3 =>
  cond (decide (v3 < 1024)) (cond (q_in v3 1024) (cond (decide ((s.1 32) (v3.toNatClampNeg) = v1)) (k20 s v1 v2 (v3 + 1)) (k20 s v1 (v2 + 1) (v3 + 1))) none) (cond (q_nnf (FP.fdiv (FP.i2f v2) 1149239296)) (some (FP.fdiv (FP.i2f v2) 1149239296)) none)) m
theorem dzs_X68_64_20 (m : Nat) (s : q_S) (v1 : Int32) (v2 : Int32) (v3 : Int32) : dz_X68_64_20 (m + 1) s v1 v2 v3 = (fun k20 : q_S → Int32 → Int32 → Int32 → Option (UInt32) =>
  cond (decide (v3 < 1024)) (cond (q_in v3 1024) (cond (decide ((s.1 32) (v3.toNatClampNeg) = v1)) (k20 s v1 v2 (v3 + 1)) (k20 s v1 (v2 + 1) (v3 + 1))) none) (cond (q_nnf (FP.fdiv (FP.i2f v2) 1149239296)) (some (FP.fdiv (FP.i2f v2) 1149239296)) none)) (dz_X68_64_20 m) := rfl
set_option maxHeartbeats 4000000 in
theorem dzt_X68_64_20 (z L : Nat) (xs : Nat → Int32) (c n : Nat) (s : q_S) : ∀ (m : Nat) (v1 : Int32) (v2 : Int32) (v3 : Int32), q_RP (q_TBs z L xs) 0 68 (20, [(0, .ref 64), (1, .int v1), (2, .int v2), (3, .int v3)], [], (q_kX s c n)) (q_oF (q_kX s c n)) (dz_X68_64_20 m s v1 v2 v3) := by
  intro m
  induction m with
  | zero => intro v1 v2 v3; exact q_RP_no
  | succ m ih =>
    intro v1 v2 v3
    have hk20 := ih
    clear ih
    rw [dzs_X68_64_20]
    generalize dz_X68_64_20 m = k20 at hk20 ⊢
    dsimp only
    refine q_RP_seg (g2 := (24, [(0, .ref 64), (1, .int v1), (2, .int v2), (3, .int v3)], [.int 1024, .int v3], (q_kX s c n))) 2 (fun _ _ => rfl) ?_
    cases h1 : decide (v3 < 1024) with
    | true =>
      refine q_RP_cT ?_
      refine q_RP_rsF (g2 := (27, [(0, .ref 64), (1, .int v1), (2, .int v2), (3, .int v3)], [], (q_kX s c n))) rfl rfl (q_d_geT h1) ?_
      refine q_RP_seg (g2 := (35, [(0, .ref 64), (1, .int v1), (2, .int v2), (3, .int v3)], [.int v3, .ref 96], (q_kX s c n))) 4 (fun _ _ => rfl) ?_
      refine q_RP_as fun i2 => ?_
      refine q_RP_rsT (g2 := (36, [(0, .ref 64), (1, .int v1), (2, .int v2), (3, .int v3)], [.int ((s.1 32) (v3.toNatClampNeg))], (q_kX s c n))) rfl rfl i2 ?_
      refine q_RP_seg (g2 := (37, [(0, .ref 64), (1, .int v1), (2, .int v2), (3, .int v3)], [.int v1, .int ((s.1 32) (v3.toNatClampNeg))], (q_kX s c n))) 1 (fun _ _ => rfl) ?_
      cases h3 : decide ((s.1 32) (v3.toNatClampNeg) = v1) with
      | true =>
        refine q_RP_cT ?_
        refine q_RP_rsT (g2 := (43, [(0, .ref 64), (1, .int v1), (2, .int v2), (3, .int v3)], [], (q_kX s c n))) rfl rfl h3 ?_
        refine q_RP_seg (g2 := (20, [(3, .int (v3 + 1)), (0, .ref 64), (1, .int v1), (2, .int v2)], [], (q_kX s c n))) 2 (fun _ _ => rfl) ?_
        exact q_RP_xt (q_xt_mk (q_mn1 1 rfl (q_mn1 2 rfl (q_mn1 3 rfl (q_mn1 0 rfl q_mn0)))) rfl) (hk20 v1 v2 (v3 + 1))
      | false =>
        refine q_RP_cF ?_
        refine q_RP_rsF (g2 := (40, [(0, .ref 64), (1, .int v1), (2, .int v2), (3, .int v3)], [], (q_kX s c n))) rfl rfl h3 ?_
        refine q_RP_seg (g2 := (20, [(3, .int (v3 + 1)), (2, .int (v2 + 1)), (0, .ref 64), (1, .int v1)], [], (q_kX s c n))) 3 (fun _ _ => rfl) ?_
        exact q_RP_xt (q_xt_mk (q_mn1 2 rfl (q_mn1 3 rfl (q_mn1 1 rfl (q_mn1 0 rfl q_mn0)))) rfl) (hk20 v1 (v2 + 1) (v3 + 1))
    | false =>
      refine q_RP_cF ?_
      refine q_RP_rsT (g2 := (49, [(0, .ref 64), (1, .int v1), (2, .int v2), (3, .int v3)], [], (q_kX s c n))) rfl rfl (q_d_geF h1) ?_
      refine q_RP_seg (g2 := (53, [(0, .ref 64), (1, .int v1), (2, .int v2), (3, .int v3)], [.float 1149239296, .float (FP.i2f v2)], (q_kX s c n))) 3 (fun _ _ => rfl) ?_
      refine q_RP_as fun i4 => ?_
      refine q_RP_st1 (g2 := (54, [(0, .ref 64), (1, .int v1), (2, .int v2), (3, .int v3)], [.float (FP.fdiv (FP.i2f v2) 1149239296)], (q_kX s c n))) rfl (q_fdv i4) ?_
      exact q_RP_ret rfl rfl rfl
def dz_X68_64 (s : q_S) : Option (UInt32) :=
  q_let ((s.1 5) 3) fun x1 => dz_X68_64_20 5000 s x1 0 0
set_option maxHeartbeats 4000000 in
theorem dzt_X68_64 (z L : Nat) (xs : Nat → Int32) (s : q_S) (c n : Nat) (x : UInt32) (h : dz_X68_64 s = some x) : q_Ca (q_TBs z L xs) 1 68 [.ref 64] (q_kX s c n) ((q_oF (q_kX s c n)) x) := by
  refine q_CaP_of (φ := (q_oF (q_kX s c n))) (Nat.le_of_ble_eq_true rfl) ?_ h
  clear h
  unfold dz_X68_64
  refine q_RP_seg (g2 := (15, [(0, .ref 64)], [.int ((s.1 5) 3)], (q_kX s c n))) 7 (fun _ _ => rfl) ?_
  generalize ((s.1 5) 3) = x1
  refine q_RP_let ?_
  show q_RP _ _ _ (15, [(0, .ref 64)], [.int x1], (q_kX s c n)) _ _
  refine q_RP_seg (g2 := (20, [(3, .int 0), (2, .int 0), (1, .int x1), (0, .ref 64)], [], (q_kX s c n))) 5 (fun _ _ => rfl) ?_
  exact q_RP_xt (q_xt_mk (q_mn1 3 rfl (q_mn1 2 rfl (q_mn1 1 rfl (q_mn1 0 rfl q_mn0)))) rfl) (dzt_X68_64_20 z L xs c n s 5000 x1 0 0)
def dz_X69_64_4 (m : Nat) : q_S → Int32 → Int32 → Option (UInt64) := Nat.rec (motive := fun _ => q_S → Int32 → Int32 → Option (UInt64)) (fun _ _ _ => none) (fun _ k4 s v1 v2 =>
  cond (decide (v2 < 40)) (cond (q_in v2 40) (q_let (v1 + ((s.1 31) (v2.toNatClampNeg))) fun x1 => k4 s x1 (v2 + 1)) none) (cond (q_nnd (FP.ddiv (FP.i2d v1) 4630826316843712512)) (some (FP.ddiv (FP.i2d v1) 4630826316843712512)) none)) m
theorem dzs_X69_64_4 (m : Nat) (s : q_S) (v1 : Int32) (v2 : Int32) : dz_X69_64_4 (m + 1) s v1 v2 = (fun k4 : q_S → Int32 → Int32 → Option (UInt64) =>
  cond (decide (v2 < 40)) (cond (q_in v2 40) (q_let (v1 + ((s.1 31) (v2.toNatClampNeg))) fun x1 => k4 s x1 (v2 + 1)) none) (cond (q_nnd (FP.ddiv (FP.i2d v1) 4630826316843712512)) (some (FP.ddiv (FP.i2d v1) 4630826316843712512)) none)) (dz_X69_64_4 m) := rfl
set_option maxHeartbeats 4000000 in
theorem dzt_X69_64_4 (z L : Nat) (xs : Nat → Int32) (c n : Nat) (s : q_S) : ∀ (m : Nat) (v1 : Int32) (v2 : Int32), q_RP (q_TBs z L xs) 0 69 (4, [(0, .ref 64), (1, .int v1), (2, .int v2)], [], (q_kX s c n)) (q_oD (q_kX s c n)) (dz_X69_64_4 m s v1 v2) := by
  intro m
  induction m with
  | zero => intro v1 v2; exact q_RP_no
  | succ m ih =>
    intro v1 v2
    have hk4 := ih
    clear ih
    rw [dzs_X69_64_4]
    generalize dz_X69_64_4 m = k4 at hk4 ⊢
    dsimp only
    refine q_RP_seg (g2 := (7, [(0, .ref 64), (1, .int v1), (2, .int v2)], [.int 40, .int v2], (q_kX s c n))) 2 (fun _ _ => rfl) ?_
    cases h1 : decide (v2 < 40) with
    | true =>
      refine q_RP_cT ?_
      refine q_RP_rsF (g2 := (10, [(0, .ref 64), (1, .int v1), (2, .int v2)], [], (q_kX s c n))) rfl rfl (q_d_geT h1) ?_
      refine q_RP_seg (g2 := (22, [(0, .ref 64), (1, .int v1), (2, .int v2)], [.int v2, .ref 95, .int v1], (q_kX s c n))) 6 (fun _ _ => rfl) ?_
      refine q_RP_as fun i2 => ?_
      refine q_RP_rsT (g2 := (23, [(0, .ref 64), (1, .int v1), (2, .int v2)], [.int ((s.1 31) (v2.toNatClampNeg)), .int v1], (q_kX s c n))) rfl rfl i2 ?_
      refine q_RP_seg (g2 := (24, [(0, .ref 64), (1, .int v1), (2, .int v2)], [.int (v1 + ((s.1 31) (v2.toNatClampNeg)))], (q_kX s c n))) 1 (fun _ _ => rfl) ?_
      generalize (v1 + ((s.1 31) (v2.toNatClampNeg))) = x1
      refine q_RP_let ?_
      show q_RP _ _ _ (24, [(0, .ref 64), (1, .int v1), (2, .int v2)], [.int x1], (q_kX s c n)) _ _
      refine q_RP_seg (g2 := (4, [(2, .int (v2 + 1)), (1, .int x1), (0, .ref 64)], [], (q_kX s c n))) 3 (fun _ _ => rfl) ?_
      exact q_RP_xt (q_xt_mk (q_mn1 2 rfl (q_mn1 1 rfl (q_mn1 0 rfl q_mn0))) rfl) (hk4 x1 (v2 + 1))
    | false =>
      refine q_RP_cF ?_
      refine q_RP_rsT (g2 := (31, [(0, .ref 64), (1, .int v1), (2, .int v2)], [], (q_kX s c n))) rfl rfl (q_d_geF h1) ?_
      refine q_RP_seg (g2 := (36, [(0, .ref 64), (1, .int v1), (2, .int v2)], [.double 4630826316843712512, .double (FP.i2d v1)], (q_kX s c n))) 3 (fun _ _ => rfl) ?_
      refine q_RP_as fun i3 => ?_
      refine q_RP_st1 (g2 := (37, [(0, .ref 64), (1, .int v1), (2, .int v2)], [.double (FP.ddiv (FP.i2d v1) 4630826316843712512)], (q_kX s c n))) rfl (q_ddv i3) ?_
      exact q_RP_ret rfl rfl rfl
def dz_X69_64 (s : q_S) : Option (UInt64) :=
  dz_X69_64_4 5000 s 0 0
set_option maxHeartbeats 4000000 in
theorem dzt_X69_64 (z L : Nat) (xs : Nat → Int32) (s : q_S) (c n : Nat) (x : UInt64) (h : dz_X69_64 s = some x) : q_Ca (q_TBs z L xs) 1 69 [.ref 64] (q_kX s c n) ((q_oD (q_kX s c n)) x) := by
  refine q_CaP_of (φ := (q_oD (q_kX s c n))) (Nat.le_of_ble_eq_true rfl) ?_ h
  clear h
  unfold dz_X69_64
  refine q_RP_seg (g2 := (4, [(2, .int 0), (1, .int 0), (0, .ref 64)], [], (q_kX s c n))) 4 (fun _ _ => rfl) ?_
  exact q_RP_xt (q_xt_mk (q_mn1 2 rfl (q_mn1 1 rfl (q_mn1 0 rfl q_mn0))) rfl) (dzt_X69_64_4 z L xs c n s 5000 0 0)
end
section
-- 50.z
/-! ===== the law's start and its end ===== -/
def q_AL (i : Nat) : Nat → Int32 := cond (Nat.blt i 172) (q_AX i) (cond (Nat.blt i 206) (q_AM (i - 172)) (fun _ => 0))
def q_IL (i k : Nat) : Int32 := cond (Nat.blt i 172) (q_IX i k) (cond (Nat.blt i 206) (q_IM (i - 172) k) 0)
def q_SL0 : q_S := (q_AL, q_IL, q_J0)
def q_oX : q_C := .inr (13, [.null, .null, .int 0, .null, .null, .null])
def q_oM : q_C := .inr (14, [.null, .null, .null, .null, .null, .null, .null, .null, .null, .null, .null, .null, .null, .null, .null, .long 0, .long 0, .int 0, .null, .null, .null, .null, .null, .null, .null, .null, .null, .null, .null, .null, .null, .null, .null, .null, .int 0, .int 0, .null, .null, .int 0, .int 0])
set_option maxRecDepth 1000000 in
theorem q_newML {TB : Nat → Option (Nat × Nat × (Nat → Int32))} : q_Ca TB 2 197 [.ref 236] ((q_cX q_AX q_IX q_J0).take 172 ++ [q_oM], 173, 117991) (.inl none, (q_cL q_AL q_IL q_J0).take 206, 206, 149581) := ⟨400, rfl⟩
set_option maxRecDepth 1000000 in
theorem q_lwS1 {z L : Nat} {xs : Nat → Int32} {o : q_Out} (h : q_Ru (q_TBs z L xs) 20 376 (15, [(1, .ref 64), (0, .ref 0)], [.ref 236], ((q_cL q_AL q_IL q_J0).take 206, 206, 149581)) o) : q_Ru (q_TBs z L xs) 20 376 (0, [(0, .ref 0)], [], ([], 0, 0)) o := by
  refine q_Ru_seg (g2 := (4, [(0, .ref 0)], [.ref 64, .ref 64], ([q_oX], 1, 6))) 2 (fun _ _ => rfl) ?_
  refine q_Ru_call (v := none) (h2 := ((q_cX q_AX q_IX q_J0).take 172, 172, 117951)) rfl rfl (q_newX.le (Nat.le_of_ble_eq_true rfl)) ?_
  show q_Ru _ _ _ (7, [(0, .ref 0)], [.ref 64], ((q_cX q_AX q_IX q_J0).take 172, 172, 117951)) _
  refine q_Ru_seg (g2 := (12, [(1, .ref 64), (0, .ref 0)], [.ref 236, .ref 236], ((q_cX q_AX q_IX q_J0).take 172 ++ [q_oM], 173, 117991))) 3 (fun _ _ => rfl) ?_
  refine q_Ru_call (v := none) (h2 := ((q_cL q_AL q_IL q_J0).take 206, 206, 149581)) rfl rfl (q_newML.le (Nat.le_of_ble_eq_true rfl)) ?_
  exact h
set_option maxRecDepth 1000000 in
theorem q_lwS {z L : Nat} {xs : Nat → Int32} {o : q_Out} (h : q_Ru (q_TBs z L xs) 20 376 (23, [(4, .int 0), (3, .ref 270), (2, .ref 236), (1, .ref 64), (0, .ref 0)], [], (q_kL q_SL0 207 149582)) o) : q_Ru (q_TBs z L xs) 20 376 (0, [(0, .ref 0)], [], ([], 0, 0)) o := by
  refine q_lwS1 ?_
  refine q_Ru_seg (g2 := (17, [(2, .ref 236), (1, .ref 64), (0, .ref 0)], [.int 1], ((q_cL q_AL q_IL q_J0).take 206, 206, 149581))) 2 (fun _ _ => rfl) ?_
  refine q_Ru_rsT (g2 := (19, [(2, .ref 236), (1, .ref 64), (0, .ref 0)], [.ref 270], ((q_cL q_AL q_IL q_J0).take 206 ++ [.inl (2, 1, .inr (.inl fun _ => 0))], 207, 149582))) rfl rfl rfl ?_
  refine q_Ru_seg (g2 := (23, [(4, .int 0), (3, .ref 270), (2, .ref 236), (1, .ref 64), (0, .ref 0)], [], (q_kL q_SL0 207 149582))) 3 (fun _ _ => rfl) ?_
  exact h
theorem q_lwE (z L : Nat) (xs : Nat → Int32) (S : q_S) (c n : Nat) (i : Int32) (hi : decide ((Int32.ofNat L) - 4 < i) = true) : q_Ru (q_TBs z L xs) 20 376 (23, [(4, .int i), (3, .ref 270), (2, .ref 236), (1, .ref 64), (0, .ref 0)], [], (q_kL S c n)) (.inl (some (.int 1)), q_kL S c n) := by
  refine q_Ru_seg (g2 := (29, [(4, .int i), (3, .ref 270), (2, .ref 236), (1, .ref 64), (0, .ref 0)], [.int ((Int32.ofNat L) - 4), .int i], (q_kL S c n))) 5 (fun _ _ => rfl) ?_
  refine q_Ru_rsT (g2 := (1335, [(4, .int i), (3, .ref 270), (2, .ref 236), (1, .ref 64), (0, .ref 0)], [], (q_kL S c n))) rfl rfl hi ?_
  refine q_Ru_seg (g2 := (1336, [(4, .int i), (3, .ref 270), (2, .ref 236), (1, .ref 64), (0, .ref 0)], [.int 1], (q_kL S c n))) 1 (fun _ _ => rfl) ?_
  exact q_Ru_ret rfl rfl
end
section
-- 51.a
/-! ===== no NaN comes out of the two divisions ===== -/
def q_wf (f : FP.Core.Fmt) (d : FP.Core.Datum) : Prop := match d with
  | .nan => False
  | .inf _ => True
  | .fin _ c q => c < 2 ^ f.p ∧ f.qmin ≤ q ∧ q ≤ f.qmax
theorem q_wf_bound {f : FP.Core.Fmt} {s : Bool} {c : Nat} {q : Int} (h1 : c < 2 ^ f.p) (h2 : f.qmin ≤ q) : q_wf f (FP.Core.bound f s c q) := by
  unfold FP.Core.bound
  split
  · rename_i h
    exact ⟨h1, h2, h⟩
  · exact trivial
theorem q_wf_ratio {f : FP.Core.Fmt} (hp : f.tails < 2 ^ f.p) (h0 : f.qmin ≤ f.qmax) (s : Bool) (n d : Nat) (e : Int) : q_wf f (FP.Core.roundRatio f s n d e) := by
  unfold FP.Core.roundRatio
  split
  · exact ⟨Nat.lt_of_le_of_lt (Nat.zero_le _) hp, Int.le_refl _, h0⟩
  · unfold FP.Core.roundAt FP.Core.settle
    have hq : f.qmin ≤ FP.Core.quantum f n d e := by
      unfold FP.Core.quantum
      exact Int.le_max_left _ _
    split
    · rename_i h
      exact q_wf_bound h hq
    · exact q_wf_bound hp (Int.le_trans hq (by omega))
theorem q_wf_round {f : FP.Core.Fmt} (hp : f.tails < 2 ^ f.p) (h0 : f.qmin ≤ f.qmax) (d : FP.Core.Datum) (h : ¬ d = .nan) : q_wf f (FP.Core.round f d) := by
  cases d with
  | nan => exact absurd rfl h
  | inf s => exact trivial
  | fin s c q => exact q_wf_ratio hp h0 s c 1 q
/-- the fields of what a number or an infinity is written as -/
theorem q_wf_enc {f : FP.Core.Fmt} {d : FP.Core.Datum} (h : q_wf f d) (hp : 2 ^ f.p = 2 * f.tails) (h0 : f.qmax - f.qmin + 3 = (f.exps : Int)) (ht : 0 < f.tails) (hx : 0 < f.exps) : ∃ (s : Bool) (e t : Nat), FP.Core.encode f d = FP.Core.assemble f s e t ∧ t < f.tails ∧ e < f.exps ∧ (e = f.exps - 1 → t = 0) := by
  cases d with
  | nan => exact h.elim
  | inf s => exact ⟨s, f.exps - 1, 0, rfl, ht, by omega, fun _ => rfl⟩
  | fin s c q =>
    obtain ⟨h1, h2, h3⟩ := h
    unfold FP.Core.encode
    dsimp only
    by_cases hc : c < f.tails
    · rw [if_pos hc]
      exact ⟨s, 0, c, rfl, hc, by omega, fun e9 => by omega⟩
    · rw [if_neg hc]
      exact ⟨s, (q - f.qmin).toNat + 1, c - f.tails, rfl, by omega, by omega, fun e9 => by omega⟩
theorem q_dec_asm {f : FP.Core.Fmt} {s : Bool} {e t : Nat} (h1 : t < f.tails) (h2 : e < f.exps) (h3 : e = f.exps - 1 → t = 0) : ¬ FP.Core.decode f (FP.Core.assemble f s e t) = .nan := by
  have a1 : FP.Core.fieldT f (FP.Core.assemble f s e t) = t := by
    unfold FP.Core.fieldT FP.Core.assemble
    rw [Nat.mul_comm, Nat.mul_add_mod, Nat.mod_eq_of_lt h1]
  have a2 : FP.Core.fieldE f (FP.Core.assemble f s e t) = e := by
    unfold FP.Core.fieldE FP.Core.assemble
    rw [Nat.mul_comm, Nat.mul_add_div (by omega), Nat.div_eq_of_lt h1, Nat.add_zero, Nat.mul_comm, Nat.mul_add_mod, Nat.mod_eq_of_lt h2]
  unfold FP.Core.decode
  rw [a1, a2]
  split
  · rename_i he
    rw [if_pos (h3 he)]
    exact fun h => by cases h
  · split
    · exact fun h => by cases h
    · exact fun h => by cases h
theorem q_quo {f : FP.Core.Fmt} (hp : f.tails < 2 ^ f.p) (h0 : f.qmin ≤ f.qmax) {a : FP.Core.Datum} (ha : ¬ a = .nan) {t : Bool} {d : Nat} {r : Int} (hd : ¬ d = 0) : q_wf f (FP.Core.quotient f a (.fin t d r)) := by
  cases a with
  | nan => exact absurd rfl ha
  | inf s => exact trivial
  | fin s c q =>
    unfold FP.Core.quotient
    dsimp only
    rw [if_neg hd]
    exact q_wf_ratio hp h0 _ _ _ _
theorem q_asm_lt {f : FP.Core.Fmt} {s : Bool} {e t : Nat} (h1 : t < f.tails) (h2 : e < f.exps) : FP.Core.assemble f s e t < 2 * f.exps * f.tails := by
  unfold FP.Core.assemble
  have hs : s.toNat ≤ 1 := by cases s <;> decide
  have h3 : s.toNat * f.exps + e + 1 ≤ 2 * f.exps := by
    have : s.toNat * f.exps ≤ 1 * f.exps := Nat.mul_le_mul_right _ hs
    omega
  have h4 : (s.toNat * f.exps + e + 1) * f.tails ≤ 2 * f.exps * f.tails := Nat.mul_le_mul_right _ h3
  rw [Nat.add_mul, Nat.one_mul] at h4
  omega
theorem q_b64 : FP.Core.b64.tails = 2 ^ 52 ∧ FP.Core.b64.exps = 2048 ∧ FP.Core.b64.p = 53 ∧ FP.Core.b64.qmin = -1074 ∧ FP.Core.b64.qmax = 971 := by decide
theorem q_b32 : FP.Core.b32.tails = 2 ^ 23 ∧ FP.Core.b32.exps = 256 ∧ FP.Core.b32.p = 24 ∧ FP.Core.b32.qmin = -149 ∧ FP.Core.b32.qmax = 104 := by decide
theorem q_enc64 {d : FP.Core.Datum} (h : q_wf FP.Core.b64 d) : ∃ (s : Bool) (e t : Nat), FP.Core.encode FP.Core.b64 d = FP.Core.assemble FP.Core.b64 s e t ∧ t < 2 ^ 52 ∧ e < 2048 ∧ (e = 2047 → t = 0) := by
  obtain ⟨a1, a2, a3, a4, a5⟩ := q_b64
  obtain ⟨s, e, t, h1, h2, h3, h4⟩ := q_wf_enc h (by rw [a1, a3]) (by rw [a2, a4, a5]; rfl) (by rw [a1]; decide) (by rw [a2]; decide)
  rw [a1] at h2
  rw [a2] at h3 h4
  exact ⟨s, e, t, h1, h2, h3, h4⟩
theorem q_enc32 {d : FP.Core.Datum} (h : q_wf FP.Core.b32 d) : ∃ (s : Bool) (e t : Nat), FP.Core.encode FP.Core.b32 d = FP.Core.assemble FP.Core.b32 s e t ∧ t < 2 ^ 23 ∧ e < 256 ∧ (e = 255 → t = 0) := by
  obtain ⟨a1, a2, a3, a4, a5⟩ := q_b32
  obtain ⟨s, e, t, h1, h2, h3, h4⟩ := q_wf_enc h (by rw [a1, a3]) (by rw [a2, a4, a5]; rfl) (by rw [a1]; decide) (by rw [a2]; decide)
  rw [a1] at h2
  rw [a2] at h3 h4
  exact ⟨s, e, t, h1, h2, h3, h4⟩
theorem q_asm64 (s : Bool) (e t : Nat) : FP.Core.assemble FP.Core.b64 s e t = (s.toNat * 2048 + e) * 2 ^ 52 + t := by
  obtain ⟨a1, a2, -⟩ := q_b64
  unfold FP.Core.assemble
  rw [a1, a2]
theorem q_asm32 (s : Bool) (e t : Nat) : FP.Core.assemble FP.Core.b32 s e t = (s.toNat * 256 + e) * 2 ^ 23 + t := by
  obtain ⟨a1, a2, -⟩ := q_b32
  unfold FP.Core.assemble
  rw [a1, a2]
theorem q_nnd_wf {d : FP.Core.Datum} (h : q_wf FP.Core.b64 d) : q_nnd (UInt64.ofNat (FP.Core.encode FP.Core.b64 d)) = true := by
  obtain ⟨s, e, t, h1, h2, h3, h4⟩ := q_enc64 h
  rw [h1, q_asm64]
  have hs : s.toNat ≤ 1 := by cases s <;> decide
  unfold q_nnd
  refine decide_eq_true ?_
  rw [UInt64.le_iff_toNat_le, UInt64.toNat_and]
  have hlt : (s.toNat * 2048 + e) * 2 ^ 52 + t < 2 ^ 64 := by omega
  have e1 : (UInt64.ofNat ((s.toNat * 2048 + e) * 2 ^ 52 + t)).toNat = (s.toNat * 2048 + e) * 2 ^ 52 + t := UInt64.toNat_ofNat_of_lt' hlt
  have e2 : (0x7fffffffffffffff : UInt64).toNat = 2 ^ 63 - 1 := by decide
  have e3 : (0x7ff0000000000000 : UInt64).toNat = 2047 * 2 ^ 52 := by decide
  rw [e1, e2, e3, Nat.and_two_pow_sub_one_eq_mod]
  have e4 : ((s.toNat * 2048 + e) * 2 ^ 52 + t) % 2 ^ 63 = e * 2 ^ 52 + t := by
    have : s.toNat = 0 ∨ s.toNat = 1 := by omega
    rcases this with q | q <;> rw [q] <;> omega
  rw [e4]
  by_cases he : e = 2047
  · rw [h4 he, he]; omega
  · omega
theorem q_nnf_wf {d : FP.Core.Datum} (h : q_wf FP.Core.b32 d) : q_nnf (UInt32.ofNat (FP.Core.encode FP.Core.b32 d)) = true := by
  obtain ⟨s, e, t, h1, h2, h3, h4⟩ := q_enc32 h
  rw [h1, q_asm32]
  have hs : s.toNat ≤ 1 := by cases s <;> decide
  unfold q_nnf
  refine decide_eq_true ?_
  rw [UInt32.le_iff_toNat_le, UInt32.toNat_and]
  have hlt : (s.toNat * 256 + e) * 2 ^ 23 + t < 2 ^ 32 := by omega
  have e1 : (UInt32.ofNat ((s.toNat * 256 + e) * 2 ^ 23 + t)).toNat = (s.toNat * 256 + e) * 2 ^ 23 + t := UInt32.toNat_ofNat_of_lt' hlt
  have e2 : (0x7fffffff : UInt32).toNat = 2 ^ 31 - 1 := by decide
  have e3 : (0x7f800000 : UInt32).toNat = 255 * 2 ^ 23 := by decide
  rw [e1, e2, e3, Nat.and_two_pow_sub_one_eq_mod]
  have e4 : ((s.toNat * 256 + e) * 2 ^ 23 + t) % 2 ^ 31 = e * 2 ^ 23 + t := by
    have : s.toNat = 0 ∨ s.toNat = 1 := by omega
    rcases this with q | q <;> rw [q] <;> omega
  rw [e4]
  by_cases he : e = 255
  · rw [h4 he, he]; omega
  · omega
theorem q_ofInt_nn (i : Int) : ¬ FP.Core.ofInt i = .nan := fun h => by cases h
theorem q_hp64 : FP.Core.b64.tails < 2 ^ FP.Core.b64.p := by decide
theorem q_hp32 : FP.Core.b32.tails < 2 ^ FP.Core.b32.p := by decide
theorem q_hq64 : FP.Core.b64.qmin ≤ FP.Core.b64.qmax := by decide
theorem q_hq32 : FP.Core.b32.qmin ≤ FP.Core.b32.qmax := by decide
theorem q_i2d_nn (v : Int32) : ¬ FP.Core.decode FP.Core.b64 (FP.i2d v).toNat = .nan := by
  obtain ⟨s, e, t, h1, h2, h3, h4⟩ := q_enc64 (q_wf_round q_hp64 q_hq64 (FP.Core.ofInt v.toInt) (q_ofInt_nn _))
  obtain ⟨a1, a2, -⟩ := q_b64
  have e0 : (FP.i2d v).toNat = FP.Core.assemble FP.Core.b64 s e t := by
    show (UInt64.ofNat (FP.Core.encode FP.Core.b64 (FP.Core.round FP.Core.b64 (FP.Core.ofInt v.toInt)))).toNat = _
    rw [h1]
    have := q_asm_lt (f := FP.Core.b64) (s := s) (e := e) (t := t) (by rw [a1]; exact h2) (by rw [a2]; exact h3)
    rw [a1, a2] at this
    exact UInt64.toNat_ofNat_of_lt' this
  rw [e0]
  exact q_dec_asm (by rw [a1]; exact h2) (by rw [a2]; exact h3) (by rw [a2]; exact h4)
theorem q_i2f_nn (v : Int32) : ¬ FP.Core.decode FP.Core.b32 (FP.i2f v).toNat = .nan := by
  obtain ⟨s, e, t, h1, h2, h3, h4⟩ := q_enc32 (q_wf_round q_hp32 q_hq32 (FP.Core.ofInt v.toInt) (q_ofInt_nn _))
  obtain ⟨a1, a2, -⟩ := q_b32
  have e0 : (FP.i2f v).toNat = FP.Core.assemble FP.Core.b32 s e t := by
    show (UInt32.ofNat (FP.Core.encode FP.Core.b32 (FP.Core.round FP.Core.b32 (FP.Core.ofInt v.toInt)))).toNat = _
    rw [h1]
    have := q_asm_lt (f := FP.Core.b32) (s := s) (e := e) (t := t) (by rw [a1]; exact h2) (by rw [a2]; exact h3)
    rw [a1, a2] at this
    exact UInt32.toNat_ofNat_of_lt' this
  rw [e0]
  exact q_dec_asm (by rw [a1]; exact h2) (by rw [a2]; exact h3) (by rw [a2]; exact h4)
theorem q_nnM (v : Int32) : q_nnd (FP.ddiv (FP.i2d v) 4630826316843712512) = true := by
  have e : FP.Core.decode FP.Core.b64 (4630826316843712512 : UInt64).toNat = .fin false 5629499534213120 (-47) := by decide +kernel
  show q_nnd (UInt64.ofNat (FP.Core.encode FP.Core.b64 (FP.Core.quotient FP.Core.b64 (FP.Core.decode FP.Core.b64 (FP.i2d v).toNat) (FP.Core.decode FP.Core.b64 (4630826316843712512 : UInt64).toNat)))) = true
  rw [e]
  exact q_nnd_wf (q_quo q_hp64 q_hq64 (q_i2d_nn v) (by decide))
theorem q_nnS (v : Int32) : q_nnf (FP.fdiv (FP.i2f v) 1149239296) = true := by
  have e : FP.Core.decode FP.Core.b32 (1149239296 : UInt32).toNat = .fin false 8388608 (-13) := by decide +kernel
  show q_nnf (UInt32.ofNat (FP.Core.encode FP.Core.b32 (FP.Core.quotient FP.Core.b32 (FP.Core.decode FP.Core.b32 (FP.i2f v).toNat) (FP.Core.decode FP.Core.b32 (1149239296 : UInt32).toNat)))) = true
  rw [e]
  exact q_nnf_wf (q_quo q_hp32 q_hq32 (q_i2f_nn v) (by decide))
end
section
-- 51.b
/-! ===== ranges of what the model's cells hold ===== -/
def q_rgz (l u : Int) (x : Int32) : Prop := l ≤ x.toInt ∧ x.toInt ≤ u
def q_rgL (l u : Int) (x : Int64) : Prop := l ≤ x.toInt ∧ x.toInt ≤ u
theorem q_rg_full (x : Int32) : q_rgz (-2147483648) 2147483647 x := ⟨Int32.le_toInt x, by have := Int32.toInt_lt x; omega⟩
theorem q_rg_lit {n : Int} {x : Int32} (h : x.toInt = n) : q_rgz n n x := ⟨Int.le_of_eq h.symm, Int.le_of_eq h⟩
theorem q_rg_le {l u L U : Int} {x : Int32} (h : q_rgz l u x) (h1 : L ≤ l) (h2 : u ≤ U) : q_rgz L U x := ⟨Int.le_trans h1 h.1, Int.le_trans h.2 h2⟩
theorem q_rg_no {l u : Int} {x : Int32} (h : q_rgz l u x) (h1 : u < l) : False := absurd (Int.le_trans h.1 h.2) (Int.not_le.mpr h1)
theorem q_rg_add {l u l2 u2 L U : Int} {a b : Int32} (h : q_rgz l u a) (h2 : q_rgz l2 u2 b) (e1 : L = l + l2) (e2 : U = u + u2) (b1 : -2147483648 ≤ L) (b2 : U ≤ 2147483647) : q_rgz L U (a + b) := by
  unfold q_rgz at *
  rw [q_add9 (by omega) (by omega)]
  omega
theorem q_rg_sub {l u l2 u2 L U : Int} {a b : Int32} (h : q_rgz l u a) (h2 : q_rgz l2 u2 b) (e1 : L = l - u2) (e2 : U = u - l2) (b1 : -2147483648 ≤ L) (b2 : U ≤ 2147483647) : q_rgz L U (a - b) := by
  unfold q_rgz at *
  rw [Int32.toInt_sub]
  rw [show Int.bmod (a.toInt - b.toInt) (2 ^ 32) = a.toInt - b.toInt from Int.bmod_eq_of_le (by omega) (by omega)]
  omega
theorem q_rg_mul {l u l2 u2 L U : Int} {a b : Int32} (h : q_rgz l u a) (h2 : q_rgz l2 u2 b) (n1 : 0 ≤ l) (n2 : 0 ≤ l2) (e1 : L = l * l2) (e2 : U = u * u2) (b1 : -2147483648 ≤ L) (b2 : U ≤ 2147483647) : q_rgz L U (a * b) := by
  unfold q_rgz at *
  have m1 : l * l2 ≤ a.toInt * b.toInt := Int.mul_le_mul h.1 h2.1 n2 (by omega)
  have m2 : a.toInt * b.toInt ≤ u * u2 := Int.mul_le_mul h.2 h2.2 (by omega) (by omega)
  rw [Int32.toInt_mul]
  rw [show Int.bmod (a.toInt * b.toInt) (2 ^ 32) = a.toInt * b.toInt from Int.bmod_eq_of_le (by omega) (by omega)]
  omega
theorem q_rg_and (a m : Int32) {U : Int} (hm : ¬ m < 0) (hU : m.toInt = U) : q_rgz 0 U (a &&& m) := by
  have h := q_and_bd a m hm
  exact ⟨h.1, by omega⟩
theorem q_rg_and2 {l u : Int} {a m : Int32} (h : q_rgz l u m) (h0 : 0 ≤ l) : q_rgz 0 u (a &&& m) := by
  unfold q_rgz at *
  have z : (0 : Int32).toInt = 0 := rfl
  have h9 := q_and_bd a m (fun e => by rw [Int32.lt_iff_toInt_lt] at e; omega)
  omega
theorem q_and_comm (a b : Int32) : a &&& b = b &&& a := by
  apply Int32.toBitVec_inj.mp
  show a.toBitVec &&& b.toBitVec = b.toBitVec &&& a.toBitVec
  exact BitVec.and_comm _ _
theorem q_rg_and1 {l u : Int} {a m : Int32} (h : q_rgz l u a) (h0 : 0 ≤ l) : q_rgz 0 u (a &&& m) := by
  rw [q_and_comm]
  exact q_rg_and2 h h0
theorem q_rg_ite {l u : Int} {c : Prop} [Decidable c] {a b : Int32} (h : q_rgz l u a) (h2 : q_rgz l u b) : q_rgz l u (if c then a else b) := by
  split
  · exact h
  · exact h2
/-- an Int32 that is not below 0, as a natural number -/
theorem q_nn {l u : Int} {x : Int32} (h : q_rgz l u x) (h0 : 0 ≤ l) : x.toInt = (x.toBitVec.toNat : Int) ∧ x.toBitVec.msb = false := by
  have h1 : 0 ≤ x.toBitVec.toInt := Int.le_trans h0 h.1
  have h2 : x.toBitVec.msb = false := by
    cases e : x.toBitVec.msb with
    | false => rfl
    | true => exact absurd (BitVec.toInt_neg_of_msb_true e) (by omega)
  exact ⟨BitVec.toInt_eq_toNat_of_msb h2, h2⟩
theorem q_rg_or {l u l2 u2 W : Int} {n : Nat} {a b : Int32} (h : q_rgz l u a) (h2 : q_rgz l2 u2 b) (n1 : 0 ≤ l) (n2 : 0 ≤ l2) (b1 : u ≤ W) (b2 : u2 ≤ W) (e : W + 1 = ((2 ^ n : Nat) : Int)) : q_rgz 0 W (a ||| b) := by
  obtain ⟨p1, p2⟩ := q_nn h n1
  obtain ⟨r1, r2⟩ := q_nn h2 n2
  have m : (a ||| b).toBitVec = a.toBitVec ||| b.toBitVec := rfl
  have mm : (a.toBitVec ||| b.toBitVec).msb = false := by rw [BitVec.msb_or, p2, r2]; rfl
  have e1 : (a ||| b).toInt = ((a.toBitVec.toNat ||| b.toBitVec.toNat : Nat) : Int) := by
    show ((a ||| b).toBitVec).toInt = _
    rw [m, BitVec.toInt_eq_toNat_of_msb mm, BitVec.toNat_or]
  have c : a.toBitVec.toNat ||| b.toBitVec.toNat < 2 ^ n := Nat.or_lt_two_pow (by have := h.2; omega) (by have := h2.2; omega)
  unfold q_rgz
  rw [e1]
  omega
theorem q_rg_xor {l u l2 u2 W : Int} {n : Nat} {a b : Int32} (h : q_rgz l u a) (h2 : q_rgz l2 u2 b) (n1 : 0 ≤ l) (n2 : 0 ≤ l2) (b1 : u ≤ W) (b2 : u2 ≤ W) (e : W + 1 = ((2 ^ n : Nat) : Int)) : q_rgz 0 W (a ^^^ b) := by
  obtain ⟨p1, p2⟩ := q_nn h n1
  obtain ⟨r1, r2⟩ := q_nn h2 n2
  have m : (a ^^^ b).toBitVec = a.toBitVec ^^^ b.toBitVec := rfl
  have mm : (a.toBitVec ^^^ b.toBitVec).msb = false := by rw [BitVec.msb_xor, p2, r2]; rfl
  have e1 : (a ^^^ b).toInt = ((a.toBitVec.toNat ^^^ b.toBitVec.toNat : Nat) : Int) := by
    show ((a ^^^ b).toBitVec).toInt = _
    rw [m, BitVec.toInt_eq_toNat_of_msb mm, BitVec.toNat_xor]
  have c : a.toBitVec.toNat ^^^ b.toBitVec.toNat < 2 ^ n := Nat.xor_lt_two_pow (by have := h.2; omega) (by have := h2.2; omega)
  unfold q_rgz
  rw [e1]
  omega
theorem q_toInt_div {a b : Int32} (ha : 0 ≤ a.toInt) (hb : 0 < b.toInt) : (a / b).toInt = a.toInt / b.toInt := by
  rw [Int32.toInt_div]
  have h9 := Int32.toInt_lt a
  have h1 : a.toInt.tdiv b.toInt = a.toInt / b.toInt := Int.tdiv_eq_ediv_of_nonneg ha
  rw [h1]
  have h2 : 0 ≤ a.toInt / b.toInt := Int.ediv_nonneg ha (Int.le_of_lt hb)
  have h3 : a.toInt / b.toInt ≤ a.toInt := Int.ediv_le_self _ ha
  exact Int.bmod_eq_of_le (by omega) (by omega)
theorem q_rg_div {l u c U : Int} {a b : Int32} (h : q_rgz l u a) (n1 : 0 ≤ l) (hb : b.toInt = c) (hc : 0 < c) (e : U = u / c) : q_rgz 0 U (a / b) := by
  unfold q_rgz at *
  rw [q_toInt_div (by omega) (by omega), hb]
  exact ⟨Int.ediv_nonneg (by omega) (Int.le_of_lt hc), by rw [e]; exact Int.ediv_le_ediv hc h.2⟩
theorem q_rem_eq {a b : Int32} (ha : 0 ≤ a.toInt) (hb : 0 < b.toInt) : (a - a / b * b).toInt = a.toInt % b.toInt := by
  have h9 := Int32.toInt_lt a
  have e0 := Int.mul_ediv_add_emod a.toInt b.toInt
  have e3 : 0 ≤ a.toInt % b.toInt := Int.emod_nonneg _ (by omega)
  have e4 : 0 ≤ a.toInt / b.toInt := Int.ediv_nonneg ha (Int.le_of_lt hb)
  have e5 : 0 ≤ a.toInt / b.toInt * b.toInt := Int.mul_nonneg e4 (Int.le_of_lt hb)
  have e6 : b.toInt * (a.toInt / b.toInt) = a.toInt / b.toInt * b.toInt := Int.mul_comm _ _
  have e1 : (a / b * b).toInt = a.toInt / b.toInt * b.toInt := by
    rw [Int32.toInt_mul, q_toInt_div ha hb]
    exact Int.bmod_eq_of_le (by omega) (by omega)
  rw [Int32.toInt_sub, e1]
  rw [show Int.bmod (a.toInt - a.toInt / b.toInt * b.toInt) (2 ^ 32) = a.toInt - a.toInt / b.toInt * b.toInt from Int.bmod_eq_of_le (by omega) (by omega)]
  omega
theorem q_rg_rem {l u c U : Int} {a b : Int32} (h : q_rgz l u a) (n1 : 0 ≤ l) (hb : b.toInt = c) (hc : 0 < c) (e : U = c - 1) : q_rgz 0 U (a - a / b * b) := by
  unfold q_rgz at *
  rw [q_rem_eq (by omega) (by omega), hb]
  have h1 := Int.emod_nonneg a.toInt (show c ≠ 0 by omega)
  have h2 := Int.emod_lt_of_pos a.toInt hc
  omega
theorem q_rg_rem2 {l u c : Int} {a b : Int32} (h : q_rgz l u a) (n1 : 0 ≤ l) (hb : b.toInt = c) (hc : u < c) : q_rgz l u (a - a / b * b) := by
  unfold q_rgz at *
  rw [q_rem_eq (by omega) (by omega), hb, Int.emod_eq_of_lt (by omega) (by omega)]
  omega
theorem q_sh3 {x : Int32} (h : q_rgz 0 3 x) : q_rgz 1 8 ((1 : Int32) <<< (x &&& 31)) := by
  unfold q_rgz at h
  have e : x.toInt = 0 ∨ x.toInt = 1 ∨ x.toInt = 2 ∨ x.toInt = 3 := by omega
  rcases e with e | e | e | e
  · rw [show x = 0 from Int32.toInt_inj.mp e]; exact ⟨by decide, by decide⟩
  · rw [show x = 1 from Int32.toInt_inj.mp e]; exact ⟨by decide, by decide⟩
  · rw [show x = 2 from Int32.toInt_inj.mp e]; exact ⟨by decide, by decide⟩
  · rw [show x = 3 from Int32.toInt_inj.mp e]; exact ⟨by decide, by decide⟩
theorem q_sh2 {x : Int32} (h : q_rgz 0 1 x) : q_rgz 2 4 ((2 : Int32) <<< (x &&& 31)) := by
  unfold q_rgz at h
  have e : x.toInt = 0 ∨ x.toInt = 1 := by omega
  rcases e with e | e
  · rw [show x = 0 from Int32.toInt_inj.mp e]; exact ⟨by decide, by decide⟩
  · rw [show x = 1 from Int32.toInt_inj.mp e]; exact ⟨by decide, by decide⟩
theorem q_rg_nb (x : Int32) : q_rgz 0 1 (vp_nar .boolean x) := by
  have h : vp_nar .boolean x = x &&& 1 := rfl
  rw [h]
  exact q_rg_and x 1 (by decide) rfl
theorem q_nc_bv (x : Int32) : (vp_nar .char x).toBitVec.toNat = x.toBitVec.toNat % 65536 := by
  show ((x.toBitVec.setWidth 16).setWidth 32).toNat = _
  rw [BitVec.toNat_setWidth, BitVec.toNat_setWidth]
  have := x.toBitVec.isLt
  omega
theorem q_rg_nc (x : Int32) : q_rgz 0 65535 (vp_nar .char x) := by
  have h := q_nc_bv x
  have e : (vp_nar .char x).toInt = ((vp_nar .char x).toBitVec.toNat : Int) := by
    apply BitVec.toInt_eq_toNat_of_lt
    omega
  unfold q_rgz
  rw [e]
  omega
theorem q_rg_ltT1 {l u l2 u2 U : Int} {a b : Int32} (h : decide (a < b) = true) (ha : q_rgz l u a) (hb : q_rgz l2 u2 b) (e : U = u2 - 1) : q_rgz l U a := by
  have h1 := Int32.lt_iff_toInt_lt.mp (of_decide_eq_true h)
  unfold q_rgz at *; omega
theorem q_rg_ltT2 {l u l2 u2 L : Int} {a b : Int32} (h : decide (a < b) = true) (ha : q_rgz l u a) (hb : q_rgz l2 u2 b) (e : L = l + 1) : q_rgz L u2 b := by
  have h1 := Int32.lt_iff_toInt_lt.mp (of_decide_eq_true h)
  unfold q_rgz at *; omega
theorem q_rg_ltF1 {l u l2 u2 : Int} {a b : Int32} (h : decide (a < b) = false) (ha : q_rgz l u a) (hb : q_rgz l2 u2 b) : q_rgz l2 u a := by
  have h1 : ¬ a.toInt < b.toInt := fun z => of_decide_eq_false h (Int32.lt_iff_toInt_lt.mpr z)
  unfold q_rgz at *; omega
theorem q_rg_ltF2 {l u l2 u2 : Int} {a b : Int32} (h : decide (a < b) = false) (ha : q_rgz l u a) (hb : q_rgz l2 u2 b) : q_rgz l2 u b := by
  have h1 : ¬ a.toInt < b.toInt := fun z => of_decide_eq_false h (Int32.lt_iff_toInt_lt.mpr z)
  unfold q_rgz at *; omega
theorem q_rg_eqT {l2 u2 : Int} {a b : Int32} (h : decide (a = b) = true) (hb : q_rgz l2 u2 b) : q_rgz l2 u2 a := by
  rw [of_decide_eq_true h]; exact hb
theorem q_rg_neL {l u n L : Int} {a b : Int32} (h : decide (a = b) = false) (ha : q_rgz l u a) (hb : b.toInt = n) (e : l = n) (e2 : L = l + 1) : q_rgz L u a := by
  have h1 : ¬ a.toInt = b.toInt := fun z => of_decide_eq_false h (Int32.toInt_inj.mp z)
  unfold q_rgz at *; omega
theorem q_rg_neU {l u n U : Int} {a b : Int32} (h : decide (a = b) = false) (ha : q_rgz l u a) (hb : b.toInt = n) (e : u = n) (e2 : U = u - 1) : q_rgz l U a := by
  have h1 : ¬ a.toInt = b.toInt := fun z => of_decide_eq_false h (Int32.toInt_inj.mp z)
  unfold q_rgz at *; omega
theorem q_in_rg {l u : Int} {x : Int32} {n : Nat} (h : q_rgz l u x) (h1 : 0 ≤ l) (h2 : u < (n : Int)) : q_in x n = true := q_in_bd h.1 h.2 h1 h2
theorem q_z1_rg {x : Int32} (h : q_rgz 0 1 x) : q_z1 x = true := by
  unfold q_rgz at h
  have e : x.toInt = 0 ∨ x.toInt = 1 := by omega
  rcases e with e | e
  · rw [show x = 0 from Int32.toInt_inj.mp e]; rfl
  · rw [show x = 1 from Int32.toInt_inj.mp e]; rfl
theorem q_ch_rg {x : Int32} (h : q_rgz 0 65535 x) : decide (vp_nar .char x = x) = true := by
  apply decide_eq_true
  obtain ⟨p1, p2⟩ := q_nn h (by decide)
  apply Int32.toBitVec_inj.mp
  apply BitVec.eq_of_toNat_eq
  rw [q_nc_bv]
  have := h.2
  exact Nat.mod_eq_of_lt (by omega)
/-! the table of ranges: rows, int fields -/
def q_lr (i k : Nat) : Int := cond (Nat.beq i 14) (cond (Nat.beq k 15 || Nat.beq k 17 || Nat.beq k 19 || Nat.ble 21 k) (-2147483648) 0) 0
def q_hn (d : Int) (k : Nat) : Int := cond (Nat.ble k 3) 255 (cond (Nat.beq k 4) 4095 (cond (Nat.ble k 8) 65535 (cond (Nat.ble k 12) 15 (cond (Nat.ble k 14) 40 (cond (Nat.beq k 16) 1 (cond (Nat.beq k 18) 4095 (cond (Nat.beq k 20) d 2147483647)))))))
def q_hg (k : Nat) : Int := cond (Nat.beq k 0) 15 (cond (Nat.beq k 44) 1 255)
def q_full (i : Nat) : Bool := Nat.beq i 5 || (Nat.beq i 6 || (Nat.beq i 8 || (Nat.beq i 9 || (Nat.beq i 12 || (Nat.beq i 20 || (Nat.beq i 21 || (Nat.beq i 23 || (Nat.beq i 24 || Nat.beq i 27))))))))
def q_la (i k : Nat) : Int := cond (Nat.beq i 14) (q_lr 14 k) (cond (Nat.beq i 29) (q_lr 14 (k % 24)) (cond (q_full i || Nat.ble 34 i) (-2147483648) 0))
def q_ha (d : Int) (i k : Nat) : Int := cond (Nat.beq i 14) (q_hn d k) (cond (Nat.beq i 29) (q_hn d (k % 24)) (cond (Nat.beq i 4) (q_hg k) (cond (Nat.beq i 19) (q_hg (k % 48)) (cond (q_full i || Nat.ble 34 i) 2147483647 (cond (Nat.beq i 7 || (Nat.beq i 15 || (Nat.beq i 22 || (Nat.beq i 30 || Nat.beq i 33)))) 1 (cond (Nat.beq i 10 || Nat.beq i 25) 65535 (cond (Nat.beq i 11 || Nat.beq i 26) 15 (cond (Nat.beq i 13 || Nat.beq i 28) 32767 (cond (Nat.beq i 32) 65535 255)))))))))
def q_lfz (i k : Nat) : Int := cond (Nat.beq i 0 && (Nat.beq k 17 || (Nat.beq k 35 || Nat.beq k 38))) 0 (-2147483648)
def q_hf (w : Int) (i k : Nat) : Int := cond (Nat.beq i 0) (cond (Nat.beq k 17) 3 (cond (Nat.beq k 35) w (cond (Nat.beq k 38) 1 2147483647))) 2147483647
def q_Iv (c d w : Int) (s : q_S) : Prop := (∀ i k, q_rgz (q_la i k) (q_ha d i k) (s.1 i k)) ∧ (∀ i k, q_rgz (q_lfz i k) (q_hf w i k) (s.2.1 i k)) ∧ (∀ i k, Nat.ble 34 i = false → q_rgL 0 c (s.2.2 i k))
section
variable {c d w : Int} {s : q_S}
theorem q_Iv_A {i : Nat} {f : Nat → Int32} (h : q_Iv c d w s) (hf : ∀ k, q_rgz (q_la i k) (q_ha d i k) (f k)) : q_Iv c d w (q_sA s i f) := by
  refine ⟨fun j k => ?_, h.2⟩
  show q_rgz (q_la j k) (q_ha d j k) ((cond (Nat.beq j i) f (s.1 j)) k)
  cases e : Nat.beq j i with
  | true => rw [Nat.eq_of_beq_eq_true e]; exact hf k
  | false => exact h.1 j k
theorem q_Iv_I {i m : Nat} {x : Int32} (h : q_Iv c d w s) (hf : q_rgz (q_lfz i m) (q_hf w i m) x) : q_Iv c d w (q_sI s i m x) := by
  refine ⟨h.1, fun j k => ?_, h.2.2⟩
  show q_rgz (q_lfz j k) (q_hf w j k) (cond (Nat.beq j i) (cond (Nat.beq k m) x (s.2.1 j k)) (s.2.1 j k))
  cases e : Nat.beq j i with
  | true =>
    cases e2 : Nat.beq k m with
    | true => rw [Nat.eq_of_beq_eq_true e, Nat.eq_of_beq_eq_true e2]; exact hf
    | false => exact h.2.1 j k
  | false => exact h.2.1 j k
theorem q_Iv_J {i m : Nat} {x : Int64} (h : q_Iv c d w s) (hf : q_rgL 0 c x) : q_Iv c d w (q_sJ s i m x) := by
  refine ⟨h.1, h.2.1, fun j k hj => ?_⟩
  show q_rgL 0 c (cond (Nat.beq j i) (cond (Nat.beq k m) x (s.2.2 j k)) (s.2.2 j k))
  cases e : Nat.beq j i with
  | true =>
    cases e2 : Nat.beq k m with
    | true => exact hf
    | false => exact h.2.2 j k hj
  | false => exact h.2.2 j k hj
theorem q_Iv_L {i : Nat} {f : Nat → Int64} (h : q_Iv c d w s) (hf : ∀ k, q_rgL 0 c (f k)) : q_Iv c d w (q_sL s i f) := by
  refine ⟨h.1, h.2.1, fun j k hj => ?_⟩
  show q_rgL 0 c ((cond (Nat.beq j i) f (s.2.2 j)) k)
  cases e : Nat.beq j i with
  | true => exact hf k
  | false => exact h.2.2 j k hj
theorem q_hf_up {l u : Nat → Int} {f : Nat → Int32} (hf : ∀ k, q_rgz (l k) (u k) (f k)) {j : Nat} {v : Int32} (hv : q_rgz (l j) (u j) v) (k : Nat) : q_rgz (l k) (u k) (upd f j v k) := by
  show q_rgz (l k) (u k) (if k = j then v else f k)
  split
  · next e => rw [e]; exact hv
  · exact hf k
theorem q_hf_upL {f : Nat → Int64} (hf : ∀ k, q_rgL 0 c (f k)) {j : Nat} {v : Int64} (hv : q_rgL 0 c v) (k : Nat) : q_rgL 0 c (vp_updL f j v k) := by
  show q_rgL 0 c (if k = j then v else f k)
  split
  · exact hv
  · exact hf k
theorem q_Iv_mono {c2 d2 w2 : Int} (h : q_Iv c d w s) (hc : c ≤ c2) (hd : d ≤ d2) (hw : w ≤ w2) : q_Iv c2 d2 w2 s := by
  refine ⟨fun i k => q_rg_le (h.1 i k) (Int.le_refl _) ?_, fun i k => q_rg_le (h.2.1 i k) (Int.le_refl _) ?_, fun i k hi => ⟨(h.2.2 i k hi).1, Int.le_trans (h.2.2 i k hi).2 hc⟩⟩
  · have hn : ∀ k, q_hn d k ≤ q_hn d2 k := fun k => by
      unfold q_hn
      cases Nat.ble k 3 <;> cases Nat.beq k 4 <;> cases Nat.ble k 8 <;> cases Nat.ble k 12 <;> cases Nat.ble k 14 <;> cases Nat.beq k 16 <;> cases Nat.beq k 18 <;> cases Nat.beq k 20 <;> first | exact Int.le_refl _ | exact hd
    unfold q_ha
    cases Nat.beq i 14 with
    | true => exact hn k
    | false =>
      cases Nat.beq i 29 with
      | true => exact hn _
      | false => exact Int.le_refl _
  · unfold q_hf
    cases Nat.beq i 0 <;> cases Nat.beq k 17 <;> cases Nat.beq k 35 <;> cases Nat.beq k 38 <;> first | exact Int.le_refl _ | exact hw
theorem q_Iv_d (h : q_Iv c d w s) : 0 ≤ d := Int.le_trans (h.1 14 20).1 (h.1 14 20).2
theorem q_Iv_c (h : q_Iv c d w s) : 0 ≤ c := Int.le_trans (h.2.2 0 15 rfl).1 (h.2.2 0 15 rfl).2
theorem q_Iv_w (h : q_Iv c d w s) : 0 ≤ w := Int.le_trans (h.2.1 0 35).1 (h.2.1 0 35).2
/-- cells i of a row between a and b lie in L, U -/
def q_ckr (i a n : Nat) (L U : Int) : Bool := (List.range n).all fun k => decide (L ≤ q_la i (a + k)) && decide (q_ha 0 i (a + k) ≤ U)
def q_cks (i a n : Nat) (L U : Int) : Bool := (List.range n).all fun k => decide (q_la i (a + k) ≤ L) && decide (U ≤ q_ha 0 i (a + k))
theorem q_ha_d {i k : Nat} (h : 0 ≤ d) : q_ha 0 i k ≤ q_ha d i k := by
  have hn : ∀ k, q_hn 0 k ≤ q_hn d k := fun k => by
    unfold q_hn
    cases Nat.ble k 3 <;> cases Nat.beq k 4 <;> cases Nat.ble k 8 <;> cases Nat.ble k 12 <;> cases Nat.ble k 14 <;> cases Nat.beq k 16 <;> cases Nat.beq k 18 <;> cases Nat.beq k 20 <;> first | exact Int.le_refl _ | exact h
  unfold q_ha
  cases Nat.beq i 14 with
  | true => exact hn k
  | false =>
    cases Nat.beq i 29 with
    | true => exact hn _
    | false => exact Int.le_refl _
theorem q_ix {a n : Nat} {x : Int32} (hx : q_rgz a (a + n - 1 : Int) x) : ∃ k, k < n ∧ x.toNatClampNeg = a + k := by
  have h1 := hx.1
  have h2 := hx.2
  refine ⟨x.toInt.toNat - a, by omega, ?_⟩
  show x.toInt.toNat = _
  omega
theorem q_rdv {i a n : Nat} {L U : Int} {x : Int32} (h : q_Iv c d w s) (hx : q_rgz a (a + n - 1 : Int) x) (hne : (Nat.ble (a + n) 20 || !(Nat.beq i 14 || Nat.beq i 29)) = true) (ht : q_ckr i a n L U = true) : q_rgz L U (s.1 i x.toNatClampNeg) := by
  obtain ⟨k, hk, e⟩ := q_ix hx
  rw [e]
  have t := List.all_eq_true.mp ht k (List.mem_range.mpr hk)
  rw [Bool.and_eq_true] at t
  have t1 := of_decide_eq_true t.1
  have t2 := of_decide_eq_true t.2
  have e2 : q_ha d i (a + k) = q_ha 0 i (a + k) := by
    unfold q_ha
    rw [Bool.or_eq_true] at hne
    rcases hne with g | g
    · have g2 : a + k ≠ 20 := by have := Nat.le_of_ble_eq_true g; omega
      cases Nat.beq i 14 with
      | true =>
        show q_hn d (a + k) = q_hn 0 (a + k)
        unfold q_hn
        rw [show Nat.beq (a + k) 20 = false from by
          cases e9 : Nat.beq (a + k) 20 with
          | false => rfl
          | true => exact absurd (Nat.eq_of_beq_eq_true e9) g2]
        rfl
      | false =>
        cases Nat.beq i 29 with
        | true =>
          have g3 : (a + k) % 24 ≠ 20 := by have := Nat.le_of_ble_eq_true g; omega
          show q_hn d ((a + k) % 24) = q_hn 0 ((a + k) % 24)
          unfold q_hn
          rw [show Nat.beq ((a + k) % 24) 20 = false from by
            cases e9 : Nat.beq ((a + k) % 24) 20 with
            | false => rfl
            | true => exact absurd (Nat.eq_of_beq_eq_true e9) g3]
          rfl
        | false => rfl
    · rw [Bool.not_eq_true', Bool.or_eq_false_iff] at g
      rw [g.1, g.2]; rfl
  exact q_rg_le (h.1 i (a + k)) t1 (by rw [e2]; exact t2)
theorem q_stv {i a n : Nat} {L U : Int} {x v : Int32} (h : q_Iv c d w s) (hx : q_rgz a (a + n - 1 : Int) x) (ht : q_cks i a n L U = true) (hv : q_rgz L U v) : q_rgz (q_la i x.toNatClampNeg) (q_ha d i x.toNatClampNeg) v := by
  obtain ⟨k, hk, e⟩ := q_ix hx
  rw [e]
  have t := List.all_eq_true.mp ht k (List.mem_range.mpr hk)
  rw [Bool.and_eq_true] at t
  exact q_rg_le hv (of_decide_eq_true t.1) (Int.le_trans (of_decide_eq_true t.2) (q_ha_d (q_Iv_d h)))
theorem q_up_eq {l u : Int} {f : Nat → Int32} {i j : Nat} {v : Int32} (e : j = i) (h : q_rgz l u v) : q_rgz l u (upd f i v j) := by
  show q_rgz l u (if j = i then v else f j)
  rw [if_pos e]; exact h
theorem q_up_ne {l u : Int} {f : Nat → Int32} {i j : Nat} {v : Int32} (e : ¬ j = i) (h : q_rgz l u (f j)) : q_rgz l u (upd f i v j) := by
  show q_rgz l u (if j = i then v else f j)
  rw [if_neg e]; exact h
theorem q_up_j {l u : Int} {f : Nat → Int32} {i j : Nat} {v : Int32} (h : q_rgz l u (f j)) (h2 : q_rgz l u v) : q_rgz l u (upd f i v j) := by
  show q_rgz l u (if j = i then v else f j)
  split
  · exact h2
  · exact h
end
/-! ===== what a function gives ===== -/
def q_Ex {T : Type} (o : Option T) (P : T → Prop) : Prop := ∃ x, o = some x ∧ P x
section
variable {T U : Type} {P : T → Prop}
theorem q_E_T {a b : Option T} (h : q_Ex a P) : q_Ex (cond true a b) P := h
theorem q_E_F {a b : Option T} (h : q_Ex b P) : q_Ex (cond false a b) P := h
theorem q_E_L {u : U} {f : U → Option T} (h : q_Ex (f u) P) : q_Ex (q_let u f) P := h
theorem q_E_B {u : U} {f : U → Option T} (h : q_Ex (f u) P) : q_Ex ((some u).bind f) P := h
theorem q_E_A {b : Bool} {o : Option T} (hb : b = true) (h : q_Ex o P) : q_Ex (cond b o none) P := by rw [hb]; exact h
theorem q_E_x {x : T} (h : P x) : q_Ex (some x) P := ⟨x, rfl, h⟩
theorem q_S_T {a b : T} (h : q_Ex (some a) P) : q_Ex (some (cond true a b)) P := h
theorem q_S_F {a b : T} (h : q_Ex (some b) P) : q_Ex (some (cond false a b)) P := h
theorem q_S_L {u : U} {f : U → T} (h : q_Ex (some (f u)) P) : q_Ex (some (q_let u f)) P := h
theorem q_S_of {x : T} (h : q_Ex (some x) P) : P x := by
  obtain ⟨y, e, hy⟩ := h
  cases e
  exact hy
theorem q_E_to {o : Option T} {Q : T → Prop} (h : q_Ex o P) (hq : ∀ x, P x → Q x) : q_Ex o Q := by
  obtain ⟨x, e, hx⟩ := h
  exact ⟨x, e, hq x hx⟩
end
theorem q_rg_min {l u l2 u2 L U : Int} {a b : Int32} (h : q_rgz l u a) (h2 : q_rgz l2 u2 b) (e1 : L ≤ l) (e2 : L ≤ l2) (e3 : u ≤ U ∨ u2 ≤ U) : q_rgz L U (if a < b then a else b) := by
  split
  · next e =>
    rw [Int32.lt_iff_toInt_lt] at e
    unfold q_rgz at *
    omega
  · next e =>
    rw [Int32.lt_iff_toInt_lt] at e
    unfold q_rgz at *
    omega
theorem q_rg_max {l u l2 u2 L U : Int} {a b : Int32} (h : q_rgz l u a) (h2 : q_rgz l2 u2 b) (e1 : u ≤ U) (e2 : u2 ≤ U) (e3 : L ≤ l ∨ L ≤ l2) : q_rgz L U (if b < a then a else b) := by
  split
  · next e =>
    rw [Int32.lt_iff_toInt_lt] at e
    unfold q_rgz at *
    omega
  · next e =>
    rw [Int32.lt_iff_toInt_lt] at e
    unfold q_rgz at *
    omega
theorem q_meu {l u hi M : Int} {v : Int32} (p : q_rgz l u v) (m : ((hi - v.toInt).toNat : Int) ≤ M + 1) (h1 : u < hi) (h2 : u < 2147483647) : ((hi - (v + 1).toInt).toNat : Int) ≤ M := by
  have a := p.1
  have b := p.2
  have g := Int32.le_toInt v
  have e : (v + 1).toInt = v.toInt + 1 := q_add9 (c := 1) (by show _ ≤ v.toInt + 1; omega) (by show v.toInt + 1 ≤ _; omega)
  omega
theorem q_med {l u lo M : Int} {v : Int32} (p : q_rgz l u v) (m : ((v.toInt - lo).toNat : Int) ≤ M + 1) (h1 : lo < l) (h2 : -2147483648 < l) : (((v + (-1)).toInt - lo).toNat : Int) ≤ M := by
  have a := p.1
  have b := p.2
  have g := Int32.toInt_lt v
  have e : (v + (-1)).toInt = v.toInt + (-1) := q_add9 (c := -1) (by show _ ≤ v.toInt + (-1); omega) (by show v.toInt + (-1) ≤ _; omega)
  omega
theorem q_meu0 {l u hi : Int} {m : Nat} {v : Int32} (p : q_rgz l u v) (h1 : hi - l ≤ (m : Int)) (_h2 : True) : ((hi - v.toInt).toNat : Int) ≤ (m : Int) := by
  have a := p.1
  omega
theorem q_med0 {l u lo : Int} {m : Nat} {v : Int32} (p : q_rgz l u v) (h1 : u - lo ≤ (m : Int)) (_h2 : True) : ((v.toInt - lo).toNat : Int) ≤ (m : Int) := by
  have a := p.2
  omega
theorem q_Iv_w0 {c d w W : Int} {s : q_S} {v : Int32} (h : q_Iv c d w s) (hv : q_rgz 0 W v) : q_Iv c d W (q_sI s 0 35 v) := by
  refine ⟨h.1, fun j k => ?_, h.2.2⟩
  show q_rgz (q_lfz j k) (q_hf W j k) (cond (Nat.beq j 0) (cond (Nat.beq k 35) v (s.2.1 j k)) (s.2.1 j k))
  cases e : Nat.beq j 0 with
  | true =>
    cases e2 : Nat.beq k 35 with
    | true => rw [Nat.eq_of_beq_eq_true e, Nat.eq_of_beq_eq_true e2]; exact hv
    | false =>
      have t := h.2.1 j k
      have g : q_hf W j k = q_hf w j k := by
        unfold q_hf
        rw [e2]
        rfl
      rw [g]; exact t
  | false =>
    have t := h.2.1 j k
    have g : q_hf W j k = q_hf w j k := by
      unfold q_hf
      rw [e]
      rfl
    rw [g]; exact t
theorem q_p202 {s : q_S} {v lo hi : Int32} {a b a2 b2 : Int} (h : dz_M202 s v lo hi = true) (hl : q_rgz a b lo) (hh : q_rgz a2 b2 hi) : q_rgz a b2 v := by
  unfold dz_M202 at h
  cases h1 : decide (v < lo) with
  | true => rw [h1] at h; cases h
  | false =>
    rw [h1] at h
    cases h2 : decide (hi < v) with
    | true => rw [h2] at h; cases h
    | false =>
      have e1 : ¬ v.toInt < lo.toInt := fun z => of_decide_eq_false h1 (Int32.lt_iff_toInt_lt.mpr z)
      have e2 : ¬ hi.toInt < v.toInt := fun z => of_decide_eq_false h2 (Int32.lt_iff_toInt_lt.mpr z)
      unfold q_rgz at *
      omega
theorem q_p203 {s : q_S} {v : Int32} (h : dz_M203 s v = false) : q_rgz 0 255 v := by
  unfold dz_M203 q_let at h
  cases h1 : dz_M202 s v 0 255 with
  | true => exact q_p202 h1 (q_rg_lit (n := 0) rfl) (q_rg_lit (n := 255) rfl)
  | false => rw [h1] at h; exact absurd h (by decide)
theorem q_p204 {s : q_S} {v : Int32} (h : dz_M204 s v = false) : q_rgz 0 4095 v := by
  unfold dz_M204 q_let at h
  cases h1 : dz_M202 s v 0 4095 with
  | true => exact q_p202 h1 (q_rg_lit (n := 0) rfl) (q_rg_lit (n := 4095) rfl)
  | false => rw [h1] at h; exact absurd h (by decide)
theorem q_fails {c d w : Int} (s : q_S) (p : Int32) (hI : q_Iv c d w s) : q_Iv c d w (dz_M200_64 s p).1 ∧ (dz_M200_64 s p).2 = decide (0 < p) ∧ (dz_M200_64 s p).1.1 = s.1 ∧ (∀ k, Nat.beq k 39 = false → (dz_M200_64 s p).1.2.1 0 k = s.2.1 0 k) ∧ (dz_M200_64 s p).1.2.2 = s.2.2 := by
  have e : dz_M200_64 s p = (q_sI s 0 39 p, decide (0 < p)) := by
    unfold dz_M200_64
    cases decide (0 < p) <;> rfl
  rw [e]
  refine ⟨q_Iv_I (i := 0) (m := 39) hI (q_rg_full _), rfl, rfl, fun k hk => ?_, rfl⟩
  show cond true (cond (Nat.beq k 39) p (s.2.1 0 k)) (s.2.1 0 k) = _
  rw [hk]; rfl
theorem q_failsT {A B : Prop} {x : Bool} {p : Int32} {l u : Int} (hn : A ∧ x = decide (0 < p) ∧ B) (h : x = true) (hp : q_rgz l u p) (hu : u ≤ 0) : False := by
  have e : decide (0 < p) = true := by rw [← hn.2.1]; exact h
  have e2 := Int32.lt_iff_toInt_lt.mp (of_decide_eq_true e)
  have z : (0 : Int32).toInt = 0 := rfl
  unfold q_rgz at hp
  omega
theorem q_failsF {A B : Prop} {x : Bool} {p : Int32} {l u : Int} (hn : A ∧ x = decide (0 < p) ∧ B) (h : x = false) (hp : q_rgz l u p) (hu : 0 < l) : False := by
  have e : decide (0 < p) = false := by rw [← hn.2.1]; exact h
  have e2 : ¬ (0 : Int32).toInt < p.toInt := fun z => of_decide_eq_false e (Int32.lt_iff_toInt_lt.mpr z)
  have z : (0 : Int32).toInt = 0 := rfl
  unfold q_rgz at hp
  omega
theorem q_ixne {l u : Int} {n : Nat} {x : Int32} (p : q_rgz l u x) (h0 : 0 ≤ l) (h : (n : Int) < l ∨ u < (n : Int)) : ¬ n = x.toNatClampNeg := fun e => by
  have a := p.1
  have b := p.2
  have e2 : n = x.toInt.toNat := e
  omega
theorem q_p209 {c d w : Int} {s : q_S} (hI : q_Iv c d w s) (h : dz_M209_64 s = true) : q_rgz 0 39 ((s.1 14) 14) := by
  unfold dz_M209_64 at h
  cases h1 : decide ((s.1 14) 14 < (s.1 14) 13) with
  | false => rw [h1] at h; cases h
  | true => exact q_rg_ltT1 (l := 0) (u := 40) (l2 := 0) (u2 := 40) (U := 39) h1 (hI.1 14 14) (hI.1 14 13) (by decide)
/-! reads and stores, cell by cell -/
section
variable {c d w : Int} {s : q_S}
theorem q_r1 (h : q_Iv c d w s) (k : Nat) : q_rgz 0 255 (s.1 1 k) := h.1 1 k
theorem q_s1z {j : Nat} {v : Int32} (h : q_rgz (0) 255 v) : q_rgz (q_la 1 j) (q_ha d 1 j) v := h
theorem q_r2 (h : q_Iv c d w s) (k : Nat) : q_rgz 0 255 (s.1 2 k) := h.1 2 k
theorem q_s2z {j : Nat} {v : Int32} (h : q_rgz (0) 255 v) : q_rgz (q_la 2 j) (q_ha d 2 j) v := h
theorem q_r3 (h : q_Iv c d w s) (k : Nat) : q_rgz 0 255 (s.1 3 k) := h.1 3 k
theorem q_s3 {j : Nat} {v : Int32} (h : q_rgz (0) 255 v) : q_rgz (q_la 3 j) (q_ha d 3 j) v := h
theorem q_g0 (h : q_Iv c d w s) : q_rgz 0 15 (s.1 4 0) := h.1 4 0
theorem q_sg0 {v : Int32} (h : q_rgz 0 15 v) : q_rgz (q_la 4 0) (q_ha d 4 0) v := h
theorem q_g1 (h : q_Iv c d w s) : q_rgz 0 255 (s.1 4 1) := h.1 4 1
theorem q_sg1 {v : Int32} (h : q_rgz 0 255 v) : q_rgz (q_la 4 1) (q_ha d 4 1) v := h
theorem q_g2 (h : q_Iv c d w s) : q_rgz 0 255 (s.1 4 2) := h.1 4 2
theorem q_sg2 {v : Int32} (h : q_rgz 0 255 v) : q_rgz (q_la 4 2) (q_ha d 4 2) v := h
theorem q_g3 (h : q_Iv c d w s) : q_rgz 0 255 (s.1 4 3) := h.1 4 3
theorem q_sg3 {v : Int32} (h : q_rgz 0 255 v) : q_rgz (q_la 4 3) (q_ha d 4 3) v := h
theorem q_g4 (h : q_Iv c d w s) : q_rgz 0 255 (s.1 4 4) := h.1 4 4
theorem q_sg4 {v : Int32} (h : q_rgz 0 255 v) : q_rgz (q_la 4 4) (q_ha d 4 4) v := h
theorem q_g5 (h : q_Iv c d w s) : q_rgz 0 255 (s.1 4 5) := h.1 4 5
theorem q_sg5 {v : Int32} (h : q_rgz 0 255 v) : q_rgz (q_la 4 5) (q_ha d 4 5) v := h
theorem q_g6 (h : q_Iv c d w s) : q_rgz 0 255 (s.1 4 6) := h.1 4 6
theorem q_sg6 {v : Int32} (h : q_rgz 0 255 v) : q_rgz (q_la 4 6) (q_ha d 4 6) v := h
theorem q_g7 (h : q_Iv c d w s) : q_rgz 0 255 (s.1 4 7) := h.1 4 7
theorem q_sg7 {v : Int32} (h : q_rgz 0 255 v) : q_rgz (q_la 4 7) (q_ha d 4 7) v := h
theorem q_g8 (h : q_Iv c d w s) : q_rgz 0 255 (s.1 4 8) := h.1 4 8
theorem q_sg8 {v : Int32} (h : q_rgz 0 255 v) : q_rgz (q_la 4 8) (q_ha d 4 8) v := h
theorem q_g9 (h : q_Iv c d w s) : q_rgz 0 255 (s.1 4 9) := h.1 4 9
theorem q_sg9 {v : Int32} (h : q_rgz 0 255 v) : q_rgz (q_la 4 9) (q_ha d 4 9) v := h
theorem q_g10 (h : q_Iv c d w s) : q_rgz 0 255 (s.1 4 10) := h.1 4 10
theorem q_sg10 {v : Int32} (h : q_rgz 0 255 v) : q_rgz (q_la 4 10) (q_ha d 4 10) v := h
theorem q_g11 (h : q_Iv c d w s) : q_rgz 0 255 (s.1 4 11) := h.1 4 11
theorem q_sg11 {v : Int32} (h : q_rgz 0 255 v) : q_rgz (q_la 4 11) (q_ha d 4 11) v := h
theorem q_g12 (h : q_Iv c d w s) : q_rgz 0 255 (s.1 4 12) := h.1 4 12
theorem q_sg12 {v : Int32} (h : q_rgz 0 255 v) : q_rgz (q_la 4 12) (q_ha d 4 12) v := h
theorem q_g13 (h : q_Iv c d w s) : q_rgz 0 255 (s.1 4 13) := h.1 4 13
theorem q_sg13 {v : Int32} (h : q_rgz 0 255 v) : q_rgz (q_la 4 13) (q_ha d 4 13) v := h
theorem q_g14 (h : q_Iv c d w s) : q_rgz 0 255 (s.1 4 14) := h.1 4 14
theorem q_sg14 {v : Int32} (h : q_rgz 0 255 v) : q_rgz (q_la 4 14) (q_ha d 4 14) v := h
theorem q_g15 (h : q_Iv c d w s) : q_rgz 0 255 (s.1 4 15) := h.1 4 15
theorem q_sg15 {v : Int32} (h : q_rgz 0 255 v) : q_rgz (q_la 4 15) (q_ha d 4 15) v := h
theorem q_g16 (h : q_Iv c d w s) : q_rgz 0 255 (s.1 4 16) := h.1 4 16
theorem q_sg16 {v : Int32} (h : q_rgz 0 255 v) : q_rgz (q_la 4 16) (q_ha d 4 16) v := h
theorem q_g17 (h : q_Iv c d w s) : q_rgz 0 255 (s.1 4 17) := h.1 4 17
theorem q_sg17 {v : Int32} (h : q_rgz 0 255 v) : q_rgz (q_la 4 17) (q_ha d 4 17) v := h
theorem q_g18 (h : q_Iv c d w s) : q_rgz 0 255 (s.1 4 18) := h.1 4 18
theorem q_sg18 {v : Int32} (h : q_rgz 0 255 v) : q_rgz (q_la 4 18) (q_ha d 4 18) v := h
theorem q_g19 (h : q_Iv c d w s) : q_rgz 0 255 (s.1 4 19) := h.1 4 19
theorem q_sg19 {v : Int32} (h : q_rgz 0 255 v) : q_rgz (q_la 4 19) (q_ha d 4 19) v := h
theorem q_g20 (h : q_Iv c d w s) : q_rgz 0 255 (s.1 4 20) := h.1 4 20
theorem q_sg20 {v : Int32} (h : q_rgz 0 255 v) : q_rgz (q_la 4 20) (q_ha d 4 20) v := h
theorem q_g21 (h : q_Iv c d w s) : q_rgz 0 255 (s.1 4 21) := h.1 4 21
theorem q_sg21 {v : Int32} (h : q_rgz 0 255 v) : q_rgz (q_la 4 21) (q_ha d 4 21) v := h
theorem q_g22 (h : q_Iv c d w s) : q_rgz 0 255 (s.1 4 22) := h.1 4 22
theorem q_sg22 {v : Int32} (h : q_rgz 0 255 v) : q_rgz (q_la 4 22) (q_ha d 4 22) v := h
theorem q_g23 (h : q_Iv c d w s) : q_rgz 0 255 (s.1 4 23) := h.1 4 23
theorem q_sg23 {v : Int32} (h : q_rgz 0 255 v) : q_rgz (q_la 4 23) (q_ha d 4 23) v := h
theorem q_g24 (h : q_Iv c d w s) : q_rgz 0 255 (s.1 4 24) := h.1 4 24
theorem q_sg24 {v : Int32} (h : q_rgz 0 255 v) : q_rgz (q_la 4 24) (q_ha d 4 24) v := h
theorem q_g25 (h : q_Iv c d w s) : q_rgz 0 255 (s.1 4 25) := h.1 4 25
theorem q_sg25 {v : Int32} (h : q_rgz 0 255 v) : q_rgz (q_la 4 25) (q_ha d 4 25) v := h
theorem q_g26 (h : q_Iv c d w s) : q_rgz 0 255 (s.1 4 26) := h.1 4 26
theorem q_sg26 {v : Int32} (h : q_rgz 0 255 v) : q_rgz (q_la 4 26) (q_ha d 4 26) v := h
theorem q_g27 (h : q_Iv c d w s) : q_rgz 0 255 (s.1 4 27) := h.1 4 27
theorem q_sg27 {v : Int32} (h : q_rgz 0 255 v) : q_rgz (q_la 4 27) (q_ha d 4 27) v := h
theorem q_g28 (h : q_Iv c d w s) : q_rgz 0 255 (s.1 4 28) := h.1 4 28
theorem q_sg28 {v : Int32} (h : q_rgz 0 255 v) : q_rgz (q_la 4 28) (q_ha d 4 28) v := h
theorem q_g29 (h : q_Iv c d w s) : q_rgz 0 255 (s.1 4 29) := h.1 4 29
theorem q_sg29 {v : Int32} (h : q_rgz 0 255 v) : q_rgz (q_la 4 29) (q_ha d 4 29) v := h
theorem q_g30 (h : q_Iv c d w s) : q_rgz 0 255 (s.1 4 30) := h.1 4 30
theorem q_sg30 {v : Int32} (h : q_rgz 0 255 v) : q_rgz (q_la 4 30) (q_ha d 4 30) v := h
theorem q_g31 (h : q_Iv c d w s) : q_rgz 0 255 (s.1 4 31) := h.1 4 31
theorem q_sg31 {v : Int32} (h : q_rgz 0 255 v) : q_rgz (q_la 4 31) (q_ha d 4 31) v := h
theorem q_g32 (h : q_Iv c d w s) : q_rgz 0 255 (s.1 4 32) := h.1 4 32
theorem q_sg32 {v : Int32} (h : q_rgz 0 255 v) : q_rgz (q_la 4 32) (q_ha d 4 32) v := h
theorem q_g33 (h : q_Iv c d w s) : q_rgz 0 255 (s.1 4 33) := h.1 4 33
theorem q_sg33 {v : Int32} (h : q_rgz 0 255 v) : q_rgz (q_la 4 33) (q_ha d 4 33) v := h
theorem q_g34 (h : q_Iv c d w s) : q_rgz 0 255 (s.1 4 34) := h.1 4 34
theorem q_sg34 {v : Int32} (h : q_rgz 0 255 v) : q_rgz (q_la 4 34) (q_ha d 4 34) v := h
theorem q_g35 (h : q_Iv c d w s) : q_rgz 0 255 (s.1 4 35) := h.1 4 35
theorem q_sg35 {v : Int32} (h : q_rgz 0 255 v) : q_rgz (q_la 4 35) (q_ha d 4 35) v := h
theorem q_g36 (h : q_Iv c d w s) : q_rgz 0 255 (s.1 4 36) := h.1 4 36
theorem q_sg36 {v : Int32} (h : q_rgz 0 255 v) : q_rgz (q_la 4 36) (q_ha d 4 36) v := h
theorem q_g37 (h : q_Iv c d w s) : q_rgz 0 255 (s.1 4 37) := h.1 4 37
theorem q_sg37 {v : Int32} (h : q_rgz 0 255 v) : q_rgz (q_la 4 37) (q_ha d 4 37) v := h
theorem q_g38 (h : q_Iv c d w s) : q_rgz 0 255 (s.1 4 38) := h.1 4 38
theorem q_sg38 {v : Int32} (h : q_rgz 0 255 v) : q_rgz (q_la 4 38) (q_ha d 4 38) v := h
theorem q_g39 (h : q_Iv c d w s) : q_rgz 0 255 (s.1 4 39) := h.1 4 39
theorem q_sg39 {v : Int32} (h : q_rgz 0 255 v) : q_rgz (q_la 4 39) (q_ha d 4 39) v := h
theorem q_g40 (h : q_Iv c d w s) : q_rgz 0 255 (s.1 4 40) := h.1 4 40
theorem q_sg40 {v : Int32} (h : q_rgz 0 255 v) : q_rgz (q_la 4 40) (q_ha d 4 40) v := h
theorem q_g41 (h : q_Iv c d w s) : q_rgz 0 255 (s.1 4 41) := h.1 4 41
theorem q_sg41 {v : Int32} (h : q_rgz 0 255 v) : q_rgz (q_la 4 41) (q_ha d 4 41) v := h
theorem q_g42 (h : q_Iv c d w s) : q_rgz 0 255 (s.1 4 42) := h.1 4 42
theorem q_sg42 {v : Int32} (h : q_rgz 0 255 v) : q_rgz (q_la 4 42) (q_ha d 4 42) v := h
theorem q_g43 (h : q_Iv c d w s) : q_rgz 0 255 (s.1 4 43) := h.1 4 43
theorem q_sg43 {v : Int32} (h : q_rgz 0 255 v) : q_rgz (q_la 4 43) (q_ha d 4 43) v := h
theorem q_g44 (h : q_Iv c d w s) : q_rgz 0 1 (s.1 4 44) := h.1 4 44
theorem q_sg44 {v : Int32} (h : q_rgz 0 1 v) : q_rgz (q_la 4 44) (q_ha d 4 44) v := h
theorem q_g45 (h : q_Iv c d w s) : q_rgz 0 255 (s.1 4 45) := h.1 4 45
theorem q_sg45 {v : Int32} (h : q_rgz 0 255 v) : q_rgz (q_la 4 45) (q_ha d 4 45) v := h
theorem q_g46 (h : q_Iv c d w s) : q_rgz 0 255 (s.1 4 46) := h.1 4 46
theorem q_sg46 {v : Int32} (h : q_rgz 0 255 v) : q_rgz (q_la 4 46) (q_ha d 4 46) v := h
theorem q_g47 (h : q_Iv c d w s) : q_rgz 0 255 (s.1 4 47) := h.1 4 47
theorem q_sg47 {v : Int32} (h : q_rgz 0 255 v) : q_rgz (q_la 4 47) (q_ha d 4 47) v := h
theorem q_s5 {j : Nat} {v : Int32} (h : q_rgz (-2147483648) 2147483647 v) : q_rgz (q_la 5 j) (q_ha d 5 j) v := h
theorem q_s6 {j : Nat} {v : Int32} (h : q_rgz (-2147483648) 2147483647 v) : q_rgz (q_la 6 j) (q_ha d 6 j) v := h
theorem q_r7 (h : q_Iv c d w s) (k : Nat) : q_rgz 0 1 (s.1 7 k) := h.1 7 k
theorem q_s7 {j : Nat} {v : Int32} (h : q_rgz (0) 1 v) : q_rgz (q_la 7 j) (q_ha d 7 j) v := h
theorem q_s8 {j : Nat} {v : Int32} (h : q_rgz (-2147483648) 2147483647 v) : q_rgz (q_la 8 j) (q_ha d 8 j) v := h
theorem q_s9 {j : Nat} {v : Int32} (h : q_rgz (-2147483648) 2147483647 v) : q_rgz (q_la 9 j) (q_ha d 9 j) v := h
theorem q_r10 (h : q_Iv c d w s) (k : Nat) : q_rgz 0 65535 (s.1 10 k) := h.1 10 k
theorem q_s10 {j : Nat} {v : Int32} (h : q_rgz (0) 65535 v) : q_rgz (q_la 10 j) (q_ha d 10 j) v := h
theorem q_r11 (h : q_Iv c d w s) (k : Nat) : q_rgz 0 15 (s.1 11 k) := h.1 11 k
theorem q_s11 {j : Nat} {v : Int32} (h : q_rgz (0) 15 v) : q_rgz (q_la 11 j) (q_ha d 11 j) v := h
theorem q_s12 {j : Nat} {v : Int32} (h : q_rgz (-2147483648) 2147483647 v) : q_rgz (q_la 12 j) (q_ha d 12 j) v := h
theorem q_r13 (h : q_Iv c d w s) (k : Nat) : q_rgz 0 32767 (s.1 13 k) := h.1 13 k
theorem q_s13 {j : Nat} {v : Int32} (h : q_rgz (0) 32767 v) : q_rgz (q_la 13 j) (q_ha d 13 j) v := h
theorem q_n0z (h : q_Iv c d w s) : q_rgz 0 255 (s.1 14 0) := h.1 14 0
theorem q_sn0 {v : Int32} (h : q_rgz (0) 255 v) : q_rgz (q_la 14 0) (q_ha d 14 0) v := h
theorem q_n1 (h : q_Iv c d w s) : q_rgz 0 255 (s.1 14 1) := h.1 14 1
theorem q_sn1 {v : Int32} (h : q_rgz (0) 255 v) : q_rgz (q_la 14 1) (q_ha d 14 1) v := h
theorem q_n2 (h : q_Iv c d w s) : q_rgz 0 255 (s.1 14 2) := h.1 14 2
theorem q_sn2 {v : Int32} (h : q_rgz (0) 255 v) : q_rgz (q_la 14 2) (q_ha d 14 2) v := h
theorem q_n3 (h : q_Iv c d w s) : q_rgz 0 255 (s.1 14 3) := h.1 14 3
theorem q_sn3 {v : Int32} (h : q_rgz (0) 255 v) : q_rgz (q_la 14 3) (q_ha d 14 3) v := h
theorem q_n4 (h : q_Iv c d w s) : q_rgz 0 4095 (s.1 14 4) := h.1 14 4
theorem q_sn4 {v : Int32} (h : q_rgz (0) 4095 v) : q_rgz (q_la 14 4) (q_ha d 14 4) v := h
theorem q_n5 (h : q_Iv c d w s) : q_rgz 0 65535 (s.1 14 5) := h.1 14 5
theorem q_sn5 {v : Int32} (h : q_rgz (0) 65535 v) : q_rgz (q_la 14 5) (q_ha d 14 5) v := h
theorem q_n6 (h : q_Iv c d w s) : q_rgz 0 65535 (s.1 14 6) := h.1 14 6
theorem q_sn6 {v : Int32} (h : q_rgz (0) 65535 v) : q_rgz (q_la 14 6) (q_ha d 14 6) v := h
theorem q_n7 (h : q_Iv c d w s) : q_rgz 0 65535 (s.1 14 7) := h.1 14 7
theorem q_sn7 {v : Int32} (h : q_rgz (0) 65535 v) : q_rgz (q_la 14 7) (q_ha d 14 7) v := h
theorem q_n8 (h : q_Iv c d w s) : q_rgz 0 65535 (s.1 14 8) := h.1 14 8
theorem q_sn8 {v : Int32} (h : q_rgz (0) 65535 v) : q_rgz (q_la 14 8) (q_ha d 14 8) v := h
theorem q_n9 (h : q_Iv c d w s) : q_rgz 0 15 (s.1 14 9) := h.1 14 9
theorem q_sn9 {v : Int32} (h : q_rgz (0) 15 v) : q_rgz (q_la 14 9) (q_ha d 14 9) v := h
theorem q_n10 (h : q_Iv c d w s) : q_rgz 0 15 (s.1 14 10) := h.1 14 10
theorem q_sn10 {v : Int32} (h : q_rgz (0) 15 v) : q_rgz (q_la 14 10) (q_ha d 14 10) v := h
theorem q_n11 (h : q_Iv c d w s) : q_rgz 0 15 (s.1 14 11) := h.1 14 11
theorem q_sn11 {v : Int32} (h : q_rgz (0) 15 v) : q_rgz (q_la 14 11) (q_ha d 14 11) v := h
theorem q_n12 (h : q_Iv c d w s) : q_rgz 0 15 (s.1 14 12) := h.1 14 12
theorem q_sn12 {v : Int32} (h : q_rgz (0) 15 v) : q_rgz (q_la 14 12) (q_ha d 14 12) v := h
theorem q_n13 (h : q_Iv c d w s) : q_rgz 0 40 (s.1 14 13) := h.1 14 13
theorem q_sn13 {v : Int32} (h : q_rgz (0) 40 v) : q_rgz (q_la 14 13) (q_ha d 14 13) v := h
theorem q_n14 (h : q_Iv c d w s) : q_rgz 0 40 (s.1 14 14) := h.1 14 14
theorem q_sn14 {v : Int32} (h : q_rgz (0) 40 v) : q_rgz (q_la 14 14) (q_ha d 14 14) v := h
theorem q_sn15 {v : Int32} (h : q_rgz (-2147483648) 2147483647 v) : q_rgz (q_la 14 15) (q_ha d 14 15) v := h
theorem q_n16 (h : q_Iv c d w s) : q_rgz 0 1 (s.1 14 16) := h.1 14 16
theorem q_sn16 {v : Int32} (h : q_rgz (0) 1 v) : q_rgz (q_la 14 16) (q_ha d 14 16) v := h
theorem q_sn17 {v : Int32} (h : q_rgz (-2147483648) 2147483647 v) : q_rgz (q_la 14 17) (q_ha d 14 17) v := h
theorem q_n18 (h : q_Iv c d w s) : q_rgz 0 4095 (s.1 14 18) := h.1 14 18
theorem q_sn18 {v : Int32} (h : q_rgz (0) 4095 v) : q_rgz (q_la 14 18) (q_ha d 14 18) v := h
theorem q_sn19 {v : Int32} (h : q_rgz (-2147483648) 2147483647 v) : q_rgz (q_la 14 19) (q_ha d 14 19) v := h
theorem q_sn21 {v : Int32} (h : q_rgz (-2147483648) 2147483647 v) : q_rgz (q_la 14 21) (q_ha d 14 21) v := h
theorem q_sn22 {v : Int32} (h : q_rgz (-2147483648) 2147483647 v) : q_rgz (q_la 14 22) (q_ha d 14 22) v := h
theorem q_sn23 {v : Int32} (h : q_rgz (-2147483648) 2147483647 v) : q_rgz (q_la 14 23) (q_ha d 14 23) v := h
theorem q_r15 (h : q_Iv c d w s) (k : Nat) : q_rgz 0 1 (s.1 15 k) := h.1 15 k
theorem q_s15 {j : Nat} {v : Int32} (h : q_rgz (0) 1 v) : q_rgz (q_la 15 j) (q_ha d 15 j) v := h
theorem q_r16 (h : q_Iv c d w s) (k : Nat) : q_rgz 0 255 (s.1 16 k) := h.1 16 k
theorem q_s16 {j : Nat} {v : Int32} (h : q_rgz (0) 255 v) : q_rgz (q_la 16 j) (q_ha d 16 j) v := h
theorem q_r17 (h : q_Iv c d w s) (k : Nat) : q_rgz 0 255 (s.1 17 k) := h.1 17 k
theorem q_s17 {j : Nat} {v : Int32} (h : q_rgz (0) 255 v) : q_rgz (q_la 17 j) (q_ha d 17 j) v := h
theorem q_r18 (h : q_Iv c d w s) (k : Nat) : q_rgz 0 255 (s.1 18 k) := h.1 18 k
theorem q_s18 {j : Nat} {v : Int32} (h : q_rgz (0) 255 v) : q_rgz (q_la 18 j) (q_ha d 18 j) v := h
theorem q_s20 {j : Nat} {v : Int32} (h : q_rgz (-2147483648) 2147483647 v) : q_rgz (q_la 20 j) (q_ha d 20 j) v := h
theorem q_s21 {j : Nat} {v : Int32} (h : q_rgz (-2147483648) 2147483647 v) : q_rgz (q_la 21 j) (q_ha d 21 j) v := h
theorem q_r22 (h : q_Iv c d w s) (k : Nat) : q_rgz 0 1 (s.1 22 k) := h.1 22 k
theorem q_s22 {j : Nat} {v : Int32} (h : q_rgz (0) 1 v) : q_rgz (q_la 22 j) (q_ha d 22 j) v := h
theorem q_s23 {j : Nat} {v : Int32} (h : q_rgz (-2147483648) 2147483647 v) : q_rgz (q_la 23 j) (q_ha d 23 j) v := h
theorem q_s24 {j : Nat} {v : Int32} (h : q_rgz (-2147483648) 2147483647 v) : q_rgz (q_la 24 j) (q_ha d 24 j) v := h
theorem q_r25 (h : q_Iv c d w s) (k : Nat) : q_rgz 0 65535 (s.1 25 k) := h.1 25 k
theorem q_s25 {j : Nat} {v : Int32} (h : q_rgz (0) 65535 v) : q_rgz (q_la 25 j) (q_ha d 25 j) v := h
theorem q_r26 (h : q_Iv c d w s) (k : Nat) : q_rgz 0 15 (s.1 26 k) := h.1 26 k
theorem q_s26 {j : Nat} {v : Int32} (h : q_rgz (0) 15 v) : q_rgz (q_la 26 j) (q_ha d 26 j) v := h
theorem q_s27 {j : Nat} {v : Int32} (h : q_rgz (-2147483648) 2147483647 v) : q_rgz (q_la 27 j) (q_ha d 27 j) v := h
theorem q_r28 (h : q_Iv c d w s) (k : Nat) : q_rgz 0 32767 (s.1 28 k) := h.1 28 k
theorem q_s28 {j : Nat} {v : Int32} (h : q_rgz (0) 32767 v) : q_rgz (q_la 28 j) (q_ha d 28 j) v := h
theorem q_r30 (h : q_Iv c d w s) (k : Nat) : q_rgz 0 1 (s.1 30 k) := h.1 30 k
theorem q_s30 {j : Nat} {v : Int32} (h : q_rgz (0) 1 v) : q_rgz (q_la 30 j) (q_ha d 30 j) v := h
theorem q_r32 (h : q_Iv c d w s) (k : Nat) : q_rgz 0 65535 (s.1 32 k) := h.1 32 k
theorem q_s32 {j : Nat} {v : Int32} (h : q_rgz (0) 65535 v) : q_rgz (q_la 32 j) (q_ha d 32 j) v := h
theorem q_r33 (h : q_Iv c d w s) (k : Nat) : q_rgz 0 1 (s.1 33 k) := h.1 33 k
theorem q_s33 {j : Nat} {v : Int32} (h : q_rgz (0) 1 v) : q_rgz (q_la 33 j) (q_ha d 33 j) v := h
theorem q_f17 (h : q_Iv c d w s) : q_rgz 0 3 (s.2.1 0 17) := h.2.1 0 17
theorem q_f35 (h : q_Iv c d w s) : q_rgz 0 w (s.2.1 0 35) := h.2.1 0 35
theorem q_f38 (h : q_Iv c d w s) : q_rgz 0 1 (s.2.1 0 38) := h.2.1 0 38
end
end
