set_option maxHeartbeats 20000000 in
theorem q_xc188 (L : Nat) (xs : Nat → Int32) (a : Int32) (hl_a : 0 ≤ a.toInt) (hu_a : a.toInt ≤ 9) (w443 : Nat → Int32) : q_Ru (q_TBs 99 L xs) 4 194 (81, [(5, .int 1), (4, .int 0), (3, .ref 12), (2, .int 0), (0, .ref 98), (1, .int 0)], [.ref 98], (q_cX (q_uA q_AX 35 (upd (upd (upd w443 1 32) 2 108) 3 100)) (q_uI q_IX 34 3 4) q_J0, 40, 26520)) (.inl none, (q_cX (q_uA q_AX 35 (upd (upd (upd (upd w443 1 32) 2 108) 3 100) 4 97)) (q_uI q_IX 34 3 5) q_J0, 40, 26520)) := by
  refine q_Ru_seg (g2 := (75, [(5, .int 2), (4, .int 0), (3, .ref 12), (2, .int 0), (0, .ref 98), (1, .int 0)], [.int 2, .ref 12, .ref 98], (q_cX (q_uA q_AX 35 (upd (upd (upd w443 1 32) 2 108) 3 100)) (q_uI q_IX 34 3 4) q_J0, 40, 26520))) 11 (fun _ _ => rfl) ?_
  refine q_Ru_call (v := (some (.int 97))) (h2 := (q_cX (q_uA q_AX 35 (upd (upd (upd w443 1 32) 2 108) 3 100)) (q_uI q_IX 34 3 4) q_J0, 40, 26520)) rfl rfl ?_ ?_
  · refine q_Ca_of (Nat.le_of_ble_eq_true rfl) ?_
    refine q_Ru_seg (g2 := (1, [(0, .ref 12), (1, .int 2)], [.ref 12], (q_cX (q_uA q_AX 35 (upd (upd (upd w443 1 32) 2 108) 3 100)) (q_uI q_IX 34 3 4) q_J0, 40, 26520))) 1 (fun _ _ => rfl) ?_
    refine q_Ru_call (v := (some (.int 1))) (h2 := (q_cX (q_uA q_AX 35 (upd (upd (upd w443 1 32) 2 108) 3 100)) (q_uI q_IX 34 3 4) q_J0, 40, 26520)) rfl rfl ?_ ?_
    · refine q_Ca_of (Nat.le_of_ble_eq_true rfl) ?_
      refine q_Ru_seg (g2 := (18, [(0, .ref 12)], [.int 1], (q_cX (q_uA q_AX 35 (upd (upd (upd w443 1 32) 2 108) 3 100)) (q_uI q_IX 34 3 4) q_J0, 40, 26520))) 7 (fun _ _ => rfl) ?_
      exact q_Ru_ret rfl rfl
    show q_Ru _ _ _ (4, [(0, .ref 12), (1, .int 2)], [.int 1], (q_cX (q_uA q_AX 35 (upd (upd (upd w443 1 32) 2 108) 3 100)) (q_uI q_IX 34 3 4) q_J0, 40, 26520)) _
    refine q_Ru_seg (g2 := (12, [(0, .ref 12), (1, .int 2)], [.int 2, .ref 40], (q_cX (q_uA q_AX 35 (upd (upd (upd w443 1 32) 2 108) 3 100)) (q_uI q_IX 34 3 4) q_J0, 40, 26520))) 4 (fun _ _ => rfl) ?_
    refine q_Ru_call (v := (some (.int 97))) (h2 := (q_cX (q_uA q_AX 35 (upd (upd (upd w443 1 32) 2 108) 3 100)) (q_uI q_IX 34 3 4) q_J0, 40, 26520)) rfl rfl ?_ ?_
    · refine q_Ca_of (Nat.le_of_ble_eq_true rfl) ?_
      refine q_Ru_seg (g2 := (3, [(0, .ref 40), (1, .int 2)], [.int 63, .int 2], (q_cX (q_uA q_AX 35 (upd (upd (upd w443 1 32) 2 108) 3 100)) (q_uI q_IX 34 3 4) q_J0, 40, 26520))) 3 (fun _ _ => rfl) ?_
      refine q_Ru_call (v := none) (h2 := (q_cX (q_uA q_AX 35 (upd (upd (upd w443 1 32) 2 108) 3 100)) (q_uI q_IX 34 3 4) q_J0, 40, 26520)) rfl rfl ?_ ?_
      · refine q_Ca_of (Nat.le_of_ble_eq_true rfl) ?_
        refine q_Ru_seg (g2 := (5, [(0, .int 2), (1, .int 63)], [.ref 9, .int 63, .int 2], (q_cX (q_uA q_AX 35 (upd (upd (upd w443 1 32) 2 108) 3 100)) (q_uI q_IX 34 3 4) q_J0, 40, 26520))) 3 (fun _ _ => rfl) ?_
        refine q_Ru_call (v := (some (.int 2))) (h2 := (q_cX (q_uA q_AX 35 (upd (upd (upd w443 1 32) 2 108) 3 100)) (q_uI q_IX 34 3 4) q_J0, 40, 26520)) rfl rfl ?_ ?_
        · refine q_Ca_of (Nat.le_of_ble_eq_true rfl) ?_
          refine q_Ru_seg (g2 := (17, [(0, .int 2), (1, .int 63), (2, .ref 9)], [.int 2], (q_cX (q_uA q_AX 35 (upd (upd (upd w443 1 32) 2 108) 3 100)) (q_uI q_IX 34 3 4) q_J0, 40, 26520))) 6 (fun _ _ => rfl) ?_
          exact q_Ru_ret rfl rfl
        show q_Ru _ _ _ (8, [(0, .int 2), (1, .int 63)], [.int 2], (q_cX (q_uA q_AX 35 (upd (upd (upd w443 1 32) 2 108) 3 100)) (q_uI q_IX 34 3 4) q_J0, 40, 26520)) _
        refine q_Ru_seg (g2 := (9, [(0, .int 2), (1, .int 63)], [], (q_cX (q_uA q_AX 35 (upd (upd (upd w443 1 32) 2 108) 3 100)) (q_uI q_IX 34 3 4) q_J0, 40, 26520))) 1 (fun _ _ => rfl) ?_
        exact q_Ru_ret rfl rfl
      show q_Ru _ _ _ (6, [(0, .ref 40), (1, .int 2)], [], (q_cX (q_uA q_AX 35 (upd (upd (upd w443 1 32) 2 108) 3 100)) (q_uI q_IX 34 3 4) q_J0, 40, 26520)) _
      refine q_Ru_seg (g2 := (9, [(0, .ref 40), (1, .int 2)], [.int 97], (q_cX (q_uA q_AX 35 (upd (upd (upd w443 1 32) 2 108) 3 100)) (q_uI q_IX 34 3 4) q_J0, 40, 26520))) 3 (fun _ _ => rfl) ?_
      refine q_Ru_seg (g2 := (14, [(0, .ref 40), (1, .int 2)], [.int 97], (q_cX (q_uA q_AX 35 (upd (upd (upd w443 1 32) 2 108) 3 100)) (q_uI q_IX 34 3 4) q_J0, 40, 26520))) 3 (fun _ _ => rfl) ?_
      exact q_Ru_ret rfl rfl
    show q_Ru _ _ _ (15, [(0, .ref 12), (1, .int 2)], [.int 97], (q_cX (q_uA q_AX 35 (upd (upd (upd w443 1 32) 2 108) 3 100)) (q_uI q_IX 34 3 4) q_J0, 40, 26520)) _
    exact q_Ru_ret rfl rfl
  show q_Ru _ _ _ (78, [(5, .int 2), (4, .int 0), (3, .ref 12), (2, .int 0), (0, .ref 98), (1, .int 0)], [.int 97, .ref 98], (q_cX (q_uA q_AX 35 (upd (upd (upd w443 1 32) 2 108) 3 100)) (q_uI q_IX 34 3 4) q_J0, 40, 26520)) _
  refine q_Ru_call (v := (some (.ref 98))) (h2 := (q_cX (q_uA q_AX 35 (upd (upd (upd (upd w443 1 32) 2 108) 3 100) 4 97)) (q_uI q_IX 34 3 5) q_J0, 40, 26520)) rfl rfl ?_ ?_
  · refine q_Ca_of (Nat.le_of_ble_eq_true rfl) ?_
    refine q_Ru_seg (g2 := (2, [(0, .ref 98), (1, .int 97)], [.int 97, .ref 98], (q_cX (q_uA q_AX 35 (upd (upd (upd w443 1 32) 2 108) 3 100)) (q_uI q_IX 34 3 4) q_J0, 40, 26520))) 2 (fun _ _ => rfl) ?_
    refine q_Ru_call (v := (some (.ref 98))) (h2 := (q_cX (q_uA q_AX 35 (upd (upd (upd (upd w443 1 32) 2 108) 3 100) 4 97)) (q_uI q_IX 34 3 5) q_J0, 40, 26520)) rfl rfl ?_ ?_
    · refine q_Ca_of (Nat.le_of_ble_eq_true rfl) ?_
      refine q_Ru_seg (g2 := (5, [(0, .ref 98), (1, .int 97)], [.int 4, .ref 98], (q_cX (q_uA q_AX 35 (upd (upd (upd w443 1 32) 2 108) 3 100)) (q_uI q_IX 34 3 4) q_J0, 40, 26520))) 3 (fun _ _ => rfl) ?_
      refine q_Ru_seg (g2 := (7, [(0, .ref 98), (1, .int 97)], [.int 5, .ref 98], (q_cX (q_uA q_AX 35 (upd (upd (upd w443 1 32) 2 108) 3 100)) (q_uI q_IX 34 3 4) q_J0, 40, 26520))) 2 (fun _ _ => rfl) ?_
      refine q_Ru_call (v := none) (h2 := (q_cX (q_uA q_AX 35 (upd (upd (upd w443 1 32) 2 108) 3 100)) (q_uI q_IX 34 3 4) q_J0, 40, 26520)) rfl rfl ?_ ?_
      · refine q_Ca_of (Nat.le_of_ble_eq_true rfl) ?_
        refine q_Ru_seg (g2 := (9, [(0, .ref 98), (1, .int 5)], [.int 0, .int 16], (q_cX (q_uA q_AX 35 (upd (upd (upd w443 1 32) 2 108) 3 100)) (q_uI q_IX 34 3 4) q_J0, 40, 26520))) 5 (fun _ _ => rfl) ?_
        refine q_Ru_seg (g2 := (38, [(2, .int 16), (0, .ref 98), (1, .int 5)], [], (q_cX (q_uA q_AX 35 (upd (upd (upd w443 1 32) 2 108) 3 100)) (q_uI q_IX 34 3 4) q_J0, 40, 26520))) 6 (fun _ _ => rfl) ?_
        exact q_Ru_ret rfl rfl
      show q_Ru _ _ _ (10, [(0, .ref 98), (1, .int 97)], [], (q_cX (q_uA q_AX 35 (upd (upd (upd w443 1 32) 2 108) 3 100)) (q_uI q_IX 34 3 4) q_J0, 40, 26520)) _
      refine q_Ru_seg (g2 := (11, [(0, .ref 98), (1, .int 97)], [.ref 98], (q_cX (q_uA q_AX 35 (upd (upd (upd w443 1 32) 2 108) 3 100)) (q_uI q_IX 34 3 4) q_J0, 40, 26520))) 1 (fun _ _ => rfl) ?_
      refine q_Ru_call (v := (some (.int 1))) (h2 := (q_cX (q_uA q_AX 35 (upd (upd (upd w443 1 32) 2 108) 3 100)) (q_uI q_IX 34 3 4) q_J0, 40, 26520)) rfl rfl ?_ ?_
      · refine q_Ca_of (Nat.le_of_ble_eq_true rfl) ?_
        refine q_Ru_seg (g2 := (10, [(0, .ref 98)], [.int 0], (q_cX (q_uA q_AX 35 (upd (upd (upd w443 1 32) 2 108) 3 100)) (q_uI q_IX 34 3 4) q_J0, 40, 26520))) 4 (fun _ _ => rfl) ?_
        refine q_Ru_seg (g2 := (18, [(0, .ref 98)], [.int 1], (q_cX (q_uA q_AX 35 (upd (upd (upd w443 1 32) 2 108) 3 100)) (q_uI q_IX 34 3 4) q_J0, 40, 26520))) 3 (fun _ _ => rfl) ?_
        exact q_Ru_ret rfl rfl
      show q_Ru _ _ _ (14, [(0, .ref 98), (1, .int 97)], [.int 1], (q_cX (q_uA q_AX 35 (upd (upd (upd w443 1 32) 2 108) 3 100)) (q_uI q_IX 34 3 4) q_J0, 40, 26520)) _
      refine q_Ru_seg (g2 := (18, [(0, .ref 98), (1, .int 97)], [.int 97], (q_cX (q_uA q_AX 35 (upd (upd (upd w443 1 32) 2 108) 3 100)) (q_uI q_IX 34 3 4) q_J0, 40, 26520))) 2 (fun _ _ => rfl) ?_
      refine q_Ru_call (v := (some (.int 1))) (h2 := (q_cX (q_uA q_AX 35 (upd (upd (upd w443 1 32) 2 108) 3 100)) (q_uI q_IX 34 3 4) q_J0, 40, 26520)) rfl rfl ?_ ?_
      · refine q_Ca_of (Nat.le_of_ble_eq_true rfl) ?_
        refine q_Ru_seg (g2 := (12, [(0, .int 97)], [.int 1], (q_cX (q_uA q_AX 35 (upd (upd (upd w443 1 32) 2 108) 3 100)) (q_uI q_IX 34 3 4) q_J0, 40, 26520))) 5 (fun _ _ => rfl) ?_
        exact q_Ru_ret rfl rfl
      show q_Ru _ _ _ (21, [(0, .ref 98), (1, .int 97)], [.int 1], (q_cX (q_uA q_AX 35 (upd (upd (upd w443 1 32) 2 108) 3 100)) (q_uI q_IX 34 3 4) q_J0, 40, 26520)) _
      refine q_Ru_seg (g2 := (33, [(0, .ref 98), (1, .int 97)], [.int 4, .ref 98, .ref 99], (q_cX (q_uA q_AX 35 (upd (upd (upd w443 1 32) 2 108) 3 100)) (q_uI q_IX 34 3 4) q_J0, 40, 26520))) 6 (fun _ _ => rfl) ?_
      refine q_Ru_seg (g2 := (41, [(0, .ref 98), (1, .int 97)], [.int 97, .int 4, .ref 99], (q_cX (q_uA q_AX 35 (upd (upd (upd w443 1 32) 2 108) 3 100)) (q_uI q_IX 34 3 5) q_J0, 40, 26520))) 6 (fun _ _ => rfl) ?_
      refine q_Ru_rsT (g2 := (42, [(0, .ref 98), (1, .int 97)], [], (q_cX (q_uA q_AX 35 (upd (upd (upd (upd w443 1 32) 2 108) 3 100) 4 97)) (q_uI q_IX 34 3 5) q_J0, 40, 26520))) rfl q_astB_35 rfl ?_
      generalize (upd (upd (upd (upd w443 1 32) 2 108) 3 100) 4 97) = w447
      refine q_Ru_seg (g2 := (76, [(0, .ref 98), (1, .int 97)], [.ref 98], (q_cX (q_uA q_AX 35 w447) (q_uI q_IX 34 3 5) q_J0, 40, 26520))) 2 (fun _ _ => rfl) ?_
      exact q_Ru_ret rfl rfl
    show q_Ru _ _ _ (5, [(0, .ref 98), (1, .int 97)], [.ref 98], (q_cX (q_uA q_AX 35 (upd (upd (upd (upd w443 1 32) 2 108) 3 100) 4 97)) (q_uI q_IX 34 3 5) q_J0, 40, 26520)) _
    refine q_Ru_seg (g2 := (7, [(0, .ref 98), (1, .int 97)], [.ref 98], (q_cX (q_uA q_AX 35 (upd (upd (upd (upd w443 1 32) 2 108) 3 100) 4 97)) (q_uI q_IX 34 3 5) q_J0, 40, 26520))) 2 (fun _ _ => rfl) ?_
    exact q_Ru_ret rfl rfl
  show q_Ru _ _ _ (81, [(5, .int 2), (4, .int 0), (3, .ref 12), (2, .int 0), (0, .ref 98), (1, .int 0)], [.ref 98], (q_cX (q_uA q_AX 35 (upd (upd (upd (upd w443 1 32) 2 108) 3 100) 4 97)) (q_uI q_IX 34 3 5) q_J0, 40, 26520)) _
  refine q_Ru_seg (g2 := (88, [(5, .int 3), (4, .int 0), (3, .ref 12), (2, .int 0), (0, .ref 98), (1, .int 0)], [], (q_cX (q_uA q_AX 35 (upd (upd (upd (upd w443 1 32) 2 108) 3 100) 4 97)) (q_uI q_IX 34 3 5) q_J0, 40, 26520))) 8 (fun _ _ => rfl) ?_
  exact q_Ru_ret rfl rfl
set_option maxHeartbeats 20000000 in
theorem q_xc189 (L : Nat) (xs : Nat → Int32) (a : Int32) (hl_a : 0 ≤ a.toInt) (hu_a : a.toInt ≤ 9) (w443 : Nat → Int32) : q_Ru (q_TBs 99 L xs) 4 194 (81, [(5, .int 0), (4, .int 0), (3, .ref 12), (2, .int 0), (0, .ref 98), (1, .int 0)], [.ref 98], (q_cX (q_uA q_AX 35 (upd (upd w443 1 32) 2 108)) (q_uI q_IX 34 3 3) q_J0, 40, 26520)) (.inl none, (q_cX (q_uA q_AX 35 (upd (upd (upd (upd w443 1 32) 2 108) 3 100) 4 97)) (q_uI q_IX 34 3 5) q_J0, 40, 26520)) := by
  refine q_Ru_seg (g2 := (75, [(5, .int 1), (4, .int 0), (3, .ref 12), (2, .int 0), (0, .ref 98), (1, .int 0)], [.int 1, .ref 12, .ref 98], (q_cX (q_uA q_AX 35 (upd (upd w443 1 32) 2 108)) (q_uI q_IX 34 3 3) q_J0, 40, 26520))) 11 (fun _ _ => rfl) ?_
  refine q_Ru_call (v := (some (.int 100))) (h2 := (q_cX (q_uA q_AX 35 (upd (upd w443 1 32) 2 108)) (q_uI q_IX 34 3 3) q_J0, 40, 26520)) rfl rfl ?_ ?_
  · refine q_Ca_of (Nat.le_of_ble_eq_true rfl) ?_
    refine q_Ru_seg (g2 := (1, [(0, .ref 12), (1, .int 1)], [.ref 12], (q_cX (q_uA q_AX 35 (upd (upd w443 1 32) 2 108)) (q_uI q_IX 34 3 3) q_J0, 40, 26520))) 1 (fun _ _ => rfl) ?_
    refine q_Ru_call (v := (some (.int 1))) (h2 := (q_cX (q_uA q_AX 35 (upd (upd w443 1 32) 2 108)) (q_uI q_IX 34 3 3) q_J0, 40, 26520)) rfl rfl ?_ ?_
    · refine q_Ca_of (Nat.le_of_ble_eq_true rfl) ?_
      refine q_Ru_seg (g2 := (18, [(0, .ref 12)], [.int 1], (q_cX (q_uA q_AX 35 (upd (upd w443 1 32) 2 108)) (q_uI q_IX 34 3 3) q_J0, 40, 26520))) 7 (fun _ _ => rfl) ?_
      exact q_Ru_ret rfl rfl
    show q_Ru _ _ _ (4, [(0, .ref 12), (1, .int 1)], [.int 1], (q_cX (q_uA q_AX 35 (upd (upd w443 1 32) 2 108)) (q_uI q_IX 34 3 3) q_J0, 40, 26520)) _
    refine q_Ru_seg (g2 := (12, [(0, .ref 12), (1, .int 1)], [.int 1, .ref 40], (q_cX (q_uA q_AX 35 (upd (upd w443 1 32) 2 108)) (q_uI q_IX 34 3 3) q_J0, 40, 26520))) 4 (fun _ _ => rfl) ?_
    refine q_Ru_call (v := (some (.int 100))) (h2 := (q_cX (q_uA q_AX 35 (upd (upd w443 1 32) 2 108)) (q_uI q_IX 34 3 3) q_J0, 40, 26520)) rfl rfl ?_ ?_
    · refine q_Ca_of (Nat.le_of_ble_eq_true rfl) ?_
      refine q_Ru_seg (g2 := (3, [(0, .ref 40), (1, .int 1)], [.int 63, .int 1], (q_cX (q_uA q_AX 35 (upd (upd w443 1 32) 2 108)) (q_uI q_IX 34 3 3) q_J0, 40, 26520))) 3 (fun _ _ => rfl) ?_
      refine q_Ru_call (v := none) (h2 := (q_cX (q_uA q_AX 35 (upd (upd w443 1 32) 2 108)) (q_uI q_IX 34 3 3) q_J0, 40, 26520)) rfl rfl ?_ ?_
      · refine q_Ca_of (Nat.le_of_ble_eq_true rfl) ?_
        refine q_Ru_seg (g2 := (5, [(0, .int 1), (1, .int 63)], [.ref 9, .int 63, .int 1], (q_cX (q_uA q_AX 35 (upd (upd w443 1 32) 2 108)) (q_uI q_IX 34 3 3) q_J0, 40, 26520))) 3 (fun _ _ => rfl) ?_
        refine q_Ru_call (v := (some (.int 1))) (h2 := (q_cX (q_uA q_AX 35 (upd (upd w443 1 32) 2 108)) (q_uI q_IX 34 3 3) q_J0, 40, 26520)) rfl rfl ?_ ?_
        · refine q_Ca_of (Nat.le_of_ble_eq_true rfl) ?_
          refine q_Ru_seg (g2 := (17, [(0, .int 1), (1, .int 63), (2, .ref 9)], [.int 1], (q_cX (q_uA q_AX 35 (upd (upd w443 1 32) 2 108)) (q_uI q_IX 34 3 3) q_J0, 40, 26520))) 6 (fun _ _ => rfl) ?_
          exact q_Ru_ret rfl rfl
        show q_Ru _ _ _ (8, [(0, .int 1), (1, .int 63)], [.int 1], (q_cX (q_uA q_AX 35 (upd (upd w443 1 32) 2 108)) (q_uI q_IX 34 3 3) q_J0, 40, 26520)) _
        refine q_Ru_seg (g2 := (9, [(0, .int 1), (1, .int 63)], [], (q_cX (q_uA q_AX 35 (upd (upd w443 1 32) 2 108)) (q_uI q_IX 34 3 3) q_J0, 40, 26520))) 1 (fun _ _ => rfl) ?_
        exact q_Ru_ret rfl rfl
      show q_Ru _ _ _ (6, [(0, .ref 40), (1, .int 1)], [], (q_cX (q_uA q_AX 35 (upd (upd w443 1 32) 2 108)) (q_uI q_IX 34 3 3) q_J0, 40, 26520)) _
      refine q_Ru_seg (g2 := (9, [(0, .ref 40), (1, .int 1)], [.int 100], (q_cX (q_uA q_AX 35 (upd (upd w443 1 32) 2 108)) (q_uI q_IX 34 3 3) q_J0, 40, 26520))) 3 (fun _ _ => rfl) ?_
      refine q_Ru_seg (g2 := (14, [(0, .ref 40), (1, .int 1)], [.int 100], (q_cX (q_uA q_AX 35 (upd (upd w443 1 32) 2 108)) (q_uI q_IX 34 3 3) q_J0, 40, 26520))) 3 (fun _ _ => rfl) ?_
      exact q_Ru_ret rfl rfl
    show q_Ru _ _ _ (15, [(0, .ref 12), (1, .int 1)], [.int 100], (q_cX (q_uA q_AX 35 (upd (upd w443 1 32) 2 108)) (q_uI q_IX 34 3 3) q_J0, 40, 26520)) _
    exact q_Ru_ret rfl rfl
  show q_Ru _ _ _ (78, [(5, .int 1), (4, .int 0), (3, .ref 12), (2, .int 0), (0, .ref 98), (1, .int 0)], [.int 100, .ref 98], (q_cX (q_uA q_AX 35 (upd (upd w443 1 32) 2 108)) (q_uI q_IX 34 3 3) q_J0, 40, 26520)) _
  refine q_Ru_call (v := (some (.ref 98))) (h2 := (q_cX (q_uA q_AX 35 (upd (upd (upd w443 1 32) 2 108) 3 100)) (q_uI q_IX 34 3 4) q_J0, 40, 26520)) rfl rfl ?_ ?_
  · refine q_Ca_of (Nat.le_of_ble_eq_true rfl) ?_
    refine q_Ru_seg (g2 := (2, [(0, .ref 98), (1, .int 100)], [.int 100, .ref 98], (q_cX (q_uA q_AX 35 (upd (upd w443 1 32) 2 108)) (q_uI q_IX 34 3 3) q_J0, 40, 26520))) 2 (fun _ _ => rfl) ?_
    refine q_Ru_call (v := (some (.ref 98))) (h2 := (q_cX (q_uA q_AX 35 (upd (upd (upd w443 1 32) 2 108) 3 100)) (q_uI q_IX 34 3 4) q_J0, 40, 26520)) rfl rfl ?_ ?_
    · refine q_Ca_of (Nat.le_of_ble_eq_true rfl) ?_
      refine q_Ru_seg (g2 := (5, [(0, .ref 98), (1, .int 100)], [.int 3, .ref 98], (q_cX (q_uA q_AX 35 (upd (upd w443 1 32) 2 108)) (q_uI q_IX 34 3 3) q_J0, 40, 26520))) 3 (fun _ _ => rfl) ?_
      refine q_Ru_seg (g2 := (7, [(0, .ref 98), (1, .int 100)], [.int 4, .ref 98], (q_cX (q_uA q_AX 35 (upd (upd w443 1 32) 2 108)) (q_uI q_IX 34 3 3) q_J0, 40, 26520))) 2 (fun _ _ => rfl) ?_
      refine q_Ru_call (v := none) (h2 := (q_cX (q_uA q_AX 35 (upd (upd w443 1 32) 2 108)) (q_uI q_IX 34 3 3) q_J0, 40, 26520)) rfl rfl ?_ ?_
      · refine q_Ca_of (Nat.le_of_ble_eq_true rfl) ?_
        refine q_Ru_seg (g2 := (9, [(0, .ref 98), (1, .int 4)], [.int 0, .int 16], (q_cX (q_uA q_AX 35 (upd (upd w443 1 32) 2 108)) (q_uI q_IX 34 3 3) q_J0, 40, 26520))) 5 (fun _ _ => rfl) ?_
        refine q_Ru_seg (g2 := (38, [(2, .int 16), (0, .ref 98), (1, .int 4)], [], (q_cX (q_uA q_AX 35 (upd (upd w443 1 32) 2 108)) (q_uI q_IX 34 3 3) q_J0, 40, 26520))) 6 (fun _ _ => rfl) ?_
        exact q_Ru_ret rfl rfl
      show q_Ru _ _ _ (10, [(0, .ref 98), (1, .int 100)], [], (q_cX (q_uA q_AX 35 (upd (upd w443 1 32) 2 108)) (q_uI q_IX 34 3 3) q_J0, 40, 26520)) _
      refine q_Ru_seg (g2 := (11, [(0, .ref 98), (1, .int 100)], [.ref 98], (q_cX (q_uA q_AX 35 (upd (upd w443 1 32) 2 108)) (q_uI q_IX 34 3 3) q_J0, 40, 26520))) 1 (fun _ _ => rfl) ?_
      refine q_Ru_call (v := (some (.int 1))) (h2 := (q_cX (q_uA q_AX 35 (upd (upd w443 1 32) 2 108)) (q_uI q_IX 34 3 3) q_J0, 40, 26520)) rfl rfl ?_ ?_
      · refine q_Ca_of (Nat.le_of_ble_eq_true rfl) ?_
        refine q_Ru_seg (g2 := (10, [(0, .ref 98)], [.int 0], (q_cX (q_uA q_AX 35 (upd (upd w443 1 32) 2 108)) (q_uI q_IX 34 3 3) q_J0, 40, 26520))) 4 (fun _ _ => rfl) ?_
        refine q_Ru_seg (g2 := (18, [(0, .ref 98)], [.int 1], (q_cX (q_uA q_AX 35 (upd (upd w443 1 32) 2 108)) (q_uI q_IX 34 3 3) q_J0, 40, 26520))) 3 (fun _ _ => rfl) ?_
        exact q_Ru_ret rfl rfl
      show q_Ru _ _ _ (14, [(0, .ref 98), (1, .int 100)], [.int 1], (q_cX (q_uA q_AX 35 (upd (upd w443 1 32) 2 108)) (q_uI q_IX 34 3 3) q_J0, 40, 26520)) _
      refine q_Ru_seg (g2 := (18, [(0, .ref 98), (1, .int 100)], [.int 100], (q_cX (q_uA q_AX 35 (upd (upd w443 1 32) 2 108)) (q_uI q_IX 34 3 3) q_J0, 40, 26520))) 2 (fun _ _ => rfl) ?_
      refine q_Ru_call (v := (some (.int 1))) (h2 := (q_cX (q_uA q_AX 35 (upd (upd w443 1 32) 2 108)) (q_uI q_IX 34 3 3) q_J0, 40, 26520)) rfl rfl ?_ ?_
      · refine q_Ca_of (Nat.le_of_ble_eq_true rfl) ?_
        refine q_Ru_seg (g2 := (12, [(0, .int 100)], [.int 1], (q_cX (q_uA q_AX 35 (upd (upd w443 1 32) 2 108)) (q_uI q_IX 34 3 3) q_J0, 40, 26520))) 5 (fun _ _ => rfl) ?_
        exact q_Ru_ret rfl rfl
      show q_Ru _ _ _ (21, [(0, .ref 98), (1, .int 100)], [.int 1], (q_cX (q_uA q_AX 35 (upd (upd w443 1 32) 2 108)) (q_uI q_IX 34 3 3) q_J0, 40, 26520)) _
      refine q_Ru_seg (g2 := (33, [(0, .ref 98), (1, .int 100)], [.int 3, .ref 98, .ref 99], (q_cX (q_uA q_AX 35 (upd (upd w443 1 32) 2 108)) (q_uI q_IX 34 3 3) q_J0, 40, 26520))) 6 (fun _ _ => rfl) ?_
      refine q_Ru_seg (g2 := (41, [(0, .ref 98), (1, .int 100)], [.int 100, .int 3, .ref 99], (q_cX (q_uA q_AX 35 (upd (upd w443 1 32) 2 108)) (q_uI q_IX 34 3 4) q_J0, 40, 26520))) 6 (fun _ _ => rfl) ?_
      refine q_Ru_rsT (g2 := (42, [(0, .ref 98), (1, .int 100)], [], (q_cX (q_uA q_AX 35 (upd (upd (upd w443 1 32) 2 108) 3 100)) (q_uI q_IX 34 3 4) q_J0, 40, 26520))) rfl q_astB_35 rfl ?_
      generalize (upd (upd (upd w443 1 32) 2 108) 3 100) = w446
      refine q_Ru_seg (g2 := (76, [(0, .ref 98), (1, .int 100)], [.ref 98], (q_cX (q_uA q_AX 35 w446) (q_uI q_IX 34 3 4) q_J0, 40, 26520))) 2 (fun _ _ => rfl) ?_
      exact q_Ru_ret rfl rfl
    show q_Ru _ _ _ (5, [(0, .ref 98), (1, .int 100)], [.ref 98], (q_cX (q_uA q_AX 35 (upd (upd (upd w443 1 32) 2 108) 3 100)) (q_uI q_IX 34 3 4) q_J0, 40, 26520)) _
    refine q_Ru_seg (g2 := (7, [(0, .ref 98), (1, .int 100)], [.ref 98], (q_cX (q_uA q_AX 35 (upd (upd (upd w443 1 32) 2 108) 3 100)) (q_uI q_IX 34 3 4) q_J0, 40, 26520))) 2 (fun _ _ => rfl) ?_
    exact q_Ru_ret rfl rfl
  show q_Ru _ _ _ (81, [(5, .int 1), (4, .int 0), (3, .ref 12), (2, .int 0), (0, .ref 98), (1, .int 0)], [.ref 98], (q_cX (q_uA q_AX 35 (upd (upd (upd w443 1 32) 2 108) 3 100)) (q_uI q_IX 34 3 4) q_J0, 40, 26520)) _
  exact q_Ru_le (Nat.le_of_ble_eq_true rfl) (q_xc188 L xs a hl_a hu_a w443)
set_option maxHeartbeats 20000000 in
theorem q_xc190 (L : Nat) (xs : Nat → Int32) (a : Int32) (hl_a : 0 ≤ a.toInt) (hu_a : a.toInt ≤ 9) (w443 : Nat → Int32) : q_Ru (q_TBs 99 L xs) 4 194 (47, [(4, .int 0), (3, .ref 12), (2, .int 0), (0, .ref 98), (1, .int 0)], [.int 63, .int 2], (q_cX (q_uA q_AX 35 (upd w443 1 32)) (q_uI q_IX 34 3 2) q_J0, 40, 26520)) (.inl none, (q_cX (q_uA q_AX 35 (upd (upd (upd (upd w443 1 32) 2 108) 3 100) 4 97)) (q_uI q_IX 34 3 5) q_J0, 40, 26520)) := by
  refine q_Ru_seg (g2 := (75, [(5, .int 0), (4, .int 0), (3, .ref 12), (2, .int 0), (0, .ref 98), (1, .int 0)], [.int 0, .ref 12, .ref 98], (q_cX (q_uA q_AX 35 (upd w443 1 32)) (q_uI q_IX 34 3 2) q_J0, 40, 26520))) 11 (fun _ _ => rfl) ?_
  refine q_Ru_call (v := (some (.int 108))) (h2 := (q_cX (q_uA q_AX 35 (upd w443 1 32)) (q_uI q_IX 34 3 2) q_J0, 40, 26520)) rfl rfl ?_ ?_
  · refine q_Ca_of (Nat.le_of_ble_eq_true rfl) ?_
    refine q_Ru_seg (g2 := (1, [(0, .ref 12), (1, .int 0)], [.ref 12], (q_cX (q_uA q_AX 35 (upd w443 1 32)) (q_uI q_IX 34 3 2) q_J0, 40, 26520))) 1 (fun _ _ => rfl) ?_
    refine q_Ru_call (v := (some (.int 1))) (h2 := (q_cX (q_uA q_AX 35 (upd w443 1 32)) (q_uI q_IX 34 3 2) q_J0, 40, 26520)) rfl rfl ?_ ?_
    · refine q_Ca_of (Nat.le_of_ble_eq_true rfl) ?_
      refine q_Ru_seg (g2 := (18, [(0, .ref 12)], [.int 1], (q_cX (q_uA q_AX 35 (upd w443 1 32)) (q_uI q_IX 34 3 2) q_J0, 40, 26520))) 7 (fun _ _ => rfl) ?_
      exact q_Ru_ret rfl rfl
    show q_Ru _ _ _ (4, [(0, .ref 12), (1, .int 0)], [.int 1], (q_cX (q_uA q_AX 35 (upd w443 1 32)) (q_uI q_IX 34 3 2) q_J0, 40, 26520)) _
    refine q_Ru_seg (g2 := (12, [(0, .ref 12), (1, .int 0)], [.int 0, .ref 40], (q_cX (q_uA q_AX 35 (upd w443 1 32)) (q_uI q_IX 34 3 2) q_J0, 40, 26520))) 4 (fun _ _ => rfl) ?_
    refine q_Ru_call (v := (some (.int 108))) (h2 := (q_cX (q_uA q_AX 35 (upd w443 1 32)) (q_uI q_IX 34 3 2) q_J0, 40, 26520)) rfl rfl ?_ ?_
    · refine q_Ca_of (Nat.le_of_ble_eq_true rfl) ?_
      refine q_Ru_seg (g2 := (3, [(0, .ref 40), (1, .int 0)], [.int 63, .int 0], (q_cX (q_uA q_AX 35 (upd w443 1 32)) (q_uI q_IX 34 3 2) q_J0, 40, 26520))) 3 (fun _ _ => rfl) ?_
      refine q_Ru_call (v := none) (h2 := (q_cX (q_uA q_AX 35 (upd w443 1 32)) (q_uI q_IX 34 3 2) q_J0, 40, 26520)) rfl rfl ?_ ?_
      · refine q_Ca_of (Nat.le_of_ble_eq_true rfl) ?_
        refine q_Ru_seg (g2 := (5, [(0, .int 0), (1, .int 63)], [.ref 9, .int 63, .int 0], (q_cX (q_uA q_AX 35 (upd w443 1 32)) (q_uI q_IX 34 3 2) q_J0, 40, 26520))) 3 (fun _ _ => rfl) ?_
        refine q_Ru_call (v := (some (.int 0))) (h2 := (q_cX (q_uA q_AX 35 (upd w443 1 32)) (q_uI q_IX 34 3 2) q_J0, 40, 26520)) rfl rfl ?_ ?_
        · refine q_Ca_of (Nat.le_of_ble_eq_true rfl) ?_
          refine q_Ru_seg (g2 := (17, [(0, .int 0), (1, .int 63), (2, .ref 9)], [.int 0], (q_cX (q_uA q_AX 35 (upd w443 1 32)) (q_uI q_IX 34 3 2) q_J0, 40, 26520))) 6 (fun _ _ => rfl) ?_
          exact q_Ru_ret rfl rfl
        show q_Ru _ _ _ (8, [(0, .int 0), (1, .int 63)], [.int 0], (q_cX (q_uA q_AX 35 (upd w443 1 32)) (q_uI q_IX 34 3 2) q_J0, 40, 26520)) _
        refine q_Ru_seg (g2 := (9, [(0, .int 0), (1, .int 63)], [], (q_cX (q_uA q_AX 35 (upd w443 1 32)) (q_uI q_IX 34 3 2) q_J0, 40, 26520))) 1 (fun _ _ => rfl) ?_
        exact q_Ru_ret rfl rfl
      show q_Ru _ _ _ (6, [(0, .ref 40), (1, .int 0)], [], (q_cX (q_uA q_AX 35 (upd w443 1 32)) (q_uI q_IX 34 3 2) q_J0, 40, 26520)) _
      refine q_Ru_seg (g2 := (9, [(0, .ref 40), (1, .int 0)], [.int 108], (q_cX (q_uA q_AX 35 (upd w443 1 32)) (q_uI q_IX 34 3 2) q_J0, 40, 26520))) 3 (fun _ _ => rfl) ?_
      refine q_Ru_seg (g2 := (14, [(0, .ref 40), (1, .int 0)], [.int 108], (q_cX (q_uA q_AX 35 (upd w443 1 32)) (q_uI q_IX 34 3 2) q_J0, 40, 26520))) 3 (fun _ _ => rfl) ?_
      exact q_Ru_ret rfl rfl
    show q_Ru _ _ _ (15, [(0, .ref 12), (1, .int 0)], [.int 108], (q_cX (q_uA q_AX 35 (upd w443 1 32)) (q_uI q_IX 34 3 2) q_J0, 40, 26520)) _
    exact q_Ru_ret rfl rfl
  show q_Ru _ _ _ (78, [(5, .int 0), (4, .int 0), (3, .ref 12), (2, .int 0), (0, .ref 98), (1, .int 0)], [.int 108, .ref 98], (q_cX (q_uA q_AX 35 (upd w443 1 32)) (q_uI q_IX 34 3 2) q_J0, 40, 26520)) _
  refine q_Ru_call (v := (some (.ref 98))) (h2 := (q_cX (q_uA q_AX 35 (upd (upd w443 1 32) 2 108)) (q_uI q_IX 34 3 3) q_J0, 40, 26520)) rfl rfl ?_ ?_
  · refine q_Ca_of (Nat.le_of_ble_eq_true rfl) ?_
    refine q_Ru_seg (g2 := (2, [(0, .ref 98), (1, .int 108)], [.int 108, .ref 98], (q_cX (q_uA q_AX 35 (upd w443 1 32)) (q_uI q_IX 34 3 2) q_J0, 40, 26520))) 2 (fun _ _ => rfl) ?_
    refine q_Ru_call (v := (some (.ref 98))) (h2 := (q_cX (q_uA q_AX 35 (upd (upd w443 1 32) 2 108)) (q_uI q_IX 34 3 3) q_J0, 40, 26520)) rfl rfl ?_ ?_
    · refine q_Ca_of (Nat.le_of_ble_eq_true rfl) ?_
      refine q_Ru_seg (g2 := (5, [(0, .ref 98), (1, .int 108)], [.int 2, .ref 98], (q_cX (q_uA q_AX 35 (upd w443 1 32)) (q_uI q_IX 34 3 2) q_J0, 40, 26520))) 3 (fun _ _ => rfl) ?_
      refine q_Ru_seg (g2 := (7, [(0, .ref 98), (1, .int 108)], [.int 3, .ref 98], (q_cX (q_uA q_AX 35 (upd w443 1 32)) (q_uI q_IX 34 3 2) q_J0, 40, 26520))) 2 (fun _ _ => rfl) ?_
      refine q_Ru_call (v := none) (h2 := (q_cX (q_uA q_AX 35 (upd w443 1 32)) (q_uI q_IX 34 3 2) q_J0, 40, 26520)) rfl rfl ?_ ?_
      · refine q_Ca_of (Nat.le_of_ble_eq_true rfl) ?_
        refine q_Ru_seg (g2 := (9, [(0, .ref 98), (1, .int 3)], [.int 0, .int 16], (q_cX (q_uA q_AX 35 (upd w443 1 32)) (q_uI q_IX 34 3 2) q_J0, 40, 26520))) 5 (fun _ _ => rfl) ?_
        refine q_Ru_seg (g2 := (38, [(2, .int 16), (0, .ref 98), (1, .int 3)], [], (q_cX (q_uA q_AX 35 (upd w443 1 32)) (q_uI q_IX 34 3 2) q_J0, 40, 26520))) 6 (fun _ _ => rfl) ?_
        exact q_Ru_ret rfl rfl
      show q_Ru _ _ _ (10, [(0, .ref 98), (1, .int 108)], [], (q_cX (q_uA q_AX 35 (upd w443 1 32)) (q_uI q_IX 34 3 2) q_J0, 40, 26520)) _
      refine q_Ru_seg (g2 := (11, [(0, .ref 98), (1, .int 108)], [.ref 98], (q_cX (q_uA q_AX 35 (upd w443 1 32)) (q_uI q_IX 34 3 2) q_J0, 40, 26520))) 1 (fun _ _ => rfl) ?_
      refine q_Ru_call (v := (some (.int 1))) (h2 := (q_cX (q_uA q_AX 35 (upd w443 1 32)) (q_uI q_IX 34 3 2) q_J0, 40, 26520)) rfl rfl ?_ ?_
      · refine q_Ca_of (Nat.le_of_ble_eq_true rfl) ?_
        refine q_Ru_seg (g2 := (10, [(0, .ref 98)], [.int 0], (q_cX (q_uA q_AX 35 (upd w443 1 32)) (q_uI q_IX 34 3 2) q_J0, 40, 26520))) 4 (fun _ _ => rfl) ?_
        refine q_Ru_seg (g2 := (18, [(0, .ref 98)], [.int 1], (q_cX (q_uA q_AX 35 (upd w443 1 32)) (q_uI q_IX 34 3 2) q_J0, 40, 26520))) 3 (fun _ _ => rfl) ?_
        exact q_Ru_ret rfl rfl
      show q_Ru _ _ _ (14, [(0, .ref 98), (1, .int 108)], [.int 1], (q_cX (q_uA q_AX 35 (upd w443 1 32)) (q_uI q_IX 34 3 2) q_J0, 40, 26520)) _
      refine q_Ru_seg (g2 := (18, [(0, .ref 98), (1, .int 108)], [.int 108], (q_cX (q_uA q_AX 35 (upd w443 1 32)) (q_uI q_IX 34 3 2) q_J0, 40, 26520))) 2 (fun _ _ => rfl) ?_
      refine q_Ru_call (v := (some (.int 1))) (h2 := (q_cX (q_uA q_AX 35 (upd w443 1 32)) (q_uI q_IX 34 3 2) q_J0, 40, 26520)) rfl rfl ?_ ?_
      · refine q_Ca_of (Nat.le_of_ble_eq_true rfl) ?_
        refine q_Ru_seg (g2 := (12, [(0, .int 108)], [.int 1], (q_cX (q_uA q_AX 35 (upd w443 1 32)) (q_uI q_IX 34 3 2) q_J0, 40, 26520))) 5 (fun _ _ => rfl) ?_
        exact q_Ru_ret rfl rfl
      show q_Ru _ _ _ (21, [(0, .ref 98), (1, .int 108)], [.int 1], (q_cX (q_uA q_AX 35 (upd w443 1 32)) (q_uI q_IX 34 3 2) q_J0, 40, 26520)) _
      refine q_Ru_seg (g2 := (33, [(0, .ref 98), (1, .int 108)], [.int 2, .ref 98, .ref 99], (q_cX (q_uA q_AX 35 (upd w443 1 32)) (q_uI q_IX 34 3 2) q_J0, 40, 26520))) 6 (fun _ _ => rfl) ?_
      refine q_Ru_seg (g2 := (41, [(0, .ref 98), (1, .int 108)], [.int 108, .int 2, .ref 99], (q_cX (q_uA q_AX 35 (upd w443 1 32)) (q_uI q_IX 34 3 3) q_J0, 40, 26520))) 6 (fun _ _ => rfl) ?_
      refine q_Ru_rsT (g2 := (42, [(0, .ref 98), (1, .int 108)], [], (q_cX (q_uA q_AX 35 (upd (upd w443 1 32) 2 108)) (q_uI q_IX 34 3 3) q_J0, 40, 26520))) rfl q_astB_35 rfl ?_
      generalize (upd (upd w443 1 32) 2 108) = w445
      refine q_Ru_seg (g2 := (76, [(0, .ref 98), (1, .int 108)], [.ref 98], (q_cX (q_uA q_AX 35 w445) (q_uI q_IX 34 3 3) q_J0, 40, 26520))) 2 (fun _ _ => rfl) ?_
      exact q_Ru_ret rfl rfl
    show q_Ru _ _ _ (5, [(0, .ref 98), (1, .int 108)], [.ref 98], (q_cX (q_uA q_AX 35 (upd (upd w443 1 32) 2 108)) (q_uI q_IX 34 3 3) q_J0, 40, 26520)) _
    refine q_Ru_seg (g2 := (7, [(0, .ref 98), (1, .int 108)], [.ref 98], (q_cX (q_uA q_AX 35 (upd (upd w443 1 32) 2 108)) (q_uI q_IX 34 3 3) q_J0, 40, 26520))) 2 (fun _ _ => rfl) ?_
    exact q_Ru_ret rfl rfl
  show q_Ru _ _ _ (81, [(5, .int 0), (4, .int 0), (3, .ref 12), (2, .int 0), (0, .ref 98), (1, .int 0)], [.ref 98], (q_cX (q_uA q_AX 35 (upd (upd w443 1 32) 2 108)) (q_uI q_IX 34 3 3) q_J0, 40, 26520)) _
  exact q_Ru_le (Nat.le_of_ble_eq_true rfl) (q_xc189 L xs a hl_a hu_a w443)
set_option maxHeartbeats 20000000 in
theorem q_xc191 (L : Nat) (xs : Nat → Int32) (a : Int32) (hl_a : 0 ≤ a.toInt) (hu_a : a.toInt ≤ 9) (w450 : Nat → Int32) : q_Ru (q_TBs 99 L xs) 3 197 (17, [(0, .ref 98), (1, .int 0), (2, .int 0)], [.ref 98], (q_cX (q_uA q_AX 35 (upd w450 6 35)) (q_uI q_IX 34 3 7) q_J0, 40, 26520)) (.inl none, (q_cX (q_uA q_AX 35 (upd (upd w450 6 35) 7 48)) (q_uI q_IX 34 3 8) q_J0, 40, 26520)) := by
  refine q_Ru_seg (g2 := (36, [(0, .ref 98), (1, .int 0), (2, .int 0)], [.int 0, .ref 98], (q_cX (q_uA q_AX 35 (upd w450 6 35)) (q_uI q_IX 34 3 7) q_J0, 40, 26520))) 4 (fun _ _ => rfl) ?_
  refine q_Ru_call (v := (some (.ref 98))) (h2 := (q_cX (q_uA q_AX 35 (upd (upd w450 6 35) 7 48)) (q_uI q_IX 34 3 8) q_J0, 40, 26520)) rfl rfl ?_ ?_
  · refine q_Ca_of (Nat.le_of_ble_eq_true rfl) ?_
    refine q_Ru_seg (g2 := (2, [(0, .ref 98), (1, .int 0)], [.int 0, .ref 98], (q_cX (q_uA q_AX 35 (upd w450 6 35)) (q_uI q_IX 34 3 7) q_J0, 40, 26520))) 2 (fun _ _ => rfl) ?_
    refine q_Ru_call (v := (some (.ref 98))) (h2 := (q_cX (q_uA q_AX 35 (upd (upd w450 6 35) 7 48)) (q_uI q_IX 34 3 8) q_J0, 40, 26520)) rfl rfl ?_ ?_
    · refine q_Ca_of (Nat.le_of_ble_eq_true rfl) ?_
      refine q_Ru_seg (g2 := (4, [(0, .ref 98), (1, .int 0)], [.int 7], (q_cX (q_uA q_AX 35 (upd w450 6 35)) (q_uI q_IX 34 3 7) q_J0, 40, 26520))) 2 (fun _ _ => rfl) ?_
      refine q_Ru_seg (g2 := (7, [(2, .int 7), (0, .ref 98), (1, .int 0)], [.int 0, .int 7], (q_cX (q_uA q_AX 35 (upd w450 6 35)) (q_uI q_IX 34 3 7) q_J0, 40, 26520))) 3 (fun _ _ => rfl) ?_
      refine q_Ru_call (v := (some (.int 1))) (h2 := (q_cX (q_uA q_AX 35 (upd w450 6 35)) (q_uI q_IX 34 3 7) q_J0, 40, 26520)) rfl rfl ?_ ?_
      · refine q_Ca_of (Nat.le_of_ble_eq_true rfl) ?_
        refine q_Ru_seg (g2 := (30, [(3, .int 1), (2, .int (-10)), (0, .int 0), (1, .int 0)], [.int 1], (q_cX (q_uA q_AX 35 (upd w450 6 35)) (q_uI q_IX 34 3 7) q_J0, 40, 26520))) 22 (fun _ _ => rfl) ?_
        exact q_Ru_ret rfl rfl
      show q_Ru _ _ _ (10, [(2, .int 7), (0, .ref 98), (1, .int 0)], [.int 1, .int 7], (q_cX (q_uA q_AX 35 (upd w450 6 35)) (q_uI q_IX 34 3 7) q_J0, 40, 26520)) _
      refine q_Ru_seg (g2 := (14, [(3, .int 8), (2, .int 7), (0, .ref 98), (1, .int 0)], [.int 8, .ref 98], (q_cX (q_uA q_AX 35 (upd w450 6 35)) (q_uI q_IX 34 3 7) q_J0, 40, 26520))) 4 (fun _ _ => rfl) ?_
      refine q_Ru_call (v := none) (h2 := (q_cX (q_uA q_AX 35 (upd w450 6 35)) (q_uI q_IX 34 3 7) q_J0, 40, 26520)) rfl rfl ?_ ?_
      · refine q_Ca_of (Nat.le_of_ble_eq_true rfl) ?_
        refine q_Ru_seg (g2 := (9, [(0, .ref 98), (1, .int 8)], [.int 0, .int 16], (q_cX (q_uA q_AX 35 (upd w450 6 35)) (q_uI q_IX 34 3 7) q_J0, 40, 26520))) 5 (fun _ _ => rfl) ?_
        refine q_Ru_seg (g2 := (38, [(2, .int 16), (0, .ref 98), (1, .int 8)], [], (q_cX (q_uA q_AX 35 (upd w450 6 35)) (q_uI q_IX 34 3 7) q_J0, 40, 26520))) 6 (fun _ _ => rfl) ?_
        exact q_Ru_ret rfl rfl
      show q_Ru _ _ _ (17, [(3, .int 8), (2, .int 7), (0, .ref 98), (1, .int 0)], [], (q_cX (q_uA q_AX 35 (upd w450 6 35)) (q_uI q_IX 34 3 7) q_J0, 40, 26520)) _
      refine q_Ru_seg (g2 := (18, [(3, .int 8), (2, .int 7), (0, .ref 98), (1, .int 0)], [.ref 98], (q_cX (q_uA q_AX 35 (upd w450 6 35)) (q_uI q_IX 34 3 7) q_J0, 40, 26520))) 1 (fun _ _ => rfl) ?_
      refine q_Ru_call (v := (some (.int 1))) (h2 := (q_cX (q_uA q_AX 35 (upd w450 6 35)) (q_uI q_IX 34 3 7) q_J0, 40, 26520)) rfl rfl ?_ ?_
      · refine q_Ca_of (Nat.le_of_ble_eq_true rfl) ?_
        refine q_Ru_seg (g2 := (10, [(0, .ref 98)], [.int 0], (q_cX (q_uA q_AX 35 (upd w450 6 35)) (q_uI q_IX 34 3 7) q_J0, 40, 26520))) 4 (fun _ _ => rfl) ?_
        refine q_Ru_seg (g2 := (18, [(0, .ref 98)], [.int 1], (q_cX (q_uA q_AX 35 (upd w450 6 35)) (q_uI q_IX 34 3 7) q_J0, 40, 26520))) 3 (fun _ _ => rfl) ?_
        exact q_Ru_ret rfl rfl
      show q_Ru _ _ _ (21, [(3, .int 8), (2, .int 7), (0, .ref 98), (1, .int 0)], [.int 1], (q_cX (q_uA q_AX 35 (upd w450 6 35)) (q_uI q_IX 34 3 7) q_J0, 40, 26520)) _
      refine q_Ru_seg (g2 := (30, [(3, .int 8), (2, .int 7), (0, .ref 98), (1, .int 0)], [.ref 99, .int 8, .int 0], (q_cX (q_uA q_AX 35 (upd w450 6 35)) (q_uI q_IX 34 3 7) q_J0, 40, 26520))) 5 (fun _ _ => rfl) ?_
      refine q_Ru_call (v := (some (.int 7))) (h2 := (q_cX (q_uA q_AX 35 (upd (upd w450 6 35) 7 48)) (q_uI q_IX 34 3 7) q_J0, 40, 26520)) rfl rfl ?_ ?_
      · refine q_Ca_of (Nat.le_of_ble_eq_true rfl) ?_
        refine q_Ru_seg (g2 := (84, [(5, .int 7), (0, .int 0), (6, .int 0), (1, .int 8), (2, .ref 99)], [.int 48, .int 7, .ref 99], (q_cX (q_uA q_AX 35 (upd w450 6 35)) (q_uI q_IX 34 3 7) q_J0, 40, 26520))) 21 (fun _ _ => rfl) ?_
        refine q_Ru_rsT (g2 := (85, [(5, .int 7), (0, .int 0), (6, .int 0), (1, .int 8), (2, .ref 99)], [], (q_cX (q_uA q_AX 35 (upd (upd w450 6 35) 7 48)) (q_uI q_IX 34 3 7) q_J0, 40, 26520))) rfl q_astB_35 rfl ?_
        generalize (upd (upd w450 6 35) 7 48) = w452
        refine q_Ru_seg (g2 := (120, [(5, .int 7), (0, .int 0), (6, .int 0), (1, .int 8), (2, .ref 99)], [.int 7], (q_cX (q_uA q_AX 35 w452) (q_uI q_IX 34 3 7) q_J0, 40, 26520))) 6 (fun _ _ => rfl) ?_
        exact q_Ru_ret rfl rfl
      show q_Ru _ _ _ (33, [(3, .int 8), (2, .int 7), (0, .ref 98), (1, .int 0)], [.int 7], (q_cX (q_uA q_AX 35 (upd (upd w450 6 35) 7 48)) (q_uI q_IX 34 3 7) q_J0, 40, 26520)) _
      refine q_Ru_seg (g2 := (54, [(3, .int 8), (2, .int 7), (0, .ref 98), (1, .int 0)], [.ref 98], (q_cX (q_uA q_AX 35 (upd (upd w450 6 35) 7 48)) (q_uI q_IX 34 3 8) q_J0, 40, 26520))) 6 (fun _ _ => rfl) ?_
      exact q_Ru_ret rfl rfl
    show q_Ru _ _ _ (5, [(0, .ref 98), (1, .int 0)], [.ref 98], (q_cX (q_uA q_AX 35 (upd (upd w450 6 35) 7 48)) (q_uI q_IX 34 3 8) q_J0, 40, 26520)) _
    refine q_Ru_seg (g2 := (7, [(0, .ref 98), (1, .int 0)], [.ref 98], (q_cX (q_uA q_AX 35 (upd (upd w450 6 35) 7 48)) (q_uI q_IX 34 3 8) q_J0, 40, 26520))) 2 (fun _ _ => rfl) ?_
    exact q_Ru_ret rfl rfl
  show q_Ru _ _ _ (39, [(0, .ref 98), (1, .int 0), (2, .int 0)], [.ref 98], (q_cX (q_uA q_AX 35 (upd (upd w450 6 35) 7 48)) (q_uI q_IX 34 3 8) q_J0, 40, 26520)) _
  refine q_Ru_seg (g2 := (134, [(0, .ref 98), (1, .int 0), (2, .int 0)], [], (q_cX (q_uA q_AX 35 (upd (upd w450 6 35) 7 48)) (q_uI q_IX 34 3 8) q_J0, 40, 26520))) 3 (fun _ _ => rfl) ?_
  exact q_Ru_ret rfl rfl
set_option maxHeartbeats 20000000 in
theorem q_xc192 (L : Nat) (xs : Nat → Int32) (a : Int32) (hl_a : 0 ≤ a.toInt) (hu_a : a.toInt ≤ 9) (w443 : Nat → Int32) : q_Ru (q_TBs 99 L xs) 5 195 (106, [(6, .int 0), (5, .int 0), (4, .int 2), (3, .int 0), (0, .ref 98), (1, .ref 66), (2, .int a)], [.int 0, .ref 98], (q_cX (q_uA q_AX 35 (upd (upd (upd (upd w443 1 32) 2 108) 3 100) 4 97)) (q_uI q_IX 34 3 5) q_J0, 40, 26520)) (.inl none, (q_cX (q_uA q_AX 35 (upd (upd (upd (upd (upd (upd (upd w443 1 32) 2 108) 3 100) 4 97) 5 32) 6 35) 7 48)) (q_uI q_IX 34 3 8) q_J0, 40, 26520)) := by
  refine q_Ru_seg (g2 := (108, [(6, .int 0), (5, .int 0), (4, .int 2), (3, .int 0), (0, .ref 98), (1, .ref 66), (2, .int a)], [.int 0, .int 0, .ref 98], (q_cX (q_uA q_AX 35 (upd (upd (upd (upd w443 1 32) 2 108) 3 100) 4 97)) (q_uI q_IX 34 3 5) q_J0, 40, 26520))) 1 (fun _ _ => rfl) ?_
  refine q_Ru_call (v := none) (h2 := (q_cX (q_uA q_AX 35 (upd (upd (upd (upd (upd (upd (upd w443 1 32) 2 108) 3 100) 4 97) 5 32) 6 35) 7 48)) (q_uI q_IX 34 3 8) q_J0, 40, 26520)) rfl rfl ?_ ?_
  · refine q_Ca_of (Nat.le_of_ble_eq_true rfl) ?_
    refine q_Ru_seg (g2 := (3, [(0, .ref 98), (1, .int 0), (2, .int 0)], [.int 32, .ref 98], (q_cX (q_uA q_AX 35 (upd (upd (upd (upd w443 1 32) 2 108) 3 100) 4 97)) (q_uI q_IX 34 3 5) q_J0, 40, 26520))) 2 (fun _ _ => rfl) ?_
    refine q_Ru_call (v := (some (.ref 98))) (h2 := (q_cX (q_uA q_AX 35 (upd (upd (upd (upd (upd w443 1 32) 2 108) 3 100) 4 97) 5 32)) (q_uI q_IX 34 3 6) q_J0, 40, 26520)) rfl rfl ?_ ?_
    · refine q_Ca_of (Nat.le_of_ble_eq_true rfl) ?_
      refine q_Ru_seg (g2 := (2, [(0, .ref 98), (1, .int 32)], [.int 32, .ref 98], (q_cX (q_uA q_AX 35 (upd (upd (upd (upd w443 1 32) 2 108) 3 100) 4 97)) (q_uI q_IX 34 3 5) q_J0, 40, 26520))) 2 (fun _ _ => rfl) ?_
      refine q_Ru_call (v := (some (.ref 98))) (h2 := (q_cX (q_uA q_AX 35 (upd (upd (upd (upd (upd w443 1 32) 2 108) 3 100) 4 97) 5 32)) (q_uI q_IX 34 3 6) q_J0, 40, 26520)) rfl rfl ?_ ?_
      · refine q_Ca_of (Nat.le_of_ble_eq_true rfl) ?_
        refine q_Ru_seg (g2 := (5, [(0, .ref 98), (1, .int 32)], [.int 5, .ref 98], (q_cX (q_uA q_AX 35 (upd (upd (upd (upd w443 1 32) 2 108) 3 100) 4 97)) (q_uI q_IX 34 3 5) q_J0, 40, 26520))) 3 (fun _ _ => rfl) ?_
        refine q_Ru_seg (g2 := (7, [(0, .ref 98), (1, .int 32)], [.int 6, .ref 98], (q_cX (q_uA q_AX 35 (upd (upd (upd (upd w443 1 32) 2 108) 3 100) 4 97)) (q_uI q_IX 34 3 5) q_J0, 40, 26520))) 2 (fun _ _ => rfl) ?_
        refine q_Ru_call (v := none) (h2 := (q_cX (q_uA q_AX 35 (upd (upd (upd (upd w443 1 32) 2 108) 3 100) 4 97)) (q_uI q_IX 34 3 5) q_J0, 40, 26520)) rfl rfl ?_ ?_
        · refine q_Ca_of (Nat.le_of_ble_eq_true rfl) ?_
          refine q_Ru_seg (g2 := (9, [(0, .ref 98), (1, .int 6)], [.int 0, .int 16], (q_cX (q_uA q_AX 35 (upd (upd (upd (upd w443 1 32) 2 108) 3 100) 4 97)) (q_uI q_IX 34 3 5) q_J0, 40, 26520))) 5 (fun _ _ => rfl) ?_
          refine q_Ru_seg (g2 := (38, [(2, .int 16), (0, .ref 98), (1, .int 6)], [], (q_cX (q_uA q_AX 35 (upd (upd (upd (upd w443 1 32) 2 108) 3 100) 4 97)) (q_uI q_IX 34 3 5) q_J0, 40, 26520))) 6 (fun _ _ => rfl) ?_
          exact q_Ru_ret rfl rfl
        show q_Ru _ _ _ (10, [(0, .ref 98), (1, .int 32)], [], (q_cX (q_uA q_AX 35 (upd (upd (upd (upd w443 1 32) 2 108) 3 100) 4 97)) (q_uI q_IX 34 3 5) q_J0, 40, 26520)) _
        refine q_Ru_seg (g2 := (11, [(0, .ref 98), (1, .int 32)], [.ref 98], (q_cX (q_uA q_AX 35 (upd (upd (upd (upd w443 1 32) 2 108) 3 100) 4 97)) (q_uI q_IX 34 3 5) q_J0, 40, 26520))) 1 (fun _ _ => rfl) ?_
        refine q_Ru_call (v := (some (.int 1))) (h2 := (q_cX (q_uA q_AX 35 (upd (upd (upd (upd w443 1 32) 2 108) 3 100) 4 97)) (q_uI q_IX 34 3 5) q_J0, 40, 26520)) rfl rfl ?_ ?_
        · refine q_Ca_of (Nat.le_of_ble_eq_true rfl) ?_
          refine q_Ru_seg (g2 := (10, [(0, .ref 98)], [.int 0], (q_cX (q_uA q_AX 35 (upd (upd (upd (upd w443 1 32) 2 108) 3 100) 4 97)) (q_uI q_IX 34 3 5) q_J0, 40, 26520))) 4 (fun _ _ => rfl) ?_
          refine q_Ru_seg (g2 := (18, [(0, .ref 98)], [.int 1], (q_cX (q_uA q_AX 35 (upd (upd (upd (upd w443 1 32) 2 108) 3 100) 4 97)) (q_uI q_IX 34 3 5) q_J0, 40, 26520))) 3 (fun _ _ => rfl) ?_
          exact q_Ru_ret rfl rfl
        show q_Ru _ _ _ (14, [(0, .ref 98), (1, .int 32)], [.int 1], (q_cX (q_uA q_AX 35 (upd (upd (upd (upd w443 1 32) 2 108) 3 100) 4 97)) (q_uI q_IX 34 3 5) q_J0, 40, 26520)) _
        refine q_Ru_seg (g2 := (18, [(0, .ref 98), (1, .int 32)], [.int 32], (q_cX (q_uA q_AX 35 (upd (upd (upd (upd w443 1 32) 2 108) 3 100) 4 97)) (q_uI q_IX 34 3 5) q_J0, 40, 26520))) 2 (fun _ _ => rfl) ?_
        refine q_Ru_call (v := (some (.int 1))) (h2 := (q_cX (q_uA q_AX 35 (upd (upd (upd (upd w443 1 32) 2 108) 3 100) 4 97)) (q_uI q_IX 34 3 5) q_J0, 40, 26520)) rfl rfl ?_ ?_
        · refine q_Ca_of (Nat.le_of_ble_eq_true rfl) ?_
          refine q_Ru_seg (g2 := (12, [(0, .int 32)], [.int 1], (q_cX (q_uA q_AX 35 (upd (upd (upd (upd w443 1 32) 2 108) 3 100) 4 97)) (q_uI q_IX 34 3 5) q_J0, 40, 26520))) 5 (fun _ _ => rfl) ?_
          exact q_Ru_ret rfl rfl
        show q_Ru _ _ _ (21, [(0, .ref 98), (1, .int 32)], [.int 1], (q_cX (q_uA q_AX 35 (upd (upd (upd (upd w443 1 32) 2 108) 3 100) 4 97)) (q_uI q_IX 34 3 5) q_J0, 40, 26520)) _
        refine q_Ru_seg (g2 := (33, [(0, .ref 98), (1, .int 32)], [.int 5, .ref 98, .ref 99], (q_cX (q_uA q_AX 35 (upd (upd (upd (upd w443 1 32) 2 108) 3 100) 4 97)) (q_uI q_IX 34 3 5) q_J0, 40, 26520))) 6 (fun _ _ => rfl) ?_
        refine q_Ru_seg (g2 := (41, [(0, .ref 98), (1, .int 32)], [.int 32, .int 5, .ref 99], (q_cX (q_uA q_AX 35 (upd (upd (upd (upd w443 1 32) 2 108) 3 100) 4 97)) (q_uI q_IX 34 3 6) q_J0, 40, 26520))) 6 (fun _ _ => rfl) ?_
        refine q_Ru_rsT (g2 := (42, [(0, .ref 98), (1, .int 32)], [], (q_cX (q_uA q_AX 35 (upd (upd (upd (upd (upd w443 1 32) 2 108) 3 100) 4 97) 5 32)) (q_uI q_IX 34 3 6) q_J0, 40, 26520))) rfl q_astB_35 rfl ?_
        generalize (upd (upd (upd (upd (upd w443 1 32) 2 108) 3 100) 4 97) 5 32) = w448
        refine q_Ru_seg (g2 := (76, [(0, .ref 98), (1, .int 32)], [.ref 98], (q_cX (q_uA q_AX 35 w448) (q_uI q_IX 34 3 6) q_J0, 40, 26520))) 2 (fun _ _ => rfl) ?_
        exact q_Ru_ret rfl rfl
      show q_Ru _ _ _ (5, [(0, .ref 98), (1, .int 32)], [.ref 98], (q_cX (q_uA q_AX 35 (upd (upd (upd (upd (upd w443 1 32) 2 108) 3 100) 4 97) 5 32)) (q_uI q_IX 34 3 6) q_J0, 40, 26520)) _
      generalize (upd (upd (upd (upd (upd w443 1 32) 2 108) 3 100) 4 97) 5 32) = w449
      refine q_Ru_seg (g2 := (7, [(0, .ref 98), (1, .int 32)], [.ref 98], (q_cX (q_uA q_AX 35 w449) (q_uI q_IX 34 3 6) q_J0, 40, 26520))) 2 (fun _ _ => rfl) ?_
      exact q_Ru_ret rfl rfl
    show q_Ru _ _ _ (6, [(0, .ref 98), (1, .int 0), (2, .int 0)], [.ref 98], (q_cX (q_uA q_AX 35 (upd (upd (upd (upd (upd w443 1 32) 2 108) 3 100) 4 97) 5 32)) (q_uI q_IX 34 3 6) q_J0, 40, 26520)) _
    generalize (upd (upd (upd (upd (upd w443 1 32) 2 108) 3 100) 4 97) 5 32) = w450
    refine q_Ru_seg (g2 := (14, [(0, .ref 98), (1, .int 0), (2, .int 0)], [.int 35, .ref 98], (q_cX (q_uA q_AX 35 w450) (q_uI q_IX 34 3 6) q_J0, 40, 26520))) 5 (fun _ _ => rfl) ?_
    refine q_Ru_call (v := (some (.ref 98))) (h2 := (q_cX (q_uA q_AX 35 (upd w450 6 35)) (q_uI q_IX 34 3 7) q_J0, 40, 26520)) rfl rfl ?_ ?_
    · refine q_Ca_of (Nat.le_of_ble_eq_true rfl) ?_
      refine q_Ru_seg (g2 := (2, [(0, .ref 98), (1, .int 35)], [.int 35, .ref 98], (q_cX (q_uA q_AX 35 w450) (q_uI q_IX 34 3 6) q_J0, 40, 26520))) 2 (fun _ _ => rfl) ?_
      refine q_Ru_call (v := (some (.ref 98))) (h2 := (q_cX (q_uA q_AX 35 (upd w450 6 35)) (q_uI q_IX 34 3 7) q_J0, 40, 26520)) rfl rfl ?_ ?_
      · refine q_Ca_of (Nat.le_of_ble_eq_true rfl) ?_
        refine q_Ru_seg (g2 := (5, [(0, .ref 98), (1, .int 35)], [.int 6, .ref 98], (q_cX (q_uA q_AX 35 w450) (q_uI q_IX 34 3 6) q_J0, 40, 26520))) 3 (fun _ _ => rfl) ?_
        refine q_Ru_seg (g2 := (7, [(0, .ref 98), (1, .int 35)], [.int 7, .ref 98], (q_cX (q_uA q_AX 35 w450) (q_uI q_IX 34 3 6) q_J0, 40, 26520))) 2 (fun _ _ => rfl) ?_
        refine q_Ru_call (v := none) (h2 := (q_cX (q_uA q_AX 35 w450) (q_uI q_IX 34 3 6) q_J0, 40, 26520)) rfl rfl ?_ ?_
        · refine q_Ca_of (Nat.le_of_ble_eq_true rfl) ?_
          refine q_Ru_seg (g2 := (9, [(0, .ref 98), (1, .int 7)], [.int 0, .int 16], (q_cX (q_uA q_AX 35 w450) (q_uI q_IX 34 3 6) q_J0, 40, 26520))) 5 (fun _ _ => rfl) ?_
          refine q_Ru_seg (g2 := (38, [(2, .int 16), (0, .ref 98), (1, .int 7)], [], (q_cX (q_uA q_AX 35 w450) (q_uI q_IX 34 3 6) q_J0, 40, 26520))) 6 (fun _ _ => rfl) ?_
          exact q_Ru_ret rfl rfl
        show q_Ru _ _ _ (10, [(0, .ref 98), (1, .int 35)], [], (q_cX (q_uA q_AX 35 w450) (q_uI q_IX 34 3 6) q_J0, 40, 26520)) _
        refine q_Ru_seg (g2 := (11, [(0, .ref 98), (1, .int 35)], [.ref 98], (q_cX (q_uA q_AX 35 w450) (q_uI q_IX 34 3 6) q_J0, 40, 26520))) 1 (fun _ _ => rfl) ?_
        refine q_Ru_call (v := (some (.int 1))) (h2 := (q_cX (q_uA q_AX 35 w450) (q_uI q_IX 34 3 6) q_J0, 40, 26520)) rfl rfl ?_ ?_
        · refine q_Ca_of (Nat.le_of_ble_eq_true rfl) ?_
          refine q_Ru_seg (g2 := (10, [(0, .ref 98)], [.int 0], (q_cX (q_uA q_AX 35 w450) (q_uI q_IX 34 3 6) q_J0, 40, 26520))) 4 (fun _ _ => rfl) ?_
          refine q_Ru_seg (g2 := (18, [(0, .ref 98)], [.int 1], (q_cX (q_uA q_AX 35 w450) (q_uI q_IX 34 3 6) q_J0, 40, 26520))) 3 (fun _ _ => rfl) ?_
          exact q_Ru_ret rfl rfl
        show q_Ru _ _ _ (14, [(0, .ref 98), (1, .int 35)], [.int 1], (q_cX (q_uA q_AX 35 w450) (q_uI q_IX 34 3 6) q_J0, 40, 26520)) _
        refine q_Ru_seg (g2 := (18, [(0, .ref 98), (1, .int 35)], [.int 35], (q_cX (q_uA q_AX 35 w450) (q_uI q_IX 34 3 6) q_J0, 40, 26520))) 2 (fun _ _ => rfl) ?_
        refine q_Ru_call (v := (some (.int 1))) (h2 := (q_cX (q_uA q_AX 35 w450) (q_uI q_IX 34 3 6) q_J0, 40, 26520)) rfl rfl ?_ ?_
        · refine q_Ca_of (Nat.le_of_ble_eq_true rfl) ?_
          refine q_Ru_seg (g2 := (12, [(0, .int 35)], [.int 1], (q_cX (q_uA q_AX 35 w450) (q_uI q_IX 34 3 6) q_J0, 40, 26520))) 5 (fun _ _ => rfl) ?_
          exact q_Ru_ret rfl rfl
        show q_Ru _ _ _ (21, [(0, .ref 98), (1, .int 35)], [.int 1], (q_cX (q_uA q_AX 35 w450) (q_uI q_IX 34 3 6) q_J0, 40, 26520)) _
        refine q_Ru_seg (g2 := (33, [(0, .ref 98), (1, .int 35)], [.int 6, .ref 98, .ref 99], (q_cX (q_uA q_AX 35 w450) (q_uI q_IX 34 3 6) q_J0, 40, 26520))) 6 (fun _ _ => rfl) ?_
        refine q_Ru_seg (g2 := (41, [(0, .ref 98), (1, .int 35)], [.int 35, .int 6, .ref 99], (q_cX (q_uA q_AX 35 w450) (q_uI q_IX 34 3 7) q_J0, 40, 26520))) 6 (fun _ _ => rfl) ?_
        refine q_Ru_rsT (g2 := (42, [(0, .ref 98), (1, .int 35)], [], (q_cX (q_uA q_AX 35 (upd w450 6 35)) (q_uI q_IX 34 3 7) q_J0, 40, 26520))) rfl q_astB_35 rfl ?_
        generalize (upd w450 6 35) = w451
        refine q_Ru_seg (g2 := (76, [(0, .ref 98), (1, .int 35)], [.ref 98], (q_cX (q_uA q_AX 35 w451) (q_uI q_IX 34 3 7) q_J0, 40, 26520))) 2 (fun _ _ => rfl) ?_
        exact q_Ru_ret rfl rfl
      show q_Ru _ _ _ (5, [(0, .ref 98), (1, .int 35)], [.ref 98], (q_cX (q_uA q_AX 35 (upd w450 6 35)) (q_uI q_IX 34 3 7) q_J0, 40, 26520)) _
      refine q_Ru_seg (g2 := (7, [(0, .ref 98), (1, .int 35)], [.ref 98], (q_cX (q_uA q_AX 35 (upd w450 6 35)) (q_uI q_IX 34 3 7) q_J0, 40, 26520))) 2 (fun _ _ => rfl) ?_
      exact q_Ru_ret rfl rfl
    show q_Ru _ _ _ (17, [(0, .ref 98), (1, .int 0), (2, .int 0)], [.ref 98], (q_cX (q_uA q_AX 35 (upd w450 6 35)) (q_uI q_IX 34 3 7) q_J0, 40, 26520)) _
    exact q_Ru_le (Nat.le_of_ble_eq_true rfl) (q_xc191 L xs a hl_a hu_a w450)
  show q_Ru _ _ _ (111, [(6, .int 0), (5, .int 0), (4, .int 2), (3, .int 0), (0, .ref 98), (1, .ref 66), (2, .int a)], [], (q_cX (q_uA q_AX 35 (upd (upd (upd (upd (upd (upd (upd w443 1 32) 2 108) 3 100) 4 97) 5 32) 6 35) 7 48)) (q_uI q_IX 34 3 8) q_J0, 40, 26520)) _
  generalize (upd (upd (upd (upd (upd (upd (upd w443 1 32) 2 108) 3 100) 4 97) 5 32) 6 35) 7 48) = w453
  exact q_Ru_ret rfl rfl
set_option maxHeartbeats 20000000 in
theorem q_xc193 (L : Nat) (xs : Nat → Int32) (a : Int32) (hl_a : 0 ≤ a.toInt) (hu_a : a.toInt ≤ 9) (w443 : Nat → Int32) : q_Ru (q_TBs 99 L xs) 5 195 (42, [(5, .int 0), (4, .int 2), (3, .int 0), (0, .ref 98), (1, .ref 66), (2, .int a)], [.ref 98], (q_cX (q_uA q_AX 35 (upd w443 1 32)) (q_uI q_IX 34 3 2) q_J0, 40, 26520)) (.inl none, (q_cX (q_uA q_AX 35 (upd (upd (upd (upd (upd (upd (upd w443 1 32) 2 108) 3 100) 4 97) 5 32) 6 35) 7 48)) (q_uI q_IX 34 3 8) q_J0, 40, 26520)) := by
  refine q_Ru_seg (g2 := (45, [(5, .int 0), (4, .int 2), (3, .int 0), (0, .ref 98), (1, .ref 66), (2, .int a)], [.int 0, .ref 98], (q_cX (q_uA q_AX 35 (upd w443 1 32)) (q_uI q_IX 34 3 2) q_J0, 40, 26520))) 3 (fun _ _ => rfl) ?_
  refine q_Ru_call (v := none) (h2 := (q_cX (q_uA q_AX 35 (upd (upd (upd (upd w443 1 32) 2 108) 3 100) 4 97)) (q_uI q_IX 34 3 5) q_J0, 40, 26520)) rfl rfl ?_ ?_
  · refine q_Ca_of (Nat.le_of_ble_eq_true rfl) ?_
    refine q_Ru_seg (g2 := (1, [(0, .ref 98), (1, .int 0)], [.int 0], (q_cX (q_uA q_AX 35 (upd w443 1 32)) (q_uI q_IX 34 3 2) q_J0, 40, 26520))) 1 (fun _ _ => rfl) ?_
    refine q_Ru_call (v := (some (.int 0))) (h2 := (q_cX (q_uA q_AX 35 (upd w443 1 32)) (q_uI q_IX 34 3 2) q_J0, 40, 26520)) rfl rfl ?_ ?_
    · refine q_Ca_of (Nat.le_of_ble_eq_true rfl) ?_
      refine q_Ru_seg (g2 := (11, [(0, .int 0)], [.int 0], (q_cX (q_uA q_AX 35 (upd w443 1 32)) (q_uI q_IX 34 3 2) q_J0, 40, 26520))) 6 (fun _ _ => rfl) ?_
      exact q_Ru_ret rfl rfl
    show q_Ru _ _ _ (4, [(0, .ref 98), (1, .int 0)], [.int 0], (q_cX (q_uA q_AX 35 (upd w443 1 32)) (q_uI q_IX 34 3 2) q_J0, 40, 26520)) _
    refine q_Ru_seg (g2 := (44, [(4, .int 0), (3, .ref 12), (2, .int 0), (0, .ref 98), (1, .int 0)], [.ref 12, .int 2], (q_cX (q_uA q_AX 35 (upd w443 1 32)) (q_uI q_IX 34 3 2) q_J0, 40, 26520))) 19 (fun _ _ => rfl) ?_
    refine q_Ru_call (v := (some (.int 63))) (h2 := (q_cX (q_uA q_AX 35 (upd w443 1 32)) (q_uI q_IX 34 3 2) q_J0, 40, 26520)) rfl rfl ?_ ?_
    · refine q_Ca_of (Nat.le_of_ble_eq_true rfl) ?_
      refine q_Ru_seg (g2 := (6, [(0, .ref 12)], [.ref 12, .int 63], (q_cX (q_uA q_AX 35 (upd w443 1 32)) (q_uI q_IX 34 3 2) q_J0, 40, 26520))) 4 (fun _ _ => rfl) ?_
      refine q_Ru_call (v := (some (.int 0))) (h2 := (q_cX (q_uA q_AX 35 (upd w443 1 32)) (q_uI q_IX 34 3 2) q_J0, 40, 26520)) rfl rfl ?_ ?_
      · refine q_Ca_of (Nat.le_of_ble_eq_true rfl) ?_
        refine q_Ru_seg (g2 := (14, [(0, .ref 12)], [.int 0], (q_cX (q_uA q_AX 35 (upd w443 1 32)) (q_uI q_IX 34 3 2) q_J0, 40, 26520))) 5 (fun _ _ => rfl) ?_
        exact q_Ru_ret rfl rfl
      show q_Ru _ _ _ (9, [(0, .ref 12)], [.int 0, .int 63], (q_cX (q_uA q_AX 35 (upd w443 1 32)) (q_uI q_IX 34 3 2) q_J0, 40, 26520)) _
      refine q_Ru_seg (g2 := (10, [(0, .ref 12)], [.int 63], (q_cX (q_uA q_AX 35 (upd w443 1 32)) (q_uI q_IX 34 3 2) q_J0, 40, 26520))) 1 (fun _ _ => rfl) ?_
      exact q_Ru_ret rfl rfl
    show q_Ru _ _ _ (47, [(4, .int 0), (3, .ref 12), (2, .int 0), (0, .ref 98), (1, .int 0)], [.int 63, .int 2], (q_cX (q_uA q_AX 35 (upd w443 1 32)) (q_uI q_IX 34 3 2) q_J0, 40, 26520)) _
    exact q_Ru_le (Nat.le_of_ble_eq_true rfl) (q_xc190 L xs a hl_a hu_a w443)
  show q_Ru _ _ _ (48, [(5, .int 0), (4, .int 2), (3, .int 0), (0, .ref 98), (1, .ref 66), (2, .int a)], [], (q_cX (q_uA q_AX 35 (upd (upd (upd (upd w443 1 32) 2 108) 3 100) 4 97)) (q_uI q_IX 34 3 5) q_J0, 40, 26520)) _
  refine q_Ru_seg (g2 := (56, [(5, .int 0), (4, .int 2), (3, .int 0), (0, .ref 98), (1, .ref 66), (2, .int a)], [.int 0], (q_cX (q_uA q_AX 35 (upd (upd (upd (upd w443 1 32) 2 108) 3 100) 4 97)) (q_uI q_IX 34 3 5) q_J0, 40, 26520))) 4 (fun _ _ => rfl) ?_
  refine q_Ru_call (v := (some (.int 0))) (h2 := (q_cX (q_uA q_AX 35 (upd (upd (upd (upd w443 1 32) 2 108) 3 100) 4 97)) (q_uI q_IX 34 3 5) q_J0, 40, 26520)) rfl rfl ?_ ?_
  · refine q_Ca_of (Nat.le_of_ble_eq_true rfl) ?_
    refine q_Ru_seg (g2 := (19, [(0, .int 0)], [.int 0], (q_cX (q_uA q_AX 35 (upd (upd (upd (upd w443 1 32) 2 108) 3 100) 4 97)) (q_uI q_IX 34 3 5) q_J0, 40, 26520))) 4 (fun _ _ => rfl) ?_
    exact q_Ru_ret rfl rfl
  show q_Ru _ _ _ (59, [(5, .int 0), (4, .int 2), (3, .int 0), (0, .ref 98), (1, .ref 66), (2, .int a)], [.int 0], (q_cX (q_uA q_AX 35 (upd (upd (upd (upd w443 1 32) 2 108) 3 100) 4 97)) (q_uI q_IX 34 3 5) q_J0, 40, 26520)) _
  refine q_Ru_seg (g2 := (103, [(6, .int 0), (5, .int 0), (4, .int 2), (3, .int 0), (0, .ref 98), (1, .ref 66), (2, .int a)], [.int 0, .ref 98], (q_cX (q_uA q_AX 35 (upd (upd (upd (upd w443 1 32) 2 108) 3 100) 4 97)) (q_uI q_IX 34 3 5) q_J0, 40, 26520))) 9 (fun _ _ => rfl) ?_
  refine q_Ru_call (v := (some (.int 0))) (h2 := (q_cX (q_uA q_AX 35 (upd (upd (upd (upd w443 1 32) 2 108) 3 100) 4 97)) (q_uI q_IX 34 3 5) q_J0, 40, 26520)) rfl rfl ?_ ?_
  · refine q_Ca_of (Nat.le_of_ble_eq_true rfl) ?_
    refine q_Ru_seg (g2 := (1, [(0, .int 0)], [.int 0], (q_cX (q_uA q_AX 35 (upd (upd (upd (upd w443 1 32) 2 108) 3 100) 4 97)) (q_uI q_IX 34 3 5) q_J0, 40, 26520))) 1 (fun _ _ => rfl) ?_
    refine q_Ru_call (v := (some (.int 0))) (h2 := (q_cX (q_uA q_AX 35 (upd (upd (upd (upd w443 1 32) 2 108) 3 100) 4 97)) (q_uI q_IX 34 3 5) q_J0, 40, 26520)) rfl rfl ?_ ?_
    · refine q_Ca_of (Nat.le_of_ble_eq_true rfl) ?_
      refine q_Ru_seg (g2 := (11, [(0, .int 0)], [.int 0], (q_cX (q_uA q_AX 35 (upd (upd (upd (upd w443 1 32) 2 108) 3 100) 4 97)) (q_uI q_IX 34 3 5) q_J0, 40, 26520))) 6 (fun _ _ => rfl) ?_
      exact q_Ru_ret rfl rfl
    show q_Ru _ _ _ (4, [(0, .int 0)], [.int 0], (q_cX (q_uA q_AX 35 (upd (upd (upd (upd w443 1 32) 2 108) 3 100) 4 97)) (q_uI q_IX 34 3 5) q_J0, 40, 26520)) _
    refine q_Ru_seg (g2 := (11, [(0, .int 0)], [.int 0], (q_cX (q_uA q_AX 35 (upd (upd (upd (upd w443 1 32) 2 108) 3 100) 4 97)) (q_uI q_IX 34 3 5) q_J0, 40, 26520))) 4 (fun _ _ => rfl) ?_
    exact q_Ru_ret rfl rfl
  show q_Ru _ _ _ (106, [(6, .int 0), (5, .int 0), (4, .int 2), (3, .int 0), (0, .ref 98), (1, .ref 66), (2, .int a)], [.int 0, .ref 98], (q_cX (q_uA q_AX 35 (upd (upd (upd (upd w443 1 32) 2 108) 3 100) 4 97)) (q_uI q_IX 34 3 5) q_J0, 40, 26520)) _
  exact q_Ru_le (Nat.le_of_ble_eq_true rfl) (q_xc192 L xs a hl_a hu_a w443)
set_option maxHeartbeats 20000000 in
theorem q_xc194 (L : Nat) (xs : Nat → Int32) (a : Int32) (hl_a : 0 ≤ a.toInt) (hu_a : a.toInt ≤ 9) (h203 : decide (a < 0) = false) (h205 : decide ((-10) < -a) = true) (h206 : decide ((-100) < -a) = true) (h207 : decide (-a < (-9)) = false) : q_Ru (q_TBs 99 L xs) 5 195 (30, [(5, .int 0), (4, .int 2), (3, .int 0), (0, .ref 98), (1, .ref 66), (2, .int a)], [], (q_cX q_AX (q_uI q_IX 34 3 0) q_J0, 40, 26520)) (.inl none, (q_cX (q_uA q_AX 35 (upd (upd (upd (upd (upd (upd (upd (upd (fun _ => 0) 0 (vp_nar .byte ((fun j => q_o6.getD j 0) ((-(-a)).toNatClampNeg)))) 1 32) 2 108) 3 100) 4 97) 5 32) 6 35) 7 48)) (q_uI q_IX 34 3 8) q_J0, 40, 26520)) := by
  refine q_Ru_seg (g2 := (32, [(5, .int 0), (4, .int 2), (3, .int 0), (0, .ref 98), (1, .ref 66), (2, .int a)], [.int a, .ref 98], (q_cX q_AX (q_uI q_IX 34 3 0) q_J0, 40, 26520))) 2 (fun _ _ => rfl) ?_
  refine q_Ru_call (v := (some (.ref 98))) (h2 := (q_cX (q_uA q_AX 35 (upd (fun _ => 0) 0 (vp_nar .byte ((fun j => q_o6.getD j 0) ((-(-a)).toNatClampNeg))))) (q_uI q_IX 34 3 1) q_J0, 40, 26520)) rfl rfl ?_ ?_
  · refine q_Ca_of (Nat.le_of_ble_eq_true rfl) ?_
    refine q_Ru_seg (g2 := (2, [(0, .ref 98), (1, .int a)], [.int a, .ref 98], (q_cX q_AX (q_uI q_IX 34 3 0) q_J0, 40, 26520))) 2 (fun _ _ => rfl) ?_
    refine q_Ru_call (v := (some (.ref 98))) (h2 := (q_cX (q_uA q_AX 35 (upd (fun _ => 0) 0 (vp_nar .byte ((fun j => q_o6.getD j 0) ((-(-a)).toNatClampNeg))))) (q_uI q_IX 34 3 1) q_J0, 40, 26520)) rfl rfl ?_ ?_
    · refine q_Ca_of (Nat.le_of_ble_eq_true rfl) ?_
      refine q_Ru_seg (g2 := (4, [(0, .ref 98), (1, .int a)], [.int 0], (q_cX q_AX (q_uI q_IX 34 3 0) q_J0, 40, 26520))) 2 (fun _ _ => rfl) ?_
      refine q_Ru_seg (g2 := (7, [(2, .int 0), (0, .ref 98), (1, .int a)], [.int a, .int 0], (q_cX q_AX (q_uI q_IX 34 3 0) q_J0, 40, 26520))) 3 (fun _ _ => rfl) ?_
      refine q_Ru_call (v := (some (.int 1))) (h2 := (q_cX q_AX (q_uI q_IX 34 3 0) q_J0, 40, 26520)) rfl rfl ?_ ?_
      · refine q_Ca_of (Nat.le_of_ble_eq_true rfl) ?_
        refine q_Ru_seg (g2 := (3, [(1, .int 1), (0, .int a)], [.int a], (q_cX q_AX (q_uI q_IX 34 3 0) q_J0, 40, 26520))) 3 (fun _ _ => rfl) ?_
        refine q_Ru_rsF (g2 := (6, [(1, .int 1), (0, .int a)], [], (q_cX q_AX (q_uI q_IX 34 3 0) q_J0, 40, 26520))) rfl rfl h203 ?_
        refine q_Ru_seg (g2 := (24, [(3, .int 1), (2, .int (-10)), (0, .int (-a)), (1, .int 0)], [.int (-10), .int (-a)], (q_cX q_AX (q_uI q_IX 34 3 0) q_J0, 40, 26520))) 14 (fun _ _ => rfl) ?_
        refine q_Ru_rsF (g2 := (27, [(3, .int 1), (2, .int (-10)), (0, .int (-a)), (1, .int 0)], [], (q_cX q_AX (q_uI q_IX 34 3 0) q_J0, 40, 26520))) rfl rfl (q_d_geT h205) ?_
        refine q_Ru_seg (g2 := (30, [(3, .int 1), (2, .int (-10)), (0, .int (-a)), (1, .int 0)], [.int 1], (q_cX q_AX (q_uI q_IX 34 3 0) q_J0, 40, 26520))) 3 (fun _ _ => rfl) ?_
        exact q_Ru_ret rfl rfl
      show q_Ru _ _ _ (10, [(2, .int 0), (0, .ref 98), (1, .int a)], [.int 1, .int 0], (q_cX q_AX (q_uI q_IX 34 3 0) q_J0, 40, 26520)) _
      refine q_Ru_seg (g2 := (14, [(3, .int 1), (2, .int 0), (0, .ref 98), (1, .int a)], [.int 1, .ref 98], (q_cX q_AX (q_uI q_IX 34 3 0) q_J0, 40, 26520))) 4 (fun _ _ => rfl) ?_
      refine q_Ru_call (v := none) (h2 := (q_cX q_AX (q_uI q_IX 34 3 0) q_J0, 40, 26520)) rfl rfl ?_ ?_
      · refine q_Ca_of (Nat.le_of_ble_eq_true rfl) ?_
        refine q_Ru_seg (g2 := (9, [(0, .ref 98), (1, .int 1)], [.int 0, .int 16], (q_cX q_AX (q_uI q_IX 34 3 0) q_J0, 40, 26520))) 5 (fun _ _ => rfl) ?_
        refine q_Ru_seg (g2 := (38, [(2, .int 16), (0, .ref 98), (1, .int 1)], [], (q_cX q_AX (q_uI q_IX 34 3 0) q_J0, 40, 26520))) 6 (fun _ _ => rfl) ?_
        exact q_Ru_ret rfl rfl
      show q_Ru _ _ _ (17, [(3, .int 1), (2, .int 0), (0, .ref 98), (1, .int a)], [], (q_cX q_AX (q_uI q_IX 34 3 0) q_J0, 40, 26520)) _
      refine q_Ru_seg (g2 := (18, [(3, .int 1), (2, .int 0), (0, .ref 98), (1, .int a)], [.ref 98], (q_cX q_AX (q_uI q_IX 34 3 0) q_J0, 40, 26520))) 1 (fun _ _ => rfl) ?_
      refine q_Ru_call (v := (some (.int 1))) (h2 := (q_cX q_AX (q_uI q_IX 34 3 0) q_J0, 40, 26520)) rfl rfl ?_ ?_
      · refine q_Ca_of (Nat.le_of_ble_eq_true rfl) ?_
        refine q_Ru_seg (g2 := (10, [(0, .ref 98)], [.int 0], (q_cX q_AX (q_uI q_IX 34 3 0) q_J0, 40, 26520))) 4 (fun _ _ => rfl) ?_
        refine q_Ru_seg (g2 := (18, [(0, .ref 98)], [.int 1], (q_cX q_AX (q_uI q_IX 34 3 0) q_J0, 40, 26520))) 3 (fun _ _ => rfl) ?_
        exact q_Ru_ret rfl rfl
      show q_Ru _ _ _ (21, [(3, .int 1), (2, .int 0), (0, .ref 98), (1, .int a)], [.int 1], (q_cX q_AX (q_uI q_IX 34 3 0) q_J0, 40, 26520)) _
      refine q_Ru_seg (g2 := (30, [(3, .int 1), (2, .int 0), (0, .ref 98), (1, .int a)], [.ref 99, .int 1, .int a], (q_cX q_AX (q_uI q_IX 34 3 0) q_J0, 40, 26520))) 5 (fun _ _ => rfl) ?_
      refine q_Ru_call (v := (some (.int 0))) (h2 := (q_cX (q_uA q_AX 35 (upd (fun _ => 0) 0 (vp_nar .byte ((fun j => q_o6.getD j 0) ((-(-a)).toNatClampNeg))))) (q_uI q_IX 34 3 0) q_J0, 40, 26520)) rfl rfl ?_ ?_
      · refine q_Ca_of (Nat.le_of_ble_eq_true rfl) ?_
        refine q_Ru_seg (g2 := (4, [(5, .int 1), (0, .int a), (1, .int 1), (2, .ref 99)], [.int a], (q_cX q_AX (q_uI q_IX 34 3 0) q_J0, 40, 26520))) 3 (fun _ _ => rfl) ?_
        refine q_Ru_rsT (g2 := (11, [(5, .int 1), (0, .int a), (1, .int 1), (2, .ref 99)], [], (q_cX q_AX (q_uI q_IX 34 3 0) q_J0, 40, 26520))) rfl rfl (q_d_geF h203) ?_
        refine q_Ru_seg (g2 := (25, [(0, .int (-a)), (6, .int 0), (5, .int 1), (1, .int 1), (2, .ref 99)], [.int (-100), .int (-a)], (q_cX q_AX (q_uI q_IX 34 3 0) q_J0, 40, 26520))) 9 (fun _ _ => rfl) ?_
        refine q_Ru_rsT (g2 := (72, [(0, .int (-a)), (6, .int 0), (5, .int 1), (1, .int 1), (2, .ref 99)], [], (q_cX q_AX (q_uI q_IX 34 3 0) q_J0, 40, 26520))) rfl rfl h206 ?_
        refine q_Ru_seg (g2 := (83, [(5, .int 0), (0, .int (-a)), (6, .int 0), (1, .int 1), (2, .ref 99)], [.int (-(-a)), .ref 6, .int 0, .ref 99], (q_cX q_AX (q_uI q_IX 34 3 0) q_J0, 40, 26520))) 6 (fun _ _ => rfl) ?_
        refine q_Ru_rsT (g2 := (84, [(5, .int 0), (0, .int (-a)), (6, .int 0), (1, .int 1), (2, .ref 99)], [.int ((fun j => q_o6.getD j 0) ((-(-a)).toNatClampNeg)), .int 0, .ref 99], (q_cX q_AX (q_uI q_IX 34 3 0) q_J0, 40, 26520))) rfl rfl (q_tbl1 (fun a => q_in (-(-a)) 100) (l := 0) (n := 9) (by decide +kernel) hl_a hu_a) ?_
        generalize ((fun j => q_o6.getD j 0) ((-(-a)).toNatClampNeg)) = y439
        refine q_Ru_rsT (g2 := (85, [(5, .int 0), (0, .int (-a)), (6, .int 0), (1, .int 1), (2, .ref 99)], [], (q_cX (q_uA q_AX 35 (upd (fun _ => 0) 0 (vp_nar .byte y439))) (q_uI q_IX 34 3 0) q_J0, 40, 26520))) rfl q_astB_35 rfl ?_
        generalize (upd (fun _ => 0) 0 (vp_nar .byte y439)) = w440
        refine q_Ru_seg (g2 := (88, [(5, .int 0), (0, .int (-a)), (6, .int 0), (1, .int 1), (2, .ref 99)], [.int (-9), .int (-a)], (q_cX (q_uA q_AX 35 w440) (q_uI q_IX 34 3 0) q_J0, 40, 26520))) 2 (fun _ _ => rfl) ?_
        refine q_Ru_rsT (g2 := (104, [(5, .int 0), (0, .int (-a)), (6, .int 0), (1, .int 1), (2, .ref 99)], [], (q_cX (q_uA q_AX 35 w440) (q_uI q_IX 34 3 0) q_J0, 40, 26520))) rfl rfl (q_d_geF h207) ?_
        refine q_Ru_seg (g2 := (120, [(5, .int 0), (0, .int (-a)), (6, .int 0), (1, .int 1), (2, .ref 99)], [.int 0], (q_cX (q_uA q_AX 35 w440) (q_uI q_IX 34 3 0) q_J0, 40, 26520))) 3 (fun _ _ => rfl) ?_
        exact q_Ru_ret rfl rfl
      show q_Ru _ _ _ (33, [(3, .int 1), (2, .int 0), (0, .ref 98), (1, .int a)], [.int 0], (q_cX (q_uA q_AX 35 (upd (fun _ => 0) 0 (vp_nar .byte ((fun j => q_o6.getD j 0) ((-(-a)).toNatClampNeg))))) (q_uI q_IX 34 3 0) q_J0, 40, 26520)) _
      generalize (upd (fun _ => 0) 0 (vp_nar .byte ((fun j => q_o6.getD j 0) ((-(-a)).toNatClampNeg)))) = w441
      refine q_Ru_seg (g2 := (54, [(3, .int 1), (2, .int 0), (0, .ref 98), (1, .int a)], [.ref 98], (q_cX (q_uA q_AX 35 w441) (q_uI q_IX 34 3 1) q_J0, 40, 26520))) 6 (fun _ _ => rfl) ?_
      exact q_Ru_ret rfl rfl
    show q_Ru _ _ _ (5, [(0, .ref 98), (1, .int a)], [.ref 98], (q_cX (q_uA q_AX 35 (upd (fun _ => 0) 0 (vp_nar .byte ((fun j => q_o6.getD j 0) ((-(-a)).toNatClampNeg))))) (q_uI q_IX 34 3 1) q_J0, 40, 26520)) _
    generalize (upd (fun _ => 0) 0 (vp_nar .byte ((fun j => q_o6.getD j 0) ((-(-a)).toNatClampNeg)))) = w442
    refine q_Ru_seg (g2 := (7, [(0, .ref 98), (1, .int a)], [.ref 98], (q_cX (q_uA q_AX 35 w442) (q_uI q_IX 34 3 1) q_J0, 40, 26520))) 2 (fun _ _ => rfl) ?_
    exact q_Ru_ret rfl rfl
  show q_Ru _ _ _ (35, [(5, .int 0), (4, .int 2), (3, .int 0), (0, .ref 98), (1, .ref 66), (2, .int a)], [.ref 98], (q_cX (q_uA q_AX 35 (upd (fun _ => 0) 0 (vp_nar .byte ((fun j => q_o6.getD j 0) ((-(-a)).toNatClampNeg))))) (q_uI q_IX 34 3 1) q_J0, 40, 26520)) _
  generalize (upd (fun _ => 0) 0 (vp_nar .byte ((fun j => q_o6.getD j 0) ((-(-a)).toNatClampNeg)))) = w443
  refine q_Ru_seg (g2 := (39, [(5, .int 0), (4, .int 2), (3, .int 0), (0, .ref 98), (1, .ref 66), (2, .int a)], [.int 32, .ref 98], (q_cX (q_uA q_AX 35 w443) (q_uI q_IX 34 3 1) q_J0, 40, 26520))) 3 (fun _ _ => rfl) ?_
  refine q_Ru_call (v := (some (.ref 98))) (h2 := (q_cX (q_uA q_AX 35 (upd w443 1 32)) (q_uI q_IX 34 3 2) q_J0, 40, 26520)) rfl rfl ?_ ?_
  · refine q_Ca_of (Nat.le_of_ble_eq_true rfl) ?_
    refine q_Ru_seg (g2 := (2, [(0, .ref 98), (1, .int 32)], [.int 32, .ref 98], (q_cX (q_uA q_AX 35 w443) (q_uI q_IX 34 3 1) q_J0, 40, 26520))) 2 (fun _ _ => rfl) ?_
    refine q_Ru_call (v := (some (.ref 98))) (h2 := (q_cX (q_uA q_AX 35 (upd w443 1 32)) (q_uI q_IX 34 3 2) q_J0, 40, 26520)) rfl rfl ?_ ?_
    · refine q_Ca_of (Nat.le_of_ble_eq_true rfl) ?_
      refine q_Ru_seg (g2 := (5, [(0, .ref 98), (1, .int 32)], [.int 1, .ref 98], (q_cX (q_uA q_AX 35 w443) (q_uI q_IX 34 3 1) q_J0, 40, 26520))) 3 (fun _ _ => rfl) ?_
      refine q_Ru_seg (g2 := (7, [(0, .ref 98), (1, .int 32)], [.int 2, .ref 98], (q_cX (q_uA q_AX 35 w443) (q_uI q_IX 34 3 1) q_J0, 40, 26520))) 2 (fun _ _ => rfl) ?_
      refine q_Ru_call (v := none) (h2 := (q_cX (q_uA q_AX 35 w443) (q_uI q_IX 34 3 1) q_J0, 40, 26520)) rfl rfl ?_ ?_
      · refine q_Ca_of (Nat.le_of_ble_eq_true rfl) ?_
        refine q_Ru_seg (g2 := (9, [(0, .ref 98), (1, .int 2)], [.int 0, .int 16], (q_cX (q_uA q_AX 35 w443) (q_uI q_IX 34 3 1) q_J0, 40, 26520))) 5 (fun _ _ => rfl) ?_
        refine q_Ru_seg (g2 := (38, [(2, .int 16), (0, .ref 98), (1, .int 2)], [], (q_cX (q_uA q_AX 35 w443) (q_uI q_IX 34 3 1) q_J0, 40, 26520))) 6 (fun _ _ => rfl) ?_
        exact q_Ru_ret rfl rfl
      show q_Ru _ _ _ (10, [(0, .ref 98), (1, .int 32)], [], (q_cX (q_uA q_AX 35 w443) (q_uI q_IX 34 3 1) q_J0, 40, 26520)) _
      refine q_Ru_seg (g2 := (11, [(0, .ref 98), (1, .int 32)], [.ref 98], (q_cX (q_uA q_AX 35 w443) (q_uI q_IX 34 3 1) q_J0, 40, 26520))) 1 (fun _ _ => rfl) ?_
      refine q_Ru_call (v := (some (.int 1))) (h2 := (q_cX (q_uA q_AX 35 w443) (q_uI q_IX 34 3 1) q_J0, 40, 26520)) rfl rfl ?_ ?_
      · refine q_Ca_of (Nat.le_of_ble_eq_true rfl) ?_
        refine q_Ru_seg (g2 := (10, [(0, .ref 98)], [.int 0], (q_cX (q_uA q_AX 35 w443) (q_uI q_IX 34 3 1) q_J0, 40, 26520))) 4 (fun _ _ => rfl) ?_
        refine q_Ru_seg (g2 := (18, [(0, .ref 98)], [.int 1], (q_cX (q_uA q_AX 35 w443) (q_uI q_IX 34 3 1) q_J0, 40, 26520))) 3 (fun _ _ => rfl) ?_
        exact q_Ru_ret rfl rfl
      show q_Ru _ _ _ (14, [(0, .ref 98), (1, .int 32)], [.int 1], (q_cX (q_uA q_AX 35 w443) (q_uI q_IX 34 3 1) q_J0, 40, 26520)) _
      refine q_Ru_seg (g2 := (18, [(0, .ref 98), (1, .int 32)], [.int 32], (q_cX (q_uA q_AX 35 w443) (q_uI q_IX 34 3 1) q_J0, 40, 26520))) 2 (fun _ _ => rfl) ?_
      refine q_Ru_call (v := (some (.int 1))) (h2 := (q_cX (q_uA q_AX 35 w443) (q_uI q_IX 34 3 1) q_J0, 40, 26520)) rfl rfl ?_ ?_
      · refine q_Ca_of (Nat.le_of_ble_eq_true rfl) ?_
        refine q_Ru_seg (g2 := (12, [(0, .int 32)], [.int 1], (q_cX (q_uA q_AX 35 w443) (q_uI q_IX 34 3 1) q_J0, 40, 26520))) 5 (fun _ _ => rfl) ?_
        exact q_Ru_ret rfl rfl
      show q_Ru _ _ _ (21, [(0, .ref 98), (1, .int 32)], [.int 1], (q_cX (q_uA q_AX 35 w443) (q_uI q_IX 34 3 1) q_J0, 40, 26520)) _
      refine q_Ru_seg (g2 := (33, [(0, .ref 98), (1, .int 32)], [.int 1, .ref 98, .ref 99], (q_cX (q_uA q_AX 35 w443) (q_uI q_IX 34 3 1) q_J0, 40, 26520))) 6 (fun _ _ => rfl) ?_
      refine q_Ru_seg (g2 := (41, [(0, .ref 98), (1, .int 32)], [.int 32, .int 1, .ref 99], (q_cX (q_uA q_AX 35 w443) (q_uI q_IX 34 3 2) q_J0, 40, 26520))) 6 (fun _ _ => rfl) ?_
      refine q_Ru_rsT (g2 := (42, [(0, .ref 98), (1, .int 32)], [], (q_cX (q_uA q_AX 35 (upd w443 1 32)) (q_uI q_IX 34 3 2) q_J0, 40, 26520))) rfl q_astB_35 rfl ?_
      generalize (upd w443 1 32) = w444
      refine q_Ru_seg (g2 := (76, [(0, .ref 98), (1, .int 32)], [.ref 98], (q_cX (q_uA q_AX 35 w444) (q_uI q_IX 34 3 2) q_J0, 40, 26520))) 2 (fun _ _ => rfl) ?_
      exact q_Ru_ret rfl rfl
    show q_Ru _ _ _ (5, [(0, .ref 98), (1, .int 32)], [.ref 98], (q_cX (q_uA q_AX 35 (upd w443 1 32)) (q_uI q_IX 34 3 2) q_J0, 40, 26520)) _
    refine q_Ru_seg (g2 := (7, [(0, .ref 98), (1, .int 32)], [.ref 98], (q_cX (q_uA q_AX 35 (upd w443 1 32)) (q_uI q_IX 34 3 2) q_J0, 40, 26520))) 2 (fun _ _ => rfl) ?_
    exact q_Ru_ret rfl rfl
  show q_Ru _ _ _ (42, [(5, .int 0), (4, .int 2), (3, .int 0), (0, .ref 98), (1, .ref 66), (2, .int a)], [.ref 98], (q_cX (q_uA q_AX 35 (upd w443 1 32)) (q_uI q_IX 34 3 2) q_J0, 40, 26520)) _
  exact q_Ru_le (Nat.le_of_ble_eq_true rfl) (q_xc193 L xs a hl_a hu_a w443)
set_option maxHeartbeats 20000000 in
theorem q_xc195 (L : Nat) (xs : Nat → Int32) (a : Int32) (hl_a : 0 ≤ a.toInt) (hu_a : a.toInt ≤ 9) (h203 : decide (a < 0) = false) (h205 : decide ((-10) < -a) = true) (h206 : decide ((-100) < -a) = true) (h207 : decide (-a < (-9)) = false) : q_Ru (q_TBs 99 L xs) 6 34 (4, [(0, .ref 64), (1, .int a)], [], (q_cX q_AX q_IX q_J0, 40, 26520)) (.inl (some (.int 8)), (q_cX (q_uA q_AX 35 (upd (upd (upd (upd (upd (upd (upd (upd (fun _ => 0) 0 (vp_nar .byte ((fun j => q_o6.getD j 0) ((-(-a)).toNatClampNeg)))) 1 32) 2 108) 3 100) 4 97) 5 32) 6 35) 7 48)) (q_uI q_IX 34 3 8) q_J0, 40, 26520)) := by
  refine q_Ru_seg (g2 := (16, [(0, .ref 64), (1, .int a)], [.int a, .ref 66, .ref 98], (q_cX q_AX q_IX q_J0, 40, 26520))) 6 (fun _ _ => rfl) ?_
  refine q_Ru_call (v := none) (h2 := (q_cX (q_uA q_AX 35 (upd (upd (upd (upd (upd (upd (upd (upd (fun _ => 0) 0 (vp_nar .byte ((fun j => q_o6.getD j 0) ((-(-a)).toNatClampNeg)))) 1 32) 2 108) 3 100) 4 97) 5 32) 6 35) 7 48)) (q_uI q_IX 34 3 8) q_J0, 40, 26520)) rfl rfl ?_ ?_
  · refine q_Ca_of (Nat.le_of_ble_eq_true rfl) ?_
    refine q_Ru_seg (g2 := (2, [(0, .ref 98), (1, .ref 66), (2, .int a)], [.int a, .ref 66], (q_cX q_AX q_IX q_J0, 40, 26520))) 2 (fun _ _ => rfl) ?_
    refine q_Ru_call (v := (some (.int 0))) (h2 := (q_cX q_AX q_IX q_J0, 40, 26520)) rfl rfl ?_ ?_
    · exact ((q_p_read0 a hl_a (Int.le_trans hu_a (by decide))).le (Nat.le_of_ble_eq_true rfl)).tb q_TB0_le
    show q_Ru _ _ _ (5, [(0, .ref 98), (1, .ref 66), (2, .int a)], [.int 0], (q_cX q_AX q_IX q_J0, 40, 26520)) _
    refine q_Ru_seg (g2 := (7, [(3, .int 0), (0, .ref 98), (1, .ref 66), (2, .int a)], [.int 0], (q_cX q_AX q_IX q_J0, 40, 26520))) 2 (fun _ _ => rfl) ?_
    refine q_Ru_call (v := (some (.int 2))) (h2 := (q_cX q_AX q_IX q_J0, 40, 26520)) rfl rfl ?_ ?_
    · refine q_Ca_of (Nat.le_of_ble_eq_true rfl) ?_
      refine q_Ru_seg (g2 := (1, [(0, .int 0)], [.int 0], (q_cX q_AX q_IX q_J0, 40, 26520))) 1 (fun _ _ => rfl) ?_
      refine q_Ru_call (v := (some (.int 0))) (h2 := (q_cX q_AX q_IX q_J0, 40, 26520)) rfl rfl ?_ ?_
      · refine q_Ca_of (Nat.le_of_ble_eq_true rfl) ?_
        refine q_Ru_seg (g2 := (11, [(0, .int 0)], [.int 0], (q_cX q_AX q_IX q_J0, 40, 26520))) 6 (fun _ _ => rfl) ?_
        exact q_Ru_ret rfl rfl
      show q_Ru _ _ _ (4, [(0, .int 0)], [.int 0], (q_cX q_AX q_IX q_J0, 40, 26520)) _
      refine q_Ru_seg (g2 := (27, [(1, .int 0), (0, .int 0)], [.int 2], (q_cX q_AX q_IX q_J0, 40, 26520))) 9 (fun _ _ => rfl) ?_
      exact q_Ru_ret rfl rfl
    show q_Ru _ _ _ (10, [(3, .int 0), (0, .ref 98), (1, .ref 66), (2, .int a)], [.int 2], (q_cX q_AX q_IX q_J0, 40, 26520)) _
    refine q_Ru_seg (g2 := (20, [(4, .int 2), (3, .int 0), (0, .ref 98), (1, .ref 66), (2, .int a)], [.int ((a + 1) &&& 4095), .ref 66], (q_cX q_AX q_IX q_J0, 40, 26520))) 7 (fun _ _ => rfl) ?_
    refine q_Ru_call (v := (some (.int 0))) (h2 := (q_cX q_AX q_IX q_J0, 40, 26520)) rfl rfl ?_ ?_
    · exact ((q_p_read0 ((a + 1) &&& 4095) (q_and_lo (a + 1) 4095) (q_and_hi (a + 1) 4095 4095)).le (Nat.le_of_ble_eq_true rfl)).tb q_TB0_le
    show q_Ru _ _ _ (23, [(4, .int 2), (3, .int 0), (0, .ref 98), (1, .ref 66), (2, .int a)], [.int 0], (q_cX q_AX q_IX q_J0, 40, 26520)) _
    refine q_Ru_seg (g2 := (27, [(5, .int 0), (4, .int 2), (3, .int 0), (0, .ref 98), (1, .ref 66), (2, .int a)], [.int 0, .ref 98], (q_cX q_AX q_IX q_J0, 40, 26520))) 3 (fun _ _ => rfl) ?_
    refine q_Ru_call (v := none) (h2 := (q_cX q_AX (q_uI q_IX 34 3 0) q_J0, 40, 26520)) rfl rfl ?_ ?_
    · refine q_Ca_of (Nat.le_of_ble_eq_true rfl) ?_
      refine q_Ru_seg (g2 := (2, [(0, .ref 98), (1, .int 0)], [.int 0, .ref 98], (q_cX q_AX q_IX q_J0, 40, 26520))) 2 (fun _ _ => rfl) ?_
      refine q_Ru_call (v := none) (h2 := (q_cX q_AX (q_uI q_IX 34 3 0) q_J0, 40, 26520)) rfl rfl ?_ ?_
      · refine q_Ca_of (Nat.le_of_ble_eq_true rfl) ?_
        refine q_Ru_seg (g2 := (15, [(0, .ref 98), (1, .int 0)], [.int 0, .ref 98], (q_cX q_AX q_IX q_J0, 40, 26520))) 4 (fun _ _ => rfl) ?_
        refine q_Ru_call (v := none) (h2 := (q_cX q_AX q_IX q_J0, 40, 26520)) rfl rfl ?_ ?_
        · refine q_Ca_of (Nat.le_of_ble_eq_true rfl) ?_
          refine q_Ru_seg (g2 := (9, [(0, .ref 98), (1, .int 0)], [.int 0, .int 16], (q_cX q_AX q_IX q_J0, 40, 26520))) 5 (fun _ _ => rfl) ?_
          refine q_Ru_seg (g2 := (38, [(2, .int 16), (0, .ref 98), (1, .int 0)], [], (q_cX q_AX q_IX q_J0, 40, 26520))) 6 (fun _ _ => rfl) ?_
          exact q_Ru_ret rfl rfl
        show q_Ru _ _ _ (18, [(0, .ref 98), (1, .int 0)], [], (q_cX q_AX q_IX q_J0, 40, 26520)) _
        refine q_Ru_seg (g2 := (22, [(0, .ref 98), (1, .int 0)], [.int 0], (q_cX q_AX q_IX q_J0, 40, 26520))) 2 (fun _ _ => rfl) ?_
        refine q_Ru_seg (g2 := (67, [(0, .ref 98), (1, .int 0)], [.int 0], (q_cX q_AX q_IX q_J0, 40, 26520))) 4 (fun _ _ => rfl) ?_
        refine q_Ru_seg (g2 := (81, [(0, .ref 98), (1, .int 0)], [], (q_cX q_AX (q_uI q_IX 34 3 0) q_J0, 40, 26520))) 5 (fun _ _ => rfl) ?_
        exact q_Ru_ret rfl rfl
      show q_Ru _ _ _ (5, [(0, .ref 98), (1, .int 0)], [], (q_cX q_AX (q_uI q_IX 34 3 0) q_J0, 40, 26520)) _
      exact q_Ru_ret rfl rfl
    show q_Ru _ _ _ (30, [(5, .int 0), (4, .int 2), (3, .int 0), (0, .ref 98), (1, .ref 66), (2, .int a)], [], (q_cX q_AX (q_uI q_IX 34 3 0) q_J0, 40, 26520)) _
    exact q_Ru_le (Nat.le_of_ble_eq_true rfl) (q_xc194 L xs a hl_a hu_a h203 h205 h206 h207)
  show q_Ru _ _ _ (19, [(0, .ref 64), (1, .int a)], [], (q_cX (q_uA q_AX 35 (upd (upd (upd (upd (upd (upd (upd (upd (fun _ => 0) 0 (vp_nar .byte ((fun j => q_o6.getD j 0) ((-(-a)).toNatClampNeg)))) 1 32) 2 108) 3 100) 4 97) 5 32) 6 35) 7 48)) (q_uI q_IX 34 3 8) q_J0, 40, 26520)) _
  generalize (upd (upd (upd (upd (upd (upd (upd (upd (fun _ => 0) 0 (vp_nar .byte ((fun j => q_o6.getD j 0) ((-(-a)).toNatClampNeg)))) 1 32) 2 108) 3 100) 4 97) 5 32) 6 35) 7 48) = w454
  refine q_Ru_seg (g2 := (23, [(0, .ref 64), (1, .int a)], [.ref 98], (q_cX (q_uA q_AX 35 w454) (q_uI q_IX 34 3 8) q_J0, 40, 26520))) 2 (fun _ _ => rfl) ?_
  refine q_Ru_call (v := (some (.int 8))) (h2 := (q_cX (q_uA q_AX 35 w454) (q_uI q_IX 34 3 8) q_J0, 40, 26520)) rfl rfl ?_ ?_
  · refine q_Ca_of (Nat.le_of_ble_eq_true rfl) ?_
    refine q_Ru_seg (g2 := (1, [(0, .ref 98)], [.ref 98], (q_cX (q_uA q_AX 35 w454) (q_uI q_IX 34 3 8) q_J0, 40, 26520))) 1 (fun _ _ => rfl) ?_
    refine q_Ru_call (v := (some (.int 8))) (h2 := (q_cX (q_uA q_AX 35 w454) (q_uI q_IX 34 3 8) q_J0, 40, 26520)) rfl rfl ?_ ?_
    · refine q_Ca_of (Nat.le_of_ble_eq_true rfl) ?_
      refine q_Ru_seg (g2 := (4, [(0, .ref 98)], [.int 8], (q_cX (q_uA q_AX 35 w454) (q_uI q_IX 34 3 8) q_J0, 40, 26520))) 2 (fun _ _ => rfl) ?_
      exact q_Ru_ret rfl rfl
    show q_Ru _ _ _ (4, [(0, .ref 98)], [.int 8], (q_cX (q_uA q_AX 35 w454) (q_uI q_IX 34 3 8) q_J0, 40, 26520)) _
    exact q_Ru_ret rfl rfl
  show q_Ru _ _ _ (26, [(0, .ref 64), (1, .int a)], [.int 8], (q_cX (q_uA q_AX 35 w454) (q_uI q_IX 34 3 8) q_J0, 40, 26520)) _
  exact q_Ru_ret rfl rfl
set_option maxHeartbeats 20000000 in
theorem q_xc196 (L : Nat) (xs : Nat → Int32) (a : Int32) (hl_a : 0 ≤ a.toInt) (hu_a : a.toInt ≤ 9) (f27 : Nat → Int32) (f28 : Nat → Int32) (p28 : q_Ca q_TB0 4 214 [.ref 64, .int ((a + 1) &&& 4095)] (q_cM (q_uA (q_uA q_AM 33 f27) 32 (upd (upd (upd (upd (upd (upd (upd (fun _ => 0) 0 (vp_nar .char ((((48 : Int32) + (a - a / 10 * 10)).toUInt32 % 65536).toInt32))) 1 32) 2 108) 3 100) 4 97) 5 32) 6 35)) (q_uI (q_uI q_IM 0 39 0) 0 35 7) q_J0, 34, 31630) (.inl (some (.int 0)), (q_cM (q_uA (q_uA q_AM 33 f28) 32 (upd (upd (upd (upd (upd (upd (upd (fun _ => 0) 0 (vp_nar .char ((((48 : Int32) + (a - a / 10 * 10)).toUInt32 % 65536).toInt32))) 1 32) 2 108) 3 100) 4 97) 5 32) 6 35)) (q_uI (q_uI q_IM 0 39 0) 0 35 7) q_J0, 34, 31630))) : q_Ru q_TB0 8 286 (82, [(2, .int 0), (0, .ref 64), (1, .int a)], [.int 0], (q_cM (q_uA (q_uA (q_uA q_AM 33 f27) 32 (fun _ => 0)) 32 (upd (upd (upd (upd (upd (fun _ => 0) 0 (vp_nar .char ((((48 : Int32) + (a - a / 10 * 10)).toUInt32 % 65536).toInt32))) 1 32) 2 108) 3 100) 4 97)) (q_uI (q_uI q_IM 0 39 0) 0 35 5) q_J0, 34, 31630)) (.inl (some (.int 8)), (q_cM (q_uA (q_uA (q_uA q_AM 33 f28) 32 (upd (upd (upd (upd (upd (upd (upd (fun _ => 0) 0 (vp_nar .char ((((48 : Int32) + (a - a / 10 * 10)).toUInt32 % 65536).toInt32))) 1 32) 2 108) 3 100) 4 97) 5 32) 6 35)) 32 (upd (upd (upd (upd (upd (upd (upd (upd (fun _ => 0) 0 (vp_nar .char ((((48 : Int32) + (a - a / 10 * 10)).toUInt32 % 65536).toInt32))) 1 32) 2 108) 3 100) 4 97) 5 32) 6 35) 7 48)) (q_uI (q_uI q_IM 0 39 0) 0 35 8) q_J0, 34, 31630)) := by
  refine q_Ru_seg (g2 := (91, [(2, .int 0), (0, .ref 64), (1, .int a)], [.int a, .int 0, .ref 64], (q_cM (q_uA (q_uA (q_uA q_AM 33 f27) 32 (fun _ => 0)) 32 (upd (upd (upd (upd (upd (fun _ => 0) 0 (vp_nar .char ((((48 : Int32) + (a - a / 10 * 10)).toUInt32 % 65536).toInt32))) 1 32) 2 108) 3 100) 4 97)) (q_uI (q_uI q_IM 0 39 0) 0 35 5) q_J0, 34, 31630))) 6 (fun _ _ => rfl) ?_
  refine q_Ru_call (v := none) (h2 := (q_cM (q_uA (q_uA (q_uA q_AM 33 f28) 32 (upd (upd (upd (upd (upd (upd (upd (fun _ => 0) 0 (vp_nar .char ((((48 : Int32) + (a - a / 10 * 10)).toUInt32 % 65536).toInt32))) 1 32) 2 108) 3 100) 4 97) 5 32) 6 35)) 32 (upd (upd (upd (upd (upd (upd (upd (upd (fun _ => 0) 0 (vp_nar .char ((((48 : Int32) + (a - a / 10 * 10)).toUInt32 % 65536).toInt32))) 1 32) 2 108) 3 100) 4 97) 5 32) 6 35) 7 48)) (q_uI (q_uI q_IM 0 39 0) 0 35 8) q_J0, 34, 31630)) rfl rfl ?_ ?_
  · refine q_Ca_of (Nat.le_of_ble_eq_true rfl) ?_
    refine q_Ru_seg (g2 := (3, [(0, .ref 64), (1, .int 0), (2, .int a)], [.int 32, .ref 64], (q_cM (q_uA (q_uA (q_uA q_AM 33 f27) 32 (fun _ => 0)) 32 (upd (upd (upd (upd (upd (fun _ => 0) 0 (vp_nar .char ((((48 : Int32) + (a - a / 10 * 10)).toUInt32 % 65536).toInt32))) 1 32) 2 108) 3 100) 4 97)) (q_uI (q_uI q_IM 0 39 0) 0 35 5) q_J0, 34, 31630))) 2 (fun _ _ => rfl) ?_
    refine q_Ru_call (v := none) (h2 := (q_cM (q_uA (q_uA (q_uA q_AM 33 f27) 32 (fun _ => 0)) 32 (upd (upd (upd (upd (upd (upd (fun _ => 0) 0 (vp_nar .char ((((48 : Int32) + (a - a / 10 * 10)).toUInt32 % 65536).toInt32))) 1 32) 2 108) 3 100) 4 97) 5 32)) (q_uI (q_uI q_IM 0 39 0) 0 35 6) q_J0, 34, 31630)) rfl rfl ?_ ?_
    · refine q_Ca_of (Nat.le_of_ble_eq_true rfl) ?_
      refine q_Ru_seg (g2 := (8, [(0, .ref 64), (1, .int 32)], [.int 5, .ref 96], (q_cM (q_uA (q_uA (q_uA q_AM 33 f27) 32 (fun _ => 0)) 32 (upd (upd (upd (upd (upd (fun _ => 0) 0 (vp_nar .char ((((48 : Int32) + (a - a / 10 * 10)).toUInt32 % 65536).toInt32))) 1 32) 2 108) 3 100) 4 97)) (q_uI (q_uI q_IM 0 39 0) 0 35 5) q_J0, 34, 31630))) 4 (fun _ _ => rfl) ?_
      refine q_Ru_seg (g2 := (15, [(0, .ref 64), (1, .int 32)], [.int 5, .ref 64], (q_cM (q_uA (q_uA (q_uA q_AM 33 f27) 32 (fun _ => 0)) 32 (upd (upd (upd (upd (upd (upd (fun _ => 0) 0 (vp_nar .char ((((48 : Int32) + (a - a / 10 * 10)).toUInt32 % 65536).toInt32))) 1 32) 2 108) 3 100) 4 97) 5 32)) (q_uI (q_uI q_IM 0 39 0) 0 35 5) q_J0, 34, 31630))) 5 (fun _ _ => rfl) ?_
      refine q_Ru_seg (g2 := (20, [(0, .ref 64), (1, .int 32)], [], (q_cM (q_uA (q_uA (q_uA q_AM 33 f27) 32 (fun _ => 0)) 32 (upd (upd (upd (upd (upd (upd (fun _ => 0) 0 (vp_nar .char ((((48 : Int32) + (a - a / 10 * 10)).toUInt32 % 65536).toInt32))) 1 32) 2 108) 3 100) 4 97) 5 32)) (q_uI (q_uI q_IM 0 39 0) 0 35 6) q_J0, 34, 31630))) 3 (fun _ _ => rfl) ?_
      exact q_Ru_ret rfl rfl
    show q_Ru _ _ _ (6, [(0, .ref 64), (1, .int 0), (2, .int a)], [], (q_cM (q_uA (q_uA (q_uA q_AM 33 f27) 32 (fun _ => 0)) 32 (upd (upd (upd (upd (upd (upd (fun _ => 0) 0 (vp_nar .char ((((48 : Int32) + (a - a / 10 * 10)).toUInt32 % 65536).toInt32))) 1 32) 2 108) 3 100) 4 97) 5 32)) (q_uI (q_uI q_IM 0 39 0) 0 35 6) q_J0, 34, 31630)) _
    refine q_Ru_seg (g2 := (13, [(0, .ref 64), (1, .int 0), (2, .int a)], [.int 35, .ref 64], (q_cM (q_uA (q_uA (q_uA q_AM 33 f27) 32 (fun _ => 0)) 32 (upd (upd (upd (upd (upd (upd (fun _ => 0) 0 (vp_nar .char ((((48 : Int32) + (a - a / 10 * 10)).toUInt32 % 65536).toInt32))) 1 32) 2 108) 3 100) 4 97) 5 32)) (q_uI (q_uI q_IM 0 39 0) 0 35 6) q_J0, 34, 31630))) 4 (fun _ _ => rfl) ?_
    refine q_Ru_call (v := none) (h2 := (q_cM (q_uA (q_uA (q_uA q_AM 33 f27) 32 (fun _ => 0)) 32 (upd (upd (upd (upd (upd (upd (upd (fun _ => 0) 0 (vp_nar .char ((((48 : Int32) + (a - a / 10 * 10)).toUInt32 % 65536).toInt32))) 1 32) 2 108) 3 100) 4 97) 5 32) 6 35)) (q_uI (q_uI q_IM 0 39 0) 0 35 7) q_J0, 34, 31630)) rfl rfl ?_ ?_
    · refine q_Ca_of (Nat.le_of_ble_eq_true rfl) ?_
      refine q_Ru_seg (g2 := (8, [(0, .ref 64), (1, .int 35)], [.int 6, .ref 96], (q_cM (q_uA (q_uA (q_uA q_AM 33 f27) 32 (fun _ => 0)) 32 (upd (upd (upd (upd (upd (upd (fun _ => 0) 0 (vp_nar .char ((((48 : Int32) + (a - a / 10 * 10)).toUInt32 % 65536).toInt32))) 1 32) 2 108) 3 100) 4 97) 5 32)) (q_uI (q_uI q_IM 0 39 0) 0 35 6) q_J0, 34, 31630))) 4 (fun _ _ => rfl) ?_
      refine q_Ru_seg (g2 := (15, [(0, .ref 64), (1, .int 35)], [.int 6, .ref 64], (q_cM (q_uA (q_uA (q_uA q_AM 33 f27) 32 (fun _ => 0)) 32 (upd (upd (upd (upd (upd (upd (upd (fun _ => 0) 0 (vp_nar .char ((((48 : Int32) + (a - a / 10 * 10)).toUInt32 % 65536).toInt32))) 1 32) 2 108) 3 100) 4 97) 5 32) 6 35)) (q_uI (q_uI q_IM 0 39 0) 0 35 6) q_J0, 34, 31630))) 5 (fun _ _ => rfl) ?_
      refine q_Ru_seg (g2 := (20, [(0, .ref 64), (1, .int 35)], [], (q_cM (q_uA (q_uA (q_uA q_AM 33 f27) 32 (fun _ => 0)) 32 (upd (upd (upd (upd (upd (upd (upd (fun _ => 0) 0 (vp_nar .char ((((48 : Int32) + (a - a / 10 * 10)).toUInt32 % 65536).toInt32))) 1 32) 2 108) 3 100) 4 97) 5 32) 6 35)) (q_uI (q_uI q_IM 0 39 0) 0 35 7) q_J0, 34, 31630))) 3 (fun _ _ => rfl) ?_
      exact q_Ru_ret rfl rfl
    show q_Ru _ _ _ (16, [(0, .ref 64), (1, .int 0), (2, .int a)], [], (q_cM (q_uA (q_uA (q_uA q_AM 33 f27) 32 (fun _ => 0)) 32 (upd (upd (upd (upd (upd (upd (upd (fun _ => 0) 0 (vp_nar .char ((((48 : Int32) + (a - a / 10 * 10)).toUInt32 % 65536).toInt32))) 1 32) 2 108) 3 100) 4 97) 5 32) 6 35)) (q_uI (q_uI q_IM 0 39 0) 0 35 7) q_J0, 34, 31630)) _
    refine q_Ru_seg (g2 := (31, [(0, .ref 64), (1, .int 0), (2, .int a)], [.int 5, .int 3, .int 0, .ref 64], (q_cM (q_uA (q_uA (q_uA q_AM 33 f27) 32 (fun _ => 0)) 32 (upd (upd (upd (upd (upd (upd (upd (fun _ => 0) 0 (vp_nar .char ((((48 : Int32) + (a - a / 10 * 10)).toUInt32 % 65536).toInt32))) 1 32) 2 108) 3 100) 4 97) 5 32) 6 35)) (q_uI (q_uI q_IM 0 39 0) 0 35 7) q_J0, 34, 31630))) 7 (fun _ _ => rfl) ?_
    refine q_Ru_call (v := (some (.int 0))) (h2 := (q_cM (q_uA (q_uA (q_uA q_AM 33 f27) 32 (fun _ => 0)) 32 (upd (upd (upd (upd (upd (upd (upd (fun _ => 0) 0 (vp_nar .char ((((48 : Int32) + (a - a / 10 * 10)).toUInt32 % 65536).toInt32))) 1 32) 2 108) 3 100) 4 97) 5 32) 6 35)) (q_uI (q_uI q_IM 0 39 0) 0 35 7) q_J0, 34, 31630)) rfl rfl ?_ ?_
    · refine q_Ca_of (Nat.le_of_ble_eq_true rfl) ?_
      refine q_Ru_seg (g2 := (15, [(0, .int 0), (1, .int 3), (2, .int 5)], [.int 0], (q_cM (q_uA (q_uA (q_uA q_AM 33 f27) 32 (fun _ => 0)) 32 (upd (upd (upd (upd (upd (upd (upd (fun _ => 0) 0 (vp_nar .char ((((48 : Int32) + (a - a / 10 * 10)).toUInt32 % 65536).toInt32))) 1 32) 2 108) 3 100) 4 97) 5 32) 6 35)) (q_uI (q_uI q_IM 0 39 0) 0 35 7) q_J0, 34, 31630))) 4 (fun _ _ => rfl) ?_
      exact q_Ru_ret rfl rfl
    show q_Ru _ _ _ (34, [(0, .ref 64), (1, .int 0), (2, .int a)], [.int 0, .ref 64], (q_cM (q_uA (q_uA (q_uA q_AM 33 f27) 32 (fun _ => 0)) 32 (upd (upd (upd (upd (upd (upd (upd (fun _ => 0) 0 (vp_nar .char ((((48 : Int32) + (a - a / 10 * 10)).toUInt32 % 65536).toInt32))) 1 32) 2 108) 3 100) 4 97) 5 32) 6 35)) (q_uI (q_uI q_IM 0 39 0) 0 35 7) q_J0, 34, 31630)) _
    refine q_Ru_seg (g2 := (51, [(0, .ref 64), (1, .int 0), (2, .int a)], [.int (a + 1), .ref 64, .ref 64], (q_cM (q_uA (q_uA (q_uA q_AM 33 f27) 32 (fun _ => 0)) 32 (upd (upd (upd (upd (upd (upd (upd (fun _ => 0) 0 (vp_nar .char ((((48 : Int32) + (a - a / 10 * 10)).toUInt32 % 65536).toInt32))) 1 32) 2 108) 3 100) 4 97) 5 32) 6 35)) (q_uI (q_uI q_IM 0 39 0) 0 35 7) q_J0, 34, 31630))) 5 (fun _ _ => rfl) ?_
    refine q_Ru_call (v := (some (.int 0))) (h2 := (q_cM (q_uA (q_uA q_AM 33 f28) 32 (upd (upd (upd (upd (upd (upd (upd (fun _ => 0) 0 (vp_nar .char ((((48 : Int32) + (a - a / 10 * 10)).toUInt32 % 65536).toInt32))) 1 32) 2 108) 3 100) 4 97) 5 32) 6 35)) (q_uI (q_uI q_IM 0 39 0) 0 35 7) q_J0, 34, 31630)) rfl rfl ?_ ?_
    · refine q_Ca_of (Nat.le_of_ble_eq_true rfl) ?_
      refine q_Ru_seg (g2 := (2, [(0, .ref 64), (1, .int (a + 1))], [.int (a + 1), .ref 64], (q_cM (q_uA (q_uA (q_uA q_AM 33 f27) 32 (fun _ => 0)) 32 (upd (upd (upd (upd (upd (upd (upd (fun _ => 0) 0 (vp_nar .char ((((48 : Int32) + (a - a / 10 * 10)).toUInt32 % 65536).toInt32))) 1 32) 2 108) 3 100) 4 97) 5 32) 6 35)) (q_uI (q_uI q_IM 0 39 0) 0 35 7) q_J0, 34, 31630))) 2 (fun _ _ => rfl) ?_
      refine q_Ru_call (v := (some (.int ((a + 1) &&& 4095)))) (h2 := (q_cM (q_uA (q_uA (q_uA q_AM 33 f27) 32 (fun _ => 0)) 32 (upd (upd (upd (upd (upd (upd (upd (fun _ => 0) 0 (vp_nar .char ((((48 : Int32) + (a - a / 10 * 10)).toUInt32 % 65536).toInt32))) 1 32) 2 108) 3 100) 4 97) 5 32) 6 35)) (q_uI (q_uI q_IM 0 39 0) 0 35 7) q_J0, 34, 31630)) rfl rfl ?_ ?_
      · refine q_Ca_of (Nat.le_of_ble_eq_true rfl) ?_
        refine q_Ru_seg (g2 := (5, [(0, .int (a + 1))], [.int ((a + 1) &&& 4095)], (q_cM (q_uA (q_uA (q_uA q_AM 33 f27) 32 (fun _ => 0)) 32 (upd (upd (upd (upd (upd (upd (upd (fun _ => 0) 0 (vp_nar .char ((((48 : Int32) + (a - a / 10 * 10)).toUInt32 % 65536).toInt32))) 1 32) 2 108) 3 100) 4 97) 5 32) 6 35)) (q_uI (q_uI q_IM 0 39 0) 0 35 7) q_J0, 34, 31630))) 3 (fun _ _ => rfl) ?_
        exact q_Ru_ret rfl rfl
      show q_Ru _ _ _ (5, [(0, .ref 64), (1, .int (a + 1))], [.int ((a + 1) &&& 4095), .ref 64], (q_cM (q_uA (q_uA (q_uA q_AM 33 f27) 32 (fun _ => 0)) 32 (upd (upd (upd (upd (upd (upd (upd (fun _ => 0) 0 (vp_nar .char ((((48 : Int32) + (a - a / 10 * 10)).toUInt32 % 65536).toInt32))) 1 32) 2 108) 3 100) 4 97) 5 32) 6 35)) (q_uI (q_uI q_IM 0 39 0) 0 35 7) q_J0, 34, 31630)) _
      refine q_Ru_call (v := (some (.int 0))) (h2 := (q_cM (q_uA (q_uA q_AM 33 f28) 32 (upd (upd (upd (upd (upd (upd (upd (fun _ => 0) 0 (vp_nar .char ((((48 : Int32) + (a - a / 10 * 10)).toUInt32 % 65536).toInt32))) 1 32) 2 108) 3 100) 4 97) 5 32) 6 35)) (q_uI (q_uI q_IM 0 39 0) 0 35 7) q_J0, 34, 31630)) rfl rfl ?_ ?_
      · exact p28.le (Nat.le_of_ble_eq_true rfl)
      show q_Ru _ _ _ (8, [(0, .ref 64), (1, .int (a + 1))], [.int 0], (q_cM (q_uA (q_uA q_AM 33 f28) 32 (upd (upd (upd (upd (upd (upd (upd (fun _ => 0) 0 (vp_nar .char ((((48 : Int32) + (a - a / 10 * 10)).toUInt32 % 65536).toInt32))) 1 32) 2 108) 3 100) 4 97) 5 32) 6 35)) (q_uI (q_uI q_IM 0 39 0) 0 35 7) q_J0, 34, 31630)) _
      exact q_Ru_ret rfl rfl
    show q_Ru _ _ _ (54, [(0, .ref 64), (1, .int 0), (2, .int a)], [.int 0, .ref 64], (q_cM (q_uA (q_uA q_AM 33 f28) 32 (upd (upd (upd (upd (upd (upd (upd (fun _ => 0) 0 (vp_nar .char ((((48 : Int32) + (a - a / 10 * 10)).toUInt32 % 65536).toInt32))) 1 32) 2 108) 3 100) 4 97) 5 32) 6 35)) (q_uI (q_uI q_IM 0 39 0) 0 35 7) q_J0, 34, 31630)) _
    refine q_Ru_call (v := none) (h2 := (q_cM (q_uA (q_uA (q_uA q_AM 33 f28) 32 (upd (upd (upd (upd (upd (upd (upd (fun _ => 0) 0 (vp_nar .char ((((48 : Int32) + (a - a / 10 * 10)).toUInt32 % 65536).toInt32))) 1 32) 2 108) 3 100) 4 97) 5 32) 6 35)) 32 (upd (upd (upd (upd (upd (upd (upd (upd (fun _ => 0) 0 (vp_nar .char ((((48 : Int32) + (a - a / 10 * 10)).toUInt32 % 65536).toInt32))) 1 32) 2 108) 3 100) 4 97) 5 32) 6 35) 7 48)) (q_uI (q_uI q_IM 0 39 0) 0 35 8) q_J0, 34, 31630)) rfl rfl ?_ ?_
    · refine q_Ca_of (Nat.le_of_ble_eq_true rfl) ?_
      refine q_Ru_seg (g2 := (23, [(0, .ref 64), (1, .int 0)], [.int 48, .ref 64], (q_cM (q_uA (q_uA q_AM 33 f28) 32 (upd (upd (upd (upd (upd (upd (upd (fun _ => 0) 0 (vp_nar .char ((((48 : Int32) + (a - a / 10 * 10)).toUInt32 % 65536).toInt32))) 1 32) 2 108) 3 100) 4 97) 5 32) 6 35)) (q_uI (q_uI q_IM 0 39 0) 0 35 7) q_J0, 34, 31630))) 10 (fun _ _ => rfl) ?_
      refine q_Ru_call (v := none) (h2 := (q_cM (q_uA (q_uA (q_uA q_AM 33 f28) 32 (upd (upd (upd (upd (upd (upd (upd (fun _ => 0) 0 (vp_nar .char ((((48 : Int32) + (a - a / 10 * 10)).toUInt32 % 65536).toInt32))) 1 32) 2 108) 3 100) 4 97) 5 32) 6 35)) 32 (upd (upd (upd (upd (upd (upd (upd (upd (fun _ => 0) 0 (vp_nar .char ((((48 : Int32) + (a - a / 10 * 10)).toUInt32 % 65536).toInt32))) 1 32) 2 108) 3 100) 4 97) 5 32) 6 35) 7 48)) (q_uI (q_uI q_IM 0 39 0) 0 35 8) q_J0, 34, 31630)) rfl rfl ?_ ?_
      · refine q_Ca_of (Nat.le_of_ble_eq_true rfl) ?_
        refine q_Ru_seg (g2 := (8, [(0, .ref 64), (1, .int 48)], [.int 7, .ref 96], (q_cM (q_uA (q_uA q_AM 33 f28) 32 (upd (upd (upd (upd (upd (upd (upd (fun _ => 0) 0 (vp_nar .char ((((48 : Int32) + (a - a / 10 * 10)).toUInt32 % 65536).toInt32))) 1 32) 2 108) 3 100) 4 97) 5 32) 6 35)) (q_uI (q_uI q_IM 0 39 0) 0 35 7) q_J0, 34, 31630))) 4 (fun _ _ => rfl) ?_
        refine q_Ru_seg (g2 := (15, [(0, .ref 64), (1, .int 48)], [.int 7, .ref 64], (q_cM (q_uA (q_uA (q_uA q_AM 33 f28) 32 (upd (upd (upd (upd (upd (upd (upd (fun _ => 0) 0 (vp_nar .char ((((48 : Int32) + (a - a / 10 * 10)).toUInt32 % 65536).toInt32))) 1 32) 2 108) 3 100) 4 97) 5 32) 6 35)) 32 (upd (upd (upd (upd (upd (upd (upd (upd (fun _ => 0) 0 (vp_nar .char ((((48 : Int32) + (a - a / 10 * 10)).toUInt32 % 65536).toInt32))) 1 32) 2 108) 3 100) 4 97) 5 32) 6 35) 7 48)) (q_uI (q_uI q_IM 0 39 0) 0 35 7) q_J0, 34, 31630))) 5 (fun _ _ => rfl) ?_
        refine q_Ru_seg (g2 := (20, [(0, .ref 64), (1, .int 48)], [], (q_cM (q_uA (q_uA (q_uA q_AM 33 f28) 32 (upd (upd (upd (upd (upd (upd (upd (fun _ => 0) 0 (vp_nar .char ((((48 : Int32) + (a - a / 10 * 10)).toUInt32 % 65536).toInt32))) 1 32) 2 108) 3 100) 4 97) 5 32) 6 35)) 32 (upd (upd (upd (upd (upd (upd (upd (upd (fun _ => 0) 0 (vp_nar .char ((((48 : Int32) + (a - a / 10 * 10)).toUInt32 % 65536).toInt32))) 1 32) 2 108) 3 100) 4 97) 5 32) 6 35) 7 48)) (q_uI (q_uI q_IM 0 39 0) 0 35 8) q_J0, 34, 31630))) 3 (fun _ _ => rfl) ?_
        exact q_Ru_ret rfl rfl
      show q_Ru _ _ _ (26, [(0, .ref 64), (1, .int 0)], [], (q_cM (q_uA (q_uA (q_uA q_AM 33 f28) 32 (upd (upd (upd (upd (upd (upd (upd (fun _ => 0) 0 (vp_nar .char ((((48 : Int32) + (a - a / 10 * 10)).toUInt32 % 65536).toInt32))) 1 32) 2 108) 3 100) 4 97) 5 32) 6 35)) 32 (upd (upd (upd (upd (upd (upd (upd (upd (fun _ => 0) 0 (vp_nar .char ((((48 : Int32) + (a - a / 10 * 10)).toUInt32 % 65536).toInt32))) 1 32) 2 108) 3 100) 4 97) 5 32) 6 35) 7 48)) (q_uI (q_uI q_IM 0 39 0) 0 35 8) q_J0, 34, 31630)) _
      exact q_Ru_ret rfl rfl
    show q_Ru _ _ _ (57, [(0, .ref 64), (1, .int 0), (2, .int a)], [], (q_cM (q_uA (q_uA (q_uA q_AM 33 f28) 32 (upd (upd (upd (upd (upd (upd (upd (fun _ => 0) 0 (vp_nar .char ((((48 : Int32) + (a - a / 10 * 10)).toUInt32 % 65536).toInt32))) 1 32) 2 108) 3 100) 4 97) 5 32) 6 35)) 32 (upd (upd (upd (upd (upd (upd (upd (upd (fun _ => 0) 0 (vp_nar .char ((((48 : Int32) + (a - a / 10 * 10)).toUInt32 % 65536).toInt32))) 1 32) 2 108) 3 100) 4 97) 5 32) 6 35) 7 48)) (q_uI (q_uI q_IM 0 39 0) 0 35 8) q_J0, 34, 31630)) _
    refine q_Ru_seg (g2 := (136, [(0, .ref 64), (1, .int 0), (2, .int a)], [], (q_cM (q_uA (q_uA (q_uA q_AM 33 f28) 32 (upd (upd (upd (upd (upd (upd (upd (fun _ => 0) 0 (vp_nar .char ((((48 : Int32) + (a - a / 10 * 10)).toUInt32 % 65536).toInt32))) 1 32) 2 108) 3 100) 4 97) 5 32) 6 35)) 32 (upd (upd (upd (upd (upd (upd (upd (upd (fun _ => 0) 0 (vp_nar .char ((((48 : Int32) + (a - a / 10 * 10)).toUInt32 % 65536).toInt32))) 1 32) 2 108) 3 100) 4 97) 5 32) 6 35) 7 48)) (q_uI (q_uI q_IM 0 39 0) 0 35 8) q_J0, 34, 31630))) 27 (fun _ _ => rfl) ?_
    exact q_Ru_ret rfl rfl
  show q_Ru _ _ _ (94, [(2, .int 0), (0, .ref 64), (1, .int a)], [], (q_cM (q_uA (q_uA (q_uA q_AM 33 f28) 32 (upd (upd (upd (upd (upd (upd (upd (fun _ => 0) 0 (vp_nar .char ((((48 : Int32) + (a - a / 10 * 10)).toUInt32 % 65536).toInt32))) 1 32) 2 108) 3 100) 4 97) 5 32) 6 35)) 32 (upd (upd (upd (upd (upd (upd (upd (upd (fun _ => 0) 0 (vp_nar .char ((((48 : Int32) + (a - a / 10 * 10)).toUInt32 % 65536).toInt32))) 1 32) 2 108) 3 100) 4 97) 5 32) 6 35) 7 48)) (q_uI (q_uI q_IM 0 39 0) 0 35 8) q_J0, 34, 31630)) _
  refine q_Ru_seg (g2 := (107, [(2, .int 0), (0, .ref 64), (1, .int a)], [.int 8], (q_cM (q_uA (q_uA (q_uA q_AM 33 f28) 32 (upd (upd (upd (upd (upd (upd (upd (fun _ => 0) 0 (vp_nar .char ((((48 : Int32) + (a - a / 10 * 10)).toUInt32 % 65536).toInt32))) 1 32) 2 108) 3 100) 4 97) 5 32) 6 35)) 32 (upd (upd (upd (upd (upd (upd (upd (upd (fun _ => 0) 0 (vp_nar .char ((((48 : Int32) + (a - a / 10 * 10)).toUInt32 % 65536).toInt32))) 1 32) 2 108) 3 100) 4 97) 5 32) 6 35) 7 48)) (q_uI (q_uI q_IM 0 39 0) 0 35 8) q_J0, 34, 31630))) 3 (fun _ _ => rfl) ?_
  exact q_Ru_ret rfl rfl
set_option maxHeartbeats 20000000 in
theorem q_xc197 (L : Nat) (xs : Nat → Int32) (a : Int32) (hl_a : 0 ≤ a.toInt) (hu_a : a.toInt ≤ 9) (f27 : Nat → Int32) (f28 : Nat → Int32) (p28 : q_Ca q_TB0 4 214 [.ref 64, .int ((a + 1) &&& 4095)] (q_cM (q_uA (q_uA q_AM 33 f27) 32 (upd (upd (upd (upd (upd (upd (upd (fun _ => 0) 0 (vp_nar .char ((((48 : Int32) + (a - a / 10 * 10)).toUInt32 % 65536).toInt32))) 1 32) 2 108) 3 100) 4 97) 5 32) 6 35)) (q_uI (q_uI q_IM 0 39 0) 0 35 7) q_J0, 34, 31630) (.inl (some (.int 0)), (q_cM (q_uA (q_uA q_AM 33 f28) 32 (upd (upd (upd (upd (upd (upd (upd (fun _ => 0) 0 (vp_nar .char ((((48 : Int32) + (a - a / 10 * 10)).toUInt32 % 65536).toInt32))) 1 32) 2 108) 3 100) 4 97) 5 32) 6 35)) (q_uI (q_uI q_IM 0 39 0) 0 35 7) q_J0, 34, 31630))) : q_Ru q_TB0 8 286 (47, [(2, .int 0), (0, .ref 64), (1, .int a)], [.int 0], (q_cM (q_uA (q_uA (q_uA q_AM 33 f27) 32 (fun _ => 0)) 32 (upd (upd (fun _ => 0) 0 (vp_nar .char ((((48 : Int32) + (a - a / 10 * 10)).toUInt32 % 65536).toInt32))) 1 32)) (q_uI (q_uI q_IM 0 39 0) 0 35 2) q_J0, 34, 31630)) (.inl (some (.int 8)), (q_cM (q_uA (q_uA (q_uA q_AM 33 f28) 32 (upd (upd (upd (upd (upd (upd (upd (fun _ => 0) 0 (vp_nar .char ((((48 : Int32) + (a - a / 10 * 10)).toUInt32 % 65536).toInt32))) 1 32) 2 108) 3 100) 4 97) 5 32) 6 35)) 32 (upd (upd (upd (upd (upd (upd (upd (upd (fun _ => 0) 0 (vp_nar .char ((((48 : Int32) + (a - a / 10 * 10)).toUInt32 % 65536).toInt32))) 1 32) 2 108) 3 100) 4 97) 5 32) 6 35) 7 48)) (q_uI (q_uI q_IM 0 39 0) 0 35 8) q_J0, 34, 31630)) := by
  refine q_Ru_seg (g2 := (75, [(2, .int 0), (0, .ref 64), (1, .int a)], [.int 0, .ref 64], (q_cM (q_uA (q_uA (q_uA q_AM 33 f27) 32 (fun _ => 0)) 32 (upd (upd (fun _ => 0) 0 (vp_nar .char ((((48 : Int32) + (a - a / 10 * 10)).toUInt32 % 65536).toInt32))) 1 32)) (q_uI (q_uI q_IM 0 39 0) 0 35 2) q_J0, 34, 31630))) 3 (fun _ _ => rfl) ?_
  refine q_Ru_call (v := none) (h2 := (q_cM (q_uA (q_uA (q_uA q_AM 33 f27) 32 (fun _ => 0)) 32 (upd (upd (upd (upd (upd (fun _ => 0) 0 (vp_nar .char ((((48 : Int32) + (a - a / 10 * 10)).toUInt32 % 65536).toInt32))) 1 32) 2 108) 3 100) 4 97)) (q_uI (q_uI q_IM 0 39 0) 0 35 5) q_J0, 34, 31630)) rfl rfl ?_ ?_
  · refine q_Ca_of (Nat.le_of_ble_eq_true rfl) ?_
    refine q_Ru_seg (g2 := (1, [(0, .ref 64), (1, .int 0)], [.int 0], (q_cM (q_uA (q_uA (q_uA q_AM 33 f27) 32 (fun _ => 0)) 32 (upd (upd (fun _ => 0) 0 (vp_nar .char ((((48 : Int32) + (a - a / 10 * 10)).toUInt32 % 65536).toInt32))) 1 32)) (q_uI (q_uI q_IM 0 39 0) 0 35 2) q_J0, 34, 31630))) 1 (fun _ _ => rfl) ?_
    refine q_Ru_call (v := (some (.int 0))) (h2 := (q_cM (q_uA (q_uA (q_uA q_AM 33 f27) 32 (fun _ => 0)) 32 (upd (upd (fun _ => 0) 0 (vp_nar .char ((((48 : Int32) + (a - a / 10 * 10)).toUInt32 % 65536).toInt32))) 1 32)) (q_uI (q_uI q_IM 0 39 0) 0 35 2) q_J0, 34, 31630)) rfl rfl ?_ ?_
    · refine q_Ca_of (Nat.le_of_ble_eq_true rfl) ?_
      refine q_Ru_seg (g2 := (42, [(0, .int 0)], [.int 0], (q_cM (q_uA (q_uA (q_uA q_AM 33 f27) 32 (fun _ => 0)) 32 (upd (upd (fun _ => 0) 0 (vp_nar .char ((((48 : Int32) + (a - a / 10 * 10)).toUInt32 % 65536).toInt32))) 1 32)) (q_uI (q_uI q_IM 0 39 0) 0 35 2) q_J0, 34, 31630))) 7 (fun _ _ => rfl) ?_
      exact q_Ru_ret rfl rfl
    show q_Ru _ _ _ (4, [(0, .ref 64), (1, .int 0)], [.int 0], (q_cM (q_uA (q_uA (q_uA q_AM 33 f27) 32 (fun _ => 0)) 32 (upd (upd (fun _ => 0) 0 (vp_nar .char ((((48 : Int32) + (a - a / 10 * 10)).toUInt32 % 65536).toInt32))) 1 32)) (q_uI (q_uI q_IM 0 39 0) 0 35 2) q_J0, 34, 31630)) _
    refine q_Ru_seg (g2 := (26, [(3, .int 0), (2, .int 0), (0, .ref 64), (1, .int 0)], [.int 108, .ref 64], (q_cM (q_uA (q_uA (q_uA q_AM 33 f27) 32 (fun _ => 0)) 32 (upd (upd (fun _ => 0) 0 (vp_nar .char ((((48 : Int32) + (a - a / 10 * 10)).toUInt32 % 65536).toInt32))) 1 32)) (q_uI (q_uI q_IM 0 39 0) 0 35 2) q_J0, 34, 31630))) 16 (fun _ _ => rfl) ?_
    refine q_Ru_seg (g2 := (42, [(3, .int 0), (2, .int 0), (0, .ref 64), (1, .int 0)], [.int 108, .ref 64], (q_cM (q_uA (q_uA (q_uA q_AM 33 f27) 32 (fun _ => 0)) 32 (upd (upd (fun _ => 0) 0 (vp_nar .char ((((48 : Int32) + (a - a / 10 * 10)).toUInt32 % 65536).toInt32))) 1 32)) (q_uI (q_uI q_IM 0 39 0) 0 35 2) q_J0, 34, 31630))) 1 (fun _ _ => rfl) ?_
    refine q_Ru_call (v := none) (h2 := (q_cM (q_uA (q_uA (q_uA q_AM 33 f27) 32 (fun _ => 0)) 32 (upd (upd (upd (fun _ => 0) 0 (vp_nar .char ((((48 : Int32) + (a - a / 10 * 10)).toUInt32 % 65536).toInt32))) 1 32) 2 108)) (q_uI (q_uI q_IM 0 39 0) 0 35 3) q_J0, 34, 31630)) rfl rfl ?_ ?_
    · refine q_Ca_of (Nat.le_of_ble_eq_true rfl) ?_
      refine q_Ru_seg (g2 := (8, [(0, .ref 64), (1, .int 108)], [.int 2, .ref 96], (q_cM (q_uA (q_uA (q_uA q_AM 33 f27) 32 (fun _ => 0)) 32 (upd (upd (fun _ => 0) 0 (vp_nar .char ((((48 : Int32) + (a - a / 10 * 10)).toUInt32 % 65536).toInt32))) 1 32)) (q_uI (q_uI q_IM 0 39 0) 0 35 2) q_J0, 34, 31630))) 4 (fun _ _ => rfl) ?_
      refine q_Ru_seg (g2 := (15, [(0, .ref 64), (1, .int 108)], [.int 2, .ref 64], (q_cM (q_uA (q_uA (q_uA q_AM 33 f27) 32 (fun _ => 0)) 32 (upd (upd (upd (fun _ => 0) 0 (vp_nar .char ((((48 : Int32) + (a - a / 10 * 10)).toUInt32 % 65536).toInt32))) 1 32) 2 108)) (q_uI (q_uI q_IM 0 39 0) 0 35 2) q_J0, 34, 31630))) 5 (fun _ _ => rfl) ?_
      refine q_Ru_seg (g2 := (20, [(0, .ref 64), (1, .int 108)], [], (q_cM (q_uA (q_uA (q_uA q_AM 33 f27) 32 (fun _ => 0)) 32 (upd (upd (upd (fun _ => 0) 0 (vp_nar .char ((((48 : Int32) + (a - a / 10 * 10)).toUInt32 % 65536).toInt32))) 1 32) 2 108)) (q_uI (q_uI q_IM 0 39 0) 0 35 3) q_J0, 34, 31630))) 3 (fun _ _ => rfl) ?_
      exact q_Ru_ret rfl rfl
    show q_Ru _ _ _ (45, [(3, .int 0), (2, .int 0), (0, .ref 64), (1, .int 0)], [], (q_cM (q_uA (q_uA (q_uA q_AM 33 f27) 32 (fun _ => 0)) 32 (upd (upd (upd (fun _ => 0) 0 (vp_nar .char ((((48 : Int32) + (a - a / 10 * 10)).toUInt32 % 65536).toInt32))) 1 32) 2 108)) (q_uI (q_uI q_IM 0 39 0) 0 35 3) q_J0, 34, 31630)) _
    refine q_Ru_seg (g2 := (26, [(3, .int 1), (2, .int 0), (0, .ref 64), (1, .int 0)], [.int 100, .ref 64], (q_cM (q_uA (q_uA (q_uA q_AM 33 f27) 32 (fun _ => 0)) 32 (upd (upd (upd (fun _ => 0) 0 (vp_nar .char ((((48 : Int32) + (a - a / 10 * 10)).toUInt32 % 65536).toInt32))) 1 32) 2 108)) (q_uI (q_uI q_IM 0 39 0) 0 35 3) q_J0, 34, 31630))) 15 (fun _ _ => rfl) ?_
    refine q_Ru_seg (g2 := (42, [(3, .int 1), (2, .int 0), (0, .ref 64), (1, .int 0)], [.int 100, .ref 64], (q_cM (q_uA (q_uA (q_uA q_AM 33 f27) 32 (fun _ => 0)) 32 (upd (upd (upd (fun _ => 0) 0 (vp_nar .char ((((48 : Int32) + (a - a / 10 * 10)).toUInt32 % 65536).toInt32))) 1 32) 2 108)) (q_uI (q_uI q_IM 0 39 0) 0 35 3) q_J0, 34, 31630))) 1 (fun _ _ => rfl) ?_
    refine q_Ru_call (v := none) (h2 := (q_cM (q_uA (q_uA (q_uA q_AM 33 f27) 32 (fun _ => 0)) 32 (upd (upd (upd (upd (fun _ => 0) 0 (vp_nar .char ((((48 : Int32) + (a - a / 10 * 10)).toUInt32 % 65536).toInt32))) 1 32) 2 108) 3 100)) (q_uI (q_uI q_IM 0 39 0) 0 35 4) q_J0, 34, 31630)) rfl rfl ?_ ?_
    · refine q_Ca_of (Nat.le_of_ble_eq_true rfl) ?_
      refine q_Ru_seg (g2 := (8, [(0, .ref 64), (1, .int 100)], [.int 3, .ref 96], (q_cM (q_uA (q_uA (q_uA q_AM 33 f27) 32 (fun _ => 0)) 32 (upd (upd (upd (fun _ => 0) 0 (vp_nar .char ((((48 : Int32) + (a - a / 10 * 10)).toUInt32 % 65536).toInt32))) 1 32) 2 108)) (q_uI (q_uI q_IM 0 39 0) 0 35 3) q_J0, 34, 31630))) 4 (fun _ _ => rfl) ?_
      refine q_Ru_seg (g2 := (15, [(0, .ref 64), (1, .int 100)], [.int 3, .ref 64], (q_cM (q_uA (q_uA (q_uA q_AM 33 f27) 32 (fun _ => 0)) 32 (upd (upd (upd (upd (fun _ => 0) 0 (vp_nar .char ((((48 : Int32) + (a - a / 10 * 10)).toUInt32 % 65536).toInt32))) 1 32) 2 108) 3 100)) (q_uI (q_uI q_IM 0 39 0) 0 35 3) q_J0, 34, 31630))) 5 (fun _ _ => rfl) ?_
      refine q_Ru_seg (g2 := (20, [(0, .ref 64), (1, .int 100)], [], (q_cM (q_uA (q_uA (q_uA q_AM 33 f27) 32 (fun _ => 0)) 32 (upd (upd (upd (upd (fun _ => 0) 0 (vp_nar .char ((((48 : Int32) + (a - a / 10 * 10)).toUInt32 % 65536).toInt32))) 1 32) 2 108) 3 100)) (q_uI (q_uI q_IM 0 39 0) 0 35 4) q_J0, 34, 31630))) 3 (fun _ _ => rfl) ?_
      exact q_Ru_ret rfl rfl
    show q_Ru _ _ _ (45, [(3, .int 1), (2, .int 0), (0, .ref 64), (1, .int 0)], [], (q_cM (q_uA (q_uA (q_uA q_AM 33 f27) 32 (fun _ => 0)) 32 (upd (upd (upd (upd (fun _ => 0) 0 (vp_nar .char ((((48 : Int32) + (a - a / 10 * 10)).toUInt32 % 65536).toInt32))) 1 32) 2 108) 3 100)) (q_uI (q_uI q_IM 0 39 0) 0 35 4) q_J0, 34, 31630)) _
    refine q_Ru_seg (g2 := (26, [(3, .int 2), (2, .int 0), (0, .ref 64), (1, .int 0)], [.int 97, .ref 64], (q_cM (q_uA (q_uA (q_uA q_AM 33 f27) 32 (fun _ => 0)) 32 (upd (upd (upd (upd (fun _ => 0) 0 (vp_nar .char ((((48 : Int32) + (a - a / 10 * 10)).toUInt32 % 65536).toInt32))) 1 32) 2 108) 3 100)) (q_uI (q_uI q_IM 0 39 0) 0 35 4) q_J0, 34, 31630))) 15 (fun _ _ => rfl) ?_
    refine q_Ru_seg (g2 := (42, [(3, .int 2), (2, .int 0), (0, .ref 64), (1, .int 0)], [.int 97, .ref 64], (q_cM (q_uA (q_uA (q_uA q_AM 33 f27) 32 (fun _ => 0)) 32 (upd (upd (upd (upd (fun _ => 0) 0 (vp_nar .char ((((48 : Int32) + (a - a / 10 * 10)).toUInt32 % 65536).toInt32))) 1 32) 2 108) 3 100)) (q_uI (q_uI q_IM 0 39 0) 0 35 4) q_J0, 34, 31630))) 1 (fun _ _ => rfl) ?_
    refine q_Ru_call (v := none) (h2 := (q_cM (q_uA (q_uA (q_uA q_AM 33 f27) 32 (fun _ => 0)) 32 (upd (upd (upd (upd (upd (fun _ => 0) 0 (vp_nar .char ((((48 : Int32) + (a - a / 10 * 10)).toUInt32 % 65536).toInt32))) 1 32) 2 108) 3 100) 4 97)) (q_uI (q_uI q_IM 0 39 0) 0 35 5) q_J0, 34, 31630)) rfl rfl ?_ ?_
    · refine q_Ca_of (Nat.le_of_ble_eq_true rfl) ?_
      refine q_Ru_seg (g2 := (8, [(0, .ref 64), (1, .int 97)], [.int 4, .ref 96], (q_cM (q_uA (q_uA (q_uA q_AM 33 f27) 32 (fun _ => 0)) 32 (upd (upd (upd (upd (fun _ => 0) 0 (vp_nar .char ((((48 : Int32) + (a - a / 10 * 10)).toUInt32 % 65536).toInt32))) 1 32) 2 108) 3 100)) (q_uI (q_uI q_IM 0 39 0) 0 35 4) q_J0, 34, 31630))) 4 (fun _ _ => rfl) ?_
      refine q_Ru_seg (g2 := (15, [(0, .ref 64), (1, .int 97)], [.int 4, .ref 64], (q_cM (q_uA (q_uA (q_uA q_AM 33 f27) 32 (fun _ => 0)) 32 (upd (upd (upd (upd (upd (fun _ => 0) 0 (vp_nar .char ((((48 : Int32) + (a - a / 10 * 10)).toUInt32 % 65536).toInt32))) 1 32) 2 108) 3 100) 4 97)) (q_uI (q_uI q_IM 0 39 0) 0 35 4) q_J0, 34, 31630))) 5 (fun _ _ => rfl) ?_
      refine q_Ru_seg (g2 := (20, [(0, .ref 64), (1, .int 97)], [], (q_cM (q_uA (q_uA (q_uA q_AM 33 f27) 32 (fun _ => 0)) 32 (upd (upd (upd (upd (upd (fun _ => 0) 0 (vp_nar .char ((((48 : Int32) + (a - a / 10 * 10)).toUInt32 % 65536).toInt32))) 1 32) 2 108) 3 100) 4 97)) (q_uI (q_uI q_IM 0 39 0) 0 35 5) q_J0, 34, 31630))) 3 (fun _ _ => rfl) ?_
      exact q_Ru_ret rfl rfl
    show q_Ru _ _ _ (45, [(3, .int 2), (2, .int 0), (0, .ref 64), (1, .int 0)], [], (q_cM (q_uA (q_uA (q_uA q_AM 33 f27) 32 (fun _ => 0)) 32 (upd (upd (upd (upd (upd (fun _ => 0) 0 (vp_nar .char ((((48 : Int32) + (a - a / 10 * 10)).toUInt32 % 65536).toInt32))) 1 32) 2 108) 3 100) 4 97)) (q_uI (q_uI q_IM 0 39 0) 0 35 5) q_J0, 34, 31630)) _
    refine q_Ru_seg (g2 := (51, [(3, .int 3), (2, .int 0), (0, .ref 64), (1, .int 0)], [], (q_cM (q_uA (q_uA (q_uA q_AM 33 f27) 32 (fun _ => 0)) 32 (upd (upd (upd (upd (upd (fun _ => 0) 0 (vp_nar .char ((((48 : Int32) + (a - a / 10 * 10)).toUInt32 % 65536).toInt32))) 1 32) 2 108) 3 100) 4 97)) (q_uI (q_uI q_IM 0 39 0) 0 35 5) q_J0, 34, 31630))) 5 (fun _ _ => rfl) ?_
    exact q_Ru_ret rfl rfl
  show q_Ru _ _ _ (78, [(2, .int 0), (0, .ref 64), (1, .int a)], [], (q_cM (q_uA (q_uA (q_uA q_AM 33 f27) 32 (fun _ => 0)) 32 (upd (upd (upd (upd (upd (fun _ => 0) 0 (vp_nar .char ((((48 : Int32) + (a - a / 10 * 10)).toUInt32 % 65536).toInt32))) 1 32) 2 108) 3 100) 4 97)) (q_uI (q_uI q_IM 0 39 0) 0 35 5) q_J0, 34, 31630)) _
  refine q_Ru_seg (g2 := (79, [(2, .int 0), (0, .ref 64), (1, .int a)], [.int 0], (q_cM (q_uA (q_uA (q_uA q_AM 33 f27) 32 (fun _ => 0)) 32 (upd (upd (upd (upd (upd (fun _ => 0) 0 (vp_nar .char ((((48 : Int32) + (a - a / 10 * 10)).toUInt32 % 65536).toInt32))) 1 32) 2 108) 3 100) 4 97)) (q_uI (q_uI q_IM 0 39 0) 0 35 5) q_J0, 34, 31630))) 1 (fun _ _ => rfl) ?_
  refine q_Ru_call (v := (some (.int 0))) (h2 := (q_cM (q_uA (q_uA (q_uA q_AM 33 f27) 32 (fun _ => 0)) 32 (upd (upd (upd (upd (upd (fun _ => 0) 0 (vp_nar .char ((((48 : Int32) + (a - a / 10 * 10)).toUInt32 % 65536).toInt32))) 1 32) 2 108) 3 100) 4 97)) (q_uI (q_uI q_IM 0 39 0) 0 35 5) q_J0, 34, 31630)) rfl rfl ?_ ?_
  · refine q_Ca_of (Nat.le_of_ble_eq_true rfl) ?_
    refine q_Ru_seg (g2 := (42, [(0, .int 0)], [.int 0], (q_cM (q_uA (q_uA (q_uA q_AM 33 f27) 32 (fun _ => 0)) 32 (upd (upd (upd (upd (upd (fun _ => 0) 0 (vp_nar .char ((((48 : Int32) + (a - a / 10 * 10)).toUInt32 % 65536).toInt32))) 1 32) 2 108) 3 100) 4 97)) (q_uI (q_uI q_IM 0 39 0) 0 35 5) q_J0, 34, 31630))) 7 (fun _ _ => rfl) ?_
    exact q_Ru_ret rfl rfl
  show q_Ru _ _ _ (82, [(2, .int 0), (0, .ref 64), (1, .int a)], [.int 0], (q_cM (q_uA (q_uA (q_uA q_AM 33 f27) 32 (fun _ => 0)) 32 (upd (upd (upd (upd (upd (fun _ => 0) 0 (vp_nar .char ((((48 : Int32) + (a - a / 10 * 10)).toUInt32 % 65536).toInt32))) 1 32) 2 108) 3 100) 4 97)) (q_uI (q_uI q_IM 0 39 0) 0 35 5) q_J0, 34, 31630)) _
  exact q_Ru_le (Nat.le_of_ble_eq_true rfl) (q_xc196 L xs a hl_a hu_a f27 f28 p28)
set_option maxHeartbeats 20000000 in
theorem q_xc198 (L : Nat) (xs : Nat → Int32) (a : Int32) (hl_a : 0 ≤ a.toInt) (hu_a : a.toInt ≤ 9) (f27 : Nat → Int32) (f28 : Nat → Int32) (h209 : decide (a < 10) = true) (p27 : q_Ca q_TB0 4 214 [.ref 64, .int (a &&& 4095)] (q_cM (q_uA (q_uA q_AM 33 (fun _ => 0)) 32 (fun _ => 0)) (q_uI q_IM 0 39 0) q_J0, 34, 31630) (.inl (some (.int 0)), (q_cM (q_uA (q_uA q_AM 33 f27) 32 (fun _ => 0)) (q_uI q_IM 0 39 0) q_J0, 34, 31630))) (p28 : q_Ca q_TB0 4 214 [.ref 64, .int ((a + 1) &&& 4095)] (q_cM (q_uA (q_uA q_AM 33 f27) 32 (upd (upd (upd (upd (upd (upd (upd (fun _ => 0) 0 (vp_nar .char ((((48 : Int32) + (a - a / 10 * 10)).toUInt32 % 65536).toInt32))) 1 32) 2 108) 3 100) 4 97) 5 32) 6 35)) (q_uI (q_uI q_IM 0 39 0) 0 35 7) q_J0, 34, 31630) (.inl (some (.int 0)), (q_cM (q_uA (q_uA q_AM 33 f28) 32 (upd (upd (upd (upd (upd (upd (upd (fun _ => 0) 0 (vp_nar .char ((((48 : Int32) + (a - a / 10 * 10)).toUInt32 % 65536).toInt32))) 1 32) 2 108) 3 100) 4 97) 5 32) 6 35)) (q_uI (q_uI q_IM 0 39 0) 0 35 7) q_J0, 34, 31630))) : q_Ru q_TB0 8 286 (16, [(0, .ref 64), (1, .int a)], [.int 0], (q_cM q_AM (q_uI q_IM 0 39 0) q_J0, 34, 31630)) (.inl (some (.int 8)), (q_cM (q_uA (q_uA (q_uA q_AM 33 f28) 32 (upd (upd (upd (upd (upd (upd (upd (fun _ => 0) 0 (vp_nar .char ((((48 : Int32) + (a - a / 10 * 10)).toUInt32 % 65536).toInt32))) 1 32) 2 108) 3 100) 4 97) 5 32) 6 35)) 32 (upd (upd (upd (upd (upd (upd (upd (upd (fun _ => 0) 0 (vp_nar .char ((((48 : Int32) + (a - a / 10 * 10)).toUInt32 % 65536).toInt32))) 1 32) 2 108) 3 100) 4 97) 5 32) 6 35) 7 48)) (q_uI (q_uI q_IM 0 39 0) 0 35 8) q_J0, 34, 31630)) := by
  refine q_Ru_seg (g2 := (23, [(0, .ref 64), (1, .int a)], [.int a, .ref 64], (q_cM q_AM (q_uI q_IM 0 39 0) q_J0, 34, 31630))) 3 (fun _ _ => rfl) ?_
  refine q_Ru_call (v := (some (.int 0))) (h2 := (q_cM (q_uA (q_uA q_AM 33 f27) 32 (fun _ => 0)) (q_uI q_IM 0 39 0) q_J0, 34, 31630)) rfl rfl ?_ ?_
  · refine q_Ca_of (Nat.le_of_ble_eq_true rfl) ?_
    refine q_Ru_seg (g2 := (2, [(0, .ref 64), (1, .int a)], [.int a, .ref 64], (q_cM q_AM (q_uI q_IM 0 39 0) q_J0, 34, 31630))) 2 (fun _ _ => rfl) ?_
    refine q_Ru_call (v := (some (.int (a &&& 4095)))) (h2 := (q_cM q_AM (q_uI q_IM 0 39 0) q_J0, 34, 31630)) rfl rfl ?_ ?_
    · refine q_Ca_of (Nat.le_of_ble_eq_true rfl) ?_
      refine q_Ru_seg (g2 := (5, [(0, .int a)], [.int (a &&& 4095)], (q_cM q_AM (q_uI q_IM 0 39 0) q_J0, 34, 31630))) 3 (fun _ _ => rfl) ?_
      exact q_Ru_ret rfl rfl
    show q_Ru _ _ _ (5, [(0, .ref 64), (1, .int a)], [.int (a &&& 4095), .ref 64], (q_cM q_AM (q_uI q_IM 0 39 0) q_J0, 34, 31630)) _
    refine q_Ru_call (v := (some (.int 0))) (h2 := (q_cM (q_uA (q_uA q_AM 33 f27) 32 (fun _ => 0)) (q_uI q_IM 0 39 0) q_J0, 34, 31630)) rfl rfl ?_ ?_
    · exact p27.le (Nat.le_of_ble_eq_true rfl)
    show q_Ru _ _ _ (8, [(0, .ref 64), (1, .int a)], [.int 0], (q_cM (q_uA (q_uA q_AM 33 f27) 32 (fun _ => 0)) (q_uI q_IM 0 39 0) q_J0, 34, 31630)) _
    exact q_Ru_ret rfl rfl
  show q_Ru _ _ _ (26, [(0, .ref 64), (1, .int a)], [.int 0], (q_cM (q_uA (q_uA q_AM 33 f27) 32 (fun _ => 0)) (q_uI q_IM 0 39 0) q_J0, 34, 31630)) _
  refine q_Ru_seg (g2 := (34, [(2, .int 0), (0, .ref 64), (1, .int a)], [.int a, .ref 64], (q_cM (q_uA (q_uA q_AM 33 f27) 32 (fun _ => 0)) (q_uI (q_uI q_IM 0 39 0) 0 35 0) q_J0, 34, 31630))) 6 (fun _ _ => rfl) ?_
  refine q_Ru_call (v := none) (h2 := (q_cM (q_uA (q_uA (q_uA q_AM 33 f27) 32 (fun _ => 0)) 32 (upd (fun _ => 0) 0 (vp_nar .char ((((48 : Int32) + (a - a / 10 * 10)).toUInt32 % 65536).toInt32)))) (q_uI (q_uI q_IM 0 39 0) 0 35 1) q_J0, 34, 31630)) rfl rfl ?_ ?_
  · refine q_Ca_of (Nat.le_of_ble_eq_true rfl) ?_
    refine q_Ru_seg (g2 := (3, [(0, .ref 64), (1, .int a)], [.int 10, .int a], (q_cM (q_uA (q_uA q_AM 33 f27) 32 (fun _ => 0)) (q_uI (q_uI q_IM 0 39 0) 0 35 0) q_J0, 34, 31630))) 2 (fun _ _ => rfl) ?_
    refine q_Ru_rsT (g2 := (14, [(0, .ref 64), (1, .int a)], [], (q_cM (q_uA (q_uA q_AM 33 f27) 32 (fun _ => 0)) (q_uI (q_uI q_IM 0 39 0) 0 35 0) q_J0, 34, 31630))) rfl rfl h209 ?_
    refine q_Ru_seg (g2 := (23, [(0, .ref 64), (1, .int a)], [.int ((((48 : Int32) + (a - a / 10 * 10)).toUInt32 % 65536).toInt32), .ref 64], (q_cM (q_uA (q_uA q_AM 33 f27) 32 (fun _ => 0)) (q_uI (q_uI q_IM 0 39 0) 0 35 0) q_J0, 34, 31630))) 7 (fun _ _ => rfl) ?_
    refine q_Ru_call (v := none) (h2 := (q_cM (q_uA (q_uA (q_uA q_AM 33 f27) 32 (fun _ => 0)) 32 (upd (fun _ => 0) 0 (vp_nar .char ((((48 : Int32) + (a - a / 10 * 10)).toUInt32 % 65536).toInt32)))) (q_uI (q_uI q_IM 0 39 0) 0 35 1) q_J0, 34, 31630)) rfl rfl ?_ ?_
    · refine q_Ca_of (Nat.le_of_ble_eq_true rfl) ?_
      refine q_Ru_seg (g2 := (8, [(0, .ref 64), (1, .int ((((48 : Int32) + (a - a / 10 * 10)).toUInt32 % 65536).toInt32))], [.int 0, .ref 96], (q_cM (q_uA (q_uA q_AM 33 f27) 32 (fun _ => 0)) (q_uI (q_uI q_IM 0 39 0) 0 35 0) q_J0, 34, 31630))) 4 (fun _ _ => rfl) ?_
      refine q_Ru_seg (g2 := (15, [(0, .ref 64), (1, .int ((((48 : Int32) + (a - a / 10 * 10)).toUInt32 % 65536).toInt32))], [.int 0, .ref 64], (q_cM (q_uA (q_uA (q_uA q_AM 33 f27) 32 (fun _ => 0)) 32 (upd (fun _ => 0) 0 (vp_nar .char ((((48 : Int32) + (a - a / 10 * 10)).toUInt32 % 65536).toInt32)))) (q_uI (q_uI q_IM 0 39 0) 0 35 0) q_J0, 34, 31630))) 5 (fun _ _ => rfl) ?_
      refine q_Ru_seg (g2 := (20, [(0, .ref 64), (1, .int ((((48 : Int32) + (a - a / 10 * 10)).toUInt32 % 65536).toInt32))], [], (q_cM (q_uA (q_uA (q_uA q_AM 33 f27) 32 (fun _ => 0)) 32 (upd (fun _ => 0) 0 (vp_nar .char ((((48 : Int32) + (a - a / 10 * 10)).toUInt32 % 65536).toInt32)))) (q_uI (q_uI q_IM 0 39 0) 0 35 1) q_J0, 34, 31630))) 3 (fun _ _ => rfl) ?_
      exact q_Ru_ret rfl rfl
    show q_Ru _ _ _ (26, [(0, .ref 64), (1, .int a)], [], (q_cM (q_uA (q_uA (q_uA q_AM 33 f27) 32 (fun _ => 0)) 32 (upd (fun _ => 0) 0 (vp_nar .char ((((48 : Int32) + (a - a / 10 * 10)).toUInt32 % 65536).toInt32)))) (q_uI (q_uI q_IM 0 39 0) 0 35 1) q_J0, 34, 31630)) _
    exact q_Ru_ret rfl rfl
  show q_Ru _ _ _ (37, [(2, .int 0), (0, .ref 64), (1, .int a)], [], (q_cM (q_uA (q_uA (q_uA q_AM 33 f27) 32 (fun _ => 0)) 32 (upd (fun _ => 0) 0 (vp_nar .char ((((48 : Int32) + (a - a / 10 * 10)).toUInt32 % 65536).toInt32)))) (q_uI (q_uI q_IM 0 39 0) 0 35 1) q_J0, 34, 31630)) _
  refine q_Ru_seg (g2 := (40, [(2, .int 0), (0, .ref 64), (1, .int a)], [.int 32, .ref 64], (q_cM (q_uA (q_uA (q_uA q_AM 33 f27) 32 (fun _ => 0)) 32 (upd (fun _ => 0) 0 (vp_nar .char ((((48 : Int32) + (a - a / 10 * 10)).toUInt32 % 65536).toInt32)))) (q_uI (q_uI q_IM 0 39 0) 0 35 1) q_J0, 34, 31630))) 2 (fun _ _ => rfl) ?_
  refine q_Ru_call (v := none) (h2 := (q_cM (q_uA (q_uA (q_uA q_AM 33 f27) 32 (fun _ => 0)) 32 (upd (upd (fun _ => 0) 0 (vp_nar .char ((((48 : Int32) + (a - a / 10 * 10)).toUInt32 % 65536).toInt32))) 1 32)) (q_uI (q_uI q_IM 0 39 0) 0 35 2) q_J0, 34, 31630)) rfl rfl ?_ ?_
  · refine q_Ca_of (Nat.le_of_ble_eq_true rfl) ?_
    refine q_Ru_seg (g2 := (8, [(0, .ref 64), (1, .int 32)], [.int 1, .ref 96], (q_cM (q_uA (q_uA (q_uA q_AM 33 f27) 32 (fun _ => 0)) 32 (upd (fun _ => 0) 0 (vp_nar .char ((((48 : Int32) + (a - a / 10 * 10)).toUInt32 % 65536).toInt32)))) (q_uI (q_uI q_IM 0 39 0) 0 35 1) q_J0, 34, 31630))) 4 (fun _ _ => rfl) ?_
    refine q_Ru_seg (g2 := (15, [(0, .ref 64), (1, .int 32)], [.int 1, .ref 64], (q_cM (q_uA (q_uA (q_uA q_AM 33 f27) 32 (fun _ => 0)) 32 (upd (upd (fun _ => 0) 0 (vp_nar .char ((((48 : Int32) + (a - a / 10 * 10)).toUInt32 % 65536).toInt32))) 1 32)) (q_uI (q_uI q_IM 0 39 0) 0 35 1) q_J0, 34, 31630))) 5 (fun _ _ => rfl) ?_
    refine q_Ru_seg (g2 := (20, [(0, .ref 64), (1, .int 32)], [], (q_cM (q_uA (q_uA (q_uA q_AM 33 f27) 32 (fun _ => 0)) 32 (upd (upd (fun _ => 0) 0 (vp_nar .char ((((48 : Int32) + (a - a / 10 * 10)).toUInt32 % 65536).toInt32))) 1 32)) (q_uI (q_uI q_IM 0 39 0) 0 35 2) q_J0, 34, 31630))) 3 (fun _ _ => rfl) ?_
    exact q_Ru_ret rfl rfl
  show q_Ru _ _ _ (43, [(2, .int 0), (0, .ref 64), (1, .int a)], [], (q_cM (q_uA (q_uA (q_uA q_AM 33 f27) 32 (fun _ => 0)) 32 (upd (upd (fun _ => 0) 0 (vp_nar .char ((((48 : Int32) + (a - a / 10 * 10)).toUInt32 % 65536).toInt32))) 1 32)) (q_uI (q_uI q_IM 0 39 0) 0 35 2) q_J0, 34, 31630)) _
  refine q_Ru_seg (g2 := (44, [(2, .int 0), (0, .ref 64), (1, .int a)], [.int 0], (q_cM (q_uA (q_uA (q_uA q_AM 33 f27) 32 (fun _ => 0)) 32 (upd (upd (fun _ => 0) 0 (vp_nar .char ((((48 : Int32) + (a - a / 10 * 10)).toUInt32 % 65536).toInt32))) 1 32)) (q_uI (q_uI q_IM 0 39 0) 0 35 2) q_J0, 34, 31630))) 1 (fun _ _ => rfl) ?_
  refine q_Ru_call (v := (some (.int 0))) (h2 := (q_cM (q_uA (q_uA (q_uA q_AM 33 f27) 32 (fun _ => 0)) 32 (upd (upd (fun _ => 0) 0 (vp_nar .char ((((48 : Int32) + (a - a / 10 * 10)).toUInt32 % 65536).toInt32))) 1 32)) (q_uI (q_uI q_IM 0 39 0) 0 35 2) q_J0, 34, 31630)) rfl rfl ?_ ?_
  · refine q_Ca_of (Nat.le_of_ble_eq_true rfl) ?_
    refine q_Ru_seg (g2 := (1, [(0, .int 0)], [.int 0], (q_cM (q_uA (q_uA (q_uA q_AM 33 f27) 32 (fun _ => 0)) 32 (upd (upd (fun _ => 0) 0 (vp_nar .char ((((48 : Int32) + (a - a / 10 * 10)).toUInt32 % 65536).toInt32))) 1 32)) (q_uI (q_uI q_IM 0 39 0) 0 35 2) q_J0, 34, 31630))) 1 (fun _ _ => rfl) ?_
    refine q_Ru_call (v := (some (.int 0))) (h2 := (q_cM (q_uA (q_uA (q_uA q_AM 33 f27) 32 (fun _ => 0)) 32 (upd (upd (fun _ => 0) 0 (vp_nar .char ((((48 : Int32) + (a - a / 10 * 10)).toUInt32 % 65536).toInt32))) 1 32)) (q_uI (q_uI q_IM 0 39 0) 0 35 2) q_J0, 34, 31630)) rfl rfl ?_ ?_
    · refine q_Ca_of (Nat.le_of_ble_eq_true rfl) ?_
      refine q_Ru_seg (g2 := (42, [(0, .int 0)], [.int 0], (q_cM (q_uA (q_uA (q_uA q_AM 33 f27) 32 (fun _ => 0)) 32 (upd (upd (fun _ => 0) 0 (vp_nar .char ((((48 : Int32) + (a - a / 10 * 10)).toUInt32 % 65536).toInt32))) 1 32)) (q_uI (q_uI q_IM 0 39 0) 0 35 2) q_J0, 34, 31630))) 7 (fun _ _ => rfl) ?_
      exact q_Ru_ret rfl rfl
    show q_Ru _ _ _ (4, [(0, .int 0)], [.int 0], (q_cM (q_uA (q_uA (q_uA q_AM 33 f27) 32 (fun _ => 0)) 32 (upd (upd (fun _ => 0) 0 (vp_nar .char ((((48 : Int32) + (a - a / 10 * 10)).toUInt32 % 65536).toInt32))) 1 32)) (q_uI (q_uI q_IM 0 39 0) 0 35 2) q_J0, 34, 31630)) _
    refine q_Ru_seg (g2 := (25, [(0, .int 0)], [.int 0], (q_cM (q_uA (q_uA (q_uA q_AM 33 f27) 32 (fun _ => 0)) 32 (upd (upd (fun _ => 0) 0 (vp_nar .char ((((48 : Int32) + (a - a / 10 * 10)).toUInt32 % 65536).toInt32))) 1 32)) (q_uI (q_uI q_IM 0 39 0) 0 35 2) q_J0, 34, 31630))) 2 (fun _ _ => rfl) ?_
    exact q_Ru_ret rfl rfl
  show q_Ru _ _ _ (47, [(2, .int 0), (0, .ref 64), (1, .int a)], [.int 0], (q_cM (q_uA (q_uA (q_uA q_AM 33 f27) 32 (fun _ => 0)) 32 (upd (upd (fun _ => 0) 0 (vp_nar .char ((((48 : Int32) + (a - a / 10 * 10)).toUInt32 % 65536).toInt32))) 1 32)) (q_uI (q_uI q_IM 0 39 0) 0 35 2) q_J0, 34, 31630)) _
  exact q_Ru_le (Nat.le_of_ble_eq_true rfl) (q_xc197 L xs a hl_a hu_a f27 f28 p28)
set_option maxHeartbeats 20000000 in
theorem q_op_writeLine99_0 (L : Nat) (xs : Nat → Int32) (a : Int32) (hl_a : 0 ≤ a.toInt) (hu_a : a.toInt ≤ 9) : ∃ (r b : Int32) (w : Int64), q_opXT (q_TBs 99 L xs) 6 [.int a] r w ∧ q_opM 286 [.int a] r (.int b) ∧ (r = 0 → w = b.toInt64) := by
  have h203 : decide (a < 0) = false := q_not_tr (q_tbl1 (fun a => !decide (a < 0)) (l := 0) (n := 9) (by decide +kernel) hl_a hu_a)
  have h204 : decide (a < 4096) = true := q_tbl1 (fun a => decide (a < 4096)) (l := 0) (n := 9) (by decide +kernel) hl_a hu_a
  have h205 : decide ((-10) < -a) = true := q_tbl1 (fun a => decide ((-10) < -a)) (l := 0) (n := 9) (by decide +kernel) hl_a hu_a
  have h206 : decide ((-100) < -a) = true := q_tbl1 (fun a => decide ((-100) < -a)) (l := 0) (n := 9) (by decide +kernel) hl_a hu_a
  have h207 : decide (-a < (-9)) = false := q_not_tr (q_tbl1 (fun a => !decide (-a < (-9))) (l := 0) (n := 9) (by decide +kernel) hl_a hu_a)
  have h208 : decide (4095 < a) = false := q_not_tr (q_tbl1 (fun a => !decide (4095 < a)) (l := 0) (n := 9) (by decide +kernel) hl_a hu_a)
  have h209 : decide (a < 10) = true := q_tbl1 (fun a => decide (a < 10)) (l := 0) (n := 9) (by decide +kernel) hl_a hu_a
  obtain ⟨f27, p27⟩ := q_p_reads1 (fun _ => 0) (fun _ => 0) (q_uI q_IM 0 39 0) (a &&& 4095) (q_and_lo a 4095) (q_and_hi a 4095 4095)
  obtain ⟨f28, p28⟩ := q_p_reads1 f27 (upd (upd (upd (upd (upd (upd (upd (fun _ => 0) 0 (vp_nar .char ((((48 : Int32) + (a - a / 10 * 10)).toUInt32 % 65536).toInt32))) 1 32) 2 108) 3 100) 4 97) 5 32) 6 35) (q_uI (q_uI q_IM 0 39 0) 0 35 7) ((a + 1) &&& 4095) (q_and_lo (a + 1) 4095) (q_and_hi (a + 1) 4095 4095)
  refine ⟨0, 8, 8, ⟨(q_cX (q_uA q_AX 35 (upd (upd (upd (upd (upd (upd (upd (upd (fun _ => 0) 0 (vp_nar .byte ((fun j => q_o6.getD j 0) ((-(-a)).toNatClampNeg)))) 1 32) 2 108) 3 100) 4 97) 5 32) 6 35) 7 48)) (q_uI q_IX 34 3 8) (q_uA q_J0 39 (vp_updL (fun _ => 0) 0 8)), 40, 26520), (q_uA q_J0 39 (vp_updL (fun _ => 0) 0 8)) 39, ?_, rfl, fun _ => rfl, Nat.le_of_ble_eq_true rfl, Nat.le_of_ble_eq_true rfl⟩, ⟨(q_cM (q_uA (q_uA (q_uA q_AM 33 f28) 32 (upd (upd (upd (upd (upd (upd (upd (fun _ => 0) 0 (vp_nar .char ((((48 : Int32) + (a - a / 10 * 10)).toUInt32 % 65536).toInt32))) 1 32) 2 108) 3 100) 4 97) 5 32) 6 35)) 32 (upd (upd (upd (upd (upd (upd (upd (upd (fun _ => 0) 0 (vp_nar .char ((((48 : Int32) + (a - a / 10 * 10)).toUInt32 % 65536).toInt32))) 1 32) 2 108) 3 100) 4 97) 5 32) 6 35) 7 48)) (q_uI (q_uI q_IM 0 39 0) 0 35 8) q_J0, 34, 31630), _, ?_, rfl, rfl, Nat.le_of_ble_eq_true rfl, Nat.le_of_ble_eq_true rfl⟩, fun _ => rfl⟩
  · refine q_Ca_of (Nat.le_of_ble_eq_true rfl) ?_
    refine q_Ru_seg (g2 := (4, [(0, .ref 64), (1, .int a), (2, .ref 103)], [.int a, .ref 64, .int 0, .ref 103], (q_cX q_AX q_IX q_J0, 40, 26520))) 4 (fun _ _ => rfl) ?_
    refine q_Ru_call (v := (some (.int 8))) (h2 := (q_cX (q_uA q_AX 35 (upd (upd (upd (upd (upd (upd (upd (upd (fun _ => 0) 0 (vp_nar .byte ((fun j => q_o6.getD j 0) ((-(-a)).toNatClampNeg)))) 1 32) 2 108) 3 100) 4 97) 5 32) 6 35) 7 48)) (q_uI q_IX 34 3 8) q_J0, 40, 26520)) rfl rfl ?_ ?_
    · refine q_Ca_of (Nat.le_of_ble_eq_true rfl) ?_
      refine q_Ru_seg (g2 := (1, [(0, .ref 64), (1, .int a)], [.int a], (q_cX q_AX q_IX q_J0, 40, 26520))) 1 (fun _ _ => rfl) ?_
      refine q_Ru_call (v := none) (h2 := (q_cX q_AX q_IX q_J0, 40, 26520)) rfl rfl ?_ ?_
      · refine q_Ca_of (Nat.le_of_ble_eq_true rfl) ?_
        refine q_Ru_seg (g2 := (4, [(0, .int a)], [.int 4096, .int a], (q_cX q_AX q_IX q_J0, 40, 26520))) 2 (fun _ _ => rfl) ?_
        refine q_Ru_call (v := none) (h2 := (q_cX q_AX q_IX q_J0, 40, 26520)) rfl rfl ?_ ?_
        · refine q_Ca_of (Nat.le_of_ble_eq_true rfl) ?_
          refine q_Ru_seg (g2 := (1, [(0, .int a), (1, .int 4096)], [.int a], (q_cX q_AX q_IX q_J0, 40, 26520))) 1 (fun _ _ => rfl) ?_
          refine q_Ru_rsF (g2 := (4, [(0, .int a), (1, .int 4096)], [], (q_cX q_AX q_IX q_J0, 40, 26520))) rfl rfl h203 ?_
          refine q_Ru_seg (g2 := (6, [(0, .int a), (1, .int 4096)], [.int 4096, .int a], (q_cX q_AX q_IX q_J0, 40, 26520))) 2 (fun _ _ => rfl) ?_
          refine q_Ru_rsT (g2 := (19, [(0, .int a), (1, .int 4096)], [], (q_cX q_AX q_IX q_J0, 40, 26520))) rfl rfl h204 ?_
          exact q_Ru_ret rfl rfl
        show q_Ru _ _ _ (7, [(0, .int a)], [], (q_cX q_AX q_IX q_J0, 40, 26520)) _
        exact q_Ru_ret rfl rfl
      show q_Ru _ _ _ (4, [(0, .ref 64), (1, .int a)], [], (q_cX q_AX q_IX q_J0, 40, 26520)) _
      exact q_Ru_le (Nat.le_of_ble_eq_true rfl) (q_xc195 L xs a hl_a hu_a h203 h205 h206 h207)
    show q_Ru _ _ _ (7, [(0, .ref 64), (1, .int a), (2, .ref 103)], [.int 8, .int 0, .ref 103], (q_cX (q_uA q_AX 35 (upd (upd (upd (upd (upd (upd (upd (upd (fun _ => 0) 0 (vp_nar .byte ((fun j => q_o6.getD j 0) ((-(-a)).toNatClampNeg)))) 1 32) 2 108) 3 100) 4 97) 5 32) 6 35) 7 48)) (q_uI q_IX 34 3 8) q_J0, 40, 26520)) _
    generalize (upd (upd (upd (upd (upd (upd (upd (upd (fun _ => 0) 0 (vp_nar .byte ((fun j => q_o6.getD j 0) ((-(-a)).toNatClampNeg)))) 1 32) 2 108) 3 100) 4 97) 5 32) 6 35) 7 48) = w455
    refine q_Ru_seg (g2 := (16, [(0, .ref 64), (1, .int a), (2, .ref 103)], [.int 0], (q_cX (q_uA q_AX 35 w455) (q_uI q_IX 34 3 8) (q_uA q_J0 39 (vp_updL (fun _ => 0) 0 8)), 40, 26520))) 4 (fun _ _ => rfl) ?_
    exact q_Ru_ret rfl rfl
  · refine q_Ca_of (Nat.le_of_ble_eq_true rfl) ?_
    refine q_Ru_seg (g2 := (2, [(0, .ref 64), (1, .int a)], [.int a, .ref 64], (q_cM q_AM q_IM q_J0, 34, 31630))) 2 (fun _ _ => rfl) ?_
    refine q_Ru_call (v := (some (.int 0))) (h2 := (q_cM q_AM q_IM q_J0, 34, 31630)) rfl rfl ?_ ?_
    · refine q_Ca_of (Nat.le_of_ble_eq_true rfl) ?_
      refine q_Ru_seg (g2 := (5, [(0, .int a)], [.int 4095, .int 0, .int a], (q_cM q_AM q_IM q_J0, 34, 31630))) 3 (fun _ _ => rfl) ?_
      refine q_Ru_call (v := (some (.int 1))) (h2 := (q_cM q_AM q_IM q_J0, 34, 31630)) rfl rfl ?_ ?_
      · refine q_Ca_of (Nat.le_of_ble_eq_true rfl) ?_
        refine q_Ru_seg (g2 := (2, [(0, .int a), (1, .int 0), (2, .int 4095)], [.int 0, .int a], (q_cM q_AM q_IM q_J0, 34, 31630))) 2 (fun _ _ => rfl) ?_
        refine q_Ru_rsF (g2 := (5, [(0, .int a), (1, .int 0), (2, .int 4095)], [], (q_cM q_AM q_IM q_J0, 34, 31630))) rfl rfl h203 ?_
        refine q_Ru_seg (g2 := (7, [(0, .int a), (1, .int 0), (2, .int 4095)], [.int 4095, .int a], (q_cM q_AM q_IM q_J0, 34, 31630))) 2 (fun _ _ => rfl) ?_
        refine q_Ru_rsF (g2 := (10, [(0, .int a), (1, .int 0), (2, .int 4095)], [], (q_cM q_AM q_IM q_J0, 34, 31630))) rfl rfl h208 ?_
        refine q_Ru_seg (g2 := (15, [(0, .int a), (1, .int 0), (2, .int 4095)], [.int 1], (q_cM q_AM q_IM q_J0, 34, 31630))) 2 (fun _ _ => rfl) ?_
        exact q_Ru_ret rfl rfl
      show q_Ru _ _ _ (8, [(0, .int a)], [.int 1], (q_cM q_AM q_IM q_J0, 34, 31630)) _
      refine q_Ru_seg (g2 := (16, [(0, .int a)], [.int 0], (q_cM q_AM q_IM q_J0, 34, 31630))) 2 (fun _ _ => rfl) ?_
      exact q_Ru_ret rfl rfl
    show q_Ru _ _ _ (5, [(0, .ref 64), (1, .int a)], [.int 0, .ref 64], (q_cM q_AM q_IM q_J0, 34, 31630)) _
    refine q_Ru_seg (g2 := (13, [(0, .ref 64), (1, .int a)], [.int 0, .ref 64], (q_cM q_AM q_IM q_J0, 34, 31630))) 2 (fun _ _ => rfl) ?_
    refine q_Ru_call (v := (some (.int 0))) (h2 := (q_cM q_AM (q_uI q_IM 0 39 0) q_J0, 34, 31630)) rfl rfl ?_ ?_
    · refine q_Ca_of (Nat.le_of_ble_eq_true rfl) ?_
      refine q_Ru_seg (g2 := (14, [(0, .ref 64), (1, .int 0)], [.int 0], (q_cM q_AM (q_uI q_IM 0 39 0) q_J0, 34, 31630))) 6 (fun _ _ => rfl) ?_
      exact q_Ru_ret rfl rfl
    show q_Ru _ _ _ (16, [(0, .ref 64), (1, .int a)], [.int 0], (q_cM q_AM (q_uI q_IM 0 39 0) q_J0, 34, 31630)) _
    exact q_Ru_le (Nat.le_of_ble_eq_true rfl) (q_xc198 L xs a hl_a hu_a f27 f28 h209 p27 p28)
