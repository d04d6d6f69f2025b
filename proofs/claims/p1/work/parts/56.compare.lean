/-! ===== compare: rows that are alike ===== -/
theorem q_Ru_le {TB : Nat → Option (Nat × Nat × (Nat → Int32))} {d k : Nat} {g : q_G} {o : q_Out} {d9 : Nat} (hd : d ≤ d9) (e : q_Ru TB d k g o) : q_Ru TB d9 k g o := by
  obtain ⟨n, e⟩ := e
  exact ⟨n, q_loop_le (q_up_x (Nat.le_refl n) hd) q_LeT_rf n n (Nat.le_refl n) _ _ e⟩
theorem q_inc {k : Int32} (h0 : -1 ≤ k.toInt) (h : k.toInt ≤ 1000000) : (k + 1).toInt = k.toInt + 1 := by
  rw [Int32.toInt_add]
  show Int.bmod (k.toInt + 1) _ = _
  exact Int.bmod_eq_of_le (by omega) (by omega)
theorem q_ltT {k u : Int32} {m : Nat} (h : k.toInt + ((m + 1 : Nat) : Int) = u.toInt) : decide (k < u) = true := decide_eq_true (by rw [Int32.lt_iff_toInt_lt]; omega)
theorem q_ltF {k u : Int32} (h : k.toInt + ((0 : Nat) : Int) = u.toInt) : decide (k < u) = false := decide_eq_false (by rw [Int32.lt_iff_toInt_lt]; omega)
theorem q_p_read0 (a : Int32) (hl : 0 ≤ a.toInt) (hu : a.toInt ≤ 4095) : q_Ca q_TB0 4 90 [.ref 66, .int a] (q_cX q_AX q_IX q_J0, 40, 26520) (.inl (some (.int 0)), (q_cX q_AX q_IX q_J0, 40, 26520)) := by
  cases h130 : decide (a - 3840 < 0) with
  | true =>
    refine q_Ca_of (Nat.le_of_ble_eq_true rfl) ?_
    refine q_Ru_seg (g2 := (7, [(2, .int (a - 3840)), (0, .ref 66), (1, .int a)], [.int (a - 3840)], (q_cX q_AX q_IX q_J0, 40, 26520))) 5 (fun _ _ => rfl) ?_
    refine q_Ru_rsT (g2 := (31, [(2, .int (a - 3840)), (0, .ref 66), (1, .int a)], [], (q_cX q_AX q_IX q_J0, 40, 26520))) rfl rfl h130 ?_
    refine q_Ru_seg (g2 := (127, [(3, .int 0), (2, .int (a - 3840)), (0, .ref 66), (1, .int a)], [.int (a &&& 4095), .ref 68], (q_cX q_AX q_IX q_J0, 40, 26520))) 22 (fun _ _ => rfl) ?_
    refine q_Ru_rsT (g2 := (128, [(3, .int 0), (2, .int (a - 3840)), (0, .ref 66), (1, .int a)], [.int 0], (q_cX q_AX q_IX q_J0, 40, 26520))) rfl rfl (q_in_bd (x := a &&& 4095) (n := 4096) (U := 4095) (L := 0) (q_and_lo a 4095) (q_and_hi a 4095 4095)) ?_
    exact q_Ru_ret rfl rfl
  | false =>
    cases h131 : decide (a - 3840 < 48) with
    | true =>
      obtain ⟨j132, g132, e132⟩ := q_en (l := 3840) (n := 47) (q_sub_lo 3840 (q_lo1 h130) hl hu) (q_sub_hi 3887 (q_hi1 h131) (q_sub_lo 3840 (q_lo1 h130) hl hu) hu)
      match j132, g132, e132 with
      | 0, _, e132 =>
        have e132 : a = 3840 := e132
        subst e132
        refine q_Ca_of (Nat.le_of_ble_eq_true rfl) ?_
        refine q_Ru_seg (g2 := (27, [(2, .int 0), (0, .ref 66), (1, .int 3840)], [.int 0, .int 0, .ref 66], (q_cX q_AX q_IX q_J0, 40, 26520))) 16 (fun _ _ => rfl) ?_
        refine q_Ru_call (v := (some (.int 0))) (h2 := (q_cX q_AX q_IX q_J0, 40, 26520)) rfl rfl ?_ ?_
        · refine q_Ca_of (Nat.le_of_ble_eq_true rfl) ?_
          refine q_Ru_seg (g2 := (183, [(0, .ref 66), (1, .int 0), (2, .int 0)], [.int 0], (q_cX q_AX q_IX q_J0, 40, 26520))) 3 (fun _ _ => rfl) ?_
          exact q_Ru_ret rfl rfl
        show q_Ru _ _ _ (30, [(2, .int 0), (0, .ref 66), (1, .int 3840)], [.int 0], (q_cX q_AX q_IX q_J0, 40, 26520)) _
        exact q_Ru_ret rfl rfl
      | 1, _, e132 =>
        have e132 : a = 3841 := e132
        subst e132
        refine q_Ca_of (Nat.le_of_ble_eq_true rfl) ?_
        refine q_Ru_seg (g2 := (27, [(2, .int 1), (0, .ref 66), (1, .int 3841)], [.int 0, .int 1, .ref 66], (q_cX q_AX q_IX q_J0, 40, 26520))) 16 (fun _ _ => rfl) ?_
        refine q_Ru_call (v := (some (.int 0))) (h2 := (q_cX q_AX q_IX q_J0, 40, 26520)) rfl rfl ?_ ?_
        · refine q_Ca_of (Nat.le_of_ble_eq_true rfl) ?_
          refine q_Ru_seg (g2 := (183, [(0, .ref 66), (1, .int 1), (2, .int 0)], [.int 0], (q_cX q_AX q_IX q_J0, 40, 26520))) 3 (fun _ _ => rfl) ?_
          exact q_Ru_ret rfl rfl
        show q_Ru _ _ _ (30, [(2, .int 1), (0, .ref 66), (1, .int 3841)], [.int 0], (q_cX q_AX q_IX q_J0, 40, 26520)) _
        exact q_Ru_ret rfl rfl
      | 2, _, e132 =>
        have e132 : a = 3842 := e132
        subst e132
        refine q_Ca_of (Nat.le_of_ble_eq_true rfl) ?_
        refine q_Ru_seg (g2 := (27, [(2, .int 2), (0, .ref 66), (1, .int 3842)], [.int 0, .int 2, .ref 66], (q_cX q_AX q_IX q_J0, 40, 26520))) 16 (fun _ _ => rfl) ?_
        refine q_Ru_call (v := (some (.int 0))) (h2 := (q_cX q_AX q_IX q_J0, 40, 26520)) rfl rfl ?_ ?_
        · refine q_Ca_of (Nat.le_of_ble_eq_true rfl) ?_
          refine q_Ru_seg (g2 := (183, [(0, .ref 66), (1, .int 2), (2, .int 0)], [.int 0], (q_cX q_AX q_IX q_J0, 40, 26520))) 3 (fun _ _ => rfl) ?_
          exact q_Ru_ret rfl rfl
        show q_Ru _ _ _ (30, [(2, .int 2), (0, .ref 66), (1, .int 3842)], [.int 0], (q_cX q_AX q_IX q_J0, 40, 26520)) _
        exact q_Ru_ret rfl rfl
      | 3, _, e132 =>
        have e132 : a = 3843 := e132
        subst e132
        refine q_Ca_of (Nat.le_of_ble_eq_true rfl) ?_
        refine q_Ru_seg (g2 := (27, [(2, .int 3), (0, .ref 66), (1, .int 3843)], [.int 0, .int 3, .ref 66], (q_cX q_AX q_IX q_J0, 40, 26520))) 16 (fun _ _ => rfl) ?_
        refine q_Ru_call (v := (some (.int 0))) (h2 := (q_cX q_AX q_IX q_J0, 40, 26520)) rfl rfl ?_ ?_
        · refine q_Ca_of (Nat.le_of_ble_eq_true rfl) ?_
          refine q_Ru_seg (g2 := (183, [(0, .ref 66), (1, .int 3), (2, .int 0)], [.int 0], (q_cX q_AX q_IX q_J0, 40, 26520))) 3 (fun _ _ => rfl) ?_
          exact q_Ru_ret rfl rfl
        show q_Ru _ _ _ (30, [(2, .int 3), (0, .ref 66), (1, .int 3843)], [.int 0], (q_cX q_AX q_IX q_J0, 40, 26520)) _
        exact q_Ru_ret rfl rfl
      | 4, _, e132 =>
        have e132 : a = 3844 := e132
        subst e132
        refine q_Ca_of (Nat.le_of_ble_eq_true rfl) ?_
        refine q_Ru_seg (g2 := (27, [(2, .int 4), (0, .ref 66), (1, .int 3844)], [.int 0, .int 4, .ref 66], (q_cX q_AX q_IX q_J0, 40, 26520))) 16 (fun _ _ => rfl) ?_
        refine q_Ru_call (v := (some (.int 0))) (h2 := (q_cX q_AX q_IX q_J0, 40, 26520)) rfl rfl ?_ ?_
        · refine q_Ca_of (Nat.le_of_ble_eq_true rfl) ?_
          refine q_Ru_seg (g2 := (183, [(0, .ref 66), (1, .int 4), (2, .int 0)], [.int 0], (q_cX q_AX q_IX q_J0, 40, 26520))) 3 (fun _ _ => rfl) ?_
          exact q_Ru_ret rfl rfl
        show q_Ru _ _ _ (30, [(2, .int 4), (0, .ref 66), (1, .int 3844)], [.int 0], (q_cX q_AX q_IX q_J0, 40, 26520)) _
        exact q_Ru_ret rfl rfl
      | 5, _, e132 =>
        have e132 : a = 3845 := e132
        subst e132
        refine q_Ca_of (Nat.le_of_ble_eq_true rfl) ?_
        refine q_Ru_seg (g2 := (27, [(2, .int 5), (0, .ref 66), (1, .int 3845)], [.int 0, .int 5, .ref 66], (q_cX q_AX q_IX q_J0, 40, 26520))) 16 (fun _ _ => rfl) ?_
        refine q_Ru_call (v := (some (.int 0))) (h2 := (q_cX q_AX q_IX q_J0, 40, 26520)) rfl rfl ?_ ?_
        · refine q_Ca_of (Nat.le_of_ble_eq_true rfl) ?_
          refine q_Ru_seg (g2 := (183, [(0, .ref 66), (1, .int 5), (2, .int 0)], [.int 0], (q_cX q_AX q_IX q_J0, 40, 26520))) 3 (fun _ _ => rfl) ?_
          exact q_Ru_ret rfl rfl
        show q_Ru _ _ _ (30, [(2, .int 5), (0, .ref 66), (1, .int 3845)], [.int 0], (q_cX q_AX q_IX q_J0, 40, 26520)) _
        exact q_Ru_ret rfl rfl
      | 6, _, e132 =>
        have e132 : a = 3846 := e132
        subst e132
        refine q_Ca_of (Nat.le_of_ble_eq_true rfl) ?_
        refine q_Ru_seg (g2 := (27, [(2, .int 6), (0, .ref 66), (1, .int 3846)], [.int 0, .int 6, .ref 66], (q_cX q_AX q_IX q_J0, 40, 26520))) 16 (fun _ _ => rfl) ?_
        refine q_Ru_call (v := (some (.int 0))) (h2 := (q_cX q_AX q_IX q_J0, 40, 26520)) rfl rfl ?_ ?_
        · refine q_Ca_of (Nat.le_of_ble_eq_true rfl) ?_
          refine q_Ru_seg (g2 := (183, [(0, .ref 66), (1, .int 6), (2, .int 0)], [.int 0], (q_cX q_AX q_IX q_J0, 40, 26520))) 3 (fun _ _ => rfl) ?_
          exact q_Ru_ret rfl rfl
        show q_Ru _ _ _ (30, [(2, .int 6), (0, .ref 66), (1, .int 3846)], [.int 0], (q_cX q_AX q_IX q_J0, 40, 26520)) _
        exact q_Ru_ret rfl rfl
      | 7, _, e132 =>
        have e132 : a = 3847 := e132
        subst e132
        refine q_Ca_of (Nat.le_of_ble_eq_true rfl) ?_
        refine q_Ru_seg (g2 := (27, [(2, .int 7), (0, .ref 66), (1, .int 3847)], [.int 0, .int 7, .ref 66], (q_cX q_AX q_IX q_J0, 40, 26520))) 16 (fun _ _ => rfl) ?_
        refine q_Ru_call (v := (some (.int 0))) (h2 := (q_cX q_AX q_IX q_J0, 40, 26520)) rfl rfl ?_ ?_
        · refine q_Ca_of (Nat.le_of_ble_eq_true rfl) ?_
          refine q_Ru_seg (g2 := (183, [(0, .ref 66), (1, .int 7), (2, .int 0)], [.int 0], (q_cX q_AX q_IX q_J0, 40, 26520))) 3 (fun _ _ => rfl) ?_
          exact q_Ru_ret rfl rfl
        show q_Ru _ _ _ (30, [(2, .int 7), (0, .ref 66), (1, .int 3847)], [.int 0], (q_cX q_AX q_IX q_J0, 40, 26520)) _
        exact q_Ru_ret rfl rfl
      | 8, _, e132 =>
        have e132 : a = 3848 := e132
        subst e132
        refine q_Ca_of (Nat.le_of_ble_eq_true rfl) ?_
        refine q_Ru_seg (g2 := (27, [(2, .int 8), (0, .ref 66), (1, .int 3848)], [.int 0, .int 8, .ref 66], (q_cX q_AX q_IX q_J0, 40, 26520))) 16 (fun _ _ => rfl) ?_
        refine q_Ru_call (v := (some (.int 0))) (h2 := (q_cX q_AX q_IX q_J0, 40, 26520)) rfl rfl ?_ ?_
        · refine q_Ca_of (Nat.le_of_ble_eq_true rfl) ?_
          refine q_Ru_seg (g2 := (183, [(0, .ref 66), (1, .int 8), (2, .int 0)], [.int 0], (q_cX q_AX q_IX q_J0, 40, 26520))) 3 (fun _ _ => rfl) ?_
          exact q_Ru_ret rfl rfl
        show q_Ru _ _ _ (30, [(2, .int 8), (0, .ref 66), (1, .int 3848)], [.int 0], (q_cX q_AX q_IX q_J0, 40, 26520)) _
        exact q_Ru_ret rfl rfl
      | 9, _, e132 =>
        have e132 : a = 3849 := e132
        subst e132
        refine q_Ca_of (Nat.le_of_ble_eq_true rfl) ?_
        refine q_Ru_seg (g2 := (27, [(2, .int 9), (0, .ref 66), (1, .int 3849)], [.int 0, .int 9, .ref 66], (q_cX q_AX q_IX q_J0, 40, 26520))) 16 (fun _ _ => rfl) ?_
        refine q_Ru_call (v := (some (.int 0))) (h2 := (q_cX q_AX q_IX q_J0, 40, 26520)) rfl rfl ?_ ?_
        · refine q_Ca_of (Nat.le_of_ble_eq_true rfl) ?_
          refine q_Ru_seg (g2 := (80, [(0, .ref 66), (1, .int 9), (2, .int 0)], [.int 0], (q_cX q_AX q_IX q_J0, 40, 26520))) 9 (fun _ _ => rfl) ?_
          exact q_Ru_ret rfl rfl
        show q_Ru _ _ _ (30, [(2, .int 9), (0, .ref 66), (1, .int 3849)], [.int 0], (q_cX q_AX q_IX q_J0, 40, 26520)) _
        exact q_Ru_ret rfl rfl
      | 10, _, e132 =>
        have e132 : a = 3850 := e132
        subst e132
        refine q_Ca_of (Nat.le_of_ble_eq_true rfl) ?_
        refine q_Ru_seg (g2 := (27, [(2, .int 10), (0, .ref 66), (1, .int 3850)], [.int 0, .int 10, .ref 66], (q_cX q_AX q_IX q_J0, 40, 26520))) 16 (fun _ _ => rfl) ?_
        refine q_Ru_call (v := (some (.int 0))) (h2 := (q_cX q_AX q_IX q_J0, 40, 26520)) rfl rfl ?_ ?_
        · refine q_Ca_of (Nat.le_of_ble_eq_true rfl) ?_
          refine q_Ru_seg (g2 := (183, [(0, .ref 66), (1, .int 10), (2, .int 0)], [.int 0], (q_cX q_AX q_IX q_J0, 40, 26520))) 3 (fun _ _ => rfl) ?_
          exact q_Ru_ret rfl rfl
        show q_Ru _ _ _ (30, [(2, .int 10), (0, .ref 66), (1, .int 3850)], [.int 0], (q_cX q_AX q_IX q_J0, 40, 26520)) _
        exact q_Ru_ret rfl rfl
      | 11, _, e132 =>
        have e132 : a = 3851 := e132
        subst e132
        refine q_Ca_of (Nat.le_of_ble_eq_true rfl) ?_
        refine q_Ru_seg (g2 := (27, [(2, .int 11), (0, .ref 66), (1, .int 3851)], [.int 0, .int 11, .ref 66], (q_cX q_AX q_IX q_J0, 40, 26520))) 16 (fun _ _ => rfl) ?_
        refine q_Ru_call (v := (some (.int 0))) (h2 := (q_cX q_AX q_IX q_J0, 40, 26520)) rfl rfl ?_ ?_
        · refine q_Ca_of (Nat.le_of_ble_eq_true rfl) ?_
          refine q_Ru_seg (g2 := (183, [(0, .ref 66), (1, .int 11), (2, .int 0)], [.int 0], (q_cX q_AX q_IX q_J0, 40, 26520))) 3 (fun _ _ => rfl) ?_
          exact q_Ru_ret rfl rfl
        show q_Ru _ _ _ (30, [(2, .int 11), (0, .ref 66), (1, .int 3851)], [.int 0], (q_cX q_AX q_IX q_J0, 40, 26520)) _
        exact q_Ru_ret rfl rfl
      | 12, _, e132 =>
        have e132 : a = 3852 := e132
        subst e132
        refine q_Ca_of (Nat.le_of_ble_eq_true rfl) ?_
        refine q_Ru_seg (g2 := (27, [(2, .int 12), (0, .ref 66), (1, .int 3852)], [.int 0, .int 12, .ref 66], (q_cX q_AX q_IX q_J0, 40, 26520))) 16 (fun _ _ => rfl) ?_
        refine q_Ru_call (v := (some (.int 0))) (h2 := (q_cX q_AX q_IX q_J0, 40, 26520)) rfl rfl ?_ ?_
        · refine q_Ca_of (Nat.le_of_ble_eq_true rfl) ?_
          refine q_Ru_seg (g2 := (91, [(0, .ref 66), (1, .int 12), (2, .int 0)], [.int 0], (q_cX q_AX q_IX q_J0, 40, 26520))) 8 (fun _ _ => rfl) ?_
          exact q_Ru_ret rfl rfl
        show q_Ru _ _ _ (30, [(2, .int 12), (0, .ref 66), (1, .int 3852)], [.int 0], (q_cX q_AX q_IX q_J0, 40, 26520)) _
        exact q_Ru_ret rfl rfl
      | 13, _, e132 =>
        have e132 : a = 3853 := e132
        subst e132
        refine q_Ca_of (Nat.le_of_ble_eq_true rfl) ?_
        refine q_Ru_seg (g2 := (27, [(2, .int 13), (0, .ref 66), (1, .int 3853)], [.int 0, .int 13, .ref 66], (q_cX q_AX q_IX q_J0, 40, 26520))) 16 (fun _ _ => rfl) ?_
        refine q_Ru_call (v := (some (.int 0))) (h2 := (q_cX q_AX q_IX q_J0, 40, 26520)) rfl rfl ?_ ?_
        · refine q_Ca_of (Nat.le_of_ble_eq_true rfl) ?_
          refine q_Ru_seg (g2 := (101, [(0, .ref 66), (1, .int 13), (2, .int 0)], [.int 0], (q_cX q_AX q_IX q_J0, 40, 26520))) 8 (fun _ _ => rfl) ?_
          exact q_Ru_ret rfl rfl
        show q_Ru _ _ _ (30, [(2, .int 13), (0, .ref 66), (1, .int 3853)], [.int 0], (q_cX q_AX q_IX q_J0, 40, 26520)) _
        exact q_Ru_ret rfl rfl
      | 14, _, e132 =>
        have e132 : a = 3854 := e132
        subst e132
        refine q_Ca_of (Nat.le_of_ble_eq_true rfl) ?_
        refine q_Ru_seg (g2 := (27, [(2, .int 14), (0, .ref 66), (1, .int 3854)], [.int 0, .int 14, .ref 66], (q_cX q_AX q_IX q_J0, 40, 26520))) 16 (fun _ _ => rfl) ?_
        refine q_Ru_call (v := (some (.int 0))) (h2 := (q_cX q_AX q_IX q_J0, 40, 26520)) rfl rfl ?_ ?_
        · refine q_Ca_of (Nat.le_of_ble_eq_true rfl) ?_
          refine q_Ru_seg (g2 := (112, [(0, .ref 66), (1, .int 14), (2, .int 0)], [.int 0], (q_cX q_AX q_IX q_J0, 40, 26520))) 8 (fun _ _ => rfl) ?_
          exact q_Ru_ret rfl rfl
        show q_Ru _ _ _ (30, [(2, .int 14), (0, .ref 66), (1, .int 3854)], [.int 0], (q_cX q_AX q_IX q_J0, 40, 26520)) _
        exact q_Ru_ret rfl rfl
      | 15, _, e132 =>
        have e132 : a = 3855 := e132
        subst e132
        refine q_Ca_of (Nat.le_of_ble_eq_true rfl) ?_
        refine q_Ru_seg (g2 := (27, [(2, .int 15), (0, .ref 66), (1, .int 3855)], [.int 0, .int 15, .ref 66], (q_cX q_AX q_IX q_J0, 40, 26520))) 16 (fun _ _ => rfl) ?_
        refine q_Ru_call (v := (some (.int 0))) (h2 := (q_cX q_AX q_IX q_J0, 40, 26520)) rfl rfl ?_ ?_
        · refine q_Ca_of (Nat.le_of_ble_eq_true rfl) ?_
          refine q_Ru_seg (g2 := (122, [(0, .ref 66), (1, .int 15), (2, .int 0)], [.int 0], (q_cX q_AX q_IX q_J0, 40, 26520))) 8 (fun _ _ => rfl) ?_
          exact q_Ru_ret rfl rfl
        show q_Ru _ _ _ (30, [(2, .int 15), (0, .ref 66), (1, .int 3855)], [.int 0], (q_cX q_AX q_IX q_J0, 40, 26520)) _
        exact q_Ru_ret rfl rfl
      | 16, _, e132 =>
        have e132 : a = 3856 := e132
        subst e132
        refine q_Ca_of (Nat.le_of_ble_eq_true rfl) ?_
        refine q_Ru_seg (g2 := (27, [(2, .int 16), (0, .ref 66), (1, .int 3856)], [.int 0, .int 16, .ref 66], (q_cX q_AX q_IX q_J0, 40, 26520))) 16 (fun _ _ => rfl) ?_
        refine q_Ru_call (v := (some (.int 0))) (h2 := (q_cX q_AX q_IX q_J0, 40, 26520)) rfl rfl ?_ ?_
        · refine q_Ca_of (Nat.le_of_ble_eq_true rfl) ?_
          refine q_Ru_seg (g2 := (183, [(0, .ref 66), (1, .int 16), (2, .int 0)], [.int 0], (q_cX q_AX q_IX q_J0, 40, 26520))) 3 (fun _ _ => rfl) ?_
          exact q_Ru_ret rfl rfl
        show q_Ru _ _ _ (30, [(2, .int 16), (0, .ref 66), (1, .int 3856)], [.int 0], (q_cX q_AX q_IX q_J0, 40, 26520)) _
        exact q_Ru_ret rfl rfl
      | 17, _, e132 =>
        have e132 : a = 3857 := e132
        subst e132
        refine q_Ca_of (Nat.le_of_ble_eq_true rfl) ?_
        refine q_Ru_seg (g2 := (27, [(2, .int 17), (0, .ref 66), (1, .int 3857)], [.int 0, .int 17, .ref 66], (q_cX q_AX q_IX q_J0, 40, 26520))) 16 (fun _ _ => rfl) ?_
        refine q_Ru_call (v := (some (.int 0))) (h2 := (q_cX q_AX q_IX q_J0, 40, 26520)) rfl rfl ?_ ?_
        · refine q_Ca_of (Nat.le_of_ble_eq_true rfl) ?_
          refine q_Ru_seg (g2 := (183, [(0, .ref 66), (1, .int 17), (2, .int 0)], [.int 0], (q_cX q_AX q_IX q_J0, 40, 26520))) 3 (fun _ _ => rfl) ?_
          exact q_Ru_ret rfl rfl
        show q_Ru _ _ _ (30, [(2, .int 17), (0, .ref 66), (1, .int 3857)], [.int 0], (q_cX q_AX q_IX q_J0, 40, 26520)) _
        exact q_Ru_ret rfl rfl
      | 18, _, e132 =>
        have e132 : a = 3858 := e132
        subst e132
        refine q_Ca_of (Nat.le_of_ble_eq_true rfl) ?_
        refine q_Ru_seg (g2 := (27, [(2, .int 18), (0, .ref 66), (1, .int 3858)], [.int 0, .int 18, .ref 66], (q_cX q_AX q_IX q_J0, 40, 26520))) 16 (fun _ _ => rfl) ?_
        refine q_Ru_call (v := (some (.int 0))) (h2 := (q_cX q_AX q_IX q_J0, 40, 26520)) rfl rfl ?_ ?_
        · refine q_Ca_of (Nat.le_of_ble_eq_true rfl) ?_
          refine q_Ru_seg (g2 := (183, [(0, .ref 66), (1, .int 18), (2, .int 0)], [.int 0], (q_cX q_AX q_IX q_J0, 40, 26520))) 3 (fun _ _ => rfl) ?_
          exact q_Ru_ret rfl rfl
        show q_Ru _ _ _ (30, [(2, .int 18), (0, .ref 66), (1, .int 3858)], [.int 0], (q_cX q_AX q_IX q_J0, 40, 26520)) _
        exact q_Ru_ret rfl rfl
      | 19, _, e132 =>
        have e132 : a = 3859 := e132
        subst e132
        refine q_Ca_of (Nat.le_of_ble_eq_true rfl) ?_
        refine q_Ru_seg (g2 := (27, [(2, .int 19), (0, .ref 66), (1, .int 3859)], [.int 0, .int 19, .ref 66], (q_cX q_AX q_IX q_J0, 40, 26520))) 16 (fun _ _ => rfl) ?_
        refine q_Ru_call (v := (some (.int 0))) (h2 := (q_cX q_AX q_IX q_J0, 40, 26520)) rfl rfl ?_ ?_
        · refine q_Ca_of (Nat.le_of_ble_eq_true rfl) ?_
          refine q_Ru_seg (g2 := (183, [(0, .ref 66), (1, .int 19), (2, .int 0)], [.int 0], (q_cX q_AX q_IX q_J0, 40, 26520))) 3 (fun _ _ => rfl) ?_
          exact q_Ru_ret rfl rfl
        show q_Ru _ _ _ (30, [(2, .int 19), (0, .ref 66), (1, .int 3859)], [.int 0], (q_cX q_AX q_IX q_J0, 40, 26520)) _
        exact q_Ru_ret rfl rfl
      | 20, _, e132 =>
        have e132 : a = 3860 := e132
        subst e132
        refine q_Ca_of (Nat.le_of_ble_eq_true rfl) ?_
        refine q_Ru_seg (g2 := (27, [(2, .int 20), (0, .ref 66), (1, .int 3860)], [.int 0, .int 20, .ref 66], (q_cX q_AX q_IX q_J0, 40, 26520))) 16 (fun _ _ => rfl) ?_
        refine q_Ru_call (v := (some (.int 0))) (h2 := (q_cX q_AX q_IX q_J0, 40, 26520)) rfl rfl ?_ ?_
        · refine q_Ca_of (Nat.le_of_ble_eq_true rfl) ?_
          refine q_Ru_seg (g2 := (183, [(0, .ref 66), (1, .int 20), (2, .int 0)], [.int 0], (q_cX q_AX q_IX q_J0, 40, 26520))) 3 (fun _ _ => rfl) ?_
          exact q_Ru_ret rfl rfl
        show q_Ru _ _ _ (30, [(2, .int 20), (0, .ref 66), (1, .int 3860)], [.int 0], (q_cX q_AX q_IX q_J0, 40, 26520)) _
        exact q_Ru_ret rfl rfl
      | 21, _, e132 =>
        have e132 : a = 3861 := e132
        subst e132
        refine q_Ca_of (Nat.le_of_ble_eq_true rfl) ?_
        refine q_Ru_seg (g2 := (27, [(2, .int 21), (0, .ref 66), (1, .int 3861)], [.int 0, .int 21, .ref 66], (q_cX q_AX q_IX q_J0, 40, 26520))) 16 (fun _ _ => rfl) ?_
        refine q_Ru_call (v := (some (.int 0))) (h2 := (q_cX q_AX q_IX q_J0, 40, 26520)) rfl rfl ?_ ?_
        · refine q_Ca_of (Nat.le_of_ble_eq_true rfl) ?_
          refine q_Ru_seg (g2 := (183, [(0, .ref 66), (1, .int 21), (2, .int 0)], [.int 0], (q_cX q_AX q_IX q_J0, 40, 26520))) 3 (fun _ _ => rfl) ?_
          exact q_Ru_ret rfl rfl
        show q_Ru _ _ _ (30, [(2, .int 21), (0, .ref 66), (1, .int 3861)], [.int 0], (q_cX q_AX q_IX q_J0, 40, 26520)) _
        exact q_Ru_ret rfl rfl
      | 22, _, e132 =>
        have e132 : a = 3862 := e132
        subst e132
        refine q_Ca_of (Nat.le_of_ble_eq_true rfl) ?_
        refine q_Ru_seg (g2 := (27, [(2, .int 22), (0, .ref 66), (1, .int 3862)], [.int 0, .int 22, .ref 66], (q_cX q_AX q_IX q_J0, 40, 26520))) 16 (fun _ _ => rfl) ?_
        refine q_Ru_call (v := (some (.int 0))) (h2 := (q_cX q_AX q_IX q_J0, 40, 26520)) rfl rfl ?_ ?_
        · refine q_Ca_of (Nat.le_of_ble_eq_true rfl) ?_
          refine q_Ru_seg (g2 := (183, [(0, .ref 66), (1, .int 22), (2, .int 0)], [.int 0], (q_cX q_AX q_IX q_J0, 40, 26520))) 3 (fun _ _ => rfl) ?_
          exact q_Ru_ret rfl rfl
        show q_Ru _ _ _ (30, [(2, .int 22), (0, .ref 66), (1, .int 3862)], [.int 0], (q_cX q_AX q_IX q_J0, 40, 26520)) _
        exact q_Ru_ret rfl rfl
      | 23, _, e132 =>
        have e132 : a = 3863 := e132
        subst e132
        refine q_Ca_of (Nat.le_of_ble_eq_true rfl) ?_
        refine q_Ru_seg (g2 := (27, [(2, .int 23), (0, .ref 66), (1, .int 3863)], [.int 0, .int 23, .ref 66], (q_cX q_AX q_IX q_J0, 40, 26520))) 16 (fun _ _ => rfl) ?_
        refine q_Ru_call (v := (some (.int 0))) (h2 := (q_cX q_AX q_IX q_J0, 40, 26520)) rfl rfl ?_ ?_
        · refine q_Ca_of (Nat.le_of_ble_eq_true rfl) ?_
          refine q_Ru_seg (g2 := (183, [(0, .ref 66), (1, .int 23), (2, .int 0)], [.int 0], (q_cX q_AX q_IX q_J0, 40, 26520))) 3 (fun _ _ => rfl) ?_
          exact q_Ru_ret rfl rfl
        show q_Ru _ _ _ (30, [(2, .int 23), (0, .ref 66), (1, .int 3863)], [.int 0], (q_cX q_AX q_IX q_J0, 40, 26520)) _
        exact q_Ru_ret rfl rfl
      | 24, _, e132 =>
        have e132 : a = 3864 := e132
        subst e132
        refine q_Ca_of (Nat.le_of_ble_eq_true rfl) ?_
        refine q_Ru_seg (g2 := (27, [(2, .int 24), (0, .ref 66), (1, .int 3864)], [.int 0, .int 24, .ref 66], (q_cX q_AX q_IX q_J0, 40, 26520))) 16 (fun _ _ => rfl) ?_
        refine q_Ru_call (v := (some (.int 0))) (h2 := (q_cX q_AX q_IX q_J0, 40, 26520)) rfl rfl ?_ ?_
        · refine q_Ca_of (Nat.le_of_ble_eq_true rfl) ?_
          refine q_Ru_seg (g2 := (183, [(0, .ref 66), (1, .int 24), (2, .int 0)], [.int 0], (q_cX q_AX q_IX q_J0, 40, 26520))) 3 (fun _ _ => rfl) ?_
          exact q_Ru_ret rfl rfl
        show q_Ru _ _ _ (30, [(2, .int 24), (0, .ref 66), (1, .int 3864)], [.int 0], (q_cX q_AX q_IX q_J0, 40, 26520)) _
        exact q_Ru_ret rfl rfl
      | 25, _, e132 =>
        have e132 : a = 3865 := e132
        subst e132
        refine q_Ca_of (Nat.le_of_ble_eq_true rfl) ?_
        refine q_Ru_seg (g2 := (27, [(2, .int 25), (0, .ref 66), (1, .int 3865)], [.int 0, .int 25, .ref 66], (q_cX q_AX q_IX q_J0, 40, 26520))) 16 (fun _ _ => rfl) ?_
        refine q_Ru_call (v := (some (.int 0))) (h2 := (q_cX q_AX q_IX q_J0, 40, 26520)) rfl rfl ?_ ?_
        · refine q_Ca_of (Nat.le_of_ble_eq_true rfl) ?_
          refine q_Ru_seg (g2 := (183, [(0, .ref 66), (1, .int 25), (2, .int 0)], [.int 0], (q_cX q_AX q_IX q_J0, 40, 26520))) 3 (fun _ _ => rfl) ?_
          exact q_Ru_ret rfl rfl
        show q_Ru _ _ _ (30, [(2, .int 25), (0, .ref 66), (1, .int 3865)], [.int 0], (q_cX q_AX q_IX q_J0, 40, 26520)) _
        exact q_Ru_ret rfl rfl
      | 26, _, e132 =>
        have e132 : a = 3866 := e132
        subst e132
        refine q_Ca_of (Nat.le_of_ble_eq_true rfl) ?_
        refine q_Ru_seg (g2 := (27, [(2, .int 26), (0, .ref 66), (1, .int 3866)], [.int 0, .int 26, .ref 66], (q_cX q_AX q_IX q_J0, 40, 26520))) 16 (fun _ _ => rfl) ?_
        refine q_Ru_call (v := (some (.int 0))) (h2 := (q_cX q_AX q_IX q_J0, 40, 26520)) rfl rfl ?_ ?_
        · refine q_Ca_of (Nat.le_of_ble_eq_true rfl) ?_
          refine q_Ru_seg (g2 := (183, [(0, .ref 66), (1, .int 26), (2, .int 0)], [.int 0], (q_cX q_AX q_IX q_J0, 40, 26520))) 3 (fun _ _ => rfl) ?_
          exact q_Ru_ret rfl rfl
        show q_Ru _ _ _ (30, [(2, .int 26), (0, .ref 66), (1, .int 3866)], [.int 0], (q_cX q_AX q_IX q_J0, 40, 26520)) _
        exact q_Ru_ret rfl rfl
      | 27, _, e132 =>
        have e132 : a = 3867 := e132
        subst e132
        refine q_Ca_of (Nat.le_of_ble_eq_true rfl) ?_
        refine q_Ru_seg (g2 := (27, [(2, .int 27), (0, .ref 66), (1, .int 3867)], [.int 0, .int 27, .ref 66], (q_cX q_AX q_IX q_J0, 40, 26520))) 16 (fun _ _ => rfl) ?_
        refine q_Ru_call (v := (some (.int 0))) (h2 := (q_cX q_AX q_IX q_J0, 40, 26520)) rfl rfl ?_ ?_
        · refine q_Ca_of (Nat.le_of_ble_eq_true rfl) ?_
          refine q_Ru_seg (g2 := (183, [(0, .ref 66), (1, .int 27), (2, .int 0)], [.int 0], (q_cX q_AX q_IX q_J0, 40, 26520))) 3 (fun _ _ => rfl) ?_
          exact q_Ru_ret rfl rfl
        show q_Ru _ _ _ (30, [(2, .int 27), (0, .ref 66), (1, .int 3867)], [.int 0], (q_cX q_AX q_IX q_J0, 40, 26520)) _
        exact q_Ru_ret rfl rfl
      | 28, _, e132 =>
        have e132 : a = 3868 := e132
        subst e132
        refine q_Ca_of (Nat.le_of_ble_eq_true rfl) ?_
        refine q_Ru_seg (g2 := (27, [(2, .int 28), (0, .ref 66), (1, .int 3868)], [.int 0, .int 28, .ref 66], (q_cX q_AX q_IX q_J0, 40, 26520))) 16 (fun _ _ => rfl) ?_
        refine q_Ru_call (v := (some (.int 0))) (h2 := (q_cX q_AX q_IX q_J0, 40, 26520)) rfl rfl ?_ ?_
        · refine q_Ca_of (Nat.le_of_ble_eq_true rfl) ?_
          refine q_Ru_seg (g2 := (183, [(0, .ref 66), (1, .int 28), (2, .int 0)], [.int 0], (q_cX q_AX q_IX q_J0, 40, 26520))) 3 (fun _ _ => rfl) ?_
          exact q_Ru_ret rfl rfl
        show q_Ru _ _ _ (30, [(2, .int 28), (0, .ref 66), (1, .int 3868)], [.int 0], (q_cX q_AX q_IX q_J0, 40, 26520)) _
        exact q_Ru_ret rfl rfl
      | 29, _, e132 =>
        have e132 : a = 3869 := e132
        subst e132
        refine q_Ca_of (Nat.le_of_ble_eq_true rfl) ?_
        refine q_Ru_seg (g2 := (27, [(2, .int 29), (0, .ref 66), (1, .int 3869)], [.int 0, .int 29, .ref 66], (q_cX q_AX q_IX q_J0, 40, 26520))) 16 (fun _ _ => rfl) ?_
        refine q_Ru_call (v := (some (.int 0))) (h2 := (q_cX q_AX q_IX q_J0, 40, 26520)) rfl rfl ?_ ?_
        · refine q_Ca_of (Nat.le_of_ble_eq_true rfl) ?_
          refine q_Ru_seg (g2 := (183, [(0, .ref 66), (1, .int 29), (2, .int 0)], [.int 0], (q_cX q_AX q_IX q_J0, 40, 26520))) 3 (fun _ _ => rfl) ?_
          exact q_Ru_ret rfl rfl
        show q_Ru _ _ _ (30, [(2, .int 29), (0, .ref 66), (1, .int 3869)], [.int 0], (q_cX q_AX q_IX q_J0, 40, 26520)) _
        exact q_Ru_ret rfl rfl
      | 30, _, e132 =>
        have e132 : a = 3870 := e132
        subst e132
        refine q_Ca_of (Nat.le_of_ble_eq_true rfl) ?_
        refine q_Ru_seg (g2 := (27, [(2, .int 30), (0, .ref 66), (1, .int 3870)], [.int 0, .int 30, .ref 66], (q_cX q_AX q_IX q_J0, 40, 26520))) 16 (fun _ _ => rfl) ?_
        refine q_Ru_call (v := (some (.int 0))) (h2 := (q_cX q_AX q_IX q_J0, 40, 26520)) rfl rfl ?_ ?_
        · refine q_Ca_of (Nat.le_of_ble_eq_true rfl) ?_
          refine q_Ru_seg (g2 := (183, [(0, .ref 66), (1, .int 30), (2, .int 0)], [.int 0], (q_cX q_AX q_IX q_J0, 40, 26520))) 3 (fun _ _ => rfl) ?_
          exact q_Ru_ret rfl rfl
        show q_Ru _ _ _ (30, [(2, .int 30), (0, .ref 66), (1, .int 3870)], [.int 0], (q_cX q_AX q_IX q_J0, 40, 26520)) _
        exact q_Ru_ret rfl rfl
      | 31, _, e132 =>
        have e132 : a = 3871 := e132
        subst e132
        refine q_Ca_of (Nat.le_of_ble_eq_true rfl) ?_
        refine q_Ru_seg (g2 := (27, [(2, .int 31), (0, .ref 66), (1, .int 3871)], [.int 0, .int 31, .ref 66], (q_cX q_AX q_IX q_J0, 40, 26520))) 16 (fun _ _ => rfl) ?_
        refine q_Ru_call (v := (some (.int 0))) (h2 := (q_cX q_AX q_IX q_J0, 40, 26520)) rfl rfl ?_ ?_
        · refine q_Ca_of (Nat.le_of_ble_eq_true rfl) ?_
          refine q_Ru_seg (g2 := (146, [(0, .ref 66), (1, .int 31), (2, .int 0)], [.int 0], (q_cX q_AX q_IX q_J0, 40, 26520))) 15 (fun _ _ => rfl) ?_
          exact q_Ru_ret rfl rfl
        show q_Ru _ _ _ (30, [(2, .int 31), (0, .ref 66), (1, .int 3871)], [.int 0], (q_cX q_AX q_IX q_J0, 40, 26520)) _
        exact q_Ru_ret rfl rfl
      | 32, _, e132 =>
        have e132 : a = 3872 := e132
        subst e132
        refine q_Ca_of (Nat.le_of_ble_eq_true rfl) ?_
        refine q_Ru_seg (g2 := (27, [(2, .int 32), (0, .ref 66), (1, .int 3872)], [.int 0, .int 32, .ref 66], (q_cX q_AX q_IX q_J0, 40, 26520))) 16 (fun _ _ => rfl) ?_
        refine q_Ru_call (v := (some (.int 0))) (h2 := (q_cX q_AX q_IX q_J0, 40, 26520)) rfl rfl ?_ ?_
        · refine q_Ca_of (Nat.le_of_ble_eq_true rfl) ?_
          refine q_Ru_seg (g2 := (183, [(0, .ref 66), (1, .int 32), (2, .int 0)], [.int 0], (q_cX q_AX q_IX q_J0, 40, 26520))) 3 (fun _ _ => rfl) ?_
          exact q_Ru_ret rfl rfl
        show q_Ru _ _ _ (30, [(2, .int 32), (0, .ref 66), (1, .int 3872)], [.int 0], (q_cX q_AX q_IX q_J0, 40, 26520)) _
        exact q_Ru_ret rfl rfl
      | 33, _, e132 =>
        have e132 : a = 3873 := e132
        subst e132
        refine q_Ca_of (Nat.le_of_ble_eq_true rfl) ?_
        refine q_Ru_seg (g2 := (27, [(2, .int 33), (0, .ref 66), (1, .int 3873)], [.int 0, .int 33, .ref 66], (q_cX q_AX q_IX q_J0, 40, 26520))) 16 (fun _ _ => rfl) ?_
        refine q_Ru_call (v := (some (.int 0))) (h2 := (q_cX q_AX q_IX q_J0, 40, 26520)) rfl rfl ?_ ?_
        · refine q_Ca_of (Nat.le_of_ble_eq_true rfl) ?_
          refine q_Ru_seg (g2 := (183, [(0, .ref 66), (1, .int 33), (2, .int 0)], [.int 0], (q_cX q_AX q_IX q_J0, 40, 26520))) 3 (fun _ _ => rfl) ?_
          exact q_Ru_ret rfl rfl
        show q_Ru _ _ _ (30, [(2, .int 33), (0, .ref 66), (1, .int 3873)], [.int 0], (q_cX q_AX q_IX q_J0, 40, 26520)) _
        exact q_Ru_ret rfl rfl
      | 34, _, e132 =>
        have e132 : a = 3874 := e132
        subst e132
        refine q_Ca_of (Nat.le_of_ble_eq_true rfl) ?_
        refine q_Ru_seg (g2 := (27, [(2, .int 34), (0, .ref 66), (1, .int 3874)], [.int 0, .int 34, .ref 66], (q_cX q_AX q_IX q_J0, 40, 26520))) 16 (fun _ _ => rfl) ?_
        refine q_Ru_call (v := (some (.int 0))) (h2 := (q_cX q_AX q_IX q_J0, 40, 26520)) rfl rfl ?_ ?_
        · refine q_Ca_of (Nat.le_of_ble_eq_true rfl) ?_
          refine q_Ru_seg (g2 := (183, [(0, .ref 66), (1, .int 34), (2, .int 0)], [.int 0], (q_cX q_AX q_IX q_J0, 40, 26520))) 3 (fun _ _ => rfl) ?_
          exact q_Ru_ret rfl rfl
        show q_Ru _ _ _ (30, [(2, .int 34), (0, .ref 66), (1, .int 3874)], [.int 0], (q_cX q_AX q_IX q_J0, 40, 26520)) _
        exact q_Ru_ret rfl rfl
      | 35, _, e132 =>
        have e132 : a = 3875 := e132
        subst e132
        refine q_Ca_of (Nat.le_of_ble_eq_true rfl) ?_
        refine q_Ru_seg (g2 := (27, [(2, .int 35), (0, .ref 66), (1, .int 3875)], [.int 0, .int 35, .ref 66], (q_cX q_AX q_IX q_J0, 40, 26520))) 16 (fun _ _ => rfl) ?_
        refine q_Ru_call (v := (some (.int 0))) (h2 := (q_cX q_AX q_IX q_J0, 40, 26520)) rfl rfl ?_ ?_
        · refine q_Ca_of (Nat.le_of_ble_eq_true rfl) ?_
          refine q_Ru_seg (g2 := (183, [(0, .ref 66), (1, .int 35), (2, .int 0)], [.int 0], (q_cX q_AX q_IX q_J0, 40, 26520))) 3 (fun _ _ => rfl) ?_
          exact q_Ru_ret rfl rfl
        show q_Ru _ _ _ (30, [(2, .int 35), (0, .ref 66), (1, .int 3875)], [.int 0], (q_cX q_AX q_IX q_J0, 40, 26520)) _
        exact q_Ru_ret rfl rfl
      | 36, _, e132 =>
        have e132 : a = 3876 := e132
        subst e132
        refine q_Ca_of (Nat.le_of_ble_eq_true rfl) ?_
        refine q_Ru_seg (g2 := (27, [(2, .int 36), (0, .ref 66), (1, .int 3876)], [.int 0, .int 36, .ref 66], (q_cX q_AX q_IX q_J0, 40, 26520))) 16 (fun _ _ => rfl) ?_
        refine q_Ru_call (v := (some (.int 0))) (h2 := (q_cX q_AX q_IX q_J0, 40, 26520)) rfl rfl ?_ ?_
        · refine q_Ca_of (Nat.le_of_ble_eq_true rfl) ?_
          refine q_Ru_seg (g2 := (183, [(0, .ref 66), (1, .int 36), (2, .int 0)], [.int 0], (q_cX q_AX q_IX q_J0, 40, 26520))) 3 (fun _ _ => rfl) ?_
          exact q_Ru_ret rfl rfl
        show q_Ru _ _ _ (30, [(2, .int 36), (0, .ref 66), (1, .int 3876)], [.int 0], (q_cX q_AX q_IX q_J0, 40, 26520)) _
        exact q_Ru_ret rfl rfl
      | 37, _, e132 =>
        have e132 : a = 3877 := e132
        subst e132
        refine q_Ca_of (Nat.le_of_ble_eq_true rfl) ?_
        refine q_Ru_seg (g2 := (27, [(2, .int 37), (0, .ref 66), (1, .int 3877)], [.int 0, .int 37, .ref 66], (q_cX q_AX q_IX q_J0, 40, 26520))) 16 (fun _ _ => rfl) ?_
        refine q_Ru_call (v := (some (.int 0))) (h2 := (q_cX q_AX q_IX q_J0, 40, 26520)) rfl rfl ?_ ?_
        · refine q_Ca_of (Nat.le_of_ble_eq_true rfl) ?_
          refine q_Ru_seg (g2 := (183, [(0, .ref 66), (1, .int 37), (2, .int 0)], [.int 0], (q_cX q_AX q_IX q_J0, 40, 26520))) 3 (fun _ _ => rfl) ?_
          exact q_Ru_ret rfl rfl
        show q_Ru _ _ _ (30, [(2, .int 37), (0, .ref 66), (1, .int 3877)], [.int 0], (q_cX q_AX q_IX q_J0, 40, 26520)) _
        exact q_Ru_ret rfl rfl
      | 38, _, e132 =>
        have e132 : a = 3878 := e132
        subst e132
        refine q_Ca_of (Nat.le_of_ble_eq_true rfl) ?_
        refine q_Ru_seg (g2 := (27, [(2, .int 38), (0, .ref 66), (1, .int 3878)], [.int 0, .int 38, .ref 66], (q_cX q_AX q_IX q_J0, 40, 26520))) 16 (fun _ _ => rfl) ?_
        refine q_Ru_call (v := (some (.int 0))) (h2 := (q_cX q_AX q_IX q_J0, 40, 26520)) rfl rfl ?_ ?_
        · refine q_Ca_of (Nat.le_of_ble_eq_true rfl) ?_
          refine q_Ru_seg (g2 := (183, [(0, .ref 66), (1, .int 38), (2, .int 0)], [.int 0], (q_cX q_AX q_IX q_J0, 40, 26520))) 3 (fun _ _ => rfl) ?_
          exact q_Ru_ret rfl rfl
        show q_Ru _ _ _ (30, [(2, .int 38), (0, .ref 66), (1, .int 3878)], [.int 0], (q_cX q_AX q_IX q_J0, 40, 26520)) _
        exact q_Ru_ret rfl rfl
      | 39, _, e132 =>
        have e132 : a = 3879 := e132
        subst e132
        refine q_Ca_of (Nat.le_of_ble_eq_true rfl) ?_
        refine q_Ru_seg (g2 := (27, [(2, .int 39), (0, .ref 66), (1, .int 3879)], [.int 0, .int 39, .ref 66], (q_cX q_AX q_IX q_J0, 40, 26520))) 16 (fun _ _ => rfl) ?_
        refine q_Ru_call (v := (some (.int 0))) (h2 := (q_cX q_AX q_IX q_J0, 40, 26520)) rfl rfl ?_ ?_
        · refine q_Ca_of (Nat.le_of_ble_eq_true rfl) ?_
          refine q_Ru_seg (g2 := (183, [(0, .ref 66), (1, .int 39), (2, .int 0)], [.int 0], (q_cX q_AX q_IX q_J0, 40, 26520))) 3 (fun _ _ => rfl) ?_
          exact q_Ru_ret rfl rfl
        show q_Ru _ _ _ (30, [(2, .int 39), (0, .ref 66), (1, .int 3879)], [.int 0], (q_cX q_AX q_IX q_J0, 40, 26520)) _
        exact q_Ru_ret rfl rfl
      | 40, _, e132 =>
        have e132 : a = 3880 := e132
        subst e132
        refine q_Ca_of (Nat.le_of_ble_eq_true rfl) ?_
        refine q_Ru_seg (g2 := (27, [(2, .int 40), (0, .ref 66), (1, .int 3880)], [.int 0, .int 40, .ref 66], (q_cX q_AX q_IX q_J0, 40, 26520))) 16 (fun _ _ => rfl) ?_
        refine q_Ru_call (v := (some (.int 0))) (h2 := (q_cX q_AX q_IX q_J0, 40, 26520)) rfl rfl ?_ ?_
        · refine q_Ca_of (Nat.le_of_ble_eq_true rfl) ?_
          refine q_Ru_seg (g2 := (183, [(0, .ref 66), (1, .int 40), (2, .int 0)], [.int 0], (q_cX q_AX q_IX q_J0, 40, 26520))) 3 (fun _ _ => rfl) ?_
          exact q_Ru_ret rfl rfl
        show q_Ru _ _ _ (30, [(2, .int 40), (0, .ref 66), (1, .int 3880)], [.int 0], (q_cX q_AX q_IX q_J0, 40, 26520)) _
        exact q_Ru_ret rfl rfl
      | 41, _, e132 =>
        have e132 : a = 3881 := e132
        subst e132
        refine q_Ca_of (Nat.le_of_ble_eq_true rfl) ?_
        refine q_Ru_seg (g2 := (27, [(2, .int 41), (0, .ref 66), (1, .int 3881)], [.int 0, .int 41, .ref 66], (q_cX q_AX q_IX q_J0, 40, 26520))) 16 (fun _ _ => rfl) ?_
        refine q_Ru_call (v := (some (.int 0))) (h2 := (q_cX q_AX q_IX q_J0, 40, 26520)) rfl rfl ?_ ?_
        · refine q_Ca_of (Nat.le_of_ble_eq_true rfl) ?_
          refine q_Ru_seg (g2 := (183, [(0, .ref 66), (1, .int 41), (2, .int 0)], [.int 0], (q_cX q_AX q_IX q_J0, 40, 26520))) 3 (fun _ _ => rfl) ?_
          exact q_Ru_ret rfl rfl
        show q_Ru _ _ _ (30, [(2, .int 41), (0, .ref 66), (1, .int 3881)], [.int 0], (q_cX q_AX q_IX q_J0, 40, 26520)) _
        exact q_Ru_ret rfl rfl
      | 42, _, e132 =>
        have e132 : a = 3882 := e132
        subst e132
        refine q_Ca_of (Nat.le_of_ble_eq_true rfl) ?_
        refine q_Ru_seg (g2 := (27, [(2, .int 42), (0, .ref 66), (1, .int 3882)], [.int 0, .int 42, .ref 66], (q_cX q_AX q_IX q_J0, 40, 26520))) 16 (fun _ _ => rfl) ?_
        refine q_Ru_call (v := (some (.int 0))) (h2 := (q_cX q_AX q_IX q_J0, 40, 26520)) rfl rfl ?_ ?_
        · refine q_Ca_of (Nat.le_of_ble_eq_true rfl) ?_
          refine q_Ru_seg (g2 := (183, [(0, .ref 66), (1, .int 42), (2, .int 0)], [.int 0], (q_cX q_AX q_IX q_J0, 40, 26520))) 3 (fun _ _ => rfl) ?_
          exact q_Ru_ret rfl rfl
        show q_Ru _ _ _ (30, [(2, .int 42), (0, .ref 66), (1, .int 3882)], [.int 0], (q_cX q_AX q_IX q_J0, 40, 26520)) _
        exact q_Ru_ret rfl rfl
      | 43, _, e132 =>
        have e132 : a = 3883 := e132
        subst e132
        refine q_Ca_of (Nat.le_of_ble_eq_true rfl) ?_
        refine q_Ru_seg (g2 := (27, [(2, .int 43), (0, .ref 66), (1, .int 3883)], [.int 0, .int 43, .ref 66], (q_cX q_AX q_IX q_J0, 40, 26520))) 16 (fun _ _ => rfl) ?_
        refine q_Ru_call (v := (some (.int 0))) (h2 := (q_cX q_AX q_IX q_J0, 40, 26520)) rfl rfl ?_ ?_
        · refine q_Ca_of (Nat.le_of_ble_eq_true rfl) ?_
          refine q_Ru_seg (g2 := (183, [(0, .ref 66), (1, .int 43), (2, .int 0)], [.int 0], (q_cX q_AX q_IX q_J0, 40, 26520))) 3 (fun _ _ => rfl) ?_
          exact q_Ru_ret rfl rfl
        show q_Ru _ _ _ (30, [(2, .int 43), (0, .ref 66), (1, .int 3883)], [.int 0], (q_cX q_AX q_IX q_J0, 40, 26520)) _
        exact q_Ru_ret rfl rfl
      | 44, _, e132 =>
        have e132 : a = 3884 := e132
        subst e132
        refine q_Ca_of (Nat.le_of_ble_eq_true rfl) ?_
        refine q_Ru_seg (g2 := (27, [(2, .int 44), (0, .ref 66), (1, .int 3884)], [.int 0, .int 44, .ref 66], (q_cX q_AX q_IX q_J0, 40, 26520))) 16 (fun _ _ => rfl) ?_
        refine q_Ru_call (v := (some (.int 0))) (h2 := (q_cX q_AX q_IX q_J0, 40, 26520)) rfl rfl ?_ ?_
        · refine q_Ca_of (Nat.le_of_ble_eq_true rfl) ?_
          refine q_Ru_seg (g2 := (181, [(0, .ref 66), (1, .int 44), (2, .int 0)], [.int 0], (q_cX q_AX q_IX q_J0, 40, 26520))) 18 (fun _ _ => rfl) ?_
          exact q_Ru_ret rfl rfl
        show q_Ru _ _ _ (30, [(2, .int 44), (0, .ref 66), (1, .int 3884)], [.int 0], (q_cX q_AX q_IX q_J0, 40, 26520)) _
        exact q_Ru_ret rfl rfl
      | 45, _, e132 =>
        have e132 : a = 3885 := e132
        subst e132
        refine q_Ca_of (Nat.le_of_ble_eq_true rfl) ?_
        refine q_Ru_seg (g2 := (27, [(2, .int 45), (0, .ref 66), (1, .int 3885)], [.int 0, .int 45, .ref 66], (q_cX q_AX q_IX q_J0, 40, 26520))) 16 (fun _ _ => rfl) ?_
        refine q_Ru_call (v := (some (.int 0))) (h2 := (q_cX q_AX q_IX q_J0, 40, 26520)) rfl rfl ?_ ?_
        · refine q_Ca_of (Nat.le_of_ble_eq_true rfl) ?_
          refine q_Ru_seg (g2 := (183, [(0, .ref 66), (1, .int 45), (2, .int 0)], [.int 0], (q_cX q_AX q_IX q_J0, 40, 26520))) 3 (fun _ _ => rfl) ?_
          exact q_Ru_ret rfl rfl
        show q_Ru _ _ _ (30, [(2, .int 45), (0, .ref 66), (1, .int 3885)], [.int 0], (q_cX q_AX q_IX q_J0, 40, 26520)) _
        exact q_Ru_ret rfl rfl
      | 46, _, e132 =>
        have e132 : a = 3886 := e132
        subst e132
        refine q_Ca_of (Nat.le_of_ble_eq_true rfl) ?_
        refine q_Ru_seg (g2 := (27, [(2, .int 46), (0, .ref 66), (1, .int 3886)], [.int 0, .int 46, .ref 66], (q_cX q_AX q_IX q_J0, 40, 26520))) 16 (fun _ _ => rfl) ?_
        refine q_Ru_call (v := (some (.int 0))) (h2 := (q_cX q_AX q_IX q_J0, 40, 26520)) rfl rfl ?_ ?_
        · refine q_Ca_of (Nat.le_of_ble_eq_true rfl) ?_
          refine q_Ru_seg (g2 := (183, [(0, .ref 66), (1, .int 46), (2, .int 0)], [.int 0], (q_cX q_AX q_IX q_J0, 40, 26520))) 3 (fun _ _ => rfl) ?_
          exact q_Ru_ret rfl rfl
        show q_Ru _ _ _ (30, [(2, .int 46), (0, .ref 66), (1, .int 3886)], [.int 0], (q_cX q_AX q_IX q_J0, 40, 26520)) _
        exact q_Ru_ret rfl rfl
      | 47, _, e132 =>
        have e132 : a = 3887 := e132
        subst e132
        refine q_Ca_of (Nat.le_of_ble_eq_true rfl) ?_
        refine q_Ru_seg (g2 := (27, [(2, .int 47), (0, .ref 66), (1, .int 3887)], [.int 0, .int 47, .ref 66], (q_cX q_AX q_IX q_J0, 40, 26520))) 16 (fun _ _ => rfl) ?_
        refine q_Ru_call (v := (some (.int 0))) (h2 := (q_cX q_AX q_IX q_J0, 40, 26520)) rfl rfl ?_ ?_
        · refine q_Ca_of (Nat.le_of_ble_eq_true rfl) ?_
          refine q_Ru_seg (g2 := (183, [(0, .ref 66), (1, .int 47), (2, .int 0)], [.int 0], (q_cX q_AX q_IX q_J0, 40, 26520))) 3 (fun _ _ => rfl) ?_
          exact q_Ru_ret rfl rfl
        show q_Ru _ _ _ (30, [(2, .int 47), (0, .ref 66), (1, .int 3887)], [.int 0], (q_cX q_AX q_IX q_J0, 40, 26520)) _
        exact q_Ru_ret rfl rfl
      | j132 + 48, g132, _ => exact absurd g132 (by omega)
    | false =>
      refine q_Ca_of (Nat.le_of_ble_eq_true rfl) ?_
      refine q_Ru_seg (g2 := (7, [(2, .int (a - 3840)), (0, .ref 66), (1, .int a)], [.int (a - 3840)], (q_cX q_AX q_IX q_J0, 40, 26520))) 5 (fun _ _ => rfl) ?_
      refine q_Ru_rsF (g2 := (10, [(2, .int (a - 3840)), (0, .ref 66), (1, .int a)], [], (q_cX q_AX q_IX q_J0, 40, 26520))) rfl rfl h130 ?_
      refine q_Ru_seg (g2 := (13, [(2, .int (a - 3840)), (0, .ref 66), (1, .int a)], [.int 48, .int (a - 3840)], (q_cX q_AX q_IX q_J0, 40, 26520))) 2 (fun _ _ => rfl) ?_
      refine q_Ru_rsT (g2 := (31, [(2, .int (a - 3840)), (0, .ref 66), (1, .int a)], [], (q_cX q_AX q_IX q_J0, 40, 26520))) rfl rfl (q_d_geF h131) ?_
      refine q_Ru_seg (g2 := (127, [(3, .int 0), (2, .int (a - 3840)), (0, .ref 66), (1, .int a)], [.int (a &&& 4095), .ref 68], (q_cX q_AX q_IX q_J0, 40, 26520))) 22 (fun _ _ => rfl) ?_
      refine q_Ru_rsT (g2 := (128, [(3, .int 0), (2, .int (a - 3840)), (0, .ref 66), (1, .int a)], [.int 0], (q_cX q_AX q_IX q_J0, 40, 26520))) rfl rfl (q_in_bd (x := a &&& 4095) (n := 4096) (U := 4095) (L := 0) (q_and_lo a 4095) (q_and_hi a 4095 4095)) ?_
      exact q_Ru_ret rfl rfl
set_option maxHeartbeats 4000000 in
theorem q_p_reads0 (f : Nat → Int32) (I : Nat → Nat → Int32) (a : Int32) (hl : 0 ≤ a.toInt) (hu : a.toInt ≤ 4095) : ∃ f2, q_Ca q_TB0 4 214 [.ref 64, .int a] (q_cM (q_uA q_AM 33 f) I q_J0, 34, 31630) (.inl (some (.int 0)), (q_cM (q_uA q_AM 33 f2) I q_J0, 34, 31630)) := by
  cases h133 : decide (a < 3840) with
  | true =>
    cases h134 : decide (a < 3072) with
    | true =>
      cases h135 : decide (a < 2048) with
      | true =>
        refine ⟨f, ?_⟩
        refine q_Ca_of (Nat.le_of_ble_eq_true rfl) ?_
        refine q_Ru_seg (g2 := (7, [(0, .ref 64), (1, .int a)], [.int 3887, .int 3840, .int a], (q_cM (q_uA q_AM 33 f) I q_J0, 34, 31630))) 3 (fun _ _ => rfl) ?_
        refine q_Ru_call (v := (some (.int 0))) (h2 := (q_cM (q_uA q_AM 33 f) I q_J0, 34, 31630)) rfl rfl ?_ ?_
        · refine q_Ca_of (Nat.le_of_ble_eq_true rfl) ?_
          refine q_Ru_seg (g2 := (2, [(0, .int a), (1, .int 3840), (2, .int 3887)], [.int 3840, .int a], (q_cM (q_uA q_AM 33 f) I q_J0, 34, 31630))) 2 (fun _ _ => rfl) ?_
          refine q_Ru_rsT (g2 := (14, [(0, .int a), (1, .int 3840), (2, .int 3887)], [], (q_cM (q_uA q_AM 33 f) I q_J0, 34, 31630))) rfl rfl h133 ?_
          refine q_Ru_seg (g2 := (15, [(0, .int a), (1, .int 3840), (2, .int 3887)], [.int 0], (q_cM (q_uA q_AM 33 f) I q_J0, 34, 31630))) 1 (fun _ _ => rfl) ?_
          exact q_Ru_ret rfl rfl
        show q_Ru _ _ _ (10, [(0, .ref 64), (1, .int a)], [.int 0], (q_cM (q_uA q_AM 33 f) I q_J0, 34, 31630)) _
        refine q_Ru_seg (g2 := (30, [(0, .ref 64), (1, .int a)], [.int 3583, .int 3072, .int a], (q_cM (q_uA q_AM 33 f) I q_J0, 34, 31630))) 4 (fun _ _ => rfl) ?_
        refine q_Ru_call (v := (some (.int 0))) (h2 := (q_cM (q_uA q_AM 33 f) I q_J0, 34, 31630)) rfl rfl ?_ ?_
        · refine q_Ca_of (Nat.le_of_ble_eq_true rfl) ?_
          refine q_Ru_seg (g2 := (2, [(0, .int a), (1, .int 3072), (2, .int 3583)], [.int 3072, .int a], (q_cM (q_uA q_AM 33 f) I q_J0, 34, 31630))) 2 (fun _ _ => rfl) ?_
          refine q_Ru_rsT (g2 := (14, [(0, .int a), (1, .int 3072), (2, .int 3583)], [], (q_cM (q_uA q_AM 33 f) I q_J0, 34, 31630))) rfl rfl h134 ?_
          refine q_Ru_seg (g2 := (15, [(0, .int a), (1, .int 3072), (2, .int 3583)], [.int 0], (q_cM (q_uA q_AM 33 f) I q_J0, 34, 31630))) 1 (fun _ _ => rfl) ?_
          exact q_Ru_ret rfl rfl
        show q_Ru _ _ _ (33, [(0, .ref 64), (1, .int a)], [.int 0], (q_cM (q_uA q_AM 33 f) I q_J0, 34, 31630)) _
        refine q_Ru_seg (g2 := (67, [(0, .ref 64), (1, .int a)], [.int 2559, .int 2048, .int a], (q_cM (q_uA q_AM 33 f) I q_J0, 34, 31630))) 4 (fun _ _ => rfl) ?_
        refine q_Ru_call (v := (some (.int 0))) (h2 := (q_cM (q_uA q_AM 33 f) I q_J0, 34, 31630)) rfl rfl ?_ ?_
        · refine q_Ca_of (Nat.le_of_ble_eq_true rfl) ?_
          refine q_Ru_seg (g2 := (2, [(0, .int a), (1, .int 2048), (2, .int 2559)], [.int 2048, .int a], (q_cM (q_uA q_AM 33 f) I q_J0, 34, 31630))) 2 (fun _ _ => rfl) ?_
          refine q_Ru_rsT (g2 := (14, [(0, .int a), (1, .int 2048), (2, .int 2559)], [], (q_cM (q_uA q_AM 33 f) I q_J0, 34, 31630))) rfl rfl h135 ?_
          refine q_Ru_seg (g2 := (15, [(0, .int a), (1, .int 2048), (2, .int 2559)], [.int 0], (q_cM (q_uA q_AM 33 f) I q_J0, 34, 31630))) 1 (fun _ _ => rfl) ?_
          exact q_Ru_ret rfl rfl
        show q_Ru _ _ _ (70, [(0, .ref 64), (1, .int a)], [.int 0], (q_cM (q_uA q_AM 33 f) I q_J0, 34, 31630)) _
        refine q_Ru_seg (g2 := (115, [(0, .ref 64), (1, .int a)], [.int a, .ref 65], (q_cM (q_uA q_AM 33 f) I q_J0, 34, 31630))) 4 (fun _ _ => rfl) ?_
        refine q_Ru_rsT (g2 := (116, [(0, .ref 64), (1, .int a)], [.int 0], (q_cM (q_uA q_AM 33 f) I q_J0, 34, 31630))) rfl rfl (q_in_bd (x := a) (n := 4096) (U := 2047) (L := 0) hl (q_hi1 h135)) ?_
        exact q_Ru_ret rfl rfl
      | false =>
        cases h136 : decide (2559 < a) with
        | true =>
          refine ⟨f, ?_⟩
          refine q_Ca_of (Nat.le_of_ble_eq_true rfl) ?_
          refine q_Ru_seg (g2 := (7, [(0, .ref 64), (1, .int a)], [.int 3887, .int 3840, .int a], (q_cM (q_uA q_AM 33 f) I q_J0, 34, 31630))) 3 (fun _ _ => rfl) ?_
          refine q_Ru_call (v := (some (.int 0))) (h2 := (q_cM (q_uA q_AM 33 f) I q_J0, 34, 31630)) rfl rfl ?_ ?_
          · refine q_Ca_of (Nat.le_of_ble_eq_true rfl) ?_
            refine q_Ru_seg (g2 := (2, [(0, .int a), (1, .int 3840), (2, .int 3887)], [.int 3840, .int a], (q_cM (q_uA q_AM 33 f) I q_J0, 34, 31630))) 2 (fun _ _ => rfl) ?_
            refine q_Ru_rsT (g2 := (14, [(0, .int a), (1, .int 3840), (2, .int 3887)], [], (q_cM (q_uA q_AM 33 f) I q_J0, 34, 31630))) rfl rfl h133 ?_
            refine q_Ru_seg (g2 := (15, [(0, .int a), (1, .int 3840), (2, .int 3887)], [.int 0], (q_cM (q_uA q_AM 33 f) I q_J0, 34, 31630))) 1 (fun _ _ => rfl) ?_
            exact q_Ru_ret rfl rfl
          show q_Ru _ _ _ (10, [(0, .ref 64), (1, .int a)], [.int 0], (q_cM (q_uA q_AM 33 f) I q_J0, 34, 31630)) _
          refine q_Ru_seg (g2 := (30, [(0, .ref 64), (1, .int a)], [.int 3583, .int 3072, .int a], (q_cM (q_uA q_AM 33 f) I q_J0, 34, 31630))) 4 (fun _ _ => rfl) ?_
          refine q_Ru_call (v := (some (.int 0))) (h2 := (q_cM (q_uA q_AM 33 f) I q_J0, 34, 31630)) rfl rfl ?_ ?_
          · refine q_Ca_of (Nat.le_of_ble_eq_true rfl) ?_
            refine q_Ru_seg (g2 := (2, [(0, .int a), (1, .int 3072), (2, .int 3583)], [.int 3072, .int a], (q_cM (q_uA q_AM 33 f) I q_J0, 34, 31630))) 2 (fun _ _ => rfl) ?_
            refine q_Ru_rsT (g2 := (14, [(0, .int a), (1, .int 3072), (2, .int 3583)], [], (q_cM (q_uA q_AM 33 f) I q_J0, 34, 31630))) rfl rfl h134 ?_
            refine q_Ru_seg (g2 := (15, [(0, .int a), (1, .int 3072), (2, .int 3583)], [.int 0], (q_cM (q_uA q_AM 33 f) I q_J0, 34, 31630))) 1 (fun _ _ => rfl) ?_
            exact q_Ru_ret rfl rfl
          show q_Ru _ _ _ (33, [(0, .ref 64), (1, .int a)], [.int 0], (q_cM (q_uA q_AM 33 f) I q_J0, 34, 31630)) _
          refine q_Ru_seg (g2 := (67, [(0, .ref 64), (1, .int a)], [.int 2559, .int 2048, .int a], (q_cM (q_uA q_AM 33 f) I q_J0, 34, 31630))) 4 (fun _ _ => rfl) ?_
          refine q_Ru_call (v := (some (.int 0))) (h2 := (q_cM (q_uA q_AM 33 f) I q_J0, 34, 31630)) rfl rfl ?_ ?_
          · refine q_Ca_of (Nat.le_of_ble_eq_true rfl) ?_
            refine q_Ru_seg (g2 := (2, [(0, .int a), (1, .int 2048), (2, .int 2559)], [.int 2048, .int a], (q_cM (q_uA q_AM 33 f) I q_J0, 34, 31630))) 2 (fun _ _ => rfl) ?_
            refine q_Ru_rsF (g2 := (5, [(0, .int a), (1, .int 2048), (2, .int 2559)], [], (q_cM (q_uA q_AM 33 f) I q_J0, 34, 31630))) rfl rfl h135 ?_
            refine q_Ru_seg (g2 := (7, [(0, .int a), (1, .int 2048), (2, .int 2559)], [.int 2559, .int a], (q_cM (q_uA q_AM 33 f) I q_J0, 34, 31630))) 2 (fun _ _ => rfl) ?_
            refine q_Ru_rsT (g2 := (14, [(0, .int a), (1, .int 2048), (2, .int 2559)], [], (q_cM (q_uA q_AM 33 f) I q_J0, 34, 31630))) rfl rfl h136 ?_
            refine q_Ru_seg (g2 := (15, [(0, .int a), (1, .int 2048), (2, .int 2559)], [.int 0], (q_cM (q_uA q_AM 33 f) I q_J0, 34, 31630))) 1 (fun _ _ => rfl) ?_
            exact q_Ru_ret rfl rfl
          show q_Ru _ _ _ (70, [(0, .ref 64), (1, .int a)], [.int 0], (q_cM (q_uA q_AM 33 f) I q_J0, 34, 31630)) _
          refine q_Ru_seg (g2 := (115, [(0, .ref 64), (1, .int a)], [.int a, .ref 65], (q_cM (q_uA q_AM 33 f) I q_J0, 34, 31630))) 4 (fun _ _ => rfl) ?_
          refine q_Ru_rsT (g2 := (116, [(0, .ref 64), (1, .int a)], [.int 0], (q_cM (q_uA q_AM 33 f) I q_J0, 34, 31630))) rfl rfl (q_in_bd (x := a) (n := 4096) (U := 3071) (L := 2560) (q_lo2 h136) (q_hi1 h134)) ?_
          exact q_Ru_ret rfl rfl
        | false =>
          refine ⟨f, ?_⟩
          refine q_Ca_of (Nat.le_of_ble_eq_true rfl) ?_
          refine q_Ru_seg (g2 := (7, [(0, .ref 64), (1, .int a)], [.int 3887, .int 3840, .int a], (q_cM (q_uA q_AM 33 f) I q_J0, 34, 31630))) 3 (fun _ _ => rfl) ?_
          refine q_Ru_call (v := (some (.int 0))) (h2 := (q_cM (q_uA q_AM 33 f) I q_J0, 34, 31630)) rfl rfl ?_ ?_
          · refine q_Ca_of (Nat.le_of_ble_eq_true rfl) ?_
            refine q_Ru_seg (g2 := (2, [(0, .int a), (1, .int 3840), (2, .int 3887)], [.int 3840, .int a], (q_cM (q_uA q_AM 33 f) I q_J0, 34, 31630))) 2 (fun _ _ => rfl) ?_
            refine q_Ru_rsT (g2 := (14, [(0, .int a), (1, .int 3840), (2, .int 3887)], [], (q_cM (q_uA q_AM 33 f) I q_J0, 34, 31630))) rfl rfl h133 ?_
            refine q_Ru_seg (g2 := (15, [(0, .int a), (1, .int 3840), (2, .int 3887)], [.int 0], (q_cM (q_uA q_AM 33 f) I q_J0, 34, 31630))) 1 (fun _ _ => rfl) ?_
            exact q_Ru_ret rfl rfl
          show q_Ru _ _ _ (10, [(0, .ref 64), (1, .int a)], [.int 0], (q_cM (q_uA q_AM 33 f) I q_J0, 34, 31630)) _
          refine q_Ru_seg (g2 := (30, [(0, .ref 64), (1, .int a)], [.int 3583, .int 3072, .int a], (q_cM (q_uA q_AM 33 f) I q_J0, 34, 31630))) 4 (fun _ _ => rfl) ?_
          refine q_Ru_call (v := (some (.int 0))) (h2 := (q_cM (q_uA q_AM 33 f) I q_J0, 34, 31630)) rfl rfl ?_ ?_
          · refine q_Ca_of (Nat.le_of_ble_eq_true rfl) ?_
            refine q_Ru_seg (g2 := (2, [(0, .int a), (1, .int 3072), (2, .int 3583)], [.int 3072, .int a], (q_cM (q_uA q_AM 33 f) I q_J0, 34, 31630))) 2 (fun _ _ => rfl) ?_
            refine q_Ru_rsT (g2 := (14, [(0, .int a), (1, .int 3072), (2, .int 3583)], [], (q_cM (q_uA q_AM 33 f) I q_J0, 34, 31630))) rfl rfl h134 ?_
            refine q_Ru_seg (g2 := (15, [(0, .int a), (1, .int 3072), (2, .int 3583)], [.int 0], (q_cM (q_uA q_AM 33 f) I q_J0, 34, 31630))) 1 (fun _ _ => rfl) ?_
            exact q_Ru_ret rfl rfl
          show q_Ru _ _ _ (33, [(0, .ref 64), (1, .int a)], [.int 0], (q_cM (q_uA q_AM 33 f) I q_J0, 34, 31630)) _
          refine q_Ru_seg (g2 := (67, [(0, .ref 64), (1, .int a)], [.int 2559, .int 2048, .int a], (q_cM (q_uA q_AM 33 f) I q_J0, 34, 31630))) 4 (fun _ _ => rfl) ?_
          refine q_Ru_call (v := (some (.int 1))) (h2 := (q_cM (q_uA q_AM 33 f) I q_J0, 34, 31630)) rfl rfl ?_ ?_
          · refine q_Ca_of (Nat.le_of_ble_eq_true rfl) ?_
            refine q_Ru_seg (g2 := (2, [(0, .int a), (1, .int 2048), (2, .int 2559)], [.int 2048, .int a], (q_cM (q_uA q_AM 33 f) I q_J0, 34, 31630))) 2 (fun _ _ => rfl) ?_
            refine q_Ru_rsF (g2 := (5, [(0, .int a), (1, .int 2048), (2, .int 2559)], [], (q_cM (q_uA q_AM 33 f) I q_J0, 34, 31630))) rfl rfl h135 ?_
            refine q_Ru_seg (g2 := (7, [(0, .int a), (1, .int 2048), (2, .int 2559)], [.int 2559, .int a], (q_cM (q_uA q_AM 33 f) I q_J0, 34, 31630))) 2 (fun _ _ => rfl) ?_
            refine q_Ru_rsF (g2 := (10, [(0, .int a), (1, .int 2048), (2, .int 2559)], [], (q_cM (q_uA q_AM 33 f) I q_J0, 34, 31630))) rfl rfl h136 ?_
            refine q_Ru_seg (g2 := (15, [(0, .int a), (1, .int 2048), (2, .int 2559)], [.int 1], (q_cM (q_uA q_AM 33 f) I q_J0, 34, 31630))) 2 (fun _ _ => rfl) ?_
            exact q_Ru_ret rfl rfl
          show q_Ru _ _ _ (70, [(0, .ref 64), (1, .int a)], [.int 1], (q_cM (q_uA q_AM 33 f) I q_J0, 34, 31630)) _
          refine q_Ru_seg (g2 := (79, [(0, .ref 64), (1, .int a)], [.int 0], (q_cM (q_uA q_AM 33 f) I q_J0, 34, 31630))) 5 (fun _ _ => rfl) ?_
          refine q_Ru_seg (g2 := (80, [(0, .ref 64), (1, .int a)], [.int 1, .int 0], (q_cM (q_uA q_AM 33 f) I q_J0, 34, 31630))) 1 (fun _ _ => rfl) ?_
          refine q_Ru_call (v := (some (.int 0))) (h2 := (q_cM (q_uA q_AM 33 f) I q_J0, 34, 31630)) rfl rfl ?_ ?_
          · refine q_Ca_of (Nat.le_of_ble_eq_true rfl) ?_
            refine q_Ru_seg (g2 := (14, [(0, .int 0), (1, .int 1)], [.int 0], (q_cM (q_uA q_AM 33 f) I q_J0, 34, 31630))) 8 (fun _ _ => rfl) ?_
            exact q_Ru_ret rfl rfl
          show q_Ru _ _ _ (83, [(0, .ref 64), (1, .int a)], [.int 0], (q_cM (q_uA q_AM 33 f) I q_J0, 34, 31630)) _
          refine q_Ru_seg (g2 := (115, [(0, .ref 64), (1, .int a)], [.int a, .ref 65], (q_cM (q_uA q_AM 33 f) I q_J0, 34, 31630))) 4 (fun _ _ => rfl) ?_
          refine q_Ru_rsT (g2 := (116, [(0, .ref 64), (1, .int a)], [.int 0], (q_cM (q_uA q_AM 33 f) I q_J0, 34, 31630))) rfl rfl (q_in_bd (x := a) (n := 4096) (U := 2559) (L := 2048) (q_lo1 h135) (q_hi2 h136)) ?_
          exact q_Ru_ret rfl rfl
    | false =>
      cases h137 : decide (3583 < a) with
      | true =>
        cases h138 : decide (a < 2048) with
        | true =>
          exact q_no (q_lo2 h137) (q_hi1 h138) (by decide)
        | false =>
          cases h139 : decide (2559 < a) with
          | true =>
            refine ⟨f, ?_⟩
            refine q_Ca_of (Nat.le_of_ble_eq_true rfl) ?_
            refine q_Ru_seg (g2 := (7, [(0, .ref 64), (1, .int a)], [.int 3887, .int 3840, .int a], (q_cM (q_uA q_AM 33 f) I q_J0, 34, 31630))) 3 (fun _ _ => rfl) ?_
            refine q_Ru_call (v := (some (.int 0))) (h2 := (q_cM (q_uA q_AM 33 f) I q_J0, 34, 31630)) rfl rfl ?_ ?_
            · refine q_Ca_of (Nat.le_of_ble_eq_true rfl) ?_
              refine q_Ru_seg (g2 := (2, [(0, .int a), (1, .int 3840), (2, .int 3887)], [.int 3840, .int a], (q_cM (q_uA q_AM 33 f) I q_J0, 34, 31630))) 2 (fun _ _ => rfl) ?_
              refine q_Ru_rsT (g2 := (14, [(0, .int a), (1, .int 3840), (2, .int 3887)], [], (q_cM (q_uA q_AM 33 f) I q_J0, 34, 31630))) rfl rfl h133 ?_
              refine q_Ru_seg (g2 := (15, [(0, .int a), (1, .int 3840), (2, .int 3887)], [.int 0], (q_cM (q_uA q_AM 33 f) I q_J0, 34, 31630))) 1 (fun _ _ => rfl) ?_
              exact q_Ru_ret rfl rfl
            show q_Ru _ _ _ (10, [(0, .ref 64), (1, .int a)], [.int 0], (q_cM (q_uA q_AM 33 f) I q_J0, 34, 31630)) _
            refine q_Ru_seg (g2 := (30, [(0, .ref 64), (1, .int a)], [.int 3583, .int 3072, .int a], (q_cM (q_uA q_AM 33 f) I q_J0, 34, 31630))) 4 (fun _ _ => rfl) ?_
            refine q_Ru_call (v := (some (.int 0))) (h2 := (q_cM (q_uA q_AM 33 f) I q_J0, 34, 31630)) rfl rfl ?_ ?_
            · refine q_Ca_of (Nat.le_of_ble_eq_true rfl) ?_
              refine q_Ru_seg (g2 := (2, [(0, .int a), (1, .int 3072), (2, .int 3583)], [.int 3072, .int a], (q_cM (q_uA q_AM 33 f) I q_J0, 34, 31630))) 2 (fun _ _ => rfl) ?_
              refine q_Ru_rsF (g2 := (5, [(0, .int a), (1, .int 3072), (2, .int 3583)], [], (q_cM (q_uA q_AM 33 f) I q_J0, 34, 31630))) rfl rfl h134 ?_
              refine q_Ru_seg (g2 := (7, [(0, .int a), (1, .int 3072), (2, .int 3583)], [.int 3583, .int a], (q_cM (q_uA q_AM 33 f) I q_J0, 34, 31630))) 2 (fun _ _ => rfl) ?_
              refine q_Ru_rsT (g2 := (14, [(0, .int a), (1, .int 3072), (2, .int 3583)], [], (q_cM (q_uA q_AM 33 f) I q_J0, 34, 31630))) rfl rfl h137 ?_
              refine q_Ru_seg (g2 := (15, [(0, .int a), (1, .int 3072), (2, .int 3583)], [.int 0], (q_cM (q_uA q_AM 33 f) I q_J0, 34, 31630))) 1 (fun _ _ => rfl) ?_
              exact q_Ru_ret rfl rfl
            show q_Ru _ _ _ (33, [(0, .ref 64), (1, .int a)], [.int 0], (q_cM (q_uA q_AM 33 f) I q_J0, 34, 31630)) _
            refine q_Ru_seg (g2 := (67, [(0, .ref 64), (1, .int a)], [.int 2559, .int 2048, .int a], (q_cM (q_uA q_AM 33 f) I q_J0, 34, 31630))) 4 (fun _ _ => rfl) ?_
            refine q_Ru_call (v := (some (.int 0))) (h2 := (q_cM (q_uA q_AM 33 f) I q_J0, 34, 31630)) rfl rfl ?_ ?_
            · refine q_Ca_of (Nat.le_of_ble_eq_true rfl) ?_
              refine q_Ru_seg (g2 := (2, [(0, .int a), (1, .int 2048), (2, .int 2559)], [.int 2048, .int a], (q_cM (q_uA q_AM 33 f) I q_J0, 34, 31630))) 2 (fun _ _ => rfl) ?_
              refine q_Ru_rsF (g2 := (5, [(0, .int a), (1, .int 2048), (2, .int 2559)], [], (q_cM (q_uA q_AM 33 f) I q_J0, 34, 31630))) rfl rfl h138 ?_
              refine q_Ru_seg (g2 := (7, [(0, .int a), (1, .int 2048), (2, .int 2559)], [.int 2559, .int a], (q_cM (q_uA q_AM 33 f) I q_J0, 34, 31630))) 2 (fun _ _ => rfl) ?_
              refine q_Ru_rsT (g2 := (14, [(0, .int a), (1, .int 2048), (2, .int 2559)], [], (q_cM (q_uA q_AM 33 f) I q_J0, 34, 31630))) rfl rfl h139 ?_
              refine q_Ru_seg (g2 := (15, [(0, .int a), (1, .int 2048), (2, .int 2559)], [.int 0], (q_cM (q_uA q_AM 33 f) I q_J0, 34, 31630))) 1 (fun _ _ => rfl) ?_
              exact q_Ru_ret rfl rfl
            show q_Ru _ _ _ (70, [(0, .ref 64), (1, .int a)], [.int 0], (q_cM (q_uA q_AM 33 f) I q_J0, 34, 31630)) _
            refine q_Ru_seg (g2 := (115, [(0, .ref 64), (1, .int a)], [.int a, .ref 65], (q_cM (q_uA q_AM 33 f) I q_J0, 34, 31630))) 4 (fun _ _ => rfl) ?_
            refine q_Ru_rsT (g2 := (116, [(0, .ref 64), (1, .int a)], [.int 0], (q_cM (q_uA q_AM 33 f) I q_J0, 34, 31630))) rfl rfl (q_in_bd (x := a) (n := 4096) (U := 3839) (L := 3584) (q_lo2 h137) (q_hi1 h133)) ?_
            exact q_Ru_ret rfl rfl
          | false =>
            exact q_no (q_lo2 h137) (q_hi2 h139) (by decide)
      | false =>
        cases h140 : decide (a < 2048) with
        | true =>
          exact q_no (q_lo1 h134) (q_hi1 h140) (by decide)
        | false =>
          cases h141 : decide (2559 < a) with
          | true =>
            refine ⟨f, ?_⟩
            refine q_Ca_of (Nat.le_of_ble_eq_true rfl) ?_
            refine q_Ru_seg (g2 := (7, [(0, .ref 64), (1, .int a)], [.int 3887, .int 3840, .int a], (q_cM (q_uA q_AM 33 f) I q_J0, 34, 31630))) 3 (fun _ _ => rfl) ?_
            refine q_Ru_call (v := (some (.int 0))) (h2 := (q_cM (q_uA q_AM 33 f) I q_J0, 34, 31630)) rfl rfl ?_ ?_
            · refine q_Ca_of (Nat.le_of_ble_eq_true rfl) ?_
              refine q_Ru_seg (g2 := (2, [(0, .int a), (1, .int 3840), (2, .int 3887)], [.int 3840, .int a], (q_cM (q_uA q_AM 33 f) I q_J0, 34, 31630))) 2 (fun _ _ => rfl) ?_
              refine q_Ru_rsT (g2 := (14, [(0, .int a), (1, .int 3840), (2, .int 3887)], [], (q_cM (q_uA q_AM 33 f) I q_J0, 34, 31630))) rfl rfl h133 ?_
              refine q_Ru_seg (g2 := (15, [(0, .int a), (1, .int 3840), (2, .int 3887)], [.int 0], (q_cM (q_uA q_AM 33 f) I q_J0, 34, 31630))) 1 (fun _ _ => rfl) ?_
              exact q_Ru_ret rfl rfl
            show q_Ru _ _ _ (10, [(0, .ref 64), (1, .int a)], [.int 0], (q_cM (q_uA q_AM 33 f) I q_J0, 34, 31630)) _
            refine q_Ru_seg (g2 := (30, [(0, .ref 64), (1, .int a)], [.int 3583, .int 3072, .int a], (q_cM (q_uA q_AM 33 f) I q_J0, 34, 31630))) 4 (fun _ _ => rfl) ?_
            refine q_Ru_call (v := (some (.int 1))) (h2 := (q_cM (q_uA q_AM 33 f) I q_J0, 34, 31630)) rfl rfl ?_ ?_
            · refine q_Ca_of (Nat.le_of_ble_eq_true rfl) ?_
              refine q_Ru_seg (g2 := (2, [(0, .int a), (1, .int 3072), (2, .int 3583)], [.int 3072, .int a], (q_cM (q_uA q_AM 33 f) I q_J0, 34, 31630))) 2 (fun _ _ => rfl) ?_
              refine q_Ru_rsF (g2 := (5, [(0, .int a), (1, .int 3072), (2, .int 3583)], [], (q_cM (q_uA q_AM 33 f) I q_J0, 34, 31630))) rfl rfl h134 ?_
              refine q_Ru_seg (g2 := (7, [(0, .int a), (1, .int 3072), (2, .int 3583)], [.int 3583, .int a], (q_cM (q_uA q_AM 33 f) I q_J0, 34, 31630))) 2 (fun _ _ => rfl) ?_
              refine q_Ru_rsF (g2 := (10, [(0, .int a), (1, .int 3072), (2, .int 3583)], [], (q_cM (q_uA q_AM 33 f) I q_J0, 34, 31630))) rfl rfl h137 ?_
              refine q_Ru_seg (g2 := (15, [(0, .int a), (1, .int 3072), (2, .int 3583)], [.int 1], (q_cM (q_uA q_AM 33 f) I q_J0, 34, 31630))) 2 (fun _ _ => rfl) ?_
              exact q_Ru_ret rfl rfl
            show q_Ru _ _ _ (33, [(0, .ref 64), (1, .int a)], [.int 1], (q_cM (q_uA q_AM 33 f) I q_J0, 34, 31630)) _
            refine q_Ru_seg (g2 := (42, [(0, .ref 64), (1, .int a)], [.int 0], (q_cM (q_uA q_AM 33 f) I q_J0, 34, 31630))) 5 (fun _ _ => rfl) ?_
            refine q_Ru_seg (g2 := (43, [(0, .ref 64), (1, .int a)], [.int 0, .int 0], (q_cM (q_uA q_AM 33 f) I q_J0, 34, 31630))) 1 (fun _ _ => rfl) ?_
            refine q_Ru_call (v := (some (.int 0))) (h2 := (q_cM (q_uA q_AM 33 f) I q_J0, 34, 31630)) rfl rfl ?_ ?_
            · refine q_Ca_of (Nat.le_of_ble_eq_true rfl) ?_
              refine q_Ru_seg (g2 := (14, [(0, .int 0), (1, .int 0)], [.int 0], (q_cM (q_uA q_AM 33 f) I q_J0, 34, 31630))) 8 (fun _ _ => rfl) ?_
              exact q_Ru_ret rfl rfl
            show q_Ru _ _ _ (46, [(0, .ref 64), (1, .int a)], [.int 0], (q_cM (q_uA q_AM 33 f) I q_J0, 34, 31630)) _
            refine q_Ru_seg (g2 := (67, [(0, .ref 64), (1, .int a)], [.int 2559, .int 2048, .int a], (q_cM (q_uA q_AM 33 f) I q_J0, 34, 31630))) 4 (fun _ _ => rfl) ?_
            refine q_Ru_call (v := (some (.int 0))) (h2 := (q_cM (q_uA q_AM 33 f) I q_J0, 34, 31630)) rfl rfl ?_ ?_
            · refine q_Ca_of (Nat.le_of_ble_eq_true rfl) ?_
              refine q_Ru_seg (g2 := (2, [(0, .int a), (1, .int 2048), (2, .int 2559)], [.int 2048, .int a], (q_cM (q_uA q_AM 33 f) I q_J0, 34, 31630))) 2 (fun _ _ => rfl) ?_
              refine q_Ru_rsF (g2 := (5, [(0, .int a), (1, .int 2048), (2, .int 2559)], [], (q_cM (q_uA q_AM 33 f) I q_J0, 34, 31630))) rfl rfl h140 ?_
              refine q_Ru_seg (g2 := (7, [(0, .int a), (1, .int 2048), (2, .int 2559)], [.int 2559, .int a], (q_cM (q_uA q_AM 33 f) I q_J0, 34, 31630))) 2 (fun _ _ => rfl) ?_
              refine q_Ru_rsT (g2 := (14, [(0, .int a), (1, .int 2048), (2, .int 2559)], [], (q_cM (q_uA q_AM 33 f) I q_J0, 34, 31630))) rfl rfl h141 ?_
              refine q_Ru_seg (g2 := (15, [(0, .int a), (1, .int 2048), (2, .int 2559)], [.int 0], (q_cM (q_uA q_AM 33 f) I q_J0, 34, 31630))) 1 (fun _ _ => rfl) ?_
              exact q_Ru_ret rfl rfl
            show q_Ru _ _ _ (70, [(0, .ref 64), (1, .int a)], [.int 0], (q_cM (q_uA q_AM 33 f) I q_J0, 34, 31630)) _
            refine q_Ru_seg (g2 := (115, [(0, .ref 64), (1, .int a)], [.int a, .ref 65], (q_cM (q_uA q_AM 33 f) I q_J0, 34, 31630))) 4 (fun _ _ => rfl) ?_
            refine q_Ru_rsT (g2 := (116, [(0, .ref 64), (1, .int a)], [.int 0], (q_cM (q_uA q_AM 33 f) I q_J0, 34, 31630))) rfl rfl (q_in_bd (x := a) (n := 4096) (U := 3583) (L := 3072) (q_lo1 h134) (q_hi2 h137)) ?_
            exact q_Ru_ret rfl rfl
          | false =>
            exact q_no (q_lo1 h134) (q_hi2 h141) (by decide)
  | false =>
    cases h142 : decide (3887 < a) with
    | true =>
      cases h143 : decide (a < 3072) with
      | true =>
        exact q_no (q_lo2 h142) (q_hi1 h143) (by decide)
      | false =>
        cases h144 : decide (3583 < a) with
        | true =>
          cases h145 : decide (a < 2048) with
          | true =>
            exact q_no (q_lo2 h142) (q_hi1 h145) (by decide)
          | false =>
            cases h146 : decide (2559 < a) with
            | true =>
              refine ⟨f, ?_⟩
              refine q_Ca_of (Nat.le_of_ble_eq_true rfl) ?_
              refine q_Ru_seg (g2 := (7, [(0, .ref 64), (1, .int a)], [.int 3887, .int 3840, .int a], (q_cM (q_uA q_AM 33 f) I q_J0, 34, 31630))) 3 (fun _ _ => rfl) ?_
              refine q_Ru_call (v := (some (.int 0))) (h2 := (q_cM (q_uA q_AM 33 f) I q_J0, 34, 31630)) rfl rfl ?_ ?_
              · refine q_Ca_of (Nat.le_of_ble_eq_true rfl) ?_
                refine q_Ru_seg (g2 := (2, [(0, .int a), (1, .int 3840), (2, .int 3887)], [.int 3840, .int a], (q_cM (q_uA q_AM 33 f) I q_J0, 34, 31630))) 2 (fun _ _ => rfl) ?_
                refine q_Ru_rsF (g2 := (5, [(0, .int a), (1, .int 3840), (2, .int 3887)], [], (q_cM (q_uA q_AM 33 f) I q_J0, 34, 31630))) rfl rfl h133 ?_
                refine q_Ru_seg (g2 := (7, [(0, .int a), (1, .int 3840), (2, .int 3887)], [.int 3887, .int a], (q_cM (q_uA q_AM 33 f) I q_J0, 34, 31630))) 2 (fun _ _ => rfl) ?_
                refine q_Ru_rsT (g2 := (14, [(0, .int a), (1, .int 3840), (2, .int 3887)], [], (q_cM (q_uA q_AM 33 f) I q_J0, 34, 31630))) rfl rfl h142 ?_
                refine q_Ru_seg (g2 := (15, [(0, .int a), (1, .int 3840), (2, .int 3887)], [.int 0], (q_cM (q_uA q_AM 33 f) I q_J0, 34, 31630))) 1 (fun _ _ => rfl) ?_
                exact q_Ru_ret rfl rfl
              show q_Ru _ _ _ (10, [(0, .ref 64), (1, .int a)], [.int 0], (q_cM (q_uA q_AM 33 f) I q_J0, 34, 31630)) _
              refine q_Ru_seg (g2 := (30, [(0, .ref 64), (1, .int a)], [.int 3583, .int 3072, .int a], (q_cM (q_uA q_AM 33 f) I q_J0, 34, 31630))) 4 (fun _ _ => rfl) ?_
              refine q_Ru_call (v := (some (.int 0))) (h2 := (q_cM (q_uA q_AM 33 f) I q_J0, 34, 31630)) rfl rfl ?_ ?_
              · refine q_Ca_of (Nat.le_of_ble_eq_true rfl) ?_
                refine q_Ru_seg (g2 := (2, [(0, .int a), (1, .int 3072), (2, .int 3583)], [.int 3072, .int a], (q_cM (q_uA q_AM 33 f) I q_J0, 34, 31630))) 2 (fun _ _ => rfl) ?_
                refine q_Ru_rsF (g2 := (5, [(0, .int a), (1, .int 3072), (2, .int 3583)], [], (q_cM (q_uA q_AM 33 f) I q_J0, 34, 31630))) rfl rfl h143 ?_
                refine q_Ru_seg (g2 := (7, [(0, .int a), (1, .int 3072), (2, .int 3583)], [.int 3583, .int a], (q_cM (q_uA q_AM 33 f) I q_J0, 34, 31630))) 2 (fun _ _ => rfl) ?_
                refine q_Ru_rsT (g2 := (14, [(0, .int a), (1, .int 3072), (2, .int 3583)], [], (q_cM (q_uA q_AM 33 f) I q_J0, 34, 31630))) rfl rfl h144 ?_
                refine q_Ru_seg (g2 := (15, [(0, .int a), (1, .int 3072), (2, .int 3583)], [.int 0], (q_cM (q_uA q_AM 33 f) I q_J0, 34, 31630))) 1 (fun _ _ => rfl) ?_
                exact q_Ru_ret rfl rfl
              show q_Ru _ _ _ (33, [(0, .ref 64), (1, .int a)], [.int 0], (q_cM (q_uA q_AM 33 f) I q_J0, 34, 31630)) _
              refine q_Ru_seg (g2 := (67, [(0, .ref 64), (1, .int a)], [.int 2559, .int 2048, .int a], (q_cM (q_uA q_AM 33 f) I q_J0, 34, 31630))) 4 (fun _ _ => rfl) ?_
              refine q_Ru_call (v := (some (.int 0))) (h2 := (q_cM (q_uA q_AM 33 f) I q_J0, 34, 31630)) rfl rfl ?_ ?_
              · refine q_Ca_of (Nat.le_of_ble_eq_true rfl) ?_
                refine q_Ru_seg (g2 := (2, [(0, .int a), (1, .int 2048), (2, .int 2559)], [.int 2048, .int a], (q_cM (q_uA q_AM 33 f) I q_J0, 34, 31630))) 2 (fun _ _ => rfl) ?_
                refine q_Ru_rsF (g2 := (5, [(0, .int a), (1, .int 2048), (2, .int 2559)], [], (q_cM (q_uA q_AM 33 f) I q_J0, 34, 31630))) rfl rfl h145 ?_
                refine q_Ru_seg (g2 := (7, [(0, .int a), (1, .int 2048), (2, .int 2559)], [.int 2559, .int a], (q_cM (q_uA q_AM 33 f) I q_J0, 34, 31630))) 2 (fun _ _ => rfl) ?_
                refine q_Ru_rsT (g2 := (14, [(0, .int a), (1, .int 2048), (2, .int 2559)], [], (q_cM (q_uA q_AM 33 f) I q_J0, 34, 31630))) rfl rfl h146 ?_
                refine q_Ru_seg (g2 := (15, [(0, .int a), (1, .int 2048), (2, .int 2559)], [.int 0], (q_cM (q_uA q_AM 33 f) I q_J0, 34, 31630))) 1 (fun _ _ => rfl) ?_
                exact q_Ru_ret rfl rfl
              show q_Ru _ _ _ (70, [(0, .ref 64), (1, .int a)], [.int 0], (q_cM (q_uA q_AM 33 f) I q_J0, 34, 31630)) _
              refine q_Ru_seg (g2 := (115, [(0, .ref 64), (1, .int a)], [.int a, .ref 65], (q_cM (q_uA q_AM 33 f) I q_J0, 34, 31630))) 4 (fun _ _ => rfl) ?_
              refine q_Ru_rsT (g2 := (116, [(0, .ref 64), (1, .int a)], [.int 0], (q_cM (q_uA q_AM 33 f) I q_J0, 34, 31630))) rfl rfl (q_in_bd (x := a) (n := 4096) (U := 4095) (L := 3888) (q_lo2 h142) hu) ?_
              exact q_Ru_ret rfl rfl
            | false =>
              exact q_no (q_lo2 h142) (q_hi2 h146) (by decide)
        | false =>
          exact q_no (q_lo2 h142) (q_hi2 h144) (by decide)
    | false =>
      cases h147 : decide (a - 3840 = 9) with
      | true =>
        refine ⟨f, ?_⟩
        refine q_Ca_of (Nat.le_of_ble_eq_true rfl) ?_
        refine q_Ru_seg (g2 := (7, [(0, .ref 64), (1, .int a)], [.int 3887, .int 3840, .int a], (q_cM (q_uA q_AM 33 f) I q_J0, 34, 31630))) 3 (fun _ _ => rfl) ?_
        refine q_Ru_call (v := (some (.int 1))) (h2 := (q_cM (q_uA q_AM 33 f) I q_J0, 34, 31630)) rfl rfl ?_ ?_
        · refine q_Ca_of (Nat.le_of_ble_eq_true rfl) ?_
          refine q_Ru_seg (g2 := (2, [(0, .int a), (1, .int 3840), (2, .int 3887)], [.int 3840, .int a], (q_cM (q_uA q_AM 33 f) I q_J0, 34, 31630))) 2 (fun _ _ => rfl) ?_
          refine q_Ru_rsF (g2 := (5, [(0, .int a), (1, .int 3840), (2, .int 3887)], [], (q_cM (q_uA q_AM 33 f) I q_J0, 34, 31630))) rfl rfl h133 ?_
          refine q_Ru_seg (g2 := (7, [(0, .int a), (1, .int 3840), (2, .int 3887)], [.int 3887, .int a], (q_cM (q_uA q_AM 33 f) I q_J0, 34, 31630))) 2 (fun _ _ => rfl) ?_
          refine q_Ru_rsF (g2 := (10, [(0, .int a), (1, .int 3840), (2, .int 3887)], [], (q_cM (q_uA q_AM 33 f) I q_J0, 34, 31630))) rfl rfl h142 ?_
          refine q_Ru_seg (g2 := (15, [(0, .int a), (1, .int 3840), (2, .int 3887)], [.int 1], (q_cM (q_uA q_AM 33 f) I q_J0, 34, 31630))) 2 (fun _ _ => rfl) ?_
          exact q_Ru_ret rfl rfl
        show q_Ru _ _ _ (10, [(0, .ref 64), (1, .int a)], [.int 1], (q_cM (q_uA q_AM 33 f) I q_J0, 34, 31630)) _
        refine q_Ru_seg (g2 := (19, [(0, .ref 64), (1, .int a)], [.int (a - 3840), .ref 64], (q_cM (q_uA q_AM 33 f) I q_J0, 34, 31630))) 5 (fun _ _ => rfl) ?_
        refine q_Ru_call (v := (some (.int 0))) (h2 := (q_cM (q_uA q_AM 33 f) I q_J0, 34, 31630)) rfl rfl ?_ ?_
        · refine q_Ca_of (Nat.le_of_ble_eq_true rfl) ?_
          refine q_Ru_seg (g2 := (3, [(0, .ref 64), (1, .int (a - 3840))], [.int 9, .int (a - 3840)], (q_cM (q_uA q_AM 33 f) I q_J0, 34, 31630))) 2 (fun _ _ => rfl) ?_
          refine q_Ru_rsF (g2 := (6, [(0, .ref 64), (1, .int (a - 3840))], [], (q_cM (q_uA q_AM 33 f) I q_J0, 34, 31630))) rfl rfl (q_d_neT h147) ?_
          refine q_Ru_seg (g2 := (7, [(0, .ref 64), (1, .int (a - 3840))], [.ref 64], (q_cM (q_uA q_AM 33 f) I q_J0, 34, 31630))) 1 (fun _ _ => rfl) ?_
          refine q_Ru_call (v := (some (.int 0))) (h2 := (q_cM (q_uA q_AM 33 f) I q_J0, 34, 31630)) rfl rfl ?_ ?_
          · refine q_Ca_of (Nat.le_of_ble_eq_true rfl) ?_
            refine q_Ru_seg (g2 := (4, [(0, .ref 64)], [.long 0], (q_cM (q_uA q_AM 33 f) I q_J0, 34, 31630))) 2 (fun _ _ => rfl) ?_
            refine q_Ru_seg (g2 := (13, [(0, .ref 64)], [.int 0], (q_cM (q_uA q_AM 33 f) I q_J0, 34, 31630))) 5 (fun _ _ => rfl) ?_
            exact q_Ru_ret rfl rfl
          show q_Ru _ _ _ (10, [(0, .ref 64), (1, .int (a - 3840))], [.int 0], (q_cM (q_uA q_AM 33 f) I q_J0, 34, 31630)) _
          exact q_Ru_ret rfl rfl
        show q_Ru _ _ _ (22, [(0, .ref 64), (1, .int a)], [.int 0], (q_cM (q_uA q_AM 33 f) I q_J0, 34, 31630)) _
        exact q_Ru_ret rfl rfl
      | false =>
        cases h148 : decide (a - 3840 = 10) with
        | true =>
          refine ⟨f, ?_⟩
          refine q_Ca_of (Nat.le_of_ble_eq_true rfl) ?_
          refine q_Ru_seg (g2 := (7, [(0, .ref 64), (1, .int a)], [.int 3887, .int 3840, .int a], (q_cM (q_uA q_AM 33 f) I q_J0, 34, 31630))) 3 (fun _ _ => rfl) ?_
          refine q_Ru_call (v := (some (.int 1))) (h2 := (q_cM (q_uA q_AM 33 f) I q_J0, 34, 31630)) rfl rfl ?_ ?_
          · refine q_Ca_of (Nat.le_of_ble_eq_true rfl) ?_
            refine q_Ru_seg (g2 := (2, [(0, .int a), (1, .int 3840), (2, .int 3887)], [.int 3840, .int a], (q_cM (q_uA q_AM 33 f) I q_J0, 34, 31630))) 2 (fun _ _ => rfl) ?_
            refine q_Ru_rsF (g2 := (5, [(0, .int a), (1, .int 3840), (2, .int 3887)], [], (q_cM (q_uA q_AM 33 f) I q_J0, 34, 31630))) rfl rfl h133 ?_
            refine q_Ru_seg (g2 := (7, [(0, .int a), (1, .int 3840), (2, .int 3887)], [.int 3887, .int a], (q_cM (q_uA q_AM 33 f) I q_J0, 34, 31630))) 2 (fun _ _ => rfl) ?_
            refine q_Ru_rsF (g2 := (10, [(0, .int a), (1, .int 3840), (2, .int 3887)], [], (q_cM (q_uA q_AM 33 f) I q_J0, 34, 31630))) rfl rfl h142 ?_
            refine q_Ru_seg (g2 := (15, [(0, .int a), (1, .int 3840), (2, .int 3887)], [.int 1], (q_cM (q_uA q_AM 33 f) I q_J0, 34, 31630))) 2 (fun _ _ => rfl) ?_
            exact q_Ru_ret rfl rfl
          show q_Ru _ _ _ (10, [(0, .ref 64), (1, .int a)], [.int 1], (q_cM (q_uA q_AM 33 f) I q_J0, 34, 31630)) _
          refine q_Ru_seg (g2 := (19, [(0, .ref 64), (1, .int a)], [.int (a - 3840), .ref 64], (q_cM (q_uA q_AM 33 f) I q_J0, 34, 31630))) 5 (fun _ _ => rfl) ?_
          refine q_Ru_call (v := (some (.int 0))) (h2 := (q_cM (q_uA q_AM 33 f) I q_J0, 34, 31630)) rfl rfl ?_ ?_
          · refine q_Ca_of (Nat.le_of_ble_eq_true rfl) ?_
            refine q_Ru_seg (g2 := (3, [(0, .ref 64), (1, .int (a - 3840))], [.int 9, .int (a - 3840)], (q_cM (q_uA q_AM 33 f) I q_J0, 34, 31630))) 2 (fun _ _ => rfl) ?_
            refine q_Ru_rsT (g2 := (11, [(0, .ref 64), (1, .int (a - 3840))], [], (q_cM (q_uA q_AM 33 f) I q_J0, 34, 31630))) rfl rfl (q_d_neF h147) ?_
            refine q_Ru_seg (g2 := (14, [(0, .ref 64), (1, .int (a - 3840))], [.int 10, .int (a - 3840)], (q_cM (q_uA q_AM 33 f) I q_J0, 34, 31630))) 2 (fun _ _ => rfl) ?_
            refine q_Ru_rsF (g2 := (17, [(0, .ref 64), (1, .int (a - 3840))], [], (q_cM (q_uA q_AM 33 f) I q_J0, 34, 31630))) rfl rfl (q_d_neT h148) ?_
            refine q_Ru_seg (g2 := (24, [(0, .ref 64), (1, .int (a - 3840))], [.int 0], (q_cM (q_uA q_AM 33 f) I q_J0, 34, 31630))) 4 (fun _ _ => rfl) ?_
            exact q_Ru_ret rfl rfl
          show q_Ru _ _ _ (22, [(0, .ref 64), (1, .int a)], [.int 0], (q_cM (q_uA q_AM 33 f) I q_J0, 34, 31630)) _
          exact q_Ru_ret rfl rfl
        | false =>
          cases h149 : decide (a - 3840 < 12) with
          | true =>
            cases h150 : decide (a - 3840 = 29) with
            | true =>
              refine ⟨f, ?_⟩
              refine q_Ca_of (Nat.le_of_ble_eq_true rfl) ?_
              refine q_Ru_seg (g2 := (7, [(0, .ref 64), (1, .int a)], [.int 3887, .int 3840, .int a], (q_cM (q_uA q_AM 33 f) I q_J0, 34, 31630))) 3 (fun _ _ => rfl) ?_
              refine q_Ru_call (v := (some (.int 1))) (h2 := (q_cM (q_uA q_AM 33 f) I q_J0, 34, 31630)) rfl rfl ?_ ?_
              · refine q_Ca_of (Nat.le_of_ble_eq_true rfl) ?_
                refine q_Ru_seg (g2 := (2, [(0, .int a), (1, .int 3840), (2, .int 3887)], [.int 3840, .int a], (q_cM (q_uA q_AM 33 f) I q_J0, 34, 31630))) 2 (fun _ _ => rfl) ?_
                refine q_Ru_rsF (g2 := (5, [(0, .int a), (1, .int 3840), (2, .int 3887)], [], (q_cM (q_uA q_AM 33 f) I q_J0, 34, 31630))) rfl rfl h133 ?_
                refine q_Ru_seg (g2 := (7, [(0, .int a), (1, .int 3840), (2, .int 3887)], [.int 3887, .int a], (q_cM (q_uA q_AM 33 f) I q_J0, 34, 31630))) 2 (fun _ _ => rfl) ?_
                refine q_Ru_rsF (g2 := (10, [(0, .int a), (1, .int 3840), (2, .int 3887)], [], (q_cM (q_uA q_AM 33 f) I q_J0, 34, 31630))) rfl rfl h142 ?_
                refine q_Ru_seg (g2 := (15, [(0, .int a), (1, .int 3840), (2, .int 3887)], [.int 1], (q_cM (q_uA q_AM 33 f) I q_J0, 34, 31630))) 2 (fun _ _ => rfl) ?_
                exact q_Ru_ret rfl rfl
              show q_Ru _ _ _ (10, [(0, .ref 64), (1, .int a)], [.int 1], (q_cM (q_uA q_AM 33 f) I q_J0, 34, 31630)) _
              refine q_Ru_seg (g2 := (19, [(0, .ref 64), (1, .int a)], [.int (a - 3840), .ref 64], (q_cM (q_uA q_AM 33 f) I q_J0, 34, 31630))) 5 (fun _ _ => rfl) ?_
              refine q_Ru_call (v := (some (.int 0))) (h2 := (q_cM (q_uA q_AM 33 f) I q_J0, 34, 31630)) rfl rfl ?_ ?_
              · refine q_Ca_of (Nat.le_of_ble_eq_true rfl) ?_
                refine q_Ru_seg (g2 := (3, [(0, .ref 64), (1, .int (a - 3840))], [.int 9, .int (a - 3840)], (q_cM (q_uA q_AM 33 f) I q_J0, 34, 31630))) 2 (fun _ _ => rfl) ?_
                refine q_Ru_rsT (g2 := (11, [(0, .ref 64), (1, .int (a - 3840))], [], (q_cM (q_uA q_AM 33 f) I q_J0, 34, 31630))) rfl rfl (q_d_neF h147) ?_
                refine q_Ru_seg (g2 := (14, [(0, .ref 64), (1, .int (a - 3840))], [.int 10, .int (a - 3840)], (q_cM (q_uA q_AM 33 f) I q_J0, 34, 31630))) 2 (fun _ _ => rfl) ?_
                refine q_Ru_rsT (g2 := (25, [(0, .ref 64), (1, .int (a - 3840))], [], (q_cM (q_uA q_AM 33 f) I q_J0, 34, 31630))) rfl rfl (q_d_neF h148) ?_
                refine q_Ru_seg (g2 := (30, [(0, .ref 64), (1, .int (a - 3840))], [.int 15, .int 12, .int (a - 3840)], (q_cM (q_uA q_AM 33 f) I q_J0, 34, 31630))) 3 (fun _ _ => rfl) ?_
                refine q_Ru_call (v := (some (.int 0))) (h2 := (q_cM (q_uA q_AM 33 f) I q_J0, 34, 31630)) rfl rfl ?_ ?_
                · refine q_Ca_of (Nat.le_of_ble_eq_true rfl) ?_
                  refine q_Ru_seg (g2 := (2, [(0, .int (a - 3840)), (1, .int 12), (2, .int 15)], [.int 12, .int (a - 3840)], (q_cM (q_uA q_AM 33 f) I q_J0, 34, 31630))) 2 (fun _ _ => rfl) ?_
                  refine q_Ru_rsT (g2 := (14, [(0, .int (a - 3840)), (1, .int 12), (2, .int 15)], [], (q_cM (q_uA q_AM 33 f) I q_J0, 34, 31630))) rfl rfl h149 ?_
                  refine q_Ru_seg (g2 := (15, [(0, .int (a - 3840)), (1, .int 12), (2, .int 15)], [.int 0], (q_cM (q_uA q_AM 33 f) I q_J0, 34, 31630))) 1 (fun _ _ => rfl) ?_
                  exact q_Ru_ret rfl rfl
                show q_Ru _ _ _ (33, [(0, .ref 64), (1, .int (a - 3840))], [.int 0], (q_cM (q_uA q_AM 33 f) I q_J0, 34, 31630)) _
                refine q_Ru_seg (g2 := (83, [(0, .ref 64), (1, .int (a - 3840))], [.int 29, .int (a - 3840)], (q_cM (q_uA q_AM 33 f) I q_J0, 34, 31630))) 3 (fun _ _ => rfl) ?_
                refine q_Ru_rsF (g2 := (86, [(0, .ref 64), (1, .int (a - 3840))], [], (q_cM (q_uA q_AM 33 f) I q_J0, 34, 31630))) rfl rfl (q_d_neT h150) ?_
                refine q_Ru_seg (g2 := (93, [(0, .ref 64), (1, .int (a - 3840))], [.int 0], (q_cM (q_uA q_AM 33 f) I q_J0, 34, 31630))) 4 (fun _ _ => rfl) ?_
                exact q_Ru_ret rfl rfl
              show q_Ru _ _ _ (22, [(0, .ref 64), (1, .int a)], [.int 0], (q_cM (q_uA q_AM 33 f) I q_J0, 34, 31630)) _
              exact q_Ru_ret rfl rfl
            | false =>
              cases h151 : decide (a - 3840 = 30) with
              | true =>
                refine ⟨f, ?_⟩
                refine q_Ca_of (Nat.le_of_ble_eq_true rfl) ?_
                refine q_Ru_seg (g2 := (7, [(0, .ref 64), (1, .int a)], [.int 3887, .int 3840, .int a], (q_cM (q_uA q_AM 33 f) I q_J0, 34, 31630))) 3 (fun _ _ => rfl) ?_
                refine q_Ru_call (v := (some (.int 1))) (h2 := (q_cM (q_uA q_AM 33 f) I q_J0, 34, 31630)) rfl rfl ?_ ?_
                · refine q_Ca_of (Nat.le_of_ble_eq_true rfl) ?_
                  refine q_Ru_seg (g2 := (2, [(0, .int a), (1, .int 3840), (2, .int 3887)], [.int 3840, .int a], (q_cM (q_uA q_AM 33 f) I q_J0, 34, 31630))) 2 (fun _ _ => rfl) ?_
                  refine q_Ru_rsF (g2 := (5, [(0, .int a), (1, .int 3840), (2, .int 3887)], [], (q_cM (q_uA q_AM 33 f) I q_J0, 34, 31630))) rfl rfl h133 ?_
                  refine q_Ru_seg (g2 := (7, [(0, .int a), (1, .int 3840), (2, .int 3887)], [.int 3887, .int a], (q_cM (q_uA q_AM 33 f) I q_J0, 34, 31630))) 2 (fun _ _ => rfl) ?_
                  refine q_Ru_rsF (g2 := (10, [(0, .int a), (1, .int 3840), (2, .int 3887)], [], (q_cM (q_uA q_AM 33 f) I q_J0, 34, 31630))) rfl rfl h142 ?_
                  refine q_Ru_seg (g2 := (15, [(0, .int a), (1, .int 3840), (2, .int 3887)], [.int 1], (q_cM (q_uA q_AM 33 f) I q_J0, 34, 31630))) 2 (fun _ _ => rfl) ?_
                  exact q_Ru_ret rfl rfl
                show q_Ru _ _ _ (10, [(0, .ref 64), (1, .int a)], [.int 1], (q_cM (q_uA q_AM 33 f) I q_J0, 34, 31630)) _
                refine q_Ru_seg (g2 := (19, [(0, .ref 64), (1, .int a)], [.int (a - 3840), .ref 64], (q_cM (q_uA q_AM 33 f) I q_J0, 34, 31630))) 5 (fun _ _ => rfl) ?_
                refine q_Ru_call (v := (some (.int 0))) (h2 := (q_cM (q_uA q_AM 33 f) I q_J0, 34, 31630)) rfl rfl ?_ ?_
                · refine q_Ca_of (Nat.le_of_ble_eq_true rfl) ?_
                  refine q_Ru_seg (g2 := (3, [(0, .ref 64), (1, .int (a - 3840))], [.int 9, .int (a - 3840)], (q_cM (q_uA q_AM 33 f) I q_J0, 34, 31630))) 2 (fun _ _ => rfl) ?_
                  refine q_Ru_rsT (g2 := (11, [(0, .ref 64), (1, .int (a - 3840))], [], (q_cM (q_uA q_AM 33 f) I q_J0, 34, 31630))) rfl rfl (q_d_neF h147) ?_
                  refine q_Ru_seg (g2 := (14, [(0, .ref 64), (1, .int (a - 3840))], [.int 10, .int (a - 3840)], (q_cM (q_uA q_AM 33 f) I q_J0, 34, 31630))) 2 (fun _ _ => rfl) ?_
                  refine q_Ru_rsT (g2 := (25, [(0, .ref 64), (1, .int (a - 3840))], [], (q_cM (q_uA q_AM 33 f) I q_J0, 34, 31630))) rfl rfl (q_d_neF h148) ?_
                  refine q_Ru_seg (g2 := (30, [(0, .ref 64), (1, .int (a - 3840))], [.int 15, .int 12, .int (a - 3840)], (q_cM (q_uA q_AM 33 f) I q_J0, 34, 31630))) 3 (fun _ _ => rfl) ?_
                  refine q_Ru_call (v := (some (.int 0))) (h2 := (q_cM (q_uA q_AM 33 f) I q_J0, 34, 31630)) rfl rfl ?_ ?_
                  · refine q_Ca_of (Nat.le_of_ble_eq_true rfl) ?_
                    refine q_Ru_seg (g2 := (2, [(0, .int (a - 3840)), (1, .int 12), (2, .int 15)], [.int 12, .int (a - 3840)], (q_cM (q_uA q_AM 33 f) I q_J0, 34, 31630))) 2 (fun _ _ => rfl) ?_
                    refine q_Ru_rsT (g2 := (14, [(0, .int (a - 3840)), (1, .int 12), (2, .int 15)], [], (q_cM (q_uA q_AM 33 f) I q_J0, 34, 31630))) rfl rfl h149 ?_
                    refine q_Ru_seg (g2 := (15, [(0, .int (a - 3840)), (1, .int 12), (2, .int 15)], [.int 0], (q_cM (q_uA q_AM 33 f) I q_J0, 34, 31630))) 1 (fun _ _ => rfl) ?_
                    exact q_Ru_ret rfl rfl
                  show q_Ru _ _ _ (33, [(0, .ref 64), (1, .int (a - 3840))], [.int 0], (q_cM (q_uA q_AM 33 f) I q_J0, 34, 31630)) _
                  refine q_Ru_seg (g2 := (83, [(0, .ref 64), (1, .int (a - 3840))], [.int 29, .int (a - 3840)], (q_cM (q_uA q_AM 33 f) I q_J0, 34, 31630))) 3 (fun _ _ => rfl) ?_
                  refine q_Ru_rsT (g2 := (94, [(0, .ref 64), (1, .int (a - 3840))], [], (q_cM (q_uA q_AM 33 f) I q_J0, 34, 31630))) rfl rfl (q_d_neF h150) ?_
                  refine q_Ru_seg (g2 := (97, [(0, .ref 64), (1, .int (a - 3840))], [.int 30, .int (a - 3840)], (q_cM (q_uA q_AM 33 f) I q_J0, 34, 31630))) 2 (fun _ _ => rfl) ?_
                  refine q_Ru_rsF (g2 := (100, [(0, .ref 64), (1, .int (a - 3840))], [], (q_cM (q_uA q_AM 33 f) I q_J0, 34, 31630))) rfl rfl (q_d_neT h151) ?_
                  refine q_Ru_seg (g2 := (107, [(0, .ref 64), (1, .int (a - 3840))], [.int 0], (q_cM (q_uA q_AM 33 f) I q_J0, 34, 31630))) 4 (fun _ _ => rfl) ?_
                  exact q_Ru_ret rfl rfl
                show q_Ru _ _ _ (22, [(0, .ref 64), (1, .int a)], [.int 0], (q_cM (q_uA q_AM 33 f) I q_J0, 34, 31630)) _
                exact q_Ru_ret rfl rfl
              | false =>
                cases h152 : decide (a - 3840 = 31) with
                | true =>
                  refine ⟨(upd (upd (upd (upd (upd (upd (upd (upd f 0 0) 4 0) 1 0) 5 0) 2 0) 6 0) 3 0) 7 0), ?_⟩
                  refine q_Ca_of (Nat.le_of_ble_eq_true rfl) ?_
                  refine q_Ru_seg (g2 := (7, [(0, .ref 64), (1, .int a)], [.int 3887, .int 3840, .int a], (q_cM (q_uA q_AM 33 f) I q_J0, 34, 31630))) 3 (fun _ _ => rfl) ?_
                  refine q_Ru_call (v := (some (.int 1))) (h2 := (q_cM (q_uA q_AM 33 f) I q_J0, 34, 31630)) rfl rfl ?_ ?_
                  · refine q_Ca_of (Nat.le_of_ble_eq_true rfl) ?_
                    refine q_Ru_seg (g2 := (2, [(0, .int a), (1, .int 3840), (2, .int 3887)], [.int 3840, .int a], (q_cM (q_uA q_AM 33 f) I q_J0, 34, 31630))) 2 (fun _ _ => rfl) ?_
                    refine q_Ru_rsF (g2 := (5, [(0, .int a), (1, .int 3840), (2, .int 3887)], [], (q_cM (q_uA q_AM 33 f) I q_J0, 34, 31630))) rfl rfl h133 ?_
                    refine q_Ru_seg (g2 := (7, [(0, .int a), (1, .int 3840), (2, .int 3887)], [.int 3887, .int a], (q_cM (q_uA q_AM 33 f) I q_J0, 34, 31630))) 2 (fun _ _ => rfl) ?_
                    refine q_Ru_rsF (g2 := (10, [(0, .int a), (1, .int 3840), (2, .int 3887)], [], (q_cM (q_uA q_AM 33 f) I q_J0, 34, 31630))) rfl rfl h142 ?_
                    refine q_Ru_seg (g2 := (15, [(0, .int a), (1, .int 3840), (2, .int 3887)], [.int 1], (q_cM (q_uA q_AM 33 f) I q_J0, 34, 31630))) 2 (fun _ _ => rfl) ?_
                    exact q_Ru_ret rfl rfl
                  show q_Ru _ _ _ (10, [(0, .ref 64), (1, .int a)], [.int 1], (q_cM (q_uA q_AM 33 f) I q_J0, 34, 31630)) _
                  refine q_Ru_seg (g2 := (19, [(0, .ref 64), (1, .int a)], [.int (a - 3840), .ref 64], (q_cM (q_uA q_AM 33 f) I q_J0, 34, 31630))) 5 (fun _ _ => rfl) ?_
                  refine q_Ru_call (v := (some (.int 0))) (h2 := (q_cM (q_uA (q_uA (q_uA (q_uA (q_uA (q_uA (q_uA (q_uA (q_uA q_AM 33 f) 33 (upd f 0 0)) 33 (upd (upd f 0 0) 4 0)) 33 (upd (upd (upd f 0 0) 4 0) 1 0)) 33 (upd (upd (upd (upd f 0 0) 4 0) 1 0) 5 0)) 33 (upd (upd (upd (upd (upd f 0 0) 4 0) 1 0) 5 0) 2 0)) 33 (upd (upd (upd (upd (upd (upd f 0 0) 4 0) 1 0) 5 0) 2 0) 6 0)) 33 (upd (upd (upd (upd (upd (upd (upd f 0 0) 4 0) 1 0) 5 0) 2 0) 6 0) 3 0)) 33 (upd (upd (upd (upd (upd (upd (upd (upd f 0 0) 4 0) 1 0) 5 0) 2 0) 6 0) 3 0) 7 0)) I q_J0, 34, 31630)) rfl rfl ?_ ?_
                  · refine q_Ca_of (Nat.le_of_ble_eq_true rfl) ?_
                    refine q_Ru_seg (g2 := (3, [(0, .ref 64), (1, .int (a - 3840))], [.int 9, .int (a - 3840)], (q_cM (q_uA q_AM 33 f) I q_J0, 34, 31630))) 2 (fun _ _ => rfl) ?_
                    refine q_Ru_rsT (g2 := (11, [(0, .ref 64), (1, .int (a - 3840))], [], (q_cM (q_uA q_AM 33 f) I q_J0, 34, 31630))) rfl rfl (q_d_neF h147) ?_
                    refine q_Ru_seg (g2 := (14, [(0, .ref 64), (1, .int (a - 3840))], [.int 10, .int (a - 3840)], (q_cM (q_uA q_AM 33 f) I q_J0, 34, 31630))) 2 (fun _ _ => rfl) ?_
                    refine q_Ru_rsT (g2 := (25, [(0, .ref 64), (1, .int (a - 3840))], [], (q_cM (q_uA q_AM 33 f) I q_J0, 34, 31630))) rfl rfl (q_d_neF h148) ?_
                    refine q_Ru_seg (g2 := (30, [(0, .ref 64), (1, .int (a - 3840))], [.int 15, .int 12, .int (a - 3840)], (q_cM (q_uA q_AM 33 f) I q_J0, 34, 31630))) 3 (fun _ _ => rfl) ?_
                    refine q_Ru_call (v := (some (.int 0))) (h2 := (q_cM (q_uA q_AM 33 f) I q_J0, 34, 31630)) rfl rfl ?_ ?_
                    · refine q_Ca_of (Nat.le_of_ble_eq_true rfl) ?_
                      refine q_Ru_seg (g2 := (2, [(0, .int (a - 3840)), (1, .int 12), (2, .int 15)], [.int 12, .int (a - 3840)], (q_cM (q_uA q_AM 33 f) I q_J0, 34, 31630))) 2 (fun _ _ => rfl) ?_
                      refine q_Ru_rsT (g2 := (14, [(0, .int (a - 3840)), (1, .int 12), (2, .int 15)], [], (q_cM (q_uA q_AM 33 f) I q_J0, 34, 31630))) rfl rfl h149 ?_
                      refine q_Ru_seg (g2 := (15, [(0, .int (a - 3840)), (1, .int 12), (2, .int 15)], [.int 0], (q_cM (q_uA q_AM 33 f) I q_J0, 34, 31630))) 1 (fun _ _ => rfl) ?_
                      exact q_Ru_ret rfl rfl
                    show q_Ru _ _ _ (33, [(0, .ref 64), (1, .int (a - 3840))], [.int 0], (q_cM (q_uA q_AM 33 f) I q_J0, 34, 31630)) _
                    refine q_Ru_seg (g2 := (83, [(0, .ref 64), (1, .int (a - 3840))], [.int 29, .int (a - 3840)], (q_cM (q_uA q_AM 33 f) I q_J0, 34, 31630))) 3 (fun _ _ => rfl) ?_
                    refine q_Ru_rsT (g2 := (94, [(0, .ref 64), (1, .int (a - 3840))], [], (q_cM (q_uA q_AM 33 f) I q_J0, 34, 31630))) rfl rfl (q_d_neF h150) ?_
                    refine q_Ru_seg (g2 := (97, [(0, .ref 64), (1, .int (a - 3840))], [.int 30, .int (a - 3840)], (q_cM (q_uA q_AM 33 f) I q_J0, 34, 31630))) 2 (fun _ _ => rfl) ?_
                    refine q_Ru_rsT (g2 := (108, [(0, .ref 64), (1, .int (a - 3840))], [], (q_cM (q_uA q_AM 33 f) I q_J0, 34, 31630))) rfl rfl (q_d_neF h151) ?_
                    refine q_Ru_seg (g2 := (111, [(0, .ref 64), (1, .int (a - 3840))], [.int 31, .int (a - 3840)], (q_cM (q_uA q_AM 33 f) I q_J0, 34, 31630))) 2 (fun _ _ => rfl) ?_
                    refine q_Ru_rsF (g2 := (114, [(0, .ref 64), (1, .int (a - 3840))], [], (q_cM (q_uA q_AM 33 f) I q_J0, 34, 31630))) rfl rfl (q_d_neT h152) ?_
                    refine q_Ru_seg (g2 := (122, [(0, .ref 64), (1, .int (a - 3840))], [.int 0, .ref 64], (q_cM (q_uA q_AM 33 f) I q_J0, 34, 31630))) 5 (fun _ _ => rfl) ?_
                    refine q_Ru_call (v := (some (.int 0))) (h2 := (q_cM (q_uA (q_uA (q_uA (q_uA (q_uA (q_uA (q_uA (q_uA (q_uA q_AM 33 f) 33 (upd f 0 0)) 33 (upd (upd f 0 0) 4 0)) 33 (upd (upd (upd f 0 0) 4 0) 1 0)) 33 (upd (upd (upd (upd f 0 0) 4 0) 1 0) 5 0)) 33 (upd (upd (upd (upd (upd f 0 0) 4 0) 1 0) 5 0) 2 0)) 33 (upd (upd (upd (upd (upd (upd f 0 0) 4 0) 1 0) 5 0) 2 0) 6 0)) 33 (upd (upd (upd (upd (upd (upd (upd f 0 0) 4 0) 1 0) 5 0) 2 0) 6 0) 3 0)) 33 (upd (upd (upd (upd (upd (upd (upd (upd f 0 0) 4 0) 1 0) 5 0) 2 0) 6 0) 3 0) 7 0)) I q_J0, 34, 31630)) rfl rfl ?_ ?_
                    · refine q_Ca_of (Nat.le_of_ble_eq_true rfl) ?_
                      refine q_Ru_seg (g2 := (14, [(2, .int 0), (0, .ref 64), (1, .int 0)], [.int 0, .int 0, .int 0, .ref 97], (q_cM (q_uA q_AM 33 f) I q_J0, 34, 31630))) 10 (fun _ _ => rfl) ?_
                      refine q_Ru_call (v := (some (.int 0))) (h2 := (q_cM (q_uA q_AM 33 f) I q_J0, 34, 31630)) rfl rfl ?_ ?_
                      · refine q_Ca_of (Nat.le_of_ble_eq_true rfl) ?_
                        refine q_Ru_seg (g2 := (14, [(0, .int 0), (1, .int 0)], [.int 0], (q_cM (q_uA q_AM 33 f) I q_J0, 34, 31630))) 8 (fun _ _ => rfl) ?_
                        exact q_Ru_ret rfl rfl
                      show q_Ru _ _ _ (17, [(2, .int 0), (0, .ref 64), (1, .int 0)], [.int 0, .int 0, .ref 97], (q_cM (q_uA q_AM 33 f) I q_J0, 34, 31630)) _
                      refine q_Ru_seg (g2 := (14, [(2, .int 1), (0, .ref 64), (1, .int 0)], [.int 1, .int 0, .int 1, .ref 97], (q_cM (q_uA (q_uA (q_uA q_AM 33 f) 33 (upd f 0 0)) 33 (upd (upd f 0 0) 4 0)) I q_J0, 34, 31630))) 18 (fun _ _ => rfl) ?_
                      refine q_Ru_call (v := (some (.int 0))) (h2 := (q_cM (q_uA (q_uA (q_uA q_AM 33 f) 33 (upd f 0 0)) 33 (upd (upd f 0 0) 4 0)) I q_J0, 34, 31630)) rfl rfl ?_ ?_
                      · refine q_Ca_of (Nat.le_of_ble_eq_true rfl) ?_
                        refine q_Ru_seg (g2 := (14, [(0, .int 0), (1, .int 1)], [.int 0], (q_cM (q_uA (q_uA (q_uA q_AM 33 f) 33 (upd f 0 0)) 33 (upd (upd f 0 0) 4 0)) I q_J0, 34, 31630))) 8 (fun _ _ => rfl) ?_
                        exact q_Ru_ret rfl rfl
                      show q_Ru _ _ _ (17, [(2, .int 1), (0, .ref 64), (1, .int 0)], [.int 0, .int 1, .ref 97], (q_cM (q_uA (q_uA (q_uA q_AM 33 f) 33 (upd f 0 0)) 33 (upd (upd f 0 0) 4 0)) I q_J0, 34, 31630)) _
                      refine q_Ru_seg (g2 := (14, [(2, .int 2), (0, .ref 64), (1, .int 0)], [.int 2, .int 0, .int 2, .ref 97], (q_cM (q_uA (q_uA (q_uA (q_uA (q_uA q_AM 33 f) 33 (upd f 0 0)) 33 (upd (upd f 0 0) 4 0)) 33 (upd (upd (upd f 0 0) 4 0) 1 0)) 33 (upd (upd (upd (upd f 0 0) 4 0) 1 0) 5 0)) I q_J0, 34, 31630))) 18 (fun _ _ => rfl) ?_
                      refine q_Ru_call (v := (some (.int 0))) (h2 := (q_cM (q_uA (q_uA (q_uA (q_uA (q_uA q_AM 33 f) 33 (upd f 0 0)) 33 (upd (upd f 0 0) 4 0)) 33 (upd (upd (upd f 0 0) 4 0) 1 0)) 33 (upd (upd (upd (upd f 0 0) 4 0) 1 0) 5 0)) I q_J0, 34, 31630)) rfl rfl ?_ ?_
                      · refine q_Ca_of (Nat.le_of_ble_eq_true rfl) ?_
                        refine q_Ru_seg (g2 := (14, [(0, .int 0), (1, .int 2)], [.int 0], (q_cM (q_uA (q_uA (q_uA (q_uA (q_uA q_AM 33 f) 33 (upd f 0 0)) 33 (upd (upd f 0 0) 4 0)) 33 (upd (upd (upd f 0 0) 4 0) 1 0)) 33 (upd (upd (upd (upd f 0 0) 4 0) 1 0) 5 0)) I q_J0, 34, 31630))) 8 (fun _ _ => rfl) ?_
                        exact q_Ru_ret rfl rfl
                      show q_Ru _ _ _ (17, [(2, .int 2), (0, .ref 64), (1, .int 0)], [.int 0, .int 2, .ref 97], (q_cM (q_uA (q_uA (q_uA (q_uA (q_uA q_AM 33 f) 33 (upd f 0 0)) 33 (upd (upd f 0 0) 4 0)) 33 (upd (upd (upd f 0 0) 4 0) 1 0)) 33 (upd (upd (upd (upd f 0 0) 4 0) 1 0) 5 0)) I q_J0, 34, 31630)) _
                      refine q_Ru_seg (g2 := (14, [(2, .int 3), (0, .ref 64), (1, .int 0)], [.int 3, .int 0, .int 3, .ref 97], (q_cM (q_uA (q_uA (q_uA (q_uA (q_uA (q_uA (q_uA q_AM 33 f) 33 (upd f 0 0)) 33 (upd (upd f 0 0) 4 0)) 33 (upd (upd (upd f 0 0) 4 0) 1 0)) 33 (upd (upd (upd (upd f 0 0) 4 0) 1 0) 5 0)) 33 (upd (upd (upd (upd (upd f 0 0) 4 0) 1 0) 5 0) 2 0)) 33 (upd (upd (upd (upd (upd (upd f 0 0) 4 0) 1 0) 5 0) 2 0) 6 0)) I q_J0, 34, 31630))) 18 (fun _ _ => rfl) ?_
                      refine q_Ru_call (v := (some (.int 0))) (h2 := (q_cM (q_uA (q_uA (q_uA (q_uA (q_uA (q_uA (q_uA q_AM 33 f) 33 (upd f 0 0)) 33 (upd (upd f 0 0) 4 0)) 33 (upd (upd (upd f 0 0) 4 0) 1 0)) 33 (upd (upd (upd (upd f 0 0) 4 0) 1 0) 5 0)) 33 (upd (upd (upd (upd (upd f 0 0) 4 0) 1 0) 5 0) 2 0)) 33 (upd (upd (upd (upd (upd (upd f 0 0) 4 0) 1 0) 5 0) 2 0) 6 0)) I q_J0, 34, 31630)) rfl rfl ?_ ?_
                      · refine q_Ca_of (Nat.le_of_ble_eq_true rfl) ?_
                        refine q_Ru_seg (g2 := (14, [(0, .int 0), (1, .int 3)], [.int 0], (q_cM (q_uA (q_uA (q_uA (q_uA (q_uA (q_uA (q_uA q_AM 33 f) 33 (upd f 0 0)) 33 (upd (upd f 0 0) 4 0)) 33 (upd (upd (upd f 0 0) 4 0) 1 0)) 33 (upd (upd (upd (upd f 0 0) 4 0) 1 0) 5 0)) 33 (upd (upd (upd (upd (upd f 0 0) 4 0) 1 0) 5 0) 2 0)) 33 (upd (upd (upd (upd (upd (upd f 0 0) 4 0) 1 0) 5 0) 2 0) 6 0)) I q_J0, 34, 31630))) 8 (fun _ _ => rfl) ?_
                        exact q_Ru_ret rfl rfl
                      show q_Ru _ _ _ (17, [(2, .int 3), (0, .ref 64), (1, .int 0)], [.int 0, .int 3, .ref 97], (q_cM (q_uA (q_uA (q_uA (q_uA (q_uA (q_uA (q_uA q_AM 33 f) 33 (upd f 0 0)) 33 (upd (upd f 0 0) 4 0)) 33 (upd (upd (upd f 0 0) 4 0) 1 0)) 33 (upd (upd (upd (upd f 0 0) 4 0) 1 0) 5 0)) 33 (upd (upd (upd (upd (upd f 0 0) 4 0) 1 0) 5 0) 2 0)) 33 (upd (upd (upd (upd (upd (upd f 0 0) 4 0) 1 0) 5 0) 2 0) 6 0)) I q_J0, 34, 31630)) _
                      refine q_Ru_seg (g2 := (55, [(3, .int 0), (2, .int 0), (0, .ref 64), (1, .int 0)], [.int 0], (q_cM (q_uA (q_uA (q_uA (q_uA (q_uA (q_uA (q_uA (q_uA (q_uA q_AM 33 f) 33 (upd f 0 0)) 33 (upd (upd f 0 0) 4 0)) 33 (upd (upd (upd f 0 0) 4 0) 1 0)) 33 (upd (upd (upd (upd f 0 0) 4 0) 1 0) 5 0)) 33 (upd (upd (upd (upd (upd f 0 0) 4 0) 1 0) 5 0) 2 0)) 33 (upd (upd (upd (upd (upd (upd f 0 0) 4 0) 1 0) 5 0) 2 0) 6 0)) 33 (upd (upd (upd (upd (upd (upd (upd f 0 0) 4 0) 1 0) 5 0) 2 0) 6 0) 3 0)) 33 (upd (upd (upd (upd (upd (upd (upd (upd f 0 0) 4 0) 1 0) 5 0) 2 0) 6 0) 3 0) 7 0)) I q_J0, 34, 31630))) 27 (fun _ _ => rfl) ?_
                      refine q_Ru_seg (g2 := (55, [(3, .int 1), (2, .int 0), (0, .ref 64), (1, .int 0)], [.int 0], (q_cM (q_uA (q_uA (q_uA (q_uA (q_uA (q_uA (q_uA (q_uA (q_uA q_AM 33 f) 33 (upd f 0 0)) 33 (upd (upd f 0 0) 4 0)) 33 (upd (upd (upd f 0 0) 4 0) 1 0)) 33 (upd (upd (upd (upd f 0 0) 4 0) 1 0) 5 0)) 33 (upd (upd (upd (upd (upd f 0 0) 4 0) 1 0) 5 0) 2 0)) 33 (upd (upd (upd (upd (upd (upd f 0 0) 4 0) 1 0) 5 0) 2 0) 6 0)) 33 (upd (upd (upd (upd (upd (upd (upd f 0 0) 4 0) 1 0) 5 0) 2 0) 6 0) 3 0)) 33 (upd (upd (upd (upd (upd (upd (upd (upd f 0 0) 4 0) 1 0) 5 0) 2 0) 6 0) 3 0) 7 0)) I q_J0, 34, 31630))) 11 (fun _ _ => rfl) ?_
                      refine q_Ru_seg (g2 := (55, [(3, .int 2), (2, .int 0), (0, .ref 64), (1, .int 0)], [.int 0], (q_cM (q_uA (q_uA (q_uA (q_uA (q_uA (q_uA (q_uA (q_uA (q_uA q_AM 33 f) 33 (upd f 0 0)) 33 (upd (upd f 0 0) 4 0)) 33 (upd (upd (upd f 0 0) 4 0) 1 0)) 33 (upd (upd (upd (upd f 0 0) 4 0) 1 0) 5 0)) 33 (upd (upd (upd (upd (upd f 0 0) 4 0) 1 0) 5 0) 2 0)) 33 (upd (upd (upd (upd (upd (upd f 0 0) 4 0) 1 0) 5 0) 2 0) 6 0)) 33 (upd (upd (upd (upd (upd (upd (upd f 0 0) 4 0) 1 0) 5 0) 2 0) 6 0) 3 0)) 33 (upd (upd (upd (upd (upd (upd (upd (upd f 0 0) 4 0) 1 0) 5 0) 2 0) 6 0) 3 0) 7 0)) I q_J0, 34, 31630))) 11 (fun _ _ => rfl) ?_
                      refine q_Ru_seg (g2 := (55, [(3, .int 3), (2, .int 0), (0, .ref 64), (1, .int 0)], [.int 0], (q_cM (q_uA (q_uA (q_uA (q_uA (q_uA (q_uA (q_uA (q_uA (q_uA q_AM 33 f) 33 (upd f 0 0)) 33 (upd (upd f 0 0) 4 0)) 33 (upd (upd (upd f 0 0) 4 0) 1 0)) 33 (upd (upd (upd (upd f 0 0) 4 0) 1 0) 5 0)) 33 (upd (upd (upd (upd (upd f 0 0) 4 0) 1 0) 5 0) 2 0)) 33 (upd (upd (upd (upd (upd (upd f 0 0) 4 0) 1 0) 5 0) 2 0) 6 0)) 33 (upd (upd (upd (upd (upd (upd (upd f 0 0) 4 0) 1 0) 5 0) 2 0) 6 0) 3 0)) 33 (upd (upd (upd (upd (upd (upd (upd (upd f 0 0) 4 0) 1 0) 5 0) 2 0) 6 0) 3 0) 7 0)) I q_J0, 34, 31630))) 11 (fun _ _ => rfl) ?_
                      refine q_Ru_seg (g2 := (55, [(3, .int 4), (2, .int 0), (0, .ref 64), (1, .int 0)], [.int 0], (q_cM (q_uA (q_uA (q_uA (q_uA (q_uA (q_uA (q_uA (q_uA (q_uA q_AM 33 f) 33 (upd f 0 0)) 33 (upd (upd f 0 0) 4 0)) 33 (upd (upd (upd f 0 0) 4 0) 1 0)) 33 (upd (upd (upd (upd f 0 0) 4 0) 1 0) 5 0)) 33 (upd (upd (upd (upd (upd f 0 0) 4 0) 1 0) 5 0) 2 0)) 33 (upd (upd (upd (upd (upd (upd f 0 0) 4 0) 1 0) 5 0) 2 0) 6 0)) 33 (upd (upd (upd (upd (upd (upd (upd f 0 0) 4 0) 1 0) 5 0) 2 0) 6 0) 3 0)) 33 (upd (upd (upd (upd (upd (upd (upd (upd f 0 0) 4 0) 1 0) 5 0) 2 0) 6 0) 3 0) 7 0)) I q_J0, 34, 31630))) 11 (fun _ _ => rfl) ?_
                      refine q_Ru_seg (g2 := (55, [(3, .int 5), (2, .int 0), (0, .ref 64), (1, .int 0)], [.int 0], (q_cM (q_uA (q_uA (q_uA (q_uA (q_uA (q_uA (q_uA (q_uA (q_uA q_AM 33 f) 33 (upd f 0 0)) 33 (upd (upd f 0 0) 4 0)) 33 (upd (upd (upd f 0 0) 4 0) 1 0)) 33 (upd (upd (upd (upd f 0 0) 4 0) 1 0) 5 0)) 33 (upd (upd (upd (upd (upd f 0 0) 4 0) 1 0) 5 0) 2 0)) 33 (upd (upd (upd (upd (upd (upd f 0 0) 4 0) 1 0) 5 0) 2 0) 6 0)) 33 (upd (upd (upd (upd (upd (upd (upd f 0 0) 4 0) 1 0) 5 0) 2 0) 6 0) 3 0)) 33 (upd (upd (upd (upd (upd (upd (upd (upd f 0 0) 4 0) 1 0) 5 0) 2 0) 6 0) 3 0) 7 0)) I q_J0, 34, 31630))) 11 (fun _ _ => rfl) ?_
                      refine q_Ru_seg (g2 := (55, [(3, .int 6), (2, .int 0), (0, .ref 64), (1, .int 0)], [.int 0], (q_cM (q_uA (q_uA (q_uA (q_uA (q_uA (q_uA (q_uA (q_uA (q_uA q_AM 33 f) 33 (upd f 0 0)) 33 (upd (upd f 0 0) 4 0)) 33 (upd (upd (upd f 0 0) 4 0) 1 0)) 33 (upd (upd (upd (upd f 0 0) 4 0) 1 0) 5 0)) 33 (upd (upd (upd (upd (upd f 0 0) 4 0) 1 0) 5 0) 2 0)) 33 (upd (upd (upd (upd (upd (upd f 0 0) 4 0) 1 0) 5 0) 2 0) 6 0)) 33 (upd (upd (upd (upd (upd (upd (upd f 0 0) 4 0) 1 0) 5 0) 2 0) 6 0) 3 0)) 33 (upd (upd (upd (upd (upd (upd (upd (upd f 0 0) 4 0) 1 0) 5 0) 2 0) 6 0) 3 0) 7 0)) I q_J0, 34, 31630))) 11 (fun _ _ => rfl) ?_
                      refine q_Ru_seg (g2 := (55, [(3, .int 7), (2, .int 0), (0, .ref 64), (1, .int 0)], [.int 0], (q_cM (q_uA (q_uA (q_uA (q_uA (q_uA (q_uA (q_uA (q_uA (q_uA q_AM 33 f) 33 (upd f 0 0)) 33 (upd (upd f 0 0) 4 0)) 33 (upd (upd (upd f 0 0) 4 0) 1 0)) 33 (upd (upd (upd (upd f 0 0) 4 0) 1 0) 5 0)) 33 (upd (upd (upd (upd (upd f 0 0) 4 0) 1 0) 5 0) 2 0)) 33 (upd (upd (upd (upd (upd (upd f 0 0) 4 0) 1 0) 5 0) 2 0) 6 0)) 33 (upd (upd (upd (upd (upd (upd (upd f 0 0) 4 0) 1 0) 5 0) 2 0) 6 0) 3 0)) 33 (upd (upd (upd (upd (upd (upd (upd (upd f 0 0) 4 0) 1 0) 5 0) 2 0) 6 0) 3 0) 7 0)) I q_J0, 34, 31630))) 11 (fun _ _ => rfl) ?_
                      refine q_Ru_seg (g2 := (55, [(3, .int 8), (2, .int 0), (0, .ref 64), (1, .int 0)], [.int 0], (q_cM (q_uA (q_uA (q_uA (q_uA (q_uA (q_uA (q_uA (q_uA (q_uA q_AM 33 f) 33 (upd f 0 0)) 33 (upd (upd f 0 0) 4 0)) 33 (upd (upd (upd f 0 0) 4 0) 1 0)) 33 (upd (upd (upd (upd f 0 0) 4 0) 1 0) 5 0)) 33 (upd (upd (upd (upd (upd f 0 0) 4 0) 1 0) 5 0) 2 0)) 33 (upd (upd (upd (upd (upd (upd f 0 0) 4 0) 1 0) 5 0) 2 0) 6 0)) 33 (upd (upd (upd (upd (upd (upd (upd f 0 0) 4 0) 1 0) 5 0) 2 0) 6 0) 3 0)) 33 (upd (upd (upd (upd (upd (upd (upd (upd f 0 0) 4 0) 1 0) 5 0) 2 0) 6 0) 3 0) 7 0)) I q_J0, 34, 31630))) 11 (fun _ _ => rfl) ?_
                      refine q_Ru_seg (g2 := (55, [(3, .int 9), (2, .int 0), (0, .ref 64), (1, .int 0)], [.int 0], (q_cM (q_uA (q_uA (q_uA (q_uA (q_uA (q_uA (q_uA (q_uA (q_uA q_AM 33 f) 33 (upd f 0 0)) 33 (upd (upd f 0 0) 4 0)) 33 (upd (upd (upd f 0 0) 4 0) 1 0)) 33 (upd (upd (upd (upd f 0 0) 4 0) 1 0) 5 0)) 33 (upd (upd (upd (upd (upd f 0 0) 4 0) 1 0) 5 0) 2 0)) 33 (upd (upd (upd (upd (upd (upd f 0 0) 4 0) 1 0) 5 0) 2 0) 6 0)) 33 (upd (upd (upd (upd (upd (upd (upd f 0 0) 4 0) 1 0) 5 0) 2 0) 6 0) 3 0)) 33 (upd (upd (upd (upd (upd (upd (upd (upd f 0 0) 4 0) 1 0) 5 0) 2 0) 6 0) 3 0) 7 0)) I q_J0, 34, 31630))) 11 (fun _ _ => rfl) ?_
                      refine q_Ru_seg (g2 := (55, [(3, .int 10), (2, .int 0), (0, .ref 64), (1, .int 0)], [.int 0], (q_cM (q_uA (q_uA (q_uA (q_uA (q_uA (q_uA (q_uA (q_uA (q_uA q_AM 33 f) 33 (upd f 0 0)) 33 (upd (upd f 0 0) 4 0)) 33 (upd (upd (upd f 0 0) 4 0) 1 0)) 33 (upd (upd (upd (upd f 0 0) 4 0) 1 0) 5 0)) 33 (upd (upd (upd (upd (upd f 0 0) 4 0) 1 0) 5 0) 2 0)) 33 (upd (upd (upd (upd (upd (upd f 0 0) 4 0) 1 0) 5 0) 2 0) 6 0)) 33 (upd (upd (upd (upd (upd (upd (upd f 0 0) 4 0) 1 0) 5 0) 2 0) 6 0) 3 0)) 33 (upd (upd (upd (upd (upd (upd (upd (upd f 0 0) 4 0) 1 0) 5 0) 2 0) 6 0) 3 0) 7 0)) I q_J0, 34, 31630))) 11 (fun _ _ => rfl) ?_
                      refine q_Ru_seg (g2 := (55, [(3, .int 11), (2, .int 0), (0, .ref 64), (1, .int 0)], [.int 0], (q_cM (q_uA (q_uA (q_uA (q_uA (q_uA (q_uA (q_uA (q_uA (q_uA q_AM 33 f) 33 (upd f 0 0)) 33 (upd (upd f 0 0) 4 0)) 33 (upd (upd (upd f 0 0) 4 0) 1 0)) 33 (upd (upd (upd (upd f 0 0) 4 0) 1 0) 5 0)) 33 (upd (upd (upd (upd (upd f 0 0) 4 0) 1 0) 5 0) 2 0)) 33 (upd (upd (upd (upd (upd (upd f 0 0) 4 0) 1 0) 5 0) 2 0) 6 0)) 33 (upd (upd (upd (upd (upd (upd (upd f 0 0) 4 0) 1 0) 5 0) 2 0) 6 0) 3 0)) 33 (upd (upd (upd (upd (upd (upd (upd (upd f 0 0) 4 0) 1 0) 5 0) 2 0) 6 0) 3 0) 7 0)) I q_J0, 34, 31630))) 11 (fun _ _ => rfl) ?_
                      refine q_Ru_seg (g2 := (55, [(3, .int 12), (2, .int 0), (0, .ref 64), (1, .int 0)], [.int 0], (q_cM (q_uA (q_uA (q_uA (q_uA (q_uA (q_uA (q_uA (q_uA (q_uA q_AM 33 f) 33 (upd f 0 0)) 33 (upd (upd f 0 0) 4 0)) 33 (upd (upd (upd f 0 0) 4 0) 1 0)) 33 (upd (upd (upd (upd f 0 0) 4 0) 1 0) 5 0)) 33 (upd (upd (upd (upd (upd f 0 0) 4 0) 1 0) 5 0) 2 0)) 33 (upd (upd (upd (upd (upd (upd f 0 0) 4 0) 1 0) 5 0) 2 0) 6 0)) 33 (upd (upd (upd (upd (upd (upd (upd f 0 0) 4 0) 1 0) 5 0) 2 0) 6 0) 3 0)) 33 (upd (upd (upd (upd (upd (upd (upd (upd f 0 0) 4 0) 1 0) 5 0) 2 0) 6 0) 3 0) 7 0)) I q_J0, 34, 31630))) 11 (fun _ _ => rfl) ?_
                      refine q_Ru_seg (g2 := (55, [(3, .int 13), (2, .int 0), (0, .ref 64), (1, .int 0)], [.int 0], (q_cM (q_uA (q_uA (q_uA (q_uA (q_uA (q_uA (q_uA (q_uA (q_uA q_AM 33 f) 33 (upd f 0 0)) 33 (upd (upd f 0 0) 4 0)) 33 (upd (upd (upd f 0 0) 4 0) 1 0)) 33 (upd (upd (upd (upd f 0 0) 4 0) 1 0) 5 0)) 33 (upd (upd (upd (upd (upd f 0 0) 4 0) 1 0) 5 0) 2 0)) 33 (upd (upd (upd (upd (upd (upd f 0 0) 4 0) 1 0) 5 0) 2 0) 6 0)) 33 (upd (upd (upd (upd (upd (upd (upd f 0 0) 4 0) 1 0) 5 0) 2 0) 6 0) 3 0)) 33 (upd (upd (upd (upd (upd (upd (upd (upd f 0 0) 4 0) 1 0) 5 0) 2 0) 6 0) 3 0) 7 0)) I q_J0, 34, 31630))) 11 (fun _ _ => rfl) ?_
                      refine q_Ru_seg (g2 := (55, [(3, .int 14), (2, .int 0), (0, .ref 64), (1, .int 0)], [.int 0], (q_cM (q_uA (q_uA (q_uA (q_uA (q_uA (q_uA (q_uA (q_uA (q_uA q_AM 33 f) 33 (upd f 0 0)) 33 (upd (upd f 0 0) 4 0)) 33 (upd (upd (upd f 0 0) 4 0) 1 0)) 33 (upd (upd (upd (upd f 0 0) 4 0) 1 0) 5 0)) 33 (upd (upd (upd (upd (upd f 0 0) 4 0) 1 0) 5 0) 2 0)) 33 (upd (upd (upd (upd (upd (upd f 0 0) 4 0) 1 0) 5 0) 2 0) 6 0)) 33 (upd (upd (upd (upd (upd (upd (upd f 0 0) 4 0) 1 0) 5 0) 2 0) 6 0) 3 0)) 33 (upd (upd (upd (upd (upd (upd (upd (upd f 0 0) 4 0) 1 0) 5 0) 2 0) 6 0) 3 0) 7 0)) I q_J0, 34, 31630))) 11 (fun _ _ => rfl) ?_
                      refine q_Ru_seg (g2 := (55, [(3, .int 15), (2, .int 0), (0, .ref 64), (1, .int 0)], [.int 0], (q_cM (q_uA (q_uA (q_uA (q_uA (q_uA (q_uA (q_uA (q_uA (q_uA q_AM 33 f) 33 (upd f 0 0)) 33 (upd (upd f 0 0) 4 0)) 33 (upd (upd (upd f 0 0) 4 0) 1 0)) 33 (upd (upd (upd (upd f 0 0) 4 0) 1 0) 5 0)) 33 (upd (upd (upd (upd (upd f 0 0) 4 0) 1 0) 5 0) 2 0)) 33 (upd (upd (upd (upd (upd (upd f 0 0) 4 0) 1 0) 5 0) 2 0) 6 0)) 33 (upd (upd (upd (upd (upd (upd (upd f 0 0) 4 0) 1 0) 5 0) 2 0) 6 0) 3 0)) 33 (upd (upd (upd (upd (upd (upd (upd (upd f 0 0) 4 0) 1 0) 5 0) 2 0) 6 0) 3 0) 7 0)) I q_J0, 34, 31630))) 11 (fun _ _ => rfl) ?_
                      refine q_Ru_seg (g2 := (55, [(3, .int 0), (2, .int 1), (0, .ref 64), (1, .int 0)], [.int 0], (q_cM (q_uA (q_uA (q_uA (q_uA (q_uA (q_uA (q_uA (q_uA (q_uA q_AM 33 f) 33 (upd f 0 0)) 33 (upd (upd f 0 0) 4 0)) 33 (upd (upd (upd f 0 0) 4 0) 1 0)) 33 (upd (upd (upd (upd f 0 0) 4 0) 1 0) 5 0)) 33 (upd (upd (upd (upd (upd f 0 0) 4 0) 1 0) 5 0) 2 0)) 33 (upd (upd (upd (upd (upd (upd f 0 0) 4 0) 1 0) 5 0) 2 0) 6 0)) 33 (upd (upd (upd (upd (upd (upd (upd f 0 0) 4 0) 1 0) 5 0) 2 0) 6 0) 3 0)) 33 (upd (upd (upd (upd (upd (upd (upd (upd f 0 0) 4 0) 1 0) 5 0) 2 0) 6 0) 3 0) 7 0)) I q_J0, 34, 31630))) 21 (fun _ _ => rfl) ?_
                      refine q_Ru_seg (g2 := (55, [(3, .int 1), (2, .int 1), (0, .ref 64), (1, .int 0)], [.int 0], (q_cM (q_uA (q_uA (q_uA (q_uA (q_uA (q_uA (q_uA (q_uA (q_uA q_AM 33 f) 33 (upd f 0 0)) 33 (upd (upd f 0 0) 4 0)) 33 (upd (upd (upd f 0 0) 4 0) 1 0)) 33 (upd (upd (upd (upd f 0 0) 4 0) 1 0) 5 0)) 33 (upd (upd (upd (upd (upd f 0 0) 4 0) 1 0) 5 0) 2 0)) 33 (upd (upd (upd (upd (upd (upd f 0 0) 4 0) 1 0) 5 0) 2 0) 6 0)) 33 (upd (upd (upd (upd (upd (upd (upd f 0 0) 4 0) 1 0) 5 0) 2 0) 6 0) 3 0)) 33 (upd (upd (upd (upd (upd (upd (upd (upd f 0 0) 4 0) 1 0) 5 0) 2 0) 6 0) 3 0) 7 0)) I q_J0, 34, 31630))) 11 (fun _ _ => rfl) ?_
                      refine q_Ru_seg (g2 := (55, [(3, .int 2), (2, .int 1), (0, .ref 64), (1, .int 0)], [.int 0], (q_cM (q_uA (q_uA (q_uA (q_uA (q_uA (q_uA (q_uA (q_uA (q_uA q_AM 33 f) 33 (upd f 0 0)) 33 (upd (upd f 0 0) 4 0)) 33 (upd (upd (upd f 0 0) 4 0) 1 0)) 33 (upd (upd (upd (upd f 0 0) 4 0) 1 0) 5 0)) 33 (upd (upd (upd (upd (upd f 0 0) 4 0) 1 0) 5 0) 2 0)) 33 (upd (upd (upd (upd (upd (upd f 0 0) 4 0) 1 0) 5 0) 2 0) 6 0)) 33 (upd (upd (upd (upd (upd (upd (upd f 0 0) 4 0) 1 0) 5 0) 2 0) 6 0) 3 0)) 33 (upd (upd (upd (upd (upd (upd (upd (upd f 0 0) 4 0) 1 0) 5 0) 2 0) 6 0) 3 0) 7 0)) I q_J0, 34, 31630))) 11 (fun _ _ => rfl) ?_
                      refine q_Ru_seg (g2 := (55, [(3, .int 3), (2, .int 1), (0, .ref 64), (1, .int 0)], [.int 0], (q_cM (q_uA (q_uA (q_uA (q_uA (q_uA (q_uA (q_uA (q_uA (q_uA q_AM 33 f) 33 (upd f 0 0)) 33 (upd (upd f 0 0) 4 0)) 33 (upd (upd (upd f 0 0) 4 0) 1 0)) 33 (upd (upd (upd (upd f 0 0) 4 0) 1 0) 5 0)) 33 (upd (upd (upd (upd (upd f 0 0) 4 0) 1 0) 5 0) 2 0)) 33 (upd (upd (upd (upd (upd (upd f 0 0) 4 0) 1 0) 5 0) 2 0) 6 0)) 33 (upd (upd (upd (upd (upd (upd (upd f 0 0) 4 0) 1 0) 5 0) 2 0) 6 0) 3 0)) 33 (upd (upd (upd (upd (upd (upd (upd (upd f 0 0) 4 0) 1 0) 5 0) 2 0) 6 0) 3 0) 7 0)) I q_J0, 34, 31630))) 11 (fun _ _ => rfl) ?_
                      refine q_Ru_seg (g2 := (55, [(3, .int 4), (2, .int 1), (0, .ref 64), (1, .int 0)], [.int 0], (q_cM (q_uA (q_uA (q_uA (q_uA (q_uA (q_uA (q_uA (q_uA (q_uA q_AM 33 f) 33 (upd f 0 0)) 33 (upd (upd f 0 0) 4 0)) 33 (upd (upd (upd f 0 0) 4 0) 1 0)) 33 (upd (upd (upd (upd f 0 0) 4 0) 1 0) 5 0)) 33 (upd (upd (upd (upd (upd f 0 0) 4 0) 1 0) 5 0) 2 0)) 33 (upd (upd (upd (upd (upd (upd f 0 0) 4 0) 1 0) 5 0) 2 0) 6 0)) 33 (upd (upd (upd (upd (upd (upd (upd f 0 0) 4 0) 1 0) 5 0) 2 0) 6 0) 3 0)) 33 (upd (upd (upd (upd (upd (upd (upd (upd f 0 0) 4 0) 1 0) 5 0) 2 0) 6 0) 3 0) 7 0)) I q_J0, 34, 31630))) 11 (fun _ _ => rfl) ?_
                      refine q_Ru_seg (g2 := (55, [(3, .int 5), (2, .int 1), (0, .ref 64), (1, .int 0)], [.int 0], (q_cM (q_uA (q_uA (q_uA (q_uA (q_uA (q_uA (q_uA (q_uA (q_uA q_AM 33 f) 33 (upd f 0 0)) 33 (upd (upd f 0 0) 4 0)) 33 (upd (upd (upd f 0 0) 4 0) 1 0)) 33 (upd (upd (upd (upd f 0 0) 4 0) 1 0) 5 0)) 33 (upd (upd (upd (upd (upd f 0 0) 4 0) 1 0) 5 0) 2 0)) 33 (upd (upd (upd (upd (upd (upd f 0 0) 4 0) 1 0) 5 0) 2 0) 6 0)) 33 (upd (upd (upd (upd (upd (upd (upd f 0 0) 4 0) 1 0) 5 0) 2 0) 6 0) 3 0)) 33 (upd (upd (upd (upd (upd (upd (upd (upd f 0 0) 4 0) 1 0) 5 0) 2 0) 6 0) 3 0) 7 0)) I q_J0, 34, 31630))) 11 (fun _ _ => rfl) ?_
                      refine q_Ru_seg (g2 := (55, [(3, .int 6), (2, .int 1), (0, .ref 64), (1, .int 0)], [.int 0], (q_cM (q_uA (q_uA (q_uA (q_uA (q_uA (q_uA (q_uA (q_uA (q_uA q_AM 33 f) 33 (upd f 0 0)) 33 (upd (upd f 0 0) 4 0)) 33 (upd (upd (upd f 0 0) 4 0) 1 0)) 33 (upd (upd (upd (upd f 0 0) 4 0) 1 0) 5 0)) 33 (upd (upd (upd (upd (upd f 0 0) 4 0) 1 0) 5 0) 2 0)) 33 (upd (upd (upd (upd (upd (upd f 0 0) 4 0) 1 0) 5 0) 2 0) 6 0)) 33 (upd (upd (upd (upd (upd (upd (upd f 0 0) 4 0) 1 0) 5 0) 2 0) 6 0) 3 0)) 33 (upd (upd (upd (upd (upd (upd (upd (upd f 0 0) 4 0) 1 0) 5 0) 2 0) 6 0) 3 0) 7 0)) I q_J0, 34, 31630))) 11 (fun _ _ => rfl) ?_
                      refine q_Ru_seg (g2 := (55, [(3, .int 7), (2, .int 1), (0, .ref 64), (1, .int 0)], [.int 0], (q_cM (q_uA (q_uA (q_uA (q_uA (q_uA (q_uA (q_uA (q_uA (q_uA q_AM 33 f) 33 (upd f 0 0)) 33 (upd (upd f 0 0) 4 0)) 33 (upd (upd (upd f 0 0) 4 0) 1 0)) 33 (upd (upd (upd (upd f 0 0) 4 0) 1 0) 5 0)) 33 (upd (upd (upd (upd (upd f 0 0) 4 0) 1 0) 5 0) 2 0)) 33 (upd (upd (upd (upd (upd (upd f 0 0) 4 0) 1 0) 5 0) 2 0) 6 0)) 33 (upd (upd (upd (upd (upd (upd (upd f 0 0) 4 0) 1 0) 5 0) 2 0) 6 0) 3 0)) 33 (upd (upd (upd (upd (upd (upd (upd (upd f 0 0) 4 0) 1 0) 5 0) 2 0) 6 0) 3 0) 7 0)) I q_J0, 34, 31630))) 11 (fun _ _ => rfl) ?_
                      refine q_Ru_seg (g2 := (55, [(3, .int 8), (2, .int 1), (0, .ref 64), (1, .int 0)], [.int 0], (q_cM (q_uA (q_uA (q_uA (q_uA (q_uA (q_uA (q_uA (q_uA (q_uA q_AM 33 f) 33 (upd f 0 0)) 33 (upd (upd f 0 0) 4 0)) 33 (upd (upd (upd f 0 0) 4 0) 1 0)) 33 (upd (upd (upd (upd f 0 0) 4 0) 1 0) 5 0)) 33 (upd (upd (upd (upd (upd f 0 0) 4 0) 1 0) 5 0) 2 0)) 33 (upd (upd (upd (upd (upd (upd f 0 0) 4 0) 1 0) 5 0) 2 0) 6 0)) 33 (upd (upd (upd (upd (upd (upd (upd f 0 0) 4 0) 1 0) 5 0) 2 0) 6 0) 3 0)) 33 (upd (upd (upd (upd (upd (upd (upd (upd f 0 0) 4 0) 1 0) 5 0) 2 0) 6 0) 3 0) 7 0)) I q_J0, 34, 31630))) 11 (fun _ _ => rfl) ?_
                      refine q_Ru_seg (g2 := (55, [(3, .int 9), (2, .int 1), (0, .ref 64), (1, .int 0)], [.int 0], (q_cM (q_uA (q_uA (q_uA (q_uA (q_uA (q_uA (q_uA (q_uA (q_uA q_AM 33 f) 33 (upd f 0 0)) 33 (upd (upd f 0 0) 4 0)) 33 (upd (upd (upd f 0 0) 4 0) 1 0)) 33 (upd (upd (upd (upd f 0 0) 4 0) 1 0) 5 0)) 33 (upd (upd (upd (upd (upd f 0 0) 4 0) 1 0) 5 0) 2 0)) 33 (upd (upd (upd (upd (upd (upd f 0 0) 4 0) 1 0) 5 0) 2 0) 6 0)) 33 (upd (upd (upd (upd (upd (upd (upd f 0 0) 4 0) 1 0) 5 0) 2 0) 6 0) 3 0)) 33 (upd (upd (upd (upd (upd (upd (upd (upd f 0 0) 4 0) 1 0) 5 0) 2 0) 6 0) 3 0) 7 0)) I q_J0, 34, 31630))) 11 (fun _ _ => rfl) ?_
                      refine q_Ru_seg (g2 := (55, [(3, .int 10), (2, .int 1), (0, .ref 64), (1, .int 0)], [.int 0], (q_cM (q_uA (q_uA (q_uA (q_uA (q_uA (q_uA (q_uA (q_uA (q_uA q_AM 33 f) 33 (upd f 0 0)) 33 (upd (upd f 0 0) 4 0)) 33 (upd (upd (upd f 0 0) 4 0) 1 0)) 33 (upd (upd (upd (upd f 0 0) 4 0) 1 0) 5 0)) 33 (upd (upd (upd (upd (upd f 0 0) 4 0) 1 0) 5 0) 2 0)) 33 (upd (upd (upd (upd (upd (upd f 0 0) 4 0) 1 0) 5 0) 2 0) 6 0)) 33 (upd (upd (upd (upd (upd (upd (upd f 0 0) 4 0) 1 0) 5 0) 2 0) 6 0) 3 0)) 33 (upd (upd (upd (upd (upd (upd (upd (upd f 0 0) 4 0) 1 0) 5 0) 2 0) 6 0) 3 0) 7 0)) I q_J0, 34, 31630))) 11 (fun _ _ => rfl) ?_
                      refine q_Ru_seg (g2 := (55, [(3, .int 11), (2, .int 1), (0, .ref 64), (1, .int 0)], [.int 0], (q_cM (q_uA (q_uA (q_uA (q_uA (q_uA (q_uA (q_uA (q_uA (q_uA q_AM 33 f) 33 (upd f 0 0)) 33 (upd (upd f 0 0) 4 0)) 33 (upd (upd (upd f 0 0) 4 0) 1 0)) 33 (upd (upd (upd (upd f 0 0) 4 0) 1 0) 5 0)) 33 (upd (upd (upd (upd (upd f 0 0) 4 0) 1 0) 5 0) 2 0)) 33 (upd (upd (upd (upd (upd (upd f 0 0) 4 0) 1 0) 5 0) 2 0) 6 0)) 33 (upd (upd (upd (upd (upd (upd (upd f 0 0) 4 0) 1 0) 5 0) 2 0) 6 0) 3 0)) 33 (upd (upd (upd (upd (upd (upd (upd (upd f 0 0) 4 0) 1 0) 5 0) 2 0) 6 0) 3 0) 7 0)) I q_J0, 34, 31630))) 11 (fun _ _ => rfl) ?_
                      refine q_Ru_seg (g2 := (55, [(3, .int 12), (2, .int 1), (0, .ref 64), (1, .int 0)], [.int 0], (q_cM (q_uA (q_uA (q_uA (q_uA (q_uA (q_uA (q_uA (q_uA (q_uA q_AM 33 f) 33 (upd f 0 0)) 33 (upd (upd f 0 0) 4 0)) 33 (upd (upd (upd f 0 0) 4 0) 1 0)) 33 (upd (upd (upd (upd f 0 0) 4 0) 1 0) 5 0)) 33 (upd (upd (upd (upd (upd f 0 0) 4 0) 1 0) 5 0) 2 0)) 33 (upd (upd (upd (upd (upd (upd f 0 0) 4 0) 1 0) 5 0) 2 0) 6 0)) 33 (upd (upd (upd (upd (upd (upd (upd f 0 0) 4 0) 1 0) 5 0) 2 0) 6 0) 3 0)) 33 (upd (upd (upd (upd (upd (upd (upd (upd f 0 0) 4 0) 1 0) 5 0) 2 0) 6 0) 3 0) 7 0)) I q_J0, 34, 31630))) 11 (fun _ _ => rfl) ?_
                      refine q_Ru_seg (g2 := (55, [(3, .int 13), (2, .int 1), (0, .ref 64), (1, .int 0)], [.int 0], (q_cM (q_uA (q_uA (q_uA (q_uA (q_uA (q_uA (q_uA (q_uA (q_uA q_AM 33 f) 33 (upd f 0 0)) 33 (upd (upd f 0 0) 4 0)) 33 (upd (upd (upd f 0 0) 4 0) 1 0)) 33 (upd (upd (upd (upd f 0 0) 4 0) 1 0) 5 0)) 33 (upd (upd (upd (upd (upd f 0 0) 4 0) 1 0) 5 0) 2 0)) 33 (upd (upd (upd (upd (upd (upd f 0 0) 4 0) 1 0) 5 0) 2 0) 6 0)) 33 (upd (upd (upd (upd (upd (upd (upd f 0 0) 4 0) 1 0) 5 0) 2 0) 6 0) 3 0)) 33 (upd (upd (upd (upd (upd (upd (upd (upd f 0 0) 4 0) 1 0) 5 0) 2 0) 6 0) 3 0) 7 0)) I q_J0, 34, 31630))) 11 (fun _ _ => rfl) ?_
                      refine q_Ru_seg (g2 := (55, [(3, .int 14), (2, .int 1), (0, .ref 64), (1, .int 0)], [.int 0], (q_cM (q_uA (q_uA (q_uA (q_uA (q_uA (q_uA (q_uA (q_uA (q_uA q_AM 33 f) 33 (upd f 0 0)) 33 (upd (upd f 0 0) 4 0)) 33 (upd (upd (upd f 0 0) 4 0) 1 0)) 33 (upd (upd (upd (upd f 0 0) 4 0) 1 0) 5 0)) 33 (upd (upd (upd (upd (upd f 0 0) 4 0) 1 0) 5 0) 2 0)) 33 (upd (upd (upd (upd (upd (upd f 0 0) 4 0) 1 0) 5 0) 2 0) 6 0)) 33 (upd (upd (upd (upd (upd (upd (upd f 0 0) 4 0) 1 0) 5 0) 2 0) 6 0) 3 0)) 33 (upd (upd (upd (upd (upd (upd (upd (upd f 0 0) 4 0) 1 0) 5 0) 2 0) 6 0) 3 0) 7 0)) I q_J0, 34, 31630))) 11 (fun _ _ => rfl) ?_
                      refine q_Ru_seg (g2 := (55, [(3, .int 15), (2, .int 1), (0, .ref 64), (1, .int 0)], [.int 0], (q_cM (q_uA (q_uA (q_uA (q_uA (q_uA (q_uA (q_uA (q_uA (q_uA q_AM 33 f) 33 (upd f 0 0)) 33 (upd (upd f 0 0) 4 0)) 33 (upd (upd (upd f 0 0) 4 0) 1 0)) 33 (upd (upd (upd (upd f 0 0) 4 0) 1 0) 5 0)) 33 (upd (upd (upd (upd (upd f 0 0) 4 0) 1 0) 5 0) 2 0)) 33 (upd (upd (upd (upd (upd (upd f 0 0) 4 0) 1 0) 5 0) 2 0) 6 0)) 33 (upd (upd (upd (upd (upd (upd (upd f 0 0) 4 0) 1 0) 5 0) 2 0) 6 0) 3 0)) 33 (upd (upd (upd (upd (upd (upd (upd (upd f 0 0) 4 0) 1 0) 5 0) 2 0) 6 0) 3 0) 7 0)) I q_J0, 34, 31630))) 11 (fun _ _ => rfl) ?_
                      refine q_Ru_seg (g2 := (55, [(3, .int 0), (2, .int 2), (0, .ref 64), (1, .int 0)], [.int 0], (q_cM (q_uA (q_uA (q_uA (q_uA (q_uA (q_uA (q_uA (q_uA (q_uA q_AM 33 f) 33 (upd f 0 0)) 33 (upd (upd f 0 0) 4 0)) 33 (upd (upd (upd f 0 0) 4 0) 1 0)) 33 (upd (upd (upd (upd f 0 0) 4 0) 1 0) 5 0)) 33 (upd (upd (upd (upd (upd f 0 0) 4 0) 1 0) 5 0) 2 0)) 33 (upd (upd (upd (upd (upd (upd f 0 0) 4 0) 1 0) 5 0) 2 0) 6 0)) 33 (upd (upd (upd (upd (upd (upd (upd f 0 0) 4 0) 1 0) 5 0) 2 0) 6 0) 3 0)) 33 (upd (upd (upd (upd (upd (upd (upd (upd f 0 0) 4 0) 1 0) 5 0) 2 0) 6 0) 3 0) 7 0)) I q_J0, 34, 31630))) 21 (fun _ _ => rfl) ?_
                      refine q_Ru_seg (g2 := (55, [(3, .int 1), (2, .int 2), (0, .ref 64), (1, .int 0)], [.int 0], (q_cM (q_uA (q_uA (q_uA (q_uA (q_uA (q_uA (q_uA (q_uA (q_uA q_AM 33 f) 33 (upd f 0 0)) 33 (upd (upd f 0 0) 4 0)) 33 (upd (upd (upd f 0 0) 4 0) 1 0)) 33 (upd (upd (upd (upd f 0 0) 4 0) 1 0) 5 0)) 33 (upd (upd (upd (upd (upd f 0 0) 4 0) 1 0) 5 0) 2 0)) 33 (upd (upd (upd (upd (upd (upd f 0 0) 4 0) 1 0) 5 0) 2 0) 6 0)) 33 (upd (upd (upd (upd (upd (upd (upd f 0 0) 4 0) 1 0) 5 0) 2 0) 6 0) 3 0)) 33 (upd (upd (upd (upd (upd (upd (upd (upd f 0 0) 4 0) 1 0) 5 0) 2 0) 6 0) 3 0) 7 0)) I q_J0, 34, 31630))) 11 (fun _ _ => rfl) ?_
                      refine q_Ru_seg (g2 := (55, [(3, .int 2), (2, .int 2), (0, .ref 64), (1, .int 0)], [.int 0], (q_cM (q_uA (q_uA (q_uA (q_uA (q_uA (q_uA (q_uA (q_uA (q_uA q_AM 33 f) 33 (upd f 0 0)) 33 (upd (upd f 0 0) 4 0)) 33 (upd (upd (upd f 0 0) 4 0) 1 0)) 33 (upd (upd (upd (upd f 0 0) 4 0) 1 0) 5 0)) 33 (upd (upd (upd (upd (upd f 0 0) 4 0) 1 0) 5 0) 2 0)) 33 (upd (upd (upd (upd (upd (upd f 0 0) 4 0) 1 0) 5 0) 2 0) 6 0)) 33 (upd (upd (upd (upd (upd (upd (upd f 0 0) 4 0) 1 0) 5 0) 2 0) 6 0) 3 0)) 33 (upd (upd (upd (upd (upd (upd (upd (upd f 0 0) 4 0) 1 0) 5 0) 2 0) 6 0) 3 0) 7 0)) I q_J0, 34, 31630))) 11 (fun _ _ => rfl) ?_
                      refine q_Ru_seg (g2 := (55, [(3, .int 3), (2, .int 2), (0, .ref 64), (1, .int 0)], [.int 0], (q_cM (q_uA (q_uA (q_uA (q_uA (q_uA (q_uA (q_uA (q_uA (q_uA q_AM 33 f) 33 (upd f 0 0)) 33 (upd (upd f 0 0) 4 0)) 33 (upd (upd (upd f 0 0) 4 0) 1 0)) 33 (upd (upd (upd (upd f 0 0) 4 0) 1 0) 5 0)) 33 (upd (upd (upd (upd (upd f 0 0) 4 0) 1 0) 5 0) 2 0)) 33 (upd (upd (upd (upd (upd (upd f 0 0) 4 0) 1 0) 5 0) 2 0) 6 0)) 33 (upd (upd (upd (upd (upd (upd (upd f 0 0) 4 0) 1 0) 5 0) 2 0) 6 0) 3 0)) 33 (upd (upd (upd (upd (upd (upd (upd (upd f 0 0) 4 0) 1 0) 5 0) 2 0) 6 0) 3 0) 7 0)) I q_J0, 34, 31630))) 11 (fun _ _ => rfl) ?_
                      refine q_Ru_seg (g2 := (55, [(3, .int 4), (2, .int 2), (0, .ref 64), (1, .int 0)], [.int 0], (q_cM (q_uA (q_uA (q_uA (q_uA (q_uA (q_uA (q_uA (q_uA (q_uA q_AM 33 f) 33 (upd f 0 0)) 33 (upd (upd f 0 0) 4 0)) 33 (upd (upd (upd f 0 0) 4 0) 1 0)) 33 (upd (upd (upd (upd f 0 0) 4 0) 1 0) 5 0)) 33 (upd (upd (upd (upd (upd f 0 0) 4 0) 1 0) 5 0) 2 0)) 33 (upd (upd (upd (upd (upd (upd f 0 0) 4 0) 1 0) 5 0) 2 0) 6 0)) 33 (upd (upd (upd (upd (upd (upd (upd f 0 0) 4 0) 1 0) 5 0) 2 0) 6 0) 3 0)) 33 (upd (upd (upd (upd (upd (upd (upd (upd f 0 0) 4 0) 1 0) 5 0) 2 0) 6 0) 3 0) 7 0)) I q_J0, 34, 31630))) 11 (fun _ _ => rfl) ?_
                      refine q_Ru_seg (g2 := (55, [(3, .int 5), (2, .int 2), (0, .ref 64), (1, .int 0)], [.int 0], (q_cM (q_uA (q_uA (q_uA (q_uA (q_uA (q_uA (q_uA (q_uA (q_uA q_AM 33 f) 33 (upd f 0 0)) 33 (upd (upd f 0 0) 4 0)) 33 (upd (upd (upd f 0 0) 4 0) 1 0)) 33 (upd (upd (upd (upd f 0 0) 4 0) 1 0) 5 0)) 33 (upd (upd (upd (upd (upd f 0 0) 4 0) 1 0) 5 0) 2 0)) 33 (upd (upd (upd (upd (upd (upd f 0 0) 4 0) 1 0) 5 0) 2 0) 6 0)) 33 (upd (upd (upd (upd (upd (upd (upd f 0 0) 4 0) 1 0) 5 0) 2 0) 6 0) 3 0)) 33 (upd (upd (upd (upd (upd (upd (upd (upd f 0 0) 4 0) 1 0) 5 0) 2 0) 6 0) 3 0) 7 0)) I q_J0, 34, 31630))) 11 (fun _ _ => rfl) ?_
                      refine q_Ru_seg (g2 := (55, [(3, .int 6), (2, .int 2), (0, .ref 64), (1, .int 0)], [.int 0], (q_cM (q_uA (q_uA (q_uA (q_uA (q_uA (q_uA (q_uA (q_uA (q_uA q_AM 33 f) 33 (upd f 0 0)) 33 (upd (upd f 0 0) 4 0)) 33 (upd (upd (upd f 0 0) 4 0) 1 0)) 33 (upd (upd (upd (upd f 0 0) 4 0) 1 0) 5 0)) 33 (upd (upd (upd (upd (upd f 0 0) 4 0) 1 0) 5 0) 2 0)) 33 (upd (upd (upd (upd (upd (upd f 0 0) 4 0) 1 0) 5 0) 2 0) 6 0)) 33 (upd (upd (upd (upd (upd (upd (upd f 0 0) 4 0) 1 0) 5 0) 2 0) 6 0) 3 0)) 33 (upd (upd (upd (upd (upd (upd (upd (upd f 0 0) 4 0) 1 0) 5 0) 2 0) 6 0) 3 0) 7 0)) I q_J0, 34, 31630))) 11 (fun _ _ => rfl) ?_
                      refine q_Ru_seg (g2 := (55, [(3, .int 7), (2, .int 2), (0, .ref 64), (1, .int 0)], [.int 0], (q_cM (q_uA (q_uA (q_uA (q_uA (q_uA (q_uA (q_uA (q_uA (q_uA q_AM 33 f) 33 (upd f 0 0)) 33 (upd (upd f 0 0) 4 0)) 33 (upd (upd (upd f 0 0) 4 0) 1 0)) 33 (upd (upd (upd (upd f 0 0) 4 0) 1 0) 5 0)) 33 (upd (upd (upd (upd (upd f 0 0) 4 0) 1 0) 5 0) 2 0)) 33 (upd (upd (upd (upd (upd (upd f 0 0) 4 0) 1 0) 5 0) 2 0) 6 0)) 33 (upd (upd (upd (upd (upd (upd (upd f 0 0) 4 0) 1 0) 5 0) 2 0) 6 0) 3 0)) 33 (upd (upd (upd (upd (upd (upd (upd (upd f 0 0) 4 0) 1 0) 5 0) 2 0) 6 0) 3 0) 7 0)) I q_J0, 34, 31630))) 11 (fun _ _ => rfl) ?_
                      refine q_Ru_seg (g2 := (55, [(3, .int 8), (2, .int 2), (0, .ref 64), (1, .int 0)], [.int 0], (q_cM (q_uA (q_uA (q_uA (q_uA (q_uA (q_uA (q_uA (q_uA (q_uA q_AM 33 f) 33 (upd f 0 0)) 33 (upd (upd f 0 0) 4 0)) 33 (upd (upd (upd f 0 0) 4 0) 1 0)) 33 (upd (upd (upd (upd f 0 0) 4 0) 1 0) 5 0)) 33 (upd (upd (upd (upd (upd f 0 0) 4 0) 1 0) 5 0) 2 0)) 33 (upd (upd (upd (upd (upd (upd f 0 0) 4 0) 1 0) 5 0) 2 0) 6 0)) 33 (upd (upd (upd (upd (upd (upd (upd f 0 0) 4 0) 1 0) 5 0) 2 0) 6 0) 3 0)) 33 (upd (upd (upd (upd (upd (upd (upd (upd f 0 0) 4 0) 1 0) 5 0) 2 0) 6 0) 3 0) 7 0)) I q_J0, 34, 31630))) 11 (fun _ _ => rfl) ?_
                      refine q_Ru_seg (g2 := (55, [(3, .int 9), (2, .int 2), (0, .ref 64), (1, .int 0)], [.int 0], (q_cM (q_uA (q_uA (q_uA (q_uA (q_uA (q_uA (q_uA (q_uA (q_uA q_AM 33 f) 33 (upd f 0 0)) 33 (upd (upd f 0 0) 4 0)) 33 (upd (upd (upd f 0 0) 4 0) 1 0)) 33 (upd (upd (upd (upd f 0 0) 4 0) 1 0) 5 0)) 33 (upd (upd (upd (upd (upd f 0 0) 4 0) 1 0) 5 0) 2 0)) 33 (upd (upd (upd (upd (upd (upd f 0 0) 4 0) 1 0) 5 0) 2 0) 6 0)) 33 (upd (upd (upd (upd (upd (upd (upd f 0 0) 4 0) 1 0) 5 0) 2 0) 6 0) 3 0)) 33 (upd (upd (upd (upd (upd (upd (upd (upd f 0 0) 4 0) 1 0) 5 0) 2 0) 6 0) 3 0) 7 0)) I q_J0, 34, 31630))) 11 (fun _ _ => rfl) ?_
                      refine q_Ru_seg (g2 := (55, [(3, .int 10), (2, .int 2), (0, .ref 64), (1, .int 0)], [.int 0], (q_cM (q_uA (q_uA (q_uA (q_uA (q_uA (q_uA (q_uA (q_uA (q_uA q_AM 33 f) 33 (upd f 0 0)) 33 (upd (upd f 0 0) 4 0)) 33 (upd (upd (upd f 0 0) 4 0) 1 0)) 33 (upd (upd (upd (upd f 0 0) 4 0) 1 0) 5 0)) 33 (upd (upd (upd (upd (upd f 0 0) 4 0) 1 0) 5 0) 2 0)) 33 (upd (upd (upd (upd (upd (upd f 0 0) 4 0) 1 0) 5 0) 2 0) 6 0)) 33 (upd (upd (upd (upd (upd (upd (upd f 0 0) 4 0) 1 0) 5 0) 2 0) 6 0) 3 0)) 33 (upd (upd (upd (upd (upd (upd (upd (upd f 0 0) 4 0) 1 0) 5 0) 2 0) 6 0) 3 0) 7 0)) I q_J0, 34, 31630))) 11 (fun _ _ => rfl) ?_
                      refine q_Ru_seg (g2 := (55, [(3, .int 11), (2, .int 2), (0, .ref 64), (1, .int 0)], [.int 0], (q_cM (q_uA (q_uA (q_uA (q_uA (q_uA (q_uA (q_uA (q_uA (q_uA q_AM 33 f) 33 (upd f 0 0)) 33 (upd (upd f 0 0) 4 0)) 33 (upd (upd (upd f 0 0) 4 0) 1 0)) 33 (upd (upd (upd (upd f 0 0) 4 0) 1 0) 5 0)) 33 (upd (upd (upd (upd (upd f 0 0) 4 0) 1 0) 5 0) 2 0)) 33 (upd (upd (upd (upd (upd (upd f 0 0) 4 0) 1 0) 5 0) 2 0) 6 0)) 33 (upd (upd (upd (upd (upd (upd (upd f 0 0) 4 0) 1 0) 5 0) 2 0) 6 0) 3 0)) 33 (upd (upd (upd (upd (upd (upd (upd (upd f 0 0) 4 0) 1 0) 5 0) 2 0) 6 0) 3 0) 7 0)) I q_J0, 34, 31630))) 11 (fun _ _ => rfl) ?_
                      refine q_Ru_seg (g2 := (55, [(3, .int 12), (2, .int 2), (0, .ref 64), (1, .int 0)], [.int 0], (q_cM (q_uA (q_uA (q_uA (q_uA (q_uA (q_uA (q_uA (q_uA (q_uA q_AM 33 f) 33 (upd f 0 0)) 33 (upd (upd f 0 0) 4 0)) 33 (upd (upd (upd f 0 0) 4 0) 1 0)) 33 (upd (upd (upd (upd f 0 0) 4 0) 1 0) 5 0)) 33 (upd (upd (upd (upd (upd f 0 0) 4 0) 1 0) 5 0) 2 0)) 33 (upd (upd (upd (upd (upd (upd f 0 0) 4 0) 1 0) 5 0) 2 0) 6 0)) 33 (upd (upd (upd (upd (upd (upd (upd f 0 0) 4 0) 1 0) 5 0) 2 0) 6 0) 3 0)) 33 (upd (upd (upd (upd (upd (upd (upd (upd f 0 0) 4 0) 1 0) 5 0) 2 0) 6 0) 3 0) 7 0)) I q_J0, 34, 31630))) 11 (fun _ _ => rfl) ?_
                      refine q_Ru_seg (g2 := (55, [(3, .int 13), (2, .int 2), (0, .ref 64), (1, .int 0)], [.int 0], (q_cM (q_uA (q_uA (q_uA (q_uA (q_uA (q_uA (q_uA (q_uA (q_uA q_AM 33 f) 33 (upd f 0 0)) 33 (upd (upd f 0 0) 4 0)) 33 (upd (upd (upd f 0 0) 4 0) 1 0)) 33 (upd (upd (upd (upd f 0 0) 4 0) 1 0) 5 0)) 33 (upd (upd (upd (upd (upd f 0 0) 4 0) 1 0) 5 0) 2 0)) 33 (upd (upd (upd (upd (upd (upd f 0 0) 4 0) 1 0) 5 0) 2 0) 6 0)) 33 (upd (upd (upd (upd (upd (upd (upd f 0 0) 4 0) 1 0) 5 0) 2 0) 6 0) 3 0)) 33 (upd (upd (upd (upd (upd (upd (upd (upd f 0 0) 4 0) 1 0) 5 0) 2 0) 6 0) 3 0) 7 0)) I q_J0, 34, 31630))) 11 (fun _ _ => rfl) ?_
                      refine q_Ru_seg (g2 := (55, [(3, .int 14), (2, .int 2), (0, .ref 64), (1, .int 0)], [.int 0], (q_cM (q_uA (q_uA (q_uA (q_uA (q_uA (q_uA (q_uA (q_uA (q_uA q_AM 33 f) 33 (upd f 0 0)) 33 (upd (upd f 0 0) 4 0)) 33 (upd (upd (upd f 0 0) 4 0) 1 0)) 33 (upd (upd (upd (upd f 0 0) 4 0) 1 0) 5 0)) 33 (upd (upd (upd (upd (upd f 0 0) 4 0) 1 0) 5 0) 2 0)) 33 (upd (upd (upd (upd (upd (upd f 0 0) 4 0) 1 0) 5 0) 2 0) 6 0)) 33 (upd (upd (upd (upd (upd (upd (upd f 0 0) 4 0) 1 0) 5 0) 2 0) 6 0) 3 0)) 33 (upd (upd (upd (upd (upd (upd (upd (upd f 0 0) 4 0) 1 0) 5 0) 2 0) 6 0) 3 0) 7 0)) I q_J0, 34, 31630))) 11 (fun _ _ => rfl) ?_
                      refine q_Ru_seg (g2 := (55, [(3, .int 15), (2, .int 2), (0, .ref 64), (1, .int 0)], [.int 0], (q_cM (q_uA (q_uA (q_uA (q_uA (q_uA (q_uA (q_uA (q_uA (q_uA q_AM 33 f) 33 (upd f 0 0)) 33 (upd (upd f 0 0) 4 0)) 33 (upd (upd (upd f 0 0) 4 0) 1 0)) 33 (upd (upd (upd (upd f 0 0) 4 0) 1 0) 5 0)) 33 (upd (upd (upd (upd (upd f 0 0) 4 0) 1 0) 5 0) 2 0)) 33 (upd (upd (upd (upd (upd (upd f 0 0) 4 0) 1 0) 5 0) 2 0) 6 0)) 33 (upd (upd (upd (upd (upd (upd (upd f 0 0) 4 0) 1 0) 5 0) 2 0) 6 0) 3 0)) 33 (upd (upd (upd (upd (upd (upd (upd (upd f 0 0) 4 0) 1 0) 5 0) 2 0) 6 0) 3 0) 7 0)) I q_J0, 34, 31630))) 11 (fun _ _ => rfl) ?_
                      refine q_Ru_seg (g2 := (55, [(3, .int 0), (2, .int 3), (0, .ref 64), (1, .int 0)], [.int 0], (q_cM (q_uA (q_uA (q_uA (q_uA (q_uA (q_uA (q_uA (q_uA (q_uA q_AM 33 f) 33 (upd f 0 0)) 33 (upd (upd f 0 0) 4 0)) 33 (upd (upd (upd f 0 0) 4 0) 1 0)) 33 (upd (upd (upd (upd f 0 0) 4 0) 1 0) 5 0)) 33 (upd (upd (upd (upd (upd f 0 0) 4 0) 1 0) 5 0) 2 0)) 33 (upd (upd (upd (upd (upd (upd f 0 0) 4 0) 1 0) 5 0) 2 0) 6 0)) 33 (upd (upd (upd (upd (upd (upd (upd f 0 0) 4 0) 1 0) 5 0) 2 0) 6 0) 3 0)) 33 (upd (upd (upd (upd (upd (upd (upd (upd f 0 0) 4 0) 1 0) 5 0) 2 0) 6 0) 3 0) 7 0)) I q_J0, 34, 31630))) 21 (fun _ _ => rfl) ?_
                      refine q_Ru_seg (g2 := (55, [(3, .int 1), (2, .int 3), (0, .ref 64), (1, .int 0)], [.int 0], (q_cM (q_uA (q_uA (q_uA (q_uA (q_uA (q_uA (q_uA (q_uA (q_uA q_AM 33 f) 33 (upd f 0 0)) 33 (upd (upd f 0 0) 4 0)) 33 (upd (upd (upd f 0 0) 4 0) 1 0)) 33 (upd (upd (upd (upd f 0 0) 4 0) 1 0) 5 0)) 33 (upd (upd (upd (upd (upd f 0 0) 4 0) 1 0) 5 0) 2 0)) 33 (upd (upd (upd (upd (upd (upd f 0 0) 4 0) 1 0) 5 0) 2 0) 6 0)) 33 (upd (upd (upd (upd (upd (upd (upd f 0 0) 4 0) 1 0) 5 0) 2 0) 6 0) 3 0)) 33 (upd (upd (upd (upd (upd (upd (upd (upd f 0 0) 4 0) 1 0) 5 0) 2 0) 6 0) 3 0) 7 0)) I q_J0, 34, 31630))) 11 (fun _ _ => rfl) ?_
                      refine q_Ru_seg (g2 := (55, [(3, .int 2), (2, .int 3), (0, .ref 64), (1, .int 0)], [.int 0], (q_cM (q_uA (q_uA (q_uA (q_uA (q_uA (q_uA (q_uA (q_uA (q_uA q_AM 33 f) 33 (upd f 0 0)) 33 (upd (upd f 0 0) 4 0)) 33 (upd (upd (upd f 0 0) 4 0) 1 0)) 33 (upd (upd (upd (upd f 0 0) 4 0) 1 0) 5 0)) 33 (upd (upd (upd (upd (upd f 0 0) 4 0) 1 0) 5 0) 2 0)) 33 (upd (upd (upd (upd (upd (upd f 0 0) 4 0) 1 0) 5 0) 2 0) 6 0)) 33 (upd (upd (upd (upd (upd (upd (upd f 0 0) 4 0) 1 0) 5 0) 2 0) 6 0) 3 0)) 33 (upd (upd (upd (upd (upd (upd (upd (upd f 0 0) 4 0) 1 0) 5 0) 2 0) 6 0) 3 0) 7 0)) I q_J0, 34, 31630))) 11 (fun _ _ => rfl) ?_
                      refine q_Ru_seg (g2 := (55, [(3, .int 3), (2, .int 3), (0, .ref 64), (1, .int 0)], [.int 0], (q_cM (q_uA (q_uA (q_uA (q_uA (q_uA (q_uA (q_uA (q_uA (q_uA q_AM 33 f) 33 (upd f 0 0)) 33 (upd (upd f 0 0) 4 0)) 33 (upd (upd (upd f 0 0) 4 0) 1 0)) 33 (upd (upd (upd (upd f 0 0) 4 0) 1 0) 5 0)) 33 (upd (upd (upd (upd (upd f 0 0) 4 0) 1 0) 5 0) 2 0)) 33 (upd (upd (upd (upd (upd (upd f 0 0) 4 0) 1 0) 5 0) 2 0) 6 0)) 33 (upd (upd (upd (upd (upd (upd (upd f 0 0) 4 0) 1 0) 5 0) 2 0) 6 0) 3 0)) 33 (upd (upd (upd (upd (upd (upd (upd (upd f 0 0) 4 0) 1 0) 5 0) 2 0) 6 0) 3 0) 7 0)) I q_J0, 34, 31630))) 11 (fun _ _ => rfl) ?_
                      refine q_Ru_seg (g2 := (55, [(3, .int 4), (2, .int 3), (0, .ref 64), (1, .int 0)], [.int 0], (q_cM (q_uA (q_uA (q_uA (q_uA (q_uA (q_uA (q_uA (q_uA (q_uA q_AM 33 f) 33 (upd f 0 0)) 33 (upd (upd f 0 0) 4 0)) 33 (upd (upd (upd f 0 0) 4 0) 1 0)) 33 (upd (upd (upd (upd f 0 0) 4 0) 1 0) 5 0)) 33 (upd (upd (upd (upd (upd f 0 0) 4 0) 1 0) 5 0) 2 0)) 33 (upd (upd (upd (upd (upd (upd f 0 0) 4 0) 1 0) 5 0) 2 0) 6 0)) 33 (upd (upd (upd (upd (upd (upd (upd f 0 0) 4 0) 1 0) 5 0) 2 0) 6 0) 3 0)) 33 (upd (upd (upd (upd (upd (upd (upd (upd f 0 0) 4 0) 1 0) 5 0) 2 0) 6 0) 3 0) 7 0)) I q_J0, 34, 31630))) 11 (fun _ _ => rfl) ?_
                      refine q_Ru_seg (g2 := (55, [(3, .int 5), (2, .int 3), (0, .ref 64), (1, .int 0)], [.int 0], (q_cM (q_uA (q_uA (q_uA (q_uA (q_uA (q_uA (q_uA (q_uA (q_uA q_AM 33 f) 33 (upd f 0 0)) 33 (upd (upd f 0 0) 4 0)) 33 (upd (upd (upd f 0 0) 4 0) 1 0)) 33 (upd (upd (upd (upd f 0 0) 4 0) 1 0) 5 0)) 33 (upd (upd (upd (upd (upd f 0 0) 4 0) 1 0) 5 0) 2 0)) 33 (upd (upd (upd (upd (upd (upd f 0 0) 4 0) 1 0) 5 0) 2 0) 6 0)) 33 (upd (upd (upd (upd (upd (upd (upd f 0 0) 4 0) 1 0) 5 0) 2 0) 6 0) 3 0)) 33 (upd (upd (upd (upd (upd (upd (upd (upd f 0 0) 4 0) 1 0) 5 0) 2 0) 6 0) 3 0) 7 0)) I q_J0, 34, 31630))) 11 (fun _ _ => rfl) ?_
                      refine q_Ru_seg (g2 := (55, [(3, .int 6), (2, .int 3), (0, .ref 64), (1, .int 0)], [.int 0], (q_cM (q_uA (q_uA (q_uA (q_uA (q_uA (q_uA (q_uA (q_uA (q_uA q_AM 33 f) 33 (upd f 0 0)) 33 (upd (upd f 0 0) 4 0)) 33 (upd (upd (upd f 0 0) 4 0) 1 0)) 33 (upd (upd (upd (upd f 0 0) 4 0) 1 0) 5 0)) 33 (upd (upd (upd (upd (upd f 0 0) 4 0) 1 0) 5 0) 2 0)) 33 (upd (upd (upd (upd (upd (upd f 0 0) 4 0) 1 0) 5 0) 2 0) 6 0)) 33 (upd (upd (upd (upd (upd (upd (upd f 0 0) 4 0) 1 0) 5 0) 2 0) 6 0) 3 0)) 33 (upd (upd (upd (upd (upd (upd (upd (upd f 0 0) 4 0) 1 0) 5 0) 2 0) 6 0) 3 0) 7 0)) I q_J0, 34, 31630))) 11 (fun _ _ => rfl) ?_
                      refine q_Ru_seg (g2 := (55, [(3, .int 7), (2, .int 3), (0, .ref 64), (1, .int 0)], [.int 0], (q_cM (q_uA (q_uA (q_uA (q_uA (q_uA (q_uA (q_uA (q_uA (q_uA q_AM 33 f) 33 (upd f 0 0)) 33 (upd (upd f 0 0) 4 0)) 33 (upd (upd (upd f 0 0) 4 0) 1 0)) 33 (upd (upd (upd (upd f 0 0) 4 0) 1 0) 5 0)) 33 (upd (upd (upd (upd (upd f 0 0) 4 0) 1 0) 5 0) 2 0)) 33 (upd (upd (upd (upd (upd (upd f 0 0) 4 0) 1 0) 5 0) 2 0) 6 0)) 33 (upd (upd (upd (upd (upd (upd (upd f 0 0) 4 0) 1 0) 5 0) 2 0) 6 0) 3 0)) 33 (upd (upd (upd (upd (upd (upd (upd (upd f 0 0) 4 0) 1 0) 5 0) 2 0) 6 0) 3 0) 7 0)) I q_J0, 34, 31630))) 11 (fun _ _ => rfl) ?_
                      refine q_Ru_seg (g2 := (55, [(3, .int 8), (2, .int 3), (0, .ref 64), (1, .int 0)], [.int 0], (q_cM (q_uA (q_uA (q_uA (q_uA (q_uA (q_uA (q_uA (q_uA (q_uA q_AM 33 f) 33 (upd f 0 0)) 33 (upd (upd f 0 0) 4 0)) 33 (upd (upd (upd f 0 0) 4 0) 1 0)) 33 (upd (upd (upd (upd f 0 0) 4 0) 1 0) 5 0)) 33 (upd (upd (upd (upd (upd f 0 0) 4 0) 1 0) 5 0) 2 0)) 33 (upd (upd (upd (upd (upd (upd f 0 0) 4 0) 1 0) 5 0) 2 0) 6 0)) 33 (upd (upd (upd (upd (upd (upd (upd f 0 0) 4 0) 1 0) 5 0) 2 0) 6 0) 3 0)) 33 (upd (upd (upd (upd (upd (upd (upd (upd f 0 0) 4 0) 1 0) 5 0) 2 0) 6 0) 3 0) 7 0)) I q_J0, 34, 31630))) 11 (fun _ _ => rfl) ?_
                      refine q_Ru_seg (g2 := (55, [(3, .int 9), (2, .int 3), (0, .ref 64), (1, .int 0)], [.int 0], (q_cM (q_uA (q_uA (q_uA (q_uA (q_uA (q_uA (q_uA (q_uA (q_uA q_AM 33 f) 33 (upd f 0 0)) 33 (upd (upd f 0 0) 4 0)) 33 (upd (upd (upd f 0 0) 4 0) 1 0)) 33 (upd (upd (upd (upd f 0 0) 4 0) 1 0) 5 0)) 33 (upd (upd (upd (upd (upd f 0 0) 4 0) 1 0) 5 0) 2 0)) 33 (upd (upd (upd (upd (upd (upd f 0 0) 4 0) 1 0) 5 0) 2 0) 6 0)) 33 (upd (upd (upd (upd (upd (upd (upd f 0 0) 4 0) 1 0) 5 0) 2 0) 6 0) 3 0)) 33 (upd (upd (upd (upd (upd (upd (upd (upd f 0 0) 4 0) 1 0) 5 0) 2 0) 6 0) 3 0) 7 0)) I q_J0, 34, 31630))) 11 (fun _ _ => rfl) ?_
                      refine q_Ru_seg (g2 := (55, [(3, .int 10), (2, .int 3), (0, .ref 64), (1, .int 0)], [.int 0], (q_cM (q_uA (q_uA (q_uA (q_uA (q_uA (q_uA (q_uA (q_uA (q_uA q_AM 33 f) 33 (upd f 0 0)) 33 (upd (upd f 0 0) 4 0)) 33 (upd (upd (upd f 0 0) 4 0) 1 0)) 33 (upd (upd (upd (upd f 0 0) 4 0) 1 0) 5 0)) 33 (upd (upd (upd (upd (upd f 0 0) 4 0) 1 0) 5 0) 2 0)) 33 (upd (upd (upd (upd (upd (upd f 0 0) 4 0) 1 0) 5 0) 2 0) 6 0)) 33 (upd (upd (upd (upd (upd (upd (upd f 0 0) 4 0) 1 0) 5 0) 2 0) 6 0) 3 0)) 33 (upd (upd (upd (upd (upd (upd (upd (upd f 0 0) 4 0) 1 0) 5 0) 2 0) 6 0) 3 0) 7 0)) I q_J0, 34, 31630))) 11 (fun _ _ => rfl) ?_
                      refine q_Ru_seg (g2 := (55, [(3, .int 11), (2, .int 3), (0, .ref 64), (1, .int 0)], [.int 0], (q_cM (q_uA (q_uA (q_uA (q_uA (q_uA (q_uA (q_uA (q_uA (q_uA q_AM 33 f) 33 (upd f 0 0)) 33 (upd (upd f 0 0) 4 0)) 33 (upd (upd (upd f 0 0) 4 0) 1 0)) 33 (upd (upd (upd (upd f 0 0) 4 0) 1 0) 5 0)) 33 (upd (upd (upd (upd (upd f 0 0) 4 0) 1 0) 5 0) 2 0)) 33 (upd (upd (upd (upd (upd (upd f 0 0) 4 0) 1 0) 5 0) 2 0) 6 0)) 33 (upd (upd (upd (upd (upd (upd (upd f 0 0) 4 0) 1 0) 5 0) 2 0) 6 0) 3 0)) 33 (upd (upd (upd (upd (upd (upd (upd (upd f 0 0) 4 0) 1 0) 5 0) 2 0) 6 0) 3 0) 7 0)) I q_J0, 34, 31630))) 11 (fun _ _ => rfl) ?_
                      refine q_Ru_seg (g2 := (55, [(3, .int 12), (2, .int 3), (0, .ref 64), (1, .int 0)], [.int 0], (q_cM (q_uA (q_uA (q_uA (q_uA (q_uA (q_uA (q_uA (q_uA (q_uA q_AM 33 f) 33 (upd f 0 0)) 33 (upd (upd f 0 0) 4 0)) 33 (upd (upd (upd f 0 0) 4 0) 1 0)) 33 (upd (upd (upd (upd f 0 0) 4 0) 1 0) 5 0)) 33 (upd (upd (upd (upd (upd f 0 0) 4 0) 1 0) 5 0) 2 0)) 33 (upd (upd (upd (upd (upd (upd f 0 0) 4 0) 1 0) 5 0) 2 0) 6 0)) 33 (upd (upd (upd (upd (upd (upd (upd f 0 0) 4 0) 1 0) 5 0) 2 0) 6 0) 3 0)) 33 (upd (upd (upd (upd (upd (upd (upd (upd f 0 0) 4 0) 1 0) 5 0) 2 0) 6 0) 3 0) 7 0)) I q_J0, 34, 31630))) 11 (fun _ _ => rfl) ?_
                      refine q_Ru_seg (g2 := (55, [(3, .int 13), (2, .int 3), (0, .ref 64), (1, .int 0)], [.int 0], (q_cM (q_uA (q_uA (q_uA (q_uA (q_uA (q_uA (q_uA (q_uA (q_uA q_AM 33 f) 33 (upd f 0 0)) 33 (upd (upd f 0 0) 4 0)) 33 (upd (upd (upd f 0 0) 4 0) 1 0)) 33 (upd (upd (upd (upd f 0 0) 4 0) 1 0) 5 0)) 33 (upd (upd (upd (upd (upd f 0 0) 4 0) 1 0) 5 0) 2 0)) 33 (upd (upd (upd (upd (upd (upd f 0 0) 4 0) 1 0) 5 0) 2 0) 6 0)) 33 (upd (upd (upd (upd (upd (upd (upd f 0 0) 4 0) 1 0) 5 0) 2 0) 6 0) 3 0)) 33 (upd (upd (upd (upd (upd (upd (upd (upd f 0 0) 4 0) 1 0) 5 0) 2 0) 6 0) 3 0) 7 0)) I q_J0, 34, 31630))) 11 (fun _ _ => rfl) ?_
                      refine q_Ru_seg (g2 := (55, [(3, .int 14), (2, .int 3), (0, .ref 64), (1, .int 0)], [.int 0], (q_cM (q_uA (q_uA (q_uA (q_uA (q_uA (q_uA (q_uA (q_uA (q_uA q_AM 33 f) 33 (upd f 0 0)) 33 (upd (upd f 0 0) 4 0)) 33 (upd (upd (upd f 0 0) 4 0) 1 0)) 33 (upd (upd (upd (upd f 0 0) 4 0) 1 0) 5 0)) 33 (upd (upd (upd (upd (upd f 0 0) 4 0) 1 0) 5 0) 2 0)) 33 (upd (upd (upd (upd (upd (upd f 0 0) 4 0) 1 0) 5 0) 2 0) 6 0)) 33 (upd (upd (upd (upd (upd (upd (upd f 0 0) 4 0) 1 0) 5 0) 2 0) 6 0) 3 0)) 33 (upd (upd (upd (upd (upd (upd (upd (upd f 0 0) 4 0) 1 0) 5 0) 2 0) 6 0) 3 0) 7 0)) I q_J0, 34, 31630))) 11 (fun _ _ => rfl) ?_
                      refine q_Ru_seg (g2 := (55, [(3, .int 15), (2, .int 3), (0, .ref 64), (1, .int 0)], [.int 0], (q_cM (q_uA (q_uA (q_uA (q_uA (q_uA (q_uA (q_uA (q_uA (q_uA q_AM 33 f) 33 (upd f 0 0)) 33 (upd (upd f 0 0) 4 0)) 33 (upd (upd (upd f 0 0) 4 0) 1 0)) 33 (upd (upd (upd (upd f 0 0) 4 0) 1 0) 5 0)) 33 (upd (upd (upd (upd (upd f 0 0) 4 0) 1 0) 5 0) 2 0)) 33 (upd (upd (upd (upd (upd (upd f 0 0) 4 0) 1 0) 5 0) 2 0) 6 0)) 33 (upd (upd (upd (upd (upd (upd (upd f 0 0) 4 0) 1 0) 5 0) 2 0) 6 0) 3 0)) 33 (upd (upd (upd (upd (upd (upd (upd (upd f 0 0) 4 0) 1 0) 5 0) 2 0) 6 0) 3 0) 7 0)) I q_J0, 34, 31630))) 11 (fun _ _ => rfl) ?_
                      refine q_Ru_seg (g2 := (55, [(3, .int 0), (2, .int 4), (0, .ref 64), (1, .int 0)], [.int 0], (q_cM (q_uA (q_uA (q_uA (q_uA (q_uA (q_uA (q_uA (q_uA (q_uA q_AM 33 f) 33 (upd f 0 0)) 33 (upd (upd f 0 0) 4 0)) 33 (upd (upd (upd f 0 0) 4 0) 1 0)) 33 (upd (upd (upd (upd f 0 0) 4 0) 1 0) 5 0)) 33 (upd (upd (upd (upd (upd f 0 0) 4 0) 1 0) 5 0) 2 0)) 33 (upd (upd (upd (upd (upd (upd f 0 0) 4 0) 1 0) 5 0) 2 0) 6 0)) 33 (upd (upd (upd (upd (upd (upd (upd f 0 0) 4 0) 1 0) 5 0) 2 0) 6 0) 3 0)) 33 (upd (upd (upd (upd (upd (upd (upd (upd f 0 0) 4 0) 1 0) 5 0) 2 0) 6 0) 3 0) 7 0)) I q_J0, 34, 31630))) 21 (fun _ _ => rfl) ?_
                      refine q_Ru_seg (g2 := (55, [(3, .int 1), (2, .int 4), (0, .ref 64), (1, .int 0)], [.int 0], (q_cM (q_uA (q_uA (q_uA (q_uA (q_uA (q_uA (q_uA (q_uA (q_uA q_AM 33 f) 33 (upd f 0 0)) 33 (upd (upd f 0 0) 4 0)) 33 (upd (upd (upd f 0 0) 4 0) 1 0)) 33 (upd (upd (upd (upd f 0 0) 4 0) 1 0) 5 0)) 33 (upd (upd (upd (upd (upd f 0 0) 4 0) 1 0) 5 0) 2 0)) 33 (upd (upd (upd (upd (upd (upd f 0 0) 4 0) 1 0) 5 0) 2 0) 6 0)) 33 (upd (upd (upd (upd (upd (upd (upd f 0 0) 4 0) 1 0) 5 0) 2 0) 6 0) 3 0)) 33 (upd (upd (upd (upd (upd (upd (upd (upd f 0 0) 4 0) 1 0) 5 0) 2 0) 6 0) 3 0) 7 0)) I q_J0, 34, 31630))) 11 (fun _ _ => rfl) ?_
                      refine q_Ru_seg (g2 := (55, [(3, .int 2), (2, .int 4), (0, .ref 64), (1, .int 0)], [.int 0], (q_cM (q_uA (q_uA (q_uA (q_uA (q_uA (q_uA (q_uA (q_uA (q_uA q_AM 33 f) 33 (upd f 0 0)) 33 (upd (upd f 0 0) 4 0)) 33 (upd (upd (upd f 0 0) 4 0) 1 0)) 33 (upd (upd (upd (upd f 0 0) 4 0) 1 0) 5 0)) 33 (upd (upd (upd (upd (upd f 0 0) 4 0) 1 0) 5 0) 2 0)) 33 (upd (upd (upd (upd (upd (upd f 0 0) 4 0) 1 0) 5 0) 2 0) 6 0)) 33 (upd (upd (upd (upd (upd (upd (upd f 0 0) 4 0) 1 0) 5 0) 2 0) 6 0) 3 0)) 33 (upd (upd (upd (upd (upd (upd (upd (upd f 0 0) 4 0) 1 0) 5 0) 2 0) 6 0) 3 0) 7 0)) I q_J0, 34, 31630))) 11 (fun _ _ => rfl) ?_
                      refine q_Ru_seg (g2 := (55, [(3, .int 3), (2, .int 4), (0, .ref 64), (1, .int 0)], [.int 0], (q_cM (q_uA (q_uA (q_uA (q_uA (q_uA (q_uA (q_uA (q_uA (q_uA q_AM 33 f) 33 (upd f 0 0)) 33 (upd (upd f 0 0) 4 0)) 33 (upd (upd (upd f 0 0) 4 0) 1 0)) 33 (upd (upd (upd (upd f 0 0) 4 0) 1 0) 5 0)) 33 (upd (upd (upd (upd (upd f 0 0) 4 0) 1 0) 5 0) 2 0)) 33 (upd (upd (upd (upd (upd (upd f 0 0) 4 0) 1 0) 5 0) 2 0) 6 0)) 33 (upd (upd (upd (upd (upd (upd (upd f 0 0) 4 0) 1 0) 5 0) 2 0) 6 0) 3 0)) 33 (upd (upd (upd (upd (upd (upd (upd (upd f 0 0) 4 0) 1 0) 5 0) 2 0) 6 0) 3 0) 7 0)) I q_J0, 34, 31630))) 11 (fun _ _ => rfl) ?_
                      refine q_Ru_seg (g2 := (55, [(3, .int 4), (2, .int 4), (0, .ref 64), (1, .int 0)], [.int 0], (q_cM (q_uA (q_uA (q_uA (q_uA (q_uA (q_uA (q_uA (q_uA (q_uA q_AM 33 f) 33 (upd f 0 0)) 33 (upd (upd f 0 0) 4 0)) 33 (upd (upd (upd f 0 0) 4 0) 1 0)) 33 (upd (upd (upd (upd f 0 0) 4 0) 1 0) 5 0)) 33 (upd (upd (upd (upd (upd f 0 0) 4 0) 1 0) 5 0) 2 0)) 33 (upd (upd (upd (upd (upd (upd f 0 0) 4 0) 1 0) 5 0) 2 0) 6 0)) 33 (upd (upd (upd (upd (upd (upd (upd f 0 0) 4 0) 1 0) 5 0) 2 0) 6 0) 3 0)) 33 (upd (upd (upd (upd (upd (upd (upd (upd f 0 0) 4 0) 1 0) 5 0) 2 0) 6 0) 3 0) 7 0)) I q_J0, 34, 31630))) 11 (fun _ _ => rfl) ?_
                      refine q_Ru_seg (g2 := (55, [(3, .int 5), (2, .int 4), (0, .ref 64), (1, .int 0)], [.int 0], (q_cM (q_uA (q_uA (q_uA (q_uA (q_uA (q_uA (q_uA (q_uA (q_uA q_AM 33 f) 33 (upd f 0 0)) 33 (upd (upd f 0 0) 4 0)) 33 (upd (upd (upd f 0 0) 4 0) 1 0)) 33 (upd (upd (upd (upd f 0 0) 4 0) 1 0) 5 0)) 33 (upd (upd (upd (upd (upd f 0 0) 4 0) 1 0) 5 0) 2 0)) 33 (upd (upd (upd (upd (upd (upd f 0 0) 4 0) 1 0) 5 0) 2 0) 6 0)) 33 (upd (upd (upd (upd (upd (upd (upd f 0 0) 4 0) 1 0) 5 0) 2 0) 6 0) 3 0)) 33 (upd (upd (upd (upd (upd (upd (upd (upd f 0 0) 4 0) 1 0) 5 0) 2 0) 6 0) 3 0) 7 0)) I q_J0, 34, 31630))) 11 (fun _ _ => rfl) ?_
                      refine q_Ru_seg (g2 := (55, [(3, .int 6), (2, .int 4), (0, .ref 64), (1, .int 0)], [.int 0], (q_cM (q_uA (q_uA (q_uA (q_uA (q_uA (q_uA (q_uA (q_uA (q_uA q_AM 33 f) 33 (upd f 0 0)) 33 (upd (upd f 0 0) 4 0)) 33 (upd (upd (upd f 0 0) 4 0) 1 0)) 33 (upd (upd (upd (upd f 0 0) 4 0) 1 0) 5 0)) 33 (upd (upd (upd (upd (upd f 0 0) 4 0) 1 0) 5 0) 2 0)) 33 (upd (upd (upd (upd (upd (upd f 0 0) 4 0) 1 0) 5 0) 2 0) 6 0)) 33 (upd (upd (upd (upd (upd (upd (upd f 0 0) 4 0) 1 0) 5 0) 2 0) 6 0) 3 0)) 33 (upd (upd (upd (upd (upd (upd (upd (upd f 0 0) 4 0) 1 0) 5 0) 2 0) 6 0) 3 0) 7 0)) I q_J0, 34, 31630))) 11 (fun _ _ => rfl) ?_
                      refine q_Ru_seg (g2 := (55, [(3, .int 7), (2, .int 4), (0, .ref 64), (1, .int 0)], [.int 0], (q_cM (q_uA (q_uA (q_uA (q_uA (q_uA (q_uA (q_uA (q_uA (q_uA q_AM 33 f) 33 (upd f 0 0)) 33 (upd (upd f 0 0) 4 0)) 33 (upd (upd (upd f 0 0) 4 0) 1 0)) 33 (upd (upd (upd (upd f 0 0) 4 0) 1 0) 5 0)) 33 (upd (upd (upd (upd (upd f 0 0) 4 0) 1 0) 5 0) 2 0)) 33 (upd (upd (upd (upd (upd (upd f 0 0) 4 0) 1 0) 5 0) 2 0) 6 0)) 33 (upd (upd (upd (upd (upd (upd (upd f 0 0) 4 0) 1 0) 5 0) 2 0) 6 0) 3 0)) 33 (upd (upd (upd (upd (upd (upd (upd (upd f 0 0) 4 0) 1 0) 5 0) 2 0) 6 0) 3 0) 7 0)) I q_J0, 34, 31630))) 11 (fun _ _ => rfl) ?_
                      refine q_Ru_seg (g2 := (55, [(3, .int 8), (2, .int 4), (0, .ref 64), (1, .int 0)], [.int 0], (q_cM (q_uA (q_uA (q_uA (q_uA (q_uA (q_uA (q_uA (q_uA (q_uA q_AM 33 f) 33 (upd f 0 0)) 33 (upd (upd f 0 0) 4 0)) 33 (upd (upd (upd f 0 0) 4 0) 1 0)) 33 (upd (upd (upd (upd f 0 0) 4 0) 1 0) 5 0)) 33 (upd (upd (upd (upd (upd f 0 0) 4 0) 1 0) 5 0) 2 0)) 33 (upd (upd (upd (upd (upd (upd f 0 0) 4 0) 1 0) 5 0) 2 0) 6 0)) 33 (upd (upd (upd (upd (upd (upd (upd f 0 0) 4 0) 1 0) 5 0) 2 0) 6 0) 3 0)) 33 (upd (upd (upd (upd (upd (upd (upd (upd f 0 0) 4 0) 1 0) 5 0) 2 0) 6 0) 3 0) 7 0)) I q_J0, 34, 31630))) 11 (fun _ _ => rfl) ?_
                      refine q_Ru_seg (g2 := (55, [(3, .int 9), (2, .int 4), (0, .ref 64), (1, .int 0)], [.int 0], (q_cM (q_uA (q_uA (q_uA (q_uA (q_uA (q_uA (q_uA (q_uA (q_uA q_AM 33 f) 33 (upd f 0 0)) 33 (upd (upd f 0 0) 4 0)) 33 (upd (upd (upd f 0 0) 4 0) 1 0)) 33 (upd (upd (upd (upd f 0 0) 4 0) 1 0) 5 0)) 33 (upd (upd (upd (upd (upd f 0 0) 4 0) 1 0) 5 0) 2 0)) 33 (upd (upd (upd (upd (upd (upd f 0 0) 4 0) 1 0) 5 0) 2 0) 6 0)) 33 (upd (upd (upd (upd (upd (upd (upd f 0 0) 4 0) 1 0) 5 0) 2 0) 6 0) 3 0)) 33 (upd (upd (upd (upd (upd (upd (upd (upd f 0 0) 4 0) 1 0) 5 0) 2 0) 6 0) 3 0) 7 0)) I q_J0, 34, 31630))) 11 (fun _ _ => rfl) ?_
                      refine q_Ru_seg (g2 := (55, [(3, .int 10), (2, .int 4), (0, .ref 64), (1, .int 0)], [.int 0], (q_cM (q_uA (q_uA (q_uA (q_uA (q_uA (q_uA (q_uA (q_uA (q_uA q_AM 33 f) 33 (upd f 0 0)) 33 (upd (upd f 0 0) 4 0)) 33 (upd (upd (upd f 0 0) 4 0) 1 0)) 33 (upd (upd (upd (upd f 0 0) 4 0) 1 0) 5 0)) 33 (upd (upd (upd (upd (upd f 0 0) 4 0) 1 0) 5 0) 2 0)) 33 (upd (upd (upd (upd (upd (upd f 0 0) 4 0) 1 0) 5 0) 2 0) 6 0)) 33 (upd (upd (upd (upd (upd (upd (upd f 0 0) 4 0) 1 0) 5 0) 2 0) 6 0) 3 0)) 33 (upd (upd (upd (upd (upd (upd (upd (upd f 0 0) 4 0) 1 0) 5 0) 2 0) 6 0) 3 0) 7 0)) I q_J0, 34, 31630))) 11 (fun _ _ => rfl) ?_
                      refine q_Ru_seg (g2 := (55, [(3, .int 11), (2, .int 4), (0, .ref 64), (1, .int 0)], [.int 0], (q_cM (q_uA (q_uA (q_uA (q_uA (q_uA (q_uA (q_uA (q_uA (q_uA q_AM 33 f) 33 (upd f 0 0)) 33 (upd (upd f 0 0) 4 0)) 33 (upd (upd (upd f 0 0) 4 0) 1 0)) 33 (upd (upd (upd (upd f 0 0) 4 0) 1 0) 5 0)) 33 (upd (upd (upd (upd (upd f 0 0) 4 0) 1 0) 5 0) 2 0)) 33 (upd (upd (upd (upd (upd (upd f 0 0) 4 0) 1 0) 5 0) 2 0) 6 0)) 33 (upd (upd (upd (upd (upd (upd (upd f 0 0) 4 0) 1 0) 5 0) 2 0) 6 0) 3 0)) 33 (upd (upd (upd (upd (upd (upd (upd (upd f 0 0) 4 0) 1 0) 5 0) 2 0) 6 0) 3 0) 7 0)) I q_J0, 34, 31630))) 11 (fun _ _ => rfl) ?_
                      refine q_Ru_seg (g2 := (55, [(3, .int 12), (2, .int 4), (0, .ref 64), (1, .int 0)], [.int 0], (q_cM (q_uA (q_uA (q_uA (q_uA (q_uA (q_uA (q_uA (q_uA (q_uA q_AM 33 f) 33 (upd f 0 0)) 33 (upd (upd f 0 0) 4 0)) 33 (upd (upd (upd f 0 0) 4 0) 1 0)) 33 (upd (upd (upd (upd f 0 0) 4 0) 1 0) 5 0)) 33 (upd (upd (upd (upd (upd f 0 0) 4 0) 1 0) 5 0) 2 0)) 33 (upd (upd (upd (upd (upd (upd f 0 0) 4 0) 1 0) 5 0) 2 0) 6 0)) 33 (upd (upd (upd (upd (upd (upd (upd f 0 0) 4 0) 1 0) 5 0) 2 0) 6 0) 3 0)) 33 (upd (upd (upd (upd (upd (upd (upd (upd f 0 0) 4 0) 1 0) 5 0) 2 0) 6 0) 3 0) 7 0)) I q_J0, 34, 31630))) 11 (fun _ _ => rfl) ?_
                      refine q_Ru_seg (g2 := (55, [(3, .int 13), (2, .int 4), (0, .ref 64), (1, .int 0)], [.int 0], (q_cM (q_uA (q_uA (q_uA (q_uA (q_uA (q_uA (q_uA (q_uA (q_uA q_AM 33 f) 33 (upd f 0 0)) 33 (upd (upd f 0 0) 4 0)) 33 (upd (upd (upd f 0 0) 4 0) 1 0)) 33 (upd (upd (upd (upd f 0 0) 4 0) 1 0) 5 0)) 33 (upd (upd (upd (upd (upd f 0 0) 4 0) 1 0) 5 0) 2 0)) 33 (upd (upd (upd (upd (upd (upd f 0 0) 4 0) 1 0) 5 0) 2 0) 6 0)) 33 (upd (upd (upd (upd (upd (upd (upd f 0 0) 4 0) 1 0) 5 0) 2 0) 6 0) 3 0)) 33 (upd (upd (upd (upd (upd (upd (upd (upd f 0 0) 4 0) 1 0) 5 0) 2 0) 6 0) 3 0) 7 0)) I q_J0, 34, 31630))) 11 (fun _ _ => rfl) ?_
                      refine q_Ru_seg (g2 := (55, [(3, .int 14), (2, .int 4), (0, .ref 64), (1, .int 0)], [.int 0], (q_cM (q_uA (q_uA (q_uA (q_uA (q_uA (q_uA (q_uA (q_uA (q_uA q_AM 33 f) 33 (upd f 0 0)) 33 (upd (upd f 0 0) 4 0)) 33 (upd (upd (upd f 0 0) 4 0) 1 0)) 33 (upd (upd (upd (upd f 0 0) 4 0) 1 0) 5 0)) 33 (upd (upd (upd (upd (upd f 0 0) 4 0) 1 0) 5 0) 2 0)) 33 (upd (upd (upd (upd (upd (upd f 0 0) 4 0) 1 0) 5 0) 2 0) 6 0)) 33 (upd (upd (upd (upd (upd (upd (upd f 0 0) 4 0) 1 0) 5 0) 2 0) 6 0) 3 0)) 33 (upd (upd (upd (upd (upd (upd (upd (upd f 0 0) 4 0) 1 0) 5 0) 2 0) 6 0) 3 0) 7 0)) I q_J0, 34, 31630))) 11 (fun _ _ => rfl) ?_
                      refine q_Ru_seg (g2 := (55, [(3, .int 15), (2, .int 4), (0, .ref 64), (1, .int 0)], [.int 0], (q_cM (q_uA (q_uA (q_uA (q_uA (q_uA (q_uA (q_uA (q_uA (q_uA q_AM 33 f) 33 (upd f 0 0)) 33 (upd (upd f 0 0) 4 0)) 33 (upd (upd (upd f 0 0) 4 0) 1 0)) 33 (upd (upd (upd (upd f 0 0) 4 0) 1 0) 5 0)) 33 (upd (upd (upd (upd (upd f 0 0) 4 0) 1 0) 5 0) 2 0)) 33 (upd (upd (upd (upd (upd (upd f 0 0) 4 0) 1 0) 5 0) 2 0) 6 0)) 33 (upd (upd (upd (upd (upd (upd (upd f 0 0) 4 0) 1 0) 5 0) 2 0) 6 0) 3 0)) 33 (upd (upd (upd (upd (upd (upd (upd (upd f 0 0) 4 0) 1 0) 5 0) 2 0) 6 0) 3 0) 7 0)) I q_J0, 34, 31630))) 11 (fun _ _ => rfl) ?_
                      refine q_Ru_seg (g2 := (55, [(3, .int 0), (2, .int 5), (0, .ref 64), (1, .int 0)], [.int 0], (q_cM (q_uA (q_uA (q_uA (q_uA (q_uA (q_uA (q_uA (q_uA (q_uA q_AM 33 f) 33 (upd f 0 0)) 33 (upd (upd f 0 0) 4 0)) 33 (upd (upd (upd f 0 0) 4 0) 1 0)) 33 (upd (upd (upd (upd f 0 0) 4 0) 1 0) 5 0)) 33 (upd (upd (upd (upd (upd f 0 0) 4 0) 1 0) 5 0) 2 0)) 33 (upd (upd (upd (upd (upd (upd f 0 0) 4 0) 1 0) 5 0) 2 0) 6 0)) 33 (upd (upd (upd (upd (upd (upd (upd f 0 0) 4 0) 1 0) 5 0) 2 0) 6 0) 3 0)) 33 (upd (upd (upd (upd (upd (upd (upd (upd f 0 0) 4 0) 1 0) 5 0) 2 0) 6 0) 3 0) 7 0)) I q_J0, 34, 31630))) 21 (fun _ _ => rfl) ?_
                      refine q_Ru_seg (g2 := (55, [(3, .int 1), (2, .int 5), (0, .ref 64), (1, .int 0)], [.int 0], (q_cM (q_uA (q_uA (q_uA (q_uA (q_uA (q_uA (q_uA (q_uA (q_uA q_AM 33 f) 33 (upd f 0 0)) 33 (upd (upd f 0 0) 4 0)) 33 (upd (upd (upd f 0 0) 4 0) 1 0)) 33 (upd (upd (upd (upd f 0 0) 4 0) 1 0) 5 0)) 33 (upd (upd (upd (upd (upd f 0 0) 4 0) 1 0) 5 0) 2 0)) 33 (upd (upd (upd (upd (upd (upd f 0 0) 4 0) 1 0) 5 0) 2 0) 6 0)) 33 (upd (upd (upd (upd (upd (upd (upd f 0 0) 4 0) 1 0) 5 0) 2 0) 6 0) 3 0)) 33 (upd (upd (upd (upd (upd (upd (upd (upd f 0 0) 4 0) 1 0) 5 0) 2 0) 6 0) 3 0) 7 0)) I q_J0, 34, 31630))) 11 (fun _ _ => rfl) ?_
                      refine q_Ru_seg (g2 := (55, [(3, .int 2), (2, .int 5), (0, .ref 64), (1, .int 0)], [.int 0], (q_cM (q_uA (q_uA (q_uA (q_uA (q_uA (q_uA (q_uA (q_uA (q_uA q_AM 33 f) 33 (upd f 0 0)) 33 (upd (upd f 0 0) 4 0)) 33 (upd (upd (upd f 0 0) 4 0) 1 0)) 33 (upd (upd (upd (upd f 0 0) 4 0) 1 0) 5 0)) 33 (upd (upd (upd (upd (upd f 0 0) 4 0) 1 0) 5 0) 2 0)) 33 (upd (upd (upd (upd (upd (upd f 0 0) 4 0) 1 0) 5 0) 2 0) 6 0)) 33 (upd (upd (upd (upd (upd (upd (upd f 0 0) 4 0) 1 0) 5 0) 2 0) 6 0) 3 0)) 33 (upd (upd (upd (upd (upd (upd (upd (upd f 0 0) 4 0) 1 0) 5 0) 2 0) 6 0) 3 0) 7 0)) I q_J0, 34, 31630))) 11 (fun _ _ => rfl) ?_
                      refine q_Ru_seg (g2 := (55, [(3, .int 3), (2, .int 5), (0, .ref 64), (1, .int 0)], [.int 0], (q_cM (q_uA (q_uA (q_uA (q_uA (q_uA (q_uA (q_uA (q_uA (q_uA q_AM 33 f) 33 (upd f 0 0)) 33 (upd (upd f 0 0) 4 0)) 33 (upd (upd (upd f 0 0) 4 0) 1 0)) 33 (upd (upd (upd (upd f 0 0) 4 0) 1 0) 5 0)) 33 (upd (upd (upd (upd (upd f 0 0) 4 0) 1 0) 5 0) 2 0)) 33 (upd (upd (upd (upd (upd (upd f 0 0) 4 0) 1 0) 5 0) 2 0) 6 0)) 33 (upd (upd (upd (upd (upd (upd (upd f 0 0) 4 0) 1 0) 5 0) 2 0) 6 0) 3 0)) 33 (upd (upd (upd (upd (upd (upd (upd (upd f 0 0) 4 0) 1 0) 5 0) 2 0) 6 0) 3 0) 7 0)) I q_J0, 34, 31630))) 11 (fun _ _ => rfl) ?_
                      refine q_Ru_seg (g2 := (55, [(3, .int 4), (2, .int 5), (0, .ref 64), (1, .int 0)], [.int 0], (q_cM (q_uA (q_uA (q_uA (q_uA (q_uA (q_uA (q_uA (q_uA (q_uA q_AM 33 f) 33 (upd f 0 0)) 33 (upd (upd f 0 0) 4 0)) 33 (upd (upd (upd f 0 0) 4 0) 1 0)) 33 (upd (upd (upd (upd f 0 0) 4 0) 1 0) 5 0)) 33 (upd (upd (upd (upd (upd f 0 0) 4 0) 1 0) 5 0) 2 0)) 33 (upd (upd (upd (upd (upd (upd f 0 0) 4 0) 1 0) 5 0) 2 0) 6 0)) 33 (upd (upd (upd (upd (upd (upd (upd f 0 0) 4 0) 1 0) 5 0) 2 0) 6 0) 3 0)) 33 (upd (upd (upd (upd (upd (upd (upd (upd f 0 0) 4 0) 1 0) 5 0) 2 0) 6 0) 3 0) 7 0)) I q_J0, 34, 31630))) 11 (fun _ _ => rfl) ?_
                      refine q_Ru_seg (g2 := (55, [(3, .int 5), (2, .int 5), (0, .ref 64), (1, .int 0)], [.int 0], (q_cM (q_uA (q_uA (q_uA (q_uA (q_uA (q_uA (q_uA (q_uA (q_uA q_AM 33 f) 33 (upd f 0 0)) 33 (upd (upd f 0 0) 4 0)) 33 (upd (upd (upd f 0 0) 4 0) 1 0)) 33 (upd (upd (upd (upd f 0 0) 4 0) 1 0) 5 0)) 33 (upd (upd (upd (upd (upd f 0 0) 4 0) 1 0) 5 0) 2 0)) 33 (upd (upd (upd (upd (upd (upd f 0 0) 4 0) 1 0) 5 0) 2 0) 6 0)) 33 (upd (upd (upd (upd (upd (upd (upd f 0 0) 4 0) 1 0) 5 0) 2 0) 6 0) 3 0)) 33 (upd (upd (upd (upd (upd (upd (upd (upd f 0 0) 4 0) 1 0) 5 0) 2 0) 6 0) 3 0) 7 0)) I q_J0, 34, 31630))) 11 (fun _ _ => rfl) ?_
                      refine q_Ru_seg (g2 := (55, [(3, .int 6), (2, .int 5), (0, .ref 64), (1, .int 0)], [.int 0], (q_cM (q_uA (q_uA (q_uA (q_uA (q_uA (q_uA (q_uA (q_uA (q_uA q_AM 33 f) 33 (upd f 0 0)) 33 (upd (upd f 0 0) 4 0)) 33 (upd (upd (upd f 0 0) 4 0) 1 0)) 33 (upd (upd (upd (upd f 0 0) 4 0) 1 0) 5 0)) 33 (upd (upd (upd (upd (upd f 0 0) 4 0) 1 0) 5 0) 2 0)) 33 (upd (upd (upd (upd (upd (upd f 0 0) 4 0) 1 0) 5 0) 2 0) 6 0)) 33 (upd (upd (upd (upd (upd (upd (upd f 0 0) 4 0) 1 0) 5 0) 2 0) 6 0) 3 0)) 33 (upd (upd (upd (upd (upd (upd (upd (upd f 0 0) 4 0) 1 0) 5 0) 2 0) 6 0) 3 0) 7 0)) I q_J0, 34, 31630))) 11 (fun _ _ => rfl) ?_
                      refine q_Ru_seg (g2 := (55, [(3, .int 7), (2, .int 5), (0, .ref 64), (1, .int 0)], [.int 0], (q_cM (q_uA (q_uA (q_uA (q_uA (q_uA (q_uA (q_uA (q_uA (q_uA q_AM 33 f) 33 (upd f 0 0)) 33 (upd (upd f 0 0) 4 0)) 33 (upd (upd (upd f 0 0) 4 0) 1 0)) 33 (upd (upd (upd (upd f 0 0) 4 0) 1 0) 5 0)) 33 (upd (upd (upd (upd (upd f 0 0) 4 0) 1 0) 5 0) 2 0)) 33 (upd (upd (upd (upd (upd (upd f 0 0) 4 0) 1 0) 5 0) 2 0) 6 0)) 33 (upd (upd (upd (upd (upd (upd (upd f 0 0) 4 0) 1 0) 5 0) 2 0) 6 0) 3 0)) 33 (upd (upd (upd (upd (upd (upd (upd (upd f 0 0) 4 0) 1 0) 5 0) 2 0) 6 0) 3 0) 7 0)) I q_J0, 34, 31630))) 11 (fun _ _ => rfl) ?_
                      refine q_Ru_seg (g2 := (55, [(3, .int 8), (2, .int 5), (0, .ref 64), (1, .int 0)], [.int 0], (q_cM (q_uA (q_uA (q_uA (q_uA (q_uA (q_uA (q_uA (q_uA (q_uA q_AM 33 f) 33 (upd f 0 0)) 33 (upd (upd f 0 0) 4 0)) 33 (upd (upd (upd f 0 0) 4 0) 1 0)) 33 (upd (upd (upd (upd f 0 0) 4 0) 1 0) 5 0)) 33 (upd (upd (upd (upd (upd f 0 0) 4 0) 1 0) 5 0) 2 0)) 33 (upd (upd (upd (upd (upd (upd f 0 0) 4 0) 1 0) 5 0) 2 0) 6 0)) 33 (upd (upd (upd (upd (upd (upd (upd f 0 0) 4 0) 1 0) 5 0) 2 0) 6 0) 3 0)) 33 (upd (upd (upd (upd (upd (upd (upd (upd f 0 0) 4 0) 1 0) 5 0) 2 0) 6 0) 3 0) 7 0)) I q_J0, 34, 31630))) 11 (fun _ _ => rfl) ?_
                      refine q_Ru_seg (g2 := (55, [(3, .int 9), (2, .int 5), (0, .ref 64), (1, .int 0)], [.int 0], (q_cM (q_uA (q_uA (q_uA (q_uA (q_uA (q_uA (q_uA (q_uA (q_uA q_AM 33 f) 33 (upd f 0 0)) 33 (upd (upd f 0 0) 4 0)) 33 (upd (upd (upd f 0 0) 4 0) 1 0)) 33 (upd (upd (upd (upd f 0 0) 4 0) 1 0) 5 0)) 33 (upd (upd (upd (upd (upd f 0 0) 4 0) 1 0) 5 0) 2 0)) 33 (upd (upd (upd (upd (upd (upd f 0 0) 4 0) 1 0) 5 0) 2 0) 6 0)) 33 (upd (upd (upd (upd (upd (upd (upd f 0 0) 4 0) 1 0) 5 0) 2 0) 6 0) 3 0)) 33 (upd (upd (upd (upd (upd (upd (upd (upd f 0 0) 4 0) 1 0) 5 0) 2 0) 6 0) 3 0) 7 0)) I q_J0, 34, 31630))) 11 (fun _ _ => rfl) ?_
                      refine q_Ru_seg (g2 := (55, [(3, .int 10), (2, .int 5), (0, .ref 64), (1, .int 0)], [.int 0], (q_cM (q_uA (q_uA (q_uA (q_uA (q_uA (q_uA (q_uA (q_uA (q_uA q_AM 33 f) 33 (upd f 0 0)) 33 (upd (upd f 0 0) 4 0)) 33 (upd (upd (upd f 0 0) 4 0) 1 0)) 33 (upd (upd (upd (upd f 0 0) 4 0) 1 0) 5 0)) 33 (upd (upd (upd (upd (upd f 0 0) 4 0) 1 0) 5 0) 2 0)) 33 (upd (upd (upd (upd (upd (upd f 0 0) 4 0) 1 0) 5 0) 2 0) 6 0)) 33 (upd (upd (upd (upd (upd (upd (upd f 0 0) 4 0) 1 0) 5 0) 2 0) 6 0) 3 0)) 33 (upd (upd (upd (upd (upd (upd (upd (upd f 0 0) 4 0) 1 0) 5 0) 2 0) 6 0) 3 0) 7 0)) I q_J0, 34, 31630))) 11 (fun _ _ => rfl) ?_
                      refine q_Ru_seg (g2 := (55, [(3, .int 11), (2, .int 5), (0, .ref 64), (1, .int 0)], [.int 0], (q_cM (q_uA (q_uA (q_uA (q_uA (q_uA (q_uA (q_uA (q_uA (q_uA q_AM 33 f) 33 (upd f 0 0)) 33 (upd (upd f 0 0) 4 0)) 33 (upd (upd (upd f 0 0) 4 0) 1 0)) 33 (upd (upd (upd (upd f 0 0) 4 0) 1 0) 5 0)) 33 (upd (upd (upd (upd (upd f 0 0) 4 0) 1 0) 5 0) 2 0)) 33 (upd (upd (upd (upd (upd (upd f 0 0) 4 0) 1 0) 5 0) 2 0) 6 0)) 33 (upd (upd (upd (upd (upd (upd (upd f 0 0) 4 0) 1 0) 5 0) 2 0) 6 0) 3 0)) 33 (upd (upd (upd (upd (upd (upd (upd (upd f 0 0) 4 0) 1 0) 5 0) 2 0) 6 0) 3 0) 7 0)) I q_J0, 34, 31630))) 11 (fun _ _ => rfl) ?_
                      refine q_Ru_seg (g2 := (55, [(3, .int 12), (2, .int 5), (0, .ref 64), (1, .int 0)], [.int 0], (q_cM (q_uA (q_uA (q_uA (q_uA (q_uA (q_uA (q_uA (q_uA (q_uA q_AM 33 f) 33 (upd f 0 0)) 33 (upd (upd f 0 0) 4 0)) 33 (upd (upd (upd f 0 0) 4 0) 1 0)) 33 (upd (upd (upd (upd f 0 0) 4 0) 1 0) 5 0)) 33 (upd (upd (upd (upd (upd f 0 0) 4 0) 1 0) 5 0) 2 0)) 33 (upd (upd (upd (upd (upd (upd f 0 0) 4 0) 1 0) 5 0) 2 0) 6 0)) 33 (upd (upd (upd (upd (upd (upd (upd f 0 0) 4 0) 1 0) 5 0) 2 0) 6 0) 3 0)) 33 (upd (upd (upd (upd (upd (upd (upd (upd f 0 0) 4 0) 1 0) 5 0) 2 0) 6 0) 3 0) 7 0)) I q_J0, 34, 31630))) 11 (fun _ _ => rfl) ?_
                      refine q_Ru_seg (g2 := (55, [(3, .int 13), (2, .int 5), (0, .ref 64), (1, .int 0)], [.int 0], (q_cM (q_uA (q_uA (q_uA (q_uA (q_uA (q_uA (q_uA (q_uA (q_uA q_AM 33 f) 33 (upd f 0 0)) 33 (upd (upd f 0 0) 4 0)) 33 (upd (upd (upd f 0 0) 4 0) 1 0)) 33 (upd (upd (upd (upd f 0 0) 4 0) 1 0) 5 0)) 33 (upd (upd (upd (upd (upd f 0 0) 4 0) 1 0) 5 0) 2 0)) 33 (upd (upd (upd (upd (upd (upd f 0 0) 4 0) 1 0) 5 0) 2 0) 6 0)) 33 (upd (upd (upd (upd (upd (upd (upd f 0 0) 4 0) 1 0) 5 0) 2 0) 6 0) 3 0)) 33 (upd (upd (upd (upd (upd (upd (upd (upd f 0 0) 4 0) 1 0) 5 0) 2 0) 6 0) 3 0) 7 0)) I q_J0, 34, 31630))) 11 (fun _ _ => rfl) ?_
                      refine q_Ru_seg (g2 := (55, [(3, .int 14), (2, .int 5), (0, .ref 64), (1, .int 0)], [.int 0], (q_cM (q_uA (q_uA (q_uA (q_uA (q_uA (q_uA (q_uA (q_uA (q_uA q_AM 33 f) 33 (upd f 0 0)) 33 (upd (upd f 0 0) 4 0)) 33 (upd (upd (upd f 0 0) 4 0) 1 0)) 33 (upd (upd (upd (upd f 0 0) 4 0) 1 0) 5 0)) 33 (upd (upd (upd (upd (upd f 0 0) 4 0) 1 0) 5 0) 2 0)) 33 (upd (upd (upd (upd (upd (upd f 0 0) 4 0) 1 0) 5 0) 2 0) 6 0)) 33 (upd (upd (upd (upd (upd (upd (upd f 0 0) 4 0) 1 0) 5 0) 2 0) 6 0) 3 0)) 33 (upd (upd (upd (upd (upd (upd (upd (upd f 0 0) 4 0) 1 0) 5 0) 2 0) 6 0) 3 0) 7 0)) I q_J0, 34, 31630))) 11 (fun _ _ => rfl) ?_
                      refine q_Ru_seg (g2 := (55, [(3, .int 15), (2, .int 5), (0, .ref 64), (1, .int 0)], [.int 0], (q_cM (q_uA (q_uA (q_uA (q_uA (q_uA (q_uA (q_uA (q_uA (q_uA q_AM 33 f) 33 (upd f 0 0)) 33 (upd (upd f 0 0) 4 0)) 33 (upd (upd (upd f 0 0) 4 0) 1 0)) 33 (upd (upd (upd (upd f 0 0) 4 0) 1 0) 5 0)) 33 (upd (upd (upd (upd (upd f 0 0) 4 0) 1 0) 5 0) 2 0)) 33 (upd (upd (upd (upd (upd (upd f 0 0) 4 0) 1 0) 5 0) 2 0) 6 0)) 33 (upd (upd (upd (upd (upd (upd (upd f 0 0) 4 0) 1 0) 5 0) 2 0) 6 0) 3 0)) 33 (upd (upd (upd (upd (upd (upd (upd (upd f 0 0) 4 0) 1 0) 5 0) 2 0) 6 0) 3 0) 7 0)) I q_J0, 34, 31630))) 11 (fun _ _ => rfl) ?_
                      refine q_Ru_seg (g2 := (55, [(3, .int 0), (2, .int 6), (0, .ref 64), (1, .int 0)], [.int 0], (q_cM (q_uA (q_uA (q_uA (q_uA (q_uA (q_uA (q_uA (q_uA (q_uA q_AM 33 f) 33 (upd f 0 0)) 33 (upd (upd f 0 0) 4 0)) 33 (upd (upd (upd f 0 0) 4 0) 1 0)) 33 (upd (upd (upd (upd f 0 0) 4 0) 1 0) 5 0)) 33 (upd (upd (upd (upd (upd f 0 0) 4 0) 1 0) 5 0) 2 0)) 33 (upd (upd (upd (upd (upd (upd f 0 0) 4 0) 1 0) 5 0) 2 0) 6 0)) 33 (upd (upd (upd (upd (upd (upd (upd f 0 0) 4 0) 1 0) 5 0) 2 0) 6 0) 3 0)) 33 (upd (upd (upd (upd (upd (upd (upd (upd f 0 0) 4 0) 1 0) 5 0) 2 0) 6 0) 3 0) 7 0)) I q_J0, 34, 31630))) 21 (fun _ _ => rfl) ?_
                      refine q_Ru_seg (g2 := (55, [(3, .int 1), (2, .int 6), (0, .ref 64), (1, .int 0)], [.int 0], (q_cM (q_uA (q_uA (q_uA (q_uA (q_uA (q_uA (q_uA (q_uA (q_uA q_AM 33 f) 33 (upd f 0 0)) 33 (upd (upd f 0 0) 4 0)) 33 (upd (upd (upd f 0 0) 4 0) 1 0)) 33 (upd (upd (upd (upd f 0 0) 4 0) 1 0) 5 0)) 33 (upd (upd (upd (upd (upd f 0 0) 4 0) 1 0) 5 0) 2 0)) 33 (upd (upd (upd (upd (upd (upd f 0 0) 4 0) 1 0) 5 0) 2 0) 6 0)) 33 (upd (upd (upd (upd (upd (upd (upd f 0 0) 4 0) 1 0) 5 0) 2 0) 6 0) 3 0)) 33 (upd (upd (upd (upd (upd (upd (upd (upd f 0 0) 4 0) 1 0) 5 0) 2 0) 6 0) 3 0) 7 0)) I q_J0, 34, 31630))) 11 (fun _ _ => rfl) ?_
                      refine q_Ru_seg (g2 := (55, [(3, .int 2), (2, .int 6), (0, .ref 64), (1, .int 0)], [.int 0], (q_cM (q_uA (q_uA (q_uA (q_uA (q_uA (q_uA (q_uA (q_uA (q_uA q_AM 33 f) 33 (upd f 0 0)) 33 (upd (upd f 0 0) 4 0)) 33 (upd (upd (upd f 0 0) 4 0) 1 0)) 33 (upd (upd (upd (upd f 0 0) 4 0) 1 0) 5 0)) 33 (upd (upd (upd (upd (upd f 0 0) 4 0) 1 0) 5 0) 2 0)) 33 (upd (upd (upd (upd (upd (upd f 0 0) 4 0) 1 0) 5 0) 2 0) 6 0)) 33 (upd (upd (upd (upd (upd (upd (upd f 0 0) 4 0) 1 0) 5 0) 2 0) 6 0) 3 0)) 33 (upd (upd (upd (upd (upd (upd (upd (upd f 0 0) 4 0) 1 0) 5 0) 2 0) 6 0) 3 0) 7 0)) I q_J0, 34, 31630))) 11 (fun _ _ => rfl) ?_
                      refine q_Ru_seg (g2 := (55, [(3, .int 3), (2, .int 6), (0, .ref 64), (1, .int 0)], [.int 0], (q_cM (q_uA (q_uA (q_uA (q_uA (q_uA (q_uA (q_uA (q_uA (q_uA q_AM 33 f) 33 (upd f 0 0)) 33 (upd (upd f 0 0) 4 0)) 33 (upd (upd (upd f 0 0) 4 0) 1 0)) 33 (upd (upd (upd (upd f 0 0) 4 0) 1 0) 5 0)) 33 (upd (upd (upd (upd (upd f 0 0) 4 0) 1 0) 5 0) 2 0)) 33 (upd (upd (upd (upd (upd (upd f 0 0) 4 0) 1 0) 5 0) 2 0) 6 0)) 33 (upd (upd (upd (upd (upd (upd (upd f 0 0) 4 0) 1 0) 5 0) 2 0) 6 0) 3 0)) 33 (upd (upd (upd (upd (upd (upd (upd (upd f 0 0) 4 0) 1 0) 5 0) 2 0) 6 0) 3 0) 7 0)) I q_J0, 34, 31630))) 11 (fun _ _ => rfl) ?_
                      refine q_Ru_seg (g2 := (55, [(3, .int 4), (2, .int 6), (0, .ref 64), (1, .int 0)], [.int 0], (q_cM (q_uA (q_uA (q_uA (q_uA (q_uA (q_uA (q_uA (q_uA (q_uA q_AM 33 f) 33 (upd f 0 0)) 33 (upd (upd f 0 0) 4 0)) 33 (upd (upd (upd f 0 0) 4 0) 1 0)) 33 (upd (upd (upd (upd f 0 0) 4 0) 1 0) 5 0)) 33 (upd (upd (upd (upd (upd f 0 0) 4 0) 1 0) 5 0) 2 0)) 33 (upd (upd (upd (upd (upd (upd f 0 0) 4 0) 1 0) 5 0) 2 0) 6 0)) 33 (upd (upd (upd (upd (upd (upd (upd f 0 0) 4 0) 1 0) 5 0) 2 0) 6 0) 3 0)) 33 (upd (upd (upd (upd (upd (upd (upd (upd f 0 0) 4 0) 1 0) 5 0) 2 0) 6 0) 3 0) 7 0)) I q_J0, 34, 31630))) 11 (fun _ _ => rfl) ?_
                      refine q_Ru_seg (g2 := (55, [(3, .int 5), (2, .int 6), (0, .ref 64), (1, .int 0)], [.int 0], (q_cM (q_uA (q_uA (q_uA (q_uA (q_uA (q_uA (q_uA (q_uA (q_uA q_AM 33 f) 33 (upd f 0 0)) 33 (upd (upd f 0 0) 4 0)) 33 (upd (upd (upd f 0 0) 4 0) 1 0)) 33 (upd (upd (upd (upd f 0 0) 4 0) 1 0) 5 0)) 33 (upd (upd (upd (upd (upd f 0 0) 4 0) 1 0) 5 0) 2 0)) 33 (upd (upd (upd (upd (upd (upd f 0 0) 4 0) 1 0) 5 0) 2 0) 6 0)) 33 (upd (upd (upd (upd (upd (upd (upd f 0 0) 4 0) 1 0) 5 0) 2 0) 6 0) 3 0)) 33 (upd (upd (upd (upd (upd (upd (upd (upd f 0 0) 4 0) 1 0) 5 0) 2 0) 6 0) 3 0) 7 0)) I q_J0, 34, 31630))) 11 (fun _ _ => rfl) ?_
                      refine q_Ru_seg (g2 := (55, [(3, .int 6), (2, .int 6), (0, .ref 64), (1, .int 0)], [.int 0], (q_cM (q_uA (q_uA (q_uA (q_uA (q_uA (q_uA (q_uA (q_uA (q_uA q_AM 33 f) 33 (upd f 0 0)) 33 (upd (upd f 0 0) 4 0)) 33 (upd (upd (upd f 0 0) 4 0) 1 0)) 33 (upd (upd (upd (upd f 0 0) 4 0) 1 0) 5 0)) 33 (upd (upd (upd (upd (upd f 0 0) 4 0) 1 0) 5 0) 2 0)) 33 (upd (upd (upd (upd (upd (upd f 0 0) 4 0) 1 0) 5 0) 2 0) 6 0)) 33 (upd (upd (upd (upd (upd (upd (upd f 0 0) 4 0) 1 0) 5 0) 2 0) 6 0) 3 0)) 33 (upd (upd (upd (upd (upd (upd (upd (upd f 0 0) 4 0) 1 0) 5 0) 2 0) 6 0) 3 0) 7 0)) I q_J0, 34, 31630))) 11 (fun _ _ => rfl) ?_
                      refine q_Ru_seg (g2 := (55, [(3, .int 7), (2, .int 6), (0, .ref 64), (1, .int 0)], [.int 0], (q_cM (q_uA (q_uA (q_uA (q_uA (q_uA (q_uA (q_uA (q_uA (q_uA q_AM 33 f) 33 (upd f 0 0)) 33 (upd (upd f 0 0) 4 0)) 33 (upd (upd (upd f 0 0) 4 0) 1 0)) 33 (upd (upd (upd (upd f 0 0) 4 0) 1 0) 5 0)) 33 (upd (upd (upd (upd (upd f 0 0) 4 0) 1 0) 5 0) 2 0)) 33 (upd (upd (upd (upd (upd (upd f 0 0) 4 0) 1 0) 5 0) 2 0) 6 0)) 33 (upd (upd (upd (upd (upd (upd (upd f 0 0) 4 0) 1 0) 5 0) 2 0) 6 0) 3 0)) 33 (upd (upd (upd (upd (upd (upd (upd (upd f 0 0) 4 0) 1 0) 5 0) 2 0) 6 0) 3 0) 7 0)) I q_J0, 34, 31630))) 11 (fun _ _ => rfl) ?_
                      refine q_Ru_seg (g2 := (55, [(3, .int 8), (2, .int 6), (0, .ref 64), (1, .int 0)], [.int 0], (q_cM (q_uA (q_uA (q_uA (q_uA (q_uA (q_uA (q_uA (q_uA (q_uA q_AM 33 f) 33 (upd f 0 0)) 33 (upd (upd f 0 0) 4 0)) 33 (upd (upd (upd f 0 0) 4 0) 1 0)) 33 (upd (upd (upd (upd f 0 0) 4 0) 1 0) 5 0)) 33 (upd (upd (upd (upd (upd f 0 0) 4 0) 1 0) 5 0) 2 0)) 33 (upd (upd (upd (upd (upd (upd f 0 0) 4 0) 1 0) 5 0) 2 0) 6 0)) 33 (upd (upd (upd (upd (upd (upd (upd f 0 0) 4 0) 1 0) 5 0) 2 0) 6 0) 3 0)) 33 (upd (upd (upd (upd (upd (upd (upd (upd f 0 0) 4 0) 1 0) 5 0) 2 0) 6 0) 3 0) 7 0)) I q_J0, 34, 31630))) 11 (fun _ _ => rfl) ?_
                      refine q_Ru_seg (g2 := (55, [(3, .int 9), (2, .int 6), (0, .ref 64), (1, .int 0)], [.int 0], (q_cM (q_uA (q_uA (q_uA (q_uA (q_uA (q_uA (q_uA (q_uA (q_uA q_AM 33 f) 33 (upd f 0 0)) 33 (upd (upd f 0 0) 4 0)) 33 (upd (upd (upd f 0 0) 4 0) 1 0)) 33 (upd (upd (upd (upd f 0 0) 4 0) 1 0) 5 0)) 33 (upd (upd (upd (upd (upd f 0 0) 4 0) 1 0) 5 0) 2 0)) 33 (upd (upd (upd (upd (upd (upd f 0 0) 4 0) 1 0) 5 0) 2 0) 6 0)) 33 (upd (upd (upd (upd (upd (upd (upd f 0 0) 4 0) 1 0) 5 0) 2 0) 6 0) 3 0)) 33 (upd (upd (upd (upd (upd (upd (upd (upd f 0 0) 4 0) 1 0) 5 0) 2 0) 6 0) 3 0) 7 0)) I q_J0, 34, 31630))) 11 (fun _ _ => rfl) ?_
                      refine q_Ru_seg (g2 := (55, [(3, .int 10), (2, .int 6), (0, .ref 64), (1, .int 0)], [.int 0], (q_cM (q_uA (q_uA (q_uA (q_uA (q_uA (q_uA (q_uA (q_uA (q_uA q_AM 33 f) 33 (upd f 0 0)) 33 (upd (upd f 0 0) 4 0)) 33 (upd (upd (upd f 0 0) 4 0) 1 0)) 33 (upd (upd (upd (upd f 0 0) 4 0) 1 0) 5 0)) 33 (upd (upd (upd (upd (upd f 0 0) 4 0) 1 0) 5 0) 2 0)) 33 (upd (upd (upd (upd (upd (upd f 0 0) 4 0) 1 0) 5 0) 2 0) 6 0)) 33 (upd (upd (upd (upd (upd (upd (upd f 0 0) 4 0) 1 0) 5 0) 2 0) 6 0) 3 0)) 33 (upd (upd (upd (upd (upd (upd (upd (upd f 0 0) 4 0) 1 0) 5 0) 2 0) 6 0) 3 0) 7 0)) I q_J0, 34, 31630))) 11 (fun _ _ => rfl) ?_
                      refine q_Ru_seg (g2 := (55, [(3, .int 11), (2, .int 6), (0, .ref 64), (1, .int 0)], [.int 0], (q_cM (q_uA (q_uA (q_uA (q_uA (q_uA (q_uA (q_uA (q_uA (q_uA q_AM 33 f) 33 (upd f 0 0)) 33 (upd (upd f 0 0) 4 0)) 33 (upd (upd (upd f 0 0) 4 0) 1 0)) 33 (upd (upd (upd (upd f 0 0) 4 0) 1 0) 5 0)) 33 (upd (upd (upd (upd (upd f 0 0) 4 0) 1 0) 5 0) 2 0)) 33 (upd (upd (upd (upd (upd (upd f 0 0) 4 0) 1 0) 5 0) 2 0) 6 0)) 33 (upd (upd (upd (upd (upd (upd (upd f 0 0) 4 0) 1 0) 5 0) 2 0) 6 0) 3 0)) 33 (upd (upd (upd (upd (upd (upd (upd (upd f 0 0) 4 0) 1 0) 5 0) 2 0) 6 0) 3 0) 7 0)) I q_J0, 34, 31630))) 11 (fun _ _ => rfl) ?_
                      refine q_Ru_seg (g2 := (55, [(3, .int 12), (2, .int 6), (0, .ref 64), (1, .int 0)], [.int 0], (q_cM (q_uA (q_uA (q_uA (q_uA (q_uA (q_uA (q_uA (q_uA (q_uA q_AM 33 f) 33 (upd f 0 0)) 33 (upd (upd f 0 0) 4 0)) 33 (upd (upd (upd f 0 0) 4 0) 1 0)) 33 (upd (upd (upd (upd f 0 0) 4 0) 1 0) 5 0)) 33 (upd (upd (upd (upd (upd f 0 0) 4 0) 1 0) 5 0) 2 0)) 33 (upd (upd (upd (upd (upd (upd f 0 0) 4 0) 1 0) 5 0) 2 0) 6 0)) 33 (upd (upd (upd (upd (upd (upd (upd f 0 0) 4 0) 1 0) 5 0) 2 0) 6 0) 3 0)) 33 (upd (upd (upd (upd (upd (upd (upd (upd f 0 0) 4 0) 1 0) 5 0) 2 0) 6 0) 3 0) 7 0)) I q_J0, 34, 31630))) 11 (fun _ _ => rfl) ?_
                      refine q_Ru_seg (g2 := (55, [(3, .int 13), (2, .int 6), (0, .ref 64), (1, .int 0)], [.int 0], (q_cM (q_uA (q_uA (q_uA (q_uA (q_uA (q_uA (q_uA (q_uA (q_uA q_AM 33 f) 33 (upd f 0 0)) 33 (upd (upd f 0 0) 4 0)) 33 (upd (upd (upd f 0 0) 4 0) 1 0)) 33 (upd (upd (upd (upd f 0 0) 4 0) 1 0) 5 0)) 33 (upd (upd (upd (upd (upd f 0 0) 4 0) 1 0) 5 0) 2 0)) 33 (upd (upd (upd (upd (upd (upd f 0 0) 4 0) 1 0) 5 0) 2 0) 6 0)) 33 (upd (upd (upd (upd (upd (upd (upd f 0 0) 4 0) 1 0) 5 0) 2 0) 6 0) 3 0)) 33 (upd (upd (upd (upd (upd (upd (upd (upd f 0 0) 4 0) 1 0) 5 0) 2 0) 6 0) 3 0) 7 0)) I q_J0, 34, 31630))) 11 (fun _ _ => rfl) ?_
                      refine q_Ru_seg (g2 := (55, [(3, .int 14), (2, .int 6), (0, .ref 64), (1, .int 0)], [.int 0], (q_cM (q_uA (q_uA (q_uA (q_uA (q_uA (q_uA (q_uA (q_uA (q_uA q_AM 33 f) 33 (upd f 0 0)) 33 (upd (upd f 0 0) 4 0)) 33 (upd (upd (upd f 0 0) 4 0) 1 0)) 33 (upd (upd (upd (upd f 0 0) 4 0) 1 0) 5 0)) 33 (upd (upd (upd (upd (upd f 0 0) 4 0) 1 0) 5 0) 2 0)) 33 (upd (upd (upd (upd (upd (upd f 0 0) 4 0) 1 0) 5 0) 2 0) 6 0)) 33 (upd (upd (upd (upd (upd (upd (upd f 0 0) 4 0) 1 0) 5 0) 2 0) 6 0) 3 0)) 33 (upd (upd (upd (upd (upd (upd (upd (upd f 0 0) 4 0) 1 0) 5 0) 2 0) 6 0) 3 0) 7 0)) I q_J0, 34, 31630))) 11 (fun _ _ => rfl) ?_
                      refine q_Ru_seg (g2 := (55, [(3, .int 15), (2, .int 6), (0, .ref 64), (1, .int 0)], [.int 0], (q_cM (q_uA (q_uA (q_uA (q_uA (q_uA (q_uA (q_uA (q_uA (q_uA q_AM 33 f) 33 (upd f 0 0)) 33 (upd (upd f 0 0) 4 0)) 33 (upd (upd (upd f 0 0) 4 0) 1 0)) 33 (upd (upd (upd (upd f 0 0) 4 0) 1 0) 5 0)) 33 (upd (upd (upd (upd (upd f 0 0) 4 0) 1 0) 5 0) 2 0)) 33 (upd (upd (upd (upd (upd (upd f 0 0) 4 0) 1 0) 5 0) 2 0) 6 0)) 33 (upd (upd (upd (upd (upd (upd (upd f 0 0) 4 0) 1 0) 5 0) 2 0) 6 0) 3 0)) 33 (upd (upd (upd (upd (upd (upd (upd (upd f 0 0) 4 0) 1 0) 5 0) 2 0) 6 0) 3 0) 7 0)) I q_J0, 34, 31630))) 11 (fun _ _ => rfl) ?_
                      refine q_Ru_seg (g2 := (55, [(3, .int 0), (2, .int 7), (0, .ref 64), (1, .int 0)], [.int 0], (q_cM (q_uA (q_uA (q_uA (q_uA (q_uA (q_uA (q_uA (q_uA (q_uA q_AM 33 f) 33 (upd f 0 0)) 33 (upd (upd f 0 0) 4 0)) 33 (upd (upd (upd f 0 0) 4 0) 1 0)) 33 (upd (upd (upd (upd f 0 0) 4 0) 1 0) 5 0)) 33 (upd (upd (upd (upd (upd f 0 0) 4 0) 1 0) 5 0) 2 0)) 33 (upd (upd (upd (upd (upd (upd f 0 0) 4 0) 1 0) 5 0) 2 0) 6 0)) 33 (upd (upd (upd (upd (upd (upd (upd f 0 0) 4 0) 1 0) 5 0) 2 0) 6 0) 3 0)) 33 (upd (upd (upd (upd (upd (upd (upd (upd f 0 0) 4 0) 1 0) 5 0) 2 0) 6 0) 3 0) 7 0)) I q_J0, 34, 31630))) 21 (fun _ _ => rfl) ?_
                      refine q_Ru_seg (g2 := (55, [(3, .int 1), (2, .int 7), (0, .ref 64), (1, .int 0)], [.int 0], (q_cM (q_uA (q_uA (q_uA (q_uA (q_uA (q_uA (q_uA (q_uA (q_uA q_AM 33 f) 33 (upd f 0 0)) 33 (upd (upd f 0 0) 4 0)) 33 (upd (upd (upd f 0 0) 4 0) 1 0)) 33 (upd (upd (upd (upd f 0 0) 4 0) 1 0) 5 0)) 33 (upd (upd (upd (upd (upd f 0 0) 4 0) 1 0) 5 0) 2 0)) 33 (upd (upd (upd (upd (upd (upd f 0 0) 4 0) 1 0) 5 0) 2 0) 6 0)) 33 (upd (upd (upd (upd (upd (upd (upd f 0 0) 4 0) 1 0) 5 0) 2 0) 6 0) 3 0)) 33 (upd (upd (upd (upd (upd (upd (upd (upd f 0 0) 4 0) 1 0) 5 0) 2 0) 6 0) 3 0) 7 0)) I q_J0, 34, 31630))) 11 (fun _ _ => rfl) ?_
                      refine q_Ru_seg (g2 := (55, [(3, .int 2), (2, .int 7), (0, .ref 64), (1, .int 0)], [.int 0], (q_cM (q_uA (q_uA (q_uA (q_uA (q_uA (q_uA (q_uA (q_uA (q_uA q_AM 33 f) 33 (upd f 0 0)) 33 (upd (upd f 0 0) 4 0)) 33 (upd (upd (upd f 0 0) 4 0) 1 0)) 33 (upd (upd (upd (upd f 0 0) 4 0) 1 0) 5 0)) 33 (upd (upd (upd (upd (upd f 0 0) 4 0) 1 0) 5 0) 2 0)) 33 (upd (upd (upd (upd (upd (upd f 0 0) 4 0) 1 0) 5 0) 2 0) 6 0)) 33 (upd (upd (upd (upd (upd (upd (upd f 0 0) 4 0) 1 0) 5 0) 2 0) 6 0) 3 0)) 33 (upd (upd (upd (upd (upd (upd (upd (upd f 0 0) 4 0) 1 0) 5 0) 2 0) 6 0) 3 0) 7 0)) I q_J0, 34, 31630))) 11 (fun _ _ => rfl) ?_
                      refine q_Ru_seg (g2 := (55, [(3, .int 3), (2, .int 7), (0, .ref 64), (1, .int 0)], [.int 0], (q_cM (q_uA (q_uA (q_uA (q_uA (q_uA (q_uA (q_uA (q_uA (q_uA q_AM 33 f) 33 (upd f 0 0)) 33 (upd (upd f 0 0) 4 0)) 33 (upd (upd (upd f 0 0) 4 0) 1 0)) 33 (upd (upd (upd (upd f 0 0) 4 0) 1 0) 5 0)) 33 (upd (upd (upd (upd (upd f 0 0) 4 0) 1 0) 5 0) 2 0)) 33 (upd (upd (upd (upd (upd (upd f 0 0) 4 0) 1 0) 5 0) 2 0) 6 0)) 33 (upd (upd (upd (upd (upd (upd (upd f 0 0) 4 0) 1 0) 5 0) 2 0) 6 0) 3 0)) 33 (upd (upd (upd (upd (upd (upd (upd (upd f 0 0) 4 0) 1 0) 5 0) 2 0) 6 0) 3 0) 7 0)) I q_J0, 34, 31630))) 11 (fun _ _ => rfl) ?_
                      refine q_Ru_seg (g2 := (55, [(3, .int 4), (2, .int 7), (0, .ref 64), (1, .int 0)], [.int 0], (q_cM (q_uA (q_uA (q_uA (q_uA (q_uA (q_uA (q_uA (q_uA (q_uA q_AM 33 f) 33 (upd f 0 0)) 33 (upd (upd f 0 0) 4 0)) 33 (upd (upd (upd f 0 0) 4 0) 1 0)) 33 (upd (upd (upd (upd f 0 0) 4 0) 1 0) 5 0)) 33 (upd (upd (upd (upd (upd f 0 0) 4 0) 1 0) 5 0) 2 0)) 33 (upd (upd (upd (upd (upd (upd f 0 0) 4 0) 1 0) 5 0) 2 0) 6 0)) 33 (upd (upd (upd (upd (upd (upd (upd f 0 0) 4 0) 1 0) 5 0) 2 0) 6 0) 3 0)) 33 (upd (upd (upd (upd (upd (upd (upd (upd f 0 0) 4 0) 1 0) 5 0) 2 0) 6 0) 3 0) 7 0)) I q_J0, 34, 31630))) 11 (fun _ _ => rfl) ?_
                      refine q_Ru_seg (g2 := (55, [(3, .int 5), (2, .int 7), (0, .ref 64), (1, .int 0)], [.int 0], (q_cM (q_uA (q_uA (q_uA (q_uA (q_uA (q_uA (q_uA (q_uA (q_uA q_AM 33 f) 33 (upd f 0 0)) 33 (upd (upd f 0 0) 4 0)) 33 (upd (upd (upd f 0 0) 4 0) 1 0)) 33 (upd (upd (upd (upd f 0 0) 4 0) 1 0) 5 0)) 33 (upd (upd (upd (upd (upd f 0 0) 4 0) 1 0) 5 0) 2 0)) 33 (upd (upd (upd (upd (upd (upd f 0 0) 4 0) 1 0) 5 0) 2 0) 6 0)) 33 (upd (upd (upd (upd (upd (upd (upd f 0 0) 4 0) 1 0) 5 0) 2 0) 6 0) 3 0)) 33 (upd (upd (upd (upd (upd (upd (upd (upd f 0 0) 4 0) 1 0) 5 0) 2 0) 6 0) 3 0) 7 0)) I q_J0, 34, 31630))) 11 (fun _ _ => rfl) ?_
                      refine q_Ru_seg (g2 := (55, [(3, .int 6), (2, .int 7), (0, .ref 64), (1, .int 0)], [.int 0], (q_cM (q_uA (q_uA (q_uA (q_uA (q_uA (q_uA (q_uA (q_uA (q_uA q_AM 33 f) 33 (upd f 0 0)) 33 (upd (upd f 0 0) 4 0)) 33 (upd (upd (upd f 0 0) 4 0) 1 0)) 33 (upd (upd (upd (upd f 0 0) 4 0) 1 0) 5 0)) 33 (upd (upd (upd (upd (upd f 0 0) 4 0) 1 0) 5 0) 2 0)) 33 (upd (upd (upd (upd (upd (upd f 0 0) 4 0) 1 0) 5 0) 2 0) 6 0)) 33 (upd (upd (upd (upd (upd (upd (upd f 0 0) 4 0) 1 0) 5 0) 2 0) 6 0) 3 0)) 33 (upd (upd (upd (upd (upd (upd (upd (upd f 0 0) 4 0) 1 0) 5 0) 2 0) 6 0) 3 0) 7 0)) I q_J0, 34, 31630))) 11 (fun _ _ => rfl) ?_
                      refine q_Ru_seg (g2 := (55, [(3, .int 7), (2, .int 7), (0, .ref 64), (1, .int 0)], [.int 0], (q_cM (q_uA (q_uA (q_uA (q_uA (q_uA (q_uA (q_uA (q_uA (q_uA q_AM 33 f) 33 (upd f 0 0)) 33 (upd (upd f 0 0) 4 0)) 33 (upd (upd (upd f 0 0) 4 0) 1 0)) 33 (upd (upd (upd (upd f 0 0) 4 0) 1 0) 5 0)) 33 (upd (upd (upd (upd (upd f 0 0) 4 0) 1 0) 5 0) 2 0)) 33 (upd (upd (upd (upd (upd (upd f 0 0) 4 0) 1 0) 5 0) 2 0) 6 0)) 33 (upd (upd (upd (upd (upd (upd (upd f 0 0) 4 0) 1 0) 5 0) 2 0) 6 0) 3 0)) 33 (upd (upd (upd (upd (upd (upd (upd (upd f 0 0) 4 0) 1 0) 5 0) 2 0) 6 0) 3 0) 7 0)) I q_J0, 34, 31630))) 11 (fun _ _ => rfl) ?_
                      refine q_Ru_seg (g2 := (55, [(3, .int 8), (2, .int 7), (0, .ref 64), (1, .int 0)], [.int 0], (q_cM (q_uA (q_uA (q_uA (q_uA (q_uA (q_uA (q_uA (q_uA (q_uA q_AM 33 f) 33 (upd f 0 0)) 33 (upd (upd f 0 0) 4 0)) 33 (upd (upd (upd f 0 0) 4 0) 1 0)) 33 (upd (upd (upd (upd f 0 0) 4 0) 1 0) 5 0)) 33 (upd (upd (upd (upd (upd f 0 0) 4 0) 1 0) 5 0) 2 0)) 33 (upd (upd (upd (upd (upd (upd f 0 0) 4 0) 1 0) 5 0) 2 0) 6 0)) 33 (upd (upd (upd (upd (upd (upd (upd f 0 0) 4 0) 1 0) 5 0) 2 0) 6 0) 3 0)) 33 (upd (upd (upd (upd (upd (upd (upd (upd f 0 0) 4 0) 1 0) 5 0) 2 0) 6 0) 3 0) 7 0)) I q_J0, 34, 31630))) 11 (fun _ _ => rfl) ?_
                      refine q_Ru_seg (g2 := (55, [(3, .int 9), (2, .int 7), (0, .ref 64), (1, .int 0)], [.int 0], (q_cM (q_uA (q_uA (q_uA (q_uA (q_uA (q_uA (q_uA (q_uA (q_uA q_AM 33 f) 33 (upd f 0 0)) 33 (upd (upd f 0 0) 4 0)) 33 (upd (upd (upd f 0 0) 4 0) 1 0)) 33 (upd (upd (upd (upd f 0 0) 4 0) 1 0) 5 0)) 33 (upd (upd (upd (upd (upd f 0 0) 4 0) 1 0) 5 0) 2 0)) 33 (upd (upd (upd (upd (upd (upd f 0 0) 4 0) 1 0) 5 0) 2 0) 6 0)) 33 (upd (upd (upd (upd (upd (upd (upd f 0 0) 4 0) 1 0) 5 0) 2 0) 6 0) 3 0)) 33 (upd (upd (upd (upd (upd (upd (upd (upd f 0 0) 4 0) 1 0) 5 0) 2 0) 6 0) 3 0) 7 0)) I q_J0, 34, 31630))) 11 (fun _ _ => rfl) ?_
                      refine q_Ru_seg (g2 := (55, [(3, .int 10), (2, .int 7), (0, .ref 64), (1, .int 0)], [.int 0], (q_cM (q_uA (q_uA (q_uA (q_uA (q_uA (q_uA (q_uA (q_uA (q_uA q_AM 33 f) 33 (upd f 0 0)) 33 (upd (upd f 0 0) 4 0)) 33 (upd (upd (upd f 0 0) 4 0) 1 0)) 33 (upd (upd (upd (upd f 0 0) 4 0) 1 0) 5 0)) 33 (upd (upd (upd (upd (upd f 0 0) 4 0) 1 0) 5 0) 2 0)) 33 (upd (upd (upd (upd (upd (upd f 0 0) 4 0) 1 0) 5 0) 2 0) 6 0)) 33 (upd (upd (upd (upd (upd (upd (upd f 0 0) 4 0) 1 0) 5 0) 2 0) 6 0) 3 0)) 33 (upd (upd (upd (upd (upd (upd (upd (upd f 0 0) 4 0) 1 0) 5 0) 2 0) 6 0) 3 0) 7 0)) I q_J0, 34, 31630))) 11 (fun _ _ => rfl) ?_
                      refine q_Ru_seg (g2 := (55, [(3, .int 11), (2, .int 7), (0, .ref 64), (1, .int 0)], [.int 0], (q_cM (q_uA (q_uA (q_uA (q_uA (q_uA (q_uA (q_uA (q_uA (q_uA q_AM 33 f) 33 (upd f 0 0)) 33 (upd (upd f 0 0) 4 0)) 33 (upd (upd (upd f 0 0) 4 0) 1 0)) 33 (upd (upd (upd (upd f 0 0) 4 0) 1 0) 5 0)) 33 (upd (upd (upd (upd (upd f 0 0) 4 0) 1 0) 5 0) 2 0)) 33 (upd (upd (upd (upd (upd (upd f 0 0) 4 0) 1 0) 5 0) 2 0) 6 0)) 33 (upd (upd (upd (upd (upd (upd (upd f 0 0) 4 0) 1 0) 5 0) 2 0) 6 0) 3 0)) 33 (upd (upd (upd (upd (upd (upd (upd (upd f 0 0) 4 0) 1 0) 5 0) 2 0) 6 0) 3 0) 7 0)) I q_J0, 34, 31630))) 11 (fun _ _ => rfl) ?_
                      refine q_Ru_seg (g2 := (55, [(3, .int 12), (2, .int 7), (0, .ref 64), (1, .int 0)], [.int 0], (q_cM (q_uA (q_uA (q_uA (q_uA (q_uA (q_uA (q_uA (q_uA (q_uA q_AM 33 f) 33 (upd f 0 0)) 33 (upd (upd f 0 0) 4 0)) 33 (upd (upd (upd f 0 0) 4 0) 1 0)) 33 (upd (upd (upd (upd f 0 0) 4 0) 1 0) 5 0)) 33 (upd (upd (upd (upd (upd f 0 0) 4 0) 1 0) 5 0) 2 0)) 33 (upd (upd (upd (upd (upd (upd f 0 0) 4 0) 1 0) 5 0) 2 0) 6 0)) 33 (upd (upd (upd (upd (upd (upd (upd f 0 0) 4 0) 1 0) 5 0) 2 0) 6 0) 3 0)) 33 (upd (upd (upd (upd (upd (upd (upd (upd f 0 0) 4 0) 1 0) 5 0) 2 0) 6 0) 3 0) 7 0)) I q_J0, 34, 31630))) 11 (fun _ _ => rfl) ?_
                      refine q_Ru_seg (g2 := (55, [(3, .int 13), (2, .int 7), (0, .ref 64), (1, .int 0)], [.int 0], (q_cM (q_uA (q_uA (q_uA (q_uA (q_uA (q_uA (q_uA (q_uA (q_uA q_AM 33 f) 33 (upd f 0 0)) 33 (upd (upd f 0 0) 4 0)) 33 (upd (upd (upd f 0 0) 4 0) 1 0)) 33 (upd (upd (upd (upd f 0 0) 4 0) 1 0) 5 0)) 33 (upd (upd (upd (upd (upd f 0 0) 4 0) 1 0) 5 0) 2 0)) 33 (upd (upd (upd (upd (upd (upd f 0 0) 4 0) 1 0) 5 0) 2 0) 6 0)) 33 (upd (upd (upd (upd (upd (upd (upd f 0 0) 4 0) 1 0) 5 0) 2 0) 6 0) 3 0)) 33 (upd (upd (upd (upd (upd (upd (upd (upd f 0 0) 4 0) 1 0) 5 0) 2 0) 6 0) 3 0) 7 0)) I q_J0, 34, 31630))) 11 (fun _ _ => rfl) ?_
                      refine q_Ru_seg (g2 := (55, [(3, .int 14), (2, .int 7), (0, .ref 64), (1, .int 0)], [.int 0], (q_cM (q_uA (q_uA (q_uA (q_uA (q_uA (q_uA (q_uA (q_uA (q_uA q_AM 33 f) 33 (upd f 0 0)) 33 (upd (upd f 0 0) 4 0)) 33 (upd (upd (upd f 0 0) 4 0) 1 0)) 33 (upd (upd (upd (upd f 0 0) 4 0) 1 0) 5 0)) 33 (upd (upd (upd (upd (upd f 0 0) 4 0) 1 0) 5 0) 2 0)) 33 (upd (upd (upd (upd (upd (upd f 0 0) 4 0) 1 0) 5 0) 2 0) 6 0)) 33 (upd (upd (upd (upd (upd (upd (upd f 0 0) 4 0) 1 0) 5 0) 2 0) 6 0) 3 0)) 33 (upd (upd (upd (upd (upd (upd (upd (upd f 0 0) 4 0) 1 0) 5 0) 2 0) 6 0) 3 0) 7 0)) I q_J0, 34, 31630))) 11 (fun _ _ => rfl) ?_
                      refine q_Ru_seg (g2 := (55, [(3, .int 15), (2, .int 7), (0, .ref 64), (1, .int 0)], [.int 0], (q_cM (q_uA (q_uA (q_uA (q_uA (q_uA (q_uA (q_uA (q_uA (q_uA q_AM 33 f) 33 (upd f 0 0)) 33 (upd (upd f 0 0) 4 0)) 33 (upd (upd (upd f 0 0) 4 0) 1 0)) 33 (upd (upd (upd (upd f 0 0) 4 0) 1 0) 5 0)) 33 (upd (upd (upd (upd (upd f 0 0) 4 0) 1 0) 5 0) 2 0)) 33 (upd (upd (upd (upd (upd (upd f 0 0) 4 0) 1 0) 5 0) 2 0) 6 0)) 33 (upd (upd (upd (upd (upd (upd (upd f 0 0) 4 0) 1 0) 5 0) 2 0) 6 0) 3 0)) 33 (upd (upd (upd (upd (upd (upd (upd (upd f 0 0) 4 0) 1 0) 5 0) 2 0) 6 0) 3 0) 7 0)) I q_J0, 34, 31630))) 11 (fun _ _ => rfl) ?_
                      refine q_Ru_seg (g2 := (144, [(3, .int 0), (2, .int 0), (0, .ref 64), (1, .int 0)], [.int 0, .int 0], (q_cM (q_uA (q_uA (q_uA (q_uA (q_uA (q_uA (q_uA (q_uA (q_uA q_AM 33 f) 33 (upd f 0 0)) 33 (upd (upd f 0 0) 4 0)) 33 (upd (upd (upd f 0 0) 4 0) 1 0)) 33 (upd (upd (upd (upd f 0 0) 4 0) 1 0) 5 0)) 33 (upd (upd (upd (upd (upd f 0 0) 4 0) 1 0) 5 0) 2 0)) 33 (upd (upd (upd (upd (upd (upd f 0 0) 4 0) 1 0) 5 0) 2 0) 6 0)) 33 (upd (upd (upd (upd (upd (upd (upd f 0 0) 4 0) 1 0) 5 0) 2 0) 6 0) 3 0)) 33 (upd (upd (upd (upd (upd (upd (upd (upd f 0 0) 4 0) 1 0) 5 0) 2 0) 6 0) 3 0) 7 0)) I q_J0, 34, 31630))) 26 (fun _ _ => rfl) ?_
                      refine q_Ru_seg (g2 := (144, [(3, .int 1), (2, .int 0), (0, .ref 64), (1, .int 0)], [.int 0, .int 0], (q_cM (q_uA (q_uA (q_uA (q_uA (q_uA (q_uA (q_uA (q_uA (q_uA q_AM 33 f) 33 (upd f 0 0)) 33 (upd (upd f 0 0) 4 0)) 33 (upd (upd (upd f 0 0) 4 0) 1 0)) 33 (upd (upd (upd (upd f 0 0) 4 0) 1 0) 5 0)) 33 (upd (upd (upd (upd (upd f 0 0) 4 0) 1 0) 5 0) 2 0)) 33 (upd (upd (upd (upd (upd (upd f 0 0) 4 0) 1 0) 5 0) 2 0) 6 0)) 33 (upd (upd (upd (upd (upd (upd (upd f 0 0) 4 0) 1 0) 5 0) 2 0) 6 0) 3 0)) 33 (upd (upd (upd (upd (upd (upd (upd (upd f 0 0) 4 0) 1 0) 5 0) 2 0) 6 0) 3 0) 7 0)) I q_J0, 34, 31630))) 16 (fun _ _ => rfl) ?_
                      refine q_Ru_seg (g2 := (144, [(3, .int 2), (2, .int 0), (0, .ref 64), (1, .int 0)], [.int 0, .int 0], (q_cM (q_uA (q_uA (q_uA (q_uA (q_uA (q_uA (q_uA (q_uA (q_uA q_AM 33 f) 33 (upd f 0 0)) 33 (upd (upd f 0 0) 4 0)) 33 (upd (upd (upd f 0 0) 4 0) 1 0)) 33 (upd (upd (upd (upd f 0 0) 4 0) 1 0) 5 0)) 33 (upd (upd (upd (upd (upd f 0 0) 4 0) 1 0) 5 0) 2 0)) 33 (upd (upd (upd (upd (upd (upd f 0 0) 4 0) 1 0) 5 0) 2 0) 6 0)) 33 (upd (upd (upd (upd (upd (upd (upd f 0 0) 4 0) 1 0) 5 0) 2 0) 6 0) 3 0)) 33 (upd (upd (upd (upd (upd (upd (upd (upd f 0 0) 4 0) 1 0) 5 0) 2 0) 6 0) 3 0) 7 0)) I q_J0, 34, 31630))) 16 (fun _ _ => rfl) ?_
                      refine q_Ru_seg (g2 := (144, [(3, .int 3), (2, .int 0), (0, .ref 64), (1, .int 0)], [.int 0, .int 0], (q_cM (q_uA (q_uA (q_uA (q_uA (q_uA (q_uA (q_uA (q_uA (q_uA q_AM 33 f) 33 (upd f 0 0)) 33 (upd (upd f 0 0) 4 0)) 33 (upd (upd (upd f 0 0) 4 0) 1 0)) 33 (upd (upd (upd (upd f 0 0) 4 0) 1 0) 5 0)) 33 (upd (upd (upd (upd (upd f 0 0) 4 0) 1 0) 5 0) 2 0)) 33 (upd (upd (upd (upd (upd (upd f 0 0) 4 0) 1 0) 5 0) 2 0) 6 0)) 33 (upd (upd (upd (upd (upd (upd (upd f 0 0) 4 0) 1 0) 5 0) 2 0) 6 0) 3 0)) 33 (upd (upd (upd (upd (upd (upd (upd (upd f 0 0) 4 0) 1 0) 5 0) 2 0) 6 0) 3 0) 7 0)) I q_J0, 34, 31630))) 16 (fun _ _ => rfl) ?_
                      refine q_Ru_seg (g2 := (163, [(3, .int 4), (2, .int 0), (0, .ref 64), (1, .int 0)], [.int 0], (q_cM (q_uA (q_uA (q_uA (q_uA (q_uA (q_uA (q_uA (q_uA (q_uA q_AM 33 f) 33 (upd f 0 0)) 33 (upd (upd f 0 0) 4 0)) 33 (upd (upd (upd f 0 0) 4 0) 1 0)) 33 (upd (upd (upd (upd f 0 0) 4 0) 1 0) 5 0)) 33 (upd (upd (upd (upd (upd f 0 0) 4 0) 1 0) 5 0) 2 0)) 33 (upd (upd (upd (upd (upd (upd f 0 0) 4 0) 1 0) 5 0) 2 0) 6 0)) 33 (upd (upd (upd (upd (upd (upd (upd f 0 0) 4 0) 1 0) 5 0) 2 0) 6 0) 3 0)) 33 (upd (upd (upd (upd (upd (upd (upd (upd f 0 0) 4 0) 1 0) 5 0) 2 0) 6 0) 3 0) 7 0)) I q_J0, 34, 31630))) 10 (fun _ _ => rfl) ?_
                      exact q_Ru_ret rfl rfl
                    show q_Ru _ _ _ (125, [(0, .ref 64), (1, .int (a - 3840))], [.int 0], (q_cM (q_uA (q_uA (q_uA (q_uA (q_uA (q_uA (q_uA (q_uA (q_uA q_AM 33 f) 33 (upd f 0 0)) 33 (upd (upd f 0 0) 4 0)) 33 (upd (upd (upd f 0 0) 4 0) 1 0)) 33 (upd (upd (upd (upd f 0 0) 4 0) 1 0) 5 0)) 33 (upd (upd (upd (upd (upd f 0 0) 4 0) 1 0) 5 0) 2 0)) 33 (upd (upd (upd (upd (upd (upd f 0 0) 4 0) 1 0) 5 0) 2 0) 6 0)) 33 (upd (upd (upd (upd (upd (upd (upd f 0 0) 4 0) 1 0) 5 0) 2 0) 6 0) 3 0)) 33 (upd (upd (upd (upd (upd (upd (upd (upd f 0 0) 4 0) 1 0) 5 0) 2 0) 6 0) 3 0) 7 0)) I q_J0, 34, 31630)) _
                    refine q_Ru_seg (g2 := (134, [(0, .ref 64), (1, .int (a - 3840))], [.int 0, .int 16, .int 0], (q_cM (q_uA (q_uA (q_uA (q_uA (q_uA (q_uA (q_uA (q_uA (q_uA q_AM 33 f) 33 (upd f 0 0)) 33 (upd (upd f 0 0) 4 0)) 33 (upd (upd (upd f 0 0) 4 0) 1 0)) 33 (upd (upd (upd (upd f 0 0) 4 0) 1 0) 5 0)) 33 (upd (upd (upd (upd (upd f 0 0) 4 0) 1 0) 5 0) 2 0)) 33 (upd (upd (upd (upd (upd (upd f 0 0) 4 0) 1 0) 5 0) 2 0) 6 0)) 33 (upd (upd (upd (upd (upd (upd (upd f 0 0) 4 0) 1 0) 5 0) 2 0) 6 0) 3 0)) 33 (upd (upd (upd (upd (upd (upd (upd (upd f 0 0) 4 0) 1 0) 5 0) 2 0) 6 0) 3 0) 7 0)) I q_J0, 34, 31630))) 5 (fun _ _ => rfl) ?_
                    refine q_Ru_seg (g2 := (136, [(0, .ref 64), (1, .int (a - 3840))], [.int 0], (q_cM (q_uA (q_uA (q_uA (q_uA (q_uA (q_uA (q_uA (q_uA (q_uA q_AM 33 f) 33 (upd f 0 0)) 33 (upd (upd f 0 0) 4 0)) 33 (upd (upd (upd f 0 0) 4 0) 1 0)) 33 (upd (upd (upd (upd f 0 0) 4 0) 1 0) 5 0)) 33 (upd (upd (upd (upd (upd f 0 0) 4 0) 1 0) 5 0) 2 0)) 33 (upd (upd (upd (upd (upd (upd f 0 0) 4 0) 1 0) 5 0) 2 0) 6 0)) 33 (upd (upd (upd (upd (upd (upd (upd f 0 0) 4 0) 1 0) 5 0) 2 0) 6 0) 3 0)) 33 (upd (upd (upd (upd (upd (upd (upd (upd f 0 0) 4 0) 1 0) 5 0) 2 0) 6 0) 3 0) 7 0)) I q_J0, 34, 31630))) 2 (fun _ _ => rfl) ?_
                    exact q_Ru_ret rfl rfl
                  show q_Ru _ _ _ (22, [(0, .ref 64), (1, .int a)], [.int 0], (q_cM (q_uA (q_uA (q_uA (q_uA (q_uA (q_uA (q_uA (q_uA (q_uA q_AM 33 f) 33 (upd f 0 0)) 33 (upd (upd f 0 0) 4 0)) 33 (upd (upd (upd f 0 0) 4 0) 1 0)) 33 (upd (upd (upd (upd f 0 0) 4 0) 1 0) 5 0)) 33 (upd (upd (upd (upd (upd f 0 0) 4 0) 1 0) 5 0) 2 0)) 33 (upd (upd (upd (upd (upd (upd f 0 0) 4 0) 1 0) 5 0) 2 0) 6 0)) 33 (upd (upd (upd (upd (upd (upd (upd f 0 0) 4 0) 1 0) 5 0) 2 0) 6 0) 3 0)) 33 (upd (upd (upd (upd (upd (upd (upd (upd f 0 0) 4 0) 1 0) 5 0) 2 0) 6 0) 3 0) 7 0)) I q_J0, 34, 31630)) _
                  exact q_Ru_ret rfl rfl
                | false =>
                  cases h153 : decide (a - 3840 = 44) with
                  | true =>
                    refine ⟨f, ?_⟩
                    refine q_Ca_of (Nat.le_of_ble_eq_true rfl) ?_
                    refine q_Ru_seg (g2 := (7, [(0, .ref 64), (1, .int a)], [.int 3887, .int 3840, .int a], (q_cM (q_uA q_AM 33 f) I q_J0, 34, 31630))) 3 (fun _ _ => rfl) ?_
                    refine q_Ru_call (v := (some (.int 1))) (h2 := (q_cM (q_uA q_AM 33 f) I q_J0, 34, 31630)) rfl rfl ?_ ?_
                    · refine q_Ca_of (Nat.le_of_ble_eq_true rfl) ?_
                      refine q_Ru_seg (g2 := (2, [(0, .int a), (1, .int 3840), (2, .int 3887)], [.int 3840, .int a], (q_cM (q_uA q_AM 33 f) I q_J0, 34, 31630))) 2 (fun _ _ => rfl) ?_
                      refine q_Ru_rsF (g2 := (5, [(0, .int a), (1, .int 3840), (2, .int 3887)], [], (q_cM (q_uA q_AM 33 f) I q_J0, 34, 31630))) rfl rfl h133 ?_
                      refine q_Ru_seg (g2 := (7, [(0, .int a), (1, .int 3840), (2, .int 3887)], [.int 3887, .int a], (q_cM (q_uA q_AM 33 f) I q_J0, 34, 31630))) 2 (fun _ _ => rfl) ?_
                      refine q_Ru_rsF (g2 := (10, [(0, .int a), (1, .int 3840), (2, .int 3887)], [], (q_cM (q_uA q_AM 33 f) I q_J0, 34, 31630))) rfl rfl h142 ?_
                      refine q_Ru_seg (g2 := (15, [(0, .int a), (1, .int 3840), (2, .int 3887)], [.int 1], (q_cM (q_uA q_AM 33 f) I q_J0, 34, 31630))) 2 (fun _ _ => rfl) ?_
                      exact q_Ru_ret rfl rfl
                    show q_Ru _ _ _ (10, [(0, .ref 64), (1, .int a)], [.int 1], (q_cM (q_uA q_AM 33 f) I q_J0, 34, 31630)) _
                    refine q_Ru_seg (g2 := (19, [(0, .ref 64), (1, .int a)], [.int (a - 3840), .ref 64], (q_cM (q_uA q_AM 33 f) I q_J0, 34, 31630))) 5 (fun _ _ => rfl) ?_
                    refine q_Ru_call (v := (some (.int 0))) (h2 := (q_cM (q_uA q_AM 33 f) I q_J0, 34, 31630)) rfl rfl ?_ ?_
                    · refine q_Ca_of (Nat.le_of_ble_eq_true rfl) ?_
                      refine q_Ru_seg (g2 := (3, [(0, .ref 64), (1, .int (a - 3840))], [.int 9, .int (a - 3840)], (q_cM (q_uA q_AM 33 f) I q_J0, 34, 31630))) 2 (fun _ _ => rfl) ?_
                      refine q_Ru_rsT (g2 := (11, [(0, .ref 64), (1, .int (a - 3840))], [], (q_cM (q_uA q_AM 33 f) I q_J0, 34, 31630))) rfl rfl (q_d_neF h147) ?_
                      refine q_Ru_seg (g2 := (14, [(0, .ref 64), (1, .int (a - 3840))], [.int 10, .int (a - 3840)], (q_cM (q_uA q_AM 33 f) I q_J0, 34, 31630))) 2 (fun _ _ => rfl) ?_
                      refine q_Ru_rsT (g2 := (25, [(0, .ref 64), (1, .int (a - 3840))], [], (q_cM (q_uA q_AM 33 f) I q_J0, 34, 31630))) rfl rfl (q_d_neF h148) ?_
                      refine q_Ru_seg (g2 := (30, [(0, .ref 64), (1, .int (a - 3840))], [.int 15, .int 12, .int (a - 3840)], (q_cM (q_uA q_AM 33 f) I q_J0, 34, 31630))) 3 (fun _ _ => rfl) ?_
                      refine q_Ru_call (v := (some (.int 0))) (h2 := (q_cM (q_uA q_AM 33 f) I q_J0, 34, 31630)) rfl rfl ?_ ?_
                      · refine q_Ca_of (Nat.le_of_ble_eq_true rfl) ?_
                        refine q_Ru_seg (g2 := (2, [(0, .int (a - 3840)), (1, .int 12), (2, .int 15)], [.int 12, .int (a - 3840)], (q_cM (q_uA q_AM 33 f) I q_J0, 34, 31630))) 2 (fun _ _ => rfl) ?_
                        refine q_Ru_rsT (g2 := (14, [(0, .int (a - 3840)), (1, .int 12), (2, .int 15)], [], (q_cM (q_uA q_AM 33 f) I q_J0, 34, 31630))) rfl rfl h149 ?_
                        refine q_Ru_seg (g2 := (15, [(0, .int (a - 3840)), (1, .int 12), (2, .int 15)], [.int 0], (q_cM (q_uA q_AM 33 f) I q_J0, 34, 31630))) 1 (fun _ _ => rfl) ?_
                        exact q_Ru_ret rfl rfl
                      show q_Ru _ _ _ (33, [(0, .ref 64), (1, .int (a - 3840))], [.int 0], (q_cM (q_uA q_AM 33 f) I q_J0, 34, 31630)) _
                      refine q_Ru_seg (g2 := (83, [(0, .ref 64), (1, .int (a - 3840))], [.int 29, .int (a - 3840)], (q_cM (q_uA q_AM 33 f) I q_J0, 34, 31630))) 3 (fun _ _ => rfl) ?_
                      refine q_Ru_rsT (g2 := (94, [(0, .ref 64), (1, .int (a - 3840))], [], (q_cM (q_uA q_AM 33 f) I q_J0, 34, 31630))) rfl rfl (q_d_neF h150) ?_
                      refine q_Ru_seg (g2 := (97, [(0, .ref 64), (1, .int (a - 3840))], [.int 30, .int (a - 3840)], (q_cM (q_uA q_AM 33 f) I q_J0, 34, 31630))) 2 (fun _ _ => rfl) ?_
                      refine q_Ru_rsT (g2 := (108, [(0, .ref 64), (1, .int (a - 3840))], [], (q_cM (q_uA q_AM 33 f) I q_J0, 34, 31630))) rfl rfl (q_d_neF h151) ?_
                      refine q_Ru_seg (g2 := (111, [(0, .ref 64), (1, .int (a - 3840))], [.int 31, .int (a - 3840)], (q_cM (q_uA q_AM 33 f) I q_J0, 34, 31630))) 2 (fun _ _ => rfl) ?_
                      refine q_Ru_rsT (g2 := (137, [(0, .ref 64), (1, .int (a - 3840))], [], (q_cM (q_uA q_AM 33 f) I q_J0, 34, 31630))) rfl rfl (q_d_neF h152) ?_
                      refine q_Ru_seg (g2 := (140, [(0, .ref 64), (1, .int (a - 3840))], [.int 44, .int (a - 3840)], (q_cM (q_uA q_AM 33 f) I q_J0, 34, 31630))) 2 (fun _ _ => rfl) ?_
                      refine q_Ru_rsF (g2 := (143, [(0, .ref 64), (1, .int (a - 3840))], [], (q_cM (q_uA q_AM 33 f) I q_J0, 34, 31630))) rfl rfl (q_d_neT h153) ?_
                      refine q_Ru_seg (g2 := (150, [(0, .ref 64), (1, .int (a - 3840))], [.int 0], (q_cM (q_uA q_AM 33 f) I q_J0, 34, 31630))) 4 (fun _ _ => rfl) ?_
                      refine q_Ru_seg (g2 := (158, [(0, .ref 64), (1, .int (a - 3840))], [.int 0, .int 2, .int 0], (q_cM (q_uA q_AM 33 f) I q_J0, 34, 31630))) 5 (fun _ _ => rfl) ?_
                      refine q_Ru_seg (g2 := (161, [(0, .ref 64), (1, .int (a - 3840))], [.ref 64, .int 0], (q_cM (q_uA q_AM 33 f) I q_J0, 34, 31630))) 3 (fun _ _ => rfl) ?_
                      refine q_Ru_call (v := (some (.int 0))) (h2 := (q_cM (q_uA q_AM 33 f) I q_J0, 34, 31630)) rfl rfl ?_ ?_
                      · refine q_Ca_of (Nat.le_of_ble_eq_true rfl) ?_
                        refine q_Ru_seg (g2 := (7, [(0, .ref 64)], [.int 0], (q_cM (q_uA q_AM 33 f) I q_J0, 34, 31630))) 4 (fun _ _ => rfl) ?_
                        refine q_Ru_seg (g2 := (14, [(0, .ref 64)], [.int 0, .int 0], (q_cM (q_uA q_AM 33 f) I q_J0, 34, 31630))) 4 (fun _ _ => rfl) ?_
                        refine q_Ru_seg (g2 := (22, [(0, .ref 64)], [.int 0], (q_cM (q_uA q_AM 33 f) I q_J0, 34, 31630))) 2 (fun _ _ => rfl) ?_
                        exact q_Ru_ret rfl rfl
                      show q_Ru _ _ _ (164, [(0, .ref 64), (1, .int (a - 3840))], [.int 0, .int 0], (q_cM (q_uA q_AM 33 f) I q_J0, 34, 31630)) _
                      refine q_Ru_seg (g2 := (173, [(0, .ref 64), (1, .int (a - 3840))], [.int 0], (q_cM (q_uA q_AM 33 f) I q_J0, 34, 31630))) 3 (fun _ _ => rfl) ?_
                      exact q_Ru_ret rfl rfl
                    show q_Ru _ _ _ (22, [(0, .ref 64), (1, .int a)], [.int 0], (q_cM (q_uA q_AM 33 f) I q_J0, 34, 31630)) _
                    exact q_Ru_ret rfl rfl
                  | false =>
                    cases h154 : decide (44 < a - 3840) with
                    | true =>
                      exact q_no (q_sub_lo 3885 (q_lo2 h154) (q_lo1 h133) (q_sub_hi 3851 (q_hi1 h149) (q_lo1 h133) (q_hi2 h142))) (q_sub_hi 3851 (q_hi1 h149) (q_lo1 h133) (q_hi2 h142)) (by decide)
                    | false =>
                      refine ⟨f, ?_⟩
                      refine q_Ca_of (Nat.le_of_ble_eq_true rfl) ?_
                      refine q_Ru_seg (g2 := (7, [(0, .ref 64), (1, .int a)], [.int 3887, .int 3840, .int a], (q_cM (q_uA q_AM 33 f) I q_J0, 34, 31630))) 3 (fun _ _ => rfl) ?_
                      refine q_Ru_call (v := (some (.int 1))) (h2 := (q_cM (q_uA q_AM 33 f) I q_J0, 34, 31630)) rfl rfl ?_ ?_
                      · refine q_Ca_of (Nat.le_of_ble_eq_true rfl) ?_
                        refine q_Ru_seg (g2 := (2, [(0, .int a), (1, .int 3840), (2, .int 3887)], [.int 3840, .int a], (q_cM (q_uA q_AM 33 f) I q_J0, 34, 31630))) 2 (fun _ _ => rfl) ?_
                        refine q_Ru_rsF (g2 := (5, [(0, .int a), (1, .int 3840), (2, .int 3887)], [], (q_cM (q_uA q_AM 33 f) I q_J0, 34, 31630))) rfl rfl h133 ?_
                        refine q_Ru_seg (g2 := (7, [(0, .int a), (1, .int 3840), (2, .int 3887)], [.int 3887, .int a], (q_cM (q_uA q_AM 33 f) I q_J0, 34, 31630))) 2 (fun _ _ => rfl) ?_
                        refine q_Ru_rsF (g2 := (10, [(0, .int a), (1, .int 3840), (2, .int 3887)], [], (q_cM (q_uA q_AM 33 f) I q_J0, 34, 31630))) rfl rfl h142 ?_
                        refine q_Ru_seg (g2 := (15, [(0, .int a), (1, .int 3840), (2, .int 3887)], [.int 1], (q_cM (q_uA q_AM 33 f) I q_J0, 34, 31630))) 2 (fun _ _ => rfl) ?_
                        exact q_Ru_ret rfl rfl
                      show q_Ru _ _ _ (10, [(0, .ref 64), (1, .int a)], [.int 1], (q_cM (q_uA q_AM 33 f) I q_J0, 34, 31630)) _
                      refine q_Ru_seg (g2 := (19, [(0, .ref 64), (1, .int a)], [.int (a - 3840), .ref 64], (q_cM (q_uA q_AM 33 f) I q_J0, 34, 31630))) 5 (fun _ _ => rfl) ?_
                      refine q_Ru_call (v := (some (.int 0))) (h2 := (q_cM (q_uA q_AM 33 f) I q_J0, 34, 31630)) rfl rfl ?_ ?_
                      · refine q_Ca_of (Nat.le_of_ble_eq_true rfl) ?_
                        refine q_Ru_seg (g2 := (3, [(0, .ref 64), (1, .int (a - 3840))], [.int 9, .int (a - 3840)], (q_cM (q_uA q_AM 33 f) I q_J0, 34, 31630))) 2 (fun _ _ => rfl) ?_
                        refine q_Ru_rsT (g2 := (11, [(0, .ref 64), (1, .int (a - 3840))], [], (q_cM (q_uA q_AM 33 f) I q_J0, 34, 31630))) rfl rfl (q_d_neF h147) ?_
                        refine q_Ru_seg (g2 := (14, [(0, .ref 64), (1, .int (a - 3840))], [.int 10, .int (a - 3840)], (q_cM (q_uA q_AM 33 f) I q_J0, 34, 31630))) 2 (fun _ _ => rfl) ?_
                        refine q_Ru_rsT (g2 := (25, [(0, .ref 64), (1, .int (a - 3840))], [], (q_cM (q_uA q_AM 33 f) I q_J0, 34, 31630))) rfl rfl (q_d_neF h148) ?_
                        refine q_Ru_seg (g2 := (30, [(0, .ref 64), (1, .int (a - 3840))], [.int 15, .int 12, .int (a - 3840)], (q_cM (q_uA q_AM 33 f) I q_J0, 34, 31630))) 3 (fun _ _ => rfl) ?_
                        refine q_Ru_call (v := (some (.int 0))) (h2 := (q_cM (q_uA q_AM 33 f) I q_J0, 34, 31630)) rfl rfl ?_ ?_
                        · refine q_Ca_of (Nat.le_of_ble_eq_true rfl) ?_
                          refine q_Ru_seg (g2 := (2, [(0, .int (a - 3840)), (1, .int 12), (2, .int 15)], [.int 12, .int (a - 3840)], (q_cM (q_uA q_AM 33 f) I q_J0, 34, 31630))) 2 (fun _ _ => rfl) ?_
                          refine q_Ru_rsT (g2 := (14, [(0, .int (a - 3840)), (1, .int 12), (2, .int 15)], [], (q_cM (q_uA q_AM 33 f) I q_J0, 34, 31630))) rfl rfl h149 ?_
                          refine q_Ru_seg (g2 := (15, [(0, .int (a - 3840)), (1, .int 12), (2, .int 15)], [.int 0], (q_cM (q_uA q_AM 33 f) I q_J0, 34, 31630))) 1 (fun _ _ => rfl) ?_
                          exact q_Ru_ret rfl rfl
                        show q_Ru _ _ _ (33, [(0, .ref 64), (1, .int (a - 3840))], [.int 0], (q_cM (q_uA q_AM 33 f) I q_J0, 34, 31630)) _
                        refine q_Ru_seg (g2 := (83, [(0, .ref 64), (1, .int (a - 3840))], [.int 29, .int (a - 3840)], (q_cM (q_uA q_AM 33 f) I q_J0, 34, 31630))) 3 (fun _ _ => rfl) ?_
                        refine q_Ru_rsT (g2 := (94, [(0, .ref 64), (1, .int (a - 3840))], [], (q_cM (q_uA q_AM 33 f) I q_J0, 34, 31630))) rfl rfl (q_d_neF h150) ?_
                        refine q_Ru_seg (g2 := (97, [(0, .ref 64), (1, .int (a - 3840))], [.int 30, .int (a - 3840)], (q_cM (q_uA q_AM 33 f) I q_J0, 34, 31630))) 2 (fun _ _ => rfl) ?_
                        refine q_Ru_rsT (g2 := (108, [(0, .ref 64), (1, .int (a - 3840))], [], (q_cM (q_uA q_AM 33 f) I q_J0, 34, 31630))) rfl rfl (q_d_neF h151) ?_
                        refine q_Ru_seg (g2 := (111, [(0, .ref 64), (1, .int (a - 3840))], [.int 31, .int (a - 3840)], (q_cM (q_uA q_AM 33 f) I q_J0, 34, 31630))) 2 (fun _ _ => rfl) ?_
                        refine q_Ru_rsT (g2 := (137, [(0, .ref 64), (1, .int (a - 3840))], [], (q_cM (q_uA q_AM 33 f) I q_J0, 34, 31630))) rfl rfl (q_d_neF h152) ?_
                        refine q_Ru_seg (g2 := (140, [(0, .ref 64), (1, .int (a - 3840))], [.int 44, .int (a - 3840)], (q_cM (q_uA q_AM 33 f) I q_J0, 34, 31630))) 2 (fun _ _ => rfl) ?_
                        refine q_Ru_rsT (g2 := (174, [(0, .ref 64), (1, .int (a - 3840))], [], (q_cM (q_uA q_AM 33 f) I q_J0, 34, 31630))) rfl rfl (q_d_neF h153) ?_
                        refine q_Ru_seg (g2 := (177, [(0, .ref 64), (1, .int (a - 3840))], [.int 44, .int (a - 3840)], (q_cM (q_uA q_AM 33 f) I q_J0, 34, 31630))) 2 (fun _ _ => rfl) ?_
                        refine q_Ru_rsT (g2 := (184, [(0, .ref 64), (1, .int (a - 3840))], [], (q_cM (q_uA q_AM 33 f) I q_J0, 34, 31630))) rfl rfl (q_d_geF h154) ?_
                        refine q_Ru_seg (g2 := (189, [(0, .ref 64), (1, .int (a - 3840))], [.int (a - 3840), .ref 68], (q_cM (q_uA q_AM 33 f) I q_J0, 34, 31630))) 3 (fun _ _ => rfl) ?_
                        refine q_Ru_rsT (g2 := (190, [(0, .ref 64), (1, .int (a - 3840))], [.int 0], (q_cM (q_uA q_AM 33 f) I q_J0, 34, 31630))) rfl rfl (q_in_bd (x := a - 3840) (n := 48) (U := 11) (L := 0) (q_sub_lo9 0 (q_lo1 h133) (q_sub_hi 3851 (q_hi1 h149) (q_lo1 h133) (q_hi2 h142))) (q_sub_hi9 11 (q_lo1 h133) (q_sub_hi 3851 (q_hi1 h149) (q_lo1 h133) (q_hi2 h142)))) ?_
                        exact q_Ru_ret rfl rfl
                      show q_Ru _ _ _ (22, [(0, .ref 64), (1, .int a)], [.int 0], (q_cM (q_uA q_AM 33 f) I q_J0, 34, 31630)) _
                      exact q_Ru_ret rfl rfl
          | false =>
            cases h155 : decide (15 < a - 3840) with
            | true =>
              cases h156 : decide (a - 3840 = 29) with
              | true =>
                refine ⟨f, ?_⟩
                refine q_Ca_of (Nat.le_of_ble_eq_true rfl) ?_
                refine q_Ru_seg (g2 := (7, [(0, .ref 64), (1, .int a)], [.int 3887, .int 3840, .int a], (q_cM (q_uA q_AM 33 f) I q_J0, 34, 31630))) 3 (fun _ _ => rfl) ?_
                refine q_Ru_call (v := (some (.int 1))) (h2 := (q_cM (q_uA q_AM 33 f) I q_J0, 34, 31630)) rfl rfl ?_ ?_
                · refine q_Ca_of (Nat.le_of_ble_eq_true rfl) ?_
                  refine q_Ru_seg (g2 := (2, [(0, .int a), (1, .int 3840), (2, .int 3887)], [.int 3840, .int a], (q_cM (q_uA q_AM 33 f) I q_J0, 34, 31630))) 2 (fun _ _ => rfl) ?_
                  refine q_Ru_rsF (g2 := (5, [(0, .int a), (1, .int 3840), (2, .int 3887)], [], (q_cM (q_uA q_AM 33 f) I q_J0, 34, 31630))) rfl rfl h133 ?_
                  refine q_Ru_seg (g2 := (7, [(0, .int a), (1, .int 3840), (2, .int 3887)], [.int 3887, .int a], (q_cM (q_uA q_AM 33 f) I q_J0, 34, 31630))) 2 (fun _ _ => rfl) ?_
                  refine q_Ru_rsF (g2 := (10, [(0, .int a), (1, .int 3840), (2, .int 3887)], [], (q_cM (q_uA q_AM 33 f) I q_J0, 34, 31630))) rfl rfl h142 ?_
                  refine q_Ru_seg (g2 := (15, [(0, .int a), (1, .int 3840), (2, .int 3887)], [.int 1], (q_cM (q_uA q_AM 33 f) I q_J0, 34, 31630))) 2 (fun _ _ => rfl) ?_
                  exact q_Ru_ret rfl rfl
                show q_Ru _ _ _ (10, [(0, .ref 64), (1, .int a)], [.int 1], (q_cM (q_uA q_AM 33 f) I q_J0, 34, 31630)) _
                refine q_Ru_seg (g2 := (19, [(0, .ref 64), (1, .int a)], [.int (a - 3840), .ref 64], (q_cM (q_uA q_AM 33 f) I q_J0, 34, 31630))) 5 (fun _ _ => rfl) ?_
                refine q_Ru_call (v := (some (.int 0))) (h2 := (q_cM (q_uA q_AM 33 f) I q_J0, 34, 31630)) rfl rfl ?_ ?_
                · refine q_Ca_of (Nat.le_of_ble_eq_true rfl) ?_
                  refine q_Ru_seg (g2 := (3, [(0, .ref 64), (1, .int (a - 3840))], [.int 9, .int (a - 3840)], (q_cM (q_uA q_AM 33 f) I q_J0, 34, 31630))) 2 (fun _ _ => rfl) ?_
                  refine q_Ru_rsT (g2 := (11, [(0, .ref 64), (1, .int (a - 3840))], [], (q_cM (q_uA q_AM 33 f) I q_J0, 34, 31630))) rfl rfl (q_d_neF h147) ?_
                  refine q_Ru_seg (g2 := (14, [(0, .ref 64), (1, .int (a - 3840))], [.int 10, .int (a - 3840)], (q_cM (q_uA q_AM 33 f) I q_J0, 34, 31630))) 2 (fun _ _ => rfl) ?_
                  refine q_Ru_rsT (g2 := (25, [(0, .ref 64), (1, .int (a - 3840))], [], (q_cM (q_uA q_AM 33 f) I q_J0, 34, 31630))) rfl rfl (q_d_neF h148) ?_
                  refine q_Ru_seg (g2 := (30, [(0, .ref 64), (1, .int (a - 3840))], [.int 15, .int 12, .int (a - 3840)], (q_cM (q_uA q_AM 33 f) I q_J0, 34, 31630))) 3 (fun _ _ => rfl) ?_
                  refine q_Ru_call (v := (some (.int 0))) (h2 := (q_cM (q_uA q_AM 33 f) I q_J0, 34, 31630)) rfl rfl ?_ ?_
                  · refine q_Ca_of (Nat.le_of_ble_eq_true rfl) ?_
                    refine q_Ru_seg (g2 := (2, [(0, .int (a - 3840)), (1, .int 12), (2, .int 15)], [.int 12, .int (a - 3840)], (q_cM (q_uA q_AM 33 f) I q_J0, 34, 31630))) 2 (fun _ _ => rfl) ?_
                    refine q_Ru_rsF (g2 := (5, [(0, .int (a - 3840)), (1, .int 12), (2, .int 15)], [], (q_cM (q_uA q_AM 33 f) I q_J0, 34, 31630))) rfl rfl h149 ?_
                    refine q_Ru_seg (g2 := (7, [(0, .int (a - 3840)), (1, .int 12), (2, .int 15)], [.int 15, .int (a - 3840)], (q_cM (q_uA q_AM 33 f) I q_J0, 34, 31630))) 2 (fun _ _ => rfl) ?_
                    refine q_Ru_rsT (g2 := (14, [(0, .int (a - 3840)), (1, .int 12), (2, .int 15)], [], (q_cM (q_uA q_AM 33 f) I q_J0, 34, 31630))) rfl rfl h155 ?_
                    refine q_Ru_seg (g2 := (15, [(0, .int (a - 3840)), (1, .int 12), (2, .int 15)], [.int 0], (q_cM (q_uA q_AM 33 f) I q_J0, 34, 31630))) 1 (fun _ _ => rfl) ?_
                    exact q_Ru_ret rfl rfl
                  show q_Ru _ _ _ (33, [(0, .ref 64), (1, .int (a - 3840))], [.int 0], (q_cM (q_uA q_AM 33 f) I q_J0, 34, 31630)) _
                  refine q_Ru_seg (g2 := (83, [(0, .ref 64), (1, .int (a - 3840))], [.int 29, .int (a - 3840)], (q_cM (q_uA q_AM 33 f) I q_J0, 34, 31630))) 3 (fun _ _ => rfl) ?_
                  refine q_Ru_rsF (g2 := (86, [(0, .ref 64), (1, .int (a - 3840))], [], (q_cM (q_uA q_AM 33 f) I q_J0, 34, 31630))) rfl rfl (q_d_neT h156) ?_
                  refine q_Ru_seg (g2 := (93, [(0, .ref 64), (1, .int (a - 3840))], [.int 0], (q_cM (q_uA q_AM 33 f) I q_J0, 34, 31630))) 4 (fun _ _ => rfl) ?_
                  exact q_Ru_ret rfl rfl
                show q_Ru _ _ _ (22, [(0, .ref 64), (1, .int a)], [.int 0], (q_cM (q_uA q_AM 33 f) I q_J0, 34, 31630)) _
                exact q_Ru_ret rfl rfl
              | false =>
                cases h157 : decide (a - 3840 = 30) with
                | true =>
                  refine ⟨f, ?_⟩
                  refine q_Ca_of (Nat.le_of_ble_eq_true rfl) ?_
                  refine q_Ru_seg (g2 := (7, [(0, .ref 64), (1, .int a)], [.int 3887, .int 3840, .int a], (q_cM (q_uA q_AM 33 f) I q_J0, 34, 31630))) 3 (fun _ _ => rfl) ?_
                  refine q_Ru_call (v := (some (.int 1))) (h2 := (q_cM (q_uA q_AM 33 f) I q_J0, 34, 31630)) rfl rfl ?_ ?_
                  · refine q_Ca_of (Nat.le_of_ble_eq_true rfl) ?_
                    refine q_Ru_seg (g2 := (2, [(0, .int a), (1, .int 3840), (2, .int 3887)], [.int 3840, .int a], (q_cM (q_uA q_AM 33 f) I q_J0, 34, 31630))) 2 (fun _ _ => rfl) ?_
                    refine q_Ru_rsF (g2 := (5, [(0, .int a), (1, .int 3840), (2, .int 3887)], [], (q_cM (q_uA q_AM 33 f) I q_J0, 34, 31630))) rfl rfl h133 ?_
                    refine q_Ru_seg (g2 := (7, [(0, .int a), (1, .int 3840), (2, .int 3887)], [.int 3887, .int a], (q_cM (q_uA q_AM 33 f) I q_J0, 34, 31630))) 2 (fun _ _ => rfl) ?_
                    refine q_Ru_rsF (g2 := (10, [(0, .int a), (1, .int 3840), (2, .int 3887)], [], (q_cM (q_uA q_AM 33 f) I q_J0, 34, 31630))) rfl rfl h142 ?_
                    refine q_Ru_seg (g2 := (15, [(0, .int a), (1, .int 3840), (2, .int 3887)], [.int 1], (q_cM (q_uA q_AM 33 f) I q_J0, 34, 31630))) 2 (fun _ _ => rfl) ?_
                    exact q_Ru_ret rfl rfl
                  show q_Ru _ _ _ (10, [(0, .ref 64), (1, .int a)], [.int 1], (q_cM (q_uA q_AM 33 f) I q_J0, 34, 31630)) _
                  refine q_Ru_seg (g2 := (19, [(0, .ref 64), (1, .int a)], [.int (a - 3840), .ref 64], (q_cM (q_uA q_AM 33 f) I q_J0, 34, 31630))) 5 (fun _ _ => rfl) ?_
                  refine q_Ru_call (v := (some (.int 0))) (h2 := (q_cM (q_uA q_AM 33 f) I q_J0, 34, 31630)) rfl rfl ?_ ?_
                  · refine q_Ca_of (Nat.le_of_ble_eq_true rfl) ?_
                    refine q_Ru_seg (g2 := (3, [(0, .ref 64), (1, .int (a - 3840))], [.int 9, .int (a - 3840)], (q_cM (q_uA q_AM 33 f) I q_J0, 34, 31630))) 2 (fun _ _ => rfl) ?_
                    refine q_Ru_rsT (g2 := (11, [(0, .ref 64), (1, .int (a - 3840))], [], (q_cM (q_uA q_AM 33 f) I q_J0, 34, 31630))) rfl rfl (q_d_neF h147) ?_
                    refine q_Ru_seg (g2 := (14, [(0, .ref 64), (1, .int (a - 3840))], [.int 10, .int (a - 3840)], (q_cM (q_uA q_AM 33 f) I q_J0, 34, 31630))) 2 (fun _ _ => rfl) ?_
                    refine q_Ru_rsT (g2 := (25, [(0, .ref 64), (1, .int (a - 3840))], [], (q_cM (q_uA q_AM 33 f) I q_J0, 34, 31630))) rfl rfl (q_d_neF h148) ?_
                    refine q_Ru_seg (g2 := (30, [(0, .ref 64), (1, .int (a - 3840))], [.int 15, .int 12, .int (a - 3840)], (q_cM (q_uA q_AM 33 f) I q_J0, 34, 31630))) 3 (fun _ _ => rfl) ?_
                    refine q_Ru_call (v := (some (.int 0))) (h2 := (q_cM (q_uA q_AM 33 f) I q_J0, 34, 31630)) rfl rfl ?_ ?_
                    · refine q_Ca_of (Nat.le_of_ble_eq_true rfl) ?_
                      refine q_Ru_seg (g2 := (2, [(0, .int (a - 3840)), (1, .int 12), (2, .int 15)], [.int 12, .int (a - 3840)], (q_cM (q_uA q_AM 33 f) I q_J0, 34, 31630))) 2 (fun _ _ => rfl) ?_
                      refine q_Ru_rsF (g2 := (5, [(0, .int (a - 3840)), (1, .int 12), (2, .int 15)], [], (q_cM (q_uA q_AM 33 f) I q_J0, 34, 31630))) rfl rfl h149 ?_
                      refine q_Ru_seg (g2 := (7, [(0, .int (a - 3840)), (1, .int 12), (2, .int 15)], [.int 15, .int (a - 3840)], (q_cM (q_uA q_AM 33 f) I q_J0, 34, 31630))) 2 (fun _ _ => rfl) ?_
                      refine q_Ru_rsT (g2 := (14, [(0, .int (a - 3840)), (1, .int 12), (2, .int 15)], [], (q_cM (q_uA q_AM 33 f) I q_J0, 34, 31630))) rfl rfl h155 ?_
                      refine q_Ru_seg (g2 := (15, [(0, .int (a - 3840)), (1, .int 12), (2, .int 15)], [.int 0], (q_cM (q_uA q_AM 33 f) I q_J0, 34, 31630))) 1 (fun _ _ => rfl) ?_
                      exact q_Ru_ret rfl rfl
                    show q_Ru _ _ _ (33, [(0, .ref 64), (1, .int (a - 3840))], [.int 0], (q_cM (q_uA q_AM 33 f) I q_J0, 34, 31630)) _
                    refine q_Ru_seg (g2 := (83, [(0, .ref 64), (1, .int (a - 3840))], [.int 29, .int (a - 3840)], (q_cM (q_uA q_AM 33 f) I q_J0, 34, 31630))) 3 (fun _ _ => rfl) ?_
                    refine q_Ru_rsT (g2 := (94, [(0, .ref 64), (1, .int (a - 3840))], [], (q_cM (q_uA q_AM 33 f) I q_J0, 34, 31630))) rfl rfl (q_d_neF h156) ?_
                    refine q_Ru_seg (g2 := (97, [(0, .ref 64), (1, .int (a - 3840))], [.int 30, .int (a - 3840)], (q_cM (q_uA q_AM 33 f) I q_J0, 34, 31630))) 2 (fun _ _ => rfl) ?_
                    refine q_Ru_rsF (g2 := (100, [(0, .ref 64), (1, .int (a - 3840))], [], (q_cM (q_uA q_AM 33 f) I q_J0, 34, 31630))) rfl rfl (q_d_neT h157) ?_
                    refine q_Ru_seg (g2 := (107, [(0, .ref 64), (1, .int (a - 3840))], [.int 0], (q_cM (q_uA q_AM 33 f) I q_J0, 34, 31630))) 4 (fun _ _ => rfl) ?_
                    exact q_Ru_ret rfl rfl
                  show q_Ru _ _ _ (22, [(0, .ref 64), (1, .int a)], [.int 0], (q_cM (q_uA q_AM 33 f) I q_J0, 34, 31630)) _
                  exact q_Ru_ret rfl rfl
                | false =>
                  cases h158 : decide (a - 3840 = 31) with
                  | true =>
                    refine ⟨(upd (upd (upd (upd (upd (upd (upd (upd f 0 0) 4 0) 1 0) 5 0) 2 0) 6 0) 3 0) 7 0), ?_⟩
                    refine q_Ca_of (Nat.le_of_ble_eq_true rfl) ?_
                    refine q_Ru_seg (g2 := (7, [(0, .ref 64), (1, .int a)], [.int 3887, .int 3840, .int a], (q_cM (q_uA q_AM 33 f) I q_J0, 34, 31630))) 3 (fun _ _ => rfl) ?_
                    refine q_Ru_call (v := (some (.int 1))) (h2 := (q_cM (q_uA q_AM 33 f) I q_J0, 34, 31630)) rfl rfl ?_ ?_
                    · refine q_Ca_of (Nat.le_of_ble_eq_true rfl) ?_
                      refine q_Ru_seg (g2 := (2, [(0, .int a), (1, .int 3840), (2, .int 3887)], [.int 3840, .int a], (q_cM (q_uA q_AM 33 f) I q_J0, 34, 31630))) 2 (fun _ _ => rfl) ?_
                      refine q_Ru_rsF (g2 := (5, [(0, .int a), (1, .int 3840), (2, .int 3887)], [], (q_cM (q_uA q_AM 33 f) I q_J0, 34, 31630))) rfl rfl h133 ?_
                      refine q_Ru_seg (g2 := (7, [(0, .int a), (1, .int 3840), (2, .int 3887)], [.int 3887, .int a], (q_cM (q_uA q_AM 33 f) I q_J0, 34, 31630))) 2 (fun _ _ => rfl) ?_
                      refine q_Ru_rsF (g2 := (10, [(0, .int a), (1, .int 3840), (2, .int 3887)], [], (q_cM (q_uA q_AM 33 f) I q_J0, 34, 31630))) rfl rfl h142 ?_
                      refine q_Ru_seg (g2 := (15, [(0, .int a), (1, .int 3840), (2, .int 3887)], [.int 1], (q_cM (q_uA q_AM 33 f) I q_J0, 34, 31630))) 2 (fun _ _ => rfl) ?_
                      exact q_Ru_ret rfl rfl
                    show q_Ru _ _ _ (10, [(0, .ref 64), (1, .int a)], [.int 1], (q_cM (q_uA q_AM 33 f) I q_J0, 34, 31630)) _
                    refine q_Ru_seg (g2 := (19, [(0, .ref 64), (1, .int a)], [.int (a - 3840), .ref 64], (q_cM (q_uA q_AM 33 f) I q_J0, 34, 31630))) 5 (fun _ _ => rfl) ?_
                    refine q_Ru_call (v := (some (.int 0))) (h2 := (q_cM (q_uA (q_uA (q_uA (q_uA (q_uA (q_uA (q_uA (q_uA (q_uA q_AM 33 f) 33 (upd f 0 0)) 33 (upd (upd f 0 0) 4 0)) 33 (upd (upd (upd f 0 0) 4 0) 1 0)) 33 (upd (upd (upd (upd f 0 0) 4 0) 1 0) 5 0)) 33 (upd (upd (upd (upd (upd f 0 0) 4 0) 1 0) 5 0) 2 0)) 33 (upd (upd (upd (upd (upd (upd f 0 0) 4 0) 1 0) 5 0) 2 0) 6 0)) 33 (upd (upd (upd (upd (upd (upd (upd f 0 0) 4 0) 1 0) 5 0) 2 0) 6 0) 3 0)) 33 (upd (upd (upd (upd (upd (upd (upd (upd f 0 0) 4 0) 1 0) 5 0) 2 0) 6 0) 3 0) 7 0)) I q_J0, 34, 31630)) rfl rfl ?_ ?_
                    · refine q_Ca_of (Nat.le_of_ble_eq_true rfl) ?_
                      refine q_Ru_seg (g2 := (3, [(0, .ref 64), (1, .int (a - 3840))], [.int 9, .int (a - 3840)], (q_cM (q_uA q_AM 33 f) I q_J0, 34, 31630))) 2 (fun _ _ => rfl) ?_
                      refine q_Ru_rsT (g2 := (11, [(0, .ref 64), (1, .int (a - 3840))], [], (q_cM (q_uA q_AM 33 f) I q_J0, 34, 31630))) rfl rfl (q_d_neF h147) ?_
                      refine q_Ru_seg (g2 := (14, [(0, .ref 64), (1, .int (a - 3840))], [.int 10, .int (a - 3840)], (q_cM (q_uA q_AM 33 f) I q_J0, 34, 31630))) 2 (fun _ _ => rfl) ?_
                      refine q_Ru_rsT (g2 := (25, [(0, .ref 64), (1, .int (a - 3840))], [], (q_cM (q_uA q_AM 33 f) I q_J0, 34, 31630))) rfl rfl (q_d_neF h148) ?_
                      refine q_Ru_seg (g2 := (30, [(0, .ref 64), (1, .int (a - 3840))], [.int 15, .int 12, .int (a - 3840)], (q_cM (q_uA q_AM 33 f) I q_J0, 34, 31630))) 3 (fun _ _ => rfl) ?_
                      refine q_Ru_call (v := (some (.int 0))) (h2 := (q_cM (q_uA q_AM 33 f) I q_J0, 34, 31630)) rfl rfl ?_ ?_
                      · refine q_Ca_of (Nat.le_of_ble_eq_true rfl) ?_
                        refine q_Ru_seg (g2 := (2, [(0, .int (a - 3840)), (1, .int 12), (2, .int 15)], [.int 12, .int (a - 3840)], (q_cM (q_uA q_AM 33 f) I q_J0, 34, 31630))) 2 (fun _ _ => rfl) ?_
                        refine q_Ru_rsF (g2 := (5, [(0, .int (a - 3840)), (1, .int 12), (2, .int 15)], [], (q_cM (q_uA q_AM 33 f) I q_J0, 34, 31630))) rfl rfl h149 ?_
                        refine q_Ru_seg (g2 := (7, [(0, .int (a - 3840)), (1, .int 12), (2, .int 15)], [.int 15, .int (a - 3840)], (q_cM (q_uA q_AM 33 f) I q_J0, 34, 31630))) 2 (fun _ _ => rfl) ?_
                        refine q_Ru_rsT (g2 := (14, [(0, .int (a - 3840)), (1, .int 12), (2, .int 15)], [], (q_cM (q_uA q_AM 33 f) I q_J0, 34, 31630))) rfl rfl h155 ?_
                        refine q_Ru_seg (g2 := (15, [(0, .int (a - 3840)), (1, .int 12), (2, .int 15)], [.int 0], (q_cM (q_uA q_AM 33 f) I q_J0, 34, 31630))) 1 (fun _ _ => rfl) ?_
                        exact q_Ru_ret rfl rfl
                      show q_Ru _ _ _ (33, [(0, .ref 64), (1, .int (a - 3840))], [.int 0], (q_cM (q_uA q_AM 33 f) I q_J0, 34, 31630)) _
                      refine q_Ru_seg (g2 := (83, [(0, .ref 64), (1, .int (a - 3840))], [.int 29, .int (a - 3840)], (q_cM (q_uA q_AM 33 f) I q_J0, 34, 31630))) 3 (fun _ _ => rfl) ?_
                      refine q_Ru_rsT (g2 := (94, [(0, .ref 64), (1, .int (a - 3840))], [], (q_cM (q_uA q_AM 33 f) I q_J0, 34, 31630))) rfl rfl (q_d_neF h156) ?_
                      refine q_Ru_seg (g2 := (97, [(0, .ref 64), (1, .int (a - 3840))], [.int 30, .int (a - 3840)], (q_cM (q_uA q_AM 33 f) I q_J0, 34, 31630))) 2 (fun _ _ => rfl) ?_
                      refine q_Ru_rsT (g2 := (108, [(0, .ref 64), (1, .int (a - 3840))], [], (q_cM (q_uA q_AM 33 f) I q_J0, 34, 31630))) rfl rfl (q_d_neF h157) ?_
                      refine q_Ru_seg (g2 := (111, [(0, .ref 64), (1, .int (a - 3840))], [.int 31, .int (a - 3840)], (q_cM (q_uA q_AM 33 f) I q_J0, 34, 31630))) 2 (fun _ _ => rfl) ?_
                      refine q_Ru_rsF (g2 := (114, [(0, .ref 64), (1, .int (a - 3840))], [], (q_cM (q_uA q_AM 33 f) I q_J0, 34, 31630))) rfl rfl (q_d_neT h158) ?_
                      refine q_Ru_seg (g2 := (122, [(0, .ref 64), (1, .int (a - 3840))], [.int 0, .ref 64], (q_cM (q_uA q_AM 33 f) I q_J0, 34, 31630))) 5 (fun _ _ => rfl) ?_
                      refine q_Ru_call (v := (some (.int 0))) (h2 := (q_cM (q_uA (q_uA (q_uA (q_uA (q_uA (q_uA (q_uA (q_uA (q_uA q_AM 33 f) 33 (upd f 0 0)) 33 (upd (upd f 0 0) 4 0)) 33 (upd (upd (upd f 0 0) 4 0) 1 0)) 33 (upd (upd (upd (upd f 0 0) 4 0) 1 0) 5 0)) 33 (upd (upd (upd (upd (upd f 0 0) 4 0) 1 0) 5 0) 2 0)) 33 (upd (upd (upd (upd (upd (upd f 0 0) 4 0) 1 0) 5 0) 2 0) 6 0)) 33 (upd (upd (upd (upd (upd (upd (upd f 0 0) 4 0) 1 0) 5 0) 2 0) 6 0) 3 0)) 33 (upd (upd (upd (upd (upd (upd (upd (upd f 0 0) 4 0) 1 0) 5 0) 2 0) 6 0) 3 0) 7 0)) I q_J0, 34, 31630)) rfl rfl ?_ ?_
                      · refine q_Ca_of (Nat.le_of_ble_eq_true rfl) ?_
                        refine q_Ru_seg (g2 := (14, [(2, .int 0), (0, .ref 64), (1, .int 0)], [.int 0, .int 0, .int 0, .ref 97], (q_cM (q_uA q_AM 33 f) I q_J0, 34, 31630))) 10 (fun _ _ => rfl) ?_
                        refine q_Ru_call (v := (some (.int 0))) (h2 := (q_cM (q_uA q_AM 33 f) I q_J0, 34, 31630)) rfl rfl ?_ ?_
                        · refine q_Ca_of (Nat.le_of_ble_eq_true rfl) ?_
                          refine q_Ru_seg (g2 := (14, [(0, .int 0), (1, .int 0)], [.int 0], (q_cM (q_uA q_AM 33 f) I q_J0, 34, 31630))) 8 (fun _ _ => rfl) ?_
                          exact q_Ru_ret rfl rfl
                        show q_Ru _ _ _ (17, [(2, .int 0), (0, .ref 64), (1, .int 0)], [.int 0, .int 0, .ref 97], (q_cM (q_uA q_AM 33 f) I q_J0, 34, 31630)) _
                        refine q_Ru_seg (g2 := (14, [(2, .int 1), (0, .ref 64), (1, .int 0)], [.int 1, .int 0, .int 1, .ref 97], (q_cM (q_uA (q_uA (q_uA q_AM 33 f) 33 (upd f 0 0)) 33 (upd (upd f 0 0) 4 0)) I q_J0, 34, 31630))) 18 (fun _ _ => rfl) ?_
                        refine q_Ru_call (v := (some (.int 0))) (h2 := (q_cM (q_uA (q_uA (q_uA q_AM 33 f) 33 (upd f 0 0)) 33 (upd (upd f 0 0) 4 0)) I q_J0, 34, 31630)) rfl rfl ?_ ?_
                        · refine q_Ca_of (Nat.le_of_ble_eq_true rfl) ?_
                          refine q_Ru_seg (g2 := (14, [(0, .int 0), (1, .int 1)], [.int 0], (q_cM (q_uA (q_uA (q_uA q_AM 33 f) 33 (upd f 0 0)) 33 (upd (upd f 0 0) 4 0)) I q_J0, 34, 31630))) 8 (fun _ _ => rfl) ?_
                          exact q_Ru_ret rfl rfl
                        show q_Ru _ _ _ (17, [(2, .int 1), (0, .ref 64), (1, .int 0)], [.int 0, .int 1, .ref 97], (q_cM (q_uA (q_uA (q_uA q_AM 33 f) 33 (upd f 0 0)) 33 (upd (upd f 0 0) 4 0)) I q_J0, 34, 31630)) _
                        refine q_Ru_seg (g2 := (14, [(2, .int 2), (0, .ref 64), (1, .int 0)], [.int 2, .int 0, .int 2, .ref 97], (q_cM (q_uA (q_uA (q_uA (q_uA (q_uA q_AM 33 f) 33 (upd f 0 0)) 33 (upd (upd f 0 0) 4 0)) 33 (upd (upd (upd f 0 0) 4 0) 1 0)) 33 (upd (upd (upd (upd f 0 0) 4 0) 1 0) 5 0)) I q_J0, 34, 31630))) 18 (fun _ _ => rfl) ?_
                        refine q_Ru_call (v := (some (.int 0))) (h2 := (q_cM (q_uA (q_uA (q_uA (q_uA (q_uA q_AM 33 f) 33 (upd f 0 0)) 33 (upd (upd f 0 0) 4 0)) 33 (upd (upd (upd f 0 0) 4 0) 1 0)) 33 (upd (upd (upd (upd f 0 0) 4 0) 1 0) 5 0)) I q_J0, 34, 31630)) rfl rfl ?_ ?_
                        · refine q_Ca_of (Nat.le_of_ble_eq_true rfl) ?_
                          refine q_Ru_seg (g2 := (14, [(0, .int 0), (1, .int 2)], [.int 0], (q_cM (q_uA (q_uA (q_uA (q_uA (q_uA q_AM 33 f) 33 (upd f 0 0)) 33 (upd (upd f 0 0) 4 0)) 33 (upd (upd (upd f 0 0) 4 0) 1 0)) 33 (upd (upd (upd (upd f 0 0) 4 0) 1 0) 5 0)) I q_J0, 34, 31630))) 8 (fun _ _ => rfl) ?_
                          exact q_Ru_ret rfl rfl
                        show q_Ru _ _ _ (17, [(2, .int 2), (0, .ref 64), (1, .int 0)], [.int 0, .int 2, .ref 97], (q_cM (q_uA (q_uA (q_uA (q_uA (q_uA q_AM 33 f) 33 (upd f 0 0)) 33 (upd (upd f 0 0) 4 0)) 33 (upd (upd (upd f 0 0) 4 0) 1 0)) 33 (upd (upd (upd (upd f 0 0) 4 0) 1 0) 5 0)) I q_J0, 34, 31630)) _
                        refine q_Ru_seg (g2 := (14, [(2, .int 3), (0, .ref 64), (1, .int 0)], [.int 3, .int 0, .int 3, .ref 97], (q_cM (q_uA (q_uA (q_uA (q_uA (q_uA (q_uA (q_uA q_AM 33 f) 33 (upd f 0 0)) 33 (upd (upd f 0 0) 4 0)) 33 (upd (upd (upd f 0 0) 4 0) 1 0)) 33 (upd (upd (upd (upd f 0 0) 4 0) 1 0) 5 0)) 33 (upd (upd (upd (upd (upd f 0 0) 4 0) 1 0) 5 0) 2 0)) 33 (upd (upd (upd (upd (upd (upd f 0 0) 4 0) 1 0) 5 0) 2 0) 6 0)) I q_J0, 34, 31630))) 18 (fun _ _ => rfl) ?_
                        refine q_Ru_call (v := (some (.int 0))) (h2 := (q_cM (q_uA (q_uA (q_uA (q_uA (q_uA (q_uA (q_uA q_AM 33 f) 33 (upd f 0 0)) 33 (upd (upd f 0 0) 4 0)) 33 (upd (upd (upd f 0 0) 4 0) 1 0)) 33 (upd (upd (upd (upd f 0 0) 4 0) 1 0) 5 0)) 33 (upd (upd (upd (upd (upd f 0 0) 4 0) 1 0) 5 0) 2 0)) 33 (upd (upd (upd (upd (upd (upd f 0 0) 4 0) 1 0) 5 0) 2 0) 6 0)) I q_J0, 34, 31630)) rfl rfl ?_ ?_
                        · refine q_Ca_of (Nat.le_of_ble_eq_true rfl) ?_
                          refine q_Ru_seg (g2 := (14, [(0, .int 0), (1, .int 3)], [.int 0], (q_cM (q_uA (q_uA (q_uA (q_uA (q_uA (q_uA (q_uA q_AM 33 f) 33 (upd f 0 0)) 33 (upd (upd f 0 0) 4 0)) 33 (upd (upd (upd f 0 0) 4 0) 1 0)) 33 (upd (upd (upd (upd f 0 0) 4 0) 1 0) 5 0)) 33 (upd (upd (upd (upd (upd f 0 0) 4 0) 1 0) 5 0) 2 0)) 33 (upd (upd (upd (upd (upd (upd f 0 0) 4 0) 1 0) 5 0) 2 0) 6 0)) I q_J0, 34, 31630))) 8 (fun _ _ => rfl) ?_
                          exact q_Ru_ret rfl rfl
                        show q_Ru _ _ _ (17, [(2, .int 3), (0, .ref 64), (1, .int 0)], [.int 0, .int 3, .ref 97], (q_cM (q_uA (q_uA (q_uA (q_uA (q_uA (q_uA (q_uA q_AM 33 f) 33 (upd f 0 0)) 33 (upd (upd f 0 0) 4 0)) 33 (upd (upd (upd f 0 0) 4 0) 1 0)) 33 (upd (upd (upd (upd f 0 0) 4 0) 1 0) 5 0)) 33 (upd (upd (upd (upd (upd f 0 0) 4 0) 1 0) 5 0) 2 0)) 33 (upd (upd (upd (upd (upd (upd f 0 0) 4 0) 1 0) 5 0) 2 0) 6 0)) I q_J0, 34, 31630)) _
                        refine q_Ru_seg (g2 := (55, [(3, .int 0), (2, .int 0), (0, .ref 64), (1, .int 0)], [.int 0], (q_cM (q_uA (q_uA (q_uA (q_uA (q_uA (q_uA (q_uA (q_uA (q_uA q_AM 33 f) 33 (upd f 0 0)) 33 (upd (upd f 0 0) 4 0)) 33 (upd (upd (upd f 0 0) 4 0) 1 0)) 33 (upd (upd (upd (upd f 0 0) 4 0) 1 0) 5 0)) 33 (upd (upd (upd (upd (upd f 0 0) 4 0) 1 0) 5 0) 2 0)) 33 (upd (upd (upd (upd (upd (upd f 0 0) 4 0) 1 0) 5 0) 2 0) 6 0)) 33 (upd (upd (upd (upd (upd (upd (upd f 0 0) 4 0) 1 0) 5 0) 2 0) 6 0) 3 0)) 33 (upd (upd (upd (upd (upd (upd (upd (upd f 0 0) 4 0) 1 0) 5 0) 2 0) 6 0) 3 0) 7 0)) I q_J0, 34, 31630))) 27 (fun _ _ => rfl) ?_
                        refine q_Ru_seg (g2 := (55, [(3, .int 1), (2, .int 0), (0, .ref 64), (1, .int 0)], [.int 0], (q_cM (q_uA (q_uA (q_uA (q_uA (q_uA (q_uA (q_uA (q_uA (q_uA q_AM 33 f) 33 (upd f 0 0)) 33 (upd (upd f 0 0) 4 0)) 33 (upd (upd (upd f 0 0) 4 0) 1 0)) 33 (upd (upd (upd (upd f 0 0) 4 0) 1 0) 5 0)) 33 (upd (upd (upd (upd (upd f 0 0) 4 0) 1 0) 5 0) 2 0)) 33 (upd (upd (upd (upd (upd (upd f 0 0) 4 0) 1 0) 5 0) 2 0) 6 0)) 33 (upd (upd (upd (upd (upd (upd (upd f 0 0) 4 0) 1 0) 5 0) 2 0) 6 0) 3 0)) 33 (upd (upd (upd (upd (upd (upd (upd (upd f 0 0) 4 0) 1 0) 5 0) 2 0) 6 0) 3 0) 7 0)) I q_J0, 34, 31630))) 11 (fun _ _ => rfl) ?_
                        refine q_Ru_seg (g2 := (55, [(3, .int 2), (2, .int 0), (0, .ref 64), (1, .int 0)], [.int 0], (q_cM (q_uA (q_uA (q_uA (q_uA (q_uA (q_uA (q_uA (q_uA (q_uA q_AM 33 f) 33 (upd f 0 0)) 33 (upd (upd f 0 0) 4 0)) 33 (upd (upd (upd f 0 0) 4 0) 1 0)) 33 (upd (upd (upd (upd f 0 0) 4 0) 1 0) 5 0)) 33 (upd (upd (upd (upd (upd f 0 0) 4 0) 1 0) 5 0) 2 0)) 33 (upd (upd (upd (upd (upd (upd f 0 0) 4 0) 1 0) 5 0) 2 0) 6 0)) 33 (upd (upd (upd (upd (upd (upd (upd f 0 0) 4 0) 1 0) 5 0) 2 0) 6 0) 3 0)) 33 (upd (upd (upd (upd (upd (upd (upd (upd f 0 0) 4 0) 1 0) 5 0) 2 0) 6 0) 3 0) 7 0)) I q_J0, 34, 31630))) 11 (fun _ _ => rfl) ?_
                        refine q_Ru_seg (g2 := (55, [(3, .int 3), (2, .int 0), (0, .ref 64), (1, .int 0)], [.int 0], (q_cM (q_uA (q_uA (q_uA (q_uA (q_uA (q_uA (q_uA (q_uA (q_uA q_AM 33 f) 33 (upd f 0 0)) 33 (upd (upd f 0 0) 4 0)) 33 (upd (upd (upd f 0 0) 4 0) 1 0)) 33 (upd (upd (upd (upd f 0 0) 4 0) 1 0) 5 0)) 33 (upd (upd (upd (upd (upd f 0 0) 4 0) 1 0) 5 0) 2 0)) 33 (upd (upd (upd (upd (upd (upd f 0 0) 4 0) 1 0) 5 0) 2 0) 6 0)) 33 (upd (upd (upd (upd (upd (upd (upd f 0 0) 4 0) 1 0) 5 0) 2 0) 6 0) 3 0)) 33 (upd (upd (upd (upd (upd (upd (upd (upd f 0 0) 4 0) 1 0) 5 0) 2 0) 6 0) 3 0) 7 0)) I q_J0, 34, 31630))) 11 (fun _ _ => rfl) ?_
                        refine q_Ru_seg (g2 := (55, [(3, .int 4), (2, .int 0), (0, .ref 64), (1, .int 0)], [.int 0], (q_cM (q_uA (q_uA (q_uA (q_uA (q_uA (q_uA (q_uA (q_uA (q_uA q_AM 33 f) 33 (upd f 0 0)) 33 (upd (upd f 0 0) 4 0)) 33 (upd (upd (upd f 0 0) 4 0) 1 0)) 33 (upd (upd (upd (upd f 0 0) 4 0) 1 0) 5 0)) 33 (upd (upd (upd (upd (upd f 0 0) 4 0) 1 0) 5 0) 2 0)) 33 (upd (upd (upd (upd (upd (upd f 0 0) 4 0) 1 0) 5 0) 2 0) 6 0)) 33 (upd (upd (upd (upd (upd (upd (upd f 0 0) 4 0) 1 0) 5 0) 2 0) 6 0) 3 0)) 33 (upd (upd (upd (upd (upd (upd (upd (upd f 0 0) 4 0) 1 0) 5 0) 2 0) 6 0) 3 0) 7 0)) I q_J0, 34, 31630))) 11 (fun _ _ => rfl) ?_
                        refine q_Ru_seg (g2 := (55, [(3, .int 5), (2, .int 0), (0, .ref 64), (1, .int 0)], [.int 0], (q_cM (q_uA (q_uA (q_uA (q_uA (q_uA (q_uA (q_uA (q_uA (q_uA q_AM 33 f) 33 (upd f 0 0)) 33 (upd (upd f 0 0) 4 0)) 33 (upd (upd (upd f 0 0) 4 0) 1 0)) 33 (upd (upd (upd (upd f 0 0) 4 0) 1 0) 5 0)) 33 (upd (upd (upd (upd (upd f 0 0) 4 0) 1 0) 5 0) 2 0)) 33 (upd (upd (upd (upd (upd (upd f 0 0) 4 0) 1 0) 5 0) 2 0) 6 0)) 33 (upd (upd (upd (upd (upd (upd (upd f 0 0) 4 0) 1 0) 5 0) 2 0) 6 0) 3 0)) 33 (upd (upd (upd (upd (upd (upd (upd (upd f 0 0) 4 0) 1 0) 5 0) 2 0) 6 0) 3 0) 7 0)) I q_J0, 34, 31630))) 11 (fun _ _ => rfl) ?_
                        refine q_Ru_seg (g2 := (55, [(3, .int 6), (2, .int 0), (0, .ref 64), (1, .int 0)], [.int 0], (q_cM (q_uA (q_uA (q_uA (q_uA (q_uA (q_uA (q_uA (q_uA (q_uA q_AM 33 f) 33 (upd f 0 0)) 33 (upd (upd f 0 0) 4 0)) 33 (upd (upd (upd f 0 0) 4 0) 1 0)) 33 (upd (upd (upd (upd f 0 0) 4 0) 1 0) 5 0)) 33 (upd (upd (upd (upd (upd f 0 0) 4 0) 1 0) 5 0) 2 0)) 33 (upd (upd (upd (upd (upd (upd f 0 0) 4 0) 1 0) 5 0) 2 0) 6 0)) 33 (upd (upd (upd (upd (upd (upd (upd f 0 0) 4 0) 1 0) 5 0) 2 0) 6 0) 3 0)) 33 (upd (upd (upd (upd (upd (upd (upd (upd f 0 0) 4 0) 1 0) 5 0) 2 0) 6 0) 3 0) 7 0)) I q_J0, 34, 31630))) 11 (fun _ _ => rfl) ?_
                        refine q_Ru_seg (g2 := (55, [(3, .int 7), (2, .int 0), (0, .ref 64), (1, .int 0)], [.int 0], (q_cM (q_uA (q_uA (q_uA (q_uA (q_uA (q_uA (q_uA (q_uA (q_uA q_AM 33 f) 33 (upd f 0 0)) 33 (upd (upd f 0 0) 4 0)) 33 (upd (upd (upd f 0 0) 4 0) 1 0)) 33 (upd (upd (upd (upd f 0 0) 4 0) 1 0) 5 0)) 33 (upd (upd (upd (upd (upd f 0 0) 4 0) 1 0) 5 0) 2 0)) 33 (upd (upd (upd (upd (upd (upd f 0 0) 4 0) 1 0) 5 0) 2 0) 6 0)) 33 (upd (upd (upd (upd (upd (upd (upd f 0 0) 4 0) 1 0) 5 0) 2 0) 6 0) 3 0)) 33 (upd (upd (upd (upd (upd (upd (upd (upd f 0 0) 4 0) 1 0) 5 0) 2 0) 6 0) 3 0) 7 0)) I q_J0, 34, 31630))) 11 (fun _ _ => rfl) ?_
                        refine q_Ru_seg (g2 := (55, [(3, .int 8), (2, .int 0), (0, .ref 64), (1, .int 0)], [.int 0], (q_cM (q_uA (q_uA (q_uA (q_uA (q_uA (q_uA (q_uA (q_uA (q_uA q_AM 33 f) 33 (upd f 0 0)) 33 (upd (upd f 0 0) 4 0)) 33 (upd (upd (upd f 0 0) 4 0) 1 0)) 33 (upd (upd (upd (upd f 0 0) 4 0) 1 0) 5 0)) 33 (upd (upd (upd (upd (upd f 0 0) 4 0) 1 0) 5 0) 2 0)) 33 (upd (upd (upd (upd (upd (upd f 0 0) 4 0) 1 0) 5 0) 2 0) 6 0)) 33 (upd (upd (upd (upd (upd (upd (upd f 0 0) 4 0) 1 0) 5 0) 2 0) 6 0) 3 0)) 33 (upd (upd (upd (upd (upd (upd (upd (upd f 0 0) 4 0) 1 0) 5 0) 2 0) 6 0) 3 0) 7 0)) I q_J0, 34, 31630))) 11 (fun _ _ => rfl) ?_
                        refine q_Ru_seg (g2 := (55, [(3, .int 9), (2, .int 0), (0, .ref 64), (1, .int 0)], [.int 0], (q_cM (q_uA (q_uA (q_uA (q_uA (q_uA (q_uA (q_uA (q_uA (q_uA q_AM 33 f) 33 (upd f 0 0)) 33 (upd (upd f 0 0) 4 0)) 33 (upd (upd (upd f 0 0) 4 0) 1 0)) 33 (upd (upd (upd (upd f 0 0) 4 0) 1 0) 5 0)) 33 (upd (upd (upd (upd (upd f 0 0) 4 0) 1 0) 5 0) 2 0)) 33 (upd (upd (upd (upd (upd (upd f 0 0) 4 0) 1 0) 5 0) 2 0) 6 0)) 33 (upd (upd (upd (upd (upd (upd (upd f 0 0) 4 0) 1 0) 5 0) 2 0) 6 0) 3 0)) 33 (upd (upd (upd (upd (upd (upd (upd (upd f 0 0) 4 0) 1 0) 5 0) 2 0) 6 0) 3 0) 7 0)) I q_J0, 34, 31630))) 11 (fun _ _ => rfl) ?_
                        refine q_Ru_seg (g2 := (55, [(3, .int 10), (2, .int 0), (0, .ref 64), (1, .int 0)], [.int 0], (q_cM (q_uA (q_uA (q_uA (q_uA (q_uA (q_uA (q_uA (q_uA (q_uA q_AM 33 f) 33 (upd f 0 0)) 33 (upd (upd f 0 0) 4 0)) 33 (upd (upd (upd f 0 0) 4 0) 1 0)) 33 (upd (upd (upd (upd f 0 0) 4 0) 1 0) 5 0)) 33 (upd (upd (upd (upd (upd f 0 0) 4 0) 1 0) 5 0) 2 0)) 33 (upd (upd (upd (upd (upd (upd f 0 0) 4 0) 1 0) 5 0) 2 0) 6 0)) 33 (upd (upd (upd (upd (upd (upd (upd f 0 0) 4 0) 1 0) 5 0) 2 0) 6 0) 3 0)) 33 (upd (upd (upd (upd (upd (upd (upd (upd f 0 0) 4 0) 1 0) 5 0) 2 0) 6 0) 3 0) 7 0)) I q_J0, 34, 31630))) 11 (fun _ _ => rfl) ?_
                        refine q_Ru_seg (g2 := (55, [(3, .int 11), (2, .int 0), (0, .ref 64), (1, .int 0)], [.int 0], (q_cM (q_uA (q_uA (q_uA (q_uA (q_uA (q_uA (q_uA (q_uA (q_uA q_AM 33 f) 33 (upd f 0 0)) 33 (upd (upd f 0 0) 4 0)) 33 (upd (upd (upd f 0 0) 4 0) 1 0)) 33 (upd (upd (upd (upd f 0 0) 4 0) 1 0) 5 0)) 33 (upd (upd (upd (upd (upd f 0 0) 4 0) 1 0) 5 0) 2 0)) 33 (upd (upd (upd (upd (upd (upd f 0 0) 4 0) 1 0) 5 0) 2 0) 6 0)) 33 (upd (upd (upd (upd (upd (upd (upd f 0 0) 4 0) 1 0) 5 0) 2 0) 6 0) 3 0)) 33 (upd (upd (upd (upd (upd (upd (upd (upd f 0 0) 4 0) 1 0) 5 0) 2 0) 6 0) 3 0) 7 0)) I q_J0, 34, 31630))) 11 (fun _ _ => rfl) ?_
                        refine q_Ru_seg (g2 := (55, [(3, .int 12), (2, .int 0), (0, .ref 64), (1, .int 0)], [.int 0], (q_cM (q_uA (q_uA (q_uA (q_uA (q_uA (q_uA (q_uA (q_uA (q_uA q_AM 33 f) 33 (upd f 0 0)) 33 (upd (upd f 0 0) 4 0)) 33 (upd (upd (upd f 0 0) 4 0) 1 0)) 33 (upd (upd (upd (upd f 0 0) 4 0) 1 0) 5 0)) 33 (upd (upd (upd (upd (upd f 0 0) 4 0) 1 0) 5 0) 2 0)) 33 (upd (upd (upd (upd (upd (upd f 0 0) 4 0) 1 0) 5 0) 2 0) 6 0)) 33 (upd (upd (upd (upd (upd (upd (upd f 0 0) 4 0) 1 0) 5 0) 2 0) 6 0) 3 0)) 33 (upd (upd (upd (upd (upd (upd (upd (upd f 0 0) 4 0) 1 0) 5 0) 2 0) 6 0) 3 0) 7 0)) I q_J0, 34, 31630))) 11 (fun _ _ => rfl) ?_
                        refine q_Ru_seg (g2 := (55, [(3, .int 13), (2, .int 0), (0, .ref 64), (1, .int 0)], [.int 0], (q_cM (q_uA (q_uA (q_uA (q_uA (q_uA (q_uA (q_uA (q_uA (q_uA q_AM 33 f) 33 (upd f 0 0)) 33 (upd (upd f 0 0) 4 0)) 33 (upd (upd (upd f 0 0) 4 0) 1 0)) 33 (upd (upd (upd (upd f 0 0) 4 0) 1 0) 5 0)) 33 (upd (upd (upd (upd (upd f 0 0) 4 0) 1 0) 5 0) 2 0)) 33 (upd (upd (upd (upd (upd (upd f 0 0) 4 0) 1 0) 5 0) 2 0) 6 0)) 33 (upd (upd (upd (upd (upd (upd (upd f 0 0) 4 0) 1 0) 5 0) 2 0) 6 0) 3 0)) 33 (upd (upd (upd (upd (upd (upd (upd (upd f 0 0) 4 0) 1 0) 5 0) 2 0) 6 0) 3 0) 7 0)) I q_J0, 34, 31630))) 11 (fun _ _ => rfl) ?_
                        refine q_Ru_seg (g2 := (55, [(3, .int 14), (2, .int 0), (0, .ref 64), (1, .int 0)], [.int 0], (q_cM (q_uA (q_uA (q_uA (q_uA (q_uA (q_uA (q_uA (q_uA (q_uA q_AM 33 f) 33 (upd f 0 0)) 33 (upd (upd f 0 0) 4 0)) 33 (upd (upd (upd f 0 0) 4 0) 1 0)) 33 (upd (upd (upd (upd f 0 0) 4 0) 1 0) 5 0)) 33 (upd (upd (upd (upd (upd f 0 0) 4 0) 1 0) 5 0) 2 0)) 33 (upd (upd (upd (upd (upd (upd f 0 0) 4 0) 1 0) 5 0) 2 0) 6 0)) 33 (upd (upd (upd (upd (upd (upd (upd f 0 0) 4 0) 1 0) 5 0) 2 0) 6 0) 3 0)) 33 (upd (upd (upd (upd (upd (upd (upd (upd f 0 0) 4 0) 1 0) 5 0) 2 0) 6 0) 3 0) 7 0)) I q_J0, 34, 31630))) 11 (fun _ _ => rfl) ?_
                        refine q_Ru_seg (g2 := (55, [(3, .int 15), (2, .int 0), (0, .ref 64), (1, .int 0)], [.int 0], (q_cM (q_uA (q_uA (q_uA (q_uA (q_uA (q_uA (q_uA (q_uA (q_uA q_AM 33 f) 33 (upd f 0 0)) 33 (upd (upd f 0 0) 4 0)) 33 (upd (upd (upd f 0 0) 4 0) 1 0)) 33 (upd (upd (upd (upd f 0 0) 4 0) 1 0) 5 0)) 33 (upd (upd (upd (upd (upd f 0 0) 4 0) 1 0) 5 0) 2 0)) 33 (upd (upd (upd (upd (upd (upd f 0 0) 4 0) 1 0) 5 0) 2 0) 6 0)) 33 (upd (upd (upd (upd (upd (upd (upd f 0 0) 4 0) 1 0) 5 0) 2 0) 6 0) 3 0)) 33 (upd (upd (upd (upd (upd (upd (upd (upd f 0 0) 4 0) 1 0) 5 0) 2 0) 6 0) 3 0) 7 0)) I q_J0, 34, 31630))) 11 (fun _ _ => rfl) ?_
                        refine q_Ru_seg (g2 := (55, [(3, .int 0), (2, .int 1), (0, .ref 64), (1, .int 0)], [.int 0], (q_cM (q_uA (q_uA (q_uA (q_uA (q_uA (q_uA (q_uA (q_uA (q_uA q_AM 33 f) 33 (upd f 0 0)) 33 (upd (upd f 0 0) 4 0)) 33 (upd (upd (upd f 0 0) 4 0) 1 0)) 33 (upd (upd (upd (upd f 0 0) 4 0) 1 0) 5 0)) 33 (upd (upd (upd (upd (upd f 0 0) 4 0) 1 0) 5 0) 2 0)) 33 (upd (upd (upd (upd (upd (upd f 0 0) 4 0) 1 0) 5 0) 2 0) 6 0)) 33 (upd (upd (upd (upd (upd (upd (upd f 0 0) 4 0) 1 0) 5 0) 2 0) 6 0) 3 0)) 33 (upd (upd (upd (upd (upd (upd (upd (upd f 0 0) 4 0) 1 0) 5 0) 2 0) 6 0) 3 0) 7 0)) I q_J0, 34, 31630))) 21 (fun _ _ => rfl) ?_
                        refine q_Ru_seg (g2 := (55, [(3, .int 1), (2, .int 1), (0, .ref 64), (1, .int 0)], [.int 0], (q_cM (q_uA (q_uA (q_uA (q_uA (q_uA (q_uA (q_uA (q_uA (q_uA q_AM 33 f) 33 (upd f 0 0)) 33 (upd (upd f 0 0) 4 0)) 33 (upd (upd (upd f 0 0) 4 0) 1 0)) 33 (upd (upd (upd (upd f 0 0) 4 0) 1 0) 5 0)) 33 (upd (upd (upd (upd (upd f 0 0) 4 0) 1 0) 5 0) 2 0)) 33 (upd (upd (upd (upd (upd (upd f 0 0) 4 0) 1 0) 5 0) 2 0) 6 0)) 33 (upd (upd (upd (upd (upd (upd (upd f 0 0) 4 0) 1 0) 5 0) 2 0) 6 0) 3 0)) 33 (upd (upd (upd (upd (upd (upd (upd (upd f 0 0) 4 0) 1 0) 5 0) 2 0) 6 0) 3 0) 7 0)) I q_J0, 34, 31630))) 11 (fun _ _ => rfl) ?_
                        refine q_Ru_seg (g2 := (55, [(3, .int 2), (2, .int 1), (0, .ref 64), (1, .int 0)], [.int 0], (q_cM (q_uA (q_uA (q_uA (q_uA (q_uA (q_uA (q_uA (q_uA (q_uA q_AM 33 f) 33 (upd f 0 0)) 33 (upd (upd f 0 0) 4 0)) 33 (upd (upd (upd f 0 0) 4 0) 1 0)) 33 (upd (upd (upd (upd f 0 0) 4 0) 1 0) 5 0)) 33 (upd (upd (upd (upd (upd f 0 0) 4 0) 1 0) 5 0) 2 0)) 33 (upd (upd (upd (upd (upd (upd f 0 0) 4 0) 1 0) 5 0) 2 0) 6 0)) 33 (upd (upd (upd (upd (upd (upd (upd f 0 0) 4 0) 1 0) 5 0) 2 0) 6 0) 3 0)) 33 (upd (upd (upd (upd (upd (upd (upd (upd f 0 0) 4 0) 1 0) 5 0) 2 0) 6 0) 3 0) 7 0)) I q_J0, 34, 31630))) 11 (fun _ _ => rfl) ?_
                        refine q_Ru_seg (g2 := (55, [(3, .int 3), (2, .int 1), (0, .ref 64), (1, .int 0)], [.int 0], (q_cM (q_uA (q_uA (q_uA (q_uA (q_uA (q_uA (q_uA (q_uA (q_uA q_AM 33 f) 33 (upd f 0 0)) 33 (upd (upd f 0 0) 4 0)) 33 (upd (upd (upd f 0 0) 4 0) 1 0)) 33 (upd (upd (upd (upd f 0 0) 4 0) 1 0) 5 0)) 33 (upd (upd (upd (upd (upd f 0 0) 4 0) 1 0) 5 0) 2 0)) 33 (upd (upd (upd (upd (upd (upd f 0 0) 4 0) 1 0) 5 0) 2 0) 6 0)) 33 (upd (upd (upd (upd (upd (upd (upd f 0 0) 4 0) 1 0) 5 0) 2 0) 6 0) 3 0)) 33 (upd (upd (upd (upd (upd (upd (upd (upd f 0 0) 4 0) 1 0) 5 0) 2 0) 6 0) 3 0) 7 0)) I q_J0, 34, 31630))) 11 (fun _ _ => rfl) ?_
                        refine q_Ru_seg (g2 := (55, [(3, .int 4), (2, .int 1), (0, .ref 64), (1, .int 0)], [.int 0], (q_cM (q_uA (q_uA (q_uA (q_uA (q_uA (q_uA (q_uA (q_uA (q_uA q_AM 33 f) 33 (upd f 0 0)) 33 (upd (upd f 0 0) 4 0)) 33 (upd (upd (upd f 0 0) 4 0) 1 0)) 33 (upd (upd (upd (upd f 0 0) 4 0) 1 0) 5 0)) 33 (upd (upd (upd (upd (upd f 0 0) 4 0) 1 0) 5 0) 2 0)) 33 (upd (upd (upd (upd (upd (upd f 0 0) 4 0) 1 0) 5 0) 2 0) 6 0)) 33 (upd (upd (upd (upd (upd (upd (upd f 0 0) 4 0) 1 0) 5 0) 2 0) 6 0) 3 0)) 33 (upd (upd (upd (upd (upd (upd (upd (upd f 0 0) 4 0) 1 0) 5 0) 2 0) 6 0) 3 0) 7 0)) I q_J0, 34, 31630))) 11 (fun _ _ => rfl) ?_
                        refine q_Ru_seg (g2 := (55, [(3, .int 5), (2, .int 1), (0, .ref 64), (1, .int 0)], [.int 0], (q_cM (q_uA (q_uA (q_uA (q_uA (q_uA (q_uA (q_uA (q_uA (q_uA q_AM 33 f) 33 (upd f 0 0)) 33 (upd (upd f 0 0) 4 0)) 33 (upd (upd (upd f 0 0) 4 0) 1 0)) 33 (upd (upd (upd (upd f 0 0) 4 0) 1 0) 5 0)) 33 (upd (upd (upd (upd (upd f 0 0) 4 0) 1 0) 5 0) 2 0)) 33 (upd (upd (upd (upd (upd (upd f 0 0) 4 0) 1 0) 5 0) 2 0) 6 0)) 33 (upd (upd (upd (upd (upd (upd (upd f 0 0) 4 0) 1 0) 5 0) 2 0) 6 0) 3 0)) 33 (upd (upd (upd (upd (upd (upd (upd (upd f 0 0) 4 0) 1 0) 5 0) 2 0) 6 0) 3 0) 7 0)) I q_J0, 34, 31630))) 11 (fun _ _ => rfl) ?_
                        refine q_Ru_seg (g2 := (55, [(3, .int 6), (2, .int 1), (0, .ref 64), (1, .int 0)], [.int 0], (q_cM (q_uA (q_uA (q_uA (q_uA (q_uA (q_uA (q_uA (q_uA (q_uA q_AM 33 f) 33 (upd f 0 0)) 33 (upd (upd f 0 0) 4 0)) 33 (upd (upd (upd f 0 0) 4 0) 1 0)) 33 (upd (upd (upd (upd f 0 0) 4 0) 1 0) 5 0)) 33 (upd (upd (upd (upd (upd f 0 0) 4 0) 1 0) 5 0) 2 0)) 33 (upd (upd (upd (upd (upd (upd f 0 0) 4 0) 1 0) 5 0) 2 0) 6 0)) 33 (upd (upd (upd (upd (upd (upd (upd f 0 0) 4 0) 1 0) 5 0) 2 0) 6 0) 3 0)) 33 (upd (upd (upd (upd (upd (upd (upd (upd f 0 0) 4 0) 1 0) 5 0) 2 0) 6 0) 3 0) 7 0)) I q_J0, 34, 31630))) 11 (fun _ _ => rfl) ?_
                        refine q_Ru_seg (g2 := (55, [(3, .int 7), (2, .int 1), (0, .ref 64), (1, .int 0)], [.int 0], (q_cM (q_uA (q_uA (q_uA (q_uA (q_uA (q_uA (q_uA (q_uA (q_uA q_AM 33 f) 33 (upd f 0 0)) 33 (upd (upd f 0 0) 4 0)) 33 (upd (upd (upd f 0 0) 4 0) 1 0)) 33 (upd (upd (upd (upd f 0 0) 4 0) 1 0) 5 0)) 33 (upd (upd (upd (upd (upd f 0 0) 4 0) 1 0) 5 0) 2 0)) 33 (upd (upd (upd (upd (upd (upd f 0 0) 4 0) 1 0) 5 0) 2 0) 6 0)) 33 (upd (upd (upd (upd (upd (upd (upd f 0 0) 4 0) 1 0) 5 0) 2 0) 6 0) 3 0)) 33 (upd (upd (upd (upd (upd (upd (upd (upd f 0 0) 4 0) 1 0) 5 0) 2 0) 6 0) 3 0) 7 0)) I q_J0, 34, 31630))) 11 (fun _ _ => rfl) ?_
                        refine q_Ru_seg (g2 := (55, [(3, .int 8), (2, .int 1), (0, .ref 64), (1, .int 0)], [.int 0], (q_cM (q_uA (q_uA (q_uA (q_uA (q_uA (q_uA (q_uA (q_uA (q_uA q_AM 33 f) 33 (upd f 0 0)) 33 (upd (upd f 0 0) 4 0)) 33 (upd (upd (upd f 0 0) 4 0) 1 0)) 33 (upd (upd (upd (upd f 0 0) 4 0) 1 0) 5 0)) 33 (upd (upd (upd (upd (upd f 0 0) 4 0) 1 0) 5 0) 2 0)) 33 (upd (upd (upd (upd (upd (upd f 0 0) 4 0) 1 0) 5 0) 2 0) 6 0)) 33 (upd (upd (upd (upd (upd (upd (upd f 0 0) 4 0) 1 0) 5 0) 2 0) 6 0) 3 0)) 33 (upd (upd (upd (upd (upd (upd (upd (upd f 0 0) 4 0) 1 0) 5 0) 2 0) 6 0) 3 0) 7 0)) I q_J0, 34, 31630))) 11 (fun _ _ => rfl) ?_
                        refine q_Ru_seg (g2 := (55, [(3, .int 9), (2, .int 1), (0, .ref 64), (1, .int 0)], [.int 0], (q_cM (q_uA (q_uA (q_uA (q_uA (q_uA (q_uA (q_uA (q_uA (q_uA q_AM 33 f) 33 (upd f 0 0)) 33 (upd (upd f 0 0) 4 0)) 33 (upd (upd (upd f 0 0) 4 0) 1 0)) 33 (upd (upd (upd (upd f 0 0) 4 0) 1 0) 5 0)) 33 (upd (upd (upd (upd (upd f 0 0) 4 0) 1 0) 5 0) 2 0)) 33 (upd (upd (upd (upd (upd (upd f 0 0) 4 0) 1 0) 5 0) 2 0) 6 0)) 33 (upd (upd (upd (upd (upd (upd (upd f 0 0) 4 0) 1 0) 5 0) 2 0) 6 0) 3 0)) 33 (upd (upd (upd (upd (upd (upd (upd (upd f 0 0) 4 0) 1 0) 5 0) 2 0) 6 0) 3 0) 7 0)) I q_J0, 34, 31630))) 11 (fun _ _ => rfl) ?_
                        refine q_Ru_seg (g2 := (55, [(3, .int 10), (2, .int 1), (0, .ref 64), (1, .int 0)], [.int 0], (q_cM (q_uA (q_uA (q_uA (q_uA (q_uA (q_uA (q_uA (q_uA (q_uA q_AM 33 f) 33 (upd f 0 0)) 33 (upd (upd f 0 0) 4 0)) 33 (upd (upd (upd f 0 0) 4 0) 1 0)) 33 (upd (upd (upd (upd f 0 0) 4 0) 1 0) 5 0)) 33 (upd (upd (upd (upd (upd f 0 0) 4 0) 1 0) 5 0) 2 0)) 33 (upd (upd (upd (upd (upd (upd f 0 0) 4 0) 1 0) 5 0) 2 0) 6 0)) 33 (upd (upd (upd (upd (upd (upd (upd f 0 0) 4 0) 1 0) 5 0) 2 0) 6 0) 3 0)) 33 (upd (upd (upd (upd (upd (upd (upd (upd f 0 0) 4 0) 1 0) 5 0) 2 0) 6 0) 3 0) 7 0)) I q_J0, 34, 31630))) 11 (fun _ _ => rfl) ?_
                        refine q_Ru_seg (g2 := (55, [(3, .int 11), (2, .int 1), (0, .ref 64), (1, .int 0)], [.int 0], (q_cM (q_uA (q_uA (q_uA (q_uA (q_uA (q_uA (q_uA (q_uA (q_uA q_AM 33 f) 33 (upd f 0 0)) 33 (upd (upd f 0 0) 4 0)) 33 (upd (upd (upd f 0 0) 4 0) 1 0)) 33 (upd (upd (upd (upd f 0 0) 4 0) 1 0) 5 0)) 33 (upd (upd (upd (upd (upd f 0 0) 4 0) 1 0) 5 0) 2 0)) 33 (upd (upd (upd (upd (upd (upd f 0 0) 4 0) 1 0) 5 0) 2 0) 6 0)) 33 (upd (upd (upd (upd (upd (upd (upd f 0 0) 4 0) 1 0) 5 0) 2 0) 6 0) 3 0)) 33 (upd (upd (upd (upd (upd (upd (upd (upd f 0 0) 4 0) 1 0) 5 0) 2 0) 6 0) 3 0) 7 0)) I q_J0, 34, 31630))) 11 (fun _ _ => rfl) ?_
                        refine q_Ru_seg (g2 := (55, [(3, .int 12), (2, .int 1), (0, .ref 64), (1, .int 0)], [.int 0], (q_cM (q_uA (q_uA (q_uA (q_uA (q_uA (q_uA (q_uA (q_uA (q_uA q_AM 33 f) 33 (upd f 0 0)) 33 (upd (upd f 0 0) 4 0)) 33 (upd (upd (upd f 0 0) 4 0) 1 0)) 33 (upd (upd (upd (upd f 0 0) 4 0) 1 0) 5 0)) 33 (upd (upd (upd (upd (upd f 0 0) 4 0) 1 0) 5 0) 2 0)) 33 (upd (upd (upd (upd (upd (upd f 0 0) 4 0) 1 0) 5 0) 2 0) 6 0)) 33 (upd (upd (upd (upd (upd (upd (upd f 0 0) 4 0) 1 0) 5 0) 2 0) 6 0) 3 0)) 33 (upd (upd (upd (upd (upd (upd (upd (upd f 0 0) 4 0) 1 0) 5 0) 2 0) 6 0) 3 0) 7 0)) I q_J0, 34, 31630))) 11 (fun _ _ => rfl) ?_
                        refine q_Ru_seg (g2 := (55, [(3, .int 13), (2, .int 1), (0, .ref 64), (1, .int 0)], [.int 0], (q_cM (q_uA (q_uA (q_uA (q_uA (q_uA (q_uA (q_uA (q_uA (q_uA q_AM 33 f) 33 (upd f 0 0)) 33 (upd (upd f 0 0) 4 0)) 33 (upd (upd (upd f 0 0) 4 0) 1 0)) 33 (upd (upd (upd (upd f 0 0) 4 0) 1 0) 5 0)) 33 (upd (upd (upd (upd (upd f 0 0) 4 0) 1 0) 5 0) 2 0)) 33 (upd (upd (upd (upd (upd (upd f 0 0) 4 0) 1 0) 5 0) 2 0) 6 0)) 33 (upd (upd (upd (upd (upd (upd (upd f 0 0) 4 0) 1 0) 5 0) 2 0) 6 0) 3 0)) 33 (upd (upd (upd (upd (upd (upd (upd (upd f 0 0) 4 0) 1 0) 5 0) 2 0) 6 0) 3 0) 7 0)) I q_J0, 34, 31630))) 11 (fun _ _ => rfl) ?_
                        refine q_Ru_seg (g2 := (55, [(3, .int 14), (2, .int 1), (0, .ref 64), (1, .int 0)], [.int 0], (q_cM (q_uA (q_uA (q_uA (q_uA (q_uA (q_uA (q_uA (q_uA (q_uA q_AM 33 f) 33 (upd f 0 0)) 33 (upd (upd f 0 0) 4 0)) 33 (upd (upd (upd f 0 0) 4 0) 1 0)) 33 (upd (upd (upd (upd f 0 0) 4 0) 1 0) 5 0)) 33 (upd (upd (upd (upd (upd f 0 0) 4 0) 1 0) 5 0) 2 0)) 33 (upd (upd (upd (upd (upd (upd f 0 0) 4 0) 1 0) 5 0) 2 0) 6 0)) 33 (upd (upd (upd (upd (upd (upd (upd f 0 0) 4 0) 1 0) 5 0) 2 0) 6 0) 3 0)) 33 (upd (upd (upd (upd (upd (upd (upd (upd f 0 0) 4 0) 1 0) 5 0) 2 0) 6 0) 3 0) 7 0)) I q_J0, 34, 31630))) 11 (fun _ _ => rfl) ?_
                        refine q_Ru_seg (g2 := (55, [(3, .int 15), (2, .int 1), (0, .ref 64), (1, .int 0)], [.int 0], (q_cM (q_uA (q_uA (q_uA (q_uA (q_uA (q_uA (q_uA (q_uA (q_uA q_AM 33 f) 33 (upd f 0 0)) 33 (upd (upd f 0 0) 4 0)) 33 (upd (upd (upd f 0 0) 4 0) 1 0)) 33 (upd (upd (upd (upd f 0 0) 4 0) 1 0) 5 0)) 33 (upd (upd (upd (upd (upd f 0 0) 4 0) 1 0) 5 0) 2 0)) 33 (upd (upd (upd (upd (upd (upd f 0 0) 4 0) 1 0) 5 0) 2 0) 6 0)) 33 (upd (upd (upd (upd (upd (upd (upd f 0 0) 4 0) 1 0) 5 0) 2 0) 6 0) 3 0)) 33 (upd (upd (upd (upd (upd (upd (upd (upd f 0 0) 4 0) 1 0) 5 0) 2 0) 6 0) 3 0) 7 0)) I q_J0, 34, 31630))) 11 (fun _ _ => rfl) ?_
                        refine q_Ru_seg (g2 := (55, [(3, .int 0), (2, .int 2), (0, .ref 64), (1, .int 0)], [.int 0], (q_cM (q_uA (q_uA (q_uA (q_uA (q_uA (q_uA (q_uA (q_uA (q_uA q_AM 33 f) 33 (upd f 0 0)) 33 (upd (upd f 0 0) 4 0)) 33 (upd (upd (upd f 0 0) 4 0) 1 0)) 33 (upd (upd (upd (upd f 0 0) 4 0) 1 0) 5 0)) 33 (upd (upd (upd (upd (upd f 0 0) 4 0) 1 0) 5 0) 2 0)) 33 (upd (upd (upd (upd (upd (upd f 0 0) 4 0) 1 0) 5 0) 2 0) 6 0)) 33 (upd (upd (upd (upd (upd (upd (upd f 0 0) 4 0) 1 0) 5 0) 2 0) 6 0) 3 0)) 33 (upd (upd (upd (upd (upd (upd (upd (upd f 0 0) 4 0) 1 0) 5 0) 2 0) 6 0) 3 0) 7 0)) I q_J0, 34, 31630))) 21 (fun _ _ => rfl) ?_
                        refine q_Ru_seg (g2 := (55, [(3, .int 1), (2, .int 2), (0, .ref 64), (1, .int 0)], [.int 0], (q_cM (q_uA (q_uA (q_uA (q_uA (q_uA (q_uA (q_uA (q_uA (q_uA q_AM 33 f) 33 (upd f 0 0)) 33 (upd (upd f 0 0) 4 0)) 33 (upd (upd (upd f 0 0) 4 0) 1 0)) 33 (upd (upd (upd (upd f 0 0) 4 0) 1 0) 5 0)) 33 (upd (upd (upd (upd (upd f 0 0) 4 0) 1 0) 5 0) 2 0)) 33 (upd (upd (upd (upd (upd (upd f 0 0) 4 0) 1 0) 5 0) 2 0) 6 0)) 33 (upd (upd (upd (upd (upd (upd (upd f 0 0) 4 0) 1 0) 5 0) 2 0) 6 0) 3 0)) 33 (upd (upd (upd (upd (upd (upd (upd (upd f 0 0) 4 0) 1 0) 5 0) 2 0) 6 0) 3 0) 7 0)) I q_J0, 34, 31630))) 11 (fun _ _ => rfl) ?_
                        refine q_Ru_seg (g2 := (55, [(3, .int 2), (2, .int 2), (0, .ref 64), (1, .int 0)], [.int 0], (q_cM (q_uA (q_uA (q_uA (q_uA (q_uA (q_uA (q_uA (q_uA (q_uA q_AM 33 f) 33 (upd f 0 0)) 33 (upd (upd f 0 0) 4 0)) 33 (upd (upd (upd f 0 0) 4 0) 1 0)) 33 (upd (upd (upd (upd f 0 0) 4 0) 1 0) 5 0)) 33 (upd (upd (upd (upd (upd f 0 0) 4 0) 1 0) 5 0) 2 0)) 33 (upd (upd (upd (upd (upd (upd f 0 0) 4 0) 1 0) 5 0) 2 0) 6 0)) 33 (upd (upd (upd (upd (upd (upd (upd f 0 0) 4 0) 1 0) 5 0) 2 0) 6 0) 3 0)) 33 (upd (upd (upd (upd (upd (upd (upd (upd f 0 0) 4 0) 1 0) 5 0) 2 0) 6 0) 3 0) 7 0)) I q_J0, 34, 31630))) 11 (fun _ _ => rfl) ?_
                        refine q_Ru_seg (g2 := (55, [(3, .int 3), (2, .int 2), (0, .ref 64), (1, .int 0)], [.int 0], (q_cM (q_uA (q_uA (q_uA (q_uA (q_uA (q_uA (q_uA (q_uA (q_uA q_AM 33 f) 33 (upd f 0 0)) 33 (upd (upd f 0 0) 4 0)) 33 (upd (upd (upd f 0 0) 4 0) 1 0)) 33 (upd (upd (upd (upd f 0 0) 4 0) 1 0) 5 0)) 33 (upd (upd (upd (upd (upd f 0 0) 4 0) 1 0) 5 0) 2 0)) 33 (upd (upd (upd (upd (upd (upd f 0 0) 4 0) 1 0) 5 0) 2 0) 6 0)) 33 (upd (upd (upd (upd (upd (upd (upd f 0 0) 4 0) 1 0) 5 0) 2 0) 6 0) 3 0)) 33 (upd (upd (upd (upd (upd (upd (upd (upd f 0 0) 4 0) 1 0) 5 0) 2 0) 6 0) 3 0) 7 0)) I q_J0, 34, 31630))) 11 (fun _ _ => rfl) ?_
                        refine q_Ru_seg (g2 := (55, [(3, .int 4), (2, .int 2), (0, .ref 64), (1, .int 0)], [.int 0], (q_cM (q_uA (q_uA (q_uA (q_uA (q_uA (q_uA (q_uA (q_uA (q_uA q_AM 33 f) 33 (upd f 0 0)) 33 (upd (upd f 0 0) 4 0)) 33 (upd (upd (upd f 0 0) 4 0) 1 0)) 33 (upd (upd (upd (upd f 0 0) 4 0) 1 0) 5 0)) 33 (upd (upd (upd (upd (upd f 0 0) 4 0) 1 0) 5 0) 2 0)) 33 (upd (upd (upd (upd (upd (upd f 0 0) 4 0) 1 0) 5 0) 2 0) 6 0)) 33 (upd (upd (upd (upd (upd (upd (upd f 0 0) 4 0) 1 0) 5 0) 2 0) 6 0) 3 0)) 33 (upd (upd (upd (upd (upd (upd (upd (upd f 0 0) 4 0) 1 0) 5 0) 2 0) 6 0) 3 0) 7 0)) I q_J0, 34, 31630))) 11 (fun _ _ => rfl) ?_
                        refine q_Ru_seg (g2 := (55, [(3, .int 5), (2, .int 2), (0, .ref 64), (1, .int 0)], [.int 0], (q_cM (q_uA (q_uA (q_uA (q_uA (q_uA (q_uA (q_uA (q_uA (q_uA q_AM 33 f) 33 (upd f 0 0)) 33 (upd (upd f 0 0) 4 0)) 33 (upd (upd (upd f 0 0) 4 0) 1 0)) 33 (upd (upd (upd (upd f 0 0) 4 0) 1 0) 5 0)) 33 (upd (upd (upd (upd (upd f 0 0) 4 0) 1 0) 5 0) 2 0)) 33 (upd (upd (upd (upd (upd (upd f 0 0) 4 0) 1 0) 5 0) 2 0) 6 0)) 33 (upd (upd (upd (upd (upd (upd (upd f 0 0) 4 0) 1 0) 5 0) 2 0) 6 0) 3 0)) 33 (upd (upd (upd (upd (upd (upd (upd (upd f 0 0) 4 0) 1 0) 5 0) 2 0) 6 0) 3 0) 7 0)) I q_J0, 34, 31630))) 11 (fun _ _ => rfl) ?_
                        refine q_Ru_seg (g2 := (55, [(3, .int 6), (2, .int 2), (0, .ref 64), (1, .int 0)], [.int 0], (q_cM (q_uA (q_uA (q_uA (q_uA (q_uA (q_uA (q_uA (q_uA (q_uA q_AM 33 f) 33 (upd f 0 0)) 33 (upd (upd f 0 0) 4 0)) 33 (upd (upd (upd f 0 0) 4 0) 1 0)) 33 (upd (upd (upd (upd f 0 0) 4 0) 1 0) 5 0)) 33 (upd (upd (upd (upd (upd f 0 0) 4 0) 1 0) 5 0) 2 0)) 33 (upd (upd (upd (upd (upd (upd f 0 0) 4 0) 1 0) 5 0) 2 0) 6 0)) 33 (upd (upd (upd (upd (upd (upd (upd f 0 0) 4 0) 1 0) 5 0) 2 0) 6 0) 3 0)) 33 (upd (upd (upd (upd (upd (upd (upd (upd f 0 0) 4 0) 1 0) 5 0) 2 0) 6 0) 3 0) 7 0)) I q_J0, 34, 31630))) 11 (fun _ _ => rfl) ?_
                        refine q_Ru_seg (g2 := (55, [(3, .int 7), (2, .int 2), (0, .ref 64), (1, .int 0)], [.int 0], (q_cM (q_uA (q_uA (q_uA (q_uA (q_uA (q_uA (q_uA (q_uA (q_uA q_AM 33 f) 33 (upd f 0 0)) 33 (upd (upd f 0 0) 4 0)) 33 (upd (upd (upd f 0 0) 4 0) 1 0)) 33 (upd (upd (upd (upd f 0 0) 4 0) 1 0) 5 0)) 33 (upd (upd (upd (upd (upd f 0 0) 4 0) 1 0) 5 0) 2 0)) 33 (upd (upd (upd (upd (upd (upd f 0 0) 4 0) 1 0) 5 0) 2 0) 6 0)) 33 (upd (upd (upd (upd (upd (upd (upd f 0 0) 4 0) 1 0) 5 0) 2 0) 6 0) 3 0)) 33 (upd (upd (upd (upd (upd (upd (upd (upd f 0 0) 4 0) 1 0) 5 0) 2 0) 6 0) 3 0) 7 0)) I q_J0, 34, 31630))) 11 (fun _ _ => rfl) ?_
                        refine q_Ru_seg (g2 := (55, [(3, .int 8), (2, .int 2), (0, .ref 64), (1, .int 0)], [.int 0], (q_cM (q_uA (q_uA (q_uA (q_uA (q_uA (q_uA (q_uA (q_uA (q_uA q_AM 33 f) 33 (upd f 0 0)) 33 (upd (upd f 0 0) 4 0)) 33 (upd (upd (upd f 0 0) 4 0) 1 0)) 33 (upd (upd (upd (upd f 0 0) 4 0) 1 0) 5 0)) 33 (upd (upd (upd (upd (upd f 0 0) 4 0) 1 0) 5 0) 2 0)) 33 (upd (upd (upd (upd (upd (upd f 0 0) 4 0) 1 0) 5 0) 2 0) 6 0)) 33 (upd (upd (upd (upd (upd (upd (upd f 0 0) 4 0) 1 0) 5 0) 2 0) 6 0) 3 0)) 33 (upd (upd (upd (upd (upd (upd (upd (upd f 0 0) 4 0) 1 0) 5 0) 2 0) 6 0) 3 0) 7 0)) I q_J0, 34, 31630))) 11 (fun _ _ => rfl) ?_
                        refine q_Ru_seg (g2 := (55, [(3, .int 9), (2, .int 2), (0, .ref 64), (1, .int 0)], [.int 0], (q_cM (q_uA (q_uA (q_uA (q_uA (q_uA (q_uA (q_uA (q_uA (q_uA q_AM 33 f) 33 (upd f 0 0)) 33 (upd (upd f 0 0) 4 0)) 33 (upd (upd (upd f 0 0) 4 0) 1 0)) 33 (upd (upd (upd (upd f 0 0) 4 0) 1 0) 5 0)) 33 (upd (upd (upd (upd (upd f 0 0) 4 0) 1 0) 5 0) 2 0)) 33 (upd (upd (upd (upd (upd (upd f 0 0) 4 0) 1 0) 5 0) 2 0) 6 0)) 33 (upd (upd (upd (upd (upd (upd (upd f 0 0) 4 0) 1 0) 5 0) 2 0) 6 0) 3 0)) 33 (upd (upd (upd (upd (upd (upd (upd (upd f 0 0) 4 0) 1 0) 5 0) 2 0) 6 0) 3 0) 7 0)) I q_J0, 34, 31630))) 11 (fun _ _ => rfl) ?_
                        refine q_Ru_seg (g2 := (55, [(3, .int 10), (2, .int 2), (0, .ref 64), (1, .int 0)], [.int 0], (q_cM (q_uA (q_uA (q_uA (q_uA (q_uA (q_uA (q_uA (q_uA (q_uA q_AM 33 f) 33 (upd f 0 0)) 33 (upd (upd f 0 0) 4 0)) 33 (upd (upd (upd f 0 0) 4 0) 1 0)) 33 (upd (upd (upd (upd f 0 0) 4 0) 1 0) 5 0)) 33 (upd (upd (upd (upd (upd f 0 0) 4 0) 1 0) 5 0) 2 0)) 33 (upd (upd (upd (upd (upd (upd f 0 0) 4 0) 1 0) 5 0) 2 0) 6 0)) 33 (upd (upd (upd (upd (upd (upd (upd f 0 0) 4 0) 1 0) 5 0) 2 0) 6 0) 3 0)) 33 (upd (upd (upd (upd (upd (upd (upd (upd f 0 0) 4 0) 1 0) 5 0) 2 0) 6 0) 3 0) 7 0)) I q_J0, 34, 31630))) 11 (fun _ _ => rfl) ?_
                        refine q_Ru_seg (g2 := (55, [(3, .int 11), (2, .int 2), (0, .ref 64), (1, .int 0)], [.int 0], (q_cM (q_uA (q_uA (q_uA (q_uA (q_uA (q_uA (q_uA (q_uA (q_uA q_AM 33 f) 33 (upd f 0 0)) 33 (upd (upd f 0 0) 4 0)) 33 (upd (upd (upd f 0 0) 4 0) 1 0)) 33 (upd (upd (upd (upd f 0 0) 4 0) 1 0) 5 0)) 33 (upd (upd (upd (upd (upd f 0 0) 4 0) 1 0) 5 0) 2 0)) 33 (upd (upd (upd (upd (upd (upd f 0 0) 4 0) 1 0) 5 0) 2 0) 6 0)) 33 (upd (upd (upd (upd (upd (upd (upd f 0 0) 4 0) 1 0) 5 0) 2 0) 6 0) 3 0)) 33 (upd (upd (upd (upd (upd (upd (upd (upd f 0 0) 4 0) 1 0) 5 0) 2 0) 6 0) 3 0) 7 0)) I q_J0, 34, 31630))) 11 (fun _ _ => rfl) ?_
                        refine q_Ru_seg (g2 := (55, [(3, .int 12), (2, .int 2), (0, .ref 64), (1, .int 0)], [.int 0], (q_cM (q_uA (q_uA (q_uA (q_uA (q_uA (q_uA (q_uA (q_uA (q_uA q_AM 33 f) 33 (upd f 0 0)) 33 (upd (upd f 0 0) 4 0)) 33 (upd (upd (upd f 0 0) 4 0) 1 0)) 33 (upd (upd (upd (upd f 0 0) 4 0) 1 0) 5 0)) 33 (upd (upd (upd (upd (upd f 0 0) 4 0) 1 0) 5 0) 2 0)) 33 (upd (upd (upd (upd (upd (upd f 0 0) 4 0) 1 0) 5 0) 2 0) 6 0)) 33 (upd (upd (upd (upd (upd (upd (upd f 0 0) 4 0) 1 0) 5 0) 2 0) 6 0) 3 0)) 33 (upd (upd (upd (upd (upd (upd (upd (upd f 0 0) 4 0) 1 0) 5 0) 2 0) 6 0) 3 0) 7 0)) I q_J0, 34, 31630))) 11 (fun _ _ => rfl) ?_
                        refine q_Ru_seg (g2 := (55, [(3, .int 13), (2, .int 2), (0, .ref 64), (1, .int 0)], [.int 0], (q_cM (q_uA (q_uA (q_uA (q_uA (q_uA (q_uA (q_uA (q_uA (q_uA q_AM 33 f) 33 (upd f 0 0)) 33 (upd (upd f 0 0) 4 0)) 33 (upd (upd (upd f 0 0) 4 0) 1 0)) 33 (upd (upd (upd (upd f 0 0) 4 0) 1 0) 5 0)) 33 (upd (upd (upd (upd (upd f 0 0) 4 0) 1 0) 5 0) 2 0)) 33 (upd (upd (upd (upd (upd (upd f 0 0) 4 0) 1 0) 5 0) 2 0) 6 0)) 33 (upd (upd (upd (upd (upd (upd (upd f 0 0) 4 0) 1 0) 5 0) 2 0) 6 0) 3 0)) 33 (upd (upd (upd (upd (upd (upd (upd (upd f 0 0) 4 0) 1 0) 5 0) 2 0) 6 0) 3 0) 7 0)) I q_J0, 34, 31630))) 11 (fun _ _ => rfl) ?_
                        refine q_Ru_seg (g2 := (55, [(3, .int 14), (2, .int 2), (0, .ref 64), (1, .int 0)], [.int 0], (q_cM (q_uA (q_uA (q_uA (q_uA (q_uA (q_uA (q_uA (q_uA (q_uA q_AM 33 f) 33 (upd f 0 0)) 33 (upd (upd f 0 0) 4 0)) 33 (upd (upd (upd f 0 0) 4 0) 1 0)) 33 (upd (upd (upd (upd f 0 0) 4 0) 1 0) 5 0)) 33 (upd (upd (upd (upd (upd f 0 0) 4 0) 1 0) 5 0) 2 0)) 33 (upd (upd (upd (upd (upd (upd f 0 0) 4 0) 1 0) 5 0) 2 0) 6 0)) 33 (upd (upd (upd (upd (upd (upd (upd f 0 0) 4 0) 1 0) 5 0) 2 0) 6 0) 3 0)) 33 (upd (upd (upd (upd (upd (upd (upd (upd f 0 0) 4 0) 1 0) 5 0) 2 0) 6 0) 3 0) 7 0)) I q_J0, 34, 31630))) 11 (fun _ _ => rfl) ?_
                        refine q_Ru_seg (g2 := (55, [(3, .int 15), (2, .int 2), (0, .ref 64), (1, .int 0)], [.int 0], (q_cM (q_uA (q_uA (q_uA (q_uA (q_uA (q_uA (q_uA (q_uA (q_uA q_AM 33 f) 33 (upd f 0 0)) 33 (upd (upd f 0 0) 4 0)) 33 (upd (upd (upd f 0 0) 4 0) 1 0)) 33 (upd (upd (upd (upd f 0 0) 4 0) 1 0) 5 0)) 33 (upd (upd (upd (upd (upd f 0 0) 4 0) 1 0) 5 0) 2 0)) 33 (upd (upd (upd (upd (upd (upd f 0 0) 4 0) 1 0) 5 0) 2 0) 6 0)) 33 (upd (upd (upd (upd (upd (upd (upd f 0 0) 4 0) 1 0) 5 0) 2 0) 6 0) 3 0)) 33 (upd (upd (upd (upd (upd (upd (upd (upd f 0 0) 4 0) 1 0) 5 0) 2 0) 6 0) 3 0) 7 0)) I q_J0, 34, 31630))) 11 (fun _ _ => rfl) ?_
                        refine q_Ru_seg (g2 := (55, [(3, .int 0), (2, .int 3), (0, .ref 64), (1, .int 0)], [.int 0], (q_cM (q_uA (q_uA (q_uA (q_uA (q_uA (q_uA (q_uA (q_uA (q_uA q_AM 33 f) 33 (upd f 0 0)) 33 (upd (upd f 0 0) 4 0)) 33 (upd (upd (upd f 0 0) 4 0) 1 0)) 33 (upd (upd (upd (upd f 0 0) 4 0) 1 0) 5 0)) 33 (upd (upd (upd (upd (upd f 0 0) 4 0) 1 0) 5 0) 2 0)) 33 (upd (upd (upd (upd (upd (upd f 0 0) 4 0) 1 0) 5 0) 2 0) 6 0)) 33 (upd (upd (upd (upd (upd (upd (upd f 0 0) 4 0) 1 0) 5 0) 2 0) 6 0) 3 0)) 33 (upd (upd (upd (upd (upd (upd (upd (upd f 0 0) 4 0) 1 0) 5 0) 2 0) 6 0) 3 0) 7 0)) I q_J0, 34, 31630))) 21 (fun _ _ => rfl) ?_
                        refine q_Ru_seg (g2 := (55, [(3, .int 1), (2, .int 3), (0, .ref 64), (1, .int 0)], [.int 0], (q_cM (q_uA (q_uA (q_uA (q_uA (q_uA (q_uA (q_uA (q_uA (q_uA q_AM 33 f) 33 (upd f 0 0)) 33 (upd (upd f 0 0) 4 0)) 33 (upd (upd (upd f 0 0) 4 0) 1 0)) 33 (upd (upd (upd (upd f 0 0) 4 0) 1 0) 5 0)) 33 (upd (upd (upd (upd (upd f 0 0) 4 0) 1 0) 5 0) 2 0)) 33 (upd (upd (upd (upd (upd (upd f 0 0) 4 0) 1 0) 5 0) 2 0) 6 0)) 33 (upd (upd (upd (upd (upd (upd (upd f 0 0) 4 0) 1 0) 5 0) 2 0) 6 0) 3 0)) 33 (upd (upd (upd (upd (upd (upd (upd (upd f 0 0) 4 0) 1 0) 5 0) 2 0) 6 0) 3 0) 7 0)) I q_J0, 34, 31630))) 11 (fun _ _ => rfl) ?_
                        refine q_Ru_seg (g2 := (55, [(3, .int 2), (2, .int 3), (0, .ref 64), (1, .int 0)], [.int 0], (q_cM (q_uA (q_uA (q_uA (q_uA (q_uA (q_uA (q_uA (q_uA (q_uA q_AM 33 f) 33 (upd f 0 0)) 33 (upd (upd f 0 0) 4 0)) 33 (upd (upd (upd f 0 0) 4 0) 1 0)) 33 (upd (upd (upd (upd f 0 0) 4 0) 1 0) 5 0)) 33 (upd (upd (upd (upd (upd f 0 0) 4 0) 1 0) 5 0) 2 0)) 33 (upd (upd (upd (upd (upd (upd f 0 0) 4 0) 1 0) 5 0) 2 0) 6 0)) 33 (upd (upd (upd (upd (upd (upd (upd f 0 0) 4 0) 1 0) 5 0) 2 0) 6 0) 3 0)) 33 (upd (upd (upd (upd (upd (upd (upd (upd f 0 0) 4 0) 1 0) 5 0) 2 0) 6 0) 3 0) 7 0)) I q_J0, 34, 31630))) 11 (fun _ _ => rfl) ?_
                        refine q_Ru_seg (g2 := (55, [(3, .int 3), (2, .int 3), (0, .ref 64), (1, .int 0)], [.int 0], (q_cM (q_uA (q_uA (q_uA (q_uA (q_uA (q_uA (q_uA (q_uA (q_uA q_AM 33 f) 33 (upd f 0 0)) 33 (upd (upd f 0 0) 4 0)) 33 (upd (upd (upd f 0 0) 4 0) 1 0)) 33 (upd (upd (upd (upd f 0 0) 4 0) 1 0) 5 0)) 33 (upd (upd (upd (upd (upd f 0 0) 4 0) 1 0) 5 0) 2 0)) 33 (upd (upd (upd (upd (upd (upd f 0 0) 4 0) 1 0) 5 0) 2 0) 6 0)) 33 (upd (upd (upd (upd (upd (upd (upd f 0 0) 4 0) 1 0) 5 0) 2 0) 6 0) 3 0)) 33 (upd (upd (upd (upd (upd (upd (upd (upd f 0 0) 4 0) 1 0) 5 0) 2 0) 6 0) 3 0) 7 0)) I q_J0, 34, 31630))) 11 (fun _ _ => rfl) ?_
                        refine q_Ru_seg (g2 := (55, [(3, .int 4), (2, .int 3), (0, .ref 64), (1, .int 0)], [.int 0], (q_cM (q_uA (q_uA (q_uA (q_uA (q_uA (q_uA (q_uA (q_uA (q_uA q_AM 33 f) 33 (upd f 0 0)) 33 (upd (upd f 0 0) 4 0)) 33 (upd (upd (upd f 0 0) 4 0) 1 0)) 33 (upd (upd (upd (upd f 0 0) 4 0) 1 0) 5 0)) 33 (upd (upd (upd (upd (upd f 0 0) 4 0) 1 0) 5 0) 2 0)) 33 (upd (upd (upd (upd (upd (upd f 0 0) 4 0) 1 0) 5 0) 2 0) 6 0)) 33 (upd (upd (upd (upd (upd (upd (upd f 0 0) 4 0) 1 0) 5 0) 2 0) 6 0) 3 0)) 33 (upd (upd (upd (upd (upd (upd (upd (upd f 0 0) 4 0) 1 0) 5 0) 2 0) 6 0) 3 0) 7 0)) I q_J0, 34, 31630))) 11 (fun _ _ => rfl) ?_
                        refine q_Ru_seg (g2 := (55, [(3, .int 5), (2, .int 3), (0, .ref 64), (1, .int 0)], [.int 0], (q_cM (q_uA (q_uA (q_uA (q_uA (q_uA (q_uA (q_uA (q_uA (q_uA q_AM 33 f) 33 (upd f 0 0)) 33 (upd (upd f 0 0) 4 0)) 33 (upd (upd (upd f 0 0) 4 0) 1 0)) 33 (upd (upd (upd (upd f 0 0) 4 0) 1 0) 5 0)) 33 (upd (upd (upd (upd (upd f 0 0) 4 0) 1 0) 5 0) 2 0)) 33 (upd (upd (upd (upd (upd (upd f 0 0) 4 0) 1 0) 5 0) 2 0) 6 0)) 33 (upd (upd (upd (upd (upd (upd (upd f 0 0) 4 0) 1 0) 5 0) 2 0) 6 0) 3 0)) 33 (upd (upd (upd (upd (upd (upd (upd (upd f 0 0) 4 0) 1 0) 5 0) 2 0) 6 0) 3 0) 7 0)) I q_J0, 34, 31630))) 11 (fun _ _ => rfl) ?_
                        refine q_Ru_seg (g2 := (55, [(3, .int 6), (2, .int 3), (0, .ref 64), (1, .int 0)], [.int 0], (q_cM (q_uA (q_uA (q_uA (q_uA (q_uA (q_uA (q_uA (q_uA (q_uA q_AM 33 f) 33 (upd f 0 0)) 33 (upd (upd f 0 0) 4 0)) 33 (upd (upd (upd f 0 0) 4 0) 1 0)) 33 (upd (upd (upd (upd f 0 0) 4 0) 1 0) 5 0)) 33 (upd (upd (upd (upd (upd f 0 0) 4 0) 1 0) 5 0) 2 0)) 33 (upd (upd (upd (upd (upd (upd f 0 0) 4 0) 1 0) 5 0) 2 0) 6 0)) 33 (upd (upd (upd (upd (upd (upd (upd f 0 0) 4 0) 1 0) 5 0) 2 0) 6 0) 3 0)) 33 (upd (upd (upd (upd (upd (upd (upd (upd f 0 0) 4 0) 1 0) 5 0) 2 0) 6 0) 3 0) 7 0)) I q_J0, 34, 31630))) 11 (fun _ _ => rfl) ?_
                        refine q_Ru_seg (g2 := (55, [(3, .int 7), (2, .int 3), (0, .ref 64), (1, .int 0)], [.int 0], (q_cM (q_uA (q_uA (q_uA (q_uA (q_uA (q_uA (q_uA (q_uA (q_uA q_AM 33 f) 33 (upd f 0 0)) 33 (upd (upd f 0 0) 4 0)) 33 (upd (upd (upd f 0 0) 4 0) 1 0)) 33 (upd (upd (upd (upd f 0 0) 4 0) 1 0) 5 0)) 33 (upd (upd (upd (upd (upd f 0 0) 4 0) 1 0) 5 0) 2 0)) 33 (upd (upd (upd (upd (upd (upd f 0 0) 4 0) 1 0) 5 0) 2 0) 6 0)) 33 (upd (upd (upd (upd (upd (upd (upd f 0 0) 4 0) 1 0) 5 0) 2 0) 6 0) 3 0)) 33 (upd (upd (upd (upd (upd (upd (upd (upd f 0 0) 4 0) 1 0) 5 0) 2 0) 6 0) 3 0) 7 0)) I q_J0, 34, 31630))) 11 (fun _ _ => rfl) ?_
                        refine q_Ru_seg (g2 := (55, [(3, .int 8), (2, .int 3), (0, .ref 64), (1, .int 0)], [.int 0], (q_cM (q_uA (q_uA (q_uA (q_uA (q_uA (q_uA (q_uA (q_uA (q_uA q_AM 33 f) 33 (upd f 0 0)) 33 (upd (upd f 0 0) 4 0)) 33 (upd (upd (upd f 0 0) 4 0) 1 0)) 33 (upd (upd (upd (upd f 0 0) 4 0) 1 0) 5 0)) 33 (upd (upd (upd (upd (upd f 0 0) 4 0) 1 0) 5 0) 2 0)) 33 (upd (upd (upd (upd (upd (upd f 0 0) 4 0) 1 0) 5 0) 2 0) 6 0)) 33 (upd (upd (upd (upd (upd (upd (upd f 0 0) 4 0) 1 0) 5 0) 2 0) 6 0) 3 0)) 33 (upd (upd (upd (upd (upd (upd (upd (upd f 0 0) 4 0) 1 0) 5 0) 2 0) 6 0) 3 0) 7 0)) I q_J0, 34, 31630))) 11 (fun _ _ => rfl) ?_
                        refine q_Ru_seg (g2 := (55, [(3, .int 9), (2, .int 3), (0, .ref 64), (1, .int 0)], [.int 0], (q_cM (q_uA (q_uA (q_uA (q_uA (q_uA (q_uA (q_uA (q_uA (q_uA q_AM 33 f) 33 (upd f 0 0)) 33 (upd (upd f 0 0) 4 0)) 33 (upd (upd (upd f 0 0) 4 0) 1 0)) 33 (upd (upd (upd (upd f 0 0) 4 0) 1 0) 5 0)) 33 (upd (upd (upd (upd (upd f 0 0) 4 0) 1 0) 5 0) 2 0)) 33 (upd (upd (upd (upd (upd (upd f 0 0) 4 0) 1 0) 5 0) 2 0) 6 0)) 33 (upd (upd (upd (upd (upd (upd (upd f 0 0) 4 0) 1 0) 5 0) 2 0) 6 0) 3 0)) 33 (upd (upd (upd (upd (upd (upd (upd (upd f 0 0) 4 0) 1 0) 5 0) 2 0) 6 0) 3 0) 7 0)) I q_J0, 34, 31630))) 11 (fun _ _ => rfl) ?_
                        refine q_Ru_seg (g2 := (55, [(3, .int 10), (2, .int 3), (0, .ref 64), (1, .int 0)], [.int 0], (q_cM (q_uA (q_uA (q_uA (q_uA (q_uA (q_uA (q_uA (q_uA (q_uA q_AM 33 f) 33 (upd f 0 0)) 33 (upd (upd f 0 0) 4 0)) 33 (upd (upd (upd f 0 0) 4 0) 1 0)) 33 (upd (upd (upd (upd f 0 0) 4 0) 1 0) 5 0)) 33 (upd (upd (upd (upd (upd f 0 0) 4 0) 1 0) 5 0) 2 0)) 33 (upd (upd (upd (upd (upd (upd f 0 0) 4 0) 1 0) 5 0) 2 0) 6 0)) 33 (upd (upd (upd (upd (upd (upd (upd f 0 0) 4 0) 1 0) 5 0) 2 0) 6 0) 3 0)) 33 (upd (upd (upd (upd (upd (upd (upd (upd f 0 0) 4 0) 1 0) 5 0) 2 0) 6 0) 3 0) 7 0)) I q_J0, 34, 31630))) 11 (fun _ _ => rfl) ?_
                        refine q_Ru_seg (g2 := (55, [(3, .int 11), (2, .int 3), (0, .ref 64), (1, .int 0)], [.int 0], (q_cM (q_uA (q_uA (q_uA (q_uA (q_uA (q_uA (q_uA (q_uA (q_uA q_AM 33 f) 33 (upd f 0 0)) 33 (upd (upd f 0 0) 4 0)) 33 (upd (upd (upd f 0 0) 4 0) 1 0)) 33 (upd (upd (upd (upd f 0 0) 4 0) 1 0) 5 0)) 33 (upd (upd (upd (upd (upd f 0 0) 4 0) 1 0) 5 0) 2 0)) 33 (upd (upd (upd (upd (upd (upd f 0 0) 4 0) 1 0) 5 0) 2 0) 6 0)) 33 (upd (upd (upd (upd (upd (upd (upd f 0 0) 4 0) 1 0) 5 0) 2 0) 6 0) 3 0)) 33 (upd (upd (upd (upd (upd (upd (upd (upd f 0 0) 4 0) 1 0) 5 0) 2 0) 6 0) 3 0) 7 0)) I q_J0, 34, 31630))) 11 (fun _ _ => rfl) ?_
                        refine q_Ru_seg (g2 := (55, [(3, .int 12), (2, .int 3), (0, .ref 64), (1, .int 0)], [.int 0], (q_cM (q_uA (q_uA (q_uA (q_uA (q_uA (q_uA (q_uA (q_uA (q_uA q_AM 33 f) 33 (upd f 0 0)) 33 (upd (upd f 0 0) 4 0)) 33 (upd (upd (upd f 0 0) 4 0) 1 0)) 33 (upd (upd (upd (upd f 0 0) 4 0) 1 0) 5 0)) 33 (upd (upd (upd (upd (upd f 0 0) 4 0) 1 0) 5 0) 2 0)) 33 (upd (upd (upd (upd (upd (upd f 0 0) 4 0) 1 0) 5 0) 2 0) 6 0)) 33 (upd (upd (upd (upd (upd (upd (upd f 0 0) 4 0) 1 0) 5 0) 2 0) 6 0) 3 0)) 33 (upd (upd (upd (upd (upd (upd (upd (upd f 0 0) 4 0) 1 0) 5 0) 2 0) 6 0) 3 0) 7 0)) I q_J0, 34, 31630))) 11 (fun _ _ => rfl) ?_
                        refine q_Ru_seg (g2 := (55, [(3, .int 13), (2, .int 3), (0, .ref 64), (1, .int 0)], [.int 0], (q_cM (q_uA (q_uA (q_uA (q_uA (q_uA (q_uA (q_uA (q_uA (q_uA q_AM 33 f) 33 (upd f 0 0)) 33 (upd (upd f 0 0) 4 0)) 33 (upd (upd (upd f 0 0) 4 0) 1 0)) 33 (upd (upd (upd (upd f 0 0) 4 0) 1 0) 5 0)) 33 (upd (upd (upd (upd (upd f 0 0) 4 0) 1 0) 5 0) 2 0)) 33 (upd (upd (upd (upd (upd (upd f 0 0) 4 0) 1 0) 5 0) 2 0) 6 0)) 33 (upd (upd (upd (upd (upd (upd (upd f 0 0) 4 0) 1 0) 5 0) 2 0) 6 0) 3 0)) 33 (upd (upd (upd (upd (upd (upd (upd (upd f 0 0) 4 0) 1 0) 5 0) 2 0) 6 0) 3 0) 7 0)) I q_J0, 34, 31630))) 11 (fun _ _ => rfl) ?_
                        refine q_Ru_seg (g2 := (55, [(3, .int 14), (2, .int 3), (0, .ref 64), (1, .int 0)], [.int 0], (q_cM (q_uA (q_uA (q_uA (q_uA (q_uA (q_uA (q_uA (q_uA (q_uA q_AM 33 f) 33 (upd f 0 0)) 33 (upd (upd f 0 0) 4 0)) 33 (upd (upd (upd f 0 0) 4 0) 1 0)) 33 (upd (upd (upd (upd f 0 0) 4 0) 1 0) 5 0)) 33 (upd (upd (upd (upd (upd f 0 0) 4 0) 1 0) 5 0) 2 0)) 33 (upd (upd (upd (upd (upd (upd f 0 0) 4 0) 1 0) 5 0) 2 0) 6 0)) 33 (upd (upd (upd (upd (upd (upd (upd f 0 0) 4 0) 1 0) 5 0) 2 0) 6 0) 3 0)) 33 (upd (upd (upd (upd (upd (upd (upd (upd f 0 0) 4 0) 1 0) 5 0) 2 0) 6 0) 3 0) 7 0)) I q_J0, 34, 31630))) 11 (fun _ _ => rfl) ?_
                        refine q_Ru_seg (g2 := (55, [(3, .int 15), (2, .int 3), (0, .ref 64), (1, .int 0)], [.int 0], (q_cM (q_uA (q_uA (q_uA (q_uA (q_uA (q_uA (q_uA (q_uA (q_uA q_AM 33 f) 33 (upd f 0 0)) 33 (upd (upd f 0 0) 4 0)) 33 (upd (upd (upd f 0 0) 4 0) 1 0)) 33 (upd (upd (upd (upd f 0 0) 4 0) 1 0) 5 0)) 33 (upd (upd (upd (upd (upd f 0 0) 4 0) 1 0) 5 0) 2 0)) 33 (upd (upd (upd (upd (upd (upd f 0 0) 4 0) 1 0) 5 0) 2 0) 6 0)) 33 (upd (upd (upd (upd (upd (upd (upd f 0 0) 4 0) 1 0) 5 0) 2 0) 6 0) 3 0)) 33 (upd (upd (upd (upd (upd (upd (upd (upd f 0 0) 4 0) 1 0) 5 0) 2 0) 6 0) 3 0) 7 0)) I q_J0, 34, 31630))) 11 (fun _ _ => rfl) ?_
                        refine q_Ru_seg (g2 := (55, [(3, .int 0), (2, .int 4), (0, .ref 64), (1, .int 0)], [.int 0], (q_cM (q_uA (q_uA (q_uA (q_uA (q_uA (q_uA (q_uA (q_uA (q_uA q_AM 33 f) 33 (upd f 0 0)) 33 (upd (upd f 0 0) 4 0)) 33 (upd (upd (upd f 0 0) 4 0) 1 0)) 33 (upd (upd (upd (upd f 0 0) 4 0) 1 0) 5 0)) 33 (upd (upd (upd (upd (upd f 0 0) 4 0) 1 0) 5 0) 2 0)) 33 (upd (upd (upd (upd (upd (upd f 0 0) 4 0) 1 0) 5 0) 2 0) 6 0)) 33 (upd (upd (upd (upd (upd (upd (upd f 0 0) 4 0) 1 0) 5 0) 2 0) 6 0) 3 0)) 33 (upd (upd (upd (upd (upd (upd (upd (upd f 0 0) 4 0) 1 0) 5 0) 2 0) 6 0) 3 0) 7 0)) I q_J0, 34, 31630))) 21 (fun _ _ => rfl) ?_
                        refine q_Ru_seg (g2 := (55, [(3, .int 1), (2, .int 4), (0, .ref 64), (1, .int 0)], [.int 0], (q_cM (q_uA (q_uA (q_uA (q_uA (q_uA (q_uA (q_uA (q_uA (q_uA q_AM 33 f) 33 (upd f 0 0)) 33 (upd (upd f 0 0) 4 0)) 33 (upd (upd (upd f 0 0) 4 0) 1 0)) 33 (upd (upd (upd (upd f 0 0) 4 0) 1 0) 5 0)) 33 (upd (upd (upd (upd (upd f 0 0) 4 0) 1 0) 5 0) 2 0)) 33 (upd (upd (upd (upd (upd (upd f 0 0) 4 0) 1 0) 5 0) 2 0) 6 0)) 33 (upd (upd (upd (upd (upd (upd (upd f 0 0) 4 0) 1 0) 5 0) 2 0) 6 0) 3 0)) 33 (upd (upd (upd (upd (upd (upd (upd (upd f 0 0) 4 0) 1 0) 5 0) 2 0) 6 0) 3 0) 7 0)) I q_J0, 34, 31630))) 11 (fun _ _ => rfl) ?_
                        refine q_Ru_seg (g2 := (55, [(3, .int 2), (2, .int 4), (0, .ref 64), (1, .int 0)], [.int 0], (q_cM (q_uA (q_uA (q_uA (q_uA (q_uA (q_uA (q_uA (q_uA (q_uA q_AM 33 f) 33 (upd f 0 0)) 33 (upd (upd f 0 0) 4 0)) 33 (upd (upd (upd f 0 0) 4 0) 1 0)) 33 (upd (upd (upd (upd f 0 0) 4 0) 1 0) 5 0)) 33 (upd (upd (upd (upd (upd f 0 0) 4 0) 1 0) 5 0) 2 0)) 33 (upd (upd (upd (upd (upd (upd f 0 0) 4 0) 1 0) 5 0) 2 0) 6 0)) 33 (upd (upd (upd (upd (upd (upd (upd f 0 0) 4 0) 1 0) 5 0) 2 0) 6 0) 3 0)) 33 (upd (upd (upd (upd (upd (upd (upd (upd f 0 0) 4 0) 1 0) 5 0) 2 0) 6 0) 3 0) 7 0)) I q_J0, 34, 31630))) 11 (fun _ _ => rfl) ?_
                        refine q_Ru_seg (g2 := (55, [(3, .int 3), (2, .int 4), (0, .ref 64), (1, .int 0)], [.int 0], (q_cM (q_uA (q_uA (q_uA (q_uA (q_uA (q_uA (q_uA (q_uA (q_uA q_AM 33 f) 33 (upd f 0 0)) 33 (upd (upd f 0 0) 4 0)) 33 (upd (upd (upd f 0 0) 4 0) 1 0)) 33 (upd (upd (upd (upd f 0 0) 4 0) 1 0) 5 0)) 33 (upd (upd (upd (upd (upd f 0 0) 4 0) 1 0) 5 0) 2 0)) 33 (upd (upd (upd (upd (upd (upd f 0 0) 4 0) 1 0) 5 0) 2 0) 6 0)) 33 (upd (upd (upd (upd (upd (upd (upd f 0 0) 4 0) 1 0) 5 0) 2 0) 6 0) 3 0)) 33 (upd (upd (upd (upd (upd (upd (upd (upd f 0 0) 4 0) 1 0) 5 0) 2 0) 6 0) 3 0) 7 0)) I q_J0, 34, 31630))) 11 (fun _ _ => rfl) ?_
                        refine q_Ru_seg (g2 := (55, [(3, .int 4), (2, .int 4), (0, .ref 64), (1, .int 0)], [.int 0], (q_cM (q_uA (q_uA (q_uA (q_uA (q_uA (q_uA (q_uA (q_uA (q_uA q_AM 33 f) 33 (upd f 0 0)) 33 (upd (upd f 0 0) 4 0)) 33 (upd (upd (upd f 0 0) 4 0) 1 0)) 33 (upd (upd (upd (upd f 0 0) 4 0) 1 0) 5 0)) 33 (upd (upd (upd (upd (upd f 0 0) 4 0) 1 0) 5 0) 2 0)) 33 (upd (upd (upd (upd (upd (upd f 0 0) 4 0) 1 0) 5 0) 2 0) 6 0)) 33 (upd (upd (upd (upd (upd (upd (upd f 0 0) 4 0) 1 0) 5 0) 2 0) 6 0) 3 0)) 33 (upd (upd (upd (upd (upd (upd (upd (upd f 0 0) 4 0) 1 0) 5 0) 2 0) 6 0) 3 0) 7 0)) I q_J0, 34, 31630))) 11 (fun _ _ => rfl) ?_
                        refine q_Ru_seg (g2 := (55, [(3, .int 5), (2, .int 4), (0, .ref 64), (1, .int 0)], [.int 0], (q_cM (q_uA (q_uA (q_uA (q_uA (q_uA (q_uA (q_uA (q_uA (q_uA q_AM 33 f) 33 (upd f 0 0)) 33 (upd (upd f 0 0) 4 0)) 33 (upd (upd (upd f 0 0) 4 0) 1 0)) 33 (upd (upd (upd (upd f 0 0) 4 0) 1 0) 5 0)) 33 (upd (upd (upd (upd (upd f 0 0) 4 0) 1 0) 5 0) 2 0)) 33 (upd (upd (upd (upd (upd (upd f 0 0) 4 0) 1 0) 5 0) 2 0) 6 0)) 33 (upd (upd (upd (upd (upd (upd (upd f 0 0) 4 0) 1 0) 5 0) 2 0) 6 0) 3 0)) 33 (upd (upd (upd (upd (upd (upd (upd (upd f 0 0) 4 0) 1 0) 5 0) 2 0) 6 0) 3 0) 7 0)) I q_J0, 34, 31630))) 11 (fun _ _ => rfl) ?_
                        refine q_Ru_seg (g2 := (55, [(3, .int 6), (2, .int 4), (0, .ref 64), (1, .int 0)], [.int 0], (q_cM (q_uA (q_uA (q_uA (q_uA (q_uA (q_uA (q_uA (q_uA (q_uA q_AM 33 f) 33 (upd f 0 0)) 33 (upd (upd f 0 0) 4 0)) 33 (upd (upd (upd f 0 0) 4 0) 1 0)) 33 (upd (upd (upd (upd f 0 0) 4 0) 1 0) 5 0)) 33 (upd (upd (upd (upd (upd f 0 0) 4 0) 1 0) 5 0) 2 0)) 33 (upd (upd (upd (upd (upd (upd f 0 0) 4 0) 1 0) 5 0) 2 0) 6 0)) 33 (upd (upd (upd (upd (upd (upd (upd f 0 0) 4 0) 1 0) 5 0) 2 0) 6 0) 3 0)) 33 (upd (upd (upd (upd (upd (upd (upd (upd f 0 0) 4 0) 1 0) 5 0) 2 0) 6 0) 3 0) 7 0)) I q_J0, 34, 31630))) 11 (fun _ _ => rfl) ?_
                        refine q_Ru_seg (g2 := (55, [(3, .int 7), (2, .int 4), (0, .ref 64), (1, .int 0)], [.int 0], (q_cM (q_uA (q_uA (q_uA (q_uA (q_uA (q_uA (q_uA (q_uA (q_uA q_AM 33 f) 33 (upd f 0 0)) 33 (upd (upd f 0 0) 4 0)) 33 (upd (upd (upd f 0 0) 4 0) 1 0)) 33 (upd (upd (upd (upd f 0 0) 4 0) 1 0) 5 0)) 33 (upd (upd (upd (upd (upd f 0 0) 4 0) 1 0) 5 0) 2 0)) 33 (upd (upd (upd (upd (upd (upd f 0 0) 4 0) 1 0) 5 0) 2 0) 6 0)) 33 (upd (upd (upd (upd (upd (upd (upd f 0 0) 4 0) 1 0) 5 0) 2 0) 6 0) 3 0)) 33 (upd (upd (upd (upd (upd (upd (upd (upd f 0 0) 4 0) 1 0) 5 0) 2 0) 6 0) 3 0) 7 0)) I q_J0, 34, 31630))) 11 (fun _ _ => rfl) ?_
                        refine q_Ru_seg (g2 := (55, [(3, .int 8), (2, .int 4), (0, .ref 64), (1, .int 0)], [.int 0], (q_cM (q_uA (q_uA (q_uA (q_uA (q_uA (q_uA (q_uA (q_uA (q_uA q_AM 33 f) 33 (upd f 0 0)) 33 (upd (upd f 0 0) 4 0)) 33 (upd (upd (upd f 0 0) 4 0) 1 0)) 33 (upd (upd (upd (upd f 0 0) 4 0) 1 0) 5 0)) 33 (upd (upd (upd (upd (upd f 0 0) 4 0) 1 0) 5 0) 2 0)) 33 (upd (upd (upd (upd (upd (upd f 0 0) 4 0) 1 0) 5 0) 2 0) 6 0)) 33 (upd (upd (upd (upd (upd (upd (upd f 0 0) 4 0) 1 0) 5 0) 2 0) 6 0) 3 0)) 33 (upd (upd (upd (upd (upd (upd (upd (upd f 0 0) 4 0) 1 0) 5 0) 2 0) 6 0) 3 0) 7 0)) I q_J0, 34, 31630))) 11 (fun _ _ => rfl) ?_
                        refine q_Ru_seg (g2 := (55, [(3, .int 9), (2, .int 4), (0, .ref 64), (1, .int 0)], [.int 0], (q_cM (q_uA (q_uA (q_uA (q_uA (q_uA (q_uA (q_uA (q_uA (q_uA q_AM 33 f) 33 (upd f 0 0)) 33 (upd (upd f 0 0) 4 0)) 33 (upd (upd (upd f 0 0) 4 0) 1 0)) 33 (upd (upd (upd (upd f 0 0) 4 0) 1 0) 5 0)) 33 (upd (upd (upd (upd (upd f 0 0) 4 0) 1 0) 5 0) 2 0)) 33 (upd (upd (upd (upd (upd (upd f 0 0) 4 0) 1 0) 5 0) 2 0) 6 0)) 33 (upd (upd (upd (upd (upd (upd (upd f 0 0) 4 0) 1 0) 5 0) 2 0) 6 0) 3 0)) 33 (upd (upd (upd (upd (upd (upd (upd (upd f 0 0) 4 0) 1 0) 5 0) 2 0) 6 0) 3 0) 7 0)) I q_J0, 34, 31630))) 11 (fun _ _ => rfl) ?_
                        refine q_Ru_seg (g2 := (55, [(3, .int 10), (2, .int 4), (0, .ref 64), (1, .int 0)], [.int 0], (q_cM (q_uA (q_uA (q_uA (q_uA (q_uA (q_uA (q_uA (q_uA (q_uA q_AM 33 f) 33 (upd f 0 0)) 33 (upd (upd f 0 0) 4 0)) 33 (upd (upd (upd f 0 0) 4 0) 1 0)) 33 (upd (upd (upd (upd f 0 0) 4 0) 1 0) 5 0)) 33 (upd (upd (upd (upd (upd f 0 0) 4 0) 1 0) 5 0) 2 0)) 33 (upd (upd (upd (upd (upd (upd f 0 0) 4 0) 1 0) 5 0) 2 0) 6 0)) 33 (upd (upd (upd (upd (upd (upd (upd f 0 0) 4 0) 1 0) 5 0) 2 0) 6 0) 3 0)) 33 (upd (upd (upd (upd (upd (upd (upd (upd f 0 0) 4 0) 1 0) 5 0) 2 0) 6 0) 3 0) 7 0)) I q_J0, 34, 31630))) 11 (fun _ _ => rfl) ?_
                        refine q_Ru_seg (g2 := (55, [(3, .int 11), (2, .int 4), (0, .ref 64), (1, .int 0)], [.int 0], (q_cM (q_uA (q_uA (q_uA (q_uA (q_uA (q_uA (q_uA (q_uA (q_uA q_AM 33 f) 33 (upd f 0 0)) 33 (upd (upd f 0 0) 4 0)) 33 (upd (upd (upd f 0 0) 4 0) 1 0)) 33 (upd (upd (upd (upd f 0 0) 4 0) 1 0) 5 0)) 33 (upd (upd (upd (upd (upd f 0 0) 4 0) 1 0) 5 0) 2 0)) 33 (upd (upd (upd (upd (upd (upd f 0 0) 4 0) 1 0) 5 0) 2 0) 6 0)) 33 (upd (upd (upd (upd (upd (upd (upd f 0 0) 4 0) 1 0) 5 0) 2 0) 6 0) 3 0)) 33 (upd (upd (upd (upd (upd (upd (upd (upd f 0 0) 4 0) 1 0) 5 0) 2 0) 6 0) 3 0) 7 0)) I q_J0, 34, 31630))) 11 (fun _ _ => rfl) ?_
                        refine q_Ru_seg (g2 := (55, [(3, .int 12), (2, .int 4), (0, .ref 64), (1, .int 0)], [.int 0], (q_cM (q_uA (q_uA (q_uA (q_uA (q_uA (q_uA (q_uA (q_uA (q_uA q_AM 33 f) 33 (upd f 0 0)) 33 (upd (upd f 0 0) 4 0)) 33 (upd (upd (upd f 0 0) 4 0) 1 0)) 33 (upd (upd (upd (upd f 0 0) 4 0) 1 0) 5 0)) 33 (upd (upd (upd (upd (upd f 0 0) 4 0) 1 0) 5 0) 2 0)) 33 (upd (upd (upd (upd (upd (upd f 0 0) 4 0) 1 0) 5 0) 2 0) 6 0)) 33 (upd (upd (upd (upd (upd (upd (upd f 0 0) 4 0) 1 0) 5 0) 2 0) 6 0) 3 0)) 33 (upd (upd (upd (upd (upd (upd (upd (upd f 0 0) 4 0) 1 0) 5 0) 2 0) 6 0) 3 0) 7 0)) I q_J0, 34, 31630))) 11 (fun _ _ => rfl) ?_
                        refine q_Ru_seg (g2 := (55, [(3, .int 13), (2, .int 4), (0, .ref 64), (1, .int 0)], [.int 0], (q_cM (q_uA (q_uA (q_uA (q_uA (q_uA (q_uA (q_uA (q_uA (q_uA q_AM 33 f) 33 (upd f 0 0)) 33 (upd (upd f 0 0) 4 0)) 33 (upd (upd (upd f 0 0) 4 0) 1 0)) 33 (upd (upd (upd (upd f 0 0) 4 0) 1 0) 5 0)) 33 (upd (upd (upd (upd (upd f 0 0) 4 0) 1 0) 5 0) 2 0)) 33 (upd (upd (upd (upd (upd (upd f 0 0) 4 0) 1 0) 5 0) 2 0) 6 0)) 33 (upd (upd (upd (upd (upd (upd (upd f 0 0) 4 0) 1 0) 5 0) 2 0) 6 0) 3 0)) 33 (upd (upd (upd (upd (upd (upd (upd (upd f 0 0) 4 0) 1 0) 5 0) 2 0) 6 0) 3 0) 7 0)) I q_J0, 34, 31630))) 11 (fun _ _ => rfl) ?_
                        refine q_Ru_seg (g2 := (55, [(3, .int 14), (2, .int 4), (0, .ref 64), (1, .int 0)], [.int 0], (q_cM (q_uA (q_uA (q_uA (q_uA (q_uA (q_uA (q_uA (q_uA (q_uA q_AM 33 f) 33 (upd f 0 0)) 33 (upd (upd f 0 0) 4 0)) 33 (upd (upd (upd f 0 0) 4 0) 1 0)) 33 (upd (upd (upd (upd f 0 0) 4 0) 1 0) 5 0)) 33 (upd (upd (upd (upd (upd f 0 0) 4 0) 1 0) 5 0) 2 0)) 33 (upd (upd (upd (upd (upd (upd f 0 0) 4 0) 1 0) 5 0) 2 0) 6 0)) 33 (upd (upd (upd (upd (upd (upd (upd f 0 0) 4 0) 1 0) 5 0) 2 0) 6 0) 3 0)) 33 (upd (upd (upd (upd (upd (upd (upd (upd f 0 0) 4 0) 1 0) 5 0) 2 0) 6 0) 3 0) 7 0)) I q_J0, 34, 31630))) 11 (fun _ _ => rfl) ?_
                        refine q_Ru_seg (g2 := (55, [(3, .int 15), (2, .int 4), (0, .ref 64), (1, .int 0)], [.int 0], (q_cM (q_uA (q_uA (q_uA (q_uA (q_uA (q_uA (q_uA (q_uA (q_uA q_AM 33 f) 33 (upd f 0 0)) 33 (upd (upd f 0 0) 4 0)) 33 (upd (upd (upd f 0 0) 4 0) 1 0)) 33 (upd (upd (upd (upd f 0 0) 4 0) 1 0) 5 0)) 33 (upd (upd (upd (upd (upd f 0 0) 4 0) 1 0) 5 0) 2 0)) 33 (upd (upd (upd (upd (upd (upd f 0 0) 4 0) 1 0) 5 0) 2 0) 6 0)) 33 (upd (upd (upd (upd (upd (upd (upd f 0 0) 4 0) 1 0) 5 0) 2 0) 6 0) 3 0)) 33 (upd (upd (upd (upd (upd (upd (upd (upd f 0 0) 4 0) 1 0) 5 0) 2 0) 6 0) 3 0) 7 0)) I q_J0, 34, 31630))) 11 (fun _ _ => rfl) ?_
                        refine q_Ru_seg (g2 := (55, [(3, .int 0), (2, .int 5), (0, .ref 64), (1, .int 0)], [.int 0], (q_cM (q_uA (q_uA (q_uA (q_uA (q_uA (q_uA (q_uA (q_uA (q_uA q_AM 33 f) 33 (upd f 0 0)) 33 (upd (upd f 0 0) 4 0)) 33 (upd (upd (upd f 0 0) 4 0) 1 0)) 33 (upd (upd (upd (upd f 0 0) 4 0) 1 0) 5 0)) 33 (upd (upd (upd (upd (upd f 0 0) 4 0) 1 0) 5 0) 2 0)) 33 (upd (upd (upd (upd (upd (upd f 0 0) 4 0) 1 0) 5 0) 2 0) 6 0)) 33 (upd (upd (upd (upd (upd (upd (upd f 0 0) 4 0) 1 0) 5 0) 2 0) 6 0) 3 0)) 33 (upd (upd (upd (upd (upd (upd (upd (upd f 0 0) 4 0) 1 0) 5 0) 2 0) 6 0) 3 0) 7 0)) I q_J0, 34, 31630))) 21 (fun _ _ => rfl) ?_
                        refine q_Ru_seg (g2 := (55, [(3, .int 1), (2, .int 5), (0, .ref 64), (1, .int 0)], [.int 0], (q_cM (q_uA (q_uA (q_uA (q_uA (q_uA (q_uA (q_uA (q_uA (q_uA q_AM 33 f) 33 (upd f 0 0)) 33 (upd (upd f 0 0) 4 0)) 33 (upd (upd (upd f 0 0) 4 0) 1 0)) 33 (upd (upd (upd (upd f 0 0) 4 0) 1 0) 5 0)) 33 (upd (upd (upd (upd (upd f 0 0) 4 0) 1 0) 5 0) 2 0)) 33 (upd (upd (upd (upd (upd (upd f 0 0) 4 0) 1 0) 5 0) 2 0) 6 0)) 33 (upd (upd (upd (upd (upd (upd (upd f 0 0) 4 0) 1 0) 5 0) 2 0) 6 0) 3 0)) 33 (upd (upd (upd (upd (upd (upd (upd (upd f 0 0) 4 0) 1 0) 5 0) 2 0) 6 0) 3 0) 7 0)) I q_J0, 34, 31630))) 11 (fun _ _ => rfl) ?_
                        refine q_Ru_seg (g2 := (55, [(3, .int 2), (2, .int 5), (0, .ref 64), (1, .int 0)], [.int 0], (q_cM (q_uA (q_uA (q_uA (q_uA (q_uA (q_uA (q_uA (q_uA (q_uA q_AM 33 f) 33 (upd f 0 0)) 33 (upd (upd f 0 0) 4 0)) 33 (upd (upd (upd f 0 0) 4 0) 1 0)) 33 (upd (upd (upd (upd f 0 0) 4 0) 1 0) 5 0)) 33 (upd (upd (upd (upd (upd f 0 0) 4 0) 1 0) 5 0) 2 0)) 33 (upd (upd (upd (upd (upd (upd f 0 0) 4 0) 1 0) 5 0) 2 0) 6 0)) 33 (upd (upd (upd (upd (upd (upd (upd f 0 0) 4 0) 1 0) 5 0) 2 0) 6 0) 3 0)) 33 (upd (upd (upd (upd (upd (upd (upd (upd f 0 0) 4 0) 1 0) 5 0) 2 0) 6 0) 3 0) 7 0)) I q_J0, 34, 31630))) 11 (fun _ _ => rfl) ?_
                        refine q_Ru_seg (g2 := (55, [(3, .int 3), (2, .int 5), (0, .ref 64), (1, .int 0)], [.int 0], (q_cM (q_uA (q_uA (q_uA (q_uA (q_uA (q_uA (q_uA (q_uA (q_uA q_AM 33 f) 33 (upd f 0 0)) 33 (upd (upd f 0 0) 4 0)) 33 (upd (upd (upd f 0 0) 4 0) 1 0)) 33 (upd (upd (upd (upd f 0 0) 4 0) 1 0) 5 0)) 33 (upd (upd (upd (upd (upd f 0 0) 4 0) 1 0) 5 0) 2 0)) 33 (upd (upd (upd (upd (upd (upd f 0 0) 4 0) 1 0) 5 0) 2 0) 6 0)) 33 (upd (upd (upd (upd (upd (upd (upd f 0 0) 4 0) 1 0) 5 0) 2 0) 6 0) 3 0)) 33 (upd (upd (upd (upd (upd (upd (upd (upd f 0 0) 4 0) 1 0) 5 0) 2 0) 6 0) 3 0) 7 0)) I q_J0, 34, 31630))) 11 (fun _ _ => rfl) ?_
                        refine q_Ru_seg (g2 := (55, [(3, .int 4), (2, .int 5), (0, .ref 64), (1, .int 0)], [.int 0], (q_cM (q_uA (q_uA (q_uA (q_uA (q_uA (q_uA (q_uA (q_uA (q_uA q_AM 33 f) 33 (upd f 0 0)) 33 (upd (upd f 0 0) 4 0)) 33 (upd (upd (upd f 0 0) 4 0) 1 0)) 33 (upd (upd (upd (upd f 0 0) 4 0) 1 0) 5 0)) 33 (upd (upd (upd (upd (upd f 0 0) 4 0) 1 0) 5 0) 2 0)) 33 (upd (upd (upd (upd (upd (upd f 0 0) 4 0) 1 0) 5 0) 2 0) 6 0)) 33 (upd (upd (upd (upd (upd (upd (upd f 0 0) 4 0) 1 0) 5 0) 2 0) 6 0) 3 0)) 33 (upd (upd (upd (upd (upd (upd (upd (upd f 0 0) 4 0) 1 0) 5 0) 2 0) 6 0) 3 0) 7 0)) I q_J0, 34, 31630))) 11 (fun _ _ => rfl) ?_
                        refine q_Ru_seg (g2 := (55, [(3, .int 5), (2, .int 5), (0, .ref 64), (1, .int 0)], [.int 0], (q_cM (q_uA (q_uA (q_uA (q_uA (q_uA (q_uA (q_uA (q_uA (q_uA q_AM 33 f) 33 (upd f 0 0)) 33 (upd (upd f 0 0) 4 0)) 33 (upd (upd (upd f 0 0) 4 0) 1 0)) 33 (upd (upd (upd (upd f 0 0) 4 0) 1 0) 5 0)) 33 (upd (upd (upd (upd (upd f 0 0) 4 0) 1 0) 5 0) 2 0)) 33 (upd (upd (upd (upd (upd (upd f 0 0) 4 0) 1 0) 5 0) 2 0) 6 0)) 33 (upd (upd (upd (upd (upd (upd (upd f 0 0) 4 0) 1 0) 5 0) 2 0) 6 0) 3 0)) 33 (upd (upd (upd (upd (upd (upd (upd (upd f 0 0) 4 0) 1 0) 5 0) 2 0) 6 0) 3 0) 7 0)) I q_J0, 34, 31630))) 11 (fun _ _ => rfl) ?_
                        refine q_Ru_seg (g2 := (55, [(3, .int 6), (2, .int 5), (0, .ref 64), (1, .int 0)], [.int 0], (q_cM (q_uA (q_uA (q_uA (q_uA (q_uA (q_uA (q_uA (q_uA (q_uA q_AM 33 f) 33 (upd f 0 0)) 33 (upd (upd f 0 0) 4 0)) 33 (upd (upd (upd f 0 0) 4 0) 1 0)) 33 (upd (upd (upd (upd f 0 0) 4 0) 1 0) 5 0)) 33 (upd (upd (upd (upd (upd f 0 0) 4 0) 1 0) 5 0) 2 0)) 33 (upd (upd (upd (upd (upd (upd f 0 0) 4 0) 1 0) 5 0) 2 0) 6 0)) 33 (upd (upd (upd (upd (upd (upd (upd f 0 0) 4 0) 1 0) 5 0) 2 0) 6 0) 3 0)) 33 (upd (upd (upd (upd (upd (upd (upd (upd f 0 0) 4 0) 1 0) 5 0) 2 0) 6 0) 3 0) 7 0)) I q_J0, 34, 31630))) 11 (fun _ _ => rfl) ?_
                        refine q_Ru_seg (g2 := (55, [(3, .int 7), (2, .int 5), (0, .ref 64), (1, .int 0)], [.int 0], (q_cM (q_uA (q_uA (q_uA (q_uA (q_uA (q_uA (q_uA (q_uA (q_uA q_AM 33 f) 33 (upd f 0 0)) 33 (upd (upd f 0 0) 4 0)) 33 (upd (upd (upd f 0 0) 4 0) 1 0)) 33 (upd (upd (upd (upd f 0 0) 4 0) 1 0) 5 0)) 33 (upd (upd (upd (upd (upd f 0 0) 4 0) 1 0) 5 0) 2 0)) 33 (upd (upd (upd (upd (upd (upd f 0 0) 4 0) 1 0) 5 0) 2 0) 6 0)) 33 (upd (upd (upd (upd (upd (upd (upd f 0 0) 4 0) 1 0) 5 0) 2 0) 6 0) 3 0)) 33 (upd (upd (upd (upd (upd (upd (upd (upd f 0 0) 4 0) 1 0) 5 0) 2 0) 6 0) 3 0) 7 0)) I q_J0, 34, 31630))) 11 (fun _ _ => rfl) ?_
                        refine q_Ru_seg (g2 := (55, [(3, .int 8), (2, .int 5), (0, .ref 64), (1, .int 0)], [.int 0], (q_cM (q_uA (q_uA (q_uA (q_uA (q_uA (q_uA (q_uA (q_uA (q_uA q_AM 33 f) 33 (upd f 0 0)) 33 (upd (upd f 0 0) 4 0)) 33 (upd (upd (upd f 0 0) 4 0) 1 0)) 33 (upd (upd (upd (upd f 0 0) 4 0) 1 0) 5 0)) 33 (upd (upd (upd (upd (upd f 0 0) 4 0) 1 0) 5 0) 2 0)) 33 (upd (upd (upd (upd (upd (upd f 0 0) 4 0) 1 0) 5 0) 2 0) 6 0)) 33 (upd (upd (upd (upd (upd (upd (upd f 0 0) 4 0) 1 0) 5 0) 2 0) 6 0) 3 0)) 33 (upd (upd (upd (upd (upd (upd (upd (upd f 0 0) 4 0) 1 0) 5 0) 2 0) 6 0) 3 0) 7 0)) I q_J0, 34, 31630))) 11 (fun _ _ => rfl) ?_
                        refine q_Ru_seg (g2 := (55, [(3, .int 9), (2, .int 5), (0, .ref 64), (1, .int 0)], [.int 0], (q_cM (q_uA (q_uA (q_uA (q_uA (q_uA (q_uA (q_uA (q_uA (q_uA q_AM 33 f) 33 (upd f 0 0)) 33 (upd (upd f 0 0) 4 0)) 33 (upd (upd (upd f 0 0) 4 0) 1 0)) 33 (upd (upd (upd (upd f 0 0) 4 0) 1 0) 5 0)) 33 (upd (upd (upd (upd (upd f 0 0) 4 0) 1 0) 5 0) 2 0)) 33 (upd (upd (upd (upd (upd (upd f 0 0) 4 0) 1 0) 5 0) 2 0) 6 0)) 33 (upd (upd (upd (upd (upd (upd (upd f 0 0) 4 0) 1 0) 5 0) 2 0) 6 0) 3 0)) 33 (upd (upd (upd (upd (upd (upd (upd (upd f 0 0) 4 0) 1 0) 5 0) 2 0) 6 0) 3 0) 7 0)) I q_J0, 34, 31630))) 11 (fun _ _ => rfl) ?_
                        refine q_Ru_seg (g2 := (55, [(3, .int 10), (2, .int 5), (0, .ref 64), (1, .int 0)], [.int 0], (q_cM (q_uA (q_uA (q_uA (q_uA (q_uA (q_uA (q_uA (q_uA (q_uA q_AM 33 f) 33 (upd f 0 0)) 33 (upd (upd f 0 0) 4 0)) 33 (upd (upd (upd f 0 0) 4 0) 1 0)) 33 (upd (upd (upd (upd f 0 0) 4 0) 1 0) 5 0)) 33 (upd (upd (upd (upd (upd f 0 0) 4 0) 1 0) 5 0) 2 0)) 33 (upd (upd (upd (upd (upd (upd f 0 0) 4 0) 1 0) 5 0) 2 0) 6 0)) 33 (upd (upd (upd (upd (upd (upd (upd f 0 0) 4 0) 1 0) 5 0) 2 0) 6 0) 3 0)) 33 (upd (upd (upd (upd (upd (upd (upd (upd f 0 0) 4 0) 1 0) 5 0) 2 0) 6 0) 3 0) 7 0)) I q_J0, 34, 31630))) 11 (fun _ _ => rfl) ?_
                        refine q_Ru_seg (g2 := (55, [(3, .int 11), (2, .int 5), (0, .ref 64), (1, .int 0)], [.int 0], (q_cM (q_uA (q_uA (q_uA (q_uA (q_uA (q_uA (q_uA (q_uA (q_uA q_AM 33 f) 33 (upd f 0 0)) 33 (upd (upd f 0 0) 4 0)) 33 (upd (upd (upd f 0 0) 4 0) 1 0)) 33 (upd (upd (upd (upd f 0 0) 4 0) 1 0) 5 0)) 33 (upd (upd (upd (upd (upd f 0 0) 4 0) 1 0) 5 0) 2 0)) 33 (upd (upd (upd (upd (upd (upd f 0 0) 4 0) 1 0) 5 0) 2 0) 6 0)) 33 (upd (upd (upd (upd (upd (upd (upd f 0 0) 4 0) 1 0) 5 0) 2 0) 6 0) 3 0)) 33 (upd (upd (upd (upd (upd (upd (upd (upd f 0 0) 4 0) 1 0) 5 0) 2 0) 6 0) 3 0) 7 0)) I q_J0, 34, 31630))) 11 (fun _ _ => rfl) ?_
                        refine q_Ru_seg (g2 := (55, [(3, .int 12), (2, .int 5), (0, .ref 64), (1, .int 0)], [.int 0], (q_cM (q_uA (q_uA (q_uA (q_uA (q_uA (q_uA (q_uA (q_uA (q_uA q_AM 33 f) 33 (upd f 0 0)) 33 (upd (upd f 0 0) 4 0)) 33 (upd (upd (upd f 0 0) 4 0) 1 0)) 33 (upd (upd (upd (upd f 0 0) 4 0) 1 0) 5 0)) 33 (upd (upd (upd (upd (upd f 0 0) 4 0) 1 0) 5 0) 2 0)) 33 (upd (upd (upd (upd (upd (upd f 0 0) 4 0) 1 0) 5 0) 2 0) 6 0)) 33 (upd (upd (upd (upd (upd (upd (upd f 0 0) 4 0) 1 0) 5 0) 2 0) 6 0) 3 0)) 33 (upd (upd (upd (upd (upd (upd (upd (upd f 0 0) 4 0) 1 0) 5 0) 2 0) 6 0) 3 0) 7 0)) I q_J0, 34, 31630))) 11 (fun _ _ => rfl) ?_
                        refine q_Ru_seg (g2 := (55, [(3, .int 13), (2, .int 5), (0, .ref 64), (1, .int 0)], [.int 0], (q_cM (q_uA (q_uA (q_uA (q_uA (q_uA (q_uA (q_uA (q_uA (q_uA q_AM 33 f) 33 (upd f 0 0)) 33 (upd (upd f 0 0) 4 0)) 33 (upd (upd (upd f 0 0) 4 0) 1 0)) 33 (upd (upd (upd (upd f 0 0) 4 0) 1 0) 5 0)) 33 (upd (upd (upd (upd (upd f 0 0) 4 0) 1 0) 5 0) 2 0)) 33 (upd (upd (upd (upd (upd (upd f 0 0) 4 0) 1 0) 5 0) 2 0) 6 0)) 33 (upd (upd (upd (upd (upd (upd (upd f 0 0) 4 0) 1 0) 5 0) 2 0) 6 0) 3 0)) 33 (upd (upd (upd (upd (upd (upd (upd (upd f 0 0) 4 0) 1 0) 5 0) 2 0) 6 0) 3 0) 7 0)) I q_J0, 34, 31630))) 11 (fun _ _ => rfl) ?_
                        refine q_Ru_seg (g2 := (55, [(3, .int 14), (2, .int 5), (0, .ref 64), (1, .int 0)], [.int 0], (q_cM (q_uA (q_uA (q_uA (q_uA (q_uA (q_uA (q_uA (q_uA (q_uA q_AM 33 f) 33 (upd f 0 0)) 33 (upd (upd f 0 0) 4 0)) 33 (upd (upd (upd f 0 0) 4 0) 1 0)) 33 (upd (upd (upd (upd f 0 0) 4 0) 1 0) 5 0)) 33 (upd (upd (upd (upd (upd f 0 0) 4 0) 1 0) 5 0) 2 0)) 33 (upd (upd (upd (upd (upd (upd f 0 0) 4 0) 1 0) 5 0) 2 0) 6 0)) 33 (upd (upd (upd (upd (upd (upd (upd f 0 0) 4 0) 1 0) 5 0) 2 0) 6 0) 3 0)) 33 (upd (upd (upd (upd (upd (upd (upd (upd f 0 0) 4 0) 1 0) 5 0) 2 0) 6 0) 3 0) 7 0)) I q_J0, 34, 31630))) 11 (fun _ _ => rfl) ?_
                        refine q_Ru_seg (g2 := (55, [(3, .int 15), (2, .int 5), (0, .ref 64), (1, .int 0)], [.int 0], (q_cM (q_uA (q_uA (q_uA (q_uA (q_uA (q_uA (q_uA (q_uA (q_uA q_AM 33 f) 33 (upd f 0 0)) 33 (upd (upd f 0 0) 4 0)) 33 (upd (upd (upd f 0 0) 4 0) 1 0)) 33 (upd (upd (upd (upd f 0 0) 4 0) 1 0) 5 0)) 33 (upd (upd (upd (upd (upd f 0 0) 4 0) 1 0) 5 0) 2 0)) 33 (upd (upd (upd (upd (upd (upd f 0 0) 4 0) 1 0) 5 0) 2 0) 6 0)) 33 (upd (upd (upd (upd (upd (upd (upd f 0 0) 4 0) 1 0) 5 0) 2 0) 6 0) 3 0)) 33 (upd (upd (upd (upd (upd (upd (upd (upd f 0 0) 4 0) 1 0) 5 0) 2 0) 6 0) 3 0) 7 0)) I q_J0, 34, 31630))) 11 (fun _ _ => rfl) ?_
                        refine q_Ru_seg (g2 := (55, [(3, .int 0), (2, .int 6), (0, .ref 64), (1, .int 0)], [.int 0], (q_cM (q_uA (q_uA (q_uA (q_uA (q_uA (q_uA (q_uA (q_uA (q_uA q_AM 33 f) 33 (upd f 0 0)) 33 (upd (upd f 0 0) 4 0)) 33 (upd (upd (upd f 0 0) 4 0) 1 0)) 33 (upd (upd (upd (upd f 0 0) 4 0) 1 0) 5 0)) 33 (upd (upd (upd (upd (upd f 0 0) 4 0) 1 0) 5 0) 2 0)) 33 (upd (upd (upd (upd (upd (upd f 0 0) 4 0) 1 0) 5 0) 2 0) 6 0)) 33 (upd (upd (upd (upd (upd (upd (upd f 0 0) 4 0) 1 0) 5 0) 2 0) 6 0) 3 0)) 33 (upd (upd (upd (upd (upd (upd (upd (upd f 0 0) 4 0) 1 0) 5 0) 2 0) 6 0) 3 0) 7 0)) I q_J0, 34, 31630))) 21 (fun _ _ => rfl) ?_
                        refine q_Ru_seg (g2 := (55, [(3, .int 1), (2, .int 6), (0, .ref 64), (1, .int 0)], [.int 0], (q_cM (q_uA (q_uA (q_uA (q_uA (q_uA (q_uA (q_uA (q_uA (q_uA q_AM 33 f) 33 (upd f 0 0)) 33 (upd (upd f 0 0) 4 0)) 33 (upd (upd (upd f 0 0) 4 0) 1 0)) 33 (upd (upd (upd (upd f 0 0) 4 0) 1 0) 5 0)) 33 (upd (upd (upd (upd (upd f 0 0) 4 0) 1 0) 5 0) 2 0)) 33 (upd (upd (upd (upd (upd (upd f 0 0) 4 0) 1 0) 5 0) 2 0) 6 0)) 33 (upd (upd (upd (upd (upd (upd (upd f 0 0) 4 0) 1 0) 5 0) 2 0) 6 0) 3 0)) 33 (upd (upd (upd (upd (upd (upd (upd (upd f 0 0) 4 0) 1 0) 5 0) 2 0) 6 0) 3 0) 7 0)) I q_J0, 34, 31630))) 11 (fun _ _ => rfl) ?_
                        refine q_Ru_seg (g2 := (55, [(3, .int 2), (2, .int 6), (0, .ref 64), (1, .int 0)], [.int 0], (q_cM (q_uA (q_uA (q_uA (q_uA (q_uA (q_uA (q_uA (q_uA (q_uA q_AM 33 f) 33 (upd f 0 0)) 33 (upd (upd f 0 0) 4 0)) 33 (upd (upd (upd f 0 0) 4 0) 1 0)) 33 (upd (upd (upd (upd f 0 0) 4 0) 1 0) 5 0)) 33 (upd (upd (upd (upd (upd f 0 0) 4 0) 1 0) 5 0) 2 0)) 33 (upd (upd (upd (upd (upd (upd f 0 0) 4 0) 1 0) 5 0) 2 0) 6 0)) 33 (upd (upd (upd (upd (upd (upd (upd f 0 0) 4 0) 1 0) 5 0) 2 0) 6 0) 3 0)) 33 (upd (upd (upd (upd (upd (upd (upd (upd f 0 0) 4 0) 1 0) 5 0) 2 0) 6 0) 3 0) 7 0)) I q_J0, 34, 31630))) 11 (fun _ _ => rfl) ?_
                        refine q_Ru_seg (g2 := (55, [(3, .int 3), (2, .int 6), (0, .ref 64), (1, .int 0)], [.int 0], (q_cM (q_uA (q_uA (q_uA (q_uA (q_uA (q_uA (q_uA (q_uA (q_uA q_AM 33 f) 33 (upd f 0 0)) 33 (upd (upd f 0 0) 4 0)) 33 (upd (upd (upd f 0 0) 4 0) 1 0)) 33 (upd (upd (upd (upd f 0 0) 4 0) 1 0) 5 0)) 33 (upd (upd (upd (upd (upd f 0 0) 4 0) 1 0) 5 0) 2 0)) 33 (upd (upd (upd (upd (upd (upd f 0 0) 4 0) 1 0) 5 0) 2 0) 6 0)) 33 (upd (upd (upd (upd (upd (upd (upd f 0 0) 4 0) 1 0) 5 0) 2 0) 6 0) 3 0)) 33 (upd (upd (upd (upd (upd (upd (upd (upd f 0 0) 4 0) 1 0) 5 0) 2 0) 6 0) 3 0) 7 0)) I q_J0, 34, 31630))) 11 (fun _ _ => rfl) ?_
                        refine q_Ru_seg (g2 := (55, [(3, .int 4), (2, .int 6), (0, .ref 64), (1, .int 0)], [.int 0], (q_cM (q_uA (q_uA (q_uA (q_uA (q_uA (q_uA (q_uA (q_uA (q_uA q_AM 33 f) 33 (upd f 0 0)) 33 (upd (upd f 0 0) 4 0)) 33 (upd (upd (upd f 0 0) 4 0) 1 0)) 33 (upd (upd (upd (upd f 0 0) 4 0) 1 0) 5 0)) 33 (upd (upd (upd (upd (upd f 0 0) 4 0) 1 0) 5 0) 2 0)) 33 (upd (upd (upd (upd (upd (upd f 0 0) 4 0) 1 0) 5 0) 2 0) 6 0)) 33 (upd (upd (upd (upd (upd (upd (upd f 0 0) 4 0) 1 0) 5 0) 2 0) 6 0) 3 0)) 33 (upd (upd (upd (upd (upd (upd (upd (upd f 0 0) 4 0) 1 0) 5 0) 2 0) 6 0) 3 0) 7 0)) I q_J0, 34, 31630))) 11 (fun _ _ => rfl) ?_
                        refine q_Ru_seg (g2 := (55, [(3, .int 5), (2, .int 6), (0, .ref 64), (1, .int 0)], [.int 0], (q_cM (q_uA (q_uA (q_uA (q_uA (q_uA (q_uA (q_uA (q_uA (q_uA q_AM 33 f) 33 (upd f 0 0)) 33 (upd (upd f 0 0) 4 0)) 33 (upd (upd (upd f 0 0) 4 0) 1 0)) 33 (upd (upd (upd (upd f 0 0) 4 0) 1 0) 5 0)) 33 (upd (upd (upd (upd (upd f 0 0) 4 0) 1 0) 5 0) 2 0)) 33 (upd (upd (upd (upd (upd (upd f 0 0) 4 0) 1 0) 5 0) 2 0) 6 0)) 33 (upd (upd (upd (upd (upd (upd (upd f 0 0) 4 0) 1 0) 5 0) 2 0) 6 0) 3 0)) 33 (upd (upd (upd (upd (upd (upd (upd (upd f 0 0) 4 0) 1 0) 5 0) 2 0) 6 0) 3 0) 7 0)) I q_J0, 34, 31630))) 11 (fun _ _ => rfl) ?_
                        refine q_Ru_seg (g2 := (55, [(3, .int 6), (2, .int 6), (0, .ref 64), (1, .int 0)], [.int 0], (q_cM (q_uA (q_uA (q_uA (q_uA (q_uA (q_uA (q_uA (q_uA (q_uA q_AM 33 f) 33 (upd f 0 0)) 33 (upd (upd f 0 0) 4 0)) 33 (upd (upd (upd f 0 0) 4 0) 1 0)) 33 (upd (upd (upd (upd f 0 0) 4 0) 1 0) 5 0)) 33 (upd (upd (upd (upd (upd f 0 0) 4 0) 1 0) 5 0) 2 0)) 33 (upd (upd (upd (upd (upd (upd f 0 0) 4 0) 1 0) 5 0) 2 0) 6 0)) 33 (upd (upd (upd (upd (upd (upd (upd f 0 0) 4 0) 1 0) 5 0) 2 0) 6 0) 3 0)) 33 (upd (upd (upd (upd (upd (upd (upd (upd f 0 0) 4 0) 1 0) 5 0) 2 0) 6 0) 3 0) 7 0)) I q_J0, 34, 31630))) 11 (fun _ _ => rfl) ?_
                        refine q_Ru_seg (g2 := (55, [(3, .int 7), (2, .int 6), (0, .ref 64), (1, .int 0)], [.int 0], (q_cM (q_uA (q_uA (q_uA (q_uA (q_uA (q_uA (q_uA (q_uA (q_uA q_AM 33 f) 33 (upd f 0 0)) 33 (upd (upd f 0 0) 4 0)) 33 (upd (upd (upd f 0 0) 4 0) 1 0)) 33 (upd (upd (upd (upd f 0 0) 4 0) 1 0) 5 0)) 33 (upd (upd (upd (upd (upd f 0 0) 4 0) 1 0) 5 0) 2 0)) 33 (upd (upd (upd (upd (upd (upd f 0 0) 4 0) 1 0) 5 0) 2 0) 6 0)) 33 (upd (upd (upd (upd (upd (upd (upd f 0 0) 4 0) 1 0) 5 0) 2 0) 6 0) 3 0)) 33 (upd (upd (upd (upd (upd (upd (upd (upd f 0 0) 4 0) 1 0) 5 0) 2 0) 6 0) 3 0) 7 0)) I q_J0, 34, 31630))) 11 (fun _ _ => rfl) ?_
                        refine q_Ru_seg (g2 := (55, [(3, .int 8), (2, .int 6), (0, .ref 64), (1, .int 0)], [.int 0], (q_cM (q_uA (q_uA (q_uA (q_uA (q_uA (q_uA (q_uA (q_uA (q_uA q_AM 33 f) 33 (upd f 0 0)) 33 (upd (upd f 0 0) 4 0)) 33 (upd (upd (upd f 0 0) 4 0) 1 0)) 33 (upd (upd (upd (upd f 0 0) 4 0) 1 0) 5 0)) 33 (upd (upd (upd (upd (upd f 0 0) 4 0) 1 0) 5 0) 2 0)) 33 (upd (upd (upd (upd (upd (upd f 0 0) 4 0) 1 0) 5 0) 2 0) 6 0)) 33 (upd (upd (upd (upd (upd (upd (upd f 0 0) 4 0) 1 0) 5 0) 2 0) 6 0) 3 0)) 33 (upd (upd (upd (upd (upd (upd (upd (upd f 0 0) 4 0) 1 0) 5 0) 2 0) 6 0) 3 0) 7 0)) I q_J0, 34, 31630))) 11 (fun _ _ => rfl) ?_
                        refine q_Ru_seg (g2 := (55, [(3, .int 9), (2, .int 6), (0, .ref 64), (1, .int 0)], [.int 0], (q_cM (q_uA (q_uA (q_uA (q_uA (q_uA (q_uA (q_uA (q_uA (q_uA q_AM 33 f) 33 (upd f 0 0)) 33 (upd (upd f 0 0) 4 0)) 33 (upd (upd (upd f 0 0) 4 0) 1 0)) 33 (upd (upd (upd (upd f 0 0) 4 0) 1 0) 5 0)) 33 (upd (upd (upd (upd (upd f 0 0) 4 0) 1 0) 5 0) 2 0)) 33 (upd (upd (upd (upd (upd (upd f 0 0) 4 0) 1 0) 5 0) 2 0) 6 0)) 33 (upd (upd (upd (upd (upd (upd (upd f 0 0) 4 0) 1 0) 5 0) 2 0) 6 0) 3 0)) 33 (upd (upd (upd (upd (upd (upd (upd (upd f 0 0) 4 0) 1 0) 5 0) 2 0) 6 0) 3 0) 7 0)) I q_J0, 34, 31630))) 11 (fun _ _ => rfl) ?_
                        refine q_Ru_seg (g2 := (55, [(3, .int 10), (2, .int 6), (0, .ref 64), (1, .int 0)], [.int 0], (q_cM (q_uA (q_uA (q_uA (q_uA (q_uA (q_uA (q_uA (q_uA (q_uA q_AM 33 f) 33 (upd f 0 0)) 33 (upd (upd f 0 0) 4 0)) 33 (upd (upd (upd f 0 0) 4 0) 1 0)) 33 (upd (upd (upd (upd f 0 0) 4 0) 1 0) 5 0)) 33 (upd (upd (upd (upd (upd f 0 0) 4 0) 1 0) 5 0) 2 0)) 33 (upd (upd (upd (upd (upd (upd f 0 0) 4 0) 1 0) 5 0) 2 0) 6 0)) 33 (upd (upd (upd (upd (upd (upd (upd f 0 0) 4 0) 1 0) 5 0) 2 0) 6 0) 3 0)) 33 (upd (upd (upd (upd (upd (upd (upd (upd f 0 0) 4 0) 1 0) 5 0) 2 0) 6 0) 3 0) 7 0)) I q_J0, 34, 31630))) 11 (fun _ _ => rfl) ?_
                        refine q_Ru_seg (g2 := (55, [(3, .int 11), (2, .int 6), (0, .ref 64), (1, .int 0)], [.int 0], (q_cM (q_uA (q_uA (q_uA (q_uA (q_uA (q_uA (q_uA (q_uA (q_uA q_AM 33 f) 33 (upd f 0 0)) 33 (upd (upd f 0 0) 4 0)) 33 (upd (upd (upd f 0 0) 4 0) 1 0)) 33 (upd (upd (upd (upd f 0 0) 4 0) 1 0) 5 0)) 33 (upd (upd (upd (upd (upd f 0 0) 4 0) 1 0) 5 0) 2 0)) 33 (upd (upd (upd (upd (upd (upd f 0 0) 4 0) 1 0) 5 0) 2 0) 6 0)) 33 (upd (upd (upd (upd (upd (upd (upd f 0 0) 4 0) 1 0) 5 0) 2 0) 6 0) 3 0)) 33 (upd (upd (upd (upd (upd (upd (upd (upd f 0 0) 4 0) 1 0) 5 0) 2 0) 6 0) 3 0) 7 0)) I q_J0, 34, 31630))) 11 (fun _ _ => rfl) ?_
                        refine q_Ru_seg (g2 := (55, [(3, .int 12), (2, .int 6), (0, .ref 64), (1, .int 0)], [.int 0], (q_cM (q_uA (q_uA (q_uA (q_uA (q_uA (q_uA (q_uA (q_uA (q_uA q_AM 33 f) 33 (upd f 0 0)) 33 (upd (upd f 0 0) 4 0)) 33 (upd (upd (upd f 0 0) 4 0) 1 0)) 33 (upd (upd (upd (upd f 0 0) 4 0) 1 0) 5 0)) 33 (upd (upd (upd (upd (upd f 0 0) 4 0) 1 0) 5 0) 2 0)) 33 (upd (upd (upd (upd (upd (upd f 0 0) 4 0) 1 0) 5 0) 2 0) 6 0)) 33 (upd (upd (upd (upd (upd (upd (upd f 0 0) 4 0) 1 0) 5 0) 2 0) 6 0) 3 0)) 33 (upd (upd (upd (upd (upd (upd (upd (upd f 0 0) 4 0) 1 0) 5 0) 2 0) 6 0) 3 0) 7 0)) I q_J0, 34, 31630))) 11 (fun _ _ => rfl) ?_
                        refine q_Ru_seg (g2 := (55, [(3, .int 13), (2, .int 6), (0, .ref 64), (1, .int 0)], [.int 0], (q_cM (q_uA (q_uA (q_uA (q_uA (q_uA (q_uA (q_uA (q_uA (q_uA q_AM 33 f) 33 (upd f 0 0)) 33 (upd (upd f 0 0) 4 0)) 33 (upd (upd (upd f 0 0) 4 0) 1 0)) 33 (upd (upd (upd (upd f 0 0) 4 0) 1 0) 5 0)) 33 (upd (upd (upd (upd (upd f 0 0) 4 0) 1 0) 5 0) 2 0)) 33 (upd (upd (upd (upd (upd (upd f 0 0) 4 0) 1 0) 5 0) 2 0) 6 0)) 33 (upd (upd (upd (upd (upd (upd (upd f 0 0) 4 0) 1 0) 5 0) 2 0) 6 0) 3 0)) 33 (upd (upd (upd (upd (upd (upd (upd (upd f 0 0) 4 0) 1 0) 5 0) 2 0) 6 0) 3 0) 7 0)) I q_J0, 34, 31630))) 11 (fun _ _ => rfl) ?_
                        refine q_Ru_seg (g2 := (55, [(3, .int 14), (2, .int 6), (0, .ref 64), (1, .int 0)], [.int 0], (q_cM (q_uA (q_uA (q_uA (q_uA (q_uA (q_uA (q_uA (q_uA (q_uA q_AM 33 f) 33 (upd f 0 0)) 33 (upd (upd f 0 0) 4 0)) 33 (upd (upd (upd f 0 0) 4 0) 1 0)) 33 (upd (upd (upd (upd f 0 0) 4 0) 1 0) 5 0)) 33 (upd (upd (upd (upd (upd f 0 0) 4 0) 1 0) 5 0) 2 0)) 33 (upd (upd (upd (upd (upd (upd f 0 0) 4 0) 1 0) 5 0) 2 0) 6 0)) 33 (upd (upd (upd (upd (upd (upd (upd f 0 0) 4 0) 1 0) 5 0) 2 0) 6 0) 3 0)) 33 (upd (upd (upd (upd (upd (upd (upd (upd f 0 0) 4 0) 1 0) 5 0) 2 0) 6 0) 3 0) 7 0)) I q_J0, 34, 31630))) 11 (fun _ _ => rfl) ?_
                        refine q_Ru_seg (g2 := (55, [(3, .int 15), (2, .int 6), (0, .ref 64), (1, .int 0)], [.int 0], (q_cM (q_uA (q_uA (q_uA (q_uA (q_uA (q_uA (q_uA (q_uA (q_uA q_AM 33 f) 33 (upd f 0 0)) 33 (upd (upd f 0 0) 4 0)) 33 (upd (upd (upd f 0 0) 4 0) 1 0)) 33 (upd (upd (upd (upd f 0 0) 4 0) 1 0) 5 0)) 33 (upd (upd (upd (upd (upd f 0 0) 4 0) 1 0) 5 0) 2 0)) 33 (upd (upd (upd (upd (upd (upd f 0 0) 4 0) 1 0) 5 0) 2 0) 6 0)) 33 (upd (upd (upd (upd (upd (upd (upd f 0 0) 4 0) 1 0) 5 0) 2 0) 6 0) 3 0)) 33 (upd (upd (upd (upd (upd (upd (upd (upd f 0 0) 4 0) 1 0) 5 0) 2 0) 6 0) 3 0) 7 0)) I q_J0, 34, 31630))) 11 (fun _ _ => rfl) ?_
                        refine q_Ru_seg (g2 := (55, [(3, .int 0), (2, .int 7), (0, .ref 64), (1, .int 0)], [.int 0], (q_cM (q_uA (q_uA (q_uA (q_uA (q_uA (q_uA (q_uA (q_uA (q_uA q_AM 33 f) 33 (upd f 0 0)) 33 (upd (upd f 0 0) 4 0)) 33 (upd (upd (upd f 0 0) 4 0) 1 0)) 33 (upd (upd (upd (upd f 0 0) 4 0) 1 0) 5 0)) 33 (upd (upd (upd (upd (upd f 0 0) 4 0) 1 0) 5 0) 2 0)) 33 (upd (upd (upd (upd (upd (upd f 0 0) 4 0) 1 0) 5 0) 2 0) 6 0)) 33 (upd (upd (upd (upd (upd (upd (upd f 0 0) 4 0) 1 0) 5 0) 2 0) 6 0) 3 0)) 33 (upd (upd (upd (upd (upd (upd (upd (upd f 0 0) 4 0) 1 0) 5 0) 2 0) 6 0) 3 0) 7 0)) I q_J0, 34, 31630))) 21 (fun _ _ => rfl) ?_
                        refine q_Ru_seg (g2 := (55, [(3, .int 1), (2, .int 7), (0, .ref 64), (1, .int 0)], [.int 0], (q_cM (q_uA (q_uA (q_uA (q_uA (q_uA (q_uA (q_uA (q_uA (q_uA q_AM 33 f) 33 (upd f 0 0)) 33 (upd (upd f 0 0) 4 0)) 33 (upd (upd (upd f 0 0) 4 0) 1 0)) 33 (upd (upd (upd (upd f 0 0) 4 0) 1 0) 5 0)) 33 (upd (upd (upd (upd (upd f 0 0) 4 0) 1 0) 5 0) 2 0)) 33 (upd (upd (upd (upd (upd (upd f 0 0) 4 0) 1 0) 5 0) 2 0) 6 0)) 33 (upd (upd (upd (upd (upd (upd (upd f 0 0) 4 0) 1 0) 5 0) 2 0) 6 0) 3 0)) 33 (upd (upd (upd (upd (upd (upd (upd (upd f 0 0) 4 0) 1 0) 5 0) 2 0) 6 0) 3 0) 7 0)) I q_J0, 34, 31630))) 11 (fun _ _ => rfl) ?_
                        refine q_Ru_seg (g2 := (55, [(3, .int 2), (2, .int 7), (0, .ref 64), (1, .int 0)], [.int 0], (q_cM (q_uA (q_uA (q_uA (q_uA (q_uA (q_uA (q_uA (q_uA (q_uA q_AM 33 f) 33 (upd f 0 0)) 33 (upd (upd f 0 0) 4 0)) 33 (upd (upd (upd f 0 0) 4 0) 1 0)) 33 (upd (upd (upd (upd f 0 0) 4 0) 1 0) 5 0)) 33 (upd (upd (upd (upd (upd f 0 0) 4 0) 1 0) 5 0) 2 0)) 33 (upd (upd (upd (upd (upd (upd f 0 0) 4 0) 1 0) 5 0) 2 0) 6 0)) 33 (upd (upd (upd (upd (upd (upd (upd f 0 0) 4 0) 1 0) 5 0) 2 0) 6 0) 3 0)) 33 (upd (upd (upd (upd (upd (upd (upd (upd f 0 0) 4 0) 1 0) 5 0) 2 0) 6 0) 3 0) 7 0)) I q_J0, 34, 31630))) 11 (fun _ _ => rfl) ?_
                        refine q_Ru_seg (g2 := (55, [(3, .int 3), (2, .int 7), (0, .ref 64), (1, .int 0)], [.int 0], (q_cM (q_uA (q_uA (q_uA (q_uA (q_uA (q_uA (q_uA (q_uA (q_uA q_AM 33 f) 33 (upd f 0 0)) 33 (upd (upd f 0 0) 4 0)) 33 (upd (upd (upd f 0 0) 4 0) 1 0)) 33 (upd (upd (upd (upd f 0 0) 4 0) 1 0) 5 0)) 33 (upd (upd (upd (upd (upd f 0 0) 4 0) 1 0) 5 0) 2 0)) 33 (upd (upd (upd (upd (upd (upd f 0 0) 4 0) 1 0) 5 0) 2 0) 6 0)) 33 (upd (upd (upd (upd (upd (upd (upd f 0 0) 4 0) 1 0) 5 0) 2 0) 6 0) 3 0)) 33 (upd (upd (upd (upd (upd (upd (upd (upd f 0 0) 4 0) 1 0) 5 0) 2 0) 6 0) 3 0) 7 0)) I q_J0, 34, 31630))) 11 (fun _ _ => rfl) ?_
                        refine q_Ru_seg (g2 := (55, [(3, .int 4), (2, .int 7), (0, .ref 64), (1, .int 0)], [.int 0], (q_cM (q_uA (q_uA (q_uA (q_uA (q_uA (q_uA (q_uA (q_uA (q_uA q_AM 33 f) 33 (upd f 0 0)) 33 (upd (upd f 0 0) 4 0)) 33 (upd (upd (upd f 0 0) 4 0) 1 0)) 33 (upd (upd (upd (upd f 0 0) 4 0) 1 0) 5 0)) 33 (upd (upd (upd (upd (upd f 0 0) 4 0) 1 0) 5 0) 2 0)) 33 (upd (upd (upd (upd (upd (upd f 0 0) 4 0) 1 0) 5 0) 2 0) 6 0)) 33 (upd (upd (upd (upd (upd (upd (upd f 0 0) 4 0) 1 0) 5 0) 2 0) 6 0) 3 0)) 33 (upd (upd (upd (upd (upd (upd (upd (upd f 0 0) 4 0) 1 0) 5 0) 2 0) 6 0) 3 0) 7 0)) I q_J0, 34, 31630))) 11 (fun _ _ => rfl) ?_
                        refine q_Ru_seg (g2 := (55, [(3, .int 5), (2, .int 7), (0, .ref 64), (1, .int 0)], [.int 0], (q_cM (q_uA (q_uA (q_uA (q_uA (q_uA (q_uA (q_uA (q_uA (q_uA q_AM 33 f) 33 (upd f 0 0)) 33 (upd (upd f 0 0) 4 0)) 33 (upd (upd (upd f 0 0) 4 0) 1 0)) 33 (upd (upd (upd (upd f 0 0) 4 0) 1 0) 5 0)) 33 (upd (upd (upd (upd (upd f 0 0) 4 0) 1 0) 5 0) 2 0)) 33 (upd (upd (upd (upd (upd (upd f 0 0) 4 0) 1 0) 5 0) 2 0) 6 0)) 33 (upd (upd (upd (upd (upd (upd (upd f 0 0) 4 0) 1 0) 5 0) 2 0) 6 0) 3 0)) 33 (upd (upd (upd (upd (upd (upd (upd (upd f 0 0) 4 0) 1 0) 5 0) 2 0) 6 0) 3 0) 7 0)) I q_J0, 34, 31630))) 11 (fun _ _ => rfl) ?_
                        refine q_Ru_seg (g2 := (55, [(3, .int 6), (2, .int 7), (0, .ref 64), (1, .int 0)], [.int 0], (q_cM (q_uA (q_uA (q_uA (q_uA (q_uA (q_uA (q_uA (q_uA (q_uA q_AM 33 f) 33 (upd f 0 0)) 33 (upd (upd f 0 0) 4 0)) 33 (upd (upd (upd f 0 0) 4 0) 1 0)) 33 (upd (upd (upd (upd f 0 0) 4 0) 1 0) 5 0)) 33 (upd (upd (upd (upd (upd f 0 0) 4 0) 1 0) 5 0) 2 0)) 33 (upd (upd (upd (upd (upd (upd f 0 0) 4 0) 1 0) 5 0) 2 0) 6 0)) 33 (upd (upd (upd (upd (upd (upd (upd f 0 0) 4 0) 1 0) 5 0) 2 0) 6 0) 3 0)) 33 (upd (upd (upd (upd (upd (upd (upd (upd f 0 0) 4 0) 1 0) 5 0) 2 0) 6 0) 3 0) 7 0)) I q_J0, 34, 31630))) 11 (fun _ _ => rfl) ?_
                        refine q_Ru_seg (g2 := (55, [(3, .int 7), (2, .int 7), (0, .ref 64), (1, .int 0)], [.int 0], (q_cM (q_uA (q_uA (q_uA (q_uA (q_uA (q_uA (q_uA (q_uA (q_uA q_AM 33 f) 33 (upd f 0 0)) 33 (upd (upd f 0 0) 4 0)) 33 (upd (upd (upd f 0 0) 4 0) 1 0)) 33 (upd (upd (upd (upd f 0 0) 4 0) 1 0) 5 0)) 33 (upd (upd (upd (upd (upd f 0 0) 4 0) 1 0) 5 0) 2 0)) 33 (upd (upd (upd (upd (upd (upd f 0 0) 4 0) 1 0) 5 0) 2 0) 6 0)) 33 (upd (upd (upd (upd (upd (upd (upd f 0 0) 4 0) 1 0) 5 0) 2 0) 6 0) 3 0)) 33 (upd (upd (upd (upd (upd (upd (upd (upd f 0 0) 4 0) 1 0) 5 0) 2 0) 6 0) 3 0) 7 0)) I q_J0, 34, 31630))) 11 (fun _ _ => rfl) ?_
                        refine q_Ru_seg (g2 := (55, [(3, .int 8), (2, .int 7), (0, .ref 64), (1, .int 0)], [.int 0], (q_cM (q_uA (q_uA (q_uA (q_uA (q_uA (q_uA (q_uA (q_uA (q_uA q_AM 33 f) 33 (upd f 0 0)) 33 (upd (upd f 0 0) 4 0)) 33 (upd (upd (upd f 0 0) 4 0) 1 0)) 33 (upd (upd (upd (upd f 0 0) 4 0) 1 0) 5 0)) 33 (upd (upd (upd (upd (upd f 0 0) 4 0) 1 0) 5 0) 2 0)) 33 (upd (upd (upd (upd (upd (upd f 0 0) 4 0) 1 0) 5 0) 2 0) 6 0)) 33 (upd (upd (upd (upd (upd (upd (upd f 0 0) 4 0) 1 0) 5 0) 2 0) 6 0) 3 0)) 33 (upd (upd (upd (upd (upd (upd (upd (upd f 0 0) 4 0) 1 0) 5 0) 2 0) 6 0) 3 0) 7 0)) I q_J0, 34, 31630))) 11 (fun _ _ => rfl) ?_
                        refine q_Ru_seg (g2 := (55, [(3, .int 9), (2, .int 7), (0, .ref 64), (1, .int 0)], [.int 0], (q_cM (q_uA (q_uA (q_uA (q_uA (q_uA (q_uA (q_uA (q_uA (q_uA q_AM 33 f) 33 (upd f 0 0)) 33 (upd (upd f 0 0) 4 0)) 33 (upd (upd (upd f 0 0) 4 0) 1 0)) 33 (upd (upd (upd (upd f 0 0) 4 0) 1 0) 5 0)) 33 (upd (upd (upd (upd (upd f 0 0) 4 0) 1 0) 5 0) 2 0)) 33 (upd (upd (upd (upd (upd (upd f 0 0) 4 0) 1 0) 5 0) 2 0) 6 0)) 33 (upd (upd (upd (upd (upd (upd (upd f 0 0) 4 0) 1 0) 5 0) 2 0) 6 0) 3 0)) 33 (upd (upd (upd (upd (upd (upd (upd (upd f 0 0) 4 0) 1 0) 5 0) 2 0) 6 0) 3 0) 7 0)) I q_J0, 34, 31630))) 11 (fun _ _ => rfl) ?_
                        refine q_Ru_seg (g2 := (55, [(3, .int 10), (2, .int 7), (0, .ref 64), (1, .int 0)], [.int 0], (q_cM (q_uA (q_uA (q_uA (q_uA (q_uA (q_uA (q_uA (q_uA (q_uA q_AM 33 f) 33 (upd f 0 0)) 33 (upd (upd f 0 0) 4 0)) 33 (upd (upd (upd f 0 0) 4 0) 1 0)) 33 (upd (upd (upd (upd f 0 0) 4 0) 1 0) 5 0)) 33 (upd (upd (upd (upd (upd f 0 0) 4 0) 1 0) 5 0) 2 0)) 33 (upd (upd (upd (upd (upd (upd f 0 0) 4 0) 1 0) 5 0) 2 0) 6 0)) 33 (upd (upd (upd (upd (upd (upd (upd f 0 0) 4 0) 1 0) 5 0) 2 0) 6 0) 3 0)) 33 (upd (upd (upd (upd (upd (upd (upd (upd f 0 0) 4 0) 1 0) 5 0) 2 0) 6 0) 3 0) 7 0)) I q_J0, 34, 31630))) 11 (fun _ _ => rfl) ?_
                        refine q_Ru_seg (g2 := (55, [(3, .int 11), (2, .int 7), (0, .ref 64), (1, .int 0)], [.int 0], (q_cM (q_uA (q_uA (q_uA (q_uA (q_uA (q_uA (q_uA (q_uA (q_uA q_AM 33 f) 33 (upd f 0 0)) 33 (upd (upd f 0 0) 4 0)) 33 (upd (upd (upd f 0 0) 4 0) 1 0)) 33 (upd (upd (upd (upd f 0 0) 4 0) 1 0) 5 0)) 33 (upd (upd (upd (upd (upd f 0 0) 4 0) 1 0) 5 0) 2 0)) 33 (upd (upd (upd (upd (upd (upd f 0 0) 4 0) 1 0) 5 0) 2 0) 6 0)) 33 (upd (upd (upd (upd (upd (upd (upd f 0 0) 4 0) 1 0) 5 0) 2 0) 6 0) 3 0)) 33 (upd (upd (upd (upd (upd (upd (upd (upd f 0 0) 4 0) 1 0) 5 0) 2 0) 6 0) 3 0) 7 0)) I q_J0, 34, 31630))) 11 (fun _ _ => rfl) ?_
                        refine q_Ru_seg (g2 := (55, [(3, .int 12), (2, .int 7), (0, .ref 64), (1, .int 0)], [.int 0], (q_cM (q_uA (q_uA (q_uA (q_uA (q_uA (q_uA (q_uA (q_uA (q_uA q_AM 33 f) 33 (upd f 0 0)) 33 (upd (upd f 0 0) 4 0)) 33 (upd (upd (upd f 0 0) 4 0) 1 0)) 33 (upd (upd (upd (upd f 0 0) 4 0) 1 0) 5 0)) 33 (upd (upd (upd (upd (upd f 0 0) 4 0) 1 0) 5 0) 2 0)) 33 (upd (upd (upd (upd (upd (upd f 0 0) 4 0) 1 0) 5 0) 2 0) 6 0)) 33 (upd (upd (upd (upd (upd (upd (upd f 0 0) 4 0) 1 0) 5 0) 2 0) 6 0) 3 0)) 33 (upd (upd (upd (upd (upd (upd (upd (upd f 0 0) 4 0) 1 0) 5 0) 2 0) 6 0) 3 0) 7 0)) I q_J0, 34, 31630))) 11 (fun _ _ => rfl) ?_
                        refine q_Ru_seg (g2 := (55, [(3, .int 13), (2, .int 7), (0, .ref 64), (1, .int 0)], [.int 0], (q_cM (q_uA (q_uA (q_uA (q_uA (q_uA (q_uA (q_uA (q_uA (q_uA q_AM 33 f) 33 (upd f 0 0)) 33 (upd (upd f 0 0) 4 0)) 33 (upd (upd (upd f 0 0) 4 0) 1 0)) 33 (upd (upd (upd (upd f 0 0) 4 0) 1 0) 5 0)) 33 (upd (upd (upd (upd (upd f 0 0) 4 0) 1 0) 5 0) 2 0)) 33 (upd (upd (upd (upd (upd (upd f 0 0) 4 0) 1 0) 5 0) 2 0) 6 0)) 33 (upd (upd (upd (upd (upd (upd (upd f 0 0) 4 0) 1 0) 5 0) 2 0) 6 0) 3 0)) 33 (upd (upd (upd (upd (upd (upd (upd (upd f 0 0) 4 0) 1 0) 5 0) 2 0) 6 0) 3 0) 7 0)) I q_J0, 34, 31630))) 11 (fun _ _ => rfl) ?_
                        refine q_Ru_seg (g2 := (55, [(3, .int 14), (2, .int 7), (0, .ref 64), (1, .int 0)], [.int 0], (q_cM (q_uA (q_uA (q_uA (q_uA (q_uA (q_uA (q_uA (q_uA (q_uA q_AM 33 f) 33 (upd f 0 0)) 33 (upd (upd f 0 0) 4 0)) 33 (upd (upd (upd f 0 0) 4 0) 1 0)) 33 (upd (upd (upd (upd f 0 0) 4 0) 1 0) 5 0)) 33 (upd (upd (upd (upd (upd f 0 0) 4 0) 1 0) 5 0) 2 0)) 33 (upd (upd (upd (upd (upd (upd f 0 0) 4 0) 1 0) 5 0) 2 0) 6 0)) 33 (upd (upd (upd (upd (upd (upd (upd f 0 0) 4 0) 1 0) 5 0) 2 0) 6 0) 3 0)) 33 (upd (upd (upd (upd (upd (upd (upd (upd f 0 0) 4 0) 1 0) 5 0) 2 0) 6 0) 3 0) 7 0)) I q_J0, 34, 31630))) 11 (fun _ _ => rfl) ?_
                        refine q_Ru_seg (g2 := (55, [(3, .int 15), (2, .int 7), (0, .ref 64), (1, .int 0)], [.int 0], (q_cM (q_uA (q_uA (q_uA (q_uA (q_uA (q_uA (q_uA (q_uA (q_uA q_AM 33 f) 33 (upd f 0 0)) 33 (upd (upd f 0 0) 4 0)) 33 (upd (upd (upd f 0 0) 4 0) 1 0)) 33 (upd (upd (upd (upd f 0 0) 4 0) 1 0) 5 0)) 33 (upd (upd (upd (upd (upd f 0 0) 4 0) 1 0) 5 0) 2 0)) 33 (upd (upd (upd (upd (upd (upd f 0 0) 4 0) 1 0) 5 0) 2 0) 6 0)) 33 (upd (upd (upd (upd (upd (upd (upd f 0 0) 4 0) 1 0) 5 0) 2 0) 6 0) 3 0)) 33 (upd (upd (upd (upd (upd (upd (upd (upd f 0 0) 4 0) 1 0) 5 0) 2 0) 6 0) 3 0) 7 0)) I q_J0, 34, 31630))) 11 (fun _ _ => rfl) ?_
                        refine q_Ru_seg (g2 := (144, [(3, .int 0), (2, .int 0), (0, .ref 64), (1, .int 0)], [.int 0, .int 0], (q_cM (q_uA (q_uA (q_uA (q_uA (q_uA (q_uA (q_uA (q_uA (q_uA q_AM 33 f) 33 (upd f 0 0)) 33 (upd (upd f 0 0) 4 0)) 33 (upd (upd (upd f 0 0) 4 0) 1 0)) 33 (upd (upd (upd (upd f 0 0) 4 0) 1 0) 5 0)) 33 (upd (upd (upd (upd (upd f 0 0) 4 0) 1 0) 5 0) 2 0)) 33 (upd (upd (upd (upd (upd (upd f 0 0) 4 0) 1 0) 5 0) 2 0) 6 0)) 33 (upd (upd (upd (upd (upd (upd (upd f 0 0) 4 0) 1 0) 5 0) 2 0) 6 0) 3 0)) 33 (upd (upd (upd (upd (upd (upd (upd (upd f 0 0) 4 0) 1 0) 5 0) 2 0) 6 0) 3 0) 7 0)) I q_J0, 34, 31630))) 26 (fun _ _ => rfl) ?_
                        refine q_Ru_seg (g2 := (144, [(3, .int 1), (2, .int 0), (0, .ref 64), (1, .int 0)], [.int 0, .int 0], (q_cM (q_uA (q_uA (q_uA (q_uA (q_uA (q_uA (q_uA (q_uA (q_uA q_AM 33 f) 33 (upd f 0 0)) 33 (upd (upd f 0 0) 4 0)) 33 (upd (upd (upd f 0 0) 4 0) 1 0)) 33 (upd (upd (upd (upd f 0 0) 4 0) 1 0) 5 0)) 33 (upd (upd (upd (upd (upd f 0 0) 4 0) 1 0) 5 0) 2 0)) 33 (upd (upd (upd (upd (upd (upd f 0 0) 4 0) 1 0) 5 0) 2 0) 6 0)) 33 (upd (upd (upd (upd (upd (upd (upd f 0 0) 4 0) 1 0) 5 0) 2 0) 6 0) 3 0)) 33 (upd (upd (upd (upd (upd (upd (upd (upd f 0 0) 4 0) 1 0) 5 0) 2 0) 6 0) 3 0) 7 0)) I q_J0, 34, 31630))) 16 (fun _ _ => rfl) ?_
                        refine q_Ru_seg (g2 := (144, [(3, .int 2), (2, .int 0), (0, .ref 64), (1, .int 0)], [.int 0, .int 0], (q_cM (q_uA (q_uA (q_uA (q_uA (q_uA (q_uA (q_uA (q_uA (q_uA q_AM 33 f) 33 (upd f 0 0)) 33 (upd (upd f 0 0) 4 0)) 33 (upd (upd (upd f 0 0) 4 0) 1 0)) 33 (upd (upd (upd (upd f 0 0) 4 0) 1 0) 5 0)) 33 (upd (upd (upd (upd (upd f 0 0) 4 0) 1 0) 5 0) 2 0)) 33 (upd (upd (upd (upd (upd (upd f 0 0) 4 0) 1 0) 5 0) 2 0) 6 0)) 33 (upd (upd (upd (upd (upd (upd (upd f 0 0) 4 0) 1 0) 5 0) 2 0) 6 0) 3 0)) 33 (upd (upd (upd (upd (upd (upd (upd (upd f 0 0) 4 0) 1 0) 5 0) 2 0) 6 0) 3 0) 7 0)) I q_J0, 34, 31630))) 16 (fun _ _ => rfl) ?_
                        refine q_Ru_seg (g2 := (144, [(3, .int 3), (2, .int 0), (0, .ref 64), (1, .int 0)], [.int 0, .int 0], (q_cM (q_uA (q_uA (q_uA (q_uA (q_uA (q_uA (q_uA (q_uA (q_uA q_AM 33 f) 33 (upd f 0 0)) 33 (upd (upd f 0 0) 4 0)) 33 (upd (upd (upd f 0 0) 4 0) 1 0)) 33 (upd (upd (upd (upd f 0 0) 4 0) 1 0) 5 0)) 33 (upd (upd (upd (upd (upd f 0 0) 4 0) 1 0) 5 0) 2 0)) 33 (upd (upd (upd (upd (upd (upd f 0 0) 4 0) 1 0) 5 0) 2 0) 6 0)) 33 (upd (upd (upd (upd (upd (upd (upd f 0 0) 4 0) 1 0) 5 0) 2 0) 6 0) 3 0)) 33 (upd (upd (upd (upd (upd (upd (upd (upd f 0 0) 4 0) 1 0) 5 0) 2 0) 6 0) 3 0) 7 0)) I q_J0, 34, 31630))) 16 (fun _ _ => rfl) ?_
                        refine q_Ru_seg (g2 := (163, [(3, .int 4), (2, .int 0), (0, .ref 64), (1, .int 0)], [.int 0], (q_cM (q_uA (q_uA (q_uA (q_uA (q_uA (q_uA (q_uA (q_uA (q_uA q_AM 33 f) 33 (upd f 0 0)) 33 (upd (upd f 0 0) 4 0)) 33 (upd (upd (upd f 0 0) 4 0) 1 0)) 33 (upd (upd (upd (upd f 0 0) 4 0) 1 0) 5 0)) 33 (upd (upd (upd (upd (upd f 0 0) 4 0) 1 0) 5 0) 2 0)) 33 (upd (upd (upd (upd (upd (upd f 0 0) 4 0) 1 0) 5 0) 2 0) 6 0)) 33 (upd (upd (upd (upd (upd (upd (upd f 0 0) 4 0) 1 0) 5 0) 2 0) 6 0) 3 0)) 33 (upd (upd (upd (upd (upd (upd (upd (upd f 0 0) 4 0) 1 0) 5 0) 2 0) 6 0) 3 0) 7 0)) I q_J0, 34, 31630))) 10 (fun _ _ => rfl) ?_
                        exact q_Ru_ret rfl rfl
                      show q_Ru _ _ _ (125, [(0, .ref 64), (1, .int (a - 3840))], [.int 0], (q_cM (q_uA (q_uA (q_uA (q_uA (q_uA (q_uA (q_uA (q_uA (q_uA q_AM 33 f) 33 (upd f 0 0)) 33 (upd (upd f 0 0) 4 0)) 33 (upd (upd (upd f 0 0) 4 0) 1 0)) 33 (upd (upd (upd (upd f 0 0) 4 0) 1 0) 5 0)) 33 (upd (upd (upd (upd (upd f 0 0) 4 0) 1 0) 5 0) 2 0)) 33 (upd (upd (upd (upd (upd (upd f 0 0) 4 0) 1 0) 5 0) 2 0) 6 0)) 33 (upd (upd (upd (upd (upd (upd (upd f 0 0) 4 0) 1 0) 5 0) 2 0) 6 0) 3 0)) 33 (upd (upd (upd (upd (upd (upd (upd (upd f 0 0) 4 0) 1 0) 5 0) 2 0) 6 0) 3 0) 7 0)) I q_J0, 34, 31630)) _
                      refine q_Ru_seg (g2 := (134, [(0, .ref 64), (1, .int (a - 3840))], [.int 0, .int 16, .int 0], (q_cM (q_uA (q_uA (q_uA (q_uA (q_uA (q_uA (q_uA (q_uA (q_uA q_AM 33 f) 33 (upd f 0 0)) 33 (upd (upd f 0 0) 4 0)) 33 (upd (upd (upd f 0 0) 4 0) 1 0)) 33 (upd (upd (upd (upd f 0 0) 4 0) 1 0) 5 0)) 33 (upd (upd (upd (upd (upd f 0 0) 4 0) 1 0) 5 0) 2 0)) 33 (upd (upd (upd (upd (upd (upd f 0 0) 4 0) 1 0) 5 0) 2 0) 6 0)) 33 (upd (upd (upd (upd (upd (upd (upd f 0 0) 4 0) 1 0) 5 0) 2 0) 6 0) 3 0)) 33 (upd (upd (upd (upd (upd (upd (upd (upd f 0 0) 4 0) 1 0) 5 0) 2 0) 6 0) 3 0) 7 0)) I q_J0, 34, 31630))) 5 (fun _ _ => rfl) ?_
                      refine q_Ru_seg (g2 := (136, [(0, .ref 64), (1, .int (a - 3840))], [.int 0], (q_cM (q_uA (q_uA (q_uA (q_uA (q_uA (q_uA (q_uA (q_uA (q_uA q_AM 33 f) 33 (upd f 0 0)) 33 (upd (upd f 0 0) 4 0)) 33 (upd (upd (upd f 0 0) 4 0) 1 0)) 33 (upd (upd (upd (upd f 0 0) 4 0) 1 0) 5 0)) 33 (upd (upd (upd (upd (upd f 0 0) 4 0) 1 0) 5 0) 2 0)) 33 (upd (upd (upd (upd (upd (upd f 0 0) 4 0) 1 0) 5 0) 2 0) 6 0)) 33 (upd (upd (upd (upd (upd (upd (upd f 0 0) 4 0) 1 0) 5 0) 2 0) 6 0) 3 0)) 33 (upd (upd (upd (upd (upd (upd (upd (upd f 0 0) 4 0) 1 0) 5 0) 2 0) 6 0) 3 0) 7 0)) I q_J0, 34, 31630))) 2 (fun _ _ => rfl) ?_
                      exact q_Ru_ret rfl rfl
                    show q_Ru _ _ _ (22, [(0, .ref 64), (1, .int a)], [.int 0], (q_cM (q_uA (q_uA (q_uA (q_uA (q_uA (q_uA (q_uA (q_uA (q_uA q_AM 33 f) 33 (upd f 0 0)) 33 (upd (upd f 0 0) 4 0)) 33 (upd (upd (upd f 0 0) 4 0) 1 0)) 33 (upd (upd (upd (upd f 0 0) 4 0) 1 0) 5 0)) 33 (upd (upd (upd (upd (upd f 0 0) 4 0) 1 0) 5 0) 2 0)) 33 (upd (upd (upd (upd (upd (upd f 0 0) 4 0) 1 0) 5 0) 2 0) 6 0)) 33 (upd (upd (upd (upd (upd (upd (upd f 0 0) 4 0) 1 0) 5 0) 2 0) 6 0) 3 0)) 33 (upd (upd (upd (upd (upd (upd (upd (upd f 0 0) 4 0) 1 0) 5 0) 2 0) 6 0) 3 0) 7 0)) I q_J0, 34, 31630)) _
                    exact q_Ru_ret rfl rfl
                  | false =>
                    cases h159 : decide (a - 3840 = 44) with
                    | true =>
                      refine ⟨f, ?_⟩
                      refine q_Ca_of (Nat.le_of_ble_eq_true rfl) ?_
                      refine q_Ru_seg (g2 := (7, [(0, .ref 64), (1, .int a)], [.int 3887, .int 3840, .int a], (q_cM (q_uA q_AM 33 f) I q_J0, 34, 31630))) 3 (fun _ _ => rfl) ?_
                      refine q_Ru_call (v := (some (.int 1))) (h2 := (q_cM (q_uA q_AM 33 f) I q_J0, 34, 31630)) rfl rfl ?_ ?_
                      · refine q_Ca_of (Nat.le_of_ble_eq_true rfl) ?_
                        refine q_Ru_seg (g2 := (2, [(0, .int a), (1, .int 3840), (2, .int 3887)], [.int 3840, .int a], (q_cM (q_uA q_AM 33 f) I q_J0, 34, 31630))) 2 (fun _ _ => rfl) ?_
                        refine q_Ru_rsF (g2 := (5, [(0, .int a), (1, .int 3840), (2, .int 3887)], [], (q_cM (q_uA q_AM 33 f) I q_J0, 34, 31630))) rfl rfl h133 ?_
                        refine q_Ru_seg (g2 := (7, [(0, .int a), (1, .int 3840), (2, .int 3887)], [.int 3887, .int a], (q_cM (q_uA q_AM 33 f) I q_J0, 34, 31630))) 2 (fun _ _ => rfl) ?_
                        refine q_Ru_rsF (g2 := (10, [(0, .int a), (1, .int 3840), (2, .int 3887)], [], (q_cM (q_uA q_AM 33 f) I q_J0, 34, 31630))) rfl rfl h142 ?_
                        refine q_Ru_seg (g2 := (15, [(0, .int a), (1, .int 3840), (2, .int 3887)], [.int 1], (q_cM (q_uA q_AM 33 f) I q_J0, 34, 31630))) 2 (fun _ _ => rfl) ?_
                        exact q_Ru_ret rfl rfl
                      show q_Ru _ _ _ (10, [(0, .ref 64), (1, .int a)], [.int 1], (q_cM (q_uA q_AM 33 f) I q_J0, 34, 31630)) _
                      refine q_Ru_seg (g2 := (19, [(0, .ref 64), (1, .int a)], [.int (a - 3840), .ref 64], (q_cM (q_uA q_AM 33 f) I q_J0, 34, 31630))) 5 (fun _ _ => rfl) ?_
                      refine q_Ru_call (v := (some (.int 0))) (h2 := (q_cM (q_uA q_AM 33 f) I q_J0, 34, 31630)) rfl rfl ?_ ?_
                      · refine q_Ca_of (Nat.le_of_ble_eq_true rfl) ?_
                        refine q_Ru_seg (g2 := (3, [(0, .ref 64), (1, .int (a - 3840))], [.int 9, .int (a - 3840)], (q_cM (q_uA q_AM 33 f) I q_J0, 34, 31630))) 2 (fun _ _ => rfl) ?_
                        refine q_Ru_rsT (g2 := (11, [(0, .ref 64), (1, .int (a - 3840))], [], (q_cM (q_uA q_AM 33 f) I q_J0, 34, 31630))) rfl rfl (q_d_neF h147) ?_
                        refine q_Ru_seg (g2 := (14, [(0, .ref 64), (1, .int (a - 3840))], [.int 10, .int (a - 3840)], (q_cM (q_uA q_AM 33 f) I q_J0, 34, 31630))) 2 (fun _ _ => rfl) ?_
                        refine q_Ru_rsT (g2 := (25, [(0, .ref 64), (1, .int (a - 3840))], [], (q_cM (q_uA q_AM 33 f) I q_J0, 34, 31630))) rfl rfl (q_d_neF h148) ?_
                        refine q_Ru_seg (g2 := (30, [(0, .ref 64), (1, .int (a - 3840))], [.int 15, .int 12, .int (a - 3840)], (q_cM (q_uA q_AM 33 f) I q_J0, 34, 31630))) 3 (fun _ _ => rfl) ?_
                        refine q_Ru_call (v := (some (.int 0))) (h2 := (q_cM (q_uA q_AM 33 f) I q_J0, 34, 31630)) rfl rfl ?_ ?_
                        · refine q_Ca_of (Nat.le_of_ble_eq_true rfl) ?_
                          refine q_Ru_seg (g2 := (2, [(0, .int (a - 3840)), (1, .int 12), (2, .int 15)], [.int 12, .int (a - 3840)], (q_cM (q_uA q_AM 33 f) I q_J0, 34, 31630))) 2 (fun _ _ => rfl) ?_
                          refine q_Ru_rsF (g2 := (5, [(0, .int (a - 3840)), (1, .int 12), (2, .int 15)], [], (q_cM (q_uA q_AM 33 f) I q_J0, 34, 31630))) rfl rfl h149 ?_
                          refine q_Ru_seg (g2 := (7, [(0, .int (a - 3840)), (1, .int 12), (2, .int 15)], [.int 15, .int (a - 3840)], (q_cM (q_uA q_AM 33 f) I q_J0, 34, 31630))) 2 (fun _ _ => rfl) ?_
                          refine q_Ru_rsT (g2 := (14, [(0, .int (a - 3840)), (1, .int 12), (2, .int 15)], [], (q_cM (q_uA q_AM 33 f) I q_J0, 34, 31630))) rfl rfl h155 ?_
                          refine q_Ru_seg (g2 := (15, [(0, .int (a - 3840)), (1, .int 12), (2, .int 15)], [.int 0], (q_cM (q_uA q_AM 33 f) I q_J0, 34, 31630))) 1 (fun _ _ => rfl) ?_
                          exact q_Ru_ret rfl rfl
                        show q_Ru _ _ _ (33, [(0, .ref 64), (1, .int (a - 3840))], [.int 0], (q_cM (q_uA q_AM 33 f) I q_J0, 34, 31630)) _
                        refine q_Ru_seg (g2 := (83, [(0, .ref 64), (1, .int (a - 3840))], [.int 29, .int (a - 3840)], (q_cM (q_uA q_AM 33 f) I q_J0, 34, 31630))) 3 (fun _ _ => rfl) ?_
                        refine q_Ru_rsT (g2 := (94, [(0, .ref 64), (1, .int (a - 3840))], [], (q_cM (q_uA q_AM 33 f) I q_J0, 34, 31630))) rfl rfl (q_d_neF h156) ?_
                        refine q_Ru_seg (g2 := (97, [(0, .ref 64), (1, .int (a - 3840))], [.int 30, .int (a - 3840)], (q_cM (q_uA q_AM 33 f) I q_J0, 34, 31630))) 2 (fun _ _ => rfl) ?_
                        refine q_Ru_rsT (g2 := (108, [(0, .ref 64), (1, .int (a - 3840))], [], (q_cM (q_uA q_AM 33 f) I q_J0, 34, 31630))) rfl rfl (q_d_neF h157) ?_
                        refine q_Ru_seg (g2 := (111, [(0, .ref 64), (1, .int (a - 3840))], [.int 31, .int (a - 3840)], (q_cM (q_uA q_AM 33 f) I q_J0, 34, 31630))) 2 (fun _ _ => rfl) ?_
                        refine q_Ru_rsT (g2 := (137, [(0, .ref 64), (1, .int (a - 3840))], [], (q_cM (q_uA q_AM 33 f) I q_J0, 34, 31630))) rfl rfl (q_d_neF h158) ?_
                        refine q_Ru_seg (g2 := (140, [(0, .ref 64), (1, .int (a - 3840))], [.int 44, .int (a - 3840)], (q_cM (q_uA q_AM 33 f) I q_J0, 34, 31630))) 2 (fun _ _ => rfl) ?_
                        refine q_Ru_rsF (g2 := (143, [(0, .ref 64), (1, .int (a - 3840))], [], (q_cM (q_uA q_AM 33 f) I q_J0, 34, 31630))) rfl rfl (q_d_neT h159) ?_
                        refine q_Ru_seg (g2 := (150, [(0, .ref 64), (1, .int (a - 3840))], [.int 0], (q_cM (q_uA q_AM 33 f) I q_J0, 34, 31630))) 4 (fun _ _ => rfl) ?_
                        refine q_Ru_seg (g2 := (158, [(0, .ref 64), (1, .int (a - 3840))], [.int 0, .int 2, .int 0], (q_cM (q_uA q_AM 33 f) I q_J0, 34, 31630))) 5 (fun _ _ => rfl) ?_
                        refine q_Ru_seg (g2 := (161, [(0, .ref 64), (1, .int (a - 3840))], [.ref 64, .int 0], (q_cM (q_uA q_AM 33 f) I q_J0, 34, 31630))) 3 (fun _ _ => rfl) ?_
                        refine q_Ru_call (v := (some (.int 0))) (h2 := (q_cM (q_uA q_AM 33 f) I q_J0, 34, 31630)) rfl rfl ?_ ?_
                        · refine q_Ca_of (Nat.le_of_ble_eq_true rfl) ?_
                          refine q_Ru_seg (g2 := (7, [(0, .ref 64)], [.int 0], (q_cM (q_uA q_AM 33 f) I q_J0, 34, 31630))) 4 (fun _ _ => rfl) ?_
                          refine q_Ru_seg (g2 := (14, [(0, .ref 64)], [.int 0, .int 0], (q_cM (q_uA q_AM 33 f) I q_J0, 34, 31630))) 4 (fun _ _ => rfl) ?_
                          refine q_Ru_seg (g2 := (22, [(0, .ref 64)], [.int 0], (q_cM (q_uA q_AM 33 f) I q_J0, 34, 31630))) 2 (fun _ _ => rfl) ?_
                          exact q_Ru_ret rfl rfl
                        show q_Ru _ _ _ (164, [(0, .ref 64), (1, .int (a - 3840))], [.int 0, .int 0], (q_cM (q_uA q_AM 33 f) I q_J0, 34, 31630)) _
                        refine q_Ru_seg (g2 := (173, [(0, .ref 64), (1, .int (a - 3840))], [.int 0], (q_cM (q_uA q_AM 33 f) I q_J0, 34, 31630))) 3 (fun _ _ => rfl) ?_
                        exact q_Ru_ret rfl rfl
                      show q_Ru _ _ _ (22, [(0, .ref 64), (1, .int a)], [.int 0], (q_cM (q_uA q_AM 33 f) I q_J0, 34, 31630)) _
                      exact q_Ru_ret rfl rfl
                    | false =>
                      cases h160 : decide (44 < a - 3840) with
                      | true =>
                        refine ⟨f, ?_⟩
                        refine q_Ca_of (Nat.le_of_ble_eq_true rfl) ?_
                        refine q_Ru_seg (g2 := (7, [(0, .ref 64), (1, .int a)], [.int 3887, .int 3840, .int a], (q_cM (q_uA q_AM 33 f) I q_J0, 34, 31630))) 3 (fun _ _ => rfl) ?_
                        refine q_Ru_call (v := (some (.int 1))) (h2 := (q_cM (q_uA q_AM 33 f) I q_J0, 34, 31630)) rfl rfl ?_ ?_
                        · refine q_Ca_of (Nat.le_of_ble_eq_true rfl) ?_
                          refine q_Ru_seg (g2 := (2, [(0, .int a), (1, .int 3840), (2, .int 3887)], [.int 3840, .int a], (q_cM (q_uA q_AM 33 f) I q_J0, 34, 31630))) 2 (fun _ _ => rfl) ?_
                          refine q_Ru_rsF (g2 := (5, [(0, .int a), (1, .int 3840), (2, .int 3887)], [], (q_cM (q_uA q_AM 33 f) I q_J0, 34, 31630))) rfl rfl h133 ?_
                          refine q_Ru_seg (g2 := (7, [(0, .int a), (1, .int 3840), (2, .int 3887)], [.int 3887, .int a], (q_cM (q_uA q_AM 33 f) I q_J0, 34, 31630))) 2 (fun _ _ => rfl) ?_
                          refine q_Ru_rsF (g2 := (10, [(0, .int a), (1, .int 3840), (2, .int 3887)], [], (q_cM (q_uA q_AM 33 f) I q_J0, 34, 31630))) rfl rfl h142 ?_
                          refine q_Ru_seg (g2 := (15, [(0, .int a), (1, .int 3840), (2, .int 3887)], [.int 1], (q_cM (q_uA q_AM 33 f) I q_J0, 34, 31630))) 2 (fun _ _ => rfl) ?_
                          exact q_Ru_ret rfl rfl
                        show q_Ru _ _ _ (10, [(0, .ref 64), (1, .int a)], [.int 1], (q_cM (q_uA q_AM 33 f) I q_J0, 34, 31630)) _
                        refine q_Ru_seg (g2 := (19, [(0, .ref 64), (1, .int a)], [.int (a - 3840), .ref 64], (q_cM (q_uA q_AM 33 f) I q_J0, 34, 31630))) 5 (fun _ _ => rfl) ?_
                        refine q_Ru_call (v := (some (.int 0))) (h2 := (q_cM (q_uA q_AM 33 f) I q_J0, 34, 31630)) rfl rfl ?_ ?_
                        · refine q_Ca_of (Nat.le_of_ble_eq_true rfl) ?_
                          refine q_Ru_seg (g2 := (3, [(0, .ref 64), (1, .int (a - 3840))], [.int 9, .int (a - 3840)], (q_cM (q_uA q_AM 33 f) I q_J0, 34, 31630))) 2 (fun _ _ => rfl) ?_
                          refine q_Ru_rsT (g2 := (11, [(0, .ref 64), (1, .int (a - 3840))], [], (q_cM (q_uA q_AM 33 f) I q_J0, 34, 31630))) rfl rfl (q_d_neF h147) ?_
                          refine q_Ru_seg (g2 := (14, [(0, .ref 64), (1, .int (a - 3840))], [.int 10, .int (a - 3840)], (q_cM (q_uA q_AM 33 f) I q_J0, 34, 31630))) 2 (fun _ _ => rfl) ?_
                          refine q_Ru_rsT (g2 := (25, [(0, .ref 64), (1, .int (a - 3840))], [], (q_cM (q_uA q_AM 33 f) I q_J0, 34, 31630))) rfl rfl (q_d_neF h148) ?_
                          refine q_Ru_seg (g2 := (30, [(0, .ref 64), (1, .int (a - 3840))], [.int 15, .int 12, .int (a - 3840)], (q_cM (q_uA q_AM 33 f) I q_J0, 34, 31630))) 3 (fun _ _ => rfl) ?_
                          refine q_Ru_call (v := (some (.int 0))) (h2 := (q_cM (q_uA q_AM 33 f) I q_J0, 34, 31630)) rfl rfl ?_ ?_
                          · refine q_Ca_of (Nat.le_of_ble_eq_true rfl) ?_
                            refine q_Ru_seg (g2 := (2, [(0, .int (a - 3840)), (1, .int 12), (2, .int 15)], [.int 12, .int (a - 3840)], (q_cM (q_uA q_AM 33 f) I q_J0, 34, 31630))) 2 (fun _ _ => rfl) ?_
                            refine q_Ru_rsF (g2 := (5, [(0, .int (a - 3840)), (1, .int 12), (2, .int 15)], [], (q_cM (q_uA q_AM 33 f) I q_J0, 34, 31630))) rfl rfl h149 ?_
                            refine q_Ru_seg (g2 := (7, [(0, .int (a - 3840)), (1, .int 12), (2, .int 15)], [.int 15, .int (a - 3840)], (q_cM (q_uA q_AM 33 f) I q_J0, 34, 31630))) 2 (fun _ _ => rfl) ?_
                            refine q_Ru_rsT (g2 := (14, [(0, .int (a - 3840)), (1, .int 12), (2, .int 15)], [], (q_cM (q_uA q_AM 33 f) I q_J0, 34, 31630))) rfl rfl h155 ?_
                            refine q_Ru_seg (g2 := (15, [(0, .int (a - 3840)), (1, .int 12), (2, .int 15)], [.int 0], (q_cM (q_uA q_AM 33 f) I q_J0, 34, 31630))) 1 (fun _ _ => rfl) ?_
                            exact q_Ru_ret rfl rfl
                          show q_Ru _ _ _ (33, [(0, .ref 64), (1, .int (a - 3840))], [.int 0], (q_cM (q_uA q_AM 33 f) I q_J0, 34, 31630)) _
                          refine q_Ru_seg (g2 := (83, [(0, .ref 64), (1, .int (a - 3840))], [.int 29, .int (a - 3840)], (q_cM (q_uA q_AM 33 f) I q_J0, 34, 31630))) 3 (fun _ _ => rfl) ?_
                          refine q_Ru_rsT (g2 := (94, [(0, .ref 64), (1, .int (a - 3840))], [], (q_cM (q_uA q_AM 33 f) I q_J0, 34, 31630))) rfl rfl (q_d_neF h156) ?_
                          refine q_Ru_seg (g2 := (97, [(0, .ref 64), (1, .int (a - 3840))], [.int 30, .int (a - 3840)], (q_cM (q_uA q_AM 33 f) I q_J0, 34, 31630))) 2 (fun _ _ => rfl) ?_
                          refine q_Ru_rsT (g2 := (108, [(0, .ref 64), (1, .int (a - 3840))], [], (q_cM (q_uA q_AM 33 f) I q_J0, 34, 31630))) rfl rfl (q_d_neF h157) ?_
                          refine q_Ru_seg (g2 := (111, [(0, .ref 64), (1, .int (a - 3840))], [.int 31, .int (a - 3840)], (q_cM (q_uA q_AM 33 f) I q_J0, 34, 31630))) 2 (fun _ _ => rfl) ?_
                          refine q_Ru_rsT (g2 := (137, [(0, .ref 64), (1, .int (a - 3840))], [], (q_cM (q_uA q_AM 33 f) I q_J0, 34, 31630))) rfl rfl (q_d_neF h158) ?_
                          refine q_Ru_seg (g2 := (140, [(0, .ref 64), (1, .int (a - 3840))], [.int 44, .int (a - 3840)], (q_cM (q_uA q_AM 33 f) I q_J0, 34, 31630))) 2 (fun _ _ => rfl) ?_
                          refine q_Ru_rsT (g2 := (174, [(0, .ref 64), (1, .int (a - 3840))], [], (q_cM (q_uA q_AM 33 f) I q_J0, 34, 31630))) rfl rfl (q_d_neF h159) ?_
                          refine q_Ru_seg (g2 := (177, [(0, .ref 64), (1, .int (a - 3840))], [.int 44, .int (a - 3840)], (q_cM (q_uA q_AM 33 f) I q_J0, 34, 31630))) 2 (fun _ _ => rfl) ?_
                          refine q_Ru_rsF (g2 := (180, [(0, .ref 64), (1, .int (a - 3840))], [], (q_cM (q_uA q_AM 33 f) I q_J0, 34, 31630))) rfl rfl (q_d_geT h160) ?_
                          refine q_Ru_seg (g2 := (190, [(0, .ref 64), (1, .int (a - 3840))], [.int 0], (q_cM (q_uA q_AM 33 f) I q_J0, 34, 31630))) 2 (fun _ _ => rfl) ?_
                          exact q_Ru_ret rfl rfl
                        show q_Ru _ _ _ (22, [(0, .ref 64), (1, .int a)], [.int 0], (q_cM (q_uA q_AM 33 f) I q_J0, 34, 31630)) _
                        exact q_Ru_ret rfl rfl
                      | false =>
                        refine ⟨f, ?_⟩
                        refine q_Ca_of (Nat.le_of_ble_eq_true rfl) ?_
                        refine q_Ru_seg (g2 := (7, [(0, .ref 64), (1, .int a)], [.int 3887, .int 3840, .int a], (q_cM (q_uA q_AM 33 f) I q_J0, 34, 31630))) 3 (fun _ _ => rfl) ?_
                        refine q_Ru_call (v := (some (.int 1))) (h2 := (q_cM (q_uA q_AM 33 f) I q_J0, 34, 31630)) rfl rfl ?_ ?_
                        · refine q_Ca_of (Nat.le_of_ble_eq_true rfl) ?_
                          refine q_Ru_seg (g2 := (2, [(0, .int a), (1, .int 3840), (2, .int 3887)], [.int 3840, .int a], (q_cM (q_uA q_AM 33 f) I q_J0, 34, 31630))) 2 (fun _ _ => rfl) ?_
                          refine q_Ru_rsF (g2 := (5, [(0, .int a), (1, .int 3840), (2, .int 3887)], [], (q_cM (q_uA q_AM 33 f) I q_J0, 34, 31630))) rfl rfl h133 ?_
                          refine q_Ru_seg (g2 := (7, [(0, .int a), (1, .int 3840), (2, .int 3887)], [.int 3887, .int a], (q_cM (q_uA q_AM 33 f) I q_J0, 34, 31630))) 2 (fun _ _ => rfl) ?_
                          refine q_Ru_rsF (g2 := (10, [(0, .int a), (1, .int 3840), (2, .int 3887)], [], (q_cM (q_uA q_AM 33 f) I q_J0, 34, 31630))) rfl rfl h142 ?_
                          refine q_Ru_seg (g2 := (15, [(0, .int a), (1, .int 3840), (2, .int 3887)], [.int 1], (q_cM (q_uA q_AM 33 f) I q_J0, 34, 31630))) 2 (fun _ _ => rfl) ?_
                          exact q_Ru_ret rfl rfl
                        show q_Ru _ _ _ (10, [(0, .ref 64), (1, .int a)], [.int 1], (q_cM (q_uA q_AM 33 f) I q_J0, 34, 31630)) _
                        refine q_Ru_seg (g2 := (19, [(0, .ref 64), (1, .int a)], [.int (a - 3840), .ref 64], (q_cM (q_uA q_AM 33 f) I q_J0, 34, 31630))) 5 (fun _ _ => rfl) ?_
                        refine q_Ru_call (v := (some (.int 0))) (h2 := (q_cM (q_uA q_AM 33 f) I q_J0, 34, 31630)) rfl rfl ?_ ?_
                        · refine q_Ca_of (Nat.le_of_ble_eq_true rfl) ?_
                          refine q_Ru_seg (g2 := (3, [(0, .ref 64), (1, .int (a - 3840))], [.int 9, .int (a - 3840)], (q_cM (q_uA q_AM 33 f) I q_J0, 34, 31630))) 2 (fun _ _ => rfl) ?_
                          refine q_Ru_rsT (g2 := (11, [(0, .ref 64), (1, .int (a - 3840))], [], (q_cM (q_uA q_AM 33 f) I q_J0, 34, 31630))) rfl rfl (q_d_neF h147) ?_
                          refine q_Ru_seg (g2 := (14, [(0, .ref 64), (1, .int (a - 3840))], [.int 10, .int (a - 3840)], (q_cM (q_uA q_AM 33 f) I q_J0, 34, 31630))) 2 (fun _ _ => rfl) ?_
                          refine q_Ru_rsT (g2 := (25, [(0, .ref 64), (1, .int (a - 3840))], [], (q_cM (q_uA q_AM 33 f) I q_J0, 34, 31630))) rfl rfl (q_d_neF h148) ?_
                          refine q_Ru_seg (g2 := (30, [(0, .ref 64), (1, .int (a - 3840))], [.int 15, .int 12, .int (a - 3840)], (q_cM (q_uA q_AM 33 f) I q_J0, 34, 31630))) 3 (fun _ _ => rfl) ?_
                          refine q_Ru_call (v := (some (.int 0))) (h2 := (q_cM (q_uA q_AM 33 f) I q_J0, 34, 31630)) rfl rfl ?_ ?_
                          · refine q_Ca_of (Nat.le_of_ble_eq_true rfl) ?_
                            refine q_Ru_seg (g2 := (2, [(0, .int (a - 3840)), (1, .int 12), (2, .int 15)], [.int 12, .int (a - 3840)], (q_cM (q_uA q_AM 33 f) I q_J0, 34, 31630))) 2 (fun _ _ => rfl) ?_
                            refine q_Ru_rsF (g2 := (5, [(0, .int (a - 3840)), (1, .int 12), (2, .int 15)], [], (q_cM (q_uA q_AM 33 f) I q_J0, 34, 31630))) rfl rfl h149 ?_
                            refine q_Ru_seg (g2 := (7, [(0, .int (a - 3840)), (1, .int 12), (2, .int 15)], [.int 15, .int (a - 3840)], (q_cM (q_uA q_AM 33 f) I q_J0, 34, 31630))) 2 (fun _ _ => rfl) ?_
                            refine q_Ru_rsT (g2 := (14, [(0, .int (a - 3840)), (1, .int 12), (2, .int 15)], [], (q_cM (q_uA q_AM 33 f) I q_J0, 34, 31630))) rfl rfl h155 ?_
                            refine q_Ru_seg (g2 := (15, [(0, .int (a - 3840)), (1, .int 12), (2, .int 15)], [.int 0], (q_cM (q_uA q_AM 33 f) I q_J0, 34, 31630))) 1 (fun _ _ => rfl) ?_
                            exact q_Ru_ret rfl rfl
                          show q_Ru _ _ _ (33, [(0, .ref 64), (1, .int (a - 3840))], [.int 0], (q_cM (q_uA q_AM 33 f) I q_J0, 34, 31630)) _
                          refine q_Ru_seg (g2 := (83, [(0, .ref 64), (1, .int (a - 3840))], [.int 29, .int (a - 3840)], (q_cM (q_uA q_AM 33 f) I q_J0, 34, 31630))) 3 (fun _ _ => rfl) ?_
                          refine q_Ru_rsT (g2 := (94, [(0, .ref 64), (1, .int (a - 3840))], [], (q_cM (q_uA q_AM 33 f) I q_J0, 34, 31630))) rfl rfl (q_d_neF h156) ?_
                          refine q_Ru_seg (g2 := (97, [(0, .ref 64), (1, .int (a - 3840))], [.int 30, .int (a - 3840)], (q_cM (q_uA q_AM 33 f) I q_J0, 34, 31630))) 2 (fun _ _ => rfl) ?_
                          refine q_Ru_rsT (g2 := (108, [(0, .ref 64), (1, .int (a - 3840))], [], (q_cM (q_uA q_AM 33 f) I q_J0, 34, 31630))) rfl rfl (q_d_neF h157) ?_
                          refine q_Ru_seg (g2 := (111, [(0, .ref 64), (1, .int (a - 3840))], [.int 31, .int (a - 3840)], (q_cM (q_uA q_AM 33 f) I q_J0, 34, 31630))) 2 (fun _ _ => rfl) ?_
                          refine q_Ru_rsT (g2 := (137, [(0, .ref 64), (1, .int (a - 3840))], [], (q_cM (q_uA q_AM 33 f) I q_J0, 34, 31630))) rfl rfl (q_d_neF h158) ?_
                          refine q_Ru_seg (g2 := (140, [(0, .ref 64), (1, .int (a - 3840))], [.int 44, .int (a - 3840)], (q_cM (q_uA q_AM 33 f) I q_J0, 34, 31630))) 2 (fun _ _ => rfl) ?_
                          refine q_Ru_rsT (g2 := (174, [(0, .ref 64), (1, .int (a - 3840))], [], (q_cM (q_uA q_AM 33 f) I q_J0, 34, 31630))) rfl rfl (q_d_neF h159) ?_
                          refine q_Ru_seg (g2 := (177, [(0, .ref 64), (1, .int (a - 3840))], [.int 44, .int (a - 3840)], (q_cM (q_uA q_AM 33 f) I q_J0, 34, 31630))) 2 (fun _ _ => rfl) ?_
                          refine q_Ru_rsT (g2 := (184, [(0, .ref 64), (1, .int (a - 3840))], [], (q_cM (q_uA q_AM 33 f) I q_J0, 34, 31630))) rfl rfl (q_d_geF h160) ?_
                          refine q_Ru_seg (g2 := (189, [(0, .ref 64), (1, .int (a - 3840))], [.int (a - 3840), .ref 68], (q_cM (q_uA q_AM 33 f) I q_J0, 34, 31630))) 3 (fun _ _ => rfl) ?_
                          refine q_Ru_rsT (g2 := (190, [(0, .ref 64), (1, .int (a - 3840))], [.int 0], (q_cM (q_uA q_AM 33 f) I q_J0, 34, 31630))) rfl rfl (q_in_bd (x := a - 3840) (n := 48) (U := 44) (L := 16) (q_sub_lo9 16 (q_sub_lo 3856 (q_lo2 h155) (q_sub_lo 3852 (q_lo1 h149) (q_lo1 h133) (q_hi2 h142)) (q_hi2 h142)) (q_sub_hi 3884 (q_hi2 h160) (q_sub_lo 3856 (q_lo2 h155) (q_sub_lo 3852 (q_lo1 h149) (q_lo1 h133) (q_hi2 h142)) (q_hi2 h142)) (q_hi2 h142))) (q_sub_hi9 44 (q_sub_lo 3856 (q_lo2 h155) (q_sub_lo 3852 (q_lo1 h149) (q_lo1 h133) (q_hi2 h142)) (q_hi2 h142)) (q_sub_hi 3884 (q_hi2 h160) (q_sub_lo 3856 (q_lo2 h155) (q_sub_lo 3852 (q_lo1 h149) (q_lo1 h133) (q_hi2 h142)) (q_hi2 h142)) (q_hi2 h142)))) ?_
                          exact q_Ru_ret rfl rfl
                        show q_Ru _ _ _ (22, [(0, .ref 64), (1, .int a)], [.int 0], (q_cM (q_uA q_AM 33 f) I q_J0, 34, 31630)) _
                        exact q_Ru_ret rfl rfl
            | false =>
              cases h161 : decide ((a - 3840) - (a - 3840) / 2 * 2 = 0) with
              | true =>
                obtain ⟨j162, g162, e162⟩ := q_en (l := 3852) (n := 3) (q_sub_lo 3852 (q_lo1 h149) (q_lo1 h133) (q_hi2 h142)) (q_sub_hi 3855 (q_hi2 h155) (q_sub_lo 3852 (q_lo1 h149) (q_lo1 h133) (q_hi2 h142)) (q_hi2 h142))
                match j162, g162, e162 with
                | 0, _, e162 =>
                  have e162 : a = 3852 := e162
                  subst e162
                  refine ⟨f, ?_⟩
                  refine q_Ca_of (Nat.le_of_ble_eq_true rfl) ?_
                  refine q_Ru_seg (g2 := (7, [(0, .ref 64), (1, .int 3852)], [.int 3887, .int 3840, .int 3852], (q_cM (q_uA q_AM 33 f) I q_J0, 34, 31630))) 3 (fun _ _ => rfl) ?_
                  refine q_Ru_call (v := (some (.int 1))) (h2 := (q_cM (q_uA q_AM 33 f) I q_J0, 34, 31630)) rfl rfl ?_ ?_
                  · refine q_Ca_of (Nat.le_of_ble_eq_true rfl) ?_
                    refine q_Ru_seg (g2 := (15, [(0, .int 3852), (1, .int 3840), (2, .int 3887)], [.int 1], (q_cM (q_uA q_AM 33 f) I q_J0, 34, 31630))) 8 (fun _ _ => rfl) ?_
                    exact q_Ru_ret rfl rfl
                  show q_Ru _ _ _ (10, [(0, .ref 64), (1, .int 3852)], [.int 1], (q_cM (q_uA q_AM 33 f) I q_J0, 34, 31630)) _
                  refine q_Ru_seg (g2 := (19, [(0, .ref 64), (1, .int 3852)], [.int 12, .ref 64], (q_cM (q_uA q_AM 33 f) I q_J0, 34, 31630))) 5 (fun _ _ => rfl) ?_
                  refine q_Ru_call (v := (some (.int 0))) (h2 := (q_cM (q_uA q_AM 33 f) I q_J0, 34, 31630)) rfl rfl ?_ ?_
                  · refine q_Ca_of (Nat.le_of_ble_eq_true rfl) ?_
                    refine q_Ru_seg (g2 := (30, [(0, .ref 64), (1, .int 12)], [.int 15, .int 12, .int 12], (q_cM (q_uA q_AM 33 f) I q_J0, 34, 31630))) 9 (fun _ _ => rfl) ?_
                    refine q_Ru_call (v := (some (.int 1))) (h2 := (q_cM (q_uA q_AM 33 f) I q_J0, 34, 31630)) rfl rfl ?_ ?_
                    · refine q_Ca_of (Nat.le_of_ble_eq_true rfl) ?_
                      refine q_Ru_seg (g2 := (15, [(0, .int 12), (1, .int 12), (2, .int 15)], [.int 1], (q_cM (q_uA q_AM 33 f) I q_J0, 34, 31630))) 8 (fun _ _ => rfl) ?_
                      exact q_Ru_ret rfl rfl
                    show q_Ru _ _ _ (33, [(0, .ref 64), (1, .int 12)], [.int 1], (q_cM (q_uA q_AM 33 f) I q_J0, 34, 31630)) _
                    refine q_Ru_seg (g2 := (55, [(0, .ref 64), (1, .int 12)], [.int 0], (q_cM (q_uA q_AM 33 f) I q_J0, 34, 31630))) 15 (fun _ _ => rfl) ?_
                    refine q_Ru_seg (g2 := (79, [(0, .ref 64), (1, .int 12)], [.int 0], (q_cM (q_uA q_AM 33 f) I q_J0, 34, 31630))) 3 (fun _ _ => rfl) ?_
                    exact q_Ru_ret rfl rfl
                  show q_Ru _ _ _ (22, [(0, .ref 64), (1, .int 3852)], [.int 0], (q_cM (q_uA q_AM 33 f) I q_J0, 34, 31630)) _
                  exact q_Ru_ret rfl rfl
                | 1, _, e162 =>
                  have e162 : a = 3853 := e162
                  subst e162
                  refine ⟨f, ?_⟩
                  refine q_Ca_of (Nat.le_of_ble_eq_true rfl) ?_
                  refine q_Ru_seg (g2 := (7, [(0, .ref 64), (1, .int 3853)], [.int 3887, .int 3840, .int 3853], (q_cM (q_uA q_AM 33 f) I q_J0, 34, 31630))) 3 (fun _ _ => rfl) ?_
                  refine q_Ru_call (v := (some (.int 1))) (h2 := (q_cM (q_uA q_AM 33 f) I q_J0, 34, 31630)) rfl rfl ?_ ?_
                  · refine q_Ca_of (Nat.le_of_ble_eq_true rfl) ?_
                    refine q_Ru_seg (g2 := (15, [(0, .int 3853), (1, .int 3840), (2, .int 3887)], [.int 1], (q_cM (q_uA q_AM 33 f) I q_J0, 34, 31630))) 8 (fun _ _ => rfl) ?_
                    exact q_Ru_ret rfl rfl
                  show q_Ru _ _ _ (10, [(0, .ref 64), (1, .int 3853)], [.int 1], (q_cM (q_uA q_AM 33 f) I q_J0, 34, 31630)) _
                  refine q_Ru_seg (g2 := (19, [(0, .ref 64), (1, .int 3853)], [.int 13, .ref 64], (q_cM (q_uA q_AM 33 f) I q_J0, 34, 31630))) 5 (fun _ _ => rfl) ?_
                  refine q_Ru_call (v := (some (.int 0))) (h2 := (q_cM (q_uA q_AM 33 f) I q_J0, 34, 31630)) rfl rfl ?_ ?_
                  · refine q_Ca_of (Nat.le_of_ble_eq_true rfl) ?_
                    refine q_Ru_seg (g2 := (30, [(0, .ref 64), (1, .int 13)], [.int 15, .int 12, .int 13], (q_cM (q_uA q_AM 33 f) I q_J0, 34, 31630))) 9 (fun _ _ => rfl) ?_
                    refine q_Ru_call (v := (some (.int 1))) (h2 := (q_cM (q_uA q_AM 33 f) I q_J0, 34, 31630)) rfl rfl ?_ ?_
                    · refine q_Ca_of (Nat.le_of_ble_eq_true rfl) ?_
                      refine q_Ru_seg (g2 := (15, [(0, .int 13), (1, .int 12), (2, .int 15)], [.int 1], (q_cM (q_uA q_AM 33 f) I q_J0, 34, 31630))) 8 (fun _ _ => rfl) ?_
                      exact q_Ru_ret rfl rfl
                    show q_Ru _ _ _ (33, [(0, .ref 64), (1, .int 13)], [.int 1], (q_cM (q_uA q_AM 33 f) I q_J0, 34, 31630)) _
                    refine q_Ru_seg (g2 := (71, [(0, .ref 64), (1, .int 13)], [.int 0], (q_cM (q_uA q_AM 33 f) I q_J0, 34, 31630))) 15 (fun _ _ => rfl) ?_
                    refine q_Ru_seg (g2 := (79, [(0, .ref 64), (1, .int 13)], [.int 0], (q_cM (q_uA q_AM 33 f) I q_J0, 34, 31630))) 4 (fun _ _ => rfl) ?_
                    exact q_Ru_ret rfl rfl
                  show q_Ru _ _ _ (22, [(0, .ref 64), (1, .int 3853)], [.int 0], (q_cM (q_uA q_AM 33 f) I q_J0, 34, 31630)) _
                  exact q_Ru_ret rfl rfl
                | 2, _, e162 =>
                  have e162 : a = 3854 := e162
                  subst e162
                  refine ⟨f, ?_⟩
                  refine q_Ca_of (Nat.le_of_ble_eq_true rfl) ?_
                  refine q_Ru_seg (g2 := (7, [(0, .ref 64), (1, .int 3854)], [.int 3887, .int 3840, .int 3854], (q_cM (q_uA q_AM 33 f) I q_J0, 34, 31630))) 3 (fun _ _ => rfl) ?_
                  refine q_Ru_call (v := (some (.int 1))) (h2 := (q_cM (q_uA q_AM 33 f) I q_J0, 34, 31630)) rfl rfl ?_ ?_
                  · refine q_Ca_of (Nat.le_of_ble_eq_true rfl) ?_
                    refine q_Ru_seg (g2 := (15, [(0, .int 3854), (1, .int 3840), (2, .int 3887)], [.int 1], (q_cM (q_uA q_AM 33 f) I q_J0, 34, 31630))) 8 (fun _ _ => rfl) ?_
                    exact q_Ru_ret rfl rfl
                  show q_Ru _ _ _ (10, [(0, .ref 64), (1, .int 3854)], [.int 1], (q_cM (q_uA q_AM 33 f) I q_J0, 34, 31630)) _
                  refine q_Ru_seg (g2 := (19, [(0, .ref 64), (1, .int 3854)], [.int 14, .ref 64], (q_cM (q_uA q_AM 33 f) I q_J0, 34, 31630))) 5 (fun _ _ => rfl) ?_
                  refine q_Ru_call (v := (some (.int 0))) (h2 := (q_cM (q_uA q_AM 33 f) I q_J0, 34, 31630)) rfl rfl ?_ ?_
                  · refine q_Ca_of (Nat.le_of_ble_eq_true rfl) ?_
                    refine q_Ru_seg (g2 := (30, [(0, .ref 64), (1, .int 14)], [.int 15, .int 12, .int 14], (q_cM (q_uA q_AM 33 f) I q_J0, 34, 31630))) 9 (fun _ _ => rfl) ?_
                    refine q_Ru_call (v := (some (.int 1))) (h2 := (q_cM (q_uA q_AM 33 f) I q_J0, 34, 31630)) rfl rfl ?_ ?_
                    · refine q_Ca_of (Nat.le_of_ble_eq_true rfl) ?_
                      refine q_Ru_seg (g2 := (15, [(0, .int 14), (1, .int 12), (2, .int 15)], [.int 1], (q_cM (q_uA q_AM 33 f) I q_J0, 34, 31630))) 8 (fun _ _ => rfl) ?_
                      exact q_Ru_ret rfl rfl
                    show q_Ru _ _ _ (33, [(0, .ref 64), (1, .int 14)], [.int 1], (q_cM (q_uA q_AM 33 f) I q_J0, 34, 31630)) _
                    refine q_Ru_seg (g2 := (55, [(0, .ref 64), (1, .int 14)], [.int 0], (q_cM (q_uA q_AM 33 f) I q_J0, 34, 31630))) 15 (fun _ _ => rfl) ?_
                    refine q_Ru_seg (g2 := (79, [(0, .ref 64), (1, .int 14)], [.int 0], (q_cM (q_uA q_AM 33 f) I q_J0, 34, 31630))) 3 (fun _ _ => rfl) ?_
                    exact q_Ru_ret rfl rfl
                  show q_Ru _ _ _ (22, [(0, .ref 64), (1, .int 3854)], [.int 0], (q_cM (q_uA q_AM 33 f) I q_J0, 34, 31630)) _
                  exact q_Ru_ret rfl rfl
                | 3, _, e162 =>
                  have e162 : a = 3855 := e162
                  subst e162
                  refine ⟨f, ?_⟩
                  refine q_Ca_of (Nat.le_of_ble_eq_true rfl) ?_
                  refine q_Ru_seg (g2 := (7, [(0, .ref 64), (1, .int 3855)], [.int 3887, .int 3840, .int 3855], (q_cM (q_uA q_AM 33 f) I q_J0, 34, 31630))) 3 (fun _ _ => rfl) ?_
                  refine q_Ru_call (v := (some (.int 1))) (h2 := (q_cM (q_uA q_AM 33 f) I q_J0, 34, 31630)) rfl rfl ?_ ?_
                  · refine q_Ca_of (Nat.le_of_ble_eq_true rfl) ?_
                    refine q_Ru_seg (g2 := (15, [(0, .int 3855), (1, .int 3840), (2, .int 3887)], [.int 1], (q_cM (q_uA q_AM 33 f) I q_J0, 34, 31630))) 8 (fun _ _ => rfl) ?_
                    exact q_Ru_ret rfl rfl
                  show q_Ru _ _ _ (10, [(0, .ref 64), (1, .int 3855)], [.int 1], (q_cM (q_uA q_AM 33 f) I q_J0, 34, 31630)) _
                  refine q_Ru_seg (g2 := (19, [(0, .ref 64), (1, .int 3855)], [.int 15, .ref 64], (q_cM (q_uA q_AM 33 f) I q_J0, 34, 31630))) 5 (fun _ _ => rfl) ?_
                  refine q_Ru_call (v := (some (.int 0))) (h2 := (q_cM (q_uA q_AM 33 f) I q_J0, 34, 31630)) rfl rfl ?_ ?_
                  · refine q_Ca_of (Nat.le_of_ble_eq_true rfl) ?_
                    refine q_Ru_seg (g2 := (30, [(0, .ref 64), (1, .int 15)], [.int 15, .int 12, .int 15], (q_cM (q_uA q_AM 33 f) I q_J0, 34, 31630))) 9 (fun _ _ => rfl) ?_
                    refine q_Ru_call (v := (some (.int 1))) (h2 := (q_cM (q_uA q_AM 33 f) I q_J0, 34, 31630)) rfl rfl ?_ ?_
                    · refine q_Ca_of (Nat.le_of_ble_eq_true rfl) ?_
                      refine q_Ru_seg (g2 := (15, [(0, .int 15), (1, .int 12), (2, .int 15)], [.int 1], (q_cM (q_uA q_AM 33 f) I q_J0, 34, 31630))) 8 (fun _ _ => rfl) ?_
                      exact q_Ru_ret rfl rfl
                    show q_Ru _ _ _ (33, [(0, .ref 64), (1, .int 15)], [.int 1], (q_cM (q_uA q_AM 33 f) I q_J0, 34, 31630)) _
                    refine q_Ru_seg (g2 := (71, [(0, .ref 64), (1, .int 15)], [.int 0], (q_cM (q_uA q_AM 33 f) I q_J0, 34, 31630))) 15 (fun _ _ => rfl) ?_
                    refine q_Ru_seg (g2 := (79, [(0, .ref 64), (1, .int 15)], [.int 0], (q_cM (q_uA q_AM 33 f) I q_J0, 34, 31630))) 4 (fun _ _ => rfl) ?_
                    exact q_Ru_ret rfl rfl
                  show q_Ru _ _ _ (22, [(0, .ref 64), (1, .int 3855)], [.int 0], (q_cM (q_uA q_AM 33 f) I q_J0, 34, 31630)) _
                  exact q_Ru_ret rfl rfl
                | j162 + 4, g162, _ => exact absurd g162 (by omega)
              | false =>
                obtain ⟨j163, g163, e163⟩ := q_en (l := 3852) (n := 3) (q_sub_lo 3852 (q_lo1 h149) (q_lo1 h133) (q_hi2 h142)) (q_sub_hi 3855 (q_hi2 h155) (q_sub_lo 3852 (q_lo1 h149) (q_lo1 h133) (q_hi2 h142)) (q_hi2 h142))
                match j163, g163, e163 with
                | 0, _, e163 =>
                  have e163 : a = 3852 := e163
                  subst e163
                  refine ⟨f, ?_⟩
                  refine q_Ca_of (Nat.le_of_ble_eq_true rfl) ?_
                  refine q_Ru_seg (g2 := (7, [(0, .ref 64), (1, .int 3852)], [.int 3887, .int 3840, .int 3852], (q_cM (q_uA q_AM 33 f) I q_J0, 34, 31630))) 3 (fun _ _ => rfl) ?_
                  refine q_Ru_call (v := (some (.int 1))) (h2 := (q_cM (q_uA q_AM 33 f) I q_J0, 34, 31630)) rfl rfl ?_ ?_
                  · refine q_Ca_of (Nat.le_of_ble_eq_true rfl) ?_
                    refine q_Ru_seg (g2 := (15, [(0, .int 3852), (1, .int 3840), (2, .int 3887)], [.int 1], (q_cM (q_uA q_AM 33 f) I q_J0, 34, 31630))) 8 (fun _ _ => rfl) ?_
                    exact q_Ru_ret rfl rfl
                  show q_Ru _ _ _ (10, [(0, .ref 64), (1, .int 3852)], [.int 1], (q_cM (q_uA q_AM 33 f) I q_J0, 34, 31630)) _
                  refine q_Ru_seg (g2 := (19, [(0, .ref 64), (1, .int 3852)], [.int 12, .ref 64], (q_cM (q_uA q_AM 33 f) I q_J0, 34, 31630))) 5 (fun _ _ => rfl) ?_
                  refine q_Ru_call (v := (some (.int 0))) (h2 := (q_cM (q_uA q_AM 33 f) I q_J0, 34, 31630)) rfl rfl ?_ ?_
                  · refine q_Ca_of (Nat.le_of_ble_eq_true rfl) ?_
                    refine q_Ru_seg (g2 := (30, [(0, .ref 64), (1, .int 12)], [.int 15, .int 12, .int 12], (q_cM (q_uA q_AM 33 f) I q_J0, 34, 31630))) 9 (fun _ _ => rfl) ?_
                    refine q_Ru_call (v := (some (.int 1))) (h2 := (q_cM (q_uA q_AM 33 f) I q_J0, 34, 31630)) rfl rfl ?_ ?_
                    · refine q_Ca_of (Nat.le_of_ble_eq_true rfl) ?_
                      refine q_Ru_seg (g2 := (15, [(0, .int 12), (1, .int 12), (2, .int 15)], [.int 1], (q_cM (q_uA q_AM 33 f) I q_J0, 34, 31630))) 8 (fun _ _ => rfl) ?_
                      exact q_Ru_ret rfl rfl
                    show q_Ru _ _ _ (33, [(0, .ref 64), (1, .int 12)], [.int 1], (q_cM (q_uA q_AM 33 f) I q_J0, 34, 31630)) _
                    refine q_Ru_seg (g2 := (55, [(0, .ref 64), (1, .int 12)], [.int 0], (q_cM (q_uA q_AM 33 f) I q_J0, 34, 31630))) 15 (fun _ _ => rfl) ?_
                    refine q_Ru_seg (g2 := (79, [(0, .ref 64), (1, .int 12)], [.int 0], (q_cM (q_uA q_AM 33 f) I q_J0, 34, 31630))) 3 (fun _ _ => rfl) ?_
                    exact q_Ru_ret rfl rfl
                  show q_Ru _ _ _ (22, [(0, .ref 64), (1, .int 3852)], [.int 0], (q_cM (q_uA q_AM 33 f) I q_J0, 34, 31630)) _
                  exact q_Ru_ret rfl rfl
                | 1, _, e163 =>
                  have e163 : a = 3853 := e163
                  subst e163
                  refine ⟨f, ?_⟩
                  refine q_Ca_of (Nat.le_of_ble_eq_true rfl) ?_
                  refine q_Ru_seg (g2 := (7, [(0, .ref 64), (1, .int 3853)], [.int 3887, .int 3840, .int 3853], (q_cM (q_uA q_AM 33 f) I q_J0, 34, 31630))) 3 (fun _ _ => rfl) ?_
                  refine q_Ru_call (v := (some (.int 1))) (h2 := (q_cM (q_uA q_AM 33 f) I q_J0, 34, 31630)) rfl rfl ?_ ?_
                  · refine q_Ca_of (Nat.le_of_ble_eq_true rfl) ?_
                    refine q_Ru_seg (g2 := (15, [(0, .int 3853), (1, .int 3840), (2, .int 3887)], [.int 1], (q_cM (q_uA q_AM 33 f) I q_J0, 34, 31630))) 8 (fun _ _ => rfl) ?_
                    exact q_Ru_ret rfl rfl
                  show q_Ru _ _ _ (10, [(0, .ref 64), (1, .int 3853)], [.int 1], (q_cM (q_uA q_AM 33 f) I q_J0, 34, 31630)) _
                  refine q_Ru_seg (g2 := (19, [(0, .ref 64), (1, .int 3853)], [.int 13, .ref 64], (q_cM (q_uA q_AM 33 f) I q_J0, 34, 31630))) 5 (fun _ _ => rfl) ?_
                  refine q_Ru_call (v := (some (.int 0))) (h2 := (q_cM (q_uA q_AM 33 f) I q_J0, 34, 31630)) rfl rfl ?_ ?_
                  · refine q_Ca_of (Nat.le_of_ble_eq_true rfl) ?_
                    refine q_Ru_seg (g2 := (30, [(0, .ref 64), (1, .int 13)], [.int 15, .int 12, .int 13], (q_cM (q_uA q_AM 33 f) I q_J0, 34, 31630))) 9 (fun _ _ => rfl) ?_
                    refine q_Ru_call (v := (some (.int 1))) (h2 := (q_cM (q_uA q_AM 33 f) I q_J0, 34, 31630)) rfl rfl ?_ ?_
                    · refine q_Ca_of (Nat.le_of_ble_eq_true rfl) ?_
                      refine q_Ru_seg (g2 := (15, [(0, .int 13), (1, .int 12), (2, .int 15)], [.int 1], (q_cM (q_uA q_AM 33 f) I q_J0, 34, 31630))) 8 (fun _ _ => rfl) ?_
                      exact q_Ru_ret rfl rfl
                    show q_Ru _ _ _ (33, [(0, .ref 64), (1, .int 13)], [.int 1], (q_cM (q_uA q_AM 33 f) I q_J0, 34, 31630)) _
                    refine q_Ru_seg (g2 := (71, [(0, .ref 64), (1, .int 13)], [.int 0], (q_cM (q_uA q_AM 33 f) I q_J0, 34, 31630))) 15 (fun _ _ => rfl) ?_
                    refine q_Ru_seg (g2 := (79, [(0, .ref 64), (1, .int 13)], [.int 0], (q_cM (q_uA q_AM 33 f) I q_J0, 34, 31630))) 4 (fun _ _ => rfl) ?_
                    exact q_Ru_ret rfl rfl
                  show q_Ru _ _ _ (22, [(0, .ref 64), (1, .int 3853)], [.int 0], (q_cM (q_uA q_AM 33 f) I q_J0, 34, 31630)) _
                  exact q_Ru_ret rfl rfl
                | 2, _, e163 =>
                  have e163 : a = 3854 := e163
                  subst e163
                  refine ⟨f, ?_⟩
                  refine q_Ca_of (Nat.le_of_ble_eq_true rfl) ?_
                  refine q_Ru_seg (g2 := (7, [(0, .ref 64), (1, .int 3854)], [.int 3887, .int 3840, .int 3854], (q_cM (q_uA q_AM 33 f) I q_J0, 34, 31630))) 3 (fun _ _ => rfl) ?_
                  refine q_Ru_call (v := (some (.int 1))) (h2 := (q_cM (q_uA q_AM 33 f) I q_J0, 34, 31630)) rfl rfl ?_ ?_
                  · refine q_Ca_of (Nat.le_of_ble_eq_true rfl) ?_
                    refine q_Ru_seg (g2 := (15, [(0, .int 3854), (1, .int 3840), (2, .int 3887)], [.int 1], (q_cM (q_uA q_AM 33 f) I q_J0, 34, 31630))) 8 (fun _ _ => rfl) ?_
                    exact q_Ru_ret rfl rfl
                  show q_Ru _ _ _ (10, [(0, .ref 64), (1, .int 3854)], [.int 1], (q_cM (q_uA q_AM 33 f) I q_J0, 34, 31630)) _
                  refine q_Ru_seg (g2 := (19, [(0, .ref 64), (1, .int 3854)], [.int 14, .ref 64], (q_cM (q_uA q_AM 33 f) I q_J0, 34, 31630))) 5 (fun _ _ => rfl) ?_
                  refine q_Ru_call (v := (some (.int 0))) (h2 := (q_cM (q_uA q_AM 33 f) I q_J0, 34, 31630)) rfl rfl ?_ ?_
                  · refine q_Ca_of (Nat.le_of_ble_eq_true rfl) ?_
                    refine q_Ru_seg (g2 := (30, [(0, .ref 64), (1, .int 14)], [.int 15, .int 12, .int 14], (q_cM (q_uA q_AM 33 f) I q_J0, 34, 31630))) 9 (fun _ _ => rfl) ?_
                    refine q_Ru_call (v := (some (.int 1))) (h2 := (q_cM (q_uA q_AM 33 f) I q_J0, 34, 31630)) rfl rfl ?_ ?_
                    · refine q_Ca_of (Nat.le_of_ble_eq_true rfl) ?_
                      refine q_Ru_seg (g2 := (15, [(0, .int 14), (1, .int 12), (2, .int 15)], [.int 1], (q_cM (q_uA q_AM 33 f) I q_J0, 34, 31630))) 8 (fun _ _ => rfl) ?_
                      exact q_Ru_ret rfl rfl
                    show q_Ru _ _ _ (33, [(0, .ref 64), (1, .int 14)], [.int 1], (q_cM (q_uA q_AM 33 f) I q_J0, 34, 31630)) _
                    refine q_Ru_seg (g2 := (55, [(0, .ref 64), (1, .int 14)], [.int 0], (q_cM (q_uA q_AM 33 f) I q_J0, 34, 31630))) 15 (fun _ _ => rfl) ?_
                    refine q_Ru_seg (g2 := (79, [(0, .ref 64), (1, .int 14)], [.int 0], (q_cM (q_uA q_AM 33 f) I q_J0, 34, 31630))) 3 (fun _ _ => rfl) ?_
                    exact q_Ru_ret rfl rfl
                  show q_Ru _ _ _ (22, [(0, .ref 64), (1, .int 3854)], [.int 0], (q_cM (q_uA q_AM 33 f) I q_J0, 34, 31630)) _
                  exact q_Ru_ret rfl rfl
                | 3, _, e163 =>
                  have e163 : a = 3855 := e163
                  subst e163
                  refine ⟨f, ?_⟩
                  refine q_Ca_of (Nat.le_of_ble_eq_true rfl) ?_
                  refine q_Ru_seg (g2 := (7, [(0, .ref 64), (1, .int 3855)], [.int 3887, .int 3840, .int 3855], (q_cM (q_uA q_AM 33 f) I q_J0, 34, 31630))) 3 (fun _ _ => rfl) ?_
                  refine q_Ru_call (v := (some (.int 1))) (h2 := (q_cM (q_uA q_AM 33 f) I q_J0, 34, 31630)) rfl rfl ?_ ?_
                  · refine q_Ca_of (Nat.le_of_ble_eq_true rfl) ?_
                    refine q_Ru_seg (g2 := (15, [(0, .int 3855), (1, .int 3840), (2, .int 3887)], [.int 1], (q_cM (q_uA q_AM 33 f) I q_J0, 34, 31630))) 8 (fun _ _ => rfl) ?_
                    exact q_Ru_ret rfl rfl
                  show q_Ru _ _ _ (10, [(0, .ref 64), (1, .int 3855)], [.int 1], (q_cM (q_uA q_AM 33 f) I q_J0, 34, 31630)) _
                  refine q_Ru_seg (g2 := (19, [(0, .ref 64), (1, .int 3855)], [.int 15, .ref 64], (q_cM (q_uA q_AM 33 f) I q_J0, 34, 31630))) 5 (fun _ _ => rfl) ?_
                  refine q_Ru_call (v := (some (.int 0))) (h2 := (q_cM (q_uA q_AM 33 f) I q_J0, 34, 31630)) rfl rfl ?_ ?_
                  · refine q_Ca_of (Nat.le_of_ble_eq_true rfl) ?_
                    refine q_Ru_seg (g2 := (30, [(0, .ref 64), (1, .int 15)], [.int 15, .int 12, .int 15], (q_cM (q_uA q_AM 33 f) I q_J0, 34, 31630))) 9 (fun _ _ => rfl) ?_
                    refine q_Ru_call (v := (some (.int 1))) (h2 := (q_cM (q_uA q_AM 33 f) I q_J0, 34, 31630)) rfl rfl ?_ ?_
                    · refine q_Ca_of (Nat.le_of_ble_eq_true rfl) ?_
                      refine q_Ru_seg (g2 := (15, [(0, .int 15), (1, .int 12), (2, .int 15)], [.int 1], (q_cM (q_uA q_AM 33 f) I q_J0, 34, 31630))) 8 (fun _ _ => rfl) ?_
                      exact q_Ru_ret rfl rfl
                    show q_Ru _ _ _ (33, [(0, .ref 64), (1, .int 15)], [.int 1], (q_cM (q_uA q_AM 33 f) I q_J0, 34, 31630)) _
                    refine q_Ru_seg (g2 := (71, [(0, .ref 64), (1, .int 15)], [.int 0], (q_cM (q_uA q_AM 33 f) I q_J0, 34, 31630))) 15 (fun _ _ => rfl) ?_
                    refine q_Ru_seg (g2 := (79, [(0, .ref 64), (1, .int 15)], [.int 0], (q_cM (q_uA q_AM 33 f) I q_J0, 34, 31630))) 4 (fun _ _ => rfl) ?_
                    exact q_Ru_ret rfl rfl
                  show q_Ru _ _ _ (22, [(0, .ref 64), (1, .int 3855)], [.int 0], (q_cM (q_uA q_AM 33 f) I q_J0, 34, 31630)) _
                  exact q_Ru_ret rfl rfl
                | j163 + 4, g163, _ => exact absurd g163 (by omega)
theorem q_cmpX (a v u : Int32) (hu : u.toInt ≤ 4096) : ∀ (m : Nat) (k : Int32), 0 ≤ k.toInt → k.toInt + (m : Int) = u.toInt → q_Ru q_TB0 8 36 (22, [(5, .int k), (6, .int 0), (4, .int 0), (0, .ref 64), (1, .int a), (2, .int v), (3, .int u)], [], (q_cX q_AX q_IX q_J0, 40, 26520)) (.inl (some (.int 0)), (q_cX q_AX q_IX q_J0, 40, 26520)) := by
  intro m
  induction m with
  | zero =>
    intro k h0 h1
    have hk := q_ltF h1
    refine q_Ru_seg (g2 := (25, [(5, .int k), (6, .int 0), (4, .int 0), (0, .ref 64), (1, .int a), (2, .int v), (3, .int u)], [.int u, .int k], (q_cX q_AX q_IX q_J0, 40, 26520))) 2 (fun _ _ => rfl) ?_
    refine q_Ru_rsT (g2 := (80, [(5, .int k), (6, .int 0), (4, .int 0), (0, .ref 64), (1, .int a), (2, .int v), (3, .int u)], [], (q_cX q_AX q_IX q_J0, 40, 26520))) rfl rfl (q_d_geF hk) ?_
    refine q_Ru_seg (g2 := (82, [(5, .int k), (6, .int 0), (4, .int 0), (0, .ref 64), (1, .int a), (2, .int v), (3, .int u)], [.int 0], (q_cX q_AX q_IX q_J0, 40, 26520))) 1 (fun _ _ => rfl) ?_
    exact q_Ru_ret rfl rfl
  | succ m ih =>
    intro k h0 h1
    have hk := q_ltT h1
    have e1 := q_inc (k := k) (by omega) (by omega)
    refine q_Ru_seg (g2 := (25, [(5, .int k), (6, .int 0), (4, .int 0), (0, .ref 64), (1, .int a), (2, .int v), (3, .int u)], [.int u, .int k], (q_cX q_AX q_IX q_J0, 40, 26520))) 2 (fun _ _ => rfl) ?_
    refine q_Ru_rsF (g2 := (28, [(5, .int k), (6, .int 0), (4, .int 0), (0, .ref 64), (1, .int a), (2, .int v), (3, .int u)], [], (q_cX q_AX q_IX q_J0, 40, 26520))) rfl rfl (q_d_geT hk) ?_
    refine q_Ru_seg (g2 := (43, [(5, .int k), (6, .int 0), (4, .int 0), (0, .ref 64), (1, .int a), (2, .int v), (3, .int u)], [.int ((a + k) &&& 4095), .ref 66], (q_cX q_AX q_IX q_J0, 40, 26520))) 8 (fun _ _ => rfl) ?_
    refine q_Ru_call (v := (some (.int 0))) (h2 := (q_cX q_AX q_IX q_J0, 40, 26520)) rfl rfl ?_ ?_
    · exact (q_p_read0 ((a + k) &&& 4095) (q_and_lo (a + k) 4095) (q_and_hi (a + k) 4095 4095)).le (Nat.le_of_ble_eq_true rfl)
    show q_Ru _ _ _ (46, [(5, .int k), (6, .int 0), (4, .int 0), (0, .ref 64), (1, .int a), (2, .int v), (3, .int u)], [.int 0], (q_cX q_AX q_IX q_J0, 40, 26520)) _
    refine q_Ru_seg (g2 := (65, [(6, .int 0), (5, .int k), (4, .int 0), (0, .ref 64), (1, .int a), (2, .int v), (3, .int u)], [.int ((v + k) &&& 4095), .ref 66, .int 0], (q_cX q_AX q_IX q_J0, 40, 26520))) 10 (fun _ _ => rfl) ?_
    refine q_Ru_call (v := (some (.int 0))) (h2 := (q_cX q_AX q_IX q_J0, 40, 26520)) rfl rfl ?_ ?_
    · exact (q_p_read0 ((v + k) &&& 4095) (q_and_lo (v + k) 4095) (q_and_hi (v + k) 4095 4095)).le (Nat.le_of_ble_eq_true rfl)
    show q_Ru _ _ _ (68, [(6, .int 0), (5, .int k), (4, .int 0), (0, .ref 64), (1, .int a), (2, .int v), (3, .int u)], [.int 0, .int 0], (q_cX q_AX q_IX q_J0, 40, 26520)) _
    refine q_Ru_seg (g2 := (22, [(5, .int (k + 1)), (6, .int 0), (4, .int 0), (0, .ref 64), (1, .int a), (2, .int v), (3, .int u)], [], (q_cX q_AX q_IX q_J0, 40, 26520))) 3 (fun _ _ => rfl) ?_
    exact ih (k + 1) (by omega) (by omega)
theorem q_cmpM (I : Nat → Nat → Int32) (a v u : Int32) (hu : u.toInt ≤ 4096) : ∀ (m : Nat) (k : Int32) (f : Nat → Int32), 0 ≤ k.toInt → k.toInt + (m : Int) = u.toInt → ∃ f2, q_Ru q_TB0 8 221 (49, [(5, .int k), (4, .int 0), (0, .ref 64), (1, .int a), (2, .int v), (3, .int u)], [], (q_cM (q_uA q_AM 33 f) I q_J0, 34, 31630)) (.inl (some (.int 0)), (q_cM (q_uA q_AM 33 f2) I q_J0, 34, 31630)) := by
  intro m
  induction m with
  | zero =>
    intro k f h0 h1
    have hk := q_ltF h1
    refine ⟨f, ?_⟩
    refine q_Ru_seg (g2 := (52, [(5, .int k), (4, .int 0), (0, .ref 64), (1, .int a), (2, .int v), (3, .int u)], [.int u, .int k], (q_cM (q_uA q_AM 33 f) I q_J0, 34, 31630))) 2 (fun _ _ => rfl) ?_
    refine q_Ru_rsT (g2 := (96, [(5, .int k), (4, .int 0), (0, .ref 64), (1, .int a), (2, .int v), (3, .int u)], [], (q_cM (q_uA q_AM 33 f) I q_J0, 34, 31630))) rfl rfl (q_d_geF hk) ?_
    refine q_Ru_seg (g2 := (98, [(5, .int k), (4, .int 0), (0, .ref 64), (1, .int a), (2, .int v), (3, .int u)], [.int 0], (q_cM (q_uA q_AM 33 f) I q_J0, 34, 31630))) 1 (fun _ _ => rfl) ?_
    exact q_Ru_ret rfl rfl
  | succ m ih =>
    intro k f h0 h1
    have hk := q_ltT h1
    have e1 := q_inc (k := k) (by omega) (by omega)
    obtain ⟨f8, p8⟩ := q_p_reads0 f I ((a + k) &&& 4095) (q_and_lo (a + k) 4095) (q_and_hi (a + k) 4095 4095)
    obtain ⟨f9, p9⟩ := q_p_reads0 f8 I ((v + k) &&& 4095) (q_and_lo (v + k) 4095) (q_and_hi (v + k) 4095 4095)
    obtain ⟨f2, p⟩ := ih (k + 1) f9 (by omega) (by omega)
    refine ⟨f2, ?_⟩
    refine q_Ru_seg (g2 := (52, [(5, .int k), (4, .int 0), (0, .ref 64), (1, .int a), (2, .int v), (3, .int u)], [.int u, .int k], (q_cM (q_uA q_AM 33 f) I q_J0, 34, 31630))) 2 (fun _ _ => rfl) ?_
    refine q_Ru_rsF (g2 := (55, [(5, .int k), (4, .int 0), (0, .ref 64), (1, .int a), (2, .int v), (3, .int u)], [], (q_cM (q_uA q_AM 33 f) I q_J0, 34, 31630))) rfl rfl (q_d_geT hk) ?_
    refine q_Ru_seg (g2 := (62, [(5, .int k), (4, .int 0), (0, .ref 64), (1, .int a), (2, .int v), (3, .int u)], [.int (a + k), .ref 64, .int 0], (q_cM (q_uA q_AM 33 f) I q_J0, 34, 31630))) 5 (fun _ _ => rfl) ?_
    refine q_Ru_call (v := (some (.int ((a + k) &&& 4095)))) (h2 := (q_cM (q_uA q_AM 33 f) I q_J0, 34, 31630)) rfl rfl ?_ ?_
    · refine q_Ca_of (Nat.le_of_ble_eq_true rfl) ?_
      refine q_Ru_seg (g2 := (5, [(0, .int (a + k))], [.int ((a + k) &&& 4095)], (q_cM (q_uA q_AM 33 f) I q_J0, 34, 31630))) 3 (fun _ _ => rfl) ?_
      exact q_Ru_ret rfl rfl
    show q_Ru _ _ _ (65, [(5, .int k), (4, .int 0), (0, .ref 64), (1, .int a), (2, .int v), (3, .int u)], [.int ((a + k) &&& 4095), .ref 64, .int 0], (q_cM (q_uA q_AM 33 f) I q_J0, 34, 31630)) _
    refine q_Ru_call (v := (some (.int 0))) (h2 := (q_cM (q_uA q_AM 33 f8) I q_J0, 34, 31630)) rfl rfl ?_ ?_
    · exact p8.le (Nat.le_of_ble_eq_true rfl)
    show q_Ru _ _ _ (68, [(5, .int k), (4, .int 0), (0, .ref 64), (1, .int a), (2, .int v), (3, .int u)], [.int 0, .int 0], (q_cM (q_uA q_AM 33 f8) I q_J0, 34, 31630)) _
    refine q_Ru_seg (g2 := (73, [(5, .int k), (4, .int 0), (0, .ref 64), (1, .int a), (2, .int v), (3, .int u)], [.int (v + k), .ref 64, .int 0, .int 0], (q_cM (q_uA q_AM 33 f8) I q_J0, 34, 31630))) 4 (fun _ _ => rfl) ?_
    refine q_Ru_call (v := (some (.int ((v + k) &&& 4095)))) (h2 := (q_cM (q_uA q_AM 33 f8) I q_J0, 34, 31630)) rfl rfl ?_ ?_
    · refine q_Ca_of (Nat.le_of_ble_eq_true rfl) ?_
      refine q_Ru_seg (g2 := (5, [(0, .int (v + k))], [.int ((v + k) &&& 4095)], (q_cM (q_uA q_AM 33 f8) I q_J0, 34, 31630))) 3 (fun _ _ => rfl) ?_
      exact q_Ru_ret rfl rfl
    show q_Ru _ _ _ (76, [(5, .int k), (4, .int 0), (0, .ref 64), (1, .int a), (2, .int v), (3, .int u)], [.int ((v + k) &&& 4095), .ref 64, .int 0, .int 0], (q_cM (q_uA q_AM 33 f8) I q_J0, 34, 31630)) _
    refine q_Ru_call (v := (some (.int 0))) (h2 := (q_cM (q_uA q_AM 33 f9) I q_J0, 34, 31630)) rfl rfl ?_ ?_
    · exact p9.le (Nat.le_of_ble_eq_true rfl)
    show q_Ru _ _ _ (79, [(5, .int k), (4, .int 0), (0, .ref 64), (1, .int a), (2, .int v), (3, .int u)], [.int 0, .int 0, .int 0], (q_cM (q_uA q_AM 33 f9) I q_J0, 34, 31630)) _
    refine q_Ru_seg (g2 := (49, [(5, .int (k + 1)), (4, .int 0), (0, .ref 64), (1, .int a), (2, .int v), (3, .int u)], [], (q_cM (q_uA q_AM 33 f9) I q_J0, 34, 31630))) 7 (fun _ _ => rfl) ?_
    exact p
set_option maxHeartbeats 20000000 in
theorem q_op_compare (a v u : Int32) : ∃ (r b : Int32) (w : Int64), q_opX 8 [.int a, .int v, .int u] r w ∧ q_opM 221 [.int a, .int v, .int u] r (.int b) ∧ (r = 0 → w = b.toInt64) := by
  cases h164 : decide (a < 0) with
  | true =>
    refine ⟨1, 0, 0, ⟨(q_cX q_AX q_IX q_J0, 40 + 1, 26520 + 6), q_J0 39, ?_, rfl, fun h => absurd h (by decide), Nat.le_of_ble_eq_true rfl, Nat.le_of_ble_eq_true rfl⟩, ⟨(q_cM q_AM (q_uI q_IM 0 39 1) q_J0, 34, 31630), _, ?_, rfl, rfl, Nat.le_of_ble_eq_true rfl, Nat.le_of_ble_eq_true rfl⟩, fun h => absurd h (by decide)⟩
    · refine q_Ca_of (Nat.le_of_ble_eq_true rfl) ?_
      refine q_Ru_seg (g2 := (7, [(0, .ref 64), (1, .int a), (2, .int v), (3, .int u), (4, .ref 103)], [.int u, .int v, .int a, .ref 64, .int 0, .ref 103], (q_cX q_AX q_IX q_J0, 40, 26520))) 6 (fun _ _ => rfl) ?_
      refine q_Ru_callH (E := "java/lang/IndexOutOfBoundsException") (tg := 17) (i := 5) (h2 := (q_cX q_AX q_IX q_J0, 40 + 1, 26520 + 6)) rfl rfl ?_ rfl ?_
      · refine q_Ca_of (Nat.le_of_ble_eq_true rfl) ?_
        refine q_Ru_seg (g2 := (1, [(0, .ref 64), (1, .int a), (2, .int v), (3, .int u)], [.int a], (q_cX q_AX q_IX q_J0, 40, 26520))) 1 (fun _ _ => rfl) ?_
        refine q_Ru_callX (E := "java/lang/IndexOutOfBoundsException") (h2 := (q_cX q_AX q_IX q_J0, 40 + 1, 26520 + 6)) rfl rfl ?_
        refine q_Ca_of (Nat.le_of_ble_eq_true rfl) ?_
        refine q_Ru_seg (g2 := (4, [(0, .int a)], [.int 4096, .int a], (q_cX q_AX q_IX q_J0, 40, 26520))) 2 (fun _ _ => rfl) ?_
        refine q_Ru_callX (E := "java/lang/IndexOutOfBoundsException") (h2 := (q_cX q_AX q_IX q_J0, 40 + 1, 26520 + 6)) rfl rfl ?_
        refine q_Ca_of (Nat.le_of_ble_eq_true rfl) ?_
        refine q_Ru_seg (g2 := (1, [(0, .int a), (1, .int 4096)], [.int a], (q_cX q_AX q_IX q_J0, 40, 26520))) 1 (fun _ _ => rfl) ?_
        refine q_Ru_rsT (g2 := (9, [(0, .int a), (1, .int 4096)], [], (q_cX q_AX q_IX q_J0, 40, 26520))) rfl rfl h164 ?_
        exact q_Ru_thr rfl rfl
      show q_Ru _ _ _ (17, [(0, .ref 64), (1, .int a), (2, .int v), (3, .int u), (4, .ref 103)], [], (q_cX q_AX q_IX q_J0, 40 + 1, 26520 + 6)) _
      refine q_Ru_seg (g2 := (18, [(0, .ref 64), (1, .int a), (2, .int v), (3, .int u), (4, .ref 103)], [.int 1], (q_cX q_AX q_IX q_J0, 40 + 1, 26520 + 6))) 1 (fun _ _ => rfl) ?_
      exact q_Ru_ret rfl rfl
    · refine q_Ca_of (Nat.le_of_ble_eq_true rfl) ?_
      refine q_Ru_seg (g2 := (2, [(0, .ref 64), (1, .int a), (2, .int v), (3, .int u)], [.int a, .ref 64], (q_cM q_AM q_IM q_J0, 34, 31630))) 2 (fun _ _ => rfl) ?_
      refine q_Ru_call (v := (some (.int 1))) (h2 := (q_cM q_AM q_IM q_J0, 34, 31630)) rfl rfl ?_ ?_
      · refine q_Ca_of (Nat.le_of_ble_eq_true rfl) ?_
        refine q_Ru_seg (g2 := (5, [(0, .int a)], [.int 4095, .int 0, .int a], (q_cM q_AM q_IM q_J0, 34, 31630))) 3 (fun _ _ => rfl) ?_
        refine q_Ru_call (v := (some (.int 0))) (h2 := (q_cM q_AM q_IM q_J0, 34, 31630)) rfl rfl ?_ ?_
        · refine q_Ca_of (Nat.le_of_ble_eq_true rfl) ?_
          refine q_Ru_seg (g2 := (2, [(0, .int a), (1, .int 0), (2, .int 4095)], [.int 0, .int a], (q_cM q_AM q_IM q_J0, 34, 31630))) 2 (fun _ _ => rfl) ?_
          refine q_Ru_rsT (g2 := (14, [(0, .int a), (1, .int 0), (2, .int 4095)], [], (q_cM q_AM q_IM q_J0, 34, 31630))) rfl rfl h164 ?_
          refine q_Ru_seg (g2 := (15, [(0, .int a), (1, .int 0), (2, .int 4095)], [.int 0], (q_cM q_AM q_IM q_J0, 34, 31630))) 1 (fun _ _ => rfl) ?_
          exact q_Ru_ret rfl rfl
        show q_Ru _ _ _ (8, [(0, .int a)], [.int 0], (q_cM q_AM q_IM q_J0, 34, 31630)) _
        refine q_Ru_seg (g2 := (16, [(0, .int a)], [.int 1], (q_cM q_AM q_IM q_J0, 34, 31630))) 3 (fun _ _ => rfl) ?_
        exact q_Ru_ret rfl rfl
      show q_Ru _ _ _ (5, [(0, .ref 64), (1, .int a), (2, .int v), (3, .int u)], [.int 1, .ref 64], (q_cM q_AM q_IM q_J0, 34, 31630)) _
      refine q_Ru_seg (g2 := (35, [(0, .ref 64), (1, .int a), (2, .int v), (3, .int u)], [.int 1, .ref 64], (q_cM q_AM q_IM q_J0, 34, 31630))) 3 (fun _ _ => rfl) ?_
      refine q_Ru_call (v := (some (.int 1))) (h2 := (q_cM q_AM (q_uI q_IM 0 39 1) q_J0, 34, 31630)) rfl rfl ?_ ?_
      · refine q_Ca_of (Nat.le_of_ble_eq_true rfl) ?_
        refine q_Ru_seg (g2 := (14, [(0, .ref 64), (1, .int 1)], [.int 1], (q_cM q_AM (q_uI q_IM 0 39 1) q_J0, 34, 31630))) 7 (fun _ _ => rfl) ?_
        exact q_Ru_ret rfl rfl
      show q_Ru _ _ _ (38, [(0, .ref 64), (1, .int a), (2, .int v), (3, .int u)], [.int 1], (q_cM q_AM (q_uI q_IM 0 39 1) q_J0, 34, 31630)) _
      refine q_Ru_seg (g2 := (42, [(0, .ref 64), (1, .int a), (2, .int v), (3, .int u)], [.int 0], (q_cM q_AM (q_uI q_IM 0 39 1) q_J0, 34, 31630))) 2 (fun _ _ => rfl) ?_
      exact q_Ru_ret rfl rfl
  | false =>
    cases h165 : decide (a < 4096) with
    | true =>
      cases h166 : decide (v < 0) with
      | true =>
        cases h167 : decide (4095 < a) with
        | true =>
          exact q_no (q_lo2 h167) (q_hi1 h165) (by decide)
        | false =>
          refine ⟨1, 0, 0, ⟨(q_cX q_AX q_IX q_J0, 40 + 1, 26520 + 6), q_J0 39, ?_, rfl, fun h => absurd h (by decide), Nat.le_of_ble_eq_true rfl, Nat.le_of_ble_eq_true rfl⟩, ⟨(q_cM q_AM (q_uI q_IM 0 39 1) q_J0, 34, 31630), _, ?_, rfl, rfl, Nat.le_of_ble_eq_true rfl, Nat.le_of_ble_eq_true rfl⟩, fun h => absurd h (by decide)⟩
          · refine q_Ca_of (Nat.le_of_ble_eq_true rfl) ?_
            refine q_Ru_seg (g2 := (7, [(0, .ref 64), (1, .int a), (2, .int v), (3, .int u), (4, .ref 103)], [.int u, .int v, .int a, .ref 64, .int 0, .ref 103], (q_cX q_AX q_IX q_J0, 40, 26520))) 6 (fun _ _ => rfl) ?_
            refine q_Ru_callH (E := "java/lang/IndexOutOfBoundsException") (tg := 17) (i := 5) (h2 := (q_cX q_AX q_IX q_J0, 40 + 1, 26520 + 6)) rfl rfl ?_ rfl ?_
            · refine q_Ca_of (Nat.le_of_ble_eq_true rfl) ?_
              refine q_Ru_seg (g2 := (1, [(0, .ref 64), (1, .int a), (2, .int v), (3, .int u)], [.int a], (q_cX q_AX q_IX q_J0, 40, 26520))) 1 (fun _ _ => rfl) ?_
              refine q_Ru_call (v := none) (h2 := (q_cX q_AX q_IX q_J0, 40, 26520)) rfl rfl ?_ ?_
              · refine q_Ca_of (Nat.le_of_ble_eq_true rfl) ?_
                refine q_Ru_seg (g2 := (4, [(0, .int a)], [.int 4096, .int a], (q_cX q_AX q_IX q_J0, 40, 26520))) 2 (fun _ _ => rfl) ?_
                refine q_Ru_call (v := none) (h2 := (q_cX q_AX q_IX q_J0, 40, 26520)) rfl rfl ?_ ?_
                · refine q_Ca_of (Nat.le_of_ble_eq_true rfl) ?_
                  refine q_Ru_seg (g2 := (1, [(0, .int a), (1, .int 4096)], [.int a], (q_cX q_AX q_IX q_J0, 40, 26520))) 1 (fun _ _ => rfl) ?_
                  refine q_Ru_rsF (g2 := (4, [(0, .int a), (1, .int 4096)], [], (q_cX q_AX q_IX q_J0, 40, 26520))) rfl rfl h164 ?_
                  refine q_Ru_seg (g2 := (6, [(0, .int a), (1, .int 4096)], [.int 4096, .int a], (q_cX q_AX q_IX q_J0, 40, 26520))) 2 (fun _ _ => rfl) ?_
                  refine q_Ru_rsT (g2 := (19, [(0, .int a), (1, .int 4096)], [], (q_cX q_AX q_IX q_J0, 40, 26520))) rfl rfl h165 ?_
                  exact q_Ru_ret rfl rfl
                show q_Ru _ _ _ (7, [(0, .int a)], [], (q_cX q_AX q_IX q_J0, 40, 26520)) _
                exact q_Ru_ret rfl rfl
              show q_Ru _ _ _ (4, [(0, .ref 64), (1, .int a), (2, .int v), (3, .int u)], [], (q_cX q_AX q_IX q_J0, 40, 26520)) _
              refine q_Ru_seg (g2 := (5, [(0, .ref 64), (1, .int a), (2, .int v), (3, .int u)], [.int v], (q_cX q_AX q_IX q_J0, 40, 26520))) 1 (fun _ _ => rfl) ?_
              refine q_Ru_callX (E := "java/lang/IndexOutOfBoundsException") (h2 := (q_cX q_AX q_IX q_J0, 40 + 1, 26520 + 6)) rfl rfl ?_
              refine q_Ca_of (Nat.le_of_ble_eq_true rfl) ?_
              refine q_Ru_seg (g2 := (4, [(0, .int v)], [.int 4096, .int v], (q_cX q_AX q_IX q_J0, 40, 26520))) 2 (fun _ _ => rfl) ?_
              refine q_Ru_callX (E := "java/lang/IndexOutOfBoundsException") (h2 := (q_cX q_AX q_IX q_J0, 40 + 1, 26520 + 6)) rfl rfl ?_
              refine q_Ca_of (Nat.le_of_ble_eq_true rfl) ?_
              refine q_Ru_seg (g2 := (1, [(0, .int v), (1, .int 4096)], [.int v], (q_cX q_AX q_IX q_J0, 40, 26520))) 1 (fun _ _ => rfl) ?_
              refine q_Ru_rsT (g2 := (9, [(0, .int v), (1, .int 4096)], [], (q_cX q_AX q_IX q_J0, 40, 26520))) rfl rfl h166 ?_
              exact q_Ru_thr rfl rfl
            show q_Ru _ _ _ (17, [(0, .ref 64), (1, .int a), (2, .int v), (3, .int u), (4, .ref 103)], [], (q_cX q_AX q_IX q_J0, 40 + 1, 26520 + 6)) _
            refine q_Ru_seg (g2 := (18, [(0, .ref 64), (1, .int a), (2, .int v), (3, .int u), (4, .ref 103)], [.int 1], (q_cX q_AX q_IX q_J0, 40 + 1, 26520 + 6))) 1 (fun _ _ => rfl) ?_
            exact q_Ru_ret rfl rfl
          · refine q_Ca_of (Nat.le_of_ble_eq_true rfl) ?_
            refine q_Ru_seg (g2 := (2, [(0, .ref 64), (1, .int a), (2, .int v), (3, .int u)], [.int a, .ref 64], (q_cM q_AM q_IM q_J0, 34, 31630))) 2 (fun _ _ => rfl) ?_
            refine q_Ru_call (v := (some (.int 0))) (h2 := (q_cM q_AM q_IM q_J0, 34, 31630)) rfl rfl ?_ ?_
            · refine q_Ca_of (Nat.le_of_ble_eq_true rfl) ?_
              refine q_Ru_seg (g2 := (5, [(0, .int a)], [.int 4095, .int 0, .int a], (q_cM q_AM q_IM q_J0, 34, 31630))) 3 (fun _ _ => rfl) ?_
              refine q_Ru_call (v := (some (.int 1))) (h2 := (q_cM q_AM q_IM q_J0, 34, 31630)) rfl rfl ?_ ?_
              · refine q_Ca_of (Nat.le_of_ble_eq_true rfl) ?_
                refine q_Ru_seg (g2 := (2, [(0, .int a), (1, .int 0), (2, .int 4095)], [.int 0, .int a], (q_cM q_AM q_IM q_J0, 34, 31630))) 2 (fun _ _ => rfl) ?_
                refine q_Ru_rsF (g2 := (5, [(0, .int a), (1, .int 0), (2, .int 4095)], [], (q_cM q_AM q_IM q_J0, 34, 31630))) rfl rfl h164 ?_
                refine q_Ru_seg (g2 := (7, [(0, .int a), (1, .int 0), (2, .int 4095)], [.int 4095, .int a], (q_cM q_AM q_IM q_J0, 34, 31630))) 2 (fun _ _ => rfl) ?_
                refine q_Ru_rsF (g2 := (10, [(0, .int a), (1, .int 0), (2, .int 4095)], [], (q_cM q_AM q_IM q_J0, 34, 31630))) rfl rfl h167 ?_
                refine q_Ru_seg (g2 := (15, [(0, .int a), (1, .int 0), (2, .int 4095)], [.int 1], (q_cM q_AM q_IM q_J0, 34, 31630))) 2 (fun _ _ => rfl) ?_
                exact q_Ru_ret rfl rfl
              show q_Ru _ _ _ (8, [(0, .int a)], [.int 1], (q_cM q_AM q_IM q_J0, 34, 31630)) _
              refine q_Ru_seg (g2 := (16, [(0, .int a)], [.int 0], (q_cM q_AM q_IM q_J0, 34, 31630))) 2 (fun _ _ => rfl) ?_
              exact q_Ru_ret rfl rfl
            show q_Ru _ _ _ (5, [(0, .ref 64), (1, .int a), (2, .int v), (3, .int u)], [.int 0, .ref 64], (q_cM q_AM q_IM q_J0, 34, 31630)) _
            refine q_Ru_seg (g2 := (9, [(0, .ref 64), (1, .int a), (2, .int v), (3, .int u)], [.int v, .ref 64], (q_cM q_AM q_IM q_J0, 34, 31630))) 2 (fun _ _ => rfl) ?_
            refine q_Ru_call (v := (some (.int 1))) (h2 := (q_cM q_AM q_IM q_J0, 34, 31630)) rfl rfl ?_ ?_
            · refine q_Ca_of (Nat.le_of_ble_eq_true rfl) ?_
              refine q_Ru_seg (g2 := (5, [(0, .int v)], [.int 4095, .int 0, .int v], (q_cM q_AM q_IM q_J0, 34, 31630))) 3 (fun _ _ => rfl) ?_
              refine q_Ru_call (v := (some (.int 0))) (h2 := (q_cM q_AM q_IM q_J0, 34, 31630)) rfl rfl ?_ ?_
              · refine q_Ca_of (Nat.le_of_ble_eq_true rfl) ?_
                refine q_Ru_seg (g2 := (2, [(0, .int v), (1, .int 0), (2, .int 4095)], [.int 0, .int v], (q_cM q_AM q_IM q_J0, 34, 31630))) 2 (fun _ _ => rfl) ?_
                refine q_Ru_rsT (g2 := (14, [(0, .int v), (1, .int 0), (2, .int 4095)], [], (q_cM q_AM q_IM q_J0, 34, 31630))) rfl rfl h166 ?_
                refine q_Ru_seg (g2 := (15, [(0, .int v), (1, .int 0), (2, .int 4095)], [.int 0], (q_cM q_AM q_IM q_J0, 34, 31630))) 1 (fun _ _ => rfl) ?_
                exact q_Ru_ret rfl rfl
              show q_Ru _ _ _ (8, [(0, .int v)], [.int 0], (q_cM q_AM q_IM q_J0, 34, 31630)) _
              refine q_Ru_seg (g2 := (16, [(0, .int v)], [.int 1], (q_cM q_AM q_IM q_J0, 34, 31630))) 3 (fun _ _ => rfl) ?_
              exact q_Ru_ret rfl rfl
            show q_Ru _ _ _ (12, [(0, .ref 64), (1, .int a), (2, .int v), (3, .int u)], [.int 1, .ref 64], (q_cM q_AM q_IM q_J0, 34, 31630)) _
            refine q_Ru_seg (g2 := (35, [(0, .ref 64), (1, .int a), (2, .int v), (3, .int u)], [.int 1, .ref 64], (q_cM q_AM q_IM q_J0, 34, 31630))) 3 (fun _ _ => rfl) ?_
            refine q_Ru_call (v := (some (.int 1))) (h2 := (q_cM q_AM (q_uI q_IM 0 39 1) q_J0, 34, 31630)) rfl rfl ?_ ?_
            · refine q_Ca_of (Nat.le_of_ble_eq_true rfl) ?_
              refine q_Ru_seg (g2 := (14, [(0, .ref 64), (1, .int 1)], [.int 1], (q_cM q_AM (q_uI q_IM 0 39 1) q_J0, 34, 31630))) 7 (fun _ _ => rfl) ?_
              exact q_Ru_ret rfl rfl
            show q_Ru _ _ _ (38, [(0, .ref 64), (1, .int a), (2, .int v), (3, .int u)], [.int 1], (q_cM q_AM (q_uI q_IM 0 39 1) q_J0, 34, 31630)) _
            refine q_Ru_seg (g2 := (42, [(0, .ref 64), (1, .int a), (2, .int v), (3, .int u)], [.int 0], (q_cM q_AM (q_uI q_IM 0 39 1) q_J0, 34, 31630))) 2 (fun _ _ => rfl) ?_
            exact q_Ru_ret rfl rfl
      | false =>
        cases h168 : decide (v < 4096) with
        | true =>
          cases h169 : decide (u < 1) with
          | true =>
            cases h170 : decide (4095 < a) with
            | true =>
              exact q_no (q_lo2 h170) (q_hi1 h165) (by decide)
            | false =>
              cases h171 : decide (4095 < v) with
              | true =>
                exact q_no (q_lo2 h171) (q_hi1 h168) (by decide)
              | false =>
                refine ⟨2, 0, 0, ⟨(q_cX q_AX q_IX q_J0, 40 + 1, 26520 + 6), q_J0 39, ?_, rfl, fun h => absurd h (by decide), Nat.le_of_ble_eq_true rfl, Nat.le_of_ble_eq_true rfl⟩, ⟨(q_cM q_AM (q_uI q_IM 0 39 2) q_J0, 34, 31630), _, ?_, rfl, rfl, Nat.le_of_ble_eq_true rfl, Nat.le_of_ble_eq_true rfl⟩, fun h => absurd h (by decide)⟩
                · refine q_Ca_of (Nat.le_of_ble_eq_true rfl) ?_
                  refine q_Ru_seg (g2 := (7, [(0, .ref 64), (1, .int a), (2, .int v), (3, .int u), (4, .ref 103)], [.int u, .int v, .int a, .ref 64, .int 0, .ref 103], (q_cX q_AX q_IX q_J0, 40, 26520))) 6 (fun _ _ => rfl) ?_
                  refine q_Ru_callH (E := "java/lang/IllegalArgumentException") (tg := 21) (i := 5) (h2 := (q_cX q_AX q_IX q_J0, 40 + 1, 26520 + 6)) rfl rfl ?_ rfl ?_
                  · refine q_Ca_of (Nat.le_of_ble_eq_true rfl) ?_
                    refine q_Ru_seg (g2 := (1, [(0, .ref 64), (1, .int a), (2, .int v), (3, .int u)], [.int a], (q_cX q_AX q_IX q_J0, 40, 26520))) 1 (fun _ _ => rfl) ?_
                    refine q_Ru_call (v := none) (h2 := (q_cX q_AX q_IX q_J0, 40, 26520)) rfl rfl ?_ ?_
                    · refine q_Ca_of (Nat.le_of_ble_eq_true rfl) ?_
                      refine q_Ru_seg (g2 := (4, [(0, .int a)], [.int 4096, .int a], (q_cX q_AX q_IX q_J0, 40, 26520))) 2 (fun _ _ => rfl) ?_
                      refine q_Ru_call (v := none) (h2 := (q_cX q_AX q_IX q_J0, 40, 26520)) rfl rfl ?_ ?_
                      · refine q_Ca_of (Nat.le_of_ble_eq_true rfl) ?_
                        refine q_Ru_seg (g2 := (1, [(0, .int a), (1, .int 4096)], [.int a], (q_cX q_AX q_IX q_J0, 40, 26520))) 1 (fun _ _ => rfl) ?_
                        refine q_Ru_rsF (g2 := (4, [(0, .int a), (1, .int 4096)], [], (q_cX q_AX q_IX q_J0, 40, 26520))) rfl rfl h164 ?_
                        refine q_Ru_seg (g2 := (6, [(0, .int a), (1, .int 4096)], [.int 4096, .int a], (q_cX q_AX q_IX q_J0, 40, 26520))) 2 (fun _ _ => rfl) ?_
                        refine q_Ru_rsT (g2 := (19, [(0, .int a), (1, .int 4096)], [], (q_cX q_AX q_IX q_J0, 40, 26520))) rfl rfl h165 ?_
                        exact q_Ru_ret rfl rfl
                      show q_Ru _ _ _ (7, [(0, .int a)], [], (q_cX q_AX q_IX q_J0, 40, 26520)) _
                      exact q_Ru_ret rfl rfl
                    show q_Ru _ _ _ (4, [(0, .ref 64), (1, .int a), (2, .int v), (3, .int u)], [], (q_cX q_AX q_IX q_J0, 40, 26520)) _
                    refine q_Ru_seg (g2 := (5, [(0, .ref 64), (1, .int a), (2, .int v), (3, .int u)], [.int v], (q_cX q_AX q_IX q_J0, 40, 26520))) 1 (fun _ _ => rfl) ?_
                    refine q_Ru_call (v := none) (h2 := (q_cX q_AX q_IX q_J0, 40, 26520)) rfl rfl ?_ ?_
                    · refine q_Ca_of (Nat.le_of_ble_eq_true rfl) ?_
                      refine q_Ru_seg (g2 := (4, [(0, .int v)], [.int 4096, .int v], (q_cX q_AX q_IX q_J0, 40, 26520))) 2 (fun _ _ => rfl) ?_
                      refine q_Ru_call (v := none) (h2 := (q_cX q_AX q_IX q_J0, 40, 26520)) rfl rfl ?_ ?_
                      · refine q_Ca_of (Nat.le_of_ble_eq_true rfl) ?_
                        refine q_Ru_seg (g2 := (1, [(0, .int v), (1, .int 4096)], [.int v], (q_cX q_AX q_IX q_J0, 40, 26520))) 1 (fun _ _ => rfl) ?_
                        refine q_Ru_rsF (g2 := (4, [(0, .int v), (1, .int 4096)], [], (q_cX q_AX q_IX q_J0, 40, 26520))) rfl rfl h166 ?_
                        refine q_Ru_seg (g2 := (6, [(0, .int v), (1, .int 4096)], [.int 4096, .int v], (q_cX q_AX q_IX q_J0, 40, 26520))) 2 (fun _ _ => rfl) ?_
                        refine q_Ru_rsT (g2 := (19, [(0, .int v), (1, .int 4096)], [], (q_cX q_AX q_IX q_J0, 40, 26520))) rfl rfl h168 ?_
                        exact q_Ru_ret rfl rfl
                      show q_Ru _ _ _ (7, [(0, .int v)], [], (q_cX q_AX q_IX q_J0, 40, 26520)) _
                      exact q_Ru_ret rfl rfl
                    show q_Ru _ _ _ (8, [(0, .ref 64), (1, .int a), (2, .int v), (3, .int u)], [], (q_cX q_AX q_IX q_J0, 40, 26520)) _
                    refine q_Ru_seg (g2 := (13, [(0, .ref 64), (1, .int a), (2, .int v), (3, .int u)], [.int 4096, .int 1, .int u], (q_cX q_AX q_IX q_J0, 40, 26520))) 3 (fun _ _ => rfl) ?_
                    refine q_Ru_callX (E := "java/lang/IllegalArgumentException") (h2 := (q_cX q_AX q_IX q_J0, 40 + 1, 26520 + 6)) rfl rfl ?_
                    refine q_Ca_of (Nat.le_of_ble_eq_true rfl) ?_
                    refine q_Ru_seg (g2 := (2, [(0, .int u), (1, .int 1), (2, .int 4096)], [.int 1, .int u], (q_cX q_AX q_IX q_J0, 40, 26520))) 2 (fun _ _ => rfl) ?_
                    refine q_Ru_rsT (g2 := (10, [(0, .int u), (1, .int 1), (2, .int 4096)], [], (q_cX q_AX q_IX q_J0, 40, 26520))) rfl rfl h169 ?_
                    exact q_Ru_thr rfl rfl
                  show q_Ru _ _ _ (21, [(0, .ref 64), (1, .int a), (2, .int v), (3, .int u), (4, .ref 103)], [], (q_cX q_AX q_IX q_J0, 40 + 1, 26520 + 6)) _
                  refine q_Ru_seg (g2 := (22, [(0, .ref 64), (1, .int a), (2, .int v), (3, .int u), (4, .ref 103)], [.int 2], (q_cX q_AX q_IX q_J0, 40 + 1, 26520 + 6))) 1 (fun _ _ => rfl) ?_
                  exact q_Ru_ret rfl rfl
                · refine q_Ca_of (Nat.le_of_ble_eq_true rfl) ?_
                  refine q_Ru_seg (g2 := (2, [(0, .ref 64), (1, .int a), (2, .int v), (3, .int u)], [.int a, .ref 64], (q_cM q_AM q_IM q_J0, 34, 31630))) 2 (fun _ _ => rfl) ?_
                  refine q_Ru_call (v := (some (.int 0))) (h2 := (q_cM q_AM q_IM q_J0, 34, 31630)) rfl rfl ?_ ?_
                  · refine q_Ca_of (Nat.le_of_ble_eq_true rfl) ?_
                    refine q_Ru_seg (g2 := (5, [(0, .int a)], [.int 4095, .int 0, .int a], (q_cM q_AM q_IM q_J0, 34, 31630))) 3 (fun _ _ => rfl) ?_
                    refine q_Ru_call (v := (some (.int 1))) (h2 := (q_cM q_AM q_IM q_J0, 34, 31630)) rfl rfl ?_ ?_
                    · refine q_Ca_of (Nat.le_of_ble_eq_true rfl) ?_
                      refine q_Ru_seg (g2 := (2, [(0, .int a), (1, .int 0), (2, .int 4095)], [.int 0, .int a], (q_cM q_AM q_IM q_J0, 34, 31630))) 2 (fun _ _ => rfl) ?_
                      refine q_Ru_rsF (g2 := (5, [(0, .int a), (1, .int 0), (2, .int 4095)], [], (q_cM q_AM q_IM q_J0, 34, 31630))) rfl rfl h164 ?_
                      refine q_Ru_seg (g2 := (7, [(0, .int a), (1, .int 0), (2, .int 4095)], [.int 4095, .int a], (q_cM q_AM q_IM q_J0, 34, 31630))) 2 (fun _ _ => rfl) ?_
                      refine q_Ru_rsF (g2 := (10, [(0, .int a), (1, .int 0), (2, .int 4095)], [], (q_cM q_AM q_IM q_J0, 34, 31630))) rfl rfl h170 ?_
                      refine q_Ru_seg (g2 := (15, [(0, .int a), (1, .int 0), (2, .int 4095)], [.int 1], (q_cM q_AM q_IM q_J0, 34, 31630))) 2 (fun _ _ => rfl) ?_
                      exact q_Ru_ret rfl rfl
                    show q_Ru _ _ _ (8, [(0, .int a)], [.int 1], (q_cM q_AM q_IM q_J0, 34, 31630)) _
                    refine q_Ru_seg (g2 := (16, [(0, .int a)], [.int 0], (q_cM q_AM q_IM q_J0, 34, 31630))) 2 (fun _ _ => rfl) ?_
                    exact q_Ru_ret rfl rfl
                  show q_Ru _ _ _ (5, [(0, .ref 64), (1, .int a), (2, .int v), (3, .int u)], [.int 0, .ref 64], (q_cM q_AM q_IM q_J0, 34, 31630)) _
                  refine q_Ru_seg (g2 := (9, [(0, .ref 64), (1, .int a), (2, .int v), (3, .int u)], [.int v, .ref 64], (q_cM q_AM q_IM q_J0, 34, 31630))) 2 (fun _ _ => rfl) ?_
                  refine q_Ru_call (v := (some (.int 0))) (h2 := (q_cM q_AM q_IM q_J0, 34, 31630)) rfl rfl ?_ ?_
                  · refine q_Ca_of (Nat.le_of_ble_eq_true rfl) ?_
                    refine q_Ru_seg (g2 := (5, [(0, .int v)], [.int 4095, .int 0, .int v], (q_cM q_AM q_IM q_J0, 34, 31630))) 3 (fun _ _ => rfl) ?_
                    refine q_Ru_call (v := (some (.int 1))) (h2 := (q_cM q_AM q_IM q_J0, 34, 31630)) rfl rfl ?_ ?_
                    · refine q_Ca_of (Nat.le_of_ble_eq_true rfl) ?_
                      refine q_Ru_seg (g2 := (2, [(0, .int v), (1, .int 0), (2, .int 4095)], [.int 0, .int v], (q_cM q_AM q_IM q_J0, 34, 31630))) 2 (fun _ _ => rfl) ?_
                      refine q_Ru_rsF (g2 := (5, [(0, .int v), (1, .int 0), (2, .int 4095)], [], (q_cM q_AM q_IM q_J0, 34, 31630))) rfl rfl h166 ?_
                      refine q_Ru_seg (g2 := (7, [(0, .int v), (1, .int 0), (2, .int 4095)], [.int 4095, .int v], (q_cM q_AM q_IM q_J0, 34, 31630))) 2 (fun _ _ => rfl) ?_
                      refine q_Ru_rsF (g2 := (10, [(0, .int v), (1, .int 0), (2, .int 4095)], [], (q_cM q_AM q_IM q_J0, 34, 31630))) rfl rfl h171 ?_
                      refine q_Ru_seg (g2 := (15, [(0, .int v), (1, .int 0), (2, .int 4095)], [.int 1], (q_cM q_AM q_IM q_J0, 34, 31630))) 2 (fun _ _ => rfl) ?_
                      exact q_Ru_ret rfl rfl
                    show q_Ru _ _ _ (8, [(0, .int v)], [.int 1], (q_cM q_AM q_IM q_J0, 34, 31630)) _
                    refine q_Ru_seg (g2 := (16, [(0, .int v)], [.int 0], (q_cM q_AM q_IM q_J0, 34, 31630))) 2 (fun _ _ => rfl) ?_
                    exact q_Ru_ret rfl rfl
                  show q_Ru _ _ _ (12, [(0, .ref 64), (1, .int a), (2, .int v), (3, .int u)], [.int 0, .ref 64], (q_cM q_AM q_IM q_J0, 34, 31630)) _
                  refine q_Ru_seg (g2 := (24, [(0, .ref 64), (1, .int a), (2, .int v), (3, .int u)], [.int 4096, .int 1, .int u, .ref 64], (q_cM q_AM q_IM q_J0, 34, 31630))) 4 (fun _ _ => rfl) ?_
                  refine q_Ru_call (v := (some (.int 0))) (h2 := (q_cM q_AM q_IM q_J0, 34, 31630)) rfl rfl ?_ ?_
                  · refine q_Ca_of (Nat.le_of_ble_eq_true rfl) ?_
                    refine q_Ru_seg (g2 := (2, [(0, .int u), (1, .int 1), (2, .int 4096)], [.int 1, .int u], (q_cM q_AM q_IM q_J0, 34, 31630))) 2 (fun _ _ => rfl) ?_
                    refine q_Ru_rsT (g2 := (14, [(0, .int u), (1, .int 1), (2, .int 4096)], [], (q_cM q_AM q_IM q_J0, 34, 31630))) rfl rfl h169 ?_
                    refine q_Ru_seg (g2 := (15, [(0, .int u), (1, .int 1), (2, .int 4096)], [.int 0], (q_cM q_AM q_IM q_J0, 34, 31630))) 1 (fun _ _ => rfl) ?_
                    exact q_Ru_ret rfl rfl
                  show q_Ru _ _ _ (27, [(0, .ref 64), (1, .int a), (2, .int v), (3, .int u)], [.int 0, .ref 64], (q_cM q_AM q_IM q_J0, 34, 31630)) _
                  refine q_Ru_seg (g2 := (35, [(0, .ref 64), (1, .int a), (2, .int v), (3, .int u)], [.int 2, .ref 64], (q_cM q_AM q_IM q_J0, 34, 31630))) 2 (fun _ _ => rfl) ?_
                  refine q_Ru_call (v := (some (.int 1))) (h2 := (q_cM q_AM (q_uI q_IM 0 39 2) q_J0, 34, 31630)) rfl rfl ?_ ?_
                  · refine q_Ca_of (Nat.le_of_ble_eq_true rfl) ?_
                    refine q_Ru_seg (g2 := (14, [(0, .ref 64), (1, .int 2)], [.int 1], (q_cM q_AM (q_uI q_IM 0 39 2) q_J0, 34, 31630))) 7 (fun _ _ => rfl) ?_
                    exact q_Ru_ret rfl rfl
                  show q_Ru _ _ _ (38, [(0, .ref 64), (1, .int a), (2, .int v), (3, .int u)], [.int 1], (q_cM q_AM (q_uI q_IM 0 39 2) q_J0, 34, 31630)) _
                  refine q_Ru_seg (g2 := (42, [(0, .ref 64), (1, .int a), (2, .int v), (3, .int u)], [.int 0], (q_cM q_AM (q_uI q_IM 0 39 2) q_J0, 34, 31630))) 2 (fun _ _ => rfl) ?_
                  exact q_Ru_ret rfl rfl
          | false =>
            cases h172 : decide (4096 < u) with
            | true =>
              cases h173 : decide (4095 < a) with
              | true =>
                exact q_no (q_lo2 h173) (q_hi1 h165) (by decide)
              | false =>
                cases h174 : decide (4095 < v) with
                | true =>
                  exact q_no (q_lo2 h174) (q_hi1 h168) (by decide)
                | false =>
                  refine ⟨2, 0, 0, ⟨(q_cX q_AX q_IX q_J0, 40 + 1, 26520 + 6), q_J0 39, ?_, rfl, fun h => absurd h (by decide), Nat.le_of_ble_eq_true rfl, Nat.le_of_ble_eq_true rfl⟩, ⟨(q_cM q_AM (q_uI q_IM 0 39 2) q_J0, 34, 31630), _, ?_, rfl, rfl, Nat.le_of_ble_eq_true rfl, Nat.le_of_ble_eq_true rfl⟩, fun h => absurd h (by decide)⟩
                  · refine q_Ca_of (Nat.le_of_ble_eq_true rfl) ?_
                    refine q_Ru_seg (g2 := (7, [(0, .ref 64), (1, .int a), (2, .int v), (3, .int u), (4, .ref 103)], [.int u, .int v, .int a, .ref 64, .int 0, .ref 103], (q_cX q_AX q_IX q_J0, 40, 26520))) 6 (fun _ _ => rfl) ?_
                    refine q_Ru_callH (E := "java/lang/IllegalArgumentException") (tg := 21) (i := 5) (h2 := (q_cX q_AX q_IX q_J0, 40 + 1, 26520 + 6)) rfl rfl ?_ rfl ?_
                    · refine q_Ca_of (Nat.le_of_ble_eq_true rfl) ?_
                      refine q_Ru_seg (g2 := (1, [(0, .ref 64), (1, .int a), (2, .int v), (3, .int u)], [.int a], (q_cX q_AX q_IX q_J0, 40, 26520))) 1 (fun _ _ => rfl) ?_
                      refine q_Ru_call (v := none) (h2 := (q_cX q_AX q_IX q_J0, 40, 26520)) rfl rfl ?_ ?_
                      · refine q_Ca_of (Nat.le_of_ble_eq_true rfl) ?_
                        refine q_Ru_seg (g2 := (4, [(0, .int a)], [.int 4096, .int a], (q_cX q_AX q_IX q_J0, 40, 26520))) 2 (fun _ _ => rfl) ?_
                        refine q_Ru_call (v := none) (h2 := (q_cX q_AX q_IX q_J0, 40, 26520)) rfl rfl ?_ ?_
                        · refine q_Ca_of (Nat.le_of_ble_eq_true rfl) ?_
                          refine q_Ru_seg (g2 := (1, [(0, .int a), (1, .int 4096)], [.int a], (q_cX q_AX q_IX q_J0, 40, 26520))) 1 (fun _ _ => rfl) ?_
                          refine q_Ru_rsF (g2 := (4, [(0, .int a), (1, .int 4096)], [], (q_cX q_AX q_IX q_J0, 40, 26520))) rfl rfl h164 ?_
                          refine q_Ru_seg (g2 := (6, [(0, .int a), (1, .int 4096)], [.int 4096, .int a], (q_cX q_AX q_IX q_J0, 40, 26520))) 2 (fun _ _ => rfl) ?_
                          refine q_Ru_rsT (g2 := (19, [(0, .int a), (1, .int 4096)], [], (q_cX q_AX q_IX q_J0, 40, 26520))) rfl rfl h165 ?_
                          exact q_Ru_ret rfl rfl
                        show q_Ru _ _ _ (7, [(0, .int a)], [], (q_cX q_AX q_IX q_J0, 40, 26520)) _
                        exact q_Ru_ret rfl rfl
                      show q_Ru _ _ _ (4, [(0, .ref 64), (1, .int a), (2, .int v), (3, .int u)], [], (q_cX q_AX q_IX q_J0, 40, 26520)) _
                      refine q_Ru_seg (g2 := (5, [(0, .ref 64), (1, .int a), (2, .int v), (3, .int u)], [.int v], (q_cX q_AX q_IX q_J0, 40, 26520))) 1 (fun _ _ => rfl) ?_
                      refine q_Ru_call (v := none) (h2 := (q_cX q_AX q_IX q_J0, 40, 26520)) rfl rfl ?_ ?_
                      · refine q_Ca_of (Nat.le_of_ble_eq_true rfl) ?_
                        refine q_Ru_seg (g2 := (4, [(0, .int v)], [.int 4096, .int v], (q_cX q_AX q_IX q_J0, 40, 26520))) 2 (fun _ _ => rfl) ?_
                        refine q_Ru_call (v := none) (h2 := (q_cX q_AX q_IX q_J0, 40, 26520)) rfl rfl ?_ ?_
                        · refine q_Ca_of (Nat.le_of_ble_eq_true rfl) ?_
                          refine q_Ru_seg (g2 := (1, [(0, .int v), (1, .int 4096)], [.int v], (q_cX q_AX q_IX q_J0, 40, 26520))) 1 (fun _ _ => rfl) ?_
                          refine q_Ru_rsF (g2 := (4, [(0, .int v), (1, .int 4096)], [], (q_cX q_AX q_IX q_J0, 40, 26520))) rfl rfl h166 ?_
                          refine q_Ru_seg (g2 := (6, [(0, .int v), (1, .int 4096)], [.int 4096, .int v], (q_cX q_AX q_IX q_J0, 40, 26520))) 2 (fun _ _ => rfl) ?_
                          refine q_Ru_rsT (g2 := (19, [(0, .int v), (1, .int 4096)], [], (q_cX q_AX q_IX q_J0, 40, 26520))) rfl rfl h168 ?_
                          exact q_Ru_ret rfl rfl
                        show q_Ru _ _ _ (7, [(0, .int v)], [], (q_cX q_AX q_IX q_J0, 40, 26520)) _
                        exact q_Ru_ret rfl rfl
                      show q_Ru _ _ _ (8, [(0, .ref 64), (1, .int a), (2, .int v), (3, .int u)], [], (q_cX q_AX q_IX q_J0, 40, 26520)) _
                      refine q_Ru_seg (g2 := (13, [(0, .ref 64), (1, .int a), (2, .int v), (3, .int u)], [.int 4096, .int 1, .int u], (q_cX q_AX q_IX q_J0, 40, 26520))) 3 (fun _ _ => rfl) ?_
                      refine q_Ru_callX (E := "java/lang/IllegalArgumentException") (h2 := (q_cX q_AX q_IX q_J0, 40 + 1, 26520 + 6)) rfl rfl ?_
                      refine q_Ca_of (Nat.le_of_ble_eq_true rfl) ?_
                      refine q_Ru_seg (g2 := (2, [(0, .int u), (1, .int 1), (2, .int 4096)], [.int 1, .int u], (q_cX q_AX q_IX q_J0, 40, 26520))) 2 (fun _ _ => rfl) ?_
                      refine q_Ru_rsF (g2 := (5, [(0, .int u), (1, .int 1), (2, .int 4096)], [], (q_cX q_AX q_IX q_J0, 40, 26520))) rfl rfl h169 ?_
                      refine q_Ru_seg (g2 := (7, [(0, .int u), (1, .int 1), (2, .int 4096)], [.int 4096, .int u], (q_cX q_AX q_IX q_J0, 40, 26520))) 2 (fun _ _ => rfl) ?_
                      refine q_Ru_rsF (g2 := (10, [(0, .int u), (1, .int 1), (2, .int 4096)], [], (q_cX q_AX q_IX q_J0, 40, 26520))) rfl rfl (q_d_geT h172) ?_
                      exact q_Ru_thr rfl rfl
                    show q_Ru _ _ _ (21, [(0, .ref 64), (1, .int a), (2, .int v), (3, .int u), (4, .ref 103)], [], (q_cX q_AX q_IX q_J0, 40 + 1, 26520 + 6)) _
                    refine q_Ru_seg (g2 := (22, [(0, .ref 64), (1, .int a), (2, .int v), (3, .int u), (4, .ref 103)], [.int 2], (q_cX q_AX q_IX q_J0, 40 + 1, 26520 + 6))) 1 (fun _ _ => rfl) ?_
                    exact q_Ru_ret rfl rfl
                  · refine q_Ca_of (Nat.le_of_ble_eq_true rfl) ?_
                    refine q_Ru_seg (g2 := (2, [(0, .ref 64), (1, .int a), (2, .int v), (3, .int u)], [.int a, .ref 64], (q_cM q_AM q_IM q_J0, 34, 31630))) 2 (fun _ _ => rfl) ?_
                    refine q_Ru_call (v := (some (.int 0))) (h2 := (q_cM q_AM q_IM q_J0, 34, 31630)) rfl rfl ?_ ?_
                    · refine q_Ca_of (Nat.le_of_ble_eq_true rfl) ?_
                      refine q_Ru_seg (g2 := (5, [(0, .int a)], [.int 4095, .int 0, .int a], (q_cM q_AM q_IM q_J0, 34, 31630))) 3 (fun _ _ => rfl) ?_
                      refine q_Ru_call (v := (some (.int 1))) (h2 := (q_cM q_AM q_IM q_J0, 34, 31630)) rfl rfl ?_ ?_
                      · refine q_Ca_of (Nat.le_of_ble_eq_true rfl) ?_
                        refine q_Ru_seg (g2 := (2, [(0, .int a), (1, .int 0), (2, .int 4095)], [.int 0, .int a], (q_cM q_AM q_IM q_J0, 34, 31630))) 2 (fun _ _ => rfl) ?_
                        refine q_Ru_rsF (g2 := (5, [(0, .int a), (1, .int 0), (2, .int 4095)], [], (q_cM q_AM q_IM q_J0, 34, 31630))) rfl rfl h164 ?_
                        refine q_Ru_seg (g2 := (7, [(0, .int a), (1, .int 0), (2, .int 4095)], [.int 4095, .int a], (q_cM q_AM q_IM q_J0, 34, 31630))) 2 (fun _ _ => rfl) ?_
                        refine q_Ru_rsF (g2 := (10, [(0, .int a), (1, .int 0), (2, .int 4095)], [], (q_cM q_AM q_IM q_J0, 34, 31630))) rfl rfl h173 ?_
                        refine q_Ru_seg (g2 := (15, [(0, .int a), (1, .int 0), (2, .int 4095)], [.int 1], (q_cM q_AM q_IM q_J0, 34, 31630))) 2 (fun _ _ => rfl) ?_
                        exact q_Ru_ret rfl rfl
                      show q_Ru _ _ _ (8, [(0, .int a)], [.int 1], (q_cM q_AM q_IM q_J0, 34, 31630)) _
                      refine q_Ru_seg (g2 := (16, [(0, .int a)], [.int 0], (q_cM q_AM q_IM q_J0, 34, 31630))) 2 (fun _ _ => rfl) ?_
                      exact q_Ru_ret rfl rfl
                    show q_Ru _ _ _ (5, [(0, .ref 64), (1, .int a), (2, .int v), (3, .int u)], [.int 0, .ref 64], (q_cM q_AM q_IM q_J0, 34, 31630)) _
                    refine q_Ru_seg (g2 := (9, [(0, .ref 64), (1, .int a), (2, .int v), (3, .int u)], [.int v, .ref 64], (q_cM q_AM q_IM q_J0, 34, 31630))) 2 (fun _ _ => rfl) ?_
                    refine q_Ru_call (v := (some (.int 0))) (h2 := (q_cM q_AM q_IM q_J0, 34, 31630)) rfl rfl ?_ ?_
                    · refine q_Ca_of (Nat.le_of_ble_eq_true rfl) ?_
                      refine q_Ru_seg (g2 := (5, [(0, .int v)], [.int 4095, .int 0, .int v], (q_cM q_AM q_IM q_J0, 34, 31630))) 3 (fun _ _ => rfl) ?_
                      refine q_Ru_call (v := (some (.int 1))) (h2 := (q_cM q_AM q_IM q_J0, 34, 31630)) rfl rfl ?_ ?_
                      · refine q_Ca_of (Nat.le_of_ble_eq_true rfl) ?_
                        refine q_Ru_seg (g2 := (2, [(0, .int v), (1, .int 0), (2, .int 4095)], [.int 0, .int v], (q_cM q_AM q_IM q_J0, 34, 31630))) 2 (fun _ _ => rfl) ?_
                        refine q_Ru_rsF (g2 := (5, [(0, .int v), (1, .int 0), (2, .int 4095)], [], (q_cM q_AM q_IM q_J0, 34, 31630))) rfl rfl h166 ?_
                        refine q_Ru_seg (g2 := (7, [(0, .int v), (1, .int 0), (2, .int 4095)], [.int 4095, .int v], (q_cM q_AM q_IM q_J0, 34, 31630))) 2 (fun _ _ => rfl) ?_
                        refine q_Ru_rsF (g2 := (10, [(0, .int v), (1, .int 0), (2, .int 4095)], [], (q_cM q_AM q_IM q_J0, 34, 31630))) rfl rfl h174 ?_
                        refine q_Ru_seg (g2 := (15, [(0, .int v), (1, .int 0), (2, .int 4095)], [.int 1], (q_cM q_AM q_IM q_J0, 34, 31630))) 2 (fun _ _ => rfl) ?_
                        exact q_Ru_ret rfl rfl
                      show q_Ru _ _ _ (8, [(0, .int v)], [.int 1], (q_cM q_AM q_IM q_J0, 34, 31630)) _
                      refine q_Ru_seg (g2 := (16, [(0, .int v)], [.int 0], (q_cM q_AM q_IM q_J0, 34, 31630))) 2 (fun _ _ => rfl) ?_
                      exact q_Ru_ret rfl rfl
                    show q_Ru _ _ _ (12, [(0, .ref 64), (1, .int a), (2, .int v), (3, .int u)], [.int 0, .ref 64], (q_cM q_AM q_IM q_J0, 34, 31630)) _
                    refine q_Ru_seg (g2 := (24, [(0, .ref 64), (1, .int a), (2, .int v), (3, .int u)], [.int 4096, .int 1, .int u, .ref 64], (q_cM q_AM q_IM q_J0, 34, 31630))) 4 (fun _ _ => rfl) ?_
                    refine q_Ru_call (v := (some (.int 0))) (h2 := (q_cM q_AM q_IM q_J0, 34, 31630)) rfl rfl ?_ ?_
                    · refine q_Ca_of (Nat.le_of_ble_eq_true rfl) ?_
                      refine q_Ru_seg (g2 := (2, [(0, .int u), (1, .int 1), (2, .int 4096)], [.int 1, .int u], (q_cM q_AM q_IM q_J0, 34, 31630))) 2 (fun _ _ => rfl) ?_
                      refine q_Ru_rsF (g2 := (5, [(0, .int u), (1, .int 1), (2, .int 4096)], [], (q_cM q_AM q_IM q_J0, 34, 31630))) rfl rfl h169 ?_
                      refine q_Ru_seg (g2 := (7, [(0, .int u), (1, .int 1), (2, .int 4096)], [.int 4096, .int u], (q_cM q_AM q_IM q_J0, 34, 31630))) 2 (fun _ _ => rfl) ?_
                      refine q_Ru_rsT (g2 := (14, [(0, .int u), (1, .int 1), (2, .int 4096)], [], (q_cM q_AM q_IM q_J0, 34, 31630))) rfl rfl h172 ?_
                      refine q_Ru_seg (g2 := (15, [(0, .int u), (1, .int 1), (2, .int 4096)], [.int 0], (q_cM q_AM q_IM q_J0, 34, 31630))) 1 (fun _ _ => rfl) ?_
                      exact q_Ru_ret rfl rfl
                    show q_Ru _ _ _ (27, [(0, .ref 64), (1, .int a), (2, .int v), (3, .int u)], [.int 0, .ref 64], (q_cM q_AM q_IM q_J0, 34, 31630)) _
                    refine q_Ru_seg (g2 := (35, [(0, .ref 64), (1, .int a), (2, .int v), (3, .int u)], [.int 2, .ref 64], (q_cM q_AM q_IM q_J0, 34, 31630))) 2 (fun _ _ => rfl) ?_
                    refine q_Ru_call (v := (some (.int 1))) (h2 := (q_cM q_AM (q_uI q_IM 0 39 2) q_J0, 34, 31630)) rfl rfl ?_ ?_
                    · refine q_Ca_of (Nat.le_of_ble_eq_true rfl) ?_
                      refine q_Ru_seg (g2 := (14, [(0, .ref 64), (1, .int 2)], [.int 1], (q_cM q_AM (q_uI q_IM 0 39 2) q_J0, 34, 31630))) 7 (fun _ _ => rfl) ?_
                      exact q_Ru_ret rfl rfl
                    show q_Ru _ _ _ (38, [(0, .ref 64), (1, .int a), (2, .int v), (3, .int u)], [.int 1], (q_cM q_AM (q_uI q_IM 0 39 2) q_J0, 34, 31630)) _
                    refine q_Ru_seg (g2 := (42, [(0, .ref 64), (1, .int a), (2, .int v), (3, .int u)], [.int 0], (q_cM q_AM (q_uI q_IM 0 39 2) q_J0, 34, 31630))) 2 (fun _ _ => rfl) ?_
                    exact q_Ru_ret rfl rfl
            | false =>
              cases h175 : decide (0 < u) with
              | true =>
                cases h176 : decide (4095 < a) with
                | true =>
                  exact q_no (q_lo2 h176) (q_hi1 h165) (by decide)
                | false =>
                  cases h177 : decide (4095 < v) with
                  | true =>
                    exact q_no (q_lo2 h177) (q_hi1 h168) (by decide)
                  | false =>
                    obtain ⟨f10, p10⟩ := q_p_reads0 (q_AM 33) (q_uI q_IM 0 39 0) ((a + 0) &&& 4095) (q_and_lo (a + 0) 4095) (q_and_hi (a + 0) 4095 4095)
                    obtain ⟨f11, p11⟩ := q_p_reads0 f10 (q_uI q_IM 0 39 0) ((v + 0) &&& 4095) (q_and_lo (v + 0) 4095) (q_and_hi (v + 0) 4095 4095)
                    obtain ⟨g12, p12⟩ := q_cmpM (q_uI q_IM 0 39 0) a v u (q_hi2 h172) (u.toInt - 1).toNat 1 f11 (by decide) (by have := (q_lo1 h169); have e : (1 : Int32).toInt = 1 := rfl; omega)
                    refine ⟨0, 0, 0, ⟨(q_cX q_AX q_IX (q_uA q_J0 39 (vp_updL (fun _ => 0) 0 0)), 40, 26520), (q_uA q_J0 39 (vp_updL (fun _ => 0) 0 0)) 39, ?_, rfl, fun _ => rfl, Nat.le_of_ble_eq_true rfl, Nat.le_of_ble_eq_true rfl⟩, ⟨(q_cM (q_uA q_AM 33 g12) (q_uI q_IM 0 39 0) q_J0, 34, 31630), _, ?_, rfl, rfl, Nat.le_of_ble_eq_true rfl, Nat.le_of_ble_eq_true rfl⟩, fun _ => rfl⟩
                    · refine q_Ca_of (Nat.le_of_ble_eq_true rfl) ?_
                      refine q_Ru_seg (g2 := (7, [(0, .ref 64), (1, .int a), (2, .int v), (3, .int u), (4, .ref 103)], [.int u, .int v, .int a, .ref 64, .int 0, .ref 103], (q_cX q_AX q_IX q_J0, 40, 26520))) 6 (fun _ _ => rfl) ?_
                      refine q_Ru_call (v := (some (.int 0))) (h2 := (q_cX q_AX q_IX q_J0, 40, 26520)) rfl rfl ?_ ?_
                      · refine q_Ca_of (Nat.le_of_ble_eq_true rfl) ?_
                        refine q_Ru_seg (g2 := (1, [(0, .ref 64), (1, .int a), (2, .int v), (3, .int u)], [.int a], (q_cX q_AX q_IX q_J0, 40, 26520))) 1 (fun _ _ => rfl) ?_
                        refine q_Ru_call (v := none) (h2 := (q_cX q_AX q_IX q_J0, 40, 26520)) rfl rfl ?_ ?_
                        · refine q_Ca_of (Nat.le_of_ble_eq_true rfl) ?_
                          refine q_Ru_seg (g2 := (4, [(0, .int a)], [.int 4096, .int a], (q_cX q_AX q_IX q_J0, 40, 26520))) 2 (fun _ _ => rfl) ?_
                          refine q_Ru_call (v := none) (h2 := (q_cX q_AX q_IX q_J0, 40, 26520)) rfl rfl ?_ ?_
                          · refine q_Ca_of (Nat.le_of_ble_eq_true rfl) ?_
                            refine q_Ru_seg (g2 := (1, [(0, .int a), (1, .int 4096)], [.int a], (q_cX q_AX q_IX q_J0, 40, 26520))) 1 (fun _ _ => rfl) ?_
                            refine q_Ru_rsF (g2 := (4, [(0, .int a), (1, .int 4096)], [], (q_cX q_AX q_IX q_J0, 40, 26520))) rfl rfl h164 ?_
                            refine q_Ru_seg (g2 := (6, [(0, .int a), (1, .int 4096)], [.int 4096, .int a], (q_cX q_AX q_IX q_J0, 40, 26520))) 2 (fun _ _ => rfl) ?_
                            refine q_Ru_rsT (g2 := (19, [(0, .int a), (1, .int 4096)], [], (q_cX q_AX q_IX q_J0, 40, 26520))) rfl rfl h165 ?_
                            exact q_Ru_ret rfl rfl
                          show q_Ru _ _ _ (7, [(0, .int a)], [], (q_cX q_AX q_IX q_J0, 40, 26520)) _
                          exact q_Ru_ret rfl rfl
                        show q_Ru _ _ _ (4, [(0, .ref 64), (1, .int a), (2, .int v), (3, .int u)], [], (q_cX q_AX q_IX q_J0, 40, 26520)) _
                        refine q_Ru_seg (g2 := (5, [(0, .ref 64), (1, .int a), (2, .int v), (3, .int u)], [.int v], (q_cX q_AX q_IX q_J0, 40, 26520))) 1 (fun _ _ => rfl) ?_
                        refine q_Ru_call (v := none) (h2 := (q_cX q_AX q_IX q_J0, 40, 26520)) rfl rfl ?_ ?_
                        · refine q_Ca_of (Nat.le_of_ble_eq_true rfl) ?_
                          refine q_Ru_seg (g2 := (4, [(0, .int v)], [.int 4096, .int v], (q_cX q_AX q_IX q_J0, 40, 26520))) 2 (fun _ _ => rfl) ?_
                          refine q_Ru_call (v := none) (h2 := (q_cX q_AX q_IX q_J0, 40, 26520)) rfl rfl ?_ ?_
                          · refine q_Ca_of (Nat.le_of_ble_eq_true rfl) ?_
                            refine q_Ru_seg (g2 := (1, [(0, .int v), (1, .int 4096)], [.int v], (q_cX q_AX q_IX q_J0, 40, 26520))) 1 (fun _ _ => rfl) ?_
                            refine q_Ru_rsF (g2 := (4, [(0, .int v), (1, .int 4096)], [], (q_cX q_AX q_IX q_J0, 40, 26520))) rfl rfl h166 ?_
                            refine q_Ru_seg (g2 := (6, [(0, .int v), (1, .int 4096)], [.int 4096, .int v], (q_cX q_AX q_IX q_J0, 40, 26520))) 2 (fun _ _ => rfl) ?_
                            refine q_Ru_rsT (g2 := (19, [(0, .int v), (1, .int 4096)], [], (q_cX q_AX q_IX q_J0, 40, 26520))) rfl rfl h168 ?_
                            exact q_Ru_ret rfl rfl
                          show q_Ru _ _ _ (7, [(0, .int v)], [], (q_cX q_AX q_IX q_J0, 40, 26520)) _
                          exact q_Ru_ret rfl rfl
                        show q_Ru _ _ _ (8, [(0, .ref 64), (1, .int a), (2, .int v), (3, .int u)], [], (q_cX q_AX q_IX q_J0, 40, 26520)) _
                        refine q_Ru_seg (g2 := (13, [(0, .ref 64), (1, .int a), (2, .int v), (3, .int u)], [.int 4096, .int 1, .int u], (q_cX q_AX q_IX q_J0, 40, 26520))) 3 (fun _ _ => rfl) ?_
                        refine q_Ru_call (v := none) (h2 := (q_cX q_AX q_IX q_J0, 40, 26520)) rfl rfl ?_ ?_
                        · refine q_Ca_of (Nat.le_of_ble_eq_true rfl) ?_
                          refine q_Ru_seg (g2 := (2, [(0, .int u), (1, .int 1), (2, .int 4096)], [.int 1, .int u], (q_cX q_AX q_IX q_J0, 40, 26520))) 2 (fun _ _ => rfl) ?_
                          refine q_Ru_rsF (g2 := (5, [(0, .int u), (1, .int 1), (2, .int 4096)], [], (q_cX q_AX q_IX q_J0, 40, 26520))) rfl rfl h169 ?_
                          refine q_Ru_seg (g2 := (7, [(0, .int u), (1, .int 1), (2, .int 4096)], [.int 4096, .int u], (q_cX q_AX q_IX q_J0, 40, 26520))) 2 (fun _ _ => rfl) ?_
                          refine q_Ru_rsT (g2 := (20, [(0, .int u), (1, .int 1), (2, .int 4096)], [], (q_cX q_AX q_IX q_J0, 40, 26520))) rfl rfl (q_d_geF h172) ?_
                          exact q_Ru_ret rfl rfl
                        show q_Ru _ _ _ (16, [(0, .ref 64), (1, .int a), (2, .int v), (3, .int u)], [], (q_cX q_AX q_IX q_J0, 40, 26520)) _
                        refine q_Ru_seg (g2 := (25, [(5, .int 0), (4, .int 0), (0, .ref 64), (1, .int a), (2, .int v), (3, .int u)], [.int u, .int 0], (q_cX q_AX q_IX q_J0, 40, 26520))) 6 (fun _ _ => rfl) ?_
                        refine q_Ru_rsF (g2 := (28, [(5, .int 0), (4, .int 0), (0, .ref 64), (1, .int a), (2, .int v), (3, .int u)], [], (q_cX q_AX q_IX q_J0, 40, 26520))) rfl rfl (q_d_geT h175) ?_
                        refine q_Ru_seg (g2 := (43, [(5, .int 0), (4, .int 0), (0, .ref 64), (1, .int a), (2, .int v), (3, .int u)], [.int ((a + 0) &&& 4095), .ref 66], (q_cX q_AX q_IX q_J0, 40, 26520))) 8 (fun _ _ => rfl) ?_
                        refine q_Ru_call (v := (some (.int 0))) (h2 := (q_cX q_AX q_IX q_J0, 40, 26520)) rfl rfl ?_ ?_
                        · exact (q_p_read0 ((a + 0) &&& 4095) (q_and_lo (a + 0) 4095) (q_and_hi (a + 0) 4095 4095)).le (Nat.le_of_ble_eq_true rfl)
                        show q_Ru _ _ _ (46, [(5, .int 0), (4, .int 0), (0, .ref 64), (1, .int a), (2, .int v), (3, .int u)], [.int 0], (q_cX q_AX q_IX q_J0, 40, 26520)) _
                        refine q_Ru_seg (g2 := (65, [(6, .int 0), (5, .int 0), (4, .int 0), (0, .ref 64), (1, .int a), (2, .int v), (3, .int u)], [.int ((v + 0) &&& 4095), .ref 66, .int 0], (q_cX q_AX q_IX q_J0, 40, 26520))) 10 (fun _ _ => rfl) ?_
                        refine q_Ru_call (v := (some (.int 0))) (h2 := (q_cX q_AX q_IX q_J0, 40, 26520)) rfl rfl ?_ ?_
                        · exact (q_p_read0 ((v + 0) &&& 4095) (q_and_lo (v + 0) 4095) (q_and_hi (v + 0) 4095 4095)).le (Nat.le_of_ble_eq_true rfl)
                        show q_Ru _ _ _ (68, [(6, .int 0), (5, .int 0), (4, .int 0), (0, .ref 64), (1, .int a), (2, .int v), (3, .int u)], [.int 0, .int 0], (q_cX q_AX q_IX q_J0, 40, 26520)) _
                        refine q_Ru_seg (g2 := (22, [(5, .int 1), (6, .int 0), (4, .int 0), (0, .ref 64), (1, .int a), (2, .int v), (3, .int u)], [], (q_cX q_AX q_IX q_J0, 40, 26520))) 3 (fun _ _ => rfl) ?_
                        exact q_Ru_le (Nat.le_of_ble_eq_true rfl) (q_cmpX a v u (q_hi2 h172) (u.toInt - 1).toNat 1 (by decide) (by have := (q_lo1 h169); have e : (1 : Int32).toInt = 1 := rfl; omega))
                      show q_Ru _ _ _ (10, [(0, .ref 64), (1, .int a), (2, .int v), (3, .int u), (4, .ref 103)], [.int 0, .int 0, .ref 103], (q_cX q_AX q_IX q_J0, 40, 26520)) _
                      refine q_Ru_seg (g2 := (24, [(0, .ref 64), (1, .int a), (2, .int v), (3, .int u), (4, .ref 103)], [.int 0], (q_cX q_AX q_IX (q_uA q_J0 39 (vp_updL (fun _ => 0) 0 0)), 40, 26520))) 4 (fun _ _ => rfl) ?_
                      exact q_Ru_ret rfl rfl
                    · refine q_Ca_of (Nat.le_of_ble_eq_true rfl) ?_
                      refine q_Ru_seg (g2 := (2, [(0, .ref 64), (1, .int a), (2, .int v), (3, .int u)], [.int a, .ref 64], (q_cM q_AM q_IM q_J0, 34, 31630))) 2 (fun _ _ => rfl) ?_
                      refine q_Ru_call (v := (some (.int 0))) (h2 := (q_cM q_AM q_IM q_J0, 34, 31630)) rfl rfl ?_ ?_
                      · refine q_Ca_of (Nat.le_of_ble_eq_true rfl) ?_
                        refine q_Ru_seg (g2 := (5, [(0, .int a)], [.int 4095, .int 0, .int a], (q_cM q_AM q_IM q_J0, 34, 31630))) 3 (fun _ _ => rfl) ?_
                        refine q_Ru_call (v := (some (.int 1))) (h2 := (q_cM q_AM q_IM q_J0, 34, 31630)) rfl rfl ?_ ?_
                        · refine q_Ca_of (Nat.le_of_ble_eq_true rfl) ?_
                          refine q_Ru_seg (g2 := (2, [(0, .int a), (1, .int 0), (2, .int 4095)], [.int 0, .int a], (q_cM q_AM q_IM q_J0, 34, 31630))) 2 (fun _ _ => rfl) ?_
                          refine q_Ru_rsF (g2 := (5, [(0, .int a), (1, .int 0), (2, .int 4095)], [], (q_cM q_AM q_IM q_J0, 34, 31630))) rfl rfl h164 ?_
                          refine q_Ru_seg (g2 := (7, [(0, .int a), (1, .int 0), (2, .int 4095)], [.int 4095, .int a], (q_cM q_AM q_IM q_J0, 34, 31630))) 2 (fun _ _ => rfl) ?_
                          refine q_Ru_rsF (g2 := (10, [(0, .int a), (1, .int 0), (2, .int 4095)], [], (q_cM q_AM q_IM q_J0, 34, 31630))) rfl rfl h176 ?_
                          refine q_Ru_seg (g2 := (15, [(0, .int a), (1, .int 0), (2, .int 4095)], [.int 1], (q_cM q_AM q_IM q_J0, 34, 31630))) 2 (fun _ _ => rfl) ?_
                          exact q_Ru_ret rfl rfl
                        show q_Ru _ _ _ (8, [(0, .int a)], [.int 1], (q_cM q_AM q_IM q_J0, 34, 31630)) _
                        refine q_Ru_seg (g2 := (16, [(0, .int a)], [.int 0], (q_cM q_AM q_IM q_J0, 34, 31630))) 2 (fun _ _ => rfl) ?_
                        exact q_Ru_ret rfl rfl
                      show q_Ru _ _ _ (5, [(0, .ref 64), (1, .int a), (2, .int v), (3, .int u)], [.int 0, .ref 64], (q_cM q_AM q_IM q_J0, 34, 31630)) _
                      refine q_Ru_seg (g2 := (9, [(0, .ref 64), (1, .int a), (2, .int v), (3, .int u)], [.int v, .ref 64], (q_cM q_AM q_IM q_J0, 34, 31630))) 2 (fun _ _ => rfl) ?_
                      refine q_Ru_call (v := (some (.int 0))) (h2 := (q_cM q_AM q_IM q_J0, 34, 31630)) rfl rfl ?_ ?_
                      · refine q_Ca_of (Nat.le_of_ble_eq_true rfl) ?_
                        refine q_Ru_seg (g2 := (5, [(0, .int v)], [.int 4095, .int 0, .int v], (q_cM q_AM q_IM q_J0, 34, 31630))) 3 (fun _ _ => rfl) ?_
                        refine q_Ru_call (v := (some (.int 1))) (h2 := (q_cM q_AM q_IM q_J0, 34, 31630)) rfl rfl ?_ ?_
                        · refine q_Ca_of (Nat.le_of_ble_eq_true rfl) ?_
                          refine q_Ru_seg (g2 := (2, [(0, .int v), (1, .int 0), (2, .int 4095)], [.int 0, .int v], (q_cM q_AM q_IM q_J0, 34, 31630))) 2 (fun _ _ => rfl) ?_
                          refine q_Ru_rsF (g2 := (5, [(0, .int v), (1, .int 0), (2, .int 4095)], [], (q_cM q_AM q_IM q_J0, 34, 31630))) rfl rfl h166 ?_
                          refine q_Ru_seg (g2 := (7, [(0, .int v), (1, .int 0), (2, .int 4095)], [.int 4095, .int v], (q_cM q_AM q_IM q_J0, 34, 31630))) 2 (fun _ _ => rfl) ?_
                          refine q_Ru_rsF (g2 := (10, [(0, .int v), (1, .int 0), (2, .int 4095)], [], (q_cM q_AM q_IM q_J0, 34, 31630))) rfl rfl h177 ?_
                          refine q_Ru_seg (g2 := (15, [(0, .int v), (1, .int 0), (2, .int 4095)], [.int 1], (q_cM q_AM q_IM q_J0, 34, 31630))) 2 (fun _ _ => rfl) ?_
                          exact q_Ru_ret rfl rfl
                        show q_Ru _ _ _ (8, [(0, .int v)], [.int 1], (q_cM q_AM q_IM q_J0, 34, 31630)) _
                        refine q_Ru_seg (g2 := (16, [(0, .int v)], [.int 0], (q_cM q_AM q_IM q_J0, 34, 31630))) 2 (fun _ _ => rfl) ?_
                        exact q_Ru_ret rfl rfl
                      show q_Ru _ _ _ (12, [(0, .ref 64), (1, .int a), (2, .int v), (3, .int u)], [.int 0, .ref 64], (q_cM q_AM q_IM q_J0, 34, 31630)) _
                      refine q_Ru_seg (g2 := (24, [(0, .ref 64), (1, .int a), (2, .int v), (3, .int u)], [.int 4096, .int 1, .int u, .ref 64], (q_cM q_AM q_IM q_J0, 34, 31630))) 4 (fun _ _ => rfl) ?_
                      refine q_Ru_call (v := (some (.int 1))) (h2 := (q_cM q_AM q_IM q_J0, 34, 31630)) rfl rfl ?_ ?_
                      · refine q_Ca_of (Nat.le_of_ble_eq_true rfl) ?_
                        refine q_Ru_seg (g2 := (2, [(0, .int u), (1, .int 1), (2, .int 4096)], [.int 1, .int u], (q_cM q_AM q_IM q_J0, 34, 31630))) 2 (fun _ _ => rfl) ?_
                        refine q_Ru_rsF (g2 := (5, [(0, .int u), (1, .int 1), (2, .int 4096)], [], (q_cM q_AM q_IM q_J0, 34, 31630))) rfl rfl h169 ?_
                        refine q_Ru_seg (g2 := (7, [(0, .int u), (1, .int 1), (2, .int 4096)], [.int 4096, .int u], (q_cM q_AM q_IM q_J0, 34, 31630))) 2 (fun _ _ => rfl) ?_
                        refine q_Ru_rsF (g2 := (10, [(0, .int u), (1, .int 1), (2, .int 4096)], [], (q_cM q_AM q_IM q_J0, 34, 31630))) rfl rfl h172 ?_
                        refine q_Ru_seg (g2 := (15, [(0, .int u), (1, .int 1), (2, .int 4096)], [.int 1], (q_cM q_AM q_IM q_J0, 34, 31630))) 2 (fun _ _ => rfl) ?_
                        exact q_Ru_ret rfl rfl
                      show q_Ru _ _ _ (27, [(0, .ref 64), (1, .int a), (2, .int v), (3, .int u)], [.int 1, .ref 64], (q_cM q_AM q_IM q_J0, 34, 31630)) _
                      refine q_Ru_seg (g2 := (35, [(0, .ref 64), (1, .int a), (2, .int v), (3, .int u)], [.int 0, .ref 64], (q_cM q_AM q_IM q_J0, 34, 31630))) 3 (fun _ _ => rfl) ?_
                      refine q_Ru_call (v := (some (.int 0))) (h2 := (q_cM q_AM (q_uI q_IM 0 39 0) q_J0, 34, 31630)) rfl rfl ?_ ?_
                      · refine q_Ca_of (Nat.le_of_ble_eq_true rfl) ?_
                        refine q_Ru_seg (g2 := (14, [(0, .ref 64), (1, .int 0)], [.int 0], (q_cM q_AM (q_uI q_IM 0 39 0) q_J0, 34, 31630))) 6 (fun _ _ => rfl) ?_
                        exact q_Ru_ret rfl rfl
                      show q_Ru _ _ _ (38, [(0, .ref 64), (1, .int a), (2, .int v), (3, .int u)], [.int 0], (q_cM q_AM (q_uI q_IM 0 39 0) q_J0, 34, 31630)) _
                      refine q_Ru_seg (g2 := (52, [(5, .int 0), (4, .int 0), (0, .ref 64), (1, .int a), (2, .int v), (3, .int u)], [.int u, .int 0], (q_cM q_AM (q_uI q_IM 0 39 0) q_J0, 34, 31630))) 7 (fun _ _ => rfl) ?_
                      refine q_Ru_rsF (g2 := (55, [(5, .int 0), (4, .int 0), (0, .ref 64), (1, .int a), (2, .int v), (3, .int u)], [], (q_cM q_AM (q_uI q_IM 0 39 0) q_J0, 34, 31630))) rfl rfl (q_d_geT h175) ?_
                      refine q_Ru_seg (g2 := (62, [(5, .int 0), (4, .int 0), (0, .ref 64), (1, .int a), (2, .int v), (3, .int u)], [.int (a + 0), .ref 64, .int 0], (q_cM q_AM (q_uI q_IM 0 39 0) q_J0, 34, 31630))) 5 (fun _ _ => rfl) ?_
                      refine q_Ru_call (v := (some (.int ((a + 0) &&& 4095)))) (h2 := (q_cM q_AM (q_uI q_IM 0 39 0) q_J0, 34, 31630)) rfl rfl ?_ ?_
                      · refine q_Ca_of (Nat.le_of_ble_eq_true rfl) ?_
                        refine q_Ru_seg (g2 := (5, [(0, .int (a + 0))], [.int ((a + 0) &&& 4095)], (q_cM q_AM (q_uI q_IM 0 39 0) q_J0, 34, 31630))) 3 (fun _ _ => rfl) ?_
                        exact q_Ru_ret rfl rfl
                      show q_Ru _ _ _ (65, [(5, .int 0), (4, .int 0), (0, .ref 64), (1, .int a), (2, .int v), (3, .int u)], [.int ((a + 0) &&& 4095), .ref 64, .int 0], (q_cM q_AM (q_uI q_IM 0 39 0) q_J0, 34, 31630)) _
                      refine q_Ru_call (v := (some (.int 0))) (h2 := (q_cM (q_uA q_AM 33 f10) (q_uI q_IM 0 39 0) q_J0, 34, 31630)) rfl rfl ?_ ?_
                      · exact p10.le (Nat.le_of_ble_eq_true rfl)
                      show q_Ru _ _ _ (68, [(5, .int 0), (4, .int 0), (0, .ref 64), (1, .int a), (2, .int v), (3, .int u)], [.int 0, .int 0], (q_cM (q_uA q_AM 33 f10) (q_uI q_IM 0 39 0) q_J0, 34, 31630)) _
                      refine q_Ru_seg (g2 := (73, [(5, .int 0), (4, .int 0), (0, .ref 64), (1, .int a), (2, .int v), (3, .int u)], [.int (v + 0), .ref 64, .int 0, .int 0], (q_cM (q_uA q_AM 33 f10) (q_uI q_IM 0 39 0) q_J0, 34, 31630))) 4 (fun _ _ => rfl) ?_
                      refine q_Ru_call (v := (some (.int ((v + 0) &&& 4095)))) (h2 := (q_cM (q_uA q_AM 33 f10) (q_uI q_IM 0 39 0) q_J0, 34, 31630)) rfl rfl ?_ ?_
                      · refine q_Ca_of (Nat.le_of_ble_eq_true rfl) ?_
                        refine q_Ru_seg (g2 := (5, [(0, .int (v + 0))], [.int ((v + 0) &&& 4095)], (q_cM (q_uA q_AM 33 f10) (q_uI q_IM 0 39 0) q_J0, 34, 31630))) 3 (fun _ _ => rfl) ?_
                        exact q_Ru_ret rfl rfl
                      show q_Ru _ _ _ (76, [(5, .int 0), (4, .int 0), (0, .ref 64), (1, .int a), (2, .int v), (3, .int u)], [.int ((v + 0) &&& 4095), .ref 64, .int 0, .int 0], (q_cM (q_uA q_AM 33 f10) (q_uI q_IM 0 39 0) q_J0, 34, 31630)) _
                      refine q_Ru_call (v := (some (.int 0))) (h2 := (q_cM (q_uA q_AM 33 f11) (q_uI q_IM 0 39 0) q_J0, 34, 31630)) rfl rfl ?_ ?_
                      · exact p11.le (Nat.le_of_ble_eq_true rfl)
                      show q_Ru _ _ _ (79, [(5, .int 0), (4, .int 0), (0, .ref 64), (1, .int a), (2, .int v), (3, .int u)], [.int 0, .int 0, .int 0], (q_cM (q_uA q_AM 33 f11) (q_uI q_IM 0 39 0) q_J0, 34, 31630)) _
                      refine q_Ru_seg (g2 := (49, [(5, .int 1), (4, .int 0), (0, .ref 64), (1, .int a), (2, .int v), (3, .int u)], [], (q_cM (q_uA q_AM 33 f11) (q_uI q_IM 0 39 0) q_J0, 34, 31630))) 7 (fun _ _ => rfl) ?_
                      exact q_Ru_le (Nat.le_of_ble_eq_true rfl) p12
              | false =>
                exact q_no (q_lo1 h169) (q_hi2 h175) (by decide)
        | false =>
          cases h178 : decide (4095 < a) with
          | true =>
            exact q_no (q_lo2 h178) (q_hi1 h165) (by decide)
          | false =>
            cases h179 : decide (4095 < v) with
            | true =>
              refine ⟨1, 0, 0, ⟨(q_cX q_AX q_IX q_J0, 40 + 1, 26520 + 6), q_J0 39, ?_, rfl, fun h => absurd h (by decide), Nat.le_of_ble_eq_true rfl, Nat.le_of_ble_eq_true rfl⟩, ⟨(q_cM q_AM (q_uI q_IM 0 39 1) q_J0, 34, 31630), _, ?_, rfl, rfl, Nat.le_of_ble_eq_true rfl, Nat.le_of_ble_eq_true rfl⟩, fun h => absurd h (by decide)⟩
              · refine q_Ca_of (Nat.le_of_ble_eq_true rfl) ?_
                refine q_Ru_seg (g2 := (7, [(0, .ref 64), (1, .int a), (2, .int v), (3, .int u), (4, .ref 103)], [.int u, .int v, .int a, .ref 64, .int 0, .ref 103], (q_cX q_AX q_IX q_J0, 40, 26520))) 6 (fun _ _ => rfl) ?_
                refine q_Ru_callH (E := "java/lang/IndexOutOfBoundsException") (tg := 17) (i := 5) (h2 := (q_cX q_AX q_IX q_J0, 40 + 1, 26520 + 6)) rfl rfl ?_ rfl ?_
                · refine q_Ca_of (Nat.le_of_ble_eq_true rfl) ?_
                  refine q_Ru_seg (g2 := (1, [(0, .ref 64), (1, .int a), (2, .int v), (3, .int u)], [.int a], (q_cX q_AX q_IX q_J0, 40, 26520))) 1 (fun _ _ => rfl) ?_
                  refine q_Ru_call (v := none) (h2 := (q_cX q_AX q_IX q_J0, 40, 26520)) rfl rfl ?_ ?_
                  · refine q_Ca_of (Nat.le_of_ble_eq_true rfl) ?_
                    refine q_Ru_seg (g2 := (4, [(0, .int a)], [.int 4096, .int a], (q_cX q_AX q_IX q_J0, 40, 26520))) 2 (fun _ _ => rfl) ?_
                    refine q_Ru_call (v := none) (h2 := (q_cX q_AX q_IX q_J0, 40, 26520)) rfl rfl ?_ ?_
                    · refine q_Ca_of (Nat.le_of_ble_eq_true rfl) ?_
                      refine q_Ru_seg (g2 := (1, [(0, .int a), (1, .int 4096)], [.int a], (q_cX q_AX q_IX q_J0, 40, 26520))) 1 (fun _ _ => rfl) ?_
                      refine q_Ru_rsF (g2 := (4, [(0, .int a), (1, .int 4096)], [], (q_cX q_AX q_IX q_J0, 40, 26520))) rfl rfl h164 ?_
                      refine q_Ru_seg (g2 := (6, [(0, .int a), (1, .int 4096)], [.int 4096, .int a], (q_cX q_AX q_IX q_J0, 40, 26520))) 2 (fun _ _ => rfl) ?_
                      refine q_Ru_rsT (g2 := (19, [(0, .int a), (1, .int 4096)], [], (q_cX q_AX q_IX q_J0, 40, 26520))) rfl rfl h165 ?_
                      exact q_Ru_ret rfl rfl
                    show q_Ru _ _ _ (7, [(0, .int a)], [], (q_cX q_AX q_IX q_J0, 40, 26520)) _
                    exact q_Ru_ret rfl rfl
                  show q_Ru _ _ _ (4, [(0, .ref 64), (1, .int a), (2, .int v), (3, .int u)], [], (q_cX q_AX q_IX q_J0, 40, 26520)) _
                  refine q_Ru_seg (g2 := (5, [(0, .ref 64), (1, .int a), (2, .int v), (3, .int u)], [.int v], (q_cX q_AX q_IX q_J0, 40, 26520))) 1 (fun _ _ => rfl) ?_
                  refine q_Ru_callX (E := "java/lang/IndexOutOfBoundsException") (h2 := (q_cX q_AX q_IX q_J0, 40 + 1, 26520 + 6)) rfl rfl ?_
                  refine q_Ca_of (Nat.le_of_ble_eq_true rfl) ?_
                  refine q_Ru_seg (g2 := (4, [(0, .int v)], [.int 4096, .int v], (q_cX q_AX q_IX q_J0, 40, 26520))) 2 (fun _ _ => rfl) ?_
                  refine q_Ru_callX (E := "java/lang/IndexOutOfBoundsException") (h2 := (q_cX q_AX q_IX q_J0, 40 + 1, 26520 + 6)) rfl rfl ?_
                  refine q_Ca_of (Nat.le_of_ble_eq_true rfl) ?_
                  refine q_Ru_seg (g2 := (1, [(0, .int v), (1, .int 4096)], [.int v], (q_cX q_AX q_IX q_J0, 40, 26520))) 1 (fun _ _ => rfl) ?_
                  refine q_Ru_rsF (g2 := (4, [(0, .int v), (1, .int 4096)], [], (q_cX q_AX q_IX q_J0, 40, 26520))) rfl rfl h166 ?_
                  refine q_Ru_seg (g2 := (6, [(0, .int v), (1, .int 4096)], [.int 4096, .int v], (q_cX q_AX q_IX q_J0, 40, 26520))) 2 (fun _ _ => rfl) ?_
                  refine q_Ru_rsF (g2 := (9, [(0, .int v), (1, .int 4096)], [], (q_cX q_AX q_IX q_J0, 40, 26520))) rfl rfl h168 ?_
                  exact q_Ru_thr rfl rfl
                show q_Ru _ _ _ (17, [(0, .ref 64), (1, .int a), (2, .int v), (3, .int u), (4, .ref 103)], [], (q_cX q_AX q_IX q_J0, 40 + 1, 26520 + 6)) _
                refine q_Ru_seg (g2 := (18, [(0, .ref 64), (1, .int a), (2, .int v), (3, .int u), (4, .ref 103)], [.int 1], (q_cX q_AX q_IX q_J0, 40 + 1, 26520 + 6))) 1 (fun _ _ => rfl) ?_
                exact q_Ru_ret rfl rfl
              · refine q_Ca_of (Nat.le_of_ble_eq_true rfl) ?_
                refine q_Ru_seg (g2 := (2, [(0, .ref 64), (1, .int a), (2, .int v), (3, .int u)], [.int a, .ref 64], (q_cM q_AM q_IM q_J0, 34, 31630))) 2 (fun _ _ => rfl) ?_
                refine q_Ru_call (v := (some (.int 0))) (h2 := (q_cM q_AM q_IM q_J0, 34, 31630)) rfl rfl ?_ ?_
                · refine q_Ca_of (Nat.le_of_ble_eq_true rfl) ?_
                  refine q_Ru_seg (g2 := (5, [(0, .int a)], [.int 4095, .int 0, .int a], (q_cM q_AM q_IM q_J0, 34, 31630))) 3 (fun _ _ => rfl) ?_
                  refine q_Ru_call (v := (some (.int 1))) (h2 := (q_cM q_AM q_IM q_J0, 34, 31630)) rfl rfl ?_ ?_
                  · refine q_Ca_of (Nat.le_of_ble_eq_true rfl) ?_
                    refine q_Ru_seg (g2 := (2, [(0, .int a), (1, .int 0), (2, .int 4095)], [.int 0, .int a], (q_cM q_AM q_IM q_J0, 34, 31630))) 2 (fun _ _ => rfl) ?_
                    refine q_Ru_rsF (g2 := (5, [(0, .int a), (1, .int 0), (2, .int 4095)], [], (q_cM q_AM q_IM q_J0, 34, 31630))) rfl rfl h164 ?_
                    refine q_Ru_seg (g2 := (7, [(0, .int a), (1, .int 0), (2, .int 4095)], [.int 4095, .int a], (q_cM q_AM q_IM q_J0, 34, 31630))) 2 (fun _ _ => rfl) ?_
                    refine q_Ru_rsF (g2 := (10, [(0, .int a), (1, .int 0), (2, .int 4095)], [], (q_cM q_AM q_IM q_J0, 34, 31630))) rfl rfl h178 ?_
                    refine q_Ru_seg (g2 := (15, [(0, .int a), (1, .int 0), (2, .int 4095)], [.int 1], (q_cM q_AM q_IM q_J0, 34, 31630))) 2 (fun _ _ => rfl) ?_
                    exact q_Ru_ret rfl rfl
                  show q_Ru _ _ _ (8, [(0, .int a)], [.int 1], (q_cM q_AM q_IM q_J0, 34, 31630)) _
                  refine q_Ru_seg (g2 := (16, [(0, .int a)], [.int 0], (q_cM q_AM q_IM q_J0, 34, 31630))) 2 (fun _ _ => rfl) ?_
                  exact q_Ru_ret rfl rfl
                show q_Ru _ _ _ (5, [(0, .ref 64), (1, .int a), (2, .int v), (3, .int u)], [.int 0, .ref 64], (q_cM q_AM q_IM q_J0, 34, 31630)) _
                refine q_Ru_seg (g2 := (9, [(0, .ref 64), (1, .int a), (2, .int v), (3, .int u)], [.int v, .ref 64], (q_cM q_AM q_IM q_J0, 34, 31630))) 2 (fun _ _ => rfl) ?_
                refine q_Ru_call (v := (some (.int 1))) (h2 := (q_cM q_AM q_IM q_J0, 34, 31630)) rfl rfl ?_ ?_
                · refine q_Ca_of (Nat.le_of_ble_eq_true rfl) ?_
                  refine q_Ru_seg (g2 := (5, [(0, .int v)], [.int 4095, .int 0, .int v], (q_cM q_AM q_IM q_J0, 34, 31630))) 3 (fun _ _ => rfl) ?_
                  refine q_Ru_call (v := (some (.int 0))) (h2 := (q_cM q_AM q_IM q_J0, 34, 31630)) rfl rfl ?_ ?_
                  · refine q_Ca_of (Nat.le_of_ble_eq_true rfl) ?_
                    refine q_Ru_seg (g2 := (2, [(0, .int v), (1, .int 0), (2, .int 4095)], [.int 0, .int v], (q_cM q_AM q_IM q_J0, 34, 31630))) 2 (fun _ _ => rfl) ?_
                    refine q_Ru_rsF (g2 := (5, [(0, .int v), (1, .int 0), (2, .int 4095)], [], (q_cM q_AM q_IM q_J0, 34, 31630))) rfl rfl h166 ?_
                    refine q_Ru_seg (g2 := (7, [(0, .int v), (1, .int 0), (2, .int 4095)], [.int 4095, .int v], (q_cM q_AM q_IM q_J0, 34, 31630))) 2 (fun _ _ => rfl) ?_
                    refine q_Ru_rsT (g2 := (14, [(0, .int v), (1, .int 0), (2, .int 4095)], [], (q_cM q_AM q_IM q_J0, 34, 31630))) rfl rfl h179 ?_
                    refine q_Ru_seg (g2 := (15, [(0, .int v), (1, .int 0), (2, .int 4095)], [.int 0], (q_cM q_AM q_IM q_J0, 34, 31630))) 1 (fun _ _ => rfl) ?_
                    exact q_Ru_ret rfl rfl
                  show q_Ru _ _ _ (8, [(0, .int v)], [.int 0], (q_cM q_AM q_IM q_J0, 34, 31630)) _
                  refine q_Ru_seg (g2 := (16, [(0, .int v)], [.int 1], (q_cM q_AM q_IM q_J0, 34, 31630))) 3 (fun _ _ => rfl) ?_
                  exact q_Ru_ret rfl rfl
                show q_Ru _ _ _ (12, [(0, .ref 64), (1, .int a), (2, .int v), (3, .int u)], [.int 1, .ref 64], (q_cM q_AM q_IM q_J0, 34, 31630)) _
                refine q_Ru_seg (g2 := (35, [(0, .ref 64), (1, .int a), (2, .int v), (3, .int u)], [.int 1, .ref 64], (q_cM q_AM q_IM q_J0, 34, 31630))) 3 (fun _ _ => rfl) ?_
                refine q_Ru_call (v := (some (.int 1))) (h2 := (q_cM q_AM (q_uI q_IM 0 39 1) q_J0, 34, 31630)) rfl rfl ?_ ?_
                · refine q_Ca_of (Nat.le_of_ble_eq_true rfl) ?_
                  refine q_Ru_seg (g2 := (14, [(0, .ref 64), (1, .int 1)], [.int 1], (q_cM q_AM (q_uI q_IM 0 39 1) q_J0, 34, 31630))) 7 (fun _ _ => rfl) ?_
                  exact q_Ru_ret rfl rfl
                show q_Ru _ _ _ (38, [(0, .ref 64), (1, .int a), (2, .int v), (3, .int u)], [.int 1], (q_cM q_AM (q_uI q_IM 0 39 1) q_J0, 34, 31630)) _
                refine q_Ru_seg (g2 := (42, [(0, .ref 64), (1, .int a), (2, .int v), (3, .int u)], [.int 0], (q_cM q_AM (q_uI q_IM 0 39 1) q_J0, 34, 31630))) 2 (fun _ _ => rfl) ?_
                exact q_Ru_ret rfl rfl
            | false =>
              exact q_no (q_lo1 h168) (q_hi2 h179) (by decide)
    | false =>
      cases h180 : decide (4095 < a) with
      | true =>
        refine ⟨1, 0, 0, ⟨(q_cX q_AX q_IX q_J0, 40 + 1, 26520 + 6), q_J0 39, ?_, rfl, fun h => absurd h (by decide), Nat.le_of_ble_eq_true rfl, Nat.le_of_ble_eq_true rfl⟩, ⟨(q_cM q_AM (q_uI q_IM 0 39 1) q_J0, 34, 31630), _, ?_, rfl, rfl, Nat.le_of_ble_eq_true rfl, Nat.le_of_ble_eq_true rfl⟩, fun h => absurd h (by decide)⟩
        · refine q_Ca_of (Nat.le_of_ble_eq_true rfl) ?_
          refine q_Ru_seg (g2 := (7, [(0, .ref 64), (1, .int a), (2, .int v), (3, .int u), (4, .ref 103)], [.int u, .int v, .int a, .ref 64, .int 0, .ref 103], (q_cX q_AX q_IX q_J0, 40, 26520))) 6 (fun _ _ => rfl) ?_
          refine q_Ru_callH (E := "java/lang/IndexOutOfBoundsException") (tg := 17) (i := 5) (h2 := (q_cX q_AX q_IX q_J0, 40 + 1, 26520 + 6)) rfl rfl ?_ rfl ?_
          · refine q_Ca_of (Nat.le_of_ble_eq_true rfl) ?_
            refine q_Ru_seg (g2 := (1, [(0, .ref 64), (1, .int a), (2, .int v), (3, .int u)], [.int a], (q_cX q_AX q_IX q_J0, 40, 26520))) 1 (fun _ _ => rfl) ?_
            refine q_Ru_callX (E := "java/lang/IndexOutOfBoundsException") (h2 := (q_cX q_AX q_IX q_J0, 40 + 1, 26520 + 6)) rfl rfl ?_
            refine q_Ca_of (Nat.le_of_ble_eq_true rfl) ?_
            refine q_Ru_seg (g2 := (4, [(0, .int a)], [.int 4096, .int a], (q_cX q_AX q_IX q_J0, 40, 26520))) 2 (fun _ _ => rfl) ?_
            refine q_Ru_callX (E := "java/lang/IndexOutOfBoundsException") (h2 := (q_cX q_AX q_IX q_J0, 40 + 1, 26520 + 6)) rfl rfl ?_
            refine q_Ca_of (Nat.le_of_ble_eq_true rfl) ?_
            refine q_Ru_seg (g2 := (1, [(0, .int a), (1, .int 4096)], [.int a], (q_cX q_AX q_IX q_J0, 40, 26520))) 1 (fun _ _ => rfl) ?_
            refine q_Ru_rsF (g2 := (4, [(0, .int a), (1, .int 4096)], [], (q_cX q_AX q_IX q_J0, 40, 26520))) rfl rfl h164 ?_
            refine q_Ru_seg (g2 := (6, [(0, .int a), (1, .int 4096)], [.int 4096, .int a], (q_cX q_AX q_IX q_J0, 40, 26520))) 2 (fun _ _ => rfl) ?_
            refine q_Ru_rsF (g2 := (9, [(0, .int a), (1, .int 4096)], [], (q_cX q_AX q_IX q_J0, 40, 26520))) rfl rfl h165 ?_
            exact q_Ru_thr rfl rfl
          show q_Ru _ _ _ (17, [(0, .ref 64), (1, .int a), (2, .int v), (3, .int u), (4, .ref 103)], [], (q_cX q_AX q_IX q_J0, 40 + 1, 26520 + 6)) _
          refine q_Ru_seg (g2 := (18, [(0, .ref 64), (1, .int a), (2, .int v), (3, .int u), (4, .ref 103)], [.int 1], (q_cX q_AX q_IX q_J0, 40 + 1, 26520 + 6))) 1 (fun _ _ => rfl) ?_
          exact q_Ru_ret rfl rfl
        · refine q_Ca_of (Nat.le_of_ble_eq_true rfl) ?_
          refine q_Ru_seg (g2 := (2, [(0, .ref 64), (1, .int a), (2, .int v), (3, .int u)], [.int a, .ref 64], (q_cM q_AM q_IM q_J0, 34, 31630))) 2 (fun _ _ => rfl) ?_
          refine q_Ru_call (v := (some (.int 1))) (h2 := (q_cM q_AM q_IM q_J0, 34, 31630)) rfl rfl ?_ ?_
          · refine q_Ca_of (Nat.le_of_ble_eq_true rfl) ?_
            refine q_Ru_seg (g2 := (5, [(0, .int a)], [.int 4095, .int 0, .int a], (q_cM q_AM q_IM q_J0, 34, 31630))) 3 (fun _ _ => rfl) ?_
            refine q_Ru_call (v := (some (.int 0))) (h2 := (q_cM q_AM q_IM q_J0, 34, 31630)) rfl rfl ?_ ?_
            · refine q_Ca_of (Nat.le_of_ble_eq_true rfl) ?_
              refine q_Ru_seg (g2 := (2, [(0, .int a), (1, .int 0), (2, .int 4095)], [.int 0, .int a], (q_cM q_AM q_IM q_J0, 34, 31630))) 2 (fun _ _ => rfl) ?_
              refine q_Ru_rsF (g2 := (5, [(0, .int a), (1, .int 0), (2, .int 4095)], [], (q_cM q_AM q_IM q_J0, 34, 31630))) rfl rfl h164 ?_
              refine q_Ru_seg (g2 := (7, [(0, .int a), (1, .int 0), (2, .int 4095)], [.int 4095, .int a], (q_cM q_AM q_IM q_J0, 34, 31630))) 2 (fun _ _ => rfl) ?_
              refine q_Ru_rsT (g2 := (14, [(0, .int a), (1, .int 0), (2, .int 4095)], [], (q_cM q_AM q_IM q_J0, 34, 31630))) rfl rfl h180 ?_
              refine q_Ru_seg (g2 := (15, [(0, .int a), (1, .int 0), (2, .int 4095)], [.int 0], (q_cM q_AM q_IM q_J0, 34, 31630))) 1 (fun _ _ => rfl) ?_
              exact q_Ru_ret rfl rfl
            show q_Ru _ _ _ (8, [(0, .int a)], [.int 0], (q_cM q_AM q_IM q_J0, 34, 31630)) _
            refine q_Ru_seg (g2 := (16, [(0, .int a)], [.int 1], (q_cM q_AM q_IM q_J0, 34, 31630))) 3 (fun _ _ => rfl) ?_
            exact q_Ru_ret rfl rfl
          show q_Ru _ _ _ (5, [(0, .ref 64), (1, .int a), (2, .int v), (3, .int u)], [.int 1, .ref 64], (q_cM q_AM q_IM q_J0, 34, 31630)) _
          refine q_Ru_seg (g2 := (35, [(0, .ref 64), (1, .int a), (2, .int v), (3, .int u)], [.int 1, .ref 64], (q_cM q_AM q_IM q_J0, 34, 31630))) 3 (fun _ _ => rfl) ?_
          refine q_Ru_call (v := (some (.int 1))) (h2 := (q_cM q_AM (q_uI q_IM 0 39 1) q_J0, 34, 31630)) rfl rfl ?_ ?_
          · refine q_Ca_of (Nat.le_of_ble_eq_true rfl) ?_
            refine q_Ru_seg (g2 := (14, [(0, .ref 64), (1, .int 1)], [.int 1], (q_cM q_AM (q_uI q_IM 0 39 1) q_J0, 34, 31630))) 7 (fun _ _ => rfl) ?_
            exact q_Ru_ret rfl rfl
          show q_Ru _ _ _ (38, [(0, .ref 64), (1, .int a), (2, .int v), (3, .int u)], [.int 1], (q_cM q_AM (q_uI q_IM 0 39 1) q_J0, 34, 31630)) _
          refine q_Ru_seg (g2 := (42, [(0, .ref 64), (1, .int a), (2, .int v), (3, .int u)], [.int 0], (q_cM q_AM (q_uI q_IM 0 39 1) q_J0, 34, 31630))) 2 (fun _ _ => rfl) ?_
          exact q_Ru_ret rfl rfl
      | false =>
        exact q_no (q_lo1 h165) (q_hi2 h180) (by decide)
