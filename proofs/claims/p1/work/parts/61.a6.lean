set_option maxHeartbeats 20000000 in
theorem q_op_run (a : Int32) : ∃ (r b : Int32) (w : Int64), q_opX 11 [.int a] r w ∧ q_opM 236 [.int a] r (.int b) ∧ (r = 0 → w = b.toInt64) := by
  cases h227 : decide (a < 1) with
  | true =>
    refine ⟨1, 0, 0, ⟨(q_cX q_AX q_IX q_J0, 40 + 1, 26520 + 6), q_J0 39, ?_, rfl, fun h => absurd h (by decide), Nat.le_of_ble_eq_true rfl, Nat.le_of_ble_eq_true rfl⟩, ⟨(q_cM q_AM (q_uI q_IM 0 39 1) q_J0, 34, 31630), _, ?_, rfl, rfl, Nat.le_of_ble_eq_true rfl, Nat.le_of_ble_eq_true rfl⟩, fun h => absurd h (by decide)⟩
    · refine q_Ca_of (Nat.le_of_ble_eq_true rfl) ?_
      refine q_Ru_seg (g2 := (4, [(0, .ref 64), (1, .int a), (2, .ref 103)], [.int a, .ref 64, .int 0, .ref 103], (q_cX q_AX q_IX q_J0, 40, 26520))) 4 (fun _ _ => rfl) ?_
      refine q_Ru_callH (E := "java/lang/IllegalArgumentException") (tg := 13) (i := 3) (h2 := (q_cX q_AX q_IX q_J0, 40 + 1, 26520 + 6)) rfl rfl ?_ rfl ?_
      · refine q_Ca_of (Nat.le_of_ble_eq_true rfl) ?_
        refine q_Ru_seg (g2 := (5, [(0, .ref 64), (1, .int a)], [.int 1000, .int 1, .int a], (q_cX q_AX q_IX q_J0, 40, 26520))) 3 (fun _ _ => rfl) ?_
        refine q_Ru_callX (E := "java/lang/IllegalArgumentException") (h2 := (q_cX q_AX q_IX q_J0, 40 + 1, 26520 + 6)) rfl rfl ?_
        refine q_Ca_of (Nat.le_of_ble_eq_true rfl) ?_
        refine q_Ru_seg (g2 := (2, [(0, .int a), (1, .int 1), (2, .int 1000)], [.int 1, .int a], (q_cX q_AX q_IX q_J0, 40, 26520))) 2 (fun _ _ => rfl) ?_
        refine q_Ru_rsT (g2 := (10, [(0, .int a), (1, .int 1), (2, .int 1000)], [], (q_cX q_AX q_IX q_J0, 40, 26520))) rfl rfl h227 ?_
        exact q_Ru_thr rfl rfl
      show q_Ru _ _ _ (13, [(0, .ref 64), (1, .int a), (2, .ref 103)], [], (q_cX q_AX q_IX q_J0, 40 + 1, 26520 + 6)) _
      refine q_Ru_seg (g2 := (14, [(0, .ref 64), (1, .int a), (2, .ref 103)], [.int 1], (q_cX q_AX q_IX q_J0, 40 + 1, 26520 + 6))) 1 (fun _ _ => rfl) ?_
      exact q_Ru_ret rfl rfl
    · refine q_Ca_of (Nat.le_of_ble_eq_true rfl) ?_
      refine q_Ru_seg (g2 := (6, [(0, .ref 64), (1, .int a)], [.int 1000, .int 1, .int a, .ref 64], (q_cM q_AM q_IM q_J0, 34, 31630))) 4 (fun _ _ => rfl) ?_
      refine q_Ru_call (v := (some (.int 0))) (h2 := (q_cM q_AM q_IM q_J0, 34, 31630)) rfl rfl ?_ ?_
      · refine q_Ca_of (Nat.le_of_ble_eq_true rfl) ?_
        refine q_Ru_seg (g2 := (2, [(0, .int a), (1, .int 1), (2, .int 1000)], [.int 1, .int a], (q_cM q_AM q_IM q_J0, 34, 31630))) 2 (fun _ _ => rfl) ?_
        refine q_Ru_rsT (g2 := (14, [(0, .int a), (1, .int 1), (2, .int 1000)], [], (q_cM q_AM q_IM q_J0, 34, 31630))) rfl rfl h227 ?_
        refine q_Ru_seg (g2 := (15, [(0, .int a), (1, .int 1), (2, .int 1000)], [.int 0], (q_cM q_AM q_IM q_J0, 34, 31630))) 1 (fun _ _ => rfl) ?_
        exact q_Ru_ret rfl rfl
      show q_Ru _ _ _ (9, [(0, .ref 64), (1, .int a)], [.int 0, .ref 64], (q_cM q_AM q_IM q_J0, 34, 31630)) _
      refine q_Ru_seg (g2 := (17, [(0, .ref 64), (1, .int a)], [.int 1, .ref 64], (q_cM q_AM q_IM q_J0, 34, 31630))) 2 (fun _ _ => rfl) ?_
      refine q_Ru_call (v := (some (.int 1))) (h2 := (q_cM q_AM (q_uI q_IM 0 39 1) q_J0, 34, 31630)) rfl rfl ?_ ?_
      · refine q_Ca_of (Nat.le_of_ble_eq_true rfl) ?_
        refine q_Ru_seg (g2 := (14, [(0, .ref 64), (1, .int 1)], [.int 1], (q_cM q_AM (q_uI q_IM 0 39 1) q_J0, 34, 31630))) 7 (fun _ _ => rfl) ?_
        exact q_Ru_ret rfl rfl
      show q_Ru _ _ _ (20, [(0, .ref 64), (1, .int a)], [.int 1], (q_cM q_AM (q_uI q_IM 0 39 1) q_J0, 34, 31630)) _
      refine q_Ru_seg (g2 := (24, [(0, .ref 64), (1, .int a)], [.int 0], (q_cM q_AM (q_uI q_IM 0 39 1) q_J0, 34, 31630))) 2 (fun _ _ => rfl) ?_
      exact q_Ru_ret rfl rfl
  | false =>
    cases h228 : decide (1000 < a) with
    | true =>
      refine ⟨1, 0, 0, ⟨(q_cX q_AX q_IX q_J0, 40 + 1, 26520 + 6), q_J0 39, ?_, rfl, fun h => absurd h (by decide), Nat.le_of_ble_eq_true rfl, Nat.le_of_ble_eq_true rfl⟩, ⟨(q_cM q_AM (q_uI q_IM 0 39 1) q_J0, 34, 31630), _, ?_, rfl, rfl, Nat.le_of_ble_eq_true rfl, Nat.le_of_ble_eq_true rfl⟩, fun h => absurd h (by decide)⟩
      · refine q_Ca_of (Nat.le_of_ble_eq_true rfl) ?_
        refine q_Ru_seg (g2 := (4, [(0, .ref 64), (1, .int a), (2, .ref 103)], [.int a, .ref 64, .int 0, .ref 103], (q_cX q_AX q_IX q_J0, 40, 26520))) 4 (fun _ _ => rfl) ?_
        refine q_Ru_callH (E := "java/lang/IllegalArgumentException") (tg := 13) (i := 3) (h2 := (q_cX q_AX q_IX q_J0, 40 + 1, 26520 + 6)) rfl rfl ?_ rfl ?_
        · refine q_Ca_of (Nat.le_of_ble_eq_true rfl) ?_
          refine q_Ru_seg (g2 := (5, [(0, .ref 64), (1, .int a)], [.int 1000, .int 1, .int a], (q_cX q_AX q_IX q_J0, 40, 26520))) 3 (fun _ _ => rfl) ?_
          refine q_Ru_callX (E := "java/lang/IllegalArgumentException") (h2 := (q_cX q_AX q_IX q_J0, 40 + 1, 26520 + 6)) rfl rfl ?_
          refine q_Ca_of (Nat.le_of_ble_eq_true rfl) ?_
          refine q_Ru_seg (g2 := (2, [(0, .int a), (1, .int 1), (2, .int 1000)], [.int 1, .int a], (q_cX q_AX q_IX q_J0, 40, 26520))) 2 (fun _ _ => rfl) ?_
          refine q_Ru_rsF (g2 := (5, [(0, .int a), (1, .int 1), (2, .int 1000)], [], (q_cX q_AX q_IX q_J0, 40, 26520))) rfl rfl h227 ?_
          refine q_Ru_seg (g2 := (7, [(0, .int a), (1, .int 1), (2, .int 1000)], [.int 1000, .int a], (q_cX q_AX q_IX q_J0, 40, 26520))) 2 (fun _ _ => rfl) ?_
          refine q_Ru_rsF (g2 := (10, [(0, .int a), (1, .int 1), (2, .int 1000)], [], (q_cX q_AX q_IX q_J0, 40, 26520))) rfl rfl (q_d_geT h228) ?_
          exact q_Ru_thr rfl rfl
        show q_Ru _ _ _ (13, [(0, .ref 64), (1, .int a), (2, .ref 103)], [], (q_cX q_AX q_IX q_J0, 40 + 1, 26520 + 6)) _
        refine q_Ru_seg (g2 := (14, [(0, .ref 64), (1, .int a), (2, .ref 103)], [.int 1], (q_cX q_AX q_IX q_J0, 40 + 1, 26520 + 6))) 1 (fun _ _ => rfl) ?_
        exact q_Ru_ret rfl rfl
      · refine q_Ca_of (Nat.le_of_ble_eq_true rfl) ?_
        refine q_Ru_seg (g2 := (6, [(0, .ref 64), (1, .int a)], [.int 1000, .int 1, .int a, .ref 64], (q_cM q_AM q_IM q_J0, 34, 31630))) 4 (fun _ _ => rfl) ?_
        refine q_Ru_call (v := (some (.int 0))) (h2 := (q_cM q_AM q_IM q_J0, 34, 31630)) rfl rfl ?_ ?_
        · refine q_Ca_of (Nat.le_of_ble_eq_true rfl) ?_
          refine q_Ru_seg (g2 := (2, [(0, .int a), (1, .int 1), (2, .int 1000)], [.int 1, .int a], (q_cM q_AM q_IM q_J0, 34, 31630))) 2 (fun _ _ => rfl) ?_
          refine q_Ru_rsF (g2 := (5, [(0, .int a), (1, .int 1), (2, .int 1000)], [], (q_cM q_AM q_IM q_J0, 34, 31630))) rfl rfl h227 ?_
          refine q_Ru_seg (g2 := (7, [(0, .int a), (1, .int 1), (2, .int 1000)], [.int 1000, .int a], (q_cM q_AM q_IM q_J0, 34, 31630))) 2 (fun _ _ => rfl) ?_
          refine q_Ru_rsT (g2 := (14, [(0, .int a), (1, .int 1), (2, .int 1000)], [], (q_cM q_AM q_IM q_J0, 34, 31630))) rfl rfl h228 ?_
          refine q_Ru_seg (g2 := (15, [(0, .int a), (1, .int 1), (2, .int 1000)], [.int 0], (q_cM q_AM q_IM q_J0, 34, 31630))) 1 (fun _ _ => rfl) ?_
          exact q_Ru_ret rfl rfl
        show q_Ru _ _ _ (9, [(0, .ref 64), (1, .int a)], [.int 0, .ref 64], (q_cM q_AM q_IM q_J0, 34, 31630)) _
        refine q_Ru_seg (g2 := (17, [(0, .ref 64), (1, .int a)], [.int 1, .ref 64], (q_cM q_AM q_IM q_J0, 34, 31630))) 2 (fun _ _ => rfl) ?_
        refine q_Ru_call (v := (some (.int 1))) (h2 := (q_cM q_AM (q_uI q_IM 0 39 1) q_J0, 34, 31630)) rfl rfl ?_ ?_
        · refine q_Ca_of (Nat.le_of_ble_eq_true rfl) ?_
          refine q_Ru_seg (g2 := (14, [(0, .ref 64), (1, .int 1)], [.int 1], (q_cM q_AM (q_uI q_IM 0 39 1) q_J0, 34, 31630))) 7 (fun _ _ => rfl) ?_
          exact q_Ru_ret rfl rfl
        show q_Ru _ _ _ (20, [(0, .ref 64), (1, .int a)], [.int 1], (q_cM q_AM (q_uI q_IM 0 39 1) q_J0, 34, 31630)) _
        refine q_Ru_seg (g2 := (24, [(0, .ref 64), (1, .int a)], [.int 0], (q_cM q_AM (q_uI q_IM 0 39 1) q_J0, 34, 31630))) 2 (fun _ _ => rfl) ?_
        exact q_Ru_ret rfl rfl
    | false =>
      cases h229 : decide (0 < a) with
      | true =>
        obtain ⟨A216, I216, J216, p216⟩ := q_lpX a.toInt.toNat (by have e8 : a.toInt ≤ 1000 := (q_hi2 h228); have e9 : 1 ≤ a.toInt := (q_lo1 h227); omega) a 0 (by have e8 : a.toInt ≤ 1000 := (q_hi2 h228); have e9 : 1 ≤ a.toInt := (q_lo1 h227); omega) (a.toInt.toNat - 1) 1 0 (fun _ => 0) (fun _ => 0) (fun _ => 0) (fun _ => 0) (fun _ => 0) (fun _ => 0) (fun _ => 0) 1 0 4 1 0 0 (by have e8 : a.toInt ≤ 1000 := (q_hi2 h228); have e9 : 1 ≤ a.toInt := (q_lo1 h227); omega) (by omega) (Or.inr rfl)
        rw [← q_sumP_first _ (by have e8 : a.toInt ≤ 1000 := (q_hi2 h228); have e9 : 1 ≤ a.toInt := (q_lo1 h227); omega)] at p216
        obtain ⟨A217, J217, p217⟩ := q_lpM a.toInt.toNat (by have e8 : a.toInt ≤ 1000 := (q_hi2 h228); have e9 : 1 ≤ a.toInt := (q_lo1 h227); omega) a (by have e8 : a.toInt ≤ 1000 := (q_hi2 h228); have e9 : 1 ≤ a.toInt := (q_lo1 h227); omega) (a.toInt.toNat - 1) 1 0 (fun _ => 0) (fun _ => 0) (fun _ => 0) 1 0 0 0 0 (by have e8 : a.toInt ≤ 1000 := (q_hi2 h228); have e9 : 1 ≤ a.toInt := (q_lo1 h227); omega) (by omega) (Or.inr rfl)
        rw [← q_sumP_first _ (by have e8 : a.toInt ≤ 1000 := (q_hi2 h228); have e9 : 1 ≤ a.toInt := (q_lo1 h227); omega)] at p217
        have hA : ∀ i, i < 34 → (q_uA q_AM 14 (upd (upd (upd (upd (upd (fun _ => 0) 3 255) 9 1) 18 0) 17 2) 17 1)) i = (q_mA (fun _ => 0) (fun _ => 0) (fun _ => 0) (q_nb 0 1 0 0) (q_fb 0)) i := by
          intro i hi
          match i, hi with
          | 0, _ => rfl
          | 1, _ => rfl
          | 2, _ => rfl
          | 3, _ => rfl
          | 4, _ => rfl
          | 5, _ => rfl
          | 6, _ => rfl
          | 7, _ => rfl
          | 8, _ => rfl
          | 9, _ => rfl
          | 10, _ => rfl
          | 11, _ => rfl
          | 12, _ => rfl
          | 13, _ => rfl
          | 14, _ => exact (show (upd (upd (upd (upd (upd (fun _ => 0) 3 255) 9 1) 18 0) 17 2) 17 1) = (q_nb 0 1 0 0) by funext j; unfold q_nb upd; (repeat' split); all_goals first | rfl | omega)
          | 15, _ => exact (show (upd (fun _ => 0) 3 1) = (q_fb 0) by funext j; unfold q_fb upd; (repeat' split); all_goals first | rfl | omega)
          | 16, _ => rfl
          | 17, _ => rfl
          | 18, _ => rfl
          | 19, _ => rfl
          | 20, _ => rfl
          | 21, _ => rfl
          | 22, _ => rfl
          | 23, _ => rfl
          | 24, _ => rfl
          | 25, _ => rfl
          | 26, _ => rfl
          | 27, _ => rfl
          | 28, _ => rfl
          | 29, _ => rfl
          | 30, _ => rfl
          | 31, _ => rfl
          | 32, _ => rfl
          | 33, _ => rfl
          | i + 34, hi => exact absurd hi (by omega)
        have r217 := q_cM_A (I := (q_uI (q_uI q_IM 0 39 0) 0 38 0)) (J := (q_uI (q_uI q_J0 0 16 0) 0 15 1)) hA
        refine ⟨0, q_sumP (a.toInt.toNat) 0 0, (q_sumP (a.toInt.toNat) 0 0).toInt64, ⟨(q_cX A216 I216 (q_uA J216 39 (vp_updL (J216 39) 0 ((q_sumP (a.toInt.toNat) 0 0).toInt64))), 40, 26520), (q_uA J216 39 (vp_updL (J216 39) 0 ((q_sumP (a.toInt.toNat) 0 0).toInt64))) 39, ?_, rfl, fun _ => rfl, Nat.le_of_ble_eq_true rfl, Nat.le_of_ble_eq_true rfl⟩, ⟨(q_cM A217 q_IM J217, 34, 31630), _, ?_, rfl, rfl, Nat.le_of_ble_eq_true rfl, Nat.le_of_ble_eq_true rfl⟩, fun _ => rfl⟩
        · refine q_Ca_of (Nat.le_of_ble_eq_true rfl) ?_
          refine q_Ru_seg (g2 := (4, [(0, .ref 64), (1, .int a), (2, .ref 103)], [.int a, .ref 64, .int 0, .ref 103], (q_cX q_AX q_IX q_J0, 40, 26520))) 4 (fun _ _ => rfl) ?_
          refine q_Ru_call (v := (some (.int (q_sumP (a.toInt.toNat) 0 0)))) (h2 := (q_cX A216 I216 J216, 40, 26520)) rfl rfl ?_ ?_
          · refine q_Ca_of (Nat.le_of_ble_eq_true rfl) ?_
            refine q_Ru_seg (g2 := (5, [(0, .ref 64), (1, .int a)], [.int 1000, .int 1, .int a], (q_cX q_AX q_IX q_J0, 40, 26520))) 3 (fun _ _ => rfl) ?_
            refine q_Ru_call (v := none) (h2 := (q_cX q_AX q_IX q_J0, 40, 26520)) rfl rfl ?_ ?_
            · refine q_Ca_of (Nat.le_of_ble_eq_true rfl) ?_
              refine q_Ru_seg (g2 := (2, [(0, .int a), (1, .int 1), (2, .int 1000)], [.int 1, .int a], (q_cX q_AX q_IX q_J0, 40, 26520))) 2 (fun _ _ => rfl) ?_
              refine q_Ru_rsF (g2 := (5, [(0, .int a), (1, .int 1), (2, .int 1000)], [], (q_cX q_AX q_IX q_J0, 40, 26520))) rfl rfl h227 ?_
              refine q_Ru_seg (g2 := (7, [(0, .int a), (1, .int 1), (2, .int 1000)], [.int 1000, .int a], (q_cX q_AX q_IX q_J0, 40, 26520))) 2 (fun _ _ => rfl) ?_
              refine q_Ru_rsT (g2 := (20, [(0, .int a), (1, .int 1), (2, .int 1000)], [], (q_cX q_AX q_IX q_J0, 40, 26520))) rfl rfl (q_d_geF h228) ?_
              exact q_Ru_ret rfl rfl
            show q_Ru _ _ _ (8, [(0, .ref 64), (1, .int a)], [], (q_cX q_AX q_IX q_J0, 40, 26520)) _
            refine q_Ru_seg (g2 := (14, [(0, .ref 64), (1, .int a)], [.int 0, .int 0, .int a, .int 7, .ref 64], (q_cX q_AX q_IX q_J0, 40, 26520))) 5 (fun _ _ => rfl) ?_
            refine q_Ru_call (v := none) (h2 := (q_cX q_AX q_IX q_J0, 40, 26520)) rfl rfl ?_ ?_
            · refine q_Ca_of (Nat.le_of_ble_eq_true rfl) ?_
              refine q_Ru_seg (g2 := (19, [(0, .ref 64), (1, .int 7), (2, .int a), (3, .int 0), (4, .int 0)], [], (q_cX q_AX q_IX q_J0, 40, 26520))) 3 (fun _ _ => rfl) ?_
              exact q_Ru_ret rfl rfl
            show q_Ru _ _ _ (17, [(0, .ref 64), (1, .int a)], [], (q_cX q_AX q_IX q_J0, 40, 26520)) _
            refine q_Ru_seg (g2 := (26, [(0, .ref 64), (1, .int a)], [.int 0, .int 0, .int a, .int 7, .ref 65], (q_cX q_AX q_IX q_J0, 40, 26520))) 6 (fun _ _ => rfl) ?_
            refine q_Ru_call (v := (some (.int (q_sumP (a.toInt.toNat) 0 0)))) (h2 := (q_cX A216 I216 J216, 40, 26520)) rfl rfl ?_ ?_
            · refine q_Ca_of (Nat.le_of_ble_eq_true rfl) ?_
              refine q_Ru_seg (g2 := (140, [(0, .ref 65), (1, .int 7), (2, .int a), (3, .int 0), (4, .int 0)], [.int 0, .int a, .ref 65], (q_cX q_AX q_IX q_J0, 40, 26520))) 5 (fun _ _ => rfl) ?_
              refine q_Ru_call (v := (some (.int (q_sumP (a.toInt.toNat) 0 0)))) (h2 := (q_cX A216 I216 J216, 40, 26520)) rfl rfl ?_ ?_
              · refine q_Ca_of (Nat.le_of_ble_eq_true rfl) ?_
                refine q_Ru_seg (g2 := (17, [(5, .int 0), (4, .int 0), (3, .int 0), (0, .ref 65), (1, .int a), (2, .int 0)], [.int a, .int 0], (q_cX q_AX q_IX q_J0, 40, 26520))) 10 (fun _ _ => rfl) ?_
                refine q_Ru_rsF (g2 := (20, [(5, .int 0), (4, .int 0), (3, .int 0), (0, .ref 65), (1, .int a), (2, .int 0)], [], (q_cX q_AX q_IX q_J0, 40, 26520))) rfl rfl (q_d_geT h229) ?_
                refine q_Ru_seg (g2 := (36, [(5, .int 0), (4, .int 0), (3, .int 0), (0, .ref 65), (1, .int a), (2, .int 0)], [.ref 65], (q_cX q_AX q_IX q_J0, 40, 26520))) 3 (fun _ _ => rfl) ?_
                refine q_Ru_call (v := (some (.int 0))) (h2 := (q_cX (q_uA q_AX 5 (upd (fun _ => 0) 10 1)) (q_uI q_IX 14 3 1) q_J0, 40, 26520)) rfl rfl ?_ ?_
                · refine q_Ca_of (Nat.le_of_ble_eq_true rfl) ?_
                  refine q_Ru_seg (g2 := (4, [(0, .ref 65)], [.ref 66], (q_cX q_AX q_IX q_J0, 40, 26520))) 2 (fun _ _ => rfl) ?_
                  refine q_Ru_call (v := none) (h2 := (q_cX (q_uA q_AX 5 (upd (fun _ => 0) 10 1)) q_IX q_J0, 40, 26520)) rfl rfl ?_ ?_
                  · refine q_Ca_of (Nat.le_of_ble_eq_true rfl) ?_
                    refine q_Ru_seg (g2 := (1, [(0, .ref 66)], [.ref 66], (q_cX q_AX q_IX q_J0, 40, 26520))) 1 (fun _ _ => rfl) ?_
                    refine q_Ru_call (v := (some (.int 0))) (h2 := (q_cX q_AX q_IX q_J0, 40, 26520)) rfl rfl ?_ ?_
                    · refine q_Ca_of (Nat.le_of_ble_eq_true rfl) ?_
                      refine q_Ru_seg (g2 := (9, [(0, .ref 66)], [.int 0], (q_cX q_AX q_IX q_J0, 40, 26520))) 5 (fun _ _ => rfl) ?_
                      exact q_Ru_ret rfl rfl
                    show q_Ru _ _ _ (4, [(0, .ref 66)], [.int 0], (q_cX q_AX q_IX q_J0, 40, 26520)) _
                    refine q_Ru_seg (g2 := (8, [(0, .ref 66)], [.ref 66], (q_cX q_AX q_IX q_J0, 40, 26520))) 2 (fun _ _ => rfl) ?_
                    refine q_Ru_call (v := (some (.int 0))) (h2 := (q_cX q_AX q_IX q_J0, 40, 26520)) rfl rfl ?_ ?_
                    · refine q_Ca_of (Nat.le_of_ble_eq_true rfl) ?_
                      refine q_Ru_seg (g2 := (9, [(0, .ref 66)], [.int 0], (q_cX q_AX q_IX q_J0, 40, 26520))) 5 (fun _ _ => rfl) ?_
                      exact q_Ru_ret rfl rfl
                    show q_Ru _ _ _ (11, [(0, .ref 66)], [.int 0], (q_cX q_AX q_IX q_J0, 40, 26520)) _
                    refine q_Ru_seg (g2 := (41, [(0, .ref 66)], [], (q_cX (q_uA q_AX 5 (upd (fun _ => 0) 10 1)) q_IX q_J0, 40, 26520))) 17 (fun _ _ => rfl) ?_
                    exact q_Ru_ret rfl rfl
                  show q_Ru _ _ _ (7, [(0, .ref 65)], [], (q_cX (q_uA q_AX 5 (upd (fun _ => 0) 10 1)) q_IX q_J0, 40, 26520)) _
                  refine q_Ru_seg (g2 := (11, [(0, .ref 65)], [.ref 66], (q_cX (q_uA q_AX 5 (upd (fun _ => 0) 10 1)) q_IX q_J0, 40, 26520))) 2 (fun _ _ => rfl) ?_
                  refine q_Ru_call (v := (some (.int 0))) (h2 := (q_cX (q_uA q_AX 5 (upd (fun _ => 0) 10 1)) q_IX q_J0, 40, 26520)) rfl rfl ?_ ?_
                  · refine q_Ca_of (Nat.le_of_ble_eq_true rfl) ?_
                    refine q_Ru_seg (g2 := (5, [(0, .ref 66)], [.ref 66, .ref 67], (q_cX (q_uA q_AX 5 (upd (fun _ => 0) 10 1)) q_IX q_J0, 40, 26520))) 3 (fun _ _ => rfl) ?_
                    refine q_Ru_call (v := (some (.int 0))) (h2 := (q_cX (q_uA q_AX 5 (upd (fun _ => 0) 10 1)) q_IX q_J0, 40, 26520)) rfl rfl ?_ ?_
                    · refine q_Ca_of (Nat.le_of_ble_eq_true rfl) ?_
                      refine q_Ru_seg (g2 := (9, [(0, .ref 66)], [.int 0], (q_cX (q_uA q_AX 5 (upd (fun _ => 0) 10 1)) q_IX q_J0, 40, 26520))) 5 (fun _ _ => rfl) ?_
                      exact q_Ru_ret rfl rfl
                    show q_Ru _ _ _ (8, [(0, .ref 66)], [.int 0, .ref 67], (q_cX (q_uA q_AX 5 (upd (fun _ => 0) 10 1)) q_IX q_J0, 40, 26520)) _
                    refine q_Ru_seg (g2 := (14, [(0, .ref 66)], [.ref 66, .int (-4), .ref 67], (q_cX (q_uA q_AX 5 (upd (fun _ => 0) 10 1)) q_IX q_J0, 40, 26520))) 5 (fun _ _ => rfl) ?_
                    refine q_Ru_call (v := (some (.int 0))) (h2 := (q_cX (q_uA q_AX 5 (upd (fun _ => 0) 10 1)) q_IX q_J0, 40, 26520)) rfl rfl ?_ ?_
                    · refine q_Ca_of (Nat.le_of_ble_eq_true rfl) ?_
                      refine q_Ru_seg (g2 := (9, [(0, .ref 66)], [.int 0], (q_cX (q_uA q_AX 5 (upd (fun _ => 0) 10 1)) q_IX q_J0, 40, 26520))) 5 (fun _ _ => rfl) ?_
                      exact q_Ru_ret rfl rfl
                    show q_Ru _ _ _ (17, [(0, .ref 66)], [.int 0, .int (-4), .ref 67], (q_cX (q_uA q_AX 5 (upd (fun _ => 0) 10 1)) q_IX q_J0, 40, 26520)) _
                    refine q_Ru_call (v := (some (.int 0))) (h2 := (q_cX (q_uA q_AX 5 (upd (fun _ => 0) 10 1)) q_IX q_J0, 40, 26520)) rfl rfl ?_ ?_
                    · refine q_Ca_of (Nat.le_of_ble_eq_true rfl) ?_
                      refine q_Ru_seg (g2 := (23, [(0, .ref 67), (1, .int (-4)), (2, .int 0)], [.int 0], (q_cX (q_uA q_AX 5 (upd (fun _ => 0) 10 1)) q_IX q_J0, 40, 26520))) 3 (fun _ _ => rfl) ?_
                      exact q_Ru_ret rfl rfl
                    show q_Ru _ _ _ (20, [(0, .ref 66)], [.int 0], (q_cX (q_uA q_AX 5 (upd (fun _ => 0) 10 1)) q_IX q_J0, 40, 26520)) _
                    exact q_Ru_ret rfl rfl
                  show q_Ru _ _ _ (14, [(0, .ref 65)], [.int 0], (q_cX (q_uA q_AX 5 (upd (fun _ => 0) 10 1)) q_IX q_J0, 40, 26520)) _
                  refine q_Ru_seg (g2 := (23, [(1, .int 0), (0, .ref 65)], [.ref 96, .ref 66], (q_cX (q_uA q_AX 5 (upd (fun _ => 0) 10 1)) q_IX q_J0, 40, 26520))) 5 (fun _ _ => rfl) ?_
                  refine q_Ru_call (v := none) (h2 := (q_cX (q_uA q_AX 5 (upd (fun _ => 0) 10 1)) (q_uI q_IX 14 3 1) q_J0, 40, 26520)) rfl rfl ?_ ?_
                  · refine q_Ca_of (Nat.le_of_ble_eq_true rfl) ?_
                    refine q_Ru_seg (g2 := (1, [(0, .ref 66), (1, .ref 96)], [.ref 66], (q_cX (q_uA q_AX 5 (upd (fun _ => 0) 10 1)) q_IX q_J0, 40, 26520))) 1 (fun _ _ => rfl) ?_
                    refine q_Ru_call (v := (some (.int 0))) (h2 := (q_cX (q_uA q_AX 5 (upd (fun _ => 0) 10 1)) q_IX q_J0, 40, 26520)) rfl rfl ?_ ?_
                    · refine q_Ca_of (Nat.le_of_ble_eq_true rfl) ?_
                      refine q_Ru_seg (g2 := (9, [(0, .ref 66)], [.int 0], (q_cX (q_uA q_AX 5 (upd (fun _ => 0) 10 1)) q_IX q_J0, 40, 26520))) 5 (fun _ _ => rfl) ?_
                      exact q_Ru_ret rfl rfl
                    show q_Ru _ _ _ (4, [(0, .ref 66), (1, .ref 96)], [.int 0], (q_cX (q_uA q_AX 5 (upd (fun _ => 0) 10 1)) q_IX q_J0, 40, 26520)) _
                    refine q_Ru_seg (g2 := (11, [(2, .int (-4)), (0, .ref 66), (1, .ref 96)], [.ref 66], (q_cX (q_uA q_AX 5 (upd (fun _ => 0) 10 1)) q_IX q_J0, 40, 26520))) 6 (fun _ _ => rfl) ?_
                    refine q_Ru_call (v := (some (.int 0))) (h2 := (q_cX (q_uA q_AX 5 (upd (fun _ => 0) 10 1)) q_IX q_J0, 40, 26520)) rfl rfl ?_ ?_
                    · refine q_Ca_of (Nat.le_of_ble_eq_true rfl) ?_
                      refine q_Ru_seg (g2 := (9, [(0, .ref 66)], [.int 0], (q_cX (q_uA q_AX 5 (upd (fun _ => 0) 10 1)) q_IX q_J0, 40, 26520))) 5 (fun _ _ => rfl) ?_
                      exact q_Ru_ret rfl rfl
                    show q_Ru _ _ _ (14, [(2, .int (-4)), (0, .ref 66), (1, .ref 96)], [.int 0], (q_cX (q_uA q_AX 5 (upd (fun _ => 0) 10 1)) q_IX q_J0, 40, 26520)) _
                    refine q_Ru_seg (g2 := (122, [(3, .int 0), (2, .int (-4)), (0, .ref 66), (1, .ref 96)], [.ref 66], (q_cX (q_uA q_AX 5 (upd (fun _ => 0) 10 1)) q_IX q_J0, 40, 26520))) 4 (fun _ _ => rfl) ?_
                    refine q_Ru_call (v := (some (.ref 78))) (h2 := (q_cX (q_uA q_AX 5 (upd (fun _ => 0) 10 1)) q_IX q_J0, 40, 26520)) rfl rfl ?_ ?_
                    · refine q_Ca_of (Nat.le_of_ble_eq_true rfl) ?_
                      refine q_Ru_seg (g2 := (28, [(0, .ref 66)], [.ref 78], (q_cX (q_uA q_AX 5 (upd (fun _ => 0) 10 1)) q_IX q_J0, 40, 26520))) 12 (fun _ _ => rfl) ?_
                      exact q_Ru_ret rfl rfl
                    show q_Ru _ _ _ (125, [(3, .int 0), (2, .int (-4)), (0, .ref 66), (1, .ref 96)], [.ref 78], (q_cX (q_uA q_AX 5 (upd (fun _ => 0) 10 1)) q_IX q_J0, 40, 26520)) _
                    refine q_Ru_seg (g2 := (134, [(3, .int 0), (2, .int (-4)), (0, .ref 66), (1, .ref 96)], [], (q_cX (q_uA q_AX 5 (upd (fun _ => 0) 10 1)) (q_uI q_IX 14 3 1) q_J0, 40, 26520))) 5 (fun _ _ => rfl) ?_
                    exact q_Ru_ret rfl rfl
                  show q_Ru _ _ _ (26, [(1, .int 0), (0, .ref 65)], [], (q_cX (q_uA q_AX 5 (upd (fun _ => 0) 10 1)) (q_uI q_IX 14 3 1) q_J0, 40, 26520)) _
                  refine q_Ru_seg (g2 := (30, [(1, .int 0), (0, .ref 65)], [.ref 66], (q_cX (q_uA q_AX 5 (upd (fun _ => 0) 10 1)) (q_uI q_IX 14 3 1) q_J0, 40, 26520))) 2 (fun _ _ => rfl) ?_
                  refine q_Ru_call (v := none) (h2 := (q_cX (q_uA q_AX 5 (upd (fun _ => 0) 10 1)) (q_uI q_IX 14 3 1) q_J0, 40, 26520)) rfl rfl ?_ ?_
                  · refine q_Ca_of (Nat.le_of_ble_eq_true rfl) ?_
                    refine q_Ru_seg (g2 := (49, [(2, .int 0), (1, .int 0), (0, .ref 66)], [], (q_cX (q_uA q_AX 5 (upd (fun _ => 0) 10 1)) (q_uI q_IX 14 3 1) q_J0, 40, 26520))) 18 (fun _ _ => rfl) ?_
                    exact q_Ru_ret rfl rfl
                  show q_Ru _ _ _ (33, [(1, .int 0), (0, .ref 65)], [], (q_cX (q_uA q_AX 5 (upd (fun _ => 0) 10 1)) (q_uI q_IX 14 3 1) q_J0, 40, 26520)) _
                  refine q_Ru_seg (g2 := (37, [(1, .int 0), (0, .ref 65)], [.ref 66], (q_cX (q_uA q_AX 5 (upd (fun _ => 0) 10 1)) (q_uI q_IX 14 3 1) q_J0, 40, 26520))) 2 (fun _ _ => rfl) ?_
                  refine q_Ru_call (v := none) (h2 := (q_cX (q_uA q_AX 5 (upd (fun _ => 0) 10 1)) (q_uI q_IX 14 3 1) q_J0, 40, 26520)) rfl rfl ?_ ?_
                  · refine q_Ca_of (Nat.le_of_ble_eq_true rfl) ?_
                    refine q_Ru_seg (g2 := (39, [(0, .ref 66)], [], (q_cX (q_uA q_AX 5 (upd (fun _ => 0) 10 1)) (q_uI q_IX 14 3 1) q_J0, 40, 26520))) 7 (fun _ _ => rfl) ?_
                    exact q_Ru_ret rfl rfl
                  show q_Ru _ _ _ (40, [(1, .int 0), (0, .ref 65)], [], (q_cX (q_uA q_AX 5 (upd (fun _ => 0) 10 1)) (q_uI q_IX 14 3 1) q_J0, 40, 26520)) _
                  refine q_Ru_seg (g2 := (44, [(1, .int 0), (0, .ref 65)], [.ref 66], (q_cX (q_uA q_AX 5 (upd (fun _ => 0) 10 1)) (q_uI q_IX 14 3 1) q_J0, 40, 26520))) 2 (fun _ _ => rfl) ?_
                  refine q_Ru_call (v := (some (.int 0))) (h2 := (q_cX (q_uA q_AX 5 (upd (fun _ => 0) 10 1)) (q_uI q_IX 14 3 1) q_J0, 40, 26520)) rfl rfl ?_ ?_
                  · refine q_Ca_of (Nat.le_of_ble_eq_true rfl) ?_
                    refine q_Ru_seg (g2 := (9, [(0, .ref 66)], [.int 0], (q_cX (q_uA q_AX 5 (upd (fun _ => 0) 10 1)) (q_uI q_IX 14 3 1) q_J0, 40, 26520))) 5 (fun _ _ => rfl) ?_
                    exact q_Ru_ret rfl rfl
                  show q_Ru _ _ _ (47, [(1, .int 0), (0, .ref 65)], [.int 0], (q_cX (q_uA q_AX 5 (upd (fun _ => 0) 10 1)) (q_uI q_IX 14 3 1) q_J0, 40, 26520)) _
                  refine q_Ru_seg (g2 := (80, [(1, .int 0), (0, .ref 65)], [.int 0], (q_cX (q_uA q_AX 5 (upd (fun _ => 0) 10 1)) (q_uI q_IX 14 3 1) q_J0, 40, 26520))) 3 (fun _ _ => rfl) ?_
                  exact q_Ru_ret rfl rfl
                show q_Ru _ _ _ (39, [(5, .int 0), (4, .int 0), (3, .int 0), (0, .ref 65), (1, .int a), (2, .int 0)], [.int 0], (q_cX (q_uA q_AX 5 (upd (fun _ => 0) 10 1)) (q_uI q_IX 14 3 1) q_J0, 40, 26520)) _
                refine q_Ru_seg (g2 := (66, [(5, .int 0), (4, .int 0), (3, .int 0), (0, .ref 65), (1, .int a), (2, .int 0)], [.ref 66, .ref 88], (q_cX (q_uA q_AX 5 (upd (fun _ => 0) 10 1)) (q_uI q_IX 14 3 1) q_J0, 40, 26520))) 9 (fun _ _ => rfl) ?_
                refine q_Ru_call (v := none) (h2 := (q_cX (q_uA q_AX 5 (upd (fun _ => 0) 10 1)) (q_uI (q_uI (q_uI q_IX 14 3 1) 24 8 0) 24 9 2) q_J0, 40, 26520)) rfl rfl ?_ ?_
                · refine q_Ca_of (Nat.le_of_ble_eq_true rfl) ?_
                  refine q_Ru_seg (g2 := (103, [(2, .int 0), (0, .ref 88), (1, .ref 66)], [.ref 66, .ref 88, .ref 88], (q_cX (q_uA q_AX 5 (upd (fun _ => 0) 10 1)) (q_uI (q_uI q_IX 14 3 1) 24 8 0) q_J0, 40, 26520))) 28 (fun _ _ => rfl) ?_
                  refine q_Ru_call (v := (some (.int 2))) (h2 := (q_cX (q_uA q_AX 5 (upd (fun _ => 0) 10 1)) (q_uI (q_uI q_IX 14 3 1) 24 8 0) q_J0, 40, 26520)) rfl rfl ?_ ?_
                  · refine q_Ca_of (Nat.le_of_ble_eq_true rfl) ?_
                    refine q_Ru_seg (g2 := (5, [(0, .ref 88), (1, .ref 66)], [.int 0, .ref 66], (q_cX (q_uA q_AX 5 (upd (fun _ => 0) 10 1)) (q_uI (q_uI q_IX 14 3 1) 24 8 0) q_J0, 40, 26520))) 3 (fun _ _ => rfl) ?_
                    refine q_Ru_call (v := (some (.int 0))) (h2 := (q_cX (q_uA q_AX 5 (upd (fun _ => 0) 10 1)) (q_uI (q_uI q_IX 14 3 1) 24 8 0) q_J0, 40, 26520)) rfl rfl ?_ ?_
                    · refine q_Ca_of (Nat.le_of_ble_eq_true rfl) ?_
                      refine q_Ru_seg (g2 := (128, [(3, .int 0), (2, .int (-3840)), (0, .ref 66), (1, .int 0)], [.int 0], (q_cX (q_uA q_AX 5 (upd (fun _ => 0) 10 1)) (q_uI (q_uI q_IX 14 3 1) 24 8 0) q_J0, 40, 26520))) 29 (fun _ _ => rfl) ?_
                      exact q_Ru_ret rfl rfl
                    show q_Ru _ _ _ (8, [(0, .ref 88), (1, .ref 66)], [.int 0], (q_cX (q_uA q_AX 5 (upd (fun _ => 0) 10 1)) (q_uI (q_uI q_IX 14 3 1) 24 8 0) q_J0, 40, 26520)) _
                    refine q_Ru_seg (g2 := (10, [(2, .int 0), (0, .ref 88), (1, .ref 66)], [.int 0], (q_cX (q_uA q_AX 5 (upd (fun _ => 0) 10 1)) (q_uI (q_uI q_IX 14 3 1) 24 8 0) q_J0, 40, 26520))) 2 (fun _ _ => rfl) ?_
                    refine q_Ru_call (v := (some (.int 0))) (h2 := (q_cX (q_uA q_AX 5 (upd (fun _ => 0) 10 1)) (q_uI (q_uI q_IX 14 3 1) 24 8 0) q_J0, 40, 26520)) rfl rfl ?_ ?_
                    · refine q_Ca_of (Nat.le_of_ble_eq_true rfl) ?_
                      refine q_Ru_seg (g2 := (11, [(0, .int 0)], [.int 0], (q_cX (q_uA q_AX 5 (upd (fun _ => 0) 10 1)) (q_uI (q_uI q_IX 14 3 1) 24 8 0) q_J0, 40, 26520))) 6 (fun _ _ => rfl) ?_
                      exact q_Ru_ret rfl rfl
                    show q_Ru _ _ _ (13, [(2, .int 0), (0, .ref 88), (1, .ref 66)], [.int 0], (q_cX (q_uA q_AX 5 (upd (fun _ => 0) 10 1)) (q_uI (q_uI q_IX 14 3 1) 24 8 0) q_J0, 40, 26520)) _
                    refine q_Ru_seg (g2 := (21, [(4, .int 0), (3, .int 0), (2, .int 0), (0, .ref 88), (1, .ref 66)], [.int 0], (q_cX (q_uA q_AX 5 (upd (fun _ => 0) 10 1)) (q_uI (q_uI q_IX 14 3 1) 24 8 0) q_J0, 40, 26520))) 6 (fun _ _ => rfl) ?_
                    refine q_Ru_call (v := (some (.int 0))) (h2 := (q_cX (q_uA q_AX 5 (upd (fun _ => 0) 10 1)) (q_uI (q_uI q_IX 14 3 1) 24 8 0) q_J0, 40, 26520)) rfl rfl ?_ ?_
                    · refine q_Ca_of (Nat.le_of_ble_eq_true rfl) ?_
                      refine q_Ru_seg (g2 := (19, [(0, .int 0)], [.int 0], (q_cX (q_uA q_AX 5 (upd (fun _ => 0) 10 1)) (q_uI (q_uI q_IX 14 3 1) 24 8 0) q_J0, 40, 26520))) 4 (fun _ _ => rfl) ?_
                      exact q_Ru_ret rfl rfl
                    show q_Ru _ _ _ (24, [(4, .int 0), (3, .int 0), (2, .int 0), (0, .ref 88), (1, .ref 66)], [.int 0], (q_cX (q_uA q_AX 5 (upd (fun _ => 0) 10 1)) (q_uI (q_uI q_IX 14 3 1) 24 8 0) q_J0, 40, 26520)) _
                    refine q_Ru_seg (g2 := (57, [(4, .int 0), (3, .int 0), (2, .int 0), (0, .ref 88), (1, .ref 66)], [.int 2], (q_cX (q_uA q_AX 5 (upd (fun _ => 0) 10 1)) (q_uI (q_uI q_IX 14 3 1) 24 8 0) q_J0, 40, 26520))) 6 (fun _ _ => rfl) ?_
                    exact q_Ru_ret rfl rfl
                  show q_Ru _ _ _ (106, [(2, .int 0), (0, .ref 88), (1, .ref 66)], [.int 2, .ref 88], (q_cX (q_uA q_AX 5 (upd (fun _ => 0) 10 1)) (q_uI (q_uI q_IX 14 3 1) 24 8 0) q_J0, 40, 26520)) _
                  refine q_Ru_seg (g2 := (109, [(2, .int 0), (0, .ref 88), (1, .ref 66)], [], (q_cX (q_uA q_AX 5 (upd (fun _ => 0) 10 1)) (q_uI (q_uI (q_uI q_IX 14 3 1) 24 8 0) 24 9 2) q_J0, 40, 26520))) 1 (fun _ _ => rfl) ?_
                  exact q_Ru_ret rfl rfl
                show q_Ru _ _ _ (69, [(5, .int 0), (4, .int 0), (3, .int 0), (0, .ref 65), (1, .int a), (2, .int 0)], [], (q_cX (q_uA q_AX 5 (upd (fun _ => 0) 10 1)) (q_uI (q_uI (q_uI q_IX 14 3 1) 24 8 0) 24 9 2) q_J0, 40, 26520)) _
                refine q_Ru_seg (g2 := (73, [(5, .int 0), (4, .int 0), (3, .int 0), (0, .ref 65), (1, .int a), (2, .int 0)], [.ref 88], (q_cX (q_uA q_AX 5 (upd (fun _ => 0) 10 1)) (q_uI (q_uI (q_uI q_IX 14 3 1) 24 8 0) 24 9 2) q_J0, 40, 26520))) 2 (fun _ _ => rfl) ?_
                refine q_Ru_call (v := (some (.int 0))) (h2 := (q_cX (q_uA q_AX 5 (upd (fun _ => 0) 10 1)) (q_uI (q_uI (q_uI q_IX 14 3 1) 24 8 0) 24 9 1) q_J0, 40, 26520)) rfl rfl ?_ ?_
                · refine q_Ca_of (Nat.le_of_ble_eq_true rfl) ?_
                  refine q_Ru_seg (g2 := (31, [(0, .ref 88)], [.int 0], (q_cX (q_uA q_AX 5 (upd (fun _ => 0) 10 1)) (q_uI (q_uI (q_uI q_IX 14 3 1) 24 8 0) 24 9 1) q_J0, 40, 26520))) 13 (fun _ _ => rfl) ?_
                  exact q_Ru_ret rfl rfl
                show q_Ru _ _ _ (76, [(5, .int 0), (4, .int 0), (3, .int 0), (0, .ref 65), (1, .int a), (2, .int 0)], [.int 0], (q_cX (q_uA q_AX 5 (upd (fun _ => 0) 10 1)) (q_uI (q_uI (q_uI q_IX 14 3 1) 24 8 0) 24 9 1) q_J0, 40, 26520)) _
                refine q_Ru_seg (g2 := (94, [(5, .int 0), (4, .int 0), (3, .int 0), (0, .ref 65), (1, .int a), (2, .int 0)], [.ref 66], (q_cX (q_uA q_AX 5 (upd (fun _ => 0) 10 1)) (q_uI (q_uI (q_uI q_IX 14 3 1) 24 8 0) 24 9 1) q_J0, 40, 26520))) 3 (fun _ _ => rfl) ?_
                refine q_Ru_call (v := none) (h2 := (q_cX (q_uA q_AX 5 (upd (fun _ => 0) 10 1)) (q_uI (q_uI (q_uI q_IX 14 3 1) 24 8 0) 24 9 1) (q_uI q_J0 2 8 1), 40, 26520)) rfl rfl ?_ ?_
                · refine q_Ca_of (Nat.le_of_ble_eq_true rfl) ?_
                  refine q_Ru_seg (g2 := (34, [(0, .ref 66)], [], (q_cX (q_uA q_AX 5 (upd (fun _ => 0) 10 1)) (q_uI (q_uI (q_uI q_IX 14 3 1) 24 8 0) 24 9 1) (q_uI q_J0 2 8 1), 40, 26520))) 13 (fun _ _ => rfl) ?_
                  exact q_Ru_ret rfl rfl
                show q_Ru _ _ _ (97, [(5, .int 0), (4, .int 0), (3, .int 0), (0, .ref 65), (1, .int a), (2, .int 0)], [], (q_cX (q_uA q_AX 5 (upd (fun _ => 0) 10 1)) (q_uI (q_uI (q_uI q_IX 14 3 1) 24 8 0) 24 9 1) (q_uI q_J0 2 8 1), 40, 26520)) _
                refine q_Ru_seg (g2 := (14, [(4, .int 1), (5, .int 0), (3, .int 0), (0, .ref 65), (1, .int a), (2, .int 0)], [], (q_cX (q_uA q_AX 5 (upd (fun _ => 0) 10 1)) (q_uI (q_uI (q_uI q_IX 14 3 1) 24 8 0) 24 9 1) (q_uI q_J0 2 8 1), 40, 26520))) 2 (fun _ _ => rfl) ?_
                exact q_Ru_le (Nat.le_of_ble_eq_true rfl) p216
              show q_Ru _ _ _ (143, [(0, .ref 65), (1, .int 7), (2, .int a), (3, .int 0), (4, .int 0)], [.int (q_sumP (a.toInt.toNat) 0 0)], (q_cX A216 I216 J216, 40, 26520)) _
              exact q_Ru_ret rfl rfl
            show q_Ru _ _ _ (29, [(0, .ref 64), (1, .int a)], [.int (q_sumP (a.toInt.toNat) 0 0)], (q_cX A216 I216 J216, 40, 26520)) _
            exact q_Ru_ret rfl rfl
          show q_Ru _ _ _ (7, [(0, .ref 64), (1, .int a), (2, .ref 103)], [.int (q_sumP (a.toInt.toNat) 0 0), .int 0, .ref 103], (q_cX A216 I216 J216, 40, 26520)) _
          refine q_Ru_seg (g2 := (16, [(0, .ref 64), (1, .int a), (2, .ref 103)], [.int 0], (q_cX A216 I216 (q_uA J216 39 (vp_updL (J216 39) 0 ((q_sumP (a.toInt.toNat) 0 0).toInt64))), 40, 26520))) 4 (fun _ _ => rfl) ?_
          exact q_Ru_ret rfl rfl
        · refine q_Ca_of (Nat.le_of_ble_eq_true rfl) ?_
          refine q_Ru_seg (g2 := (6, [(0, .ref 64), (1, .int a)], [.int 1000, .int 1, .int a, .ref 64], (q_cM q_AM q_IM q_J0, 34, 31630))) 4 (fun _ _ => rfl) ?_
          refine q_Ru_call (v := (some (.int 1))) (h2 := (q_cM q_AM q_IM q_J0, 34, 31630)) rfl rfl ?_ ?_
          · refine q_Ca_of (Nat.le_of_ble_eq_true rfl) ?_
            refine q_Ru_seg (g2 := (2, [(0, .int a), (1, .int 1), (2, .int 1000)], [.int 1, .int a], (q_cM q_AM q_IM q_J0, 34, 31630))) 2 (fun _ _ => rfl) ?_
            refine q_Ru_rsF (g2 := (5, [(0, .int a), (1, .int 1), (2, .int 1000)], [], (q_cM q_AM q_IM q_J0, 34, 31630))) rfl rfl h227 ?_
            refine q_Ru_seg (g2 := (7, [(0, .int a), (1, .int 1), (2, .int 1000)], [.int 1000, .int a], (q_cM q_AM q_IM q_J0, 34, 31630))) 2 (fun _ _ => rfl) ?_
            refine q_Ru_rsF (g2 := (10, [(0, .int a), (1, .int 1), (2, .int 1000)], [], (q_cM q_AM q_IM q_J0, 34, 31630))) rfl rfl h228 ?_
            refine q_Ru_seg (g2 := (15, [(0, .int a), (1, .int 1), (2, .int 1000)], [.int 1], (q_cM q_AM q_IM q_J0, 34, 31630))) 2 (fun _ _ => rfl) ?_
            exact q_Ru_ret rfl rfl
          show q_Ru _ _ _ (9, [(0, .ref 64), (1, .int a)], [.int 1, .ref 64], (q_cM q_AM q_IM q_J0, 34, 31630)) _
          refine q_Ru_seg (g2 := (17, [(0, .ref 64), (1, .int a)], [.int 0, .ref 64], (q_cM q_AM q_IM q_J0, 34, 31630))) 3 (fun _ _ => rfl) ?_
          refine q_Ru_call (v := (some (.int 0))) (h2 := (q_cM q_AM (q_uI q_IM 0 39 0) q_J0, 34, 31630)) rfl rfl ?_ ?_
          · refine q_Ca_of (Nat.le_of_ble_eq_true rfl) ?_
            refine q_Ru_seg (g2 := (14, [(0, .ref 64), (1, .int 0)], [.int 0], (q_cM q_AM (q_uI q_IM 0 39 0) q_J0, 34, 31630))) 6 (fun _ _ => rfl) ?_
            exact q_Ru_ret rfl rfl
          show q_Ru _ _ _ (20, [(0, .ref 64), (1, .int a)], [.int 0], (q_cM q_AM (q_uI q_IM 0 39 0) q_J0, 34, 31630)) _
          refine q_Ru_seg (g2 := (31, [(3, .int 0), (2, .int 0), (0, .ref 64), (1, .int a)], [.int a, .int 0], (q_cM q_AM (q_uI q_IM 0 39 0) q_J0, 34, 31630))) 7 (fun _ _ => rfl) ?_
          refine q_Ru_rsF (g2 := (34, [(3, .int 0), (2, .int 0), (0, .ref 64), (1, .int a)], [], (q_cM q_AM (q_uI q_IM 0 39 0) q_J0, 34, 31630))) rfl rfl (q_d_geT h229) ?_
          refine q_Ru_seg (g2 := (36, [(3, .int 0), (2, .int 0), (0, .ref 64), (1, .int a)], [.ref 64, .int 0], (q_cM q_AM (q_uI q_IM 0 39 0) q_J0, 34, 31630))) 2 (fun _ _ => rfl) ?_
          refine q_Ru_call (v := (some (.int 0))) (h2 := (q_cM (q_uA q_AM 14 (upd (upd (upd (upd (upd (fun _ => 0) 3 255) 9 1) 18 0) 17 2) 17 1)) (q_uI (q_uI q_IM 0 39 0) 0 38 0) (q_uI (q_uI q_J0 0 16 0) 0 15 1), 34, 31630)) rfl rfl ?_ ?_
          · refine q_Ca_of (Nat.le_of_ble_eq_true rfl) ?_
            refine q_Ru_seg (g2 := (15, [(1, .int 0), (0, .ref 64)], [.ref 64], (q_cM q_AM (q_uI q_IM 0 39 0) q_J0, 34, 31630))) 9 (fun _ _ => rfl) ?_
            refine q_Ru_call (v := (some (.int 0))) (h2 := (q_cM q_AM (q_uI q_IM 0 39 0) q_J0, 34, 31630)) rfl rfl ?_ ?_
            · refine q_Ca_of (Nat.le_of_ble_eq_true rfl) ?_
              refine q_Ru_seg (g2 := (13, [(0, .ref 64)], [.int 0], (q_cM q_AM (q_uI q_IM 0 39 0) q_J0, 34, 31630))) 7 (fun _ _ => rfl) ?_
              exact q_Ru_ret rfl rfl
            show q_Ru _ _ _ (18, [(1, .int 0), (0, .ref 64)], [.int 0], (q_cM q_AM (q_uI q_IM 0 39 0) q_J0, 34, 31630)) _
            refine q_Ru_seg (g2 := (40, [(1, .int 0), (0, .ref 64)], [.ref 64], (q_cM (q_uA q_AM 14 (upd (upd (fun _ => 0) 3 255) 9 1)) (q_uI q_IM 0 39 0) q_J0, 34, 31630))) 14 (fun _ _ => rfl) ?_
            refine q_Ru_call (v := (some (.int 0))) (h2 := (q_cM (q_uA q_AM 14 (upd (upd (fun _ => 0) 3 255) 9 1)) (q_uI q_IM 0 39 0) q_J0, 34, 31630)) rfl rfl ?_ ?_
            · refine q_Ca_of (Nat.le_of_ble_eq_true rfl) ?_
              refine q_Ru_seg (g2 := (1, [(0, .ref 64)], [.ref 64], (q_cM (q_uA q_AM 14 (upd (upd (fun _ => 0) 3 255) 9 1)) (q_uI q_IM 0 39 0) q_J0, 34, 31630))) 1 (fun _ _ => rfl) ?_
              refine q_Ru_call (v := (some (.int (-4)))) (h2 := (q_cM (q_uA q_AM 14 (upd (upd (fun _ => 0) 3 255) 9 1)) (q_uI q_IM 0 39 0) q_J0, 34, 31630)) rfl rfl ?_ ?_
              · refine q_Ca_of (Nat.le_of_ble_eq_true rfl) ?_
                refine q_Ru_seg (g2 := (1, [(0, .ref 64)], [.ref 64], (q_cM (q_uA q_AM 14 (upd (upd (fun _ => 0) 3 255) 9 1)) (q_uI q_IM 0 39 0) q_J0, 34, 31630))) 1 (fun _ _ => rfl) ?_
                refine q_Ru_call (v := (some (.int 0))) (h2 := (q_cM (q_uA q_AM 14 (upd (upd (fun _ => 0) 3 255) 9 1)) (q_uI q_IM 0 39 0) q_J0, 34, 31630)) rfl rfl ?_ ?_
                · refine q_Ca_of (Nat.le_of_ble_eq_true rfl) ?_
                  refine q_Ru_seg (g2 := (13, [(0, .ref 64)], [.int 0], (q_cM (q_uA q_AM 14 (upd (upd (fun _ => 0) 3 255) 9 1)) (q_uI q_IM 0 39 0) q_J0, 34, 31630))) 7 (fun _ _ => rfl) ?_
                  exact q_Ru_ret rfl rfl
                show q_Ru _ _ _ (4, [(0, .ref 64)], [.int 0], (q_cM (q_uA q_AM 14 (upd (upd (fun _ => 0) 3 255) 9 1)) (q_uI q_IM 0 39 0) q_J0, 34, 31630)) _
                refine q_Ru_seg (g2 := (6, [(0, .ref 64)], [.int (-4)], (q_cM (q_uA q_AM 14 (upd (upd (fun _ => 0) 3 255) 9 1)) (q_uI q_IM 0 39 0) q_J0, 34, 31630))) 2 (fun _ _ => rfl) ?_
                exact q_Ru_ret rfl rfl
              show q_Ru _ _ _ (4, [(0, .ref 64)], [.int (-4)], (q_cM (q_uA q_AM 14 (upd (upd (fun _ => 0) 3 255) 9 1)) (q_uI q_IM 0 39 0) q_J0, 34, 31630)) _
              refine q_Ru_seg (g2 := (19, [(2, .int 0), (1, .int (-4)), (0, .ref 64)], [.int 31, .int 0, .int (-4)], (q_cM (q_uA q_AM 14 (upd (upd (fun _ => 0) 3 255) 9 1)) (q_uI q_IM 0 39 0) q_J0, 34, 31630))) 10 (fun _ _ => rfl) ?_
              refine q_Ru_call (v := (some (.int 0))) (h2 := (q_cM (q_uA q_AM 14 (upd (upd (fun _ => 0) 3 255) 9 1)) (q_uI q_IM 0 39 0) q_J0, 34, 31630)) rfl rfl ?_ ?_
              · refine q_Ca_of (Nat.le_of_ble_eq_true rfl) ?_
                refine q_Ru_seg (g2 := (15, [(0, .int (-4)), (1, .int 0), (2, .int 31)], [.int 0], (q_cM (q_uA q_AM 14 (upd (upd (fun _ => 0) 3 255) 9 1)) (q_uI q_IM 0 39 0) q_J0, 34, 31630))) 4 (fun _ _ => rfl) ?_
                exact q_Ru_ret rfl rfl
              show q_Ru _ _ _ (22, [(2, .int 0), (1, .int (-4)), (0, .ref 64)], [.int 0], (q_cM (q_uA q_AM 14 (upd (upd (fun _ => 0) 3 255) 9 1)) (q_uI q_IM 0 39 0) q_J0, 34, 31630)) _
              refine q_Ru_seg (g2 := (26, [(2, .int 0), (1, .int (-4)), (0, .ref 64)], [.int 0], (q_cM (q_uA q_AM 14 (upd (upd (fun _ => 0) 3 255) 9 1)) (q_uI q_IM 0 39 0) q_J0, 34, 31630))) 2 (fun _ _ => rfl) ?_
              exact q_Ru_ret rfl rfl
            show q_Ru _ _ _ (43, [(1, .int 0), (0, .ref 64)], [.int 0], (q_cM (q_uA q_AM 14 (upd (upd (fun _ => 0) 3 255) 9 1)) (q_uI q_IM 0 39 0) q_J0, 34, 31630)) _
            refine q_Ru_seg (g2 := (45, [(2, .int 0), (1, .int 0), (0, .ref 64)], [.ref 64], (q_cM (q_uA q_AM 14 (upd (upd (fun _ => 0) 3 255) 9 1)) (q_uI q_IM 0 39 0) q_J0, 34, 31630))) 2 (fun _ _ => rfl) ?_
            refine q_Ru_call (v := (some (.int (-4)))) (h2 := (q_cM (q_uA q_AM 14 (upd (upd (fun _ => 0) 3 255) 9 1)) (q_uI q_IM 0 39 0) q_J0, 34, 31630)) rfl rfl ?_ ?_
            · refine q_Ca_of (Nat.le_of_ble_eq_true rfl) ?_
              refine q_Ru_seg (g2 := (1, [(0, .ref 64)], [.ref 64], (q_cM (q_uA q_AM 14 (upd (upd (fun _ => 0) 3 255) 9 1)) (q_uI q_IM 0 39 0) q_J0, 34, 31630))) 1 (fun _ _ => rfl) ?_
              refine q_Ru_call (v := (some (.int 0))) (h2 := (q_cM (q_uA q_AM 14 (upd (upd (fun _ => 0) 3 255) 9 1)) (q_uI q_IM 0 39 0) q_J0, 34, 31630)) rfl rfl ?_ ?_
              · refine q_Ca_of (Nat.le_of_ble_eq_true rfl) ?_
                refine q_Ru_seg (g2 := (13, [(0, .ref 64)], [.int 0], (q_cM (q_uA q_AM 14 (upd (upd (fun _ => 0) 3 255) 9 1)) (q_uI q_IM 0 39 0) q_J0, 34, 31630))) 7 (fun _ _ => rfl) ?_
                exact q_Ru_ret rfl rfl
              show q_Ru _ _ _ (4, [(0, .ref 64)], [.int 0], (q_cM (q_uA q_AM 14 (upd (upd (fun _ => 0) 3 255) 9 1)) (q_uI q_IM 0 39 0) q_J0, 34, 31630)) _
              refine q_Ru_seg (g2 := (6, [(0, .ref 64)], [.int (-4)], (q_cM (q_uA q_AM 14 (upd (upd (fun _ => 0) 3 255) 9 1)) (q_uI q_IM 0 39 0) q_J0, 34, 31630))) 2 (fun _ _ => rfl) ?_
              exact q_Ru_ret rfl rfl
            show q_Ru _ _ _ (48, [(2, .int 0), (1, .int 0), (0, .ref 64)], [.int (-4)], (q_cM (q_uA q_AM 14 (upd (upd (fun _ => 0) 3 255) 9 1)) (q_uI q_IM 0 39 0) q_J0, 34, 31630)) _
            refine q_Ru_seg (g2 := (53, [(3, .int (-4)), (2, .int 0), (1, .int 0), (0, .ref 64)], [.int 31, .int 0, .int (-4)], (q_cM (q_uA q_AM 14 (upd (upd (fun _ => 0) 3 255) 9 1)) (q_uI q_IM 0 39 0) q_J0, 34, 31630))) 4 (fun _ _ => rfl) ?_
            refine q_Ru_call (v := (some (.int 0))) (h2 := (q_cM (q_uA q_AM 14 (upd (upd (fun _ => 0) 3 255) 9 1)) (q_uI q_IM 0 39 0) q_J0, 34, 31630)) rfl rfl ?_ ?_
            · refine q_Ca_of (Nat.le_of_ble_eq_true rfl) ?_
              refine q_Ru_seg (g2 := (15, [(0, .int (-4)), (1, .int 0), (2, .int 31)], [.int 0], (q_cM (q_uA q_AM 14 (upd (upd (fun _ => 0) 3 255) 9 1)) (q_uI q_IM 0 39 0) q_J0, 34, 31630))) 4 (fun _ _ => rfl) ?_
              exact q_Ru_ret rfl rfl
            show q_Ru _ _ _ (56, [(3, .int (-4)), (2, .int 0), (1, .int 0), (0, .ref 64)], [.int 0], (q_cM (q_uA q_AM 14 (upd (upd (fun _ => 0) 3 255) 9 1)) (q_uI q_IM 0 39 0) q_J0, 34, 31630)) _
            refine q_Ru_seg (g2 := (92, [(3, .int (-4)), (2, .int 0), (1, .int 0), (0, .ref 64)], [.ref 64], (q_cM (q_uA q_AM 14 (upd (upd (fun _ => 0) 3 255) 9 1)) (q_uI q_IM 0 39 0) q_J0, 34, 31630))) 2 (fun _ _ => rfl) ?_
            refine q_Ru_call (v := none) (h2 := (q_cM (q_uA q_AM 14 (upd (upd (fun _ => 0) 3 255) 9 1)) (q_uI (q_uI q_IM 0 39 0) 0 38 0) q_J0, 34, 31630)) rfl rfl ?_ ?_
            · refine q_Ca_of (Nat.le_of_ble_eq_true rfl) ?_
              refine q_Ru_seg (g2 := (9, [(0, .ref 64)], [.int 0, .int 0, .ref 64], (q_cM (q_uA q_AM 14 (upd (upd (fun _ => 0) 3 255) 9 1)) (q_uI q_IM 0 39 0) q_J0, 34, 31630))) 6 (fun _ _ => rfl) ?_
              refine q_Ru_call (v := (some (.int 0))) (h2 := (q_cM (q_uA q_AM 14 (upd (upd (fun _ => 0) 3 255) 9 1)) (q_uI q_IM 0 39 0) q_J0, 34, 31630)) rfl rfl ?_ ?_
              · refine q_Ca_of (Nat.le_of_ble_eq_true rfl) ?_
                refine q_Ru_seg (g2 := (14, [(0, .int 0), (1, .int 0)], [.int 0], (q_cM (q_uA q_AM 14 (upd (upd (fun _ => 0) 3 255) 9 1)) (q_uI q_IM 0 39 0) q_J0, 34, 31630))) 8 (fun _ _ => rfl) ?_
                exact q_Ru_ret rfl rfl
              show q_Ru _ _ _ (12, [(0, .ref 64)], [.int 0, .ref 64], (q_cM (q_uA q_AM 14 (upd (upd (fun _ => 0) 3 255) 9 1)) (q_uI q_IM 0 39 0) q_J0, 34, 31630)) _
              refine q_Ru_seg (g2 := (39, [(0, .ref 64)], [.int 1, .int 0], (q_cM (q_uA q_AM 14 (upd (upd (fun _ => 0) 3 255) 9 1)) (q_uI (q_uI q_IM 0 39 0) 0 38 0) q_J0, 34, 31630))) 8 (fun _ _ => rfl) ?_
              refine q_Ru_call (v := (some (.int 0))) (h2 := (q_cM (q_uA q_AM 14 (upd (upd (fun _ => 0) 3 255) 9 1)) (q_uI (q_uI q_IM 0 39 0) 0 38 0) q_J0, 34, 31630)) rfl rfl ?_ ?_
              · refine q_Ca_of (Nat.le_of_ble_eq_true rfl) ?_
                refine q_Ru_seg (g2 := (14, [(0, .int 0), (1, .int 1)], [.int 0], (q_cM (q_uA q_AM 14 (upd (upd (fun _ => 0) 3 255) 9 1)) (q_uI (q_uI q_IM 0 39 0) 0 38 0) q_J0, 34, 31630))) 8 (fun _ _ => rfl) ?_
                exact q_Ru_ret rfl rfl
              show q_Ru _ _ _ (42, [(0, .ref 64)], [.int 0], (q_cM (q_uA q_AM 14 (upd (upd (fun _ => 0) 3 255) 9 1)) (q_uI (q_uI q_IM 0 39 0) 0 38 0) q_J0, 34, 31630)) _
              refine q_Ru_seg (g2 := (72, [(0, .ref 64)], [], (q_cM (q_uA q_AM 14 (upd (upd (fun _ => 0) 3 255) 9 1)) (q_uI (q_uI q_IM 0 39 0) 0 38 0) q_J0, 34, 31630))) 1 (fun _ _ => rfl) ?_
              exact q_Ru_ret rfl rfl
            show q_Ru _ _ _ (95, [(3, .int (-4)), (2, .int 0), (1, .int 0), (0, .ref 64)], [], (q_cM (q_uA q_AM 14 (upd (upd (fun _ => 0) 3 255) 9 1)) (q_uI (q_uI q_IM 0 39 0) 0 38 0) q_J0, 34, 31630)) _
            refine q_Ru_seg (g2 := (96, [(3, .int (-4)), (2, .int 0), (1, .int 0), (0, .ref 64)], [.ref 64], (q_cM (q_uA q_AM 14 (upd (upd (fun _ => 0) 3 255) 9 1)) (q_uI (q_uI q_IM 0 39 0) 0 38 0) q_J0, 34, 31630))) 1 (fun _ _ => rfl) ?_
            refine q_Ru_call (v := none) (h2 := (q_cM (q_uA q_AM 14 (upd (upd (fun _ => 0) 3 255) 9 1)) (q_uI (q_uI q_IM 0 39 0) 0 38 0) q_J0, 34, 31630)) rfl rfl ?_ ?_
            · refine q_Ca_of (Nat.le_of_ble_eq_true rfl) ?_
              refine q_Ru_seg (g2 := (17, [(0, .ref 64)], [], (q_cM (q_uA q_AM 14 (upd (upd (fun _ => 0) 3 255) 9 1)) (q_uI (q_uI q_IM 0 39 0) 0 38 0) q_J0, 34, 31630))) 5 (fun _ _ => rfl) ?_
              exact q_Ru_ret rfl rfl
            show q_Ru _ _ _ (99, [(3, .int (-4)), (2, .int 0), (1, .int 0), (0, .ref 64)], [], (q_cM (q_uA q_AM 14 (upd (upd (fun _ => 0) 3 255) 9 1)) (q_uI (q_uI q_IM 0 39 0) 0 38 0) q_J0, 34, 31630)) _
            refine q_Ru_seg (g2 := (114, [(3, .int (-4)), (2, .int 0), (1, .int 0), (0, .ref 64)], [.ref 64], (q_cM (q_uA q_AM 14 (upd (upd (fun _ => 0) 3 255) 9 1)) (q_uI (q_uI q_IM 0 39 0) 0 38 0) q_J0, 34, 31630))) 6 (fun _ _ => rfl) ?_
            refine q_Ru_call (v := none) (h2 := (q_cM (q_uA q_AM 14 (upd (upd (upd (upd (upd (fun _ => 0) 3 255) 9 1) 18 0) 17 2) 17 1)) (q_uI (q_uI q_IM 0 39 0) 0 38 0) q_J0, 34, 31630)) rfl rfl ?_ ?_
            · refine q_Ca_of (Nat.le_of_ble_eq_true rfl) ?_
              refine q_Ru_seg (g2 := (22, [(0, .ref 64)], [.ref 64], (q_cM (q_uA q_AM 14 (upd (upd (fun _ => 0) 3 255) 9 1)) (q_uI (q_uI q_IM 0 39 0) 0 38 0) q_J0, 34, 31630))) 11 (fun _ _ => rfl) ?_
              refine q_Ru_call (v := none) (h2 := (q_cM (q_uA q_AM 14 (upd (upd (upd (upd (fun _ => 0) 3 255) 9 1) 18 0) 17 2)) (q_uI (q_uI q_IM 0 39 0) 0 38 0) q_J0, 34, 31630)) rfl rfl ?_ ?_
              · refine q_Ca_of (Nat.le_of_ble_eq_true rfl) ?_
                refine q_Ru_seg (g2 := (103, [(0, .ref 64)], [.int 0, .ref 64, .int 17, .ref 78], (q_cM (q_uA q_AM 14 (upd (upd (upd (fun _ => 0) 3 255) 9 1) 18 0)) (q_uI (q_uI q_IM 0 39 0) 0 38 0) q_J0, 34, 31630))) 38 (fun _ _ => rfl) ?_
                refine q_Ru_call (v := (some (.int 2))) (h2 := (q_cM (q_uA q_AM 14 (upd (upd (upd (fun _ => 0) 3 255) 9 1) 18 0)) (q_uI (q_uI q_IM 0 39 0) 0 38 0) q_J0, 34, 31630)) rfl rfl ?_ ?_
                · refine q_Ca_of (Nat.le_of_ble_eq_true rfl) ?_
                  refine q_Ru_seg (g2 := (2, [(0, .ref 64), (1, .int 0)], [.int 0, .ref 64], (q_cM (q_uA q_AM 14 (upd (upd (upd (fun _ => 0) 3 255) 9 1) 18 0)) (q_uI (q_uI q_IM 0 39 0) 0 38 0) q_J0, 34, 31630))) 2 (fun _ _ => rfl) ?_
                  refine q_Ru_call (v := (some (.int 0))) (h2 := (q_cM (q_uA q_AM 14 (upd (upd (upd (fun _ => 0) 3 255) 9 1) 18 0)) (q_uI (q_uI q_IM 0 39 0) 0 38 0) q_J0, 34, 31630)) rfl rfl ?_ ?_
                  · refine q_Ca_of (Nat.le_of_ble_eq_true rfl) ?_
                    refine q_Ru_seg (g2 := (2, [(0, .ref 64), (1, .int 0)], [.int 0, .ref 64], (q_cM (q_uA q_AM 14 (upd (upd (upd (fun _ => 0) 3 255) 9 1) 18 0)) (q_uI (q_uI q_IM 0 39 0) 0 38 0) q_J0, 34, 31630))) 2 (fun _ _ => rfl) ?_
                    refine q_Ru_call (v := (some (.int 0))) (h2 := (q_cM (q_uA q_AM 14 (upd (upd (upd (fun _ => 0) 3 255) 9 1) 18 0)) (q_uI (q_uI q_IM 0 39 0) 0 38 0) q_J0, 34, 31630)) rfl rfl ?_ ?_
                    · refine q_Ca_of (Nat.le_of_ble_eq_true rfl) ?_
                      refine q_Ru_seg (g2 := (5, [(0, .int 0)], [.int 0], (q_cM (q_uA q_AM 14 (upd (upd (upd (fun _ => 0) 3 255) 9 1) 18 0)) (q_uI (q_uI q_IM 0 39 0) 0 38 0) q_J0, 34, 31630))) 3 (fun _ _ => rfl) ?_
                      exact q_Ru_ret rfl rfl
                    show q_Ru _ _ _ (5, [(0, .ref 64), (1, .int 0)], [.int 0, .ref 64], (q_cM (q_uA q_AM 14 (upd (upd (upd (fun _ => 0) 3 255) 9 1) 18 0)) (q_uI (q_uI q_IM 0 39 0) 0 38 0) q_J0, 34, 31630)) _
                    refine q_Ru_call (v := (some (.int 0))) (h2 := (q_cM (q_uA q_AM 14 (upd (upd (upd (fun _ => 0) 3 255) 9 1) 18 0)) (q_uI (q_uI q_IM 0 39 0) 0 38 0) q_J0, 34, 31630)) rfl rfl ?_ ?_
                    · refine q_Ca_of (Nat.le_of_ble_eq_true rfl) ?_
                      refine q_Ru_seg (g2 := (7, [(0, .ref 64), (1, .int 0)], [.int 3887, .int 3840, .int 0], (q_cM (q_uA q_AM 14 (upd (upd (upd (fun _ => 0) 3 255) 9 1) 18 0)) (q_uI (q_uI q_IM 0 39 0) 0 38 0) q_J0, 34, 31630))) 3 (fun _ _ => rfl) ?_
                      refine q_Ru_call (v := (some (.int 0))) (h2 := (q_cM (q_uA q_AM 14 (upd (upd (upd (fun _ => 0) 3 255) 9 1) 18 0)) (q_uI (q_uI q_IM 0 39 0) 0 38 0) q_J0, 34, 31630)) rfl rfl ?_ ?_
                      · refine q_Ca_of (Nat.le_of_ble_eq_true rfl) ?_
                        refine q_Ru_seg (g2 := (15, [(0, .int 0), (1, .int 3840), (2, .int 3887)], [.int 0], (q_cM (q_uA q_AM 14 (upd (upd (upd (fun _ => 0) 3 255) 9 1) 18 0)) (q_uI (q_uI q_IM 0 39 0) 0 38 0) q_J0, 34, 31630))) 4 (fun _ _ => rfl) ?_
                        exact q_Ru_ret rfl rfl
                      show q_Ru _ _ _ (10, [(0, .ref 64), (1, .int 0)], [.int 0], (q_cM (q_uA q_AM 14 (upd (upd (upd (fun _ => 0) 3 255) 9 1) 18 0)) (q_uI (q_uI q_IM 0 39 0) 0 38 0) q_J0, 34, 31630)) _
                      refine q_Ru_seg (g2 := (30, [(0, .ref 64), (1, .int 0)], [.int 3583, .int 3072, .int 0], (q_cM (q_uA q_AM 14 (upd (upd (upd (fun _ => 0) 3 255) 9 1) 18 0)) (q_uI (q_uI q_IM 0 39 0) 0 38 0) q_J0, 34, 31630))) 4 (fun _ _ => rfl) ?_
                      refine q_Ru_call (v := (some (.int 0))) (h2 := (q_cM (q_uA q_AM 14 (upd (upd (upd (fun _ => 0) 3 255) 9 1) 18 0)) (q_uI (q_uI q_IM 0 39 0) 0 38 0) q_J0, 34, 31630)) rfl rfl ?_ ?_
                      · refine q_Ca_of (Nat.le_of_ble_eq_true rfl) ?_
                        refine q_Ru_seg (g2 := (15, [(0, .int 0), (1, .int 3072), (2, .int 3583)], [.int 0], (q_cM (q_uA q_AM 14 (upd (upd (upd (fun _ => 0) 3 255) 9 1) 18 0)) (q_uI (q_uI q_IM 0 39 0) 0 38 0) q_J0, 34, 31630))) 4 (fun _ _ => rfl) ?_
                        exact q_Ru_ret rfl rfl
                      show q_Ru _ _ _ (33, [(0, .ref 64), (1, .int 0)], [.int 0], (q_cM (q_uA q_AM 14 (upd (upd (upd (fun _ => 0) 3 255) 9 1) 18 0)) (q_uI (q_uI q_IM 0 39 0) 0 38 0) q_J0, 34, 31630)) _
                      refine q_Ru_seg (g2 := (67, [(0, .ref 64), (1, .int 0)], [.int 2559, .int 2048, .int 0], (q_cM (q_uA q_AM 14 (upd (upd (upd (fun _ => 0) 3 255) 9 1) 18 0)) (q_uI (q_uI q_IM 0 39 0) 0 38 0) q_J0, 34, 31630))) 4 (fun _ _ => rfl) ?_
                      refine q_Ru_call (v := (some (.int 0))) (h2 := (q_cM (q_uA q_AM 14 (upd (upd (upd (fun _ => 0) 3 255) 9 1) 18 0)) (q_uI (q_uI q_IM 0 39 0) 0 38 0) q_J0, 34, 31630)) rfl rfl ?_ ?_
                      · refine q_Ca_of (Nat.le_of_ble_eq_true rfl) ?_
                        refine q_Ru_seg (g2 := (15, [(0, .int 0), (1, .int 2048), (2, .int 2559)], [.int 0], (q_cM (q_uA q_AM 14 (upd (upd (upd (fun _ => 0) 3 255) 9 1) 18 0)) (q_uI (q_uI q_IM 0 39 0) 0 38 0) q_J0, 34, 31630))) 4 (fun _ _ => rfl) ?_
                        exact q_Ru_ret rfl rfl
                      show q_Ru _ _ _ (70, [(0, .ref 64), (1, .int 0)], [.int 0], (q_cM (q_uA q_AM 14 (upd (upd (upd (fun _ => 0) 3 255) 9 1) 18 0)) (q_uI (q_uI q_IM 0 39 0) 0 38 0) q_J0, 34, 31630)) _
                      refine q_Ru_seg (g2 := (116, [(0, .ref 64), (1, .int 0)], [.int 0], (q_cM (q_uA q_AM 14 (upd (upd (upd (fun _ => 0) 3 255) 9 1) 18 0)) (q_uI (q_uI q_IM 0 39 0) 0 38 0) q_J0, 34, 31630))) 5 (fun _ _ => rfl) ?_
                      exact q_Ru_ret rfl rfl
                    show q_Ru _ _ _ (8, [(0, .ref 64), (1, .int 0)], [.int 0], (q_cM (q_uA q_AM 14 (upd (upd (upd (fun _ => 0) 3 255) 9 1) 18 0)) (q_uI (q_uI q_IM 0 39 0) 0 38 0) q_J0, 34, 31630)) _
                    exact q_Ru_ret rfl rfl
                  show q_Ru _ _ _ (5, [(0, .ref 64), (1, .int 0)], [.int 0], (q_cM (q_uA q_AM 14 (upd (upd (upd (fun _ => 0) 3 255) 9 1) 18 0)) (q_uI (q_uI q_IM 0 39 0) 0 38 0) q_J0, 34, 31630)) _
                  refine q_Ru_seg (g2 := (7, [(2, .int 0), (0, .ref 64), (1, .int 0)], [.int 0], (q_cM (q_uA q_AM 14 (upd (upd (upd (fun _ => 0) 3 255) 9 1) 18 0)) (q_uI (q_uI q_IM 0 39 0) 0 38 0) q_J0, 34, 31630))) 2 (fun _ _ => rfl) ?_
                  refine q_Ru_call (v := (some (.int 0))) (h2 := (q_cM (q_uA q_AM 14 (upd (upd (upd (fun _ => 0) 3 255) 9 1) 18 0)) (q_uI (q_uI q_IM 0 39 0) 0 38 0) q_J0, 34, 31630)) rfl rfl ?_ ?_
                  · refine q_Ca_of (Nat.le_of_ble_eq_true rfl) ?_
                    refine q_Ru_seg (g2 := (42, [(0, .int 0)], [.int 0], (q_cM (q_uA q_AM 14 (upd (upd (upd (fun _ => 0) 3 255) 9 1) 18 0)) (q_uI (q_uI q_IM 0 39 0) 0 38 0) q_J0, 34, 31630))) 7 (fun _ _ => rfl) ?_
                    exact q_Ru_ret rfl rfl
                  show q_Ru _ _ _ (10, [(2, .int 0), (0, .ref 64), (1, .int 0)], [.int 0], (q_cM (q_uA q_AM 14 (upd (upd (upd (fun _ => 0) 3 255) 9 1) 18 0)) (q_uI (q_uI q_IM 0 39 0) 0 38 0) q_J0, 34, 31630)) _
                  refine q_Ru_seg (g2 := (22, [(3, .int 0), (2, .int 0), (0, .ref 64), (1, .int 0)], [.int 0, .int 0, .int 0, .ref 64], (q_cM (q_uA q_AM 14 (upd (upd (upd (fun _ => 0) 3 255) 9 1) 18 0)) (q_uI (q_uI q_IM 0 39 0) 0 38 0) q_J0, 34, 31630))) 9 (fun _ _ => rfl) ?_
                  refine q_Ru_call (v := (some (.int 2))) (h2 := (q_cM (q_uA q_AM 14 (upd (upd (upd (fun _ => 0) 3 255) 9 1) 18 0)) (q_uI (q_uI q_IM 0 39 0) 0 38 0) q_J0, 34, 31630)) rfl rfl ?_ ?_
                  · refine q_Ca_of (Nat.le_of_ble_eq_true rfl) ?_
                    refine q_Ru_seg (g2 := (5, [(0, .ref 64), (1, .int 0), (2, .int 0), (3, .int 0)], [.int 2], (q_cM (q_uA q_AM 14 (upd (upd (upd (fun _ => 0) 3 255) 9 1) 18 0)) (q_uI (q_uI q_IM 0 39 0) 0 38 0) q_J0, 34, 31630))) 3 (fun _ _ => rfl) ?_
                    exact q_Ru_ret rfl rfl
                  show q_Ru _ _ _ (25, [(3, .int 0), (2, .int 0), (0, .ref 64), (1, .int 0)], [.int 2], (q_cM (q_uA q_AM 14 (upd (upd (upd (fun _ => 0) 3 255) 9 1) 18 0)) (q_uI (q_uI q_IM 0 39 0) 0 38 0) q_J0, 34, 31630)) _
                  exact q_Ru_ret rfl rfl
                show q_Ru _ _ _ (106, [(0, .ref 64)], [.int 2, .int 17, .ref 78], (q_cM (q_uA q_AM 14 (upd (upd (upd (fun _ => 0) 3 255) 9 1) 18 0)) (q_uI (q_uI q_IM 0 39 0) 0 38 0) q_J0, 34, 31630)) _
                refine q_Ru_seg (g2 := (107, [(0, .ref 64)], [], (q_cM (q_uA q_AM 14 (upd (upd (upd (upd (fun _ => 0) 3 255) 9 1) 18 0) 17 2)) (q_uI (q_uI q_IM 0 39 0) 0 38 0) q_J0, 34, 31630))) 1 (fun _ _ => rfl) ?_
                exact q_Ru_ret rfl rfl
              show q_Ru _ _ _ (25, [(0, .ref 64)], [], (q_cM (q_uA q_AM 14 (upd (upd (upd (upd (fun _ => 0) 3 255) 9 1) 18 0) 17 2)) (q_uI (q_uI q_IM 0 39 0) 0 38 0) q_J0, 34, 31630)) _
              refine q_Ru_seg (g2 := (46, [(0, .ref 64)], [], (q_cM (q_uA q_AM 14 (upd (upd (upd (upd (upd (fun _ => 0) 3 255) 9 1) 18 0) 17 2) 17 1)) (q_uI (q_uI q_IM 0 39 0) 0 38 0) q_J0, 34, 31630))) 13 (fun _ _ => rfl) ?_
              exact q_Ru_ret rfl rfl
            show q_Ru _ _ _ (117, [(3, .int (-4)), (2, .int 0), (1, .int 0), (0, .ref 64)], [], (q_cM (q_uA q_AM 14 (upd (upd (upd (upd (upd (fun _ => 0) 3 255) 9 1) 18 0) 17 2) 17 1)) (q_uI (q_uI q_IM 0 39 0) 0 38 0) q_J0, 34, 31630)) _
            refine q_Ru_seg (g2 := (146, [(3, .int (-4)), (2, .int 0), (1, .int 0), (0, .ref 64)], [.int 0], (q_cM (q_uA q_AM 14 (upd (upd (upd (upd (upd (fun _ => 0) 3 255) 9 1) 18 0) 17 2) 17 1)) (q_uI (q_uI q_IM 0 39 0) 0 38 0) (q_uI (q_uI q_J0 0 16 0) 0 15 1), 34, 31630))) 15 (fun _ _ => rfl) ?_
            exact q_Ru_ret rfl rfl
          show q_Ru _ _ _ (39, [(3, .int 0), (2, .int 0), (0, .ref 64), (1, .int a)], [.int 0, .int 0], (q_cM (q_uA q_AM 14 (upd (upd (upd (upd (upd (fun _ => 0) 3 255) 9 1) 18 0) 17 2) 17 1)) (q_uI (q_uI q_IM 0 39 0) 0 38 0) (q_uI (q_uI q_J0 0 16 0) 0 15 1), 34, 31630)) _
          refine q_Ru_seg (g2 := (29, [(3, .int 1), (2, .int 0), (0, .ref 64), (1, .int a)], [], (q_cM (q_uA q_AM 14 (upd (upd (upd (upd (upd (fun _ => 0) 3 255) 9 1) 18 0) 17 2) 17 1)) (q_uI (q_uI q_IM 0 39 0) 0 38 0) (q_uI (q_uI q_J0 0 16 0) 0 15 1), 34, 31630))) 6 (fun _ _ => rfl) ?_
          rw [r217]; exact q_Ru_le (Nat.le_of_ble_eq_true rfl) p217
      | false =>
        exact q_no (q_lo1 h227) (q_hi2 h229) (by decide)
