theorem q_astB_35 {nx pc : Nat} {L : q_L} {v i : Int32} {r : List Value} {A I : Nat → Nat → Int32} {J : Nat → Nat → Int64} {c s : Nat} : q_ast nx 4 (vp_nar .byte) (pc, L, .int v :: .int i :: .ref 99 :: r, (q_cX A I J, c, s)) = some (q_in i 16, (nx, L, r, (q_cX (q_uA A 35 (upd (A 35) i.toNatClampNeg (vp_nar .byte v))) I J, c, s)), none) := rfl
set_option maxHeartbeats 4000000 in
theorem q_p_reads1 (f g : Nat → Int32) (I : Nat → Nat → Int32) (a : Int32) (hl : 0 ≤ a.toInt) (hu : a.toInt ≤ 4095) : ∃ f2, q_Ca q_TB0 4 214 [.ref 64, .int a] (q_cM (q_uA (q_uA q_AM 33 f) 32 g) I q_J0, 34, 31630) (.inl (some (.int 0)), (q_cM (q_uA (q_uA q_AM 33 f2) 32 g) I q_J0, 34, 31630)) := by
  cases h133 : decide (a < 3840) with
  | true =>
    cases h134 : decide (a < 3072) with
    | true =>
      cases h135 : decide (a < 2048) with
      | true =>
        refine ⟨f, ?_⟩
        refine q_Ca_of (Nat.le_of_ble_eq_true rfl) ?_
        refine q_Ru_seg (g2 := (7, [(0, .ref 64), (1, .int a)], [.int 3887, .int 3840, .int a], (q_cM (q_uA (q_uA q_AM 33 f) 32 g) I q_J0, 34, 31630))) 3 (fun _ _ => rfl) ?_
        refine q_Ru_call (v := (some (.int 0))) (h2 := (q_cM (q_uA (q_uA q_AM 33 f) 32 g) I q_J0, 34, 31630)) rfl rfl ?_ ?_
        · refine q_Ca_of (Nat.le_of_ble_eq_true rfl) ?_
          refine q_Ru_seg (g2 := (2, [(0, .int a), (1, .int 3840), (2, .int 3887)], [.int 3840, .int a], (q_cM (q_uA (q_uA q_AM 33 f) 32 g) I q_J0, 34, 31630))) 2 (fun _ _ => rfl) ?_
          refine q_Ru_rsT (g2 := (14, [(0, .int a), (1, .int 3840), (2, .int 3887)], [], (q_cM (q_uA (q_uA q_AM 33 f) 32 g) I q_J0, 34, 31630))) rfl rfl h133 ?_
          refine q_Ru_seg (g2 := (15, [(0, .int a), (1, .int 3840), (2, .int 3887)], [.int 0], (q_cM (q_uA (q_uA q_AM 33 f) 32 g) I q_J0, 34, 31630))) 1 (fun _ _ => rfl) ?_
          exact q_Ru_ret rfl rfl
        show q_Ru _ _ _ (10, [(0, .ref 64), (1, .int a)], [.int 0], (q_cM (q_uA (q_uA q_AM 33 f) 32 g) I q_J0, 34, 31630)) _
        refine q_Ru_seg (g2 := (30, [(0, .ref 64), (1, .int a)], [.int 3583, .int 3072, .int a], (q_cM (q_uA (q_uA q_AM 33 f) 32 g) I q_J0, 34, 31630))) 4 (fun _ _ => rfl) ?_
        refine q_Ru_call (v := (some (.int 0))) (h2 := (q_cM (q_uA (q_uA q_AM 33 f) 32 g) I q_J0, 34, 31630)) rfl rfl ?_ ?_
        · refine q_Ca_of (Nat.le_of_ble_eq_true rfl) ?_
          refine q_Ru_seg (g2 := (2, [(0, .int a), (1, .int 3072), (2, .int 3583)], [.int 3072, .int a], (q_cM (q_uA (q_uA q_AM 33 f) 32 g) I q_J0, 34, 31630))) 2 (fun _ _ => rfl) ?_
          refine q_Ru_rsT (g2 := (14, [(0, .int a), (1, .int 3072), (2, .int 3583)], [], (q_cM (q_uA (q_uA q_AM 33 f) 32 g) I q_J0, 34, 31630))) rfl rfl h134 ?_
          refine q_Ru_seg (g2 := (15, [(0, .int a), (1, .int 3072), (2, .int 3583)], [.int 0], (q_cM (q_uA (q_uA q_AM 33 f) 32 g) I q_J0, 34, 31630))) 1 (fun _ _ => rfl) ?_
          exact q_Ru_ret rfl rfl
        show q_Ru _ _ _ (33, [(0, .ref 64), (1, .int a)], [.int 0], (q_cM (q_uA (q_uA q_AM 33 f) 32 g) I q_J0, 34, 31630)) _
        refine q_Ru_seg (g2 := (67, [(0, .ref 64), (1, .int a)], [.int 2559, .int 2048, .int a], (q_cM (q_uA (q_uA q_AM 33 f) 32 g) I q_J0, 34, 31630))) 4 (fun _ _ => rfl) ?_
        refine q_Ru_call (v := (some (.int 0))) (h2 := (q_cM (q_uA (q_uA q_AM 33 f) 32 g) I q_J0, 34, 31630)) rfl rfl ?_ ?_
        · refine q_Ca_of (Nat.le_of_ble_eq_true rfl) ?_
          refine q_Ru_seg (g2 := (2, [(0, .int a), (1, .int 2048), (2, .int 2559)], [.int 2048, .int a], (q_cM (q_uA (q_uA q_AM 33 f) 32 g) I q_J0, 34, 31630))) 2 (fun _ _ => rfl) ?_
          refine q_Ru_rsT (g2 := (14, [(0, .int a), (1, .int 2048), (2, .int 2559)], [], (q_cM (q_uA (q_uA q_AM 33 f) 32 g) I q_J0, 34, 31630))) rfl rfl h135 ?_
          refine q_Ru_seg (g2 := (15, [(0, .int a), (1, .int 2048), (2, .int 2559)], [.int 0], (q_cM (q_uA (q_uA q_AM 33 f) 32 g) I q_J0, 34, 31630))) 1 (fun _ _ => rfl) ?_
          exact q_Ru_ret rfl rfl
        show q_Ru _ _ _ (70, [(0, .ref 64), (1, .int a)], [.int 0], (q_cM (q_uA (q_uA q_AM 33 f) 32 g) I q_J0, 34, 31630)) _
        refine q_Ru_seg (g2 := (115, [(0, .ref 64), (1, .int a)], [.int a, .ref 65], (q_cM (q_uA (q_uA q_AM 33 f) 32 g) I q_J0, 34, 31630))) 4 (fun _ _ => rfl) ?_
        refine q_Ru_rsT (g2 := (116, [(0, .ref 64), (1, .int a)], [.int 0], (q_cM (q_uA (q_uA q_AM 33 f) 32 g) I q_J0, 34, 31630))) rfl rfl (q_in_bd (x := a) (n := 4096) (U := 2047) (L := 0) hl (q_hi1 h135)) ?_
        exact q_Ru_ret rfl rfl
      | false =>
        cases h136 : decide (2559 < a) with
        | true =>
          refine ⟨f, ?_⟩
          refine q_Ca_of (Nat.le_of_ble_eq_true rfl) ?_
          refine q_Ru_seg (g2 := (7, [(0, .ref 64), (1, .int a)], [.int 3887, .int 3840, .int a], (q_cM (q_uA (q_uA q_AM 33 f) 32 g) I q_J0, 34, 31630))) 3 (fun _ _ => rfl) ?_
          refine q_Ru_call (v := (some (.int 0))) (h2 := (q_cM (q_uA (q_uA q_AM 33 f) 32 g) I q_J0, 34, 31630)) rfl rfl ?_ ?_
          · refine q_Ca_of (Nat.le_of_ble_eq_true rfl) ?_
            refine q_Ru_seg (g2 := (2, [(0, .int a), (1, .int 3840), (2, .int 3887)], [.int 3840, .int a], (q_cM (q_uA (q_uA q_AM 33 f) 32 g) I q_J0, 34, 31630))) 2 (fun _ _ => rfl) ?_
            refine q_Ru_rsT (g2 := (14, [(0, .int a), (1, .int 3840), (2, .int 3887)], [], (q_cM (q_uA (q_uA q_AM 33 f) 32 g) I q_J0, 34, 31630))) rfl rfl h133 ?_
            refine q_Ru_seg (g2 := (15, [(0, .int a), (1, .int 3840), (2, .int 3887)], [.int 0], (q_cM (q_uA (q_uA q_AM 33 f) 32 g) I q_J0, 34, 31630))) 1 (fun _ _ => rfl) ?_
            exact q_Ru_ret rfl rfl
          show q_Ru _ _ _ (10, [(0, .ref 64), (1, .int a)], [.int 0], (q_cM (q_uA (q_uA q_AM 33 f) 32 g) I q_J0, 34, 31630)) _
          refine q_Ru_seg (g2 := (30, [(0, .ref 64), (1, .int a)], [.int 3583, .int 3072, .int a], (q_cM (q_uA (q_uA q_AM 33 f) 32 g) I q_J0, 34, 31630))) 4 (fun _ _ => rfl) ?_
          refine q_Ru_call (v := (some (.int 0))) (h2 := (q_cM (q_uA (q_uA q_AM 33 f) 32 g) I q_J0, 34, 31630)) rfl rfl ?_ ?_
          · refine q_Ca_of (Nat.le_of_ble_eq_true rfl) ?_
            refine q_Ru_seg (g2 := (2, [(0, .int a), (1, .int 3072), (2, .int 3583)], [.int 3072, .int a], (q_cM (q_uA (q_uA q_AM 33 f) 32 g) I q_J0, 34, 31630))) 2 (fun _ _ => rfl) ?_
            refine q_Ru_rsT (g2 := (14, [(0, .int a), (1, .int 3072), (2, .int 3583)], [], (q_cM (q_uA (q_uA q_AM 33 f) 32 g) I q_J0, 34, 31630))) rfl rfl h134 ?_
            refine q_Ru_seg (g2 := (15, [(0, .int a), (1, .int 3072), (2, .int 3583)], [.int 0], (q_cM (q_uA (q_uA q_AM 33 f) 32 g) I q_J0, 34, 31630))) 1 (fun _ _ => rfl) ?_
            exact q_Ru_ret rfl rfl
          show q_Ru _ _ _ (33, [(0, .ref 64), (1, .int a)], [.int 0], (q_cM (q_uA (q_uA q_AM 33 f) 32 g) I q_J0, 34, 31630)) _
          refine q_Ru_seg (g2 := (67, [(0, .ref 64), (1, .int a)], [.int 2559, .int 2048, .int a], (q_cM (q_uA (q_uA q_AM 33 f) 32 g) I q_J0, 34, 31630))) 4 (fun _ _ => rfl) ?_
          refine q_Ru_call (v := (some (.int 0))) (h2 := (q_cM (q_uA (q_uA q_AM 33 f) 32 g) I q_J0, 34, 31630)) rfl rfl ?_ ?_
          · refine q_Ca_of (Nat.le_of_ble_eq_true rfl) ?_
            refine q_Ru_seg (g2 := (2, [(0, .int a), (1, .int 2048), (2, .int 2559)], [.int 2048, .int a], (q_cM (q_uA (q_uA q_AM 33 f) 32 g) I q_J0, 34, 31630))) 2 (fun _ _ => rfl) ?_
            refine q_Ru_rsF (g2 := (5, [(0, .int a), (1, .int 2048), (2, .int 2559)], [], (q_cM (q_uA (q_uA q_AM 33 f) 32 g) I q_J0, 34, 31630))) rfl rfl h135 ?_
            refine q_Ru_seg (g2 := (7, [(0, .int a), (1, .int 2048), (2, .int 2559)], [.int 2559, .int a], (q_cM (q_uA (q_uA q_AM 33 f) 32 g) I q_J0, 34, 31630))) 2 (fun _ _ => rfl) ?_
            refine q_Ru_rsT (g2 := (14, [(0, .int a), (1, .int 2048), (2, .int 2559)], [], (q_cM (q_uA (q_uA q_AM 33 f) 32 g) I q_J0, 34, 31630))) rfl rfl h136 ?_
            refine q_Ru_seg (g2 := (15, [(0, .int a), (1, .int 2048), (2, .int 2559)], [.int 0], (q_cM (q_uA (q_uA q_AM 33 f) 32 g) I q_J0, 34, 31630))) 1 (fun _ _ => rfl) ?_
            exact q_Ru_ret rfl rfl
          show q_Ru _ _ _ (70, [(0, .ref 64), (1, .int a)], [.int 0], (q_cM (q_uA (q_uA q_AM 33 f) 32 g) I q_J0, 34, 31630)) _
          refine q_Ru_seg (g2 := (115, [(0, .ref 64), (1, .int a)], [.int a, .ref 65], (q_cM (q_uA (q_uA q_AM 33 f) 32 g) I q_J0, 34, 31630))) 4 (fun _ _ => rfl) ?_
          refine q_Ru_rsT (g2 := (116, [(0, .ref 64), (1, .int a)], [.int 0], (q_cM (q_uA (q_uA q_AM 33 f) 32 g) I q_J0, 34, 31630))) rfl rfl (q_in_bd (x := a) (n := 4096) (U := 3071) (L := 2560) (q_lo2 h136) (q_hi1 h134)) ?_
          exact q_Ru_ret rfl rfl
        | false =>
          refine ⟨f, ?_⟩
          refine q_Ca_of (Nat.le_of_ble_eq_true rfl) ?_
          refine q_Ru_seg (g2 := (7, [(0, .ref 64), (1, .int a)], [.int 3887, .int 3840, .int a], (q_cM (q_uA (q_uA q_AM 33 f) 32 g) I q_J0, 34, 31630))) 3 (fun _ _ => rfl) ?_
          refine q_Ru_call (v := (some (.int 0))) (h2 := (q_cM (q_uA (q_uA q_AM 33 f) 32 g) I q_J0, 34, 31630)) rfl rfl ?_ ?_
          · refine q_Ca_of (Nat.le_of_ble_eq_true rfl) ?_
            refine q_Ru_seg (g2 := (2, [(0, .int a), (1, .int 3840), (2, .int 3887)], [.int 3840, .int a], (q_cM (q_uA (q_uA q_AM 33 f) 32 g) I q_J0, 34, 31630))) 2 (fun _ _ => rfl) ?_
            refine q_Ru_rsT (g2 := (14, [(0, .int a), (1, .int 3840), (2, .int 3887)], [], (q_cM (q_uA (q_uA q_AM 33 f) 32 g) I q_J0, 34, 31630))) rfl rfl h133 ?_
            refine q_Ru_seg (g2 := (15, [(0, .int a), (1, .int 3840), (2, .int 3887)], [.int 0], (q_cM (q_uA (q_uA q_AM 33 f) 32 g) I q_J0, 34, 31630))) 1 (fun _ _ => rfl) ?_
            exact q_Ru_ret rfl rfl
          show q_Ru _ _ _ (10, [(0, .ref 64), (1, .int a)], [.int 0], (q_cM (q_uA (q_uA q_AM 33 f) 32 g) I q_J0, 34, 31630)) _
          refine q_Ru_seg (g2 := (30, [(0, .ref 64), (1, .int a)], [.int 3583, .int 3072, .int a], (q_cM (q_uA (q_uA q_AM 33 f) 32 g) I q_J0, 34, 31630))) 4 (fun _ _ => rfl) ?_
          refine q_Ru_call (v := (some (.int 0))) (h2 := (q_cM (q_uA (q_uA q_AM 33 f) 32 g) I q_J0, 34, 31630)) rfl rfl ?_ ?_
          · refine q_Ca_of (Nat.le_of_ble_eq_true rfl) ?_
            refine q_Ru_seg (g2 := (2, [(0, .int a), (1, .int 3072), (2, .int 3583)], [.int 3072, .int a], (q_cM (q_uA (q_uA q_AM 33 f) 32 g) I q_J0, 34, 31630))) 2 (fun _ _ => rfl) ?_
            refine q_Ru_rsT (g2 := (14, [(0, .int a), (1, .int 3072), (2, .int 3583)], [], (q_cM (q_uA (q_uA q_AM 33 f) 32 g) I q_J0, 34, 31630))) rfl rfl h134 ?_
            refine q_Ru_seg (g2 := (15, [(0, .int a), (1, .int 3072), (2, .int 3583)], [.int 0], (q_cM (q_uA (q_uA q_AM 33 f) 32 g) I q_J0, 34, 31630))) 1 (fun _ _ => rfl) ?_
            exact q_Ru_ret rfl rfl
          show q_Ru _ _ _ (33, [(0, .ref 64), (1, .int a)], [.int 0], (q_cM (q_uA (q_uA q_AM 33 f) 32 g) I q_J0, 34, 31630)) _
          refine q_Ru_seg (g2 := (67, [(0, .ref 64), (1, .int a)], [.int 2559, .int 2048, .int a], (q_cM (q_uA (q_uA q_AM 33 f) 32 g) I q_J0, 34, 31630))) 4 (fun _ _ => rfl) ?_
          refine q_Ru_call (v := (some (.int 1))) (h2 := (q_cM (q_uA (q_uA q_AM 33 f) 32 g) I q_J0, 34, 31630)) rfl rfl ?_ ?_
          · refine q_Ca_of (Nat.le_of_ble_eq_true rfl) ?_
            refine q_Ru_seg (g2 := (2, [(0, .int a), (1, .int 2048), (2, .int 2559)], [.int 2048, .int a], (q_cM (q_uA (q_uA q_AM 33 f) 32 g) I q_J0, 34, 31630))) 2 (fun _ _ => rfl) ?_
            refine q_Ru_rsF (g2 := (5, [(0, .int a), (1, .int 2048), (2, .int 2559)], [], (q_cM (q_uA (q_uA q_AM 33 f) 32 g) I q_J0, 34, 31630))) rfl rfl h135 ?_
            refine q_Ru_seg (g2 := (7, [(0, .int a), (1, .int 2048), (2, .int 2559)], [.int 2559, .int a], (q_cM (q_uA (q_uA q_AM 33 f) 32 g) I q_J0, 34, 31630))) 2 (fun _ _ => rfl) ?_
            refine q_Ru_rsF (g2 := (10, [(0, .int a), (1, .int 2048), (2, .int 2559)], [], (q_cM (q_uA (q_uA q_AM 33 f) 32 g) I q_J0, 34, 31630))) rfl rfl h136 ?_
            refine q_Ru_seg (g2 := (15, [(0, .int a), (1, .int 2048), (2, .int 2559)], [.int 1], (q_cM (q_uA (q_uA q_AM 33 f) 32 g) I q_J0, 34, 31630))) 2 (fun _ _ => rfl) ?_
            exact q_Ru_ret rfl rfl
          show q_Ru _ _ _ (70, [(0, .ref 64), (1, .int a)], [.int 1], (q_cM (q_uA (q_uA q_AM 33 f) 32 g) I q_J0, 34, 31630)) _
          refine q_Ru_seg (g2 := (79, [(0, .ref 64), (1, .int a)], [.int 0], (q_cM (q_uA (q_uA q_AM 33 f) 32 g) I q_J0, 34, 31630))) 5 (fun _ _ => rfl) ?_
          refine q_Ru_seg (g2 := (80, [(0, .ref 64), (1, .int a)], [.int 1, .int 0], (q_cM (q_uA (q_uA q_AM 33 f) 32 g) I q_J0, 34, 31630))) 1 (fun _ _ => rfl) ?_
          refine q_Ru_call (v := (some (.int 0))) (h2 := (q_cM (q_uA (q_uA q_AM 33 f) 32 g) I q_J0, 34, 31630)) rfl rfl ?_ ?_
          · refine q_Ca_of (Nat.le_of_ble_eq_true rfl) ?_
            refine q_Ru_seg (g2 := (14, [(0, .int 0), (1, .int 1)], [.int 0], (q_cM (q_uA (q_uA q_AM 33 f) 32 g) I q_J0, 34, 31630))) 8 (fun _ _ => rfl) ?_
            exact q_Ru_ret rfl rfl
          show q_Ru _ _ _ (83, [(0, .ref 64), (1, .int a)], [.int 0], (q_cM (q_uA (q_uA q_AM 33 f) 32 g) I q_J0, 34, 31630)) _
          refine q_Ru_seg (g2 := (115, [(0, .ref 64), (1, .int a)], [.int a, .ref 65], (q_cM (q_uA (q_uA q_AM 33 f) 32 g) I q_J0, 34, 31630))) 4 (fun _ _ => rfl) ?_
          refine q_Ru_rsT (g2 := (116, [(0, .ref 64), (1, .int a)], [.int 0], (q_cM (q_uA (q_uA q_AM 33 f) 32 g) I q_J0, 34, 31630))) rfl rfl (q_in_bd (x := a) (n := 4096) (U := 2559) (L := 2048) (q_lo1 h135) (q_hi2 h136)) ?_
          exact q_Ru_ret rfl rfl
    | false =>
      cases h137 : decide (3583 < a) with
      | true =>
        cases h138 : decide (a < 2048) with
        | true =>
          exact q_no (q_lo2 h137) (q_hi1 h138) (by decide)
        | false =>
          cases h139 : decide (2559 < a) with
          | true =>
            refine ⟨f, ?_⟩
            refine q_Ca_of (Nat.le_of_ble_eq_true rfl) ?_
            refine q_Ru_seg (g2 := (7, [(0, .ref 64), (1, .int a)], [.int 3887, .int 3840, .int a], (q_cM (q_uA (q_uA q_AM 33 f) 32 g) I q_J0, 34, 31630))) 3 (fun _ _ => rfl) ?_
            refine q_Ru_call (v := (some (.int 0))) (h2 := (q_cM (q_uA (q_uA q_AM 33 f) 32 g) I q_J0, 34, 31630)) rfl rfl ?_ ?_
            · refine q_Ca_of (Nat.le_of_ble_eq_true rfl) ?_
              refine q_Ru_seg (g2 := (2, [(0, .int a), (1, .int 3840), (2, .int 3887)], [.int 3840, .int a], (q_cM (q_uA (q_uA q_AM 33 f) 32 g) I q_J0, 34, 31630))) 2 (fun _ _ => rfl) ?_
              refine q_Ru_rsT (g2 := (14, [(0, .int a), (1, .int 3840), (2, .int 3887)], [], (q_cM (q_uA (q_uA q_AM 33 f) 32 g) I q_J0, 34, 31630))) rfl rfl h133 ?_
              refine q_Ru_seg (g2 := (15, [(0, .int a), (1, .int 3840), (2, .int 3887)], [.int 0], (q_cM (q_uA (q_uA q_AM 33 f) 32 g) I q_J0, 34, 31630))) 1 (fun _ _ => rfl) ?_
              exact q_Ru_ret rfl rfl
            show q_Ru _ _ _ (10, [(0, .ref 64), (1, .int a)], [.int 0], (q_cM (q_uA (q_uA q_AM 33 f) 32 g) I q_J0, 34, 31630)) _
            refine q_Ru_seg (g2 := (30, [(0, .ref 64), (1, .int a)], [.int 3583, .int 3072, .int a], (q_cM (q_uA (q_uA q_AM 33 f) 32 g) I q_J0, 34, 31630))) 4 (fun _ _ => rfl) ?_
            refine q_Ru_call (v := (some (.int 0))) (h2 := (q_cM (q_uA (q_uA q_AM 33 f) 32 g) I q_J0, 34, 31630)) rfl rfl ?_ ?_
            · refine q_Ca_of (Nat.le_of_ble_eq_true rfl) ?_
              refine q_Ru_seg (g2 := (2, [(0, .int a), (1, .int 3072), (2, .int 3583)], [.int 3072, .int a], (q_cM (q_uA (q_uA q_AM 33 f) 32 g) I q_J0, 34, 31630))) 2 (fun _ _ => rfl) ?_
              refine q_Ru_rsF (g2 := (5, [(0, .int a), (1, .int 3072), (2, .int 3583)], [], (q_cM (q_uA (q_uA q_AM 33 f) 32 g) I q_J0, 34, 31630))) rfl rfl h134 ?_
              refine q_Ru_seg (g2 := (7, [(0, .int a), (1, .int 3072), (2, .int 3583)], [.int 3583, .int a], (q_cM (q_uA (q_uA q_AM 33 f) 32 g) I q_J0, 34, 31630))) 2 (fun _ _ => rfl) ?_
              refine q_Ru_rsT (g2 := (14, [(0, .int a), (1, .int 3072), (2, .int 3583)], [], (q_cM (q_uA (q_uA q_AM 33 f) 32 g) I q_J0, 34, 31630))) rfl rfl h137 ?_
              refine q_Ru_seg (g2 := (15, [(0, .int a), (1, .int 3072), (2, .int 3583)], [.int 0], (q_cM (q_uA (q_uA q_AM 33 f) 32 g) I q_J0, 34, 31630))) 1 (fun _ _ => rfl) ?_
              exact q_Ru_ret rfl rfl
            show q_Ru _ _ _ (33, [(0, .ref 64), (1, .int a)], [.int 0], (q_cM (q_uA (q_uA q_AM 33 f) 32 g) I q_J0, 34, 31630)) _
            refine q_Ru_seg (g2 := (67, [(0, .ref 64), (1, .int a)], [.int 2559, .int 2048, .int a], (q_cM (q_uA (q_uA q_AM 33 f) 32 g) I q_J0, 34, 31630))) 4 (fun _ _ => rfl) ?_
            refine q_Ru_call (v := (some (.int 0))) (h2 := (q_cM (q_uA (q_uA q_AM 33 f) 32 g) I q_J0, 34, 31630)) rfl rfl ?_ ?_
            · refine q_Ca_of (Nat.le_of_ble_eq_true rfl) ?_
              refine q_Ru_seg (g2 := (2, [(0, .int a), (1, .int 2048), (2, .int 2559)], [.int 2048, .int a], (q_cM (q_uA (q_uA q_AM 33 f) 32 g) I q_J0, 34, 31630))) 2 (fun _ _ => rfl) ?_
              refine q_Ru_rsF (g2 := (5, [(0, .int a), (1, .int 2048), (2, .int 2559)], [], (q_cM (q_uA (q_uA q_AM 33 f) 32 g) I q_J0, 34, 31630))) rfl rfl h138 ?_
              refine q_Ru_seg (g2 := (7, [(0, .int a), (1, .int 2048), (2, .int 2559)], [.int 2559, .int a], (q_cM (q_uA (q_uA q_AM 33 f) 32 g) I q_J0, 34, 31630))) 2 (fun _ _ => rfl) ?_
              refine q_Ru_rsT (g2 := (14, [(0, .int a), (1, .int 2048), (2, .int 2559)], [], (q_cM (q_uA (q_uA q_AM 33 f) 32 g) I q_J0, 34, 31630))) rfl rfl h139 ?_
              refine q_Ru_seg (g2 := (15, [(0, .int a), (1, .int 2048), (2, .int 2559)], [.int 0], (q_cM (q_uA (q_uA q_AM 33 f) 32 g) I q_J0, 34, 31630))) 1 (fun _ _ => rfl) ?_
              exact q_Ru_ret rfl rfl
            show q_Ru _ _ _ (70, [(0, .ref 64), (1, .int a)], [.int 0], (q_cM (q_uA (q_uA q_AM 33 f) 32 g) I q_J0, 34, 31630)) _
            refine q_Ru_seg (g2 := (115, [(0, .ref 64), (1, .int a)], [.int a, .ref 65], (q_cM (q_uA (q_uA q_AM 33 f) 32 g) I q_J0, 34, 31630))) 4 (fun _ _ => rfl) ?_
            refine q_Ru_rsT (g2 := (116, [(0, .ref 64), (1, .int a)], [.int 0], (q_cM (q_uA (q_uA q_AM 33 f) 32 g) I q_J0, 34, 31630))) rfl rfl (q_in_bd (x := a) (n := 4096) (U := 3839) (L := 3584) (q_lo2 h137) (q_hi1 h133)) ?_
            exact q_Ru_ret rfl rfl
          | false =>
            exact q_no (q_lo2 h137) (q_hi2 h139) (by decide)
      | false =>
        cases h140 : decide (a < 2048) with
        | true =>
          exact q_no (q_lo1 h134) (q_hi1 h140) (by decide)
        | false =>
          cases h141 : decide (2559 < a) with
          | true =>
            refine ⟨f, ?_⟩
            refine q_Ca_of (Nat.le_of_ble_eq_true rfl) ?_
            refine q_Ru_seg (g2 := (7, [(0, .ref 64), (1, .int a)], [.int 3887, .int 3840, .int a], (q_cM (q_uA (q_uA q_AM 33 f) 32 g) I q_J0, 34, 31630))) 3 (fun _ _ => rfl) ?_
            refine q_Ru_call (v := (some (.int 0))) (h2 := (q_cM (q_uA (q_uA q_AM 33 f) 32 g) I q_J0, 34, 31630)) rfl rfl ?_ ?_
            · refine q_Ca_of (Nat.le_of_ble_eq_true rfl) ?_
              refine q_Ru_seg (g2 := (2, [(0, .int a), (1, .int 3840), (2, .int 3887)], [.int 3840, .int a], (q_cM (q_uA (q_uA q_AM 33 f) 32 g) I q_J0, 34, 31630))) 2 (fun _ _ => rfl) ?_
              refine q_Ru_rsT (g2 := (14, [(0, .int a), (1, .int 3840), (2, .int 3887)], [], (q_cM (q_uA (q_uA q_AM 33 f) 32 g) I q_J0, 34, 31630))) rfl rfl h133 ?_
              refine q_Ru_seg (g2 := (15, [(0, .int a), (1, .int 3840), (2, .int 3887)], [.int 0], (q_cM (q_uA (q_uA q_AM 33 f) 32 g) I q_J0, 34, 31630))) 1 (fun _ _ => rfl) ?_
              exact q_Ru_ret rfl rfl
            show q_Ru _ _ _ (10, [(0, .ref 64), (1, .int a)], [.int 0], (q_cM (q_uA (q_uA q_AM 33 f) 32 g) I q_J0, 34, 31630)) _
            refine q_Ru_seg (g2 := (30, [(0, .ref 64), (1, .int a)], [.int 3583, .int 3072, .int a], (q_cM (q_uA (q_uA q_AM 33 f) 32 g) I q_J0, 34, 31630))) 4 (fun _ _ => rfl) ?_
            refine q_Ru_call (v := (some (.int 1))) (h2 := (q_cM (q_uA (q_uA q_AM 33 f) 32 g) I q_J0, 34, 31630)) rfl rfl ?_ ?_
            · refine q_Ca_of (Nat.le_of_ble_eq_true rfl) ?_
              refine q_Ru_seg (g2 := (2, [(0, .int a), (1, .int 3072), (2, .int 3583)], [.int 3072, .int a], (q_cM (q_uA (q_uA q_AM 33 f) 32 g) I q_J0, 34, 31630))) 2 (fun _ _ => rfl) ?_
              refine q_Ru_rsF (g2 := (5, [(0, .int a), (1, .int 3072), (2, .int 3583)], [], (q_cM (q_uA (q_uA q_AM 33 f) 32 g) I q_J0, 34, 31630))) rfl rfl h134 ?_
              refine q_Ru_seg (g2 := (7, [(0, .int a), (1, .int 3072), (2, .int 3583)], [.int 3583, .int a], (q_cM (q_uA (q_uA q_AM 33 f) 32 g) I q_J0, 34, 31630))) 2 (fun _ _ => rfl) ?_
              refine q_Ru_rsF (g2 := (10, [(0, .int a), (1, .int 3072), (2, .int 3583)], [], (q_cM (q_uA (q_uA q_AM 33 f) 32 g) I q_J0, 34, 31630))) rfl rfl h137 ?_
              refine q_Ru_seg (g2 := (15, [(0, .int a), (1, .int 3072), (2, .int 3583)], [.int 1], (q_cM (q_uA (q_uA q_AM 33 f) 32 g) I q_J0, 34, 31630))) 2 (fun _ _ => rfl) ?_
              exact q_Ru_ret rfl rfl
            show q_Ru _ _ _ (33, [(0, .ref 64), (1, .int a)], [.int 1], (q_cM (q_uA (q_uA q_AM 33 f) 32 g) I q_J0, 34, 31630)) _
            refine q_Ru_seg (g2 := (42, [(0, .ref 64), (1, .int a)], [.int 0], (q_cM (q_uA (q_uA q_AM 33 f) 32 g) I q_J0, 34, 31630))) 5 (fun _ _ => rfl) ?_
            refine q_Ru_seg (g2 := (43, [(0, .ref 64), (1, .int a)], [.int 0, .int 0], (q_cM (q_uA (q_uA q_AM 33 f) 32 g) I q_J0, 34, 31630))) 1 (fun _ _ => rfl) ?_
            refine q_Ru_call (v := (some (.int 0))) (h2 := (q_cM (q_uA (q_uA q_AM 33 f) 32 g) I q_J0, 34, 31630)) rfl rfl ?_ ?_
            · refine q_Ca_of (Nat.le_of_ble_eq_true rfl) ?_
              refine q_Ru_seg (g2 := (14, [(0, .int 0), (1, .int 0)], [.int 0], (q_cM (q_uA (q_uA q_AM 33 f) 32 g) I q_J0, 34, 31630))) 8 (fun _ _ => rfl) ?_
              exact q_Ru_ret rfl rfl
            show q_Ru _ _ _ (46, [(0, .ref 64), (1, .int a)], [.int 0], (q_cM (q_uA (q_uA q_AM 33 f) 32 g) I q_J0, 34, 31630)) _
            refine q_Ru_seg (g2 := (67, [(0, .ref 64), (1, .int a)], [.int 2559, .int 2048, .int a], (q_cM (q_uA (q_uA q_AM 33 f) 32 g) I q_J0, 34, 31630))) 4 (fun _ _ => rfl) ?_
            refine q_Ru_call (v := (some (.int 0))) (h2 := (q_cM (q_uA (q_uA q_AM 33 f) 32 g) I q_J0, 34, 31630)) rfl rfl ?_ ?_
            · refine q_Ca_of (Nat.le_of_ble_eq_true rfl) ?_
              refine q_Ru_seg (g2 := (2, [(0, .int a), (1, .int 2048), (2, .int 2559)], [.int 2048, .int a], (q_cM (q_uA (q_uA q_AM 33 f) 32 g) I q_J0, 34, 31630))) 2 (fun _ _ => rfl) ?_
              refine q_Ru_rsF (g2 := (5, [(0, .int a), (1, .int 2048), (2, .int 2559)], [], (q_cM (q_uA (q_uA q_AM 33 f) 32 g) I q_J0, 34, 31630))) rfl rfl h140 ?_
              refine q_Ru_seg (g2 := (7, [(0, .int a), (1, .int 2048), (2, .int 2559)], [.int 2559, .int a], (q_cM (q_uA (q_uA q_AM 33 f) 32 g) I q_J0, 34, 31630))) 2 (fun _ _ => rfl) ?_
              refine q_Ru_rsT (g2 := (14, [(0, .int a), (1, .int 2048), (2, .int 2559)], [], (q_cM (q_uA (q_uA q_AM 33 f) 32 g) I q_J0, 34, 31630))) rfl rfl h141 ?_
              refine q_Ru_seg (g2 := (15, [(0, .int a), (1, .int 2048), (2, .int 2559)], [.int 0], (q_cM (q_uA (q_uA q_AM 33 f) 32 g) I q_J0, 34, 31630))) 1 (fun _ _ => rfl) ?_
              exact q_Ru_ret rfl rfl
            show q_Ru _ _ _ (70, [(0, .ref 64), (1, .int a)], [.int 0], (q_cM (q_uA (q_uA q_AM 33 f) 32 g) I q_J0, 34, 31630)) _
            refine q_Ru_seg (g2 := (115, [(0, .ref 64), (1, .int a)], [.int a, .ref 65], (q_cM (q_uA (q_uA q_AM 33 f) 32 g) I q_J0, 34, 31630))) 4 (fun _ _ => rfl) ?_
            refine q_Ru_rsT (g2 := (116, [(0, .ref 64), (1, .int a)], [.int 0], (q_cM (q_uA (q_uA q_AM 33 f) 32 g) I q_J0, 34, 31630))) rfl rfl (q_in_bd (x := a) (n := 4096) (U := 3583) (L := 3072) (q_lo1 h134) (q_hi2 h137)) ?_
            exact q_Ru_ret rfl rfl
          | false =>
            exact q_no (q_lo1 h134) (q_hi2 h141) (by decide)
  | false =>
    cases h142 : decide (3887 < a) with
    | true =>
      cases h143 : decide (a < 3072) with
      | true =>
        exact q_no (q_lo2 h142) (q_hi1 h143) (by decide)
      | false =>
        cases h144 : decide (3583 < a) with
        | true =>
          cases h145 : decide (a < 2048) with
          | true =>
            exact q_no (q_lo2 h142) (q_hi1 h145) (by decide)
          | false =>
            cases h146 : decide (2559 < a) with
            | true =>
              refine ⟨f, ?_⟩
              refine q_Ca_of (Nat.le_of_ble_eq_true rfl) ?_
              refine q_Ru_seg (g2 := (7, [(0, .ref 64), (1, .int a)], [.int 3887, .int 3840, .int a], (q_cM (q_uA (q_uA q_AM 33 f) 32 g) I q_J0, 34, 31630))) 3 (fun _ _ => rfl) ?_
              refine q_Ru_call (v := (some (.int 0))) (h2 := (q_cM (q_uA (q_uA q_AM 33 f) 32 g) I q_J0, 34, 31630)) rfl rfl ?_ ?_
              · refine q_Ca_of (Nat.le_of_ble_eq_true rfl) ?_
                refine q_Ru_seg (g2 := (2, [(0, .int a), (1, .int 3840), (2, .int 3887)], [.int 3840, .int a], (q_cM (q_uA (q_uA q_AM 33 f) 32 g) I q_J0, 34, 31630))) 2 (fun _ _ => rfl) ?_
                refine q_Ru_rsF (g2 := (5, [(0, .int a), (1, .int 3840), (2, .int 3887)], [], (q_cM (q_uA (q_uA q_AM 33 f) 32 g) I q_J0, 34, 31630))) rfl rfl h133 ?_
                refine q_Ru_seg (g2 := (7, [(0, .int a), (1, .int 3840), (2, .int 3887)], [.int 3887, .int a], (q_cM (q_uA (q_uA q_AM 33 f) 32 g) I q_J0, 34, 31630))) 2 (fun _ _ => rfl) ?_
                refine q_Ru_rsT (g2 := (14, [(0, .int a), (1, .int 3840), (2, .int 3887)], [], (q_cM (q_uA (q_uA q_AM 33 f) 32 g) I q_J0, 34, 31630))) rfl rfl h142 ?_
                refine q_Ru_seg (g2 := (15, [(0, .int a), (1, .int 3840), (2, .int 3887)], [.int 0], (q_cM (q_uA (q_uA q_AM 33 f) 32 g) I q_J0, 34, 31630))) 1 (fun _ _ => rfl) ?_
                exact q_Ru_ret rfl rfl
              show q_Ru _ _ _ (10, [(0, .ref 64), (1, .int a)], [.int 0], (q_cM (q_uA (q_uA q_AM 33 f) 32 g) I q_J0, 34, 31630)) _
              refine q_Ru_seg (g2 := (30, [(0, .ref 64), (1, .int a)], [.int 3583, .int 3072, .int a], (q_cM (q_uA (q_uA q_AM 33 f) 32 g) I q_J0, 34, 31630))) 4 (fun _ _ => rfl) ?_
              refine q_Ru_call (v := (some (.int 0))) (h2 := (q_cM (q_uA (q_uA q_AM 33 f) 32 g) I q_J0, 34, 31630)) rfl rfl ?_ ?_
              · refine q_Ca_of (Nat.le_of_ble_eq_true rfl) ?_
                refine q_Ru_seg (g2 := (2, [(0, .int a), (1, .int 3072), (2, .int 3583)], [.int 3072, .int a], (q_cM (q_uA (q_uA q_AM 33 f) 32 g) I q_J0, 34, 31630))) 2 (fun _ _ => rfl) ?_
                refine q_Ru_rsF (g2 := (5, [(0, .int a), (1, .int 3072), (2, .int 3583)], [], (q_cM (q_uA (q_uA q_AM 33 f) 32 g) I q_J0, 34, 31630))) rfl rfl h143 ?_
                refine q_Ru_seg (g2 := (7, [(0, .int a), (1, .int 3072), (2, .int 3583)], [.int 3583, .int a], (q_cM (q_uA (q_uA q_AM 33 f) 32 g) I q_J0, 34, 31630))) 2 (fun _ _ => rfl) ?_
                refine q_Ru_rsT (g2 := (14, [(0, .int a), (1, .int 3072), (2, .int 3583)], [], (q_cM (q_uA (q_uA q_AM 33 f) 32 g) I q_J0, 34, 31630))) rfl rfl h144 ?_
                refine q_Ru_seg (g2 := (15, [(0, .int a), (1, .int 3072), (2, .int 3583)], [.int 0], (q_cM (q_uA (q_uA q_AM 33 f) 32 g) I q_J0, 34, 31630))) 1 (fun _ _ => rfl) ?_
                exact q_Ru_ret rfl rfl
              show q_Ru _ _ _ (33, [(0, .ref 64), (1, .int a)], [.int 0], (q_cM (q_uA (q_uA q_AM 33 f) 32 g) I q_J0, 34, 31630)) _
              refine q_Ru_seg (g2 := (67, [(0, .ref 64), (1, .int a)], [.int 2559, .int 2048, .int a], (q_cM (q_uA (q_uA q_AM 33 f) 32 g) I q_J0, 34, 31630))) 4 (fun _ _ => rfl) ?_
              refine q_Ru_call (v := (some (.int 0))) (h2 := (q_cM (q_uA (q_uA q_AM 33 f) 32 g) I q_J0, 34, 31630)) rfl rfl ?_ ?_
              · refine q_Ca_of (Nat.le_of_ble_eq_true rfl) ?_
                refine q_Ru_seg (g2 := (2, [(0, .int a), (1, .int 2048), (2, .int 2559)], [.int 2048, .int a], (q_cM (q_uA (q_uA q_AM 33 f) 32 g) I q_J0, 34, 31630))) 2 (fun _ _ => rfl) ?_
                refine q_Ru_rsF (g2 := (5, [(0, .int a), (1, .int 2048), (2, .int 2559)], [], (q_cM (q_uA (q_uA q_AM 33 f) 32 g) I q_J0, 34, 31630))) rfl rfl h145 ?_
                refine q_Ru_seg (g2 := (7, [(0, .int a), (1, .int 2048), (2, .int 2559)], [.int 2559, .int a], (q_cM (q_uA (q_uA q_AM 33 f) 32 g) I q_J0, 34, 31630))) 2 (fun _ _ => rfl) ?_
                refine q_Ru_rsT (g2 := (14, [(0, .int a), (1, .int 2048), (2, .int 2559)], [], (q_cM (q_uA (q_uA q_AM 33 f) 32 g) I q_J0, 34, 31630))) rfl rfl h146 ?_
                refine q_Ru_seg (g2 := (15, [(0, .int a), (1, .int 2048), (2, .int 2559)], [.int 0], (q_cM (q_uA (q_uA q_AM 33 f) 32 g) I q_J0, 34, 31630))) 1 (fun _ _ => rfl) ?_
                exact q_Ru_ret rfl rfl
              show q_Ru _ _ _ (70, [(0, .ref 64), (1, .int a)], [.int 0], (q_cM (q_uA (q_uA q_AM 33 f) 32 g) I q_J0, 34, 31630)) _
              refine q_Ru_seg (g2 := (115, [(0, .ref 64), (1, .int a)], [.int a, .ref 65], (q_cM (q_uA (q_uA q_AM 33 f) 32 g) I q_J0, 34, 31630))) 4 (fun _ _ => rfl) ?_
              refine q_Ru_rsT (g2 := (116, [(0, .ref 64), (1, .int a)], [.int 0], (q_cM (q_uA (q_uA q_AM 33 f) 32 g) I q_J0, 34, 31630))) rfl rfl (q_in_bd (x := a) (n := 4096) (U := 4095) (L := 3888) (q_lo2 h142) hu) ?_
              exact q_Ru_ret rfl rfl
            | false =>
              exact q_no (q_lo2 h142) (q_hi2 h146) (by decide)
        | false =>
          exact q_no (q_lo2 h142) (q_hi2 h144) (by decide)
    | false =>
      cases h147 : decide (a - 3840 = 9) with
      | true =>
        refine ⟨f, ?_⟩
        refine q_Ca_of (Nat.le_of_ble_eq_true rfl) ?_
        refine q_Ru_seg (g2 := (7, [(0, .ref 64), (1, .int a)], [.int 3887, .int 3840, .int a], (q_cM (q_uA (q_uA q_AM 33 f) 32 g) I q_J0, 34, 31630))) 3 (fun _ _ => rfl) ?_
        refine q_Ru_call (v := (some (.int 1))) (h2 := (q_cM (q_uA (q_uA q_AM 33 f) 32 g) I q_J0, 34, 31630)) rfl rfl ?_ ?_
        · refine q_Ca_of (Nat.le_of_ble_eq_true rfl) ?_
          refine q_Ru_seg (g2 := (2, [(0, .int a), (1, .int 3840), (2, .int 3887)], [.int 3840, .int a], (q_cM (q_uA (q_uA q_AM 33 f) 32 g) I q_J0, 34, 31630))) 2 (fun _ _ => rfl) ?_
          refine q_Ru_rsF (g2 := (5, [(0, .int a), (1, .int 3840), (2, .int 3887)], [], (q_cM (q_uA (q_uA q_AM 33 f) 32 g) I q_J0, 34, 31630))) rfl rfl h133 ?_
          refine q_Ru_seg (g2 := (7, [(0, .int a), (1, .int 3840), (2, .int 3887)], [.int 3887, .int a], (q_cM (q_uA (q_uA q_AM 33 f) 32 g) I q_J0, 34, 31630))) 2 (fun _ _ => rfl) ?_
          refine q_Ru_rsF (g2 := (10, [(0, .int a), (1, .int 3840), (2, .int 3887)], [], (q_cM (q_uA (q_uA q_AM 33 f) 32 g) I q_J0, 34, 31630))) rfl rfl h142 ?_
          refine q_Ru_seg (g2 := (15, [(0, .int a), (1, .int 3840), (2, .int 3887)], [.int 1], (q_cM (q_uA (q_uA q_AM 33 f) 32 g) I q_J0, 34, 31630))) 2 (fun _ _ => rfl) ?_
          exact q_Ru_ret rfl rfl
        show q_Ru _ _ _ (10, [(0, .ref 64), (1, .int a)], [.int 1], (q_cM (q_uA (q_uA q_AM 33 f) 32 g) I q_J0, 34, 31630)) _
        refine q_Ru_seg (g2 := (19, [(0, .ref 64), (1, .int a)], [.int (a - 3840), .ref 64], (q_cM (q_uA (q_uA q_AM 33 f) 32 g) I q_J0, 34, 31630))) 5 (fun _ _ => rfl) ?_
        refine q_Ru_call (v := (some (.int 0))) (h2 := (q_cM (q_uA (q_uA q_AM 33 f) 32 g) I q_J0, 34, 31630)) rfl rfl ?_ ?_
        · refine q_Ca_of (Nat.le_of_ble_eq_true rfl) ?_
          refine q_Ru_seg (g2 := (3, [(0, .ref 64), (1, .int (a - 3840))], [.int 9, .int (a - 3840)], (q_cM (q_uA (q_uA q_AM 33 f) 32 g) I q_J0, 34, 31630))) 2 (fun _ _ => rfl) ?_
          refine q_Ru_rsF (g2 := (6, [(0, .ref 64), (1, .int (a - 3840))], [], (q_cM (q_uA (q_uA q_AM 33 f) 32 g) I q_J0, 34, 31630))) rfl rfl (q_d_neT h147) ?_
          refine q_Ru_seg (g2 := (7, [(0, .ref 64), (1, .int (a - 3840))], [.ref 64], (q_cM (q_uA (q_uA q_AM 33 f) 32 g) I q_J0, 34, 31630))) 1 (fun _ _ => rfl) ?_
          refine q_Ru_call (v := (some (.int 0))) (h2 := (q_cM (q_uA (q_uA q_AM 33 f) 32 g) I q_J0, 34, 31630)) rfl rfl ?_ ?_
          · refine q_Ca_of (Nat.le_of_ble_eq_true rfl) ?_
            refine q_Ru_seg (g2 := (4, [(0, .ref 64)], [.long 0], (q_cM (q_uA (q_uA q_AM 33 f) 32 g) I q_J0, 34, 31630))) 2 (fun _ _ => rfl) ?_
            refine q_Ru_seg (g2 := (13, [(0, .ref 64)], [.int 0], (q_cM (q_uA (q_uA q_AM 33 f) 32 g) I q_J0, 34, 31630))) 5 (fun _ _ => rfl) ?_
            exact q_Ru_ret rfl rfl
          show q_Ru _ _ _ (10, [(0, .ref 64), (1, .int (a - 3840))], [.int 0], (q_cM (q_uA (q_uA q_AM 33 f) 32 g) I q_J0, 34, 31630)) _
          exact q_Ru_ret rfl rfl
        show q_Ru _ _ _ (22, [(0, .ref 64), (1, .int a)], [.int 0], (q_cM (q_uA (q_uA q_AM 33 f) 32 g) I q_J0, 34, 31630)) _
        exact q_Ru_ret rfl rfl
      | false =>
        cases h148 : decide (a - 3840 = 10) with
        | true =>
          refine ⟨f, ?_⟩
          refine q_Ca_of (Nat.le_of_ble_eq_true rfl) ?_
          refine q_Ru_seg (g2 := (7, [(0, .ref 64), (1, .int a)], [.int 3887, .int 3840, .int a], (q_cM (q_uA (q_uA q_AM 33 f) 32 g) I q_J0, 34, 31630))) 3 (fun _ _ => rfl) ?_
          refine q_Ru_call (v := (some (.int 1))) (h2 := (q_cM (q_uA (q_uA q_AM 33 f) 32 g) I q_J0, 34, 31630)) rfl rfl ?_ ?_
          · refine q_Ca_of (Nat.le_of_ble_eq_true rfl) ?_
            refine q_Ru_seg (g2 := (2, [(0, .int a), (1, .int 3840), (2, .int 3887)], [.int 3840, .int a], (q_cM (q_uA (q_uA q_AM 33 f) 32 g) I q_J0, 34, 31630))) 2 (fun _ _ => rfl) ?_
            refine q_Ru_rsF (g2 := (5, [(0, .int a), (1, .int 3840), (2, .int 3887)], [], (q_cM (q_uA (q_uA q_AM 33 f) 32 g) I q_J0, 34, 31630))) rfl rfl h133 ?_
            refine q_Ru_seg (g2 := (7, [(0, .int a), (1, .int 3840), (2, .int 3887)], [.int 3887, .int a], (q_cM (q_uA (q_uA q_AM 33 f) 32 g) I q_J0, 34, 31630))) 2 (fun _ _ => rfl) ?_
            refine q_Ru_rsF (g2 := (10, [(0, .int a), (1, .int 3840), (2, .int 3887)], [], (q_cM (q_uA (q_uA q_AM 33 f) 32 g) I q_J0, 34, 31630))) rfl rfl h142 ?_
            refine q_Ru_seg (g2 := (15, [(0, .int a), (1, .int 3840), (2, .int 3887)], [.int 1], (q_cM (q_uA (q_uA q_AM 33 f) 32 g) I q_J0, 34, 31630))) 2 (fun _ _ => rfl) ?_
            exact q_Ru_ret rfl rfl
          show q_Ru _ _ _ (10, [(0, .ref 64), (1, .int a)], [.int 1], (q_cM (q_uA (q_uA q_AM 33 f) 32 g) I q_J0, 34, 31630)) _
          refine q_Ru_seg (g2 := (19, [(0, .ref 64), (1, .int a)], [.int (a - 3840), .ref 64], (q_cM (q_uA (q_uA q_AM 33 f) 32 g) I q_J0, 34, 31630))) 5 (fun _ _ => rfl) ?_
          refine q_Ru_call (v := (some (.int 0))) (h2 := (q_cM (q_uA (q_uA q_AM 33 f) 32 g) I q_J0, 34, 31630)) rfl rfl ?_ ?_
          · refine q_Ca_of (Nat.le_of_ble_eq_true rfl) ?_
            refine q_Ru_seg (g2 := (3, [(0, .ref 64), (1, .int (a - 3840))], [.int 9, .int (a - 3840)], (q_cM (q_uA (q_uA q_AM 33 f) 32 g) I q_J0, 34, 31630))) 2 (fun _ _ => rfl) ?_
            refine q_Ru_rsT (g2 := (11, [(0, .ref 64), (1, .int (a - 3840))], [], (q_cM (q_uA (q_uA q_AM 33 f) 32 g) I q_J0, 34, 31630))) rfl rfl (q_d_neF h147) ?_
            refine q_Ru_seg (g2 := (14, [(0, .ref 64), (1, .int (a - 3840))], [.int 10, .int (a - 3840)], (q_cM (q_uA (q_uA q_AM 33 f) 32 g) I q_J0, 34, 31630))) 2 (fun _ _ => rfl) ?_
            refine q_Ru_rsF (g2 := (17, [(0, .ref 64), (1, .int (a - 3840))], [], (q_cM (q_uA (q_uA q_AM 33 f) 32 g) I q_J0, 34, 31630))) rfl rfl (q_d_neT h148) ?_
            refine q_Ru_seg (g2 := (24, [(0, .ref 64), (1, .int (a - 3840))], [.int 0], (q_cM (q_uA (q_uA q_AM 33 f) 32 g) I q_J0, 34, 31630))) 4 (fun _ _ => rfl) ?_
            exact q_Ru_ret rfl rfl
          show q_Ru _ _ _ (22, [(0, .ref 64), (1, .int a)], [.int 0], (q_cM (q_uA (q_uA q_AM 33 f) 32 g) I q_J0, 34, 31630)) _
          exact q_Ru_ret rfl rfl
        | false =>
          cases h149 : decide (a - 3840 < 12) with
          | true =>
            cases h150 : decide (a - 3840 = 29) with
            | true =>
              refine ⟨f, ?_⟩
              refine q_Ca_of (Nat.le_of_ble_eq_true rfl) ?_
              refine q_Ru_seg (g2 := (7, [(0, .ref 64), (1, .int a)], [.int 3887, .int 3840, .int a], (q_cM (q_uA (q_uA q_AM 33 f) 32 g) I q_J0, 34, 31630))) 3 (fun _ _ => rfl) ?_
              refine q_Ru_call (v := (some (.int 1))) (h2 := (q_cM (q_uA (q_uA q_AM 33 f) 32 g) I q_J0, 34, 31630)) rfl rfl ?_ ?_
              · refine q_Ca_of (Nat.le_of_ble_eq_true rfl) ?_
                refine q_Ru_seg (g2 := (2, [(0, .int a), (1, .int 3840), (2, .int 3887)], [.int 3840, .int a], (q_cM (q_uA (q_uA q_AM 33 f) 32 g) I q_J0, 34, 31630))) 2 (fun _ _ => rfl) ?_
                refine q_Ru_rsF (g2 := (5, [(0, .int a), (1, .int 3840), (2, .int 3887)], [], (q_cM (q_uA (q_uA q_AM 33 f) 32 g) I q_J0, 34, 31630))) rfl rfl h133 ?_
                refine q_Ru_seg (g2 := (7, [(0, .int a), (1, .int 3840), (2, .int 3887)], [.int 3887, .int a], (q_cM (q_uA (q_uA q_AM 33 f) 32 g) I q_J0, 34, 31630))) 2 (fun _ _ => rfl) ?_
                refine q_Ru_rsF (g2 := (10, [(0, .int a), (1, .int 3840), (2, .int 3887)], [], (q_cM (q_uA (q_uA q_AM 33 f) 32 g) I q_J0, 34, 31630))) rfl rfl h142 ?_
                refine q_Ru_seg (g2 := (15, [(0, .int a), (1, .int 3840), (2, .int 3887)], [.int 1], (q_cM (q_uA (q_uA q_AM 33 f) 32 g) I q_J0, 34, 31630))) 2 (fun _ _ => rfl) ?_
                exact q_Ru_ret rfl rfl
              show q_Ru _ _ _ (10, [(0, .ref 64), (1, .int a)], [.int 1], (q_cM (q_uA (q_uA q_AM 33 f) 32 g) I q_J0, 34, 31630)) _
              refine q_Ru_seg (g2 := (19, [(0, .ref 64), (1, .int a)], [.int (a - 3840), .ref 64], (q_cM (q_uA (q_uA q_AM 33 f) 32 g) I q_J0, 34, 31630))) 5 (fun _ _ => rfl) ?_
              refine q_Ru_call (v := (some (.int 0))) (h2 := (q_cM (q_uA (q_uA q_AM 33 f) 32 g) I q_J0, 34, 31630)) rfl rfl ?_ ?_
              · refine q_Ca_of (Nat.le_of_ble_eq_true rfl) ?_
                refine q_Ru_seg (g2 := (3, [(0, .ref 64), (1, .int (a - 3840))], [.int 9, .int (a - 3840)], (q_cM (q_uA (q_uA q_AM 33 f) 32 g) I q_J0, 34, 31630))) 2 (fun _ _ => rfl) ?_
                refine q_Ru_rsT (g2 := (11, [(0, .ref 64), (1, .int (a - 3840))], [], (q_cM (q_uA (q_uA q_AM 33 f) 32 g) I q_J0, 34, 31630))) rfl rfl (q_d_neF h147) ?_
                refine q_Ru_seg (g2 := (14, [(0, .ref 64), (1, .int (a - 3840))], [.int 10, .int (a - 3840)], (q_cM (q_uA (q_uA q_AM 33 f) 32 g) I q_J0, 34, 31630))) 2 (fun _ _ => rfl) ?_
                refine q_Ru_rsT (g2 := (25, [(0, .ref 64), (1, .int (a - 3840))], [], (q_cM (q_uA (q_uA q_AM 33 f) 32 g) I q_J0, 34, 31630))) rfl rfl (q_d_neF h148) ?_
                refine q_Ru_seg (g2 := (30, [(0, .ref 64), (1, .int (a - 3840))], [.int 15, .int 12, .int (a - 3840)], (q_cM (q_uA (q_uA q_AM 33 f) 32 g) I q_J0, 34, 31630))) 3 (fun _ _ => rfl) ?_
                refine q_Ru_call (v := (some (.int 0))) (h2 := (q_cM (q_uA (q_uA q_AM 33 f) 32 g) I q_J0, 34, 31630)) rfl rfl ?_ ?_
                · refine q_Ca_of (Nat.le_of_ble_eq_true rfl) ?_
                  refine q_Ru_seg (g2 := (2, [(0, .int (a - 3840)), (1, .int 12), (2, .int 15)], [.int 12, .int (a - 3840)], (q_cM (q_uA (q_uA q_AM 33 f) 32 g) I q_J0, 34, 31630))) 2 (fun _ _ => rfl) ?_
                  refine q_Ru_rsT (g2 := (14, [(0, .int (a - 3840)), (1, .int 12), (2, .int 15)], [], (q_cM (q_uA (q_uA q_AM 33 f) 32 g) I q_J0, 34, 31630))) rfl rfl h149 ?_
                  refine q_Ru_seg (g2 := (15, [(0, .int (a - 3840)), (1, .int 12), (2, .int 15)], [.int 0], (q_cM (q_uA (q_uA q_AM 33 f) 32 g) I q_J0, 34, 31630))) 1 (fun _ _ => rfl) ?_
                  exact q_Ru_ret rfl rfl
                show q_Ru _ _ _ (33, [(0, .ref 64), (1, .int (a - 3840))], [.int 0], (q_cM (q_uA (q_uA q_AM 33 f) 32 g) I q_J0, 34, 31630)) _
                refine q_Ru_seg (g2 := (83, [(0, .ref 64), (1, .int (a - 3840))], [.int 29, .int (a - 3840)], (q_cM (q_uA (q_uA q_AM 33 f) 32 g) I q_J0, 34, 31630))) 3 (fun _ _ => rfl) ?_
                refine q_Ru_rsF (g2 := (86, [(0, .ref 64), (1, .int (a - 3840))], [], (q_cM (q_uA (q_uA q_AM 33 f) 32 g) I q_J0, 34, 31630))) rfl rfl (q_d_neT h150) ?_
                refine q_Ru_seg (g2 := (93, [(0, .ref 64), (1, .int (a - 3840))], [.int 0], (q_cM (q_uA (q_uA q_AM 33 f) 32 g) I q_J0, 34, 31630))) 4 (fun _ _ => rfl) ?_
                exact q_Ru_ret rfl rfl
              show q_Ru _ _ _ (22, [(0, .ref 64), (1, .int a)], [.int 0], (q_cM (q_uA (q_uA q_AM 33 f) 32 g) I q_J0, 34, 31630)) _
              exact q_Ru_ret rfl rfl
            | false =>
              cases h151 : decide (a - 3840 = 30) with
              | true =>
                refine ⟨f, ?_⟩
                refine q_Ca_of (Nat.le_of_ble_eq_true rfl) ?_
                refine q_Ru_seg (g2 := (7, [(0, .ref 64), (1, .int a)], [.int 3887, .int 3840, .int a], (q_cM (q_uA (q_uA q_AM 33 f) 32 g) I q_J0, 34, 31630))) 3 (fun _ _ => rfl) ?_
                refine q_Ru_call (v := (some (.int 1))) (h2 := (q_cM (q_uA (q_uA q_AM 33 f) 32 g) I q_J0, 34, 31630)) rfl rfl ?_ ?_
                · refine q_Ca_of (Nat.le_of_ble_eq_true rfl) ?_
                  refine q_Ru_seg (g2 := (2, [(0, .int a), (1, .int 3840), (2, .int 3887)], [.int 3840, .int a], (q_cM (q_uA (q_uA q_AM 33 f) 32 g) I q_J0, 34, 31630))) 2 (fun _ _ => rfl) ?_
                  refine q_Ru_rsF (g2 := (5, [(0, .int a), (1, .int 3840), (2, .int 3887)], [], (q_cM (q_uA (q_uA q_AM 33 f) 32 g) I q_J0, 34, 31630))) rfl rfl h133 ?_
                  refine q_Ru_seg (g2 := (7, [(0, .int a), (1, .int 3840), (2, .int 3887)], [.int 3887, .int a], (q_cM (q_uA (q_uA q_AM 33 f) 32 g) I q_J0, 34, 31630))) 2 (fun _ _ => rfl) ?_
                  refine q_Ru_rsF (g2 := (10, [(0, .int a), (1, .int 3840), (2, .int 3887)], [], (q_cM (q_uA (q_uA q_AM 33 f) 32 g) I q_J0, 34, 31630))) rfl rfl h142 ?_
                  refine q_Ru_seg (g2 := (15, [(0, .int a), (1, .int 3840), (2, .int 3887)], [.int 1], (q_cM (q_uA (q_uA q_AM 33 f) 32 g) I q_J0, 34, 31630))) 2 (fun _ _ => rfl) ?_
                  exact q_Ru_ret rfl rfl
                show q_Ru _ _ _ (10, [(0, .ref 64), (1, .int a)], [.int 1], (q_cM (q_uA (q_uA q_AM 33 f) 32 g) I q_J0, 34, 31630)) _
                refine q_Ru_seg (g2 := (19, [(0, .ref 64), (1, .int a)], [.int (a - 3840), .ref 64], (q_cM (q_uA (q_uA q_AM 33 f) 32 g) I q_J0, 34, 31630))) 5 (fun _ _ => rfl) ?_
                refine q_Ru_call (v := (some (.int 0))) (h2 := (q_cM (q_uA (q_uA q_AM 33 f) 32 g) I q_J0, 34, 31630)) rfl rfl ?_ ?_
                · refine q_Ca_of (Nat.le_of_ble_eq_true rfl) ?_
                  refine q_Ru_seg (g2 := (3, [(0, .ref 64), (1, .int (a - 3840))], [.int 9, .int (a - 3840)], (q_cM (q_uA (q_uA q_AM 33 f) 32 g) I q_J0, 34, 31630))) 2 (fun _ _ => rfl) ?_
                  refine q_Ru_rsT (g2 := (11, [(0, .ref 64), (1, .int (a - 3840))], [], (q_cM (q_uA (q_uA q_AM 33 f) 32 g) I q_J0, 34, 31630))) rfl rfl (q_d_neF h147) ?_
                  refine q_Ru_seg (g2 := (14, [(0, .ref 64), (1, .int (a - 3840))], [.int 10, .int (a - 3840)], (q_cM (q_uA (q_uA q_AM 33 f) 32 g) I q_J0, 34, 31630))) 2 (fun _ _ => rfl) ?_
                  refine q_Ru_rsT (g2 := (25, [(0, .ref 64), (1, .int (a - 3840))], [], (q_cM (q_uA (q_uA q_AM 33 f) 32 g) I q_J0, 34, 31630))) rfl rfl (q_d_neF h148) ?_
                  refine q_Ru_seg (g2 := (30, [(0, .ref 64), (1, .int (a - 3840))], [.int 15, .int 12, .int (a - 3840)], (q_cM (q_uA (q_uA q_AM 33 f) 32 g) I q_J0, 34, 31630))) 3 (fun _ _ => rfl) ?_
                  refine q_Ru_call (v := (some (.int 0))) (h2 := (q_cM (q_uA (q_uA q_AM 33 f) 32 g) I q_J0, 34, 31630)) rfl rfl ?_ ?_
                  · refine q_Ca_of (Nat.le_of_ble_eq_true rfl) ?_
                    refine q_Ru_seg (g2 := (2, [(0, .int (a - 3840)), (1, .int 12), (2, .int 15)], [.int 12, .int (a - 3840)], (q_cM (q_uA (q_uA q_AM 33 f) 32 g) I q_J0, 34, 31630))) 2 (fun _ _ => rfl) ?_
                    refine q_Ru_rsT (g2 := (14, [(0, .int (a - 3840)), (1, .int 12), (2, .int 15)], [], (q_cM (q_uA (q_uA q_AM 33 f) 32 g) I q_J0, 34, 31630))) rfl rfl h149 ?_
                    refine q_Ru_seg (g2 := (15, [(0, .int (a - 3840)), (1, .int 12), (2, .int 15)], [.int 0], (q_cM (q_uA (q_uA q_AM 33 f) 32 g) I q_J0, 34, 31630))) 1 (fun _ _ => rfl) ?_
                    exact q_Ru_ret rfl rfl
                  show q_Ru _ _ _ (33, [(0, .ref 64), (1, .int (a - 3840))], [.int 0], (q_cM (q_uA (q_uA q_AM 33 f) 32 g) I q_J0, 34, 31630)) _
                  refine q_Ru_seg (g2 := (83, [(0, .ref 64), (1, .int (a - 3840))], [.int 29, .int (a - 3840)], (q_cM (q_uA (q_uA q_AM 33 f) 32 g) I q_J0, 34, 31630))) 3 (fun _ _ => rfl) ?_
                  refine q_Ru_rsT (g2 := (94, [(0, .ref 64), (1, .int (a - 3840))], [], (q_cM (q_uA (q_uA q_AM 33 f) 32 g) I q_J0, 34, 31630))) rfl rfl (q_d_neF h150) ?_
                  refine q_Ru_seg (g2 := (97, [(0, .ref 64), (1, .int (a - 3840))], [.int 30, .int (a - 3840)], (q_cM (q_uA (q_uA q_AM 33 f) 32 g) I q_J0, 34, 31630))) 2 (fun _ _ => rfl) ?_
                  refine q_Ru_rsF (g2 := (100, [(0, .ref 64), (1, .int (a - 3840))], [], (q_cM (q_uA (q_uA q_AM 33 f) 32 g) I q_J0, 34, 31630))) rfl rfl (q_d_neT h151) ?_
                  refine q_Ru_seg (g2 := (107, [(0, .ref 64), (1, .int (a - 3840))], [.int 0], (q_cM (q_uA (q_uA q_AM 33 f) 32 g) I q_J0, 34, 31630))) 4 (fun _ _ => rfl) ?_
                  exact q_Ru_ret rfl rfl
                show q_Ru _ _ _ (22, [(0, .ref 64), (1, .int a)], [.int 0], (q_cM (q_uA (q_uA q_AM 33 f) 32 g) I q_J0, 34, 31630)) _
                exact q_Ru_ret rfl rfl
              | false =>
                cases h152 : decide (a - 3840 = 31) with
                | true =>
                  refine ⟨(upd (upd (upd (upd (upd (upd (upd (upd f 0 0) 4 0) 1 0) 5 0) 2 0) 6 0) 3 0) 7 0), ?_⟩
                  refine q_Ca_of (Nat.le_of_ble_eq_true rfl) ?_
                  refine q_Ru_seg (g2 := (7, [(0, .ref 64), (1, .int a)], [.int 3887, .int 3840, .int a], (q_cM (q_uA (q_uA q_AM 33 f) 32 g) I q_J0, 34, 31630))) 3 (fun _ _ => rfl) ?_
                  refine q_Ru_call (v := (some (.int 1))) (h2 := (q_cM (q_uA (q_uA q_AM 33 f) 32 g) I q_J0, 34, 31630)) rfl rfl ?_ ?_
                  · refine q_Ca_of (Nat.le_of_ble_eq_true rfl) ?_
                    refine q_Ru_seg (g2 := (2, [(0, .int a), (1, .int 3840), (2, .int 3887)], [.int 3840, .int a], (q_cM (q_uA (q_uA q_AM 33 f) 32 g) I q_J0, 34, 31630))) 2 (fun _ _ => rfl) ?_
                    refine q_Ru_rsF (g2 := (5, [(0, .int a), (1, .int 3840), (2, .int 3887)], [], (q_cM (q_uA (q_uA q_AM 33 f) 32 g) I q_J0, 34, 31630))) rfl rfl h133 ?_
                    refine q_Ru_seg (g2 := (7, [(0, .int a), (1, .int 3840), (2, .int 3887)], [.int 3887, .int a], (q_cM (q_uA (q_uA q_AM 33 f) 32 g) I q_J0, 34, 31630))) 2 (fun _ _ => rfl) ?_
                    refine q_Ru_rsF (g2 := (10, [(0, .int a), (1, .int 3840), (2, .int 3887)], [], (q_cM (q_uA (q_uA q_AM 33 f) 32 g) I q_J0, 34, 31630))) rfl rfl h142 ?_
                    refine q_Ru_seg (g2 := (15, [(0, .int a), (1, .int 3840), (2, .int 3887)], [.int 1], (q_cM (q_uA (q_uA q_AM 33 f) 32 g) I q_J0, 34, 31630))) 2 (fun _ _ => rfl) ?_
                    exact q_Ru_ret rfl rfl
                  show q_Ru _ _ _ (10, [(0, .ref 64), (1, .int a)], [.int 1], (q_cM (q_uA (q_uA q_AM 33 f) 32 g) I q_J0, 34, 31630)) _
                  refine q_Ru_seg (g2 := (19, [(0, .ref 64), (1, .int a)], [.int (a - 3840), .ref 64], (q_cM (q_uA (q_uA q_AM 33 f) 32 g) I q_J0, 34, 31630))) 5 (fun _ _ => rfl) ?_
                  refine q_Ru_call (v := (some (.int 0))) (h2 := (q_cM (q_uA (q_uA (q_uA q_AM 33 f) 32 g) 33 (upd (upd (upd (upd (upd (upd (upd (upd f 0 0) 4 0) 1 0) 5 0) 2 0) 6 0) 3 0) 7 0)) I q_J0, 34, 31630)) rfl rfl ?_ ?_
                  · refine q_Ca_of (Nat.le_of_ble_eq_true rfl) ?_
                    refine q_Ru_seg (g2 := (3, [(0, .ref 64), (1, .int (a - 3840))], [.int 9, .int (a - 3840)], (q_cM (q_uA (q_uA q_AM 33 f) 32 g) I q_J0, 34, 31630))) 2 (fun _ _ => rfl) ?_
                    refine q_Ru_rsT (g2 := (11, [(0, .ref 64), (1, .int (a - 3840))], [], (q_cM (q_uA (q_uA q_AM 33 f) 32 g) I q_J0, 34, 31630))) rfl rfl (q_d_neF h147) ?_
                    refine q_Ru_seg (g2 := (14, [(0, .ref 64), (1, .int (a - 3840))], [.int 10, .int (a - 3840)], (q_cM (q_uA (q_uA q_AM 33 f) 32 g) I q_J0, 34, 31630))) 2 (fun _ _ => rfl) ?_
                    refine q_Ru_rsT (g2 := (25, [(0, .ref 64), (1, .int (a - 3840))], [], (q_cM (q_uA (q_uA q_AM 33 f) 32 g) I q_J0, 34, 31630))) rfl rfl (q_d_neF h148) ?_
                    refine q_Ru_seg (g2 := (30, [(0, .ref 64), (1, .int (a - 3840))], [.int 15, .int 12, .int (a - 3840)], (q_cM (q_uA (q_uA q_AM 33 f) 32 g) I q_J0, 34, 31630))) 3 (fun _ _ => rfl) ?_
                    refine q_Ru_call (v := (some (.int 0))) (h2 := (q_cM (q_uA (q_uA q_AM 33 f) 32 g) I q_J0, 34, 31630)) rfl rfl ?_ ?_
                    · refine q_Ca_of (Nat.le_of_ble_eq_true rfl) ?_
                      refine q_Ru_seg (g2 := (2, [(0, .int (a - 3840)), (1, .int 12), (2, .int 15)], [.int 12, .int (a - 3840)], (q_cM (q_uA (q_uA q_AM 33 f) 32 g) I q_J0, 34, 31630))) 2 (fun _ _ => rfl) ?_
                      refine q_Ru_rsT (g2 := (14, [(0, .int (a - 3840)), (1, .int 12), (2, .int 15)], [], (q_cM (q_uA (q_uA q_AM 33 f) 32 g) I q_J0, 34, 31630))) rfl rfl h149 ?_
                      refine q_Ru_seg (g2 := (15, [(0, .int (a - 3840)), (1, .int 12), (2, .int 15)], [.int 0], (q_cM (q_uA (q_uA q_AM 33 f) 32 g) I q_J0, 34, 31630))) 1 (fun _ _ => rfl) ?_
                      exact q_Ru_ret rfl rfl
                    show q_Ru _ _ _ (33, [(0, .ref 64), (1, .int (a - 3840))], [.int 0], (q_cM (q_uA (q_uA q_AM 33 f) 32 g) I q_J0, 34, 31630)) _
                    refine q_Ru_seg (g2 := (83, [(0, .ref 64), (1, .int (a - 3840))], [.int 29, .int (a - 3840)], (q_cM (q_uA (q_uA q_AM 33 f) 32 g) I q_J0, 34, 31630))) 3 (fun _ _ => rfl) ?_
                    refine q_Ru_rsT (g2 := (94, [(0, .ref 64), (1, .int (a - 3840))], [], (q_cM (q_uA (q_uA q_AM 33 f) 32 g) I q_J0, 34, 31630))) rfl rfl (q_d_neF h150) ?_
                    refine q_Ru_seg (g2 := (97, [(0, .ref 64), (1, .int (a - 3840))], [.int 30, .int (a - 3840)], (q_cM (q_uA (q_uA q_AM 33 f) 32 g) I q_J0, 34, 31630))) 2 (fun _ _ => rfl) ?_
                    refine q_Ru_rsT (g2 := (108, [(0, .ref 64), (1, .int (a - 3840))], [], (q_cM (q_uA (q_uA q_AM 33 f) 32 g) I q_J0, 34, 31630))) rfl rfl (q_d_neF h151) ?_
                    refine q_Ru_seg (g2 := (111, [(0, .ref 64), (1, .int (a - 3840))], [.int 31, .int (a - 3840)], (q_cM (q_uA (q_uA q_AM 33 f) 32 g) I q_J0, 34, 31630))) 2 (fun _ _ => rfl) ?_
                    refine q_Ru_rsF (g2 := (114, [(0, .ref 64), (1, .int (a - 3840))], [], (q_cM (q_uA (q_uA q_AM 33 f) 32 g) I q_J0, 34, 31630))) rfl rfl (q_d_neT h152) ?_
                    refine q_Ru_seg (g2 := (122, [(0, .ref 64), (1, .int (a - 3840))], [.int 0, .ref 64], (q_cM (q_uA (q_uA q_AM 33 f) 32 g) I q_J0, 34, 31630))) 5 (fun _ _ => rfl) ?_
                    refine q_Ru_call (v := (some (.int 0))) (h2 := (q_cM (q_uA (q_uA (q_uA q_AM 33 f) 32 g) 33 (upd (upd (upd (upd (upd (upd (upd (upd f 0 0) 4 0) 1 0) 5 0) 2 0) 6 0) 3 0) 7 0)) I q_J0, 34, 31630)) rfl rfl ?_ ?_
                    · refine q_Ca_of (Nat.le_of_ble_eq_true rfl) ?_
                      refine q_Ru_seg (g2 := (14, [(2, .int 0), (0, .ref 64), (1, .int 0)], [.int 0, .int 0, .int 0, .ref 97], (q_cM (q_uA (q_uA q_AM 33 f) 32 g) I q_J0, 34, 31630))) 10 (fun _ _ => rfl) ?_
                      refine q_Ru_call (v := (some (.int 0))) (h2 := (q_cM (q_uA (q_uA q_AM 33 f) 32 g) I q_J0, 34, 31630)) rfl rfl ?_ ?_
                      · refine q_Ca_of (Nat.le_of_ble_eq_true rfl) ?_
                        refine q_Ru_seg (g2 := (14, [(0, .int 0), (1, .int 0)], [.int 0], (q_cM (q_uA (q_uA q_AM 33 f) 32 g) I q_J0, 34, 31630))) 8 (fun _ _ => rfl) ?_
                        exact q_Ru_ret rfl rfl
                      show q_Ru _ _ _ (17, [(2, .int 0), (0, .ref 64), (1, .int 0)], [.int 0, .int 0, .ref 97], (q_cM (q_uA (q_uA q_AM 33 f) 32 g) I q_J0, 34, 31630)) _
                      refine q_Ru_seg (g2 := (14, [(2, .int 1), (0, .ref 64), (1, .int 0)], [.int 1, .int 0, .int 1, .ref 97], (q_cM (q_uA (q_uA (q_uA q_AM 33 f) 32 g) 33 (upd (upd f 0 0) 4 0)) I q_J0, 34, 31630))) 18 (fun _ _ => rfl) ?_
                      refine q_Ru_call (v := (some (.int 0))) (h2 := (q_cM (q_uA (q_uA (q_uA q_AM 33 f) 32 g) 33 (upd (upd f 0 0) 4 0)) I q_J0, 34, 31630)) rfl rfl ?_ ?_
                      · refine q_Ca_of (Nat.le_of_ble_eq_true rfl) ?_
                        refine q_Ru_seg (g2 := (14, [(0, .int 0), (1, .int 1)], [.int 0], (q_cM (q_uA (q_uA (q_uA q_AM 33 f) 32 g) 33 (upd (upd f 0 0) 4 0)) I q_J0, 34, 31630))) 8 (fun _ _ => rfl) ?_
                        exact q_Ru_ret rfl rfl
                      show q_Ru _ _ _ (17, [(2, .int 1), (0, .ref 64), (1, .int 0)], [.int 0, .int 1, .ref 97], (q_cM (q_uA (q_uA (q_uA q_AM 33 f) 32 g) 33 (upd (upd f 0 0) 4 0)) I q_J0, 34, 31630)) _
                      refine q_Ru_seg (g2 := (14, [(2, .int 2), (0, .ref 64), (1, .int 0)], [.int 2, .int 0, .int 2, .ref 97], (q_cM (q_uA (q_uA (q_uA q_AM 33 f) 32 g) 33 (upd (upd (upd (upd f 0 0) 4 0) 1 0) 5 0)) I q_J0, 34, 31630))) 18 (fun _ _ => rfl) ?_
                      refine q_Ru_call (v := (some (.int 0))) (h2 := (q_cM (q_uA (q_uA (q_uA q_AM 33 f) 32 g) 33 (upd (upd (upd (upd f 0 0) 4 0) 1 0) 5 0)) I q_J0, 34, 31630)) rfl rfl ?_ ?_
                      · refine q_Ca_of (Nat.le_of_ble_eq_true rfl) ?_
                        refine q_Ru_seg (g2 := (14, [(0, .int 0), (1, .int 2)], [.int 0], (q_cM (q_uA (q_uA (q_uA q_AM 33 f) 32 g) 33 (upd (upd (upd (upd f 0 0) 4 0) 1 0) 5 0)) I q_J0, 34, 31630))) 8 (fun _ _ => rfl) ?_
                        exact q_Ru_ret rfl rfl
                      show q_Ru _ _ _ (17, [(2, .int 2), (0, .ref 64), (1, .int 0)], [.int 0, .int 2, .ref 97], (q_cM (q_uA (q_uA (q_uA q_AM 33 f) 32 g) 33 (upd (upd (upd (upd f 0 0) 4 0) 1 0) 5 0)) I q_J0, 34, 31630)) _
                      refine q_Ru_seg (g2 := (14, [(2, .int 3), (0, .ref 64), (1, .int 0)], [.int 3, .int 0, .int 3, .ref 97], (q_cM (q_uA (q_uA (q_uA q_AM 33 f) 32 g) 33 (upd (upd (upd (upd (upd (upd f 0 0) 4 0) 1 0) 5 0) 2 0) 6 0)) I q_J0, 34, 31630))) 18 (fun _ _ => rfl) ?_
                      refine q_Ru_call (v := (some (.int 0))) (h2 := (q_cM (q_uA (q_uA (q_uA q_AM 33 f) 32 g) 33 (upd (upd (upd (upd (upd (upd f 0 0) 4 0) 1 0) 5 0) 2 0) 6 0)) I q_J0, 34, 31630)) rfl rfl ?_ ?_
                      · refine q_Ca_of (Nat.le_of_ble_eq_true rfl) ?_
                        refine q_Ru_seg (g2 := (14, [(0, .int 0), (1, .int 3)], [.int 0], (q_cM (q_uA (q_uA (q_uA q_AM 33 f) 32 g) 33 (upd (upd (upd (upd (upd (upd f 0 0) 4 0) 1 0) 5 0) 2 0) 6 0)) I q_J0, 34, 31630))) 8 (fun _ _ => rfl) ?_
                        exact q_Ru_ret rfl rfl
                      show q_Ru _ _ _ (17, [(2, .int 3), (0, .ref 64), (1, .int 0)], [.int 0, .int 3, .ref 97], (q_cM (q_uA (q_uA (q_uA q_AM 33 f) 32 g) 33 (upd (upd (upd (upd (upd (upd f 0 0) 4 0) 1 0) 5 0) 2 0) 6 0)) I q_J0, 34, 31630)) _
                      refine q_Ru_seg (g2 := (55, [(3, .int 0), (2, .int 0), (0, .ref 64), (1, .int 0)], [.int 0], (q_cM (q_uA (q_uA (q_uA q_AM 33 f) 32 g) 33 (upd (upd (upd (upd (upd (upd (upd (upd f 0 0) 4 0) 1 0) 5 0) 2 0) 6 0) 3 0) 7 0)) I q_J0, 34, 31630))) 27 (fun _ _ => rfl) ?_
                      refine q_Ru_seg (g2 := (55, [(3, .int 1), (2, .int 0), (0, .ref 64), (1, .int 0)], [.int 0], (q_cM (q_uA (q_uA (q_uA q_AM 33 f) 32 g) 33 (upd (upd (upd (upd (upd (upd (upd (upd f 0 0) 4 0) 1 0) 5 0) 2 0) 6 0) 3 0) 7 0)) I q_J0, 34, 31630))) 11 (fun _ _ => rfl) ?_
                      refine q_Ru_seg (g2 := (55, [(3, .int 2), (2, .int 0), (0, .ref 64), (1, .int 0)], [.int 0], (q_cM (q_uA (q_uA (q_uA q_AM 33 f) 32 g) 33 (upd (upd (upd (upd (upd (upd (upd (upd f 0 0) 4 0) 1 0) 5 0) 2 0) 6 0) 3 0) 7 0)) I q_J0, 34, 31630))) 11 (fun _ _ => rfl) ?_
                      refine q_Ru_seg (g2 := (55, [(3, .int 3), (2, .int 0), (0, .ref 64), (1, .int 0)], [.int 0], (q_cM (q_uA (q_uA (q_uA q_AM 33 f) 32 g) 33 (upd (upd (upd (upd (upd (upd (upd (upd f 0 0) 4 0) 1 0) 5 0) 2 0) 6 0) 3 0) 7 0)) I q_J0, 34, 31630))) 11 (fun _ _ => rfl) ?_
                      refine q_Ru_seg (g2 := (55, [(3, .int 4), (2, .int 0), (0, .ref 64), (1, .int 0)], [.int 0], (q_cM (q_uA (q_uA (q_uA q_AM 33 f) 32 g) 33 (upd (upd (upd (upd (upd (upd (upd (upd f 0 0) 4 0) 1 0) 5 0) 2 0) 6 0) 3 0) 7 0)) I q_J0, 34, 31630))) 11 (fun _ _ => rfl) ?_
                      refine q_Ru_seg (g2 := (55, [(3, .int 5), (2, .int 0), (0, .ref 64), (1, .int 0)], [.int 0], (q_cM (q_uA (q_uA (q_uA q_AM 33 f) 32 g) 33 (upd (upd (upd (upd (upd (upd (upd (upd f 0 0) 4 0) 1 0) 5 0) 2 0) 6 0) 3 0) 7 0)) I q_J0, 34, 31630))) 11 (fun _ _ => rfl) ?_
                      refine q_Ru_seg (g2 := (55, [(3, .int 6), (2, .int 0), (0, .ref 64), (1, .int 0)], [.int 0], (q_cM (q_uA (q_uA (q_uA q_AM 33 f) 32 g) 33 (upd (upd (upd (upd (upd (upd (upd (upd f 0 0) 4 0) 1 0) 5 0) 2 0) 6 0) 3 0) 7 0)) I q_J0, 34, 31630))) 11 (fun _ _ => rfl) ?_
                      refine q_Ru_seg (g2 := (55, [(3, .int 7), (2, .int 0), (0, .ref 64), (1, .int 0)], [.int 0], (q_cM (q_uA (q_uA (q_uA q_AM 33 f) 32 g) 33 (upd (upd (upd (upd (upd (upd (upd (upd f 0 0) 4 0) 1 0) 5 0) 2 0) 6 0) 3 0) 7 0)) I q_J0, 34, 31630))) 11 (fun _ _ => rfl) ?_
                      refine q_Ru_seg (g2 := (55, [(3, .int 8), (2, .int 0), (0, .ref 64), (1, .int 0)], [.int 0], (q_cM (q_uA (q_uA (q_uA q_AM 33 f) 32 g) 33 (upd (upd (upd (upd (upd (upd (upd (upd f 0 0) 4 0) 1 0) 5 0) 2 0) 6 0) 3 0) 7 0)) I q_J0, 34, 31630))) 11 (fun _ _ => rfl) ?_
                      refine q_Ru_seg (g2 := (55, [(3, .int 9), (2, .int 0), (0, .ref 64), (1, .int 0)], [.int 0], (q_cM (q_uA (q_uA (q_uA q_AM 33 f) 32 g) 33 (upd (upd (upd (upd (upd (upd (upd (upd f 0 0) 4 0) 1 0) 5 0) 2 0) 6 0) 3 0) 7 0)) I q_J0, 34, 31630))) 11 (fun _ _ => rfl) ?_
                      refine q_Ru_seg (g2 := (55, [(3, .int 10), (2, .int 0), (0, .ref 64), (1, .int 0)], [.int 0], (q_cM (q_uA (q_uA (q_uA q_AM 33 f) 32 g) 33 (upd (upd (upd (upd (upd (upd (upd (upd f 0 0) 4 0) 1 0) 5 0) 2 0) 6 0) 3 0) 7 0)) I q_J0, 34, 31630))) 11 (fun _ _ => rfl) ?_
                      refine q_Ru_seg (g2 := (55, [(3, .int 11), (2, .int 0), (0, .ref 64), (1, .int 0)], [.int 0], (q_cM (q_uA (q_uA (q_uA q_AM 33 f) 32 g) 33 (upd (upd (upd (upd (upd (upd (upd (upd f 0 0) 4 0) 1 0) 5 0) 2 0) 6 0) 3 0) 7 0)) I q_J0, 34, 31630))) 11 (fun _ _ => rfl) ?_
                      refine q_Ru_seg (g2 := (55, [(3, .int 12), (2, .int 0), (0, .ref 64), (1, .int 0)], [.int 0], (q_cM (q_uA (q_uA (q_uA q_AM 33 f) 32 g) 33 (upd (upd (upd (upd (upd (upd (upd (upd f 0 0) 4 0) 1 0) 5 0) 2 0) 6 0) 3 0) 7 0)) I q_J0, 34, 31630))) 11 (fun _ _ => rfl) ?_
                      refine q_Ru_seg (g2 := (55, [(3, .int 13), (2, .int 0), (0, .ref 64), (1, .int 0)], [.int 0], (q_cM (q_uA (q_uA (q_uA q_AM 33 f) 32 g) 33 (upd (upd (upd (upd (upd (upd (upd (upd f 0 0) 4 0) 1 0) 5 0) 2 0) 6 0) 3 0) 7 0)) I q_J0, 34, 31630))) 11 (fun _ _ => rfl) ?_
                      refine q_Ru_seg (g2 := (55, [(3, .int 14), (2, .int 0), (0, .ref 64), (1, .int 0)], [.int 0], (q_cM (q_uA (q_uA (q_uA q_AM 33 f) 32 g) 33 (upd (upd (upd (upd (upd (upd (upd (upd f 0 0) 4 0) 1 0) 5 0) 2 0) 6 0) 3 0) 7 0)) I q_J0, 34, 31630))) 11 (fun _ _ => rfl) ?_
                      refine q_Ru_seg (g2 := (55, [(3, .int 15), (2, .int 0), (0, .ref 64), (1, .int 0)], [.int 0], (q_cM (q_uA (q_uA (q_uA q_AM 33 f) 32 g) 33 (upd (upd (upd (upd (upd (upd (upd (upd f 0 0) 4 0) 1 0) 5 0) 2 0) 6 0) 3 0) 7 0)) I q_J0, 34, 31630))) 11 (fun _ _ => rfl) ?_
                      refine q_Ru_seg (g2 := (55, [(3, .int 0), (2, .int 1), (0, .ref 64), (1, .int 0)], [.int 0], (q_cM (q_uA (q_uA (q_uA q_AM 33 f) 32 g) 33 (upd (upd (upd (upd (upd (upd (upd (upd f 0 0) 4 0) 1 0) 5 0) 2 0) 6 0) 3 0) 7 0)) I q_J0, 34, 31630))) 21 (fun _ _ => rfl) ?_
                      refine q_Ru_seg (g2 := (55, [(3, .int 1), (2, .int 1), (0, .ref 64), (1, .int 0)], [.int 0], (q_cM (q_uA (q_uA (q_uA q_AM 33 f) 32 g) 33 (upd (upd (upd (upd (upd (upd (upd (upd f 0 0) 4 0) 1 0) 5 0) 2 0) 6 0) 3 0) 7 0)) I q_J0, 34, 31630))) 11 (fun _ _ => rfl) ?_
                      refine q_Ru_seg (g2 := (55, [(3, .int 2), (2, .int 1), (0, .ref 64), (1, .int 0)], [.int 0], (q_cM (q_uA (q_uA (q_uA q_AM 33 f) 32 g) 33 (upd (upd (upd (upd (upd (upd (upd (upd f 0 0) 4 0) 1 0) 5 0) 2 0) 6 0) 3 0) 7 0)) I q_J0, 34, 31630))) 11 (fun _ _ => rfl) ?_
                      refine q_Ru_seg (g2 := (55, [(3, .int 3), (2, .int 1), (0, .ref 64), (1, .int 0)], [.int 0], (q_cM (q_uA (q_uA (q_uA q_AM 33 f) 32 g) 33 (upd (upd (upd (upd (upd (upd (upd (upd f 0 0) 4 0) 1 0) 5 0) 2 0) 6 0) 3 0) 7 0)) I q_J0, 34, 31630))) 11 (fun _ _ => rfl) ?_
                      refine q_Ru_seg (g2 := (55, [(3, .int 4), (2, .int 1), (0, .ref 64), (1, .int 0)], [.int 0], (q_cM (q_uA (q_uA (q_uA q_AM 33 f) 32 g) 33 (upd (upd (upd (upd (upd (upd (upd (upd f 0 0) 4 0) 1 0) 5 0) 2 0) 6 0) 3 0) 7 0)) I q_J0, 34, 31630))) 11 (fun _ _ => rfl) ?_
                      refine q_Ru_seg (g2 := (55, [(3, .int 5), (2, .int 1), (0, .ref 64), (1, .int 0)], [.int 0], (q_cM (q_uA (q_uA (q_uA q_AM 33 f) 32 g) 33 (upd (upd (upd (upd (upd (upd (upd (upd f 0 0) 4 0) 1 0) 5 0) 2 0) 6 0) 3 0) 7 0)) I q_J0, 34, 31630))) 11 (fun _ _ => rfl) ?_
                      refine q_Ru_seg (g2 := (55, [(3, .int 6), (2, .int 1), (0, .ref 64), (1, .int 0)], [.int 0], (q_cM (q_uA (q_uA (q_uA q_AM 33 f) 32 g) 33 (upd (upd (upd (upd (upd (upd (upd (upd f 0 0) 4 0) 1 0) 5 0) 2 0) 6 0) 3 0) 7 0)) I q_J0, 34, 31630))) 11 (fun _ _ => rfl) ?_
                      refine q_Ru_seg (g2 := (55, [(3, .int 7), (2, .int 1), (0, .ref 64), (1, .int 0)], [.int 0], (q_cM (q_uA (q_uA (q_uA q_AM 33 f) 32 g) 33 (upd (upd (upd (upd (upd (upd (upd (upd f 0 0) 4 0) 1 0) 5 0) 2 0) 6 0) 3 0) 7 0)) I q_J0, 34, 31630))) 11 (fun _ _ => rfl) ?_
                      refine q_Ru_seg (g2 := (55, [(3, .int 8), (2, .int 1), (0, .ref 64), (1, .int 0)], [.int 0], (q_cM (q_uA (q_uA (q_uA q_AM 33 f) 32 g) 33 (upd (upd (upd (upd (upd (upd (upd (upd f 0 0) 4 0) 1 0) 5 0) 2 0) 6 0) 3 0) 7 0)) I q_J0, 34, 31630))) 11 (fun _ _ => rfl) ?_
                      refine q_Ru_seg (g2 := (55, [(3, .int 9), (2, .int 1), (0, .ref 64), (1, .int 0)], [.int 0], (q_cM (q_uA (q_uA (q_uA q_AM 33 f) 32 g) 33 (upd (upd (upd (upd (upd (upd (upd (upd f 0 0) 4 0) 1 0) 5 0) 2 0) 6 0) 3 0) 7 0)) I q_J0, 34, 31630))) 11 (fun _ _ => rfl) ?_
                      refine q_Ru_seg (g2 := (55, [(3, .int 10), (2, .int 1), (0, .ref 64), (1, .int 0)], [.int 0], (q_cM (q_uA (q_uA (q_uA q_AM 33 f) 32 g) 33 (upd (upd (upd (upd (upd (upd (upd (upd f 0 0) 4 0) 1 0) 5 0) 2 0) 6 0) 3 0) 7 0)) I q_J0, 34, 31630))) 11 (fun _ _ => rfl) ?_
                      refine q_Ru_seg (g2 := (55, [(3, .int 11), (2, .int 1), (0, .ref 64), (1, .int 0)], [.int 0], (q_cM (q_uA (q_uA (q_uA q_AM 33 f) 32 g) 33 (upd (upd (upd (upd (upd (upd (upd (upd f 0 0) 4 0) 1 0) 5 0) 2 0) 6 0) 3 0) 7 0)) I q_J0, 34, 31630))) 11 (fun _ _ => rfl) ?_
                      refine q_Ru_seg (g2 := (55, [(3, .int 12), (2, .int 1), (0, .ref 64), (1, .int 0)], [.int 0], (q_cM (q_uA (q_uA (q_uA q_AM 33 f) 32 g) 33 (upd (upd (upd (upd (upd (upd (upd (upd f 0 0) 4 0) 1 0) 5 0) 2 0) 6 0) 3 0) 7 0)) I q_J0, 34, 31630))) 11 (fun _ _ => rfl) ?_
                      refine q_Ru_seg (g2 := (55, [(3, .int 13), (2, .int 1), (0, .ref 64), (1, .int 0)], [.int 0], (q_cM (q_uA (q_uA (q_uA q_AM 33 f) 32 g) 33 (upd (upd (upd (upd (upd (upd (upd (upd f 0 0) 4 0) 1 0) 5 0) 2 0) 6 0) 3 0) 7 0)) I q_J0, 34, 31630))) 11 (fun _ _ => rfl) ?_
                      refine q_Ru_seg (g2 := (55, [(3, .int 14), (2, .int 1), (0, .ref 64), (1, .int 0)], [.int 0], (q_cM (q_uA (q_uA (q_uA q_AM 33 f) 32 g) 33 (upd (upd (upd (upd (upd (upd (upd (upd f 0 0) 4 0) 1 0) 5 0) 2 0) 6 0) 3 0) 7 0)) I q_J0, 34, 31630))) 11 (fun _ _ => rfl) ?_
                      refine q_Ru_seg (g2 := (55, [(3, .int 15), (2, .int 1), (0, .ref 64), (1, .int 0)], [.int 0], (q_cM (q_uA (q_uA (q_uA q_AM 33 f) 32 g) 33 (upd (upd (upd (upd (upd (upd (upd (upd f 0 0) 4 0) 1 0) 5 0) 2 0) 6 0) 3 0) 7 0)) I q_J0, 34, 31630))) 11 (fun _ _ => rfl) ?_
                      refine q_Ru_seg (g2 := (55, [(3, .int 0), (2, .int 2), (0, .ref 64), (1, .int 0)], [.int 0], (q_cM (q_uA (q_uA (q_uA q_AM 33 f) 32 g) 33 (upd (upd (upd (upd (upd (upd (upd (upd f 0 0) 4 0) 1 0) 5 0) 2 0) 6 0) 3 0) 7 0)) I q_J0, 34, 31630))) 21 (fun _ _ => rfl) ?_
                      refine q_Ru_seg (g2 := (55, [(3, .int 1), (2, .int 2), (0, .ref 64), (1, .int 0)], [.int 0], (q_cM (q_uA (q_uA (q_uA q_AM 33 f) 32 g) 33 (upd (upd (upd (upd (upd (upd (upd (upd f 0 0) 4 0) 1 0) 5 0) 2 0) 6 0) 3 0) 7 0)) I q_J0, 34, 31630))) 11 (fun _ _ => rfl) ?_
                      refine q_Ru_seg (g2 := (55, [(3, .int 2), (2, .int 2), (0, .ref 64), (1, .int 0)], [.int 0], (q_cM (q_uA (q_uA (q_uA q_AM 33 f) 32 g) 33 (upd (upd (upd (upd (upd (upd (upd (upd f 0 0) 4 0) 1 0) 5 0) 2 0) 6 0) 3 0) 7 0)) I q_J0, 34, 31630))) 11 (fun _ _ => rfl) ?_
                      refine q_Ru_seg (g2 := (55, [(3, .int 3), (2, .int 2), (0, .ref 64), (1, .int 0)], [.int 0], (q_cM (q_uA (q_uA (q_uA q_AM 33 f) 32 g) 33 (upd (upd (upd (upd (upd (upd (upd (upd f 0 0) 4 0) 1 0) 5 0) 2 0) 6 0) 3 0) 7 0)) I q_J0, 34, 31630))) 11 (fun _ _ => rfl) ?_
                      refine q_Ru_seg (g2 := (55, [(3, .int 4), (2, .int 2), (0, .ref 64), (1, .int 0)], [.int 0], (q_cM (q_uA (q_uA (q_uA q_AM 33 f) 32 g) 33 (upd (upd (upd (upd (upd (upd (upd (upd f 0 0) 4 0) 1 0) 5 0) 2 0) 6 0) 3 0) 7 0)) I q_J0, 34, 31630))) 11 (fun _ _ => rfl) ?_
                      refine q_Ru_seg (g2 := (55, [(3, .int 5), (2, .int 2), (0, .ref 64), (1, .int 0)], [.int 0], (q_cM (q_uA (q_uA (q_uA q_AM 33 f) 32 g) 33 (upd (upd (upd (upd (upd (upd (upd (upd f 0 0) 4 0) 1 0) 5 0) 2 0) 6 0) 3 0) 7 0)) I q_J0, 34, 31630))) 11 (fun _ _ => rfl) ?_
                      refine q_Ru_seg (g2 := (55, [(3, .int 6), (2, .int 2), (0, .ref 64), (1, .int 0)], [.int 0], (q_cM (q_uA (q_uA (q_uA q_AM 33 f) 32 g) 33 (upd (upd (upd (upd (upd (upd (upd (upd f 0 0) 4 0) 1 0) 5 0) 2 0) 6 0) 3 0) 7 0)) I q_J0, 34, 31630))) 11 (fun _ _ => rfl) ?_
                      refine q_Ru_seg (g2 := (55, [(3, .int 7), (2, .int 2), (0, .ref 64), (1, .int 0)], [.int 0], (q_cM (q_uA (q_uA (q_uA q_AM 33 f) 32 g) 33 (upd (upd (upd (upd (upd (upd (upd (upd f 0 0) 4 0) 1 0) 5 0) 2 0) 6 0) 3 0) 7 0)) I q_J0, 34, 31630))) 11 (fun _ _ => rfl) ?_
                      refine q_Ru_seg (g2 := (55, [(3, .int 8), (2, .int 2), (0, .ref 64), (1, .int 0)], [.int 0], (q_cM (q_uA (q_uA (q_uA q_AM 33 f) 32 g) 33 (upd (upd (upd (upd (upd (upd (upd (upd f 0 0) 4 0) 1 0) 5 0) 2 0) 6 0) 3 0) 7 0)) I q_J0, 34, 31630))) 11 (fun _ _ => rfl) ?_
                      refine q_Ru_seg (g2 := (55, [(3, .int 9), (2, .int 2), (0, .ref 64), (1, .int 0)], [.int 0], (q_cM (q_uA (q_uA (q_uA q_AM 33 f) 32 g) 33 (upd (upd (upd (upd (upd (upd (upd (upd f 0 0) 4 0) 1 0) 5 0) 2 0) 6 0) 3 0) 7 0)) I q_J0, 34, 31630))) 11 (fun _ _ => rfl) ?_
                      refine q_Ru_seg (g2 := (55, [(3, .int 10), (2, .int 2), (0, .ref 64), (1, .int 0)], [.int 0], (q_cM (q_uA (q_uA (q_uA q_AM 33 f) 32 g) 33 (upd (upd (upd (upd (upd (upd (upd (upd f 0 0) 4 0) 1 0) 5 0) 2 0) 6 0) 3 0) 7 0)) I q_J0, 34, 31630))) 11 (fun _ _ => rfl) ?_
                      refine q_Ru_seg (g2 := (55, [(3, .int 11), (2, .int 2), (0, .ref 64), (1, .int 0)], [.int 0], (q_cM (q_uA (q_uA (q_uA q_AM 33 f) 32 g) 33 (upd (upd (upd (upd (upd (upd (upd (upd f 0 0) 4 0) 1 0) 5 0) 2 0) 6 0) 3 0) 7 0)) I q_J0, 34, 31630))) 11 (fun _ _ => rfl) ?_
                      refine q_Ru_seg (g2 := (55, [(3, .int 12), (2, .int 2), (0, .ref 64), (1, .int 0)], [.int 0], (q_cM (q_uA (q_uA (q_uA q_AM 33 f) 32 g) 33 (upd (upd (upd (upd (upd (upd (upd (upd f 0 0) 4 0) 1 0) 5 0) 2 0) 6 0) 3 0) 7 0)) I q_J0, 34, 31630))) 11 (fun _ _ => rfl) ?_
                      refine q_Ru_seg (g2 := (55, [(3, .int 13), (2, .int 2), (0, .ref 64), (1, .int 0)], [.int 0], (q_cM (q_uA (q_uA (q_uA q_AM 33 f) 32 g) 33 (upd (upd (upd (upd (upd (upd (upd (upd f 0 0) 4 0) 1 0) 5 0) 2 0) 6 0) 3 0) 7 0)) I q_J0, 34, 31630))) 11 (fun _ _ => rfl) ?_
                      refine q_Ru_seg (g2 := (55, [(3, .int 14), (2, .int 2), (0, .ref 64), (1, .int 0)], [.int 0], (q_cM (q_uA (q_uA (q_uA q_AM 33 f) 32 g) 33 (upd (upd (upd (upd (upd (upd (upd (upd f 0 0) 4 0) 1 0) 5 0) 2 0) 6 0) 3 0) 7 0)) I q_J0, 34, 31630))) 11 (fun _ _ => rfl) ?_
                      refine q_Ru_seg (g2 := (55, [(3, .int 15), (2, .int 2), (0, .ref 64), (1, .int 0)], [.int 0], (q_cM (q_uA (q_uA (q_uA q_AM 33 f) 32 g) 33 (upd (upd (upd (upd (upd (upd (upd (upd f 0 0) 4 0) 1 0) 5 0) 2 0) 6 0) 3 0) 7 0)) I q_J0, 34, 31630))) 11 (fun _ _ => rfl) ?_
                      refine q_Ru_seg (g2 := (55, [(3, .int 0), (2, .int 3), (0, .ref 64), (1, .int 0)], [.int 0], (q_cM (q_uA (q_uA (q_uA q_AM 33 f) 32 g) 33 (upd (upd (upd (upd (upd (upd (upd (upd f 0 0) 4 0) 1 0) 5 0) 2 0) 6 0) 3 0) 7 0)) I q_J0, 34, 31630))) 21 (fun _ _ => rfl) ?_
                      refine q_Ru_seg (g2 := (55, [(3, .int 1), (2, .int 3), (0, .ref 64), (1, .int 0)], [.int 0], (q_cM (q_uA (q_uA (q_uA q_AM 33 f) 32 g) 33 (upd (upd (upd (upd (upd (upd (upd (upd f 0 0) 4 0) 1 0) 5 0) 2 0) 6 0) 3 0) 7 0)) I q_J0, 34, 31630))) 11 (fun _ _ => rfl) ?_
                      refine q_Ru_seg (g2 := (55, [(3, .int 2), (2, .int 3), (0, .ref 64), (1, .int 0)], [.int 0], (q_cM (q_uA (q_uA (q_uA q_AM 33 f) 32 g) 33 (upd (upd (upd (upd (upd (upd (upd (upd f 0 0) 4 0) 1 0) 5 0) 2 0) 6 0) 3 0) 7 0)) I q_J0, 34, 31630))) 11 (fun _ _ => rfl) ?_
                      refine q_Ru_seg (g2 := (55, [(3, .int 3), (2, .int 3), (0, .ref 64), (1, .int 0)], [.int 0], (q_cM (q_uA (q_uA (q_uA q_AM 33 f) 32 g) 33 (upd (upd (upd (upd (upd (upd (upd (upd f 0 0) 4 0) 1 0) 5 0) 2 0) 6 0) 3 0) 7 0)) I q_J0, 34, 31630))) 11 (fun _ _ => rfl) ?_
                      refine q_Ru_seg (g2 := (55, [(3, .int 4), (2, .int 3), (0, .ref 64), (1, .int 0)], [.int 0], (q_cM (q_uA (q_uA (q_uA q_AM 33 f) 32 g) 33 (upd (upd (upd (upd (upd (upd (upd (upd f 0 0) 4 0) 1 0) 5 0) 2 0) 6 0) 3 0) 7 0)) I q_J0, 34, 31630))) 11 (fun _ _ => rfl) ?_
                      refine q_Ru_seg (g2 := (55, [(3, .int 5), (2, .int 3), (0, .ref 64), (1, .int 0)], [.int 0], (q_cM (q_uA (q_uA (q_uA q_AM 33 f) 32 g) 33 (upd (upd (upd (upd (upd (upd (upd (upd f 0 0) 4 0) 1 0) 5 0) 2 0) 6 0) 3 0) 7 0)) I q_J0, 34, 31630))) 11 (fun _ _ => rfl) ?_
                      refine q_Ru_seg (g2 := (55, [(3, .int 6), (2, .int 3), (0, .ref 64), (1, .int 0)], [.int 0], (q_cM (q_uA (q_uA (q_uA q_AM 33 f) 32 g) 33 (upd (upd (upd (upd (upd (upd (upd (upd f 0 0) 4 0) 1 0) 5 0) 2 0) 6 0) 3 0) 7 0)) I q_J0, 34, 31630))) 11 (fun _ _ => rfl) ?_
                      refine q_Ru_seg (g2 := (55, [(3, .int 7), (2, .int 3), (0, .ref 64), (1, .int 0)], [.int 0], (q_cM (q_uA (q_uA (q_uA q_AM 33 f) 32 g) 33 (upd (upd (upd (upd (upd (upd (upd (upd f 0 0) 4 0) 1 0) 5 0) 2 0) 6 0) 3 0) 7 0)) I q_J0, 34, 31630))) 11 (fun _ _ => rfl) ?_
                      refine q_Ru_seg (g2 := (55, [(3, .int 8), (2, .int 3), (0, .ref 64), (1, .int 0)], [.int 0], (q_cM (q_uA (q_uA (q_uA q_AM 33 f) 32 g) 33 (upd (upd (upd (upd (upd (upd (upd (upd f 0 0) 4 0) 1 0) 5 0) 2 0) 6 0) 3 0) 7 0)) I q_J0, 34, 31630))) 11 (fun _ _ => rfl) ?_
                      refine q_Ru_seg (g2 := (55, [(3, .int 9), (2, .int 3), (0, .ref 64), (1, .int 0)], [.int 0], (q_cM (q_uA (q_uA (q_uA q_AM 33 f) 32 g) 33 (upd (upd (upd (upd (upd (upd (upd (upd f 0 0) 4 0) 1 0) 5 0) 2 0) 6 0) 3 0) 7 0)) I q_J0, 34, 31630))) 11 (fun _ _ => rfl) ?_
                      refine q_Ru_seg (g2 := (55, [(3, .int 10), (2, .int 3), (0, .ref 64), (1, .int 0)], [.int 0], (q_cM (q_uA (q_uA (q_uA q_AM 33 f) 32 g) 33 (upd (upd (upd (upd (upd (upd (upd (upd f 0 0) 4 0) 1 0) 5 0) 2 0) 6 0) 3 0) 7 0)) I q_J0, 34, 31630))) 11 (fun _ _ => rfl) ?_
                      refine q_Ru_seg (g2 := (55, [(3, .int 11), (2, .int 3), (0, .ref 64), (1, .int 0)], [.int 0], (q_cM (q_uA (q_uA (q_uA q_AM 33 f) 32 g) 33 (upd (upd (upd (upd (upd (upd (upd (upd f 0 0) 4 0) 1 0) 5 0) 2 0) 6 0) 3 0) 7 0)) I q_J0, 34, 31630))) 11 (fun _ _ => rfl) ?_
                      refine q_Ru_seg (g2 := (55, [(3, .int 12), (2, .int 3), (0, .ref 64), (1, .int 0)], [.int 0], (q_cM (q_uA (q_uA (q_uA q_AM 33 f) 32 g) 33 (upd (upd (upd (upd (upd (upd (upd (upd f 0 0) 4 0) 1 0) 5 0) 2 0) 6 0) 3 0) 7 0)) I q_J0, 34, 31630))) 11 (fun _ _ => rfl) ?_
                      refine q_Ru_seg (g2 := (55, [(3, .int 13), (2, .int 3), (0, .ref 64), (1, .int 0)], [.int 0], (q_cM (q_uA (q_uA (q_uA q_AM 33 f) 32 g) 33 (upd (upd (upd (upd (upd (upd (upd (upd f 0 0) 4 0) 1 0) 5 0) 2 0) 6 0) 3 0) 7 0)) I q_J0, 34, 31630))) 11 (fun _ _ => rfl) ?_
                      refine q_Ru_seg (g2 := (55, [(3, .int 14), (2, .int 3), (0, .ref 64), (1, .int 0)], [.int 0], (q_cM (q_uA (q_uA (q_uA q_AM 33 f) 32 g) 33 (upd (upd (upd (upd (upd (upd (upd (upd f 0 0) 4 0) 1 0) 5 0) 2 0) 6 0) 3 0) 7 0)) I q_J0, 34, 31630))) 11 (fun _ _ => rfl) ?_
                      refine q_Ru_seg (g2 := (55, [(3, .int 15), (2, .int 3), (0, .ref 64), (1, .int 0)], [.int 0], (q_cM (q_uA (q_uA (q_uA q_AM 33 f) 32 g) 33 (upd (upd (upd (upd (upd (upd (upd (upd f 0 0) 4 0) 1 0) 5 0) 2 0) 6 0) 3 0) 7 0)) I q_J0, 34, 31630))) 11 (fun _ _ => rfl) ?_
                      refine q_Ru_seg (g2 := (55, [(3, .int 0), (2, .int 4), (0, .ref 64), (1, .int 0)], [.int 0], (q_cM (q_uA (q_uA (q_uA q_AM 33 f) 32 g) 33 (upd (upd (upd (upd (upd (upd (upd (upd f 0 0) 4 0) 1 0) 5 0) 2 0) 6 0) 3 0) 7 0)) I q_J0, 34, 31630))) 21 (fun _ _ => rfl) ?_
                      refine q_Ru_seg (g2 := (55, [(3, .int 1), (2, .int 4), (0, .ref 64), (1, .int 0)], [.int 0], (q_cM (q_uA (q_uA (q_uA q_AM 33 f) 32 g) 33 (upd (upd (upd (upd (upd (upd (upd (upd f 0 0) 4 0) 1 0) 5 0) 2 0) 6 0) 3 0) 7 0)) I q_J0, 34, 31630))) 11 (fun _ _ => rfl) ?_
                      refine q_Ru_seg (g2 := (55, [(3, .int 2), (2, .int 4), (0, .ref 64), (1, .int 0)], [.int 0], (q_cM (q_uA (q_uA (q_uA q_AM 33 f) 32 g) 33 (upd (upd (upd (upd (upd (upd (upd (upd f 0 0) 4 0) 1 0) 5 0) 2 0) 6 0) 3 0) 7 0)) I q_J0, 34, 31630))) 11 (fun _ _ => rfl) ?_
                      refine q_Ru_seg (g2 := (55, [(3, .int 3), (2, .int 4), (0, .ref 64), (1, .int 0)], [.int 0], (q_cM (q_uA (q_uA (q_uA q_AM 33 f) 32 g) 33 (upd (upd (upd (upd (upd (upd (upd (upd f 0 0) 4 0) 1 0) 5 0) 2 0) 6 0) 3 0) 7 0)) I q_J0, 34, 31630))) 11 (fun _ _ => rfl) ?_
                      refine q_Ru_seg (g2 := (55, [(3, .int 4), (2, .int 4), (0, .ref 64), (1, .int 0)], [.int 0], (q_cM (q_uA (q_uA (q_uA q_AM 33 f) 32 g) 33 (upd (upd (upd (upd (upd (upd (upd (upd f 0 0) 4 0) 1 0) 5 0) 2 0) 6 0) 3 0) 7 0)) I q_J0, 34, 31630))) 11 (fun _ _ => rfl) ?_
                      refine q_Ru_seg (g2 := (55, [(3, .int 5), (2, .int 4), (0, .ref 64), (1, .int 0)], [.int 0], (q_cM (q_uA (q_uA (q_uA q_AM 33 f) 32 g) 33 (upd (upd (upd (upd (upd (upd (upd (upd f 0 0) 4 0) 1 0) 5 0) 2 0) 6 0) 3 0) 7 0)) I q_J0, 34, 31630))) 11 (fun _ _ => rfl) ?_
                      refine q_Ru_seg (g2 := (55, [(3, .int 6), (2, .int 4), (0, .ref 64), (1, .int 0)], [.int 0], (q_cM (q_uA (q_uA (q_uA q_AM 33 f) 32 g) 33 (upd (upd (upd (upd (upd (upd (upd (upd f 0 0) 4 0) 1 0) 5 0) 2 0) 6 0) 3 0) 7 0)) I q_J0, 34, 31630))) 11 (fun _ _ => rfl) ?_
                      refine q_Ru_seg (g2 := (55, [(3, .int 7), (2, .int 4), (0, .ref 64), (1, .int 0)], [.int 0], (q_cM (q_uA (q_uA (q_uA q_AM 33 f) 32 g) 33 (upd (upd (upd (upd (upd (upd (upd (upd f 0 0) 4 0) 1 0) 5 0) 2 0) 6 0) 3 0) 7 0)) I q_J0, 34, 31630))) 11 (fun _ _ => rfl) ?_
                      refine q_Ru_seg (g2 := (55, [(3, .int 8), (2, .int 4), (0, .ref 64), (1, .int 0)], [.int 0], (q_cM (q_uA (q_uA (q_uA q_AM 33 f) 32 g) 33 (upd (upd (upd (upd (upd (upd (upd (upd f 0 0) 4 0) 1 0) 5 0) 2 0) 6 0) 3 0) 7 0)) I q_J0, 34, 31630))) 11 (fun _ _ => rfl) ?_
                      refine q_Ru_seg (g2 := (55, [(3, .int 9), (2, .int 4), (0, .ref 64), (1, .int 0)], [.int 0], (q_cM (q_uA (q_uA (q_uA q_AM 33 f) 32 g) 33 (upd (upd (upd (upd (upd (upd (upd (upd f 0 0) 4 0) 1 0) 5 0) 2 0) 6 0) 3 0) 7 0)) I q_J0, 34, 31630))) 11 (fun _ _ => rfl) ?_
                      refine q_Ru_seg (g2 := (55, [(3, .int 10), (2, .int 4), (0, .ref 64), (1, .int 0)], [.int 0], (q_cM (q_uA (q_uA (q_uA q_AM 33 f) 32 g) 33 (upd (upd (upd (upd (upd (upd (upd (upd f 0 0) 4 0) 1 0) 5 0) 2 0) 6 0) 3 0) 7 0)) I q_J0, 34, 31630))) 11 (fun _ _ => rfl) ?_
                      refine q_Ru_seg (g2 := (55, [(3, .int 11), (2, .int 4), (0, .ref 64), (1, .int 0)], [.int 0], (q_cM (q_uA (q_uA (q_uA q_AM 33 f) 32 g) 33 (upd (upd (upd (upd (upd (upd (upd (upd f 0 0) 4 0) 1 0) 5 0) 2 0) 6 0) 3 0) 7 0)) I q_J0, 34, 31630))) 11 (fun _ _ => rfl) ?_
                      refine q_Ru_seg (g2 := (55, [(3, .int 12), (2, .int 4), (0, .ref 64), (1, .int 0)], [.int 0], (q_cM (q_uA (q_uA (q_uA q_AM 33 f) 32 g) 33 (upd (upd (upd (upd (upd (upd (upd (upd f 0 0) 4 0) 1 0) 5 0) 2 0) 6 0) 3 0) 7 0)) I q_J0, 34, 31630))) 11 (fun _ _ => rfl) ?_
                      refine q_Ru_seg (g2 := (55, [(3, .int 13), (2, .int 4), (0, .ref 64), (1, .int 0)], [.int 0], (q_cM (q_uA (q_uA (q_uA q_AM 33 f) 32 g) 33 (upd (upd (upd (upd (upd (upd (upd (upd f 0 0) 4 0) 1 0) 5 0) 2 0) 6 0) 3 0) 7 0)) I q_J0, 34, 31630))) 11 (fun _ _ => rfl) ?_
                      refine q_Ru_seg (g2 := (55, [(3, .int 14), (2, .int 4), (0, .ref 64), (1, .int 0)], [.int 0], (q_cM (q_uA (q_uA (q_uA q_AM 33 f) 32 g) 33 (upd (upd (upd (upd (upd (upd (upd (upd f 0 0) 4 0) 1 0) 5 0) 2 0) 6 0) 3 0) 7 0)) I q_J0, 34, 31630))) 11 (fun _ _ => rfl) ?_
                      refine q_Ru_seg (g2 := (55, [(3, .int 15), (2, .int 4), (0, .ref 64), (1, .int 0)], [.int 0], (q_cM (q_uA (q_uA (q_uA q_AM 33 f) 32 g) 33 (upd (upd (upd (upd (upd (upd (upd (upd f 0 0) 4 0) 1 0) 5 0) 2 0) 6 0) 3 0) 7 0)) I q_J0, 34, 31630))) 11 (fun _ _ => rfl) ?_
                      refine q_Ru_seg (g2 := (55, [(3, .int 0), (2, .int 5), (0, .ref 64), (1, .int 0)], [.int 0], (q_cM (q_uA (q_uA (q_uA q_AM 33 f) 32 g) 33 (upd (upd (upd (upd (upd (upd (upd (upd f 0 0) 4 0) 1 0) 5 0) 2 0) 6 0) 3 0) 7 0)) I q_J0, 34, 31630))) 21 (fun _ _ => rfl) ?_
                      refine q_Ru_seg (g2 := (55, [(3, .int 1), (2, .int 5), (0, .ref 64), (1, .int 0)], [.int 0], (q_cM (q_uA (q_uA (q_uA q_AM 33 f) 32 g) 33 (upd (upd (upd (upd (upd (upd (upd (upd f 0 0) 4 0) 1 0) 5 0) 2 0) 6 0) 3 0) 7 0)) I q_J0, 34, 31630))) 11 (fun _ _ => rfl) ?_
                      refine q_Ru_seg (g2 := (55, [(3, .int 2), (2, .int 5), (0, .ref 64), (1, .int 0)], [.int 0], (q_cM (q_uA (q_uA (q_uA q_AM 33 f) 32 g) 33 (upd (upd (upd (upd (upd (upd (upd (upd f 0 0) 4 0) 1 0) 5 0) 2 0) 6 0) 3 0) 7 0)) I q_J0, 34, 31630))) 11 (fun _ _ => rfl) ?_
                      refine q_Ru_seg (g2 := (55, [(3, .int 3), (2, .int 5), (0, .ref 64), (1, .int 0)], [.int 0], (q_cM (q_uA (q_uA (q_uA q_AM 33 f) 32 g) 33 (upd (upd (upd (upd (upd (upd (upd (upd f 0 0) 4 0) 1 0) 5 0) 2 0) 6 0) 3 0) 7 0)) I q_J0, 34, 31630))) 11 (fun _ _ => rfl) ?_
                      refine q_Ru_seg (g2 := (55, [(3, .int 4), (2, .int 5), (0, .ref 64), (1, .int 0)], [.int 0], (q_cM (q_uA (q_uA (q_uA q_AM 33 f) 32 g) 33 (upd (upd (upd (upd (upd (upd (upd (upd f 0 0) 4 0) 1 0) 5 0) 2 0) 6 0) 3 0) 7 0)) I q_J0, 34, 31630))) 11 (fun _ _ => rfl) ?_
                      refine q_Ru_seg (g2 := (55, [(3, .int 5), (2, .int 5), (0, .ref 64), (1, .int 0)], [.int 0], (q_cM (q_uA (q_uA (q_uA q_AM 33 f) 32 g) 33 (upd (upd (upd (upd (upd (upd (upd (upd f 0 0) 4 0) 1 0) 5 0) 2 0) 6 0) 3 0) 7 0)) I q_J0, 34, 31630))) 11 (fun _ _ => rfl) ?_
                      refine q_Ru_seg (g2 := (55, [(3, .int 6), (2, .int 5), (0, .ref 64), (1, .int 0)], [.int 0], (q_cM (q_uA (q_uA (q_uA q_AM 33 f) 32 g) 33 (upd (upd (upd (upd (upd (upd (upd (upd f 0 0) 4 0) 1 0) 5 0) 2 0) 6 0) 3 0) 7 0)) I q_J0, 34, 31630))) 11 (fun _ _ => rfl) ?_
                      refine q_Ru_seg (g2 := (55, [(3, .int 7), (2, .int 5), (0, .ref 64), (1, .int 0)], [.int 0], (q_cM (q_uA (q_uA (q_uA q_AM 33 f) 32 g) 33 (upd (upd (upd (upd (upd (upd (upd (upd f 0 0) 4 0) 1 0) 5 0) 2 0) 6 0) 3 0) 7 0)) I q_J0, 34, 31630))) 11 (fun _ _ => rfl) ?_
                      refine q_Ru_seg (g2 := (55, [(3, .int 8), (2, .int 5), (0, .ref 64), (1, .int 0)], [.int 0], (q_cM (q_uA (q_uA (q_uA q_AM 33 f) 32 g) 33 (upd (upd (upd (upd (upd (upd (upd (upd f 0 0) 4 0) 1 0) 5 0) 2 0) 6 0) 3 0) 7 0)) I q_J0, 34, 31630))) 11 (fun _ _ => rfl) ?_
                      refine q_Ru_seg (g2 := (55, [(3, .int 9), (2, .int 5), (0, .ref 64), (1, .int 0)], [.int 0], (q_cM (q_uA (q_uA (q_uA q_AM 33 f) 32 g) 33 (upd (upd (upd (upd (upd (upd (upd (upd f 0 0) 4 0) 1 0) 5 0) 2 0) 6 0) 3 0) 7 0)) I q_J0, 34, 31630))) 11 (fun _ _ => rfl) ?_
                      refine q_Ru_seg (g2 := (55, [(3, .int 10), (2, .int 5), (0, .ref 64), (1, .int 0)], [.int 0], (q_cM (q_uA (q_uA (q_uA q_AM 33 f) 32 g) 33 (upd (upd (upd (upd (upd (upd (upd (upd f 0 0) 4 0) 1 0) 5 0) 2 0) 6 0) 3 0) 7 0)) I q_J0, 34, 31630))) 11 (fun _ _ => rfl) ?_
                      refine q_Ru_seg (g2 := (55, [(3, .int 11), (2, .int 5), (0, .ref 64), (1, .int 0)], [.int 0], (q_cM (q_uA (q_uA (q_uA q_AM 33 f) 32 g) 33 (upd (upd (upd (upd (upd (upd (upd (upd f 0 0) 4 0) 1 0) 5 0) 2 0) 6 0) 3 0) 7 0)) I q_J0, 34, 31630))) 11 (fun _ _ => rfl) ?_
                      refine q_Ru_seg (g2 := (55, [(3, .int 12), (2, .int 5), (0, .ref 64), (1, .int 0)], [.int 0], (q_cM (q_uA (q_uA (q_uA q_AM 33 f) 32 g) 33 (upd (upd (upd (upd (upd (upd (upd (upd f 0 0) 4 0) 1 0) 5 0) 2 0) 6 0) 3 0) 7 0)) I q_J0, 34, 31630))) 11 (fun _ _ => rfl) ?_
                      refine q_Ru_seg (g2 := (55, [(3, .int 13), (2, .int 5), (0, .ref 64), (1, .int 0)], [.int 0], (q_cM (q_uA (q_uA (q_uA q_AM 33 f) 32 g) 33 (upd (upd (upd (upd (upd (upd (upd (upd f 0 0) 4 0) 1 0) 5 0) 2 0) 6 0) 3 0) 7 0)) I q_J0, 34, 31630))) 11 (fun _ _ => rfl) ?_
                      refine q_Ru_seg (g2 := (55, [(3, .int 14), (2, .int 5), (0, .ref 64), (1, .int 0)], [.int 0], (q_cM (q_uA (q_uA (q_uA q_AM 33 f) 32 g) 33 (upd (upd (upd (upd (upd (upd (upd (upd f 0 0) 4 0) 1 0) 5 0) 2 0) 6 0) 3 0) 7 0)) I q_J0, 34, 31630))) 11 (fun _ _ => rfl) ?_
                      refine q_Ru_seg (g2 := (55, [(3, .int 15), (2, .int 5), (0, .ref 64), (1, .int 0)], [.int 0], (q_cM (q_uA (q_uA (q_uA q_AM 33 f) 32 g) 33 (upd (upd (upd (upd (upd (upd (upd (upd f 0 0) 4 0) 1 0) 5 0) 2 0) 6 0) 3 0) 7 0)) I q_J0, 34, 31630))) 11 (fun _ _ => rfl) ?_
                      refine q_Ru_seg (g2 := (55, [(3, .int 0), (2, .int 6), (0, .ref 64), (1, .int 0)], [.int 0], (q_cM (q_uA (q_uA (q_uA q_AM 33 f) 32 g) 33 (upd (upd (upd (upd (upd (upd (upd (upd f 0 0) 4 0) 1 0) 5 0) 2 0) 6 0) 3 0) 7 0)) I q_J0, 34, 31630))) 21 (fun _ _ => rfl) ?_
                      refine q_Ru_seg (g2 := (55, [(3, .int 1), (2, .int 6), (0, .ref 64), (1, .int 0)], [.int 0], (q_cM (q_uA (q_uA (q_uA q_AM 33 f) 32 g) 33 (upd (upd (upd (upd (upd (upd (upd (upd f 0 0) 4 0) 1 0) 5 0) 2 0) 6 0) 3 0) 7 0)) I q_J0, 34, 31630))) 11 (fun _ _ => rfl) ?_
                      refine q_Ru_seg (g2 := (55, [(3, .int 2), (2, .int 6), (0, .ref 64), (1, .int 0)], [.int 0], (q_cM (q_uA (q_uA (q_uA q_AM 33 f) 32 g) 33 (upd (upd (upd (upd (upd (upd (upd (upd f 0 0) 4 0) 1 0) 5 0) 2 0) 6 0) 3 0) 7 0)) I q_J0, 34, 31630))) 11 (fun _ _ => rfl) ?_
                      refine q_Ru_seg (g2 := (55, [(3, .int 3), (2, .int 6), (0, .ref 64), (1, .int 0)], [.int 0], (q_cM (q_uA (q_uA (q_uA q_AM 33 f) 32 g) 33 (upd (upd (upd (upd (upd (upd (upd (upd f 0 0) 4 0) 1 0) 5 0) 2 0) 6 0) 3 0) 7 0)) I q_J0, 34, 31630))) 11 (fun _ _ => rfl) ?_
                      refine q_Ru_seg (g2 := (55, [(3, .int 4), (2, .int 6), (0, .ref 64), (1, .int 0)], [.int 0], (q_cM (q_uA (q_uA (q_uA q_AM 33 f) 32 g) 33 (upd (upd (upd (upd (upd (upd (upd (upd f 0 0) 4 0) 1 0) 5 0) 2 0) 6 0) 3 0) 7 0)) I q_J0, 34, 31630))) 11 (fun _ _ => rfl) ?_
                      refine q_Ru_seg (g2 := (55, [(3, .int 5), (2, .int 6), (0, .ref 64), (1, .int 0)], [.int 0], (q_cM (q_uA (q_uA (q_uA q_AM 33 f) 32 g) 33 (upd (upd (upd (upd (upd (upd (upd (upd f 0 0) 4 0) 1 0) 5 0) 2 0) 6 0) 3 0) 7 0)) I q_J0, 34, 31630))) 11 (fun _ _ => rfl) ?_
                      refine q_Ru_seg (g2 := (55, [(3, .int 6), (2, .int 6), (0, .ref 64), (1, .int 0)], [.int 0], (q_cM (q_uA (q_uA (q_uA q_AM 33 f) 32 g) 33 (upd (upd (upd (upd (upd (upd (upd (upd f 0 0) 4 0) 1 0) 5 0) 2 0) 6 0) 3 0) 7 0)) I q_J0, 34, 31630))) 11 (fun _ _ => rfl) ?_
                      refine q_Ru_seg (g2 := (55, [(3, .int 7), (2, .int 6), (0, .ref 64), (1, .int 0)], [.int 0], (q_cM (q_uA (q_uA (q_uA q_AM 33 f) 32 g) 33 (upd (upd (upd (upd (upd (upd (upd (upd f 0 0) 4 0) 1 0) 5 0) 2 0) 6 0) 3 0) 7 0)) I q_J0, 34, 31630))) 11 (fun _ _ => rfl) ?_
                      refine q_Ru_seg (g2 := (55, [(3, .int 8), (2, .int 6), (0, .ref 64), (1, .int 0)], [.int 0], (q_cM (q_uA (q_uA (q_uA q_AM 33 f) 32 g) 33 (upd (upd (upd (upd (upd (upd (upd (upd f 0 0) 4 0) 1 0) 5 0) 2 0) 6 0) 3 0) 7 0)) I q_J0, 34, 31630))) 11 (fun _ _ => rfl) ?_
                      refine q_Ru_seg (g2 := (55, [(3, .int 9), (2, .int 6), (0, .ref 64), (1, .int 0)], [.int 0], (q_cM (q_uA (q_uA (q_uA q_AM 33 f) 32 g) 33 (upd (upd (upd (upd (upd (upd (upd (upd f 0 0) 4 0) 1 0) 5 0) 2 0) 6 0) 3 0) 7 0)) I q_J0, 34, 31630))) 11 (fun _ _ => rfl) ?_
                      refine q_Ru_seg (g2 := (55, [(3, .int 10), (2, .int 6), (0, .ref 64), (1, .int 0)], [.int 0], (q_cM (q_uA (q_uA (q_uA q_AM 33 f) 32 g) 33 (upd (upd (upd (upd (upd (upd (upd (upd f 0 0) 4 0) 1 0) 5 0) 2 0) 6 0) 3 0) 7 0)) I q_J0, 34, 31630))) 11 (fun _ _ => rfl) ?_
                      refine q_Ru_seg (g2 := (55, [(3, .int 11), (2, .int 6), (0, .ref 64), (1, .int 0)], [.int 0], (q_cM (q_uA (q_uA (q_uA q_AM 33 f) 32 g) 33 (upd (upd (upd (upd (upd (upd (upd (upd f 0 0) 4 0) 1 0) 5 0) 2 0) 6 0) 3 0) 7 0)) I q_J0, 34, 31630))) 11 (fun _ _ => rfl) ?_
                      refine q_Ru_seg (g2 := (55, [(3, .int 12), (2, .int 6), (0, .ref 64), (1, .int 0)], [.int 0], (q_cM (q_uA (q_uA (q_uA q_AM 33 f) 32 g) 33 (upd (upd (upd (upd (upd (upd (upd (upd f 0 0) 4 0) 1 0) 5 0) 2 0) 6 0) 3 0) 7 0)) I q_J0, 34, 31630))) 11 (fun _ _ => rfl) ?_
                      refine q_Ru_seg (g2 := (55, [(3, .int 13), (2, .int 6), (0, .ref 64), (1, .int 0)], [.int 0], (q_cM (q_uA (q_uA (q_uA q_AM 33 f) 32 g) 33 (upd (upd (upd (upd (upd (upd (upd (upd f 0 0) 4 0) 1 0) 5 0) 2 0) 6 0) 3 0) 7 0)) I q_J0, 34, 31630))) 11 (fun _ _ => rfl) ?_
                      refine q_Ru_seg (g2 := (55, [(3, .int 14), (2, .int 6), (0, .ref 64), (1, .int 0)], [.int 0], (q_cM (q_uA (q_uA (q_uA q_AM 33 f) 32 g) 33 (upd (upd (upd (upd (upd (upd (upd (upd f 0 0) 4 0) 1 0) 5 0) 2 0) 6 0) 3 0) 7 0)) I q_J0, 34, 31630))) 11 (fun _ _ => rfl) ?_
                      refine q_Ru_seg (g2 := (55, [(3, .int 15), (2, .int 6), (0, .ref 64), (1, .int 0)], [.int 0], (q_cM (q_uA (q_uA (q_uA q_AM 33 f) 32 g) 33 (upd (upd (upd (upd (upd (upd (upd (upd f 0 0) 4 0) 1 0) 5 0) 2 0) 6 0) 3 0) 7 0)) I q_J0, 34, 31630))) 11 (fun _ _ => rfl) ?_
                      refine q_Ru_seg (g2 := (55, [(3, .int 0), (2, .int 7), (0, .ref 64), (1, .int 0)], [.int 0], (q_cM (q_uA (q_uA (q_uA q_AM 33 f) 32 g) 33 (upd (upd (upd (upd (upd (upd (upd (upd f 0 0) 4 0) 1 0) 5 0) 2 0) 6 0) 3 0) 7 0)) I q_J0, 34, 31630))) 21 (fun _ _ => rfl) ?_
                      refine q_Ru_seg (g2 := (55, [(3, .int 1), (2, .int 7), (0, .ref 64), (1, .int 0)], [.int 0], (q_cM (q_uA (q_uA (q_uA q_AM 33 f) 32 g) 33 (upd (upd (upd (upd (upd (upd (upd (upd f 0 0) 4 0) 1 0) 5 0) 2 0) 6 0) 3 0) 7 0)) I q_J0, 34, 31630))) 11 (fun _ _ => rfl) ?_
                      refine q_Ru_seg (g2 := (55, [(3, .int 2), (2, .int 7), (0, .ref 64), (1, .int 0)], [.int 0], (q_cM (q_uA (q_uA (q_uA q_AM 33 f) 32 g) 33 (upd (upd (upd (upd (upd (upd (upd (upd f 0 0) 4 0) 1 0) 5 0) 2 0) 6 0) 3 0) 7 0)) I q_J0, 34, 31630))) 11 (fun _ _ => rfl) ?_
                      refine q_Ru_seg (g2 := (55, [(3, .int 3), (2, .int 7), (0, .ref 64), (1, .int 0)], [.int 0], (q_cM (q_uA (q_uA (q_uA q_AM 33 f) 32 g) 33 (upd (upd (upd (upd (upd (upd (upd (upd f 0 0) 4 0) 1 0) 5 0) 2 0) 6 0) 3 0) 7 0)) I q_J0, 34, 31630))) 11 (fun _ _ => rfl) ?_
                      refine q_Ru_seg (g2 := (55, [(3, .int 4), (2, .int 7), (0, .ref 64), (1, .int 0)], [.int 0], (q_cM (q_uA (q_uA (q_uA q_AM 33 f) 32 g) 33 (upd (upd (upd (upd (upd (upd (upd (upd f 0 0) 4 0) 1 0) 5 0) 2 0) 6 0) 3 0) 7 0)) I q_J0, 34, 31630))) 11 (fun _ _ => rfl) ?_
                      refine q_Ru_seg (g2 := (55, [(3, .int 5), (2, .int 7), (0, .ref 64), (1, .int 0)], [.int 0], (q_cM (q_uA (q_uA (q_uA q_AM 33 f) 32 g) 33 (upd (upd (upd (upd (upd (upd (upd (upd f 0 0) 4 0) 1 0) 5 0) 2 0) 6 0) 3 0) 7 0)) I q_J0, 34, 31630))) 11 (fun _ _ => rfl) ?_
                      refine q_Ru_seg (g2 := (55, [(3, .int 6), (2, .int 7), (0, .ref 64), (1, .int 0)], [.int 0], (q_cM (q_uA (q_uA (q_uA q_AM 33 f) 32 g) 33 (upd (upd (upd (upd (upd (upd (upd (upd f 0 0) 4 0) 1 0) 5 0) 2 0) 6 0) 3 0) 7 0)) I q_J0, 34, 31630))) 11 (fun _ _ => rfl) ?_
                      refine q_Ru_seg (g2 := (55, [(3, .int 7), (2, .int 7), (0, .ref 64), (1, .int 0)], [.int 0], (q_cM (q_uA (q_uA (q_uA q_AM 33 f) 32 g) 33 (upd (upd (upd (upd (upd (upd (upd (upd f 0 0) 4 0) 1 0) 5 0) 2 0) 6 0) 3 0) 7 0)) I q_J0, 34, 31630))) 11 (fun _ _ => rfl) ?_
                      refine q_Ru_seg (g2 := (55, [(3, .int 8), (2, .int 7), (0, .ref 64), (1, .int 0)], [.int 0], (q_cM (q_uA (q_uA (q_uA q_AM 33 f) 32 g) 33 (upd (upd (upd (upd (upd (upd (upd (upd f 0 0) 4 0) 1 0) 5 0) 2 0) 6 0) 3 0) 7 0)) I q_J0, 34, 31630))) 11 (fun _ _ => rfl) ?_
                      refine q_Ru_seg (g2 := (55, [(3, .int 9), (2, .int 7), (0, .ref 64), (1, .int 0)], [.int 0], (q_cM (q_uA (q_uA (q_uA q_AM 33 f) 32 g) 33 (upd (upd (upd (upd (upd (upd (upd (upd f 0 0) 4 0) 1 0) 5 0) 2 0) 6 0) 3 0) 7 0)) I q_J0, 34, 31630))) 11 (fun _ _ => rfl) ?_
                      refine q_Ru_seg (g2 := (55, [(3, .int 10), (2, .int 7), (0, .ref 64), (1, .int 0)], [.int 0], (q_cM (q_uA (q_uA (q_uA q_AM 33 f) 32 g) 33 (upd (upd (upd (upd (upd (upd (upd (upd f 0 0) 4 0) 1 0) 5 0) 2 0) 6 0) 3 0) 7 0)) I q_J0, 34, 31630))) 11 (fun _ _ => rfl) ?_
                      refine q_Ru_seg (g2 := (55, [(3, .int 11), (2, .int 7), (0, .ref 64), (1, .int 0)], [.int 0], (q_cM (q_uA (q_uA (q_uA q_AM 33 f) 32 g) 33 (upd (upd (upd (upd (upd (upd (upd (upd f 0 0) 4 0) 1 0) 5 0) 2 0) 6 0) 3 0) 7 0)) I q_J0, 34, 31630))) 11 (fun _ _ => rfl) ?_
                      refine q_Ru_seg (g2 := (55, [(3, .int 12), (2, .int 7), (0, .ref 64), (1, .int 0)], [.int 0], (q_cM (q_uA (q_uA (q_uA q_AM 33 f) 32 g) 33 (upd (upd (upd (upd (upd (upd (upd (upd f 0 0) 4 0) 1 0) 5 0) 2 0) 6 0) 3 0) 7 0)) I q_J0, 34, 31630))) 11 (fun _ _ => rfl) ?_
                      refine q_Ru_seg (g2 := (55, [(3, .int 13), (2, .int 7), (0, .ref 64), (1, .int 0)], [.int 0], (q_cM (q_uA (q_uA (q_uA q_AM 33 f) 32 g) 33 (upd (upd (upd (upd (upd (upd (upd (upd f 0 0) 4 0) 1 0) 5 0) 2 0) 6 0) 3 0) 7 0)) I q_J0, 34, 31630))) 11 (fun _ _ => rfl) ?_
                      refine q_Ru_seg (g2 := (55, [(3, .int 14), (2, .int 7), (0, .ref 64), (1, .int 0)], [.int 0], (q_cM (q_uA (q_uA (q_uA q_AM 33 f) 32 g) 33 (upd (upd (upd (upd (upd (upd (upd (upd f 0 0) 4 0) 1 0) 5 0) 2 0) 6 0) 3 0) 7 0)) I q_J0, 34, 31630))) 11 (fun _ _ => rfl) ?_
                      refine q_Ru_seg (g2 := (55, [(3, .int 15), (2, .int 7), (0, .ref 64), (1, .int 0)], [.int 0], (q_cM (q_uA (q_uA (q_uA q_AM 33 f) 32 g) 33 (upd (upd (upd (upd (upd (upd (upd (upd f 0 0) 4 0) 1 0) 5 0) 2 0) 6 0) 3 0) 7 0)) I q_J0, 34, 31630))) 11 (fun _ _ => rfl) ?_
                      refine q_Ru_seg (g2 := (144, [(3, .int 0), (2, .int 0), (0, .ref 64), (1, .int 0)], [.int 0, .int 0], (q_cM (q_uA (q_uA (q_uA q_AM 33 f) 32 g) 33 (upd (upd (upd (upd (upd (upd (upd (upd f 0 0) 4 0) 1 0) 5 0) 2 0) 6 0) 3 0) 7 0)) I q_J0, 34, 31630))) 26 (fun _ _ => rfl) ?_
                      refine q_Ru_seg (g2 := (144, [(3, .int 1), (2, .int 0), (0, .ref 64), (1, .int 0)], [.int 0, .int 0], (q_cM (q_uA (q_uA (q_uA q_AM 33 f) 32 g) 33 (upd (upd (upd (upd (upd (upd (upd (upd f 0 0) 4 0) 1 0) 5 0) 2 0) 6 0) 3 0) 7 0)) I q_J0, 34, 31630))) 16 (fun _ _ => rfl) ?_
                      refine q_Ru_seg (g2 := (144, [(3, .int 2), (2, .int 0), (0, .ref 64), (1, .int 0)], [.int 0, .int 0], (q_cM (q_uA (q_uA (q_uA q_AM 33 f) 32 g) 33 (upd (upd (upd (upd (upd (upd (upd (upd f 0 0) 4 0) 1 0) 5 0) 2 0) 6 0) 3 0) 7 0)) I q_J0, 34, 31630))) 16 (fun _ _ => rfl) ?_
                      refine q_Ru_seg (g2 := (144, [(3, .int 3), (2, .int 0), (0, .ref 64), (1, .int 0)], [.int 0, .int 0], (q_cM (q_uA (q_uA (q_uA q_AM 33 f) 32 g) 33 (upd (upd (upd (upd (upd (upd (upd (upd f 0 0) 4 0) 1 0) 5 0) 2 0) 6 0) 3 0) 7 0)) I q_J0, 34, 31630))) 16 (fun _ _ => rfl) ?_
                      refine q_Ru_seg (g2 := (163, [(3, .int 4), (2, .int 0), (0, .ref 64), (1, .int 0)], [.int 0], (q_cM (q_uA (q_uA (q_uA q_AM 33 f) 32 g) 33 (upd (upd (upd (upd (upd (upd (upd (upd f 0 0) 4 0) 1 0) 5 0) 2 0) 6 0) 3 0) 7 0)) I q_J0, 34, 31630))) 10 (fun _ _ => rfl) ?_
                      exact q_Ru_ret rfl rfl
                    show q_Ru _ _ _ (125, [(0, .ref 64), (1, .int (a - 3840))], [.int 0], (q_cM (q_uA (q_uA (q_uA q_AM 33 f) 32 g) 33 (upd (upd (upd (upd (upd (upd (upd (upd f 0 0) 4 0) 1 0) 5 0) 2 0) 6 0) 3 0) 7 0)) I q_J0, 34, 31630)) _
                    refine q_Ru_seg (g2 := (134, [(0, .ref 64), (1, .int (a - 3840))], [.int 0, .int 16, .int 0], (q_cM (q_uA (q_uA (q_uA q_AM 33 f) 32 g) 33 (upd (upd (upd (upd (upd (upd (upd (upd f 0 0) 4 0) 1 0) 5 0) 2 0) 6 0) 3 0) 7 0)) I q_J0, 34, 31630))) 5 (fun _ _ => rfl) ?_
                    refine q_Ru_seg (g2 := (136, [(0, .ref 64), (1, .int (a - 3840))], [.int 0], (q_cM (q_uA (q_uA (q_uA q_AM 33 f) 32 g) 33 (upd (upd (upd (upd (upd (upd (upd (upd f 0 0) 4 0) 1 0) 5 0) 2 0) 6 0) 3 0) 7 0)) I q_J0, 34, 31630))) 2 (fun _ _ => rfl) ?_
                    exact q_Ru_ret rfl rfl
                  show q_Ru _ _ _ (22, [(0, .ref 64), (1, .int a)], [.int 0], (q_cM (q_uA (q_uA (q_uA q_AM 33 f) 32 g) 33 (upd (upd (upd (upd (upd (upd (upd (upd f 0 0) 4 0) 1 0) 5 0) 2 0) 6 0) 3 0) 7 0)) I q_J0, 34, 31630)) _
                  exact q_Ru_ret rfl rfl
                | false =>
                  cases h153 : decide (a - 3840 = 44) with
                  | true =>
                    refine ⟨f, ?_⟩
                    refine q_Ca_of (Nat.le_of_ble_eq_true rfl) ?_
                    refine q_Ru_seg (g2 := (7, [(0, .ref 64), (1, .int a)], [.int 3887, .int 3840, .int a], (q_cM (q_uA (q_uA q_AM 33 f) 32 g) I q_J0, 34, 31630))) 3 (fun _ _ => rfl) ?_
                    refine q_Ru_call (v := (some (.int 1))) (h2 := (q_cM (q_uA (q_uA q_AM 33 f) 32 g) I q_J0, 34, 31630)) rfl rfl ?_ ?_
                    · refine q_Ca_of (Nat.le_of_ble_eq_true rfl) ?_
                      refine q_Ru_seg (g2 := (2, [(0, .int a), (1, .int 3840), (2, .int 3887)], [.int 3840, .int a], (q_cM (q_uA (q_uA q_AM 33 f) 32 g) I q_J0, 34, 31630))) 2 (fun _ _ => rfl) ?_
                      refine q_Ru_rsF (g2 := (5, [(0, .int a), (1, .int 3840), (2, .int 3887)], [], (q_cM (q_uA (q_uA q_AM 33 f) 32 g) I q_J0, 34, 31630))) rfl rfl h133 ?_
                      refine q_Ru_seg (g2 := (7, [(0, .int a), (1, .int 3840), (2, .int 3887)], [.int 3887, .int a], (q_cM (q_uA (q_uA q_AM 33 f) 32 g) I q_J0, 34, 31630))) 2 (fun _ _ => rfl) ?_
                      refine q_Ru_rsF (g2 := (10, [(0, .int a), (1, .int 3840), (2, .int 3887)], [], (q_cM (q_uA (q_uA q_AM 33 f) 32 g) I q_J0, 34, 31630))) rfl rfl h142 ?_
                      refine q_Ru_seg (g2 := (15, [(0, .int a), (1, .int 3840), (2, .int 3887)], [.int 1], (q_cM (q_uA (q_uA q_AM 33 f) 32 g) I q_J0, 34, 31630))) 2 (fun _ _ => rfl) ?_
                      exact q_Ru_ret rfl rfl
                    show q_Ru _ _ _ (10, [(0, .ref 64), (1, .int a)], [.int 1], (q_cM (q_uA (q_uA q_AM 33 f) 32 g) I q_J0, 34, 31630)) _
                    refine q_Ru_seg (g2 := (19, [(0, .ref 64), (1, .int a)], [.int (a - 3840), .ref 64], (q_cM (q_uA (q_uA q_AM 33 f) 32 g) I q_J0, 34, 31630))) 5 (fun _ _ => rfl) ?_
                    refine q_Ru_call (v := (some (.int 0))) (h2 := (q_cM (q_uA (q_uA q_AM 33 f) 32 g) I q_J0, 34, 31630)) rfl rfl ?_ ?_
                    · refine q_Ca_of (Nat.le_of_ble_eq_true rfl) ?_
                      refine q_Ru_seg (g2 := (3, [(0, .ref 64), (1, .int (a - 3840))], [.int 9, .int (a - 3840)], (q_cM (q_uA (q_uA q_AM 33 f) 32 g) I q_J0, 34, 31630))) 2 (fun _ _ => rfl) ?_
                      refine q_Ru_rsT (g2 := (11, [(0, .ref 64), (1, .int (a - 3840))], [], (q_cM (q_uA (q_uA q_AM 33 f) 32 g) I q_J0, 34, 31630))) rfl rfl (q_d_neF h147) ?_
                      refine q_Ru_seg (g2 := (14, [(0, .ref 64), (1, .int (a - 3840))], [.int 10, .int (a - 3840)], (q_cM (q_uA (q_uA q_AM 33 f) 32 g) I q_J0, 34, 31630))) 2 (fun _ _ => rfl) ?_
                      refine q_Ru_rsT (g2 := (25, [(0, .ref 64), (1, .int (a - 3840))], [], (q_cM (q_uA (q_uA q_AM 33 f) 32 g) I q_J0, 34, 31630))) rfl rfl (q_d_neF h148) ?_
                      refine q_Ru_seg (g2 := (30, [(0, .ref 64), (1, .int (a - 3840))], [.int 15, .int 12, .int (a - 3840)], (q_cM (q_uA (q_uA q_AM 33 f) 32 g) I q_J0, 34, 31630))) 3 (fun _ _ => rfl) ?_
                      refine q_Ru_call (v := (some (.int 0))) (h2 := (q_cM (q_uA (q_uA q_AM 33 f) 32 g) I q_J0, 34, 31630)) rfl rfl ?_ ?_
                      · refine q_Ca_of (Nat.le_of_ble_eq_true rfl) ?_
                        refine q_Ru_seg (g2 := (2, [(0, .int (a - 3840)), (1, .int 12), (2, .int 15)], [.int 12, .int (a - 3840)], (q_cM (q_uA (q_uA q_AM 33 f) 32 g) I q_J0, 34, 31630))) 2 (fun _ _ => rfl) ?_
                        refine q_Ru_rsT (g2 := (14, [(0, .int (a - 3840)), (1, .int 12), (2, .int 15)], [], (q_cM (q_uA (q_uA q_AM 33 f) 32 g) I q_J0, 34, 31630))) rfl rfl h149 ?_
                        refine q_Ru_seg (g2 := (15, [(0, .int (a - 3840)), (1, .int 12), (2, .int 15)], [.int 0], (q_cM (q_uA (q_uA q_AM 33 f) 32 g) I q_J0, 34, 31630))) 1 (fun _ _ => rfl) ?_
                        exact q_Ru_ret rfl rfl
                      show q_Ru _ _ _ (33, [(0, .ref 64), (1, .int (a - 3840))], [.int 0], (q_cM (q_uA (q_uA q_AM 33 f) 32 g) I q_J0, 34, 31630)) _
                      refine q_Ru_seg (g2 := (83, [(0, .ref 64), (1, .int (a - 3840))], [.int 29, .int (a - 3840)], (q_cM (q_uA (q_uA q_AM 33 f) 32 g) I q_J0, 34, 31630))) 3 (fun _ _ => rfl) ?_
                      refine q_Ru_rsT (g2 := (94, [(0, .ref 64), (1, .int (a - 3840))], [], (q_cM (q_uA (q_uA q_AM 33 f) 32 g) I q_J0, 34, 31630))) rfl rfl (q_d_neF h150) ?_
                      refine q_Ru_seg (g2 := (97, [(0, .ref 64), (1, .int (a - 3840))], [.int 30, .int (a - 3840)], (q_cM (q_uA (q_uA q_AM 33 f) 32 g) I q_J0, 34, 31630))) 2 (fun _ _ => rfl) ?_
                      refine q_Ru_rsT (g2 := (108, [(0, .ref 64), (1, .int (a - 3840))], [], (q_cM (q_uA (q_uA q_AM 33 f) 32 g) I q_J0, 34, 31630))) rfl rfl (q_d_neF h151) ?_
                      refine q_Ru_seg (g2 := (111, [(0, .ref 64), (1, .int (a - 3840))], [.int 31, .int (a - 3840)], (q_cM (q_uA (q_uA q_AM 33 f) 32 g) I q_J0, 34, 31630))) 2 (fun _ _ => rfl) ?_
                      refine q_Ru_rsT (g2 := (137, [(0, .ref 64), (1, .int (a - 3840))], [], (q_cM (q_uA (q_uA q_AM 33 f) 32 g) I q_J0, 34, 31630))) rfl rfl (q_d_neF h152) ?_
                      refine q_Ru_seg (g2 := (140, [(0, .ref 64), (1, .int (a - 3840))], [.int 44, .int (a - 3840)], (q_cM (q_uA (q_uA q_AM 33 f) 32 g) I q_J0, 34, 31630))) 2 (fun _ _ => rfl) ?_
                      refine q_Ru_rsF (g2 := (143, [(0, .ref 64), (1, .int (a - 3840))], [], (q_cM (q_uA (q_uA q_AM 33 f) 32 g) I q_J0, 34, 31630))) rfl rfl (q_d_neT h153) ?_
                      refine q_Ru_seg (g2 := (150, [(0, .ref 64), (1, .int (a - 3840))], [.int 0], (q_cM (q_uA (q_uA q_AM 33 f) 32 g) I q_J0, 34, 31630))) 4 (fun _ _ => rfl) ?_
                      refine q_Ru_seg (g2 := (158, [(0, .ref 64), (1, .int (a - 3840))], [.int 0, .int 2, .int 0], (q_cM (q_uA (q_uA q_AM 33 f) 32 g) I q_J0, 34, 31630))) 5 (fun _ _ => rfl) ?_
                      refine q_Ru_seg (g2 := (161, [(0, .ref 64), (1, .int (a - 3840))], [.ref 64, .int 0], (q_cM (q_uA (q_uA q_AM 33 f) 32 g) I q_J0, 34, 31630))) 3 (fun _ _ => rfl) ?_
                      refine q_Ru_call (v := (some (.int 0))) (h2 := (q_cM (q_uA (q_uA q_AM 33 f) 32 g) I q_J0, 34, 31630)) rfl rfl ?_ ?_
                      · refine q_Ca_of (Nat.le_of_ble_eq_true rfl) ?_
                        refine q_Ru_seg (g2 := (7, [(0, .ref 64)], [.int 0], (q_cM (q_uA (q_uA q_AM 33 f) 32 g) I q_J0, 34, 31630))) 4 (fun _ _ => rfl) ?_
                        refine q_Ru_seg (g2 := (14, [(0, .ref 64)], [.int 0, .int 0], (q_cM (q_uA (q_uA q_AM 33 f) 32 g) I q_J0, 34, 31630))) 4 (fun _ _ => rfl) ?_
                        refine q_Ru_seg (g2 := (22, [(0, .ref 64)], [.int 0], (q_cM (q_uA (q_uA q_AM 33 f) 32 g) I q_J0, 34, 31630))) 2 (fun _ _ => rfl) ?_
                        exact q_Ru_ret rfl rfl
                      show q_Ru _ _ _ (164, [(0, .ref 64), (1, .int (a - 3840))], [.int 0, .int 0], (q_cM (q_uA (q_uA q_AM 33 f) 32 g) I q_J0, 34, 31630)) _
                      refine q_Ru_seg (g2 := (173, [(0, .ref 64), (1, .int (a - 3840))], [.int 0], (q_cM (q_uA (q_uA q_AM 33 f) 32 g) I q_J0, 34, 31630))) 3 (fun _ _ => rfl) ?_
                      exact q_Ru_ret rfl rfl
                    show q_Ru _ _ _ (22, [(0, .ref 64), (1, .int a)], [.int 0], (q_cM (q_uA (q_uA q_AM 33 f) 32 g) I q_J0, 34, 31630)) _
                    exact q_Ru_ret rfl rfl
                  | false =>
                    cases h154 : decide (44 < a - 3840) with
                    | true =>
                      exact q_no (q_sub_lo 3885 (q_lo2 h154) (q_lo1 h133) (q_sub_hi 3851 (q_hi1 h149) (q_lo1 h133) (q_hi2 h142))) (q_sub_hi 3851 (q_hi1 h149) (q_lo1 h133) (q_hi2 h142)) (by decide)
                    | false =>
                      refine ⟨f, ?_⟩
                      refine q_Ca_of (Nat.le_of_ble_eq_true rfl) ?_
                      refine q_Ru_seg (g2 := (7, [(0, .ref 64), (1, .int a)], [.int 3887, .int 3840, .int a], (q_cM (q_uA (q_uA q_AM 33 f) 32 g) I q_J0, 34, 31630))) 3 (fun _ _ => rfl) ?_
                      refine q_Ru_call (v := (some (.int 1))) (h2 := (q_cM (q_uA (q_uA q_AM 33 f) 32 g) I q_J0, 34, 31630)) rfl rfl ?_ ?_
                      · refine q_Ca_of (Nat.le_of_ble_eq_true rfl) ?_
                        refine q_Ru_seg (g2 := (2, [(0, .int a), (1, .int 3840), (2, .int 3887)], [.int 3840, .int a], (q_cM (q_uA (q_uA q_AM 33 f) 32 g) I q_J0, 34, 31630))) 2 (fun _ _ => rfl) ?_
                        refine q_Ru_rsF (g2 := (5, [(0, .int a), (1, .int 3840), (2, .int 3887)], [], (q_cM (q_uA (q_uA q_AM 33 f) 32 g) I q_J0, 34, 31630))) rfl rfl h133 ?_
                        refine q_Ru_seg (g2 := (7, [(0, .int a), (1, .int 3840), (2, .int 3887)], [.int 3887, .int a], (q_cM (q_uA (q_uA q_AM 33 f) 32 g) I q_J0, 34, 31630))) 2 (fun _ _ => rfl) ?_
                        refine q_Ru_rsF (g2 := (10, [(0, .int a), (1, .int 3840), (2, .int 3887)], [], (q_cM (q_uA (q_uA q_AM 33 f) 32 g) I q_J0, 34, 31630))) rfl rfl h142 ?_
                        refine q_Ru_seg (g2 := (15, [(0, .int a), (1, .int 3840), (2, .int 3887)], [.int 1], (q_cM (q_uA (q_uA q_AM 33 f) 32 g) I q_J0, 34, 31630))) 2 (fun _ _ => rfl) ?_
                        exact q_Ru_ret rfl rfl
                      show q_Ru _ _ _ (10, [(0, .ref 64), (1, .int a)], [.int 1], (q_cM (q_uA (q_uA q_AM 33 f) 32 g) I q_J0, 34, 31630)) _
                      refine q_Ru_seg (g2 := (19, [(0, .ref 64), (1, .int a)], [.int (a - 3840), .ref 64], (q_cM (q_uA (q_uA q_AM 33 f) 32 g) I q_J0, 34, 31630))) 5 (fun _ _ => rfl) ?_
                      refine q_Ru_call (v := (some (.int 0))) (h2 := (q_cM (q_uA (q_uA q_AM 33 f) 32 g) I q_J0, 34, 31630)) rfl rfl ?_ ?_
                      · refine q_Ca_of (Nat.le_of_ble_eq_true rfl) ?_
                        refine q_Ru_seg (g2 := (3, [(0, .ref 64), (1, .int (a - 3840))], [.int 9, .int (a - 3840)], (q_cM (q_uA (q_uA q_AM 33 f) 32 g) I q_J0, 34, 31630))) 2 (fun _ _ => rfl) ?_
                        refine q_Ru_rsT (g2 := (11, [(0, .ref 64), (1, .int (a - 3840))], [], (q_cM (q_uA (q_uA q_AM 33 f) 32 g) I q_J0, 34, 31630))) rfl rfl (q_d_neF h147) ?_
                        refine q_Ru_seg (g2 := (14, [(0, .ref 64), (1, .int (a - 3840))], [.int 10, .int (a - 3840)], (q_cM (q_uA (q_uA q_AM 33 f) 32 g) I q_J0, 34, 31630))) 2 (fun _ _ => rfl) ?_
                        refine q_Ru_rsT (g2 := (25, [(0, .ref 64), (1, .int (a - 3840))], [], (q_cM (q_uA (q_uA q_AM 33 f) 32 g) I q_J0, 34, 31630))) rfl rfl (q_d_neF h148) ?_
                        refine q_Ru_seg (g2 := (30, [(0, .ref 64), (1, .int (a - 3840))], [.int 15, .int 12, .int (a - 3840)], (q_cM (q_uA (q_uA q_AM 33 f) 32 g) I q_J0, 34, 31630))) 3 (fun _ _ => rfl) ?_
                        refine q_Ru_call (v := (some (.int 0))) (h2 := (q_cM (q_uA (q_uA q_AM 33 f) 32 g) I q_J0, 34, 31630)) rfl rfl ?_ ?_
                        · refine q_Ca_of (Nat.le_of_ble_eq_true rfl) ?_
                          refine q_Ru_seg (g2 := (2, [(0, .int (a - 3840)), (1, .int 12), (2, .int 15)], [.int 12, .int (a - 3840)], (q_cM (q_uA (q_uA q_AM 33 f) 32 g) I q_J0, 34, 31630))) 2 (fun _ _ => rfl) ?_
                          refine q_Ru_rsT (g2 := (14, [(0, .int (a - 3840)), (1, .int 12), (2, .int 15)], [], (q_cM (q_uA (q_uA q_AM 33 f) 32 g) I q_J0, 34, 31630))) rfl rfl h149 ?_
                          refine q_Ru_seg (g2 := (15, [(0, .int (a - 3840)), (1, .int 12), (2, .int 15)], [.int 0], (q_cM (q_uA (q_uA q_AM 33 f) 32 g) I q_J0, 34, 31630))) 1 (fun _ _ => rfl) ?_
                          exact q_Ru_ret rfl rfl
                        show q_Ru _ _ _ (33, [(0, .ref 64), (1, .int (a - 3840))], [.int 0], (q_cM (q_uA (q_uA q_AM 33 f) 32 g) I q_J0, 34, 31630)) _
                        refine q_Ru_seg (g2 := (83, [(0, .ref 64), (1, .int (a - 3840))], [.int 29, .int (a - 3840)], (q_cM (q_uA (q_uA q_AM 33 f) 32 g) I q_J0, 34, 31630))) 3 (fun _ _ => rfl) ?_
                        refine q_Ru_rsT (g2 := (94, [(0, .ref 64), (1, .int (a - 3840))], [], (q_cM (q_uA (q_uA q_AM 33 f) 32 g) I q_J0, 34, 31630))) rfl rfl (q_d_neF h150) ?_
                        refine q_Ru_seg (g2 := (97, [(0, .ref 64), (1, .int (a - 3840))], [.int 30, .int (a - 3840)], (q_cM (q_uA (q_uA q_AM 33 f) 32 g) I q_J0, 34, 31630))) 2 (fun _ _ => rfl) ?_
                        refine q_Ru_rsT (g2 := (108, [(0, .ref 64), (1, .int (a - 3840))], [], (q_cM (q_uA (q_uA q_AM 33 f) 32 g) I q_J0, 34, 31630))) rfl rfl (q_d_neF h151) ?_
                        refine q_Ru_seg (g2 := (111, [(0, .ref 64), (1, .int (a - 3840))], [.int 31, .int (a - 3840)], (q_cM (q_uA (q_uA q_AM 33 f) 32 g) I q_J0, 34, 31630))) 2 (fun _ _ => rfl) ?_
                        refine q_Ru_rsT (g2 := (137, [(0, .ref 64), (1, .int (a - 3840))], [], (q_cM (q_uA (q_uA q_AM 33 f) 32 g) I q_J0, 34, 31630))) rfl rfl (q_d_neF h152) ?_
                        refine q_Ru_seg (g2 := (140, [(0, .ref 64), (1, .int (a - 3840))], [.int 44, .int (a - 3840)], (q_cM (q_uA (q_uA q_AM 33 f) 32 g) I q_J0, 34, 31630))) 2 (fun _ _ => rfl) ?_
                        refine q_Ru_rsT (g2 := (174, [(0, .ref 64), (1, .int (a - 3840))], [], (q_cM (q_uA (q_uA q_AM 33 f) 32 g) I q_J0, 34, 31630))) rfl rfl (q_d_neF h153) ?_
                        refine q_Ru_seg (g2 := (177, [(0, .ref 64), (1, .int (a - 3840))], [.int 44, .int (a - 3840)], (q_cM (q_uA (q_uA q_AM 33 f) 32 g) I q_J0, 34, 31630))) 2 (fun _ _ => rfl) ?_
                        refine q_Ru_rsT (g2 := (184, [(0, .ref 64), (1, .int (a - 3840))], [], (q_cM (q_uA (q_uA q_AM 33 f) 32 g) I q_J0, 34, 31630))) rfl rfl (q_d_geF h154) ?_
                        refine q_Ru_seg (g2 := (189, [(0, .ref 64), (1, .int (a - 3840))], [.int (a - 3840), .ref 68], (q_cM (q_uA (q_uA q_AM 33 f) 32 g) I q_J0, 34, 31630))) 3 (fun _ _ => rfl) ?_
                        refine q_Ru_rsT (g2 := (190, [(0, .ref 64), (1, .int (a - 3840))], [.int 0], (q_cM (q_uA (q_uA q_AM 33 f) 32 g) I q_J0, 34, 31630))) rfl rfl (q_in_bd (x := a - 3840) (n := 48) (U := 11) (L := 0) (q_sub_lo9 0 (q_lo1 h133) (q_sub_hi 3851 (q_hi1 h149) (q_lo1 h133) (q_hi2 h142))) (q_sub_hi9 11 (q_lo1 h133) (q_sub_hi 3851 (q_hi1 h149) (q_lo1 h133) (q_hi2 h142)))) ?_
                        exact q_Ru_ret rfl rfl
                      show q_Ru _ _ _ (22, [(0, .ref 64), (1, .int a)], [.int 0], (q_cM (q_uA (q_uA q_AM 33 f) 32 g) I q_J0, 34, 31630)) _
                      exact q_Ru_ret rfl rfl
          | false =>
            cases h155 : decide (15 < a - 3840) with
            | true =>
              cases h156 : decide (a - 3840 = 29) with
              | true =>
                refine ⟨f, ?_⟩
                refine q_Ca_of (Nat.le_of_ble_eq_true rfl) ?_
                refine q_Ru_seg (g2 := (7, [(0, .ref 64), (1, .int a)], [.int 3887, .int 3840, .int a], (q_cM (q_uA (q_uA q_AM 33 f) 32 g) I q_J0, 34, 31630))) 3 (fun _ _ => rfl) ?_
                refine q_Ru_call (v := (some (.int 1))) (h2 := (q_cM (q_uA (q_uA q_AM 33 f) 32 g) I q_J0, 34, 31630)) rfl rfl ?_ ?_
                · refine q_Ca_of (Nat.le_of_ble_eq_true rfl) ?_
                  refine q_Ru_seg (g2 := (2, [(0, .int a), (1, .int 3840), (2, .int 3887)], [.int 3840, .int a], (q_cM (q_uA (q_uA q_AM 33 f) 32 g) I q_J0, 34, 31630))) 2 (fun _ _ => rfl) ?_
                  refine q_Ru_rsF (g2 := (5, [(0, .int a), (1, .int 3840), (2, .int 3887)], [], (q_cM (q_uA (q_uA q_AM 33 f) 32 g) I q_J0, 34, 31630))) rfl rfl h133 ?_
                  refine q_Ru_seg (g2 := (7, [(0, .int a), (1, .int 3840), (2, .int 3887)], [.int 3887, .int a], (q_cM (q_uA (q_uA q_AM 33 f) 32 g) I q_J0, 34, 31630))) 2 (fun _ _ => rfl) ?_
                  refine q_Ru_rsF (g2 := (10, [(0, .int a), (1, .int 3840), (2, .int 3887)], [], (q_cM (q_uA (q_uA q_AM 33 f) 32 g) I q_J0, 34, 31630))) rfl rfl h142 ?_
                  refine q_Ru_seg (g2 := (15, [(0, .int a), (1, .int 3840), (2, .int 3887)], [.int 1], (q_cM (q_uA (q_uA q_AM 33 f) 32 g) I q_J0, 34, 31630))) 2 (fun _ _ => rfl) ?_
                  exact q_Ru_ret rfl rfl
                show q_Ru _ _ _ (10, [(0, .ref 64), (1, .int a)], [.int 1], (q_cM (q_uA (q_uA q_AM 33 f) 32 g) I q_J0, 34, 31630)) _
                refine q_Ru_seg (g2 := (19, [(0, .ref 64), (1, .int a)], [.int (a - 3840), .ref 64], (q_cM (q_uA (q_uA q_AM 33 f) 32 g) I q_J0, 34, 31630))) 5 (fun _ _ => rfl) ?_
                refine q_Ru_call (v := (some (.int 0))) (h2 := (q_cM (q_uA (q_uA q_AM 33 f) 32 g) I q_J0, 34, 31630)) rfl rfl ?_ ?_
                · refine q_Ca_of (Nat.le_of_ble_eq_true rfl) ?_
                  refine q_Ru_seg (g2 := (3, [(0, .ref 64), (1, .int (a - 3840))], [.int 9, .int (a - 3840)], (q_cM (q_uA (q_uA q_AM 33 f) 32 g) I q_J0, 34, 31630))) 2 (fun _ _ => rfl) ?_
                  refine q_Ru_rsT (g2 := (11, [(0, .ref 64), (1, .int (a - 3840))], [], (q_cM (q_uA (q_uA q_AM 33 f) 32 g) I q_J0, 34, 31630))) rfl rfl (q_d_neF h147) ?_
                  refine q_Ru_seg (g2 := (14, [(0, .ref 64), (1, .int (a - 3840))], [.int 10, .int (a - 3840)], (q_cM (q_uA (q_uA q_AM 33 f) 32 g) I q_J0, 34, 31630))) 2 (fun _ _ => rfl) ?_
                  refine q_Ru_rsT (g2 := (25, [(0, .ref 64), (1, .int (a - 3840))], [], (q_cM (q_uA (q_uA q_AM 33 f) 32 g) I q_J0, 34, 31630))) rfl rfl (q_d_neF h148) ?_
                  refine q_Ru_seg (g2 := (30, [(0, .ref 64), (1, .int (a - 3840))], [.int 15, .int 12, .int (a - 3840)], (q_cM (q_uA (q_uA q_AM 33 f) 32 g) I q_J0, 34, 31630))) 3 (fun _ _ => rfl) ?_
                  refine q_Ru_call (v := (some (.int 0))) (h2 := (q_cM (q_uA (q_uA q_AM 33 f) 32 g) I q_J0, 34, 31630)) rfl rfl ?_ ?_
                  · refine q_Ca_of (Nat.le_of_ble_eq_true rfl) ?_
                    refine q_Ru_seg (g2 := (2, [(0, .int (a - 3840)), (1, .int 12), (2, .int 15)], [.int 12, .int (a - 3840)], (q_cM (q_uA (q_uA q_AM 33 f) 32 g) I q_J0, 34, 31630))) 2 (fun _ _ => rfl) ?_
                    refine q_Ru_rsF (g2 := (5, [(0, .int (a - 3840)), (1, .int 12), (2, .int 15)], [], (q_cM (q_uA (q_uA q_AM 33 f) 32 g) I q_J0, 34, 31630))) rfl rfl h149 ?_
                    refine q_Ru_seg (g2 := (7, [(0, .int (a - 3840)), (1, .int 12), (2, .int 15)], [.int 15, .int (a - 3840)], (q_cM (q_uA (q_uA q_AM 33 f) 32 g) I q_J0, 34, 31630))) 2 (fun _ _ => rfl) ?_
                    refine q_Ru_rsT (g2 := (14, [(0, .int (a - 3840)), (1, .int 12), (2, .int 15)], [], (q_cM (q_uA (q_uA q_AM 33 f) 32 g) I q_J0, 34, 31630))) rfl rfl h155 ?_
                    refine q_Ru_seg (g2 := (15, [(0, .int (a - 3840)), (1, .int 12), (2, .int 15)], [.int 0], (q_cM (q_uA (q_uA q_AM 33 f) 32 g) I q_J0, 34, 31630))) 1 (fun _ _ => rfl) ?_
                    exact q_Ru_ret rfl rfl
                  show q_Ru _ _ _ (33, [(0, .ref 64), (1, .int (a - 3840))], [.int 0], (q_cM (q_uA (q_uA q_AM 33 f) 32 g) I q_J0, 34, 31630)) _
                  refine q_Ru_seg (g2 := (83, [(0, .ref 64), (1, .int (a - 3840))], [.int 29, .int (a - 3840)], (q_cM (q_uA (q_uA q_AM 33 f) 32 g) I q_J0, 34, 31630))) 3 (fun _ _ => rfl) ?_
                  refine q_Ru_rsF (g2 := (86, [(0, .ref 64), (1, .int (a - 3840))], [], (q_cM (q_uA (q_uA q_AM 33 f) 32 g) I q_J0, 34, 31630))) rfl rfl (q_d_neT h156) ?_
                  refine q_Ru_seg (g2 := (93, [(0, .ref 64), (1, .int (a - 3840))], [.int 0], (q_cM (q_uA (q_uA q_AM 33 f) 32 g) I q_J0, 34, 31630))) 4 (fun _ _ => rfl) ?_
                  exact q_Ru_ret rfl rfl
                show q_Ru _ _ _ (22, [(0, .ref 64), (1, .int a)], [.int 0], (q_cM (q_uA (q_uA q_AM 33 f) 32 g) I q_J0, 34, 31630)) _
                exact q_Ru_ret rfl rfl
              | false =>
                cases h157 : decide (a - 3840 = 30) with
                | true =>
                  refine ⟨f, ?_⟩
                  refine q_Ca_of (Nat.le_of_ble_eq_true rfl) ?_
                  refine q_Ru_seg (g2 := (7, [(0, .ref 64), (1, .int a)], [.int 3887, .int 3840, .int a], (q_cM (q_uA (q_uA q_AM 33 f) 32 g) I q_J0, 34, 31630))) 3 (fun _ _ => rfl) ?_
                  refine q_Ru_call (v := (some (.int 1))) (h2 := (q_cM (q_uA (q_uA q_AM 33 f) 32 g) I q_J0, 34, 31630)) rfl rfl ?_ ?_
                  · refine q_Ca_of (Nat.le_of_ble_eq_true rfl) ?_
                    refine q_Ru_seg (g2 := (2, [(0, .int a), (1, .int 3840), (2, .int 3887)], [.int 3840, .int a], (q_cM (q_uA (q_uA q_AM 33 f) 32 g) I q_J0, 34, 31630))) 2 (fun _ _ => rfl) ?_
                    refine q_Ru_rsF (g2 := (5, [(0, .int a), (1, .int 3840), (2, .int 3887)], [], (q_cM (q_uA (q_uA q_AM 33 f) 32 g) I q_J0, 34, 31630))) rfl rfl h133 ?_
                    refine q_Ru_seg (g2 := (7, [(0, .int a), (1, .int 3840), (2, .int 3887)], [.int 3887, .int a], (q_cM (q_uA (q_uA q_AM 33 f) 32 g) I q_J0, 34, 31630))) 2 (fun _ _ => rfl) ?_
                    refine q_Ru_rsF (g2 := (10, [(0, .int a), (1, .int 3840), (2, .int 3887)], [], (q_cM (q_uA (q_uA q_AM 33 f) 32 g) I q_J0, 34, 31630))) rfl rfl h142 ?_
                    refine q_Ru_seg (g2 := (15, [(0, .int a), (1, .int 3840), (2, .int 3887)], [.int 1], (q_cM (q_uA (q_uA q_AM 33 f) 32 g) I q_J0, 34, 31630))) 2 (fun _ _ => rfl) ?_
                    exact q_Ru_ret rfl rfl
                  show q_Ru _ _ _ (10, [(0, .ref 64), (1, .int a)], [.int 1], (q_cM (q_uA (q_uA q_AM 33 f) 32 g) I q_J0, 34, 31630)) _
                  refine q_Ru_seg (g2 := (19, [(0, .ref 64), (1, .int a)], [.int (a - 3840), .ref 64], (q_cM (q_uA (q_uA q_AM 33 f) 32 g) I q_J0, 34, 31630))) 5 (fun _ _ => rfl) ?_
                  refine q_Ru_call (v := (some (.int 0))) (h2 := (q_cM (q_uA (q_uA q_AM 33 f) 32 g) I q_J0, 34, 31630)) rfl rfl ?_ ?_
                  · refine q_Ca_of (Nat.le_of_ble_eq_true rfl) ?_
                    refine q_Ru_seg (g2 := (3, [(0, .ref 64), (1, .int (a - 3840))], [.int 9, .int (a - 3840)], (q_cM (q_uA (q_uA q_AM 33 f) 32 g) I q_J0, 34, 31630))) 2 (fun _ _ => rfl) ?_
                    refine q_Ru_rsT (g2 := (11, [(0, .ref 64), (1, .int (a - 3840))], [], (q_cM (q_uA (q_uA q_AM 33 f) 32 g) I q_J0, 34, 31630))) rfl rfl (q_d_neF h147) ?_
                    refine q_Ru_seg (g2 := (14, [(0, .ref 64), (1, .int (a - 3840))], [.int 10, .int (a - 3840)], (q_cM (q_uA (q_uA q_AM 33 f) 32 g) I q_J0, 34, 31630))) 2 (fun _ _ => rfl) ?_
                    refine q_Ru_rsT (g2 := (25, [(0, .ref 64), (1, .int (a - 3840))], [], (q_cM (q_uA (q_uA q_AM 33 f) 32 g) I q_J0, 34, 31630))) rfl rfl (q_d_neF h148) ?_
                    refine q_Ru_seg (g2 := (30, [(0, .ref 64), (1, .int (a - 3840))], [.int 15, .int 12, .int (a - 3840)], (q_cM (q_uA (q_uA q_AM 33 f) 32 g) I q_J0, 34, 31630))) 3 (fun _ _ => rfl) ?_
                    refine q_Ru_call (v := (some (.int 0))) (h2 := (q_cM (q_uA (q_uA q_AM 33 f) 32 g) I q_J0, 34, 31630)) rfl rfl ?_ ?_
                    · refine q_Ca_of (Nat.le_of_ble_eq_true rfl) ?_
                      refine q_Ru_seg (g2 := (2, [(0, .int (a - 3840)), (1, .int 12), (2, .int 15)], [.int 12, .int (a - 3840)], (q_cM (q_uA (q_uA q_AM 33 f) 32 g) I q_J0, 34, 31630))) 2 (fun _ _ => rfl) ?_
                      refine q_Ru_rsF (g2 := (5, [(0, .int (a - 3840)), (1, .int 12), (2, .int 15)], [], (q_cM (q_uA (q_uA q_AM 33 f) 32 g) I q_J0, 34, 31630))) rfl rfl h149 ?_
                      refine q_Ru_seg (g2 := (7, [(0, .int (a - 3840)), (1, .int 12), (2, .int 15)], [.int 15, .int (a - 3840)], (q_cM (q_uA (q_uA q_AM 33 f) 32 g) I q_J0, 34, 31630))) 2 (fun _ _ => rfl) ?_
                      refine q_Ru_rsT (g2 := (14, [(0, .int (a - 3840)), (1, .int 12), (2, .int 15)], [], (q_cM (q_uA (q_uA q_AM 33 f) 32 g) I q_J0, 34, 31630))) rfl rfl h155 ?_
                      refine q_Ru_seg (g2 := (15, [(0, .int (a - 3840)), (1, .int 12), (2, .int 15)], [.int 0], (q_cM (q_uA (q_uA q_AM 33 f) 32 g) I q_J0, 34, 31630))) 1 (fun _ _ => rfl) ?_
                      exact q_Ru_ret rfl rfl
                    show q_Ru _ _ _ (33, [(0, .ref 64), (1, .int (a - 3840))], [.int 0], (q_cM (q_uA (q_uA q_AM 33 f) 32 g) I q_J0, 34, 31630)) _
                    refine q_Ru_seg (g2 := (83, [(0, .ref 64), (1, .int (a - 3840))], [.int 29, .int (a - 3840)], (q_cM (q_uA (q_uA q_AM 33 f) 32 g) I q_J0, 34, 31630))) 3 (fun _ _ => rfl) ?_
                    refine q_Ru_rsT (g2 := (94, [(0, .ref 64), (1, .int (a - 3840))], [], (q_cM (q_uA (q_uA q_AM 33 f) 32 g) I q_J0, 34, 31630))) rfl rfl (q_d_neF h156) ?_
                    refine q_Ru_seg (g2 := (97, [(0, .ref 64), (1, .int (a - 3840))], [.int 30, .int (a - 3840)], (q_cM (q_uA (q_uA q_AM 33 f) 32 g) I q_J0, 34, 31630))) 2 (fun _ _ => rfl) ?_
                    refine q_Ru_rsF (g2 := (100, [(0, .ref 64), (1, .int (a - 3840))], [], (q_cM (q_uA (q_uA q_AM 33 f) 32 g) I q_J0, 34, 31630))) rfl rfl (q_d_neT h157) ?_
                    refine q_Ru_seg (g2 := (107, [(0, .ref 64), (1, .int (a - 3840))], [.int 0], (q_cM (q_uA (q_uA q_AM 33 f) 32 g) I q_J0, 34, 31630))) 4 (fun _ _ => rfl) ?_
                    exact q_Ru_ret rfl rfl
                  show q_Ru _ _ _ (22, [(0, .ref 64), (1, .int a)], [.int 0], (q_cM (q_uA (q_uA q_AM 33 f) 32 g) I q_J0, 34, 31630)) _
                  exact q_Ru_ret rfl rfl
                | false =>
                  cases h158 : decide (a - 3840 = 31) with
                  | true =>
                    refine ⟨(upd (upd (upd (upd (upd (upd (upd (upd f 0 0) 4 0) 1 0) 5 0) 2 0) 6 0) 3 0) 7 0), ?_⟩
                    refine q_Ca_of (Nat.le_of_ble_eq_true rfl) ?_
                    refine q_Ru_seg (g2 := (7, [(0, .ref 64), (1, .int a)], [.int 3887, .int 3840, .int a], (q_cM (q_uA (q_uA q_AM 33 f) 32 g) I q_J0, 34, 31630))) 3 (fun _ _ => rfl) ?_
                    refine q_Ru_call (v := (some (.int 1))) (h2 := (q_cM (q_uA (q_uA q_AM 33 f) 32 g) I q_J0, 34, 31630)) rfl rfl ?_ ?_
                    · refine q_Ca_of (Nat.le_of_ble_eq_true rfl) ?_
                      refine q_Ru_seg (g2 := (2, [(0, .int a), (1, .int 3840), (2, .int 3887)], [.int 3840, .int a], (q_cM (q_uA (q_uA q_AM 33 f) 32 g) I q_J0, 34, 31630))) 2 (fun _ _ => rfl) ?_
                      refine q_Ru_rsF (g2 := (5, [(0, .int a), (1, .int 3840), (2, .int 3887)], [], (q_cM (q_uA (q_uA q_AM 33 f) 32 g) I q_J0, 34, 31630))) rfl rfl h133 ?_
                      refine q_Ru_seg (g2 := (7, [(0, .int a), (1, .int 3840), (2, .int 3887)], [.int 3887, .int a], (q_cM (q_uA (q_uA q_AM 33 f) 32 g) I q_J0, 34, 31630))) 2 (fun _ _ => rfl) ?_
                      refine q_Ru_rsF (g2 := (10, [(0, .int a), (1, .int 3840), (2, .int 3887)], [], (q_cM (q_uA (q_uA q_AM 33 f) 32 g) I q_J0, 34, 31630))) rfl rfl h142 ?_
                      refine q_Ru_seg (g2 := (15, [(0, .int a), (1, .int 3840), (2, .int 3887)], [.int 1], (q_cM (q_uA (q_uA q_AM 33 f) 32 g) I q_J0, 34, 31630))) 2 (fun _ _ => rfl) ?_
                      exact q_Ru_ret rfl rfl
                    show q_Ru _ _ _ (10, [(0, .ref 64), (1, .int a)], [.int 1], (q_cM (q_uA (q_uA q_AM 33 f) 32 g) I q_J0, 34, 31630)) _
                    refine q_Ru_seg (g2 := (19, [(0, .ref 64), (1, .int a)], [.int (a - 3840), .ref 64], (q_cM (q_uA (q_uA q_AM 33 f) 32 g) I q_J0, 34, 31630))) 5 (fun _ _ => rfl) ?_
                    refine q_Ru_call (v := (some (.int 0))) (h2 := (q_cM (q_uA (q_uA (q_uA q_AM 33 f) 32 g) 33 (upd (upd (upd (upd (upd (upd (upd (upd f 0 0) 4 0) 1 0) 5 0) 2 0) 6 0) 3 0) 7 0)) I q_J0, 34, 31630)) rfl rfl ?_ ?_
                    · refine q_Ca_of (Nat.le_of_ble_eq_true rfl) ?_
                      refine q_Ru_seg (g2 := (3, [(0, .ref 64), (1, .int (a - 3840))], [.int 9, .int (a - 3840)], (q_cM (q_uA (q_uA q_AM 33 f) 32 g) I q_J0, 34, 31630))) 2 (fun _ _ => rfl) ?_
                      refine q_Ru_rsT (g2 := (11, [(0, .ref 64), (1, .int (a - 3840))], [], (q_cM (q_uA (q_uA q_AM 33 f) 32 g) I q_J0, 34, 31630))) rfl rfl (q_d_neF h147) ?_
                      refine q_Ru_seg (g2 := (14, [(0, .ref 64), (1, .int (a - 3840))], [.int 10, .int (a - 3840)], (q_cM (q_uA (q_uA q_AM 33 f) 32 g) I q_J0, 34, 31630))) 2 (fun _ _ => rfl) ?_
                      refine q_Ru_rsT (g2 := (25, [(0, .ref 64), (1, .int (a - 3840))], [], (q_cM (q_uA (q_uA q_AM 33 f) 32 g) I q_J0, 34, 31630))) rfl rfl (q_d_neF h148) ?_
                      refine q_Ru_seg (g2 := (30, [(0, .ref 64), (1, .int (a - 3840))], [.int 15, .int 12, .int (a - 3840)], (q_cM (q_uA (q_uA q_AM 33 f) 32 g) I q_J0, 34, 31630))) 3 (fun _ _ => rfl) ?_
                      refine q_Ru_call (v := (some (.int 0))) (h2 := (q_cM (q_uA (q_uA q_AM 33 f) 32 g) I q_J0, 34, 31630)) rfl rfl ?_ ?_
                      · refine q_Ca_of (Nat.le_of_ble_eq_true rfl) ?_
                        refine q_Ru_seg (g2 := (2, [(0, .int (a - 3840)), (1, .int 12), (2, .int 15)], [.int 12, .int (a - 3840)], (q_cM (q_uA (q_uA q_AM 33 f) 32 g) I q_J0, 34, 31630))) 2 (fun _ _ => rfl) ?_
                        refine q_Ru_rsF (g2 := (5, [(0, .int (a - 3840)), (1, .int 12), (2, .int 15)], [], (q_cM (q_uA (q_uA q_AM 33 f) 32 g) I q_J0, 34, 31630))) rfl rfl h149 ?_
                        refine q_Ru_seg (g2 := (7, [(0, .int (a - 3840)), (1, .int 12), (2, .int 15)], [.int 15, .int (a - 3840)], (q_cM (q_uA (q_uA q_AM 33 f) 32 g) I q_J0, 34, 31630))) 2 (fun _ _ => rfl) ?_
                        refine q_Ru_rsT (g2 := (14, [(0, .int (a - 3840)), (1, .int 12), (2, .int 15)], [], (q_cM (q_uA (q_uA q_AM 33 f) 32 g) I q_J0, 34, 31630))) rfl rfl h155 ?_
                        refine q_Ru_seg (g2 := (15, [(0, .int (a - 3840)), (1, .int 12), (2, .int 15)], [.int 0], (q_cM (q_uA (q_uA q_AM 33 f) 32 g) I q_J0, 34, 31630))) 1 (fun _ _ => rfl) ?_
                        exact q_Ru_ret rfl rfl
                      show q_Ru _ _ _ (33, [(0, .ref 64), (1, .int (a - 3840))], [.int 0], (q_cM (q_uA (q_uA q_AM 33 f) 32 g) I q_J0, 34, 31630)) _
                      refine q_Ru_seg (g2 := (83, [(0, .ref 64), (1, .int (a - 3840))], [.int 29, .int (a - 3840)], (q_cM (q_uA (q_uA q_AM 33 f) 32 g) I q_J0, 34, 31630))) 3 (fun _ _ => rfl) ?_
                      refine q_Ru_rsT (g2 := (94, [(0, .ref 64), (1, .int (a - 3840))], [], (q_cM (q_uA (q_uA q_AM 33 f) 32 g) I q_J0, 34, 31630))) rfl rfl (q_d_neF h156) ?_
                      refine q_Ru_seg (g2 := (97, [(0, .ref 64), (1, .int (a - 3840))], [.int 30, .int (a - 3840)], (q_cM (q_uA (q_uA q_AM 33 f) 32 g) I q_J0, 34, 31630))) 2 (fun _ _ => rfl) ?_
                      refine q_Ru_rsT (g2 := (108, [(0, .ref 64), (1, .int (a - 3840))], [], (q_cM (q_uA (q_uA q_AM 33 f) 32 g) I q_J0, 34, 31630))) rfl rfl (q_d_neF h157) ?_
                      refine q_Ru_seg (g2 := (111, [(0, .ref 64), (1, .int (a - 3840))], [.int 31, .int (a - 3840)], (q_cM (q_uA (q_uA q_AM 33 f) 32 g) I q_J0, 34, 31630))) 2 (fun _ _ => rfl) ?_
                      refine q_Ru_rsF (g2 := (114, [(0, .ref 64), (1, .int (a - 3840))], [], (q_cM (q_uA (q_uA q_AM 33 f) 32 g) I q_J0, 34, 31630))) rfl rfl (q_d_neT h158) ?_
                      refine q_Ru_seg (g2 := (122, [(0, .ref 64), (1, .int (a - 3840))], [.int 0, .ref 64], (q_cM (q_uA (q_uA q_AM 33 f) 32 g) I q_J0, 34, 31630))) 5 (fun _ _ => rfl) ?_
                      refine q_Ru_call (v := (some (.int 0))) (h2 := (q_cM (q_uA (q_uA (q_uA q_AM 33 f) 32 g) 33 (upd (upd (upd (upd (upd (upd (upd (upd f 0 0) 4 0) 1 0) 5 0) 2 0) 6 0) 3 0) 7 0)) I q_J0, 34, 31630)) rfl rfl ?_ ?_
                      · refine q_Ca_of (Nat.le_of_ble_eq_true rfl) ?_
                        refine q_Ru_seg (g2 := (14, [(2, .int 0), (0, .ref 64), (1, .int 0)], [.int 0, .int 0, .int 0, .ref 97], (q_cM (q_uA (q_uA q_AM 33 f) 32 g) I q_J0, 34, 31630))) 10 (fun _ _ => rfl) ?_
                        refine q_Ru_call (v := (some (.int 0))) (h2 := (q_cM (q_uA (q_uA q_AM 33 f) 32 g) I q_J0, 34, 31630)) rfl rfl ?_ ?_
                        · refine q_Ca_of (Nat.le_of_ble_eq_true rfl) ?_
                          refine q_Ru_seg (g2 := (14, [(0, .int 0), (1, .int 0)], [.int 0], (q_cM (q_uA (q_uA q_AM 33 f) 32 g) I q_J0, 34, 31630))) 8 (fun _ _ => rfl) ?_
                          exact q_Ru_ret rfl rfl
                        show q_Ru _ _ _ (17, [(2, .int 0), (0, .ref 64), (1, .int 0)], [.int 0, .int 0, .ref 97], (q_cM (q_uA (q_uA q_AM 33 f) 32 g) I q_J0, 34, 31630)) _
                        refine q_Ru_seg (g2 := (14, [(2, .int 1), (0, .ref 64), (1, .int 0)], [.int 1, .int 0, .int 1, .ref 97], (q_cM (q_uA (q_uA (q_uA q_AM 33 f) 32 g) 33 (upd (upd f 0 0) 4 0)) I q_J0, 34, 31630))) 18 (fun _ _ => rfl) ?_
                        refine q_Ru_call (v := (some (.int 0))) (h2 := (q_cM (q_uA (q_uA (q_uA q_AM 33 f) 32 g) 33 (upd (upd f 0 0) 4 0)) I q_J0, 34, 31630)) rfl rfl ?_ ?_
                        · refine q_Ca_of (Nat.le_of_ble_eq_true rfl) ?_
                          refine q_Ru_seg (g2 := (14, [(0, .int 0), (1, .int 1)], [.int 0], (q_cM (q_uA (q_uA (q_uA q_AM 33 f) 32 g) 33 (upd (upd f 0 0) 4 0)) I q_J0, 34, 31630))) 8 (fun _ _ => rfl) ?_
                          exact q_Ru_ret rfl rfl
                        show q_Ru _ _ _ (17, [(2, .int 1), (0, .ref 64), (1, .int 0)], [.int 0, .int 1, .ref 97], (q_cM (q_uA (q_uA (q_uA q_AM 33 f) 32 g) 33 (upd (upd f 0 0) 4 0)) I q_J0, 34, 31630)) _
                        refine q_Ru_seg (g2 := (14, [(2, .int 2), (0, .ref 64), (1, .int 0)], [.int 2, .int 0, .int 2, .ref 97], (q_cM (q_uA (q_uA (q_uA q_AM 33 f) 32 g) 33 (upd (upd (upd (upd f 0 0) 4 0) 1 0) 5 0)) I q_J0, 34, 31630))) 18 (fun _ _ => rfl) ?_
                        refine q_Ru_call (v := (some (.int 0))) (h2 := (q_cM (q_uA (q_uA (q_uA q_AM 33 f) 32 g) 33 (upd (upd (upd (upd f 0 0) 4 0) 1 0) 5 0)) I q_J0, 34, 31630)) rfl rfl ?_ ?_
                        · refine q_Ca_of (Nat.le_of_ble_eq_true rfl) ?_
                          refine q_Ru_seg (g2 := (14, [(0, .int 0), (1, .int 2)], [.int 0], (q_cM (q_uA (q_uA (q_uA q_AM 33 f) 32 g) 33 (upd (upd (upd (upd f 0 0) 4 0) 1 0) 5 0)) I q_J0, 34, 31630))) 8 (fun _ _ => rfl) ?_
                          exact q_Ru_ret rfl rfl
                        show q_Ru _ _ _ (17, [(2, .int 2), (0, .ref 64), (1, .int 0)], [.int 0, .int 2, .ref 97], (q_cM (q_uA (q_uA (q_uA q_AM 33 f) 32 g) 33 (upd (upd (upd (upd f 0 0) 4 0) 1 0) 5 0)) I q_J0, 34, 31630)) _
                        refine q_Ru_seg (g2 := (14, [(2, .int 3), (0, .ref 64), (1, .int 0)], [.int 3, .int 0, .int 3, .ref 97], (q_cM (q_uA (q_uA (q_uA q_AM 33 f) 32 g) 33 (upd (upd (upd (upd (upd (upd f 0 0) 4 0) 1 0) 5 0) 2 0) 6 0)) I q_J0, 34, 31630))) 18 (fun _ _ => rfl) ?_
                        refine q_Ru_call (v := (some (.int 0))) (h2 := (q_cM (q_uA (q_uA (q_uA q_AM 33 f) 32 g) 33 (upd (upd (upd (upd (upd (upd f 0 0) 4 0) 1 0) 5 0) 2 0) 6 0)) I q_J0, 34, 31630)) rfl rfl ?_ ?_
                        · refine q_Ca_of (Nat.le_of_ble_eq_true rfl) ?_
                          refine q_Ru_seg (g2 := (14, [(0, .int 0), (1, .int 3)], [.int 0], (q_cM (q_uA (q_uA (q_uA q_AM 33 f) 32 g) 33 (upd (upd (upd (upd (upd (upd f 0 0) 4 0) 1 0) 5 0) 2 0) 6 0)) I q_J0, 34, 31630))) 8 (fun _ _ => rfl) ?_
                          exact q_Ru_ret rfl rfl
                        show q_Ru _ _ _ (17, [(2, .int 3), (0, .ref 64), (1, .int 0)], [.int 0, .int 3, .ref 97], (q_cM (q_uA (q_uA (q_uA q_AM 33 f) 32 g) 33 (upd (upd (upd (upd (upd (upd f 0 0) 4 0) 1 0) 5 0) 2 0) 6 0)) I q_J0, 34, 31630)) _
                        refine q_Ru_seg (g2 := (55, [(3, .int 0), (2, .int 0), (0, .ref 64), (1, .int 0)], [.int 0], (q_cM (q_uA (q_uA (q_uA q_AM 33 f) 32 g) 33 (upd (upd (upd (upd (upd (upd (upd (upd f 0 0) 4 0) 1 0) 5 0) 2 0) 6 0) 3 0) 7 0)) I q_J0, 34, 31630))) 27 (fun _ _ => rfl) ?_
                        refine q_Ru_seg (g2 := (55, [(3, .int 1), (2, .int 0), (0, .ref 64), (1, .int 0)], [.int 0], (q_cM (q_uA (q_uA (q_uA q_AM 33 f) 32 g) 33 (upd (upd (upd (upd (upd (upd (upd (upd f 0 0) 4 0) 1 0) 5 0) 2 0) 6 0) 3 0) 7 0)) I q_J0, 34, 31630))) 11 (fun _ _ => rfl) ?_
                        refine q_Ru_seg (g2 := (55, [(3, .int 2), (2, .int 0), (0, .ref 64), (1, .int 0)], [.int 0], (q_cM (q_uA (q_uA (q_uA q_AM 33 f) 32 g) 33 (upd (upd (upd (upd (upd (upd (upd (upd f 0 0) 4 0) 1 0) 5 0) 2 0) 6 0) 3 0) 7 0)) I q_J0, 34, 31630))) 11 (fun _ _ => rfl) ?_
                        refine q_Ru_seg (g2 := (55, [(3, .int 3), (2, .int 0), (0, .ref 64), (1, .int 0)], [.int 0], (q_cM (q_uA (q_uA (q_uA q_AM 33 f) 32 g) 33 (upd (upd (upd (upd (upd (upd (upd (upd f 0 0) 4 0) 1 0) 5 0) 2 0) 6 0) 3 0) 7 0)) I q_J0, 34, 31630))) 11 (fun _ _ => rfl) ?_
                        refine q_Ru_seg (g2 := (55, [(3, .int 4), (2, .int 0), (0, .ref 64), (1, .int 0)], [.int 0], (q_cM (q_uA (q_uA (q_uA q_AM 33 f) 32 g) 33 (upd (upd (upd (upd (upd (upd (upd (upd f 0 0) 4 0) 1 0) 5 0) 2 0) 6 0) 3 0) 7 0)) I q_J0, 34, 31630))) 11 (fun _ _ => rfl) ?_
                        refine q_Ru_seg (g2 := (55, [(3, .int 5), (2, .int 0), (0, .ref 64), (1, .int 0)], [.int 0], (q_cM (q_uA (q_uA (q_uA q_AM 33 f) 32 g) 33 (upd (upd (upd (upd (upd (upd (upd (upd f 0 0) 4 0) 1 0) 5 0) 2 0) 6 0) 3 0) 7 0)) I q_J0, 34, 31630))) 11 (fun _ _ => rfl) ?_
                        refine q_Ru_seg (g2 := (55, [(3, .int 6), (2, .int 0), (0, .ref 64), (1, .int 0)], [.int 0], (q_cM (q_uA (q_uA (q_uA q_AM 33 f) 32 g) 33 (upd (upd (upd (upd (upd (upd (upd (upd f 0 0) 4 0) 1 0) 5 0) 2 0) 6 0) 3 0) 7 0)) I q_J0, 34, 31630))) 11 (fun _ _ => rfl) ?_
                        refine q_Ru_seg (g2 := (55, [(3, .int 7), (2, .int 0), (0, .ref 64), (1, .int 0)], [.int 0], (q_cM (q_uA (q_uA (q_uA q_AM 33 f) 32 g) 33 (upd (upd (upd (upd (upd (upd (upd (upd f 0 0) 4 0) 1 0) 5 0) 2 0) 6 0) 3 0) 7 0)) I q_J0, 34, 31630))) 11 (fun _ _ => rfl) ?_
                        refine q_Ru_seg (g2 := (55, [(3, .int 8), (2, .int 0), (0, .ref 64), (1, .int 0)], [.int 0], (q_cM (q_uA (q_uA (q_uA q_AM 33 f) 32 g) 33 (upd (upd (upd (upd (upd (upd (upd (upd f 0 0) 4 0) 1 0) 5 0) 2 0) 6 0) 3 0) 7 0)) I q_J0, 34, 31630))) 11 (fun _ _ => rfl) ?_
                        refine q_Ru_seg (g2 := (55, [(3, .int 9), (2, .int 0), (0, .ref 64), (1, .int 0)], [.int 0], (q_cM (q_uA (q_uA (q_uA q_AM 33 f) 32 g) 33 (upd (upd (upd (upd (upd (upd (upd (upd f 0 0) 4 0) 1 0) 5 0) 2 0) 6 0) 3 0) 7 0)) I q_J0, 34, 31630))) 11 (fun _ _ => rfl) ?_
                        refine q_Ru_seg (g2 := (55, [(3, .int 10), (2, .int 0), (0, .ref 64), (1, .int 0)], [.int 0], (q_cM (q_uA (q_uA (q_uA q_AM 33 f) 32 g) 33 (upd (upd (upd (upd (upd (upd (upd (upd f 0 0) 4 0) 1 0) 5 0) 2 0) 6 0) 3 0) 7 0)) I q_J0, 34, 31630))) 11 (fun _ _ => rfl) ?_
                        refine q_Ru_seg (g2 := (55, [(3, .int 11), (2, .int 0), (0, .ref 64), (1, .int 0)], [.int 0], (q_cM (q_uA (q_uA (q_uA q_AM 33 f) 32 g) 33 (upd (upd (upd (upd (upd (upd (upd (upd f 0 0) 4 0) 1 0) 5 0) 2 0) 6 0) 3 0) 7 0)) I q_J0, 34, 31630))) 11 (fun _ _ => rfl) ?_
                        refine q_Ru_seg (g2 := (55, [(3, .int 12), (2, .int 0), (0, .ref 64), (1, .int 0)], [.int 0], (q_cM (q_uA (q_uA (q_uA q_AM 33 f) 32 g) 33 (upd (upd (upd (upd (upd (upd (upd (upd f 0 0) 4 0) 1 0) 5 0) 2 0) 6 0) 3 0) 7 0)) I q_J0, 34, 31630))) 11 (fun _ _ => rfl) ?_
                        refine q_Ru_seg (g2 := (55, [(3, .int 13), (2, .int 0), (0, .ref 64), (1, .int 0)], [.int 0], (q_cM (q_uA (q_uA (q_uA q_AM 33 f) 32 g) 33 (upd (upd (upd (upd (upd (upd (upd (upd f 0 0) 4 0) 1 0) 5 0) 2 0) 6 0) 3 0) 7 0)) I q_J0, 34, 31630))) 11 (fun _ _ => rfl) ?_
                        refine q_Ru_seg (g2 := (55, [(3, .int 14), (2, .int 0), (0, .ref 64), (1, .int 0)], [.int 0], (q_cM (q_uA (q_uA (q_uA q_AM 33 f) 32 g) 33 (upd (upd (upd (upd (upd (upd (upd (upd f 0 0) 4 0) 1 0) 5 0) 2 0) 6 0) 3 0) 7 0)) I q_J0, 34, 31630))) 11 (fun _ _ => rfl) ?_
                        refine q_Ru_seg (g2 := (55, [(3, .int 15), (2, .int 0), (0, .ref 64), (1, .int 0)], [.int 0], (q_cM (q_uA (q_uA (q_uA q_AM 33 f) 32 g) 33 (upd (upd (upd (upd (upd (upd (upd (upd f 0 0) 4 0) 1 0) 5 0) 2 0) 6 0) 3 0) 7 0)) I q_J0, 34, 31630))) 11 (fun _ _ => rfl) ?_
                        refine q_Ru_seg (g2 := (55, [(3, .int 0), (2, .int 1), (0, .ref 64), (1, .int 0)], [.int 0], (q_cM (q_uA (q_uA (q_uA q_AM 33 f) 32 g) 33 (upd (upd (upd (upd (upd (upd (upd (upd f 0 0) 4 0) 1 0) 5 0) 2 0) 6 0) 3 0) 7 0)) I q_J0, 34, 31630))) 21 (fun _ _ => rfl) ?_
                        refine q_Ru_seg (g2 := (55, [(3, .int 1), (2, .int 1), (0, .ref 64), (1, .int 0)], [.int 0], (q_cM (q_uA (q_uA (q_uA q_AM 33 f) 32 g) 33 (upd (upd (upd (upd (upd (upd (upd (upd f 0 0) 4 0) 1 0) 5 0) 2 0) 6 0) 3 0) 7 0)) I q_J0, 34, 31630))) 11 (fun _ _ => rfl) ?_
                        refine q_Ru_seg (g2 := (55, [(3, .int 2), (2, .int 1), (0, .ref 64), (1, .int 0)], [.int 0], (q_cM (q_uA (q_uA (q_uA q_AM 33 f) 32 g) 33 (upd (upd (upd (upd (upd (upd (upd (upd f 0 0) 4 0) 1 0) 5 0) 2 0) 6 0) 3 0) 7 0)) I q_J0, 34, 31630))) 11 (fun _ _ => rfl) ?_
                        refine q_Ru_seg (g2 := (55, [(3, .int 3), (2, .int 1), (0, .ref 64), (1, .int 0)], [.int 0], (q_cM (q_uA (q_uA (q_uA q_AM 33 f) 32 g) 33 (upd (upd (upd (upd (upd (upd (upd (upd f 0 0) 4 0) 1 0) 5 0) 2 0) 6 0) 3 0) 7 0)) I q_J0, 34, 31630))) 11 (fun _ _ => rfl) ?_
                        refine q_Ru_seg (g2 := (55, [(3, .int 4), (2, .int 1), (0, .ref 64), (1, .int 0)], [.int 0], (q_cM (q_uA (q_uA (q_uA q_AM 33 f) 32 g) 33 (upd (upd (upd (upd (upd (upd (upd (upd f 0 0) 4 0) 1 0) 5 0) 2 0) 6 0) 3 0) 7 0)) I q_J0, 34, 31630))) 11 (fun _ _ => rfl) ?_
                        refine q_Ru_seg (g2 := (55, [(3, .int 5), (2, .int 1), (0, .ref 64), (1, .int 0)], [.int 0], (q_cM (q_uA (q_uA (q_uA q_AM 33 f) 32 g) 33 (upd (upd (upd (upd (upd (upd (upd (upd f 0 0) 4 0) 1 0) 5 0) 2 0) 6 0) 3 0) 7 0)) I q_J0, 34, 31630))) 11 (fun _ _ => rfl) ?_
                        refine q_Ru_seg (g2 := (55, [(3, .int 6), (2, .int 1), (0, .ref 64), (1, .int 0)], [.int 0], (q_cM (q_uA (q_uA (q_uA q_AM 33 f) 32 g) 33 (upd (upd (upd (upd (upd (upd (upd (upd f 0 0) 4 0) 1 0) 5 0) 2 0) 6 0) 3 0) 7 0)) I q_J0, 34, 31630))) 11 (fun _ _ => rfl) ?_
                        refine q_Ru_seg (g2 := (55, [(3, .int 7), (2, .int 1), (0, .ref 64), (1, .int 0)], [.int 0], (q_cM (q_uA (q_uA (q_uA q_AM 33 f) 32 g) 33 (upd (upd (upd (upd (upd (upd (upd (upd f 0 0) 4 0) 1 0) 5 0) 2 0) 6 0) 3 0) 7 0)) I q_J0, 34, 31630))) 11 (fun _ _ => rfl) ?_
                        refine q_Ru_seg (g2 := (55, [(3, .int 8), (2, .int 1), (0, .ref 64), (1, .int 0)], [.int 0], (q_cM (q_uA (q_uA (q_uA q_AM 33 f) 32 g) 33 (upd (upd (upd (upd (upd (upd (upd (upd f 0 0) 4 0) 1 0) 5 0) 2 0) 6 0) 3 0) 7 0)) I q_J0, 34, 31630))) 11 (fun _ _ => rfl) ?_
                        refine q_Ru_seg (g2 := (55, [(3, .int 9), (2, .int 1), (0, .ref 64), (1, .int 0)], [.int 0], (q_cM (q_uA (q_uA (q_uA q_AM 33 f) 32 g) 33 (upd (upd (upd (upd (upd (upd (upd (upd f 0 0) 4 0) 1 0) 5 0) 2 0) 6 0) 3 0) 7 0)) I q_J0, 34, 31630))) 11 (fun _ _ => rfl) ?_
                        refine q_Ru_seg (g2 := (55, [(3, .int 10), (2, .int 1), (0, .ref 64), (1, .int 0)], [.int 0], (q_cM (q_uA (q_uA (q_uA q_AM 33 f) 32 g) 33 (upd (upd (upd (upd (upd (upd (upd (upd f 0 0) 4 0) 1 0) 5 0) 2 0) 6 0) 3 0) 7 0)) I q_J0, 34, 31630))) 11 (fun _ _ => rfl) ?_
                        refine q_Ru_seg (g2 := (55, [(3, .int 11), (2, .int 1), (0, .ref 64), (1, .int 0)], [.int 0], (q_cM (q_uA (q_uA (q_uA q_AM 33 f) 32 g) 33 (upd (upd (upd (upd (upd (upd (upd (upd f 0 0) 4 0) 1 0) 5 0) 2 0) 6 0) 3 0) 7 0)) I q_J0, 34, 31630))) 11 (fun _ _ => rfl) ?_
                        refine q_Ru_seg (g2 := (55, [(3, .int 12), (2, .int 1), (0, .ref 64), (1, .int 0)], [.int 0], (q_cM (q_uA (q_uA (q_uA q_AM 33 f) 32 g) 33 (upd (upd (upd (upd (upd (upd (upd (upd f 0 0) 4 0) 1 0) 5 0) 2 0) 6 0) 3 0) 7 0)) I q_J0, 34, 31630))) 11 (fun _ _ => rfl) ?_
                        refine q_Ru_seg (g2 := (55, [(3, .int 13), (2, .int 1), (0, .ref 64), (1, .int 0)], [.int 0], (q_cM (q_uA (q_uA (q_uA q_AM 33 f) 32 g) 33 (upd (upd (upd (upd (upd (upd (upd (upd f 0 0) 4 0) 1 0) 5 0) 2 0) 6 0) 3 0) 7 0)) I q_J0, 34, 31630))) 11 (fun _ _ => rfl) ?_
                        refine q_Ru_seg (g2 := (55, [(3, .int 14), (2, .int 1), (0, .ref 64), (1, .int 0)], [.int 0], (q_cM (q_uA (q_uA (q_uA q_AM 33 f) 32 g) 33 (upd (upd (upd (upd (upd (upd (upd (upd f 0 0) 4 0) 1 0) 5 0) 2 0) 6 0) 3 0) 7 0)) I q_J0, 34, 31630))) 11 (fun _ _ => rfl) ?_
                        refine q_Ru_seg (g2 := (55, [(3, .int 15), (2, .int 1), (0, .ref 64), (1, .int 0)], [.int 0], (q_cM (q_uA (q_uA (q_uA q_AM 33 f) 32 g) 33 (upd (upd (upd (upd (upd (upd (upd (upd f 0 0) 4 0) 1 0) 5 0) 2 0) 6 0) 3 0) 7 0)) I q_J0, 34, 31630))) 11 (fun _ _ => rfl) ?_
                        refine q_Ru_seg (g2 := (55, [(3, .int 0), (2, .int 2), (0, .ref 64), (1, .int 0)], [.int 0], (q_cM (q_uA (q_uA (q_uA q_AM 33 f) 32 g) 33 (upd (upd (upd (upd (upd (upd (upd (upd f 0 0) 4 0) 1 0) 5 0) 2 0) 6 0) 3 0) 7 0)) I q_J0, 34, 31630))) 21 (fun _ _ => rfl) ?_
                        refine q_Ru_seg (g2 := (55, [(3, .int 1), (2, .int 2), (0, .ref 64), (1, .int 0)], [.int 0], (q_cM (q_uA (q_uA (q_uA q_AM 33 f) 32 g) 33 (upd (upd (upd (upd (upd (upd (upd (upd f 0 0) 4 0) 1 0) 5 0) 2 0) 6 0) 3 0) 7 0)) I q_J0, 34, 31630))) 11 (fun _ _ => rfl) ?_
                        refine q_Ru_seg (g2 := (55, [(3, .int 2), (2, .int 2), (0, .ref 64), (1, .int 0)], [.int 0], (q_cM (q_uA (q_uA (q_uA q_AM 33 f) 32 g) 33 (upd (upd (upd (upd (upd (upd (upd (upd f 0 0) 4 0) 1 0) 5 0) 2 0) 6 0) 3 0) 7 0)) I q_J0, 34, 31630))) 11 (fun _ _ => rfl) ?_
                        refine q_Ru_seg (g2 := (55, [(3, .int 3), (2, .int 2), (0, .ref 64), (1, .int 0)], [.int 0], (q_cM (q_uA (q_uA (q_uA q_AM 33 f) 32 g) 33 (upd (upd (upd (upd (upd (upd (upd (upd f 0 0) 4 0) 1 0) 5 0) 2 0) 6 0) 3 0) 7 0)) I q_J0, 34, 31630))) 11 (fun _ _ => rfl) ?_
                        refine q_Ru_seg (g2 := (55, [(3, .int 4), (2, .int 2), (0, .ref 64), (1, .int 0)], [.int 0], (q_cM (q_uA (q_uA (q_uA q_AM 33 f) 32 g) 33 (upd (upd (upd (upd (upd (upd (upd (upd f 0 0) 4 0) 1 0) 5 0) 2 0) 6 0) 3 0) 7 0)) I q_J0, 34, 31630))) 11 (fun _ _ => rfl) ?_
                        refine q_Ru_seg (g2 := (55, [(3, .int 5), (2, .int 2), (0, .ref 64), (1, .int 0)], [.int 0], (q_cM (q_uA (q_uA (q_uA q_AM 33 f) 32 g) 33 (upd (upd (upd (upd (upd (upd (upd (upd f 0 0) 4 0) 1 0) 5 0) 2 0) 6 0) 3 0) 7 0)) I q_J0, 34, 31630))) 11 (fun _ _ => rfl) ?_
                        refine q_Ru_seg (g2 := (55, [(3, .int 6), (2, .int 2), (0, .ref 64), (1, .int 0)], [.int 0], (q_cM (q_uA (q_uA (q_uA q_AM 33 f) 32 g) 33 (upd (upd (upd (upd (upd (upd (upd (upd f 0 0) 4 0) 1 0) 5 0) 2 0) 6 0) 3 0) 7 0)) I q_J0, 34, 31630))) 11 (fun _ _ => rfl) ?_
                        refine q_Ru_seg (g2 := (55, [(3, .int 7), (2, .int 2), (0, .ref 64), (1, .int 0)], [.int 0], (q_cM (q_uA (q_uA (q_uA q_AM 33 f) 32 g) 33 (upd (upd (upd (upd (upd (upd (upd (upd f 0 0) 4 0) 1 0) 5 0) 2 0) 6 0) 3 0) 7 0)) I q_J0, 34, 31630))) 11 (fun _ _ => rfl) ?_
                        refine q_Ru_seg (g2 := (55, [(3, .int 8), (2, .int 2), (0, .ref 64), (1, .int 0)], [.int 0], (q_cM (q_uA (q_uA (q_uA q_AM 33 f) 32 g) 33 (upd (upd (upd (upd (upd (upd (upd (upd f 0 0) 4 0) 1 0) 5 0) 2 0) 6 0) 3 0) 7 0)) I q_J0, 34, 31630))) 11 (fun _ _ => rfl) ?_
                        refine q_Ru_seg (g2 := (55, [(3, .int 9), (2, .int 2), (0, .ref 64), (1, .int 0)], [.int 0], (q_cM (q_uA (q_uA (q_uA q_AM 33 f) 32 g) 33 (upd (upd (upd (upd (upd (upd (upd (upd f 0 0) 4 0) 1 0) 5 0) 2 0) 6 0) 3 0) 7 0)) I q_J0, 34, 31630))) 11 (fun _ _ => rfl) ?_
                        refine q_Ru_seg (g2 := (55, [(3, .int 10), (2, .int 2), (0, .ref 64), (1, .int 0)], [.int 0], (q_cM (q_uA (q_uA (q_uA q_AM 33 f) 32 g) 33 (upd (upd (upd (upd (upd (upd (upd (upd f 0 0) 4 0) 1 0) 5 0) 2 0) 6 0) 3 0) 7 0)) I q_J0, 34, 31630))) 11 (fun _ _ => rfl) ?_
                        refine q_Ru_seg (g2 := (55, [(3, .int 11), (2, .int 2), (0, .ref 64), (1, .int 0)], [.int 0], (q_cM (q_uA (q_uA (q_uA q_AM 33 f) 32 g) 33 (upd (upd (upd (upd (upd (upd (upd (upd f 0 0) 4 0) 1 0) 5 0) 2 0) 6 0) 3 0) 7 0)) I q_J0, 34, 31630))) 11 (fun _ _ => rfl) ?_
                        refine q_Ru_seg (g2 := (55, [(3, .int 12), (2, .int 2), (0, .ref 64), (1, .int 0)], [.int 0], (q_cM (q_uA (q_uA (q_uA q_AM 33 f) 32 g) 33 (upd (upd (upd (upd (upd (upd (upd (upd f 0 0) 4 0) 1 0) 5 0) 2 0) 6 0) 3 0) 7 0)) I q_J0, 34, 31630))) 11 (fun _ _ => rfl) ?_
                        refine q_Ru_seg (g2 := (55, [(3, .int 13), (2, .int 2), (0, .ref 64), (1, .int 0)], [.int 0], (q_cM (q_uA (q_uA (q_uA q_AM 33 f) 32 g) 33 (upd (upd (upd (upd (upd (upd (upd (upd f 0 0) 4 0) 1 0) 5 0) 2 0) 6 0) 3 0) 7 0)) I q_J0, 34, 31630))) 11 (fun _ _ => rfl) ?_
                        refine q_Ru_seg (g2 := (55, [(3, .int 14), (2, .int 2), (0, .ref 64), (1, .int 0)], [.int 0], (q_cM (q_uA (q_uA (q_uA q_AM 33 f) 32 g) 33 (upd (upd (upd (upd (upd (upd (upd (upd f 0 0) 4 0) 1 0) 5 0) 2 0) 6 0) 3 0) 7 0)) I q_J0, 34, 31630))) 11 (fun _ _ => rfl) ?_
                        refine q_Ru_seg (g2 := (55, [(3, .int 15), (2, .int 2), (0, .ref 64), (1, .int 0)], [.int 0], (q_cM (q_uA (q_uA (q_uA q_AM 33 f) 32 g) 33 (upd (upd (upd (upd (upd (upd (upd (upd f 0 0) 4 0) 1 0) 5 0) 2 0) 6 0) 3 0) 7 0)) I q_J0, 34, 31630))) 11 (fun _ _ => rfl) ?_
                        refine q_Ru_seg (g2 := (55, [(3, .int 0), (2, .int 3), (0, .ref 64), (1, .int 0)], [.int 0], (q_cM (q_uA (q_uA (q_uA q_AM 33 f) 32 g) 33 (upd (upd (upd (upd (upd (upd (upd (upd f 0 0) 4 0) 1 0) 5 0) 2 0) 6 0) 3 0) 7 0)) I q_J0, 34, 31630))) 21 (fun _ _ => rfl) ?_
                        refine q_Ru_seg (g2 := (55, [(3, .int 1), (2, .int 3), (0, .ref 64), (1, .int 0)], [.int 0], (q_cM (q_uA (q_uA (q_uA q_AM 33 f) 32 g) 33 (upd (upd (upd (upd (upd (upd (upd (upd f 0 0) 4 0) 1 0) 5 0) 2 0) 6 0) 3 0) 7 0)) I q_J0, 34, 31630))) 11 (fun _ _ => rfl) ?_
                        refine q_Ru_seg (g2 := (55, [(3, .int 2), (2, .int 3), (0, .ref 64), (1, .int 0)], [.int 0], (q_cM (q_uA (q_uA (q_uA q_AM 33 f) 32 g) 33 (upd (upd (upd (upd (upd (upd (upd (upd f 0 0) 4 0) 1 0) 5 0) 2 0) 6 0) 3 0) 7 0)) I q_J0, 34, 31630))) 11 (fun _ _ => rfl) ?_
                        refine q_Ru_seg (g2 := (55, [(3, .int 3), (2, .int 3), (0, .ref 64), (1, .int 0)], [.int 0], (q_cM (q_uA (q_uA (q_uA q_AM 33 f) 32 g) 33 (upd (upd (upd (upd (upd (upd (upd (upd f 0 0) 4 0) 1 0) 5 0) 2 0) 6 0) 3 0) 7 0)) I q_J0, 34, 31630))) 11 (fun _ _ => rfl) ?_
                        refine q_Ru_seg (g2 := (55, [(3, .int 4), (2, .int 3), (0, .ref 64), (1, .int 0)], [.int 0], (q_cM (q_uA (q_uA (q_uA q_AM 33 f) 32 g) 33 (upd (upd (upd (upd (upd (upd (upd (upd f 0 0) 4 0) 1 0) 5 0) 2 0) 6 0) 3 0) 7 0)) I q_J0, 34, 31630))) 11 (fun _ _ => rfl) ?_
                        refine q_Ru_seg (g2 := (55, [(3, .int 5), (2, .int 3), (0, .ref 64), (1, .int 0)], [.int 0], (q_cM (q_uA (q_uA (q_uA q_AM 33 f) 32 g) 33 (upd (upd (upd (upd (upd (upd (upd (upd f 0 0) 4 0) 1 0) 5 0) 2 0) 6 0) 3 0) 7 0)) I q_J0, 34, 31630))) 11 (fun _ _ => rfl) ?_
                        refine q_Ru_seg (g2 := (55, [(3, .int 6), (2, .int 3), (0, .ref 64), (1, .int 0)], [.int 0], (q_cM (q_uA (q_uA (q_uA q_AM 33 f) 32 g) 33 (upd (upd (upd (upd (upd (upd (upd (upd f 0 0) 4 0) 1 0) 5 0) 2 0) 6 0) 3 0) 7 0)) I q_J0, 34, 31630))) 11 (fun _ _ => rfl) ?_
                        refine q_Ru_seg (g2 := (55, [(3, .int 7), (2, .int 3), (0, .ref 64), (1, .int 0)], [.int 0], (q_cM (q_uA (q_uA (q_uA q_AM 33 f) 32 g) 33 (upd (upd (upd (upd (upd (upd (upd (upd f 0 0) 4 0) 1 0) 5 0) 2 0) 6 0) 3 0) 7 0)) I q_J0, 34, 31630))) 11 (fun _ _ => rfl) ?_
                        refine q_Ru_seg (g2 := (55, [(3, .int 8), (2, .int 3), (0, .ref 64), (1, .int 0)], [.int 0], (q_cM (q_uA (q_uA (q_uA q_AM 33 f) 32 g) 33 (upd (upd (upd (upd (upd (upd (upd (upd f 0 0) 4 0) 1 0) 5 0) 2 0) 6 0) 3 0) 7 0)) I q_J0, 34, 31630))) 11 (fun _ _ => rfl) ?_
                        refine q_Ru_seg (g2 := (55, [(3, .int 9), (2, .int 3), (0, .ref 64), (1, .int 0)], [.int 0], (q_cM (q_uA (q_uA (q_uA q_AM 33 f) 32 g) 33 (upd (upd (upd (upd (upd (upd (upd (upd f 0 0) 4 0) 1 0) 5 0) 2 0) 6 0) 3 0) 7 0)) I q_J0, 34, 31630))) 11 (fun _ _ => rfl) ?_
                        refine q_Ru_seg (g2 := (55, [(3, .int 10), (2, .int 3), (0, .ref 64), (1, .int 0)], [.int 0], (q_cM (q_uA (q_uA (q_uA q_AM 33 f) 32 g) 33 (upd (upd (upd (upd (upd (upd (upd (upd f 0 0) 4 0) 1 0) 5 0) 2 0) 6 0) 3 0) 7 0)) I q_J0, 34, 31630))) 11 (fun _ _ => rfl) ?_
                        refine q_Ru_seg (g2 := (55, [(3, .int 11), (2, .int 3), (0, .ref 64), (1, .int 0)], [.int 0], (q_cM (q_uA (q_uA (q_uA q_AM 33 f) 32 g) 33 (upd (upd (upd (upd (upd (upd (upd (upd f 0 0) 4 0) 1 0) 5 0) 2 0) 6 0) 3 0) 7 0)) I q_J0, 34, 31630))) 11 (fun _ _ => rfl) ?_
                        refine q_Ru_seg (g2 := (55, [(3, .int 12), (2, .int 3), (0, .ref 64), (1, .int 0)], [.int 0], (q_cM (q_uA (q_uA (q_uA q_AM 33 f) 32 g) 33 (upd (upd (upd (upd (upd (upd (upd (upd f 0 0) 4 0) 1 0) 5 0) 2 0) 6 0) 3 0) 7 0)) I q_J0, 34, 31630))) 11 (fun _ _ => rfl) ?_
                        refine q_Ru_seg (g2 := (55, [(3, .int 13), (2, .int 3), (0, .ref 64), (1, .int 0)], [.int 0], (q_cM (q_uA (q_uA (q_uA q_AM 33 f) 32 g) 33 (upd (upd (upd (upd (upd (upd (upd (upd f 0 0) 4 0) 1 0) 5 0) 2 0) 6 0) 3 0) 7 0)) I q_J0, 34, 31630))) 11 (fun _ _ => rfl) ?_
                        refine q_Ru_seg (g2 := (55, [(3, .int 14), (2, .int 3), (0, .ref 64), (1, .int 0)], [.int 0], (q_cM (q_uA (q_uA (q_uA q_AM 33 f) 32 g) 33 (upd (upd (upd (upd (upd (upd (upd (upd f 0 0) 4 0) 1 0) 5 0) 2 0) 6 0) 3 0) 7 0)) I q_J0, 34, 31630))) 11 (fun _ _ => rfl) ?_
                        refine q_Ru_seg (g2 := (55, [(3, .int 15), (2, .int 3), (0, .ref 64), (1, .int 0)], [.int 0], (q_cM (q_uA (q_uA (q_uA q_AM 33 f) 32 g) 33 (upd (upd (upd (upd (upd (upd (upd (upd f 0 0) 4 0) 1 0) 5 0) 2 0) 6 0) 3 0) 7 0)) I q_J0, 34, 31630))) 11 (fun _ _ => rfl) ?_
                        refine q_Ru_seg (g2 := (55, [(3, .int 0), (2, .int 4), (0, .ref 64), (1, .int 0)], [.int 0], (q_cM (q_uA (q_uA (q_uA q_AM 33 f) 32 g) 33 (upd (upd (upd (upd (upd (upd (upd (upd f 0 0) 4 0) 1 0) 5 0) 2 0) 6 0) 3 0) 7 0)) I q_J0, 34, 31630))) 21 (fun _ _ => rfl) ?_
                        refine q_Ru_seg (g2 := (55, [(3, .int 1), (2, .int 4), (0, .ref 64), (1, .int 0)], [.int 0], (q_cM (q_uA (q_uA (q_uA q_AM 33 f) 32 g) 33 (upd (upd (upd (upd (upd (upd (upd (upd f 0 0) 4 0) 1 0) 5 0) 2 0) 6 0) 3 0) 7 0)) I q_J0, 34, 31630))) 11 (fun _ _ => rfl) ?_
                        refine q_Ru_seg (g2 := (55, [(3, .int 2), (2, .int 4), (0, .ref 64), (1, .int 0)], [.int 0], (q_cM (q_uA (q_uA (q_uA q_AM 33 f) 32 g) 33 (upd (upd (upd (upd (upd (upd (upd (upd f 0 0) 4 0) 1 0) 5 0) 2 0) 6 0) 3 0) 7 0)) I q_J0, 34, 31630))) 11 (fun _ _ => rfl) ?_
                        refine q_Ru_seg (g2 := (55, [(3, .int 3), (2, .int 4), (0, .ref 64), (1, .int 0)], [.int 0], (q_cM (q_uA (q_uA (q_uA q_AM 33 f) 32 g) 33 (upd (upd (upd (upd (upd (upd (upd (upd f 0 0) 4 0) 1 0) 5 0) 2 0) 6 0) 3 0) 7 0)) I q_J0, 34, 31630))) 11 (fun _ _ => rfl) ?_
                        refine q_Ru_seg (g2 := (55, [(3, .int 4), (2, .int 4), (0, .ref 64), (1, .int 0)], [.int 0], (q_cM (q_uA (q_uA (q_uA q_AM 33 f) 32 g) 33 (upd (upd (upd (upd (upd (upd (upd (upd f 0 0) 4 0) 1 0) 5 0) 2 0) 6 0) 3 0) 7 0)) I q_J0, 34, 31630))) 11 (fun _ _ => rfl) ?_
                        refine q_Ru_seg (g2 := (55, [(3, .int 5), (2, .int 4), (0, .ref 64), (1, .int 0)], [.int 0], (q_cM (q_uA (q_uA (q_uA q_AM 33 f) 32 g) 33 (upd (upd (upd (upd (upd (upd (upd (upd f 0 0) 4 0) 1 0) 5 0) 2 0) 6 0) 3 0) 7 0)) I q_J0, 34, 31630))) 11 (fun _ _ => rfl) ?_
                        refine q_Ru_seg (g2 := (55, [(3, .int 6), (2, .int 4), (0, .ref 64), (1, .int 0)], [.int 0], (q_cM (q_uA (q_uA (q_uA q_AM 33 f) 32 g) 33 (upd (upd (upd (upd (upd (upd (upd (upd f 0 0) 4 0) 1 0) 5 0) 2 0) 6 0) 3 0) 7 0)) I q_J0, 34, 31630))) 11 (fun _ _ => rfl) ?_
                        refine q_Ru_seg (g2 := (55, [(3, .int 7), (2, .int 4), (0, .ref 64), (1, .int 0)], [.int 0], (q_cM (q_uA (q_uA (q_uA q_AM 33 f) 32 g) 33 (upd (upd (upd (upd (upd (upd (upd (upd f 0 0) 4 0) 1 0) 5 0) 2 0) 6 0) 3 0) 7 0)) I q_J0, 34, 31630))) 11 (fun _ _ => rfl) ?_
                        refine q_Ru_seg (g2 := (55, [(3, .int 8), (2, .int 4), (0, .ref 64), (1, .int 0)], [.int 0], (q_cM (q_uA (q_uA (q_uA q_AM 33 f) 32 g) 33 (upd (upd (upd (upd (upd (upd (upd (upd f 0 0) 4 0) 1 0) 5 0) 2 0) 6 0) 3 0) 7 0)) I q_J0, 34, 31630))) 11 (fun _ _ => rfl) ?_
                        refine q_Ru_seg (g2 := (55, [(3, .int 9), (2, .int 4), (0, .ref 64), (1, .int 0)], [.int 0], (q_cM (q_uA (q_uA (q_uA q_AM 33 f) 32 g) 33 (upd (upd (upd (upd (upd (upd (upd (upd f 0 0) 4 0) 1 0) 5 0) 2 0) 6 0) 3 0) 7 0)) I q_J0, 34, 31630))) 11 (fun _ _ => rfl) ?_
                        refine q_Ru_seg (g2 := (55, [(3, .int 10), (2, .int 4), (0, .ref 64), (1, .int 0)], [.int 0], (q_cM (q_uA (q_uA (q_uA q_AM 33 f) 32 g) 33 (upd (upd (upd (upd (upd (upd (upd (upd f 0 0) 4 0) 1 0) 5 0) 2 0) 6 0) 3 0) 7 0)) I q_J0, 34, 31630))) 11 (fun _ _ => rfl) ?_
                        refine q_Ru_seg (g2 := (55, [(3, .int 11), (2, .int 4), (0, .ref 64), (1, .int 0)], [.int 0], (q_cM (q_uA (q_uA (q_uA q_AM 33 f) 32 g) 33 (upd (upd (upd (upd (upd (upd (upd (upd f 0 0) 4 0) 1 0) 5 0) 2 0) 6 0) 3 0) 7 0)) I q_J0, 34, 31630))) 11 (fun _ _ => rfl) ?_
                        refine q_Ru_seg (g2 := (55, [(3, .int 12), (2, .int 4), (0, .ref 64), (1, .int 0)], [.int 0], (q_cM (q_uA (q_uA (q_uA q_AM 33 f) 32 g) 33 (upd (upd (upd (upd (upd (upd (upd (upd f 0 0) 4 0) 1 0) 5 0) 2 0) 6 0) 3 0) 7 0)) I q_J0, 34, 31630))) 11 (fun _ _ => rfl) ?_
                        refine q_Ru_seg (g2 := (55, [(3, .int 13), (2, .int 4), (0, .ref 64), (1, .int 0)], [.int 0], (q_cM (q_uA (q_uA (q_uA q_AM 33 f) 32 g) 33 (upd (upd (upd (upd (upd (upd (upd (upd f 0 0) 4 0) 1 0) 5 0) 2 0) 6 0) 3 0) 7 0)) I q_J0, 34, 31630))) 11 (fun _ _ => rfl) ?_
                        refine q_Ru_seg (g2 := (55, [(3, .int 14), (2, .int 4), (0, .ref 64), (1, .int 0)], [.int 0], (q_cM (q_uA (q_uA (q_uA q_AM 33 f) 32 g) 33 (upd (upd (upd (upd (upd (upd (upd (upd f 0 0) 4 0) 1 0) 5 0) 2 0) 6 0) 3 0) 7 0)) I q_J0, 34, 31630))) 11 (fun _ _ => rfl) ?_
                        refine q_Ru_seg (g2 := (55, [(3, .int 15), (2, .int 4), (0, .ref 64), (1, .int 0)], [.int 0], (q_cM (q_uA (q_uA (q_uA q_AM 33 f) 32 g) 33 (upd (upd (upd (upd (upd (upd (upd (upd f 0 0) 4 0) 1 0) 5 0) 2 0) 6 0) 3 0) 7 0)) I q_J0, 34, 31630))) 11 (fun _ _ => rfl) ?_
                        refine q_Ru_seg (g2 := (55, [(3, .int 0), (2, .int 5), (0, .ref 64), (1, .int 0)], [.int 0], (q_cM (q_uA (q_uA (q_uA q_AM 33 f) 32 g) 33 (upd (upd (upd (upd (upd (upd (upd (upd f 0 0) 4 0) 1 0) 5 0) 2 0) 6 0) 3 0) 7 0)) I q_J0, 34, 31630))) 21 (fun _ _ => rfl) ?_
                        refine q_Ru_seg (g2 := (55, [(3, .int 1), (2, .int 5), (0, .ref 64), (1, .int 0)], [.int 0], (q_cM (q_uA (q_uA (q_uA q_AM 33 f) 32 g) 33 (upd (upd (upd (upd (upd (upd (upd (upd f 0 0) 4 0) 1 0) 5 0) 2 0) 6 0) 3 0) 7 0)) I q_J0, 34, 31630))) 11 (fun _ _ => rfl) ?_
                        refine q_Ru_seg (g2 := (55, [(3, .int 2), (2, .int 5), (0, .ref 64), (1, .int 0)], [.int 0], (q_cM (q_uA (q_uA (q_uA q_AM 33 f) 32 g) 33 (upd (upd (upd (upd (upd (upd (upd (upd f 0 0) 4 0) 1 0) 5 0) 2 0) 6 0) 3 0) 7 0)) I q_J0, 34, 31630))) 11 (fun _ _ => rfl) ?_
                        refine q_Ru_seg (g2 := (55, [(3, .int 3), (2, .int 5), (0, .ref 64), (1, .int 0)], [.int 0], (q_cM (q_uA (q_uA (q_uA q_AM 33 f) 32 g) 33 (upd (upd (upd (upd (upd (upd (upd (upd f 0 0) 4 0) 1 0) 5 0) 2 0) 6 0) 3 0) 7 0)) I q_J0, 34, 31630))) 11 (fun _ _ => rfl) ?_
                        refine q_Ru_seg (g2 := (55, [(3, .int 4), (2, .int 5), (0, .ref 64), (1, .int 0)], [.int 0], (q_cM (q_uA (q_uA (q_uA q_AM 33 f) 32 g) 33 (upd (upd (upd (upd (upd (upd (upd (upd f 0 0) 4 0) 1 0) 5 0) 2 0) 6 0) 3 0) 7 0)) I q_J0, 34, 31630))) 11 (fun _ _ => rfl) ?_
                        refine q_Ru_seg (g2 := (55, [(3, .int 5), (2, .int 5), (0, .ref 64), (1, .int 0)], [.int 0], (q_cM (q_uA (q_uA (q_uA q_AM 33 f) 32 g) 33 (upd (upd (upd (upd (upd (upd (upd (upd f 0 0) 4 0) 1 0) 5 0) 2 0) 6 0) 3 0) 7 0)) I q_J0, 34, 31630))) 11 (fun _ _ => rfl) ?_
                        refine q_Ru_seg (g2 := (55, [(3, .int 6), (2, .int 5), (0, .ref 64), (1, .int 0)], [.int 0], (q_cM (q_uA (q_uA (q_uA q_AM 33 f) 32 g) 33 (upd (upd (upd (upd (upd (upd (upd (upd f 0 0) 4 0) 1 0) 5 0) 2 0) 6 0) 3 0) 7 0)) I q_J0, 34, 31630))) 11 (fun _ _ => rfl) ?_
                        refine q_Ru_seg (g2 := (55, [(3, .int 7), (2, .int 5), (0, .ref 64), (1, .int 0)], [.int 0], (q_cM (q_uA (q_uA (q_uA q_AM 33 f) 32 g) 33 (upd (upd (upd (upd (upd (upd (upd (upd f 0 0) 4 0) 1 0) 5 0) 2 0) 6 0) 3 0) 7 0)) I q_J0, 34, 31630))) 11 (fun _ _ => rfl) ?_
                        refine q_Ru_seg (g2 := (55, [(3, .int 8), (2, .int 5), (0, .ref 64), (1, .int 0)], [.int 0], (q_cM (q_uA (q_uA (q_uA q_AM 33 f) 32 g) 33 (upd (upd (upd (upd (upd (upd (upd (upd f 0 0) 4 0) 1 0) 5 0) 2 0) 6 0) 3 0) 7 0)) I q_J0, 34, 31630))) 11 (fun _ _ => rfl) ?_
                        refine q_Ru_seg (g2 := (55, [(3, .int 9), (2, .int 5), (0, .ref 64), (1, .int 0)], [.int 0], (q_cM (q_uA (q_uA (q_uA q_AM 33 f) 32 g) 33 (upd (upd (upd (upd (upd (upd (upd (upd f 0 0) 4 0) 1 0) 5 0) 2 0) 6 0) 3 0) 7 0)) I q_J0, 34, 31630))) 11 (fun _ _ => rfl) ?_
                        refine q_Ru_seg (g2 := (55, [(3, .int 10), (2, .int 5), (0, .ref 64), (1, .int 0)], [.int 0], (q_cM (q_uA (q_uA (q_uA q_AM 33 f) 32 g) 33 (upd (upd (upd (upd (upd (upd (upd (upd f 0 0) 4 0) 1 0) 5 0) 2 0) 6 0) 3 0) 7 0)) I q_J0, 34, 31630))) 11 (fun _ _ => rfl) ?_
                        refine q_Ru_seg (g2 := (55, [(3, .int 11), (2, .int 5), (0, .ref 64), (1, .int 0)], [.int 0], (q_cM (q_uA (q_uA (q_uA q_AM 33 f) 32 g) 33 (upd (upd (upd (upd (upd (upd (upd (upd f 0 0) 4 0) 1 0) 5 0) 2 0) 6 0) 3 0) 7 0)) I q_J0, 34, 31630))) 11 (fun _ _ => rfl) ?_
                        refine q_Ru_seg (g2 := (55, [(3, .int 12), (2, .int 5), (0, .ref 64), (1, .int 0)], [.int 0], (q_cM (q_uA (q_uA (q_uA q_AM 33 f) 32 g) 33 (upd (upd (upd (upd (upd (upd (upd (upd f 0 0) 4 0) 1 0) 5 0) 2 0) 6 0) 3 0) 7 0)) I q_J0, 34, 31630))) 11 (fun _ _ => rfl) ?_
                        refine q_Ru_seg (g2 := (55, [(3, .int 13), (2, .int 5), (0, .ref 64), (1, .int 0)], [.int 0], (q_cM (q_uA (q_uA (q_uA q_AM 33 f) 32 g) 33 (upd (upd (upd (upd (upd (upd (upd (upd f 0 0) 4 0) 1 0) 5 0) 2 0) 6 0) 3 0) 7 0)) I q_J0, 34, 31630))) 11 (fun _ _ => rfl) ?_
                        refine q_Ru_seg (g2 := (55, [(3, .int 14), (2, .int 5), (0, .ref 64), (1, .int 0)], [.int 0], (q_cM (q_uA (q_uA (q_uA q_AM 33 f) 32 g) 33 (upd (upd (upd (upd (upd (upd (upd (upd f 0 0) 4 0) 1 0) 5 0) 2 0) 6 0) 3 0) 7 0)) I q_J0, 34, 31630))) 11 (fun _ _ => rfl) ?_
                        refine q_Ru_seg (g2 := (55, [(3, .int 15), (2, .int 5), (0, .ref 64), (1, .int 0)], [.int 0], (q_cM (q_uA (q_uA (q_uA q_AM 33 f) 32 g) 33 (upd (upd (upd (upd (upd (upd (upd (upd f 0 0) 4 0) 1 0) 5 0) 2 0) 6 0) 3 0) 7 0)) I q_J0, 34, 31630))) 11 (fun _ _ => rfl) ?_
                        refine q_Ru_seg (g2 := (55, [(3, .int 0), (2, .int 6), (0, .ref 64), (1, .int 0)], [.int 0], (q_cM (q_uA (q_uA (q_uA q_AM 33 f) 32 g) 33 (upd (upd (upd (upd (upd (upd (upd (upd f 0 0) 4 0) 1 0) 5 0) 2 0) 6 0) 3 0) 7 0)) I q_J0, 34, 31630))) 21 (fun _ _ => rfl) ?_
                        refine q_Ru_seg (g2 := (55, [(3, .int 1), (2, .int 6), (0, .ref 64), (1, .int 0)], [.int 0], (q_cM (q_uA (q_uA (q_uA q_AM 33 f) 32 g) 33 (upd (upd (upd (upd (upd (upd (upd (upd f 0 0) 4 0) 1 0) 5 0) 2 0) 6 0) 3 0) 7 0)) I q_J0, 34, 31630))) 11 (fun _ _ => rfl) ?_
                        refine q_Ru_seg (g2 := (55, [(3, .int 2), (2, .int 6), (0, .ref 64), (1, .int 0)], [.int 0], (q_cM (q_uA (q_uA (q_uA q_AM 33 f) 32 g) 33 (upd (upd (upd (upd (upd (upd (upd (upd f 0 0) 4 0) 1 0) 5 0) 2 0) 6 0) 3 0) 7 0)) I q_J0, 34, 31630))) 11 (fun _ _ => rfl) ?_
                        refine q_Ru_seg (g2 := (55, [(3, .int 3), (2, .int 6), (0, .ref 64), (1, .int 0)], [.int 0], (q_cM (q_uA (q_uA (q_uA q_AM 33 f) 32 g) 33 (upd (upd (upd (upd (upd (upd (upd (upd f 0 0) 4 0) 1 0) 5 0) 2 0) 6 0) 3 0) 7 0)) I q_J0, 34, 31630))) 11 (fun _ _ => rfl) ?_
                        refine q_Ru_seg (g2 := (55, [(3, .int 4), (2, .int 6), (0, .ref 64), (1, .int 0)], [.int 0], (q_cM (q_uA (q_uA (q_uA q_AM 33 f) 32 g) 33 (upd (upd (upd (upd (upd (upd (upd (upd f 0 0) 4 0) 1 0) 5 0) 2 0) 6 0) 3 0) 7 0)) I q_J0, 34, 31630))) 11 (fun _ _ => rfl) ?_
                        refine q_Ru_seg (g2 := (55, [(3, .int 5), (2, .int 6), (0, .ref 64), (1, .int 0)], [.int 0], (q_cM (q_uA (q_uA (q_uA q_AM 33 f) 32 g) 33 (upd (upd (upd (upd (upd (upd (upd (upd f 0 0) 4 0) 1 0) 5 0) 2 0) 6 0) 3 0) 7 0)) I q_J0, 34, 31630))) 11 (fun _ _ => rfl) ?_
                        refine q_Ru_seg (g2 := (55, [(3, .int 6), (2, .int 6), (0, .ref 64), (1, .int 0)], [.int 0], (q_cM (q_uA (q_uA (q_uA q_AM 33 f) 32 g) 33 (upd (upd (upd (upd (upd (upd (upd (upd f 0 0) 4 0) 1 0) 5 0) 2 0) 6 0) 3 0) 7 0)) I q_J0, 34, 31630))) 11 (fun _ _ => rfl) ?_
                        refine q_Ru_seg (g2 := (55, [(3, .int 7), (2, .int 6), (0, .ref 64), (1, .int 0)], [.int 0], (q_cM (q_uA (q_uA (q_uA q_AM 33 f) 32 g) 33 (upd (upd (upd (upd (upd (upd (upd (upd f 0 0) 4 0) 1 0) 5 0) 2 0) 6 0) 3 0) 7 0)) I q_J0, 34, 31630))) 11 (fun _ _ => rfl) ?_
                        refine q_Ru_seg (g2 := (55, [(3, .int 8), (2, .int 6), (0, .ref 64), (1, .int 0)], [.int 0], (q_cM (q_uA (q_uA (q_uA q_AM 33 f) 32 g) 33 (upd (upd (upd (upd (upd (upd (upd (upd f 0 0) 4 0) 1 0) 5 0) 2 0) 6 0) 3 0) 7 0)) I q_J0, 34, 31630))) 11 (fun _ _ => rfl) ?_
                        refine q_Ru_seg (g2 := (55, [(3, .int 9), (2, .int 6), (0, .ref 64), (1, .int 0)], [.int 0], (q_cM (q_uA (q_uA (q_uA q_AM 33 f) 32 g) 33 (upd (upd (upd (upd (upd (upd (upd (upd f 0 0) 4 0) 1 0) 5 0) 2 0) 6 0) 3 0) 7 0)) I q_J0, 34, 31630))) 11 (fun _ _ => rfl) ?_
                        refine q_Ru_seg (g2 := (55, [(3, .int 10), (2, .int 6), (0, .ref 64), (1, .int 0)], [.int 0], (q_cM (q_uA (q_uA (q_uA q_AM 33 f) 32 g) 33 (upd (upd (upd (upd (upd (upd (upd (upd f 0 0) 4 0) 1 0) 5 0) 2 0) 6 0) 3 0) 7 0)) I q_J0, 34, 31630))) 11 (fun _ _ => rfl) ?_
                        refine q_Ru_seg (g2 := (55, [(3, .int 11), (2, .int 6), (0, .ref 64), (1, .int 0)], [.int 0], (q_cM (q_uA (q_uA (q_uA q_AM 33 f) 32 g) 33 (upd (upd (upd (upd (upd (upd (upd (upd f 0 0) 4 0) 1 0) 5 0) 2 0) 6 0) 3 0) 7 0)) I q_J0, 34, 31630))) 11 (fun _ _ => rfl) ?_
                        refine q_Ru_seg (g2 := (55, [(3, .int 12), (2, .int 6), (0, .ref 64), (1, .int 0)], [.int 0], (q_cM (q_uA (q_uA (q_uA q_AM 33 f) 32 g) 33 (upd (upd (upd (upd (upd (upd (upd (upd f 0 0) 4 0) 1 0) 5 0) 2 0) 6 0) 3 0) 7 0)) I q_J0, 34, 31630))) 11 (fun _ _ => rfl) ?_
                        refine q_Ru_seg (g2 := (55, [(3, .int 13), (2, .int 6), (0, .ref 64), (1, .int 0)], [.int 0], (q_cM (q_uA (q_uA (q_uA q_AM 33 f) 32 g) 33 (upd (upd (upd (upd (upd (upd (upd (upd f 0 0) 4 0) 1 0) 5 0) 2 0) 6 0) 3 0) 7 0)) I q_J0, 34, 31630))) 11 (fun _ _ => rfl) ?_
                        refine q_Ru_seg (g2 := (55, [(3, .int 14), (2, .int 6), (0, .ref 64), (1, .int 0)], [.int 0], (q_cM (q_uA (q_uA (q_uA q_AM 33 f) 32 g) 33 (upd (upd (upd (upd (upd (upd (upd (upd f 0 0) 4 0) 1 0) 5 0) 2 0) 6 0) 3 0) 7 0)) I q_J0, 34, 31630))) 11 (fun _ _ => rfl) ?_
                        refine q_Ru_seg (g2 := (55, [(3, .int 15), (2, .int 6), (0, .ref 64), (1, .int 0)], [.int 0], (q_cM (q_uA (q_uA (q_uA q_AM 33 f) 32 g) 33 (upd (upd (upd (upd (upd (upd (upd (upd f 0 0) 4 0) 1 0) 5 0) 2 0) 6 0) 3 0) 7 0)) I q_J0, 34, 31630))) 11 (fun _ _ => rfl) ?_
                        refine q_Ru_seg (g2 := (55, [(3, .int 0), (2, .int 7), (0, .ref 64), (1, .int 0)], [.int 0], (q_cM (q_uA (q_uA (q_uA q_AM 33 f) 32 g) 33 (upd (upd (upd (upd (upd (upd (upd (upd f 0 0) 4 0) 1 0) 5 0) 2 0) 6 0) 3 0) 7 0)) I q_J0, 34, 31630))) 21 (fun _ _ => rfl) ?_
                        refine q_Ru_seg (g2 := (55, [(3, .int 1), (2, .int 7), (0, .ref 64), (1, .int 0)], [.int 0], (q_cM (q_uA (q_uA (q_uA q_AM 33 f) 32 g) 33 (upd (upd (upd (upd (upd (upd (upd (upd f 0 0) 4 0) 1 0) 5 0) 2 0) 6 0) 3 0) 7 0)) I q_J0, 34, 31630))) 11 (fun _ _ => rfl) ?_
                        refine q_Ru_seg (g2 := (55, [(3, .int 2), (2, .int 7), (0, .ref 64), (1, .int 0)], [.int 0], (q_cM (q_uA (q_uA (q_uA q_AM 33 f) 32 g) 33 (upd (upd (upd (upd (upd (upd (upd (upd f 0 0) 4 0) 1 0) 5 0) 2 0) 6 0) 3 0) 7 0)) I q_J0, 34, 31630))) 11 (fun _ _ => rfl) ?_
                        refine q_Ru_seg (g2 := (55, [(3, .int 3), (2, .int 7), (0, .ref 64), (1, .int 0)], [.int 0], (q_cM (q_uA (q_uA (q_uA q_AM 33 f) 32 g) 33 (upd (upd (upd (upd (upd (upd (upd (upd f 0 0) 4 0) 1 0) 5 0) 2 0) 6 0) 3 0) 7 0)) I q_J0, 34, 31630))) 11 (fun _ _ => rfl) ?_
                        refine q_Ru_seg (g2 := (55, [(3, .int 4), (2, .int 7), (0, .ref 64), (1, .int 0)], [.int 0], (q_cM (q_uA (q_uA (q_uA q_AM 33 f) 32 g) 33 (upd (upd (upd (upd (upd (upd (upd (upd f 0 0) 4 0) 1 0) 5 0) 2 0) 6 0) 3 0) 7 0)) I q_J0, 34, 31630))) 11 (fun _ _ => rfl) ?_
                        refine q_Ru_seg (g2 := (55, [(3, .int 5), (2, .int 7), (0, .ref 64), (1, .int 0)], [.int 0], (q_cM (q_uA (q_uA (q_uA q_AM 33 f) 32 g) 33 (upd (upd (upd (upd (upd (upd (upd (upd f 0 0) 4 0) 1 0) 5 0) 2 0) 6 0) 3 0) 7 0)) I q_J0, 34, 31630))) 11 (fun _ _ => rfl) ?_
                        refine q_Ru_seg (g2 := (55, [(3, .int 6), (2, .int 7), (0, .ref 64), (1, .int 0)], [.int 0], (q_cM (q_uA (q_uA (q_uA q_AM 33 f) 32 g) 33 (upd (upd (upd (upd (upd (upd (upd (upd f 0 0) 4 0) 1 0) 5 0) 2 0) 6 0) 3 0) 7 0)) I q_J0, 34, 31630))) 11 (fun _ _ => rfl) ?_
                        refine q_Ru_seg (g2 := (55, [(3, .int 7), (2, .int 7), (0, .ref 64), (1, .int 0)], [.int 0], (q_cM (q_uA (q_uA (q_uA q_AM 33 f) 32 g) 33 (upd (upd (upd (upd (upd (upd (upd (upd f 0 0) 4 0) 1 0) 5 0) 2 0) 6 0) 3 0) 7 0)) I q_J0, 34, 31630))) 11 (fun _ _ => rfl) ?_
                        refine q_Ru_seg (g2 := (55, [(3, .int 8), (2, .int 7), (0, .ref 64), (1, .int 0)], [.int 0], (q_cM (q_uA (q_uA (q_uA q_AM 33 f) 32 g) 33 (upd (upd (upd (upd (upd (upd (upd (upd f 0 0) 4 0) 1 0) 5 0) 2 0) 6 0) 3 0) 7 0)) I q_J0, 34, 31630))) 11 (fun _ _ => rfl) ?_
                        refine q_Ru_seg (g2 := (55, [(3, .int 9), (2, .int 7), (0, .ref 64), (1, .int 0)], [.int 0], (q_cM (q_uA (q_uA (q_uA q_AM 33 f) 32 g) 33 (upd (upd (upd (upd (upd (upd (upd (upd f 0 0) 4 0) 1 0) 5 0) 2 0) 6 0) 3 0) 7 0)) I q_J0, 34, 31630))) 11 (fun _ _ => rfl) ?_
                        refine q_Ru_seg (g2 := (55, [(3, .int 10), (2, .int 7), (0, .ref 64), (1, .int 0)], [.int 0], (q_cM (q_uA (q_uA (q_uA q_AM 33 f) 32 g) 33 (upd (upd (upd (upd (upd (upd (upd (upd f 0 0) 4 0) 1 0) 5 0) 2 0) 6 0) 3 0) 7 0)) I q_J0, 34, 31630))) 11 (fun _ _ => rfl) ?_
                        refine q_Ru_seg (g2 := (55, [(3, .int 11), (2, .int 7), (0, .ref 64), (1, .int 0)], [.int 0], (q_cM (q_uA (q_uA (q_uA q_AM 33 f) 32 g) 33 (upd (upd (upd (upd (upd (upd (upd (upd f 0 0) 4 0) 1 0) 5 0) 2 0) 6 0) 3 0) 7 0)) I q_J0, 34, 31630))) 11 (fun _ _ => rfl) ?_
                        refine q_Ru_seg (g2 := (55, [(3, .int 12), (2, .int 7), (0, .ref 64), (1, .int 0)], [.int 0], (q_cM (q_uA (q_uA (q_uA q_AM 33 f) 32 g) 33 (upd (upd (upd (upd (upd (upd (upd (upd f 0 0) 4 0) 1 0) 5 0) 2 0) 6 0) 3 0) 7 0)) I q_J0, 34, 31630))) 11 (fun _ _ => rfl) ?_
                        refine q_Ru_seg (g2 := (55, [(3, .int 13), (2, .int 7), (0, .ref 64), (1, .int 0)], [.int 0], (q_cM (q_uA (q_uA (q_uA q_AM 33 f) 32 g) 33 (upd (upd (upd (upd (upd (upd (upd (upd f 0 0) 4 0) 1 0) 5 0) 2 0) 6 0) 3 0) 7 0)) I q_J0, 34, 31630))) 11 (fun _ _ => rfl) ?_
                        refine q_Ru_seg (g2 := (55, [(3, .int 14), (2, .int 7), (0, .ref 64), (1, .int 0)], [.int 0], (q_cM (q_uA (q_uA (q_uA q_AM 33 f) 32 g) 33 (upd (upd (upd (upd (upd (upd (upd (upd f 0 0) 4 0) 1 0) 5 0) 2 0) 6 0) 3 0) 7 0)) I q_J0, 34, 31630))) 11 (fun _ _ => rfl) ?_
                        refine q_Ru_seg (g2 := (55, [(3, .int 15), (2, .int 7), (0, .ref 64), (1, .int 0)], [.int 0], (q_cM (q_uA (q_uA (q_uA q_AM 33 f) 32 g) 33 (upd (upd (upd (upd (upd (upd (upd (upd f 0 0) 4 0) 1 0) 5 0) 2 0) 6 0) 3 0) 7 0)) I q_J0, 34, 31630))) 11 (fun _ _ => rfl) ?_
                        refine q_Ru_seg (g2 := (144, [(3, .int 0), (2, .int 0), (0, .ref 64), (1, .int 0)], [.int 0, .int 0], (q_cM (q_uA (q_uA (q_uA q_AM 33 f) 32 g) 33 (upd (upd (upd (upd (upd (upd (upd (upd f 0 0) 4 0) 1 0) 5 0) 2 0) 6 0) 3 0) 7 0)) I q_J0, 34, 31630))) 26 (fun _ _ => rfl) ?_
                        refine q_Ru_seg (g2 := (144, [(3, .int 1), (2, .int 0), (0, .ref 64), (1, .int 0)], [.int 0, .int 0], (q_cM (q_uA (q_uA (q_uA q_AM 33 f) 32 g) 33 (upd (upd (upd (upd (upd (upd (upd (upd f 0 0) 4 0) 1 0) 5 0) 2 0) 6 0) 3 0) 7 0)) I q_J0, 34, 31630))) 16 (fun _ _ => rfl) ?_
                        refine q_Ru_seg (g2 := (144, [(3, .int 2), (2, .int 0), (0, .ref 64), (1, .int 0)], [.int 0, .int 0], (q_cM (q_uA (q_uA (q_uA q_AM 33 f) 32 g) 33 (upd (upd (upd (upd (upd (upd (upd (upd f 0 0) 4 0) 1 0) 5 0) 2 0) 6 0) 3 0) 7 0)) I q_J0, 34, 31630))) 16 (fun _ _ => rfl) ?_
                        refine q_Ru_seg (g2 := (144, [(3, .int 3), (2, .int 0), (0, .ref 64), (1, .int 0)], [.int 0, .int 0], (q_cM (q_uA (q_uA (q_uA q_AM 33 f) 32 g) 33 (upd (upd (upd (upd (upd (upd (upd (upd f 0 0) 4 0) 1 0) 5 0) 2 0) 6 0) 3 0) 7 0)) I q_J0, 34, 31630))) 16 (fun _ _ => rfl) ?_
                        refine q_Ru_seg (g2 := (163, [(3, .int 4), (2, .int 0), (0, .ref 64), (1, .int 0)], [.int 0], (q_cM (q_uA (q_uA (q_uA q_AM 33 f) 32 g) 33 (upd (upd (upd (upd (upd (upd (upd (upd f 0 0) 4 0) 1 0) 5 0) 2 0) 6 0) 3 0) 7 0)) I q_J0, 34, 31630))) 10 (fun _ _ => rfl) ?_
                        exact q_Ru_ret rfl rfl
                      show q_Ru _ _ _ (125, [(0, .ref 64), (1, .int (a - 3840))], [.int 0], (q_cM (q_uA (q_uA (q_uA q_AM 33 f) 32 g) 33 (upd (upd (upd (upd (upd (upd (upd (upd f 0 0) 4 0) 1 0) 5 0) 2 0) 6 0) 3 0) 7 0)) I q_J0, 34, 31630)) _
                      refine q_Ru_seg (g2 := (134, [(0, .ref 64), (1, .int (a - 3840))], [.int 0, .int 16, .int 0], (q_cM (q_uA (q_uA (q_uA q_AM 33 f) 32 g) 33 (upd (upd (upd (upd (upd (upd (upd (upd f 0 0) 4 0) 1 0) 5 0) 2 0) 6 0) 3 0) 7 0)) I q_J0, 34, 31630))) 5 (fun _ _ => rfl) ?_
                      refine q_Ru_seg (g2 := (136, [(0, .ref 64), (1, .int (a - 3840))], [.int 0], (q_cM (q_uA (q_uA (q_uA q_AM 33 f) 32 g) 33 (upd (upd (upd (upd (upd (upd (upd (upd f 0 0) 4 0) 1 0) 5 0) 2 0) 6 0) 3 0) 7 0)) I q_J0, 34, 31630))) 2 (fun _ _ => rfl) ?_
                      exact q_Ru_ret rfl rfl
                    show q_Ru _ _ _ (22, [(0, .ref 64), (1, .int a)], [.int 0], (q_cM (q_uA (q_uA (q_uA q_AM 33 f) 32 g) 33 (upd (upd (upd (upd (upd (upd (upd (upd f 0 0) 4 0) 1 0) 5 0) 2 0) 6 0) 3 0) 7 0)) I q_J0, 34, 31630)) _
                    exact q_Ru_ret rfl rfl
                  | false =>
                    cases h159 : decide (a - 3840 = 44) with
                    | true =>
                      refine ⟨f, ?_⟩
                      refine q_Ca_of (Nat.le_of_ble_eq_true rfl) ?_
                      refine q_Ru_seg (g2 := (7, [(0, .ref 64), (1, .int a)], [.int 3887, .int 3840, .int a], (q_cM (q_uA (q_uA q_AM 33 f) 32 g) I q_J0, 34, 31630))) 3 (fun _ _ => rfl) ?_
                      refine q_Ru_call (v := (some (.int 1))) (h2 := (q_cM (q_uA (q_uA q_AM 33 f) 32 g) I q_J0, 34, 31630)) rfl rfl ?_ ?_
                      · refine q_Ca_of (Nat.le_of_ble_eq_true rfl) ?_
                        refine q_Ru_seg (g2 := (2, [(0, .int a), (1, .int 3840), (2, .int 3887)], [.int 3840, .int a], (q_cM (q_uA (q_uA q_AM 33 f) 32 g) I q_J0, 34, 31630))) 2 (fun _ _ => rfl) ?_
                        refine q_Ru_rsF (g2 := (5, [(0, .int a), (1, .int 3840), (2, .int 3887)], [], (q_cM (q_uA (q_uA q_AM 33 f) 32 g) I q_J0, 34, 31630))) rfl rfl h133 ?_
                        refine q_Ru_seg (g2 := (7, [(0, .int a), (1, .int 3840), (2, .int 3887)], [.int 3887, .int a], (q_cM (q_uA (q_uA q_AM 33 f) 32 g) I q_J0, 34, 31630))) 2 (fun _ _ => rfl) ?_
                        refine q_Ru_rsF (g2 := (10, [(0, .int a), (1, .int 3840), (2, .int 3887)], [], (q_cM (q_uA (q_uA q_AM 33 f) 32 g) I q_J0, 34, 31630))) rfl rfl h142 ?_
                        refine q_Ru_seg (g2 := (15, [(0, .int a), (1, .int 3840), (2, .int 3887)], [.int 1], (q_cM (q_uA (q_uA q_AM 33 f) 32 g) I q_J0, 34, 31630))) 2 (fun _ _ => rfl) ?_
                        exact q_Ru_ret rfl rfl
                      show q_Ru _ _ _ (10, [(0, .ref 64), (1, .int a)], [.int 1], (q_cM (q_uA (q_uA q_AM 33 f) 32 g) I q_J0, 34, 31630)) _
                      refine q_Ru_seg (g2 := (19, [(0, .ref 64), (1, .int a)], [.int (a - 3840), .ref 64], (q_cM (q_uA (q_uA q_AM 33 f) 32 g) I q_J0, 34, 31630))) 5 (fun _ _ => rfl) ?_
                      refine q_Ru_call (v := (some (.int 0))) (h2 := (q_cM (q_uA (q_uA q_AM 33 f) 32 g) I q_J0, 34, 31630)) rfl rfl ?_ ?_
                      · refine q_Ca_of (Nat.le_of_ble_eq_true rfl) ?_
                        refine q_Ru_seg (g2 := (3, [(0, .ref 64), (1, .int (a - 3840))], [.int 9, .int (a - 3840)], (q_cM (q_uA (q_uA q_AM 33 f) 32 g) I q_J0, 34, 31630))) 2 (fun _ _ => rfl) ?_
                        refine q_Ru_rsT (g2 := (11, [(0, .ref 64), (1, .int (a - 3840))], [], (q_cM (q_uA (q_uA q_AM 33 f) 32 g) I q_J0, 34, 31630))) rfl rfl (q_d_neF h147) ?_
                        refine q_Ru_seg (g2 := (14, [(0, .ref 64), (1, .int (a - 3840))], [.int 10, .int (a - 3840)], (q_cM (q_uA (q_uA q_AM 33 f) 32 g) I q_J0, 34, 31630))) 2 (fun _ _ => rfl) ?_
                        refine q_Ru_rsT (g2 := (25, [(0, .ref 64), (1, .int (a - 3840))], [], (q_cM (q_uA (q_uA q_AM 33 f) 32 g) I q_J0, 34, 31630))) rfl rfl (q_d_neF h148) ?_
                        refine q_Ru_seg (g2 := (30, [(0, .ref 64), (1, .int (a - 3840))], [.int 15, .int 12, .int (a - 3840)], (q_cM (q_uA (q_uA q_AM 33 f) 32 g) I q_J0, 34, 31630))) 3 (fun _ _ => rfl) ?_
                        refine q_Ru_call (v := (some (.int 0))) (h2 := (q_cM (q_uA (q_uA q_AM 33 f) 32 g) I q_J0, 34, 31630)) rfl rfl ?_ ?_
                        · refine q_Ca_of (Nat.le_of_ble_eq_true rfl) ?_
                          refine q_Ru_seg (g2 := (2, [(0, .int (a - 3840)), (1, .int 12), (2, .int 15)], [.int 12, .int (a - 3840)], (q_cM (q_uA (q_uA q_AM 33 f) 32 g) I q_J0, 34, 31630))) 2 (fun _ _ => rfl) ?_
                          refine q_Ru_rsF (g2 := (5, [(0, .int (a - 3840)), (1, .int 12), (2, .int 15)], [], (q_cM (q_uA (q_uA q_AM 33 f) 32 g) I q_J0, 34, 31630))) rfl rfl h149 ?_
                          refine q_Ru_seg (g2 := (7, [(0, .int (a - 3840)), (1, .int 12), (2, .int 15)], [.int 15, .int (a - 3840)], (q_cM (q_uA (q_uA q_AM 33 f) 32 g) I q_J0, 34, 31630))) 2 (fun _ _ => rfl) ?_
                          refine q_Ru_rsT (g2 := (14, [(0, .int (a - 3840)), (1, .int 12), (2, .int 15)], [], (q_cM (q_uA (q_uA q_AM 33 f) 32 g) I q_J0, 34, 31630))) rfl rfl h155 ?_
                          refine q_Ru_seg (g2 := (15, [(0, .int (a - 3840)), (1, .int 12), (2, .int 15)], [.int 0], (q_cM (q_uA (q_uA q_AM 33 f) 32 g) I q_J0, 34, 31630))) 1 (fun _ _ => rfl) ?_
                          exact q_Ru_ret rfl rfl
                        show q_Ru _ _ _ (33, [(0, .ref 64), (1, .int (a - 3840))], [.int 0], (q_cM (q_uA (q_uA q_AM 33 f) 32 g) I q_J0, 34, 31630)) _
                        refine q_Ru_seg (g2 := (83, [(0, .ref 64), (1, .int (a - 3840))], [.int 29, .int (a - 3840)], (q_cM (q_uA (q_uA q_AM 33 f) 32 g) I q_J0, 34, 31630))) 3 (fun _ _ => rfl) ?_
                        refine q_Ru_rsT (g2 := (94, [(0, .ref 64), (1, .int (a - 3840))], [], (q_cM (q_uA (q_uA q_AM 33 f) 32 g) I q_J0, 34, 31630))) rfl rfl (q_d_neF h156) ?_
                        refine q_Ru_seg (g2 := (97, [(0, .ref 64), (1, .int (a - 3840))], [.int 30, .int (a - 3840)], (q_cM (q_uA (q_uA q_AM 33 f) 32 g) I q_J0, 34, 31630))) 2 (fun _ _ => rfl) ?_
                        refine q_Ru_rsT (g2 := (108, [(0, .ref 64), (1, .int (a - 3840))], [], (q_cM (q_uA (q_uA q_AM 33 f) 32 g) I q_J0, 34, 31630))) rfl rfl (q_d_neF h157) ?_
                        refine q_Ru_seg (g2 := (111, [(0, .ref 64), (1, .int (a - 3840))], [.int 31, .int (a - 3840)], (q_cM (q_uA (q_uA q_AM 33 f) 32 g) I q_J0, 34, 31630))) 2 (fun _ _ => rfl) ?_
                        refine q_Ru_rsT (g2 := (137, [(0, .ref 64), (1, .int (a - 3840))], [], (q_cM (q_uA (q_uA q_AM 33 f) 32 g) I q_J0, 34, 31630))) rfl rfl (q_d_neF h158) ?_
                        refine q_Ru_seg (g2 := (140, [(0, .ref 64), (1, .int (a - 3840))], [.int 44, .int (a - 3840)], (q_cM (q_uA (q_uA q_AM 33 f) 32 g) I q_J0, 34, 31630))) 2 (fun _ _ => rfl) ?_
                        refine q_Ru_rsF (g2 := (143, [(0, .ref 64), (1, .int (a - 3840))], [], (q_cM (q_uA (q_uA q_AM 33 f) 32 g) I q_J0, 34, 31630))) rfl rfl (q_d_neT h159) ?_
                        refine q_Ru_seg (g2 := (150, [(0, .ref 64), (1, .int (a - 3840))], [.int 0], (q_cM (q_uA (q_uA q_AM 33 f) 32 g) I q_J0, 34, 31630))) 4 (fun _ _ => rfl) ?_
                        refine q_Ru_seg (g2 := (158, [(0, .ref 64), (1, .int (a - 3840))], [.int 0, .int 2, .int 0], (q_cM (q_uA (q_uA q_AM 33 f) 32 g) I q_J0, 34, 31630))) 5 (fun _ _ => rfl) ?_
                        refine q_Ru_seg (g2 := (161, [(0, .ref 64), (1, .int (a - 3840))], [.ref 64, .int 0], (q_cM (q_uA (q_uA q_AM 33 f) 32 g) I q_J0, 34, 31630))) 3 (fun _ _ => rfl) ?_
                        refine q_Ru_call (v := (some (.int 0))) (h2 := (q_cM (q_uA (q_uA q_AM 33 f) 32 g) I q_J0, 34, 31630)) rfl rfl ?_ ?_
                        · refine q_Ca_of (Nat.le_of_ble_eq_true rfl) ?_
                          refine q_Ru_seg (g2 := (7, [(0, .ref 64)], [.int 0], (q_cM (q_uA (q_uA q_AM 33 f) 32 g) I q_J0, 34, 31630))) 4 (fun _ _ => rfl) ?_
                          refine q_Ru_seg (g2 := (14, [(0, .ref 64)], [.int 0, .int 0], (q_cM (q_uA (q_uA q_AM 33 f) 32 g) I q_J0, 34, 31630))) 4 (fun _ _ => rfl) ?_
                          refine q_Ru_seg (g2 := (22, [(0, .ref 64)], [.int 0], (q_cM (q_uA (q_uA q_AM 33 f) 32 g) I q_J0, 34, 31630))) 2 (fun _ _ => rfl) ?_
                          exact q_Ru_ret rfl rfl
                        show q_Ru _ _ _ (164, [(0, .ref 64), (1, .int (a - 3840))], [.int 0, .int 0], (q_cM (q_uA (q_uA q_AM 33 f) 32 g) I q_J0, 34, 31630)) _
                        refine q_Ru_seg (g2 := (173, [(0, .ref 64), (1, .int (a - 3840))], [.int 0], (q_cM (q_uA (q_uA q_AM 33 f) 32 g) I q_J0, 34, 31630))) 3 (fun _ _ => rfl) ?_
                        exact q_Ru_ret rfl rfl
                      show q_Ru _ _ _ (22, [(0, .ref 64), (1, .int a)], [.int 0], (q_cM (q_uA (q_uA q_AM 33 f) 32 g) I q_J0, 34, 31630)) _
                      exact q_Ru_ret rfl rfl
                    | false =>
                      cases h160 : decide (44 < a - 3840) with
                      | true =>
                        refine ⟨f, ?_⟩
                        refine q_Ca_of (Nat.le_of_ble_eq_true rfl) ?_
                        refine q_Ru_seg (g2 := (7, [(0, .ref 64), (1, .int a)], [.int 3887, .int 3840, .int a], (q_cM (q_uA (q_uA q_AM 33 f) 32 g) I q_J0, 34, 31630))) 3 (fun _ _ => rfl) ?_
                        refine q_Ru_call (v := (some (.int 1))) (h2 := (q_cM (q_uA (q_uA q_AM 33 f) 32 g) I q_J0, 34, 31630)) rfl rfl ?_ ?_
                        · refine q_Ca_of (Nat.le_of_ble_eq_true rfl) ?_
                          refine q_Ru_seg (g2 := (2, [(0, .int a), (1, .int 3840), (2, .int 3887)], [.int 3840, .int a], (q_cM (q_uA (q_uA q_AM 33 f) 32 g) I q_J0, 34, 31630))) 2 (fun _ _ => rfl) ?_
                          refine q_Ru_rsF (g2 := (5, [(0, .int a), (1, .int 3840), (2, .int 3887)], [], (q_cM (q_uA (q_uA q_AM 33 f) 32 g) I q_J0, 34, 31630))) rfl rfl h133 ?_
                          refine q_Ru_seg (g2 := (7, [(0, .int a), (1, .int 3840), (2, .int 3887)], [.int 3887, .int a], (q_cM (q_uA (q_uA q_AM 33 f) 32 g) I q_J0, 34, 31630))) 2 (fun _ _ => rfl) ?_
                          refine q_Ru_rsF (g2 := (10, [(0, .int a), (1, .int 3840), (2, .int 3887)], [], (q_cM (q_uA (q_uA q_AM 33 f) 32 g) I q_J0, 34, 31630))) rfl rfl h142 ?_
                          refine q_Ru_seg (g2 := (15, [(0, .int a), (1, .int 3840), (2, .int 3887)], [.int 1], (q_cM (q_uA (q_uA q_AM 33 f) 32 g) I q_J0, 34, 31630))) 2 (fun _ _ => rfl) ?_
                          exact q_Ru_ret rfl rfl
                        show q_Ru _ _ _ (10, [(0, .ref 64), (1, .int a)], [.int 1], (q_cM (q_uA (q_uA q_AM 33 f) 32 g) I q_J0, 34, 31630)) _
                        refine q_Ru_seg (g2 := (19, [(0, .ref 64), (1, .int a)], [.int (a - 3840), .ref 64], (q_cM (q_uA (q_uA q_AM 33 f) 32 g) I q_J0, 34, 31630))) 5 (fun _ _ => rfl) ?_
                        refine q_Ru_call (v := (some (.int 0))) (h2 := (q_cM (q_uA (q_uA q_AM 33 f) 32 g) I q_J0, 34, 31630)) rfl rfl ?_ ?_
                        · refine q_Ca_of (Nat.le_of_ble_eq_true rfl) ?_
                          refine q_Ru_seg (g2 := (3, [(0, .ref 64), (1, .int (a - 3840))], [.int 9, .int (a - 3840)], (q_cM (q_uA (q_uA q_AM 33 f) 32 g) I q_J0, 34, 31630))) 2 (fun _ _ => rfl) ?_
                          refine q_Ru_rsT (g2 := (11, [(0, .ref 64), (1, .int (a - 3840))], [], (q_cM (q_uA (q_uA q_AM 33 f) 32 g) I q_J0, 34, 31630))) rfl rfl (q_d_neF h147) ?_
                          refine q_Ru_seg (g2 := (14, [(0, .ref 64), (1, .int (a - 3840))], [.int 10, .int (a - 3840)], (q_cM (q_uA (q_uA q_AM 33 f) 32 g) I q_J0, 34, 31630))) 2 (fun _ _ => rfl) ?_
                          refine q_Ru_rsT (g2 := (25, [(0, .ref 64), (1, .int (a - 3840))], [], (q_cM (q_uA (q_uA q_AM 33 f) 32 g) I q_J0, 34, 31630))) rfl rfl (q_d_neF h148) ?_
                          refine q_Ru_seg (g2 := (30, [(0, .ref 64), (1, .int (a - 3840))], [.int 15, .int 12, .int (a - 3840)], (q_cM (q_uA (q_uA q_AM 33 f) 32 g) I q_J0, 34, 31630))) 3 (fun _ _ => rfl) ?_
                          refine q_Ru_call (v := (some (.int 0))) (h2 := (q_cM (q_uA (q_uA q_AM 33 f) 32 g) I q_J0, 34, 31630)) rfl rfl ?_ ?_
                          · refine q_Ca_of (Nat.le_of_ble_eq_true rfl) ?_
                            refine q_Ru_seg (g2 := (2, [(0, .int (a - 3840)), (1, .int 12), (2, .int 15)], [.int 12, .int (a - 3840)], (q_cM (q_uA (q_uA q_AM 33 f) 32 g) I q_J0, 34, 31630))) 2 (fun _ _ => rfl) ?_
                            refine q_Ru_rsF (g2 := (5, [(0, .int (a - 3840)), (1, .int 12), (2, .int 15)], [], (q_cM (q_uA (q_uA q_AM 33 f) 32 g) I q_J0, 34, 31630))) rfl rfl h149 ?_
                            refine q_Ru_seg (g2 := (7, [(0, .int (a - 3840)), (1, .int 12), (2, .int 15)], [.int 15, .int (a - 3840)], (q_cM (q_uA (q_uA q_AM 33 f) 32 g) I q_J0, 34, 31630))) 2 (fun _ _ => rfl) ?_
                            refine q_Ru_rsT (g2 := (14, [(0, .int (a - 3840)), (1, .int 12), (2, .int 15)], [], (q_cM (q_uA (q_uA q_AM 33 f) 32 g) I q_J0, 34, 31630))) rfl rfl h155 ?_
                            refine q_Ru_seg (g2 := (15, [(0, .int (a - 3840)), (1, .int 12), (2, .int 15)], [.int 0], (q_cM (q_uA (q_uA q_AM 33 f) 32 g) I q_J0, 34, 31630))) 1 (fun _ _ => rfl) ?_
                            exact q_Ru_ret rfl rfl
                          show q_Ru _ _ _ (33, [(0, .ref 64), (1, .int (a - 3840))], [.int 0], (q_cM (q_uA (q_uA q_AM 33 f) 32 g) I q_J0, 34, 31630)) _
                          refine q_Ru_seg (g2 := (83, [(0, .ref 64), (1, .int (a - 3840))], [.int 29, .int (a - 3840)], (q_cM (q_uA (q_uA q_AM 33 f) 32 g) I q_J0, 34, 31630))) 3 (fun _ _ => rfl) ?_
                          refine q_Ru_rsT (g2 := (94, [(0, .ref 64), (1, .int (a - 3840))], [], (q_cM (q_uA (q_uA q_AM 33 f) 32 g) I q_J0, 34, 31630))) rfl rfl (q_d_neF h156) ?_
                          refine q_Ru_seg (g2 := (97, [(0, .ref 64), (1, .int (a - 3840))], [.int 30, .int (a - 3840)], (q_cM (q_uA (q_uA q_AM 33 f) 32 g) I q_J0, 34, 31630))) 2 (fun _ _ => rfl) ?_
                          refine q_Ru_rsT (g2 := (108, [(0, .ref 64), (1, .int (a - 3840))], [], (q_cM (q_uA (q_uA q_AM 33 f) 32 g) I q_J0, 34, 31630))) rfl rfl (q_d_neF h157) ?_
                          refine q_Ru_seg (g2 := (111, [(0, .ref 64), (1, .int (a - 3840))], [.int 31, .int (a - 3840)], (q_cM (q_uA (q_uA q_AM 33 f) 32 g) I q_J0, 34, 31630))) 2 (fun _ _ => rfl) ?_
                          refine q_Ru_rsT (g2 := (137, [(0, .ref 64), (1, .int (a - 3840))], [], (q_cM (q_uA (q_uA q_AM 33 f) 32 g) I q_J0, 34, 31630))) rfl rfl (q_d_neF h158) ?_
                          refine q_Ru_seg (g2 := (140, [(0, .ref 64), (1, .int (a - 3840))], [.int 44, .int (a - 3840)], (q_cM (q_uA (q_uA q_AM 33 f) 32 g) I q_J0, 34, 31630))) 2 (fun _ _ => rfl) ?_
                          refine q_Ru_rsT (g2 := (174, [(0, .ref 64), (1, .int (a - 3840))], [], (q_cM (q_uA (q_uA q_AM 33 f) 32 g) I q_J0, 34, 31630))) rfl rfl (q_d_neF h159) ?_
                          refine q_Ru_seg (g2 := (177, [(0, .ref 64), (1, .int (a - 3840))], [.int 44, .int (a - 3840)], (q_cM (q_uA (q_uA q_AM 33 f) 32 g) I q_J0, 34, 31630))) 2 (fun _ _ => rfl) ?_
                          refine q_Ru_rsF (g2 := (180, [(0, .ref 64), (1, .int (a - 3840))], [], (q_cM (q_uA (q_uA q_AM 33 f) 32 g) I q_J0, 34, 31630))) rfl rfl (q_d_geT h160) ?_
                          refine q_Ru_seg (g2 := (190, [(0, .ref 64), (1, .int (a - 3840))], [.int 0], (q_cM (q_uA (q_uA q_AM 33 f) 32 g) I q_J0, 34, 31630))) 2 (fun _ _ => rfl) ?_
                          exact q_Ru_ret rfl rfl
                        show q_Ru _ _ _ (22, [(0, .ref 64), (1, .int a)], [.int 0], (q_cM (q_uA (q_uA q_AM 33 f) 32 g) I q_J0, 34, 31630)) _
                        exact q_Ru_ret rfl rfl
                      | false =>
                        refine ⟨f, ?_⟩
                        refine q_Ca_of (Nat.le_of_ble_eq_true rfl) ?_
                        refine q_Ru_seg (g2 := (7, [(0, .ref 64), (1, .int a)], [.int 3887, .int 3840, .int a], (q_cM (q_uA (q_uA q_AM 33 f) 32 g) I q_J0, 34, 31630))) 3 (fun _ _ => rfl) ?_
                        refine q_Ru_call (v := (some (.int 1))) (h2 := (q_cM (q_uA (q_uA q_AM 33 f) 32 g) I q_J0, 34, 31630)) rfl rfl ?_ ?_
                        · refine q_Ca_of (Nat.le_of_ble_eq_true rfl) ?_
                          refine q_Ru_seg (g2 := (2, [(0, .int a), (1, .int 3840), (2, .int 3887)], [.int 3840, .int a], (q_cM (q_uA (q_uA q_AM 33 f) 32 g) I q_J0, 34, 31630))) 2 (fun _ _ => rfl) ?_
                          refine q_Ru_rsF (g2 := (5, [(0, .int a), (1, .int 3840), (2, .int 3887)], [], (q_cM (q_uA (q_uA q_AM 33 f) 32 g) I q_J0, 34, 31630))) rfl rfl h133 ?_
                          refine q_Ru_seg (g2 := (7, [(0, .int a), (1, .int 3840), (2, .int 3887)], [.int 3887, .int a], (q_cM (q_uA (q_uA q_AM 33 f) 32 g) I q_J0, 34, 31630))) 2 (fun _ _ => rfl) ?_
                          refine q_Ru_rsF (g2 := (10, [(0, .int a), (1, .int 3840), (2, .int 3887)], [], (q_cM (q_uA (q_uA q_AM 33 f) 32 g) I q_J0, 34, 31630))) rfl rfl h142 ?_
                          refine q_Ru_seg (g2 := (15, [(0, .int a), (1, .int 3840), (2, .int 3887)], [.int 1], (q_cM (q_uA (q_uA q_AM 33 f) 32 g) I q_J0, 34, 31630))) 2 (fun _ _ => rfl) ?_
                          exact q_Ru_ret rfl rfl
                        show q_Ru _ _ _ (10, [(0, .ref 64), (1, .int a)], [.int 1], (q_cM (q_uA (q_uA q_AM 33 f) 32 g) I q_J0, 34, 31630)) _
                        refine q_Ru_seg (g2 := (19, [(0, .ref 64), (1, .int a)], [.int (a - 3840), .ref 64], (q_cM (q_uA (q_uA q_AM 33 f) 32 g) I q_J0, 34, 31630))) 5 (fun _ _ => rfl) ?_
                        refine q_Ru_call (v := (some (.int 0))) (h2 := (q_cM (q_uA (q_uA q_AM 33 f) 32 g) I q_J0, 34, 31630)) rfl rfl ?_ ?_
                        · refine q_Ca_of (Nat.le_of_ble_eq_true rfl) ?_
                          refine q_Ru_seg (g2 := (3, [(0, .ref 64), (1, .int (a - 3840))], [.int 9, .int (a - 3840)], (q_cM (q_uA (q_uA q_AM 33 f) 32 g) I q_J0, 34, 31630))) 2 (fun _ _ => rfl) ?_
                          refine q_Ru_rsT (g2 := (11, [(0, .ref 64), (1, .int (a - 3840))], [], (q_cM (q_uA (q_uA q_AM 33 f) 32 g) I q_J0, 34, 31630))) rfl rfl (q_d_neF h147) ?_
                          refine q_Ru_seg (g2 := (14, [(0, .ref 64), (1, .int (a - 3840))], [.int 10, .int (a - 3840)], (q_cM (q_uA (q_uA q_AM 33 f) 32 g) I q_J0, 34, 31630))) 2 (fun _ _ => rfl) ?_
                          refine q_Ru_rsT (g2 := (25, [(0, .ref 64), (1, .int (a - 3840))], [], (q_cM (q_uA (q_uA q_AM 33 f) 32 g) I q_J0, 34, 31630))) rfl rfl (q_d_neF h148) ?_
                          refine q_Ru_seg (g2 := (30, [(0, .ref 64), (1, .int (a - 3840))], [.int 15, .int 12, .int (a - 3840)], (q_cM (q_uA (q_uA q_AM 33 f) 32 g) I q_J0, 34, 31630))) 3 (fun _ _ => rfl) ?_
                          refine q_Ru_call (v := (some (.int 0))) (h2 := (q_cM (q_uA (q_uA q_AM 33 f) 32 g) I q_J0, 34, 31630)) rfl rfl ?_ ?_
                          · refine q_Ca_of (Nat.le_of_ble_eq_true rfl) ?_
                            refine q_Ru_seg (g2 := (2, [(0, .int (a - 3840)), (1, .int 12), (2, .int 15)], [.int 12, .int (a - 3840)], (q_cM (q_uA (q_uA q_AM 33 f) 32 g) I q_J0, 34, 31630))) 2 (fun _ _ => rfl) ?_
                            refine q_Ru_rsF (g2 := (5, [(0, .int (a - 3840)), (1, .int 12), (2, .int 15)], [], (q_cM (q_uA (q_uA q_AM 33 f) 32 g) I q_J0, 34, 31630))) rfl rfl h149 ?_
                            refine q_Ru_seg (g2 := (7, [(0, .int (a - 3840)), (1, .int 12), (2, .int 15)], [.int 15, .int (a - 3840)], (q_cM (q_uA (q_uA q_AM 33 f) 32 g) I q_J0, 34, 31630))) 2 (fun _ _ => rfl) ?_
                            refine q_Ru_rsT (g2 := (14, [(0, .int (a - 3840)), (1, .int 12), (2, .int 15)], [], (q_cM (q_uA (q_uA q_AM 33 f) 32 g) I q_J0, 34, 31630))) rfl rfl h155 ?_
                            refine q_Ru_seg (g2 := (15, [(0, .int (a - 3840)), (1, .int 12), (2, .int 15)], [.int 0], (q_cM (q_uA (q_uA q_AM 33 f) 32 g) I q_J0, 34, 31630))) 1 (fun _ _ => rfl) ?_
                            exact q_Ru_ret rfl rfl
                          show q_Ru _ _ _ (33, [(0, .ref 64), (1, .int (a - 3840))], [.int 0], (q_cM (q_uA (q_uA q_AM 33 f) 32 g) I q_J0, 34, 31630)) _
                          refine q_Ru_seg (g2 := (83, [(0, .ref 64), (1, .int (a - 3840))], [.int 29, .int (a - 3840)], (q_cM (q_uA (q_uA q_AM 33 f) 32 g) I q_J0, 34, 31630))) 3 (fun _ _ => rfl) ?_
                          refine q_Ru_rsT (g2 := (94, [(0, .ref 64), (1, .int (a - 3840))], [], (q_cM (q_uA (q_uA q_AM 33 f) 32 g) I q_J0, 34, 31630))) rfl rfl (q_d_neF h156) ?_
                          refine q_Ru_seg (g2 := (97, [(0, .ref 64), (1, .int (a - 3840))], [.int 30, .int (a - 3840)], (q_cM (q_uA (q_uA q_AM 33 f) 32 g) I q_J0, 34, 31630))) 2 (fun _ _ => rfl) ?_
                          refine q_Ru_rsT (g2 := (108, [(0, .ref 64), (1, .int (a - 3840))], [], (q_cM (q_uA (q_uA q_AM 33 f) 32 g) I q_J0, 34, 31630))) rfl rfl (q_d_neF h157) ?_
                          refine q_Ru_seg (g2 := (111, [(0, .ref 64), (1, .int (a - 3840))], [.int 31, .int (a - 3840)], (q_cM (q_uA (q_uA q_AM 33 f) 32 g) I q_J0, 34, 31630))) 2 (fun _ _ => rfl) ?_
                          refine q_Ru_rsT (g2 := (137, [(0, .ref 64), (1, .int (a - 3840))], [], (q_cM (q_uA (q_uA q_AM 33 f) 32 g) I q_J0, 34, 31630))) rfl rfl (q_d_neF h158) ?_
                          refine q_Ru_seg (g2 := (140, [(0, .ref 64), (1, .int (a - 3840))], [.int 44, .int (a - 3840)], (q_cM (q_uA (q_uA q_AM 33 f) 32 g) I q_J0, 34, 31630))) 2 (fun _ _ => rfl) ?_
                          refine q_Ru_rsT (g2 := (174, [(0, .ref 64), (1, .int (a - 3840))], [], (q_cM (q_uA (q_uA q_AM 33 f) 32 g) I q_J0, 34, 31630))) rfl rfl (q_d_neF h159) ?_
                          refine q_Ru_seg (g2 := (177, [(0, .ref 64), (1, .int (a - 3840))], [.int 44, .int (a - 3840)], (q_cM (q_uA (q_uA q_AM 33 f) 32 g) I q_J0, 34, 31630))) 2 (fun _ _ => rfl) ?_
                          refine q_Ru_rsT (g2 := (184, [(0, .ref 64), (1, .int (a - 3840))], [], (q_cM (q_uA (q_uA q_AM 33 f) 32 g) I q_J0, 34, 31630))) rfl rfl (q_d_geF h160) ?_
                          refine q_Ru_seg (g2 := (189, [(0, .ref 64), (1, .int (a - 3840))], [.int (a - 3840), .ref 68], (q_cM (q_uA (q_uA q_AM 33 f) 32 g) I q_J0, 34, 31630))) 3 (fun _ _ => rfl) ?_
                          refine q_Ru_rsT (g2 := (190, [(0, .ref 64), (1, .int (a - 3840))], [.int 0], (q_cM (q_uA (q_uA q_AM 33 f) 32 g) I q_J0, 34, 31630))) rfl rfl (q_in_bd (x := a - 3840) (n := 48) (U := 44) (L := 16) (q_sub_lo9 16 (q_sub_lo 3856 (q_lo2 h155) (q_sub_lo 3852 (q_lo1 h149) (q_lo1 h133) (q_hi2 h142)) (q_hi2 h142)) (q_sub_hi 3884 (q_hi2 h160) (q_sub_lo 3856 (q_lo2 h155) (q_sub_lo 3852 (q_lo1 h149) (q_lo1 h133) (q_hi2 h142)) (q_hi2 h142)) (q_hi2 h142))) (q_sub_hi9 44 (q_sub_lo 3856 (q_lo2 h155) (q_sub_lo 3852 (q_lo1 h149) (q_lo1 h133) (q_hi2 h142)) (q_hi2 h142)) (q_sub_hi 3884 (q_hi2 h160) (q_sub_lo 3856 (q_lo2 h155) (q_sub_lo 3852 (q_lo1 h149) (q_lo1 h133) (q_hi2 h142)) (q_hi2 h142)) (q_hi2 h142)))) ?_
                          exact q_Ru_ret rfl rfl
                        show q_Ru _ _ _ (22, [(0, .ref 64), (1, .int a)], [.int 0], (q_cM (q_uA (q_uA q_AM 33 f) 32 g) I q_J0, 34, 31630)) _
                        exact q_Ru_ret rfl rfl
            | false =>
              cases h161 : decide ((a - 3840) - (a - 3840) / 2 * 2 = 0) with
              | true =>
                obtain ⟨j162, g162, e162⟩ := q_en (l := 3852) (n := 3) (q_sub_lo 3852 (q_lo1 h149) (q_lo1 h133) (q_hi2 h142)) (q_sub_hi 3855 (q_hi2 h155) (q_sub_lo 3852 (q_lo1 h149) (q_lo1 h133) (q_hi2 h142)) (q_hi2 h142))
                match j162, g162, e162 with
                | 0, _, e162 =>
                  have e162 : a = 3852 := e162
                  subst e162
                  refine ⟨f, ?_⟩
                  refine q_Ca_of (Nat.le_of_ble_eq_true rfl) ?_
                  refine q_Ru_seg (g2 := (7, [(0, .ref 64), (1, .int 3852)], [.int 3887, .int 3840, .int 3852], (q_cM (q_uA (q_uA q_AM 33 f) 32 g) I q_J0, 34, 31630))) 3 (fun _ _ => rfl) ?_
                  refine q_Ru_call (v := (some (.int 1))) (h2 := (q_cM (q_uA (q_uA q_AM 33 f) 32 g) I q_J0, 34, 31630)) rfl rfl ?_ ?_
                  · refine q_Ca_of (Nat.le_of_ble_eq_true rfl) ?_
                    refine q_Ru_seg (g2 := (15, [(0, .int 3852), (1, .int 3840), (2, .int 3887)], [.int 1], (q_cM (q_uA (q_uA q_AM 33 f) 32 g) I q_J0, 34, 31630))) 8 (fun _ _ => rfl) ?_
                    exact q_Ru_ret rfl rfl
                  show q_Ru _ _ _ (10, [(0, .ref 64), (1, .int 3852)], [.int 1], (q_cM (q_uA (q_uA q_AM 33 f) 32 g) I q_J0, 34, 31630)) _
                  refine q_Ru_seg (g2 := (19, [(0, .ref 64), (1, .int 3852)], [.int 12, .ref 64], (q_cM (q_uA (q_uA q_AM 33 f) 32 g) I q_J0, 34, 31630))) 5 (fun _ _ => rfl) ?_
                  refine q_Ru_call (v := (some (.int 0))) (h2 := (q_cM (q_uA (q_uA q_AM 33 f) 32 g) I q_J0, 34, 31630)) rfl rfl ?_ ?_
                  · refine q_Ca_of (Nat.le_of_ble_eq_true rfl) ?_
                    refine q_Ru_seg (g2 := (30, [(0, .ref 64), (1, .int 12)], [.int 15, .int 12, .int 12], (q_cM (q_uA (q_uA q_AM 33 f) 32 g) I q_J0, 34, 31630))) 9 (fun _ _ => rfl) ?_
                    refine q_Ru_call (v := (some (.int 1))) (h2 := (q_cM (q_uA (q_uA q_AM 33 f) 32 g) I q_J0, 34, 31630)) rfl rfl ?_ ?_
                    · refine q_Ca_of (Nat.le_of_ble_eq_true rfl) ?_
                      refine q_Ru_seg (g2 := (15, [(0, .int 12), (1, .int 12), (2, .int 15)], [.int 1], (q_cM (q_uA (q_uA q_AM 33 f) 32 g) I q_J0, 34, 31630))) 8 (fun _ _ => rfl) ?_
                      exact q_Ru_ret rfl rfl
                    show q_Ru _ _ _ (33, [(0, .ref 64), (1, .int 12)], [.int 1], (q_cM (q_uA (q_uA q_AM 33 f) 32 g) I q_J0, 34, 31630)) _
                    refine q_Ru_seg (g2 := (55, [(0, .ref 64), (1, .int 12)], [.int 0], (q_cM (q_uA (q_uA q_AM 33 f) 32 g) I q_J0, 34, 31630))) 15 (fun _ _ => rfl) ?_
                    refine q_Ru_seg (g2 := (79, [(0, .ref 64), (1, .int 12)], [.int 0], (q_cM (q_uA (q_uA q_AM 33 f) 32 g) I q_J0, 34, 31630))) 3 (fun _ _ => rfl) ?_
                    exact q_Ru_ret rfl rfl
                  show q_Ru _ _ _ (22, [(0, .ref 64), (1, .int 3852)], [.int 0], (q_cM (q_uA (q_uA q_AM 33 f) 32 g) I q_J0, 34, 31630)) _
                  exact q_Ru_ret rfl rfl
                | 1, _, e162 =>
                  have e162 : a = 3853 := e162
                  subst e162
                  refine ⟨f, ?_⟩
                  refine q_Ca_of (Nat.le_of_ble_eq_true rfl) ?_
                  refine q_Ru_seg (g2 := (7, [(0, .ref 64), (1, .int 3853)], [.int 3887, .int 3840, .int 3853], (q_cM (q_uA (q_uA q_AM 33 f) 32 g) I q_J0, 34, 31630))) 3 (fun _ _ => rfl) ?_
                  refine q_Ru_call (v := (some (.int 1))) (h2 := (q_cM (q_uA (q_uA q_AM 33 f) 32 g) I q_J0, 34, 31630)) rfl rfl ?_ ?_
                  · refine q_Ca_of (Nat.le_of_ble_eq_true rfl) ?_
                    refine q_Ru_seg (g2 := (15, [(0, .int 3853), (1, .int 3840), (2, .int 3887)], [.int 1], (q_cM (q_uA (q_uA q_AM 33 f) 32 g) I q_J0, 34, 31630))) 8 (fun _ _ => rfl) ?_
                    exact q_Ru_ret rfl rfl
                  show q_Ru _ _ _ (10, [(0, .ref 64), (1, .int 3853)], [.int 1], (q_cM (q_uA (q_uA q_AM 33 f) 32 g) I q_J0, 34, 31630)) _
                  refine q_Ru_seg (g2 := (19, [(0, .ref 64), (1, .int 3853)], [.int 13, .ref 64], (q_cM (q_uA (q_uA q_AM 33 f) 32 g) I q_J0, 34, 31630))) 5 (fun _ _ => rfl) ?_
                  refine q_Ru_call (v := (some (.int 0))) (h2 := (q_cM (q_uA (q_uA q_AM 33 f) 32 g) I q_J0, 34, 31630)) rfl rfl ?_ ?_
                  · refine q_Ca_of (Nat.le_of_ble_eq_true rfl) ?_
                    refine q_Ru_seg (g2 := (30, [(0, .ref 64), (1, .int 13)], [.int 15, .int 12, .int 13], (q_cM (q_uA (q_uA q_AM 33 f) 32 g) I q_J0, 34, 31630))) 9 (fun _ _ => rfl) ?_
                    refine q_Ru_call (v := (some (.int 1))) (h2 := (q_cM (q_uA (q_uA q_AM 33 f) 32 g) I q_J0, 34, 31630)) rfl rfl ?_ ?_
                    · refine q_Ca_of (Nat.le_of_ble_eq_true rfl) ?_
                      refine q_Ru_seg (g2 := (15, [(0, .int 13), (1, .int 12), (2, .int 15)], [.int 1], (q_cM (q_uA (q_uA q_AM 33 f) 32 g) I q_J0, 34, 31630))) 8 (fun _ _ => rfl) ?_
                      exact q_Ru_ret rfl rfl
                    show q_Ru _ _ _ (33, [(0, .ref 64), (1, .int 13)], [.int 1], (q_cM (q_uA (q_uA q_AM 33 f) 32 g) I q_J0, 34, 31630)) _
                    refine q_Ru_seg (g2 := (71, [(0, .ref 64), (1, .int 13)], [.int 0], (q_cM (q_uA (q_uA q_AM 33 f) 32 g) I q_J0, 34, 31630))) 15 (fun _ _ => rfl) ?_
                    refine q_Ru_seg (g2 := (79, [(0, .ref 64), (1, .int 13)], [.int 0], (q_cM (q_uA (q_uA q_AM 33 f) 32 g) I q_J0, 34, 31630))) 4 (fun _ _ => rfl) ?_
                    exact q_Ru_ret rfl rfl
                  show q_Ru _ _ _ (22, [(0, .ref 64), (1, .int 3853)], [.int 0], (q_cM (q_uA (q_uA q_AM 33 f) 32 g) I q_J0, 34, 31630)) _
                  exact q_Ru_ret rfl rfl
                | 2, _, e162 =>
                  have e162 : a = 3854 := e162
                  subst e162
                  refine ⟨f, ?_⟩
                  refine q_Ca_of (Nat.le_of_ble_eq_true rfl) ?_
                  refine q_Ru_seg (g2 := (7, [(0, .ref 64), (1, .int 3854)], [.int 3887, .int 3840, .int 3854], (q_cM (q_uA (q_uA q_AM 33 f) 32 g) I q_J0, 34, 31630))) 3 (fun _ _ => rfl) ?_
                  refine q_Ru_call (v := (some (.int 1))) (h2 := (q_cM (q_uA (q_uA q_AM 33 f) 32 g) I q_J0, 34, 31630)) rfl rfl ?_ ?_
                  · refine q_Ca_of (Nat.le_of_ble_eq_true rfl) ?_
                    refine q_Ru_seg (g2 := (15, [(0, .int 3854), (1, .int 3840), (2, .int 3887)], [.int 1], (q_cM (q_uA (q_uA q_AM 33 f) 32 g) I q_J0, 34, 31630))) 8 (fun _ _ => rfl) ?_
                    exact q_Ru_ret rfl rfl
                  show q_Ru _ _ _ (10, [(0, .ref 64), (1, .int 3854)], [.int 1], (q_cM (q_uA (q_uA q_AM 33 f) 32 g) I q_J0, 34, 31630)) _
                  refine q_Ru_seg (g2 := (19, [(0, .ref 64), (1, .int 3854)], [.int 14, .ref 64], (q_cM (q_uA (q_uA q_AM 33 f) 32 g) I q_J0, 34, 31630))) 5 (fun _ _ => rfl) ?_
                  refine q_Ru_call (v := (some (.int 0))) (h2 := (q_cM (q_uA (q_uA q_AM 33 f) 32 g) I q_J0, 34, 31630)) rfl rfl ?_ ?_
                  · refine q_Ca_of (Nat.le_of_ble_eq_true rfl) ?_
                    refine q_Ru_seg (g2 := (30, [(0, .ref 64), (1, .int 14)], [.int 15, .int 12, .int 14], (q_cM (q_uA (q_uA q_AM 33 f) 32 g) I q_J0, 34, 31630))) 9 (fun _ _ => rfl) ?_
                    refine q_Ru_call (v := (some (.int 1))) (h2 := (q_cM (q_uA (q_uA q_AM 33 f) 32 g) I q_J0, 34, 31630)) rfl rfl ?_ ?_
                    · refine q_Ca_of (Nat.le_of_ble_eq_true rfl) ?_
                      refine q_Ru_seg (g2 := (15, [(0, .int 14), (1, .int 12), (2, .int 15)], [.int 1], (q_cM (q_uA (q_uA q_AM 33 f) 32 g) I q_J0, 34, 31630))) 8 (fun _ _ => rfl) ?_
                      exact q_Ru_ret rfl rfl
                    show q_Ru _ _ _ (33, [(0, .ref 64), (1, .int 14)], [.int 1], (q_cM (q_uA (q_uA q_AM 33 f) 32 g) I q_J0, 34, 31630)) _
                    refine q_Ru_seg (g2 := (55, [(0, .ref 64), (1, .int 14)], [.int 0], (q_cM (q_uA (q_uA q_AM 33 f) 32 g) I q_J0, 34, 31630))) 15 (fun _ _ => rfl) ?_
                    refine q_Ru_seg (g2 := (79, [(0, .ref 64), (1, .int 14)], [.int 0], (q_cM (q_uA (q_uA q_AM 33 f) 32 g) I q_J0, 34, 31630))) 3 (fun _ _ => rfl) ?_
                    exact q_Ru_ret rfl rfl
                  show q_Ru _ _ _ (22, [(0, .ref 64), (1, .int 3854)], [.int 0], (q_cM (q_uA (q_uA q_AM 33 f) 32 g) I q_J0, 34, 31630)) _
                  exact q_Ru_ret rfl rfl
                | 3, _, e162 =>
                  have e162 : a = 3855 := e162
                  subst e162
                  refine ⟨f, ?_⟩
                  refine q_Ca_of (Nat.le_of_ble_eq_true rfl) ?_
                  refine q_Ru_seg (g2 := (7, [(0, .ref 64), (1, .int 3855)], [.int 3887, .int 3840, .int 3855], (q_cM (q_uA (q_uA q_AM 33 f) 32 g) I q_J0, 34, 31630))) 3 (fun _ _ => rfl) ?_
                  refine q_Ru_call (v := (some (.int 1))) (h2 := (q_cM (q_uA (q_uA q_AM 33 f) 32 g) I q_J0, 34, 31630)) rfl rfl ?_ ?_
                  · refine q_Ca_of (Nat.le_of_ble_eq_true rfl) ?_
                    refine q_Ru_seg (g2 := (15, [(0, .int 3855), (1, .int 3840), (2, .int 3887)], [.int 1], (q_cM (q_uA (q_uA q_AM 33 f) 32 g) I q_J0, 34, 31630))) 8 (fun _ _ => rfl) ?_
                    exact q_Ru_ret rfl rfl
                  show q_Ru _ _ _ (10, [(0, .ref 64), (1, .int 3855)], [.int 1], (q_cM (q_uA (q_uA q_AM 33 f) 32 g) I q_J0, 34, 31630)) _
                  refine q_Ru_seg (g2 := (19, [(0, .ref 64), (1, .int 3855)], [.int 15, .ref 64], (q_cM (q_uA (q_uA q_AM 33 f) 32 g) I q_J0, 34, 31630))) 5 (fun _ _ => rfl) ?_
                  refine q_Ru_call (v := (some (.int 0))) (h2 := (q_cM (q_uA (q_uA q_AM 33 f) 32 g) I q_J0, 34, 31630)) rfl rfl ?_ ?_
                  · refine q_Ca_of (Nat.le_of_ble_eq_true rfl) ?_
                    refine q_Ru_seg (g2 := (30, [(0, .ref 64), (1, .int 15)], [.int 15, .int 12, .int 15], (q_cM (q_uA (q_uA q_AM 33 f) 32 g) I q_J0, 34, 31630))) 9 (fun _ _ => rfl) ?_
                    refine q_Ru_call (v := (some (.int 1))) (h2 := (q_cM (q_uA (q_uA q_AM 33 f) 32 g) I q_J0, 34, 31630)) rfl rfl ?_ ?_
                    · refine q_Ca_of (Nat.le_of_ble_eq_true rfl) ?_
                      refine q_Ru_seg (g2 := (15, [(0, .int 15), (1, .int 12), (2, .int 15)], [.int 1], (q_cM (q_uA (q_uA q_AM 33 f) 32 g) I q_J0, 34, 31630))) 8 (fun _ _ => rfl) ?_
                      exact q_Ru_ret rfl rfl
                    show q_Ru _ _ _ (33, [(0, .ref 64), (1, .int 15)], [.int 1], (q_cM (q_uA (q_uA q_AM 33 f) 32 g) I q_J0, 34, 31630)) _
                    refine q_Ru_seg (g2 := (71, [(0, .ref 64), (1, .int 15)], [.int 0], (q_cM (q_uA (q_uA q_AM 33 f) 32 g) I q_J0, 34, 31630))) 15 (fun _ _ => rfl) ?_
                    refine q_Ru_seg (g2 := (79, [(0, .ref 64), (1, .int 15)], [.int 0], (q_cM (q_uA (q_uA q_AM 33 f) 32 g) I q_J0, 34, 31630))) 4 (fun _ _ => rfl) ?_
                    exact q_Ru_ret rfl rfl
                  show q_Ru _ _ _ (22, [(0, .ref 64), (1, .int 3855)], [.int 0], (q_cM (q_uA (q_uA q_AM 33 f) 32 g) I q_J0, 34, 31630)) _
                  exact q_Ru_ret rfl rfl
                | j162 + 4, g162, _ => exact absurd g162 (by omega)
              | false =>
                obtain ⟨j163, g163, e163⟩ := q_en (l := 3852) (n := 3) (q_sub_lo 3852 (q_lo1 h149) (q_lo1 h133) (q_hi2 h142)) (q_sub_hi 3855 (q_hi2 h155) (q_sub_lo 3852 (q_lo1 h149) (q_lo1 h133) (q_hi2 h142)) (q_hi2 h142))
                match j163, g163, e163 with
                | 0, _, e163 =>
                  have e163 : a = 3852 := e163
                  subst e163
                  refine ⟨f, ?_⟩
                  refine q_Ca_of (Nat.le_of_ble_eq_true rfl) ?_
                  refine q_Ru_seg (g2 := (7, [(0, .ref 64), (1, .int 3852)], [.int 3887, .int 3840, .int 3852], (q_cM (q_uA (q_uA q_AM 33 f) 32 g) I q_J0, 34, 31630))) 3 (fun _ _ => rfl) ?_
                  refine q_Ru_call (v := (some (.int 1))) (h2 := (q_cM (q_uA (q_uA q_AM 33 f) 32 g) I q_J0, 34, 31630)) rfl rfl ?_ ?_
                  · refine q_Ca_of (Nat.le_of_ble_eq_true rfl) ?_
                    refine q_Ru_seg (g2 := (15, [(0, .int 3852), (1, .int 3840), (2, .int 3887)], [.int 1], (q_cM (q_uA (q_uA q_AM 33 f) 32 g) I q_J0, 34, 31630))) 8 (fun _ _ => rfl) ?_
                    exact q_Ru_ret rfl rfl
                  show q_Ru _ _ _ (10, [(0, .ref 64), (1, .int 3852)], [.int 1], (q_cM (q_uA (q_uA q_AM 33 f) 32 g) I q_J0, 34, 31630)) _
                  refine q_Ru_seg (g2 := (19, [(0, .ref 64), (1, .int 3852)], [.int 12, .ref 64], (q_cM (q_uA (q_uA q_AM 33 f) 32 g) I q_J0, 34, 31630))) 5 (fun _ _ => rfl) ?_
                  refine q_Ru_call (v := (some (.int 0))) (h2 := (q_cM (q_uA (q_uA q_AM 33 f) 32 g) I q_J0, 34, 31630)) rfl rfl ?_ ?_
                  · refine q_Ca_of (Nat.le_of_ble_eq_true rfl) ?_
                    refine q_Ru_seg (g2 := (30, [(0, .ref 64), (1, .int 12)], [.int 15, .int 12, .int 12], (q_cM (q_uA (q_uA q_AM 33 f) 32 g) I q_J0, 34, 31630))) 9 (fun _ _ => rfl) ?_
                    refine q_Ru_call (v := (some (.int 1))) (h2 := (q_cM (q_uA (q_uA q_AM 33 f) 32 g) I q_J0, 34, 31630)) rfl rfl ?_ ?_
                    · refine q_Ca_of (Nat.le_of_ble_eq_true rfl) ?_
                      refine q_Ru_seg (g2 := (15, [(0, .int 12), (1, .int 12), (2, .int 15)], [.int 1], (q_cM (q_uA (q_uA q_AM 33 f) 32 g) I q_J0, 34, 31630))) 8 (fun _ _ => rfl) ?_
                      exact q_Ru_ret rfl rfl
                    show q_Ru _ _ _ (33, [(0, .ref 64), (1, .int 12)], [.int 1], (q_cM (q_uA (q_uA q_AM 33 f) 32 g) I q_J0, 34, 31630)) _
                    refine q_Ru_seg (g2 := (55, [(0, .ref 64), (1, .int 12)], [.int 0], (q_cM (q_uA (q_uA q_AM 33 f) 32 g) I q_J0, 34, 31630))) 15 (fun _ _ => rfl) ?_
                    refine q_Ru_seg (g2 := (79, [(0, .ref 64), (1, .int 12)], [.int 0], (q_cM (q_uA (q_uA q_AM 33 f) 32 g) I q_J0, 34, 31630))) 3 (fun _ _ => rfl) ?_
                    exact q_Ru_ret rfl rfl
                  show q_Ru _ _ _ (22, [(0, .ref 64), (1, .int 3852)], [.int 0], (q_cM (q_uA (q_uA q_AM 33 f) 32 g) I q_J0, 34, 31630)) _
                  exact q_Ru_ret rfl rfl
                | 1, _, e163 =>
                  have e163 : a = 3853 := e163
                  subst e163
                  refine ⟨f, ?_⟩
                  refine q_Ca_of (Nat.le_of_ble_eq_true rfl) ?_
                  refine q_Ru_seg (g2 := (7, [(0, .ref 64), (1, .int 3853)], [.int 3887, .int 3840, .int 3853], (q_cM (q_uA (q_uA q_AM 33 f) 32 g) I q_J0, 34, 31630))) 3 (fun _ _ => rfl) ?_
                  refine q_Ru_call (v := (some (.int 1))) (h2 := (q_cM (q_uA (q_uA q_AM 33 f) 32 g) I q_J0, 34, 31630)) rfl rfl ?_ ?_
                  · refine q_Ca_of (Nat.le_of_ble_eq_true rfl) ?_
                    refine q_Ru_seg (g2 := (15, [(0, .int 3853), (1, .int 3840), (2, .int 3887)], [.int 1], (q_cM (q_uA (q_uA q_AM 33 f) 32 g) I q_J0, 34, 31630))) 8 (fun _ _ => rfl) ?_
                    exact q_Ru_ret rfl rfl
                  show q_Ru _ _ _ (10, [(0, .ref 64), (1, .int 3853)], [.int 1], (q_cM (q_uA (q_uA q_AM 33 f) 32 g) I q_J0, 34, 31630)) _
                  refine q_Ru_seg (g2 := (19, [(0, .ref 64), (1, .int 3853)], [.int 13, .ref 64], (q_cM (q_uA (q_uA q_AM 33 f) 32 g) I q_J0, 34, 31630))) 5 (fun _ _ => rfl) ?_
                  refine q_Ru_call (v := (some (.int 0))) (h2 := (q_cM (q_uA (q_uA q_AM 33 f) 32 g) I q_J0, 34, 31630)) rfl rfl ?_ ?_
                  · refine q_Ca_of (Nat.le_of_ble_eq_true rfl) ?_
                    refine q_Ru_seg (g2 := (30, [(0, .ref 64), (1, .int 13)], [.int 15, .int 12, .int 13], (q_cM (q_uA (q_uA q_AM 33 f) 32 g) I q_J0, 34, 31630))) 9 (fun _ _ => rfl) ?_
                    refine q_Ru_call (v := (some (.int 1))) (h2 := (q_cM (q_uA (q_uA q_AM 33 f) 32 g) I q_J0, 34, 31630)) rfl rfl ?_ ?_
                    · refine q_Ca_of (Nat.le_of_ble_eq_true rfl) ?_
                      refine q_Ru_seg (g2 := (15, [(0, .int 13), (1, .int 12), (2, .int 15)], [.int 1], (q_cM (q_uA (q_uA q_AM 33 f) 32 g) I q_J0, 34, 31630))) 8 (fun _ _ => rfl) ?_
                      exact q_Ru_ret rfl rfl
                    show q_Ru _ _ _ (33, [(0, .ref 64), (1, .int 13)], [.int 1], (q_cM (q_uA (q_uA q_AM 33 f) 32 g) I q_J0, 34, 31630)) _
                    refine q_Ru_seg (g2 := (71, [(0, .ref 64), (1, .int 13)], [.int 0], (q_cM (q_uA (q_uA q_AM 33 f) 32 g) I q_J0, 34, 31630))) 15 (fun _ _ => rfl) ?_
                    refine q_Ru_seg (g2 := (79, [(0, .ref 64), (1, .int 13)], [.int 0], (q_cM (q_uA (q_uA q_AM 33 f) 32 g) I q_J0, 34, 31630))) 4 (fun _ _ => rfl) ?_
                    exact q_Ru_ret rfl rfl
                  show q_Ru _ _ _ (22, [(0, .ref 64), (1, .int 3853)], [.int 0], (q_cM (q_uA (q_uA q_AM 33 f) 32 g) I q_J0, 34, 31630)) _
                  exact q_Ru_ret rfl rfl
                | 2, _, e163 =>
                  have e163 : a = 3854 := e163
                  subst e163
                  refine ⟨f, ?_⟩
                  refine q_Ca_of (Nat.le_of_ble_eq_true rfl) ?_
                  refine q_Ru_seg (g2 := (7, [(0, .ref 64), (1, .int 3854)], [.int 3887, .int 3840, .int 3854], (q_cM (q_uA (q_uA q_AM 33 f) 32 g) I q_J0, 34, 31630))) 3 (fun _ _ => rfl) ?_
                  refine q_Ru_call (v := (some (.int 1))) (h2 := (q_cM (q_uA (q_uA q_AM 33 f) 32 g) I q_J0, 34, 31630)) rfl rfl ?_ ?_
                  · refine q_Ca_of (Nat.le_of_ble_eq_true rfl) ?_
                    refine q_Ru_seg (g2 := (15, [(0, .int 3854), (1, .int 3840), (2, .int 3887)], [.int 1], (q_cM (q_uA (q_uA q_AM 33 f) 32 g) I q_J0, 34, 31630))) 8 (fun _ _ => rfl) ?_
                    exact q_Ru_ret rfl rfl
                  show q_Ru _ _ _ (10, [(0, .ref 64), (1, .int 3854)], [.int 1], (q_cM (q_uA (q_uA q_AM 33 f) 32 g) I q_J0, 34, 31630)) _
                  refine q_Ru_seg (g2 := (19, [(0, .ref 64), (1, .int 3854)], [.int 14, .ref 64], (q_cM (q_uA (q_uA q_AM 33 f) 32 g) I q_J0, 34, 31630))) 5 (fun _ _ => rfl) ?_
                  refine q_Ru_call (v := (some (.int 0))) (h2 := (q_cM (q_uA (q_uA q_AM 33 f) 32 g) I q_J0, 34, 31630)) rfl rfl ?_ ?_
                  · refine q_Ca_of (Nat.le_of_ble_eq_true rfl) ?_
                    refine q_Ru_seg (g2 := (30, [(0, .ref 64), (1, .int 14)], [.int 15, .int 12, .int 14], (q_cM (q_uA (q_uA q_AM 33 f) 32 g) I q_J0, 34, 31630))) 9 (fun _ _ => rfl) ?_
                    refine q_Ru_call (v := (some (.int 1))) (h2 := (q_cM (q_uA (q_uA q_AM 33 f) 32 g) I q_J0, 34, 31630)) rfl rfl ?_ ?_
                    · refine q_Ca_of (Nat.le_of_ble_eq_true rfl) ?_
                      refine q_Ru_seg (g2 := (15, [(0, .int 14), (1, .int 12), (2, .int 15)], [.int 1], (q_cM (q_uA (q_uA q_AM 33 f) 32 g) I q_J0, 34, 31630))) 8 (fun _ _ => rfl) ?_
                      exact q_Ru_ret rfl rfl
                    show q_Ru _ _ _ (33, [(0, .ref 64), (1, .int 14)], [.int 1], (q_cM (q_uA (q_uA q_AM 33 f) 32 g) I q_J0, 34, 31630)) _
                    refine q_Ru_seg (g2 := (55, [(0, .ref 64), (1, .int 14)], [.int 0], (q_cM (q_uA (q_uA q_AM 33 f) 32 g) I q_J0, 34, 31630))) 15 (fun _ _ => rfl) ?_
                    refine q_Ru_seg (g2 := (79, [(0, .ref 64), (1, .int 14)], [.int 0], (q_cM (q_uA (q_uA q_AM 33 f) 32 g) I q_J0, 34, 31630))) 3 (fun _ _ => rfl) ?_
                    exact q_Ru_ret rfl rfl
                  show q_Ru _ _ _ (22, [(0, .ref 64), (1, .int 3854)], [.int 0], (q_cM (q_uA (q_uA q_AM 33 f) 32 g) I q_J0, 34, 31630)) _
                  exact q_Ru_ret rfl rfl
                | 3, _, e163 =>
                  have e163 : a = 3855 := e163
                  subst e163
                  refine ⟨f, ?_⟩
                  refine q_Ca_of (Nat.le_of_ble_eq_true rfl) ?_
                  refine q_Ru_seg (g2 := (7, [(0, .ref 64), (1, .int 3855)], [.int 3887, .int 3840, .int 3855], (q_cM (q_uA (q_uA q_AM 33 f) 32 g) I q_J0, 34, 31630))) 3 (fun _ _ => rfl) ?_
                  refine q_Ru_call (v := (some (.int 1))) (h2 := (q_cM (q_uA (q_uA q_AM 33 f) 32 g) I q_J0, 34, 31630)) rfl rfl ?_ ?_
                  · refine q_Ca_of (Nat.le_of_ble_eq_true rfl) ?_
                    refine q_Ru_seg (g2 := (15, [(0, .int 3855), (1, .int 3840), (2, .int 3887)], [.int 1], (q_cM (q_uA (q_uA q_AM 33 f) 32 g) I q_J0, 34, 31630))) 8 (fun _ _ => rfl) ?_
                    exact q_Ru_ret rfl rfl
                  show q_Ru _ _ _ (10, [(0, .ref 64), (1, .int 3855)], [.int 1], (q_cM (q_uA (q_uA q_AM 33 f) 32 g) I q_J0, 34, 31630)) _
                  refine q_Ru_seg (g2 := (19, [(0, .ref 64), (1, .int 3855)], [.int 15, .ref 64], (q_cM (q_uA (q_uA q_AM 33 f) 32 g) I q_J0, 34, 31630))) 5 (fun _ _ => rfl) ?_
                  refine q_Ru_call (v := (some (.int 0))) (h2 := (q_cM (q_uA (q_uA q_AM 33 f) 32 g) I q_J0, 34, 31630)) rfl rfl ?_ ?_
                  · refine q_Ca_of (Nat.le_of_ble_eq_true rfl) ?_
                    refine q_Ru_seg (g2 := (30, [(0, .ref 64), (1, .int 15)], [.int 15, .int 12, .int 15], (q_cM (q_uA (q_uA q_AM 33 f) 32 g) I q_J0, 34, 31630))) 9 (fun _ _ => rfl) ?_
                    refine q_Ru_call (v := (some (.int 1))) (h2 := (q_cM (q_uA (q_uA q_AM 33 f) 32 g) I q_J0, 34, 31630)) rfl rfl ?_ ?_
                    · refine q_Ca_of (Nat.le_of_ble_eq_true rfl) ?_
                      refine q_Ru_seg (g2 := (15, [(0, .int 15), (1, .int 12), (2, .int 15)], [.int 1], (q_cM (q_uA (q_uA q_AM 33 f) 32 g) I q_J0, 34, 31630))) 8 (fun _ _ => rfl) ?_
                      exact q_Ru_ret rfl rfl
                    show q_Ru _ _ _ (33, [(0, .ref 64), (1, .int 15)], [.int 1], (q_cM (q_uA (q_uA q_AM 33 f) 32 g) I q_J0, 34, 31630)) _
                    refine q_Ru_seg (g2 := (71, [(0, .ref 64), (1, .int 15)], [.int 0], (q_cM (q_uA (q_uA q_AM 33 f) 32 g) I q_J0, 34, 31630))) 15 (fun _ _ => rfl) ?_
                    refine q_Ru_seg (g2 := (79, [(0, .ref 64), (1, .int 15)], [.int 0], (q_cM (q_uA (q_uA q_AM 33 f) 32 g) I q_J0, 34, 31630))) 4 (fun _ _ => rfl) ?_
                    exact q_Ru_ret rfl rfl
                  show q_Ru _ _ _ (22, [(0, .ref 64), (1, .int 3855)], [.int 0], (q_cM (q_uA (q_uA q_AM 33 f) 32 g) I q_J0, 34, 31630)) _
                  exact q_Ru_ret rfl rfl
                | j163 + 4, g163, _ => exact absurd g163 (by omega)
