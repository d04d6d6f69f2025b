def dz_M270_64_38 (s : q_S) (v1 : Int32) (v2 : Int32) (v3 : Int32) : Option (q_S) :=
  cond (decide (v1 = 3)) ((dz_M215_64 s v2 ((s.1 14) 0)).bind fun r2 => some r2) (cond (decide (v1 = 4)) ((dz_M215_64 s v2 ((s.1 14) 1)).bind fun r3 => some r3) (cond (decide (v1 = 5)) ((dz_M215_64 s v2 ((s.1 14) 2)).bind fun r4 => some r4) (cond (decide (v1 = 17)) ((dz_M215_64 s v2 (((s.1 14) 0) &&& ((s.1 14) 1))).bind fun r5 => some r5) ((dz_M215_64 s v2 ((v3 + 1) &&& 255)).bind fun r6 => cond (decide (v1 = 18)) ((dz_M263_64 r6 0 ((v3 + 1) &&& 255)).bind fun r7 => some r7) (cond (decide (v1 = 19)) ((dz_M267_64_f r6 ((v3 + 1) &&& 255)).bind fun r8 => some r8) (q_let (dz_M261_64 r6 ((v3 + 1) &&& 255)) fun r9 => some r9.1))))))
set_option maxHeartbeats 4000000 in
theorem dzt_M270_64_38 (c n : Nat) (s : q_S) (v1 : Int32) (v2 : Int32) (v3 : Int32) : q_RP q_TB0 5 269 (38, [(0, .ref 64), (1, .int v1), (2, .int v2), (3, .int v3)], [], (q_kM s c n)) (q_oSM c n) (dz_M270_64_38 s v1 v2 v3) := by
  unfold dz_M270_64_38
  refine q_RP_seg (g2 := (58, [(4, .int ((v3 + 1) &&& 255)), (0, .ref 64), (1, .int v1), (2, .int v2), (3, .int v3)], [.int v1], (q_kM s c n))) 8 (fun _ _ => rfl) ?_
  cases h6 : decide (v1 = 3) with
  | true =>
    refine q_RP_cT ?_
    refine q_RP_st1 (g2 := (100, [(4, .int ((v3 + 1) &&& 255)), (0, .ref 64), (1, .int v1), (2, .int v2), (3, .int v3)], [], (q_kM s c n))) rfl (by rw [of_decide_eq_true h6]; rfl) ?_
    refine q_RP_seg (g2 := (108, [(4, .int ((v3 + 1) &&& 255)), (0, .ref 64), (1, .int v1), (2, .int v2), (3, .int v3)], [.int ((s.1 14) 0), .int v2, .ref 64], (q_kM s c n))) 6 (fun _ _ => rfl) ?_
    refine q_RP_bd fun r2 er2 => ?_
    refine q_RP_call (v := none) (h2 := (q_kM r2 c n)) rfl rfl ((dzt_M215_64 s c n v2 ((s.1 14) 0) r2 er2).le (Nat.le_of_ble_eq_true rfl)) ?_
    show q_RP _ _ _ (111, [(4, .int ((v3 + 1) &&& 255)), (0, .ref 64), (1, .int v1), (2, .int v2), (3, .int v3)], [], (q_kM r2 c n)) _ _
    refine q_RP_seg (g2 := (209, [(4, .int ((v3 + 1) &&& 255)), (0, .ref 64), (1, .int v1), (2, .int v2), (3, .int v3)], [], (q_kM r2 c n))) 1 (fun _ _ => rfl) ?_
    exact q_RP_ret rfl rfl rfl
  | false =>
    refine q_RP_cF ?_
    cases h7 : decide (v1 = 4) with
    | true =>
      refine q_RP_cT ?_
      refine q_RP_st1 (g2 := (114, [(4, .int ((v3 + 1) &&& 255)), (0, .ref 64), (1, .int v1), (2, .int v2), (3, .int v3)], [], (q_kM s c n))) rfl (by rw [of_decide_eq_true h7]; rfl) ?_
      refine q_RP_seg (g2 := (122, [(4, .int ((v3 + 1) &&& 255)), (0, .ref 64), (1, .int v1), (2, .int v2), (3, .int v3)], [.int ((s.1 14) 1), .int v2, .ref 64], (q_kM s c n))) 6 (fun _ _ => rfl) ?_
      refine q_RP_bd fun r3 er3 => ?_
      refine q_RP_call (v := none) (h2 := (q_kM r3 c n)) rfl rfl ((dzt_M215_64 s c n v2 ((s.1 14) 1) r3 er3).le (Nat.le_of_ble_eq_true rfl)) ?_
      show q_RP _ _ _ (125, [(4, .int ((v3 + 1) &&& 255)), (0, .ref 64), (1, .int v1), (2, .int v2), (3, .int v3)], [], (q_kM r3 c n)) _ _
      refine q_RP_seg (g2 := (209, [(4, .int ((v3 + 1) &&& 255)), (0, .ref 64), (1, .int v1), (2, .int v2), (3, .int v3)], [], (q_kM r3 c n))) 1 (fun _ _ => rfl) ?_
      exact q_RP_ret rfl rfl rfl
    | false =>
      refine q_RP_cF ?_
      cases h8 : decide (v1 = 5) with
      | true =>
        refine q_RP_cT ?_
        refine q_RP_st1 (g2 := (128, [(4, .int ((v3 + 1) &&& 255)), (0, .ref 64), (1, .int v1), (2, .int v2), (3, .int v3)], [], (q_kM s c n))) rfl (by rw [of_decide_eq_true h8]; rfl) ?_
        refine q_RP_seg (g2 := (136, [(4, .int ((v3 + 1) &&& 255)), (0, .ref 64), (1, .int v1), (2, .int v2), (3, .int v3)], [.int ((s.1 14) 2), .int v2, .ref 64], (q_kM s c n))) 6 (fun _ _ => rfl) ?_
        refine q_RP_bd fun r4 er4 => ?_
        refine q_RP_call (v := none) (h2 := (q_kM r4 c n)) rfl rfl ((dzt_M215_64 s c n v2 ((s.1 14) 2) r4 er4).le (Nat.le_of_ble_eq_true rfl)) ?_
        show q_RP _ _ _ (139, [(4, .int ((v3 + 1) &&& 255)), (0, .ref 64), (1, .int v1), (2, .int v2), (3, .int v3)], [], (q_kM r4 c n)) _ _
        refine q_RP_seg (g2 := (209, [(4, .int ((v3 + 1) &&& 255)), (0, .ref 64), (1, .int v1), (2, .int v2), (3, .int v3)], [], (q_kM r4 c n))) 1 (fun _ _ => rfl) ?_
        exact q_RP_ret rfl rfl rfl
      | false =>
        refine q_RP_cF ?_
        cases h9 : decide (v1 = 17) with
        | true =>
          refine q_RP_cT ?_
          refine q_RP_st1 (g2 := (142, [(4, .int ((v3 + 1) &&& 255)), (0, .ref 64), (1, .int v1), (2, .int v2), (3, .int v3)], [], (q_kM s c n))) rfl (by rw [of_decide_eq_true h9]; rfl) ?_
          refine q_RP_seg (g2 := (150, [(4, .int ((v3 + 1) &&& 255)), (0, .ref 64), (1, .int v1), (2, .int v2), (3, .int v3)], [.int ((s.1 14) 0), .int v2, .ref 64], (q_kM s c n))) 6 (fun _ _ => rfl) ?_
          refine q_RP_seg (g2 := (156, [(4, .int ((v3 + 1) &&& 255)), (0, .ref 64), (1, .int v1), (2, .int v2), (3, .int v3)], [.int ((s.1 14) 1), .int ((s.1 14) 0), .int v2, .ref 64], (q_kM s c n))) 4 (fun _ _ => rfl) ?_
          refine q_RP_seg (g2 := (157, [(4, .int ((v3 + 1) &&& 255)), (0, .ref 64), (1, .int v1), (2, .int v2), (3, .int v3)], [.int (((s.1 14) 0) &&& ((s.1 14) 1)), .int v2, .ref 64], (q_kM s c n))) 1 (fun _ _ => rfl) ?_
          refine q_RP_bd fun r5 er5 => ?_
          refine q_RP_call (v := none) (h2 := (q_kM r5 c n)) rfl rfl ((dzt_M215_64 s c n v2 (((s.1 14) 0) &&& ((s.1 14) 1)) r5 er5).le (Nat.le_of_ble_eq_true rfl)) ?_
          show q_RP _ _ _ (160, [(4, .int ((v3 + 1) &&& 255)), (0, .ref 64), (1, .int v1), (2, .int v2), (3, .int v3)], [], (q_kM r5 c n)) _ _
          refine q_RP_seg (g2 := (209, [(4, .int ((v3 + 1) &&& 255)), (0, .ref 64), (1, .int v1), (2, .int v2), (3, .int v3)], [], (q_kM r5 c n))) 1 (fun _ _ => rfl) ?_
          exact q_RP_ret rfl rfl rfl
        | false =>
          refine q_RP_cF ?_
          refine q_RP_st1 (g2 := (163, [(4, .int ((v3 + 1) &&& 255)), (0, .ref 64), (1, .int v1), (2, .int v2), (3, .int v3)], [], (q_kM s c n))) rfl (by unfold q_lsw; dsimp only; rw [Op.lookupswitch.offset_cons, if_neg (q_neJ h6 (n := 3)), Op.lookupswitch.offset_cons, if_neg (q_neJ h7 (n := 4)), Op.lookupswitch.offset_cons, if_neg (q_neJ h8 (n := 5)), Op.lookupswitch.offset_cons, if_neg (q_neJ h9 (n := 17))]; rfl) ?_
          refine q_RP_seg (g2 := (167, [(4, .int ((v3 + 1) &&& 255)), (0, .ref 64), (1, .int v1), (2, .int v2), (3, .int v3)], [.int ((v3 + 1) &&& 255), .int v2, .ref 64], (q_kM s c n))) 3 (fun _ _ => rfl) ?_
          refine q_RP_bd fun r6 er6 => ?_
          refine q_RP_call (v := none) (h2 := (q_kM r6 c n)) rfl rfl ((dzt_M215_64 s c n v2 ((v3 + 1) &&& 255) r6 er6).le (Nat.le_of_ble_eq_true rfl)) ?_
          show q_RP _ _ _ (170, [(4, .int ((v3 + 1) &&& 255)), (0, .ref 64), (1, .int v1), (2, .int v2), (3, .int v3)], [], (q_kM r6 c n)) _ _
          refine q_RP_seg (g2 := (173, [(4, .int ((v3 + 1) &&& 255)), (0, .ref 64), (1, .int v1), (2, .int v2), (3, .int v3)], [.int 18, .int v1], (q_kM r6 c n))) 2 (fun _ _ => rfl) ?_
          cases h10 : decide (v1 = 18) with
          | true =>
            refine q_RP_cT ?_
            refine q_RP_rsF (g2 := (176, [(4, .int ((v3 + 1) &&& 255)), (0, .ref 64), (1, .int v1), (2, .int v2), (3, .int v3)], [], (q_kM r6 c n))) rfl rfl (q_d_neT h10) ?_
            refine q_RP_seg (g2 := (180, [(4, .int ((v3 + 1) &&& 255)), (0, .ref 64), (1, .int v1), (2, .int v2), (3, .int v3)], [.int ((v3 + 1) &&& 255), .int 0, .ref 64], (q_kM r6 c n))) 3 (fun _ _ => rfl) ?_
            refine q_RP_bd fun r7 er7 => ?_
            refine q_RP_call (v := none) (h2 := (q_kM r7 c n)) rfl rfl ((dzt_M263_64 r6 c n 0 ((v3 + 1) &&& 255) r7 er7).le (Nat.le_of_ble_eq_true rfl)) ?_
            show q_RP _ _ _ (183, [(4, .int ((v3 + 1) &&& 255)), (0, .ref 64), (1, .int v1), (2, .int v2), (3, .int v3)], [], (q_kM r7 c n)) _ _
            refine q_RP_seg (g2 := (209, [(4, .int ((v3 + 1) &&& 255)), (0, .ref 64), (1, .int v1), (2, .int v2), (3, .int v3)], [], (q_kM r7 c n))) 1 (fun _ _ => rfl) ?_
            exact q_RP_ret rfl rfl rfl
          | false =>
            refine q_RP_cF ?_
            refine q_RP_rsT (g2 := (186, [(4, .int ((v3 + 1) &&& 255)), (0, .ref 64), (1, .int v1), (2, .int v2), (3, .int v3)], [], (q_kM r6 c n))) rfl rfl (q_d_neF h10) ?_
            refine q_RP_seg (g2 := (189, [(4, .int ((v3 + 1) &&& 255)), (0, .ref 64), (1, .int v1), (2, .int v2), (3, .int v3)], [.int 19, .int v1], (q_kM r6 c n))) 2 (fun _ _ => rfl) ?_
            cases h11 : decide (v1 = 19) with
            | true =>
              refine q_RP_cT ?_
              refine q_RP_rsF (g2 := (192, [(4, .int ((v3 + 1) &&& 255)), (0, .ref 64), (1, .int v1), (2, .int v2), (3, .int v3)], [], (q_kM r6 c n))) rfl rfl (q_d_neT h11) ?_
              refine q_RP_seg (g2 := (196, [(4, .int ((v3 + 1) &&& 255)), (0, .ref 64), (1, .int v1), (2, .int v2), (3, .int v3)], [.int ((v3 + 1) &&& 255), .int 0, .ref 64], (q_kM r6 c n))) 3 (fun _ _ => rfl) ?_
              refine q_RP_bd fun r8 er8 => ?_
              refine q_RP_call (v := none) (h2 := (q_kM r8 c n)) rfl rfl ((dzt_M267_64_f r6 c n ((v3 + 1) &&& 255) r8 er8).le (Nat.le_of_ble_eq_true rfl)) ?_
              show q_RP _ _ _ (199, [(4, .int ((v3 + 1) &&& 255)), (0, .ref 64), (1, .int v1), (2, .int v2), (3, .int v3)], [], (q_kM r8 c n)) _ _
              refine q_RP_seg (g2 := (209, [(4, .int ((v3 + 1) &&& 255)), (0, .ref 64), (1, .int v1), (2, .int v2), (3, .int v3)], [], (q_kM r8 c n))) 1 (fun _ _ => rfl) ?_
              exact q_RP_ret rfl rfl rfl
            | false =>
              refine q_RP_cF ?_
              refine q_RP_rsT (g2 := (202, [(4, .int ((v3 + 1) &&& 255)), (0, .ref 64), (1, .int v1), (2, .int v2), (3, .int v3)], [], (q_kM r6 c n))) rfl rfl (q_d_neF h11) ?_
              refine q_RP_seg (g2 := (205, [(4, .int ((v3 + 1) &&& 255)), (0, .ref 64), (1, .int v1), (2, .int v2), (3, .int v3)], [.int ((v3 + 1) &&& 255), .ref 64], (q_kM r6 c n))) 2 (fun _ _ => rfl) ?_
              refine q_RP_call (v := (some (.int (dz_M261_64 r6 ((v3 + 1) &&& 255)).2))) (h2 := (q_kM (dz_M261_64 r6 ((v3 + 1) &&& 255)).1 c n)) rfl rfl ((dzt_M261_64 r6 c n ((v3 + 1) &&& 255)).le (Nat.le_of_ble_eq_true rfl)) ?_
              generalize dz_M261_64 r6 ((v3 + 1) &&& 255) = r9
              refine q_RP_let ?_
              show q_RP _ _ _ (208, [(4, .int ((v3 + 1) &&& 255)), (0, .ref 64), (1, .int v1), (2, .int v2), (3, .int v3)], [.int r9.2], (q_kM r9.1 c n)) _ _
              refine q_RP_seg (g2 := (209, [(4, .int ((v3 + 1) &&& 255)), (0, .ref 64), (1, .int v1), (2, .int v2), (3, .int v3)], [], (q_kM r9.1 c n))) 1 (fun _ _ => rfl) ?_
              exact q_RP_ret rfl rfl rfl
def dz_M270_64 (s : q_S) (a1 : Int32) (a2 : Int32) : Option (q_S) :=
  cond (decide (a1 < 14)) (cond (decide (a1 = 14)) (dz_M270_64_38 s a1 a2 0) (cond (decide (a1 = 19)) (dz_M270_64_38 s a1 a2 0) (cond (decide (a1 = 3)) ((dz_M215_64 s a2 ((s.1 14) 0)).bind fun r10 => some r10) (cond (decide (a1 = 4)) ((dz_M215_64 s a2 ((s.1 14) 1)).bind fun r11 => some r11) (cond (decide (a1 = 5)) ((dz_M215_64 s a2 ((s.1 14) 2)).bind fun r12 => some r12) (cond (decide (a1 = 17)) ((dz_M215_64 s a2 (((s.1 14) 0) &&& ((s.1 14) 1))).bind fun r13 => some r13) ((dz_M215_64 s a2 255).bind fun r14 => cond (decide (a1 = 18)) ((dz_M263_64 r14 0 255).bind fun r15 => some r15) (q_let (dz_M261_64 r14 255) fun r16 => some r16.1)))))))) (cond (decide (a1 = 17)) (cond (decide (a1 = 14)) (dz_M270_64_38 s a1 a2 0) (cond (decide (a1 = 19)) (dz_M270_64_38 s a1 a2 0) ((dz_M215_64 s a2 (((s.1 14) 0) &&& ((s.1 14) 1))).bind fun r17 => some r17))) ((dz_M268_64 s a2).bind fun r18 => cond (decide (a1 = 14)) (dz_M270_64_38 r18.1 a1 a2 r18.2) (cond (decide (a1 = 19)) (dz_M270_64_38 r18.1 a1 a2 r18.2) (cond (decide (a1 = 3)) ((dz_M215_64 r18.1 a2 ((r18.1.1 14) 0)).bind fun r19 => some r19) (cond (decide (a1 = 4)) ((dz_M215_64 r18.1 a2 ((r18.1.1 14) 1)).bind fun r20 => some r20) (cond (decide (a1 = 5)) ((dz_M215_64 r18.1 a2 ((r18.1.1 14) 2)).bind fun r21 => some r21) ((dz_M215_64 r18.1 a2 ((r18.2 - 1) &&& 255)).bind fun r22 => cond (decide (a1 = 18)) ((dz_M263_64 r22 0 ((r18.2 - 1) &&& 255)).bind fun r23 => some r23) (q_let (dz_M261_64 r22 ((r18.2 - 1) &&& 255)) fun r24 => some r24.1))))))))
set_option maxHeartbeats 4000000 in
theorem dzt_M270_64 (s : q_S) (c n : Nat) (a1 : Int32) (a2 : Int32) (x : q_S) (h : dz_M270_64 s a1 a2 = some x) : q_Ca q_TB0 6 269 [.ref 64, .int a1, .int a2] (q_kM s c n) ((q_oSM c n) x) := by
  refine q_CaP_of (φ := (q_oSM c n)) (Nat.le_of_ble_eq_true rfl) ?_ h
  clear h
  unfold dz_M270_64
  refine q_RP_seg (g2 := (3, [(0, .ref 64), (1, .int a1), (2, .int a2)], [.int 14, .int a1], (q_kM s c n))) 2 (fun _ _ => rfl) ?_
  cases h4 : decide (a1 < 14) with
  | true =>
    refine q_RP_cT ?_
    refine q_RP_rsF (g2 := (6, [(0, .ref 64), (1, .int a1), (2, .int a2)], [], (q_kM s c n))) rfl rfl (q_d_geT h4) ?_
    refine q_RP_seg (g2 := (29, [(3, .int 0), (0, .ref 64), (1, .int a1), (2, .int a2)], [.int 14, .int a1], (q_kM s c n))) 5 (fun _ _ => rfl) ?_
    cases h5 : decide (a1 = 14) with
    | true =>
      refine q_RP_cT ?_
      refine q_RP_rsT (g2 := (38, [(3, .int 0), (0, .ref 64), (1, .int a1), (2, .int a2)], [], (q_kM s c n))) rfl rfl h5 ?_
      exact q_RP_xt (q_xt_mk (q_mn1 1 rfl (q_mn1 2 rfl (q_mn1 3 rfl (q_mn1 0 rfl q_mn0)))) rfl) (dzt_M270_64_38 c n s a1 a2 0)
    | false =>
      refine q_RP_cF ?_
      refine q_RP_rsF (g2 := (32, [(3, .int 0), (0, .ref 64), (1, .int a1), (2, .int a2)], [], (q_kM s c n))) rfl rfl h5 ?_
      refine q_RP_seg (g2 := (35, [(3, .int 0), (0, .ref 64), (1, .int a1), (2, .int a2)], [.int 19, .int a1], (q_kM s c n))) 2 (fun _ _ => rfl) ?_
      cases h12 : decide (a1 = 19) with
      | true =>
        refine q_RP_cT ?_
        refine q_RP_rsF (g2 := (38, [(3, .int 0), (0, .ref 64), (1, .int a1), (2, .int a2)], [], (q_kM s c n))) rfl rfl (q_d_neT h12) ?_
        exact q_RP_xt (q_xt_mk (q_mn1 1 rfl (q_mn1 2 rfl (q_mn1 3 rfl (q_mn1 0 rfl q_mn0)))) rfl) (dzt_M270_64_38 c n s a1 a2 0)
      | false =>
        refine q_RP_cF ?_
        refine q_RP_rsT (g2 := (48, [(3, .int 0), (0, .ref 64), (1, .int a1), (2, .int a2)], [], (q_kM s c n))) rfl rfl (q_d_neF h12) ?_
        refine q_RP_seg (g2 := (58, [(4, .int 255), (3, .int 0), (0, .ref 64), (1, .int a1), (2, .int a2)], [.int a1], (q_kM s c n))) 7 (fun _ _ => rfl) ?_
        cases h13 : decide (a1 = 3) with
        | true =>
          refine q_RP_cT ?_
          refine q_RP_st1 (g2 := (100, [(4, .int 255), (3, .int 0), (0, .ref 64), (1, .int a1), (2, .int a2)], [], (q_kM s c n))) rfl (by rw [of_decide_eq_true h13]; rfl) ?_
          refine q_RP_seg (g2 := (108, [(4, .int 255), (3, .int 0), (0, .ref 64), (1, .int a1), (2, .int a2)], [.int ((s.1 14) 0), .int a2, .ref 64], (q_kM s c n))) 6 (fun _ _ => rfl) ?_
          refine q_RP_bd fun r10 er10 => ?_
          refine q_RP_call (v := none) (h2 := (q_kM r10 c n)) rfl rfl ((dzt_M215_64 s c n a2 ((s.1 14) 0) r10 er10).le (Nat.le_of_ble_eq_true rfl)) ?_
          show q_RP _ _ _ (111, [(4, .int 255), (3, .int 0), (0, .ref 64), (1, .int a1), (2, .int a2)], [], (q_kM r10 c n)) _ _
          refine q_RP_seg (g2 := (209, [(4, .int 255), (3, .int 0), (0, .ref 64), (1, .int a1), (2, .int a2)], [], (q_kM r10 c n))) 1 (fun _ _ => rfl) ?_
          exact q_RP_ret rfl rfl rfl
        | false =>
          refine q_RP_cF ?_
          cases h14 : decide (a1 = 4) with
          | true =>
            refine q_RP_cT ?_
            refine q_RP_st1 (g2 := (114, [(4, .int 255), (3, .int 0), (0, .ref 64), (1, .int a1), (2, .int a2)], [], (q_kM s c n))) rfl (by rw [of_decide_eq_true h14]; rfl) ?_
            refine q_RP_seg (g2 := (122, [(4, .int 255), (3, .int 0), (0, .ref 64), (1, .int a1), (2, .int a2)], [.int ((s.1 14) 1), .int a2, .ref 64], (q_kM s c n))) 6 (fun _ _ => rfl) ?_
            refine q_RP_bd fun r11 er11 => ?_
            refine q_RP_call (v := none) (h2 := (q_kM r11 c n)) rfl rfl ((dzt_M215_64 s c n a2 ((s.1 14) 1) r11 er11).le (Nat.le_of_ble_eq_true rfl)) ?_
            show q_RP _ _ _ (125, [(4, .int 255), (3, .int 0), (0, .ref 64), (1, .int a1), (2, .int a2)], [], (q_kM r11 c n)) _ _
            refine q_RP_seg (g2 := (209, [(4, .int 255), (3, .int 0), (0, .ref 64), (1, .int a1), (2, .int a2)], [], (q_kM r11 c n))) 1 (fun _ _ => rfl) ?_
            exact q_RP_ret rfl rfl rfl
          | false =>
            refine q_RP_cF ?_
            cases h15 : decide (a1 = 5) with
            | true =>
              refine q_RP_cT ?_
              refine q_RP_st1 (g2 := (128, [(4, .int 255), (3, .int 0), (0, .ref 64), (1, .int a1), (2, .int a2)], [], (q_kM s c n))) rfl (by rw [of_decide_eq_true h15]; rfl) ?_
              refine q_RP_seg (g2 := (136, [(4, .int 255), (3, .int 0), (0, .ref 64), (1, .int a1), (2, .int a2)], [.int ((s.1 14) 2), .int a2, .ref 64], (q_kM s c n))) 6 (fun _ _ => rfl) ?_
              refine q_RP_bd fun r12 er12 => ?_
              refine q_RP_call (v := none) (h2 := (q_kM r12 c n)) rfl rfl ((dzt_M215_64 s c n a2 ((s.1 14) 2) r12 er12).le (Nat.le_of_ble_eq_true rfl)) ?_
              show q_RP _ _ _ (139, [(4, .int 255), (3, .int 0), (0, .ref 64), (1, .int a1), (2, .int a2)], [], (q_kM r12 c n)) _ _
              refine q_RP_seg (g2 := (209, [(4, .int 255), (3, .int 0), (0, .ref 64), (1, .int a1), (2, .int a2)], [], (q_kM r12 c n))) 1 (fun _ _ => rfl) ?_
              exact q_RP_ret rfl rfl rfl
            | false =>
              refine q_RP_cF ?_
              cases h16 : decide (a1 = 17) with
              | true =>
                refine q_RP_cT ?_
                refine q_RP_st1 (g2 := (142, [(4, .int 255), (3, .int 0), (0, .ref 64), (1, .int a1), (2, .int a2)], [], (q_kM s c n))) rfl (by rw [of_decide_eq_true h16]; rfl) ?_
                refine q_RP_seg (g2 := (150, [(4, .int 255), (3, .int 0), (0, .ref 64), (1, .int a1), (2, .int a2)], [.int ((s.1 14) 0), .int a2, .ref 64], (q_kM s c n))) 6 (fun _ _ => rfl) ?_
                refine q_RP_seg (g2 := (156, [(4, .int 255), (3, .int 0), (0, .ref 64), (1, .int a1), (2, .int a2)], [.int ((s.1 14) 1), .int ((s.1 14) 0), .int a2, .ref 64], (q_kM s c n))) 4 (fun _ _ => rfl) ?_
                refine q_RP_seg (g2 := (157, [(4, .int 255), (3, .int 0), (0, .ref 64), (1, .int a1), (2, .int a2)], [.int (((s.1 14) 0) &&& ((s.1 14) 1)), .int a2, .ref 64], (q_kM s c n))) 1 (fun _ _ => rfl) ?_
                refine q_RP_bd fun r13 er13 => ?_
                refine q_RP_call (v := none) (h2 := (q_kM r13 c n)) rfl rfl ((dzt_M215_64 s c n a2 (((s.1 14) 0) &&& ((s.1 14) 1)) r13 er13).le (Nat.le_of_ble_eq_true rfl)) ?_
                show q_RP _ _ _ (160, [(4, .int 255), (3, .int 0), (0, .ref 64), (1, .int a1), (2, .int a2)], [], (q_kM r13 c n)) _ _
                refine q_RP_seg (g2 := (209, [(4, .int 255), (3, .int 0), (0, .ref 64), (1, .int a1), (2, .int a2)], [], (q_kM r13 c n))) 1 (fun _ _ => rfl) ?_
                exact q_RP_ret rfl rfl rfl
              | false =>
                refine q_RP_cF ?_
                refine q_RP_st1 (g2 := (163, [(4, .int 255), (3, .int 0), (0, .ref 64), (1, .int a1), (2, .int a2)], [], (q_kM s c n))) rfl (by unfold q_lsw; dsimp only; rw [Op.lookupswitch.offset_cons, if_neg (q_neJ h13 (n := 3)), Op.lookupswitch.offset_cons, if_neg (q_neJ h14 (n := 4)), Op.lookupswitch.offset_cons, if_neg (q_neJ h15 (n := 5)), Op.lookupswitch.offset_cons, if_neg (q_neJ h16 (n := 17))]; rfl) ?_
                refine q_RP_seg (g2 := (167, [(4, .int 255), (3, .int 0), (0, .ref 64), (1, .int a1), (2, .int a2)], [.int 255, .int a2, .ref 64], (q_kM s c n))) 3 (fun _ _ => rfl) ?_
                refine q_RP_bd fun r14 er14 => ?_
                refine q_RP_call (v := none) (h2 := (q_kM r14 c n)) rfl rfl ((dzt_M215_64 s c n a2 255 r14 er14).le (Nat.le_of_ble_eq_true rfl)) ?_
                show q_RP _ _ _ (170, [(4, .int 255), (3, .int 0), (0, .ref 64), (1, .int a1), (2, .int a2)], [], (q_kM r14 c n)) _ _
                refine q_RP_seg (g2 := (173, [(4, .int 255), (3, .int 0), (0, .ref 64), (1, .int a1), (2, .int a2)], [.int 18, .int a1], (q_kM r14 c n))) 2 (fun _ _ => rfl) ?_
                cases h17 : decide (a1 = 18) with
                | true =>
                  refine q_RP_cT ?_
                  refine q_RP_rsF (g2 := (176, [(4, .int 255), (3, .int 0), (0, .ref 64), (1, .int a1), (2, .int a2)], [], (q_kM r14 c n))) rfl rfl (q_d_neT h17) ?_
                  refine q_RP_seg (g2 := (180, [(4, .int 255), (3, .int 0), (0, .ref 64), (1, .int a1), (2, .int a2)], [.int 255, .int 0, .ref 64], (q_kM r14 c n))) 3 (fun _ _ => rfl) ?_
                  refine q_RP_bd fun r15 er15 => ?_
                  refine q_RP_call (v := none) (h2 := (q_kM r15 c n)) rfl rfl ((dzt_M263_64 r14 c n 0 255 r15 er15).le (Nat.le_of_ble_eq_true rfl)) ?_
                  show q_RP _ _ _ (183, [(4, .int 255), (3, .int 0), (0, .ref 64), (1, .int a1), (2, .int a2)], [], (q_kM r15 c n)) _ _
                  refine q_RP_seg (g2 := (209, [(4, .int 255), (3, .int 0), (0, .ref 64), (1, .int a1), (2, .int a2)], [], (q_kM r15 c n))) 1 (fun _ _ => rfl) ?_
                  exact q_RP_ret rfl rfl rfl
                | false =>
                  refine q_RP_cF ?_
                  refine q_RP_rsT (g2 := (186, [(4, .int 255), (3, .int 0), (0, .ref 64), (1, .int a1), (2, .int a2)], [], (q_kM r14 c n))) rfl rfl (q_d_neF h17) ?_
                  refine q_RP_seg (g2 := (189, [(4, .int 255), (3, .int 0), (0, .ref 64), (1, .int a1), (2, .int a2)], [.int 19, .int a1], (q_kM r14 c n))) 2 (fun _ _ => rfl) ?_
                  refine q_RP_rsT (g2 := (202, [(4, .int 255), (3, .int 0), (0, .ref 64), (1, .int a1), (2, .int a2)], [], (q_kM r14 c n))) rfl rfl (q_d_neF h12) ?_
                  refine q_RP_seg (g2 := (205, [(4, .int 255), (3, .int 0), (0, .ref 64), (1, .int a1), (2, .int a2)], [.int 255, .ref 64], (q_kM r14 c n))) 2 (fun _ _ => rfl) ?_
                  refine q_RP_call (v := (some (.int (dz_M261_64 r14 255).2))) (h2 := (q_kM (dz_M261_64 r14 255).1 c n)) rfl rfl ((dzt_M261_64 r14 c n 255).le (Nat.le_of_ble_eq_true rfl)) ?_
                  generalize dz_M261_64 r14 255 = r16
                  refine q_RP_let ?_
                  show q_RP _ _ _ (208, [(4, .int 255), (3, .int 0), (0, .ref 64), (1, .int a1), (2, .int a2)], [.int r16.2], (q_kM r16.1 c n)) _ _
                  refine q_RP_seg (g2 := (209, [(4, .int 255), (3, .int 0), (0, .ref 64), (1, .int a1), (2, .int a2)], [], (q_kM r16.1 c n))) 1 (fun _ _ => rfl) ?_
                  exact q_RP_ret rfl rfl rfl
  | false =>
    refine q_RP_cF ?_
    refine q_RP_rsT (g2 := (10, [(0, .ref 64), (1, .int a1), (2, .int a2)], [], (q_kM s c n))) rfl rfl (q_d_geF h4) ?_
    refine q_RP_seg (g2 := (13, [(0, .ref 64), (1, .int a1), (2, .int a2)], [.int 17, .int a1], (q_kM s c n))) 2 (fun _ _ => rfl) ?_
    cases h18 : decide (a1 = 17) with
    | true =>
      refine q_RP_cT ?_
      refine q_RP_rsF (g2 := (16, [(0, .ref 64), (1, .int a1), (2, .int a2)], [], (q_kM s c n))) rfl rfl (q_d_neT h18) ?_
      refine q_RP_seg (g2 := (29, [(3, .int 0), (0, .ref 64), (1, .int a1), (2, .int a2)], [.int 14, .int a1], (q_kM s c n))) 5 (fun _ _ => rfl) ?_
      cases h19 : decide (a1 = 14) with
      | true =>
        refine q_RP_cT ?_
        refine q_RP_rsT (g2 := (38, [(3, .int 0), (0, .ref 64), (1, .int a1), (2, .int a2)], [], (q_kM s c n))) rfl rfl h19 ?_
        exact q_RP_xt (q_xt_mk (q_mn1 1 rfl (q_mn1 2 rfl (q_mn1 3 rfl (q_mn1 0 rfl q_mn0)))) rfl) (dzt_M270_64_38 c n s a1 a2 0)
      | false =>
        refine q_RP_cF ?_
        refine q_RP_rsF (g2 := (32, [(3, .int 0), (0, .ref 64), (1, .int a1), (2, .int a2)], [], (q_kM s c n))) rfl rfl h19 ?_
        refine q_RP_seg (g2 := (35, [(3, .int 0), (0, .ref 64), (1, .int a1), (2, .int a2)], [.int 19, .int a1], (q_kM s c n))) 2 (fun _ _ => rfl) ?_
        cases h20 : decide (a1 = 19) with
        | true =>
          refine q_RP_cT ?_
          refine q_RP_rsF (g2 := (38, [(3, .int 0), (0, .ref 64), (1, .int a1), (2, .int a2)], [], (q_kM s c n))) rfl rfl (q_d_neT h20) ?_
          exact q_RP_xt (q_xt_mk (q_mn1 1 rfl (q_mn1 2 rfl (q_mn1 3 rfl (q_mn1 0 rfl q_mn0)))) rfl) (dzt_M270_64_38 c n s a1 a2 0)
        | false =>
          refine q_RP_cF ?_
          refine q_RP_rsT (g2 := (48, [(3, .int 0), (0, .ref 64), (1, .int a1), (2, .int a2)], [], (q_kM s c n))) rfl rfl (q_d_neF h20) ?_
          refine q_RP_seg (g2 := (58, [(4, .int 255), (3, .int 0), (0, .ref 64), (1, .int a1), (2, .int a2)], [.int a1], (q_kM s c n))) 7 (fun _ _ => rfl) ?_
          refine q_RP_st1 (g2 := (142, [(4, .int 255), (3, .int 0), (0, .ref 64), (1, .int a1), (2, .int a2)], [], (q_kM s c n))) rfl (by rw [of_decide_eq_true h18]; rfl) ?_
          refine q_RP_seg (g2 := (150, [(4, .int 255), (3, .int 0), (0, .ref 64), (1, .int a1), (2, .int a2)], [.int ((s.1 14) 0), .int a2, .ref 64], (q_kM s c n))) 6 (fun _ _ => rfl) ?_
          refine q_RP_seg (g2 := (156, [(4, .int 255), (3, .int 0), (0, .ref 64), (1, .int a1), (2, .int a2)], [.int ((s.1 14) 1), .int ((s.1 14) 0), .int a2, .ref 64], (q_kM s c n))) 4 (fun _ _ => rfl) ?_
          refine q_RP_seg (g2 := (157, [(4, .int 255), (3, .int 0), (0, .ref 64), (1, .int a1), (2, .int a2)], [.int (((s.1 14) 0) &&& ((s.1 14) 1)), .int a2, .ref 64], (q_kM s c n))) 1 (fun _ _ => rfl) ?_
          refine q_RP_bd fun r17 er17 => ?_
          refine q_RP_call (v := none) (h2 := (q_kM r17 c n)) rfl rfl ((dzt_M215_64 s c n a2 (((s.1 14) 0) &&& ((s.1 14) 1)) r17 er17).le (Nat.le_of_ble_eq_true rfl)) ?_
          show q_RP _ _ _ (160, [(4, .int 255), (3, .int 0), (0, .ref 64), (1, .int a1), (2, .int a2)], [], (q_kM r17 c n)) _ _
          refine q_RP_seg (g2 := (209, [(4, .int 255), (3, .int 0), (0, .ref 64), (1, .int a1), (2, .int a2)], [], (q_kM r17 c n))) 1 (fun _ _ => rfl) ?_
          exact q_RP_ret rfl rfl rfl
    | false =>
      refine q_RP_cF ?_
      refine q_RP_rsT (g2 := (20, [(0, .ref 64), (1, .int a1), (2, .int a2)], [], (q_kM s c n))) rfl rfl (q_d_neF h18) ?_
      refine q_RP_seg (g2 := (22, [(0, .ref 64), (1, .int a1), (2, .int a2)], [.int a2, .ref 64], (q_kM s c n))) 2 (fun _ _ => rfl) ?_
      refine q_RP_bd fun r18 er18 => ?_
      refine q_RP_call (v := (some (.int r18.2))) (h2 := (q_kM r18.1 c n)) rfl rfl ((dzt_M268_64 s c n a2 r18 er18).le (Nat.le_of_ble_eq_true rfl)) ?_
      show q_RP _ _ _ (25, [(0, .ref 64), (1, .int a1), (2, .int a2)], [.int r18.2], (q_kM r18.1 c n)) _ _
      refine q_RP_seg (g2 := (29, [(3, .int r18.2), (0, .ref 64), (1, .int a1), (2, .int a2)], [.int 14, .int a1], (q_kM r18.1 c n))) 3 (fun _ _ => rfl) ?_
      cases h21 : decide (a1 = 14) with
      | true =>
        refine q_RP_cT ?_
        refine q_RP_rsT (g2 := (38, [(3, .int r18.2), (0, .ref 64), (1, .int a1), (2, .int a2)], [], (q_kM r18.1 c n))) rfl rfl h21 ?_
        exact q_RP_xt (q_xt_mk (q_mn1 1 rfl (q_mn1 2 rfl (q_mn1 3 rfl (q_mn1 0 rfl q_mn0)))) rfl) (dzt_M270_64_38 c n r18.1 a1 a2 r18.2)
      | false =>
        refine q_RP_cF ?_
        refine q_RP_rsF (g2 := (32, [(3, .int r18.2), (0, .ref 64), (1, .int a1), (2, .int a2)], [], (q_kM r18.1 c n))) rfl rfl h21 ?_
        refine q_RP_seg (g2 := (35, [(3, .int r18.2), (0, .ref 64), (1, .int a1), (2, .int a2)], [.int 19, .int a1], (q_kM r18.1 c n))) 2 (fun _ _ => rfl) ?_
        cases h22 : decide (a1 = 19) with
        | true =>
          refine q_RP_cT ?_
          refine q_RP_rsF (g2 := (38, [(3, .int r18.2), (0, .ref 64), (1, .int a1), (2, .int a2)], [], (q_kM r18.1 c n))) rfl rfl (q_d_neT h22) ?_
          exact q_RP_xt (q_xt_mk (q_mn1 1 rfl (q_mn1 2 rfl (q_mn1 3 rfl (q_mn1 0 rfl q_mn0)))) rfl) (dzt_M270_64_38 c n r18.1 a1 a2 r18.2)
        | false =>
          refine q_RP_cF ?_
          refine q_RP_rsT (g2 := (48, [(3, .int r18.2), (0, .ref 64), (1, .int a1), (2, .int a2)], [], (q_kM r18.1 c n))) rfl rfl (q_d_neF h22) ?_
          refine q_RP_seg (g2 := (58, [(4, .int ((r18.2 - 1) &&& 255)), (3, .int r18.2), (0, .ref 64), (1, .int a1), (2, .int a2)], [.int a1], (q_kM r18.1 c n))) 7 (fun _ _ => rfl) ?_
          cases h23 : decide (a1 = 3) with
          | true =>
            refine q_RP_cT ?_
            refine q_RP_st1 (g2 := (100, [(4, .int ((r18.2 - 1) &&& 255)), (3, .int r18.2), (0, .ref 64), (1, .int a1), (2, .int a2)], [], (q_kM r18.1 c n))) rfl (by rw [of_decide_eq_true h23]; rfl) ?_
            refine q_RP_seg (g2 := (108, [(4, .int ((r18.2 - 1) &&& 255)), (3, .int r18.2), (0, .ref 64), (1, .int a1), (2, .int a2)], [.int ((r18.1.1 14) 0), .int a2, .ref 64], (q_kM r18.1 c n))) 6 (fun _ _ => rfl) ?_
            refine q_RP_bd fun r19 er19 => ?_
            refine q_RP_call (v := none) (h2 := (q_kM r19 c n)) rfl rfl ((dzt_M215_64 r18.1 c n a2 ((r18.1.1 14) 0) r19 er19).le (Nat.le_of_ble_eq_true rfl)) ?_
            show q_RP _ _ _ (111, [(4, .int ((r18.2 - 1) &&& 255)), (3, .int r18.2), (0, .ref 64), (1, .int a1), (2, .int a2)], [], (q_kM r19 c n)) _ _
            refine q_RP_seg (g2 := (209, [(4, .int ((r18.2 - 1) &&& 255)), (3, .int r18.2), (0, .ref 64), (1, .int a1), (2, .int a2)], [], (q_kM r19 c n))) 1 (fun _ _ => rfl) ?_
            exact q_RP_ret rfl rfl rfl
          | false =>
            refine q_RP_cF ?_
            cases h24 : decide (a1 = 4) with
            | true =>
              refine q_RP_cT ?_
              refine q_RP_st1 (g2 := (114, [(4, .int ((r18.2 - 1) &&& 255)), (3, .int r18.2), (0, .ref 64), (1, .int a1), (2, .int a2)], [], (q_kM r18.1 c n))) rfl (by rw [of_decide_eq_true h24]; rfl) ?_
              refine q_RP_seg (g2 := (122, [(4, .int ((r18.2 - 1) &&& 255)), (3, .int r18.2), (0, .ref 64), (1, .int a1), (2, .int a2)], [.int ((r18.1.1 14) 1), .int a2, .ref 64], (q_kM r18.1 c n))) 6 (fun _ _ => rfl) ?_
              refine q_RP_bd fun r20 er20 => ?_
              refine q_RP_call (v := none) (h2 := (q_kM r20 c n)) rfl rfl ((dzt_M215_64 r18.1 c n a2 ((r18.1.1 14) 1) r20 er20).le (Nat.le_of_ble_eq_true rfl)) ?_
              show q_RP _ _ _ (125, [(4, .int ((r18.2 - 1) &&& 255)), (3, .int r18.2), (0, .ref 64), (1, .int a1), (2, .int a2)], [], (q_kM r20 c n)) _ _
              refine q_RP_seg (g2 := (209, [(4, .int ((r18.2 - 1) &&& 255)), (3, .int r18.2), (0, .ref 64), (1, .int a1), (2, .int a2)], [], (q_kM r20 c n))) 1 (fun _ _ => rfl) ?_
              exact q_RP_ret rfl rfl rfl
            | false =>
              refine q_RP_cF ?_
              cases h25 : decide (a1 = 5) with
              | true =>
                refine q_RP_cT ?_
                refine q_RP_st1 (g2 := (128, [(4, .int ((r18.2 - 1) &&& 255)), (3, .int r18.2), (0, .ref 64), (1, .int a1), (2, .int a2)], [], (q_kM r18.1 c n))) rfl (by rw [of_decide_eq_true h25]; rfl) ?_
                refine q_RP_seg (g2 := (136, [(4, .int ((r18.2 - 1) &&& 255)), (3, .int r18.2), (0, .ref 64), (1, .int a1), (2, .int a2)], [.int ((r18.1.1 14) 2), .int a2, .ref 64], (q_kM r18.1 c n))) 6 (fun _ _ => rfl) ?_
                refine q_RP_bd fun r21 er21 => ?_
                refine q_RP_call (v := none) (h2 := (q_kM r21 c n)) rfl rfl ((dzt_M215_64 r18.1 c n a2 ((r18.1.1 14) 2) r21 er21).le (Nat.le_of_ble_eq_true rfl)) ?_
                show q_RP _ _ _ (139, [(4, .int ((r18.2 - 1) &&& 255)), (3, .int r18.2), (0, .ref 64), (1, .int a1), (2, .int a2)], [], (q_kM r21 c n)) _ _
                refine q_RP_seg (g2 := (209, [(4, .int ((r18.2 - 1) &&& 255)), (3, .int r18.2), (0, .ref 64), (1, .int a1), (2, .int a2)], [], (q_kM r21 c n))) 1 (fun _ _ => rfl) ?_
                exact q_RP_ret rfl rfl rfl
              | false =>
                refine q_RP_cF ?_
                refine q_RP_st1 (g2 := (163, [(4, .int ((r18.2 - 1) &&& 255)), (3, .int r18.2), (0, .ref 64), (1, .int a1), (2, .int a2)], [], (q_kM r18.1 c n))) rfl (by unfold q_lsw; dsimp only; rw [Op.lookupswitch.offset_cons, if_neg (q_neJ h23 (n := 3)), Op.lookupswitch.offset_cons, if_neg (q_neJ h24 (n := 4)), Op.lookupswitch.offset_cons, if_neg (q_neJ h25 (n := 5)), Op.lookupswitch.offset_cons, if_neg (q_neJ h18 (n := 17))]; rfl) ?_
                refine q_RP_seg (g2 := (167, [(4, .int ((r18.2 - 1) &&& 255)), (3, .int r18.2), (0, .ref 64), (1, .int a1), (2, .int a2)], [.int ((r18.2 - 1) &&& 255), .int a2, .ref 64], (q_kM r18.1 c n))) 3 (fun _ _ => rfl) ?_
                refine q_RP_bd fun r22 er22 => ?_
                refine q_RP_call (v := none) (h2 := (q_kM r22 c n)) rfl rfl ((dzt_M215_64 r18.1 c n a2 ((r18.2 - 1) &&& 255) r22 er22).le (Nat.le_of_ble_eq_true rfl)) ?_
                show q_RP _ _ _ (170, [(4, .int ((r18.2 - 1) &&& 255)), (3, .int r18.2), (0, .ref 64), (1, .int a1), (2, .int a2)], [], (q_kM r22 c n)) _ _
                refine q_RP_seg (g2 := (173, [(4, .int ((r18.2 - 1) &&& 255)), (3, .int r18.2), (0, .ref 64), (1, .int a1), (2, .int a2)], [.int 18, .int a1], (q_kM r22 c n))) 2 (fun _ _ => rfl) ?_
                cases h26 : decide (a1 = 18) with
                | true =>
                  refine q_RP_cT ?_
                  refine q_RP_rsF (g2 := (176, [(4, .int ((r18.2 - 1) &&& 255)), (3, .int r18.2), (0, .ref 64), (1, .int a1), (2, .int a2)], [], (q_kM r22 c n))) rfl rfl (q_d_neT h26) ?_
                  refine q_RP_seg (g2 := (180, [(4, .int ((r18.2 - 1) &&& 255)), (3, .int r18.2), (0, .ref 64), (1, .int a1), (2, .int a2)], [.int ((r18.2 - 1) &&& 255), .int 0, .ref 64], (q_kM r22 c n))) 3 (fun _ _ => rfl) ?_
                  refine q_RP_bd fun r23 er23 => ?_
                  refine q_RP_call (v := none) (h2 := (q_kM r23 c n)) rfl rfl ((dzt_M263_64 r22 c n 0 ((r18.2 - 1) &&& 255) r23 er23).le (Nat.le_of_ble_eq_true rfl)) ?_
                  show q_RP _ _ _ (183, [(4, .int ((r18.2 - 1) &&& 255)), (3, .int r18.2), (0, .ref 64), (1, .int a1), (2, .int a2)], [], (q_kM r23 c n)) _ _
                  refine q_RP_seg (g2 := (209, [(4, .int ((r18.2 - 1) &&& 255)), (3, .int r18.2), (0, .ref 64), (1, .int a1), (2, .int a2)], [], (q_kM r23 c n))) 1 (fun _ _ => rfl) ?_
                  exact q_RP_ret rfl rfl rfl
                | false =>
                  refine q_RP_cF ?_
                  refine q_RP_rsT (g2 := (186, [(4, .int ((r18.2 - 1) &&& 255)), (3, .int r18.2), (0, .ref 64), (1, .int a1), (2, .int a2)], [], (q_kM r22 c n))) rfl rfl (q_d_neF h26) ?_
                  refine q_RP_seg (g2 := (189, [(4, .int ((r18.2 - 1) &&& 255)), (3, .int r18.2), (0, .ref 64), (1, .int a1), (2, .int a2)], [.int 19, .int a1], (q_kM r22 c n))) 2 (fun _ _ => rfl) ?_
                  refine q_RP_rsT (g2 := (202, [(4, .int ((r18.2 - 1) &&& 255)), (3, .int r18.2), (0, .ref 64), (1, .int a1), (2, .int a2)], [], (q_kM r22 c n))) rfl rfl (q_d_neF h22) ?_
                  refine q_RP_seg (g2 := (205, [(4, .int ((r18.2 - 1) &&& 255)), (3, .int r18.2), (0, .ref 64), (1, .int a1), (2, .int a2)], [.int ((r18.2 - 1) &&& 255), .ref 64], (q_kM r22 c n))) 2 (fun _ _ => rfl) ?_
                  refine q_RP_call (v := (some (.int (dz_M261_64 r22 ((r18.2 - 1) &&& 255)).2))) (h2 := (q_kM (dz_M261_64 r22 ((r18.2 - 1) &&& 255)).1 c n)) rfl rfl ((dzt_M261_64 r22 c n ((r18.2 - 1) &&& 255)).le (Nat.le_of_ble_eq_true rfl)) ?_
                  generalize dz_M261_64 r22 ((r18.2 - 1) &&& 255) = r24
                  refine q_RP_let ?_
                  show q_RP _ _ _ (208, [(4, .int ((r18.2 - 1) &&& 255)), (3, .int r18.2), (0, .ref 64), (1, .int a1), (2, .int a2)], [.int r24.2], (q_kM r24.1 c n)) _ _
                  refine q_RP_seg (g2 := (209, [(4, .int ((r18.2 - 1) &&& 255)), (3, .int r18.2), (0, .ref 64), (1, .int a1), (2, .int a2)], [], (q_kM r24.1 c n))) 1 (fun _ _ => rfl) ?_
                  exact q_RP_ret rfl rfl rfl
def dz_M265_64 (s : q_S) (a1 : Int32) (a2 : Int32) (a3 : Int32) : q_S :=
  cond (decide (9 < ((a1 - a1 / 16 * 16) + (a2 - a2 / 16 * 16)) + a3)) (cond (decide (9 < ((a1 / 16) + (a2 / 16)) + 1)) ((q_sA (q_sA s 15 (upd (s.1 15) 5 (vp_nar .boolean 1))) 14 (upd (s.1 14) 0 (((16 * ((((a1 / 16) + (a2 / 16)) + 1) - 10)) + ((((a1 - a1 / 16 * 16) + (a2 - a2 / 16 * 16)) + a3) - 10)) &&& 255)))) ((q_sA (q_sA s 15 (upd (s.1 15) 5 (vp_nar .boolean 0))) 14 (upd (s.1 14) 0 (((16 * ((((a1 / 16) + (a2 / 16)) + 1) - 0)) + ((((a1 - a1 / 16 * 16) + (a2 - a2 / 16 * 16)) + a3) - 10)) &&& 255))))) (cond (decide (9 < ((a1 / 16) + (a2 / 16)) + 0)) ((q_sA (q_sA s 15 (upd (s.1 15) 5 (vp_nar .boolean 1))) 14 (upd (s.1 14) 0 (((16 * ((((a1 / 16) + (a2 / 16)) + 0) - 10)) + ((((a1 - a1 / 16 * 16) + (a2 - a2 / 16 * 16)) + a3) - 0)) &&& 255)))) ((q_sA (q_sA s 15 (upd (s.1 15) 5 (vp_nar .boolean 0))) 14 (upd (s.1 14) 0 (((16 * ((((a1 / 16) + (a2 / 16)) + 0) - 0)) + ((((a1 - a1 / 16 * 16) + (a2 - a2 / 16 * 16)) + a3) - 0)) &&& 255)))))
set_option maxHeartbeats 4000000 in
theorem dzt_M265_64 (s : q_S) (c n : Nat) (a1 : Int32) (a2 : Int32) (a3 : Int32) : q_Ca q_TB0 1 264 [.ref 64, .int a1, .int a2, .int a3] (q_kM s c n) ((q_oSM c n) (dz_M265_64 s a1 a2 a3)) := by
  refine q_CaT_of (φ := (q_oSM c n)) (Nat.le_of_ble_eq_true rfl) ?_
  unfold dz_M265_64
  refine q_RT_seg (g2 := (26, [(4, .int (((a1 - a1 / 16 * 16) + (a2 - a2 / 16 * 16)) + a3)), (0, .ref 64), (1, .int a1), (2, .int a2), (3, .int a3)], [.int 9, .int (((a1 - a1 / 16 * 16) + (a2 - a2 / 16 * 16)) + a3), .int ((a1 / 16) + (a2 / 16))], (q_kM s c n))) 19 (fun _ _ => rfl) ?_
  cases h1 : decide (9 < ((a1 - a1 / 16 * 16) + (a2 - a2 / 16 * 16)) + a3) with
  | true =>
    refine q_RT_cT ?_
    refine q_RT_rsF (g2 := (29, [(4, .int (((a1 - a1 / 16 * 16) + (a2 - a2 / 16 * 16)) + a3)), (0, .ref 64), (1, .int a1), (2, .int a2), (3, .int a3)], [.int ((a1 / 16) + (a2 / 16))], (q_kM s c n))) rfl rfl (q_d_geT h1) ?_
    refine q_RT_seg (g2 := (43, [(5, .int (((a1 / 16) + (a2 / 16)) + 1)), (4, .int (((a1 - a1 / 16 * 16) + (a2 - a2 / 16 * 16)) + a3)), (0, .ref 64), (1, .int a1), (2, .int a2), (3, .int a3)], [.int 9, .int (((a1 - a1 / 16 * 16) + (a2 - a2 / 16 * 16)) + a3), .int (((a1 - a1 / 16 * 16) + (a2 - a2 / 16 * 16)) + a3)], (q_kM s c n))) 7 (fun _ _ => rfl) ?_
    refine q_RT_rsF (g2 := (46, [(5, .int (((a1 / 16) + (a2 / 16)) + 1)), (4, .int (((a1 - a1 / 16 * 16) + (a2 - a2 / 16 * 16)) + a3)), (0, .ref 64), (1, .int a1), (2, .int a2), (3, .int a3)], [.int (((a1 - a1 / 16 * 16) + (a2 - a2 / 16 * 16)) + a3)], (q_kM s c n))) rfl rfl (q_d_geT h1) ?_
    refine q_RT_seg (g2 := (64, [(4, .int ((((a1 - a1 / 16 * 16) + (a2 - a2 / 16 * 16)) + a3) - 10)), (5, .int (((a1 / 16) + (a2 / 16)) + 1)), (0, .ref 64), (1, .int a1), (2, .int a2), (3, .int a3)], [.int 9, .int (((a1 / 16) + (a2 / 16)) + 1), .int 5, .ref 79], (q_kM s c n))) 9 (fun _ _ => rfl) ?_
    cases h2 : decide (9 < ((a1 / 16) + (a2 / 16)) + 1) with
    | true =>
      refine q_RT_cT ?_
      refine q_RT_rsF (g2 := (67, [(4, .int ((((a1 - a1 / 16 * 16) + (a2 - a2 / 16 * 16)) + a3) - 10)), (5, .int (((a1 / 16) + (a2 / 16)) + 1)), (0, .ref 64), (1, .int a1), (2, .int a2), (3, .int a3)], [.int 5, .ref 79], (q_kM s c n))) rfl rfl (q_d_geT h2) ?_
      refine q_RT_seg (g2 := (79, [(4, .int ((((a1 - a1 / 16 * 16) + (a2 - a2 / 16 * 16)) + a3) - 10)), (5, .int (((a1 / 16) + (a2 / 16)) + 1)), (0, .ref 64), (1, .int a1), (2, .int a2), (3, .int a3)], [.int 9, .int (((a1 / 16) + (a2 / 16)) + 1), .int (((a1 / 16) + (a2 / 16)) + 1)], (q_kM (q_sA s 15 (upd (s.1 15) 5 (vp_nar .boolean 1))) c n))) 6 (fun _ _ => rfl) ?_
      refine q_RT_rsF (g2 := (82, [(4, .int ((((a1 - a1 / 16 * 16) + (a2 - a2 / 16 * 16)) + a3) - 10)), (5, .int (((a1 / 16) + (a2 / 16)) + 1)), (0, .ref 64), (1, .int a1), (2, .int a2), (3, .int a3)], [.int (((a1 / 16) + (a2 / 16)) + 1)], (q_kM (q_sA s 15 (upd (s.1 15) 5 (vp_nar .boolean 1))) c n))) rfl rfl (q_d_geT h2) ?_
      refine q_RT_seg (g2 := (109, [(5, .int ((((a1 / 16) + (a2 / 16)) + 1) - 10)), (4, .int ((((a1 - a1 / 16 * 16) + (a2 - a2 / 16 * 16)) + a3) - 10)), (0, .ref 64), (1, .int a1), (2, .int a2), (3, .int a3)], [], (q_kM (q_sA (q_sA s 15 (upd (s.1 15) 5 (vp_nar .boolean 1))) 14 (upd (s.1 14) 0 (((16 * ((((a1 / 16) + (a2 / 16)) + 1) - 10)) + ((((a1 - a1 / 16 * 16) + (a2 - a2 / 16 * 16)) + a3) - 10)) &&& 255))) c n))) 15 (fun _ _ => rfl) ?_
      exact q_RT_ret rfl rfl rfl
    | false =>
      refine q_RT_cF ?_
      refine q_RT_rsT (g2 := (71, [(4, .int ((((a1 - a1 / 16 * 16) + (a2 - a2 / 16 * 16)) + a3) - 10)), (5, .int (((a1 / 16) + (a2 / 16)) + 1)), (0, .ref 64), (1, .int a1), (2, .int a2), (3, .int a3)], [.int 5, .ref 79], (q_kM s c n))) rfl rfl (q_d_geF h2) ?_
      refine q_RT_seg (g2 := (79, [(4, .int ((((a1 - a1 / 16 * 16) + (a2 - a2 / 16 * 16)) + a3) - 10)), (5, .int (((a1 / 16) + (a2 / 16)) + 1)), (0, .ref 64), (1, .int a1), (2, .int a2), (3, .int a3)], [.int 9, .int (((a1 / 16) + (a2 / 16)) + 1), .int (((a1 / 16) + (a2 / 16)) + 1)], (q_kM (q_sA s 15 (upd (s.1 15) 5 (vp_nar .boolean 0))) c n))) 5 (fun _ _ => rfl) ?_
      refine q_RT_rsT (g2 := (87, [(4, .int ((((a1 - a1 / 16 * 16) + (a2 - a2 / 16 * 16)) + a3) - 10)), (5, .int (((a1 / 16) + (a2 / 16)) + 1)), (0, .ref 64), (1, .int a1), (2, .int a2), (3, .int a3)], [.int (((a1 / 16) + (a2 / 16)) + 1)], (q_kM (q_sA s 15 (upd (s.1 15) 5 (vp_nar .boolean 0))) c n))) rfl rfl (q_d_geF h2) ?_
      refine q_RT_seg (g2 := (109, [(5, .int ((((a1 / 16) + (a2 / 16)) + 1) - 0)), (4, .int ((((a1 - a1 / 16 * 16) + (a2 - a2 / 16 * 16)) + a3) - 10)), (0, .ref 64), (1, .int a1), (2, .int a2), (3, .int a3)], [], (q_kM (q_sA (q_sA s 15 (upd (s.1 15) 5 (vp_nar .boolean 0))) 14 (upd (s.1 14) 0 (((16 * ((((a1 / 16) + (a2 / 16)) + 1) - 0)) + ((((a1 - a1 / 16 * 16) + (a2 - a2 / 16 * 16)) + a3) - 10)) &&& 255))) c n))) 14 (fun _ _ => rfl) ?_
      exact q_RT_ret rfl rfl rfl
  | false =>
    refine q_RT_cF ?_
    refine q_RT_rsT (g2 := (33, [(4, .int (((a1 - a1 / 16 * 16) + (a2 - a2 / 16 * 16)) + a3)), (0, .ref 64), (1, .int a1), (2, .int a2), (3, .int a3)], [.int ((a1 / 16) + (a2 / 16))], (q_kM s c n))) rfl rfl (q_d_geF h1) ?_
    refine q_RT_seg (g2 := (43, [(5, .int (((a1 / 16) + (a2 / 16)) + 0)), (4, .int (((a1 - a1 / 16 * 16) + (a2 - a2 / 16 * 16)) + a3)), (0, .ref 64), (1, .int a1), (2, .int a2), (3, .int a3)], [.int 9, .int (((a1 - a1 / 16 * 16) + (a2 - a2 / 16 * 16)) + a3), .int (((a1 - a1 / 16 * 16) + (a2 - a2 / 16 * 16)) + a3)], (q_kM s c n))) 6 (fun _ _ => rfl) ?_
    refine q_RT_rsT (g2 := (51, [(5, .int (((a1 / 16) + (a2 / 16)) + 0)), (4, .int (((a1 - a1 / 16 * 16) + (a2 - a2 / 16 * 16)) + a3)), (0, .ref 64), (1, .int a1), (2, .int a2), (3, .int a3)], [.int (((a1 - a1 / 16 * 16) + (a2 - a2 / 16 * 16)) + a3)], (q_kM s c n))) rfl rfl (q_d_geF h1) ?_
    refine q_RT_seg (g2 := (64, [(4, .int ((((a1 - a1 / 16 * 16) + (a2 - a2 / 16 * 16)) + a3) - 0)), (5, .int (((a1 / 16) + (a2 / 16)) + 0)), (0, .ref 64), (1, .int a1), (2, .int a2), (3, .int a3)], [.int 9, .int (((a1 / 16) + (a2 / 16)) + 0), .int 5, .ref 79], (q_kM s c n))) 8 (fun _ _ => rfl) ?_
    cases h3 : decide (9 < ((a1 / 16) + (a2 / 16)) + 0) with
    | true =>
      refine q_RT_cT ?_
      refine q_RT_rsF (g2 := (67, [(4, .int ((((a1 - a1 / 16 * 16) + (a2 - a2 / 16 * 16)) + a3) - 0)), (5, .int (((a1 / 16) + (a2 / 16)) + 0)), (0, .ref 64), (1, .int a1), (2, .int a2), (3, .int a3)], [.int 5, .ref 79], (q_kM s c n))) rfl rfl (q_d_geT h3) ?_
      refine q_RT_seg (g2 := (79, [(4, .int ((((a1 - a1 / 16 * 16) + (a2 - a2 / 16 * 16)) + a3) - 0)), (5, .int (((a1 / 16) + (a2 / 16)) + 0)), (0, .ref 64), (1, .int a1), (2, .int a2), (3, .int a3)], [.int 9, .int (((a1 / 16) + (a2 / 16)) + 0), .int (((a1 / 16) + (a2 / 16)) + 0)], (q_kM (q_sA s 15 (upd (s.1 15) 5 (vp_nar .boolean 1))) c n))) 6 (fun _ _ => rfl) ?_
      refine q_RT_rsF (g2 := (82, [(4, .int ((((a1 - a1 / 16 * 16) + (a2 - a2 / 16 * 16)) + a3) - 0)), (5, .int (((a1 / 16) + (a2 / 16)) + 0)), (0, .ref 64), (1, .int a1), (2, .int a2), (3, .int a3)], [.int (((a1 / 16) + (a2 / 16)) + 0)], (q_kM (q_sA s 15 (upd (s.1 15) 5 (vp_nar .boolean 1))) c n))) rfl rfl (q_d_geT h3) ?_
      refine q_RT_seg (g2 := (109, [(5, .int ((((a1 / 16) + (a2 / 16)) + 0) - 10)), (4, .int ((((a1 - a1 / 16 * 16) + (a2 - a2 / 16 * 16)) + a3) - 0)), (0, .ref 64), (1, .int a1), (2, .int a2), (3, .int a3)], [], (q_kM (q_sA (q_sA s 15 (upd (s.1 15) 5 (vp_nar .boolean 1))) 14 (upd (s.1 14) 0 (((16 * ((((a1 / 16) + (a2 / 16)) + 0) - 10)) + ((((a1 - a1 / 16 * 16) + (a2 - a2 / 16 * 16)) + a3) - 0)) &&& 255))) c n))) 15 (fun _ _ => rfl) ?_
      exact q_RT_ret rfl rfl rfl
    | false =>
      refine q_RT_cF ?_
      refine q_RT_rsT (g2 := (71, [(4, .int ((((a1 - a1 / 16 * 16) + (a2 - a2 / 16 * 16)) + a3) - 0)), (5, .int (((a1 / 16) + (a2 / 16)) + 0)), (0, .ref 64), (1, .int a1), (2, .int a2), (3, .int a3)], [.int 5, .ref 79], (q_kM s c n))) rfl rfl (q_d_geF h3) ?_
      refine q_RT_seg (g2 := (79, [(4, .int ((((a1 - a1 / 16 * 16) + (a2 - a2 / 16 * 16)) + a3) - 0)), (5, .int (((a1 / 16) + (a2 / 16)) + 0)), (0, .ref 64), (1, .int a1), (2, .int a2), (3, .int a3)], [.int 9, .int (((a1 / 16) + (a2 / 16)) + 0), .int (((a1 / 16) + (a2 / 16)) + 0)], (q_kM (q_sA s 15 (upd (s.1 15) 5 (vp_nar .boolean 0))) c n))) 5 (fun _ _ => rfl) ?_
      refine q_RT_rsT (g2 := (87, [(4, .int ((((a1 - a1 / 16 * 16) + (a2 - a2 / 16 * 16)) + a3) - 0)), (5, .int (((a1 / 16) + (a2 / 16)) + 0)), (0, .ref 64), (1, .int a1), (2, .int a2), (3, .int a3)], [.int (((a1 / 16) + (a2 / 16)) + 0)], (q_kM (q_sA s 15 (upd (s.1 15) 5 (vp_nar .boolean 0))) c n))) rfl rfl (q_d_geF h3) ?_
      refine q_RT_seg (g2 := (109, [(5, .int ((((a1 / 16) + (a2 / 16)) + 0) - 0)), (4, .int ((((a1 - a1 / 16 * 16) + (a2 - a2 / 16 * 16)) + a3) - 0)), (0, .ref 64), (1, .int a1), (2, .int a2), (3, .int a3)], [], (q_kM (q_sA (q_sA s 15 (upd (s.1 15) 5 (vp_nar .boolean 0))) 14 (upd (s.1 14) 0 (((16 * ((((a1 / 16) + (a2 / 16)) + 0) - 0)) + ((((a1 - a1 / 16 * 16) + (a2 - a2 / 16 * 16)) + a3) - 0)) &&& 255))) c n))) 14 (fun _ _ => rfl) ?_
      exact q_RT_ret rfl rfl rfl
def dz_M267_64_t_56 (s : q_S) (v2 : Int32) (v3 : Int32) (v4 : Int32) : Option (q_S) :=
  cond (decide ((s.1 15) 2 = 0)) (q_let (dz_M261_64 s ((s.1 14) 0)) fun r4 => some r4.1) (q_let (dz_M266_64 s v3 v2 v4) fun r5 => q_let (dz_M261_64 r5 ((r5.1 14) 0)) fun r6 => some r6.1)
set_option maxHeartbeats 4000000 in
theorem dzt_M267_64_t_56 (c n : Nat) (s : q_S) (v2 : Int32) (v3 : Int32) (v4 : Int32) : q_RP q_TB0 2 266 (56, [(0, .ref 64), (2, .int v2), (3, .int v3), (4, .int v4)], [], (q_kM s c n)) (q_oSM c n) (dz_M267_64_t_56 s v2 v3 v4) := by
  unfold dz_M267_64_t_56
  refine q_RP_seg (g2 := (62, [(0, .ref 64), (2, .int v2), (3, .int v3), (4, .int v4)], [.int ((s.1 15) 2)], (q_kM s c n))) 4 (fun _ _ => rfl) ?_
  cases h2 : decide ((s.1 15) 2 = 0) with
  | true =>
    refine q_RP_cT ?_
    refine q_RP_rsT (g2 := (73, [(0, .ref 64), (2, .int v2), (3, .int v3), (4, .int v4)], [], (q_kM s c n))) rfl rfl h2 ?_
    refine q_RP_seg (g2 := (80, [(0, .ref 64), (2, .int v2), (3, .int v3), (4, .int v4)], [.int ((s.1 14) 0), .ref 64], (q_kM s c n))) 5 (fun _ _ => rfl) ?_
    refine q_RP_call (v := (some (.int (dz_M261_64 s ((s.1 14) 0)).2))) (h2 := (q_kM (dz_M261_64 s ((s.1 14) 0)).1 c n)) rfl rfl ((dzt_M261_64 s c n ((s.1 14) 0)).le (Nat.le_of_ble_eq_true rfl)) ?_
    generalize dz_M261_64 s ((s.1 14) 0) = r4
    refine q_RP_let ?_
    show q_RP _ _ _ (83, [(0, .ref 64), (2, .int v2), (3, .int v3), (4, .int v4)], [.int r4.2], (q_kM r4.1 c n)) _ _
    refine q_RP_seg (g2 := (84, [(0, .ref 64), (2, .int v2), (3, .int v3), (4, .int v4)], [], (q_kM r4.1 c n))) 1 (fun _ _ => rfl) ?_
    exact q_RP_ret rfl rfl rfl
  | false =>
    refine q_RP_cF ?_
    refine q_RP_rsF (g2 := (65, [(0, .ref 64), (2, .int v2), (3, .int v3), (4, .int v4)], [], (q_kM s c n))) rfl rfl h2 ?_
    refine q_RP_seg (g2 := (70, [(0, .ref 64), (2, .int v2), (3, .int v3), (4, .int v4)], [.int v4, .int v2, .int v3, .ref 64], (q_kM s c n))) 4 (fun _ _ => rfl) ?_
    refine q_RP_call (v := none) (h2 := (q_kM (dz_M266_64 s v3 v2 v4) c n)) rfl rfl ((dzt_M266_64 s c n v3 v2 v4).le (Nat.le_of_ble_eq_true rfl)) ?_
    generalize dz_M266_64 s v3 v2 v4 = r5
    refine q_RP_let ?_
    show q_RP _ _ _ (73, [(0, .ref 64), (2, .int v2), (3, .int v3), (4, .int v4)], [], (q_kM r5 c n)) _ _
    refine q_RP_seg (g2 := (80, [(0, .ref 64), (2, .int v2), (3, .int v3), (4, .int v4)], [.int ((r5.1 14) 0), .ref 64], (q_kM r5 c n))) 5 (fun _ _ => rfl) ?_
    refine q_RP_call (v := (some (.int (dz_M261_64 r5 ((r5.1 14) 0)).2))) (h2 := (q_kM (dz_M261_64 r5 ((r5.1 14) 0)).1 c n)) rfl rfl ((dzt_M261_64 r5 c n ((r5.1 14) 0)).le (Nat.le_of_ble_eq_true rfl)) ?_
    generalize dz_M261_64 r5 ((r5.1 14) 0) = r6
    refine q_RP_let ?_
    show q_RP _ _ _ (83, [(0, .ref 64), (2, .int v2), (3, .int v3), (4, .int v4)], [.int r6.2], (q_kM r6.1 c n)) _ _
    refine q_RP_seg (g2 := (84, [(0, .ref 64), (2, .int v2), (3, .int v3), (4, .int v4)], [], (q_kM r6.1 c n))) 1 (fun _ _ => rfl) ?_
    exact q_RP_ret rfl rfl rfl
def dz_M267_64_t (s : q_S) (a2 : Int32) : Option (q_S) :=
  (dz_M257_64 s 5 1).bind fun r2 => (dz_M264_64 s a2).bind fun r3 => cond (decide ((r3.1 15) 2 = 0)) (dz_M267_64_t_56 r3 a2 ((s.1 14) 0) r2) (q_let (dz_M265_64 r3 ((s.1 14) 0) a2 r2) fun r7 => q_let (dz_M261_64 r7 ((r7.1 14) 0)) fun r8 => some r8.1)
set_option maxHeartbeats 4000000 in
theorem dzt_M267_64_t (s : q_S) (c n : Nat) (a2 : Int32) (x : q_S) (h : dz_M267_64_t s a2 = some x) : q_Ca q_TB0 3 266 [.ref 64, .int 1, .int a2] (q_kM s c n) ((q_oSM c n) x) := by
  refine q_CaP_of (φ := (q_oSM c n)) (Nat.le_of_ble_eq_true rfl) ?_ h
  clear h
  unfold dz_M267_64_t
  refine q_RP_seg (g2 := (6, [(0, .ref 64), (1, .int 1), (2, .int a2)], [.int ((s.1 14) 0)], (q_kM s c n))) 4 (fun _ _ => rfl) ?_
  refine q_RP_seg (g2 := (10, [(3, .int ((s.1 14) 0)), (0, .ref 64), (1, .int 1), (2, .int a2)], [.int 1, .int 5, .ref 64], (q_kM s c n))) 4 (fun _ _ => rfl) ?_
  refine q_RP_bd fun r2 er2 => ?_
  refine q_RP_call (v := (some (.int r2))) (h2 := (q_kM s c n)) rfl rfl ((dzt_M257_64 s c n 5 1 r2 er2).le (Nat.le_of_ble_eq_true rfl)) ?_
  show q_RP _ _ _ (13, [(3, .int ((s.1 14) 0)), (0, .ref 64), (1, .int 1), (2, .int a2)], [.int r2], (q_kM s c n)) _ _
  refine q_RP_seg (g2 := (29, [(4, .int r2), (3, .int ((s.1 14) 0)), (0, .ref 64), (1, .int 1), (2, .int a2)], [.int a2, .ref 64], (q_kM s c n))) 6 (fun _ _ => rfl) ?_
  refine q_RP_bd fun r3 er3 => ?_
  refine q_RP_call (v := none) (h2 := (q_kM r3 c n)) rfl rfl ((dzt_M264_64 s c n a2 r3 er3).le (Nat.le_of_ble_eq_true rfl)) ?_
  show q_RP _ _ _ (32, [(4, .int r2), (3, .int ((s.1 14) 0)), (0, .ref 64), (1, .int 1), (2, .int a2)], [], (q_kM r3 c n)) _ _
  refine q_RP_seg (g2 := (38, [(4, .int r2), (3, .int ((s.1 14) 0)), (0, .ref 64), (1, .int 1), (2, .int a2)], [.int ((r3.1 15) 2)], (q_kM r3 c n))) 4 (fun _ _ => rfl) ?_
  cases h1 : decide ((r3.1 15) 2 = 0) with
  | true =>
    refine q_RP_cT ?_
    refine q_RP_rsT (g2 := (56, [(4, .int r2), (3, .int ((s.1 14) 0)), (0, .ref 64), (1, .int 1), (2, .int a2)], [], (q_kM r3 c n))) rfl rfl h1 ?_
    exact q_RP_xt (q_xt_mk (q_mn1 2 rfl (q_mn1 4 rfl (q_mn1 1 rfl (q_mn1 0 rfl q_mn0)))) rfl) (dzt_M267_64_t_56 c n r3 a2 ((s.1 14) 0) r2)
  | false =>
    refine q_RP_cF ?_
    refine q_RP_rsF (g2 := (41, [(4, .int r2), (3, .int ((s.1 14) 0)), (0, .ref 64), (1, .int 1), (2, .int a2)], [], (q_kM r3 c n))) rfl rfl h1 ?_
    refine q_RP_seg (g2 := (50, [(4, .int r2), (3, .int ((s.1 14) 0)), (0, .ref 64), (1, .int 1), (2, .int a2)], [.int r2, .int a2, .int ((s.1 14) 0), .ref 64], (q_kM r3 c n))) 6 (fun _ _ => rfl) ?_
    refine q_RP_call (v := none) (h2 := (q_kM (dz_M265_64 r3 ((s.1 14) 0) a2 r2) c n)) rfl rfl ((dzt_M265_64 r3 c n ((s.1 14) 0) a2 r2).le (Nat.le_of_ble_eq_true rfl)) ?_
    generalize dz_M265_64 r3 ((s.1 14) 0) a2 r2 = r7
    refine q_RP_let ?_
    show q_RP _ _ _ (53, [(4, .int r2), (3, .int ((s.1 14) 0)), (0, .ref 64), (1, .int 1), (2, .int a2)], [], (q_kM r7 c n)) _ _
    refine q_RP_seg (g2 := (80, [(4, .int r2), (3, .int ((s.1 14) 0)), (0, .ref 64), (1, .int 1), (2, .int a2)], [.int ((r7.1 14) 0), .ref 64], (q_kM r7 c n))) 6 (fun _ _ => rfl) ?_
    refine q_RP_call (v := (some (.int (dz_M261_64 r7 ((r7.1 14) 0)).2))) (h2 := (q_kM (dz_M261_64 r7 ((r7.1 14) 0)).1 c n)) rfl rfl ((dzt_M261_64 r7 c n ((r7.1 14) 0)).le (Nat.le_of_ble_eq_true rfl)) ?_
    generalize dz_M261_64 r7 ((r7.1 14) 0) = r8
    refine q_RP_let ?_
    show q_RP _ _ _ (83, [(4, .int r2), (3, .int ((s.1 14) 0)), (0, .ref 64), (1, .int 1), (2, .int a2)], [.int r8.2], (q_kM r8.1 c n)) _ _
    refine q_RP_seg (g2 := (84, [(4, .int r2), (3, .int ((s.1 14) 0)), (0, .ref 64), (1, .int 1), (2, .int a2)], [], (q_kM r8.1 c n))) 1 (fun _ _ => rfl) ?_
    exact q_RP_ret rfl rfl rfl
def dz_M269_64 (s : q_S) (a1 : Int32) (a2 : Int32) : Option (q_S) :=
  cond (decide (a1 < 0)) (cond (decide (((s.1 14) 0) &&& a2 = 0)) (q_let (dz_M206 (q_sA s 15 (upd (s.1 15) 4 (vp_nar .boolean 1))) a2 7) fun r38 => cond r38 (q_let ((q_sA s 15 (upd (s.1 15) 4 (vp_nar .boolean 1)))) fun r39 => q_let (dz_M206 (q_sA r39 15 (upd (r39.1 15) 0 (vp_nar .boolean 1))) a2 6) fun r40 => cond r40 (q_let ((q_sA r39 15 (upd (r39.1 15) 0 (vp_nar .boolean 1)))) fun r41 => some (q_sA r41 15 (upd (r41.1 15) 1 (vp_nar .boolean 1)))) (q_let ((q_sA r39 15 (upd (r39.1 15) 0 (vp_nar .boolean 1)))) fun r42 => some (q_sA r42 15 (upd (r42.1 15) 1 (vp_nar .boolean 0))))) (q_let ((q_sA s 15 (upd (s.1 15) 4 (vp_nar .boolean 1)))) fun r43 => q_let (dz_M206 (q_sA r43 15 (upd (r43.1 15) 0 (vp_nar .boolean 0))) a2 6) fun r44 => cond r44 (q_let ((q_sA r43 15 (upd (r43.1 15) 0 (vp_nar .boolean 0)))) fun r45 => some (q_sA r45 15 (upd (r45.1 15) 1 (vp_nar .boolean 1)))) (q_let ((q_sA r43 15 (upd (r43.1 15) 0 (vp_nar .boolean 0)))) fun r46 => some (q_sA r46 15 (upd (r46.1 15) 1 (vp_nar .boolean 0)))))) (q_let (dz_M206 (q_sA s 15 (upd (s.1 15) 4 (vp_nar .boolean 0))) a2 7) fun r47 => cond r47 (q_let ((q_sA s 15 (upd (s.1 15) 4 (vp_nar .boolean 0)))) fun r48 => q_let (dz_M206 (q_sA r48 15 (upd (r48.1 15) 0 (vp_nar .boolean 1))) a2 6) fun r49 => cond r49 (q_let ((q_sA r48 15 (upd (r48.1 15) 0 (vp_nar .boolean 1)))) fun r50 => some (q_sA r50 15 (upd (r50.1 15) 1 (vp_nar .boolean 1)))) (q_let ((q_sA r48 15 (upd (r48.1 15) 0 (vp_nar .boolean 1)))) fun r51 => some (q_sA r51 15 (upd (r51.1 15) 1 (vp_nar .boolean 0))))) (q_let ((q_sA s 15 (upd (s.1 15) 4 (vp_nar .boolean 0)))) fun r52 => q_let (dz_M206 (q_sA r52 15 (upd (r52.1 15) 0 (vp_nar .boolean 0))) a2 6) fun r53 => cond r53 (q_let ((q_sA r52 15 (upd (r52.1 15) 0 (vp_nar .boolean 0)))) fun r54 => some (q_sA r54 15 (upd (r54.1 15) 1 (vp_nar .boolean 1)))) (q_let ((q_sA r52 15 (upd (r52.1 15) 0 (vp_nar .boolean 0)))) fun r55 => some (q_sA r55 15 (upd (r55.1 15) 1 (vp_nar .boolean 0))))))) (cond (decide (16 < a1)) (cond (decide (((s.1 14) 0) &&& a2 = 0)) (q_let (dz_M206 (q_sA s 15 (upd (s.1 15) 4 (vp_nar .boolean 1))) a2 7) fun r56 => cond r56 (q_let ((q_sA s 15 (upd (s.1 15) 4 (vp_nar .boolean 1)))) fun r57 => q_let (dz_M206 (q_sA r57 15 (upd (r57.1 15) 0 (vp_nar .boolean 1))) a2 6) fun r58 => cond r58 (q_let ((q_sA r57 15 (upd (r57.1 15) 0 (vp_nar .boolean 1)))) fun r59 => some (q_sA r59 15 (upd (r59.1 15) 1 (vp_nar .boolean 1)))) (q_let ((q_sA r57 15 (upd (r57.1 15) 0 (vp_nar .boolean 1)))) fun r60 => some (q_sA r60 15 (upd (r60.1 15) 1 (vp_nar .boolean 0))))) (q_let ((q_sA s 15 (upd (s.1 15) 4 (vp_nar .boolean 1)))) fun r61 => q_let (dz_M206 (q_sA r61 15 (upd (r61.1 15) 0 (vp_nar .boolean 0))) a2 6) fun r62 => cond r62 (q_let ((q_sA r61 15 (upd (r61.1 15) 0 (vp_nar .boolean 0)))) fun r63 => some (q_sA r63 15 (upd (r63.1 15) 1 (vp_nar .boolean 1)))) (q_let ((q_sA r61 15 (upd (r61.1 15) 0 (vp_nar .boolean 0)))) fun r64 => some (q_sA r64 15 (upd (r64.1 15) 1 (vp_nar .boolean 0)))))) (q_let (dz_M206 (q_sA s 15 (upd (s.1 15) 4 (vp_nar .boolean 0))) a2 7) fun r65 => cond r65 (q_let ((q_sA s 15 (upd (s.1 15) 4 (vp_nar .boolean 0)))) fun r66 => q_let (dz_M206 (q_sA r66 15 (upd (r66.1 15) 0 (vp_nar .boolean 1))) a2 6) fun r67 => cond r67 (q_let ((q_sA r66 15 (upd (r66.1 15) 0 (vp_nar .boolean 1)))) fun r68 => some (q_sA r68 15 (upd (r68.1 15) 1 (vp_nar .boolean 1)))) (q_let ((q_sA r66 15 (upd (r66.1 15) 0 (vp_nar .boolean 1)))) fun r69 => some (q_sA r69 15 (upd (r69.1 15) 1 (vp_nar .boolean 0))))) (q_let ((q_sA s 15 (upd (s.1 15) 4 (vp_nar .boolean 0)))) fun r70 => q_let (dz_M206 (q_sA r70 15 (upd (r70.1 15) 0 (vp_nar .boolean 0))) a2 6) fun r71 => cond r71 (q_let ((q_sA r70 15 (upd (r70.1 15) 0 (vp_nar .boolean 0)))) fun r72 => some (q_sA r72 15 (upd (r72.1 15) 1 (vp_nar .boolean 1)))) (q_let ((q_sA r70 15 (upd (r70.1 15) 0 (vp_nar .boolean 0)))) fun r73 => some (q_sA r73 15 (upd (r73.1 15) 1 (vp_nar .boolean 0))))))) (cond (decide (a1 = 0)) ((dz_M262_64 s 0 a2).bind fun r74 => some r74) (cond (decide (a1 = 1)) ((dz_M262_64 s 1 a2).bind fun r75 => some r75) (cond (decide (a1 = 2)) ((dz_M262_64 s 2 a2).bind fun r76 => some r76) (cond (decide (a1 = 3)) (cond (decide (((s.1 14) 0) &&& a2 = 0)) (q_let (dz_M206 (q_sA s 15 (upd (s.1 15) 4 (vp_nar .boolean 1))) a2 7) fun r77 => cond r77 (q_let ((q_sA s 15 (upd (s.1 15) 4 (vp_nar .boolean 1)))) fun r78 => q_let (dz_M206 (q_sA r78 15 (upd (r78.1 15) 0 (vp_nar .boolean 1))) a2 6) fun r79 => cond r79 (q_let ((q_sA r78 15 (upd (r78.1 15) 0 (vp_nar .boolean 1)))) fun r80 => some (q_sA r80 15 (upd (r80.1 15) 1 (vp_nar .boolean 1)))) (q_let ((q_sA r78 15 (upd (r78.1 15) 0 (vp_nar .boolean 1)))) fun r81 => some (q_sA r81 15 (upd (r81.1 15) 1 (vp_nar .boolean 0))))) (q_let ((q_sA s 15 (upd (s.1 15) 4 (vp_nar .boolean 1)))) fun r82 => q_let (dz_M206 (q_sA r82 15 (upd (r82.1 15) 0 (vp_nar .boolean 0))) a2 6) fun r83 => cond r83 (q_let ((q_sA r82 15 (upd (r82.1 15) 0 (vp_nar .boolean 0)))) fun r84 => some (q_sA r84 15 (upd (r84.1 15) 1 (vp_nar .boolean 1)))) (q_let ((q_sA r82 15 (upd (r82.1 15) 0 (vp_nar .boolean 0)))) fun r85 => some (q_sA r85 15 (upd (r85.1 15) 1 (vp_nar .boolean 0)))))) (q_let (dz_M206 (q_sA s 15 (upd (s.1 15) 4 (vp_nar .boolean 0))) a2 7) fun r86 => cond r86 (q_let ((q_sA s 15 (upd (s.1 15) 4 (vp_nar .boolean 0)))) fun r87 => q_let (dz_M206 (q_sA r87 15 (upd (r87.1 15) 0 (vp_nar .boolean 1))) a2 6) fun r88 => cond r88 (q_let ((q_sA r87 15 (upd (r87.1 15) 0 (vp_nar .boolean 1)))) fun r89 => some (q_sA r89 15 (upd (r89.1 15) 1 (vp_nar .boolean 1)))) (q_let ((q_sA r87 15 (upd (r87.1 15) 0 (vp_nar .boolean 1)))) fun r90 => some (q_sA r90 15 (upd (r90.1 15) 1 (vp_nar .boolean 0))))) (q_let ((q_sA s 15 (upd (s.1 15) 4 (vp_nar .boolean 0)))) fun r91 => q_let (dz_M206 (q_sA r91 15 (upd (r91.1 15) 0 (vp_nar .boolean 0))) a2 6) fun r92 => cond r92 (q_let ((q_sA r91 15 (upd (r91.1 15) 0 (vp_nar .boolean 0)))) fun r93 => some (q_sA r93 15 (upd (r93.1 15) 1 (vp_nar .boolean 1)))) (q_let ((q_sA r91 15 (upd (r91.1 15) 0 (vp_nar .boolean 0)))) fun r94 => some (q_sA r94 15 (upd (r94.1 15) 1 (vp_nar .boolean 0))))))) (cond (decide (a1 = 4)) (cond (decide (((s.1 14) 0) &&& a2 = 0)) (q_let (dz_M206 (q_sA s 15 (upd (s.1 15) 4 (vp_nar .boolean 1))) a2 7) fun r95 => cond r95 (q_let ((q_sA s 15 (upd (s.1 15) 4 (vp_nar .boolean 1)))) fun r96 => q_let (dz_M206 (q_sA r96 15 (upd (r96.1 15) 0 (vp_nar .boolean 1))) a2 6) fun r97 => cond r97 (q_let ((q_sA r96 15 (upd (r96.1 15) 0 (vp_nar .boolean 1)))) fun r98 => some (q_sA r98 15 (upd (r98.1 15) 1 (vp_nar .boolean 1)))) (q_let ((q_sA r96 15 (upd (r96.1 15) 0 (vp_nar .boolean 1)))) fun r99 => some (q_sA r99 15 (upd (r99.1 15) 1 (vp_nar .boolean 0))))) (q_let ((q_sA s 15 (upd (s.1 15) 4 (vp_nar .boolean 1)))) fun r100 => q_let (dz_M206 (q_sA r100 15 (upd (r100.1 15) 0 (vp_nar .boolean 0))) a2 6) fun r101 => cond r101 (q_let ((q_sA r100 15 (upd (r100.1 15) 0 (vp_nar .boolean 0)))) fun r102 => some (q_sA r102 15 (upd (r102.1 15) 1 (vp_nar .boolean 1)))) (q_let ((q_sA r100 15 (upd (r100.1 15) 0 (vp_nar .boolean 0)))) fun r103 => some (q_sA r103 15 (upd (r103.1 15) 1 (vp_nar .boolean 0)))))) (q_let (dz_M206 (q_sA s 15 (upd (s.1 15) 4 (vp_nar .boolean 0))) a2 7) fun r104 => cond r104 (q_let ((q_sA s 15 (upd (s.1 15) 4 (vp_nar .boolean 0)))) fun r105 => q_let (dz_M206 (q_sA r105 15 (upd (r105.1 15) 0 (vp_nar .boolean 1))) a2 6) fun r106 => cond r106 (q_let ((q_sA r105 15 (upd (r105.1 15) 0 (vp_nar .boolean 1)))) fun r107 => some (q_sA r107 15 (upd (r107.1 15) 1 (vp_nar .boolean 1)))) (q_let ((q_sA r105 15 (upd (r105.1 15) 0 (vp_nar .boolean 1)))) fun r108 => some (q_sA r108 15 (upd (r108.1 15) 1 (vp_nar .boolean 0))))) (q_let ((q_sA s 15 (upd (s.1 15) 4 (vp_nar .boolean 0)))) fun r109 => q_let (dz_M206 (q_sA r109 15 (upd (r109.1 15) 0 (vp_nar .boolean 0))) a2 6) fun r110 => cond r110 (q_let ((q_sA r109 15 (upd (r109.1 15) 0 (vp_nar .boolean 0)))) fun r111 => some (q_sA r111 15 (upd (r111.1 15) 1 (vp_nar .boolean 1)))) (q_let ((q_sA r109 15 (upd (r109.1 15) 0 (vp_nar .boolean 0)))) fun r112 => some (q_sA r112 15 (upd (r112.1 15) 1 (vp_nar .boolean 0))))))) (cond (decide (a1 = 5)) (cond (decide (((s.1 14) 0) &&& a2 = 0)) (q_let (dz_M206 (q_sA s 15 (upd (s.1 15) 4 (vp_nar .boolean 1))) a2 7) fun r113 => cond r113 (q_let ((q_sA s 15 (upd (s.1 15) 4 (vp_nar .boolean 1)))) fun r114 => q_let (dz_M206 (q_sA r114 15 (upd (r114.1 15) 0 (vp_nar .boolean 1))) a2 6) fun r115 => cond r115 (q_let ((q_sA r114 15 (upd (r114.1 15) 0 (vp_nar .boolean 1)))) fun r116 => some (q_sA r116 15 (upd (r116.1 15) 1 (vp_nar .boolean 1)))) (q_let ((q_sA r114 15 (upd (r114.1 15) 0 (vp_nar .boolean 1)))) fun r117 => some (q_sA r117 15 (upd (r117.1 15) 1 (vp_nar .boolean 0))))) (q_let ((q_sA s 15 (upd (s.1 15) 4 (vp_nar .boolean 1)))) fun r118 => q_let (dz_M206 (q_sA r118 15 (upd (r118.1 15) 0 (vp_nar .boolean 0))) a2 6) fun r119 => cond r119 (q_let ((q_sA r118 15 (upd (r118.1 15) 0 (vp_nar .boolean 0)))) fun r120 => some (q_sA r120 15 (upd (r120.1 15) 1 (vp_nar .boolean 1)))) (q_let ((q_sA r118 15 (upd (r118.1 15) 0 (vp_nar .boolean 0)))) fun r121 => some (q_sA r121 15 (upd (r121.1 15) 1 (vp_nar .boolean 0)))))) (q_let (dz_M206 (q_sA s 15 (upd (s.1 15) 4 (vp_nar .boolean 0))) a2 7) fun r122 => cond r122 (q_let ((q_sA s 15 (upd (s.1 15) 4 (vp_nar .boolean 0)))) fun r123 => q_let (dz_M206 (q_sA r123 15 (upd (r123.1 15) 0 (vp_nar .boolean 1))) a2 6) fun r124 => cond r124 (q_let ((q_sA r123 15 (upd (r123.1 15) 0 (vp_nar .boolean 1)))) fun r125 => some (q_sA r125 15 (upd (r125.1 15) 1 (vp_nar .boolean 1)))) (q_let ((q_sA r123 15 (upd (r123.1 15) 0 (vp_nar .boolean 1)))) fun r126 => some (q_sA r126 15 (upd (r126.1 15) 1 (vp_nar .boolean 0))))) (q_let ((q_sA s 15 (upd (s.1 15) 4 (vp_nar .boolean 0)))) fun r127 => q_let (dz_M206 (q_sA r127 15 (upd (r127.1 15) 0 (vp_nar .boolean 0))) a2 6) fun r128 => cond r128 (q_let ((q_sA r127 15 (upd (r127.1 15) 0 (vp_nar .boolean 0)))) fun r129 => some (q_sA r129 15 (upd (r129.1 15) 1 (vp_nar .boolean 1)))) (q_let ((q_sA r127 15 (upd (r127.1 15) 0 (vp_nar .boolean 0)))) fun r130 => some (q_sA r130 15 (upd (r130.1 15) 1 (vp_nar .boolean 0))))))) (cond (decide (a1 = 6)) ((dz_M267_64_t s a2).bind fun r131 => some r131) (cond (decide (a1 = 7)) ((dz_M267_64_f s a2).bind fun r132 => some r132) (cond (decide (a1 = 8)) ((dz_M262_64 s 0 (((s.1 14) 0) &&& a2)).bind fun r133 => some r133) (cond (decide (a1 = 9)) ((dz_M262_64 s 0 (((s.1 14) 0) ||| a2)).bind fun r134 => some r134) (cond (decide (a1 = 10)) ((dz_M262_64 s 0 (((s.1 14) 0) ^^^ a2)).bind fun r135 => some r135) (cond (decide (a1 = 11)) ((dz_M263_64 s 0 a2).bind fun r136 => some r136) (cond (decide (a1 = 12)) ((dz_M263_64 s 1 a2).bind fun r137 => some r137) (cond (decide (a1 = 13)) ((dz_M263_64 s 2 a2).bind fun r138 => some r138) (cond (decide (a1 = 14)) (cond (decide (((s.1 14) 0) &&& a2 = 0)) (q_let (dz_M206 (q_sA s 15 (upd (s.1 15) 4 (vp_nar .boolean 1))) a2 7) fun r139 => cond r139 (q_let ((q_sA s 15 (upd (s.1 15) 4 (vp_nar .boolean 1)))) fun r140 => q_let (dz_M206 (q_sA r140 15 (upd (r140.1 15) 0 (vp_nar .boolean 1))) a2 6) fun r141 => cond r141 (q_let ((q_sA r140 15 (upd (r140.1 15) 0 (vp_nar .boolean 1)))) fun r142 => some (q_sA r142 15 (upd (r142.1 15) 1 (vp_nar .boolean 1)))) (q_let ((q_sA r140 15 (upd (r140.1 15) 0 (vp_nar .boolean 1)))) fun r143 => some (q_sA r143 15 (upd (r143.1 15) 1 (vp_nar .boolean 0))))) (q_let ((q_sA s 15 (upd (s.1 15) 4 (vp_nar .boolean 1)))) fun r144 => q_let (dz_M206 (q_sA r144 15 (upd (r144.1 15) 0 (vp_nar .boolean 0))) a2 6) fun r145 => cond r145 (q_let ((q_sA r144 15 (upd (r144.1 15) 0 (vp_nar .boolean 0)))) fun r146 => some (q_sA r146 15 (upd (r146.1 15) 1 (vp_nar .boolean 1)))) (q_let ((q_sA r144 15 (upd (r144.1 15) 0 (vp_nar .boolean 0)))) fun r147 => some (q_sA r147 15 (upd (r147.1 15) 1 (vp_nar .boolean 0)))))) (q_let (dz_M206 (q_sA s 15 (upd (s.1 15) 4 (vp_nar .boolean 0))) a2 7) fun r148 => cond r148 (q_let ((q_sA s 15 (upd (s.1 15) 4 (vp_nar .boolean 0)))) fun r149 => q_let (dz_M206 (q_sA r149 15 (upd (r149.1 15) 0 (vp_nar .boolean 1))) a2 6) fun r150 => cond r150 (q_let ((q_sA r149 15 (upd (r149.1 15) 0 (vp_nar .boolean 1)))) fun r151 => some (q_sA r151 15 (upd (r151.1 15) 1 (vp_nar .boolean 1)))) (q_let ((q_sA r149 15 (upd (r149.1 15) 0 (vp_nar .boolean 1)))) fun r152 => some (q_sA r152 15 (upd (r152.1 15) 1 (vp_nar .boolean 0))))) (q_let ((q_sA s 15 (upd (s.1 15) 4 (vp_nar .boolean 0)))) fun r153 => q_let (dz_M206 (q_sA r153 15 (upd (r153.1 15) 0 (vp_nar .boolean 0))) a2 6) fun r154 => cond r154 (q_let ((q_sA r153 15 (upd (r153.1 15) 0 (vp_nar .boolean 0)))) fun r155 => some (q_sA r155 15 (upd (r155.1 15) 1 (vp_nar .boolean 1)))) (q_let ((q_sA r153 15 (upd (r153.1 15) 0 (vp_nar .boolean 0)))) fun r156 => some (q_sA r156 15 (upd (r156.1 15) 1 (vp_nar .boolean 0))))))) (cond (decide (a1 = 15)) (cond (decide (((s.1 14) 0) &&& a2 = 0)) (q_let (dz_M206 (q_sA s 15 (upd (s.1 15) 4 (vp_nar .boolean 1))) a2 7) fun r157 => cond r157 (q_let ((q_sA s 15 (upd (s.1 15) 4 (vp_nar .boolean 1)))) fun r158 => q_let (dz_M206 (q_sA r158 15 (upd (r158.1 15) 0 (vp_nar .boolean 1))) a2 6) fun r159 => cond r159 (q_let ((q_sA r158 15 (upd (r158.1 15) 0 (vp_nar .boolean 1)))) fun r160 => some (q_sA r160 15 (upd (r160.1 15) 1 (vp_nar .boolean 1)))) (q_let ((q_sA r158 15 (upd (r158.1 15) 0 (vp_nar .boolean 1)))) fun r161 => some (q_sA r161 15 (upd (r161.1 15) 1 (vp_nar .boolean 0))))) (q_let ((q_sA s 15 (upd (s.1 15) 4 (vp_nar .boolean 1)))) fun r162 => q_let (dz_M206 (q_sA r162 15 (upd (r162.1 15) 0 (vp_nar .boolean 0))) a2 6) fun r163 => cond r163 (q_let ((q_sA r162 15 (upd (r162.1 15) 0 (vp_nar .boolean 0)))) fun r164 => some (q_sA r164 15 (upd (r164.1 15) 1 (vp_nar .boolean 1)))) (q_let ((q_sA r162 15 (upd (r162.1 15) 0 (vp_nar .boolean 0)))) fun r165 => some (q_sA r165 15 (upd (r165.1 15) 1 (vp_nar .boolean 0)))))) (q_let (dz_M206 (q_sA s 15 (upd (s.1 15) 4 (vp_nar .boolean 0))) a2 7) fun r166 => cond r166 (q_let ((q_sA s 15 (upd (s.1 15) 4 (vp_nar .boolean 0)))) fun r167 => q_let (dz_M206 (q_sA r167 15 (upd (r167.1 15) 0 (vp_nar .boolean 1))) a2 6) fun r168 => cond r168 (q_let ((q_sA r167 15 (upd (r167.1 15) 0 (vp_nar .boolean 1)))) fun r169 => some (q_sA r169 15 (upd (r169.1 15) 1 (vp_nar .boolean 1)))) (q_let ((q_sA r167 15 (upd (r167.1 15) 0 (vp_nar .boolean 1)))) fun r170 => some (q_sA r170 15 (upd (r170.1 15) 1 (vp_nar .boolean 0))))) (q_let ((q_sA s 15 (upd (s.1 15) 4 (vp_nar .boolean 0)))) fun r171 => q_let (dz_M206 (q_sA r171 15 (upd (r171.1 15) 0 (vp_nar .boolean 0))) a2 6) fun r172 => cond r172 (q_let ((q_sA r171 15 (upd (r171.1 15) 0 (vp_nar .boolean 0)))) fun r173 => some (q_sA r173 15 (upd (r173.1 15) 1 (vp_nar .boolean 1)))) (q_let ((q_sA r171 15 (upd (r171.1 15) 0 (vp_nar .boolean 0)))) fun r174 => some (q_sA r174 15 (upd (r174.1 15) 1 (vp_nar .boolean 0))))))) ((dz_M262_64 s 0 a2).bind fun r175 => some (q_sA r175 14 (upd (r175.1 14) 1 a2))))))))))))))))))))
set_option maxHeartbeats 4000000 in
theorem dzt_M269_64 (s : q_S) (c n : Nat) (a1 : Int32) (a2 : Int32) (x : q_S) (h : dz_M269_64 s a1 a2 = some x) : q_Ca q_TB0 4 268 [.ref 64, .int a1, .int a2] (q_kM s c n) ((q_oSM c n) x) := by
  refine q_CaP_of (φ := (q_oSM c n)) (Nat.le_of_ble_eq_true rfl) ?_ h
  clear h
  unfold dz_M269_64
  refine q_RP_seg (g2 := (1, [(0, .ref 64), (1, .int a1), (2, .int a2)], [.int a1], (q_kM s c n))) 1 (fun _ _ => rfl) ?_
  cases h18 : decide (a1 < 0) with
  | true =>
    refine q_RP_cT ?_
    refine q_RP_st1 (g2 := (220, [(0, .ref 64), (1, .int a1), (2, .int a2)], [], (q_kM s c n))) rfl (if_pos (Or.inl (Int32.lt_iff_toInt_lt.mp (of_decide_eq_true h18)))) ?_
    refine q_RP_seg (g2 := (231, [(0, .ref 64), (1, .int a1), (2, .int a2)], [.int ((s.1 14) 0), .int 4, .ref 79], (q_kM s c n))) 7 (fun _ _ => rfl) ?_
    refine q_RP_seg (g2 := (233, [(0, .ref 64), (1, .int a1), (2, .int a2)], [.int (((s.1 14) 0) &&& a2), .int 4, .ref 79], (q_kM s c n))) 2 (fun _ _ => rfl) ?_
    cases h19 : decide (((s.1 14) 0) &&& a2 = 0) with
    | true =>
      refine q_RP_cT ?_
      refine q_RP_rsF (g2 := (236, [(0, .ref 64), (1, .int a1), (2, .int a2)], [.int 4, .ref 79], (q_kM s c n))) rfl rfl (q_d_neT h19) ?_
      refine q_RP_seg (g2 := (250, [(0, .ref 64), (1, .int a1), (2, .int a2)], [.int 7, .int a2, .int 0, .ref 79], (q_kM (q_sA s 15 (upd (s.1 15) 4 (vp_nar .boolean 1))) c n))) 8 (fun _ _ => rfl) ?_
      refine q_RP_call (v := (some (.int (q_b (dz_M206 (q_sA s 15 (upd (s.1 15) 4 (vp_nar .boolean 1))) a2 7))))) (h2 := (q_kM (q_sA s 15 (upd (s.1 15) 4 (vp_nar .boolean 1))) c n)) rfl rfl ((dzt_M206 (q_sA s 15 (upd (s.1 15) 4 (vp_nar .boolean 1))) c n a2 7).le (Nat.le_of_ble_eq_true rfl)) ?_
      generalize dz_M206 (q_sA s 15 (upd (s.1 15) 4 (vp_nar .boolean 1))) a2 7 = r38
      refine q_RP_let ?_
      show q_RP _ _ _ (253, [(0, .ref 64), (1, .int a1), (2, .int a2)], [.int (q_b r38), .int 0, .ref 79], (q_kM (q_sA s 15 (upd (s.1 15) 4 (vp_nar .boolean 1))) c n)) _ _
      cases h20 : r38 with
      | true =>
        refine q_RP_cT ?_
        show q_RP _ _ _ (253, [(0, .ref 64), (1, .int a1), (2, .int a2)], [.int 1, .int 0, .ref 79], (q_kM (q_sA s 15 (upd (s.1 15) 4 (vp_nar .boolean 1))) c n)) _ _
        generalize (q_sA s 15 (upd (s.1 15) 4 (vp_nar .boolean 1))) = r39
        refine q_RP_let ?_
        show q_RP _ _ _ (253, [(0, .ref 64), (1, .int a1), (2, .int a2)], [.int 1, .int 0, .ref 79], (q_kM r39 c n)) _ _
        refine q_RP_seg (g2 := (262, [(0, .ref 64), (1, .int a1), (2, .int a2)], [.int 6, .int a2, .int 1, .ref 79], (q_kM (q_sA r39 15 (upd (r39.1 15) 0 (vp_nar .boolean 1))) c n))) 6 (fun _ _ => rfl) ?_
        refine q_RP_call (v := (some (.int (q_b (dz_M206 (q_sA r39 15 (upd (r39.1 15) 0 (vp_nar .boolean 1))) a2 6))))) (h2 := (q_kM (q_sA r39 15 (upd (r39.1 15) 0 (vp_nar .boolean 1))) c n)) rfl rfl ((dzt_M206 (q_sA r39 15 (upd (r39.1 15) 0 (vp_nar .boolean 1))) c n a2 6).le (Nat.le_of_ble_eq_true rfl)) ?_
        generalize dz_M206 (q_sA r39 15 (upd (r39.1 15) 0 (vp_nar .boolean 1))) a2 6 = r40
        refine q_RP_let ?_
        show q_RP _ _ _ (265, [(0, .ref 64), (1, .int a1), (2, .int a2)], [.int (q_b r40), .int 1, .ref 79], (q_kM (q_sA r39 15 (upd (r39.1 15) 0 (vp_nar .boolean 1))) c n)) _ _
        cases h21 : r40 with
        | true =>
          refine q_RP_cT ?_
          show q_RP _ _ _ (265, [(0, .ref 64), (1, .int a1), (2, .int a2)], [.int 1, .int 1, .ref 79], (q_kM (q_sA r39 15 (upd (r39.1 15) 0 (vp_nar .boolean 1))) c n)) _ _
          generalize (q_sA r39 15 (upd (r39.1 15) 0 (vp_nar .boolean 1))) = r41
          refine q_RP_let ?_
          show q_RP _ _ _ (265, [(0, .ref 64), (1, .int a1), (2, .int a2)], [.int 1, .int 1, .ref 79], (q_kM r41 c n)) _ _
          refine q_RP_seg (g2 := (266, [(0, .ref 64), (1, .int a1), (2, .int a2)], [], (q_kM (q_sA r41 15 (upd (r41.1 15) 1 (vp_nar .boolean 1))) c n))) 1 (fun _ _ => rfl) ?_
          exact q_RP_ret rfl rfl rfl
        | false =>
          refine q_RP_cF ?_
          show q_RP _ _ _ (265, [(0, .ref 64), (1, .int a1), (2, .int a2)], [.int 0, .int 1, .ref 79], (q_kM (q_sA r39 15 (upd (r39.1 15) 0 (vp_nar .boolean 1))) c n)) _ _
          generalize (q_sA r39 15 (upd (r39.1 15) 0 (vp_nar .boolean 1))) = r42
          refine q_RP_let ?_
          show q_RP _ _ _ (265, [(0, .ref 64), (1, .int a1), (2, .int a2)], [.int 0, .int 1, .ref 79], (q_kM r42 c n)) _ _
          refine q_RP_seg (g2 := (266, [(0, .ref 64), (1, .int a1), (2, .int a2)], [], (q_kM (q_sA r42 15 (upd (r42.1 15) 1 (vp_nar .boolean 0))) c n))) 1 (fun _ _ => rfl) ?_
          exact q_RP_ret rfl rfl rfl
      | false =>
        refine q_RP_cF ?_
        show q_RP _ _ _ (253, [(0, .ref 64), (1, .int a1), (2, .int a2)], [.int 0, .int 0, .ref 79], (q_kM (q_sA s 15 (upd (s.1 15) 4 (vp_nar .boolean 1))) c n)) _ _
        generalize (q_sA s 15 (upd (s.1 15) 4 (vp_nar .boolean 1))) = r43
        refine q_RP_let ?_
        show q_RP _ _ _ (253, [(0, .ref 64), (1, .int a1), (2, .int a2)], [.int 0, .int 0, .ref 79], (q_kM r43 c n)) _ _
        refine q_RP_seg (g2 := (262, [(0, .ref 64), (1, .int a1), (2, .int a2)], [.int 6, .int a2, .int 1, .ref 79], (q_kM (q_sA r43 15 (upd (r43.1 15) 0 (vp_nar .boolean 0))) c n))) 6 (fun _ _ => rfl) ?_
        refine q_RP_call (v := (some (.int (q_b (dz_M206 (q_sA r43 15 (upd (r43.1 15) 0 (vp_nar .boolean 0))) a2 6))))) (h2 := (q_kM (q_sA r43 15 (upd (r43.1 15) 0 (vp_nar .boolean 0))) c n)) rfl rfl ((dzt_M206 (q_sA r43 15 (upd (r43.1 15) 0 (vp_nar .boolean 0))) c n a2 6).le (Nat.le_of_ble_eq_true rfl)) ?_
        generalize dz_M206 (q_sA r43 15 (upd (r43.1 15) 0 (vp_nar .boolean 0))) a2 6 = r44
        refine q_RP_let ?_
        show q_RP _ _ _ (265, [(0, .ref 64), (1, .int a1), (2, .int a2)], [.int (q_b r44), .int 1, .ref 79], (q_kM (q_sA r43 15 (upd (r43.1 15) 0 (vp_nar .boolean 0))) c n)) _ _
        cases h22 : r44 with
        | true =>
          refine q_RP_cT ?_
          show q_RP _ _ _ (265, [(0, .ref 64), (1, .int a1), (2, .int a2)], [.int 1, .int 1, .ref 79], (q_kM (q_sA r43 15 (upd (r43.1 15) 0 (vp_nar .boolean 0))) c n)) _ _
          generalize (q_sA r43 15 (upd (r43.1 15) 0 (vp_nar .boolean 0))) = r45
          refine q_RP_let ?_
          show q_RP _ _ _ (265, [(0, .ref 64), (1, .int a1), (2, .int a2)], [.int 1, .int 1, .ref 79], (q_kM r45 c n)) _ _
          refine q_RP_seg (g2 := (266, [(0, .ref 64), (1, .int a1), (2, .int a2)], [], (q_kM (q_sA r45 15 (upd (r45.1 15) 1 (vp_nar .boolean 1))) c n))) 1 (fun _ _ => rfl) ?_
          exact q_RP_ret rfl rfl rfl
        | false =>
          refine q_RP_cF ?_
          show q_RP _ _ _ (265, [(0, .ref 64), (1, .int a1), (2, .int a2)], [.int 0, .int 1, .ref 79], (q_kM (q_sA r43 15 (upd (r43.1 15) 0 (vp_nar .boolean 0))) c n)) _ _
          generalize (q_sA r43 15 (upd (r43.1 15) 0 (vp_nar .boolean 0))) = r46
          refine q_RP_let ?_
          show q_RP _ _ _ (265, [(0, .ref 64), (1, .int a1), (2, .int a2)], [.int 0, .int 1, .ref 79], (q_kM r46 c n)) _ _
          refine q_RP_seg (g2 := (266, [(0, .ref 64), (1, .int a1), (2, .int a2)], [], (q_kM (q_sA r46 15 (upd (r46.1 15) 1 (vp_nar .boolean 0))) c n))) 1 (fun _ _ => rfl) ?_
          exact q_RP_ret rfl rfl rfl
    | false =>
      refine q_RP_cF ?_
      refine q_RP_rsT (g2 := (240, [(0, .ref 64), (1, .int a1), (2, .int a2)], [.int 4, .ref 79], (q_kM s c n))) rfl rfl (q_d_neF h19) ?_
      refine q_RP_seg (g2 := (250, [(0, .ref 64), (1, .int a1), (2, .int a2)], [.int 7, .int a2, .int 0, .ref 79], (q_kM (q_sA s 15 (upd (s.1 15) 4 (vp_nar .boolean 0))) c n))) 7 (fun _ _ => rfl) ?_
      refine q_RP_call (v := (some (.int (q_b (dz_M206 (q_sA s 15 (upd (s.1 15) 4 (vp_nar .boolean 0))) a2 7))))) (h2 := (q_kM (q_sA s 15 (upd (s.1 15) 4 (vp_nar .boolean 0))) c n)) rfl rfl ((dzt_M206 (q_sA s 15 (upd (s.1 15) 4 (vp_nar .boolean 0))) c n a2 7).le (Nat.le_of_ble_eq_true rfl)) ?_
      generalize dz_M206 (q_sA s 15 (upd (s.1 15) 4 (vp_nar .boolean 0))) a2 7 = r47
      refine q_RP_let ?_
      show q_RP _ _ _ (253, [(0, .ref 64), (1, .int a1), (2, .int a2)], [.int (q_b r47), .int 0, .ref 79], (q_kM (q_sA s 15 (upd (s.1 15) 4 (vp_nar .boolean 0))) c n)) _ _
      cases h23 : r47 with
      | true =>
        refine q_RP_cT ?_
        show q_RP _ _ _ (253, [(0, .ref 64), (1, .int a1), (2, .int a2)], [.int 1, .int 0, .ref 79], (q_kM (q_sA s 15 (upd (s.1 15) 4 (vp_nar .boolean 0))) c n)) _ _
        generalize (q_sA s 15 (upd (s.1 15) 4 (vp_nar .boolean 0))) = r48
        refine q_RP_let ?_
        show q_RP _ _ _ (253, [(0, .ref 64), (1, .int a1), (2, .int a2)], [.int 1, .int 0, .ref 79], (q_kM r48 c n)) _ _
        refine q_RP_seg (g2 := (262, [(0, .ref 64), (1, .int a1), (2, .int a2)], [.int 6, .int a2, .int 1, .ref 79], (q_kM (q_sA r48 15 (upd (r48.1 15) 0 (vp_nar .boolean 1))) c n))) 6 (fun _ _ => rfl) ?_
        refine q_RP_call (v := (some (.int (q_b (dz_M206 (q_sA r48 15 (upd (r48.1 15) 0 (vp_nar .boolean 1))) a2 6))))) (h2 := (q_kM (q_sA r48 15 (upd (r48.1 15) 0 (vp_nar .boolean 1))) c n)) rfl rfl ((dzt_M206 (q_sA r48 15 (upd (r48.1 15) 0 (vp_nar .boolean 1))) c n a2 6).le (Nat.le_of_ble_eq_true rfl)) ?_
        generalize dz_M206 (q_sA r48 15 (upd (r48.1 15) 0 (vp_nar .boolean 1))) a2 6 = r49
        refine q_RP_let ?_
        show q_RP _ _ _ (265, [(0, .ref 64), (1, .int a1), (2, .int a2)], [.int (q_b r49), .int 1, .ref 79], (q_kM (q_sA r48 15 (upd (r48.1 15) 0 (vp_nar .boolean 1))) c n)) _ _
        cases h24 : r49 with
        | true =>
          refine q_RP_cT ?_
          show q_RP _ _ _ (265, [(0, .ref 64), (1, .int a1), (2, .int a2)], [.int 1, .int 1, .ref 79], (q_kM (q_sA r48 15 (upd (r48.1 15) 0 (vp_nar .boolean 1))) c n)) _ _
          generalize (q_sA r48 15 (upd (r48.1 15) 0 (vp_nar .boolean 1))) = r50
          refine q_RP_let ?_
          show q_RP _ _ _ (265, [(0, .ref 64), (1, .int a1), (2, .int a2)], [.int 1, .int 1, .ref 79], (q_kM r50 c n)) _ _
          refine q_RP_seg (g2 := (266, [(0, .ref 64), (1, .int a1), (2, .int a2)], [], (q_kM (q_sA r50 15 (upd (r50.1 15) 1 (vp_nar .boolean 1))) c n))) 1 (fun _ _ => rfl) ?_
          exact q_RP_ret rfl rfl rfl
        | false =>
          refine q_RP_cF ?_
          show q_RP _ _ _ (265, [(0, .ref 64), (1, .int a1), (2, .int a2)], [.int 0, .int 1, .ref 79], (q_kM (q_sA r48 15 (upd (r48.1 15) 0 (vp_nar .boolean 1))) c n)) _ _
          generalize (q_sA r48 15 (upd (r48.1 15) 0 (vp_nar .boolean 1))) = r51
          refine q_RP_let ?_
          show q_RP _ _ _ (265, [(0, .ref 64), (1, .int a1), (2, .int a2)], [.int 0, .int 1, .ref 79], (q_kM r51 c n)) _ _
          refine q_RP_seg (g2 := (266, [(0, .ref 64), (1, .int a1), (2, .int a2)], [], (q_kM (q_sA r51 15 (upd (r51.1 15) 1 (vp_nar .boolean 0))) c n))) 1 (fun _ _ => rfl) ?_
          exact q_RP_ret rfl rfl rfl
      | false =>
        refine q_RP_cF ?_
        show q_RP _ _ _ (253, [(0, .ref 64), (1, .int a1), (2, .int a2)], [.int 0, .int 0, .ref 79], (q_kM (q_sA s 15 (upd (s.1 15) 4 (vp_nar .boolean 0))) c n)) _ _
        generalize (q_sA s 15 (upd (s.1 15) 4 (vp_nar .boolean 0))) = r52
        refine q_RP_let ?_
        show q_RP _ _ _ (253, [(0, .ref 64), (1, .int a1), (2, .int a2)], [.int 0, .int 0, .ref 79], (q_kM r52 c n)) _ _
        refine q_RP_seg (g2 := (262, [(0, .ref 64), (1, .int a1), (2, .int a2)], [.int 6, .int a2, .int 1, .ref 79], (q_kM (q_sA r52 15 (upd (r52.1 15) 0 (vp_nar .boolean 0))) c n))) 6 (fun _ _ => rfl) ?_
        refine q_RP_call (v := (some (.int (q_b (dz_M206 (q_sA r52 15 (upd (r52.1 15) 0 (vp_nar .boolean 0))) a2 6))))) (h2 := (q_kM (q_sA r52 15 (upd (r52.1 15) 0 (vp_nar .boolean 0))) c n)) rfl rfl ((dzt_M206 (q_sA r52 15 (upd (r52.1 15) 0 (vp_nar .boolean 0))) c n a2 6).le (Nat.le_of_ble_eq_true rfl)) ?_
        generalize dz_M206 (q_sA r52 15 (upd (r52.1 15) 0 (vp_nar .boolean 0))) a2 6 = r53
        refine q_RP_let ?_
        show q_RP _ _ _ (265, [(0, .ref 64), (1, .int a1), (2, .int a2)], [.int (q_b r53), .int 1, .ref 79], (q_kM (q_sA r52 15 (upd (r52.1 15) 0 (vp_nar .boolean 0))) c n)) _ _
        cases h25 : r53 with
        | true =>
          refine q_RP_cT ?_
          show q_RP _ _ _ (265, [(0, .ref 64), (1, .int a1), (2, .int a2)], [.int 1, .int 1, .ref 79], (q_kM (q_sA r52 15 (upd (r52.1 15) 0 (vp_nar .boolean 0))) c n)) _ _
          generalize (q_sA r52 15 (upd (r52.1 15) 0 (vp_nar .boolean 0))) = r54
          refine q_RP_let ?_
          show q_RP _ _ _ (265, [(0, .ref 64), (1, .int a1), (2, .int a2)], [.int 1, .int 1, .ref 79], (q_kM r54 c n)) _ _
          refine q_RP_seg (g2 := (266, [(0, .ref 64), (1, .int a1), (2, .int a2)], [], (q_kM (q_sA r54 15 (upd (r54.1 15) 1 (vp_nar .boolean 1))) c n))) 1 (fun _ _ => rfl) ?_
          exact q_RP_ret rfl rfl rfl
        | false =>
          refine q_RP_cF ?_
          show q_RP _ _ _ (265, [(0, .ref 64), (1, .int a1), (2, .int a2)], [.int 0, .int 1, .ref 79], (q_kM (q_sA r52 15 (upd (r52.1 15) 0 (vp_nar .boolean 0))) c n)) _ _
          generalize (q_sA r52 15 (upd (r52.1 15) 0 (vp_nar .boolean 0))) = r55
          refine q_RP_let ?_
          show q_RP _ _ _ (265, [(0, .ref 64), (1, .int a1), (2, .int a2)], [.int 0, .int 1, .ref 79], (q_kM r55 c n)) _ _
          refine q_RP_seg (g2 := (266, [(0, .ref 64), (1, .int a1), (2, .int a2)], [], (q_kM (q_sA r55 15 (upd (r55.1 15) 1 (vp_nar .boolean 0))) c n))) 1 (fun _ _ => rfl) ?_
          exact q_RP_ret rfl rfl rfl
  | false =>
    refine q_RP_cF ?_
    cases h26 : decide (16 < a1) with
    | true =>
      refine q_RP_cT ?_
      refine q_RP_st1 (g2 := (220, [(0, .ref 64), (1, .int a1), (2, .int a2)], [], (q_kM s c n))) rfl (if_pos (Or.inr (Int32.lt_iff_toInt_lt.mp (of_decide_eq_true h26)))) ?_
      refine q_RP_seg (g2 := (231, [(0, .ref 64), (1, .int a1), (2, .int a2)], [.int ((s.1 14) 0), .int 4, .ref 79], (q_kM s c n))) 7 (fun _ _ => rfl) ?_
      refine q_RP_seg (g2 := (233, [(0, .ref 64), (1, .int a1), (2, .int a2)], [.int (((s.1 14) 0) &&& a2), .int 4, .ref 79], (q_kM s c n))) 2 (fun _ _ => rfl) ?_
      cases h27 : decide (((s.1 14) 0) &&& a2 = 0) with
      | true =>
        refine q_RP_cT ?_
        refine q_RP_rsF (g2 := (236, [(0, .ref 64), (1, .int a1), (2, .int a2)], [.int 4, .ref 79], (q_kM s c n))) rfl rfl (q_d_neT h27) ?_
        refine q_RP_seg (g2 := (250, [(0, .ref 64), (1, .int a1), (2, .int a2)], [.int 7, .int a2, .int 0, .ref 79], (q_kM (q_sA s 15 (upd (s.1 15) 4 (vp_nar .boolean 1))) c n))) 8 (fun _ _ => rfl) ?_
        refine q_RP_call (v := (some (.int (q_b (dz_M206 (q_sA s 15 (upd (s.1 15) 4 (vp_nar .boolean 1))) a2 7))))) (h2 := (q_kM (q_sA s 15 (upd (s.1 15) 4 (vp_nar .boolean 1))) c n)) rfl rfl ((dzt_M206 (q_sA s 15 (upd (s.1 15) 4 (vp_nar .boolean 1))) c n a2 7).le (Nat.le_of_ble_eq_true rfl)) ?_
        generalize dz_M206 (q_sA s 15 (upd (s.1 15) 4 (vp_nar .boolean 1))) a2 7 = r56
        refine q_RP_let ?_
        show q_RP _ _ _ (253, [(0, .ref 64), (1, .int a1), (2, .int a2)], [.int (q_b r56), .int 0, .ref 79], (q_kM (q_sA s 15 (upd (s.1 15) 4 (vp_nar .boolean 1))) c n)) _ _
        cases h28 : r56 with
        | true =>
          refine q_RP_cT ?_
          show q_RP _ _ _ (253, [(0, .ref 64), (1, .int a1), (2, .int a2)], [.int 1, .int 0, .ref 79], (q_kM (q_sA s 15 (upd (s.1 15) 4 (vp_nar .boolean 1))) c n)) _ _
          generalize (q_sA s 15 (upd (s.1 15) 4 (vp_nar .boolean 1))) = r57
          refine q_RP_let ?_
          show q_RP _ _ _ (253, [(0, .ref 64), (1, .int a1), (2, .int a2)], [.int 1, .int 0, .ref 79], (q_kM r57 c n)) _ _
          refine q_RP_seg (g2 := (262, [(0, .ref 64), (1, .int a1), (2, .int a2)], [.int 6, .int a2, .int 1, .ref 79], (q_kM (q_sA r57 15 (upd (r57.1 15) 0 (vp_nar .boolean 1))) c n))) 6 (fun _ _ => rfl) ?_
          refine q_RP_call (v := (some (.int (q_b (dz_M206 (q_sA r57 15 (upd (r57.1 15) 0 (vp_nar .boolean 1))) a2 6))))) (h2 := (q_kM (q_sA r57 15 (upd (r57.1 15) 0 (vp_nar .boolean 1))) c n)) rfl rfl ((dzt_M206 (q_sA r57 15 (upd (r57.1 15) 0 (vp_nar .boolean 1))) c n a2 6).le (Nat.le_of_ble_eq_true rfl)) ?_
          generalize dz_M206 (q_sA r57 15 (upd (r57.1 15) 0 (vp_nar .boolean 1))) a2 6 = r58
          refine q_RP_let ?_
          show q_RP _ _ _ (265, [(0, .ref 64), (1, .int a1), (2, .int a2)], [.int (q_b r58), .int 1, .ref 79], (q_kM (q_sA r57 15 (upd (r57.1 15) 0 (vp_nar .boolean 1))) c n)) _ _
          cases h29 : r58 with
          | true =>
            refine q_RP_cT ?_
            show q_RP _ _ _ (265, [(0, .ref 64), (1, .int a1), (2, .int a2)], [.int 1, .int 1, .ref 79], (q_kM (q_sA r57 15 (upd (r57.1 15) 0 (vp_nar .boolean 1))) c n)) _ _
            generalize (q_sA r57 15 (upd (r57.1 15) 0 (vp_nar .boolean 1))) = r59
            refine q_RP_let ?_
            show q_RP _ _ _ (265, [(0, .ref 64), (1, .int a1), (2, .int a2)], [.int 1, .int 1, .ref 79], (q_kM r59 c n)) _ _
            refine q_RP_seg (g2 := (266, [(0, .ref 64), (1, .int a1), (2, .int a2)], [], (q_kM (q_sA r59 15 (upd (r59.1 15) 1 (vp_nar .boolean 1))) c n))) 1 (fun _ _ => rfl) ?_
            exact q_RP_ret rfl rfl rfl
          | false =>
            refine q_RP_cF ?_
            show q_RP _ _ _ (265, [(0, .ref 64), (1, .int a1), (2, .int a2)], [.int 0, .int 1, .ref 79], (q_kM (q_sA r57 15 (upd (r57.1 15) 0 (vp_nar .boolean 1))) c n)) _ _
            generalize (q_sA r57 15 (upd (r57.1 15) 0 (vp_nar .boolean 1))) = r60
            refine q_RP_let ?_
            show q_RP _ _ _ (265, [(0, .ref 64), (1, .int a1), (2, .int a2)], [.int 0, .int 1, .ref 79], (q_kM r60 c n)) _ _
            refine q_RP_seg (g2 := (266, [(0, .ref 64), (1, .int a1), (2, .int a2)], [], (q_kM (q_sA r60 15 (upd (r60.1 15) 1 (vp_nar .boolean 0))) c n))) 1 (fun _ _ => rfl) ?_
            exact q_RP_ret rfl rfl rfl
        | false =>
          refine q_RP_cF ?_
          show q_RP _ _ _ (253, [(0, .ref 64), (1, .int a1), (2, .int a2)], [.int 0, .int 0, .ref 79], (q_kM (q_sA s 15 (upd (s.1 15) 4 (vp_nar .boolean 1))) c n)) _ _
          generalize (q_sA s 15 (upd (s.1 15) 4 (vp_nar .boolean 1))) = r61
          refine q_RP_let ?_
          show q_RP _ _ _ (253, [(0, .ref 64), (1, .int a1), (2, .int a2)], [.int 0, .int 0, .ref 79], (q_kM r61 c n)) _ _
          refine q_RP_seg (g2 := (262, [(0, .ref 64), (1, .int a1), (2, .int a2)], [.int 6, .int a2, .int 1, .ref 79], (q_kM (q_sA r61 15 (upd (r61.1 15) 0 (vp_nar .boolean 0))) c n))) 6 (fun _ _ => rfl) ?_
          refine q_RP_call (v := (some (.int (q_b (dz_M206 (q_sA r61 15 (upd (r61.1 15) 0 (vp_nar .boolean 0))) a2 6))))) (h2 := (q_kM (q_sA r61 15 (upd (r61.1 15) 0 (vp_nar .boolean 0))) c n)) rfl rfl ((dzt_M206 (q_sA r61 15 (upd (r61.1 15) 0 (vp_nar .boolean 0))) c n a2 6).le (Nat.le_of_ble_eq_true rfl)) ?_
          generalize dz_M206 (q_sA r61 15 (upd (r61.1 15) 0 (vp_nar .boolean 0))) a2 6 = r62
          refine q_RP_let ?_
          show q_RP _ _ _ (265, [(0, .ref 64), (1, .int a1), (2, .int a2)], [.int (q_b r62), .int 1, .ref 79], (q_kM (q_sA r61 15 (upd (r61.1 15) 0 (vp_nar .boolean 0))) c n)) _ _
          cases h30 : r62 with
          | true =>
            refine q_RP_cT ?_
            show q_RP _ _ _ (265, [(0, .ref 64), (1, .int a1), (2, .int a2)], [.int 1, .int 1, .ref 79], (q_kM (q_sA r61 15 (upd (r61.1 15) 0 (vp_nar .boolean 0))) c n)) _ _
            generalize (q_sA r61 15 (upd (r61.1 15) 0 (vp_nar .boolean 0))) = r63
            refine q_RP_let ?_
            show q_RP _ _ _ (265, [(0, .ref 64), (1, .int a1), (2, .int a2)], [.int 1, .int 1, .ref 79], (q_kM r63 c n)) _ _
            refine q_RP_seg (g2 := (266, [(0, .ref 64), (1, .int a1), (2, .int a2)], [], (q_kM (q_sA r63 15 (upd (r63.1 15) 1 (vp_nar .boolean 1))) c n))) 1 (fun _ _ => rfl) ?_
            exact q_RP_ret rfl rfl rfl
          | false =>
            refine q_RP_cF ?_
            show q_RP _ _ _ (265, [(0, .ref 64), (1, .int a1), (2, .int a2)], [.int 0, .int 1, .ref 79], (q_kM (q_sA r61 15 (upd (r61.1 15) 0 (vp_nar .boolean 0))) c n)) _ _
            generalize (q_sA r61 15 (upd (r61.1 15) 0 (vp_nar .boolean 0))) = r64
            refine q_RP_let ?_
            show q_RP _ _ _ (265, [(0, .ref 64), (1, .int a1), (2, .int a2)], [.int 0, .int 1, .ref 79], (q_kM r64 c n)) _ _
            refine q_RP_seg (g2 := (266, [(0, .ref 64), (1, .int a1), (2, .int a2)], [], (q_kM (q_sA r64 15 (upd (r64.1 15) 1 (vp_nar .boolean 0))) c n))) 1 (fun _ _ => rfl) ?_
            exact q_RP_ret rfl rfl rfl
      | false =>
        refine q_RP_cF ?_
        refine q_RP_rsT (g2 := (240, [(0, .ref 64), (1, .int a1), (2, .int a2)], [.int 4, .ref 79], (q_kM s c n))) rfl rfl (q_d_neF h27) ?_
        refine q_RP_seg (g2 := (250, [(0, .ref 64), (1, .int a1), (2, .int a2)], [.int 7, .int a2, .int 0, .ref 79], (q_kM (q_sA s 15 (upd (s.1 15) 4 (vp_nar .boolean 0))) c n))) 7 (fun _ _ => rfl) ?_
        refine q_RP_call (v := (some (.int (q_b (dz_M206 (q_sA s 15 (upd (s.1 15) 4 (vp_nar .boolean 0))) a2 7))))) (h2 := (q_kM (q_sA s 15 (upd (s.1 15) 4 (vp_nar .boolean 0))) c n)) rfl rfl ((dzt_M206 (q_sA s 15 (upd (s.1 15) 4 (vp_nar .boolean 0))) c n a2 7).le (Nat.le_of_ble_eq_true rfl)) ?_
        generalize dz_M206 (q_sA s 15 (upd (s.1 15) 4 (vp_nar .boolean 0))) a2 7 = r65
        refine q_RP_let ?_
        show q_RP _ _ _ (253, [(0, .ref 64), (1, .int a1), (2, .int a2)], [.int (q_b r65), .int 0, .ref 79], (q_kM (q_sA s 15 (upd (s.1 15) 4 (vp_nar .boolean 0))) c n)) _ _
        cases h31 : r65 with
        | true =>
          refine q_RP_cT ?_
          show q_RP _ _ _ (253, [(0, .ref 64), (1, .int a1), (2, .int a2)], [.int 1, .int 0, .ref 79], (q_kM (q_sA s 15 (upd (s.1 15) 4 (vp_nar .boolean 0))) c n)) _ _
          generalize (q_sA s 15 (upd (s.1 15) 4 (vp_nar .boolean 0))) = r66
          refine q_RP_let ?_
          show q_RP _ _ _ (253, [(0, .ref 64), (1, .int a1), (2, .int a2)], [.int 1, .int 0, .ref 79], (q_kM r66 c n)) _ _
          refine q_RP_seg (g2 := (262, [(0, .ref 64), (1, .int a1), (2, .int a2)], [.int 6, .int a2, .int 1, .ref 79], (q_kM (q_sA r66 15 (upd (r66.1 15) 0 (vp_nar .boolean 1))) c n))) 6 (fun _ _ => rfl) ?_
          refine q_RP_call (v := (some (.int (q_b (dz_M206 (q_sA r66 15 (upd (r66.1 15) 0 (vp_nar .boolean 1))) a2 6))))) (h2 := (q_kM (q_sA r66 15 (upd (r66.1 15) 0 (vp_nar .boolean 1))) c n)) rfl rfl ((dzt_M206 (q_sA r66 15 (upd (r66.1 15) 0 (vp_nar .boolean 1))) c n a2 6).le (Nat.le_of_ble_eq_true rfl)) ?_
          generalize dz_M206 (q_sA r66 15 (upd (r66.1 15) 0 (vp_nar .boolean 1))) a2 6 = r67
          refine q_RP_let ?_
          show q_RP _ _ _ (265, [(0, .ref 64), (1, .int a1), (2, .int a2)], [.int (q_b r67), .int 1, .ref 79], (q_kM (q_sA r66 15 (upd (r66.1 15) 0 (vp_nar .boolean 1))) c n)) _ _
          cases h32 : r67 with
          | true =>
            refine q_RP_cT ?_
            show q_RP _ _ _ (265, [(0, .ref 64), (1, .int a1), (2, .int a2)], [.int 1, .int 1, .ref 79], (q_kM (q_sA r66 15 (upd (r66.1 15) 0 (vp_nar .boolean 1))) c n)) _ _
            generalize (q_sA r66 15 (upd (r66.1 15) 0 (vp_nar .boolean 1))) = r68
            refine q_RP_let ?_
            show q_RP _ _ _ (265, [(0, .ref 64), (1, .int a1), (2, .int a2)], [.int 1, .int 1, .ref 79], (q_kM r68 c n)) _ _
            refine q_RP_seg (g2 := (266, [(0, .ref 64), (1, .int a1), (2, .int a2)], [], (q_kM (q_sA r68 15 (upd (r68.1 15) 1 (vp_nar .boolean 1))) c n))) 1 (fun _ _ => rfl) ?_
            exact q_RP_ret rfl rfl rfl
          | false =>
            refine q_RP_cF ?_
            show q_RP _ _ _ (265, [(0, .ref 64), (1, .int a1), (2, .int a2)], [.int 0, .int 1, .ref 79], (q_kM (q_sA r66 15 (upd (r66.1 15) 0 (vp_nar .boolean 1))) c n)) _ _
            generalize (q_sA r66 15 (upd (r66.1 15) 0 (vp_nar .boolean 1))) = r69
            refine q_RP_let ?_
            show q_RP _ _ _ (265, [(0, .ref 64), (1, .int a1), (2, .int a2)], [.int 0, .int 1, .ref 79], (q_kM r69 c n)) _ _
            refine q_RP_seg (g2 := (266, [(0, .ref 64), (1, .int a1), (2, .int a2)], [], (q_kM (q_sA r69 15 (upd (r69.1 15) 1 (vp_nar .boolean 0))) c n))) 1 (fun _ _ => rfl) ?_
            exact q_RP_ret rfl rfl rfl
        | false =>
          refine q_RP_cF ?_
          show q_RP _ _ _ (253, [(0, .ref 64), (1, .int a1), (2, .int a2)], [.int 0, .int 0, .ref 79], (q_kM (q_sA s 15 (upd (s.1 15) 4 (vp_nar .boolean 0))) c n)) _ _
          generalize (q_sA s 15 (upd (s.1 15) 4 (vp_nar .boolean 0))) = r70
          refine q_RP_let ?_
          show q_RP _ _ _ (253, [(0, .ref 64), (1, .int a1), (2, .int a2)], [.int 0, .int 0, .ref 79], (q_kM r70 c n)) _ _
          refine q_RP_seg (g2 := (262, [(0, .ref 64), (1, .int a1), (2, .int a2)], [.int 6, .int a2, .int 1, .ref 79], (q_kM (q_sA r70 15 (upd (r70.1 15) 0 (vp_nar .boolean 0))) c n))) 6 (fun _ _ => rfl) ?_
          refine q_RP_call (v := (some (.int (q_b (dz_M206 (q_sA r70 15 (upd (r70.1 15) 0 (vp_nar .boolean 0))) a2 6))))) (h2 := (q_kM (q_sA r70 15 (upd (r70.1 15) 0 (vp_nar .boolean 0))) c n)) rfl rfl ((dzt_M206 (q_sA r70 15 (upd (r70.1 15) 0 (vp_nar .boolean 0))) c n a2 6).le (Nat.le_of_ble_eq_true rfl)) ?_
          generalize dz_M206 (q_sA r70 15 (upd (r70.1 15) 0 (vp_nar .boolean 0))) a2 6 = r71
          refine q_RP_let ?_
          show q_RP _ _ _ (265, [(0, .ref 64), (1, .int a1), (2, .int a2)], [.int (q_b r71), .int 1, .ref 79], (q_kM (q_sA r70 15 (upd (r70.1 15) 0 (vp_nar .boolean 0))) c n)) _ _
          cases h33 : r71 with
          | true =>
            refine q_RP_cT ?_
            show q_RP _ _ _ (265, [(0, .ref 64), (1, .int a1), (2, .int a2)], [.int 1, .int 1, .ref 79], (q_kM (q_sA r70 15 (upd (r70.1 15) 0 (vp_nar .boolean 0))) c n)) _ _
            generalize (q_sA r70 15 (upd (r70.1 15) 0 (vp_nar .boolean 0))) = r72
            refine q_RP_let ?_
            show q_RP _ _ _ (265, [(0, .ref 64), (1, .int a1), (2, .int a2)], [.int 1, .int 1, .ref 79], (q_kM r72 c n)) _ _
            refine q_RP_seg (g2 := (266, [(0, .ref 64), (1, .int a1), (2, .int a2)], [], (q_kM (q_sA r72 15 (upd (r72.1 15) 1 (vp_nar .boolean 1))) c n))) 1 (fun _ _ => rfl) ?_
            exact q_RP_ret rfl rfl rfl
          | false =>
            refine q_RP_cF ?_
            show q_RP _ _ _ (265, [(0, .ref 64), (1, .int a1), (2, .int a2)], [.int 0, .int 1, .ref 79], (q_kM (q_sA r70 15 (upd (r70.1 15) 0 (vp_nar .boolean 0))) c n)) _ _
            generalize (q_sA r70 15 (upd (r70.1 15) 0 (vp_nar .boolean 0))) = r73
            refine q_RP_let ?_
            show q_RP _ _ _ (265, [(0, .ref 64), (1, .int a1), (2, .int a2)], [.int 0, .int 1, .ref 79], (q_kM r73 c n)) _ _
            refine q_RP_seg (g2 := (266, [(0, .ref 64), (1, .int a1), (2, .int a2)], [], (q_kM (q_sA r73 15 (upd (r73.1 15) 1 (vp_nar .boolean 0))) c n))) 1 (fun _ _ => rfl) ?_
            exact q_RP_ret rfl rfl rfl
    | false =>
      refine q_RP_cF ?_
      cases h34 : decide (a1 = 0) with
      | true =>
        refine q_RP_cT ?_
        refine q_RP_st1 (g2 := (84, [(0, .ref 64), (1, .int a1), (2, .int a2)], [], (q_kM s c n))) rfl (by rw [of_decide_eq_true h34]; rfl) ?_
        refine q_RP_seg (g2 := (87, [(0, .ref 64), (1, .int a1), (2, .int a2)], [.int a2, .int 0, .ref 64], (q_kM s c n))) 3 (fun _ _ => rfl) ?_
        refine q_RP_bd fun r74 er74 => ?_
        refine q_RP_call (v := none) (h2 := (q_kM r74 c n)) rfl rfl ((dzt_M262_64 s c n 0 a2 r74 er74).le (Nat.le_of_ble_eq_true rfl)) ?_
        show q_RP _ _ _ (90, [(0, .ref 64), (1, .int a1), (2, .int a2)], [], (q_kM r74 c n)) _ _
        refine q_RP_seg (g2 := (266, [(0, .ref 64), (1, .int a1), (2, .int a2)], [], (q_kM r74 c n))) 1 (fun _ _ => rfl) ?_
        exact q_RP_ret rfl rfl rfl
      | false =>
        refine q_RP_cF ?_
        cases h35 : decide (a1 = 1) with
        | true =>
          refine q_RP_cT ?_
          refine q_RP_st1 (g2 := (93, [(0, .ref 64), (1, .int a1), (2, .int a2)], [], (q_kM s c n))) rfl (by rw [of_decide_eq_true h35]; rfl) ?_
          refine q_RP_seg (g2 := (96, [(0, .ref 64), (1, .int a1), (2, .int a2)], [.int a2, .int 1, .ref 64], (q_kM s c n))) 3 (fun _ _ => rfl) ?_
          refine q_RP_bd fun r75 er75 => ?_
          refine q_RP_call (v := none) (h2 := (q_kM r75 c n)) rfl rfl ((dzt_M262_64 s c n 1 a2 r75 er75).le (Nat.le_of_ble_eq_true rfl)) ?_
          show q_RP _ _ _ (99, [(0, .ref 64), (1, .int a1), (2, .int a2)], [], (q_kM r75 c n)) _ _
          refine q_RP_seg (g2 := (266, [(0, .ref 64), (1, .int a1), (2, .int a2)], [], (q_kM r75 c n))) 1 (fun _ _ => rfl) ?_
          exact q_RP_ret rfl rfl rfl
        | false =>
          refine q_RP_cF ?_
          cases h36 : decide (a1 = 2) with
          | true =>
            refine q_RP_cT ?_
            refine q_RP_st1 (g2 := (102, [(0, .ref 64), (1, .int a1), (2, .int a2)], [], (q_kM s c n))) rfl (by rw [of_decide_eq_true h36]; rfl) ?_
            refine q_RP_seg (g2 := (105, [(0, .ref 64), (1, .int a1), (2, .int a2)], [.int a2, .int 2, .ref 64], (q_kM s c n))) 3 (fun _ _ => rfl) ?_
            refine q_RP_bd fun r76 er76 => ?_
            refine q_RP_call (v := none) (h2 := (q_kM r76 c n)) rfl rfl ((dzt_M262_64 s c n 2 a2 r76 er76).le (Nat.le_of_ble_eq_true rfl)) ?_
            show q_RP _ _ _ (108, [(0, .ref 64), (1, .int a1), (2, .int a2)], [], (q_kM r76 c n)) _ _
            refine q_RP_seg (g2 := (266, [(0, .ref 64), (1, .int a1), (2, .int a2)], [], (q_kM r76 c n))) 1 (fun _ _ => rfl) ?_
            exact q_RP_ret rfl rfl rfl
          | false =>
            refine q_RP_cF ?_
            cases h37 : decide (a1 = 3) with
            | true =>
              refine q_RP_cT ?_
              refine q_RP_st1 (g2 := (220, [(0, .ref 64), (1, .int a1), (2, .int a2)], [], (q_kM s c n))) rfl (by rw [of_decide_eq_true h37]; rfl) ?_
              refine q_RP_seg (g2 := (231, [(0, .ref 64), (1, .int a1), (2, .int a2)], [.int ((s.1 14) 0), .int 4, .ref 79], (q_kM s c n))) 7 (fun _ _ => rfl) ?_
              refine q_RP_seg (g2 := (233, [(0, .ref 64), (1, .int a1), (2, .int a2)], [.int (((s.1 14) 0) &&& a2), .int 4, .ref 79], (q_kM s c n))) 2 (fun _ _ => rfl) ?_
              cases h38 : decide (((s.1 14) 0) &&& a2 = 0) with
              | true =>
                refine q_RP_cT ?_
                refine q_RP_rsF (g2 := (236, [(0, .ref 64), (1, .int a1), (2, .int a2)], [.int 4, .ref 79], (q_kM s c n))) rfl rfl (q_d_neT h38) ?_
                refine q_RP_seg (g2 := (250, [(0, .ref 64), (1, .int a1), (2, .int a2)], [.int 7, .int a2, .int 0, .ref 79], (q_kM (q_sA s 15 (upd (s.1 15) 4 (vp_nar .boolean 1))) c n))) 8 (fun _ _ => rfl) ?_
                refine q_RP_call (v := (some (.int (q_b (dz_M206 (q_sA s 15 (upd (s.1 15) 4 (vp_nar .boolean 1))) a2 7))))) (h2 := (q_kM (q_sA s 15 (upd (s.1 15) 4 (vp_nar .boolean 1))) c n)) rfl rfl ((dzt_M206 (q_sA s 15 (upd (s.1 15) 4 (vp_nar .boolean 1))) c n a2 7).le (Nat.le_of_ble_eq_true rfl)) ?_
                generalize dz_M206 (q_sA s 15 (upd (s.1 15) 4 (vp_nar .boolean 1))) a2 7 = r77
                refine q_RP_let ?_
                show q_RP _ _ _ (253, [(0, .ref 64), (1, .int a1), (2, .int a2)], [.int (q_b r77), .int 0, .ref 79], (q_kM (q_sA s 15 (upd (s.1 15) 4 (vp_nar .boolean 1))) c n)) _ _
                cases h39 : r77 with
                | true =>
                  refine q_RP_cT ?_
                  show q_RP _ _ _ (253, [(0, .ref 64), (1, .int a1), (2, .int a2)], [.int 1, .int 0, .ref 79], (q_kM (q_sA s 15 (upd (s.1 15) 4 (vp_nar .boolean 1))) c n)) _ _
                  generalize (q_sA s 15 (upd (s.1 15) 4 (vp_nar .boolean 1))) = r78
                  refine q_RP_let ?_
                  show q_RP _ _ _ (253, [(0, .ref 64), (1, .int a1), (2, .int a2)], [.int 1, .int 0, .ref 79], (q_kM r78 c n)) _ _
                  refine q_RP_seg (g2 := (262, [(0, .ref 64), (1, .int a1), (2, .int a2)], [.int 6, .int a2, .int 1, .ref 79], (q_kM (q_sA r78 15 (upd (r78.1 15) 0 (vp_nar .boolean 1))) c n))) 6 (fun _ _ => rfl) ?_
                  refine q_RP_call (v := (some (.int (q_b (dz_M206 (q_sA r78 15 (upd (r78.1 15) 0 (vp_nar .boolean 1))) a2 6))))) (h2 := (q_kM (q_sA r78 15 (upd (r78.1 15) 0 (vp_nar .boolean 1))) c n)) rfl rfl ((dzt_M206 (q_sA r78 15 (upd (r78.1 15) 0 (vp_nar .boolean 1))) c n a2 6).le (Nat.le_of_ble_eq_true rfl)) ?_
                  generalize dz_M206 (q_sA r78 15 (upd (r78.1 15) 0 (vp_nar .boolean 1))) a2 6 = r79
                  refine q_RP_let ?_
                  show q_RP _ _ _ (265, [(0, .ref 64), (1, .int a1), (2, .int a2)], [.int (q_b r79), .int 1, .ref 79], (q_kM (q_sA r78 15 (upd (r78.1 15) 0 (vp_nar .boolean 1))) c n)) _ _
                  cases h40 : r79 with
                  | true =>
                    refine q_RP_cT ?_
                    show q_RP _ _ _ (265, [(0, .ref 64), (1, .int a1), (2, .int a2)], [.int 1, .int 1, .ref 79], (q_kM (q_sA r78 15 (upd (r78.1 15) 0 (vp_nar .boolean 1))) c n)) _ _
                    generalize (q_sA r78 15 (upd (r78.1 15) 0 (vp_nar .boolean 1))) = r80
                    refine q_RP_let ?_
                    show q_RP _ _ _ (265, [(0, .ref 64), (1, .int a1), (2, .int a2)], [.int 1, .int 1, .ref 79], (q_kM r80 c n)) _ _
                    refine q_RP_seg (g2 := (266, [(0, .ref 64), (1, .int a1), (2, .int a2)], [], (q_kM (q_sA r80 15 (upd (r80.1 15) 1 (vp_nar .boolean 1))) c n))) 1 (fun _ _ => rfl) ?_
                    exact q_RP_ret rfl rfl rfl
                  | false =>
                    refine q_RP_cF ?_
                    show q_RP _ _ _ (265, [(0, .ref 64), (1, .int a1), (2, .int a2)], [.int 0, .int 1, .ref 79], (q_kM (q_sA r78 15 (upd (r78.1 15) 0 (vp_nar .boolean 1))) c n)) _ _
                    generalize (q_sA r78 15 (upd (r78.1 15) 0 (vp_nar .boolean 1))) = r81
                    refine q_RP_let ?_
                    show q_RP _ _ _ (265, [(0, .ref 64), (1, .int a1), (2, .int a2)], [.int 0, .int 1, .ref 79], (q_kM r81 c n)) _ _
                    refine q_RP_seg (g2 := (266, [(0, .ref 64), (1, .int a1), (2, .int a2)], [], (q_kM (q_sA r81 15 (upd (r81.1 15) 1 (vp_nar .boolean 0))) c n))) 1 (fun _ _ => rfl) ?_
                    exact q_RP_ret rfl rfl rfl
                | false =>
                  refine q_RP_cF ?_
                  show q_RP _ _ _ (253, [(0, .ref 64), (1, .int a1), (2, .int a2)], [.int 0, .int 0, .ref 79], (q_kM (q_sA s 15 (upd (s.1 15) 4 (vp_nar .boolean 1))) c n)) _ _
                  generalize (q_sA s 15 (upd (s.1 15) 4 (vp_nar .boolean 1))) = r82
                  refine q_RP_let ?_
                  show q_RP _ _ _ (253, [(0, .ref 64), (1, .int a1), (2, .int a2)], [.int 0, .int 0, .ref 79], (q_kM r82 c n)) _ _
                  refine q_RP_seg (g2 := (262, [(0, .ref 64), (1, .int a1), (2, .int a2)], [.int 6, .int a2, .int 1, .ref 79], (q_kM (q_sA r82 15 (upd (r82.1 15) 0 (vp_nar .boolean 0))) c n))) 6 (fun _ _ => rfl) ?_
                  refine q_RP_call (v := (some (.int (q_b (dz_M206 (q_sA r82 15 (upd (r82.1 15) 0 (vp_nar .boolean 0))) a2 6))))) (h2 := (q_kM (q_sA r82 15 (upd (r82.1 15) 0 (vp_nar .boolean 0))) c n)) rfl rfl ((dzt_M206 (q_sA r82 15 (upd (r82.1 15) 0 (vp_nar .boolean 0))) c n a2 6).le (Nat.le_of_ble_eq_true rfl)) ?_
                  generalize dz_M206 (q_sA r82 15 (upd (r82.1 15) 0 (vp_nar .boolean 0))) a2 6 = r83
                  refine q_RP_let ?_
                  show q_RP _ _ _ (265, [(0, .ref 64), (1, .int a1), (2, .int a2)], [.int (q_b r83), .int 1, .ref 79], (q_kM (q_sA r82 15 (upd (r82.1 15) 0 (vp_nar .boolean 0))) c n)) _ _
                  cases h41 : r83 with
                  | true =>
                    refine q_RP_cT ?_
                    show q_RP _ _ _ (265, [(0, .ref 64), (1, .int a1), (2, .int a2)], [.int 1, .int 1, .ref 79], (q_kM (q_sA r82 15 (upd (r82.1 15) 0 (vp_nar .boolean 0))) c n)) _ _
                    generalize (q_sA r82 15 (upd (r82.1 15) 0 (vp_nar .boolean 0))) = r84
                    refine q_RP_let ?_
                    show q_RP _ _ _ (265, [(0, .ref 64), (1, .int a1), (2, .int a2)], [.int 1, .int 1, .ref 79], (q_kM r84 c n)) _ _
                    refine q_RP_seg (g2 := (266, [(0, .ref 64), (1, .int a1), (2, .int a2)], [], (q_kM (q_sA r84 15 (upd (r84.1 15) 1 (vp_nar .boolean 1))) c n))) 1 (fun _ _ => rfl) ?_
                    exact q_RP_ret rfl rfl rfl
                  | false =>
                    refine q_RP_cF ?_
                    show q_RP _ _ _ (265, [(0, .ref 64), (1, .int a1), (2, .int a2)], [.int 0, .int 1, .ref 79], (q_kM (q_sA r82 15 (upd (r82.1 15) 0 (vp_nar .boolean 0))) c n)) _ _
                    generalize (q_sA r82 15 (upd (r82.1 15) 0 (vp_nar .boolean 0))) = r85
                    refine q_RP_let ?_
                    show q_RP _ _ _ (265, [(0, .ref 64), (1, .int a1), (2, .int a2)], [.int 0, .int 1, .ref 79], (q_kM r85 c n)) _ _
                    refine q_RP_seg (g2 := (266, [(0, .ref 64), (1, .int a1), (2, .int a2)], [], (q_kM (q_sA r85 15 (upd (r85.1 15) 1 (vp_nar .boolean 0))) c n))) 1 (fun _ _ => rfl) ?_
                    exact q_RP_ret rfl rfl rfl
              | false =>
                refine q_RP_cF ?_
                refine q_RP_rsT (g2 := (240, [(0, .ref 64), (1, .int a1), (2, .int a2)], [.int 4, .ref 79], (q_kM s c n))) rfl rfl (q_d_neF h38) ?_
                refine q_RP_seg (g2 := (250, [(0, .ref 64), (1, .int a1), (2, .int a2)], [.int 7, .int a2, .int 0, .ref 79], (q_kM (q_sA s 15 (upd (s.1 15) 4 (vp_nar .boolean 0))) c n))) 7 (fun _ _ => rfl) ?_
                refine q_RP_call (v := (some (.int (q_b (dz_M206 (q_sA s 15 (upd (s.1 15) 4 (vp_nar .boolean 0))) a2 7))))) (h2 := (q_kM (q_sA s 15 (upd (s.1 15) 4 (vp_nar .boolean 0))) c n)) rfl rfl ((dzt_M206 (q_sA s 15 (upd (s.1 15) 4 (vp_nar .boolean 0))) c n a2 7).le (Nat.le_of_ble_eq_true rfl)) ?_
                generalize dz_M206 (q_sA s 15 (upd (s.1 15) 4 (vp_nar .boolean 0))) a2 7 = r86
                refine q_RP_let ?_
                show q_RP _ _ _ (253, [(0, .ref 64), (1, .int a1), (2, .int a2)], [.int (q_b r86), .int 0, .ref 79], (q_kM (q_sA s 15 (upd (s.1 15) 4 (vp_nar .boolean 0))) c n)) _ _
                cases h42 : r86 with
                | true =>
                  refine q_RP_cT ?_
                  show q_RP _ _ _ (253, [(0, .ref 64), (1, .int a1), (2, .int a2)], [.int 1, .int 0, .ref 79], (q_kM (q_sA s 15 (upd (s.1 15) 4 (vp_nar .boolean 0))) c n)) _ _
                  generalize (q_sA s 15 (upd (s.1 15) 4 (vp_nar .boolean 0))) = r87
                  refine q_RP_let ?_
                  show q_RP _ _ _ (253, [(0, .ref 64), (1, .int a1), (2, .int a2)], [.int 1, .int 0, .ref 79], (q_kM r87 c n)) _ _
                  refine q_RP_seg (g2 := (262, [(0, .ref 64), (1, .int a1), (2, .int a2)], [.int 6, .int a2, .int 1, .ref 79], (q_kM (q_sA r87 15 (upd (r87.1 15) 0 (vp_nar .boolean 1))) c n))) 6 (fun _ _ => rfl) ?_
                  refine q_RP_call (v := (some (.int (q_b (dz_M206 (q_sA r87 15 (upd (r87.1 15) 0 (vp_nar .boolean 1))) a2 6))))) (h2 := (q_kM (q_sA r87 15 (upd (r87.1 15) 0 (vp_nar .boolean 1))) c n)) rfl rfl ((dzt_M206 (q_sA r87 15 (upd (r87.1 15) 0 (vp_nar .boolean 1))) c n a2 6).le (Nat.le_of_ble_eq_true rfl)) ?_
                  generalize dz_M206 (q_sA r87 15 (upd (r87.1 15) 0 (vp_nar .boolean 1))) a2 6 = r88
                  refine q_RP_let ?_
                  show q_RP _ _ _ (265, [(0, .ref 64), (1, .int a1), (2, .int a2)], [.int (q_b r88), .int 1, .ref 79], (q_kM (q_sA r87 15 (upd (r87.1 15) 0 (vp_nar .boolean 1))) c n)) _ _
                  cases h43 : r88 with
                  | true =>
                    refine q_RP_cT ?_
                    show q_RP _ _ _ (265, [(0, .ref 64), (1, .int a1), (2, .int a2)], [.int 1, .int 1, .ref 79], (q_kM (q_sA r87 15 (upd (r87.1 15) 0 (vp_nar .boolean 1))) c n)) _ _
                    generalize (q_sA r87 15 (upd (r87.1 15) 0 (vp_nar .boolean 1))) = r89
                    refine q_RP_let ?_
                    show q_RP _ _ _ (265, [(0, .ref 64), (1, .int a1), (2, .int a2)], [.int 1, .int 1, .ref 79], (q_kM r89 c n)) _ _
                    refine q_RP_seg (g2 := (266, [(0, .ref 64), (1, .int a1), (2, .int a2)], [], (q_kM (q_sA r89 15 (upd (r89.1 15) 1 (vp_nar .boolean 1))) c n))) 1 (fun _ _ => rfl) ?_
                    exact q_RP_ret rfl rfl rfl
                  | false =>
                    refine q_RP_cF ?_
                    show q_RP _ _ _ (265, [(0, .ref 64), (1, .int a1), (2, .int a2)], [.int 0, .int 1, .ref 79], (q_kM (q_sA r87 15 (upd (r87.1 15) 0 (vp_nar .boolean 1))) c n)) _ _
                    generalize (q_sA r87 15 (upd (r87.1 15) 0 (vp_nar .boolean 1))) = r90
                    refine q_RP_let ?_
                    show q_RP _ _ _ (265, [(0, .ref 64), (1, .int a1), (2, .int a2)], [.int 0, .int 1, .ref 79], (q_kM r90 c n)) _ _
                    refine q_RP_seg (g2 := (266, [(0, .ref 64), (1, .int a1), (2, .int a2)], [], (q_kM (q_sA r90 15 (upd (r90.1 15) 1 (vp_nar .boolean 0))) c n))) 1 (fun _ _ => rfl) ?_
                    exact q_RP_ret rfl rfl rfl
                | false =>
                  refine q_RP_cF ?_
                  show q_RP _ _ _ (253, [(0, .ref 64), (1, .int a1), (2, .int a2)], [.int 0, .int 0, .ref 79], (q_kM (q_sA s 15 (upd (s.1 15) 4 (vp_nar .boolean 0))) c n)) _ _
                  generalize (q_sA s 15 (upd (s.1 15) 4 (vp_nar .boolean 0))) = r91
                  refine q_RP_let ?_
                  show q_RP _ _ _ (253, [(0, .ref 64), (1, .int a1), (2, .int a2)], [.int 0, .int 0, .ref 79], (q_kM r91 c n)) _ _
                  refine q_RP_seg (g2 := (262, [(0, .ref 64), (1, .int a1), (2, .int a2)], [.int 6, .int a2, .int 1, .ref 79], (q_kM (q_sA r91 15 (upd (r91.1 15) 0 (vp_nar .boolean 0))) c n))) 6 (fun _ _ => rfl) ?_
                  refine q_RP_call (v := (some (.int (q_b (dz_M206 (q_sA r91 15 (upd (r91.1 15) 0 (vp_nar .boolean 0))) a2 6))))) (h2 := (q_kM (q_sA r91 15 (upd (r91.1 15) 0 (vp_nar .boolean 0))) c n)) rfl rfl ((dzt_M206 (q_sA r91 15 (upd (r91.1 15) 0 (vp_nar .boolean 0))) c n a2 6).le (Nat.le_of_ble_eq_true rfl)) ?_
                  generalize dz_M206 (q_sA r91 15 (upd (r91.1 15) 0 (vp_nar .boolean 0))) a2 6 = r92
                  refine q_RP_let ?_
                  show q_RP _ _ _ (265, [(0, .ref 64), (1, .int a1), (2, .int a2)], [.int (q_b r92), .int 1, .ref 79], (q_kM (q_sA r91 15 (upd (r91.1 15) 0 (vp_nar .boolean 0))) c n)) _ _
                  cases h44 : r92 with
                  | true =>
                    refine q_RP_cT ?_
                    show q_RP _ _ _ (265, [(0, .ref 64), (1, .int a1), (2, .int a2)], [.int 1, .int 1, .ref 79], (q_kM (q_sA r91 15 (upd (r91.1 15) 0 (vp_nar .boolean 0))) c n)) _ _
                    generalize (q_sA r91 15 (upd (r91.1 15) 0 (vp_nar .boolean 0))) = r93
                    refine q_RP_let ?_
                    show q_RP _ _ _ (265, [(0, .ref 64), (1, .int a1), (2, .int a2)], [.int 1, .int 1, .ref 79], (q_kM r93 c n)) _ _
                    refine q_RP_seg (g2 := (266, [(0, .ref 64), (1, .int a1), (2, .int a2)], [], (q_kM (q_sA r93 15 (upd (r93.1 15) 1 (vp_nar .boolean 1))) c n))) 1 (fun _ _ => rfl) ?_
                    exact q_RP_ret rfl rfl rfl
                  | false =>
                    refine q_RP_cF ?_
                    show q_RP _ _ _ (265, [(0, .ref 64), (1, .int a1), (2, .int a2)], [.int 0, .int 1, .ref 79], (q_kM (q_sA r91 15 (upd (r91.1 15) 0 (vp_nar .boolean 0))) c n)) _ _
                    generalize (q_sA r91 15 (upd (r91.1 15) 0 (vp_nar .boolean 0))) = r94
                    refine q_RP_let ?_
                    show q_RP _ _ _ (265, [(0, .ref 64), (1, .int a1), (2, .int a2)], [.int 0, .int 1, .ref 79], (q_kM r94 c n)) _ _
                    refine q_RP_seg (g2 := (266, [(0, .ref 64), (1, .int a1), (2, .int a2)], [], (q_kM (q_sA r94 15 (upd (r94.1 15) 1 (vp_nar .boolean 0))) c n))) 1 (fun _ _ => rfl) ?_
                    exact q_RP_ret rfl rfl rfl
            | false =>
              refine q_RP_cF ?_
              cases h45 : decide (a1 = 4) with
              | true =>
                refine q_RP_cT ?_
                refine q_RP_st1 (g2 := (220, [(0, .ref 64), (1, .int a1), (2, .int a2)], [], (q_kM s c n))) rfl (by rw [of_decide_eq_true h45]; rfl) ?_
                refine q_RP_seg (g2 := (231, [(0, .ref 64), (1, .int a1), (2, .int a2)], [.int ((s.1 14) 0), .int 4, .ref 79], (q_kM s c n))) 7 (fun _ _ => rfl) ?_
                refine q_RP_seg (g2 := (233, [(0, .ref 64), (1, .int a1), (2, .int a2)], [.int (((s.1 14) 0) &&& a2), .int 4, .ref 79], (q_kM s c n))) 2 (fun _ _ => rfl) ?_
                cases h46 : decide (((s.1 14) 0) &&& a2 = 0) with
                | true =>
                  refine q_RP_cT ?_
                  refine q_RP_rsF (g2 := (236, [(0, .ref 64), (1, .int a1), (2, .int a2)], [.int 4, .ref 79], (q_kM s c n))) rfl rfl (q_d_neT h46) ?_
                  refine q_RP_seg (g2 := (250, [(0, .ref 64), (1, .int a1), (2, .int a2)], [.int 7, .int a2, .int 0, .ref 79], (q_kM (q_sA s 15 (upd (s.1 15) 4 (vp_nar .boolean 1))) c n))) 8 (fun _ _ => rfl) ?_
                  refine q_RP_call (v := (some (.int (q_b (dz_M206 (q_sA s 15 (upd (s.1 15) 4 (vp_nar .boolean 1))) a2 7))))) (h2 := (q_kM (q_sA s 15 (upd (s.1 15) 4 (vp_nar .boolean 1))) c n)) rfl rfl ((dzt_M206 (q_sA s 15 (upd (s.1 15) 4 (vp_nar .boolean 1))) c n a2 7).le (Nat.le_of_ble_eq_true rfl)) ?_
                  generalize dz_M206 (q_sA s 15 (upd (s.1 15) 4 (vp_nar .boolean 1))) a2 7 = r95
                  refine q_RP_let ?_
                  show q_RP _ _ _ (253, [(0, .ref 64), (1, .int a1), (2, .int a2)], [.int (q_b r95), .int 0, .ref 79], (q_kM (q_sA s 15 (upd (s.1 15) 4 (vp_nar .boolean 1))) c n)) _ _
                  cases h47 : r95 with
                  | true =>
                    refine q_RP_cT ?_
                    show q_RP _ _ _ (253, [(0, .ref 64), (1, .int a1), (2, .int a2)], [.int 1, .int 0, .ref 79], (q_kM (q_sA s 15 (upd (s.1 15) 4 (vp_nar .boolean 1))) c n)) _ _
                    generalize (q_sA s 15 (upd (s.1 15) 4 (vp_nar .boolean 1))) = r96
                    refine q_RP_let ?_
                    show q_RP _ _ _ (253, [(0, .ref 64), (1, .int a1), (2, .int a2)], [.int 1, .int 0, .ref 79], (q_kM r96 c n)) _ _
                    refine q_RP_seg (g2 := (262, [(0, .ref 64), (1, .int a1), (2, .int a2)], [.int 6, .int a2, .int 1, .ref 79], (q_kM (q_sA r96 15 (upd (r96.1 15) 0 (vp_nar .boolean 1))) c n))) 6 (fun _ _ => rfl) ?_
                    refine q_RP_call (v := (some (.int (q_b (dz_M206 (q_sA r96 15 (upd (r96.1 15) 0 (vp_nar .boolean 1))) a2 6))))) (h2 := (q_kM (q_sA r96 15 (upd (r96.1 15) 0 (vp_nar .boolean 1))) c n)) rfl rfl ((dzt_M206 (q_sA r96 15 (upd (r96.1 15) 0 (vp_nar .boolean 1))) c n a2 6).le (Nat.le_of_ble_eq_true rfl)) ?_
                    generalize dz_M206 (q_sA r96 15 (upd (r96.1 15) 0 (vp_nar .boolean 1))) a2 6 = r97
                    refine q_RP_let ?_
                    show q_RP _ _ _ (265, [(0, .ref 64), (1, .int a1), (2, .int a2)], [.int (q_b r97), .int 1, .ref 79], (q_kM (q_sA r96 15 (upd (r96.1 15) 0 (vp_nar .boolean 1))) c n)) _ _
                    cases h48 : r97 with
                    | true =>
                      refine q_RP_cT ?_
                      show q_RP _ _ _ (265, [(0, .ref 64), (1, .int a1), (2, .int a2)], [.int 1, .int 1, .ref 79], (q_kM (q_sA r96 15 (upd (r96.1 15) 0 (vp_nar .boolean 1))) c n)) _ _
                      generalize (q_sA r96 15 (upd (r96.1 15) 0 (vp_nar .boolean 1))) = r98
                      refine q_RP_let ?_
                      show q_RP _ _ _ (265, [(0, .ref 64), (1, .int a1), (2, .int a2)], [.int 1, .int 1, .ref 79], (q_kM r98 c n)) _ _
                      refine q_RP_seg (g2 := (266, [(0, .ref 64), (1, .int a1), (2, .int a2)], [], (q_kM (q_sA r98 15 (upd (r98.1 15) 1 (vp_nar .boolean 1))) c n))) 1 (fun _ _ => rfl) ?_
                      exact q_RP_ret rfl rfl rfl
                    | false =>
                      refine q_RP_cF ?_
                      show q_RP _ _ _ (265, [(0, .ref 64), (1, .int a1), (2, .int a2)], [.int 0, .int 1, .ref 79], (q_kM (q_sA r96 15 (upd (r96.1 15) 0 (vp_nar .boolean 1))) c n)) _ _
                      generalize (q_sA r96 15 (upd (r96.1 15) 0 (vp_nar .boolean 1))) = r99
                      refine q_RP_let ?_
                      show q_RP _ _ _ (265, [(0, .ref 64), (1, .int a1), (2, .int a2)], [.int 0, .int 1, .ref 79], (q_kM r99 c n)) _ _
                      refine q_RP_seg (g2 := (266, [(0, .ref 64), (1, .int a1), (2, .int a2)], [], (q_kM (q_sA r99 15 (upd (r99.1 15) 1 (vp_nar .boolean 0))) c n))) 1 (fun _ _ => rfl) ?_
                      exact q_RP_ret rfl rfl rfl
                  | false =>
                    refine q_RP_cF ?_
                    show q_RP _ _ _ (253, [(0, .ref 64), (1, .int a1), (2, .int a2)], [.int 0, .int 0, .ref 79], (q_kM (q_sA s 15 (upd (s.1 15) 4 (vp_nar .boolean 1))) c n)) _ _
                    generalize (q_sA s 15 (upd (s.1 15) 4 (vp_nar .boolean 1))) = r100
                    refine q_RP_let ?_
                    show q_RP _ _ _ (253, [(0, .ref 64), (1, .int a1), (2, .int a2)], [.int 0, .int 0, .ref 79], (q_kM r100 c n)) _ _
                    refine q_RP_seg (g2 := (262, [(0, .ref 64), (1, .int a1), (2, .int a2)], [.int 6, .int a2, .int 1, .ref 79], (q_kM (q_sA r100 15 (upd (r100.1 15) 0 (vp_nar .boolean 0))) c n))) 6 (fun _ _ => rfl) ?_
                    refine q_RP_call (v := (some (.int (q_b (dz_M206 (q_sA r100 15 (upd (r100.1 15) 0 (vp_nar .boolean 0))) a2 6))))) (h2 := (q_kM (q_sA r100 15 (upd (r100.1 15) 0 (vp_nar .boolean 0))) c n)) rfl rfl ((dzt_M206 (q_sA r100 15 (upd (r100.1 15) 0 (vp_nar .boolean 0))) c n a2 6).le (Nat.le_of_ble_eq_true rfl)) ?_
                    generalize dz_M206 (q_sA r100 15 (upd (r100.1 15) 0 (vp_nar .boolean 0))) a2 6 = r101
                    refine q_RP_let ?_
                    show q_RP _ _ _ (265, [(0, .ref 64), (1, .int a1), (2, .int a2)], [.int (q_b r101), .int 1, .ref 79], (q_kM (q_sA r100 15 (upd (r100.1 15) 0 (vp_nar .boolean 0))) c n)) _ _
                    cases h49 : r101 with
                    | true =>
                      refine q_RP_cT ?_
                      show q_RP _ _ _ (265, [(0, .ref 64), (1, .int a1), (2, .int a2)], [.int 1, .int 1, .ref 79], (q_kM (q_sA r100 15 (upd (r100.1 15) 0 (vp_nar .boolean 0))) c n)) _ _
                      generalize (q_sA r100 15 (upd (r100.1 15) 0 (vp_nar .boolean 0))) = r102
                      refine q_RP_let ?_
                      show q_RP _ _ _ (265, [(0, .ref 64), (1, .int a1), (2, .int a2)], [.int 1, .int 1, .ref 79], (q_kM r102 c n)) _ _
                      refine q_RP_seg (g2 := (266, [(0, .ref 64), (1, .int a1), (2, .int a2)], [], (q_kM (q_sA r102 15 (upd (r102.1 15) 1 (vp_nar .boolean 1))) c n))) 1 (fun _ _ => rfl) ?_
                      exact q_RP_ret rfl rfl rfl
                    | false =>
                      refine q_RP_cF ?_
                      show q_RP _ _ _ (265, [(0, .ref 64), (1, .int a1), (2, .int a2)], [.int 0, .int 1, .ref 79], (q_kM (q_sA r100 15 (upd (r100.1 15) 0 (vp_nar .boolean 0))) c n)) _ _
                      generalize (q_sA r100 15 (upd (r100.1 15) 0 (vp_nar .boolean 0))) = r103
                      refine q_RP_let ?_
                      show q_RP _ _ _ (265, [(0, .ref 64), (1, .int a1), (2, .int a2)], [.int 0, .int 1, .ref 79], (q_kM r103 c n)) _ _
                      refine q_RP_seg (g2 := (266, [(0, .ref 64), (1, .int a1), (2, .int a2)], [], (q_kM (q_sA r103 15 (upd (r103.1 15) 1 (vp_nar .boolean 0))) c n))) 1 (fun _ _ => rfl) ?_
                      exact q_RP_ret rfl rfl rfl
                | false =>
                  refine q_RP_cF ?_
                  refine q_RP_rsT (g2 := (240, [(0, .ref 64), (1, .int a1), (2, .int a2)], [.int 4, .ref 79], (q_kM s c n))) rfl rfl (q_d_neF h46) ?_
                  refine q_RP_seg (g2 := (250, [(0, .ref 64), (1, .int a1), (2, .int a2)], [.int 7, .int a2, .int 0, .ref 79], (q_kM (q_sA s 15 (upd (s.1 15) 4 (vp_nar .boolean 0))) c n))) 7 (fun _ _ => rfl) ?_
                  refine q_RP_call (v := (some (.int (q_b (dz_M206 (q_sA s 15 (upd (s.1 15) 4 (vp_nar .boolean 0))) a2 7))))) (h2 := (q_kM (q_sA s 15 (upd (s.1 15) 4 (vp_nar .boolean 0))) c n)) rfl rfl ((dzt_M206 (q_sA s 15 (upd (s.1 15) 4 (vp_nar .boolean 0))) c n a2 7).le (Nat.le_of_ble_eq_true rfl)) ?_
                  generalize dz_M206 (q_sA s 15 (upd (s.1 15) 4 (vp_nar .boolean 0))) a2 7 = r104
                  refine q_RP_let ?_
                  show q_RP _ _ _ (253, [(0, .ref 64), (1, .int a1), (2, .int a2)], [.int (q_b r104), .int 0, .ref 79], (q_kM (q_sA s 15 (upd (s.1 15) 4 (vp_nar .boolean 0))) c n)) _ _
                  cases h50 : r104 with
                  | true =>
                    refine q_RP_cT ?_
                    show q_RP _ _ _ (253, [(0, .ref 64), (1, .int a1), (2, .int a2)], [.int 1, .int 0, .ref 79], (q_kM (q_sA s 15 (upd (s.1 15) 4 (vp_nar .boolean 0))) c n)) _ _
                    generalize (q_sA s 15 (upd (s.1 15) 4 (vp_nar .boolean 0))) = r105
                    refine q_RP_let ?_
                    show q_RP _ _ _ (253, [(0, .ref 64), (1, .int a1), (2, .int a2)], [.int 1, .int 0, .ref 79], (q_kM r105 c n)) _ _
                    refine q_RP_seg (g2 := (262, [(0, .ref 64), (1, .int a1), (2, .int a2)], [.int 6, .int a2, .int 1, .ref 79], (q_kM (q_sA r105 15 (upd (r105.1 15) 0 (vp_nar .boolean 1))) c n))) 6 (fun _ _ => rfl) ?_
                    refine q_RP_call (v := (some (.int (q_b (dz_M206 (q_sA r105 15 (upd (r105.1 15) 0 (vp_nar .boolean 1))) a2 6))))) (h2 := (q_kM (q_sA r105 15 (upd (r105.1 15) 0 (vp_nar .boolean 1))) c n)) rfl rfl ((dzt_M206 (q_sA r105 15 (upd (r105.1 15) 0 (vp_nar .boolean 1))) c n a2 6).le (Nat.le_of_ble_eq_true rfl)) ?_
                    generalize dz_M206 (q_sA r105 15 (upd (r105.1 15) 0 (vp_nar .boolean 1))) a2 6 = r106
                    refine q_RP_let ?_
                    show q_RP _ _ _ (265, [(0, .ref 64), (1, .int a1), (2, .int a2)], [.int (q_b r106), .int 1, .ref 79], (q_kM (q_sA r105 15 (upd (r105.1 15) 0 (vp_nar .boolean 1))) c n)) _ _
                    cases h51 : r106 with
                    | true =>
                      refine q_RP_cT ?_
                      show q_RP _ _ _ (265, [(0, .ref 64), (1, .int a1), (2, .int a2)], [.int 1, .int 1, .ref 79], (q_kM (q_sA r105 15 (upd (r105.1 15) 0 (vp_nar .boolean 1))) c n)) _ _
                      generalize (q_sA r105 15 (upd (r105.1 15) 0 (vp_nar .boolean 1))) = r107
                      refine q_RP_let ?_
                      show q_RP _ _ _ (265, [(0, .ref 64), (1, .int a1), (2, .int a2)], [.int 1, .int 1, .ref 79], (q_kM r107 c n)) _ _
                      refine q_RP_seg (g2 := (266, [(0, .ref 64), (1, .int a1), (2, .int a2)], [], (q_kM (q_sA r107 15 (upd (r107.1 15) 1 (vp_nar .boolean 1))) c n))) 1 (fun _ _ => rfl) ?_
                      exact q_RP_ret rfl rfl rfl
                    | false =>
                      refine q_RP_cF ?_
                      show q_RP _ _ _ (265, [(0, .ref 64), (1, .int a1), (2, .int a2)], [.int 0, .int 1, .ref 79], (q_kM (q_sA r105 15 (upd (r105.1 15) 0 (vp_nar .boolean 1))) c n)) _ _
                      generalize (q_sA r105 15 (upd (r105.1 15) 0 (vp_nar .boolean 1))) = r108
                      refine q_RP_let ?_
                      show q_RP _ _ _ (265, [(0, .ref 64), (1, .int a1), (2, .int a2)], [.int 0, .int 1, .ref 79], (q_kM r108 c n)) _ _
                      refine q_RP_seg (g2 := (266, [(0, .ref 64), (1, .int a1), (2, .int a2)], [], (q_kM (q_sA r108 15 (upd (r108.1 15) 1 (vp_nar .boolean 0))) c n))) 1 (fun _ _ => rfl) ?_
                      exact q_RP_ret rfl rfl rfl
                  | false =>
                    refine q_RP_cF ?_
                    show q_RP _ _ _ (253, [(0, .ref 64), (1, .int a1), (2, .int a2)], [.int 0, .int 0, .ref 79], (q_kM (q_sA s 15 (upd (s.1 15) 4 (vp_nar .boolean 0))) c n)) _ _
                    generalize (q_sA s 15 (upd (s.1 15) 4 (vp_nar .boolean 0))) = r109
                    refine q_RP_let ?_
                    show q_RP _ _ _ (253, [(0, .ref 64), (1, .int a1), (2, .int a2)], [.int 0, .int 0, .ref 79], (q_kM r109 c n)) _ _
                    refine q_RP_seg (g2 := (262, [(0, .ref 64), (1, .int a1), (2, .int a2)], [.int 6, .int a2, .int 1, .ref 79], (q_kM (q_sA r109 15 (upd (r109.1 15) 0 (vp_nar .boolean 0))) c n))) 6 (fun _ _ => rfl) ?_
                    refine q_RP_call (v := (some (.int (q_b (dz_M206 (q_sA r109 15 (upd (r109.1 15) 0 (vp_nar .boolean 0))) a2 6))))) (h2 := (q_kM (q_sA r109 15 (upd (r109.1 15) 0 (vp_nar .boolean 0))) c n)) rfl rfl ((dzt_M206 (q_sA r109 15 (upd (r109.1 15) 0 (vp_nar .boolean 0))) c n a2 6).le (Nat.le_of_ble_eq_true rfl)) ?_
                    generalize dz_M206 (q_sA r109 15 (upd (r109.1 15) 0 (vp_nar .boolean 0))) a2 6 = r110
                    refine q_RP_let ?_
                    show q_RP _ _ _ (265, [(0, .ref 64), (1, .int a1), (2, .int a2)], [.int (q_b r110), .int 1, .ref 79], (q_kM (q_sA r109 15 (upd (r109.1 15) 0 (vp_nar .boolean 0))) c n)) _ _
                    cases h52 : r110 with
                    | true =>
                      refine q_RP_cT ?_
                      show q_RP _ _ _ (265, [(0, .ref 64), (1, .int a1), (2, .int a2)], [.int 1, .int 1, .ref 79], (q_kM (q_sA r109 15 (upd (r109.1 15) 0 (vp_nar .boolean 0))) c n)) _ _
                      generalize (q_sA r109 15 (upd (r109.1 15) 0 (vp_nar .boolean 0))) = r111
                      refine q_RP_let ?_
                      show q_RP _ _ _ (265, [(0, .ref 64), (1, .int a1), (2, .int a2)], [.int 1, .int 1, .ref 79], (q_kM r111 c n)) _ _
                      refine q_RP_seg (g2 := (266, [(0, .ref 64), (1, .int a1), (2, .int a2)], [], (q_kM (q_sA r111 15 (upd (r111.1 15) 1 (vp_nar .boolean 1))) c n))) 1 (fun _ _ => rfl) ?_
                      exact q_RP_ret rfl rfl rfl
                    | false =>
                      refine q_RP_cF ?_
                      show q_RP _ _ _ (265, [(0, .ref 64), (1, .int a1), (2, .int a2)], [.int 0, .int 1, .ref 79], (q_kM (q_sA r109 15 (upd (r109.1 15) 0 (vp_nar .boolean 0))) c n)) _ _
                      generalize (q_sA r109 15 (upd (r109.1 15) 0 (vp_nar .boolean 0))) = r112
                      refine q_RP_let ?_
                      show q_RP _ _ _ (265, [(0, .ref 64), (1, .int a1), (2, .int a2)], [.int 0, .int 1, .ref 79], (q_kM r112 c n)) _ _
                      refine q_RP_seg (g2 := (266, [(0, .ref 64), (1, .int a1), (2, .int a2)], [], (q_kM (q_sA r112 15 (upd (r112.1 15) 1 (vp_nar .boolean 0))) c n))) 1 (fun _ _ => rfl) ?_
                      exact q_RP_ret rfl rfl rfl
              | false =>
                refine q_RP_cF ?_
                cases h53 : decide (a1 = 5) with
                | true =>
                  refine q_RP_cT ?_
                  refine q_RP_st1 (g2 := (220, [(0, .ref 64), (1, .int a1), (2, .int a2)], [], (q_kM s c n))) rfl (by rw [of_decide_eq_true h53]; rfl) ?_
                  refine q_RP_seg (g2 := (231, [(0, .ref 64), (1, .int a1), (2, .int a2)], [.int ((s.1 14) 0), .int 4, .ref 79], (q_kM s c n))) 7 (fun _ _ => rfl) ?_
                  refine q_RP_seg (g2 := (233, [(0, .ref 64), (1, .int a1), (2, .int a2)], [.int (((s.1 14) 0) &&& a2), .int 4, .ref 79], (q_kM s c n))) 2 (fun _ _ => rfl) ?_
                  cases h54 : decide (((s.1 14) 0) &&& a2 = 0) with
                  | true =>
                    refine q_RP_cT ?_
                    refine q_RP_rsF (g2 := (236, [(0, .ref 64), (1, .int a1), (2, .int a2)], [.int 4, .ref 79], (q_kM s c n))) rfl rfl (q_d_neT h54) ?_
                    refine q_RP_seg (g2 := (250, [(0, .ref 64), (1, .int a1), (2, .int a2)], [.int 7, .int a2, .int 0, .ref 79], (q_kM (q_sA s 15 (upd (s.1 15) 4 (vp_nar .boolean 1))) c n))) 8 (fun _ _ => rfl) ?_
                    refine q_RP_call (v := (some (.int (q_b (dz_M206 (q_sA s 15 (upd (s.1 15) 4 (vp_nar .boolean 1))) a2 7))))) (h2 := (q_kM (q_sA s 15 (upd (s.1 15) 4 (vp_nar .boolean 1))) c n)) rfl rfl ((dzt_M206 (q_sA s 15 (upd (s.1 15) 4 (vp_nar .boolean 1))) c n a2 7).le (Nat.le_of_ble_eq_true rfl)) ?_
                    generalize dz_M206 (q_sA s 15 (upd (s.1 15) 4 (vp_nar .boolean 1))) a2 7 = r113
                    refine q_RP_let ?_
                    show q_RP _ _ _ (253, [(0, .ref 64), (1, .int a1), (2, .int a2)], [.int (q_b r113), .int 0, .ref 79], (q_kM (q_sA s 15 (upd (s.1 15) 4 (vp_nar .boolean 1))) c n)) _ _
                    cases h55 : r113 with
                    | true =>
                      refine q_RP_cT ?_
                      show q_RP _ _ _ (253, [(0, .ref 64), (1, .int a1), (2, .int a2)], [.int 1, .int 0, .ref 79], (q_kM (q_sA s 15 (upd (s.1 15) 4 (vp_nar .boolean 1))) c n)) _ _
                      generalize (q_sA s 15 (upd (s.1 15) 4 (vp_nar .boolean 1))) = r114
                      refine q_RP_let ?_
                      show q_RP _ _ _ (253, [(0, .ref 64), (1, .int a1), (2, .int a2)], [.int 1, .int 0, .ref 79], (q_kM r114 c n)) _ _
                      refine q_RP_seg (g2 := (262, [(0, .ref 64), (1, .int a1), (2, .int a2)], [.int 6, .int a2, .int 1, .ref 79], (q_kM (q_sA r114 15 (upd (r114.1 15) 0 (vp_nar .boolean 1))) c n))) 6 (fun _ _ => rfl) ?_
                      refine q_RP_call (v := (some (.int (q_b (dz_M206 (q_sA r114 15 (upd (r114.1 15) 0 (vp_nar .boolean 1))) a2 6))))) (h2 := (q_kM (q_sA r114 15 (upd (r114.1 15) 0 (vp_nar .boolean 1))) c n)) rfl rfl ((dzt_M206 (q_sA r114 15 (upd (r114.1 15) 0 (vp_nar .boolean 1))) c n a2 6).le (Nat.le_of_ble_eq_true rfl)) ?_
                      generalize dz_M206 (q_sA r114 15 (upd (r114.1 15) 0 (vp_nar .boolean 1))) a2 6 = r115
                      refine q_RP_let ?_
                      show q_RP _ _ _ (265, [(0, .ref 64), (1, .int a1), (2, .int a2)], [.int (q_b r115), .int 1, .ref 79], (q_kM (q_sA r114 15 (upd (r114.1 15) 0 (vp_nar .boolean 1))) c n)) _ _
                      cases h56 : r115 with
                      | true =>
                        refine q_RP_cT ?_
                        show q_RP _ _ _ (265, [(0, .ref 64), (1, .int a1), (2, .int a2)], [.int 1, .int 1, .ref 79], (q_kM (q_sA r114 15 (upd (r114.1 15) 0 (vp_nar .boolean 1))) c n)) _ _
                        generalize (q_sA r114 15 (upd (r114.1 15) 0 (vp_nar .boolean 1))) = r116
                        refine q_RP_let ?_
                        show q_RP _ _ _ (265, [(0, .ref 64), (1, .int a1), (2, .int a2)], [.int 1, .int 1, .ref 79], (q_kM r116 c n)) _ _
                        refine q_RP_seg (g2 := (266, [(0, .ref 64), (1, .int a1), (2, .int a2)], [], (q_kM (q_sA r116 15 (upd (r116.1 15) 1 (vp_nar .boolean 1))) c n))) 1 (fun _ _ => rfl) ?_
                        exact q_RP_ret rfl rfl rfl
                      | false =>
                        refine q_RP_cF ?_
                        show q_RP _ _ _ (265, [(0, .ref 64), (1, .int a1), (2, .int a2)], [.int 0, .int 1, .ref 79], (q_kM (q_sA r114 15 (upd (r114.1 15) 0 (vp_nar .boolean 1))) c n)) _ _
                        generalize (q_sA r114 15 (upd (r114.1 15) 0 (vp_nar .boolean 1))) = r117
                        refine q_RP_let ?_
                        show q_RP _ _ _ (265, [(0, .ref 64), (1, .int a1), (2, .int a2)], [.int 0, .int 1, .ref 79], (q_kM r117 c n)) _ _
                        refine q_RP_seg (g2 := (266, [(0, .ref 64), (1, .int a1), (2, .int a2)], [], (q_kM (q_sA r117 15 (upd (r117.1 15) 1 (vp_nar .boolean 0))) c n))) 1 (fun _ _ => rfl) ?_
                        exact q_RP_ret rfl rfl rfl
                    | false =>
                      refine q_RP_cF ?_
                      show q_RP _ _ _ (253, [(0, .ref 64), (1, .int a1), (2, .int a2)], [.int 0, .int 0, .ref 79], (q_kM (q_sA s 15 (upd (s.1 15) 4 (vp_nar .boolean 1))) c n)) _ _
                      generalize (q_sA s 15 (upd (s.1 15) 4 (vp_nar .boolean 1))) = r118
                      refine q_RP_let ?_
                      show q_RP _ _ _ (253, [(0, .ref 64), (1, .int a1), (2, .int a2)], [.int 0, .int 0, .ref 79], (q_kM r118 c n)) _ _
                      refine q_RP_seg (g2 := (262, [(0, .ref 64), (1, .int a1), (2, .int a2)], [.int 6, .int a2, .int 1, .ref 79], (q_kM (q_sA r118 15 (upd (r118.1 15) 0 (vp_nar .boolean 0))) c n))) 6 (fun _ _ => rfl) ?_
                      refine q_RP_call (v := (some (.int (q_b (dz_M206 (q_sA r118 15 (upd (r118.1 15) 0 (vp_nar .boolean 0))) a2 6))))) (h2 := (q_kM (q_sA r118 15 (upd (r118.1 15) 0 (vp_nar .boolean 0))) c n)) rfl rfl ((dzt_M206 (q_sA r118 15 (upd (r118.1 15) 0 (vp_nar .boolean 0))) c n a2 6).le (Nat.le_of_ble_eq_true rfl)) ?_
                      generalize dz_M206 (q_sA r118 15 (upd (r118.1 15) 0 (vp_nar .boolean 0))) a2 6 = r119
                      refine q_RP_let ?_
                      show q_RP _ _ _ (265, [(0, .ref 64), (1, .int a1), (2, .int a2)], [.int (q_b r119), .int 1, .ref 79], (q_kM (q_sA r118 15 (upd (r118.1 15) 0 (vp_nar .boolean 0))) c n)) _ _
                      cases h57 : r119 with
                      | true =>
                        refine q_RP_cT ?_
                        show q_RP _ _ _ (265, [(0, .ref 64), (1, .int a1), (2, .int a2)], [.int 1, .int 1, .ref 79], (q_kM (q_sA r118 15 (upd (r118.1 15) 0 (vp_nar .boolean 0))) c n)) _ _
                        generalize (q_sA r118 15 (upd (r118.1 15) 0 (vp_nar .boolean 0))) = r120
                        refine q_RP_let ?_
                        show q_RP _ _ _ (265, [(0, .ref 64), (1, .int a1), (2, .int a2)], [.int 1, .int 1, .ref 79], (q_kM r120 c n)) _ _
                        refine q_RP_seg (g2 := (266, [(0, .ref 64), (1, .int a1), (2, .int a2)], [], (q_kM (q_sA r120 15 (upd (r120.1 15) 1 (vp_nar .boolean 1))) c n))) 1 (fun _ _ => rfl) ?_
                        exact q_RP_ret rfl rfl rfl
                      | false =>
                        refine q_RP_cF ?_
                        show q_RP _ _ _ (265, [(0, .ref 64), (1, .int a1), (2, .int a2)], [.int 0, .int 1, .ref 79], (q_kM (q_sA r118 15 (upd (r118.1 15) 0 (vp_nar .boolean 0))) c n)) _ _
                        generalize (q_sA r118 15 (upd (r118.1 15) 0 (vp_nar .boolean 0))) = r121
                        refine q_RP_let ?_
                        show q_RP _ _ _ (265, [(0, .ref 64), (1, .int a1), (2, .int a2)], [.int 0, .int 1, .ref 79], (q_kM r121 c n)) _ _
                        refine q_RP_seg (g2 := (266, [(0, .ref 64), (1, .int a1), (2, .int a2)], [], (q_kM (q_sA r121 15 (upd (r121.1 15) 1 (vp_nar .boolean 0))) c n))) 1 (fun _ _ => rfl) ?_
                        exact q_RP_ret rfl rfl rfl
                  | false =>
                    refine q_RP_cF ?_
                    refine q_RP_rsT (g2 := (240, [(0, .ref 64), (1, .int a1), (2, .int a2)], [.int 4, .ref 79], (q_kM s c n))) rfl rfl (q_d_neF h54) ?_
                    refine q_RP_seg (g2 := (250, [(0, .ref 64), (1, .int a1), (2, .int a2)], [.int 7, .int a2, .int 0, .ref 79], (q_kM (q_sA s 15 (upd (s.1 15) 4 (vp_nar .boolean 0))) c n))) 7 (fun _ _ => rfl) ?_
                    refine q_RP_call (v := (some (.int (q_b (dz_M206 (q_sA s 15 (upd (s.1 15) 4 (vp_nar .boolean 0))) a2 7))))) (h2 := (q_kM (q_sA s 15 (upd (s.1 15) 4 (vp_nar .boolean 0))) c n)) rfl rfl ((dzt_M206 (q_sA s 15 (upd (s.1 15) 4 (vp_nar .boolean 0))) c n a2 7).le (Nat.le_of_ble_eq_true rfl)) ?_
                    generalize dz_M206 (q_sA s 15 (upd (s.1 15) 4 (vp_nar .boolean 0))) a2 7 = r122
                    refine q_RP_let ?_
                    show q_RP _ _ _ (253, [(0, .ref 64), (1, .int a1), (2, .int a2)], [.int (q_b r122), .int 0, .ref 79], (q_kM (q_sA s 15 (upd (s.1 15) 4 (vp_nar .boolean 0))) c n)) _ _
                    cases h58 : r122 with
                    | true =>
                      refine q_RP_cT ?_
                      show q_RP _ _ _ (253, [(0, .ref 64), (1, .int a1), (2, .int a2)], [.int 1, .int 0, .ref 79], (q_kM (q_sA s 15 (upd (s.1 15) 4 (vp_nar .boolean 0))) c n)) _ _
                      generalize (q_sA s 15 (upd (s.1 15) 4 (vp_nar .boolean 0))) = r123
                      refine q_RP_let ?_
                      show q_RP _ _ _ (253, [(0, .ref 64), (1, .int a1), (2, .int a2)], [.int 1, .int 0, .ref 79], (q_kM r123 c n)) _ _
                      refine q_RP_seg (g2 := (262, [(0, .ref 64), (1, .int a1), (2, .int a2)], [.int 6, .int a2, .int 1, .ref 79], (q_kM (q_sA r123 15 (upd (r123.1 15) 0 (vp_nar .boolean 1))) c n))) 6 (fun _ _ => rfl) ?_
                      refine q_RP_call (v := (some (.int (q_b (dz_M206 (q_sA r123 15 (upd (r123.1 15) 0 (vp_nar .boolean 1))) a2 6))))) (h2 := (q_kM (q_sA r123 15 (upd (r123.1 15) 0 (vp_nar .boolean 1))) c n)) rfl rfl ((dzt_M206 (q_sA r123 15 (upd (r123.1 15) 0 (vp_nar .boolean 1))) c n a2 6).le (Nat.le_of_ble_eq_true rfl)) ?_
                      generalize dz_M206 (q_sA r123 15 (upd (r123.1 15) 0 (vp_nar .boolean 1))) a2 6 = r124
                      refine q_RP_let ?_
                      show q_RP _ _ _ (265, [(0, .ref 64), (1, .int a1), (2, .int a2)], [.int (q_b r124), .int 1, .ref 79], (q_kM (q_sA r123 15 (upd (r123.1 15) 0 (vp_nar .boolean 1))) c n)) _ _
                      cases h59 : r124 with
                      | true =>
                        refine q_RP_cT ?_
                        show q_RP _ _ _ (265, [(0, .ref 64), (1, .int a1), (2, .int a2)], [.int 1, .int 1, .ref 79], (q_kM (q_sA r123 15 (upd (r123.1 15) 0 (vp_nar .boolean 1))) c n)) _ _
                        generalize (q_sA r123 15 (upd (r123.1 15) 0 (vp_nar .boolean 1))) = r125
                        refine q_RP_let ?_
                        show q_RP _ _ _ (265, [(0, .ref 64), (1, .int a1), (2, .int a2)], [.int 1, .int 1, .ref 79], (q_kM r125 c n)) _ _
                        refine q_RP_seg (g2 := (266, [(0, .ref 64), (1, .int a1), (2, .int a2)], [], (q_kM (q_sA r125 15 (upd (r125.1 15) 1 (vp_nar .boolean 1))) c n))) 1 (fun _ _ => rfl) ?_
                        exact q_RP_ret rfl rfl rfl
                      | false =>
                        refine q_RP_cF ?_
                        show q_RP _ _ _ (265, [(0, .ref 64), (1, .int a1), (2, .int a2)], [.int 0, .int 1, .ref 79], (q_kM (q_sA r123 15 (upd (r123.1 15) 0 (vp_nar .boolean 1))) c n)) _ _
                        generalize (q_sA r123 15 (upd (r123.1 15) 0 (vp_nar .boolean 1))) = r126
                        refine q_RP_let ?_
                        show q_RP _ _ _ (265, [(0, .ref 64), (1, .int a1), (2, .int a2)], [.int 0, .int 1, .ref 79], (q_kM r126 c n)) _ _
                        refine q_RP_seg (g2 := (266, [(0, .ref 64), (1, .int a1), (2, .int a2)], [], (q_kM (q_sA r126 15 (upd (r126.1 15) 1 (vp_nar .boolean 0))) c n))) 1 (fun _ _ => rfl) ?_
                        exact q_RP_ret rfl rfl rfl
                    | false =>
                      refine q_RP_cF ?_
                      show q_RP _ _ _ (253, [(0, .ref 64), (1, .int a1), (2, .int a2)], [.int 0, .int 0, .ref 79], (q_kM (q_sA s 15 (upd (s.1 15) 4 (vp_nar .boolean 0))) c n)) _ _
                      generalize (q_sA s 15 (upd (s.1 15) 4 (vp_nar .boolean 0))) = r127
                      refine q_RP_let ?_
                      show q_RP _ _ _ (253, [(0, .ref 64), (1, .int a1), (2, .int a2)], [.int 0, .int 0, .ref 79], (q_kM r127 c n)) _ _
                      refine q_RP_seg (g2 := (262, [(0, .ref 64), (1, .int a1), (2, .int a2)], [.int 6, .int a2, .int 1, .ref 79], (q_kM (q_sA r127 15 (upd (r127.1 15) 0 (vp_nar .boolean 0))) c n))) 6 (fun _ _ => rfl) ?_
                      refine q_RP_call (v := (some (.int (q_b (dz_M206 (q_sA r127 15 (upd (r127.1 15) 0 (vp_nar .boolean 0))) a2 6))))) (h2 := (q_kM (q_sA r127 15 (upd (r127.1 15) 0 (vp_nar .boolean 0))) c n)) rfl rfl ((dzt_M206 (q_sA r127 15 (upd (r127.1 15) 0 (vp_nar .boolean 0))) c n a2 6).le (Nat.le_of_ble_eq_true rfl)) ?_
                      generalize dz_M206 (q_sA r127 15 (upd (r127.1 15) 0 (vp_nar .boolean 0))) a2 6 = r128
                      refine q_RP_let ?_
                      show q_RP _ _ _ (265, [(0, .ref 64), (1, .int a1), (2, .int a2)], [.int (q_b r128), .int 1, .ref 79], (q_kM (q_sA r127 15 (upd (r127.1 15) 0 (vp_nar .boolean 0))) c n)) _ _
                      cases h60 : r128 with
                      | true =>
                        refine q_RP_cT ?_
                        show q_RP _ _ _ (265, [(0, .ref 64), (1, .int a1), (2, .int a2)], [.int 1, .int 1, .ref 79], (q_kM (q_sA r127 15 (upd (r127.1 15) 0 (vp_nar .boolean 0))) c n)) _ _
                        generalize (q_sA r127 15 (upd (r127.1 15) 0 (vp_nar .boolean 0))) = r129
                        refine q_RP_let ?_
                        show q_RP _ _ _ (265, [(0, .ref 64), (1, .int a1), (2, .int a2)], [.int 1, .int 1, .ref 79], (q_kM r129 c n)) _ _
                        refine q_RP_seg (g2 := (266, [(0, .ref 64), (1, .int a1), (2, .int a2)], [], (q_kM (q_sA r129 15 (upd (r129.1 15) 1 (vp_nar .boolean 1))) c n))) 1 (fun _ _ => rfl) ?_
                        exact q_RP_ret rfl rfl rfl
                      | false =>
                        refine q_RP_cF ?_
                        show q_RP _ _ _ (265, [(0, .ref 64), (1, .int a1), (2, .int a2)], [.int 0, .int 1, .ref 79], (q_kM (q_sA r127 15 (upd (r127.1 15) 0 (vp_nar .boolean 0))) c n)) _ _
                        generalize (q_sA r127 15 (upd (r127.1 15) 0 (vp_nar .boolean 0))) = r130
                        refine q_RP_let ?_
                        show q_RP _ _ _ (265, [(0, .ref 64), (1, .int a1), (2, .int a2)], [.int 0, .int 1, .ref 79], (q_kM r130 c n)) _ _
                        refine q_RP_seg (g2 := (266, [(0, .ref 64), (1, .int a1), (2, .int a2)], [], (q_kM (q_sA r130 15 (upd (r130.1 15) 1 (vp_nar .boolean 0))) c n))) 1 (fun _ _ => rfl) ?_
                        exact q_RP_ret rfl rfl rfl
                | false =>
                  refine q_RP_cF ?_
                  cases h61 : decide (a1 = 6) with
                  | true =>
                    refine q_RP_cT ?_
                    refine q_RP_st1 (g2 := (111, [(0, .ref 64), (1, .int a1), (2, .int a2)], [], (q_kM s c n))) rfl (by rw [of_decide_eq_true h61]; rfl) ?_
                    refine q_RP_seg (g2 := (114, [(0, .ref 64), (1, .int a1), (2, .int a2)], [.int a2, .int 1, .ref 64], (q_kM s c n))) 3 (fun _ _ => rfl) ?_
                    refine q_RP_bd fun r131 er131 => ?_
                    refine q_RP_call (v := none) (h2 := (q_kM r131 c n)) rfl rfl ((dzt_M267_64_t s c n a2 r131 er131).le (Nat.le_of_ble_eq_true rfl)) ?_
                    show q_RP _ _ _ (117, [(0, .ref 64), (1, .int a1), (2, .int a2)], [], (q_kM r131 c n)) _ _
                    refine q_RP_seg (g2 := (266, [(0, .ref 64), (1, .int a1), (2, .int a2)], [], (q_kM r131 c n))) 1 (fun _ _ => rfl) ?_
                    exact q_RP_ret rfl rfl rfl
                  | false =>
                    refine q_RP_cF ?_
                    cases h62 : decide (a1 = 7) with
                    | true =>
                      refine q_RP_cT ?_
                      refine q_RP_st1 (g2 := (120, [(0, .ref 64), (1, .int a1), (2, .int a2)], [], (q_kM s c n))) rfl (by rw [of_decide_eq_true h62]; rfl) ?_
                      refine q_RP_seg (g2 := (123, [(0, .ref 64), (1, .int a1), (2, .int a2)], [.int a2, .int 0, .ref 64], (q_kM s c n))) 3 (fun _ _ => rfl) ?_
                      refine q_RP_bd fun r132 er132 => ?_
                      refine q_RP_call (v := none) (h2 := (q_kM r132 c n)) rfl rfl ((dzt_M267_64_f s c n a2 r132 er132).le (Nat.le_of_ble_eq_true rfl)) ?_
                      show q_RP _ _ _ (126, [(0, .ref 64), (1, .int a1), (2, .int a2)], [], (q_kM r132 c n)) _ _
                      refine q_RP_seg (g2 := (266, [(0, .ref 64), (1, .int a1), (2, .int a2)], [], (q_kM r132 c n))) 1 (fun _ _ => rfl) ?_
                      exact q_RP_ret rfl rfl rfl
                    | false =>
                      refine q_RP_cF ?_
                      cases h63 : decide (a1 = 8) with
                      | true =>
                        refine q_RP_cT ?_
                        refine q_RP_st1 (g2 := (129, [(0, .ref 64), (1, .int a1), (2, .int a2)], [], (q_kM s c n))) rfl (by rw [of_decide_eq_true h63]; rfl) ?_
                        refine q_RP_seg (g2 := (137, [(0, .ref 64), (1, .int a1), (2, .int a2)], [.int ((s.1 14) 0), .int 0, .ref 64], (q_kM s c n))) 6 (fun _ _ => rfl) ?_
                        refine q_RP_seg (g2 := (139, [(0, .ref 64), (1, .int a1), (2, .int a2)], [.int (((s.1 14) 0) &&& a2), .int 0, .ref 64], (q_kM s c n))) 2 (fun _ _ => rfl) ?_
                        refine q_RP_bd fun r133 er133 => ?_
                        refine q_RP_call (v := none) (h2 := (q_kM r133 c n)) rfl rfl ((dzt_M262_64 s c n 0 (((s.1 14) 0) &&& a2) r133 er133).le (Nat.le_of_ble_eq_true rfl)) ?_
                        show q_RP _ _ _ (142, [(0, .ref 64), (1, .int a1), (2, .int a2)], [], (q_kM r133 c n)) _ _
                        refine q_RP_seg (g2 := (266, [(0, .ref 64), (1, .int a1), (2, .int a2)], [], (q_kM r133 c n))) 1 (fun _ _ => rfl) ?_
                        exact q_RP_ret rfl rfl rfl
                      | false =>
                        refine q_RP_cF ?_
                        cases h64 : decide (a1 = 9) with
                        | true =>
                          refine q_RP_cT ?_
                          refine q_RP_st1 (g2 := (145, [(0, .ref 64), (1, .int a1), (2, .int a2)], [], (q_kM s c n))) rfl (by rw [of_decide_eq_true h64]; rfl) ?_
                          refine q_RP_seg (g2 := (153, [(0, .ref 64), (1, .int a1), (2, .int a2)], [.int ((s.1 14) 0), .int 0, .ref 64], (q_kM s c n))) 6 (fun _ _ => rfl) ?_
                          refine q_RP_seg (g2 := (155, [(0, .ref 64), (1, .int a1), (2, .int a2)], [.int (((s.1 14) 0) ||| a2), .int 0, .ref 64], (q_kM s c n))) 2 (fun _ _ => rfl) ?_
                          refine q_RP_bd fun r134 er134 => ?_
                          refine q_RP_call (v := none) (h2 := (q_kM r134 c n)) rfl rfl ((dzt_M262_64 s c n 0 (((s.1 14) 0) ||| a2) r134 er134).le (Nat.le_of_ble_eq_true rfl)) ?_
                          show q_RP _ _ _ (158, [(0, .ref 64), (1, .int a1), (2, .int a2)], [], (q_kM r134 c n)) _ _
                          refine q_RP_seg (g2 := (266, [(0, .ref 64), (1, .int a1), (2, .int a2)], [], (q_kM r134 c n))) 1 (fun _ _ => rfl) ?_
                          exact q_RP_ret rfl rfl rfl
                        | false =>
                          refine q_RP_cF ?_
                          cases h65 : decide (a1 = 10) with
                          | true =>
                            refine q_RP_cT ?_
                            refine q_RP_st1 (g2 := (161, [(0, .ref 64), (1, .int a1), (2, .int a2)], [], (q_kM s c n))) rfl (by rw [of_decide_eq_true h65]; rfl) ?_
                            refine q_RP_seg (g2 := (169, [(0, .ref 64), (1, .int a1), (2, .int a2)], [.int ((s.1 14) 0), .int 0, .ref 64], (q_kM s c n))) 6 (fun _ _ => rfl) ?_
                            refine q_RP_seg (g2 := (171, [(0, .ref 64), (1, .int a1), (2, .int a2)], [.int (((s.1 14) 0) ^^^ a2), .int 0, .ref 64], (q_kM s c n))) 2 (fun _ _ => rfl) ?_
                            refine q_RP_bd fun r135 er135 => ?_
                            refine q_RP_call (v := none) (h2 := (q_kM r135 c n)) rfl rfl ((dzt_M262_64 s c n 0 (((s.1 14) 0) ^^^ a2) r135 er135).le (Nat.le_of_ble_eq_true rfl)) ?_
                            show q_RP _ _ _ (174, [(0, .ref 64), (1, .int a1), (2, .int a2)], [], (q_kM r135 c n)) _ _
                            refine q_RP_seg (g2 := (266, [(0, .ref 64), (1, .int a1), (2, .int a2)], [], (q_kM r135 c n))) 1 (fun _ _ => rfl) ?_
                            exact q_RP_ret rfl rfl rfl
                          | false =>
                            refine q_RP_cF ?_
                            cases h66 : decide (a1 = 11) with
                            | true =>
                              refine q_RP_cT ?_
                              refine q_RP_st1 (g2 := (177, [(0, .ref 64), (1, .int a1), (2, .int a2)], [], (q_kM s c n))) rfl (by rw [of_decide_eq_true h66]; rfl) ?_
                              refine q_RP_seg (g2 := (180, [(0, .ref 64), (1, .int a1), (2, .int a2)], [.int a2, .int 0, .ref 64], (q_kM s c n))) 3 (fun _ _ => rfl) ?_
                              refine q_RP_bd fun r136 er136 => ?_
                              refine q_RP_call (v := none) (h2 := (q_kM r136 c n)) rfl rfl ((dzt_M263_64 s c n 0 a2 r136 er136).le (Nat.le_of_ble_eq_true rfl)) ?_
                              show q_RP _ _ _ (183, [(0, .ref 64), (1, .int a1), (2, .int a2)], [], (q_kM r136 c n)) _ _
                              refine q_RP_seg (g2 := (266, [(0, .ref 64), (1, .int a1), (2, .int a2)], [], (q_kM r136 c n))) 1 (fun _ _ => rfl) ?_
                              exact q_RP_ret rfl rfl rfl
                            | false =>
                              refine q_RP_cF ?_
                              cases h67 : decide (a1 = 12) with
                              | true =>
                                refine q_RP_cT ?_
                                refine q_RP_st1 (g2 := (186, [(0, .ref 64), (1, .int a1), (2, .int a2)], [], (q_kM s c n))) rfl (by rw [of_decide_eq_true h67]; rfl) ?_
                                refine q_RP_seg (g2 := (189, [(0, .ref 64), (1, .int a1), (2, .int a2)], [.int a2, .int 1, .ref 64], (q_kM s c n))) 3 (fun _ _ => rfl) ?_
                                refine q_RP_bd fun r137 er137 => ?_
                                refine q_RP_call (v := none) (h2 := (q_kM r137 c n)) rfl rfl ((dzt_M263_64 s c n 1 a2 r137 er137).le (Nat.le_of_ble_eq_true rfl)) ?_
                                show q_RP _ _ _ (192, [(0, .ref 64), (1, .int a1), (2, .int a2)], [], (q_kM r137 c n)) _ _
                                refine q_RP_seg (g2 := (266, [(0, .ref 64), (1, .int a1), (2, .int a2)], [], (q_kM r137 c n))) 1 (fun _ _ => rfl) ?_
                                exact q_RP_ret rfl rfl rfl
                              | false =>
                                refine q_RP_cF ?_
                                cases h68 : decide (a1 = 13) with
                                | true =>
                                  refine q_RP_cT ?_
                                  refine q_RP_st1 (g2 := (195, [(0, .ref 64), (1, .int a1), (2, .int a2)], [], (q_kM s c n))) rfl (by rw [of_decide_eq_true h68]; rfl) ?_
                                  refine q_RP_seg (g2 := (198, [(0, .ref 64), (1, .int a1), (2, .int a2)], [.int a2, .int 2, .ref 64], (q_kM s c n))) 3 (fun _ _ => rfl) ?_
                                  refine q_RP_bd fun r138 er138 => ?_
                                  refine q_RP_call (v := none) (h2 := (q_kM r138 c n)) rfl rfl ((dzt_M263_64 s c n 2 a2 r138 er138).le (Nat.le_of_ble_eq_true rfl)) ?_
                                  show q_RP _ _ _ (201, [(0, .ref 64), (1, .int a1), (2, .int a2)], [], (q_kM r138 c n)) _ _
                                  refine q_RP_seg (g2 := (266, [(0, .ref 64), (1, .int a1), (2, .int a2)], [], (q_kM r138 c n))) 1 (fun _ _ => rfl) ?_
                                  exact q_RP_ret rfl rfl rfl
                                | false =>
                                  refine q_RP_cF ?_
                                  cases h69 : decide (a1 = 14) with
                                  | true =>
                                    refine q_RP_cT ?_
                                    refine q_RP_st1 (g2 := (220, [(0, .ref 64), (1, .int a1), (2, .int a2)], [], (q_kM s c n))) rfl (by rw [of_decide_eq_true h69]; rfl) ?_
                                    refine q_RP_seg (g2 := (231, [(0, .ref 64), (1, .int a1), (2, .int a2)], [.int ((s.1 14) 0), .int 4, .ref 79], (q_kM s c n))) 7 (fun _ _ => rfl) ?_
                                    refine q_RP_seg (g2 := (233, [(0, .ref 64), (1, .int a1), (2, .int a2)], [.int (((s.1 14) 0) &&& a2), .int 4, .ref 79], (q_kM s c n))) 2 (fun _ _ => rfl) ?_
                                    cases h70 : decide (((s.1 14) 0) &&& a2 = 0) with
                                    | true =>
                                      refine q_RP_cT ?_
                                      refine q_RP_rsF (g2 := (236, [(0, .ref 64), (1, .int a1), (2, .int a2)], [.int 4, .ref 79], (q_kM s c n))) rfl rfl (q_d_neT h70) ?_
                                      refine q_RP_seg (g2 := (250, [(0, .ref 64), (1, .int a1), (2, .int a2)], [.int 7, .int a2, .int 0, .ref 79], (q_kM (q_sA s 15 (upd (s.1 15) 4 (vp_nar .boolean 1))) c n))) 8 (fun _ _ => rfl) ?_
                                      refine q_RP_call (v := (some (.int (q_b (dz_M206 (q_sA s 15 (upd (s.1 15) 4 (vp_nar .boolean 1))) a2 7))))) (h2 := (q_kM (q_sA s 15 (upd (s.1 15) 4 (vp_nar .boolean 1))) c n)) rfl rfl ((dzt_M206 (q_sA s 15 (upd (s.1 15) 4 (vp_nar .boolean 1))) c n a2 7).le (Nat.le_of_ble_eq_true rfl)) ?_
                                      generalize dz_M206 (q_sA s 15 (upd (s.1 15) 4 (vp_nar .boolean 1))) a2 7 = r139
                                      refine q_RP_let ?_
                                      show q_RP _ _ _ (253, [(0, .ref 64), (1, .int a1), (2, .int a2)], [.int (q_b r139), .int 0, .ref 79], (q_kM (q_sA s 15 (upd (s.1 15) 4 (vp_nar .boolean 1))) c n)) _ _
                                      cases h71 : r139 with
                                      | true =>
                                        refine q_RP_cT ?_
                                        show q_RP _ _ _ (253, [(0, .ref 64), (1, .int a1), (2, .int a2)], [.int 1, .int 0, .ref 79], (q_kM (q_sA s 15 (upd (s.1 15) 4 (vp_nar .boolean 1))) c n)) _ _
                                        generalize (q_sA s 15 (upd (s.1 15) 4 (vp_nar .boolean 1))) = r140
                                        refine q_RP_let ?_
                                        show q_RP _ _ _ (253, [(0, .ref 64), (1, .int a1), (2, .int a2)], [.int 1, .int 0, .ref 79], (q_kM r140 c n)) _ _
                                        refine q_RP_seg (g2 := (262, [(0, .ref 64), (1, .int a1), (2, .int a2)], [.int 6, .int a2, .int 1, .ref 79], (q_kM (q_sA r140 15 (upd (r140.1 15) 0 (vp_nar .boolean 1))) c n))) 6 (fun _ _ => rfl) ?_
                                        refine q_RP_call (v := (some (.int (q_b (dz_M206 (q_sA r140 15 (upd (r140.1 15) 0 (vp_nar .boolean 1))) a2 6))))) (h2 := (q_kM (q_sA r140 15 (upd (r140.1 15) 0 (vp_nar .boolean 1))) c n)) rfl rfl ((dzt_M206 (q_sA r140 15 (upd (r140.1 15) 0 (vp_nar .boolean 1))) c n a2 6).le (Nat.le_of_ble_eq_true rfl)) ?_
                                        generalize dz_M206 (q_sA r140 15 (upd (r140.1 15) 0 (vp_nar .boolean 1))) a2 6 = r141
                                        refine q_RP_let ?_
                                        show q_RP _ _ _ (265, [(0, .ref 64), (1, .int a1), (2, .int a2)], [.int (q_b r141), .int 1, .ref 79], (q_kM (q_sA r140 15 (upd (r140.1 15) 0 (vp_nar .boolean 1))) c n)) _ _
                                        cases h72 : r141 with
                                        | true =>
                                          refine q_RP_cT ?_
                                          show q_RP _ _ _ (265, [(0, .ref 64), (1, .int a1), (2, .int a2)], [.int 1, .int 1, .ref 79], (q_kM (q_sA r140 15 (upd (r140.1 15) 0 (vp_nar .boolean 1))) c n)) _ _
                                          generalize (q_sA r140 15 (upd (r140.1 15) 0 (vp_nar .boolean 1))) = r142
                                          refine q_RP_let ?_
                                          show q_RP _ _ _ (265, [(0, .ref 64), (1, .int a1), (2, .int a2)], [.int 1, .int 1, .ref 79], (q_kM r142 c n)) _ _
                                          refine q_RP_seg (g2 := (266, [(0, .ref 64), (1, .int a1), (2, .int a2)], [], (q_kM (q_sA r142 15 (upd (r142.1 15) 1 (vp_nar .boolean 1))) c n))) 1 (fun _ _ => rfl) ?_
                                          exact q_RP_ret rfl rfl rfl
                                        | false =>
                                          refine q_RP_cF ?_
                                          show q_RP _ _ _ (265, [(0, .ref 64), (1, .int a1), (2, .int a2)], [.int 0, .int 1, .ref 79], (q_kM (q_sA r140 15 (upd (r140.1 15) 0 (vp_nar .boolean 1))) c n)) _ _
                                          generalize (q_sA r140 15 (upd (r140.1 15) 0 (vp_nar .boolean 1))) = r143
                                          refine q_RP_let ?_
                                          show q_RP _ _ _ (265, [(0, .ref 64), (1, .int a1), (2, .int a2)], [.int 0, .int 1, .ref 79], (q_kM r143 c n)) _ _
                                          refine q_RP_seg (g2 := (266, [(0, .ref 64), (1, .int a1), (2, .int a2)], [], (q_kM (q_sA r143 15 (upd (r143.1 15) 1 (vp_nar .boolean 0))) c n))) 1 (fun _ _ => rfl) ?_
                                          exact q_RP_ret rfl rfl rfl
                                      | false =>
                                        refine q_RP_cF ?_
                                        show q_RP _ _ _ (253, [(0, .ref 64), (1, .int a1), (2, .int a2)], [.int 0, .int 0, .ref 79], (q_kM (q_sA s 15 (upd (s.1 15) 4 (vp_nar .boolean 1))) c n)) _ _
                                        generalize (q_sA s 15 (upd (s.1 15) 4 (vp_nar .boolean 1))) = r144
                                        refine q_RP_let ?_
                                        show q_RP _ _ _ (253, [(0, .ref 64), (1, .int a1), (2, .int a2)], [.int 0, .int 0, .ref 79], (q_kM r144 c n)) _ _
                                        refine q_RP_seg (g2 := (262, [(0, .ref 64), (1, .int a1), (2, .int a2)], [.int 6, .int a2, .int 1, .ref 79], (q_kM (q_sA r144 15 (upd (r144.1 15) 0 (vp_nar .boolean 0))) c n))) 6 (fun _ _ => rfl) ?_
                                        refine q_RP_call (v := (some (.int (q_b (dz_M206 (q_sA r144 15 (upd (r144.1 15) 0 (vp_nar .boolean 0))) a2 6))))) (h2 := (q_kM (q_sA r144 15 (upd (r144.1 15) 0 (vp_nar .boolean 0))) c n)) rfl rfl ((dzt_M206 (q_sA r144 15 (upd (r144.1 15) 0 (vp_nar .boolean 0))) c n a2 6).le (Nat.le_of_ble_eq_true rfl)) ?_
                                        generalize dz_M206 (q_sA r144 15 (upd (r144.1 15) 0 (vp_nar .boolean 0))) a2 6 = r145
                                        refine q_RP_let ?_
                                        show q_RP _ _ _ (265, [(0, .ref 64), (1, .int a1), (2, .int a2)], [.int (q_b r145), .int 1, .ref 79], (q_kM (q_sA r144 15 (upd (r144.1 15) 0 (vp_nar .boolean 0))) c n)) _ _
                                        cases h73 : r145 with
                                        | true =>
                                          refine q_RP_cT ?_
                                          show q_RP _ _ _ (265, [(0, .ref 64), (1, .int a1), (2, .int a2)], [.int 1, .int 1, .ref 79], (q_kM (q_sA r144 15 (upd (r144.1 15) 0 (vp_nar .boolean 0))) c n)) _ _
                                          generalize (q_sA r144 15 (upd (r144.1 15) 0 (vp_nar .boolean 0))) = r146
                                          refine q_RP_let ?_
                                          show q_RP _ _ _ (265, [(0, .ref 64), (1, .int a1), (2, .int a2)], [.int 1, .int 1, .ref 79], (q_kM r146 c n)) _ _
                                          refine q_RP_seg (g2 := (266, [(0, .ref 64), (1, .int a1), (2, .int a2)], [], (q_kM (q_sA r146 15 (upd (r146.1 15) 1 (vp_nar .boolean 1))) c n))) 1 (fun _ _ => rfl) ?_
                                          exact q_RP_ret rfl rfl rfl
                                        | false =>
                                          refine q_RP_cF ?_
                                          show q_RP _ _ _ (265, [(0, .ref 64), (1, .int a1), (2, .int a2)], [.int 0, .int 1, .ref 79], (q_kM (q_sA r144 15 (upd (r144.1 15) 0 (vp_nar .boolean 0))) c n)) _ _
                                          generalize (q_sA r144 15 (upd (r144.1 15) 0 (vp_nar .boolean 0))) = r147
                                          refine q_RP_let ?_
                                          show q_RP _ _ _ (265, [(0, .ref 64), (1, .int a1), (2, .int a2)], [.int 0, .int 1, .ref 79], (q_kM r147 c n)) _ _
                                          refine q_RP_seg (g2 := (266, [(0, .ref 64), (1, .int a1), (2, .int a2)], [], (q_kM (q_sA r147 15 (upd (r147.1 15) 1 (vp_nar .boolean 0))) c n))) 1 (fun _ _ => rfl) ?_
                                          exact q_RP_ret rfl rfl rfl
                                    | false =>
                                      refine q_RP_cF ?_
                                      refine q_RP_rsT (g2 := (240, [(0, .ref 64), (1, .int a1), (2, .int a2)], [.int 4, .ref 79], (q_kM s c n))) rfl rfl (q_d_neF h70) ?_
                                      refine q_RP_seg (g2 := (250, [(0, .ref 64), (1, .int a1), (2, .int a2)], [.int 7, .int a2, .int 0, .ref 79], (q_kM (q_sA s 15 (upd (s.1 15) 4 (vp_nar .boolean 0))) c n))) 7 (fun _ _ => rfl) ?_
                                      refine q_RP_call (v := (some (.int (q_b (dz_M206 (q_sA s 15 (upd (s.1 15) 4 (vp_nar .boolean 0))) a2 7))))) (h2 := (q_kM (q_sA s 15 (upd (s.1 15) 4 (vp_nar .boolean 0))) c n)) rfl rfl ((dzt_M206 (q_sA s 15 (upd (s.1 15) 4 (vp_nar .boolean 0))) c n a2 7).le (Nat.le_of_ble_eq_true rfl)) ?_
                                      generalize dz_M206 (q_sA s 15 (upd (s.1 15) 4 (vp_nar .boolean 0))) a2 7 = r148
                                      refine q_RP_let ?_
                                      show q_RP _ _ _ (253, [(0, .ref 64), (1, .int a1), (2, .int a2)], [.int (q_b r148), .int 0, .ref 79], (q_kM (q_sA s 15 (upd (s.1 15) 4 (vp_nar .boolean 0))) c n)) _ _
                                      cases h74 : r148 with
                                      | true =>
                                        refine q_RP_cT ?_
                                        show q_RP _ _ _ (253, [(0, .ref 64), (1, .int a1), (2, .int a2)], [.int 1, .int 0, .ref 79], (q_kM (q_sA s 15 (upd (s.1 15) 4 (vp_nar .boolean 0))) c n)) _ _
                                        generalize (q_sA s 15 (upd (s.1 15) 4 (vp_nar .boolean 0))) = r149
                                        refine q_RP_let ?_
                                        show q_RP _ _ _ (253, [(0, .ref 64), (1, .int a1), (2, .int a2)], [.int 1, .int 0, .ref 79], (q_kM r149 c n)) _ _
                                        refine q_RP_seg (g2 := (262, [(0, .ref 64), (1, .int a1), (2, .int a2)], [.int 6, .int a2, .int 1, .ref 79], (q_kM (q_sA r149 15 (upd (r149.1 15) 0 (vp_nar .boolean 1))) c n))) 6 (fun _ _ => rfl) ?_
                                        refine q_RP_call (v := (some (.int (q_b (dz_M206 (q_sA r149 15 (upd (r149.1 15) 0 (vp_nar .boolean 1))) a2 6))))) (h2 := (q_kM (q_sA r149 15 (upd (r149.1 15) 0 (vp_nar .boolean 1))) c n)) rfl rfl ((dzt_M206 (q_sA r149 15 (upd (r149.1 15) 0 (vp_nar .boolean 1))) c n a2 6).le (Nat.le_of_ble_eq_true rfl)) ?_
                                        generalize dz_M206 (q_sA r149 15 (upd (r149.1 15) 0 (vp_nar .boolean 1))) a2 6 = r150
                                        refine q_RP_let ?_
                                        show q_RP _ _ _ (265, [(0, .ref 64), (1, .int a1), (2, .int a2)], [.int (q_b r150), .int 1, .ref 79], (q_kM (q_sA r149 15 (upd (r149.1 15) 0 (vp_nar .boolean 1))) c n)) _ _
                                        cases h75 : r150 with
                                        | true =>
                                          refine q_RP_cT ?_
                                          show q_RP _ _ _ (265, [(0, .ref 64), (1, .int a1), (2, .int a2)], [.int 1, .int 1, .ref 79], (q_kM (q_sA r149 15 (upd (r149.1 15) 0 (vp_nar .boolean 1))) c n)) _ _
                                          generalize (q_sA r149 15 (upd (r149.1 15) 0 (vp_nar .boolean 1))) = r151
                                          refine q_RP_let ?_
                                          show q_RP _ _ _ (265, [(0, .ref 64), (1, .int a1), (2, .int a2)], [.int 1, .int 1, .ref 79], (q_kM r151 c n)) _ _
                                          refine q_RP_seg (g2 := (266, [(0, .ref 64), (1, .int a1), (2, .int a2)], [], (q_kM (q_sA r151 15 (upd (r151.1 15) 1 (vp_nar .boolean 1))) c n))) 1 (fun _ _ => rfl) ?_
                                          exact q_RP_ret rfl rfl rfl
                                        | false =>
                                          refine q_RP_cF ?_
                                          show q_RP _ _ _ (265, [(0, .ref 64), (1, .int a1), (2, .int a2)], [.int 0, .int 1, .ref 79], (q_kM (q_sA r149 15 (upd (r149.1 15) 0 (vp_nar .boolean 1))) c n)) _ _
                                          generalize (q_sA r149 15 (upd (r149.1 15) 0 (vp_nar .boolean 1))) = r152
                                          refine q_RP_let ?_
                                          show q_RP _ _ _ (265, [(0, .ref 64), (1, .int a1), (2, .int a2)], [.int 0, .int 1, .ref 79], (q_kM r152 c n)) _ _
                                          refine q_RP_seg (g2 := (266, [(0, .ref 64), (1, .int a1), (2, .int a2)], [], (q_kM (q_sA r152 15 (upd (r152.1 15) 1 (vp_nar .boolean 0))) c n))) 1 (fun _ _ => rfl) ?_
                                          exact q_RP_ret rfl rfl rfl
                                      | false =>
                                        refine q_RP_cF ?_
                                        show q_RP _ _ _ (253, [(0, .ref 64), (1, .int a1), (2, .int a2)], [.int 0, .int 0, .ref 79], (q_kM (q_sA s 15 (upd (s.1 15) 4 (vp_nar .boolean 0))) c n)) _ _
                                        generalize (q_sA s 15 (upd (s.1 15) 4 (vp_nar .boolean 0))) = r153
                                        refine q_RP_let ?_
                                        show q_RP _ _ _ (253, [(0, .ref 64), (1, .int a1), (2, .int a2)], [.int 0, .int 0, .ref 79], (q_kM r153 c n)) _ _
                                        refine q_RP_seg (g2 := (262, [(0, .ref 64), (1, .int a1), (2, .int a2)], [.int 6, .int a2, .int 1, .ref 79], (q_kM (q_sA r153 15 (upd (r153.1 15) 0 (vp_nar .boolean 0))) c n))) 6 (fun _ _ => rfl) ?_
                                        refine q_RP_call (v := (some (.int (q_b (dz_M206 (q_sA r153 15 (upd (r153.1 15) 0 (vp_nar .boolean 0))) a2 6))))) (h2 := (q_kM (q_sA r153 15 (upd (r153.1 15) 0 (vp_nar .boolean 0))) c n)) rfl rfl ((dzt_M206 (q_sA r153 15 (upd (r153.1 15) 0 (vp_nar .boolean 0))) c n a2 6).le (Nat.le_of_ble_eq_true rfl)) ?_
                                        generalize dz_M206 (q_sA r153 15 (upd (r153.1 15) 0 (vp_nar .boolean 0))) a2 6 = r154
                                        refine q_RP_let ?_
                                        show q_RP _ _ _ (265, [(0, .ref 64), (1, .int a1), (2, .int a2)], [.int (q_b r154), .int 1, .ref 79], (q_kM (q_sA r153 15 (upd (r153.1 15) 0 (vp_nar .boolean 0))) c n)) _ _
                                        cases h76 : r154 with
                                        | true =>
                                          refine q_RP_cT ?_
                                          show q_RP _ _ _ (265, [(0, .ref 64), (1, .int a1), (2, .int a2)], [.int 1, .int 1, .ref 79], (q_kM (q_sA r153 15 (upd (r153.1 15) 0 (vp_nar .boolean 0))) c n)) _ _
                                          generalize (q_sA r153 15 (upd (r153.1 15) 0 (vp_nar .boolean 0))) = r155
                                          refine q_RP_let ?_
                                          show q_RP _ _ _ (265, [(0, .ref 64), (1, .int a1), (2, .int a2)], [.int 1, .int 1, .ref 79], (q_kM r155 c n)) _ _
                                          refine q_RP_seg (g2 := (266, [(0, .ref 64), (1, .int a1), (2, .int a2)], [], (q_kM (q_sA r155 15 (upd (r155.1 15) 1 (vp_nar .boolean 1))) c n))) 1 (fun _ _ => rfl) ?_
                                          exact q_RP_ret rfl rfl rfl
                                        | false =>
                                          refine q_RP_cF ?_
                                          show q_RP _ _ _ (265, [(0, .ref 64), (1, .int a1), (2, .int a2)], [.int 0, .int 1, .ref 79], (q_kM (q_sA r153 15 (upd (r153.1 15) 0 (vp_nar .boolean 0))) c n)) _ _
                                          generalize (q_sA r153 15 (upd (r153.1 15) 0 (vp_nar .boolean 0))) = r156
                                          refine q_RP_let ?_
                                          show q_RP _ _ _ (265, [(0, .ref 64), (1, .int a1), (2, .int a2)], [.int 0, .int 1, .ref 79], (q_kM r156 c n)) _ _
                                          refine q_RP_seg (g2 := (266, [(0, .ref 64), (1, .int a1), (2, .int a2)], [], (q_kM (q_sA r156 15 (upd (r156.1 15) 1 (vp_nar .boolean 0))) c n))) 1 (fun _ _ => rfl) ?_
                                          exact q_RP_ret rfl rfl rfl
                                  | false =>
                                    refine q_RP_cF ?_
                                    cases h77 : decide (a1 = 15) with
                                    | true =>
                                      refine q_RP_cT ?_
                                      refine q_RP_st1 (g2 := (220, [(0, .ref 64), (1, .int a1), (2, .int a2)], [], (q_kM s c n))) rfl (by rw [of_decide_eq_true h77]; rfl) ?_
                                      refine q_RP_seg (g2 := (231, [(0, .ref 64), (1, .int a1), (2, .int a2)], [.int ((s.1 14) 0), .int 4, .ref 79], (q_kM s c n))) 7 (fun _ _ => rfl) ?_
                                      refine q_RP_seg (g2 := (233, [(0, .ref 64), (1, .int a1), (2, .int a2)], [.int (((s.1 14) 0) &&& a2), .int 4, .ref 79], (q_kM s c n))) 2 (fun _ _ => rfl) ?_
                                      cases h78 : decide (((s.1 14) 0) &&& a2 = 0) with
                                      | true =>
                                        refine q_RP_cT ?_
                                        refine q_RP_rsF (g2 := (236, [(0, .ref 64), (1, .int a1), (2, .int a2)], [.int 4, .ref 79], (q_kM s c n))) rfl rfl (q_d_neT h78) ?_
                                        refine q_RP_seg (g2 := (250, [(0, .ref 64), (1, .int a1), (2, .int a2)], [.int 7, .int a2, .int 0, .ref 79], (q_kM (q_sA s 15 (upd (s.1 15) 4 (vp_nar .boolean 1))) c n))) 8 (fun _ _ => rfl) ?_
                                        refine q_RP_call (v := (some (.int (q_b (dz_M206 (q_sA s 15 (upd (s.1 15) 4 (vp_nar .boolean 1))) a2 7))))) (h2 := (q_kM (q_sA s 15 (upd (s.1 15) 4 (vp_nar .boolean 1))) c n)) rfl rfl ((dzt_M206 (q_sA s 15 (upd (s.1 15) 4 (vp_nar .boolean 1))) c n a2 7).le (Nat.le_of_ble_eq_true rfl)) ?_
                                        generalize dz_M206 (q_sA s 15 (upd (s.1 15) 4 (vp_nar .boolean 1))) a2 7 = r157
                                        refine q_RP_let ?_
                                        show q_RP _ _ _ (253, [(0, .ref 64), (1, .int a1), (2, .int a2)], [.int (q_b r157), .int 0, .ref 79], (q_kM (q_sA s 15 (upd (s.1 15) 4 (vp_nar .boolean 1))) c n)) _ _
                                        cases h79 : r157 with
                                        | true =>
                                          refine q_RP_cT ?_
                                          show q_RP _ _ _ (253, [(0, .ref 64), (1, .int a1), (2, .int a2)], [.int 1, .int 0, .ref 79], (q_kM (q_sA s 15 (upd (s.1 15) 4 (vp_nar .boolean 1))) c n)) _ _
                                          generalize (q_sA s 15 (upd (s.1 15) 4 (vp_nar .boolean 1))) = r158
                                          refine q_RP_let ?_
                                          show q_RP _ _ _ (253, [(0, .ref 64), (1, .int a1), (2, .int a2)], [.int 1, .int 0, .ref 79], (q_kM r158 c n)) _ _
                                          refine q_RP_seg (g2 := (262, [(0, .ref 64), (1, .int a1), (2, .int a2)], [.int 6, .int a2, .int 1, .ref 79], (q_kM (q_sA r158 15 (upd (r158.1 15) 0 (vp_nar .boolean 1))) c n))) 6 (fun _ _ => rfl) ?_
                                          refine q_RP_call (v := (some (.int (q_b (dz_M206 (q_sA r158 15 (upd (r158.1 15) 0 (vp_nar .boolean 1))) a2 6))))) (h2 := (q_kM (q_sA r158 15 (upd (r158.1 15) 0 (vp_nar .boolean 1))) c n)) rfl rfl ((dzt_M206 (q_sA r158 15 (upd (r158.1 15) 0 (vp_nar .boolean 1))) c n a2 6).le (Nat.le_of_ble_eq_true rfl)) ?_
                                          generalize dz_M206 (q_sA r158 15 (upd (r158.1 15) 0 (vp_nar .boolean 1))) a2 6 = r159
                                          refine q_RP_let ?_
                                          show q_RP _ _ _ (265, [(0, .ref 64), (1, .int a1), (2, .int a2)], [.int (q_b r159), .int 1, .ref 79], (q_kM (q_sA r158 15 (upd (r158.1 15) 0 (vp_nar .boolean 1))) c n)) _ _
                                          cases h80 : r159 with
                                          | true =>
                                            refine q_RP_cT ?_
                                            show q_RP _ _ _ (265, [(0, .ref 64), (1, .int a1), (2, .int a2)], [.int 1, .int 1, .ref 79], (q_kM (q_sA r158 15 (upd (r158.1 15) 0 (vp_nar .boolean 1))) c n)) _ _
                                            generalize (q_sA r158 15 (upd (r158.1 15) 0 (vp_nar .boolean 1))) = r160
                                            refine q_RP_let ?_
                                            show q_RP _ _ _ (265, [(0, .ref 64), (1, .int a1), (2, .int a2)], [.int 1, .int 1, .ref 79], (q_kM r160 c n)) _ _
                                            refine q_RP_seg (g2 := (266, [(0, .ref 64), (1, .int a1), (2, .int a2)], [], (q_kM (q_sA r160 15 (upd (r160.1 15) 1 (vp_nar .boolean 1))) c n))) 1 (fun _ _ => rfl) ?_
                                            exact q_RP_ret rfl rfl rfl
                                          | false =>
                                            refine q_RP_cF ?_
                                            show q_RP _ _ _ (265, [(0, .ref 64), (1, .int a1), (2, .int a2)], [.int 0, .int 1, .ref 79], (q_kM (q_sA r158 15 (upd (r158.1 15) 0 (vp_nar .boolean 1))) c n)) _ _
                                            generalize (q_sA r158 15 (upd (r158.1 15) 0 (vp_nar .boolean 1))) = r161
                                            refine q_RP_let ?_
                                            show q_RP _ _ _ (265, [(0, .ref 64), (1, .int a1), (2, .int a2)], [.int 0, .int 1, .ref 79], (q_kM r161 c n)) _ _
                                            refine q_RP_seg (g2 := (266, [(0, .ref 64), (1, .int a1), (2, .int a2)], [], (q_kM (q_sA r161 15 (upd (r161.1 15) 1 (vp_nar .boolean 0))) c n))) 1 (fun _ _ => rfl) ?_
                                            exact q_RP_ret rfl rfl rfl
                                        | false =>
                                          refine q_RP_cF ?_
                                          show q_RP _ _ _ (253, [(0, .ref 64), (1, .int a1), (2, .int a2)], [.int 0, .int 0, .ref 79], (q_kM (q_sA s 15 (upd (s.1 15) 4 (vp_nar .boolean 1))) c n)) _ _
                                          generalize (q_sA s 15 (upd (s.1 15) 4 (vp_nar .boolean 1))) = r162
                                          refine q_RP_let ?_
                                          show q_RP _ _ _ (253, [(0, .ref 64), (1, .int a1), (2, .int a2)], [.int 0, .int 0, .ref 79], (q_kM r162 c n)) _ _
                                          refine q_RP_seg (g2 := (262, [(0, .ref 64), (1, .int a1), (2, .int a2)], [.int 6, .int a2, .int 1, .ref 79], (q_kM (q_sA r162 15 (upd (r162.1 15) 0 (vp_nar .boolean 0))) c n))) 6 (fun _ _ => rfl) ?_
                                          refine q_RP_call (v := (some (.int (q_b (dz_M206 (q_sA r162 15 (upd (r162.1 15) 0 (vp_nar .boolean 0))) a2 6))))) (h2 := (q_kM (q_sA r162 15 (upd (r162.1 15) 0 (vp_nar .boolean 0))) c n)) rfl rfl ((dzt_M206 (q_sA r162 15 (upd (r162.1 15) 0 (vp_nar .boolean 0))) c n a2 6).le (Nat.le_of_ble_eq_true rfl)) ?_
                                          generalize dz_M206 (q_sA r162 15 (upd (r162.1 15) 0 (vp_nar .boolean 0))) a2 6 = r163
                                          refine q_RP_let ?_
                                          show q_RP _ _ _ (265, [(0, .ref 64), (1, .int a1), (2, .int a2)], [.int (q_b r163), .int 1, .ref 79], (q_kM (q_sA r162 15 (upd (r162.1 15) 0 (vp_nar .boolean 0))) c n)) _ _
                                          cases h81 : r163 with
                                          | true =>
                                            refine q_RP_cT ?_
                                            show q_RP _ _ _ (265, [(0, .ref 64), (1, .int a1), (2, .int a2)], [.int 1, .int 1, .ref 79], (q_kM (q_sA r162 15 (upd (r162.1 15) 0 (vp_nar .boolean 0))) c n)) _ _
                                            generalize (q_sA r162 15 (upd (r162.1 15) 0 (vp_nar .boolean 0))) = r164
                                            refine q_RP_let ?_
                                            show q_RP _ _ _ (265, [(0, .ref 64), (1, .int a1), (2, .int a2)], [.int 1, .int 1, .ref 79], (q_kM r164 c n)) _ _
                                            refine q_RP_seg (g2 := (266, [(0, .ref 64), (1, .int a1), (2, .int a2)], [], (q_kM (q_sA r164 15 (upd (r164.1 15) 1 (vp_nar .boolean 1))) c n))) 1 (fun _ _ => rfl) ?_
                                            exact q_RP_ret rfl rfl rfl
                                          | false =>
                                            refine q_RP_cF ?_
                                            show q_RP _ _ _ (265, [(0, .ref 64), (1, .int a1), (2, .int a2)], [.int 0, .int 1, .ref 79], (q_kM (q_sA r162 15 (upd (r162.1 15) 0 (vp_nar .boolean 0))) c n)) _ _
                                            generalize (q_sA r162 15 (upd (r162.1 15) 0 (vp_nar .boolean 0))) = r165
                                            refine q_RP_let ?_
                                            show q_RP _ _ _ (265, [(0, .ref 64), (1, .int a1), (2, .int a2)], [.int 0, .int 1, .ref 79], (q_kM r165 c n)) _ _
                                            refine q_RP_seg (g2 := (266, [(0, .ref 64), (1, .int a1), (2, .int a2)], [], (q_kM (q_sA r165 15 (upd (r165.1 15) 1 (vp_nar .boolean 0))) c n))) 1 (fun _ _ => rfl) ?_
                                            exact q_RP_ret rfl rfl rfl
                                      | false =>
                                        refine q_RP_cF ?_
                                        refine q_RP_rsT (g2 := (240, [(0, .ref 64), (1, .int a1), (2, .int a2)], [.int 4, .ref 79], (q_kM s c n))) rfl rfl (q_d_neF h78) ?_
                                        refine q_RP_seg (g2 := (250, [(0, .ref 64), (1, .int a1), (2, .int a2)], [.int 7, .int a2, .int 0, .ref 79], (q_kM (q_sA s 15 (upd (s.1 15) 4 (vp_nar .boolean 0))) c n))) 7 (fun _ _ => rfl) ?_
                                        refine q_RP_call (v := (some (.int (q_b (dz_M206 (q_sA s 15 (upd (s.1 15) 4 (vp_nar .boolean 0))) a2 7))))) (h2 := (q_kM (q_sA s 15 (upd (s.1 15) 4 (vp_nar .boolean 0))) c n)) rfl rfl ((dzt_M206 (q_sA s 15 (upd (s.1 15) 4 (vp_nar .boolean 0))) c n a2 7).le (Nat.le_of_ble_eq_true rfl)) ?_
                                        generalize dz_M206 (q_sA s 15 (upd (s.1 15) 4 (vp_nar .boolean 0))) a2 7 = r166
                                        refine q_RP_let ?_
                                        show q_RP _ _ _ (253, [(0, .ref 64), (1, .int a1), (2, .int a2)], [.int (q_b r166), .int 0, .ref 79], (q_kM (q_sA s 15 (upd (s.1 15) 4 (vp_nar .boolean 0))) c n)) _ _
                                        cases h82 : r166 with
                                        | true =>
                                          refine q_RP_cT ?_
                                          show q_RP _ _ _ (253, [(0, .ref 64), (1, .int a1), (2, .int a2)], [.int 1, .int 0, .ref 79], (q_kM (q_sA s 15 (upd (s.1 15) 4 (vp_nar .boolean 0))) c n)) _ _
                                          generalize (q_sA s 15 (upd (s.1 15) 4 (vp_nar .boolean 0))) = r167
                                          refine q_RP_let ?_
                                          show q_RP _ _ _ (253, [(0, .ref 64), (1, .int a1), (2, .int a2)], [.int 1, .int 0, .ref 79], (q_kM r167 c n)) _ _
                                          refine q_RP_seg (g2 := (262, [(0, .ref 64), (1, .int a1), (2, .int a2)], [.int 6, .int a2, .int 1, .ref 79], (q_kM (q_sA r167 15 (upd (r167.1 15) 0 (vp_nar .boolean 1))) c n))) 6 (fun _ _ => rfl) ?_
                                          refine q_RP_call (v := (some (.int (q_b (dz_M206 (q_sA r167 15 (upd (r167.1 15) 0 (vp_nar .boolean 1))) a2 6))))) (h2 := (q_kM (q_sA r167 15 (upd (r167.1 15) 0 (vp_nar .boolean 1))) c n)) rfl rfl ((dzt_M206 (q_sA r167 15 (upd (r167.1 15) 0 (vp_nar .boolean 1))) c n a2 6).le (Nat.le_of_ble_eq_true rfl)) ?_
                                          generalize dz_M206 (q_sA r167 15 (upd (r167.1 15) 0 (vp_nar .boolean 1))) a2 6 = r168
                                          refine q_RP_let ?_
                                          show q_RP _ _ _ (265, [(0, .ref 64), (1, .int a1), (2, .int a2)], [.int (q_b r168), .int 1, .ref 79], (q_kM (q_sA r167 15 (upd (r167.1 15) 0 (vp_nar .boolean 1))) c n)) _ _
                                          cases h83 : r168 with
                                          | true =>
                                            refine q_RP_cT ?_
                                            show q_RP _ _ _ (265, [(0, .ref 64), (1, .int a1), (2, .int a2)], [.int 1, .int 1, .ref 79], (q_kM (q_sA r167 15 (upd (r167.1 15) 0 (vp_nar .boolean 1))) c n)) _ _
                                            generalize (q_sA r167 15 (upd (r167.1 15) 0 (vp_nar .boolean 1))) = r169
                                            refine q_RP_let ?_
                                            show q_RP _ _ _ (265, [(0, .ref 64), (1, .int a1), (2, .int a2)], [.int 1, .int 1, .ref 79], (q_kM r169 c n)) _ _
                                            refine q_RP_seg (g2 := (266, [(0, .ref 64), (1, .int a1), (2, .int a2)], [], (q_kM (q_sA r169 15 (upd (r169.1 15) 1 (vp_nar .boolean 1))) c n))) 1 (fun _ _ => rfl) ?_
                                            exact q_RP_ret rfl rfl rfl
                                          | false =>
                                            refine q_RP_cF ?_
                                            show q_RP _ _ _ (265, [(0, .ref 64), (1, .int a1), (2, .int a2)], [.int 0, .int 1, .ref 79], (q_kM (q_sA r167 15 (upd (r167.1 15) 0 (vp_nar .boolean 1))) c n)) _ _
                                            generalize (q_sA r167 15 (upd (r167.1 15) 0 (vp_nar .boolean 1))) = r170
                                            refine q_RP_let ?_
                                            show q_RP _ _ _ (265, [(0, .ref 64), (1, .int a1), (2, .int a2)], [.int 0, .int 1, .ref 79], (q_kM r170 c n)) _ _
                                            refine q_RP_seg (g2 := (266, [(0, .ref 64), (1, .int a1), (2, .int a2)], [], (q_kM (q_sA r170 15 (upd (r170.1 15) 1 (vp_nar .boolean 0))) c n))) 1 (fun _ _ => rfl) ?_
                                            exact q_RP_ret rfl rfl rfl
                                        | false =>
                                          refine q_RP_cF ?_
                                          show q_RP _ _ _ (253, [(0, .ref 64), (1, .int a1), (2, .int a2)], [.int 0, .int 0, .ref 79], (q_kM (q_sA s 15 (upd (s.1 15) 4 (vp_nar .boolean 0))) c n)) _ _
                                          generalize (q_sA s 15 (upd (s.1 15) 4 (vp_nar .boolean 0))) = r171
                                          refine q_RP_let ?_
                                          show q_RP _ _ _ (253, [(0, .ref 64), (1, .int a1), (2, .int a2)], [.int 0, .int 0, .ref 79], (q_kM r171 c n)) _ _
                                          refine q_RP_seg (g2 := (262, [(0, .ref 64), (1, .int a1), (2, .int a2)], [.int 6, .int a2, .int 1, .ref 79], (q_kM (q_sA r171 15 (upd (r171.1 15) 0 (vp_nar .boolean 0))) c n))) 6 (fun _ _ => rfl) ?_
                                          refine q_RP_call (v := (some (.int (q_b (dz_M206 (q_sA r171 15 (upd (r171.1 15) 0 (vp_nar .boolean 0))) a2 6))))) (h2 := (q_kM (q_sA r171 15 (upd (r171.1 15) 0 (vp_nar .boolean 0))) c n)) rfl rfl ((dzt_M206 (q_sA r171 15 (upd (r171.1 15) 0 (vp_nar .boolean 0))) c n a2 6).le (Nat.le_of_ble_eq_true rfl)) ?_
                                          generalize dz_M206 (q_sA r171 15 (upd (r171.1 15) 0 (vp_nar .boolean 0))) a2 6 = r172
                                          refine q_RP_let ?_
                                          show q_RP _ _ _ (265, [(0, .ref 64), (1, .int a1), (2, .int a2)], [.int (q_b r172), .int 1, .ref 79], (q_kM (q_sA r171 15 (upd (r171.1 15) 0 (vp_nar .boolean 0))) c n)) _ _
                                          cases h84 : r172 with
                                          | true =>
                                            refine q_RP_cT ?_
                                            show q_RP _ _ _ (265, [(0, .ref 64), (1, .int a1), (2, .int a2)], [.int 1, .int 1, .ref 79], (q_kM (q_sA r171 15 (upd (r171.1 15) 0 (vp_nar .boolean 0))) c n)) _ _
                                            generalize (q_sA r171 15 (upd (r171.1 15) 0 (vp_nar .boolean 0))) = r173
                                            refine q_RP_let ?_
                                            show q_RP _ _ _ (265, [(0, .ref 64), (1, .int a1), (2, .int a2)], [.int 1, .int 1, .ref 79], (q_kM r173 c n)) _ _
                                            refine q_RP_seg (g2 := (266, [(0, .ref 64), (1, .int a1), (2, .int a2)], [], (q_kM (q_sA r173 15 (upd (r173.1 15) 1 (vp_nar .boolean 1))) c n))) 1 (fun _ _ => rfl) ?_
                                            exact q_RP_ret rfl rfl rfl
                                          | false =>
                                            refine q_RP_cF ?_
                                            show q_RP _ _ _ (265, [(0, .ref 64), (1, .int a1), (2, .int a2)], [.int 0, .int 1, .ref 79], (q_kM (q_sA r171 15 (upd (r171.1 15) 0 (vp_nar .boolean 0))) c n)) _ _
                                            generalize (q_sA r171 15 (upd (r171.1 15) 0 (vp_nar .boolean 0))) = r174
                                            refine q_RP_let ?_
                                            show q_RP _ _ _ (265, [(0, .ref 64), (1, .int a1), (2, .int a2)], [.int 0, .int 1, .ref 79], (q_kM r174 c n)) _ _
                                            refine q_RP_seg (g2 := (266, [(0, .ref 64), (1, .int a1), (2, .int a2)], [], (q_kM (q_sA r174 15 (upd (r174.1 15) 1 (vp_nar .boolean 0))) c n))) 1 (fun _ _ => rfl) ?_
                                            exact q_RP_ret rfl rfl rfl
                                    | false =>
                                      refine q_RP_cF ?_
                                      have h85 : a1 = 16 := Int32.toInt_inj.mp (by have e0 := q_neI h34 (n := 0); have e1 := q_neI h35 (n := 1); have e2 := q_neI h36 (n := 2); have e3 := q_neI h37 (n := 3); have e4 := q_neI h45 (n := 4); have e5 := q_neI h53 (n := 5); have e6 := q_neI h61 (n := 6); have e7 := q_neI h62 (n := 7); have e8 := q_neI h63 (n := 8); have e9 := q_neI h64 (n := 9); have e10 := q_neI h65 (n := 10); have e11 := q_neI h66 (n := 11); have e12 := q_neI h67 (n := 12); have e13 := q_neI h68 (n := 13); have e14 := q_neI h69 (n := 14); have e15 := q_neI h77 (n := 15); have l1 : 0 ≤ (a1).toInt := q_lo1 h18; have l2 : (a1).toInt ≤ 16 := q_hi2 h26; show (a1).toInt = 16; omega)
                                      refine q_RP_st1 (g2 := (204, [(0, .ref 64), (1, .int a1), (2, .int a2)], [], (q_kM s c n))) rfl (by rw [h85]; rfl) ?_
                                      refine q_RP_seg (g2 := (207, [(0, .ref 64), (1, .int a1), (2, .int a2)], [.int a2, .int 0, .ref 64], (q_kM s c n))) 3 (fun _ _ => rfl) ?_
                                      refine q_RP_bd fun r175 er175 => ?_
                                      refine q_RP_call (v := none) (h2 := (q_kM r175 c n)) rfl rfl ((dzt_M262_64 s c n 0 a2 r175 er175).le (Nat.le_of_ble_eq_true rfl)) ?_
                                      show q_RP _ _ _ (210, [(0, .ref 64), (1, .int a1), (2, .int a2)], [], (q_kM r175 c n)) _ _
                                      refine q_RP_seg (g2 := (266, [(0, .ref 64), (1, .int a1), (2, .int a2)], [], (q_kM (q_sA r175 14 (upd (r175.1 14) 1 a2)) c n))) 6 (fun _ _ => rfl) ?_
                                      exact q_RP_ret rfl rfl rfl
def dz_M271_64 (s : q_S) (a1 : Int32) (a2 : Int32) (a3 : Int32) : Option (q_S) :=
  q_let (dz_M245 s a1) fun r3 => cond r3 (cond (decide (0 < a2)) ((dz_M250_64 s a2 a3).bind fun r4 => (dz_M270_64 r4.1 a1 r4.2).bind fun r5 => some r5) (some s)) (cond (decide (a2 = 0)) ((dz_M247_64 s (a3 + 1)).bind fun r6 => (dz_M269_64 r6.1 a1 r6.2).bind fun r7 => some r7) ((dz_M250_64 s a2 a3).bind fun r8 => (dz_M268_64 r8.1 r8.2).bind fun r9 => (dz_M269_64 r9.1 a1 r9.2).bind fun r10 => some r10))
set_option maxHeartbeats 4000000 in
theorem dzt_M271_64 (s : q_S) (c n : Nat) (a1 : Int32) (a2 : Int32) (a3 : Int32) (x : q_S) (h : dz_M271_64 s a1 a2 a3 = some x) : q_Ca q_TB0 9 270 [.ref 64, .int a1, .int a2, .int a3] (q_kM s c n) ((q_oSM c n) x) := by
  refine q_CaP_of (φ := (q_oSM c n)) (Nat.le_of_ble_eq_true rfl) ?_ h
  clear h
  unfold dz_M271_64
  refine q_RP_seg (g2 := (1, [(0, .ref 64), (1, .int a1), (2, .int a2), (3, .int a3)], [.int a1], (q_kM s c n))) 1 (fun _ _ => rfl) ?_
  refine q_RP_call (v := (some (.int (q_b (dz_M245 s a1))))) (h2 := (q_kM s c n)) rfl rfl ((dzt_M245 s c n a1).le (Nat.le_of_ble_eq_true rfl)) ?_
  generalize dz_M245 s a1 = r3
  refine q_RP_let ?_
  show q_RP _ _ _ (4, [(0, .ref 64), (1, .int a1), (2, .int a2), (3, .int a3)], [.int (q_b r3)], (q_kM s c n)) _ _
  cases h3 : r3 with
  | true =>
    refine q_RP_cT ?_
    show q_RP _ _ _ (4, [(0, .ref 64), (1, .int a1), (2, .int a2), (3, .int a3)], [.int 1], (q_kM s c n)) _ _
    refine q_RP_seg (g2 := (8, [(0, .ref 64), (1, .int a1), (2, .int a2), (3, .int a3)], [.int a2], (q_kM s c n))) 2 (fun _ _ => rfl) ?_
    cases h4 : decide (0 < a2) with
    | true =>
      refine q_RP_cT ?_
      refine q_RP_rsF (g2 := (11, [(0, .ref 64), (1, .int a1), (2, .int a2), (3, .int a3)], [], (q_kM s c n))) rfl rfl (q_d_geT h4) ?_
      refine q_RP_seg (g2 := (16, [(0, .ref 64), (1, .int a1), (2, .int a2), (3, .int a3)], [.int a3, .int a2, .ref 64, .int a1, .ref 64], (q_kM s c n))) 5 (fun _ _ => rfl) ?_
      refine q_RP_bd fun r4 er4 => ?_
      refine q_RP_call (v := (some (.int r4.2))) (h2 := (q_kM r4.1 c n)) rfl rfl ((dzt_M250_64 s c n a2 a3 r4 er4).le (Nat.le_of_ble_eq_true rfl)) ?_
      show q_RP _ _ _ (19, [(0, .ref 64), (1, .int a1), (2, .int a2), (3, .int a3)], [.int r4.2, .int a1, .ref 64], (q_kM r4.1 c n)) _ _
      refine q_RP_bd fun r5 er5 => ?_
      refine q_RP_call (v := none) (h2 := (q_kM r5 c n)) rfl rfl ((dzt_M270_64 r4.1 c n a1 r4.2 r5 er5).le (Nat.le_of_ble_eq_true rfl)) ?_
      show q_RP _ _ _ (22, [(0, .ref 64), (1, .int a1), (2, .int a2), (3, .int a3)], [], (q_kM r5 c n)) _ _
      refine q_RP_seg (g2 := (54, [(0, .ref 64), (1, .int a1), (2, .int a2), (3, .int a3)], [], (q_kM r5 c n))) 1 (fun _ _ => rfl) ?_
      exact q_RP_ret rfl rfl rfl
    | false =>
      refine q_RP_cF ?_
      refine q_RP_rsT (g2 := (54, [(0, .ref 64), (1, .int a1), (2, .int a2), (3, .int a3)], [], (q_kM s c n))) rfl rfl (q_d_geF h4) ?_
      exact q_RP_ret rfl rfl rfl
  | false =>
    refine q_RP_cF ?_
    show q_RP _ _ _ (4, [(0, .ref 64), (1, .int a1), (2, .int a2), (3, .int a3)], [.int 0], (q_kM s c n)) _ _
    refine q_RP_seg (g2 := (28, [(0, .ref 64), (1, .int a1), (2, .int a2), (3, .int a3)], [.int a2, .int a1, .ref 64], (q_kM s c n))) 4 (fun _ _ => rfl) ?_
    cases h5 : decide (a2 = 0) with
    | true =>
      refine q_RP_cT ?_
      refine q_RP_rsF (g2 := (31, [(0, .ref 64), (1, .int a1), (2, .int a2), (3, .int a3)], [.int a1, .ref 64], (q_kM s c n))) rfl rfl (q_d_neT h5) ?_
      refine q_RP_seg (g2 := (35, [(0, .ref 64), (1, .int a1), (2, .int a2), (3, .int a3)], [.int (a3 + 1), .ref 64, .int a1, .ref 64], (q_kM s c n))) 4 (fun _ _ => rfl) ?_
      refine q_RP_bd fun r6 er6 => ?_
      refine q_RP_call (v := (some (.int r6.2))) (h2 := (q_kM r6.1 c n)) rfl rfl ((dzt_M247_64 s c n (a3 + 1) r6 er6).le (Nat.le_of_ble_eq_true rfl)) ?_
      show q_RP _ _ _ (38, [(0, .ref 64), (1, .int a1), (2, .int a2), (3, .int a3)], [.int r6.2, .int a1, .ref 64], (q_kM r6.1 c n)) _ _
      refine q_RP_seg (g2 := (51, [(0, .ref 64), (1, .int a1), (2, .int a2), (3, .int a3)], [.int r6.2, .int a1, .ref 64], (q_kM r6.1 c n))) 1 (fun _ _ => rfl) ?_
      refine q_RP_bd fun r7 er7 => ?_
      refine q_RP_call (v := none) (h2 := (q_kM r7 c n)) rfl rfl ((dzt_M269_64 r6.1 c n a1 r6.2 r7 er7).le (Nat.le_of_ble_eq_true rfl)) ?_
      show q_RP _ _ _ (54, [(0, .ref 64), (1, .int a1), (2, .int a2), (3, .int a3)], [], (q_kM r7 c n)) _ _
      exact q_RP_ret rfl rfl rfl
    | false =>
      refine q_RP_cF ?_
      refine q_RP_rsT (g2 := (41, [(0, .ref 64), (1, .int a1), (2, .int a2), (3, .int a3)], [.int a1, .ref 64], (q_kM s c n))) rfl rfl (q_d_neF h5) ?_
      refine q_RP_seg (g2 := (45, [(0, .ref 64), (1, .int a1), (2, .int a2), (3, .int a3)], [.int a3, .int a2, .ref 64, .ref 64, .int a1, .ref 64], (q_kM s c n))) 4 (fun _ _ => rfl) ?_
      refine q_RP_bd fun r8 er8 => ?_
      refine q_RP_call (v := (some (.int r8.2))) (h2 := (q_kM r8.1 c n)) rfl rfl ((dzt_M250_64 s c n a2 a3 r8 er8).le (Nat.le_of_ble_eq_true rfl)) ?_
      show q_RP _ _ _ (48, [(0, .ref 64), (1, .int a1), (2, .int a2), (3, .int a3)], [.int r8.2, .ref 64, .int a1, .ref 64], (q_kM r8.1 c n)) _ _
      refine q_RP_bd fun r9 er9 => ?_
      refine q_RP_call (v := (some (.int r9.2))) (h2 := (q_kM r9.1 c n)) rfl rfl ((dzt_M268_64 r8.1 c n r8.2 r9 er9).le (Nat.le_of_ble_eq_true rfl)) ?_
      show q_RP _ _ _ (51, [(0, .ref 64), (1, .int a1), (2, .int a2), (3, .int a3)], [.int r9.2, .int a1, .ref 64], (q_kM r9.1 c n)) _ _
      refine q_RP_bd fun r10 er10 => ?_
      refine q_RP_call (v := none) (h2 := (q_kM r10 c n)) rfl rfl ((dzt_M269_64 r9.1 c n a1 r9.2 r10 er10).le (Nat.le_of_ble_eq_true rfl)) ?_
      show q_RP _ _ _ (54, [(0, .ref 64), (1, .int a1), (2, .int a2), (3, .int a3)], [], (q_kM r10 c n)) _ _
      exact q_RP_ret rfl rfl rfl
def dz_M276_64_194 (s : q_S) (v1 : Int32) : Option (q_S) :=
  cond (q_in (((s.1 14) 20) - ((s.1 14) 20) / 16 * 16) 16) (some (q_sA (q_sA s 9 (upd (s.1 9) ((((s.1 14) 20) - ((s.1 14) 20) / 16 * 16).toNatClampNeg) v1)) 14 (upd (s.1 14) 20 (((s.1 14) 20) + 1)))) none
set_option maxHeartbeats 4000000 in
theorem dzt_M276_64_194 (c n : Nat) (s : q_S) (v1 : Int32) : q_RP q_TB0 9 275 (194, [(0, .ref 64), (1, .int v1)], [], (q_kM s c n)) (q_oSM c n) (dz_M276_64_194 s v1) := by
  unfold dz_M276_64_194
  refine q_RP_seg (g2 := (205, [(0, .ref 64), (1, .int v1)], [.int ((s.1 14) 20), .ref 73], (q_kM s c n))) 6 (fun _ _ => rfl) ?_
  refine q_RP_seg (g2 := (209, [(0, .ref 64), (1, .int v1)], [.int v1, .int (((s.1 14) 20) - ((s.1 14) 20) / 16 * 16), .ref 73], (q_kM s c n))) 3 (fun _ _ => rfl) ?_
  refine q_RP_as fun i3 => ?_
  refine q_RP_rsT (g2 := (210, [(0, .ref 64), (1, .int v1)], [], (q_kM (q_sA s 9 (upd (s.1 9) ((((s.1 14) 20) - ((s.1 14) 20) / 16 * 16).toNatClampNeg) v1)) c n))) rfl q_wM9 i3 ?_
  refine q_RP_seg (g2 := (218, [(0, .ref 64), (1, .int v1)], [.int ((s.1 14) 20), .int 20, .ref 78], (q_kM (q_sA s 9 (upd (s.1 9) ((((s.1 14) 20) - ((s.1 14) 20) / 16 * 16).toNatClampNeg) v1)) c n))) 5 (fun _ _ => rfl) ?_
  refine q_RP_seg (g2 := (221, [(0, .ref 64), (1, .int v1)], [], (q_kM (q_sA (q_sA s 9 (upd (s.1 9) ((((s.1 14) 20) - ((s.1 14) 20) / 16 * 16).toNatClampNeg) v1)) 14 (upd (s.1 14) 20 (((s.1 14) 20) + 1))) c n))) 3 (fun _ _ => rfl) ?_
  exact q_RP_ret rfl rfl rfl
def dz_M276_64 (s : q_S) (a1 : Int32) : Option (q_S) :=
  (dz_M247_64 s a1).bind fun r2 => q_let (dz_M244 r2.1 r2.2) fun r3 => cond (decide (r3 < 0)) (cond (decide (r2.2 = 154)) (q_let (dz_M213 r2.1 (a1 + 1)) fun r4 => (dz_M260_64 r2.1 3838 r4 16).bind fun r5 => dz_M276_64_194 r5 a1) (cond (decide (r2.2 = 155)) ((dz_M256_64 r2.1).bind fun r6 => q_let (dz_M259_64 r6.1 r6.2) fun r7 => (dz_M274_64 r7 0).bind fun r8 => dz_M276_64_194 (q_sA r8.1 14 (upd (r8.1.1 14) 4 r8.2)) a1) (cond (decide (r2.2 = 156)) ((dz_M274_64 r2.1 1).bind fun r9 => dz_M276_64_194 (q_sA r9.1 14 (upd (r9.1.1 14) 4 r9.2)) a1) (q_let (dz_M202 r2.1 r2.2 157 159) fun r10 => cond r10 ((dz_M275_64 r2.1 r2.2 a1).bind fun r11 => dz_M276_64_194 r11 a1) (q_let (dz_M202 r2.1 r2.2 160 167) fun r12 => cond r12 (q_let (dz_M252_64 r2.1 r2.2) fun r13 => cond r13 ((dz_M253_64 r2.1 a1).bind fun r14 => dz_M276_64_194 (q_sA r14.1 14 (upd (r14.1.1 14) 4 r14.2)) a1) (q_let (dz_M213 r2.1 (a1 + 2)) fun r15 => dz_M276_64_194 (q_sA r2.1 14 (upd (r2.1.1 14) 4 r15)) a1)) ((dz_M273_64 r2.1 r2.2 a1).bind fun r16 => dz_M276_64_194 r16 a1)))))) (q_let (dz_M246 r2.1 r2.2) fun r17 => (dz_M271_64 r2.1 r3 (r2.2 - r2.2 / 8 * 8) a1).bind fun r18 => q_let (dz_M213 r18 (a1 + r17)) fun r19 => dz_M276_64_194 (q_sA r18 14 (upd (r18.1 14) 4 r19)) a1)
set_option maxHeartbeats 4000000 in
theorem dzt_M276_64 (s : q_S) (c n : Nat) (a1 : Int32) (x : q_S) (h : dz_M276_64 s a1 = some x) : q_Ca q_TB0 10 275 [.ref 64, .int a1] (q_kM s c n) ((q_oSM c n) x) := by
  refine q_CaP_of (φ := (q_oSM c n)) (Nat.le_of_ble_eq_true rfl) ?_ h
  clear h
  unfold dz_M276_64
  refine q_RP_seg (g2 := (2, [(0, .ref 64), (1, .int a1)], [.int a1, .ref 64], (q_kM s c n))) 2 (fun _ _ => rfl) ?_
  refine q_RP_bd fun r2 er2 => ?_
  refine q_RP_call (v := (some (.int r2.2))) (h2 := (q_kM r2.1 c n)) rfl rfl ((dzt_M247_64 s c n a1 r2 er2).le (Nat.le_of_ble_eq_true rfl)) ?_
  show q_RP _ _ _ (5, [(0, .ref 64), (1, .int a1)], [.int r2.2], (q_kM r2.1 c n)) _ _
  refine q_RP_seg (g2 := (7, [(2, .int r2.2), (0, .ref 64), (1, .int a1)], [.int r2.2], (q_kM r2.1 c n))) 2 (fun _ _ => rfl) ?_
  refine q_RP_call (v := (some (.int (dz_M244 r2.1 r2.2)))) (h2 := (q_kM r2.1 c n)) rfl rfl ((dzt_M244 r2.1 c n r2.2).le (Nat.le_of_ble_eq_true rfl)) ?_
  generalize dz_M244 r2.1 r2.2 = r3
  refine q_RP_let ?_
  show q_RP _ _ _ (10, [(2, .int r2.2), (0, .ref 64), (1, .int a1)], [.int r3], (q_kM r2.1 c n)) _ _
  refine q_RP_seg (g2 := (12, [(3, .int r3), (2, .int r2.2), (0, .ref 64), (1, .int a1)], [.int r3], (q_kM r2.1 c n))) 2 (fun _ _ => rfl) ?_
  cases h1 : decide (r3 < 0) with
  | true =>
    refine q_RP_cT ?_
    refine q_RP_rsT (g2 := (47, [(3, .int r3), (2, .int r2.2), (0, .ref 64), (1, .int a1)], [], (q_kM r2.1 c n))) rfl rfl h1 ?_
    refine q_RP_seg (g2 := (51, [(3, .int r3), (2, .int r2.2), (0, .ref 64), (1, .int a1)], [.int 154, .int r2.2], (q_kM r2.1 c n))) 2 (fun _ _ => rfl) ?_
    cases h2 : decide (r2.2 = 154) with
    | true =>
      refine q_RP_cT ?_
      refine q_RP_rsF (g2 := (54, [(3, .int r3), (2, .int r2.2), (0, .ref 64), (1, .int a1)], [], (q_kM r2.1 c n))) rfl rfl (q_d_neT h2) ?_
      refine q_RP_seg (g2 := (61, [(3, .int r3), (2, .int r2.2), (0, .ref 64), (1, .int a1)], [.int (a1 + 1), .int 3838, .ref 64], (q_kM r2.1 c n))) 5 (fun _ _ => rfl) ?_
      refine q_RP_call (v := (some (.int (dz_M213 r2.1 (a1 + 1))))) (h2 := (q_kM r2.1 c n)) rfl rfl ((dzt_M213 r2.1 c n (a1 + 1)).le (Nat.le_of_ble_eq_true rfl)) ?_
      generalize dz_M213 r2.1 (a1 + 1) = r4
      refine q_RP_let ?_
      show q_RP _ _ _ (64, [(3, .int r3), (2, .int r2.2), (0, .ref 64), (1, .int a1)], [.int r4, .int 3838, .ref 64], (q_kM r2.1 c n)) _ _
      refine q_RP_seg (g2 := (66, [(3, .int r3), (2, .int r2.2), (0, .ref 64), (1, .int a1)], [.int 16, .int r4, .int 3838, .ref 64], (q_kM r2.1 c n))) 1 (fun _ _ => rfl) ?_
      refine q_RP_bd fun r5 er5 => ?_
      refine q_RP_call (v := none) (h2 := (q_kM r5 c n)) rfl rfl ((dzt_M260_64 r2.1 c n 3838 r4 16 r5 er5).le (Nat.le_of_ble_eq_true rfl)) ?_
      show q_RP _ _ _ (69, [(3, .int r3), (2, .int r2.2), (0, .ref 64), (1, .int a1)], [], (q_kM r5 c n)) _ _
      refine q_RP_seg (g2 := (194, [(3, .int r3), (2, .int r2.2), (0, .ref 64), (1, .int a1)], [], (q_kM r5 c n))) 1 (fun _ _ => rfl) ?_
      exact q_RP_xt (q_xt_mk (q_mn1 2 rfl (q_mn1 3 rfl q_mn0)) rfl) (dzt_M276_64_194 c n r5 a1)
    | false =>
      refine q_RP_cF ?_
      refine q_RP_rsT (g2 := (72, [(3, .int r3), (2, .int r2.2), (0, .ref 64), (1, .int a1)], [], (q_kM r2.1 c n))) rfl rfl (q_d_neF h2) ?_
      refine q_RP_seg (g2 := (76, [(3, .int r3), (2, .int r2.2), (0, .ref 64), (1, .int a1)], [.int 155, .int r2.2], (q_kM r2.1 c n))) 2 (fun _ _ => rfl) ?_
      cases h4 : decide (r2.2 = 155) with
      | true =>
        refine q_RP_cT ?_
        refine q_RP_rsF (g2 := (79, [(3, .int r3), (2, .int r2.2), (0, .ref 64), (1, .int a1)], [], (q_kM r2.1 c n))) rfl rfl (q_d_neT h4) ?_
        refine q_RP_seg (g2 := (81, [(3, .int r3), (2, .int r2.2), (0, .ref 64), (1, .int a1)], [.ref 64, .ref 64], (q_kM r2.1 c n))) 2 (fun _ _ => rfl) ?_
        refine q_RP_bd fun r6 er6 => ?_
        refine q_RP_call (v := (some (.int r6.2))) (h2 := (q_kM r6.1 c n)) rfl rfl ((dzt_M256_64 r2.1 c n r6 er6).le (Nat.le_of_ble_eq_true rfl)) ?_
        show q_RP _ _ _ (84, [(3, .int r3), (2, .int r2.2), (0, .ref 64), (1, .int a1)], [.int r6.2, .ref 64], (q_kM r6.1 c n)) _ _
        refine q_RP_call (v := none) (h2 := (q_kM (dz_M259_64 r6.1 r6.2) c n)) rfl rfl ((dzt_M259_64 r6.1 c n r6.2).le (Nat.le_of_ble_eq_true rfl)) ?_
        generalize dz_M259_64 r6.1 r6.2 = r7
        refine q_RP_let ?_
        show q_RP _ _ _ (87, [(3, .int r3), (2, .int r2.2), (0, .ref 64), (1, .int a1)], [], (q_kM r7 c n)) _ _
        refine q_RP_seg (g2 := (94, [(3, .int r3), (2, .int r2.2), (0, .ref 64), (1, .int a1)], [.int 0, .ref 64, .int 4, .ref 78], (q_kM r7 c n))) 5 (fun _ _ => rfl) ?_
        refine q_RP_bd fun r8 er8 => ?_
        refine q_RP_call (v := (some (.int r8.2))) (h2 := (q_kM r8.1 c n)) rfl rfl ((dzt_M274_64 r7 c n 0 r8 er8).le (Nat.le_of_ble_eq_true rfl)) ?_
        show q_RP _ _ _ (97, [(3, .int r3), (2, .int r2.2), (0, .ref 64), (1, .int a1)], [.int r8.2, .int 4, .ref 78], (q_kM r8.1 c n)) _ _
        refine q_RP_seg (g2 := (194, [(3, .int r3), (2, .int r2.2), (0, .ref 64), (1, .int a1)], [], (q_kM (q_sA r8.1 14 (upd (r8.1.1 14) 4 r8.2)) c n))) 2 (fun _ _ => rfl) ?_
        exact q_RP_xt (q_xt_mk (q_mn1 2 rfl (q_mn1 3 rfl q_mn0)) rfl) (dzt_M276_64_194 c n (q_sA r8.1 14 (upd (r8.1.1 14) 4 r8.2)) a1)
      | false =>
        refine q_RP_cF ?_
        refine q_RP_rsT (g2 := (101, [(3, .int r3), (2, .int r2.2), (0, .ref 64), (1, .int a1)], [], (q_kM r2.1 c n))) rfl rfl (q_d_neF h4) ?_
        refine q_RP_seg (g2 := (105, [(3, .int r3), (2, .int r2.2), (0, .ref 64), (1, .int a1)], [.int 156, .int r2.2], (q_kM r2.1 c n))) 2 (fun _ _ => rfl) ?_
        cases h5 : decide (r2.2 = 156) with
        | true =>
          refine q_RP_cT ?_
          refine q_RP_rsF (g2 := (108, [(3, .int r3), (2, .int r2.2), (0, .ref 64), (1, .int a1)], [], (q_kM r2.1 c n))) rfl rfl (q_d_neT h5) ?_
          refine q_RP_seg (g2 := (115, [(3, .int r3), (2, .int r2.2), (0, .ref 64), (1, .int a1)], [.int 1, .ref 64, .int 4, .ref 78], (q_kM r2.1 c n))) 5 (fun _ _ => rfl) ?_
          refine q_RP_bd fun r9 er9 => ?_
          refine q_RP_call (v := (some (.int r9.2))) (h2 := (q_kM r9.1 c n)) rfl rfl ((dzt_M274_64 r2.1 c n 1 r9 er9).le (Nat.le_of_ble_eq_true rfl)) ?_
          show q_RP _ _ _ (118, [(3, .int r3), (2, .int r2.2), (0, .ref 64), (1, .int a1)], [.int r9.2, .int 4, .ref 78], (q_kM r9.1 c n)) _ _
          refine q_RP_seg (g2 := (194, [(3, .int r3), (2, .int r2.2), (0, .ref 64), (1, .int a1)], [], (q_kM (q_sA r9.1 14 (upd (r9.1.1 14) 4 r9.2)) c n))) 2 (fun _ _ => rfl) ?_
          exact q_RP_xt (q_xt_mk (q_mn1 2 rfl (q_mn1 3 rfl q_mn0)) rfl) (dzt_M276_64_194 c n (q_sA r9.1 14 (upd (r9.1.1 14) 4 r9.2)) a1)
        | false =>
          refine q_RP_cF ?_
          refine q_RP_rsT (g2 := (122, [(3, .int r3), (2, .int r2.2), (0, .ref 64), (1, .int a1)], [], (q_kM r2.1 c n))) rfl rfl (q_d_neF h5) ?_
          refine q_RP_seg (g2 := (129, [(3, .int r3), (2, .int r2.2), (0, .ref 64), (1, .int a1)], [.int 159, .int 157, .int r2.2], (q_kM r2.1 c n))) 3 (fun _ _ => rfl) ?_
          refine q_RP_call (v := (some (.int (q_b (dz_M202 r2.1 r2.2 157 159))))) (h2 := (q_kM r2.1 c n)) rfl rfl ((dzt_M202 r2.1 c n r2.2 157 159).le (Nat.le_of_ble_eq_true rfl)) ?_
          generalize dz_M202 r2.1 r2.2 157 159 = r10
          refine q_RP_let ?_
          show q_RP _ _ _ (132, [(3, .int r3), (2, .int r2.2), (0, .ref 64), (1, .int a1)], [.int (q_b r10)], (q_kM r2.1 c n)) _ _
          cases h6 : r10 with
          | true =>
            refine q_RP_cT ?_
            show q_RP _ _ _ (132, [(3, .int r3), (2, .int r2.2), (0, .ref 64), (1, .int a1)], [.int 1], (q_kM r2.1 c n)) _ _
            refine q_RP_seg (g2 := (138, [(3, .int r3), (2, .int r2.2), (0, .ref 64), (1, .int a1)], [.int a1, .int r2.2, .ref 64], (q_kM r2.1 c n))) 4 (fun _ _ => rfl) ?_
            refine q_RP_bd fun r11 er11 => ?_
            refine q_RP_call (v := none) (h2 := (q_kM r11 c n)) rfl rfl ((dzt_M275_64 r2.1 c n r2.2 a1 r11 er11).le (Nat.le_of_ble_eq_true rfl)) ?_
            show q_RP _ _ _ (141, [(3, .int r3), (2, .int r2.2), (0, .ref 64), (1, .int a1)], [], (q_kM r11 c n)) _ _
            refine q_RP_seg (g2 := (194, [(3, .int r3), (2, .int r2.2), (0, .ref 64), (1, .int a1)], [], (q_kM r11 c n))) 1 (fun _ _ => rfl) ?_
            exact q_RP_xt (q_xt_mk (q_mn1 2 rfl (q_mn1 3 rfl q_mn0)) rfl) (dzt_M276_64_194 c n r11 a1)
          | false =>
            refine q_RP_cF ?_
            show q_RP _ _ _ (132, [(3, .int r3), (2, .int r2.2), (0, .ref 64), (1, .int a1)], [.int 0], (q_kM r2.1 c n)) _ _
            refine q_RP_seg (g2 := (151, [(3, .int r3), (2, .int r2.2), (0, .ref 64), (1, .int a1)], [.int 167, .int 160, .int r2.2], (q_kM r2.1 c n))) 4 (fun _ _ => rfl) ?_
            refine q_RP_call (v := (some (.int (q_b (dz_M202 r2.1 r2.2 160 167))))) (h2 := (q_kM r2.1 c n)) rfl rfl ((dzt_M202 r2.1 c n r2.2 160 167).le (Nat.le_of_ble_eq_true rfl)) ?_
            generalize dz_M202 r2.1 r2.2 160 167 = r12
            refine q_RP_let ?_
            show q_RP _ _ _ (154, [(3, .int r3), (2, .int r2.2), (0, .ref 64), (1, .int a1)], [.int (q_b r12)], (q_kM r2.1 c n)) _ _
            cases h7 : r12 with
            | true =>
              refine q_RP_cT ?_
              show q_RP _ _ _ (154, [(3, .int r3), (2, .int r2.2), (0, .ref 64), (1, .int a1)], [.int 1], (q_kM r2.1 c n)) _ _
              refine q_RP_seg (g2 := (164, [(3, .int r3), (2, .int r2.2), (0, .ref 64), (1, .int a1)], [.int r2.2, .ref 64, .int 4, .ref 78], (q_kM r2.1 c n))) 6 (fun _ _ => rfl) ?_
              refine q_RP_call (v := (some (.int (q_b (dz_M252_64 r2.1 r2.2))))) (h2 := (q_kM r2.1 c n)) rfl rfl ((dzt_M252_64 r2.1 c n r2.2).le (Nat.le_of_ble_eq_true rfl)) ?_
              generalize dz_M252_64 r2.1 r2.2 = r13
              refine q_RP_let ?_
              show q_RP _ _ _ (167, [(3, .int r3), (2, .int r2.2), (0, .ref 64), (1, .int a1)], [.int (q_b r13), .int 4, .ref 78], (q_kM r2.1 c n)) _ _
              cases h8 : r13 with
              | true =>
                refine q_RP_cT ?_
                show q_RP _ _ _ (167, [(3, .int r3), (2, .int r2.2), (0, .ref 64), (1, .int a1)], [.int 1, .int 4, .ref 78], (q_kM r2.1 c n)) _ _
                refine q_RP_seg (g2 := (172, [(3, .int r3), (2, .int r2.2), (0, .ref 64), (1, .int a1)], [.int a1, .ref 64, .int 4, .ref 78], (q_kM r2.1 c n))) 3 (fun _ _ => rfl) ?_
                refine q_RP_bd fun r14 er14 => ?_
                refine q_RP_call (v := (some (.int r14.2))) (h2 := (q_kM r14.1 c n)) rfl rfl ((dzt_M253_64 r2.1 c n a1 r14 er14).le (Nat.le_of_ble_eq_true rfl)) ?_
                show q_RP _ _ _ (175, [(3, .int r3), (2, .int r2.2), (0, .ref 64), (1, .int a1)], [.int r14.2, .int 4, .ref 78], (q_kM r14.1 c n)) _ _
                refine q_RP_seg (g2 := (194, [(3, .int r3), (2, .int r2.2), (0, .ref 64), (1, .int a1)], [], (q_kM (q_sA r14.1 14 (upd (r14.1.1 14) 4 r14.2)) c n))) 3 (fun _ _ => rfl) ?_
                exact q_RP_xt (q_xt_mk (q_mn1 2 rfl (q_mn1 3 rfl q_mn0)) rfl) (dzt_M276_64_194 c n (q_sA r14.1 14 (upd (r14.1.1 14) 4 r14.2)) a1)
              | false =>
                refine q_RP_cF ?_
                show q_RP _ _ _ (167, [(3, .int r3), (2, .int r2.2), (0, .ref 64), (1, .int a1)], [.int 0, .int 4, .ref 78], (q_kM r2.1 c n)) _ _
                refine q_RP_seg (g2 := (181, [(3, .int r3), (2, .int r2.2), (0, .ref 64), (1, .int a1)], [.int (a1 + 2), .int 4, .ref 78], (q_kM r2.1 c n))) 4 (fun _ _ => rfl) ?_
                refine q_RP_call (v := (some (.int (dz_M213 r2.1 (a1 + 2))))) (h2 := (q_kM r2.1 c n)) rfl rfl ((dzt_M213 r2.1 c n (a1 + 2)).le (Nat.le_of_ble_eq_true rfl)) ?_
                generalize dz_M213 r2.1 (a1 + 2) = r15
                refine q_RP_let ?_
                show q_RP _ _ _ (184, [(3, .int r3), (2, .int r2.2), (0, .ref 64), (1, .int a1)], [.int r15, .int 4, .ref 78], (q_kM r2.1 c n)) _ _
                refine q_RP_seg (g2 := (194, [(3, .int r3), (2, .int r2.2), (0, .ref 64), (1, .int a1)], [], (q_kM (q_sA r2.1 14 (upd (r2.1.1 14) 4 r15)) c n))) 2 (fun _ _ => rfl) ?_
                exact q_RP_xt (q_xt_mk (q_mn1 2 rfl (q_mn1 3 rfl q_mn0)) rfl) (dzt_M276_64_194 c n (q_sA r2.1 14 (upd (r2.1.1 14) 4 r15)) a1)
            | false =>
              refine q_RP_cF ?_
              show q_RP _ _ _ (154, [(3, .int r3), (2, .int r2.2), (0, .ref 64), (1, .int a1)], [.int 0], (q_kM r2.1 c n)) _ _
              refine q_RP_seg (g2 := (191, [(3, .int r3), (2, .int r2.2), (0, .ref 64), (1, .int a1)], [.int a1, .int r2.2, .ref 64], (q_kM r2.1 c n))) 4 (fun _ _ => rfl) ?_
              refine q_RP_bd fun r16 er16 => ?_
              refine q_RP_call (v := none) (h2 := (q_kM r16 c n)) rfl rfl ((dzt_M273_64 r2.1 c n r2.2 a1 r16 er16).le (Nat.le_of_ble_eq_true rfl)) ?_
              show q_RP _ _ _ (194, [(3, .int r3), (2, .int r2.2), (0, .ref 64), (1, .int a1)], [], (q_kM r16 c n)) _ _
              exact q_RP_xt (q_xt_mk (q_mn1 2 rfl (q_mn1 3 rfl q_mn0)) rfl) (dzt_M276_64_194 c n r16 a1)
  | false =>
    refine q_RP_cF ?_
    refine q_RP_rsF (g2 := (15, [(3, .int r3), (2, .int r2.2), (0, .ref 64), (1, .int a1)], [], (q_kM r2.1 c n))) rfl rfl h1 ?_
    refine q_RP_seg (g2 := (16, [(3, .int r3), (2, .int r2.2), (0, .ref 64), (1, .int a1)], [.int r2.2], (q_kM r2.1 c n))) 1 (fun _ _ => rfl) ?_
    refine q_RP_call (v := (some (.int (dz_M246 r2.1 r2.2)))) (h2 := (q_kM r2.1 c n)) rfl rfl ((dzt_M246 r2.1 c n r2.2).le (Nat.le_of_ble_eq_true rfl)) ?_
    generalize dz_M246 r2.1 r2.2 = r17
    refine q_RP_let ?_
    show q_RP _ _ _ (19, [(3, .int r3), (2, .int r2.2), (0, .ref 64), (1, .int a1)], [.int r17], (q_kM r2.1 c n)) _ _
    refine q_RP_seg (g2 := (28, [(4, .int r17), (3, .int r3), (2, .int r2.2), (0, .ref 64), (1, .int a1)], [.int a1, .int (r2.2 - r2.2 / 8 * 8), .int r3, .ref 64], (q_kM r2.1 c n))) 7 (fun _ _ => rfl) ?_
    refine q_RP_bd fun r18 er18 => ?_
    refine q_RP_call (v := none) (h2 := (q_kM r18 c n)) rfl rfl ((dzt_M271_64 r2.1 c n r3 (r2.2 - r2.2 / 8 * 8) a1 r18 er18).le (Nat.le_of_ble_eq_true rfl)) ?_
    show q_RP _ _ _ (31, [(4, .int r17), (3, .int r3), (2, .int r2.2), (0, .ref 64), (1, .int a1)], [], (q_kM r18 c n)) _ _
    refine q_RP_seg (g2 := (40, [(4, .int r17), (3, .int r3), (2, .int r2.2), (0, .ref 64), (1, .int a1)], [.int (a1 + r17), .int 4, .ref 78], (q_kM r18 c n))) 6 (fun _ _ => rfl) ?_
    refine q_RP_call (v := (some (.int (dz_M213 r18 (a1 + r17))))) (h2 := (q_kM r18 c n)) rfl rfl ((dzt_M213 r18 c n (a1 + r17)).le (Nat.le_of_ble_eq_true rfl)) ?_
    generalize dz_M213 r18 (a1 + r17) = r19
    refine q_RP_let ?_
    show q_RP _ _ _ (43, [(4, .int r17), (3, .int r3), (2, .int r2.2), (0, .ref 64), (1, .int a1)], [.int r19, .int 4, .ref 78], (q_kM r18 c n)) _ _
    refine q_RP_seg (g2 := (194, [(4, .int r17), (3, .int r3), (2, .int r2.2), (0, .ref 64), (1, .int a1)], [], (q_kM (q_sA r18 14 (upd (r18.1 14) 4 r19)) c n))) 2 (fun _ _ => rfl) ?_
    exact q_RP_xt (q_xt_mk (q_mn1 3 rfl (q_mn1 4 rfl q_mn0)) rfl) (dzt_M276_64_194 c n (q_sA r18 14 (upd (r18.1 14) 4 r19)) a1)
def dz_M278_64_25 (s : q_S) : Option (q_S) :=
  cond (decide (0 < (upd (s.1 14) 17 (((s.1 14) 17) - 1)) 17)) (some (q_sA s 14 (upd (s.1 14) 17 (((s.1 14) 17) - 1)))) (q_let ((q_sA s 14 (upd (s.1 14) 17 (((s.1 14) 17) - 1)))) fun r3 => cond (decide (0 < (upd (r3.1 14) 19 (((upd (s.1 14) 17 (((s.1 14) 17) - 1)) 19) + 1)) 18)) ((dz_M260_64 (q_sA r3 14 (upd (r3.1 14) 19 (((upd (s.1 14) 17 (((s.1 14) 17) - 1)) 19) + 1))) ((upd (r3.1 14) 19 (((upd (s.1 14) 17 (((s.1 14) 17) - 1)) 19) + 1)) 18) ((upd (r3.1 14) 19 (((upd (s.1 14) 17 (((s.1 14) 17) - 1)) 19) + 1)) 4) 0).bind fun r4 => some r4) ((dz_M276_64 (q_sA r3 14 (upd (r3.1 14) 19 (((upd (s.1 14) 17 (((s.1 14) 17) - 1)) 19) + 1))) ((upd (r3.1 14) 19 (((upd (s.1 14) 17 (((s.1 14) 17) - 1)) 19) + 1)) 4)).bind fun r5 => some r5))
set_option maxHeartbeats 4000000 in
theorem dzt_M278_64_25 (c n : Nat) (s : q_S) : q_RP q_TB0 11 277 (25, [(0, .ref 64)], [], (q_kM s c n)) (q_oSM c n) (dz_M278_64_25 s) := by
  unfold dz_M278_64_25
  refine q_RP_seg (g2 := (33, [(0, .ref 64)], [.int ((s.1 14) 17), .int 17, .ref 78], (q_kM s c n))) 5 (fun _ _ => rfl) ?_
  refine q_RP_seg (g2 := (43, [(0, .ref 64)], [.int ((upd (s.1 14) 17 (((s.1 14) 17) - 1)) 17)], (q_kM (q_sA s 14 (upd (s.1 14) 17 (((s.1 14) 17) - 1))) c n))) 7 (fun _ _ => rfl) ?_
  cases h5 : decide (0 < (upd (s.1 14) 17 (((s.1 14) 17) - 1)) 17) with
  | true =>
    refine q_RP_cT ?_
    refine q_RP_rsF (g2 := (46, [(0, .ref 64)], [], (q_kM (q_sA s 14 (upd (s.1 14) 17 (((s.1 14) 17) - 1))) c n))) rfl rfl (q_d_geT h5) ?_
    exact q_RP_ret rfl rfl rfl
  | false =>
    refine q_RP_cF ?_
    refine q_RP_rsT (g2 := (47, [(0, .ref 64)], [], (q_kM (q_sA s 14 (upd (s.1 14) 17 (((s.1 14) 17) - 1))) c n))) rfl rfl (q_d_geF h5) ?_
    refine q_RP_seg (g2 := (55, [(0, .ref 64)], [.int ((upd (s.1 14) 17 (((s.1 14) 17) - 1)) 19), .int 19, .ref 78], (q_kM (q_sA s 14 (upd (s.1 14) 17 (((s.1 14) 17) - 1))) c n))) 5 (fun _ _ => rfl) ?_
    refine q_RP_seg (g2 := (57, [(0, .ref 64)], [.int (((upd (s.1 14) 17 (((s.1 14) 17) - 1)) 19) + 1), .int 19, .ref 78], (q_kM (q_sA s 14 (upd (s.1 14) 17 (((s.1 14) 17) - 1))) c n))) 2 (fun _ _ => rfl) ?_
    generalize (q_sA s 14 (upd (s.1 14) 17 (((s.1 14) 17) - 1))) = r3
    refine q_RP_let ?_
    show q_RP _ _ _ (57, [(0, .ref 64)], [.int (((upd (s.1 14) 17 (((s.1 14) 17) - 1)) 19) + 1), .int 19, .ref 78], (q_kM r3 c n)) _ _
    refine q_RP_seg (g2 := (65, [(0, .ref 64)], [.int ((upd (r3.1 14) 19 (((upd (s.1 14) 17 (((s.1 14) 17) - 1)) 19) + 1)) 18)], (q_kM (q_sA r3 14 (upd (r3.1 14) 19 (((upd (s.1 14) 17 (((s.1 14) 17) - 1)) 19) + 1))) c n))) 5 (fun _ _ => rfl) ?_
    cases h6 : decide (0 < (upd (r3.1 14) 19 (((upd (s.1 14) 17 (((s.1 14) 17) - 1)) 19) + 1)) 18) with
    | true =>
      refine q_RP_cT ?_
      refine q_RP_rsF (g2 := (68, [(0, .ref 64)], [], (q_kM (q_sA r3 14 (upd (r3.1 14) 19 (((upd (s.1 14) 17 (((s.1 14) 17) - 1)) 19) + 1))) c n))) rfl rfl (q_d_geT h6) ?_
      refine q_RP_seg (g2 := (76, [(0, .ref 64)], [.int ((upd (r3.1 14) 19 (((upd (s.1 14) 17 (((s.1 14) 17) - 1)) 19) + 1)) 18), .ref 64], (q_kM (q_sA r3 14 (upd (r3.1 14) 19 (((upd (s.1 14) 17 (((s.1 14) 17) - 1)) 19) + 1))) c n))) 5 (fun _ _ => rfl) ?_
      refine q_RP_seg (g2 := (82, [(0, .ref 64)], [.int ((upd (r3.1 14) 19 (((upd (s.1 14) 17 (((s.1 14) 17) - 1)) 19) + 1)) 4), .int ((upd (r3.1 14) 19 (((upd (s.1 14) 17 (((s.1 14) 17) - 1)) 19) + 1)) 18), .ref 64], (q_kM (q_sA r3 14 (upd (r3.1 14) 19 (((upd (s.1 14) 17 (((s.1 14) 17) - 1)) 19) + 1))) c n))) 4 (fun _ _ => rfl) ?_
      refine q_RP_seg (g2 := (83, [(0, .ref 64)], [.int 0, .int ((upd (r3.1 14) 19 (((upd (s.1 14) 17 (((s.1 14) 17) - 1)) 19) + 1)) 4), .int ((upd (r3.1 14) 19 (((upd (s.1 14) 17 (((s.1 14) 17) - 1)) 19) + 1)) 18), .ref 64], (q_kM (q_sA r3 14 (upd (r3.1 14) 19 (((upd (s.1 14) 17 (((s.1 14) 17) - 1)) 19) + 1))) c n))) 1 (fun _ _ => rfl) ?_
      refine q_RP_bd fun r4 er4 => ?_
      refine q_RP_call (v := none) (h2 := (q_kM r4 c n)) rfl rfl ((dzt_M260_64 (q_sA r3 14 (upd (r3.1 14) 19 (((upd (s.1 14) 17 (((s.1 14) 17) - 1)) 19) + 1))) c n ((upd (r3.1 14) 19 (((upd (s.1 14) 17 (((s.1 14) 17) - 1)) 19) + 1)) 18) ((upd (r3.1 14) 19 (((upd (s.1 14) 17 (((s.1 14) 17) - 1)) 19) + 1)) 4) 0 r4 er4).le (Nat.le_of_ble_eq_true rfl)) ?_
      show q_RP _ _ _ (86, [(0, .ref 64)], [], (q_kM r4 c n)) _ _
      refine q_RP_seg (g2 := (99, [(0, .ref 64)], [], (q_kM r4 c n))) 1 (fun _ _ => rfl) ?_
      exact q_RP_ret rfl rfl rfl
    | false =>
      refine q_RP_cF ?_
      refine q_RP_rsT (g2 := (89, [(0, .ref 64)], [], (q_kM (q_sA r3 14 (upd (r3.1 14) 19 (((upd (s.1 14) 17 (((s.1 14) 17) - 1)) 19) + 1))) c n))) rfl rfl (q_d_geF h6) ?_
      refine q_RP_seg (g2 := (96, [(0, .ref 64)], [.int ((upd (r3.1 14) 19 (((upd (s.1 14) 17 (((s.1 14) 17) - 1)) 19) + 1)) 4), .ref 64], (q_kM (q_sA r3 14 (upd (r3.1 14) 19 (((upd (s.1 14) 17 (((s.1 14) 17) - 1)) 19) + 1))) c n))) 5 (fun _ _ => rfl) ?_
      refine q_RP_bd fun r5 er5 => ?_
      refine q_RP_call (v := none) (h2 := (q_kM r5 c n)) rfl rfl ((dzt_M276_64 (q_sA r3 14 (upd (r3.1 14) 19 (((upd (s.1 14) 17 (((s.1 14) 17) - 1)) 19) + 1))) c n ((upd (r3.1 14) 19 (((upd (s.1 14) 17 (((s.1 14) 17) - 1)) 19) + 1)) 4) r5 er5).le (Nat.le_of_ble_eq_true rfl)) ?_
      show q_RP _ _ _ (99, [(0, .ref 64)], [], (q_kM r5 c n)) _ _
      exact q_RP_ret rfl rfl rfl
def dz_M278_64 (s : q_S) : Option (q_S) :=
  cond (decide ((s.1 15) 7 = 0)) (cond (decide ((s.1 14) 17 = 0)) ((dz_M277_64 s).bind fun r2 => dz_M278_64_25 r2) (dz_M278_64_25 s)) (some s)
set_option maxHeartbeats 4000000 in
theorem dzt_M278_64 (s : q_S) (c n : Nat) (x : q_S) (h : dz_M278_64 s = some x) : q_Ca q_TB0 12 277 [.ref 64] (q_kM s c n) ((q_oSM c n) x) := by
  refine q_CaP_of (φ := (q_oSM c n)) (Nat.le_of_ble_eq_true rfl) ?_ h
  clear h
  unfold dz_M278_64
  refine q_RP_seg (g2 := (7, [(0, .ref 64)], [.int ((s.1 15) 7)], (q_kM s c n))) 4 (fun _ _ => rfl) ?_
  cases h3 : decide ((s.1 15) 7 = 0) with
  | true =>
    refine q_RP_cT ?_
    refine q_RP_rsT (g2 := (11, [(0, .ref 64)], [], (q_kM s c n))) rfl rfl h3 ?_
    refine q_RP_seg (g2 := (18, [(0, .ref 64)], [.int ((s.1 14) 17)], (q_kM s c n))) 4 (fun _ _ => rfl) ?_
    cases h4 : decide ((s.1 14) 17 = 0) with
    | true =>
      refine q_RP_cT ?_
      refine q_RP_rsF (g2 := (21, [(0, .ref 64)], [], (q_kM s c n))) rfl rfl (q_d_neT h4) ?_
      refine q_RP_seg (g2 := (22, [(0, .ref 64)], [.ref 64], (q_kM s c n))) 1 (fun _ _ => rfl) ?_
      refine q_RP_bd fun r2 er2 => ?_
      refine q_RP_call (v := none) (h2 := (q_kM r2 c n)) rfl rfl ((dzt_M277_64 s c n r2 er2).le (Nat.le_of_ble_eq_true rfl)) ?_
      show q_RP _ _ _ (25, [(0, .ref 64)], [], (q_kM r2 c n)) _ _
      exact (dzt_M278_64_25 c n r2)
    | false =>
      refine q_RP_cF ?_
      refine q_RP_rsT (g2 := (25, [(0, .ref 64)], [], (q_kM s c n))) rfl rfl (q_d_neF h4) ?_
      exact (dzt_M278_64_25 c n s)
  | false =>
    refine q_RP_cF ?_
    refine q_RP_rsF (g2 := (10, [(0, .ref 64)], [], (q_kM s c n))) rfl rfl h3 ?_
    exact q_RP_ret rfl rfl rfl
def dz_M235_64_117 (s : q_S) (v2 : Int32) : Option (q_S × Bool) :=
  cond (decide (v2 = 0)) (cond (q_z1 v2) (some ((q_sJ (q_sJ s 0 16 ((s.2.2 0 16) + 0)) 0 15 ((s.2.2 0 15) + 1)), (decide (v2 = 1)))) none) (cond (q_z1 v2) (some ((q_sJ (q_sJ s 0 16 ((s.2.2 0 16) + 1)) 0 15 ((s.2.2 0 15) + 1)), (decide (v2 = 1)))) none)
set_option maxHeartbeats 4000000 in
theorem dzt_M235_64_117 (c n : Nat) (s : q_S) (v2 : Int32) : q_RP q_TB0 12 234 (117, [(0, .ref 64), (2, .int v2)], [], (q_kM s c n)) (q_oJM c n) (dz_M235_64_117 s v2) := by
  unfold dz_M235_64_117
  refine q_RP_seg (g2 := (122, [(0, .ref 64), (2, .int v2)], [.long (s.2.2 0 16), .ref 64], (q_kM s c n))) 3 (fun _ _ => rfl) ?_
  refine q_RP_seg (g2 := (123, [(0, .ref 64), (2, .int v2)], [.int v2, .long (s.2.2 0 16), .ref 64], (q_kM s c n))) 1 (fun _ _ => rfl) ?_
  cases h10 : decide (v2 = 0) with
  | true =>
    refine q_RP_cT ?_
    refine q_RP_rsT (g2 := (130, [(0, .ref 64), (2, .int v2)], [.long (s.2.2 0 16), .ref 64], (q_kM s c n))) rfl rfl h10 ?_
    refine q_RP_seg (g2 := (140, [(0, .ref 64), (2, .int v2)], [.long (s.2.2 0 15), .ref 64], (q_kM (q_sJ s 0 16 ((s.2.2 0 16) + 0)) c n))) 6 (fun _ _ => rfl) ?_
    refine q_RP_seg (g2 := (146, [(0, .ref 64), (2, .int v2)], [.int v2], (q_kM (q_sJ (q_sJ s 0 16 ((s.2.2 0 16) + 0)) 0 15 ((s.2.2 0 15) + 1)) c n))) 4 (fun _ _ => rfl) ?_
    refine q_RP_as fun i11 => ?_
    exact q_RP_ret rfl (q_rz01 i11) (by show (Sum.inl (some (Value.int (q_b (decide (v2 = 1))))), _) = _; rw [q_b01 i11]; try rfl)
  | false =>
    refine q_RP_cF ?_
    refine q_RP_rsF (g2 := (126, [(0, .ref 64), (2, .int v2)], [.long (s.2.2 0 16), .ref 64], (q_kM s c n))) rfl rfl h10 ?_
    refine q_RP_seg (g2 := (140, [(0, .ref 64), (2, .int v2)], [.long (s.2.2 0 15), .ref 64], (q_kM (q_sJ s 0 16 ((s.2.2 0 16) + 1)) c n))) 7 (fun _ _ => rfl) ?_
    refine q_RP_seg (g2 := (146, [(0, .ref 64), (2, .int v2)], [.int v2], (q_kM (q_sJ (q_sJ s 0 16 ((s.2.2 0 16) + 1)) 0 15 ((s.2.2 0 15) + 1)) c n))) 4 (fun _ _ => rfl) ?_
    refine q_RP_as fun i12 => ?_
    exact q_RP_ret rfl (q_rz01 i12) (by show (Sum.inl (some (Value.int (q_b (decide (v2 = 1))))), _) = _; rw [q_b01 i12]; try rfl)
def dz_M235_64_109 (s : q_S) (v2 : Int32) : Option (q_S × Bool) :=
  cond (decide (v2 = 0)) ((dz_M278_64 s).bind fun r13 => dz_M235_64_117 r13 v2) (dz_M235_64_117 s v2)
set_option maxHeartbeats 4000000 in
theorem dzt_M235_64_109 (c n : Nat) (s : q_S) (v2 : Int32) : q_RP q_TB0 12 234 (109, [(0, .ref 64), (2, .int v2)], [], (q_kM s c n)) (q_oJM c n) (dz_M235_64_109 s v2) := by
  unfold dz_M235_64_109
  refine q_RP_seg (g2 := (110, [(0, .ref 64), (2, .int v2)], [.int v2], (q_kM s c n))) 1 (fun _ _ => rfl) ?_
  cases h9 : decide (v2 = 0) with
  | true =>
    refine q_RP_cT ?_
    refine q_RP_rsF (g2 := (113, [(0, .ref 64), (2, .int v2)], [], (q_kM s c n))) rfl rfl (q_d_neT h9) ?_
    refine q_RP_seg (g2 := (114, [(0, .ref 64), (2, .int v2)], [.ref 64], (q_kM s c n))) 1 (fun _ _ => rfl) ?_
    refine q_RP_bd fun r13 er13 => ?_
    refine q_RP_call (v := none) (h2 := (q_kM r13 c n)) rfl rfl ((dzt_M278_64 s c n r13 er13).le (Nat.le_of_ble_eq_true rfl)) ?_
    show q_RP _ _ _ (117, [(0, .ref 64), (2, .int v2)], [], (q_kM r13 c n)) _ _
    exact (dzt_M235_64_117 c n r13 v2)
  | false =>
    refine q_RP_cF ?_
    refine q_RP_rsT (g2 := (117, [(0, .ref 64), (2, .int v2)], [], (q_kM s c n))) rfl rfl (q_d_neF h9) ?_
    exact (dzt_M235_64_117 c n s v2)
def dz_M235_64_91 (s : q_S) (v1 : Int32) (v2 : Int32) : Option (q_S × Bool) :=
  (dz_M230_64 s).bind fun r10 => (dz_M231_64 r10).bind fun r11 => cond (decide (v1 = 23)) ((dz_M234_64 r11).bind fun r12 => dz_M235_64_109 r12 v2) (dz_M235_64_109 r11 v2)
set_option maxHeartbeats 4000000 in
theorem dzt_M235_64_91 (c n : Nat) (s : q_S) (v1 : Int32) (v2 : Int32) : q_RP q_TB0 12 234 (91, [(0, .ref 64), (1, .int v1), (2, .int v2)], [], (q_kM s c n)) (q_oJM c n) (dz_M235_64_91 s v1 v2) := by
  unfold dz_M235_64_91
  refine q_RP_seg (g2 := (92, [(0, .ref 64), (1, .int v1), (2, .int v2)], [.ref 64], (q_kM s c n))) 1 (fun _ _ => rfl) ?_
  refine q_RP_bd fun r10 er10 => ?_
  refine q_RP_call (v := none) (h2 := (q_kM r10 c n)) rfl rfl ((dzt_M230_64 s c n r10 er10).le (Nat.le_of_ble_eq_true rfl)) ?_
  show q_RP _ _ _ (95, [(0, .ref 64), (1, .int v1), (2, .int v2)], [], (q_kM r10 c n)) _ _
  refine q_RP_seg (g2 := (96, [(0, .ref 64), (1, .int v1), (2, .int v2)], [.ref 64], (q_kM r10 c n))) 1 (fun _ _ => rfl) ?_
  refine q_RP_bd fun r11 er11 => ?_
  refine q_RP_call (v := none) (h2 := (q_kM r11 c n)) rfl rfl ((dzt_M231_64 r10 c n r11 er11).le (Nat.le_of_ble_eq_true rfl)) ?_
  show q_RP _ _ _ (99, [(0, .ref 64), (1, .int v1), (2, .int v2)], [], (q_kM r11 c n)) _ _
  refine q_RP_seg (g2 := (102, [(0, .ref 64), (1, .int v1), (2, .int v2)], [.int 23, .int v1], (q_kM r11 c n))) 2 (fun _ _ => rfl) ?_
  cases h8 : decide (v1 = 23) with
  | true =>
    refine q_RP_cT ?_
    refine q_RP_rsF (g2 := (105, [(0, .ref 64), (1, .int v1), (2, .int v2)], [], (q_kM r11 c n))) rfl rfl (q_d_neT h8) ?_
    refine q_RP_seg (g2 := (106, [(0, .ref 64), (1, .int v1), (2, .int v2)], [.ref 64], (q_kM r11 c n))) 1 (fun _ _ => rfl) ?_
    refine q_RP_bd fun r12 er12 => ?_
    refine q_RP_call (v := none) (h2 := (q_kM r12 c n)) rfl rfl ((dzt_M234_64 r11 c n r12 er12).le (Nat.le_of_ble_eq_true rfl)) ?_
    show q_RP _ _ _ (109, [(0, .ref 64), (1, .int v1), (2, .int v2)], [], (q_kM r12 c n)) _ _
    exact q_RP_xt (q_xt_mk (q_mn1 0 rfl (q_mn1 2 rfl q_mn0)) rfl) (dzt_M235_64_109 c n r12 v2)
  | false =>
    refine q_RP_cF ?_
    refine q_RP_rsT (g2 := (109, [(0, .ref 64), (1, .int v1), (2, .int v2)], [], (q_kM r11 c n))) rfl rfl (q_d_neF h8) ?_
    exact q_RP_xt (q_xt_mk (q_mn1 0 rfl (q_mn1 2 rfl q_mn0)) rfl) (dzt_M235_64_109 c n r11 v2)
def dz_M235_64_39 (s : q_S) (v1 : Int32) : Option (q_S × Bool) :=
  (dz_M225_64 s).bind fun r4 => cond r4 (q_let (dz_M222_64 s) fun r5 => q_let (dz_M202 s r5 0 31) fun r6 => cond r6 (q_let (dz_M202 s v1 4 19) fun r7 => cond r7 ((dz_M228_64 s ((2 * v1) - 8) r5).bind fun r8 => (dz_M228_64 r8 ((2 * v1) - 7) r5).bind fun r9 => dz_M235_64_91 r9 v1 1) (dz_M235_64_91 s v1 1)) (dz_M235_64_91 s v1 1)) (q_let (dz_M222_64 s) fun r14 => q_let (dz_M202 s r14 0 31) fun r15 => cond r15 (q_let (dz_M202 s v1 4 19) fun r16 => cond r16 ((dz_M228_64 s ((2 * v1) - 8) r14).bind fun r17 => (dz_M228_64 r17 ((2 * v1) - 7) r14).bind fun r18 => dz_M235_64_91 r18 v1 0) (dz_M235_64_91 s v1 0)) (dz_M235_64_91 s v1 0))
set_option maxHeartbeats 4000000 in
theorem dzt_M235_64_39 (c n : Nat) (s : q_S) (v1 : Int32) : q_RP q_TB0 12 234 (39, [(0, .ref 64), (1, .int v1)], [], (q_kM s c n)) (q_oJM c n) (dz_M235_64_39 s v1) := by
  unfold dz_M235_64_39
  refine q_RP_seg (g2 := (40, [(0, .ref 64), (1, .int v1)], [.ref 64], (q_kM s c n))) 1 (fun _ _ => rfl) ?_
  refine q_RP_bd fun r4 er4 => ?_
  refine q_RP_call (v := (some (.int (q_b r4)))) (h2 := (q_kM s c n)) rfl rfl ((dzt_M225_64 s c n r4 er4).le (Nat.le_of_ble_eq_true rfl)) ?_
  show q_RP _ _ _ (43, [(0, .ref 64), (1, .int v1)], [.int (q_b r4)], (q_kM s c n)) _ _
  cases h5 : r4 with
  | true =>
    refine q_RP_cT ?_
    show q_RP _ _ _ (43, [(0, .ref 64), (1, .int v1)], [.int 1], (q_kM s c n)) _ _
    refine q_RP_seg (g2 := (45, [(2, .int 1), (0, .ref 64), (1, .int v1)], [.ref 64], (q_kM s c n))) 2 (fun _ _ => rfl) ?_
    refine q_RP_call (v := (some (.int (dz_M222_64 s)))) (h2 := (q_kM s c n)) rfl rfl ((dzt_M222_64 s c n).le (Nat.le_of_ble_eq_true rfl)) ?_
    generalize dz_M222_64 s = r5
    refine q_RP_let ?_
    show q_RP _ _ _ (48, [(2, .int 1), (0, .ref 64), (1, .int v1)], [.int r5], (q_kM s c n)) _ _
    refine q_RP_seg (g2 := (53, [(3, .int r5), (2, .int 1), (0, .ref 64), (1, .int v1)], [.int 31, .int 0, .int r5], (q_kM s c n))) 4 (fun _ _ => rfl) ?_
    refine q_RP_call (v := (some (.int (q_b (dz_M202 s r5 0 31))))) (h2 := (q_kM s c n)) rfl rfl ((dzt_M202 s c n r5 0 31).le (Nat.le_of_ble_eq_true rfl)) ?_
    generalize dz_M202 s r5 0 31 = r6
    refine q_RP_let ?_
    show q_RP _ _ _ (56, [(3, .int r5), (2, .int 1), (0, .ref 64), (1, .int v1)], [.int (q_b r6)], (q_kM s c n)) _ _
    cases h6 : r6 with
    | true =>
      refine q_RP_cT ?_
      show q_RP _ _ _ (56, [(3, .int r5), (2, .int 1), (0, .ref 64), (1, .int v1)], [.int 1], (q_kM s c n)) _ _
      refine q_RP_seg (g2 := (63, [(3, .int r5), (2, .int 1), (0, .ref 64), (1, .int v1)], [.int 19, .int 4, .int v1], (q_kM s c n))) 4 (fun _ _ => rfl) ?_
      refine q_RP_call (v := (some (.int (q_b (dz_M202 s v1 4 19))))) (h2 := (q_kM s c n)) rfl rfl ((dzt_M202 s c n v1 4 19).le (Nat.le_of_ble_eq_true rfl)) ?_
      generalize dz_M202 s v1 4 19 = r7
      refine q_RP_let ?_
      show q_RP _ _ _ (66, [(3, .int r5), (2, .int 1), (0, .ref 64), (1, .int v1)], [.int (q_b r7)], (q_kM s c n)) _ _
      cases h7 : r7 with
      | true =>
        refine q_RP_cT ?_
        show q_RP _ _ _ (66, [(3, .int r5), (2, .int 1), (0, .ref 64), (1, .int v1)], [.int 1], (q_kM s c n)) _ _
        refine q_RP_seg (g2 := (77, [(3, .int r5), (2, .int 1), (0, .ref 64), (1, .int v1)], [.int r5, .int ((2 * v1) - 8), .ref 64], (q_kM s c n))) 8 (fun _ _ => rfl) ?_
        refine q_RP_bd fun r8 er8 => ?_
        refine q_RP_call (v := none) (h2 := (q_kM r8 c n)) rfl rfl ((dzt_M228_64 s c n ((2 * v1) - 8) r5 r8 er8).le (Nat.le_of_ble_eq_true rfl)) ?_
        show q_RP _ _ _ (80, [(3, .int r5), (2, .int 1), (0, .ref 64), (1, .int v1)], [], (q_kM r8 c n)) _ _
        refine q_RP_seg (g2 := (88, [(3, .int r5), (2, .int 1), (0, .ref 64), (1, .int v1)], [.int r5, .int ((2 * v1) - 7), .ref 64], (q_kM r8 c n))) 7 (fun _ _ => rfl) ?_
        refine q_RP_bd fun r9 er9 => ?_
        refine q_RP_call (v := none) (h2 := (q_kM r9 c n)) rfl rfl ((dzt_M228_64 r8 c n ((2 * v1) - 7) r5 r9 er9).le (Nat.le_of_ble_eq_true rfl)) ?_
        show q_RP _ _ _ (91, [(3, .int r5), (2, .int 1), (0, .ref 64), (1, .int v1)], [], (q_kM r9 c n)) _ _
        exact q_RP_xt (q_xt_mk (q_mn1 2 rfl (q_mn1 3 rfl (q_mn1 1 rfl q_mn0))) rfl) (dzt_M235_64_91 c n r9 v1 1)
      | false =>
        refine q_RP_cF ?_
        show q_RP _ _ _ (66, [(3, .int r5), (2, .int 1), (0, .ref 64), (1, .int v1)], [.int 0], (q_kM s c n)) _ _
        refine q_RP_seg (g2 := (91, [(3, .int r5), (2, .int 1), (0, .ref 64), (1, .int v1)], [], (q_kM s c n))) 1 (fun _ _ => rfl) ?_
        exact q_RP_xt (q_xt_mk (q_mn1 2 rfl (q_mn1 3 rfl (q_mn1 1 rfl q_mn0))) rfl) (dzt_M235_64_91 c n s v1 1)
    | false =>
      refine q_RP_cF ?_
      show q_RP _ _ _ (56, [(3, .int r5), (2, .int 1), (0, .ref 64), (1, .int v1)], [.int 0], (q_kM s c n)) _ _
      refine q_RP_seg (g2 := (91, [(3, .int r5), (2, .int 1), (0, .ref 64), (1, .int v1)], [], (q_kM s c n))) 1 (fun _ _ => rfl) ?_
      exact q_RP_xt (q_xt_mk (q_mn1 2 rfl (q_mn1 3 rfl (q_mn1 1 rfl q_mn0))) rfl) (dzt_M235_64_91 c n s v1 1)
  | false =>
    refine q_RP_cF ?_
    show q_RP _ _ _ (43, [(0, .ref 64), (1, .int v1)], [.int 0], (q_kM s c n)) _ _
    refine q_RP_seg (g2 := (45, [(2, .int 0), (0, .ref 64), (1, .int v1)], [.ref 64], (q_kM s c n))) 2 (fun _ _ => rfl) ?_
    refine q_RP_call (v := (some (.int (dz_M222_64 s)))) (h2 := (q_kM s c n)) rfl rfl ((dzt_M222_64 s c n).le (Nat.le_of_ble_eq_true rfl)) ?_
    generalize dz_M222_64 s = r14
    refine q_RP_let ?_
    show q_RP _ _ _ (48, [(2, .int 0), (0, .ref 64), (1, .int v1)], [.int r14], (q_kM s c n)) _ _
    refine q_RP_seg (g2 := (53, [(3, .int r14), (2, .int 0), (0, .ref 64), (1, .int v1)], [.int 31, .int 0, .int r14], (q_kM s c n))) 4 (fun _ _ => rfl) ?_
    refine q_RP_call (v := (some (.int (q_b (dz_M202 s r14 0 31))))) (h2 := (q_kM s c n)) rfl rfl ((dzt_M202 s c n r14 0 31).le (Nat.le_of_ble_eq_true rfl)) ?_
    generalize dz_M202 s r14 0 31 = r15
    refine q_RP_let ?_
    show q_RP _ _ _ (56, [(3, .int r14), (2, .int 0), (0, .ref 64), (1, .int v1)], [.int (q_b r15)], (q_kM s c n)) _ _
    cases h13 : r15 with
    | true =>
      refine q_RP_cT ?_
      show q_RP _ _ _ (56, [(3, .int r14), (2, .int 0), (0, .ref 64), (1, .int v1)], [.int 1], (q_kM s c n)) _ _
      refine q_RP_seg (g2 := (63, [(3, .int r14), (2, .int 0), (0, .ref 64), (1, .int v1)], [.int 19, .int 4, .int v1], (q_kM s c n))) 4 (fun _ _ => rfl) ?_
      refine q_RP_call (v := (some (.int (q_b (dz_M202 s v1 4 19))))) (h2 := (q_kM s c n)) rfl rfl ((dzt_M202 s c n v1 4 19).le (Nat.le_of_ble_eq_true rfl)) ?_
      generalize dz_M202 s v1 4 19 = r16
      refine q_RP_let ?_
      show q_RP _ _ _ (66, [(3, .int r14), (2, .int 0), (0, .ref 64), (1, .int v1)], [.int (q_b r16)], (q_kM s c n)) _ _
      cases h14 : r16 with
      | true =>
        refine q_RP_cT ?_
        show q_RP _ _ _ (66, [(3, .int r14), (2, .int 0), (0, .ref 64), (1, .int v1)], [.int 1], (q_kM s c n)) _ _
        refine q_RP_seg (g2 := (77, [(3, .int r14), (2, .int 0), (0, .ref 64), (1, .int v1)], [.int r14, .int ((2 * v1) - 8), .ref 64], (q_kM s c n))) 8 (fun _ _ => rfl) ?_
        refine q_RP_bd fun r17 er17 => ?_
        refine q_RP_call (v := none) (h2 := (q_kM r17 c n)) rfl rfl ((dzt_M228_64 s c n ((2 * v1) - 8) r14 r17 er17).le (Nat.le_of_ble_eq_true rfl)) ?_
        show q_RP _ _ _ (80, [(3, .int r14), (2, .int 0), (0, .ref 64), (1, .int v1)], [], (q_kM r17 c n)) _ _
        refine q_RP_seg (g2 := (88, [(3, .int r14), (2, .int 0), (0, .ref 64), (1, .int v1)], [.int r14, .int ((2 * v1) - 7), .ref 64], (q_kM r17 c n))) 7 (fun _ _ => rfl) ?_
        refine q_RP_bd fun r18 er18 => ?_
        refine q_RP_call (v := none) (h2 := (q_kM r18 c n)) rfl rfl ((dzt_M228_64 r17 c n ((2 * v1) - 7) r14 r18 er18).le (Nat.le_of_ble_eq_true rfl)) ?_
        show q_RP _ _ _ (91, [(3, .int r14), (2, .int 0), (0, .ref 64), (1, .int v1)], [], (q_kM r18 c n)) _ _
        exact q_RP_xt (q_xt_mk (q_mn1 2 rfl (q_mn1 3 rfl (q_mn1 1 rfl q_mn0))) rfl) (dzt_M235_64_91 c n r18 v1 0)
      | false =>
        refine q_RP_cF ?_
        show q_RP _ _ _ (66, [(3, .int r14), (2, .int 0), (0, .ref 64), (1, .int v1)], [.int 0], (q_kM s c n)) _ _
        refine q_RP_seg (g2 := (91, [(3, .int r14), (2, .int 0), (0, .ref 64), (1, .int v1)], [], (q_kM s c n))) 1 (fun _ _ => rfl) ?_
        exact q_RP_xt (q_xt_mk (q_mn1 2 rfl (q_mn1 3 rfl (q_mn1 1 rfl q_mn0))) rfl) (dzt_M235_64_91 c n s v1 0)
    | false =>
      refine q_RP_cF ?_
      show q_RP _ _ _ (56, [(3, .int r14), (2, .int 0), (0, .ref 64), (1, .int v1)], [.int 0], (q_kM s c n)) _ _
      refine q_RP_seg (g2 := (91, [(3, .int r14), (2, .int 0), (0, .ref 64), (1, .int v1)], [], (q_kM s c n))) 1 (fun _ _ => rfl) ?_
      exact q_RP_xt (q_xt_mk (q_mn1 2 rfl (q_mn1 3 rfl (q_mn1 1 rfl q_mn0))) rfl) (dzt_M235_64_91 c n s v1 0)
def dz_M235_64 (s : q_S) : Option (q_S × Bool) :=
  cond (decide (((s.2.2 0 15) - (s.2.2 0 15) / 24 * 24).toInt32 = 0)) (q_let (dz_M207_64 s) fun r3 => cond (decide (r3 = (s.1 4) 9)) (dz_M235_64_39 (q_sA s 14 (upd (s.1 14) 9 (((s.1 14) 9) ||| 1))) (((s.2.2 0 15) - (s.2.2 0 15) / 24 * 24).toInt32)) (dz_M235_64_39 s (((s.2.2 0 15) - (s.2.2 0 15) / 24 * 24).toInt32))) (dz_M235_64_39 s (((s.2.2 0 15) - (s.2.2 0 15) / 24 * 24).toInt32))
set_option maxHeartbeats 4000000 in
theorem dzt_M235_64 (s : q_S) (c n : Nat) (x : q_S × Bool) (h : dz_M235_64 s = some x) : q_Ca q_TB0 13 234 [.ref 64] (q_kM s c n) ((q_oJM c n) x) := by
  refine q_CaP_of (φ := (q_oJM c n)) (Nat.le_of_ble_eq_true rfl) ?_ h
  clear h
  unfold dz_M235_64
  refine q_RP_seg (g2 := (4, [(0, .ref 64)], [.long (s.2.2 0 15)], (q_kM s c n))) 2 (fun _ _ => rfl) ?_
  refine q_RP_seg (g2 := (11, [(1, .int (((s.2.2 0 15) - (s.2.2 0 15) / 24 * 24).toInt32)), (0, .ref 64)], [.int (((s.2.2 0 15) - (s.2.2 0 15) / 24 * 24).toInt32)], (q_kM s c n))) 5 (fun _ _ => rfl) ?_
  cases h3 : decide (((s.2.2 0 15) - (s.2.2 0 15) / 24 * 24).toInt32 = 0) with
  | true =>
    refine q_RP_cT ?_
    refine q_RP_rsF (g2 := (14, [(1, .int (((s.2.2 0 15) - (s.2.2 0 15) / 24 * 24).toInt32)), (0, .ref 64)], [], (q_kM s c n))) rfl rfl (q_d_neT h3) ?_
    refine q_RP_seg (g2 := (15, [(1, .int (((s.2.2 0 15) - (s.2.2 0 15) / 24 * 24).toInt32)), (0, .ref 64)], [.ref 64], (q_kM s c n))) 1 (fun _ _ => rfl) ?_
    refine q_RP_call (v := (some (.int (dz_M207_64 s)))) (h2 := (q_kM s c n)) rfl rfl ((dzt_M207_64 s c n).le (Nat.le_of_ble_eq_true rfl)) ?_
    generalize dz_M207_64 s = r3
    refine q_RP_let ?_
    show q_RP _ _ _ (18, [(1, .int (((s.2.2 0 15) - (s.2.2 0 15) / 24 * 24).toInt32)), (0, .ref 64)], [.int r3], (q_kM s c n)) _ _
    refine q_RP_seg (g2 := (25, [(1, .int (((s.2.2 0 15) - (s.2.2 0 15) / 24 * 24).toInt32)), (0, .ref 64)], [.int ((s.1 4) 9), .int r3], (q_kM s c n))) 4 (fun _ _ => rfl) ?_
    cases h4 : decide (r3 = (s.1 4) 9) with
    | true =>
      refine q_RP_cT ?_
      refine q_RP_rsF (g2 := (28, [(1, .int (((s.2.2 0 15) - (s.2.2 0 15) / 24 * 24).toInt32)), (0, .ref 64)], [], (q_kM s c n))) rfl rfl (q_d_neT h4) ?_
      refine q_RP_seg (g2 := (36, [(1, .int (((s.2.2 0 15) - (s.2.2 0 15) / 24 * 24).toInt32)), (0, .ref 64)], [.int ((s.1 14) 9), .int 9, .ref 78], (q_kM s c n))) 5 (fun _ _ => rfl) ?_
      refine q_RP_seg (g2 := (39, [(1, .int (((s.2.2 0 15) - (s.2.2 0 15) / 24 * 24).toInt32)), (0, .ref 64)], [], (q_kM (q_sA s 14 (upd (s.1 14) 9 (((s.1 14) 9) ||| 1))) c n))) 3 (fun _ _ => rfl) ?_
      exact q_RP_xt (q_xt_mk (q_mn1 1 rfl (q_mn1 0 rfl q_mn0)) rfl) (dzt_M235_64_39 c n (q_sA s 14 (upd (s.1 14) 9 (((s.1 14) 9) ||| 1))) (((s.2.2 0 15) - (s.2.2 0 15) / 24 * 24).toInt32))
    | false =>
      refine q_RP_cF ?_
      refine q_RP_rsT (g2 := (39, [(1, .int (((s.2.2 0 15) - (s.2.2 0 15) / 24 * 24).toInt32)), (0, .ref 64)], [], (q_kM s c n))) rfl rfl (q_d_neF h4) ?_
      exact q_RP_xt (q_xt_mk (q_mn1 1 rfl (q_mn1 0 rfl q_mn0)) rfl) (dzt_M235_64_39 c n s (((s.2.2 0 15) - (s.2.2 0 15) / 24 * 24).toInt32))
  | false =>
    refine q_RP_cF ?_
    refine q_RP_rsT (g2 := (39, [(1, .int (((s.2.2 0 15) - (s.2.2 0 15) / 24 * 24).toInt32)), (0, .ref 64)], [], (q_kM s c n))) rfl rfl (q_d_neF h3) ?_
    exact q_RP_xt (q_xt_mk (q_mn1 1 rfl (q_mn1 0 rfl q_mn0)) rfl) (dzt_M235_64_39 c n s (((s.2.2 0 15) - (s.2.2 0 15) / 24 * 24).toInt32))
def dz_M236_64_29 (m : Nat) : q_S → Int32 → Int32 → Int32 → Option (q_S × Int32) := Nat.rec (motive := fun _ => q_S → Int32 → Int32 → Int32 → Option (q_S × Int32)) (fun _ _ _ _ => none) (fun _ k29 s v1 v2 v3 =>
  cond (decide (v3 < v1)) ((dz_M235_64 s).bind fun r3 => cond r3.2 (k29 r3.1 v1 (v2 + 1) (v3 + 1)) (k29 r3.1 v1 (v2 + 0) (v3 + 1))) (q_let (dz_M205_64 s) fun r4 => some (r4, v2))) m
theorem dzs_M236_64_29 (m : Nat) (s : q_S) (v1 : Int32) (v2 : Int32) (v3 : Int32) : dz_M236_64_29 (m + 1) s v1 v2 v3 = (fun k29 : q_S → Int32 → Int32 → Int32 → Option (q_S × Int32) =>
  cond (decide (v3 < v1)) ((dz_M235_64 s).bind fun r3 => cond r3.2 (k29 r3.1 v1 (v2 + 1) (v3 + 1)) (k29 r3.1 v1 (v2 + 0) (v3 + 1))) (q_let (dz_M205_64 s) fun r4 => some (r4, v2))) (dz_M236_64_29 m) := rfl
set_option maxHeartbeats 4000000 in
theorem dzt_M236_64_29 (c n : Nat) : ∀ (m : Nat) (s : q_S) (v1 : Int32) (v2 : Int32) (v3 : Int32), q_RP q_TB0 13 235 (29, [(0, .ref 64), (1, .int v1), (2, .int v2), (3, .int v3)], [], (q_kM s c n)) (q_oIM c n) (dz_M236_64_29 m s v1 v2 v3) := by
  intro m
  induction m with
  | zero => intro s v1 v2 v3; exact q_RP_no
  | succ m ih =>
    intro s v1 v2 v3
    have hk29 := ih
    clear ih
    rw [dzs_M236_64_29]
    generalize dz_M236_64_29 m = k29 at hk29 ⊢
    dsimp only
    refine q_RP_seg (g2 := (31, [(0, .ref 64), (1, .int v1), (2, .int v2), (3, .int v3)], [.int v1, .int v3], (q_kM s c n))) 2 (fun _ _ => rfl) ?_
    cases h3 : decide (v3 < v1) with
    | true =>
      refine q_RP_cT ?_
      refine q_RP_rsF (g2 := (34, [(0, .ref 64), (1, .int v1), (2, .int v2), (3, .int v3)], [], (q_kM s c n))) rfl rfl (q_d_geT h3) ?_
      refine q_RP_seg (g2 := (36, [(0, .ref 64), (1, .int v1), (2, .int v2), (3, .int v3)], [.ref 64, .int v2], (q_kM s c n))) 2 (fun _ _ => rfl) ?_
      refine q_RP_bd fun r3 er3 => ?_
      refine q_RP_call (v := (some (.int (q_b r3.2)))) (h2 := (q_kM r3.1 c n)) rfl rfl ((dzt_M235_64 s c n r3 er3).le (Nat.le_of_ble_eq_true rfl)) ?_
      show q_RP _ _ _ (39, [(0, .ref 64), (1, .int v1), (2, .int v2), (3, .int v3)], [.int (q_b r3.2), .int v2], (q_kM r3.1 c n)) _ _
      cases h4 : r3.2 with
      | true =>
        refine q_RP_cT ?_
        show q_RP _ _ _ (39, [(0, .ref 64), (1, .int v1), (2, .int v2), (3, .int v3)], [.int 1, .int v2], (q_kM r3.1 c n)) _ _
        refine q_RP_seg (g2 := (29, [(3, .int (v3 + 1)), (2, .int (v2 + 1)), (0, .ref 64), (1, .int v1)], [], (q_kM r3.1 c n))) 7 (fun _ _ => rfl) ?_
        exact q_RP_xt (q_xt_mk (q_mn1 2 rfl (q_mn1 3 rfl (q_mn1 1 rfl (q_mn1 0 rfl q_mn0)))) rfl) (hk29 r3.1 v1 (v2 + 1) (v3 + 1))
      | false =>
        refine q_RP_cF ?_
        show q_RP _ _ _ (39, [(0, .ref 64), (1, .int v1), (2, .int v2), (3, .int v3)], [.int 0, .int v2], (q_kM r3.1 c n)) _ _
        refine q_RP_seg (g2 := (29, [(3, .int (v3 + 1)), (2, .int (v2 + 0)), (0, .ref 64), (1, .int v1)], [], (q_kM r3.1 c n))) 6 (fun _ _ => rfl) ?_
        exact q_RP_xt (q_xt_mk (q_mn1 2 rfl (q_mn1 3 rfl (q_mn1 1 rfl (q_mn1 0 rfl q_mn0)))) rfl) (hk29 r3.1 v1 (v2 + 0) (v3 + 1))
    | false =>
      refine q_RP_cF ?_
      refine q_RP_rsT (g2 := (55, [(0, .ref 64), (1, .int v1), (2, .int v2), (3, .int v3)], [], (q_kM s c n))) rfl rfl (q_d_geF h3) ?_
      refine q_RP_seg (g2 := (56, [(0, .ref 64), (1, .int v1), (2, .int v2), (3, .int v3)], [.ref 64], (q_kM s c n))) 1 (fun _ _ => rfl) ?_
      refine q_RP_call (v := none) (h2 := (q_kM (dz_M205_64 s) c n)) rfl rfl ((dzt_M205_64 s c n).le (Nat.le_of_ble_eq_true rfl)) ?_
      generalize dz_M205_64 s = r4
      refine q_RP_let ?_
      show q_RP _ _ _ (59, [(0, .ref 64), (1, .int v1), (2, .int v2), (3, .int v3)], [], (q_kM r4 c n)) _ _
      refine q_RP_seg (g2 := (60, [(0, .ref 64), (1, .int v1), (2, .int v2), (3, .int v3)], [.int v2], (q_kM r4 c n))) 1 (fun _ _ => rfl) ?_
      exact q_RP_ret rfl rfl rfl
def dz_M236_64 (s : q_S) (a1 : Int32) : Option (q_S × Int32) :=
  q_let (dz_M202 s a1 1 1000) fun r1 => cond r1 (q_let (dz_M200_64 s 0) fun r2 => cond r2.2 (some (r2.1, 0)) (dz_M236_64_29 5000 r2.1 a1 0 0)) (q_let (dz_M200_64 s 1) fun r5 => cond r5.2 (some (r5.1, 0)) (dz_M236_64_29 5000 r5.1 a1 0 0))
set_option maxHeartbeats 4000000 in
theorem dzt_M236_64 (s : q_S) (c n : Nat) (a1 : Int32) (x : q_S × Int32) (h : dz_M236_64 s a1 = some x) : q_Ca q_TB0 14 235 [.ref 64, .int a1] (q_kM s c n) ((q_oIM c n) x) := by
  refine q_CaP_of (φ := (q_oIM c n)) (Nat.le_of_ble_eq_true rfl) ?_ h
  clear h
  unfold dz_M236_64
  refine q_RP_seg (g2 := (6, [(0, .ref 64), (1, .int a1)], [.int 1000, .int 1, .int a1, .ref 64], (q_kM s c n))) 4 (fun _ _ => rfl) ?_
  refine q_RP_call (v := (some (.int (q_b (dz_M202 s a1 1 1000))))) (h2 := (q_kM s c n)) rfl rfl ((dzt_M202 s c n a1 1 1000).le (Nat.le_of_ble_eq_true rfl)) ?_
  generalize dz_M202 s a1 1 1000 = r1
  refine q_RP_let ?_
  show q_RP _ _ _ (9, [(0, .ref 64), (1, .int a1)], [.int (q_b r1), .ref 64], (q_kM s c n)) _ _
  cases h1 : r1 with
  | true =>
    refine q_RP_cT ?_
    show q_RP _ _ _ (9, [(0, .ref 64), (1, .int a1)], [.int 1, .ref 64], (q_kM s c n)) _ _
    refine q_RP_seg (g2 := (17, [(0, .ref 64), (1, .int a1)], [.int 0, .ref 64], (q_kM s c n))) 3 (fun _ _ => rfl) ?_
    refine q_RP_call (v := (some (.int (q_b (dz_M200_64 s 0).2)))) (h2 := (q_kM (dz_M200_64 s 0).1 c n)) rfl rfl ((dzt_M200_64 s c n 0).le (Nat.le_of_ble_eq_true rfl)) ?_
    generalize dz_M200_64 s 0 = r2
    refine q_RP_let ?_
    show q_RP _ _ _ (20, [(0, .ref 64), (1, .int a1)], [.int (q_b r2.2)], (q_kM r2.1 c n)) _ _
    cases h2 : r2.2 with
    | true =>
      refine q_RP_cT ?_
      show q_RP _ _ _ (20, [(0, .ref 64), (1, .int a1)], [.int 1], (q_kM r2.1 c n)) _ _
      refine q_RP_seg (g2 := (24, [(0, .ref 64), (1, .int a1)], [.int 0], (q_kM r2.1 c n))) 2 (fun _ _ => rfl) ?_
      exact q_RP_ret rfl rfl rfl
    | false =>
      refine q_RP_cF ?_
      show q_RP _ _ _ (20, [(0, .ref 64), (1, .int a1)], [.int 0], (q_kM r2.1 c n)) _ _
      refine q_RP_seg (g2 := (29, [(3, .int 0), (2, .int 0), (0, .ref 64), (1, .int a1)], [], (q_kM r2.1 c n))) 5 (fun _ _ => rfl) ?_
      exact q_RP_xt (q_xt_mk (q_mn1 2 rfl (q_mn1 3 rfl (q_mn1 1 rfl (q_mn1 0 rfl q_mn0)))) rfl) (dzt_M236_64_29 c n 5000 r2.1 a1 0 0)
  | false =>
    refine q_RP_cF ?_
    show q_RP _ _ _ (9, [(0, .ref 64), (1, .int a1)], [.int 0, .ref 64], (q_kM s c n)) _ _
    refine q_RP_seg (g2 := (17, [(0, .ref 64), (1, .int a1)], [.int 1, .ref 64], (q_kM s c n))) 2 (fun _ _ => rfl) ?_
    refine q_RP_call (v := (some (.int (q_b (dz_M200_64 s 1).2)))) (h2 := (q_kM (dz_M200_64 s 1).1 c n)) rfl rfl ((dzt_M200_64 s c n 1).le (Nat.le_of_ble_eq_true rfl)) ?_
    generalize dz_M200_64 s 1 = r5
    refine q_RP_let ?_
    show q_RP _ _ _ (20, [(0, .ref 64), (1, .int a1)], [.int (q_b r5.2)], (q_kM r5.1 c n)) _ _
    cases h5 : r5.2 with
    | true =>
      refine q_RP_cT ?_
      show q_RP _ _ _ (20, [(0, .ref 64), (1, .int a1)], [.int 1], (q_kM r5.1 c n)) _ _
      refine q_RP_seg (g2 := (24, [(0, .ref 64), (1, .int a1)], [.int 0], (q_kM r5.1 c n))) 2 (fun _ _ => rfl) ?_
      exact q_RP_ret rfl rfl rfl
    | false =>
      refine q_RP_cF ?_
      show q_RP _ _ _ (20, [(0, .ref 64), (1, .int a1)], [.int 0], (q_kM r5.1 c n)) _ _
      refine q_RP_seg (g2 := (29, [(3, .int 0), (2, .int 0), (0, .ref 64), (1, .int a1)], [], (q_kM r5.1 c n))) 5 (fun _ _ => rfl) ?_
      exact q_RP_xt (q_xt_mk (q_mn1 2 rfl (q_mn1 3 rfl (q_mn1 1 rfl (q_mn1 0 rfl q_mn0)))) rfl) (dzt_M236_64_29 c n 5000 r5.1 a1 0 0)
def dz_M237_64_34 (m : Nat) : q_S → Int32 → Int32 → Option (q_S × Int32) := Nat.rec (motive := fun _ => q_S → Int32 → Int32 → Option (q_S × Int32)) (fun _ _ _ => none) (fun _ k34 s v1 v2 =>
  cond (decide (v2 < 200)) (cond (decide ((s.1 14) 19 = v1)) ((dz_M235_64 s).bind fun r2 => cond r2.2 (k34 r2.1 v1 (v2 + 1)) (k34 r2.1 v1 (v2 + 1))) (q_let (dz_M205_64 s) fun r3 => some (r3, v2))) (q_let (dz_M205_64 s) fun r4 => some (r4, v2))) m
theorem dzs_M237_64_34 (m : Nat) (s : q_S) (v1 : Int32) (v2 : Int32) : dz_M237_64_34 (m + 1) s v1 v2 = (fun k34 : q_S → Int32 → Int32 → Option (q_S × Int32) =>
  cond (decide (v2 < 200)) (cond (decide ((s.1 14) 19 = v1)) ((dz_M235_64 s).bind fun r2 => cond r2.2 (k34 r2.1 v1 (v2 + 1)) (k34 r2.1 v1 (v2 + 1))) (q_let (dz_M205_64 s) fun r3 => some (r3, v2))) (q_let (dz_M205_64 s) fun r4 => some (r4, v2))) (dz_M237_64_34 m) := rfl
set_option maxHeartbeats 4000000 in
theorem dzt_M237_64_34 (c n : Nat) : ∀ (m : Nat) (s : q_S) (v1 : Int32) (v2 : Int32), q_RP q_TB0 13 236 (34, [(0, .ref 64), (1, .int v1), (2, .int v2)], [], (q_kM s c n)) (q_oIM c n) (dz_M237_64_34 m s v1 v2) := by
  intro m
  induction m with
  | zero => intro s v1 v2; exact q_RP_no
  | succ m ih =>
    intro s v1 v2
    have hk34 := ih
    clear ih
    rw [dzs_M237_64_34]
    generalize dz_M237_64_34 m = k34 at hk34 ⊢
    dsimp only
    refine q_RP_seg (g2 := (38, [(0, .ref 64), (1, .int v1), (2, .int v2)], [.int 200, .int v2], (q_kM s c n))) 2 (fun _ _ => rfl) ?_
    cases h3 : decide (v2 < 200) with
    | true =>
      refine q_RP_cT ?_
      refine q_RP_rsF (g2 := (41, [(0, .ref 64), (1, .int v1), (2, .int v2)], [], (q_kM s c n))) rfl rfl (q_d_geT h3) ?_
      refine q_RP_seg (g2 := (48, [(0, .ref 64), (1, .int v1), (2, .int v2)], [.int ((s.1 14) 19)], (q_kM s c n))) 4 (fun _ _ => rfl) ?_
      refine q_RP_seg (g2 := (49, [(0, .ref 64), (1, .int v1), (2, .int v2)], [.int v1, .int ((s.1 14) 19)], (q_kM s c n))) 1 (fun _ _ => rfl) ?_
      cases h4 : decide ((s.1 14) 19 = v1) with
      | true =>
        refine q_RP_cT ?_
        refine q_RP_rsF (g2 := (52, [(0, .ref 64), (1, .int v1), (2, .int v2)], [], (q_kM s c n))) rfl rfl (q_d_neT h4) ?_
        refine q_RP_seg (g2 := (53, [(0, .ref 64), (1, .int v1), (2, .int v2)], [.ref 64], (q_kM s c n))) 1 (fun _ _ => rfl) ?_
        refine q_RP_bd fun r2 er2 => ?_
        refine q_RP_call (v := (some (.int (q_b r2.2)))) (h2 := (q_kM r2.1 c n)) rfl rfl ((dzt_M235_64 s c n r2 er2).le (Nat.le_of_ble_eq_true rfl)) ?_
        show q_RP _ _ _ (56, [(0, .ref 64), (1, .int v1), (2, .int v2)], [.int (q_b r2.2)], (q_kM r2.1 c n)) _ _
        cases h5 : r2.2 with
        | true =>
          refine q_RP_cT ?_
          show q_RP _ _ _ (56, [(0, .ref 64), (1, .int v1), (2, .int v2)], [.int 1], (q_kM r2.1 c n)) _ _
          refine q_RP_seg (g2 := (34, [(2, .int (v2 + 1)), (0, .ref 64), (1, .int v1)], [], (q_kM r2.1 c n))) 3 (fun _ _ => rfl) ?_
          exact q_RP_xt (q_xt_mk (q_mn1 1 rfl (q_mn1 2 rfl (q_mn1 0 rfl q_mn0))) rfl) (hk34 r2.1 v1 (v2 + 1))
        | false =>
          refine q_RP_cF ?_
          show q_RP _ _ _ (56, [(0, .ref 64), (1, .int v1), (2, .int v2)], [.int 0], (q_kM r2.1 c n)) _ _
          refine q_RP_seg (g2 := (34, [(2, .int (v2 + 1)), (0, .ref 64), (1, .int v1)], [], (q_kM r2.1 c n))) 3 (fun _ _ => rfl) ?_
          exact q_RP_xt (q_xt_mk (q_mn1 1 rfl (q_mn1 2 rfl (q_mn1 0 rfl q_mn0))) rfl) (hk34 r2.1 v1 (v2 + 1))
      | false =>
        refine q_RP_cF ?_
        refine q_RP_rsT (g2 := (63, [(0, .ref 64), (1, .int v1), (2, .int v2)], [], (q_kM s c n))) rfl rfl (q_d_neF h4) ?_
        refine q_RP_seg (g2 := (64, [(0, .ref 64), (1, .int v1), (2, .int v2)], [.ref 64], (q_kM s c n))) 1 (fun _ _ => rfl) ?_
        refine q_RP_call (v := none) (h2 := (q_kM (dz_M205_64 s) c n)) rfl rfl ((dzt_M205_64 s c n).le (Nat.le_of_ble_eq_true rfl)) ?_
        generalize dz_M205_64 s = r3
        refine q_RP_let ?_
        show q_RP _ _ _ (67, [(0, .ref 64), (1, .int v1), (2, .int v2)], [], (q_kM r3 c n)) _ _
        refine q_RP_seg (g2 := (68, [(0, .ref 64), (1, .int v1), (2, .int v2)], [.int v2], (q_kM r3 c n))) 1 (fun _ _ => rfl) ?_
        exact q_RP_ret rfl rfl rfl
    | false =>
      refine q_RP_cF ?_
      refine q_RP_rsT (g2 := (63, [(0, .ref 64), (1, .int v1), (2, .int v2)], [], (q_kM s c n))) rfl rfl (q_d_geF h3) ?_
      refine q_RP_seg (g2 := (64, [(0, .ref 64), (1, .int v1), (2, .int v2)], [.ref 64], (q_kM s c n))) 1 (fun _ _ => rfl) ?_
      refine q_RP_call (v := none) (h2 := (q_kM (dz_M205_64 s) c n)) rfl rfl ((dzt_M205_64 s c n).le (Nat.le_of_ble_eq_true rfl)) ?_
      generalize dz_M205_64 s = r4
      refine q_RP_let ?_
      show q_RP _ _ _ (67, [(0, .ref 64), (1, .int v1), (2, .int v2)], [], (q_kM r4 c n)) _ _
      refine q_RP_seg (g2 := (68, [(0, .ref 64), (1, .int v1), (2, .int v2)], [.int v2], (q_kM r4 c n))) 1 (fun _ _ => rfl) ?_
      exact q_RP_ret rfl rfl rfl
def dz_M237_64 (s : q_S) : Option (q_S × Int32) :=
  cond (decide ((s.1 15) 7 = 0)) (q_let (dz_M200_64 s 0) fun r1 => cond r1.2 (some (r1.1, 0)) (dz_M237_64_34 5000 r1.1 ((r1.1.1 14) 19) 0)) (q_let (dz_M200_64 s 1) fun r5 => cond r5.2 (some (r5.1, 0)) (dz_M237_64_34 5000 r5.1 ((r5.1.1 14) 19) 0))
set_option maxHeartbeats 4000000 in
theorem dzt_M237_64 (s : q_S) (c n : Nat) (x : q_S × Int32) (h : dz_M237_64 s = some x) : q_Ca q_TB0 14 236 [.ref 64] (q_kM s c n) ((q_oIM c n) x) := by
  refine q_CaP_of (φ := (q_oIM c n)) (Nat.le_of_ble_eq_true rfl) ?_ h
  clear h
  unfold dz_M237_64
  refine q_RP_seg (g2 := (8, [(0, .ref 64)], [.int ((s.1 15) 7), .ref 64], (q_kM s c n))) 5 (fun _ _ => rfl) ?_
  cases h1 : decide ((s.1 15) 7 = 0) with
  | true =>
    refine q_RP_cT ?_
    refine q_RP_rsT (g2 := (15, [(0, .ref 64)], [.ref 64], (q_kM s c n))) rfl rfl h1 ?_
    refine q_RP_seg (g2 := (16, [(0, .ref 64)], [.int 0, .ref 64], (q_kM s c n))) 1 (fun _ _ => rfl) ?_
    refine q_RP_call (v := (some (.int (q_b (dz_M200_64 s 0).2)))) (h2 := (q_kM (dz_M200_64 s 0).1 c n)) rfl rfl ((dzt_M200_64 s c n 0).le (Nat.le_of_ble_eq_true rfl)) ?_
    generalize dz_M200_64 s 0 = r1
    refine q_RP_let ?_
    show q_RP _ _ _ (19, [(0, .ref 64)], [.int (q_b r1.2)], (q_kM r1.1 c n)) _ _
    cases h2 : r1.2 with
    | true =>
      refine q_RP_cT ?_
      show q_RP _ _ _ (19, [(0, .ref 64)], [.int 1], (q_kM r1.1 c n)) _ _
      refine q_RP_seg (g2 := (23, [(0, .ref 64)], [.int 0], (q_kM r1.1 c n))) 2 (fun _ _ => rfl) ?_
      exact q_RP_ret rfl rfl rfl
    | false =>
      refine q_RP_cF ?_
      show q_RP _ _ _ (19, [(0, .ref 64)], [.int 0], (q_kM r1.1 c n)) _ _
      refine q_RP_seg (g2 := (31, [(0, .ref 64)], [.int ((r1.1.1 14) 19)], (q_kM r1.1 c n))) 5 (fun _ _ => rfl) ?_
      refine q_RP_seg (g2 := (34, [(2, .int 0), (1, .int ((r1.1.1 14) 19)), (0, .ref 64)], [], (q_kM r1.1 c n))) 3 (fun _ _ => rfl) ?_
      exact q_RP_xt (q_xt_mk (q_mn1 2 rfl (q_mn1 1 rfl (q_mn1 0 rfl q_mn0))) rfl) (dzt_M237_64_34 c n 5000 r1.1 ((r1.1.1 14) 19) 0)
  | false =>
    refine q_RP_cF ?_
    refine q_RP_rsF (g2 := (11, [(0, .ref 64)], [.ref 64], (q_kM s c n))) rfl rfl h1 ?_
    refine q_RP_seg (g2 := (16, [(0, .ref 64)], [.int 1, .ref 64], (q_kM s c n))) 2 (fun _ _ => rfl) ?_
    refine q_RP_call (v := (some (.int (q_b (dz_M200_64 s 1).2)))) (h2 := (q_kM (dz_M200_64 s 1).1 c n)) rfl rfl ((dzt_M200_64 s c n 1).le (Nat.le_of_ble_eq_true rfl)) ?_
    generalize dz_M200_64 s 1 = r5
    refine q_RP_let ?_
    show q_RP _ _ _ (19, [(0, .ref 64)], [.int (q_b r5.2)], (q_kM r5.1 c n)) _ _
    cases h6 : r5.2 with
    | true =>
      refine q_RP_cT ?_
      show q_RP _ _ _ (19, [(0, .ref 64)], [.int 1], (q_kM r5.1 c n)) _ _
      refine q_RP_seg (g2 := (23, [(0, .ref 64)], [.int 0], (q_kM r5.1 c n))) 2 (fun _ _ => rfl) ?_
      exact q_RP_ret rfl rfl rfl
    | false =>
      refine q_RP_cF ?_
      show q_RP _ _ _ (19, [(0, .ref 64)], [.int 0], (q_kM r5.1 c n)) _ _
      refine q_RP_seg (g2 := (31, [(0, .ref 64)], [.int ((r5.1.1 14) 19)], (q_kM r5.1 c n))) 5 (fun _ _ => rfl) ?_
      refine q_RP_seg (g2 := (34, [(2, .int 0), (1, .int ((r5.1.1 14) 19)), (0, .ref 64)], [], (q_kM r5.1 c n))) 3 (fun _ _ => rfl) ?_
      exact q_RP_xt (q_xt_mk (q_mn1 2 rfl (q_mn1 1 rfl (q_mn1 0 rfl q_mn0))) rfl) (dzt_M237_64_34 c n 5000 r5.1 ((r5.1.1 14) 19) 0)
def dz_M238_64 (s : q_S) : q_S × Int64 :=
  ((q_sI s 0 39 0), (s.2.2 0 15))
set_option maxHeartbeats 4000000 in
theorem dzt_M238_64 (s : q_S) (c n : Nat) : q_Ca q_TB0 1 237 [.ref 64] (q_kM s c n) ((q_oKM c n) (dz_M238_64 s)) := by
  refine q_CaT_of (φ := (q_oKM c n)) (Nat.le_of_ble_eq_true rfl) ?_
  unfold dz_M238_64
  refine q_RT_seg (g2 := (9, [(0, .ref 64)], [.long (s.2.2 0 15)], (q_kM (q_sI s 0 39 0) c n))) 5 (fun _ _ => rfl) ?_
  exact q_RT_ret rfl rfl rfl
def dz_M239_64 (s : q_S) : Option (q_S × Bool) :=
  (dz_M225_64 (q_sI s 0 39 0)).bind fun r2 => cond r2 (some ((q_sI s 0 39 0), true)) (some ((q_sI s 0 39 0), false))
set_option maxHeartbeats 4000000 in
theorem dzt_M239_64 (s : q_S) (c n : Nat) (x : q_S × Bool) (h : dz_M239_64 s = some x) : q_Ca q_TB0 4 238 [.ref 64] (q_kM s c n) ((q_oJM c n) x) := by
  refine q_CaP_of (φ := (q_oJM c n)) (Nat.le_of_ble_eq_true rfl) ?_ h
  clear h
  unfold dz_M239_64
  refine q_RP_seg (g2 := (6, [(0, .ref 64)], [.ref 64], (q_kM (q_sI s 0 39 0) c n))) 4 (fun _ _ => rfl) ?_
  refine q_RP_bd fun r2 er2 => ?_
  refine q_RP_call (v := (some (.int (q_b r2)))) (h2 := (q_kM (q_sI s 0 39 0) c n)) rfl rfl ((dzt_M225_64 (q_sI s 0 39 0) c n r2 er2).le (Nat.le_of_ble_eq_true rfl)) ?_
  show q_RP _ _ _ (9, [(0, .ref 64)], [.int (q_b r2)], (q_kM (q_sI s 0 39 0) c n)) _ _
  cases h1 : r2 with
  | true =>
    refine q_RP_cT ?_
    show q_RP _ _ _ (9, [(0, .ref 64)], [.int 1], (q_kM (q_sI s 0 39 0) c n)) _ _
    exact q_RP_ret rfl rfl rfl
  | false =>
    refine q_RP_cF ?_
    show q_RP _ _ _ (9, [(0, .ref 64)], [.int 0], (q_kM (q_sI s 0 39 0) c n)) _ _
    exact q_RP_ret rfl rfl rfl
def dz_M240_64 (s : q_S) : q_S × Int32 :=
  q_let (dz_M201_64 s ((s.1 14) 17)) fun r1 => (r1.1, r1.2)
set_option maxHeartbeats 4000000 in
theorem dzt_M240_64 (s : q_S) (c n : Nat) : q_Ca q_TB0 2 239 [.ref 64] (q_kM s c n) ((q_oIM c n) (dz_M240_64 s)) := by
  refine q_CaT_of (φ := (q_oIM c n)) (Nat.le_of_ble_eq_true rfl) ?_
  unfold dz_M240_64
  refine q_RT_seg (g2 := (8, [(0, .ref 64)], [.int ((s.1 14) 17), .ref 64], (q_kM s c n))) 5 (fun _ _ => rfl) ?_
  refine q_RT_call (v := (some (.int (dz_M201_64 s ((s.1 14) 17)).2))) (h2 := (q_kM (dz_M201_64 s ((s.1 14) 17)).1 c n)) rfl rfl ((dzt_M201_64 s c n ((s.1 14) 17)).le (Nat.le_of_ble_eq_true rfl)) ?_
  generalize dz_M201_64 s ((s.1 14) 17) = r1
  refine q_RT_let ?_
  show q_RT _ _ _ (11, [(0, .ref 64)], [.int r1.2], (q_kM r1.1 c n)) _ _
  exact q_RT_ret rfl rfl rfl
def dz_M241_64 (s : q_S) : q_S × Int32 :=
  q_let (dz_M201_64 s ((s.1 14) 19)) fun r1 => (r1.1, r1.2)
set_option maxHeartbeats 4000000 in
theorem dzt_M241_64 (s : q_S) (c n : Nat) : q_Ca q_TB0 2 240 [.ref 64] (q_kM s c n) ((q_oIM c n) (dz_M241_64 s)) := by
  refine q_CaT_of (φ := (q_oIM c n)) (Nat.le_of_ble_eq_true rfl) ?_
  unfold dz_M241_64
  refine q_RT_seg (g2 := (8, [(0, .ref 64)], [.int ((s.1 14) 19), .ref 64], (q_kM s c n))) 5 (fun _ _ => rfl) ?_
  refine q_RT_call (v := (some (.int (dz_M201_64 s ((s.1 14) 19)).2))) (h2 := (q_kM (dz_M201_64 s ((s.1 14) 19)).1 c n)) rfl rfl ((dzt_M201_64 s c n ((s.1 14) 19)).le (Nat.le_of_ble_eq_true rfl)) ?_
  generalize dz_M201_64 s ((s.1 14) 19) = r1
  refine q_RT_let ?_
  show q_RT _ _ _ (11, [(0, .ref 64)], [.int r1.2], (q_kM r1.1 c n)) _ _
  exact q_RT_ret rfl rfl rfl
def dz_M242_64 (s : q_S) : Option (q_S × Bool) :=
  cond (q_z1 ((s.1 15) 7)) (some ((q_sI s 0 39 0), (decide ((s.1 15) 7 = 1)))) none
set_option maxHeartbeats 4000000 in
theorem dzt_M242_64 (s : q_S) (c n : Nat) (x : q_S × Bool) (h : dz_M242_64 s = some x) : q_Ca q_TB0 1 241 [.ref 64] (q_kM s c n) ((q_oJM c n) x) := by
  refine q_CaP_of (φ := (q_oJM c n)) (Nat.le_of_ble_eq_true rfl) ?_ h
  clear h
  unfold dz_M242_64
  refine q_RP_seg (g2 := (12, [(0, .ref 64)], [.int ((s.1 15) 7)], (q_kM (q_sI s 0 39 0) c n))) 7 (fun _ _ => rfl) ?_
  refine q_RP_as fun i1 => ?_
  exact q_RP_ret rfl (q_rz01 i1) (by show (Sum.inl (some (Value.int (q_b (decide ((s.1 15) 7 = 1))))), _) = _; rw [q_b01 i1]; try rfl)
def dz_M243_64 (s : q_S) (a1 : Int32) : Option (q_S × Int32) :=
  q_let (dz_M202 s a1 0 ((if ((s.1 14) 20) < (16 : Int32) then ((s.1 14) 20) else (16 : Int32)) - 1)) fun r3 => cond r3 (q_let (dz_M200_64 s 0) fun r4 => cond r4.2 (some (r4.1, 0)) (cond (q_in (((((r4.1.1 14) 20) - 1) - a1) - ((((r4.1.1 14) 20) - 1) - a1) / 16 * 16) 16) (some (r4.1, ((r4.1.1 9) ((((((r4.1.1 14) 20) - 1) - a1) - ((((r4.1.1 14) 20) - 1) - a1) / 16 * 16).toNatClampNeg)))) none)) (q_let (dz_M200_64 s 1) fun r5 => cond r5.2 (some (r5.1, 0)) (cond (q_in (((((r5.1.1 14) 20) - 1) - a1) - ((((r5.1.1 14) 20) - 1) - a1) / 16 * 16) 16) (some (r5.1, ((r5.1.1 9) ((((((r5.1.1 14) 20) - 1) - a1) - ((((r5.1.1 14) 20) - 1) - a1) / 16 * 16).toNatClampNeg)))) none))
set_option maxHeartbeats 4000000 in
theorem dzt_M243_64 (s : q_S) (c n : Nat) (a1 : Int32) (x : q_S × Int32) (h : dz_M243_64 s a1 = some x) : q_Ca q_TB0 2 242 [.ref 64, .int a1] (q_kM s c n) ((q_oIM c n) x) := by
  refine q_CaP_of (φ := (q_oIM c n)) (Nat.le_of_ble_eq_true rfl) ?_ h
  clear h
  unfold dz_M243_64
  refine q_RP_seg (g2 := (12, [(0, .ref 64), (1, .int a1)], [.int ((s.1 14) 20), .int 16, .int 0, .int a1, .ref 64], (q_kM s c n))) 8 (fun _ _ => rfl) ?_
  refine q_RP_seg (g2 := (17, [(0, .ref 64), (1, .int a1)], [.int ((if ((s.1 14) 20) < (16 : Int32) then ((s.1 14) 20) else (16 : Int32)) - 1), .int 0, .int a1, .ref 64], (q_kM s c n))) 3 (fun _ _ => rfl) ?_
  refine q_RP_call (v := (some (.int (q_b (dz_M202 s a1 0 ((if ((s.1 14) 20) < (16 : Int32) then ((s.1 14) 20) else (16 : Int32)) - 1)))))) (h2 := (q_kM s c n)) rfl rfl ((dzt_M202 s c n a1 0 ((if ((s.1 14) 20) < (16 : Int32) then ((s.1 14) 20) else (16 : Int32)) - 1)).le (Nat.le_of_ble_eq_true rfl)) ?_
  generalize dz_M202 s a1 0 ((if ((s.1 14) 20) < (16 : Int32) then ((s.1 14) 20) else (16 : Int32)) - 1) = r3
  refine q_RP_let ?_
  show q_RP _ _ _ (20, [(0, .ref 64), (1, .int a1)], [.int (q_b r3), .ref 64], (q_kM s c n)) _ _
  cases h3 : r3 with
  | true =>
    refine q_RP_cT ?_
    show q_RP _ _ _ (20, [(0, .ref 64), (1, .int a1)], [.int 1, .ref 64], (q_kM s c n)) _ _
    refine q_RP_seg (g2 := (28, [(0, .ref 64), (1, .int a1)], [.int 0, .ref 64], (q_kM s c n))) 3 (fun _ _ => rfl) ?_
    refine q_RP_call (v := (some (.int (q_b (dz_M200_64 s 0).2)))) (h2 := (q_kM (dz_M200_64 s 0).1 c n)) rfl rfl ((dzt_M200_64 s c n 0).le (Nat.le_of_ble_eq_true rfl)) ?_
    generalize dz_M200_64 s 0 = r4
    refine q_RP_let ?_
    show q_RP _ _ _ (31, [(0, .ref 64), (1, .int a1)], [.int (q_b r4.2)], (q_kM r4.1 c n)) _ _
    cases h4 : r4.2 with
    | true =>
      refine q_RP_cT ?_
      show q_RP _ _ _ (31, [(0, .ref 64), (1, .int a1)], [.int 1], (q_kM r4.1 c n)) _ _
      refine q_RP_seg (g2 := (57, [(0, .ref 64), (1, .int a1)], [.int 0], (q_kM r4.1 c n))) 3 (fun _ _ => rfl) ?_
      exact q_RP_ret rfl rfl rfl
    | false =>
      refine q_RP_cF ?_
      show q_RP _ _ _ (31, [(0, .ref 64), (1, .int a1)], [.int 0], (q_kM r4.1 c n)) _ _
      refine q_RP_seg (g2 := (49, [(0, .ref 64), (1, .int a1)], [.int ((r4.1.1 14) 20), .ref 73], (q_kM r4.1 c n))) 7 (fun _ _ => rfl) ?_
      refine q_RP_seg (g2 := (56, [(0, .ref 64), (1, .int a1)], [.int (((((r4.1.1 14) 20) - 1) - a1) - ((((r4.1.1 14) 20) - 1) - a1) / 16 * 16), .ref 73], (q_kM r4.1 c n))) 6 (fun _ _ => rfl) ?_
      refine q_RP_as fun i5 => ?_
      refine q_RP_rsT (g2 := (57, [(0, .ref 64), (1, .int a1)], [.int ((r4.1.1 9) ((((((r4.1.1 14) 20) - 1) - a1) - ((((r4.1.1 14) 20) - 1) - a1) / 16 * 16).toNatClampNeg))], (q_kM r4.1 c n))) rfl rfl i5 ?_
      exact q_RP_ret rfl rfl rfl
  | false =>
    refine q_RP_cF ?_
    show q_RP _ _ _ (20, [(0, .ref 64), (1, .int a1)], [.int 0, .ref 64], (q_kM s c n)) _ _
    refine q_RP_seg (g2 := (28, [(0, .ref 64), (1, .int a1)], [.int 1, .ref 64], (q_kM s c n))) 2 (fun _ _ => rfl) ?_
    refine q_RP_call (v := (some (.int (q_b (dz_M200_64 s 1).2)))) (h2 := (q_kM (dz_M200_64 s 1).1 c n)) rfl rfl ((dzt_M200_64 s c n 1).le (Nat.le_of_ble_eq_true rfl)) ?_
    generalize dz_M200_64 s 1 = r5
    refine q_RP_let ?_
    show q_RP _ _ _ (31, [(0, .ref 64), (1, .int a1)], [.int (q_b r5.2)], (q_kM r5.1 c n)) _ _
    cases h6 : r5.2 with
    | true =>
      refine q_RP_cT ?_
      show q_RP _ _ _ (31, [(0, .ref 64), (1, .int a1)], [.int 1], (q_kM r5.1 c n)) _ _
      refine q_RP_seg (g2 := (57, [(0, .ref 64), (1, .int a1)], [.int 0], (q_kM r5.1 c n))) 3 (fun _ _ => rfl) ?_
      exact q_RP_ret rfl rfl rfl
    | false =>
      refine q_RP_cF ?_
      show q_RP _ _ _ (31, [(0, .ref 64), (1, .int a1)], [.int 0], (q_kM r5.1 c n)) _ _
      refine q_RP_seg (g2 := (49, [(0, .ref 64), (1, .int a1)], [.int ((r5.1.1 14) 20), .ref 73], (q_kM r5.1 c n))) 7 (fun _ _ => rfl) ?_
      refine q_RP_seg (g2 := (56, [(0, .ref 64), (1, .int a1)], [.int (((((r5.1.1 14) 20) - 1) - a1) - ((((r5.1.1 14) 20) - 1) - a1) / 16 * 16), .ref 73], (q_kM r5.1 c n))) 6 (fun _ _ => rfl) ?_
      refine q_RP_as fun i7 => ?_
      refine q_RP_rsT (g2 := (57, [(0, .ref 64), (1, .int a1)], [.int ((r5.1.1 9) ((((((r5.1.1 14) 20) - 1) - a1) - ((((r5.1.1 14) 20) - 1) - a1) / 16 * 16).toNatClampNeg))], (q_kM r5.1 c n))) rfl rfl i7 ?_
      exact q_RP_ret rfl rfl rfl
def dz_M267_64_56 (s : q_S) (v2 : Int32) (v3 : Int32) (v4 : Int32) : Option (q_S) :=
  cond (decide ((s.1 15) 2 = 0)) (q_let (dz_M261_64 s ((s.1 14) 0)) fun r4 => some r4.1) (q_let (dz_M266_64 s v3 v2 v4) fun r5 => q_let (dz_M261_64 r5 ((r5.1 14) 0)) fun r6 => some r6.1)
set_option maxHeartbeats 4000000 in
theorem dzt_M267_64_56 (c n : Nat) (s : q_S) (v2 : Int32) (v3 : Int32) (v4 : Int32) : q_RP q_TB0 2 266 (56, [(0, .ref 64), (2, .int v2), (3, .int v3), (4, .int v4)], [], (q_kM s c n)) (q_oSM c n) (dz_M267_64_56 s v2 v3 v4) := by
  unfold dz_M267_64_56
  refine q_RP_seg (g2 := (62, [(0, .ref 64), (2, .int v2), (3, .int v3), (4, .int v4)], [.int ((s.1 15) 2)], (q_kM s c n))) 4 (fun _ _ => rfl) ?_
  cases h3 : decide ((s.1 15) 2 = 0) with
  | true =>
    refine q_RP_cT ?_
    refine q_RP_rsT (g2 := (73, [(0, .ref 64), (2, .int v2), (3, .int v3), (4, .int v4)], [], (q_kM s c n))) rfl rfl h3 ?_
    refine q_RP_seg (g2 := (80, [(0, .ref 64), (2, .int v2), (3, .int v3), (4, .int v4)], [.int ((s.1 14) 0), .ref 64], (q_kM s c n))) 5 (fun _ _ => rfl) ?_
    refine q_RP_call (v := (some (.int (dz_M261_64 s ((s.1 14) 0)).2))) (h2 := (q_kM (dz_M261_64 s ((s.1 14) 0)).1 c n)) rfl rfl ((dzt_M261_64 s c n ((s.1 14) 0)).le (Nat.le_of_ble_eq_true rfl)) ?_
    generalize dz_M261_64 s ((s.1 14) 0) = r4
    refine q_RP_let ?_
    show q_RP _ _ _ (83, [(0, .ref 64), (2, .int v2), (3, .int v3), (4, .int v4)], [.int r4.2], (q_kM r4.1 c n)) _ _
    refine q_RP_seg (g2 := (84, [(0, .ref 64), (2, .int v2), (3, .int v3), (4, .int v4)], [], (q_kM r4.1 c n))) 1 (fun _ _ => rfl) ?_
    exact q_RP_ret rfl rfl rfl
  | false =>
    refine q_RP_cF ?_
    refine q_RP_rsF (g2 := (65, [(0, .ref 64), (2, .int v2), (3, .int v3), (4, .int v4)], [], (q_kM s c n))) rfl rfl h3 ?_
    refine q_RP_seg (g2 := (70, [(0, .ref 64), (2, .int v2), (3, .int v3), (4, .int v4)], [.int v4, .int v2, .int v3, .ref 64], (q_kM s c n))) 4 (fun _ _ => rfl) ?_
    refine q_RP_call (v := none) (h2 := (q_kM (dz_M266_64 s v3 v2 v4) c n)) rfl rfl ((dzt_M266_64 s c n v3 v2 v4).le (Nat.le_of_ble_eq_true rfl)) ?_
    generalize dz_M266_64 s v3 v2 v4 = r5
    refine q_RP_let ?_
    show q_RP _ _ _ (73, [(0, .ref 64), (2, .int v2), (3, .int v3), (4, .int v4)], [], (q_kM r5 c n)) _ _
    refine q_RP_seg (g2 := (80, [(0, .ref 64), (2, .int v2), (3, .int v3), (4, .int v4)], [.int ((r5.1 14) 0), .ref 64], (q_kM r5 c n))) 5 (fun _ _ => rfl) ?_
    refine q_RP_call (v := (some (.int (dz_M261_64 r5 ((r5.1 14) 0)).2))) (h2 := (q_kM (dz_M261_64 r5 ((r5.1 14) 0)).1 c n)) rfl rfl ((dzt_M261_64 r5 c n ((r5.1 14) 0)).le (Nat.le_of_ble_eq_true rfl)) ?_
    generalize dz_M261_64 r5 ((r5.1 14) 0) = r6
    refine q_RP_let ?_
    show q_RP _ _ _ (83, [(0, .ref 64), (2, .int v2), (3, .int v3), (4, .int v4)], [.int r6.2], (q_kM r6.1 c n)) _ _
    refine q_RP_seg (g2 := (84, [(0, .ref 64), (2, .int v2), (3, .int v3), (4, .int v4)], [], (q_kM r6.1 c n))) 1 (fun _ _ => rfl) ?_
    exact q_RP_ret rfl rfl rfl
def dz_M267_64 (s : q_S) (a1 : Int32) (a2 : Int32) : Option (q_S) :=
  (dz_M257_64 s 5 1).bind fun r2 => cond (decide (a1 = 0)) ((dz_M264_64 s ((255 : Int32) - a2)).bind fun r3 => cond (decide ((r3.1 15) 2 = 0)) (dz_M267_64_56 r3 a2 ((s.1 14) 0) r2) (dz_M267_64_56 r3 a2 ((s.1 14) 0) r2)) ((dz_M264_64 s a2).bind fun r7 => cond (decide ((r7.1 15) 2 = 0)) (dz_M267_64_56 r7 a2 ((s.1 14) 0) r2) (q_let (dz_M265_64 r7 ((s.1 14) 0) a2 r2) fun r8 => q_let (dz_M261_64 r8 ((r8.1 14) 0)) fun r9 => some r9.1))
set_option maxHeartbeats 4000000 in
theorem dzt_M267_64 (s : q_S) (c n : Nat) (a1 : Int32) (a2 : Int32) (x : q_S) (h : dz_M267_64 s a1 a2 = some x) : q_Ca q_TB0 3 266 [.ref 64, .int a1, .int a2] (q_kM s c n) ((q_oSM c n) x) := by
  refine q_CaP_of (φ := (q_oSM c n)) (Nat.le_of_ble_eq_true rfl) ?_ h
  clear h
  unfold dz_M267_64
  refine q_RP_seg (g2 := (6, [(0, .ref 64), (1, .int a1), (2, .int a2)], [.int ((s.1 14) 0)], (q_kM s c n))) 4 (fun _ _ => rfl) ?_
  refine q_RP_seg (g2 := (10, [(3, .int ((s.1 14) 0)), (0, .ref 64), (1, .int a1), (2, .int a2)], [.int 1, .int 5, .ref 64], (q_kM s c n))) 4 (fun _ _ => rfl) ?_
  refine q_RP_bd fun r2 er2 => ?_
  refine q_RP_call (v := (some (.int r2))) (h2 := (q_kM s c n)) rfl rfl ((dzt_M257_64 s c n 5 1 r2 er2).le (Nat.le_of_ble_eq_true rfl)) ?_
  show q_RP _ _ _ (13, [(3, .int ((s.1 14) 0)), (0, .ref 64), (1, .int a1), (2, .int a2)], [.int r2], (q_kM s c n)) _ _
  refine q_RP_seg (g2 := (17, [(4, .int r2), (3, .int ((s.1 14) 0)), (0, .ref 64), (1, .int a1), (2, .int a2)], [.int a1, .ref 64], (q_kM s c n))) 3 (fun _ _ => rfl) ?_
  cases h1 : decide (a1 = 0) with
  | true =>
    refine q_RP_cT ?_
    refine q_RP_rsT (g2 := (24, [(4, .int r2), (3, .int ((s.1 14) 0)), (0, .ref 64), (1, .int a1), (2, .int a2)], [.ref 64], (q_kM s c n))) rfl rfl h1 ?_
    refine q_RP_seg (g2 := (29, [(4, .int r2), (3, .int ((s.1 14) 0)), (0, .ref 64), (1, .int a1), (2, .int a2)], [.int ((255 : Int32) - a2), .ref 64], (q_kM s c n))) 3 (fun _ _ => rfl) ?_
    refine q_RP_bd fun r3 er3 => ?_
    refine q_RP_call (v := none) (h2 := (q_kM r3 c n)) rfl rfl ((dzt_M264_64 s c n ((255 : Int32) - a2) r3 er3).le (Nat.le_of_ble_eq_true rfl)) ?_
    show q_RP _ _ _ (32, [(4, .int r2), (3, .int ((s.1 14) 0)), (0, .ref 64), (1, .int a1), (2, .int a2)], [], (q_kM r3 c n)) _ _
    refine q_RP_seg (g2 := (38, [(4, .int r2), (3, .int ((s.1 14) 0)), (0, .ref 64), (1, .int a1), (2, .int a2)], [.int ((r3.1 15) 2)], (q_kM r3 c n))) 4 (fun _ _ => rfl) ?_
    cases h2 : decide ((r3.1 15) 2 = 0) with
    | true =>
      refine q_RP_cT ?_
      refine q_RP_rsT (g2 := (56, [(4, .int r2), (3, .int ((s.1 14) 0)), (0, .ref 64), (1, .int a1), (2, .int a2)], [], (q_kM r3 c n))) rfl rfl h2 ?_
      exact q_RP_xt (q_xt_mk (q_mn1 2 rfl (q_mn1 4 rfl (q_mn1 1 rfl (q_mn1 0 rfl q_mn0)))) rfl) (dzt_M267_64_56 c n r3 a2 ((s.1 14) 0) r2)
    | false =>
      refine q_RP_cF ?_
      refine q_RP_rsF (g2 := (41, [(4, .int r2), (3, .int ((s.1 14) 0)), (0, .ref 64), (1, .int a1), (2, .int a2)], [], (q_kM r3 c n))) rfl rfl h2 ?_
      refine q_RP_seg (g2 := (42, [(4, .int r2), (3, .int ((s.1 14) 0)), (0, .ref 64), (1, .int a1), (2, .int a2)], [.int a1], (q_kM r3 c n))) 1 (fun _ _ => rfl) ?_
      refine q_RP_rsT (g2 := (56, [(4, .int r2), (3, .int ((s.1 14) 0)), (0, .ref 64), (1, .int a1), (2, .int a2)], [], (q_kM r3 c n))) rfl rfl h1 ?_
      exact q_RP_xt (q_xt_mk (q_mn1 2 rfl (q_mn1 4 rfl (q_mn1 1 rfl (q_mn1 0 rfl q_mn0)))) rfl) (dzt_M267_64_56 c n r3 a2 ((s.1 14) 0) r2)
  | false =>
    refine q_RP_cF ?_
    refine q_RP_rsF (g2 := (20, [(4, .int r2), (3, .int ((s.1 14) 0)), (0, .ref 64), (1, .int a1), (2, .int a2)], [.ref 64], (q_kM s c n))) rfl rfl h1 ?_
    refine q_RP_seg (g2 := (29, [(4, .int r2), (3, .int ((s.1 14) 0)), (0, .ref 64), (1, .int a1), (2, .int a2)], [.int a2, .ref 64], (q_kM s c n))) 2 (fun _ _ => rfl) ?_
    refine q_RP_bd fun r7 er7 => ?_
    refine q_RP_call (v := none) (h2 := (q_kM r7 c n)) rfl rfl ((dzt_M264_64 s c n a2 r7 er7).le (Nat.le_of_ble_eq_true rfl)) ?_
    show q_RP _ _ _ (32, [(4, .int r2), (3, .int ((s.1 14) 0)), (0, .ref 64), (1, .int a1), (2, .int a2)], [], (q_kM r7 c n)) _ _
    refine q_RP_seg (g2 := (38, [(4, .int r2), (3, .int ((s.1 14) 0)), (0, .ref 64), (1, .int a1), (2, .int a2)], [.int ((r7.1 15) 2)], (q_kM r7 c n))) 4 (fun _ _ => rfl) ?_
    cases h4 : decide ((r7.1 15) 2 = 0) with
    | true =>
      refine q_RP_cT ?_
      refine q_RP_rsT (g2 := (56, [(4, .int r2), (3, .int ((s.1 14) 0)), (0, .ref 64), (1, .int a1), (2, .int a2)], [], (q_kM r7 c n))) rfl rfl h4 ?_
      exact q_RP_xt (q_xt_mk (q_mn1 2 rfl (q_mn1 4 rfl (q_mn1 1 rfl (q_mn1 0 rfl q_mn0)))) rfl) (dzt_M267_64_56 c n r7 a2 ((s.1 14) 0) r2)
    | false =>
      refine q_RP_cF ?_
      refine q_RP_rsF (g2 := (41, [(4, .int r2), (3, .int ((s.1 14) 0)), (0, .ref 64), (1, .int a1), (2, .int a2)], [], (q_kM r7 c n))) rfl rfl h4 ?_
      refine q_RP_seg (g2 := (42, [(4, .int r2), (3, .int ((s.1 14) 0)), (0, .ref 64), (1, .int a1), (2, .int a2)], [.int a1], (q_kM r7 c n))) 1 (fun _ _ => rfl) ?_
      refine q_RP_rsF (g2 := (45, [(4, .int r2), (3, .int ((s.1 14) 0)), (0, .ref 64), (1, .int a1), (2, .int a2)], [], (q_kM r7 c n))) rfl rfl h1 ?_
      refine q_RP_seg (g2 := (50, [(4, .int r2), (3, .int ((s.1 14) 0)), (0, .ref 64), (1, .int a1), (2, .int a2)], [.int r2, .int a2, .int ((s.1 14) 0), .ref 64], (q_kM r7 c n))) 4 (fun _ _ => rfl) ?_
      refine q_RP_call (v := none) (h2 := (q_kM (dz_M265_64 r7 ((s.1 14) 0) a2 r2) c n)) rfl rfl ((dzt_M265_64 r7 c n ((s.1 14) 0) a2 r2).le (Nat.le_of_ble_eq_true rfl)) ?_
      generalize dz_M265_64 r7 ((s.1 14) 0) a2 r2 = r8
      refine q_RP_let ?_
      show q_RP _ _ _ (53, [(4, .int r2), (3, .int ((s.1 14) 0)), (0, .ref 64), (1, .int a1), (2, .int a2)], [], (q_kM r8 c n)) _ _
      refine q_RP_seg (g2 := (80, [(4, .int r2), (3, .int ((s.1 14) 0)), (0, .ref 64), (1, .int a1), (2, .int a2)], [.int ((r8.1 14) 0), .ref 64], (q_kM r8 c n))) 6 (fun _ _ => rfl) ?_
      refine q_RP_call (v := (some (.int (dz_M261_64 r8 ((r8.1 14) 0)).2))) (h2 := (q_kM (dz_M261_64 r8 ((r8.1 14) 0)).1 c n)) rfl rfl ((dzt_M261_64 r8 c n ((r8.1 14) 0)).le (Nat.le_of_ble_eq_true rfl)) ?_
      generalize dz_M261_64 r8 ((r8.1 14) 0) = r9
      refine q_RP_let ?_
      show q_RP _ _ _ (83, [(4, .int r2), (3, .int ((s.1 14) 0)), (0, .ref 64), (1, .int a1), (2, .int a2)], [.int r9.2], (q_kM r9.1 c n)) _ _
      refine q_RP_seg (g2 := (84, [(4, .int r2), (3, .int ((s.1 14) 0)), (0, .ref 64), (1, .int a1), (2, .int a2)], [], (q_kM r9.1 c n))) 1 (fun _ _ => rfl) ?_
      exact q_RP_ret rfl rfl rfl
