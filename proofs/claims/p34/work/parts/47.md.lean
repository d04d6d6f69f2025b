def dz_M270_64_38 (s : q_S) (v1 : Int32) (v2 : Int32) (v3 : Int32) : Option (q_S) :=
  cond (decide (v1 = 3)) ((dz_M215_64 s v2 ((s.1 14) 0)).bind fun r1234 => some r1234) (cond (decide (v1 = 4)) ((dz_M215_64 s v2 ((s.1 14) 1)).bind fun r1235 => some r1235) (cond (decide (v1 = 5)) ((dz_M215_64 s v2 ((s.1 14) 2)).bind fun r1236 => some r1236) (cond (decide (v1 = 17)) ((dz_M215_64 s v2 (((s.1 14) 0) &&& ((s.1 14) 1))).bind fun r1237 => some r1237) ((dz_M215_64 s v2 ((v3 + 1) &&& 255)).bind fun r1238 => cond (decide (v1 = 18)) ((dz_M263_64 r1238 0 ((v3 + 1) &&& 255)).bind fun r1241 => some r1241) (cond (decide (v1 = 19)) ((dz_M267_64_f r1238 ((v3 + 1) &&& 255)).bind fun r1255 => some r1255) (q_let (dz_M261_64 r1238 ((v3 + 1) &&& 255)) fun r1256 => some r1256.1))))))
set_option maxHeartbeats 4000000 in
theorem dzt_M270_64_38 (c n : Nat) (s : q_S) (v1 : Int32) (v2 : Int32) (v3 : Int32) : q_RP q_TB0 5 269 (38, [(0, .ref 64), (1, .int v1), (2, .int v2), (3, .int v3)], [], (q_kM s c n)) (q_oSM c n) (dz_M270_64_38 s v1 v2 v3) := by
  unfold dz_M270_64_38
  refine q_RP_seg (g2 := (58, [(4, .int ((v3 + 1) &&& 255)), (0, .ref 64), (1, .int v1), (2, .int v2), (3, .int v3)], [.int v1], (q_kM s c n))) 8 (fun _ _ => rfl) ?_
  cases h1401 : decide (v1 = 3) with
  | true =>
    refine q_RP_cT ?_
    refine q_RP_st1 (g2 := (100, [(4, .int ((v3 + 1) &&& 255)), (0, .ref 64), (1, .int v1), (2, .int v2), (3, .int v3)], [], (q_kM s c n))) rfl (by rw [of_decide_eq_true h1401]; rfl) ?_
    refine q_RP_seg (g2 := (108, [(4, .int ((v3 + 1) &&& 255)), (0, .ref 64), (1, .int v1), (2, .int v2), (3, .int v3)], [.int ((s.1 14) 0), .int v2, .ref 64], (q_kM s c n))) 6 (fun _ _ => rfl) ?_
    refine q_RP_bd fun r1234 er1234 => ?_
    refine q_RP_call (v := none) (h2 := (q_kM r1234 c n)) rfl rfl ((dzt_M215_64 s c n v2 ((s.1 14) 0) r1234 er1234).le (Nat.le_of_ble_eq_true rfl)) ?_
    show q_RP _ _ _ (111, [(4, .int ((v3 + 1) &&& 255)), (0, .ref 64), (1, .int v1), (2, .int v2), (3, .int v3)], [], (q_kM r1234 c n)) _ _
    refine q_RP_seg (g2 := (209, [(4, .int ((v3 + 1) &&& 255)), (0, .ref 64), (1, .int v1), (2, .int v2), (3, .int v3)], [], (q_kM r1234 c n))) 1 (fun _ _ => rfl) ?_
    exact q_RP_ret rfl rfl rfl
  | false =>
    refine q_RP_cF ?_
    cases h1402 : decide (v1 = 4) with
    | true =>
      refine q_RP_cT ?_
      refine q_RP_st1 (g2 := (114, [(4, .int ((v3 + 1) &&& 255)), (0, .ref 64), (1, .int v1), (2, .int v2), (3, .int v3)], [], (q_kM s c n))) rfl (by rw [of_decide_eq_true h1402]; rfl) ?_
      refine q_RP_seg (g2 := (122, [(4, .int ((v3 + 1) &&& 255)), (0, .ref 64), (1, .int v1), (2, .int v2), (3, .int v3)], [.int ((s.1 14) 1), .int v2, .ref 64], (q_kM s c n))) 6 (fun _ _ => rfl) ?_
      refine q_RP_bd fun r1235 er1235 => ?_
      refine q_RP_call (v := none) (h2 := (q_kM r1235 c n)) rfl rfl ((dzt_M215_64 s c n v2 ((s.1 14) 1) r1235 er1235).le (Nat.le_of_ble_eq_true rfl)) ?_
      show q_RP _ _ _ (125, [(4, .int ((v3 + 1) &&& 255)), (0, .ref 64), (1, .int v1), (2, .int v2), (3, .int v3)], [], (q_kM r1235 c n)) _ _
      refine q_RP_seg (g2 := (209, [(4, .int ((v3 + 1) &&& 255)), (0, .ref 64), (1, .int v1), (2, .int v2), (3, .int v3)], [], (q_kM r1235 c n))) 1 (fun _ _ => rfl) ?_
      exact q_RP_ret rfl rfl rfl
    | false =>
      refine q_RP_cF ?_
      cases h1403 : decide (v1 = 5) with
      | true =>
        refine q_RP_cT ?_
        refine q_RP_st1 (g2 := (128, [(4, .int ((v3 + 1) &&& 255)), (0, .ref 64), (1, .int v1), (2, .int v2), (3, .int v3)], [], (q_kM s c n))) rfl (by rw [of_decide_eq_true h1403]; rfl) ?_
        refine q_RP_seg (g2 := (136, [(4, .int ((v3 + 1) &&& 255)), (0, .ref 64), (1, .int v1), (2, .int v2), (3, .int v3)], [.int ((s.1 14) 2), .int v2, .ref 64], (q_kM s c n))) 6 (fun _ _ => rfl) ?_
        refine q_RP_bd fun r1236 er1236 => ?_
        refine q_RP_call (v := none) (h2 := (q_kM r1236 c n)) rfl rfl ((dzt_M215_64 s c n v2 ((s.1 14) 2) r1236 er1236).le (Nat.le_of_ble_eq_true rfl)) ?_
        show q_RP _ _ _ (139, [(4, .int ((v3 + 1) &&& 255)), (0, .ref 64), (1, .int v1), (2, .int v2), (3, .int v3)], [], (q_kM r1236 c n)) _ _
        refine q_RP_seg (g2 := (209, [(4, .int ((v3 + 1) &&& 255)), (0, .ref 64), (1, .int v1), (2, .int v2), (3, .int v3)], [], (q_kM r1236 c n))) 1 (fun _ _ => rfl) ?_
        exact q_RP_ret rfl rfl rfl
      | false =>
        refine q_RP_cF ?_
        cases h1404 : decide (v1 = 17) with
        | true =>
          refine q_RP_cT ?_
          refine q_RP_st1 (g2 := (142, [(4, .int ((v3 + 1) &&& 255)), (0, .ref 64), (1, .int v1), (2, .int v2), (3, .int v3)], [], (q_kM s c n))) rfl (by rw [of_decide_eq_true h1404]; rfl) ?_
          refine q_RP_seg (g2 := (150, [(4, .int ((v3 + 1) &&& 255)), (0, .ref 64), (1, .int v1), (2, .int v2), (3, .int v3)], [.int ((s.1 14) 0), .int v2, .ref 64], (q_kM s c n))) 6 (fun _ _ => rfl) ?_
          refine q_RP_seg (g2 := (156, [(4, .int ((v3 + 1) &&& 255)), (0, .ref 64), (1, .int v1), (2, .int v2), (3, .int v3)], [.int ((s.1 14) 1), .int ((s.1 14) 0), .int v2, .ref 64], (q_kM s c n))) 4 (fun _ _ => rfl) ?_
          refine q_RP_seg (g2 := (157, [(4, .int ((v3 + 1) &&& 255)), (0, .ref 64), (1, .int v1), (2, .int v2), (3, .int v3)], [.int (((s.1 14) 0) &&& ((s.1 14) 1)), .int v2, .ref 64], (q_kM s c n))) 1 (fun _ _ => rfl) ?_
          refine q_RP_bd fun r1237 er1237 => ?_
          refine q_RP_call (v := none) (h2 := (q_kM r1237 c n)) rfl rfl ((dzt_M215_64 s c n v2 (((s.1 14) 0) &&& ((s.1 14) 1)) r1237 er1237).le (Nat.le_of_ble_eq_true rfl)) ?_
          show q_RP _ _ _ (160, [(4, .int ((v3 + 1) &&& 255)), (0, .ref 64), (1, .int v1), (2, .int v2), (3, .int v3)], [], (q_kM r1237 c n)) _ _
          refine q_RP_seg (g2 := (209, [(4, .int ((v3 + 1) &&& 255)), (0, .ref 64), (1, .int v1), (2, .int v2), (3, .int v3)], [], (q_kM r1237 c n))) 1 (fun _ _ => rfl) ?_
          exact q_RP_ret rfl rfl rfl
        | false =>
          refine q_RP_cF ?_
          refine q_RP_st1 (g2 := (163, [(4, .int ((v3 + 1) &&& 255)), (0, .ref 64), (1, .int v1), (2, .int v2), (3, .int v3)], [], (q_kM s c n))) rfl (by unfold q_lsw; dsimp only; rw [Op.lookupswitch.offset_cons, if_neg (q_neJ h1401 (n := 3)), Op.lookupswitch.offset_cons, if_neg (q_neJ h1402 (n := 4)), Op.lookupswitch.offset_cons, if_neg (q_neJ h1403 (n := 5)), Op.lookupswitch.offset_cons, if_neg (q_neJ h1404 (n := 17))]; rfl) ?_
          refine q_RP_seg (g2 := (167, [(4, .int ((v3 + 1) &&& 255)), (0, .ref 64), (1, .int v1), (2, .int v2), (3, .int v3)], [.int ((v3 + 1) &&& 255), .int v2, .ref 64], (q_kM s c n))) 3 (fun _ _ => rfl) ?_
          refine q_RP_bd fun r1238 er1238 => ?_
          refine q_RP_call (v := none) (h2 := (q_kM r1238 c n)) rfl rfl ((dzt_M215_64 s c n v2 ((v3 + 1) &&& 255) r1238 er1238).le (Nat.le_of_ble_eq_true rfl)) ?_
          show q_RP _ _ _ (170, [(4, .int ((v3 + 1) &&& 255)), (0, .ref 64), (1, .int v1), (2, .int v2), (3, .int v3)], [], (q_kM r1238 c n)) _ _
          refine q_RP_seg (g2 := (173, [(4, .int ((v3 + 1) &&& 255)), (0, .ref 64), (1, .int v1), (2, .int v2), (3, .int v3)], [.int 18, .int v1], (q_kM r1238 c n))) 2 (fun _ _ => rfl) ?_
          cases h1405 : decide (v1 = 18) with
          | true =>
            refine q_RP_cT ?_
            refine q_RP_rsF (g2 := (176, [(4, .int ((v3 + 1) &&& 255)), (0, .ref 64), (1, .int v1), (2, .int v2), (3, .int v3)], [], (q_kM r1238 c n))) rfl rfl (q_d_neT h1405) ?_
            refine q_RP_seg (g2 := (180, [(4, .int ((v3 + 1) &&& 255)), (0, .ref 64), (1, .int v1), (2, .int v2), (3, .int v3)], [.int ((v3 + 1) &&& 255), .int 0, .ref 64], (q_kM r1238 c n))) 3 (fun _ _ => rfl) ?_
            refine q_RP_bd fun r1241 er1241 => ?_
            refine q_RP_call (v := none) (h2 := (q_kM r1241 c n)) rfl rfl ((dzt_M263_64 r1238 c n 0 ((v3 + 1) &&& 255) r1241 er1241).le (Nat.le_of_ble_eq_true rfl)) ?_
            show q_RP _ _ _ (183, [(4, .int ((v3 + 1) &&& 255)), (0, .ref 64), (1, .int v1), (2, .int v2), (3, .int v3)], [], (q_kM r1241 c n)) _ _
            refine q_RP_seg (g2 := (209, [(4, .int ((v3 + 1) &&& 255)), (0, .ref 64), (1, .int v1), (2, .int v2), (3, .int v3)], [], (q_kM r1241 c n))) 1 (fun _ _ => rfl) ?_
            exact q_RP_ret rfl rfl rfl
          | false =>
            refine q_RP_cF ?_
            refine q_RP_rsT (g2 := (186, [(4, .int ((v3 + 1) &&& 255)), (0, .ref 64), (1, .int v1), (2, .int v2), (3, .int v3)], [], (q_kM r1238 c n))) rfl rfl (q_d_neF h1405) ?_
            refine q_RP_seg (g2 := (189, [(4, .int ((v3 + 1) &&& 255)), (0, .ref 64), (1, .int v1), (2, .int v2), (3, .int v3)], [.int 19, .int v1], (q_kM r1238 c n))) 2 (fun _ _ => rfl) ?_
            cases h1408 : decide (v1 = 19) with
            | true =>
              refine q_RP_cT ?_
              refine q_RP_rsF (g2 := (192, [(4, .int ((v3 + 1) &&& 255)), (0, .ref 64), (1, .int v1), (2, .int v2), (3, .int v3)], [], (q_kM r1238 c n))) rfl rfl (q_d_neT h1408) ?_
              refine q_RP_seg (g2 := (196, [(4, .int ((v3 + 1) &&& 255)), (0, .ref 64), (1, .int v1), (2, .int v2), (3, .int v3)], [.int ((v3 + 1) &&& 255), .int 0, .ref 64], (q_kM r1238 c n))) 3 (fun _ _ => rfl) ?_
              refine q_RP_bd fun r1255 er1255 => ?_
              refine q_RP_call (v := none) (h2 := (q_kM r1255 c n)) rfl rfl ((dzt_M267_64_f r1238 c n ((v3 + 1) &&& 255) r1255 er1255).le (Nat.le_of_ble_eq_true rfl)) ?_
              show q_RP _ _ _ (199, [(4, .int ((v3 + 1) &&& 255)), (0, .ref 64), (1, .int v1), (2, .int v2), (3, .int v3)], [], (q_kM r1255 c n)) _ _
              refine q_RP_seg (g2 := (209, [(4, .int ((v3 + 1) &&& 255)), (0, .ref 64), (1, .int v1), (2, .int v2), (3, .int v3)], [], (q_kM r1255 c n))) 1 (fun _ _ => rfl) ?_
              exact q_RP_ret rfl rfl rfl
            | false =>
              refine q_RP_cF ?_
              refine q_RP_rsT (g2 := (202, [(4, .int ((v3 + 1) &&& 255)), (0, .ref 64), (1, .int v1), (2, .int v2), (3, .int v3)], [], (q_kM r1238 c n))) rfl rfl (q_d_neF h1408) ?_
              refine q_RP_seg (g2 := (205, [(4, .int ((v3 + 1) &&& 255)), (0, .ref 64), (1, .int v1), (2, .int v2), (3, .int v3)], [.int ((v3 + 1) &&& 255), .ref 64], (q_kM r1238 c n))) 2 (fun _ _ => rfl) ?_
              refine q_RP_call (v := (some (.int (dz_M261_64 r1238 ((v3 + 1) &&& 255)).2))) (h2 := (q_kM (dz_M261_64 r1238 ((v3 + 1) &&& 255)).1 c n)) rfl rfl ((dzt_M261_64 r1238 c n ((v3 + 1) &&& 255)).le (Nat.le_of_ble_eq_true rfl)) ?_
              generalize dz_M261_64 r1238 ((v3 + 1) &&& 255) = r1256
              refine q_RP_let ?_
              show q_RP _ _ _ (208, [(4, .int ((v3 + 1) &&& 255)), (0, .ref 64), (1, .int v1), (2, .int v2), (3, .int v3)], [.int r1256.2], (q_kM r1256.1 c n)) _ _
              refine q_RP_seg (g2 := (209, [(4, .int ((v3 + 1) &&& 255)), (0, .ref 64), (1, .int v1), (2, .int v2), (3, .int v3)], [], (q_kM r1256.1 c n))) 1 (fun _ _ => rfl) ?_
              exact q_RP_ret rfl rfl rfl
def dz_M270_64 (s : q_S) (a1 : Int32) (a2 : Int32) : Option (q_S) :=
  cond (decide (a1 < 14)) (cond (decide (a1 = 14)) (dz_M270_64_38 s a1 a2 0) (cond (decide (a1 = 19)) (dz_M270_64_38 s a1 a2 0) (cond (decide (a1 = 3)) ((dz_M215_64 s a2 ((s.1 14) 0)).bind fun r1257 => some r1257) (cond (decide (a1 = 4)) ((dz_M215_64 s a2 ((s.1 14) 1)).bind fun r1258 => some r1258) (cond (decide (a1 = 5)) ((dz_M215_64 s a2 ((s.1 14) 2)).bind fun r1259 => some r1259) (cond (decide (a1 = 17)) ((dz_M215_64 s a2 (((s.1 14) 0) &&& ((s.1 14) 1))).bind fun r1260 => some r1260) ((dz_M215_64 s a2 255).bind fun r1261 => cond (decide (a1 = 18)) ((dz_M263_64 r1261 0 255).bind fun r1262 => some r1262) (q_let (dz_M261_64 r1261 255) fun r1263 => some r1263.1)))))))) (cond (decide (a1 = 17)) (cond (decide (a1 = 14)) (dz_M270_64_38 s a1 a2 0) (cond (decide (a1 = 19)) (dz_M270_64_38 s a1 a2 0) ((dz_M215_64 s a2 (((s.1 14) 0) &&& ((s.1 14) 1))).bind fun r1264 => some r1264))) ((dz_M268_64 s a2).bind fun r1268 => cond (decide (a1 = 14)) (dz_M270_64_38 r1268.1 a1 a2 r1268.2) (cond (decide (a1 = 19)) (dz_M270_64_38 r1268.1 a1 a2 r1268.2) (cond (decide (a1 = 3)) ((dz_M215_64 r1268.1 a2 ((r1268.1.1 14) 0)).bind fun r1269 => some r1269) (cond (decide (a1 = 4)) ((dz_M215_64 r1268.1 a2 ((r1268.1.1 14) 1)).bind fun r1270 => some r1270) (cond (decide (a1 = 5)) ((dz_M215_64 r1268.1 a2 ((r1268.1.1 14) 2)).bind fun r1271 => some r1271) ((dz_M215_64 r1268.1 a2 ((r1268.2 - 1) &&& 255)).bind fun r1272 => cond (decide (a1 = 18)) ((dz_M263_64 r1272 0 ((r1268.2 - 1) &&& 255)).bind fun r1273 => some r1273) (q_let (dz_M261_64 r1272 ((r1268.2 - 1) &&& 255)) fun r1274 => some r1274.1))))))))
set_option maxHeartbeats 4000000 in
theorem dzt_M270_64 (s : q_S) (c n : Nat) (a1 : Int32) (a2 : Int32) (x : q_S) (h : dz_M270_64 s a1 a2 = some x) : q_Ca q_TB0 6 269 [.ref 64, .int a1, .int a2] (q_kM s c n) ((q_oSM c n) x) := by
  refine q_CaP_of (φ := (q_oSM c n)) (Nat.le_of_ble_eq_true rfl) ?_ h
  clear h
  unfold dz_M270_64
  refine q_RP_seg (g2 := (3, [(0, .ref 64), (1, .int a1), (2, .int a2)], [.int 14, .int a1], (q_kM s c n))) 2 (fun _ _ => rfl) ?_
  cases h1399 : decide (a1 < 14) with
  | true =>
    refine q_RP_cT ?_
    refine q_RP_rsF (g2 := (6, [(0, .ref 64), (1, .int a1), (2, .int a2)], [], (q_kM s c n))) rfl rfl (q_d_geT h1399) ?_
    refine q_RP_seg (g2 := (29, [(3, .int 0), (0, .ref 64), (1, .int a1), (2, .int a2)], [.int 14, .int a1], (q_kM s c n))) 5 (fun _ _ => rfl) ?_
    cases h1400 : decide (a1 = 14) with
    | true =>
      refine q_RP_cT ?_
      refine q_RP_rsT (g2 := (38, [(3, .int 0), (0, .ref 64), (1, .int a1), (2, .int a2)], [], (q_kM s c n))) rfl rfl h1400 ?_
      exact q_RP_xt (q_xt_mk (q_mn1 1 rfl (q_mn1 2 rfl (q_mn1 3 rfl (q_mn1 0 rfl q_mn0)))) rfl) (dzt_M270_64_38 c n s a1 a2 0)
    | false =>
      refine q_RP_cF ?_
      refine q_RP_rsF (g2 := (32, [(3, .int 0), (0, .ref 64), (1, .int a1), (2, .int a2)], [], (q_kM s c n))) rfl rfl h1400 ?_
      refine q_RP_seg (g2 := (35, [(3, .int 0), (0, .ref 64), (1, .int a1), (2, .int a2)], [.int 19, .int a1], (q_kM s c n))) 2 (fun _ _ => rfl) ?_
      cases h1417 : decide (a1 = 19) with
      | true =>
        refine q_RP_cT ?_
        refine q_RP_rsF (g2 := (38, [(3, .int 0), (0, .ref 64), (1, .int a1), (2, .int a2)], [], (q_kM s c n))) rfl rfl (q_d_neT h1417) ?_
        exact q_RP_xt (q_xt_mk (q_mn1 1 rfl (q_mn1 2 rfl (q_mn1 3 rfl (q_mn1 0 rfl q_mn0)))) rfl) (dzt_M270_64_38 c n s a1 a2 0)
      | false =>
        refine q_RP_cF ?_
        refine q_RP_rsT (g2 := (48, [(3, .int 0), (0, .ref 64), (1, .int a1), (2, .int a2)], [], (q_kM s c n))) rfl rfl (q_d_neF h1417) ?_
        refine q_RP_seg (g2 := (58, [(4, .int 255), (3, .int 0), (0, .ref 64), (1, .int a1), (2, .int a2)], [.int a1], (q_kM s c n))) 7 (fun _ _ => rfl) ?_
        cases h1418 : decide (a1 = 3) with
        | true =>
          refine q_RP_cT ?_
          refine q_RP_st1 (g2 := (100, [(4, .int 255), (3, .int 0), (0, .ref 64), (1, .int a1), (2, .int a2)], [], (q_kM s c n))) rfl (by rw [of_decide_eq_true h1418]; rfl) ?_
          refine q_RP_seg (g2 := (108, [(4, .int 255), (3, .int 0), (0, .ref 64), (1, .int a1), (2, .int a2)], [.int ((s.1 14) 0), .int a2, .ref 64], (q_kM s c n))) 6 (fun _ _ => rfl) ?_
          refine q_RP_bd fun r1257 er1257 => ?_
          refine q_RP_call (v := none) (h2 := (q_kM r1257 c n)) rfl rfl ((dzt_M215_64 s c n a2 ((s.1 14) 0) r1257 er1257).le (Nat.le_of_ble_eq_true rfl)) ?_
          show q_RP _ _ _ (111, [(4, .int 255), (3, .int 0), (0, .ref 64), (1, .int a1), (2, .int a2)], [], (q_kM r1257 c n)) _ _
          refine q_RP_seg (g2 := (209, [(4, .int 255), (3, .int 0), (0, .ref 64), (1, .int a1), (2, .int a2)], [], (q_kM r1257 c n))) 1 (fun _ _ => rfl) ?_
          exact q_RP_ret rfl rfl rfl
        | false =>
          refine q_RP_cF ?_
          cases h1419 : decide (a1 = 4) with
          | true =>
            refine q_RP_cT ?_
            refine q_RP_st1 (g2 := (114, [(4, .int 255), (3, .int 0), (0, .ref 64), (1, .int a1), (2, .int a2)], [], (q_kM s c n))) rfl (by rw [of_decide_eq_true h1419]; rfl) ?_
            refine q_RP_seg (g2 := (122, [(4, .int 255), (3, .int 0), (0, .ref 64), (1, .int a1), (2, .int a2)], [.int ((s.1 14) 1), .int a2, .ref 64], (q_kM s c n))) 6 (fun _ _ => rfl) ?_
            refine q_RP_bd fun r1258 er1258 => ?_
            refine q_RP_call (v := none) (h2 := (q_kM r1258 c n)) rfl rfl ((dzt_M215_64 s c n a2 ((s.1 14) 1) r1258 er1258).le (Nat.le_of_ble_eq_true rfl)) ?_
            show q_RP _ _ _ (125, [(4, .int 255), (3, .int 0), (0, .ref 64), (1, .int a1), (2, .int a2)], [], (q_kM r1258 c n)) _ _
            refine q_RP_seg (g2 := (209, [(4, .int 255), (3, .int 0), (0, .ref 64), (1, .int a1), (2, .int a2)], [], (q_kM r1258 c n))) 1 (fun _ _ => rfl) ?_
            exact q_RP_ret rfl rfl rfl
          | false =>
            refine q_RP_cF ?_
            cases h1420 : decide (a1 = 5) with
            | true =>
              refine q_RP_cT ?_
              refine q_RP_st1 (g2 := (128, [(4, .int 255), (3, .int 0), (0, .ref 64), (1, .int a1), (2, .int a2)], [], (q_kM s c n))) rfl (by rw [of_decide_eq_true h1420]; rfl) ?_
              refine q_RP_seg (g2 := (136, [(4, .int 255), (3, .int 0), (0, .ref 64), (1, .int a1), (2, .int a2)], [.int ((s.1 14) 2), .int a2, .ref 64], (q_kM s c n))) 6 (fun _ _ => rfl) ?_
              refine q_RP_bd fun r1259 er1259 => ?_
              refine q_RP_call (v := none) (h2 := (q_kM r1259 c n)) rfl rfl ((dzt_M215_64 s c n a2 ((s.1 14) 2) r1259 er1259).le (Nat.le_of_ble_eq_true rfl)) ?_
              show q_RP _ _ _ (139, [(4, .int 255), (3, .int 0), (0, .ref 64), (1, .int a1), (2, .int a2)], [], (q_kM r1259 c n)) _ _
              refine q_RP_seg (g2 := (209, [(4, .int 255), (3, .int 0), (0, .ref 64), (1, .int a1), (2, .int a2)], [], (q_kM r1259 c n))) 1 (fun _ _ => rfl) ?_
              exact q_RP_ret rfl rfl rfl
            | false =>
              refine q_RP_cF ?_
              cases h1421 : decide (a1 = 17) with
              | true =>
                refine q_RP_cT ?_
                refine q_RP_st1 (g2 := (142, [(4, .int 255), (3, .int 0), (0, .ref 64), (1, .int a1), (2, .int a2)], [], (q_kM s c n))) rfl (by rw [of_decide_eq_true h1421]; rfl) ?_
                refine q_RP_seg (g2 := (150, [(4, .int 255), (3, .int 0), (0, .ref 64), (1, .int a1), (2, .int a2)], [.int ((s.1 14) 0), .int a2, .ref 64], (q_kM s c n))) 6 (fun _ _ => rfl) ?_
                refine q_RP_seg (g2 := (156, [(4, .int 255), (3, .int 0), (0, .ref 64), (1, .int a1), (2, .int a2)], [.int ((s.1 14) 1), .int ((s.1 14) 0), .int a2, .ref 64], (q_kM s c n))) 4 (fun _ _ => rfl) ?_
                refine q_RP_seg (g2 := (157, [(4, .int 255), (3, .int 0), (0, .ref 64), (1, .int a1), (2, .int a2)], [.int (((s.1 14) 0) &&& ((s.1 14) 1)), .int a2, .ref 64], (q_kM s c n))) 1 (fun _ _ => rfl) ?_
                refine q_RP_bd fun r1260 er1260 => ?_
                refine q_RP_call (v := none) (h2 := (q_kM r1260 c n)) rfl rfl ((dzt_M215_64 s c n a2 (((s.1 14) 0) &&& ((s.1 14) 1)) r1260 er1260).le (Nat.le_of_ble_eq_true rfl)) ?_
                show q_RP _ _ _ (160, [(4, .int 255), (3, .int 0), (0, .ref 64), (1, .int a1), (2, .int a2)], [], (q_kM r1260 c n)) _ _
                refine q_RP_seg (g2 := (209, [(4, .int 255), (3, .int 0), (0, .ref 64), (1, .int a1), (2, .int a2)], [], (q_kM r1260 c n))) 1 (fun _ _ => rfl) ?_
                exact q_RP_ret rfl rfl rfl
              | false =>
                refine q_RP_cF ?_
                refine q_RP_st1 (g2 := (163, [(4, .int 255), (3, .int 0), (0, .ref 64), (1, .int a1), (2, .int a2)], [], (q_kM s c n))) rfl (by unfold q_lsw; dsimp only; rw [Op.lookupswitch.offset_cons, if_neg (q_neJ h1418 (n := 3)), Op.lookupswitch.offset_cons, if_neg (q_neJ h1419 (n := 4)), Op.lookupswitch.offset_cons, if_neg (q_neJ h1420 (n := 5)), Op.lookupswitch.offset_cons, if_neg (q_neJ h1421 (n := 17))]; rfl) ?_
                refine q_RP_seg (g2 := (167, [(4, .int 255), (3, .int 0), (0, .ref 64), (1, .int a1), (2, .int a2)], [.int 255, .int a2, .ref 64], (q_kM s c n))) 3 (fun _ _ => rfl) ?_
                refine q_RP_bd fun r1261 er1261 => ?_
                refine q_RP_call (v := none) (h2 := (q_kM r1261 c n)) rfl rfl ((dzt_M215_64 s c n a2 255 r1261 er1261).le (Nat.le_of_ble_eq_true rfl)) ?_
                show q_RP _ _ _ (170, [(4, .int 255), (3, .int 0), (0, .ref 64), (1, .int a1), (2, .int a2)], [], (q_kM r1261 c n)) _ _
                refine q_RP_seg (g2 := (173, [(4, .int 255), (3, .int 0), (0, .ref 64), (1, .int a1), (2, .int a2)], [.int 18, .int a1], (q_kM r1261 c n))) 2 (fun _ _ => rfl) ?_
                cases h1422 : decide (a1 = 18) with
                | true =>
                  refine q_RP_cT ?_
                  refine q_RP_rsF (g2 := (176, [(4, .int 255), (3, .int 0), (0, .ref 64), (1, .int a1), (2, .int a2)], [], (q_kM r1261 c n))) rfl rfl (q_d_neT h1422) ?_
                  refine q_RP_seg (g2 := (180, [(4, .int 255), (3, .int 0), (0, .ref 64), (1, .int a1), (2, .int a2)], [.int 255, .int 0, .ref 64], (q_kM r1261 c n))) 3 (fun _ _ => rfl) ?_
                  refine q_RP_bd fun r1262 er1262 => ?_
                  refine q_RP_call (v := none) (h2 := (q_kM r1262 c n)) rfl rfl ((dzt_M263_64 r1261 c n 0 255 r1262 er1262).le (Nat.le_of_ble_eq_true rfl)) ?_
                  show q_RP _ _ _ (183, [(4, .int 255), (3, .int 0), (0, .ref 64), (1, .int a1), (2, .int a2)], [], (q_kM r1262 c n)) _ _
                  refine q_RP_seg (g2 := (209, [(4, .int 255), (3, .int 0), (0, .ref 64), (1, .int a1), (2, .int a2)], [], (q_kM r1262 c n))) 1 (fun _ _ => rfl) ?_
                  exact q_RP_ret rfl rfl rfl
                | false =>
                  refine q_RP_cF ?_
                  refine q_RP_rsT (g2 := (186, [(4, .int 255), (3, .int 0), (0, .ref 64), (1, .int a1), (2, .int a2)], [], (q_kM r1261 c n))) rfl rfl (q_d_neF h1422) ?_
                  refine q_RP_seg (g2 := (189, [(4, .int 255), (3, .int 0), (0, .ref 64), (1, .int a1), (2, .int a2)], [.int 19, .int a1], (q_kM r1261 c n))) 2 (fun _ _ => rfl) ?_
                  refine q_RP_rsT (g2 := (202, [(4, .int 255), (3, .int 0), (0, .ref 64), (1, .int a1), (2, .int a2)], [], (q_kM r1261 c n))) rfl rfl (q_d_neF h1417) ?_
                  refine q_RP_seg (g2 := (205, [(4, .int 255), (3, .int 0), (0, .ref 64), (1, .int a1), (2, .int a2)], [.int 255, .ref 64], (q_kM r1261 c n))) 2 (fun _ _ => rfl) ?_
                  refine q_RP_call (v := (some (.int (dz_M261_64 r1261 255).2))) (h2 := (q_kM (dz_M261_64 r1261 255).1 c n)) rfl rfl ((dzt_M261_64 r1261 c n 255).le (Nat.le_of_ble_eq_true rfl)) ?_
                  generalize dz_M261_64 r1261 255 = r1263
                  refine q_RP_let ?_
                  show q_RP _ _ _ (208, [(4, .int 255), (3, .int 0), (0, .ref 64), (1, .int a1), (2, .int a2)], [.int r1263.2], (q_kM r1263.1 c n)) _ _
                  refine q_RP_seg (g2 := (209, [(4, .int 255), (3, .int 0), (0, .ref 64), (1, .int a1), (2, .int a2)], [], (q_kM r1263.1 c n))) 1 (fun _ _ => rfl) ?_
                  exact q_RP_ret rfl rfl rfl
  | false =>
    refine q_RP_cF ?_
    refine q_RP_rsT (g2 := (10, [(0, .ref 64), (1, .int a1), (2, .int a2)], [], (q_kM s c n))) rfl rfl (q_d_geF h1399) ?_
    refine q_RP_seg (g2 := (13, [(0, .ref 64), (1, .int a1), (2, .int a2)], [.int 17, .int a1], (q_kM s c n))) 2 (fun _ _ => rfl) ?_
    cases h1423 : decide (a1 = 17) with
    | true =>
      refine q_RP_cT ?_
      refine q_RP_rsF (g2 := (16, [(0, .ref 64), (1, .int a1), (2, .int a2)], [], (q_kM s c n))) rfl rfl (q_d_neT h1423) ?_
      refine q_RP_seg (g2 := (29, [(3, .int 0), (0, .ref 64), (1, .int a1), (2, .int a2)], [.int 14, .int a1], (q_kM s c n))) 5 (fun _ _ => rfl) ?_
      cases h1424 : decide (a1 = 14) with
      | true =>
        refine q_RP_cT ?_
        refine q_RP_rsT (g2 := (38, [(3, .int 0), (0, .ref 64), (1, .int a1), (2, .int a2)], [], (q_kM s c n))) rfl rfl h1424 ?_
        exact q_RP_xt (q_xt_mk (q_mn1 1 rfl (q_mn1 2 rfl (q_mn1 3 rfl (q_mn1 0 rfl q_mn0)))) rfl) (dzt_M270_64_38 c n s a1 a2 0)
      | false =>
        refine q_RP_cF ?_
        refine q_RP_rsF (g2 := (32, [(3, .int 0), (0, .ref 64), (1, .int a1), (2, .int a2)], [], (q_kM s c n))) rfl rfl h1424 ?_
        refine q_RP_seg (g2 := (35, [(3, .int 0), (0, .ref 64), (1, .int a1), (2, .int a2)], [.int 19, .int a1], (q_kM s c n))) 2 (fun _ _ => rfl) ?_
        cases h1425 : decide (a1 = 19) with
        | true =>
          refine q_RP_cT ?_
          refine q_RP_rsF (g2 := (38, [(3, .int 0), (0, .ref 64), (1, .int a1), (2, .int a2)], [], (q_kM s c n))) rfl rfl (q_d_neT h1425) ?_
          exact q_RP_xt (q_xt_mk (q_mn1 1 rfl (q_mn1 2 rfl (q_mn1 3 rfl (q_mn1 0 rfl q_mn0)))) rfl) (dzt_M270_64_38 c n s a1 a2 0)
        | false =>
          refine q_RP_cF ?_
          refine q_RP_rsT (g2 := (48, [(3, .int 0), (0, .ref 64), (1, .int a1), (2, .int a2)], [], (q_kM s c n))) rfl rfl (q_d_neF h1425) ?_
          refine q_RP_seg (g2 := (58, [(4, .int 255), (3, .int 0), (0, .ref 64), (1, .int a1), (2, .int a2)], [.int a1], (q_kM s c n))) 7 (fun _ _ => rfl) ?_
          refine q_RP_st1 (g2 := (142, [(4, .int 255), (3, .int 0), (0, .ref 64), (1, .int a1), (2, .int a2)], [], (q_kM s c n))) rfl (by rw [of_decide_eq_true h1423]; rfl) ?_
          refine q_RP_seg (g2 := (150, [(4, .int 255), (3, .int 0), (0, .ref 64), (1, .int a1), (2, .int a2)], [.int ((s.1 14) 0), .int a2, .ref 64], (q_kM s c n))) 6 (fun _ _ => rfl) ?_
          refine q_RP_seg (g2 := (156, [(4, .int 255), (3, .int 0), (0, .ref 64), (1, .int a1), (2, .int a2)], [.int ((s.1 14) 1), .int ((s.1 14) 0), .int a2, .ref 64], (q_kM s c n))) 4 (fun _ _ => rfl) ?_
          refine q_RP_seg (g2 := (157, [(4, .int 255), (3, .int 0), (0, .ref 64), (1, .int a1), (2, .int a2)], [.int (((s.1 14) 0) &&& ((s.1 14) 1)), .int a2, .ref 64], (q_kM s c n))) 1 (fun _ _ => rfl) ?_
          refine q_RP_bd fun r1264 er1264 => ?_
          refine q_RP_call (v := none) (h2 := (q_kM r1264 c n)) rfl rfl ((dzt_M215_64 s c n a2 (((s.1 14) 0) &&& ((s.1 14) 1)) r1264 er1264).le (Nat.le_of_ble_eq_true rfl)) ?_
          show q_RP _ _ _ (160, [(4, .int 255), (3, .int 0), (0, .ref 64), (1, .int a1), (2, .int a2)], [], (q_kM r1264 c n)) _ _
          refine q_RP_seg (g2 := (209, [(4, .int 255), (3, .int 0), (0, .ref 64), (1, .int a1), (2, .int a2)], [], (q_kM r1264 c n))) 1 (fun _ _ => rfl) ?_
          exact q_RP_ret rfl rfl rfl
    | false =>
      refine q_RP_cF ?_
      refine q_RP_rsT (g2 := (20, [(0, .ref 64), (1, .int a1), (2, .int a2)], [], (q_kM s c n))) rfl rfl (q_d_neF h1423) ?_
      refine q_RP_seg (g2 := (22, [(0, .ref 64), (1, .int a1), (2, .int a2)], [.int a2, .ref 64], (q_kM s c n))) 2 (fun _ _ => rfl) ?_
      refine q_RP_bd fun r1268 er1268 => ?_
      refine q_RP_call (v := (some (.int r1268.2))) (h2 := (q_kM r1268.1 c n)) rfl rfl ((dzt_M268_64 s c n a2 r1268 er1268).le (Nat.le_of_ble_eq_true rfl)) ?_
      show q_RP _ _ _ (25, [(0, .ref 64), (1, .int a1), (2, .int a2)], [.int r1268.2], (q_kM r1268.1 c n)) _ _
      refine q_RP_seg (g2 := (29, [(3, .int r1268.2), (0, .ref 64), (1, .int a1), (2, .int a2)], [.int 14, .int a1], (q_kM r1268.1 c n))) 3 (fun _ _ => rfl) ?_
      cases h1429 : decide (a1 = 14) with
      | true =>
        refine q_RP_cT ?_
        refine q_RP_rsT (g2 := (38, [(3, .int r1268.2), (0, .ref 64), (1, .int a1), (2, .int a2)], [], (q_kM r1268.1 c n))) rfl rfl h1429 ?_
        exact q_RP_xt (q_xt_mk (q_mn1 1 rfl (q_mn1 2 rfl (q_mn1 3 rfl (q_mn1 0 rfl q_mn0)))) rfl) (dzt_M270_64_38 c n r1268.1 a1 a2 r1268.2)
      | false =>
        refine q_RP_cF ?_
        refine q_RP_rsF (g2 := (32, [(3, .int r1268.2), (0, .ref 64), (1, .int a1), (2, .int a2)], [], (q_kM r1268.1 c n))) rfl rfl h1429 ?_
        refine q_RP_seg (g2 := (35, [(3, .int r1268.2), (0, .ref 64), (1, .int a1), (2, .int a2)], [.int 19, .int a1], (q_kM r1268.1 c n))) 2 (fun _ _ => rfl) ?_
        cases h1430 : decide (a1 = 19) with
        | true =>
          refine q_RP_cT ?_
          refine q_RP_rsF (g2 := (38, [(3, .int r1268.2), (0, .ref 64), (1, .int a1), (2, .int a2)], [], (q_kM r1268.1 c n))) rfl rfl (q_d_neT h1430) ?_
          exact q_RP_xt (q_xt_mk (q_mn1 1 rfl (q_mn1 2 rfl (q_mn1 3 rfl (q_mn1 0 rfl q_mn0)))) rfl) (dzt_M270_64_38 c n r1268.1 a1 a2 r1268.2)
        | false =>
          refine q_RP_cF ?_
          refine q_RP_rsT (g2 := (48, [(3, .int r1268.2), (0, .ref 64), (1, .int a1), (2, .int a2)], [], (q_kM r1268.1 c n))) rfl rfl (q_d_neF h1430) ?_
          refine q_RP_seg (g2 := (58, [(4, .int ((r1268.2 - 1) &&& 255)), (3, .int r1268.2), (0, .ref 64), (1, .int a1), (2, .int a2)], [.int a1], (q_kM r1268.1 c n))) 7 (fun _ _ => rfl) ?_
          cases h1431 : decide (a1 = 3) with
          | true =>
            refine q_RP_cT ?_
            refine q_RP_st1 (g2 := (100, [(4, .int ((r1268.2 - 1) &&& 255)), (3, .int r1268.2), (0, .ref 64), (1, .int a1), (2, .int a2)], [], (q_kM r1268.1 c n))) rfl (by rw [of_decide_eq_true h1431]; rfl) ?_
            refine q_RP_seg (g2 := (108, [(4, .int ((r1268.2 - 1) &&& 255)), (3, .int r1268.2), (0, .ref 64), (1, .int a1), (2, .int a2)], [.int ((r1268.1.1 14) 0), .int a2, .ref 64], (q_kM r1268.1 c n))) 6 (fun _ _ => rfl) ?_
            refine q_RP_bd fun r1269 er1269 => ?_
            refine q_RP_call (v := none) (h2 := (q_kM r1269 c n)) rfl rfl ((dzt_M215_64 r1268.1 c n a2 ((r1268.1.1 14) 0) r1269 er1269).le (Nat.le_of_ble_eq_true rfl)) ?_
            show q_RP _ _ _ (111, [(4, .int ((r1268.2 - 1) &&& 255)), (3, .int r1268.2), (0, .ref 64), (1, .int a1), (2, .int a2)], [], (q_kM r1269 c n)) _ _
            refine q_RP_seg (g2 := (209, [(4, .int ((r1268.2 - 1) &&& 255)), (3, .int r1268.2), (0, .ref 64), (1, .int a1), (2, .int a2)], [], (q_kM r1269 c n))) 1 (fun _ _ => rfl) ?_
            exact q_RP_ret rfl rfl rfl
          | false =>
            refine q_RP_cF ?_
            cases h1432 : decide (a1 = 4) with
            | true =>
              refine q_RP_cT ?_
              refine q_RP_st1 (g2 := (114, [(4, .int ((r1268.2 - 1) &&& 255)), (3, .int r1268.2), (0, .ref 64), (1, .int a1), (2, .int a2)], [], (q_kM r1268.1 c n))) rfl (by rw [of_decide_eq_true h1432]; rfl) ?_
              refine q_RP_seg (g2 := (122, [(4, .int ((r1268.2 - 1) &&& 255)), (3, .int r1268.2), (0, .ref 64), (1, .int a1), (2, .int a2)], [.int ((r1268.1.1 14) 1), .int a2, .ref 64], (q_kM r1268.1 c n))) 6 (fun _ _ => rfl) ?_
              refine q_RP_bd fun r1270 er1270 => ?_
              refine q_RP_call (v := none) (h2 := (q_kM r1270 c n)) rfl rfl ((dzt_M215_64 r1268.1 c n a2 ((r1268.1.1 14) 1) r1270 er1270).le (Nat.le_of_ble_eq_true rfl)) ?_
              show q_RP _ _ _ (125, [(4, .int ((r1268.2 - 1) &&& 255)), (3, .int r1268.2), (0, .ref 64), (1, .int a1), (2, .int a2)], [], (q_kM r1270 c n)) _ _
              refine q_RP_seg (g2 := (209, [(4, .int ((r1268.2 - 1) &&& 255)), (3, .int r1268.2), (0, .ref 64), (1, .int a1), (2, .int a2)], [], (q_kM r1270 c n))) 1 (fun _ _ => rfl) ?_
              exact q_RP_ret rfl rfl rfl
            | false =>
              refine q_RP_cF ?_
              cases h1433 : decide (a1 = 5) with
              | true =>
                refine q_RP_cT ?_
                refine q_RP_st1 (g2 := (128, [(4, .int ((r1268.2 - 1) &&& 255)), (3, .int r1268.2), (0, .ref 64), (1, .int a1), (2, .int a2)], [], (q_kM r1268.1 c n))) rfl (by rw [of_decide_eq_true h1433]; rfl) ?_
                refine q_RP_seg (g2 := (136, [(4, .int ((r1268.2 - 1) &&& 255)), (3, .int r1268.2), (0, .ref 64), (1, .int a1), (2, .int a2)], [.int ((r1268.1.1 14) 2), .int a2, .ref 64], (q_kM r1268.1 c n))) 6 (fun _ _ => rfl) ?_
                refine q_RP_bd fun r1271 er1271 => ?_
                refine q_RP_call (v := none) (h2 := (q_kM r1271 c n)) rfl rfl ((dzt_M215_64 r1268.1 c n a2 ((r1268.1.1 14) 2) r1271 er1271).le (Nat.le_of_ble_eq_true rfl)) ?_
                show q_RP _ _ _ (139, [(4, .int ((r1268.2 - 1) &&& 255)), (3, .int r1268.2), (0, .ref 64), (1, .int a1), (2, .int a2)], [], (q_kM r1271 c n)) _ _
                refine q_RP_seg (g2 := (209, [(4, .int ((r1268.2 - 1) &&& 255)), (3, .int r1268.2), (0, .ref 64), (1, .int a1), (2, .int a2)], [], (q_kM r1271 c n))) 1 (fun _ _ => rfl) ?_
                exact q_RP_ret rfl rfl rfl
              | false =>
                refine q_RP_cF ?_
                refine q_RP_st1 (g2 := (163, [(4, .int ((r1268.2 - 1) &&& 255)), (3, .int r1268.2), (0, .ref 64), (1, .int a1), (2, .int a2)], [], (q_kM r1268.1 c n))) rfl (by unfold q_lsw; dsimp only; rw [Op.lookupswitch.offset_cons, if_neg (q_neJ h1431 (n := 3)), Op.lookupswitch.offset_cons, if_neg (q_neJ h1432 (n := 4)), Op.lookupswitch.offset_cons, if_neg (q_neJ h1433 (n := 5)), Op.lookupswitch.offset_cons, if_neg (q_neJ h1423 (n := 17))]; rfl) ?_
                refine q_RP_seg (g2 := (167, [(4, .int ((r1268.2 - 1) &&& 255)), (3, .int r1268.2), (0, .ref 64), (1, .int a1), (2, .int a2)], [.int ((r1268.2 - 1) &&& 255), .int a2, .ref 64], (q_kM r1268.1 c n))) 3 (fun _ _ => rfl) ?_
                refine q_RP_bd fun r1272 er1272 => ?_
                refine q_RP_call (v := none) (h2 := (q_kM r1272 c n)) rfl rfl ((dzt_M215_64 r1268.1 c n a2 ((r1268.2 - 1) &&& 255) r1272 er1272).le (Nat.le_of_ble_eq_true rfl)) ?_
                show q_RP _ _ _ (170, [(4, .int ((r1268.2 - 1) &&& 255)), (3, .int r1268.2), (0, .ref 64), (1, .int a1), (2, .int a2)], [], (q_kM r1272 c n)) _ _
                refine q_RP_seg (g2 := (173, [(4, .int ((r1268.2 - 1) &&& 255)), (3, .int r1268.2), (0, .ref 64), (1, .int a1), (2, .int a2)], [.int 18, .int a1], (q_kM r1272 c n))) 2 (fun _ _ => rfl) ?_
                cases h1434 : decide (a1 = 18) with
                | true =>
                  refine q_RP_cT ?_
                  refine q_RP_rsF (g2 := (176, [(4, .int ((r1268.2 - 1) &&& 255)), (3, .int r1268.2), (0, .ref 64), (1, .int a1), (2, .int a2)], [], (q_kM r1272 c n))) rfl rfl (q_d_neT h1434) ?_
                  refine q_RP_seg (g2 := (180, [(4, .int ((r1268.2 - 1) &&& 255)), (3, .int r1268.2), (0, .ref 64), (1, .int a1), (2, .int a2)], [.int ((r1268.2 - 1) &&& 255), .int 0, .ref 64], (q_kM r1272 c n))) 3 (fun _ _ => rfl) ?_
                  refine q_RP_bd fun r1273 er1273 => ?_
                  refine q_RP_call (v := none) (h2 := (q_kM r1273 c n)) rfl rfl ((dzt_M263_64 r1272 c n 0 ((r1268.2 - 1) &&& 255) r1273 er1273).le (Nat.le_of_ble_eq_true rfl)) ?_
                  show q_RP _ _ _ (183, [(4, .int ((r1268.2 - 1) &&& 255)), (3, .int r1268.2), (0, .ref 64), (1, .int a1), (2, .int a2)], [], (q_kM r1273 c n)) _ _
                  refine q_RP_seg (g2 := (209, [(4, .int ((r1268.2 - 1) &&& 255)), (3, .int r1268.2), (0, .ref 64), (1, .int a1), (2, .int a2)], [], (q_kM r1273 c n))) 1 (fun _ _ => rfl) ?_
                  exact q_RP_ret rfl rfl rfl
                | false =>
                  refine q_RP_cF ?_
                  refine q_RP_rsT (g2 := (186, [(4, .int ((r1268.2 - 1) &&& 255)), (3, .int r1268.2), (0, .ref 64), (1, .int a1), (2, .int a2)], [], (q_kM r1272 c n))) rfl rfl (q_d_neF h1434) ?_
                  refine q_RP_seg (g2 := (189, [(4, .int ((r1268.2 - 1) &&& 255)), (3, .int r1268.2), (0, .ref 64), (1, .int a1), (2, .int a2)], [.int 19, .int a1], (q_kM r1272 c n))) 2 (fun _ _ => rfl) ?_
                  refine q_RP_rsT (g2 := (202, [(4, .int ((r1268.2 - 1) &&& 255)), (3, .int r1268.2), (0, .ref 64), (1, .int a1), (2, .int a2)], [], (q_kM r1272 c n))) rfl rfl (q_d_neF h1430) ?_
                  refine q_RP_seg (g2 := (205, [(4, .int ((r1268.2 - 1) &&& 255)), (3, .int r1268.2), (0, .ref 64), (1, .int a1), (2, .int a2)], [.int ((r1268.2 - 1) &&& 255), .ref 64], (q_kM r1272 c n))) 2 (fun _ _ => rfl) ?_
                  refine q_RP_call (v := (some (.int (dz_M261_64 r1272 ((r1268.2 - 1) &&& 255)).2))) (h2 := (q_kM (dz_M261_64 r1272 ((r1268.2 - 1) &&& 255)).1 c n)) rfl rfl ((dzt_M261_64 r1272 c n ((r1268.2 - 1) &&& 255)).le (Nat.le_of_ble_eq_true rfl)) ?_
                  generalize dz_M261_64 r1272 ((r1268.2 - 1) &&& 255) = r1274
                  refine q_RP_let ?_
                  show q_RP _ _ _ (208, [(4, .int ((r1268.2 - 1) &&& 255)), (3, .int r1268.2), (0, .ref 64), (1, .int a1), (2, .int a2)], [.int r1274.2], (q_kM r1274.1 c n)) _ _
                  refine q_RP_seg (g2 := (209, [(4, .int ((r1268.2 - 1) &&& 255)), (3, .int r1268.2), (0, .ref 64), (1, .int a1), (2, .int a2)], [], (q_kM r1274.1 c n))) 1 (fun _ _ => rfl) ?_
                  exact q_RP_ret rfl rfl rfl
def dz_M265_64 (s : q_S) (a1 : Int32) (a2 : Int32) (a3 : Int32) : q_S :=
  cond (decide (9 < ((a1 - a1 / 16 * 16) + (a2 - a2 / 16 * 16)) + a3)) (cond (decide (9 < ((a1 / 16) + (a2 / 16)) + 1)) ((q_sA (q_sA s 15 (upd (s.1 15) 5 (vp_nar .boolean 1))) 14 (upd (s.1 14) 0 (((16 * ((((a1 / 16) + (a2 / 16)) + 1) - 10)) + ((((a1 - a1 / 16 * 16) + (a2 - a2 / 16 * 16)) + a3) - 10)) &&& 255)))) ((q_sA (q_sA s 15 (upd (s.1 15) 5 (vp_nar .boolean 0))) 14 (upd (s.1 14) 0 (((16 * ((((a1 / 16) + (a2 / 16)) + 1) - 0)) + ((((a1 - a1 / 16 * 16) + (a2 - a2 / 16 * 16)) + a3) - 10)) &&& 255))))) (cond (decide (9 < ((a1 / 16) + (a2 / 16)) + 0)) ((q_sA (q_sA s 15 (upd (s.1 15) 5 (vp_nar .boolean 1))) 14 (upd (s.1 14) 0 (((16 * ((((a1 / 16) + (a2 / 16)) + 0) - 10)) + ((((a1 - a1 / 16 * 16) + (a2 - a2 / 16 * 16)) + a3) - 0)) &&& 255)))) ((q_sA (q_sA s 15 (upd (s.1 15) 5 (vp_nar .boolean 0))) 14 (upd (s.1 14) 0 (((16 * ((((a1 / 16) + (a2 / 16)) + 0) - 0)) + ((((a1 - a1 / 16 * 16) + (a2 - a2 / 16 * 16)) + a3) - 0)) &&& 255)))))
set_option maxHeartbeats 4000000 in
theorem dzt_M265_64 (s : q_S) (c n : Nat) (a1 : Int32) (a2 : Int32) (a3 : Int32) : q_Ca q_TB0 1 264 [.ref 64, .int a1, .int a2, .int a3] (q_kM s c n) ((q_oSM c n) (dz_M265_64 s a1 a2 a3)) := by
  refine q_CaT_of (φ := (q_oSM c n)) (Nat.le_of_ble_eq_true rfl) ?_
  unfold dz_M265_64
  refine q_RT_seg (g2 := (26, [(4, .int (((a1 - a1 / 16 * 16) + (a2 - a2 / 16 * 16)) + a3)), (0, .ref 64), (1, .int a1), (2, .int a2), (3, .int a3)], [.int 9, .int (((a1 - a1 / 16 * 16) + (a2 - a2 / 16 * 16)) + a3), .int ((a1 / 16) + (a2 / 16))], (q_kM s c n))) 19 (fun _ _ => rfl) ?_
  cases h1499 : decide (9 < ((a1 - a1 / 16 * 16) + (a2 - a2 / 16 * 16)) + a3) with
  | true =>
    refine q_RT_cT ?_
    refine q_RT_rsF (g2 := (29, [(4, .int (((a1 - a1 / 16 * 16) + (a2 - a2 / 16 * 16)) + a3)), (0, .ref 64), (1, .int a1), (2, .int a2), (3, .int a3)], [.int ((a1 / 16) + (a2 / 16))], (q_kM s c n))) rfl rfl (q_d_geT h1499) ?_
    refine q_RT_seg (g2 := (43, [(5, .int (((a1 / 16) + (a2 / 16)) + 1)), (4, .int (((a1 - a1 / 16 * 16) + (a2 - a2 / 16 * 16)) + a3)), (0, .ref 64), (1, .int a1), (2, .int a2), (3, .int a3)], [.int 9, .int (((a1 - a1 / 16 * 16) + (a2 - a2 / 16 * 16)) + a3), .int (((a1 - a1 / 16 * 16) + (a2 - a2 / 16 * 16)) + a3)], (q_kM s c n))) 7 (fun _ _ => rfl) ?_
    refine q_RT_rsF (g2 := (46, [(5, .int (((a1 / 16) + (a2 / 16)) + 1)), (4, .int (((a1 - a1 / 16 * 16) + (a2 - a2 / 16 * 16)) + a3)), (0, .ref 64), (1, .int a1), (2, .int a2), (3, .int a3)], [.int (((a1 - a1 / 16 * 16) + (a2 - a2 / 16 * 16)) + a3)], (q_kM s c n))) rfl rfl (q_d_geT h1499) ?_
    refine q_RT_seg (g2 := (64, [(4, .int ((((a1 - a1 / 16 * 16) + (a2 - a2 / 16 * 16)) + a3) - 10)), (5, .int (((a1 / 16) + (a2 / 16)) + 1)), (0, .ref 64), (1, .int a1), (2, .int a2), (3, .int a3)], [.int 9, .int (((a1 / 16) + (a2 / 16)) + 1), .int 5, .ref 79], (q_kM s c n))) 9 (fun _ _ => rfl) ?_
    cases h1500 : decide (9 < ((a1 / 16) + (a2 / 16)) + 1) with
    | true =>
      refine q_RT_cT ?_
      refine q_RT_rsF (g2 := (67, [(4, .int ((((a1 - a1 / 16 * 16) + (a2 - a2 / 16 * 16)) + a3) - 10)), (5, .int (((a1 / 16) + (a2 / 16)) + 1)), (0, .ref 64), (1, .int a1), (2, .int a2), (3, .int a3)], [.int 5, .ref 79], (q_kM s c n))) rfl rfl (q_d_geT h1500) ?_
      refine q_RT_seg (g2 := (79, [(4, .int ((((a1 - a1 / 16 * 16) + (a2 - a2 / 16 * 16)) + a3) - 10)), (5, .int (((a1 / 16) + (a2 / 16)) + 1)), (0, .ref 64), (1, .int a1), (2, .int a2), (3, .int a3)], [.int 9, .int (((a1 / 16) + (a2 / 16)) + 1), .int (((a1 / 16) + (a2 / 16)) + 1)], (q_kM (q_sA s 15 (upd (s.1 15) 5 (vp_nar .boolean 1))) c n))) 6 (fun _ _ => rfl) ?_
      refine q_RT_rsF (g2 := (82, [(4, .int ((((a1 - a1 / 16 * 16) + (a2 - a2 / 16 * 16)) + a3) - 10)), (5, .int (((a1 / 16) + (a2 / 16)) + 1)), (0, .ref 64), (1, .int a1), (2, .int a2), (3, .int a3)], [.int (((a1 / 16) + (a2 / 16)) + 1)], (q_kM (q_sA s 15 (upd (s.1 15) 5 (vp_nar .boolean 1))) c n))) rfl rfl (q_d_geT h1500) ?_
      refine q_RT_seg (g2 := (109, [(5, .int ((((a1 / 16) + (a2 / 16)) + 1) - 10)), (4, .int ((((a1 - a1 / 16 * 16) + (a2 - a2 / 16 * 16)) + a3) - 10)), (0, .ref 64), (1, .int a1), (2, .int a2), (3, .int a3)], [], (q_kM (q_sA (q_sA s 15 (upd (s.1 15) 5 (vp_nar .boolean 1))) 14 (upd (s.1 14) 0 (((16 * ((((a1 / 16) + (a2 / 16)) + 1) - 10)) + ((((a1 - a1 / 16 * 16) + (a2 - a2 / 16 * 16)) + a3) - 10)) &&& 255))) c n))) 15 (fun _ _ => rfl) ?_
      exact q_RT_ret rfl rfl rfl
    | false =>
      refine q_RT_cF ?_
      refine q_RT_rsT (g2 := (71, [(4, .int ((((a1 - a1 / 16 * 16) + (a2 - a2 / 16 * 16)) + a3) - 10)), (5, .int (((a1 / 16) + (a2 / 16)) + 1)), (0, .ref 64), (1, .int a1), (2, .int a2), (3, .int a3)], [.int 5, .ref 79], (q_kM s c n))) rfl rfl (q_d_geF h1500) ?_
      refine q_RT_seg (g2 := (79, [(4, .int ((((a1 - a1 / 16 * 16) + (a2 - a2 / 16 * 16)) + a3) - 10)), (5, .int (((a1 / 16) + (a2 / 16)) + 1)), (0, .ref 64), (1, .int a1), (2, .int a2), (3, .int a3)], [.int 9, .int (((a1 / 16) + (a2 / 16)) + 1), .int (((a1 / 16) + (a2 / 16)) + 1)], (q_kM (q_sA s 15 (upd (s.1 15) 5 (vp_nar .boolean 0))) c n))) 5 (fun _ _ => rfl) ?_
      refine q_RT_rsT (g2 := (87, [(4, .int ((((a1 - a1 / 16 * 16) + (a2 - a2 / 16 * 16)) + a3) - 10)), (5, .int (((a1 / 16) + (a2 / 16)) + 1)), (0, .ref 64), (1, .int a1), (2, .int a2), (3, .int a3)], [.int (((a1 / 16) + (a2 / 16)) + 1)], (q_kM (q_sA s 15 (upd (s.1 15) 5 (vp_nar .boolean 0))) c n))) rfl rfl (q_d_geF h1500) ?_
      refine q_RT_seg (g2 := (109, [(5, .int ((((a1 / 16) + (a2 / 16)) + 1) - 0)), (4, .int ((((a1 - a1 / 16 * 16) + (a2 - a2 / 16 * 16)) + a3) - 10)), (0, .ref 64), (1, .int a1), (2, .int a2), (3, .int a3)], [], (q_kM (q_sA (q_sA s 15 (upd (s.1 15) 5 (vp_nar .boolean 0))) 14 (upd (s.1 14) 0 (((16 * ((((a1 / 16) + (a2 / 16)) + 1) - 0)) + ((((a1 - a1 / 16 * 16) + (a2 - a2 / 16 * 16)) + a3) - 10)) &&& 255))) c n))) 14 (fun _ _ => rfl) ?_
      exact q_RT_ret rfl rfl rfl
  | false =>
    refine q_RT_cF ?_
    refine q_RT_rsT (g2 := (33, [(4, .int (((a1 - a1 / 16 * 16) + (a2 - a2 / 16 * 16)) + a3)), (0, .ref 64), (1, .int a1), (2, .int a2), (3, .int a3)], [.int ((a1 / 16) + (a2 / 16))], (q_kM s c n))) rfl rfl (q_d_geF h1499) ?_
    refine q_RT_seg (g2 := (43, [(5, .int (((a1 / 16) + (a2 / 16)) + 0)), (4, .int (((a1 - a1 / 16 * 16) + (a2 - a2 / 16 * 16)) + a3)), (0, .ref 64), (1, .int a1), (2, .int a2), (3, .int a3)], [.int 9, .int (((a1 - a1 / 16 * 16) + (a2 - a2 / 16 * 16)) + a3), .int (((a1 - a1 / 16 * 16) + (a2 - a2 / 16 * 16)) + a3)], (q_kM s c n))) 6 (fun _ _ => rfl) ?_
    refine q_RT_rsT (g2 := (51, [(5, .int (((a1 / 16) + (a2 / 16)) + 0)), (4, .int (((a1 - a1 / 16 * 16) + (a2 - a2 / 16 * 16)) + a3)), (0, .ref 64), (1, .int a1), (2, .int a2), (3, .int a3)], [.int (((a1 - a1 / 16 * 16) + (a2 - a2 / 16 * 16)) + a3)], (q_kM s c n))) rfl rfl (q_d_geF h1499) ?_
    refine q_RT_seg (g2 := (64, [(4, .int ((((a1 - a1 / 16 * 16) + (a2 - a2 / 16 * 16)) + a3) - 0)), (5, .int (((a1 / 16) + (a2 / 16)) + 0)), (0, .ref 64), (1, .int a1), (2, .int a2), (3, .int a3)], [.int 9, .int (((a1 / 16) + (a2 / 16)) + 0), .int 5, .ref 79], (q_kM s c n))) 8 (fun _ _ => rfl) ?_
    cases h1501 : decide (9 < ((a1 / 16) + (a2 / 16)) + 0) with
    | true =>
      refine q_RT_cT ?_
      refine q_RT_rsF (g2 := (67, [(4, .int ((((a1 - a1 / 16 * 16) + (a2 - a2 / 16 * 16)) + a3) - 0)), (5, .int (((a1 / 16) + (a2 / 16)) + 0)), (0, .ref 64), (1, .int a1), (2, .int a2), (3, .int a3)], [.int 5, .ref 79], (q_kM s c n))) rfl rfl (q_d_geT h1501) ?_
      refine q_RT_seg (g2 := (79, [(4, .int ((((a1 - a1 / 16 * 16) + (a2 - a2 / 16 * 16)) + a3) - 0)), (5, .int (((a1 / 16) + (a2 / 16)) + 0)), (0, .ref 64), (1, .int a1), (2, .int a2), (3, .int a3)], [.int 9, .int (((a1 / 16) + (a2 / 16)) + 0), .int (((a1 / 16) + (a2 / 16)) + 0)], (q_kM (q_sA s 15 (upd (s.1 15) 5 (vp_nar .boolean 1))) c n))) 6 (fun _ _ => rfl) ?_
      refine q_RT_rsF (g2 := (82, [(4, .int ((((a1 - a1 / 16 * 16) + (a2 - a2 / 16 * 16)) + a3) - 0)), (5, .int (((a1 / 16) + (a2 / 16)) + 0)), (0, .ref 64), (1, .int a1), (2, .int a2), (3, .int a3)], [.int (((a1 / 16) + (a2 / 16)) + 0)], (q_kM (q_sA s 15 (upd (s.1 15) 5 (vp_nar .boolean 1))) c n))) rfl rfl (q_d_geT h1501) ?_
      refine q_RT_seg (g2 := (109, [(5, .int ((((a1 / 16) + (a2 / 16)) + 0) - 10)), (4, .int ((((a1 - a1 / 16 * 16) + (a2 - a2 / 16 * 16)) + a3) - 0)), (0, .ref 64), (1, .int a1), (2, .int a2), (3, .int a3)], [], (q_kM (q_sA (q_sA s 15 (upd (s.1 15) 5 (vp_nar .boolean 1))) 14 (upd (s.1 14) 0 (((16 * ((((a1 / 16) + (a2 / 16)) + 0) - 10)) + ((((a1 - a1 / 16 * 16) + (a2 - a2 / 16 * 16)) + a3) - 0)) &&& 255))) c n))) 15 (fun _ _ => rfl) ?_
      exact q_RT_ret rfl rfl rfl
    | false =>
      refine q_RT_cF ?_
      refine q_RT_rsT (g2 := (71, [(4, .int ((((a1 - a1 / 16 * 16) + (a2 - a2 / 16 * 16)) + a3) - 0)), (5, .int (((a1 / 16) + (a2 / 16)) + 0)), (0, .ref 64), (1, .int a1), (2, .int a2), (3, .int a3)], [.int 5, .ref 79], (q_kM s c n))) rfl rfl (q_d_geF h1501) ?_
      refine q_RT_seg (g2 := (79, [(4, .int ((((a1 - a1 / 16 * 16) + (a2 - a2 / 16 * 16)) + a3) - 0)), (5, .int (((a1 / 16) + (a2 / 16)) + 0)), (0, .ref 64), (1, .int a1), (2, .int a2), (3, .int a3)], [.int 9, .int (((a1 / 16) + (a2 / 16)) + 0), .int (((a1 / 16) + (a2 / 16)) + 0)], (q_kM (q_sA s 15 (upd (s.1 15) 5 (vp_nar .boolean 0))) c n))) 5 (fun _ _ => rfl) ?_
      refine q_RT_rsT (g2 := (87, [(4, .int ((((a1 - a1 / 16 * 16) + (a2 - a2 / 16 * 16)) + a3) - 0)), (5, .int (((a1 / 16) + (a2 / 16)) + 0)), (0, .ref 64), (1, .int a1), (2, .int a2), (3, .int a3)], [.int (((a1 / 16) + (a2 / 16)) + 0)], (q_kM (q_sA s 15 (upd (s.1 15) 5 (vp_nar .boolean 0))) c n))) rfl rfl (q_d_geF h1501) ?_
      refine q_RT_seg (g2 := (109, [(5, .int ((((a1 / 16) + (a2 / 16)) + 0) - 0)), (4, .int ((((a1 - a1 / 16 * 16) + (a2 - a2 / 16 * 16)) + a3) - 0)), (0, .ref 64), (1, .int a1), (2, .int a2), (3, .int a3)], [], (q_kM (q_sA (q_sA s 15 (upd (s.1 15) 5 (vp_nar .boolean 0))) 14 (upd (s.1 14) 0 (((16 * ((((a1 / 16) + (a2 / 16)) + 0) - 0)) + ((((a1 - a1 / 16 * 16) + (a2 - a2 / 16 * 16)) + a3) - 0)) &&& 255))) c n))) 14 (fun _ _ => rfl) ?_
      exact q_RT_ret rfl rfl rfl
def dz_M267_64_t_56 (s : q_S) (v2 : Int32) (v3 : Int32) (v4 : Int32) : Option (q_S) :=
  cond (decide ((s.1 15) 2 = 0)) (q_let (dz_M261_64 s ((s.1 14) 0)) fun r1410 => some r1410.1) (q_let (dz_M266_64 s v3 v2 v4) fun r1411 => q_let (dz_M261_64 r1411 ((r1411.1 14) 0)) fun r1412 => some r1412.1)
set_option maxHeartbeats 4000000 in
theorem dzt_M267_64_t_56 (c n : Nat) (s : q_S) (v2 : Int32) (v3 : Int32) (v4 : Int32) : q_RP q_TB0 2 266 (56, [(0, .ref 64), (2, .int v2), (3, .int v3), (4, .int v4)], [], (q_kM s c n)) (q_oSM c n) (dz_M267_64_t_56 s v2 v3 v4) := by
  unfold dz_M267_64_t_56
  refine q_RP_seg (g2 := (62, [(0, .ref 64), (2, .int v2), (3, .int v3), (4, .int v4)], [.int ((s.1 15) 2)], (q_kM s c n))) 4 (fun _ _ => rfl) ?_
  cases h1498 : decide ((s.1 15) 2 = 0) with
  | true =>
    refine q_RP_cT ?_
    refine q_RP_rsT (g2 := (73, [(0, .ref 64), (2, .int v2), (3, .int v3), (4, .int v4)], [], (q_kM s c n))) rfl rfl h1498 ?_
    refine q_RP_seg (g2 := (80, [(0, .ref 64), (2, .int v2), (3, .int v3), (4, .int v4)], [.int ((s.1 14) 0), .ref 64], (q_kM s c n))) 5 (fun _ _ => rfl) ?_
    refine q_RP_call (v := (some (.int (dz_M261_64 s ((s.1 14) 0)).2))) (h2 := (q_kM (dz_M261_64 s ((s.1 14) 0)).1 c n)) rfl rfl ((dzt_M261_64 s c n ((s.1 14) 0)).le (Nat.le_of_ble_eq_true rfl)) ?_
    generalize dz_M261_64 s ((s.1 14) 0) = r1410
    refine q_RP_let ?_
    show q_RP _ _ _ (83, [(0, .ref 64), (2, .int v2), (3, .int v3), (4, .int v4)], [.int r1410.2], (q_kM r1410.1 c n)) _ _
    refine q_RP_seg (g2 := (84, [(0, .ref 64), (2, .int v2), (3, .int v3), (4, .int v4)], [], (q_kM r1410.1 c n))) 1 (fun _ _ => rfl) ?_
    exact q_RP_ret rfl rfl rfl
  | false =>
    refine q_RP_cF ?_
    refine q_RP_rsF (g2 := (65, [(0, .ref 64), (2, .int v2), (3, .int v3), (4, .int v4)], [], (q_kM s c n))) rfl rfl h1498 ?_
    refine q_RP_seg (g2 := (70, [(0, .ref 64), (2, .int v2), (3, .int v3), (4, .int v4)], [.int v4, .int v2, .int v3, .ref 64], (q_kM s c n))) 4 (fun _ _ => rfl) ?_
    refine q_RP_call (v := none) (h2 := (q_kM (dz_M266_64 s v3 v2 v4) c n)) rfl rfl ((dzt_M266_64 s c n v3 v2 v4).le (Nat.le_of_ble_eq_true rfl)) ?_
    generalize dz_M266_64 s v3 v2 v4 = r1411
    refine q_RP_let ?_
    show q_RP _ _ _ (73, [(0, .ref 64), (2, .int v2), (3, .int v3), (4, .int v4)], [], (q_kM r1411 c n)) _ _
    refine q_RP_seg (g2 := (80, [(0, .ref 64), (2, .int v2), (3, .int v3), (4, .int v4)], [.int ((r1411.1 14) 0), .ref 64], (q_kM r1411 c n))) 5 (fun _ _ => rfl) ?_
    refine q_RP_call (v := (some (.int (dz_M261_64 r1411 ((r1411.1 14) 0)).2))) (h2 := (q_kM (dz_M261_64 r1411 ((r1411.1 14) 0)).1 c n)) rfl rfl ((dzt_M261_64 r1411 c n ((r1411.1 14) 0)).le (Nat.le_of_ble_eq_true rfl)) ?_
    generalize dz_M261_64 r1411 ((r1411.1 14) 0) = r1412
    refine q_RP_let ?_
    show q_RP _ _ _ (83, [(0, .ref 64), (2, .int v2), (3, .int v3), (4, .int v4)], [.int r1412.2], (q_kM r1412.1 c n)) _ _
    refine q_RP_seg (g2 := (84, [(0, .ref 64), (2, .int v2), (3, .int v3), (4, .int v4)], [], (q_kM r1412.1 c n))) 1 (fun _ _ => rfl) ?_
    exact q_RP_ret rfl rfl rfl
def dz_M267_64_t (s : q_S) (a2 : Int32) : Option (q_S) :=
  (dz_M257_64 s 5 1).bind fun r1408 => (dz_M264_64 s a2).bind fun r1409 => cond (decide ((r1409.1 15) 2 = 0)) (dz_M267_64_t_56 r1409 a2 ((s.1 14) 0) r1408) (q_let (dz_M265_64 r1409 ((s.1 14) 0) a2 r1408) fun r1413 => q_let (dz_M261_64 r1413 ((r1413.1 14) 0)) fun r1414 => some r1414.1)
set_option maxHeartbeats 4000000 in
theorem dzt_M267_64_t (s : q_S) (c n : Nat) (a2 : Int32) (x : q_S) (h : dz_M267_64_t s a2 = some x) : q_Ca q_TB0 3 266 [.ref 64, .int 1, .int a2] (q_kM s c n) ((q_oSM c n) x) := by
  refine q_CaP_of (φ := (q_oSM c n)) (Nat.le_of_ble_eq_true rfl) ?_ h
  clear h
  unfold dz_M267_64_t
  refine q_RP_seg (g2 := (6, [(0, .ref 64), (1, .int 1), (2, .int a2)], [.int ((s.1 14) 0)], (q_kM s c n))) 4 (fun _ _ => rfl) ?_
  refine q_RP_seg (g2 := (10, [(3, .int ((s.1 14) 0)), (0, .ref 64), (1, .int 1), (2, .int a2)], [.int 1, .int 5, .ref 64], (q_kM s c n))) 4 (fun _ _ => rfl) ?_
  refine q_RP_bd fun r1408 er1408 => ?_
  refine q_RP_call (v := (some (.int r1408))) (h2 := (q_kM s c n)) rfl rfl ((dzt_M257_64 s c n 5 1 r1408 er1408).le (Nat.le_of_ble_eq_true rfl)) ?_
  show q_RP _ _ _ (13, [(3, .int ((s.1 14) 0)), (0, .ref 64), (1, .int 1), (2, .int a2)], [.int r1408], (q_kM s c n)) _ _
  refine q_RP_seg (g2 := (29, [(4, .int r1408), (3, .int ((s.1 14) 0)), (0, .ref 64), (1, .int 1), (2, .int a2)], [.int a2, .ref 64], (q_kM s c n))) 6 (fun _ _ => rfl) ?_
  refine q_RP_bd fun r1409 er1409 => ?_
  refine q_RP_call (v := none) (h2 := (q_kM r1409 c n)) rfl rfl ((dzt_M264_64 s c n a2 r1409 er1409).le (Nat.le_of_ble_eq_true rfl)) ?_
  show q_RP _ _ _ (32, [(4, .int r1408), (3, .int ((s.1 14) 0)), (0, .ref 64), (1, .int 1), (2, .int a2)], [], (q_kM r1409 c n)) _ _
  refine q_RP_seg (g2 := (38, [(4, .int r1408), (3, .int ((s.1 14) 0)), (0, .ref 64), (1, .int 1), (2, .int a2)], [.int ((r1409.1 15) 2)], (q_kM r1409 c n))) 4 (fun _ _ => rfl) ?_
  cases h1497 : decide ((r1409.1 15) 2 = 0) with
  | true =>
    refine q_RP_cT ?_
    refine q_RP_rsT (g2 := (56, [(4, .int r1408), (3, .int ((s.1 14) 0)), (0, .ref 64), (1, .int 1), (2, .int a2)], [], (q_kM r1409 c n))) rfl rfl h1497 ?_
    exact q_RP_xt (q_xt_mk (q_mn1 2 rfl (q_mn1 4 rfl (q_mn1 1 rfl (q_mn1 0 rfl q_mn0)))) rfl) (dzt_M267_64_t_56 c n r1409 a2 ((s.1 14) 0) r1408)
  | false =>
    refine q_RP_cF ?_
    refine q_RP_rsF (g2 := (41, [(4, .int r1408), (3, .int ((s.1 14) 0)), (0, .ref 64), (1, .int 1), (2, .int a2)], [], (q_kM r1409 c n))) rfl rfl h1497 ?_
    refine q_RP_seg (g2 := (50, [(4, .int r1408), (3, .int ((s.1 14) 0)), (0, .ref 64), (1, .int 1), (2, .int a2)], [.int r1408, .int a2, .int ((s.1 14) 0), .ref 64], (q_kM r1409 c n))) 6 (fun _ _ => rfl) ?_
    refine q_RP_call (v := none) (h2 := (q_kM (dz_M265_64 r1409 ((s.1 14) 0) a2 r1408) c n)) rfl rfl ((dzt_M265_64 r1409 c n ((s.1 14) 0) a2 r1408).le (Nat.le_of_ble_eq_true rfl)) ?_
    generalize dz_M265_64 r1409 ((s.1 14) 0) a2 r1408 = r1413
    refine q_RP_let ?_
    show q_RP _ _ _ (53, [(4, .int r1408), (3, .int ((s.1 14) 0)), (0, .ref 64), (1, .int 1), (2, .int a2)], [], (q_kM r1413 c n)) _ _
    refine q_RP_seg (g2 := (80, [(4, .int r1408), (3, .int ((s.1 14) 0)), (0, .ref 64), (1, .int 1), (2, .int a2)], [.int ((r1413.1 14) 0), .ref 64], (q_kM r1413 c n))) 6 (fun _ _ => rfl) ?_
    refine q_RP_call (v := (some (.int (dz_M261_64 r1413 ((r1413.1 14) 0)).2))) (h2 := (q_kM (dz_M261_64 r1413 ((r1413.1 14) 0)).1 c n)) rfl rfl ((dzt_M261_64 r1413 c n ((r1413.1 14) 0)).le (Nat.le_of_ble_eq_true rfl)) ?_
    generalize dz_M261_64 r1413 ((r1413.1 14) 0) = r1414
    refine q_RP_let ?_
    show q_RP _ _ _ (83, [(4, .int r1408), (3, .int ((s.1 14) 0)), (0, .ref 64), (1, .int 1), (2, .int a2)], [.int r1414.2], (q_kM r1414.1 c n)) _ _
    refine q_RP_seg (g2 := (84, [(4, .int r1408), (3, .int ((s.1 14) 0)), (0, .ref 64), (1, .int 1), (2, .int a2)], [], (q_kM r1414.1 c n))) 1 (fun _ _ => rfl) ?_
    exact q_RP_ret rfl rfl rfl
def dz_M269_64 (s : q_S) (a1 : Int32) (a2 : Int32) : Option (q_S) :=
  cond (decide (a1 < 0)) (cond (decide (((s.1 14) 0) &&& a2 = 0)) (q_let (dz_M206 (q_sA s 15 (upd (s.1 15) 4 (vp_nar .boolean 1))) a2 7) fun r1314 => cond r1314 (q_let ((q_sA s 15 (upd (s.1 15) 4 (vp_nar .boolean 1)))) fun r1315 => q_let (dz_M206 (q_sA r1315 15 (upd (r1315.1 15) 0 (vp_nar .boolean 1))) a2 6) fun r1316 => cond r1316 (q_let ((q_sA r1315 15 (upd (r1315.1 15) 0 (vp_nar .boolean 1)))) fun r1317 => some (q_sA r1317 15 (upd (r1317.1 15) 1 (vp_nar .boolean 1)))) (q_let ((q_sA r1315 15 (upd (r1315.1 15) 0 (vp_nar .boolean 1)))) fun r1318 => some (q_sA r1318 15 (upd (r1318.1 15) 1 (vp_nar .boolean 0))))) (q_let ((q_sA s 15 (upd (s.1 15) 4 (vp_nar .boolean 1)))) fun r1319 => q_let (dz_M206 (q_sA r1319 15 (upd (r1319.1 15) 0 (vp_nar .boolean 0))) a2 6) fun r1320 => cond r1320 (q_let ((q_sA r1319 15 (upd (r1319.1 15) 0 (vp_nar .boolean 0)))) fun r1321 => some (q_sA r1321 15 (upd (r1321.1 15) 1 (vp_nar .boolean 1)))) (q_let ((q_sA r1319 15 (upd (r1319.1 15) 0 (vp_nar .boolean 0)))) fun r1322 => some (q_sA r1322 15 (upd (r1322.1 15) 1 (vp_nar .boolean 0)))))) (q_let (dz_M206 (q_sA s 15 (upd (s.1 15) 4 (vp_nar .boolean 0))) a2 7) fun r1323 => cond r1323 (q_let ((q_sA s 15 (upd (s.1 15) 4 (vp_nar .boolean 0)))) fun r1324 => q_let (dz_M206 (q_sA r1324 15 (upd (r1324.1 15) 0 (vp_nar .boolean 1))) a2 6) fun r1325 => cond r1325 (q_let ((q_sA r1324 15 (upd (r1324.1 15) 0 (vp_nar .boolean 1)))) fun r1326 => some (q_sA r1326 15 (upd (r1326.1 15) 1 (vp_nar .boolean 1)))) (q_let ((q_sA r1324 15 (upd (r1324.1 15) 0 (vp_nar .boolean 1)))) fun r1327 => some (q_sA r1327 15 (upd (r1327.1 15) 1 (vp_nar .boolean 0))))) (q_let ((q_sA s 15 (upd (s.1 15) 4 (vp_nar .boolean 0)))) fun r1328 => q_let (dz_M206 (q_sA r1328 15 (upd (r1328.1 15) 0 (vp_nar .boolean 0))) a2 6) fun r1329 => cond r1329 (q_let ((q_sA r1328 15 (upd (r1328.1 15) 0 (vp_nar .boolean 0)))) fun r1330 => some (q_sA r1330 15 (upd (r1330.1 15) 1 (vp_nar .boolean 1)))) (q_let ((q_sA r1328 15 (upd (r1328.1 15) 0 (vp_nar .boolean 0)))) fun r1331 => some (q_sA r1331 15 (upd (r1331.1 15) 1 (vp_nar .boolean 0))))))) (cond (decide (16 < a1)) (cond (decide (((s.1 14) 0) &&& a2 = 0)) (q_let (dz_M206 (q_sA s 15 (upd (s.1 15) 4 (vp_nar .boolean 1))) a2 7) fun r1332 => cond r1332 (q_let ((q_sA s 15 (upd (s.1 15) 4 (vp_nar .boolean 1)))) fun r1333 => q_let (dz_M206 (q_sA r1333 15 (upd (r1333.1 15) 0 (vp_nar .boolean 1))) a2 6) fun r1334 => cond r1334 (q_let ((q_sA r1333 15 (upd (r1333.1 15) 0 (vp_nar .boolean 1)))) fun r1335 => some (q_sA r1335 15 (upd (r1335.1 15) 1 (vp_nar .boolean 1)))) (q_let ((q_sA r1333 15 (upd (r1333.1 15) 0 (vp_nar .boolean 1)))) fun r1336 => some (q_sA r1336 15 (upd (r1336.1 15) 1 (vp_nar .boolean 0))))) (q_let ((q_sA s 15 (upd (s.1 15) 4 (vp_nar .boolean 1)))) fun r1337 => q_let (dz_M206 (q_sA r1337 15 (upd (r1337.1 15) 0 (vp_nar .boolean 0))) a2 6) fun r1338 => cond r1338 (q_let ((q_sA r1337 15 (upd (r1337.1 15) 0 (vp_nar .boolean 0)))) fun r1339 => some (q_sA r1339 15 (upd (r1339.1 15) 1 (vp_nar .boolean 1)))) (q_let ((q_sA r1337 15 (upd (r1337.1 15) 0 (vp_nar .boolean 0)))) fun r1340 => some (q_sA r1340 15 (upd (r1340.1 15) 1 (vp_nar .boolean 0)))))) (q_let (dz_M206 (q_sA s 15 (upd (s.1 15) 4 (vp_nar .boolean 0))) a2 7) fun r1341 => cond r1341 (q_let ((q_sA s 15 (upd (s.1 15) 4 (vp_nar .boolean 0)))) fun r1342 => q_let (dz_M206 (q_sA r1342 15 (upd (r1342.1 15) 0 (vp_nar .boolean 1))) a2 6) fun r1343 => cond r1343 (q_let ((q_sA r1342 15 (upd (r1342.1 15) 0 (vp_nar .boolean 1)))) fun r1344 => some (q_sA r1344 15 (upd (r1344.1 15) 1 (vp_nar .boolean 1)))) (q_let ((q_sA r1342 15 (upd (r1342.1 15) 0 (vp_nar .boolean 1)))) fun r1345 => some (q_sA r1345 15 (upd (r1345.1 15) 1 (vp_nar .boolean 0))))) (q_let ((q_sA s 15 (upd (s.1 15) 4 (vp_nar .boolean 0)))) fun r1346 => q_let (dz_M206 (q_sA r1346 15 (upd (r1346.1 15) 0 (vp_nar .boolean 0))) a2 6) fun r1347 => cond r1347 (q_let ((q_sA r1346 15 (upd (r1346.1 15) 0 (vp_nar .boolean 0)))) fun r1348 => some (q_sA r1348 15 (upd (r1348.1 15) 1 (vp_nar .boolean 1)))) (q_let ((q_sA r1346 15 (upd (r1346.1 15) 0 (vp_nar .boolean 0)))) fun r1349 => some (q_sA r1349 15 (upd (r1349.1 15) 1 (vp_nar .boolean 0))))))) (cond (decide (a1 = 0)) ((dz_M262_64 s 0 a2).bind fun r1350 => some r1350) (cond (decide (a1 = 1)) ((dz_M262_64 s 1 a2).bind fun r1351 => some r1351) (cond (decide (a1 = 2)) ((dz_M262_64 s 2 a2).bind fun r1352 => some r1352) (cond (decide (a1 = 3)) (cond (decide (((s.1 14) 0) &&& a2 = 0)) (q_let (dz_M206 (q_sA s 15 (upd (s.1 15) 4 (vp_nar .boolean 1))) a2 7) fun r1353 => cond r1353 (q_let ((q_sA s 15 (upd (s.1 15) 4 (vp_nar .boolean 1)))) fun r1354 => q_let (dz_M206 (q_sA r1354 15 (upd (r1354.1 15) 0 (vp_nar .boolean 1))) a2 6) fun r1355 => cond r1355 (q_let ((q_sA r1354 15 (upd (r1354.1 15) 0 (vp_nar .boolean 1)))) fun r1356 => some (q_sA r1356 15 (upd (r1356.1 15) 1 (vp_nar .boolean 1)))) (q_let ((q_sA r1354 15 (upd (r1354.1 15) 0 (vp_nar .boolean 1)))) fun r1357 => some (q_sA r1357 15 (upd (r1357.1 15) 1 (vp_nar .boolean 0))))) (q_let ((q_sA s 15 (upd (s.1 15) 4 (vp_nar .boolean 1)))) fun r1358 => q_let (dz_M206 (q_sA r1358 15 (upd (r1358.1 15) 0 (vp_nar .boolean 0))) a2 6) fun r1359 => cond r1359 (q_let ((q_sA r1358 15 (upd (r1358.1 15) 0 (vp_nar .boolean 0)))) fun r1360 => some (q_sA r1360 15 (upd (r1360.1 15) 1 (vp_nar .boolean 1)))) (q_let ((q_sA r1358 15 (upd (r1358.1 15) 0 (vp_nar .boolean 0)))) fun r1361 => some (q_sA r1361 15 (upd (r1361.1 15) 1 (vp_nar .boolean 0)))))) (q_let (dz_M206 (q_sA s 15 (upd (s.1 15) 4 (vp_nar .boolean 0))) a2 7) fun r1362 => cond r1362 (q_let ((q_sA s 15 (upd (s.1 15) 4 (vp_nar .boolean 0)))) fun r1363 => q_let (dz_M206 (q_sA r1363 15 (upd (r1363.1 15) 0 (vp_nar .boolean 1))) a2 6) fun r1364 => cond r1364 (q_let ((q_sA r1363 15 (upd (r1363.1 15) 0 (vp_nar .boolean 1)))) fun r1365 => some (q_sA r1365 15 (upd (r1365.1 15) 1 (vp_nar .boolean 1)))) (q_let ((q_sA r1363 15 (upd (r1363.1 15) 0 (vp_nar .boolean 1)))) fun r1366 => some (q_sA r1366 15 (upd (r1366.1 15) 1 (vp_nar .boolean 0))))) (q_let ((q_sA s 15 (upd (s.1 15) 4 (vp_nar .boolean 0)))) fun r1367 => q_let (dz_M206 (q_sA r1367 15 (upd (r1367.1 15) 0 (vp_nar .boolean 0))) a2 6) fun r1368 => cond r1368 (q_let ((q_sA r1367 15 (upd (r1367.1 15) 0 (vp_nar .boolean 0)))) fun r1369 => some (q_sA r1369 15 (upd (r1369.1 15) 1 (vp_nar .boolean 1)))) (q_let ((q_sA r1367 15 (upd (r1367.1 15) 0 (vp_nar .boolean 0)))) fun r1370 => some (q_sA r1370 15 (upd (r1370.1 15) 1 (vp_nar .boolean 0))))))) (cond (decide (a1 = 4)) (cond (decide (((s.1 14) 0) &&& a2 = 0)) (q_let (dz_M206 (q_sA s 15 (upd (s.1 15) 4 (vp_nar .boolean 1))) a2 7) fun r1371 => cond r1371 (q_let ((q_sA s 15 (upd (s.1 15) 4 (vp_nar .boolean 1)))) fun r1372 => q_let (dz_M206 (q_sA r1372 15 (upd (r1372.1 15) 0 (vp_nar .boolean 1))) a2 6) fun r1373 => cond r1373 (q_let ((q_sA r1372 15 (upd (r1372.1 15) 0 (vp_nar .boolean 1)))) fun r1374 => some (q_sA r1374 15 (upd (r1374.1 15) 1 (vp_nar .boolean 1)))) (q_let ((q_sA r1372 15 (upd (r1372.1 15) 0 (vp_nar .boolean 1)))) fun r1375 => some (q_sA r1375 15 (upd (r1375.1 15) 1 (vp_nar .boolean 0))))) (q_let ((q_sA s 15 (upd (s.1 15) 4 (vp_nar .boolean 1)))) fun r1376 => q_let (dz_M206 (q_sA r1376 15 (upd (r1376.1 15) 0 (vp_nar .boolean 0))) a2 6) fun r1377 => cond r1377 (q_let ((q_sA r1376 15 (upd (r1376.1 15) 0 (vp_nar .boolean 0)))) fun r1378 => some (q_sA r1378 15 (upd (r1378.1 15) 1 (vp_nar .boolean 1)))) (q_let ((q_sA r1376 15 (upd (r1376.1 15) 0 (vp_nar .boolean 0)))) fun r1379 => some (q_sA r1379 15 (upd (r1379.1 15) 1 (vp_nar .boolean 0)))))) (q_let (dz_M206 (q_sA s 15 (upd (s.1 15) 4 (vp_nar .boolean 0))) a2 7) fun r1380 => cond r1380 (q_let ((q_sA s 15 (upd (s.1 15) 4 (vp_nar .boolean 0)))) fun r1381 => q_let (dz_M206 (q_sA r1381 15 (upd (r1381.1 15) 0 (vp_nar .boolean 1))) a2 6) fun r1382 => cond r1382 (q_let ((q_sA r1381 15 (upd (r1381.1 15) 0 (vp_nar .boolean 1)))) fun r1383 => some (q_sA r1383 15 (upd (r1383.1 15) 1 (vp_nar .boolean 1)))) (q_let ((q_sA r1381 15 (upd (r1381.1 15) 0 (vp_nar .boolean 1)))) fun r1384 => some (q_sA r1384 15 (upd (r1384.1 15) 1 (vp_nar .boolean 0))))) (q_let ((q_sA s 15 (upd (s.1 15) 4 (vp_nar .boolean 0)))) fun r1385 => q_let (dz_M206 (q_sA r1385 15 (upd (r1385.1 15) 0 (vp_nar .boolean 0))) a2 6) fun r1386 => cond r1386 (q_let ((q_sA r1385 15 (upd (r1385.1 15) 0 (vp_nar .boolean 0)))) fun r1387 => some (q_sA r1387 15 (upd (r1387.1 15) 1 (vp_nar .boolean 1)))) (q_let ((q_sA r1385 15 (upd (r1385.1 15) 0 (vp_nar .boolean 0)))) fun r1388 => some (q_sA r1388 15 (upd (r1388.1 15) 1 (vp_nar .boolean 0))))))) (cond (decide (a1 = 5)) (cond (decide (((s.1 14) 0) &&& a2 = 0)) (q_let (dz_M206 (q_sA s 15 (upd (s.1 15) 4 (vp_nar .boolean 1))) a2 7) fun r1389 => cond r1389 (q_let ((q_sA s 15 (upd (s.1 15) 4 (vp_nar .boolean 1)))) fun r1390 => q_let (dz_M206 (q_sA r1390 15 (upd (r1390.1 15) 0 (vp_nar .boolean 1))) a2 6) fun r1391 => cond r1391 (q_let ((q_sA r1390 15 (upd (r1390.1 15) 0 (vp_nar .boolean 1)))) fun r1392 => some (q_sA r1392 15 (upd (r1392.1 15) 1 (vp_nar .boolean 1)))) (q_let ((q_sA r1390 15 (upd (r1390.1 15) 0 (vp_nar .boolean 1)))) fun r1393 => some (q_sA r1393 15 (upd (r1393.1 15) 1 (vp_nar .boolean 0))))) (q_let ((q_sA s 15 (upd (s.1 15) 4 (vp_nar .boolean 1)))) fun r1394 => q_let (dz_M206 (q_sA r1394 15 (upd (r1394.1 15) 0 (vp_nar .boolean 0))) a2 6) fun r1395 => cond r1395 (q_let ((q_sA r1394 15 (upd (r1394.1 15) 0 (vp_nar .boolean 0)))) fun r1396 => some (q_sA r1396 15 (upd (r1396.1 15) 1 (vp_nar .boolean 1)))) (q_let ((q_sA r1394 15 (upd (r1394.1 15) 0 (vp_nar .boolean 0)))) fun r1397 => some (q_sA r1397 15 (upd (r1397.1 15) 1 (vp_nar .boolean 0)))))) (q_let (dz_M206 (q_sA s 15 (upd (s.1 15) 4 (vp_nar .boolean 0))) a2 7) fun r1398 => cond r1398 (q_let ((q_sA s 15 (upd (s.1 15) 4 (vp_nar .boolean 0)))) fun r1399 => q_let (dz_M206 (q_sA r1399 15 (upd (r1399.1 15) 0 (vp_nar .boolean 1))) a2 6) fun r1400 => cond r1400 (q_let ((q_sA r1399 15 (upd (r1399.1 15) 0 (vp_nar .boolean 1)))) fun r1401 => some (q_sA r1401 15 (upd (r1401.1 15) 1 (vp_nar .boolean 1)))) (q_let ((q_sA r1399 15 (upd (r1399.1 15) 0 (vp_nar .boolean 1)))) fun r1402 => some (q_sA r1402 15 (upd (r1402.1 15) 1 (vp_nar .boolean 0))))) (q_let ((q_sA s 15 (upd (s.1 15) 4 (vp_nar .boolean 0)))) fun r1403 => q_let (dz_M206 (q_sA r1403 15 (upd (r1403.1 15) 0 (vp_nar .boolean 0))) a2 6) fun r1404 => cond r1404 (q_let ((q_sA r1403 15 (upd (r1403.1 15) 0 (vp_nar .boolean 0)))) fun r1405 => some (q_sA r1405 15 (upd (r1405.1 15) 1 (vp_nar .boolean 1)))) (q_let ((q_sA r1403 15 (upd (r1403.1 15) 0 (vp_nar .boolean 0)))) fun r1406 => some (q_sA r1406 15 (upd (r1406.1 15) 1 (vp_nar .boolean 0))))))) (cond (decide (a1 = 6)) ((dz_M267_64_t s a2).bind fun r1415 => some r1415) (cond (decide (a1 = 7)) ((dz_M267_64_f s a2).bind fun r1416 => some r1416) (cond (decide (a1 = 8)) ((dz_M262_64 s 0 (((s.1 14) 0) &&& a2)).bind fun r1417 => some r1417) (cond (decide (a1 = 9)) ((dz_M262_64 s 0 (((s.1 14) 0) ||| a2)).bind fun r1418 => some r1418) (cond (decide (a1 = 10)) ((dz_M262_64 s 0 (((s.1 14) 0) ^^^ a2)).bind fun r1419 => some r1419) (cond (decide (a1 = 11)) ((dz_M263_64 s 0 a2).bind fun r1420 => some r1420) (cond (decide (a1 = 12)) ((dz_M263_64 s 1 a2).bind fun r1421 => some r1421) (cond (decide (a1 = 13)) ((dz_M263_64 s 2 a2).bind fun r1422 => some r1422) (cond (decide (a1 = 14)) (cond (decide (((s.1 14) 0) &&& a2 = 0)) (q_let (dz_M206 (q_sA s 15 (upd (s.1 15) 4 (vp_nar .boolean 1))) a2 7) fun r1423 => cond r1423 (q_let ((q_sA s 15 (upd (s.1 15) 4 (vp_nar .boolean 1)))) fun r1424 => q_let (dz_M206 (q_sA r1424 15 (upd (r1424.1 15) 0 (vp_nar .boolean 1))) a2 6) fun r1425 => cond r1425 (q_let ((q_sA r1424 15 (upd (r1424.1 15) 0 (vp_nar .boolean 1)))) fun r1426 => some (q_sA r1426 15 (upd (r1426.1 15) 1 (vp_nar .boolean 1)))) (q_let ((q_sA r1424 15 (upd (r1424.1 15) 0 (vp_nar .boolean 1)))) fun r1427 => some (q_sA r1427 15 (upd (r1427.1 15) 1 (vp_nar .boolean 0))))) (q_let ((q_sA s 15 (upd (s.1 15) 4 (vp_nar .boolean 1)))) fun r1428 => q_let (dz_M206 (q_sA r1428 15 (upd (r1428.1 15) 0 (vp_nar .boolean 0))) a2 6) fun r1429 => cond r1429 (q_let ((q_sA r1428 15 (upd (r1428.1 15) 0 (vp_nar .boolean 0)))) fun r1430 => some (q_sA r1430 15 (upd (r1430.1 15) 1 (vp_nar .boolean 1)))) (q_let ((q_sA r1428 15 (upd (r1428.1 15) 0 (vp_nar .boolean 0)))) fun r1431 => some (q_sA r1431 15 (upd (r1431.1 15) 1 (vp_nar .boolean 0)))))) (q_let (dz_M206 (q_sA s 15 (upd (s.1 15) 4 (vp_nar .boolean 0))) a2 7) fun r1432 => cond r1432 (q_let ((q_sA s 15 (upd (s.1 15) 4 (vp_nar .boolean 0)))) fun r1433 => q_let (dz_M206 (q_sA r1433 15 (upd (r1433.1 15) 0 (vp_nar .boolean 1))) a2 6) fun r1434 => cond r1434 (q_let ((q_sA r1433 15 (upd (r1433.1 15) 0 (vp_nar .boolean 1)))) fun r1435 => some (q_sA r1435 15 (upd (r1435.1 15) 1 (vp_nar .boolean 1)))) (q_let ((q_sA r1433 15 (upd (r1433.1 15) 0 (vp_nar .boolean 1)))) fun r1436 => some (q_sA r1436 15 (upd (r1436.1 15) 1 (vp_nar .boolean 0))))) (q_let ((q_sA s 15 (upd (s.1 15) 4 (vp_nar .boolean 0)))) fun r1437 => q_let (dz_M206 (q_sA r1437 15 (upd (r1437.1 15) 0 (vp_nar .boolean 0))) a2 6) fun r1438 => cond r1438 (q_let ((q_sA r1437 15 (upd (r1437.1 15) 0 (vp_nar .boolean 0)))) fun r1439 => some (q_sA r1439 15 (upd (r1439.1 15) 1 (vp_nar .boolean 1)))) (q_let ((q_sA r1437 15 (upd (r1437.1 15) 0 (vp_nar .boolean 0)))) fun r1440 => some (q_sA r1440 15 (upd (r1440.1 15) 1 (vp_nar .boolean 0))))))) (cond (decide (a1 = 15)) (cond (decide (((s.1 14) 0) &&& a2 = 0)) (q_let (dz_M206 (q_sA s 15 (upd (s.1 15) 4 (vp_nar .boolean 1))) a2 7) fun r1441 => cond r1441 (q_let ((q_sA s 15 (upd (s.1 15) 4 (vp_nar .boolean 1)))) fun r1442 => q_let (dz_M206 (q_sA r1442 15 (upd (r1442.1 15) 0 (vp_nar .boolean 1))) a2 6) fun r1443 => cond r1443 (q_let ((q_sA r1442 15 (upd (r1442.1 15) 0 (vp_nar .boolean 1)))) fun r1444 => some (q_sA r1444 15 (upd (r1444.1 15) 1 (vp_nar .boolean 1)))) (q_let ((q_sA r1442 15 (upd (r1442.1 15) 0 (vp_nar .boolean 1)))) fun r1445 => some (q_sA r1445 15 (upd (r1445.1 15) 1 (vp_nar .boolean 0))))) (q_let ((q_sA s 15 (upd (s.1 15) 4 (vp_nar .boolean 1)))) fun r1446 => q_let (dz_M206 (q_sA r1446 15 (upd (r1446.1 15) 0 (vp_nar .boolean 0))) a2 6) fun r1447 => cond r1447 (q_let ((q_sA r1446 15 (upd (r1446.1 15) 0 (vp_nar .boolean 0)))) fun r1448 => some (q_sA r1448 15 (upd (r1448.1 15) 1 (vp_nar .boolean 1)))) (q_let ((q_sA r1446 15 (upd (r1446.1 15) 0 (vp_nar .boolean 0)))) fun r1449 => some (q_sA r1449 15 (upd (r1449.1 15) 1 (vp_nar .boolean 0)))))) (q_let (dz_M206 (q_sA s 15 (upd (s.1 15) 4 (vp_nar .boolean 0))) a2 7) fun r1450 => cond r1450 (q_let ((q_sA s 15 (upd (s.1 15) 4 (vp_nar .boolean 0)))) fun r1451 => q_let (dz_M206 (q_sA r1451 15 (upd (r1451.1 15) 0 (vp_nar .boolean 1))) a2 6) fun r1452 => cond r1452 (q_let ((q_sA r1451 15 (upd (r1451.1 15) 0 (vp_nar .boolean 1)))) fun r1453 => some (q_sA r1453 15 (upd (r1453.1 15) 1 (vp_nar .boolean 1)))) (q_let ((q_sA r1451 15 (upd (r1451.1 15) 0 (vp_nar .boolean 1)))) fun r1454 => some (q_sA r1454 15 (upd (r1454.1 15) 1 (vp_nar .boolean 0))))) (q_let ((q_sA s 15 (upd (s.1 15) 4 (vp_nar .boolean 0)))) fun r1455 => q_let (dz_M206 (q_sA r1455 15 (upd (r1455.1 15) 0 (vp_nar .boolean 0))) a2 6) fun r1456 => cond r1456 (q_let ((q_sA r1455 15 (upd (r1455.1 15) 0 (vp_nar .boolean 0)))) fun r1457 => some (q_sA r1457 15 (upd (r1457.1 15) 1 (vp_nar .boolean 1)))) (q_let ((q_sA r1455 15 (upd (r1455.1 15) 0 (vp_nar .boolean 0)))) fun r1458 => some (q_sA r1458 15 (upd (r1458.1 15) 1 (vp_nar .boolean 0))))))) ((dz_M262_64 s 0 a2).bind fun r1459 => some (q_sA r1459 14 (upd (r1459.1 14) 1 a2))))))))))))))))))))
set_option maxHeartbeats 4000000 in
theorem dzt_M269_64 (s : q_S) (c n : Nat) (a1 : Int32) (a2 : Int32) (x : q_S) (h : dz_M269_64 s a1 a2 = some x) : q_Ca q_TB0 4 268 [.ref 64, .int a1, .int a2] (q_kM s c n) ((q_oSM c n) x) := by
  refine q_CaP_of (φ := (q_oSM c n)) (Nat.le_of_ble_eq_true rfl) ?_ h
  clear h
  unfold dz_M269_64
  refine q_RP_seg (g2 := (1, [(0, .ref 64), (1, .int a1), (2, .int a2)], [.int a1], (q_kM s c n))) 1 (fun _ _ => rfl) ?_
  cases h1453 : decide (a1 < 0) with
  | true =>
    refine q_RP_cT ?_
    refine q_RP_st1 (g2 := (220, [(0, .ref 64), (1, .int a1), (2, .int a2)], [], (q_kM s c n))) rfl (if_pos (Or.inl (Int32.lt_iff_toInt_lt.mp (of_decide_eq_true h1453)))) ?_
    refine q_RP_seg (g2 := (231, [(0, .ref 64), (1, .int a1), (2, .int a2)], [.int ((s.1 14) 0), .int 4, .ref 79], (q_kM s c n))) 7 (fun _ _ => rfl) ?_
    refine q_RP_seg (g2 := (233, [(0, .ref 64), (1, .int a1), (2, .int a2)], [.int (((s.1 14) 0) &&& a2), .int 4, .ref 79], (q_kM s c n))) 2 (fun _ _ => rfl) ?_
    cases h1454 : decide (((s.1 14) 0) &&& a2 = 0) with
    | true =>
      refine q_RP_cT ?_
      refine q_RP_rsF (g2 := (236, [(0, .ref 64), (1, .int a1), (2, .int a2)], [.int 4, .ref 79], (q_kM s c n))) rfl rfl (q_d_neT h1454) ?_
      refine q_RP_seg (g2 := (250, [(0, .ref 64), (1, .int a1), (2, .int a2)], [.int 7, .int a2, .int 0, .ref 79], (q_kM (q_sA s 15 (upd (s.1 15) 4 (vp_nar .boolean 1))) c n))) 8 (fun _ _ => rfl) ?_
      refine q_RP_call (v := (some (.int (q_b (dz_M206 (q_sA s 15 (upd (s.1 15) 4 (vp_nar .boolean 1))) a2 7))))) (h2 := (q_kM (q_sA s 15 (upd (s.1 15) 4 (vp_nar .boolean 1))) c n)) rfl rfl ((dzt_M206 (q_sA s 15 (upd (s.1 15) 4 (vp_nar .boolean 1))) c n a2 7).le (Nat.le_of_ble_eq_true rfl)) ?_
      generalize dz_M206 (q_sA s 15 (upd (s.1 15) 4 (vp_nar .boolean 1))) a2 7 = r1314
      refine q_RP_let ?_
      show q_RP _ _ _ (253, [(0, .ref 64), (1, .int a1), (2, .int a2)], [.int (q_b r1314), .int 0, .ref 79], (q_kM (q_sA s 15 (upd (s.1 15) 4 (vp_nar .boolean 1))) c n)) _ _
      cases h1455 : r1314 with
      | true =>
        refine q_RP_cT ?_
        show q_RP _ _ _ (253, [(0, .ref 64), (1, .int a1), (2, .int a2)], [.int 1, .int 0, .ref 79], (q_kM (q_sA s 15 (upd (s.1 15) 4 (vp_nar .boolean 1))) c n)) _ _
        generalize (q_sA s 15 (upd (s.1 15) 4 (vp_nar .boolean 1))) = r1315
        refine q_RP_let ?_
        show q_RP _ _ _ (253, [(0, .ref 64), (1, .int a1), (2, .int a2)], [.int 1, .int 0, .ref 79], (q_kM r1315 c n)) _ _
        refine q_RP_seg (g2 := (262, [(0, .ref 64), (1, .int a1), (2, .int a2)], [.int 6, .int a2, .int 1, .ref 79], (q_kM (q_sA r1315 15 (upd (r1315.1 15) 0 (vp_nar .boolean 1))) c n))) 6 (fun _ _ => rfl) ?_
        refine q_RP_call (v := (some (.int (q_b (dz_M206 (q_sA r1315 15 (upd (r1315.1 15) 0 (vp_nar .boolean 1))) a2 6))))) (h2 := (q_kM (q_sA r1315 15 (upd (r1315.1 15) 0 (vp_nar .boolean 1))) c n)) rfl rfl ((dzt_M206 (q_sA r1315 15 (upd (r1315.1 15) 0 (vp_nar .boolean 1))) c n a2 6).le (Nat.le_of_ble_eq_true rfl)) ?_
        generalize dz_M206 (q_sA r1315 15 (upd (r1315.1 15) 0 (vp_nar .boolean 1))) a2 6 = r1316
        refine q_RP_let ?_
        show q_RP _ _ _ (265, [(0, .ref 64), (1, .int a1), (2, .int a2)], [.int (q_b r1316), .int 1, .ref 79], (q_kM (q_sA r1315 15 (upd (r1315.1 15) 0 (vp_nar .boolean 1))) c n)) _ _
        cases h1456 : r1316 with
        | true =>
          refine q_RP_cT ?_
          show q_RP _ _ _ (265, [(0, .ref 64), (1, .int a1), (2, .int a2)], [.int 1, .int 1, .ref 79], (q_kM (q_sA r1315 15 (upd (r1315.1 15) 0 (vp_nar .boolean 1))) c n)) _ _
          generalize (q_sA r1315 15 (upd (r1315.1 15) 0 (vp_nar .boolean 1))) = r1317
          refine q_RP_let ?_
          show q_RP _ _ _ (265, [(0, .ref 64), (1, .int a1), (2, .int a2)], [.int 1, .int 1, .ref 79], (q_kM r1317 c n)) _ _
          refine q_RP_seg (g2 := (266, [(0, .ref 64), (1, .int a1), (2, .int a2)], [], (q_kM (q_sA r1317 15 (upd (r1317.1 15) 1 (vp_nar .boolean 1))) c n))) 1 (fun _ _ => rfl) ?_
          exact q_RP_ret rfl rfl rfl
        | false =>
          refine q_RP_cF ?_
          show q_RP _ _ _ (265, [(0, .ref 64), (1, .int a1), (2, .int a2)], [.int 0, .int 1, .ref 79], (q_kM (q_sA r1315 15 (upd (r1315.1 15) 0 (vp_nar .boolean 1))) c n)) _ _
          generalize (q_sA r1315 15 (upd (r1315.1 15) 0 (vp_nar .boolean 1))) = r1318
          refine q_RP_let ?_
          show q_RP _ _ _ (265, [(0, .ref 64), (1, .int a1), (2, .int a2)], [.int 0, .int 1, .ref 79], (q_kM r1318 c n)) _ _
          refine q_RP_seg (g2 := (266, [(0, .ref 64), (1, .int a1), (2, .int a2)], [], (q_kM (q_sA r1318 15 (upd (r1318.1 15) 1 (vp_nar .boolean 0))) c n))) 1 (fun _ _ => rfl) ?_
          exact q_RP_ret rfl rfl rfl
      | false =>
        refine q_RP_cF ?_
        show q_RP _ _ _ (253, [(0, .ref 64), (1, .int a1), (2, .int a2)], [.int 0, .int 0, .ref 79], (q_kM (q_sA s 15 (upd (s.1 15) 4 (vp_nar .boolean 1))) c n)) _ _
        generalize (q_sA s 15 (upd (s.1 15) 4 (vp_nar .boolean 1))) = r1319
        refine q_RP_let ?_
        show q_RP _ _ _ (253, [(0, .ref 64), (1, .int a1), (2, .int a2)], [.int 0, .int 0, .ref 79], (q_kM r1319 c n)) _ _
        refine q_RP_seg (g2 := (262, [(0, .ref 64), (1, .int a1), (2, .int a2)], [.int 6, .int a2, .int 1, .ref 79], (q_kM (q_sA r1319 15 (upd (r1319.1 15) 0 (vp_nar .boolean 0))) c n))) 6 (fun _ _ => rfl) ?_
        refine q_RP_call (v := (some (.int (q_b (dz_M206 (q_sA r1319 15 (upd (r1319.1 15) 0 (vp_nar .boolean 0))) a2 6))))) (h2 := (q_kM (q_sA r1319 15 (upd (r1319.1 15) 0 (vp_nar .boolean 0))) c n)) rfl rfl ((dzt_M206 (q_sA r1319 15 (upd (r1319.1 15) 0 (vp_nar .boolean 0))) c n a2 6).le (Nat.le_of_ble_eq_true rfl)) ?_
        generalize dz_M206 (q_sA r1319 15 (upd (r1319.1 15) 0 (vp_nar .boolean 0))) a2 6 = r1320
        refine q_RP_let ?_
        show q_RP _ _ _ (265, [(0, .ref 64), (1, .int a1), (2, .int a2)], [.int (q_b r1320), .int 1, .ref 79], (q_kM (q_sA r1319 15 (upd (r1319.1 15) 0 (vp_nar .boolean 0))) c n)) _ _
        cases h1457 : r1320 with
        | true =>
          refine q_RP_cT ?_
          show q_RP _ _ _ (265, [(0, .ref 64), (1, .int a1), (2, .int a2)], [.int 1, .int 1, .ref 79], (q_kM (q_sA r1319 15 (upd (r1319.1 15) 0 (vp_nar .boolean 0))) c n)) _ _
          generalize (q_sA r1319 15 (upd (r1319.1 15) 0 (vp_nar .boolean 0))) = r1321
          refine q_RP_let ?_
          show q_RP _ _ _ (265, [(0, .ref 64), (1, .int a1), (2, .int a2)], [.int 1, .int 1, .ref 79], (q_kM r1321 c n)) _ _
          refine q_RP_seg (g2 := (266, [(0, .ref 64), (1, .int a1), (2, .int a2)], [], (q_kM (q_sA r1321 15 (upd (r1321.1 15) 1 (vp_nar .boolean 1))) c n))) 1 (fun _ _ => rfl) ?_
          exact q_RP_ret rfl rfl rfl
        | false =>
          refine q_RP_cF ?_
          show q_RP _ _ _ (265, [(0, .ref 64), (1, .int a1), (2, .int a2)], [.int 0, .int 1, .ref 79], (q_kM (q_sA r1319 15 (upd (r1319.1 15) 0 (vp_nar .boolean 0))) c n)) _ _
          generalize (q_sA r1319 15 (upd (r1319.1 15) 0 (vp_nar .boolean 0))) = r1322
          refine q_RP_let ?_
          show q_RP _ _ _ (265, [(0, .ref 64), (1, .int a1), (2, .int a2)], [.int 0, .int 1, .ref 79], (q_kM r1322 c n)) _ _
          refine q_RP_seg (g2 := (266, [(0, .ref 64), (1, .int a1), (2, .int a2)], [], (q_kM (q_sA r1322 15 (upd (r1322.1 15) 1 (vp_nar .boolean 0))) c n))) 1 (fun _ _ => rfl) ?_
          exact q_RP_ret rfl rfl rfl
    | false =>
      refine q_RP_cF ?_
      refine q_RP_rsT (g2 := (240, [(0, .ref 64), (1, .int a1), (2, .int a2)], [.int 4, .ref 79], (q_kM s c n))) rfl rfl (q_d_neF h1454) ?_
      refine q_RP_seg (g2 := (250, [(0, .ref 64), (1, .int a1), (2, .int a2)], [.int 7, .int a2, .int 0, .ref 79], (q_kM (q_sA s 15 (upd (s.1 15) 4 (vp_nar .boolean 0))) c n))) 7 (fun _ _ => rfl) ?_
      refine q_RP_call (v := (some (.int (q_b (dz_M206 (q_sA s 15 (upd (s.1 15) 4 (vp_nar .boolean 0))) a2 7))))) (h2 := (q_kM (q_sA s 15 (upd (s.1 15) 4 (vp_nar .boolean 0))) c n)) rfl rfl ((dzt_M206 (q_sA s 15 (upd (s.1 15) 4 (vp_nar .boolean 0))) c n a2 7).le (Nat.le_of_ble_eq_true rfl)) ?_
      generalize dz_M206 (q_sA s 15 (upd (s.1 15) 4 (vp_nar .boolean 0))) a2 7 = r1323
      refine q_RP_let ?_
      show q_RP _ _ _ (253, [(0, .ref 64), (1, .int a1), (2, .int a2)], [.int (q_b r1323), .int 0, .ref 79], (q_kM (q_sA s 15 (upd (s.1 15) 4 (vp_nar .boolean 0))) c n)) _ _
      cases h1458 : r1323 with
      | true =>
        refine q_RP_cT ?_
        show q_RP _ _ _ (253, [(0, .ref 64), (1, .int a1), (2, .int a2)], [.int 1, .int 0, .ref 79], (q_kM (q_sA s 15 (upd (s.1 15) 4 (vp_nar .boolean 0))) c n)) _ _
        generalize (q_sA s 15 (upd (s.1 15) 4 (vp_nar .boolean 0))) = r1324
        refine q_RP_let ?_
        show q_RP _ _ _ (253, [(0, .ref 64), (1, .int a1), (2, .int a2)], [.int 1, .int 0, .ref 79], (q_kM r1324 c n)) _ _
        refine q_RP_seg (g2 := (262, [(0, .ref 64), (1, .int a1), (2, .int a2)], [.int 6, .int a2, .int 1, .ref 79], (q_kM (q_sA r1324 15 (upd (r1324.1 15) 0 (vp_nar .boolean 1))) c n))) 6 (fun _ _ => rfl) ?_
        refine q_RP_call (v := (some (.int (q_b (dz_M206 (q_sA r1324 15 (upd (r1324.1 15) 0 (vp_nar .boolean 1))) a2 6))))) (h2 := (q_kM (q_sA r1324 15 (upd (r1324.1 15) 0 (vp_nar .boolean 1))) c n)) rfl rfl ((dzt_M206 (q_sA r1324 15 (upd (r1324.1 15) 0 (vp_nar .boolean 1))) c n a2 6).le (Nat.le_of_ble_eq_true rfl)) ?_
        generalize dz_M206 (q_sA r1324 15 (upd (r1324.1 15) 0 (vp_nar .boolean 1))) a2 6 = r1325
        refine q_RP_let ?_
        show q_RP _ _ _ (265, [(0, .ref 64), (1, .int a1), (2, .int a2)], [.int (q_b r1325), .int 1, .ref 79], (q_kM (q_sA r1324 15 (upd (r1324.1 15) 0 (vp_nar .boolean 1))) c n)) _ _
        cases h1459 : r1325 with
        | true =>
          refine q_RP_cT ?_
          show q_RP _ _ _ (265, [(0, .ref 64), (1, .int a1), (2, .int a2)], [.int 1, .int 1, .ref 79], (q_kM (q_sA r1324 15 (upd (r1324.1 15) 0 (vp_nar .boolean 1))) c n)) _ _
          generalize (q_sA r1324 15 (upd (r1324.1 15) 0 (vp_nar .boolean 1))) = r1326
          refine q_RP_let ?_
          show q_RP _ _ _ (265, [(0, .ref 64), (1, .int a1), (2, .int a2)], [.int 1, .int 1, .ref 79], (q_kM r1326 c n)) _ _
          refine q_RP_seg (g2 := (266, [(0, .ref 64), (1, .int a1), (2, .int a2)], [], (q_kM (q_sA r1326 15 (upd (r1326.1 15) 1 (vp_nar .boolean 1))) c n))) 1 (fun _ _ => rfl) ?_
          exact q_RP_ret rfl rfl rfl
        | false =>
          refine q_RP_cF ?_
          show q_RP _ _ _ (265, [(0, .ref 64), (1, .int a1), (2, .int a2)], [.int 0, .int 1, .ref 79], (q_kM (q_sA r1324 15 (upd (r1324.1 15) 0 (vp_nar .boolean 1))) c n)) _ _
          generalize (q_sA r1324 15 (upd (r1324.1 15) 0 (vp_nar .boolean 1))) = r1327
          refine q_RP_let ?_
          show q_RP _ _ _ (265, [(0, .ref 64), (1, .int a1), (2, .int a2)], [.int 0, .int 1, .ref 79], (q_kM r1327 c n)) _ _
          refine q_RP_seg (g2 := (266, [(0, .ref 64), (1, .int a1), (2, .int a2)], [], (q_kM (q_sA r1327 15 (upd (r1327.1 15) 1 (vp_nar .boolean 0))) c n))) 1 (fun _ _ => rfl) ?_
          exact q_RP_ret rfl rfl rfl
      | false =>
        refine q_RP_cF ?_
        show q_RP _ _ _ (253, [(0, .ref 64), (1, .int a1), (2, .int a2)], [.int 0, .int 0, .ref 79], (q_kM (q_sA s 15 (upd (s.1 15) 4 (vp_nar .boolean 0))) c n)) _ _
        generalize (q_sA s 15 (upd (s.1 15) 4 (vp_nar .boolean 0))) = r1328
        refine q_RP_let ?_
        show q_RP _ _ _ (253, [(0, .ref 64), (1, .int a1), (2, .int a2)], [.int 0, .int 0, .ref 79], (q_kM r1328 c n)) _ _
        refine q_RP_seg (g2 := (262, [(0, .ref 64), (1, .int a1), (2, .int a2)], [.int 6, .int a2, .int 1, .ref 79], (q_kM (q_sA r1328 15 (upd (r1328.1 15) 0 (vp_nar .boolean 0))) c n))) 6 (fun _ _ => rfl) ?_
        refine q_RP_call (v := (some (.int (q_b (dz_M206 (q_sA r1328 15 (upd (r1328.1 15) 0 (vp_nar .boolean 0))) a2 6))))) (h2 := (q_kM (q_sA r1328 15 (upd (r1328.1 15) 0 (vp_nar .boolean 0))) c n)) rfl rfl ((dzt_M206 (q_sA r1328 15 (upd (r1328.1 15) 0 (vp_nar .boolean 0))) c n a2 6).le (Nat.le_of_ble_eq_true rfl)) ?_
        generalize dz_M206 (q_sA r1328 15 (upd (r1328.1 15) 0 (vp_nar .boolean 0))) a2 6 = r1329
        refine q_RP_let ?_
        show q_RP _ _ _ (265, [(0, .ref 64), (1, .int a1), (2, .int a2)], [.int (q_b r1329), .int 1, .ref 79], (q_kM (q_sA r1328 15 (upd (r1328.1 15) 0 (vp_nar .boolean 0))) c n)) _ _
        cases h1460 : r1329 with
        | true =>
          refine q_RP_cT ?_
          show q_RP _ _ _ (265, [(0, .ref 64), (1, .int a1), (2, .int a2)], [.int 1, .int 1, .ref 79], (q_kM (q_sA r1328 15 (upd (r1328.1 15) 0 (vp_nar .boolean 0))) c n)) _ _
          generalize (q_sA r1328 15 (upd (r1328.1 15) 0 (vp_nar .boolean 0))) = r1330
          refine q_RP_let ?_
          show q_RP _ _ _ (265, [(0, .ref 64), (1, .int a1), (2, .int a2)], [.int 1, .int 1, .ref 79], (q_kM r1330 c n)) _ _
          refine q_RP_seg (g2 := (266, [(0, .ref 64), (1, .int a1), (2, .int a2)], [], (q_kM (q_sA r1330 15 (upd (r1330.1 15) 1 (vp_nar .boolean 1))) c n))) 1 (fun _ _ => rfl) ?_
          exact q_RP_ret rfl rfl rfl
        | false =>
          refine q_RP_cF ?_
          show q_RP _ _ _ (265, [(0, .ref 64), (1, .int a1), (2, .int a2)], [.int 0, .int 1, .ref 79], (q_kM (q_sA r1328 15 (upd (r1328.1 15) 0 (vp_nar .boolean 0))) c n)) _ _
          generalize (q_sA r1328 15 (upd (r1328.1 15) 0 (vp_nar .boolean 0))) = r1331
          refine q_RP_let ?_
          show q_RP _ _ _ (265, [(0, .ref 64), (1, .int a1), (2, .int a2)], [.int 0, .int 1, .ref 79], (q_kM r1331 c n)) _ _
          refine q_RP_seg (g2 := (266, [(0, .ref 64), (1, .int a1), (2, .int a2)], [], (q_kM (q_sA r1331 15 (upd (r1331.1 15) 1 (vp_nar .boolean 0))) c n))) 1 (fun _ _ => rfl) ?_
          exact q_RP_ret rfl rfl rfl
  | false =>
    refine q_RP_cF ?_
    cases h1461 : decide (16 < a1) with
    | true =>
      refine q_RP_cT ?_
      refine q_RP_st1 (g2 := (220, [(0, .ref 64), (1, .int a1), (2, .int a2)], [], (q_kM s c n))) rfl (if_pos (Or.inr (Int32.lt_iff_toInt_lt.mp (of_decide_eq_true h1461)))) ?_
      refine q_RP_seg (g2 := (231, [(0, .ref 64), (1, .int a1), (2, .int a2)], [.int ((s.1 14) 0), .int 4, .ref 79], (q_kM s c n))) 7 (fun _ _ => rfl) ?_
      refine q_RP_seg (g2 := (233, [(0, .ref 64), (1, .int a1), (2, .int a2)], [.int (((s.1 14) 0) &&& a2), .int 4, .ref 79], (q_kM s c n))) 2 (fun _ _ => rfl) ?_
      cases h1462 : decide (((s.1 14) 0) &&& a2 = 0) with
      | true =>
        refine q_RP_cT ?_
        refine q_RP_rsF (g2 := (236, [(0, .ref 64), (1, .int a1), (2, .int a2)], [.int 4, .ref 79], (q_kM s c n))) rfl rfl (q_d_neT h1462) ?_
        refine q_RP_seg (g2 := (250, [(0, .ref 64), (1, .int a1), (2, .int a2)], [.int 7, .int a2, .int 0, .ref 79], (q_kM (q_sA s 15 (upd (s.1 15) 4 (vp_nar .boolean 1))) c n))) 8 (fun _ _ => rfl) ?_
        refine q_RP_call (v := (some (.int (q_b (dz_M206 (q_sA s 15 (upd (s.1 15) 4 (vp_nar .boolean 1))) a2 7))))) (h2 := (q_kM (q_sA s 15 (upd (s.1 15) 4 (vp_nar .boolean 1))) c n)) rfl rfl ((dzt_M206 (q_sA s 15 (upd (s.1 15) 4 (vp_nar .boolean 1))) c n a2 7).le (Nat.le_of_ble_eq_true rfl)) ?_
        generalize dz_M206 (q_sA s 15 (upd (s.1 15) 4 (vp_nar .boolean 1))) a2 7 = r1332
        refine q_RP_let ?_
        show q_RP _ _ _ (253, [(0, .ref 64), (1, .int a1), (2, .int a2)], [.int (q_b r1332), .int 0, .ref 79], (q_kM (q_sA s 15 (upd (s.1 15) 4 (vp_nar .boolean 1))) c n)) _ _
        cases h1463 : r1332 with
        | true =>
          refine q_RP_cT ?_
          show q_RP _ _ _ (253, [(0, .ref 64), (1, .int a1), (2, .int a2)], [.int 1, .int 0, .ref 79], (q_kM (q_sA s 15 (upd (s.1 15) 4 (vp_nar .boolean 1))) c n)) _ _
          generalize (q_sA s 15 (upd (s.1 15) 4 (vp_nar .boolean 1))) = r1333
          refine q_RP_let ?_
          show q_RP _ _ _ (253, [(0, .ref 64), (1, .int a1), (2, .int a2)], [.int 1, .int 0, .ref 79], (q_kM r1333 c n)) _ _
          refine q_RP_seg (g2 := (262, [(0, .ref 64), (1, .int a1), (2, .int a2)], [.int 6, .int a2, .int 1, .ref 79], (q_kM (q_sA r1333 15 (upd (r1333.1 15) 0 (vp_nar .boolean 1))) c n))) 6 (fun _ _ => rfl) ?_
          refine q_RP_call (v := (some (.int (q_b (dz_M206 (q_sA r1333 15 (upd (r1333.1 15) 0 (vp_nar .boolean 1))) a2 6))))) (h2 := (q_kM (q_sA r1333 15 (upd (r1333.1 15) 0 (vp_nar .boolean 1))) c n)) rfl rfl ((dzt_M206 (q_sA r1333 15 (upd (r1333.1 15) 0 (vp_nar .boolean 1))) c n a2 6).le (Nat.le_of_ble_eq_true rfl)) ?_
          generalize dz_M206 (q_sA r1333 15 (upd (r1333.1 15) 0 (vp_nar .boolean 1))) a2 6 = r1334
          refine q_RP_let ?_
          show q_RP _ _ _ (265, [(0, .ref 64), (1, .int a1), (2, .int a2)], [.int (q_b r1334), .int 1, .ref 79], (q_kM (q_sA r1333 15 (upd (r1333.1 15) 0 (vp_nar .boolean 1))) c n)) _ _
          cases h1464 : r1334 with
          | true =>
            refine q_RP_cT ?_
            show q_RP _ _ _ (265, [(0, .ref 64), (1, .int a1), (2, .int a2)], [.int 1, .int 1, .ref 79], (q_kM (q_sA r1333 15 (upd (r1333.1 15) 0 (vp_nar .boolean 1))) c n)) _ _
            generalize (q_sA r1333 15 (upd (r1333.1 15) 0 (vp_nar .boolean 1))) = r1335
            refine q_RP_let ?_
            show q_RP _ _ _ (265, [(0, .ref 64), (1, .int a1), (2, .int a2)], [.int 1, .int 1, .ref 79], (q_kM r1335 c n)) _ _
            refine q_RP_seg (g2 := (266, [(0, .ref 64), (1, .int a1), (2, .int a2)], [], (q_kM (q_sA r1335 15 (upd (r1335.1 15) 1 (vp_nar .boolean 1))) c n))) 1 (fun _ _ => rfl) ?_
            exact q_RP_ret rfl rfl rfl
          | false =>
            refine q_RP_cF ?_
            show q_RP _ _ _ (265, [(0, .ref 64), (1, .int a1), (2, .int a2)], [.int 0, .int 1, .ref 79], (q_kM (q_sA r1333 15 (upd (r1333.1 15) 0 (vp_nar .boolean 1))) c n)) _ _
            generalize (q_sA r1333 15 (upd (r1333.1 15) 0 (vp_nar .boolean 1))) = r1336
            refine q_RP_let ?_
            show q_RP _ _ _ (265, [(0, .ref 64), (1, .int a1), (2, .int a2)], [.int 0, .int 1, .ref 79], (q_kM r1336 c n)) _ _
            refine q_RP_seg (g2 := (266, [(0, .ref 64), (1, .int a1), (2, .int a2)], [], (q_kM (q_sA r1336 15 (upd (r1336.1 15) 1 (vp_nar .boolean 0))) c n))) 1 (fun _ _ => rfl) ?_
            exact q_RP_ret rfl rfl rfl
        | false =>
          refine q_RP_cF ?_
          show q_RP _ _ _ (253, [(0, .ref 64), (1, .int a1), (2, .int a2)], [.int 0, .int 0, .ref 79], (q_kM (q_sA s 15 (upd (s.1 15) 4 (vp_nar .boolean 1))) c n)) _ _
          generalize (q_sA s 15 (upd (s.1 15) 4 (vp_nar .boolean 1))) = r1337
          refine q_RP_let ?_
          show q_RP _ _ _ (253, [(0, .ref 64), (1, .int a1), (2, .int a2)], [.int 0, .int 0, .ref 79], (q_kM r1337 c n)) _ _
          refine q_RP_seg (g2 := (262, [(0, .ref 64), (1, .int a1), (2, .int a2)], [.int 6, .int a2, .int 1, .ref 79], (q_kM (q_sA r1337 15 (upd (r1337.1 15) 0 (vp_nar .boolean 0))) c n))) 6 (fun _ _ => rfl) ?_
          refine q_RP_call (v := (some (.int (q_b (dz_M206 (q_sA r1337 15 (upd (r1337.1 15) 0 (vp_nar .boolean 0))) a2 6))))) (h2 := (q_kM (q_sA r1337 15 (upd (r1337.1 15) 0 (vp_nar .boolean 0))) c n)) rfl rfl ((dzt_M206 (q_sA r1337 15 (upd (r1337.1 15) 0 (vp_nar .boolean 0))) c n a2 6).le (Nat.le_of_ble_eq_true rfl)) ?_
          generalize dz_M206 (q_sA r1337 15 (upd (r1337.1 15) 0 (vp_nar .boolean 0))) a2 6 = r1338
          refine q_RP_let ?_
          show q_RP _ _ _ (265, [(0, .ref 64), (1, .int a1), (2, .int a2)], [.int (q_b r1338), .int 1, .ref 79], (q_kM (q_sA r1337 15 (upd (r1337.1 15) 0 (vp_nar .boolean 0))) c n)) _ _
          cases h1465 : r1338 with
          | true =>
            refine q_RP_cT ?_
            show q_RP _ _ _ (265, [(0, .ref 64), (1, .int a1), (2, .int a2)], [.int 1, .int 1, .ref 79], (q_kM (q_sA r1337 15 (upd (r1337.1 15) 0 (vp_nar .boolean 0))) c n)) _ _
            generalize (q_sA r1337 15 (upd (r1337.1 15) 0 (vp_nar .boolean 0))) = r1339
            refine q_RP_let ?_
            show q_RP _ _ _ (265, [(0, .ref 64), (1, .int a1), (2, .int a2)], [.int 1, .int 1, .ref 79], (q_kM r1339 c n)) _ _
            refine q_RP_seg (g2 := (266, [(0, .ref 64), (1, .int a1), (2, .int a2)], [], (q_kM (q_sA r1339 15 (upd (r1339.1 15) 1 (vp_nar .boolean 1))) c n))) 1 (fun _ _ => rfl) ?_
            exact q_RP_ret rfl rfl rfl
          | false =>
            refine q_RP_cF ?_
            show q_RP _ _ _ (265, [(0, .ref 64), (1, .int a1), (2, .int a2)], [.int 0, .int 1, .ref 79], (q_kM (q_sA r1337 15 (upd (r1337.1 15) 0 (vp_nar .boolean 0))) c n)) _ _
            generalize (q_sA r1337 15 (upd (r1337.1 15) 0 (vp_nar .boolean 0))) = r1340
            refine q_RP_let ?_
            show q_RP _ _ _ (265, [(0, .ref 64), (1, .int a1), (2, .int a2)], [.int 0, .int 1, .ref 79], (q_kM r1340 c n)) _ _
            refine q_RP_seg (g2 := (266, [(0, .ref 64), (1, .int a1), (2, .int a2)], [], (q_kM (q_sA r1340 15 (upd (r1340.1 15) 1 (vp_nar .boolean 0))) c n))) 1 (fun _ _ => rfl) ?_
            exact q_RP_ret rfl rfl rfl
      | false =>
        refine q_RP_cF ?_
        refine q_RP_rsT (g2 := (240, [(0, .ref 64), (1, .int a1), (2, .int a2)], [.int 4, .ref 79], (q_kM s c n))) rfl rfl (q_d_neF h1462) ?_
        refine q_RP_seg (g2 := (250, [(0, .ref 64), (1, .int a1), (2, .int a2)], [.int 7, .int a2, .int 0, .ref 79], (q_kM (q_sA s 15 (upd (s.1 15) 4 (vp_nar .boolean 0))) c n))) 7 (fun _ _ => rfl) ?_
        refine q_RP_call (v := (some (.int (q_b (dz_M206 (q_sA s 15 (upd (s.1 15) 4 (vp_nar .boolean 0))) a2 7))))) (h2 := (q_kM (q_sA s 15 (upd (s.1 15) 4 (vp_nar .boolean 0))) c n)) rfl rfl ((dzt_M206 (q_sA s 15 (upd (s.1 15) 4 (vp_nar .boolean 0))) c n a2 7).le (Nat.le_of_ble_eq_true rfl)) ?_
        generalize dz_M206 (q_sA s 15 (upd (s.1 15) 4 (vp_nar .boolean 0))) a2 7 = r1341
        refine q_RP_let ?_
        show q_RP _ _ _ (253, [(0, .ref 64), (1, .int a1), (2, .int a2)], [.int (q_b r1341), .int 0, .ref 79], (q_kM (q_sA s 15 (upd (s.1 15) 4 (vp_nar .boolean 0))) c n)) _ _
        cases h1466 : r1341 with
        | true =>
          refine q_RP_cT ?_
          show q_RP _ _ _ (253, [(0, .ref 64), (1, .int a1), (2, .int a2)], [.int 1, .int 0, .ref 79], (q_kM (q_sA s 15 (upd (s.1 15) 4 (vp_nar .boolean 0))) c n)) _ _
          generalize (q_sA s 15 (upd (s.1 15) 4 (vp_nar .boolean 0))) = r1342
          refine q_RP_let ?_
          show q_RP _ _ _ (253, [(0, .ref 64), (1, .int a1), (2, .int a2)], [.int 1, .int 0, .ref 79], (q_kM r1342 c n)) _ _
          refine q_RP_seg (g2 := (262, [(0, .ref 64), (1, .int a1), (2, .int a2)], [.int 6, .int a2, .int 1, .ref 79], (q_kM (q_sA r1342 15 (upd (r1342.1 15) 0 (vp_nar .boolean 1))) c n))) 6 (fun _ _ => rfl) ?_
          refine q_RP_call (v := (some (.int (q_b (dz_M206 (q_sA r1342 15 (upd (r1342.1 15) 0 (vp_nar .boolean 1))) a2 6))))) (h2 := (q_kM (q_sA r1342 15 (upd (r1342.1 15) 0 (vp_nar .boolean 1))) c n)) rfl rfl ((dzt_M206 (q_sA r1342 15 (upd (r1342.1 15) 0 (vp_nar .boolean 1))) c n a2 6).le (Nat.le_of_ble_eq_true rfl)) ?_
          generalize dz_M206 (q_sA r1342 15 (upd (r1342.1 15) 0 (vp_nar .boolean 1))) a2 6 = r1343
          refine q_RP_let ?_
          show q_RP _ _ _ (265, [(0, .ref 64), (1, .int a1), (2, .int a2)], [.int (q_b r1343), .int 1, .ref 79], (q_kM (q_sA r1342 15 (upd (r1342.1 15) 0 (vp_nar .boolean 1))) c n)) _ _
          cases h1467 : r1343 with
          | true =>
            refine q_RP_cT ?_
            show q_RP _ _ _ (265, [(0, .ref 64), (1, .int a1), (2, .int a2)], [.int 1, .int 1, .ref 79], (q_kM (q_sA r1342 15 (upd (r1342.1 15) 0 (vp_nar .boolean 1))) c n)) _ _
            generalize (q_sA r1342 15 (upd (r1342.1 15) 0 (vp_nar .boolean 1))) = r1344
            refine q_RP_let ?_
            show q_RP _ _ _ (265, [(0, .ref 64), (1, .int a1), (2, .int a2)], [.int 1, .int 1, .ref 79], (q_kM r1344 c n)) _ _
            refine q_RP_seg (g2 := (266, [(0, .ref 64), (1, .int a1), (2, .int a2)], [], (q_kM (q_sA r1344 15 (upd (r1344.1 15) 1 (vp_nar .boolean 1))) c n))) 1 (fun _ _ => rfl) ?_
            exact q_RP_ret rfl rfl rfl
          | false =>
            refine q_RP_cF ?_
            show q_RP _ _ _ (265, [(0, .ref 64), (1, .int a1), (2, .int a2)], [.int 0, .int 1, .ref 79], (q_kM (q_sA r1342 15 (upd (r1342.1 15) 0 (vp_nar .boolean 1))) c n)) _ _
            generalize (q_sA r1342 15 (upd (r1342.1 15) 0 (vp_nar .boolean 1))) = r1345
            refine q_RP_let ?_
            show q_RP _ _ _ (265, [(0, .ref 64), (1, .int a1), (2, .int a2)], [.int 0, .int 1, .ref 79], (q_kM r1345 c n)) _ _
            refine q_RP_seg (g2 := (266, [(0, .ref 64), (1, .int a1), (2, .int a2)], [], (q_kM (q_sA r1345 15 (upd (r1345.1 15) 1 (vp_nar .boolean 0))) c n))) 1 (fun _ _ => rfl) ?_
            exact q_RP_ret rfl rfl rfl
        | false =>
          refine q_RP_cF ?_
          show q_RP _ _ _ (253, [(0, .ref 64), (1, .int a1), (2, .int a2)], [.int 0, .int 0, .ref 79], (q_kM (q_sA s 15 (upd (s.1 15) 4 (vp_nar .boolean 0))) c n)) _ _
          generalize (q_sA s 15 (upd (s.1 15) 4 (vp_nar .boolean 0))) = r1346
          refine q_RP_let ?_
          show q_RP _ _ _ (253, [(0, .ref 64), (1, .int a1), (2, .int a2)], [.int 0, .int 0, .ref 79], (q_kM r1346 c n)) _ _
          refine q_RP_seg (g2 := (262, [(0, .ref 64), (1, .int a1), (2, .int a2)], [.int 6, .int a2, .int 1, .ref 79], (q_kM (q_sA r1346 15 (upd (r1346.1 15) 0 (vp_nar .boolean 0))) c n))) 6 (fun _ _ => rfl) ?_
          refine q_RP_call (v := (some (.int (q_b (dz_M206 (q_sA r1346 15 (upd (r1346.1 15) 0 (vp_nar .boolean 0))) a2 6))))) (h2 := (q_kM (q_sA r1346 15 (upd (r1346.1 15) 0 (vp_nar .boolean 0))) c n)) rfl rfl ((dzt_M206 (q_sA r1346 15 (upd (r1346.1 15) 0 (vp_nar .boolean 0))) c n a2 6).le (Nat.le_of_ble_eq_true rfl)) ?_
          generalize dz_M206 (q_sA r1346 15 (upd (r1346.1 15) 0 (vp_nar .boolean 0))) a2 6 = r1347
          refine q_RP_let ?_
          show q_RP _ _ _ (265, [(0, .ref 64), (1, .int a1), (2, .int a2)], [.int (q_b r1347), .int 1, .ref 79], (q_kM (q_sA r1346 15 (upd (r1346.1 15) 0 (vp_nar .boolean 0))) c n)) _ _
          cases h1468 : r1347 with
          | true =>
            refine q_RP_cT ?_
            show q_RP _ _ _ (265, [(0, .ref 64), (1, .int a1), (2, .int a2)], [.int 1, .int 1, .ref 79], (q_kM (q_sA r1346 15 (upd (r1346.1 15) 0 (vp_nar .boolean 0))) c n)) _ _
            generalize (q_sA r1346 15 (upd (r1346.1 15) 0 (vp_nar .boolean 0))) = r1348
            refine q_RP_let ?_
            show q_RP _ _ _ (265, [(0, .ref 64), (1, .int a1), (2, .int a2)], [.int 1, .int 1, .ref 79], (q_kM r1348 c n)) _ _
            refine q_RP_seg (g2 := (266, [(0, .ref 64), (1, .int a1), (2, .int a2)], [], (q_kM (q_sA r1348 15 (upd (r1348.1 15) 1 (vp_nar .boolean 1))) c n))) 1 (fun _ _ => rfl) ?_
            exact q_RP_ret rfl rfl rfl
          | false =>
            refine q_RP_cF ?_
            show q_RP _ _ _ (265, [(0, .ref 64), (1, .int a1), (2, .int a2)], [.int 0, .int 1, .ref 79], (q_kM (q_sA r1346 15 (upd (r1346.1 15) 0 (vp_nar .boolean 0))) c n)) _ _
            generalize (q_sA r1346 15 (upd (r1346.1 15) 0 (vp_nar .boolean 0))) = r1349
            refine q_RP_let ?_
            show q_RP _ _ _ (265, [(0, .ref 64), (1, .int a1), (2, .int a2)], [.int 0, .int 1, .ref 79], (q_kM r1349 c n)) _ _
            refine q_RP_seg (g2 := (266, [(0, .ref 64), (1, .int a1), (2, .int a2)], [], (q_kM (q_sA r1349 15 (upd (r1349.1 15) 1 (vp_nar .boolean 0))) c n))) 1 (fun _ _ => rfl) ?_
            exact q_RP_ret rfl rfl rfl
    | false =>
      refine q_RP_cF ?_
      cases h1469 : decide (a1 = 0) with
      | true =>
        refine q_RP_cT ?_
        refine q_RP_st1 (g2 := (84, [(0, .ref 64), (1, .int a1), (2, .int a2)], [], (q_kM s c n))) rfl (by rw [of_decide_eq_true h1469]; rfl) ?_
        refine q_RP_seg (g2 := (87, [(0, .ref 64), (1, .int a1), (2, .int a2)], [.int a2, .int 0, .ref 64], (q_kM s c n))) 3 (fun _ _ => rfl) ?_
        refine q_RP_bd fun r1350 er1350 => ?_
        refine q_RP_call (v := none) (h2 := (q_kM r1350 c n)) rfl rfl ((dzt_M262_64 s c n 0 a2 r1350 er1350).le (Nat.le_of_ble_eq_true rfl)) ?_
        show q_RP _ _ _ (90, [(0, .ref 64), (1, .int a1), (2, .int a2)], [], (q_kM r1350 c n)) _ _
        refine q_RP_seg (g2 := (266, [(0, .ref 64), (1, .int a1), (2, .int a2)], [], (q_kM r1350 c n))) 1 (fun _ _ => rfl) ?_
        exact q_RP_ret rfl rfl rfl
      | false =>
        refine q_RP_cF ?_
        cases h1470 : decide (a1 = 1) with
        | true =>
          refine q_RP_cT ?_
          refine q_RP_st1 (g2 := (93, [(0, .ref 64), (1, .int a1), (2, .int a2)], [], (q_kM s c n))) rfl (by rw [of_decide_eq_true h1470]; rfl) ?_
          refine q_RP_seg (g2 := (96, [(0, .ref 64), (1, .int a1), (2, .int a2)], [.int a2, .int 1, .ref 64], (q_kM s c n))) 3 (fun _ _ => rfl) ?_
          refine q_RP_bd fun r1351 er1351 => ?_
          refine q_RP_call (v := none) (h2 := (q_kM r1351 c n)) rfl rfl ((dzt_M262_64 s c n 1 a2 r1351 er1351).le (Nat.le_of_ble_eq_true rfl)) ?_
          show q_RP _ _ _ (99, [(0, .ref 64), (1, .int a1), (2, .int a2)], [], (q_kM r1351 c n)) _ _
          refine q_RP_seg (g2 := (266, [(0, .ref 64), (1, .int a1), (2, .int a2)], [], (q_kM r1351 c n))) 1 (fun _ _ => rfl) ?_
          exact q_RP_ret rfl rfl rfl
        | false =>
          refine q_RP_cF ?_
          cases h1471 : decide (a1 = 2) with
          | true =>
            refine q_RP_cT ?_
            refine q_RP_st1 (g2 := (102, [(0, .ref 64), (1, .int a1), (2, .int a2)], [], (q_kM s c n))) rfl (by rw [of_decide_eq_true h1471]; rfl) ?_
            refine q_RP_seg (g2 := (105, [(0, .ref 64), (1, .int a1), (2, .int a2)], [.int a2, .int 2, .ref 64], (q_kM s c n))) 3 (fun _ _ => rfl) ?_
            refine q_RP_bd fun r1352 er1352 => ?_
            refine q_RP_call (v := none) (h2 := (q_kM r1352 c n)) rfl rfl ((dzt_M262_64 s c n 2 a2 r1352 er1352).le (Nat.le_of_ble_eq_true rfl)) ?_
            show q_RP _ _ _ (108, [(0, .ref 64), (1, .int a1), (2, .int a2)], [], (q_kM r1352 c n)) _ _
            refine q_RP_seg (g2 := (266, [(0, .ref 64), (1, .int a1), (2, .int a2)], [], (q_kM r1352 c n))) 1 (fun _ _ => rfl) ?_
            exact q_RP_ret rfl rfl rfl
          | false =>
            refine q_RP_cF ?_
            cases h1472 : decide (a1 = 3) with
            | true =>
              refine q_RP_cT ?_
              refine q_RP_st1 (g2 := (220, [(0, .ref 64), (1, .int a1), (2, .int a2)], [], (q_kM s c n))) rfl (by rw [of_decide_eq_true h1472]; rfl) ?_
              refine q_RP_seg (g2 := (231, [(0, .ref 64), (1, .int a1), (2, .int a2)], [.int ((s.1 14) 0), .int 4, .ref 79], (q_kM s c n))) 7 (fun _ _ => rfl) ?_
              refine q_RP_seg (g2 := (233, [(0, .ref 64), (1, .int a1), (2, .int a2)], [.int (((s.1 14) 0) &&& a2), .int 4, .ref 79], (q_kM s c n))) 2 (fun _ _ => rfl) ?_
              cases h1473 : decide (((s.1 14) 0) &&& a2 = 0) with
              | true =>
                refine q_RP_cT ?_
                refine q_RP_rsF (g2 := (236, [(0, .ref 64), (1, .int a1), (2, .int a2)], [.int 4, .ref 79], (q_kM s c n))) rfl rfl (q_d_neT h1473) ?_
                refine q_RP_seg (g2 := (250, [(0, .ref 64), (1, .int a1), (2, .int a2)], [.int 7, .int a2, .int 0, .ref 79], (q_kM (q_sA s 15 (upd (s.1 15) 4 (vp_nar .boolean 1))) c n))) 8 (fun _ _ => rfl) ?_
                refine q_RP_call (v := (some (.int (q_b (dz_M206 (q_sA s 15 (upd (s.1 15) 4 (vp_nar .boolean 1))) a2 7))))) (h2 := (q_kM (q_sA s 15 (upd (s.1 15) 4 (vp_nar .boolean 1))) c n)) rfl rfl ((dzt_M206 (q_sA s 15 (upd (s.1 15) 4 (vp_nar .boolean 1))) c n a2 7).le (Nat.le_of_ble_eq_true rfl)) ?_
                generalize dz_M206 (q_sA s 15 (upd (s.1 15) 4 (vp_nar .boolean 1))) a2 7 = r1353
                refine q_RP_let ?_
                show q_RP _ _ _ (253, [(0, .ref 64), (1, .int a1), (2, .int a2)], [.int (q_b r1353), .int 0, .ref 79], (q_kM (q_sA s 15 (upd (s.1 15) 4 (vp_nar .boolean 1))) c n)) _ _
                cases h1474 : r1353 with
                | true =>
                  refine q_RP_cT ?_
                  show q_RP _ _ _ (253, [(0, .ref 64), (1, .int a1), (2, .int a2)], [.int 1, .int 0, .ref 79], (q_kM (q_sA s 15 (upd (s.1 15) 4 (vp_nar .boolean 1))) c n)) _ _
                  generalize (q_sA s 15 (upd (s.1 15) 4 (vp_nar .boolean 1))) = r1354
                  refine q_RP_let ?_
                  show q_RP _ _ _ (253, [(0, .ref 64), (1, .int a1), (2, .int a2)], [.int 1, .int 0, .ref 79], (q_kM r1354 c n)) _ _
                  refine q_RP_seg (g2 := (262, [(0, .ref 64), (1, .int a1), (2, .int a2)], [.int 6, .int a2, .int 1, .ref 79], (q_kM (q_sA r1354 15 (upd (r1354.1 15) 0 (vp_nar .boolean 1))) c n))) 6 (fun _ _ => rfl) ?_
                  refine q_RP_call (v := (some (.int (q_b (dz_M206 (q_sA r1354 15 (upd (r1354.1 15) 0 (vp_nar .boolean 1))) a2 6))))) (h2 := (q_kM (q_sA r1354 15 (upd (r1354.1 15) 0 (vp_nar .boolean 1))) c n)) rfl rfl ((dzt_M206 (q_sA r1354 15 (upd (r1354.1 15) 0 (vp_nar .boolean 1))) c n a2 6).le (Nat.le_of_ble_eq_true rfl)) ?_
                  generalize dz_M206 (q_sA r1354 15 (upd (r1354.1 15) 0 (vp_nar .boolean 1))) a2 6 = r1355
                  refine q_RP_let ?_
                  show q_RP _ _ _ (265, [(0, .ref 64), (1, .int a1), (2, .int a2)], [.int (q_b r1355), .int 1, .ref 79], (q_kM (q_sA r1354 15 (upd (r1354.1 15) 0 (vp_nar .boolean 1))) c n)) _ _
                  cases h1475 : r1355 with
                  | true =>
                    refine q_RP_cT ?_
                    show q_RP _ _ _ (265, [(0, .ref 64), (1, .int a1), (2, .int a2)], [.int 1, .int 1, .ref 79], (q_kM (q_sA r1354 15 (upd (r1354.1 15) 0 (vp_nar .boolean 1))) c n)) _ _
                    generalize (q_sA r1354 15 (upd (r1354.1 15) 0 (vp_nar .boolean 1))) = r1356
                    refine q_RP_let ?_
                    show q_RP _ _ _ (265, [(0, .ref 64), (1, .int a1), (2, .int a2)], [.int 1, .int 1, .ref 79], (q_kM r1356 c n)) _ _
                    refine q_RP_seg (g2 := (266, [(0, .ref 64), (1, .int a1), (2, .int a2)], [], (q_kM (q_sA r1356 15 (upd (r1356.1 15) 1 (vp_nar .boolean 1))) c n))) 1 (fun _ _ => rfl) ?_
                    exact q_RP_ret rfl rfl rfl
                  | false =>
                    refine q_RP_cF ?_
                    show q_RP _ _ _ (265, [(0, .ref 64), (1, .int a1), (2, .int a2)], [.int 0, .int 1, .ref 79], (q_kM (q_sA r1354 15 (upd (r1354.1 15) 0 (vp_nar .boolean 1))) c n)) _ _
                    generalize (q_sA r1354 15 (upd (r1354.1 15) 0 (vp_nar .boolean 1))) = r1357
                    refine q_RP_let ?_
                    show q_RP _ _ _ (265, [(0, .ref 64), (1, .int a1), (2, .int a2)], [.int 0, .int 1, .ref 79], (q_kM r1357 c n)) _ _
                    refine q_RP_seg (g2 := (266, [(0, .ref 64), (1, .int a1), (2, .int a2)], [], (q_kM (q_sA r1357 15 (upd (r1357.1 15) 1 (vp_nar .boolean 0))) c n))) 1 (fun _ _ => rfl) ?_
                    exact q_RP_ret rfl rfl rfl
                | false =>
                  refine q_RP_cF ?_
                  show q_RP _ _ _ (253, [(0, .ref 64), (1, .int a1), (2, .int a2)], [.int 0, .int 0, .ref 79], (q_kM (q_sA s 15 (upd (s.1 15) 4 (vp_nar .boolean 1))) c n)) _ _
                  generalize (q_sA s 15 (upd (s.1 15) 4 (vp_nar .boolean 1))) = r1358
                  refine q_RP_let ?_
                  show q_RP _ _ _ (253, [(0, .ref 64), (1, .int a1), (2, .int a2)], [.int 0, .int 0, .ref 79], (q_kM r1358 c n)) _ _
                  refine q_RP_seg (g2 := (262, [(0, .ref 64), (1, .int a1), (2, .int a2)], [.int 6, .int a2, .int 1, .ref 79], (q_kM (q_sA r1358 15 (upd (r1358.1 15) 0 (vp_nar .boolean 0))) c n))) 6 (fun _ _ => rfl) ?_
                  refine q_RP_call (v := (some (.int (q_b (dz_M206 (q_sA r1358 15 (upd (r1358.1 15) 0 (vp_nar .boolean 0))) a2 6))))) (h2 := (q_kM (q_sA r1358 15 (upd (r1358.1 15) 0 (vp_nar .boolean 0))) c n)) rfl rfl ((dzt_M206 (q_sA r1358 15 (upd (r1358.1 15) 0 (vp_nar .boolean 0))) c n a2 6).le (Nat.le_of_ble_eq_true rfl)) ?_
                  generalize dz_M206 (q_sA r1358 15 (upd (r1358.1 15) 0 (vp_nar .boolean 0))) a2 6 = r1359
                  refine q_RP_let ?_
                  show q_RP _ _ _ (265, [(0, .ref 64), (1, .int a1), (2, .int a2)], [.int (q_b r1359), .int 1, .ref 79], (q_kM (q_sA r1358 15 (upd (r1358.1 15) 0 (vp_nar .boolean 0))) c n)) _ _
                  cases h1476 : r1359 with
                  | true =>
                    refine q_RP_cT ?_
                    show q_RP _ _ _ (265, [(0, .ref 64), (1, .int a1), (2, .int a2)], [.int 1, .int 1, .ref 79], (q_kM (q_sA r1358 15 (upd (r1358.1 15) 0 (vp_nar .boolean 0))) c n)) _ _
                    generalize (q_sA r1358 15 (upd (r1358.1 15) 0 (vp_nar .boolean 0))) = r1360
                    refine q_RP_let ?_
                    show q_RP _ _ _ (265, [(0, .ref 64), (1, .int a1), (2, .int a2)], [.int 1, .int 1, .ref 79], (q_kM r1360 c n)) _ _
                    refine q_RP_seg (g2 := (266, [(0, .ref 64), (1, .int a1), (2, .int a2)], [], (q_kM (q_sA r1360 15 (upd (r1360.1 15) 1 (vp_nar .boolean 1))) c n))) 1 (fun _ _ => rfl) ?_
                    exact q_RP_ret rfl rfl rfl
                  | false =>
                    refine q_RP_cF ?_
                    show q_RP _ _ _ (265, [(0, .ref 64), (1, .int a1), (2, .int a2)], [.int 0, .int 1, .ref 79], (q_kM (q_sA r1358 15 (upd (r1358.1 15) 0 (vp_nar .boolean 0))) c n)) _ _
                    generalize (q_sA r1358 15 (upd (r1358.1 15) 0 (vp_nar .boolean 0))) = r1361
                    refine q_RP_let ?_
                    show q_RP _ _ _ (265, [(0, .ref 64), (1, .int a1), (2, .int a2)], [.int 0, .int 1, .ref 79], (q_kM r1361 c n)) _ _
                    refine q_RP_seg (g2 := (266, [(0, .ref 64), (1, .int a1), (2, .int a2)], [], (q_kM (q_sA r1361 15 (upd (r1361.1 15) 1 (vp_nar .boolean 0))) c n))) 1 (fun _ _ => rfl) ?_
                    exact q_RP_ret rfl rfl rfl
              | false =>
                refine q_RP_cF ?_
                refine q_RP_rsT (g2 := (240, [(0, .ref 64), (1, .int a1), (2, .int a2)], [.int 4, .ref 79], (q_kM s c n))) rfl rfl (q_d_neF h1473) ?_
                refine q_RP_seg (g2 := (250, [(0, .ref 64), (1, .int a1), (2, .int a2)], [.int 7, .int a2, .int 0, .ref 79], (q_kM (q_sA s 15 (upd (s.1 15) 4 (vp_nar .boolean 0))) c n))) 7 (fun _ _ => rfl) ?_
                refine q_RP_call (v := (some (.int (q_b (dz_M206 (q_sA s 15 (upd (s.1 15) 4 (vp_nar .boolean 0))) a2 7))))) (h2 := (q_kM (q_sA s 15 (upd (s.1 15) 4 (vp_nar .boolean 0))) c n)) rfl rfl ((dzt_M206 (q_sA s 15 (upd (s.1 15) 4 (vp_nar .boolean 0))) c n a2 7).le (Nat.le_of_ble_eq_true rfl)) ?_
                generalize dz_M206 (q_sA s 15 (upd (s.1 15) 4 (vp_nar .boolean 0))) a2 7 = r1362
                refine q_RP_let ?_
                show q_RP _ _ _ (253, [(0, .ref 64), (1, .int a1), (2, .int a2)], [.int (q_b r1362), .int 0, .ref 79], (q_kM (q_sA s 15 (upd (s.1 15) 4 (vp_nar .boolean 0))) c n)) _ _
                cases h1477 : r1362 with
                | true =>
                  refine q_RP_cT ?_
                  show q_RP _ _ _ (253, [(0, .ref 64), (1, .int a1), (2, .int a2)], [.int 1, .int 0, .ref 79], (q_kM (q_sA s 15 (upd (s.1 15) 4 (vp_nar .boolean 0))) c n)) _ _
                  generalize (q_sA s 15 (upd (s.1 15) 4 (vp_nar .boolean 0))) = r1363
                  refine q_RP_let ?_
                  show q_RP _ _ _ (253, [(0, .ref 64), (1, .int a1), (2, .int a2)], [.int 1, .int 0, .ref 79], (q_kM r1363 c n)) _ _
                  refine q_RP_seg (g2 := (262, [(0, .ref 64), (1, .int a1), (2, .int a2)], [.int 6, .int a2, .int 1, .ref 79], (q_kM (q_sA r1363 15 (upd (r1363.1 15) 0 (vp_nar .boolean 1))) c n))) 6 (fun _ _ => rfl) ?_
                  refine q_RP_call (v := (some (.int (q_b (dz_M206 (q_sA r1363 15 (upd (r1363.1 15) 0 (vp_nar .boolean 1))) a2 6))))) (h2 := (q_kM (q_sA r1363 15 (upd (r1363.1 15) 0 (vp_nar .boolean 1))) c n)) rfl rfl ((dzt_M206 (q_sA r1363 15 (upd (r1363.1 15) 0 (vp_nar .boolean 1))) c n a2 6).le (Nat.le_of_ble_eq_true rfl)) ?_
                  generalize dz_M206 (q_sA r1363 15 (upd (r1363.1 15) 0 (vp_nar .boolean 1))) a2 6 = r1364
                  refine q_RP_let ?_
                  show q_RP _ _ _ (265, [(0, .ref 64), (1, .int a1), (2, .int a2)], [.int (q_b r1364), .int 1, .ref 79], (q_kM (q_sA r1363 15 (upd (r1363.1 15) 0 (vp_nar .boolean 1))) c n)) _ _
                  cases h1478 : r1364 with
                  | true =>
                    refine q_RP_cT ?_
                    show q_RP _ _ _ (265, [(0, .ref 64), (1, .int a1), (2, .int a2)], [.int 1, .int 1, .ref 79], (q_kM (q_sA r1363 15 (upd (r1363.1 15) 0 (vp_nar .boolean 1))) c n)) _ _
                    generalize (q_sA r1363 15 (upd (r1363.1 15) 0 (vp_nar .boolean 1))) = r1365
                    refine q_RP_let ?_
                    show q_RP _ _ _ (265, [(0, .ref 64), (1, .int a1), (2, .int a2)], [.int 1, .int 1, .ref 79], (q_kM r1365 c n)) _ _
                    refine q_RP_seg (g2 := (266, [(0, .ref 64), (1, .int a1), (2, .int a2)], [], (q_kM (q_sA r1365 15 (upd (r1365.1 15) 1 (vp_nar .boolean 1))) c n))) 1 (fun _ _ => rfl) ?_
                    exact q_RP_ret rfl rfl rfl
                  | false =>
                    refine q_RP_cF ?_
                    show q_RP _ _ _ (265, [(0, .ref 64), (1, .int a1), (2, .int a2)], [.int 0, .int 1, .ref 79], (q_kM (q_sA r1363 15 (upd (r1363.1 15) 0 (vp_nar .boolean 1))) c n)) _ _
                    generalize (q_sA r1363 15 (upd (r1363.1 15) 0 (vp_nar .boolean 1))) = r1366
                    refine q_RP_let ?_
                    show q_RP _ _ _ (265, [(0, .ref 64), (1, .int a1), (2, .int a2)], [.int 0, .int 1, .ref 79], (q_kM r1366 c n)) _ _
                    refine q_RP_seg (g2 := (266, [(0, .ref 64), (1, .int a1), (2, .int a2)], [], (q_kM (q_sA r1366 15 (upd (r1366.1 15) 1 (vp_nar .boolean 0))) c n))) 1 (fun _ _ => rfl) ?_
                    exact q_RP_ret rfl rfl rfl
                | false =>
                  refine q_RP_cF ?_
                  show q_RP _ _ _ (253, [(0, .ref 64), (1, .int a1), (2, .int a2)], [.int 0, .int 0, .ref 79], (q_kM (q_sA s 15 (upd (s.1 15) 4 (vp_nar .boolean 0))) c n)) _ _
                  generalize (q_sA s 15 (upd (s.1 15) 4 (vp_nar .boolean 0))) = r1367
                  refine q_RP_let ?_
                  show q_RP _ _ _ (253, [(0, .ref 64), (1, .int a1), (2, .int a2)], [.int 0, .int 0, .ref 79], (q_kM r1367 c n)) _ _
                  refine q_RP_seg (g2 := (262, [(0, .ref 64), (1, .int a1), (2, .int a2)], [.int 6, .int a2, .int 1, .ref 79], (q_kM (q_sA r1367 15 (upd (r1367.1 15) 0 (vp_nar .boolean 0))) c n))) 6 (fun _ _ => rfl) ?_
                  refine q_RP_call (v := (some (.int (q_b (dz_M206 (q_sA r1367 15 (upd (r1367.1 15) 0 (vp_nar .boolean 0))) a2 6))))) (h2 := (q_kM (q_sA r1367 15 (upd (r1367.1 15) 0 (vp_nar .boolean 0))) c n)) rfl rfl ((dzt_M206 (q_sA r1367 15 (upd (r1367.1 15) 0 (vp_nar .boolean 0))) c n a2 6).le (Nat.le_of_ble_eq_true rfl)) ?_
                  generalize dz_M206 (q_sA r1367 15 (upd (r1367.1 15) 0 (vp_nar .boolean 0))) a2 6 = r1368
                  refine q_RP_let ?_
                  show q_RP _ _ _ (265, [(0, .ref 64), (1, .int a1), (2, .int a2)], [.int (q_b r1368), .int 1, .ref 79], (q_kM (q_sA r1367 15 (upd (r1367.1 15) 0 (vp_nar .boolean 0))) c n)) _ _
                  cases h1479 : r1368 with
                  | true =>
                    refine q_RP_cT ?_
                    show q_RP _ _ _ (265, [(0, .ref 64), (1, .int a1), (2, .int a2)], [.int 1, .int 1, .ref 79], (q_kM (q_sA r1367 15 (upd (r1367.1 15) 0 (vp_nar .boolean 0))) c n)) _ _
                    generalize (q_sA r1367 15 (upd (r1367.1 15) 0 (vp_nar .boolean 0))) = r1369
                    refine q_RP_let ?_
                    show q_RP _ _ _ (265, [(0, .ref 64), (1, .int a1), (2, .int a2)], [.int 1, .int 1, .ref 79], (q_kM r1369 c n)) _ _
                    refine q_RP_seg (g2 := (266, [(0, .ref 64), (1, .int a1), (2, .int a2)], [], (q_kM (q_sA r1369 15 (upd (r1369.1 15) 1 (vp_nar .boolean 1))) c n))) 1 (fun _ _ => rfl) ?_
                    exact q_RP_ret rfl rfl rfl
                  | false =>
                    refine q_RP_cF ?_
                    show q_RP _ _ _ (265, [(0, .ref 64), (1, .int a1), (2, .int a2)], [.int 0, .int 1, .ref 79], (q_kM (q_sA r1367 15 (upd (r1367.1 15) 0 (vp_nar .boolean 0))) c n)) _ _
                    generalize (q_sA r1367 15 (upd (r1367.1 15) 0 (vp_nar .boolean 0))) = r1370
                    refine q_RP_let ?_
                    show q_RP _ _ _ (265, [(0, .ref 64), (1, .int a1), (2, .int a2)], [.int 0, .int 1, .ref 79], (q_kM r1370 c n)) _ _
                    refine q_RP_seg (g2 := (266, [(0, .ref 64), (1, .int a1), (2, .int a2)], [], (q_kM (q_sA r1370 15 (upd (r1370.1 15) 1 (vp_nar .boolean 0))) c n))) 1 (fun _ _ => rfl) ?_
                    exact q_RP_ret rfl rfl rfl
            | false =>
              refine q_RP_cF ?_
              cases h1480 : decide (a1 = 4) with
              | true =>
                refine q_RP_cT ?_
                refine q_RP_st1 (g2 := (220, [(0, .ref 64), (1, .int a1), (2, .int a2)], [], (q_kM s c n))) rfl (by rw [of_decide_eq_true h1480]; rfl) ?_
                refine q_RP_seg (g2 := (231, [(0, .ref 64), (1, .int a1), (2, .int a2)], [.int ((s.1 14) 0), .int 4, .ref 79], (q_kM s c n))) 7 (fun _ _ => rfl) ?_
                refine q_RP_seg (g2 := (233, [(0, .ref 64), (1, .int a1), (2, .int a2)], [.int (((s.1 14) 0) &&& a2), .int 4, .ref 79], (q_kM s c n))) 2 (fun _ _ => rfl) ?_
                cases h1481 : decide (((s.1 14) 0) &&& a2 = 0) with
                | true =>
                  refine q_RP_cT ?_
                  refine q_RP_rsF (g2 := (236, [(0, .ref 64), (1, .int a1), (2, .int a2)], [.int 4, .ref 79], (q_kM s c n))) rfl rfl (q_d_neT h1481) ?_
                  refine q_RP_seg (g2 := (250, [(0, .ref 64), (1, .int a1), (2, .int a2)], [.int 7, .int a2, .int 0, .ref 79], (q_kM (q_sA s 15 (upd (s.1 15) 4 (vp_nar .boolean 1))) c n))) 8 (fun _ _ => rfl) ?_
                  refine q_RP_call (v := (some (.int (q_b (dz_M206 (q_sA s 15 (upd (s.1 15) 4 (vp_nar .boolean 1))) a2 7))))) (h2 := (q_kM (q_sA s 15 (upd (s.1 15) 4 (vp_nar .boolean 1))) c n)) rfl rfl ((dzt_M206 (q_sA s 15 (upd (s.1 15) 4 (vp_nar .boolean 1))) c n a2 7).le (Nat.le_of_ble_eq_true rfl)) ?_
                  generalize dz_M206 (q_sA s 15 (upd (s.1 15) 4 (vp_nar .boolean 1))) a2 7 = r1371
                  refine q_RP_let ?_
                  show q_RP _ _ _ (253, [(0, .ref 64), (1, .int a1), (2, .int a2)], [.int (q_b r1371), .int 0, .ref 79], (q_kM (q_sA s 15 (upd (s.1 15) 4 (vp_nar .boolean 1))) c n)) _ _
                  cases h1482 : r1371 with
                  | true =>
                    refine q_RP_cT ?_
                    show q_RP _ _ _ (253, [(0, .ref 64), (1, .int a1), (2, .int a2)], [.int 1, .int 0, .ref 79], (q_kM (q_sA s 15 (upd (s.1 15) 4 (vp_nar .boolean 1))) c n)) _ _
                    generalize (q_sA s 15 (upd (s.1 15) 4 (vp_nar .boolean 1))) = r1372
                    refine q_RP_let ?_
                    show q_RP _ _ _ (253, [(0, .ref 64), (1, .int a1), (2, .int a2)], [.int 1, .int 0, .ref 79], (q_kM r1372 c n)) _ _
                    refine q_RP_seg (g2 := (262, [(0, .ref 64), (1, .int a1), (2, .int a2)], [.int 6, .int a2, .int 1, .ref 79], (q_kM (q_sA r1372 15 (upd (r1372.1 15) 0 (vp_nar .boolean 1))) c n))) 6 (fun _ _ => rfl) ?_
                    refine q_RP_call (v := (some (.int (q_b (dz_M206 (q_sA r1372 15 (upd (r1372.1 15) 0 (vp_nar .boolean 1))) a2 6))))) (h2 := (q_kM (q_sA r1372 15 (upd (r1372.1 15) 0 (vp_nar .boolean 1))) c n)) rfl rfl ((dzt_M206 (q_sA r1372 15 (upd (r1372.1 15) 0 (vp_nar .boolean 1))) c n a2 6).le (Nat.le_of_ble_eq_true rfl)) ?_
                    generalize dz_M206 (q_sA r1372 15 (upd (r1372.1 15) 0 (vp_nar .boolean 1))) a2 6 = r1373
                    refine q_RP_let ?_
                    show q_RP _ _ _ (265, [(0, .ref 64), (1, .int a1), (2, .int a2)], [.int (q_b r1373), .int 1, .ref 79], (q_kM (q_sA r1372 15 (upd (r1372.1 15) 0 (vp_nar .boolean 1))) c n)) _ _
                    cases h1483 : r1373 with
                    | true =>
                      refine q_RP_cT ?_
                      show q_RP _ _ _ (265, [(0, .ref 64), (1, .int a1), (2, .int a2)], [.int 1, .int 1, .ref 79], (q_kM (q_sA r1372 15 (upd (r1372.1 15) 0 (vp_nar .boolean 1))) c n)) _ _
                      generalize (q_sA r1372 15 (upd (r1372.1 15) 0 (vp_nar .boolean 1))) = r1374
                      refine q_RP_let ?_
                      show q_RP _ _ _ (265, [(0, .ref 64), (1, .int a1), (2, .int a2)], [.int 1, .int 1, .ref 79], (q_kM r1374 c n)) _ _
                      refine q_RP_seg (g2 := (266, [(0, .ref 64), (1, .int a1), (2, .int a2)], [], (q_kM (q_sA r1374 15 (upd (r1374.1 15) 1 (vp_nar .boolean 1))) c n))) 1 (fun _ _ => rfl) ?_
                      exact q_RP_ret rfl rfl rfl
                    | false =>
                      refine q_RP_cF ?_
                      show q_RP _ _ _ (265, [(0, .ref 64), (1, .int a1), (2, .int a2)], [.int 0, .int 1, .ref 79], (q_kM (q_sA r1372 15 (upd (r1372.1 15) 0 (vp_nar .boolean 1))) c n)) _ _
                      generalize (q_sA r1372 15 (upd (r1372.1 15) 0 (vp_nar .boolean 1))) = r1375
                      refine q_RP_let ?_
                      show q_RP _ _ _ (265, [(0, .ref 64), (1, .int a1), (2, .int a2)], [.int 0, .int 1, .ref 79], (q_kM r1375 c n)) _ _
                      refine q_RP_seg (g2 := (266, [(0, .ref 64), (1, .int a1), (2, .int a2)], [], (q_kM (q_sA r1375 15 (upd (r1375.1 15) 1 (vp_nar .boolean 0))) c n))) 1 (fun _ _ => rfl) ?_
                      exact q_RP_ret rfl rfl rfl
                  | false =>
                    refine q_RP_cF ?_
                    show q_RP _ _ _ (253, [(0, .ref 64), (1, .int a1), (2, .int a2)], [.int 0, .int 0, .ref 79], (q_kM (q_sA s 15 (upd (s.1 15) 4 (vp_nar .boolean 1))) c n)) _ _
                    generalize (q_sA s 15 (upd (s.1 15) 4 (vp_nar .boolean 1))) = r1376
                    refine q_RP_let ?_
                    show q_RP _ _ _ (253, [(0, .ref 64), (1, .int a1), (2, .int a2)], [.int 0, .int 0, .ref 79], (q_kM r1376 c n)) _ _
                    refine q_RP_seg (g2 := (262, [(0, .ref 64), (1, .int a1), (2, .int a2)], [.int 6, .int a2, .int 1, .ref 79], (q_kM (q_sA r1376 15 (upd (r1376.1 15) 0 (vp_nar .boolean 0))) c n))) 6 (fun _ _ => rfl) ?_
                    refine q_RP_call (v := (some (.int (q_b (dz_M206 (q_sA r1376 15 (upd (r1376.1 15) 0 (vp_nar .boolean 0))) a2 6))))) (h2 := (q_kM (q_sA r1376 15 (upd (r1376.1 15) 0 (vp_nar .boolean 0))) c n)) rfl rfl ((dzt_M206 (q_sA r1376 15 (upd (r1376.1 15) 0 (vp_nar .boolean 0))) c n a2 6).le (Nat.le_of_ble_eq_true rfl)) ?_
                    generalize dz_M206 (q_sA r1376 15 (upd (r1376.1 15) 0 (vp_nar .boolean 0))) a2 6 = r1377
                    refine q_RP_let ?_
                    show q_RP _ _ _ (265, [(0, .ref 64), (1, .int a1), (2, .int a2)], [.int (q_b r1377), .int 1, .ref 79], (q_kM (q_sA r1376 15 (upd (r1376.1 15) 0 (vp_nar .boolean 0))) c n)) _ _
                    cases h1484 : r1377 with
                    | true =>
                      refine q_RP_cT ?_
                      show q_RP _ _ _ (265, [(0, .ref 64), (1, .int a1), (2, .int a2)], [.int 1, .int 1, .ref 79], (q_kM (q_sA r1376 15 (upd (r1376.1 15) 0 (vp_nar .boolean 0))) c n)) _ _
                      generalize (q_sA r1376 15 (upd (r1376.1 15) 0 (vp_nar .boolean 0))) = r1378
                      refine q_RP_let ?_
                      show q_RP _ _ _ (265, [(0, .ref 64), (1, .int a1), (2, .int a2)], [.int 1, .int 1, .ref 79], (q_kM r1378 c n)) _ _
                      refine q_RP_seg (g2 := (266, [(0, .ref 64), (1, .int a1), (2, .int a2)], [], (q_kM (q_sA r1378 15 (upd (r1378.1 15) 1 (vp_nar .boolean 1))) c n))) 1 (fun _ _ => rfl) ?_
                      exact q_RP_ret rfl rfl rfl
                    | false =>
                      refine q_RP_cF ?_
                      show q_RP _ _ _ (265, [(0, .ref 64), (1, .int a1), (2, .int a2)], [.int 0, .int 1, .ref 79], (q_kM (q_sA r1376 15 (upd (r1376.1 15) 0 (vp_nar .boolean 0))) c n)) _ _
                      generalize (q_sA r1376 15 (upd (r1376.1 15) 0 (vp_nar .boolean 0))) = r1379
                      refine q_RP_let ?_
                      show q_RP _ _ _ (265, [(0, .ref 64), (1, .int a1), (2, .int a2)], [.int 0, .int 1, .ref 79], (q_kM r1379 c n)) _ _
                      refine q_RP_seg (g2 := (266, [(0, .ref 64), (1, .int a1), (2, .int a2)], [], (q_kM (q_sA r1379 15 (upd (r1379.1 15) 1 (vp_nar .boolean 0))) c n))) 1 (fun _ _ => rfl) ?_
                      exact q_RP_ret rfl rfl rfl
                | false =>
                  refine q_RP_cF ?_
                  refine q_RP_rsT (g2 := (240, [(0, .ref 64), (1, .int a1), (2, .int a2)], [.int 4, .ref 79], (q_kM s c n))) rfl rfl (q_d_neF h1481) ?_
                  refine q_RP_seg (g2 := (250, [(0, .ref 64), (1, .int a1), (2, .int a2)], [.int 7, .int a2, .int 0, .ref 79], (q_kM (q_sA s 15 (upd (s.1 15) 4 (vp_nar .boolean 0))) c n))) 7 (fun _ _ => rfl) ?_
                  refine q_RP_call (v := (some (.int (q_b (dz_M206 (q_sA s 15 (upd (s.1 15) 4 (vp_nar .boolean 0))) a2 7))))) (h2 := (q_kM (q_sA s 15 (upd (s.1 15) 4 (vp_nar .boolean 0))) c n)) rfl rfl ((dzt_M206 (q_sA s 15 (upd (s.1 15) 4 (vp_nar .boolean 0))) c n a2 7).le (Nat.le_of_ble_eq_true rfl)) ?_
                  generalize dz_M206 (q_sA s 15 (upd (s.1 15) 4 (vp_nar .boolean 0))) a2 7 = r1380
                  refine q_RP_let ?_
                  show q_RP _ _ _ (253, [(0, .ref 64), (1, .int a1), (2, .int a2)], [.int (q_b r1380), .int 0, .ref 79], (q_kM (q_sA s 15 (upd (s.1 15) 4 (vp_nar .boolean 0))) c n)) _ _
                  cases h1485 : r1380 with
                  | true =>
                    refine q_RP_cT ?_
                    show q_RP _ _ _ (253, [(0, .ref 64), (1, .int a1), (2, .int a2)], [.int 1, .int 0, .ref 79], (q_kM (q_sA s 15 (upd (s.1 15) 4 (vp_nar .boolean 0))) c n)) _ _
                    generalize (q_sA s 15 (upd (s.1 15) 4 (vp_nar .boolean 0))) = r1381
                    refine q_RP_let ?_
                    show q_RP _ _ _ (253, [(0, .ref 64), (1, .int a1), (2, .int a2)], [.int 1, .int 0, .ref 79], (q_kM r1381 c n)) _ _
                    refine q_RP_seg (g2 := (262, [(0, .ref 64), (1, .int a1), (2, .int a2)], [.int 6, .int a2, .int 1, .ref 79], (q_kM (q_sA r1381 15 (upd (r1381.1 15) 0 (vp_nar .boolean 1))) c n))) 6 (fun _ _ => rfl) ?_
                    refine q_RP_call (v := (some (.int (q_b (dz_M206 (q_sA r1381 15 (upd (r1381.1 15) 0 (vp_nar .boolean 1))) a2 6))))) (h2 := (q_kM (q_sA r1381 15 (upd (r1381.1 15) 0 (vp_nar .boolean 1))) c n)) rfl rfl ((dzt_M206 (q_sA r1381 15 (upd (r1381.1 15) 0 (vp_nar .boolean 1))) c n a2 6).le (Nat.le_of_ble_eq_true rfl)) ?_
                    generalize dz_M206 (q_sA r1381 15 (upd (r1381.1 15) 0 (vp_nar .boolean 1))) a2 6 = r1382
                    refine q_RP_let ?_
                    show q_RP _ _ _ (265, [(0, .ref 64), (1, .int a1), (2, .int a2)], [.int (q_b r1382), .int 1, .ref 79], (q_kM (q_sA r1381 15 (upd (r1381.1 15) 0 (vp_nar .boolean 1))) c n)) _ _
                    cases h1486 : r1382 with
                    | true =>
                      refine q_RP_cT ?_
                      show q_RP _ _ _ (265, [(0, .ref 64), (1, .int a1), (2, .int a2)], [.int 1, .int 1, .ref 79], (q_kM (q_sA r1381 15 (upd (r1381.1 15) 0 (vp_nar .boolean 1))) c n)) _ _
                      generalize (q_sA r1381 15 (upd (r1381.1 15) 0 (vp_nar .boolean 1))) = r1383
                      refine q_RP_let ?_
                      show q_RP _ _ _ (265, [(0, .ref 64), (1, .int a1), (2, .int a2)], [.int 1, .int 1, .ref 79], (q_kM r1383 c n)) _ _
                      refine q_RP_seg (g2 := (266, [(0, .ref 64), (1, .int a1), (2, .int a2)], [], (q_kM (q_sA r1383 15 (upd (r1383.1 15) 1 (vp_nar .boolean 1))) c n))) 1 (fun _ _ => rfl) ?_
                      exact q_RP_ret rfl rfl rfl
                    | false =>
                      refine q_RP_cF ?_
                      show q_RP _ _ _ (265, [(0, .ref 64), (1, .int a1), (2, .int a2)], [.int 0, .int 1, .ref 79], (q_kM (q_sA r1381 15 (upd (r1381.1 15) 0 (vp_nar .boolean 1))) c n)) _ _
                      generalize (q_sA r1381 15 (upd (r1381.1 15) 0 (vp_nar .boolean 1))) = r1384
                      refine q_RP_let ?_
                      show q_RP _ _ _ (265, [(0, .ref 64), (1, .int a1), (2, .int a2)], [.int 0, .int 1, .ref 79], (q_kM r1384 c n)) _ _
                      refine q_RP_seg (g2 := (266, [(0, .ref 64), (1, .int a1), (2, .int a2)], [], (q_kM (q_sA r1384 15 (upd (r1384.1 15) 1 (vp_nar .boolean 0))) c n))) 1 (fun _ _ => rfl) ?_
                      exact q_RP_ret rfl rfl rfl
                  | false =>
                    refine q_RP_cF ?_
                    show q_RP _ _ _ (253, [(0, .ref 64), (1, .int a1), (2, .int a2)], [.int 0, .int 0, .ref 79], (q_kM (q_sA s 15 (upd (s.1 15) 4 (vp_nar .boolean 0))) c n)) _ _
                    generalize (q_sA s 15 (upd (s.1 15) 4 (vp_nar .boolean 0))) = r1385
                    refine q_RP_let ?_
                    show q_RP _ _ _ (253, [(0, .ref 64), (1, .int a1), (2, .int a2)], [.int 0, .int 0, .ref 79], (q_kM r1385 c n)) _ _
                    refine q_RP_seg (g2 := (262, [(0, .ref 64), (1, .int a1), (2, .int a2)], [.int 6, .int a2, .int 1, .ref 79], (q_kM (q_sA r1385 15 (upd (r1385.1 15) 0 (vp_nar .boolean 0))) c n))) 6 (fun _ _ => rfl) ?_
                    refine q_RP_call (v := (some (.int (q_b (dz_M206 (q_sA r1385 15 (upd (r1385.1 15) 0 (vp_nar .boolean 0))) a2 6))))) (h2 := (q_kM (q_sA r1385 15 (upd (r1385.1 15) 0 (vp_nar .boolean 0))) c n)) rfl rfl ((dzt_M206 (q_sA r1385 15 (upd (r1385.1 15) 0 (vp_nar .boolean 0))) c n a2 6).le (Nat.le_of_ble_eq_true rfl)) ?_
                    generalize dz_M206 (q_sA r1385 15 (upd (r1385.1 15) 0 (vp_nar .boolean 0))) a2 6 = r1386
                    refine q_RP_let ?_
                    show q_RP _ _ _ (265, [(0, .ref 64), (1, .int a1), (2, .int a2)], [.int (q_b r1386), .int 1, .ref 79], (q_kM (q_sA r1385 15 (upd (r1385.1 15) 0 (vp_nar .boolean 0))) c n)) _ _
                    cases h1487 : r1386 with
                    | true =>
                      refine q_RP_cT ?_
                      show q_RP _ _ _ (265, [(0, .ref 64), (1, .int a1), (2, .int a2)], [.int 1, .int 1, .ref 79], (q_kM (q_sA r1385 15 (upd (r1385.1 15) 0 (vp_nar .boolean 0))) c n)) _ _
                      generalize (q_sA r1385 15 (upd (r1385.1 15) 0 (vp_nar .boolean 0))) = r1387
                      refine q_RP_let ?_
                      show q_RP _ _ _ (265, [(0, .ref 64), (1, .int a1), (2, .int a2)], [.int 1, .int 1, .ref 79], (q_kM r1387 c n)) _ _
                      refine q_RP_seg (g2 := (266, [(0, .ref 64), (1, .int a1), (2, .int a2)], [], (q_kM (q_sA r1387 15 (upd (r1387.1 15) 1 (vp_nar .boolean 1))) c n))) 1 (fun _ _ => rfl) ?_
                      exact q_RP_ret rfl rfl rfl
                    | false =>
                      refine q_RP_cF ?_
                      show q_RP _ _ _ (265, [(0, .ref 64), (1, .int a1), (2, .int a2)], [.int 0, .int 1, .ref 79], (q_kM (q_sA r1385 15 (upd (r1385.1 15) 0 (vp_nar .boolean 0))) c n)) _ _
                      generalize (q_sA r1385 15 (upd (r1385.1 15) 0 (vp_nar .boolean 0))) = r1388
                      refine q_RP_let ?_
                      show q_RP _ _ _ (265, [(0, .ref 64), (1, .int a1), (2, .int a2)], [.int 0, .int 1, .ref 79], (q_kM r1388 c n)) _ _
                      refine q_RP_seg (g2 := (266, [(0, .ref 64), (1, .int a1), (2, .int a2)], [], (q_kM (q_sA r1388 15 (upd (r1388.1 15) 1 (vp_nar .boolean 0))) c n))) 1 (fun _ _ => rfl) ?_
                      exact q_RP_ret rfl rfl rfl
              | false =>
                refine q_RP_cF ?_
                cases h1488 : decide (a1 = 5) with
                | true =>
                  refine q_RP_cT ?_
                  refine q_RP_st1 (g2 := (220, [(0, .ref 64), (1, .int a1), (2, .int a2)], [], (q_kM s c n))) rfl (by rw [of_decide_eq_true h1488]; rfl) ?_
                  refine q_RP_seg (g2 := (231, [(0, .ref 64), (1, .int a1), (2, .int a2)], [.int ((s.1 14) 0), .int 4, .ref 79], (q_kM s c n))) 7 (fun _ _ => rfl) ?_
                  refine q_RP_seg (g2 := (233, [(0, .ref 64), (1, .int a1), (2, .int a2)], [.int (((s.1 14) 0) &&& a2), .int 4, .ref 79], (q_kM s c n))) 2 (fun _ _ => rfl) ?_
                  cases h1489 : decide (((s.1 14) 0) &&& a2 = 0) with
                  | true =>
                    refine q_RP_cT ?_
                    refine q_RP_rsF (g2 := (236, [(0, .ref 64), (1, .int a1), (2, .int a2)], [.int 4, .ref 79], (q_kM s c n))) rfl rfl (q_d_neT h1489) ?_
                    refine q_RP_seg (g2 := (250, [(0, .ref 64), (1, .int a1), (2, .int a2)], [.int 7, .int a2, .int 0, .ref 79], (q_kM (q_sA s 15 (upd (s.1 15) 4 (vp_nar .boolean 1))) c n))) 8 (fun _ _ => rfl) ?_
                    refine q_RP_call (v := (some (.int (q_b (dz_M206 (q_sA s 15 (upd (s.1 15) 4 (vp_nar .boolean 1))) a2 7))))) (h2 := (q_kM (q_sA s 15 (upd (s.1 15) 4 (vp_nar .boolean 1))) c n)) rfl rfl ((dzt_M206 (q_sA s 15 (upd (s.1 15) 4 (vp_nar .boolean 1))) c n a2 7).le (Nat.le_of_ble_eq_true rfl)) ?_
                    generalize dz_M206 (q_sA s 15 (upd (s.1 15) 4 (vp_nar .boolean 1))) a2 7 = r1389
                    refine q_RP_let ?_
                    show q_RP _ _ _ (253, [(0, .ref 64), (1, .int a1), (2, .int a2)], [.int (q_b r1389), .int 0, .ref 79], (q_kM (q_sA s 15 (upd (s.1 15) 4 (vp_nar .boolean 1))) c n)) _ _
                    cases h1490 : r1389 with
                    | true =>
                      refine q_RP_cT ?_
                      show q_RP _ _ _ (253, [(0, .ref 64), (1, .int a1), (2, .int a2)], [.int 1, .int 0, .ref 79], (q_kM (q_sA s 15 (upd (s.1 15) 4 (vp_nar .boolean 1))) c n)) _ _
                      generalize (q_sA s 15 (upd (s.1 15) 4 (vp_nar .boolean 1))) = r1390
                      refine q_RP_let ?_
                      show q_RP _ _ _ (253, [(0, .ref 64), (1, .int a1), (2, .int a2)], [.int 1, .int 0, .ref 79], (q_kM r1390 c n)) _ _
                      refine q_RP_seg (g2 := (262, [(0, .ref 64), (1, .int a1), (2, .int a2)], [.int 6, .int a2, .int 1, .ref 79], (q_kM (q_sA r1390 15 (upd (r1390.1 15) 0 (vp_nar .boolean 1))) c n))) 6 (fun _ _ => rfl) ?_
                      refine q_RP_call (v := (some (.int (q_b (dz_M206 (q_sA r1390 15 (upd (r1390.1 15) 0 (vp_nar .boolean 1))) a2 6))))) (h2 := (q_kM (q_sA r1390 15 (upd (r1390.1 15) 0 (vp_nar .boolean 1))) c n)) rfl rfl ((dzt_M206 (q_sA r1390 15 (upd (r1390.1 15) 0 (vp_nar .boolean 1))) c n a2 6).le (Nat.le_of_ble_eq_true rfl)) ?_
                      generalize dz_M206 (q_sA r1390 15 (upd (r1390.1 15) 0 (vp_nar .boolean 1))) a2 6 = r1391
                      refine q_RP_let ?_
                      show q_RP _ _ _ (265, [(0, .ref 64), (1, .int a1), (2, .int a2)], [.int (q_b r1391), .int 1, .ref 79], (q_kM (q_sA r1390 15 (upd (r1390.1 15) 0 (vp_nar .boolean 1))) c n)) _ _
                      cases h1491 : r1391 with
                      | true =>
                        refine q_RP_cT ?_
                        show q_RP _ _ _ (265, [(0, .ref 64), (1, .int a1), (2, .int a2)], [.int 1, .int 1, .ref 79], (q_kM (q_sA r1390 15 (upd (r1390.1 15) 0 (vp_nar .boolean 1))) c n)) _ _
                        generalize (q_sA r1390 15 (upd (r1390.1 15) 0 (vp_nar .boolean 1))) = r1392
                        refine q_RP_let ?_
                        show q_RP _ _ _ (265, [(0, .ref 64), (1, .int a1), (2, .int a2)], [.int 1, .int 1, .ref 79], (q_kM r1392 c n)) _ _
                        refine q_RP_seg (g2 := (266, [(0, .ref 64), (1, .int a1), (2, .int a2)], [], (q_kM (q_sA r1392 15 (upd (r1392.1 15) 1 (vp_nar .boolean 1))) c n))) 1 (fun _ _ => rfl) ?_
                        exact q_RP_ret rfl rfl rfl
                      | false =>
                        refine q_RP_cF ?_
                        show q_RP _ _ _ (265, [(0, .ref 64), (1, .int a1), (2, .int a2)], [.int 0, .int 1, .ref 79], (q_kM (q_sA r1390 15 (upd (r1390.1 15) 0 (vp_nar .boolean 1))) c n)) _ _
                        generalize (q_sA r1390 15 (upd (r1390.1 15) 0 (vp_nar .boolean 1))) = r1393
                        refine q_RP_let ?_
                        show q_RP _ _ _ (265, [(0, .ref 64), (1, .int a1), (2, .int a2)], [.int 0, .int 1, .ref 79], (q_kM r1393 c n)) _ _
                        refine q_RP_seg (g2 := (266, [(0, .ref 64), (1, .int a1), (2, .int a2)], [], (q_kM (q_sA r1393 15 (upd (r1393.1 15) 1 (vp_nar .boolean 0))) c n))) 1 (fun _ _ => rfl) ?_
                        exact q_RP_ret rfl rfl rfl
                    | false =>
                      refine q_RP_cF ?_
                      show q_RP _ _ _ (253, [(0, .ref 64), (1, .int a1), (2, .int a2)], [.int 0, .int 0, .ref 79], (q_kM (q_sA s 15 (upd (s.1 15) 4 (vp_nar .boolean 1))) c n)) _ _
                      generalize (q_sA s 15 (upd (s.1 15) 4 (vp_nar .boolean 1))) = r1394
                      refine q_RP_let ?_
                      show q_RP _ _ _ (253, [(0, .ref 64), (1, .int a1), (2, .int a2)], [.int 0, .int 0, .ref 79], (q_kM r1394 c n)) _ _
                      refine q_RP_seg (g2 := (262, [(0, .ref 64), (1, .int a1), (2, .int a2)], [.int 6, .int a2, .int 1, .ref 79], (q_kM (q_sA r1394 15 (upd (r1394.1 15) 0 (vp_nar .boolean 0))) c n))) 6 (fun _ _ => rfl) ?_
                      refine q_RP_call (v := (some (.int (q_b (dz_M206 (q_sA r1394 15 (upd (r1394.1 15) 0 (vp_nar .boolean 0))) a2 6))))) (h2 := (q_kM (q_sA r1394 15 (upd (r1394.1 15) 0 (vp_nar .boolean 0))) c n)) rfl rfl ((dzt_M206 (q_sA r1394 15 (upd (r1394.1 15) 0 (vp_nar .boolean 0))) c n a2 6).le (Nat.le_of_ble_eq_true rfl)) ?_
                      generalize dz_M206 (q_sA r1394 15 (upd (r1394.1 15) 0 (vp_nar .boolean 0))) a2 6 = r1395
                      refine q_RP_let ?_
                      show q_RP _ _ _ (265, [(0, .ref 64), (1, .int a1), (2, .int a2)], [.int (q_b r1395), .int 1, .ref 79], (q_kM (q_sA r1394 15 (upd (r1394.1 15) 0 (vp_nar .boolean 0))) c n)) _ _
                      cases h1492 : r1395 with
                      | true =>
                        refine q_RP_cT ?_
                        show q_RP _ _ _ (265, [(0, .ref 64), (1, .int a1), (2, .int a2)], [.int 1, .int 1, .ref 79], (q_kM (q_sA r1394 15 (upd (r1394.1 15) 0 (vp_nar .boolean 0))) c n)) _ _
                        generalize (q_sA r1394 15 (upd (r1394.1 15) 0 (vp_nar .boolean 0))) = r1396
                        refine q_RP_let ?_
                        show q_RP _ _ _ (265, [(0, .ref 64), (1, .int a1), (2, .int a2)], [.int 1, .int 1, .ref 79], (q_kM r1396 c n)) _ _
                        refine q_RP_seg (g2 := (266, [(0, .ref 64), (1, .int a1), (2, .int a2)], [], (q_kM (q_sA r1396 15 (upd (r1396.1 15) 1 (vp_nar .boolean 1))) c n))) 1 (fun _ _ => rfl) ?_
                        exact q_RP_ret rfl rfl rfl
                      | false =>
                        refine q_RP_cF ?_
                        show q_RP _ _ _ (265, [(0, .ref 64), (1, .int a1), (2, .int a2)], [.int 0, .int 1, .ref 79], (q_kM (q_sA r1394 15 (upd (r1394.1 15) 0 (vp_nar .boolean 0))) c n)) _ _
                        generalize (q_sA r1394 15 (upd (r1394.1 15) 0 (vp_nar .boolean 0))) = r1397
                        refine q_RP_let ?_
                        show q_RP _ _ _ (265, [(0, .ref 64), (1, .int a1), (2, .int a2)], [.int 0, .int 1, .ref 79], (q_kM r1397 c n)) _ _
                        refine q_RP_seg (g2 := (266, [(0, .ref 64), (1, .int a1), (2, .int a2)], [], (q_kM (q_sA r1397 15 (upd (r1397.1 15) 1 (vp_nar .boolean 0))) c n))) 1 (fun _ _ => rfl) ?_
                        exact q_RP_ret rfl rfl rfl
                  | false =>
                    refine q_RP_cF ?_
                    refine q_RP_rsT (g2 := (240, [(0, .ref 64), (1, .int a1), (2, .int a2)], [.int 4, .ref 79], (q_kM s c n))) rfl rfl (q_d_neF h1489) ?_
                    refine q_RP_seg (g2 := (250, [(0, .ref 64), (1, .int a1), (2, .int a2)], [.int 7, .int a2, .int 0, .ref 79], (q_kM (q_sA s 15 (upd (s.1 15) 4 (vp_nar .boolean 0))) c n))) 7 (fun _ _ => rfl) ?_
                    refine q_RP_call (v := (some (.int (q_b (dz_M206 (q_sA s 15 (upd (s.1 15) 4 (vp_nar .boolean 0))) a2 7))))) (h2 := (q_kM (q_sA s 15 (upd (s.1 15) 4 (vp_nar .boolean 0))) c n)) rfl rfl ((dzt_M206 (q_sA s 15 (upd (s.1 15) 4 (vp_nar .boolean 0))) c n a2 7).le (Nat.le_of_ble_eq_true rfl)) ?_
                    generalize dz_M206 (q_sA s 15 (upd (s.1 15) 4 (vp_nar .boolean 0))) a2 7 = r1398
                    refine q_RP_let ?_
                    show q_RP _ _ _ (253, [(0, .ref 64), (1, .int a1), (2, .int a2)], [.int (q_b r1398), .int 0, .ref 79], (q_kM (q_sA s 15 (upd (s.1 15) 4 (vp_nar .boolean 0))) c n)) _ _
                    cases h1493 : r1398 with
                    | true =>
                      refine q_RP_cT ?_
                      show q_RP _ _ _ (253, [(0, .ref 64), (1, .int a1), (2, .int a2)], [.int 1, .int 0, .ref 79], (q_kM (q_sA s 15 (upd (s.1 15) 4 (vp_nar .boolean 0))) c n)) _ _
                      generalize (q_sA s 15 (upd (s.1 15) 4 (vp_nar .boolean 0))) = r1399
                      refine q_RP_let ?_
                      show q_RP _ _ _ (253, [(0, .ref 64), (1, .int a1), (2, .int a2)], [.int 1, .int 0, .ref 79], (q_kM r1399 c n)) _ _
                      refine q_RP_seg (g2 := (262, [(0, .ref 64), (1, .int a1), (2, .int a2)], [.int 6, .int a2, .int 1, .ref 79], (q_kM (q_sA r1399 15 (upd (r1399.1 15) 0 (vp_nar .boolean 1))) c n))) 6 (fun _ _ => rfl) ?_
                      refine q_RP_call (v := (some (.int (q_b (dz_M206 (q_sA r1399 15 (upd (r1399.1 15) 0 (vp_nar .boolean 1))) a2 6))))) (h2 := (q_kM (q_sA r1399 15 (upd (r1399.1 15) 0 (vp_nar .boolean 1))) c n)) rfl rfl ((dzt_M206 (q_sA r1399 15 (upd (r1399.1 15) 0 (vp_nar .boolean 1))) c n a2 6).le (Nat.le_of_ble_eq_true rfl)) ?_
                      generalize dz_M206 (q_sA r1399 15 (upd (r1399.1 15) 0 (vp_nar .boolean 1))) a2 6 = r1400
                      refine q_RP_let ?_
                      show q_RP _ _ _ (265, [(0, .ref 64), (1, .int a1), (2, .int a2)], [.int (q_b r1400), .int 1, .ref 79], (q_kM (q_sA r1399 15 (upd (r1399.1 15) 0 (vp_nar .boolean 1))) c n)) _ _
                      cases h1494 : r1400 with
                      | true =>
                        refine q_RP_cT ?_
                        show q_RP _ _ _ (265, [(0, .ref 64), (1, .int a1), (2, .int a2)], [.int 1, .int 1, .ref 79], (q_kM (q_sA r1399 15 (upd (r1399.1 15) 0 (vp_nar .boolean 1))) c n)) _ _
                        generalize (q_sA r1399 15 (upd (r1399.1 15) 0 (vp_nar .boolean 1))) = r1401
                        refine q_RP_let ?_
                        show q_RP _ _ _ (265, [(0, .ref 64), (1, .int a1), (2, .int a2)], [.int 1, .int 1, .ref 79], (q_kM r1401 c n)) _ _
                        refine q_RP_seg (g2 := (266, [(0, .ref 64), (1, .int a1), (2, .int a2)], [], (q_kM (q_sA r1401 15 (upd (r1401.1 15) 1 (vp_nar .boolean 1))) c n))) 1 (fun _ _ => rfl) ?_
                        exact q_RP_ret rfl rfl rfl
                      | false =>
                        refine q_RP_cF ?_
                        show q_RP _ _ _ (265, [(0, .ref 64), (1, .int a1), (2, .int a2)], [.int 0, .int 1, .ref 79], (q_kM (q_sA r1399 15 (upd (r1399.1 15) 0 (vp_nar .boolean 1))) c n)) _ _
                        generalize (q_sA r1399 15 (upd (r1399.1 15) 0 (vp_nar .boolean 1))) = r1402
                        refine q_RP_let ?_
                        show q_RP _ _ _ (265, [(0, .ref 64), (1, .int a1), (2, .int a2)], [.int 0, .int 1, .ref 79], (q_kM r1402 c n)) _ _
                        refine q_RP_seg (g2 := (266, [(0, .ref 64), (1, .int a1), (2, .int a2)], [], (q_kM (q_sA r1402 15 (upd (r1402.1 15) 1 (vp_nar .boolean 0))) c n))) 1 (fun _ _ => rfl) ?_
                        exact q_RP_ret rfl rfl rfl
                    | false =>
                      refine q_RP_cF ?_
                      show q_RP _ _ _ (253, [(0, .ref 64), (1, .int a1), (2, .int a2)], [.int 0, .int 0, .ref 79], (q_kM (q_sA s 15 (upd (s.1 15) 4 (vp_nar .boolean 0))) c n)) _ _
                      generalize (q_sA s 15 (upd (s.1 15) 4 (vp_nar .boolean 0))) = r1403
                      refine q_RP_let ?_
                      show q_RP _ _ _ (253, [(0, .ref 64), (1, .int a1), (2, .int a2)], [.int 0, .int 0, .ref 79], (q_kM r1403 c n)) _ _
                      refine q_RP_seg (g2 := (262, [(0, .ref 64), (1, .int a1), (2, .int a2)], [.int 6, .int a2, .int 1, .ref 79], (q_kM (q_sA r1403 15 (upd (r1403.1 15) 0 (vp_nar .boolean 0))) c n))) 6 (fun _ _ => rfl) ?_
                      refine q_RP_call (v := (some (.int (q_b (dz_M206 (q_sA r1403 15 (upd (r1403.1 15) 0 (vp_nar .boolean 0))) a2 6))))) (h2 := (q_kM (q_sA r1403 15 (upd (r1403.1 15) 0 (vp_nar .boolean 0))) c n)) rfl rfl ((dzt_M206 (q_sA r1403 15 (upd (r1403.1 15) 0 (vp_nar .boolean 0))) c n a2 6).le (Nat.le_of_ble_eq_true rfl)) ?_
                      generalize dz_M206 (q_sA r1403 15 (upd (r1403.1 15) 0 (vp_nar .boolean 0))) a2 6 = r1404
                      refine q_RP_let ?_
                      show q_RP _ _ _ (265, [(0, .ref 64), (1, .int a1), (2, .int a2)], [.int (q_b r1404), .int 1, .ref 79], (q_kM (q_sA r1403 15 (upd (r1403.1 15) 0 (vp_nar .boolean 0))) c n)) _ _
                      cases h1495 : r1404 with
                      | true =>
                        refine q_RP_cT ?_
                        show q_RP _ _ _ (265, [(0, .ref 64), (1, .int a1), (2, .int a2)], [.int 1, .int 1, .ref 79], (q_kM (q_sA r1403 15 (upd (r1403.1 15) 0 (vp_nar .boolean 0))) c n)) _ _
                        generalize (q_sA r1403 15 (upd (r1403.1 15) 0 (vp_nar .boolean 0))) = r1405
                        refine q_RP_let ?_
                        show q_RP _ _ _ (265, [(0, .ref 64), (1, .int a1), (2, .int a2)], [.int 1, .int 1, .ref 79], (q_kM r1405 c n)) _ _
                        refine q_RP_seg (g2 := (266, [(0, .ref 64), (1, .int a1), (2, .int a2)], [], (q_kM (q_sA r1405 15 (upd (r1405.1 15) 1 (vp_nar .boolean 1))) c n))) 1 (fun _ _ => rfl) ?_
                        exact q_RP_ret rfl rfl rfl
                      | false =>
                        refine q_RP_cF ?_
                        show q_RP _ _ _ (265, [(0, .ref 64), (1, .int a1), (2, .int a2)], [.int 0, .int 1, .ref 79], (q_kM (q_sA r1403 15 (upd (r1403.1 15) 0 (vp_nar .boolean 0))) c n)) _ _
                        generalize (q_sA r1403 15 (upd (r1403.1 15) 0 (vp_nar .boolean 0))) = r1406
                        refine q_RP_let ?_
                        show q_RP _ _ _ (265, [(0, .ref 64), (1, .int a1), (2, .int a2)], [.int 0, .int 1, .ref 79], (q_kM r1406 c n)) _ _
                        refine q_RP_seg (g2 := (266, [(0, .ref 64), (1, .int a1), (2, .int a2)], [], (q_kM (q_sA r1406 15 (upd (r1406.1 15) 1 (vp_nar .boolean 0))) c n))) 1 (fun _ _ => rfl) ?_
                        exact q_RP_ret rfl rfl rfl
                | false =>
                  refine q_RP_cF ?_
                  cases h1496 : decide (a1 = 6) with
                  | true =>
                    refine q_RP_cT ?_
                    refine q_RP_st1 (g2 := (111, [(0, .ref 64), (1, .int a1), (2, .int a2)], [], (q_kM s c n))) rfl (by rw [of_decide_eq_true h1496]; rfl) ?_
                    refine q_RP_seg (g2 := (114, [(0, .ref 64), (1, .int a1), (2, .int a2)], [.int a2, .int 1, .ref 64], (q_kM s c n))) 3 (fun _ _ => rfl) ?_
                    refine q_RP_bd fun r1415 er1415 => ?_
                    refine q_RP_call (v := none) (h2 := (q_kM r1415 c n)) rfl rfl ((dzt_M267_64_t s c n a2 r1415 er1415).le (Nat.le_of_ble_eq_true rfl)) ?_
                    show q_RP _ _ _ (117, [(0, .ref 64), (1, .int a1), (2, .int a2)], [], (q_kM r1415 c n)) _ _
                    refine q_RP_seg (g2 := (266, [(0, .ref 64), (1, .int a1), (2, .int a2)], [], (q_kM r1415 c n))) 1 (fun _ _ => rfl) ?_
                    exact q_RP_ret rfl rfl rfl
                  | false =>
                    refine q_RP_cF ?_
                    cases h1502 : decide (a1 = 7) with
                    | true =>
                      refine q_RP_cT ?_
                      refine q_RP_st1 (g2 := (120, [(0, .ref 64), (1, .int a1), (2, .int a2)], [], (q_kM s c n))) rfl (by rw [of_decide_eq_true h1502]; rfl) ?_
                      refine q_RP_seg (g2 := (123, [(0, .ref 64), (1, .int a1), (2, .int a2)], [.int a2, .int 0, .ref 64], (q_kM s c n))) 3 (fun _ _ => rfl) ?_
                      refine q_RP_bd fun r1416 er1416 => ?_
                      refine q_RP_call (v := none) (h2 := (q_kM r1416 c n)) rfl rfl ((dzt_M267_64_f s c n a2 r1416 er1416).le (Nat.le_of_ble_eq_true rfl)) ?_
                      show q_RP _ _ _ (126, [(0, .ref 64), (1, .int a1), (2, .int a2)], [], (q_kM r1416 c n)) _ _
                      refine q_RP_seg (g2 := (266, [(0, .ref 64), (1, .int a1), (2, .int a2)], [], (q_kM r1416 c n))) 1 (fun _ _ => rfl) ?_
                      exact q_RP_ret rfl rfl rfl
                    | false =>
                      refine q_RP_cF ?_
                      cases h1503 : decide (a1 = 8) with
                      | true =>
                        refine q_RP_cT ?_
                        refine q_RP_st1 (g2 := (129, [(0, .ref 64), (1, .int a1), (2, .int a2)], [], (q_kM s c n))) rfl (by rw [of_decide_eq_true h1503]; rfl) ?_
                        refine q_RP_seg (g2 := (137, [(0, .ref 64), (1, .int a1), (2, .int a2)], [.int ((s.1 14) 0), .int 0, .ref 64], (q_kM s c n))) 6 (fun _ _ => rfl) ?_
                        refine q_RP_seg (g2 := (139, [(0, .ref 64), (1, .int a1), (2, .int a2)], [.int (((s.1 14) 0) &&& a2), .int 0, .ref 64], (q_kM s c n))) 2 (fun _ _ => rfl) ?_
                        refine q_RP_bd fun r1417 er1417 => ?_
                        refine q_RP_call (v := none) (h2 := (q_kM r1417 c n)) rfl rfl ((dzt_M262_64 s c n 0 (((s.1 14) 0) &&& a2) r1417 er1417).le (Nat.le_of_ble_eq_true rfl)) ?_
                        show q_RP _ _ _ (142, [(0, .ref 64), (1, .int a1), (2, .int a2)], [], (q_kM r1417 c n)) _ _
                        refine q_RP_seg (g2 := (266, [(0, .ref 64), (1, .int a1), (2, .int a2)], [], (q_kM r1417 c n))) 1 (fun _ _ => rfl) ?_
                        exact q_RP_ret rfl rfl rfl
                      | false =>
                        refine q_RP_cF ?_
                        cases h1504 : decide (a1 = 9) with
                        | true =>
                          refine q_RP_cT ?_
                          refine q_RP_st1 (g2 := (145, [(0, .ref 64), (1, .int a1), (2, .int a2)], [], (q_kM s c n))) rfl (by rw [of_decide_eq_true h1504]; rfl) ?_
                          refine q_RP_seg (g2 := (153, [(0, .ref 64), (1, .int a1), (2, .int a2)], [.int ((s.1 14) 0), .int 0, .ref 64], (q_kM s c n))) 6 (fun _ _ => rfl) ?_
                          refine q_RP_seg (g2 := (155, [(0, .ref 64), (1, .int a1), (2, .int a2)], [.int (((s.1 14) 0) ||| a2), .int 0, .ref 64], (q_kM s c n))) 2 (fun _ _ => rfl) ?_
                          refine q_RP_bd fun r1418 er1418 => ?_
                          refine q_RP_call (v := none) (h2 := (q_kM r1418 c n)) rfl rfl ((dzt_M262_64 s c n 0 (((s.1 14) 0) ||| a2) r1418 er1418).le (Nat.le_of_ble_eq_true rfl)) ?_
                          show q_RP _ _ _ (158, [(0, .ref 64), (1, .int a1), (2, .int a2)], [], (q_kM r1418 c n)) _ _
                          refine q_RP_seg (g2 := (266, [(0, .ref 64), (1, .int a1), (2, .int a2)], [], (q_kM r1418 c n))) 1 (fun _ _ => rfl) ?_
                          exact q_RP_ret rfl rfl rfl
                        | false =>
                          refine q_RP_cF ?_
                          cases h1505 : decide (a1 = 10) with
                          | true =>
                            refine q_RP_cT ?_
                            refine q_RP_st1 (g2 := (161, [(0, .ref 64), (1, .int a1), (2, .int a2)], [], (q_kM s c n))) rfl (by rw [of_decide_eq_true h1505]; rfl) ?_
                            refine q_RP_seg (g2 := (169, [(0, .ref 64), (1, .int a1), (2, .int a2)], [.int ((s.1 14) 0), .int 0, .ref 64], (q_kM s c n))) 6 (fun _ _ => rfl) ?_
                            refine q_RP_seg (g2 := (171, [(0, .ref 64), (1, .int a1), (2, .int a2)], [.int (((s.1 14) 0) ^^^ a2), .int 0, .ref 64], (q_kM s c n))) 2 (fun _ _ => rfl) ?_
                            refine q_RP_bd fun r1419 er1419 => ?_
                            refine q_RP_call (v := none) (h2 := (q_kM r1419 c n)) rfl rfl ((dzt_M262_64 s c n 0 (((s.1 14) 0) ^^^ a2) r1419 er1419).le (Nat.le_of_ble_eq_true rfl)) ?_
                            show q_RP _ _ _ (174, [(0, .ref 64), (1, .int a1), (2, .int a2)], [], (q_kM r1419 c n)) _ _
                            refine q_RP_seg (g2 := (266, [(0, .ref 64), (1, .int a1), (2, .int a2)], [], (q_kM r1419 c n))) 1 (fun _ _ => rfl) ?_
                            exact q_RP_ret rfl rfl rfl
                          | false =>
                            refine q_RP_cF ?_
                            cases h1506 : decide (a1 = 11) with
                            | true =>
                              refine q_RP_cT ?_
                              refine q_RP_st1 (g2 := (177, [(0, .ref 64), (1, .int a1), (2, .int a2)], [], (q_kM s c n))) rfl (by rw [of_decide_eq_true h1506]; rfl) ?_
                              refine q_RP_seg (g2 := (180, [(0, .ref 64), (1, .int a1), (2, .int a2)], [.int a2, .int 0, .ref 64], (q_kM s c n))) 3 (fun _ _ => rfl) ?_
                              refine q_RP_bd fun r1420 er1420 => ?_
                              refine q_RP_call (v := none) (h2 := (q_kM r1420 c n)) rfl rfl ((dzt_M263_64 s c n 0 a2 r1420 er1420).le (Nat.le_of_ble_eq_true rfl)) ?_
                              show q_RP _ _ _ (183, [(0, .ref 64), (1, .int a1), (2, .int a2)], [], (q_kM r1420 c n)) _ _
                              refine q_RP_seg (g2 := (266, [(0, .ref 64), (1, .int a1), (2, .int a2)], [], (q_kM r1420 c n))) 1 (fun _ _ => rfl) ?_
                              exact q_RP_ret rfl rfl rfl
                            | false =>
                              refine q_RP_cF ?_
                              cases h1507 : decide (a1 = 12) with
                              | true =>
                                refine q_RP_cT ?_
                                refine q_RP_st1 (g2 := (186, [(0, .ref 64), (1, .int a1), (2, .int a2)], [], (q_kM s c n))) rfl (by rw [of_decide_eq_true h1507]; rfl) ?_
                                refine q_RP_seg (g2 := (189, [(0, .ref 64), (1, .int a1), (2, .int a2)], [.int a2, .int 1, .ref 64], (q_kM s c n))) 3 (fun _ _ => rfl) ?_
                                refine q_RP_bd fun r1421 er1421 => ?_
                                refine q_RP_call (v := none) (h2 := (q_kM r1421 c n)) rfl rfl ((dzt_M263_64 s c n 1 a2 r1421 er1421).le (Nat.le_of_ble_eq_true rfl)) ?_
                                show q_RP _ _ _ (192, [(0, .ref 64), (1, .int a1), (2, .int a2)], [], (q_kM r1421 c n)) _ _
                                refine q_RP_seg (g2 := (266, [(0, .ref 64), (1, .int a1), (2, .int a2)], [], (q_kM r1421 c n))) 1 (fun _ _ => rfl) ?_
                                exact q_RP_ret rfl rfl rfl
                              | false =>
                                refine q_RP_cF ?_
                                cases h1508 : decide (a1 = 13) with
                                | true =>
                                  refine q_RP_cT ?_
                                  refine q_RP_st1 (g2 := (195, [(0, .ref 64), (1, .int a1), (2, .int a2)], [], (q_kM s c n))) rfl (by rw [of_decide_eq_true h1508]; rfl) ?_
                                  refine q_RP_seg (g2 := (198, [(0, .ref 64), (1, .int a1), (2, .int a2)], [.int a2, .int 2, .ref 64], (q_kM s c n))) 3 (fun _ _ => rfl) ?_
                                  refine q_RP_bd fun r1422 er1422 => ?_
                                  refine q_RP_call (v := none) (h2 := (q_kM r1422 c n)) rfl rfl ((dzt_M263_64 s c n 2 a2 r1422 er1422).le (Nat.le_of_ble_eq_true rfl)) ?_
                                  show q_RP _ _ _ (201, [(0, .ref 64), (1, .int a1), (2, .int a2)], [], (q_kM r1422 c n)) _ _
                                  refine q_RP_seg (g2 := (266, [(0, .ref 64), (1, .int a1), (2, .int a2)], [], (q_kM r1422 c n))) 1 (fun _ _ => rfl) ?_
                                  exact q_RP_ret rfl rfl rfl
                                | false =>
                                  refine q_RP_cF ?_
                                  cases h1509 : decide (a1 = 14) with
                                  | true =>
                                    refine q_RP_cT ?_
                                    refine q_RP_st1 (g2 := (220, [(0, .ref 64), (1, .int a1), (2, .int a2)], [], (q_kM s c n))) rfl (by rw [of_decide_eq_true h1509]; rfl) ?_
                                    refine q_RP_seg (g2 := (231, [(0, .ref 64), (1, .int a1), (2, .int a2)], [.int ((s.1 14) 0), .int 4, .ref 79], (q_kM s c n))) 7 (fun _ _ => rfl) ?_
                                    refine q_RP_seg (g2 := (233, [(0, .ref 64), (1, .int a1), (2, .int a2)], [.int (((s.1 14) 0) &&& a2), .int 4, .ref 79], (q_kM s c n))) 2 (fun _ _ => rfl) ?_
                                    cases h1510 : decide (((s.1 14) 0) &&& a2 = 0) with
                                    | true =>
                                      refine q_RP_cT ?_
                                      refine q_RP_rsF (g2 := (236, [(0, .ref 64), (1, .int a1), (2, .int a2)], [.int 4, .ref 79], (q_kM s c n))) rfl rfl (q_d_neT h1510) ?_
                                      refine q_RP_seg (g2 := (250, [(0, .ref 64), (1, .int a1), (2, .int a2)], [.int 7, .int a2, .int 0, .ref 79], (q_kM (q_sA s 15 (upd (s.1 15) 4 (vp_nar .boolean 1))) c n))) 8 (fun _ _ => rfl) ?_
                                      refine q_RP_call (v := (some (.int (q_b (dz_M206 (q_sA s 15 (upd (s.1 15) 4 (vp_nar .boolean 1))) a2 7))))) (h2 := (q_kM (q_sA s 15 (upd (s.1 15) 4 (vp_nar .boolean 1))) c n)) rfl rfl ((dzt_M206 (q_sA s 15 (upd (s.1 15) 4 (vp_nar .boolean 1))) c n a2 7).le (Nat.le_of_ble_eq_true rfl)) ?_
                                      generalize dz_M206 (q_sA s 15 (upd (s.1 15) 4 (vp_nar .boolean 1))) a2 7 = r1423
                                      refine q_RP_let ?_
                                      show q_RP _ _ _ (253, [(0, .ref 64), (1, .int a1), (2, .int a2)], [.int (q_b r1423), .int 0, .ref 79], (q_kM (q_sA s 15 (upd (s.1 15) 4 (vp_nar .boolean 1))) c n)) _ _
                                      cases h1511 : r1423 with
                                      | true =>
                                        refine q_RP_cT ?_
                                        show q_RP _ _ _ (253, [(0, .ref 64), (1, .int a1), (2, .int a2)], [.int 1, .int 0, .ref 79], (q_kM (q_sA s 15 (upd (s.1 15) 4 (vp_nar .boolean 1))) c n)) _ _
                                        generalize (q_sA s 15 (upd (s.1 15) 4 (vp_nar .boolean 1))) = r1424
                                        refine q_RP_let ?_
                                        show q_RP _ _ _ (253, [(0, .ref 64), (1, .int a1), (2, .int a2)], [.int 1, .int 0, .ref 79], (q_kM r1424 c n)) _ _
                                        refine q_RP_seg (g2 := (262, [(0, .ref 64), (1, .int a1), (2, .int a2)], [.int 6, .int a2, .int 1, .ref 79], (q_kM (q_sA r1424 15 (upd (r1424.1 15) 0 (vp_nar .boolean 1))) c n))) 6 (fun _ _ => rfl) ?_
                                        refine q_RP_call (v := (some (.int (q_b (dz_M206 (q_sA r1424 15 (upd (r1424.1 15) 0 (vp_nar .boolean 1))) a2 6))))) (h2 := (q_kM (q_sA r1424 15 (upd (r1424.1 15) 0 (vp_nar .boolean 1))) c n)) rfl rfl ((dzt_M206 (q_sA r1424 15 (upd (r1424.1 15) 0 (vp_nar .boolean 1))) c n a2 6).le (Nat.le_of_ble_eq_true rfl)) ?_
                                        generalize dz_M206 (q_sA r1424 15 (upd (r1424.1 15) 0 (vp_nar .boolean 1))) a2 6 = r1425
                                        refine q_RP_let ?_
                                        show q_RP _ _ _ (265, [(0, .ref 64), (1, .int a1), (2, .int a2)], [.int (q_b r1425), .int 1, .ref 79], (q_kM (q_sA r1424 15 (upd (r1424.1 15) 0 (vp_nar .boolean 1))) c n)) _ _
                                        cases h1512 : r1425 with
                                        | true =>
                                          refine q_RP_cT ?_
                                          show q_RP _ _ _ (265, [(0, .ref 64), (1, .int a1), (2, .int a2)], [.int 1, .int 1, .ref 79], (q_kM (q_sA r1424 15 (upd (r1424.1 15) 0 (vp_nar .boolean 1))) c n)) _ _
                                          generalize (q_sA r1424 15 (upd (r1424.1 15) 0 (vp_nar .boolean 1))) = r1426
                                          refine q_RP_let ?_
                                          show q_RP _ _ _ (265, [(0, .ref 64), (1, .int a1), (2, .int a2)], [.int 1, .int 1, .ref 79], (q_kM r1426 c n)) _ _
                                          refine q_RP_seg (g2 := (266, [(0, .ref 64), (1, .int a1), (2, .int a2)], [], (q_kM (q_sA r1426 15 (upd (r1426.1 15) 1 (vp_nar .boolean 1))) c n))) 1 (fun _ _ => rfl) ?_
                                          exact q_RP_ret rfl rfl rfl
                                        | false =>
                                          refine q_RP_cF ?_
                                          show q_RP _ _ _ (265, [(0, .ref 64), (1, .int a1), (2, .int a2)], [.int 0, .int 1, .ref 79], (q_kM (q_sA r1424 15 (upd (r1424.1 15) 0 (vp_nar .boolean 1))) c n)) _ _
                                          generalize (q_sA r1424 15 (upd (r1424.1 15) 0 (vp_nar .boolean 1))) = r1427
                                          refine q_RP_let ?_
                                          show q_RP _ _ _ (265, [(0, .ref 64), (1, .int a1), (2, .int a2)], [.int 0, .int 1, .ref 79], (q_kM r1427 c n)) _ _
                                          refine q_RP_seg (g2 := (266, [(0, .ref 64), (1, .int a1), (2, .int a2)], [], (q_kM (q_sA r1427 15 (upd (r1427.1 15) 1 (vp_nar .boolean 0))) c n))) 1 (fun _ _ => rfl) ?_
                                          exact q_RP_ret rfl rfl rfl
                                      | false =>
                                        refine q_RP_cF ?_
                                        show q_RP _ _ _ (253, [(0, .ref 64), (1, .int a1), (2, .int a2)], [.int 0, .int 0, .ref 79], (q_kM (q_sA s 15 (upd (s.1 15) 4 (vp_nar .boolean 1))) c n)) _ _
                                        generalize (q_sA s 15 (upd (s.1 15) 4 (vp_nar .boolean 1))) = r1428
                                        refine q_RP_let ?_
                                        show q_RP _ _ _ (253, [(0, .ref 64), (1, .int a1), (2, .int a2)], [.int 0, .int 0, .ref 79], (q_kM r1428 c n)) _ _
                                        refine q_RP_seg (g2 := (262, [(0, .ref 64), (1, .int a1), (2, .int a2)], [.int 6, .int a2, .int 1, .ref 79], (q_kM (q_sA r1428 15 (upd (r1428.1 15) 0 (vp_nar .boolean 0))) c n))) 6 (fun _ _ => rfl) ?_
                                        refine q_RP_call (v := (some (.int (q_b (dz_M206 (q_sA r1428 15 (upd (r1428.1 15) 0 (vp_nar .boolean 0))) a2 6))))) (h2 := (q_kM (q_sA r1428 15 (upd (r1428.1 15) 0 (vp_nar .boolean 0))) c n)) rfl rfl ((dzt_M206 (q_sA r1428 15 (upd (r1428.1 15) 0 (vp_nar .boolean 0))) c n a2 6).le (Nat.le_of_ble_eq_true rfl)) ?_
                                        generalize dz_M206 (q_sA r1428 15 (upd (r1428.1 15) 0 (vp_nar .boolean 0))) a2 6 = r1429
                                        refine q_RP_let ?_
                                        show q_RP _ _ _ (265, [(0, .ref 64), (1, .int a1), (2, .int a2)], [.int (q_b r1429), .int 1, .ref 79], (q_kM (q_sA r1428 15 (upd (r1428.1 15) 0 (vp_nar .boolean 0))) c n)) _ _
                                        cases h1513 : r1429 with
                                        | true =>
                                          refine q_RP_cT ?_
                                          show q_RP _ _ _ (265, [(0, .ref 64), (1, .int a1), (2, .int a2)], [.int 1, .int 1, .ref 79], (q_kM (q_sA r1428 15 (upd (r1428.1 15) 0 (vp_nar .boolean 0))) c n)) _ _
                                          generalize (q_sA r1428 15 (upd (r1428.1 15) 0 (vp_nar .boolean 0))) = r1430
                                          refine q_RP_let ?_
                                          show q_RP _ _ _ (265, [(0, .ref 64), (1, .int a1), (2, .int a2)], [.int 1, .int 1, .ref 79], (q_kM r1430 c n)) _ _
                                          refine q_RP_seg (g2 := (266, [(0, .ref 64), (1, .int a1), (2, .int a2)], [], (q_kM (q_sA r1430 15 (upd (r1430.1 15) 1 (vp_nar .boolean 1))) c n))) 1 (fun _ _ => rfl) ?_
                                          exact q_RP_ret rfl rfl rfl
                                        | false =>
                                          refine q_RP_cF ?_
                                          show q_RP _ _ _ (265, [(0, .ref 64), (1, .int a1), (2, .int a2)], [.int 0, .int 1, .ref 79], (q_kM (q_sA r1428 15 (upd (r1428.1 15) 0 (vp_nar .boolean 0))) c n)) _ _
                                          generalize (q_sA r1428 15 (upd (r1428.1 15) 0 (vp_nar .boolean 0))) = r1431
                                          refine q_RP_let ?_
                                          show q_RP _ _ _ (265, [(0, .ref 64), (1, .int a1), (2, .int a2)], [.int 0, .int 1, .ref 79], (q_kM r1431 c n)) _ _
                                          refine q_RP_seg (g2 := (266, [(0, .ref 64), (1, .int a1), (2, .int a2)], [], (q_kM (q_sA r1431 15 (upd (r1431.1 15) 1 (vp_nar .boolean 0))) c n))) 1 (fun _ _ => rfl) ?_
                                          exact q_RP_ret rfl rfl rfl
                                    | false =>
                                      refine q_RP_cF ?_
                                      refine q_RP_rsT (g2 := (240, [(0, .ref 64), (1, .int a1), (2, .int a2)], [.int 4, .ref 79], (q_kM s c n))) rfl rfl (q_d_neF h1510) ?_
                                      refine q_RP_seg (g2 := (250, [(0, .ref 64), (1, .int a1), (2, .int a2)], [.int 7, .int a2, .int 0, .ref 79], (q_kM (q_sA s 15 (upd (s.1 15) 4 (vp_nar .boolean 0))) c n))) 7 (fun _ _ => rfl) ?_
                                      refine q_RP_call (v := (some (.int (q_b (dz_M206 (q_sA s 15 (upd (s.1 15) 4 (vp_nar .boolean 0))) a2 7))))) (h2 := (q_kM (q_sA s 15 (upd (s.1 15) 4 (vp_nar .boolean 0))) c n)) rfl rfl ((dzt_M206 (q_sA s 15 (upd (s.1 15) 4 (vp_nar .boolean 0))) c n a2 7).le (Nat.le_of_ble_eq_true rfl)) ?_
                                      generalize dz_M206 (q_sA s 15 (upd (s.1 15) 4 (vp_nar .boolean 0))) a2 7 = r1432
                                      refine q_RP_let ?_
                                      show q_RP _ _ _ (253, [(0, .ref 64), (1, .int a1), (2, .int a2)], [.int (q_b r1432), .int 0, .ref 79], (q_kM (q_sA s 15 (upd (s.1 15) 4 (vp_nar .boolean 0))) c n)) _ _
                                      cases h1514 : r1432 with
                                      | true =>
                                        refine q_RP_cT ?_
                                        show q_RP _ _ _ (253, [(0, .ref 64), (1, .int a1), (2, .int a2)], [.int 1, .int 0, .ref 79], (q_kM (q_sA s 15 (upd (s.1 15) 4 (vp_nar .boolean 0))) c n)) _ _
                                        generalize (q_sA s 15 (upd (s.1 15) 4 (vp_nar .boolean 0))) = r1433
                                        refine q_RP_let ?_
                                        show q_RP _ _ _ (253, [(0, .ref 64), (1, .int a1), (2, .int a2)], [.int 1, .int 0, .ref 79], (q_kM r1433 c n)) _ _
                                        refine q_RP_seg (g2 := (262, [(0, .ref 64), (1, .int a1), (2, .int a2)], [.int 6, .int a2, .int 1, .ref 79], (q_kM (q_sA r1433 15 (upd (r1433.1 15) 0 (vp_nar .boolean 1))) c n))) 6 (fun _ _ => rfl) ?_
                                        refine q_RP_call (v := (some (.int (q_b (dz_M206 (q_sA r1433 15 (upd (r1433.1 15) 0 (vp_nar .boolean 1))) a2 6))))) (h2 := (q_kM (q_sA r1433 15 (upd (r1433.1 15) 0 (vp_nar .boolean 1))) c n)) rfl rfl ((dzt_M206 (q_sA r1433 15 (upd (r1433.1 15) 0 (vp_nar .boolean 1))) c n a2 6).le (Nat.le_of_ble_eq_true rfl)) ?_
                                        generalize dz_M206 (q_sA r1433 15 (upd (r1433.1 15) 0 (vp_nar .boolean 1))) a2 6 = r1434
                                        refine q_RP_let ?_
                                        show q_RP _ _ _ (265, [(0, .ref 64), (1, .int a1), (2, .int a2)], [.int (q_b r1434), .int 1, .ref 79], (q_kM (q_sA r1433 15 (upd (r1433.1 15) 0 (vp_nar .boolean 1))) c n)) _ _
                                        cases h1515 : r1434 with
                                        | true =>
                                          refine q_RP_cT ?_
                                          show q_RP _ _ _ (265, [(0, .ref 64), (1, .int a1), (2, .int a2)], [.int 1, .int 1, .ref 79], (q_kM (q_sA r1433 15 (upd (r1433.1 15) 0 (vp_nar .boolean 1))) c n)) _ _
                                          generalize (q_sA r1433 15 (upd (r1433.1 15) 0 (vp_nar .boolean 1))) = r1435
                                          refine q_RP_let ?_
                                          show q_RP _ _ _ (265, [(0, .ref 64), (1, .int a1), (2, .int a2)], [.int 1, .int 1, .ref 79], (q_kM r1435 c n)) _ _
                                          refine q_RP_seg (g2 := (266, [(0, .ref 64), (1, .int a1), (2, .int a2)], [], (q_kM (q_sA r1435 15 (upd (r1435.1 15) 1 (vp_nar .boolean 1))) c n))) 1 (fun _ _ => rfl) ?_
                                          exact q_RP_ret rfl rfl rfl
                                        | false =>
                                          refine q_RP_cF ?_
                                          show q_RP _ _ _ (265, [(0, .ref 64), (1, .int a1), (2, .int a2)], [.int 0, .int 1, .ref 79], (q_kM (q_sA r1433 15 (upd (r1433.1 15) 0 (vp_nar .boolean 1))) c n)) _ _
                                          generalize (q_sA r1433 15 (upd (r1433.1 15) 0 (vp_nar .boolean 1))) = r1436
                                          refine q_RP_let ?_
                                          show q_RP _ _ _ (265, [(0, .ref 64), (1, .int a1), (2, .int a2)], [.int 0, .int 1, .ref 79], (q_kM r1436 c n)) _ _
                                          refine q_RP_seg (g2 := (266, [(0, .ref 64), (1, .int a1), (2, .int a2)], [], (q_kM (q_sA r1436 15 (upd (r1436.1 15) 1 (vp_nar .boolean 0))) c n))) 1 (fun _ _ => rfl) ?_
                                          exact q_RP_ret rfl rfl rfl
                                      | false =>
                                        refine q_RP_cF ?_
                                        show q_RP _ _ _ (253, [(0, .ref 64), (1, .int a1), (2, .int a2)], [.int 0, .int 0, .ref 79], (q_kM (q_sA s 15 (upd (s.1 15) 4 (vp_nar .boolean 0))) c n)) _ _
                                        generalize (q_sA s 15 (upd (s.1 15) 4 (vp_nar .boolean 0))) = r1437
                                        refine q_RP_let ?_
                                        show q_RP _ _ _ (253, [(0, .ref 64), (1, .int a1), (2, .int a2)], [.int 0, .int 0, .ref 79], (q_kM r1437 c n)) _ _
                                        refine q_RP_seg (g2 := (262, [(0, .ref 64), (1, .int a1), (2, .int a2)], [.int 6, .int a2, .int 1, .ref 79], (q_kM (q_sA r1437 15 (upd (r1437.1 15) 0 (vp_nar .boolean 0))) c n))) 6 (fun _ _ => rfl) ?_
                                        refine q_RP_call (v := (some (.int (q_b (dz_M206 (q_sA r1437 15 (upd (r1437.1 15) 0 (vp_nar .boolean 0))) a2 6))))) (h2 := (q_kM (q_sA r1437 15 (upd (r1437.1 15) 0 (vp_nar .boolean 0))) c n)) rfl rfl ((dzt_M206 (q_sA r1437 15 (upd (r1437.1 15) 0 (vp_nar .boolean 0))) c n a2 6).le (Nat.le_of_ble_eq_true rfl)) ?_
                                        generalize dz_M206 (q_sA r1437 15 (upd (r1437.1 15) 0 (vp_nar .boolean 0))) a2 6 = r1438
                                        refine q_RP_let ?_
                                        show q_RP _ _ _ (265, [(0, .ref 64), (1, .int a1), (2, .int a2)], [.int (q_b r1438), .int 1, .ref 79], (q_kM (q_sA r1437 15 (upd (r1437.1 15) 0 (vp_nar .boolean 0))) c n)) _ _
                                        cases h1516 : r1438 with
                                        | true =>
                                          refine q_RP_cT ?_
                                          show q_RP _ _ _ (265, [(0, .ref 64), (1, .int a1), (2, .int a2)], [.int 1, .int 1, .ref 79], (q_kM (q_sA r1437 15 (upd (r1437.1 15) 0 (vp_nar .boolean 0))) c n)) _ _
                                          generalize (q_sA r1437 15 (upd (r1437.1 15) 0 (vp_nar .boolean 0))) = r1439
                                          refine q_RP_let ?_
                                          show q_RP _ _ _ (265, [(0, .ref 64), (1, .int a1), (2, .int a2)], [.int 1, .int 1, .ref 79], (q_kM r1439 c n)) _ _
                                          refine q_RP_seg (g2 := (266, [(0, .ref 64), (1, .int a1), (2, .int a2)], [], (q_kM (q_sA r1439 15 (upd (r1439.1 15) 1 (vp_nar .boolean 1))) c n))) 1 (fun _ _ => rfl) ?_
                                          exact q_RP_ret rfl rfl rfl
                                        | false =>
                                          refine q_RP_cF ?_
                                          show q_RP _ _ _ (265, [(0, .ref 64), (1, .int a1), (2, .int a2)], [.int 0, .int 1, .ref 79], (q_kM (q_sA r1437 15 (upd (r1437.1 15) 0 (vp_nar .boolean 0))) c n)) _ _
                                          generalize (q_sA r1437 15 (upd (r1437.1 15) 0 (vp_nar .boolean 0))) = r1440
                                          refine q_RP_let ?_
                                          show q_RP _ _ _ (265, [(0, .ref 64), (1, .int a1), (2, .int a2)], [.int 0, .int 1, .ref 79], (q_kM r1440 c n)) _ _
                                          refine q_RP_seg (g2 := (266, [(0, .ref 64), (1, .int a1), (2, .int a2)], [], (q_kM (q_sA r1440 15 (upd (r1440.1 15) 1 (vp_nar .boolean 0))) c n))) 1 (fun _ _ => rfl) ?_
                                          exact q_RP_ret rfl rfl rfl
                                  | false =>
                                    refine q_RP_cF ?_
                                    cases h1517 : decide (a1 = 15) with
                                    | true =>
                                      refine q_RP_cT ?_
                                      refine q_RP_st1 (g2 := (220, [(0, .ref 64), (1, .int a1), (2, .int a2)], [], (q_kM s c n))) rfl (by rw [of_decide_eq_true h1517]; rfl) ?_
                                      refine q_RP_seg (g2 := (231, [(0, .ref 64), (1, .int a1), (2, .int a2)], [.int ((s.1 14) 0), .int 4, .ref 79], (q_kM s c n))) 7 (fun _ _ => rfl) ?_
                                      refine q_RP_seg (g2 := (233, [(0, .ref 64), (1, .int a1), (2, .int a2)], [.int (((s.1 14) 0) &&& a2), .int 4, .ref 79], (q_kM s c n))) 2 (fun _ _ => rfl) ?_
                                      cases h1518 : decide (((s.1 14) 0) &&& a2 = 0) with
                                      | true =>
                                        refine q_RP_cT ?_
                                        refine q_RP_rsF (g2 := (236, [(0, .ref 64), (1, .int a1), (2, .int a2)], [.int 4, .ref 79], (q_kM s c n))) rfl rfl (q_d_neT h1518) ?_
                                        refine q_RP_seg (g2 := (250, [(0, .ref 64), (1, .int a1), (2, .int a2)], [.int 7, .int a2, .int 0, .ref 79], (q_kM (q_sA s 15 (upd (s.1 15) 4 (vp_nar .boolean 1))) c n))) 8 (fun _ _ => rfl) ?_
                                        refine q_RP_call (v := (some (.int (q_b (dz_M206 (q_sA s 15 (upd (s.1 15) 4 (vp_nar .boolean 1))) a2 7))))) (h2 := (q_kM (q_sA s 15 (upd (s.1 15) 4 (vp_nar .boolean 1))) c n)) rfl rfl ((dzt_M206 (q_sA s 15 (upd (s.1 15) 4 (vp_nar .boolean 1))) c n a2 7).le (Nat.le_of_ble_eq_true rfl)) ?_
                                        generalize dz_M206 (q_sA s 15 (upd (s.1 15) 4 (vp_nar .boolean 1))) a2 7 = r1441
                                        refine q_RP_let ?_
                                        show q_RP _ _ _ (253, [(0, .ref 64), (1, .int a1), (2, .int a2)], [.int (q_b r1441), .int 0, .ref 79], (q_kM (q_sA s 15 (upd (s.1 15) 4 (vp_nar .boolean 1))) c n)) _ _
                                        cases h1519 : r1441 with
                                        | true =>
                                          refine q_RP_cT ?_
                                          show q_RP _ _ _ (253, [(0, .ref 64), (1, .int a1), (2, .int a2)], [.int 1, .int 0, .ref 79], (q_kM (q_sA s 15 (upd (s.1 15) 4 (vp_nar .boolean 1))) c n)) _ _
                                          generalize (q_sA s 15 (upd (s.1 15) 4 (vp_nar .boolean 1))) = r1442
                                          refine q_RP_let ?_
                                          show q_RP _ _ _ (253, [(0, .ref 64), (1, .int a1), (2, .int a2)], [.int 1, .int 0, .ref 79], (q_kM r1442 c n)) _ _
                                          refine q_RP_seg (g2 := (262, [(0, .ref 64), (1, .int a1), (2, .int a2)], [.int 6, .int a2, .int 1, .ref 79], (q_kM (q_sA r1442 15 (upd (r1442.1 15) 0 (vp_nar .boolean 1))) c n))) 6 (fun _ _ => rfl) ?_
                                          refine q_RP_call (v := (some (.int (q_b (dz_M206 (q_sA r1442 15 (upd (r1442.1 15) 0 (vp_nar .boolean 1))) a2 6))))) (h2 := (q_kM (q_sA r1442 15 (upd (r1442.1 15) 0 (vp_nar .boolean 1))) c n)) rfl rfl ((dzt_M206 (q_sA r1442 15 (upd (r1442.1 15) 0 (vp_nar .boolean 1))) c n a2 6).le (Nat.le_of_ble_eq_true rfl)) ?_
                                          generalize dz_M206 (q_sA r1442 15 (upd (r1442.1 15) 0 (vp_nar .boolean 1))) a2 6 = r1443
                                          refine q_RP_let ?_
                                          show q_RP _ _ _ (265, [(0, .ref 64), (1, .int a1), (2, .int a2)], [.int (q_b r1443), .int 1, .ref 79], (q_kM (q_sA r1442 15 (upd (r1442.1 15) 0 (vp_nar .boolean 1))) c n)) _ _
                                          cases h1520 : r1443 with
                                          | true =>
                                            refine q_RP_cT ?_
                                            show q_RP _ _ _ (265, [(0, .ref 64), (1, .int a1), (2, .int a2)], [.int 1, .int 1, .ref 79], (q_kM (q_sA r1442 15 (upd (r1442.1 15) 0 (vp_nar .boolean 1))) c n)) _ _
                                            generalize (q_sA r1442 15 (upd (r1442.1 15) 0 (vp_nar .boolean 1))) = r1444
                                            refine q_RP_let ?_
                                            show q_RP _ _ _ (265, [(0, .ref 64), (1, .int a1), (2, .int a2)], [.int 1, .int 1, .ref 79], (q_kM r1444 c n)) _ _
                                            refine q_RP_seg (g2 := (266, [(0, .ref 64), (1, .int a1), (2, .int a2)], [], (q_kM (q_sA r1444 15 (upd (r1444.1 15) 1 (vp_nar .boolean 1))) c n))) 1 (fun _ _ => rfl) ?_
                                            exact q_RP_ret rfl rfl rfl
                                          | false =>
                                            refine q_RP_cF ?_
                                            show q_RP _ _ _ (265, [(0, .ref 64), (1, .int a1), (2, .int a2)], [.int 0, .int 1, .ref 79], (q_kM (q_sA r1442 15 (upd (r1442.1 15) 0 (vp_nar .boolean 1))) c n)) _ _
                                            generalize (q_sA r1442 15 (upd (r1442.1 15) 0 (vp_nar .boolean 1))) = r1445
                                            refine q_RP_let ?_
                                            show q_RP _ _ _ (265, [(0, .ref 64), (1, .int a1), (2, .int a2)], [.int 0, .int 1, .ref 79], (q_kM r1445 c n)) _ _
                                            refine q_RP_seg (g2 := (266, [(0, .ref 64), (1, .int a1), (2, .int a2)], [], (q_kM (q_sA r1445 15 (upd (r1445.1 15) 1 (vp_nar .boolean 0))) c n))) 1 (fun _ _ => rfl) ?_
                                            exact q_RP_ret rfl rfl rfl
                                        | false =>
                                          refine q_RP_cF ?_
                                          show q_RP _ _ _ (253, [(0, .ref 64), (1, .int a1), (2, .int a2)], [.int 0, .int 0, .ref 79], (q_kM (q_sA s 15 (upd (s.1 15) 4 (vp_nar .boolean 1))) c n)) _ _
                                          generalize (q_sA s 15 (upd (s.1 15) 4 (vp_nar .boolean 1))) = r1446
                                          refine q_RP_let ?_
                                          show q_RP _ _ _ (253, [(0, .ref 64), (1, .int a1), (2, .int a2)], [.int 0, .int 0, .ref 79], (q_kM r1446 c n)) _ _
                                          refine q_RP_seg (g2 := (262, [(0, .ref 64), (1, .int a1), (2, .int a2)], [.int 6, .int a2, .int 1, .ref 79], (q_kM (q_sA r1446 15 (upd (r1446.1 15) 0 (vp_nar .boolean 0))) c n))) 6 (fun _ _ => rfl) ?_
                                          refine q_RP_call (v := (some (.int (q_b (dz_M206 (q_sA r1446 15 (upd (r1446.1 15) 0 (vp_nar .boolean 0))) a2 6))))) (h2 := (q_kM (q_sA r1446 15 (upd (r1446.1 15) 0 (vp_nar .boolean 0))) c n)) rfl rfl ((dzt_M206 (q_sA r1446 15 (upd (r1446.1 15) 0 (vp_nar .boolean 0))) c n a2 6).le (Nat.le_of_ble_eq_true rfl)) ?_
                                          generalize dz_M206 (q_sA r1446 15 (upd (r1446.1 15) 0 (vp_nar .boolean 0))) a2 6 = r1447
                                          refine q_RP_let ?_
                                          show q_RP _ _ _ (265, [(0, .ref 64), (1, .int a1), (2, .int a2)], [.int (q_b r1447), .int 1, .ref 79], (q_kM (q_sA r1446 15 (upd (r1446.1 15) 0 (vp_nar .boolean 0))) c n)) _ _
                                          cases h1521 : r1447 with
                                          | true =>
                                            refine q_RP_cT ?_
                                            show q_RP _ _ _ (265, [(0, .ref 64), (1, .int a1), (2, .int a2)], [.int 1, .int 1, .ref 79], (q_kM (q_sA r1446 15 (upd (r1446.1 15) 0 (vp_nar .boolean 0))) c n)) _ _
                                            generalize (q_sA r1446 15 (upd (r1446.1 15) 0 (vp_nar .boolean 0))) = r1448
                                            refine q_RP_let ?_
                                            show q_RP _ _ _ (265, [(0, .ref 64), (1, .int a1), (2, .int a2)], [.int 1, .int 1, .ref 79], (q_kM r1448 c n)) _ _
                                            refine q_RP_seg (g2 := (266, [(0, .ref 64), (1, .int a1), (2, .int a2)], [], (q_kM (q_sA r1448 15 (upd (r1448.1 15) 1 (vp_nar .boolean 1))) c n))) 1 (fun _ _ => rfl) ?_
                                            exact q_RP_ret rfl rfl rfl
                                          | false =>
                                            refine q_RP_cF ?_
                                            show q_RP _ _ _ (265, [(0, .ref 64), (1, .int a1), (2, .int a2)], [.int 0, .int 1, .ref 79], (q_kM (q_sA r1446 15 (upd (r1446.1 15) 0 (vp_nar .boolean 0))) c n)) _ _
                                            generalize (q_sA r1446 15 (upd (r1446.1 15) 0 (vp_nar .boolean 0))) = r1449
                                            refine q_RP_let ?_
                                            show q_RP _ _ _ (265, [(0, .ref 64), (1, .int a1), (2, .int a2)], [.int 0, .int 1, .ref 79], (q_kM r1449 c n)) _ _
                                            refine q_RP_seg (g2 := (266, [(0, .ref 64), (1, .int a1), (2, .int a2)], [], (q_kM (q_sA r1449 15 (upd (r1449.1 15) 1 (vp_nar .boolean 0))) c n))) 1 (fun _ _ => rfl) ?_
                                            exact q_RP_ret rfl rfl rfl
                                      | false =>
                                        refine q_RP_cF ?_
                                        refine q_RP_rsT (g2 := (240, [(0, .ref 64), (1, .int a1), (2, .int a2)], [.int 4, .ref 79], (q_kM s c n))) rfl rfl (q_d_neF h1518) ?_
                                        refine q_RP_seg (g2 := (250, [(0, .ref 64), (1, .int a1), (2, .int a2)], [.int 7, .int a2, .int 0, .ref 79], (q_kM (q_sA s 15 (upd (s.1 15) 4 (vp_nar .boolean 0))) c n))) 7 (fun _ _ => rfl) ?_
                                        refine q_RP_call (v := (some (.int (q_b (dz_M206 (q_sA s 15 (upd (s.1 15) 4 (vp_nar .boolean 0))) a2 7))))) (h2 := (q_kM (q_sA s 15 (upd (s.1 15) 4 (vp_nar .boolean 0))) c n)) rfl rfl ((dzt_M206 (q_sA s 15 (upd (s.1 15) 4 (vp_nar .boolean 0))) c n a2 7).le (Nat.le_of_ble_eq_true rfl)) ?_
                                        generalize dz_M206 (q_sA s 15 (upd (s.1 15) 4 (vp_nar .boolean 0))) a2 7 = r1450
                                        refine q_RP_let ?_
                                        show q_RP _ _ _ (253, [(0, .ref 64), (1, .int a1), (2, .int a2)], [.int (q_b r1450), .int 0, .ref 79], (q_kM (q_sA s 15 (upd (s.1 15) 4 (vp_nar .boolean 0))) c n)) _ _
                                        cases h1522 : r1450 with
                                        | true =>
                                          refine q_RP_cT ?_
                                          show q_RP _ _ _ (253, [(0, .ref 64), (1, .int a1), (2, .int a2)], [.int 1, .int 0, .ref 79], (q_kM (q_sA s 15 (upd (s.1 15) 4 (vp_nar .boolean 0))) c n)) _ _
                                          generalize (q_sA s 15 (upd (s.1 15) 4 (vp_nar .boolean 0))) = r1451
                                          refine q_RP_let ?_
                                          show q_RP _ _ _ (253, [(0, .ref 64), (1, .int a1), (2, .int a2)], [.int 1, .int 0, .ref 79], (q_kM r1451 c n)) _ _
                                          refine q_RP_seg (g2 := (262, [(0, .ref 64), (1, .int a1), (2, .int a2)], [.int 6, .int a2, .int 1, .ref 79], (q_kM (q_sA r1451 15 (upd (r1451.1 15) 0 (vp_nar .boolean 1))) c n))) 6 (fun _ _ => rfl) ?_
                                          refine q_RP_call (v := (some (.int (q_b (dz_M206 (q_sA r1451 15 (upd (r1451.1 15) 0 (vp_nar .boolean 1))) a2 6))))) (h2 := (q_kM (q_sA r1451 15 (upd (r1451.1 15) 0 (vp_nar .boolean 1))) c n)) rfl rfl ((dzt_M206 (q_sA r1451 15 (upd (r1451.1 15) 0 (vp_nar .boolean 1))) c n a2 6).le (Nat.le_of_ble_eq_true rfl)) ?_
                                          generalize dz_M206 (q_sA r1451 15 (upd (r1451.1 15) 0 (vp_nar .boolean 1))) a2 6 = r1452
                                          refine q_RP_let ?_
                                          show q_RP _ _ _ (265, [(0, .ref 64), (1, .int a1), (2, .int a2)], [.int (q_b r1452), .int 1, .ref 79], (q_kM (q_sA r1451 15 (upd (r1451.1 15) 0 (vp_nar .boolean 1))) c n)) _ _
                                          cases h1523 : r1452 with
                                          | true =>
                                            refine q_RP_cT ?_
                                            show q_RP _ _ _ (265, [(0, .ref 64), (1, .int a1), (2, .int a2)], [.int 1, .int 1, .ref 79], (q_kM (q_sA r1451 15 (upd (r1451.1 15) 0 (vp_nar .boolean 1))) c n)) _ _
                                            generalize (q_sA r1451 15 (upd (r1451.1 15) 0 (vp_nar .boolean 1))) = r1453
                                            refine q_RP_let ?_
                                            show q_RP _ _ _ (265, [(0, .ref 64), (1, .int a1), (2, .int a2)], [.int 1, .int 1, .ref 79], (q_kM r1453 c n)) _ _
                                            refine q_RP_seg (g2 := (266, [(0, .ref 64), (1, .int a1), (2, .int a2)], [], (q_kM (q_sA r1453 15 (upd (r1453.1 15) 1 (vp_nar .boolean 1))) c n))) 1 (fun _ _ => rfl) ?_
                                            exact q_RP_ret rfl rfl rfl
                                          | false =>
                                            refine q_RP_cF ?_
                                            show q_RP _ _ _ (265, [(0, .ref 64), (1, .int a1), (2, .int a2)], [.int 0, .int 1, .ref 79], (q_kM (q_sA r1451 15 (upd (r1451.1 15) 0 (vp_nar .boolean 1))) c n)) _ _
                                            generalize (q_sA r1451 15 (upd (r1451.1 15) 0 (vp_nar .boolean 1))) = r1454
                                            refine q_RP_let ?_
                                            show q_RP _ _ _ (265, [(0, .ref 64), (1, .int a1), (2, .int a2)], [.int 0, .int 1, .ref 79], (q_kM r1454 c n)) _ _
                                            refine q_RP_seg (g2 := (266, [(0, .ref 64), (1, .int a1), (2, .int a2)], [], (q_kM (q_sA r1454 15 (upd (r1454.1 15) 1 (vp_nar .boolean 0))) c n))) 1 (fun _ _ => rfl) ?_
                                            exact q_RP_ret rfl rfl rfl
                                        | false =>
                                          refine q_RP_cF ?_
                                          show q_RP _ _ _ (253, [(0, .ref 64), (1, .int a1), (2, .int a2)], [.int 0, .int 0, .ref 79], (q_kM (q_sA s 15 (upd (s.1 15) 4 (vp_nar .boolean 0))) c n)) _ _
                                          generalize (q_sA s 15 (upd (s.1 15) 4 (vp_nar .boolean 0))) = r1455
                                          refine q_RP_let ?_
                                          show q_RP _ _ _ (253, [(0, .ref 64), (1, .int a1), (2, .int a2)], [.int 0, .int 0, .ref 79], (q_kM r1455 c n)) _ _
                                          refine q_RP_seg (g2 := (262, [(0, .ref 64), (1, .int a1), (2, .int a2)], [.int 6, .int a2, .int 1, .ref 79], (q_kM (q_sA r1455 15 (upd (r1455.1 15) 0 (vp_nar .boolean 0))) c n))) 6 (fun _ _ => rfl) ?_
                                          refine q_RP_call (v := (some (.int (q_b (dz_M206 (q_sA r1455 15 (upd (r1455.1 15) 0 (vp_nar .boolean 0))) a2 6))))) (h2 := (q_kM (q_sA r1455 15 (upd (r1455.1 15) 0 (vp_nar .boolean 0))) c n)) rfl rfl ((dzt_M206 (q_sA r1455 15 (upd (r1455.1 15) 0 (vp_nar .boolean 0))) c n a2 6).le (Nat.le_of_ble_eq_true rfl)) ?_
                                          generalize dz_M206 (q_sA r1455 15 (upd (r1455.1 15) 0 (vp_nar .boolean 0))) a2 6 = r1456
                                          refine q_RP_let ?_
                                          show q_RP _ _ _ (265, [(0, .ref 64), (1, .int a1), (2, .int a2)], [.int (q_b r1456), .int 1, .ref 79], (q_kM (q_sA r1455 15 (upd (r1455.1 15) 0 (vp_nar .boolean 0))) c n)) _ _
                                          cases h1524 : r1456 with
                                          | true =>
                                            refine q_RP_cT ?_
                                            show q_RP _ _ _ (265, [(0, .ref 64), (1, .int a1), (2, .int a2)], [.int 1, .int 1, .ref 79], (q_kM (q_sA r1455 15 (upd (r1455.1 15) 0 (vp_nar .boolean 0))) c n)) _ _
                                            generalize (q_sA r1455 15 (upd (r1455.1 15) 0 (vp_nar .boolean 0))) = r1457
                                            refine q_RP_let ?_
                                            show q_RP _ _ _ (265, [(0, .ref 64), (1, .int a1), (2, .int a2)], [.int 1, .int 1, .ref 79], (q_kM r1457 c n)) _ _
                                            refine q_RP_seg (g2 := (266, [(0, .ref 64), (1, .int a1), (2, .int a2)], [], (q_kM (q_sA r1457 15 (upd (r1457.1 15) 1 (vp_nar .boolean 1))) c n))) 1 (fun _ _ => rfl) ?_
                                            exact q_RP_ret rfl rfl rfl
                                          | false =>
                                            refine q_RP_cF ?_
                                            show q_RP _ _ _ (265, [(0, .ref 64), (1, .int a1), (2, .int a2)], [.int 0, .int 1, .ref 79], (q_kM (q_sA r1455 15 (upd (r1455.1 15) 0 (vp_nar .boolean 0))) c n)) _ _
                                            generalize (q_sA r1455 15 (upd (r1455.1 15) 0 (vp_nar .boolean 0))) = r1458
                                            refine q_RP_let ?_
                                            show q_RP _ _ _ (265, [(0, .ref 64), (1, .int a1), (2, .int a2)], [.int 0, .int 1, .ref 79], (q_kM r1458 c n)) _ _
                                            refine q_RP_seg (g2 := (266, [(0, .ref 64), (1, .int a1), (2, .int a2)], [], (q_kM (q_sA r1458 15 (upd (r1458.1 15) 1 (vp_nar .boolean 0))) c n))) 1 (fun _ _ => rfl) ?_
                                            exact q_RP_ret rfl rfl rfl
                                    | false =>
                                      refine q_RP_cF ?_
                                      have h1525 : a1 = 16 := Int32.toInt_inj.mp (by have e0 := q_neI h1469 (n := 0); have e1 := q_neI h1470 (n := 1); have e2 := q_neI h1471 (n := 2); have e3 := q_neI h1472 (n := 3); have e4 := q_neI h1480 (n := 4); have e5 := q_neI h1488 (n := 5); have e6 := q_neI h1496 (n := 6); have e7 := q_neI h1502 (n := 7); have e8 := q_neI h1503 (n := 8); have e9 := q_neI h1504 (n := 9); have e10 := q_neI h1505 (n := 10); have e11 := q_neI h1506 (n := 11); have e12 := q_neI h1507 (n := 12); have e13 := q_neI h1508 (n := 13); have e14 := q_neI h1509 (n := 14); have e15 := q_neI h1517 (n := 15); have l1 : 0 ≤ (a1).toInt := q_lo1 h1453; have l2 : (a1).toInt ≤ 16 := q_hi2 h1461; show (a1).toInt = 16; omega)
                                      refine q_RP_st1 (g2 := (204, [(0, .ref 64), (1, .int a1), (2, .int a2)], [], (q_kM s c n))) rfl (by rw [h1525]; rfl) ?_
                                      refine q_RP_seg (g2 := (207, [(0, .ref 64), (1, .int a1), (2, .int a2)], [.int a2, .int 0, .ref 64], (q_kM s c n))) 3 (fun _ _ => rfl) ?_
                                      refine q_RP_bd fun r1459 er1459 => ?_
                                      refine q_RP_call (v := none) (h2 := (q_kM r1459 c n)) rfl rfl ((dzt_M262_64 s c n 0 a2 r1459 er1459).le (Nat.le_of_ble_eq_true rfl)) ?_
                                      show q_RP _ _ _ (210, [(0, .ref 64), (1, .int a1), (2, .int a2)], [], (q_kM r1459 c n)) _ _
                                      refine q_RP_seg (g2 := (266, [(0, .ref 64), (1, .int a1), (2, .int a2)], [], (q_kM (q_sA r1459 14 (upd (r1459.1 14) 1 a2)) c n))) 6 (fun _ _ => rfl) ?_
                                      exact q_RP_ret rfl rfl rfl
def dz_M271_64 (s : q_S) (a1 : Int32) (a2 : Int32) (a3 : Int32) : Option (q_S) :=
  q_let (dz_M245 s a1) fun r1231 => cond r1231 (cond (decide (0 < a2)) ((dz_M250_64 s a2 a3).bind fun r1232 => (dz_M270_64 r1232.1 a1 r1232.2).bind fun r1275 => some r1275) (some s)) (cond (decide (a2 = 0)) ((dz_M247_64 s (a3 + 1)).bind fun r1276 => (dz_M269_64 r1276.1 a1 r1276.2).bind fun r1460 => some r1460) ((dz_M250_64 s a2 a3).bind fun r1461 => (dz_M268_64 r1461.1 r1461.2).bind fun r1462 => (dz_M269_64 r1462.1 a1 r1462.2).bind fun r1463 => some r1463))
set_option maxHeartbeats 4000000 in
theorem dzt_M271_64 (s : q_S) (c n : Nat) (a1 : Int32) (a2 : Int32) (a3 : Int32) (x : q_S) (h : dz_M271_64 s a1 a2 a3 = some x) : q_Ca q_TB0 9 270 [.ref 64, .int a1, .int a2, .int a3] (q_kM s c n) ((q_oSM c n) x) := by
  refine q_CaP_of (φ := (q_oSM c n)) (Nat.le_of_ble_eq_true rfl) ?_ h
  clear h
  unfold dz_M271_64
  refine q_RP_seg (g2 := (1, [(0, .ref 64), (1, .int a1), (2, .int a2), (3, .int a3)], [.int a1], (q_kM s c n))) 1 (fun _ _ => rfl) ?_
  refine q_RP_call (v := (some (.int (q_b (dz_M245 s a1))))) (h2 := (q_kM s c n)) rfl rfl ((dzt_M245 s c n a1).le (Nat.le_of_ble_eq_true rfl)) ?_
  generalize dz_M245 s a1 = r1231
  refine q_RP_let ?_
  show q_RP _ _ _ (4, [(0, .ref 64), (1, .int a1), (2, .int a2), (3, .int a3)], [.int (q_b r1231)], (q_kM s c n)) _ _
  cases h1394 : r1231 with
  | true =>
    refine q_RP_cT ?_
    show q_RP _ _ _ (4, [(0, .ref 64), (1, .int a1), (2, .int a2), (3, .int a3)], [.int 1], (q_kM s c n)) _ _
    refine q_RP_seg (g2 := (8, [(0, .ref 64), (1, .int a1), (2, .int a2), (3, .int a3)], [.int a2], (q_kM s c n))) 2 (fun _ _ => rfl) ?_
    cases h1395 : decide (0 < a2) with
    | true =>
      refine q_RP_cT ?_
      refine q_RP_rsF (g2 := (11, [(0, .ref 64), (1, .int a1), (2, .int a2), (3, .int a3)], [], (q_kM s c n))) rfl rfl (q_d_geT h1395) ?_
      refine q_RP_seg (g2 := (16, [(0, .ref 64), (1, .int a1), (2, .int a2), (3, .int a3)], [.int a3, .int a2, .ref 64, .int a1, .ref 64], (q_kM s c n))) 5 (fun _ _ => rfl) ?_
      refine q_RP_bd fun r1232 er1232 => ?_
      refine q_RP_call (v := (some (.int r1232.2))) (h2 := (q_kM r1232.1 c n)) rfl rfl ((dzt_M250_64 s c n a2 a3 r1232 er1232).le (Nat.le_of_ble_eq_true rfl)) ?_
      show q_RP _ _ _ (19, [(0, .ref 64), (1, .int a1), (2, .int a2), (3, .int a3)], [.int r1232.2, .int a1, .ref 64], (q_kM r1232.1 c n)) _ _
      refine q_RP_bd fun r1275 er1275 => ?_
      refine q_RP_call (v := none) (h2 := (q_kM r1275 c n)) rfl rfl ((dzt_M270_64 r1232.1 c n a1 r1232.2 r1275 er1275).le (Nat.le_of_ble_eq_true rfl)) ?_
      show q_RP _ _ _ (22, [(0, .ref 64), (1, .int a1), (2, .int a2), (3, .int a3)], [], (q_kM r1275 c n)) _ _
      refine q_RP_seg (g2 := (54, [(0, .ref 64), (1, .int a1), (2, .int a2), (3, .int a3)], [], (q_kM r1275 c n))) 1 (fun _ _ => rfl) ?_
      exact q_RP_ret rfl rfl rfl
    | false =>
      refine q_RP_cF ?_
      refine q_RP_rsT (g2 := (54, [(0, .ref 64), (1, .int a1), (2, .int a2), (3, .int a3)], [], (q_kM s c n))) rfl rfl (q_d_geF h1395) ?_
      exact q_RP_ret rfl rfl rfl
  | false =>
    refine q_RP_cF ?_
    show q_RP _ _ _ (4, [(0, .ref 64), (1, .int a1), (2, .int a2), (3, .int a3)], [.int 0], (q_kM s c n)) _ _
    refine q_RP_seg (g2 := (28, [(0, .ref 64), (1, .int a1), (2, .int a2), (3, .int a3)], [.int a2, .int a1, .ref 64], (q_kM s c n))) 4 (fun _ _ => rfl) ?_
    cases h1435 : decide (a2 = 0) with
    | true =>
      refine q_RP_cT ?_
      refine q_RP_rsF (g2 := (31, [(0, .ref 64), (1, .int a1), (2, .int a2), (3, .int a3)], [.int a1, .ref 64], (q_kM s c n))) rfl rfl (q_d_neT h1435) ?_
      refine q_RP_seg (g2 := (35, [(0, .ref 64), (1, .int a1), (2, .int a2), (3, .int a3)], [.int (a3 + 1), .ref 64, .int a1, .ref 64], (q_kM s c n))) 4 (fun _ _ => rfl) ?_
      refine q_RP_bd fun r1276 er1276 => ?_
      refine q_RP_call (v := (some (.int r1276.2))) (h2 := (q_kM r1276.1 c n)) rfl rfl ((dzt_M247_64 s c n (a3 + 1) r1276 er1276).le (Nat.le_of_ble_eq_true rfl)) ?_
      show q_RP _ _ _ (38, [(0, .ref 64), (1, .int a1), (2, .int a2), (3, .int a3)], [.int r1276.2, .int a1, .ref 64], (q_kM r1276.1 c n)) _ _
      refine q_RP_seg (g2 := (51, [(0, .ref 64), (1, .int a1), (2, .int a2), (3, .int a3)], [.int r1276.2, .int a1, .ref 64], (q_kM r1276.1 c n))) 1 (fun _ _ => rfl) ?_
      refine q_RP_bd fun r1460 er1460 => ?_
      refine q_RP_call (v := none) (h2 := (q_kM r1460 c n)) rfl rfl ((dzt_M269_64 r1276.1 c n a1 r1276.2 r1460 er1460).le (Nat.le_of_ble_eq_true rfl)) ?_
      show q_RP _ _ _ (54, [(0, .ref 64), (1, .int a1), (2, .int a2), (3, .int a3)], [], (q_kM r1460 c n)) _ _
      exact q_RP_ret rfl rfl rfl
    | false =>
      refine q_RP_cF ?_
      refine q_RP_rsT (g2 := (41, [(0, .ref 64), (1, .int a1), (2, .int a2), (3, .int a3)], [.int a1, .ref 64], (q_kM s c n))) rfl rfl (q_d_neF h1435) ?_
      refine q_RP_seg (g2 := (45, [(0, .ref 64), (1, .int a1), (2, .int a2), (3, .int a3)], [.int a3, .int a2, .ref 64, .ref 64, .int a1, .ref 64], (q_kM s c n))) 4 (fun _ _ => rfl) ?_
      refine q_RP_bd fun r1461 er1461 => ?_
      refine q_RP_call (v := (some (.int r1461.2))) (h2 := (q_kM r1461.1 c n)) rfl rfl ((dzt_M250_64 s c n a2 a3 r1461 er1461).le (Nat.le_of_ble_eq_true rfl)) ?_
      show q_RP _ _ _ (48, [(0, .ref 64), (1, .int a1), (2, .int a2), (3, .int a3)], [.int r1461.2, .ref 64, .int a1, .ref 64], (q_kM r1461.1 c n)) _ _
      refine q_RP_bd fun r1462 er1462 => ?_
      refine q_RP_call (v := (some (.int r1462.2))) (h2 := (q_kM r1462.1 c n)) rfl rfl ((dzt_M268_64 r1461.1 c n r1461.2 r1462 er1462).le (Nat.le_of_ble_eq_true rfl)) ?_
      show q_RP _ _ _ (51, [(0, .ref 64), (1, .int a1), (2, .int a2), (3, .int a3)], [.int r1462.2, .int a1, .ref 64], (q_kM r1462.1 c n)) _ _
      refine q_RP_bd fun r1463 er1463 => ?_
      refine q_RP_call (v := none) (h2 := (q_kM r1463 c n)) rfl rfl ((dzt_M269_64 r1462.1 c n a1 r1462.2 r1463 er1463).le (Nat.le_of_ble_eq_true rfl)) ?_
      show q_RP _ _ _ (54, [(0, .ref 64), (1, .int a1), (2, .int a2), (3, .int a3)], [], (q_kM r1463 c n)) _ _
      exact q_RP_ret rfl rfl rfl
def dz_M276_64_194 (s : q_S) (v1 : Int32) : Option (q_S) :=
  cond (q_in (((s.1 14) 20) - ((s.1 14) 20) / 16 * 16) 16) (some (q_sA (q_sA s 9 (upd (s.1 9) ((((s.1 14) 20) - ((s.1 14) 20) / 16 * 16).toNatClampNeg) v1)) 14 (upd (s.1 14) 20 (((s.1 14) 20) + 1)))) none
set_option maxHeartbeats 4000000 in
theorem dzt_M276_64_194 (c n : Nat) (s : q_S) (v1 : Int32) : q_RP q_TB0 9 275 (194, [(0, .ref 64), (1, .int v1)], [], (q_kM s c n)) (q_oSM c n) (dz_M276_64_194 s v1) := by
  unfold dz_M276_64_194
  refine q_RP_seg (g2 := (205, [(0, .ref 64), (1, .int v1)], [.int ((s.1 14) 20), .ref 73], (q_kM s c n))) 6 (fun _ _ => rfl) ?_
  refine q_RP_seg (g2 := (209, [(0, .ref 64), (1, .int v1)], [.int v1, .int (((s.1 14) 20) - ((s.1 14) 20) / 16 * 16), .ref 73], (q_kM s c n))) 3 (fun _ _ => rfl) ?_
  refine q_RP_as fun i1266 => ?_
  refine q_RP_rsT (g2 := (210, [(0, .ref 64), (1, .int v1)], [], (q_kM (q_sA s 9 (upd (s.1 9) ((((s.1 14) 20) - ((s.1 14) 20) / 16 * 16).toNatClampNeg) v1)) c n))) rfl q_wM9 i1266 ?_
  refine q_RP_seg (g2 := (218, [(0, .ref 64), (1, .int v1)], [.int ((s.1 14) 20), .int 20, .ref 78], (q_kM (q_sA s 9 (upd (s.1 9) ((((s.1 14) 20) - ((s.1 14) 20) / 16 * 16).toNatClampNeg) v1)) c n))) 5 (fun _ _ => rfl) ?_
  refine q_RP_seg (g2 := (221, [(0, .ref 64), (1, .int v1)], [], (q_kM (q_sA (q_sA s 9 (upd (s.1 9) ((((s.1 14) 20) - ((s.1 14) 20) / 16 * 16).toNatClampNeg) v1)) 14 (upd (s.1 14) 20 (((s.1 14) 20) + 1))) c n))) 3 (fun _ _ => rfl) ?_
  exact q_RP_ret rfl rfl rfl
def dz_M276_64 (s : q_S) (a1 : Int32) : Option (q_S) :=
  (dz_M247_64 s a1).bind fun r932 => q_let (dz_M244 r932.1 r932.2) fun r933 => cond (decide (r933 < 0)) (cond (decide (r932.2 = 154)) (q_let (dz_M213 r932.1 (a1 + 1)) fun r934 => (dz_M260_64 r932.1 3838 r934 16).bind fun r935 => dz_M276_64_194 r935 a1) (cond (decide (r932.2 = 155)) ((dz_M256_64 r932.1).bind fun r936 => q_let (dz_M259_64 r936.1 r936.2) fun r1124 => (dz_M274_64 r1124 0).bind fun r1129 => dz_M276_64_194 (q_sA r1129.1 14 (upd (r1129.1.1 14) 4 r1129.2)) a1) (cond (decide (r932.2 = 156)) ((dz_M274_64 r932.1 1).bind fun r1130 => dz_M276_64_194 (q_sA r1130.1 14 (upd (r1130.1.1 14) 4 r1130.2)) a1) (q_let (dz_M202 r932.1 r932.2 157 159) fun r1131 => cond r1131 ((dz_M275_64 r932.1 r932.2 a1).bind fun r1140 => dz_M276_64_194 r1140 a1) (q_let (dz_M202 r932.1 r932.2 160 167) fun r1141 => cond r1141 (q_let (dz_M252_64 r932.1 r932.2) fun r1142 => cond r1142 ((dz_M253_64 r932.1 a1).bind fun r1143 => dz_M276_64_194 (q_sA r1143.1 14 (upd (r1143.1.1 14) 4 r1143.2)) a1) (q_let (dz_M213 r932.1 (a1 + 2)) fun r1144 => dz_M276_64_194 (q_sA r932.1 14 (upd (r932.1.1 14) 4 r1144)) a1)) ((dz_M273_64 r932.1 r932.2 a1).bind fun r1223 => dz_M276_64_194 r1223 a1)))))) (q_let (dz_M246 r932.1 r932.2) fun r1228 => (dz_M271_64 r932.1 r933 (r932.2 - r932.2 / 8 * 8) a1).bind fun r1464 => q_let (dz_M213 r1464 (a1 + r1228)) fun r1465 => dz_M276_64_194 (q_sA r1464 14 (upd (r1464.1 14) 4 r1465)) a1)
set_option maxHeartbeats 4000000 in
theorem dzt_M276_64 (s : q_S) (c n : Nat) (a1 : Int32) (x : q_S) (h : dz_M276_64 s a1 = some x) : q_Ca q_TB0 10 275 [.ref 64, .int a1] (q_kM s c n) ((q_oSM c n) x) := by
  refine q_CaP_of (φ := (q_oSM c n)) (Nat.le_of_ble_eq_true rfl) ?_ h
  clear h
  unfold dz_M276_64
  refine q_RP_seg (g2 := (2, [(0, .ref 64), (1, .int a1)], [.int a1, .ref 64], (q_kM s c n))) 2 (fun _ _ => rfl) ?_
  refine q_RP_bd fun r932 er932 => ?_
  refine q_RP_call (v := (some (.int r932.2))) (h2 := (q_kM r932.1 c n)) rfl rfl ((dzt_M247_64 s c n a1 r932 er932).le (Nat.le_of_ble_eq_true rfl)) ?_
  show q_RP _ _ _ (5, [(0, .ref 64), (1, .int a1)], [.int r932.2], (q_kM r932.1 c n)) _ _
  refine q_RP_seg (g2 := (7, [(2, .int r932.2), (0, .ref 64), (1, .int a1)], [.int r932.2], (q_kM r932.1 c n))) 2 (fun _ _ => rfl) ?_
  refine q_RP_call (v := (some (.int (dz_M244 r932.1 r932.2)))) (h2 := (q_kM r932.1 c n)) rfl rfl ((dzt_M244 r932.1 c n r932.2).le (Nat.le_of_ble_eq_true rfl)) ?_
  generalize dz_M244 r932.1 r932.2 = r933
  refine q_RP_let ?_
  show q_RP _ _ _ (10, [(2, .int r932.2), (0, .ref 64), (1, .int a1)], [.int r933], (q_kM r932.1 c n)) _ _
  refine q_RP_seg (g2 := (12, [(3, .int r933), (2, .int r932.2), (0, .ref 64), (1, .int a1)], [.int r933], (q_kM r932.1 c n))) 2 (fun _ _ => rfl) ?_
  cases h1264 : decide (r933 < 0) with
  | true =>
    refine q_RP_cT ?_
    refine q_RP_rsT (g2 := (47, [(3, .int r933), (2, .int r932.2), (0, .ref 64), (1, .int a1)], [], (q_kM r932.1 c n))) rfl rfl h1264 ?_
    refine q_RP_seg (g2 := (51, [(3, .int r933), (2, .int r932.2), (0, .ref 64), (1, .int a1)], [.int 154, .int r932.2], (q_kM r932.1 c n))) 2 (fun _ _ => rfl) ?_
    cases h1265 : decide (r932.2 = 154) with
    | true =>
      refine q_RP_cT ?_
      refine q_RP_rsF (g2 := (54, [(3, .int r933), (2, .int r932.2), (0, .ref 64), (1, .int a1)], [], (q_kM r932.1 c n))) rfl rfl (q_d_neT h1265) ?_
      refine q_RP_seg (g2 := (61, [(3, .int r933), (2, .int r932.2), (0, .ref 64), (1, .int a1)], [.int (a1 + 1), .int 3838, .ref 64], (q_kM r932.1 c n))) 5 (fun _ _ => rfl) ?_
      refine q_RP_call (v := (some (.int (dz_M213 r932.1 (a1 + 1))))) (h2 := (q_kM r932.1 c n)) rfl rfl ((dzt_M213 r932.1 c n (a1 + 1)).le (Nat.le_of_ble_eq_true rfl)) ?_
      generalize dz_M213 r932.1 (a1 + 1) = r934
      refine q_RP_let ?_
      show q_RP _ _ _ (64, [(3, .int r933), (2, .int r932.2), (0, .ref 64), (1, .int a1)], [.int r934, .int 3838, .ref 64], (q_kM r932.1 c n)) _ _
      refine q_RP_seg (g2 := (66, [(3, .int r933), (2, .int r932.2), (0, .ref 64), (1, .int a1)], [.int 16, .int r934, .int 3838, .ref 64], (q_kM r932.1 c n))) 1 (fun _ _ => rfl) ?_
      refine q_RP_bd fun r935 er935 => ?_
      refine q_RP_call (v := none) (h2 := (q_kM r935 c n)) rfl rfl ((dzt_M260_64 r932.1 c n 3838 r934 16 r935 er935).le (Nat.le_of_ble_eq_true rfl)) ?_
      show q_RP _ _ _ (69, [(3, .int r933), (2, .int r932.2), (0, .ref 64), (1, .int a1)], [], (q_kM r935 c n)) _ _
      refine q_RP_seg (g2 := (194, [(3, .int r933), (2, .int r932.2), (0, .ref 64), (1, .int a1)], [], (q_kM r935 c n))) 1 (fun _ _ => rfl) ?_
      exact q_RP_xt (q_xt_mk (q_mn1 2 rfl (q_mn1 3 rfl q_mn0)) rfl) (dzt_M276_64_194 c n r935 a1)
    | false =>
      refine q_RP_cF ?_
      refine q_RP_rsT (g2 := (72, [(3, .int r933), (2, .int r932.2), (0, .ref 64), (1, .int a1)], [], (q_kM r932.1 c n))) rfl rfl (q_d_neF h1265) ?_
      refine q_RP_seg (g2 := (76, [(3, .int r933), (2, .int r932.2), (0, .ref 64), (1, .int a1)], [.int 155, .int r932.2], (q_kM r932.1 c n))) 2 (fun _ _ => rfl) ?_
      cases h1267 : decide (r932.2 = 155) with
      | true =>
        refine q_RP_cT ?_
        refine q_RP_rsF (g2 := (79, [(3, .int r933), (2, .int r932.2), (0, .ref 64), (1, .int a1)], [], (q_kM r932.1 c n))) rfl rfl (q_d_neT h1267) ?_
        refine q_RP_seg (g2 := (81, [(3, .int r933), (2, .int r932.2), (0, .ref 64), (1, .int a1)], [.ref 64, .ref 64], (q_kM r932.1 c n))) 2 (fun _ _ => rfl) ?_
        refine q_RP_bd fun r936 er936 => ?_
        refine q_RP_call (v := (some (.int r936.2))) (h2 := (q_kM r936.1 c n)) rfl rfl ((dzt_M256_64 r932.1 c n r936 er936).le (Nat.le_of_ble_eq_true rfl)) ?_
        show q_RP _ _ _ (84, [(3, .int r933), (2, .int r932.2), (0, .ref 64), (1, .int a1)], [.int r936.2, .ref 64], (q_kM r936.1 c n)) _ _
        refine q_RP_call (v := none) (h2 := (q_kM (dz_M259_64 r936.1 r936.2) c n)) rfl rfl ((dzt_M259_64 r936.1 c n r936.2).le (Nat.le_of_ble_eq_true rfl)) ?_
        generalize dz_M259_64 r936.1 r936.2 = r1124
        refine q_RP_let ?_
        show q_RP _ _ _ (87, [(3, .int r933), (2, .int r932.2), (0, .ref 64), (1, .int a1)], [], (q_kM r1124 c n)) _ _
        refine q_RP_seg (g2 := (94, [(3, .int r933), (2, .int r932.2), (0, .ref 64), (1, .int a1)], [.int 0, .ref 64, .int 4, .ref 78], (q_kM r1124 c n))) 5 (fun _ _ => rfl) ?_
        refine q_RP_bd fun r1129 er1129 => ?_
        refine q_RP_call (v := (some (.int r1129.2))) (h2 := (q_kM r1129.1 c n)) rfl rfl ((dzt_M274_64 r1124 c n 0 r1129 er1129).le (Nat.le_of_ble_eq_true rfl)) ?_
        show q_RP _ _ _ (97, [(3, .int r933), (2, .int r932.2), (0, .ref 64), (1, .int a1)], [.int r1129.2, .int 4, .ref 78], (q_kM r1129.1 c n)) _ _
        refine q_RP_seg (g2 := (194, [(3, .int r933), (2, .int r932.2), (0, .ref 64), (1, .int a1)], [], (q_kM (q_sA r1129.1 14 (upd (r1129.1.1 14) 4 r1129.2)) c n))) 2 (fun _ _ => rfl) ?_
        exact q_RP_xt (q_xt_mk (q_mn1 2 rfl (q_mn1 3 rfl q_mn0)) rfl) (dzt_M276_64_194 c n (q_sA r1129.1 14 (upd (r1129.1.1 14) 4 r1129.2)) a1)
      | false =>
        refine q_RP_cF ?_
        refine q_RP_rsT (g2 := (101, [(3, .int r933), (2, .int r932.2), (0, .ref 64), (1, .int a1)], [], (q_kM r932.1 c n))) rfl rfl (q_d_neF h1267) ?_
        refine q_RP_seg (g2 := (105, [(3, .int r933), (2, .int r932.2), (0, .ref 64), (1, .int a1)], [.int 156, .int r932.2], (q_kM r932.1 c n))) 2 (fun _ _ => rfl) ?_
        cases h1332 : decide (r932.2 = 156) with
        | true =>
          refine q_RP_cT ?_
          refine q_RP_rsF (g2 := (108, [(3, .int r933), (2, .int r932.2), (0, .ref 64), (1, .int a1)], [], (q_kM r932.1 c n))) rfl rfl (q_d_neT h1332) ?_
          refine q_RP_seg (g2 := (115, [(3, .int r933), (2, .int r932.2), (0, .ref 64), (1, .int a1)], [.int 1, .ref 64, .int 4, .ref 78], (q_kM r932.1 c n))) 5 (fun _ _ => rfl) ?_
          refine q_RP_bd fun r1130 er1130 => ?_
          refine q_RP_call (v := (some (.int r1130.2))) (h2 := (q_kM r1130.1 c n)) rfl rfl ((dzt_M274_64 r932.1 c n 1 r1130 er1130).le (Nat.le_of_ble_eq_true rfl)) ?_
          show q_RP _ _ _ (118, [(3, .int r933), (2, .int r932.2), (0, .ref 64), (1, .int a1)], [.int r1130.2, .int 4, .ref 78], (q_kM r1130.1 c n)) _ _
          refine q_RP_seg (g2 := (194, [(3, .int r933), (2, .int r932.2), (0, .ref 64), (1, .int a1)], [], (q_kM (q_sA r1130.1 14 (upd (r1130.1.1 14) 4 r1130.2)) c n))) 2 (fun _ _ => rfl) ?_
          exact q_RP_xt (q_xt_mk (q_mn1 2 rfl (q_mn1 3 rfl q_mn0)) rfl) (dzt_M276_64_194 c n (q_sA r1130.1 14 (upd (r1130.1.1 14) 4 r1130.2)) a1)
        | false =>
          refine q_RP_cF ?_
          refine q_RP_rsT (g2 := (122, [(3, .int r933), (2, .int r932.2), (0, .ref 64), (1, .int a1)], [], (q_kM r932.1 c n))) rfl rfl (q_d_neF h1332) ?_
          refine q_RP_seg (g2 := (129, [(3, .int r933), (2, .int r932.2), (0, .ref 64), (1, .int a1)], [.int 159, .int 157, .int r932.2], (q_kM r932.1 c n))) 3 (fun _ _ => rfl) ?_
          refine q_RP_call (v := (some (.int (q_b (dz_M202 r932.1 r932.2 157 159))))) (h2 := (q_kM r932.1 c n)) rfl rfl ((dzt_M202 r932.1 c n r932.2 157 159).le (Nat.le_of_ble_eq_true rfl)) ?_
          generalize dz_M202 r932.1 r932.2 157 159 = r1131
          refine q_RP_let ?_
          show q_RP _ _ _ (132, [(3, .int r933), (2, .int r932.2), (0, .ref 64), (1, .int a1)], [.int (q_b r1131)], (q_kM r932.1 c n)) _ _
          cases h1333 : r1131 with
          | true =>
            refine q_RP_cT ?_
            show q_RP _ _ _ (132, [(3, .int r933), (2, .int r932.2), (0, .ref 64), (1, .int a1)], [.int 1], (q_kM r932.1 c n)) _ _
            refine q_RP_seg (g2 := (138, [(3, .int r933), (2, .int r932.2), (0, .ref 64), (1, .int a1)], [.int a1, .int r932.2, .ref 64], (q_kM r932.1 c n))) 4 (fun _ _ => rfl) ?_
            refine q_RP_bd fun r1140 er1140 => ?_
            refine q_RP_call (v := none) (h2 := (q_kM r1140 c n)) rfl rfl ((dzt_M275_64 r932.1 c n r932.2 a1 r1140 er1140).le (Nat.le_of_ble_eq_true rfl)) ?_
            show q_RP _ _ _ (141, [(3, .int r933), (2, .int r932.2), (0, .ref 64), (1, .int a1)], [], (q_kM r1140 c n)) _ _
            refine q_RP_seg (g2 := (194, [(3, .int r933), (2, .int r932.2), (0, .ref 64), (1, .int a1)], [], (q_kM r1140 c n))) 1 (fun _ _ => rfl) ?_
            exact q_RP_xt (q_xt_mk (q_mn1 2 rfl (q_mn1 3 rfl q_mn0)) rfl) (dzt_M276_64_194 c n r1140 a1)
          | false =>
            refine q_RP_cF ?_
            show q_RP _ _ _ (132, [(3, .int r933), (2, .int r932.2), (0, .ref 64), (1, .int a1)], [.int 0], (q_kM r932.1 c n)) _ _
            refine q_RP_seg (g2 := (151, [(3, .int r933), (2, .int r932.2), (0, .ref 64), (1, .int a1)], [.int 167, .int 160, .int r932.2], (q_kM r932.1 c n))) 4 (fun _ _ => rfl) ?_
            refine q_RP_call (v := (some (.int (q_b (dz_M202 r932.1 r932.2 160 167))))) (h2 := (q_kM r932.1 c n)) rfl rfl ((dzt_M202 r932.1 c n r932.2 160 167).le (Nat.le_of_ble_eq_true rfl)) ?_
            generalize dz_M202 r932.1 r932.2 160 167 = r1141
            refine q_RP_let ?_
            show q_RP _ _ _ (154, [(3, .int r933), (2, .int r932.2), (0, .ref 64), (1, .int a1)], [.int (q_b r1141)], (q_kM r932.1 c n)) _ _
            cases h1336 : r1141 with
            | true =>
              refine q_RP_cT ?_
              show q_RP _ _ _ (154, [(3, .int r933), (2, .int r932.2), (0, .ref 64), (1, .int a1)], [.int 1], (q_kM r932.1 c n)) _ _
              refine q_RP_seg (g2 := (164, [(3, .int r933), (2, .int r932.2), (0, .ref 64), (1, .int a1)], [.int r932.2, .ref 64, .int 4, .ref 78], (q_kM r932.1 c n))) 6 (fun _ _ => rfl) ?_
              refine q_RP_call (v := (some (.int (q_b (dz_M252_64 r932.1 r932.2))))) (h2 := (q_kM r932.1 c n)) rfl rfl ((dzt_M252_64 r932.1 c n r932.2).le (Nat.le_of_ble_eq_true rfl)) ?_
              generalize dz_M252_64 r932.1 r932.2 = r1142
              refine q_RP_let ?_
              show q_RP _ _ _ (167, [(3, .int r933), (2, .int r932.2), (0, .ref 64), (1, .int a1)], [.int (q_b r1142), .int 4, .ref 78], (q_kM r932.1 c n)) _ _
              cases h1337 : r1142 with
              | true =>
                refine q_RP_cT ?_
                show q_RP _ _ _ (167, [(3, .int r933), (2, .int r932.2), (0, .ref 64), (1, .int a1)], [.int 1, .int 4, .ref 78], (q_kM r932.1 c n)) _ _
                refine q_RP_seg (g2 := (172, [(3, .int r933), (2, .int r932.2), (0, .ref 64), (1, .int a1)], [.int a1, .ref 64, .int 4, .ref 78], (q_kM r932.1 c n))) 3 (fun _ _ => rfl) ?_
                refine q_RP_bd fun r1143 er1143 => ?_
                refine q_RP_call (v := (some (.int r1143.2))) (h2 := (q_kM r1143.1 c n)) rfl rfl ((dzt_M253_64 r932.1 c n a1 r1143 er1143).le (Nat.le_of_ble_eq_true rfl)) ?_
                show q_RP _ _ _ (175, [(3, .int r933), (2, .int r932.2), (0, .ref 64), (1, .int a1)], [.int r1143.2, .int 4, .ref 78], (q_kM r1143.1 c n)) _ _
                refine q_RP_seg (g2 := (194, [(3, .int r933), (2, .int r932.2), (0, .ref 64), (1, .int a1)], [], (q_kM (q_sA r1143.1 14 (upd (r1143.1.1 14) 4 r1143.2)) c n))) 3 (fun _ _ => rfl) ?_
                exact q_RP_xt (q_xt_mk (q_mn1 2 rfl (q_mn1 3 rfl q_mn0)) rfl) (dzt_M276_64_194 c n (q_sA r1143.1 14 (upd (r1143.1.1 14) 4 r1143.2)) a1)
              | false =>
                refine q_RP_cF ?_
                show q_RP _ _ _ (167, [(3, .int r933), (2, .int r932.2), (0, .ref 64), (1, .int a1)], [.int 0, .int 4, .ref 78], (q_kM r932.1 c n)) _ _
                refine q_RP_seg (g2 := (181, [(3, .int r933), (2, .int r932.2), (0, .ref 64), (1, .int a1)], [.int (a1 + 2), .int 4, .ref 78], (q_kM r932.1 c n))) 4 (fun _ _ => rfl) ?_
                refine q_RP_call (v := (some (.int (dz_M213 r932.1 (a1 + 2))))) (h2 := (q_kM r932.1 c n)) rfl rfl ((dzt_M213 r932.1 c n (a1 + 2)).le (Nat.le_of_ble_eq_true rfl)) ?_
                generalize dz_M213 r932.1 (a1 + 2) = r1144
                refine q_RP_let ?_
                show q_RP _ _ _ (184, [(3, .int r933), (2, .int r932.2), (0, .ref 64), (1, .int a1)], [.int r1144, .int 4, .ref 78], (q_kM r932.1 c n)) _ _
                refine q_RP_seg (g2 := (194, [(3, .int r933), (2, .int r932.2), (0, .ref 64), (1, .int a1)], [], (q_kM (q_sA r932.1 14 (upd (r932.1.1 14) 4 r1144)) c n))) 2 (fun _ _ => rfl) ?_
                exact q_RP_xt (q_xt_mk (q_mn1 2 rfl (q_mn1 3 rfl q_mn0)) rfl) (dzt_M276_64_194 c n (q_sA r932.1 14 (upd (r932.1.1 14) 4 r1144)) a1)
            | false =>
              refine q_RP_cF ?_
              show q_RP _ _ _ (154, [(3, .int r933), (2, .int r932.2), (0, .ref 64), (1, .int a1)], [.int 0], (q_kM r932.1 c n)) _ _
              refine q_RP_seg (g2 := (191, [(3, .int r933), (2, .int r932.2), (0, .ref 64), (1, .int a1)], [.int a1, .int r932.2, .ref 64], (q_kM r932.1 c n))) 4 (fun _ _ => rfl) ?_
              refine q_RP_bd fun r1223 er1223 => ?_
              refine q_RP_call (v := none) (h2 := (q_kM r1223 c n)) rfl rfl ((dzt_M273_64 r932.1 c n r932.2 a1 r1223 er1223).le (Nat.le_of_ble_eq_true rfl)) ?_
              show q_RP _ _ _ (194, [(3, .int r933), (2, .int r932.2), (0, .ref 64), (1, .int a1)], [], (q_kM r1223 c n)) _ _
              exact q_RP_xt (q_xt_mk (q_mn1 2 rfl (q_mn1 3 rfl q_mn0)) rfl) (dzt_M276_64_194 c n r1223 a1)
  | false =>
    refine q_RP_cF ?_
    refine q_RP_rsF (g2 := (15, [(3, .int r933), (2, .int r932.2), (0, .ref 64), (1, .int a1)], [], (q_kM r932.1 c n))) rfl rfl h1264 ?_
    refine q_RP_seg (g2 := (16, [(3, .int r933), (2, .int r932.2), (0, .ref 64), (1, .int a1)], [.int r932.2], (q_kM r932.1 c n))) 1 (fun _ _ => rfl) ?_
    refine q_RP_call (v := (some (.int (dz_M246 r932.1 r932.2)))) (h2 := (q_kM r932.1 c n)) rfl rfl ((dzt_M246 r932.1 c n r932.2).le (Nat.le_of_ble_eq_true rfl)) ?_
    generalize dz_M246 r932.1 r932.2 = r1228
    refine q_RP_let ?_
    show q_RP _ _ _ (19, [(3, .int r933), (2, .int r932.2), (0, .ref 64), (1, .int a1)], [.int r1228], (q_kM r932.1 c n)) _ _
    refine q_RP_seg (g2 := (28, [(4, .int r1228), (3, .int r933), (2, .int r932.2), (0, .ref 64), (1, .int a1)], [.int a1, .int (r932.2 - r932.2 / 8 * 8), .int r933, .ref 64], (q_kM r932.1 c n))) 7 (fun _ _ => rfl) ?_
    refine q_RP_bd fun r1464 er1464 => ?_
    refine q_RP_call (v := none) (h2 := (q_kM r1464 c n)) rfl rfl ((dzt_M271_64 r932.1 c n r933 (r932.2 - r932.2 / 8 * 8) a1 r1464 er1464).le (Nat.le_of_ble_eq_true rfl)) ?_
    show q_RP _ _ _ (31, [(4, .int r1228), (3, .int r933), (2, .int r932.2), (0, .ref 64), (1, .int a1)], [], (q_kM r1464 c n)) _ _
    refine q_RP_seg (g2 := (40, [(4, .int r1228), (3, .int r933), (2, .int r932.2), (0, .ref 64), (1, .int a1)], [.int (a1 + r1228), .int 4, .ref 78], (q_kM r1464 c n))) 6 (fun _ _ => rfl) ?_
    refine q_RP_call (v := (some (.int (dz_M213 r1464 (a1 + r1228))))) (h2 := (q_kM r1464 c n)) rfl rfl ((dzt_M213 r1464 c n (a1 + r1228)).le (Nat.le_of_ble_eq_true rfl)) ?_
    generalize dz_M213 r1464 (a1 + r1228) = r1465
    refine q_RP_let ?_
    show q_RP _ _ _ (43, [(4, .int r1228), (3, .int r933), (2, .int r932.2), (0, .ref 64), (1, .int a1)], [.int r1465, .int 4, .ref 78], (q_kM r1464 c n)) _ _
    refine q_RP_seg (g2 := (194, [(4, .int r1228), (3, .int r933), (2, .int r932.2), (0, .ref 64), (1, .int a1)], [], (q_kM (q_sA r1464 14 (upd (r1464.1 14) 4 r1465)) c n))) 2 (fun _ _ => rfl) ?_
    exact q_RP_xt (q_xt_mk (q_mn1 3 rfl (q_mn1 4 rfl q_mn0)) rfl) (dzt_M276_64_194 c n (q_sA r1464 14 (upd (r1464.1 14) 4 r1465)) a1)
def dz_M278_64_25 (s : q_S) : Option (q_S) :=
  cond (decide (0 < (upd (s.1 14) 17 (((s.1 14) 17) - 1)) 17)) (some (q_sA s 14 (upd (s.1 14) 17 (((s.1 14) 17) - 1)))) (q_let ((q_sA s 14 (upd (s.1 14) 17 (((s.1 14) 17) - 1)))) fun r916 => cond (decide (0 < (upd (r916.1 14) 19 (((upd (s.1 14) 17 (((s.1 14) 17) - 1)) 19) + 1)) 18)) ((dz_M260_64 (q_sA r916 14 (upd (r916.1 14) 19 (((upd (s.1 14) 17 (((s.1 14) 17) - 1)) 19) + 1))) ((upd (r916.1 14) 19 (((upd (s.1 14) 17 (((s.1 14) 17) - 1)) 19) + 1)) 18) ((upd (r916.1 14) 19 (((upd (s.1 14) 17 (((s.1 14) 17) - 1)) 19) + 1)) 4) 0).bind fun r930 => some r930) ((dz_M276_64 (q_sA r916 14 (upd (r916.1 14) 19 (((upd (s.1 14) 17 (((s.1 14) 17) - 1)) 19) + 1))) ((upd (r916.1 14) 19 (((upd (s.1 14) 17 (((s.1 14) 17) - 1)) 19) + 1)) 4)).bind fun r1466 => some r1466))
set_option maxHeartbeats 4000000 in
theorem dzt_M278_64_25 (c n : Nat) (s : q_S) : q_RP q_TB0 11 277 (25, [(0, .ref 64)], [], (q_kM s c n)) (q_oSM c n) (dz_M278_64_25 s) := by
  unfold dz_M278_64_25
  refine q_RP_seg (g2 := (33, [(0, .ref 64)], [.int ((s.1 14) 17), .int 17, .ref 78], (q_kM s c n))) 5 (fun _ _ => rfl) ?_
  refine q_RP_seg (g2 := (43, [(0, .ref 64)], [.int ((upd (s.1 14) 17 (((s.1 14) 17) - 1)) 17)], (q_kM (q_sA s 14 (upd (s.1 14) 17 (((s.1 14) 17) - 1))) c n))) 7 (fun _ _ => rfl) ?_
  cases h1259 : decide (0 < (upd (s.1 14) 17 (((s.1 14) 17) - 1)) 17) with
  | true =>
    refine q_RP_cT ?_
    refine q_RP_rsF (g2 := (46, [(0, .ref 64)], [], (q_kM (q_sA s 14 (upd (s.1 14) 17 (((s.1 14) 17) - 1))) c n))) rfl rfl (q_d_geT h1259) ?_
    exact q_RP_ret rfl rfl rfl
  | false =>
    refine q_RP_cF ?_
    refine q_RP_rsT (g2 := (47, [(0, .ref 64)], [], (q_kM (q_sA s 14 (upd (s.1 14) 17 (((s.1 14) 17) - 1))) c n))) rfl rfl (q_d_geF h1259) ?_
    refine q_RP_seg (g2 := (55, [(0, .ref 64)], [.int ((upd (s.1 14) 17 (((s.1 14) 17) - 1)) 19), .int 19, .ref 78], (q_kM (q_sA s 14 (upd (s.1 14) 17 (((s.1 14) 17) - 1))) c n))) 5 (fun _ _ => rfl) ?_
    refine q_RP_seg (g2 := (57, [(0, .ref 64)], [.int (((upd (s.1 14) 17 (((s.1 14) 17) - 1)) 19) + 1), .int 19, .ref 78], (q_kM (q_sA s 14 (upd (s.1 14) 17 (((s.1 14) 17) - 1))) c n))) 2 (fun _ _ => rfl) ?_
    generalize (q_sA s 14 (upd (s.1 14) 17 (((s.1 14) 17) - 1))) = r916
    refine q_RP_let ?_
    show q_RP _ _ _ (57, [(0, .ref 64)], [.int (((upd (s.1 14) 17 (((s.1 14) 17) - 1)) 19) + 1), .int 19, .ref 78], (q_kM r916 c n)) _ _
    refine q_RP_seg (g2 := (65, [(0, .ref 64)], [.int ((upd (r916.1 14) 19 (((upd (s.1 14) 17 (((s.1 14) 17) - 1)) 19) + 1)) 18)], (q_kM (q_sA r916 14 (upd (r916.1 14) 19 (((upd (s.1 14) 17 (((s.1 14) 17) - 1)) 19) + 1))) c n))) 5 (fun _ _ => rfl) ?_
    cases h1260 : decide (0 < (upd (r916.1 14) 19 (((upd (s.1 14) 17 (((s.1 14) 17) - 1)) 19) + 1)) 18) with
    | true =>
      refine q_RP_cT ?_
      refine q_RP_rsF (g2 := (68, [(0, .ref 64)], [], (q_kM (q_sA r916 14 (upd (r916.1 14) 19 (((upd (s.1 14) 17 (((s.1 14) 17) - 1)) 19) + 1))) c n))) rfl rfl (q_d_geT h1260) ?_
      refine q_RP_seg (g2 := (76, [(0, .ref 64)], [.int ((upd (r916.1 14) 19 (((upd (s.1 14) 17 (((s.1 14) 17) - 1)) 19) + 1)) 18), .ref 64], (q_kM (q_sA r916 14 (upd (r916.1 14) 19 (((upd (s.1 14) 17 (((s.1 14) 17) - 1)) 19) + 1))) c n))) 5 (fun _ _ => rfl) ?_
      refine q_RP_seg (g2 := (82, [(0, .ref 64)], [.int ((upd (r916.1 14) 19 (((upd (s.1 14) 17 (((s.1 14) 17) - 1)) 19) + 1)) 4), .int ((upd (r916.1 14) 19 (((upd (s.1 14) 17 (((s.1 14) 17) - 1)) 19) + 1)) 18), .ref 64], (q_kM (q_sA r916 14 (upd (r916.1 14) 19 (((upd (s.1 14) 17 (((s.1 14) 17) - 1)) 19) + 1))) c n))) 4 (fun _ _ => rfl) ?_
      refine q_RP_seg (g2 := (83, [(0, .ref 64)], [.int 0, .int ((upd (r916.1 14) 19 (((upd (s.1 14) 17 (((s.1 14) 17) - 1)) 19) + 1)) 4), .int ((upd (r916.1 14) 19 (((upd (s.1 14) 17 (((s.1 14) 17) - 1)) 19) + 1)) 18), .ref 64], (q_kM (q_sA r916 14 (upd (r916.1 14) 19 (((upd (s.1 14) 17 (((s.1 14) 17) - 1)) 19) + 1))) c n))) 1 (fun _ _ => rfl) ?_
      refine q_RP_bd fun r930 er930 => ?_
      refine q_RP_call (v := none) (h2 := (q_kM r930 c n)) rfl rfl ((dzt_M260_64 (q_sA r916 14 (upd (r916.1 14) 19 (((upd (s.1 14) 17 (((s.1 14) 17) - 1)) 19) + 1))) c n ((upd (r916.1 14) 19 (((upd (s.1 14) 17 (((s.1 14) 17) - 1)) 19) + 1)) 18) ((upd (r916.1 14) 19 (((upd (s.1 14) 17 (((s.1 14) 17) - 1)) 19) + 1)) 4) 0 r930 er930).le (Nat.le_of_ble_eq_true rfl)) ?_
      show q_RP _ _ _ (86, [(0, .ref 64)], [], (q_kM r930 c n)) _ _
      refine q_RP_seg (g2 := (99, [(0, .ref 64)], [], (q_kM r930 c n))) 1 (fun _ _ => rfl) ?_
      exact q_RP_ret rfl rfl rfl
    | false =>
      refine q_RP_cF ?_
      refine q_RP_rsT (g2 := (89, [(0, .ref 64)], [], (q_kM (q_sA r916 14 (upd (r916.1 14) 19 (((upd (s.1 14) 17 (((s.1 14) 17) - 1)) 19) + 1))) c n))) rfl rfl (q_d_geF h1260) ?_
      refine q_RP_seg (g2 := (96, [(0, .ref 64)], [.int ((upd (r916.1 14) 19 (((upd (s.1 14) 17 (((s.1 14) 17) - 1)) 19) + 1)) 4), .ref 64], (q_kM (q_sA r916 14 (upd (r916.1 14) 19 (((upd (s.1 14) 17 (((s.1 14) 17) - 1)) 19) + 1))) c n))) 5 (fun _ _ => rfl) ?_
      refine q_RP_bd fun r1466 er1466 => ?_
      refine q_RP_call (v := none) (h2 := (q_kM r1466 c n)) rfl rfl ((dzt_M276_64 (q_sA r916 14 (upd (r916.1 14) 19 (((upd (s.1 14) 17 (((s.1 14) 17) - 1)) 19) + 1))) c n ((upd (r916.1 14) 19 (((upd (s.1 14) 17 (((s.1 14) 17) - 1)) 19) + 1)) 4) r1466 er1466).le (Nat.le_of_ble_eq_true rfl)) ?_
      show q_RP _ _ _ (99, [(0, .ref 64)], [], (q_kM r1466 c n)) _ _
      exact q_RP_ret rfl rfl rfl
def dz_M278_64 (s : q_S) : Option (q_S) :=
  cond (decide ((s.1 15) 7 = 0)) (cond (decide ((s.1 14) 17 = 0)) ((dz_M277_64 s).bind fun r915 => dz_M278_64_25 r915) (dz_M278_64_25 s)) (some s)
set_option maxHeartbeats 4000000 in
theorem dzt_M278_64 (s : q_S) (c n : Nat) (x : q_S) (h : dz_M278_64 s = some x) : q_Ca q_TB0 12 277 [.ref 64] (q_kM s c n) ((q_oSM c n) x) := by
  refine q_CaP_of (φ := (q_oSM c n)) (Nat.le_of_ble_eq_true rfl) ?_ h
  clear h
  unfold dz_M278_64
  refine q_RP_seg (g2 := (7, [(0, .ref 64)], [.int ((s.1 15) 7)], (q_kM s c n))) 4 (fun _ _ => rfl) ?_
  cases h1257 : decide ((s.1 15) 7 = 0) with
  | true =>
    refine q_RP_cT ?_
    refine q_RP_rsT (g2 := (11, [(0, .ref 64)], [], (q_kM s c n))) rfl rfl h1257 ?_
    refine q_RP_seg (g2 := (18, [(0, .ref 64)], [.int ((s.1 14) 17)], (q_kM s c n))) 4 (fun _ _ => rfl) ?_
    cases h1258 : decide ((s.1 14) 17 = 0) with
    | true =>
      refine q_RP_cT ?_
      refine q_RP_rsF (g2 := (21, [(0, .ref 64)], [], (q_kM s c n))) rfl rfl (q_d_neT h1258) ?_
      refine q_RP_seg (g2 := (22, [(0, .ref 64)], [.ref 64], (q_kM s c n))) 1 (fun _ _ => rfl) ?_
      refine q_RP_bd fun r915 er915 => ?_
      refine q_RP_call (v := none) (h2 := (q_kM r915 c n)) rfl rfl ((dzt_M277_64 s c n r915 er915).le (Nat.le_of_ble_eq_true rfl)) ?_
      show q_RP _ _ _ (25, [(0, .ref 64)], [], (q_kM r915 c n)) _ _
      exact (dzt_M278_64_25 c n r915)
    | false =>
      refine q_RP_cF ?_
      refine q_RP_rsT (g2 := (25, [(0, .ref 64)], [], (q_kM s c n))) rfl rfl (q_d_neF h1258) ?_
      exact (dzt_M278_64_25 c n s)
  | false =>
    refine q_RP_cF ?_
    refine q_RP_rsF (g2 := (10, [(0, .ref 64)], [], (q_kM s c n))) rfl rfl h1257 ?_
    exact q_RP_ret rfl rfl rfl
def dz_M235_64_117 (s : q_S) (v2 : Int32) : Option (q_S × Bool) :=
  cond (decide (v2 = 0)) (cond (q_z1 v2) (some ((q_sJ (q_sJ s 0 16 ((s.2.2 0 16) + 0)) 0 15 ((s.2.2 0 15) + 1)), (decide (v2 = 1)))) none) (cond (q_z1 v2) (some ((q_sJ (q_sJ s 0 16 ((s.2.2 0 16) + 1)) 0 15 ((s.2.2 0 15) + 1)), (decide (v2 = 1)))) none)
set_option maxHeartbeats 4000000 in
theorem dzt_M235_64_117 (c n : Nat) (s : q_S) (v2 : Int32) : q_RP q_TB0 12 234 (117, [(0, .ref 64), (2, .int v2)], [], (q_kM s c n)) (q_oJM c n) (dz_M235_64_117 s v2) := by
  unfold dz_M235_64_117
  refine q_RP_seg (g2 := (122, [(0, .ref 64), (2, .int v2)], [.long (s.2.2 0 16), .ref 64], (q_kM s c n))) 3 (fun _ _ => rfl) ?_
  refine q_RP_seg (g2 := (123, [(0, .ref 64), (2, .int v2)], [.int v2, .long (s.2.2 0 16), .ref 64], (q_kM s c n))) 1 (fun _ _ => rfl) ?_
  cases h1526 : decide (v2 = 0) with
  | true =>
    refine q_RP_cT ?_
    refine q_RP_rsT (g2 := (130, [(0, .ref 64), (2, .int v2)], [.long (s.2.2 0 16), .ref 64], (q_kM s c n))) rfl rfl h1526 ?_
    refine q_RP_seg (g2 := (140, [(0, .ref 64), (2, .int v2)], [.long (s.2.2 0 15), .ref 64], (q_kM (q_sJ s 0 16 ((s.2.2 0 16) + 0)) c n))) 6 (fun _ _ => rfl) ?_
    refine q_RP_seg (g2 := (146, [(0, .ref 64), (2, .int v2)], [.int v2], (q_kM (q_sJ (q_sJ s 0 16 ((s.2.2 0 16) + 0)) 0 15 ((s.2.2 0 15) + 1)) c n))) 4 (fun _ _ => rfl) ?_
    refine q_RP_as fun i1527 => ?_
    exact q_RP_ret rfl (q_rz01 i1527) (by show (Sum.inl (some (Value.int (q_b (decide (v2 = 1))))), _) = _; rw [q_b01 i1527]; try rfl)
  | false =>
    refine q_RP_cF ?_
    refine q_RP_rsF (g2 := (126, [(0, .ref 64), (2, .int v2)], [.long (s.2.2 0 16), .ref 64], (q_kM s c n))) rfl rfl h1526 ?_
    refine q_RP_seg (g2 := (140, [(0, .ref 64), (2, .int v2)], [.long (s.2.2 0 15), .ref 64], (q_kM (q_sJ s 0 16 ((s.2.2 0 16) + 1)) c n))) 7 (fun _ _ => rfl) ?_
    refine q_RP_seg (g2 := (146, [(0, .ref 64), (2, .int v2)], [.int v2], (q_kM (q_sJ (q_sJ s 0 16 ((s.2.2 0 16) + 1)) 0 15 ((s.2.2 0 15) + 1)) c n))) 4 (fun _ _ => rfl) ?_
    refine q_RP_as fun i1528 => ?_
    exact q_RP_ret rfl (q_rz01 i1528) (by show (Sum.inl (some (Value.int (q_b (decide (v2 = 1))))), _) = _; rw [q_b01 i1528]; try rfl)
def dz_M235_64_109 (s : q_S) (v2 : Int32) : Option (q_S × Bool) :=
  cond (decide (v2 = 0)) ((dz_M278_64 s).bind fun r1467 => dz_M235_64_117 r1467 v2) (dz_M235_64_117 s v2)
set_option maxHeartbeats 4000000 in
theorem dzt_M235_64_109 (c n : Nat) (s : q_S) (v2 : Int32) : q_RP q_TB0 12 234 (109, [(0, .ref 64), (2, .int v2)], [], (q_kM s c n)) (q_oJM c n) (dz_M235_64_109 s v2) := by
  unfold dz_M235_64_109
  refine q_RP_seg (g2 := (110, [(0, .ref 64), (2, .int v2)], [.int v2], (q_kM s c n))) 1 (fun _ _ => rfl) ?_
  cases h1151 : decide (v2 = 0) with
  | true =>
    refine q_RP_cT ?_
    refine q_RP_rsF (g2 := (113, [(0, .ref 64), (2, .int v2)], [], (q_kM s c n))) rfl rfl (q_d_neT h1151) ?_
    refine q_RP_seg (g2 := (114, [(0, .ref 64), (2, .int v2)], [.ref 64], (q_kM s c n))) 1 (fun _ _ => rfl) ?_
    refine q_RP_bd fun r1467 er1467 => ?_
    refine q_RP_call (v := none) (h2 := (q_kM r1467 c n)) rfl rfl ((dzt_M278_64 s c n r1467 er1467).le (Nat.le_of_ble_eq_true rfl)) ?_
    show q_RP _ _ _ (117, [(0, .ref 64), (2, .int v2)], [], (q_kM r1467 c n)) _ _
    exact (dzt_M235_64_117 c n r1467 v2)
  | false =>
    refine q_RP_cF ?_
    refine q_RP_rsT (g2 := (117, [(0, .ref 64), (2, .int v2)], [], (q_kM s c n))) rfl rfl (q_d_neF h1151) ?_
    exact (dzt_M235_64_117 c n s v2)
def dz_M235_64_91 (s : q_S) (v1 : Int32) (v2 : Int32) : Option (q_S × Bool) :=
  (dz_M230_64 s).bind fun r837 => (dz_M231_64 r837).bind fun r838 => cond (decide (v1 = 23)) ((dz_M234_64 r838).bind fun r839 => dz_M235_64_109 r839 v2) (dz_M235_64_109 r838 v2)
set_option maxHeartbeats 4000000 in
theorem dzt_M235_64_91 (c n : Nat) (s : q_S) (v1 : Int32) (v2 : Int32) : q_RP q_TB0 12 234 (91, [(0, .ref 64), (1, .int v1), (2, .int v2)], [], (q_kM s c n)) (q_oJM c n) (dz_M235_64_91 s v1 v2) := by
  unfold dz_M235_64_91
  refine q_RP_seg (g2 := (92, [(0, .ref 64), (1, .int v1), (2, .int v2)], [.ref 64], (q_kM s c n))) 1 (fun _ _ => rfl) ?_
  refine q_RP_bd fun r837 er837 => ?_
  refine q_RP_call (v := none) (h2 := (q_kM r837 c n)) rfl rfl ((dzt_M230_64 s c n r837 er837).le (Nat.le_of_ble_eq_true rfl)) ?_
  show q_RP _ _ _ (95, [(0, .ref 64), (1, .int v1), (2, .int v2)], [], (q_kM r837 c n)) _ _
  refine q_RP_seg (g2 := (96, [(0, .ref 64), (1, .int v1), (2, .int v2)], [.ref 64], (q_kM r837 c n))) 1 (fun _ _ => rfl) ?_
  refine q_RP_bd fun r838 er838 => ?_
  refine q_RP_call (v := none) (h2 := (q_kM r838 c n)) rfl rfl ((dzt_M231_64 r837 c n r838 er838).le (Nat.le_of_ble_eq_true rfl)) ?_
  show q_RP _ _ _ (99, [(0, .ref 64), (1, .int v1), (2, .int v2)], [], (q_kM r838 c n)) _ _
  refine q_RP_seg (g2 := (102, [(0, .ref 64), (1, .int v1), (2, .int v2)], [.int 23, .int v1], (q_kM r838 c n))) 2 (fun _ _ => rfl) ?_
  cases h1150 : decide (v1 = 23) with
  | true =>
    refine q_RP_cT ?_
    refine q_RP_rsF (g2 := (105, [(0, .ref 64), (1, .int v1), (2, .int v2)], [], (q_kM r838 c n))) rfl rfl (q_d_neT h1150) ?_
    refine q_RP_seg (g2 := (106, [(0, .ref 64), (1, .int v1), (2, .int v2)], [.ref 64], (q_kM r838 c n))) 1 (fun _ _ => rfl) ?_
    refine q_RP_bd fun r839 er839 => ?_
    refine q_RP_call (v := none) (h2 := (q_kM r839 c n)) rfl rfl ((dzt_M234_64 r838 c n r839 er839).le (Nat.le_of_ble_eq_true rfl)) ?_
    show q_RP _ _ _ (109, [(0, .ref 64), (1, .int v1), (2, .int v2)], [], (q_kM r839 c n)) _ _
    exact q_RP_xt (q_xt_mk (q_mn1 0 rfl (q_mn1 2 rfl q_mn0)) rfl) (dzt_M235_64_109 c n r839 v2)
  | false =>
    refine q_RP_cF ?_
    refine q_RP_rsT (g2 := (109, [(0, .ref 64), (1, .int v1), (2, .int v2)], [], (q_kM r838 c n))) rfl rfl (q_d_neF h1150) ?_
    exact q_RP_xt (q_xt_mk (q_mn1 0 rfl (q_mn1 2 rfl q_mn0)) rfl) (dzt_M235_64_109 c n r838 v2)
def dz_M235_64_39 (s : q_S) (v1 : Int32) : Option (q_S × Bool) :=
  (dz_M225_64 s).bind fun r831 => cond r831 (q_let (dz_M222_64 s) fun r832 => q_let (dz_M202 s r832 0 31) fun r833 => cond r833 (q_let (dz_M202 s v1 4 19) fun r834 => cond r834 ((dz_M228_64 s ((2 * v1) - 8) r832).bind fun r835 => (dz_M228_64 r835 ((2 * v1) - 7) r832).bind fun r836 => dz_M235_64_91 r836 v1 1) (dz_M235_64_91 s v1 1)) (dz_M235_64_91 s v1 1)) (q_let (dz_M222_64 s) fun r1468 => q_let (dz_M202 s r1468 0 31) fun r1469 => cond r1469 (q_let (dz_M202 s v1 4 19) fun r1470 => cond r1470 ((dz_M228_64 s ((2 * v1) - 8) r1468).bind fun r1471 => (dz_M228_64 r1471 ((2 * v1) - 7) r1468).bind fun r1472 => dz_M235_64_91 r1472 v1 0) (dz_M235_64_91 s v1 0)) (dz_M235_64_91 s v1 0))
set_option maxHeartbeats 4000000 in
theorem dzt_M235_64_39 (c n : Nat) (s : q_S) (v1 : Int32) : q_RP q_TB0 12 234 (39, [(0, .ref 64), (1, .int v1)], [], (q_kM s c n)) (q_oJM c n) (dz_M235_64_39 s v1) := by
  unfold dz_M235_64_39
  refine q_RP_seg (g2 := (40, [(0, .ref 64), (1, .int v1)], [.ref 64], (q_kM s c n))) 1 (fun _ _ => rfl) ?_
  refine q_RP_bd fun r831 er831 => ?_
  refine q_RP_call (v := (some (.int (q_b r831)))) (h2 := (q_kM s c n)) rfl rfl ((dzt_M225_64 s c n r831 er831).le (Nat.le_of_ble_eq_true rfl)) ?_
  show q_RP _ _ _ (43, [(0, .ref 64), (1, .int v1)], [.int (q_b r831)], (q_kM s c n)) _ _
  cases h1147 : r831 with
  | true =>
    refine q_RP_cT ?_
    show q_RP _ _ _ (43, [(0, .ref 64), (1, .int v1)], [.int 1], (q_kM s c n)) _ _
    refine q_RP_seg (g2 := (45, [(2, .int 1), (0, .ref 64), (1, .int v1)], [.ref 64], (q_kM s c n))) 2 (fun _ _ => rfl) ?_
    refine q_RP_call (v := (some (.int (dz_M222_64 s)))) (h2 := (q_kM s c n)) rfl rfl ((dzt_M222_64 s c n).le (Nat.le_of_ble_eq_true rfl)) ?_
    generalize dz_M222_64 s = r832
    refine q_RP_let ?_
    show q_RP _ _ _ (48, [(2, .int 1), (0, .ref 64), (1, .int v1)], [.int r832], (q_kM s c n)) _ _
    refine q_RP_seg (g2 := (53, [(3, .int r832), (2, .int 1), (0, .ref 64), (1, .int v1)], [.int 31, .int 0, .int r832], (q_kM s c n))) 4 (fun _ _ => rfl) ?_
    refine q_RP_call (v := (some (.int (q_b (dz_M202 s r832 0 31))))) (h2 := (q_kM s c n)) rfl rfl ((dzt_M202 s c n r832 0 31).le (Nat.le_of_ble_eq_true rfl)) ?_
    generalize dz_M202 s r832 0 31 = r833
    refine q_RP_let ?_
    show q_RP _ _ _ (56, [(3, .int r832), (2, .int 1), (0, .ref 64), (1, .int v1)], [.int (q_b r833)], (q_kM s c n)) _ _
    cases h1148 : r833 with
    | true =>
      refine q_RP_cT ?_
      show q_RP _ _ _ (56, [(3, .int r832), (2, .int 1), (0, .ref 64), (1, .int v1)], [.int 1], (q_kM s c n)) _ _
      refine q_RP_seg (g2 := (63, [(3, .int r832), (2, .int 1), (0, .ref 64), (1, .int v1)], [.int 19, .int 4, .int v1], (q_kM s c n))) 4 (fun _ _ => rfl) ?_
      refine q_RP_call (v := (some (.int (q_b (dz_M202 s v1 4 19))))) (h2 := (q_kM s c n)) rfl rfl ((dzt_M202 s c n v1 4 19).le (Nat.le_of_ble_eq_true rfl)) ?_
      generalize dz_M202 s v1 4 19 = r834
      refine q_RP_let ?_
      show q_RP _ _ _ (66, [(3, .int r832), (2, .int 1), (0, .ref 64), (1, .int v1)], [.int (q_b r834)], (q_kM s c n)) _ _
      cases h1149 : r834 with
      | true =>
        refine q_RP_cT ?_
        show q_RP _ _ _ (66, [(3, .int r832), (2, .int 1), (0, .ref 64), (1, .int v1)], [.int 1], (q_kM s c n)) _ _
        refine q_RP_seg (g2 := (77, [(3, .int r832), (2, .int 1), (0, .ref 64), (1, .int v1)], [.int r832, .int ((2 * v1) - 8), .ref 64], (q_kM s c n))) 8 (fun _ _ => rfl) ?_
        refine q_RP_bd fun r835 er835 => ?_
        refine q_RP_call (v := none) (h2 := (q_kM r835 c n)) rfl rfl ((dzt_M228_64 s c n ((2 * v1) - 8) r832 r835 er835).le (Nat.le_of_ble_eq_true rfl)) ?_
        show q_RP _ _ _ (80, [(3, .int r832), (2, .int 1), (0, .ref 64), (1, .int v1)], [], (q_kM r835 c n)) _ _
        refine q_RP_seg (g2 := (88, [(3, .int r832), (2, .int 1), (0, .ref 64), (1, .int v1)], [.int r832, .int ((2 * v1) - 7), .ref 64], (q_kM r835 c n))) 7 (fun _ _ => rfl) ?_
        refine q_RP_bd fun r836 er836 => ?_
        refine q_RP_call (v := none) (h2 := (q_kM r836 c n)) rfl rfl ((dzt_M228_64 r835 c n ((2 * v1) - 7) r832 r836 er836).le (Nat.le_of_ble_eq_true rfl)) ?_
        show q_RP _ _ _ (91, [(3, .int r832), (2, .int 1), (0, .ref 64), (1, .int v1)], [], (q_kM r836 c n)) _ _
        exact q_RP_xt (q_xt_mk (q_mn1 2 rfl (q_mn1 3 rfl (q_mn1 1 rfl q_mn0))) rfl) (dzt_M235_64_91 c n r836 v1 1)
      | false =>
        refine q_RP_cF ?_
        show q_RP _ _ _ (66, [(3, .int r832), (2, .int 1), (0, .ref 64), (1, .int v1)], [.int 0], (q_kM s c n)) _ _
        refine q_RP_seg (g2 := (91, [(3, .int r832), (2, .int 1), (0, .ref 64), (1, .int v1)], [], (q_kM s c n))) 1 (fun _ _ => rfl) ?_
        exact q_RP_xt (q_xt_mk (q_mn1 2 rfl (q_mn1 3 rfl (q_mn1 1 rfl q_mn0))) rfl) (dzt_M235_64_91 c n s v1 1)
    | false =>
      refine q_RP_cF ?_
      show q_RP _ _ _ (56, [(3, .int r832), (2, .int 1), (0, .ref 64), (1, .int v1)], [.int 0], (q_kM s c n)) _ _
      refine q_RP_seg (g2 := (91, [(3, .int r832), (2, .int 1), (0, .ref 64), (1, .int v1)], [], (q_kM s c n))) 1 (fun _ _ => rfl) ?_
      exact q_RP_xt (q_xt_mk (q_mn1 2 rfl (q_mn1 3 rfl (q_mn1 1 rfl q_mn0))) rfl) (dzt_M235_64_91 c n s v1 1)
  | false =>
    refine q_RP_cF ?_
    show q_RP _ _ _ (43, [(0, .ref 64), (1, .int v1)], [.int 0], (q_kM s c n)) _ _
    refine q_RP_seg (g2 := (45, [(2, .int 0), (0, .ref 64), (1, .int v1)], [.ref 64], (q_kM s c n))) 2 (fun _ _ => rfl) ?_
    refine q_RP_call (v := (some (.int (dz_M222_64 s)))) (h2 := (q_kM s c n)) rfl rfl ((dzt_M222_64 s c n).le (Nat.le_of_ble_eq_true rfl)) ?_
    generalize dz_M222_64 s = r1468
    refine q_RP_let ?_
    show q_RP _ _ _ (48, [(2, .int 0), (0, .ref 64), (1, .int v1)], [.int r1468], (q_kM s c n)) _ _
    refine q_RP_seg (g2 := (53, [(3, .int r1468), (2, .int 0), (0, .ref 64), (1, .int v1)], [.int 31, .int 0, .int r1468], (q_kM s c n))) 4 (fun _ _ => rfl) ?_
    refine q_RP_call (v := (some (.int (q_b (dz_M202 s r1468 0 31))))) (h2 := (q_kM s c n)) rfl rfl ((dzt_M202 s c n r1468 0 31).le (Nat.le_of_ble_eq_true rfl)) ?_
    generalize dz_M202 s r1468 0 31 = r1469
    refine q_RP_let ?_
    show q_RP _ _ _ (56, [(3, .int r1468), (2, .int 0), (0, .ref 64), (1, .int v1)], [.int (q_b r1469)], (q_kM s c n)) _ _
    cases h1529 : r1469 with
    | true =>
      refine q_RP_cT ?_
      show q_RP _ _ _ (56, [(3, .int r1468), (2, .int 0), (0, .ref 64), (1, .int v1)], [.int 1], (q_kM s c n)) _ _
      refine q_RP_seg (g2 := (63, [(3, .int r1468), (2, .int 0), (0, .ref 64), (1, .int v1)], [.int 19, .int 4, .int v1], (q_kM s c n))) 4 (fun _ _ => rfl) ?_
      refine q_RP_call (v := (some (.int (q_b (dz_M202 s v1 4 19))))) (h2 := (q_kM s c n)) rfl rfl ((dzt_M202 s c n v1 4 19).le (Nat.le_of_ble_eq_true rfl)) ?_
      generalize dz_M202 s v1 4 19 = r1470
      refine q_RP_let ?_
      show q_RP _ _ _ (66, [(3, .int r1468), (2, .int 0), (0, .ref 64), (1, .int v1)], [.int (q_b r1470)], (q_kM s c n)) _ _
      cases h1530 : r1470 with
      | true =>
        refine q_RP_cT ?_
        show q_RP _ _ _ (66, [(3, .int r1468), (2, .int 0), (0, .ref 64), (1, .int v1)], [.int 1], (q_kM s c n)) _ _
        refine q_RP_seg (g2 := (77, [(3, .int r1468), (2, .int 0), (0, .ref 64), (1, .int v1)], [.int r1468, .int ((2 * v1) - 8), .ref 64], (q_kM s c n))) 8 (fun _ _ => rfl) ?_
        refine q_RP_bd fun r1471 er1471 => ?_
        refine q_RP_call (v := none) (h2 := (q_kM r1471 c n)) rfl rfl ((dzt_M228_64 s c n ((2 * v1) - 8) r1468 r1471 er1471).le (Nat.le_of_ble_eq_true rfl)) ?_
        show q_RP _ _ _ (80, [(3, .int r1468), (2, .int 0), (0, .ref 64), (1, .int v1)], [], (q_kM r1471 c n)) _ _
        refine q_RP_seg (g2 := (88, [(3, .int r1468), (2, .int 0), (0, .ref 64), (1, .int v1)], [.int r1468, .int ((2 * v1) - 7), .ref 64], (q_kM r1471 c n))) 7 (fun _ _ => rfl) ?_
        refine q_RP_bd fun r1472 er1472 => ?_
        refine q_RP_call (v := none) (h2 := (q_kM r1472 c n)) rfl rfl ((dzt_M228_64 r1471 c n ((2 * v1) - 7) r1468 r1472 er1472).le (Nat.le_of_ble_eq_true rfl)) ?_
        show q_RP _ _ _ (91, [(3, .int r1468), (2, .int 0), (0, .ref 64), (1, .int v1)], [], (q_kM r1472 c n)) _ _
        exact q_RP_xt (q_xt_mk (q_mn1 2 rfl (q_mn1 3 rfl (q_mn1 1 rfl q_mn0))) rfl) (dzt_M235_64_91 c n r1472 v1 0)
      | false =>
        refine q_RP_cF ?_
        show q_RP _ _ _ (66, [(3, .int r1468), (2, .int 0), (0, .ref 64), (1, .int v1)], [.int 0], (q_kM s c n)) _ _
        refine q_RP_seg (g2 := (91, [(3, .int r1468), (2, .int 0), (0, .ref 64), (1, .int v1)], [], (q_kM s c n))) 1 (fun _ _ => rfl) ?_
        exact q_RP_xt (q_xt_mk (q_mn1 2 rfl (q_mn1 3 rfl (q_mn1 1 rfl q_mn0))) rfl) (dzt_M235_64_91 c n s v1 0)
    | false =>
      refine q_RP_cF ?_
      show q_RP _ _ _ (56, [(3, .int r1468), (2, .int 0), (0, .ref 64), (1, .int v1)], [.int 0], (q_kM s c n)) _ _
      refine q_RP_seg (g2 := (91, [(3, .int r1468), (2, .int 0), (0, .ref 64), (1, .int v1)], [], (q_kM s c n))) 1 (fun _ _ => rfl) ?_
      exact q_RP_xt (q_xt_mk (q_mn1 2 rfl (q_mn1 3 rfl (q_mn1 1 rfl q_mn0))) rfl) (dzt_M235_64_91 c n s v1 0)
def dz_M235_64 (s : q_S) : Option (q_S × Bool) :=
  cond (decide (((s.2.2 0 15) - (s.2.2 0 15) / 24 * 24).toInt32 = 0)) (q_let (dz_M207_64 s) fun r830 => cond (decide (r830 = (s.1 4) 9)) (dz_M235_64_39 (q_sA s 14 (upd (s.1 14) 9 (((s.1 14) 9) ||| 1))) (((s.2.2 0 15) - (s.2.2 0 15) / 24 * 24).toInt32)) (dz_M235_64_39 s (((s.2.2 0 15) - (s.2.2 0 15) / 24 * 24).toInt32))) (dz_M235_64_39 s (((s.2.2 0 15) - (s.2.2 0 15) / 24 * 24).toInt32))
set_option maxHeartbeats 4000000 in
theorem dzt_M235_64 (s : q_S) (c n : Nat) (x : q_S × Bool) (h : dz_M235_64 s = some x) : q_Ca q_TB0 13 234 [.ref 64] (q_kM s c n) ((q_oJM c n) x) := by
  refine q_CaP_of (φ := (q_oJM c n)) (Nat.le_of_ble_eq_true rfl) ?_ h
  clear h
  unfold dz_M235_64
  refine q_RP_seg (g2 := (4, [(0, .ref 64)], [.long (s.2.2 0 15)], (q_kM s c n))) 2 (fun _ _ => rfl) ?_
  refine q_RP_seg (g2 := (11, [(1, .int (((s.2.2 0 15) - (s.2.2 0 15) / 24 * 24).toInt32)), (0, .ref 64)], [.int (((s.2.2 0 15) - (s.2.2 0 15) / 24 * 24).toInt32)], (q_kM s c n))) 5 (fun _ _ => rfl) ?_
  cases h1145 : decide (((s.2.2 0 15) - (s.2.2 0 15) / 24 * 24).toInt32 = 0) with
  | true =>
    refine q_RP_cT ?_
    refine q_RP_rsF (g2 := (14, [(1, .int (((s.2.2 0 15) - (s.2.2 0 15) / 24 * 24).toInt32)), (0, .ref 64)], [], (q_kM s c n))) rfl rfl (q_d_neT h1145) ?_
    refine q_RP_seg (g2 := (15, [(1, .int (((s.2.2 0 15) - (s.2.2 0 15) / 24 * 24).toInt32)), (0, .ref 64)], [.ref 64], (q_kM s c n))) 1 (fun _ _ => rfl) ?_
    refine q_RP_call (v := (some (.int (dz_M207_64 s)))) (h2 := (q_kM s c n)) rfl rfl ((dzt_M207_64 s c n).le (Nat.le_of_ble_eq_true rfl)) ?_
    generalize dz_M207_64 s = r830
    refine q_RP_let ?_
    show q_RP _ _ _ (18, [(1, .int (((s.2.2 0 15) - (s.2.2 0 15) / 24 * 24).toInt32)), (0, .ref 64)], [.int r830], (q_kM s c n)) _ _
    refine q_RP_seg (g2 := (25, [(1, .int (((s.2.2 0 15) - (s.2.2 0 15) / 24 * 24).toInt32)), (0, .ref 64)], [.int ((s.1 4) 9), .int r830], (q_kM s c n))) 4 (fun _ _ => rfl) ?_
    cases h1146 : decide (r830 = (s.1 4) 9) with
    | true =>
      refine q_RP_cT ?_
      refine q_RP_rsF (g2 := (28, [(1, .int (((s.2.2 0 15) - (s.2.2 0 15) / 24 * 24).toInt32)), (0, .ref 64)], [], (q_kM s c n))) rfl rfl (q_d_neT h1146) ?_
      refine q_RP_seg (g2 := (36, [(1, .int (((s.2.2 0 15) - (s.2.2 0 15) / 24 * 24).toInt32)), (0, .ref 64)], [.int ((s.1 14) 9), .int 9, .ref 78], (q_kM s c n))) 5 (fun _ _ => rfl) ?_
      refine q_RP_seg (g2 := (39, [(1, .int (((s.2.2 0 15) - (s.2.2 0 15) / 24 * 24).toInt32)), (0, .ref 64)], [], (q_kM (q_sA s 14 (upd (s.1 14) 9 (((s.1 14) 9) ||| 1))) c n))) 3 (fun _ _ => rfl) ?_
      exact q_RP_xt (q_xt_mk (q_mn1 1 rfl (q_mn1 0 rfl q_mn0)) rfl) (dzt_M235_64_39 c n (q_sA s 14 (upd (s.1 14) 9 (((s.1 14) 9) ||| 1))) (((s.2.2 0 15) - (s.2.2 0 15) / 24 * 24).toInt32))
    | false =>
      refine q_RP_cF ?_
      refine q_RP_rsT (g2 := (39, [(1, .int (((s.2.2 0 15) - (s.2.2 0 15) / 24 * 24).toInt32)), (0, .ref 64)], [], (q_kM s c n))) rfl rfl (q_d_neF h1146) ?_
      exact q_RP_xt (q_xt_mk (q_mn1 1 rfl (q_mn1 0 rfl q_mn0)) rfl) (dzt_M235_64_39 c n s (((s.2.2 0 15) - (s.2.2 0 15) / 24 * 24).toInt32))
  | false =>
    refine q_RP_cF ?_
    refine q_RP_rsT (g2 := (39, [(1, .int (((s.2.2 0 15) - (s.2.2 0 15) / 24 * 24).toInt32)), (0, .ref 64)], [], (q_kM s c n))) rfl rfl (q_d_neF h1145) ?_
    exact q_RP_xt (q_xt_mk (q_mn1 1 rfl (q_mn1 0 rfl q_mn0)) rfl) (dzt_M235_64_39 c n s (((s.2.2 0 15) - (s.2.2 0 15) / 24 * 24).toInt32))
def dz_M236_64_29 (m : Nat) : q_S → Int32 → Int32 → Int32 → Option (q_S × Int32) := Nat.rec (motive := fun _ => q_S → Int32 → Int32 → Int32 → Option (q_S × Int32)) (fun _ _ _ _ => none) (fun _ k29 s v1 v2 v3 =>
  cond (decide (v3 < v1)) ((dz_M235_64 s).bind fun r1475 => cond r1475.2 (k29 r1475.1 v1 (v2 + 1) (v3 + 1)) (k29 r1475.1 v1 (v2 + 0) (v3 + 1))) (q_let (dz_M205_64 s) fun r1476 => some (r1476, v2))) m
theorem dzs_M236_64_29 (m : Nat) (s : q_S) (v1 : Int32) (v2 : Int32) (v3 : Int32) : dz_M236_64_29 (m + 1) s v1 v2 v3 = (fun k29 : q_S → Int32 → Int32 → Int32 → Option (q_S × Int32) =>
  cond (decide (v3 < v1)) ((dz_M235_64 s).bind fun r1475 => cond r1475.2 (k29 r1475.1 v1 (v2 + 1) (v3 + 1)) (k29 r1475.1 v1 (v2 + 0) (v3 + 1))) (q_let (dz_M205_64 s) fun r1476 => some (r1476, v2))) (dz_M236_64_29 m) := rfl
set_option maxHeartbeats 4000000 in
theorem dzt_M236_64_29 (c n : Nat) : ∀ (m : Nat) (s : q_S) (v1 : Int32) (v2 : Int32) (v3 : Int32), q_RP q_TB0 13 235 (29, [(0, .ref 64), (1, .int v1), (2, .int v2), (3, .int v3)], [], (q_kM s c n)) (q_oIM c n) (dz_M236_64_29 m s v1 v2 v3) := by
  intro m
  induction m with
  | zero => intro s v1 v2 v3; exact q_RP_no
  | succ m ih =>
    intro s v1 v2 v3
    have hk29 := ih
    clear ih
    rw [dzs_M236_64_29]
    generalize dz_M236_64_29 m = k29 at hk29 ⊢
    dsimp only
    refine q_RP_seg (g2 := (31, [(0, .ref 64), (1, .int v1), (2, .int v2), (3, .int v3)], [.int v1, .int v3], (q_kM s c n))) 2 (fun _ _ => rfl) ?_
    cases h1533 : decide (v3 < v1) with
    | true =>
      refine q_RP_cT ?_
      refine q_RP_rsF (g2 := (34, [(0, .ref 64), (1, .int v1), (2, .int v2), (3, .int v3)], [], (q_kM s c n))) rfl rfl (q_d_geT h1533) ?_
      refine q_RP_seg (g2 := (36, [(0, .ref 64), (1, .int v1), (2, .int v2), (3, .int v3)], [.ref 64, .int v2], (q_kM s c n))) 2 (fun _ _ => rfl) ?_
      refine q_RP_bd fun r1475 er1475 => ?_
      refine q_RP_call (v := (some (.int (q_b r1475.2)))) (h2 := (q_kM r1475.1 c n)) rfl rfl ((dzt_M235_64 s c n r1475 er1475).le (Nat.le_of_ble_eq_true rfl)) ?_
      show q_RP _ _ _ (39, [(0, .ref 64), (1, .int v1), (2, .int v2), (3, .int v3)], [.int (q_b r1475.2), .int v2], (q_kM r1475.1 c n)) _ _
      cases h1534 : r1475.2 with
      | true =>
        refine q_RP_cT ?_
        show q_RP _ _ _ (39, [(0, .ref 64), (1, .int v1), (2, .int v2), (3, .int v3)], [.int 1, .int v2], (q_kM r1475.1 c n)) _ _
        refine q_RP_seg (g2 := (29, [(3, .int (v3 + 1)), (2, .int (v2 + 1)), (0, .ref 64), (1, .int v1)], [], (q_kM r1475.1 c n))) 7 (fun _ _ => rfl) ?_
        exact q_RP_xt (q_xt_mk (q_mn1 2 rfl (q_mn1 3 rfl (q_mn1 1 rfl (q_mn1 0 rfl q_mn0)))) rfl) (hk29 r1475.1 v1 (v2 + 1) (v3 + 1))
      | false =>
        refine q_RP_cF ?_
        show q_RP _ _ _ (39, [(0, .ref 64), (1, .int v1), (2, .int v2), (3, .int v3)], [.int 0, .int v2], (q_kM r1475.1 c n)) _ _
        refine q_RP_seg (g2 := (29, [(3, .int (v3 + 1)), (2, .int (v2 + 0)), (0, .ref 64), (1, .int v1)], [], (q_kM r1475.1 c n))) 6 (fun _ _ => rfl) ?_
        exact q_RP_xt (q_xt_mk (q_mn1 2 rfl (q_mn1 3 rfl (q_mn1 1 rfl (q_mn1 0 rfl q_mn0)))) rfl) (hk29 r1475.1 v1 (v2 + 0) (v3 + 1))
    | false =>
      refine q_RP_cF ?_
      refine q_RP_rsT (g2 := (55, [(0, .ref 64), (1, .int v1), (2, .int v2), (3, .int v3)], [], (q_kM s c n))) rfl rfl (q_d_geF h1533) ?_
      refine q_RP_seg (g2 := (56, [(0, .ref 64), (1, .int v1), (2, .int v2), (3, .int v3)], [.ref 64], (q_kM s c n))) 1 (fun _ _ => rfl) ?_
      refine q_RP_call (v := none) (h2 := (q_kM (dz_M205_64 s) c n)) rfl rfl ((dzt_M205_64 s c n).le (Nat.le_of_ble_eq_true rfl)) ?_
      generalize dz_M205_64 s = r1476
      refine q_RP_let ?_
      show q_RP _ _ _ (59, [(0, .ref 64), (1, .int v1), (2, .int v2), (3, .int v3)], [], (q_kM r1476 c n)) _ _
      refine q_RP_seg (g2 := (60, [(0, .ref 64), (1, .int v1), (2, .int v2), (3, .int v3)], [.int v2], (q_kM r1476 c n))) 1 (fun _ _ => rfl) ?_
      exact q_RP_ret rfl rfl rfl
def dz_M236_64 (s : q_S) (a1 : Int32) : Option (q_S × Int32) :=
  q_let (dz_M202 s a1 1 1000) fun r1473 => cond r1473 (q_let (dz_M200_64 s 0) fun r1474 => cond r1474.2 (some (r1474.1, 0)) (dz_M236_64_29 5000 r1474.1 a1 0 0)) (q_let (dz_M200_64 s 1) fun r1477 => cond r1477.2 (some (r1477.1, 0)) (dz_M236_64_29 5000 r1477.1 a1 0 0))
set_option maxHeartbeats 4000000 in
theorem dzt_M236_64 (s : q_S) (c n : Nat) (a1 : Int32) (x : q_S × Int32) (h : dz_M236_64 s a1 = some x) : q_Ca q_TB0 14 235 [.ref 64, .int a1] (q_kM s c n) ((q_oIM c n) x) := by
  refine q_CaP_of (φ := (q_oIM c n)) (Nat.le_of_ble_eq_true rfl) ?_ h
  clear h
  unfold dz_M236_64
  refine q_RP_seg (g2 := (6, [(0, .ref 64), (1, .int a1)], [.int 1000, .int 1, .int a1, .ref 64], (q_kM s c n))) 4 (fun _ _ => rfl) ?_
  refine q_RP_call (v := (some (.int (q_b (dz_M202 s a1 1 1000))))) (h2 := (q_kM s c n)) rfl rfl ((dzt_M202 s c n a1 1 1000).le (Nat.le_of_ble_eq_true rfl)) ?_
  generalize dz_M202 s a1 1 1000 = r1473
  refine q_RP_let ?_
  show q_RP _ _ _ (9, [(0, .ref 64), (1, .int a1)], [.int (q_b r1473), .ref 64], (q_kM s c n)) _ _
  cases h1531 : r1473 with
  | true =>
    refine q_RP_cT ?_
    show q_RP _ _ _ (9, [(0, .ref 64), (1, .int a1)], [.int 1, .ref 64], (q_kM s c n)) _ _
    refine q_RP_seg (g2 := (17, [(0, .ref 64), (1, .int a1)], [.int 0, .ref 64], (q_kM s c n))) 3 (fun _ _ => rfl) ?_
    refine q_RP_call (v := (some (.int (q_b (dz_M200_64 s 0).2)))) (h2 := (q_kM (dz_M200_64 s 0).1 c n)) rfl rfl ((dzt_M200_64 s c n 0).le (Nat.le_of_ble_eq_true rfl)) ?_
    generalize dz_M200_64 s 0 = r1474
    refine q_RP_let ?_
    show q_RP _ _ _ (20, [(0, .ref 64), (1, .int a1)], [.int (q_b r1474.2)], (q_kM r1474.1 c n)) _ _
    cases h1532 : r1474.2 with
    | true =>
      refine q_RP_cT ?_
      show q_RP _ _ _ (20, [(0, .ref 64), (1, .int a1)], [.int 1], (q_kM r1474.1 c n)) _ _
      refine q_RP_seg (g2 := (24, [(0, .ref 64), (1, .int a1)], [.int 0], (q_kM r1474.1 c n))) 2 (fun _ _ => rfl) ?_
      exact q_RP_ret rfl rfl rfl
    | false =>
      refine q_RP_cF ?_
      show q_RP _ _ _ (20, [(0, .ref 64), (1, .int a1)], [.int 0], (q_kM r1474.1 c n)) _ _
      refine q_RP_seg (g2 := (29, [(3, .int 0), (2, .int 0), (0, .ref 64), (1, .int a1)], [], (q_kM r1474.1 c n))) 5 (fun _ _ => rfl) ?_
      exact q_RP_xt (q_xt_mk (q_mn1 2 rfl (q_mn1 3 rfl (q_mn1 1 rfl (q_mn1 0 rfl q_mn0)))) rfl) (dzt_M236_64_29 c n 5000 r1474.1 a1 0 0)
  | false =>
    refine q_RP_cF ?_
    show q_RP _ _ _ (9, [(0, .ref 64), (1, .int a1)], [.int 0, .ref 64], (q_kM s c n)) _ _
    refine q_RP_seg (g2 := (17, [(0, .ref 64), (1, .int a1)], [.int 1, .ref 64], (q_kM s c n))) 2 (fun _ _ => rfl) ?_
    refine q_RP_call (v := (some (.int (q_b (dz_M200_64 s 1).2)))) (h2 := (q_kM (dz_M200_64 s 1).1 c n)) rfl rfl ((dzt_M200_64 s c n 1).le (Nat.le_of_ble_eq_true rfl)) ?_
    generalize dz_M200_64 s 1 = r1477
    refine q_RP_let ?_
    show q_RP _ _ _ (20, [(0, .ref 64), (1, .int a1)], [.int (q_b r1477.2)], (q_kM r1477.1 c n)) _ _
    cases h1535 : r1477.2 with
    | true =>
      refine q_RP_cT ?_
      show q_RP _ _ _ (20, [(0, .ref 64), (1, .int a1)], [.int 1], (q_kM r1477.1 c n)) _ _
      refine q_RP_seg (g2 := (24, [(0, .ref 64), (1, .int a1)], [.int 0], (q_kM r1477.1 c n))) 2 (fun _ _ => rfl) ?_
      exact q_RP_ret rfl rfl rfl
    | false =>
      refine q_RP_cF ?_
      show q_RP _ _ _ (20, [(0, .ref 64), (1, .int a1)], [.int 0], (q_kM r1477.1 c n)) _ _
      refine q_RP_seg (g2 := (29, [(3, .int 0), (2, .int 0), (0, .ref 64), (1, .int a1)], [], (q_kM r1477.1 c n))) 5 (fun _ _ => rfl) ?_
      exact q_RP_xt (q_xt_mk (q_mn1 2 rfl (q_mn1 3 rfl (q_mn1 1 rfl (q_mn1 0 rfl q_mn0)))) rfl) (dzt_M236_64_29 c n 5000 r1477.1 a1 0 0)
def dz_M237_64_34 (m : Nat) : q_S → Int32 → Int32 → Option (q_S × Int32) := Nat.rec (motive := fun _ => q_S → Int32 → Int32 → Option (q_S × Int32)) (fun _ _ _ => none) (fun _ k34 s v1 v2 =>
  cond (decide (v2 < 200)) (cond (decide ((s.1 14) 19 = v1)) ((dz_M235_64 s).bind fun r1479 => cond r1479.2 (k34 r1479.1 v1 (v2 + 1)) (k34 r1479.1 v1 (v2 + 1))) (q_let (dz_M205_64 s) fun r1480 => some (r1480, v2))) (q_let (dz_M205_64 s) fun r1481 => some (r1481, v2))) m
theorem dzs_M237_64_34 (m : Nat) (s : q_S) (v1 : Int32) (v2 : Int32) : dz_M237_64_34 (m + 1) s v1 v2 = (fun k34 : q_S → Int32 → Int32 → Option (q_S × Int32) =>
  cond (decide (v2 < 200)) (cond (decide ((s.1 14) 19 = v1)) ((dz_M235_64 s).bind fun r1479 => cond r1479.2 (k34 r1479.1 v1 (v2 + 1)) (k34 r1479.1 v1 (v2 + 1))) (q_let (dz_M205_64 s) fun r1480 => some (r1480, v2))) (q_let (dz_M205_64 s) fun r1481 => some (r1481, v2))) (dz_M237_64_34 m) := rfl
set_option maxHeartbeats 4000000 in
theorem dzt_M237_64_34 (c n : Nat) : ∀ (m : Nat) (s : q_S) (v1 : Int32) (v2 : Int32), q_RP q_TB0 13 236 (34, [(0, .ref 64), (1, .int v1), (2, .int v2)], [], (q_kM s c n)) (q_oIM c n) (dz_M237_64_34 m s v1 v2) := by
  intro m
  induction m with
  | zero => intro s v1 v2; exact q_RP_no
  | succ m ih =>
    intro s v1 v2
    have hk34 := ih
    clear ih
    rw [dzs_M237_64_34]
    generalize dz_M237_64_34 m = k34 at hk34 ⊢
    dsimp only
    refine q_RP_seg (g2 := (38, [(0, .ref 64), (1, .int v1), (2, .int v2)], [.int 200, .int v2], (q_kM s c n))) 2 (fun _ _ => rfl) ?_
    cases h1538 : decide (v2 < 200) with
    | true =>
      refine q_RP_cT ?_
      refine q_RP_rsF (g2 := (41, [(0, .ref 64), (1, .int v1), (2, .int v2)], [], (q_kM s c n))) rfl rfl (q_d_geT h1538) ?_
      refine q_RP_seg (g2 := (48, [(0, .ref 64), (1, .int v1), (2, .int v2)], [.int ((s.1 14) 19)], (q_kM s c n))) 4 (fun _ _ => rfl) ?_
      refine q_RP_seg (g2 := (49, [(0, .ref 64), (1, .int v1), (2, .int v2)], [.int v1, .int ((s.1 14) 19)], (q_kM s c n))) 1 (fun _ _ => rfl) ?_
      cases h1539 : decide ((s.1 14) 19 = v1) with
      | true =>
        refine q_RP_cT ?_
        refine q_RP_rsF (g2 := (52, [(0, .ref 64), (1, .int v1), (2, .int v2)], [], (q_kM s c n))) rfl rfl (q_d_neT h1539) ?_
        refine q_RP_seg (g2 := (53, [(0, .ref 64), (1, .int v1), (2, .int v2)], [.ref 64], (q_kM s c n))) 1 (fun _ _ => rfl) ?_
        refine q_RP_bd fun r1479 er1479 => ?_
        refine q_RP_call (v := (some (.int (q_b r1479.2)))) (h2 := (q_kM r1479.1 c n)) rfl rfl ((dzt_M235_64 s c n r1479 er1479).le (Nat.le_of_ble_eq_true rfl)) ?_
        show q_RP _ _ _ (56, [(0, .ref 64), (1, .int v1), (2, .int v2)], [.int (q_b r1479.2)], (q_kM r1479.1 c n)) _ _
        cases h1540 : r1479.2 with
        | true =>
          refine q_RP_cT ?_
          show q_RP _ _ _ (56, [(0, .ref 64), (1, .int v1), (2, .int v2)], [.int 1], (q_kM r1479.1 c n)) _ _
          refine q_RP_seg (g2 := (34, [(2, .int (v2 + 1)), (0, .ref 64), (1, .int v1)], [], (q_kM r1479.1 c n))) 3 (fun _ _ => rfl) ?_
          exact q_RP_xt (q_xt_mk (q_mn1 1 rfl (q_mn1 2 rfl (q_mn1 0 rfl q_mn0))) rfl) (hk34 r1479.1 v1 (v2 + 1))
        | false =>
          refine q_RP_cF ?_
          show q_RP _ _ _ (56, [(0, .ref 64), (1, .int v1), (2, .int v2)], [.int 0], (q_kM r1479.1 c n)) _ _
          refine q_RP_seg (g2 := (34, [(2, .int (v2 + 1)), (0, .ref 64), (1, .int v1)], [], (q_kM r1479.1 c n))) 3 (fun _ _ => rfl) ?_
          exact q_RP_xt (q_xt_mk (q_mn1 1 rfl (q_mn1 2 rfl (q_mn1 0 rfl q_mn0))) rfl) (hk34 r1479.1 v1 (v2 + 1))
      | false =>
        refine q_RP_cF ?_
        refine q_RP_rsT (g2 := (63, [(0, .ref 64), (1, .int v1), (2, .int v2)], [], (q_kM s c n))) rfl rfl (q_d_neF h1539) ?_
        refine q_RP_seg (g2 := (64, [(0, .ref 64), (1, .int v1), (2, .int v2)], [.ref 64], (q_kM s c n))) 1 (fun _ _ => rfl) ?_
        refine q_RP_call (v := none) (h2 := (q_kM (dz_M205_64 s) c n)) rfl rfl ((dzt_M205_64 s c n).le (Nat.le_of_ble_eq_true rfl)) ?_
        generalize dz_M205_64 s = r1480
        refine q_RP_let ?_
        show q_RP _ _ _ (67, [(0, .ref 64), (1, .int v1), (2, .int v2)], [], (q_kM r1480 c n)) _ _
        refine q_RP_seg (g2 := (68, [(0, .ref 64), (1, .int v1), (2, .int v2)], [.int v2], (q_kM r1480 c n))) 1 (fun _ _ => rfl) ?_
        exact q_RP_ret rfl rfl rfl
    | false =>
      refine q_RP_cF ?_
      refine q_RP_rsT (g2 := (63, [(0, .ref 64), (1, .int v1), (2, .int v2)], [], (q_kM s c n))) rfl rfl (q_d_geF h1538) ?_
      refine q_RP_seg (g2 := (64, [(0, .ref 64), (1, .int v1), (2, .int v2)], [.ref 64], (q_kM s c n))) 1 (fun _ _ => rfl) ?_
      refine q_RP_call (v := none) (h2 := (q_kM (dz_M205_64 s) c n)) rfl rfl ((dzt_M205_64 s c n).le (Nat.le_of_ble_eq_true rfl)) ?_
      generalize dz_M205_64 s = r1481
      refine q_RP_let ?_
      show q_RP _ _ _ (67, [(0, .ref 64), (1, .int v1), (2, .int v2)], [], (q_kM r1481 c n)) _ _
      refine q_RP_seg (g2 := (68, [(0, .ref 64), (1, .int v1), (2, .int v2)], [.int v2], (q_kM r1481 c n))) 1 (fun _ _ => rfl) ?_
      exact q_RP_ret rfl rfl rfl
def dz_M237_64 (s : q_S) : Option (q_S × Int32) :=
  cond (decide ((s.1 15) 7 = 0)) (q_let (dz_M200_64 s 0) fun r1478 => cond r1478.2 (some (r1478.1, 0)) (dz_M237_64_34 5000 r1478.1 ((r1478.1.1 14) 19) 0)) (q_let (dz_M200_64 s 1) fun r1482 => cond r1482.2 (some (r1482.1, 0)) (dz_M237_64_34 5000 r1482.1 ((r1482.1.1 14) 19) 0))
set_option maxHeartbeats 4000000 in
theorem dzt_M237_64 (s : q_S) (c n : Nat) (x : q_S × Int32) (h : dz_M237_64 s = some x) : q_Ca q_TB0 14 236 [.ref 64] (q_kM s c n) ((q_oIM c n) x) := by
  refine q_CaP_of (φ := (q_oIM c n)) (Nat.le_of_ble_eq_true rfl) ?_ h
  clear h
  unfold dz_M237_64
  refine q_RP_seg (g2 := (8, [(0, .ref 64)], [.int ((s.1 15) 7), .ref 64], (q_kM s c n))) 5 (fun _ _ => rfl) ?_
  cases h1536 : decide ((s.1 15) 7 = 0) with
  | true =>
    refine q_RP_cT ?_
    refine q_RP_rsT (g2 := (15, [(0, .ref 64)], [.ref 64], (q_kM s c n))) rfl rfl h1536 ?_
    refine q_RP_seg (g2 := (16, [(0, .ref 64)], [.int 0, .ref 64], (q_kM s c n))) 1 (fun _ _ => rfl) ?_
    refine q_RP_call (v := (some (.int (q_b (dz_M200_64 s 0).2)))) (h2 := (q_kM (dz_M200_64 s 0).1 c n)) rfl rfl ((dzt_M200_64 s c n 0).le (Nat.le_of_ble_eq_true rfl)) ?_
    generalize dz_M200_64 s 0 = r1478
    refine q_RP_let ?_
    show q_RP _ _ _ (19, [(0, .ref 64)], [.int (q_b r1478.2)], (q_kM r1478.1 c n)) _ _
    cases h1537 : r1478.2 with
    | true =>
      refine q_RP_cT ?_
      show q_RP _ _ _ (19, [(0, .ref 64)], [.int 1], (q_kM r1478.1 c n)) _ _
      refine q_RP_seg (g2 := (23, [(0, .ref 64)], [.int 0], (q_kM r1478.1 c n))) 2 (fun _ _ => rfl) ?_
      exact q_RP_ret rfl rfl rfl
    | false =>
      refine q_RP_cF ?_
      show q_RP _ _ _ (19, [(0, .ref 64)], [.int 0], (q_kM r1478.1 c n)) _ _
      refine q_RP_seg (g2 := (31, [(0, .ref 64)], [.int ((r1478.1.1 14) 19)], (q_kM r1478.1 c n))) 5 (fun _ _ => rfl) ?_
      refine q_RP_seg (g2 := (34, [(2, .int 0), (1, .int ((r1478.1.1 14) 19)), (0, .ref 64)], [], (q_kM r1478.1 c n))) 3 (fun _ _ => rfl) ?_
      exact q_RP_xt (q_xt_mk (q_mn1 2 rfl (q_mn1 1 rfl (q_mn1 0 rfl q_mn0))) rfl) (dzt_M237_64_34 c n 5000 r1478.1 ((r1478.1.1 14) 19) 0)
  | false =>
    refine q_RP_cF ?_
    refine q_RP_rsF (g2 := (11, [(0, .ref 64)], [.ref 64], (q_kM s c n))) rfl rfl h1536 ?_
    refine q_RP_seg (g2 := (16, [(0, .ref 64)], [.int 1, .ref 64], (q_kM s c n))) 2 (fun _ _ => rfl) ?_
    refine q_RP_call (v := (some (.int (q_b (dz_M200_64 s 1).2)))) (h2 := (q_kM (dz_M200_64 s 1).1 c n)) rfl rfl ((dzt_M200_64 s c n 1).le (Nat.le_of_ble_eq_true rfl)) ?_
    generalize dz_M200_64 s 1 = r1482
    refine q_RP_let ?_
    show q_RP _ _ _ (19, [(0, .ref 64)], [.int (q_b r1482.2)], (q_kM r1482.1 c n)) _ _
    cases h1541 : r1482.2 with
    | true =>
      refine q_RP_cT ?_
      show q_RP _ _ _ (19, [(0, .ref 64)], [.int 1], (q_kM r1482.1 c n)) _ _
      refine q_RP_seg (g2 := (23, [(0, .ref 64)], [.int 0], (q_kM r1482.1 c n))) 2 (fun _ _ => rfl) ?_
      exact q_RP_ret rfl rfl rfl
    | false =>
      refine q_RP_cF ?_
      show q_RP _ _ _ (19, [(0, .ref 64)], [.int 0], (q_kM r1482.1 c n)) _ _
      refine q_RP_seg (g2 := (31, [(0, .ref 64)], [.int ((r1482.1.1 14) 19)], (q_kM r1482.1 c n))) 5 (fun _ _ => rfl) ?_
      refine q_RP_seg (g2 := (34, [(2, .int 0), (1, .int ((r1482.1.1 14) 19)), (0, .ref 64)], [], (q_kM r1482.1 c n))) 3 (fun _ _ => rfl) ?_
      exact q_RP_xt (q_xt_mk (q_mn1 2 rfl (q_mn1 1 rfl (q_mn1 0 rfl q_mn0))) rfl) (dzt_M237_64_34 c n 5000 r1482.1 ((r1482.1.1 14) 19) 0)
def dz_M238_64 (s : q_S) : q_S × Int64 :=
  ((q_sI s 0 39 0), (s.2.2 0 15))
set_option maxHeartbeats 4000000 in
theorem dzt_M238_64 (s : q_S) (c n : Nat) : q_Ca q_TB0 1 237 [.ref 64] (q_kM s c n) ((q_oKM c n) (dz_M238_64 s)) := by
  refine q_CaT_of (φ := (q_oKM c n)) (Nat.le_of_ble_eq_true rfl) ?_
  unfold dz_M238_64
  refine q_RT_seg (g2 := (9, [(0, .ref 64)], [.long (s.2.2 0 15)], (q_kM (q_sI s 0 39 0) c n))) 5 (fun _ _ => rfl) ?_
  exact q_RT_ret rfl rfl rfl
def dz_M239_64 (s : q_S) : Option (q_S × Bool) :=
  (dz_M225_64 (q_sI s 0 39 0)).bind fun r1484 => cond r1484 (some ((q_sI s 0 39 0), true)) (some ((q_sI s 0 39 0), false))
set_option maxHeartbeats 4000000 in
theorem dzt_M239_64 (s : q_S) (c n : Nat) (x : q_S × Bool) (h : dz_M239_64 s = some x) : q_Ca q_TB0 4 238 [.ref 64] (q_kM s c n) ((q_oJM c n) x) := by
  refine q_CaP_of (φ := (q_oJM c n)) (Nat.le_of_ble_eq_true rfl) ?_ h
  clear h
  unfold dz_M239_64
  refine q_RP_seg (g2 := (6, [(0, .ref 64)], [.ref 64], (q_kM (q_sI s 0 39 0) c n))) 4 (fun _ _ => rfl) ?_
  refine q_RP_bd fun r1484 er1484 => ?_
  refine q_RP_call (v := (some (.int (q_b r1484)))) (h2 := (q_kM (q_sI s 0 39 0) c n)) rfl rfl ((dzt_M225_64 (q_sI s 0 39 0) c n r1484 er1484).le (Nat.le_of_ble_eq_true rfl)) ?_
  show q_RP _ _ _ (9, [(0, .ref 64)], [.int (q_b r1484)], (q_kM (q_sI s 0 39 0) c n)) _ _
  cases h1542 : r1484 with
  | true =>
    refine q_RP_cT ?_
    show q_RP _ _ _ (9, [(0, .ref 64)], [.int 1], (q_kM (q_sI s 0 39 0) c n)) _ _
    exact q_RP_ret rfl rfl rfl
  | false =>
    refine q_RP_cF ?_
    show q_RP _ _ _ (9, [(0, .ref 64)], [.int 0], (q_kM (q_sI s 0 39 0) c n)) _ _
    exact q_RP_ret rfl rfl rfl
def dz_M240_64 (s : q_S) : q_S × Int32 :=
  q_let (dz_M201_64 s ((s.1 14) 17)) fun r1485 => (r1485.1, r1485.2)
set_option maxHeartbeats 4000000 in
theorem dzt_M240_64 (s : q_S) (c n : Nat) : q_Ca q_TB0 2 239 [.ref 64] (q_kM s c n) ((q_oIM c n) (dz_M240_64 s)) := by
  refine q_CaT_of (φ := (q_oIM c n)) (Nat.le_of_ble_eq_true rfl) ?_
  unfold dz_M240_64
  refine q_RT_seg (g2 := (8, [(0, .ref 64)], [.int ((s.1 14) 17), .ref 64], (q_kM s c n))) 5 (fun _ _ => rfl) ?_
  refine q_RT_call (v := (some (.int (dz_M201_64 s ((s.1 14) 17)).2))) (h2 := (q_kM (dz_M201_64 s ((s.1 14) 17)).1 c n)) rfl rfl ((dzt_M201_64 s c n ((s.1 14) 17)).le (Nat.le_of_ble_eq_true rfl)) ?_
  generalize dz_M201_64 s ((s.1 14) 17) = r1485
  refine q_RT_let ?_
  show q_RT _ _ _ (11, [(0, .ref 64)], [.int r1485.2], (q_kM r1485.1 c n)) _ _
  exact q_RT_ret rfl rfl rfl
def dz_M241_64 (s : q_S) : q_S × Int32 :=
  q_let (dz_M201_64 s ((s.1 14) 19)) fun r1486 => (r1486.1, r1486.2)
set_option maxHeartbeats 4000000 in
theorem dzt_M241_64 (s : q_S) (c n : Nat) : q_Ca q_TB0 2 240 [.ref 64] (q_kM s c n) ((q_oIM c n) (dz_M241_64 s)) := by
  refine q_CaT_of (φ := (q_oIM c n)) (Nat.le_of_ble_eq_true rfl) ?_
  unfold dz_M241_64
  refine q_RT_seg (g2 := (8, [(0, .ref 64)], [.int ((s.1 14) 19), .ref 64], (q_kM s c n))) 5 (fun _ _ => rfl) ?_
  refine q_RT_call (v := (some (.int (dz_M201_64 s ((s.1 14) 19)).2))) (h2 := (q_kM (dz_M201_64 s ((s.1 14) 19)).1 c n)) rfl rfl ((dzt_M201_64 s c n ((s.1 14) 19)).le (Nat.le_of_ble_eq_true rfl)) ?_
  generalize dz_M201_64 s ((s.1 14) 19) = r1486
  refine q_RT_let ?_
  show q_RT _ _ _ (11, [(0, .ref 64)], [.int r1486.2], (q_kM r1486.1 c n)) _ _
  exact q_RT_ret rfl rfl rfl
def dz_M242_64 (s : q_S) : Option (q_S × Bool) :=
  cond (q_z1 ((s.1 15) 7)) (some ((q_sI s 0 39 0), (decide ((s.1 15) 7 = 1)))) none
set_option maxHeartbeats 4000000 in
theorem dzt_M242_64 (s : q_S) (c n : Nat) (x : q_S × Bool) (h : dz_M242_64 s = some x) : q_Ca q_TB0 1 241 [.ref 64] (q_kM s c n) ((q_oJM c n) x) := by
  refine q_CaP_of (φ := (q_oJM c n)) (Nat.le_of_ble_eq_true rfl) ?_ h
  clear h
  unfold dz_M242_64
  refine q_RP_seg (g2 := (12, [(0, .ref 64)], [.int ((s.1 15) 7)], (q_kM (q_sI s 0 39 0) c n))) 7 (fun _ _ => rfl) ?_
  refine q_RP_as fun i1543 => ?_
  exact q_RP_ret rfl (q_rz01 i1543) (by show (Sum.inl (some (Value.int (q_b (decide ((s.1 15) 7 = 1))))), _) = _; rw [q_b01 i1543]; try rfl)
def dz_M243_64 (s : q_S) (a1 : Int32) : Option (q_S × Int32) :=
  q_let (dz_M202 s a1 0 ((if ((s.1 14) 20) < (16 : Int32) then ((s.1 14) 20) else (16 : Int32)) - 1)) fun r1489 => cond r1489 (q_let (dz_M200_64 s 0) fun r1490 => cond r1490.2 (some (r1490.1, 0)) (cond (q_in (((((r1490.1.1 14) 20) - 1) - a1) - ((((r1490.1.1 14) 20) - 1) - a1) / 16 * 16) 16) (some (r1490.1, ((r1490.1.1 9) ((((((r1490.1.1 14) 20) - 1) - a1) - ((((r1490.1.1 14) 20) - 1) - a1) / 16 * 16).toNatClampNeg)))) none)) (q_let (dz_M200_64 s 1) fun r1491 => cond r1491.2 (some (r1491.1, 0)) (cond (q_in (((((r1491.1.1 14) 20) - 1) - a1) - ((((r1491.1.1 14) 20) - 1) - a1) / 16 * 16) 16) (some (r1491.1, ((r1491.1.1 9) ((((((r1491.1.1 14) 20) - 1) - a1) - ((((r1491.1.1 14) 20) - 1) - a1) / 16 * 16).toNatClampNeg)))) none))
set_option maxHeartbeats 4000000 in
theorem dzt_M243_64 (s : q_S) (c n : Nat) (a1 : Int32) (x : q_S × Int32) (h : dz_M243_64 s a1 = some x) : q_Ca q_TB0 2 242 [.ref 64, .int a1] (q_kM s c n) ((q_oIM c n) x) := by
  refine q_CaP_of (φ := (q_oIM c n)) (Nat.le_of_ble_eq_true rfl) ?_ h
  clear h
  unfold dz_M243_64
  refine q_RP_seg (g2 := (12, [(0, .ref 64), (1, .int a1)], [.int ((s.1 14) 20), .int 16, .int 0, .int a1, .ref 64], (q_kM s c n))) 8 (fun _ _ => rfl) ?_
  refine q_RP_seg (g2 := (17, [(0, .ref 64), (1, .int a1)], [.int ((if ((s.1 14) 20) < (16 : Int32) then ((s.1 14) 20) else (16 : Int32)) - 1), .int 0, .int a1, .ref 64], (q_kM s c n))) 3 (fun _ _ => rfl) ?_
  refine q_RP_call (v := (some (.int (q_b (dz_M202 s a1 0 ((if ((s.1 14) 20) < (16 : Int32) then ((s.1 14) 20) else (16 : Int32)) - 1)))))) (h2 := (q_kM s c n)) rfl rfl ((dzt_M202 s c n a1 0 ((if ((s.1 14) 20) < (16 : Int32) then ((s.1 14) 20) else (16 : Int32)) - 1)).le (Nat.le_of_ble_eq_true rfl)) ?_
  generalize dz_M202 s a1 0 ((if ((s.1 14) 20) < (16 : Int32) then ((s.1 14) 20) else (16 : Int32)) - 1) = r1489
  refine q_RP_let ?_
  show q_RP _ _ _ (20, [(0, .ref 64), (1, .int a1)], [.int (q_b r1489), .ref 64], (q_kM s c n)) _ _
  cases h1546 : r1489 with
  | true =>
    refine q_RP_cT ?_
    show q_RP _ _ _ (20, [(0, .ref 64), (1, .int a1)], [.int 1, .ref 64], (q_kM s c n)) _ _
    refine q_RP_seg (g2 := (28, [(0, .ref 64), (1, .int a1)], [.int 0, .ref 64], (q_kM s c n))) 3 (fun _ _ => rfl) ?_
    refine q_RP_call (v := (some (.int (q_b (dz_M200_64 s 0).2)))) (h2 := (q_kM (dz_M200_64 s 0).1 c n)) rfl rfl ((dzt_M200_64 s c n 0).le (Nat.le_of_ble_eq_true rfl)) ?_
    generalize dz_M200_64 s 0 = r1490
    refine q_RP_let ?_
    show q_RP _ _ _ (31, [(0, .ref 64), (1, .int a1)], [.int (q_b r1490.2)], (q_kM r1490.1 c n)) _ _
    cases h1547 : r1490.2 with
    | true =>
      refine q_RP_cT ?_
      show q_RP _ _ _ (31, [(0, .ref 64), (1, .int a1)], [.int 1], (q_kM r1490.1 c n)) _ _
      refine q_RP_seg (g2 := (57, [(0, .ref 64), (1, .int a1)], [.int 0], (q_kM r1490.1 c n))) 3 (fun _ _ => rfl) ?_
      exact q_RP_ret rfl rfl rfl
    | false =>
      refine q_RP_cF ?_
      show q_RP _ _ _ (31, [(0, .ref 64), (1, .int a1)], [.int 0], (q_kM r1490.1 c n)) _ _
      refine q_RP_seg (g2 := (49, [(0, .ref 64), (1, .int a1)], [.int ((r1490.1.1 14) 20), .ref 73], (q_kM r1490.1 c n))) 7 (fun _ _ => rfl) ?_
      refine q_RP_seg (g2 := (56, [(0, .ref 64), (1, .int a1)], [.int (((((r1490.1.1 14) 20) - 1) - a1) - ((((r1490.1.1 14) 20) - 1) - a1) / 16 * 16), .ref 73], (q_kM r1490.1 c n))) 6 (fun _ _ => rfl) ?_
      refine q_RP_as fun i1548 => ?_
      refine q_RP_rsT (g2 := (57, [(0, .ref 64), (1, .int a1)], [.int ((r1490.1.1 9) ((((((r1490.1.1 14) 20) - 1) - a1) - ((((r1490.1.1 14) 20) - 1) - a1) / 16 * 16).toNatClampNeg))], (q_kM r1490.1 c n))) rfl rfl i1548 ?_
      exact q_RP_ret rfl rfl rfl
  | false =>
    refine q_RP_cF ?_
    show q_RP _ _ _ (20, [(0, .ref 64), (1, .int a1)], [.int 0, .ref 64], (q_kM s c n)) _ _
    refine q_RP_seg (g2 := (28, [(0, .ref 64), (1, .int a1)], [.int 1, .ref 64], (q_kM s c n))) 2 (fun _ _ => rfl) ?_
    refine q_RP_call (v := (some (.int (q_b (dz_M200_64 s 1).2)))) (h2 := (q_kM (dz_M200_64 s 1).1 c n)) rfl rfl ((dzt_M200_64 s c n 1).le (Nat.le_of_ble_eq_true rfl)) ?_
    generalize dz_M200_64 s 1 = r1491
    refine q_RP_let ?_
    show q_RP _ _ _ (31, [(0, .ref 64), (1, .int a1)], [.int (q_b r1491.2)], (q_kM r1491.1 c n)) _ _
    cases h1549 : r1491.2 with
    | true =>
      refine q_RP_cT ?_
      show q_RP _ _ _ (31, [(0, .ref 64), (1, .int a1)], [.int 1], (q_kM r1491.1 c n)) _ _
      refine q_RP_seg (g2 := (57, [(0, .ref 64), (1, .int a1)], [.int 0], (q_kM r1491.1 c n))) 3 (fun _ _ => rfl) ?_
      exact q_RP_ret rfl rfl rfl
    | false =>
      refine q_RP_cF ?_
      show q_RP _ _ _ (31, [(0, .ref 64), (1, .int a1)], [.int 0], (q_kM r1491.1 c n)) _ _
      refine q_RP_seg (g2 := (49, [(0, .ref 64), (1, .int a1)], [.int ((r1491.1.1 14) 20), .ref 73], (q_kM r1491.1 c n))) 7 (fun _ _ => rfl) ?_
      refine q_RP_seg (g2 := (56, [(0, .ref 64), (1, .int a1)], [.int (((((r1491.1.1 14) 20) - 1) - a1) - ((((r1491.1.1 14) 20) - 1) - a1) / 16 * 16), .ref 73], (q_kM r1491.1 c n))) 6 (fun _ _ => rfl) ?_
      refine q_RP_as fun i1550 => ?_
      refine q_RP_rsT (g2 := (57, [(0, .ref 64), (1, .int a1)], [.int ((r1491.1.1 9) ((((((r1491.1.1 14) 20) - 1) - a1) - ((((r1491.1.1 14) 20) - 1) - a1) / 16 * 16).toNatClampNeg))], (q_kM r1491.1 c n))) rfl rfl i1550 ?_
      exact q_RP_ret rfl rfl rfl
def dz_M267_64_56 (s : q_S) (v2 : Int32) (v3 : Int32) (v4 : Int32) : Option (q_S) :=
  cond (decide ((s.1 15) 2 = 0)) (q_let (dz_M261_64 s ((s.1 14) 0)) fun r1495 => some r1495.1) (q_let (dz_M266_64 s v3 v2 v4) fun r1496 => q_let (dz_M261_64 r1496 ((r1496.1 14) 0)) fun r1497 => some r1497.1)
set_option maxHeartbeats 4000000 in
theorem dzt_M267_64_56 (c n : Nat) (s : q_S) (v2 : Int32) (v3 : Int32) (v4 : Int32) : q_RP q_TB0 2 266 (56, [(0, .ref 64), (2, .int v2), (3, .int v3), (4, .int v4)], [], (q_kM s c n)) (q_oSM c n) (dz_M267_64_56 s v2 v3 v4) := by
  unfold dz_M267_64_56
  refine q_RP_seg (g2 := (62, [(0, .ref 64), (2, .int v2), (3, .int v3), (4, .int v4)], [.int ((s.1 15) 2)], (q_kM s c n))) 4 (fun _ _ => rfl) ?_
  cases h1553 : decide ((s.1 15) 2 = 0) with
  | true =>
    refine q_RP_cT ?_
    refine q_RP_rsT (g2 := (73, [(0, .ref 64), (2, .int v2), (3, .int v3), (4, .int v4)], [], (q_kM s c n))) rfl rfl h1553 ?_
    refine q_RP_seg (g2 := (80, [(0, .ref 64), (2, .int v2), (3, .int v3), (4, .int v4)], [.int ((s.1 14) 0), .ref 64], (q_kM s c n))) 5 (fun _ _ => rfl) ?_
    refine q_RP_call (v := (some (.int (dz_M261_64 s ((s.1 14) 0)).2))) (h2 := (q_kM (dz_M261_64 s ((s.1 14) 0)).1 c n)) rfl rfl ((dzt_M261_64 s c n ((s.1 14) 0)).le (Nat.le_of_ble_eq_true rfl)) ?_
    generalize dz_M261_64 s ((s.1 14) 0) = r1495
    refine q_RP_let ?_
    show q_RP _ _ _ (83, [(0, .ref 64), (2, .int v2), (3, .int v3), (4, .int v4)], [.int r1495.2], (q_kM r1495.1 c n)) _ _
    refine q_RP_seg (g2 := (84, [(0, .ref 64), (2, .int v2), (3, .int v3), (4, .int v4)], [], (q_kM r1495.1 c n))) 1 (fun _ _ => rfl) ?_
    exact q_RP_ret rfl rfl rfl
  | false =>
    refine q_RP_cF ?_
    refine q_RP_rsF (g2 := (65, [(0, .ref 64), (2, .int v2), (3, .int v3), (4, .int v4)], [], (q_kM s c n))) rfl rfl h1553 ?_
    refine q_RP_seg (g2 := (70, [(0, .ref 64), (2, .int v2), (3, .int v3), (4, .int v4)], [.int v4, .int v2, .int v3, .ref 64], (q_kM s c n))) 4 (fun _ _ => rfl) ?_
    refine q_RP_call (v := none) (h2 := (q_kM (dz_M266_64 s v3 v2 v4) c n)) rfl rfl ((dzt_M266_64 s c n v3 v2 v4).le (Nat.le_of_ble_eq_true rfl)) ?_
    generalize dz_M266_64 s v3 v2 v4 = r1496
    refine q_RP_let ?_
    show q_RP _ _ _ (73, [(0, .ref 64), (2, .int v2), (3, .int v3), (4, .int v4)], [], (q_kM r1496 c n)) _ _
    refine q_RP_seg (g2 := (80, [(0, .ref 64), (2, .int v2), (3, .int v3), (4, .int v4)], [.int ((r1496.1 14) 0), .ref 64], (q_kM r1496 c n))) 5 (fun _ _ => rfl) ?_
    refine q_RP_call (v := (some (.int (dz_M261_64 r1496 ((r1496.1 14) 0)).2))) (h2 := (q_kM (dz_M261_64 r1496 ((r1496.1 14) 0)).1 c n)) rfl rfl ((dzt_M261_64 r1496 c n ((r1496.1 14) 0)).le (Nat.le_of_ble_eq_true rfl)) ?_
    generalize dz_M261_64 r1496 ((r1496.1 14) 0) = r1497
    refine q_RP_let ?_
    show q_RP _ _ _ (83, [(0, .ref 64), (2, .int v2), (3, .int v3), (4, .int v4)], [.int r1497.2], (q_kM r1497.1 c n)) _ _
    refine q_RP_seg (g2 := (84, [(0, .ref 64), (2, .int v2), (3, .int v3), (4, .int v4)], [], (q_kM r1497.1 c n))) 1 (fun _ _ => rfl) ?_
    exact q_RP_ret rfl rfl rfl
def dz_M267_64 (s : q_S) (a1 : Int32) (a2 : Int32) : Option (q_S) :=
  (dz_M257_64 s 5 1).bind fun r1493 => cond (decide (a1 = 0)) ((dz_M264_64 s ((255 : Int32) - a2)).bind fun r1494 => cond (decide ((r1494.1 15) 2 = 0)) (dz_M267_64_56 r1494 a2 ((s.1 14) 0) r1493) (dz_M267_64_56 r1494 a2 ((s.1 14) 0) r1493)) ((dz_M264_64 s a2).bind fun r1498 => cond (decide ((r1498.1 15) 2 = 0)) (dz_M267_64_56 r1498 a2 ((s.1 14) 0) r1493) (q_let (dz_M265_64 r1498 ((s.1 14) 0) a2 r1493) fun r1499 => q_let (dz_M261_64 r1499 ((r1499.1 14) 0)) fun r1500 => some r1500.1))
set_option maxHeartbeats 4000000 in
theorem dzt_M267_64 (s : q_S) (c n : Nat) (a1 : Int32) (a2 : Int32) (x : q_S) (h : dz_M267_64 s a1 a2 = some x) : q_Ca q_TB0 3 266 [.ref 64, .int a1, .int a2] (q_kM s c n) ((q_oSM c n) x) := by
  refine q_CaP_of (φ := (q_oSM c n)) (Nat.le_of_ble_eq_true rfl) ?_ h
  clear h
  unfold dz_M267_64
  refine q_RP_seg (g2 := (6, [(0, .ref 64), (1, .int a1), (2, .int a2)], [.int ((s.1 14) 0)], (q_kM s c n))) 4 (fun _ _ => rfl) ?_
  refine q_RP_seg (g2 := (10, [(3, .int ((s.1 14) 0)), (0, .ref 64), (1, .int a1), (2, .int a2)], [.int 1, .int 5, .ref 64], (q_kM s c n))) 4 (fun _ _ => rfl) ?_
  refine q_RP_bd fun r1493 er1493 => ?_
  refine q_RP_call (v := (some (.int r1493))) (h2 := (q_kM s c n)) rfl rfl ((dzt_M257_64 s c n 5 1 r1493 er1493).le (Nat.le_of_ble_eq_true rfl)) ?_
  show q_RP _ _ _ (13, [(3, .int ((s.1 14) 0)), (0, .ref 64), (1, .int a1), (2, .int a2)], [.int r1493], (q_kM s c n)) _ _
  refine q_RP_seg (g2 := (17, [(4, .int r1493), (3, .int ((s.1 14) 0)), (0, .ref 64), (1, .int a1), (2, .int a2)], [.int a1, .ref 64], (q_kM s c n))) 3 (fun _ _ => rfl) ?_
  cases h1551 : decide (a1 = 0) with
  | true =>
    refine q_RP_cT ?_
    refine q_RP_rsT (g2 := (24, [(4, .int r1493), (3, .int ((s.1 14) 0)), (0, .ref 64), (1, .int a1), (2, .int a2)], [.ref 64], (q_kM s c n))) rfl rfl h1551 ?_
    refine q_RP_seg (g2 := (29, [(4, .int r1493), (3, .int ((s.1 14) 0)), (0, .ref 64), (1, .int a1), (2, .int a2)], [.int ((255 : Int32) - a2), .ref 64], (q_kM s c n))) 3 (fun _ _ => rfl) ?_
    refine q_RP_bd fun r1494 er1494 => ?_
    refine q_RP_call (v := none) (h2 := (q_kM r1494 c n)) rfl rfl ((dzt_M264_64 s c n ((255 : Int32) - a2) r1494 er1494).le (Nat.le_of_ble_eq_true rfl)) ?_
    show q_RP _ _ _ (32, [(4, .int r1493), (3, .int ((s.1 14) 0)), (0, .ref 64), (1, .int a1), (2, .int a2)], [], (q_kM r1494 c n)) _ _
    refine q_RP_seg (g2 := (38, [(4, .int r1493), (3, .int ((s.1 14) 0)), (0, .ref 64), (1, .int a1), (2, .int a2)], [.int ((r1494.1 15) 2)], (q_kM r1494 c n))) 4 (fun _ _ => rfl) ?_
    cases h1552 : decide ((r1494.1 15) 2 = 0) with
    | true =>
      refine q_RP_cT ?_
      refine q_RP_rsT (g2 := (56, [(4, .int r1493), (3, .int ((s.1 14) 0)), (0, .ref 64), (1, .int a1), (2, .int a2)], [], (q_kM r1494 c n))) rfl rfl h1552 ?_
      exact q_RP_xt (q_xt_mk (q_mn1 2 rfl (q_mn1 4 rfl (q_mn1 1 rfl (q_mn1 0 rfl q_mn0)))) rfl) (dzt_M267_64_56 c n r1494 a2 ((s.1 14) 0) r1493)
    | false =>
      refine q_RP_cF ?_
      refine q_RP_rsF (g2 := (41, [(4, .int r1493), (3, .int ((s.1 14) 0)), (0, .ref 64), (1, .int a1), (2, .int a2)], [], (q_kM r1494 c n))) rfl rfl h1552 ?_
      refine q_RP_seg (g2 := (42, [(4, .int r1493), (3, .int ((s.1 14) 0)), (0, .ref 64), (1, .int a1), (2, .int a2)], [.int a1], (q_kM r1494 c n))) 1 (fun _ _ => rfl) ?_
      refine q_RP_rsT (g2 := (56, [(4, .int r1493), (3, .int ((s.1 14) 0)), (0, .ref 64), (1, .int a1), (2, .int a2)], [], (q_kM r1494 c n))) rfl rfl h1551 ?_
      exact q_RP_xt (q_xt_mk (q_mn1 2 rfl (q_mn1 4 rfl (q_mn1 1 rfl (q_mn1 0 rfl q_mn0)))) rfl) (dzt_M267_64_56 c n r1494 a2 ((s.1 14) 0) r1493)
  | false =>
    refine q_RP_cF ?_
    refine q_RP_rsF (g2 := (20, [(4, .int r1493), (3, .int ((s.1 14) 0)), (0, .ref 64), (1, .int a1), (2, .int a2)], [.ref 64], (q_kM s c n))) rfl rfl h1551 ?_
    refine q_RP_seg (g2 := (29, [(4, .int r1493), (3, .int ((s.1 14) 0)), (0, .ref 64), (1, .int a1), (2, .int a2)], [.int a2, .ref 64], (q_kM s c n))) 2 (fun _ _ => rfl) ?_
    refine q_RP_bd fun r1498 er1498 => ?_
    refine q_RP_call (v := none) (h2 := (q_kM r1498 c n)) rfl rfl ((dzt_M264_64 s c n a2 r1498 er1498).le (Nat.le_of_ble_eq_true rfl)) ?_
    show q_RP _ _ _ (32, [(4, .int r1493), (3, .int ((s.1 14) 0)), (0, .ref 64), (1, .int a1), (2, .int a2)], [], (q_kM r1498 c n)) _ _
    refine q_RP_seg (g2 := (38, [(4, .int r1493), (3, .int ((s.1 14) 0)), (0, .ref 64), (1, .int a1), (2, .int a2)], [.int ((r1498.1 15) 2)], (q_kM r1498 c n))) 4 (fun _ _ => rfl) ?_
    cases h1554 : decide ((r1498.1 15) 2 = 0) with
    | true =>
      refine q_RP_cT ?_
      refine q_RP_rsT (g2 := (56, [(4, .int r1493), (3, .int ((s.1 14) 0)), (0, .ref 64), (1, .int a1), (2, .int a2)], [], (q_kM r1498 c n))) rfl rfl h1554 ?_
      exact q_RP_xt (q_xt_mk (q_mn1 2 rfl (q_mn1 4 rfl (q_mn1 1 rfl (q_mn1 0 rfl q_mn0)))) rfl) (dzt_M267_64_56 c n r1498 a2 ((s.1 14) 0) r1493)
    | false =>
      refine q_RP_cF ?_
      refine q_RP_rsF (g2 := (41, [(4, .int r1493), (3, .int ((s.1 14) 0)), (0, .ref 64), (1, .int a1), (2, .int a2)], [], (q_kM r1498 c n))) rfl rfl h1554 ?_
      refine q_RP_seg (g2 := (42, [(4, .int r1493), (3, .int ((s.1 14) 0)), (0, .ref 64), (1, .int a1), (2, .int a2)], [.int a1], (q_kM r1498 c n))) 1 (fun _ _ => rfl) ?_
      refine q_RP_rsF (g2 := (45, [(4, .int r1493), (3, .int ((s.1 14) 0)), (0, .ref 64), (1, .int a1), (2, .int a2)], [], (q_kM r1498 c n))) rfl rfl h1551 ?_
      refine q_RP_seg (g2 := (50, [(4, .int r1493), (3, .int ((s.1 14) 0)), (0, .ref 64), (1, .int a1), (2, .int a2)], [.int r1493, .int a2, .int ((s.1 14) 0), .ref 64], (q_kM r1498 c n))) 4 (fun _ _ => rfl) ?_
      refine q_RP_call (v := none) (h2 := (q_kM (dz_M265_64 r1498 ((s.1 14) 0) a2 r1493) c n)) rfl rfl ((dzt_M265_64 r1498 c n ((s.1 14) 0) a2 r1493).le (Nat.le_of_ble_eq_true rfl)) ?_
      generalize dz_M265_64 r1498 ((s.1 14) 0) a2 r1493 = r1499
      refine q_RP_let ?_
      show q_RP _ _ _ (53, [(4, .int r1493), (3, .int ((s.1 14) 0)), (0, .ref 64), (1, .int a1), (2, .int a2)], [], (q_kM r1499 c n)) _ _
      refine q_RP_seg (g2 := (80, [(4, .int r1493), (3, .int ((s.1 14) 0)), (0, .ref 64), (1, .int a1), (2, .int a2)], [.int ((r1499.1 14) 0), .ref 64], (q_kM r1499 c n))) 6 (fun _ _ => rfl) ?_
      refine q_RP_call (v := (some (.int (dz_M261_64 r1499 ((r1499.1 14) 0)).2))) (h2 := (q_kM (dz_M261_64 r1499 ((r1499.1 14) 0)).1 c n)) rfl rfl ((dzt_M261_64 r1499 c n ((r1499.1 14) 0)).le (Nat.le_of_ble_eq_true rfl)) ?_
      generalize dz_M261_64 r1499 ((r1499.1 14) 0) = r1500
      refine q_RP_let ?_
      show q_RP _ _ _ (83, [(4, .int r1493), (3, .int ((s.1 14) 0)), (0, .ref 64), (1, .int a1), (2, .int a2)], [.int r1500.2], (q_kM r1500.1 c n)) _ _
      refine q_RP_seg (g2 := (84, [(4, .int r1493), (3, .int ((s.1 14) 0)), (0, .ref 64), (1, .int a1), (2, .int a2)], [], (q_kM r1500.1 c n))) 1 (fun _ _ => rfl) ?_
      exact q_RP_ret rfl rfl rfl
