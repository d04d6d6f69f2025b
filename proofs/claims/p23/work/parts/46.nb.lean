def dz_N168_89_68_92 (m : Nat) : q_S → Int32 → Int32 → Int32 → Option (q_S) := Nat.rec (motive := fun _ => q_S → Int32 → Int32 → Int32 → Option (q_S)) (fun _ _ _ _ => none) (fun _ k92 s v2 v3 v4 =>
  cond (decide (v4 < 3)) (cond (q_in (((32 : Int32) + (4 * v4)) + 2) 48) ((dz_N171_89 s v4 ((s.1 4) ((((32 : Int32) + (4 * v4)) + 2).toNatClampNeg))).bind fun r4 => cond (q_in v4 3) (k92 s v2 (v3 + (r4 * ((s.1 27) (v4.toNatClampNeg)))) (v4 + 1)) none) none) (cond (q_in v2 40) (some (q_sA s 30 (upd (s.1 30) (v2.toNatClampNeg) (v3 / 15)))) none)) m
theorem dzs_N168_89_68_92 (m : Nat) (s : q_S) (v2 : Int32) (v3 : Int32) (v4 : Int32) : dz_N168_89_68_92 (m + 1) s v2 v3 v4 = (fun k92 : q_S → Int32 → Int32 → Int32 → Option (q_S) =>
  cond (decide (v4 < 3)) (cond (q_in (((32 : Int32) + (4 * v4)) + 2) 48) ((dz_N171_89 s v4 ((s.1 4) ((((32 : Int32) + (4 * v4)) + 2).toNatClampNeg))).bind fun r4 => cond (q_in v4 3) (k92 s v2 (v3 + (r4 * ((s.1 27) (v4.toNatClampNeg)))) (v4 + 1)) none) none) (cond (q_in v2 40) (some (q_sA s 30 (upd (s.1 30) (v2.toNatClampNeg) (v3 / 15)))) none)) (dz_N168_89_68_92 m) := rfl
set_option maxHeartbeats 4000000 in
theorem dzt_N168_89_68_92 (c n : Nat) : ∀ (m : Nat) (s : q_S) (v2 : Int32) (v3 : Int32) (v4 : Int32), q_RP q_TB0 2 167 (92, [(0, .ref 89), (1, .ref 68), (2, .int v2), (3, .int v3), (4, .int v4)], [], (q_kN s c n)) (q_oSN c n) (dz_N168_89_68_92 m s v2 v3 v4) := by
  intro m
  induction m with
  | zero => intro s v2 v3 v4; exact q_RP_no
  | succ m ih =>
    intro s v2 v3 v4
    have hk92 := ih
    clear ih
    rw [dzs_N168_89_68_92]
    generalize dz_N168_89_68_92 m = k92 at hk92 ⊢
    dsimp only
    refine q_RP_seg (g2 := (95, [(0, .ref 89), (1, .ref 68), (2, .int v2), (3, .int v3), (4, .int v4)], [.int 3, .int v4], (q_kN s c n))) 2 (fun _ _ => rfl) ?_
    cases h10 : decide (v4 < 3) with
    | true =>
      refine q_RP_cT ?_
      refine q_RP_rsF (g2 := (98, [(0, .ref 89), (1, .ref 68), (2, .int v2), (3, .int v3), (4, .int v4)], [], (q_kN s c n))) rfl rfl (q_d_geT h10) ?_
      refine q_RP_seg (g2 := (112, [(0, .ref 89), (1, .ref 68), (2, .int v2), (3, .int v3), (4, .int v4)], [.int (((32 : Int32) + (4 * v4)) + 2), .ref 68, .int v4, .ref 89, .int v3], (q_kN s c n))) 11 (fun _ _ => rfl) ?_
      refine q_RP_as fun i11 => ?_
      refine q_RP_rsT (g2 := (113, [(0, .ref 89), (1, .ref 68), (2, .int v2), (3, .int v3), (4, .int v4)], [.int ((s.1 4) ((((32 : Int32) + (4 * v4)) + 2).toNatClampNeg)), .int v4, .ref 89, .int v3], (q_kN s c n))) rfl rfl i11 ?_
      refine q_RP_bd fun r4 er4 => ?_
      refine q_RP_call (v := (some (.int r4))) (h2 := (q_kN s c n)) rfl rfl ((dzt_N171_89 s c n v4 ((s.1 4) ((((32 : Int32) + (4 * v4)) + 2).toNatClampNeg)) r4 er4).le (Nat.le_of_ble_eq_true rfl)) ?_
      show q_RP _ _ _ (116, [(0, .ref 89), (1, .ref 68), (2, .int v2), (3, .int v3), (4, .int v4)], [.int r4, .int v3], (q_kN s c n)) _ _
      refine q_RP_seg (g2 := (122, [(0, .ref 89), (1, .ref 68), (2, .int v2), (3, .int v3), (4, .int v4)], [.int v4, .ref 91, .int r4, .int v3], (q_kN s c n))) 3 (fun _ _ => rfl) ?_
      refine q_RP_as fun i12 => ?_
      refine q_RP_rsT (g2 := (123, [(0, .ref 89), (1, .ref 68), (2, .int v2), (3, .int v3), (4, .int v4)], [.int ((s.1 27) (v4.toNatClampNeg)), .int r4, .int v3], (q_kN s c n))) rfl rfl i12 ?_
      refine q_RP_seg (g2 := (92, [(4, .int (v4 + 1)), (3, .int (v3 + (r4 * ((s.1 27) (v4.toNatClampNeg))))), (0, .ref 89), (1, .ref 68), (2, .int v2)], [], (q_kN s c n))) 5 (fun _ _ => rfl) ?_
      exact q_RP_xt (q_xt_mk (q_mn1 2 rfl (q_mn1 3 rfl (q_mn1 4 rfl (q_mn1 1 rfl (q_mn1 0 rfl q_mn0))))) rfl) (hk92 s v2 (v3 + (r4 * ((s.1 27) (v4.toNatClampNeg)))) (v4 + 1))
    | false =>
      refine q_RP_cF ?_
      refine q_RP_rsT (g2 := (132, [(0, .ref 89), (1, .ref 68), (2, .int v2), (3, .int v3), (4, .int v4)], [], (q_kN s c n))) rfl rfl (q_d_geF h10) ?_
      refine q_RP_seg (g2 := (141, [(0, .ref 89), (1, .ref 68), (2, .int v2), (3, .int v3), (4, .int v4)], [.int (v3 / 15), .int v2, .ref 94], (q_kN s c n))) 6 (fun _ _ => rfl) ?_
      refine q_RP_as fun i13 => ?_
      refine q_RP_rsT (g2 := (142, [(0, .ref 89), (1, .ref 68), (2, .int v2), (3, .int v3), (4, .int v4)], [], (q_kN (q_sA s 30 (upd (s.1 30) (v2.toNatClampNeg) (v3 / 15))) c n))) rfl rfl i13 ?_
      exact q_RP_ret rfl rfl rfl
def dz_N168_89_68_20 (m : Nat) : q_S → Int32 → Int32 → Option (q_S) := Nat.rec (motive := fun _ => q_S → Int32 → Int32 → Option (q_S)) (fun _ _ _ => none) (fun _ k20 s v2 v3 =>
  cond (decide (v3 < 3)) (cond (q_in ((32 : Int32) + (4 * v3)) 48) (cond (q_in (((32 : Int32) + (4 * v3)) + 1) 48) ((dz_N169_89 s v3 (((s.1 4) (((32 : Int32) + (4 * v3)).toNatClampNeg)) + (256 * ((s.1 4) ((((32 : Int32) + (4 * v3)) + 1).toNatClampNeg))))).bind fun r1 => cond (q_in (((32 : Int32) + (4 * v3)) + 2) 48) (cond (decide (((r1.1 4) ((((32 : Int32) + (4 * v3)) + 2).toNatClampNeg)) &&& 1 = 1)) (cond (q_in (((32 : Int32) + (4 * v3)) + 3) 48) ((dz_N170_89_t r1 v3 ((r1.1 4) ((((32 : Int32) + (4 * v3)) + 3).toNatClampNeg))).bind fun r2 => k20 r2 v2 (v3 + 1)) none) (cond (q_in (((32 : Int32) + (4 * v3)) + 3) 48) ((dz_N170_89_f r1 v3 ((r1.1 4) ((((32 : Int32) + (4 * v3)) + 3).toNatClampNeg))).bind fun r3 => k20 r3 v2 (v3 + 1)) none)) none) none) none) (dz_N168_89_68_92 5000 s v2 0 0)) m
theorem dzs_N168_89_68_20 (m : Nat) (s : q_S) (v2 : Int32) (v3 : Int32) : dz_N168_89_68_20 (m + 1) s v2 v3 = (fun k20 : q_S → Int32 → Int32 → Option (q_S) =>
  cond (decide (v3 < 3)) (cond (q_in ((32 : Int32) + (4 * v3)) 48) (cond (q_in (((32 : Int32) + (4 * v3)) + 1) 48) ((dz_N169_89 s v3 (((s.1 4) (((32 : Int32) + (4 * v3)).toNatClampNeg)) + (256 * ((s.1 4) ((((32 : Int32) + (4 * v3)) + 1).toNatClampNeg))))).bind fun r1 => cond (q_in (((32 : Int32) + (4 * v3)) + 2) 48) (cond (decide (((r1.1 4) ((((32 : Int32) + (4 * v3)) + 2).toNatClampNeg)) &&& 1 = 1)) (cond (q_in (((32 : Int32) + (4 * v3)) + 3) 48) ((dz_N170_89_t r1 v3 ((r1.1 4) ((((32 : Int32) + (4 * v3)) + 3).toNatClampNeg))).bind fun r2 => k20 r2 v2 (v3 + 1)) none) (cond (q_in (((32 : Int32) + (4 * v3)) + 3) 48) ((dz_N170_89_f r1 v3 ((r1.1 4) ((((32 : Int32) + (4 * v3)) + 3).toNatClampNeg))).bind fun r3 => k20 r3 v2 (v3 + 1)) none)) none) none) none) (dz_N168_89_68_92 5000 s v2 0 0)) (dz_N168_89_68_20 m) := rfl
set_option maxHeartbeats 4000000 in
theorem dzt_N168_89_68_20 (c n : Nat) : ∀ (m : Nat) (s : q_S) (v2 : Int32) (v3 : Int32), q_RP q_TB0 2 167 (20, [(0, .ref 89), (1, .ref 68), (2, .int v2), (3, .int v3)], [], (q_kN s c n)) (q_oSN c n) (dz_N168_89_68_20 m s v2 v3) := by
  intro m
  induction m with
  | zero => intro s v2 v3; exact q_RP_no
  | succ m ih =>
    intro s v2 v3
    have hk20 := ih
    clear ih
    rw [dzs_N168_89_68_20]
    generalize dz_N168_89_68_20 m = k20 at hk20 ⊢
    dsimp only
    refine q_RP_seg (g2 := (22, [(0, .ref 89), (1, .ref 68), (2, .int v2), (3, .int v3)], [.int 3, .int v3], (q_kN s c n))) 2 (fun _ _ => rfl) ?_
    cases h3 : decide (v3 < 3) with
    | true =>
      refine q_RP_cT ?_
      refine q_RP_rsF (g2 := (25, [(0, .ref 89), (1, .ref 68), (2, .int v2), (3, .int v3)], [], (q_kN s c n))) rfl rfl (q_d_geT h3) ?_
      refine q_RP_seg (g2 := (38, [(4, .int ((32 : Int32) + (4 * v3))), (0, .ref 89), (1, .ref 68), (2, .int v2), (3, .int v3)], [.int ((32 : Int32) + (4 * v3)), .ref 68, .int v3, .ref 89], (q_kN s c n))) 10 (fun _ _ => rfl) ?_
      refine q_RP_as fun i4 => ?_
      refine q_RP_rsT (g2 := (39, [(4, .int ((32 : Int32) + (4 * v3))), (0, .ref 89), (1, .ref 68), (2, .int v2), (3, .int v3)], [.int ((s.1 4) (((32 : Int32) + (4 * v3)).toNatClampNeg)), .int v3, .ref 89], (q_kN s c n))) rfl rfl i4 ?_
      refine q_RP_seg (g2 := (47, [(4, .int ((32 : Int32) + (4 * v3))), (0, .ref 89), (1, .ref 68), (2, .int v2), (3, .int v3)], [.int (((32 : Int32) + (4 * v3)) + 1), .ref 68, .int 256, .int ((s.1 4) (((32 : Int32) + (4 * v3)).toNatClampNeg)), .int v3, .ref 89], (q_kN s c n))) 5 (fun _ _ => rfl) ?_
      refine q_RP_as fun i5 => ?_
      refine q_RP_rsT (g2 := (48, [(4, .int ((32 : Int32) + (4 * v3))), (0, .ref 89), (1, .ref 68), (2, .int v2), (3, .int v3)], [.int ((s.1 4) ((((32 : Int32) + (4 * v3)) + 1).toNatClampNeg)), .int 256, .int ((s.1 4) (((32 : Int32) + (4 * v3)).toNatClampNeg)), .int v3, .ref 89], (q_kN s c n))) rfl rfl i5 ?_
      refine q_RP_seg (g2 := (50, [(4, .int ((32 : Int32) + (4 * v3))), (0, .ref 89), (1, .ref 68), (2, .int v2), (3, .int v3)], [.int (((s.1 4) (((32 : Int32) + (4 * v3)).toNatClampNeg)) + (256 * ((s.1 4) ((((32 : Int32) + (4 * v3)) + 1).toNatClampNeg)))), .int v3, .ref 89], (q_kN s c n))) 2 (fun _ _ => rfl) ?_
      refine q_RP_bd fun r1 er1 => ?_
      refine q_RP_call (v := none) (h2 := (q_kN r1 c n)) rfl rfl ((dzt_N169_89 s c n v3 (((s.1 4) (((32 : Int32) + (4 * v3)).toNatClampNeg)) + (256 * ((s.1 4) ((((32 : Int32) + (4 * v3)) + 1).toNatClampNeg)))) r1 er1).le (Nat.le_of_ble_eq_true rfl)) ?_
      show q_RP _ _ _ (53, [(4, .int ((32 : Int32) + (4 * v3))), (0, .ref 89), (1, .ref 68), (2, .int v2), (3, .int v3)], [], (q_kN r1 c n)) _ _
      refine q_RP_seg (g2 := (60, [(4, .int ((32 : Int32) + (4 * v3))), (0, .ref 89), (1, .ref 68), (2, .int v2), (3, .int v3)], [.int (((32 : Int32) + (4 * v3)) + 2), .ref 68, .int v3, .ref 89], (q_kN r1 c n))) 6 (fun _ _ => rfl) ?_
      refine q_RP_as fun i6 => ?_
      refine q_RP_rsT (g2 := (61, [(4, .int ((32 : Int32) + (4 * v3))), (0, .ref 89), (1, .ref 68), (2, .int v2), (3, .int v3)], [.int ((r1.1 4) ((((32 : Int32) + (4 * v3)) + 2).toNatClampNeg)), .int v3, .ref 89], (q_kN r1 c n))) rfl rfl i6 ?_
      refine q_RP_seg (g2 := (64, [(4, .int ((32 : Int32) + (4 * v3))), (0, .ref 89), (1, .ref 68), (2, .int v2), (3, .int v3)], [.int 1, .int (((r1.1 4) ((((32 : Int32) + (4 * v3)) + 2).toNatClampNeg)) &&& 1), .int v3, .ref 89], (q_kN r1 c n))) 3 (fun _ _ => rfl) ?_
      cases h7 : decide (((r1.1 4) ((((32 : Int32) + (4 * v3)) + 2).toNatClampNeg)) &&& 1 = 1) with
      | true =>
        refine q_RP_cT ?_
        refine q_RP_rsF (g2 := (67, [(4, .int ((32 : Int32) + (4 * v3))), (0, .ref 89), (1, .ref 68), (2, .int v2), (3, .int v3)], [.int v3, .ref 89], (q_kN r1 c n))) rfl rfl (q_d_neT h7) ?_
        refine q_RP_seg (g2 := (77, [(4, .int ((32 : Int32) + (4 * v3))), (0, .ref 89), (1, .ref 68), (2, .int v2), (3, .int v3)], [.int (((32 : Int32) + (4 * v3)) + 3), .ref 68, .int 1, .int v3, .ref 89], (q_kN r1 c n))) 6 (fun _ _ => rfl) ?_
        refine q_RP_as fun i8 => ?_
        refine q_RP_rsT (g2 := (78, [(4, .int ((32 : Int32) + (4 * v3))), (0, .ref 89), (1, .ref 68), (2, .int v2), (3, .int v3)], [.int ((r1.1 4) ((((32 : Int32) + (4 * v3)) + 3).toNatClampNeg)), .int 1, .int v3, .ref 89], (q_kN r1 c n))) rfl rfl i8 ?_
        refine q_RP_bd fun r2 er2 => ?_
        refine q_RP_call (v := none) (h2 := (q_kN r2 c n)) rfl rfl ((dzt_N170_89_t r1 c n v3 ((r1.1 4) ((((32 : Int32) + (4 * v3)) + 3).toNatClampNeg)) r2 er2).le (Nat.le_of_ble_eq_true rfl)) ?_
        show q_RP _ _ _ (81, [(4, .int ((32 : Int32) + (4 * v3))), (0, .ref 89), (1, .ref 68), (2, .int v2), (3, .int v3)], [], (q_kN r2 c n)) _ _
        refine q_RP_seg (g2 := (20, [(3, .int (v3 + 1)), (4, .int ((32 : Int32) + (4 * v3))), (0, .ref 89), (1, .ref 68), (2, .int v2)], [], (q_kN r2 c n))) 2 (fun _ _ => rfl) ?_
        exact q_RP_xt (q_xt_mk (q_mn1 2 rfl (q_mn1 3 rfl (q_mn1 4 rfl (q_mn1 0 rfl q_mn0)))) rfl) (hk20 r2 v2 (v3 + 1))
      | false =>
        refine q_RP_cF ?_
        refine q_RP_rsT (g2 := (71, [(4, .int ((32 : Int32) + (4 * v3))), (0, .ref 89), (1, .ref 68), (2, .int v2), (3, .int v3)], [.int v3, .ref 89], (q_kN r1 c n))) rfl rfl (q_d_neF h7) ?_
        refine q_RP_seg (g2 := (77, [(4, .int ((32 : Int32) + (4 * v3))), (0, .ref 89), (1, .ref 68), (2, .int v2), (3, .int v3)], [.int (((32 : Int32) + (4 * v3)) + 3), .ref 68, .int 0, .int v3, .ref 89], (q_kN r1 c n))) 5 (fun _ _ => rfl) ?_
        refine q_RP_as fun i9 => ?_
        refine q_RP_rsT (g2 := (78, [(4, .int ((32 : Int32) + (4 * v3))), (0, .ref 89), (1, .ref 68), (2, .int v2), (3, .int v3)], [.int ((r1.1 4) ((((32 : Int32) + (4 * v3)) + 3).toNatClampNeg)), .int 0, .int v3, .ref 89], (q_kN r1 c n))) rfl rfl i9 ?_
        refine q_RP_bd fun r3 er3 => ?_
        refine q_RP_call (v := none) (h2 := (q_kN r3 c n)) rfl rfl ((dzt_N170_89_f r1 c n v3 ((r1.1 4) ((((32 : Int32) + (4 * v3)) + 3).toNatClampNeg)) r3 er3).le (Nat.le_of_ble_eq_true rfl)) ?_
        show q_RP _ _ _ (81, [(4, .int ((32 : Int32) + (4 * v3))), (0, .ref 89), (1, .ref 68), (2, .int v2), (3, .int v3)], [], (q_kN r3 c n)) _ _
        refine q_RP_seg (g2 := (20, [(3, .int (v3 + 1)), (4, .int ((32 : Int32) + (4 * v3))), (0, .ref 89), (1, .ref 68), (2, .int v2)], [], (q_kN r3 c n))) 2 (fun _ _ => rfl) ?_
        exact q_RP_xt (q_xt_mk (q_mn1 2 rfl (q_mn1 3 rfl (q_mn1 4 rfl (q_mn1 0 rfl q_mn0)))) rfl) (hk20 r3 v2 (v3 + 1))
    | false =>
      refine q_RP_cF ?_
      refine q_RP_rsT (g2 := (87, [(0, .ref 89), (1, .ref 68), (2, .int v2), (3, .int v3)], [], (q_kN s c n))) rfl rfl (q_d_geF h3) ?_
      refine q_RP_seg (g2 := (92, [(4, .int 0), (3, .int 0), (0, .ref 89), (1, .ref 68), (2, .int v2)], [], (q_kN s c n))) 4 (fun _ _ => rfl) ?_
      exact q_RP_xt (q_xt_mk (q_mn1 2 rfl (q_mn1 3 rfl (q_mn1 4 rfl (q_mn1 1 rfl (q_mn1 0 rfl q_mn0))))) rfl) (dzt_N168_89_68_92 c n 5000 s v2 0 0)
def dz_N168_89_68 (s : q_S) (a2 : Int32) : Option (q_S) :=
  cond (decide (a2 < 0)) (some s) (cond (decide (a2 < 40)) (dz_N168_89_68_20 5000 s a2 0) (some s))
set_option maxHeartbeats 4000000 in
theorem dzt_N168_89_68 (s : q_S) (c n : Nat) (a2 : Int32) (x : q_S) (h : dz_N168_89_68 s a2 = some x) : q_Ca q_TB0 3 167 [.ref 89, .ref 68, .int a2] (q_kN s c n) ((q_oSN c n) x) := by
  refine q_CaP_of (φ := (q_oSN c n)) (Nat.le_of_ble_eq_true rfl) ?_ h
  clear h
  unfold dz_N168_89_68
  refine q_RP_seg (g2 := (8, [(0, .ref 89), (1, .ref 68), (2, .int a2)], [.int a2], (q_kN s c n))) 5 (fun _ _ => rfl) ?_
  cases h1 : decide (a2 < 0) with
  | true =>
    refine q_RP_cT ?_
    refine q_RP_rsT (g2 := (17, [(0, .ref 89), (1, .ref 68), (2, .int a2)], [], (q_kN s c n))) rfl rfl h1 ?_
    exact q_RP_ret rfl rfl rfl
  | false =>
    refine q_RP_cF ?_
    refine q_RP_rsF (g2 := (11, [(0, .ref 89), (1, .ref 68), (2, .int a2)], [], (q_kN s c n))) rfl rfl h1 ?_
    refine q_RP_seg (g2 := (14, [(0, .ref 89), (1, .ref 68), (2, .int a2)], [.int 40, .int a2], (q_kN s c n))) 2 (fun _ _ => rfl) ?_
    cases h2 : decide (a2 < 40) with
    | true =>
      refine q_RP_cT ?_
      refine q_RP_rsT (g2 := (18, [(0, .ref 89), (1, .ref 68), (2, .int a2)], [], (q_kN s c n))) rfl rfl h2 ?_
      refine q_RP_seg (g2 := (20, [(3, .int 0), (0, .ref 89), (1, .ref 68), (2, .int a2)], [], (q_kN s c n))) 2 (fun _ _ => rfl) ?_
      exact q_RP_xt (q_xt_mk (q_mn1 1 rfl (q_mn1 2 rfl (q_mn1 3 rfl (q_mn1 0 rfl q_mn0)))) rfl) (dzt_N168_89_68_20 c n 5000 s a2 0)
    | false =>
      refine q_RP_cF ?_
      refine q_RP_rsF (g2 := (17, [(0, .ref 89), (1, .ref 68), (2, .int a2)], [], (q_kN s c n))) rfl rfl h2 ?_
      exact q_RP_ret rfl rfl rfl
def dz_N83_64 (s : q_S) : Option (q_S × Bool) :=
  q_let (dz_N101_65 s) fun r3 => (dz_N102_65 r3).bind fun r4 => cond r4 ((dz_N103_65_95 r3).bind fun r5 => (dz_N104_65 r5).bind fun r6 => q_let (dz_N106_65 r6) fun r7 => q_let (dz_N87_65 r7) fun r8 => cond (decide (r8 = 23)) (q_let (dz_N86_65 r7) fun r9 => (dz_N168_89_68 r7 (r9 / 24)).bind fun r10 => some (r10, true)) (some (r7, true))) ((dz_N103_65_95 r3).bind fun r11 => (dz_N104_65 r11).bind fun r12 => q_let (dz_N106_65 r12) fun r13 => q_let (dz_N87_65 r13) fun r14 => cond (decide (r14 = 23)) (q_let (dz_N86_65 r13) fun r15 => (dz_N168_89_68 r13 (r15 / 24)).bind fun r16 => some (r16, false)) (some (r13, false)))
set_option maxHeartbeats 4000000 in
theorem dzt_N83_64 (s : q_S) (c n : Nat) (x : q_S × Bool) (h : dz_N83_64 s = some x) : q_Ca q_TB0 5 82 [.ref 64] (q_kN s c n) ((q_oJN c n) x) := by
  refine q_CaP_of (φ := (q_oJN c n)) (Nat.le_of_ble_eq_true rfl) ?_ h
  clear h
  unfold dz_N83_64
  refine q_RP_seg (g2 := (4, [(0, .ref 64)], [.ref 65], (q_kN s c n))) 2 (fun _ _ => rfl) ?_
  refine q_RP_call (v := none) (h2 := (q_kN (dz_N101_65 s) c n)) rfl rfl ((dzt_N101_65 s c n).le (Nat.le_of_ble_eq_true rfl)) ?_
  generalize dz_N101_65 s = r3
  refine q_RP_let ?_
  show q_RP _ _ _ (7, [(0, .ref 64)], [], (q_kN r3 c n)) _ _
  refine q_RP_seg (g2 := (11, [(0, .ref 64)], [.ref 65], (q_kN r3 c n))) 2 (fun _ _ => rfl) ?_
  refine q_RP_bd fun r4 er4 => ?_
  refine q_RP_call (v := (some (.int (q_b r4)))) (h2 := (q_kN r3 c n)) rfl rfl ((dzt_N102_65 r3 c n r4 er4).le (Nat.le_of_ble_eq_true rfl)) ?_
  show q_RP _ _ _ (14, [(0, .ref 64)], [.int (q_b r4)], (q_kN r3 c n)) _ _
  cases h1 : r4 with
  | true =>
    refine q_RP_cT ?_
    show q_RP _ _ _ (14, [(0, .ref 64)], [.int 1], (q_kN r3 c n)) _ _
    refine q_RP_seg (g2 := (23, [(1, .int 1), (0, .ref 64)], [.ref 95, .ref 65], (q_kN r3 c n))) 5 (fun _ _ => rfl) ?_
    refine q_RP_bd fun r5 er5 => ?_
    refine q_RP_call (v := none) (h2 := (q_kN r5 c n)) rfl rfl ((dzt_N103_65_95 r3 c n r5 er5).le (Nat.le_of_ble_eq_true rfl)) ?_
    show q_RP _ _ _ (26, [(1, .int 1), (0, .ref 64)], [], (q_kN r5 c n)) _ _
    refine q_RP_seg (g2 := (30, [(1, .int 1), (0, .ref 64)], [.ref 65], (q_kN r5 c n))) 2 (fun _ _ => rfl) ?_
    refine q_RP_bd fun r6 er6 => ?_
    refine q_RP_call (v := none) (h2 := (q_kN r6 c n)) rfl rfl ((dzt_N104_65 r5 c n r6 er6).le (Nat.le_of_ble_eq_true rfl)) ?_
    show q_RP _ _ _ (33, [(1, .int 1), (0, .ref 64)], [], (q_kN r6 c n)) _ _
    refine q_RP_seg (g2 := (37, [(1, .int 1), (0, .ref 64)], [.ref 65], (q_kN r6 c n))) 2 (fun _ _ => rfl) ?_
    refine q_RP_call (v := none) (h2 := (q_kN (dz_N106_65 r6) c n)) rfl rfl ((dzt_N106_65 r6 c n).le (Nat.le_of_ble_eq_true rfl)) ?_
    generalize dz_N106_65 r6 = r7
    refine q_RP_let ?_
    show q_RP _ _ _ (40, [(1, .int 1), (0, .ref 64)], [], (q_kN r7 c n)) _ _
    refine q_RP_seg (g2 := (44, [(1, .int 1), (0, .ref 64)], [.ref 65], (q_kN r7 c n))) 2 (fun _ _ => rfl) ?_
    refine q_RP_call (v := (some (.int (dz_N87_65 r7)))) (h2 := (q_kN r7 c n)) rfl rfl ((dzt_N87_65 r7 c n).le (Nat.le_of_ble_eq_true rfl)) ?_
    generalize dz_N87_65 r7 = r8
    refine q_RP_let ?_
    show q_RP _ _ _ (47, [(1, .int 1), (0, .ref 64)], [.int r8], (q_kN r7 c n)) _ _
    refine q_RP_seg (g2 := (49, [(1, .int 1), (0, .ref 64)], [.int 23, .int r8], (q_kN r7 c n))) 1 (fun _ _ => rfl) ?_
    cases h2 : decide (r8 = 23) with
    | true =>
      refine q_RP_cT ?_
      refine q_RP_rsF (g2 := (52, [(1, .int 1), (0, .ref 64)], [], (q_kN r7 c n))) rfl rfl (q_d_neT h2) ?_
      refine q_RP_seg (g2 := (70, [(1, .int 1), (0, .ref 64)], [.ref 65, .ref 68, .ref 89], (q_kN r7 c n))) 8 (fun _ _ => rfl) ?_
      refine q_RP_call (v := (some (.int (dz_N86_65 r7)))) (h2 := (q_kN r7 c n)) rfl rfl ((dzt_N86_65 r7 c n).le (Nat.le_of_ble_eq_true rfl)) ?_
      generalize dz_N86_65 r7 = r9
      refine q_RP_let ?_
      show q_RP _ _ _ (73, [(1, .int 1), (0, .ref 64)], [.int r9, .ref 68, .ref 89], (q_kN r7 c n)) _ _
      refine q_RP_seg (g2 := (76, [(1, .int 1), (0, .ref 64)], [.int (r9 / 24), .ref 68, .ref 89], (q_kN r7 c n))) 2 (fun _ _ => rfl) ?_
      refine q_RP_bd fun r10 er10 => ?_
      refine q_RP_call (v := none) (h2 := (q_kN r10 c n)) rfl rfl ((dzt_N168_89_68 r7 c n (r9 / 24) r10 er10).le (Nat.le_of_ble_eq_true rfl)) ?_
      show q_RP _ _ _ (79, [(1, .int 1), (0, .ref 64)], [], (q_kN r10 c n)) _ _
      refine q_RP_seg (g2 := (80, [(1, .int 1), (0, .ref 64)], [.int 1], (q_kN r10 c n))) 1 (fun _ _ => rfl) ?_
      exact q_RP_ret rfl rfl rfl
    | false =>
      refine q_RP_cF ?_
      refine q_RP_rsT (g2 := (79, [(1, .int 1), (0, .ref 64)], [], (q_kN r7 c n))) rfl rfl (q_d_neF h2) ?_
      refine q_RP_seg (g2 := (80, [(1, .int 1), (0, .ref 64)], [.int 1], (q_kN r7 c n))) 1 (fun _ _ => rfl) ?_
      exact q_RP_ret rfl rfl rfl
  | false =>
    refine q_RP_cF ?_
    show q_RP _ _ _ (14, [(0, .ref 64)], [.int 0], (q_kN r3 c n)) _ _
    refine q_RP_seg (g2 := (23, [(1, .int 0), (0, .ref 64)], [.ref 95, .ref 65], (q_kN r3 c n))) 5 (fun _ _ => rfl) ?_
    refine q_RP_bd fun r11 er11 => ?_
    refine q_RP_call (v := none) (h2 := (q_kN r11 c n)) rfl rfl ((dzt_N103_65_95 r3 c n r11 er11).le (Nat.le_of_ble_eq_true rfl)) ?_
    show q_RP _ _ _ (26, [(1, .int 0), (0, .ref 64)], [], (q_kN r11 c n)) _ _
    refine q_RP_seg (g2 := (30, [(1, .int 0), (0, .ref 64)], [.ref 65], (q_kN r11 c n))) 2 (fun _ _ => rfl) ?_
    refine q_RP_bd fun r12 er12 => ?_
    refine q_RP_call (v := none) (h2 := (q_kN r12 c n)) rfl rfl ((dzt_N104_65 r11 c n r12 er12).le (Nat.le_of_ble_eq_true rfl)) ?_
    show q_RP _ _ _ (33, [(1, .int 0), (0, .ref 64)], [], (q_kN r12 c n)) _ _
    refine q_RP_seg (g2 := (37, [(1, .int 0), (0, .ref 64)], [.ref 65], (q_kN r12 c n))) 2 (fun _ _ => rfl) ?_
    refine q_RP_call (v := none) (h2 := (q_kN (dz_N106_65 r12) c n)) rfl rfl ((dzt_N106_65 r12 c n).le (Nat.le_of_ble_eq_true rfl)) ?_
    generalize dz_N106_65 r12 = r13
    refine q_RP_let ?_
    show q_RP _ _ _ (40, [(1, .int 0), (0, .ref 64)], [], (q_kN r13 c n)) _ _
    refine q_RP_seg (g2 := (44, [(1, .int 0), (0, .ref 64)], [.ref 65], (q_kN r13 c n))) 2 (fun _ _ => rfl) ?_
    refine q_RP_call (v := (some (.int (dz_N87_65 r13)))) (h2 := (q_kN r13 c n)) rfl rfl ((dzt_N87_65 r13 c n).le (Nat.le_of_ble_eq_true rfl)) ?_
    generalize dz_N87_65 r13 = r14
    refine q_RP_let ?_
    show q_RP _ _ _ (47, [(1, .int 0), (0, .ref 64)], [.int r14], (q_kN r13 c n)) _ _
    refine q_RP_seg (g2 := (49, [(1, .int 0), (0, .ref 64)], [.int 23, .int r14], (q_kN r13 c n))) 1 (fun _ _ => rfl) ?_
    cases h3 : decide (r14 = 23) with
    | true =>
      refine q_RP_cT ?_
      refine q_RP_rsF (g2 := (52, [(1, .int 0), (0, .ref 64)], [], (q_kN r13 c n))) rfl rfl (q_d_neT h3) ?_
      refine q_RP_seg (g2 := (70, [(1, .int 0), (0, .ref 64)], [.ref 65, .ref 68, .ref 89], (q_kN r13 c n))) 8 (fun _ _ => rfl) ?_
      refine q_RP_call (v := (some (.int (dz_N86_65 r13)))) (h2 := (q_kN r13 c n)) rfl rfl ((dzt_N86_65 r13 c n).le (Nat.le_of_ble_eq_true rfl)) ?_
      generalize dz_N86_65 r13 = r15
      refine q_RP_let ?_
      show q_RP _ _ _ (73, [(1, .int 0), (0, .ref 64)], [.int r15, .ref 68, .ref 89], (q_kN r13 c n)) _ _
      refine q_RP_seg (g2 := (76, [(1, .int 0), (0, .ref 64)], [.int (r15 / 24), .ref 68, .ref 89], (q_kN r13 c n))) 2 (fun _ _ => rfl) ?_
      refine q_RP_bd fun r16 er16 => ?_
      refine q_RP_call (v := none) (h2 := (q_kN r16 c n)) rfl rfl ((dzt_N168_89_68 r13 c n (r15 / 24) r16 er16).le (Nat.le_of_ble_eq_true rfl)) ?_
      show q_RP _ _ _ (79, [(1, .int 0), (0, .ref 64)], [], (q_kN r16 c n)) _ _
      refine q_RP_seg (g2 := (80, [(1, .int 0), (0, .ref 64)], [.int 0], (q_kN r16 c n))) 1 (fun _ _ => rfl) ?_
      exact q_RP_ret rfl rfl rfl
    | false =>
      refine q_RP_cF ?_
      refine q_RP_rsT (g2 := (79, [(1, .int 0), (0, .ref 64)], [], (q_kN r13 c n))) rfl rfl (q_d_neF h3) ?_
      refine q_RP_seg (g2 := (80, [(1, .int 0), (0, .ref 64)], [.int 0], (q_kN r13 c n))) 1 (fun _ _ => rfl) ?_
      exact q_RP_ret rfl rfl rfl
def dz_N110_78_66 (s : q_S) : q_S :=
  (q_sA (q_sA s 15 (va_cpy (s.1 3) (s.1 15) 0 0 4096)) 16 (va_cpy (s.1 4) (s.1 16) 0 0 48))
set_option maxHeartbeats 4000000 in
theorem dzt_N110_78_66 (s : q_S) (c n : Nat) : q_Ca q_TB0 1 109 [.ref 78, .ref 66] (q_kN s c n) ((q_oSN c n) (dz_N110_78_66 s)) := by
  refine q_CaT_of (φ := (q_oSN c n)) (Nat.le_of_ble_eq_true rfl) ?_
  unfold dz_N110_78_66
  refine q_RT_seg (g2 := (13, [(0, .ref 78), (1, .ref 66)], [.int 4096, .int 0, .ref 79, .int 0, .ref 67], (q_kN s c n))) 7 (fun _ _ => rfl) ?_
  refine q_RT_rsT (g2 := (16, [(0, .ref 78), (1, .ref 66)], [], (q_kN (q_sA s 15 (va_cpy (s.1 3) (s.1 15) 0 0 4096)) c n))) rfl rfl (q_acb rfl) ?_
  refine q_RT_seg (g2 := (28, [(0, .ref 78), (1, .ref 66)], [.int 48, .int 0, .ref 80, .int 0, .ref 68], (q_kN (q_sA s 15 (va_cpy (s.1 3) (s.1 15) 0 0 4096)) c n))) 7 (fun _ _ => rfl) ?_
  refine q_RT_rsT (g2 := (31, [(0, .ref 78), (1, .ref 66)], [], (q_kN (q_sA (q_sA s 15 (va_cpy (s.1 3) (s.1 15) 0 0 4096)) 16 (va_cpy (s.1 4) (s.1 16) 0 0 48)) c n))) rfl rfl (q_acb rfl) ?_
  exact q_RT_ret rfl rfl rfl
def dz_N127_77_66 (s : q_S) : q_S :=
  q_let (dz_N110_78_66 s) fun r1 => (q_sI (q_sI r1 13 2 0) 13 3 0)
set_option maxHeartbeats 4000000 in
theorem dzt_N127_77_66 (s : q_S) (c n : Nat) : q_Ca q_TB0 2 126 [.ref 77, .ref 66] (q_kN s c n) ((q_oSN c n) (dz_N127_77_66 s)) := by
  refine q_CaT_of (φ := (q_oSN c n)) (Nat.le_of_ble_eq_true rfl) ?_
  unfold dz_N127_77_66
  refine q_RT_seg (g2 := (5, [(0, .ref 77), (1, .ref 66)], [.ref 66, .ref 78], (q_kN s c n))) 3 (fun _ _ => rfl) ?_
  refine q_RT_call (v := none) (h2 := (q_kN (dz_N110_78_66 s) c n)) rfl rfl ((dzt_N110_78_66 s c n).le (Nat.le_of_ble_eq_true rfl)) ?_
  generalize dz_N110_78_66 s = r1
  refine q_RT_let ?_
  show q_RT _ _ _ (8, [(0, .ref 77), (1, .ref 66)], [], (q_kN r1 c n)) _ _
  refine q_RT_seg (g2 := (18, [(0, .ref 77), (1, .ref 66)], [], (q_kN (q_sI (q_sI r1 13 2 0) 13 3 0) c n))) 6 (fun _ _ => rfl) ?_
  exact q_RT_ret rfl rfl rfl
def dz_N110_83_66 (s : q_S) : q_S :=
  (q_sA (q_sA s 20 (va_cpy (s.1 3) (s.1 20) 0 0 4096)) 21 (va_cpy (s.1 4) (s.1 21) 0 0 48))
set_option maxHeartbeats 4000000 in
theorem dzt_N110_83_66 (s : q_S) (c n : Nat) : q_Ca q_TB0 1 109 [.ref 83, .ref 66] (q_kN s c n) ((q_oSN c n) (dz_N110_83_66 s)) := by
  refine q_CaT_of (φ := (q_oSN c n)) (Nat.le_of_ble_eq_true rfl) ?_
  unfold dz_N110_83_66
  refine q_RT_seg (g2 := (13, [(0, .ref 83), (1, .ref 66)], [.int 4096, .int 0, .ref 84, .int 0, .ref 67], (q_kN s c n))) 7 (fun _ _ => rfl) ?_
  refine q_RT_rsT (g2 := (16, [(0, .ref 83), (1, .ref 66)], [], (q_kN (q_sA s 20 (va_cpy (s.1 3) (s.1 20) 0 0 4096)) c n))) rfl rfl (q_acb rfl) ?_
  refine q_RT_seg (g2 := (28, [(0, .ref 83), (1, .ref 66)], [.int 48, .int 0, .ref 85, .int 0, .ref 68], (q_kN (q_sA s 20 (va_cpy (s.1 3) (s.1 20) 0 0 4096)) c n))) 7 (fun _ _ => rfl) ?_
  refine q_RT_rsT (g2 := (31, [(0, .ref 83), (1, .ref 66)], [], (q_kN (q_sA (q_sA s 20 (va_cpy (s.1 3) (s.1 20) 0 0 4096)) 21 (va_cpy (s.1 4) (s.1 21) 0 0 48)) c n))) rfl rfl (q_acb rfl) ?_
  exact q_RT_ret rfl rfl rfl
def dz_N127_82_66 (s : q_S) : q_S :=
  q_let (dz_N110_83_66 s) fun r1 => (q_sI (q_sI r1 18 2 0) 18 3 0)
set_option maxHeartbeats 4000000 in
theorem dzt_N127_82_66 (s : q_S) (c n : Nat) : q_Ca q_TB0 2 126 [.ref 82, .ref 66] (q_kN s c n) ((q_oSN c n) (dz_N127_82_66 s)) := by
  refine q_CaT_of (φ := (q_oSN c n)) (Nat.le_of_ble_eq_true rfl) ?_
  unfold dz_N127_82_66
  refine q_RT_seg (g2 := (5, [(0, .ref 82), (1, .ref 66)], [.ref 66, .ref 83], (q_kN s c n))) 3 (fun _ _ => rfl) ?_
  refine q_RT_call (v := none) (h2 := (q_kN (dz_N110_83_66 s) c n)) rfl rfl ((dzt_N110_83_66 s c n).le (Nat.le_of_ble_eq_true rfl)) ?_
  generalize dz_N110_83_66 s = r1
  refine q_RT_let ?_
  show q_RT _ _ _ (8, [(0, .ref 82), (1, .ref 66)], [], (q_kN r1 c n)) _ _
  refine q_RT_seg (g2 := (18, [(0, .ref 82), (1, .ref 66)], [], (q_kN (q_sI (q_sI r1 18 2 0) 18 3 0) c n))) 6 (fun _ _ => rfl) ?_
  exact q_RT_ret rfl rfl rfl
def dz_N107_65 (s : q_S) : q_S :=
  cond (decide (lg_cmp (((s.2.2 1 8) + 1) - ((s.2.2 1 8) + 1) / 960 * 960) 0 = 0)) (cond (decide (lg_cmp ((((s.2.2 1 8) + 1) / 960) - (((s.2.2 1 8) + 1) / 960) / 2 * 2) 0 = 0)) (q_let (dz_N127_77_66 (q_sJ s 1 8 ((s.2.2 1 8) + 1))) fun r1 => r1) (q_let (dz_N127_82_66 (q_sJ s 1 8 ((s.2.2 1 8) + 1))) fun r2 => r2)) ((q_sJ s 1 8 ((s.2.2 1 8) + 1)))
set_option maxHeartbeats 4000000 in
theorem dzt_N107_65 (s : q_S) (c n : Nat) : q_Ca q_TB0 3 106 [.ref 65] (q_kN s c n) ((q_oSN c n) (dz_N107_65 s)) := by
  refine q_CaT_of (φ := (q_oSN c n)) (Nat.le_of_ble_eq_true rfl) ?_
  unfold dz_N107_65
  refine q_RT_seg (g2 := (5, [(0, .ref 65)], [.long (s.2.2 1 8), .ref 65], (q_kN s c n))) 3 (fun _ _ => rfl) ?_
  refine q_RT_seg (g2 := (14, [(0, .ref 65)], [.long ((s.2.2 1 8) + 1)], (q_kN (q_sJ s 1 8 ((s.2.2 1 8) + 1)) c n))) 5 (fun _ _ => rfl) ?_
  refine q_RT_seg (g2 := (20, [(0, .ref 65)], [.int (lg_cmp (((s.2.2 1 8) + 1) - ((s.2.2 1 8) + 1) / 960 * 960) 0)], (q_kN (q_sJ s 1 8 ((s.2.2 1 8) + 1)) c n))) 4 (fun _ _ => rfl) ?_
  cases h1 : decide (lg_cmp (((s.2.2 1 8) + 1) - ((s.2.2 1 8) + 1) / 960 * 960) 0 = 0) with
  | true =>
    refine q_RT_cT ?_
    refine q_RT_rsF (g2 := (23, [(0, .ref 65)], [], (q_kN (q_sJ s 1 8 ((s.2.2 1 8) + 1)) c n))) rfl rfl (q_d_neT h1) ?_
    refine q_RT_seg (g2 := (24, [(0, .ref 65)], [.ref 65], (q_kN (q_sJ s 1 8 ((s.2.2 1 8) + 1)) c n))) 1 (fun _ _ => rfl) ?_
    cases h2 : decide (lg_cmp ((((s.2.2 1 8) + 1) / 960) - (((s.2.2 1 8) + 1) / 960) / 2 * 2) 0 = 0) with
    | true =>
      refine q_RT_cT ?_
      refine q_RT_call (v := (some (.ref 77))) (h2 := (q_kN (q_sJ s 1 8 ((s.2.2 1 8) + 1)) c n)) rfl rfl ?_ ?_
      · refine q_Ca_of (Nat.le_of_ble_eq_true rfl) ?_
        refine q_Ru_seg (g2 := (14, [(0, .ref 65)], [.int (lg_cmp ((((s.2.2 1 8) + 1) / 960) - (((s.2.2 1 8) + 1) / 960) / 2 * 2) 0)], (q_kN (q_sJ s 1 8 ((s.2.2 1 8) + 1)) c n))) 8 (fun _ _ => rfl) ?_
        refine q_Ru_rsF (g2 := (17, [(0, .ref 65)], [], (q_kN (q_sJ s 1 8 ((s.2.2 1 8) + 1)) c n))) rfl rfl (q_d_neT h2) ?_
        refine q_Ru_seg (g2 := (28, [(0, .ref 65)], [.ref 77], (q_kN (q_sJ s 1 8 ((s.2.2 1 8) + 1)) c n))) 3 (fun _ _ => rfl) ?_
        exact q_Ru_ret rfl rfl
      show q_RT _ _ _ (27, [(0, .ref 65)], [.ref 77], (q_kN (q_sJ s 1 8 ((s.2.2 1 8) + 1)) c n)) _ _
      refine q_RT_seg (g2 := (31, [(0, .ref 65)], [.ref 66, .ref 77], (q_kN (q_sJ s 1 8 ((s.2.2 1 8) + 1)) c n))) 2 (fun _ _ => rfl) ?_
      refine q_RT_call (v := none) (h2 := (q_kN (dz_N127_77_66 (q_sJ s 1 8 ((s.2.2 1 8) + 1))) c n)) rfl rfl ((dzt_N127_77_66 (q_sJ s 1 8 ((s.2.2 1 8) + 1)) c n).le (Nat.le_of_ble_eq_true rfl)) ?_
      generalize dz_N127_77_66 (q_sJ s 1 8 ((s.2.2 1 8) + 1)) = r1
      refine q_RT_let ?_
      show q_RT _ _ _ (34, [(0, .ref 65)], [], (q_kN r1 c n)) _ _
      exact q_RT_ret rfl rfl rfl
    | false =>
      refine q_RT_cF ?_
      refine q_RT_call (v := (some (.ref 82))) (h2 := (q_kN (q_sJ s 1 8 ((s.2.2 1 8) + 1)) c n)) rfl rfl ?_ ?_
      · refine q_Ca_of (Nat.le_of_ble_eq_true rfl) ?_
        refine q_Ru_seg (g2 := (14, [(0, .ref 65)], [.int (lg_cmp ((((s.2.2 1 8) + 1) / 960) - (((s.2.2 1 8) + 1) / 960) / 2 * 2) 0)], (q_kN (q_sJ s 1 8 ((s.2.2 1 8) + 1)) c n))) 8 (fun _ _ => rfl) ?_
        refine q_Ru_rsT (g2 := (24, [(0, .ref 65)], [], (q_kN (q_sJ s 1 8 ((s.2.2 1 8) + 1)) c n))) rfl rfl (q_d_neF h2) ?_
        refine q_Ru_seg (g2 := (28, [(0, .ref 65)], [.ref 82], (q_kN (q_sJ s 1 8 ((s.2.2 1 8) + 1)) c n))) 2 (fun _ _ => rfl) ?_
        exact q_Ru_ret rfl rfl
      show q_RT _ _ _ (27, [(0, .ref 65)], [.ref 82], (q_kN (q_sJ s 1 8 ((s.2.2 1 8) + 1)) c n)) _ _
      refine q_RT_seg (g2 := (31, [(0, .ref 65)], [.ref 66, .ref 82], (q_kN (q_sJ s 1 8 ((s.2.2 1 8) + 1)) c n))) 2 (fun _ _ => rfl) ?_
      refine q_RT_call (v := none) (h2 := (q_kN (dz_N127_82_66 (q_sJ s 1 8 ((s.2.2 1 8) + 1))) c n)) rfl rfl ((dzt_N127_82_66 (q_sJ s 1 8 ((s.2.2 1 8) + 1)) c n).le (Nat.le_of_ble_eq_true rfl)) ?_
      generalize dz_N127_82_66 (q_sJ s 1 8 ((s.2.2 1 8) + 1)) = r2
      refine q_RT_let ?_
      show q_RT _ _ _ (34, [(0, .ref 65)], [], (q_kN r2 c n)) _ _
      exact q_RT_ret rfl rfl rfl
  | false =>
    refine q_RT_cF ?_
    refine q_RT_rsT (g2 := (34, [(0, .ref 65)], [], (q_kN (q_sJ s 1 8 ((s.2.2 1 8) + 1)) c n))) rfl rfl (q_d_neF h1) ?_
    exact q_RT_ret rfl rfl rfl
def dz_N187 (s : q_S) (a0 : Int32) : Bool :=
  cond (decide (a0 < 160)) (false) (cond (decide (167 < a0)) (false) (true))
set_option maxHeartbeats 4000000 in
theorem dzt_N187 (s : q_S) (c n : Nat) (a0 : Int32) : q_Ca q_TB0 1 186 [.int a0] (q_kN s c n) ((q_oB (q_kN s c n)) (dz_N187 s a0)) := by
  refine q_CaT_of (φ := (q_oB (q_kN s c n))) (Nat.le_of_ble_eq_true rfl) ?_
  unfold dz_N187
  refine q_RT_seg (g2 := (4, [(0, .int a0)], [.int 160, .int a0], (q_kN s c n))) 2 (fun _ _ => rfl) ?_
  cases h1 : decide (a0 < 160) with
  | true =>
    refine q_RT_cT ?_
    refine q_RT_rsT (g2 := (18, [(0, .int a0)], [], (q_kN s c n))) rfl rfl h1 ?_
    refine q_RT_seg (g2 := (19, [(0, .int a0)], [.int 0], (q_kN s c n))) 1 (fun _ _ => rfl) ?_
    exact q_RT_ret rfl rfl rfl
  | false =>
    refine q_RT_cF ?_
    refine q_RT_rsF (g2 := (7, [(0, .int a0)], [], (q_kN s c n))) rfl rfl h1 ?_
    refine q_RT_seg (g2 := (11, [(0, .int a0)], [.int 167, .int a0], (q_kN s c n))) 2 (fun _ _ => rfl) ?_
    cases h2 : decide (167 < a0) with
    | true =>
      refine q_RT_cT ?_
      refine q_RT_rsT (g2 := (18, [(0, .int a0)], [], (q_kN s c n))) rfl rfl h2 ?_
      refine q_RT_seg (g2 := (19, [(0, .int a0)], [.int 0], (q_kN s c n))) 1 (fun _ _ => rfl) ?_
      exact q_RT_ret rfl rfl rfl
    | false =>
      refine q_RT_cF ?_
      refine q_RT_rsF (g2 := (14, [(0, .int a0)], [], (q_kN s c n))) rfl rfl h2 ?_
      refine q_RT_seg (g2 := (19, [(0, .int a0)], [.int 1], (q_kN s c n))) 2 (fun _ _ => rfl) ?_
      exact q_RT_ret rfl rfl rfl
def dz_N140_87 (s : q_S) (a1 : Int32) : Int32 :=
  (((s.2.1 23 4) + a1) &&& 4095)
set_option maxHeartbeats 4000000 in
theorem dzt_N140_87 (s : q_S) (c n : Nat) (a1 : Int32) : q_Ca q_TB0 1 139 [.ref 87, .int a1] (q_kN s c n) ((q_oP (q_kN s c n)) (dz_N140_87 s a1)) := by
  refine q_CaT_of (φ := (q_oP (q_kN s c n))) (Nat.le_of_ble_eq_true rfl) ?_
  unfold dz_N140_87
  refine q_RT_seg (g2 := (4, [(0, .ref 87), (1, .int a1)], [.int (s.2.1 23 4)], (q_kN s c n))) 2 (fun _ _ => rfl) ?_
  refine q_RT_seg (g2 := (10, [(0, .ref 87), (1, .int a1)], [.int (((s.2.1 23 4) + a1) &&& 4095)], (q_kN s c n))) 4 (fun _ _ => rfl) ?_
  exact q_RT_ret rfl rfl rfl
def dz_N161_87 (s : q_S) (a1 : Int32) : Bool :=
  cond (decide (a1 < 160)) (cond (decide ((s.2.1 23 5) &&& 64 = 0)) (false) (true)) (cond (decide (166 < a1)) (cond (decide ((s.2.1 23 5) &&& 64 = 0)) (false) (true)) (cond (decide (a1 = 160)) (cond (decide ((s.2.1 23 5) &&& 2 = 0)) (true) (false)) (cond (decide (a1 = 161)) (cond (decide ((s.2.1 23 5) &&& 2 = 0)) (false) (true)) (cond (decide (a1 = 162)) (cond (decide ((s.2.1 23 5) &&& 1 = 0)) (true) (false)) (cond (decide (a1 = 163)) (cond (decide ((s.2.1 23 5) &&& 1 = 0)) (false) (true)) (cond (decide (a1 = 164)) (cond (decide ((s.2.1 23 5) &&& 128 = 0)) (true) (false)) (cond (decide (a1 = 165)) (cond (decide ((s.2.1 23 5) &&& 128 = 0)) (false) (true)) (cond (decide ((s.2.1 23 5) &&& 64 = 0)) (true) (false)))))))))
set_option maxHeartbeats 4000000 in
theorem dzt_N161_87 (s : q_S) (c n : Nat) (a1 : Int32) : q_Ca q_TB0 1 160 [.ref 87, .int a1] (q_kN s c n) ((q_oB (q_kN s c n)) (dz_N161_87 s a1)) := by
  refine q_CaT_of (φ := (q_oB (q_kN s c n))) (Nat.le_of_ble_eq_true rfl) ?_
  unfold dz_N161_87
  refine q_RT_seg (g2 := (1, [(0, .ref 87), (1, .int a1)], [.int a1], (q_kN s c n))) 1 (fun _ _ => rfl) ?_
  cases h1 : decide (a1 < 160) with
  | true =>
    refine q_RT_cT ?_
    refine q_RT_st1 (g2 := (154, [(0, .ref 87), (1, .int a1)], [], (q_kN s c n))) rfl (if_pos (Or.inl (Int32.lt_iff_toInt_lt.mp (of_decide_eq_true h1)))) ?_
    refine q_RT_seg (g2 := (158, [(0, .ref 87), (1, .int a1)], [.int (s.2.1 23 5)], (q_kN s c n))) 2 (fun _ _ => rfl) ?_
    refine q_RT_seg (g2 := (161, [(0, .ref 87), (1, .int a1)], [.int ((s.2.1 23 5) &&& 64)], (q_kN s c n))) 2 (fun _ _ => rfl) ?_
    cases h2 : decide ((s.2.1 23 5) &&& 64 = 0) with
    | true =>
      refine q_RT_cT ?_
      refine q_RT_rsT (g2 := (168, [(0, .ref 87), (1, .int a1)], [], (q_kN s c n))) rfl rfl h2 ?_
      refine q_RT_seg (g2 := (169, [(0, .ref 87), (1, .int a1)], [.int 0], (q_kN s c n))) 1 (fun _ _ => rfl) ?_
      exact q_RT_ret rfl rfl rfl
    | false =>
      refine q_RT_cF ?_
      refine q_RT_rsF (g2 := (164, [(0, .ref 87), (1, .int a1)], [], (q_kN s c n))) rfl rfl h2 ?_
      refine q_RT_seg (g2 := (169, [(0, .ref 87), (1, .int a1)], [.int 1], (q_kN s c n))) 2 (fun _ _ => rfl) ?_
      exact q_RT_ret rfl rfl rfl
  | false =>
    refine q_RT_cF ?_
    cases h3 : decide (166 < a1) with
    | true =>
      refine q_RT_cT ?_
      refine q_RT_st1 (g2 := (154, [(0, .ref 87), (1, .int a1)], [], (q_kN s c n))) rfl (if_pos (Or.inr (Int32.lt_iff_toInt_lt.mp (of_decide_eq_true h3)))) ?_
      refine q_RT_seg (g2 := (158, [(0, .ref 87), (1, .int a1)], [.int (s.2.1 23 5)], (q_kN s c n))) 2 (fun _ _ => rfl) ?_
      refine q_RT_seg (g2 := (161, [(0, .ref 87), (1, .int a1)], [.int ((s.2.1 23 5) &&& 64)], (q_kN s c n))) 2 (fun _ _ => rfl) ?_
      cases h4 : decide ((s.2.1 23 5) &&& 64 = 0) with
      | true =>
        refine q_RT_cT ?_
        refine q_RT_rsT (g2 := (168, [(0, .ref 87), (1, .int a1)], [], (q_kN s c n))) rfl rfl h4 ?_
        refine q_RT_seg (g2 := (169, [(0, .ref 87), (1, .int a1)], [.int 0], (q_kN s c n))) 1 (fun _ _ => rfl) ?_
        exact q_RT_ret rfl rfl rfl
      | false =>
        refine q_RT_cF ?_
        refine q_RT_rsF (g2 := (164, [(0, .ref 87), (1, .int a1)], [], (q_kN s c n))) rfl rfl h4 ?_
        refine q_RT_seg (g2 := (169, [(0, .ref 87), (1, .int a1)], [.int 1], (q_kN s c n))) 2 (fun _ _ => rfl) ?_
        exact q_RT_ret rfl rfl rfl
    | false =>
      refine q_RT_cF ?_
      cases h5 : decide (a1 = 160) with
      | true =>
        refine q_RT_cT ?_
        refine q_RT_st1 (g2 := (44, [(0, .ref 87), (1, .int a1)], [], (q_kN s c n))) rfl (by rw [of_decide_eq_true h5]; rfl) ?_
        refine q_RT_seg (g2 := (48, [(0, .ref 87), (1, .int a1)], [.int (s.2.1 23 5)], (q_kN s c n))) 2 (fun _ _ => rfl) ?_
        refine q_RT_seg (g2 := (50, [(0, .ref 87), (1, .int a1)], [.int ((s.2.1 23 5) &&& 2)], (q_kN s c n))) 2 (fun _ _ => rfl) ?_
        cases h6 : decide ((s.2.1 23 5) &&& 2 = 0) with
        | true =>
          refine q_RT_cT ?_
          refine q_RT_rsF (g2 := (53, [(0, .ref 87), (1, .int a1)], [], (q_kN s c n))) rfl rfl (q_d_neT h6) ?_
          refine q_RT_seg (g2 := (58, [(0, .ref 87), (1, .int a1)], [.int 1], (q_kN s c n))) 2 (fun _ _ => rfl) ?_
          exact q_RT_ret rfl rfl rfl
        | false =>
          refine q_RT_cF ?_
          refine q_RT_rsT (g2 := (57, [(0, .ref 87), (1, .int a1)], [], (q_kN s c n))) rfl rfl (q_d_neF h6) ?_
          refine q_RT_seg (g2 := (58, [(0, .ref 87), (1, .int a1)], [.int 0], (q_kN s c n))) 1 (fun _ _ => rfl) ?_
          exact q_RT_ret rfl rfl rfl
      | false =>
        refine q_RT_cF ?_
        cases h7 : decide (a1 = 161) with
        | true =>
          refine q_RT_cT ?_
          refine q_RT_st1 (g2 := (59, [(0, .ref 87), (1, .int a1)], [], (q_kN s c n))) rfl (by rw [of_decide_eq_true h7]; rfl) ?_
          refine q_RT_seg (g2 := (63, [(0, .ref 87), (1, .int a1)], [.int (s.2.1 23 5)], (q_kN s c n))) 2 (fun _ _ => rfl) ?_
          refine q_RT_seg (g2 := (65, [(0, .ref 87), (1, .int a1)], [.int ((s.2.1 23 5) &&& 2)], (q_kN s c n))) 2 (fun _ _ => rfl) ?_
          cases h8 : decide ((s.2.1 23 5) &&& 2 = 0) with
          | true =>
            refine q_RT_cT ?_
            refine q_RT_rsT (g2 := (72, [(0, .ref 87), (1, .int a1)], [], (q_kN s c n))) rfl rfl h8 ?_
            refine q_RT_seg (g2 := (73, [(0, .ref 87), (1, .int a1)], [.int 0], (q_kN s c n))) 1 (fun _ _ => rfl) ?_
            exact q_RT_ret rfl rfl rfl
          | false =>
            refine q_RT_cF ?_
            refine q_RT_rsF (g2 := (68, [(0, .ref 87), (1, .int a1)], [], (q_kN s c n))) rfl rfl h8 ?_
            refine q_RT_seg (g2 := (73, [(0, .ref 87), (1, .int a1)], [.int 1], (q_kN s c n))) 2 (fun _ _ => rfl) ?_
            exact q_RT_ret rfl rfl rfl
        | false =>
          refine q_RT_cF ?_
          cases h9 : decide (a1 = 162) with
          | true =>
            refine q_RT_cT ?_
            refine q_RT_st1 (g2 := (74, [(0, .ref 87), (1, .int a1)], [], (q_kN s c n))) rfl (by rw [of_decide_eq_true h9]; rfl) ?_
            refine q_RT_seg (g2 := (78, [(0, .ref 87), (1, .int a1)], [.int (s.2.1 23 5)], (q_kN s c n))) 2 (fun _ _ => rfl) ?_
            refine q_RT_seg (g2 := (80, [(0, .ref 87), (1, .int a1)], [.int ((s.2.1 23 5) &&& 1)], (q_kN s c n))) 2 (fun _ _ => rfl) ?_
            cases h10 : decide ((s.2.1 23 5) &&& 1 = 0) with
            | true =>
              refine q_RT_cT ?_
              refine q_RT_rsF (g2 := (83, [(0, .ref 87), (1, .int a1)], [], (q_kN s c n))) rfl rfl (q_d_neT h10) ?_
              refine q_RT_seg (g2 := (88, [(0, .ref 87), (1, .int a1)], [.int 1], (q_kN s c n))) 2 (fun _ _ => rfl) ?_
              exact q_RT_ret rfl rfl rfl
            | false =>
              refine q_RT_cF ?_
              refine q_RT_rsT (g2 := (87, [(0, .ref 87), (1, .int a1)], [], (q_kN s c n))) rfl rfl (q_d_neF h10) ?_
              refine q_RT_seg (g2 := (88, [(0, .ref 87), (1, .int a1)], [.int 0], (q_kN s c n))) 1 (fun _ _ => rfl) ?_
              exact q_RT_ret rfl rfl rfl
          | false =>
            refine q_RT_cF ?_
            cases h11 : decide (a1 = 163) with
            | true =>
              refine q_RT_cT ?_
              refine q_RT_st1 (g2 := (89, [(0, .ref 87), (1, .int a1)], [], (q_kN s c n))) rfl (by rw [of_decide_eq_true h11]; rfl) ?_
              refine q_RT_seg (g2 := (93, [(0, .ref 87), (1, .int a1)], [.int (s.2.1 23 5)], (q_kN s c n))) 2 (fun _ _ => rfl) ?_
              refine q_RT_seg (g2 := (95, [(0, .ref 87), (1, .int a1)], [.int ((s.2.1 23 5) &&& 1)], (q_kN s c n))) 2 (fun _ _ => rfl) ?_
              cases h12 : decide ((s.2.1 23 5) &&& 1 = 0) with
              | true =>
                refine q_RT_cT ?_
                refine q_RT_rsT (g2 := (102, [(0, .ref 87), (1, .int a1)], [], (q_kN s c n))) rfl rfl h12 ?_
                refine q_RT_seg (g2 := (103, [(0, .ref 87), (1, .int a1)], [.int 0], (q_kN s c n))) 1 (fun _ _ => rfl) ?_
                exact q_RT_ret rfl rfl rfl
              | false =>
                refine q_RT_cF ?_
                refine q_RT_rsF (g2 := (98, [(0, .ref 87), (1, .int a1)], [], (q_kN s c n))) rfl rfl h12 ?_
                refine q_RT_seg (g2 := (103, [(0, .ref 87), (1, .int a1)], [.int 1], (q_kN s c n))) 2 (fun _ _ => rfl) ?_
                exact q_RT_ret rfl rfl rfl
            | false =>
              refine q_RT_cF ?_
              cases h13 : decide (a1 = 164) with
              | true =>
                refine q_RT_cT ?_
                refine q_RT_st1 (g2 := (104, [(0, .ref 87), (1, .int a1)], [], (q_kN s c n))) rfl (by rw [of_decide_eq_true h13]; rfl) ?_
                refine q_RT_seg (g2 := (108, [(0, .ref 87), (1, .int a1)], [.int (s.2.1 23 5)], (q_kN s c n))) 2 (fun _ _ => rfl) ?_
                refine q_RT_seg (g2 := (112, [(0, .ref 87), (1, .int a1)], [.int ((s.2.1 23 5) &&& 128)], (q_kN s c n))) 2 (fun _ _ => rfl) ?_
                cases h14 : decide ((s.2.1 23 5) &&& 128 = 0) with
                | true =>
                  refine q_RT_cT ?_
                  refine q_RT_rsF (g2 := (115, [(0, .ref 87), (1, .int a1)], [], (q_kN s c n))) rfl rfl (q_d_neT h14) ?_
                  refine q_RT_seg (g2 := (120, [(0, .ref 87), (1, .int a1)], [.int 1], (q_kN s c n))) 2 (fun _ _ => rfl) ?_
                  exact q_RT_ret rfl rfl rfl
                | false =>
                  refine q_RT_cF ?_
                  refine q_RT_rsT (g2 := (119, [(0, .ref 87), (1, .int a1)], [], (q_kN s c n))) rfl rfl (q_d_neF h14) ?_
                  refine q_RT_seg (g2 := (120, [(0, .ref 87), (1, .int a1)], [.int 0], (q_kN s c n))) 1 (fun _ _ => rfl) ?_
                  exact q_RT_ret rfl rfl rfl
              | false =>
                refine q_RT_cF ?_
                cases h15 : decide (a1 = 165) with
                | true =>
                  refine q_RT_cT ?_
                  refine q_RT_st1 (g2 := (121, [(0, .ref 87), (1, .int a1)], [], (q_kN s c n))) rfl (by rw [of_decide_eq_true h15]; rfl) ?_
                  refine q_RT_seg (g2 := (125, [(0, .ref 87), (1, .int a1)], [.int (s.2.1 23 5)], (q_kN s c n))) 2 (fun _ _ => rfl) ?_
                  refine q_RT_seg (g2 := (129, [(0, .ref 87), (1, .int a1)], [.int ((s.2.1 23 5) &&& 128)], (q_kN s c n))) 2 (fun _ _ => rfl) ?_
                  cases h16 : decide ((s.2.1 23 5) &&& 128 = 0) with
                  | true =>
                    refine q_RT_cT ?_
                    refine q_RT_rsT (g2 := (136, [(0, .ref 87), (1, .int a1)], [], (q_kN s c n))) rfl rfl h16 ?_
                    refine q_RT_seg (g2 := (137, [(0, .ref 87), (1, .int a1)], [.int 0], (q_kN s c n))) 1 (fun _ _ => rfl) ?_
                    exact q_RT_ret rfl rfl rfl
                  | false =>
                    refine q_RT_cF ?_
                    refine q_RT_rsF (g2 := (132, [(0, .ref 87), (1, .int a1)], [], (q_kN s c n))) rfl rfl h16 ?_
                    refine q_RT_seg (g2 := (137, [(0, .ref 87), (1, .int a1)], [.int 1], (q_kN s c n))) 2 (fun _ _ => rfl) ?_
                    exact q_RT_ret rfl rfl rfl
                | false =>
                  refine q_RT_cF ?_
                  have h17 : a1 = 166 := Int32.toInt_inj.mp (by have e0 := q_neI h5 (n := 160); have e1 := q_neI h7 (n := 161); have e2 := q_neI h9 (n := 162); have e3 := q_neI h11 (n := 163); have e4 := q_neI h13 (n := 164); have e5 := q_neI h15 (n := 165); have l1 : 160 ≤ (a1).toInt := q_lo1 h1; have l2 : (a1).toInt ≤ 166 := q_hi2 h3; show (a1).toInt = 166; omega)
                  refine q_RT_st1 (g2 := (138, [(0, .ref 87), (1, .int a1)], [], (q_kN s c n))) rfl (by rw [h17]; rfl) ?_
                  refine q_RT_seg (g2 := (142, [(0, .ref 87), (1, .int a1)], [.int (s.2.1 23 5)], (q_kN s c n))) 2 (fun _ _ => rfl) ?_
                  refine q_RT_seg (g2 := (145, [(0, .ref 87), (1, .int a1)], [.int ((s.2.1 23 5) &&& 64)], (q_kN s c n))) 2 (fun _ _ => rfl) ?_
                  cases h18 : decide ((s.2.1 23 5) &&& 64 = 0) with
                  | true =>
                    refine q_RT_cT ?_
                    refine q_RT_rsF (g2 := (148, [(0, .ref 87), (1, .int a1)], [], (q_kN s c n))) rfl rfl (q_d_neT h18) ?_
                    refine q_RT_seg (g2 := (153, [(0, .ref 87), (1, .int a1)], [.int 1], (q_kN s c n))) 2 (fun _ _ => rfl) ?_
                    exact q_RT_ret rfl rfl rfl
                  | false =>
                    refine q_RT_cF ?_
                    refine q_RT_rsT (g2 := (152, [(0, .ref 87), (1, .int a1)], [], (q_kN s c n))) rfl rfl (q_d_neF h18) ?_
                    refine q_RT_seg (g2 := (153, [(0, .ref 87), (1, .int a1)], [.int 0], (q_kN s c n))) 1 (fun _ _ => rfl) ?_
                    exact q_RT_ret rfl rfl rfl
def dz_N193 (s : q_S) (a0 : Int32) (a1 : Int32) : Int32 :=
  cond (decide (127 < a1)) ((((a0 + 2) + (a1 - 256)) &&& 4095)) ((((a0 + 2) + a1) &&& 4095))
set_option maxHeartbeats 4000000 in
theorem dzt_N193 (s : q_S) (c n : Nat) (a0 : Int32) (a1 : Int32) : q_Ca q_TB0 1 192 [.int a0, .int a1] (q_kN s c n) ((q_oP (q_kN s c n)) (dz_N193 s a0 a1)) := by
  refine q_CaT_of (φ := (q_oP (q_kN s c n))) (Nat.le_of_ble_eq_true rfl) ?_
  unfold dz_N193
  refine q_RT_seg (g2 := (6, [(0, .int a0), (1, .int a1)], [.int 127, .int a1, .int (a0 + 2)], (q_kN s c n))) 5 (fun _ _ => rfl) ?_
  cases h1 : decide (127 < a1) with
  | true =>
    refine q_RT_cT ?_
    refine q_RT_rsF (g2 := (9, [(0, .int a0), (1, .int a1)], [.int (a0 + 2)], (q_kN s c n))) rfl rfl (q_d_geT h1) ?_
    refine q_RT_seg (g2 := (23, [(0, .int a0), (1, .int a1)], [.int (((a0 + 2) + (a1 - 256)) &&& 4095)], (q_kN s c n))) 7 (fun _ _ => rfl) ?_
    exact q_RT_ret rfl rfl rfl
  | false =>
    refine q_RT_cF ?_
    refine q_RT_rsT (g2 := (17, [(0, .int a0), (1, .int a1)], [.int (a0 + 2)], (q_kN s c n))) rfl rfl (q_d_geF h1) ?_
    refine q_RT_seg (g2 := (23, [(0, .int a0), (1, .int a1)], [.int (((a0 + 2) + a1) &&& 4095)], (q_kN s c n))) 4 (fun _ _ => rfl) ?_
    exact q_RT_ret rfl rfl rfl
def dz_N139_87 (s : q_S) (a1 : Int32) : Int32 :=
  q_let (dz_N193 s (s.2.1 23 4) a1) fun r1 => r1
set_option maxHeartbeats 4000000 in
theorem dzt_N139_87 (s : q_S) (c n : Nat) (a1 : Int32) : q_Ca q_TB0 2 138 [.ref 87, .int a1] (q_kN s c n) ((q_oP (q_kN s c n)) (dz_N139_87 s a1)) := by
  refine q_CaT_of (φ := (q_oP (q_kN s c n))) (Nat.le_of_ble_eq_true rfl) ?_
  unfold dz_N139_87
  refine q_RT_seg (g2 := (4, [(0, .ref 87), (1, .int a1)], [.int (s.2.1 23 4)], (q_kN s c n))) 2 (fun _ _ => rfl) ?_
  refine q_RT_seg (g2 := (5, [(0, .ref 87), (1, .int a1)], [.int a1, .int (s.2.1 23 4)], (q_kN s c n))) 1 (fun _ _ => rfl) ?_
  refine q_RT_call (v := (some (.int (dz_N193 s (s.2.1 23 4) a1)))) (h2 := (q_kN s c n)) rfl rfl ((dzt_N193 s c n (s.2.1 23 4) a1).le (Nat.le_of_ble_eq_true rfl)) ?_
  generalize dz_N193 s (s.2.1 23 4) a1 = r1
  refine q_RT_let ?_
  show q_RT _ _ _ (8, [(0, .ref 87), (1, .int a1)], [.int r1], (q_kN s c n)) _ _
  exact q_RT_ret rfl rfl rfl
def dz_N138_87 (s : q_S) (a1 : Int32) (a2 : Int32) : Int32 :=
  q_let (dz_N161_87 s a1) fun r1 => cond r1 (q_let (dz_N139_87 s a2) fun r2 => q_let (dz_N140_87 s 2) fun r3 => cond (decide (r2 / 256 = r3 / 256)) (3) (4)) (2)
set_option maxHeartbeats 4000000 in
theorem dzt_N138_87 (s : q_S) (c n : Nat) (a1 : Int32) (a2 : Int32) : q_Ca q_TB0 3 137 [.ref 87, .int a1, .int a2] (q_kN s c n) ((q_oP (q_kN s c n)) (dz_N138_87 s a1 a2)) := by
  refine q_CaT_of (φ := (q_oP (q_kN s c n))) (Nat.le_of_ble_eq_true rfl) ?_
  unfold dz_N138_87
  refine q_RT_seg (g2 := (2, [(0, .ref 87), (1, .int a1), (2, .int a2)], [.int a1, .ref 87], (q_kN s c n))) 2 (fun _ _ => rfl) ?_
  refine q_RT_call (v := (some (.int (q_b (dz_N161_87 s a1))))) (h2 := (q_kN s c n)) rfl rfl ((dzt_N161_87 s c n a1).le (Nat.le_of_ble_eq_true rfl)) ?_
  generalize dz_N161_87 s a1 = r1
  refine q_RT_let ?_
  show q_RT _ _ _ (5, [(0, .ref 87), (1, .int a1), (2, .int a2)], [.int (q_b r1)], (q_kN s c n)) _ _
  cases h1 : r1 with
  | true =>
    refine q_RT_cT ?_
    show q_RT _ _ _ (5, [(0, .ref 87), (1, .int a1), (2, .int a2)], [.int 1], (q_kN s c n)) _ _
    refine q_RT_seg (g2 := (12, [(0, .ref 87), (1, .int a1), (2, .int a2)], [.int a2, .ref 87], (q_kN s c n))) 3 (fun _ _ => rfl) ?_
    refine q_RT_call (v := (some (.int (dz_N139_87 s a2)))) (h2 := (q_kN s c n)) rfl rfl ((dzt_N139_87 s c n a2).le (Nat.le_of_ble_eq_true rfl)) ?_
    generalize dz_N139_87 s a2 = r2
    refine q_RT_let ?_
    show q_RT _ _ _ (15, [(0, .ref 87), (1, .int a1), (2, .int a2)], [.int r2], (q_kN s c n)) _ _
    refine q_RT_seg (g2 := (21, [(0, .ref 87), (1, .int a1), (2, .int a2)], [.int 2, .ref 87, .int (r2 / 256)], (q_kN s c n))) 4 (fun _ _ => rfl) ?_
    refine q_RT_call (v := (some (.int (dz_N140_87 s 2)))) (h2 := (q_kN s c n)) rfl rfl ((dzt_N140_87 s c n 2).le (Nat.le_of_ble_eq_true rfl)) ?_
    generalize dz_N140_87 s 2 = r3
    refine q_RT_let ?_
    show q_RT _ _ _ (24, [(0, .ref 87), (1, .int a1), (2, .int a2)], [.int r3, .int (r2 / 256)], (q_kN s c n)) _ _
    refine q_RT_seg (g2 := (28, [(0, .ref 87), (1, .int a1), (2, .int a2)], [.int (r3 / 256), .int (r2 / 256)], (q_kN s c n))) 2 (fun _ _ => rfl) ?_
    cases h2 : decide (r2 / 256 = r3 / 256) with
    | true =>
      refine q_RT_cT ?_
      refine q_RT_rsF (g2 := (31, [(0, .ref 87), (1, .int a1), (2, .int a2)], [], (q_kN s c n))) rfl rfl (q_d_neT h2) ?_
      refine q_RT_seg (g2 := (36, [(0, .ref 87), (1, .int a1), (2, .int a2)], [.int 3], (q_kN s c n))) 2 (fun _ _ => rfl) ?_
      exact q_RT_ret rfl rfl rfl
    | false =>
      refine q_RT_cF ?_
      refine q_RT_rsT (g2 := (35, [(0, .ref 87), (1, .int a1), (2, .int a2)], [], (q_kN s c n))) rfl rfl (q_d_neF h2) ?_
      refine q_RT_seg (g2 := (36, [(0, .ref 87), (1, .int a1), (2, .int a2)], [.int 4], (q_kN s c n))) 1 (fun _ _ => rfl) ?_
      exact q_RT_ret rfl rfl rfl
  | false =>
    refine q_RT_cF ?_
    show q_RT _ _ _ (5, [(0, .ref 87), (1, .int a1), (2, .int a2)], [.int 0], (q_kN s c n)) _ _
    refine q_RT_seg (g2 := (9, [(0, .ref 87), (1, .int a1), (2, .int a2)], [.int 2], (q_kN s c n))) 2 (fun _ _ => rfl) ?_
    exact q_RT_ret rfl rfl rfl
def dz_N192 (s : q_S) (a0 : Int32) : Int32 :=
  cond (decide (a0 - 128 < 0)) (2) (cond (decide (a0 - 128 < 32)) (((fun j => q_o3.getD j 0) ((a0 - 128).toNatClampNeg))) (2))
set_option maxHeartbeats 4000000 in
theorem dzt_N192 (s : q_S) (c n : Nat) (a0 : Int32) : q_Ca q_TB0 1 191 [.int a0] (q_kN s c n) ((q_oP (q_kN s c n)) (dz_N192 s a0)) := by
  refine q_CaT_of (φ := (q_oP (q_kN s c n))) (Nat.le_of_ble_eq_true rfl) ?_
  unfold dz_N192
  refine q_RT_seg (g2 := (7, [(1, .int (a0 - 128)), (0, .int a0)], [.int (a0 - 128)], (q_kN s c n))) 5 (fun _ _ => rfl) ?_
  cases h1 : decide (a0 - 128 < 0) with
  | true =>
    refine q_RT_cT ?_
    refine q_RT_rsT (g2 := (26, [(1, .int (a0 - 128)), (0, .int a0)], [], (q_kN s c n))) rfl rfl h1 ?_
    refine q_RT_seg (g2 := (27, [(1, .int (a0 - 128)), (0, .int a0)], [.int 2], (q_kN s c n))) 1 (fun _ _ => rfl) ?_
    exact q_RT_ret rfl rfl rfl
  | false =>
    refine q_RT_cF ?_
    refine q_RT_rsF (g2 := (10, [(1, .int (a0 - 128)), (0, .int a0)], [], (q_kN s c n))) rfl rfl h1 ?_
    refine q_RT_seg (g2 := (15, [(1, .int (a0 - 128)), (0, .int a0)], [.int 32, .int (a0 - 128)], (q_kN s c n))) 3 (fun _ _ => rfl) ?_
    cases h2 : decide (a0 - 128 < 32) with
    | true =>
      refine q_RT_cT ?_
      refine q_RT_rsF (g2 := (18, [(1, .int (a0 - 128)), (0, .int a0)], [], (q_kN s c n))) rfl rfl (q_d_geT h2) ?_
      refine q_RT_seg (g2 := (22, [(1, .int (a0 - 128)), (0, .int a0)], [.int (a0 - 128), .ref 3], (q_kN s c n))) 2 (fun _ _ => rfl) ?_
      refine q_RT_rsT (g2 := (23, [(1, .int (a0 - 128)), (0, .int a0)], [.int ((fun j => q_o3.getD j 0) ((a0 - 128).toNatClampNeg))], (q_kN s c n))) rfl rfl (q_in_bd (x := a0 - 128) (n := 32) (U := 31) (L := 0) (q_lo1 h1) (q_hi1 h2)) ?_
      refine q_RT_seg (g2 := (27, [(1, .int (a0 - 128)), (0, .int a0)], [.int ((fun j => q_o3.getD j 0) ((a0 - 128).toNatClampNeg))], (q_kN s c n))) 1 (fun _ _ => rfl) ?_
      exact q_RT_ret rfl rfl rfl
    | false =>
      refine q_RT_cF ?_
      refine q_RT_rsT (g2 := (26, [(1, .int (a0 - 128)), (0, .int a0)], [], (q_kN s c n))) rfl rfl (q_d_geF h2) ?_
      refine q_RT_seg (g2 := (27, [(1, .int (a0 - 128)), (0, .int a0)], [.int 2], (q_kN s c n))) 1 (fun _ _ => rfl) ?_
      exact q_RT_ret rfl rfl rfl
def dz_N191 (s : q_S) (a0 : Int32) : Int32 :=
  ((fun j => q_o2.getD j 0) ((a0 &&& 7).toNatClampNeg))
set_option maxHeartbeats 4000000 in
theorem dzt_N191 (s : q_S) (c n : Nat) (a0 : Int32) : q_Ca q_TB0 1 190 [.int a0] (q_kN s c n) ((q_oP (q_kN s c n)) (dz_N191 s a0)) := by
  refine q_CaT_of (φ := (q_oP (q_kN s c n))) (Nat.le_of_ble_eq_true rfl) ?_
  unfold dz_N191
  refine q_RT_seg (g2 := (7, [(0, .int a0)], [.int (a0 &&& 7), .ref 2], (q_kN s c n))) 4 (fun _ _ => rfl) ?_
  refine q_RT_rsT (g2 := (8, [(0, .int a0)], [.int ((fun j => q_o2.getD j 0) ((a0 &&& 7).toNatClampNeg))], (q_kN s c n))) rfl rfl (q_in_bd (x := a0 &&& 7) (n := 8) (U := 7) (L := 0) (q_and_lo a0 7) (q_and_hi a0 7 7)) ?_
  exact q_RT_ret rfl rfl rfl
def dz_N189 (s : q_S) (a0 : Int32) : Bool :=
  cond (decide (a0 = 14)) (true) (cond (decide (a0 = 15)) (true) (cond (decide (a0 = 18)) (true) (cond (decide (a0 = 19)) (true) (false))))
set_option maxHeartbeats 4000000 in
theorem dzt_N189 (s : q_S) (c n : Nat) (a0 : Int32) : q_Ca q_TB0 1 188 [.int a0] (q_kN s c n) ((q_oB (q_kN s c n)) (dz_N189 s a0)) := by
  refine q_CaT_of (φ := (q_oB (q_kN s c n))) (Nat.le_of_ble_eq_true rfl) ?_
  unfold dz_N189
  refine q_RT_seg (g2 := (3, [(0, .int a0)], [.int 14, .int a0], (q_kN s c n))) 2 (fun _ _ => rfl) ?_
  cases h1 : decide (a0 = 14) with
  | true =>
    refine q_RT_cT ?_
    refine q_RT_rsT (g2 := (24, [(0, .int a0)], [], (q_kN s c n))) rfl rfl h1 ?_
    refine q_RT_seg (g2 := (29, [(0, .int a0)], [.int 1], (q_kN s c n))) 2 (fun _ _ => rfl) ?_
    exact q_RT_ret rfl rfl rfl
  | false =>
    refine q_RT_cF ?_
    refine q_RT_rsF (g2 := (6, [(0, .int a0)], [], (q_kN s c n))) rfl rfl h1 ?_
    refine q_RT_seg (g2 := (9, [(0, .int a0)], [.int 15, .int a0], (q_kN s c n))) 2 (fun _ _ => rfl) ?_
    cases h2 : decide (a0 = 15) with
    | true =>
      refine q_RT_cT ?_
      refine q_RT_rsT (g2 := (24, [(0, .int a0)], [], (q_kN s c n))) rfl rfl h2 ?_
      refine q_RT_seg (g2 := (29, [(0, .int a0)], [.int 1], (q_kN s c n))) 2 (fun _ _ => rfl) ?_
      exact q_RT_ret rfl rfl rfl
    | false =>
      refine q_RT_cF ?_
      refine q_RT_rsF (g2 := (12, [(0, .int a0)], [], (q_kN s c n))) rfl rfl h2 ?_
      refine q_RT_seg (g2 := (15, [(0, .int a0)], [.int 18, .int a0], (q_kN s c n))) 2 (fun _ _ => rfl) ?_
      cases h3 : decide (a0 = 18) with
      | true =>
        refine q_RT_cT ?_
        refine q_RT_rsT (g2 := (24, [(0, .int a0)], [], (q_kN s c n))) rfl rfl h3 ?_
        refine q_RT_seg (g2 := (29, [(0, .int a0)], [.int 1], (q_kN s c n))) 2 (fun _ _ => rfl) ?_
        exact q_RT_ret rfl rfl rfl
      | false =>
        refine q_RT_cF ?_
        refine q_RT_rsF (g2 := (18, [(0, .int a0)], [], (q_kN s c n))) rfl rfl h3 ?_
        refine q_RT_seg (g2 := (21, [(0, .int a0)], [.int 19, .int a0], (q_kN s c n))) 2 (fun _ _ => rfl) ?_
        cases h4 : decide (a0 = 19) with
        | true =>
          refine q_RT_cT ?_
          refine q_RT_rsF (g2 := (24, [(0, .int a0)], [], (q_kN s c n))) rfl rfl (q_d_neT h4) ?_
          refine q_RT_seg (g2 := (29, [(0, .int a0)], [.int 1], (q_kN s c n))) 2 (fun _ _ => rfl) ?_
          exact q_RT_ret rfl rfl rfl
        | false =>
          refine q_RT_cF ?_
          refine q_RT_rsT (g2 := (28, [(0, .int a0)], [], (q_kN s c n))) rfl rfl (q_d_neF h4) ?_
          refine q_RT_seg (g2 := (29, [(0, .int a0)], [.int 0], (q_kN s c n))) 1 (fun _ _ => rfl) ?_
          exact q_RT_ret rfl rfl rfl
def dz_N145_87_65 (s : q_S) (a2 : Int32) : Option (Int32) :=
  q_let (dz_N140_87 s 1) fun r3 => (dz_N90_65 s r3).bind fun r4 => cond (decide (a2 = 1)) (some r4) (cond (decide (a2 = 2)) (some ((r4 + (s.2.1 23 1)) &&& 255)) (cond (decide (a2 < 6)) (q_let (dz_N140_87 s 2) fun r5 => (dz_N90_65 s r5).bind fun r6 => some ((r4 + (256 * r6)) &&& 4095)) (cond (decide (a2 = 7)) ((dz_N90_65 s ((r4 + (s.2.1 23 1)) &&& 255)).bind fun r7 => (dz_N90_65 s ((((r4 + (s.2.1 23 1)) &&& 255) + 1) &&& 255)).bind fun r8 => some ((r7 + (256 * r8)) &&& 4095)) ((dz_N90_65 s r4).bind fun r9 => (dz_N90_65 s ((r4 + 1) &&& 255)).bind fun r10 => some ((r9 + (256 * r10)) &&& 4095)))))
set_option maxHeartbeats 4000000 in
theorem dzt_N145_87_65 (s : q_S) (c n : Nat) (a2 : Int32) (x : Int32) (h : dz_N145_87_65 s a2 = some x) : q_Ca q_TB0 3 144 [.ref 87, .ref 65, .int a2] (q_kN s c n) ((q_oP (q_kN s c n)) x) := by
  refine q_CaP_of (φ := (q_oP (q_kN s c n))) (Nat.le_of_ble_eq_true rfl) ?_ h
  clear h
  unfold dz_N145_87_65
  refine q_RP_seg (g2 := (3, [(0, .ref 87), (1, .ref 65), (2, .int a2)], [.int 1, .ref 87, .ref 65], (q_kN s c n))) 3 (fun _ _ => rfl) ?_
  refine q_RP_call (v := (some (.int (dz_N140_87 s 1)))) (h2 := (q_kN s c n)) rfl rfl ((dzt_N140_87 s c n 1).le (Nat.le_of_ble_eq_true rfl)) ?_
  generalize dz_N140_87 s 1 = r3
  refine q_RP_let ?_
  show q_RP _ _ _ (6, [(0, .ref 87), (1, .ref 65), (2, .int a2)], [.int r3, .ref 65], (q_kN s c n)) _ _
  refine q_RP_bd fun r4 er4 => ?_
  refine q_RP_call (v := (some (.int r4))) (h2 := (q_kN s c n)) rfl rfl ((dzt_N90_65 s c n r3 r4 er4).le (Nat.le_of_ble_eq_true rfl)) ?_
  show q_RP _ _ _ (9, [(0, .ref 87), (1, .ref 65), (2, .int a2)], [.int r4], (q_kN s c n)) _ _
  refine q_RP_seg (g2 := (12, [(3, .int r4), (0, .ref 87), (1, .ref 65), (2, .int a2)], [.int 1, .int a2], (q_kN s c n))) 3 (fun _ _ => rfl) ?_
  cases h1 : decide (a2 = 1) with
  | true =>
    refine q_RP_cT ?_
    refine q_RP_rsF (g2 := (15, [(3, .int r4), (0, .ref 87), (1, .ref 65), (2, .int a2)], [], (q_kN s c n))) rfl rfl (q_d_neT h1) ?_
    refine q_RP_seg (g2 := (16, [(3, .int r4), (0, .ref 87), (1, .ref 65), (2, .int a2)], [.int r4], (q_kN s c n))) 1 (fun _ _ => rfl) ?_
    exact q_RP_ret rfl rfl rfl
  | false =>
    refine q_RP_cF ?_
    refine q_RP_rsT (g2 := (17, [(3, .int r4), (0, .ref 87), (1, .ref 65), (2, .int a2)], [], (q_kN s c n))) rfl rfl (q_d_neF h1) ?_
    refine q_RP_seg (g2 := (19, [(3, .int r4), (0, .ref 87), (1, .ref 65), (2, .int a2)], [.int 2, .int a2], (q_kN s c n))) 2 (fun _ _ => rfl) ?_
    cases h2 : decide (a2 = 2) with
    | true =>
      refine q_RP_cT ?_
      refine q_RP_rsF (g2 := (22, [(3, .int r4), (0, .ref 87), (1, .ref 65), (2, .int a2)], [], (q_kN s c n))) rfl rfl (q_d_neT h2) ?_
      refine q_RP_seg (g2 := (27, [(3, .int r4), (0, .ref 87), (1, .ref 65), (2, .int a2)], [.int (s.2.1 23 1), .int r4], (q_kN s c n))) 3 (fun _ _ => rfl) ?_
      refine q_RP_seg (g2 := (32, [(3, .int r4), (0, .ref 87), (1, .ref 65), (2, .int a2)], [.int ((r4 + (s.2.1 23 1)) &&& 255)], (q_kN s c n))) 3 (fun _ _ => rfl) ?_
      exact q_RP_ret rfl rfl rfl
    | false =>
      refine q_RP_cF ?_
      refine q_RP_rsT (g2 := (33, [(3, .int r4), (0, .ref 87), (1, .ref 65), (2, .int a2)], [], (q_kN s c n))) rfl rfl (q_d_neF h2) ?_
      refine q_RP_seg (g2 := (36, [(3, .int r4), (0, .ref 87), (1, .ref 65), (2, .int a2)], [.int 6, .int a2], (q_kN s c n))) 2 (fun _ _ => rfl) ?_
      cases h3 : decide (a2 < 6) with
      | true =>
        refine q_RP_cT ?_
        refine q_RP_rsF (g2 := (39, [(3, .int r4), (0, .ref 87), (1, .ref 65), (2, .int a2)], [], (q_kN s c n))) rfl rfl (q_d_geT h3) ?_
        refine q_RP_seg (g2 := (46, [(3, .int r4), (0, .ref 87), (1, .ref 65), (2, .int a2)], [.int 2, .ref 87, .ref 65, .int 256, .int r4], (q_kN s c n))) 5 (fun _ _ => rfl) ?_
        refine q_RP_call (v := (some (.int (dz_N140_87 s 2)))) (h2 := (q_kN s c n)) rfl rfl ((dzt_N140_87 s c n 2).le (Nat.le_of_ble_eq_true rfl)) ?_
        generalize dz_N140_87 s 2 = r5
        refine q_RP_let ?_
        show q_RP _ _ _ (49, [(3, .int r4), (0, .ref 87), (1, .ref 65), (2, .int a2)], [.int r5, .ref 65, .int 256, .int r4], (q_kN s c n)) _ _
        refine q_RP_bd fun r6 er6 => ?_
        refine q_RP_call (v := (some (.int r6))) (h2 := (q_kN s c n)) rfl rfl ((dzt_N90_65 s c n r5 r6 er6).le (Nat.le_of_ble_eq_true rfl)) ?_
        show q_RP _ _ _ (52, [(3, .int r4), (0, .ref 87), (1, .ref 65), (2, .int a2)], [.int r6, .int 256, .int r4], (q_kN s c n)) _ _
        refine q_RP_seg (g2 := (58, [(3, .int r4), (0, .ref 87), (1, .ref 65), (2, .int a2)], [.int ((r4 + (256 * r6)) &&& 4095)], (q_kN s c n))) 4 (fun _ _ => rfl) ?_
        exact q_RP_ret rfl rfl rfl
      | false =>
        refine q_RP_cF ?_
        refine q_RP_rsT (g2 := (59, [(3, .int r4), (0, .ref 87), (1, .ref 65), (2, .int a2)], [], (q_kN s c n))) rfl rfl (q_d_geF h3) ?_
        refine q_RP_seg (g2 := (62, [(3, .int r4), (0, .ref 87), (1, .ref 65), (2, .int a2)], [.int 7, .int a2], (q_kN s c n))) 2 (fun _ _ => rfl) ?_
        cases h4 : decide (a2 = 7) with
        | true =>
          refine q_RP_cT ?_
          refine q_RP_rsF (g2 := (65, [(3, .int r4), (0, .ref 87), (1, .ref 65), (2, .int a2)], [], (q_kN s c n))) rfl rfl (q_d_neT h4) ?_
          refine q_RP_seg (g2 := (70, [(3, .int r4), (0, .ref 87), (1, .ref 65), (2, .int a2)], [.int (s.2.1 23 1), .int r4], (q_kN s c n))) 3 (fun _ _ => rfl) ?_
          refine q_RP_seg (g2 := (84, [(4, .int ((r4 + (s.2.1 23 1)) &&& 255)), (3, .int r4), (0, .ref 87), (1, .ref 65), (2, .int a2)], [.int ((r4 + (s.2.1 23 1)) &&& 255), .ref 65], (q_kN s c n))) 7 (fun _ _ => rfl) ?_
          refine q_RP_bd fun r7 er7 => ?_
          refine q_RP_call (v := (some (.int r7))) (h2 := (q_kN s c n)) rfl rfl ((dzt_N90_65 s c n ((r4 + (s.2.1 23 1)) &&& 255) r7 er7).le (Nat.le_of_ble_eq_true rfl)) ?_
          show q_RP _ _ _ (87, [(4, .int ((r4 + (s.2.1 23 1)) &&& 255)), (3, .int r4), (0, .ref 87), (1, .ref 65), (2, .int a2)], [.int r7], (q_kN s c n)) _ _
          refine q_RP_seg (g2 := (99, [(4, .int ((r4 + (s.2.1 23 1)) &&& 255)), (3, .int r4), (0, .ref 87), (1, .ref 65), (2, .int a2)], [.int ((((r4 + (s.2.1 23 1)) &&& 255) + 1) &&& 255), .ref 65, .int 256, .int r7], (q_kN s c n))) 7 (fun _ _ => rfl) ?_
          refine q_RP_bd fun r8 er8 => ?_
          refine q_RP_call (v := (some (.int r8))) (h2 := (q_kN s c n)) rfl rfl ((dzt_N90_65 s c n ((((r4 + (s.2.1 23 1)) &&& 255) + 1) &&& 255) r8 er8).le (Nat.le_of_ble_eq_true rfl)) ?_
          show q_RP _ _ _ (102, [(4, .int ((r4 + (s.2.1 23 1)) &&& 255)), (3, .int r4), (0, .ref 87), (1, .ref 65), (2, .int a2)], [.int r8, .int 256, .int r7], (q_kN s c n)) _ _
          refine q_RP_seg (g2 := (108, [(4, .int ((r4 + (s.2.1 23 1)) &&& 255)), (3, .int r4), (0, .ref 87), (1, .ref 65), (2, .int a2)], [.int ((r7 + (256 * r8)) &&& 4095)], (q_kN s c n))) 4 (fun _ _ => rfl) ?_
          exact q_RP_ret rfl rfl rfl
        | false =>
          refine q_RP_cF ?_
          refine q_RP_rsT (g2 := (78, [(3, .int r4), (0, .ref 87), (1, .ref 65), (2, .int a2)], [], (q_kN s c n))) rfl rfl (q_d_neF h4) ?_
          refine q_RP_seg (g2 := (84, [(4, .int r4), (3, .int r4), (0, .ref 87), (1, .ref 65), (2, .int a2)], [.int r4, .ref 65], (q_kN s c n))) 4 (fun _ _ => rfl) ?_
          refine q_RP_bd fun r9 er9 => ?_
          refine q_RP_call (v := (some (.int r9))) (h2 := (q_kN s c n)) rfl rfl ((dzt_N90_65 s c n r4 r9 er9).le (Nat.le_of_ble_eq_true rfl)) ?_
          show q_RP _ _ _ (87, [(4, .int r4), (3, .int r4), (0, .ref 87), (1, .ref 65), (2, .int a2)], [.int r9], (q_kN s c n)) _ _
          refine q_RP_seg (g2 := (99, [(4, .int r4), (3, .int r4), (0, .ref 87), (1, .ref 65), (2, .int a2)], [.int ((r4 + 1) &&& 255), .ref 65, .int 256, .int r9], (q_kN s c n))) 7 (fun _ _ => rfl) ?_
          refine q_RP_bd fun r10 er10 => ?_
          refine q_RP_call (v := (some (.int r10))) (h2 := (q_kN s c n)) rfl rfl ((dzt_N90_65 s c n ((r4 + 1) &&& 255) r10 er10).le (Nat.le_of_ble_eq_true rfl)) ?_
          show q_RP _ _ _ (102, [(4, .int r4), (3, .int r4), (0, .ref 87), (1, .ref 65), (2, .int a2)], [.int r10, .int 256, .int r9], (q_kN s c n)) _ _
          refine q_RP_seg (g2 := (108, [(4, .int r4), (3, .int r4), (0, .ref 87), (1, .ref 65), (2, .int a2)], [.int ((r9 + (256 * r10)) &&& 4095)], (q_kN s c n))) 4 (fun _ _ => rfl) ?_
          exact q_RP_ret rfl rfl rfl
def dz_N143_87 (s : q_S) (a1 : Int32) : Int32 :=
  cond (decide (a1 = 4)) ((s.2.1 23 1)) (cond (decide (a1 = 5)) ((s.2.1 23 2)) (cond (decide (a1 = 6)) ((s.2.1 23 2)) (0)))
set_option maxHeartbeats 4000000 in
theorem dzt_N143_87 (s : q_S) (c n : Nat) (a1 : Int32) : q_Ca q_TB0 1 142 [.ref 87, .int a1] (q_kN s c n) ((q_oP (q_kN s c n)) (dz_N143_87 s a1)) := by
  refine q_CaT_of (φ := (q_oP (q_kN s c n))) (Nat.le_of_ble_eq_true rfl) ?_
  unfold dz_N143_87
  refine q_RT_seg (g2 := (2, [(0, .ref 87), (1, .int a1)], [.int 4, .int a1], (q_kN s c n))) 2 (fun _ _ => rfl) ?_
  cases h1 : decide (a1 = 4) with
  | true =>
    refine q_RT_cT ?_
    refine q_RT_rsF (g2 := (5, [(0, .ref 87), (1, .int a1)], [], (q_kN s c n))) rfl rfl (q_d_neT h1) ?_
    refine q_RT_seg (g2 := (9, [(0, .ref 87), (1, .int a1)], [.int (s.2.1 23 1)], (q_kN s c n))) 2 (fun _ _ => rfl) ?_
    exact q_RT_ret rfl rfl rfl
  | false =>
    refine q_RT_cF ?_
    refine q_RT_rsT (g2 := (10, [(0, .ref 87), (1, .int a1)], [], (q_kN s c n))) rfl rfl (q_d_neF h1) ?_
    refine q_RT_seg (g2 := (12, [(0, .ref 87), (1, .int a1)], [.int 5, .int a1], (q_kN s c n))) 2 (fun _ _ => rfl) ?_
    cases h2 : decide (a1 = 5) with
    | true =>
      refine q_RT_cT ?_
      refine q_RT_rsT (g2 := (21, [(0, .ref 87), (1, .int a1)], [], (q_kN s c n))) rfl rfl h2 ?_
      refine q_RT_seg (g2 := (25, [(0, .ref 87), (1, .int a1)], [.int (s.2.1 23 2)], (q_kN s c n))) 2 (fun _ _ => rfl) ?_
      refine q_RT_seg (g2 := (29, [(0, .ref 87), (1, .int a1)], [.int (s.2.1 23 2)], (q_kN s c n))) 1 (fun _ _ => rfl) ?_
      exact q_RT_ret rfl rfl rfl
    | false =>
      refine q_RT_cF ?_
      refine q_RT_rsF (g2 := (15, [(0, .ref 87), (1, .int a1)], [], (q_kN s c n))) rfl rfl h2 ?_
      refine q_RT_seg (g2 := (18, [(0, .ref 87), (1, .int a1)], [.int 6, .int a1], (q_kN s c n))) 2 (fun _ _ => rfl) ?_
      cases h3 : decide (a1 = 6) with
      | true =>
        refine q_RT_cT ?_
        refine q_RT_rsF (g2 := (21, [(0, .ref 87), (1, .int a1)], [], (q_kN s c n))) rfl rfl (q_d_neT h3) ?_
        refine q_RT_seg (g2 := (25, [(0, .ref 87), (1, .int a1)], [.int (s.2.1 23 2)], (q_kN s c n))) 2 (fun _ _ => rfl) ?_
        refine q_RT_seg (g2 := (29, [(0, .ref 87), (1, .int a1)], [.int (s.2.1 23 2)], (q_kN s c n))) 1 (fun _ _ => rfl) ?_
        exact q_RT_ret rfl rfl rfl
      | false =>
        refine q_RT_cF ?_
        refine q_RT_rsT (g2 := (28, [(0, .ref 87), (1, .int a1)], [], (q_kN s c n))) rfl rfl (q_d_neF h3) ?_
        refine q_RT_seg (g2 := (29, [(0, .ref 87), (1, .int a1)], [.int 0], (q_kN s c n))) 1 (fun _ _ => rfl) ?_
        exact q_RT_ret rfl rfl rfl
def dz_N188 (s : q_S) (a0 : Int32) : Bool :=
  cond (decide (a0 < 3)) (cond (decide (a0 = 17)) (true) (q_let (dz_N189 s a0) fun r1 => cond r1 (true) (false))) (cond (decide (5 < a0)) (cond (decide (a0 = 17)) (true) (q_let (dz_N189 s a0) fun r2 => cond r2 (true) (false))) (true))
set_option maxHeartbeats 4000000 in
theorem dzt_N188 (s : q_S) (c n : Nat) (a0 : Int32) : q_Ca q_TB0 2 187 [.int a0] (q_kN s c n) ((q_oB (q_kN s c n)) (dz_N188 s a0)) := by
  refine q_CaT_of (φ := (q_oB (q_kN s c n))) (Nat.le_of_ble_eq_true rfl) ?_
  unfold dz_N188
  refine q_RT_seg (g2 := (2, [(0, .int a0)], [.int 3, .int a0], (q_kN s c n))) 2 (fun _ _ => rfl) ?_
  cases h1 : decide (a0 < 3) with
  | true =>
    refine q_RT_cT ?_
    refine q_RT_rsT (g2 := (10, [(0, .int a0)], [], (q_kN s c n))) rfl rfl h1 ?_
    refine q_RT_seg (g2 := (13, [(0, .int a0)], [.int 17, .int a0], (q_kN s c n))) 2 (fun _ _ => rfl) ?_
    cases h2 : decide (a0 = 17) with
    | true =>
      refine q_RT_cT ?_
      refine q_RT_rsT (g2 := (23, [(0, .int a0)], [], (q_kN s c n))) rfl rfl h2 ?_
      refine q_RT_seg (g2 := (28, [(0, .int a0)], [.int 1], (q_kN s c n))) 2 (fun _ _ => rfl) ?_
      exact q_RT_ret rfl rfl rfl
    | false =>
      refine q_RT_cF ?_
      refine q_RT_rsF (g2 := (16, [(0, .int a0)], [], (q_kN s c n))) rfl rfl h2 ?_
      refine q_RT_seg (g2 := (17, [(0, .int a0)], [.int a0], (q_kN s c n))) 1 (fun _ _ => rfl) ?_
      refine q_RT_call (v := (some (.int (q_b (dz_N189 s a0))))) (h2 := (q_kN s c n)) rfl rfl ((dzt_N189 s c n a0).le (Nat.le_of_ble_eq_true rfl)) ?_
      generalize dz_N189 s a0 = r1
      refine q_RT_let ?_
      show q_RT _ _ _ (20, [(0, .int a0)], [.int (q_b r1)], (q_kN s c n)) _ _
      cases h3 : r1 with
      | true =>
        refine q_RT_cT ?_
        show q_RT _ _ _ (20, [(0, .int a0)], [.int 1], (q_kN s c n)) _ _
        refine q_RT_seg (g2 := (28, [(0, .int a0)], [.int 1], (q_kN s c n))) 3 (fun _ _ => rfl) ?_
        exact q_RT_ret rfl rfl rfl
      | false =>
        refine q_RT_cF ?_
        show q_RT _ _ _ (20, [(0, .int a0)], [.int 0], (q_kN s c n)) _ _
        refine q_RT_seg (g2 := (28, [(0, .int a0)], [.int 0], (q_kN s c n))) 2 (fun _ _ => rfl) ?_
        exact q_RT_ret rfl rfl rfl
  | false =>
    refine q_RT_cF ?_
    refine q_RT_rsF (g2 := (5, [(0, .int a0)], [], (q_kN s c n))) rfl rfl h1 ?_
    refine q_RT_seg (g2 := (7, [(0, .int a0)], [.int 5, .int a0], (q_kN s c n))) 2 (fun _ _ => rfl) ?_
    cases h4 : decide (5 < a0) with
    | true =>
      refine q_RT_cT ?_
      refine q_RT_rsF (g2 := (10, [(0, .int a0)], [], (q_kN s c n))) rfl rfl (q_d_geT h4) ?_
      refine q_RT_seg (g2 := (13, [(0, .int a0)], [.int 17, .int a0], (q_kN s c n))) 2 (fun _ _ => rfl) ?_
      cases h5 : decide (a0 = 17) with
      | true =>
        refine q_RT_cT ?_
        refine q_RT_rsT (g2 := (23, [(0, .int a0)], [], (q_kN s c n))) rfl rfl h5 ?_
        refine q_RT_seg (g2 := (28, [(0, .int a0)], [.int 1], (q_kN s c n))) 2 (fun _ _ => rfl) ?_
        exact q_RT_ret rfl rfl rfl
      | false =>
        refine q_RT_cF ?_
        refine q_RT_rsF (g2 := (16, [(0, .int a0)], [], (q_kN s c n))) rfl rfl h5 ?_
        refine q_RT_seg (g2 := (17, [(0, .int a0)], [.int a0], (q_kN s c n))) 1 (fun _ _ => rfl) ?_
        refine q_RT_call (v := (some (.int (q_b (dz_N189 s a0))))) (h2 := (q_kN s c n)) rfl rfl ((dzt_N189 s c n a0).le (Nat.le_of_ble_eq_true rfl)) ?_
        generalize dz_N189 s a0 = r2
        refine q_RT_let ?_
        show q_RT _ _ _ (20, [(0, .int a0)], [.int (q_b r2)], (q_kN s c n)) _ _
        cases h6 : r2 with
        | true =>
          refine q_RT_cT ?_
          show q_RT _ _ _ (20, [(0, .int a0)], [.int 1], (q_kN s c n)) _ _
          refine q_RT_seg (g2 := (28, [(0, .int a0)], [.int 1], (q_kN s c n))) 3 (fun _ _ => rfl) ?_
          exact q_RT_ret rfl rfl rfl
        | false =>
          refine q_RT_cF ?_
          show q_RT _ _ _ (20, [(0, .int a0)], [.int 0], (q_kN s c n)) _ _
          refine q_RT_seg (g2 := (28, [(0, .int a0)], [.int 0], (q_kN s c n))) 2 (fun _ _ => rfl) ?_
          exact q_RT_ret rfl rfl rfl
    | false =>
      refine q_RT_cF ?_
      refine q_RT_rsT (g2 := (23, [(0, .int a0)], [], (q_kN s c n))) rfl rfl (q_d_geF h4) ?_
      refine q_RT_seg (g2 := (28, [(0, .int a0)], [.int 1], (q_kN s c n))) 2 (fun _ _ => rfl) ?_
      exact q_RT_ret rfl rfl rfl
def dz_N137_87_65_127 (s : q_S) (v3 : Int32) (v4 : Int32) (v5 : Int32) : Option (Int32) :=
  q_let (dz_N191 s v4) fun r9 => cond (decide (v5 = 0)) (q_let (dz_N189 s v3) fun r10 => cond r10 (some ((r9 + 0) + 2)) (some ((r9 + 0) + 0))) (q_let (dz_N189 s v3) fun r11 => cond r11 (some ((r9 + 1) + 2)) (some ((r9 + 1) + 0)))
set_option maxHeartbeats 4000000 in
theorem dzt_N137_87_65_127 (c n : Nat) (s : q_S) (v3 : Int32) (v4 : Int32) (v5 : Int32) : q_RP q_TB0 3 136 (127, [(3, .int v3), (4, .int v4), (5, .int v5)], [], (q_kN s c n)) (q_oP (q_kN s c n)) (dz_N137_87_65_127 s v3 v4 v5) := by
  unfold dz_N137_87_65_127
  refine q_RP_seg (g2 := (129, [(3, .int v3), (4, .int v4), (5, .int v5)], [.int v4], (q_kN s c n))) 1 (fun _ _ => rfl) ?_
  refine q_RP_call (v := (some (.int (dz_N191 s v4)))) (h2 := (q_kN s c n)) rfl rfl ((dzt_N191 s c n v4).le (Nat.le_of_ble_eq_true rfl)) ?_
  generalize dz_N191 s v4 = r9
  refine q_RP_let ?_
  show q_RP _ _ _ (132, [(3, .int v3), (4, .int v4), (5, .int v5)], [.int r9], (q_kN s c n)) _ _
  refine q_RP_seg (g2 := (134, [(3, .int v3), (4, .int v4), (5, .int v5)], [.int v5, .int r9], (q_kN s c n))) 1 (fun _ _ => rfl) ?_
  cases h5 : decide (v5 = 0) with
  | true =>
    refine q_RP_cT ?_
    refine q_RP_rsT (g2 := (141, [(3, .int v3), (4, .int v4), (5, .int v5)], [.int r9], (q_kN s c n))) rfl rfl h5 ?_
    refine q_RP_seg (g2 := (144, [(3, .int v3), (4, .int v4), (5, .int v5)], [.int v3, .int (r9 + 0)], (q_kN s c n))) 3 (fun _ _ => rfl) ?_
    refine q_RP_call (v := (some (.int (q_b (dz_N189 s v3))))) (h2 := (q_kN s c n)) rfl rfl ((dzt_N189 s c n v3).le (Nat.le_of_ble_eq_true rfl)) ?_
    generalize dz_N189 s v3 = r10
    refine q_RP_let ?_
    show q_RP _ _ _ (147, [(3, .int v3), (4, .int v4), (5, .int v5)], [.int (q_b r10), .int (r9 + 0)], (q_kN s c n)) _ _
    cases h6 : r10 with
    | true =>
      refine q_RP_cT ?_
      show q_RP _ _ _ (147, [(3, .int v3), (4, .int v4), (5, .int v5)], [.int 1, .int (r9 + 0)], (q_kN s c n)) _ _
      refine q_RP_seg (g2 := (156, [(3, .int v3), (4, .int v4), (5, .int v5)], [.int ((r9 + 0) + 2)], (q_kN s c n))) 4 (fun _ _ => rfl) ?_
      exact q_RP_ret rfl rfl rfl
    | false =>
      refine q_RP_cF ?_
      show q_RP _ _ _ (147, [(3, .int v3), (4, .int v4), (5, .int v5)], [.int 0, .int (r9 + 0)], (q_kN s c n)) _ _
      refine q_RP_seg (g2 := (156, [(3, .int v3), (4, .int v4), (5, .int v5)], [.int ((r9 + 0) + 0)], (q_kN s c n))) 3 (fun _ _ => rfl) ?_
      exact q_RP_ret rfl rfl rfl
  | false =>
    refine q_RP_cF ?_
    refine q_RP_rsF (g2 := (137, [(3, .int v3), (4, .int v4), (5, .int v5)], [.int r9], (q_kN s c n))) rfl rfl h5 ?_
    refine q_RP_seg (g2 := (144, [(3, .int v3), (4, .int v4), (5, .int v5)], [.int v3, .int (r9 + 1)], (q_kN s c n))) 4 (fun _ _ => rfl) ?_
    refine q_RP_call (v := (some (.int (q_b (dz_N189 s v3))))) (h2 := (q_kN s c n)) rfl rfl ((dzt_N189 s c n v3).le (Nat.le_of_ble_eq_true rfl)) ?_
    generalize dz_N189 s v3 = r11
    refine q_RP_let ?_
    show q_RP _ _ _ (147, [(3, .int v3), (4, .int v4), (5, .int v5)], [.int (q_b r11), .int (r9 + 1)], (q_kN s c n)) _ _
    cases h7 : r11 with
    | true =>
      refine q_RP_cT ?_
      show q_RP _ _ _ (147, [(3, .int v3), (4, .int v4), (5, .int v5)], [.int 1, .int (r9 + 1)], (q_kN s c n)) _ _
      refine q_RP_seg (g2 := (156, [(3, .int v3), (4, .int v4), (5, .int v5)], [.int ((r9 + 1) + 2)], (q_kN s c n))) 4 (fun _ _ => rfl) ?_
      exact q_RP_ret rfl rfl rfl
    | false =>
      refine q_RP_cF ?_
      show q_RP _ _ _ (147, [(3, .int v3), (4, .int v4), (5, .int v5)], [.int 0, .int (r9 + 1)], (q_kN s c n)) _ _
      refine q_RP_seg (g2 := (156, [(3, .int v3), (4, .int v4), (5, .int v5)], [.int ((r9 + 1) + 0)], (q_kN s c n))) 3 (fun _ _ => rfl) ?_
      exact q_RP_ret rfl rfl rfl
def dz_N137_87_65_120 (s : q_S) (v3 : Int32) (v4 : Int32) : Option (Int32) :=
  dz_N137_87_65_127 s v3 v4 1
set_option maxHeartbeats 4000000 in
theorem dzt_N137_87_65_120 (c n : Nat) (s : q_S) (v3 : Int32) (v4 : Int32) : q_RP q_TB0 3 136 (120, [(3, .int v3), (4, .int v4)], [], (q_kN s c n)) (q_oP (q_kN s c n)) (dz_N137_87_65_120 s v3 v4) := by
  unfold dz_N137_87_65_120
  refine q_RP_seg (g2 := (127, [(5, .int 1), (3, .int v3), (4, .int v4)], [], (q_kN s c n))) 3 (fun _ _ => rfl) ?_
  exact q_RP_xt (q_xt_mk (q_mn1 1 rfl (q_mn1 2 rfl (q_mn1 0 rfl q_mn0))) rfl) (dzt_N137_87_65_127 c n s v3 v4 1)
def dz_N137_87_65 (s : q_S) : Option (Int32) :=
  (dz_N90_65 s (s.2.1 23 4)).bind fun r2 => q_let (dz_N186 s r2) fun r3 => q_let (dz_N187 s r2) fun r4 => cond r4 (q_let (dz_N140_87 s 1) fun r5 => (dz_N90_65 s r5).bind fun r6 => q_let (dz_N138_87 s r2 r6) fun r7 => some r7) (cond (decide (r3 < 0)) (q_let (dz_N192 s r2) fun r8 => some r8) (cond (decide (r2 &&& 7 = 0)) (some 2) (cond (decide (r2 &&& 7 < 4)) (dz_N137_87_65_127 s r3 (r2 &&& 7) 0) (cond (decide (6 < r2 &&& 7)) (dz_N137_87_65_127 s r3 (r2 &&& 7) 0) ((dz_N145_87_65 s (r2 &&& 7)).bind fun r12 => q_let (dz_N143_87 s (r2 &&& 7)) fun r13 => q_let (dz_N188 s r3) fun r14 => cond r14 (dz_N137_87_65_120 s r3 (r2 &&& 7)) (cond (decide (((r12 + r13) &&& 4095) / 256 = r12 / 256)) (dz_N137_87_65_127 s r3 (r2 &&& 7) 0) (dz_N137_87_65_120 s r3 (r2 &&& 7))))))))
set_option maxHeartbeats 4000000 in
theorem dzt_N137_87_65 (s : q_S) (c n : Nat) (x : Int32) (h : dz_N137_87_65 s = some x) : q_Ca q_TB0 4 136 [.ref 87, .ref 65] (q_kN s c n) ((q_oP (q_kN s c n)) x) := by
  refine q_CaP_of (φ := (q_oP (q_kN s c n))) (Nat.le_of_ble_eq_true rfl) ?_ h
  clear h
  unfold dz_N137_87_65
  refine q_RP_seg (g2 := (5, [(0, .ref 87), (1, .ref 65)], [.int (s.2.1 23 4), .ref 65], (q_kN s c n))) 3 (fun _ _ => rfl) ?_
  refine q_RP_bd fun r2 er2 => ?_
  refine q_RP_call (v := (some (.int r2))) (h2 := (q_kN s c n)) rfl rfl ((dzt_N90_65 s c n (s.2.1 23 4) r2 er2).le (Nat.le_of_ble_eq_true rfl)) ?_
  show q_RP _ _ _ (8, [(0, .ref 87), (1, .ref 65)], [.int r2], (q_kN s c n)) _ _
  refine q_RP_seg (g2 := (10, [(2, .int r2), (0, .ref 87), (1, .ref 65)], [.int r2], (q_kN s c n))) 2 (fun _ _ => rfl) ?_
  refine q_RP_call (v := (some (.int (dz_N186 s r2)))) (h2 := (q_kN s c n)) rfl rfl ((dzt_N186 s c n r2).le (Nat.le_of_ble_eq_true rfl)) ?_
  generalize dz_N186 s r2 = r3
  refine q_RP_let ?_
  show q_RP _ _ _ (13, [(2, .int r2), (0, .ref 87), (1, .ref 65)], [.int r3], (q_kN s c n)) _ _
  refine q_RP_seg (g2 := (21, [(4, .int (r2 &&& 7)), (3, .int r3), (2, .int r2), (0, .ref 87), (1, .ref 65)], [.int r2], (q_kN s c n))) 6 (fun _ _ => rfl) ?_
  refine q_RP_call (v := (some (.int (q_b (dz_N187 s r2))))) (h2 := (q_kN s c n)) rfl rfl ((dzt_N187 s c n r2).le (Nat.le_of_ble_eq_true rfl)) ?_
  generalize dz_N187 s r2 = r4
  refine q_RP_let ?_
  show q_RP _ _ _ (24, [(4, .int (r2 &&& 7)), (3, .int r3), (2, .int r2), (0, .ref 87), (1, .ref 65)], [.int (q_b r4)], (q_kN s c n)) _ _
  cases h1 : r4 with
  | true =>
    refine q_RP_cT ?_
    show q_RP _ _ _ (24, [(4, .int (r2 &&& 7)), (3, .int r3), (2, .int r2), (0, .ref 87), (1, .ref 65)], [.int 1], (q_kN s c n)) _ _
    refine q_RP_seg (g2 := (32, [(4, .int (r2 &&& 7)), (3, .int r3), (2, .int r2), (0, .ref 87), (1, .ref 65)], [.int 1, .ref 87, .ref 65, .int r2, .ref 87], (q_kN s c n))) 6 (fun _ _ => rfl) ?_
    refine q_RP_call (v := (some (.int (dz_N140_87 s 1)))) (h2 := (q_kN s c n)) rfl rfl ((dzt_N140_87 s c n 1).le (Nat.le_of_ble_eq_true rfl)) ?_
    generalize dz_N140_87 s 1 = r5
    refine q_RP_let ?_
    show q_RP _ _ _ (35, [(4, .int (r2 &&& 7)), (3, .int r3), (2, .int r2), (0, .ref 87), (1, .ref 65)], [.int r5, .ref 65, .int r2, .ref 87], (q_kN s c n)) _ _
    refine q_RP_bd fun r6 er6 => ?_
    refine q_RP_call (v := (some (.int r6))) (h2 := (q_kN s c n)) rfl rfl ((dzt_N90_65 s c n r5 r6 er6).le (Nat.le_of_ble_eq_true rfl)) ?_
    show q_RP _ _ _ (38, [(4, .int (r2 &&& 7)), (3, .int r3), (2, .int r2), (0, .ref 87), (1, .ref 65)], [.int r6, .int r2, .ref 87], (q_kN s c n)) _ _
    refine q_RP_call (v := (some (.int (dz_N138_87 s r2 r6)))) (h2 := (q_kN s c n)) rfl rfl ((dzt_N138_87 s c n r2 r6).le (Nat.le_of_ble_eq_true rfl)) ?_
    generalize dz_N138_87 s r2 r6 = r7
    refine q_RP_let ?_
    show q_RP _ _ _ (41, [(4, .int (r2 &&& 7)), (3, .int r3), (2, .int r2), (0, .ref 87), (1, .ref 65)], [.int r7], (q_kN s c n)) _ _
    exact q_RP_ret rfl rfl rfl
  | false =>
    refine q_RP_cF ?_
    show q_RP _ _ _ (24, [(4, .int (r2 &&& 7)), (3, .int r3), (2, .int r2), (0, .ref 87), (1, .ref 65)], [.int 0], (q_kN s c n)) _ _
    refine q_RP_seg (g2 := (43, [(4, .int (r2 &&& 7)), (3, .int r3), (2, .int r2), (0, .ref 87), (1, .ref 65)], [.int r3], (q_kN s c n))) 2 (fun _ _ => rfl) ?_
    cases h2 : decide (r3 < 0) with
    | true =>
      refine q_RP_cT ?_
      refine q_RP_rsF (g2 := (46, [(4, .int (r2 &&& 7)), (3, .int r3), (2, .int r2), (0, .ref 87), (1, .ref 65)], [], (q_kN s c n))) rfl rfl (q_d_geT h2) ?_
      refine q_RP_seg (g2 := (47, [(4, .int (r2 &&& 7)), (3, .int r3), (2, .int r2), (0, .ref 87), (1, .ref 65)], [.int r2], (q_kN s c n))) 1 (fun _ _ => rfl) ?_
      refine q_RP_call (v := (some (.int (dz_N192 s r2)))) (h2 := (q_kN s c n)) rfl rfl ((dzt_N192 s c n r2).le (Nat.le_of_ble_eq_true rfl)) ?_
      generalize dz_N192 s r2 = r8
      refine q_RP_let ?_
      show q_RP _ _ _ (50, [(4, .int (r2 &&& 7)), (3, .int r3), (2, .int r2), (0, .ref 87), (1, .ref 65)], [.int r8], (q_kN s c n)) _ _
      exact q_RP_ret rfl rfl rfl
    | false =>
      refine q_RP_cF ?_
      refine q_RP_rsT (g2 := (51, [(4, .int (r2 &&& 7)), (3, .int r3), (2, .int r2), (0, .ref 87), (1, .ref 65)], [], (q_kN s c n))) rfl rfl (q_d_geF h2) ?_
      refine q_RP_seg (g2 := (53, [(4, .int (r2 &&& 7)), (3, .int r3), (2, .int r2), (0, .ref 87), (1, .ref 65)], [.int (r2 &&& 7)], (q_kN s c n))) 1 (fun _ _ => rfl) ?_
      cases h3 : decide (r2 &&& 7 = 0) with
      | true =>
        refine q_RP_cT ?_
        refine q_RP_rsF (g2 := (56, [(4, .int (r2 &&& 7)), (3, .int r3), (2, .int r2), (0, .ref 87), (1, .ref 65)], [], (q_kN s c n))) rfl rfl (q_d_neT h3) ?_
        refine q_RP_seg (g2 := (57, [(4, .int (r2 &&& 7)), (3, .int r3), (2, .int r2), (0, .ref 87), (1, .ref 65)], [.int 2], (q_kN s c n))) 1 (fun _ _ => rfl) ?_
        exact q_RP_ret rfl rfl rfl
      | false =>
        refine q_RP_cF ?_
        refine q_RP_rsT (g2 := (58, [(4, .int (r2 &&& 7)), (3, .int r3), (2, .int r2), (0, .ref 87), (1, .ref 65)], [], (q_kN s c n))) rfl rfl (q_d_neF h3) ?_
        refine q_RP_seg (g2 := (64, [(5, .int 0), (4, .int (r2 &&& 7)), (3, .int r3), (2, .int r2), (0, .ref 87), (1, .ref 65)], [.int 4, .int (r2 &&& 7)], (q_kN s c n))) 4 (fun _ _ => rfl) ?_
        cases h4 : decide (r2 &&& 7 < 4) with
        | true =>
          refine q_RP_cT ?_
          refine q_RP_rsT (g2 := (127, [(5, .int 0), (4, .int (r2 &&& 7)), (3, .int r3), (2, .int r2), (0, .ref 87), (1, .ref 65)], [], (q_kN s c n))) rfl rfl h4 ?_
          exact q_RP_xt (q_xt_mk (q_mn1 2 rfl (q_mn1 1 rfl (q_mn1 0 rfl q_mn0))) rfl) (dzt_N137_87_65_127 c n s r3 (r2 &&& 7) 0)
        | false =>
          refine q_RP_cF ?_
          refine q_RP_rsF (g2 := (67, [(5, .int 0), (4, .int (r2 &&& 7)), (3, .int r3), (2, .int r2), (0, .ref 87), (1, .ref 65)], [], (q_kN s c n))) rfl rfl h4 ?_
          refine q_RP_seg (g2 := (71, [(5, .int 0), (4, .int (r2 &&& 7)), (3, .int r3), (2, .int r2), (0, .ref 87), (1, .ref 65)], [.int 6, .int (r2 &&& 7)], (q_kN s c n))) 2 (fun _ _ => rfl) ?_
          cases h8 : decide (6 < r2 &&& 7) with
          | true =>
            refine q_RP_cT ?_
            refine q_RP_rsT (g2 := (127, [(5, .int 0), (4, .int (r2 &&& 7)), (3, .int r3), (2, .int r2), (0, .ref 87), (1, .ref 65)], [], (q_kN s c n))) rfl rfl h8 ?_
            exact q_RP_xt (q_xt_mk (q_mn1 2 rfl (q_mn1 1 rfl (q_mn1 0 rfl q_mn0))) rfl) (dzt_N137_87_65_127 c n s r3 (r2 &&& 7) 0)
          | false =>
            refine q_RP_cF ?_
            refine q_RP_rsF (g2 := (74, [(5, .int 0), (4, .int (r2 &&& 7)), (3, .int r3), (2, .int r2), (0, .ref 87), (1, .ref 65)], [], (q_kN s c n))) rfl rfl h8 ?_
            refine q_RP_seg (g2 := (78, [(5, .int 0), (4, .int (r2 &&& 7)), (3, .int r3), (2, .int r2), (0, .ref 87), (1, .ref 65)], [.int (r2 &&& 7), .ref 65, .ref 87], (q_kN s c n))) 3 (fun _ _ => rfl) ?_
            refine q_RP_bd fun r12 er12 => ?_
            refine q_RP_call (v := (some (.int r12))) (h2 := (q_kN s c n)) rfl rfl ((dzt_N145_87_65 s c n (r2 &&& 7) r12 er12).le (Nat.le_of_ble_eq_true rfl)) ?_
            show q_RP _ _ _ (81, [(5, .int 0), (4, .int (r2 &&& 7)), (3, .int r3), (2, .int r2), (0, .ref 87), (1, .ref 65)], [.int r12], (q_kN s c n)) _ _
            refine q_RP_seg (g2 := (88, [(6, .int r12), (5, .int 0), (4, .int (r2 &&& 7)), (3, .int r3), (2, .int r2), (0, .ref 87), (1, .ref 65)], [.int (r2 &&& 7), .ref 87, .int r12], (q_kN s c n))) 4 (fun _ _ => rfl) ?_
            refine q_RP_call (v := (some (.int (dz_N143_87 s (r2 &&& 7))))) (h2 := (q_kN s c n)) rfl rfl ((dzt_N143_87 s c n (r2 &&& 7)).le (Nat.le_of_ble_eq_true rfl)) ?_
            generalize dz_N143_87 s (r2 &&& 7) = r13
            refine q_RP_let ?_
            show q_RP _ _ _ (91, [(6, .int r12), (5, .int 0), (4, .int (r2 &&& 7)), (3, .int r3), (2, .int r2), (0, .ref 87), (1, .ref 65)], [.int r13, .int r12], (q_kN s c n)) _ _
            refine q_RP_seg (g2 := (99, [(7, .int ((r12 + r13) &&& 4095)), (6, .int r12), (5, .int 0), (4, .int (r2 &&& 7)), (3, .int r3), (2, .int r2), (0, .ref 87), (1, .ref 65)], [.int r3], (q_kN s c n))) 5 (fun _ _ => rfl) ?_
            refine q_RP_call (v := (some (.int (q_b (dz_N188 s r3))))) (h2 := (q_kN s c n)) rfl rfl ((dzt_N188 s c n r3).le (Nat.le_of_ble_eq_true rfl)) ?_
            generalize dz_N188 s r3 = r14
            refine q_RP_let ?_
            show q_RP _ _ _ (102, [(7, .int ((r12 + r13) &&& 4095)), (6, .int r12), (5, .int 0), (4, .int (r2 &&& 7)), (3, .int r3), (2, .int r2), (0, .ref 87), (1, .ref 65)], [.int (q_b r14)], (q_kN s c n)) _ _
            cases h9 : r14 with
            | true =>
              refine q_RP_cT ?_
              show q_RP _ _ _ (102, [(7, .int ((r12 + r13) &&& 4095)), (6, .int r12), (5, .int 0), (4, .int (r2 &&& 7)), (3, .int r3), (2, .int r2), (0, .ref 87), (1, .ref 65)], [.int 1], (q_kN s c n)) _ _
              refine q_RP_seg (g2 := (120, [(7, .int ((r12 + r13) &&& 4095)), (6, .int r12), (5, .int 0), (4, .int (r2 &&& 7)), (3, .int r3), (2, .int r2), (0, .ref 87), (1, .ref 65)], [], (q_kN s c n))) 1 (fun _ _ => rfl) ?_
              exact q_RP_xt (q_xt_mk (q_mn1 4 rfl (q_mn1 3 rfl q_mn0)) rfl) (dzt_N137_87_65_120 c n s r3 (r2 &&& 7))
            | false =>
              refine q_RP_cF ?_
              show q_RP _ _ _ (102, [(7, .int ((r12 + r13) &&& 4095)), (6, .int r12), (5, .int 0), (4, .int (r2 &&& 7)), (3, .int r3), (2, .int r2), (0, .ref 87), (1, .ref 65)], [.int 0], (q_kN s c n)) _ _
              refine q_RP_seg (g2 := (117, [(7, .int ((r12 + r13) &&& 4095)), (6, .int r12), (5, .int 0), (4, .int (r2 &&& 7)), (3, .int r3), (2, .int r2), (0, .ref 87), (1, .ref 65)], [.int (r12 / 256), .int (((r12 + r13) &&& 4095) / 256)], (q_kN s c n))) 7 (fun _ _ => rfl) ?_
              cases h10 : decide (((r12 + r13) &&& 4095) / 256 = r12 / 256) with
              | true =>
                refine q_RP_cT ?_
                refine q_RP_rsT (g2 := (124, [(7, .int ((r12 + r13) &&& 4095)), (6, .int r12), (5, .int 0), (4, .int (r2 &&& 7)), (3, .int r3), (2, .int r2), (0, .ref 87), (1, .ref 65)], [], (q_kN s c n))) rfl rfl h10 ?_
                refine q_RP_seg (g2 := (127, [(5, .int 0), (7, .int ((r12 + r13) &&& 4095)), (6, .int r12), (4, .int (r2 &&& 7)), (3, .int r3), (2, .int r2), (0, .ref 87), (1, .ref 65)], [], (q_kN s c n))) 2 (fun _ _ => rfl) ?_
                exact q_RP_xt (q_xt_mk (q_mn1 4 rfl (q_mn1 3 rfl (q_mn1 0 rfl q_mn0))) rfl) (dzt_N137_87_65_127 c n s r3 (r2 &&& 7) 0)
              | false =>
                refine q_RP_cF ?_
                refine q_RP_rsF (g2 := (120, [(7, .int ((r12 + r13) &&& 4095)), (6, .int r12), (5, .int 0), (4, .int (r2 &&& 7)), (3, .int r3), (2, .int r2), (0, .ref 87), (1, .ref 65)], [], (q_kN s c n))) rfl rfl h10 ?_
                exact q_RP_xt (q_xt_mk (q_mn1 4 rfl (q_mn1 3 rfl q_mn0)) rfl) (dzt_N137_87_65_120 c n s r3 (r2 &&& 7))
def dz_N136_87_65 (s : q_S) : Option (q_S) :=
  cond (decide (((s.1 4) 10) &&& ((s.1 4) 11) = 0)) (cond (decide (s.2.1 23 7 = 0)) (cond (decide (s.2.1 23 6 = 0)) ((dz_N137_87_65 (q_sI s 23 8 0)).bind fun r2 => some (q_sI (q_sI s 23 8 0) 23 9 r2)) (some (q_sI (q_sI (q_sI s 23 6 0) 23 8 3834) 23 9 7))) (some s)) (cond (decide (s.2.1 23 7 = 0)) (cond (decide (s.2.1 23 6 = 0)) (cond (decide ((s.2.1 23 5) &&& 4 = 0)) (some (q_sI (q_sI s 23 8 3838) 23 9 7)) ((dz_N137_87_65 (q_sI s 23 8 0)).bind fun r3 => some (q_sI (q_sI s 23 8 0) 23 9 r3))) (some (q_sI (q_sI (q_sI s 23 6 0) 23 8 3834) 23 9 7))) (some s))
set_option maxHeartbeats 4000000 in
theorem dzt_N136_87_65 (s : q_S) (c n : Nat) (x : q_S) (h : dz_N136_87_65 s = some x) : q_Ca q_TB0 5 135 [.ref 87, .ref 65] (q_kN s c n) ((q_oSN c n) x) := by
  refine q_CaP_of (φ := (q_oSN c n)) (Nat.le_of_ble_eq_true rfl) ?_ h
  clear h
  unfold dz_N136_87_65
  refine q_RP_seg (g2 := (10, [(0, .ref 87), (1, .ref 65)], [.int ((s.1 4) 10)], (q_kN s c n))) 5 (fun _ _ => rfl) ?_
  refine q_RP_seg (g2 := (20, [(0, .ref 87), (1, .ref 65)], [.int ((s.1 4) 11), .int ((s.1 4) 10)], (q_kN s c n))) 5 (fun _ _ => rfl) ?_
  refine q_RP_seg (g2 := (21, [(0, .ref 87), (1, .ref 65)], [.int (((s.1 4) 10) &&& ((s.1 4) 11))], (q_kN s c n))) 1 (fun _ _ => rfl) ?_
  cases h4 : decide (((s.1 4) 10) &&& ((s.1 4) 11) = 0) with
  | true =>
    refine q_RP_cT ?_
    refine q_RP_rsT (g2 := (28, [(0, .ref 87), (1, .ref 65)], [], (q_kN s c n))) rfl rfl h4 ?_
    refine q_RP_seg (g2 := (34, [(2, .int 0), (0, .ref 87), (1, .ref 65)], [.int (s.2.1 23 7)], (q_kN s c n))) 4 (fun _ _ => rfl) ?_
    cases h5 : decide (s.2.1 23 7 = 0) with
    | true =>
      refine q_RP_cT ?_
      refine q_RP_rsT (g2 := (38, [(2, .int 0), (0, .ref 87), (1, .ref 65)], [], (q_kN s c n))) rfl rfl h5 ?_
      refine q_RP_seg (g2 := (42, [(2, .int 0), (0, .ref 87), (1, .ref 65)], [.int (s.2.1 23 6)], (q_kN s c n))) 2 (fun _ _ => rfl) ?_
      cases h6 : decide (s.2.1 23 6 = 0) with
      | true =>
        refine q_RP_cT ?_
        refine q_RP_rsT (g2 := (66, [(2, .int 0), (0, .ref 87), (1, .ref 65)], [], (q_kN s c n))) rfl rfl h6 ?_
        refine q_RP_seg (g2 := (103, [(2, .int 0), (0, .ref 87), (1, .ref 65)], [.ref 65, .ref 87, .ref 87], (q_kN (q_sI s 23 8 0) c n))) 8 (fun _ _ => rfl) ?_
        refine q_RP_bd fun r2 er2 => ?_
        refine q_RP_call (v := (some (.int r2))) (h2 := (q_kN (q_sI s 23 8 0) c n)) rfl rfl ((dzt_N137_87_65 (q_sI s 23 8 0) c n r2 er2).le (Nat.le_of_ble_eq_true rfl)) ?_
        show q_RP _ _ _ (106, [(2, .int 0), (0, .ref 87), (1, .ref 65)], [.int r2, .ref 87], (q_kN (q_sI s 23 8 0) c n)) _ _
        refine q_RP_seg (g2 := (109, [(2, .int 0), (0, .ref 87), (1, .ref 65)], [], (q_kN (q_sI (q_sI s 23 8 0) 23 9 r2) c n))) 1 (fun _ _ => rfl) ?_
        exact q_RP_ret rfl rfl rfl
      | false =>
        refine q_RP_cF ?_
        refine q_RP_rsF (g2 := (45, [(2, .int 0), (0, .ref 87), (1, .ref 65)], [], (q_kN s c n))) rfl rfl h6 ?_
        refine q_RP_seg (g2 := (109, [(2, .int 0), (0, .ref 87), (1, .ref 65)], [], (q_kN (q_sI (q_sI (q_sI s 23 6 0) 23 8 3834) 23 9 7) c n))) 10 (fun _ _ => rfl) ?_
        exact q_RP_ret rfl rfl rfl
    | false =>
      refine q_RP_cF ?_
      refine q_RP_rsF (g2 := (37, [(2, .int 0), (0, .ref 87), (1, .ref 65)], [], (q_kN s c n))) rfl rfl h5 ?_
      exact q_RP_ret rfl rfl rfl
  | false =>
    refine q_RP_cF ?_
    refine q_RP_rsF (g2 := (24, [(0, .ref 87), (1, .ref 65)], [], (q_kN s c n))) rfl rfl h4 ?_
    refine q_RP_seg (g2 := (34, [(2, .int 1), (0, .ref 87), (1, .ref 65)], [.int (s.2.1 23 7)], (q_kN s c n))) 5 (fun _ _ => rfl) ?_
    cases h7 : decide (s.2.1 23 7 = 0) with
    | true =>
      refine q_RP_cT ?_
      refine q_RP_rsT (g2 := (38, [(2, .int 1), (0, .ref 87), (1, .ref 65)], [], (q_kN s c n))) rfl rfl h7 ?_
      refine q_RP_seg (g2 := (42, [(2, .int 1), (0, .ref 87), (1, .ref 65)], [.int (s.2.1 23 6)], (q_kN s c n))) 2 (fun _ _ => rfl) ?_
      cases h8 : decide (s.2.1 23 6 = 0) with
      | true =>
        refine q_RP_cT ?_
        refine q_RP_rsT (g2 := (66, [(2, .int 1), (0, .ref 87), (1, .ref 65)], [], (q_kN s c n))) rfl rfl h8 ?_
        refine q_RP_seg (g2 := (74, [(2, .int 1), (0, .ref 87), (1, .ref 65)], [.int (s.2.1 23 5)], (q_kN s c n))) 4 (fun _ _ => rfl) ?_
        refine q_RP_seg (g2 := (76, [(2, .int 1), (0, .ref 87), (1, .ref 65)], [.int ((s.2.1 23 5) &&& 4)], (q_kN s c n))) 2 (fun _ _ => rfl) ?_
        cases h9 : decide ((s.2.1 23 5) &&& 4 = 0) with
        | true =>
          refine q_RP_cT ?_
          refine q_RP_rsF (g2 := (79, [(2, .int 1), (0, .ref 87), (1, .ref 65)], [], (q_kN s c n))) rfl rfl (q_d_neT h9) ?_
          refine q_RP_seg (g2 := (109, [(2, .int 1), (0, .ref 87), (1, .ref 65)], [], (q_kN (q_sI (q_sI s 23 8 3838) 23 9 7) c n))) 7 (fun _ _ => rfl) ?_
          exact q_RP_ret rfl rfl rfl
        | false =>
          refine q_RP_cF ?_
          refine q_RP_rsT (g2 := (95, [(2, .int 1), (0, .ref 87), (1, .ref 65)], [], (q_kN s c n))) rfl rfl (q_d_neF h9) ?_
          refine q_RP_seg (g2 := (103, [(2, .int 1), (0, .ref 87), (1, .ref 65)], [.ref 65, .ref 87, .ref 87], (q_kN (q_sI s 23 8 0) c n))) 6 (fun _ _ => rfl) ?_
          refine q_RP_bd fun r3 er3 => ?_
          refine q_RP_call (v := (some (.int r3))) (h2 := (q_kN (q_sI s 23 8 0) c n)) rfl rfl ((dzt_N137_87_65 (q_sI s 23 8 0) c n r3 er3).le (Nat.le_of_ble_eq_true rfl)) ?_
          show q_RP _ _ _ (106, [(2, .int 1), (0, .ref 87), (1, .ref 65)], [.int r3, .ref 87], (q_kN (q_sI s 23 8 0) c n)) _ _
          refine q_RP_seg (g2 := (109, [(2, .int 1), (0, .ref 87), (1, .ref 65)], [], (q_kN (q_sI (q_sI s 23 8 0) 23 9 r3) c n))) 1 (fun _ _ => rfl) ?_
          exact q_RP_ret rfl rfl rfl
      | false =>
        refine q_RP_cF ?_
        refine q_RP_rsF (g2 := (45, [(2, .int 1), (0, .ref 87), (1, .ref 65)], [], (q_kN s c n))) rfl rfl h8 ?_
        refine q_RP_seg (g2 := (109, [(2, .int 1), (0, .ref 87), (1, .ref 65)], [], (q_kN (q_sI (q_sI (q_sI s 23 6 0) 23 8 3834) 23 9 7) c n))) 10 (fun _ _ => rfl) ?_
        exact q_RP_ret rfl rfl rfl
    | false =>
      refine q_RP_cF ?_
      refine q_RP_rsF (g2 := (37, [(2, .int 1), (0, .ref 87), (1, .ref 65)], [], (q_kN s c n))) rfl rfl h7 ?_
      exact q_RP_ret rfl rfl rfl
def dz_N141_87 (s : q_S) : q_S × Bool :=
  cond (decide (s.2.1 23 9 = 0)) ((s, false)) (cond (decide ((s.2.1 23 9) - 1 = 0)) (((q_sI s 23 9 ((s.2.1 23 9) - 1)), true)) (((q_sI s 23 9 ((s.2.1 23 9) - 1)), false)))
set_option maxHeartbeats 4000000 in
theorem dzt_N141_87 (s : q_S) (c n : Nat) : q_Ca q_TB0 1 140 [.ref 87] (q_kN s c n) ((q_oJN c n) (dz_N141_87 s)) := by
  refine q_CaT_of (φ := (q_oJN c n)) (Nat.le_of_ble_eq_true rfl) ?_
  unfold dz_N141_87
  refine q_RT_seg (g2 := (4, [(0, .ref 87)], [.int (s.2.1 23 9)], (q_kN s c n))) 2 (fun _ _ => rfl) ?_
  cases h1 : decide (s.2.1 23 9 = 0) with
  | true =>
    refine q_RT_cT ?_
    refine q_RT_rsF (g2 := (7, [(0, .ref 87)], [], (q_kN s c n))) rfl rfl (q_d_neT h1) ?_
    refine q_RT_seg (g2 := (8, [(0, .ref 87)], [.int 0], (q_kN s c n))) 1 (fun _ _ => rfl) ?_
    exact q_RT_ret rfl rfl rfl
  | false =>
    refine q_RT_cF ?_
    refine q_RT_rsT (g2 := (9, [(0, .ref 87)], [], (q_kN s c n))) rfl rfl (q_d_neF h1) ?_
    refine q_RT_seg (g2 := (14, [(0, .ref 87)], [.int (s.2.1 23 9), .ref 87], (q_kN s c n))) 3 (fun _ _ => rfl) ?_
    refine q_RT_seg (g2 := (23, [(0, .ref 87)], [.int ((s.2.1 23 9) - 1)], (q_kN (q_sI s 23 9 ((s.2.1 23 9) - 1)) c n))) 5 (fun _ _ => rfl) ?_
    cases h2 : decide ((s.2.1 23 9) - 1 = 0) with
    | true =>
      refine q_RT_cT ?_
      refine q_RT_rsF (g2 := (26, [(0, .ref 87)], [], (q_kN (q_sI s 23 9 ((s.2.1 23 9) - 1)) c n))) rfl rfl (q_d_neT h2) ?_
      refine q_RT_seg (g2 := (31, [(0, .ref 87)], [.int 1], (q_kN (q_sI s 23 9 ((s.2.1 23 9) - 1)) c n))) 2 (fun _ _ => rfl) ?_
      exact q_RT_ret rfl rfl rfl
    | false =>
      refine q_RT_cF ?_
      refine q_RT_rsT (g2 := (30, [(0, .ref 87)], [], (q_kN (q_sI s 23 9 ((s.2.1 23 9) - 1)) c n))) rfl rfl (q_d_neF h2) ?_
      refine q_RT_seg (g2 := (31, [(0, .ref 87)], [.int 0], (q_kN (q_sI s 23 9 ((s.2.1 23 9) - 1)) c n))) 1 (fun _ _ => rfl) ?_
      exact q_RT_ret rfl rfl rfl
def dz_N146_87_65 (s : q_S) (a2 : Int32) : Option (q_S) :=
  (dz_N94_65 s ((256 : Int32) + (s.2.1 23 3)) a2).bind fun r2 => some (q_sI r2 23 3 (((r2.2.1 23 3) - 1) &&& 255))
set_option maxHeartbeats 4000000 in
theorem dzt_N146_87_65 (s : q_S) (c n : Nat) (a2 : Int32) (x : q_S) (h : dz_N146_87_65 s a2 = some x) : q_Ca q_TB0 3 145 [.ref 87, .ref 65, .int a2] (q_kN s c n) ((q_oSN c n) x) := by
  refine q_CaP_of (φ := (q_oSN c n)) (Nat.le_of_ble_eq_true rfl) ?_ h
  clear h
  unfold dz_N146_87_65
  refine q_RP_seg (g2 := (8, [(0, .ref 87), (1, .ref 65), (2, .int a2)], [.int (s.2.1 23 3), .int 256, .ref 65], (q_kN s c n))) 4 (fun _ _ => rfl) ?_
  refine q_RP_seg (g2 := (10, [(0, .ref 87), (1, .ref 65), (2, .int a2)], [.int a2, .int ((256 : Int32) + (s.2.1 23 3)), .ref 65], (q_kN s c n))) 2 (fun _ _ => rfl) ?_
  refine q_RP_bd fun r2 er2 => ?_
  refine q_RP_call (v := none) (h2 := (q_kN r2 c n)) rfl rfl ((dzt_N94_65 s c n ((256 : Int32) + (s.2.1 23 3)) a2 r2 er2).le (Nat.le_of_ble_eq_true rfl)) ?_
  show q_RP _ _ _ (13, [(0, .ref 87), (1, .ref 65), (2, .int a2)], [], (q_kN r2 c n)) _ _
  refine q_RP_seg (g2 := (18, [(0, .ref 87), (1, .ref 65), (2, .int a2)], [.int (r2.2.1 23 3), .ref 87], (q_kN r2 c n))) 3 (fun _ _ => rfl) ?_
  refine q_RP_seg (g2 := (27, [(0, .ref 87), (1, .ref 65), (2, .int a2)], [], (q_kN (q_sI r2 23 3 (((r2.2.1 23 3) - 1) &&& 255)) c n))) 5 (fun _ _ => rfl) ?_
  exact q_RP_ret rfl rfl rfl
def dz_N148_87_65 (s : q_S) (a2 : Int32) (a3 : Int32) (a4 : Int32) : Option (q_S) :=
  (dz_N146_87_65 s (a2 >>> ((8 &&& 31) : Int32))).bind fun r2 => (dz_N146_87_65 r2 (a2 &&& 255)).bind fun r3 => (dz_N146_87_65 r3 a3).bind fun r4 => (dz_N92_65 (q_sI r4 23 5 ((r4.2.1 23 5) ||| 4)) a4).bind fun r5 => some (q_sI (q_sI r4 23 5 ((r4.2.1 23 5) ||| 4)) 23 4 r5)
set_option maxHeartbeats 4000000 in
theorem dzt_N148_87_65 (s : q_S) (c n : Nat) (a2 : Int32) (a3 : Int32) (a4 : Int32) (x : q_S) (h : dz_N148_87_65 s a2 a3 a4 = some x) : q_Ca q_TB0 4 147 [.ref 87, .ref 65, .int a2, .int a3, .int a4] (q_kN s c n) ((q_oSN c n) x) := by
  refine q_CaP_of (φ := (q_oSN c n)) (Nat.le_of_ble_eq_true rfl) ?_ h
  clear h
  unfold dz_N148_87_65
  refine q_RP_seg (g2 := (6, [(0, .ref 87), (1, .ref 65), (2, .int a2), (3, .int a3), (4, .int a4)], [.int (a2 >>> ((8 &&& 31) : Int32)), .ref 65, .ref 87], (q_kN s c n))) 5 (fun _ _ => rfl) ?_
  refine q_RP_bd fun r2 er2 => ?_
  refine q_RP_call (v := none) (h2 := (q_kN r2 c n)) rfl rfl ((dzt_N146_87_65 s c n (a2 >>> ((8 &&& 31) : Int32)) r2 er2).le (Nat.le_of_ble_eq_true rfl)) ?_
  show q_RP _ _ _ (9, [(0, .ref 87), (1, .ref 65), (2, .int a2), (3, .int a3), (4, .int a4)], [], (q_kN r2 c n)) _ _
  refine q_RP_seg (g2 := (16, [(0, .ref 87), (1, .ref 65), (2, .int a2), (3, .int a3), (4, .int a4)], [.int (a2 &&& 255), .ref 65, .ref 87], (q_kN r2 c n))) 5 (fun _ _ => rfl) ?_
  refine q_RP_bd fun r3 er3 => ?_
  refine q_RP_call (v := none) (h2 := (q_kN r3 c n)) rfl rfl ((dzt_N146_87_65 r2 c n (a2 &&& 255) r3 er3).le (Nat.le_of_ble_eq_true rfl)) ?_
  show q_RP _ _ _ (19, [(0, .ref 87), (1, .ref 65), (2, .int a2), (3, .int a3), (4, .int a4)], [], (q_kN r3 c n)) _ _
  refine q_RP_seg (g2 := (22, [(0, .ref 87), (1, .ref 65), (2, .int a2), (3, .int a3), (4, .int a4)], [.int a3, .ref 65, .ref 87], (q_kN r3 c n))) 3 (fun _ _ => rfl) ?_
  refine q_RP_bd fun r4 er4 => ?_
  refine q_RP_call (v := none) (h2 := (q_kN r4 c n)) rfl rfl ((dzt_N146_87_65 r3 c n a3 r4 er4).le (Nat.le_of_ble_eq_true rfl)) ?_
  show q_RP _ _ _ (25, [(0, .ref 87), (1, .ref 65), (2, .int a2), (3, .int a3), (4, .int a4)], [], (q_kN r4 c n)) _ _
  refine q_RP_seg (g2 := (30, [(0, .ref 87), (1, .ref 65), (2, .int a2), (3, .int a3), (4, .int a4)], [.int (r4.2.1 23 5), .ref 87], (q_kN r4 c n))) 3 (fun _ _ => rfl) ?_
  refine q_RP_seg (g2 := (39, [(0, .ref 87), (1, .ref 65), (2, .int a2), (3, .int a3), (4, .int a4)], [.int a4, .ref 65, .ref 87], (q_kN (q_sI r4 23 5 ((r4.2.1 23 5) ||| 4)) c n))) 6 (fun _ _ => rfl) ?_
  refine q_RP_bd fun r5 er5 => ?_
  refine q_RP_call (v := (some (.int r5))) (h2 := (q_kN (q_sI r4 23 5 ((r4.2.1 23 5) ||| 4)) c n)) rfl rfl ((dzt_N92_65 (q_sI r4 23 5 ((r4.2.1 23 5) ||| 4)) c n a4 r5 er5).le (Nat.le_of_ble_eq_true rfl)) ?_
  show q_RP _ _ _ (42, [(0, .ref 87), (1, .ref 65), (2, .int a2), (3, .int a3), (4, .int a4)], [.int r5, .ref 87], (q_kN (q_sI r4 23 5 ((r4.2.1 23 5) ||| 4)) c n)) _ _
  refine q_RP_seg (g2 := (45, [(0, .ref 87), (1, .ref 65), (2, .int a2), (3, .int a3), (4, .int a4)], [], (q_kN (q_sI (q_sI r4 23 5 ((r4.2.1 23 5) ||| 4)) 23 4 r5) c n))) 1 (fun _ _ => rfl) ?_
  exact q_RP_ret rfl rfl rfl
def dz_N147_87_65 (s : q_S) : q_S × Int32 :=
  q_let (dz_N120_66 (q_sI s 23 3 (((s.2.1 23 3) + 1) &&& 255)) ((256 : Int32) + (((s.2.1 23 3) + 1) &&& 255))) fun r1 => ((q_sI s 23 3 (((s.2.1 23 3) + 1) &&& 255)), r1)
set_option maxHeartbeats 4000000 in
theorem dzt_N147_87_65 (s : q_S) (c n : Nat) : q_Ca q_TB0 2 146 [.ref 87, .ref 65] (q_kN s c n) ((q_oIN c n) (dz_N147_87_65 s)) := by
  refine q_CaT_of (φ := (q_oIN c n)) (Nat.le_of_ble_eq_true rfl) ?_
  unfold dz_N147_87_65
  refine q_RT_seg (g2 := (5, [(0, .ref 87), (1, .ref 65)], [.int (s.2.1 23 3), .ref 87], (q_kN s c n))) 3 (fun _ _ => rfl) ?_
  refine q_RT_seg (g2 := (25, [(0, .ref 87), (1, .ref 65)], [.int (((s.2.1 23 3) + 1) &&& 255), .int 256, .ref 66], (q_kN (q_sI s 23 3 (((s.2.1 23 3) + 1) &&& 255)) c n))) 10 (fun _ _ => rfl) ?_
  refine q_RT_seg (g2 := (26, [(0, .ref 87), (1, .ref 65)], [.int ((256 : Int32) + (((s.2.1 23 3) + 1) &&& 255)), .ref 66], (q_kN (q_sI s 23 3 (((s.2.1 23 3) + 1) &&& 255)) c n))) 1 (fun _ _ => rfl) ?_
  refine q_RT_call (v := (some (.int (dz_N120_66 (q_sI s 23 3 (((s.2.1 23 3) + 1) &&& 255)) ((256 : Int32) + (((s.2.1 23 3) + 1) &&& 255)))))) (h2 := (q_kN (q_sI s 23 3 (((s.2.1 23 3) + 1) &&& 255)) c n)) rfl rfl ((dzt_N120_66 (q_sI s 23 3 (((s.2.1 23 3) + 1) &&& 255)) c n ((256 : Int32) + (((s.2.1 23 3) + 1) &&& 255))).le (Nat.le_of_ble_eq_true rfl)) ?_
  generalize dz_N120_66 (q_sI s 23 3 (((s.2.1 23 3) + 1) &&& 255)) ((256 : Int32) + (((s.2.1 23 3) + 1) &&& 255)) = r1
  refine q_RT_let ?_
  show q_RT _ _ _ (29, [(0, .ref 87), (1, .ref 65)], [.int r1], (q_kN (q_sI s 23 3 (((s.2.1 23 3) + 1) &&& 255)) c n)) _ _
  exact q_RT_ret rfl rfl rfl
def dz_N150_87 (s : q_S) (a1 : Int32) : q_S × Int32 :=
  cond (decide (a1 = 0)) (cond (decide (127 < a1)) (((q_sI s 23 5 ((((s.2.1 23 5) &&& (-131)) ||| 2) ||| 128)), a1)) (((q_sI s 23 5 ((((s.2.1 23 5) &&& (-131)) ||| 2) ||| 0)), a1))) (cond (decide (127 < a1)) (((q_sI s 23 5 ((((s.2.1 23 5) &&& (-131)) ||| 0) ||| 128)), a1)) (((q_sI s 23 5 ((((s.2.1 23 5) &&& (-131)) ||| 0) ||| 0)), a1)))
set_option maxHeartbeats 4000000 in
theorem dzt_N150_87 (s : q_S) (c n : Nat) (a1 : Int32) : q_Ca q_TB0 1 149 [.ref 87, .int a1] (q_kN s c n) ((q_oIN c n) (dz_N150_87 s a1)) := by
  refine q_CaT_of (φ := (q_oIN c n)) (Nat.le_of_ble_eq_true rfl) ?_
  unfold dz_N150_87
  refine q_RT_seg (g2 := (5, [(0, .ref 87), (1, .int a1)], [.int (s.2.1 23 5), .ref 87], (q_kN s c n))) 3 (fun _ _ => rfl) ?_
  refine q_RT_seg (g2 := (10, [(0, .ref 87), (1, .int a1)], [.int a1, .int ((s.2.1 23 5) &&& (-131)), .ref 87], (q_kN s c n))) 3 (fun _ _ => rfl) ?_
  cases h1 : decide (a1 = 0) with
  | true =>
    refine q_RT_cT ?_
    refine q_RT_rsF (g2 := (13, [(0, .ref 87), (1, .int a1)], [.int ((s.2.1 23 5) &&& (-131)), .ref 87], (q_kN s c n))) rfl rfl (q_d_neT h1) ?_
    refine q_RT_seg (g2 := (22, [(0, .ref 87), (1, .int a1)], [.int 127, .int a1, .int (((s.2.1 23 5) &&& (-131)) ||| 2), .ref 87], (q_kN s c n))) 5 (fun _ _ => rfl) ?_
    cases h2 : decide (127 < a1) with
    | true =>
      refine q_RT_cT ?_
      refine q_RT_rsF (g2 := (25, [(0, .ref 87), (1, .int a1)], [.int (((s.2.1 23 5) &&& (-131)) ||| 2), .ref 87], (q_kN s c n))) rfl rfl (q_d_geT h2) ?_
      refine q_RT_seg (g2 := (37, [(0, .ref 87), (1, .int a1)], [.int a1], (q_kN (q_sI s 23 5 ((((s.2.1 23 5) &&& (-131)) ||| 2) ||| 128)) c n))) 5 (fun _ _ => rfl) ?_
      exact q_RT_ret rfl rfl rfl
    | false =>
      refine q_RT_cF ?_
      refine q_RT_rsT (g2 := (31, [(0, .ref 87), (1, .int a1)], [.int (((s.2.1 23 5) &&& (-131)) ||| 2), .ref 87], (q_kN s c n))) rfl rfl (q_d_geF h2) ?_
      refine q_RT_seg (g2 := (37, [(0, .ref 87), (1, .int a1)], [.int a1], (q_kN (q_sI s 23 5 ((((s.2.1 23 5) &&& (-131)) ||| 2) ||| 0)) c n))) 4 (fun _ _ => rfl) ?_
      exact q_RT_ret rfl rfl rfl
  | false =>
    refine q_RT_cF ?_
    refine q_RT_rsT (g2 := (17, [(0, .ref 87), (1, .int a1)], [.int ((s.2.1 23 5) &&& (-131)), .ref 87], (q_kN s c n))) rfl rfl (q_d_neF h1) ?_
    refine q_RT_seg (g2 := (22, [(0, .ref 87), (1, .int a1)], [.int 127, .int a1, .int (((s.2.1 23 5) &&& (-131)) ||| 0), .ref 87], (q_kN s c n))) 4 (fun _ _ => rfl) ?_
    cases h3 : decide (127 < a1) with
    | true =>
      refine q_RT_cT ?_
      refine q_RT_rsF (g2 := (25, [(0, .ref 87), (1, .int a1)], [.int (((s.2.1 23 5) &&& (-131)) ||| 0), .ref 87], (q_kN s c n))) rfl rfl (q_d_geT h3) ?_
      refine q_RT_seg (g2 := (37, [(0, .ref 87), (1, .int a1)], [.int a1], (q_kN (q_sI s 23 5 ((((s.2.1 23 5) &&& (-131)) ||| 0) ||| 128)) c n))) 5 (fun _ _ => rfl) ?_
      exact q_RT_ret rfl rfl rfl
    | false =>
      refine q_RT_cF ?_
      refine q_RT_rsT (g2 := (31, [(0, .ref 87), (1, .int a1)], [.int (((s.2.1 23 5) &&& (-131)) ||| 0), .ref 87], (q_kN s c n))) rfl rfl (q_d_geF h3) ?_
      refine q_RT_seg (g2 := (37, [(0, .ref 87), (1, .int a1)], [.int a1], (q_kN (q_sI s 23 5 ((((s.2.1 23 5) &&& (-131)) ||| 0) ||| 0)) c n))) 4 (fun _ _ => rfl) ?_
      exact q_RT_ret rfl rfl rfl
def dz_N149_87_t (s : q_S) (a1 : Int32) : q_S :=
  (q_sI s 23 5 ((s.2.1 23 5) ||| a1))
set_option maxHeartbeats 4000000 in
theorem dzt_N149_87_t (s : q_S) (c n : Nat) (a1 : Int32) : q_Ca q_TB0 1 148 [.ref 87, .int a1, .int 1] (q_kN s c n) ((q_oSN c n) (dz_N149_87_t s a1)) := by
  refine q_CaT_of (φ := (q_oSN c n)) (Nat.le_of_ble_eq_true rfl) ?_
  unfold dz_N149_87_t
  refine q_RT_seg (g2 := (9, [(0, .ref 87), (1, .int a1), (2, .int 1)], [.int (s.2.1 23 5), .ref 87], (q_kN s c n))) 5 (fun _ _ => rfl) ?_
  refine q_RT_seg (g2 := (25, [(0, .ref 87), (1, .int a1), (2, .int 1)], [], (q_kN (q_sI s 23 5 ((s.2.1 23 5) ||| a1)) c n))) 4 (fun _ _ => rfl) ?_
  exact q_RT_ret rfl rfl rfl
def dz_N149_87_f (s : q_S) (a1 : Int32) : q_S :=
  (q_sI s 23 5 ((s.2.1 23 5) &&& (a1 ^^^ (-1))))
set_option maxHeartbeats 4000000 in
theorem dzt_N149_87_f (s : q_S) (c n : Nat) (a1 : Int32) : q_Ca q_TB0 1 148 [.ref 87, .int a1, .int 0] (q_kN s c n) ((q_oSN c n) (dz_N149_87_f s a1)) := by
  refine q_CaT_of (φ := (q_oSN c n)) (Nat.le_of_ble_eq_true rfl) ?_
  unfold dz_N149_87_f
  refine q_RT_seg (g2 := (18, [(0, .ref 87), (1, .int a1), (2, .int 0)], [.int (s.2.1 23 5), .ref 87], (q_kN s c n))) 5 (fun _ _ => rfl) ?_
  refine q_RT_seg (g2 := (25, [(0, .ref 87), (1, .int a1), (2, .int 0)], [], (q_kN (q_sI s 23 5 ((s.2.1 23 5) &&& (a1 ^^^ (-1)))) c n))) 5 (fun _ _ => rfl) ?_
  exact q_RT_ret rfl rfl rfl
def dz_N164_87 (s : q_S) (a1 : Int32) : q_S :=
  cond (decide (a1 < 150)) (cond (decide ((s.2.1 23 0) - (s.2.1 23 0) / 2 * 2 = 1)) (q_let (dz_N149_87_t s 1) fun r1 => q_let (dz_N150_87 r1 (((r1.2.1 23 0) / 2) + (128 * ((s.2.1 23 5) &&& 1)))) fun r2 => (q_sI r2.1 23 0 r2.2)) (q_let (dz_N149_87_f s 1) fun r3 => q_let (dz_N150_87 r3 (((r3.2.1 23 0) / 2) + (128 * ((s.2.1 23 5) &&& 1)))) fun r4 => (q_sI r4.1 23 0 r4.2))) (cond (decide (152 < a1)) (cond (decide ((s.2.1 23 0) - (s.2.1 23 0) / 2 * 2 = 1)) (q_let (dz_N149_87_t s 1) fun r5 => q_let (dz_N150_87 r5 (((r5.2.1 23 0) / 2) + (128 * ((s.2.1 23 5) &&& 1)))) fun r6 => (q_sI r6.1 23 0 r6.2)) (q_let (dz_N149_87_f s 1) fun r7 => q_let (dz_N150_87 r7 (((r7.2.1 23 0) / 2) + (128 * ((s.2.1 23 5) &&& 1)))) fun r8 => (q_sI r8.1 23 0 r8.2))) (cond (decide (a1 = 150)) (cond (decide (127 < s.2.1 23 0)) (q_let (dz_N149_87_t s 1) fun r9 => q_let (dz_N150_87 r9 ((2 * (r9.2.1 23 0)) &&& 255)) fun r10 => (q_sI r10.1 23 0 r10.2)) (q_let (dz_N149_87_f s 1) fun r11 => q_let (dz_N150_87 r11 ((2 * (r11.2.1 23 0)) &&& 255)) fun r12 => (q_sI r12.1 23 0 r12.2))) (cond (decide (a1 = 151)) (cond (decide ((s.2.1 23 0) - (s.2.1 23 0) / 2 * 2 = 1)) (q_let (dz_N149_87_t s 1) fun r13 => q_let (dz_N150_87 r13 ((r13.2.1 23 0) / 2)) fun r14 => (q_sI r14.1 23 0 r14.2)) (q_let (dz_N149_87_f s 1) fun r15 => q_let (dz_N150_87 r15 ((r15.2.1 23 0) / 2)) fun r16 => (q_sI r16.1 23 0 r16.2))) (cond (decide (127 < s.2.1 23 0)) (q_let (dz_N149_87_t s 1) fun r17 => q_let (dz_N150_87 r17 (((2 * (r17.2.1 23 0)) + ((s.2.1 23 5) &&& 1)) &&& 255)) fun r18 => (q_sI r18.1 23 0 r18.2)) (q_let (dz_N149_87_f s 1) fun r19 => q_let (dz_N150_87 r19 (((2 * (r19.2.1 23 0)) + ((s.2.1 23 5) &&& 1)) &&& 255)) fun r20 => (q_sI r20.1 23 0 r20.2))))))
set_option maxHeartbeats 4000000 in
theorem dzt_N164_87 (s : q_S) (c n : Nat) (a1 : Int32) : q_Ca q_TB0 2 163 [.ref 87, .int a1] (q_kN s c n) ((q_oSN c n) (dz_N164_87 s a1)) := by
  refine q_CaT_of (φ := (q_oSN c n)) (Nat.le_of_ble_eq_true rfl) ?_
  unfold dz_N164_87
  refine q_RT_seg (g2 := (4, [(0, .ref 87), (1, .int a1)], [.int (s.2.1 23 5)], (q_kN s c n))) 2 (fun _ _ => rfl) ?_
  refine q_RT_seg (g2 := (8, [(2, .int ((s.2.1 23 5) &&& 1)), (0, .ref 87), (1, .int a1)], [.int a1], (q_kN s c n))) 4 (fun _ _ => rfl) ?_
  cases h1 : decide (a1 < 150) with
  | true =>
    refine q_RT_cT ?_
    refine q_RT_st1 (g2 := (155, [(2, .int ((s.2.1 23 5) &&& 1)), (0, .ref 87), (1, .int a1)], [], (q_kN s c n))) rfl (if_pos (Or.inl (Int32.lt_iff_toInt_lt.mp (of_decide_eq_true h1)))) ?_
    refine q_RT_seg (g2 := (161, [(2, .int ((s.2.1 23 5) &&& 1)), (0, .ref 87), (1, .int a1)], [.int (s.2.1 23 0), .int 1, .ref 87], (q_kN s c n))) 4 (fun _ _ => rfl) ?_
    refine q_RT_seg (g2 := (164, [(2, .int ((s.2.1 23 5) &&& 1)), (0, .ref 87), (1, .int a1)], [.int 1, .int ((s.2.1 23 0) - (s.2.1 23 0) / 2 * 2), .int 1, .ref 87], (q_kN s c n))) 3 (fun _ _ => rfl) ?_
    cases h2 : decide ((s.2.1 23 0) - (s.2.1 23 0) / 2 * 2 = 1) with
    | true =>
      refine q_RT_cT ?_
      refine q_RT_rsF (g2 := (167, [(2, .int ((s.2.1 23 5) &&& 1)), (0, .ref 87), (1, .int a1)], [.int 1, .ref 87], (q_kN s c n))) rfl rfl (q_d_neT h2) ?_
      refine q_RT_seg (g2 := (172, [(2, .int ((s.2.1 23 5) &&& 1)), (0, .ref 87), (1, .int a1)], [.int 1, .int 1, .ref 87], (q_kN s c n))) 2 (fun _ _ => rfl) ?_
      refine q_RT_call (v := none) (h2 := (q_kN (dz_N149_87_t s 1) c n)) rfl rfl ((dzt_N149_87_t s c n 1).le (Nat.le_of_ble_eq_true rfl)) ?_
      generalize dz_N149_87_t s 1 = r1
      refine q_RT_let ?_
      show q_RT _ _ _ (175, [(2, .int ((s.2.1 23 5) &&& 1)), (0, .ref 87), (1, .int a1)], [], (q_kN r1 c n)) _ _
      refine q_RT_seg (g2 := (181, [(2, .int ((s.2.1 23 5) &&& 1)), (0, .ref 87), (1, .int a1)], [.int (r1.2.1 23 0), .ref 87, .ref 87], (q_kN r1 c n))) 4 (fun _ _ => rfl) ?_
      refine q_RT_seg (g2 := (189, [(2, .int ((s.2.1 23 5) &&& 1)), (0, .ref 87), (1, .int a1)], [.int (((r1.2.1 23 0) / 2) + (128 * ((s.2.1 23 5) &&& 1))), .ref 87, .ref 87], (q_kN r1 c n))) 6 (fun _ _ => rfl) ?_
      refine q_RT_call (v := (some (.int (dz_N150_87 r1 (((r1.2.1 23 0) / 2) + (128 * ((s.2.1 23 5) &&& 1)))).2))) (h2 := (q_kN (dz_N150_87 r1 (((r1.2.1 23 0) / 2) + (128 * ((s.2.1 23 5) &&& 1)))).1 c n)) rfl rfl ((dzt_N150_87 r1 c n (((r1.2.1 23 0) / 2) + (128 * ((s.2.1 23 5) &&& 1)))).le (Nat.le_of_ble_eq_true rfl)) ?_
      generalize dz_N150_87 r1 (((r1.2.1 23 0) / 2) + (128 * ((s.2.1 23 5) &&& 1))) = r2
      refine q_RT_let ?_
      show q_RT _ _ _ (192, [(2, .int ((s.2.1 23 5) &&& 1)), (0, .ref 87), (1, .int a1)], [.int r2.2, .ref 87], (q_kN r2.1 c n)) _ _
      refine q_RT_seg (g2 := (195, [(2, .int ((s.2.1 23 5) &&& 1)), (0, .ref 87), (1, .int a1)], [], (q_kN (q_sI r2.1 23 0 r2.2) c n))) 1 (fun _ _ => rfl) ?_
      exact q_RT_ret rfl rfl rfl
    | false =>
      refine q_RT_cF ?_
      refine q_RT_rsT (g2 := (171, [(2, .int ((s.2.1 23 5) &&& 1)), (0, .ref 87), (1, .int a1)], [.int 1, .ref 87], (q_kN s c n))) rfl rfl (q_d_neF h2) ?_
      refine q_RT_seg (g2 := (172, [(2, .int ((s.2.1 23 5) &&& 1)), (0, .ref 87), (1, .int a1)], [.int 0, .int 1, .ref 87], (q_kN s c n))) 1 (fun _ _ => rfl) ?_
      refine q_RT_call (v := none) (h2 := (q_kN (dz_N149_87_f s 1) c n)) rfl rfl ((dzt_N149_87_f s c n 1).le (Nat.le_of_ble_eq_true rfl)) ?_
      generalize dz_N149_87_f s 1 = r3
      refine q_RT_let ?_
      show q_RT _ _ _ (175, [(2, .int ((s.2.1 23 5) &&& 1)), (0, .ref 87), (1, .int a1)], [], (q_kN r3 c n)) _ _
      refine q_RT_seg (g2 := (181, [(2, .int ((s.2.1 23 5) &&& 1)), (0, .ref 87), (1, .int a1)], [.int (r3.2.1 23 0), .ref 87, .ref 87], (q_kN r3 c n))) 4 (fun _ _ => rfl) ?_
      refine q_RT_seg (g2 := (189, [(2, .int ((s.2.1 23 5) &&& 1)), (0, .ref 87), (1, .int a1)], [.int (((r3.2.1 23 0) / 2) + (128 * ((s.2.1 23 5) &&& 1))), .ref 87, .ref 87], (q_kN r3 c n))) 6 (fun _ _ => rfl) ?_
      refine q_RT_call (v := (some (.int (dz_N150_87 r3 (((r3.2.1 23 0) / 2) + (128 * ((s.2.1 23 5) &&& 1)))).2))) (h2 := (q_kN (dz_N150_87 r3 (((r3.2.1 23 0) / 2) + (128 * ((s.2.1 23 5) &&& 1)))).1 c n)) rfl rfl ((dzt_N150_87 r3 c n (((r3.2.1 23 0) / 2) + (128 * ((s.2.1 23 5) &&& 1)))).le (Nat.le_of_ble_eq_true rfl)) ?_
      generalize dz_N150_87 r3 (((r3.2.1 23 0) / 2) + (128 * ((s.2.1 23 5) &&& 1))) = r4
      refine q_RT_let ?_
      show q_RT _ _ _ (192, [(2, .int ((s.2.1 23 5) &&& 1)), (0, .ref 87), (1, .int a1)], [.int r4.2, .ref 87], (q_kN r4.1 c n)) _ _
      refine q_RT_seg (g2 := (195, [(2, .int ((s.2.1 23 5) &&& 1)), (0, .ref 87), (1, .int a1)], [], (q_kN (q_sI r4.1 23 0 r4.2) c n))) 1 (fun _ _ => rfl) ?_
      exact q_RT_ret rfl rfl rfl
  | false =>
    refine q_RT_cF ?_
    cases h3 : decide (152 < a1) with
    | true =>
      refine q_RT_cT ?_
      refine q_RT_st1 (g2 := (155, [(2, .int ((s.2.1 23 5) &&& 1)), (0, .ref 87), (1, .int a1)], [], (q_kN s c n))) rfl (if_pos (Or.inr (Int32.lt_iff_toInt_lt.mp (of_decide_eq_true h3)))) ?_
      refine q_RT_seg (g2 := (161, [(2, .int ((s.2.1 23 5) &&& 1)), (0, .ref 87), (1, .int a1)], [.int (s.2.1 23 0), .int 1, .ref 87], (q_kN s c n))) 4 (fun _ _ => rfl) ?_
      refine q_RT_seg (g2 := (164, [(2, .int ((s.2.1 23 5) &&& 1)), (0, .ref 87), (1, .int a1)], [.int 1, .int ((s.2.1 23 0) - (s.2.1 23 0) / 2 * 2), .int 1, .ref 87], (q_kN s c n))) 3 (fun _ _ => rfl) ?_
      cases h4 : decide ((s.2.1 23 0) - (s.2.1 23 0) / 2 * 2 = 1) with
      | true =>
        refine q_RT_cT ?_
        refine q_RT_rsF (g2 := (167, [(2, .int ((s.2.1 23 5) &&& 1)), (0, .ref 87), (1, .int a1)], [.int 1, .ref 87], (q_kN s c n))) rfl rfl (q_d_neT h4) ?_
        refine q_RT_seg (g2 := (172, [(2, .int ((s.2.1 23 5) &&& 1)), (0, .ref 87), (1, .int a1)], [.int 1, .int 1, .ref 87], (q_kN s c n))) 2 (fun _ _ => rfl) ?_
        refine q_RT_call (v := none) (h2 := (q_kN (dz_N149_87_t s 1) c n)) rfl rfl ((dzt_N149_87_t s c n 1).le (Nat.le_of_ble_eq_true rfl)) ?_
        generalize dz_N149_87_t s 1 = r5
        refine q_RT_let ?_
        show q_RT _ _ _ (175, [(2, .int ((s.2.1 23 5) &&& 1)), (0, .ref 87), (1, .int a1)], [], (q_kN r5 c n)) _ _
        refine q_RT_seg (g2 := (181, [(2, .int ((s.2.1 23 5) &&& 1)), (0, .ref 87), (1, .int a1)], [.int (r5.2.1 23 0), .ref 87, .ref 87], (q_kN r5 c n))) 4 (fun _ _ => rfl) ?_
        refine q_RT_seg (g2 := (189, [(2, .int ((s.2.1 23 5) &&& 1)), (0, .ref 87), (1, .int a1)], [.int (((r5.2.1 23 0) / 2) + (128 * ((s.2.1 23 5) &&& 1))), .ref 87, .ref 87], (q_kN r5 c n))) 6 (fun _ _ => rfl) ?_
        refine q_RT_call (v := (some (.int (dz_N150_87 r5 (((r5.2.1 23 0) / 2) + (128 * ((s.2.1 23 5) &&& 1)))).2))) (h2 := (q_kN (dz_N150_87 r5 (((r5.2.1 23 0) / 2) + (128 * ((s.2.1 23 5) &&& 1)))).1 c n)) rfl rfl ((dzt_N150_87 r5 c n (((r5.2.1 23 0) / 2) + (128 * ((s.2.1 23 5) &&& 1)))).le (Nat.le_of_ble_eq_true rfl)) ?_
        generalize dz_N150_87 r5 (((r5.2.1 23 0) / 2) + (128 * ((s.2.1 23 5) &&& 1))) = r6
        refine q_RT_let ?_
        show q_RT _ _ _ (192, [(2, .int ((s.2.1 23 5) &&& 1)), (0, .ref 87), (1, .int a1)], [.int r6.2, .ref 87], (q_kN r6.1 c n)) _ _
        refine q_RT_seg (g2 := (195, [(2, .int ((s.2.1 23 5) &&& 1)), (0, .ref 87), (1, .int a1)], [], (q_kN (q_sI r6.1 23 0 r6.2) c n))) 1 (fun _ _ => rfl) ?_
        exact q_RT_ret rfl rfl rfl
      | false =>
        refine q_RT_cF ?_
        refine q_RT_rsT (g2 := (171, [(2, .int ((s.2.1 23 5) &&& 1)), (0, .ref 87), (1, .int a1)], [.int 1, .ref 87], (q_kN s c n))) rfl rfl (q_d_neF h4) ?_
        refine q_RT_seg (g2 := (172, [(2, .int ((s.2.1 23 5) &&& 1)), (0, .ref 87), (1, .int a1)], [.int 0, .int 1, .ref 87], (q_kN s c n))) 1 (fun _ _ => rfl) ?_
        refine q_RT_call (v := none) (h2 := (q_kN (dz_N149_87_f s 1) c n)) rfl rfl ((dzt_N149_87_f s c n 1).le (Nat.le_of_ble_eq_true rfl)) ?_
        generalize dz_N149_87_f s 1 = r7
        refine q_RT_let ?_
        show q_RT _ _ _ (175, [(2, .int ((s.2.1 23 5) &&& 1)), (0, .ref 87), (1, .int a1)], [], (q_kN r7 c n)) _ _
        refine q_RT_seg (g2 := (181, [(2, .int ((s.2.1 23 5) &&& 1)), (0, .ref 87), (1, .int a1)], [.int (r7.2.1 23 0), .ref 87, .ref 87], (q_kN r7 c n))) 4 (fun _ _ => rfl) ?_
        refine q_RT_seg (g2 := (189, [(2, .int ((s.2.1 23 5) &&& 1)), (0, .ref 87), (1, .int a1)], [.int (((r7.2.1 23 0) / 2) + (128 * ((s.2.1 23 5) &&& 1))), .ref 87, .ref 87], (q_kN r7 c n))) 6 (fun _ _ => rfl) ?_
        refine q_RT_call (v := (some (.int (dz_N150_87 r7 (((r7.2.1 23 0) / 2) + (128 * ((s.2.1 23 5) &&& 1)))).2))) (h2 := (q_kN (dz_N150_87 r7 (((r7.2.1 23 0) / 2) + (128 * ((s.2.1 23 5) &&& 1)))).1 c n)) rfl rfl ((dzt_N150_87 r7 c n (((r7.2.1 23 0) / 2) + (128 * ((s.2.1 23 5) &&& 1)))).le (Nat.le_of_ble_eq_true rfl)) ?_
        generalize dz_N150_87 r7 (((r7.2.1 23 0) / 2) + (128 * ((s.2.1 23 5) &&& 1))) = r8
        refine q_RT_let ?_
        show q_RT _ _ _ (192, [(2, .int ((s.2.1 23 5) &&& 1)), (0, .ref 87), (1, .int a1)], [.int r8.2, .ref 87], (q_kN r8.1 c n)) _ _
        refine q_RT_seg (g2 := (195, [(2, .int ((s.2.1 23 5) &&& 1)), (0, .ref 87), (1, .int a1)], [], (q_kN (q_sI r8.1 23 0 r8.2) c n))) 1 (fun _ _ => rfl) ?_
        exact q_RT_ret rfl rfl rfl
    | false =>
      refine q_RT_cF ?_
      cases h5 : decide (a1 = 150) with
      | true =>
        refine q_RT_cT ?_
        refine q_RT_st1 (g2 := (36, [(2, .int ((s.2.1 23 5) &&& 1)), (0, .ref 87), (1, .int a1)], [], (q_kN s c n))) rfl (by rw [of_decide_eq_true h5]; rfl) ?_
        refine q_RT_seg (g2 := (42, [(2, .int ((s.2.1 23 5) &&& 1)), (0, .ref 87), (1, .int a1)], [.int (s.2.1 23 0), .int 1, .ref 87], (q_kN s c n))) 4 (fun _ _ => rfl) ?_
        refine q_RT_seg (g2 := (44, [(2, .int ((s.2.1 23 5) &&& 1)), (0, .ref 87), (1, .int a1)], [.int 127, .int (s.2.1 23 0), .int 1, .ref 87], (q_kN s c n))) 1 (fun _ _ => rfl) ?_
        cases h6 : decide (127 < s.2.1 23 0) with
        | true =>
          refine q_RT_cT ?_
          refine q_RT_rsF (g2 := (47, [(2, .int ((s.2.1 23 5) &&& 1)), (0, .ref 87), (1, .int a1)], [.int 1, .ref 87], (q_kN s c n))) rfl rfl (q_d_geT h6) ?_
          refine q_RT_seg (g2 := (52, [(2, .int ((s.2.1 23 5) &&& 1)), (0, .ref 87), (1, .int a1)], [.int 1, .int 1, .ref 87], (q_kN s c n))) 2 (fun _ _ => rfl) ?_
          refine q_RT_call (v := none) (h2 := (q_kN (dz_N149_87_t s 1) c n)) rfl rfl ((dzt_N149_87_t s c n 1).le (Nat.le_of_ble_eq_true rfl)) ?_
          generalize dz_N149_87_t s 1 = r9
          refine q_RT_let ?_
          show q_RT _ _ _ (55, [(2, .int ((s.2.1 23 5) &&& 1)), (0, .ref 87), (1, .int a1)], [], (q_kN r9 c n)) _ _
          refine q_RT_seg (g2 := (62, [(2, .int ((s.2.1 23 5) &&& 1)), (0, .ref 87), (1, .int a1)], [.int (r9.2.1 23 0), .int 2, .ref 87, .ref 87], (q_kN r9 c n))) 5 (fun _ _ => rfl) ?_
          refine q_RT_seg (g2 := (67, [(2, .int ((s.2.1 23 5) &&& 1)), (0, .ref 87), (1, .int a1)], [.int ((2 * (r9.2.1 23 0)) &&& 255), .ref 87, .ref 87], (q_kN r9 c n))) 3 (fun _ _ => rfl) ?_
          refine q_RT_call (v := (some (.int (dz_N150_87 r9 ((2 * (r9.2.1 23 0)) &&& 255)).2))) (h2 := (q_kN (dz_N150_87 r9 ((2 * (r9.2.1 23 0)) &&& 255)).1 c n)) rfl rfl ((dzt_N150_87 r9 c n ((2 * (r9.2.1 23 0)) &&& 255)).le (Nat.le_of_ble_eq_true rfl)) ?_
          generalize dz_N150_87 r9 ((2 * (r9.2.1 23 0)) &&& 255) = r10
          refine q_RT_let ?_
          show q_RT _ _ _ (70, [(2, .int ((s.2.1 23 5) &&& 1)), (0, .ref 87), (1, .int a1)], [.int r10.2, .ref 87], (q_kN r10.1 c n)) _ _
          refine q_RT_seg (g2 := (195, [(2, .int ((s.2.1 23 5) &&& 1)), (0, .ref 87), (1, .int a1)], [], (q_kN (q_sI r10.1 23 0 r10.2) c n))) 2 (fun _ _ => rfl) ?_
          exact q_RT_ret rfl rfl rfl
        | false =>
          refine q_RT_cF ?_
          refine q_RT_rsT (g2 := (51, [(2, .int ((s.2.1 23 5) &&& 1)), (0, .ref 87), (1, .int a1)], [.int 1, .ref 87], (q_kN s c n))) rfl rfl (q_d_geF h6) ?_
          refine q_RT_seg (g2 := (52, [(2, .int ((s.2.1 23 5) &&& 1)), (0, .ref 87), (1, .int a1)], [.int 0, .int 1, .ref 87], (q_kN s c n))) 1 (fun _ _ => rfl) ?_
          refine q_RT_call (v := none) (h2 := (q_kN (dz_N149_87_f s 1) c n)) rfl rfl ((dzt_N149_87_f s c n 1).le (Nat.le_of_ble_eq_true rfl)) ?_
          generalize dz_N149_87_f s 1 = r11
          refine q_RT_let ?_
          show q_RT _ _ _ (55, [(2, .int ((s.2.1 23 5) &&& 1)), (0, .ref 87), (1, .int a1)], [], (q_kN r11 c n)) _ _
          refine q_RT_seg (g2 := (62, [(2, .int ((s.2.1 23 5) &&& 1)), (0, .ref 87), (1, .int a1)], [.int (r11.2.1 23 0), .int 2, .ref 87, .ref 87], (q_kN r11 c n))) 5 (fun _ _ => rfl) ?_
          refine q_RT_seg (g2 := (67, [(2, .int ((s.2.1 23 5) &&& 1)), (0, .ref 87), (1, .int a1)], [.int ((2 * (r11.2.1 23 0)) &&& 255), .ref 87, .ref 87], (q_kN r11 c n))) 3 (fun _ _ => rfl) ?_
          refine q_RT_call (v := (some (.int (dz_N150_87 r11 ((2 * (r11.2.1 23 0)) &&& 255)).2))) (h2 := (q_kN (dz_N150_87 r11 ((2 * (r11.2.1 23 0)) &&& 255)).1 c n)) rfl rfl ((dzt_N150_87 r11 c n ((2 * (r11.2.1 23 0)) &&& 255)).le (Nat.le_of_ble_eq_true rfl)) ?_
          generalize dz_N150_87 r11 ((2 * (r11.2.1 23 0)) &&& 255) = r12
          refine q_RT_let ?_
          show q_RT _ _ _ (70, [(2, .int ((s.2.1 23 5) &&& 1)), (0, .ref 87), (1, .int a1)], [.int r12.2, .ref 87], (q_kN r12.1 c n)) _ _
          refine q_RT_seg (g2 := (195, [(2, .int ((s.2.1 23 5) &&& 1)), (0, .ref 87), (1, .int a1)], [], (q_kN (q_sI r12.1 23 0 r12.2) c n))) 2 (fun _ _ => rfl) ?_
          exact q_RT_ret rfl rfl rfl
      | false =>
        refine q_RT_cF ?_
        cases h7 : decide (a1 = 151) with
        | true =>
          refine q_RT_cT ?_
          refine q_RT_st1 (g2 := (76, [(2, .int ((s.2.1 23 5) &&& 1)), (0, .ref 87), (1, .int a1)], [], (q_kN s c n))) rfl (by rw [of_decide_eq_true h7]; rfl) ?_
          refine q_RT_seg (g2 := (82, [(2, .int ((s.2.1 23 5) &&& 1)), (0, .ref 87), (1, .int a1)], [.int (s.2.1 23 0), .int 1, .ref 87], (q_kN s c n))) 4 (fun _ _ => rfl) ?_
          refine q_RT_seg (g2 := (85, [(2, .int ((s.2.1 23 5) &&& 1)), (0, .ref 87), (1, .int a1)], [.int 1, .int ((s.2.1 23 0) - (s.2.1 23 0) / 2 * 2), .int 1, .ref 87], (q_kN s c n))) 3 (fun _ _ => rfl) ?_
          cases h8 : decide ((s.2.1 23 0) - (s.2.1 23 0) / 2 * 2 = 1) with
          | true =>
            refine q_RT_cT ?_
            refine q_RT_rsF (g2 := (88, [(2, .int ((s.2.1 23 5) &&& 1)), (0, .ref 87), (1, .int a1)], [.int 1, .ref 87], (q_kN s c n))) rfl rfl (q_d_neT h8) ?_
            refine q_RT_seg (g2 := (93, [(2, .int ((s.2.1 23 5) &&& 1)), (0, .ref 87), (1, .int a1)], [.int 1, .int 1, .ref 87], (q_kN s c n))) 2 (fun _ _ => rfl) ?_
            refine q_RT_call (v := none) (h2 := (q_kN (dz_N149_87_t s 1) c n)) rfl rfl ((dzt_N149_87_t s c n 1).le (Nat.le_of_ble_eq_true rfl)) ?_
            generalize dz_N149_87_t s 1 = r13
            refine q_RT_let ?_
            show q_RT _ _ _ (96, [(2, .int ((s.2.1 23 5) &&& 1)), (0, .ref 87), (1, .int a1)], [], (q_kN r13 c n)) _ _
            refine q_RT_seg (g2 := (102, [(2, .int ((s.2.1 23 5) &&& 1)), (0, .ref 87), (1, .int a1)], [.int (r13.2.1 23 0), .ref 87, .ref 87], (q_kN r13 c n))) 4 (fun _ _ => rfl) ?_
            refine q_RT_seg (g2 := (104, [(2, .int ((s.2.1 23 5) &&& 1)), (0, .ref 87), (1, .int a1)], [.int ((r13.2.1 23 0) / 2), .ref 87, .ref 87], (q_kN r13 c n))) 2 (fun _ _ => rfl) ?_
            refine q_RT_call (v := (some (.int (dz_N150_87 r13 ((r13.2.1 23 0) / 2)).2))) (h2 := (q_kN (dz_N150_87 r13 ((r13.2.1 23 0) / 2)).1 c n)) rfl rfl ((dzt_N150_87 r13 c n ((r13.2.1 23 0) / 2)).le (Nat.le_of_ble_eq_true rfl)) ?_
            generalize dz_N150_87 r13 ((r13.2.1 23 0) / 2) = r14
            refine q_RT_let ?_
            show q_RT _ _ _ (107, [(2, .int ((s.2.1 23 5) &&& 1)), (0, .ref 87), (1, .int a1)], [.int r14.2, .ref 87], (q_kN r14.1 c n)) _ _
            refine q_RT_seg (g2 := (195, [(2, .int ((s.2.1 23 5) &&& 1)), (0, .ref 87), (1, .int a1)], [], (q_kN (q_sI r14.1 23 0 r14.2) c n))) 2 (fun _ _ => rfl) ?_
            exact q_RT_ret rfl rfl rfl
          | false =>
            refine q_RT_cF ?_
            refine q_RT_rsT (g2 := (92, [(2, .int ((s.2.1 23 5) &&& 1)), (0, .ref 87), (1, .int a1)], [.int 1, .ref 87], (q_kN s c n))) rfl rfl (q_d_neF h8) ?_
            refine q_RT_seg (g2 := (93, [(2, .int ((s.2.1 23 5) &&& 1)), (0, .ref 87), (1, .int a1)], [.int 0, .int 1, .ref 87], (q_kN s c n))) 1 (fun _ _ => rfl) ?_
            refine q_RT_call (v := none) (h2 := (q_kN (dz_N149_87_f s 1) c n)) rfl rfl ((dzt_N149_87_f s c n 1).le (Nat.le_of_ble_eq_true rfl)) ?_
            generalize dz_N149_87_f s 1 = r15
            refine q_RT_let ?_
            show q_RT _ _ _ (96, [(2, .int ((s.2.1 23 5) &&& 1)), (0, .ref 87), (1, .int a1)], [], (q_kN r15 c n)) _ _
            refine q_RT_seg (g2 := (102, [(2, .int ((s.2.1 23 5) &&& 1)), (0, .ref 87), (1, .int a1)], [.int (r15.2.1 23 0), .ref 87, .ref 87], (q_kN r15 c n))) 4 (fun _ _ => rfl) ?_
            refine q_RT_seg (g2 := (104, [(2, .int ((s.2.1 23 5) &&& 1)), (0, .ref 87), (1, .int a1)], [.int ((r15.2.1 23 0) / 2), .ref 87, .ref 87], (q_kN r15 c n))) 2 (fun _ _ => rfl) ?_
            refine q_RT_call (v := (some (.int (dz_N150_87 r15 ((r15.2.1 23 0) / 2)).2))) (h2 := (q_kN (dz_N150_87 r15 ((r15.2.1 23 0) / 2)).1 c n)) rfl rfl ((dzt_N150_87 r15 c n ((r15.2.1 23 0) / 2)).le (Nat.le_of_ble_eq_true rfl)) ?_
            generalize dz_N150_87 r15 ((r15.2.1 23 0) / 2) = r16
            refine q_RT_let ?_
            show q_RT _ _ _ (107, [(2, .int ((s.2.1 23 5) &&& 1)), (0, .ref 87), (1, .int a1)], [.int r16.2, .ref 87], (q_kN r16.1 c n)) _ _
            refine q_RT_seg (g2 := (195, [(2, .int ((s.2.1 23 5) &&& 1)), (0, .ref 87), (1, .int a1)], [], (q_kN (q_sI r16.1 23 0 r16.2) c n))) 2 (fun _ _ => rfl) ?_
            exact q_RT_ret rfl rfl rfl
        | false =>
          refine q_RT_cF ?_
          have h9 : a1 = 152 := Int32.toInt_inj.mp (by have e0 := q_neI h5 (n := 150); have e1 := q_neI h7 (n := 151); have l1 : 150 ≤ (a1).toInt := q_lo1 h1; have l2 : (a1).toInt ≤ 152 := q_hi2 h3; show (a1).toInt = 152; omega)
          refine q_RT_st1 (g2 := (113, [(2, .int ((s.2.1 23 5) &&& 1)), (0, .ref 87), (1, .int a1)], [], (q_kN s c n))) rfl (by rw [h9]; rfl) ?_
          refine q_RT_seg (g2 := (119, [(2, .int ((s.2.1 23 5) &&& 1)), (0, .ref 87), (1, .int a1)], [.int (s.2.1 23 0), .int 1, .ref 87], (q_kN s c n))) 4 (fun _ _ => rfl) ?_
          refine q_RT_seg (g2 := (121, [(2, .int ((s.2.1 23 5) &&& 1)), (0, .ref 87), (1, .int a1)], [.int 127, .int (s.2.1 23 0), .int 1, .ref 87], (q_kN s c n))) 1 (fun _ _ => rfl) ?_
          cases h10 : decide (127 < s.2.1 23 0) with
          | true =>
            refine q_RT_cT ?_
            refine q_RT_rsF (g2 := (124, [(2, .int ((s.2.1 23 5) &&& 1)), (0, .ref 87), (1, .int a1)], [.int 1, .ref 87], (q_kN s c n))) rfl rfl (q_d_geT h10) ?_
            refine q_RT_seg (g2 := (129, [(2, .int ((s.2.1 23 5) &&& 1)), (0, .ref 87), (1, .int a1)], [.int 1, .int 1, .ref 87], (q_kN s c n))) 2 (fun _ _ => rfl) ?_
            refine q_RT_call (v := none) (h2 := (q_kN (dz_N149_87_t s 1) c n)) rfl rfl ((dzt_N149_87_t s c n 1).le (Nat.le_of_ble_eq_true rfl)) ?_
            generalize dz_N149_87_t s 1 = r17
            refine q_RT_let ?_
            show q_RT _ _ _ (132, [(2, .int ((s.2.1 23 5) &&& 1)), (0, .ref 87), (1, .int a1)], [], (q_kN r17 c n)) _ _
            refine q_RT_seg (g2 := (139, [(2, .int ((s.2.1 23 5) &&& 1)), (0, .ref 87), (1, .int a1)], [.int (r17.2.1 23 0), .int 2, .ref 87, .ref 87], (q_kN r17 c n))) 5 (fun _ _ => rfl) ?_
            refine q_RT_seg (g2 := (146, [(2, .int ((s.2.1 23 5) &&& 1)), (0, .ref 87), (1, .int a1)], [.int (((2 * (r17.2.1 23 0)) + ((s.2.1 23 5) &&& 1)) &&& 255), .ref 87, .ref 87], (q_kN r17 c n))) 5 (fun _ _ => rfl) ?_
            refine q_RT_call (v := (some (.int (dz_N150_87 r17 (((2 * (r17.2.1 23 0)) + ((s.2.1 23 5) &&& 1)) &&& 255)).2))) (h2 := (q_kN (dz_N150_87 r17 (((2 * (r17.2.1 23 0)) + ((s.2.1 23 5) &&& 1)) &&& 255)).1 c n)) rfl rfl ((dzt_N150_87 r17 c n (((2 * (r17.2.1 23 0)) + ((s.2.1 23 5) &&& 1)) &&& 255)).le (Nat.le_of_ble_eq_true rfl)) ?_
            generalize dz_N150_87 r17 (((2 * (r17.2.1 23 0)) + ((s.2.1 23 5) &&& 1)) &&& 255) = r18
            refine q_RT_let ?_
            show q_RT _ _ _ (149, [(2, .int ((s.2.1 23 5) &&& 1)), (0, .ref 87), (1, .int a1)], [.int r18.2, .ref 87], (q_kN r18.1 c n)) _ _
            refine q_RT_seg (g2 := (195, [(2, .int ((s.2.1 23 5) &&& 1)), (0, .ref 87), (1, .int a1)], [], (q_kN (q_sI r18.1 23 0 r18.2) c n))) 2 (fun _ _ => rfl) ?_
            exact q_RT_ret rfl rfl rfl
          | false =>
            refine q_RT_cF ?_
            refine q_RT_rsT (g2 := (128, [(2, .int ((s.2.1 23 5) &&& 1)), (0, .ref 87), (1, .int a1)], [.int 1, .ref 87], (q_kN s c n))) rfl rfl (q_d_geF h10) ?_
            refine q_RT_seg (g2 := (129, [(2, .int ((s.2.1 23 5) &&& 1)), (0, .ref 87), (1, .int a1)], [.int 0, .int 1, .ref 87], (q_kN s c n))) 1 (fun _ _ => rfl) ?_
            refine q_RT_call (v := none) (h2 := (q_kN (dz_N149_87_f s 1) c n)) rfl rfl ((dzt_N149_87_f s c n 1).le (Nat.le_of_ble_eq_true rfl)) ?_
            generalize dz_N149_87_f s 1 = r19
            refine q_RT_let ?_
            show q_RT _ _ _ (132, [(2, .int ((s.2.1 23 5) &&& 1)), (0, .ref 87), (1, .int a1)], [], (q_kN r19 c n)) _ _
            refine q_RT_seg (g2 := (139, [(2, .int ((s.2.1 23 5) &&& 1)), (0, .ref 87), (1, .int a1)], [.int (r19.2.1 23 0), .int 2, .ref 87, .ref 87], (q_kN r19 c n))) 5 (fun _ _ => rfl) ?_
            refine q_RT_seg (g2 := (146, [(2, .int ((s.2.1 23 5) &&& 1)), (0, .ref 87), (1, .int a1)], [.int (((2 * (r19.2.1 23 0)) + ((s.2.1 23 5) &&& 1)) &&& 255), .ref 87, .ref 87], (q_kN r19 c n))) 5 (fun _ _ => rfl) ?_
            refine q_RT_call (v := (some (.int (dz_N150_87 r19 (((2 * (r19.2.1 23 0)) + ((s.2.1 23 5) &&& 1)) &&& 255)).2))) (h2 := (q_kN (dz_N150_87 r19 (((2 * (r19.2.1 23 0)) + ((s.2.1 23 5) &&& 1)) &&& 255)).1 c n)) rfl rfl ((dzt_N150_87 r19 c n (((2 * (r19.2.1 23 0)) + ((s.2.1 23 5) &&& 1)) &&& 255)).le (Nat.le_of_ble_eq_true rfl)) ?_
            generalize dz_N150_87 r19 (((2 * (r19.2.1 23 0)) + ((s.2.1 23 5) &&& 1)) &&& 255) = r20
            refine q_RT_let ?_
            show q_RT _ _ _ (149, [(2, .int ((s.2.1 23 5) &&& 1)), (0, .ref 87), (1, .int a1)], [.int r20.2, .ref 87], (q_kN r20.1 c n)) _ _
            refine q_RT_seg (g2 := (195, [(2, .int ((s.2.1 23 5) &&& 1)), (0, .ref 87), (1, .int a1)], [], (q_kN (q_sI r20.1 23 0 r20.2) c n))) 2 (fun _ _ => rfl) ?_
            exact q_RT_ret rfl rfl rfl
def dz_N163_87 (s : q_S) (a1 : Int32) : q_S :=
  cond (decide (a1 < 142)) (q_let (dz_N149_87_f s 64) fun r1 => r1) (cond (decide (147 < a1)) (q_let (dz_N149_87_f s 64) fun r2 => r2) (cond (decide (a1 = 142)) (q_let (dz_N149_87_t s 1) fun r3 => r3) (cond (decide (a1 = 143)) (q_let (dz_N149_87_f s 1) fun r4 => r4) (cond (decide (a1 = 144)) (q_let (dz_N149_87_t s 8) fun r5 => r5) (cond (decide (a1 = 145)) (q_let (dz_N149_87_f s 8) fun r6 => r6) (cond (decide (a1 = 146)) (q_let (dz_N149_87_t s 4) fun r7 => r7) (q_let (dz_N149_87_f s 4) fun r8 => r8)))))))
set_option maxHeartbeats 4000000 in
theorem dzt_N163_87 (s : q_S) (c n : Nat) (a1 : Int32) : q_Ca q_TB0 2 162 [.ref 87, .int a1] (q_kN s c n) ((q_oSN c n) (dz_N163_87 s a1)) := by
  refine q_CaT_of (φ := (q_oSN c n)) (Nat.le_of_ble_eq_true rfl) ?_
  unfold dz_N163_87
  refine q_RT_seg (g2 := (1, [(0, .ref 87), (1, .int a1)], [.int a1], (q_kN s c n))) 1 (fun _ _ => rfl) ?_
  cases h1 : decide (a1 < 142) with
  | true =>
    refine q_RT_cT ?_
    refine q_RT_st1 (g2 := (96, [(0, .ref 87), (1, .int a1)], [], (q_kN s c n))) rfl (if_pos (Or.inl (Int32.lt_iff_toInt_lt.mp (of_decide_eq_true h1)))) ?_
    refine q_RT_seg (g2 := (100, [(0, .ref 87), (1, .int a1)], [.int 0, .int 64, .ref 87], (q_kN s c n))) 3 (fun _ _ => rfl) ?_
    refine q_RT_call (v := none) (h2 := (q_kN (dz_N149_87_f s 64) c n)) rfl rfl ((dzt_N149_87_f s c n 64).le (Nat.le_of_ble_eq_true rfl)) ?_
    generalize dz_N149_87_f s 64 = r1
    refine q_RT_let ?_
    show q_RT _ _ _ (103, [(0, .ref 87), (1, .int a1)], [], (q_kN r1 c n)) _ _
    exact q_RT_ret rfl rfl rfl
  | false =>
    refine q_RT_cF ?_
    cases h2 : decide (147 < a1) with
    | true =>
      refine q_RT_cT ?_
      refine q_RT_st1 (g2 := (96, [(0, .ref 87), (1, .int a1)], [], (q_kN s c n))) rfl (if_pos (Or.inr (Int32.lt_iff_toInt_lt.mp (of_decide_eq_true h2)))) ?_
      refine q_RT_seg (g2 := (100, [(0, .ref 87), (1, .int a1)], [.int 0, .int 64, .ref 87], (q_kN s c n))) 3 (fun _ _ => rfl) ?_
      refine q_RT_call (v := none) (h2 := (q_kN (dz_N149_87_f s 64) c n)) rfl rfl ((dzt_N149_87_f s c n 64).le (Nat.le_of_ble_eq_true rfl)) ?_
      generalize dz_N149_87_f s 64 = r2
      refine q_RT_let ?_
      show q_RT _ _ _ (103, [(0, .ref 87), (1, .int a1)], [], (q_kN r2 c n)) _ _
      exact q_RT_ret rfl rfl rfl
    | false =>
      refine q_RT_cF ?_
      cases h3 : decide (a1 = 142) with
      | true =>
        refine q_RT_cT ?_
        refine q_RT_st1 (g2 := (40, [(0, .ref 87), (1, .int a1)], [], (q_kN s c n))) rfl (by rw [of_decide_eq_true h3]; rfl) ?_
        refine q_RT_seg (g2 := (43, [(0, .ref 87), (1, .int a1)], [.int 1, .int 1, .ref 87], (q_kN s c n))) 3 (fun _ _ => rfl) ?_
        refine q_RT_call (v := none) (h2 := (q_kN (dz_N149_87_t s 1) c n)) rfl rfl ((dzt_N149_87_t s c n 1).le (Nat.le_of_ble_eq_true rfl)) ?_
        generalize dz_N149_87_t s 1 = r3
        refine q_RT_let ?_
        show q_RT _ _ _ (46, [(0, .ref 87), (1, .int a1)], [], (q_kN r3 c n)) _ _
        refine q_RT_seg (g2 := (103, [(0, .ref 87), (1, .int a1)], [], (q_kN r3 c n))) 1 (fun _ _ => rfl) ?_
        exact q_RT_ret rfl rfl rfl
      | false =>
        refine q_RT_cF ?_
        cases h4 : decide (a1 = 143) with
        | true =>
          refine q_RT_cT ?_
          refine q_RT_st1 (g2 := (49, [(0, .ref 87), (1, .int a1)], [], (q_kN s c n))) rfl (by rw [of_decide_eq_true h4]; rfl) ?_
          refine q_RT_seg (g2 := (52, [(0, .ref 87), (1, .int a1)], [.int 0, .int 1, .ref 87], (q_kN s c n))) 3 (fun _ _ => rfl) ?_
          refine q_RT_call (v := none) (h2 := (q_kN (dz_N149_87_f s 1) c n)) rfl rfl ((dzt_N149_87_f s c n 1).le (Nat.le_of_ble_eq_true rfl)) ?_
          generalize dz_N149_87_f s 1 = r4
          refine q_RT_let ?_
          show q_RT _ _ _ (55, [(0, .ref 87), (1, .int a1)], [], (q_kN r4 c n)) _ _
          refine q_RT_seg (g2 := (103, [(0, .ref 87), (1, .int a1)], [], (q_kN r4 c n))) 1 (fun _ _ => rfl) ?_
          exact q_RT_ret rfl rfl rfl
        | false =>
          refine q_RT_cF ?_
          cases h5 : decide (a1 = 144) with
          | true =>
            refine q_RT_cT ?_
            refine q_RT_st1 (g2 := (58, [(0, .ref 87), (1, .int a1)], [], (q_kN s c n))) rfl (by rw [of_decide_eq_true h5]; rfl) ?_
            refine q_RT_seg (g2 := (62, [(0, .ref 87), (1, .int a1)], [.int 1, .int 8, .ref 87], (q_kN s c n))) 3 (fun _ _ => rfl) ?_
            refine q_RT_call (v := none) (h2 := (q_kN (dz_N149_87_t s 8) c n)) rfl rfl ((dzt_N149_87_t s c n 8).le (Nat.le_of_ble_eq_true rfl)) ?_
            generalize dz_N149_87_t s 8 = r5
            refine q_RT_let ?_
            show q_RT _ _ _ (65, [(0, .ref 87), (1, .int a1)], [], (q_kN r5 c n)) _ _
            refine q_RT_seg (g2 := (103, [(0, .ref 87), (1, .int a1)], [], (q_kN r5 c n))) 1 (fun _ _ => rfl) ?_
            exact q_RT_ret rfl rfl rfl
          | false =>
            refine q_RT_cF ?_
            cases h6 : decide (a1 = 145) with
            | true =>
              refine q_RT_cT ?_
              refine q_RT_st1 (g2 := (68, [(0, .ref 87), (1, .int a1)], [], (q_kN s c n))) rfl (by rw [of_decide_eq_true h6]; rfl) ?_
              refine q_RT_seg (g2 := (72, [(0, .ref 87), (1, .int a1)], [.int 0, .int 8, .ref 87], (q_kN s c n))) 3 (fun _ _ => rfl) ?_
              refine q_RT_call (v := none) (h2 := (q_kN (dz_N149_87_f s 8) c n)) rfl rfl ((dzt_N149_87_f s c n 8).le (Nat.le_of_ble_eq_true rfl)) ?_
              generalize dz_N149_87_f s 8 = r6
              refine q_RT_let ?_
              show q_RT _ _ _ (75, [(0, .ref 87), (1, .int a1)], [], (q_kN r6 c n)) _ _
              refine q_RT_seg (g2 := (103, [(0, .ref 87), (1, .int a1)], [], (q_kN r6 c n))) 1 (fun _ _ => rfl) ?_
              exact q_RT_ret rfl rfl rfl
            | false =>
              refine q_RT_cF ?_
              cases h7 : decide (a1 = 146) with
              | true =>
                refine q_RT_cT ?_
                refine q_RT_st1 (g2 := (78, [(0, .ref 87), (1, .int a1)], [], (q_kN s c n))) rfl (by rw [of_decide_eq_true h7]; rfl) ?_
                refine q_RT_seg (g2 := (81, [(0, .ref 87), (1, .int a1)], [.int 1, .int 4, .ref 87], (q_kN s c n))) 3 (fun _ _ => rfl) ?_
                refine q_RT_call (v := none) (h2 := (q_kN (dz_N149_87_t s 4) c n)) rfl rfl ((dzt_N149_87_t s c n 4).le (Nat.le_of_ble_eq_true rfl)) ?_
                generalize dz_N149_87_t s 4 = r7
                refine q_RT_let ?_
                show q_RT _ _ _ (84, [(0, .ref 87), (1, .int a1)], [], (q_kN r7 c n)) _ _
                refine q_RT_seg (g2 := (103, [(0, .ref 87), (1, .int a1)], [], (q_kN r7 c n))) 1 (fun _ _ => rfl) ?_
                exact q_RT_ret rfl rfl rfl
              | false =>
                refine q_RT_cF ?_
                have h8 : a1 = 147 := Int32.toInt_inj.mp (by have e0 := q_neI h3 (n := 142); have e1 := q_neI h4 (n := 143); have e2 := q_neI h5 (n := 144); have e3 := q_neI h6 (n := 145); have e4 := q_neI h7 (n := 146); have l1 : 142 ≤ (a1).toInt := q_lo1 h1; have l2 : (a1).toInt ≤ 147 := q_hi2 h2; show (a1).toInt = 147; omega)
                refine q_RT_st1 (g2 := (87, [(0, .ref 87), (1, .int a1)], [], (q_kN s c n))) rfl (by rw [h8]; rfl) ?_
                refine q_RT_seg (g2 := (90, [(0, .ref 87), (1, .int a1)], [.int 0, .int 4, .ref 87], (q_kN s c n))) 3 (fun _ _ => rfl) ?_
                refine q_RT_call (v := none) (h2 := (q_kN (dz_N149_87_f s 4) c n)) rfl rfl ((dzt_N149_87_f s c n 4).le (Nat.le_of_ble_eq_true rfl)) ?_
                generalize dz_N149_87_f s 4 = r8
                refine q_RT_let ?_
                show q_RT _ _ _ (93, [(0, .ref 87), (1, .int a1)], [], (q_kN r8 c n)) _ _
                refine q_RT_seg (g2 := (103, [(0, .ref 87), (1, .int a1)], [], (q_kN r8 c n))) 1 (fun _ _ => rfl) ?_
                exact q_RT_ret rfl rfl rfl
def dz_N162_87 (s : q_S) (a1 : Int32) : q_S :=
  cond (decide (a1 < 128)) ((q_sI s 23 3 (s.2.1 23 1))) (cond (decide (136 < a1)) ((q_sI s 23 3 (s.2.1 23 1))) (cond (decide (a1 = 128)) (q_let (dz_N150_87 s (((s.2.1 23 1) + 1) &&& 255)) fun r1 => (q_sI r1.1 23 1 r1.2)) (cond (decide (a1 = 129)) (q_let (dz_N150_87 s (((s.2.1 23 1) - 1) &&& 255)) fun r2 => (q_sI r2.1 23 1 r2.2)) (cond (decide (a1 = 130)) (q_let (dz_N150_87 s (((s.2.1 23 2) + 1) &&& 255)) fun r3 => (q_sI r3.1 23 2 r3.2)) (cond (decide (a1 = 131)) (q_let (dz_N150_87 s (((s.2.1 23 2) - 1) &&& 255)) fun r4 => (q_sI r4.1 23 2 r4.2)) (cond (decide (a1 = 132)) (q_let (dz_N150_87 s (s.2.1 23 0)) fun r5 => (q_sI r5.1 23 1 r5.2)) (cond (decide (a1 = 133)) (q_let (dz_N150_87 s (s.2.1 23 1)) fun r6 => (q_sI r6.1 23 0 r6.2)) (cond (decide (a1 = 134)) (q_let (dz_N150_87 s (s.2.1 23 0)) fun r7 => (q_sI r7.1 23 2 r7.2)) (cond (decide (a1 = 135)) (q_let (dz_N150_87 s (s.2.1 23 2)) fun r8 => (q_sI r8.1 23 0 r8.2)) (q_let (dz_N150_87 s (s.2.1 23 3)) fun r9 => (q_sI r9.1 23 1 r9.2)))))))))))
set_option maxHeartbeats 4000000 in
theorem dzt_N162_87 (s : q_S) (c n : Nat) (a1 : Int32) : q_Ca q_TB0 2 161 [.ref 87, .int a1] (q_kN s c n) ((q_oSN c n) (dz_N162_87 s a1)) := by
  refine q_CaT_of (φ := (q_oSN c n)) (Nat.le_of_ble_eq_true rfl) ?_
  unfold dz_N162_87
  refine q_RT_seg (g2 := (1, [(0, .ref 87), (1, .int a1)], [.int a1], (q_kN s c n))) 1 (fun _ _ => rfl) ?_
  cases h1 : decide (a1 < 128) with
  | true =>
    refine q_RT_cT ?_
    refine q_RT_st1 (g2 := (211, [(0, .ref 87), (1, .int a1)], [], (q_kN s c n))) rfl (if_pos (Or.inl (Int32.lt_iff_toInt_lt.mp (of_decide_eq_true h1)))) ?_
    refine q_RT_seg (g2 := (216, [(0, .ref 87), (1, .int a1)], [.int (s.2.1 23 1), .ref 87], (q_kN s c n))) 3 (fun _ _ => rfl) ?_
    refine q_RT_seg (g2 := (219, [(0, .ref 87), (1, .int a1)], [], (q_kN (q_sI s 23 3 (s.2.1 23 1)) c n))) 1 (fun _ _ => rfl) ?_
    exact q_RT_ret rfl rfl rfl
  | false =>
    refine q_RT_cF ?_
    cases h2 : decide (136 < a1) with
    | true =>
      refine q_RT_cT ?_
      refine q_RT_st1 (g2 := (211, [(0, .ref 87), (1, .int a1)], [], (q_kN s c n))) rfl (if_pos (Or.inr (Int32.lt_iff_toInt_lt.mp (of_decide_eq_true h2)))) ?_
      refine q_RT_seg (g2 := (216, [(0, .ref 87), (1, .int a1)], [.int (s.2.1 23 1), .ref 87], (q_kN s c n))) 3 (fun _ _ => rfl) ?_
      refine q_RT_seg (g2 := (219, [(0, .ref 87), (1, .int a1)], [], (q_kN (q_sI s 23 3 (s.2.1 23 1)) c n))) 1 (fun _ _ => rfl) ?_
      exact q_RT_ret rfl rfl rfl
    | false =>
      refine q_RT_cF ?_
      cases h3 : decide (a1 = 128) with
      | true =>
        refine q_RT_cT ?_
        refine q_RT_st1 (g2 := (52, [(0, .ref 87), (1, .int a1)], [], (q_kN s c n))) rfl (by rw [of_decide_eq_true h3]; rfl) ?_
        refine q_RT_seg (g2 := (58, [(0, .ref 87), (1, .int a1)], [.int (s.2.1 23 1), .ref 87, .ref 87], (q_kN s c n))) 4 (fun _ _ => rfl) ?_
        refine q_RT_seg (g2 := (64, [(0, .ref 87), (1, .int a1)], [.int (((s.2.1 23 1) + 1) &&& 255), .ref 87, .ref 87], (q_kN s c n))) 4 (fun _ _ => rfl) ?_
        refine q_RT_call (v := (some (.int (dz_N150_87 s (((s.2.1 23 1) + 1) &&& 255)).2))) (h2 := (q_kN (dz_N150_87 s (((s.2.1 23 1) + 1) &&& 255)).1 c n)) rfl rfl ((dzt_N150_87 s c n (((s.2.1 23 1) + 1) &&& 255)).le (Nat.le_of_ble_eq_true rfl)) ?_
        generalize dz_N150_87 s (((s.2.1 23 1) + 1) &&& 255) = r1
        refine q_RT_let ?_
        show q_RT _ _ _ (67, [(0, .ref 87), (1, .int a1)], [.int r1.2, .ref 87], (q_kN r1.1 c n)) _ _
        refine q_RT_seg (g2 := (219, [(0, .ref 87), (1, .int a1)], [], (q_kN (q_sI r1.1 23 1 r1.2) c n))) 2 (fun _ _ => rfl) ?_
        exact q_RT_ret rfl rfl rfl
      | false =>
        refine q_RT_cF ?_
        cases h4 : decide (a1 = 129) with
        | true =>
          refine q_RT_cT ?_
          refine q_RT_st1 (g2 := (73, [(0, .ref 87), (1, .int a1)], [], (q_kN s c n))) rfl (by rw [of_decide_eq_true h4]; rfl) ?_
          refine q_RT_seg (g2 := (79, [(0, .ref 87), (1, .int a1)], [.int (s.2.1 23 1), .ref 87, .ref 87], (q_kN s c n))) 4 (fun _ _ => rfl) ?_
          refine q_RT_seg (g2 := (85, [(0, .ref 87), (1, .int a1)], [.int (((s.2.1 23 1) - 1) &&& 255), .ref 87, .ref 87], (q_kN s c n))) 4 (fun _ _ => rfl) ?_
          refine q_RT_call (v := (some (.int (dz_N150_87 s (((s.2.1 23 1) - 1) &&& 255)).2))) (h2 := (q_kN (dz_N150_87 s (((s.2.1 23 1) - 1) &&& 255)).1 c n)) rfl rfl ((dzt_N150_87 s c n (((s.2.1 23 1) - 1) &&& 255)).le (Nat.le_of_ble_eq_true rfl)) ?_
          generalize dz_N150_87 s (((s.2.1 23 1) - 1) &&& 255) = r2
          refine q_RT_let ?_
          show q_RT _ _ _ (88, [(0, .ref 87), (1, .int a1)], [.int r2.2, .ref 87], (q_kN r2.1 c n)) _ _
          refine q_RT_seg (g2 := (219, [(0, .ref 87), (1, .int a1)], [], (q_kN (q_sI r2.1 23 1 r2.2) c n))) 2 (fun _ _ => rfl) ?_
          exact q_RT_ret rfl rfl rfl
        | false =>
          refine q_RT_cF ?_
          cases h5 : decide (a1 = 130) with
          | true =>
            refine q_RT_cT ?_
            refine q_RT_st1 (g2 := (94, [(0, .ref 87), (1, .int a1)], [], (q_kN s c n))) rfl (by rw [of_decide_eq_true h5]; rfl) ?_
            refine q_RT_seg (g2 := (100, [(0, .ref 87), (1, .int a1)], [.int (s.2.1 23 2), .ref 87, .ref 87], (q_kN s c n))) 4 (fun _ _ => rfl) ?_
            refine q_RT_seg (g2 := (106, [(0, .ref 87), (1, .int a1)], [.int (((s.2.1 23 2) + 1) &&& 255), .ref 87, .ref 87], (q_kN s c n))) 4 (fun _ _ => rfl) ?_
            refine q_RT_call (v := (some (.int (dz_N150_87 s (((s.2.1 23 2) + 1) &&& 255)).2))) (h2 := (q_kN (dz_N150_87 s (((s.2.1 23 2) + 1) &&& 255)).1 c n)) rfl rfl ((dzt_N150_87 s c n (((s.2.1 23 2) + 1) &&& 255)).le (Nat.le_of_ble_eq_true rfl)) ?_
            generalize dz_N150_87 s (((s.2.1 23 2) + 1) &&& 255) = r3
            refine q_RT_let ?_
            show q_RT _ _ _ (109, [(0, .ref 87), (1, .int a1)], [.int r3.2, .ref 87], (q_kN r3.1 c n)) _ _
            refine q_RT_seg (g2 := (219, [(0, .ref 87), (1, .int a1)], [], (q_kN (q_sI r3.1 23 2 r3.2) c n))) 2 (fun _ _ => rfl) ?_
            exact q_RT_ret rfl rfl rfl
          | false =>
            refine q_RT_cF ?_
            cases h6 : decide (a1 = 131) with
            | true =>
              refine q_RT_cT ?_
              refine q_RT_st1 (g2 := (115, [(0, .ref 87), (1, .int a1)], [], (q_kN s c n))) rfl (by rw [of_decide_eq_true h6]; rfl) ?_
              refine q_RT_seg (g2 := (121, [(0, .ref 87), (1, .int a1)], [.int (s.2.1 23 2), .ref 87, .ref 87], (q_kN s c n))) 4 (fun _ _ => rfl) ?_
              refine q_RT_seg (g2 := (127, [(0, .ref 87), (1, .int a1)], [.int (((s.2.1 23 2) - 1) &&& 255), .ref 87, .ref 87], (q_kN s c n))) 4 (fun _ _ => rfl) ?_
              refine q_RT_call (v := (some (.int (dz_N150_87 s (((s.2.1 23 2) - 1) &&& 255)).2))) (h2 := (q_kN (dz_N150_87 s (((s.2.1 23 2) - 1) &&& 255)).1 c n)) rfl rfl ((dzt_N150_87 s c n (((s.2.1 23 2) - 1) &&& 255)).le (Nat.le_of_ble_eq_true rfl)) ?_
              generalize dz_N150_87 s (((s.2.1 23 2) - 1) &&& 255) = r4
              refine q_RT_let ?_
              show q_RT _ _ _ (130, [(0, .ref 87), (1, .int a1)], [.int r4.2, .ref 87], (q_kN r4.1 c n)) _ _
              refine q_RT_seg (g2 := (219, [(0, .ref 87), (1, .int a1)], [], (q_kN (q_sI r4.1 23 2 r4.2) c n))) 2 (fun _ _ => rfl) ?_
              exact q_RT_ret rfl rfl rfl
            | false =>
              refine q_RT_cF ?_
              cases h7 : decide (a1 = 132) with
              | true =>
                refine q_RT_cT ?_
                refine q_RT_st1 (g2 := (136, [(0, .ref 87), (1, .int a1)], [], (q_kN s c n))) rfl (by rw [of_decide_eq_true h7]; rfl) ?_
                refine q_RT_seg (g2 := (142, [(0, .ref 87), (1, .int a1)], [.int (s.2.1 23 0), .ref 87, .ref 87], (q_kN s c n))) 4 (fun _ _ => rfl) ?_
                refine q_RT_call (v := (some (.int (dz_N150_87 s (s.2.1 23 0)).2))) (h2 := (q_kN (dz_N150_87 s (s.2.1 23 0)).1 c n)) rfl rfl ((dzt_N150_87 s c n (s.2.1 23 0)).le (Nat.le_of_ble_eq_true rfl)) ?_
                generalize dz_N150_87 s (s.2.1 23 0) = r5
                refine q_RT_let ?_
                show q_RT _ _ _ (145, [(0, .ref 87), (1, .int a1)], [.int r5.2, .ref 87], (q_kN r5.1 c n)) _ _
                refine q_RT_seg (g2 := (219, [(0, .ref 87), (1, .int a1)], [], (q_kN (q_sI r5.1 23 1 r5.2) c n))) 2 (fun _ _ => rfl) ?_
                exact q_RT_ret rfl rfl rfl
              | false =>
                refine q_RT_cF ?_
                cases h8 : decide (a1 = 133) with
                | true =>
                  refine q_RT_cT ?_
                  refine q_RT_st1 (g2 := (151, [(0, .ref 87), (1, .int a1)], [], (q_kN s c n))) rfl (by rw [of_decide_eq_true h8]; rfl) ?_
                  refine q_RT_seg (g2 := (157, [(0, .ref 87), (1, .int a1)], [.int (s.2.1 23 1), .ref 87, .ref 87], (q_kN s c n))) 4 (fun _ _ => rfl) ?_
                  refine q_RT_call (v := (some (.int (dz_N150_87 s (s.2.1 23 1)).2))) (h2 := (q_kN (dz_N150_87 s (s.2.1 23 1)).1 c n)) rfl rfl ((dzt_N150_87 s c n (s.2.1 23 1)).le (Nat.le_of_ble_eq_true rfl)) ?_
                  generalize dz_N150_87 s (s.2.1 23 1) = r6
                  refine q_RT_let ?_
                  show q_RT _ _ _ (160, [(0, .ref 87), (1, .int a1)], [.int r6.2, .ref 87], (q_kN r6.1 c n)) _ _
                  refine q_RT_seg (g2 := (219, [(0, .ref 87), (1, .int a1)], [], (q_kN (q_sI r6.1 23 0 r6.2) c n))) 2 (fun _ _ => rfl) ?_
                  exact q_RT_ret rfl rfl rfl
                | false =>
                  refine q_RT_cF ?_
                  cases h9 : decide (a1 = 134) with
                  | true =>
                    refine q_RT_cT ?_
                    refine q_RT_st1 (g2 := (166, [(0, .ref 87), (1, .int a1)], [], (q_kN s c n))) rfl (by rw [of_decide_eq_true h9]; rfl) ?_
                    refine q_RT_seg (g2 := (172, [(0, .ref 87), (1, .int a1)], [.int (s.2.1 23 0), .ref 87, .ref 87], (q_kN s c n))) 4 (fun _ _ => rfl) ?_
                    refine q_RT_call (v := (some (.int (dz_N150_87 s (s.2.1 23 0)).2))) (h2 := (q_kN (dz_N150_87 s (s.2.1 23 0)).1 c n)) rfl rfl ((dzt_N150_87 s c n (s.2.1 23 0)).le (Nat.le_of_ble_eq_true rfl)) ?_
                    generalize dz_N150_87 s (s.2.1 23 0) = r7
                    refine q_RT_let ?_
                    show q_RT _ _ _ (175, [(0, .ref 87), (1, .int a1)], [.int r7.2, .ref 87], (q_kN r7.1 c n)) _ _
                    refine q_RT_seg (g2 := (219, [(0, .ref 87), (1, .int a1)], [], (q_kN (q_sI r7.1 23 2 r7.2) c n))) 2 (fun _ _ => rfl) ?_
                    exact q_RT_ret rfl rfl rfl
                  | false =>
                    refine q_RT_cF ?_
                    cases h10 : decide (a1 = 135) with
                    | true =>
                      refine q_RT_cT ?_
                      refine q_RT_st1 (g2 := (181, [(0, .ref 87), (1, .int a1)], [], (q_kN s c n))) rfl (by rw [of_decide_eq_true h10]; rfl) ?_
                      refine q_RT_seg (g2 := (187, [(0, .ref 87), (1, .int a1)], [.int (s.2.1 23 2), .ref 87, .ref 87], (q_kN s c n))) 4 (fun _ _ => rfl) ?_
                      refine q_RT_call (v := (some (.int (dz_N150_87 s (s.2.1 23 2)).2))) (h2 := (q_kN (dz_N150_87 s (s.2.1 23 2)).1 c n)) rfl rfl ((dzt_N150_87 s c n (s.2.1 23 2)).le (Nat.le_of_ble_eq_true rfl)) ?_
                      generalize dz_N150_87 s (s.2.1 23 2) = r8
                      refine q_RT_let ?_
                      show q_RT _ _ _ (190, [(0, .ref 87), (1, .int a1)], [.int r8.2, .ref 87], (q_kN r8.1 c n)) _ _
                      refine q_RT_seg (g2 := (219, [(0, .ref 87), (1, .int a1)], [], (q_kN (q_sI r8.1 23 0 r8.2) c n))) 2 (fun _ _ => rfl) ?_
                      exact q_RT_ret rfl rfl rfl
                    | false =>
                      refine q_RT_cF ?_
                      have h11 : a1 = 136 := Int32.toInt_inj.mp (by have e0 := q_neI h3 (n := 128); have e1 := q_neI h4 (n := 129); have e2 := q_neI h5 (n := 130); have e3 := q_neI h6 (n := 131); have e4 := q_neI h7 (n := 132); have e5 := q_neI h8 (n := 133); have e6 := q_neI h9 (n := 134); have e7 := q_neI h10 (n := 135); have l1 : 128 ≤ (a1).toInt := q_lo1 h1; have l2 : (a1).toInt ≤ 136 := q_hi2 h2; show (a1).toInt = 136; omega)
                      refine q_RT_st1 (g2 := (196, [(0, .ref 87), (1, .int a1)], [], (q_kN s c n))) rfl (by rw [h11]; rfl) ?_
                      refine q_RT_seg (g2 := (202, [(0, .ref 87), (1, .int a1)], [.int (s.2.1 23 3), .ref 87, .ref 87], (q_kN s c n))) 4 (fun _ _ => rfl) ?_
                      refine q_RT_call (v := (some (.int (dz_N150_87 s (s.2.1 23 3)).2))) (h2 := (q_kN (dz_N150_87 s (s.2.1 23 3)).1 c n)) rfl rfl ((dzt_N150_87 s c n (s.2.1 23 3)).le (Nat.le_of_ble_eq_true rfl)) ?_
                      generalize dz_N150_87 s (s.2.1 23 3) = r9
                      refine q_RT_let ?_
                      show q_RT _ _ _ (205, [(0, .ref 87), (1, .int a1)], [.int r9.2, .ref 87], (q_kN r9.1 c n)) _ _
                      refine q_RT_seg (g2 := (219, [(0, .ref 87), (1, .int a1)], [], (q_kN (q_sI r9.1 23 1 r9.2) c n))) 2 (fun _ _ => rfl) ?_
                      exact q_RT_ret rfl rfl rfl
def dz_N157_87_65_37 (s : q_S) (v2 : Int32) : Option (q_S) :=
  cond (decide (v2 < 150)) (cond (decide (v2 = 138)) ((dz_N146_87_65 s (s.2.1 23 0)).bind fun r2 => some r2) (cond (decide (v2 = 139)) (q_let (dz_N147_87_65 s) fun r3 => q_let (dz_N150_87 r3.1 r3.2) fun r4 => some (q_sI r4.1 23 0 r4.2)) (cond (decide (v2 = 140)) ((dz_N146_87_65 s (((s.2.1 23 5) ||| 32) ||| 16)).bind fun r5 => some r5) (cond (decide (v2 = 141)) (q_let (dz_N147_87_65 s) fun r6 => some (q_sI r6.1 23 5 (r6.2 &&& 207))) (some s))))) (q_let (dz_N164_87 s v2) fun r7 => some r7)
set_option maxHeartbeats 4000000 in
theorem dzt_N157_87_65_37 (c n : Nat) (s : q_S) (v2 : Int32) : q_RP q_TB0 3 156 (37, [(0, .ref 87), (1, .ref 65), (2, .int v2)], [], (q_kN s c n)) (q_oSN c n) (dz_N157_87_65_37 s v2) := by
  unfold dz_N157_87_65_37
  refine q_RP_seg (g2 := (41, [(0, .ref 87), (1, .ref 65), (2, .int v2)], [.int 150, .int v2], (q_kN s c n))) 2 (fun _ _ => rfl) ?_
  cases h7 : decide (v2 < 150) with
  | true =>
    refine q_RP_cT ?_
    refine q_RP_rsT (g2 := (52, [(0, .ref 87), (1, .ref 65), (2, .int v2)], [], (q_kN s c n))) rfl rfl h7 ?_
    refine q_RP_seg (g2 := (56, [(0, .ref 87), (1, .ref 65), (2, .int v2)], [.int 138, .int v2], (q_kN s c n))) 2 (fun _ _ => rfl) ?_
    cases h8 : decide (v2 = 138) with
    | true =>
      refine q_RP_cT ?_
      refine q_RP_rsF (g2 := (59, [(0, .ref 87), (1, .ref 65), (2, .int v2)], [], (q_kN s c n))) rfl rfl (q_d_neT h8) ?_
      refine q_RP_seg (g2 := (65, [(0, .ref 87), (1, .ref 65), (2, .int v2)], [.int (s.2.1 23 0), .ref 65, .ref 87], (q_kN s c n))) 4 (fun _ _ => rfl) ?_
      refine q_RP_bd fun r2 er2 => ?_
      refine q_RP_call (v := none) (h2 := (q_kN r2 c n)) rfl rfl ((dzt_N146_87_65 s c n (s.2.1 23 0) r2 er2).le (Nat.le_of_ble_eq_true rfl)) ?_
      show q_RP _ _ _ (68, [(0, .ref 87), (1, .ref 65), (2, .int v2)], [], (q_kN r2 c n)) _ _
      refine q_RP_seg (g2 := (139, [(0, .ref 87), (1, .ref 65), (2, .int v2)], [], (q_kN r2 c n))) 1 (fun _ _ => rfl) ?_
      exact q_RP_ret rfl rfl rfl
    | false =>
      refine q_RP_cF ?_
      refine q_RP_rsT (g2 := (71, [(0, .ref 87), (1, .ref 65), (2, .int v2)], [], (q_kN s c n))) rfl rfl (q_d_neF h8) ?_
      refine q_RP_seg (g2 := (75, [(0, .ref 87), (1, .ref 65), (2, .int v2)], [.int 139, .int v2], (q_kN s c n))) 2 (fun _ _ => rfl) ?_
      cases h9 : decide (v2 = 139) with
      | true =>
        refine q_RP_cT ?_
        refine q_RP_rsF (g2 := (78, [(0, .ref 87), (1, .ref 65), (2, .int v2)], [], (q_kN s c n))) rfl rfl (q_d_neT h9) ?_
        refine q_RP_seg (g2 := (82, [(0, .ref 87), (1, .ref 65), (2, .int v2)], [.ref 65, .ref 87, .ref 87, .ref 87], (q_kN s c n))) 4 (fun _ _ => rfl) ?_
        refine q_RP_call (v := (some (.int (dz_N147_87_65 s).2))) (h2 := (q_kN (dz_N147_87_65 s).1 c n)) rfl rfl ((dzt_N147_87_65 s c n).le (Nat.le_of_ble_eq_true rfl)) ?_
        generalize dz_N147_87_65 s = r3
        refine q_RP_let ?_
        show q_RP _ _ _ (85, [(0, .ref 87), (1, .ref 65), (2, .int v2)], [.int r3.2, .ref 87, .ref 87], (q_kN r3.1 c n)) _ _
        refine q_RP_call (v := (some (.int (dz_N150_87 r3.1 r3.2).2))) (h2 := (q_kN (dz_N150_87 r3.1 r3.2).1 c n)) rfl rfl ((dzt_N150_87 r3.1 c n r3.2).le (Nat.le_of_ble_eq_true rfl)) ?_
        generalize dz_N150_87 r3.1 r3.2 = r4
        refine q_RP_let ?_
        show q_RP _ _ _ (88, [(0, .ref 87), (1, .ref 65), (2, .int v2)], [.int r4.2, .ref 87], (q_kN r4.1 c n)) _ _
        refine q_RP_seg (g2 := (139, [(0, .ref 87), (1, .ref 65), (2, .int v2)], [], (q_kN (q_sI r4.1 23 0 r4.2) c n))) 2 (fun _ _ => rfl) ?_
        exact q_RP_ret rfl rfl rfl
      | false =>
        refine q_RP_cF ?_
        refine q_RP_rsT (g2 := (94, [(0, .ref 87), (1, .ref 65), (2, .int v2)], [], (q_kN s c n))) rfl rfl (q_d_neF h9) ?_
        refine q_RP_seg (g2 := (98, [(0, .ref 87), (1, .ref 65), (2, .int v2)], [.int 140, .int v2], (q_kN s c n))) 2 (fun _ _ => rfl) ?_
        cases h10 : decide (v2 = 140) with
        | true =>
          refine q_RP_cT ?_
          refine q_RP_rsF (g2 := (101, [(0, .ref 87), (1, .ref 65), (2, .int v2)], [], (q_kN s c n))) rfl rfl (q_d_neT h10) ?_
          refine q_RP_seg (g2 := (107, [(0, .ref 87), (1, .ref 65), (2, .int v2)], [.int (s.2.1 23 5), .ref 65, .ref 87], (q_kN s c n))) 4 (fun _ _ => rfl) ?_
          refine q_RP_seg (g2 := (113, [(0, .ref 87), (1, .ref 65), (2, .int v2)], [.int (((s.2.1 23 5) ||| 32) ||| 16), .ref 65, .ref 87], (q_kN s c n))) 4 (fun _ _ => rfl) ?_
          refine q_RP_bd fun r5 er5 => ?_
          refine q_RP_call (v := none) (h2 := (q_kN r5 c n)) rfl rfl ((dzt_N146_87_65 s c n (((s.2.1 23 5) ||| 32) ||| 16) r5 er5).le (Nat.le_of_ble_eq_true rfl)) ?_
          show q_RP _ _ _ (116, [(0, .ref 87), (1, .ref 65), (2, .int v2)], [], (q_kN r5 c n)) _ _
          refine q_RP_seg (g2 := (139, [(0, .ref 87), (1, .ref 65), (2, .int v2)], [], (q_kN r5 c n))) 1 (fun _ _ => rfl) ?_
          exact q_RP_ret rfl rfl rfl
        | false =>
          refine q_RP_cF ?_
          refine q_RP_rsT (g2 := (119, [(0, .ref 87), (1, .ref 65), (2, .int v2)], [], (q_kN s c n))) rfl rfl (q_d_neF h10) ?_
          refine q_RP_seg (g2 := (123, [(0, .ref 87), (1, .ref 65), (2, .int v2)], [.int 141, .int v2], (q_kN s c n))) 2 (fun _ _ => rfl) ?_
          cases h11 : decide (v2 = 141) with
          | true =>
            refine q_RP_cT ?_
            refine q_RP_rsF (g2 := (126, [(0, .ref 87), (1, .ref 65), (2, .int v2)], [], (q_kN s c n))) rfl rfl (q_d_neT h11) ?_
            refine q_RP_seg (g2 := (129, [(0, .ref 87), (1, .ref 65), (2, .int v2)], [.ref 65, .ref 87, .ref 87], (q_kN s c n))) 3 (fun _ _ => rfl) ?_
            refine q_RP_call (v := (some (.int (dz_N147_87_65 s).2))) (h2 := (q_kN (dz_N147_87_65 s).1 c n)) rfl rfl ((dzt_N147_87_65 s c n).le (Nat.le_of_ble_eq_true rfl)) ?_
            generalize dz_N147_87_65 s = r6
            refine q_RP_let ?_
            show q_RP _ _ _ (132, [(0, .ref 87), (1, .ref 65), (2, .int v2)], [.int r6.2, .ref 87], (q_kN r6.1 c n)) _ _
            refine q_RP_seg (g2 := (139, [(0, .ref 87), (1, .ref 65), (2, .int v2)], [], (q_kN (q_sI r6.1 23 5 (r6.2 &&& 207)) c n))) 3 (fun _ _ => rfl) ?_
            exact q_RP_ret rfl rfl rfl
          | false =>
            refine q_RP_cF ?_
            refine q_RP_rsT (g2 := (139, [(0, .ref 87), (1, .ref 65), (2, .int v2)], [], (q_kN s c n))) rfl rfl (q_d_neF h11) ?_
            exact q_RP_ret rfl rfl rfl
  | false =>
    refine q_RP_cF ?_
    refine q_RP_rsF (g2 := (44, [(0, .ref 87), (1, .ref 65), (2, .int v2)], [], (q_kN s c n))) rfl rfl h7 ?_
    refine q_RP_seg (g2 := (46, [(0, .ref 87), (1, .ref 65), (2, .int v2)], [.int v2, .ref 87], (q_kN s c n))) 2 (fun _ _ => rfl) ?_
    refine q_RP_call (v := none) (h2 := (q_kN (dz_N164_87 s v2) c n)) rfl rfl ((dzt_N164_87 s c n v2).le (Nat.le_of_ble_eq_true rfl)) ?_
    generalize dz_N164_87 s v2 = r7
    refine q_RP_let ?_
    show q_RP _ _ _ (49, [(0, .ref 87), (1, .ref 65), (2, .int v2)], [], (q_kN r7 c n)) _ _
    refine q_RP_seg (g2 := (139, [(0, .ref 87), (1, .ref 65), (2, .int v2)], [], (q_kN r7 c n))) 1 (fun _ _ => rfl) ?_
    exact q_RP_ret rfl rfl rfl
def dz_N157_87_65 (s : q_S) (a2 : Int32) : Option (q_S) :=
  cond (decide (137 < a2)) (cond (decide (a2 < 142)) (dz_N157_87_65_37 s a2) (cond (decide (148 < a2)) (dz_N157_87_65_37 s a2) (q_let (dz_N163_87 s a2) fun r8 => some r8))) (q_let (dz_N162_87 s a2) fun r9 => some r9)
set_option maxHeartbeats 4000000 in
theorem dzt_N157_87_65 (s : q_S) (c n : Nat) (a2 : Int32) (x : q_S) (h : dz_N157_87_65 s a2 = some x) : q_Ca q_TB0 4 156 [.ref 87, .ref 65, .int a2] (q_kN s c n) ((q_oSN c n) x) := by
  refine q_CaP_of (φ := (q_oSN c n)) (Nat.le_of_ble_eq_true rfl) ?_ h
  clear h
  unfold dz_N157_87_65
  refine q_RP_seg (g2 := (4, [(0, .ref 87), (1, .ref 65), (2, .int a2)], [.int 137, .int a2], (q_kN s c n))) 2 (fun _ _ => rfl) ?_
  cases h5 : decide (137 < a2) with
  | true =>
    refine q_RP_cT ?_
    refine q_RP_rsT (g2 := (15, [(0, .ref 87), (1, .ref 65), (2, .int a2)], [], (q_kN s c n))) rfl rfl h5 ?_
    refine q_RP_seg (g2 := (19, [(0, .ref 87), (1, .ref 65), (2, .int a2)], [.int 142, .int a2], (q_kN s c n))) 2 (fun _ _ => rfl) ?_
    cases h6 : decide (a2 < 142) with
    | true =>
      refine q_RP_cT ?_
      refine q_RP_rsT (g2 := (37, [(0, .ref 87), (1, .ref 65), (2, .int a2)], [], (q_kN s c n))) rfl rfl h6 ?_
      exact (dzt_N157_87_65_37 c n s a2)
    | false =>
      refine q_RP_cF ?_
      refine q_RP_rsF (g2 := (22, [(0, .ref 87), (1, .ref 65), (2, .int a2)], [], (q_kN s c n))) rfl rfl h6 ?_
      refine q_RP_seg (g2 := (26, [(0, .ref 87), (1, .ref 65), (2, .int a2)], [.int 148, .int a2], (q_kN s c n))) 2 (fun _ _ => rfl) ?_
      cases h12 : decide (148 < a2) with
      | true =>
        refine q_RP_cT ?_
        refine q_RP_rsT (g2 := (37, [(0, .ref 87), (1, .ref 65), (2, .int a2)], [], (q_kN s c n))) rfl rfl h12 ?_
        exact (dzt_N157_87_65_37 c n s a2)
      | false =>
        refine q_RP_cF ?_
        refine q_RP_rsF (g2 := (29, [(0, .ref 87), (1, .ref 65), (2, .int a2)], [], (q_kN s c n))) rfl rfl h12 ?_
        refine q_RP_seg (g2 := (31, [(0, .ref 87), (1, .ref 65), (2, .int a2)], [.int a2, .ref 87], (q_kN s c n))) 2 (fun _ _ => rfl) ?_
        refine q_RP_call (v := none) (h2 := (q_kN (dz_N163_87 s a2) c n)) rfl rfl ((dzt_N163_87 s c n a2).le (Nat.le_of_ble_eq_true rfl)) ?_
        generalize dz_N163_87 s a2 = r8
        refine q_RP_let ?_
        show q_RP _ _ _ (34, [(0, .ref 87), (1, .ref 65), (2, .int a2)], [], (q_kN r8 c n)) _ _
        refine q_RP_seg (g2 := (139, [(0, .ref 87), (1, .ref 65), (2, .int a2)], [], (q_kN r8 c n))) 1 (fun _ _ => rfl) ?_
        exact q_RP_ret rfl rfl rfl
  | false =>
    refine q_RP_cF ?_
    refine q_RP_rsF (g2 := (7, [(0, .ref 87), (1, .ref 65), (2, .int a2)], [], (q_kN s c n))) rfl rfl h5 ?_
    refine q_RP_seg (g2 := (9, [(0, .ref 87), (1, .ref 65), (2, .int a2)], [.int a2, .ref 87], (q_kN s c n))) 2 (fun _ _ => rfl) ?_
    refine q_RP_call (v := none) (h2 := (q_kN (dz_N162_87 s a2) c n)) rfl rfl ((dzt_N162_87 s c n a2).le (Nat.le_of_ble_eq_true rfl)) ?_
    generalize dz_N162_87 s a2 = r9
    refine q_RP_let ?_
    show q_RP _ _ _ (12, [(0, .ref 87), (1, .ref 65), (2, .int a2)], [], (q_kN r9 c n)) _ _
    refine q_RP_seg (g2 := (139, [(0, .ref 87), (1, .ref 65), (2, .int a2)], [], (q_kN r9 c n))) 1 (fun _ _ => rfl) ?_
    exact q_RP_ret rfl rfl rfl
def dz_N160_87_65 (s : q_S) : q_S × Int32 :=
  q_let (dz_N147_87_65 s) fun r1 => q_let (dz_N147_87_65 r1.1) fun r2 => (r2.1, ((r1.2 + (256 * r2.2)) &&& 4095))
set_option maxHeartbeats 4000000 in
theorem dzt_N160_87_65 (s : q_S) (c n : Nat) : q_Ca q_TB0 3 159 [.ref 87, .ref 65] (q_kN s c n) ((q_oIN c n) (dz_N160_87_65 s)) := by
  refine q_CaT_of (φ := (q_oIN c n)) (Nat.le_of_ble_eq_true rfl) ?_
  unfold dz_N160_87_65
  refine q_RT_seg (g2 := (2, [(0, .ref 87), (1, .ref 65)], [.ref 65, .ref 87], (q_kN s c n))) 2 (fun _ _ => rfl) ?_
  refine q_RT_call (v := (some (.int (dz_N147_87_65 s).2))) (h2 := (q_kN (dz_N147_87_65 s).1 c n)) rfl rfl ((dzt_N147_87_65 s c n).le (Nat.le_of_ble_eq_true rfl)) ?_
  generalize dz_N147_87_65 s = r1
  refine q_RT_let ?_
  show q_RT _ _ _ (5, [(0, .ref 87), (1, .ref 65)], [.int r1.2], (q_kN r1.1 c n)) _ _
  refine q_RT_seg (g2 := (12, [(2, .int r1.2), (0, .ref 87), (1, .ref 65)], [.ref 65, .ref 87, .int 256, .int r1.2], (q_kN r1.1 c n))) 5 (fun _ _ => rfl) ?_
  refine q_RT_call (v := (some (.int (dz_N147_87_65 r1.1).2))) (h2 := (q_kN (dz_N147_87_65 r1.1).1 c n)) rfl rfl ((dzt_N147_87_65 r1.1 c n).le (Nat.le_of_ble_eq_true rfl)) ?_
  generalize dz_N147_87_65 r1.1 = r2
  refine q_RT_let ?_
  show q_RT _ _ _ (15, [(2, .int r1.2), (0, .ref 87), (1, .ref 65)], [.int r2.2, .int 256, .int r1.2], (q_kN r2.1 c n)) _ _
  refine q_RT_seg (g2 := (21, [(2, .int r1.2), (0, .ref 87), (1, .ref 65)], [.int ((r1.2 + (256 * r2.2)) &&& 4095)], (q_kN r2.1 c n))) 4 (fun _ _ => rfl) ?_
  exact q_RT_ret rfl rfl rfl
def dz_N159_87_65 (s : q_S) (a2 : Int32) : Option (Int32) :=
  (dz_N90_65 s a2).bind fun r2 => (dz_N90_65 s (((a2 / 256) * 256) + ((a2 + 1) &&& 255))).bind fun r3 => some ((r2 + (256 * r3)) &&& 4095)
set_option maxHeartbeats 4000000 in
theorem dzt_N159_87_65 (s : q_S) (c n : Nat) (a2 : Int32) (x : Int32) (h : dz_N159_87_65 s a2 = some x) : q_Ca q_TB0 3 158 [.ref 87, .ref 65, .int a2] (q_kN s c n) ((q_oP (q_kN s c n)) x) := by
  refine q_CaP_of (φ := (q_oP (q_kN s c n))) (Nat.le_of_ble_eq_true rfl) ?_ h
  clear h
  unfold dz_N159_87_65
  refine q_RP_seg (g2 := (20, [(3, .int (((a2 / 256) * 256) + ((a2 + 1) &&& 255))), (0, .ref 87), (1, .ref 65), (2, .int a2)], [.int a2, .ref 65], (q_kN s c n))) 14 (fun _ _ => rfl) ?_
  refine q_RP_bd fun r2 er2 => ?_
  refine q_RP_call (v := (some (.int r2))) (h2 := (q_kN s c n)) rfl rfl ((dzt_N90_65 s c n a2 r2 er2).le (Nat.le_of_ble_eq_true rfl)) ?_
  show q_RP _ _ _ (23, [(3, .int (((a2 / 256) * 256) + ((a2 + 1) &&& 255))), (0, .ref 87), (1, .ref 65), (2, .int a2)], [.int r2], (q_kN s c n)) _ _
  refine q_RP_seg (g2 := (28, [(3, .int (((a2 / 256) * 256) + ((a2 + 1) &&& 255))), (0, .ref 87), (1, .ref 65), (2, .int a2)], [.int (((a2 / 256) * 256) + ((a2 + 1) &&& 255)), .ref 65, .int 256, .int r2], (q_kN s c n))) 3 (fun _ _ => rfl) ?_
  refine q_RP_bd fun r3 er3 => ?_
  refine q_RP_call (v := (some (.int r3))) (h2 := (q_kN s c n)) rfl rfl ((dzt_N90_65 s c n (((a2 / 256) * 256) + ((a2 + 1) &&& 255)) r3 er3).le (Nat.le_of_ble_eq_true rfl)) ?_
  show q_RP _ _ _ (31, [(3, .int (((a2 / 256) * 256) + ((a2 + 1) &&& 255))), (0, .ref 87), (1, .ref 65), (2, .int a2)], [.int r3, .int 256, .int r2], (q_kN s c n)) _ _
  refine q_RP_seg (g2 := (37, [(3, .int (((a2 / 256) * 256) + ((a2 + 1) &&& 255))), (0, .ref 87), (1, .ref 65), (2, .int a2)], [.int ((r2 + (256 * r3)) &&& 4095)], (q_kN s c n))) 4 (fun _ _ => rfl) ?_
  exact q_RP_ret rfl rfl rfl
def dz_N158_87_65 (s : q_S) (a2 : Int32) (a3 : Int32) : Option (q_S × Int32) :=
  cond (decide (a2 < 155)) (q_let (dz_N187 s a2) fun r5 => cond r5 (q_let (dz_N161_87 s a2) fun r6 => cond r6 (q_let (dz_N140_87 s 1) fun r7 => (dz_N90_65 s r7).bind fun r8 => q_let (dz_N139_87 s r8) fun r9 => some (s, r9)) (some (s, a3))) (some ((q_sI s 23 7 1), (s.2.1 23 4)))) (cond (decide (159 < a2)) (q_let (dz_N187 s a2) fun r10 => cond r10 (q_let (dz_N161_87 s a2) fun r11 => cond r11 (q_let (dz_N140_87 s 1) fun r12 => (dz_N90_65 s r12).bind fun r13 => q_let (dz_N139_87 s r13) fun r14 => some (s, r14)) (some (s, a3))) (some ((q_sI s 23 7 1), (s.2.1 23 4)))) (cond (decide (a2 = 155)) (q_let (dz_N147_87_65 s) fun r15 => q_let (dz_N160_87_65 (q_sI r15.1 23 5 (r15.2 &&& 207))) fun r16 => some (r16.1, r16.2)) (cond (decide (a2 = 156)) (q_let (dz_N160_87_65 s) fun r17 => some (r17.1, ((r17.2 + 1) &&& 4095))) (cond (decide (a2 = 157)) ((dz_N145_87_65 s 3).bind fun r18 => some (s, r18)) (cond (decide (a2 = 158)) ((dz_N145_87_65 s 3).bind fun r19 => q_let (dz_N140_87 s 2) fun r20 => (dz_N146_87_65 s (r20 >>> ((8 &&& 31) : Int32))).bind fun r21 => q_let (dz_N140_87 r21 2) fun r22 => (dz_N146_87_65 r21 (r22 &&& 255)).bind fun r23 => some (r23, r19)) ((dz_N145_87_65 s 3).bind fun r24 => (dz_N159_87_65 s r24).bind fun r25 => some (s, r25)))))))
set_option maxHeartbeats 4000000 in
theorem dzt_N158_87_65 (s : q_S) (c n : Nat) (a2 : Int32) (a3 : Int32) (x : q_S × Int32) (h : dz_N158_87_65 s a2 a3 = some x) : q_Ca q_TB0 4 157 [.ref 87, .ref 65, .int a2, .int a3] (q_kN s c n) ((q_oIN c n) x) := by
  refine q_CaP_of (φ := (q_oIN c n)) (Nat.le_of_ble_eq_true rfl) ?_ h
  clear h
  unfold dz_N158_87_65
  refine q_RP_seg (g2 := (1, [(0, .ref 87), (1, .ref 65), (2, .int a2), (3, .int a3)], [.int a2], (q_kN s c n))) 1 (fun _ _ => rfl) ?_
  cases h4 : decide (a2 < 155) with
  | true =>
    refine q_RP_cT ?_
    refine q_RP_st1 (g2 := (124, [(0, .ref 87), (1, .ref 65), (2, .int a2), (3, .int a3)], [], (q_kN s c n))) rfl (if_pos (Or.inl (Int32.lt_iff_toInt_lt.mp (of_decide_eq_true h4)))) ?_
    refine q_RP_seg (g2 := (125, [(0, .ref 87), (1, .ref 65), (2, .int a2), (3, .int a3)], [.int a2], (q_kN s c n))) 1 (fun _ _ => rfl) ?_
    refine q_RP_call (v := (some (.int (q_b (dz_N187 s a2))))) (h2 := (q_kN s c n)) rfl rfl ((dzt_N187 s c n a2).le (Nat.le_of_ble_eq_true rfl)) ?_
    generalize dz_N187 s a2 = r5
    refine q_RP_let ?_
    show q_RP _ _ _ (128, [(0, .ref 87), (1, .ref 65), (2, .int a2), (3, .int a3)], [.int (q_b r5)], (q_kN s c n)) _ _
    cases h5 : r5 with
    | true =>
      refine q_RP_cT ?_
      show q_RP _ _ _ (128, [(0, .ref 87), (1, .ref 65), (2, .int a2), (3, .int a3)], [.int 1], (q_kN s c n)) _ _
      refine q_RP_seg (g2 := (133, [(0, .ref 87), (1, .ref 65), (2, .int a2), (3, .int a3)], [.int a2, .ref 87], (q_kN s c n))) 3 (fun _ _ => rfl) ?_
      refine q_RP_call (v := (some (.int (q_b (dz_N161_87 s a2))))) (h2 := (q_kN s c n)) rfl rfl ((dzt_N161_87 s c n a2).le (Nat.le_of_ble_eq_true rfl)) ?_
      generalize dz_N161_87 s a2 = r6
      refine q_RP_let ?_
      show q_RP _ _ _ (136, [(0, .ref 87), (1, .ref 65), (2, .int a2), (3, .int a3)], [.int (q_b r6)], (q_kN s c n)) _ _
      cases h6 : r6 with
      | true =>
        refine q_RP_cT ?_
        show q_RP _ _ _ (136, [(0, .ref 87), (1, .ref 65), (2, .int a2), (3, .int a3)], [.int 1], (q_kN s c n)) _ _
        refine q_RP_seg (g2 := (143, [(0, .ref 87), (1, .ref 65), (2, .int a2), (3, .int a3)], [.int 1, .ref 87, .ref 65, .ref 87], (q_kN s c n))) 5 (fun _ _ => rfl) ?_
        refine q_RP_call (v := (some (.int (dz_N140_87 s 1)))) (h2 := (q_kN s c n)) rfl rfl ((dzt_N140_87 s c n 1).le (Nat.le_of_ble_eq_true rfl)) ?_
        generalize dz_N140_87 s 1 = r7
        refine q_RP_let ?_
        show q_RP _ _ _ (146, [(0, .ref 87), (1, .ref 65), (2, .int a2), (3, .int a3)], [.int r7, .ref 65, .ref 87], (q_kN s c n)) _ _
        refine q_RP_bd fun r8 er8 => ?_
        refine q_RP_call (v := (some (.int r8))) (h2 := (q_kN s c n)) rfl rfl ((dzt_N90_65 s c n r7 r8 er8).le (Nat.le_of_ble_eq_true rfl)) ?_
        show q_RP _ _ _ (149, [(0, .ref 87), (1, .ref 65), (2, .int a2), (3, .int a3)], [.int r8, .ref 87], (q_kN s c n)) _ _
        refine q_RP_call (v := (some (.int (dz_N139_87 s r8)))) (h2 := (q_kN s c n)) rfl rfl ((dzt_N139_87 s c n r8).le (Nat.le_of_ble_eq_true rfl)) ?_
        generalize dz_N139_87 s r8 = r9
        refine q_RP_let ?_
        show q_RP _ _ _ (152, [(0, .ref 87), (1, .ref 65), (2, .int a2), (3, .int a3)], [.int r9], (q_kN s c n)) _ _
        refine q_RP_seg (g2 := (156, [(0, .ref 87), (1, .ref 65), (2, .int a2), (3, .int a3)], [.int r9], (q_kN s c n))) 1 (fun _ _ => rfl) ?_
        exact q_RP_ret rfl rfl rfl
      | false =>
        refine q_RP_cF ?_
        show q_RP _ _ _ (136, [(0, .ref 87), (1, .ref 65), (2, .int a2), (3, .int a3)], [.int 0], (q_kN s c n)) _ _
        refine q_RP_seg (g2 := (156, [(0, .ref 87), (1, .ref 65), (2, .int a2), (3, .int a3)], [.int a3], (q_kN s c n))) 2 (fun _ _ => rfl) ?_
        exact q_RP_ret rfl rfl rfl
    | false =>
      refine q_RP_cF ?_
      show q_RP _ _ _ (128, [(0, .ref 87), (1, .ref 65), (2, .int a2), (3, .int a3)], [.int 0], (q_kN s c n)) _ _
      refine q_RP_seg (g2 := (166, [(0, .ref 87), (1, .ref 65), (2, .int a2), (3, .int a3)], [.int (s.2.1 23 4)], (q_kN (q_sI s 23 7 1) c n))) 6 (fun _ _ => rfl) ?_
      exact q_RP_ret rfl rfl rfl
  | false =>
    refine q_RP_cF ?_
    cases h7 : decide (159 < a2) with
    | true =>
      refine q_RP_cT ?_
      refine q_RP_st1 (g2 := (124, [(0, .ref 87), (1, .ref 65), (2, .int a2), (3, .int a3)], [], (q_kN s c n))) rfl (if_pos (Or.inr (Int32.lt_iff_toInt_lt.mp (of_decide_eq_true h7)))) ?_
      refine q_RP_seg (g2 := (125, [(0, .ref 87), (1, .ref 65), (2, .int a2), (3, .int a3)], [.int a2], (q_kN s c n))) 1 (fun _ _ => rfl) ?_
      refine q_RP_call (v := (some (.int (q_b (dz_N187 s a2))))) (h2 := (q_kN s c n)) rfl rfl ((dzt_N187 s c n a2).le (Nat.le_of_ble_eq_true rfl)) ?_
      generalize dz_N187 s a2 = r10
      refine q_RP_let ?_
      show q_RP _ _ _ (128, [(0, .ref 87), (1, .ref 65), (2, .int a2), (3, .int a3)], [.int (q_b r10)], (q_kN s c n)) _ _
      cases h8 : r10 with
      | true =>
        refine q_RP_cT ?_
        show q_RP _ _ _ (128, [(0, .ref 87), (1, .ref 65), (2, .int a2), (3, .int a3)], [.int 1], (q_kN s c n)) _ _
        refine q_RP_seg (g2 := (133, [(0, .ref 87), (1, .ref 65), (2, .int a2), (3, .int a3)], [.int a2, .ref 87], (q_kN s c n))) 3 (fun _ _ => rfl) ?_
        refine q_RP_call (v := (some (.int (q_b (dz_N161_87 s a2))))) (h2 := (q_kN s c n)) rfl rfl ((dzt_N161_87 s c n a2).le (Nat.le_of_ble_eq_true rfl)) ?_
        generalize dz_N161_87 s a2 = r11
        refine q_RP_let ?_
        show q_RP _ _ _ (136, [(0, .ref 87), (1, .ref 65), (2, .int a2), (3, .int a3)], [.int (q_b r11)], (q_kN s c n)) _ _
        cases h9 : r11 with
        | true =>
          refine q_RP_cT ?_
          show q_RP _ _ _ (136, [(0, .ref 87), (1, .ref 65), (2, .int a2), (3, .int a3)], [.int 1], (q_kN s c n)) _ _
          refine q_RP_seg (g2 := (143, [(0, .ref 87), (1, .ref 65), (2, .int a2), (3, .int a3)], [.int 1, .ref 87, .ref 65, .ref 87], (q_kN s c n))) 5 (fun _ _ => rfl) ?_
          refine q_RP_call (v := (some (.int (dz_N140_87 s 1)))) (h2 := (q_kN s c n)) rfl rfl ((dzt_N140_87 s c n 1).le (Nat.le_of_ble_eq_true rfl)) ?_
          generalize dz_N140_87 s 1 = r12
          refine q_RP_let ?_
          show q_RP _ _ _ (146, [(0, .ref 87), (1, .ref 65), (2, .int a2), (3, .int a3)], [.int r12, .ref 65, .ref 87], (q_kN s c n)) _ _
          refine q_RP_bd fun r13 er13 => ?_
          refine q_RP_call (v := (some (.int r13))) (h2 := (q_kN s c n)) rfl rfl ((dzt_N90_65 s c n r12 r13 er13).le (Nat.le_of_ble_eq_true rfl)) ?_
          show q_RP _ _ _ (149, [(0, .ref 87), (1, .ref 65), (2, .int a2), (3, .int a3)], [.int r13, .ref 87], (q_kN s c n)) _ _
          refine q_RP_call (v := (some (.int (dz_N139_87 s r13)))) (h2 := (q_kN s c n)) rfl rfl ((dzt_N139_87 s c n r13).le (Nat.le_of_ble_eq_true rfl)) ?_
          generalize dz_N139_87 s r13 = r14
          refine q_RP_let ?_
          show q_RP _ _ _ (152, [(0, .ref 87), (1, .ref 65), (2, .int a2), (3, .int a3)], [.int r14], (q_kN s c n)) _ _
          refine q_RP_seg (g2 := (156, [(0, .ref 87), (1, .ref 65), (2, .int a2), (3, .int a3)], [.int r14], (q_kN s c n))) 1 (fun _ _ => rfl) ?_
          exact q_RP_ret rfl rfl rfl
        | false =>
          refine q_RP_cF ?_
          show q_RP _ _ _ (136, [(0, .ref 87), (1, .ref 65), (2, .int a2), (3, .int a3)], [.int 0], (q_kN s c n)) _ _
          refine q_RP_seg (g2 := (156, [(0, .ref 87), (1, .ref 65), (2, .int a2), (3, .int a3)], [.int a3], (q_kN s c n))) 2 (fun _ _ => rfl) ?_
          exact q_RP_ret rfl rfl rfl
      | false =>
        refine q_RP_cF ?_
        show q_RP _ _ _ (128, [(0, .ref 87), (1, .ref 65), (2, .int a2), (3, .int a3)], [.int 0], (q_kN s c n)) _ _
        refine q_RP_seg (g2 := (166, [(0, .ref 87), (1, .ref 65), (2, .int a2), (3, .int a3)], [.int (s.2.1 23 4)], (q_kN (q_sI s 23 7 1) c n))) 6 (fun _ _ => rfl) ?_
        exact q_RP_ret rfl rfl rfl
    | false =>
      refine q_RP_cF ?_
      cases h10 : decide (a2 = 155) with
      | true =>
        refine q_RP_cT ?_
        refine q_RP_st1 (g2 := (36, [(0, .ref 87), (1, .ref 65), (2, .int a2), (3, .int a3)], [], (q_kN s c n))) rfl (by rw [of_decide_eq_true h10]; rfl) ?_
        refine q_RP_seg (g2 := (39, [(0, .ref 87), (1, .ref 65), (2, .int a2), (3, .int a3)], [.ref 65, .ref 87, .ref 87], (q_kN s c n))) 3 (fun _ _ => rfl) ?_
        refine q_RP_call (v := (some (.int (dz_N147_87_65 s).2))) (h2 := (q_kN (dz_N147_87_65 s).1 c n)) rfl rfl ((dzt_N147_87_65 s c n).le (Nat.le_of_ble_eq_true rfl)) ?_
        generalize dz_N147_87_65 s = r15
        refine q_RP_let ?_
        show q_RP _ _ _ (42, [(0, .ref 87), (1, .ref 65), (2, .int a2), (3, .int a3)], [.int r15.2, .ref 87], (q_kN r15.1 c n)) _ _
        refine q_RP_seg (g2 := (51, [(0, .ref 87), (1, .ref 65), (2, .int a2), (3, .int a3)], [.ref 65, .ref 87], (q_kN (q_sI r15.1 23 5 (r15.2 &&& 207)) c n))) 5 (fun _ _ => rfl) ?_
        refine q_RP_call (v := (some (.int (dz_N160_87_65 (q_sI r15.1 23 5 (r15.2 &&& 207))).2))) (h2 := (q_kN (dz_N160_87_65 (q_sI r15.1 23 5 (r15.2 &&& 207))).1 c n)) rfl rfl ((dzt_N160_87_65 (q_sI r15.1 23 5 (r15.2 &&& 207)) c n).le (Nat.le_of_ble_eq_true rfl)) ?_
        generalize dz_N160_87_65 (q_sI r15.1 23 5 (r15.2 &&& 207)) = r16
        refine q_RP_let ?_
        show q_RP _ _ _ (54, [(0, .ref 87), (1, .ref 65), (2, .int a2), (3, .int a3)], [.int r16.2], (q_kN r16.1 c n)) _ _
        exact q_RP_ret rfl rfl rfl
      | false =>
        refine q_RP_cF ?_
        cases h11 : decide (a2 = 156) with
        | true =>
          refine q_RP_cT ?_
          refine q_RP_st1 (g2 := (55, [(0, .ref 87), (1, .ref 65), (2, .int a2), (3, .int a3)], [], (q_kN s c n))) rfl (by rw [of_decide_eq_true h11]; rfl) ?_
          refine q_RP_seg (g2 := (57, [(0, .ref 87), (1, .ref 65), (2, .int a2), (3, .int a3)], [.ref 65, .ref 87], (q_kN s c n))) 2 (fun _ _ => rfl) ?_
          refine q_RP_call (v := (some (.int (dz_N160_87_65 s).2))) (h2 := (q_kN (dz_N160_87_65 s).1 c n)) rfl rfl ((dzt_N160_87_65 s c n).le (Nat.le_of_ble_eq_true rfl)) ?_
          generalize dz_N160_87_65 s = r17
          refine q_RP_let ?_
          show q_RP _ _ _ (60, [(0, .ref 87), (1, .ref 65), (2, .int a2), (3, .int a3)], [.int r17.2], (q_kN r17.1 c n)) _ _
          refine q_RP_seg (g2 := (66, [(0, .ref 87), (1, .ref 65), (2, .int a2), (3, .int a3)], [.int ((r17.2 + 1) &&& 4095)], (q_kN r17.1 c n))) 4 (fun _ _ => rfl) ?_
          exact q_RP_ret rfl rfl rfl
        | false =>
          refine q_RP_cF ?_
          cases h12 : decide (a2 = 157) with
          | true =>
            refine q_RP_cT ?_
            refine q_RP_st1 (g2 := (67, [(0, .ref 87), (1, .ref 65), (2, .int a2), (3, .int a3)], [], (q_kN s c n))) rfl (by rw [of_decide_eq_true h12]; rfl) ?_
            refine q_RP_seg (g2 := (70, [(0, .ref 87), (1, .ref 65), (2, .int a2), (3, .int a3)], [.int 3, .ref 65, .ref 87], (q_kN s c n))) 3 (fun _ _ => rfl) ?_
            refine q_RP_bd fun r18 er18 => ?_
            refine q_RP_call (v := (some (.int r18))) (h2 := (q_kN s c n)) rfl rfl ((dzt_N145_87_65 s c n 3 r18 er18).le (Nat.le_of_ble_eq_true rfl)) ?_
            show q_RP _ _ _ (73, [(0, .ref 87), (1, .ref 65), (2, .int a2), (3, .int a3)], [.int r18], (q_kN s c n)) _ _
            exact q_RP_ret rfl rfl rfl
          | false =>
            refine q_RP_cF ?_
            cases h13 : decide (a2 = 158) with
            | true =>
              refine q_RP_cT ?_
              refine q_RP_st1 (g2 := (74, [(0, .ref 87), (1, .ref 65), (2, .int a2), (3, .int a3)], [], (q_kN s c n))) rfl (by rw [of_decide_eq_true h13]; rfl) ?_
              refine q_RP_seg (g2 := (77, [(0, .ref 87), (1, .ref 65), (2, .int a2), (3, .int a3)], [.int 3, .ref 65, .ref 87], (q_kN s c n))) 3 (fun _ _ => rfl) ?_
              refine q_RP_bd fun r19 er19 => ?_
              refine q_RP_call (v := (some (.int r19))) (h2 := (q_kN s c n)) rfl rfl ((dzt_N145_87_65 s c n 3 r19 er19).le (Nat.le_of_ble_eq_true rfl)) ?_
              show q_RP _ _ _ (80, [(0, .ref 87), (1, .ref 65), (2, .int a2), (3, .int a3)], [.int r19], (q_kN s c n)) _ _
              refine q_RP_seg (g2 := (86, [(4, .int r19), (0, .ref 87), (1, .ref 65), (2, .int a2), (3, .int a3)], [.int 2, .ref 87, .ref 65, .ref 87], (q_kN s c n))) 5 (fun _ _ => rfl) ?_
              refine q_RP_call (v := (some (.int (dz_N140_87 s 2)))) (h2 := (q_kN s c n)) rfl rfl ((dzt_N140_87 s c n 2).le (Nat.le_of_ble_eq_true rfl)) ?_
              generalize dz_N140_87 s 2 = r20
              refine q_RP_let ?_
              show q_RP _ _ _ (89, [(4, .int r19), (0, .ref 87), (1, .ref 65), (2, .int a2), (3, .int a3)], [.int r20, .ref 65, .ref 87], (q_kN s c n)) _ _
              refine q_RP_seg (g2 := (92, [(4, .int r19), (0, .ref 87), (1, .ref 65), (2, .int a2), (3, .int a3)], [.int (r20 >>> ((8 &&& 31) : Int32)), .ref 65, .ref 87], (q_kN s c n))) 2 (fun _ _ => rfl) ?_
              refine q_RP_bd fun r21 er21 => ?_
              refine q_RP_call (v := none) (h2 := (q_kN r21 c n)) rfl rfl ((dzt_N146_87_65 s c n (r20 >>> ((8 &&& 31) : Int32)) r21 er21).le (Nat.le_of_ble_eq_true rfl)) ?_
              show q_RP _ _ _ (95, [(4, .int r19), (0, .ref 87), (1, .ref 65), (2, .int a2), (3, .int a3)], [], (q_kN r21 c n)) _ _
              refine q_RP_seg (g2 := (99, [(4, .int r19), (0, .ref 87), (1, .ref 65), (2, .int a2), (3, .int a3)], [.int 2, .ref 87, .ref 65, .ref 87], (q_kN r21 c n))) 4 (fun _ _ => rfl) ?_
              refine q_RP_call (v := (some (.int (dz_N140_87 r21 2)))) (h2 := (q_kN r21 c n)) rfl rfl ((dzt_N140_87 r21 c n 2).le (Nat.le_of_ble_eq_true rfl)) ?_
              generalize dz_N140_87 r21 2 = r22
              refine q_RP_let ?_
              show q_RP _ _ _ (102, [(4, .int r19), (0, .ref 87), (1, .ref 65), (2, .int a2), (3, .int a3)], [.int r22, .ref 65, .ref 87], (q_kN r21 c n)) _ _
              refine q_RP_seg (g2 := (106, [(4, .int r19), (0, .ref 87), (1, .ref 65), (2, .int a2), (3, .int a3)], [.int (r22 &&& 255), .ref 65, .ref 87], (q_kN r21 c n))) 2 (fun _ _ => rfl) ?_
              refine q_RP_bd fun r23 er23 => ?_
              refine q_RP_call (v := none) (h2 := (q_kN r23 c n)) rfl rfl ((dzt_N146_87_65 r21 c n (r22 &&& 255) r23 er23).le (Nat.le_of_ble_eq_true rfl)) ?_
              show q_RP _ _ _ (109, [(4, .int r19), (0, .ref 87), (1, .ref 65), (2, .int a2), (3, .int a3)], [], (q_kN r23 c n)) _ _
              refine q_RP_seg (g2 := (111, [(4, .int r19), (0, .ref 87), (1, .ref 65), (2, .int a2), (3, .int a3)], [.int r19], (q_kN r23 c n))) 1 (fun _ _ => rfl) ?_
              exact q_RP_ret rfl rfl rfl
            | false =>
              refine q_RP_cF ?_
              have h14 : a2 = 159 := Int32.toInt_inj.mp (by have e0 := q_neI h10 (n := 155); have e1 := q_neI h11 (n := 156); have e2 := q_neI h12 (n := 157); have e3 := q_neI h13 (n := 158); have l1 : 155 ≤ (a2).toInt := q_lo1 h4; have l2 : (a2).toInt ≤ 159 := q_hi2 h7; show (a2).toInt = 159; omega)
              refine q_RP_st1 (g2 := (112, [(0, .ref 87), (1, .ref 65), (2, .int a2), (3, .int a3)], [], (q_kN s c n))) rfl (by rw [h14]; rfl) ?_
              refine q_RP_seg (g2 := (117, [(0, .ref 87), (1, .ref 65), (2, .int a2), (3, .int a3)], [.int 3, .ref 65, .ref 87, .ref 65, .ref 87], (q_kN s c n))) 5 (fun _ _ => rfl) ?_
              refine q_RP_bd fun r24 er24 => ?_
              refine q_RP_call (v := (some (.int r24))) (h2 := (q_kN s c n)) rfl rfl ((dzt_N145_87_65 s c n 3 r24 er24).le (Nat.le_of_ble_eq_true rfl)) ?_
              show q_RP _ _ _ (120, [(0, .ref 87), (1, .ref 65), (2, .int a2), (3, .int a3)], [.int r24, .ref 65, .ref 87], (q_kN s c n)) _ _
              refine q_RP_bd fun r25 er25 => ?_
              refine q_RP_call (v := (some (.int r25))) (h2 := (q_kN s c n)) rfl rfl ((dzt_N159_87_65 s c n r24 r25 er25).le (Nat.le_of_ble_eq_true rfl)) ?_
              show q_RP _ _ _ (123, [(0, .ref 87), (1, .ref 65), (2, .int a2), (3, .int a3)], [.int r25], (q_kN s c n)) _ _
              exact q_RP_ret rfl rfl rfl
def dz_N156_87 (s : q_S) (a1 : Int32) : q_S :=
  cond (decide ((((s.2.1 23 0) ^^^ (((s.2.1 23 0) + a1) + ((s.2.1 23 5) &&& 1))) &&& (a1 ^^^ (((s.2.1 23 0) + a1) + ((s.2.1 23 5) &&& 1)))) &&& 128 = 0)) (q_let (dz_N149_87_f s 64) fun r1 => cond (decide (255 < ((s.2.1 23 0) + a1) + ((s.2.1 23 5) &&& 1))) (q_let (dz_N149_87_t r1 1) fun r2 => q_let (dz_N150_87 r2 ((((s.2.1 23 0) + a1) + ((s.2.1 23 5) &&& 1)) &&& 255)) fun r3 => (q_sI r3.1 23 0 r3.2)) (q_let (dz_N149_87_f r1 1) fun r4 => q_let (dz_N150_87 r4 ((((s.2.1 23 0) + a1) + ((s.2.1 23 5) &&& 1)) &&& 255)) fun r5 => (q_sI r5.1 23 0 r5.2))) (q_let (dz_N149_87_t s 64) fun r6 => cond (decide (255 < ((s.2.1 23 0) + a1) + ((s.2.1 23 5) &&& 1))) (q_let (dz_N149_87_t r6 1) fun r7 => q_let (dz_N150_87 r7 ((((s.2.1 23 0) + a1) + ((s.2.1 23 5) &&& 1)) &&& 255)) fun r8 => (q_sI r8.1 23 0 r8.2)) (q_let (dz_N149_87_f r6 1) fun r9 => q_let (dz_N150_87 r9 ((((s.2.1 23 0) + a1) + ((s.2.1 23 5) &&& 1)) &&& 255)) fun r10 => (q_sI r10.1 23 0 r10.2)))
set_option maxHeartbeats 4000000 in
theorem dzt_N156_87 (s : q_S) (c n : Nat) (a1 : Int32) : q_Ca q_TB0 2 155 [.ref 87, .int a1] (q_kN s c n) ((q_oSN c n) (dz_N156_87 s a1)) := by
  refine q_CaT_of (φ := (q_oSN c n)) (Nat.le_of_ble_eq_true rfl) ?_
  unfold dz_N156_87
  refine q_RT_seg (g2 := (4, [(0, .ref 87), (1, .int a1)], [.int (s.2.1 23 0)], (q_kN s c n))) 2 (fun _ _ => rfl) ?_
  refine q_RT_seg (g2 := (10, [(0, .ref 87), (1, .int a1)], [.int (s.2.1 23 5), .int ((s.2.1 23 0) + a1)], (q_kN s c n))) 4 (fun _ _ => rfl) ?_
  refine q_RT_seg (g2 := (21, [(2, .int (((s.2.1 23 0) + a1) + ((s.2.1 23 5) &&& 1))), (0, .ref 87), (1, .int a1)], [.int (s.2.1 23 0), .int 64, .ref 87], (q_kN s c n))) 8 (fun _ _ => rfl) ?_
  refine q_RT_seg (g2 := (31, [(2, .int (((s.2.1 23 0) + a1) + ((s.2.1 23 5) &&& 1))), (0, .ref 87), (1, .int a1)], [.int ((((s.2.1 23 0) ^^^ (((s.2.1 23 0) + a1) + ((s.2.1 23 5) &&& 1))) &&& (a1 ^^^ (((s.2.1 23 0) + a1) + ((s.2.1 23 5) &&& 1)))) &&& 128), .int 64, .ref 87], (q_kN s c n))) 8 (fun _ _ => rfl) ?_
  cases h1 : decide ((((s.2.1 23 0) ^^^ (((s.2.1 23 0) + a1) + ((s.2.1 23 5) &&& 1))) &&& (a1 ^^^ (((s.2.1 23 0) + a1) + ((s.2.1 23 5) &&& 1)))) &&& 128 = 0) with
  | true =>
    refine q_RT_cT ?_
    refine q_RT_rsT (g2 := (38, [(2, .int (((s.2.1 23 0) + a1) + ((s.2.1 23 5) &&& 1))), (0, .ref 87), (1, .int a1)], [.int 64, .ref 87], (q_kN s c n))) rfl rfl h1 ?_
    refine q_RT_seg (g2 := (39, [(2, .int (((s.2.1 23 0) + a1) + ((s.2.1 23 5) &&& 1))), (0, .ref 87), (1, .int a1)], [.int 0, .int 64, .ref 87], (q_kN s c n))) 1 (fun _ _ => rfl) ?_
    refine q_RT_call (v := none) (h2 := (q_kN (dz_N149_87_f s 64) c n)) rfl rfl ((dzt_N149_87_f s c n 64).le (Nat.le_of_ble_eq_true rfl)) ?_
    generalize dz_N149_87_f s 64 = r1
    refine q_RT_let ?_
    show q_RT _ _ _ (42, [(2, .int (((s.2.1 23 0) + a1) + ((s.2.1 23 5) &&& 1))), (0, .ref 87), (1, .int a1)], [], (q_kN r1 c n)) _ _
    refine q_RT_seg (g2 := (48, [(2, .int (((s.2.1 23 0) + a1) + ((s.2.1 23 5) &&& 1))), (0, .ref 87), (1, .int a1)], [.int 255, .int (((s.2.1 23 0) + a1) + ((s.2.1 23 5) &&& 1)), .int 1, .ref 87], (q_kN r1 c n))) 4 (fun _ _ => rfl) ?_
    cases h2 : decide (255 < ((s.2.1 23 0) + a1) + ((s.2.1 23 5) &&& 1)) with
    | true =>
      refine q_RT_cT ?_
      refine q_RT_rsF (g2 := (51, [(2, .int (((s.2.1 23 0) + a1) + ((s.2.1 23 5) &&& 1))), (0, .ref 87), (1, .int a1)], [.int 1, .ref 87], (q_kN r1 c n))) rfl rfl (q_d_geT h2) ?_
      refine q_RT_seg (g2 := (56, [(2, .int (((s.2.1 23 0) + a1) + ((s.2.1 23 5) &&& 1))), (0, .ref 87), (1, .int a1)], [.int 1, .int 1, .ref 87], (q_kN r1 c n))) 2 (fun _ _ => rfl) ?_
      refine q_RT_call (v := none) (h2 := (q_kN (dz_N149_87_t r1 1) c n)) rfl rfl ((dzt_N149_87_t r1 c n 1).le (Nat.le_of_ble_eq_true rfl)) ?_
      generalize dz_N149_87_t r1 1 = r2
      refine q_RT_let ?_
      show q_RT _ _ _ (59, [(2, .int (((s.2.1 23 0) + a1) + ((s.2.1 23 5) &&& 1))), (0, .ref 87), (1, .int a1)], [], (q_kN r2 c n)) _ _
      refine q_RT_seg (g2 := (66, [(2, .int (((s.2.1 23 0) + a1) + ((s.2.1 23 5) &&& 1))), (0, .ref 87), (1, .int a1)], [.int ((((s.2.1 23 0) + a1) + ((s.2.1 23 5) &&& 1)) &&& 255), .ref 87, .ref 87], (q_kN r2 c n))) 5 (fun _ _ => rfl) ?_
      refine q_RT_call (v := (some (.int (dz_N150_87 r2 ((((s.2.1 23 0) + a1) + ((s.2.1 23 5) &&& 1)) &&& 255)).2))) (h2 := (q_kN (dz_N150_87 r2 ((((s.2.1 23 0) + a1) + ((s.2.1 23 5) &&& 1)) &&& 255)).1 c n)) rfl rfl ((dzt_N150_87 r2 c n ((((s.2.1 23 0) + a1) + ((s.2.1 23 5) &&& 1)) &&& 255)).le (Nat.le_of_ble_eq_true rfl)) ?_
      generalize dz_N150_87 r2 ((((s.2.1 23 0) + a1) + ((s.2.1 23 5) &&& 1)) &&& 255) = r3
      refine q_RT_let ?_
      show q_RT _ _ _ (69, [(2, .int (((s.2.1 23 0) + a1) + ((s.2.1 23 5) &&& 1))), (0, .ref 87), (1, .int a1)], [.int r3.2, .ref 87], (q_kN r3.1 c n)) _ _
      refine q_RT_seg (g2 := (72, [(2, .int (((s.2.1 23 0) + a1) + ((s.2.1 23 5) &&& 1))), (0, .ref 87), (1, .int a1)], [], (q_kN (q_sI r3.1 23 0 r3.2) c n))) 1 (fun _ _ => rfl) ?_
      exact q_RT_ret rfl rfl rfl
    | false =>
      refine q_RT_cF ?_
      refine q_RT_rsT (g2 := (55, [(2, .int (((s.2.1 23 0) + a1) + ((s.2.1 23 5) &&& 1))), (0, .ref 87), (1, .int a1)], [.int 1, .ref 87], (q_kN r1 c n))) rfl rfl (q_d_geF h2) ?_
      refine q_RT_seg (g2 := (56, [(2, .int (((s.2.1 23 0) + a1) + ((s.2.1 23 5) &&& 1))), (0, .ref 87), (1, .int a1)], [.int 0, .int 1, .ref 87], (q_kN r1 c n))) 1 (fun _ _ => rfl) ?_
      refine q_RT_call (v := none) (h2 := (q_kN (dz_N149_87_f r1 1) c n)) rfl rfl ((dzt_N149_87_f r1 c n 1).le (Nat.le_of_ble_eq_true rfl)) ?_
      generalize dz_N149_87_f r1 1 = r4
      refine q_RT_let ?_
      show q_RT _ _ _ (59, [(2, .int (((s.2.1 23 0) + a1) + ((s.2.1 23 5) &&& 1))), (0, .ref 87), (1, .int a1)], [], (q_kN r4 c n)) _ _
      refine q_RT_seg (g2 := (66, [(2, .int (((s.2.1 23 0) + a1) + ((s.2.1 23 5) &&& 1))), (0, .ref 87), (1, .int a1)], [.int ((((s.2.1 23 0) + a1) + ((s.2.1 23 5) &&& 1)) &&& 255), .ref 87, .ref 87], (q_kN r4 c n))) 5 (fun _ _ => rfl) ?_
      refine q_RT_call (v := (some (.int (dz_N150_87 r4 ((((s.2.1 23 0) + a1) + ((s.2.1 23 5) &&& 1)) &&& 255)).2))) (h2 := (q_kN (dz_N150_87 r4 ((((s.2.1 23 0) + a1) + ((s.2.1 23 5) &&& 1)) &&& 255)).1 c n)) rfl rfl ((dzt_N150_87 r4 c n ((((s.2.1 23 0) + a1) + ((s.2.1 23 5) &&& 1)) &&& 255)).le (Nat.le_of_ble_eq_true rfl)) ?_
      generalize dz_N150_87 r4 ((((s.2.1 23 0) + a1) + ((s.2.1 23 5) &&& 1)) &&& 255) = r5
      refine q_RT_let ?_
      show q_RT _ _ _ (69, [(2, .int (((s.2.1 23 0) + a1) + ((s.2.1 23 5) &&& 1))), (0, .ref 87), (1, .int a1)], [.int r5.2, .ref 87], (q_kN r5.1 c n)) _ _
      refine q_RT_seg (g2 := (72, [(2, .int (((s.2.1 23 0) + a1) + ((s.2.1 23 5) &&& 1))), (0, .ref 87), (1, .int a1)], [], (q_kN (q_sI r5.1 23 0 r5.2) c n))) 1 (fun _ _ => rfl) ?_
      exact q_RT_ret rfl rfl rfl
  | false =>
    refine q_RT_cF ?_
    refine q_RT_rsF (g2 := (34, [(2, .int (((s.2.1 23 0) + a1) + ((s.2.1 23 5) &&& 1))), (0, .ref 87), (1, .int a1)], [.int 64, .ref 87], (q_kN s c n))) rfl rfl h1 ?_
    refine q_RT_seg (g2 := (39, [(2, .int (((s.2.1 23 0) + a1) + ((s.2.1 23 5) &&& 1))), (0, .ref 87), (1, .int a1)], [.int 1, .int 64, .ref 87], (q_kN s c n))) 2 (fun _ _ => rfl) ?_
    refine q_RT_call (v := none) (h2 := (q_kN (dz_N149_87_t s 64) c n)) rfl rfl ((dzt_N149_87_t s c n 64).le (Nat.le_of_ble_eq_true rfl)) ?_
    generalize dz_N149_87_t s 64 = r6
    refine q_RT_let ?_
    show q_RT _ _ _ (42, [(2, .int (((s.2.1 23 0) + a1) + ((s.2.1 23 5) &&& 1))), (0, .ref 87), (1, .int a1)], [], (q_kN r6 c n)) _ _
    refine q_RT_seg (g2 := (48, [(2, .int (((s.2.1 23 0) + a1) + ((s.2.1 23 5) &&& 1))), (0, .ref 87), (1, .int a1)], [.int 255, .int (((s.2.1 23 0) + a1) + ((s.2.1 23 5) &&& 1)), .int 1, .ref 87], (q_kN r6 c n))) 4 (fun _ _ => rfl) ?_
    cases h3 : decide (255 < ((s.2.1 23 0) + a1) + ((s.2.1 23 5) &&& 1)) with
    | true =>
      refine q_RT_cT ?_
      refine q_RT_rsF (g2 := (51, [(2, .int (((s.2.1 23 0) + a1) + ((s.2.1 23 5) &&& 1))), (0, .ref 87), (1, .int a1)], [.int 1, .ref 87], (q_kN r6 c n))) rfl rfl (q_d_geT h3) ?_
      refine q_RT_seg (g2 := (56, [(2, .int (((s.2.1 23 0) + a1) + ((s.2.1 23 5) &&& 1))), (0, .ref 87), (1, .int a1)], [.int 1, .int 1, .ref 87], (q_kN r6 c n))) 2 (fun _ _ => rfl) ?_
      refine q_RT_call (v := none) (h2 := (q_kN (dz_N149_87_t r6 1) c n)) rfl rfl ((dzt_N149_87_t r6 c n 1).le (Nat.le_of_ble_eq_true rfl)) ?_
      generalize dz_N149_87_t r6 1 = r7
      refine q_RT_let ?_
      show q_RT _ _ _ (59, [(2, .int (((s.2.1 23 0) + a1) + ((s.2.1 23 5) &&& 1))), (0, .ref 87), (1, .int a1)], [], (q_kN r7 c n)) _ _
      refine q_RT_seg (g2 := (66, [(2, .int (((s.2.1 23 0) + a1) + ((s.2.1 23 5) &&& 1))), (0, .ref 87), (1, .int a1)], [.int ((((s.2.1 23 0) + a1) + ((s.2.1 23 5) &&& 1)) &&& 255), .ref 87, .ref 87], (q_kN r7 c n))) 5 (fun _ _ => rfl) ?_
      refine q_RT_call (v := (some (.int (dz_N150_87 r7 ((((s.2.1 23 0) + a1) + ((s.2.1 23 5) &&& 1)) &&& 255)).2))) (h2 := (q_kN (dz_N150_87 r7 ((((s.2.1 23 0) + a1) + ((s.2.1 23 5) &&& 1)) &&& 255)).1 c n)) rfl rfl ((dzt_N150_87 r7 c n ((((s.2.1 23 0) + a1) + ((s.2.1 23 5) &&& 1)) &&& 255)).le (Nat.le_of_ble_eq_true rfl)) ?_
      generalize dz_N150_87 r7 ((((s.2.1 23 0) + a1) + ((s.2.1 23 5) &&& 1)) &&& 255) = r8
      refine q_RT_let ?_
      show q_RT _ _ _ (69, [(2, .int (((s.2.1 23 0) + a1) + ((s.2.1 23 5) &&& 1))), (0, .ref 87), (1, .int a1)], [.int r8.2, .ref 87], (q_kN r8.1 c n)) _ _
      refine q_RT_seg (g2 := (72, [(2, .int (((s.2.1 23 0) + a1) + ((s.2.1 23 5) &&& 1))), (0, .ref 87), (1, .int a1)], [], (q_kN (q_sI r8.1 23 0 r8.2) c n))) 1 (fun _ _ => rfl) ?_
      exact q_RT_ret rfl rfl rfl
    | false =>
      refine q_RT_cF ?_
      refine q_RT_rsT (g2 := (55, [(2, .int (((s.2.1 23 0) + a1) + ((s.2.1 23 5) &&& 1))), (0, .ref 87), (1, .int a1)], [.int 1, .ref 87], (q_kN r6 c n))) rfl rfl (q_d_geF h3) ?_
      refine q_RT_seg (g2 := (56, [(2, .int (((s.2.1 23 0) + a1) + ((s.2.1 23 5) &&& 1))), (0, .ref 87), (1, .int a1)], [.int 0, .int 1, .ref 87], (q_kN r6 c n))) 1 (fun _ _ => rfl) ?_
      refine q_RT_call (v := none) (h2 := (q_kN (dz_N149_87_f r6 1) c n)) rfl rfl ((dzt_N149_87_f r6 c n 1).le (Nat.le_of_ble_eq_true rfl)) ?_
      generalize dz_N149_87_f r6 1 = r9
      refine q_RT_let ?_
      show q_RT _ _ _ (59, [(2, .int (((s.2.1 23 0) + a1) + ((s.2.1 23 5) &&& 1))), (0, .ref 87), (1, .int a1)], [], (q_kN r9 c n)) _ _
      refine q_RT_seg (g2 := (66, [(2, .int (((s.2.1 23 0) + a1) + ((s.2.1 23 5) &&& 1))), (0, .ref 87), (1, .int a1)], [.int ((((s.2.1 23 0) + a1) + ((s.2.1 23 5) &&& 1)) &&& 255), .ref 87, .ref 87], (q_kN r9 c n))) 5 (fun _ _ => rfl) ?_
      refine q_RT_call (v := (some (.int (dz_N150_87 r9 ((((s.2.1 23 0) + a1) + ((s.2.1 23 5) &&& 1)) &&& 255)).2))) (h2 := (q_kN (dz_N150_87 r9 ((((s.2.1 23 0) + a1) + ((s.2.1 23 5) &&& 1)) &&& 255)).1 c n)) rfl rfl ((dzt_N150_87 r9 c n ((((s.2.1 23 0) + a1) + ((s.2.1 23 5) &&& 1)) &&& 255)).le (Nat.le_of_ble_eq_true rfl)) ?_
      generalize dz_N150_87 r9 ((((s.2.1 23 0) + a1) + ((s.2.1 23 5) &&& 1)) &&& 255) = r10
      refine q_RT_let ?_
      show q_RT _ _ _ (69, [(2, .int (((s.2.1 23 0) + a1) + ((s.2.1 23 5) &&& 1))), (0, .ref 87), (1, .int a1)], [.int r10.2, .ref 87], (q_kN r10.1 c n)) _ _
      refine q_RT_seg (g2 := (72, [(2, .int (((s.2.1 23 0) + a1) + ((s.2.1 23 5) &&& 1))), (0, .ref 87), (1, .int a1)], [], (q_kN (q_sI r10.1 23 0 r10.2) c n))) 1 (fun _ _ => rfl) ?_
      exact q_RT_ret rfl rfl rfl
theorem q_x154 (c n : Nat) (L : q_L) (r : q_S × Int32) : ∀ ex m, q_loop ex (q_mtab q_TB0 153) (m + 1) (107, L, [.int r.2, .ref 87], q_kN r.1 c n) = q_loop ex (q_mtab q_TB0 153) m (110, L, [], q_kN (q_sI r.1 23 0 r.2) c n) := fun _ _ => rfl
def dz_N154_87_64 (s : q_S) (v3 : Int32) (v4 : Int32) : q_S :=
  cond (decide (9 < v4)) (q_let (dz_N149_87_t s 1) fun r3 => q_let (dz_N150_87 r3 (((16 * (v4 + (-10))) + v3) &&& 255)) fun r4 => (q_sI r4.1 23 0 r4.2)) (q_let (dz_N149_87_f s 1) fun r5 => q_let (dz_N150_87 r5 (((16 * v4) + v3) &&& 255)) fun r6 => (q_sI r6.1 23 0 r6.2))
set_option maxHeartbeats 4000000 in
theorem dzt_N154_87_64 (c n : Nat) (s : q_S) (v3 : Int32) (v4 : Int32) : q_RT q_TB0 2 153 (64, [(0, .ref 87), (3, .int v3), (4, .int v4)], [], (q_kN s c n)) (q_oSN c n) (dz_N154_87_64 s v3 v4) := by
  unfold dz_N154_87_64
  refine q_RT_seg (g2 := (70, [(0, .ref 87), (3, .int v3), (4, .int v4)], [.int 9, .int v4, .int 1, .ref 87], (q_kN s c n))) 4 (fun _ _ => rfl) ?_
  cases h3 : decide (9 < v4) with
  | true =>
    refine q_RT_cT ?_
    refine q_RT_rsF (g2 := (73, [(0, .ref 87), (3, .int v3), (4, .int v4)], [.int 1, .ref 87], (q_kN s c n))) rfl rfl (q_d_geT h3) ?_
    refine q_RT_seg (g2 := (78, [(0, .ref 87), (3, .int v3), (4, .int v4)], [.int 1, .int 1, .ref 87], (q_kN s c n))) 2 (fun _ _ => rfl) ?_
    refine q_RT_call (v := none) (h2 := (q_kN (dz_N149_87_t s 1) c n)) rfl rfl ((dzt_N149_87_t s c n 1).le (Nat.le_of_ble_eq_true rfl)) ?_
    generalize dz_N149_87_t s 1 = r3
    refine q_RT_let ?_
    show q_RT _ _ _ (81, [(0, .ref 87), (3, .int v3), (4, .int v4)], [], (q_kN r3 c n)) _ _
    refine q_RT_seg (g2 := (85, [(0, .ref 87), (3, .int v3), (4, .int v4)], [.int 9, .int v4], (q_kN r3 c n))) 2 (fun _ _ => rfl) ?_
    refine q_RT_rsF (g2 := (88, [(0, .ref 87), (3, .int v3), (4, .int v4)], [], (q_kN r3 c n))) rfl rfl (q_d_geT h3) ?_
    refine q_RT_seg (g2 := (104, [(4, .int (v4 + (-10))), (0, .ref 87), (3, .int v3)], [.int (((16 * (v4 + (-10))) + v3) &&& 255), .ref 87, .ref 87], (q_kN r3 c n))) 10 (fun _ _ => rfl) ?_
    refine q_RT_call (v := (some (.int (dz_N150_87 r3 (((16 * (v4 + (-10))) + v3) &&& 255)).2))) (h2 := (q_kN (dz_N150_87 r3 (((16 * (v4 + (-10))) + v3) &&& 255)).1 c n)) rfl rfl ((dzt_N150_87 r3 c n (((16 * (v4 + (-10))) + v3) &&& 255)).le (Nat.le_of_ble_eq_true rfl)) ?_
    generalize dz_N150_87 r3 (((16 * (v4 + (-10))) + v3) &&& 255) = r4
    refine q_RT_let ?_
    show q_RT _ _ _ (107, [(4, .int (v4 + (-10))), (0, .ref 87), (3, .int v3)], [.int r4.2, .ref 87], (q_kN r4.1 c n)) _ _
    refine q_RT_seg 1 (q_x154 c n [(4, .int (v4 + (-10))), (0, .ref 87), (3, .int v3)] r4) ?_
    exact q_RT_ret rfl rfl rfl
  | false =>
    refine q_RT_cF ?_
    refine q_RT_rsT (g2 := (77, [(0, .ref 87), (3, .int v3), (4, .int v4)], [.int 1, .ref 87], (q_kN s c n))) rfl rfl (q_d_geF h3) ?_
    refine q_RT_seg (g2 := (78, [(0, .ref 87), (3, .int v3), (4, .int v4)], [.int 0, .int 1, .ref 87], (q_kN s c n))) 1 (fun _ _ => rfl) ?_
    refine q_RT_call (v := none) (h2 := (q_kN (dz_N149_87_f s 1) c n)) rfl rfl ((dzt_N149_87_f s c n 1).le (Nat.le_of_ble_eq_true rfl)) ?_
    generalize dz_N149_87_f s 1 = r5
    refine q_RT_let ?_
    show q_RT _ _ _ (81, [(0, .ref 87), (3, .int v3), (4, .int v4)], [], (q_kN r5 c n)) _ _
    refine q_RT_seg (g2 := (85, [(0, .ref 87), (3, .int v3), (4, .int v4)], [.int 9, .int v4], (q_kN r5 c n))) 2 (fun _ _ => rfl) ?_
    refine q_RT_rsT (g2 := (91, [(0, .ref 87), (3, .int v3), (4, .int v4)], [], (q_kN r5 c n))) rfl rfl (q_d_geF h3) ?_
    refine q_RT_seg (g2 := (104, [(0, .ref 87), (3, .int v3), (4, .int v4)], [.int (((16 * v4) + v3) &&& 255), .ref 87, .ref 87], (q_kN r5 c n))) 9 (fun _ _ => rfl) ?_
    refine q_RT_call (v := (some (.int (dz_N150_87 r5 (((16 * v4) + v3) &&& 255)).2))) (h2 := (q_kN (dz_N150_87 r5 (((16 * v4) + v3) &&& 255)).1 c n)) rfl rfl ((dzt_N150_87 r5 c n (((16 * v4) + v3) &&& 255)).le (Nat.le_of_ble_eq_true rfl)) ?_
    generalize dz_N150_87 r5 (((16 * v4) + v3) &&& 255) = r6
    refine q_RT_let ?_
    show q_RT _ _ _ (107, [(0, .ref 87), (3, .int v3), (4, .int v4)], [.int r6.2, .ref 87], (q_kN r6.1 c n)) _ _
    refine q_RT_seg (g2 := (110, [(0, .ref 87), (3, .int v3), (4, .int v4)], [], (q_kN (q_sI r6.1 23 0 r6.2) c n))) 1 (fun _ _ => rfl) ?_
    exact q_RT_ret rfl rfl rfl
def dz_N154_87 (s : q_S) (a1 : Int32) : q_S :=
  q_let ((((s.2.1 23 0) - (s.2.1 23 0) / 16 * 16) + (a1 - a1 / 16 * 16)) + ((s.2.1 23 5) &&& 1)) fun x1 => q_let (dz_N156_87 s a1) fun r2 => cond (decide ((r2.2.1 23 5) &&& 8 = 0)) (r2) (cond (decide (9 < x1)) (dz_N154_87_64 r2 (x1 + (-10)) ((((s.2.1 23 0) / 16) + (a1 / 16)) + 1)) (dz_N154_87_64 r2 x1 (((s.2.1 23 0) / 16) + (a1 / 16))))
set_option maxHeartbeats 4000000 in
theorem dzt_N154_87 (s : q_S) (c n : Nat) (a1 : Int32) : q_Ca q_TB0 3 153 [.ref 87, .int a1] (q_kN s c n) ((q_oSN c n) (dz_N154_87 s a1)) := by
  refine q_CaT_of (φ := (q_oSN c n)) (Nat.le_of_ble_eq_true rfl) ?_
  unfold dz_N154_87
  refine q_RT_seg (g2 := (4, [(0, .ref 87), (1, .int a1)], [.int (s.2.1 23 5)], (q_kN s c n))) 2 (fun _ _ => rfl) ?_
  refine q_RT_seg (g2 := (11, [(2, .int ((s.2.1 23 5) &&& 1)), (0, .ref 87), (1, .int a1)], [.int (s.2.1 23 0)], (q_kN s c n))) 5 (fun _ _ => rfl) ?_
  refine q_RT_seg (g2 := (21, [(2, .int ((s.2.1 23 5) &&& 1)), (0, .ref 87), (1, .int a1)], [.int ((((s.2.1 23 0) - (s.2.1 23 0) / 16 * 16) + (a1 - a1 / 16 * 16)) + ((s.2.1 23 5) &&& 1))], (q_kN s c n))) 8 (fun _ _ => rfl) ?_
  generalize ((((s.2.1 23 0) - (s.2.1 23 0) / 16 * 16) + (a1 - a1 / 16 * 16)) + ((s.2.1 23 5) &&& 1)) = x1
  refine q_RT_let ?_
  show q_RT _ _ _ (21, [(2, .int ((s.2.1 23 5) &&& 1)), (0, .ref 87), (1, .int a1)], [.int x1], (q_kN s c n)) _ _
  refine q_RT_seg (g2 := (26, [(3, .int x1), (2, .int ((s.2.1 23 5) &&& 1)), (0, .ref 87), (1, .int a1)], [.int (s.2.1 23 0)], (q_kN s c n))) 3 (fun _ _ => rfl) ?_
  refine q_RT_seg (g2 := (38, [(4, .int (((s.2.1 23 0) / 16) + (a1 / 16))), (3, .int x1), (2, .int ((s.2.1 23 5) &&& 1)), (0, .ref 87), (1, .int a1)], [.int a1, .ref 87], (q_kN s c n))) 9 (fun _ _ => rfl) ?_
  refine q_RT_call (v := none) (h2 := (q_kN (dz_N156_87 s a1) c n)) rfl rfl ((dzt_N156_87 s c n a1).le (Nat.le_of_ble_eq_true rfl)) ?_
  generalize dz_N156_87 s a1 = r2
  refine q_RT_let ?_
  show q_RT _ _ _ (41, [(4, .int (((s.2.1 23 0) / 16) + (a1 / 16))), (3, .int x1), (2, .int ((s.2.1 23 5) &&& 1)), (0, .ref 87), (1, .int a1)], [], (q_kN r2 c n)) _ _
  refine q_RT_seg (g2 := (45, [(4, .int (((s.2.1 23 0) / 16) + (a1 / 16))), (3, .int x1), (2, .int ((s.2.1 23 5) &&& 1)), (0, .ref 87), (1, .int a1)], [.int (r2.2.1 23 5)], (q_kN r2 c n))) 2 (fun _ _ => rfl) ?_
  refine q_RT_seg (g2 := (48, [(4, .int (((s.2.1 23 0) / 16) + (a1 / 16))), (3, .int x1), (2, .int ((s.2.1 23 5) &&& 1)), (0, .ref 87), (1, .int a1)], [.int ((r2.2.1 23 5) &&& 8)], (q_kN r2 c n))) 2 (fun _ _ => rfl) ?_
  cases h1 : decide ((r2.2.1 23 5) &&& 8 = 0) with
  | true =>
    refine q_RT_cT ?_
    refine q_RT_rsF (g2 := (51, [(4, .int (((s.2.1 23 0) / 16) + (a1 / 16))), (3, .int x1), (2, .int ((s.2.1 23 5) &&& 1)), (0, .ref 87), (1, .int a1)], [], (q_kN r2 c n))) rfl rfl (q_d_neT h1) ?_
    exact q_RT_ret rfl rfl rfl
  | false =>
    refine q_RT_cF ?_
    refine q_RT_rsT (g2 := (52, [(4, .int (((s.2.1 23 0) / 16) + (a1 / 16))), (3, .int x1), (2, .int ((s.2.1 23 5) &&& 1)), (0, .ref 87), (1, .int a1)], [], (q_kN r2 c n))) rfl rfl (q_d_neF h1) ?_
    refine q_RT_seg (g2 := (55, [(4, .int (((s.2.1 23 0) / 16) + (a1 / 16))), (3, .int x1), (2, .int ((s.2.1 23 5) &&& 1)), (0, .ref 87), (1, .int a1)], [.int 9, .int x1], (q_kN r2 c n))) 2 (fun _ _ => rfl) ?_
    cases h2 : decide (9 < x1) with
    | true =>
      refine q_RT_cT ?_
      refine q_RT_rsF (g2 := (58, [(4, .int (((s.2.1 23 0) / 16) + (a1 / 16))), (3, .int x1), (2, .int ((s.2.1 23 5) &&& 1)), (0, .ref 87), (1, .int a1)], [], (q_kN r2 c n))) rfl rfl (q_d_geT h2) ?_
      refine q_RT_seg (g2 := (64, [(4, .int ((((s.2.1 23 0) / 16) + (a1 / 16)) + 1)), (3, .int (x1 + (-10))), (2, .int ((s.2.1 23 5) &&& 1)), (0, .ref 87), (1, .int a1)], [], (q_kN r2 c n))) 2 (fun _ _ => rfl) ?_
      exact q_RT_xt (q_xt_mk (q_mn1 3 rfl (q_mn1 1 rfl (q_mn1 0 rfl q_mn0))) rfl) (dzt_N154_87_64 c n r2 (x1 + (-10)) ((((s.2.1 23 0) / 16) + (a1 / 16)) + 1))
    | false =>
      refine q_RT_cF ?_
      refine q_RT_rsT (g2 := (64, [(4, .int (((s.2.1 23 0) / 16) + (a1 / 16))), (3, .int x1), (2, .int ((s.2.1 23 5) &&& 1)), (0, .ref 87), (1, .int a1)], [], (q_kN r2 c n))) rfl rfl (q_d_geF h2) ?_
      exact q_RT_xt (q_xt_mk (q_mn1 3 rfl (q_mn1 1 rfl (q_mn1 0 rfl q_mn0))) rfl) (dzt_N154_87_64 c n r2 x1 (((s.2.1 23 0) / 16) + (a1 / 16)))
def dz_N155_87_68 (s : q_S) (v3 : Int32) (v4 : Int32) : q_S :=
  cond (decide (v4 < 0)) (q_let (dz_N149_87_f s 1) fun r3 => q_let (dz_N150_87 r3 (((16 * (v4 + 10)) + v3) &&& 255)) fun r4 => (q_sI r4.1 23 0 r4.2)) (q_let (dz_N149_87_t s 1) fun r5 => q_let (dz_N150_87 r5 (((16 * v4) + v3) &&& 255)) fun r6 => (q_sI r6.1 23 0 r6.2))
set_option maxHeartbeats 4000000 in
theorem dzt_N155_87_68 (c n : Nat) (s : q_S) (v3 : Int32) (v4 : Int32) : q_RT q_TB0 2 154 (68, [(0, .ref 87), (3, .int v3), (4, .int v4)], [], (q_kN s c n)) (q_oSN c n) (dz_N155_87_68 s v3 v4) := by
  unfold dz_N155_87_68
  refine q_RT_seg (g2 := (72, [(0, .ref 87), (3, .int v3), (4, .int v4)], [.int v4, .int 1, .ref 87], (q_kN s c n))) 3 (fun _ _ => rfl) ?_
  cases h3 : decide (v4 < 0) with
  | true =>
    refine q_RT_cT ?_
    refine q_RT_rsT (g2 := (79, [(0, .ref 87), (3, .int v3), (4, .int v4)], [.int 1, .ref 87], (q_kN s c n))) rfl rfl h3 ?_
    refine q_RT_seg (g2 := (80, [(0, .ref 87), (3, .int v3), (4, .int v4)], [.int 0, .int 1, .ref 87], (q_kN s c n))) 1 (fun _ _ => rfl) ?_
    refine q_RT_call (v := none) (h2 := (q_kN (dz_N149_87_f s 1) c n)) rfl rfl ((dzt_N149_87_f s c n 1).le (Nat.le_of_ble_eq_true rfl)) ?_
    generalize dz_N149_87_f s 1 = r3
    refine q_RT_let ?_
    show q_RT _ _ _ (83, [(0, .ref 87), (3, .int v3), (4, .int v4)], [], (q_kN r3 c n)) _ _
    refine q_RT_seg (g2 := (85, [(0, .ref 87), (3, .int v3), (4, .int v4)], [.int v4], (q_kN r3 c n))) 1 (fun _ _ => rfl) ?_
    refine q_RT_rsF (g2 := (88, [(0, .ref 87), (3, .int v3), (4, .int v4)], [], (q_kN r3 c n))) rfl rfl (q_d_geT h3) ?_
    refine q_RT_seg (g2 := (104, [(4, .int (v4 + 10)), (0, .ref 87), (3, .int v3)], [.int (((16 * (v4 + 10)) + v3) &&& 255), .ref 87, .ref 87], (q_kN r3 c n))) 10 (fun _ _ => rfl) ?_
    refine q_RT_call (v := (some (.int (dz_N150_87 r3 (((16 * (v4 + 10)) + v3) &&& 255)).2))) (h2 := (q_kN (dz_N150_87 r3 (((16 * (v4 + 10)) + v3) &&& 255)).1 c n)) rfl rfl ((dzt_N150_87 r3 c n (((16 * (v4 + 10)) + v3) &&& 255)).le (Nat.le_of_ble_eq_true rfl)) ?_
    generalize dz_N150_87 r3 (((16 * (v4 + 10)) + v3) &&& 255) = r4
    refine q_RT_let ?_
    show q_RT _ _ _ (107, [(4, .int (v4 + 10)), (0, .ref 87), (3, .int v3)], [.int r4.2, .ref 87], (q_kN r4.1 c n)) _ _
    refine q_RT_seg (g2 := (110, [(4, .int (v4 + 10)), (0, .ref 87), (3, .int v3)], [], (q_kN (q_sI r4.1 23 0 r4.2) c n))) 1 (fun _ _ => rfl) ?_
    exact q_RT_ret rfl rfl rfl
  | false =>
    refine q_RT_cF ?_
    refine q_RT_rsF (g2 := (75, [(0, .ref 87), (3, .int v3), (4, .int v4)], [.int 1, .ref 87], (q_kN s c n))) rfl rfl h3 ?_
    refine q_RT_seg (g2 := (80, [(0, .ref 87), (3, .int v3), (4, .int v4)], [.int 1, .int 1, .ref 87], (q_kN s c n))) 2 (fun _ _ => rfl) ?_
    refine q_RT_call (v := none) (h2 := (q_kN (dz_N149_87_t s 1) c n)) rfl rfl ((dzt_N149_87_t s c n 1).le (Nat.le_of_ble_eq_true rfl)) ?_
    generalize dz_N149_87_t s 1 = r5
    refine q_RT_let ?_
    show q_RT _ _ _ (83, [(0, .ref 87), (3, .int v3), (4, .int v4)], [], (q_kN r5 c n)) _ _
    refine q_RT_seg (g2 := (85, [(0, .ref 87), (3, .int v3), (4, .int v4)], [.int v4], (q_kN r5 c n))) 1 (fun _ _ => rfl) ?_
    refine q_RT_rsT (g2 := (91, [(0, .ref 87), (3, .int v3), (4, .int v4)], [], (q_kN r5 c n))) rfl rfl (q_d_geF h3) ?_
    refine q_RT_seg (g2 := (104, [(0, .ref 87), (3, .int v3), (4, .int v4)], [.int (((16 * v4) + v3) &&& 255), .ref 87, .ref 87], (q_kN r5 c n))) 9 (fun _ _ => rfl) ?_
    refine q_RT_call (v := (some (.int (dz_N150_87 r5 (((16 * v4) + v3) &&& 255)).2))) (h2 := (q_kN (dz_N150_87 r5 (((16 * v4) + v3) &&& 255)).1 c n)) rfl rfl ((dzt_N150_87 r5 c n (((16 * v4) + v3) &&& 255)).le (Nat.le_of_ble_eq_true rfl)) ?_
    generalize dz_N150_87 r5 (((16 * v4) + v3) &&& 255) = r6
    refine q_RT_let ?_
    show q_RT _ _ _ (107, [(0, .ref 87), (3, .int v3), (4, .int v4)], [.int r6.2, .ref 87], (q_kN r6.1 c n)) _ _
    refine q_RT_seg (g2 := (110, [(0, .ref 87), (3, .int v3), (4, .int v4)], [], (q_kN (q_sI r6.1 23 0 r6.2) c n))) 1 (fun _ _ => rfl) ?_
    exact q_RT_ret rfl rfl rfl
def dz_N155_87 (s : q_S) (a1 : Int32) : q_S :=
  q_let (((((s.2.1 23 0) - (s.2.1 23 0) / 16 * 16) - (a1 - a1 / 16 * 16)) - 1) + ((s.2.1 23 5) &&& 1)) fun x1 => q_let (dz_N156_87 s ((255 : Int32) - a1)) fun r2 => cond (decide ((r2.2.1 23 5) &&& 8 = 0)) (r2) (cond (decide (x1 < 0)) (dz_N155_87_68 r2 (x1 + 10) ((((s.2.1 23 0) / 16) - (a1 / 16)) + (-1))) (dz_N155_87_68 r2 x1 (((s.2.1 23 0) / 16) - (a1 / 16))))
set_option maxHeartbeats 4000000 in
theorem dzt_N155_87 (s : q_S) (c n : Nat) (a1 : Int32) : q_Ca q_TB0 3 154 [.ref 87, .int a1] (q_kN s c n) ((q_oSN c n) (dz_N155_87 s a1)) := by
  refine q_CaT_of (φ := (q_oSN c n)) (Nat.le_of_ble_eq_true rfl) ?_
  unfold dz_N155_87
  refine q_RT_seg (g2 := (4, [(0, .ref 87), (1, .int a1)], [.int (s.2.1 23 5)], (q_kN s c n))) 2 (fun _ _ => rfl) ?_
  refine q_RT_seg (g2 := (11, [(2, .int ((s.2.1 23 5) &&& 1)), (0, .ref 87), (1, .int a1)], [.int (s.2.1 23 0)], (q_kN s c n))) 5 (fun _ _ => rfl) ?_
  refine q_RT_seg (g2 := (23, [(2, .int ((s.2.1 23 5) &&& 1)), (0, .ref 87), (1, .int a1)], [.int (((((s.2.1 23 0) - (s.2.1 23 0) / 16 * 16) - (a1 - a1 / 16 * 16)) - 1) + ((s.2.1 23 5) &&& 1))], (q_kN s c n))) 10 (fun _ _ => rfl) ?_
  generalize (((((s.2.1 23 0) - (s.2.1 23 0) / 16 * 16) - (a1 - a1 / 16 * 16)) - 1) + ((s.2.1 23 5) &&& 1)) = x1
  refine q_RT_let ?_
  show q_RT _ _ _ (23, [(2, .int ((s.2.1 23 5) &&& 1)), (0, .ref 87), (1, .int a1)], [.int x1], (q_kN s c n)) _ _
  refine q_RT_seg (g2 := (28, [(3, .int x1), (2, .int ((s.2.1 23 5) &&& 1)), (0, .ref 87), (1, .int a1)], [.int (s.2.1 23 0)], (q_kN s c n))) 3 (fun _ _ => rfl) ?_
  refine q_RT_seg (g2 := (44, [(4, .int (((s.2.1 23 0) / 16) - (a1 / 16))), (3, .int x1), (2, .int ((s.2.1 23 5) &&& 1)), (0, .ref 87), (1, .int a1)], [.int ((255 : Int32) - a1), .ref 87], (q_kN s c n))) 11 (fun _ _ => rfl) ?_
  refine q_RT_call (v := none) (h2 := (q_kN (dz_N156_87 s ((255 : Int32) - a1)) c n)) rfl rfl ((dzt_N156_87 s c n ((255 : Int32) - a1)).le (Nat.le_of_ble_eq_true rfl)) ?_
  generalize dz_N156_87 s ((255 : Int32) - a1) = r2
  refine q_RT_let ?_
  show q_RT _ _ _ (47, [(4, .int (((s.2.1 23 0) / 16) - (a1 / 16))), (3, .int x1), (2, .int ((s.2.1 23 5) &&& 1)), (0, .ref 87), (1, .int a1)], [], (q_kN r2 c n)) _ _
  refine q_RT_seg (g2 := (51, [(4, .int (((s.2.1 23 0) / 16) - (a1 / 16))), (3, .int x1), (2, .int ((s.2.1 23 5) &&& 1)), (0, .ref 87), (1, .int a1)], [.int (r2.2.1 23 5)], (q_kN r2 c n))) 2 (fun _ _ => rfl) ?_
  refine q_RT_seg (g2 := (54, [(4, .int (((s.2.1 23 0) / 16) - (a1 / 16))), (3, .int x1), (2, .int ((s.2.1 23 5) &&& 1)), (0, .ref 87), (1, .int a1)], [.int ((r2.2.1 23 5) &&& 8)], (q_kN r2 c n))) 2 (fun _ _ => rfl) ?_
  cases h1 : decide ((r2.2.1 23 5) &&& 8 = 0) with
  | true =>
    refine q_RT_cT ?_
    refine q_RT_rsF (g2 := (57, [(4, .int (((s.2.1 23 0) / 16) - (a1 / 16))), (3, .int x1), (2, .int ((s.2.1 23 5) &&& 1)), (0, .ref 87), (1, .int a1)], [], (q_kN r2 c n))) rfl rfl (q_d_neT h1) ?_
    exact q_RT_ret rfl rfl rfl
  | false =>
    refine q_RT_cF ?_
    refine q_RT_rsT (g2 := (58, [(4, .int (((s.2.1 23 0) / 16) - (a1 / 16))), (3, .int x1), (2, .int ((s.2.1 23 5) &&& 1)), (0, .ref 87), (1, .int a1)], [], (q_kN r2 c n))) rfl rfl (q_d_neF h1) ?_
    refine q_RT_seg (g2 := (59, [(4, .int (((s.2.1 23 0) / 16) - (a1 / 16))), (3, .int x1), (2, .int ((s.2.1 23 5) &&& 1)), (0, .ref 87), (1, .int a1)], [.int x1], (q_kN r2 c n))) 1 (fun _ _ => rfl) ?_
    cases h2 : decide (x1 < 0) with
    | true =>
      refine q_RT_cT ?_
      refine q_RT_rsF (g2 := (62, [(4, .int (((s.2.1 23 0) / 16) - (a1 / 16))), (3, .int x1), (2, .int ((s.2.1 23 5) &&& 1)), (0, .ref 87), (1, .int a1)], [], (q_kN r2 c n))) rfl rfl (q_d_geT h2) ?_
      refine q_RT_seg (g2 := (68, [(4, .int ((((s.2.1 23 0) / 16) - (a1 / 16)) + (-1))), (3, .int (x1 + 10)), (2, .int ((s.2.1 23 5) &&& 1)), (0, .ref 87), (1, .int a1)], [], (q_kN r2 c n))) 2 (fun _ _ => rfl) ?_
      exact q_RT_xt (q_xt_mk (q_mn1 3 rfl (q_mn1 1 rfl (q_mn1 0 rfl q_mn0))) rfl) (dzt_N155_87_68 c n r2 (x1 + 10) ((((s.2.1 23 0) / 16) - (a1 / 16)) + (-1)))
    | false =>
      refine q_RT_cF ?_
      refine q_RT_rsT (g2 := (68, [(4, .int (((s.2.1 23 0) / 16) - (a1 / 16))), (3, .int x1), (2, .int ((s.2.1 23 5) &&& 1)), (0, .ref 87), (1, .int a1)], [], (q_kN r2 c n))) rfl rfl (q_d_geF h2) ?_
      exact q_RT_xt (q_xt_mk (q_mn1 3 rfl (q_mn1 1 rfl (q_mn1 0 rfl q_mn0))) rfl) (dzt_N155_87_68 c n r2 x1 (((s.2.1 23 0) / 16) - (a1 / 16)))
def dz_N151_87 (s : q_S) (a1 : Int32) (a2 : Int32) : q_S :=
  cond (decide (a1 < a2)) (q_let (dz_N149_87_f s 1) fun r1 => q_let (dz_N150_87 r1 ((a1 - a2) &&& 255)) fun r2 => r2.1) (q_let (dz_N149_87_t s 1) fun r3 => q_let (dz_N150_87 r3 ((a1 - a2) &&& 255)) fun r4 => r4.1)
set_option maxHeartbeats 4000000 in
theorem dzt_N151_87 (s : q_S) (c n : Nat) (a1 : Int32) (a2 : Int32) : q_Ca q_TB0 2 150 [.ref 87, .int a1, .int a2] (q_kN s c n) ((q_oSN c n) (dz_N151_87 s a1 a2)) := by
  refine q_CaT_of (φ := (q_oSN c n)) (Nat.le_of_ble_eq_true rfl) ?_
  unfold dz_N151_87
  refine q_RT_seg (g2 := (4, [(0, .ref 87), (1, .int a1), (2, .int a2)], [.int a2, .int a1, .int 1, .ref 87], (q_kN s c n))) 4 (fun _ _ => rfl) ?_
  cases h1 : decide (a1 < a2) with
  | true =>
    refine q_RT_cT ?_
    refine q_RT_rsT (g2 := (11, [(0, .ref 87), (1, .int a1), (2, .int a2)], [.int 1, .ref 87], (q_kN s c n))) rfl rfl h1 ?_
    refine q_RT_seg (g2 := (12, [(0, .ref 87), (1, .int a1), (2, .int a2)], [.int 0, .int 1, .ref 87], (q_kN s c n))) 1 (fun _ _ => rfl) ?_
    refine q_RT_call (v := none) (h2 := (q_kN (dz_N149_87_f s 1) c n)) rfl rfl ((dzt_N149_87_f s c n 1).le (Nat.le_of_ble_eq_true rfl)) ?_
    generalize dz_N149_87_f s 1 = r1
    refine q_RT_let ?_
    show q_RT _ _ _ (15, [(0, .ref 87), (1, .int a1), (2, .int a2)], [], (q_kN r1 c n)) _ _
    refine q_RT_seg (g2 := (23, [(0, .ref 87), (1, .int a1), (2, .int a2)], [.int ((a1 - a2) &&& 255), .ref 87], (q_kN r1 c n))) 6 (fun _ _ => rfl) ?_
    refine q_RT_call (v := (some (.int (dz_N150_87 r1 ((a1 - a2) &&& 255)).2))) (h2 := (q_kN (dz_N150_87 r1 ((a1 - a2) &&& 255)).1 c n)) rfl rfl ((dzt_N150_87 r1 c n ((a1 - a2) &&& 255)).le (Nat.le_of_ble_eq_true rfl)) ?_
    generalize dz_N150_87 r1 ((a1 - a2) &&& 255) = r2
    refine q_RT_let ?_
    show q_RT _ _ _ (26, [(0, .ref 87), (1, .int a1), (2, .int a2)], [.int r2.2], (q_kN r2.1 c n)) _ _
    refine q_RT_seg (g2 := (27, [(0, .ref 87), (1, .int a1), (2, .int a2)], [], (q_kN r2.1 c n))) 1 (fun _ _ => rfl) ?_
    exact q_RT_ret rfl rfl rfl
  | false =>
    refine q_RT_cF ?_
    refine q_RT_rsF (g2 := (7, [(0, .ref 87), (1, .int a1), (2, .int a2)], [.int 1, .ref 87], (q_kN s c n))) rfl rfl h1 ?_
    refine q_RT_seg (g2 := (12, [(0, .ref 87), (1, .int a1), (2, .int a2)], [.int 1, .int 1, .ref 87], (q_kN s c n))) 2 (fun _ _ => rfl) ?_
    refine q_RT_call (v := none) (h2 := (q_kN (dz_N149_87_t s 1) c n)) rfl rfl ((dzt_N149_87_t s c n 1).le (Nat.le_of_ble_eq_true rfl)) ?_
    generalize dz_N149_87_t s 1 = r3
    refine q_RT_let ?_
    show q_RT _ _ _ (15, [(0, .ref 87), (1, .int a1), (2, .int a2)], [], (q_kN r3 c n)) _ _
    refine q_RT_seg (g2 := (23, [(0, .ref 87), (1, .int a1), (2, .int a2)], [.int ((a1 - a2) &&& 255), .ref 87], (q_kN r3 c n))) 6 (fun _ _ => rfl) ?_
    refine q_RT_call (v := (some (.int (dz_N150_87 r3 ((a1 - a2) &&& 255)).2))) (h2 := (q_kN (dz_N150_87 r3 ((a1 - a2) &&& 255)).1 c n)) rfl rfl ((dzt_N150_87 r3 c n ((a1 - a2) &&& 255)).le (Nat.le_of_ble_eq_true rfl)) ?_
    generalize dz_N150_87 r3 ((a1 - a2) &&& 255) = r4
    refine q_RT_let ?_
    show q_RT _ _ _ (26, [(0, .ref 87), (1, .int a1), (2, .int a2)], [.int r4.2], (q_kN r4.1 c n)) _ _
    refine q_RT_seg (g2 := (27, [(0, .ref 87), (1, .int a1), (2, .int a2)], [], (q_kN r4.1 c n))) 1 (fun _ _ => rfl) ?_
    exact q_RT_ret rfl rfl rfl
