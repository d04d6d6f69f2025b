def dz_N168_89_68_92 (m : Nat) : q_S → Int32 → Int32 → Int32 → Option (q_S) := Nat.rec (motive := fun _ => q_S → Int32 → Int32 → Int32 → Option (q_S)) (fun _ _ _ _ => none) (fun _ k92 s v2 v3 v4 =>
  cond (decide (v4 < 3)) (cond (q_in (((32 : Int32) + (4 * v4)) + 2) 48) ((dz_N171_89 s v4 ((s.1 4) ((((32 : Int32) + (4 * v4)) + 2).toNatClampNeg))).bind fun r114 => cond (q_in v4 3) (k92 s v2 (v3 + (r114 * ((s.1 27) (v4.toNatClampNeg)))) (v4 + 1)) none) none) (cond (q_in v2 40) (some (q_sA s 30 (upd (s.1 30) (v2.toNatClampNeg) (v3 / 15)))) none)) m
theorem dzs_N168_89_68_92 (m : Nat) (s : q_S) (v2 : Int32) (v3 : Int32) (v4 : Int32) : dz_N168_89_68_92 (m + 1) s v2 v3 v4 = (fun k92 : q_S → Int32 → Int32 → Int32 → Option (q_S) =>
  cond (decide (v4 < 3)) (cond (q_in (((32 : Int32) + (4 * v4)) + 2) 48) ((dz_N171_89 s v4 ((s.1 4) ((((32 : Int32) + (4 * v4)) + 2).toNatClampNeg))).bind fun r114 => cond (q_in v4 3) (k92 s v2 (v3 + (r114 * ((s.1 27) (v4.toNatClampNeg)))) (v4 + 1)) none) none) (cond (q_in v2 40) (some (q_sA s 30 (upd (s.1 30) (v2.toNatClampNeg) (v3 / 15)))) none)) (dz_N168_89_68_92 m) := rfl
set_option maxHeartbeats 4000000 in
theorem dzt_N168_89_68_92 (c n : Nat) : ∀ (m : Nat) (s : q_S) (v2 : Int32) (v3 : Int32) (v4 : Int32), q_RP q_TB0 2 167 (92, [(0, .ref 89), (1, .ref 68), (2, .int v2), (3, .int v3), (4, .int v4)], [], (q_kN s c n)) (q_oSN c n) (dz_N168_89_68_92 m s v2 v3 v4) := by
  intro m
  induction m with
  | zero => intro s v2 v3 v4; exact q_RP_no
  | succ m ih =>
    intro s v2 v3 v4
    have hk92 := ih
    clear ih
    rw [dzs_N168_89_68_92]
    generalize dz_N168_89_68_92 m = k92 at hk92 ⊢
    dsimp only
    refine q_RP_seg (g2 := (95, [(0, .ref 89), (1, .ref 68), (2, .int v2), (3, .int v3), (4, .int v4)], [.int 3, .int v4], (q_kN s c n))) 2 (fun _ _ => rfl) ?_
    cases h207 : decide (v4 < 3) with
    | true =>
      refine q_RP_cT ?_
      refine q_RP_rsF (g2 := (98, [(0, .ref 89), (1, .ref 68), (2, .int v2), (3, .int v3), (4, .int v4)], [], (q_kN s c n))) rfl rfl (q_d_geT h207) ?_
      refine q_RP_seg (g2 := (112, [(0, .ref 89), (1, .ref 68), (2, .int v2), (3, .int v3), (4, .int v4)], [.int (((32 : Int32) + (4 * v4)) + 2), .ref 68, .int v4, .ref 89, .int v3], (q_kN s c n))) 11 (fun _ _ => rfl) ?_
      refine q_RP_as fun i208 => ?_
      refine q_RP_rsT (g2 := (113, [(0, .ref 89), (1, .ref 68), (2, .int v2), (3, .int v3), (4, .int v4)], [.int ((s.1 4) ((((32 : Int32) + (4 * v4)) + 2).toNatClampNeg)), .int v4, .ref 89, .int v3], (q_kN s c n))) rfl rfl i208 ?_
      refine q_RP_bd fun r114 er114 => ?_
      refine q_RP_call (v := (some (.int r114))) (h2 := (q_kN s c n)) rfl rfl ((dzt_N171_89 s c n v4 ((s.1 4) ((((32 : Int32) + (4 * v4)) + 2).toNatClampNeg)) r114 er114).le (Nat.le_of_ble_eq_true rfl)) ?_
      show q_RP _ _ _ (116, [(0, .ref 89), (1, .ref 68), (2, .int v2), (3, .int v3), (4, .int v4)], [.int r114, .int v3], (q_kN s c n)) _ _
      refine q_RP_seg (g2 := (122, [(0, .ref 89), (1, .ref 68), (2, .int v2), (3, .int v3), (4, .int v4)], [.int v4, .ref 91, .int r114, .int v3], (q_kN s c n))) 3 (fun _ _ => rfl) ?_
      refine q_RP_as fun i229 => ?_
      refine q_RP_rsT (g2 := (123, [(0, .ref 89), (1, .ref 68), (2, .int v2), (3, .int v3), (4, .int v4)], [.int ((s.1 27) (v4.toNatClampNeg)), .int r114, .int v3], (q_kN s c n))) rfl rfl i229 ?_
      refine q_RP_seg (g2 := (92, [(4, .int (v4 + 1)), (3, .int (v3 + (r114 * ((s.1 27) (v4.toNatClampNeg))))), (0, .ref 89), (1, .ref 68), (2, .int v2)], [], (q_kN s c n))) 5 (fun _ _ => rfl) ?_
      exact q_RP_xt (q_xt_mk (q_mn1 2 rfl (q_mn1 3 rfl (q_mn1 4 rfl (q_mn1 1 rfl (q_mn1 0 rfl q_mn0))))) rfl) (hk92 s v2 (v3 + (r114 * ((s.1 27) (v4.toNatClampNeg)))) (v4 + 1))
    | false =>
      refine q_RP_cF ?_
      refine q_RP_rsT (g2 := (132, [(0, .ref 89), (1, .ref 68), (2, .int v2), (3, .int v3), (4, .int v4)], [], (q_kN s c n))) rfl rfl (q_d_geF h207) ?_
      refine q_RP_seg (g2 := (141, [(0, .ref 89), (1, .ref 68), (2, .int v2), (3, .int v3), (4, .int v4)], [.int (v3 / 15), .int v2, .ref 94], (q_kN s c n))) 6 (fun _ _ => rfl) ?_
      refine q_RP_as fun i230 => ?_
      refine q_RP_rsT (g2 := (142, [(0, .ref 89), (1, .ref 68), (2, .int v2), (3, .int v3), (4, .int v4)], [], (q_kN (q_sA s 30 (upd (s.1 30) (v2.toNatClampNeg) (v3 / 15))) c n))) rfl rfl i230 ?_
      exact q_RP_ret rfl rfl rfl
def dz_N168_89_68_20 (m : Nat) : q_S → Int32 → Int32 → Option (q_S) := Nat.rec (motive := fun _ => q_S → Int32 → Int32 → Option (q_S)) (fun _ _ _ => none) (fun _ k20 s v2 v3 =>
  cond (decide (v3 < 3)) (cond (q_in ((32 : Int32) + (4 * v3)) 48) (cond (q_in (((32 : Int32) + (4 * v3)) + 1) 48) ((dz_N169_89 s v3 (((s.1 4) (((32 : Int32) + (4 * v3)).toNatClampNeg)) + (256 * ((s.1 4) ((((32 : Int32) + (4 * v3)) + 1).toNatClampNeg))))).bind fun r109 => cond (q_in (((32 : Int32) + (4 * v3)) + 2) 48) (cond (decide (((r109.1 4) ((((32 : Int32) + (4 * v3)) + 2).toNatClampNeg)) &&& 1 = 1)) (cond (q_in (((32 : Int32) + (4 * v3)) + 3) 48) ((dz_N170_89_t r109 v3 ((r109.1 4) ((((32 : Int32) + (4 * v3)) + 3).toNatClampNeg))).bind fun r110 => k20 r110 v2 (v3 + 1)) none) (cond (q_in (((32 : Int32) + (4 * v3)) + 3) 48) ((dz_N170_89_f r109 v3 ((r109.1 4) ((((32 : Int32) + (4 * v3)) + 3).toNatClampNeg))).bind fun r111 => k20 r111 v2 (v3 + 1)) none)) none) none) none) (dz_N168_89_68_92 5000 s v2 0 0)) m
theorem dzs_N168_89_68_20 (m : Nat) (s : q_S) (v2 : Int32) (v3 : Int32) : dz_N168_89_68_20 (m + 1) s v2 v3 = (fun k20 : q_S → Int32 → Int32 → Option (q_S) =>
  cond (decide (v3 < 3)) (cond (q_in ((32 : Int32) + (4 * v3)) 48) (cond (q_in (((32 : Int32) + (4 * v3)) + 1) 48) ((dz_N169_89 s v3 (((s.1 4) (((32 : Int32) + (4 * v3)).toNatClampNeg)) + (256 * ((s.1 4) ((((32 : Int32) + (4 * v3)) + 1).toNatClampNeg))))).bind fun r109 => cond (q_in (((32 : Int32) + (4 * v3)) + 2) 48) (cond (decide (((r109.1 4) ((((32 : Int32) + (4 * v3)) + 2).toNatClampNeg)) &&& 1 = 1)) (cond (q_in (((32 : Int32) + (4 * v3)) + 3) 48) ((dz_N170_89_t r109 v3 ((r109.1 4) ((((32 : Int32) + (4 * v3)) + 3).toNatClampNeg))).bind fun r110 => k20 r110 v2 (v3 + 1)) none) (cond (q_in (((32 : Int32) + (4 * v3)) + 3) 48) ((dz_N170_89_f r109 v3 ((r109.1 4) ((((32 : Int32) + (4 * v3)) + 3).toNatClampNeg))).bind fun r111 => k20 r111 v2 (v3 + 1)) none)) none) none) none) (dz_N168_89_68_92 5000 s v2 0 0)) (dz_N168_89_68_20 m) := rfl
set_option maxHeartbeats 4000000 in
theorem dzt_N168_89_68_20 (c n : Nat) : ∀ (m : Nat) (s : q_S) (v2 : Int32) (v3 : Int32), q_RP q_TB0 2 167 (20, [(0, .ref 89), (1, .ref 68), (2, .int v2), (3, .int v3)], [], (q_kN s c n)) (q_oSN c n) (dz_N168_89_68_20 m s v2 v3) := by
  intro m
  induction m with
  | zero => intro s v2 v3; exact q_RP_no
  | succ m ih =>
    intro s v2 v3
    have hk20 := ih
    clear ih
    rw [dzs_N168_89_68_20]
    generalize dz_N168_89_68_20 m = k20 at hk20 ⊢
    dsimp only
    refine q_RP_seg (g2 := (22, [(0, .ref 89), (1, .ref 68), (2, .int v2), (3, .int v3)], [.int 3, .int v3], (q_kN s c n))) 2 (fun _ _ => rfl) ?_
    cases h168 : decide (v3 < 3) with
    | true =>
      refine q_RP_cT ?_
      refine q_RP_rsF (g2 := (25, [(0, .ref 89), (1, .ref 68), (2, .int v2), (3, .int v3)], [], (q_kN s c n))) rfl rfl (q_d_geT h168) ?_
      refine q_RP_seg (g2 := (38, [(4, .int ((32 : Int32) + (4 * v3))), (0, .ref 89), (1, .ref 68), (2, .int v2), (3, .int v3)], [.int ((32 : Int32) + (4 * v3)), .ref 68, .int v3, .ref 89], (q_kN s c n))) 10 (fun _ _ => rfl) ?_
      refine q_RP_as fun i169 => ?_
      refine q_RP_rsT (g2 := (39, [(4, .int ((32 : Int32) + (4 * v3))), (0, .ref 89), (1, .ref 68), (2, .int v2), (3, .int v3)], [.int ((s.1 4) (((32 : Int32) + (4 * v3)).toNatClampNeg)), .int v3, .ref 89], (q_kN s c n))) rfl rfl i169 ?_
      refine q_RP_seg (g2 := (47, [(4, .int ((32 : Int32) + (4 * v3))), (0, .ref 89), (1, .ref 68), (2, .int v2), (3, .int v3)], [.int (((32 : Int32) + (4 * v3)) + 1), .ref 68, .int 256, .int ((s.1 4) (((32 : Int32) + (4 * v3)).toNatClampNeg)), .int v3, .ref 89], (q_kN s c n))) 5 (fun _ _ => rfl) ?_
      refine q_RP_as fun i170 => ?_
      refine q_RP_rsT (g2 := (48, [(4, .int ((32 : Int32) + (4 * v3))), (0, .ref 89), (1, .ref 68), (2, .int v2), (3, .int v3)], [.int ((s.1 4) ((((32 : Int32) + (4 * v3)) + 1).toNatClampNeg)), .int 256, .int ((s.1 4) (((32 : Int32) + (4 * v3)).toNatClampNeg)), .int v3, .ref 89], (q_kN s c n))) rfl rfl i170 ?_
      refine q_RP_seg (g2 := (50, [(4, .int ((32 : Int32) + (4 * v3))), (0, .ref 89), (1, .ref 68), (2, .int v2), (3, .int v3)], [.int (((s.1 4) (((32 : Int32) + (4 * v3)).toNatClampNeg)) + (256 * ((s.1 4) ((((32 : Int32) + (4 * v3)) + 1).toNatClampNeg)))), .int v3, .ref 89], (q_kN s c n))) 2 (fun _ _ => rfl) ?_
      refine q_RP_bd fun r109 er109 => ?_
      refine q_RP_call (v := none) (h2 := (q_kN r109 c n)) rfl rfl ((dzt_N169_89 s c n v3 (((s.1 4) (((32 : Int32) + (4 * v3)).toNatClampNeg)) + (256 * ((s.1 4) ((((32 : Int32) + (4 * v3)) + 1).toNatClampNeg)))) r109 er109).le (Nat.le_of_ble_eq_true rfl)) ?_
      show q_RP _ _ _ (53, [(4, .int ((32 : Int32) + (4 * v3))), (0, .ref 89), (1, .ref 68), (2, .int v2), (3, .int v3)], [], (q_kN r109 c n)) _ _
      refine q_RP_seg (g2 := (60, [(4, .int ((32 : Int32) + (4 * v3))), (0, .ref 89), (1, .ref 68), (2, .int v2), (3, .int v3)], [.int (((32 : Int32) + (4 * v3)) + 2), .ref 68, .int v3, .ref 89], (q_kN r109 c n))) 6 (fun _ _ => rfl) ?_
      refine q_RP_as fun i181 => ?_
      refine q_RP_rsT (g2 := (61, [(4, .int ((32 : Int32) + (4 * v3))), (0, .ref 89), (1, .ref 68), (2, .int v2), (3, .int v3)], [.int ((r109.1 4) ((((32 : Int32) + (4 * v3)) + 2).toNatClampNeg)), .int v3, .ref 89], (q_kN r109 c n))) rfl rfl i181 ?_
      refine q_RP_seg (g2 := (64, [(4, .int ((32 : Int32) + (4 * v3))), (0, .ref 89), (1, .ref 68), (2, .int v2), (3, .int v3)], [.int 1, .int (((r109.1 4) ((((32 : Int32) + (4 * v3)) + 2).toNatClampNeg)) &&& 1), .int v3, .ref 89], (q_kN r109 c n))) 3 (fun _ _ => rfl) ?_
      cases h182 : decide (((r109.1 4) ((((32 : Int32) + (4 * v3)) + 2).toNatClampNeg)) &&& 1 = 1) with
      | true =>
        refine q_RP_cT ?_
        refine q_RP_rsF (g2 := (67, [(4, .int ((32 : Int32) + (4 * v3))), (0, .ref 89), (1, .ref 68), (2, .int v2), (3, .int v3)], [.int v3, .ref 89], (q_kN r109 c n))) rfl rfl (q_d_neT h182) ?_
        refine q_RP_seg (g2 := (77, [(4, .int ((32 : Int32) + (4 * v3))), (0, .ref 89), (1, .ref 68), (2, .int v2), (3, .int v3)], [.int (((32 : Int32) + (4 * v3)) + 3), .ref 68, .int 1, .int v3, .ref 89], (q_kN r109 c n))) 6 (fun _ _ => rfl) ?_
        refine q_RP_as fun i183 => ?_
        refine q_RP_rsT (g2 := (78, [(4, .int ((32 : Int32) + (4 * v3))), (0, .ref 89), (1, .ref 68), (2, .int v2), (3, .int v3)], [.int ((r109.1 4) ((((32 : Int32) + (4 * v3)) + 3).toNatClampNeg)), .int 1, .int v3, .ref 89], (q_kN r109 c n))) rfl rfl i183 ?_
        refine q_RP_bd fun r110 er110 => ?_
        refine q_RP_call (v := none) (h2 := (q_kN r110 c n)) rfl rfl ((dzt_N170_89_t r109 c n v3 ((r109.1 4) ((((32 : Int32) + (4 * v3)) + 3).toNatClampNeg)) r110 er110).le (Nat.le_of_ble_eq_true rfl)) ?_
        show q_RP _ _ _ (81, [(4, .int ((32 : Int32) + (4 * v3))), (0, .ref 89), (1, .ref 68), (2, .int v2), (3, .int v3)], [], (q_kN r110 c n)) _ _
        refine q_RP_seg (g2 := (20, [(3, .int (v3 + 1)), (4, .int ((32 : Int32) + (4 * v3))), (0, .ref 89), (1, .ref 68), (2, .int v2)], [], (q_kN r110 c n))) 2 (fun _ _ => rfl) ?_
        exact q_RP_xt (q_xt_mk (q_mn1 2 rfl (q_mn1 3 rfl (q_mn1 4 rfl (q_mn1 0 rfl q_mn0)))) rfl) (hk20 r110 v2 (v3 + 1))
      | false =>
        refine q_RP_cF ?_
        refine q_RP_rsT (g2 := (71, [(4, .int ((32 : Int32) + (4 * v3))), (0, .ref 89), (1, .ref 68), (2, .int v2), (3, .int v3)], [.int v3, .ref 89], (q_kN r109 c n))) rfl rfl (q_d_neF h182) ?_
        refine q_RP_seg (g2 := (77, [(4, .int ((32 : Int32) + (4 * v3))), (0, .ref 89), (1, .ref 68), (2, .int v2), (3, .int v3)], [.int (((32 : Int32) + (4 * v3)) + 3), .ref 68, .int 0, .int v3, .ref 89], (q_kN r109 c n))) 5 (fun _ _ => rfl) ?_
        refine q_RP_as fun i196 => ?_
        refine q_RP_rsT (g2 := (78, [(4, .int ((32 : Int32) + (4 * v3))), (0, .ref 89), (1, .ref 68), (2, .int v2), (3, .int v3)], [.int ((r109.1 4) ((((32 : Int32) + (4 * v3)) + 3).toNatClampNeg)), .int 0, .int v3, .ref 89], (q_kN r109 c n))) rfl rfl i196 ?_
        refine q_RP_bd fun r111 er111 => ?_
        refine q_RP_call (v := none) (h2 := (q_kN r111 c n)) rfl rfl ((dzt_N170_89_f r109 c n v3 ((r109.1 4) ((((32 : Int32) + (4 * v3)) + 3).toNatClampNeg)) r111 er111).le (Nat.le_of_ble_eq_true rfl)) ?_
        show q_RP _ _ _ (81, [(4, .int ((32 : Int32) + (4 * v3))), (0, .ref 89), (1, .ref 68), (2, .int v2), (3, .int v3)], [], (q_kN r111 c n)) _ _
        refine q_RP_seg (g2 := (20, [(3, .int (v3 + 1)), (4, .int ((32 : Int32) + (4 * v3))), (0, .ref 89), (1, .ref 68), (2, .int v2)], [], (q_kN r111 c n))) 2 (fun _ _ => rfl) ?_
        exact q_RP_xt (q_xt_mk (q_mn1 2 rfl (q_mn1 3 rfl (q_mn1 4 rfl (q_mn1 0 rfl q_mn0)))) rfl) (hk20 r111 v2 (v3 + 1))
    | false =>
      refine q_RP_cF ?_
      refine q_RP_rsT (g2 := (87, [(0, .ref 89), (1, .ref 68), (2, .int v2), (3, .int v3)], [], (q_kN s c n))) rfl rfl (q_d_geF h168) ?_
      refine q_RP_seg (g2 := (92, [(4, .int 0), (3, .int 0), (0, .ref 89), (1, .ref 68), (2, .int v2)], [], (q_kN s c n))) 4 (fun _ _ => rfl) ?_
      exact q_RP_xt (q_xt_mk (q_mn1 2 rfl (q_mn1 3 rfl (q_mn1 4 rfl (q_mn1 1 rfl (q_mn1 0 rfl q_mn0))))) rfl) (dzt_N168_89_68_92 c n 5000 s v2 0 0)
def dz_N168_89_68 (s : q_S) (a2 : Int32) : Option (q_S) :=
  cond (decide (a2 < 0)) (some s) (cond (decide (a2 < 40)) (dz_N168_89_68_20 5000 s a2 0) (some s))
set_option maxHeartbeats 4000000 in
theorem dzt_N168_89_68 (s : q_S) (c n : Nat) (a2 : Int32) (x : q_S) (h : dz_N168_89_68 s a2 = some x) : q_Ca q_TB0 3 167 [.ref 89, .ref 68, .int a2] (q_kN s c n) ((q_oSN c n) x) := by
  refine q_CaP_of (φ := (q_oSN c n)) (Nat.le_of_ble_eq_true rfl) ?_ h
  clear h
  unfold dz_N168_89_68
  refine q_RP_seg (g2 := (8, [(0, .ref 89), (1, .ref 68), (2, .int a2)], [.int a2], (q_kN s c n))) 5 (fun _ _ => rfl) ?_
  cases h166 : decide (a2 < 0) with
  | true =>
    refine q_RP_cT ?_
    refine q_RP_rsT (g2 := (17, [(0, .ref 89), (1, .ref 68), (2, .int a2)], [], (q_kN s c n))) rfl rfl h166 ?_
    exact q_RP_ret rfl rfl rfl
  | false =>
    refine q_RP_cF ?_
    refine q_RP_rsF (g2 := (11, [(0, .ref 89), (1, .ref 68), (2, .int a2)], [], (q_kN s c n))) rfl rfl h166 ?_
    refine q_RP_seg (g2 := (14, [(0, .ref 89), (1, .ref 68), (2, .int a2)], [.int 40, .int a2], (q_kN s c n))) 2 (fun _ _ => rfl) ?_
    cases h167 : decide (a2 < 40) with
    | true =>
      refine q_RP_cT ?_
      refine q_RP_rsT (g2 := (18, [(0, .ref 89), (1, .ref 68), (2, .int a2)], [], (q_kN s c n))) rfl rfl h167 ?_
      refine q_RP_seg (g2 := (20, [(3, .int 0), (0, .ref 89), (1, .ref 68), (2, .int a2)], [], (q_kN s c n))) 2 (fun _ _ => rfl) ?_
      exact q_RP_xt (q_xt_mk (q_mn1 1 rfl (q_mn1 2 rfl (q_mn1 3 rfl (q_mn1 0 rfl q_mn0)))) rfl) (dzt_N168_89_68_20 c n 5000 s a2 0)
    | false =>
      refine q_RP_cF ?_
      refine q_RP_rsF (g2 := (17, [(0, .ref 89), (1, .ref 68), (2, .int a2)], [], (q_kN s c n))) rfl rfl h167 ?_
      exact q_RP_ret rfl rfl rfl
def dz_N83_64 (s : q_S) : Option (q_S × Bool) :=
  q_let (dz_N101_65 s) fun r69 => (dz_N102_65 r69).bind fun r70 => cond r70 ((dz_N103_65_95 r69).bind fun r97 => (dz_N104_65 r97).bind fun r104 => q_let (dz_N106_65 r104) fun r106 => q_let (dz_N87_65 r106) fun r107 => cond (decide (r107 = 23)) (q_let (dz_N86_65 r106) fun r108 => (dz_N168_89_68 r106 (r108 / 24)).bind fun r115 => some (r115, true)) (some (r106, true))) ((dz_N103_65_95 r69).bind fun r116 => (dz_N104_65 r116).bind fun r117 => q_let (dz_N106_65 r117) fun r118 => q_let (dz_N87_65 r118) fun r119 => cond (decide (r119 = 23)) (q_let (dz_N86_65 r118) fun r120 => (dz_N168_89_68 r118 (r120 / 24)).bind fun r121 => some (r121, false)) (some (r118, false)))
set_option maxHeartbeats 4000000 in
theorem dzt_N83_64 (s : q_S) (c n : Nat) (x : q_S × Bool) (h : dz_N83_64 s = some x) : q_Ca q_TB0 5 82 [.ref 64] (q_kN s c n) ((q_oJN c n) x) := by
  refine q_CaP_of (φ := (q_oJN c n)) (Nat.le_of_ble_eq_true rfl) ?_ h
  clear h
  unfold dz_N83_64
  refine q_RP_seg (g2 := (4, [(0, .ref 64)], [.ref 65], (q_kN s c n))) 2 (fun _ _ => rfl) ?_
  refine q_RP_call (v := none) (h2 := (q_kN (dz_N101_65 s) c n)) rfl rfl ((dzt_N101_65 s c n).le (Nat.le_of_ble_eq_true rfl)) ?_
  generalize dz_N101_65 s = r69
  refine q_RP_let ?_
  show q_RP _ _ _ (7, [(0, .ref 64)], [], (q_kN r69 c n)) _ _
  refine q_RP_seg (g2 := (11, [(0, .ref 64)], [.ref 65], (q_kN r69 c n))) 2 (fun _ _ => rfl) ?_
  refine q_RP_bd fun r70 er70 => ?_
  refine q_RP_call (v := (some (.int (q_b r70)))) (h2 := (q_kN r69 c n)) rfl rfl ((dzt_N102_65 r69 c n r70 er70).le (Nat.le_of_ble_eq_true rfl)) ?_
  show q_RP _ _ _ (14, [(0, .ref 64)], [.int (q_b r70)], (q_kN r69 c n)) _ _
  cases h114 : r70 with
  | true =>
    refine q_RP_cT ?_
    show q_RP _ _ _ (14, [(0, .ref 64)], [.int 1], (q_kN r69 c n)) _ _
    refine q_RP_seg (g2 := (23, [(1, .int 1), (0, .ref 64)], [.ref 95, .ref 65], (q_kN r69 c n))) 5 (fun _ _ => rfl) ?_
    refine q_RP_bd fun r97 er97 => ?_
    refine q_RP_call (v := none) (h2 := (q_kN r97 c n)) rfl rfl ((dzt_N103_65_95 r69 c n r97 er97).le (Nat.le_of_ble_eq_true rfl)) ?_
    show q_RP _ _ _ (26, [(1, .int 1), (0, .ref 64)], [], (q_kN r97 c n)) _ _
    refine q_RP_seg (g2 := (30, [(1, .int 1), (0, .ref 64)], [.ref 65], (q_kN r97 c n))) 2 (fun _ _ => rfl) ?_
    refine q_RP_bd fun r104 er104 => ?_
    refine q_RP_call (v := none) (h2 := (q_kN r104 c n)) rfl rfl ((dzt_N104_65 r97 c n r104 er104).le (Nat.le_of_ble_eq_true rfl)) ?_
    show q_RP _ _ _ (33, [(1, .int 1), (0, .ref 64)], [], (q_kN r104 c n)) _ _
    refine q_RP_seg (g2 := (37, [(1, .int 1), (0, .ref 64)], [.ref 65], (q_kN r104 c n))) 2 (fun _ _ => rfl) ?_
    refine q_RP_call (v := none) (h2 := (q_kN (dz_N106_65 r104) c n)) rfl rfl ((dzt_N106_65 r104 c n).le (Nat.le_of_ble_eq_true rfl)) ?_
    generalize dz_N106_65 r104 = r106
    refine q_RP_let ?_
    show q_RP _ _ _ (40, [(1, .int 1), (0, .ref 64)], [], (q_kN r106 c n)) _ _
    refine q_RP_seg (g2 := (44, [(1, .int 1), (0, .ref 64)], [.ref 65], (q_kN r106 c n))) 2 (fun _ _ => rfl) ?_
    refine q_RP_call (v := (some (.int (dz_N87_65 r106)))) (h2 := (q_kN r106 c n)) rfl rfl ((dzt_N87_65 r106 c n).le (Nat.le_of_ble_eq_true rfl)) ?_
    generalize dz_N87_65 r106 = r107
    refine q_RP_let ?_
    show q_RP _ _ _ (47, [(1, .int 1), (0, .ref 64)], [.int r107], (q_kN r106 c n)) _ _
    refine q_RP_seg (g2 := (49, [(1, .int 1), (0, .ref 64)], [.int 23, .int r107], (q_kN r106 c n))) 1 (fun _ _ => rfl) ?_
    cases h165 : decide (r107 = 23) with
    | true =>
      refine q_RP_cT ?_
      refine q_RP_rsF (g2 := (52, [(1, .int 1), (0, .ref 64)], [], (q_kN r106 c n))) rfl rfl (q_d_neT h165) ?_
      refine q_RP_seg (g2 := (70, [(1, .int 1), (0, .ref 64)], [.ref 65, .ref 68, .ref 89], (q_kN r106 c n))) 8 (fun _ _ => rfl) ?_
      refine q_RP_call (v := (some (.int (dz_N86_65 r106)))) (h2 := (q_kN r106 c n)) rfl rfl ((dzt_N86_65 r106 c n).le (Nat.le_of_ble_eq_true rfl)) ?_
      generalize dz_N86_65 r106 = r108
      refine q_RP_let ?_
      show q_RP _ _ _ (73, [(1, .int 1), (0, .ref 64)], [.int r108, .ref 68, .ref 89], (q_kN r106 c n)) _ _
      refine q_RP_seg (g2 := (76, [(1, .int 1), (0, .ref 64)], [.int (r108 / 24), .ref 68, .ref 89], (q_kN r106 c n))) 2 (fun _ _ => rfl) ?_
      refine q_RP_bd fun r115 er115 => ?_
      refine q_RP_call (v := none) (h2 := (q_kN r115 c n)) rfl rfl ((dzt_N168_89_68 r106 c n (r108 / 24) r115 er115).le (Nat.le_of_ble_eq_true rfl)) ?_
      show q_RP _ _ _ (79, [(1, .int 1), (0, .ref 64)], [], (q_kN r115 c n)) _ _
      refine q_RP_seg (g2 := (80, [(1, .int 1), (0, .ref 64)], [.int 1], (q_kN r115 c n))) 1 (fun _ _ => rfl) ?_
      exact q_RP_ret rfl rfl rfl
    | false =>
      refine q_RP_cF ?_
      refine q_RP_rsT (g2 := (79, [(1, .int 1), (0, .ref 64)], [], (q_kN r106 c n))) rfl rfl (q_d_neF h165) ?_
      refine q_RP_seg (g2 := (80, [(1, .int 1), (0, .ref 64)], [.int 1], (q_kN r106 c n))) 1 (fun _ _ => rfl) ?_
      exact q_RP_ret rfl rfl rfl
  | false =>
    refine q_RP_cF ?_
    show q_RP _ _ _ (14, [(0, .ref 64)], [.int 0], (q_kN r69 c n)) _ _
    refine q_RP_seg (g2 := (23, [(1, .int 0), (0, .ref 64)], [.ref 95, .ref 65], (q_kN r69 c n))) 5 (fun _ _ => rfl) ?_
    refine q_RP_bd fun r116 er116 => ?_
    refine q_RP_call (v := none) (h2 := (q_kN r116 c n)) rfl rfl ((dzt_N103_65_95 r69 c n r116 er116).le (Nat.le_of_ble_eq_true rfl)) ?_
    show q_RP _ _ _ (26, [(1, .int 0), (0, .ref 64)], [], (q_kN r116 c n)) _ _
    refine q_RP_seg (g2 := (30, [(1, .int 0), (0, .ref 64)], [.ref 65], (q_kN r116 c n))) 2 (fun _ _ => rfl) ?_
    refine q_RP_bd fun r117 er117 => ?_
    refine q_RP_call (v := none) (h2 := (q_kN r117 c n)) rfl rfl ((dzt_N104_65 r116 c n r117 er117).le (Nat.le_of_ble_eq_true rfl)) ?_
    show q_RP _ _ _ (33, [(1, .int 0), (0, .ref 64)], [], (q_kN r117 c n)) _ _
    refine q_RP_seg (g2 := (37, [(1, .int 0), (0, .ref 64)], [.ref 65], (q_kN r117 c n))) 2 (fun _ _ => rfl) ?_
    refine q_RP_call (v := none) (h2 := (q_kN (dz_N106_65 r117) c n)) rfl rfl ((dzt_N106_65 r117 c n).le (Nat.le_of_ble_eq_true rfl)) ?_
    generalize dz_N106_65 r117 = r118
    refine q_RP_let ?_
    show q_RP _ _ _ (40, [(1, .int 0), (0, .ref 64)], [], (q_kN r118 c n)) _ _
    refine q_RP_seg (g2 := (44, [(1, .int 0), (0, .ref 64)], [.ref 65], (q_kN r118 c n))) 2 (fun _ _ => rfl) ?_
    refine q_RP_call (v := (some (.int (dz_N87_65 r118)))) (h2 := (q_kN r118 c n)) rfl rfl ((dzt_N87_65 r118 c n).le (Nat.le_of_ble_eq_true rfl)) ?_
    generalize dz_N87_65 r118 = r119
    refine q_RP_let ?_
    show q_RP _ _ _ (47, [(1, .int 0), (0, .ref 64)], [.int r119], (q_kN r118 c n)) _ _
    refine q_RP_seg (g2 := (49, [(1, .int 0), (0, .ref 64)], [.int 23, .int r119], (q_kN r118 c n))) 1 (fun _ _ => rfl) ?_
    cases h231 : decide (r119 = 23) with
    | true =>
      refine q_RP_cT ?_
      refine q_RP_rsF (g2 := (52, [(1, .int 0), (0, .ref 64)], [], (q_kN r118 c n))) rfl rfl (q_d_neT h231) ?_
      refine q_RP_seg (g2 := (70, [(1, .int 0), (0, .ref 64)], [.ref 65, .ref 68, .ref 89], (q_kN r118 c n))) 8 (fun _ _ => rfl) ?_
      refine q_RP_call (v := (some (.int (dz_N86_65 r118)))) (h2 := (q_kN r118 c n)) rfl rfl ((dzt_N86_65 r118 c n).le (Nat.le_of_ble_eq_true rfl)) ?_
      generalize dz_N86_65 r118 = r120
      refine q_RP_let ?_
      show q_RP _ _ _ (73, [(1, .int 0), (0, .ref 64)], [.int r120, .ref 68, .ref 89], (q_kN r118 c n)) _ _
      refine q_RP_seg (g2 := (76, [(1, .int 0), (0, .ref 64)], [.int (r120 / 24), .ref 68, .ref 89], (q_kN r118 c n))) 2 (fun _ _ => rfl) ?_
      refine q_RP_bd fun r121 er121 => ?_
      refine q_RP_call (v := none) (h2 := (q_kN r121 c n)) rfl rfl ((dzt_N168_89_68 r118 c n (r120 / 24) r121 er121).le (Nat.le_of_ble_eq_true rfl)) ?_
      show q_RP _ _ _ (79, [(1, .int 0), (0, .ref 64)], [], (q_kN r121 c n)) _ _
      refine q_RP_seg (g2 := (80, [(1, .int 0), (0, .ref 64)], [.int 0], (q_kN r121 c n))) 1 (fun _ _ => rfl) ?_
      exact q_RP_ret rfl rfl rfl
    | false =>
      refine q_RP_cF ?_
      refine q_RP_rsT (g2 := (79, [(1, .int 0), (0, .ref 64)], [], (q_kN r118 c n))) rfl rfl (q_d_neF h231) ?_
      refine q_RP_seg (g2 := (80, [(1, .int 0), (0, .ref 64)], [.int 0], (q_kN r118 c n))) 1 (fun _ _ => rfl) ?_
      exact q_RP_ret rfl rfl rfl
def dz_N110_78_66 (s : q_S) : q_S :=
  (q_sA (q_sA s 15 (va_cpy (s.1 3) (s.1 15) 0 0 4096)) 16 (va_cpy (s.1 4) (s.1 16) 0 0 48))
set_option maxHeartbeats 4000000 in
theorem dzt_N110_78_66 (s : q_S) (c n : Nat) : q_Ca q_TB0 1 109 [.ref 78, .ref 66] (q_kN s c n) ((q_oSN c n) (dz_N110_78_66 s)) := by
  refine q_CaT_of (φ := (q_oSN c n)) (Nat.le_of_ble_eq_true rfl) ?_
  unfold dz_N110_78_66
  refine q_RT_seg (g2 := (13, [(0, .ref 78), (1, .ref 66)], [.int 4096, .int 0, .ref 79, .int 0, .ref 67], (q_kN s c n))) 7 (fun _ _ => rfl) ?_
  refine q_RT_rsT (g2 := (16, [(0, .ref 78), (1, .ref 66)], [], (q_kN (q_sA s 15 (va_cpy (s.1 3) (s.1 15) 0 0 4096)) c n))) rfl rfl (q_acb rfl) ?_
  refine q_RT_seg (g2 := (28, [(0, .ref 78), (1, .ref 66)], [.int 48, .int 0, .ref 80, .int 0, .ref 68], (q_kN (q_sA s 15 (va_cpy (s.1 3) (s.1 15) 0 0 4096)) c n))) 7 (fun _ _ => rfl) ?_
  refine q_RT_rsT (g2 := (31, [(0, .ref 78), (1, .ref 66)], [], (q_kN (q_sA (q_sA s 15 (va_cpy (s.1 3) (s.1 15) 0 0 4096)) 16 (va_cpy (s.1 4) (s.1 16) 0 0 48)) c n))) rfl rfl (q_acb rfl) ?_
  exact q_RT_ret rfl rfl rfl
def dz_N127_77_66 (s : q_S) : q_S :=
  q_let (dz_N110_78_66 s) fun r123 => (q_sI (q_sI r123 13 2 0) 13 3 0)
set_option maxHeartbeats 4000000 in
theorem dzt_N127_77_66 (s : q_S) (c n : Nat) : q_Ca q_TB0 2 126 [.ref 77, .ref 66] (q_kN s c n) ((q_oSN c n) (dz_N127_77_66 s)) := by
  refine q_CaT_of (φ := (q_oSN c n)) (Nat.le_of_ble_eq_true rfl) ?_
  unfold dz_N127_77_66
  refine q_RT_seg (g2 := (5, [(0, .ref 77), (1, .ref 66)], [.ref 66, .ref 78], (q_kN s c n))) 3 (fun _ _ => rfl) ?_
  refine q_RT_call (v := none) (h2 := (q_kN (dz_N110_78_66 s) c n)) rfl rfl ((dzt_N110_78_66 s c n).le (Nat.le_of_ble_eq_true rfl)) ?_
  generalize dz_N110_78_66 s = r123
  refine q_RT_let ?_
  show q_RT _ _ _ (8, [(0, .ref 77), (1, .ref 66)], [], (q_kN r123 c n)) _ _
  refine q_RT_seg (g2 := (18, [(0, .ref 77), (1, .ref 66)], [], (q_kN (q_sI (q_sI r123 13 2 0) 13 3 0) c n))) 6 (fun _ _ => rfl) ?_
  exact q_RT_ret rfl rfl rfl
def dz_N110_83_66 (s : q_S) : q_S :=
  (q_sA (q_sA s 20 (va_cpy (s.1 3) (s.1 20) 0 0 4096)) 21 (va_cpy (s.1 4) (s.1 21) 0 0 48))
set_option maxHeartbeats 4000000 in
theorem dzt_N110_83_66 (s : q_S) (c n : Nat) : q_Ca q_TB0 1 109 [.ref 83, .ref 66] (q_kN s c n) ((q_oSN c n) (dz_N110_83_66 s)) := by
  refine q_CaT_of (φ := (q_oSN c n)) (Nat.le_of_ble_eq_true rfl) ?_
  unfold dz_N110_83_66
  refine q_RT_seg (g2 := (13, [(0, .ref 83), (1, .ref 66)], [.int 4096, .int 0, .ref 84, .int 0, .ref 67], (q_kN s c n))) 7 (fun _ _ => rfl) ?_
  refine q_RT_rsT (g2 := (16, [(0, .ref 83), (1, .ref 66)], [], (q_kN (q_sA s 20 (va_cpy (s.1 3) (s.1 20) 0 0 4096)) c n))) rfl rfl (q_acb rfl) ?_
  refine q_RT_seg (g2 := (28, [(0, .ref 83), (1, .ref 66)], [.int 48, .int 0, .ref 85, .int 0, .ref 68], (q_kN (q_sA s 20 (va_cpy (s.1 3) (s.1 20) 0 0 4096)) c n))) 7 (fun _ _ => rfl) ?_
  refine q_RT_rsT (g2 := (31, [(0, .ref 83), (1, .ref 66)], [], (q_kN (q_sA (q_sA s 20 (va_cpy (s.1 3) (s.1 20) 0 0 4096)) 21 (va_cpy (s.1 4) (s.1 21) 0 0 48)) c n))) rfl rfl (q_acb rfl) ?_
  exact q_RT_ret rfl rfl rfl
def dz_N127_82_66 (s : q_S) : q_S :=
  q_let (dz_N110_83_66 s) fun r125 => (q_sI (q_sI r125 18 2 0) 18 3 0)
set_option maxHeartbeats 4000000 in
theorem dzt_N127_82_66 (s : q_S) (c n : Nat) : q_Ca q_TB0 2 126 [.ref 82, .ref 66] (q_kN s c n) ((q_oSN c n) (dz_N127_82_66 s)) := by
  refine q_CaT_of (φ := (q_oSN c n)) (Nat.le_of_ble_eq_true rfl) ?_
  unfold dz_N127_82_66
  refine q_RT_seg (g2 := (5, [(0, .ref 82), (1, .ref 66)], [.ref 66, .ref 83], (q_kN s c n))) 3 (fun _ _ => rfl) ?_
  refine q_RT_call (v := none) (h2 := (q_kN (dz_N110_83_66 s) c n)) rfl rfl ((dzt_N110_83_66 s c n).le (Nat.le_of_ble_eq_true rfl)) ?_
  generalize dz_N110_83_66 s = r125
  refine q_RT_let ?_
  show q_RT _ _ _ (8, [(0, .ref 82), (1, .ref 66)], [], (q_kN r125 c n)) _ _
  refine q_RT_seg (g2 := (18, [(0, .ref 82), (1, .ref 66)], [], (q_kN (q_sI (q_sI r125 18 2 0) 18 3 0) c n))) 6 (fun _ _ => rfl) ?_
  exact q_RT_ret rfl rfl rfl
def dz_N107_65 (s : q_S) : q_S :=
  cond (decide (lg_cmp (((s.2.2 1 8) + 1) - ((s.2.2 1 8) + 1) / 960 * 960) 0 = 0)) (cond (decide (lg_cmp ((((s.2.2 1 8) + 1) / 960) - (((s.2.2 1 8) + 1) / 960) / 2 * 2) 0 = 0)) (q_let (dz_N127_77_66 (q_sJ s 1 8 ((s.2.2 1 8) + 1))) fun r124 => r124) (q_let (dz_N127_82_66 (q_sJ s 1 8 ((s.2.2 1 8) + 1))) fun r126 => r126)) ((q_sJ s 1 8 ((s.2.2 1 8) + 1)))
set_option maxHeartbeats 4000000 in
theorem dzt_N107_65 (s : q_S) (c n : Nat) : q_Ca q_TB0 3 106 [.ref 65] (q_kN s c n) ((q_oSN c n) (dz_N107_65 s)) := by
  refine q_CaT_of (φ := (q_oSN c n)) (Nat.le_of_ble_eq_true rfl) ?_
  unfold dz_N107_65
  refine q_RT_seg (g2 := (5, [(0, .ref 65)], [.long (s.2.2 1 8), .ref 65], (q_kN s c n))) 3 (fun _ _ => rfl) ?_
  refine q_RT_seg (g2 := (14, [(0, .ref 65)], [.long ((s.2.2 1 8) + 1)], (q_kN (q_sJ s 1 8 ((s.2.2 1 8) + 1)) c n))) 5 (fun _ _ => rfl) ?_
  refine q_RT_seg (g2 := (20, [(0, .ref 65)], [.int (lg_cmp (((s.2.2 1 8) + 1) - ((s.2.2 1 8) + 1) / 960 * 960) 0)], (q_kN (q_sJ s 1 8 ((s.2.2 1 8) + 1)) c n))) 4 (fun _ _ => rfl) ?_
  cases h233 : decide (lg_cmp (((s.2.2 1 8) + 1) - ((s.2.2 1 8) + 1) / 960 * 960) 0 = 0) with
  | true =>
    refine q_RT_cT ?_
    refine q_RT_rsF (g2 := (23, [(0, .ref 65)], [], (q_kN (q_sJ s 1 8 ((s.2.2 1 8) + 1)) c n))) rfl rfl (q_d_neT h233) ?_
    refine q_RT_seg (g2 := (24, [(0, .ref 65)], [.ref 65], (q_kN (q_sJ s 1 8 ((s.2.2 1 8) + 1)) c n))) 1 (fun _ _ => rfl) ?_
    cases h234 : decide (lg_cmp ((((s.2.2 1 8) + 1) / 960) - (((s.2.2 1 8) + 1) / 960) / 2 * 2) 0 = 0) with
    | true =>
      refine q_RT_cT ?_
      refine q_RT_call (v := (some (.ref 77))) (h2 := (q_kN (q_sJ s 1 8 ((s.2.2 1 8) + 1)) c n)) rfl rfl ?_ ?_
      · refine q_Ca_of (Nat.le_of_ble_eq_true rfl) ?_
        refine q_Ru_seg (g2 := (14, [(0, .ref 65)], [.int (lg_cmp ((((s.2.2 1 8) + 1) / 960) - (((s.2.2 1 8) + 1) / 960) / 2 * 2) 0)], (q_kN (q_sJ s 1 8 ((s.2.2 1 8) + 1)) c n))) 8 (fun _ _ => rfl) ?_
        refine q_Ru_rsF (g2 := (17, [(0, .ref 65)], [], (q_kN (q_sJ s 1 8 ((s.2.2 1 8) + 1)) c n))) rfl rfl (q_d_neT h234) ?_
        refine q_Ru_seg (g2 := (28, [(0, .ref 65)], [.ref 77], (q_kN (q_sJ s 1 8 ((s.2.2 1 8) + 1)) c n))) 3 (fun _ _ => rfl) ?_
        exact q_Ru_ret rfl rfl
      show q_RT _ _ _ (27, [(0, .ref 65)], [.ref 77], (q_kN (q_sJ s 1 8 ((s.2.2 1 8) + 1)) c n)) _ _
      refine q_RT_seg (g2 := (31, [(0, .ref 65)], [.ref 66, .ref 77], (q_kN (q_sJ s 1 8 ((s.2.2 1 8) + 1)) c n))) 2 (fun _ _ => rfl) ?_
      refine q_RT_call (v := none) (h2 := (q_kN (dz_N127_77_66 (q_sJ s 1 8 ((s.2.2 1 8) + 1))) c n)) rfl rfl ((dzt_N127_77_66 (q_sJ s 1 8 ((s.2.2 1 8) + 1)) c n).le (Nat.le_of_ble_eq_true rfl)) ?_
      generalize dz_N127_77_66 (q_sJ s 1 8 ((s.2.2 1 8) + 1)) = r124
      refine q_RT_let ?_
      show q_RT _ _ _ (34, [(0, .ref 65)], [], (q_kN r124 c n)) _ _
      exact q_RT_ret rfl rfl rfl
    | false =>
      refine q_RT_cF ?_
      refine q_RT_call (v := (some (.ref 82))) (h2 := (q_kN (q_sJ s 1 8 ((s.2.2 1 8) + 1)) c n)) rfl rfl ?_ ?_
      · refine q_Ca_of (Nat.le_of_ble_eq_true rfl) ?_
        refine q_Ru_seg (g2 := (14, [(0, .ref 65)], [.int (lg_cmp ((((s.2.2 1 8) + 1) / 960) - (((s.2.2 1 8) + 1) / 960) / 2 * 2) 0)], (q_kN (q_sJ s 1 8 ((s.2.2 1 8) + 1)) c n))) 8 (fun _ _ => rfl) ?_
        refine q_Ru_rsT (g2 := (24, [(0, .ref 65)], [], (q_kN (q_sJ s 1 8 ((s.2.2 1 8) + 1)) c n))) rfl rfl (q_d_neF h234) ?_
        refine q_Ru_seg (g2 := (28, [(0, .ref 65)], [.ref 82], (q_kN (q_sJ s 1 8 ((s.2.2 1 8) + 1)) c n))) 2 (fun _ _ => rfl) ?_
        exact q_Ru_ret rfl rfl
      show q_RT _ _ _ (27, [(0, .ref 65)], [.ref 82], (q_kN (q_sJ s 1 8 ((s.2.2 1 8) + 1)) c n)) _ _
      refine q_RT_seg (g2 := (31, [(0, .ref 65)], [.ref 66, .ref 82], (q_kN (q_sJ s 1 8 ((s.2.2 1 8) + 1)) c n))) 2 (fun _ _ => rfl) ?_
      refine q_RT_call (v := none) (h2 := (q_kN (dz_N127_82_66 (q_sJ s 1 8 ((s.2.2 1 8) + 1))) c n)) rfl rfl ((dzt_N127_82_66 (q_sJ s 1 8 ((s.2.2 1 8) + 1)) c n).le (Nat.le_of_ble_eq_true rfl)) ?_
      generalize dz_N127_82_66 (q_sJ s 1 8 ((s.2.2 1 8) + 1)) = r126
      refine q_RT_let ?_
      show q_RT _ _ _ (34, [(0, .ref 65)], [], (q_kN r126 c n)) _ _
      exact q_RT_ret rfl rfl rfl
  | false =>
    refine q_RT_cF ?_
    refine q_RT_rsT (g2 := (34, [(0, .ref 65)], [], (q_kN (q_sJ s 1 8 ((s.2.2 1 8) + 1)) c n))) rfl rfl (q_d_neF h233) ?_
    exact q_RT_ret rfl rfl rfl
def dz_N187 (s : q_S) (a0 : Int32) : Bool :=
  cond (decide (a0 < 160)) (false) (cond (decide (167 < a0)) (false) (true))
set_option maxHeartbeats 4000000 in
theorem dzt_N187 (s : q_S) (c n : Nat) (a0 : Int32) : q_Ca q_TB0 1 186 [.int a0] (q_kN s c n) ((q_oB (q_kN s c n)) (dz_N187 s a0)) := by
  refine q_CaT_of (φ := (q_oB (q_kN s c n))) (Nat.le_of_ble_eq_true rfl) ?_
  unfold dz_N187
  refine q_RT_seg (g2 := (4, [(0, .int a0)], [.int 160, .int a0], (q_kN s c n))) 2 (fun _ _ => rfl) ?_
  cases h239 : decide (a0 < 160) with
  | true =>
    refine q_RT_cT ?_
    refine q_RT_rsT (g2 := (18, [(0, .int a0)], [], (q_kN s c n))) rfl rfl h239 ?_
    refine q_RT_seg (g2 := (19, [(0, .int a0)], [.int 0], (q_kN s c n))) 1 (fun _ _ => rfl) ?_
    exact q_RT_ret rfl rfl rfl
  | false =>
    refine q_RT_cF ?_
    refine q_RT_rsF (g2 := (7, [(0, .int a0)], [], (q_kN s c n))) rfl rfl h239 ?_
    refine q_RT_seg (g2 := (11, [(0, .int a0)], [.int 167, .int a0], (q_kN s c n))) 2 (fun _ _ => rfl) ?_
    cases h240 : decide (167 < a0) with
    | true =>
      refine q_RT_cT ?_
      refine q_RT_rsT (g2 := (18, [(0, .int a0)], [], (q_kN s c n))) rfl rfl h240 ?_
      refine q_RT_seg (g2 := (19, [(0, .int a0)], [.int 0], (q_kN s c n))) 1 (fun _ _ => rfl) ?_
      exact q_RT_ret rfl rfl rfl
    | false =>
      refine q_RT_cF ?_
      refine q_RT_rsF (g2 := (14, [(0, .int a0)], [], (q_kN s c n))) rfl rfl h240 ?_
      refine q_RT_seg (g2 := (19, [(0, .int a0)], [.int 1], (q_kN s c n))) 2 (fun _ _ => rfl) ?_
      exact q_RT_ret rfl rfl rfl
def dz_N140_87 (s : q_S) (a1 : Int32) : Int32 :=
  (((s.2.1 23 4) + a1) &&& 4095)
set_option maxHeartbeats 4000000 in
theorem dzt_N140_87 (s : q_S) (c n : Nat) (a1 : Int32) : q_Ca q_TB0 1 139 [.ref 87, .int a1] (q_kN s c n) ((q_oP (q_kN s c n)) (dz_N140_87 s a1)) := by
  refine q_CaT_of (φ := (q_oP (q_kN s c n))) (Nat.le_of_ble_eq_true rfl) ?_
  unfold dz_N140_87
  refine q_RT_seg (g2 := (4, [(0, .ref 87), (1, .int a1)], [.int (s.2.1 23 4)], (q_kN s c n))) 2 (fun _ _ => rfl) ?_
  refine q_RT_seg (g2 := (10, [(0, .ref 87), (1, .int a1)], [.int (((s.2.1 23 4) + a1) &&& 4095)], (q_kN s c n))) 4 (fun _ _ => rfl) ?_
  exact q_RT_ret rfl rfl rfl
def dz_N161_87 (s : q_S) (a1 : Int32) : Bool :=
  cond (decide (a1 < 160)) (cond (decide ((s.2.1 23 5) &&& 64 = 0)) (false) (true)) (cond (decide (166 < a1)) (cond (decide ((s.2.1 23 5) &&& 64 = 0)) (false) (true)) (cond (decide (a1 = 160)) (cond (decide ((s.2.1 23 5) &&& 2 = 0)) (true) (false)) (cond (decide (a1 = 161)) (cond (decide ((s.2.1 23 5) &&& 2 = 0)) (false) (true)) (cond (decide (a1 = 162)) (cond (decide ((s.2.1 23 5) &&& 1 = 0)) (true) (false)) (cond (decide (a1 = 163)) (cond (decide ((s.2.1 23 5) &&& 1 = 0)) (false) (true)) (cond (decide (a1 = 164)) (cond (decide ((s.2.1 23 5) &&& 128 = 0)) (true) (false)) (cond (decide (a1 = 165)) (cond (decide ((s.2.1 23 5) &&& 128 = 0)) (false) (true)) (cond (decide ((s.2.1 23 5) &&& 64 = 0)) (true) (false)))))))))
set_option maxHeartbeats 4000000 in
theorem dzt_N161_87 (s : q_S) (c n : Nat) (a1 : Int32) : q_Ca q_TB0 1 160 [.ref 87, .int a1] (q_kN s c n) ((q_oB (q_kN s c n)) (dz_N161_87 s a1)) := by
  refine q_CaT_of (φ := (q_oB (q_kN s c n))) (Nat.le_of_ble_eq_true rfl) ?_
  unfold dz_N161_87
  refine q_RT_seg (g2 := (1, [(0, .ref 87), (1, .int a1)], [.int a1], (q_kN s c n))) 1 (fun _ _ => rfl) ?_
  cases h242 : decide (a1 < 160) with
  | true =>
    refine q_RT_cT ?_
    refine q_RT_st1 (g2 := (154, [(0, .ref 87), (1, .int a1)], [], (q_kN s c n))) rfl (if_pos (Or.inl (Int32.lt_iff_toInt_lt.mp (of_decide_eq_true h242)))) ?_
    refine q_RT_seg (g2 := (158, [(0, .ref 87), (1, .int a1)], [.int (s.2.1 23 5)], (q_kN s c n))) 2 (fun _ _ => rfl) ?_
    refine q_RT_seg (g2 := (161, [(0, .ref 87), (1, .int a1)], [.int ((s.2.1 23 5) &&& 64)], (q_kN s c n))) 2 (fun _ _ => rfl) ?_
    cases h243 : decide ((s.2.1 23 5) &&& 64 = 0) with
    | true =>
      refine q_RT_cT ?_
      refine q_RT_rsT (g2 := (168, [(0, .ref 87), (1, .int a1)], [], (q_kN s c n))) rfl rfl h243 ?_
      refine q_RT_seg (g2 := (169, [(0, .ref 87), (1, .int a1)], [.int 0], (q_kN s c n))) 1 (fun _ _ => rfl) ?_
      exact q_RT_ret rfl rfl rfl
    | false =>
      refine q_RT_cF ?_
      refine q_RT_rsF (g2 := (164, [(0, .ref 87), (1, .int a1)], [], (q_kN s c n))) rfl rfl h243 ?_
      refine q_RT_seg (g2 := (169, [(0, .ref 87), (1, .int a1)], [.int 1], (q_kN s c n))) 2 (fun _ _ => rfl) ?_
      exact q_RT_ret rfl rfl rfl
  | false =>
    refine q_RT_cF ?_
    cases h244 : decide (166 < a1) with
    | true =>
      refine q_RT_cT ?_
      refine q_RT_st1 (g2 := (154, [(0, .ref 87), (1, .int a1)], [], (q_kN s c n))) rfl (if_pos (Or.inr (Int32.lt_iff_toInt_lt.mp (of_decide_eq_true h244)))) ?_
      refine q_RT_seg (g2 := (158, [(0, .ref 87), (1, .int a1)], [.int (s.2.1 23 5)], (q_kN s c n))) 2 (fun _ _ => rfl) ?_
      refine q_RT_seg (g2 := (161, [(0, .ref 87), (1, .int a1)], [.int ((s.2.1 23 5) &&& 64)], (q_kN s c n))) 2 (fun _ _ => rfl) ?_
      cases h245 : decide ((s.2.1 23 5) &&& 64 = 0) with
      | true =>
        refine q_RT_cT ?_
        refine q_RT_rsT (g2 := (168, [(0, .ref 87), (1, .int a1)], [], (q_kN s c n))) rfl rfl h245 ?_
        refine q_RT_seg (g2 := (169, [(0, .ref 87), (1, .int a1)], [.int 0], (q_kN s c n))) 1 (fun _ _ => rfl) ?_
        exact q_RT_ret rfl rfl rfl
      | false =>
        refine q_RT_cF ?_
        refine q_RT_rsF (g2 := (164, [(0, .ref 87), (1, .int a1)], [], (q_kN s c n))) rfl rfl h245 ?_
        refine q_RT_seg (g2 := (169, [(0, .ref 87), (1, .int a1)], [.int 1], (q_kN s c n))) 2 (fun _ _ => rfl) ?_
        exact q_RT_ret rfl rfl rfl
    | false =>
      refine q_RT_cF ?_
      cases h246 : decide (a1 = 160) with
      | true =>
        refine q_RT_cT ?_
        refine q_RT_st1 (g2 := (44, [(0, .ref 87), (1, .int a1)], [], (q_kN s c n))) rfl (by rw [of_decide_eq_true h246]; rfl) ?_
        refine q_RT_seg (g2 := (48, [(0, .ref 87), (1, .int a1)], [.int (s.2.1 23 5)], (q_kN s c n))) 2 (fun _ _ => rfl) ?_
        refine q_RT_seg (g2 := (50, [(0, .ref 87), (1, .int a1)], [.int ((s.2.1 23 5) &&& 2)], (q_kN s c n))) 2 (fun _ _ => rfl) ?_
        cases h247 : decide ((s.2.1 23 5) &&& 2 = 0) with
        | true =>
          refine q_RT_cT ?_
          refine q_RT_rsF (g2 := (53, [(0, .ref 87), (1, .int a1)], [], (q_kN s c n))) rfl rfl (q_d_neT h247) ?_
          refine q_RT_seg (g2 := (58, [(0, .ref 87), (1, .int a1)], [.int 1], (q_kN s c n))) 2 (fun _ _ => rfl) ?_
          exact q_RT_ret rfl rfl rfl
        | false =>
          refine q_RT_cF ?_
          refine q_RT_rsT (g2 := (57, [(0, .ref 87), (1, .int a1)], [], (q_kN s c n))) rfl rfl (q_d_neF h247) ?_
          refine q_RT_seg (g2 := (58, [(0, .ref 87), (1, .int a1)], [.int 0], (q_kN s c n))) 1 (fun _ _ => rfl) ?_
          exact q_RT_ret rfl rfl rfl
      | false =>
        refine q_RT_cF ?_
        cases h248 : decide (a1 = 161) with
        | true =>
          refine q_RT_cT ?_
          refine q_RT_st1 (g2 := (59, [(0, .ref 87), (1, .int a1)], [], (q_kN s c n))) rfl (by rw [of_decide_eq_true h248]; rfl) ?_
          refine q_RT_seg (g2 := (63, [(0, .ref 87), (1, .int a1)], [.int (s.2.1 23 5)], (q_kN s c n))) 2 (fun _ _ => rfl) ?_
          refine q_RT_seg (g2 := (65, [(0, .ref 87), (1, .int a1)], [.int ((s.2.1 23 5) &&& 2)], (q_kN s c n))) 2 (fun _ _ => rfl) ?_
          cases h249 : decide ((s.2.1 23 5) &&& 2 = 0) with
          | true =>
            refine q_RT_cT ?_
            refine q_RT_rsT (g2 := (72, [(0, .ref 87), (1, .int a1)], [], (q_kN s c n))) rfl rfl h249 ?_
            refine q_RT_seg (g2 := (73, [(0, .ref 87), (1, .int a1)], [.int 0], (q_kN s c n))) 1 (fun _ _ => rfl) ?_
            exact q_RT_ret rfl rfl rfl
          | false =>
            refine q_RT_cF ?_
            refine q_RT_rsF (g2 := (68, [(0, .ref 87), (1, .int a1)], [], (q_kN s c n))) rfl rfl h249 ?_
            refine q_RT_seg (g2 := (73, [(0, .ref 87), (1, .int a1)], [.int 1], (q_kN s c n))) 2 (fun _ _ => rfl) ?_
            exact q_RT_ret rfl rfl rfl
        | false =>
          refine q_RT_cF ?_
          cases h250 : decide (a1 = 162) with
          | true =>
            refine q_RT_cT ?_
            refine q_RT_st1 (g2 := (74, [(0, .ref 87), (1, .int a1)], [], (q_kN s c n))) rfl (by rw [of_decide_eq_true h250]; rfl) ?_
            refine q_RT_seg (g2 := (78, [(0, .ref 87), (1, .int a1)], [.int (s.2.1 23 5)], (q_kN s c n))) 2 (fun _ _ => rfl) ?_
            refine q_RT_seg (g2 := (80, [(0, .ref 87), (1, .int a1)], [.int ((s.2.1 23 5) &&& 1)], (q_kN s c n))) 2 (fun _ _ => rfl) ?_
            cases h251 : decide ((s.2.1 23 5) &&& 1 = 0) with
            | true =>
              refine q_RT_cT ?_
              refine q_RT_rsF (g2 := (83, [(0, .ref 87), (1, .int a1)], [], (q_kN s c n))) rfl rfl (q_d_neT h251) ?_
              refine q_RT_seg (g2 := (88, [(0, .ref 87), (1, .int a1)], [.int 1], (q_kN s c n))) 2 (fun _ _ => rfl) ?_
              exact q_RT_ret rfl rfl rfl
            | false =>
              refine q_RT_cF ?_
              refine q_RT_rsT (g2 := (87, [(0, .ref 87), (1, .int a1)], [], (q_kN s c n))) rfl rfl (q_d_neF h251) ?_
              refine q_RT_seg (g2 := (88, [(0, .ref 87), (1, .int a1)], [.int 0], (q_kN s c n))) 1 (fun _ _ => rfl) ?_
              exact q_RT_ret rfl rfl rfl
          | false =>
            refine q_RT_cF ?_
            cases h252 : decide (a1 = 163) with
            | true =>
              refine q_RT_cT ?_
              refine q_RT_st1 (g2 := (89, [(0, .ref 87), (1, .int a1)], [], (q_kN s c n))) rfl (by rw [of_decide_eq_true h252]; rfl) ?_
              refine q_RT_seg (g2 := (93, [(0, .ref 87), (1, .int a1)], [.int (s.2.1 23 5)], (q_kN s c n))) 2 (fun _ _ => rfl) ?_
              refine q_RT_seg (g2 := (95, [(0, .ref 87), (1, .int a1)], [.int ((s.2.1 23 5) &&& 1)], (q_kN s c n))) 2 (fun _ _ => rfl) ?_
              cases h253 : decide ((s.2.1 23 5) &&& 1 = 0) with
              | true =>
                refine q_RT_cT ?_
                refine q_RT_rsT (g2 := (102, [(0, .ref 87), (1, .int a1)], [], (q_kN s c n))) rfl rfl h253 ?_
                refine q_RT_seg (g2 := (103, [(0, .ref 87), (1, .int a1)], [.int 0], (q_kN s c n))) 1 (fun _ _ => rfl) ?_
                exact q_RT_ret rfl rfl rfl
              | false =>
                refine q_RT_cF ?_
                refine q_RT_rsF (g2 := (98, [(0, .ref 87), (1, .int a1)], [], (q_kN s c n))) rfl rfl h253 ?_
                refine q_RT_seg (g2 := (103, [(0, .ref 87), (1, .int a1)], [.int 1], (q_kN s c n))) 2 (fun _ _ => rfl) ?_
                exact q_RT_ret rfl rfl rfl
            | false =>
              refine q_RT_cF ?_
              cases h254 : decide (a1 = 164) with
              | true =>
                refine q_RT_cT ?_
                refine q_RT_st1 (g2 := (104, [(0, .ref 87), (1, .int a1)], [], (q_kN s c n))) rfl (by rw [of_decide_eq_true h254]; rfl) ?_
                refine q_RT_seg (g2 := (108, [(0, .ref 87), (1, .int a1)], [.int (s.2.1 23 5)], (q_kN s c n))) 2 (fun _ _ => rfl) ?_
                refine q_RT_seg (g2 := (112, [(0, .ref 87), (1, .int a1)], [.int ((s.2.1 23 5) &&& 128)], (q_kN s c n))) 2 (fun _ _ => rfl) ?_
                cases h255 : decide ((s.2.1 23 5) &&& 128 = 0) with
                | true =>
                  refine q_RT_cT ?_
                  refine q_RT_rsF (g2 := (115, [(0, .ref 87), (1, .int a1)], [], (q_kN s c n))) rfl rfl (q_d_neT h255) ?_
                  refine q_RT_seg (g2 := (120, [(0, .ref 87), (1, .int a1)], [.int 1], (q_kN s c n))) 2 (fun _ _ => rfl) ?_
                  exact q_RT_ret rfl rfl rfl
                | false =>
                  refine q_RT_cF ?_
                  refine q_RT_rsT (g2 := (119, [(0, .ref 87), (1, .int a1)], [], (q_kN s c n))) rfl rfl (q_d_neF h255) ?_
                  refine q_RT_seg (g2 := (120, [(0, .ref 87), (1, .int a1)], [.int 0], (q_kN s c n))) 1 (fun _ _ => rfl) ?_
                  exact q_RT_ret rfl rfl rfl
              | false =>
                refine q_RT_cF ?_
                cases h256 : decide (a1 = 165) with
                | true =>
                  refine q_RT_cT ?_
                  refine q_RT_st1 (g2 := (121, [(0, .ref 87), (1, .int a1)], [], (q_kN s c n))) rfl (by rw [of_decide_eq_true h256]; rfl) ?_
                  refine q_RT_seg (g2 := (125, [(0, .ref 87), (1, .int a1)], [.int (s.2.1 23 5)], (q_kN s c n))) 2 (fun _ _ => rfl) ?_
                  refine q_RT_seg (g2 := (129, [(0, .ref 87), (1, .int a1)], [.int ((s.2.1 23 5) &&& 128)], (q_kN s c n))) 2 (fun _ _ => rfl) ?_
                  cases h257 : decide ((s.2.1 23 5) &&& 128 = 0) with
                  | true =>
                    refine q_RT_cT ?_
                    refine q_RT_rsT (g2 := (136, [(0, .ref 87), (1, .int a1)], [], (q_kN s c n))) rfl rfl h257 ?_
                    refine q_RT_seg (g2 := (137, [(0, .ref 87), (1, .int a1)], [.int 0], (q_kN s c n))) 1 (fun _ _ => rfl) ?_
                    exact q_RT_ret rfl rfl rfl
                  | false =>
                    refine q_RT_cF ?_
                    refine q_RT_rsF (g2 := (132, [(0, .ref 87), (1, .int a1)], [], (q_kN s c n))) rfl rfl h257 ?_
                    refine q_RT_seg (g2 := (137, [(0, .ref 87), (1, .int a1)], [.int 1], (q_kN s c n))) 2 (fun _ _ => rfl) ?_
                    exact q_RT_ret rfl rfl rfl
                | false =>
                  refine q_RT_cF ?_
                  have h258 : a1 = 166 := Int32.toInt_inj.mp (by have e0 := q_neI h246 (n := 160); have e1 := q_neI h248 (n := 161); have e2 := q_neI h250 (n := 162); have e3 := q_neI h252 (n := 163); have e4 := q_neI h254 (n := 164); have e5 := q_neI h256 (n := 165); have l1 : 160 ≤ (a1).toInt := q_lo1 h242; have l2 : (a1).toInt ≤ 166 := q_hi2 h244; show (a1).toInt = 166; omega)
                  refine q_RT_st1 (g2 := (138, [(0, .ref 87), (1, .int a1)], [], (q_kN s c n))) rfl (by rw [h258]; rfl) ?_
                  refine q_RT_seg (g2 := (142, [(0, .ref 87), (1, .int a1)], [.int (s.2.1 23 5)], (q_kN s c n))) 2 (fun _ _ => rfl) ?_
                  refine q_RT_seg (g2 := (145, [(0, .ref 87), (1, .int a1)], [.int ((s.2.1 23 5) &&& 64)], (q_kN s c n))) 2 (fun _ _ => rfl) ?_
                  cases h259 : decide ((s.2.1 23 5) &&& 64 = 0) with
                  | true =>
                    refine q_RT_cT ?_
                    refine q_RT_rsF (g2 := (148, [(0, .ref 87), (1, .int a1)], [], (q_kN s c n))) rfl rfl (q_d_neT h259) ?_
                    refine q_RT_seg (g2 := (153, [(0, .ref 87), (1, .int a1)], [.int 1], (q_kN s c n))) 2 (fun _ _ => rfl) ?_
                    exact q_RT_ret rfl rfl rfl
                  | false =>
                    refine q_RT_cF ?_
                    refine q_RT_rsT (g2 := (152, [(0, .ref 87), (1, .int a1)], [], (q_kN s c n))) rfl rfl (q_d_neF h259) ?_
                    refine q_RT_seg (g2 := (153, [(0, .ref 87), (1, .int a1)], [.int 0], (q_kN s c n))) 1 (fun _ _ => rfl) ?_
                    exact q_RT_ret rfl rfl rfl
def dz_N193 (s : q_S) (a0 : Int32) (a1 : Int32) : Int32 :=
  cond (decide (127 < a1)) ((((a0 + 2) + (a1 - 256)) &&& 4095)) ((((a0 + 2) + a1) &&& 4095))
set_option maxHeartbeats 4000000 in
theorem dzt_N193 (s : q_S) (c n : Nat) (a0 : Int32) (a1 : Int32) : q_Ca q_TB0 1 192 [.int a0, .int a1] (q_kN s c n) ((q_oP (q_kN s c n)) (dz_N193 s a0 a1)) := by
  refine q_CaT_of (φ := (q_oP (q_kN s c n))) (Nat.le_of_ble_eq_true rfl) ?_
  unfold dz_N193
  refine q_RT_seg (g2 := (6, [(0, .int a0), (1, .int a1)], [.int 127, .int a1, .int (a0 + 2)], (q_kN s c n))) 5 (fun _ _ => rfl) ?_
  cases h261 : decide (127 < a1) with
  | true =>
    refine q_RT_cT ?_
    refine q_RT_rsF (g2 := (9, [(0, .int a0), (1, .int a1)], [.int (a0 + 2)], (q_kN s c n))) rfl rfl (q_d_geT h261) ?_
    refine q_RT_seg (g2 := (23, [(0, .int a0), (1, .int a1)], [.int (((a0 + 2) + (a1 - 256)) &&& 4095)], (q_kN s c n))) 7 (fun _ _ => rfl) ?_
    exact q_RT_ret rfl rfl rfl
  | false =>
    refine q_RT_cF ?_
    refine q_RT_rsT (g2 := (17, [(0, .int a0), (1, .int a1)], [.int (a0 + 2)], (q_kN s c n))) rfl rfl (q_d_geF h261) ?_
    refine q_RT_seg (g2 := (23, [(0, .int a0), (1, .int a1)], [.int (((a0 + 2) + a1) &&& 4095)], (q_kN s c n))) 4 (fun _ _ => rfl) ?_
    exact q_RT_ret rfl rfl rfl
def dz_N139_87 (s : q_S) (a1 : Int32) : Int32 :=
  q_let (dz_N193 s (s.2.1 23 4) a1) fun r135 => r135
set_option maxHeartbeats 4000000 in
theorem dzt_N139_87 (s : q_S) (c n : Nat) (a1 : Int32) : q_Ca q_TB0 2 138 [.ref 87, .int a1] (q_kN s c n) ((q_oP (q_kN s c n)) (dz_N139_87 s a1)) := by
  refine q_CaT_of (φ := (q_oP (q_kN s c n))) (Nat.le_of_ble_eq_true rfl) ?_
  unfold dz_N139_87
  refine q_RT_seg (g2 := (4, [(0, .ref 87), (1, .int a1)], [.int (s.2.1 23 4)], (q_kN s c n))) 2 (fun _ _ => rfl) ?_
  refine q_RT_seg (g2 := (5, [(0, .ref 87), (1, .int a1)], [.int a1, .int (s.2.1 23 4)], (q_kN s c n))) 1 (fun _ _ => rfl) ?_
  refine q_RT_call (v := (some (.int (dz_N193 s (s.2.1 23 4) a1)))) (h2 := (q_kN s c n)) rfl rfl ((dzt_N193 s c n (s.2.1 23 4) a1).le (Nat.le_of_ble_eq_true rfl)) ?_
  generalize dz_N193 s (s.2.1 23 4) a1 = r135
  refine q_RT_let ?_
  show q_RT _ _ _ (8, [(0, .ref 87), (1, .int a1)], [.int r135], (q_kN s c n)) _ _
  exact q_RT_ret rfl rfl rfl
def dz_N138_87 (s : q_S) (a1 : Int32) (a2 : Int32) : Int32 :=
  q_let (dz_N161_87 s a1) fun r134 => cond r134 (q_let (dz_N139_87 s a2) fun r136 => q_let (dz_N140_87 s 2) fun r137 => cond (decide (r136 / 256 = r137 / 256)) (3) (4)) (2)
set_option maxHeartbeats 4000000 in
theorem dzt_N138_87 (s : q_S) (c n : Nat) (a1 : Int32) (a2 : Int32) : q_Ca q_TB0 3 137 [.ref 87, .int a1, .int a2] (q_kN s c n) ((q_oP (q_kN s c n)) (dz_N138_87 s a1 a2)) := by
  refine q_CaT_of (φ := (q_oP (q_kN s c n))) (Nat.le_of_ble_eq_true rfl) ?_
  unfold dz_N138_87
  refine q_RT_seg (g2 := (2, [(0, .ref 87), (1, .int a1), (2, .int a2)], [.int a1, .ref 87], (q_kN s c n))) 2 (fun _ _ => rfl) ?_
  refine q_RT_call (v := (some (.int (q_b (dz_N161_87 s a1))))) (h2 := (q_kN s c n)) rfl rfl ((dzt_N161_87 s c n a1).le (Nat.le_of_ble_eq_true rfl)) ?_
  generalize dz_N161_87 s a1 = r134
  refine q_RT_let ?_
  show q_RT _ _ _ (5, [(0, .ref 87), (1, .int a1), (2, .int a2)], [.int (q_b r134)], (q_kN s c n)) _ _
  cases h260 : r134 with
  | true =>
    refine q_RT_cT ?_
    show q_RT _ _ _ (5, [(0, .ref 87), (1, .int a1), (2, .int a2)], [.int 1], (q_kN s c n)) _ _
    refine q_RT_seg (g2 := (12, [(0, .ref 87), (1, .int a1), (2, .int a2)], [.int a2, .ref 87], (q_kN s c n))) 3 (fun _ _ => rfl) ?_
    refine q_RT_call (v := (some (.int (dz_N139_87 s a2)))) (h2 := (q_kN s c n)) rfl rfl ((dzt_N139_87 s c n a2).le (Nat.le_of_ble_eq_true rfl)) ?_
    generalize dz_N139_87 s a2 = r136
    refine q_RT_let ?_
    show q_RT _ _ _ (15, [(0, .ref 87), (1, .int a1), (2, .int a2)], [.int r136], (q_kN s c n)) _ _
    refine q_RT_seg (g2 := (21, [(0, .ref 87), (1, .int a1), (2, .int a2)], [.int 2, .ref 87, .int (r136 / 256)], (q_kN s c n))) 4 (fun _ _ => rfl) ?_
    refine q_RT_call (v := (some (.int (dz_N140_87 s 2)))) (h2 := (q_kN s c n)) rfl rfl ((dzt_N140_87 s c n 2).le (Nat.le_of_ble_eq_true rfl)) ?_
    generalize dz_N140_87 s 2 = r137
    refine q_RT_let ?_
    show q_RT _ _ _ (24, [(0, .ref 87), (1, .int a1), (2, .int a2)], [.int r137, .int (r136 / 256)], (q_kN s c n)) _ _
    refine q_RT_seg (g2 := (28, [(0, .ref 87), (1, .int a1), (2, .int a2)], [.int (r137 / 256), .int (r136 / 256)], (q_kN s c n))) 2 (fun _ _ => rfl) ?_
    cases h262 : decide (r136 / 256 = r137 / 256) with
    | true =>
      refine q_RT_cT ?_
      refine q_RT_rsF (g2 := (31, [(0, .ref 87), (1, .int a1), (2, .int a2)], [], (q_kN s c n))) rfl rfl (q_d_neT h262) ?_
      refine q_RT_seg (g2 := (36, [(0, .ref 87), (1, .int a1), (2, .int a2)], [.int 3], (q_kN s c n))) 2 (fun _ _ => rfl) ?_
      exact q_RT_ret rfl rfl rfl
    | false =>
      refine q_RT_cF ?_
      refine q_RT_rsT (g2 := (35, [(0, .ref 87), (1, .int a1), (2, .int a2)], [], (q_kN s c n))) rfl rfl (q_d_neF h262) ?_
      refine q_RT_seg (g2 := (36, [(0, .ref 87), (1, .int a1), (2, .int a2)], [.int 4], (q_kN s c n))) 1 (fun _ _ => rfl) ?_
      exact q_RT_ret rfl rfl rfl
  | false =>
    refine q_RT_cF ?_
    show q_RT _ _ _ (5, [(0, .ref 87), (1, .int a1), (2, .int a2)], [.int 0], (q_kN s c n)) _ _
    refine q_RT_seg (g2 := (9, [(0, .ref 87), (1, .int a1), (2, .int a2)], [.int 2], (q_kN s c n))) 2 (fun _ _ => rfl) ?_
    exact q_RT_ret rfl rfl rfl
def dz_N192 (s : q_S) (a0 : Int32) : Int32 :=
  cond (decide (a0 - 128 < 0)) (2) (cond (decide (a0 - 128 < 32)) (((fun j => q_o3.getD j 0) ((a0 - 128).toNatClampNeg))) (2))
set_option maxHeartbeats 4000000 in
theorem dzt_N192 (s : q_S) (c n : Nat) (a0 : Int32) : q_Ca q_TB0 1 191 [.int a0] (q_kN s c n) ((q_oP (q_kN s c n)) (dz_N192 s a0)) := by
  refine q_CaT_of (φ := (q_oP (q_kN s c n))) (Nat.le_of_ble_eq_true rfl) ?_
  unfold dz_N192
  refine q_RT_seg (g2 := (7, [(1, .int (a0 - 128)), (0, .int a0)], [.int (a0 - 128)], (q_kN s c n))) 5 (fun _ _ => rfl) ?_
  cases h264 : decide (a0 - 128 < 0) with
  | true =>
    refine q_RT_cT ?_
    refine q_RT_rsT (g2 := (26, [(1, .int (a0 - 128)), (0, .int a0)], [], (q_kN s c n))) rfl rfl h264 ?_
    refine q_RT_seg (g2 := (27, [(1, .int (a0 - 128)), (0, .int a0)], [.int 2], (q_kN s c n))) 1 (fun _ _ => rfl) ?_
    exact q_RT_ret rfl rfl rfl
  | false =>
    refine q_RT_cF ?_
    refine q_RT_rsF (g2 := (10, [(1, .int (a0 - 128)), (0, .int a0)], [], (q_kN s c n))) rfl rfl h264 ?_
    refine q_RT_seg (g2 := (15, [(1, .int (a0 - 128)), (0, .int a0)], [.int 32, .int (a0 - 128)], (q_kN s c n))) 3 (fun _ _ => rfl) ?_
    cases h265 : decide (a0 - 128 < 32) with
    | true =>
      refine q_RT_cT ?_
      refine q_RT_rsF (g2 := (18, [(1, .int (a0 - 128)), (0, .int a0)], [], (q_kN s c n))) rfl rfl (q_d_geT h265) ?_
      refine q_RT_seg (g2 := (22, [(1, .int (a0 - 128)), (0, .int a0)], [.int (a0 - 128), .ref 3], (q_kN s c n))) 2 (fun _ _ => rfl) ?_
      refine q_RT_rsT (g2 := (23, [(1, .int (a0 - 128)), (0, .int a0)], [.int ((fun j => q_o3.getD j 0) ((a0 - 128).toNatClampNeg))], (q_kN s c n))) rfl rfl (q_in_bd (x := a0 - 128) (n := 32) (U := 31) (L := 0) (q_lo1 h264) (q_hi1 h265)) ?_
      refine q_RT_seg (g2 := (27, [(1, .int (a0 - 128)), (0, .int a0)], [.int ((fun j => q_o3.getD j 0) ((a0 - 128).toNatClampNeg))], (q_kN s c n))) 1 (fun _ _ => rfl) ?_
      exact q_RT_ret rfl rfl rfl
    | false =>
      refine q_RT_cF ?_
      refine q_RT_rsT (g2 := (26, [(1, .int (a0 - 128)), (0, .int a0)], [], (q_kN s c n))) rfl rfl (q_d_geF h265) ?_
      refine q_RT_seg (g2 := (27, [(1, .int (a0 - 128)), (0, .int a0)], [.int 2], (q_kN s c n))) 1 (fun _ _ => rfl) ?_
      exact q_RT_ret rfl rfl rfl
def dz_N191 (s : q_S) (a0 : Int32) : Int32 :=
  ((fun j => q_o2.getD j 0) ((a0 &&& 7).toNatClampNeg))
set_option maxHeartbeats 4000000 in
theorem dzt_N191 (s : q_S) (c n : Nat) (a0 : Int32) : q_Ca q_TB0 1 190 [.int a0] (q_kN s c n) ((q_oP (q_kN s c n)) (dz_N191 s a0)) := by
  refine q_CaT_of (φ := (q_oP (q_kN s c n))) (Nat.le_of_ble_eq_true rfl) ?_
  unfold dz_N191
  refine q_RT_seg (g2 := (7, [(0, .int a0)], [.int (a0 &&& 7), .ref 2], (q_kN s c n))) 4 (fun _ _ => rfl) ?_
  refine q_RT_rsT (g2 := (8, [(0, .int a0)], [.int ((fun j => q_o2.getD j 0) ((a0 &&& 7).toNatClampNeg))], (q_kN s c n))) rfl rfl (q_in_bd (x := a0 &&& 7) (n := 8) (U := 7) (L := 0) (q_and_lo a0 7) (q_and_hi a0 7 7)) ?_
  exact q_RT_ret rfl rfl rfl
def dz_N189 (s : q_S) (a0 : Int32) : Bool :=
  cond (decide (a0 = 14)) (true) (cond (decide (a0 = 15)) (true) (cond (decide (a0 = 18)) (true) (cond (decide (a0 = 19)) (true) (false))))
set_option maxHeartbeats 4000000 in
theorem dzt_N189 (s : q_S) (c n : Nat) (a0 : Int32) : q_Ca q_TB0 1 188 [.int a0] (q_kN s c n) ((q_oB (q_kN s c n)) (dz_N189 s a0)) := by
  refine q_CaT_of (φ := (q_oB (q_kN s c n))) (Nat.le_of_ble_eq_true rfl) ?_
  unfold dz_N189
  refine q_RT_seg (g2 := (3, [(0, .int a0)], [.int 14, .int a0], (q_kN s c n))) 2 (fun _ _ => rfl) ?_
  cases h269 : decide (a0 = 14) with
  | true =>
    refine q_RT_cT ?_
    refine q_RT_rsT (g2 := (24, [(0, .int a0)], [], (q_kN s c n))) rfl rfl h269 ?_
    refine q_RT_seg (g2 := (29, [(0, .int a0)], [.int 1], (q_kN s c n))) 2 (fun _ _ => rfl) ?_
    exact q_RT_ret rfl rfl rfl
  | false =>
    refine q_RT_cF ?_
    refine q_RT_rsF (g2 := (6, [(0, .int a0)], [], (q_kN s c n))) rfl rfl h269 ?_
    refine q_RT_seg (g2 := (9, [(0, .int a0)], [.int 15, .int a0], (q_kN s c n))) 2 (fun _ _ => rfl) ?_
    cases h270 : decide (a0 = 15) with
    | true =>
      refine q_RT_cT ?_
      refine q_RT_rsT (g2 := (24, [(0, .int a0)], [], (q_kN s c n))) rfl rfl h270 ?_
      refine q_RT_seg (g2 := (29, [(0, .int a0)], [.int 1], (q_kN s c n))) 2 (fun _ _ => rfl) ?_
      exact q_RT_ret rfl rfl rfl
    | false =>
      refine q_RT_cF ?_
      refine q_RT_rsF (g2 := (12, [(0, .int a0)], [], (q_kN s c n))) rfl rfl h270 ?_
      refine q_RT_seg (g2 := (15, [(0, .int a0)], [.int 18, .int a0], (q_kN s c n))) 2 (fun _ _ => rfl) ?_
      cases h271 : decide (a0 = 18) with
      | true =>
        refine q_RT_cT ?_
        refine q_RT_rsT (g2 := (24, [(0, .int a0)], [], (q_kN s c n))) rfl rfl h271 ?_
        refine q_RT_seg (g2 := (29, [(0, .int a0)], [.int 1], (q_kN s c n))) 2 (fun _ _ => rfl) ?_
        exact q_RT_ret rfl rfl rfl
      | false =>
        refine q_RT_cF ?_
        refine q_RT_rsF (g2 := (18, [(0, .int a0)], [], (q_kN s c n))) rfl rfl h271 ?_
        refine q_RT_seg (g2 := (21, [(0, .int a0)], [.int 19, .int a0], (q_kN s c n))) 2 (fun _ _ => rfl) ?_
        cases h272 : decide (a0 = 19) with
        | true =>
          refine q_RT_cT ?_
          refine q_RT_rsF (g2 := (24, [(0, .int a0)], [], (q_kN s c n))) rfl rfl (q_d_neT h272) ?_
          refine q_RT_seg (g2 := (29, [(0, .int a0)], [.int 1], (q_kN s c n))) 2 (fun _ _ => rfl) ?_
          exact q_RT_ret rfl rfl rfl
        | false =>
          refine q_RT_cF ?_
          refine q_RT_rsT (g2 := (28, [(0, .int a0)], [], (q_kN s c n))) rfl rfl (q_d_neF h272) ?_
          refine q_RT_seg (g2 := (29, [(0, .int a0)], [.int 0], (q_kN s c n))) 1 (fun _ _ => rfl) ?_
          exact q_RT_ret rfl rfl rfl
def dz_N145_87_65 (s : q_S) (a2 : Int32) : Option (Int32) :=
  q_let (dz_N140_87 s 1) fun r145 => (dz_N90_65 s r145).bind fun r146 => cond (decide (a2 = 1)) (some r146) (cond (decide (a2 = 2)) (some ((r146 + (s.2.1 23 1)) &&& 255)) (cond (decide (a2 < 6)) (q_let (dz_N140_87 s 2) fun r147 => (dz_N90_65 s r147).bind fun r148 => some ((r146 + (256 * r148)) &&& 4095)) (cond (decide (a2 = 7)) ((dz_N90_65 s ((r146 + (s.2.1 23 1)) &&& 255)).bind fun r149 => (dz_N90_65 s ((((r146 + (s.2.1 23 1)) &&& 255) + 1) &&& 255)).bind fun r150 => some ((r149 + (256 * r150)) &&& 4095)) ((dz_N90_65 s r146).bind fun r151 => (dz_N90_65 s ((r146 + 1) &&& 255)).bind fun r152 => some ((r151 + (256 * r152)) &&& 4095)))))
set_option maxHeartbeats 4000000 in
theorem dzt_N145_87_65 (s : q_S) (c n : Nat) (a2 : Int32) (x : Int32) (h : dz_N145_87_65 s a2 = some x) : q_Ca q_TB0 3 144 [.ref 87, .ref 65, .int a2] (q_kN s c n) ((q_oP (q_kN s c n)) x) := by
  refine q_CaP_of (φ := (q_oP (q_kN s c n))) (Nat.le_of_ble_eq_true rfl) ?_ h
  clear h
  unfold dz_N145_87_65
  refine q_RP_seg (g2 := (3, [(0, .ref 87), (1, .ref 65), (2, .int a2)], [.int 1, .ref 87, .ref 65], (q_kN s c n))) 3 (fun _ _ => rfl) ?_
  refine q_RP_call (v := (some (.int (dz_N140_87 s 1)))) (h2 := (q_kN s c n)) rfl rfl ((dzt_N140_87 s c n 1).le (Nat.le_of_ble_eq_true rfl)) ?_
  generalize dz_N140_87 s 1 = r145
  refine q_RP_let ?_
  show q_RP _ _ _ (6, [(0, .ref 87), (1, .ref 65), (2, .int a2)], [.int r145, .ref 65], (q_kN s c n)) _ _
  refine q_RP_bd fun r146 er146 => ?_
  refine q_RP_call (v := (some (.int r146))) (h2 := (q_kN s c n)) rfl rfl ((dzt_N90_65 s c n r145 r146 er146).le (Nat.le_of_ble_eq_true rfl)) ?_
  show q_RP _ _ _ (9, [(0, .ref 87), (1, .ref 65), (2, .int a2)], [.int r146], (q_kN s c n)) _ _
  refine q_RP_seg (g2 := (12, [(3, .int r146), (0, .ref 87), (1, .ref 65), (2, .int a2)], [.int 1, .int a2], (q_kN s c n))) 3 (fun _ _ => rfl) ?_
  cases h276 : decide (a2 = 1) with
  | true =>
    refine q_RP_cT ?_
    refine q_RP_rsF (g2 := (15, [(3, .int r146), (0, .ref 87), (1, .ref 65), (2, .int a2)], [], (q_kN s c n))) rfl rfl (q_d_neT h276) ?_
    refine q_RP_seg (g2 := (16, [(3, .int r146), (0, .ref 87), (1, .ref 65), (2, .int a2)], [.int r146], (q_kN s c n))) 1 (fun _ _ => rfl) ?_
    exact q_RP_ret rfl rfl rfl
  | false =>
    refine q_RP_cF ?_
    refine q_RP_rsT (g2 := (17, [(3, .int r146), (0, .ref 87), (1, .ref 65), (2, .int a2)], [], (q_kN s c n))) rfl rfl (q_d_neF h276) ?_
    refine q_RP_seg (g2 := (19, [(3, .int r146), (0, .ref 87), (1, .ref 65), (2, .int a2)], [.int 2, .int a2], (q_kN s c n))) 2 (fun _ _ => rfl) ?_
    cases h277 : decide (a2 = 2) with
    | true =>
      refine q_RP_cT ?_
      refine q_RP_rsF (g2 := (22, [(3, .int r146), (0, .ref 87), (1, .ref 65), (2, .int a2)], [], (q_kN s c n))) rfl rfl (q_d_neT h277) ?_
      refine q_RP_seg (g2 := (27, [(3, .int r146), (0, .ref 87), (1, .ref 65), (2, .int a2)], [.int (s.2.1 23 1), .int r146], (q_kN s c n))) 3 (fun _ _ => rfl) ?_
      refine q_RP_seg (g2 := (32, [(3, .int r146), (0, .ref 87), (1, .ref 65), (2, .int a2)], [.int ((r146 + (s.2.1 23 1)) &&& 255)], (q_kN s c n))) 3 (fun _ _ => rfl) ?_
      exact q_RP_ret rfl rfl rfl
    | false =>
      refine q_RP_cF ?_
      refine q_RP_rsT (g2 := (33, [(3, .int r146), (0, .ref 87), (1, .ref 65), (2, .int a2)], [], (q_kN s c n))) rfl rfl (q_d_neF h277) ?_
      refine q_RP_seg (g2 := (36, [(3, .int r146), (0, .ref 87), (1, .ref 65), (2, .int a2)], [.int 6, .int a2], (q_kN s c n))) 2 (fun _ _ => rfl) ?_
      cases h278 : decide (a2 < 6) with
      | true =>
        refine q_RP_cT ?_
        refine q_RP_rsF (g2 := (39, [(3, .int r146), (0, .ref 87), (1, .ref 65), (2, .int a2)], [], (q_kN s c n))) rfl rfl (q_d_geT h278) ?_
        refine q_RP_seg (g2 := (46, [(3, .int r146), (0, .ref 87), (1, .ref 65), (2, .int a2)], [.int 2, .ref 87, .ref 65, .int 256, .int r146], (q_kN s c n))) 5 (fun _ _ => rfl) ?_
        refine q_RP_call (v := (some (.int (dz_N140_87 s 2)))) (h2 := (q_kN s c n)) rfl rfl ((dzt_N140_87 s c n 2).le (Nat.le_of_ble_eq_true rfl)) ?_
        generalize dz_N140_87 s 2 = r147
        refine q_RP_let ?_
        show q_RP _ _ _ (49, [(3, .int r146), (0, .ref 87), (1, .ref 65), (2, .int a2)], [.int r147, .ref 65, .int 256, .int r146], (q_kN s c n)) _ _
        refine q_RP_bd fun r148 er148 => ?_
        refine q_RP_call (v := (some (.int r148))) (h2 := (q_kN s c n)) rfl rfl ((dzt_N90_65 s c n r147 r148 er148).le (Nat.le_of_ble_eq_true rfl)) ?_
        show q_RP _ _ _ (52, [(3, .int r146), (0, .ref 87), (1, .ref 65), (2, .int a2)], [.int r148, .int 256, .int r146], (q_kN s c n)) _ _
        refine q_RP_seg (g2 := (58, [(3, .int r146), (0, .ref 87), (1, .ref 65), (2, .int a2)], [.int ((r146 + (256 * r148)) &&& 4095)], (q_kN s c n))) 4 (fun _ _ => rfl) ?_
        exact q_RP_ret rfl rfl rfl
      | false =>
        refine q_RP_cF ?_
        refine q_RP_rsT (g2 := (59, [(3, .int r146), (0, .ref 87), (1, .ref 65), (2, .int a2)], [], (q_kN s c n))) rfl rfl (q_d_geF h278) ?_
        refine q_RP_seg (g2 := (62, [(3, .int r146), (0, .ref 87), (1, .ref 65), (2, .int a2)], [.int 7, .int a2], (q_kN s c n))) 2 (fun _ _ => rfl) ?_
        cases h279 : decide (a2 = 7) with
        | true =>
          refine q_RP_cT ?_
          refine q_RP_rsF (g2 := (65, [(3, .int r146), (0, .ref 87), (1, .ref 65), (2, .int a2)], [], (q_kN s c n))) rfl rfl (q_d_neT h279) ?_
          refine q_RP_seg (g2 := (70, [(3, .int r146), (0, .ref 87), (1, .ref 65), (2, .int a2)], [.int (s.2.1 23 1), .int r146], (q_kN s c n))) 3 (fun _ _ => rfl) ?_
          refine q_RP_seg (g2 := (84, [(4, .int ((r146 + (s.2.1 23 1)) &&& 255)), (3, .int r146), (0, .ref 87), (1, .ref 65), (2, .int a2)], [.int ((r146 + (s.2.1 23 1)) &&& 255), .ref 65], (q_kN s c n))) 7 (fun _ _ => rfl) ?_
          refine q_RP_bd fun r149 er149 => ?_
          refine q_RP_call (v := (some (.int r149))) (h2 := (q_kN s c n)) rfl rfl ((dzt_N90_65 s c n ((r146 + (s.2.1 23 1)) &&& 255) r149 er149).le (Nat.le_of_ble_eq_true rfl)) ?_
          show q_RP _ _ _ (87, [(4, .int ((r146 + (s.2.1 23 1)) &&& 255)), (3, .int r146), (0, .ref 87), (1, .ref 65), (2, .int a2)], [.int r149], (q_kN s c n)) _ _
          refine q_RP_seg (g2 := (99, [(4, .int ((r146 + (s.2.1 23 1)) &&& 255)), (3, .int r146), (0, .ref 87), (1, .ref 65), (2, .int a2)], [.int ((((r146 + (s.2.1 23 1)) &&& 255) + 1) &&& 255), .ref 65, .int 256, .int r149], (q_kN s c n))) 7 (fun _ _ => rfl) ?_
          refine q_RP_bd fun r150 er150 => ?_
          refine q_RP_call (v := (some (.int r150))) (h2 := (q_kN s c n)) rfl rfl ((dzt_N90_65 s c n ((((r146 + (s.2.1 23 1)) &&& 255) + 1) &&& 255) r150 er150).le (Nat.le_of_ble_eq_true rfl)) ?_
          show q_RP _ _ _ (102, [(4, .int ((r146 + (s.2.1 23 1)) &&& 255)), (3, .int r146), (0, .ref 87), (1, .ref 65), (2, .int a2)], [.int r150, .int 256, .int r149], (q_kN s c n)) _ _
          refine q_RP_seg (g2 := (108, [(4, .int ((r146 + (s.2.1 23 1)) &&& 255)), (3, .int r146), (0, .ref 87), (1, .ref 65), (2, .int a2)], [.int ((r149 + (256 * r150)) &&& 4095)], (q_kN s c n))) 4 (fun _ _ => rfl) ?_
          exact q_RP_ret rfl rfl rfl
        | false =>
          refine q_RP_cF ?_
          refine q_RP_rsT (g2 := (78, [(3, .int r146), (0, .ref 87), (1, .ref 65), (2, .int a2)], [], (q_kN s c n))) rfl rfl (q_d_neF h279) ?_
          refine q_RP_seg (g2 := (84, [(4, .int r146), (3, .int r146), (0, .ref 87), (1, .ref 65), (2, .int a2)], [.int r146, .ref 65], (q_kN s c n))) 4 (fun _ _ => rfl) ?_
          refine q_RP_bd fun r151 er151 => ?_
          refine q_RP_call (v := (some (.int r151))) (h2 := (q_kN s c n)) rfl rfl ((dzt_N90_65 s c n r146 r151 er151).le (Nat.le_of_ble_eq_true rfl)) ?_
          show q_RP _ _ _ (87, [(4, .int r146), (3, .int r146), (0, .ref 87), (1, .ref 65), (2, .int a2)], [.int r151], (q_kN s c n)) _ _
          refine q_RP_seg (g2 := (99, [(4, .int r146), (3, .int r146), (0, .ref 87), (1, .ref 65), (2, .int a2)], [.int ((r146 + 1) &&& 255), .ref 65, .int 256, .int r151], (q_kN s c n))) 7 (fun _ _ => rfl) ?_
          refine q_RP_bd fun r152 er152 => ?_
          refine q_RP_call (v := (some (.int r152))) (h2 := (q_kN s c n)) rfl rfl ((dzt_N90_65 s c n ((r146 + 1) &&& 255) r152 er152).le (Nat.le_of_ble_eq_true rfl)) ?_
          show q_RP _ _ _ (102, [(4, .int r146), (3, .int r146), (0, .ref 87), (1, .ref 65), (2, .int a2)], [.int r152, .int 256, .int r151], (q_kN s c n)) _ _
          refine q_RP_seg (g2 := (108, [(4, .int r146), (3, .int r146), (0, .ref 87), (1, .ref 65), (2, .int a2)], [.int ((r151 + (256 * r152)) &&& 4095)], (q_kN s c n))) 4 (fun _ _ => rfl) ?_
          exact q_RP_ret rfl rfl rfl
def dz_N143_87 (s : q_S) (a1 : Int32) : Int32 :=
  cond (decide (a1 = 4)) ((s.2.1 23 1)) (cond (decide (a1 = 5)) ((s.2.1 23 2)) (cond (decide (a1 = 6)) ((s.2.1 23 2)) (0)))
set_option maxHeartbeats 4000000 in
theorem dzt_N143_87 (s : q_S) (c n : Nat) (a1 : Int32) : q_Ca q_TB0 1 142 [.ref 87, .int a1] (q_kN s c n) ((q_oP (q_kN s c n)) (dz_N143_87 s a1)) := by
  refine q_CaT_of (φ := (q_oP (q_kN s c n))) (Nat.le_of_ble_eq_true rfl) ?_
  unfold dz_N143_87
  refine q_RT_seg (g2 := (2, [(0, .ref 87), (1, .int a1)], [.int 4, .int a1], (q_kN s c n))) 2 (fun _ _ => rfl) ?_
  cases h280 : decide (a1 = 4) with
  | true =>
    refine q_RT_cT ?_
    refine q_RT_rsF (g2 := (5, [(0, .ref 87), (1, .int a1)], [], (q_kN s c n))) rfl rfl (q_d_neT h280) ?_
    refine q_RT_seg (g2 := (9, [(0, .ref 87), (1, .int a1)], [.int (s.2.1 23 1)], (q_kN s c n))) 2 (fun _ _ => rfl) ?_
    exact q_RT_ret rfl rfl rfl
  | false =>
    refine q_RT_cF ?_
    refine q_RT_rsT (g2 := (10, [(0, .ref 87), (1, .int a1)], [], (q_kN s c n))) rfl rfl (q_d_neF h280) ?_
    refine q_RT_seg (g2 := (12, [(0, .ref 87), (1, .int a1)], [.int 5, .int a1], (q_kN s c n))) 2 (fun _ _ => rfl) ?_
    cases h281 : decide (a1 = 5) with
    | true =>
      refine q_RT_cT ?_
      refine q_RT_rsT (g2 := (21, [(0, .ref 87), (1, .int a1)], [], (q_kN s c n))) rfl rfl h281 ?_
      refine q_RT_seg (g2 := (25, [(0, .ref 87), (1, .int a1)], [.int (s.2.1 23 2)], (q_kN s c n))) 2 (fun _ _ => rfl) ?_
      refine q_RT_seg (g2 := (29, [(0, .ref 87), (1, .int a1)], [.int (s.2.1 23 2)], (q_kN s c n))) 1 (fun _ _ => rfl) ?_
      exact q_RT_ret rfl rfl rfl
    | false =>
      refine q_RT_cF ?_
      refine q_RT_rsF (g2 := (15, [(0, .ref 87), (1, .int a1)], [], (q_kN s c n))) rfl rfl h281 ?_
      refine q_RT_seg (g2 := (18, [(0, .ref 87), (1, .int a1)], [.int 6, .int a1], (q_kN s c n))) 2 (fun _ _ => rfl) ?_
      cases h282 : decide (a1 = 6) with
      | true =>
        refine q_RT_cT ?_
        refine q_RT_rsF (g2 := (21, [(0, .ref 87), (1, .int a1)], [], (q_kN s c n))) rfl rfl (q_d_neT h282) ?_
        refine q_RT_seg (g2 := (25, [(0, .ref 87), (1, .int a1)], [.int (s.2.1 23 2)], (q_kN s c n))) 2 (fun _ _ => rfl) ?_
        refine q_RT_seg (g2 := (29, [(0, .ref 87), (1, .int a1)], [.int (s.2.1 23 2)], (q_kN s c n))) 1 (fun _ _ => rfl) ?_
        exact q_RT_ret rfl rfl rfl
      | false =>
        refine q_RT_cF ?_
        refine q_RT_rsT (g2 := (28, [(0, .ref 87), (1, .int a1)], [], (q_kN s c n))) rfl rfl (q_d_neF h282) ?_
        refine q_RT_seg (g2 := (29, [(0, .ref 87), (1, .int a1)], [.int 0], (q_kN s c n))) 1 (fun _ _ => rfl) ?_
        exact q_RT_ret rfl rfl rfl
def dz_N188 (s : q_S) (a0 : Int32) : Bool :=
  cond (decide (a0 < 3)) (cond (decide (a0 = 17)) (true) (q_let (dz_N189 s a0) fun r155 => cond r155 (true) (false))) (cond (decide (5 < a0)) (cond (decide (a0 = 17)) (true) (q_let (dz_N189 s a0) fun r156 => cond r156 (true) (false))) (true))
set_option maxHeartbeats 4000000 in
theorem dzt_N188 (s : q_S) (c n : Nat) (a0 : Int32) : q_Ca q_TB0 2 187 [.int a0] (q_kN s c n) ((q_oB (q_kN s c n)) (dz_N188 s a0)) := by
  refine q_CaT_of (φ := (q_oB (q_kN s c n))) (Nat.le_of_ble_eq_true rfl) ?_
  unfold dz_N188
  refine q_RT_seg (g2 := (2, [(0, .int a0)], [.int 3, .int a0], (q_kN s c n))) 2 (fun _ _ => rfl) ?_
  cases h283 : decide (a0 < 3) with
  | true =>
    refine q_RT_cT ?_
    refine q_RT_rsT (g2 := (10, [(0, .int a0)], [], (q_kN s c n))) rfl rfl h283 ?_
    refine q_RT_seg (g2 := (13, [(0, .int a0)], [.int 17, .int a0], (q_kN s c n))) 2 (fun _ _ => rfl) ?_
    cases h284 : decide (a0 = 17) with
    | true =>
      refine q_RT_cT ?_
      refine q_RT_rsT (g2 := (23, [(0, .int a0)], [], (q_kN s c n))) rfl rfl h284 ?_
      refine q_RT_seg (g2 := (28, [(0, .int a0)], [.int 1], (q_kN s c n))) 2 (fun _ _ => rfl) ?_
      exact q_RT_ret rfl rfl rfl
    | false =>
      refine q_RT_cF ?_
      refine q_RT_rsF (g2 := (16, [(0, .int a0)], [], (q_kN s c n))) rfl rfl h284 ?_
      refine q_RT_seg (g2 := (17, [(0, .int a0)], [.int a0], (q_kN s c n))) 1 (fun _ _ => rfl) ?_
      refine q_RT_call (v := (some (.int (q_b (dz_N189 s a0))))) (h2 := (q_kN s c n)) rfl rfl ((dzt_N189 s c n a0).le (Nat.le_of_ble_eq_true rfl)) ?_
      generalize dz_N189 s a0 = r155
      refine q_RT_let ?_
      show q_RT _ _ _ (20, [(0, .int a0)], [.int (q_b r155)], (q_kN s c n)) _ _
      cases h285 : r155 with
      | true =>
        refine q_RT_cT ?_
        show q_RT _ _ _ (20, [(0, .int a0)], [.int 1], (q_kN s c n)) _ _
        refine q_RT_seg (g2 := (28, [(0, .int a0)], [.int 1], (q_kN s c n))) 3 (fun _ _ => rfl) ?_
        exact q_RT_ret rfl rfl rfl
      | false =>
        refine q_RT_cF ?_
        show q_RT _ _ _ (20, [(0, .int a0)], [.int 0], (q_kN s c n)) _ _
        refine q_RT_seg (g2 := (28, [(0, .int a0)], [.int 0], (q_kN s c n))) 2 (fun _ _ => rfl) ?_
        exact q_RT_ret rfl rfl rfl
  | false =>
    refine q_RT_cF ?_
    refine q_RT_rsF (g2 := (5, [(0, .int a0)], [], (q_kN s c n))) rfl rfl h283 ?_
    refine q_RT_seg (g2 := (7, [(0, .int a0)], [.int 5, .int a0], (q_kN s c n))) 2 (fun _ _ => rfl) ?_
    cases h286 : decide (5 < a0) with
    | true =>
      refine q_RT_cT ?_
      refine q_RT_rsF (g2 := (10, [(0, .int a0)], [], (q_kN s c n))) rfl rfl (q_d_geT h286) ?_
      refine q_RT_seg (g2 := (13, [(0, .int a0)], [.int 17, .int a0], (q_kN s c n))) 2 (fun _ _ => rfl) ?_
      cases h287 : decide (a0 = 17) with
      | true =>
        refine q_RT_cT ?_
        refine q_RT_rsT (g2 := (23, [(0, .int a0)], [], (q_kN s c n))) rfl rfl h287 ?_
        refine q_RT_seg (g2 := (28, [(0, .int a0)], [.int 1], (q_kN s c n))) 2 (fun _ _ => rfl) ?_
        exact q_RT_ret rfl rfl rfl
      | false =>
        refine q_RT_cF ?_
        refine q_RT_rsF (g2 := (16, [(0, .int a0)], [], (q_kN s c n))) rfl rfl h287 ?_
        refine q_RT_seg (g2 := (17, [(0, .int a0)], [.int a0], (q_kN s c n))) 1 (fun _ _ => rfl) ?_
        refine q_RT_call (v := (some (.int (q_b (dz_N189 s a0))))) (h2 := (q_kN s c n)) rfl rfl ((dzt_N189 s c n a0).le (Nat.le_of_ble_eq_true rfl)) ?_
        generalize dz_N189 s a0 = r156
        refine q_RT_let ?_
        show q_RT _ _ _ (20, [(0, .int a0)], [.int (q_b r156)], (q_kN s c n)) _ _
        cases h288 : r156 with
        | true =>
          refine q_RT_cT ?_
          show q_RT _ _ _ (20, [(0, .int a0)], [.int 1], (q_kN s c n)) _ _
          refine q_RT_seg (g2 := (28, [(0, .int a0)], [.int 1], (q_kN s c n))) 3 (fun _ _ => rfl) ?_
          exact q_RT_ret rfl rfl rfl
        | false =>
          refine q_RT_cF ?_
          show q_RT _ _ _ (20, [(0, .int a0)], [.int 0], (q_kN s c n)) _ _
          refine q_RT_seg (g2 := (28, [(0, .int a0)], [.int 0], (q_kN s c n))) 2 (fun _ _ => rfl) ?_
          exact q_RT_ret rfl rfl rfl
    | false =>
      refine q_RT_cF ?_
      refine q_RT_rsT (g2 := (23, [(0, .int a0)], [], (q_kN s c n))) rfl rfl (q_d_geF h286) ?_
      refine q_RT_seg (g2 := (28, [(0, .int a0)], [.int 1], (q_kN s c n))) 2 (fun _ _ => rfl) ?_
      exact q_RT_ret rfl rfl rfl
def dz_N137_87_65_127 (s : q_S) (v3 : Int32) (v4 : Int32) (v5 : Int32) : Option (Int32) :=
  q_let (dz_N191 s v4) fun r140 => cond (decide (v5 = 0)) (q_let (dz_N189 s v3) fun r141 => cond r141 (some ((r140 + 0) + 2)) (some ((r140 + 0) + 0))) (q_let (dz_N189 s v3) fun r142 => cond r142 (some ((r140 + 1) + 2)) (some ((r140 + 1) + 0)))
set_option maxHeartbeats 4000000 in
theorem dzt_N137_87_65_127 (c n : Nat) (s : q_S) (v3 : Int32) (v4 : Int32) (v5 : Int32) : q_RP q_TB0 3 136 (127, [(3, .int v3), (4, .int v4), (5, .int v5)], [], (q_kN s c n)) (q_oP (q_kN s c n)) (dz_N137_87_65_127 s v3 v4 v5) := by
  unfold dz_N137_87_65_127
  refine q_RP_seg (g2 := (129, [(3, .int v3), (4, .int v4), (5, .int v5)], [.int v4], (q_kN s c n))) 1 (fun _ _ => rfl) ?_
  refine q_RP_call (v := (some (.int (dz_N191 s v4)))) (h2 := (q_kN s c n)) rfl rfl ((dzt_N191 s c n v4).le (Nat.le_of_ble_eq_true rfl)) ?_
  generalize dz_N191 s v4 = r140
  refine q_RP_let ?_
  show q_RP _ _ _ (132, [(3, .int v3), (4, .int v4), (5, .int v5)], [.int r140], (q_kN s c n)) _ _
  refine q_RP_seg (g2 := (134, [(3, .int v3), (4, .int v4), (5, .int v5)], [.int v5, .int r140], (q_kN s c n))) 1 (fun _ _ => rfl) ?_
  cases h268 : decide (v5 = 0) with
  | true =>
    refine q_RP_cT ?_
    refine q_RP_rsT (g2 := (141, [(3, .int v3), (4, .int v4), (5, .int v5)], [.int r140], (q_kN s c n))) rfl rfl h268 ?_
    refine q_RP_seg (g2 := (144, [(3, .int v3), (4, .int v4), (5, .int v5)], [.int v3, .int (r140 + 0)], (q_kN s c n))) 3 (fun _ _ => rfl) ?_
    refine q_RP_call (v := (some (.int (q_b (dz_N189 s v3))))) (h2 := (q_kN s c n)) rfl rfl ((dzt_N189 s c n v3).le (Nat.le_of_ble_eq_true rfl)) ?_
    generalize dz_N189 s v3 = r141
    refine q_RP_let ?_
    show q_RP _ _ _ (147, [(3, .int v3), (4, .int v4), (5, .int v5)], [.int (q_b r141), .int (r140 + 0)], (q_kN s c n)) _ _
    cases h273 : r141 with
    | true =>
      refine q_RP_cT ?_
      show q_RP _ _ _ (147, [(3, .int v3), (4, .int v4), (5, .int v5)], [.int 1, .int (r140 + 0)], (q_kN s c n)) _ _
      refine q_RP_seg (g2 := (156, [(3, .int v3), (4, .int v4), (5, .int v5)], [.int ((r140 + 0) + 2)], (q_kN s c n))) 4 (fun _ _ => rfl) ?_
      exact q_RP_ret rfl rfl rfl
    | false =>
      refine q_RP_cF ?_
      show q_RP _ _ _ (147, [(3, .int v3), (4, .int v4), (5, .int v5)], [.int 0, .int (r140 + 0)], (q_kN s c n)) _ _
      refine q_RP_seg (g2 := (156, [(3, .int v3), (4, .int v4), (5, .int v5)], [.int ((r140 + 0) + 0)], (q_kN s c n))) 3 (fun _ _ => rfl) ?_
      exact q_RP_ret rfl rfl rfl
  | false =>
    refine q_RP_cF ?_
    refine q_RP_rsF (g2 := (137, [(3, .int v3), (4, .int v4), (5, .int v5)], [.int r140], (q_kN s c n))) rfl rfl h268 ?_
    refine q_RP_seg (g2 := (144, [(3, .int v3), (4, .int v4), (5, .int v5)], [.int v3, .int (r140 + 1)], (q_kN s c n))) 4 (fun _ _ => rfl) ?_
    refine q_RP_call (v := (some (.int (q_b (dz_N189 s v3))))) (h2 := (q_kN s c n)) rfl rfl ((dzt_N189 s c n v3).le (Nat.le_of_ble_eq_true rfl)) ?_
    generalize dz_N189 s v3 = r142
    refine q_RP_let ?_
    show q_RP _ _ _ (147, [(3, .int v3), (4, .int v4), (5, .int v5)], [.int (q_b r142), .int (r140 + 1)], (q_kN s c n)) _ _
    cases h274 : r142 with
    | true =>
      refine q_RP_cT ?_
      show q_RP _ _ _ (147, [(3, .int v3), (4, .int v4), (5, .int v5)], [.int 1, .int (r140 + 1)], (q_kN s c n)) _ _
      refine q_RP_seg (g2 := (156, [(3, .int v3), (4, .int v4), (5, .int v5)], [.int ((r140 + 1) + 2)], (q_kN s c n))) 4 (fun _ _ => rfl) ?_
      exact q_RP_ret rfl rfl rfl
    | false =>
      refine q_RP_cF ?_
      show q_RP _ _ _ (147, [(3, .int v3), (4, .int v4), (5, .int v5)], [.int 0, .int (r140 + 1)], (q_kN s c n)) _ _
      refine q_RP_seg (g2 := (156, [(3, .int v3), (4, .int v4), (5, .int v5)], [.int ((r140 + 1) + 0)], (q_kN s c n))) 3 (fun _ _ => rfl) ?_
      exact q_RP_ret rfl rfl rfl
def dz_N137_87_65_120 (s : q_S) (v3 : Int32) (v4 : Int32) : Option (Int32) :=
  dz_N137_87_65_127 s v3 v4 1
set_option maxHeartbeats 4000000 in
theorem dzt_N137_87_65_120 (c n : Nat) (s : q_S) (v3 : Int32) (v4 : Int32) : q_RP q_TB0 3 136 (120, [(3, .int v3), (4, .int v4)], [], (q_kN s c n)) (q_oP (q_kN s c n)) (dz_N137_87_65_120 s v3 v4) := by
  unfold dz_N137_87_65_120
  refine q_RP_seg (g2 := (127, [(5, .int 1), (3, .int v3), (4, .int v4)], [], (q_kN s c n))) 3 (fun _ _ => rfl) ?_
  exact q_RP_xt (q_xt_mk (q_mn1 1 rfl (q_mn1 2 rfl (q_mn1 0 rfl q_mn0))) rfl) (dzt_N137_87_65_127 c n s v3 v4 1)
def dz_N137_87_65 (s : q_S) : Option (Int32) :=
  (dz_N90_65 s (s.2.1 23 4)).bind fun r129 => q_let (dz_N186 s r129) fun r130 => q_let (dz_N187 s r129) fun r131 => cond r131 (q_let (dz_N140_87 s 1) fun r132 => (dz_N90_65 s r132).bind fun r133 => q_let (dz_N138_87 s r129 r133) fun r138 => some r138) (cond (decide (r130 < 0)) (q_let (dz_N192 s r129) fun r139 => some r139) (cond (decide (r129 &&& 7 = 0)) (some 2) (cond (decide (r129 &&& 7 < 4)) (dz_N137_87_65_127 s r130 (r129 &&& 7) 0) (cond (decide (6 < r129 &&& 7)) (dz_N137_87_65_127 s r130 (r129 &&& 7) 0) ((dz_N145_87_65 s (r129 &&& 7)).bind fun r153 => q_let (dz_N143_87 s (r129 &&& 7)) fun r154 => q_let (dz_N188 s r130) fun r157 => cond r157 (dz_N137_87_65_120 s r130 (r129 &&& 7)) (cond (decide (((r153 + r154) &&& 4095) / 256 = r153 / 256)) (dz_N137_87_65_127 s r130 (r129 &&& 7) 0) (dz_N137_87_65_120 s r130 (r129 &&& 7))))))))
set_option maxHeartbeats 4000000 in
theorem dzt_N137_87_65 (s : q_S) (c n : Nat) (x : Int32) (h : dz_N137_87_65 s = some x) : q_Ca q_TB0 4 136 [.ref 87, .ref 65] (q_kN s c n) ((q_oP (q_kN s c n)) x) := by
  refine q_CaP_of (φ := (q_oP (q_kN s c n))) (Nat.le_of_ble_eq_true rfl) ?_ h
  clear h
  unfold dz_N137_87_65
  refine q_RP_seg (g2 := (5, [(0, .ref 87), (1, .ref 65)], [.int (s.2.1 23 4), .ref 65], (q_kN s c n))) 3 (fun _ _ => rfl) ?_
  refine q_RP_bd fun r129 er129 => ?_
  refine q_RP_call (v := (some (.int r129))) (h2 := (q_kN s c n)) rfl rfl ((dzt_N90_65 s c n (s.2.1 23 4) r129 er129).le (Nat.le_of_ble_eq_true rfl)) ?_
  show q_RP _ _ _ (8, [(0, .ref 87), (1, .ref 65)], [.int r129], (q_kN s c n)) _ _
  refine q_RP_seg (g2 := (10, [(2, .int r129), (0, .ref 87), (1, .ref 65)], [.int r129], (q_kN s c n))) 2 (fun _ _ => rfl) ?_
  refine q_RP_call (v := (some (.int (dz_N186 s r129)))) (h2 := (q_kN s c n)) rfl rfl ((dzt_N186 s c n r129).le (Nat.le_of_ble_eq_true rfl)) ?_
  generalize dz_N186 s r129 = r130
  refine q_RP_let ?_
  show q_RP _ _ _ (13, [(2, .int r129), (0, .ref 87), (1, .ref 65)], [.int r130], (q_kN s c n)) _ _
  refine q_RP_seg (g2 := (21, [(4, .int (r129 &&& 7)), (3, .int r130), (2, .int r129), (0, .ref 87), (1, .ref 65)], [.int r129], (q_kN s c n))) 6 (fun _ _ => rfl) ?_
  refine q_RP_call (v := (some (.int (q_b (dz_N187 s r129))))) (h2 := (q_kN s c n)) rfl rfl ((dzt_N187 s c n r129).le (Nat.le_of_ble_eq_true rfl)) ?_
  generalize dz_N187 s r129 = r131
  refine q_RP_let ?_
  show q_RP _ _ _ (24, [(4, .int (r129 &&& 7)), (3, .int r130), (2, .int r129), (0, .ref 87), (1, .ref 65)], [.int (q_b r131)], (q_kN s c n)) _ _
  cases h241 : r131 with
  | true =>
    refine q_RP_cT ?_
    show q_RP _ _ _ (24, [(4, .int (r129 &&& 7)), (3, .int r130), (2, .int r129), (0, .ref 87), (1, .ref 65)], [.int 1], (q_kN s c n)) _ _
    refine q_RP_seg (g2 := (32, [(4, .int (r129 &&& 7)), (3, .int r130), (2, .int r129), (0, .ref 87), (1, .ref 65)], [.int 1, .ref 87, .ref 65, .int r129, .ref 87], (q_kN s c n))) 6 (fun _ _ => rfl) ?_
    refine q_RP_call (v := (some (.int (dz_N140_87 s 1)))) (h2 := (q_kN s c n)) rfl rfl ((dzt_N140_87 s c n 1).le (Nat.le_of_ble_eq_true rfl)) ?_
    generalize dz_N140_87 s 1 = r132
    refine q_RP_let ?_
    show q_RP _ _ _ (35, [(4, .int (r129 &&& 7)), (3, .int r130), (2, .int r129), (0, .ref 87), (1, .ref 65)], [.int r132, .ref 65, .int r129, .ref 87], (q_kN s c n)) _ _
    refine q_RP_bd fun r133 er133 => ?_
    refine q_RP_call (v := (some (.int r133))) (h2 := (q_kN s c n)) rfl rfl ((dzt_N90_65 s c n r132 r133 er133).le (Nat.le_of_ble_eq_true rfl)) ?_
    show q_RP _ _ _ (38, [(4, .int (r129 &&& 7)), (3, .int r130), (2, .int r129), (0, .ref 87), (1, .ref 65)], [.int r133, .int r129, .ref 87], (q_kN s c n)) _ _
    refine q_RP_call (v := (some (.int (dz_N138_87 s r129 r133)))) (h2 := (q_kN s c n)) rfl rfl ((dzt_N138_87 s c n r129 r133).le (Nat.le_of_ble_eq_true rfl)) ?_
    generalize dz_N138_87 s r129 r133 = r138
    refine q_RP_let ?_
    show q_RP _ _ _ (41, [(4, .int (r129 &&& 7)), (3, .int r130), (2, .int r129), (0, .ref 87), (1, .ref 65)], [.int r138], (q_kN s c n)) _ _
    exact q_RP_ret rfl rfl rfl
  | false =>
    refine q_RP_cF ?_
    show q_RP _ _ _ (24, [(4, .int (r129 &&& 7)), (3, .int r130), (2, .int r129), (0, .ref 87), (1, .ref 65)], [.int 0], (q_kN s c n)) _ _
    refine q_RP_seg (g2 := (43, [(4, .int (r129 &&& 7)), (3, .int r130), (2, .int r129), (0, .ref 87), (1, .ref 65)], [.int r130], (q_kN s c n))) 2 (fun _ _ => rfl) ?_
    cases h263 : decide (r130 < 0) with
    | true =>
      refine q_RP_cT ?_
      refine q_RP_rsF (g2 := (46, [(4, .int (r129 &&& 7)), (3, .int r130), (2, .int r129), (0, .ref 87), (1, .ref 65)], [], (q_kN s c n))) rfl rfl (q_d_geT h263) ?_
      refine q_RP_seg (g2 := (47, [(4, .int (r129 &&& 7)), (3, .int r130), (2, .int r129), (0, .ref 87), (1, .ref 65)], [.int r129], (q_kN s c n))) 1 (fun _ _ => rfl) ?_
      refine q_RP_call (v := (some (.int (dz_N192 s r129)))) (h2 := (q_kN s c n)) rfl rfl ((dzt_N192 s c n r129).le (Nat.le_of_ble_eq_true rfl)) ?_
      generalize dz_N192 s r129 = r139
      refine q_RP_let ?_
      show q_RP _ _ _ (50, [(4, .int (r129 &&& 7)), (3, .int r130), (2, .int r129), (0, .ref 87), (1, .ref 65)], [.int r139], (q_kN s c n)) _ _
      exact q_RP_ret rfl rfl rfl
    | false =>
      refine q_RP_cF ?_
      refine q_RP_rsT (g2 := (51, [(4, .int (r129 &&& 7)), (3, .int r130), (2, .int r129), (0, .ref 87), (1, .ref 65)], [], (q_kN s c n))) rfl rfl (q_d_geF h263) ?_
      refine q_RP_seg (g2 := (53, [(4, .int (r129 &&& 7)), (3, .int r130), (2, .int r129), (0, .ref 87), (1, .ref 65)], [.int (r129 &&& 7)], (q_kN s c n))) 1 (fun _ _ => rfl) ?_
      cases h266 : decide (r129 &&& 7 = 0) with
      | true =>
        refine q_RP_cT ?_
        refine q_RP_rsF (g2 := (56, [(4, .int (r129 &&& 7)), (3, .int r130), (2, .int r129), (0, .ref 87), (1, .ref 65)], [], (q_kN s c n))) rfl rfl (q_d_neT h266) ?_
        refine q_RP_seg (g2 := (57, [(4, .int (r129 &&& 7)), (3, .int r130), (2, .int r129), (0, .ref 87), (1, .ref 65)], [.int 2], (q_kN s c n))) 1 (fun _ _ => rfl) ?_
        exact q_RP_ret rfl rfl rfl
      | false =>
        refine q_RP_cF ?_
        refine q_RP_rsT (g2 := (58, [(4, .int (r129 &&& 7)), (3, .int r130), (2, .int r129), (0, .ref 87), (1, .ref 65)], [], (q_kN s c n))) rfl rfl (q_d_neF h266) ?_
        refine q_RP_seg (g2 := (64, [(5, .int 0), (4, .int (r129 &&& 7)), (3, .int r130), (2, .int r129), (0, .ref 87), (1, .ref 65)], [.int 4, .int (r129 &&& 7)], (q_kN s c n))) 4 (fun _ _ => rfl) ?_
        cases h267 : decide (r129 &&& 7 < 4) with
        | true =>
          refine q_RP_cT ?_
          refine q_RP_rsT (g2 := (127, [(5, .int 0), (4, .int (r129 &&& 7)), (3, .int r130), (2, .int r129), (0, .ref 87), (1, .ref 65)], [], (q_kN s c n))) rfl rfl h267 ?_
          exact q_RP_xt (q_xt_mk (q_mn1 2 rfl (q_mn1 1 rfl (q_mn1 0 rfl q_mn0))) rfl) (dzt_N137_87_65_127 c n s r130 (r129 &&& 7) 0)
        | false =>
          refine q_RP_cF ?_
          refine q_RP_rsF (g2 := (67, [(5, .int 0), (4, .int (r129 &&& 7)), (3, .int r130), (2, .int r129), (0, .ref 87), (1, .ref 65)], [], (q_kN s c n))) rfl rfl h267 ?_
          refine q_RP_seg (g2 := (71, [(5, .int 0), (4, .int (r129 &&& 7)), (3, .int r130), (2, .int r129), (0, .ref 87), (1, .ref 65)], [.int 6, .int (r129 &&& 7)], (q_kN s c n))) 2 (fun _ _ => rfl) ?_
          cases h275 : decide (6 < r129 &&& 7) with
          | true =>
            refine q_RP_cT ?_
            refine q_RP_rsT (g2 := (127, [(5, .int 0), (4, .int (r129 &&& 7)), (3, .int r130), (2, .int r129), (0, .ref 87), (1, .ref 65)], [], (q_kN s c n))) rfl rfl h275 ?_
            exact q_RP_xt (q_xt_mk (q_mn1 2 rfl (q_mn1 1 rfl (q_mn1 0 rfl q_mn0))) rfl) (dzt_N137_87_65_127 c n s r130 (r129 &&& 7) 0)
          | false =>
            refine q_RP_cF ?_
            refine q_RP_rsF (g2 := (74, [(5, .int 0), (4, .int (r129 &&& 7)), (3, .int r130), (2, .int r129), (0, .ref 87), (1, .ref 65)], [], (q_kN s c n))) rfl rfl h275 ?_
            refine q_RP_seg (g2 := (78, [(5, .int 0), (4, .int (r129 &&& 7)), (3, .int r130), (2, .int r129), (0, .ref 87), (1, .ref 65)], [.int (r129 &&& 7), .ref 65, .ref 87], (q_kN s c n))) 3 (fun _ _ => rfl) ?_
            refine q_RP_bd fun r153 er153 => ?_
            refine q_RP_call (v := (some (.int r153))) (h2 := (q_kN s c n)) rfl rfl ((dzt_N145_87_65 s c n (r129 &&& 7) r153 er153).le (Nat.le_of_ble_eq_true rfl)) ?_
            show q_RP _ _ _ (81, [(5, .int 0), (4, .int (r129 &&& 7)), (3, .int r130), (2, .int r129), (0, .ref 87), (1, .ref 65)], [.int r153], (q_kN s c n)) _ _
            refine q_RP_seg (g2 := (88, [(6, .int r153), (5, .int 0), (4, .int (r129 &&& 7)), (3, .int r130), (2, .int r129), (0, .ref 87), (1, .ref 65)], [.int (r129 &&& 7), .ref 87, .int r153], (q_kN s c n))) 4 (fun _ _ => rfl) ?_
            refine q_RP_call (v := (some (.int (dz_N143_87 s (r129 &&& 7))))) (h2 := (q_kN s c n)) rfl rfl ((dzt_N143_87 s c n (r129 &&& 7)).le (Nat.le_of_ble_eq_true rfl)) ?_
            generalize dz_N143_87 s (r129 &&& 7) = r154
            refine q_RP_let ?_
            show q_RP _ _ _ (91, [(6, .int r153), (5, .int 0), (4, .int (r129 &&& 7)), (3, .int r130), (2, .int r129), (0, .ref 87), (1, .ref 65)], [.int r154, .int r153], (q_kN s c n)) _ _
            refine q_RP_seg (g2 := (99, [(7, .int ((r153 + r154) &&& 4095)), (6, .int r153), (5, .int 0), (4, .int (r129 &&& 7)), (3, .int r130), (2, .int r129), (0, .ref 87), (1, .ref 65)], [.int r130], (q_kN s c n))) 5 (fun _ _ => rfl) ?_
            refine q_RP_call (v := (some (.int (q_b (dz_N188 s r130))))) (h2 := (q_kN s c n)) rfl rfl ((dzt_N188 s c n r130).le (Nat.le_of_ble_eq_true rfl)) ?_
            generalize dz_N188 s r130 = r157
            refine q_RP_let ?_
            show q_RP _ _ _ (102, [(7, .int ((r153 + r154) &&& 4095)), (6, .int r153), (5, .int 0), (4, .int (r129 &&& 7)), (3, .int r130), (2, .int r129), (0, .ref 87), (1, .ref 65)], [.int (q_b r157)], (q_kN s c n)) _ _
            cases h289 : r157 with
            | true =>
              refine q_RP_cT ?_
              show q_RP _ _ _ (102, [(7, .int ((r153 + r154) &&& 4095)), (6, .int r153), (5, .int 0), (4, .int (r129 &&& 7)), (3, .int r130), (2, .int r129), (0, .ref 87), (1, .ref 65)], [.int 1], (q_kN s c n)) _ _
              refine q_RP_seg (g2 := (120, [(7, .int ((r153 + r154) &&& 4095)), (6, .int r153), (5, .int 0), (4, .int (r129 &&& 7)), (3, .int r130), (2, .int r129), (0, .ref 87), (1, .ref 65)], [], (q_kN s c n))) 1 (fun _ _ => rfl) ?_
              exact q_RP_xt (q_xt_mk (q_mn1 4 rfl (q_mn1 3 rfl q_mn0)) rfl) (dzt_N137_87_65_120 c n s r130 (r129 &&& 7))
            | false =>
              refine q_RP_cF ?_
              show q_RP _ _ _ (102, [(7, .int ((r153 + r154) &&& 4095)), (6, .int r153), (5, .int 0), (4, .int (r129 &&& 7)), (3, .int r130), (2, .int r129), (0, .ref 87), (1, .ref 65)], [.int 0], (q_kN s c n)) _ _
              refine q_RP_seg (g2 := (117, [(7, .int ((r153 + r154) &&& 4095)), (6, .int r153), (5, .int 0), (4, .int (r129 &&& 7)), (3, .int r130), (2, .int r129), (0, .ref 87), (1, .ref 65)], [.int (r153 / 256), .int (((r153 + r154) &&& 4095) / 256)], (q_kN s c n))) 7 (fun _ _ => rfl) ?_
              cases h290 : decide (((r153 + r154) &&& 4095) / 256 = r153 / 256) with
              | true =>
                refine q_RP_cT ?_
                refine q_RP_rsT (g2 := (124, [(7, .int ((r153 + r154) &&& 4095)), (6, .int r153), (5, .int 0), (4, .int (r129 &&& 7)), (3, .int r130), (2, .int r129), (0, .ref 87), (1, .ref 65)], [], (q_kN s c n))) rfl rfl h290 ?_
                refine q_RP_seg (g2 := (127, [(5, .int 0), (7, .int ((r153 + r154) &&& 4095)), (6, .int r153), (4, .int (r129 &&& 7)), (3, .int r130), (2, .int r129), (0, .ref 87), (1, .ref 65)], [], (q_kN s c n))) 2 (fun _ _ => rfl) ?_
                exact q_RP_xt (q_xt_mk (q_mn1 4 rfl (q_mn1 3 rfl (q_mn1 0 rfl q_mn0))) rfl) (dzt_N137_87_65_127 c n s r130 (r129 &&& 7) 0)
              | false =>
                refine q_RP_cF ?_
                refine q_RP_rsF (g2 := (120, [(7, .int ((r153 + r154) &&& 4095)), (6, .int r153), (5, .int 0), (4, .int (r129 &&& 7)), (3, .int r130), (2, .int r129), (0, .ref 87), (1, .ref 65)], [], (q_kN s c n))) rfl rfl h290 ?_
                exact q_RP_xt (q_xt_mk (q_mn1 4 rfl (q_mn1 3 rfl q_mn0)) rfl) (dzt_N137_87_65_120 c n s r130 (r129 &&& 7))
def dz_N136_87_65 (s : q_S) : Option (q_S) :=
  cond (decide (((s.1 4) 10) &&& ((s.1 4) 11) = 0)) (cond (decide (s.2.1 23 7 = 0)) (cond (decide (s.2.1 23 6 = 0)) ((dz_N137_87_65 (q_sI s 23 8 0)).bind fun r159 => some (q_sI (q_sI s 23 8 0) 23 9 r159)) (some (q_sI (q_sI (q_sI s 23 6 0) 23 8 3834) 23 9 7))) (some s)) (cond (decide (s.2.1 23 7 = 0)) (cond (decide (s.2.1 23 6 = 0)) (cond (decide ((s.2.1 23 5) &&& 4 = 0)) (some (q_sI (q_sI s 23 8 3838) 23 9 7)) ((dz_N137_87_65 (q_sI s 23 8 0)).bind fun r160 => some (q_sI (q_sI s 23 8 0) 23 9 r160))) (some (q_sI (q_sI (q_sI s 23 6 0) 23 8 3834) 23 9 7))) (some s))
set_option maxHeartbeats 4000000 in
theorem dzt_N136_87_65 (s : q_S) (c n : Nat) (x : q_S) (h : dz_N136_87_65 s = some x) : q_Ca q_TB0 5 135 [.ref 87, .ref 65] (q_kN s c n) ((q_oSN c n) x) := by
  refine q_CaP_of (φ := (q_oSN c n)) (Nat.le_of_ble_eq_true rfl) ?_ h
  clear h
  unfold dz_N136_87_65
  refine q_RP_seg (g2 := (10, [(0, .ref 87), (1, .ref 65)], [.int ((s.1 4) 10)], (q_kN s c n))) 5 (fun _ _ => rfl) ?_
  refine q_RP_seg (g2 := (20, [(0, .ref 87), (1, .ref 65)], [.int ((s.1 4) 11), .int ((s.1 4) 10)], (q_kN s c n))) 5 (fun _ _ => rfl) ?_
  refine q_RP_seg (g2 := (21, [(0, .ref 87), (1, .ref 65)], [.int (((s.1 4) 10) &&& ((s.1 4) 11))], (q_kN s c n))) 1 (fun _ _ => rfl) ?_
  cases h291 : decide (((s.1 4) 10) &&& ((s.1 4) 11) = 0) with
  | true =>
    refine q_RP_cT ?_
    refine q_RP_rsT (g2 := (28, [(0, .ref 87), (1, .ref 65)], [], (q_kN s c n))) rfl rfl h291 ?_
    refine q_RP_seg (g2 := (34, [(2, .int 0), (0, .ref 87), (1, .ref 65)], [.int (s.2.1 23 7)], (q_kN s c n))) 4 (fun _ _ => rfl) ?_
    cases h292 : decide (s.2.1 23 7 = 0) with
    | true =>
      refine q_RP_cT ?_
      refine q_RP_rsT (g2 := (38, [(2, .int 0), (0, .ref 87), (1, .ref 65)], [], (q_kN s c n))) rfl rfl h292 ?_
      refine q_RP_seg (g2 := (42, [(2, .int 0), (0, .ref 87), (1, .ref 65)], [.int (s.2.1 23 6)], (q_kN s c n))) 2 (fun _ _ => rfl) ?_
      cases h293 : decide (s.2.1 23 6 = 0) with
      | true =>
        refine q_RP_cT ?_
        refine q_RP_rsT (g2 := (66, [(2, .int 0), (0, .ref 87), (1, .ref 65)], [], (q_kN s c n))) rfl rfl h293 ?_
        refine q_RP_seg (g2 := (103, [(2, .int 0), (0, .ref 87), (1, .ref 65)], [.ref 65, .ref 87, .ref 87], (q_kN (q_sI s 23 8 0) c n))) 8 (fun _ _ => rfl) ?_
        refine q_RP_bd fun r159 er159 => ?_
        refine q_RP_call (v := (some (.int r159))) (h2 := (q_kN (q_sI s 23 8 0) c n)) rfl rfl ((dzt_N137_87_65 (q_sI s 23 8 0) c n r159 er159).le (Nat.le_of_ble_eq_true rfl)) ?_
        show q_RP _ _ _ (106, [(2, .int 0), (0, .ref 87), (1, .ref 65)], [.int r159, .ref 87], (q_kN (q_sI s 23 8 0) c n)) _ _
        refine q_RP_seg (g2 := (109, [(2, .int 0), (0, .ref 87), (1, .ref 65)], [], (q_kN (q_sI (q_sI s 23 8 0) 23 9 r159) c n))) 1 (fun _ _ => rfl) ?_
        exact q_RP_ret rfl rfl rfl
      | false =>
        refine q_RP_cF ?_
        refine q_RP_rsF (g2 := (45, [(2, .int 0), (0, .ref 87), (1, .ref 65)], [], (q_kN s c n))) rfl rfl h293 ?_
        refine q_RP_seg (g2 := (109, [(2, .int 0), (0, .ref 87), (1, .ref 65)], [], (q_kN (q_sI (q_sI (q_sI s 23 6 0) 23 8 3834) 23 9 7) c n))) 10 (fun _ _ => rfl) ?_
        exact q_RP_ret rfl rfl rfl
    | false =>
      refine q_RP_cF ?_
      refine q_RP_rsF (g2 := (37, [(2, .int 0), (0, .ref 87), (1, .ref 65)], [], (q_kN s c n))) rfl rfl h292 ?_
      exact q_RP_ret rfl rfl rfl
  | false =>
    refine q_RP_cF ?_
    refine q_RP_rsF (g2 := (24, [(0, .ref 87), (1, .ref 65)], [], (q_kN s c n))) rfl rfl h291 ?_
    refine q_RP_seg (g2 := (34, [(2, .int 1), (0, .ref 87), (1, .ref 65)], [.int (s.2.1 23 7)], (q_kN s c n))) 5 (fun _ _ => rfl) ?_
    cases h294 : decide (s.2.1 23 7 = 0) with
    | true =>
      refine q_RP_cT ?_
      refine q_RP_rsT (g2 := (38, [(2, .int 1), (0, .ref 87), (1, .ref 65)], [], (q_kN s c n))) rfl rfl h294 ?_
      refine q_RP_seg (g2 := (42, [(2, .int 1), (0, .ref 87), (1, .ref 65)], [.int (s.2.1 23 6)], (q_kN s c n))) 2 (fun _ _ => rfl) ?_
      cases h295 : decide (s.2.1 23 6 = 0) with
      | true =>
        refine q_RP_cT ?_
        refine q_RP_rsT (g2 := (66, [(2, .int 1), (0, .ref 87), (1, .ref 65)], [], (q_kN s c n))) rfl rfl h295 ?_
        refine q_RP_seg (g2 := (74, [(2, .int 1), (0, .ref 87), (1, .ref 65)], [.int (s.2.1 23 5)], (q_kN s c n))) 4 (fun _ _ => rfl) ?_
        refine q_RP_seg (g2 := (76, [(2, .int 1), (0, .ref 87), (1, .ref 65)], [.int ((s.2.1 23 5) &&& 4)], (q_kN s c n))) 2 (fun _ _ => rfl) ?_
        cases h296 : decide ((s.2.1 23 5) &&& 4 = 0) with
        | true =>
          refine q_RP_cT ?_
          refine q_RP_rsF (g2 := (79, [(2, .int 1), (0, .ref 87), (1, .ref 65)], [], (q_kN s c n))) rfl rfl (q_d_neT h296) ?_
          refine q_RP_seg (g2 := (109, [(2, .int 1), (0, .ref 87), (1, .ref 65)], [], (q_kN (q_sI (q_sI s 23 8 3838) 23 9 7) c n))) 7 (fun _ _ => rfl) ?_
          exact q_RP_ret rfl rfl rfl
        | false =>
          refine q_RP_cF ?_
          refine q_RP_rsT (g2 := (95, [(2, .int 1), (0, .ref 87), (1, .ref 65)], [], (q_kN s c n))) rfl rfl (q_d_neF h296) ?_
          refine q_RP_seg (g2 := (103, [(2, .int 1), (0, .ref 87), (1, .ref 65)], [.ref 65, .ref 87, .ref 87], (q_kN (q_sI s 23 8 0) c n))) 6 (fun _ _ => rfl) ?_
          refine q_RP_bd fun r160 er160 => ?_
          refine q_RP_call (v := (some (.int r160))) (h2 := (q_kN (q_sI s 23 8 0) c n)) rfl rfl ((dzt_N137_87_65 (q_sI s 23 8 0) c n r160 er160).le (Nat.le_of_ble_eq_true rfl)) ?_
          show q_RP _ _ _ (106, [(2, .int 1), (0, .ref 87), (1, .ref 65)], [.int r160, .ref 87], (q_kN (q_sI s 23 8 0) c n)) _ _
          refine q_RP_seg (g2 := (109, [(2, .int 1), (0, .ref 87), (1, .ref 65)], [], (q_kN (q_sI (q_sI s 23 8 0) 23 9 r160) c n))) 1 (fun _ _ => rfl) ?_
          exact q_RP_ret rfl rfl rfl
      | false =>
        refine q_RP_cF ?_
        refine q_RP_rsF (g2 := (45, [(2, .int 1), (0, .ref 87), (1, .ref 65)], [], (q_kN s c n))) rfl rfl h295 ?_
        refine q_RP_seg (g2 := (109, [(2, .int 1), (0, .ref 87), (1, .ref 65)], [], (q_kN (q_sI (q_sI (q_sI s 23 6 0) 23 8 3834) 23 9 7) c n))) 10 (fun _ _ => rfl) ?_
        exact q_RP_ret rfl rfl rfl
    | false =>
      refine q_RP_cF ?_
      refine q_RP_rsF (g2 := (37, [(2, .int 1), (0, .ref 87), (1, .ref 65)], [], (q_kN s c n))) rfl rfl h294 ?_
      exact q_RP_ret rfl rfl rfl
def dz_N141_87 (s : q_S) : q_S × Bool :=
  cond (decide (s.2.1 23 9 = 0)) ((s, false)) (cond (decide ((s.2.1 23 9) - 1 = 0)) (((q_sI s 23 9 ((s.2.1 23 9) - 1)), true)) (((q_sI s 23 9 ((s.2.1 23 9) - 1)), false)))
set_option maxHeartbeats 4000000 in
theorem dzt_N141_87 (s : q_S) (c n : Nat) : q_Ca q_TB0 1 140 [.ref 87] (q_kN s c n) ((q_oJN c n) (dz_N141_87 s)) := by
  refine q_CaT_of (φ := (q_oJN c n)) (Nat.le_of_ble_eq_true rfl) ?_
  unfold dz_N141_87
  refine q_RT_seg (g2 := (4, [(0, .ref 87)], [.int (s.2.1 23 9)], (q_kN s c n))) 2 (fun _ _ => rfl) ?_
  cases h297 : decide (s.2.1 23 9 = 0) with
  | true =>
    refine q_RT_cT ?_
    refine q_RT_rsF (g2 := (7, [(0, .ref 87)], [], (q_kN s c n))) rfl rfl (q_d_neT h297) ?_
    refine q_RT_seg (g2 := (8, [(0, .ref 87)], [.int 0], (q_kN s c n))) 1 (fun _ _ => rfl) ?_
    exact q_RT_ret rfl rfl rfl
  | false =>
    refine q_RT_cF ?_
    refine q_RT_rsT (g2 := (9, [(0, .ref 87)], [], (q_kN s c n))) rfl rfl (q_d_neF h297) ?_
    refine q_RT_seg (g2 := (14, [(0, .ref 87)], [.int (s.2.1 23 9), .ref 87], (q_kN s c n))) 3 (fun _ _ => rfl) ?_
    refine q_RT_seg (g2 := (23, [(0, .ref 87)], [.int ((s.2.1 23 9) - 1)], (q_kN (q_sI s 23 9 ((s.2.1 23 9) - 1)) c n))) 5 (fun _ _ => rfl) ?_
    cases h298 : decide ((s.2.1 23 9) - 1 = 0) with
    | true =>
      refine q_RT_cT ?_
      refine q_RT_rsF (g2 := (26, [(0, .ref 87)], [], (q_kN (q_sI s 23 9 ((s.2.1 23 9) - 1)) c n))) rfl rfl (q_d_neT h298) ?_
      refine q_RT_seg (g2 := (31, [(0, .ref 87)], [.int 1], (q_kN (q_sI s 23 9 ((s.2.1 23 9) - 1)) c n))) 2 (fun _ _ => rfl) ?_
      exact q_RT_ret rfl rfl rfl
    | false =>
      refine q_RT_cF ?_
      refine q_RT_rsT (g2 := (30, [(0, .ref 87)], [], (q_kN (q_sI s 23 9 ((s.2.1 23 9) - 1)) c n))) rfl rfl (q_d_neF h298) ?_
      refine q_RT_seg (g2 := (31, [(0, .ref 87)], [.int 0], (q_kN (q_sI s 23 9 ((s.2.1 23 9) - 1)) c n))) 1 (fun _ _ => rfl) ?_
      exact q_RT_ret rfl rfl rfl
def dz_N146_87_65 (s : q_S) (a2 : Int32) : Option (q_S) :=
  (dz_N94_65 s ((256 : Int32) + (s.2.1 23 3)) a2).bind fun r169 => some (q_sI r169 23 3 (((r169.2.1 23 3) - 1) &&& 255))
set_option maxHeartbeats 4000000 in
theorem dzt_N146_87_65 (s : q_S) (c n : Nat) (a2 : Int32) (x : q_S) (h : dz_N146_87_65 s a2 = some x) : q_Ca q_TB0 3 145 [.ref 87, .ref 65, .int a2] (q_kN s c n) ((q_oSN c n) x) := by
  refine q_CaP_of (φ := (q_oSN c n)) (Nat.le_of_ble_eq_true rfl) ?_ h
  clear h
  unfold dz_N146_87_65
  refine q_RP_seg (g2 := (8, [(0, .ref 87), (1, .ref 65), (2, .int a2)], [.int (s.2.1 23 3), .int 256, .ref 65], (q_kN s c n))) 4 (fun _ _ => rfl) ?_
  refine q_RP_seg (g2 := (10, [(0, .ref 87), (1, .ref 65), (2, .int a2)], [.int a2, .int ((256 : Int32) + (s.2.1 23 3)), .ref 65], (q_kN s c n))) 2 (fun _ _ => rfl) ?_
  refine q_RP_bd fun r169 er169 => ?_
  refine q_RP_call (v := none) (h2 := (q_kN r169 c n)) rfl rfl ((dzt_N94_65 s c n ((256 : Int32) + (s.2.1 23 3)) a2 r169 er169).le (Nat.le_of_ble_eq_true rfl)) ?_
  show q_RP _ _ _ (13, [(0, .ref 87), (1, .ref 65), (2, .int a2)], [], (q_kN r169 c n)) _ _
  refine q_RP_seg (g2 := (18, [(0, .ref 87), (1, .ref 65), (2, .int a2)], [.int (r169.2.1 23 3), .ref 87], (q_kN r169 c n))) 3 (fun _ _ => rfl) ?_
  refine q_RP_seg (g2 := (27, [(0, .ref 87), (1, .ref 65), (2, .int a2)], [], (q_kN (q_sI r169 23 3 (((r169.2.1 23 3) - 1) &&& 255)) c n))) 5 (fun _ _ => rfl) ?_
  exact q_RP_ret rfl rfl rfl
def dz_N148_87_65 (s : q_S) (a2 : Int32) (a3 : Int32) (a4 : Int32) : Option (q_S) :=
  (dz_N146_87_65 s (a2 >>> ((8 &&& 31) : Int32))).bind fun r171 => (dz_N146_87_65 r171 (a2 &&& 255)).bind fun r172 => (dz_N146_87_65 r172 a3).bind fun r173 => (dz_N92_65 (q_sI r173 23 5 ((r173.2.1 23 5) ||| 4)) a4).bind fun r174 => some (q_sI (q_sI r173 23 5 ((r173.2.1 23 5) ||| 4)) 23 4 r174)
set_option maxHeartbeats 4000000 in
theorem dzt_N148_87_65 (s : q_S) (c n : Nat) (a2 : Int32) (a3 : Int32) (a4 : Int32) (x : q_S) (h : dz_N148_87_65 s a2 a3 a4 = some x) : q_Ca q_TB0 4 147 [.ref 87, .ref 65, .int a2, .int a3, .int a4] (q_kN s c n) ((q_oSN c n) x) := by
  refine q_CaP_of (φ := (q_oSN c n)) (Nat.le_of_ble_eq_true rfl) ?_ h
  clear h
  unfold dz_N148_87_65
  refine q_RP_seg (g2 := (6, [(0, .ref 87), (1, .ref 65), (2, .int a2), (3, .int a3), (4, .int a4)], [.int (a2 >>> ((8 &&& 31) : Int32)), .ref 65, .ref 87], (q_kN s c n))) 5 (fun _ _ => rfl) ?_
  refine q_RP_bd fun r171 er171 => ?_
  refine q_RP_call (v := none) (h2 := (q_kN r171 c n)) rfl rfl ((dzt_N146_87_65 s c n (a2 >>> ((8 &&& 31) : Int32)) r171 er171).le (Nat.le_of_ble_eq_true rfl)) ?_
  show q_RP _ _ _ (9, [(0, .ref 87), (1, .ref 65), (2, .int a2), (3, .int a3), (4, .int a4)], [], (q_kN r171 c n)) _ _
  refine q_RP_seg (g2 := (16, [(0, .ref 87), (1, .ref 65), (2, .int a2), (3, .int a3), (4, .int a4)], [.int (a2 &&& 255), .ref 65, .ref 87], (q_kN r171 c n))) 5 (fun _ _ => rfl) ?_
  refine q_RP_bd fun r172 er172 => ?_
  refine q_RP_call (v := none) (h2 := (q_kN r172 c n)) rfl rfl ((dzt_N146_87_65 r171 c n (a2 &&& 255) r172 er172).le (Nat.le_of_ble_eq_true rfl)) ?_
  show q_RP _ _ _ (19, [(0, .ref 87), (1, .ref 65), (2, .int a2), (3, .int a3), (4, .int a4)], [], (q_kN r172 c n)) _ _
  refine q_RP_seg (g2 := (22, [(0, .ref 87), (1, .ref 65), (2, .int a2), (3, .int a3), (4, .int a4)], [.int a3, .ref 65, .ref 87], (q_kN r172 c n))) 3 (fun _ _ => rfl) ?_
  refine q_RP_bd fun r173 er173 => ?_
  refine q_RP_call (v := none) (h2 := (q_kN r173 c n)) rfl rfl ((dzt_N146_87_65 r172 c n a3 r173 er173).le (Nat.le_of_ble_eq_true rfl)) ?_
  show q_RP _ _ _ (25, [(0, .ref 87), (1, .ref 65), (2, .int a2), (3, .int a3), (4, .int a4)], [], (q_kN r173 c n)) _ _
  refine q_RP_seg (g2 := (30, [(0, .ref 87), (1, .ref 65), (2, .int a2), (3, .int a3), (4, .int a4)], [.int (r173.2.1 23 5), .ref 87], (q_kN r173 c n))) 3 (fun _ _ => rfl) ?_
  refine q_RP_seg (g2 := (39, [(0, .ref 87), (1, .ref 65), (2, .int a2), (3, .int a3), (4, .int a4)], [.int a4, .ref 65, .ref 87], (q_kN (q_sI r173 23 5 ((r173.2.1 23 5) ||| 4)) c n))) 6 (fun _ _ => rfl) ?_
  refine q_RP_bd fun r174 er174 => ?_
  refine q_RP_call (v := (some (.int r174))) (h2 := (q_kN (q_sI r173 23 5 ((r173.2.1 23 5) ||| 4)) c n)) rfl rfl ((dzt_N92_65 (q_sI r173 23 5 ((r173.2.1 23 5) ||| 4)) c n a4 r174 er174).le (Nat.le_of_ble_eq_true rfl)) ?_
  show q_RP _ _ _ (42, [(0, .ref 87), (1, .ref 65), (2, .int a2), (3, .int a3), (4, .int a4)], [.int r174, .ref 87], (q_kN (q_sI r173 23 5 ((r173.2.1 23 5) ||| 4)) c n)) _ _
  refine q_RP_seg (g2 := (45, [(0, .ref 87), (1, .ref 65), (2, .int a2), (3, .int a3), (4, .int a4)], [], (q_kN (q_sI (q_sI r173 23 5 ((r173.2.1 23 5) ||| 4)) 23 4 r174) c n))) 1 (fun _ _ => rfl) ?_
  exact q_RP_ret rfl rfl rfl
def dz_N147_87_65 (s : q_S) : q_S × Int32 :=
  q_let (dz_N120_66 (q_sI s 23 3 (((s.2.1 23 3) + 1) &&& 255)) ((256 : Int32) + (((s.2.1 23 3) + 1) &&& 255))) fun r178 => ((q_sI s 23 3 (((s.2.1 23 3) + 1) &&& 255)), r178)
set_option maxHeartbeats 4000000 in
theorem dzt_N147_87_65 (s : q_S) (c n : Nat) : q_Ca q_TB0 2 146 [.ref 87, .ref 65] (q_kN s c n) ((q_oIN c n) (dz_N147_87_65 s)) := by
  refine q_CaT_of (φ := (q_oIN c n)) (Nat.le_of_ble_eq_true rfl) ?_
  unfold dz_N147_87_65
  refine q_RT_seg (g2 := (5, [(0, .ref 87), (1, .ref 65)], [.int (s.2.1 23 3), .ref 87], (q_kN s c n))) 3 (fun _ _ => rfl) ?_
  refine q_RT_seg (g2 := (25, [(0, .ref 87), (1, .ref 65)], [.int (((s.2.1 23 3) + 1) &&& 255), .int 256, .ref 66], (q_kN (q_sI s 23 3 (((s.2.1 23 3) + 1) &&& 255)) c n))) 10 (fun _ _ => rfl) ?_
  refine q_RT_seg (g2 := (26, [(0, .ref 87), (1, .ref 65)], [.int ((256 : Int32) + (((s.2.1 23 3) + 1) &&& 255)), .ref 66], (q_kN (q_sI s 23 3 (((s.2.1 23 3) + 1) &&& 255)) c n))) 1 (fun _ _ => rfl) ?_
  refine q_RT_call (v := (some (.int (dz_N120_66 (q_sI s 23 3 (((s.2.1 23 3) + 1) &&& 255)) ((256 : Int32) + (((s.2.1 23 3) + 1) &&& 255)))))) (h2 := (q_kN (q_sI s 23 3 (((s.2.1 23 3) + 1) &&& 255)) c n)) rfl rfl ((dzt_N120_66 (q_sI s 23 3 (((s.2.1 23 3) + 1) &&& 255)) c n ((256 : Int32) + (((s.2.1 23 3) + 1) &&& 255))).le (Nat.le_of_ble_eq_true rfl)) ?_
  generalize dz_N120_66 (q_sI s 23 3 (((s.2.1 23 3) + 1) &&& 255)) ((256 : Int32) + (((s.2.1 23 3) + 1) &&& 255)) = r178
  refine q_RT_let ?_
  show q_RT _ _ _ (29, [(0, .ref 87), (1, .ref 65)], [.int r178], (q_kN (q_sI s 23 3 (((s.2.1 23 3) + 1) &&& 255)) c n)) _ _
  exact q_RT_ret rfl rfl rfl
def dz_N150_87 (s : q_S) (a1 : Int32) : q_S × Int32 :=
  cond (decide (a1 = 0)) (cond (decide (127 < a1)) (((q_sI s 23 5 ((((s.2.1 23 5) &&& (-131)) ||| 2) ||| 128)), a1)) (((q_sI s 23 5 ((((s.2.1 23 5) &&& (-131)) ||| 2) ||| 0)), a1))) (cond (decide (127 < a1)) (((q_sI s 23 5 ((((s.2.1 23 5) &&& (-131)) ||| 0) ||| 128)), a1)) (((q_sI s 23 5 ((((s.2.1 23 5) &&& (-131)) ||| 0) ||| 0)), a1)))
set_option maxHeartbeats 4000000 in
theorem dzt_N150_87 (s : q_S) (c n : Nat) (a1 : Int32) : q_Ca q_TB0 1 149 [.ref 87, .int a1] (q_kN s c n) ((q_oIN c n) (dz_N150_87 s a1)) := by
  refine q_CaT_of (φ := (q_oIN c n)) (Nat.le_of_ble_eq_true rfl) ?_
  unfold dz_N150_87
  refine q_RT_seg (g2 := (5, [(0, .ref 87), (1, .int a1)], [.int (s.2.1 23 5), .ref 87], (q_kN s c n))) 3 (fun _ _ => rfl) ?_
  refine q_RT_seg (g2 := (10, [(0, .ref 87), (1, .int a1)], [.int a1, .int ((s.2.1 23 5) &&& (-131)), .ref 87], (q_kN s c n))) 3 (fun _ _ => rfl) ?_
  cases h314 : decide (a1 = 0) with
  | true =>
    refine q_RT_cT ?_
    refine q_RT_rsF (g2 := (13, [(0, .ref 87), (1, .int a1)], [.int ((s.2.1 23 5) &&& (-131)), .ref 87], (q_kN s c n))) rfl rfl (q_d_neT h314) ?_
    refine q_RT_seg (g2 := (22, [(0, .ref 87), (1, .int a1)], [.int 127, .int a1, .int (((s.2.1 23 5) &&& (-131)) ||| 2), .ref 87], (q_kN s c n))) 5 (fun _ _ => rfl) ?_
    cases h315 : decide (127 < a1) with
    | true =>
      refine q_RT_cT ?_
      refine q_RT_rsF (g2 := (25, [(0, .ref 87), (1, .int a1)], [.int (((s.2.1 23 5) &&& (-131)) ||| 2), .ref 87], (q_kN s c n))) rfl rfl (q_d_geT h315) ?_
      refine q_RT_seg (g2 := (37, [(0, .ref 87), (1, .int a1)], [.int a1], (q_kN (q_sI s 23 5 ((((s.2.1 23 5) &&& (-131)) ||| 2) ||| 128)) c n))) 5 (fun _ _ => rfl) ?_
      exact q_RT_ret rfl rfl rfl
    | false =>
      refine q_RT_cF ?_
      refine q_RT_rsT (g2 := (31, [(0, .ref 87), (1, .int a1)], [.int (((s.2.1 23 5) &&& (-131)) ||| 2), .ref 87], (q_kN s c n))) rfl rfl (q_d_geF h315) ?_
      refine q_RT_seg (g2 := (37, [(0, .ref 87), (1, .int a1)], [.int a1], (q_kN (q_sI s 23 5 ((((s.2.1 23 5) &&& (-131)) ||| 2) ||| 0)) c n))) 4 (fun _ _ => rfl) ?_
      exact q_RT_ret rfl rfl rfl
  | false =>
    refine q_RT_cF ?_
    refine q_RT_rsT (g2 := (17, [(0, .ref 87), (1, .int a1)], [.int ((s.2.1 23 5) &&& (-131)), .ref 87], (q_kN s c n))) rfl rfl (q_d_neF h314) ?_
    refine q_RT_seg (g2 := (22, [(0, .ref 87), (1, .int a1)], [.int 127, .int a1, .int (((s.2.1 23 5) &&& (-131)) ||| 0), .ref 87], (q_kN s c n))) 4 (fun _ _ => rfl) ?_
    cases h316 : decide (127 < a1) with
    | true =>
      refine q_RT_cT ?_
      refine q_RT_rsF (g2 := (25, [(0, .ref 87), (1, .int a1)], [.int (((s.2.1 23 5) &&& (-131)) ||| 0), .ref 87], (q_kN s c n))) rfl rfl (q_d_geT h316) ?_
      refine q_RT_seg (g2 := (37, [(0, .ref 87), (1, .int a1)], [.int a1], (q_kN (q_sI s 23 5 ((((s.2.1 23 5) &&& (-131)) ||| 0) ||| 128)) c n))) 5 (fun _ _ => rfl) ?_
      exact q_RT_ret rfl rfl rfl
    | false =>
      refine q_RT_cF ?_
      refine q_RT_rsT (g2 := (31, [(0, .ref 87), (1, .int a1)], [.int (((s.2.1 23 5) &&& (-131)) ||| 0), .ref 87], (q_kN s c n))) rfl rfl (q_d_geF h316) ?_
      refine q_RT_seg (g2 := (37, [(0, .ref 87), (1, .int a1)], [.int a1], (q_kN (q_sI s 23 5 ((((s.2.1 23 5) &&& (-131)) ||| 0) ||| 0)) c n))) 4 (fun _ _ => rfl) ?_
      exact q_RT_ret rfl rfl rfl
def dz_N149_87_t (s : q_S) (a1 : Int32) : q_S :=
  (q_sI s 23 5 ((s.2.1 23 5) ||| a1))
set_option maxHeartbeats 4000000 in
theorem dzt_N149_87_t (s : q_S) (c n : Nat) (a1 : Int32) : q_Ca q_TB0 1 148 [.ref 87, .int a1, .int 1] (q_kN s c n) ((q_oSN c n) (dz_N149_87_t s a1)) := by
  refine q_CaT_of (φ := (q_oSN c n)) (Nat.le_of_ble_eq_true rfl) ?_
  unfold dz_N149_87_t
  refine q_RT_seg (g2 := (9, [(0, .ref 87), (1, .int a1), (2, .int 1)], [.int (s.2.1 23 5), .ref 87], (q_kN s c n))) 5 (fun _ _ => rfl) ?_
  refine q_RT_seg (g2 := (25, [(0, .ref 87), (1, .int a1), (2, .int 1)], [], (q_kN (q_sI s 23 5 ((s.2.1 23 5) ||| a1)) c n))) 4 (fun _ _ => rfl) ?_
  exact q_RT_ret rfl rfl rfl
def dz_N149_87_f (s : q_S) (a1 : Int32) : q_S :=
  (q_sI s 23 5 ((s.2.1 23 5) &&& (a1 ^^^ (-1))))
set_option maxHeartbeats 4000000 in
theorem dzt_N149_87_f (s : q_S) (c n : Nat) (a1 : Int32) : q_Ca q_TB0 1 148 [.ref 87, .int a1, .int 0] (q_kN s c n) ((q_oSN c n) (dz_N149_87_f s a1)) := by
  refine q_CaT_of (φ := (q_oSN c n)) (Nat.le_of_ble_eq_true rfl) ?_
  unfold dz_N149_87_f
  refine q_RT_seg (g2 := (18, [(0, .ref 87), (1, .int a1), (2, .int 0)], [.int (s.2.1 23 5), .ref 87], (q_kN s c n))) 5 (fun _ _ => rfl) ?_
  refine q_RT_seg (g2 := (25, [(0, .ref 87), (1, .int a1), (2, .int 0)], [], (q_kN (q_sI s 23 5 ((s.2.1 23 5) &&& (a1 ^^^ (-1)))) c n))) 5 (fun _ _ => rfl) ?_
  exact q_RT_ret rfl rfl rfl
def dz_N164_87 (s : q_S) (a1 : Int32) : q_S :=
  cond (decide (a1 < 150)) (cond (decide ((s.2.1 23 0) - (s.2.1 23 0) / 2 * 2 = 1)) (q_let (dz_N149_87_t s 1) fun r183 => q_let (dz_N150_87 r183 (((r183.2.1 23 0) / 2) + (128 * ((s.2.1 23 5) &&& 1)))) fun r184 => (q_sI r184.1 23 0 r184.2)) (q_let (dz_N149_87_f s 1) fun r185 => q_let (dz_N150_87 r185 (((r185.2.1 23 0) / 2) + (128 * ((s.2.1 23 5) &&& 1)))) fun r186 => (q_sI r186.1 23 0 r186.2))) (cond (decide (152 < a1)) (cond (decide ((s.2.1 23 0) - (s.2.1 23 0) / 2 * 2 = 1)) (q_let (dz_N149_87_t s 1) fun r187 => q_let (dz_N150_87 r187 (((r187.2.1 23 0) / 2) + (128 * ((s.2.1 23 5) &&& 1)))) fun r188 => (q_sI r188.1 23 0 r188.2)) (q_let (dz_N149_87_f s 1) fun r189 => q_let (dz_N150_87 r189 (((r189.2.1 23 0) / 2) + (128 * ((s.2.1 23 5) &&& 1)))) fun r190 => (q_sI r190.1 23 0 r190.2))) (cond (decide (a1 = 150)) (cond (decide (127 < s.2.1 23 0)) (q_let (dz_N149_87_t s 1) fun r191 => q_let (dz_N150_87 r191 ((2 * (r191.2.1 23 0)) &&& 255)) fun r192 => (q_sI r192.1 23 0 r192.2)) (q_let (dz_N149_87_f s 1) fun r193 => q_let (dz_N150_87 r193 ((2 * (r193.2.1 23 0)) &&& 255)) fun r194 => (q_sI r194.1 23 0 r194.2))) (cond (decide (a1 = 151)) (cond (decide ((s.2.1 23 0) - (s.2.1 23 0) / 2 * 2 = 1)) (q_let (dz_N149_87_t s 1) fun r195 => q_let (dz_N150_87 r195 ((r195.2.1 23 0) / 2)) fun r196 => (q_sI r196.1 23 0 r196.2)) (q_let (dz_N149_87_f s 1) fun r197 => q_let (dz_N150_87 r197 ((r197.2.1 23 0) / 2)) fun r198 => (q_sI r198.1 23 0 r198.2))) (cond (decide (127 < s.2.1 23 0)) (q_let (dz_N149_87_t s 1) fun r199 => q_let (dz_N150_87 r199 (((2 * (r199.2.1 23 0)) + ((s.2.1 23 5) &&& 1)) &&& 255)) fun r200 => (q_sI r200.1 23 0 r200.2)) (q_let (dz_N149_87_f s 1) fun r201 => q_let (dz_N150_87 r201 (((2 * (r201.2.1 23 0)) + ((s.2.1 23 5) &&& 1)) &&& 255)) fun r202 => (q_sI r202.1 23 0 r202.2))))))
set_option maxHeartbeats 4000000 in
theorem dzt_N164_87 (s : q_S) (c n : Nat) (a1 : Int32) : q_Ca q_TB0 2 163 [.ref 87, .int a1] (q_kN s c n) ((q_oSN c n) (dz_N164_87 s a1)) := by
  refine q_CaT_of (φ := (q_oSN c n)) (Nat.le_of_ble_eq_true rfl) ?_
  unfold dz_N164_87
  refine q_RT_seg (g2 := (4, [(0, .ref 87), (1, .int a1)], [.int (s.2.1 23 5)], (q_kN s c n))) 2 (fun _ _ => rfl) ?_
  refine q_RT_seg (g2 := (8, [(2, .int ((s.2.1 23 5) &&& 1)), (0, .ref 87), (1, .int a1)], [.int a1], (q_kN s c n))) 4 (fun _ _ => rfl) ?_
  cases h319 : decide (a1 < 150) with
  | true =>
    refine q_RT_cT ?_
    refine q_RT_st1 (g2 := (155, [(2, .int ((s.2.1 23 5) &&& 1)), (0, .ref 87), (1, .int a1)], [], (q_kN s c n))) rfl (if_pos (Or.inl (Int32.lt_iff_toInt_lt.mp (of_decide_eq_true h319)))) ?_
    refine q_RT_seg (g2 := (161, [(2, .int ((s.2.1 23 5) &&& 1)), (0, .ref 87), (1, .int a1)], [.int (s.2.1 23 0), .int 1, .ref 87], (q_kN s c n))) 4 (fun _ _ => rfl) ?_
    refine q_RT_seg (g2 := (164, [(2, .int ((s.2.1 23 5) &&& 1)), (0, .ref 87), (1, .int a1)], [.int 1, .int ((s.2.1 23 0) - (s.2.1 23 0) / 2 * 2), .int 1, .ref 87], (q_kN s c n))) 3 (fun _ _ => rfl) ?_
    cases h320 : decide ((s.2.1 23 0) - (s.2.1 23 0) / 2 * 2 = 1) with
    | true =>
      refine q_RT_cT ?_
      refine q_RT_rsF (g2 := (167, [(2, .int ((s.2.1 23 5) &&& 1)), (0, .ref 87), (1, .int a1)], [.int 1, .ref 87], (q_kN s c n))) rfl rfl (q_d_neT h320) ?_
      refine q_RT_seg (g2 := (172, [(2, .int ((s.2.1 23 5) &&& 1)), (0, .ref 87), (1, .int a1)], [.int 1, .int 1, .ref 87], (q_kN s c n))) 2 (fun _ _ => rfl) ?_
      refine q_RT_call (v := none) (h2 := (q_kN (dz_N149_87_t s 1) c n)) rfl rfl ((dzt_N149_87_t s c n 1).le (Nat.le_of_ble_eq_true rfl)) ?_
      generalize dz_N149_87_t s 1 = r183
      refine q_RT_let ?_
      show q_RT _ _ _ (175, [(2, .int ((s.2.1 23 5) &&& 1)), (0, .ref 87), (1, .int a1)], [], (q_kN r183 c n)) _ _
      refine q_RT_seg (g2 := (181, [(2, .int ((s.2.1 23 5) &&& 1)), (0, .ref 87), (1, .int a1)], [.int (r183.2.1 23 0), .ref 87, .ref 87], (q_kN r183 c n))) 4 (fun _ _ => rfl) ?_
      refine q_RT_seg (g2 := (189, [(2, .int ((s.2.1 23 5) &&& 1)), (0, .ref 87), (1, .int a1)], [.int (((r183.2.1 23 0) / 2) + (128 * ((s.2.1 23 5) &&& 1))), .ref 87, .ref 87], (q_kN r183 c n))) 6 (fun _ _ => rfl) ?_
      refine q_RT_call (v := (some (.int (dz_N150_87 r183 (((r183.2.1 23 0) / 2) + (128 * ((s.2.1 23 5) &&& 1)))).2))) (h2 := (q_kN (dz_N150_87 r183 (((r183.2.1 23 0) / 2) + (128 * ((s.2.1 23 5) &&& 1)))).1 c n)) rfl rfl ((dzt_N150_87 r183 c n (((r183.2.1 23 0) / 2) + (128 * ((s.2.1 23 5) &&& 1)))).le (Nat.le_of_ble_eq_true rfl)) ?_
      generalize dz_N150_87 r183 (((r183.2.1 23 0) / 2) + (128 * ((s.2.1 23 5) &&& 1))) = r184
      refine q_RT_let ?_
      show q_RT _ _ _ (192, [(2, .int ((s.2.1 23 5) &&& 1)), (0, .ref 87), (1, .int a1)], [.int r184.2, .ref 87], (q_kN r184.1 c n)) _ _
      refine q_RT_seg (g2 := (195, [(2, .int ((s.2.1 23 5) &&& 1)), (0, .ref 87), (1, .int a1)], [], (q_kN (q_sI r184.1 23 0 r184.2) c n))) 1 (fun _ _ => rfl) ?_
      exact q_RT_ret rfl rfl rfl
    | false =>
      refine q_RT_cF ?_
      refine q_RT_rsT (g2 := (171, [(2, .int ((s.2.1 23 5) &&& 1)), (0, .ref 87), (1, .int a1)], [.int 1, .ref 87], (q_kN s c n))) rfl rfl (q_d_neF h320) ?_
      refine q_RT_seg (g2 := (172, [(2, .int ((s.2.1 23 5) &&& 1)), (0, .ref 87), (1, .int a1)], [.int 0, .int 1, .ref 87], (q_kN s c n))) 1 (fun _ _ => rfl) ?_
      refine q_RT_call (v := none) (h2 := (q_kN (dz_N149_87_f s 1) c n)) rfl rfl ((dzt_N149_87_f s c n 1).le (Nat.le_of_ble_eq_true rfl)) ?_
      generalize dz_N149_87_f s 1 = r185
      refine q_RT_let ?_
      show q_RT _ _ _ (175, [(2, .int ((s.2.1 23 5) &&& 1)), (0, .ref 87), (1, .int a1)], [], (q_kN r185 c n)) _ _
      refine q_RT_seg (g2 := (181, [(2, .int ((s.2.1 23 5) &&& 1)), (0, .ref 87), (1, .int a1)], [.int (r185.2.1 23 0), .ref 87, .ref 87], (q_kN r185 c n))) 4 (fun _ _ => rfl) ?_
      refine q_RT_seg (g2 := (189, [(2, .int ((s.2.1 23 5) &&& 1)), (0, .ref 87), (1, .int a1)], [.int (((r185.2.1 23 0) / 2) + (128 * ((s.2.1 23 5) &&& 1))), .ref 87, .ref 87], (q_kN r185 c n))) 6 (fun _ _ => rfl) ?_
      refine q_RT_call (v := (some (.int (dz_N150_87 r185 (((r185.2.1 23 0) / 2) + (128 * ((s.2.1 23 5) &&& 1)))).2))) (h2 := (q_kN (dz_N150_87 r185 (((r185.2.1 23 0) / 2) + (128 * ((s.2.1 23 5) &&& 1)))).1 c n)) rfl rfl ((dzt_N150_87 r185 c n (((r185.2.1 23 0) / 2) + (128 * ((s.2.1 23 5) &&& 1)))).le (Nat.le_of_ble_eq_true rfl)) ?_
      generalize dz_N150_87 r185 (((r185.2.1 23 0) / 2) + (128 * ((s.2.1 23 5) &&& 1))) = r186
      refine q_RT_let ?_
      show q_RT _ _ _ (192, [(2, .int ((s.2.1 23 5) &&& 1)), (0, .ref 87), (1, .int a1)], [.int r186.2, .ref 87], (q_kN r186.1 c n)) _ _
      refine q_RT_seg (g2 := (195, [(2, .int ((s.2.1 23 5) &&& 1)), (0, .ref 87), (1, .int a1)], [], (q_kN (q_sI r186.1 23 0 r186.2) c n))) 1 (fun _ _ => rfl) ?_
      exact q_RT_ret rfl rfl rfl
  | false =>
    refine q_RT_cF ?_
    cases h321 : decide (152 < a1) with
    | true =>
      refine q_RT_cT ?_
      refine q_RT_st1 (g2 := (155, [(2, .int ((s.2.1 23 5) &&& 1)), (0, .ref 87), (1, .int a1)], [], (q_kN s c n))) rfl (if_pos (Or.inr (Int32.lt_iff_toInt_lt.mp (of_decide_eq_true h321)))) ?_
      refine q_RT_seg (g2 := (161, [(2, .int ((s.2.1 23 5) &&& 1)), (0, .ref 87), (1, .int a1)], [.int (s.2.1 23 0), .int 1, .ref 87], (q_kN s c n))) 4 (fun _ _ => rfl) ?_
      refine q_RT_seg (g2 := (164, [(2, .int ((s.2.1 23 5) &&& 1)), (0, .ref 87), (1, .int a1)], [.int 1, .int ((s.2.1 23 0) - (s.2.1 23 0) / 2 * 2), .int 1, .ref 87], (q_kN s c n))) 3 (fun _ _ => rfl) ?_
      cases h322 : decide ((s.2.1 23 0) - (s.2.1 23 0) / 2 * 2 = 1) with
      | true =>
        refine q_RT_cT ?_
        refine q_RT_rsF (g2 := (167, [(2, .int ((s.2.1 23 5) &&& 1)), (0, .ref 87), (1, .int a1)], [.int 1, .ref 87], (q_kN s c n))) rfl rfl (q_d_neT h322) ?_
        refine q_RT_seg (g2 := (172, [(2, .int ((s.2.1 23 5) &&& 1)), (0, .ref 87), (1, .int a1)], [.int 1, .int 1, .ref 87], (q_kN s c n))) 2 (fun _ _ => rfl) ?_
        refine q_RT_call (v := none) (h2 := (q_kN (dz_N149_87_t s 1) c n)) rfl rfl ((dzt_N149_87_t s c n 1).le (Nat.le_of_ble_eq_true rfl)) ?_
        generalize dz_N149_87_t s 1 = r187
        refine q_RT_let ?_
        show q_RT _ _ _ (175, [(2, .int ((s.2.1 23 5) &&& 1)), (0, .ref 87), (1, .int a1)], [], (q_kN r187 c n)) _ _
        refine q_RT_seg (g2 := (181, [(2, .int ((s.2.1 23 5) &&& 1)), (0, .ref 87), (1, .int a1)], [.int (r187.2.1 23 0), .ref 87, .ref 87], (q_kN r187 c n))) 4 (fun _ _ => rfl) ?_
        refine q_RT_seg (g2 := (189, [(2, .int ((s.2.1 23 5) &&& 1)), (0, .ref 87), (1, .int a1)], [.int (((r187.2.1 23 0) / 2) + (128 * ((s.2.1 23 5) &&& 1))), .ref 87, .ref 87], (q_kN r187 c n))) 6 (fun _ _ => rfl) ?_
        refine q_RT_call (v := (some (.int (dz_N150_87 r187 (((r187.2.1 23 0) / 2) + (128 * ((s.2.1 23 5) &&& 1)))).2))) (h2 := (q_kN (dz_N150_87 r187 (((r187.2.1 23 0) / 2) + (128 * ((s.2.1 23 5) &&& 1)))).1 c n)) rfl rfl ((dzt_N150_87 r187 c n (((r187.2.1 23 0) / 2) + (128 * ((s.2.1 23 5) &&& 1)))).le (Nat.le_of_ble_eq_true rfl)) ?_
        generalize dz_N150_87 r187 (((r187.2.1 23 0) / 2) + (128 * ((s.2.1 23 5) &&& 1))) = r188
        refine q_RT_let ?_
        show q_RT _ _ _ (192, [(2, .int ((s.2.1 23 5) &&& 1)), (0, .ref 87), (1, .int a1)], [.int r188.2, .ref 87], (q_kN r188.1 c n)) _ _
        refine q_RT_seg (g2 := (195, [(2, .int ((s.2.1 23 5) &&& 1)), (0, .ref 87), (1, .int a1)], [], (q_kN (q_sI r188.1 23 0 r188.2) c n))) 1 (fun _ _ => rfl) ?_
        exact q_RT_ret rfl rfl rfl
      | false =>
        refine q_RT_cF ?_
        refine q_RT_rsT (g2 := (171, [(2, .int ((s.2.1 23 5) &&& 1)), (0, .ref 87), (1, .int a1)], [.int 1, .ref 87], (q_kN s c n))) rfl rfl (q_d_neF h322) ?_
        refine q_RT_seg (g2 := (172, [(2, .int ((s.2.1 23 5) &&& 1)), (0, .ref 87), (1, .int a1)], [.int 0, .int 1, .ref 87], (q_kN s c n))) 1 (fun _ _ => rfl) ?_
        refine q_RT_call (v := none) (h2 := (q_kN (dz_N149_87_f s 1) c n)) rfl rfl ((dzt_N149_87_f s c n 1).le (Nat.le_of_ble_eq_true rfl)) ?_
        generalize dz_N149_87_f s 1 = r189
        refine q_RT_let ?_
        show q_RT _ _ _ (175, [(2, .int ((s.2.1 23 5) &&& 1)), (0, .ref 87), (1, .int a1)], [], (q_kN r189 c n)) _ _
        refine q_RT_seg (g2 := (181, [(2, .int ((s.2.1 23 5) &&& 1)), (0, .ref 87), (1, .int a1)], [.int (r189.2.1 23 0), .ref 87, .ref 87], (q_kN r189 c n))) 4 (fun _ _ => rfl) ?_
        refine q_RT_seg (g2 := (189, [(2, .int ((s.2.1 23 5) &&& 1)), (0, .ref 87), (1, .int a1)], [.int (((r189.2.1 23 0) / 2) + (128 * ((s.2.1 23 5) &&& 1))), .ref 87, .ref 87], (q_kN r189 c n))) 6 (fun _ _ => rfl) ?_
        refine q_RT_call (v := (some (.int (dz_N150_87 r189 (((r189.2.1 23 0) / 2) + (128 * ((s.2.1 23 5) &&& 1)))).2))) (h2 := (q_kN (dz_N150_87 r189 (((r189.2.1 23 0) / 2) + (128 * ((s.2.1 23 5) &&& 1)))).1 c n)) rfl rfl ((dzt_N150_87 r189 c n (((r189.2.1 23 0) / 2) + (128 * ((s.2.1 23 5) &&& 1)))).le (Nat.le_of_ble_eq_true rfl)) ?_
        generalize dz_N150_87 r189 (((r189.2.1 23 0) / 2) + (128 * ((s.2.1 23 5) &&& 1))) = r190
        refine q_RT_let ?_
        show q_RT _ _ _ (192, [(2, .int ((s.2.1 23 5) &&& 1)), (0, .ref 87), (1, .int a1)], [.int r190.2, .ref 87], (q_kN r190.1 c n)) _ _
        refine q_RT_seg (g2 := (195, [(2, .int ((s.2.1 23 5) &&& 1)), (0, .ref 87), (1, .int a1)], [], (q_kN (q_sI r190.1 23 0 r190.2) c n))) 1 (fun _ _ => rfl) ?_
        exact q_RT_ret rfl rfl rfl
    | false =>
      refine q_RT_cF ?_
      cases h323 : decide (a1 = 150) with
      | true =>
        refine q_RT_cT ?_
        refine q_RT_st1 (g2 := (36, [(2, .int ((s.2.1 23 5) &&& 1)), (0, .ref 87), (1, .int a1)], [], (q_kN s c n))) rfl (by rw [of_decide_eq_true h323]; rfl) ?_
        refine q_RT_seg (g2 := (42, [(2, .int ((s.2.1 23 5) &&& 1)), (0, .ref 87), (1, .int a1)], [.int (s.2.1 23 0), .int 1, .ref 87], (q_kN s c n))) 4 (fun _ _ => rfl) ?_
        refine q_RT_seg (g2 := (44, [(2, .int ((s.2.1 23 5) &&& 1)), (0, .ref 87), (1, .int a1)], [.int 127, .int (s.2.1 23 0), .int 1, .ref 87], (q_kN s c n))) 1 (fun _ _ => rfl) ?_
        cases h324 : decide (127 < s.2.1 23 0) with
        | true =>
          refine q_RT_cT ?_
          refine q_RT_rsF (g2 := (47, [(2, .int ((s.2.1 23 5) &&& 1)), (0, .ref 87), (1, .int a1)], [.int 1, .ref 87], (q_kN s c n))) rfl rfl (q_d_geT h324) ?_
          refine q_RT_seg (g2 := (52, [(2, .int ((s.2.1 23 5) &&& 1)), (0, .ref 87), (1, .int a1)], [.int 1, .int 1, .ref 87], (q_kN s c n))) 2 (fun _ _ => rfl) ?_
          refine q_RT_call (v := none) (h2 := (q_kN (dz_N149_87_t s 1) c n)) rfl rfl ((dzt_N149_87_t s c n 1).le (Nat.le_of_ble_eq_true rfl)) ?_
          generalize dz_N149_87_t s 1 = r191
          refine q_RT_let ?_
          show q_RT _ _ _ (55, [(2, .int ((s.2.1 23 5) &&& 1)), (0, .ref 87), (1, .int a1)], [], (q_kN r191 c n)) _ _
          refine q_RT_seg (g2 := (62, [(2, .int ((s.2.1 23 5) &&& 1)), (0, .ref 87), (1, .int a1)], [.int (r191.2.1 23 0), .int 2, .ref 87, .ref 87], (q_kN r191 c n))) 5 (fun _ _ => rfl) ?_
          refine q_RT_seg (g2 := (67, [(2, .int ((s.2.1 23 5) &&& 1)), (0, .ref 87), (1, .int a1)], [.int ((2 * (r191.2.1 23 0)) &&& 255), .ref 87, .ref 87], (q_kN r191 c n))) 3 (fun _ _ => rfl) ?_
          refine q_RT_call (v := (some (.int (dz_N150_87 r191 ((2 * (r191.2.1 23 0)) &&& 255)).2))) (h2 := (q_kN (dz_N150_87 r191 ((2 * (r191.2.1 23 0)) &&& 255)).1 c n)) rfl rfl ((dzt_N150_87 r191 c n ((2 * (r191.2.1 23 0)) &&& 255)).le (Nat.le_of_ble_eq_true rfl)) ?_
          generalize dz_N150_87 r191 ((2 * (r191.2.1 23 0)) &&& 255) = r192
          refine q_RT_let ?_
          show q_RT _ _ _ (70, [(2, .int ((s.2.1 23 5) &&& 1)), (0, .ref 87), (1, .int a1)], [.int r192.2, .ref 87], (q_kN r192.1 c n)) _ _
          refine q_RT_seg (g2 := (195, [(2, .int ((s.2.1 23 5) &&& 1)), (0, .ref 87), (1, .int a1)], [], (q_kN (q_sI r192.1 23 0 r192.2) c n))) 2 (fun _ _ => rfl) ?_
          exact q_RT_ret rfl rfl rfl
        | false =>
          refine q_RT_cF ?_
          refine q_RT_rsT (g2 := (51, [(2, .int ((s.2.1 23 5) &&& 1)), (0, .ref 87), (1, .int a1)], [.int 1, .ref 87], (q_kN s c n))) rfl rfl (q_d_geF h324) ?_
          refine q_RT_seg (g2 := (52, [(2, .int ((s.2.1 23 5) &&& 1)), (0, .ref 87), (1, .int a1)], [.int 0, .int 1, .ref 87], (q_kN s c n))) 1 (fun _ _ => rfl) ?_
          refine q_RT_call (v := none) (h2 := (q_kN (dz_N149_87_f s 1) c n)) rfl rfl ((dzt_N149_87_f s c n 1).le (Nat.le_of_ble_eq_true rfl)) ?_
          generalize dz_N149_87_f s 1 = r193
          refine q_RT_let ?_
          show q_RT _ _ _ (55, [(2, .int ((s.2.1 23 5) &&& 1)), (0, .ref 87), (1, .int a1)], [], (q_kN r193 c n)) _ _
          refine q_RT_seg (g2 := (62, [(2, .int ((s.2.1 23 5) &&& 1)), (0, .ref 87), (1, .int a1)], [.int (r193.2.1 23 0), .int 2, .ref 87, .ref 87], (q_kN r193 c n))) 5 (fun _ _ => rfl) ?_
          refine q_RT_seg (g2 := (67, [(2, .int ((s.2.1 23 5) &&& 1)), (0, .ref 87), (1, .int a1)], [.int ((2 * (r193.2.1 23 0)) &&& 255), .ref 87, .ref 87], (q_kN r193 c n))) 3 (fun _ _ => rfl) ?_
          refine q_RT_call (v := (some (.int (dz_N150_87 r193 ((2 * (r193.2.1 23 0)) &&& 255)).2))) (h2 := (q_kN (dz_N150_87 r193 ((2 * (r193.2.1 23 0)) &&& 255)).1 c n)) rfl rfl ((dzt_N150_87 r193 c n ((2 * (r193.2.1 23 0)) &&& 255)).le (Nat.le_of_ble_eq_true rfl)) ?_
          generalize dz_N150_87 r193 ((2 * (r193.2.1 23 0)) &&& 255) = r194
          refine q_RT_let ?_
          show q_RT _ _ _ (70, [(2, .int ((s.2.1 23 5) &&& 1)), (0, .ref 87), (1, .int a1)], [.int r194.2, .ref 87], (q_kN r194.1 c n)) _ _
          refine q_RT_seg (g2 := (195, [(2, .int ((s.2.1 23 5) &&& 1)), (0, .ref 87), (1, .int a1)], [], (q_kN (q_sI r194.1 23 0 r194.2) c n))) 2 (fun _ _ => rfl) ?_
          exact q_RT_ret rfl rfl rfl
      | false =>
        refine q_RT_cF ?_
        cases h325 : decide (a1 = 151) with
        | true =>
          refine q_RT_cT ?_
          refine q_RT_st1 (g2 := (76, [(2, .int ((s.2.1 23 5) &&& 1)), (0, .ref 87), (1, .int a1)], [], (q_kN s c n))) rfl (by rw [of_decide_eq_true h325]; rfl) ?_
          refine q_RT_seg (g2 := (82, [(2, .int ((s.2.1 23 5) &&& 1)), (0, .ref 87), (1, .int a1)], [.int (s.2.1 23 0), .int 1, .ref 87], (q_kN s c n))) 4 (fun _ _ => rfl) ?_
          refine q_RT_seg (g2 := (85, [(2, .int ((s.2.1 23 5) &&& 1)), (0, .ref 87), (1, .int a1)], [.int 1, .int ((s.2.1 23 0) - (s.2.1 23 0) / 2 * 2), .int 1, .ref 87], (q_kN s c n))) 3 (fun _ _ => rfl) ?_
          cases h326 : decide ((s.2.1 23 0) - (s.2.1 23 0) / 2 * 2 = 1) with
          | true =>
            refine q_RT_cT ?_
            refine q_RT_rsF (g2 := (88, [(2, .int ((s.2.1 23 5) &&& 1)), (0, .ref 87), (1, .int a1)], [.int 1, .ref 87], (q_kN s c n))) rfl rfl (q_d_neT h326) ?_
            refine q_RT_seg (g2 := (93, [(2, .int ((s.2.1 23 5) &&& 1)), (0, .ref 87), (1, .int a1)], [.int 1, .int 1, .ref 87], (q_kN s c n))) 2 (fun _ _ => rfl) ?_
            refine q_RT_call (v := none) (h2 := (q_kN (dz_N149_87_t s 1) c n)) rfl rfl ((dzt_N149_87_t s c n 1).le (Nat.le_of_ble_eq_true rfl)) ?_
            generalize dz_N149_87_t s 1 = r195
            refine q_RT_let ?_
            show q_RT _ _ _ (96, [(2, .int ((s.2.1 23 5) &&& 1)), (0, .ref 87), (1, .int a1)], [], (q_kN r195 c n)) _ _
            refine q_RT_seg (g2 := (102, [(2, .int ((s.2.1 23 5) &&& 1)), (0, .ref 87), (1, .int a1)], [.int (r195.2.1 23 0), .ref 87, .ref 87], (q_kN r195 c n))) 4 (fun _ _ => rfl) ?_
            refine q_RT_seg (g2 := (104, [(2, .int ((s.2.1 23 5) &&& 1)), (0, .ref 87), (1, .int a1)], [.int ((r195.2.1 23 0) / 2), .ref 87, .ref 87], (q_kN r195 c n))) 2 (fun _ _ => rfl) ?_
            refine q_RT_call (v := (some (.int (dz_N150_87 r195 ((r195.2.1 23 0) / 2)).2))) (h2 := (q_kN (dz_N150_87 r195 ((r195.2.1 23 0) / 2)).1 c n)) rfl rfl ((dzt_N150_87 r195 c n ((r195.2.1 23 0) / 2)).le (Nat.le_of_ble_eq_true rfl)) ?_
            generalize dz_N150_87 r195 ((r195.2.1 23 0) / 2) = r196
            refine q_RT_let ?_
            show q_RT _ _ _ (107, [(2, .int ((s.2.1 23 5) &&& 1)), (0, .ref 87), (1, .int a1)], [.int r196.2, .ref 87], (q_kN r196.1 c n)) _ _
            refine q_RT_seg (g2 := (195, [(2, .int ((s.2.1 23 5) &&& 1)), (0, .ref 87), (1, .int a1)], [], (q_kN (q_sI r196.1 23 0 r196.2) c n))) 2 (fun _ _ => rfl) ?_
            exact q_RT_ret rfl rfl rfl
          | false =>
            refine q_RT_cF ?_
            refine q_RT_rsT (g2 := (92, [(2, .int ((s.2.1 23 5) &&& 1)), (0, .ref 87), (1, .int a1)], [.int 1, .ref 87], (q_kN s c n))) rfl rfl (q_d_neF h326) ?_
            refine q_RT_seg (g2 := (93, [(2, .int ((s.2.1 23 5) &&& 1)), (0, .ref 87), (1, .int a1)], [.int 0, .int 1, .ref 87], (q_kN s c n))) 1 (fun _ _ => rfl) ?_
            refine q_RT_call (v := none) (h2 := (q_kN (dz_N149_87_f s 1) c n)) rfl rfl ((dzt_N149_87_f s c n 1).le (Nat.le_of_ble_eq_true rfl)) ?_
            generalize dz_N149_87_f s 1 = r197
            refine q_RT_let ?_
            show q_RT _ _ _ (96, [(2, .int ((s.2.1 23 5) &&& 1)), (0, .ref 87), (1, .int a1)], [], (q_kN r197 c n)) _ _
            refine q_RT_seg (g2 := (102, [(2, .int ((s.2.1 23 5) &&& 1)), (0, .ref 87), (1, .int a1)], [.int (r197.2.1 23 0), .ref 87, .ref 87], (q_kN r197 c n))) 4 (fun _ _ => rfl) ?_
            refine q_RT_seg (g2 := (104, [(2, .int ((s.2.1 23 5) &&& 1)), (0, .ref 87), (1, .int a1)], [.int ((r197.2.1 23 0) / 2), .ref 87, .ref 87], (q_kN r197 c n))) 2 (fun _ _ => rfl) ?_
            refine q_RT_call (v := (some (.int (dz_N150_87 r197 ((r197.2.1 23 0) / 2)).2))) (h2 := (q_kN (dz_N150_87 r197 ((r197.2.1 23 0) / 2)).1 c n)) rfl rfl ((dzt_N150_87 r197 c n ((r197.2.1 23 0) / 2)).le (Nat.le_of_ble_eq_true rfl)) ?_
            generalize dz_N150_87 r197 ((r197.2.1 23 0) / 2) = r198
            refine q_RT_let ?_
            show q_RT _ _ _ (107, [(2, .int ((s.2.1 23 5) &&& 1)), (0, .ref 87), (1, .int a1)], [.int r198.2, .ref 87], (q_kN r198.1 c n)) _ _
            refine q_RT_seg (g2 := (195, [(2, .int ((s.2.1 23 5) &&& 1)), (0, .ref 87), (1, .int a1)], [], (q_kN (q_sI r198.1 23 0 r198.2) c n))) 2 (fun _ _ => rfl) ?_
            exact q_RT_ret rfl rfl rfl
        | false =>
          refine q_RT_cF ?_
          have h327 : a1 = 152 := Int32.toInt_inj.mp (by have e0 := q_neI h323 (n := 150); have e1 := q_neI h325 (n := 151); have l1 : 150 ≤ (a1).toInt := q_lo1 h319; have l2 : (a1).toInt ≤ 152 := q_hi2 h321; show (a1).toInt = 152; omega)
          refine q_RT_st1 (g2 := (113, [(2, .int ((s.2.1 23 5) &&& 1)), (0, .ref 87), (1, .int a1)], [], (q_kN s c n))) rfl (by rw [h327]; rfl) ?_
          refine q_RT_seg (g2 := (119, [(2, .int ((s.2.1 23 5) &&& 1)), (0, .ref 87), (1, .int a1)], [.int (s.2.1 23 0), .int 1, .ref 87], (q_kN s c n))) 4 (fun _ _ => rfl) ?_
          refine q_RT_seg (g2 := (121, [(2, .int ((s.2.1 23 5) &&& 1)), (0, .ref 87), (1, .int a1)], [.int 127, .int (s.2.1 23 0), .int 1, .ref 87], (q_kN s c n))) 1 (fun _ _ => rfl) ?_
          cases h328 : decide (127 < s.2.1 23 0) with
          | true =>
            refine q_RT_cT ?_
            refine q_RT_rsF (g2 := (124, [(2, .int ((s.2.1 23 5) &&& 1)), (0, .ref 87), (1, .int a1)], [.int 1, .ref 87], (q_kN s c n))) rfl rfl (q_d_geT h328) ?_
            refine q_RT_seg (g2 := (129, [(2, .int ((s.2.1 23 5) &&& 1)), (0, .ref 87), (1, .int a1)], [.int 1, .int 1, .ref 87], (q_kN s c n))) 2 (fun _ _ => rfl) ?_
            refine q_RT_call (v := none) (h2 := (q_kN (dz_N149_87_t s 1) c n)) rfl rfl ((dzt_N149_87_t s c n 1).le (Nat.le_of_ble_eq_true rfl)) ?_
            generalize dz_N149_87_t s 1 = r199
            refine q_RT_let ?_
            show q_RT _ _ _ (132, [(2, .int ((s.2.1 23 5) &&& 1)), (0, .ref 87), (1, .int a1)], [], (q_kN r199 c n)) _ _
            refine q_RT_seg (g2 := (139, [(2, .int ((s.2.1 23 5) &&& 1)), (0, .ref 87), (1, .int a1)], [.int (r199.2.1 23 0), .int 2, .ref 87, .ref 87], (q_kN r199 c n))) 5 (fun _ _ => rfl) ?_
            refine q_RT_seg (g2 := (146, [(2, .int ((s.2.1 23 5) &&& 1)), (0, .ref 87), (1, .int a1)], [.int (((2 * (r199.2.1 23 0)) + ((s.2.1 23 5) &&& 1)) &&& 255), .ref 87, .ref 87], (q_kN r199 c n))) 5 (fun _ _ => rfl) ?_
            refine q_RT_call (v := (some (.int (dz_N150_87 r199 (((2 * (r199.2.1 23 0)) + ((s.2.1 23 5) &&& 1)) &&& 255)).2))) (h2 := (q_kN (dz_N150_87 r199 (((2 * (r199.2.1 23 0)) + ((s.2.1 23 5) &&& 1)) &&& 255)).1 c n)) rfl rfl ((dzt_N150_87 r199 c n (((2 * (r199.2.1 23 0)) + ((s.2.1 23 5) &&& 1)) &&& 255)).le (Nat.le_of_ble_eq_true rfl)) ?_
            generalize dz_N150_87 r199 (((2 * (r199.2.1 23 0)) + ((s.2.1 23 5) &&& 1)) &&& 255) = r200
            refine q_RT_let ?_
            show q_RT _ _ _ (149, [(2, .int ((s.2.1 23 5) &&& 1)), (0, .ref 87), (1, .int a1)], [.int r200.2, .ref 87], (q_kN r200.1 c n)) _ _
            refine q_RT_seg (g2 := (195, [(2, .int ((s.2.1 23 5) &&& 1)), (0, .ref 87), (1, .int a1)], [], (q_kN (q_sI r200.1 23 0 r200.2) c n))) 2 (fun _ _ => rfl) ?_
            exact q_RT_ret rfl rfl rfl
          | false =>
            refine q_RT_cF ?_
            refine q_RT_rsT (g2 := (128, [(2, .int ((s.2.1 23 5) &&& 1)), (0, .ref 87), (1, .int a1)], [.int 1, .ref 87], (q_kN s c n))) rfl rfl (q_d_geF h328) ?_
            refine q_RT_seg (g2 := (129, [(2, .int ((s.2.1 23 5) &&& 1)), (0, .ref 87), (1, .int a1)], [.int 0, .int 1, .ref 87], (q_kN s c n))) 1 (fun _ _ => rfl) ?_
            refine q_RT_call (v := none) (h2 := (q_kN (dz_N149_87_f s 1) c n)) rfl rfl ((dzt_N149_87_f s c n 1).le (Nat.le_of_ble_eq_true rfl)) ?_
            generalize dz_N149_87_f s 1 = r201
            refine q_RT_let ?_
            show q_RT _ _ _ (132, [(2, .int ((s.2.1 23 5) &&& 1)), (0, .ref 87), (1, .int a1)], [], (q_kN r201 c n)) _ _
            refine q_RT_seg (g2 := (139, [(2, .int ((s.2.1 23 5) &&& 1)), (0, .ref 87), (1, .int a1)], [.int (r201.2.1 23 0), .int 2, .ref 87, .ref 87], (q_kN r201 c n))) 5 (fun _ _ => rfl) ?_
            refine q_RT_seg (g2 := (146, [(2, .int ((s.2.1 23 5) &&& 1)), (0, .ref 87), (1, .int a1)], [.int (((2 * (r201.2.1 23 0)) + ((s.2.1 23 5) &&& 1)) &&& 255), .ref 87, .ref 87], (q_kN r201 c n))) 5 (fun _ _ => rfl) ?_
            refine q_RT_call (v := (some (.int (dz_N150_87 r201 (((2 * (r201.2.1 23 0)) + ((s.2.1 23 5) &&& 1)) &&& 255)).2))) (h2 := (q_kN (dz_N150_87 r201 (((2 * (r201.2.1 23 0)) + ((s.2.1 23 5) &&& 1)) &&& 255)).1 c n)) rfl rfl ((dzt_N150_87 r201 c n (((2 * (r201.2.1 23 0)) + ((s.2.1 23 5) &&& 1)) &&& 255)).le (Nat.le_of_ble_eq_true rfl)) ?_
            generalize dz_N150_87 r201 (((2 * (r201.2.1 23 0)) + ((s.2.1 23 5) &&& 1)) &&& 255) = r202
            refine q_RT_let ?_
            show q_RT _ _ _ (149, [(2, .int ((s.2.1 23 5) &&& 1)), (0, .ref 87), (1, .int a1)], [.int r202.2, .ref 87], (q_kN r202.1 c n)) _ _
            refine q_RT_seg (g2 := (195, [(2, .int ((s.2.1 23 5) &&& 1)), (0, .ref 87), (1, .int a1)], [], (q_kN (q_sI r202.1 23 0 r202.2) c n))) 2 (fun _ _ => rfl) ?_
            exact q_RT_ret rfl rfl rfl
def dz_N163_87 (s : q_S) (a1 : Int32) : q_S :=
  cond (decide (a1 < 142)) (q_let (dz_N149_87_f s 64) fun r204 => r204) (cond (decide (147 < a1)) (q_let (dz_N149_87_f s 64) fun r205 => r205) (cond (decide (a1 = 142)) (q_let (dz_N149_87_t s 1) fun r206 => r206) (cond (decide (a1 = 143)) (q_let (dz_N149_87_f s 1) fun r207 => r207) (cond (decide (a1 = 144)) (q_let (dz_N149_87_t s 8) fun r208 => r208) (cond (decide (a1 = 145)) (q_let (dz_N149_87_f s 8) fun r209 => r209) (cond (decide (a1 = 146)) (q_let (dz_N149_87_t s 4) fun r210 => r210) (q_let (dz_N149_87_f s 4) fun r211 => r211)))))))
set_option maxHeartbeats 4000000 in
theorem dzt_N163_87 (s : q_S) (c n : Nat) (a1 : Int32) : q_Ca q_TB0 2 162 [.ref 87, .int a1] (q_kN s c n) ((q_oSN c n) (dz_N163_87 s a1)) := by
  refine q_CaT_of (φ := (q_oSN c n)) (Nat.le_of_ble_eq_true rfl) ?_
  unfold dz_N163_87
  refine q_RT_seg (g2 := (1, [(0, .ref 87), (1, .int a1)], [.int a1], (q_kN s c n))) 1 (fun _ _ => rfl) ?_
  cases h330 : decide (a1 < 142) with
  | true =>
    refine q_RT_cT ?_
    refine q_RT_st1 (g2 := (96, [(0, .ref 87), (1, .int a1)], [], (q_kN s c n))) rfl (if_pos (Or.inl (Int32.lt_iff_toInt_lt.mp (of_decide_eq_true h330)))) ?_
    refine q_RT_seg (g2 := (100, [(0, .ref 87), (1, .int a1)], [.int 0, .int 64, .ref 87], (q_kN s c n))) 3 (fun _ _ => rfl) ?_
    refine q_RT_call (v := none) (h2 := (q_kN (dz_N149_87_f s 64) c n)) rfl rfl ((dzt_N149_87_f s c n 64).le (Nat.le_of_ble_eq_true rfl)) ?_
    generalize dz_N149_87_f s 64 = r204
    refine q_RT_let ?_
    show q_RT _ _ _ (103, [(0, .ref 87), (1, .int a1)], [], (q_kN r204 c n)) _ _
    exact q_RT_ret rfl rfl rfl
  | false =>
    refine q_RT_cF ?_
    cases h331 : decide (147 < a1) with
    | true =>
      refine q_RT_cT ?_
      refine q_RT_st1 (g2 := (96, [(0, .ref 87), (1, .int a1)], [], (q_kN s c n))) rfl (if_pos (Or.inr (Int32.lt_iff_toInt_lt.mp (of_decide_eq_true h331)))) ?_
      refine q_RT_seg (g2 := (100, [(0, .ref 87), (1, .int a1)], [.int 0, .int 64, .ref 87], (q_kN s c n))) 3 (fun _ _ => rfl) ?_
      refine q_RT_call (v := none) (h2 := (q_kN (dz_N149_87_f s 64) c n)) rfl rfl ((dzt_N149_87_f s c n 64).le (Nat.le_of_ble_eq_true rfl)) ?_
      generalize dz_N149_87_f s 64 = r205
      refine q_RT_let ?_
      show q_RT _ _ _ (103, [(0, .ref 87), (1, .int a1)], [], (q_kN r205 c n)) _ _
      exact q_RT_ret rfl rfl rfl
    | false =>
      refine q_RT_cF ?_
      cases h332 : decide (a1 = 142) with
      | true =>
        refine q_RT_cT ?_
        refine q_RT_st1 (g2 := (40, [(0, .ref 87), (1, .int a1)], [], (q_kN s c n))) rfl (by rw [of_decide_eq_true h332]; rfl) ?_
        refine q_RT_seg (g2 := (43, [(0, .ref 87), (1, .int a1)], [.int 1, .int 1, .ref 87], (q_kN s c n))) 3 (fun _ _ => rfl) ?_
        refine q_RT_call (v := none) (h2 := (q_kN (dz_N149_87_t s 1) c n)) rfl rfl ((dzt_N149_87_t s c n 1).le (Nat.le_of_ble_eq_true rfl)) ?_
        generalize dz_N149_87_t s 1 = r206
        refine q_RT_let ?_
        show q_RT _ _ _ (46, [(0, .ref 87), (1, .int a1)], [], (q_kN r206 c n)) _ _
        refine q_RT_seg (g2 := (103, [(0, .ref 87), (1, .int a1)], [], (q_kN r206 c n))) 1 (fun _ _ => rfl) ?_
        exact q_RT_ret rfl rfl rfl
      | false =>
        refine q_RT_cF ?_
        cases h333 : decide (a1 = 143) with
        | true =>
          refine q_RT_cT ?_
          refine q_RT_st1 (g2 := (49, [(0, .ref 87), (1, .int a1)], [], (q_kN s c n))) rfl (by rw [of_decide_eq_true h333]; rfl) ?_
          refine q_RT_seg (g2 := (52, [(0, .ref 87), (1, .int a1)], [.int 0, .int 1, .ref 87], (q_kN s c n))) 3 (fun _ _ => rfl) ?_
          refine q_RT_call (v := none) (h2 := (q_kN (dz_N149_87_f s 1) c n)) rfl rfl ((dzt_N149_87_f s c n 1).le (Nat.le_of_ble_eq_true rfl)) ?_
          generalize dz_N149_87_f s 1 = r207
          refine q_RT_let ?_
          show q_RT _ _ _ (55, [(0, .ref 87), (1, .int a1)], [], (q_kN r207 c n)) _ _
          refine q_RT_seg (g2 := (103, [(0, .ref 87), (1, .int a1)], [], (q_kN r207 c n))) 1 (fun _ _ => rfl) ?_
          exact q_RT_ret rfl rfl rfl
        | false =>
          refine q_RT_cF ?_
          cases h334 : decide (a1 = 144) with
          | true =>
            refine q_RT_cT ?_
            refine q_RT_st1 (g2 := (58, [(0, .ref 87), (1, .int a1)], [], (q_kN s c n))) rfl (by rw [of_decide_eq_true h334]; rfl) ?_
            refine q_RT_seg (g2 := (62, [(0, .ref 87), (1, .int a1)], [.int 1, .int 8, .ref 87], (q_kN s c n))) 3 (fun _ _ => rfl) ?_
            refine q_RT_call (v := none) (h2 := (q_kN (dz_N149_87_t s 8) c n)) rfl rfl ((dzt_N149_87_t s c n 8).le (Nat.le_of_ble_eq_true rfl)) ?_
            generalize dz_N149_87_t s 8 = r208
            refine q_RT_let ?_
            show q_RT _ _ _ (65, [(0, .ref 87), (1, .int a1)], [], (q_kN r208 c n)) _ _
            refine q_RT_seg (g2 := (103, [(0, .ref 87), (1, .int a1)], [], (q_kN r208 c n))) 1 (fun _ _ => rfl) ?_
            exact q_RT_ret rfl rfl rfl
          | false =>
            refine q_RT_cF ?_
            cases h335 : decide (a1 = 145) with
            | true =>
              refine q_RT_cT ?_
              refine q_RT_st1 (g2 := (68, [(0, .ref 87), (1, .int a1)], [], (q_kN s c n))) rfl (by rw [of_decide_eq_true h335]; rfl) ?_
              refine q_RT_seg (g2 := (72, [(0, .ref 87), (1, .int a1)], [.int 0, .int 8, .ref 87], (q_kN s c n))) 3 (fun _ _ => rfl) ?_
              refine q_RT_call (v := none) (h2 := (q_kN (dz_N149_87_f s 8) c n)) rfl rfl ((dzt_N149_87_f s c n 8).le (Nat.le_of_ble_eq_true rfl)) ?_
              generalize dz_N149_87_f s 8 = r209
              refine q_RT_let ?_
              show q_RT _ _ _ (75, [(0, .ref 87), (1, .int a1)], [], (q_kN r209 c n)) _ _
              refine q_RT_seg (g2 := (103, [(0, .ref 87), (1, .int a1)], [], (q_kN r209 c n))) 1 (fun _ _ => rfl) ?_
              exact q_RT_ret rfl rfl rfl
            | false =>
              refine q_RT_cF ?_
              cases h336 : decide (a1 = 146) with
              | true =>
                refine q_RT_cT ?_
                refine q_RT_st1 (g2 := (78, [(0, .ref 87), (1, .int a1)], [], (q_kN s c n))) rfl (by rw [of_decide_eq_true h336]; rfl) ?_
                refine q_RT_seg (g2 := (81, [(0, .ref 87), (1, .int a1)], [.int 1, .int 4, .ref 87], (q_kN s c n))) 3 (fun _ _ => rfl) ?_
                refine q_RT_call (v := none) (h2 := (q_kN (dz_N149_87_t s 4) c n)) rfl rfl ((dzt_N149_87_t s c n 4).le (Nat.le_of_ble_eq_true rfl)) ?_
                generalize dz_N149_87_t s 4 = r210
                refine q_RT_let ?_
                show q_RT _ _ _ (84, [(0, .ref 87), (1, .int a1)], [], (q_kN r210 c n)) _ _
                refine q_RT_seg (g2 := (103, [(0, .ref 87), (1, .int a1)], [], (q_kN r210 c n))) 1 (fun _ _ => rfl) ?_
                exact q_RT_ret rfl rfl rfl
              | false =>
                refine q_RT_cF ?_
                have h337 : a1 = 147 := Int32.toInt_inj.mp (by have e0 := q_neI h332 (n := 142); have e1 := q_neI h333 (n := 143); have e2 := q_neI h334 (n := 144); have e3 := q_neI h335 (n := 145); have e4 := q_neI h336 (n := 146); have l1 : 142 ≤ (a1).toInt := q_lo1 h330; have l2 : (a1).toInt ≤ 147 := q_hi2 h331; show (a1).toInt = 147; omega)
                refine q_RT_st1 (g2 := (87, [(0, .ref 87), (1, .int a1)], [], (q_kN s c n))) rfl (by rw [h337]; rfl) ?_
                refine q_RT_seg (g2 := (90, [(0, .ref 87), (1, .int a1)], [.int 0, .int 4, .ref 87], (q_kN s c n))) 3 (fun _ _ => rfl) ?_
                refine q_RT_call (v := none) (h2 := (q_kN (dz_N149_87_f s 4) c n)) rfl rfl ((dzt_N149_87_f s c n 4).le (Nat.le_of_ble_eq_true rfl)) ?_
                generalize dz_N149_87_f s 4 = r211
                refine q_RT_let ?_
                show q_RT _ _ _ (93, [(0, .ref 87), (1, .int a1)], [], (q_kN r211 c n)) _ _
                refine q_RT_seg (g2 := (103, [(0, .ref 87), (1, .int a1)], [], (q_kN r211 c n))) 1 (fun _ _ => rfl) ?_
                exact q_RT_ret rfl rfl rfl
def dz_N162_87 (s : q_S) (a1 : Int32) : q_S :=
  cond (decide (a1 < 128)) ((q_sI s 23 3 (s.2.1 23 1))) (cond (decide (136 < a1)) ((q_sI s 23 3 (s.2.1 23 1))) (cond (decide (a1 = 128)) (q_let (dz_N150_87 s (((s.2.1 23 1) + 1) &&& 255)) fun r213 => (q_sI r213.1 23 1 r213.2)) (cond (decide (a1 = 129)) (q_let (dz_N150_87 s (((s.2.1 23 1) - 1) &&& 255)) fun r214 => (q_sI r214.1 23 1 r214.2)) (cond (decide (a1 = 130)) (q_let (dz_N150_87 s (((s.2.1 23 2) + 1) &&& 255)) fun r215 => (q_sI r215.1 23 2 r215.2)) (cond (decide (a1 = 131)) (q_let (dz_N150_87 s (((s.2.1 23 2) - 1) &&& 255)) fun r216 => (q_sI r216.1 23 2 r216.2)) (cond (decide (a1 = 132)) (q_let (dz_N150_87 s (s.2.1 23 0)) fun r217 => (q_sI r217.1 23 1 r217.2)) (cond (decide (a1 = 133)) (q_let (dz_N150_87 s (s.2.1 23 1)) fun r218 => (q_sI r218.1 23 0 r218.2)) (cond (decide (a1 = 134)) (q_let (dz_N150_87 s (s.2.1 23 0)) fun r219 => (q_sI r219.1 23 2 r219.2)) (cond (decide (a1 = 135)) (q_let (dz_N150_87 s (s.2.1 23 2)) fun r220 => (q_sI r220.1 23 0 r220.2)) (q_let (dz_N150_87 s (s.2.1 23 3)) fun r221 => (q_sI r221.1 23 1 r221.2)))))))))))
set_option maxHeartbeats 4000000 in
theorem dzt_N162_87 (s : q_S) (c n : Nat) (a1 : Int32) : q_Ca q_TB0 2 161 [.ref 87, .int a1] (q_kN s c n) ((q_oSN c n) (dz_N162_87 s a1)) := by
  refine q_CaT_of (φ := (q_oSN c n)) (Nat.le_of_ble_eq_true rfl) ?_
  unfold dz_N162_87
  refine q_RT_seg (g2 := (1, [(0, .ref 87), (1, .int a1)], [.int a1], (q_kN s c n))) 1 (fun _ _ => rfl) ?_
  cases h338 : decide (a1 < 128) with
  | true =>
    refine q_RT_cT ?_
    refine q_RT_st1 (g2 := (211, [(0, .ref 87), (1, .int a1)], [], (q_kN s c n))) rfl (if_pos (Or.inl (Int32.lt_iff_toInt_lt.mp (of_decide_eq_true h338)))) ?_
    refine q_RT_seg (g2 := (216, [(0, .ref 87), (1, .int a1)], [.int (s.2.1 23 1), .ref 87], (q_kN s c n))) 3 (fun _ _ => rfl) ?_
    refine q_RT_seg (g2 := (219, [(0, .ref 87), (1, .int a1)], [], (q_kN (q_sI s 23 3 (s.2.1 23 1)) c n))) 1 (fun _ _ => rfl) ?_
    exact q_RT_ret rfl rfl rfl
  | false =>
    refine q_RT_cF ?_
    cases h339 : decide (136 < a1) with
    | true =>
      refine q_RT_cT ?_
      refine q_RT_st1 (g2 := (211, [(0, .ref 87), (1, .int a1)], [], (q_kN s c n))) rfl (if_pos (Or.inr (Int32.lt_iff_toInt_lt.mp (of_decide_eq_true h339)))) ?_
      refine q_RT_seg (g2 := (216, [(0, .ref 87), (1, .int a1)], [.int (s.2.1 23 1), .ref 87], (q_kN s c n))) 3 (fun _ _ => rfl) ?_
      refine q_RT_seg (g2 := (219, [(0, .ref 87), (1, .int a1)], [], (q_kN (q_sI s 23 3 (s.2.1 23 1)) c n))) 1 (fun _ _ => rfl) ?_
      exact q_RT_ret rfl rfl rfl
    | false =>
      refine q_RT_cF ?_
      cases h340 : decide (a1 = 128) with
      | true =>
        refine q_RT_cT ?_
        refine q_RT_st1 (g2 := (52, [(0, .ref 87), (1, .int a1)], [], (q_kN s c n))) rfl (by rw [of_decide_eq_true h340]; rfl) ?_
        refine q_RT_seg (g2 := (58, [(0, .ref 87), (1, .int a1)], [.int (s.2.1 23 1), .ref 87, .ref 87], (q_kN s c n))) 4 (fun _ _ => rfl) ?_
        refine q_RT_seg (g2 := (64, [(0, .ref 87), (1, .int a1)], [.int (((s.2.1 23 1) + 1) &&& 255), .ref 87, .ref 87], (q_kN s c n))) 4 (fun _ _ => rfl) ?_
        refine q_RT_call (v := (some (.int (dz_N150_87 s (((s.2.1 23 1) + 1) &&& 255)).2))) (h2 := (q_kN (dz_N150_87 s (((s.2.1 23 1) + 1) &&& 255)).1 c n)) rfl rfl ((dzt_N150_87 s c n (((s.2.1 23 1) + 1) &&& 255)).le (Nat.le_of_ble_eq_true rfl)) ?_
        generalize dz_N150_87 s (((s.2.1 23 1) + 1) &&& 255) = r213
        refine q_RT_let ?_
        show q_RT _ _ _ (67, [(0, .ref 87), (1, .int a1)], [.int r213.2, .ref 87], (q_kN r213.1 c n)) _ _
        refine q_RT_seg (g2 := (219, [(0, .ref 87), (1, .int a1)], [], (q_kN (q_sI r213.1 23 1 r213.2) c n))) 2 (fun _ _ => rfl) ?_
        exact q_RT_ret rfl rfl rfl
      | false =>
        refine q_RT_cF ?_
        cases h341 : decide (a1 = 129) with
        | true =>
          refine q_RT_cT ?_
          refine q_RT_st1 (g2 := (73, [(0, .ref 87), (1, .int a1)], [], (q_kN s c n))) rfl (by rw [of_decide_eq_true h341]; rfl) ?_
          refine q_RT_seg (g2 := (79, [(0, .ref 87), (1, .int a1)], [.int (s.2.1 23 1), .ref 87, .ref 87], (q_kN s c n))) 4 (fun _ _ => rfl) ?_
          refine q_RT_seg (g2 := (85, [(0, .ref 87), (1, .int a1)], [.int (((s.2.1 23 1) - 1) &&& 255), .ref 87, .ref 87], (q_kN s c n))) 4 (fun _ _ => rfl) ?_
          refine q_RT_call (v := (some (.int (dz_N150_87 s (((s.2.1 23 1) - 1) &&& 255)).2))) (h2 := (q_kN (dz_N150_87 s (((s.2.1 23 1) - 1) &&& 255)).1 c n)) rfl rfl ((dzt_N150_87 s c n (((s.2.1 23 1) - 1) &&& 255)).le (Nat.le_of_ble_eq_true rfl)) ?_
          generalize dz_N150_87 s (((s.2.1 23 1) - 1) &&& 255) = r214
          refine q_RT_let ?_
          show q_RT _ _ _ (88, [(0, .ref 87), (1, .int a1)], [.int r214.2, .ref 87], (q_kN r214.1 c n)) _ _
          refine q_RT_seg (g2 := (219, [(0, .ref 87), (1, .int a1)], [], (q_kN (q_sI r214.1 23 1 r214.2) c n))) 2 (fun _ _ => rfl) ?_
          exact q_RT_ret rfl rfl rfl
        | false =>
          refine q_RT_cF ?_
          cases h342 : decide (a1 = 130) with
          | true =>
            refine q_RT_cT ?_
            refine q_RT_st1 (g2 := (94, [(0, .ref 87), (1, .int a1)], [], (q_kN s c n))) rfl (by rw [of_decide_eq_true h342]; rfl) ?_
            refine q_RT_seg (g2 := (100, [(0, .ref 87), (1, .int a1)], [.int (s.2.1 23 2), .ref 87, .ref 87], (q_kN s c n))) 4 (fun _ _ => rfl) ?_
            refine q_RT_seg (g2 := (106, [(0, .ref 87), (1, .int a1)], [.int (((s.2.1 23 2) + 1) &&& 255), .ref 87, .ref 87], (q_kN s c n))) 4 (fun _ _ => rfl) ?_
            refine q_RT_call (v := (some (.int (dz_N150_87 s (((s.2.1 23 2) + 1) &&& 255)).2))) (h2 := (q_kN (dz_N150_87 s (((s.2.1 23 2) + 1) &&& 255)).1 c n)) rfl rfl ((dzt_N150_87 s c n (((s.2.1 23 2) + 1) &&& 255)).le (Nat.le_of_ble_eq_true rfl)) ?_
            generalize dz_N150_87 s (((s.2.1 23 2) + 1) &&& 255) = r215
            refine q_RT_let ?_
            show q_RT _ _ _ (109, [(0, .ref 87), (1, .int a1)], [.int r215.2, .ref 87], (q_kN r215.1 c n)) _ _
            refine q_RT_seg (g2 := (219, [(0, .ref 87), (1, .int a1)], [], (q_kN (q_sI r215.1 23 2 r215.2) c n))) 2 (fun _ _ => rfl) ?_
            exact q_RT_ret rfl rfl rfl
          | false =>
            refine q_RT_cF ?_
            cases h343 : decide (a1 = 131) with
            | true =>
              refine q_RT_cT ?_
              refine q_RT_st1 (g2 := (115, [(0, .ref 87), (1, .int a1)], [], (q_kN s c n))) rfl (by rw [of_decide_eq_true h343]; rfl) ?_
              refine q_RT_seg (g2 := (121, [(0, .ref 87), (1, .int a1)], [.int (s.2.1 23 2), .ref 87, .ref 87], (q_kN s c n))) 4 (fun _ _ => rfl) ?_
              refine q_RT_seg (g2 := (127, [(0, .ref 87), (1, .int a1)], [.int (((s.2.1 23 2) - 1) &&& 255), .ref 87, .ref 87], (q_kN s c n))) 4 (fun _ _ => rfl) ?_
              refine q_RT_call (v := (some (.int (dz_N150_87 s (((s.2.1 23 2) - 1) &&& 255)).2))) (h2 := (q_kN (dz_N150_87 s (((s.2.1 23 2) - 1) &&& 255)).1 c n)) rfl rfl ((dzt_N150_87 s c n (((s.2.1 23 2) - 1) &&& 255)).le (Nat.le_of_ble_eq_true rfl)) ?_
              generalize dz_N150_87 s (((s.2.1 23 2) - 1) &&& 255) = r216
              refine q_RT_let ?_
              show q_RT _ _ _ (130, [(0, .ref 87), (1, .int a1)], [.int r216.2, .ref 87], (q_kN r216.1 c n)) _ _
              refine q_RT_seg (g2 := (219, [(0, .ref 87), (1, .int a1)], [], (q_kN (q_sI r216.1 23 2 r216.2) c n))) 2 (fun _ _ => rfl) ?_
              exact q_RT_ret rfl rfl rfl
            | false =>
              refine q_RT_cF ?_
              cases h344 : decide (a1 = 132) with
              | true =>
                refine q_RT_cT ?_
                refine q_RT_st1 (g2 := (136, [(0, .ref 87), (1, .int a1)], [], (q_kN s c n))) rfl (by rw [of_decide_eq_true h344]; rfl) ?_
                refine q_RT_seg (g2 := (142, [(0, .ref 87), (1, .int a1)], [.int (s.2.1 23 0), .ref 87, .ref 87], (q_kN s c n))) 4 (fun _ _ => rfl) ?_
                refine q_RT_call (v := (some (.int (dz_N150_87 s (s.2.1 23 0)).2))) (h2 := (q_kN (dz_N150_87 s (s.2.1 23 0)).1 c n)) rfl rfl ((dzt_N150_87 s c n (s.2.1 23 0)).le (Nat.le_of_ble_eq_true rfl)) ?_
                generalize dz_N150_87 s (s.2.1 23 0) = r217
                refine q_RT_let ?_
                show q_RT _ _ _ (145, [(0, .ref 87), (1, .int a1)], [.int r217.2, .ref 87], (q_kN r217.1 c n)) _ _
                refine q_RT_seg (g2 := (219, [(0, .ref 87), (1, .int a1)], [], (q_kN (q_sI r217.1 23 1 r217.2) c n))) 2 (fun _ _ => rfl) ?_
                exact q_RT_ret rfl rfl rfl
              | false =>
                refine q_RT_cF ?_
                cases h345 : decide (a1 = 133) with
                | true =>
                  refine q_RT_cT ?_
                  refine q_RT_st1 (g2 := (151, [(0, .ref 87), (1, .int a1)], [], (q_kN s c n))) rfl (by rw [of_decide_eq_true h345]; rfl) ?_
                  refine q_RT_seg (g2 := (157, [(0, .ref 87), (1, .int a1)], [.int (s.2.1 23 1), .ref 87, .ref 87], (q_kN s c n))) 4 (fun _ _ => rfl) ?_
                  refine q_RT_call (v := (some (.int (dz_N150_87 s (s.2.1 23 1)).2))) (h2 := (q_kN (dz_N150_87 s (s.2.1 23 1)).1 c n)) rfl rfl ((dzt_N150_87 s c n (s.2.1 23 1)).le (Nat.le_of_ble_eq_true rfl)) ?_
                  generalize dz_N150_87 s (s.2.1 23 1) = r218
                  refine q_RT_let ?_
                  show q_RT _ _ _ (160, [(0, .ref 87), (1, .int a1)], [.int r218.2, .ref 87], (q_kN r218.1 c n)) _ _
                  refine q_RT_seg (g2 := (219, [(0, .ref 87), (1, .int a1)], [], (q_kN (q_sI r218.1 23 0 r218.2) c n))) 2 (fun _ _ => rfl) ?_
                  exact q_RT_ret rfl rfl rfl
                | false =>
                  refine q_RT_cF ?_
                  cases h346 : decide (a1 = 134) with
                  | true =>
                    refine q_RT_cT ?_
                    refine q_RT_st1 (g2 := (166, [(0, .ref 87), (1, .int a1)], [], (q_kN s c n))) rfl (by rw [of_decide_eq_true h346]; rfl) ?_
                    refine q_RT_seg (g2 := (172, [(0, .ref 87), (1, .int a1)], [.int (s.2.1 23 0), .ref 87, .ref 87], (q_kN s c n))) 4 (fun _ _ => rfl) ?_
                    refine q_RT_call (v := (some (.int (dz_N150_87 s (s.2.1 23 0)).2))) (h2 := (q_kN (dz_N150_87 s (s.2.1 23 0)).1 c n)) rfl rfl ((dzt_N150_87 s c n (s.2.1 23 0)).le (Nat.le_of_ble_eq_true rfl)) ?_
                    generalize dz_N150_87 s (s.2.1 23 0) = r219
                    refine q_RT_let ?_
                    show q_RT _ _ _ (175, [(0, .ref 87), (1, .int a1)], [.int r219.2, .ref 87], (q_kN r219.1 c n)) _ _
                    refine q_RT_seg (g2 := (219, [(0, .ref 87), (1, .int a1)], [], (q_kN (q_sI r219.1 23 2 r219.2) c n))) 2 (fun _ _ => rfl) ?_
                    exact q_RT_ret rfl rfl rfl
                  | false =>
                    refine q_RT_cF ?_
                    cases h347 : decide (a1 = 135) with
                    | true =>
                      refine q_RT_cT ?_
                      refine q_RT_st1 (g2 := (181, [(0, .ref 87), (1, .int a1)], [], (q_kN s c n))) rfl (by rw [of_decide_eq_true h347]; rfl) ?_
                      refine q_RT_seg (g2 := (187, [(0, .ref 87), (1, .int a1)], [.int (s.2.1 23 2), .ref 87, .ref 87], (q_kN s c n))) 4 (fun _ _ => rfl) ?_
                      refine q_RT_call (v := (some (.int (dz_N150_87 s (s.2.1 23 2)).2))) (h2 := (q_kN (dz_N150_87 s (s.2.1 23 2)).1 c n)) rfl rfl ((dzt_N150_87 s c n (s.2.1 23 2)).le (Nat.le_of_ble_eq_true rfl)) ?_
                      generalize dz_N150_87 s (s.2.1 23 2) = r220
                      refine q_RT_let ?_
                      show q_RT _ _ _ (190, [(0, .ref 87), (1, .int a1)], [.int r220.2, .ref 87], (q_kN r220.1 c n)) _ _
                      refine q_RT_seg (g2 := (219, [(0, .ref 87), (1, .int a1)], [], (q_kN (q_sI r220.1 23 0 r220.2) c n))) 2 (fun _ _ => rfl) ?_
                      exact q_RT_ret rfl rfl rfl
                    | false =>
                      refine q_RT_cF ?_
                      have h348 : a1 = 136 := Int32.toInt_inj.mp (by have e0 := q_neI h340 (n := 128); have e1 := q_neI h341 (n := 129); have e2 := q_neI h342 (n := 130); have e3 := q_neI h343 (n := 131); have e4 := q_neI h344 (n := 132); have e5 := q_neI h345 (n := 133); have e6 := q_neI h346 (n := 134); have e7 := q_neI h347 (n := 135); have l1 : 128 ≤ (a1).toInt := q_lo1 h338; have l2 : (a1).toInt ≤ 136 := q_hi2 h339; show (a1).toInt = 136; omega)
                      refine q_RT_st1 (g2 := (196, [(0, .ref 87), (1, .int a1)], [], (q_kN s c n))) rfl (by rw [h348]; rfl) ?_
                      refine q_RT_seg (g2 := (202, [(0, .ref 87), (1, .int a1)], [.int (s.2.1 23 3), .ref 87, .ref 87], (q_kN s c n))) 4 (fun _ _ => rfl) ?_
                      refine q_RT_call (v := (some (.int (dz_N150_87 s (s.2.1 23 3)).2))) (h2 := (q_kN (dz_N150_87 s (s.2.1 23 3)).1 c n)) rfl rfl ((dzt_N150_87 s c n (s.2.1 23 3)).le (Nat.le_of_ble_eq_true rfl)) ?_
                      generalize dz_N150_87 s (s.2.1 23 3) = r221
                      refine q_RT_let ?_
                      show q_RT _ _ _ (205, [(0, .ref 87), (1, .int a1)], [.int r221.2, .ref 87], (q_kN r221.1 c n)) _ _
                      refine q_RT_seg (g2 := (219, [(0, .ref 87), (1, .int a1)], [], (q_kN (q_sI r221.1 23 1 r221.2) c n))) 2 (fun _ _ => rfl) ?_
                      exact q_RT_ret rfl rfl rfl
def dz_N157_87_65_37 (s : q_S) (v2 : Int32) : Option (q_S) :=
  cond (decide (v2 < 150)) (cond (decide (v2 = 138)) ((dz_N146_87_65 s (s.2.1 23 0)).bind fun r177 => some r177) (cond (decide (v2 = 139)) (q_let (dz_N147_87_65 s) fun r179 => q_let (dz_N150_87 r179.1 r179.2) fun r180 => some (q_sI r180.1 23 0 r180.2)) (cond (decide (v2 = 140)) ((dz_N146_87_65 s (((s.2.1 23 5) ||| 32) ||| 16)).bind fun r181 => some r181) (cond (decide (v2 = 141)) (q_let (dz_N147_87_65 s) fun r182 => some (q_sI r182.1 23 5 (r182.2 &&& 207))) (some s))))) (q_let (dz_N164_87 s v2) fun r203 => some r203)
set_option maxHeartbeats 4000000 in
theorem dzt_N157_87_65_37 (c n : Nat) (s : q_S) (v2 : Int32) : q_RP q_TB0 3 156 (37, [(0, .ref 87), (1, .ref 65), (2, .int v2)], [], (q_kN s c n)) (q_oSN c n) (dz_N157_87_65_37 s v2) := by
  unfold dz_N157_87_65_37
  refine q_RP_seg (g2 := (41, [(0, .ref 87), (1, .ref 65), (2, .int v2)], [.int 150, .int v2], (q_kN s c n))) 2 (fun _ _ => rfl) ?_
  cases h311 : decide (v2 < 150) with
  | true =>
    refine q_RP_cT ?_
    refine q_RP_rsT (g2 := (52, [(0, .ref 87), (1, .ref 65), (2, .int v2)], [], (q_kN s c n))) rfl rfl h311 ?_
    refine q_RP_seg (g2 := (56, [(0, .ref 87), (1, .ref 65), (2, .int v2)], [.int 138, .int v2], (q_kN s c n))) 2 (fun _ _ => rfl) ?_
    cases h312 : decide (v2 = 138) with
    | true =>
      refine q_RP_cT ?_
      refine q_RP_rsF (g2 := (59, [(0, .ref 87), (1, .ref 65), (2, .int v2)], [], (q_kN s c n))) rfl rfl (q_d_neT h312) ?_
      refine q_RP_seg (g2 := (65, [(0, .ref 87), (1, .ref 65), (2, .int v2)], [.int (s.2.1 23 0), .ref 65, .ref 87], (q_kN s c n))) 4 (fun _ _ => rfl) ?_
      refine q_RP_bd fun r177 er177 => ?_
      refine q_RP_call (v := none) (h2 := (q_kN r177 c n)) rfl rfl ((dzt_N146_87_65 s c n (s.2.1 23 0) r177 er177).le (Nat.le_of_ble_eq_true rfl)) ?_
      show q_RP _ _ _ (68, [(0, .ref 87), (1, .ref 65), (2, .int v2)], [], (q_kN r177 c n)) _ _
      refine q_RP_seg (g2 := (139, [(0, .ref 87), (1, .ref 65), (2, .int v2)], [], (q_kN r177 c n))) 1 (fun _ _ => rfl) ?_
      exact q_RP_ret rfl rfl rfl
    | false =>
      refine q_RP_cF ?_
      refine q_RP_rsT (g2 := (71, [(0, .ref 87), (1, .ref 65), (2, .int v2)], [], (q_kN s c n))) rfl rfl (q_d_neF h312) ?_
      refine q_RP_seg (g2 := (75, [(0, .ref 87), (1, .ref 65), (2, .int v2)], [.int 139, .int v2], (q_kN s c n))) 2 (fun _ _ => rfl) ?_
      cases h313 : decide (v2 = 139) with
      | true =>
        refine q_RP_cT ?_
        refine q_RP_rsF (g2 := (78, [(0, .ref 87), (1, .ref 65), (2, .int v2)], [], (q_kN s c n))) rfl rfl (q_d_neT h313) ?_
        refine q_RP_seg (g2 := (82, [(0, .ref 87), (1, .ref 65), (2, .int v2)], [.ref 65, .ref 87, .ref 87, .ref 87], (q_kN s c n))) 4 (fun _ _ => rfl) ?_
        refine q_RP_call (v := (some (.int (dz_N147_87_65 s).2))) (h2 := (q_kN (dz_N147_87_65 s).1 c n)) rfl rfl ((dzt_N147_87_65 s c n).le (Nat.le_of_ble_eq_true rfl)) ?_
        generalize dz_N147_87_65 s = r179
        refine q_RP_let ?_
        show q_RP _ _ _ (85, [(0, .ref 87), (1, .ref 65), (2, .int v2)], [.int r179.2, .ref 87, .ref 87], (q_kN r179.1 c n)) _ _
        refine q_RP_call (v := (some (.int (dz_N150_87 r179.1 r179.2).2))) (h2 := (q_kN (dz_N150_87 r179.1 r179.2).1 c n)) rfl rfl ((dzt_N150_87 r179.1 c n r179.2).le (Nat.le_of_ble_eq_true rfl)) ?_
        generalize dz_N150_87 r179.1 r179.2 = r180
        refine q_RP_let ?_
        show q_RP _ _ _ (88, [(0, .ref 87), (1, .ref 65), (2, .int v2)], [.int r180.2, .ref 87], (q_kN r180.1 c n)) _ _
        refine q_RP_seg (g2 := (139, [(0, .ref 87), (1, .ref 65), (2, .int v2)], [], (q_kN (q_sI r180.1 23 0 r180.2) c n))) 2 (fun _ _ => rfl) ?_
        exact q_RP_ret rfl rfl rfl
      | false =>
        refine q_RP_cF ?_
        refine q_RP_rsT (g2 := (94, [(0, .ref 87), (1, .ref 65), (2, .int v2)], [], (q_kN s c n))) rfl rfl (q_d_neF h313) ?_
        refine q_RP_seg (g2 := (98, [(0, .ref 87), (1, .ref 65), (2, .int v2)], [.int 140, .int v2], (q_kN s c n))) 2 (fun _ _ => rfl) ?_
        cases h317 : decide (v2 = 140) with
        | true =>
          refine q_RP_cT ?_
          refine q_RP_rsF (g2 := (101, [(0, .ref 87), (1, .ref 65), (2, .int v2)], [], (q_kN s c n))) rfl rfl (q_d_neT h317) ?_
          refine q_RP_seg (g2 := (107, [(0, .ref 87), (1, .ref 65), (2, .int v2)], [.int (s.2.1 23 5), .ref 65, .ref 87], (q_kN s c n))) 4 (fun _ _ => rfl) ?_
          refine q_RP_seg (g2 := (113, [(0, .ref 87), (1, .ref 65), (2, .int v2)], [.int (((s.2.1 23 5) ||| 32) ||| 16), .ref 65, .ref 87], (q_kN s c n))) 4 (fun _ _ => rfl) ?_
          refine q_RP_bd fun r181 er181 => ?_
          refine q_RP_call (v := none) (h2 := (q_kN r181 c n)) rfl rfl ((dzt_N146_87_65 s c n (((s.2.1 23 5) ||| 32) ||| 16) r181 er181).le (Nat.le_of_ble_eq_true rfl)) ?_
          show q_RP _ _ _ (116, [(0, .ref 87), (1, .ref 65), (2, .int v2)], [], (q_kN r181 c n)) _ _
          refine q_RP_seg (g2 := (139, [(0, .ref 87), (1, .ref 65), (2, .int v2)], [], (q_kN r181 c n))) 1 (fun _ _ => rfl) ?_
          exact q_RP_ret rfl rfl rfl
        | false =>
          refine q_RP_cF ?_
          refine q_RP_rsT (g2 := (119, [(0, .ref 87), (1, .ref 65), (2, .int v2)], [], (q_kN s c n))) rfl rfl (q_d_neF h317) ?_
          refine q_RP_seg (g2 := (123, [(0, .ref 87), (1, .ref 65), (2, .int v2)], [.int 141, .int v2], (q_kN s c n))) 2 (fun _ _ => rfl) ?_
          cases h318 : decide (v2 = 141) with
          | true =>
            refine q_RP_cT ?_
            refine q_RP_rsF (g2 := (126, [(0, .ref 87), (1, .ref 65), (2, .int v2)], [], (q_kN s c n))) rfl rfl (q_d_neT h318) ?_
            refine q_RP_seg (g2 := (129, [(0, .ref 87), (1, .ref 65), (2, .int v2)], [.ref 65, .ref 87, .ref 87], (q_kN s c n))) 3 (fun _ _ => rfl) ?_
            refine q_RP_call (v := (some (.int (dz_N147_87_65 s).2))) (h2 := (q_kN (dz_N147_87_65 s).1 c n)) rfl rfl ((dzt_N147_87_65 s c n).le (Nat.le_of_ble_eq_true rfl)) ?_
            generalize dz_N147_87_65 s = r182
            refine q_RP_let ?_
            show q_RP _ _ _ (132, [(0, .ref 87), (1, .ref 65), (2, .int v2)], [.int r182.2, .ref 87], (q_kN r182.1 c n)) _ _
            refine q_RP_seg (g2 := (139, [(0, .ref 87), (1, .ref 65), (2, .int v2)], [], (q_kN (q_sI r182.1 23 5 (r182.2 &&& 207)) c n))) 3 (fun _ _ => rfl) ?_
            exact q_RP_ret rfl rfl rfl
          | false =>
            refine q_RP_cF ?_
            refine q_RP_rsT (g2 := (139, [(0, .ref 87), (1, .ref 65), (2, .int v2)], [], (q_kN s c n))) rfl rfl (q_d_neF h318) ?_
            exact q_RP_ret rfl rfl rfl
  | false =>
    refine q_RP_cF ?_
    refine q_RP_rsF (g2 := (44, [(0, .ref 87), (1, .ref 65), (2, .int v2)], [], (q_kN s c n))) rfl rfl h311 ?_
    refine q_RP_seg (g2 := (46, [(0, .ref 87), (1, .ref 65), (2, .int v2)], [.int v2, .ref 87], (q_kN s c n))) 2 (fun _ _ => rfl) ?_
    refine q_RP_call (v := none) (h2 := (q_kN (dz_N164_87 s v2) c n)) rfl rfl ((dzt_N164_87 s c n v2).le (Nat.le_of_ble_eq_true rfl)) ?_
    generalize dz_N164_87 s v2 = r203
    refine q_RP_let ?_
    show q_RP _ _ _ (49, [(0, .ref 87), (1, .ref 65), (2, .int v2)], [], (q_kN r203 c n)) _ _
    refine q_RP_seg (g2 := (139, [(0, .ref 87), (1, .ref 65), (2, .int v2)], [], (q_kN r203 c n))) 1 (fun _ _ => rfl) ?_
    exact q_RP_ret rfl rfl rfl
def dz_N157_87_65 (s : q_S) (a2 : Int32) : Option (q_S) :=
  cond (decide (137 < a2)) (cond (decide (a2 < 142)) (dz_N157_87_65_37 s a2) (cond (decide (148 < a2)) (dz_N157_87_65_37 s a2) (q_let (dz_N163_87 s a2) fun r212 => some r212))) (q_let (dz_N162_87 s a2) fun r222 => some r222)
set_option maxHeartbeats 4000000 in
theorem dzt_N157_87_65 (s : q_S) (c n : Nat) (a2 : Int32) (x : q_S) (h : dz_N157_87_65 s a2 = some x) : q_Ca q_TB0 4 156 [.ref 87, .ref 65, .int a2] (q_kN s c n) ((q_oSN c n) x) := by
  refine q_CaP_of (φ := (q_oSN c n)) (Nat.le_of_ble_eq_true rfl) ?_ h
  clear h
  unfold dz_N157_87_65
  refine q_RP_seg (g2 := (4, [(0, .ref 87), (1, .ref 65), (2, .int a2)], [.int 137, .int a2], (q_kN s c n))) 2 (fun _ _ => rfl) ?_
  cases h309 : decide (137 < a2) with
  | true =>
    refine q_RP_cT ?_
    refine q_RP_rsT (g2 := (15, [(0, .ref 87), (1, .ref 65), (2, .int a2)], [], (q_kN s c n))) rfl rfl h309 ?_
    refine q_RP_seg (g2 := (19, [(0, .ref 87), (1, .ref 65), (2, .int a2)], [.int 142, .int a2], (q_kN s c n))) 2 (fun _ _ => rfl) ?_
    cases h310 : decide (a2 < 142) with
    | true =>
      refine q_RP_cT ?_
      refine q_RP_rsT (g2 := (37, [(0, .ref 87), (1, .ref 65), (2, .int a2)], [], (q_kN s c n))) rfl rfl h310 ?_
      exact (dzt_N157_87_65_37 c n s a2)
    | false =>
      refine q_RP_cF ?_
      refine q_RP_rsF (g2 := (22, [(0, .ref 87), (1, .ref 65), (2, .int a2)], [], (q_kN s c n))) rfl rfl h310 ?_
      refine q_RP_seg (g2 := (26, [(0, .ref 87), (1, .ref 65), (2, .int a2)], [.int 148, .int a2], (q_kN s c n))) 2 (fun _ _ => rfl) ?_
      cases h329 : decide (148 < a2) with
      | true =>
        refine q_RP_cT ?_
        refine q_RP_rsT (g2 := (37, [(0, .ref 87), (1, .ref 65), (2, .int a2)], [], (q_kN s c n))) rfl rfl h329 ?_
        exact (dzt_N157_87_65_37 c n s a2)
      | false =>
        refine q_RP_cF ?_
        refine q_RP_rsF (g2 := (29, [(0, .ref 87), (1, .ref 65), (2, .int a2)], [], (q_kN s c n))) rfl rfl h329 ?_
        refine q_RP_seg (g2 := (31, [(0, .ref 87), (1, .ref 65), (2, .int a2)], [.int a2, .ref 87], (q_kN s c n))) 2 (fun _ _ => rfl) ?_
        refine q_RP_call (v := none) (h2 := (q_kN (dz_N163_87 s a2) c n)) rfl rfl ((dzt_N163_87 s c n a2).le (Nat.le_of_ble_eq_true rfl)) ?_
        generalize dz_N163_87 s a2 = r212
        refine q_RP_let ?_
        show q_RP _ _ _ (34, [(0, .ref 87), (1, .ref 65), (2, .int a2)], [], (q_kN r212 c n)) _ _
        refine q_RP_seg (g2 := (139, [(0, .ref 87), (1, .ref 65), (2, .int a2)], [], (q_kN r212 c n))) 1 (fun _ _ => rfl) ?_
        exact q_RP_ret rfl rfl rfl
  | false =>
    refine q_RP_cF ?_
    refine q_RP_rsF (g2 := (7, [(0, .ref 87), (1, .ref 65), (2, .int a2)], [], (q_kN s c n))) rfl rfl h309 ?_
    refine q_RP_seg (g2 := (9, [(0, .ref 87), (1, .ref 65), (2, .int a2)], [.int a2, .ref 87], (q_kN s c n))) 2 (fun _ _ => rfl) ?_
    refine q_RP_call (v := none) (h2 := (q_kN (dz_N162_87 s a2) c n)) rfl rfl ((dzt_N162_87 s c n a2).le (Nat.le_of_ble_eq_true rfl)) ?_
    generalize dz_N162_87 s a2 = r222
    refine q_RP_let ?_
    show q_RP _ _ _ (12, [(0, .ref 87), (1, .ref 65), (2, .int a2)], [], (q_kN r222 c n)) _ _
    refine q_RP_seg (g2 := (139, [(0, .ref 87), (1, .ref 65), (2, .int a2)], [], (q_kN r222 c n))) 1 (fun _ _ => rfl) ?_
    exact q_RP_ret rfl rfl rfl
def dz_N160_87_65 (s : q_S) : q_S × Int32 :=
  q_let (dz_N147_87_65 s) fun r239 => q_let (dz_N147_87_65 r239.1) fun r240 => (r240.1, ((r239.2 + (256 * r240.2)) &&& 4095))
set_option maxHeartbeats 4000000 in
theorem dzt_N160_87_65 (s : q_S) (c n : Nat) : q_Ca q_TB0 3 159 [.ref 87, .ref 65] (q_kN s c n) ((q_oIN c n) (dz_N160_87_65 s)) := by
  refine q_CaT_of (φ := (q_oIN c n)) (Nat.le_of_ble_eq_true rfl) ?_
  unfold dz_N160_87_65
  refine q_RT_seg (g2 := (2, [(0, .ref 87), (1, .ref 65)], [.ref 65, .ref 87], (q_kN s c n))) 2 (fun _ _ => rfl) ?_
  refine q_RT_call (v := (some (.int (dz_N147_87_65 s).2))) (h2 := (q_kN (dz_N147_87_65 s).1 c n)) rfl rfl ((dzt_N147_87_65 s c n).le (Nat.le_of_ble_eq_true rfl)) ?_
  generalize dz_N147_87_65 s = r239
  refine q_RT_let ?_
  show q_RT _ _ _ (5, [(0, .ref 87), (1, .ref 65)], [.int r239.2], (q_kN r239.1 c n)) _ _
  refine q_RT_seg (g2 := (12, [(2, .int r239.2), (0, .ref 87), (1, .ref 65)], [.ref 65, .ref 87, .int 256, .int r239.2], (q_kN r239.1 c n))) 5 (fun _ _ => rfl) ?_
  refine q_RT_call (v := (some (.int (dz_N147_87_65 r239.1).2))) (h2 := (q_kN (dz_N147_87_65 r239.1).1 c n)) rfl rfl ((dzt_N147_87_65 r239.1 c n).le (Nat.le_of_ble_eq_true rfl)) ?_
  generalize dz_N147_87_65 r239.1 = r240
  refine q_RT_let ?_
  show q_RT _ _ _ (15, [(2, .int r239.2), (0, .ref 87), (1, .ref 65)], [.int r240.2, .int 256, .int r239.2], (q_kN r240.1 c n)) _ _
  refine q_RT_seg (g2 := (21, [(2, .int r239.2), (0, .ref 87), (1, .ref 65)], [.int ((r239.2 + (256 * r240.2)) &&& 4095)], (q_kN r240.1 c n))) 4 (fun _ _ => rfl) ?_
  exact q_RT_ret rfl rfl rfl
def dz_N159_87_65 (s : q_S) (a2 : Int32) : Option (Int32) :=
  (dz_N90_65 s a2).bind fun r251 => (dz_N90_65 s (((a2 / 256) * 256) + ((a2 + 1) &&& 255))).bind fun r252 => some ((r251 + (256 * r252)) &&& 4095)
set_option maxHeartbeats 4000000 in
theorem dzt_N159_87_65 (s : q_S) (c n : Nat) (a2 : Int32) (x : Int32) (h : dz_N159_87_65 s a2 = some x) : q_Ca q_TB0 3 158 [.ref 87, .ref 65, .int a2] (q_kN s c n) ((q_oP (q_kN s c n)) x) := by
  refine q_CaP_of (φ := (q_oP (q_kN s c n))) (Nat.le_of_ble_eq_true rfl) ?_ h
  clear h
  unfold dz_N159_87_65
  refine q_RP_seg (g2 := (20, [(3, .int (((a2 / 256) * 256) + ((a2 + 1) &&& 255))), (0, .ref 87), (1, .ref 65), (2, .int a2)], [.int a2, .ref 65], (q_kN s c n))) 14 (fun _ _ => rfl) ?_
  refine q_RP_bd fun r251 er251 => ?_
  refine q_RP_call (v := (some (.int r251))) (h2 := (q_kN s c n)) rfl rfl ((dzt_N90_65 s c n a2 r251 er251).le (Nat.le_of_ble_eq_true rfl)) ?_
  show q_RP _ _ _ (23, [(3, .int (((a2 / 256) * 256) + ((a2 + 1) &&& 255))), (0, .ref 87), (1, .ref 65), (2, .int a2)], [.int r251], (q_kN s c n)) _ _
  refine q_RP_seg (g2 := (28, [(3, .int (((a2 / 256) * 256) + ((a2 + 1) &&& 255))), (0, .ref 87), (1, .ref 65), (2, .int a2)], [.int (((a2 / 256) * 256) + ((a2 + 1) &&& 255)), .ref 65, .int 256, .int r251], (q_kN s c n))) 3 (fun _ _ => rfl) ?_
  refine q_RP_bd fun r252 er252 => ?_
  refine q_RP_call (v := (some (.int r252))) (h2 := (q_kN s c n)) rfl rfl ((dzt_N90_65 s c n (((a2 / 256) * 256) + ((a2 + 1) &&& 255)) r252 er252).le (Nat.le_of_ble_eq_true rfl)) ?_
  show q_RP _ _ _ (31, [(3, .int (((a2 / 256) * 256) + ((a2 + 1) &&& 255))), (0, .ref 87), (1, .ref 65), (2, .int a2)], [.int r252, .int 256, .int r251], (q_kN s c n)) _ _
  refine q_RP_seg (g2 := (37, [(3, .int (((a2 / 256) * 256) + ((a2 + 1) &&& 255))), (0, .ref 87), (1, .ref 65), (2, .int a2)], [.int ((r251 + (256 * r252)) &&& 4095)], (q_kN s c n))) 4 (fun _ _ => rfl) ?_
  exact q_RP_ret rfl rfl rfl
def dz_N158_87_65 (s : q_S) (a2 : Int32) (a3 : Int32) : Option (q_S × Int32) :=
  cond (decide (a2 < 155)) (q_let (dz_N187 s a2) fun r228 => cond r228 (q_let (dz_N161_87 s a2) fun r229 => cond r229 (q_let (dz_N140_87 s 1) fun r230 => (dz_N90_65 s r230).bind fun r231 => q_let (dz_N139_87 s r231) fun r232 => some (s, r232)) (some (s, a3))) (some ((q_sI s 23 7 1), (s.2.1 23 4)))) (cond (decide (159 < a2)) (q_let (dz_N187 s a2) fun r233 => cond r233 (q_let (dz_N161_87 s a2) fun r234 => cond r234 (q_let (dz_N140_87 s 1) fun r235 => (dz_N90_65 s r235).bind fun r236 => q_let (dz_N139_87 s r236) fun r237 => some (s, r237)) (some (s, a3))) (some ((q_sI s 23 7 1), (s.2.1 23 4)))) (cond (decide (a2 = 155)) (q_let (dz_N147_87_65 s) fun r238 => q_let (dz_N160_87_65 (q_sI r238.1 23 5 (r238.2 &&& 207))) fun r241 => some (r241.1, r241.2)) (cond (decide (a2 = 156)) (q_let (dz_N160_87_65 s) fun r242 => some (r242.1, ((r242.2 + 1) &&& 4095))) (cond (decide (a2 = 157)) ((dz_N145_87_65 s 3).bind fun r243 => some (s, r243)) (cond (decide (a2 = 158)) ((dz_N145_87_65 s 3).bind fun r244 => q_let (dz_N140_87 s 2) fun r245 => (dz_N146_87_65 s (r245 >>> ((8 &&& 31) : Int32))).bind fun r246 => q_let (dz_N140_87 r246 2) fun r247 => (dz_N146_87_65 r246 (r247 &&& 255)).bind fun r248 => some (r248, r244)) ((dz_N145_87_65 s 3).bind fun r249 => (dz_N159_87_65 s r249).bind fun r253 => some (s, r253)))))))
set_option maxHeartbeats 4000000 in
theorem dzt_N158_87_65 (s : q_S) (c n : Nat) (a2 : Int32) (a3 : Int32) (x : q_S × Int32) (h : dz_N158_87_65 s a2 a3 = some x) : q_Ca q_TB0 4 157 [.ref 87, .ref 65, .int a2, .int a3] (q_kN s c n) ((q_oIN c n) x) := by
  refine q_CaP_of (φ := (q_oIN c n)) (Nat.le_of_ble_eq_true rfl) ?_ h
  clear h
  unfold dz_N158_87_65
  refine q_RP_seg (g2 := (1, [(0, .ref 87), (1, .ref 65), (2, .int a2), (3, .int a3)], [.int a2], (q_kN s c n))) 1 (fun _ _ => rfl) ?_
  cases h353 : decide (a2 < 155) with
  | true =>
    refine q_RP_cT ?_
    refine q_RP_st1 (g2 := (124, [(0, .ref 87), (1, .ref 65), (2, .int a2), (3, .int a3)], [], (q_kN s c n))) rfl (if_pos (Or.inl (Int32.lt_iff_toInt_lt.mp (of_decide_eq_true h353)))) ?_
    refine q_RP_seg (g2 := (125, [(0, .ref 87), (1, .ref 65), (2, .int a2), (3, .int a3)], [.int a2], (q_kN s c n))) 1 (fun _ _ => rfl) ?_
    refine q_RP_call (v := (some (.int (q_b (dz_N187 s a2))))) (h2 := (q_kN s c n)) rfl rfl ((dzt_N187 s c n a2).le (Nat.le_of_ble_eq_true rfl)) ?_
    generalize dz_N187 s a2 = r228
    refine q_RP_let ?_
    show q_RP _ _ _ (128, [(0, .ref 87), (1, .ref 65), (2, .int a2), (3, .int a3)], [.int (q_b r228)], (q_kN s c n)) _ _
    cases h354 : r228 with
    | true =>
      refine q_RP_cT ?_
      show q_RP _ _ _ (128, [(0, .ref 87), (1, .ref 65), (2, .int a2), (3, .int a3)], [.int 1], (q_kN s c n)) _ _
      refine q_RP_seg (g2 := (133, [(0, .ref 87), (1, .ref 65), (2, .int a2), (3, .int a3)], [.int a2, .ref 87], (q_kN s c n))) 3 (fun _ _ => rfl) ?_
      refine q_RP_call (v := (some (.int (q_b (dz_N161_87 s a2))))) (h2 := (q_kN s c n)) rfl rfl ((dzt_N161_87 s c n a2).le (Nat.le_of_ble_eq_true rfl)) ?_
      generalize dz_N161_87 s a2 = r229
      refine q_RP_let ?_
      show q_RP _ _ _ (136, [(0, .ref 87), (1, .ref 65), (2, .int a2), (3, .int a3)], [.int (q_b r229)], (q_kN s c n)) _ _
      cases h355 : r229 with
      | true =>
        refine q_RP_cT ?_
        show q_RP _ _ _ (136, [(0, .ref 87), (1, .ref 65), (2, .int a2), (3, .int a3)], [.int 1], (q_kN s c n)) _ _
        refine q_RP_seg (g2 := (143, [(0, .ref 87), (1, .ref 65), (2, .int a2), (3, .int a3)], [.int 1, .ref 87, .ref 65, .ref 87], (q_kN s c n))) 5 (fun _ _ => rfl) ?_
        refine q_RP_call (v := (some (.int (dz_N140_87 s 1)))) (h2 := (q_kN s c n)) rfl rfl ((dzt_N140_87 s c n 1).le (Nat.le_of_ble_eq_true rfl)) ?_
        generalize dz_N140_87 s 1 = r230
        refine q_RP_let ?_
        show q_RP _ _ _ (146, [(0, .ref 87), (1, .ref 65), (2, .int a2), (3, .int a3)], [.int r230, .ref 65, .ref 87], (q_kN s c n)) _ _
        refine q_RP_bd fun r231 er231 => ?_
        refine q_RP_call (v := (some (.int r231))) (h2 := (q_kN s c n)) rfl rfl ((dzt_N90_65 s c n r230 r231 er231).le (Nat.le_of_ble_eq_true rfl)) ?_
        show q_RP _ _ _ (149, [(0, .ref 87), (1, .ref 65), (2, .int a2), (3, .int a3)], [.int r231, .ref 87], (q_kN s c n)) _ _
        refine q_RP_call (v := (some (.int (dz_N139_87 s r231)))) (h2 := (q_kN s c n)) rfl rfl ((dzt_N139_87 s c n r231).le (Nat.le_of_ble_eq_true rfl)) ?_
        generalize dz_N139_87 s r231 = r232
        refine q_RP_let ?_
        show q_RP _ _ _ (152, [(0, .ref 87), (1, .ref 65), (2, .int a2), (3, .int a3)], [.int r232], (q_kN s c n)) _ _
        refine q_RP_seg (g2 := (156, [(0, .ref 87), (1, .ref 65), (2, .int a2), (3, .int a3)], [.int r232], (q_kN s c n))) 1 (fun _ _ => rfl) ?_
        exact q_RP_ret rfl rfl rfl
      | false =>
        refine q_RP_cF ?_
        show q_RP _ _ _ (136, [(0, .ref 87), (1, .ref 65), (2, .int a2), (3, .int a3)], [.int 0], (q_kN s c n)) _ _
        refine q_RP_seg (g2 := (156, [(0, .ref 87), (1, .ref 65), (2, .int a2), (3, .int a3)], [.int a3], (q_kN s c n))) 2 (fun _ _ => rfl) ?_
        exact q_RP_ret rfl rfl rfl
    | false =>
      refine q_RP_cF ?_
      show q_RP _ _ _ (128, [(0, .ref 87), (1, .ref 65), (2, .int a2), (3, .int a3)], [.int 0], (q_kN s c n)) _ _
      refine q_RP_seg (g2 := (166, [(0, .ref 87), (1, .ref 65), (2, .int a2), (3, .int a3)], [.int (s.2.1 23 4)], (q_kN (q_sI s 23 7 1) c n))) 6 (fun _ _ => rfl) ?_
      exact q_RP_ret rfl rfl rfl
  | false =>
    refine q_RP_cF ?_
    cases h356 : decide (159 < a2) with
    | true =>
      refine q_RP_cT ?_
      refine q_RP_st1 (g2 := (124, [(0, .ref 87), (1, .ref 65), (2, .int a2), (3, .int a3)], [], (q_kN s c n))) rfl (if_pos (Or.inr (Int32.lt_iff_toInt_lt.mp (of_decide_eq_true h356)))) ?_
      refine q_RP_seg (g2 := (125, [(0, .ref 87), (1, .ref 65), (2, .int a2), (3, .int a3)], [.int a2], (q_kN s c n))) 1 (fun _ _ => rfl) ?_
      refine q_RP_call (v := (some (.int (q_b (dz_N187 s a2))))) (h2 := (q_kN s c n)) rfl rfl ((dzt_N187 s c n a2).le (Nat.le_of_ble_eq_true rfl)) ?_
      generalize dz_N187 s a2 = r233
      refine q_RP_let ?_
      show q_RP _ _ _ (128, [(0, .ref 87), (1, .ref 65), (2, .int a2), (3, .int a3)], [.int (q_b r233)], (q_kN s c n)) _ _
      cases h357 : r233 with
      | true =>
        refine q_RP_cT ?_
        show q_RP _ _ _ (128, [(0, .ref 87), (1, .ref 65), (2, .int a2), (3, .int a3)], [.int 1], (q_kN s c n)) _ _
        refine q_RP_seg (g2 := (133, [(0, .ref 87), (1, .ref 65), (2, .int a2), (3, .int a3)], [.int a2, .ref 87], (q_kN s c n))) 3 (fun _ _ => rfl) ?_
        refine q_RP_call (v := (some (.int (q_b (dz_N161_87 s a2))))) (h2 := (q_kN s c n)) rfl rfl ((dzt_N161_87 s c n a2).le (Nat.le_of_ble_eq_true rfl)) ?_
        generalize dz_N161_87 s a2 = r234
        refine q_RP_let ?_
        show q_RP _ _ _ (136, [(0, .ref 87), (1, .ref 65), (2, .int a2), (3, .int a3)], [.int (q_b r234)], (q_kN s c n)) _ _
        cases h358 : r234 with
        | true =>
          refine q_RP_cT ?_
          show q_RP _ _ _ (136, [(0, .ref 87), (1, .ref 65), (2, .int a2), (3, .int a3)], [.int 1], (q_kN s c n)) _ _
          refine q_RP_seg (g2 := (143, [(0, .ref 87), (1, .ref 65), (2, .int a2), (3, .int a3)], [.int 1, .ref 87, .ref 65, .ref 87], (q_kN s c n))) 5 (fun _ _ => rfl) ?_
          refine q_RP_call (v := (some (.int (dz_N140_87 s 1)))) (h2 := (q_kN s c n)) rfl rfl ((dzt_N140_87 s c n 1).le (Nat.le_of_ble_eq_true rfl)) ?_
          generalize dz_N140_87 s 1 = r235
          refine q_RP_let ?_
          show q_RP _ _ _ (146, [(0, .ref 87), (1, .ref 65), (2, .int a2), (3, .int a3)], [.int r235, .ref 65, .ref 87], (q_kN s c n)) _ _
          refine q_RP_bd fun r236 er236 => ?_
          refine q_RP_call (v := (some (.int r236))) (h2 := (q_kN s c n)) rfl rfl ((dzt_N90_65 s c n r235 r236 er236).le (Nat.le_of_ble_eq_true rfl)) ?_
          show q_RP _ _ _ (149, [(0, .ref 87), (1, .ref 65), (2, .int a2), (3, .int a3)], [.int r236, .ref 87], (q_kN s c n)) _ _
          refine q_RP_call (v := (some (.int (dz_N139_87 s r236)))) (h2 := (q_kN s c n)) rfl rfl ((dzt_N139_87 s c n r236).le (Nat.le_of_ble_eq_true rfl)) ?_
          generalize dz_N139_87 s r236 = r237
          refine q_RP_let ?_
          show q_RP _ _ _ (152, [(0, .ref 87), (1, .ref 65), (2, .int a2), (3, .int a3)], [.int r237], (q_kN s c n)) _ _
          refine q_RP_seg (g2 := (156, [(0, .ref 87), (1, .ref 65), (2, .int a2), (3, .int a3)], [.int r237], (q_kN s c n))) 1 (fun _ _ => rfl) ?_
          exact q_RP_ret rfl rfl rfl
        | false =>
          refine q_RP_cF ?_
          show q_RP _ _ _ (136, [(0, .ref 87), (1, .ref 65), (2, .int a2), (3, .int a3)], [.int 0], (q_kN s c n)) _ _
          refine q_RP_seg (g2 := (156, [(0, .ref 87), (1, .ref 65), (2, .int a2), (3, .int a3)], [.int a3], (q_kN s c n))) 2 (fun _ _ => rfl) ?_
          exact q_RP_ret rfl rfl rfl
      | false =>
        refine q_RP_cF ?_
        show q_RP _ _ _ (128, [(0, .ref 87), (1, .ref 65), (2, .int a2), (3, .int a3)], [.int 0], (q_kN s c n)) _ _
        refine q_RP_seg (g2 := (166, [(0, .ref 87), (1, .ref 65), (2, .int a2), (3, .int a3)], [.int (s.2.1 23 4)], (q_kN (q_sI s 23 7 1) c n))) 6 (fun _ _ => rfl) ?_
        exact q_RP_ret rfl rfl rfl
    | false =>
      refine q_RP_cF ?_
      cases h359 : decide (a2 = 155) with
      | true =>
        refine q_RP_cT ?_
        refine q_RP_st1 (g2 := (36, [(0, .ref 87), (1, .ref 65), (2, .int a2), (3, .int a3)], [], (q_kN s c n))) rfl (by rw [of_decide_eq_true h359]; rfl) ?_
        refine q_RP_seg (g2 := (39, [(0, .ref 87), (1, .ref 65), (2, .int a2), (3, .int a3)], [.ref 65, .ref 87, .ref 87], (q_kN s c n))) 3 (fun _ _ => rfl) ?_
        refine q_RP_call (v := (some (.int (dz_N147_87_65 s).2))) (h2 := (q_kN (dz_N147_87_65 s).1 c n)) rfl rfl ((dzt_N147_87_65 s c n).le (Nat.le_of_ble_eq_true rfl)) ?_
        generalize dz_N147_87_65 s = r238
        refine q_RP_let ?_
        show q_RP _ _ _ (42, [(0, .ref 87), (1, .ref 65), (2, .int a2), (3, .int a3)], [.int r238.2, .ref 87], (q_kN r238.1 c n)) _ _
        refine q_RP_seg (g2 := (51, [(0, .ref 87), (1, .ref 65), (2, .int a2), (3, .int a3)], [.ref 65, .ref 87], (q_kN (q_sI r238.1 23 5 (r238.2 &&& 207)) c n))) 5 (fun _ _ => rfl) ?_
        refine q_RP_call (v := (some (.int (dz_N160_87_65 (q_sI r238.1 23 5 (r238.2 &&& 207))).2))) (h2 := (q_kN (dz_N160_87_65 (q_sI r238.1 23 5 (r238.2 &&& 207))).1 c n)) rfl rfl ((dzt_N160_87_65 (q_sI r238.1 23 5 (r238.2 &&& 207)) c n).le (Nat.le_of_ble_eq_true rfl)) ?_
        generalize dz_N160_87_65 (q_sI r238.1 23 5 (r238.2 &&& 207)) = r241
        refine q_RP_let ?_
        show q_RP _ _ _ (54, [(0, .ref 87), (1, .ref 65), (2, .int a2), (3, .int a3)], [.int r241.2], (q_kN r241.1 c n)) _ _
        exact q_RP_ret rfl rfl rfl
      | false =>
        refine q_RP_cF ?_
        cases h360 : decide (a2 = 156) with
        | true =>
          refine q_RP_cT ?_
          refine q_RP_st1 (g2 := (55, [(0, .ref 87), (1, .ref 65), (2, .int a2), (3, .int a3)], [], (q_kN s c n))) rfl (by rw [of_decide_eq_true h360]; rfl) ?_
          refine q_RP_seg (g2 := (57, [(0, .ref 87), (1, .ref 65), (2, .int a2), (3, .int a3)], [.ref 65, .ref 87], (q_kN s c n))) 2 (fun _ _ => rfl) ?_
          refine q_RP_call (v := (some (.int (dz_N160_87_65 s).2))) (h2 := (q_kN (dz_N160_87_65 s).1 c n)) rfl rfl ((dzt_N160_87_65 s c n).le (Nat.le_of_ble_eq_true rfl)) ?_
          generalize dz_N160_87_65 s = r242
          refine q_RP_let ?_
          show q_RP _ _ _ (60, [(0, .ref 87), (1, .ref 65), (2, .int a2), (3, .int a3)], [.int r242.2], (q_kN r242.1 c n)) _ _
          refine q_RP_seg (g2 := (66, [(0, .ref 87), (1, .ref 65), (2, .int a2), (3, .int a3)], [.int ((r242.2 + 1) &&& 4095)], (q_kN r242.1 c n))) 4 (fun _ _ => rfl) ?_
          exact q_RP_ret rfl rfl rfl
        | false =>
          refine q_RP_cF ?_
          cases h361 : decide (a2 = 157) with
          | true =>
            refine q_RP_cT ?_
            refine q_RP_st1 (g2 := (67, [(0, .ref 87), (1, .ref 65), (2, .int a2), (3, .int a3)], [], (q_kN s c n))) rfl (by rw [of_decide_eq_true h361]; rfl) ?_
            refine q_RP_seg (g2 := (70, [(0, .ref 87), (1, .ref 65), (2, .int a2), (3, .int a3)], [.int 3, .ref 65, .ref 87], (q_kN s c n))) 3 (fun _ _ => rfl) ?_
            refine q_RP_bd fun r243 er243 => ?_
            refine q_RP_call (v := (some (.int r243))) (h2 := (q_kN s c n)) rfl rfl ((dzt_N145_87_65 s c n 3 r243 er243).le (Nat.le_of_ble_eq_true rfl)) ?_
            show q_RP _ _ _ (73, [(0, .ref 87), (1, .ref 65), (2, .int a2), (3, .int a3)], [.int r243], (q_kN s c n)) _ _
            exact q_RP_ret rfl rfl rfl
          | false =>
            refine q_RP_cF ?_
            cases h362 : decide (a2 = 158) with
            | true =>
              refine q_RP_cT ?_
              refine q_RP_st1 (g2 := (74, [(0, .ref 87), (1, .ref 65), (2, .int a2), (3, .int a3)], [], (q_kN s c n))) rfl (by rw [of_decide_eq_true h362]; rfl) ?_
              refine q_RP_seg (g2 := (77, [(0, .ref 87), (1, .ref 65), (2, .int a2), (3, .int a3)], [.int 3, .ref 65, .ref 87], (q_kN s c n))) 3 (fun _ _ => rfl) ?_
              refine q_RP_bd fun r244 er244 => ?_
              refine q_RP_call (v := (some (.int r244))) (h2 := (q_kN s c n)) rfl rfl ((dzt_N145_87_65 s c n 3 r244 er244).le (Nat.le_of_ble_eq_true rfl)) ?_
              show q_RP _ _ _ (80, [(0, .ref 87), (1, .ref 65), (2, .int a2), (3, .int a3)], [.int r244], (q_kN s c n)) _ _
              refine q_RP_seg (g2 := (86, [(4, .int r244), (0, .ref 87), (1, .ref 65), (2, .int a2), (3, .int a3)], [.int 2, .ref 87, .ref 65, .ref 87], (q_kN s c n))) 5 (fun _ _ => rfl) ?_
              refine q_RP_call (v := (some (.int (dz_N140_87 s 2)))) (h2 := (q_kN s c n)) rfl rfl ((dzt_N140_87 s c n 2).le (Nat.le_of_ble_eq_true rfl)) ?_
              generalize dz_N140_87 s 2 = r245
              refine q_RP_let ?_
              show q_RP _ _ _ (89, [(4, .int r244), (0, .ref 87), (1, .ref 65), (2, .int a2), (3, .int a3)], [.int r245, .ref 65, .ref 87], (q_kN s c n)) _ _
              refine q_RP_seg (g2 := (92, [(4, .int r244), (0, .ref 87), (1, .ref 65), (2, .int a2), (3, .int a3)], [.int (r245 >>> ((8 &&& 31) : Int32)), .ref 65, .ref 87], (q_kN s c n))) 2 (fun _ _ => rfl) ?_
              refine q_RP_bd fun r246 er246 => ?_
              refine q_RP_call (v := none) (h2 := (q_kN r246 c n)) rfl rfl ((dzt_N146_87_65 s c n (r245 >>> ((8 &&& 31) : Int32)) r246 er246).le (Nat.le_of_ble_eq_true rfl)) ?_
              show q_RP _ _ _ (95, [(4, .int r244), (0, .ref 87), (1, .ref 65), (2, .int a2), (3, .int a3)], [], (q_kN r246 c n)) _ _
              refine q_RP_seg (g2 := (99, [(4, .int r244), (0, .ref 87), (1, .ref 65), (2, .int a2), (3, .int a3)], [.int 2, .ref 87, .ref 65, .ref 87], (q_kN r246 c n))) 4 (fun _ _ => rfl) ?_
              refine q_RP_call (v := (some (.int (dz_N140_87 r246 2)))) (h2 := (q_kN r246 c n)) rfl rfl ((dzt_N140_87 r246 c n 2).le (Nat.le_of_ble_eq_true rfl)) ?_
              generalize dz_N140_87 r246 2 = r247
              refine q_RP_let ?_
              show q_RP _ _ _ (102, [(4, .int r244), (0, .ref 87), (1, .ref 65), (2, .int a2), (3, .int a3)], [.int r247, .ref 65, .ref 87], (q_kN r246 c n)) _ _
              refine q_RP_seg (g2 := (106, [(4, .int r244), (0, .ref 87), (1, .ref 65), (2, .int a2), (3, .int a3)], [.int (r247 &&& 255), .ref 65, .ref 87], (q_kN r246 c n))) 2 (fun _ _ => rfl) ?_
              refine q_RP_bd fun r248 er248 => ?_
              refine q_RP_call (v := none) (h2 := (q_kN r248 c n)) rfl rfl ((dzt_N146_87_65 r246 c n (r247 &&& 255) r248 er248).le (Nat.le_of_ble_eq_true rfl)) ?_
              show q_RP _ _ _ (109, [(4, .int r244), (0, .ref 87), (1, .ref 65), (2, .int a2), (3, .int a3)], [], (q_kN r248 c n)) _ _
              refine q_RP_seg (g2 := (111, [(4, .int r244), (0, .ref 87), (1, .ref 65), (2, .int a2), (3, .int a3)], [.int r244], (q_kN r248 c n))) 1 (fun _ _ => rfl) ?_
              exact q_RP_ret rfl rfl rfl
            | false =>
              refine q_RP_cF ?_
              have h363 : a2 = 159 := Int32.toInt_inj.mp (by have e0 := q_neI h359 (n := 155); have e1 := q_neI h360 (n := 156); have e2 := q_neI h361 (n := 157); have e3 := q_neI h362 (n := 158); have l1 : 155 ≤ (a2).toInt := q_lo1 h353; have l2 : (a2).toInt ≤ 159 := q_hi2 h356; show (a2).toInt = 159; omega)
              refine q_RP_st1 (g2 := (112, [(0, .ref 87), (1, .ref 65), (2, .int a2), (3, .int a3)], [], (q_kN s c n))) rfl (by rw [h363]; rfl) ?_
              refine q_RP_seg (g2 := (117, [(0, .ref 87), (1, .ref 65), (2, .int a2), (3, .int a3)], [.int 3, .ref 65, .ref 87, .ref 65, .ref 87], (q_kN s c n))) 5 (fun _ _ => rfl) ?_
              refine q_RP_bd fun r249 er249 => ?_
              refine q_RP_call (v := (some (.int r249))) (h2 := (q_kN s c n)) rfl rfl ((dzt_N145_87_65 s c n 3 r249 er249).le (Nat.le_of_ble_eq_true rfl)) ?_
              show q_RP _ _ _ (120, [(0, .ref 87), (1, .ref 65), (2, .int a2), (3, .int a3)], [.int r249, .ref 65, .ref 87], (q_kN s c n)) _ _
              refine q_RP_bd fun r253 er253 => ?_
              refine q_RP_call (v := (some (.int r253))) (h2 := (q_kN s c n)) rfl rfl ((dzt_N159_87_65 s c n r249 r253 er253).le (Nat.le_of_ble_eq_true rfl)) ?_
              show q_RP _ _ _ (123, [(0, .ref 87), (1, .ref 65), (2, .int a2), (3, .int a3)], [.int r253], (q_kN s c n)) _ _
              exact q_RP_ret rfl rfl rfl
def dz_N156_87 (s : q_S) (a1 : Int32) : q_S :=
  cond (decide ((((s.2.1 23 0) ^^^ (((s.2.1 23 0) + a1) + ((s.2.1 23 5) &&& 1))) &&& (a1 ^^^ (((s.2.1 23 0) + a1) + ((s.2.1 23 5) &&& 1)))) &&& 128 = 0)) (q_let (dz_N149_87_f s 64) fun r261 => cond (decide (255 < ((s.2.1 23 0) + a1) + ((s.2.1 23 5) &&& 1))) (q_let (dz_N149_87_t r261 1) fun r262 => q_let (dz_N150_87 r262 ((((s.2.1 23 0) + a1) + ((s.2.1 23 5) &&& 1)) &&& 255)) fun r263 => (q_sI r263.1 23 0 r263.2)) (q_let (dz_N149_87_f r261 1) fun r264 => q_let (dz_N150_87 r264 ((((s.2.1 23 0) + a1) + ((s.2.1 23 5) &&& 1)) &&& 255)) fun r265 => (q_sI r265.1 23 0 r265.2))) (q_let (dz_N149_87_t s 64) fun r266 => cond (decide (255 < ((s.2.1 23 0) + a1) + ((s.2.1 23 5) &&& 1))) (q_let (dz_N149_87_t r266 1) fun r267 => q_let (dz_N150_87 r267 ((((s.2.1 23 0) + a1) + ((s.2.1 23 5) &&& 1)) &&& 255)) fun r268 => (q_sI r268.1 23 0 r268.2)) (q_let (dz_N149_87_f r266 1) fun r269 => q_let (dz_N150_87 r269 ((((s.2.1 23 0) + a1) + ((s.2.1 23 5) &&& 1)) &&& 255)) fun r270 => (q_sI r270.1 23 0 r270.2)))
set_option maxHeartbeats 4000000 in
theorem dzt_N156_87 (s : q_S) (c n : Nat) (a1 : Int32) : q_Ca q_TB0 2 155 [.ref 87, .int a1] (q_kN s c n) ((q_oSN c n) (dz_N156_87 s a1)) := by
  refine q_CaT_of (φ := (q_oSN c n)) (Nat.le_of_ble_eq_true rfl) ?_
  unfold dz_N156_87
  refine q_RT_seg (g2 := (4, [(0, .ref 87), (1, .int a1)], [.int (s.2.1 23 0)], (q_kN s c n))) 2 (fun _ _ => rfl) ?_
  refine q_RT_seg (g2 := (10, [(0, .ref 87), (1, .int a1)], [.int (s.2.1 23 5), .int ((s.2.1 23 0) + a1)], (q_kN s c n))) 4 (fun _ _ => rfl) ?_
  refine q_RT_seg (g2 := (21, [(2, .int (((s.2.1 23 0) + a1) + ((s.2.1 23 5) &&& 1))), (0, .ref 87), (1, .int a1)], [.int (s.2.1 23 0), .int 64, .ref 87], (q_kN s c n))) 8 (fun _ _ => rfl) ?_
  refine q_RT_seg (g2 := (31, [(2, .int (((s.2.1 23 0) + a1) + ((s.2.1 23 5) &&& 1))), (0, .ref 87), (1, .int a1)], [.int ((((s.2.1 23 0) ^^^ (((s.2.1 23 0) + a1) + ((s.2.1 23 5) &&& 1))) &&& (a1 ^^^ (((s.2.1 23 0) + a1) + ((s.2.1 23 5) &&& 1)))) &&& 128), .int 64, .ref 87], (q_kN s c n))) 8 (fun _ _ => rfl) ?_
  cases h374 : decide ((((s.2.1 23 0) ^^^ (((s.2.1 23 0) + a1) + ((s.2.1 23 5) &&& 1))) &&& (a1 ^^^ (((s.2.1 23 0) + a1) + ((s.2.1 23 5) &&& 1)))) &&& 128 = 0) with
  | true =>
    refine q_RT_cT ?_
    refine q_RT_rsT (g2 := (38, [(2, .int (((s.2.1 23 0) + a1) + ((s.2.1 23 5) &&& 1))), (0, .ref 87), (1, .int a1)], [.int 64, .ref 87], (q_kN s c n))) rfl rfl h374 ?_
    refine q_RT_seg (g2 := (39, [(2, .int (((s.2.1 23 0) + a1) + ((s.2.1 23 5) &&& 1))), (0, .ref 87), (1, .int a1)], [.int 0, .int 64, .ref 87], (q_kN s c n))) 1 (fun _ _ => rfl) ?_
    refine q_RT_call (v := none) (h2 := (q_kN (dz_N149_87_f s 64) c n)) rfl rfl ((dzt_N149_87_f s c n 64).le (Nat.le_of_ble_eq_true rfl)) ?_
    generalize dz_N149_87_f s 64 = r261
    refine q_RT_let ?_
    show q_RT _ _ _ (42, [(2, .int (((s.2.1 23 0) + a1) + ((s.2.1 23 5) &&& 1))), (0, .ref 87), (1, .int a1)], [], (q_kN r261 c n)) _ _
    refine q_RT_seg (g2 := (48, [(2, .int (((s.2.1 23 0) + a1) + ((s.2.1 23 5) &&& 1))), (0, .ref 87), (1, .int a1)], [.int 255, .int (((s.2.1 23 0) + a1) + ((s.2.1 23 5) &&& 1)), .int 1, .ref 87], (q_kN r261 c n))) 4 (fun _ _ => rfl) ?_
    cases h375 : decide (255 < ((s.2.1 23 0) + a1) + ((s.2.1 23 5) &&& 1)) with
    | true =>
      refine q_RT_cT ?_
      refine q_RT_rsF (g2 := (51, [(2, .int (((s.2.1 23 0) + a1) + ((s.2.1 23 5) &&& 1))), (0, .ref 87), (1, .int a1)], [.int 1, .ref 87], (q_kN r261 c n))) rfl rfl (q_d_geT h375) ?_
      refine q_RT_seg (g2 := (56, [(2, .int (((s.2.1 23 0) + a1) + ((s.2.1 23 5) &&& 1))), (0, .ref 87), (1, .int a1)], [.int 1, .int 1, .ref 87], (q_kN r261 c n))) 2 (fun _ _ => rfl) ?_
      refine q_RT_call (v := none) (h2 := (q_kN (dz_N149_87_t r261 1) c n)) rfl rfl ((dzt_N149_87_t r261 c n 1).le (Nat.le_of_ble_eq_true rfl)) ?_
      generalize dz_N149_87_t r261 1 = r262
      refine q_RT_let ?_
      show q_RT _ _ _ (59, [(2, .int (((s.2.1 23 0) + a1) + ((s.2.1 23 5) &&& 1))), (0, .ref 87), (1, .int a1)], [], (q_kN r262 c n)) _ _
      refine q_RT_seg (g2 := (66, [(2, .int (((s.2.1 23 0) + a1) + ((s.2.1 23 5) &&& 1))), (0, .ref 87), (1, .int a1)], [.int ((((s.2.1 23 0) + a1) + ((s.2.1 23 5) &&& 1)) &&& 255), .ref 87, .ref 87], (q_kN r262 c n))) 5 (fun _ _ => rfl) ?_
      refine q_RT_call (v := (some (.int (dz_N150_87 r262 ((((s.2.1 23 0) + a1) + ((s.2.1 23 5) &&& 1)) &&& 255)).2))) (h2 := (q_kN (dz_N150_87 r262 ((((s.2.1 23 0) + a1) + ((s.2.1 23 5) &&& 1)) &&& 255)).1 c n)) rfl rfl ((dzt_N150_87 r262 c n ((((s.2.1 23 0) + a1) + ((s.2.1 23 5) &&& 1)) &&& 255)).le (Nat.le_of_ble_eq_true rfl)) ?_
      generalize dz_N150_87 r262 ((((s.2.1 23 0) + a1) + ((s.2.1 23 5) &&& 1)) &&& 255) = r263
      refine q_RT_let ?_
      show q_RT _ _ _ (69, [(2, .int (((s.2.1 23 0) + a1) + ((s.2.1 23 5) &&& 1))), (0, .ref 87), (1, .int a1)], [.int r263.2, .ref 87], (q_kN r263.1 c n)) _ _
      refine q_RT_seg (g2 := (72, [(2, .int (((s.2.1 23 0) + a1) + ((s.2.1 23 5) &&& 1))), (0, .ref 87), (1, .int a1)], [], (q_kN (q_sI r263.1 23 0 r263.2) c n))) 1 (fun _ _ => rfl) ?_
      exact q_RT_ret rfl rfl rfl
    | false =>
      refine q_RT_cF ?_
      refine q_RT_rsT (g2 := (55, [(2, .int (((s.2.1 23 0) + a1) + ((s.2.1 23 5) &&& 1))), (0, .ref 87), (1, .int a1)], [.int 1, .ref 87], (q_kN r261 c n))) rfl rfl (q_d_geF h375) ?_
      refine q_RT_seg (g2 := (56, [(2, .int (((s.2.1 23 0) + a1) + ((s.2.1 23 5) &&& 1))), (0, .ref 87), (1, .int a1)], [.int 0, .int 1, .ref 87], (q_kN r261 c n))) 1 (fun _ _ => rfl) ?_
      refine q_RT_call (v := none) (h2 := (q_kN (dz_N149_87_f r261 1) c n)) rfl rfl ((dzt_N149_87_f r261 c n 1).le (Nat.le_of_ble_eq_true rfl)) ?_
      generalize dz_N149_87_f r261 1 = r264
      refine q_RT_let ?_
      show q_RT _ _ _ (59, [(2, .int (((s.2.1 23 0) + a1) + ((s.2.1 23 5) &&& 1))), (0, .ref 87), (1, .int a1)], [], (q_kN r264 c n)) _ _
      refine q_RT_seg (g2 := (66, [(2, .int (((s.2.1 23 0) + a1) + ((s.2.1 23 5) &&& 1))), (0, .ref 87), (1, .int a1)], [.int ((((s.2.1 23 0) + a1) + ((s.2.1 23 5) &&& 1)) &&& 255), .ref 87, .ref 87], (q_kN r264 c n))) 5 (fun _ _ => rfl) ?_
      refine q_RT_call (v := (some (.int (dz_N150_87 r264 ((((s.2.1 23 0) + a1) + ((s.2.1 23 5) &&& 1)) &&& 255)).2))) (h2 := (q_kN (dz_N150_87 r264 ((((s.2.1 23 0) + a1) + ((s.2.1 23 5) &&& 1)) &&& 255)).1 c n)) rfl rfl ((dzt_N150_87 r264 c n ((((s.2.1 23 0) + a1) + ((s.2.1 23 5) &&& 1)) &&& 255)).le (Nat.le_of_ble_eq_true rfl)) ?_
      generalize dz_N150_87 r264 ((((s.2.1 23 0) + a1) + ((s.2.1 23 5) &&& 1)) &&& 255) = r265
      refine q_RT_let ?_
      show q_RT _ _ _ (69, [(2, .int (((s.2.1 23 0) + a1) + ((s.2.1 23 5) &&& 1))), (0, .ref 87), (1, .int a1)], [.int r265.2, .ref 87], (q_kN r265.1 c n)) _ _
      refine q_RT_seg (g2 := (72, [(2, .int (((s.2.1 23 0) + a1) + ((s.2.1 23 5) &&& 1))), (0, .ref 87), (1, .int a1)], [], (q_kN (q_sI r265.1 23 0 r265.2) c n))) 1 (fun _ _ => rfl) ?_
      exact q_RT_ret rfl rfl rfl
  | false =>
    refine q_RT_cF ?_
    refine q_RT_rsF (g2 := (34, [(2, .int (((s.2.1 23 0) + a1) + ((s.2.1 23 5) &&& 1))), (0, .ref 87), (1, .int a1)], [.int 64, .ref 87], (q_kN s c n))) rfl rfl h374 ?_
    refine q_RT_seg (g2 := (39, [(2, .int (((s.2.1 23 0) + a1) + ((s.2.1 23 5) &&& 1))), (0, .ref 87), (1, .int a1)], [.int 1, .int 64, .ref 87], (q_kN s c n))) 2 (fun _ _ => rfl) ?_
    refine q_RT_call (v := none) (h2 := (q_kN (dz_N149_87_t s 64) c n)) rfl rfl ((dzt_N149_87_t s c n 64).le (Nat.le_of_ble_eq_true rfl)) ?_
    generalize dz_N149_87_t s 64 = r266
    refine q_RT_let ?_
    show q_RT _ _ _ (42, [(2, .int (((s.2.1 23 0) + a1) + ((s.2.1 23 5) &&& 1))), (0, .ref 87), (1, .int a1)], [], (q_kN r266 c n)) _ _
    refine q_RT_seg (g2 := (48, [(2, .int (((s.2.1 23 0) + a1) + ((s.2.1 23 5) &&& 1))), (0, .ref 87), (1, .int a1)], [.int 255, .int (((s.2.1 23 0) + a1) + ((s.2.1 23 5) &&& 1)), .int 1, .ref 87], (q_kN r266 c n))) 4 (fun _ _ => rfl) ?_
    cases h376 : decide (255 < ((s.2.1 23 0) + a1) + ((s.2.1 23 5) &&& 1)) with
    | true =>
      refine q_RT_cT ?_
      refine q_RT_rsF (g2 := (51, [(2, .int (((s.2.1 23 0) + a1) + ((s.2.1 23 5) &&& 1))), (0, .ref 87), (1, .int a1)], [.int 1, .ref 87], (q_kN r266 c n))) rfl rfl (q_d_geT h376) ?_
      refine q_RT_seg (g2 := (56, [(2, .int (((s.2.1 23 0) + a1) + ((s.2.1 23 5) &&& 1))), (0, .ref 87), (1, .int a1)], [.int 1, .int 1, .ref 87], (q_kN r266 c n))) 2 (fun _ _ => rfl) ?_
      refine q_RT_call (v := none) (h2 := (q_kN (dz_N149_87_t r266 1) c n)) rfl rfl ((dzt_N149_87_t r266 c n 1).le (Nat.le_of_ble_eq_true rfl)) ?_
      generalize dz_N149_87_t r266 1 = r267
      refine q_RT_let ?_
      show q_RT _ _ _ (59, [(2, .int (((s.2.1 23 0) + a1) + ((s.2.1 23 5) &&& 1))), (0, .ref 87), (1, .int a1)], [], (q_kN r267 c n)) _ _
      refine q_RT_seg (g2 := (66, [(2, .int (((s.2.1 23 0) + a1) + ((s.2.1 23 5) &&& 1))), (0, .ref 87), (1, .int a1)], [.int ((((s.2.1 23 0) + a1) + ((s.2.1 23 5) &&& 1)) &&& 255), .ref 87, .ref 87], (q_kN r267 c n))) 5 (fun _ _ => rfl) ?_
      refine q_RT_call (v := (some (.int (dz_N150_87 r267 ((((s.2.1 23 0) + a1) + ((s.2.1 23 5) &&& 1)) &&& 255)).2))) (h2 := (q_kN (dz_N150_87 r267 ((((s.2.1 23 0) + a1) + ((s.2.1 23 5) &&& 1)) &&& 255)).1 c n)) rfl rfl ((dzt_N150_87 r267 c n ((((s.2.1 23 0) + a1) + ((s.2.1 23 5) &&& 1)) &&& 255)).le (Nat.le_of_ble_eq_true rfl)) ?_
      generalize dz_N150_87 r267 ((((s.2.1 23 0) + a1) + ((s.2.1 23 5) &&& 1)) &&& 255) = r268
      refine q_RT_let ?_
      show q_RT _ _ _ (69, [(2, .int (((s.2.1 23 0) + a1) + ((s.2.1 23 5) &&& 1))), (0, .ref 87), (1, .int a1)], [.int r268.2, .ref 87], (q_kN r268.1 c n)) _ _
      refine q_RT_seg (g2 := (72, [(2, .int (((s.2.1 23 0) + a1) + ((s.2.1 23 5) &&& 1))), (0, .ref 87), (1, .int a1)], [], (q_kN (q_sI r268.1 23 0 r268.2) c n))) 1 (fun _ _ => rfl) ?_
      exact q_RT_ret rfl rfl rfl
    | false =>
      refine q_RT_cF ?_
      refine q_RT_rsT (g2 := (55, [(2, .int (((s.2.1 23 0) + a1) + ((s.2.1 23 5) &&& 1))), (0, .ref 87), (1, .int a1)], [.int 1, .ref 87], (q_kN r266 c n))) rfl rfl (q_d_geF h376) ?_
      refine q_RT_seg (g2 := (56, [(2, .int (((s.2.1 23 0) + a1) + ((s.2.1 23 5) &&& 1))), (0, .ref 87), (1, .int a1)], [.int 0, .int 1, .ref 87], (q_kN r266 c n))) 1 (fun _ _ => rfl) ?_
      refine q_RT_call (v := none) (h2 := (q_kN (dz_N149_87_f r266 1) c n)) rfl rfl ((dzt_N149_87_f r266 c n 1).le (Nat.le_of_ble_eq_true rfl)) ?_
      generalize dz_N149_87_f r266 1 = r269
      refine q_RT_let ?_
      show q_RT _ _ _ (59, [(2, .int (((s.2.1 23 0) + a1) + ((s.2.1 23 5) &&& 1))), (0, .ref 87), (1, .int a1)], [], (q_kN r269 c n)) _ _
      refine q_RT_seg (g2 := (66, [(2, .int (((s.2.1 23 0) + a1) + ((s.2.1 23 5) &&& 1))), (0, .ref 87), (1, .int a1)], [.int ((((s.2.1 23 0) + a1) + ((s.2.1 23 5) &&& 1)) &&& 255), .ref 87, .ref 87], (q_kN r269 c n))) 5 (fun _ _ => rfl) ?_
      refine q_RT_call (v := (some (.int (dz_N150_87 r269 ((((s.2.1 23 0) + a1) + ((s.2.1 23 5) &&& 1)) &&& 255)).2))) (h2 := (q_kN (dz_N150_87 r269 ((((s.2.1 23 0) + a1) + ((s.2.1 23 5) &&& 1)) &&& 255)).1 c n)) rfl rfl ((dzt_N150_87 r269 c n ((((s.2.1 23 0) + a1) + ((s.2.1 23 5) &&& 1)) &&& 255)).le (Nat.le_of_ble_eq_true rfl)) ?_
      generalize dz_N150_87 r269 ((((s.2.1 23 0) + a1) + ((s.2.1 23 5) &&& 1)) &&& 255) = r270
      refine q_RT_let ?_
      show q_RT _ _ _ (69, [(2, .int (((s.2.1 23 0) + a1) + ((s.2.1 23 5) &&& 1))), (0, .ref 87), (1, .int a1)], [.int r270.2, .ref 87], (q_kN r270.1 c n)) _ _
      refine q_RT_seg (g2 := (72, [(2, .int (((s.2.1 23 0) + a1) + ((s.2.1 23 5) &&& 1))), (0, .ref 87), (1, .int a1)], [], (q_kN (q_sI r270.1 23 0 r270.2) c n))) 1 (fun _ _ => rfl) ?_
      exact q_RT_ret rfl rfl rfl
theorem q_x154 (c n : Nat) (L : q_L) (r : q_S × Int32) : ∀ ex m, q_loop ex (q_mtab q_TB0 153) (m + 1) (107, L, [.int r.2, .ref 87], q_kN r.1 c n) = q_loop ex (q_mtab q_TB0 153) m (110, L, [], q_kN (q_sI r.1 23 0 r.2) c n) := fun _ _ => rfl
def dz_N154_87_64 (s : q_S) (v3 : Int32) (v4 : Int32) : q_S :=
  cond (decide (9 < v4)) (q_let (dz_N149_87_t s 1) fun r272 => q_let (dz_N150_87 r272 (((16 * (v4 + (-10))) + v3) &&& 255)) fun r273 => (q_sI r273.1 23 0 r273.2)) (q_let (dz_N149_87_f s 1) fun r274 => q_let (dz_N150_87 r274 (((16 * v4) + v3) &&& 255)) fun r275 => (q_sI r275.1 23 0 r275.2))
set_option maxHeartbeats 4000000 in
theorem dzt_N154_87_64 (c n : Nat) (s : q_S) (v3 : Int32) (v4 : Int32) : q_RT q_TB0 2 153 (64, [(0, .ref 87), (3, .int v3), (4, .int v4)], [], (q_kN s c n)) (q_oSN c n) (dz_N154_87_64 s v3 v4) := by
  unfold dz_N154_87_64
  refine q_RT_seg (g2 := (70, [(0, .ref 87), (3, .int v3), (4, .int v4)], [.int 9, .int v4, .int 1, .ref 87], (q_kN s c n))) 4 (fun _ _ => rfl) ?_
  cases h379 : decide (9 < v4) with
  | true =>
    refine q_RT_cT ?_
    refine q_RT_rsF (g2 := (73, [(0, .ref 87), (3, .int v3), (4, .int v4)], [.int 1, .ref 87], (q_kN s c n))) rfl rfl (q_d_geT h379) ?_
    refine q_RT_seg (g2 := (78, [(0, .ref 87), (3, .int v3), (4, .int v4)], [.int 1, .int 1, .ref 87], (q_kN s c n))) 2 (fun _ _ => rfl) ?_
    refine q_RT_call (v := none) (h2 := (q_kN (dz_N149_87_t s 1) c n)) rfl rfl ((dzt_N149_87_t s c n 1).le (Nat.le_of_ble_eq_true rfl)) ?_
    generalize dz_N149_87_t s 1 = r272
    refine q_RT_let ?_
    show q_RT _ _ _ (81, [(0, .ref 87), (3, .int v3), (4, .int v4)], [], (q_kN r272 c n)) _ _
    refine q_RT_seg (g2 := (85, [(0, .ref 87), (3, .int v3), (4, .int v4)], [.int 9, .int v4], (q_kN r272 c n))) 2 (fun _ _ => rfl) ?_
    refine q_RT_rsF (g2 := (88, [(0, .ref 87), (3, .int v3), (4, .int v4)], [], (q_kN r272 c n))) rfl rfl (q_d_geT h379) ?_
    refine q_RT_seg (g2 := (104, [(4, .int (v4 + (-10))), (0, .ref 87), (3, .int v3)], [.int (((16 * (v4 + (-10))) + v3) &&& 255), .ref 87, .ref 87], (q_kN r272 c n))) 10 (fun _ _ => rfl) ?_
    refine q_RT_call (v := (some (.int (dz_N150_87 r272 (((16 * (v4 + (-10))) + v3) &&& 255)).2))) (h2 := (q_kN (dz_N150_87 r272 (((16 * (v4 + (-10))) + v3) &&& 255)).1 c n)) rfl rfl ((dzt_N150_87 r272 c n (((16 * (v4 + (-10))) + v3) &&& 255)).le (Nat.le_of_ble_eq_true rfl)) ?_
    generalize dz_N150_87 r272 (((16 * (v4 + (-10))) + v3) &&& 255) = r273
    refine q_RT_let ?_
    show q_RT _ _ _ (107, [(4, .int (v4 + (-10))), (0, .ref 87), (3, .int v3)], [.int r273.2, .ref 87], (q_kN r273.1 c n)) _ _
    refine q_RT_seg 1 (q_x154 c n [(4, .int (v4 + (-10))), (0, .ref 87), (3, .int v3)] r273) ?_
    exact q_RT_ret rfl rfl rfl
  | false =>
    refine q_RT_cF ?_
    refine q_RT_rsT (g2 := (77, [(0, .ref 87), (3, .int v3), (4, .int v4)], [.int 1, .ref 87], (q_kN s c n))) rfl rfl (q_d_geF h379) ?_
    refine q_RT_seg (g2 := (78, [(0, .ref 87), (3, .int v3), (4, .int v4)], [.int 0, .int 1, .ref 87], (q_kN s c n))) 1 (fun _ _ => rfl) ?_
    refine q_RT_call (v := none) (h2 := (q_kN (dz_N149_87_f s 1) c n)) rfl rfl ((dzt_N149_87_f s c n 1).le (Nat.le_of_ble_eq_true rfl)) ?_
    generalize dz_N149_87_f s 1 = r274
    refine q_RT_let ?_
    show q_RT _ _ _ (81, [(0, .ref 87), (3, .int v3), (4, .int v4)], [], (q_kN r274 c n)) _ _
    refine q_RT_seg (g2 := (85, [(0, .ref 87), (3, .int v3), (4, .int v4)], [.int 9, .int v4], (q_kN r274 c n))) 2 (fun _ _ => rfl) ?_
    refine q_RT_rsT (g2 := (91, [(0, .ref 87), (3, .int v3), (4, .int v4)], [], (q_kN r274 c n))) rfl rfl (q_d_geF h379) ?_
    refine q_RT_seg (g2 := (104, [(0, .ref 87), (3, .int v3), (4, .int v4)], [.int (((16 * v4) + v3) &&& 255), .ref 87, .ref 87], (q_kN r274 c n))) 9 (fun _ _ => rfl) ?_
    refine q_RT_call (v := (some (.int (dz_N150_87 r274 (((16 * v4) + v3) &&& 255)).2))) (h2 := (q_kN (dz_N150_87 r274 (((16 * v4) + v3) &&& 255)).1 c n)) rfl rfl ((dzt_N150_87 r274 c n (((16 * v4) + v3) &&& 255)).le (Nat.le_of_ble_eq_true rfl)) ?_
    generalize dz_N150_87 r274 (((16 * v4) + v3) &&& 255) = r275
    refine q_RT_let ?_
    show q_RT _ _ _ (107, [(0, .ref 87), (3, .int v3), (4, .int v4)], [.int r275.2, .ref 87], (q_kN r275.1 c n)) _ _
    refine q_RT_seg (g2 := (110, [(0, .ref 87), (3, .int v3), (4, .int v4)], [], (q_kN (q_sI r275.1 23 0 r275.2) c n))) 1 (fun _ _ => rfl) ?_
    exact q_RT_ret rfl rfl rfl
def dz_N154_87 (s : q_S) (a1 : Int32) : q_S :=
  q_let ((((s.2.1 23 0) - (s.2.1 23 0) / 16 * 16) + (a1 - a1 / 16 * 16)) + ((s.2.1 23 5) &&& 1)) fun x260 => q_let (dz_N156_87 s a1) fun r271 => cond (decide ((r271.2.1 23 5) &&& 8 = 0)) (r271) (cond (decide (9 < x260)) (dz_N154_87_64 r271 (x260 + (-10)) ((((s.2.1 23 0) / 16) + (a1 / 16)) + 1)) (dz_N154_87_64 r271 x260 (((s.2.1 23 0) / 16) + (a1 / 16))))
set_option maxHeartbeats 4000000 in
theorem dzt_N154_87 (s : q_S) (c n : Nat) (a1 : Int32) : q_Ca q_TB0 3 153 [.ref 87, .int a1] (q_kN s c n) ((q_oSN c n) (dz_N154_87 s a1)) := by
  refine q_CaT_of (φ := (q_oSN c n)) (Nat.le_of_ble_eq_true rfl) ?_
  unfold dz_N154_87
  refine q_RT_seg (g2 := (4, [(0, .ref 87), (1, .int a1)], [.int (s.2.1 23 5)], (q_kN s c n))) 2 (fun _ _ => rfl) ?_
  refine q_RT_seg (g2 := (11, [(2, .int ((s.2.1 23 5) &&& 1)), (0, .ref 87), (1, .int a1)], [.int (s.2.1 23 0)], (q_kN s c n))) 5 (fun _ _ => rfl) ?_
  refine q_RT_seg (g2 := (21, [(2, .int ((s.2.1 23 5) &&& 1)), (0, .ref 87), (1, .int a1)], [.int ((((s.2.1 23 0) - (s.2.1 23 0) / 16 * 16) + (a1 - a1 / 16 * 16)) + ((s.2.1 23 5) &&& 1))], (q_kN s c n))) 8 (fun _ _ => rfl) ?_
  generalize ((((s.2.1 23 0) - (s.2.1 23 0) / 16 * 16) + (a1 - a1 / 16 * 16)) + ((s.2.1 23 5) &&& 1)) = x260
  refine q_RT_let ?_
  show q_RT _ _ _ (21, [(2, .int ((s.2.1 23 5) &&& 1)), (0, .ref 87), (1, .int a1)], [.int x260], (q_kN s c n)) _ _
  refine q_RT_seg (g2 := (26, [(3, .int x260), (2, .int ((s.2.1 23 5) &&& 1)), (0, .ref 87), (1, .int a1)], [.int (s.2.1 23 0)], (q_kN s c n))) 3 (fun _ _ => rfl) ?_
  refine q_RT_seg (g2 := (38, [(4, .int (((s.2.1 23 0) / 16) + (a1 / 16))), (3, .int x260), (2, .int ((s.2.1 23 5) &&& 1)), (0, .ref 87), (1, .int a1)], [.int a1, .ref 87], (q_kN s c n))) 9 (fun _ _ => rfl) ?_
  refine q_RT_call (v := none) (h2 := (q_kN (dz_N156_87 s a1) c n)) rfl rfl ((dzt_N156_87 s c n a1).le (Nat.le_of_ble_eq_true rfl)) ?_
  generalize dz_N156_87 s a1 = r271
  refine q_RT_let ?_
  show q_RT _ _ _ (41, [(4, .int (((s.2.1 23 0) / 16) + (a1 / 16))), (3, .int x260), (2, .int ((s.2.1 23 5) &&& 1)), (0, .ref 87), (1, .int a1)], [], (q_kN r271 c n)) _ _
  refine q_RT_seg (g2 := (45, [(4, .int (((s.2.1 23 0) / 16) + (a1 / 16))), (3, .int x260), (2, .int ((s.2.1 23 5) &&& 1)), (0, .ref 87), (1, .int a1)], [.int (r271.2.1 23 5)], (q_kN r271 c n))) 2 (fun _ _ => rfl) ?_
  refine q_RT_seg (g2 := (48, [(4, .int (((s.2.1 23 0) / 16) + (a1 / 16))), (3, .int x260), (2, .int ((s.2.1 23 5) &&& 1)), (0, .ref 87), (1, .int a1)], [.int ((r271.2.1 23 5) &&& 8)], (q_kN r271 c n))) 2 (fun _ _ => rfl) ?_
  cases h377 : decide ((r271.2.1 23 5) &&& 8 = 0) with
  | true =>
    refine q_RT_cT ?_
    refine q_RT_rsF (g2 := (51, [(4, .int (((s.2.1 23 0) / 16) + (a1 / 16))), (3, .int x260), (2, .int ((s.2.1 23 5) &&& 1)), (0, .ref 87), (1, .int a1)], [], (q_kN r271 c n))) rfl rfl (q_d_neT h377) ?_
    exact q_RT_ret rfl rfl rfl
  | false =>
    refine q_RT_cF ?_
    refine q_RT_rsT (g2 := (52, [(4, .int (((s.2.1 23 0) / 16) + (a1 / 16))), (3, .int x260), (2, .int ((s.2.1 23 5) &&& 1)), (0, .ref 87), (1, .int a1)], [], (q_kN r271 c n))) rfl rfl (q_d_neF h377) ?_
    refine q_RT_seg (g2 := (55, [(4, .int (((s.2.1 23 0) / 16) + (a1 / 16))), (3, .int x260), (2, .int ((s.2.1 23 5) &&& 1)), (0, .ref 87), (1, .int a1)], [.int 9, .int x260], (q_kN r271 c n))) 2 (fun _ _ => rfl) ?_
    cases h378 : decide (9 < x260) with
    | true =>
      refine q_RT_cT ?_
      refine q_RT_rsF (g2 := (58, [(4, .int (((s.2.1 23 0) / 16) + (a1 / 16))), (3, .int x260), (2, .int ((s.2.1 23 5) &&& 1)), (0, .ref 87), (1, .int a1)], [], (q_kN r271 c n))) rfl rfl (q_d_geT h378) ?_
      refine q_RT_seg (g2 := (64, [(4, .int ((((s.2.1 23 0) / 16) + (a1 / 16)) + 1)), (3, .int (x260 + (-10))), (2, .int ((s.2.1 23 5) &&& 1)), (0, .ref 87), (1, .int a1)], [], (q_kN r271 c n))) 2 (fun _ _ => rfl) ?_
      exact q_RT_xt (q_xt_mk (q_mn1 3 rfl (q_mn1 1 rfl (q_mn1 0 rfl q_mn0))) rfl) (dzt_N154_87_64 c n r271 (x260 + (-10)) ((((s.2.1 23 0) / 16) + (a1 / 16)) + 1))
    | false =>
      refine q_RT_cF ?_
      refine q_RT_rsT (g2 := (64, [(4, .int (((s.2.1 23 0) / 16) + (a1 / 16))), (3, .int x260), (2, .int ((s.2.1 23 5) &&& 1)), (0, .ref 87), (1, .int a1)], [], (q_kN r271 c n))) rfl rfl (q_d_geF h378) ?_
      exact q_RT_xt (q_xt_mk (q_mn1 3 rfl (q_mn1 1 rfl (q_mn1 0 rfl q_mn0))) rfl) (dzt_N154_87_64 c n r271 x260 (((s.2.1 23 0) / 16) + (a1 / 16)))
def dz_N155_87_68 (s : q_S) (v3 : Int32) (v4 : Int32) : q_S :=
  cond (decide (v4 < 0)) (q_let (dz_N149_87_f s 1) fun r279 => q_let (dz_N150_87 r279 (((16 * (v4 + 10)) + v3) &&& 255)) fun r280 => (q_sI r280.1 23 0 r280.2)) (q_let (dz_N149_87_t s 1) fun r281 => q_let (dz_N150_87 r281 (((16 * v4) + v3) &&& 255)) fun r282 => (q_sI r282.1 23 0 r282.2))
set_option maxHeartbeats 4000000 in
theorem dzt_N155_87_68 (c n : Nat) (s : q_S) (v3 : Int32) (v4 : Int32) : q_RT q_TB0 2 154 (68, [(0, .ref 87), (3, .int v3), (4, .int v4)], [], (q_kN s c n)) (q_oSN c n) (dz_N155_87_68 s v3 v4) := by
  unfold dz_N155_87_68
  refine q_RT_seg (g2 := (72, [(0, .ref 87), (3, .int v3), (4, .int v4)], [.int v4, .int 1, .ref 87], (q_kN s c n))) 3 (fun _ _ => rfl) ?_
  cases h383 : decide (v4 < 0) with
  | true =>
    refine q_RT_cT ?_
    refine q_RT_rsT (g2 := (79, [(0, .ref 87), (3, .int v3), (4, .int v4)], [.int 1, .ref 87], (q_kN s c n))) rfl rfl h383 ?_
    refine q_RT_seg (g2 := (80, [(0, .ref 87), (3, .int v3), (4, .int v4)], [.int 0, .int 1, .ref 87], (q_kN s c n))) 1 (fun _ _ => rfl) ?_
    refine q_RT_call (v := none) (h2 := (q_kN (dz_N149_87_f s 1) c n)) rfl rfl ((dzt_N149_87_f s c n 1).le (Nat.le_of_ble_eq_true rfl)) ?_
    generalize dz_N149_87_f s 1 = r279
    refine q_RT_let ?_
    show q_RT _ _ _ (83, [(0, .ref 87), (3, .int v3), (4, .int v4)], [], (q_kN r279 c n)) _ _
    refine q_RT_seg (g2 := (85, [(0, .ref 87), (3, .int v3), (4, .int v4)], [.int v4], (q_kN r279 c n))) 1 (fun _ _ => rfl) ?_
    refine q_RT_rsF (g2 := (88, [(0, .ref 87), (3, .int v3), (4, .int v4)], [], (q_kN r279 c n))) rfl rfl (q_d_geT h383) ?_
    refine q_RT_seg (g2 := (104, [(4, .int (v4 + 10)), (0, .ref 87), (3, .int v3)], [.int (((16 * (v4 + 10)) + v3) &&& 255), .ref 87, .ref 87], (q_kN r279 c n))) 10 (fun _ _ => rfl) ?_
    refine q_RT_call (v := (some (.int (dz_N150_87 r279 (((16 * (v4 + 10)) + v3) &&& 255)).2))) (h2 := (q_kN (dz_N150_87 r279 (((16 * (v4 + 10)) + v3) &&& 255)).1 c n)) rfl rfl ((dzt_N150_87 r279 c n (((16 * (v4 + 10)) + v3) &&& 255)).le (Nat.le_of_ble_eq_true rfl)) ?_
    generalize dz_N150_87 r279 (((16 * (v4 + 10)) + v3) &&& 255) = r280
    refine q_RT_let ?_
    show q_RT _ _ _ (107, [(4, .int (v4 + 10)), (0, .ref 87), (3, .int v3)], [.int r280.2, .ref 87], (q_kN r280.1 c n)) _ _
    refine q_RT_seg (g2 := (110, [(4, .int (v4 + 10)), (0, .ref 87), (3, .int v3)], [], (q_kN (q_sI r280.1 23 0 r280.2) c n))) 1 (fun _ _ => rfl) ?_
    exact q_RT_ret rfl rfl rfl
  | false =>
    refine q_RT_cF ?_
    refine q_RT_rsF (g2 := (75, [(0, .ref 87), (3, .int v3), (4, .int v4)], [.int 1, .ref 87], (q_kN s c n))) rfl rfl h383 ?_
    refine q_RT_seg (g2 := (80, [(0, .ref 87), (3, .int v3), (4, .int v4)], [.int 1, .int 1, .ref 87], (q_kN s c n))) 2 (fun _ _ => rfl) ?_
    refine q_RT_call (v := none) (h2 := (q_kN (dz_N149_87_t s 1) c n)) rfl rfl ((dzt_N149_87_t s c n 1).le (Nat.le_of_ble_eq_true rfl)) ?_
    generalize dz_N149_87_t s 1 = r281
    refine q_RT_let ?_
    show q_RT _ _ _ (83, [(0, .ref 87), (3, .int v3), (4, .int v4)], [], (q_kN r281 c n)) _ _
    refine q_RT_seg (g2 := (85, [(0, .ref 87), (3, .int v3), (4, .int v4)], [.int v4], (q_kN r281 c n))) 1 (fun _ _ => rfl) ?_
    refine q_RT_rsT (g2 := (91, [(0, .ref 87), (3, .int v3), (4, .int v4)], [], (q_kN r281 c n))) rfl rfl (q_d_geF h383) ?_
    refine q_RT_seg (g2 := (104, [(0, .ref 87), (3, .int v3), (4, .int v4)], [.int (((16 * v4) + v3) &&& 255), .ref 87, .ref 87], (q_kN r281 c n))) 9 (fun _ _ => rfl) ?_
    refine q_RT_call (v := (some (.int (dz_N150_87 r281 (((16 * v4) + v3) &&& 255)).2))) (h2 := (q_kN (dz_N150_87 r281 (((16 * v4) + v3) &&& 255)).1 c n)) rfl rfl ((dzt_N150_87 r281 c n (((16 * v4) + v3) &&& 255)).le (Nat.le_of_ble_eq_true rfl)) ?_
    generalize dz_N150_87 r281 (((16 * v4) + v3) &&& 255) = r282
    refine q_RT_let ?_
    show q_RT _ _ _ (107, [(0, .ref 87), (3, .int v3), (4, .int v4)], [.int r282.2, .ref 87], (q_kN r282.1 c n)) _ _
    refine q_RT_seg (g2 := (110, [(0, .ref 87), (3, .int v3), (4, .int v4)], [], (q_kN (q_sI r282.1 23 0 r282.2) c n))) 1 (fun _ _ => rfl) ?_
    exact q_RT_ret rfl rfl rfl
def dz_N155_87 (s : q_S) (a1 : Int32) : q_S :=
  q_let (((((s.2.1 23 0) - (s.2.1 23 0) / 16 * 16) - (a1 - a1 / 16 * 16)) - 1) + ((s.2.1 23 5) &&& 1)) fun x277 => q_let (dz_N156_87 s ((255 : Int32) - a1)) fun r278 => cond (decide ((r278.2.1 23 5) &&& 8 = 0)) (r278) (cond (decide (x277 < 0)) (dz_N155_87_68 r278 (x277 + 10) ((((s.2.1 23 0) / 16) - (a1 / 16)) + (-1))) (dz_N155_87_68 r278 x277 (((s.2.1 23 0) / 16) - (a1 / 16))))
set_option maxHeartbeats 4000000 in
theorem dzt_N155_87 (s : q_S) (c n : Nat) (a1 : Int32) : q_Ca q_TB0 3 154 [.ref 87, .int a1] (q_kN s c n) ((q_oSN c n) (dz_N155_87 s a1)) := by
  refine q_CaT_of (φ := (q_oSN c n)) (Nat.le_of_ble_eq_true rfl) ?_
  unfold dz_N155_87
  refine q_RT_seg (g2 := (4, [(0, .ref 87), (1, .int a1)], [.int (s.2.1 23 5)], (q_kN s c n))) 2 (fun _ _ => rfl) ?_
  refine q_RT_seg (g2 := (11, [(2, .int ((s.2.1 23 5) &&& 1)), (0, .ref 87), (1, .int a1)], [.int (s.2.1 23 0)], (q_kN s c n))) 5 (fun _ _ => rfl) ?_
  refine q_RT_seg (g2 := (23, [(2, .int ((s.2.1 23 5) &&& 1)), (0, .ref 87), (1, .int a1)], [.int (((((s.2.1 23 0) - (s.2.1 23 0) / 16 * 16) - (a1 - a1 / 16 * 16)) - 1) + ((s.2.1 23 5) &&& 1))], (q_kN s c n))) 10 (fun _ _ => rfl) ?_
  generalize (((((s.2.1 23 0) - (s.2.1 23 0) / 16 * 16) - (a1 - a1 / 16 * 16)) - 1) + ((s.2.1 23 5) &&& 1)) = x277
  refine q_RT_let ?_
  show q_RT _ _ _ (23, [(2, .int ((s.2.1 23 5) &&& 1)), (0, .ref 87), (1, .int a1)], [.int x277], (q_kN s c n)) _ _
  refine q_RT_seg (g2 := (28, [(3, .int x277), (2, .int ((s.2.1 23 5) &&& 1)), (0, .ref 87), (1, .int a1)], [.int (s.2.1 23 0)], (q_kN s c n))) 3 (fun _ _ => rfl) ?_
  refine q_RT_seg (g2 := (44, [(4, .int (((s.2.1 23 0) / 16) - (a1 / 16))), (3, .int x277), (2, .int ((s.2.1 23 5) &&& 1)), (0, .ref 87), (1, .int a1)], [.int ((255 : Int32) - a1), .ref 87], (q_kN s c n))) 11 (fun _ _ => rfl) ?_
  refine q_RT_call (v := none) (h2 := (q_kN (dz_N156_87 s ((255 : Int32) - a1)) c n)) rfl rfl ((dzt_N156_87 s c n ((255 : Int32) - a1)).le (Nat.le_of_ble_eq_true rfl)) ?_
  generalize dz_N156_87 s ((255 : Int32) - a1) = r278
  refine q_RT_let ?_
  show q_RT _ _ _ (47, [(4, .int (((s.2.1 23 0) / 16) - (a1 / 16))), (3, .int x277), (2, .int ((s.2.1 23 5) &&& 1)), (0, .ref 87), (1, .int a1)], [], (q_kN r278 c n)) _ _
  refine q_RT_seg (g2 := (51, [(4, .int (((s.2.1 23 0) / 16) - (a1 / 16))), (3, .int x277), (2, .int ((s.2.1 23 5) &&& 1)), (0, .ref 87), (1, .int a1)], [.int (r278.2.1 23 5)], (q_kN r278 c n))) 2 (fun _ _ => rfl) ?_
  refine q_RT_seg (g2 := (54, [(4, .int (((s.2.1 23 0) / 16) - (a1 / 16))), (3, .int x277), (2, .int ((s.2.1 23 5) &&& 1)), (0, .ref 87), (1, .int a1)], [.int ((r278.2.1 23 5) &&& 8)], (q_kN r278 c n))) 2 (fun _ _ => rfl) ?_
  cases h381 : decide ((r278.2.1 23 5) &&& 8 = 0) with
  | true =>
    refine q_RT_cT ?_
    refine q_RT_rsF (g2 := (57, [(4, .int (((s.2.1 23 0) / 16) - (a1 / 16))), (3, .int x277), (2, .int ((s.2.1 23 5) &&& 1)), (0, .ref 87), (1, .int a1)], [], (q_kN r278 c n))) rfl rfl (q_d_neT h381) ?_
    exact q_RT_ret rfl rfl rfl
  | false =>
    refine q_RT_cF ?_
    refine q_RT_rsT (g2 := (58, [(4, .int (((s.2.1 23 0) / 16) - (a1 / 16))), (3, .int x277), (2, .int ((s.2.1 23 5) &&& 1)), (0, .ref 87), (1, .int a1)], [], (q_kN r278 c n))) rfl rfl (q_d_neF h381) ?_
    refine q_RT_seg (g2 := (59, [(4, .int (((s.2.1 23 0) / 16) - (a1 / 16))), (3, .int x277), (2, .int ((s.2.1 23 5) &&& 1)), (0, .ref 87), (1, .int a1)], [.int x277], (q_kN r278 c n))) 1 (fun _ _ => rfl) ?_
    cases h382 : decide (x277 < 0) with
    | true =>
      refine q_RT_cT ?_
      refine q_RT_rsF (g2 := (62, [(4, .int (((s.2.1 23 0) / 16) - (a1 / 16))), (3, .int x277), (2, .int ((s.2.1 23 5) &&& 1)), (0, .ref 87), (1, .int a1)], [], (q_kN r278 c n))) rfl rfl (q_d_geT h382) ?_
      refine q_RT_seg (g2 := (68, [(4, .int ((((s.2.1 23 0) / 16) - (a1 / 16)) + (-1))), (3, .int (x277 + 10)), (2, .int ((s.2.1 23 5) &&& 1)), (0, .ref 87), (1, .int a1)], [], (q_kN r278 c n))) 2 (fun _ _ => rfl) ?_
      exact q_RT_xt (q_xt_mk (q_mn1 3 rfl (q_mn1 1 rfl (q_mn1 0 rfl q_mn0))) rfl) (dzt_N155_87_68 c n r278 (x277 + 10) ((((s.2.1 23 0) / 16) - (a1 / 16)) + (-1)))
    | false =>
      refine q_RT_cF ?_
      refine q_RT_rsT (g2 := (68, [(4, .int (((s.2.1 23 0) / 16) - (a1 / 16))), (3, .int x277), (2, .int ((s.2.1 23 5) &&& 1)), (0, .ref 87), (1, .int a1)], [], (q_kN r278 c n))) rfl rfl (q_d_geF h382) ?_
      exact q_RT_xt (q_xt_mk (q_mn1 3 rfl (q_mn1 1 rfl (q_mn1 0 rfl q_mn0))) rfl) (dzt_N155_87_68 c n r278 x277 (((s.2.1 23 0) / 16) - (a1 / 16)))
def dz_N151_87 (s : q_S) (a1 : Int32) (a2 : Int32) : q_S :=
  cond (decide (a1 < a2)) (q_let (dz_N149_87_f s 1) fun r287 => q_let (dz_N150_87 r287 ((a1 - a2) &&& 255)) fun r288 => r288.1) (q_let (dz_N149_87_t s 1) fun r289 => q_let (dz_N150_87 r289 ((a1 - a2) &&& 255)) fun r290 => r290.1)
set_option maxHeartbeats 4000000 in
theorem dzt_N151_87 (s : q_S) (c n : Nat) (a1 : Int32) (a2 : Int32) : q_Ca q_TB0 2 150 [.ref 87, .int a1, .int a2] (q_kN s c n) ((q_oSN c n) (dz_N151_87 s a1 a2)) := by
  refine q_CaT_of (φ := (q_oSN c n)) (Nat.le_of_ble_eq_true rfl) ?_
  unfold dz_N151_87
  refine q_RT_seg (g2 := (4, [(0, .ref 87), (1, .int a1), (2, .int a2)], [.int a2, .int a1, .int 1, .ref 87], (q_kN s c n))) 4 (fun _ _ => rfl) ?_
  cases h388 : decide (a1 < a2) with
  | true =>
    refine q_RT_cT ?_
    refine q_RT_rsT (g2 := (11, [(0, .ref 87), (1, .int a1), (2, .int a2)], [.int 1, .ref 87], (q_kN s c n))) rfl rfl h388 ?_
    refine q_RT_seg (g2 := (12, [(0, .ref 87), (1, .int a1), (2, .int a2)], [.int 0, .int 1, .ref 87], (q_kN s c n))) 1 (fun _ _ => rfl) ?_
    refine q_RT_call (v := none) (h2 := (q_kN (dz_N149_87_f s 1) c n)) rfl rfl ((dzt_N149_87_f s c n 1).le (Nat.le_of_ble_eq_true rfl)) ?_
    generalize dz_N149_87_f s 1 = r287
    refine q_RT_let ?_
    show q_RT _ _ _ (15, [(0, .ref 87), (1, .int a1), (2, .int a2)], [], (q_kN r287 c n)) _ _
    refine q_RT_seg (g2 := (23, [(0, .ref 87), (1, .int a1), (2, .int a2)], [.int ((a1 - a2) &&& 255), .ref 87], (q_kN r287 c n))) 6 (fun _ _ => rfl) ?_
    refine q_RT_call (v := (some (.int (dz_N150_87 r287 ((a1 - a2) &&& 255)).2))) (h2 := (q_kN (dz_N150_87 r287 ((a1 - a2) &&& 255)).1 c n)) rfl rfl ((dzt_N150_87 r287 c n ((a1 - a2) &&& 255)).le (Nat.le_of_ble_eq_true rfl)) ?_
    generalize dz_N150_87 r287 ((a1 - a2) &&& 255) = r288
    refine q_RT_let ?_
    show q_RT _ _ _ (26, [(0, .ref 87), (1, .int a1), (2, .int a2)], [.int r288.2], (q_kN r288.1 c n)) _ _
    refine q_RT_seg (g2 := (27, [(0, .ref 87), (1, .int a1), (2, .int a2)], [], (q_kN r288.1 c n))) 1 (fun _ _ => rfl) ?_
    exact q_RT_ret rfl rfl rfl
  | false =>
    refine q_RT_cF ?_
    refine q_RT_rsF (g2 := (7, [(0, .ref 87), (1, .int a1), (2, .int a2)], [.int 1, .ref 87], (q_kN s c n))) rfl rfl h388 ?_
    refine q_RT_seg (g2 := (12, [(0, .ref 87), (1, .int a1), (2, .int a2)], [.int 1, .int 1, .ref 87], (q_kN s c n))) 2 (fun _ _ => rfl) ?_
    refine q_RT_call (v := none) (h2 := (q_kN (dz_N149_87_t s 1) c n)) rfl rfl ((dzt_N149_87_t s c n 1).le (Nat.le_of_ble_eq_true rfl)) ?_
    generalize dz_N149_87_t s 1 = r289
    refine q_RT_let ?_
    show q_RT _ _ _ (15, [(0, .ref 87), (1, .int a1), (2, .int a2)], [], (q_kN r289 c n)) _ _
    refine q_RT_seg (g2 := (23, [(0, .ref 87), (1, .int a1), (2, .int a2)], [.int ((a1 - a2) &&& 255), .ref 87], (q_kN r289 c n))) 6 (fun _ _ => rfl) ?_
    refine q_RT_call (v := (some (.int (dz_N150_87 r289 ((a1 - a2) &&& 255)).2))) (h2 := (q_kN (dz_N150_87 r289 ((a1 - a2) &&& 255)).1 c n)) rfl rfl ((dzt_N150_87 r289 c n ((a1 - a2) &&& 255)).le (Nat.le_of_ble_eq_true rfl)) ?_
    generalize dz_N150_87 r289 ((a1 - a2) &&& 255) = r290
    refine q_RT_let ?_
    show q_RT _ _ _ (26, [(0, .ref 87), (1, .int a1), (2, .int a2)], [.int r290.2], (q_kN r290.1 c n)) _ _
    refine q_RT_seg (g2 := (27, [(0, .ref 87), (1, .int a1), (2, .int a2)], [], (q_kN r290.1 c n))) 1 (fun _ _ => rfl) ?_
    exact q_RT_ret rfl rfl rfl
