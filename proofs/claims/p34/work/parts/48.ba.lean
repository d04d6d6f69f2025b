def dz_B332_64 (s : q_S) (a1 : Int32) : Option (q_S) :=
  cond (decide (0 < a1 - 16)) (none) (some s)
set_option maxHeartbeats 4000000 in
theorem dzt_B332_64 (z L : Nat) (xs : Nat → Int32) (s : q_S) (c n : Nat) (a1 : Int32) (x : q_S) (h : dz_B332_64 s a1 = some x) : q_Ca (q_TBs z L xs) 1 332 [.ref 64, .int a1] (q_kB s c n) ((q_oSB c n) x) := by
  refine q_CaP_of (φ := (q_oSB c n)) (Nat.le_of_ble_eq_true rfl) ?_ h
  clear h
  unfold dz_B332_64
  refine q_RP_seg (g2 := (9, [(0, .ref 64), (1, .int a1)], [.int 0, .int 16], (q_kB s c n))) 5 (fun _ _ => rfl) ?_
  refine q_RP_seg (g2 := (14, [(2, .int 16), (0, .ref 64), (1, .int a1)], [.int (a1 - 16)], (q_kB s c n))) 5 (fun _ _ => rfl) ?_
  cases h615 : decide (0 < a1 - 16) with
  | true =>
    refine q_RP_cT ?_
    refine q_RP_rsF (g2 := (17, [(2, .int 16), (0, .ref 64), (1, .int a1)], [], (q_kB s c n))) rfl rfl (q_d_geT h615) ?_
    exact q_RP_no
  | false =>
    refine q_RP_cF ?_
    refine q_RP_rsT (g2 := (38, [(2, .int 16), (0, .ref 64), (1, .int a1)], [], (q_kB s c n))) rfl rfl (q_d_geF h615) ?_
    exact q_RP_ret rfl rfl rfl
def dz_B341_64 (s : q_S) : Bool :=
  true
set_option maxHeartbeats 4000000 in
theorem dzt_B341_64 (z L : Nat) (xs : Nat → Int32) (s : q_S) (c n : Nat) : q_Ca (q_TBs z L xs) 1 341 [.ref 64] (q_kB s c n) ((q_oB (q_kB s c n)) (dz_B341_64 s)) := by
  refine q_CaT_of (φ := (q_oB (q_kB s c n))) (Nat.le_of_ble_eq_true rfl) ?_
  unfold dz_B341_64
  refine q_RT_seg (g2 := (10, [(0, .ref 64)], [.int 0], (q_kB s c n))) 4 (fun _ _ => rfl) ?_
  refine q_RT_seg (g2 := (18, [(0, .ref 64)], [.int 1], (q_kB s c n))) 3 (fun _ _ => rfl) ?_
  exact q_RT_ret rfl rfl rfl
def dz_B335_64 (s : q_S) (a1 : Int32) : Option (q_S) :=
  cond (decide (a1 < 0)) (none) ((dz_B332_64 s a1).bind fun r432 => cond (decide (r432.2.1 0 3 < a1)) (q_let (dz_B341_64 r432) fun r433 => cond r433 (none) (none)) (cond (decide (a1 < r432.2.1 0 3)) (some (q_sI (q_sI r432 0 2 1) 0 3 a1)) (some (q_sI r432 0 3 a1))))
set_option maxHeartbeats 4000000 in
theorem dzt_B335_64 (z L : Nat) (xs : Nat → Int32) (s : q_S) (c n : Nat) (a1 : Int32) (x : q_S) (h : dz_B335_64 s a1 = some x) : q_Ca (q_TBs z L xs) 2 335 [.ref 64, .int a1] (q_kB s c n) ((q_oSB c n) x) := by
  refine q_CaP_of (φ := (q_oSB c n)) (Nat.le_of_ble_eq_true rfl) ?_ h
  clear h
  unfold dz_B335_64
  refine q_RP_seg (g2 := (1, [(0, .ref 64), (1, .int a1)], [.int a1], (q_kB s c n))) 1 (fun _ _ => rfl) ?_
  cases h613 : decide (a1 < 0) with
  | true =>
    refine q_RP_cT ?_
    refine q_RP_rsF (g2 := (4, [(0, .ref 64), (1, .int a1)], [], (q_kB s c n))) rfl rfl (q_d_geT h613) ?_
    exact q_RP_no
  | false =>
    refine q_RP_cF ?_
    refine q_RP_rsT (g2 := (13, [(0, .ref 64), (1, .int a1)], [], (q_kB s c n))) rfl rfl (q_d_geF h613) ?_
    refine q_RP_seg (g2 := (15, [(0, .ref 64), (1, .int a1)], [.int a1, .ref 64], (q_kB s c n))) 2 (fun _ _ => rfl) ?_
    refine q_RP_bd fun r432 er432 => ?_
    refine q_RP_call (v := none) (h2 := (q_kB r432 c n)) rfl rfl ((dzt_B332_64 z L xs s c n a1 r432 er432).le (Nat.le_of_ble_eq_true rfl)) ?_
    show q_RP _ _ _ (18, [(0, .ref 64), (1, .int a1)], [], (q_kB r432 c n)) _ _
    refine q_RP_seg (g2 := (22, [(0, .ref 64), (1, .int a1)], [.int (r432.2.1 0 3)], (q_kB r432 c n))) 2 (fun _ _ => rfl) ?_
    refine q_RP_seg (g2 := (23, [(0, .ref 64), (1, .int a1)], [.int a1, .int (r432.2.1 0 3)], (q_kB r432 c n))) 1 (fun _ _ => rfl) ?_
    cases h616 : decide (r432.2.1 0 3 < a1) with
    | true =>
      refine q_RP_cT ?_
      refine q_RP_rsF (g2 := (26, [(0, .ref 64), (1, .int a1)], [], (q_kB r432 c n))) rfl rfl (q_d_geT h616) ?_
      refine q_RP_seg (g2 := (27, [(0, .ref 64), (1, .int a1)], [.ref 64], (q_kB r432 c n))) 1 (fun _ _ => rfl) ?_
      refine q_RP_call (v := (some (.int (q_b (dz_B341_64 r432))))) (h2 := (q_kB r432 c n)) rfl rfl ((dzt_B341_64 z L xs r432 c n).le (Nat.le_of_ble_eq_true rfl)) ?_
      generalize dz_B341_64 r432 = r433
      refine q_RP_let ?_
      show q_RP _ _ _ (30, [(0, .ref 64), (1, .int a1)], [.int (q_b r433)], (q_kB r432 c n)) _ _
      cases h617 : r433 with
      | true =>
        refine q_RP_cT ?_
        show q_RP _ _ _ (30, [(0, .ref 64), (1, .int a1)], [.int 1], (q_kB r432 c n)) _ _
        refine q_RP_seg (g2 := (41, [(0, .ref 64), (1, .int a1)], [.int (r432.2.1 0 3), .ref 65], (q_kB r432 c n))) 5 (fun _ _ => rfl) ?_
        exact q_RP_no
      | false =>
        refine q_RP_cF ?_
        show q_RP _ _ _ (30, [(0, .ref 64), (1, .int a1)], [.int 0], (q_kB r432 c n)) _ _
        refine q_RP_seg (g2 := (56, [(0, .ref 64), (1, .int a1)], [.int (r432.2.1 0 3), .ref 65], (q_kB r432 c n))) 5 (fun _ _ => rfl) ?_
        exact q_RP_no
    | false =>
      refine q_RP_cF ?_
      refine q_RP_rsT (g2 := (63, [(0, .ref 64), (1, .int a1)], [], (q_kB r432 c n))) rfl rfl (q_d_geF h616) ?_
      refine q_RP_seg (g2 := (67, [(0, .ref 64), (1, .int a1)], [.int (r432.2.1 0 3)], (q_kB r432 c n))) 2 (fun _ _ => rfl) ?_
      refine q_RP_seg (g2 := (68, [(0, .ref 64), (1, .int a1)], [.int a1, .int (r432.2.1 0 3)], (q_kB r432 c n))) 1 (fun _ _ => rfl) ?_
      cases h618 : decide (a1 < r432.2.1 0 3) with
      | true =>
        refine q_RP_cT ?_
        refine q_RP_rsF (g2 := (71, [(0, .ref 64), (1, .int a1)], [], (q_kB r432 c n))) rfl rfl (q_d_geT h618) ?_
        refine q_RP_seg (g2 := (81, [(0, .ref 64), (1, .int a1)], [], (q_kB (q_sI (q_sI r432 0 2 1) 0 3 a1) c n))) 6 (fun _ _ => rfl) ?_
        exact q_RP_ret rfl rfl rfl
      | false =>
        refine q_RP_cF ?_
        refine q_RP_rsT (g2 := (76, [(0, .ref 64), (1, .int a1)], [], (q_kB r432 c n))) rfl rfl (q_d_geF h618) ?_
        refine q_RP_seg (g2 := (81, [(0, .ref 64), (1, .int a1)], [], (q_kB (q_sI r432 0 3 a1) c n))) 3 (fun _ _ => rfl) ?_
        exact q_RP_ret rfl rfl rfl
def dz_B328_64 (s : q_S) (a1 : Int32) : Option (q_S) :=
  (dz_B335_64 s a1).bind fun r435 => some r435
set_option maxHeartbeats 4000000 in
theorem dzt_B328_64 (z L : Nat) (xs : Nat → Int32) (s : q_S) (c n : Nat) (a1 : Int32) (x : q_S) (h : dz_B328_64 s a1 = some x) : q_Ca (q_TBs z L xs) 3 328 [.ref 64, .int a1] (q_kB s c n) ((q_oSB c n) x) := by
  refine q_CaP_of (φ := (q_oSB c n)) (Nat.le_of_ble_eq_true rfl) ?_ h
  clear h
  unfold dz_B328_64
  refine q_RP_seg (g2 := (2, [(0, .ref 64), (1, .int a1)], [.int a1, .ref 64], (q_kB s c n))) 2 (fun _ _ => rfl) ?_
  refine q_RP_bd fun r435 er435 => ?_
  refine q_RP_call (v := none) (h2 := (q_kB r435 c n)) rfl rfl ((dzt_B335_64 z L xs s c n a1 r435 er435).le (Nat.le_of_ble_eq_true rfl)) ?_
  show q_RP _ _ _ (5, [(0, .ref 64), (1, .int a1)], [], (q_kB r435 c n)) _ _
  exact q_RP_ret rfl rfl rfl
def dz_B320_65_22 (m : Nat) : q_S → Int32 → Int32 → Int32 → Option (q_S × Int32) := Nat.rec (motive := fun _ => q_S → Int32 → Int32 → Int32 → Option (q_S × Int32)) (fun _ _ _ _ => none) (fun _ k22 s v0 v5 v6 =>
  cond (decide ((-100) < v0)) (cond (q_in (-v0) 100) (cond (q_in (v5 + (-1)) 16) (cond (decide (v0 < (-9))) (cond (q_in ((v5 + (-1)) + (-1)) 16) (q_let ((q_sA s 1 (upd (s.1 1) ((v5 + (-1)).toNatClampNeg) (vp_nar .byte ((fun j => q_o6.getD j 0) ((-v0).toNatClampNeg)))))) fun r440 => cond (decide (v6 = 0)) (some ((q_sA r440 1 (upd (r440.1 1) (((v5 + (-1)) + (-1)).toNatClampNeg) (vp_nar .byte ((fun j => q_o7.getD j 0) ((-v0).toNatClampNeg))))), ((v5 + (-1)) + (-1)))) (cond (q_in (((v5 + (-1)) + (-1)) + (-1)) 16) (q_let ((q_sA r440 1 (upd (r440.1 1) (((v5 + (-1)) + (-1)).toNatClampNeg) (vp_nar .byte ((fun j => q_o7.getD j 0) ((-v0).toNatClampNeg)))))) fun r441 => some ((q_sA r441 1 (upd (r441.1 1) ((((v5 + (-1)) + (-1)) + (-1)).toNatClampNeg) (vp_nar .byte 45))), (((v5 + (-1)) + (-1)) + (-1)))) none)) none) (cond (decide (v6 = 0)) (some ((q_sA s 1 (upd (s.1 1) ((v5 + (-1)).toNatClampNeg) (vp_nar .byte ((fun j => q_o6.getD j 0) ((-v0).toNatClampNeg))))), (v5 + (-1)))) (cond (q_in ((v5 + (-1)) + (-1)) 16) (q_let ((q_sA s 1 (upd (s.1 1) ((v5 + (-1)).toNatClampNeg) (vp_nar .byte ((fun j => q_o6.getD j 0) ((-v0).toNatClampNeg)))))) fun r442 => some ((q_sA r442 1 (upd (r442.1 1) (((v5 + (-1)) + (-1)).toNatClampNeg) (vp_nar .byte 45))), ((v5 + (-1)) + (-1)))) none))) none) none) (q_let (((v0 / 100) * 100) - v0) fun x443 => cond (q_in x443 100) (cond (q_in (v5 + (-1)) 16) (cond (q_in ((v5 + (-1)) + (-1)) 16) (q_let ((q_sA s 1 (upd (s.1 1) ((v5 + (-1)).toNatClampNeg) (vp_nar .byte ((fun j => q_o6.getD j 0) (x443.toNatClampNeg)))))) fun r444 => k22 (q_sA r444 1 (upd (r444.1 1) (((v5 + (-1)) + (-1)).toNatClampNeg) (vp_nar .byte ((fun j => q_o7.getD j 0) (x443.toNatClampNeg))))) (v0 / 100) ((v5 + (-1)) + (-1)) v6) none) none) none)) m
theorem dzs_B320_65_22 (m : Nat) (s : q_S) (v0 : Int32) (v5 : Int32) (v6 : Int32) : dz_B320_65_22 (m + 1) s v0 v5 v6 = (fun k22 : q_S → Int32 → Int32 → Int32 → Option (q_S × Int32) =>
  cond (decide ((-100) < v0)) (cond (q_in (-v0) 100) (cond (q_in (v5 + (-1)) 16) (cond (decide (v0 < (-9))) (cond (q_in ((v5 + (-1)) + (-1)) 16) (q_let ((q_sA s 1 (upd (s.1 1) ((v5 + (-1)).toNatClampNeg) (vp_nar .byte ((fun j => q_o6.getD j 0) ((-v0).toNatClampNeg)))))) fun r440 => cond (decide (v6 = 0)) (some ((q_sA r440 1 (upd (r440.1 1) (((v5 + (-1)) + (-1)).toNatClampNeg) (vp_nar .byte ((fun j => q_o7.getD j 0) ((-v0).toNatClampNeg))))), ((v5 + (-1)) + (-1)))) (cond (q_in (((v5 + (-1)) + (-1)) + (-1)) 16) (q_let ((q_sA r440 1 (upd (r440.1 1) (((v5 + (-1)) + (-1)).toNatClampNeg) (vp_nar .byte ((fun j => q_o7.getD j 0) ((-v0).toNatClampNeg)))))) fun r441 => some ((q_sA r441 1 (upd (r441.1 1) ((((v5 + (-1)) + (-1)) + (-1)).toNatClampNeg) (vp_nar .byte 45))), (((v5 + (-1)) + (-1)) + (-1)))) none)) none) (cond (decide (v6 = 0)) (some ((q_sA s 1 (upd (s.1 1) ((v5 + (-1)).toNatClampNeg) (vp_nar .byte ((fun j => q_o6.getD j 0) ((-v0).toNatClampNeg))))), (v5 + (-1)))) (cond (q_in ((v5 + (-1)) + (-1)) 16) (q_let ((q_sA s 1 (upd (s.1 1) ((v5 + (-1)).toNatClampNeg) (vp_nar .byte ((fun j => q_o6.getD j 0) ((-v0).toNatClampNeg)))))) fun r442 => some ((q_sA r442 1 (upd (r442.1 1) (((v5 + (-1)) + (-1)).toNatClampNeg) (vp_nar .byte 45))), ((v5 + (-1)) + (-1)))) none))) none) none) (q_let (((v0 / 100) * 100) - v0) fun x443 => cond (q_in x443 100) (cond (q_in (v5 + (-1)) 16) (cond (q_in ((v5 + (-1)) + (-1)) 16) (q_let ((q_sA s 1 (upd (s.1 1) ((v5 + (-1)).toNatClampNeg) (vp_nar .byte ((fun j => q_o6.getD j 0) (x443.toNatClampNeg)))))) fun r444 => k22 (q_sA r444 1 (upd (r444.1 1) (((v5 + (-1)) + (-1)).toNatClampNeg) (vp_nar .byte ((fun j => q_o7.getD j 0) (x443.toNatClampNeg))))) (v0 / 100) ((v5 + (-1)) + (-1)) v6) none) none) none)) (dz_B320_65_22 m) := rfl
set_option maxHeartbeats 4000000 in
theorem dzt_B320_65_22 (z L : Nat) (xs : Nat → Int32) (c n : Nat) : ∀ (m : Nat) (s : q_S) (v0 : Int32) (v5 : Int32) (v6 : Int32), q_RP (q_TBs z L xs) 0 320 (22, [(0, .int v0), (2, .ref 65), (5, .int v5), (6, .int v6)], [], (q_kB s c n)) (q_oIB c n) (dz_B320_65_22 m s v0 v5 v6) := by
  intro m
  induction m with
  | zero => intro s v0 v5 v6; exact q_RP_no
  | succ m ih =>
    intro s v0 v5 v6
    have hk22 := ih
    clear ih
    rw [dzs_B320_65_22]
    generalize dz_B320_65_22 m = k22 at hk22 ⊢
    dsimp only
    refine q_RP_seg (g2 := (25, [(0, .int v0), (2, .ref 65), (5, .int v5), (6, .int v6)], [.int (-100), .int v0], (q_kB s c n))) 2 (fun _ _ => rfl) ?_
    cases h624 : decide ((-100) < v0) with
    | true =>
      refine q_RP_cT ?_
      refine q_RP_rsT (g2 := (72, [(0, .int v0), (2, .ref 65), (5, .int v5), (6, .int v6)], [], (q_kB s c n))) rfl rfl h624 ?_
      refine q_RP_seg (g2 := (83, [(5, .int (v5 + (-1))), (0, .int v0), (2, .ref 65), (6, .int v6)], [.int (-v0), .ref 6, .int (v5 + (-1)), .ref 65], (q_kB s c n))) 6 (fun _ _ => rfl) ?_
      refine q_RP_as fun i625 => ?_
      refine q_RP_rsT (g2 := (84, [(5, .int (v5 + (-1))), (0, .int v0), (2, .ref 65), (6, .int v6)], [.int ((fun j => q_o6.getD j 0) ((-v0).toNatClampNeg)), .int (v5 + (-1)), .ref 65], (q_kB s c n))) rfl rfl i625 ?_
      refine q_RP_as fun i626 => ?_
      refine q_RP_rsT (g2 := (85, [(5, .int (v5 + (-1))), (0, .int v0), (2, .ref 65), (6, .int v6)], [], (q_kB (q_sA s 1 (upd (s.1 1) ((v5 + (-1)).toNatClampNeg) (vp_nar .byte ((fun j => q_o6.getD j 0) ((-v0).toNatClampNeg))))) c n))) rfl q_wB1 i626 ?_
      refine q_RP_seg (g2 := (88, [(5, .int (v5 + (-1))), (0, .int v0), (2, .ref 65), (6, .int v6)], [.int (-9), .int v0], (q_kB (q_sA s 1 (upd (s.1 1) ((v5 + (-1)).toNatClampNeg) (vp_nar .byte ((fun j => q_o6.getD j 0) ((-v0).toNatClampNeg))))) c n))) 2 (fun _ _ => rfl) ?_
      cases h627 : decide (v0 < (-9)) with
      | true =>
        refine q_RP_cT ?_
        refine q_RP_rsF (g2 := (91, [(5, .int (v5 + (-1))), (0, .int v0), (2, .ref 65), (6, .int v6)], [], (q_kB (q_sA s 1 (upd (s.1 1) ((v5 + (-1)).toNatClampNeg) (vp_nar .byte ((fun j => q_o6.getD j 0) ((-v0).toNatClampNeg))))) c n))) rfl rfl (q_d_geT h627) ?_
        refine q_RP_seg (g2 := (102, [(5, .int ((v5 + (-1)) + (-1))), (0, .int v0), (2, .ref 65), (6, .int v6)], [.int (-v0), .ref 7, .int ((v5 + (-1)) + (-1)), .ref 65], (q_kB (q_sA s 1 (upd (s.1 1) ((v5 + (-1)).toNatClampNeg) (vp_nar .byte ((fun j => q_o6.getD j 0) ((-v0).toNatClampNeg))))) c n))) 6 (fun _ _ => rfl) ?_
        refine q_RP_rsT (g2 := (103, [(5, .int ((v5 + (-1)) + (-1))), (0, .int v0), (2, .ref 65), (6, .int v6)], [.int ((fun j => q_o7.getD j 0) ((-v0).toNatClampNeg)), .int ((v5 + (-1)) + (-1)), .ref 65], (q_kB (q_sA s 1 (upd (s.1 1) ((v5 + (-1)).toNatClampNeg) (vp_nar .byte ((fun j => q_o6.getD j 0) ((-v0).toNatClampNeg))))) c n))) rfl rfl i625 ?_
        refine q_RP_as fun i628 => ?_
        generalize (q_sA s 1 (upd (s.1 1) ((v5 + (-1)).toNatClampNeg) (vp_nar .byte ((fun j => q_o6.getD j 0) ((-v0).toNatClampNeg))))) = r440
        refine q_RP_let ?_
        show q_RP _ _ _ (103, [(5, .int ((v5 + (-1)) + (-1))), (0, .int v0), (2, .ref 65), (6, .int v6)], [.int ((fun j => q_o7.getD j 0) ((-v0).toNatClampNeg)), .int ((v5 + (-1)) + (-1)), .ref 65], (q_kB r440 c n)) _ _
        refine q_RP_rsT (g2 := (104, [(5, .int ((v5 + (-1)) + (-1))), (0, .int v0), (2, .ref 65), (6, .int v6)], [], (q_kB (q_sA r440 1 (upd (r440.1 1) (((v5 + (-1)) + (-1)).toNatClampNeg) (vp_nar .byte ((fun j => q_o7.getD j 0) ((-v0).toNatClampNeg))))) c n))) rfl q_wB1 i628 ?_
        refine q_RP_seg (g2 := (106, [(5, .int ((v5 + (-1)) + (-1))), (0, .int v0), (2, .ref 65), (6, .int v6)], [.int v6], (q_kB (q_sA r440 1 (upd (r440.1 1) (((v5 + (-1)) + (-1)).toNatClampNeg) (vp_nar .byte ((fun j => q_o7.getD j 0) ((-v0).toNatClampNeg))))) c n))) 1 (fun _ _ => rfl) ?_
        cases h629 : decide (v6 = 0) with
        | true =>
          refine q_RP_cT ?_
          refine q_RP_rsT (g2 := (118, [(5, .int ((v5 + (-1)) + (-1))), (0, .int v0), (2, .ref 65), (6, .int v6)], [], (q_kB (q_sA r440 1 (upd (r440.1 1) (((v5 + (-1)) + (-1)).toNatClampNeg) (vp_nar .byte ((fun j => q_o7.getD j 0) ((-v0).toNatClampNeg))))) c n))) rfl rfl h629 ?_
          refine q_RP_seg (g2 := (120, [(5, .int ((v5 + (-1)) + (-1))), (0, .int v0), (2, .ref 65), (6, .int v6)], [.int ((v5 + (-1)) + (-1))], (q_kB (q_sA r440 1 (upd (r440.1 1) (((v5 + (-1)) + (-1)).toNatClampNeg) (vp_nar .byte ((fun j => q_o7.getD j 0) ((-v0).toNatClampNeg))))) c n))) 1 (fun _ _ => rfl) ?_
          exact q_RP_ret rfl rfl rfl
        | false =>
          refine q_RP_cF ?_
          refine q_RP_rsF (g2 := (109, [(5, .int ((v5 + (-1)) + (-1))), (0, .int v0), (2, .ref 65), (6, .int v6)], [], (q_kB (q_sA r440 1 (upd (r440.1 1) (((v5 + (-1)) + (-1)).toNatClampNeg) (vp_nar .byte ((fun j => q_o7.getD j 0) ((-v0).toNatClampNeg))))) c n))) rfl rfl h629 ?_
          refine q_RP_seg (g2 := (117, [(5, .int (((v5 + (-1)) + (-1)) + (-1))), (0, .int v0), (2, .ref 65), (6, .int v6)], [.int 45, .int (((v5 + (-1)) + (-1)) + (-1)), .ref 65], (q_kB (q_sA r440 1 (upd (r440.1 1) (((v5 + (-1)) + (-1)).toNatClampNeg) (vp_nar .byte ((fun j => q_o7.getD j 0) ((-v0).toNatClampNeg))))) c n))) 4 (fun _ _ => rfl) ?_
          refine q_RP_as fun i630 => ?_
          generalize (q_sA r440 1 (upd (r440.1 1) (((v5 + (-1)) + (-1)).toNatClampNeg) (vp_nar .byte ((fun j => q_o7.getD j 0) ((-v0).toNatClampNeg))))) = r441
          refine q_RP_let ?_
          show q_RP _ _ _ (117, [(5, .int (((v5 + (-1)) + (-1)) + (-1))), (0, .int v0), (2, .ref 65), (6, .int v6)], [.int 45, .int (((v5 + (-1)) + (-1)) + (-1)), .ref 65], (q_kB r441 c n)) _ _
          refine q_RP_rsT (g2 := (118, [(5, .int (((v5 + (-1)) + (-1)) + (-1))), (0, .int v0), (2, .ref 65), (6, .int v6)], [], (q_kB (q_sA r441 1 (upd (r441.1 1) ((((v5 + (-1)) + (-1)) + (-1)).toNatClampNeg) (vp_nar .byte 45))) c n))) rfl q_wB1 i630 ?_
          refine q_RP_seg (g2 := (120, [(5, .int (((v5 + (-1)) + (-1)) + (-1))), (0, .int v0), (2, .ref 65), (6, .int v6)], [.int (((v5 + (-1)) + (-1)) + (-1))], (q_kB (q_sA r441 1 (upd (r441.1 1) ((((v5 + (-1)) + (-1)) + (-1)).toNatClampNeg) (vp_nar .byte 45))) c n))) 1 (fun _ _ => rfl) ?_
          exact q_RP_ret rfl rfl rfl
      | false =>
        refine q_RP_cF ?_
        refine q_RP_rsT (g2 := (104, [(5, .int (v5 + (-1))), (0, .int v0), (2, .ref 65), (6, .int v6)], [], (q_kB (q_sA s 1 (upd (s.1 1) ((v5 + (-1)).toNatClampNeg) (vp_nar .byte ((fun j => q_o6.getD j 0) ((-v0).toNatClampNeg))))) c n))) rfl rfl (q_d_geF h627) ?_
        refine q_RP_seg (g2 := (106, [(5, .int (v5 + (-1))), (0, .int v0), (2, .ref 65), (6, .int v6)], [.int v6], (q_kB (q_sA s 1 (upd (s.1 1) ((v5 + (-1)).toNatClampNeg) (vp_nar .byte ((fun j => q_o6.getD j 0) ((-v0).toNatClampNeg))))) c n))) 1 (fun _ _ => rfl) ?_
        cases h631 : decide (v6 = 0) with
        | true =>
          refine q_RP_cT ?_
          refine q_RP_rsT (g2 := (118, [(5, .int (v5 + (-1))), (0, .int v0), (2, .ref 65), (6, .int v6)], [], (q_kB (q_sA s 1 (upd (s.1 1) ((v5 + (-1)).toNatClampNeg) (vp_nar .byte ((fun j => q_o6.getD j 0) ((-v0).toNatClampNeg))))) c n))) rfl rfl h631 ?_
          refine q_RP_seg (g2 := (120, [(5, .int (v5 + (-1))), (0, .int v0), (2, .ref 65), (6, .int v6)], [.int (v5 + (-1))], (q_kB (q_sA s 1 (upd (s.1 1) ((v5 + (-1)).toNatClampNeg) (vp_nar .byte ((fun j => q_o6.getD j 0) ((-v0).toNatClampNeg))))) c n))) 1 (fun _ _ => rfl) ?_
          exact q_RP_ret rfl rfl rfl
        | false =>
          refine q_RP_cF ?_
          refine q_RP_rsF (g2 := (109, [(5, .int (v5 + (-1))), (0, .int v0), (2, .ref 65), (6, .int v6)], [], (q_kB (q_sA s 1 (upd (s.1 1) ((v5 + (-1)).toNatClampNeg) (vp_nar .byte ((fun j => q_o6.getD j 0) ((-v0).toNatClampNeg))))) c n))) rfl rfl h631 ?_
          refine q_RP_seg (g2 := (117, [(5, .int ((v5 + (-1)) + (-1))), (0, .int v0), (2, .ref 65), (6, .int v6)], [.int 45, .int ((v5 + (-1)) + (-1)), .ref 65], (q_kB (q_sA s 1 (upd (s.1 1) ((v5 + (-1)).toNatClampNeg) (vp_nar .byte ((fun j => q_o6.getD j 0) ((-v0).toNatClampNeg))))) c n))) 4 (fun _ _ => rfl) ?_
          refine q_RP_as fun i632 => ?_
          generalize (q_sA s 1 (upd (s.1 1) ((v5 + (-1)).toNatClampNeg) (vp_nar .byte ((fun j => q_o6.getD j 0) ((-v0).toNatClampNeg))))) = r442
          refine q_RP_let ?_
          show q_RP _ _ _ (117, [(5, .int ((v5 + (-1)) + (-1))), (0, .int v0), (2, .ref 65), (6, .int v6)], [.int 45, .int ((v5 + (-1)) + (-1)), .ref 65], (q_kB r442 c n)) _ _
          refine q_RP_rsT (g2 := (118, [(5, .int ((v5 + (-1)) + (-1))), (0, .int v0), (2, .ref 65), (6, .int v6)], [], (q_kB (q_sA r442 1 (upd (r442.1 1) (((v5 + (-1)) + (-1)).toNatClampNeg) (vp_nar .byte 45))) c n))) rfl q_wB1 i632 ?_
          refine q_RP_seg (g2 := (120, [(5, .int ((v5 + (-1)) + (-1))), (0, .int v0), (2, .ref 65), (6, .int v6)], [.int ((v5 + (-1)) + (-1))], (q_kB (q_sA r442 1 (upd (r442.1 1) (((v5 + (-1)) + (-1)).toNatClampNeg) (vp_nar .byte 45))) c n))) 1 (fun _ _ => rfl) ?_
          exact q_RP_ret rfl rfl rfl
    | false =>
      refine q_RP_cF ?_
      refine q_RP_rsF (g2 := (28, [(0, .int v0), (2, .ref 65), (5, .int v5), (6, .int v6)], [], (q_kB s c n))) rfl rfl h624 ?_
      refine q_RP_seg (g2 := (39, [(3, .int (v0 / 100)), (0, .int v0), (2, .ref 65), (5, .int v5), (6, .int v6)], [.int (((v0 / 100) * 100) - v0)], (q_kB s c n))) 9 (fun _ _ => rfl) ?_
      generalize (((v0 / 100) * 100) - v0) = x443
      refine q_RP_let ?_
      show q_RP _ _ _ (39, [(3, .int (v0 / 100)), (0, .int v0), (2, .ref 65), (5, .int v5), (6, .int v6)], [.int x443], (q_kB s c n)) _ _
      refine q_RP_seg (g2 := (54, [(5, .int (v5 + (-1))), (0, .int (v0 / 100)), (4, .int x443), (3, .int (v0 / 100)), (2, .ref 65), (6, .int v6)], [.int x443, .ref 6, .int (v5 + (-1)), .ref 65], (q_kB s c n))) 8 (fun _ _ => rfl) ?_
      refine q_RP_as fun i633 => ?_
      refine q_RP_rsT (g2 := (55, [(5, .int (v5 + (-1))), (0, .int (v0 / 100)), (4, .int x443), (3, .int (v0 / 100)), (2, .ref 65), (6, .int v6)], [.int ((fun j => q_o6.getD j 0) (x443.toNatClampNeg)), .int (v5 + (-1)), .ref 65], (q_kB s c n))) rfl rfl i633 ?_
      refine q_RP_as fun i634 => ?_
      refine q_RP_rsT (g2 := (56, [(5, .int (v5 + (-1))), (0, .int (v0 / 100)), (4, .int x443), (3, .int (v0 / 100)), (2, .ref 65), (6, .int v6)], [], (q_kB (q_sA s 1 (upd (s.1 1) ((v5 + (-1)).toNatClampNeg) (vp_nar .byte ((fun j => q_o6.getD j 0) (x443.toNatClampNeg))))) c n))) rfl q_wB1 i634 ?_
      refine q_RP_seg (g2 := (67, [(5, .int ((v5 + (-1)) + (-1))), (0, .int (v0 / 100)), (4, .int x443), (3, .int (v0 / 100)), (2, .ref 65), (6, .int v6)], [.int x443, .ref 7, .int ((v5 + (-1)) + (-1)), .ref 65], (q_kB (q_sA s 1 (upd (s.1 1) ((v5 + (-1)).toNatClampNeg) (vp_nar .byte ((fun j => q_o6.getD j 0) (x443.toNatClampNeg))))) c n))) 5 (fun _ _ => rfl) ?_
      refine q_RP_rsT (g2 := (68, [(5, .int ((v5 + (-1)) + (-1))), (0, .int (v0 / 100)), (4, .int x443), (3, .int (v0 / 100)), (2, .ref 65), (6, .int v6)], [.int ((fun j => q_o7.getD j 0) (x443.toNatClampNeg)), .int ((v5 + (-1)) + (-1)), .ref 65], (q_kB (q_sA s 1 (upd (s.1 1) ((v5 + (-1)).toNatClampNeg) (vp_nar .byte ((fun j => q_o6.getD j 0) (x443.toNatClampNeg))))) c n))) rfl rfl i633 ?_
      refine q_RP_as fun i635 => ?_
      generalize (q_sA s 1 (upd (s.1 1) ((v5 + (-1)).toNatClampNeg) (vp_nar .byte ((fun j => q_o6.getD j 0) (x443.toNatClampNeg))))) = r444
      refine q_RP_let ?_
      show q_RP _ _ _ (68, [(5, .int ((v5 + (-1)) + (-1))), (0, .int (v0 / 100)), (4, .int x443), (3, .int (v0 / 100)), (2, .ref 65), (6, .int v6)], [.int ((fun j => q_o7.getD j 0) (x443.toNatClampNeg)), .int ((v5 + (-1)) + (-1)), .ref 65], (q_kB r444 c n)) _ _
      refine q_RP_rsT (g2 := (69, [(5, .int ((v5 + (-1)) + (-1))), (0, .int (v0 / 100)), (4, .int x443), (3, .int (v0 / 100)), (2, .ref 65), (6, .int v6)], [], (q_kB (q_sA r444 1 (upd (r444.1 1) (((v5 + (-1)) + (-1)).toNatClampNeg) (vp_nar .byte ((fun j => q_o7.getD j 0) (x443.toNatClampNeg))))) c n))) rfl q_wB1 i635 ?_
      refine q_RP_seg (g2 := (22, [(5, .int ((v5 + (-1)) + (-1))), (0, .int (v0 / 100)), (4, .int x443), (3, .int (v0 / 100)), (2, .ref 65), (6, .int v6)], [], (q_kB (q_sA r444 1 (upd (r444.1 1) (((v5 + (-1)) + (-1)).toNatClampNeg) (vp_nar .byte ((fun j => q_o7.getD j 0) (x443.toNatClampNeg))))) c n))) 1 (fun _ _ => rfl) ?_
      exact q_RP_xt (q_xt_mk (q_mn1 1 rfl (q_mn1 4 rfl (q_mn1 0 rfl (q_mn1 5 rfl q_mn0)))) rfl) (hk22 (q_sA r444 1 (upd (r444.1 1) (((v5 + (-1)) + (-1)).toNatClampNeg) (vp_nar .byte ((fun j => q_o7.getD j 0) (x443.toNatClampNeg))))) (v0 / 100) ((v5 + (-1)) + (-1)) v6)
def dz_B320_65 (s : q_S) (a0 : Int32) (a1 : Int32) : Option (q_S × Int32) :=
  cond (decide (a0 < 0)) (dz_B320_65_22 5000 s a0 a1 1) (dz_B320_65_22 5000 s (-a0) a1 0)
set_option maxHeartbeats 4000000 in
theorem dzt_B320_65 (z L : Nat) (xs : Nat → Int32) (s : q_S) (c n : Nat) (a0 : Int32) (a1 : Int32) (x : q_S × Int32) (h : dz_B320_65 s a0 a1 = some x) : q_Ca (q_TBs z L xs) 1 320 [.int a0, .int a1, .ref 65] (q_kB s c n) ((q_oIB c n) x) := by
  refine q_CaP_of (φ := (q_oIB c n)) (Nat.le_of_ble_eq_true rfl) ?_ h
  clear h
  unfold dz_B320_65
  refine q_RP_seg (g2 := (4, [(5, .int a1), (0, .int a0), (1, .int a1), (2, .ref 65)], [.int a0], (q_kB s c n))) 3 (fun _ _ => rfl) ?_
  cases h623 : decide (a0 < 0) with
  | true =>
    refine q_RP_cT ?_
    refine q_RP_rsF (g2 := (7, [(5, .int a1), (0, .int a0), (1, .int a1), (2, .ref 65)], [], (q_kB s c n))) rfl rfl (q_d_geT h623) ?_
    refine q_RP_seg (g2 := (22, [(6, .int 1), (5, .int a1), (0, .int a0), (1, .int a1), (2, .ref 65)], [], (q_kB s c n))) 5 (fun _ _ => rfl) ?_
    exact q_RP_xt (q_xt_mk (q_mn1 2 rfl (q_mn1 4 rfl (q_mn1 1 rfl (q_mn1 0 rfl q_mn0)))) rfl) (dzt_B320_65_22 z L xs c n 5000 s a0 a1 1)
  | false =>
    refine q_RP_cF ?_
    refine q_RP_rsT (g2 := (11, [(5, .int a1), (0, .int a0), (1, .int a1), (2, .ref 65)], [], (q_kB s c n))) rfl rfl (q_d_geF h623) ?_
    refine q_RP_seg (g2 := (22, [(0, .int (-a0)), (6, .int 0), (5, .int a1), (1, .int a1), (2, .ref 65)], [], (q_kB s c n))) 7 (fun _ _ => rfl) ?_
    exact q_RP_xt (q_xt_mk (q_mn1 0 rfl (q_mn1 4 rfl (q_mn1 2 rfl (q_mn1 1 rfl q_mn0)))) rfl) (dzt_B320_65_22 z L xs c n 5000 s (-a0) a1 0)
def dz_B185 (s : q_S) (a0 : Int32) : Int32 :=
  cond (decide (a0 < 128)) ((a0 / 8)) (cond (decide (a0 < 192)) ((-1)) (cond (decide (231 < a0)) ((-1)) (((a0 / 8) - 8))))
set_option maxHeartbeats 4000000 in
theorem dzt_B185 (z L : Nat) (xs : Nat → Int32) (s : q_S) (c n : Nat) (a0 : Int32) : q_Ca (q_TBs z L xs) 1 185 [.int a0] (q_kB s c n) ((q_oP (q_kB s c n)) (dz_B185 s a0)) := by
  refine q_CaT_of (φ := (q_oP (q_kB s c n))) (Nat.le_of_ble_eq_true rfl) ?_
  unfold dz_B185
  refine q_RT_seg (g2 := (4, [(0, .int a0)], [.int 128, .int a0], (q_kB s c n))) 2 (fun _ _ => rfl) ?_
  cases h640 : decide (a0 < 128) with
  | true =>
    refine q_RT_cT ?_
    refine q_RT_rsF (g2 := (7, [(0, .int a0)], [], (q_kB s c n))) rfl rfl (q_d_geT h640) ?_
    refine q_RT_seg (g2 := (11, [(0, .int a0)], [.int (a0 / 8)], (q_kB s c n))) 3 (fun _ _ => rfl) ?_
    exact q_RT_ret rfl rfl rfl
  | false =>
    refine q_RT_cF ?_
    refine q_RT_rsT (g2 := (12, [(0, .int a0)], [], (q_kB s c n))) rfl rfl (q_d_geF h640) ?_
    refine q_RT_seg (g2 := (16, [(0, .int a0)], [.int 192, .int a0], (q_kB s c n))) 2 (fun _ _ => rfl) ?_
    cases h641 : decide (a0 < 192) with
    | true =>
      refine q_RT_cT ?_
      refine q_RT_rsT (g2 := (36, [(0, .int a0)], [], (q_kB s c n))) rfl rfl h641 ?_
      refine q_RT_seg (g2 := (37, [(0, .int a0)], [.int (-1)], (q_kB s c n))) 1 (fun _ _ => rfl) ?_
      exact q_RT_ret rfl rfl rfl
    | false =>
      refine q_RT_cF ?_
      refine q_RT_rsF (g2 := (19, [(0, .int a0)], [], (q_kB s c n))) rfl rfl h641 ?_
      refine q_RT_seg (g2 := (23, [(0, .int a0)], [.int 231, .int a0], (q_kB s c n))) 2 (fun _ _ => rfl) ?_
      cases h642 : decide (231 < a0) with
      | true =>
        refine q_RT_cT ?_
        refine q_RT_rsT (g2 := (36, [(0, .int a0)], [], (q_kB s c n))) rfl rfl h642 ?_
        refine q_RT_seg (g2 := (37, [(0, .int a0)], [.int (-1)], (q_kB s c n))) 1 (fun _ _ => rfl) ?_
        exact q_RT_ret rfl rfl rfl
      | false =>
        refine q_RT_cF ?_
        refine q_RT_rsF (g2 := (26, [(0, .int a0)], [], (q_kB s c n))) rfl rfl h642 ?_
        refine q_RT_seg (g2 := (37, [(0, .int a0)], [.int ((a0 / 8) - 8)], (q_kB s c n))) 6 (fun _ _ => rfl) ?_
        exact q_RT_ret rfl rfl rfl
def dz_B347_14 (s : q_S) : Int32 :=
  0
set_option maxHeartbeats 4000000 in
theorem dzt_B347_14 (z L : Nat) (xs : Nat → Int32) (s : q_S) (c n : Nat) : q_Ca (q_TBs z L xs) 1 347 [.ref 14] (q_kB s c n) ((q_oP (q_kB s c n)) (dz_B347_14 s)) := by
  refine q_CaT_of (φ := (q_oP (q_kB s c n))) (Nat.le_of_ble_eq_true rfl) ?_
  unfold dz_B347_14
  refine q_RT_seg (g2 := (14, [(0, .ref 14)], [.int 0], (q_kB s c n))) 5 (fun _ _ => rfl) ?_
  exact q_RT_ret rfl rfl rfl
def dz_B344_14 (s : q_S) : Int32 :=
  q_let (dz_B347_14 s) fun r451 => ((3 : Int32) >>> (r451 &&& 31))
set_option maxHeartbeats 4000000 in
theorem dzt_B344_14 (z L : Nat) (xs : Nat → Int32) (s : q_S) (c n : Nat) : q_Ca (q_TBs z L xs) 2 344 [.ref 14] (q_kB s c n) ((q_oP (q_kB s c n)) (dz_B344_14 s)) := by
  refine q_CaT_of (φ := (q_oP (q_kB s c n))) (Nat.le_of_ble_eq_true rfl) ?_
  unfold dz_B344_14
  refine q_RT_seg (g2 := (6, [(0, .ref 14)], [.ref 14, .int 3], (q_kB s c n))) 4 (fun _ _ => rfl) ?_
  refine q_RT_call (v := (some (.int (dz_B347_14 s)))) (h2 := (q_kB s c n)) rfl rfl ((dzt_B347_14 z L xs s c n).le (Nat.le_of_ble_eq_true rfl)) ?_
  generalize dz_B347_14 s = r451
  refine q_RT_let ?_
  show q_RT _ _ _ (9, [(0, .ref 14)], [.int r451, .int 3], (q_kB s c n)) _ _
  refine q_RT_seg (g2 := (10, [(0, .ref 14)], [.int ((3 : Int32) >>> (r451 &&& 31))], (q_kB s c n))) 1 (fun _ _ => rfl) ?_
  exact q_RT_ret rfl rfl rfl
def dz_B342_64_14 (s : q_S) : Option (q_S) :=
  q_let (dz_B347_14 s) fun r455 => cond (decide (0 = r455)) (some s) (none)
set_option maxHeartbeats 4000000 in
theorem dzt_B342_64_14 (z L : Nat) (xs : Nat → Int32) (s : q_S) (c n : Nat) (x : q_S) (h : dz_B342_64_14 s = some x) : q_Ca (q_TBs z L xs) 2 342 [.ref 64, .ref 14] (q_kB s c n) ((q_oSB c n) x) := by
  refine q_CaP_of (φ := (q_oSB c n)) (Nat.le_of_ble_eq_true rfl) ?_ h
  clear h
  unfold dz_B342_64_14
  refine q_RP_seg (g2 := (10, [(0, .ref 64), (1, .ref 14)], [.int 0], (q_kB s c n))) 4 (fun _ _ => rfl) ?_
  refine q_RP_seg (g2 := (11, [(0, .ref 64), (1, .ref 14)], [.ref 14, .int 0], (q_kB s c n))) 1 (fun _ _ => rfl) ?_
  refine q_RP_call (v := (some (.int (dz_B347_14 s)))) (h2 := (q_kB s c n)) rfl rfl ((dzt_B347_14 z L xs s c n).le (Nat.le_of_ble_eq_true rfl)) ?_
  generalize dz_B347_14 s = r455
  refine q_RP_let ?_
  show q_RP _ _ _ (14, [(0, .ref 64), (1, .ref 14)], [.int r455, .int 0], (q_kB s c n)) _ _
  cases h646 : decide (0 = r455) with
  | true =>
    refine q_RP_cT ?_
    refine q_RP_rsT (g2 := (21, [(0, .ref 64), (1, .ref 14)], [], (q_kB s c n))) rfl rfl h646 ?_
    exact q_RP_ret rfl rfl rfl
  | false =>
    refine q_RP_cF ?_
    refine q_RP_rsF (g2 := (17, [(0, .ref 64), (1, .ref 14)], [], (q_kB s c n))) rfl rfl h646 ?_
    exact q_RP_no
def dz_B346_14_65 (s : q_S) (a2 : Int32) (a3 : Int32) : Option (q_S) :=
  q_let (dz_B347_14 s) fun r459 => cond (decide (r459 = a3)) (cond (q_cpk (a2 <<< (a3 &&& 31)) 3 16) (some (q_sA s 1 (va_cpy (fun j => q_o42.getD j 0) (s.1 1) 0 ((a2 <<< (a3 &&& 31)).toNatClampNeg) 3))) none) (none)
set_option maxHeartbeats 4000000 in
theorem dzt_B346_14_65 (z L : Nat) (xs : Nat → Int32) (s : q_S) (c n : Nat) (a2 : Int32) (a3 : Int32) (x : q_S) (h : dz_B346_14_65 s a2 a3 = some x) : q_Ca (q_TBs z L xs) 2 346 [.ref 14, .ref 65, .int a2, .int a3] (q_kB s c n) ((q_oSB c n) x) := by
  refine q_CaP_of (φ := (q_oSB c n)) (Nat.le_of_ble_eq_true rfl) ?_ h
  clear h
  unfold dz_B346_14_65
  refine q_RP_seg (g2 := (1, [(0, .ref 14), (1, .ref 65), (2, .int a2), (3, .int a3)], [.ref 14], (q_kB s c n))) 1 (fun _ _ => rfl) ?_
  refine q_RP_call (v := (some (.int (dz_B347_14 s)))) (h2 := (q_kB s c n)) rfl rfl ((dzt_B347_14 z L xs s c n).le (Nat.le_of_ble_eq_true rfl)) ?_
  generalize dz_B347_14 s = r459
  refine q_RP_let ?_
  show q_RP _ _ _ (4, [(0, .ref 14), (1, .ref 65), (2, .int a2), (3, .int a3)], [.int r459], (q_kB s c n)) _ _
  refine q_RP_seg (g2 := (5, [(0, .ref 14), (1, .ref 65), (2, .int a2), (3, .int a3)], [.int a3, .int r459], (q_kB s c n))) 1 (fun _ _ => rfl) ?_
  cases h649 : decide (r459 = a3) with
  | true =>
    refine q_RP_cT ?_
    refine q_RP_rsF (g2 := (8, [(0, .ref 14), (1, .ref 65), (2, .int a2), (3, .int a3)], [], (q_kB s c n))) rfl rfl (q_d_neT h649) ?_
    refine q_RP_seg (g2 := (22, [(0, .ref 14), (1, .ref 65), (2, .int a2), (3, .int a3)], [.int 3, .int (a2 <<< (a3 &&& 31)), .ref 65, .int 0, .ref 42], (q_kB s c n))) 10 (fun _ _ => rfl) ?_
    refine q_RP_as fun i650 => ?_
    refine q_RP_rsT (g2 := (25, [(0, .ref 14), (1, .ref 65), (2, .int a2), (3, .int a3)], [], (q_kB (q_sA s 1 (va_cpy (fun j => q_o42.getD j 0) (s.1 1) 0 ((a2 <<< (a3 &&& 31)).toNatClampNeg) 3)) c n))) rfl rfl (q_acbB i650 rfl) ?_
    refine q_RP_seg (g2 := (43, [(0, .ref 14), (1, .ref 65), (2, .int a2), (3, .int a3)], [], (q_kB (q_sA s 1 (va_cpy (fun j => q_o42.getD j 0) (s.1 1) 0 ((a2 <<< (a3 &&& 31)).toNatClampNeg) 3)) c n))) 1 (fun _ _ => rfl) ?_
    exact q_RP_ret rfl rfl rfl
  | false =>
    refine q_RP_cF ?_
    refine q_RP_rsT (g2 := (28, [(0, .ref 14), (1, .ref 65), (2, .int a2), (3, .int a3)], [], (q_kB s c n))) rfl rfl (q_d_neF h649) ?_
    exact q_RP_no
def dz_B343_64_14 (s : q_S) (a1 : Int32) : Option (q_S) :=
  (dz_B342_64_14 s).bind fun r457 => (dz_B346_14_65 r457 a1 0).bind fun r460 => some r460
set_option maxHeartbeats 4000000 in
theorem dzt_B343_64_14 (z L : Nat) (xs : Nat → Int32) (s : q_S) (c n : Nat) (a1 : Int32) (x : q_S) (h : dz_B343_64_14 s a1 = some x) : q_Ca (q_TBs z L xs) 3 343 [.ref 64, .int a1, .ref 14] (q_kB s c n) ((q_oSB c n) x) := by
  refine q_CaP_of (φ := (q_oSB c n)) (Nat.le_of_ble_eq_true rfl) ?_ h
  clear h
  unfold dz_B343_64_14
  refine q_RP_seg (g2 := (2, [(0, .ref 64), (1, .int a1), (2, .ref 14)], [.ref 14, .ref 64], (q_kB s c n))) 2 (fun _ _ => rfl) ?_
  refine q_RP_bd fun r457 er457 => ?_
  refine q_RP_call (v := none) (h2 := (q_kB r457 c n)) rfl rfl ((dzt_B342_64_14 z L xs s c n r457 er457).le (Nat.le_of_ble_eq_true rfl)) ?_
  show q_RP _ _ _ (5, [(0, .ref 64), (1, .int a1), (2, .ref 14)], [], (q_kB r457 c n)) _ _
  refine q_RP_seg (g2 := (15, [(0, .ref 64), (1, .int a1), (2, .ref 14)], [.int 0, .int a1, .ref 65, .ref 14], (q_kB r457 c n))) 6 (fun _ _ => rfl) ?_
  refine q_RP_bd fun r460 er460 => ?_
  refine q_RP_call (v := none) (h2 := (q_kB r460 c n)) rfl rfl ((dzt_B346_14_65 z L xs r457 c n a1 0 r460 er460).le (Nat.le_of_ble_eq_true rfl)) ?_
  show q_RP _ _ _ (18, [(0, .ref 64), (1, .int a1), (2, .ref 14)], [], (q_kB r460 c n)) _ _
  exact q_RP_ret rfl rfl rfl
def dz_B347_13 (s : q_S) : Int32 :=
  0
set_option maxHeartbeats 4000000 in
theorem dzt_B347_13 (z L : Nat) (xs : Nat → Int32) (s : q_S) (c n : Nat) : q_Ca (q_TBs z L xs) 1 347 [.ref 13] (q_kB s c n) ((q_oP (q_kB s c n)) (dz_B347_13 s)) := by
  refine q_CaT_of (φ := (q_oP (q_kB s c n))) (Nat.le_of_ble_eq_true rfl) ?_
  unfold dz_B347_13
  refine q_RT_seg (g2 := (14, [(0, .ref 13)], [.int 0], (q_kB s c n))) 5 (fun _ _ => rfl) ?_
  exact q_RT_ret rfl rfl rfl
def dz_B344_13 (s : q_S) : Int32 :=
  q_let (dz_B347_13 s) fun r462 => ((120 : Int32) >>> (r462 &&& 31))
set_option maxHeartbeats 4000000 in
theorem dzt_B344_13 (z L : Nat) (xs : Nat → Int32) (s : q_S) (c n : Nat) : q_Ca (q_TBs z L xs) 2 344 [.ref 13] (q_kB s c n) ((q_oP (q_kB s c n)) (dz_B344_13 s)) := by
  refine q_CaT_of (φ := (q_oP (q_kB s c n))) (Nat.le_of_ble_eq_true rfl) ?_
  unfold dz_B344_13
  refine q_RT_seg (g2 := (6, [(0, .ref 13)], [.ref 13, .int 120], (q_kB s c n))) 4 (fun _ _ => rfl) ?_
  refine q_RT_call (v := (some (.int (dz_B347_13 s)))) (h2 := (q_kB s c n)) rfl rfl ((dzt_B347_13 z L xs s c n).le (Nat.le_of_ble_eq_true rfl)) ?_
  generalize dz_B347_13 s = r462
  refine q_RT_let ?_
  show q_RT _ _ _ (9, [(0, .ref 13)], [.int r462, .int 120], (q_kB s c n)) _ _
  refine q_RT_seg (g2 := (10, [(0, .ref 13)], [.int ((120 : Int32) >>> (r462 &&& 31))], (q_kB s c n))) 1 (fun _ _ => rfl) ?_
  exact q_RT_ret rfl rfl rfl
def dz_B348_13 (s : q_S) : Bool :=
  true
set_option maxHeartbeats 4000000 in
theorem dzt_B348_13 (z L : Nat) (xs : Nat → Int32) (s : q_S) (c n : Nat) : q_Ca (q_TBs z L xs) 1 348 [.ref 13] (q_kB s c n) ((q_oB (q_kB s c n)) (dz_B348_13 s)) := by
  refine q_CaT_of (φ := (q_oB (q_kB s c n))) (Nat.le_of_ble_eq_true rfl) ?_
  unfold dz_B348_13
  refine q_RT_seg (g2 := (18, [(0, .ref 13)], [.int 1], (q_kB s c n))) 7 (fun _ _ => rfl) ?_
  exact q_RT_ret rfl rfl rfl
def dz_B371 (s : q_S) (a0 : Int32) (a1 : Int32) : Option (Int32) :=
  cond (decide (a0 < 0)) (none) (cond (decide (a0 < a1)) (some a0) (none))
set_option maxHeartbeats 4000000 in
theorem dzt_B371 (z L : Nat) (xs : Nat → Int32) (s : q_S) (c n : Nat) (a0 : Int32) (a1 : Int32) (x : Int32) (h : dz_B371 s a0 a1 = some x) : q_Ca (q_TBs z L xs) 1 371 [.int a0, .int a1, q_vS (q_TBs z L xs)] (q_kB s c n) ((q_oP (q_kB s c n)) x) := by
  refine q_CaP_of (φ := (q_oP (q_kB s c n))) (by simp only [q_wd, q_vS_wd]; exact Nat.le_of_ble_eq_true rfl) ?_ h
  clear h
  unfold dz_B371
  refine q_RP_seg (g2 := (1, [(0, .int a0), (1, .int a1), (2, q_vS (q_TBs z L xs))], [.int a0], (q_kB s c n))) 1 (fun _ _ => rfl) ?_
  cases h655 : decide (a0 < 0) with
  | true =>
    refine q_RP_cT ?_
    refine q_RP_rsT (g2 := (9, [(0, .int a0), (1, .int a1), (2, q_vS (q_TBs z L xs))], [], (q_kB s c n))) rfl rfl h655 ?_
    exact q_RP_no
  | false =>
    refine q_RP_cF ?_
    refine q_RP_rsF (g2 := (4, [(0, .int a0), (1, .int a1), (2, q_vS (q_TBs z L xs))], [], (q_kB s c n))) rfl rfl h655 ?_
    refine q_RP_seg (g2 := (6, [(0, .int a0), (1, .int a1), (2, q_vS (q_TBs z L xs))], [.int a1, .int a0], (q_kB s c n))) 2 (fun _ _ => rfl) ?_
    cases h656 : decide (a0 < a1) with
    | true =>
      refine q_RP_cT ?_
      refine q_RP_rsT (g2 := (16, [(0, .int a0), (1, .int a1), (2, q_vS (q_TBs z L xs))], [], (q_kB s c n))) rfl rfl h656 ?_
      refine q_RP_seg (g2 := (17, [(0, .int a0), (1, .int a1), (2, q_vS (q_TBs z L xs))], [.int a0], (q_kB s c n))) 1 (fun _ _ => rfl) ?_
      exact q_RP_ret rfl rfl rfl
    | false =>
      refine q_RP_cF ?_
      refine q_RP_rsF (g2 := (9, [(0, .int a0), (1, .int a1), (2, q_vS (q_TBs z L xs))], [], (q_kB s c n))) rfl rfl h656 ?_
      exact q_RP_no
def dz_B349 (s : q_S) (a0 : Int32) (a1 : Int32) : Option (Unit) :=
  (dz_B371 s a0 a1).bind fun r466 => some ()
set_option maxHeartbeats 4000000 in
theorem dzt_B349 (z L : Nat) (xs : Nat → Int32) (s : q_S) (c n : Nat) (a0 : Int32) (a1 : Int32) (x : Unit) (h : dz_B349 s a0 a1 = some x) : q_Ca (q_TBs z L xs) 2 349 [.int a0, .int a1] (q_kB s c n) ((q_oU (q_kB s c n)) x) := by
  refine q_CaP_of (φ := (q_oU (q_kB s c n))) (Nat.le_of_ble_eq_true rfl) ?_ h
  clear h
  unfold dz_B349
  refine q_RP_seg (g2 := (5, [(0, .int a0), (1, .int a1)], [q_vS (q_TBs z L xs), .int a1, .int a0], (q_kB s c n))) 3 (fun _ _ => rfl) ?_
  refine q_RP_bd fun r466 er466 => ?_
  refine q_RP_call (v := (some (.int r466))) (h2 := (q_kB s c n)) rfl rfl ((dzt_B371 z L xs s c n a0 a1 r466 er466).le (Nat.le_of_ble_eq_true rfl)) ?_
  show q_RP _ _ _ (8, [(0, .int a0), (1, .int a1)], [.int r466], (q_kB s c n)) _ _
  refine q_RP_seg (g2 := (9, [(0, .int a0), (1, .int a1)], [], (q_kB s c n))) 1 (fun _ _ => rfl) ?_
  exact q_RP_ret rfl rfl rfl
def dz_B352_41 (s : q_S) (a1 : Int32) : Option (Int32) :=
  (dz_B349 s a1 120).bind fun r468 => cond (q_in a1 120) (cond (decide (vp_nar .char (((((fun j => q_o41.getD j 0) (a1.toNatClampNeg)) &&& 255).toUInt32 % 65536).toInt32) = ((((fun j => q_o41.getD j 0) (a1.toNatClampNeg)) &&& 255).toUInt32 % 65536).toInt32)) (some (((((fun j => q_o41.getD j 0) (a1.toNatClampNeg)) &&& 255).toUInt32 % 65536).toInt32)) none) none
set_option maxHeartbeats 4000000 in
theorem dzt_B352_41 (z L : Nat) (xs : Nat → Int32) (s : q_S) (c n : Nat) (a1 : Int32) (x : Int32) (h : dz_B352_41 s a1 = some x) : q_Ca (q_TBs z L xs) 3 352 [.ref 41, .int a1] (q_kB s c n) ((q_oP (q_kB s c n)) x) := by
  refine q_CaP_of (φ := (q_oP (q_kB s c n))) (Nat.le_of_ble_eq_true rfl) ?_ h
  clear h
  unfold dz_B352_41
  refine q_RP_seg (g2 := (3, [(0, .ref 41), (1, .int a1)], [.int 120, .int a1], (q_kB s c n))) 3 (fun _ _ => rfl) ?_
  refine q_RP_bd fun r468 er468 => ?_
  refine q_RP_call (v := none) (h2 := (q_kB s c n)) rfl rfl ((dzt_B349 z L xs s c n a1 120 r468 er468).le (Nat.le_of_ble_eq_true rfl)) ?_
  show q_RP _ _ _ (6, [(0, .ref 41), (1, .int a1)], [], (q_kB s c n)) _ _
  refine q_RP_seg (g2 := (8, [(0, .ref 41), (1, .int a1)], [.int a1, .ref 41], (q_kB s c n))) 2 (fun _ _ => rfl) ?_
  refine q_RP_as fun i657 => ?_
  refine q_RP_rsT (g2 := (9, [(0, .ref 41), (1, .int a1)], [.int ((fun j => q_o41.getD j 0) (a1.toNatClampNeg))], (q_kB s c n))) rfl rfl i657 ?_
  refine q_RP_seg (g2 := (14, [(0, .ref 41), (1, .int a1)], [.int (((((fun j => q_o41.getD j 0) (a1.toNatClampNeg)) &&& 255).toUInt32 % 65536).toInt32)], (q_kB s c n))) 3 (fun _ _ => rfl) ?_
  refine q_RP_as fun i658 => ?_
  exact q_RP_ret rfl (if_pos (of_decide_eq_true i658)) rfl
def dz_B345_13 (s : q_S) (a1 : Int32) : Option (Int32) :=
  q_let (dz_B348_13 s) fun r470 => cond r470 ((dz_B352_41 s a1).bind fun r471 => cond (decide (vp_nar .char r471 = r471)) (some r471) none) (none)
set_option maxHeartbeats 4000000 in
theorem dzt_B345_13 (z L : Nat) (xs : Nat → Int32) (s : q_S) (c n : Nat) (a1 : Int32) (x : Int32) (h : dz_B345_13 s a1 = some x) : q_Ca (q_TBs z L xs) 4 345 [.ref 13, .int a1] (q_kB s c n) ((q_oP (q_kB s c n)) x) := by
  refine q_CaP_of (φ := (q_oP (q_kB s c n))) (Nat.le_of_ble_eq_true rfl) ?_ h
  clear h
  unfold dz_B345_13
  refine q_RP_seg (g2 := (1, [(0, .ref 13), (1, .int a1)], [.ref 13], (q_kB s c n))) 1 (fun _ _ => rfl) ?_
  refine q_RP_call (v := (some (.int (q_b (dz_B348_13 s))))) (h2 := (q_kB s c n)) rfl rfl ((dzt_B348_13 z L xs s c n).le (Nat.le_of_ble_eq_true rfl)) ?_
  generalize dz_B348_13 s = r470
  refine q_RP_let ?_
  show q_RP _ _ _ (4, [(0, .ref 13), (1, .int a1)], [.int (q_b r470)], (q_kB s c n)) _ _
  cases h659 : r470 with
  | true =>
    refine q_RP_cT ?_
    show q_RP _ _ _ (4, [(0, .ref 13), (1, .int a1)], [.int 1], (q_kB s c n)) _ _
    refine q_RP_seg (g2 := (12, [(0, .ref 13), (1, .int a1)], [.int a1, .ref 41], (q_kB s c n))) 4 (fun _ _ => rfl) ?_
    refine q_RP_bd fun r471 er471 => ?_
    refine q_RP_call (v := (some (.int r471))) (h2 := (q_kB s c n)) rfl rfl ((dzt_B352_41 z L xs s c n a1 r471 er471).le (Nat.le_of_ble_eq_true rfl)) ?_
    show q_RP _ _ _ (15, [(0, .ref 13), (1, .int a1)], [.int r471], (q_kB s c n)) _ _
    refine q_RP_as fun i660 => ?_
    exact q_RP_ret rfl (if_pos (of_decide_eq_true i660)) rfl
  | false =>
    refine q_RP_cF ?_
    show q_RP _ _ _ (4, [(0, .ref 13), (1, .int a1)], [.int 0], (q_kB s c n)) _ _
    exact q_RP_no
def dz_B353 (s : q_S) (a0 : Int32) : Bool :=
  cond (decide (255 < a0)) (false) (true)
set_option maxHeartbeats 4000000 in
theorem dzt_B353 (z L : Nat) (xs : Nat → Int32) (s : q_S) (c n : Nat) (a0 : Int32) : q_Ca (q_TBs z L xs) 1 353 [.int a0] (q_kB s c n) ((q_oB (q_kB s c n)) (dz_B353 s a0)) := by
  refine q_CaT_of (φ := (q_oB (q_kB s c n))) (Nat.le_of_ble_eq_true rfl) ?_
  unfold dz_B353
  refine q_RT_seg (g2 := (4, [(0, .int a0)], [.int 255, .int a0], (q_kB s c n))) 2 (fun _ _ => rfl) ?_
  cases h662 : decide (255 < a0) with
  | true =>
    refine q_RT_cT ?_
    refine q_RT_rsT (g2 := (11, [(0, .int a0)], [], (q_kB s c n))) rfl rfl h662 ?_
    refine q_RT_seg (g2 := (12, [(0, .int a0)], [.int 0], (q_kB s c n))) 1 (fun _ _ => rfl) ?_
    exact q_RT_ret rfl rfl rfl
  | false =>
    refine q_RT_cF ?_
    refine q_RT_rsF (g2 := (7, [(0, .int a0)], [], (q_kB s c n))) rfl rfl h662 ?_
    refine q_RT_seg (g2 := (12, [(0, .int a0)], [.int 1], (q_kB s c n))) 2 (fun _ _ => rfl) ?_
    exact q_RT_ret rfl rfl rfl
def dz_B347_12 (s : q_S) : Int32 :=
  0
set_option maxHeartbeats 4000000 in
theorem dzt_B347_12 (z L : Nat) (xs : Nat → Int32) (s : q_S) (c n : Nat) : q_Ca (q_TBs z L xs) 1 347 [.ref 12] (q_kB s c n) ((q_oP (q_kB s c n)) (dz_B347_12 s)) := by
  refine q_CaT_of (φ := (q_oP (q_kB s c n))) (Nat.le_of_ble_eq_true rfl) ?_
  unfold dz_B347_12
  refine q_RT_seg (g2 := (14, [(0, .ref 12)], [.int 0], (q_kB s c n))) 5 (fun _ _ => rfl) ?_
  exact q_RT_ret rfl rfl rfl
def dz_B344_12 (s : q_S) : Int32 :=
  q_let (dz_B347_12 s) fun r482 => ((63 : Int32) >>> (r482 &&& 31))
set_option maxHeartbeats 4000000 in
theorem dzt_B344_12 (z L : Nat) (xs : Nat → Int32) (s : q_S) (c n : Nat) : q_Ca (q_TBs z L xs) 2 344 [.ref 12] (q_kB s c n) ((q_oP (q_kB s c n)) (dz_B344_12 s)) := by
  refine q_CaT_of (φ := (q_oP (q_kB s c n))) (Nat.le_of_ble_eq_true rfl) ?_
  unfold dz_B344_12
  refine q_RT_seg (g2 := (6, [(0, .ref 12)], [.ref 12, .int 63], (q_kB s c n))) 4 (fun _ _ => rfl) ?_
  refine q_RT_call (v := (some (.int (dz_B347_12 s)))) (h2 := (q_kB s c n)) rfl rfl ((dzt_B347_12 z L xs s c n).le (Nat.le_of_ble_eq_true rfl)) ?_
  generalize dz_B347_12 s = r482
  refine q_RT_let ?_
  show q_RT _ _ _ (9, [(0, .ref 12)], [.int r482, .int 63], (q_kB s c n)) _ _
  refine q_RT_seg (g2 := (10, [(0, .ref 12)], [.int ((63 : Int32) >>> (r482 &&& 31))], (q_kB s c n))) 1 (fun _ _ => rfl) ?_
  exact q_RT_ret rfl rfl rfl
def dz_B348_12 (s : q_S) : Bool :=
  true
set_option maxHeartbeats 4000000 in
theorem dzt_B348_12 (z L : Nat) (xs : Nat → Int32) (s : q_S) (c n : Nat) : q_Ca (q_TBs z L xs) 1 348 [.ref 12] (q_kB s c n) ((q_oB (q_kB s c n)) (dz_B348_12 s)) := by
  refine q_CaT_of (φ := (q_oB (q_kB s c n))) (Nat.le_of_ble_eq_true rfl) ?_
  unfold dz_B348_12
  refine q_RT_seg (g2 := (18, [(0, .ref 12)], [.int 1], (q_kB s c n))) 7 (fun _ _ => rfl) ?_
  exact q_RT_ret rfl rfl rfl
def dz_B352_40 (s : q_S) (a1 : Int32) : Option (Int32) :=
  (dz_B349 s a1 63).bind fun r486 => cond (q_in a1 63) (cond (decide (vp_nar .char (((((fun j => q_o40.getD j 0) (a1.toNatClampNeg)) &&& 255).toUInt32 % 65536).toInt32) = ((((fun j => q_o40.getD j 0) (a1.toNatClampNeg)) &&& 255).toUInt32 % 65536).toInt32)) (some (((((fun j => q_o40.getD j 0) (a1.toNatClampNeg)) &&& 255).toUInt32 % 65536).toInt32)) none) none
set_option maxHeartbeats 4000000 in
theorem dzt_B352_40 (z L : Nat) (xs : Nat → Int32) (s : q_S) (c n : Nat) (a1 : Int32) (x : Int32) (h : dz_B352_40 s a1 = some x) : q_Ca (q_TBs z L xs) 3 352 [.ref 40, .int a1] (q_kB s c n) ((q_oP (q_kB s c n)) x) := by
  refine q_CaP_of (φ := (q_oP (q_kB s c n))) (Nat.le_of_ble_eq_true rfl) ?_ h
  clear h
  unfold dz_B352_40
  refine q_RP_seg (g2 := (3, [(0, .ref 40), (1, .int a1)], [.int 63, .int a1], (q_kB s c n))) 3 (fun _ _ => rfl) ?_
  refine q_RP_bd fun r486 er486 => ?_
  refine q_RP_call (v := none) (h2 := (q_kB s c n)) rfl rfl ((dzt_B349 z L xs s c n a1 63 r486 er486).le (Nat.le_of_ble_eq_true rfl)) ?_
  show q_RP _ _ _ (6, [(0, .ref 40), (1, .int a1)], [], (q_kB s c n)) _ _
  refine q_RP_seg (g2 := (8, [(0, .ref 40), (1, .int a1)], [.int a1, .ref 40], (q_kB s c n))) 2 (fun _ _ => rfl) ?_
  refine q_RP_as fun i669 => ?_
  refine q_RP_rsT (g2 := (9, [(0, .ref 40), (1, .int a1)], [.int ((fun j => q_o40.getD j 0) (a1.toNatClampNeg))], (q_kB s c n))) rfl rfl i669 ?_
  refine q_RP_seg (g2 := (14, [(0, .ref 40), (1, .int a1)], [.int (((((fun j => q_o40.getD j 0) (a1.toNatClampNeg)) &&& 255).toUInt32 % 65536).toInt32)], (q_kB s c n))) 3 (fun _ _ => rfl) ?_
  refine q_RP_as fun i670 => ?_
  exact q_RP_ret rfl (if_pos (of_decide_eq_true i670)) rfl
def dz_B345_12 (s : q_S) (a1 : Int32) : Option (Int32) :=
  q_let (dz_B348_12 s) fun r488 => cond r488 ((dz_B352_40 s a1).bind fun r489 => cond (decide (vp_nar .char r489 = r489)) (some r489) none) (none)
set_option maxHeartbeats 4000000 in
theorem dzt_B345_12 (z L : Nat) (xs : Nat → Int32) (s : q_S) (c n : Nat) (a1 : Int32) (x : Int32) (h : dz_B345_12 s a1 = some x) : q_Ca (q_TBs z L xs) 4 345 [.ref 12, .int a1] (q_kB s c n) ((q_oP (q_kB s c n)) x) := by
  refine q_CaP_of (φ := (q_oP (q_kB s c n))) (Nat.le_of_ble_eq_true rfl) ?_ h
  clear h
  unfold dz_B345_12
  refine q_RP_seg (g2 := (1, [(0, .ref 12), (1, .int a1)], [.ref 12], (q_kB s c n))) 1 (fun _ _ => rfl) ?_
  refine q_RP_call (v := (some (.int (q_b (dz_B348_12 s))))) (h2 := (q_kB s c n)) rfl rfl ((dzt_B348_12 z L xs s c n).le (Nat.le_of_ble_eq_true rfl)) ?_
  generalize dz_B348_12 s = r488
  refine q_RP_let ?_
  show q_RP _ _ _ (4, [(0, .ref 12), (1, .int a1)], [.int (q_b r488)], (q_kB s c n)) _ _
  cases h671 : r488 with
  | true =>
    refine q_RP_cT ?_
    show q_RP _ _ _ (4, [(0, .ref 12), (1, .int a1)], [.int 1], (q_kB s c n)) _ _
    refine q_RP_seg (g2 := (12, [(0, .ref 12), (1, .int a1)], [.int a1, .ref 40], (q_kB s c n))) 4 (fun _ _ => rfl) ?_
    refine q_RP_bd fun r489 er489 => ?_
    refine q_RP_call (v := (some (.int r489))) (h2 := (q_kB s c n)) rfl rfl ((dzt_B352_40 z L xs s c n a1 r489 er489).le (Nat.le_of_ble_eq_true rfl)) ?_
    show q_RP _ _ _ (15, [(0, .ref 12), (1, .int a1)], [.int r489], (q_kB s c n)) _ _
    refine q_RP_as fun i672 => ?_
    exact q_RP_ret rfl (if_pos (of_decide_eq_true i672)) rfl
  | false =>
    refine q_RP_cF ?_
    show q_RP _ _ _ (4, [(0, .ref 12), (1, .int a1)], [.int 0], (q_kB s c n)) _ _
    exact q_RP_no
def dz_B193_64_62_13 (m : Nat) : q_S → Int32 → Int32 → Option (q_S) := Nat.rec (motive := fun _ => q_S → Int32 → Int32 → Option (q_S)) (fun _ _ _ => none) (fun _ k62 s v4 v5 =>
  cond (decide (v4 + 2 < v5)) (some s) ((dz_B345_13 s v5).bind fun r472 => (dz_B332_64 s ((s.2.1 0 3) + 1)).bind fun r473 => q_let (dz_B341_64 r473) fun r474 => cond (decide (q_b r474 = 0)) (none) (q_let (dz_B353 r473 r472) fun r475 => cond (decide (q_b r475 = 0)) (none) (cond (q_in (r473.2.1 0 3) 16) (k62 (q_sA (q_sI r473 0 3 ((r473.2.1 0 3) + 1)) 1 (upd (r473.1 1) ((r473.2.1 0 3).toNatClampNeg) (vp_nar .byte r472.toInt8.toInt32))) v4 (v5 + 1)) none)))) m
theorem dzs_B193_64_62_13 (m : Nat) (s : q_S) (v4 : Int32) (v5 : Int32) : dz_B193_64_62_13 (m + 1) s v4 v5 = (fun k62 : q_S → Int32 → Int32 → Option (q_S) =>
  cond (decide (v4 + 2 < v5)) (some s) ((dz_B345_13 s v5).bind fun r472 => (dz_B332_64 s ((s.2.1 0 3) + 1)).bind fun r473 => q_let (dz_B341_64 r473) fun r474 => cond (decide (q_b r474 = 0)) (none) (q_let (dz_B353 r473 r472) fun r475 => cond (decide (q_b r475 = 0)) (none) (cond (q_in (r473.2.1 0 3) 16) (k62 (q_sA (q_sI r473 0 3 ((r473.2.1 0 3) + 1)) 1 (upd (r473.1 1) ((r473.2.1 0 3).toNatClampNeg) (vp_nar .byte r472.toInt8.toInt32))) v4 (v5 + 1)) none)))) (dz_B193_64_62_13 m) := rfl
set_option maxHeartbeats 4000000 in
theorem dzt_B193_64_62_13 (z L : Nat) (xs : Nat → Int32) (c n : Nat) : ∀ (m : Nat) (s : q_S) (v4 : Int32) (v5 : Int32), q_RP (q_TBs z L xs) 5 193 (62, [(0, .ref 64), (3, .ref 13), (4, .int v4), (5, .int v5)], [], (q_kB s c n)) (q_oSB c n) (dz_B193_64_62_13 m s v4 v5) := by
  intro m
  induction m with
  | zero => intro s v4 v5; exact q_RP_no
  | succ m ih =>
    intro s v4 v5
    have hk62 := ih
    clear ih
    rw [dzs_B193_64_62_13]
    generalize dz_B193_64_62_13 m = k62 at hk62 ⊢
    dsimp only
    refine q_RP_seg (g2 := (68, [(0, .ref 64), (3, .ref 13), (4, .int v4), (5, .int v5)], [.int (v4 + 2), .int v5], (q_kB s c n))) 4 (fun _ _ => rfl) ?_
    cases h652 : decide (v4 + 2 < v5) with
    | true =>
      refine q_RP_cT ?_
      refine q_RP_rsT (g2 := (88, [(0, .ref 64), (3, .ref 13), (4, .int v4), (5, .int v5)], [], (q_kB s c n))) rfl rfl h652 ?_
      exact q_RP_ret rfl rfl rfl
    | false =>
      refine q_RP_cF ?_
      refine q_RP_rsF (g2 := (71, [(0, .ref 64), (3, .ref 13), (4, .int v4), (5, .int v5)], [], (q_kB s c n))) rfl rfl h652 ?_
      refine q_RP_seg (g2 := (75, [(0, .ref 64), (3, .ref 13), (4, .int v4), (5, .int v5)], [.int v5, .ref 13, .ref 64], (q_kB s c n))) 3 (fun _ _ => rfl) ?_
      refine q_RP_bd fun r472 er472 => ?_
      refine q_RP_call (v := (some (.int r472))) (h2 := (q_kB s c n)) rfl rfl ((dzt_B345_13 z L xs s c n v5 r472 er472).le (Nat.le_of_ble_eq_true rfl)) ?_
      show q_RP _ _ _ (78, [(0, .ref 64), (3, .ref 13), (4, .int v4), (5, .int v5)], [.int r472, .ref 64], (q_kB s c n)) _ _
      refine q_RP_bd fun r473 er473 => ?_
      generalize er474 : dz_B341_64 r473 = r474
      refine q_RP_let ?_
      cases h661 : decide (q_b r474 = 0) with
      | true =>
        refine q_RP_cT ?_
        exact q_RP_no
      | false =>
        refine q_RP_cF ?_
        generalize er475 : dz_B353 r473 r472 = r475
        refine q_RP_let ?_
        cases h663 : decide (q_b r475 = 0) with
        | true =>
          refine q_RP_cT ?_
          exact q_RP_no
        | false =>
          refine q_RP_cF ?_
          refine q_RP_as fun i664 => ?_
          refine q_RP_call (v := (some (.ref 64))) (h2 := (q_kB (q_sA (q_sI r473 0 3 ((r473.2.1 0 3) + 1)) 1 (upd (r473.1 1) ((r473.2.1 0 3).toNatClampNeg) (vp_nar .byte r472.toInt8.toInt32))) c n)) rfl rfl ?_ ?_
          · refine q_Ca_of (Nat.le_of_ble_eq_true rfl) ?_
            refine q_Ru_seg (g2 := (2, [(0, .ref 64), (1, .int r472)], [.int r472, .ref 64], (q_kB s c n))) 2 (fun _ _ => rfl) ?_
            refine q_Ru_call (v := (some (.ref 64))) (h2 := (q_kB (q_sA (q_sI r473 0 3 ((r473.2.1 0 3) + 1)) 1 (upd (r473.1 1) ((r473.2.1 0 3).toNatClampNeg) (vp_nar .byte r472.toInt8.toInt32))) c n)) rfl rfl ?_ ?_
            · refine q_Ca_of (Nat.le_of_ble_eq_true rfl) ?_
              refine q_Ru_seg (g2 := (7, [(0, .ref 64), (1, .int r472)], [.int ((s.2.1 0 3) + 1), .ref 64], (q_kB s c n))) 5 (fun _ _ => rfl) ?_
              refine q_Ru_call (v := none) (h2 := (q_kB r473 c n)) rfl rfl ?_ ?_
              · exact (dzt_B332_64 z L xs s c n ((s.2.1 0 3) + 1) r473 er473).le (Nat.le_of_ble_eq_true rfl)
              show q_Ru _ _ _ (10, [(0, .ref 64), (1, .int r472)], [], (q_kB r473 c n)) _
              refine q_Ru_seg (g2 := (11, [(0, .ref 64), (1, .int r472)], [.ref 64], (q_kB r473 c n))) 1 (fun _ _ => rfl) ?_
              refine q_Ru_call (v := (some (.int (q_b r474)))) (h2 := (q_kB r473 c n)) rfl rfl ?_ ?_
              · exact (q_cE (φ := (q_oB (q_kB r473 c n))) er474 (dzt_B341_64 z L xs r473 c n)).le (Nat.le_of_ble_eq_true rfl)
              show q_Ru _ _ _ (14, [(0, .ref 64), (1, .int r472)], [.int (q_b r474)], (q_kB r473 c n)) _
              refine q_Ru_rsF (g2 := (17, [(0, .ref 64), (1, .int r472)], [], (q_kB r473 c n))) rfl rfl h661 ?_
              refine q_Ru_seg (g2 := (18, [(0, .ref 64), (1, .int r472)], [.int r472], (q_kB r473 c n))) 1 (fun _ _ => rfl) ?_
              refine q_Ru_call (v := (some (.int (q_b r475)))) (h2 := (q_kB r473 c n)) rfl rfl ?_ ?_
              · exact (q_cE (φ := (q_oB (q_kB r473 c n))) er475 (dzt_B353 z L xs r473 c n r472)).le (Nat.le_of_ble_eq_true rfl)
              show q_Ru _ _ _ (21, [(0, .ref 64), (1, .int r472)], [.int (q_b r475)], (q_kB r473 c n)) _
              refine q_Ru_rsF (g2 := (24, [(0, .ref 64), (1, .int r472)], [], (q_kB r473 c n))) rfl rfl h663 ?_
              refine q_Ru_seg (g2 := (41, [(0, .ref 64), (1, .int r472)], [.int r472.toInt8.toInt32, .int (r473.2.1 0 3), .ref 65], (q_kB (q_sI r473 0 3 ((r473.2.1 0 3) + 1)) c n))) 11 (fun _ _ => rfl) ?_
              refine q_Ru_rsT (g2 := (42, [(0, .ref 64), (1, .int r472)], [], (q_kB (q_sA (q_sI r473 0 3 ((r473.2.1 0 3) + 1)) 1 (upd (r473.1 1) ((r473.2.1 0 3).toNatClampNeg) (vp_nar .byte r472.toInt8.toInt32))) c n))) rfl rfl i664 ?_
              refine q_Ru_seg (g2 := (76, [(0, .ref 64), (1, .int r472)], [.ref 64], (q_kB (q_sA (q_sI r473 0 3 ((r473.2.1 0 3) + 1)) 1 (upd (r473.1 1) ((r473.2.1 0 3).toNatClampNeg) (vp_nar .byte r472.toInt8.toInt32))) c n))) 2 (fun _ _ => rfl) ?_
              exact q_Ru_ret rfl rfl
            show q_Ru _ _ _ (5, [(0, .ref 64), (1, .int r472)], [.ref 64], (q_kB (q_sA (q_sI r473 0 3 ((r473.2.1 0 3) + 1)) 1 (upd (r473.1 1) ((r473.2.1 0 3).toNatClampNeg) (vp_nar .byte r472.toInt8.toInt32))) c n)) _
            refine q_Ru_seg (g2 := (7, [(0, .ref 64), (1, .int r472)], [.ref 64], (q_kB (q_sA (q_sI r473 0 3 ((r473.2.1 0 3) + 1)) 1 (upd (r473.1 1) ((r473.2.1 0 3).toNatClampNeg) (vp_nar .byte r472.toInt8.toInt32))) c n))) 2 (fun _ _ => rfl) ?_
            exact q_Ru_ret rfl rfl
          show q_RP _ _ _ (81, [(0, .ref 64), (3, .ref 13), (4, .int v4), (5, .int v5)], [.ref 64], (q_kB (q_sA (q_sI r473 0 3 ((r473.2.1 0 3) + 1)) 1 (upd (r473.1 1) ((r473.2.1 0 3).toNatClampNeg) (vp_nar .byte r472.toInt8.toInt32))) c n)) _ _
          refine q_RP_seg (g2 := (62, [(5, .int (v5 + 1)), (0, .ref 64), (3, .ref 13), (4, .int v4)], [], (q_kB (q_sA (q_sI r473 0 3 ((r473.2.1 0 3) + 1)) 1 (upd (r473.1 1) ((r473.2.1 0 3).toNatClampNeg) (vp_nar .byte r472.toInt8.toInt32))) c n))) 3 (fun _ _ => rfl) ?_
          exact q_RP_xt (q_xt_mk (q_mn1 1 rfl (q_mn1 2 rfl (q_mn1 3 rfl (q_mn1 0 rfl q_mn0)))) rfl) (hk62 (q_sA (q_sI r473 0 3 ((r473.2.1 0 3) + 1)) 1 (upd (r473.1 1) ((r473.2.1 0 3).toNatClampNeg) (vp_nar .byte r472.toInt8.toInt32))) v4 (v5 + 1))
def dz_B193_64_62_12 (m : Nat) : q_S → Int32 → Int32 → Option (q_S) := Nat.rec (motive := fun _ => q_S → Int32 → Int32 → Option (q_S)) (fun _ _ _ => none) (fun _ k62 s v4 v5 =>
  cond (decide (v4 + 2 < v5)) (some s) ((dz_B345_12 s v5).bind fun r490 => (dz_B332_64 s ((s.2.1 0 3) + 1)).bind fun r491 => q_let (dz_B341_64 r491) fun r492 => cond (decide (q_b r492 = 0)) (none) (q_let (dz_B353 r491 r490) fun r493 => cond (decide (q_b r493 = 0)) (none) (cond (q_in (r491.2.1 0 3) 16) (k62 (q_sA (q_sI r491 0 3 ((r491.2.1 0 3) + 1)) 1 (upd (r491.1 1) ((r491.2.1 0 3).toNatClampNeg) (vp_nar .byte r490.toInt8.toInt32))) v4 (v5 + 1)) none)))) m
theorem dzs_B193_64_62_12 (m : Nat) (s : q_S) (v4 : Int32) (v5 : Int32) : dz_B193_64_62_12 (m + 1) s v4 v5 = (fun k62 : q_S → Int32 → Int32 → Option (q_S) =>
  cond (decide (v4 + 2 < v5)) (some s) ((dz_B345_12 s v5).bind fun r490 => (dz_B332_64 s ((s.2.1 0 3) + 1)).bind fun r491 => q_let (dz_B341_64 r491) fun r492 => cond (decide (q_b r492 = 0)) (none) (q_let (dz_B353 r491 r490) fun r493 => cond (decide (q_b r493 = 0)) (none) (cond (q_in (r491.2.1 0 3) 16) (k62 (q_sA (q_sI r491 0 3 ((r491.2.1 0 3) + 1)) 1 (upd (r491.1 1) ((r491.2.1 0 3).toNatClampNeg) (vp_nar .byte r490.toInt8.toInt32))) v4 (v5 + 1)) none)))) (dz_B193_64_62_12 m) := rfl
set_option maxHeartbeats 4000000 in
theorem dzt_B193_64_62_12 (z L : Nat) (xs : Nat → Int32) (c n : Nat) : ∀ (m : Nat) (s : q_S) (v4 : Int32) (v5 : Int32), q_RP (q_TBs z L xs) 5 193 (62, [(0, .ref 64), (3, .ref 12), (4, .int v4), (5, .int v5)], [], (q_kB s c n)) (q_oSB c n) (dz_B193_64_62_12 m s v4 v5) := by
  intro m
  induction m with
  | zero => intro s v4 v5; exact q_RP_no
  | succ m ih =>
    intro s v4 v5
    have hk62 := ih
    clear ih
    rw [dzs_B193_64_62_12]
    generalize dz_B193_64_62_12 m = k62 at hk62 ⊢
    dsimp only
    refine q_RP_seg (g2 := (68, [(0, .ref 64), (3, .ref 12), (4, .int v4), (5, .int v5)], [.int (v4 + 2), .int v5], (q_kB s c n))) 4 (fun _ _ => rfl) ?_
    cases h667 : decide (v4 + 2 < v5) with
    | true =>
      refine q_RP_cT ?_
      refine q_RP_rsT (g2 := (88, [(0, .ref 64), (3, .ref 12), (4, .int v4), (5, .int v5)], [], (q_kB s c n))) rfl rfl h667 ?_
      exact q_RP_ret rfl rfl rfl
    | false =>
      refine q_RP_cF ?_
      refine q_RP_rsF (g2 := (71, [(0, .ref 64), (3, .ref 12), (4, .int v4), (5, .int v5)], [], (q_kB s c n))) rfl rfl h667 ?_
      refine q_RP_seg (g2 := (75, [(0, .ref 64), (3, .ref 12), (4, .int v4), (5, .int v5)], [.int v5, .ref 12, .ref 64], (q_kB s c n))) 3 (fun _ _ => rfl) ?_
      refine q_RP_bd fun r490 er490 => ?_
      refine q_RP_call (v := (some (.int r490))) (h2 := (q_kB s c n)) rfl rfl ((dzt_B345_12 z L xs s c n v5 r490 er490).le (Nat.le_of_ble_eq_true rfl)) ?_
      show q_RP _ _ _ (78, [(0, .ref 64), (3, .ref 12), (4, .int v4), (5, .int v5)], [.int r490, .ref 64], (q_kB s c n)) _ _
      refine q_RP_bd fun r491 er491 => ?_
      generalize er492 : dz_B341_64 r491 = r492
      refine q_RP_let ?_
      cases h673 : decide (q_b r492 = 0) with
      | true =>
        refine q_RP_cT ?_
        exact q_RP_no
      | false =>
        refine q_RP_cF ?_
        generalize er493 : dz_B353 r491 r490 = r493
        refine q_RP_let ?_
        cases h674 : decide (q_b r493 = 0) with
        | true =>
          refine q_RP_cT ?_
          exact q_RP_no
        | false =>
          refine q_RP_cF ?_
          refine q_RP_as fun i675 => ?_
          refine q_RP_call (v := (some (.ref 64))) (h2 := (q_kB (q_sA (q_sI r491 0 3 ((r491.2.1 0 3) + 1)) 1 (upd (r491.1 1) ((r491.2.1 0 3).toNatClampNeg) (vp_nar .byte r490.toInt8.toInt32))) c n)) rfl rfl ?_ ?_
          · refine q_Ca_of (Nat.le_of_ble_eq_true rfl) ?_
            refine q_Ru_seg (g2 := (2, [(0, .ref 64), (1, .int r490)], [.int r490, .ref 64], (q_kB s c n))) 2 (fun _ _ => rfl) ?_
            refine q_Ru_call (v := (some (.ref 64))) (h2 := (q_kB (q_sA (q_sI r491 0 3 ((r491.2.1 0 3) + 1)) 1 (upd (r491.1 1) ((r491.2.1 0 3).toNatClampNeg) (vp_nar .byte r490.toInt8.toInt32))) c n)) rfl rfl ?_ ?_
            · refine q_Ca_of (Nat.le_of_ble_eq_true rfl) ?_
              refine q_Ru_seg (g2 := (7, [(0, .ref 64), (1, .int r490)], [.int ((s.2.1 0 3) + 1), .ref 64], (q_kB s c n))) 5 (fun _ _ => rfl) ?_
              refine q_Ru_call (v := none) (h2 := (q_kB r491 c n)) rfl rfl ?_ ?_
              · exact (dzt_B332_64 z L xs s c n ((s.2.1 0 3) + 1) r491 er491).le (Nat.le_of_ble_eq_true rfl)
              show q_Ru _ _ _ (10, [(0, .ref 64), (1, .int r490)], [], (q_kB r491 c n)) _
              refine q_Ru_seg (g2 := (11, [(0, .ref 64), (1, .int r490)], [.ref 64], (q_kB r491 c n))) 1 (fun _ _ => rfl) ?_
              refine q_Ru_call (v := (some (.int (q_b r492)))) (h2 := (q_kB r491 c n)) rfl rfl ?_ ?_
              · exact (q_cE (φ := (q_oB (q_kB r491 c n))) er492 (dzt_B341_64 z L xs r491 c n)).le (Nat.le_of_ble_eq_true rfl)
              show q_Ru _ _ _ (14, [(0, .ref 64), (1, .int r490)], [.int (q_b r492)], (q_kB r491 c n)) _
              refine q_Ru_rsF (g2 := (17, [(0, .ref 64), (1, .int r490)], [], (q_kB r491 c n))) rfl rfl h673 ?_
              refine q_Ru_seg (g2 := (18, [(0, .ref 64), (1, .int r490)], [.int r490], (q_kB r491 c n))) 1 (fun _ _ => rfl) ?_
              refine q_Ru_call (v := (some (.int (q_b r493)))) (h2 := (q_kB r491 c n)) rfl rfl ?_ ?_
              · exact (q_cE (φ := (q_oB (q_kB r491 c n))) er493 (dzt_B353 z L xs r491 c n r490)).le (Nat.le_of_ble_eq_true rfl)
              show q_Ru _ _ _ (21, [(0, .ref 64), (1, .int r490)], [.int (q_b r493)], (q_kB r491 c n)) _
              refine q_Ru_rsF (g2 := (24, [(0, .ref 64), (1, .int r490)], [], (q_kB r491 c n))) rfl rfl h674 ?_
              refine q_Ru_seg (g2 := (41, [(0, .ref 64), (1, .int r490)], [.int r490.toInt8.toInt32, .int (r491.2.1 0 3), .ref 65], (q_kB (q_sI r491 0 3 ((r491.2.1 0 3) + 1)) c n))) 11 (fun _ _ => rfl) ?_
              refine q_Ru_rsT (g2 := (42, [(0, .ref 64), (1, .int r490)], [], (q_kB (q_sA (q_sI r491 0 3 ((r491.2.1 0 3) + 1)) 1 (upd (r491.1 1) ((r491.2.1 0 3).toNatClampNeg) (vp_nar .byte r490.toInt8.toInt32))) c n))) rfl rfl i675 ?_
              refine q_Ru_seg (g2 := (76, [(0, .ref 64), (1, .int r490)], [.ref 64], (q_kB (q_sA (q_sI r491 0 3 ((r491.2.1 0 3) + 1)) 1 (upd (r491.1 1) ((r491.2.1 0 3).toNatClampNeg) (vp_nar .byte r490.toInt8.toInt32))) c n))) 2 (fun _ _ => rfl) ?_
              exact q_Ru_ret rfl rfl
            show q_Ru _ _ _ (5, [(0, .ref 64), (1, .int r490)], [.ref 64], (q_kB (q_sA (q_sI r491 0 3 ((r491.2.1 0 3) + 1)) 1 (upd (r491.1 1) ((r491.2.1 0 3).toNatClampNeg) (vp_nar .byte r490.toInt8.toInt32))) c n)) _
            refine q_Ru_seg (g2 := (7, [(0, .ref 64), (1, .int r490)], [.ref 64], (q_kB (q_sA (q_sI r491 0 3 ((r491.2.1 0 3) + 1)) 1 (upd (r491.1 1) ((r491.2.1 0 3).toNatClampNeg) (vp_nar .byte r490.toInt8.toInt32))) c n))) 2 (fun _ _ => rfl) ?_
            exact q_Ru_ret rfl rfl
          show q_RP _ _ _ (81, [(0, .ref 64), (3, .ref 12), (4, .int v4), (5, .int v5)], [.ref 64], (q_kB (q_sA (q_sI r491 0 3 ((r491.2.1 0 3) + 1)) 1 (upd (r491.1 1) ((r491.2.1 0 3).toNatClampNeg) (vp_nar .byte r490.toInt8.toInt32))) c n)) _ _
          refine q_RP_seg (g2 := (62, [(5, .int (v5 + 1)), (0, .ref 64), (3, .ref 12), (4, .int v4)], [], (q_kB (q_sA (q_sI r491 0 3 ((r491.2.1 0 3) + 1)) 1 (upd (r491.1 1) ((r491.2.1 0 3).toNatClampNeg) (vp_nar .byte r490.toInt8.toInt32))) c n))) 3 (fun _ _ => rfl) ?_
          exact q_RP_xt (q_xt_mk (q_mn1 1 rfl (q_mn1 2 rfl (q_mn1 3 rfl (q_mn1 0 rfl q_mn0)))) rfl) (hk62 (q_sA (q_sI r491 0 3 ((r491.2.1 0 3) + 1)) 1 (upd (r491.1 1) ((r491.2.1 0 3).toNatClampNeg) (vp_nar .byte r490.toInt8.toInt32))) v4 (v5 + 1))
def dz_B193_64 (s : q_S) (a1 : Int32) : Option (q_S) :=
  q_let (dz_B185 s a1) fun r449 => cond (decide (r449 < 0)) (q_let (3 * (a1 - 128)) fun x450 => cond (decide (x450 < 0)) (q_let (dz_B344_14 s) fun r452 => (dz_B332_64 s ((s.2.1 0 3) + r452)).bind fun r453 => (dz_B343_64_14 r453 (r453.2.1 0 3)).bind fun r461 => some (q_sI r461 0 3 ((r461.2.1 0 3) + r452))) (q_let (dz_B344_13 s) fun r463 => cond (decide (x450 + 2 < r463)) (dz_B193_64_62_13 5000 s x450 x450) (q_let (dz_B344_14 s) fun r476 => (dz_B332_64 s ((s.2.1 0 3) + r476)).bind fun r477 => (dz_B343_64_14 r477 (r477.2.1 0 3)).bind fun r478 => some (q_sI r478 0 3 ((r478.2.1 0 3) + r476))))) (cond (decide (3 * r449 < 0)) (q_let (dz_B344_14 s) fun r479 => (dz_B332_64 s ((s.2.1 0 3) + r479)).bind fun r480 => (dz_B343_64_14 r480 (r480.2.1 0 3)).bind fun r481 => some (q_sI r481 0 3 ((r481.2.1 0 3) + r479))) (q_let (dz_B344_12 s) fun r483 => cond (decide ((3 * r449) + 2 < r483)) (dz_B193_64_62_12 5000 s (3 * r449) (3 * r449)) (q_let (dz_B344_14 s) fun r494 => (dz_B332_64 s ((s.2.1 0 3) + r494)).bind fun r495 => (dz_B343_64_14 r495 (r495.2.1 0 3)).bind fun r496 => some (q_sI r496 0 3 ((r496.2.1 0 3) + r494)))))
set_option maxHeartbeats 4000000 in
theorem dzt_B193_64 (z L : Nat) (xs : Nat → Int32) (s : q_S) (c n : Nat) (a1 : Int32) (x : q_S) (h : dz_B193_64 s a1 = some x) : q_Ca (q_TBs z L xs) 6 193 [.ref 64, .int a1] (q_kB s c n) ((q_oSB c n) x) := by
  refine q_CaP_of (φ := (q_oSB c n)) (Nat.le_of_ble_eq_true rfl) ?_ h
  clear h
  unfold dz_B193_64
  refine q_RP_seg (g2 := (1, [(0, .ref 64), (1, .int a1)], [.int a1], (q_kB s c n))) 1 (fun _ _ => rfl) ?_
  refine q_RP_call (v := (some (.int (dz_B185 s a1)))) (h2 := (q_kB s c n)) rfl rfl ((dzt_B185 z L xs s c n a1).le (Nat.le_of_ble_eq_true rfl)) ?_
  generalize dz_B185 s a1 = r449
  refine q_RP_let ?_
  show q_RP _ _ _ (4, [(0, .ref 64), (1, .int a1)], [.int r449], (q_kB s c n)) _ _
  refine q_RP_seg (g2 := (6, [(2, .int r449), (0, .ref 64), (1, .int a1)], [.int r449], (q_kB s c n))) 2 (fun _ _ => rfl) ?_
  cases h643 : decide (r449 < 0) with
  | true =>
    refine q_RP_cT ?_
    refine q_RP_rsT (g2 := (14, [(2, .int r449), (0, .ref 64), (1, .int a1)], [], (q_kB s c n))) rfl rfl h643 ?_
    refine q_RP_seg (g2 := (19, [(3, .ref 13), (2, .int r449), (0, .ref 64), (1, .int a1)], [.int r449, .int 3], (q_kB s c n))) 4 (fun _ _ => rfl) ?_
    refine q_RP_rsT (g2 := (26, [(3, .ref 13), (2, .int r449), (0, .ref 64), (1, .int a1)], [.int 3], (q_kB s c n))) rfl rfl h643 ?_
    refine q_RP_seg (g2 := (32, [(3, .ref 13), (2, .int r449), (0, .ref 64), (1, .int a1)], [.int (3 * (a1 - 128))], (q_kB s c n))) 4 (fun _ _ => rfl) ?_
    generalize (3 * (a1 - 128)) = x450
    refine q_RP_let ?_
    show q_RP _ _ _ (32, [(3, .ref 13), (2, .int r449), (0, .ref 64), (1, .int a1)], [.int x450], (q_kB s c n)) _ _
    refine q_RP_seg (g2 := (36, [(4, .int x450), (3, .ref 13), (2, .int r449), (0, .ref 64), (1, .int a1)], [.int x450], (q_kB s c n))) 2 (fun _ _ => rfl) ?_
    cases h644 : decide (x450 < 0) with
    | true =>
      refine q_RP_cT ?_
      refine q_RP_rsT (g2 := (50, [(4, .int x450), (3, .ref 13), (2, .int r449), (0, .ref 64), (1, .int a1)], [], (q_kB s c n))) rfl rfl h644 ?_
      refine q_RP_seg (g2 := (53, [(4, .int x450), (3, .ref 13), (2, .int r449), (0, .ref 64), (1, .int a1)], [.ref 14, .ref 64], (q_kB s c n))) 2 (fun _ _ => rfl) ?_
      generalize er452 : dz_B344_14 s = r452
      refine q_RP_let ?_
      refine q_RP_bd fun r453 er453 => ?_
      refine q_RP_bd fun r461 er461 => ?_
      refine q_RP_call (v := (some (.ref 64))) (h2 := (q_kB (q_sI r461 0 3 ((r461.2.1 0 3) + r452)) c n)) rfl rfl ?_ ?_
      · refine q_Ca_of (Nat.le_of_ble_eq_true rfl) ?_
        refine q_Ru_seg (g2 := (2, [(0, .ref 64), (1, .ref 14)], [.ref 14, .ref 64], (q_kB s c n))) 2 (fun _ _ => rfl) ?_
        refine q_Ru_call (v := (some (.ref 64))) (h2 := (q_kB (q_sI r461 0 3 ((r461.2.1 0 3) + r452)) c n)) rfl rfl ?_ ?_
        · refine q_Ca_of (Nat.le_of_ble_eq_true rfl) ?_
          refine q_Ru_seg (g2 := (10, [(0, .ref 64), (1, .ref 14)], [.ref 14], (q_kB s c n))) 3 (fun _ _ => rfl) ?_
          refine q_Ru_call (v := (some (.int r452))) (h2 := (q_kB s c n)) rfl rfl ?_ ?_
          · exact (q_cE (φ := (q_oP (q_kB s c n))) er452 (dzt_B344_14 z L xs s c n)).le (Nat.le_of_ble_eq_true rfl)
          show q_Ru _ _ _ (13, [(0, .ref 64), (1, .ref 14)], [.int r452], (q_kB s c n)) _
          refine q_Ru_seg (g2 := (21, [(2, .int r452), (0, .ref 64), (1, .ref 14)], [.int ((s.2.1 0 3) + r452), .ref 64], (q_kB s c n))) 6 (fun _ _ => rfl) ?_
          refine q_Ru_call (v := none) (h2 := (q_kB r453 c n)) rfl rfl ?_ ?_
          · exact (dzt_B332_64 z L xs s c n ((s.2.1 0 3) + r452) r453 er453).le (Nat.le_of_ble_eq_true rfl)
          show q_Ru _ _ _ (24, [(2, .int r452), (0, .ref 64), (1, .ref 14)], [], (q_kB r453 c n)) _
          refine q_Ru_seg (g2 := (30, [(2, .int r452), (0, .ref 64), (1, .ref 14)], [.ref 14, .int (r453.2.1 0 3), .ref 64], (q_kB r453 c n))) 4 (fun _ _ => rfl) ?_
          refine q_Ru_call (v := none) (h2 := (q_kB r461 c n)) rfl rfl ?_ ?_
          · exact (dzt_B343_64_14 z L xs r453 c n (r453.2.1 0 3) r461 er461).le (Nat.le_of_ble_eq_true rfl)
          show q_Ru _ _ _ (33, [(2, .int r452), (0, .ref 64), (1, .ref 14)], [], (q_kB r461 c n)) _
          refine q_Ru_seg (g2 := (44, [(2, .int r452), (0, .ref 64), (1, .ref 14)], [.ref 64], (q_kB (q_sI r461 0 3 ((r461.2.1 0 3) + r452)) c n))) 7 (fun _ _ => rfl) ?_
          exact q_Ru_ret rfl rfl
        show q_Ru _ _ _ (5, [(0, .ref 64), (1, .ref 14)], [.ref 64], (q_kB (q_sI r461 0 3 ((r461.2.1 0 3) + r452)) c n)) _
        refine q_Ru_seg (g2 := (7, [(0, .ref 64), (1, .ref 14)], [.ref 64], (q_kB (q_sI r461 0 3 ((r461.2.1 0 3) + r452)) c n))) 2 (fun _ _ => rfl) ?_
        exact q_Ru_ret rfl rfl
      show q_RP _ _ _ (56, [(4, .int x450), (3, .ref 13), (2, .int r449), (0, .ref 64), (1, .int a1)], [.ref 64], (q_kB (q_sI r461 0 3 ((r461.2.1 0 3) + r452)) c n)) _ _
      refine q_RP_seg (g2 := (57, [(4, .int x450), (3, .ref 13), (2, .int r449), (0, .ref 64), (1, .int a1)], [], (q_kB (q_sI r461 0 3 ((r461.2.1 0 3) + r452)) c n))) 1 (fun _ _ => rfl) ?_
      exact q_RP_ret rfl rfl rfl
    | false =>
      refine q_RP_cF ?_
      refine q_RP_rsF (g2 := (39, [(4, .int x450), (3, .ref 13), (2, .int r449), (0, .ref 64), (1, .int a1)], [], (q_kB s c n))) rfl rfl h644 ?_
      refine q_RP_seg (g2 := (44, [(4, .int x450), (3, .ref 13), (2, .int r449), (0, .ref 64), (1, .int a1)], [.ref 13, .int (x450 + 2)], (q_kB s c n))) 4 (fun _ _ => rfl) ?_
      refine q_RP_call (v := (some (.int (dz_B344_13 s)))) (h2 := (q_kB s c n)) rfl rfl ((dzt_B344_13 z L xs s c n).le (Nat.le_of_ble_eq_true rfl)) ?_
      generalize dz_B344_13 s = r463
      refine q_RP_let ?_
      show q_RP _ _ _ (47, [(4, .int x450), (3, .ref 13), (2, .int r449), (0, .ref 64), (1, .int a1)], [.int r463, .int (x450 + 2)], (q_kB s c n)) _ _
      cases h651 : decide (x450 + 2 < r463) with
      | true =>
        refine q_RP_cT ?_
        refine q_RP_rsT (g2 := (58, [(4, .int x450), (3, .ref 13), (2, .int r449), (0, .ref 64), (1, .int a1)], [], (q_kB s c n))) rfl rfl h651 ?_
        refine q_RP_seg (g2 := (62, [(5, .int x450), (4, .int x450), (3, .ref 13), (2, .int r449), (0, .ref 64), (1, .int a1)], [], (q_kB s c n))) 2 (fun _ _ => rfl) ?_
        exact q_RP_xt (q_xt_mk (q_mn1 4 rfl (q_mn1 2 rfl (q_mn1 1 rfl (q_mn1 0 rfl q_mn0)))) rfl) (dzt_B193_64_62_13 z L xs c n 5000 s x450 x450)
      | false =>
        refine q_RP_cF ?_
        refine q_RP_rsF (g2 := (50, [(4, .int x450), (3, .ref 13), (2, .int r449), (0, .ref 64), (1, .int a1)], [], (q_kB s c n))) rfl rfl h651 ?_
        refine q_RP_seg (g2 := (53, [(4, .int x450), (3, .ref 13), (2, .int r449), (0, .ref 64), (1, .int a1)], [.ref 14, .ref 64], (q_kB s c n))) 2 (fun _ _ => rfl) ?_
        generalize er476 : dz_B344_14 s = r476
        refine q_RP_let ?_
        refine q_RP_bd fun r477 er477 => ?_
        refine q_RP_bd fun r478 er478 => ?_
        refine q_RP_call (v := (some (.ref 64))) (h2 := (q_kB (q_sI r478 0 3 ((r478.2.1 0 3) + r476)) c n)) rfl rfl ?_ ?_
        · refine q_Ca_of (Nat.le_of_ble_eq_true rfl) ?_
          refine q_Ru_seg (g2 := (2, [(0, .ref 64), (1, .ref 14)], [.ref 14, .ref 64], (q_kB s c n))) 2 (fun _ _ => rfl) ?_
          refine q_Ru_call (v := (some (.ref 64))) (h2 := (q_kB (q_sI r478 0 3 ((r478.2.1 0 3) + r476)) c n)) rfl rfl ?_ ?_
          · refine q_Ca_of (Nat.le_of_ble_eq_true rfl) ?_
            refine q_Ru_seg (g2 := (10, [(0, .ref 64), (1, .ref 14)], [.ref 14], (q_kB s c n))) 3 (fun _ _ => rfl) ?_
            refine q_Ru_call (v := (some (.int r476))) (h2 := (q_kB s c n)) rfl rfl ?_ ?_
            · exact (q_cE (φ := (q_oP (q_kB s c n))) er476 (dzt_B344_14 z L xs s c n)).le (Nat.le_of_ble_eq_true rfl)
            show q_Ru _ _ _ (13, [(0, .ref 64), (1, .ref 14)], [.int r476], (q_kB s c n)) _
            refine q_Ru_seg (g2 := (21, [(2, .int r476), (0, .ref 64), (1, .ref 14)], [.int ((s.2.1 0 3) + r476), .ref 64], (q_kB s c n))) 6 (fun _ _ => rfl) ?_
            refine q_Ru_call (v := none) (h2 := (q_kB r477 c n)) rfl rfl ?_ ?_
            · exact (dzt_B332_64 z L xs s c n ((s.2.1 0 3) + r476) r477 er477).le (Nat.le_of_ble_eq_true rfl)
            show q_Ru _ _ _ (24, [(2, .int r476), (0, .ref 64), (1, .ref 14)], [], (q_kB r477 c n)) _
            refine q_Ru_seg (g2 := (30, [(2, .int r476), (0, .ref 64), (1, .ref 14)], [.ref 14, .int (r477.2.1 0 3), .ref 64], (q_kB r477 c n))) 4 (fun _ _ => rfl) ?_
            refine q_Ru_call (v := none) (h2 := (q_kB r478 c n)) rfl rfl ?_ ?_
            · exact (dzt_B343_64_14 z L xs r477 c n (r477.2.1 0 3) r478 er478).le (Nat.le_of_ble_eq_true rfl)
            show q_Ru _ _ _ (33, [(2, .int r476), (0, .ref 64), (1, .ref 14)], [], (q_kB r478 c n)) _
            refine q_Ru_seg (g2 := (44, [(2, .int r476), (0, .ref 64), (1, .ref 14)], [.ref 64], (q_kB (q_sI r478 0 3 ((r478.2.1 0 3) + r476)) c n))) 7 (fun _ _ => rfl) ?_
            exact q_Ru_ret rfl rfl
          show q_Ru _ _ _ (5, [(0, .ref 64), (1, .ref 14)], [.ref 64], (q_kB (q_sI r478 0 3 ((r478.2.1 0 3) + r476)) c n)) _
          refine q_Ru_seg (g2 := (7, [(0, .ref 64), (1, .ref 14)], [.ref 64], (q_kB (q_sI r478 0 3 ((r478.2.1 0 3) + r476)) c n))) 2 (fun _ _ => rfl) ?_
          exact q_Ru_ret rfl rfl
        show q_RP _ _ _ (56, [(4, .int x450), (3, .ref 13), (2, .int r449), (0, .ref 64), (1, .int a1)], [.ref 64], (q_kB (q_sI r478 0 3 ((r478.2.1 0 3) + r476)) c n)) _ _
        refine q_RP_seg (g2 := (57, [(4, .int x450), (3, .ref 13), (2, .int r449), (0, .ref 64), (1, .int a1)], [], (q_kB (q_sI r478 0 3 ((r478.2.1 0 3) + r476)) c n))) 1 (fun _ _ => rfl) ?_
        exact q_RP_ret rfl rfl rfl
  | false =>
    refine q_RP_cF ?_
    refine q_RP_rsF (g2 := (9, [(2, .int r449), (0, .ref 64), (1, .int a1)], [], (q_kB s c n))) rfl rfl h643 ?_
    refine q_RP_seg (g2 := (19, [(3, .ref 12), (2, .int r449), (0, .ref 64), (1, .int a1)], [.int r449, .int 3], (q_kB s c n))) 5 (fun _ _ => rfl) ?_
    refine q_RP_rsF (g2 := (22, [(3, .ref 12), (2, .int r449), (0, .ref 64), (1, .int a1)], [.int 3], (q_kB s c n))) rfl rfl h643 ?_
    refine q_RP_seg (g2 := (36, [(4, .int (3 * r449)), (3, .ref 12), (2, .int r449), (0, .ref 64), (1, .int a1)], [.int (3 * r449)], (q_kB s c n))) 5 (fun _ _ => rfl) ?_
    cases h665 : decide (3 * r449 < 0) with
    | true =>
      refine q_RP_cT ?_
      refine q_RP_rsT (g2 := (50, [(4, .int (3 * r449)), (3, .ref 12), (2, .int r449), (0, .ref 64), (1, .int a1)], [], (q_kB s c n))) rfl rfl h665 ?_
      refine q_RP_seg (g2 := (53, [(4, .int (3 * r449)), (3, .ref 12), (2, .int r449), (0, .ref 64), (1, .int a1)], [.ref 14, .ref 64], (q_kB s c n))) 2 (fun _ _ => rfl) ?_
      generalize er479 : dz_B344_14 s = r479
      refine q_RP_let ?_
      refine q_RP_bd fun r480 er480 => ?_
      refine q_RP_bd fun r481 er481 => ?_
      refine q_RP_call (v := (some (.ref 64))) (h2 := (q_kB (q_sI r481 0 3 ((r481.2.1 0 3) + r479)) c n)) rfl rfl ?_ ?_
      · refine q_Ca_of (Nat.le_of_ble_eq_true rfl) ?_
        refine q_Ru_seg (g2 := (2, [(0, .ref 64), (1, .ref 14)], [.ref 14, .ref 64], (q_kB s c n))) 2 (fun _ _ => rfl) ?_
        refine q_Ru_call (v := (some (.ref 64))) (h2 := (q_kB (q_sI r481 0 3 ((r481.2.1 0 3) + r479)) c n)) rfl rfl ?_ ?_
        · refine q_Ca_of (Nat.le_of_ble_eq_true rfl) ?_
          refine q_Ru_seg (g2 := (10, [(0, .ref 64), (1, .ref 14)], [.ref 14], (q_kB s c n))) 3 (fun _ _ => rfl) ?_
          refine q_Ru_call (v := (some (.int r479))) (h2 := (q_kB s c n)) rfl rfl ?_ ?_
          · exact (q_cE (φ := (q_oP (q_kB s c n))) er479 (dzt_B344_14 z L xs s c n)).le (Nat.le_of_ble_eq_true rfl)
          show q_Ru _ _ _ (13, [(0, .ref 64), (1, .ref 14)], [.int r479], (q_kB s c n)) _
          refine q_Ru_seg (g2 := (21, [(2, .int r479), (0, .ref 64), (1, .ref 14)], [.int ((s.2.1 0 3) + r479), .ref 64], (q_kB s c n))) 6 (fun _ _ => rfl) ?_
          refine q_Ru_call (v := none) (h2 := (q_kB r480 c n)) rfl rfl ?_ ?_
          · exact (dzt_B332_64 z L xs s c n ((s.2.1 0 3) + r479) r480 er480).le (Nat.le_of_ble_eq_true rfl)
          show q_Ru _ _ _ (24, [(2, .int r479), (0, .ref 64), (1, .ref 14)], [], (q_kB r480 c n)) _
          refine q_Ru_seg (g2 := (30, [(2, .int r479), (0, .ref 64), (1, .ref 14)], [.ref 14, .int (r480.2.1 0 3), .ref 64], (q_kB r480 c n))) 4 (fun _ _ => rfl) ?_
          refine q_Ru_call (v := none) (h2 := (q_kB r481 c n)) rfl rfl ?_ ?_
          · exact (dzt_B343_64_14 z L xs r480 c n (r480.2.1 0 3) r481 er481).le (Nat.le_of_ble_eq_true rfl)
          show q_Ru _ _ _ (33, [(2, .int r479), (0, .ref 64), (1, .ref 14)], [], (q_kB r481 c n)) _
          refine q_Ru_seg (g2 := (44, [(2, .int r479), (0, .ref 64), (1, .ref 14)], [.ref 64], (q_kB (q_sI r481 0 3 ((r481.2.1 0 3) + r479)) c n))) 7 (fun _ _ => rfl) ?_
          exact q_Ru_ret rfl rfl
        show q_Ru _ _ _ (5, [(0, .ref 64), (1, .ref 14)], [.ref 64], (q_kB (q_sI r481 0 3 ((r481.2.1 0 3) + r479)) c n)) _
        refine q_Ru_seg (g2 := (7, [(0, .ref 64), (1, .ref 14)], [.ref 64], (q_kB (q_sI r481 0 3 ((r481.2.1 0 3) + r479)) c n))) 2 (fun _ _ => rfl) ?_
        exact q_Ru_ret rfl rfl
      show q_RP _ _ _ (56, [(4, .int (3 * r449)), (3, .ref 12), (2, .int r449), (0, .ref 64), (1, .int a1)], [.ref 64], (q_kB (q_sI r481 0 3 ((r481.2.1 0 3) + r479)) c n)) _ _
      refine q_RP_seg (g2 := (57, [(4, .int (3 * r449)), (3, .ref 12), (2, .int r449), (0, .ref 64), (1, .int a1)], [], (q_kB (q_sI r481 0 3 ((r481.2.1 0 3) + r479)) c n))) 1 (fun _ _ => rfl) ?_
      exact q_RP_ret rfl rfl rfl
    | false =>
      refine q_RP_cF ?_
      refine q_RP_rsF (g2 := (39, [(4, .int (3 * r449)), (3, .ref 12), (2, .int r449), (0, .ref 64), (1, .int a1)], [], (q_kB s c n))) rfl rfl h665 ?_
      refine q_RP_seg (g2 := (44, [(4, .int (3 * r449)), (3, .ref 12), (2, .int r449), (0, .ref 64), (1, .int a1)], [.ref 12, .int ((3 * r449) + 2)], (q_kB s c n))) 4 (fun _ _ => rfl) ?_
      refine q_RP_call (v := (some (.int (dz_B344_12 s)))) (h2 := (q_kB s c n)) rfl rfl ((dzt_B344_12 z L xs s c n).le (Nat.le_of_ble_eq_true rfl)) ?_
      generalize dz_B344_12 s = r483
      refine q_RP_let ?_
      show q_RP _ _ _ (47, [(4, .int (3 * r449)), (3, .ref 12), (2, .int r449), (0, .ref 64), (1, .int a1)], [.int r483, .int ((3 * r449) + 2)], (q_kB s c n)) _ _
      cases h666 : decide ((3 * r449) + 2 < r483) with
      | true =>
        refine q_RP_cT ?_
        refine q_RP_rsT (g2 := (58, [(4, .int (3 * r449)), (3, .ref 12), (2, .int r449), (0, .ref 64), (1, .int a1)], [], (q_kB s c n))) rfl rfl h666 ?_
        refine q_RP_seg (g2 := (62, [(5, .int (3 * r449)), (4, .int (3 * r449)), (3, .ref 12), (2, .int r449), (0, .ref 64), (1, .int a1)], [], (q_kB s c n))) 2 (fun _ _ => rfl) ?_
        exact q_RP_xt (q_xt_mk (q_mn1 4 rfl (q_mn1 2 rfl (q_mn1 1 rfl (q_mn1 0 rfl q_mn0)))) rfl) (dzt_B193_64_62_12 z L xs c n 5000 s (3 * r449) (3 * r449))
      | false =>
        refine q_RP_cF ?_
        refine q_RP_rsF (g2 := (50, [(4, .int (3 * r449)), (3, .ref 12), (2, .int r449), (0, .ref 64), (1, .int a1)], [], (q_kB s c n))) rfl rfl h666 ?_
        refine q_RP_seg (g2 := (53, [(4, .int (3 * r449)), (3, .ref 12), (2, .int r449), (0, .ref 64), (1, .int a1)], [.ref 14, .ref 64], (q_kB s c n))) 2 (fun _ _ => rfl) ?_
        generalize er494 : dz_B344_14 s = r494
        refine q_RP_let ?_
        refine q_RP_bd fun r495 er495 => ?_
        refine q_RP_bd fun r496 er496 => ?_
        refine q_RP_call (v := (some (.ref 64))) (h2 := (q_kB (q_sI r496 0 3 ((r496.2.1 0 3) + r494)) c n)) rfl rfl ?_ ?_
        · refine q_Ca_of (Nat.le_of_ble_eq_true rfl) ?_
          refine q_Ru_seg (g2 := (2, [(0, .ref 64), (1, .ref 14)], [.ref 14, .ref 64], (q_kB s c n))) 2 (fun _ _ => rfl) ?_
          refine q_Ru_call (v := (some (.ref 64))) (h2 := (q_kB (q_sI r496 0 3 ((r496.2.1 0 3) + r494)) c n)) rfl rfl ?_ ?_
          · refine q_Ca_of (Nat.le_of_ble_eq_true rfl) ?_
            refine q_Ru_seg (g2 := (10, [(0, .ref 64), (1, .ref 14)], [.ref 14], (q_kB s c n))) 3 (fun _ _ => rfl) ?_
            refine q_Ru_call (v := (some (.int r494))) (h2 := (q_kB s c n)) rfl rfl ?_ ?_
            · exact (q_cE (φ := (q_oP (q_kB s c n))) er494 (dzt_B344_14 z L xs s c n)).le (Nat.le_of_ble_eq_true rfl)
            show q_Ru _ _ _ (13, [(0, .ref 64), (1, .ref 14)], [.int r494], (q_kB s c n)) _
            refine q_Ru_seg (g2 := (21, [(2, .int r494), (0, .ref 64), (1, .ref 14)], [.int ((s.2.1 0 3) + r494), .ref 64], (q_kB s c n))) 6 (fun _ _ => rfl) ?_
            refine q_Ru_call (v := none) (h2 := (q_kB r495 c n)) rfl rfl ?_ ?_
            · exact (dzt_B332_64 z L xs s c n ((s.2.1 0 3) + r494) r495 er495).le (Nat.le_of_ble_eq_true rfl)
            show q_Ru _ _ _ (24, [(2, .int r494), (0, .ref 64), (1, .ref 14)], [], (q_kB r495 c n)) _
            refine q_Ru_seg (g2 := (30, [(2, .int r494), (0, .ref 64), (1, .ref 14)], [.ref 14, .int (r495.2.1 0 3), .ref 64], (q_kB r495 c n))) 4 (fun _ _ => rfl) ?_
            refine q_Ru_call (v := none) (h2 := (q_kB r496 c n)) rfl rfl ?_ ?_
            · exact (dzt_B343_64_14 z L xs r495 c n (r495.2.1 0 3) r496 er496).le (Nat.le_of_ble_eq_true rfl)
            show q_Ru _ _ _ (33, [(2, .int r494), (0, .ref 64), (1, .ref 14)], [], (q_kB r496 c n)) _
            refine q_Ru_seg (g2 := (44, [(2, .int r494), (0, .ref 64), (1, .ref 14)], [.ref 64], (q_kB (q_sI r496 0 3 ((r496.2.1 0 3) + r494)) c n))) 7 (fun _ _ => rfl) ?_
            exact q_Ru_ret rfl rfl
          show q_Ru _ _ _ (5, [(0, .ref 64), (1, .ref 14)], [.ref 64], (q_kB (q_sI r496 0 3 ((r496.2.1 0 3) + r494)) c n)) _
          refine q_Ru_seg (g2 := (7, [(0, .ref 64), (1, .ref 14)], [.ref 64], (q_kB (q_sI r496 0 3 ((r496.2.1 0 3) + r494)) c n))) 2 (fun _ _ => rfl) ?_
          exact q_Ru_ret rfl rfl
        show q_RP _ _ _ (56, [(4, .int (3 * r449)), (3, .ref 12), (2, .int r449), (0, .ref 64), (1, .int a1)], [.ref 64], (q_kB (q_sI r496 0 3 ((r496.2.1 0 3) + r494)) c n)) _ _
        refine q_RP_seg (g2 := (57, [(4, .int (3 * r449)), (3, .ref 12), (2, .int r449), (0, .ref 64), (1, .int a1)], [], (q_kB (q_sI r496 0 3 ((r496.2.1 0 3) + r494)) c n))) 1 (fun _ _ => rfl) ?_
        exact q_RP_ret rfl rfl rfl
def dz_B321_16 (m : Nat) : q_S → Int32 → Int32 → Int32 → Int32 → Option (Int32) := Nat.rec (motive := fun _ => q_S → Int32 → Int32 → Int32 → Int32 → Option (Int32)) (fun _ _ _ _ _ => none) (fun _ k16 s v0 v1 v2 v3 =>
  cond (decide (v3 < 10)) (cond (decide (v2 < v0)) (some (v3 + v1)) (k16 s v0 v1 (10 * v2) (v3 + 1))) (some ((10 : Int32) + v1))) m
theorem dzs_B321_16 (m : Nat) (s : q_S) (v0 : Int32) (v1 : Int32) (v2 : Int32) (v3 : Int32) : dz_B321_16 (m + 1) s v0 v1 v2 v3 = (fun k16 : q_S → Int32 → Int32 → Int32 → Int32 → Option (Int32) =>
  cond (decide (v3 < 10)) (cond (decide (v2 < v0)) (some (v3 + v1)) (k16 s v0 v1 (10 * v2) (v3 + 1))) (some ((10 : Int32) + v1))) (dz_B321_16 m) := rfl
set_option maxHeartbeats 4000000 in
theorem dzt_B321_16 (z L : Nat) (xs : Nat → Int32) (c n : Nat) (s : q_S) : ∀ (m : Nat) (v0 : Int32) (v1 : Int32) (v2 : Int32) (v3 : Int32), q_RP (q_TBs z L xs) 0 321 (16, [(0, .int v0), (1, .int v1), (2, .int v2), (3, .int v3)], [], (q_kB s c n)) (q_oP (q_kB s c n)) (dz_B321_16 m s v0 v1 v2 v3) := by
  intro m
  induction m with
  | zero => intro v0 v1 v2 v3; exact q_RP_no
  | succ m ih =>
    intro v0 v1 v2 v3
    have hk16 := ih
    clear ih
    rw [dzs_B321_16]
    generalize dz_B321_16 m = k16 at hk16 ⊢
    dsimp only
    refine q_RP_seg (g2 := (19, [(0, .int v0), (1, .int v1), (2, .int v2), (3, .int v3)], [.int 10, .int v3], (q_kB s c n))) 2 (fun _ _ => rfl) ?_
    cases h693 : decide (v3 < 10) with
    | true =>
      refine q_RP_cT ?_
      refine q_RP_rsF (g2 := (22, [(0, .int v0), (1, .int v1), (2, .int v2), (3, .int v3)], [], (q_kB s c n))) rfl rfl (q_d_geT h693) ?_
      refine q_RP_seg (g2 := (24, [(0, .int v0), (1, .int v1), (2, .int v2), (3, .int v3)], [.int v2, .int v0], (q_kB s c n))) 2 (fun _ _ => rfl) ?_
      cases h694 : decide (v2 < v0) with
      | true =>
        refine q_RP_cT ?_
        refine q_RP_rsF (g2 := (27, [(0, .int v0), (1, .int v1), (2, .int v2), (3, .int v3)], [], (q_kB s c n))) rfl rfl (q_d_geT h694) ?_
        refine q_RP_seg (g2 := (30, [(0, .int v0), (1, .int v1), (2, .int v2), (3, .int v3)], [.int (v3 + v1)], (q_kB s c n))) 3 (fun _ _ => rfl) ?_
        exact q_RP_ret rfl rfl rfl
      | false =>
        refine q_RP_cF ?_
        refine q_RP_rsT (g2 := (31, [(0, .int v0), (1, .int v1), (2, .int v2), (3, .int v3)], [], (q_kB s c n))) rfl rfl (q_d_geF h694) ?_
        refine q_RP_seg (g2 := (16, [(3, .int (v3 + 1)), (2, .int (10 * v2)), (0, .int v0), (1, .int v1)], [], (q_kB s c n))) 6 (fun _ _ => rfl) ?_
        exact q_RP_xt (q_xt_mk (q_mn1 2 rfl (q_mn1 3 rfl (q_mn1 1 rfl (q_mn1 0 rfl q_mn0)))) rfl) (hk16 v0 v1 (10 * v2) (v3 + 1))
    | false =>
      refine q_RP_cF ?_
      refine q_RP_rsT (g2 := (42, [(0, .int v0), (1, .int v1), (2, .int v2), (3, .int v3)], [], (q_kB s c n))) rfl rfl (q_d_geF h693) ?_
      refine q_RP_seg (g2 := (46, [(0, .int v0), (1, .int v1), (2, .int v2), (3, .int v3)], [.int ((10 : Int32) + v1)], (q_kB s c n))) 3 (fun _ _ => rfl) ?_
      exact q_RP_ret rfl rfl rfl
def dz_B321 (s : q_S) (a0 : Int32) : Option (Int32) :=
  cond (decide (a0 < 0)) (dz_B321_16 5000 s a0 1 (-10) 1) (dz_B321_16 5000 s (-a0) 0 (-10) 1)
set_option maxHeartbeats 4000000 in
theorem dzt_B321 (z L : Nat) (xs : Nat → Int32) (s : q_S) (c n : Nat) (a0 : Int32) (x : Int32) (h : dz_B321 s a0 = some x) : q_Ca (q_TBs z L xs) 1 321 [.int a0] (q_kB s c n) ((q_oP (q_kB s c n)) x) := by
  refine q_CaP_of (φ := (q_oP (q_kB s c n))) (Nat.le_of_ble_eq_true rfl) ?_ h
  clear h
  unfold dz_B321
  refine q_RP_seg (g2 := (3, [(1, .int 1), (0, .int a0)], [.int a0], (q_kB s c n))) 3 (fun _ _ => rfl) ?_
  cases h692 : decide (a0 < 0) with
  | true =>
    refine q_RP_cT ?_
    refine q_RP_rsT (g2 := (11, [(1, .int 1), (0, .int a0)], [], (q_kB s c n))) rfl rfl h692 ?_
    refine q_RP_seg (g2 := (16, [(3, .int 1), (2, .int (-10)), (1, .int 1), (0, .int a0)], [], (q_kB s c n))) 4 (fun _ _ => rfl) ?_
    exact q_RP_xt (q_xt_mk (q_mn1 3 rfl (q_mn1 2 rfl (q_mn1 1 rfl (q_mn1 0 rfl q_mn0)))) rfl) (dzt_B321_16 z L xs c n s 5000 a0 1 (-10) 1)
  | false =>
    refine q_RP_cF ?_
    refine q_RP_rsF (g2 := (6, [(1, .int 1), (0, .int a0)], [], (q_kB s c n))) rfl rfl h692 ?_
    refine q_RP_seg (g2 := (16, [(3, .int 1), (2, .int (-10)), (0, .int (-a0)), (1, .int 0)], [], (q_kB s c n))) 9 (fun _ _ => rfl) ?_
    exact q_RP_xt (q_xt_mk (q_mn1 2 rfl (q_mn1 3 rfl (q_mn1 1 rfl (q_mn1 0 rfl q_mn0)))) rfl) (dzt_B321_16 z L xs c n s 5000 (-a0) 0 (-10) 1)
def dz_B347_15 (s : q_S) : Int32 :=
  0
set_option maxHeartbeats 4000000 in
theorem dzt_B347_15 (z L : Nat) (xs : Nat → Int32) (s : q_S) (c n : Nat) : q_Ca (q_TBs z L xs) 1 347 [.ref 15] (q_kB s c n) ((q_oP (q_kB s c n)) (dz_B347_15 s)) := by
  refine q_CaT_of (φ := (q_oP (q_kB s c n))) (Nat.le_of_ble_eq_true rfl) ?_
  unfold dz_B347_15
  refine q_RT_seg (g2 := (14, [(0, .ref 15)], [.int 0], (q_kB s c n))) 5 (fun _ _ => rfl) ?_
  exact q_RT_ret rfl rfl rfl
def dz_B344_15 (s : q_S) : Int32 :=
  q_let (dz_B347_15 s) fun r519 => ((2 : Int32) >>> (r519 &&& 31))
set_option maxHeartbeats 4000000 in
theorem dzt_B344_15 (z L : Nat) (xs : Nat → Int32) (s : q_S) (c n : Nat) : q_Ca (q_TBs z L xs) 2 344 [.ref 15] (q_kB s c n) ((q_oP (q_kB s c n)) (dz_B344_15 s)) := by
  refine q_CaT_of (φ := (q_oP (q_kB s c n))) (Nat.le_of_ble_eq_true rfl) ?_
  unfold dz_B344_15
  refine q_RT_seg (g2 := (6, [(0, .ref 15)], [.ref 15, .int 2], (q_kB s c n))) 4 (fun _ _ => rfl) ?_
  refine q_RT_call (v := (some (.int (dz_B347_15 s)))) (h2 := (q_kB s c n)) rfl rfl ((dzt_B347_15 z L xs s c n).le (Nat.le_of_ble_eq_true rfl)) ?_
  generalize dz_B347_15 s = r519
  refine q_RT_let ?_
  show q_RT _ _ _ (9, [(0, .ref 15)], [.int r519, .int 2], (q_kB s c n)) _ _
  refine q_RT_seg (g2 := (10, [(0, .ref 15)], [.int ((2 : Int32) >>> (r519 &&& 31))], (q_kB s c n))) 1 (fun _ _ => rfl) ?_
  exact q_RT_ret rfl rfl rfl
def dz_B342_64_15 (s : q_S) : Option (q_S) :=
  q_let (dz_B347_15 s) fun r523 => cond (decide (0 = r523)) (some s) (none)
set_option maxHeartbeats 4000000 in
theorem dzt_B342_64_15 (z L : Nat) (xs : Nat → Int32) (s : q_S) (c n : Nat) (x : q_S) (h : dz_B342_64_15 s = some x) : q_Ca (q_TBs z L xs) 2 342 [.ref 64, .ref 15] (q_kB s c n) ((q_oSB c n) x) := by
  refine q_CaP_of (φ := (q_oSB c n)) (Nat.le_of_ble_eq_true rfl) ?_ h
  clear h
  unfold dz_B342_64_15
  refine q_RP_seg (g2 := (10, [(0, .ref 64), (1, .ref 15)], [.int 0], (q_kB s c n))) 4 (fun _ _ => rfl) ?_
  refine q_RP_seg (g2 := (11, [(0, .ref 64), (1, .ref 15)], [.ref 15, .int 0], (q_kB s c n))) 1 (fun _ _ => rfl) ?_
  refine q_RP_call (v := (some (.int (dz_B347_15 s)))) (h2 := (q_kB s c n)) rfl rfl ((dzt_B347_15 z L xs s c n).le (Nat.le_of_ble_eq_true rfl)) ?_
  generalize dz_B347_15 s = r523
  refine q_RP_let ?_
  show q_RP _ _ _ (14, [(0, .ref 64), (1, .ref 15)], [.int r523, .int 0], (q_kB s c n)) _ _
  cases h700 : decide (0 = r523) with
  | true =>
    refine q_RP_cT ?_
    refine q_RP_rsT (g2 := (21, [(0, .ref 64), (1, .ref 15)], [], (q_kB s c n))) rfl rfl h700 ?_
    exact q_RP_ret rfl rfl rfl
  | false =>
    refine q_RP_cF ?_
    refine q_RP_rsF (g2 := (17, [(0, .ref 64), (1, .ref 15)], [], (q_kB s c n))) rfl rfl h700 ?_
    exact q_RP_no
def dz_B346_15_65 (s : q_S) (a2 : Int32) (a3 : Int32) : Option (q_S) :=
  q_let (dz_B347_15 s) fun r527 => cond (decide (r527 = a3)) (cond (q_cpk (a2 <<< (a3 &&& 31)) 2 16) (some (q_sA s 1 (va_cpy (fun j => q_o43.getD j 0) (s.1 1) 0 ((a2 <<< (a3 &&& 31)).toNatClampNeg) 2))) none) (none)
set_option maxHeartbeats 4000000 in
theorem dzt_B346_15_65 (z L : Nat) (xs : Nat → Int32) (s : q_S) (c n : Nat) (a2 : Int32) (a3 : Int32) (x : q_S) (h : dz_B346_15_65 s a2 a3 = some x) : q_Ca (q_TBs z L xs) 2 346 [.ref 15, .ref 65, .int a2, .int a3] (q_kB s c n) ((q_oSB c n) x) := by
  refine q_CaP_of (φ := (q_oSB c n)) (Nat.le_of_ble_eq_true rfl) ?_ h
  clear h
  unfold dz_B346_15_65
  refine q_RP_seg (g2 := (1, [(0, .ref 15), (1, .ref 65), (2, .int a2), (3, .int a3)], [.ref 15], (q_kB s c n))) 1 (fun _ _ => rfl) ?_
  refine q_RP_call (v := (some (.int (dz_B347_15 s)))) (h2 := (q_kB s c n)) rfl rfl ((dzt_B347_15 z L xs s c n).le (Nat.le_of_ble_eq_true rfl)) ?_
  generalize dz_B347_15 s = r527
  refine q_RP_let ?_
  show q_RP _ _ _ (4, [(0, .ref 15), (1, .ref 65), (2, .int a2), (3, .int a3)], [.int r527], (q_kB s c n)) _ _
  refine q_RP_seg (g2 := (5, [(0, .ref 15), (1, .ref 65), (2, .int a2), (3, .int a3)], [.int a3, .int r527], (q_kB s c n))) 1 (fun _ _ => rfl) ?_
  cases h703 : decide (r527 = a3) with
  | true =>
    refine q_RP_cT ?_
    refine q_RP_rsF (g2 := (8, [(0, .ref 15), (1, .ref 65), (2, .int a2), (3, .int a3)], [], (q_kB s c n))) rfl rfl (q_d_neT h703) ?_
    refine q_RP_seg (g2 := (22, [(0, .ref 15), (1, .ref 65), (2, .int a2), (3, .int a3)], [.int 2, .int (a2 <<< (a3 &&& 31)), .ref 65, .int 0, .ref 43], (q_kB s c n))) 10 (fun _ _ => rfl) ?_
    refine q_RP_as fun i704 => ?_
    refine q_RP_rsT (g2 := (25, [(0, .ref 15), (1, .ref 65), (2, .int a2), (3, .int a3)], [], (q_kB (q_sA s 1 (va_cpy (fun j => q_o43.getD j 0) (s.1 1) 0 ((a2 <<< (a3 &&& 31)).toNatClampNeg) 2)) c n))) rfl rfl (q_acbB i704 rfl) ?_
    refine q_RP_seg (g2 := (43, [(0, .ref 15), (1, .ref 65), (2, .int a2), (3, .int a3)], [], (q_kB (q_sA s 1 (va_cpy (fun j => q_o43.getD j 0) (s.1 1) 0 ((a2 <<< (a3 &&& 31)).toNatClampNeg) 2)) c n))) 1 (fun _ _ => rfl) ?_
    exact q_RP_ret rfl rfl rfl
  | false =>
    refine q_RP_cF ?_
    refine q_RP_rsT (g2 := (28, [(0, .ref 15), (1, .ref 65), (2, .int a2), (3, .int a3)], [], (q_kB s c n))) rfl rfl (q_d_neF h703) ?_
    exact q_RP_no
def dz_B343_64_15 (s : q_S) (a1 : Int32) : Option (q_S) :=
  (dz_B342_64_15 s).bind fun r525 => (dz_B346_15_65 r525 a1 0).bind fun r528 => some r528
set_option maxHeartbeats 4000000 in
theorem dzt_B343_64_15 (z L : Nat) (xs : Nat → Int32) (s : q_S) (c n : Nat) (a1 : Int32) (x : q_S) (h : dz_B343_64_15 s a1 = some x) : q_Ca (q_TBs z L xs) 3 343 [.ref 64, .int a1, .ref 15] (q_kB s c n) ((q_oSB c n) x) := by
  refine q_CaP_of (φ := (q_oSB c n)) (Nat.le_of_ble_eq_true rfl) ?_ h
  clear h
  unfold dz_B343_64_15
  refine q_RP_seg (g2 := (2, [(0, .ref 64), (1, .int a1), (2, .ref 15)], [.ref 15, .ref 64], (q_kB s c n))) 2 (fun _ _ => rfl) ?_
  refine q_RP_bd fun r525 er525 => ?_
  refine q_RP_call (v := none) (h2 := (q_kB r525 c n)) rfl rfl ((dzt_B342_64_15 z L xs s c n r525 er525).le (Nat.le_of_ble_eq_true rfl)) ?_
  show q_RP _ _ _ (5, [(0, .ref 64), (1, .int a1), (2, .ref 15)], [], (q_kB r525 c n)) _ _
  refine q_RP_seg (g2 := (15, [(0, .ref 64), (1, .int a1), (2, .ref 15)], [.int 0, .int a1, .ref 65, .ref 15], (q_kB r525 c n))) 6 (fun _ _ => rfl) ?_
  refine q_RP_bd fun r528 er528 => ?_
  refine q_RP_call (v := none) (h2 := (q_kB r528 c n)) rfl rfl ((dzt_B346_15_65 z L xs r525 c n a1 0 r528 er528).le (Nat.le_of_ble_eq_true rfl)) ?_
  show q_RP _ _ _ (18, [(0, .ref 64), (1, .int a1), (2, .ref 15)], [], (q_kB r528 c n)) _ _
  exact q_RP_ret rfl rfl rfl
def dz_B347_16 (s : q_S) : Int32 :=
  0
set_option maxHeartbeats 4000000 in
theorem dzt_B347_16 (z L : Nat) (xs : Nat → Int32) (s : q_S) (c n : Nat) : q_Ca (q_TBs z L xs) 1 347 [.ref 16] (q_kB s c n) ((q_oP (q_kB s c n)) (dz_B347_16 s)) := by
  refine q_CaT_of (φ := (q_oP (q_kB s c n))) (Nat.le_of_ble_eq_true rfl) ?_
  unfold dz_B347_16
  refine q_RT_seg (g2 := (14, [(0, .ref 16)], [.int 0], (q_kB s c n))) 5 (fun _ _ => rfl) ?_
  exact q_RT_ret rfl rfl rfl
def dz_B344_16 (s : q_S) : Int32 :=
  q_let (dz_B347_16 s) fun r533 => ((2 : Int32) >>> (r533 &&& 31))
set_option maxHeartbeats 4000000 in
theorem dzt_B344_16 (z L : Nat) (xs : Nat → Int32) (s : q_S) (c n : Nat) : q_Ca (q_TBs z L xs) 2 344 [.ref 16] (q_kB s c n) ((q_oP (q_kB s c n)) (dz_B344_16 s)) := by
  refine q_CaT_of (φ := (q_oP (q_kB s c n))) (Nat.le_of_ble_eq_true rfl) ?_
  unfold dz_B344_16
  refine q_RT_seg (g2 := (6, [(0, .ref 16)], [.ref 16, .int 2], (q_kB s c n))) 4 (fun _ _ => rfl) ?_
  refine q_RT_call (v := (some (.int (dz_B347_16 s)))) (h2 := (q_kB s c n)) rfl rfl ((dzt_B347_16 z L xs s c n).le (Nat.le_of_ble_eq_true rfl)) ?_
  generalize dz_B347_16 s = r533
  refine q_RT_let ?_
  show q_RT _ _ _ (9, [(0, .ref 16)], [.int r533, .int 2], (q_kB s c n)) _ _
  refine q_RT_seg (g2 := (10, [(0, .ref 16)], [.int ((2 : Int32) >>> (r533 &&& 31))], (q_kB s c n))) 1 (fun _ _ => rfl) ?_
  exact q_RT_ret rfl rfl rfl
def dz_B342_64_16 (s : q_S) : Option (q_S) :=
  q_let (dz_B347_16 s) fun r537 => cond (decide (0 = r537)) (some s) (none)
set_option maxHeartbeats 4000000 in
theorem dzt_B342_64_16 (z L : Nat) (xs : Nat → Int32) (s : q_S) (c n : Nat) (x : q_S) (h : dz_B342_64_16 s = some x) : q_Ca (q_TBs z L xs) 2 342 [.ref 64, .ref 16] (q_kB s c n) ((q_oSB c n) x) := by
  refine q_CaP_of (φ := (q_oSB c n)) (Nat.le_of_ble_eq_true rfl) ?_ h
  clear h
  unfold dz_B342_64_16
  refine q_RP_seg (g2 := (10, [(0, .ref 64), (1, .ref 16)], [.int 0], (q_kB s c n))) 4 (fun _ _ => rfl) ?_
  refine q_RP_seg (g2 := (11, [(0, .ref 64), (1, .ref 16)], [.ref 16, .int 0], (q_kB s c n))) 1 (fun _ _ => rfl) ?_
  refine q_RP_call (v := (some (.int (dz_B347_16 s)))) (h2 := (q_kB s c n)) rfl rfl ((dzt_B347_16 z L xs s c n).le (Nat.le_of_ble_eq_true rfl)) ?_
  generalize dz_B347_16 s = r537
  refine q_RP_let ?_
  show q_RP _ _ _ (14, [(0, .ref 64), (1, .ref 16)], [.int r537, .int 0], (q_kB s c n)) _ _
  cases h709 : decide (0 = r537) with
  | true =>
    refine q_RP_cT ?_
    refine q_RP_rsT (g2 := (21, [(0, .ref 64), (1, .ref 16)], [], (q_kB s c n))) rfl rfl h709 ?_
    exact q_RP_ret rfl rfl rfl
  | false =>
    refine q_RP_cF ?_
    refine q_RP_rsF (g2 := (17, [(0, .ref 64), (1, .ref 16)], [], (q_kB s c n))) rfl rfl h709 ?_
    exact q_RP_no
def dz_B346_16_65 (s : q_S) (a2 : Int32) (a3 : Int32) : Option (q_S) :=
  q_let (dz_B347_16 s) fun r541 => cond (decide (r541 = a3)) (cond (q_cpk (a2 <<< (a3 &&& 31)) 2 16) (some (q_sA s 1 (va_cpy (fun j => q_o44.getD j 0) (s.1 1) 0 ((a2 <<< (a3 &&& 31)).toNatClampNeg) 2))) none) (none)
set_option maxHeartbeats 4000000 in
theorem dzt_B346_16_65 (z L : Nat) (xs : Nat → Int32) (s : q_S) (c n : Nat) (a2 : Int32) (a3 : Int32) (x : q_S) (h : dz_B346_16_65 s a2 a3 = some x) : q_Ca (q_TBs z L xs) 2 346 [.ref 16, .ref 65, .int a2, .int a3] (q_kB s c n) ((q_oSB c n) x) := by
  refine q_CaP_of (φ := (q_oSB c n)) (Nat.le_of_ble_eq_true rfl) ?_ h
  clear h
  unfold dz_B346_16_65
  refine q_RP_seg (g2 := (1, [(0, .ref 16), (1, .ref 65), (2, .int a2), (3, .int a3)], [.ref 16], (q_kB s c n))) 1 (fun _ _ => rfl) ?_
  refine q_RP_call (v := (some (.int (dz_B347_16 s)))) (h2 := (q_kB s c n)) rfl rfl ((dzt_B347_16 z L xs s c n).le (Nat.le_of_ble_eq_true rfl)) ?_
  generalize dz_B347_16 s = r541
  refine q_RP_let ?_
  show q_RP _ _ _ (4, [(0, .ref 16), (1, .ref 65), (2, .int a2), (3, .int a3)], [.int r541], (q_kB s c n)) _ _
  refine q_RP_seg (g2 := (5, [(0, .ref 16), (1, .ref 65), (2, .int a2), (3, .int a3)], [.int a3, .int r541], (q_kB s c n))) 1 (fun _ _ => rfl) ?_
  cases h712 : decide (r541 = a3) with
  | true =>
    refine q_RP_cT ?_
    refine q_RP_rsF (g2 := (8, [(0, .ref 16), (1, .ref 65), (2, .int a2), (3, .int a3)], [], (q_kB s c n))) rfl rfl (q_d_neT h712) ?_
    refine q_RP_seg (g2 := (22, [(0, .ref 16), (1, .ref 65), (2, .int a2), (3, .int a3)], [.int 2, .int (a2 <<< (a3 &&& 31)), .ref 65, .int 0, .ref 44], (q_kB s c n))) 10 (fun _ _ => rfl) ?_
    refine q_RP_as fun i713 => ?_
    refine q_RP_rsT (g2 := (25, [(0, .ref 16), (1, .ref 65), (2, .int a2), (3, .int a3)], [], (q_kB (q_sA s 1 (va_cpy (fun j => q_o44.getD j 0) (s.1 1) 0 ((a2 <<< (a3 &&& 31)).toNatClampNeg) 2)) c n))) rfl rfl (q_acbB i713 rfl) ?_
    refine q_RP_seg (g2 := (43, [(0, .ref 16), (1, .ref 65), (2, .int a2), (3, .int a3)], [], (q_kB (q_sA s 1 (va_cpy (fun j => q_o44.getD j 0) (s.1 1) 0 ((a2 <<< (a3 &&& 31)).toNatClampNeg) 2)) c n))) 1 (fun _ _ => rfl) ?_
    exact q_RP_ret rfl rfl rfl
  | false =>
    refine q_RP_cF ?_
    refine q_RP_rsT (g2 := (28, [(0, .ref 16), (1, .ref 65), (2, .int a2), (3, .int a3)], [], (q_kB s c n))) rfl rfl (q_d_neF h712) ?_
    exact q_RP_no
def dz_B343_64_16 (s : q_S) (a1 : Int32) : Option (q_S) :=
  (dz_B342_64_16 s).bind fun r539 => (dz_B346_16_65 r539 a1 0).bind fun r542 => some r542
set_option maxHeartbeats 4000000 in
theorem dzt_B343_64_16 (z L : Nat) (xs : Nat → Int32) (s : q_S) (c n : Nat) (a1 : Int32) (x : q_S) (h : dz_B343_64_16 s a1 = some x) : q_Ca (q_TBs z L xs) 3 343 [.ref 64, .int a1, .ref 16] (q_kB s c n) ((q_oSB c n) x) := by
  refine q_CaP_of (φ := (q_oSB c n)) (Nat.le_of_ble_eq_true rfl) ?_ h
  clear h
  unfold dz_B343_64_16
  refine q_RP_seg (g2 := (2, [(0, .ref 64), (1, .int a1), (2, .ref 16)], [.ref 16, .ref 64], (q_kB s c n))) 2 (fun _ _ => rfl) ?_
  refine q_RP_bd fun r539 er539 => ?_
  refine q_RP_call (v := none) (h2 := (q_kB r539 c n)) rfl rfl ((dzt_B342_64_16 z L xs s c n r539 er539).le (Nat.le_of_ble_eq_true rfl)) ?_
  show q_RP _ _ _ (5, [(0, .ref 64), (1, .int a1), (2, .ref 16)], [], (q_kB r539 c n)) _ _
  refine q_RP_seg (g2 := (15, [(0, .ref 64), (1, .int a1), (2, .ref 16)], [.int 0, .int a1, .ref 65, .ref 16], (q_kB r539 c n))) 6 (fun _ _ => rfl) ?_
  refine q_RP_bd fun r542 er542 => ?_
  refine q_RP_call (v := none) (h2 := (q_kB r542 c n)) rfl rfl ((dzt_B346_16_65 z L xs r539 c n a1 0 r542 er542).le (Nat.le_of_ble_eq_true rfl)) ?_
  show q_RP _ _ _ (18, [(0, .ref 64), (1, .int a1), (2, .ref 16)], [], (q_kB r542 c n)) _ _
  exact q_RP_ret rfl rfl rfl
def dz_B347_17 (s : q_S) : Int32 :=
  0
set_option maxHeartbeats 4000000 in
theorem dzt_B347_17 (z L : Nat) (xs : Nat → Int32) (s : q_S) (c n : Nat) : q_Ca (q_TBs z L xs) 1 347 [.ref 17] (q_kB s c n) ((q_oP (q_kB s c n)) (dz_B347_17 s)) := by
  refine q_CaT_of (φ := (q_oP (q_kB s c n))) (Nat.le_of_ble_eq_true rfl) ?_
  unfold dz_B347_17
  refine q_RT_seg (g2 := (14, [(0, .ref 17)], [.int 0], (q_kB s c n))) 5 (fun _ _ => rfl) ?_
  exact q_RT_ret rfl rfl rfl
def dz_B344_17 (s : q_S) : Int32 :=
  q_let (dz_B347_17 s) fun r544 => ((3 : Int32) >>> (r544 &&& 31))
set_option maxHeartbeats 4000000 in
theorem dzt_B344_17 (z L : Nat) (xs : Nat → Int32) (s : q_S) (c n : Nat) : q_Ca (q_TBs z L xs) 2 344 [.ref 17] (q_kB s c n) ((q_oP (q_kB s c n)) (dz_B344_17 s)) := by
  refine q_CaT_of (φ := (q_oP (q_kB s c n))) (Nat.le_of_ble_eq_true rfl) ?_
  unfold dz_B344_17
  refine q_RT_seg (g2 := (6, [(0, .ref 17)], [.ref 17, .int 3], (q_kB s c n))) 4 (fun _ _ => rfl) ?_
  refine q_RT_call (v := (some (.int (dz_B347_17 s)))) (h2 := (q_kB s c n)) rfl rfl ((dzt_B347_17 z L xs s c n).le (Nat.le_of_ble_eq_true rfl)) ?_
  generalize dz_B347_17 s = r544
  refine q_RT_let ?_
  show q_RT _ _ _ (9, [(0, .ref 17)], [.int r544, .int 3], (q_kB s c n)) _ _
  refine q_RT_seg (g2 := (10, [(0, .ref 17)], [.int ((3 : Int32) >>> (r544 &&& 31))], (q_kB s c n))) 1 (fun _ _ => rfl) ?_
  exact q_RT_ret rfl rfl rfl
def dz_B342_64_17 (s : q_S) : Option (q_S) :=
  q_let (dz_B347_17 s) fun r548 => cond (decide (0 = r548)) (some s) (none)
set_option maxHeartbeats 4000000 in
theorem dzt_B342_64_17 (z L : Nat) (xs : Nat → Int32) (s : q_S) (c n : Nat) (x : q_S) (h : dz_B342_64_17 s = some x) : q_Ca (q_TBs z L xs) 2 342 [.ref 64, .ref 17] (q_kB s c n) ((q_oSB c n) x) := by
  refine q_CaP_of (φ := (q_oSB c n)) (Nat.le_of_ble_eq_true rfl) ?_ h
  clear h
  unfold dz_B342_64_17
  refine q_RP_seg (g2 := (10, [(0, .ref 64), (1, .ref 17)], [.int 0], (q_kB s c n))) 4 (fun _ _ => rfl) ?_
  refine q_RP_seg (g2 := (11, [(0, .ref 64), (1, .ref 17)], [.ref 17, .int 0], (q_kB s c n))) 1 (fun _ _ => rfl) ?_
  refine q_RP_call (v := (some (.int (dz_B347_17 s)))) (h2 := (q_kB s c n)) rfl rfl ((dzt_B347_17 z L xs s c n).le (Nat.le_of_ble_eq_true rfl)) ?_
  generalize dz_B347_17 s = r548
  refine q_RP_let ?_
  show q_RP _ _ _ (14, [(0, .ref 64), (1, .ref 17)], [.int r548, .int 0], (q_kB s c n)) _ _
  cases h716 : decide (0 = r548) with
  | true =>
    refine q_RP_cT ?_
    refine q_RP_rsT (g2 := (21, [(0, .ref 64), (1, .ref 17)], [], (q_kB s c n))) rfl rfl h716 ?_
    exact q_RP_ret rfl rfl rfl
  | false =>
    refine q_RP_cF ?_
    refine q_RP_rsF (g2 := (17, [(0, .ref 64), (1, .ref 17)], [], (q_kB s c n))) rfl rfl h716 ?_
    exact q_RP_no
def dz_B346_17_65 (s : q_S) (a2 : Int32) (a3 : Int32) : Option (q_S) :=
  q_let (dz_B347_17 s) fun r552 => cond (decide (r552 = a3)) (cond (q_cpk (a2 <<< (a3 &&& 31)) 3 16) (some (q_sA s 1 (va_cpy (fun j => q_o45.getD j 0) (s.1 1) 0 ((a2 <<< (a3 &&& 31)).toNatClampNeg) 3))) none) (none)
set_option maxHeartbeats 4000000 in
theorem dzt_B346_17_65 (z L : Nat) (xs : Nat → Int32) (s : q_S) (c n : Nat) (a2 : Int32) (a3 : Int32) (x : q_S) (h : dz_B346_17_65 s a2 a3 = some x) : q_Ca (q_TBs z L xs) 2 346 [.ref 17, .ref 65, .int a2, .int a3] (q_kB s c n) ((q_oSB c n) x) := by
  refine q_CaP_of (φ := (q_oSB c n)) (Nat.le_of_ble_eq_true rfl) ?_ h
  clear h
  unfold dz_B346_17_65
  refine q_RP_seg (g2 := (1, [(0, .ref 17), (1, .ref 65), (2, .int a2), (3, .int a3)], [.ref 17], (q_kB s c n))) 1 (fun _ _ => rfl) ?_
  refine q_RP_call (v := (some (.int (dz_B347_17 s)))) (h2 := (q_kB s c n)) rfl rfl ((dzt_B347_17 z L xs s c n).le (Nat.le_of_ble_eq_true rfl)) ?_
  generalize dz_B347_17 s = r552
  refine q_RP_let ?_
  show q_RP _ _ _ (4, [(0, .ref 17), (1, .ref 65), (2, .int a2), (3, .int a3)], [.int r552], (q_kB s c n)) _ _
  refine q_RP_seg (g2 := (5, [(0, .ref 17), (1, .ref 65), (2, .int a2), (3, .int a3)], [.int a3, .int r552], (q_kB s c n))) 1 (fun _ _ => rfl) ?_
  cases h719 : decide (r552 = a3) with
  | true =>
    refine q_RP_cT ?_
    refine q_RP_rsF (g2 := (8, [(0, .ref 17), (1, .ref 65), (2, .int a2), (3, .int a3)], [], (q_kB s c n))) rfl rfl (q_d_neT h719) ?_
    refine q_RP_seg (g2 := (22, [(0, .ref 17), (1, .ref 65), (2, .int a2), (3, .int a3)], [.int 3, .int (a2 <<< (a3 &&& 31)), .ref 65, .int 0, .ref 45], (q_kB s c n))) 10 (fun _ _ => rfl) ?_
    refine q_RP_as fun i720 => ?_
    refine q_RP_rsT (g2 := (25, [(0, .ref 17), (1, .ref 65), (2, .int a2), (3, .int a3)], [], (q_kB (q_sA s 1 (va_cpy (fun j => q_o45.getD j 0) (s.1 1) 0 ((a2 <<< (a3 &&& 31)).toNatClampNeg) 3)) c n))) rfl rfl (q_acbB i720 rfl) ?_
    refine q_RP_seg (g2 := (43, [(0, .ref 17), (1, .ref 65), (2, .int a2), (3, .int a3)], [], (q_kB (q_sA s 1 (va_cpy (fun j => q_o45.getD j 0) (s.1 1) 0 ((a2 <<< (a3 &&& 31)).toNatClampNeg) 3)) c n))) 1 (fun _ _ => rfl) ?_
    exact q_RP_ret rfl rfl rfl
  | false =>
    refine q_RP_cF ?_
    refine q_RP_rsT (g2 := (28, [(0, .ref 17), (1, .ref 65), (2, .int a2), (3, .int a3)], [], (q_kB s c n))) rfl rfl (q_d_neF h719) ?_
    exact q_RP_no
def dz_B343_64_17 (s : q_S) (a1 : Int32) : Option (q_S) :=
  (dz_B342_64_17 s).bind fun r550 => (dz_B346_17_65 r550 a1 0).bind fun r553 => some r553
set_option maxHeartbeats 4000000 in
theorem dzt_B343_64_17 (z L : Nat) (xs : Nat → Int32) (s : q_S) (c n : Nat) (a1 : Int32) (x : q_S) (h : dz_B343_64_17 s a1 = some x) : q_Ca (q_TBs z L xs) 3 343 [.ref 64, .int a1, .ref 17] (q_kB s c n) ((q_oSB c n) x) := by
  refine q_CaP_of (φ := (q_oSB c n)) (Nat.le_of_ble_eq_true rfl) ?_ h
  clear h
  unfold dz_B343_64_17
  refine q_RP_seg (g2 := (2, [(0, .ref 64), (1, .int a1), (2, .ref 17)], [.ref 17, .ref 64], (q_kB s c n))) 2 (fun _ _ => rfl) ?_
  refine q_RP_bd fun r550 er550 => ?_
  refine q_RP_call (v := none) (h2 := (q_kB r550 c n)) rfl rfl ((dzt_B342_64_17 z L xs s c n r550 er550).le (Nat.le_of_ble_eq_true rfl)) ?_
  show q_RP _ _ _ (5, [(0, .ref 64), (1, .int a1), (2, .ref 17)], [], (q_kB r550 c n)) _ _
  refine q_RP_seg (g2 := (15, [(0, .ref 64), (1, .int a1), (2, .ref 17)], [.int 0, .int a1, .ref 65, .ref 17], (q_kB r550 c n))) 6 (fun _ _ => rfl) ?_
  refine q_RP_bd fun r553 er553 => ?_
  refine q_RP_call (v := none) (h2 := (q_kB r553 c n)) rfl rfl ((dzt_B346_17_65 z L xs r550 c n a1 0 r553 er553).le (Nat.le_of_ble_eq_true rfl)) ?_
  show q_RP _ _ _ (18, [(0, .ref 64), (1, .int a1), (2, .ref 17)], [], (q_kB r553 c n)) _ _
  exact q_RP_ret rfl rfl rfl
def dz_B347_18 (s : q_S) : Int32 :=
  0
set_option maxHeartbeats 4000000 in
theorem dzt_B347_18 (z L : Nat) (xs : Nat → Int32) (s : q_S) (c n : Nat) : q_Ca (q_TBs z L xs) 1 347 [.ref 18] (q_kB s c n) ((q_oP (q_kB s c n)) (dz_B347_18 s)) := by
  refine q_CaT_of (φ := (q_oP (q_kB s c n))) (Nat.le_of_ble_eq_true rfl) ?_
  unfold dz_B347_18
  refine q_RT_seg (g2 := (14, [(0, .ref 18)], [.int 0], (q_kB s c n))) 5 (fun _ _ => rfl) ?_
  exact q_RT_ret rfl rfl rfl
def dz_B344_18 (s : q_S) : Int32 :=
  q_let (dz_B347_18 s) fun r555 => ((3 : Int32) >>> (r555 &&& 31))
set_option maxHeartbeats 4000000 in
theorem dzt_B344_18 (z L : Nat) (xs : Nat → Int32) (s : q_S) (c n : Nat) : q_Ca (q_TBs z L xs) 2 344 [.ref 18] (q_kB s c n) ((q_oP (q_kB s c n)) (dz_B344_18 s)) := by
  refine q_CaT_of (φ := (q_oP (q_kB s c n))) (Nat.le_of_ble_eq_true rfl) ?_
  unfold dz_B344_18
  refine q_RT_seg (g2 := (6, [(0, .ref 18)], [.ref 18, .int 3], (q_kB s c n))) 4 (fun _ _ => rfl) ?_
  refine q_RT_call (v := (some (.int (dz_B347_18 s)))) (h2 := (q_kB s c n)) rfl rfl ((dzt_B347_18 z L xs s c n).le (Nat.le_of_ble_eq_true rfl)) ?_
  generalize dz_B347_18 s = r555
  refine q_RT_let ?_
  show q_RT _ _ _ (9, [(0, .ref 18)], [.int r555, .int 3], (q_kB s c n)) _ _
  refine q_RT_seg (g2 := (10, [(0, .ref 18)], [.int ((3 : Int32) >>> (r555 &&& 31))], (q_kB s c n))) 1 (fun _ _ => rfl) ?_
  exact q_RT_ret rfl rfl rfl
def dz_B342_64_18 (s : q_S) : Option (q_S) :=
  q_let (dz_B347_18 s) fun r559 => cond (decide (0 = r559)) (some s) (none)
set_option maxHeartbeats 4000000 in
theorem dzt_B342_64_18 (z L : Nat) (xs : Nat → Int32) (s : q_S) (c n : Nat) (x : q_S) (h : dz_B342_64_18 s = some x) : q_Ca (q_TBs z L xs) 2 342 [.ref 64, .ref 18] (q_kB s c n) ((q_oSB c n) x) := by
  refine q_CaP_of (φ := (q_oSB c n)) (Nat.le_of_ble_eq_true rfl) ?_ h
  clear h
  unfold dz_B342_64_18
  refine q_RP_seg (g2 := (10, [(0, .ref 64), (1, .ref 18)], [.int 0], (q_kB s c n))) 4 (fun _ _ => rfl) ?_
  refine q_RP_seg (g2 := (11, [(0, .ref 64), (1, .ref 18)], [.ref 18, .int 0], (q_kB s c n))) 1 (fun _ _ => rfl) ?_
  refine q_RP_call (v := (some (.int (dz_B347_18 s)))) (h2 := (q_kB s c n)) rfl rfl ((dzt_B347_18 z L xs s c n).le (Nat.le_of_ble_eq_true rfl)) ?_
  generalize dz_B347_18 s = r559
  refine q_RP_let ?_
  show q_RP _ _ _ (14, [(0, .ref 64), (1, .ref 18)], [.int r559, .int 0], (q_kB s c n)) _ _
  cases h723 : decide (0 = r559) with
  | true =>
    refine q_RP_cT ?_
    refine q_RP_rsT (g2 := (21, [(0, .ref 64), (1, .ref 18)], [], (q_kB s c n))) rfl rfl h723 ?_
    exact q_RP_ret rfl rfl rfl
  | false =>
    refine q_RP_cF ?_
    refine q_RP_rsF (g2 := (17, [(0, .ref 64), (1, .ref 18)], [], (q_kB s c n))) rfl rfl h723 ?_
    exact q_RP_no
def dz_B346_18_65 (s : q_S) (a2 : Int32) (a3 : Int32) : Option (q_S) :=
  q_let (dz_B347_18 s) fun r563 => cond (decide (r563 = a3)) (cond (q_cpk (a2 <<< (a3 &&& 31)) 3 16) (some (q_sA s 1 (va_cpy (fun j => q_o46.getD j 0) (s.1 1) 0 ((a2 <<< (a3 &&& 31)).toNatClampNeg) 3))) none) (none)
set_option maxHeartbeats 4000000 in
theorem dzt_B346_18_65 (z L : Nat) (xs : Nat → Int32) (s : q_S) (c n : Nat) (a2 : Int32) (a3 : Int32) (x : q_S) (h : dz_B346_18_65 s a2 a3 = some x) : q_Ca (q_TBs z L xs) 2 346 [.ref 18, .ref 65, .int a2, .int a3] (q_kB s c n) ((q_oSB c n) x) := by
  refine q_CaP_of (φ := (q_oSB c n)) (Nat.le_of_ble_eq_true rfl) ?_ h
  clear h
  unfold dz_B346_18_65
  refine q_RP_seg (g2 := (1, [(0, .ref 18), (1, .ref 65), (2, .int a2), (3, .int a3)], [.ref 18], (q_kB s c n))) 1 (fun _ _ => rfl) ?_
  refine q_RP_call (v := (some (.int (dz_B347_18 s)))) (h2 := (q_kB s c n)) rfl rfl ((dzt_B347_18 z L xs s c n).le (Nat.le_of_ble_eq_true rfl)) ?_
  generalize dz_B347_18 s = r563
  refine q_RP_let ?_
  show q_RP _ _ _ (4, [(0, .ref 18), (1, .ref 65), (2, .int a2), (3, .int a3)], [.int r563], (q_kB s c n)) _ _
  refine q_RP_seg (g2 := (5, [(0, .ref 18), (1, .ref 65), (2, .int a2), (3, .int a3)], [.int a3, .int r563], (q_kB s c n))) 1 (fun _ _ => rfl) ?_
  cases h726 : decide (r563 = a3) with
  | true =>
    refine q_RP_cT ?_
    refine q_RP_rsF (g2 := (8, [(0, .ref 18), (1, .ref 65), (2, .int a2), (3, .int a3)], [], (q_kB s c n))) rfl rfl (q_d_neT h726) ?_
    refine q_RP_seg (g2 := (22, [(0, .ref 18), (1, .ref 65), (2, .int a2), (3, .int a3)], [.int 3, .int (a2 <<< (a3 &&& 31)), .ref 65, .int 0, .ref 46], (q_kB s c n))) 10 (fun _ _ => rfl) ?_
    refine q_RP_as fun i727 => ?_
    refine q_RP_rsT (g2 := (25, [(0, .ref 18), (1, .ref 65), (2, .int a2), (3, .int a3)], [], (q_kB (q_sA s 1 (va_cpy (fun j => q_o46.getD j 0) (s.1 1) 0 ((a2 <<< (a3 &&& 31)).toNatClampNeg) 3)) c n))) rfl rfl (q_acbB i727 rfl) ?_
    refine q_RP_seg (g2 := (43, [(0, .ref 18), (1, .ref 65), (2, .int a2), (3, .int a3)], [], (q_kB (q_sA s 1 (va_cpy (fun j => q_o46.getD j 0) (s.1 1) 0 ((a2 <<< (a3 &&& 31)).toNatClampNeg) 3)) c n))) 1 (fun _ _ => rfl) ?_
    exact q_RP_ret rfl rfl rfl
  | false =>
    refine q_RP_cF ?_
    refine q_RP_rsT (g2 := (28, [(0, .ref 18), (1, .ref 65), (2, .int a2), (3, .int a3)], [], (q_kB s c n))) rfl rfl (q_d_neF h726) ?_
    exact q_RP_no
def dz_B343_64_18 (s : q_S) (a1 : Int32) : Option (q_S) :=
  (dz_B342_64_18 s).bind fun r561 => (dz_B346_18_65 r561 a1 0).bind fun r564 => some r564
set_option maxHeartbeats 4000000 in
theorem dzt_B343_64_18 (z L : Nat) (xs : Nat → Int32) (s : q_S) (c n : Nat) (a1 : Int32) (x : q_S) (h : dz_B343_64_18 s a1 = some x) : q_Ca (q_TBs z L xs) 3 343 [.ref 64, .int a1, .ref 18] (q_kB s c n) ((q_oSB c n) x) := by
  refine q_CaP_of (φ := (q_oSB c n)) (Nat.le_of_ble_eq_true rfl) ?_ h
  clear h
  unfold dz_B343_64_18
  refine q_RP_seg (g2 := (2, [(0, .ref 64), (1, .int a1), (2, .ref 18)], [.ref 18, .ref 64], (q_kB s c n))) 2 (fun _ _ => rfl) ?_
  refine q_RP_bd fun r561 er561 => ?_
  refine q_RP_call (v := none) (h2 := (q_kB r561 c n)) rfl rfl ((dzt_B342_64_18 z L xs s c n r561 er561).le (Nat.le_of_ble_eq_true rfl)) ?_
  show q_RP _ _ _ (5, [(0, .ref 64), (1, .int a1), (2, .ref 18)], [], (q_kB r561 c n)) _ _
  refine q_RP_seg (g2 := (15, [(0, .ref 64), (1, .int a1), (2, .ref 18)], [.int 0, .int a1, .ref 65, .ref 18], (q_kB r561 c n))) 6 (fun _ _ => rfl) ?_
  refine q_RP_bd fun r564 er564 => ?_
  refine q_RP_call (v := none) (h2 := (q_kB r564 c n)) rfl rfl ((dzt_B346_18_65 z L xs r561 c n a1 0 r564 er564).le (Nat.le_of_ble_eq_true rfl)) ?_
  show q_RP _ _ _ (18, [(0, .ref 64), (1, .int a1), (2, .ref 18)], [], (q_kB r564 c n)) _ _
  exact q_RP_ret rfl rfl rfl
def dz_B196_64_34 (s : q_S) (v1 : Int32) (v2 : Int32) : Option (q_S) :=
  (dz_B321 s v2).bind fun r515 => (dz_B332_64 s ((s.2.1 0 3) + r515)).bind fun r516 => q_let (dz_B341_64 r516) fun r517 => cond (decide (q_b r517 = 0)) (none) ((dz_B320_65 r516 v2 ((s.2.1 0 3) + r515)).bind fun r518 => cond (decide (v1 < 2)) (some (q_sI r518.1 0 3 ((s.2.1 0 3) + r515))) (cond (decide (8 < v1)) (some (q_sI r518.1 0 3 ((s.2.1 0 3) + r515))) (cond (decide (v1 = 2)) (q_let (dz_B344_15 (q_sI r518.1 0 3 ((s.2.1 0 3) + r515))) fun r520 => (dz_B332_64 (q_sI r518.1 0 3 ((s.2.1 0 3) + r515)) (((s.2.1 0 3) + r515) + r520)).bind fun r521 => (dz_B343_64_15 r521 (r521.2.1 0 3)).bind fun r529 => some (q_sI r529 0 3 ((r529.2.1 0 3) + r520))) (cond (decide (v1 = 3)) (some (q_sI r518.1 0 3 ((s.2.1 0 3) + r515))) (cond (decide (v1 = 4)) (q_let (dz_B344_15 (q_sI r518.1 0 3 ((s.2.1 0 3) + r515))) fun r530 => (dz_B332_64 (q_sI r518.1 0 3 ((s.2.1 0 3) + r515)) (((s.2.1 0 3) + r515) + r530)).bind fun r531 => (dz_B343_64_15 r531 (r531.2.1 0 3)).bind fun r532 => some (q_sI r532 0 3 ((r532.2.1 0 3) + r530))) (cond (decide (v1 = 5)) (q_let (dz_B344_16 (q_sI r518.1 0 3 ((s.2.1 0 3) + r515))) fun r534 => (dz_B332_64 (q_sI r518.1 0 3 ((s.2.1 0 3) + r515)) (((s.2.1 0 3) + r515) + r534)).bind fun r535 => (dz_B343_64_16 r535 (r535.2.1 0 3)).bind fun r543 => some (q_sI r543 0 3 ((r543.2.1 0 3) + r534))) (cond (decide (v1 = 6)) (q_let (dz_B344_17 (q_sI r518.1 0 3 ((s.2.1 0 3) + r515))) fun r545 => (dz_B332_64 (q_sI r518.1 0 3 ((s.2.1 0 3) + r515)) (((s.2.1 0 3) + r515) + r545)).bind fun r546 => (dz_B343_64_17 r546 (r546.2.1 0 3)).bind fun r554 => some (q_sI r554 0 3 ((r554.2.1 0 3) + r545))) (cond (decide (v1 = 7)) (q_let (dz_B344_18 (q_sI r518.1 0 3 ((s.2.1 0 3) + r515))) fun r556 => (dz_B332_64 (q_sI r518.1 0 3 ((s.2.1 0 3) + r515)) (((s.2.1 0 3) + r515) + r556)).bind fun r557 => (dz_B343_64_18 r557 (r557.2.1 0 3)).bind fun r565 => some (q_sI r565 0 3 ((r565.2.1 0 3) + r556))) ((dz_B332_64 (q_sI r518.1 0 3 ((s.2.1 0 3) + r515)) (((s.2.1 0 3) + r515) + 1)).bind fun r566 => q_let (dz_B341_64 r566) fun r567 => cond (decide (q_b r567 = 0)) (none) (q_let (dz_B353 r566 41) fun r568 => cond (decide (q_b r568 = 0)) (none) (cond (q_in (r566.2.1 0 3) 16) (some (q_sA (q_sI r566 0 3 ((r566.2.1 0 3) + 1)) 1 (upd (r566.1 1) ((r566.2.1 0 3).toNatClampNeg) 41))) none)))))))))))
set_option maxHeartbeats 4000000 in
theorem dzt_B196_64_34 (z L : Nat) (xs : Nat → Int32) (c n : Nat) (s : q_S) (v1 : Int32) (v2 : Int32) : q_RP (q_TBs z L xs) 5 196 (34, [(0, .ref 64), (1, .int v1), (2, .int v2)], [], (q_kB s c n)) (q_oSB c n) (dz_B196_64_34 s v1 v2) := by
  unfold dz_B196_64_34
  refine q_RP_seg (g2 := (36, [(0, .ref 64), (1, .int v1), (2, .int v2)], [.int v2, .ref 64], (q_kB s c n))) 2 (fun _ _ => rfl) ?_
  refine q_RP_bd fun r515 er515 => ?_
  refine q_RP_bd fun r516 er516 => ?_
  generalize er517 : dz_B341_64 r516 = r517
  refine q_RP_let ?_
  cases h695 : decide (q_b r517 = 0) with
  | true =>
    refine q_RP_cT ?_
    exact q_RP_no
  | false =>
    refine q_RP_cF ?_
    refine q_RP_bd fun r518 er518 => ?_
    refine q_RP_call (v := (some (.ref 64))) (h2 := (q_kB (q_sI r518.1 0 3 ((s.2.1 0 3) + r515)) c n)) rfl rfl ?_ ?_
    · refine q_Ca_of (Nat.le_of_ble_eq_true rfl) ?_
      refine q_Ru_seg (g2 := (2, [(0, .ref 64), (1, .int v2)], [.int v2, .ref 64], (q_kB s c n))) 2 (fun _ _ => rfl) ?_
      refine q_Ru_call (v := (some (.ref 64))) (h2 := (q_kB (q_sI r518.1 0 3 ((s.2.1 0 3) + r515)) c n)) rfl rfl ?_ ?_
      · refine q_Ca_of (Nat.le_of_ble_eq_true rfl) ?_
        refine q_Ru_seg (g2 := (7, [(2, .int (s.2.1 0 3)), (0, .ref 64), (1, .int v2)], [.int v2, .int (s.2.1 0 3)], (q_kB s c n))) 5 (fun _ _ => rfl) ?_
        refine q_Ru_call (v := (some (.int r515))) (h2 := (q_kB s c n)) rfl rfl ?_ ?_
        · exact (dzt_B321 z L xs s c n v2 r515 er515).le (Nat.le_of_ble_eq_true rfl)
        show q_Ru _ _ _ (10, [(2, .int (s.2.1 0 3)), (0, .ref 64), (1, .int v2)], [.int r515, .int (s.2.1 0 3)], (q_kB s c n)) _
        refine q_Ru_seg (g2 := (14, [(3, .int ((s.2.1 0 3) + r515)), (2, .int (s.2.1 0 3)), (0, .ref 64), (1, .int v2)], [.int ((s.2.1 0 3) + r515), .ref 64], (q_kB s c n))) 4 (fun _ _ => rfl) ?_
        refine q_Ru_call (v := none) (h2 := (q_kB r516 c n)) rfl rfl ?_ ?_
        · exact (dzt_B332_64 z L xs s c n ((s.2.1 0 3) + r515) r516 er516).le (Nat.le_of_ble_eq_true rfl)
        show q_Ru _ _ _ (17, [(3, .int ((s.2.1 0 3) + r515)), (2, .int (s.2.1 0 3)), (0, .ref 64), (1, .int v2)], [], (q_kB r516 c n)) _
        refine q_Ru_seg (g2 := (18, [(3, .int ((s.2.1 0 3) + r515)), (2, .int (s.2.1 0 3)), (0, .ref 64), (1, .int v2)], [.ref 64], (q_kB r516 c n))) 1 (fun _ _ => rfl) ?_
        refine q_Ru_call (v := (some (.int (q_b r517)))) (h2 := (q_kB r516 c n)) rfl rfl ?_ ?_
        · exact (q_cE (φ := (q_oB (q_kB r516 c n))) er517 (dzt_B341_64 z L xs r516 c n)).le (Nat.le_of_ble_eq_true rfl)
        show q_Ru _ _ _ (21, [(3, .int ((s.2.1 0 3) + r515)), (2, .int (s.2.1 0 3)), (0, .ref 64), (1, .int v2)], [.int (q_b r517)], (q_kB r516 c n)) _
        refine q_Ru_rsF (g2 := (24, [(3, .int ((s.2.1 0 3) + r515)), (2, .int (s.2.1 0 3)), (0, .ref 64), (1, .int v2)], [], (q_kB r516 c n))) rfl rfl h695 ?_
        refine q_Ru_seg (g2 := (30, [(3, .int ((s.2.1 0 3) + r515)), (2, .int (s.2.1 0 3)), (0, .ref 64), (1, .int v2)], [.ref 65, .int ((s.2.1 0 3) + r515), .int v2], (q_kB r516 c n))) 4 (fun _ _ => rfl) ?_
        refine q_Ru_call (v := (some (.int r518.2))) (h2 := (q_kB r518.1 c n)) rfl rfl ?_ ?_
        · exact (dzt_B320_65 z L xs r516 c n v2 ((s.2.1 0 3) + r515) r518 er518).le (Nat.le_of_ble_eq_true rfl)
        show q_Ru _ _ _ (33, [(3, .int ((s.2.1 0 3) + r515)), (2, .int (s.2.1 0 3)), (0, .ref 64), (1, .int v2)], [.int r518.2], (q_kB r518.1 c n)) _
        refine q_Ru_seg (g2 := (54, [(3, .int ((s.2.1 0 3) + r515)), (2, .int (s.2.1 0 3)), (0, .ref 64), (1, .int v2)], [.ref 64], (q_kB (q_sI r518.1 0 3 ((s.2.1 0 3) + r515)) c n))) 6 (fun _ _ => rfl) ?_
        exact q_Ru_ret rfl rfl
      show q_Ru _ _ _ (5, [(0, .ref 64), (1, .int v2)], [.ref 64], (q_kB (q_sI r518.1 0 3 ((s.2.1 0 3) + r515)) c n)) _
      refine q_Ru_seg (g2 := (7, [(0, .ref 64), (1, .int v2)], [.ref 64], (q_kB (q_sI r518.1 0 3 ((s.2.1 0 3) + r515)) c n))) 2 (fun _ _ => rfl) ?_
      exact q_Ru_ret rfl rfl
    show q_RP _ _ _ (39, [(0, .ref 64), (1, .int v1), (2, .int v2)], [.ref 64], (q_kB (q_sI r518.1 0 3 ((s.2.1 0 3) + r515)) c n)) _ _
    refine q_RP_seg (g2 := (41, [(0, .ref 64), (1, .int v1), (2, .int v2)], [.int v1], (q_kB (q_sI r518.1 0 3 ((s.2.1 0 3) + r515)) c n))) 2 (fun _ _ => rfl) ?_
    cases h696 : decide (v1 < 2) with
    | true =>
      refine q_RP_cT ?_
      refine q_RP_st1 (g2 := (134, [(0, .ref 64), (1, .int v1), (2, .int v2)], [], (q_kB (q_sI r518.1 0 3 ((s.2.1 0 3) + r515)) c n))) rfl (if_pos (Or.inl (Int32.lt_iff_toInt_lt.mp (of_decide_eq_true h696)))) ?_
      exact q_RP_ret rfl rfl rfl
    | false =>
      refine q_RP_cF ?_
      cases h697 : decide (8 < v1) with
      | true =>
        refine q_RP_cT ?_
        refine q_RP_st1 (g2 := (134, [(0, .ref 64), (1, .int v1), (2, .int v2)], [], (q_kB (q_sI r518.1 0 3 ((s.2.1 0 3) + r515)) c n))) rfl (if_pos (Or.inr (Int32.lt_iff_toInt_lt.mp (of_decide_eq_true h697)))) ?_
        exact q_RP_ret rfl rfl rfl
      | false =>
        refine q_RP_cF ?_
        cases h698 : decide (v1 = 2) with
        | true =>
          refine q_RP_cT ?_
          refine q_RP_st1 (g2 := (84, [(0, .ref 64), (1, .int v1), (2, .int v2)], [], (q_kB (q_sI r518.1 0 3 ((s.2.1 0 3) + r515)) c n))) rfl (by rw [of_decide_eq_true h698]; rfl) ?_
          refine q_RP_seg (g2 := (87, [(0, .ref 64), (1, .int v1), (2, .int v2)], [.ref 15, .ref 64], (q_kB (q_sI r518.1 0 3 ((s.2.1 0 3) + r515)) c n))) 2 (fun _ _ => rfl) ?_
          generalize er520 : dz_B344_15 (q_sI r518.1 0 3 ((s.2.1 0 3) + r515)) = r520
          refine q_RP_let ?_
          refine q_RP_bd fun r521 er521 => ?_
          refine q_RP_bd fun r529 er529 => ?_
          refine q_RP_call (v := (some (.ref 64))) (h2 := (q_kB (q_sI r529 0 3 ((r529.2.1 0 3) + r520)) c n)) rfl rfl ?_ ?_
          · refine q_Ca_of (Nat.le_of_ble_eq_true rfl) ?_
            refine q_Ru_seg (g2 := (2, [(0, .ref 64), (1, .ref 15)], [.ref 15, .ref 64], (q_kB (q_sI r518.1 0 3 ((s.2.1 0 3) + r515)) c n))) 2 (fun _ _ => rfl) ?_
            refine q_Ru_call (v := (some (.ref 64))) (h2 := (q_kB (q_sI r529 0 3 ((r529.2.1 0 3) + r520)) c n)) rfl rfl ?_ ?_
            · refine q_Ca_of (Nat.le_of_ble_eq_true rfl) ?_
              refine q_Ru_seg (g2 := (10, [(0, .ref 64), (1, .ref 15)], [.ref 15], (q_kB (q_sI r518.1 0 3 ((s.2.1 0 3) + r515)) c n))) 3 (fun _ _ => rfl) ?_
              refine q_Ru_call (v := (some (.int r520))) (h2 := (q_kB (q_sI r518.1 0 3 ((s.2.1 0 3) + r515)) c n)) rfl rfl ?_ ?_
              · exact (q_cE (φ := (q_oP (q_kB (q_sI r518.1 0 3 ((s.2.1 0 3) + r515)) c n))) er520 (dzt_B344_15 z L xs (q_sI r518.1 0 3 ((s.2.1 0 3) + r515)) c n)).le (Nat.le_of_ble_eq_true rfl)
              show q_Ru _ _ _ (13, [(0, .ref 64), (1, .ref 15)], [.int r520], (q_kB (q_sI r518.1 0 3 ((s.2.1 0 3) + r515)) c n)) _
              refine q_Ru_seg (g2 := (21, [(2, .int r520), (0, .ref 64), (1, .ref 15)], [.int (((s.2.1 0 3) + r515) + r520), .ref 64], (q_kB (q_sI r518.1 0 3 ((s.2.1 0 3) + r515)) c n))) 6 (fun _ _ => rfl) ?_
              refine q_Ru_call (v := none) (h2 := (q_kB r521 c n)) rfl rfl ?_ ?_
              · exact (dzt_B332_64 z L xs (q_sI r518.1 0 3 ((s.2.1 0 3) + r515)) c n (((s.2.1 0 3) + r515) + r520) r521 er521).le (Nat.le_of_ble_eq_true rfl)
              show q_Ru _ _ _ (24, [(2, .int r520), (0, .ref 64), (1, .ref 15)], [], (q_kB r521 c n)) _
              refine q_Ru_seg (g2 := (30, [(2, .int r520), (0, .ref 64), (1, .ref 15)], [.ref 15, .int (r521.2.1 0 3), .ref 64], (q_kB r521 c n))) 4 (fun _ _ => rfl) ?_
              refine q_Ru_call (v := none) (h2 := (q_kB r529 c n)) rfl rfl ?_ ?_
              · exact (dzt_B343_64_15 z L xs r521 c n (r521.2.1 0 3) r529 er529).le (Nat.le_of_ble_eq_true rfl)
              show q_Ru _ _ _ (33, [(2, .int r520), (0, .ref 64), (1, .ref 15)], [], (q_kB r529 c n)) _
              refine q_Ru_seg (g2 := (44, [(2, .int r520), (0, .ref 64), (1, .ref 15)], [.ref 64], (q_kB (q_sI r529 0 3 ((r529.2.1 0 3) + r520)) c n))) 7 (fun _ _ => rfl) ?_
              exact q_Ru_ret rfl rfl
            show q_Ru _ _ _ (5, [(0, .ref 64), (1, .ref 15)], [.ref 64], (q_kB (q_sI r529 0 3 ((r529.2.1 0 3) + r520)) c n)) _
            refine q_Ru_seg (g2 := (7, [(0, .ref 64), (1, .ref 15)], [.ref 64], (q_kB (q_sI r529 0 3 ((r529.2.1 0 3) + r520)) c n))) 2 (fun _ _ => rfl) ?_
            exact q_Ru_ret rfl rfl
          show q_RP _ _ _ (90, [(0, .ref 64), (1, .int v1), (2, .int v2)], [.ref 64], (q_kB (q_sI r529 0 3 ((r529.2.1 0 3) + r520)) c n)) _ _
          refine q_RP_seg (g2 := (134, [(0, .ref 64), (1, .int v1), (2, .int v2)], [], (q_kB (q_sI r529 0 3 ((r529.2.1 0 3) + r520)) c n))) 2 (fun _ _ => rfl) ?_
          exact q_RP_ret rfl rfl rfl
        | false =>
          refine q_RP_cF ?_
          cases h705 : decide (v1 = 3) with
          | true =>
            refine q_RP_cT ?_
            refine q_RP_st1 (g2 := (134, [(0, .ref 64), (1, .int v1), (2, .int v2)], [], (q_kB (q_sI r518.1 0 3 ((s.2.1 0 3) + r515)) c n))) rfl (by rw [of_decide_eq_true h705]; rfl) ?_
            exact q_RP_ret rfl rfl rfl
          | false =>
            refine q_RP_cF ?_
            cases h706 : decide (v1 = 4) with
            | true =>
              refine q_RP_cT ?_
              refine q_RP_st1 (g2 := (84, [(0, .ref 64), (1, .int v1), (2, .int v2)], [], (q_kB (q_sI r518.1 0 3 ((s.2.1 0 3) + r515)) c n))) rfl (by rw [of_decide_eq_true h706]; rfl) ?_
              refine q_RP_seg (g2 := (87, [(0, .ref 64), (1, .int v1), (2, .int v2)], [.ref 15, .ref 64], (q_kB (q_sI r518.1 0 3 ((s.2.1 0 3) + r515)) c n))) 2 (fun _ _ => rfl) ?_
              generalize er530 : dz_B344_15 (q_sI r518.1 0 3 ((s.2.1 0 3) + r515)) = r530
              refine q_RP_let ?_
              refine q_RP_bd fun r531 er531 => ?_
              refine q_RP_bd fun r532 er532 => ?_
              refine q_RP_call (v := (some (.ref 64))) (h2 := (q_kB (q_sI r532 0 3 ((r532.2.1 0 3) + r530)) c n)) rfl rfl ?_ ?_
              · refine q_Ca_of (Nat.le_of_ble_eq_true rfl) ?_
                refine q_Ru_seg (g2 := (2, [(0, .ref 64), (1, .ref 15)], [.ref 15, .ref 64], (q_kB (q_sI r518.1 0 3 ((s.2.1 0 3) + r515)) c n))) 2 (fun _ _ => rfl) ?_
                refine q_Ru_call (v := (some (.ref 64))) (h2 := (q_kB (q_sI r532 0 3 ((r532.2.1 0 3) + r530)) c n)) rfl rfl ?_ ?_
                · refine q_Ca_of (Nat.le_of_ble_eq_true rfl) ?_
                  refine q_Ru_seg (g2 := (10, [(0, .ref 64), (1, .ref 15)], [.ref 15], (q_kB (q_sI r518.1 0 3 ((s.2.1 0 3) + r515)) c n))) 3 (fun _ _ => rfl) ?_
                  refine q_Ru_call (v := (some (.int r530))) (h2 := (q_kB (q_sI r518.1 0 3 ((s.2.1 0 3) + r515)) c n)) rfl rfl ?_ ?_
                  · exact (q_cE (φ := (q_oP (q_kB (q_sI r518.1 0 3 ((s.2.1 0 3) + r515)) c n))) er530 (dzt_B344_15 z L xs (q_sI r518.1 0 3 ((s.2.1 0 3) + r515)) c n)).le (Nat.le_of_ble_eq_true rfl)
                  show q_Ru _ _ _ (13, [(0, .ref 64), (1, .ref 15)], [.int r530], (q_kB (q_sI r518.1 0 3 ((s.2.1 0 3) + r515)) c n)) _
                  refine q_Ru_seg (g2 := (21, [(2, .int r530), (0, .ref 64), (1, .ref 15)], [.int (((s.2.1 0 3) + r515) + r530), .ref 64], (q_kB (q_sI r518.1 0 3 ((s.2.1 0 3) + r515)) c n))) 6 (fun _ _ => rfl) ?_
                  refine q_Ru_call (v := none) (h2 := (q_kB r531 c n)) rfl rfl ?_ ?_
                  · exact (dzt_B332_64 z L xs (q_sI r518.1 0 3 ((s.2.1 0 3) + r515)) c n (((s.2.1 0 3) + r515) + r530) r531 er531).le (Nat.le_of_ble_eq_true rfl)
                  show q_Ru _ _ _ (24, [(2, .int r530), (0, .ref 64), (1, .ref 15)], [], (q_kB r531 c n)) _
                  refine q_Ru_seg (g2 := (30, [(2, .int r530), (0, .ref 64), (1, .ref 15)], [.ref 15, .int (r531.2.1 0 3), .ref 64], (q_kB r531 c n))) 4 (fun _ _ => rfl) ?_
                  refine q_Ru_call (v := none) (h2 := (q_kB r532 c n)) rfl rfl ?_ ?_
                  · exact (dzt_B343_64_15 z L xs r531 c n (r531.2.1 0 3) r532 er532).le (Nat.le_of_ble_eq_true rfl)
                  show q_Ru _ _ _ (33, [(2, .int r530), (0, .ref 64), (1, .ref 15)], [], (q_kB r532 c n)) _
                  refine q_Ru_seg (g2 := (44, [(2, .int r530), (0, .ref 64), (1, .ref 15)], [.ref 64], (q_kB (q_sI r532 0 3 ((r532.2.1 0 3) + r530)) c n))) 7 (fun _ _ => rfl) ?_
                  exact q_Ru_ret rfl rfl
                show q_Ru _ _ _ (5, [(0, .ref 64), (1, .ref 15)], [.ref 64], (q_kB (q_sI r532 0 3 ((r532.2.1 0 3) + r530)) c n)) _
                refine q_Ru_seg (g2 := (7, [(0, .ref 64), (1, .ref 15)], [.ref 64], (q_kB (q_sI r532 0 3 ((r532.2.1 0 3) + r530)) c n))) 2 (fun _ _ => rfl) ?_
                exact q_Ru_ret rfl rfl
              show q_RP _ _ _ (90, [(0, .ref 64), (1, .int v1), (2, .int v2)], [.ref 64], (q_kB (q_sI r532 0 3 ((r532.2.1 0 3) + r530)) c n)) _ _
              refine q_RP_seg (g2 := (134, [(0, .ref 64), (1, .int v1), (2, .int v2)], [], (q_kB (q_sI r532 0 3 ((r532.2.1 0 3) + r530)) c n))) 2 (fun _ _ => rfl) ?_
              exact q_RP_ret rfl rfl rfl
            | false =>
              refine q_RP_cF ?_
              cases h707 : decide (v1 = 5) with
              | true =>
                refine q_RP_cT ?_
                refine q_RP_st1 (g2 := (94, [(0, .ref 64), (1, .int v1), (2, .int v2)], [], (q_kB (q_sI r518.1 0 3 ((s.2.1 0 3) + r515)) c n))) rfl (by rw [of_decide_eq_true h707]; rfl) ?_
                refine q_RP_seg (g2 := (97, [(0, .ref 64), (1, .int v1), (2, .int v2)], [.ref 16, .ref 64], (q_kB (q_sI r518.1 0 3 ((s.2.1 0 3) + r515)) c n))) 2 (fun _ _ => rfl) ?_
                generalize er534 : dz_B344_16 (q_sI r518.1 0 3 ((s.2.1 0 3) + r515)) = r534
                refine q_RP_let ?_
                refine q_RP_bd fun r535 er535 => ?_
                refine q_RP_bd fun r543 er543 => ?_
                refine q_RP_call (v := (some (.ref 64))) (h2 := (q_kB (q_sI r543 0 3 ((r543.2.1 0 3) + r534)) c n)) rfl rfl ?_ ?_
                · refine q_Ca_of (Nat.le_of_ble_eq_true rfl) ?_
                  refine q_Ru_seg (g2 := (2, [(0, .ref 64), (1, .ref 16)], [.ref 16, .ref 64], (q_kB (q_sI r518.1 0 3 ((s.2.1 0 3) + r515)) c n))) 2 (fun _ _ => rfl) ?_
                  refine q_Ru_call (v := (some (.ref 64))) (h2 := (q_kB (q_sI r543 0 3 ((r543.2.1 0 3) + r534)) c n)) rfl rfl ?_ ?_
                  · refine q_Ca_of (Nat.le_of_ble_eq_true rfl) ?_
                    refine q_Ru_seg (g2 := (10, [(0, .ref 64), (1, .ref 16)], [.ref 16], (q_kB (q_sI r518.1 0 3 ((s.2.1 0 3) + r515)) c n))) 3 (fun _ _ => rfl) ?_
                    refine q_Ru_call (v := (some (.int r534))) (h2 := (q_kB (q_sI r518.1 0 3 ((s.2.1 0 3) + r515)) c n)) rfl rfl ?_ ?_
                    · exact (q_cE (φ := (q_oP (q_kB (q_sI r518.1 0 3 ((s.2.1 0 3) + r515)) c n))) er534 (dzt_B344_16 z L xs (q_sI r518.1 0 3 ((s.2.1 0 3) + r515)) c n)).le (Nat.le_of_ble_eq_true rfl)
                    show q_Ru _ _ _ (13, [(0, .ref 64), (1, .ref 16)], [.int r534], (q_kB (q_sI r518.1 0 3 ((s.2.1 0 3) + r515)) c n)) _
                    refine q_Ru_seg (g2 := (21, [(2, .int r534), (0, .ref 64), (1, .ref 16)], [.int (((s.2.1 0 3) + r515) + r534), .ref 64], (q_kB (q_sI r518.1 0 3 ((s.2.1 0 3) + r515)) c n))) 6 (fun _ _ => rfl) ?_
                    refine q_Ru_call (v := none) (h2 := (q_kB r535 c n)) rfl rfl ?_ ?_
                    · exact (dzt_B332_64 z L xs (q_sI r518.1 0 3 ((s.2.1 0 3) + r515)) c n (((s.2.1 0 3) + r515) + r534) r535 er535).le (Nat.le_of_ble_eq_true rfl)
                    show q_Ru _ _ _ (24, [(2, .int r534), (0, .ref 64), (1, .ref 16)], [], (q_kB r535 c n)) _
                    refine q_Ru_seg (g2 := (30, [(2, .int r534), (0, .ref 64), (1, .ref 16)], [.ref 16, .int (r535.2.1 0 3), .ref 64], (q_kB r535 c n))) 4 (fun _ _ => rfl) ?_
                    refine q_Ru_call (v := none) (h2 := (q_kB r543 c n)) rfl rfl ?_ ?_
                    · exact (dzt_B343_64_16 z L xs r535 c n (r535.2.1 0 3) r543 er543).le (Nat.le_of_ble_eq_true rfl)
                    show q_Ru _ _ _ (33, [(2, .int r534), (0, .ref 64), (1, .ref 16)], [], (q_kB r543 c n)) _
                    refine q_Ru_seg (g2 := (44, [(2, .int r534), (0, .ref 64), (1, .ref 16)], [.ref 64], (q_kB (q_sI r543 0 3 ((r543.2.1 0 3) + r534)) c n))) 7 (fun _ _ => rfl) ?_
                    exact q_Ru_ret rfl rfl
                  show q_Ru _ _ _ (5, [(0, .ref 64), (1, .ref 16)], [.ref 64], (q_kB (q_sI r543 0 3 ((r543.2.1 0 3) + r534)) c n)) _
                  refine q_Ru_seg (g2 := (7, [(0, .ref 64), (1, .ref 16)], [.ref 64], (q_kB (q_sI r543 0 3 ((r543.2.1 0 3) + r534)) c n))) 2 (fun _ _ => rfl) ?_
                  exact q_Ru_ret rfl rfl
                show q_RP _ _ _ (100, [(0, .ref 64), (1, .int v1), (2, .int v2)], [.ref 64], (q_kB (q_sI r543 0 3 ((r543.2.1 0 3) + r534)) c n)) _ _
                refine q_RP_seg (g2 := (134, [(0, .ref 64), (1, .int v1), (2, .int v2)], [], (q_kB (q_sI r543 0 3 ((r543.2.1 0 3) + r534)) c n))) 2 (fun _ _ => rfl) ?_
                exact q_RP_ret rfl rfl rfl
              | false =>
                refine q_RP_cF ?_
                cases h714 : decide (v1 = 6) with
                | true =>
                  refine q_RP_cT ?_
                  refine q_RP_st1 (g2 := (104, [(0, .ref 64), (1, .int v1), (2, .int v2)], [], (q_kB (q_sI r518.1 0 3 ((s.2.1 0 3) + r515)) c n))) rfl (by rw [of_decide_eq_true h714]; rfl) ?_
                  refine q_RP_seg (g2 := (107, [(0, .ref 64), (1, .int v1), (2, .int v2)], [.ref 17, .ref 64], (q_kB (q_sI r518.1 0 3 ((s.2.1 0 3) + r515)) c n))) 2 (fun _ _ => rfl) ?_
                  generalize er545 : dz_B344_17 (q_sI r518.1 0 3 ((s.2.1 0 3) + r515)) = r545
                  refine q_RP_let ?_
                  refine q_RP_bd fun r546 er546 => ?_
                  refine q_RP_bd fun r554 er554 => ?_
                  refine q_RP_call (v := (some (.ref 64))) (h2 := (q_kB (q_sI r554 0 3 ((r554.2.1 0 3) + r545)) c n)) rfl rfl ?_ ?_
                  · refine q_Ca_of (Nat.le_of_ble_eq_true rfl) ?_
                    refine q_Ru_seg (g2 := (2, [(0, .ref 64), (1, .ref 17)], [.ref 17, .ref 64], (q_kB (q_sI r518.1 0 3 ((s.2.1 0 3) + r515)) c n))) 2 (fun _ _ => rfl) ?_
                    refine q_Ru_call (v := (some (.ref 64))) (h2 := (q_kB (q_sI r554 0 3 ((r554.2.1 0 3) + r545)) c n)) rfl rfl ?_ ?_
                    · refine q_Ca_of (Nat.le_of_ble_eq_true rfl) ?_
                      refine q_Ru_seg (g2 := (10, [(0, .ref 64), (1, .ref 17)], [.ref 17], (q_kB (q_sI r518.1 0 3 ((s.2.1 0 3) + r515)) c n))) 3 (fun _ _ => rfl) ?_
                      refine q_Ru_call (v := (some (.int r545))) (h2 := (q_kB (q_sI r518.1 0 3 ((s.2.1 0 3) + r515)) c n)) rfl rfl ?_ ?_
                      · exact (q_cE (φ := (q_oP (q_kB (q_sI r518.1 0 3 ((s.2.1 0 3) + r515)) c n))) er545 (dzt_B344_17 z L xs (q_sI r518.1 0 3 ((s.2.1 0 3) + r515)) c n)).le (Nat.le_of_ble_eq_true rfl)
                      show q_Ru _ _ _ (13, [(0, .ref 64), (1, .ref 17)], [.int r545], (q_kB (q_sI r518.1 0 3 ((s.2.1 0 3) + r515)) c n)) _
                      refine q_Ru_seg (g2 := (21, [(2, .int r545), (0, .ref 64), (1, .ref 17)], [.int (((s.2.1 0 3) + r515) + r545), .ref 64], (q_kB (q_sI r518.1 0 3 ((s.2.1 0 3) + r515)) c n))) 6 (fun _ _ => rfl) ?_
                      refine q_Ru_call (v := none) (h2 := (q_kB r546 c n)) rfl rfl ?_ ?_
                      · exact (dzt_B332_64 z L xs (q_sI r518.1 0 3 ((s.2.1 0 3) + r515)) c n (((s.2.1 0 3) + r515) + r545) r546 er546).le (Nat.le_of_ble_eq_true rfl)
                      show q_Ru _ _ _ (24, [(2, .int r545), (0, .ref 64), (1, .ref 17)], [], (q_kB r546 c n)) _
                      refine q_Ru_seg (g2 := (30, [(2, .int r545), (0, .ref 64), (1, .ref 17)], [.ref 17, .int (r546.2.1 0 3), .ref 64], (q_kB r546 c n))) 4 (fun _ _ => rfl) ?_
                      refine q_Ru_call (v := none) (h2 := (q_kB r554 c n)) rfl rfl ?_ ?_
                      · exact (dzt_B343_64_17 z L xs r546 c n (r546.2.1 0 3) r554 er554).le (Nat.le_of_ble_eq_true rfl)
                      show q_Ru _ _ _ (33, [(2, .int r545), (0, .ref 64), (1, .ref 17)], [], (q_kB r554 c n)) _
                      refine q_Ru_seg (g2 := (44, [(2, .int r545), (0, .ref 64), (1, .ref 17)], [.ref 64], (q_kB (q_sI r554 0 3 ((r554.2.1 0 3) + r545)) c n))) 7 (fun _ _ => rfl) ?_
                      exact q_Ru_ret rfl rfl
                    show q_Ru _ _ _ (5, [(0, .ref 64), (1, .ref 17)], [.ref 64], (q_kB (q_sI r554 0 3 ((r554.2.1 0 3) + r545)) c n)) _
                    refine q_Ru_seg (g2 := (7, [(0, .ref 64), (1, .ref 17)], [.ref 64], (q_kB (q_sI r554 0 3 ((r554.2.1 0 3) + r545)) c n))) 2 (fun _ _ => rfl) ?_
                    exact q_Ru_ret rfl rfl
                  show q_RP _ _ _ (110, [(0, .ref 64), (1, .int v1), (2, .int v2)], [.ref 64], (q_kB (q_sI r554 0 3 ((r554.2.1 0 3) + r545)) c n)) _ _
                  refine q_RP_seg (g2 := (134, [(0, .ref 64), (1, .int v1), (2, .int v2)], [], (q_kB (q_sI r554 0 3 ((r554.2.1 0 3) + r545)) c n))) 2 (fun _ _ => rfl) ?_
                  exact q_RP_ret rfl rfl rfl
                | false =>
                  refine q_RP_cF ?_
                  cases h721 : decide (v1 = 7) with
                  | true =>
                    refine q_RP_cT ?_
                    refine q_RP_st1 (g2 := (114, [(0, .ref 64), (1, .int v1), (2, .int v2)], [], (q_kB (q_sI r518.1 0 3 ((s.2.1 0 3) + r515)) c n))) rfl (by rw [of_decide_eq_true h721]; rfl) ?_
                    refine q_RP_seg (g2 := (117, [(0, .ref 64), (1, .int v1), (2, .int v2)], [.ref 18, .ref 64], (q_kB (q_sI r518.1 0 3 ((s.2.1 0 3) + r515)) c n))) 2 (fun _ _ => rfl) ?_
                    generalize er556 : dz_B344_18 (q_sI r518.1 0 3 ((s.2.1 0 3) + r515)) = r556
                    refine q_RP_let ?_
                    refine q_RP_bd fun r557 er557 => ?_
                    refine q_RP_bd fun r565 er565 => ?_
                    refine q_RP_call (v := (some (.ref 64))) (h2 := (q_kB (q_sI r565 0 3 ((r565.2.1 0 3) + r556)) c n)) rfl rfl ?_ ?_
                    · refine q_Ca_of (Nat.le_of_ble_eq_true rfl) ?_
                      refine q_Ru_seg (g2 := (2, [(0, .ref 64), (1, .ref 18)], [.ref 18, .ref 64], (q_kB (q_sI r518.1 0 3 ((s.2.1 0 3) + r515)) c n))) 2 (fun _ _ => rfl) ?_
                      refine q_Ru_call (v := (some (.ref 64))) (h2 := (q_kB (q_sI r565 0 3 ((r565.2.1 0 3) + r556)) c n)) rfl rfl ?_ ?_
                      · refine q_Ca_of (Nat.le_of_ble_eq_true rfl) ?_
                        refine q_Ru_seg (g2 := (10, [(0, .ref 64), (1, .ref 18)], [.ref 18], (q_kB (q_sI r518.1 0 3 ((s.2.1 0 3) + r515)) c n))) 3 (fun _ _ => rfl) ?_
                        refine q_Ru_call (v := (some (.int r556))) (h2 := (q_kB (q_sI r518.1 0 3 ((s.2.1 0 3) + r515)) c n)) rfl rfl ?_ ?_
                        · exact (q_cE (φ := (q_oP (q_kB (q_sI r518.1 0 3 ((s.2.1 0 3) + r515)) c n))) er556 (dzt_B344_18 z L xs (q_sI r518.1 0 3 ((s.2.1 0 3) + r515)) c n)).le (Nat.le_of_ble_eq_true rfl)
                        show q_Ru _ _ _ (13, [(0, .ref 64), (1, .ref 18)], [.int r556], (q_kB (q_sI r518.1 0 3 ((s.2.1 0 3) + r515)) c n)) _
                        refine q_Ru_seg (g2 := (21, [(2, .int r556), (0, .ref 64), (1, .ref 18)], [.int (((s.2.1 0 3) + r515) + r556), .ref 64], (q_kB (q_sI r518.1 0 3 ((s.2.1 0 3) + r515)) c n))) 6 (fun _ _ => rfl) ?_
                        refine q_Ru_call (v := none) (h2 := (q_kB r557 c n)) rfl rfl ?_ ?_
                        · exact (dzt_B332_64 z L xs (q_sI r518.1 0 3 ((s.2.1 0 3) + r515)) c n (((s.2.1 0 3) + r515) + r556) r557 er557).le (Nat.le_of_ble_eq_true rfl)
                        show q_Ru _ _ _ (24, [(2, .int r556), (0, .ref 64), (1, .ref 18)], [], (q_kB r557 c n)) _
                        refine q_Ru_seg (g2 := (30, [(2, .int r556), (0, .ref 64), (1, .ref 18)], [.ref 18, .int (r557.2.1 0 3), .ref 64], (q_kB r557 c n))) 4 (fun _ _ => rfl) ?_
                        refine q_Ru_call (v := none) (h2 := (q_kB r565 c n)) rfl rfl ?_ ?_
                        · exact (dzt_B343_64_18 z L xs r557 c n (r557.2.1 0 3) r565 er565).le (Nat.le_of_ble_eq_true rfl)
                        show q_Ru _ _ _ (33, [(2, .int r556), (0, .ref 64), (1, .ref 18)], [], (q_kB r565 c n)) _
                        refine q_Ru_seg (g2 := (44, [(2, .int r556), (0, .ref 64), (1, .ref 18)], [.ref 64], (q_kB (q_sI r565 0 3 ((r565.2.1 0 3) + r556)) c n))) 7 (fun _ _ => rfl) ?_
                        exact q_Ru_ret rfl rfl
                      show q_Ru _ _ _ (5, [(0, .ref 64), (1, .ref 18)], [.ref 64], (q_kB (q_sI r565 0 3 ((r565.2.1 0 3) + r556)) c n)) _
                      refine q_Ru_seg (g2 := (7, [(0, .ref 64), (1, .ref 18)], [.ref 64], (q_kB (q_sI r565 0 3 ((r565.2.1 0 3) + r556)) c n))) 2 (fun _ _ => rfl) ?_
                      exact q_Ru_ret rfl rfl
                    show q_RP _ _ _ (120, [(0, .ref 64), (1, .int v1), (2, .int v2)], [.ref 64], (q_kB (q_sI r565 0 3 ((r565.2.1 0 3) + r556)) c n)) _ _
                    refine q_RP_seg (g2 := (134, [(0, .ref 64), (1, .int v1), (2, .int v2)], [], (q_kB (q_sI r565 0 3 ((r565.2.1 0 3) + r556)) c n))) 2 (fun _ _ => rfl) ?_
                    exact q_RP_ret rfl rfl rfl
                  | false =>
                    refine q_RP_cF ?_
                    have h728 : v1 = 8 := Int32.toInt_inj.mp (by have e0 := q_neI h698 (n := 2); have e1 := q_neI h705 (n := 3); have e2 := q_neI h706 (n := 4); have e3 := q_neI h707 (n := 5); have e4 := q_neI h714 (n := 6); have e5 := q_neI h721 (n := 7); have l1 : 2 ≤ (v1).toInt := q_lo1 h696; have l2 : (v1).toInt ≤ 8 := q_hi2 h697; show (v1).toInt = 8; omega)
                    refine q_RP_st1 (g2 := (124, [(0, .ref 64), (1, .int v1), (2, .int v2)], [], (q_kB (q_sI r518.1 0 3 ((s.2.1 0 3) + r515)) c n))) rfl (by rw [h728]; rfl) ?_
                    refine q_RP_seg (g2 := (127, [(0, .ref 64), (1, .int v1), (2, .int v2)], [.int 41, .ref 64], (q_kB (q_sI r518.1 0 3 ((s.2.1 0 3) + r515)) c n))) 2 (fun _ _ => rfl) ?_
                    refine q_RP_bd fun r566 er566 => ?_
                    generalize er567 : dz_B341_64 r566 = r567
                    refine q_RP_let ?_
                    cases h729 : decide (q_b r567 = 0) with
                    | true =>
                      refine q_RP_cT ?_
                      exact q_RP_no
                    | false =>
                      refine q_RP_cF ?_
                      generalize er568 : dz_B353 r566 41 = r568
                      refine q_RP_let ?_
                      cases h730 : decide (q_b r568 = 0) with
                      | true =>
                        refine q_RP_cT ?_
                        exact q_RP_no
                      | false =>
                        refine q_RP_cF ?_
                        refine q_RP_as fun i731 => ?_
                        refine q_RP_call (v := (some (.ref 64))) (h2 := (q_kB (q_sA (q_sI r566 0 3 ((r566.2.1 0 3) + 1)) 1 (upd (r566.1 1) ((r566.2.1 0 3).toNatClampNeg) 41)) c n)) rfl rfl ?_ ?_
                        · refine q_Ca_of (Nat.le_of_ble_eq_true rfl) ?_
                          refine q_Ru_seg (g2 := (2, [(0, .ref 64), (1, .int 41)], [.int 41, .ref 64], (q_kB (q_sI r518.1 0 3 ((s.2.1 0 3) + r515)) c n))) 2 (fun _ _ => rfl) ?_
                          refine q_Ru_call (v := (some (.ref 64))) (h2 := (q_kB (q_sA (q_sI r566 0 3 ((r566.2.1 0 3) + 1)) 1 (upd (r566.1 1) ((r566.2.1 0 3).toNatClampNeg) 41)) c n)) rfl rfl ?_ ?_
                          · refine q_Ca_of (Nat.le_of_ble_eq_true rfl) ?_
                            refine q_Ru_seg (g2 := (7, [(0, .ref 64), (1, .int 41)], [.int (((s.2.1 0 3) + r515) + 1), .ref 64], (q_kB (q_sI r518.1 0 3 ((s.2.1 0 3) + r515)) c n))) 5 (fun _ _ => rfl) ?_
                            refine q_Ru_call (v := none) (h2 := (q_kB r566 c n)) rfl rfl ?_ ?_
                            · exact (dzt_B332_64 z L xs (q_sI r518.1 0 3 ((s.2.1 0 3) + r515)) c n (((s.2.1 0 3) + r515) + 1) r566 er566).le (Nat.le_of_ble_eq_true rfl)
                            show q_Ru _ _ _ (10, [(0, .ref 64), (1, .int 41)], [], (q_kB r566 c n)) _
                            refine q_Ru_seg (g2 := (11, [(0, .ref 64), (1, .int 41)], [.ref 64], (q_kB r566 c n))) 1 (fun _ _ => rfl) ?_
                            refine q_Ru_call (v := (some (.int (q_b r567)))) (h2 := (q_kB r566 c n)) rfl rfl ?_ ?_
                            · exact (q_cE (φ := (q_oB (q_kB r566 c n))) er567 (dzt_B341_64 z L xs r566 c n)).le (Nat.le_of_ble_eq_true rfl)
                            show q_Ru _ _ _ (14, [(0, .ref 64), (1, .int 41)], [.int (q_b r567)], (q_kB r566 c n)) _
                            refine q_Ru_rsF (g2 := (17, [(0, .ref 64), (1, .int 41)], [], (q_kB r566 c n))) rfl rfl h729 ?_
                            refine q_Ru_seg (g2 := (18, [(0, .ref 64), (1, .int 41)], [.int 41], (q_kB r566 c n))) 1 (fun _ _ => rfl) ?_
                            refine q_Ru_call (v := (some (.int (q_b r568)))) (h2 := (q_kB r566 c n)) rfl rfl ?_ ?_
                            · exact (q_cE (φ := (q_oB (q_kB r566 c n))) er568 (dzt_B353 z L xs r566 c n 41)).le (Nat.le_of_ble_eq_true rfl)
                            show q_Ru _ _ _ (21, [(0, .ref 64), (1, .int 41)], [.int (q_b r568)], (q_kB r566 c n)) _
                            refine q_Ru_rsF (g2 := (24, [(0, .ref 64), (1, .int 41)], [], (q_kB r566 c n))) rfl rfl h730 ?_
                            refine q_Ru_seg (g2 := (41, [(0, .ref 64), (1, .int 41)], [.int 41, .int (r566.2.1 0 3), .ref 65], (q_kB (q_sI r566 0 3 ((r566.2.1 0 3) + 1)) c n))) 11 (fun _ _ => rfl) ?_
                            refine q_Ru_rsT (g2 := (42, [(0, .ref 64), (1, .int 41)], [], (q_kB (q_sA (q_sI r566 0 3 ((r566.2.1 0 3) + 1)) 1 (upd (r566.1 1) ((r566.2.1 0 3).toNatClampNeg) 41)) c n))) rfl rfl i731 ?_
                            refine q_Ru_seg (g2 := (76, [(0, .ref 64), (1, .int 41)], [.ref 64], (q_kB (q_sA (q_sI r566 0 3 ((r566.2.1 0 3) + 1)) 1 (upd (r566.1 1) ((r566.2.1 0 3).toNatClampNeg) 41)) c n))) 2 (fun _ _ => rfl) ?_
                            exact q_Ru_ret rfl rfl
                          show q_Ru _ _ _ (5, [(0, .ref 64), (1, .int 41)], [.ref 64], (q_kB (q_sA (q_sI r566 0 3 ((r566.2.1 0 3) + 1)) 1 (upd (r566.1 1) ((r566.2.1 0 3).toNatClampNeg) 41)) c n)) _
                          refine q_Ru_seg (g2 := (7, [(0, .ref 64), (1, .int 41)], [.ref 64], (q_kB (q_sA (q_sI r566 0 3 ((r566.2.1 0 3) + 1)) 1 (upd (r566.1 1) ((r566.2.1 0 3).toNatClampNeg) 41)) c n))) 2 (fun _ _ => rfl) ?_
                          exact q_Ru_ret rfl rfl
                        show q_RP _ _ _ (130, [(0, .ref 64), (1, .int v1), (2, .int v2)], [.ref 64], (q_kB (q_sA (q_sI r566 0 3 ((r566.2.1 0 3) + 1)) 1 (upd (r566.1 1) ((r566.2.1 0 3).toNatClampNeg) 41)) c n)) _ _
                        refine q_RP_seg (g2 := (134, [(0, .ref 64), (1, .int v1), (2, .int v2)], [], (q_kB (q_sA (q_sI r566 0 3 ((r566.2.1 0 3) + 1)) 1 (upd (r566.1 1) ((r566.2.1 0 3).toNatClampNeg) 41)) c n))) 2 (fun _ _ => rfl) ?_
                        exact q_RP_ret rfl rfl rfl
def dz_B196_64 (s : q_S) (a1 : Int32) (a2 : Int32) : Option (q_S) :=
  (dz_B332_64 s ((s.2.1 0 3) + 1)).bind fun r509 => q_let (dz_B341_64 r509) fun r510 => cond (decide (q_b r510 = 0)) (none) (q_let (dz_B353 r509 32) fun r511 => cond (decide (q_b r511 = 0)) (none) (cond (q_in (r509.2.1 0 3) 16) (cond (decide (a1 = 0)) ((dz_B332_64 (q_sA (q_sI r509 0 3 ((r509.2.1 0 3) + 1)) 1 (upd (r509.1 1) ((r509.2.1 0 3).toNatClampNeg) 32)) (((r509.2.1 0 3) + 1) + 1)).bind fun r512 => q_let (dz_B341_64 r512) fun r513 => cond (decide (q_b r513 = 0)) (none) (q_let (dz_B353 r512 35) fun r514 => cond (decide (q_b r514 = 0)) (none) (cond (q_in (r512.2.1 0 3) 16) (dz_B196_64_34 (q_sA (q_sI r512 0 3 ((r512.2.1 0 3) + 1)) 1 (upd (r512.1 1) ((r512.2.1 0 3).toNatClampNeg) 35)) a1 a2) none))) (cond (decide (a1 < 6)) (dz_B196_64_34 (q_sA (q_sI r509 0 3 ((r509.2.1 0 3) + 1)) 1 (upd (r509.1 1) ((r509.2.1 0 3).toNatClampNeg) 32)) a1 a2) ((dz_B332_64 (q_sA (q_sI r509 0 3 ((r509.2.1 0 3) + 1)) 1 (upd (r509.1 1) ((r509.2.1 0 3).toNatClampNeg) 32)) (((r509.2.1 0 3) + 1) + 1)).bind fun r569 => q_let (dz_B341_64 r569) fun r570 => cond (decide (q_b r570 = 0)) (none) (q_let (dz_B353 r569 40) fun r571 => cond (decide (q_b r571 = 0)) (none) (cond (q_in (r569.2.1 0 3) 16) (dz_B196_64_34 (q_sA (q_sI r569 0 3 ((r569.2.1 0 3) + 1)) 1 (upd (r569.1 1) ((r569.2.1 0 3).toNatClampNeg) 40)) a1 a2) none))))) none))
set_option maxHeartbeats 4000000 in
theorem dzt_B196_64 (z L : Nat) (xs : Nat → Int32) (s : q_S) (c n : Nat) (a1 : Int32) (a2 : Int32) (x : q_S) (h : dz_B196_64 s a1 a2 = some x) : q_Ca (q_TBs z L xs) 6 196 [.ref 64, .int a1, .int a2] (q_kB s c n) ((q_oSB c n) x) := by
  refine q_CaP_of (φ := (q_oSB c n)) (Nat.le_of_ble_eq_true rfl) ?_ h
  clear h
  unfold dz_B196_64
  refine q_RP_seg (g2 := (3, [(0, .ref 64), (1, .int a1), (2, .int a2)], [.int 32, .ref 64], (q_kB s c n))) 2 (fun _ _ => rfl) ?_
  refine q_RP_bd fun r509 er509 => ?_
  generalize er510 : dz_B341_64 r509 = r510
  refine q_RP_let ?_
  cases h685 : decide (q_b r510 = 0) with
  | true =>
    refine q_RP_cT ?_
    exact q_RP_no
  | false =>
    refine q_RP_cF ?_
    generalize er511 : dz_B353 r509 32 = r511
    refine q_RP_let ?_
    cases h686 : decide (q_b r511 = 0) with
    | true =>
      refine q_RP_cT ?_
      exact q_RP_no
    | false =>
      refine q_RP_cF ?_
      refine q_RP_as fun i687 => ?_
      refine q_RP_call (v := (some (.ref 64))) (h2 := (q_kB (q_sA (q_sI r509 0 3 ((r509.2.1 0 3) + 1)) 1 (upd (r509.1 1) ((r509.2.1 0 3).toNatClampNeg) 32)) c n)) rfl rfl ?_ ?_
      · refine q_Ca_of (Nat.le_of_ble_eq_true rfl) ?_
        refine q_Ru_seg (g2 := (2, [(0, .ref 64), (1, .int 32)], [.int 32, .ref 64], (q_kB s c n))) 2 (fun _ _ => rfl) ?_
        refine q_Ru_call (v := (some (.ref 64))) (h2 := (q_kB (q_sA (q_sI r509 0 3 ((r509.2.1 0 3) + 1)) 1 (upd (r509.1 1) ((r509.2.1 0 3).toNatClampNeg) 32)) c n)) rfl rfl ?_ ?_
        · refine q_Ca_of (Nat.le_of_ble_eq_true rfl) ?_
          refine q_Ru_seg (g2 := (7, [(0, .ref 64), (1, .int 32)], [.int ((s.2.1 0 3) + 1), .ref 64], (q_kB s c n))) 5 (fun _ _ => rfl) ?_
          refine q_Ru_call (v := none) (h2 := (q_kB r509 c n)) rfl rfl ?_ ?_
          · exact (dzt_B332_64 z L xs s c n ((s.2.1 0 3) + 1) r509 er509).le (Nat.le_of_ble_eq_true rfl)
          show q_Ru _ _ _ (10, [(0, .ref 64), (1, .int 32)], [], (q_kB r509 c n)) _
          refine q_Ru_seg (g2 := (11, [(0, .ref 64), (1, .int 32)], [.ref 64], (q_kB r509 c n))) 1 (fun _ _ => rfl) ?_
          refine q_Ru_call (v := (some (.int (q_b r510)))) (h2 := (q_kB r509 c n)) rfl rfl ?_ ?_
          · exact (q_cE (φ := (q_oB (q_kB r509 c n))) er510 (dzt_B341_64 z L xs r509 c n)).le (Nat.le_of_ble_eq_true rfl)
          show q_Ru _ _ _ (14, [(0, .ref 64), (1, .int 32)], [.int (q_b r510)], (q_kB r509 c n)) _
          refine q_Ru_rsF (g2 := (17, [(0, .ref 64), (1, .int 32)], [], (q_kB r509 c n))) rfl rfl h685 ?_
          refine q_Ru_seg (g2 := (18, [(0, .ref 64), (1, .int 32)], [.int 32], (q_kB r509 c n))) 1 (fun _ _ => rfl) ?_
          refine q_Ru_call (v := (some (.int (q_b r511)))) (h2 := (q_kB r509 c n)) rfl rfl ?_ ?_
          · exact (q_cE (φ := (q_oB (q_kB r509 c n))) er511 (dzt_B353 z L xs r509 c n 32)).le (Nat.le_of_ble_eq_true rfl)
          show q_Ru _ _ _ (21, [(0, .ref 64), (1, .int 32)], [.int (q_b r511)], (q_kB r509 c n)) _
          refine q_Ru_rsF (g2 := (24, [(0, .ref 64), (1, .int 32)], [], (q_kB r509 c n))) rfl rfl h686 ?_
          refine q_Ru_seg (g2 := (41, [(0, .ref 64), (1, .int 32)], [.int 32, .int (r509.2.1 0 3), .ref 65], (q_kB (q_sI r509 0 3 ((r509.2.1 0 3) + 1)) c n))) 11 (fun _ _ => rfl) ?_
          refine q_Ru_rsT (g2 := (42, [(0, .ref 64), (1, .int 32)], [], (q_kB (q_sA (q_sI r509 0 3 ((r509.2.1 0 3) + 1)) 1 (upd (r509.1 1) ((r509.2.1 0 3).toNatClampNeg) 32)) c n))) rfl rfl i687 ?_
          refine q_Ru_seg (g2 := (76, [(0, .ref 64), (1, .int 32)], [.ref 64], (q_kB (q_sA (q_sI r509 0 3 ((r509.2.1 0 3) + 1)) 1 (upd (r509.1 1) ((r509.2.1 0 3).toNatClampNeg) 32)) c n))) 2 (fun _ _ => rfl) ?_
          exact q_Ru_ret rfl rfl
        show q_Ru _ _ _ (5, [(0, .ref 64), (1, .int 32)], [.ref 64], (q_kB (q_sA (q_sI r509 0 3 ((r509.2.1 0 3) + 1)) 1 (upd (r509.1 1) ((r509.2.1 0 3).toNatClampNeg) 32)) c n)) _
        refine q_Ru_seg (g2 := (7, [(0, .ref 64), (1, .int 32)], [.ref 64], (q_kB (q_sA (q_sI r509 0 3 ((r509.2.1 0 3) + 1)) 1 (upd (r509.1 1) ((r509.2.1 0 3).toNatClampNeg) 32)) c n))) 2 (fun _ _ => rfl) ?_
        exact q_Ru_ret rfl rfl
      show q_RP _ _ _ (6, [(0, .ref 64), (1, .int a1), (2, .int a2)], [.ref 64], (q_kB (q_sA (q_sI r509 0 3 ((r509.2.1 0 3) + 1)) 1 (upd (r509.1 1) ((r509.2.1 0 3).toNatClampNeg) 32)) c n)) _ _
      refine q_RP_seg (g2 := (8, [(0, .ref 64), (1, .int a1), (2, .int a2)], [.int a1], (q_kB (q_sA (q_sI r509 0 3 ((r509.2.1 0 3) + 1)) 1 (upd (r509.1 1) ((r509.2.1 0 3).toNatClampNeg) 32)) c n))) 2 (fun _ _ => rfl) ?_
      cases h688 : decide (a1 = 0) with
      | true =>
        refine q_RP_cT ?_
        refine q_RP_rsF (g2 := (11, [(0, .ref 64), (1, .int a1), (2, .int a2)], [], (q_kB (q_sA (q_sI r509 0 3 ((r509.2.1 0 3) + 1)) 1 (upd (r509.1 1) ((r509.2.1 0 3).toNatClampNeg) 32)) c n))) rfl rfl (q_d_neT h688) ?_
        refine q_RP_seg (g2 := (14, [(0, .ref 64), (1, .int a1), (2, .int a2)], [.int 35, .ref 64], (q_kB (q_sA (q_sI r509 0 3 ((r509.2.1 0 3) + 1)) 1 (upd (r509.1 1) ((r509.2.1 0 3).toNatClampNeg) 32)) c n))) 2 (fun _ _ => rfl) ?_
        refine q_RP_bd fun r512 er512 => ?_
        generalize er513 : dz_B341_64 r512 = r513
        refine q_RP_let ?_
        cases h689 : decide (q_b r513 = 0) with
        | true =>
          refine q_RP_cT ?_
          exact q_RP_no
        | false =>
          refine q_RP_cF ?_
          generalize er514 : dz_B353 r512 35 = r514
          refine q_RP_let ?_
          cases h690 : decide (q_b r514 = 0) with
          | true =>
            refine q_RP_cT ?_
            exact q_RP_no
          | false =>
            refine q_RP_cF ?_
            refine q_RP_as fun i691 => ?_
            refine q_RP_call (v := (some (.ref 64))) (h2 := (q_kB (q_sA (q_sI r512 0 3 ((r512.2.1 0 3) + 1)) 1 (upd (r512.1 1) ((r512.2.1 0 3).toNatClampNeg) 35)) c n)) rfl rfl ?_ ?_
            · refine q_Ca_of (Nat.le_of_ble_eq_true rfl) ?_
              refine q_Ru_seg (g2 := (2, [(0, .ref 64), (1, .int 35)], [.int 35, .ref 64], (q_kB (q_sA (q_sI r509 0 3 ((r509.2.1 0 3) + 1)) 1 (upd (r509.1 1) ((r509.2.1 0 3).toNatClampNeg) 32)) c n))) 2 (fun _ _ => rfl) ?_
              refine q_Ru_call (v := (some (.ref 64))) (h2 := (q_kB (q_sA (q_sI r512 0 3 ((r512.2.1 0 3) + 1)) 1 (upd (r512.1 1) ((r512.2.1 0 3).toNatClampNeg) 35)) c n)) rfl rfl ?_ ?_
              · refine q_Ca_of (Nat.le_of_ble_eq_true rfl) ?_
                refine q_Ru_seg (g2 := (7, [(0, .ref 64), (1, .int 35)], [.int (((r509.2.1 0 3) + 1) + 1), .ref 64], (q_kB (q_sA (q_sI r509 0 3 ((r509.2.1 0 3) + 1)) 1 (upd (r509.1 1) ((r509.2.1 0 3).toNatClampNeg) 32)) c n))) 5 (fun _ _ => rfl) ?_
                refine q_Ru_call (v := none) (h2 := (q_kB r512 c n)) rfl rfl ?_ ?_
                · exact (dzt_B332_64 z L xs (q_sA (q_sI r509 0 3 ((r509.2.1 0 3) + 1)) 1 (upd (r509.1 1) ((r509.2.1 0 3).toNatClampNeg) 32)) c n (((r509.2.1 0 3) + 1) + 1) r512 er512).le (Nat.le_of_ble_eq_true rfl)
                show q_Ru _ _ _ (10, [(0, .ref 64), (1, .int 35)], [], (q_kB r512 c n)) _
                refine q_Ru_seg (g2 := (11, [(0, .ref 64), (1, .int 35)], [.ref 64], (q_kB r512 c n))) 1 (fun _ _ => rfl) ?_
                refine q_Ru_call (v := (some (.int (q_b r513)))) (h2 := (q_kB r512 c n)) rfl rfl ?_ ?_
                · exact (q_cE (φ := (q_oB (q_kB r512 c n))) er513 (dzt_B341_64 z L xs r512 c n)).le (Nat.le_of_ble_eq_true rfl)
                show q_Ru _ _ _ (14, [(0, .ref 64), (1, .int 35)], [.int (q_b r513)], (q_kB r512 c n)) _
                refine q_Ru_rsF (g2 := (17, [(0, .ref 64), (1, .int 35)], [], (q_kB r512 c n))) rfl rfl h689 ?_
                refine q_Ru_seg (g2 := (18, [(0, .ref 64), (1, .int 35)], [.int 35], (q_kB r512 c n))) 1 (fun _ _ => rfl) ?_
                refine q_Ru_call (v := (some (.int (q_b r514)))) (h2 := (q_kB r512 c n)) rfl rfl ?_ ?_
                · exact (q_cE (φ := (q_oB (q_kB r512 c n))) er514 (dzt_B353 z L xs r512 c n 35)).le (Nat.le_of_ble_eq_true rfl)
                show q_Ru _ _ _ (21, [(0, .ref 64), (1, .int 35)], [.int (q_b r514)], (q_kB r512 c n)) _
                refine q_Ru_rsF (g2 := (24, [(0, .ref 64), (1, .int 35)], [], (q_kB r512 c n))) rfl rfl h690 ?_
                refine q_Ru_seg (g2 := (41, [(0, .ref 64), (1, .int 35)], [.int 35, .int (r512.2.1 0 3), .ref 65], (q_kB (q_sI r512 0 3 ((r512.2.1 0 3) + 1)) c n))) 11 (fun _ _ => rfl) ?_
                refine q_Ru_rsT (g2 := (42, [(0, .ref 64), (1, .int 35)], [], (q_kB (q_sA (q_sI r512 0 3 ((r512.2.1 0 3) + 1)) 1 (upd (r512.1 1) ((r512.2.1 0 3).toNatClampNeg) 35)) c n))) rfl rfl i691 ?_
                refine q_Ru_seg (g2 := (76, [(0, .ref 64), (1, .int 35)], [.ref 64], (q_kB (q_sA (q_sI r512 0 3 ((r512.2.1 0 3) + 1)) 1 (upd (r512.1 1) ((r512.2.1 0 3).toNatClampNeg) 35)) c n))) 2 (fun _ _ => rfl) ?_
                exact q_Ru_ret rfl rfl
              show q_Ru _ _ _ (5, [(0, .ref 64), (1, .int 35)], [.ref 64], (q_kB (q_sA (q_sI r512 0 3 ((r512.2.1 0 3) + 1)) 1 (upd (r512.1 1) ((r512.2.1 0 3).toNatClampNeg) 35)) c n)) _
              refine q_Ru_seg (g2 := (7, [(0, .ref 64), (1, .int 35)], [.ref 64], (q_kB (q_sA (q_sI r512 0 3 ((r512.2.1 0 3) + 1)) 1 (upd (r512.1 1) ((r512.2.1 0 3).toNatClampNeg) 35)) c n))) 2 (fun _ _ => rfl) ?_
              exact q_Ru_ret rfl rfl
            show q_RP _ _ _ (17, [(0, .ref 64), (1, .int a1), (2, .int a2)], [.ref 64], (q_kB (q_sA (q_sI r512 0 3 ((r512.2.1 0 3) + 1)) 1 (upd (r512.1 1) ((r512.2.1 0 3).toNatClampNeg) 35)) c n)) _ _
            refine q_RP_seg (g2 := (34, [(0, .ref 64), (1, .int a1), (2, .int a2)], [], (q_kB (q_sA (q_sI r512 0 3 ((r512.2.1 0 3) + 1)) 1 (upd (r512.1 1) ((r512.2.1 0 3).toNatClampNeg) 35)) c n))) 2 (fun _ _ => rfl) ?_
            exact (dzt_B196_64_34 z L xs c n (q_sA (q_sI r512 0 3 ((r512.2.1 0 3) + 1)) 1 (upd (r512.1 1) ((r512.2.1 0 3).toNatClampNeg) 35)) a1 a2)
      | false =>
        refine q_RP_cF ?_
        refine q_RP_rsT (g2 := (21, [(0, .ref 64), (1, .int a1), (2, .int a2)], [], (q_kB (q_sA (q_sI r509 0 3 ((r509.2.1 0 3) + 1)) 1 (upd (r509.1 1) ((r509.2.1 0 3).toNatClampNeg) 32)) c n))) rfl rfl (q_d_neF h688) ?_
        refine q_RP_seg (g2 := (24, [(0, .ref 64), (1, .int a1), (2, .int a2)], [.int 6, .int a1], (q_kB (q_sA (q_sI r509 0 3 ((r509.2.1 0 3) + 1)) 1 (upd (r509.1 1) ((r509.2.1 0 3).toNatClampNeg) 32)) c n))) 2 (fun _ _ => rfl) ?_
        cases h732 : decide (a1 < 6) with
        | true =>
          refine q_RP_cT ?_
          refine q_RP_rsT (g2 := (34, [(0, .ref 64), (1, .int a1), (2, .int a2)], [], (q_kB (q_sA (q_sI r509 0 3 ((r509.2.1 0 3) + 1)) 1 (upd (r509.1 1) ((r509.2.1 0 3).toNatClampNeg) 32)) c n))) rfl rfl h732 ?_
          exact (dzt_B196_64_34 z L xs c n (q_sA (q_sI r509 0 3 ((r509.2.1 0 3) + 1)) 1 (upd (r509.1 1) ((r509.2.1 0 3).toNatClampNeg) 32)) a1 a2)
        | false =>
          refine q_RP_cF ?_
          refine q_RP_rsF (g2 := (27, [(0, .ref 64), (1, .int a1), (2, .int a2)], [], (q_kB (q_sA (q_sI r509 0 3 ((r509.2.1 0 3) + 1)) 1 (upd (r509.1 1) ((r509.2.1 0 3).toNatClampNeg) 32)) c n))) rfl rfl h732 ?_
          refine q_RP_seg (g2 := (30, [(0, .ref 64), (1, .int a1), (2, .int a2)], [.int 40, .ref 64], (q_kB (q_sA (q_sI r509 0 3 ((r509.2.1 0 3) + 1)) 1 (upd (r509.1 1) ((r509.2.1 0 3).toNatClampNeg) 32)) c n))) 2 (fun _ _ => rfl) ?_
          refine q_RP_bd fun r569 er569 => ?_
          generalize er570 : dz_B341_64 r569 = r570
          refine q_RP_let ?_
          cases h733 : decide (q_b r570 = 0) with
          | true =>
            refine q_RP_cT ?_
            exact q_RP_no
          | false =>
            refine q_RP_cF ?_
            generalize er571 : dz_B353 r569 40 = r571
            refine q_RP_let ?_
            cases h734 : decide (q_b r571 = 0) with
            | true =>
              refine q_RP_cT ?_
              exact q_RP_no
            | false =>
              refine q_RP_cF ?_
              refine q_RP_as fun i735 => ?_
              refine q_RP_call (v := (some (.ref 64))) (h2 := (q_kB (q_sA (q_sI r569 0 3 ((r569.2.1 0 3) + 1)) 1 (upd (r569.1 1) ((r569.2.1 0 3).toNatClampNeg) 40)) c n)) rfl rfl ?_ ?_
              · refine q_Ca_of (Nat.le_of_ble_eq_true rfl) ?_
                refine q_Ru_seg (g2 := (2, [(0, .ref 64), (1, .int 40)], [.int 40, .ref 64], (q_kB (q_sA (q_sI r509 0 3 ((r509.2.1 0 3) + 1)) 1 (upd (r509.1 1) ((r509.2.1 0 3).toNatClampNeg) 32)) c n))) 2 (fun _ _ => rfl) ?_
                refine q_Ru_call (v := (some (.ref 64))) (h2 := (q_kB (q_sA (q_sI r569 0 3 ((r569.2.1 0 3) + 1)) 1 (upd (r569.1 1) ((r569.2.1 0 3).toNatClampNeg) 40)) c n)) rfl rfl ?_ ?_
                · refine q_Ca_of (Nat.le_of_ble_eq_true rfl) ?_
                  refine q_Ru_seg (g2 := (7, [(0, .ref 64), (1, .int 40)], [.int (((r509.2.1 0 3) + 1) + 1), .ref 64], (q_kB (q_sA (q_sI r509 0 3 ((r509.2.1 0 3) + 1)) 1 (upd (r509.1 1) ((r509.2.1 0 3).toNatClampNeg) 32)) c n))) 5 (fun _ _ => rfl) ?_
                  refine q_Ru_call (v := none) (h2 := (q_kB r569 c n)) rfl rfl ?_ ?_
                  · exact (dzt_B332_64 z L xs (q_sA (q_sI r509 0 3 ((r509.2.1 0 3) + 1)) 1 (upd (r509.1 1) ((r509.2.1 0 3).toNatClampNeg) 32)) c n (((r509.2.1 0 3) + 1) + 1) r569 er569).le (Nat.le_of_ble_eq_true rfl)
                  show q_Ru _ _ _ (10, [(0, .ref 64), (1, .int 40)], [], (q_kB r569 c n)) _
                  refine q_Ru_seg (g2 := (11, [(0, .ref 64), (1, .int 40)], [.ref 64], (q_kB r569 c n))) 1 (fun _ _ => rfl) ?_
                  refine q_Ru_call (v := (some (.int (q_b r570)))) (h2 := (q_kB r569 c n)) rfl rfl ?_ ?_
                  · exact (q_cE (φ := (q_oB (q_kB r569 c n))) er570 (dzt_B341_64 z L xs r569 c n)).le (Nat.le_of_ble_eq_true rfl)
                  show q_Ru _ _ _ (14, [(0, .ref 64), (1, .int 40)], [.int (q_b r570)], (q_kB r569 c n)) _
                  refine q_Ru_rsF (g2 := (17, [(0, .ref 64), (1, .int 40)], [], (q_kB r569 c n))) rfl rfl h733 ?_
                  refine q_Ru_seg (g2 := (18, [(0, .ref 64), (1, .int 40)], [.int 40], (q_kB r569 c n))) 1 (fun _ _ => rfl) ?_
                  refine q_Ru_call (v := (some (.int (q_b r571)))) (h2 := (q_kB r569 c n)) rfl rfl ?_ ?_
                  · exact (q_cE (φ := (q_oB (q_kB r569 c n))) er571 (dzt_B353 z L xs r569 c n 40)).le (Nat.le_of_ble_eq_true rfl)
                  show q_Ru _ _ _ (21, [(0, .ref 64), (1, .int 40)], [.int (q_b r571)], (q_kB r569 c n)) _
                  refine q_Ru_rsF (g2 := (24, [(0, .ref 64), (1, .int 40)], [], (q_kB r569 c n))) rfl rfl h734 ?_
                  refine q_Ru_seg (g2 := (41, [(0, .ref 64), (1, .int 40)], [.int 40, .int (r569.2.1 0 3), .ref 65], (q_kB (q_sI r569 0 3 ((r569.2.1 0 3) + 1)) c n))) 11 (fun _ _ => rfl) ?_
                  refine q_Ru_rsT (g2 := (42, [(0, .ref 64), (1, .int 40)], [], (q_kB (q_sA (q_sI r569 0 3 ((r569.2.1 0 3) + 1)) 1 (upd (r569.1 1) ((r569.2.1 0 3).toNatClampNeg) 40)) c n))) rfl rfl i735 ?_
                  refine q_Ru_seg (g2 := (76, [(0, .ref 64), (1, .int 40)], [.ref 64], (q_kB (q_sA (q_sI r569 0 3 ((r569.2.1 0 3) + 1)) 1 (upd (r569.1 1) ((r569.2.1 0 3).toNatClampNeg) 40)) c n))) 2 (fun _ _ => rfl) ?_
                  exact q_Ru_ret rfl rfl
                show q_Ru _ _ _ (5, [(0, .ref 64), (1, .int 40)], [.ref 64], (q_kB (q_sA (q_sI r569 0 3 ((r569.2.1 0 3) + 1)) 1 (upd (r569.1 1) ((r569.2.1 0 3).toNatClampNeg) 40)) c n)) _
                refine q_Ru_seg (g2 := (7, [(0, .ref 64), (1, .int 40)], [.ref 64], (q_kB (q_sA (q_sI r569 0 3 ((r569.2.1 0 3) + 1)) 1 (upd (r569.1 1) ((r569.2.1 0 3).toNatClampNeg) 40)) c n))) 2 (fun _ _ => rfl) ?_
                exact q_Ru_ret rfl rfl
              show q_RP _ _ _ (33, [(0, .ref 64), (1, .int a1), (2, .int a2)], [.ref 64], (q_kB (q_sA (q_sI r569 0 3 ((r569.2.1 0 3) + 1)) 1 (upd (r569.1 1) ((r569.2.1 0 3).toNatClampNeg) 40)) c n)) _ _
              refine q_RP_seg (g2 := (34, [(0, .ref 64), (1, .int a1), (2, .int a2)], [], (q_kB (q_sA (q_sI r569 0 3 ((r569.2.1 0 3) + 1)) 1 (upd (r569.1 1) ((r569.2.1 0 3).toNatClampNeg) 40)) c n))) 1 (fun _ _ => rfl) ?_
              exact (dzt_B196_64_34 z L xs c n (q_sA (q_sI r569 0 3 ((r569.2.1 0 3) + 1)) 1 (upd (r569.1 1) ((r569.2.1 0 3).toNatClampNeg) 40)) a1 a2)
def dz_B331_64 (s : q_S) : Int32 :=
  (s.2.1 0 3)
set_option maxHeartbeats 4000000 in
theorem dzt_B331_64 (z L : Nat) (xs : Nat → Int32) (s : q_S) (c n : Nat) : q_Ca (q_TBs z L xs) 1 331 [.ref 64] (q_kB s c n) ((q_oP (q_kB s c n)) (dz_B331_64 s)) := by
  refine q_CaT_of (φ := (q_oP (q_kB s c n))) (Nat.le_of_ble_eq_true rfl) ?_
  unfold dz_B331_64
  refine q_RT_seg (g2 := (4, [(0, .ref 64)], [.int (s.2.1 0 3)], (q_kB s c n))) 2 (fun _ _ => rfl) ?_
  exact q_RT_ret rfl rfl rfl
def dz_B329_64 (s : q_S) : Int32 :=
  q_let (dz_B331_64 s) fun r577 => r577
set_option maxHeartbeats 4000000 in
theorem dzt_B329_64 (z L : Nat) (xs : Nat → Int32) (s : q_S) (c n : Nat) : q_Ca (q_TBs z L xs) 2 329 [.ref 64] (q_kB s c n) ((q_oP (q_kB s c n)) (dz_B329_64 s)) := by
  refine q_CaT_of (φ := (q_oP (q_kB s c n))) (Nat.le_of_ble_eq_true rfl) ?_
  unfold dz_B329_64
  refine q_RT_seg (g2 := (1, [(0, .ref 64)], [.ref 64], (q_kB s c n))) 1 (fun _ _ => rfl) ?_
  refine q_RT_call (v := (some (.int (dz_B331_64 s)))) (h2 := (q_kB s c n)) rfl rfl ((dzt_B331_64 z L xs s c n).le (Nat.le_of_ble_eq_true rfl)) ?_
  generalize dz_B331_64 s = r577
  refine q_RT_let ?_
  show q_RT _ _ _ (4, [(0, .ref 64)], [.int r577], (q_kB s c n)) _ _
  exact q_RT_ret rfl rfl rfl
def dz_B336_64 (s : q_S) (a1 : Int32) : Option (Int32) :=
  q_let (if 16 < (s.2.1 0 3) then 16 else (s.2.1 0 3)) fun x582 => (dz_B349 s a1 x582).bind fun r583 => cond (q_in a1 16) (cond (decide (vp_nar .char (((((s.1 1) (a1.toNatClampNeg)) &&& 255).toUInt32 % 65536).toInt32) = ((((s.1 1) (a1.toNatClampNeg)) &&& 255).toUInt32 % 65536).toInt32)) (some (((((s.1 1) (a1.toNatClampNeg)) &&& 255).toUInt32 % 65536).toInt32)) none) none
set_option maxHeartbeats 4000000 in
theorem dzt_B336_64 (z L : Nat) (xs : Nat → Int32) (s : q_S) (c n : Nat) (a1 : Int32) (x : Int32) (h : dz_B336_64 s a1 = some x) : q_Ca (q_TBs z L xs) 3 336 [.ref 64, .int a1] (q_kB s c n) ((q_oP (q_kB s c n)) x) := by
  refine q_CaP_of (φ := (q_oP (q_kB s c n))) (Nat.le_of_ble_eq_true rfl) ?_ h
  clear h
  unfold dz_B336_64
  refine q_RP_seg (g2 := (4, [(0, .ref 64), (1, .int a1)], [.int 0], (q_kB s c n))) 2 (fun _ _ => rfl) ?_
  refine q_RP_seg (g2 := (14, [(3, .ref 65), (2, .int 0), (0, .ref 64), (1, .int a1)], [.int (s.2.1 0 3)], (q_kB s c n))) 6 (fun _ _ => rfl) ?_
  refine q_RP_seg (g2 := (21, [(3, .ref 65), (2, .int 0), (0, .ref 64), (1, .int a1)], [.int (if 16 < (s.2.1 0 3) then 16 else (s.2.1 0 3))], (q_kB s c n))) 5 (fun _ _ => rfl) ?_
  generalize (if 16 < (s.2.1 0 3) then 16 else (s.2.1 0 3)) = x582
  refine q_RP_let ?_
  show q_RP _ _ _ (21, [(3, .ref 65), (2, .int 0), (0, .ref 64), (1, .int a1)], [.int x582], (q_kB s c n)) _ _
  refine q_RP_seg (g2 := (26, [(4, .int x582), (3, .ref 65), (2, .int 0), (0, .ref 64), (1, .int a1)], [.int x582, .int a1], (q_kB s c n))) 3 (fun _ _ => rfl) ?_
  refine q_RP_bd fun r583 er583 => ?_
  refine q_RP_call (v := none) (h2 := (q_kB s c n)) rfl rfl ((dzt_B349 z L xs s c n a1 x582 r583 er583).le (Nat.le_of_ble_eq_true rfl)) ?_
  show q_RP _ _ _ (29, [(4, .int x582), (3, .ref 65), (2, .int 0), (0, .ref 64), (1, .int a1)], [], (q_kB s c n)) _ _
  refine q_RP_seg (g2 := (35, [(4, .int x582), (3, .ref 65), (2, .int 0), (0, .ref 64), (1, .int a1)], [.int a1, .ref 65], (q_kB s c n))) 4 (fun _ _ => rfl) ?_
  refine q_RP_as fun i740 => ?_
  refine q_RP_rsT (g2 := (36, [(4, .int x582), (3, .ref 65), (2, .int 0), (0, .ref 64), (1, .int a1)], [.int ((s.1 1) (a1.toNatClampNeg))], (q_kB s c n))) rfl rfl i740 ?_
  refine q_RP_seg (g2 := (41, [(4, .int x582), (3, .ref 65), (2, .int 0), (0, .ref 64), (1, .int a1)], [.int (((((s.1 1) (a1.toNatClampNeg)) &&& 255).toUInt32 % 65536).toInt32)], (q_kB s c n))) 3 (fun _ _ => rfl) ?_
  refine q_RP_as fun i741 => ?_
  exact q_RP_ret rfl (if_pos (of_decide_eq_true i741)) rfl
def dz_B327_64 (s : q_S) (a1 : Int32) : Option (Int32) :=
  (dz_B336_64 s a1).bind fun r585 => cond (decide (vp_nar .char r585 = r585)) (some r585) none
set_option maxHeartbeats 4000000 in
theorem dzt_B327_64 (z L : Nat) (xs : Nat → Int32) (s : q_S) (c n : Nat) (a1 : Int32) (x : Int32) (h : dz_B327_64 s a1 = some x) : q_Ca (q_TBs z L xs) 4 327 [.ref 64, .int a1] (q_kB s c n) ((q_oP (q_kB s c n)) x) := by
  refine q_CaP_of (φ := (q_oP (q_kB s c n))) (Nat.le_of_ble_eq_true rfl) ?_ h
  clear h
  unfold dz_B327_64
  refine q_RP_seg (g2 := (2, [(0, .ref 64), (1, .int a1)], [.int a1, .ref 64], (q_kB s c n))) 2 (fun _ _ => rfl) ?_
  refine q_RP_bd fun r585 er585 => ?_
  refine q_RP_call (v := (some (.int r585))) (h2 := (q_kB s c n)) rfl rfl ((dzt_B336_64 z L xs s c n a1 r585 er585).le (Nat.le_of_ble_eq_true rfl)) ?_
  show q_RP _ _ _ (5, [(0, .ref 64), (1, .int a1)], [.int r585], (q_kB s c n)) _ _
  refine q_RP_as fun i742 => ?_
  exact q_RP_ret rfl (if_pos (of_decide_eq_true i742)) rfl
