section
-- 48.ba
def dz_B332_64 (s : q_S) (a1 : Int32) : Option (q_S) :=
  cond (decide (0 < a1 - 16)) (none) (some s)
set_option maxHeartbeats 4000000 in
theorem dzt_B332_64 (z L : Nat) (xs : Nat → Int32) (s : q_S) (c n : Nat) (a1 : Int32) (x : q_S) (h : dz_B332_64 s a1 = some x) : q_Ca (q_TBs z L xs) 1 332 [.ref 64, .int a1] (q_kB s c n) ((q_oSB c n) x) := by
  refine q_CaP_of (φ := (q_oSB c n)) (Nat.le_of_ble_eq_true rfl) ?_ h
  clear h
  unfold dz_B332_64
  refine q_RP_seg (g2 := (9, [(0, .ref 64), (1, .int a1)], [.int 0, .int 16], (q_kB s c n))) 5 (fun _ _ => rfl) ?_
  refine q_RP_seg (g2 := (14, [(2, .int 16), (0, .ref 64), (1, .int a1)], [.int (a1 - 16)], (q_kB s c n))) 5 (fun _ _ => rfl) ?_
  cases h2 : decide (0 < a1 - 16) with
  | true =>
    refine q_RP_cT ?_
    refine q_RP_rsF (g2 := (17, [(2, .int 16), (0, .ref 64), (1, .int a1)], [], (q_kB s c n))) rfl rfl (q_d_geT h2) ?_
    exact q_RP_no
  | false =>
    refine q_RP_cF ?_
    refine q_RP_rsT (g2 := (38, [(2, .int 16), (0, .ref 64), (1, .int a1)], [], (q_kB s c n))) rfl rfl (q_d_geF h2) ?_
    exact q_RP_ret rfl rfl rfl
def dz_B341_64 (s : q_S) : Bool :=
  true
set_option maxHeartbeats 4000000 in
theorem dzt_B341_64 (z L : Nat) (xs : Nat → Int32) (s : q_S) (c n : Nat) : q_Ca (q_TBs z L xs) 1 341 [.ref 64] (q_kB s c n) ((q_oB (q_kB s c n)) (dz_B341_64 s)) := by
  refine q_CaT_of (φ := (q_oB (q_kB s c n))) (Nat.le_of_ble_eq_true rfl) ?_
  unfold dz_B341_64
  refine q_RT_seg (g2 := (10, [(0, .ref 64)], [.int 0], (q_kB s c n))) 4 (fun _ _ => rfl) ?_
  refine q_RT_seg (g2 := (18, [(0, .ref 64)], [.int 1], (q_kB s c n))) 3 (fun _ _ => rfl) ?_
  exact q_RT_ret rfl rfl rfl
def dz_B335_64 (s : q_S) (a1 : Int32) : Option (q_S) :=
  cond (decide (a1 < 0)) (none) ((dz_B332_64 s a1).bind fun r1 => cond (decide (r1.2.1 0 3 < a1)) (q_let (dz_B341_64 r1) fun r2 => cond r2 (none) (none)) (cond (decide (a1 < r1.2.1 0 3)) (some (q_sI (q_sI r1 0 2 1) 0 3 a1)) (some (q_sI r1 0 3 a1))))
set_option maxHeartbeats 4000000 in
theorem dzt_B335_64 (z L : Nat) (xs : Nat → Int32) (s : q_S) (c n : Nat) (a1 : Int32) (x : q_S) (h : dz_B335_64 s a1 = some x) : q_Ca (q_TBs z L xs) 2 335 [.ref 64, .int a1] (q_kB s c n) ((q_oSB c n) x) := by
  refine q_CaP_of (φ := (q_oSB c n)) (Nat.le_of_ble_eq_true rfl) ?_ h
  clear h
  unfold dz_B335_64
  refine q_RP_seg (g2 := (1, [(0, .ref 64), (1, .int a1)], [.int a1], (q_kB s c n))) 1 (fun _ _ => rfl) ?_
  cases h2 : decide (a1 < 0) with
  | true =>
    refine q_RP_cT ?_
    refine q_RP_rsF (g2 := (4, [(0, .ref 64), (1, .int a1)], [], (q_kB s c n))) rfl rfl (q_d_geT h2) ?_
    exact q_RP_no
  | false =>
    refine q_RP_cF ?_
    refine q_RP_rsT (g2 := (13, [(0, .ref 64), (1, .int a1)], [], (q_kB s c n))) rfl rfl (q_d_geF h2) ?_
    refine q_RP_seg (g2 := (15, [(0, .ref 64), (1, .int a1)], [.int a1, .ref 64], (q_kB s c n))) 2 (fun _ _ => rfl) ?_
    refine q_RP_bd fun r1 er1 => ?_
    refine q_RP_call (v := none) (h2 := (q_kB r1 c n)) rfl rfl ((dzt_B332_64 z L xs s c n a1 r1 er1).le (Nat.le_of_ble_eq_true rfl)) ?_
    show q_RP _ _ _ (18, [(0, .ref 64), (1, .int a1)], [], (q_kB r1 c n)) _ _
    refine q_RP_seg (g2 := (22, [(0, .ref 64), (1, .int a1)], [.int (r1.2.1 0 3)], (q_kB r1 c n))) 2 (fun _ _ => rfl) ?_
    refine q_RP_seg (g2 := (23, [(0, .ref 64), (1, .int a1)], [.int a1, .int (r1.2.1 0 3)], (q_kB r1 c n))) 1 (fun _ _ => rfl) ?_
    cases h3 : decide (r1.2.1 0 3 < a1) with
    | true =>
      refine q_RP_cT ?_
      refine q_RP_rsF (g2 := (26, [(0, .ref 64), (1, .int a1)], [], (q_kB r1 c n))) rfl rfl (q_d_geT h3) ?_
      refine q_RP_seg (g2 := (27, [(0, .ref 64), (1, .int a1)], [.ref 64], (q_kB r1 c n))) 1 (fun _ _ => rfl) ?_
      refine q_RP_call (v := (some (.int (q_b (dz_B341_64 r1))))) (h2 := (q_kB r1 c n)) rfl rfl ((dzt_B341_64 z L xs r1 c n).le (Nat.le_of_ble_eq_true rfl)) ?_
      generalize dz_B341_64 r1 = r2
      refine q_RP_let ?_
      show q_RP _ _ _ (30, [(0, .ref 64), (1, .int a1)], [.int (q_b r2)], (q_kB r1 c n)) _ _
      cases h4 : r2 with
      | true =>
        refine q_RP_cT ?_
        show q_RP _ _ _ (30, [(0, .ref 64), (1, .int a1)], [.int 1], (q_kB r1 c n)) _ _
        refine q_RP_seg (g2 := (41, [(0, .ref 64), (1, .int a1)], [.int (r1.2.1 0 3), .ref 65], (q_kB r1 c n))) 5 (fun _ _ => rfl) ?_
        exact q_RP_no
      | false =>
        refine q_RP_cF ?_
        show q_RP _ _ _ (30, [(0, .ref 64), (1, .int a1)], [.int 0], (q_kB r1 c n)) _ _
        refine q_RP_seg (g2 := (56, [(0, .ref 64), (1, .int a1)], [.int (r1.2.1 0 3), .ref 65], (q_kB r1 c n))) 5 (fun _ _ => rfl) ?_
        exact q_RP_no
    | false =>
      refine q_RP_cF ?_
      refine q_RP_rsT (g2 := (63, [(0, .ref 64), (1, .int a1)], [], (q_kB r1 c n))) rfl rfl (q_d_geF h3) ?_
      refine q_RP_seg (g2 := (67, [(0, .ref 64), (1, .int a1)], [.int (r1.2.1 0 3)], (q_kB r1 c n))) 2 (fun _ _ => rfl) ?_
      refine q_RP_seg (g2 := (68, [(0, .ref 64), (1, .int a1)], [.int a1, .int (r1.2.1 0 3)], (q_kB r1 c n))) 1 (fun _ _ => rfl) ?_
      cases h5 : decide (a1 < r1.2.1 0 3) with
      | true =>
        refine q_RP_cT ?_
        refine q_RP_rsF (g2 := (71, [(0, .ref 64), (1, .int a1)], [], (q_kB r1 c n))) rfl rfl (q_d_geT h5) ?_
        refine q_RP_seg (g2 := (81, [(0, .ref 64), (1, .int a1)], [], (q_kB (q_sI (q_sI r1 0 2 1) 0 3 a1) c n))) 6 (fun _ _ => rfl) ?_
        exact q_RP_ret rfl rfl rfl
      | false =>
        refine q_RP_cF ?_
        refine q_RP_rsT (g2 := (76, [(0, .ref 64), (1, .int a1)], [], (q_kB r1 c n))) rfl rfl (q_d_geF h5) ?_
        refine q_RP_seg (g2 := (81, [(0, .ref 64), (1, .int a1)], [], (q_kB (q_sI r1 0 3 a1) c n))) 3 (fun _ _ => rfl) ?_
        exact q_RP_ret rfl rfl rfl
def dz_B328_64 (s : q_S) (a1 : Int32) : Option (q_S) :=
  (dz_B335_64 s a1).bind fun r2 => some r2
set_option maxHeartbeats 4000000 in
theorem dzt_B328_64 (z L : Nat) (xs : Nat → Int32) (s : q_S) (c n : Nat) (a1 : Int32) (x : q_S) (h : dz_B328_64 s a1 = some x) : q_Ca (q_TBs z L xs) 3 328 [.ref 64, .int a1] (q_kB s c n) ((q_oSB c n) x) := by
  refine q_CaP_of (φ := (q_oSB c n)) (Nat.le_of_ble_eq_true rfl) ?_ h
  clear h
  unfold dz_B328_64
  refine q_RP_seg (g2 := (2, [(0, .ref 64), (1, .int a1)], [.int a1, .ref 64], (q_kB s c n))) 2 (fun _ _ => rfl) ?_
  refine q_RP_bd fun r2 er2 => ?_
  refine q_RP_call (v := none) (h2 := (q_kB r2 c n)) rfl rfl ((dzt_B335_64 z L xs s c n a1 r2 er2).le (Nat.le_of_ble_eq_true rfl)) ?_
  show q_RP _ _ _ (5, [(0, .ref 64), (1, .int a1)], [], (q_kB r2 c n)) _ _
  exact q_RP_ret rfl rfl rfl
def dz_B321_16 (m : Nat) : q_S → Int32 → Int32 → Int32 → Int32 → Option (Int32) := Nat.rec (motive := fun _ => q_S → Int32 → Int32 → Int32 → Int32 → Option (Int32)) (fun _ _ _ _ _ => none) (fun _ k16 s v0 v1 v2 v3 =>
  cond (decide (v3 < 10)) (cond (decide (v2 < v0)) (some (v3 + v1)) (k16 s v0 v1 (10 * v2) (v3 + 1))) (some ((10 : Int32) + v1))) m
theorem dzs_B321_16 (m : Nat) (s : q_S) (v0 : Int32) (v1 : Int32) (v2 : Int32) (v3 : Int32) : dz_B321_16 (m + 1) s v0 v1 v2 v3 = (fun k16 : q_S → Int32 → Int32 → Int32 → Int32 → Option (Int32) =>
  cond (decide (v3 < 10)) (cond (decide (v2 < v0)) (some (v3 + v1)) (k16 s v0 v1 (10 * v2) (v3 + 1))) (some ((10 : Int32) + v1))) (dz_B321_16 m) := rfl
set_option maxHeartbeats 4000000 in
theorem dzt_B321_16 (z L : Nat) (xs : Nat → Int32) (c n : Nat) (s : q_S) : ∀ (m : Nat) (v0 : Int32) (v1 : Int32) (v2 : Int32) (v3 : Int32), q_RP (q_TBs z L xs) 0 321 (16, [(0, .int v0), (1, .int v1), (2, .int v2), (3, .int v3)], [], (q_kB s c n)) (q_oP (q_kB s c n)) (dz_B321_16 m s v0 v1 v2 v3) := by
  intro m
  induction m with
  | zero => intro v0 v1 v2 v3; exact q_RP_no
  | succ m ih =>
    intro v0 v1 v2 v3
    have hk16 := ih
    clear ih
    rw [dzs_B321_16]
    generalize dz_B321_16 m = k16 at hk16 ⊢
    dsimp only
    refine q_RP_seg (g2 := (19, [(0, .int v0), (1, .int v1), (2, .int v2), (3, .int v3)], [.int 10, .int v3], (q_kB s c n))) 2 (fun _ _ => rfl) ?_
    cases h2 : decide (v3 < 10) with
    | true =>
      refine q_RP_cT ?_
      refine q_RP_rsF (g2 := (22, [(0, .int v0), (1, .int v1), (2, .int v2), (3, .int v3)], [], (q_kB s c n))) rfl rfl (q_d_geT h2) ?_
      refine q_RP_seg (g2 := (24, [(0, .int v0), (1, .int v1), (2, .int v2), (3, .int v3)], [.int v2, .int v0], (q_kB s c n))) 2 (fun _ _ => rfl) ?_
      cases h3 : decide (v2 < v0) with
      | true =>
        refine q_RP_cT ?_
        refine q_RP_rsF (g2 := (27, [(0, .int v0), (1, .int v1), (2, .int v2), (3, .int v3)], [], (q_kB s c n))) rfl rfl (q_d_geT h3) ?_
        refine q_RP_seg (g2 := (30, [(0, .int v0), (1, .int v1), (2, .int v2), (3, .int v3)], [.int (v3 + v1)], (q_kB s c n))) 3 (fun _ _ => rfl) ?_
        exact q_RP_ret rfl rfl rfl
      | false =>
        refine q_RP_cF ?_
        refine q_RP_rsT (g2 := (31, [(0, .int v0), (1, .int v1), (2, .int v2), (3, .int v3)], [], (q_kB s c n))) rfl rfl (q_d_geF h3) ?_
        refine q_RP_seg (g2 := (16, [(3, .int (v3 + 1)), (2, .int (10 * v2)), (0, .int v0), (1, .int v1)], [], (q_kB s c n))) 6 (fun _ _ => rfl) ?_
        exact q_RP_xt (q_xt_mk (q_mn1 2 rfl (q_mn1 3 rfl (q_mn1 1 rfl (q_mn1 0 rfl q_mn0)))) rfl) (hk16 v0 v1 (10 * v2) (v3 + 1))
    | false =>
      refine q_RP_cF ?_
      refine q_RP_rsT (g2 := (42, [(0, .int v0), (1, .int v1), (2, .int v2), (3, .int v3)], [], (q_kB s c n))) rfl rfl (q_d_geF h2) ?_
      refine q_RP_seg (g2 := (46, [(0, .int v0), (1, .int v1), (2, .int v2), (3, .int v3)], [.int ((10 : Int32) + v1)], (q_kB s c n))) 3 (fun _ _ => rfl) ?_
      exact q_RP_ret rfl rfl rfl
def dz_B321 (s : q_S) (a0 : Int32) : Option (Int32) :=
  cond (decide (a0 < 0)) (dz_B321_16 5000 s a0 1 (-10) 1) (dz_B321_16 5000 s (-a0) 0 (-10) 1)
set_option maxHeartbeats 4000000 in
theorem dzt_B321 (z L : Nat) (xs : Nat → Int32) (s : q_S) (c n : Nat) (a0 : Int32) (x : Int32) (h : dz_B321 s a0 = some x) : q_Ca (q_TBs z L xs) 1 321 [.int a0] (q_kB s c n) ((q_oP (q_kB s c n)) x) := by
  refine q_CaP_of (φ := (q_oP (q_kB s c n))) (Nat.le_of_ble_eq_true rfl) ?_ h
  clear h
  unfold dz_B321
  refine q_RP_seg (g2 := (3, [(1, .int 1), (0, .int a0)], [.int a0], (q_kB s c n))) 3 (fun _ _ => rfl) ?_
  cases h1 : decide (a0 < 0) with
  | true =>
    refine q_RP_cT ?_
    refine q_RP_rsT (g2 := (11, [(1, .int 1), (0, .int a0)], [], (q_kB s c n))) rfl rfl h1 ?_
    refine q_RP_seg (g2 := (16, [(3, .int 1), (2, .int (-10)), (1, .int 1), (0, .int a0)], [], (q_kB s c n))) 4 (fun _ _ => rfl) ?_
    exact q_RP_xt (q_xt_mk (q_mn1 3 rfl (q_mn1 2 rfl (q_mn1 1 rfl (q_mn1 0 rfl q_mn0)))) rfl) (dzt_B321_16 z L xs c n s 5000 a0 1 (-10) 1)
  | false =>
    refine q_RP_cF ?_
    refine q_RP_rsF (g2 := (6, [(1, .int 1), (0, .int a0)], [], (q_kB s c n))) rfl rfl h1 ?_
    refine q_RP_seg (g2 := (16, [(3, .int 1), (2, .int (-10)), (0, .int (-a0)), (1, .int 0)], [], (q_kB s c n))) 9 (fun _ _ => rfl) ?_
    exact q_RP_xt (q_xt_mk (q_mn1 2 rfl (q_mn1 3 rfl (q_mn1 1 rfl (q_mn1 0 rfl q_mn0)))) rfl) (dzt_B321_16 z L xs c n s 5000 (-a0) 0 (-10) 1)
def dz_B320_65_22 (m : Nat) : q_S → Int32 → Int32 → Int32 → Option (q_S × Int32) := Nat.rec (motive := fun _ => q_S → Int32 → Int32 → Int32 → Option (q_S × Int32)) (fun _ _ _ _ => none) (fun _ k22 s v0 v5 v6 =>
  cond (decide ((-100) < v0)) (cond (q_in (-v0) 100) (cond (q_in (v5 + (-1)) 16) (cond (decide (v0 < (-9))) (cond (q_in ((v5 + (-1)) + (-1)) 16) (q_let ((q_sA s 1 (upd (s.1 1) ((v5 + (-1)).toNatClampNeg) (vp_nar .byte ((fun j => q_o6.getD j 0) ((-v0).toNatClampNeg)))))) fun r1 => cond (decide (v6 = 0)) (some ((q_sA r1 1 (upd (r1.1 1) (((v5 + (-1)) + (-1)).toNatClampNeg) (vp_nar .byte ((fun j => q_o7.getD j 0) ((-v0).toNatClampNeg))))), ((v5 + (-1)) + (-1)))) (cond (q_in (((v5 + (-1)) + (-1)) + (-1)) 16) (q_let ((q_sA r1 1 (upd (r1.1 1) (((v5 + (-1)) + (-1)).toNatClampNeg) (vp_nar .byte ((fun j => q_o7.getD j 0) ((-v0).toNatClampNeg)))))) fun r2 => some ((q_sA r2 1 (upd (r2.1 1) ((((v5 + (-1)) + (-1)) + (-1)).toNatClampNeg) (vp_nar .byte 45))), (((v5 + (-1)) + (-1)) + (-1)))) none)) none) (cond (decide (v6 = 0)) (some ((q_sA s 1 (upd (s.1 1) ((v5 + (-1)).toNatClampNeg) (vp_nar .byte ((fun j => q_o6.getD j 0) ((-v0).toNatClampNeg))))), (v5 + (-1)))) (cond (q_in ((v5 + (-1)) + (-1)) 16) (q_let ((q_sA s 1 (upd (s.1 1) ((v5 + (-1)).toNatClampNeg) (vp_nar .byte ((fun j => q_o6.getD j 0) ((-v0).toNatClampNeg)))))) fun r3 => some ((q_sA r3 1 (upd (r3.1 1) (((v5 + (-1)) + (-1)).toNatClampNeg) (vp_nar .byte 45))), ((v5 + (-1)) + (-1)))) none))) none) none) (q_let (((v0 / 100) * 100) - v0) fun x4 => cond (q_in x4 100) (cond (q_in (v5 + (-1)) 16) (cond (q_in ((v5 + (-1)) + (-1)) 16) (q_let ((q_sA s 1 (upd (s.1 1) ((v5 + (-1)).toNatClampNeg) (vp_nar .byte ((fun j => q_o6.getD j 0) (x4.toNatClampNeg)))))) fun r5 => k22 (q_sA r5 1 (upd (r5.1 1) (((v5 + (-1)) + (-1)).toNatClampNeg) (vp_nar .byte ((fun j => q_o7.getD j 0) (x4.toNatClampNeg))))) (v0 / 100) ((v5 + (-1)) + (-1)) v6) none) none) none)) m
theorem dzs_B320_65_22 (m : Nat) (s : q_S) (v0 : Int32) (v5 : Int32) (v6 : Int32) : dz_B320_65_22 (m + 1) s v0 v5 v6 = (fun k22 : q_S → Int32 → Int32 → Int32 → Option (q_S × Int32) =>
  cond (decide ((-100) < v0)) (cond (q_in (-v0) 100) (cond (q_in (v5 + (-1)) 16) (cond (decide (v0 < (-9))) (cond (q_in ((v5 + (-1)) + (-1)) 16) (q_let ((q_sA s 1 (upd (s.1 1) ((v5 + (-1)).toNatClampNeg) (vp_nar .byte ((fun j => q_o6.getD j 0) ((-v0).toNatClampNeg)))))) fun r1 => cond (decide (v6 = 0)) (some ((q_sA r1 1 (upd (r1.1 1) (((v5 + (-1)) + (-1)).toNatClampNeg) (vp_nar .byte ((fun j => q_o7.getD j 0) ((-v0).toNatClampNeg))))), ((v5 + (-1)) + (-1)))) (cond (q_in (((v5 + (-1)) + (-1)) + (-1)) 16) (q_let ((q_sA r1 1 (upd (r1.1 1) (((v5 + (-1)) + (-1)).toNatClampNeg) (vp_nar .byte ((fun j => q_o7.getD j 0) ((-v0).toNatClampNeg)))))) fun r2 => some ((q_sA r2 1 (upd (r2.1 1) ((((v5 + (-1)) + (-1)) + (-1)).toNatClampNeg) (vp_nar .byte 45))), (((v5 + (-1)) + (-1)) + (-1)))) none)) none) (cond (decide (v6 = 0)) (some ((q_sA s 1 (upd (s.1 1) ((v5 + (-1)).toNatClampNeg) (vp_nar .byte ((fun j => q_o6.getD j 0) ((-v0).toNatClampNeg))))), (v5 + (-1)))) (cond (q_in ((v5 + (-1)) + (-1)) 16) (q_let ((q_sA s 1 (upd (s.1 1) ((v5 + (-1)).toNatClampNeg) (vp_nar .byte ((fun j => q_o6.getD j 0) ((-v0).toNatClampNeg)))))) fun r3 => some ((q_sA r3 1 (upd (r3.1 1) (((v5 + (-1)) + (-1)).toNatClampNeg) (vp_nar .byte 45))), ((v5 + (-1)) + (-1)))) none))) none) none) (q_let (((v0 / 100) * 100) - v0) fun x4 => cond (q_in x4 100) (cond (q_in (v5 + (-1)) 16) (cond (q_in ((v5 + (-1)) + (-1)) 16) (q_let ((q_sA s 1 (upd (s.1 1) ((v5 + (-1)).toNatClampNeg) (vp_nar .byte ((fun j => q_o6.getD j 0) (x4.toNatClampNeg)))))) fun r5 => k22 (q_sA r5 1 (upd (r5.1 1) (((v5 + (-1)) + (-1)).toNatClampNeg) (vp_nar .byte ((fun j => q_o7.getD j 0) (x4.toNatClampNeg))))) (v0 / 100) ((v5 + (-1)) + (-1)) v6) none) none) none)) (dz_B320_65_22 m) := rfl
set_option maxHeartbeats 4000000 in
theorem dzt_B320_65_22 (z L : Nat) (xs : Nat → Int32) (c n : Nat) : ∀ (m : Nat) (s : q_S) (v0 : Int32) (v5 : Int32) (v6 : Int32), q_RP (q_TBs z L xs) 0 320 (22, [(0, .int v0), (2, .ref 65), (5, .int v5), (6, .int v6)], [], (q_kB s c n)) (q_oIB c n) (dz_B320_65_22 m s v0 v5 v6) := by
  intro m
  induction m with
  | zero => intro s v0 v5 v6; exact q_RP_no
  | succ m ih =>
    intro s v0 v5 v6
    have hk22 := ih
    clear ih
    rw [dzs_B320_65_22]
    generalize dz_B320_65_22 m = k22 at hk22 ⊢
    dsimp only
    refine q_RP_seg (g2 := (25, [(0, .int v0), (2, .ref 65), (5, .int v5), (6, .int v6)], [.int (-100), .int v0], (q_kB s c n))) 2 (fun _ _ => rfl) ?_
    cases h2 : decide ((-100) < v0) with
    | true =>
      refine q_RP_cT ?_
      refine q_RP_rsT (g2 := (72, [(0, .int v0), (2, .ref 65), (5, .int v5), (6, .int v6)], [], (q_kB s c n))) rfl rfl h2 ?_
      refine q_RP_seg (g2 := (83, [(5, .int (v5 + (-1))), (0, .int v0), (2, .ref 65), (6, .int v6)], [.int (-v0), .ref 6, .int (v5 + (-1)), .ref 65], (q_kB s c n))) 6 (fun _ _ => rfl) ?_
      refine q_RP_as fun i3 => ?_
      refine q_RP_rsT (g2 := (84, [(5, .int (v5 + (-1))), (0, .int v0), (2, .ref 65), (6, .int v6)], [.int ((fun j => q_o6.getD j 0) ((-v0).toNatClampNeg)), .int (v5 + (-1)), .ref 65], (q_kB s c n))) rfl rfl i3 ?_
      refine q_RP_as fun i4 => ?_
      refine q_RP_rsT (g2 := (85, [(5, .int (v5 + (-1))), (0, .int v0), (2, .ref 65), (6, .int v6)], [], (q_kB (q_sA s 1 (upd (s.1 1) ((v5 + (-1)).toNatClampNeg) (vp_nar .byte ((fun j => q_o6.getD j 0) ((-v0).toNatClampNeg))))) c n))) rfl q_wB1 i4 ?_
      refine q_RP_seg (g2 := (88, [(5, .int (v5 + (-1))), (0, .int v0), (2, .ref 65), (6, .int v6)], [.int (-9), .int v0], (q_kB (q_sA s 1 (upd (s.1 1) ((v5 + (-1)).toNatClampNeg) (vp_nar .byte ((fun j => q_o6.getD j 0) ((-v0).toNatClampNeg))))) c n))) 2 (fun _ _ => rfl) ?_
      cases h5 : decide (v0 < (-9)) with
      | true =>
        refine q_RP_cT ?_
        refine q_RP_rsF (g2 := (91, [(5, .int (v5 + (-1))), (0, .int v0), (2, .ref 65), (6, .int v6)], [], (q_kB (q_sA s 1 (upd (s.1 1) ((v5 + (-1)).toNatClampNeg) (vp_nar .byte ((fun j => q_o6.getD j 0) ((-v0).toNatClampNeg))))) c n))) rfl rfl (q_d_geT h5) ?_
        refine q_RP_seg (g2 := (102, [(5, .int ((v5 + (-1)) + (-1))), (0, .int v0), (2, .ref 65), (6, .int v6)], [.int (-v0), .ref 7, .int ((v5 + (-1)) + (-1)), .ref 65], (q_kB (q_sA s 1 (upd (s.1 1) ((v5 + (-1)).toNatClampNeg) (vp_nar .byte ((fun j => q_o6.getD j 0) ((-v0).toNatClampNeg))))) c n))) 6 (fun _ _ => rfl) ?_
        refine q_RP_rsT (g2 := (103, [(5, .int ((v5 + (-1)) + (-1))), (0, .int v0), (2, .ref 65), (6, .int v6)], [.int ((fun j => q_o7.getD j 0) ((-v0).toNatClampNeg)), .int ((v5 + (-1)) + (-1)), .ref 65], (q_kB (q_sA s 1 (upd (s.1 1) ((v5 + (-1)).toNatClampNeg) (vp_nar .byte ((fun j => q_o6.getD j 0) ((-v0).toNatClampNeg))))) c n))) rfl rfl i3 ?_
        refine q_RP_as fun i6 => ?_
        generalize (q_sA s 1 (upd (s.1 1) ((v5 + (-1)).toNatClampNeg) (vp_nar .byte ((fun j => q_o6.getD j 0) ((-v0).toNatClampNeg))))) = r1
        refine q_RP_let ?_
        show q_RP _ _ _ (103, [(5, .int ((v5 + (-1)) + (-1))), (0, .int v0), (2, .ref 65), (6, .int v6)], [.int ((fun j => q_o7.getD j 0) ((-v0).toNatClampNeg)), .int ((v5 + (-1)) + (-1)), .ref 65], (q_kB r1 c n)) _ _
        refine q_RP_rsT (g2 := (104, [(5, .int ((v5 + (-1)) + (-1))), (0, .int v0), (2, .ref 65), (6, .int v6)], [], (q_kB (q_sA r1 1 (upd (r1.1 1) (((v5 + (-1)) + (-1)).toNatClampNeg) (vp_nar .byte ((fun j => q_o7.getD j 0) ((-v0).toNatClampNeg))))) c n))) rfl q_wB1 i6 ?_
        refine q_RP_seg (g2 := (106, [(5, .int ((v5 + (-1)) + (-1))), (0, .int v0), (2, .ref 65), (6, .int v6)], [.int v6], (q_kB (q_sA r1 1 (upd (r1.1 1) (((v5 + (-1)) + (-1)).toNatClampNeg) (vp_nar .byte ((fun j => q_o7.getD j 0) ((-v0).toNatClampNeg))))) c n))) 1 (fun _ _ => rfl) ?_
        cases h7 : decide (v6 = 0) with
        | true =>
          refine q_RP_cT ?_
          refine q_RP_rsT (g2 := (118, [(5, .int ((v5 + (-1)) + (-1))), (0, .int v0), (2, .ref 65), (6, .int v6)], [], (q_kB (q_sA r1 1 (upd (r1.1 1) (((v5 + (-1)) + (-1)).toNatClampNeg) (vp_nar .byte ((fun j => q_o7.getD j 0) ((-v0).toNatClampNeg))))) c n))) rfl rfl h7 ?_
          refine q_RP_seg (g2 := (120, [(5, .int ((v5 + (-1)) + (-1))), (0, .int v0), (2, .ref 65), (6, .int v6)], [.int ((v5 + (-1)) + (-1))], (q_kB (q_sA r1 1 (upd (r1.1 1) (((v5 + (-1)) + (-1)).toNatClampNeg) (vp_nar .byte ((fun j => q_o7.getD j 0) ((-v0).toNatClampNeg))))) c n))) 1 (fun _ _ => rfl) ?_
          exact q_RP_ret rfl rfl rfl
        | false =>
          refine q_RP_cF ?_
          refine q_RP_rsF (g2 := (109, [(5, .int ((v5 + (-1)) + (-1))), (0, .int v0), (2, .ref 65), (6, .int v6)], [], (q_kB (q_sA r1 1 (upd (r1.1 1) (((v5 + (-1)) + (-1)).toNatClampNeg) (vp_nar .byte ((fun j => q_o7.getD j 0) ((-v0).toNatClampNeg))))) c n))) rfl rfl h7 ?_
          refine q_RP_seg (g2 := (117, [(5, .int (((v5 + (-1)) + (-1)) + (-1))), (0, .int v0), (2, .ref 65), (6, .int v6)], [.int 45, .int (((v5 + (-1)) + (-1)) + (-1)), .ref 65], (q_kB (q_sA r1 1 (upd (r1.1 1) (((v5 + (-1)) + (-1)).toNatClampNeg) (vp_nar .byte ((fun j => q_o7.getD j 0) ((-v0).toNatClampNeg))))) c n))) 4 (fun _ _ => rfl) ?_
          refine q_RP_as fun i8 => ?_
          generalize (q_sA r1 1 (upd (r1.1 1) (((v5 + (-1)) + (-1)).toNatClampNeg) (vp_nar .byte ((fun j => q_o7.getD j 0) ((-v0).toNatClampNeg))))) = r2
          refine q_RP_let ?_
          show q_RP _ _ _ (117, [(5, .int (((v5 + (-1)) + (-1)) + (-1))), (0, .int v0), (2, .ref 65), (6, .int v6)], [.int 45, .int (((v5 + (-1)) + (-1)) + (-1)), .ref 65], (q_kB r2 c n)) _ _
          refine q_RP_rsT (g2 := (118, [(5, .int (((v5 + (-1)) + (-1)) + (-1))), (0, .int v0), (2, .ref 65), (6, .int v6)], [], (q_kB (q_sA r2 1 (upd (r2.1 1) ((((v5 + (-1)) + (-1)) + (-1)).toNatClampNeg) (vp_nar .byte 45))) c n))) rfl q_wB1 i8 ?_
          refine q_RP_seg (g2 := (120, [(5, .int (((v5 + (-1)) + (-1)) + (-1))), (0, .int v0), (2, .ref 65), (6, .int v6)], [.int (((v5 + (-1)) + (-1)) + (-1))], (q_kB (q_sA r2 1 (upd (r2.1 1) ((((v5 + (-1)) + (-1)) + (-1)).toNatClampNeg) (vp_nar .byte 45))) c n))) 1 (fun _ _ => rfl) ?_
          exact q_RP_ret rfl rfl rfl
      | false =>
        refine q_RP_cF ?_
        refine q_RP_rsT (g2 := (104, [(5, .int (v5 + (-1))), (0, .int v0), (2, .ref 65), (6, .int v6)], [], (q_kB (q_sA s 1 (upd (s.1 1) ((v5 + (-1)).toNatClampNeg) (vp_nar .byte ((fun j => q_o6.getD j 0) ((-v0).toNatClampNeg))))) c n))) rfl rfl (q_d_geF h5) ?_
        refine q_RP_seg (g2 := (106, [(5, .int (v5 + (-1))), (0, .int v0), (2, .ref 65), (6, .int v6)], [.int v6], (q_kB (q_sA s 1 (upd (s.1 1) ((v5 + (-1)).toNatClampNeg) (vp_nar .byte ((fun j => q_o6.getD j 0) ((-v0).toNatClampNeg))))) c n))) 1 (fun _ _ => rfl) ?_
        cases h9 : decide (v6 = 0) with
        | true =>
          refine q_RP_cT ?_
          refine q_RP_rsT (g2 := (118, [(5, .int (v5 + (-1))), (0, .int v0), (2, .ref 65), (6, .int v6)], [], (q_kB (q_sA s 1 (upd (s.1 1) ((v5 + (-1)).toNatClampNeg) (vp_nar .byte ((fun j => q_o6.getD j 0) ((-v0).toNatClampNeg))))) c n))) rfl rfl h9 ?_
          refine q_RP_seg (g2 := (120, [(5, .int (v5 + (-1))), (0, .int v0), (2, .ref 65), (6, .int v6)], [.int (v5 + (-1))], (q_kB (q_sA s 1 (upd (s.1 1) ((v5 + (-1)).toNatClampNeg) (vp_nar .byte ((fun j => q_o6.getD j 0) ((-v0).toNatClampNeg))))) c n))) 1 (fun _ _ => rfl) ?_
          exact q_RP_ret rfl rfl rfl
        | false =>
          refine q_RP_cF ?_
          refine q_RP_rsF (g2 := (109, [(5, .int (v5 + (-1))), (0, .int v0), (2, .ref 65), (6, .int v6)], [], (q_kB (q_sA s 1 (upd (s.1 1) ((v5 + (-1)).toNatClampNeg) (vp_nar .byte ((fun j => q_o6.getD j 0) ((-v0).toNatClampNeg))))) c n))) rfl rfl h9 ?_
          refine q_RP_seg (g2 := (117, [(5, .int ((v5 + (-1)) + (-1))), (0, .int v0), (2, .ref 65), (6, .int v6)], [.int 45, .int ((v5 + (-1)) + (-1)), .ref 65], (q_kB (q_sA s 1 (upd (s.1 1) ((v5 + (-1)).toNatClampNeg) (vp_nar .byte ((fun j => q_o6.getD j 0) ((-v0).toNatClampNeg))))) c n))) 4 (fun _ _ => rfl) ?_
          refine q_RP_as fun i10 => ?_
          generalize (q_sA s 1 (upd (s.1 1) ((v5 + (-1)).toNatClampNeg) (vp_nar .byte ((fun j => q_o6.getD j 0) ((-v0).toNatClampNeg))))) = r3
          refine q_RP_let ?_
          show q_RP _ _ _ (117, [(5, .int ((v5 + (-1)) + (-1))), (0, .int v0), (2, .ref 65), (6, .int v6)], [.int 45, .int ((v5 + (-1)) + (-1)), .ref 65], (q_kB r3 c n)) _ _
          refine q_RP_rsT (g2 := (118, [(5, .int ((v5 + (-1)) + (-1))), (0, .int v0), (2, .ref 65), (6, .int v6)], [], (q_kB (q_sA r3 1 (upd (r3.1 1) (((v5 + (-1)) + (-1)).toNatClampNeg) (vp_nar .byte 45))) c n))) rfl q_wB1 i10 ?_
          refine q_RP_seg (g2 := (120, [(5, .int ((v5 + (-1)) + (-1))), (0, .int v0), (2, .ref 65), (6, .int v6)], [.int ((v5 + (-1)) + (-1))], (q_kB (q_sA r3 1 (upd (r3.1 1) (((v5 + (-1)) + (-1)).toNatClampNeg) (vp_nar .byte 45))) c n))) 1 (fun _ _ => rfl) ?_
          exact q_RP_ret rfl rfl rfl
    | false =>
      refine q_RP_cF ?_
      refine q_RP_rsF (g2 := (28, [(0, .int v0), (2, .ref 65), (5, .int v5), (6, .int v6)], [], (q_kB s c n))) rfl rfl h2 ?_
      refine q_RP_seg (g2 := (39, [(3, .int (v0 / 100)), (0, .int v0), (2, .ref 65), (5, .int v5), (6, .int v6)], [.int (((v0 / 100) * 100) - v0)], (q_kB s c n))) 9 (fun _ _ => rfl) ?_
      generalize (((v0 / 100) * 100) - v0) = x4
      refine q_RP_let ?_
      show q_RP _ _ _ (39, [(3, .int (v0 / 100)), (0, .int v0), (2, .ref 65), (5, .int v5), (6, .int v6)], [.int x4], (q_kB s c n)) _ _
      refine q_RP_seg (g2 := (54, [(5, .int (v5 + (-1))), (0, .int (v0 / 100)), (4, .int x4), (3, .int (v0 / 100)), (2, .ref 65), (6, .int v6)], [.int x4, .ref 6, .int (v5 + (-1)), .ref 65], (q_kB s c n))) 8 (fun _ _ => rfl) ?_
      refine q_RP_as fun i11 => ?_
      refine q_RP_rsT (g2 := (55, [(5, .int (v5 + (-1))), (0, .int (v0 / 100)), (4, .int x4), (3, .int (v0 / 100)), (2, .ref 65), (6, .int v6)], [.int ((fun j => q_o6.getD j 0) (x4.toNatClampNeg)), .int (v5 + (-1)), .ref 65], (q_kB s c n))) rfl rfl i11 ?_
      refine q_RP_as fun i12 => ?_
      refine q_RP_rsT (g2 := (56, [(5, .int (v5 + (-1))), (0, .int (v0 / 100)), (4, .int x4), (3, .int (v0 / 100)), (2, .ref 65), (6, .int v6)], [], (q_kB (q_sA s 1 (upd (s.1 1) ((v5 + (-1)).toNatClampNeg) (vp_nar .byte ((fun j => q_o6.getD j 0) (x4.toNatClampNeg))))) c n))) rfl q_wB1 i12 ?_
      refine q_RP_seg (g2 := (67, [(5, .int ((v5 + (-1)) + (-1))), (0, .int (v0 / 100)), (4, .int x4), (3, .int (v0 / 100)), (2, .ref 65), (6, .int v6)], [.int x4, .ref 7, .int ((v5 + (-1)) + (-1)), .ref 65], (q_kB (q_sA s 1 (upd (s.1 1) ((v5 + (-1)).toNatClampNeg) (vp_nar .byte ((fun j => q_o6.getD j 0) (x4.toNatClampNeg))))) c n))) 5 (fun _ _ => rfl) ?_
      refine q_RP_rsT (g2 := (68, [(5, .int ((v5 + (-1)) + (-1))), (0, .int (v0 / 100)), (4, .int x4), (3, .int (v0 / 100)), (2, .ref 65), (6, .int v6)], [.int ((fun j => q_o7.getD j 0) (x4.toNatClampNeg)), .int ((v5 + (-1)) + (-1)), .ref 65], (q_kB (q_sA s 1 (upd (s.1 1) ((v5 + (-1)).toNatClampNeg) (vp_nar .byte ((fun j => q_o6.getD j 0) (x4.toNatClampNeg))))) c n))) rfl rfl i11 ?_
      refine q_RP_as fun i13 => ?_
      generalize (q_sA s 1 (upd (s.1 1) ((v5 + (-1)).toNatClampNeg) (vp_nar .byte ((fun j => q_o6.getD j 0) (x4.toNatClampNeg))))) = r5
      refine q_RP_let ?_
      show q_RP _ _ _ (68, [(5, .int ((v5 + (-1)) + (-1))), (0, .int (v0 / 100)), (4, .int x4), (3, .int (v0 / 100)), (2, .ref 65), (6, .int v6)], [.int ((fun j => q_o7.getD j 0) (x4.toNatClampNeg)), .int ((v5 + (-1)) + (-1)), .ref 65], (q_kB r5 c n)) _ _
      refine q_RP_rsT (g2 := (69, [(5, .int ((v5 + (-1)) + (-1))), (0, .int (v0 / 100)), (4, .int x4), (3, .int (v0 / 100)), (2, .ref 65), (6, .int v6)], [], (q_kB (q_sA r5 1 (upd (r5.1 1) (((v5 + (-1)) + (-1)).toNatClampNeg) (vp_nar .byte ((fun j => q_o7.getD j 0) (x4.toNatClampNeg))))) c n))) rfl q_wB1 i13 ?_
      refine q_RP_seg (g2 := (22, [(5, .int ((v5 + (-1)) + (-1))), (0, .int (v0 / 100)), (4, .int x4), (3, .int (v0 / 100)), (2, .ref 65), (6, .int v6)], [], (q_kB (q_sA r5 1 (upd (r5.1 1) (((v5 + (-1)) + (-1)).toNatClampNeg) (vp_nar .byte ((fun j => q_o7.getD j 0) (x4.toNatClampNeg))))) c n))) 1 (fun _ _ => rfl) ?_
      exact q_RP_xt (q_xt_mk (q_mn1 1 rfl (q_mn1 4 rfl (q_mn1 0 rfl (q_mn1 5 rfl q_mn0)))) rfl) (hk22 (q_sA r5 1 (upd (r5.1 1) (((v5 + (-1)) + (-1)).toNatClampNeg) (vp_nar .byte ((fun j => q_o7.getD j 0) (x4.toNatClampNeg))))) (v0 / 100) ((v5 + (-1)) + (-1)) v6)
def dz_B320_65 (s : q_S) (a0 : Int32) (a1 : Int32) : Option (q_S × Int32) :=
  cond (decide (a0 < 0)) (dz_B320_65_22 5000 s a0 a1 1) (dz_B320_65_22 5000 s (-a0) a1 0)
set_option maxHeartbeats 4000000 in
theorem dzt_B320_65 (z L : Nat) (xs : Nat → Int32) (s : q_S) (c n : Nat) (a0 : Int32) (a1 : Int32) (x : q_S × Int32) (h : dz_B320_65 s a0 a1 = some x) : q_Ca (q_TBs z L xs) 1 320 [.int a0, .int a1, .ref 65] (q_kB s c n) ((q_oIB c n) x) := by
  refine q_CaP_of (φ := (q_oIB c n)) (Nat.le_of_ble_eq_true rfl) ?_ h
  clear h
  unfold dz_B320_65
  refine q_RP_seg (g2 := (4, [(5, .int a1), (0, .int a0), (1, .int a1), (2, .ref 65)], [.int a0], (q_kB s c n))) 3 (fun _ _ => rfl) ?_
  cases h1 : decide (a0 < 0) with
  | true =>
    refine q_RP_cT ?_
    refine q_RP_rsF (g2 := (7, [(5, .int a1), (0, .int a0), (1, .int a1), (2, .ref 65)], [], (q_kB s c n))) rfl rfl (q_d_geT h1) ?_
    refine q_RP_seg (g2 := (22, [(6, .int 1), (5, .int a1), (0, .int a0), (1, .int a1), (2, .ref 65)], [], (q_kB s c n))) 5 (fun _ _ => rfl) ?_
    exact q_RP_xt (q_xt_mk (q_mn1 2 rfl (q_mn1 4 rfl (q_mn1 1 rfl (q_mn1 0 rfl q_mn0)))) rfl) (dzt_B320_65_22 z L xs c n 5000 s a0 a1 1)
  | false =>
    refine q_RP_cF ?_
    refine q_RP_rsT (g2 := (11, [(5, .int a1), (0, .int a0), (1, .int a1), (2, .ref 65)], [], (q_kB s c n))) rfl rfl (q_d_geF h1) ?_
    refine q_RP_seg (g2 := (22, [(0, .int (-a0)), (6, .int 0), (5, .int a1), (1, .int a1), (2, .ref 65)], [], (q_kB s c n))) 7 (fun _ _ => rfl) ?_
    exact q_RP_xt (q_xt_mk (q_mn1 0 rfl (q_mn1 4 rfl (q_mn1 2 rfl (q_mn1 1 rfl q_mn0)))) rfl) (dzt_B320_65_22 z L xs c n 5000 s (-a0) a1 0)
def dz_B340_64 (s : q_S) (a1 : Int32) : Option (q_S) :=
  q_let (s.2.1 0 3) fun x3 => (dz_B321 s a1).bind fun r4 => (dz_B332_64 s (x3 + r4)).bind fun r5 => q_let (dz_B341_64 r5) fun r6 => cond r6 ((dz_B320_65 r5 a1 (x3 + r4)).bind fun r7 => some (q_sI r7.1 0 3 (x3 + r4))) (none)
set_option maxHeartbeats 4000000 in
theorem dzt_B340_64 (z L : Nat) (xs : Nat → Int32) (s : q_S) (c n : Nat) (a1 : Int32) (x : q_S) (h : dz_B340_64 s a1 = some x) : q_Ca (q_TBs z L xs) 2 340 [.ref 64, .int a1] (q_kB s c n) ((q_oRB c n) x) := by
  refine q_CaP_of (φ := (q_oRB c n)) (Nat.le_of_ble_eq_true rfl) ?_ h
  clear h
  unfold dz_B340_64
  refine q_RP_seg (g2 := (4, [(0, .ref 64), (1, .int a1)], [.int (s.2.1 0 3)], (q_kB s c n))) 2 (fun _ _ => rfl) ?_
  generalize (s.2.1 0 3) = x3
  refine q_RP_let ?_
  show q_RP _ _ _ (4, [(0, .ref 64), (1, .int a1)], [.int x3], (q_kB s c n)) _ _
  refine q_RP_seg (g2 := (7, [(2, .int x3), (0, .ref 64), (1, .int a1)], [.int a1, .int x3], (q_kB s c n))) 3 (fun _ _ => rfl) ?_
  refine q_RP_bd fun r4 er4 => ?_
  refine q_RP_call (v := (some (.int r4))) (h2 := (q_kB s c n)) rfl rfl ((dzt_B321 z L xs s c n a1 r4 er4).le (Nat.le_of_ble_eq_true rfl)) ?_
  show q_RP _ _ _ (10, [(2, .int x3), (0, .ref 64), (1, .int a1)], [.int r4, .int x3], (q_kB s c n)) _ _
  refine q_RP_seg (g2 := (14, [(3, .int (x3 + r4)), (2, .int x3), (0, .ref 64), (1, .int a1)], [.int (x3 + r4), .ref 64], (q_kB s c n))) 4 (fun _ _ => rfl) ?_
  refine q_RP_bd fun r5 er5 => ?_
  refine q_RP_call (v := none) (h2 := (q_kB r5 c n)) rfl rfl ((dzt_B332_64 z L xs s c n (x3 + r4) r5 er5).le (Nat.le_of_ble_eq_true rfl)) ?_
  show q_RP _ _ _ (17, [(3, .int (x3 + r4)), (2, .int x3), (0, .ref 64), (1, .int a1)], [], (q_kB r5 c n)) _ _
  refine q_RP_seg (g2 := (18, [(3, .int (x3 + r4)), (2, .int x3), (0, .ref 64), (1, .int a1)], [.ref 64], (q_kB r5 c n))) 1 (fun _ _ => rfl) ?_
  refine q_RP_call (v := (some (.int (q_b (dz_B341_64 r5))))) (h2 := (q_kB r5 c n)) rfl rfl ((dzt_B341_64 z L xs r5 c n).le (Nat.le_of_ble_eq_true rfl)) ?_
  generalize dz_B341_64 r5 = r6
  refine q_RP_let ?_
  show q_RP _ _ _ (21, [(3, .int (x3 + r4)), (2, .int x3), (0, .ref 64), (1, .int a1)], [.int (q_b r6)], (q_kB r5 c n)) _ _
  cases h1 : r6 with
  | true =>
    refine q_RP_cT ?_
    show q_RP _ _ _ (21, [(3, .int (x3 + r4)), (2, .int x3), (0, .ref 64), (1, .int a1)], [.int 1], (q_kB r5 c n)) _ _
    refine q_RP_seg (g2 := (30, [(3, .int (x3 + r4)), (2, .int x3), (0, .ref 64), (1, .int a1)], [.ref 65, .int (x3 + r4), .int a1], (q_kB r5 c n))) 5 (fun _ _ => rfl) ?_
    refine q_RP_bd fun r7 er7 => ?_
    refine q_RP_call (v := (some (.int r7.2))) (h2 := (q_kB r7.1 c n)) rfl rfl ((dzt_B320_65 z L xs r5 c n a1 (x3 + r4) r7 er7).le (Nat.le_of_ble_eq_true rfl)) ?_
    show q_RP _ _ _ (33, [(3, .int (x3 + r4)), (2, .int x3), (0, .ref 64), (1, .int a1)], [.int r7.2], (q_kB r7.1 c n)) _ _
    refine q_RP_seg (g2 := (54, [(3, .int (x3 + r4)), (2, .int x3), (0, .ref 64), (1, .int a1)], [.ref 64], (q_kB (q_sI r7.1 0 3 (x3 + r4)) c n))) 6 (fun _ _ => rfl) ?_
    exact q_RP_ret rfl rfl rfl
  | false =>
    refine q_RP_cF ?_
    show q_RP _ _ _ (21, [(3, .int (x3 + r4)), (2, .int x3), (0, .ref 64), (1, .int a1)], [.int 0], (q_kB r5 c n)) _ _
    exact q_RP_no
def dz_B326_64 (s : q_S) (a1 : Int32) : Option (q_S) :=
  (dz_B340_64 s a1).bind fun r2 => some r2
set_option maxHeartbeats 4000000 in
theorem dzt_B326_64 (z L : Nat) (xs : Nat → Int32) (s : q_S) (c n : Nat) (a1 : Int32) (x : q_S) (h : dz_B326_64 s a1 = some x) : q_Ca (q_TBs z L xs) 3 326 [.ref 64, .int a1] (q_kB s c n) ((q_oRB c n) x) := by
  refine q_CaP_of (φ := (q_oRB c n)) (Nat.le_of_ble_eq_true rfl) ?_ h
  clear h
  unfold dz_B326_64
  refine q_RP_seg (g2 := (2, [(0, .ref 64), (1, .int a1)], [.int a1, .ref 64], (q_kB s c n))) 2 (fun _ _ => rfl) ?_
  refine q_RP_bd fun r2 er2 => ?_
  refine q_RP_call (v := (some (.ref 64))) (h2 := (q_kB r2 c n)) rfl rfl ((dzt_B340_64 z L xs s c n a1 r2 er2).le (Nat.le_of_ble_eq_true rfl)) ?_
  show q_RP _ _ _ (5, [(0, .ref 64), (1, .int a1)], [.ref 64], (q_kB r2 c n)) _ _
  refine q_RP_seg (g2 := (7, [(0, .ref 64), (1, .int a1)], [.ref 64], (q_kB r2 c n))) 2 (fun _ _ => rfl) ?_
  exact q_RP_ret rfl rfl rfl
def dz_B353 (s : q_S) (a0 : Int32) : Bool :=
  cond (decide (255 < a0)) (false) (true)
set_option maxHeartbeats 4000000 in
theorem dzt_B353 (z L : Nat) (xs : Nat → Int32) (s : q_S) (c n : Nat) (a0 : Int32) : q_Ca (q_TBs z L xs) 1 353 [.int a0] (q_kB s c n) ((q_oB (q_kB s c n)) (dz_B353 s a0)) := by
  refine q_CaT_of (φ := (q_oB (q_kB s c n))) (Nat.le_of_ble_eq_true rfl) ?_
  unfold dz_B353
  refine q_RT_seg (g2 := (4, [(0, .int a0)], [.int 255, .int a0], (q_kB s c n))) 2 (fun _ _ => rfl) ?_
  cases h1 : decide (255 < a0) with
  | true =>
    refine q_RT_cT ?_
    refine q_RT_rsT (g2 := (11, [(0, .int a0)], [], (q_kB s c n))) rfl rfl h1 ?_
    refine q_RT_seg (g2 := (12, [(0, .int a0)], [.int 0], (q_kB s c n))) 1 (fun _ _ => rfl) ?_
    exact q_RT_ret rfl rfl rfl
  | false =>
    refine q_RT_cF ?_
    refine q_RT_rsF (g2 := (7, [(0, .int a0)], [], (q_kB s c n))) rfl rfl h1 ?_
    refine q_RT_seg (g2 := (12, [(0, .int a0)], [.int 1], (q_kB s c n))) 2 (fun _ _ => rfl) ?_
    exact q_RT_ret rfl rfl rfl
def dz_B339_64_56 (s : q_S) (v1 : Int32) : Option (q_S) :=
  none
set_option maxHeartbeats 4000000 in
theorem dzt_B339_64_56 (z L : Nat) (xs : Nat → Int32) (c n : Nat) (s : q_S) (v1 : Int32) : q_RP (q_TBs z L xs) 1 339 (56, [(0, .ref 64), (1, .int v1)], [], (q_kB s c n)) (q_oRB c n) (dz_B339_64_56 s v1) := by
  unfold dz_B339_64_56
  refine q_RP_seg (g2 := (65, [(0, .ref 64), (1, .int v1)], [.int (s.2.1 0 3), .ref 64, .ref 65], (q_kB s c n))) 5 (fun _ _ => rfl) ?_
  exact q_RP_no
def dz_B339_64_45 (s : q_S) (v1 : Int32) : Option (q_S) :=
  q_let (dz_B341_64 s) fun r5 => cond r5 (none) (dz_B339_64_56 s v1)
set_option maxHeartbeats 4000000 in
theorem dzt_B339_64_45 (z L : Nat) (xs : Nat → Int32) (c n : Nat) (s : q_S) (v1 : Int32) : q_RP (q_TBs z L xs) 1 339 (45, [(0, .ref 64), (1, .int v1)], [], (q_kB s c n)) (q_oRB c n) (dz_B339_64_45 s v1) := by
  unfold dz_B339_64_45
  refine q_RP_seg (g2 := (46, [(0, .ref 64), (1, .int v1)], [.ref 64], (q_kB s c n))) 1 (fun _ _ => rfl) ?_
  refine q_RP_call (v := (some (.int (q_b (dz_B341_64 s))))) (h2 := (q_kB s c n)) rfl rfl ((dzt_B341_64 z L xs s c n).le (Nat.le_of_ble_eq_true rfl)) ?_
  generalize dz_B341_64 s = r5
  refine q_RP_let ?_
  show q_RP _ _ _ (49, [(0, .ref 64), (1, .int v1)], [.int (q_b r5)], (q_kB s c n)) _ _
  cases h4 : r5 with
  | true =>
    refine q_RP_cT ?_
    show q_RP _ _ _ (49, [(0, .ref 64), (1, .int v1)], [.int 1], (q_kB s c n)) _ _
    exact q_RP_no
  | false =>
    refine q_RP_cF ?_
    show q_RP _ _ _ (49, [(0, .ref 64), (1, .int v1)], [.int 0], (q_kB s c n)) _ _
    refine q_RP_seg (g2 := (56, [(0, .ref 64), (1, .int v1)], [], (q_kB s c n))) 1 (fun _ _ => rfl) ?_
    exact (dzt_B339_64_56 z L xs c n s v1)
def dz_B339_64 (s : q_S) (a1 : Int32) : Option (q_S) :=
  (dz_B332_64 s ((s.2.1 0 3) + 1)).bind fun r2 => q_let (dz_B341_64 r2) fun r3 => cond r3 (q_let (dz_B353 r2 a1) fun r4 => cond r4 (cond (q_in (r2.2.1 0 3) 16) (some (q_sA (q_sI r2 0 3 ((r2.2.1 0 3) + 1)) 1 (upd (r2.1 1) ((r2.2.1 0 3).toNatClampNeg) (vp_nar .byte a1.toInt8.toInt32)))) none) (dz_B339_64_45 r2 a1)) (dz_B339_64_45 r2 a1)
set_option maxHeartbeats 4000000 in
theorem dzt_B339_64 (z L : Nat) (xs : Nat → Int32) (s : q_S) (c n : Nat) (a1 : Int32) (x : q_S) (h : dz_B339_64 s a1 = some x) : q_Ca (q_TBs z L xs) 2 339 [.ref 64, .int a1] (q_kB s c n) ((q_oRB c n) x) := by
  refine q_CaP_of (φ := (q_oRB c n)) (Nat.le_of_ble_eq_true rfl) ?_ h
  clear h
  unfold dz_B339_64
  refine q_RP_seg (g2 := (5, [(0, .ref 64), (1, .int a1)], [.int (s.2.1 0 3), .ref 64], (q_kB s c n))) 3 (fun _ _ => rfl) ?_
  refine q_RP_seg (g2 := (7, [(0, .ref 64), (1, .int a1)], [.int ((s.2.1 0 3) + 1), .ref 64], (q_kB s c n))) 2 (fun _ _ => rfl) ?_
  refine q_RP_bd fun r2 er2 => ?_
  refine q_RP_call (v := none) (h2 := (q_kB r2 c n)) rfl rfl ((dzt_B332_64 z L xs s c n ((s.2.1 0 3) + 1) r2 er2).le (Nat.le_of_ble_eq_true rfl)) ?_
  show q_RP _ _ _ (10, [(0, .ref 64), (1, .int a1)], [], (q_kB r2 c n)) _ _
  refine q_RP_seg (g2 := (11, [(0, .ref 64), (1, .int a1)], [.ref 64], (q_kB r2 c n))) 1 (fun _ _ => rfl) ?_
  refine q_RP_call (v := (some (.int (q_b (dz_B341_64 r2))))) (h2 := (q_kB r2 c n)) rfl rfl ((dzt_B341_64 z L xs r2 c n).le (Nat.le_of_ble_eq_true rfl)) ?_
  generalize dz_B341_64 r2 = r3
  refine q_RP_let ?_
  show q_RP _ _ _ (14, [(0, .ref 64), (1, .int a1)], [.int (q_b r3)], (q_kB r2 c n)) _ _
  cases h1 : r3 with
  | true =>
    refine q_RP_cT ?_
    show q_RP _ _ _ (14, [(0, .ref 64), (1, .int a1)], [.int 1], (q_kB r2 c n)) _ _
    refine q_RP_seg (g2 := (18, [(0, .ref 64), (1, .int a1)], [.int a1], (q_kB r2 c n))) 2 (fun _ _ => rfl) ?_
    refine q_RP_call (v := (some (.int (q_b (dz_B353 r2 a1))))) (h2 := (q_kB r2 c n)) rfl rfl ((dzt_B353 z L xs r2 c n a1).le (Nat.le_of_ble_eq_true rfl)) ?_
    generalize dz_B353 r2 a1 = r4
    refine q_RP_let ?_
    show q_RP _ _ _ (21, [(0, .ref 64), (1, .int a1)], [.int (q_b r4)], (q_kB r2 c n)) _ _
    cases h2 : r4 with
    | true =>
      refine q_RP_cT ?_
      show q_RP _ _ _ (21, [(0, .ref 64), (1, .int a1)], [.int 1], (q_kB r2 c n)) _ _
      refine q_RP_seg (g2 := (33, [(0, .ref 64), (1, .int a1)], [.int (r2.2.1 0 3), .ref 64, .ref 65], (q_kB r2 c n))) 6 (fun _ _ => rfl) ?_
      refine q_RP_seg (g2 := (41, [(0, .ref 64), (1, .int a1)], [.int a1.toInt8.toInt32, .int (r2.2.1 0 3), .ref 65], (q_kB (q_sI r2 0 3 ((r2.2.1 0 3) + 1)) c n))) 6 (fun _ _ => rfl) ?_
      refine q_RP_as fun i3 => ?_
      refine q_RP_rsT (g2 := (42, [(0, .ref 64), (1, .int a1)], [], (q_kB (q_sA (q_sI r2 0 3 ((r2.2.1 0 3) + 1)) 1 (upd (r2.1 1) ((r2.2.1 0 3).toNatClampNeg) (vp_nar .byte a1.toInt8.toInt32))) c n))) rfl q_wB1 i3 ?_
      refine q_RP_seg (g2 := (76, [(0, .ref 64), (1, .int a1)], [.ref 64], (q_kB (q_sA (q_sI r2 0 3 ((r2.2.1 0 3) + 1)) 1 (upd (r2.1 1) ((r2.2.1 0 3).toNatClampNeg) (vp_nar .byte a1.toInt8.toInt32))) c n))) 2 (fun _ _ => rfl) ?_
      exact q_RP_ret rfl rfl rfl
    | false =>
      refine q_RP_cF ?_
      show q_RP _ _ _ (21, [(0, .ref 64), (1, .int a1)], [.int 0], (q_kB r2 c n)) _ _
      refine q_RP_seg (g2 := (45, [(0, .ref 64), (1, .int a1)], [], (q_kB r2 c n))) 1 (fun _ _ => rfl) ?_
      exact (dzt_B339_64_45 z L xs c n r2 a1)
  | false =>
    refine q_RP_cF ?_
    show q_RP _ _ _ (14, [(0, .ref 64), (1, .int a1)], [.int 0], (q_kB r2 c n)) _ _
    refine q_RP_seg (g2 := (45, [(0, .ref 64), (1, .int a1)], [], (q_kB r2 c n))) 1 (fun _ _ => rfl) ?_
    exact (dzt_B339_64_45 z L xs c n r2 a1)
def dz_B325_64 (s : q_S) (a1 : Int32) : Option (q_S) :=
  (dz_B339_64 s a1).bind fun r2 => some r2
set_option maxHeartbeats 4000000 in
theorem dzt_B325_64 (z L : Nat) (xs : Nat → Int32) (s : q_S) (c n : Nat) (a1 : Int32) (x : q_S) (h : dz_B325_64 s a1 = some x) : q_Ca (q_TBs z L xs) 3 325 [.ref 64, .int a1] (q_kB s c n) ((q_oRB c n) x) := by
  refine q_CaP_of (φ := (q_oRB c n)) (Nat.le_of_ble_eq_true rfl) ?_ h
  clear h
  unfold dz_B325_64
  refine q_RP_seg (g2 := (2, [(0, .ref 64), (1, .int a1)], [.int a1, .ref 64], (q_kB s c n))) 2 (fun _ _ => rfl) ?_
  refine q_RP_bd fun r2 er2 => ?_
  refine q_RP_call (v := (some (.ref 64))) (h2 := (q_kB r2 c n)) rfl rfl ((dzt_B339_64 z L xs s c n a1 r2 er2).le (Nat.le_of_ble_eq_true rfl)) ?_
  show q_RP _ _ _ (5, [(0, .ref 64), (1, .int a1)], [.ref 64], (q_kB r2 c n)) _ _
  refine q_RP_seg (g2 := (7, [(0, .ref 64), (1, .int a1)], [.ref 64], (q_kB r2 c n))) 2 (fun _ _ => rfl) ?_
  exact q_RP_ret rfl rfl rfl
def dz_B185 (s : q_S) (a0 : Int32) : Int32 :=
  cond (decide (a0 < 128)) ((a0 / 8)) (cond (decide (a0 < 192)) ((-1)) (cond (decide (231 < a0)) ((-1)) (((a0 / 8) - 8))))
set_option maxHeartbeats 4000000 in
theorem dzt_B185 (z L : Nat) (xs : Nat → Int32) (s : q_S) (c n : Nat) (a0 : Int32) : q_Ca (q_TBs z L xs) 1 185 [.int a0] (q_kB s c n) ((q_oP (q_kB s c n)) (dz_B185 s a0)) := by
  refine q_CaT_of (φ := (q_oP (q_kB s c n))) (Nat.le_of_ble_eq_true rfl) ?_
  unfold dz_B185
  refine q_RT_seg (g2 := (4, [(0, .int a0)], [.int 128, .int a0], (q_kB s c n))) 2 (fun _ _ => rfl) ?_
  cases h1 : decide (a0 < 128) with
  | true =>
    refine q_RT_cT ?_
    refine q_RT_rsF (g2 := (7, [(0, .int a0)], [], (q_kB s c n))) rfl rfl (q_d_geT h1) ?_
    refine q_RT_seg (g2 := (11, [(0, .int a0)], [.int (a0 / 8)], (q_kB s c n))) 3 (fun _ _ => rfl) ?_
    exact q_RT_ret rfl rfl rfl
  | false =>
    refine q_RT_cF ?_
    refine q_RT_rsT (g2 := (12, [(0, .int a0)], [], (q_kB s c n))) rfl rfl (q_d_geF h1) ?_
    refine q_RT_seg (g2 := (16, [(0, .int a0)], [.int 192, .int a0], (q_kB s c n))) 2 (fun _ _ => rfl) ?_
    cases h2 : decide (a0 < 192) with
    | true =>
      refine q_RT_cT ?_
      refine q_RT_rsT (g2 := (36, [(0, .int a0)], [], (q_kB s c n))) rfl rfl h2 ?_
      refine q_RT_seg (g2 := (37, [(0, .int a0)], [.int (-1)], (q_kB s c n))) 1 (fun _ _ => rfl) ?_
      exact q_RT_ret rfl rfl rfl
    | false =>
      refine q_RT_cF ?_
      refine q_RT_rsF (g2 := (19, [(0, .int a0)], [], (q_kB s c n))) rfl rfl h2 ?_
      refine q_RT_seg (g2 := (23, [(0, .int a0)], [.int 231, .int a0], (q_kB s c n))) 2 (fun _ _ => rfl) ?_
      cases h3 : decide (231 < a0) with
      | true =>
        refine q_RT_cT ?_
        refine q_RT_rsT (g2 := (36, [(0, .int a0)], [], (q_kB s c n))) rfl rfl h3 ?_
        refine q_RT_seg (g2 := (37, [(0, .int a0)], [.int (-1)], (q_kB s c n))) 1 (fun _ _ => rfl) ?_
        exact q_RT_ret rfl rfl rfl
      | false =>
        refine q_RT_cF ?_
        refine q_RT_rsF (g2 := (26, [(0, .int a0)], [], (q_kB s c n))) rfl rfl h3 ?_
        refine q_RT_seg (g2 := (37, [(0, .int a0)], [.int ((a0 / 8) - 8)], (q_kB s c n))) 6 (fun _ _ => rfl) ?_
        exact q_RT_ret rfl rfl rfl
def dz_B347_14 (s : q_S) : Int32 :=
  0
set_option maxHeartbeats 4000000 in
theorem dzt_B347_14 (z L : Nat) (xs : Nat → Int32) (s : q_S) (c n : Nat) : q_Ca (q_TBs z L xs) 1 347 [.ref 14] (q_kB s c n) ((q_oP (q_kB s c n)) (dz_B347_14 s)) := by
  refine q_CaT_of (φ := (q_oP (q_kB s c n))) (Nat.le_of_ble_eq_true rfl) ?_
  unfold dz_B347_14
  refine q_RT_seg (g2 := (14, [(0, .ref 14)], [.int 0], (q_kB s c n))) 5 (fun _ _ => rfl) ?_
  exact q_RT_ret rfl rfl rfl
def dz_B344_14 (s : q_S) : Int32 :=
  q_let (dz_B347_14 s) fun r1 => ((3 : Int32) >>> (r1 &&& 31))
set_option maxHeartbeats 4000000 in
theorem dzt_B344_14 (z L : Nat) (xs : Nat → Int32) (s : q_S) (c n : Nat) : q_Ca (q_TBs z L xs) 2 344 [.ref 14] (q_kB s c n) ((q_oP (q_kB s c n)) (dz_B344_14 s)) := by
  refine q_CaT_of (φ := (q_oP (q_kB s c n))) (Nat.le_of_ble_eq_true rfl) ?_
  unfold dz_B344_14
  refine q_RT_seg (g2 := (6, [(0, .ref 14)], [.ref 14, .int 3], (q_kB s c n))) 4 (fun _ _ => rfl) ?_
  refine q_RT_call (v := (some (.int (dz_B347_14 s)))) (h2 := (q_kB s c n)) rfl rfl ((dzt_B347_14 z L xs s c n).le (Nat.le_of_ble_eq_true rfl)) ?_
  generalize dz_B347_14 s = r1
  refine q_RT_let ?_
  show q_RT _ _ _ (9, [(0, .ref 14)], [.int r1, .int 3], (q_kB s c n)) _ _
  refine q_RT_seg (g2 := (10, [(0, .ref 14)], [.int ((3 : Int32) >>> (r1 &&& 31))], (q_kB s c n))) 1 (fun _ _ => rfl) ?_
  exact q_RT_ret rfl rfl rfl
def dz_B342_64_14 (s : q_S) : Option (q_S) :=
  q_let (dz_B347_14 s) fun r2 => cond (decide (0 = r2)) (some s) (none)
set_option maxHeartbeats 4000000 in
theorem dzt_B342_64_14 (z L : Nat) (xs : Nat → Int32) (s : q_S) (c n : Nat) (x : q_S) (h : dz_B342_64_14 s = some x) : q_Ca (q_TBs z L xs) 2 342 [.ref 64, .ref 14] (q_kB s c n) ((q_oSB c n) x) := by
  refine q_CaP_of (φ := (q_oSB c n)) (Nat.le_of_ble_eq_true rfl) ?_ h
  clear h
  unfold dz_B342_64_14
  refine q_RP_seg (g2 := (10, [(0, .ref 64), (1, .ref 14)], [.int 0], (q_kB s c n))) 4 (fun _ _ => rfl) ?_
  refine q_RP_seg (g2 := (11, [(0, .ref 64), (1, .ref 14)], [.ref 14, .int 0], (q_kB s c n))) 1 (fun _ _ => rfl) ?_
  refine q_RP_call (v := (some (.int (dz_B347_14 s)))) (h2 := (q_kB s c n)) rfl rfl ((dzt_B347_14 z L xs s c n).le (Nat.le_of_ble_eq_true rfl)) ?_
  generalize dz_B347_14 s = r2
  refine q_RP_let ?_
  show q_RP _ _ _ (14, [(0, .ref 64), (1, .ref 14)], [.int r2, .int 0], (q_kB s c n)) _ _
  cases h2 : decide (0 = r2) with
  | true =>
    refine q_RP_cT ?_
    refine q_RP_rsT (g2 := (21, [(0, .ref 64), (1, .ref 14)], [], (q_kB s c n))) rfl rfl h2 ?_
    exact q_RP_ret rfl rfl rfl
  | false =>
    refine q_RP_cF ?_
    refine q_RP_rsF (g2 := (17, [(0, .ref 64), (1, .ref 14)], [], (q_kB s c n))) rfl rfl h2 ?_
    exact q_RP_no
def dz_B346_14_65 (s : q_S) (a2 : Int32) (a3 : Int32) : Option (q_S) :=
  q_let (dz_B347_14 s) fun r2 => cond (decide (r2 = a3)) (cond (q_cpk (a2 <<< (a3 &&& 31)) 3 16) (some (q_sA s 1 (va_cpy (fun j => q_o42.getD j 0) (s.1 1) 0 ((a2 <<< (a3 &&& 31)).toNatClampNeg) 3))) none) (none)
set_option maxHeartbeats 4000000 in
theorem dzt_B346_14_65 (z L : Nat) (xs : Nat → Int32) (s : q_S) (c n : Nat) (a2 : Int32) (a3 : Int32) (x : q_S) (h : dz_B346_14_65 s a2 a3 = some x) : q_Ca (q_TBs z L xs) 2 346 [.ref 14, .ref 65, .int a2, .int a3] (q_kB s c n) ((q_oSB c n) x) := by
  refine q_CaP_of (φ := (q_oSB c n)) (Nat.le_of_ble_eq_true rfl) ?_ h
  clear h
  unfold dz_B346_14_65
  refine q_RP_seg (g2 := (1, [(0, .ref 14), (1, .ref 65), (2, .int a2), (3, .int a3)], [.ref 14], (q_kB s c n))) 1 (fun _ _ => rfl) ?_
  refine q_RP_call (v := (some (.int (dz_B347_14 s)))) (h2 := (q_kB s c n)) rfl rfl ((dzt_B347_14 z L xs s c n).le (Nat.le_of_ble_eq_true rfl)) ?_
  generalize dz_B347_14 s = r2
  refine q_RP_let ?_
  show q_RP _ _ _ (4, [(0, .ref 14), (1, .ref 65), (2, .int a2), (3, .int a3)], [.int r2], (q_kB s c n)) _ _
  refine q_RP_seg (g2 := (5, [(0, .ref 14), (1, .ref 65), (2, .int a2), (3, .int a3)], [.int a3, .int r2], (q_kB s c n))) 1 (fun _ _ => rfl) ?_
  cases h3 : decide (r2 = a3) with
  | true =>
    refine q_RP_cT ?_
    refine q_RP_rsF (g2 := (8, [(0, .ref 14), (1, .ref 65), (2, .int a2), (3, .int a3)], [], (q_kB s c n))) rfl rfl (q_d_neT h3) ?_
    refine q_RP_seg (g2 := (22, [(0, .ref 14), (1, .ref 65), (2, .int a2), (3, .int a3)], [.int 3, .int (a2 <<< (a3 &&& 31)), .ref 65, .int 0, .ref 42], (q_kB s c n))) 10 (fun _ _ => rfl) ?_
    refine q_RP_as fun i4 => ?_
    refine q_RP_rsT (g2 := (25, [(0, .ref 14), (1, .ref 65), (2, .int a2), (3, .int a3)], [], (q_kB (q_sA s 1 (va_cpy (fun j => q_o42.getD j 0) (s.1 1) 0 ((a2 <<< (a3 &&& 31)).toNatClampNeg) 3)) c n))) rfl rfl (q_acbB i4 rfl) ?_
    refine q_RP_seg (g2 := (43, [(0, .ref 14), (1, .ref 65), (2, .int a2), (3, .int a3)], [], (q_kB (q_sA s 1 (va_cpy (fun j => q_o42.getD j 0) (s.1 1) 0 ((a2 <<< (a3 &&& 31)).toNatClampNeg) 3)) c n))) 1 (fun _ _ => rfl) ?_
    exact q_RP_ret rfl rfl rfl
  | false =>
    refine q_RP_cF ?_
    refine q_RP_rsT (g2 := (28, [(0, .ref 14), (1, .ref 65), (2, .int a2), (3, .int a3)], [], (q_kB s c n))) rfl rfl (q_d_neF h3) ?_
    exact q_RP_no
def dz_B343_64_14 (s : q_S) (a1 : Int32) : Option (q_S) :=
  (dz_B342_64_14 s).bind fun r2 => (dz_B346_14_65 r2 a1 0).bind fun r3 => some r3
set_option maxHeartbeats 4000000 in
theorem dzt_B343_64_14 (z L : Nat) (xs : Nat → Int32) (s : q_S) (c n : Nat) (a1 : Int32) (x : q_S) (h : dz_B343_64_14 s a1 = some x) : q_Ca (q_TBs z L xs) 3 343 [.ref 64, .int a1, .ref 14] (q_kB s c n) ((q_oSB c n) x) := by
  refine q_CaP_of (φ := (q_oSB c n)) (Nat.le_of_ble_eq_true rfl) ?_ h
  clear h
  unfold dz_B343_64_14
  refine q_RP_seg (g2 := (2, [(0, .ref 64), (1, .int a1), (2, .ref 14)], [.ref 14, .ref 64], (q_kB s c n))) 2 (fun _ _ => rfl) ?_
  refine q_RP_bd fun r2 er2 => ?_
  refine q_RP_call (v := none) (h2 := (q_kB r2 c n)) rfl rfl ((dzt_B342_64_14 z L xs s c n r2 er2).le (Nat.le_of_ble_eq_true rfl)) ?_
  show q_RP _ _ _ (5, [(0, .ref 64), (1, .int a1), (2, .ref 14)], [], (q_kB r2 c n)) _ _
  refine q_RP_seg (g2 := (15, [(0, .ref 64), (1, .int a1), (2, .ref 14)], [.int 0, .int a1, .ref 65, .ref 14], (q_kB r2 c n))) 6 (fun _ _ => rfl) ?_
  refine q_RP_bd fun r3 er3 => ?_
  refine q_RP_call (v := none) (h2 := (q_kB r3 c n)) rfl rfl ((dzt_B346_14_65 z L xs r2 c n a1 0 r3 er3).le (Nat.le_of_ble_eq_true rfl)) ?_
  show q_RP _ _ _ (18, [(0, .ref 64), (1, .int a1), (2, .ref 14)], [], (q_kB r3 c n)) _ _
  exact q_RP_ret rfl rfl rfl
def dz_B337_64_14 (s : q_S) : Option (q_S) :=
  q_let (dz_B344_14 s) fun r3 => (dz_B332_64 s ((s.2.1 0 3) + r3)).bind fun r4 => (dz_B343_64_14 r4 (r4.2.1 0 3)).bind fun r5 => some (q_sI r5 0 3 ((r5.2.1 0 3) + r3))
set_option maxHeartbeats 4000000 in
theorem dzt_B337_64_14 (z L : Nat) (xs : Nat → Int32) (s : q_S) (c n : Nat) (x : q_S) (h : dz_B337_64_14 s = some x) : q_Ca (q_TBs z L xs) 4 337 [.ref 64, .ref 14] (q_kB s c n) ((q_oRB c n) x) := by
  refine q_CaP_of (φ := (q_oRB c n)) (Nat.le_of_ble_eq_true rfl) ?_ h
  clear h
  unfold dz_B337_64_14
  refine q_RP_seg (g2 := (10, [(0, .ref 64), (1, .ref 14)], [.ref 14], (q_kB s c n))) 3 (fun _ _ => rfl) ?_
  refine q_RP_call (v := (some (.int (dz_B344_14 s)))) (h2 := (q_kB s c n)) rfl rfl ((dzt_B344_14 z L xs s c n).le (Nat.le_of_ble_eq_true rfl)) ?_
  generalize dz_B344_14 s = r3
  refine q_RP_let ?_
  show q_RP _ _ _ (13, [(0, .ref 64), (1, .ref 14)], [.int r3], (q_kB s c n)) _ _
  refine q_RP_seg (g2 := (19, [(2, .int r3), (0, .ref 64), (1, .ref 14)], [.int (s.2.1 0 3), .ref 64], (q_kB s c n))) 4 (fun _ _ => rfl) ?_
  refine q_RP_seg (g2 := (21, [(2, .int r3), (0, .ref 64), (1, .ref 14)], [.int ((s.2.1 0 3) + r3), .ref 64], (q_kB s c n))) 2 (fun _ _ => rfl) ?_
  refine q_RP_bd fun r4 er4 => ?_
  refine q_RP_call (v := none) (h2 := (q_kB r4 c n)) rfl rfl ((dzt_B332_64 z L xs s c n ((s.2.1 0 3) + r3) r4 er4).le (Nat.le_of_ble_eq_true rfl)) ?_
  show q_RP _ _ _ (24, [(2, .int r3), (0, .ref 64), (1, .ref 14)], [], (q_kB r4 c n)) _ _
  refine q_RP_seg (g2 := (29, [(2, .int r3), (0, .ref 64), (1, .ref 14)], [.int (r4.2.1 0 3), .ref 64], (q_kB r4 c n))) 3 (fun _ _ => rfl) ?_
  refine q_RP_seg (g2 := (30, [(2, .int r3), (0, .ref 64), (1, .ref 14)], [.ref 14, .int (r4.2.1 0 3), .ref 64], (q_kB r4 c n))) 1 (fun _ _ => rfl) ?_
  refine q_RP_bd fun r5 er5 => ?_
  refine q_RP_call (v := none) (h2 := (q_kB r5 c n)) rfl rfl ((dzt_B343_64_14 z L xs r4 c n (r4.2.1 0 3) r5 er5).le (Nat.le_of_ble_eq_true rfl)) ?_
  show q_RP _ _ _ (33, [(2, .int r3), (0, .ref 64), (1, .ref 14)], [], (q_kB r5 c n)) _ _
  refine q_RP_seg (g2 := (38, [(2, .int r3), (0, .ref 64), (1, .ref 14)], [.int (r5.2.1 0 3), .ref 64], (q_kB r5 c n))) 3 (fun _ _ => rfl) ?_
  refine q_RP_seg (g2 := (44, [(2, .int r3), (0, .ref 64), (1, .ref 14)], [.ref 64], (q_kB (q_sI r5 0 3 ((r5.2.1 0 3) + r3)) c n))) 4 (fun _ _ => rfl) ?_
  exact q_RP_ret rfl rfl rfl
def dz_B324_64_14 (s : q_S) : Option (q_S) :=
  (dz_B337_64_14 s).bind fun r2 => some r2
set_option maxHeartbeats 4000000 in
theorem dzt_B324_64_14 (z L : Nat) (xs : Nat → Int32) (s : q_S) (c n : Nat) (x : q_S) (h : dz_B324_64_14 s = some x) : q_Ca (q_TBs z L xs) 5 324 [.ref 64, .ref 14] (q_kB s c n) ((q_oRB c n) x) := by
  refine q_CaP_of (φ := (q_oRB c n)) (Nat.le_of_ble_eq_true rfl) ?_ h
  clear h
  unfold dz_B324_64_14
  refine q_RP_seg (g2 := (2, [(0, .ref 64), (1, .ref 14)], [.ref 14, .ref 64], (q_kB s c n))) 2 (fun _ _ => rfl) ?_
  refine q_RP_bd fun r2 er2 => ?_
  refine q_RP_call (v := (some (.ref 64))) (h2 := (q_kB r2 c n)) rfl rfl ((dzt_B337_64_14 z L xs s c n r2 er2).le (Nat.le_of_ble_eq_true rfl)) ?_
  show q_RP _ _ _ (5, [(0, .ref 64), (1, .ref 14)], [.ref 64], (q_kB r2 c n)) _ _
  refine q_RP_seg (g2 := (7, [(0, .ref 64), (1, .ref 14)], [.ref 64], (q_kB r2 c n))) 2 (fun _ _ => rfl) ?_
  exact q_RP_ret rfl rfl rfl
def dz_B347_13 (s : q_S) : Int32 :=
  0
set_option maxHeartbeats 4000000 in
theorem dzt_B347_13 (z L : Nat) (xs : Nat → Int32) (s : q_S) (c n : Nat) : q_Ca (q_TBs z L xs) 1 347 [.ref 13] (q_kB s c n) ((q_oP (q_kB s c n)) (dz_B347_13 s)) := by
  refine q_CaT_of (φ := (q_oP (q_kB s c n))) (Nat.le_of_ble_eq_true rfl) ?_
  unfold dz_B347_13
  refine q_RT_seg (g2 := (14, [(0, .ref 13)], [.int 0], (q_kB s c n))) 5 (fun _ _ => rfl) ?_
  exact q_RT_ret rfl rfl rfl
def dz_B344_13 (s : q_S) : Int32 :=
  q_let (dz_B347_13 s) fun r1 => ((120 : Int32) >>> (r1 &&& 31))
set_option maxHeartbeats 4000000 in
theorem dzt_B344_13 (z L : Nat) (xs : Nat → Int32) (s : q_S) (c n : Nat) : q_Ca (q_TBs z L xs) 2 344 [.ref 13] (q_kB s c n) ((q_oP (q_kB s c n)) (dz_B344_13 s)) := by
  refine q_CaT_of (φ := (q_oP (q_kB s c n))) (Nat.le_of_ble_eq_true rfl) ?_
  unfold dz_B344_13
  refine q_RT_seg (g2 := (6, [(0, .ref 13)], [.ref 13, .int 120], (q_kB s c n))) 4 (fun _ _ => rfl) ?_
  refine q_RT_call (v := (some (.int (dz_B347_13 s)))) (h2 := (q_kB s c n)) rfl rfl ((dzt_B347_13 z L xs s c n).le (Nat.le_of_ble_eq_true rfl)) ?_
  generalize dz_B347_13 s = r1
  refine q_RT_let ?_
  show q_RT _ _ _ (9, [(0, .ref 13)], [.int r1, .int 120], (q_kB s c n)) _ _
  refine q_RT_seg (g2 := (10, [(0, .ref 13)], [.int ((120 : Int32) >>> (r1 &&& 31))], (q_kB s c n))) 1 (fun _ _ => rfl) ?_
  exact q_RT_ret rfl rfl rfl
def dz_B348_13 (s : q_S) : Bool :=
  true
set_option maxHeartbeats 4000000 in
theorem dzt_B348_13 (z L : Nat) (xs : Nat → Int32) (s : q_S) (c n : Nat) : q_Ca (q_TBs z L xs) 1 348 [.ref 13] (q_kB s c n) ((q_oB (q_kB s c n)) (dz_B348_13 s)) := by
  refine q_CaT_of (φ := (q_oB (q_kB s c n))) (Nat.le_of_ble_eq_true rfl) ?_
  unfold dz_B348_13
  refine q_RT_seg (g2 := (18, [(0, .ref 13)], [.int 1], (q_kB s c n))) 7 (fun _ _ => rfl) ?_
  exact q_RT_ret rfl rfl rfl
def dz_B371 (s : q_S) (a0 : Int32) (a1 : Int32) : Option (Int32) :=
  cond (decide (a0 < 0)) (none) (cond (decide (a0 < a1)) (some a0) (none))
set_option maxHeartbeats 4000000 in
theorem dzt_B371 (z L : Nat) (xs : Nat → Int32) (s : q_S) (c n : Nat) (a0 : Int32) (a1 : Int32) (x : Int32) (h : dz_B371 s a0 a1 = some x) : q_Ca (q_TBs z L xs) 1 371 [.int a0, .int a1, q_vS (q_TBs z L xs)] (q_kB s c n) ((q_oP (q_kB s c n)) x) := by
  refine q_CaP_of (φ := (q_oP (q_kB s c n))) (by simp only [q_wd, q_vS_wd]; exact Nat.le_of_ble_eq_true rfl) ?_ h
  clear h
  unfold dz_B371
  refine q_RP_seg (g2 := (1, [(0, .int a0), (1, .int a1), (2, q_vS (q_TBs z L xs))], [.int a0], (q_kB s c n))) 1 (fun _ _ => rfl) ?_
  cases h2 : decide (a0 < 0) with
  | true =>
    refine q_RP_cT ?_
    refine q_RP_rsT (g2 := (9, [(0, .int a0), (1, .int a1), (2, q_vS (q_TBs z L xs))], [], (q_kB s c n))) rfl rfl h2 ?_
    exact q_RP_no
  | false =>
    refine q_RP_cF ?_
    refine q_RP_rsF (g2 := (4, [(0, .int a0), (1, .int a1), (2, q_vS (q_TBs z L xs))], [], (q_kB s c n))) rfl rfl h2 ?_
    refine q_RP_seg (g2 := (6, [(0, .int a0), (1, .int a1), (2, q_vS (q_TBs z L xs))], [.int a1, .int a0], (q_kB s c n))) 2 (fun _ _ => rfl) ?_
    cases h3 : decide (a0 < a1) with
    | true =>
      refine q_RP_cT ?_
      refine q_RP_rsT (g2 := (16, [(0, .int a0), (1, .int a1), (2, q_vS (q_TBs z L xs))], [], (q_kB s c n))) rfl rfl h3 ?_
      refine q_RP_seg (g2 := (17, [(0, .int a0), (1, .int a1), (2, q_vS (q_TBs z L xs))], [.int a0], (q_kB s c n))) 1 (fun _ _ => rfl) ?_
      exact q_RP_ret rfl rfl rfl
    | false =>
      refine q_RP_cF ?_
      refine q_RP_rsF (g2 := (9, [(0, .int a0), (1, .int a1), (2, q_vS (q_TBs z L xs))], [], (q_kB s c n))) rfl rfl h3 ?_
      exact q_RP_no
def dz_B349 (s : q_S) (a0 : Int32) (a1 : Int32) : Option (Unit) :=
  (dz_B371 s a0 a1).bind fun r2 => some ()
set_option maxHeartbeats 4000000 in
theorem dzt_B349 (z L : Nat) (xs : Nat → Int32) (s : q_S) (c n : Nat) (a0 : Int32) (a1 : Int32) (x : Unit) (h : dz_B349 s a0 a1 = some x) : q_Ca (q_TBs z L xs) 2 349 [.int a0, .int a1] (q_kB s c n) ((q_oU (q_kB s c n)) x) := by
  refine q_CaP_of (φ := (q_oU (q_kB s c n))) (Nat.le_of_ble_eq_true rfl) ?_ h
  clear h
  unfold dz_B349
  refine q_RP_seg (g2 := (5, [(0, .int a0), (1, .int a1)], [q_vS (q_TBs z L xs), .int a1, .int a0], (q_kB s c n))) 3 (fun _ _ => rfl) ?_
  refine q_RP_bd fun r2 er2 => ?_
  refine q_RP_call (v := (some (.int r2))) (h2 := (q_kB s c n)) rfl rfl ((dzt_B371 z L xs s c n a0 a1 r2 er2).le (Nat.le_of_ble_eq_true rfl)) ?_
  show q_RP _ _ _ (8, [(0, .int a0), (1, .int a1)], [.int r2], (q_kB s c n)) _ _
  refine q_RP_seg (g2 := (9, [(0, .int a0), (1, .int a1)], [], (q_kB s c n))) 1 (fun _ _ => rfl) ?_
  exact q_RP_ret rfl rfl rfl
def dz_B352_41 (s : q_S) (a1 : Int32) : Option (Int32) :=
  (dz_B349 s a1 120).bind fun r2 => cond (q_in a1 120) (cond (decide (vp_nar .char (((((fun j => q_o41.getD j 0) (a1.toNatClampNeg)) &&& 255).toUInt32 % 65536).toInt32) = ((((fun j => q_o41.getD j 0) (a1.toNatClampNeg)) &&& 255).toUInt32 % 65536).toInt32)) (some (((((fun j => q_o41.getD j 0) (a1.toNatClampNeg)) &&& 255).toUInt32 % 65536).toInt32)) none) none
set_option maxHeartbeats 4000000 in
theorem dzt_B352_41 (z L : Nat) (xs : Nat → Int32) (s : q_S) (c n : Nat) (a1 : Int32) (x : Int32) (h : dz_B352_41 s a1 = some x) : q_Ca (q_TBs z L xs) 3 352 [.ref 41, .int a1] (q_kB s c n) ((q_oP (q_kB s c n)) x) := by
  refine q_CaP_of (φ := (q_oP (q_kB s c n))) (Nat.le_of_ble_eq_true rfl) ?_ h
  clear h
  unfold dz_B352_41
  refine q_RP_seg (g2 := (3, [(0, .ref 41), (1, .int a1)], [.int 120, .int a1], (q_kB s c n))) 3 (fun _ _ => rfl) ?_
  refine q_RP_bd fun r2 er2 => ?_
  refine q_RP_call (v := none) (h2 := (q_kB s c n)) rfl rfl ((dzt_B349 z L xs s c n a1 120 r2 er2).le (Nat.le_of_ble_eq_true rfl)) ?_
  show q_RP _ _ _ (6, [(0, .ref 41), (1, .int a1)], [], (q_kB s c n)) _ _
  refine q_RP_seg (g2 := (8, [(0, .ref 41), (1, .int a1)], [.int a1, .ref 41], (q_kB s c n))) 2 (fun _ _ => rfl) ?_
  refine q_RP_as fun i1 => ?_
  refine q_RP_rsT (g2 := (9, [(0, .ref 41), (1, .int a1)], [.int ((fun j => q_o41.getD j 0) (a1.toNatClampNeg))], (q_kB s c n))) rfl rfl i1 ?_
  refine q_RP_seg (g2 := (14, [(0, .ref 41), (1, .int a1)], [.int (((((fun j => q_o41.getD j 0) (a1.toNatClampNeg)) &&& 255).toUInt32 % 65536).toInt32)], (q_kB s c n))) 3 (fun _ _ => rfl) ?_
  refine q_RP_as fun i2 => ?_
  exact q_RP_ret rfl (if_pos (of_decide_eq_true i2)) rfl
def dz_B345_13 (s : q_S) (a1 : Int32) : Option (Int32) :=
  q_let (dz_B348_13 s) fun r3 => cond r3 ((dz_B352_41 s a1).bind fun r4 => cond (decide (vp_nar .char r4 = r4)) (some r4) none) (none)
set_option maxHeartbeats 4000000 in
theorem dzt_B345_13 (z L : Nat) (xs : Nat → Int32) (s : q_S) (c n : Nat) (a1 : Int32) (x : Int32) (h : dz_B345_13 s a1 = some x) : q_Ca (q_TBs z L xs) 4 345 [.ref 13, .int a1] (q_kB s c n) ((q_oP (q_kB s c n)) x) := by
  refine q_CaP_of (φ := (q_oP (q_kB s c n))) (Nat.le_of_ble_eq_true rfl) ?_ h
  clear h
  unfold dz_B345_13
  refine q_RP_seg (g2 := (1, [(0, .ref 13), (1, .int a1)], [.ref 13], (q_kB s c n))) 1 (fun _ _ => rfl) ?_
  refine q_RP_call (v := (some (.int (q_b (dz_B348_13 s))))) (h2 := (q_kB s c n)) rfl rfl ((dzt_B348_13 z L xs s c n).le (Nat.le_of_ble_eq_true rfl)) ?_
  generalize dz_B348_13 s = r3
  refine q_RP_let ?_
  show q_RP _ _ _ (4, [(0, .ref 13), (1, .int a1)], [.int (q_b r3)], (q_kB s c n)) _ _
  cases h2 : r3 with
  | true =>
    refine q_RP_cT ?_
    show q_RP _ _ _ (4, [(0, .ref 13), (1, .int a1)], [.int 1], (q_kB s c n)) _ _
    refine q_RP_seg (g2 := (12, [(0, .ref 13), (1, .int a1)], [.int a1, .ref 41], (q_kB s c n))) 4 (fun _ _ => rfl) ?_
    refine q_RP_bd fun r4 er4 => ?_
    refine q_RP_call (v := (some (.int r4))) (h2 := (q_kB s c n)) rfl rfl ((dzt_B352_41 z L xs s c n a1 r4 er4).le (Nat.le_of_ble_eq_true rfl)) ?_
    show q_RP _ _ _ (15, [(0, .ref 13), (1, .int a1)], [.int r4], (q_kB s c n)) _ _
    refine q_RP_as fun i3 => ?_
    exact q_RP_ret rfl (if_pos (of_decide_eq_true i3)) rfl
  | false =>
    refine q_RP_cF ?_
    show q_RP _ _ _ (4, [(0, .ref 13), (1, .int a1)], [.int 0], (q_kB s c n)) _ _
    exact q_RP_no
def dz_B347_12 (s : q_S) : Int32 :=
  0
set_option maxHeartbeats 4000000 in
theorem dzt_B347_12 (z L : Nat) (xs : Nat → Int32) (s : q_S) (c n : Nat) : q_Ca (q_TBs z L xs) 1 347 [.ref 12] (q_kB s c n) ((q_oP (q_kB s c n)) (dz_B347_12 s)) := by
  refine q_CaT_of (φ := (q_oP (q_kB s c n))) (Nat.le_of_ble_eq_true rfl) ?_
  unfold dz_B347_12
  refine q_RT_seg (g2 := (14, [(0, .ref 12)], [.int 0], (q_kB s c n))) 5 (fun _ _ => rfl) ?_
  exact q_RT_ret rfl rfl rfl
def dz_B344_12 (s : q_S) : Int32 :=
  q_let (dz_B347_12 s) fun r1 => ((63 : Int32) >>> (r1 &&& 31))
set_option maxHeartbeats 4000000 in
theorem dzt_B344_12 (z L : Nat) (xs : Nat → Int32) (s : q_S) (c n : Nat) : q_Ca (q_TBs z L xs) 2 344 [.ref 12] (q_kB s c n) ((q_oP (q_kB s c n)) (dz_B344_12 s)) := by
  refine q_CaT_of (φ := (q_oP (q_kB s c n))) (Nat.le_of_ble_eq_true rfl) ?_
  unfold dz_B344_12
  refine q_RT_seg (g2 := (6, [(0, .ref 12)], [.ref 12, .int 63], (q_kB s c n))) 4 (fun _ _ => rfl) ?_
  refine q_RT_call (v := (some (.int (dz_B347_12 s)))) (h2 := (q_kB s c n)) rfl rfl ((dzt_B347_12 z L xs s c n).le (Nat.le_of_ble_eq_true rfl)) ?_
  generalize dz_B347_12 s = r1
  refine q_RT_let ?_
  show q_RT _ _ _ (9, [(0, .ref 12)], [.int r1, .int 63], (q_kB s c n)) _ _
  refine q_RT_seg (g2 := (10, [(0, .ref 12)], [.int ((63 : Int32) >>> (r1 &&& 31))], (q_kB s c n))) 1 (fun _ _ => rfl) ?_
  exact q_RT_ret rfl rfl rfl
def dz_B348_12 (s : q_S) : Bool :=
  true
set_option maxHeartbeats 4000000 in
theorem dzt_B348_12 (z L : Nat) (xs : Nat → Int32) (s : q_S) (c n : Nat) : q_Ca (q_TBs z L xs) 1 348 [.ref 12] (q_kB s c n) ((q_oB (q_kB s c n)) (dz_B348_12 s)) := by
  refine q_CaT_of (φ := (q_oB (q_kB s c n))) (Nat.le_of_ble_eq_true rfl) ?_
  unfold dz_B348_12
  refine q_RT_seg (g2 := (18, [(0, .ref 12)], [.int 1], (q_kB s c n))) 7 (fun _ _ => rfl) ?_
  exact q_RT_ret rfl rfl rfl
def dz_B352_40 (s : q_S) (a1 : Int32) : Option (Int32) :=
  (dz_B349 s a1 63).bind fun r2 => cond (q_in a1 63) (cond (decide (vp_nar .char (((((fun j => q_o40.getD j 0) (a1.toNatClampNeg)) &&& 255).toUInt32 % 65536).toInt32) = ((((fun j => q_o40.getD j 0) (a1.toNatClampNeg)) &&& 255).toUInt32 % 65536).toInt32)) (some (((((fun j => q_o40.getD j 0) (a1.toNatClampNeg)) &&& 255).toUInt32 % 65536).toInt32)) none) none
set_option maxHeartbeats 4000000 in
theorem dzt_B352_40 (z L : Nat) (xs : Nat → Int32) (s : q_S) (c n : Nat) (a1 : Int32) (x : Int32) (h : dz_B352_40 s a1 = some x) : q_Ca (q_TBs z L xs) 3 352 [.ref 40, .int a1] (q_kB s c n) ((q_oP (q_kB s c n)) x) := by
  refine q_CaP_of (φ := (q_oP (q_kB s c n))) (Nat.le_of_ble_eq_true rfl) ?_ h
  clear h
  unfold dz_B352_40
  refine q_RP_seg (g2 := (3, [(0, .ref 40), (1, .int a1)], [.int 63, .int a1], (q_kB s c n))) 3 (fun _ _ => rfl) ?_
  refine q_RP_bd fun r2 er2 => ?_
  refine q_RP_call (v := none) (h2 := (q_kB s c n)) rfl rfl ((dzt_B349 z L xs s c n a1 63 r2 er2).le (Nat.le_of_ble_eq_true rfl)) ?_
  show q_RP _ _ _ (6, [(0, .ref 40), (1, .int a1)], [], (q_kB s c n)) _ _
  refine q_RP_seg (g2 := (8, [(0, .ref 40), (1, .int a1)], [.int a1, .ref 40], (q_kB s c n))) 2 (fun _ _ => rfl) ?_
  refine q_RP_as fun i1 => ?_
  refine q_RP_rsT (g2 := (9, [(0, .ref 40), (1, .int a1)], [.int ((fun j => q_o40.getD j 0) (a1.toNatClampNeg))], (q_kB s c n))) rfl rfl i1 ?_
  refine q_RP_seg (g2 := (14, [(0, .ref 40), (1, .int a1)], [.int (((((fun j => q_o40.getD j 0) (a1.toNatClampNeg)) &&& 255).toUInt32 % 65536).toInt32)], (q_kB s c n))) 3 (fun _ _ => rfl) ?_
  refine q_RP_as fun i2 => ?_
  exact q_RP_ret rfl (if_pos (of_decide_eq_true i2)) rfl
def dz_B345_12 (s : q_S) (a1 : Int32) : Option (Int32) :=
  q_let (dz_B348_12 s) fun r3 => cond r3 ((dz_B352_40 s a1).bind fun r4 => cond (decide (vp_nar .char r4 = r4)) (some r4) none) (none)
set_option maxHeartbeats 4000000 in
theorem dzt_B345_12 (z L : Nat) (xs : Nat → Int32) (s : q_S) (c n : Nat) (a1 : Int32) (x : Int32) (h : dz_B345_12 s a1 = some x) : q_Ca (q_TBs z L xs) 4 345 [.ref 12, .int a1] (q_kB s c n) ((q_oP (q_kB s c n)) x) := by
  refine q_CaP_of (φ := (q_oP (q_kB s c n))) (Nat.le_of_ble_eq_true rfl) ?_ h
  clear h
  unfold dz_B345_12
  refine q_RP_seg (g2 := (1, [(0, .ref 12), (1, .int a1)], [.ref 12], (q_kB s c n))) 1 (fun _ _ => rfl) ?_
  refine q_RP_call (v := (some (.int (q_b (dz_B348_12 s))))) (h2 := (q_kB s c n)) rfl rfl ((dzt_B348_12 z L xs s c n).le (Nat.le_of_ble_eq_true rfl)) ?_
  generalize dz_B348_12 s = r3
  refine q_RP_let ?_
  show q_RP _ _ _ (4, [(0, .ref 12), (1, .int a1)], [.int (q_b r3)], (q_kB s c n)) _ _
  cases h2 : r3 with
  | true =>
    refine q_RP_cT ?_
    show q_RP _ _ _ (4, [(0, .ref 12), (1, .int a1)], [.int 1], (q_kB s c n)) _ _
    refine q_RP_seg (g2 := (12, [(0, .ref 12), (1, .int a1)], [.int a1, .ref 40], (q_kB s c n))) 4 (fun _ _ => rfl) ?_
    refine q_RP_bd fun r4 er4 => ?_
    refine q_RP_call (v := (some (.int r4))) (h2 := (q_kB s c n)) rfl rfl ((dzt_B352_40 z L xs s c n a1 r4 er4).le (Nat.le_of_ble_eq_true rfl)) ?_
    show q_RP _ _ _ (15, [(0, .ref 12), (1, .int a1)], [.int r4], (q_kB s c n)) _ _
    refine q_RP_as fun i3 => ?_
    exact q_RP_ret rfl (if_pos (of_decide_eq_true i3)) rfl
  | false =>
    refine q_RP_cF ?_
    show q_RP _ _ _ (4, [(0, .ref 12), (1, .int a1)], [.int 0], (q_kB s c n)) _ _
    exact q_RP_no
def dz_B193_64_62_13 (m : Nat) : q_S → Int32 → Int32 → Option (q_S) := Nat.rec (motive := fun _ => q_S → Int32 → Int32 → Option (q_S)) (fun _ _ _ => none) (fun _ k62 s v4 v5 =>
  cond (decide (v4 + 2 < v5)) (some s) ((dz_B345_13 s v5).bind fun r5 => (dz_B325_64 s r5).bind fun r6 => k62 r6 v4 (v5 + 1))) m
theorem dzs_B193_64_62_13 (m : Nat) (s : q_S) (v4 : Int32) (v5 : Int32) : dz_B193_64_62_13 (m + 1) s v4 v5 = (fun k62 : q_S → Int32 → Int32 → Option (q_S) =>
  cond (decide (v4 + 2 < v5)) (some s) ((dz_B345_13 s v5).bind fun r5 => (dz_B325_64 s r5).bind fun r6 => k62 r6 v4 (v5 + 1))) (dz_B193_64_62_13 m) := rfl
set_option maxHeartbeats 4000000 in
theorem dzt_B193_64_62_13 (z L : Nat) (xs : Nat → Int32) (c n : Nat) : ∀ (m : Nat) (s : q_S) (v4 : Int32) (v5 : Int32), q_RP (q_TBs z L xs) 5 193 (62, [(0, .ref 64), (3, .ref 13), (4, .int v4), (5, .int v5)], [], (q_kB s c n)) (q_oSB c n) (dz_B193_64_62_13 m s v4 v5) := by
  intro m
  induction m with
  | zero => intro s v4 v5; exact q_RP_no
  | succ m ih =>
    intro s v4 v5
    have hk62 := ih
    clear ih
    rw [dzs_B193_64_62_13]
    generalize dz_B193_64_62_13 m = k62 at hk62 ⊢
    dsimp only
    refine q_RP_seg (g2 := (68, [(0, .ref 64), (3, .ref 13), (4, .int v4), (5, .int v5)], [.int (v4 + 2), .int v5], (q_kB s c n))) 4 (fun _ _ => rfl) ?_
    cases h4 : decide (v4 + 2 < v5) with
    | true =>
      refine q_RP_cT ?_
      refine q_RP_rsT (g2 := (88, [(0, .ref 64), (3, .ref 13), (4, .int v4), (5, .int v5)], [], (q_kB s c n))) rfl rfl h4 ?_
      exact q_RP_ret rfl rfl rfl
    | false =>
      refine q_RP_cF ?_
      refine q_RP_rsF (g2 := (71, [(0, .ref 64), (3, .ref 13), (4, .int v4), (5, .int v5)], [], (q_kB s c n))) rfl rfl h4 ?_
      refine q_RP_seg (g2 := (75, [(0, .ref 64), (3, .ref 13), (4, .int v4), (5, .int v5)], [.int v5, .ref 13, .ref 64], (q_kB s c n))) 3 (fun _ _ => rfl) ?_
      refine q_RP_bd fun r5 er5 => ?_
      refine q_RP_call (v := (some (.int r5))) (h2 := (q_kB s c n)) rfl rfl ((dzt_B345_13 z L xs s c n v5 r5 er5).le (Nat.le_of_ble_eq_true rfl)) ?_
      show q_RP _ _ _ (78, [(0, .ref 64), (3, .ref 13), (4, .int v4), (5, .int v5)], [.int r5, .ref 64], (q_kB s c n)) _ _
      refine q_RP_bd fun r6 er6 => ?_
      refine q_RP_call (v := (some (.ref 64))) (h2 := (q_kB r6 c n)) rfl rfl ((dzt_B325_64 z L xs s c n r5 r6 er6).le (Nat.le_of_ble_eq_true rfl)) ?_
      show q_RP _ _ _ (81, [(0, .ref 64), (3, .ref 13), (4, .int v4), (5, .int v5)], [.ref 64], (q_kB r6 c n)) _ _
      refine q_RP_seg (g2 := (62, [(5, .int (v5 + 1)), (0, .ref 64), (3, .ref 13), (4, .int v4)], [], (q_kB r6 c n))) 3 (fun _ _ => rfl) ?_
      exact q_RP_xt (q_xt_mk (q_mn1 1 rfl (q_mn1 2 rfl (q_mn1 3 rfl (q_mn1 0 rfl q_mn0)))) rfl) (hk62 r6 v4 (v5 + 1))
def dz_B193_64_62_12 (m : Nat) : q_S → Int32 → Int32 → Option (q_S) := Nat.rec (motive := fun _ => q_S → Int32 → Int32 → Option (q_S)) (fun _ _ _ => none) (fun _ k62 s v4 v5 =>
  cond (decide (v4 + 2 < v5)) (some s) ((dz_B345_12 s v5).bind fun r10 => (dz_B325_64 s r10).bind fun r11 => k62 r11 v4 (v5 + 1))) m
theorem dzs_B193_64_62_12 (m : Nat) (s : q_S) (v4 : Int32) (v5 : Int32) : dz_B193_64_62_12 (m + 1) s v4 v5 = (fun k62 : q_S → Int32 → Int32 → Option (q_S) =>
  cond (decide (v4 + 2 < v5)) (some s) ((dz_B345_12 s v5).bind fun r10 => (dz_B325_64 s r10).bind fun r11 => k62 r11 v4 (v5 + 1))) (dz_B193_64_62_12 m) := rfl
set_option maxHeartbeats 4000000 in
theorem dzt_B193_64_62_12 (z L : Nat) (xs : Nat → Int32) (c n : Nat) : ∀ (m : Nat) (s : q_S) (v4 : Int32) (v5 : Int32), q_RP (q_TBs z L xs) 5 193 (62, [(0, .ref 64), (3, .ref 12), (4, .int v4), (5, .int v5)], [], (q_kB s c n)) (q_oSB c n) (dz_B193_64_62_12 m s v4 v5) := by
  intro m
  induction m with
  | zero => intro s v4 v5; exact q_RP_no
  | succ m ih =>
    intro s v4 v5
    have hk62 := ih
    clear ih
    rw [dzs_B193_64_62_12]
    generalize dz_B193_64_62_12 m = k62 at hk62 ⊢
    dsimp only
    refine q_RP_seg (g2 := (68, [(0, .ref 64), (3, .ref 12), (4, .int v4), (5, .int v5)], [.int (v4 + 2), .int v5], (q_kB s c n))) 4 (fun _ _ => rfl) ?_
    cases h7 : decide (v4 + 2 < v5) with
    | true =>
      refine q_RP_cT ?_
      refine q_RP_rsT (g2 := (88, [(0, .ref 64), (3, .ref 12), (4, .int v4), (5, .int v5)], [], (q_kB s c n))) rfl rfl h7 ?_
      exact q_RP_ret rfl rfl rfl
    | false =>
      refine q_RP_cF ?_
      refine q_RP_rsF (g2 := (71, [(0, .ref 64), (3, .ref 12), (4, .int v4), (5, .int v5)], [], (q_kB s c n))) rfl rfl h7 ?_
      refine q_RP_seg (g2 := (75, [(0, .ref 64), (3, .ref 12), (4, .int v4), (5, .int v5)], [.int v5, .ref 12, .ref 64], (q_kB s c n))) 3 (fun _ _ => rfl) ?_
      refine q_RP_bd fun r10 er10 => ?_
      refine q_RP_call (v := (some (.int r10))) (h2 := (q_kB s c n)) rfl rfl ((dzt_B345_12 z L xs s c n v5 r10 er10).le (Nat.le_of_ble_eq_true rfl)) ?_
      show q_RP _ _ _ (78, [(0, .ref 64), (3, .ref 12), (4, .int v4), (5, .int v5)], [.int r10, .ref 64], (q_kB s c n)) _ _
      refine q_RP_bd fun r11 er11 => ?_
      refine q_RP_call (v := (some (.ref 64))) (h2 := (q_kB r11 c n)) rfl rfl ((dzt_B325_64 z L xs s c n r10 r11 er11).le (Nat.le_of_ble_eq_true rfl)) ?_
      show q_RP _ _ _ (81, [(0, .ref 64), (3, .ref 12), (4, .int v4), (5, .int v5)], [.ref 64], (q_kB r11 c n)) _ _
      refine q_RP_seg (g2 := (62, [(5, .int (v5 + 1)), (0, .ref 64), (3, .ref 12), (4, .int v4)], [], (q_kB r11 c n))) 3 (fun _ _ => rfl) ?_
      exact q_RP_xt (q_xt_mk (q_mn1 1 rfl (q_mn1 2 rfl (q_mn1 3 rfl (q_mn1 0 rfl q_mn0)))) rfl) (hk62 r11 v4 (v5 + 1))
def dz_B193_64 (s : q_S) (a1 : Int32) : Option (q_S) :=
  q_let (dz_B185 s a1) fun r1 => cond (decide (r1 < 0)) (q_let (3 * (a1 - 128)) fun x2 => cond (decide (x2 < 0)) ((dz_B324_64_14 s).bind fun r3 => some r3) (q_let (dz_B344_13 s) fun r4 => cond (decide (x2 + 2 < r4)) (dz_B193_64_62_13 5000 s x2 x2) ((dz_B324_64_14 s).bind fun r7 => some r7))) (cond (decide (3 * r1 < 0)) ((dz_B324_64_14 s).bind fun r8 => some r8) (q_let (dz_B344_12 s) fun r9 => cond (decide ((3 * r1) + 2 < r9)) (dz_B193_64_62_12 5000 s (3 * r1) (3 * r1)) ((dz_B324_64_14 s).bind fun r12 => some r12)))
set_option maxHeartbeats 4000000 in
theorem dzt_B193_64 (z L : Nat) (xs : Nat → Int32) (s : q_S) (c n : Nat) (a1 : Int32) (x : q_S) (h : dz_B193_64 s a1 = some x) : q_Ca (q_TBs z L xs) 6 193 [.ref 64, .int a1] (q_kB s c n) ((q_oSB c n) x) := by
  refine q_CaP_of (φ := (q_oSB c n)) (Nat.le_of_ble_eq_true rfl) ?_ h
  clear h
  unfold dz_B193_64
  refine q_RP_seg (g2 := (1, [(0, .ref 64), (1, .int a1)], [.int a1], (q_kB s c n))) 1 (fun _ _ => rfl) ?_
  refine q_RP_call (v := (some (.int (dz_B185 s a1)))) (h2 := (q_kB s c n)) rfl rfl ((dzt_B185 z L xs s c n a1).le (Nat.le_of_ble_eq_true rfl)) ?_
  generalize dz_B185 s a1 = r1
  refine q_RP_let ?_
  show q_RP _ _ _ (4, [(0, .ref 64), (1, .int a1)], [.int r1], (q_kB s c n)) _ _
  refine q_RP_seg (g2 := (6, [(2, .int r1), (0, .ref 64), (1, .int a1)], [.int r1], (q_kB s c n))) 2 (fun _ _ => rfl) ?_
  cases h1 : decide (r1 < 0) with
  | true =>
    refine q_RP_cT ?_
    refine q_RP_rsT (g2 := (14, [(2, .int r1), (0, .ref 64), (1, .int a1)], [], (q_kB s c n))) rfl rfl h1 ?_
    refine q_RP_seg (g2 := (19, [(3, .ref 13), (2, .int r1), (0, .ref 64), (1, .int a1)], [.int r1, .int 3], (q_kB s c n))) 4 (fun _ _ => rfl) ?_
    refine q_RP_rsT (g2 := (26, [(3, .ref 13), (2, .int r1), (0, .ref 64), (1, .int a1)], [.int 3], (q_kB s c n))) rfl rfl h1 ?_
    refine q_RP_seg (g2 := (32, [(3, .ref 13), (2, .int r1), (0, .ref 64), (1, .int a1)], [.int (3 * (a1 - 128))], (q_kB s c n))) 4 (fun _ _ => rfl) ?_
    generalize (3 * (a1 - 128)) = x2
    refine q_RP_let ?_
    show q_RP _ _ _ (32, [(3, .ref 13), (2, .int r1), (0, .ref 64), (1, .int a1)], [.int x2], (q_kB s c n)) _ _
    refine q_RP_seg (g2 := (36, [(4, .int x2), (3, .ref 13), (2, .int r1), (0, .ref 64), (1, .int a1)], [.int x2], (q_kB s c n))) 2 (fun _ _ => rfl) ?_
    cases h2 : decide (x2 < 0) with
    | true =>
      refine q_RP_cT ?_
      refine q_RP_rsT (g2 := (50, [(4, .int x2), (3, .ref 13), (2, .int r1), (0, .ref 64), (1, .int a1)], [], (q_kB s c n))) rfl rfl h2 ?_
      refine q_RP_seg (g2 := (53, [(4, .int x2), (3, .ref 13), (2, .int r1), (0, .ref 64), (1, .int a1)], [.ref 14, .ref 64], (q_kB s c n))) 2 (fun _ _ => rfl) ?_
      refine q_RP_bd fun r3 er3 => ?_
      refine q_RP_call (v := (some (.ref 64))) (h2 := (q_kB r3 c n)) rfl rfl ((dzt_B324_64_14 z L xs s c n r3 er3).le (Nat.le_of_ble_eq_true rfl)) ?_
      show q_RP _ _ _ (56, [(4, .int x2), (3, .ref 13), (2, .int r1), (0, .ref 64), (1, .int a1)], [.ref 64], (q_kB r3 c n)) _ _
      refine q_RP_seg (g2 := (57, [(4, .int x2), (3, .ref 13), (2, .int r1), (0, .ref 64), (1, .int a1)], [], (q_kB r3 c n))) 1 (fun _ _ => rfl) ?_
      exact q_RP_ret rfl rfl rfl
    | false =>
      refine q_RP_cF ?_
      refine q_RP_rsF (g2 := (39, [(4, .int x2), (3, .ref 13), (2, .int r1), (0, .ref 64), (1, .int a1)], [], (q_kB s c n))) rfl rfl h2 ?_
      refine q_RP_seg (g2 := (44, [(4, .int x2), (3, .ref 13), (2, .int r1), (0, .ref 64), (1, .int a1)], [.ref 13, .int (x2 + 2)], (q_kB s c n))) 4 (fun _ _ => rfl) ?_
      refine q_RP_call (v := (some (.int (dz_B344_13 s)))) (h2 := (q_kB s c n)) rfl rfl ((dzt_B344_13 z L xs s c n).le (Nat.le_of_ble_eq_true rfl)) ?_
      generalize dz_B344_13 s = r4
      refine q_RP_let ?_
      show q_RP _ _ _ (47, [(4, .int x2), (3, .ref 13), (2, .int r1), (0, .ref 64), (1, .int a1)], [.int r4, .int (x2 + 2)], (q_kB s c n)) _ _
      cases h3 : decide (x2 + 2 < r4) with
      | true =>
        refine q_RP_cT ?_
        refine q_RP_rsT (g2 := (58, [(4, .int x2), (3, .ref 13), (2, .int r1), (0, .ref 64), (1, .int a1)], [], (q_kB s c n))) rfl rfl h3 ?_
        refine q_RP_seg (g2 := (62, [(5, .int x2), (4, .int x2), (3, .ref 13), (2, .int r1), (0, .ref 64), (1, .int a1)], [], (q_kB s c n))) 2 (fun _ _ => rfl) ?_
        exact q_RP_xt (q_xt_mk (q_mn1 4 rfl (q_mn1 2 rfl (q_mn1 1 rfl (q_mn1 0 rfl q_mn0)))) rfl) (dzt_B193_64_62_13 z L xs c n 5000 s x2 x2)
      | false =>
        refine q_RP_cF ?_
        refine q_RP_rsF (g2 := (50, [(4, .int x2), (3, .ref 13), (2, .int r1), (0, .ref 64), (1, .int a1)], [], (q_kB s c n))) rfl rfl h3 ?_
        refine q_RP_seg (g2 := (53, [(4, .int x2), (3, .ref 13), (2, .int r1), (0, .ref 64), (1, .int a1)], [.ref 14, .ref 64], (q_kB s c n))) 2 (fun _ _ => rfl) ?_
        refine q_RP_bd fun r7 er7 => ?_
        refine q_RP_call (v := (some (.ref 64))) (h2 := (q_kB r7 c n)) rfl rfl ((dzt_B324_64_14 z L xs s c n r7 er7).le (Nat.le_of_ble_eq_true rfl)) ?_
        show q_RP _ _ _ (56, [(4, .int x2), (3, .ref 13), (2, .int r1), (0, .ref 64), (1, .int a1)], [.ref 64], (q_kB r7 c n)) _ _
        refine q_RP_seg (g2 := (57, [(4, .int x2), (3, .ref 13), (2, .int r1), (0, .ref 64), (1, .int a1)], [], (q_kB r7 c n))) 1 (fun _ _ => rfl) ?_
        exact q_RP_ret rfl rfl rfl
  | false =>
    refine q_RP_cF ?_
    refine q_RP_rsF (g2 := (9, [(2, .int r1), (0, .ref 64), (1, .int a1)], [], (q_kB s c n))) rfl rfl h1 ?_
    refine q_RP_seg (g2 := (19, [(3, .ref 12), (2, .int r1), (0, .ref 64), (1, .int a1)], [.int r1, .int 3], (q_kB s c n))) 5 (fun _ _ => rfl) ?_
    refine q_RP_rsF (g2 := (22, [(3, .ref 12), (2, .int r1), (0, .ref 64), (1, .int a1)], [.int 3], (q_kB s c n))) rfl rfl h1 ?_
    refine q_RP_seg (g2 := (36, [(4, .int (3 * r1)), (3, .ref 12), (2, .int r1), (0, .ref 64), (1, .int a1)], [.int (3 * r1)], (q_kB s c n))) 5 (fun _ _ => rfl) ?_
    cases h5 : decide (3 * r1 < 0) with
    | true =>
      refine q_RP_cT ?_
      refine q_RP_rsT (g2 := (50, [(4, .int (3 * r1)), (3, .ref 12), (2, .int r1), (0, .ref 64), (1, .int a1)], [], (q_kB s c n))) rfl rfl h5 ?_
      refine q_RP_seg (g2 := (53, [(4, .int (3 * r1)), (3, .ref 12), (2, .int r1), (0, .ref 64), (1, .int a1)], [.ref 14, .ref 64], (q_kB s c n))) 2 (fun _ _ => rfl) ?_
      refine q_RP_bd fun r8 er8 => ?_
      refine q_RP_call (v := (some (.ref 64))) (h2 := (q_kB r8 c n)) rfl rfl ((dzt_B324_64_14 z L xs s c n r8 er8).le (Nat.le_of_ble_eq_true rfl)) ?_
      show q_RP _ _ _ (56, [(4, .int (3 * r1)), (3, .ref 12), (2, .int r1), (0, .ref 64), (1, .int a1)], [.ref 64], (q_kB r8 c n)) _ _
      refine q_RP_seg (g2 := (57, [(4, .int (3 * r1)), (3, .ref 12), (2, .int r1), (0, .ref 64), (1, .int a1)], [], (q_kB r8 c n))) 1 (fun _ _ => rfl) ?_
      exact q_RP_ret rfl rfl rfl
    | false =>
      refine q_RP_cF ?_
      refine q_RP_rsF (g2 := (39, [(4, .int (3 * r1)), (3, .ref 12), (2, .int r1), (0, .ref 64), (1, .int a1)], [], (q_kB s c n))) rfl rfl h5 ?_
      refine q_RP_seg (g2 := (44, [(4, .int (3 * r1)), (3, .ref 12), (2, .int r1), (0, .ref 64), (1, .int a1)], [.ref 12, .int ((3 * r1) + 2)], (q_kB s c n))) 4 (fun _ _ => rfl) ?_
      refine q_RP_call (v := (some (.int (dz_B344_12 s)))) (h2 := (q_kB s c n)) rfl rfl ((dzt_B344_12 z L xs s c n).le (Nat.le_of_ble_eq_true rfl)) ?_
      generalize dz_B344_12 s = r9
      refine q_RP_let ?_
      show q_RP _ _ _ (47, [(4, .int (3 * r1)), (3, .ref 12), (2, .int r1), (0, .ref 64), (1, .int a1)], [.int r9, .int ((3 * r1) + 2)], (q_kB s c n)) _ _
      cases h6 : decide ((3 * r1) + 2 < r9) with
      | true =>
        refine q_RP_cT ?_
        refine q_RP_rsT (g2 := (58, [(4, .int (3 * r1)), (3, .ref 12), (2, .int r1), (0, .ref 64), (1, .int a1)], [], (q_kB s c n))) rfl rfl h6 ?_
        refine q_RP_seg (g2 := (62, [(5, .int (3 * r1)), (4, .int (3 * r1)), (3, .ref 12), (2, .int r1), (0, .ref 64), (1, .int a1)], [], (q_kB s c n))) 2 (fun _ _ => rfl) ?_
        exact q_RP_xt (q_xt_mk (q_mn1 4 rfl (q_mn1 2 rfl (q_mn1 1 rfl (q_mn1 0 rfl q_mn0)))) rfl) (dzt_B193_64_62_12 z L xs c n 5000 s (3 * r1) (3 * r1))
      | false =>
        refine q_RP_cF ?_
        refine q_RP_rsF (g2 := (50, [(4, .int (3 * r1)), (3, .ref 12), (2, .int r1), (0, .ref 64), (1, .int a1)], [], (q_kB s c n))) rfl rfl h6 ?_
        refine q_RP_seg (g2 := (53, [(4, .int (3 * r1)), (3, .ref 12), (2, .int r1), (0, .ref 64), (1, .int a1)], [.ref 14, .ref 64], (q_kB s c n))) 2 (fun _ _ => rfl) ?_
        refine q_RP_bd fun r12 er12 => ?_
        refine q_RP_call (v := (some (.ref 64))) (h2 := (q_kB r12 c n)) rfl rfl ((dzt_B324_64_14 z L xs s c n r12 er12).le (Nat.le_of_ble_eq_true rfl)) ?_
        show q_RP _ _ _ (56, [(4, .int (3 * r1)), (3, .ref 12), (2, .int r1), (0, .ref 64), (1, .int a1)], [.ref 64], (q_kB r12 c n)) _ _
        refine q_RP_seg (g2 := (57, [(4, .int (3 * r1)), (3, .ref 12), (2, .int r1), (0, .ref 64), (1, .int a1)], [], (q_kB r12 c n))) 1 (fun _ _ => rfl) ?_
        exact q_RP_ret rfl rfl rfl
def dz_B347_15 (s : q_S) : Int32 :=
  0
set_option maxHeartbeats 4000000 in
theorem dzt_B347_15 (z L : Nat) (xs : Nat → Int32) (s : q_S) (c n : Nat) : q_Ca (q_TBs z L xs) 1 347 [.ref 15] (q_kB s c n) ((q_oP (q_kB s c n)) (dz_B347_15 s)) := by
  refine q_CaT_of (φ := (q_oP (q_kB s c n))) (Nat.le_of_ble_eq_true rfl) ?_
  unfold dz_B347_15
  refine q_RT_seg (g2 := (14, [(0, .ref 15)], [.int 0], (q_kB s c n))) 5 (fun _ _ => rfl) ?_
  exact q_RT_ret rfl rfl rfl
def dz_B344_15 (s : q_S) : Int32 :=
  q_let (dz_B347_15 s) fun r1 => ((2 : Int32) >>> (r1 &&& 31))
set_option maxHeartbeats 4000000 in
theorem dzt_B344_15 (z L : Nat) (xs : Nat → Int32) (s : q_S) (c n : Nat) : q_Ca (q_TBs z L xs) 2 344 [.ref 15] (q_kB s c n) ((q_oP (q_kB s c n)) (dz_B344_15 s)) := by
  refine q_CaT_of (φ := (q_oP (q_kB s c n))) (Nat.le_of_ble_eq_true rfl) ?_
  unfold dz_B344_15
  refine q_RT_seg (g2 := (6, [(0, .ref 15)], [.ref 15, .int 2], (q_kB s c n))) 4 (fun _ _ => rfl) ?_
  refine q_RT_call (v := (some (.int (dz_B347_15 s)))) (h2 := (q_kB s c n)) rfl rfl ((dzt_B347_15 z L xs s c n).le (Nat.le_of_ble_eq_true rfl)) ?_
  generalize dz_B347_15 s = r1
  refine q_RT_let ?_
  show q_RT _ _ _ (9, [(0, .ref 15)], [.int r1, .int 2], (q_kB s c n)) _ _
  refine q_RT_seg (g2 := (10, [(0, .ref 15)], [.int ((2 : Int32) >>> (r1 &&& 31))], (q_kB s c n))) 1 (fun _ _ => rfl) ?_
  exact q_RT_ret rfl rfl rfl
def dz_B342_64_15 (s : q_S) : Option (q_S) :=
  q_let (dz_B347_15 s) fun r2 => cond (decide (0 = r2)) (some s) (none)
set_option maxHeartbeats 4000000 in
theorem dzt_B342_64_15 (z L : Nat) (xs : Nat → Int32) (s : q_S) (c n : Nat) (x : q_S) (h : dz_B342_64_15 s = some x) : q_Ca (q_TBs z L xs) 2 342 [.ref 64, .ref 15] (q_kB s c n) ((q_oSB c n) x) := by
  refine q_CaP_of (φ := (q_oSB c n)) (Nat.le_of_ble_eq_true rfl) ?_ h
  clear h
  unfold dz_B342_64_15
  refine q_RP_seg (g2 := (10, [(0, .ref 64), (1, .ref 15)], [.int 0], (q_kB s c n))) 4 (fun _ _ => rfl) ?_
  refine q_RP_seg (g2 := (11, [(0, .ref 64), (1, .ref 15)], [.ref 15, .int 0], (q_kB s c n))) 1 (fun _ _ => rfl) ?_
  refine q_RP_call (v := (some (.int (dz_B347_15 s)))) (h2 := (q_kB s c n)) rfl rfl ((dzt_B347_15 z L xs s c n).le (Nat.le_of_ble_eq_true rfl)) ?_
  generalize dz_B347_15 s = r2
  refine q_RP_let ?_
  show q_RP _ _ _ (14, [(0, .ref 64), (1, .ref 15)], [.int r2, .int 0], (q_kB s c n)) _ _
  cases h2 : decide (0 = r2) with
  | true =>
    refine q_RP_cT ?_
    refine q_RP_rsT (g2 := (21, [(0, .ref 64), (1, .ref 15)], [], (q_kB s c n))) rfl rfl h2 ?_
    exact q_RP_ret rfl rfl rfl
  | false =>
    refine q_RP_cF ?_
    refine q_RP_rsF (g2 := (17, [(0, .ref 64), (1, .ref 15)], [], (q_kB s c n))) rfl rfl h2 ?_
    exact q_RP_no
def dz_B346_15_65 (s : q_S) (a2 : Int32) (a3 : Int32) : Option (q_S) :=
  q_let (dz_B347_15 s) fun r2 => cond (decide (r2 = a3)) (cond (q_cpk (a2 <<< (a3 &&& 31)) 2 16) (some (q_sA s 1 (va_cpy (fun j => q_o43.getD j 0) (s.1 1) 0 ((a2 <<< (a3 &&& 31)).toNatClampNeg) 2))) none) (none)
set_option maxHeartbeats 4000000 in
theorem dzt_B346_15_65 (z L : Nat) (xs : Nat → Int32) (s : q_S) (c n : Nat) (a2 : Int32) (a3 : Int32) (x : q_S) (h : dz_B346_15_65 s a2 a3 = some x) : q_Ca (q_TBs z L xs) 2 346 [.ref 15, .ref 65, .int a2, .int a3] (q_kB s c n) ((q_oSB c n) x) := by
  refine q_CaP_of (φ := (q_oSB c n)) (Nat.le_of_ble_eq_true rfl) ?_ h
  clear h
  unfold dz_B346_15_65
  refine q_RP_seg (g2 := (1, [(0, .ref 15), (1, .ref 65), (2, .int a2), (3, .int a3)], [.ref 15], (q_kB s c n))) 1 (fun _ _ => rfl) ?_
  refine q_RP_call (v := (some (.int (dz_B347_15 s)))) (h2 := (q_kB s c n)) rfl rfl ((dzt_B347_15 z L xs s c n).le (Nat.le_of_ble_eq_true rfl)) ?_
  generalize dz_B347_15 s = r2
  refine q_RP_let ?_
  show q_RP _ _ _ (4, [(0, .ref 15), (1, .ref 65), (2, .int a2), (3, .int a3)], [.int r2], (q_kB s c n)) _ _
  refine q_RP_seg (g2 := (5, [(0, .ref 15), (1, .ref 65), (2, .int a2), (3, .int a3)], [.int a3, .int r2], (q_kB s c n))) 1 (fun _ _ => rfl) ?_
  cases h3 : decide (r2 = a3) with
  | true =>
    refine q_RP_cT ?_
    refine q_RP_rsF (g2 := (8, [(0, .ref 15), (1, .ref 65), (2, .int a2), (3, .int a3)], [], (q_kB s c n))) rfl rfl (q_d_neT h3) ?_
    refine q_RP_seg (g2 := (22, [(0, .ref 15), (1, .ref 65), (2, .int a2), (3, .int a3)], [.int 2, .int (a2 <<< (a3 &&& 31)), .ref 65, .int 0, .ref 43], (q_kB s c n))) 10 (fun _ _ => rfl) ?_
    refine q_RP_as fun i4 => ?_
    refine q_RP_rsT (g2 := (25, [(0, .ref 15), (1, .ref 65), (2, .int a2), (3, .int a3)], [], (q_kB (q_sA s 1 (va_cpy (fun j => q_o43.getD j 0) (s.1 1) 0 ((a2 <<< (a3 &&& 31)).toNatClampNeg) 2)) c n))) rfl rfl (q_acbB i4 rfl) ?_
    refine q_RP_seg (g2 := (43, [(0, .ref 15), (1, .ref 65), (2, .int a2), (3, .int a3)], [], (q_kB (q_sA s 1 (va_cpy (fun j => q_o43.getD j 0) (s.1 1) 0 ((a2 <<< (a3 &&& 31)).toNatClampNeg) 2)) c n))) 1 (fun _ _ => rfl) ?_
    exact q_RP_ret rfl rfl rfl
  | false =>
    refine q_RP_cF ?_
    refine q_RP_rsT (g2 := (28, [(0, .ref 15), (1, .ref 65), (2, .int a2), (3, .int a3)], [], (q_kB s c n))) rfl rfl (q_d_neF h3) ?_
    exact q_RP_no
def dz_B343_64_15 (s : q_S) (a1 : Int32) : Option (q_S) :=
  (dz_B342_64_15 s).bind fun r2 => (dz_B346_15_65 r2 a1 0).bind fun r3 => some r3
set_option maxHeartbeats 4000000 in
theorem dzt_B343_64_15 (z L : Nat) (xs : Nat → Int32) (s : q_S) (c n : Nat) (a1 : Int32) (x : q_S) (h : dz_B343_64_15 s a1 = some x) : q_Ca (q_TBs z L xs) 3 343 [.ref 64, .int a1, .ref 15] (q_kB s c n) ((q_oSB c n) x) := by
  refine q_CaP_of (φ := (q_oSB c n)) (Nat.le_of_ble_eq_true rfl) ?_ h
  clear h
  unfold dz_B343_64_15
  refine q_RP_seg (g2 := (2, [(0, .ref 64), (1, .int a1), (2, .ref 15)], [.ref 15, .ref 64], (q_kB s c n))) 2 (fun _ _ => rfl) ?_
  refine q_RP_bd fun r2 er2 => ?_
  refine q_RP_call (v := none) (h2 := (q_kB r2 c n)) rfl rfl ((dzt_B342_64_15 z L xs s c n r2 er2).le (Nat.le_of_ble_eq_true rfl)) ?_
  show q_RP _ _ _ (5, [(0, .ref 64), (1, .int a1), (2, .ref 15)], [], (q_kB r2 c n)) _ _
  refine q_RP_seg (g2 := (15, [(0, .ref 64), (1, .int a1), (2, .ref 15)], [.int 0, .int a1, .ref 65, .ref 15], (q_kB r2 c n))) 6 (fun _ _ => rfl) ?_
  refine q_RP_bd fun r3 er3 => ?_
  refine q_RP_call (v := none) (h2 := (q_kB r3 c n)) rfl rfl ((dzt_B346_15_65 z L xs r2 c n a1 0 r3 er3).le (Nat.le_of_ble_eq_true rfl)) ?_
  show q_RP _ _ _ (18, [(0, .ref 64), (1, .int a1), (2, .ref 15)], [], (q_kB r3 c n)) _ _
  exact q_RP_ret rfl rfl rfl
def dz_B337_64_15 (s : q_S) : Option (q_S) :=
  q_let (dz_B344_15 s) fun r3 => (dz_B332_64 s ((s.2.1 0 3) + r3)).bind fun r4 => (dz_B343_64_15 r4 (r4.2.1 0 3)).bind fun r5 => some (q_sI r5 0 3 ((r5.2.1 0 3) + r3))
set_option maxHeartbeats 4000000 in
theorem dzt_B337_64_15 (z L : Nat) (xs : Nat → Int32) (s : q_S) (c n : Nat) (x : q_S) (h : dz_B337_64_15 s = some x) : q_Ca (q_TBs z L xs) 4 337 [.ref 64, .ref 15] (q_kB s c n) ((q_oRB c n) x) := by
  refine q_CaP_of (φ := (q_oRB c n)) (Nat.le_of_ble_eq_true rfl) ?_ h
  clear h
  unfold dz_B337_64_15
  refine q_RP_seg (g2 := (10, [(0, .ref 64), (1, .ref 15)], [.ref 15], (q_kB s c n))) 3 (fun _ _ => rfl) ?_
  refine q_RP_call (v := (some (.int (dz_B344_15 s)))) (h2 := (q_kB s c n)) rfl rfl ((dzt_B344_15 z L xs s c n).le (Nat.le_of_ble_eq_true rfl)) ?_
  generalize dz_B344_15 s = r3
  refine q_RP_let ?_
  show q_RP _ _ _ (13, [(0, .ref 64), (1, .ref 15)], [.int r3], (q_kB s c n)) _ _
  refine q_RP_seg (g2 := (19, [(2, .int r3), (0, .ref 64), (1, .ref 15)], [.int (s.2.1 0 3), .ref 64], (q_kB s c n))) 4 (fun _ _ => rfl) ?_
  refine q_RP_seg (g2 := (21, [(2, .int r3), (0, .ref 64), (1, .ref 15)], [.int ((s.2.1 0 3) + r3), .ref 64], (q_kB s c n))) 2 (fun _ _ => rfl) ?_
  refine q_RP_bd fun r4 er4 => ?_
  refine q_RP_call (v := none) (h2 := (q_kB r4 c n)) rfl rfl ((dzt_B332_64 z L xs s c n ((s.2.1 0 3) + r3) r4 er4).le (Nat.le_of_ble_eq_true rfl)) ?_
  show q_RP _ _ _ (24, [(2, .int r3), (0, .ref 64), (1, .ref 15)], [], (q_kB r4 c n)) _ _
  refine q_RP_seg (g2 := (29, [(2, .int r3), (0, .ref 64), (1, .ref 15)], [.int (r4.2.1 0 3), .ref 64], (q_kB r4 c n))) 3 (fun _ _ => rfl) ?_
  refine q_RP_seg (g2 := (30, [(2, .int r3), (0, .ref 64), (1, .ref 15)], [.ref 15, .int (r4.2.1 0 3), .ref 64], (q_kB r4 c n))) 1 (fun _ _ => rfl) ?_
  refine q_RP_bd fun r5 er5 => ?_
  refine q_RP_call (v := none) (h2 := (q_kB r5 c n)) rfl rfl ((dzt_B343_64_15 z L xs r4 c n (r4.2.1 0 3) r5 er5).le (Nat.le_of_ble_eq_true rfl)) ?_
  show q_RP _ _ _ (33, [(2, .int r3), (0, .ref 64), (1, .ref 15)], [], (q_kB r5 c n)) _ _
  refine q_RP_seg (g2 := (38, [(2, .int r3), (0, .ref 64), (1, .ref 15)], [.int (r5.2.1 0 3), .ref 64], (q_kB r5 c n))) 3 (fun _ _ => rfl) ?_
  refine q_RP_seg (g2 := (44, [(2, .int r3), (0, .ref 64), (1, .ref 15)], [.ref 64], (q_kB (q_sI r5 0 3 ((r5.2.1 0 3) + r3)) c n))) 4 (fun _ _ => rfl) ?_
  exact q_RP_ret rfl rfl rfl
def dz_B324_64_15 (s : q_S) : Option (q_S) :=
  (dz_B337_64_15 s).bind fun r2 => some r2
set_option maxHeartbeats 4000000 in
theorem dzt_B324_64_15 (z L : Nat) (xs : Nat → Int32) (s : q_S) (c n : Nat) (x : q_S) (h : dz_B324_64_15 s = some x) : q_Ca (q_TBs z L xs) 5 324 [.ref 64, .ref 15] (q_kB s c n) ((q_oRB c n) x) := by
  refine q_CaP_of (φ := (q_oRB c n)) (Nat.le_of_ble_eq_true rfl) ?_ h
  clear h
  unfold dz_B324_64_15
  refine q_RP_seg (g2 := (2, [(0, .ref 64), (1, .ref 15)], [.ref 15, .ref 64], (q_kB s c n))) 2 (fun _ _ => rfl) ?_
  refine q_RP_bd fun r2 er2 => ?_
  refine q_RP_call (v := (some (.ref 64))) (h2 := (q_kB r2 c n)) rfl rfl ((dzt_B337_64_15 z L xs s c n r2 er2).le (Nat.le_of_ble_eq_true rfl)) ?_
  show q_RP _ _ _ (5, [(0, .ref 64), (1, .ref 15)], [.ref 64], (q_kB r2 c n)) _ _
  refine q_RP_seg (g2 := (7, [(0, .ref 64), (1, .ref 15)], [.ref 64], (q_kB r2 c n))) 2 (fun _ _ => rfl) ?_
  exact q_RP_ret rfl rfl rfl
def dz_B347_16 (s : q_S) : Int32 :=
  0
set_option maxHeartbeats 4000000 in
theorem dzt_B347_16 (z L : Nat) (xs : Nat → Int32) (s : q_S) (c n : Nat) : q_Ca (q_TBs z L xs) 1 347 [.ref 16] (q_kB s c n) ((q_oP (q_kB s c n)) (dz_B347_16 s)) := by
  refine q_CaT_of (φ := (q_oP (q_kB s c n))) (Nat.le_of_ble_eq_true rfl) ?_
  unfold dz_B347_16
  refine q_RT_seg (g2 := (14, [(0, .ref 16)], [.int 0], (q_kB s c n))) 5 (fun _ _ => rfl) ?_
  exact q_RT_ret rfl rfl rfl
def dz_B344_16 (s : q_S) : Int32 :=
  q_let (dz_B347_16 s) fun r1 => ((2 : Int32) >>> (r1 &&& 31))
set_option maxHeartbeats 4000000 in
theorem dzt_B344_16 (z L : Nat) (xs : Nat → Int32) (s : q_S) (c n : Nat) : q_Ca (q_TBs z L xs) 2 344 [.ref 16] (q_kB s c n) ((q_oP (q_kB s c n)) (dz_B344_16 s)) := by
  refine q_CaT_of (φ := (q_oP (q_kB s c n))) (Nat.le_of_ble_eq_true rfl) ?_
  unfold dz_B344_16
  refine q_RT_seg (g2 := (6, [(0, .ref 16)], [.ref 16, .int 2], (q_kB s c n))) 4 (fun _ _ => rfl) ?_
  refine q_RT_call (v := (some (.int (dz_B347_16 s)))) (h2 := (q_kB s c n)) rfl rfl ((dzt_B347_16 z L xs s c n).le (Nat.le_of_ble_eq_true rfl)) ?_
  generalize dz_B347_16 s = r1
  refine q_RT_let ?_
  show q_RT _ _ _ (9, [(0, .ref 16)], [.int r1, .int 2], (q_kB s c n)) _ _
  refine q_RT_seg (g2 := (10, [(0, .ref 16)], [.int ((2 : Int32) >>> (r1 &&& 31))], (q_kB s c n))) 1 (fun _ _ => rfl) ?_
  exact q_RT_ret rfl rfl rfl
def dz_B342_64_16 (s : q_S) : Option (q_S) :=
  q_let (dz_B347_16 s) fun r2 => cond (decide (0 = r2)) (some s) (none)
set_option maxHeartbeats 4000000 in
theorem dzt_B342_64_16 (z L : Nat) (xs : Nat → Int32) (s : q_S) (c n : Nat) (x : q_S) (h : dz_B342_64_16 s = some x) : q_Ca (q_TBs z L xs) 2 342 [.ref 64, .ref 16] (q_kB s c n) ((q_oSB c n) x) := by
  refine q_CaP_of (φ := (q_oSB c n)) (Nat.le_of_ble_eq_true rfl) ?_ h
  clear h
  unfold dz_B342_64_16
  refine q_RP_seg (g2 := (10, [(0, .ref 64), (1, .ref 16)], [.int 0], (q_kB s c n))) 4 (fun _ _ => rfl) ?_
  refine q_RP_seg (g2 := (11, [(0, .ref 64), (1, .ref 16)], [.ref 16, .int 0], (q_kB s c n))) 1 (fun _ _ => rfl) ?_
  refine q_RP_call (v := (some (.int (dz_B347_16 s)))) (h2 := (q_kB s c n)) rfl rfl ((dzt_B347_16 z L xs s c n).le (Nat.le_of_ble_eq_true rfl)) ?_
  generalize dz_B347_16 s = r2
  refine q_RP_let ?_
  show q_RP _ _ _ (14, [(0, .ref 64), (1, .ref 16)], [.int r2, .int 0], (q_kB s c n)) _ _
  cases h2 : decide (0 = r2) with
  | true =>
    refine q_RP_cT ?_
    refine q_RP_rsT (g2 := (21, [(0, .ref 64), (1, .ref 16)], [], (q_kB s c n))) rfl rfl h2 ?_
    exact q_RP_ret rfl rfl rfl
  | false =>
    refine q_RP_cF ?_
    refine q_RP_rsF (g2 := (17, [(0, .ref 64), (1, .ref 16)], [], (q_kB s c n))) rfl rfl h2 ?_
    exact q_RP_no
def dz_B346_16_65 (s : q_S) (a2 : Int32) (a3 : Int32) : Option (q_S) :=
  q_let (dz_B347_16 s) fun r2 => cond (decide (r2 = a3)) (cond (q_cpk (a2 <<< (a3 &&& 31)) 2 16) (some (q_sA s 1 (va_cpy (fun j => q_o44.getD j 0) (s.1 1) 0 ((a2 <<< (a3 &&& 31)).toNatClampNeg) 2))) none) (none)
set_option maxHeartbeats 4000000 in
theorem dzt_B346_16_65 (z L : Nat) (xs : Nat → Int32) (s : q_S) (c n : Nat) (a2 : Int32) (a3 : Int32) (x : q_S) (h : dz_B346_16_65 s a2 a3 = some x) : q_Ca (q_TBs z L xs) 2 346 [.ref 16, .ref 65, .int a2, .int a3] (q_kB s c n) ((q_oSB c n) x) := by
  refine q_CaP_of (φ := (q_oSB c n)) (Nat.le_of_ble_eq_true rfl) ?_ h
  clear h
  unfold dz_B346_16_65
  refine q_RP_seg (g2 := (1, [(0, .ref 16), (1, .ref 65), (2, .int a2), (3, .int a3)], [.ref 16], (q_kB s c n))) 1 (fun _ _ => rfl) ?_
  refine q_RP_call (v := (some (.int (dz_B347_16 s)))) (h2 := (q_kB s c n)) rfl rfl ((dzt_B347_16 z L xs s c n).le (Nat.le_of_ble_eq_true rfl)) ?_
  generalize dz_B347_16 s = r2
  refine q_RP_let ?_
  show q_RP _ _ _ (4, [(0, .ref 16), (1, .ref 65), (2, .int a2), (3, .int a3)], [.int r2], (q_kB s c n)) _ _
  refine q_RP_seg (g2 := (5, [(0, .ref 16), (1, .ref 65), (2, .int a2), (3, .int a3)], [.int a3, .int r2], (q_kB s c n))) 1 (fun _ _ => rfl) ?_
  cases h3 : decide (r2 = a3) with
  | true =>
    refine q_RP_cT ?_
    refine q_RP_rsF (g2 := (8, [(0, .ref 16), (1, .ref 65), (2, .int a2), (3, .int a3)], [], (q_kB s c n))) rfl rfl (q_d_neT h3) ?_
    refine q_RP_seg (g2 := (22, [(0, .ref 16), (1, .ref 65), (2, .int a2), (3, .int a3)], [.int 2, .int (a2 <<< (a3 &&& 31)), .ref 65, .int 0, .ref 44], (q_kB s c n))) 10 (fun _ _ => rfl) ?_
    refine q_RP_as fun i4 => ?_
    refine q_RP_rsT (g2 := (25, [(0, .ref 16), (1, .ref 65), (2, .int a2), (3, .int a3)], [], (q_kB (q_sA s 1 (va_cpy (fun j => q_o44.getD j 0) (s.1 1) 0 ((a2 <<< (a3 &&& 31)).toNatClampNeg) 2)) c n))) rfl rfl (q_acbB i4 rfl) ?_
    refine q_RP_seg (g2 := (43, [(0, .ref 16), (1, .ref 65), (2, .int a2), (3, .int a3)], [], (q_kB (q_sA s 1 (va_cpy (fun j => q_o44.getD j 0) (s.1 1) 0 ((a2 <<< (a3 &&& 31)).toNatClampNeg) 2)) c n))) 1 (fun _ _ => rfl) ?_
    exact q_RP_ret rfl rfl rfl
  | false =>
    refine q_RP_cF ?_
    refine q_RP_rsT (g2 := (28, [(0, .ref 16), (1, .ref 65), (2, .int a2), (3, .int a3)], [], (q_kB s c n))) rfl rfl (q_d_neF h3) ?_
    exact q_RP_no
def dz_B343_64_16 (s : q_S) (a1 : Int32) : Option (q_S) :=
  (dz_B342_64_16 s).bind fun r2 => (dz_B346_16_65 r2 a1 0).bind fun r3 => some r3
set_option maxHeartbeats 4000000 in
theorem dzt_B343_64_16 (z L : Nat) (xs : Nat → Int32) (s : q_S) (c n : Nat) (a1 : Int32) (x : q_S) (h : dz_B343_64_16 s a1 = some x) : q_Ca (q_TBs z L xs) 3 343 [.ref 64, .int a1, .ref 16] (q_kB s c n) ((q_oSB c n) x) := by
  refine q_CaP_of (φ := (q_oSB c n)) (Nat.le_of_ble_eq_true rfl) ?_ h
  clear h
  unfold dz_B343_64_16
  refine q_RP_seg (g2 := (2, [(0, .ref 64), (1, .int a1), (2, .ref 16)], [.ref 16, .ref 64], (q_kB s c n))) 2 (fun _ _ => rfl) ?_
  refine q_RP_bd fun r2 er2 => ?_
  refine q_RP_call (v := none) (h2 := (q_kB r2 c n)) rfl rfl ((dzt_B342_64_16 z L xs s c n r2 er2).le (Nat.le_of_ble_eq_true rfl)) ?_
  show q_RP _ _ _ (5, [(0, .ref 64), (1, .int a1), (2, .ref 16)], [], (q_kB r2 c n)) _ _
  refine q_RP_seg (g2 := (15, [(0, .ref 64), (1, .int a1), (2, .ref 16)], [.int 0, .int a1, .ref 65, .ref 16], (q_kB r2 c n))) 6 (fun _ _ => rfl) ?_
  refine q_RP_bd fun r3 er3 => ?_
  refine q_RP_call (v := none) (h2 := (q_kB r3 c n)) rfl rfl ((dzt_B346_16_65 z L xs r2 c n a1 0 r3 er3).le (Nat.le_of_ble_eq_true rfl)) ?_
  show q_RP _ _ _ (18, [(0, .ref 64), (1, .int a1), (2, .ref 16)], [], (q_kB r3 c n)) _ _
  exact q_RP_ret rfl rfl rfl
def dz_B337_64_16 (s : q_S) : Option (q_S) :=
  q_let (dz_B344_16 s) fun r3 => (dz_B332_64 s ((s.2.1 0 3) + r3)).bind fun r4 => (dz_B343_64_16 r4 (r4.2.1 0 3)).bind fun r5 => some (q_sI r5 0 3 ((r5.2.1 0 3) + r3))
set_option maxHeartbeats 4000000 in
theorem dzt_B337_64_16 (z L : Nat) (xs : Nat → Int32) (s : q_S) (c n : Nat) (x : q_S) (h : dz_B337_64_16 s = some x) : q_Ca (q_TBs z L xs) 4 337 [.ref 64, .ref 16] (q_kB s c n) ((q_oRB c n) x) := by
  refine q_CaP_of (φ := (q_oRB c n)) (Nat.le_of_ble_eq_true rfl) ?_ h
  clear h
  unfold dz_B337_64_16
  refine q_RP_seg (g2 := (10, [(0, .ref 64), (1, .ref 16)], [.ref 16], (q_kB s c n))) 3 (fun _ _ => rfl) ?_
  refine q_RP_call (v := (some (.int (dz_B344_16 s)))) (h2 := (q_kB s c n)) rfl rfl ((dzt_B344_16 z L xs s c n).le (Nat.le_of_ble_eq_true rfl)) ?_
  generalize dz_B344_16 s = r3
  refine q_RP_let ?_
  show q_RP _ _ _ (13, [(0, .ref 64), (1, .ref 16)], [.int r3], (q_kB s c n)) _ _
  refine q_RP_seg (g2 := (19, [(2, .int r3), (0, .ref 64), (1, .ref 16)], [.int (s.2.1 0 3), .ref 64], (q_kB s c n))) 4 (fun _ _ => rfl) ?_
  refine q_RP_seg (g2 := (21, [(2, .int r3), (0, .ref 64), (1, .ref 16)], [.int ((s.2.1 0 3) + r3), .ref 64], (q_kB s c n))) 2 (fun _ _ => rfl) ?_
  refine q_RP_bd fun r4 er4 => ?_
  refine q_RP_call (v := none) (h2 := (q_kB r4 c n)) rfl rfl ((dzt_B332_64 z L xs s c n ((s.2.1 0 3) + r3) r4 er4).le (Nat.le_of_ble_eq_true rfl)) ?_
  show q_RP _ _ _ (24, [(2, .int r3), (0, .ref 64), (1, .ref 16)], [], (q_kB r4 c n)) _ _
  refine q_RP_seg (g2 := (29, [(2, .int r3), (0, .ref 64), (1, .ref 16)], [.int (r4.2.1 0 3), .ref 64], (q_kB r4 c n))) 3 (fun _ _ => rfl) ?_
  refine q_RP_seg (g2 := (30, [(2, .int r3), (0, .ref 64), (1, .ref 16)], [.ref 16, .int (r4.2.1 0 3), .ref 64], (q_kB r4 c n))) 1 (fun _ _ => rfl) ?_
  refine q_RP_bd fun r5 er5 => ?_
  refine q_RP_call (v := none) (h2 := (q_kB r5 c n)) rfl rfl ((dzt_B343_64_16 z L xs r4 c n (r4.2.1 0 3) r5 er5).le (Nat.le_of_ble_eq_true rfl)) ?_
  show q_RP _ _ _ (33, [(2, .int r3), (0, .ref 64), (1, .ref 16)], [], (q_kB r5 c n)) _ _
  refine q_RP_seg (g2 := (38, [(2, .int r3), (0, .ref 64), (1, .ref 16)], [.int (r5.2.1 0 3), .ref 64], (q_kB r5 c n))) 3 (fun _ _ => rfl) ?_
  refine q_RP_seg (g2 := (44, [(2, .int r3), (0, .ref 64), (1, .ref 16)], [.ref 64], (q_kB (q_sI r5 0 3 ((r5.2.1 0 3) + r3)) c n))) 4 (fun _ _ => rfl) ?_
  exact q_RP_ret rfl rfl rfl
def dz_B324_64_16 (s : q_S) : Option (q_S) :=
  (dz_B337_64_16 s).bind fun r2 => some r2
set_option maxHeartbeats 4000000 in
theorem dzt_B324_64_16 (z L : Nat) (xs : Nat → Int32) (s : q_S) (c n : Nat) (x : q_S) (h : dz_B324_64_16 s = some x) : q_Ca (q_TBs z L xs) 5 324 [.ref 64, .ref 16] (q_kB s c n) ((q_oRB c n) x) := by
  refine q_CaP_of (φ := (q_oRB c n)) (Nat.le_of_ble_eq_true rfl) ?_ h
  clear h
  unfold dz_B324_64_16
  refine q_RP_seg (g2 := (2, [(0, .ref 64), (1, .ref 16)], [.ref 16, .ref 64], (q_kB s c n))) 2 (fun _ _ => rfl) ?_
  refine q_RP_bd fun r2 er2 => ?_
  refine q_RP_call (v := (some (.ref 64))) (h2 := (q_kB r2 c n)) rfl rfl ((dzt_B337_64_16 z L xs s c n r2 er2).le (Nat.le_of_ble_eq_true rfl)) ?_
  show q_RP _ _ _ (5, [(0, .ref 64), (1, .ref 16)], [.ref 64], (q_kB r2 c n)) _ _
  refine q_RP_seg (g2 := (7, [(0, .ref 64), (1, .ref 16)], [.ref 64], (q_kB r2 c n))) 2 (fun _ _ => rfl) ?_
  exact q_RP_ret rfl rfl rfl
def dz_B347_17 (s : q_S) : Int32 :=
  0
set_option maxHeartbeats 4000000 in
theorem dzt_B347_17 (z L : Nat) (xs : Nat → Int32) (s : q_S) (c n : Nat) : q_Ca (q_TBs z L xs) 1 347 [.ref 17] (q_kB s c n) ((q_oP (q_kB s c n)) (dz_B347_17 s)) := by
  refine q_CaT_of (φ := (q_oP (q_kB s c n))) (Nat.le_of_ble_eq_true rfl) ?_
  unfold dz_B347_17
  refine q_RT_seg (g2 := (14, [(0, .ref 17)], [.int 0], (q_kB s c n))) 5 (fun _ _ => rfl) ?_
  exact q_RT_ret rfl rfl rfl
def dz_B344_17 (s : q_S) : Int32 :=
  q_let (dz_B347_17 s) fun r1 => ((3 : Int32) >>> (r1 &&& 31))
set_option maxHeartbeats 4000000 in
theorem dzt_B344_17 (z L : Nat) (xs : Nat → Int32) (s : q_S) (c n : Nat) : q_Ca (q_TBs z L xs) 2 344 [.ref 17] (q_kB s c n) ((q_oP (q_kB s c n)) (dz_B344_17 s)) := by
  refine q_CaT_of (φ := (q_oP (q_kB s c n))) (Nat.le_of_ble_eq_true rfl) ?_
  unfold dz_B344_17
  refine q_RT_seg (g2 := (6, [(0, .ref 17)], [.ref 17, .int 3], (q_kB s c n))) 4 (fun _ _ => rfl) ?_
  refine q_RT_call (v := (some (.int (dz_B347_17 s)))) (h2 := (q_kB s c n)) rfl rfl ((dzt_B347_17 z L xs s c n).le (Nat.le_of_ble_eq_true rfl)) ?_
  generalize dz_B347_17 s = r1
  refine q_RT_let ?_
  show q_RT _ _ _ (9, [(0, .ref 17)], [.int r1, .int 3], (q_kB s c n)) _ _
  refine q_RT_seg (g2 := (10, [(0, .ref 17)], [.int ((3 : Int32) >>> (r1 &&& 31))], (q_kB s c n))) 1 (fun _ _ => rfl) ?_
  exact q_RT_ret rfl rfl rfl
def dz_B342_64_17 (s : q_S) : Option (q_S) :=
  q_let (dz_B347_17 s) fun r2 => cond (decide (0 = r2)) (some s) (none)
set_option maxHeartbeats 4000000 in
theorem dzt_B342_64_17 (z L : Nat) (xs : Nat → Int32) (s : q_S) (c n : Nat) (x : q_S) (h : dz_B342_64_17 s = some x) : q_Ca (q_TBs z L xs) 2 342 [.ref 64, .ref 17] (q_kB s c n) ((q_oSB c n) x) := by
  refine q_CaP_of (φ := (q_oSB c n)) (Nat.le_of_ble_eq_true rfl) ?_ h
  clear h
  unfold dz_B342_64_17
  refine q_RP_seg (g2 := (10, [(0, .ref 64), (1, .ref 17)], [.int 0], (q_kB s c n))) 4 (fun _ _ => rfl) ?_
  refine q_RP_seg (g2 := (11, [(0, .ref 64), (1, .ref 17)], [.ref 17, .int 0], (q_kB s c n))) 1 (fun _ _ => rfl) ?_
  refine q_RP_call (v := (some (.int (dz_B347_17 s)))) (h2 := (q_kB s c n)) rfl rfl ((dzt_B347_17 z L xs s c n).le (Nat.le_of_ble_eq_true rfl)) ?_
  generalize dz_B347_17 s = r2
  refine q_RP_let ?_
  show q_RP _ _ _ (14, [(0, .ref 64), (1, .ref 17)], [.int r2, .int 0], (q_kB s c n)) _ _
  cases h2 : decide (0 = r2) with
  | true =>
    refine q_RP_cT ?_
    refine q_RP_rsT (g2 := (21, [(0, .ref 64), (1, .ref 17)], [], (q_kB s c n))) rfl rfl h2 ?_
    exact q_RP_ret rfl rfl rfl
  | false =>
    refine q_RP_cF ?_
    refine q_RP_rsF (g2 := (17, [(0, .ref 64), (1, .ref 17)], [], (q_kB s c n))) rfl rfl h2 ?_
    exact q_RP_no
def dz_B346_17_65 (s : q_S) (a2 : Int32) (a3 : Int32) : Option (q_S) :=
  q_let (dz_B347_17 s) fun r2 => cond (decide (r2 = a3)) (cond (q_cpk (a2 <<< (a3 &&& 31)) 3 16) (some (q_sA s 1 (va_cpy (fun j => q_o45.getD j 0) (s.1 1) 0 ((a2 <<< (a3 &&& 31)).toNatClampNeg) 3))) none) (none)
set_option maxHeartbeats 4000000 in
theorem dzt_B346_17_65 (z L : Nat) (xs : Nat → Int32) (s : q_S) (c n : Nat) (a2 : Int32) (a3 : Int32) (x : q_S) (h : dz_B346_17_65 s a2 a3 = some x) : q_Ca (q_TBs z L xs) 2 346 [.ref 17, .ref 65, .int a2, .int a3] (q_kB s c n) ((q_oSB c n) x) := by
  refine q_CaP_of (φ := (q_oSB c n)) (Nat.le_of_ble_eq_true rfl) ?_ h
  clear h
  unfold dz_B346_17_65
  refine q_RP_seg (g2 := (1, [(0, .ref 17), (1, .ref 65), (2, .int a2), (3, .int a3)], [.ref 17], (q_kB s c n))) 1 (fun _ _ => rfl) ?_
  refine q_RP_call (v := (some (.int (dz_B347_17 s)))) (h2 := (q_kB s c n)) rfl rfl ((dzt_B347_17 z L xs s c n).le (Nat.le_of_ble_eq_true rfl)) ?_
  generalize dz_B347_17 s = r2
  refine q_RP_let ?_
  show q_RP _ _ _ (4, [(0, .ref 17), (1, .ref 65), (2, .int a2), (3, .int a3)], [.int r2], (q_kB s c n)) _ _
  refine q_RP_seg (g2 := (5, [(0, .ref 17), (1, .ref 65), (2, .int a2), (3, .int a3)], [.int a3, .int r2], (q_kB s c n))) 1 (fun _ _ => rfl) ?_
  cases h3 : decide (r2 = a3) with
  | true =>
    refine q_RP_cT ?_
    refine q_RP_rsF (g2 := (8, [(0, .ref 17), (1, .ref 65), (2, .int a2), (3, .int a3)], [], (q_kB s c n))) rfl rfl (q_d_neT h3) ?_
    refine q_RP_seg (g2 := (22, [(0, .ref 17), (1, .ref 65), (2, .int a2), (3, .int a3)], [.int 3, .int (a2 <<< (a3 &&& 31)), .ref 65, .int 0, .ref 45], (q_kB s c n))) 10 (fun _ _ => rfl) ?_
    refine q_RP_as fun i4 => ?_
    refine q_RP_rsT (g2 := (25, [(0, .ref 17), (1, .ref 65), (2, .int a2), (3, .int a3)], [], (q_kB (q_sA s 1 (va_cpy (fun j => q_o45.getD j 0) (s.1 1) 0 ((a2 <<< (a3 &&& 31)).toNatClampNeg) 3)) c n))) rfl rfl (q_acbB i4 rfl) ?_
    refine q_RP_seg (g2 := (43, [(0, .ref 17), (1, .ref 65), (2, .int a2), (3, .int a3)], [], (q_kB (q_sA s 1 (va_cpy (fun j => q_o45.getD j 0) (s.1 1) 0 ((a2 <<< (a3 &&& 31)).toNatClampNeg) 3)) c n))) 1 (fun _ _ => rfl) ?_
    exact q_RP_ret rfl rfl rfl
  | false =>
    refine q_RP_cF ?_
    refine q_RP_rsT (g2 := (28, [(0, .ref 17), (1, .ref 65), (2, .int a2), (3, .int a3)], [], (q_kB s c n))) rfl rfl (q_d_neF h3) ?_
    exact q_RP_no
def dz_B343_64_17 (s : q_S) (a1 : Int32) : Option (q_S) :=
  (dz_B342_64_17 s).bind fun r2 => (dz_B346_17_65 r2 a1 0).bind fun r3 => some r3
set_option maxHeartbeats 4000000 in
theorem dzt_B343_64_17 (z L : Nat) (xs : Nat → Int32) (s : q_S) (c n : Nat) (a1 : Int32) (x : q_S) (h : dz_B343_64_17 s a1 = some x) : q_Ca (q_TBs z L xs) 3 343 [.ref 64, .int a1, .ref 17] (q_kB s c n) ((q_oSB c n) x) := by
  refine q_CaP_of (φ := (q_oSB c n)) (Nat.le_of_ble_eq_true rfl) ?_ h
  clear h
  unfold dz_B343_64_17
  refine q_RP_seg (g2 := (2, [(0, .ref 64), (1, .int a1), (2, .ref 17)], [.ref 17, .ref 64], (q_kB s c n))) 2 (fun _ _ => rfl) ?_
  refine q_RP_bd fun r2 er2 => ?_
  refine q_RP_call (v := none) (h2 := (q_kB r2 c n)) rfl rfl ((dzt_B342_64_17 z L xs s c n r2 er2).le (Nat.le_of_ble_eq_true rfl)) ?_
  show q_RP _ _ _ (5, [(0, .ref 64), (1, .int a1), (2, .ref 17)], [], (q_kB r2 c n)) _ _
  refine q_RP_seg (g2 := (15, [(0, .ref 64), (1, .int a1), (2, .ref 17)], [.int 0, .int a1, .ref 65, .ref 17], (q_kB r2 c n))) 6 (fun _ _ => rfl) ?_
  refine q_RP_bd fun r3 er3 => ?_
  refine q_RP_call (v := none) (h2 := (q_kB r3 c n)) rfl rfl ((dzt_B346_17_65 z L xs r2 c n a1 0 r3 er3).le (Nat.le_of_ble_eq_true rfl)) ?_
  show q_RP _ _ _ (18, [(0, .ref 64), (1, .int a1), (2, .ref 17)], [], (q_kB r3 c n)) _ _
  exact q_RP_ret rfl rfl rfl
def dz_B337_64_17 (s : q_S) : Option (q_S) :=
  q_let (dz_B344_17 s) fun r3 => (dz_B332_64 s ((s.2.1 0 3) + r3)).bind fun r4 => (dz_B343_64_17 r4 (r4.2.1 0 3)).bind fun r5 => some (q_sI r5 0 3 ((r5.2.1 0 3) + r3))
set_option maxHeartbeats 4000000 in
theorem dzt_B337_64_17 (z L : Nat) (xs : Nat → Int32) (s : q_S) (c n : Nat) (x : q_S) (h : dz_B337_64_17 s = some x) : q_Ca (q_TBs z L xs) 4 337 [.ref 64, .ref 17] (q_kB s c n) ((q_oRB c n) x) := by
  refine q_CaP_of (φ := (q_oRB c n)) (Nat.le_of_ble_eq_true rfl) ?_ h
  clear h
  unfold dz_B337_64_17
  refine q_RP_seg (g2 := (10, [(0, .ref 64), (1, .ref 17)], [.ref 17], (q_kB s c n))) 3 (fun _ _ => rfl) ?_
  refine q_RP_call (v := (some (.int (dz_B344_17 s)))) (h2 := (q_kB s c n)) rfl rfl ((dzt_B344_17 z L xs s c n).le (Nat.le_of_ble_eq_true rfl)) ?_
  generalize dz_B344_17 s = r3
  refine q_RP_let ?_
  show q_RP _ _ _ (13, [(0, .ref 64), (1, .ref 17)], [.int r3], (q_kB s c n)) _ _
  refine q_RP_seg (g2 := (19, [(2, .int r3), (0, .ref 64), (1, .ref 17)], [.int (s.2.1 0 3), .ref 64], (q_kB s c n))) 4 (fun _ _ => rfl) ?_
  refine q_RP_seg (g2 := (21, [(2, .int r3), (0, .ref 64), (1, .ref 17)], [.int ((s.2.1 0 3) + r3), .ref 64], (q_kB s c n))) 2 (fun _ _ => rfl) ?_
  refine q_RP_bd fun r4 er4 => ?_
  refine q_RP_call (v := none) (h2 := (q_kB r4 c n)) rfl rfl ((dzt_B332_64 z L xs s c n ((s.2.1 0 3) + r3) r4 er4).le (Nat.le_of_ble_eq_true rfl)) ?_
  show q_RP _ _ _ (24, [(2, .int r3), (0, .ref 64), (1, .ref 17)], [], (q_kB r4 c n)) _ _
  refine q_RP_seg (g2 := (29, [(2, .int r3), (0, .ref 64), (1, .ref 17)], [.int (r4.2.1 0 3), .ref 64], (q_kB r4 c n))) 3 (fun _ _ => rfl) ?_
  refine q_RP_seg (g2 := (30, [(2, .int r3), (0, .ref 64), (1, .ref 17)], [.ref 17, .int (r4.2.1 0 3), .ref 64], (q_kB r4 c n))) 1 (fun _ _ => rfl) ?_
  refine q_RP_bd fun r5 er5 => ?_
  refine q_RP_call (v := none) (h2 := (q_kB r5 c n)) rfl rfl ((dzt_B343_64_17 z L xs r4 c n (r4.2.1 0 3) r5 er5).le (Nat.le_of_ble_eq_true rfl)) ?_
  show q_RP _ _ _ (33, [(2, .int r3), (0, .ref 64), (1, .ref 17)], [], (q_kB r5 c n)) _ _
  refine q_RP_seg (g2 := (38, [(2, .int r3), (0, .ref 64), (1, .ref 17)], [.int (r5.2.1 0 3), .ref 64], (q_kB r5 c n))) 3 (fun _ _ => rfl) ?_
  refine q_RP_seg (g2 := (44, [(2, .int r3), (0, .ref 64), (1, .ref 17)], [.ref 64], (q_kB (q_sI r5 0 3 ((r5.2.1 0 3) + r3)) c n))) 4 (fun _ _ => rfl) ?_
  exact q_RP_ret rfl rfl rfl
def dz_B324_64_17 (s : q_S) : Option (q_S) :=
  (dz_B337_64_17 s).bind fun r2 => some r2
set_option maxHeartbeats 4000000 in
theorem dzt_B324_64_17 (z L : Nat) (xs : Nat → Int32) (s : q_S) (c n : Nat) (x : q_S) (h : dz_B324_64_17 s = some x) : q_Ca (q_TBs z L xs) 5 324 [.ref 64, .ref 17] (q_kB s c n) ((q_oRB c n) x) := by
  refine q_CaP_of (φ := (q_oRB c n)) (Nat.le_of_ble_eq_true rfl) ?_ h
  clear h
  unfold dz_B324_64_17
  refine q_RP_seg (g2 := (2, [(0, .ref 64), (1, .ref 17)], [.ref 17, .ref 64], (q_kB s c n))) 2 (fun _ _ => rfl) ?_
  refine q_RP_bd fun r2 er2 => ?_
  refine q_RP_call (v := (some (.ref 64))) (h2 := (q_kB r2 c n)) rfl rfl ((dzt_B337_64_17 z L xs s c n r2 er2).le (Nat.le_of_ble_eq_true rfl)) ?_
  show q_RP _ _ _ (5, [(0, .ref 64), (1, .ref 17)], [.ref 64], (q_kB r2 c n)) _ _
  refine q_RP_seg (g2 := (7, [(0, .ref 64), (1, .ref 17)], [.ref 64], (q_kB r2 c n))) 2 (fun _ _ => rfl) ?_
  exact q_RP_ret rfl rfl rfl
def dz_B347_18 (s : q_S) : Int32 :=
  0
set_option maxHeartbeats 4000000 in
theorem dzt_B347_18 (z L : Nat) (xs : Nat → Int32) (s : q_S) (c n : Nat) : q_Ca (q_TBs z L xs) 1 347 [.ref 18] (q_kB s c n) ((q_oP (q_kB s c n)) (dz_B347_18 s)) := by
  refine q_CaT_of (φ := (q_oP (q_kB s c n))) (Nat.le_of_ble_eq_true rfl) ?_
  unfold dz_B347_18
  refine q_RT_seg (g2 := (14, [(0, .ref 18)], [.int 0], (q_kB s c n))) 5 (fun _ _ => rfl) ?_
  exact q_RT_ret rfl rfl rfl
def dz_B344_18 (s : q_S) : Int32 :=
  q_let (dz_B347_18 s) fun r1 => ((3 : Int32) >>> (r1 &&& 31))
set_option maxHeartbeats 4000000 in
theorem dzt_B344_18 (z L : Nat) (xs : Nat → Int32) (s : q_S) (c n : Nat) : q_Ca (q_TBs z L xs) 2 344 [.ref 18] (q_kB s c n) ((q_oP (q_kB s c n)) (dz_B344_18 s)) := by
  refine q_CaT_of (φ := (q_oP (q_kB s c n))) (Nat.le_of_ble_eq_true rfl) ?_
  unfold dz_B344_18
  refine q_RT_seg (g2 := (6, [(0, .ref 18)], [.ref 18, .int 3], (q_kB s c n))) 4 (fun _ _ => rfl) ?_
  refine q_RT_call (v := (some (.int (dz_B347_18 s)))) (h2 := (q_kB s c n)) rfl rfl ((dzt_B347_18 z L xs s c n).le (Nat.le_of_ble_eq_true rfl)) ?_
  generalize dz_B347_18 s = r1
  refine q_RT_let ?_
  show q_RT _ _ _ (9, [(0, .ref 18)], [.int r1, .int 3], (q_kB s c n)) _ _
  refine q_RT_seg (g2 := (10, [(0, .ref 18)], [.int ((3 : Int32) >>> (r1 &&& 31))], (q_kB s c n))) 1 (fun _ _ => rfl) ?_
  exact q_RT_ret rfl rfl rfl
def dz_B342_64_18 (s : q_S) : Option (q_S) :=
  q_let (dz_B347_18 s) fun r2 => cond (decide (0 = r2)) (some s) (none)
set_option maxHeartbeats 4000000 in
theorem dzt_B342_64_18 (z L : Nat) (xs : Nat → Int32) (s : q_S) (c n : Nat) (x : q_S) (h : dz_B342_64_18 s = some x) : q_Ca (q_TBs z L xs) 2 342 [.ref 64, .ref 18] (q_kB s c n) ((q_oSB c n) x) := by
  refine q_CaP_of (φ := (q_oSB c n)) (Nat.le_of_ble_eq_true rfl) ?_ h
  clear h
  unfold dz_B342_64_18
  refine q_RP_seg (g2 := (10, [(0, .ref 64), (1, .ref 18)], [.int 0], (q_kB s c n))) 4 (fun _ _ => rfl) ?_
  refine q_RP_seg (g2 := (11, [(0, .ref 64), (1, .ref 18)], [.ref 18, .int 0], (q_kB s c n))) 1 (fun _ _ => rfl) ?_
  refine q_RP_call (v := (some (.int (dz_B347_18 s)))) (h2 := (q_kB s c n)) rfl rfl ((dzt_B347_18 z L xs s c n).le (Nat.le_of_ble_eq_true rfl)) ?_
  generalize dz_B347_18 s = r2
  refine q_RP_let ?_
  show q_RP _ _ _ (14, [(0, .ref 64), (1, .ref 18)], [.int r2, .int 0], (q_kB s c n)) _ _
  cases h2 : decide (0 = r2) with
  | true =>
    refine q_RP_cT ?_
    refine q_RP_rsT (g2 := (21, [(0, .ref 64), (1, .ref 18)], [], (q_kB s c n))) rfl rfl h2 ?_
    exact q_RP_ret rfl rfl rfl
  | false =>
    refine q_RP_cF ?_
    refine q_RP_rsF (g2 := (17, [(0, .ref 64), (1, .ref 18)], [], (q_kB s c n))) rfl rfl h2 ?_
    exact q_RP_no
def dz_B346_18_65 (s : q_S) (a2 : Int32) (a3 : Int32) : Option (q_S) :=
  q_let (dz_B347_18 s) fun r2 => cond (decide (r2 = a3)) (cond (q_cpk (a2 <<< (a3 &&& 31)) 3 16) (some (q_sA s 1 (va_cpy (fun j => q_o46.getD j 0) (s.1 1) 0 ((a2 <<< (a3 &&& 31)).toNatClampNeg) 3))) none) (none)
set_option maxHeartbeats 4000000 in
theorem dzt_B346_18_65 (z L : Nat) (xs : Nat → Int32) (s : q_S) (c n : Nat) (a2 : Int32) (a3 : Int32) (x : q_S) (h : dz_B346_18_65 s a2 a3 = some x) : q_Ca (q_TBs z L xs) 2 346 [.ref 18, .ref 65, .int a2, .int a3] (q_kB s c n) ((q_oSB c n) x) := by
  refine q_CaP_of (φ := (q_oSB c n)) (Nat.le_of_ble_eq_true rfl) ?_ h
  clear h
  unfold dz_B346_18_65
  refine q_RP_seg (g2 := (1, [(0, .ref 18), (1, .ref 65), (2, .int a2), (3, .int a3)], [.ref 18], (q_kB s c n))) 1 (fun _ _ => rfl) ?_
  refine q_RP_call (v := (some (.int (dz_B347_18 s)))) (h2 := (q_kB s c n)) rfl rfl ((dzt_B347_18 z L xs s c n).le (Nat.le_of_ble_eq_true rfl)) ?_
  generalize dz_B347_18 s = r2
  refine q_RP_let ?_
  show q_RP _ _ _ (4, [(0, .ref 18), (1, .ref 65), (2, .int a2), (3, .int a3)], [.int r2], (q_kB s c n)) _ _
  refine q_RP_seg (g2 := (5, [(0, .ref 18), (1, .ref 65), (2, .int a2), (3, .int a3)], [.int a3, .int r2], (q_kB s c n))) 1 (fun _ _ => rfl) ?_
  cases h3 : decide (r2 = a3) with
  | true =>
    refine q_RP_cT ?_
    refine q_RP_rsF (g2 := (8, [(0, .ref 18), (1, .ref 65), (2, .int a2), (3, .int a3)], [], (q_kB s c n))) rfl rfl (q_d_neT h3) ?_
    refine q_RP_seg (g2 := (22, [(0, .ref 18), (1, .ref 65), (2, .int a2), (3, .int a3)], [.int 3, .int (a2 <<< (a3 &&& 31)), .ref 65, .int 0, .ref 46], (q_kB s c n))) 10 (fun _ _ => rfl) ?_
    refine q_RP_as fun i4 => ?_
    refine q_RP_rsT (g2 := (25, [(0, .ref 18), (1, .ref 65), (2, .int a2), (3, .int a3)], [], (q_kB (q_sA s 1 (va_cpy (fun j => q_o46.getD j 0) (s.1 1) 0 ((a2 <<< (a3 &&& 31)).toNatClampNeg) 3)) c n))) rfl rfl (q_acbB i4 rfl) ?_
    refine q_RP_seg (g2 := (43, [(0, .ref 18), (1, .ref 65), (2, .int a2), (3, .int a3)], [], (q_kB (q_sA s 1 (va_cpy (fun j => q_o46.getD j 0) (s.1 1) 0 ((a2 <<< (a3 &&& 31)).toNatClampNeg) 3)) c n))) 1 (fun _ _ => rfl) ?_
    exact q_RP_ret rfl rfl rfl
  | false =>
    refine q_RP_cF ?_
    refine q_RP_rsT (g2 := (28, [(0, .ref 18), (1, .ref 65), (2, .int a2), (3, .int a3)], [], (q_kB s c n))) rfl rfl (q_d_neF h3) ?_
    exact q_RP_no
def dz_B343_64_18 (s : q_S) (a1 : Int32) : Option (q_S) :=
  (dz_B342_64_18 s).bind fun r2 => (dz_B346_18_65 r2 a1 0).bind fun r3 => some r3
set_option maxHeartbeats 4000000 in
theorem dzt_B343_64_18 (z L : Nat) (xs : Nat → Int32) (s : q_S) (c n : Nat) (a1 : Int32) (x : q_S) (h : dz_B343_64_18 s a1 = some x) : q_Ca (q_TBs z L xs) 3 343 [.ref 64, .int a1, .ref 18] (q_kB s c n) ((q_oSB c n) x) := by
  refine q_CaP_of (φ := (q_oSB c n)) (Nat.le_of_ble_eq_true rfl) ?_ h
  clear h
  unfold dz_B343_64_18
  refine q_RP_seg (g2 := (2, [(0, .ref 64), (1, .int a1), (2, .ref 18)], [.ref 18, .ref 64], (q_kB s c n))) 2 (fun _ _ => rfl) ?_
  refine q_RP_bd fun r2 er2 => ?_
  refine q_RP_call (v := none) (h2 := (q_kB r2 c n)) rfl rfl ((dzt_B342_64_18 z L xs s c n r2 er2).le (Nat.le_of_ble_eq_true rfl)) ?_
  show q_RP _ _ _ (5, [(0, .ref 64), (1, .int a1), (2, .ref 18)], [], (q_kB r2 c n)) _ _
  refine q_RP_seg (g2 := (15, [(0, .ref 64), (1, .int a1), (2, .ref 18)], [.int 0, .int a1, .ref 65, .ref 18], (q_kB r2 c n))) 6 (fun _ _ => rfl) ?_
  refine q_RP_bd fun r3 er3 => ?_
  refine q_RP_call (v := none) (h2 := (q_kB r3 c n)) rfl rfl ((dzt_B346_18_65 z L xs r2 c n a1 0 r3 er3).le (Nat.le_of_ble_eq_true rfl)) ?_
  show q_RP _ _ _ (18, [(0, .ref 64), (1, .int a1), (2, .ref 18)], [], (q_kB r3 c n)) _ _
  exact q_RP_ret rfl rfl rfl
def dz_B337_64_18 (s : q_S) : Option (q_S) :=
  q_let (dz_B344_18 s) fun r3 => (dz_B332_64 s ((s.2.1 0 3) + r3)).bind fun r4 => (dz_B343_64_18 r4 (r4.2.1 0 3)).bind fun r5 => some (q_sI r5 0 3 ((r5.2.1 0 3) + r3))
set_option maxHeartbeats 4000000 in
theorem dzt_B337_64_18 (z L : Nat) (xs : Nat → Int32) (s : q_S) (c n : Nat) (x : q_S) (h : dz_B337_64_18 s = some x) : q_Ca (q_TBs z L xs) 4 337 [.ref 64, .ref 18] (q_kB s c n) ((q_oRB c n) x) := by
  refine q_CaP_of (φ := (q_oRB c n)) (Nat.le_of_ble_eq_true rfl) ?_ h
  clear h
  unfold dz_B337_64_18
  refine q_RP_seg (g2 := (10, [(0, .ref 64), (1, .ref 18)], [.ref 18], (q_kB s c n))) 3 (fun _ _ => rfl) ?_
  refine q_RP_call (v := (some (.int (dz_B344_18 s)))) (h2 := (q_kB s c n)) rfl rfl ((dzt_B344_18 z L xs s c n).le (Nat.le_of_ble_eq_true rfl)) ?_
  generalize dz_B344_18 s = r3
  refine q_RP_let ?_
  show q_RP _ _ _ (13, [(0, .ref 64), (1, .ref 18)], [.int r3], (q_kB s c n)) _ _
  refine q_RP_seg (g2 := (19, [(2, .int r3), (0, .ref 64), (1, .ref 18)], [.int (s.2.1 0 3), .ref 64], (q_kB s c n))) 4 (fun _ _ => rfl) ?_
  refine q_RP_seg (g2 := (21, [(2, .int r3), (0, .ref 64), (1, .ref 18)], [.int ((s.2.1 0 3) + r3), .ref 64], (q_kB s c n))) 2 (fun _ _ => rfl) ?_
  refine q_RP_bd fun r4 er4 => ?_
  refine q_RP_call (v := none) (h2 := (q_kB r4 c n)) rfl rfl ((dzt_B332_64 z L xs s c n ((s.2.1 0 3) + r3) r4 er4).le (Nat.le_of_ble_eq_true rfl)) ?_
  show q_RP _ _ _ (24, [(2, .int r3), (0, .ref 64), (1, .ref 18)], [], (q_kB r4 c n)) _ _
  refine q_RP_seg (g2 := (29, [(2, .int r3), (0, .ref 64), (1, .ref 18)], [.int (r4.2.1 0 3), .ref 64], (q_kB r4 c n))) 3 (fun _ _ => rfl) ?_
  refine q_RP_seg (g2 := (30, [(2, .int r3), (0, .ref 64), (1, .ref 18)], [.ref 18, .int (r4.2.1 0 3), .ref 64], (q_kB r4 c n))) 1 (fun _ _ => rfl) ?_
  refine q_RP_bd fun r5 er5 => ?_
  refine q_RP_call (v := none) (h2 := (q_kB r5 c n)) rfl rfl ((dzt_B343_64_18 z L xs r4 c n (r4.2.1 0 3) r5 er5).le (Nat.le_of_ble_eq_true rfl)) ?_
  show q_RP _ _ _ (33, [(2, .int r3), (0, .ref 64), (1, .ref 18)], [], (q_kB r5 c n)) _ _
  refine q_RP_seg (g2 := (38, [(2, .int r3), (0, .ref 64), (1, .ref 18)], [.int (r5.2.1 0 3), .ref 64], (q_kB r5 c n))) 3 (fun _ _ => rfl) ?_
  refine q_RP_seg (g2 := (44, [(2, .int r3), (0, .ref 64), (1, .ref 18)], [.ref 64], (q_kB (q_sI r5 0 3 ((r5.2.1 0 3) + r3)) c n))) 4 (fun _ _ => rfl) ?_
  exact q_RP_ret rfl rfl rfl
def dz_B324_64_18 (s : q_S) : Option (q_S) :=
  (dz_B337_64_18 s).bind fun r2 => some r2
set_option maxHeartbeats 4000000 in
theorem dzt_B324_64_18 (z L : Nat) (xs : Nat → Int32) (s : q_S) (c n : Nat) (x : q_S) (h : dz_B324_64_18 s = some x) : q_Ca (q_TBs z L xs) 5 324 [.ref 64, .ref 18] (q_kB s c n) ((q_oRB c n) x) := by
  refine q_CaP_of (φ := (q_oRB c n)) (Nat.le_of_ble_eq_true rfl) ?_ h
  clear h
  unfold dz_B324_64_18
  refine q_RP_seg (g2 := (2, [(0, .ref 64), (1, .ref 18)], [.ref 18, .ref 64], (q_kB s c n))) 2 (fun _ _ => rfl) ?_
  refine q_RP_bd fun r2 er2 => ?_
  refine q_RP_call (v := (some (.ref 64))) (h2 := (q_kB r2 c n)) rfl rfl ((dzt_B337_64_18 z L xs s c n r2 er2).le (Nat.le_of_ble_eq_true rfl)) ?_
  show q_RP _ _ _ (5, [(0, .ref 64), (1, .ref 18)], [.ref 64], (q_kB r2 c n)) _ _
  refine q_RP_seg (g2 := (7, [(0, .ref 64), (1, .ref 18)], [.ref 64], (q_kB r2 c n))) 2 (fun _ _ => rfl) ?_
  exact q_RP_ret rfl rfl rfl
def dz_B196_64_34 (s : q_S) (v1 : Int32) (v2 : Int32) : Option (q_S) :=
  (dz_B326_64 s v2).bind fun r4 => cond (decide (v1 < 2)) (some r4) (cond (decide (8 < v1)) (some r4) (cond (decide (v1 = 2)) ((dz_B324_64_15 r4).bind fun r5 => some r5) (cond (decide (v1 = 3)) (some r4) (cond (decide (v1 = 4)) ((dz_B324_64_15 r4).bind fun r6 => some r6) (cond (decide (v1 = 5)) ((dz_B324_64_16 r4).bind fun r7 => some r7) (cond (decide (v1 = 6)) ((dz_B324_64_17 r4).bind fun r8 => some r8) (cond (decide (v1 = 7)) ((dz_B324_64_18 r4).bind fun r9 => some r9) ((dz_B325_64 r4 41).bind fun r10 => some r10))))))))
set_option maxHeartbeats 4000000 in
theorem dzt_B196_64_34 (z L : Nat) (xs : Nat → Int32) (c n : Nat) (s : q_S) (v1 : Int32) (v2 : Int32) : q_RP (q_TBs z L xs) 5 196 (34, [(0, .ref 64), (1, .int v1), (2, .int v2)], [], (q_kB s c n)) (q_oSB c n) (dz_B196_64_34 s v1 v2) := by
  unfold dz_B196_64_34
  refine q_RP_seg (g2 := (36, [(0, .ref 64), (1, .int v1), (2, .int v2)], [.int v2, .ref 64], (q_kB s c n))) 2 (fun _ _ => rfl) ?_
  refine q_RP_bd fun r4 er4 => ?_
  refine q_RP_call (v := (some (.ref 64))) (h2 := (q_kB r4 c n)) rfl rfl ((dzt_B326_64 z L xs s c n v2 r4 er4).le (Nat.le_of_ble_eq_true rfl)) ?_
  show q_RP _ _ _ (39, [(0, .ref 64), (1, .int v1), (2, .int v2)], [.ref 64], (q_kB r4 c n)) _ _
  refine q_RP_seg (g2 := (41, [(0, .ref 64), (1, .int v1), (2, .int v2)], [.int v1], (q_kB r4 c n))) 2 (fun _ _ => rfl) ?_
  cases h2 : decide (v1 < 2) with
  | true =>
    refine q_RP_cT ?_
    refine q_RP_st1 (g2 := (134, [(0, .ref 64), (1, .int v1), (2, .int v2)], [], (q_kB r4 c n))) rfl (if_pos (Or.inl (Int32.lt_iff_toInt_lt.mp (of_decide_eq_true h2)))) ?_
    exact q_RP_ret rfl rfl rfl
  | false =>
    refine q_RP_cF ?_
    cases h3 : decide (8 < v1) with
    | true =>
      refine q_RP_cT ?_
      refine q_RP_st1 (g2 := (134, [(0, .ref 64), (1, .int v1), (2, .int v2)], [], (q_kB r4 c n))) rfl (if_pos (Or.inr (Int32.lt_iff_toInt_lt.mp (of_decide_eq_true h3)))) ?_
      exact q_RP_ret rfl rfl rfl
    | false =>
      refine q_RP_cF ?_
      cases h4 : decide (v1 = 2) with
      | true =>
        refine q_RP_cT ?_
        refine q_RP_st1 (g2 := (84, [(0, .ref 64), (1, .int v1), (2, .int v2)], [], (q_kB r4 c n))) rfl (by rw [of_decide_eq_true h4]; rfl) ?_
        refine q_RP_seg (g2 := (87, [(0, .ref 64), (1, .int v1), (2, .int v2)], [.ref 15, .ref 64], (q_kB r4 c n))) 2 (fun _ _ => rfl) ?_
        refine q_RP_bd fun r5 er5 => ?_
        refine q_RP_call (v := (some (.ref 64))) (h2 := (q_kB r5 c n)) rfl rfl ((dzt_B324_64_15 z L xs r4 c n r5 er5).le (Nat.le_of_ble_eq_true rfl)) ?_
        show q_RP _ _ _ (90, [(0, .ref 64), (1, .int v1), (2, .int v2)], [.ref 64], (q_kB r5 c n)) _ _
        refine q_RP_seg (g2 := (134, [(0, .ref 64), (1, .int v1), (2, .int v2)], [], (q_kB r5 c n))) 2 (fun _ _ => rfl) ?_
        exact q_RP_ret rfl rfl rfl
      | false =>
        refine q_RP_cF ?_
        cases h5 : decide (v1 = 3) with
        | true =>
          refine q_RP_cT ?_
          refine q_RP_st1 (g2 := (134, [(0, .ref 64), (1, .int v1), (2, .int v2)], [], (q_kB r4 c n))) rfl (by rw [of_decide_eq_true h5]; rfl) ?_
          exact q_RP_ret rfl rfl rfl
        | false =>
          refine q_RP_cF ?_
          cases h6 : decide (v1 = 4) with
          | true =>
            refine q_RP_cT ?_
            refine q_RP_st1 (g2 := (84, [(0, .ref 64), (1, .int v1), (2, .int v2)], [], (q_kB r4 c n))) rfl (by rw [of_decide_eq_true h6]; rfl) ?_
            refine q_RP_seg (g2 := (87, [(0, .ref 64), (1, .int v1), (2, .int v2)], [.ref 15, .ref 64], (q_kB r4 c n))) 2 (fun _ _ => rfl) ?_
            refine q_RP_bd fun r6 er6 => ?_
            refine q_RP_call (v := (some (.ref 64))) (h2 := (q_kB r6 c n)) rfl rfl ((dzt_B324_64_15 z L xs r4 c n r6 er6).le (Nat.le_of_ble_eq_true rfl)) ?_
            show q_RP _ _ _ (90, [(0, .ref 64), (1, .int v1), (2, .int v2)], [.ref 64], (q_kB r6 c n)) _ _
            refine q_RP_seg (g2 := (134, [(0, .ref 64), (1, .int v1), (2, .int v2)], [], (q_kB r6 c n))) 2 (fun _ _ => rfl) ?_
            exact q_RP_ret rfl rfl rfl
          | false =>
            refine q_RP_cF ?_
            cases h7 : decide (v1 = 5) with
            | true =>
              refine q_RP_cT ?_
              refine q_RP_st1 (g2 := (94, [(0, .ref 64), (1, .int v1), (2, .int v2)], [], (q_kB r4 c n))) rfl (by rw [of_decide_eq_true h7]; rfl) ?_
              refine q_RP_seg (g2 := (97, [(0, .ref 64), (1, .int v1), (2, .int v2)], [.ref 16, .ref 64], (q_kB r4 c n))) 2 (fun _ _ => rfl) ?_
              refine q_RP_bd fun r7 er7 => ?_
              refine q_RP_call (v := (some (.ref 64))) (h2 := (q_kB r7 c n)) rfl rfl ((dzt_B324_64_16 z L xs r4 c n r7 er7).le (Nat.le_of_ble_eq_true rfl)) ?_
              show q_RP _ _ _ (100, [(0, .ref 64), (1, .int v1), (2, .int v2)], [.ref 64], (q_kB r7 c n)) _ _
              refine q_RP_seg (g2 := (134, [(0, .ref 64), (1, .int v1), (2, .int v2)], [], (q_kB r7 c n))) 2 (fun _ _ => rfl) ?_
              exact q_RP_ret rfl rfl rfl
            | false =>
              refine q_RP_cF ?_
              cases h8 : decide (v1 = 6) with
              | true =>
                refine q_RP_cT ?_
                refine q_RP_st1 (g2 := (104, [(0, .ref 64), (1, .int v1), (2, .int v2)], [], (q_kB r4 c n))) rfl (by rw [of_decide_eq_true h8]; rfl) ?_
                refine q_RP_seg (g2 := (107, [(0, .ref 64), (1, .int v1), (2, .int v2)], [.ref 17, .ref 64], (q_kB r4 c n))) 2 (fun _ _ => rfl) ?_
                refine q_RP_bd fun r8 er8 => ?_
                refine q_RP_call (v := (some (.ref 64))) (h2 := (q_kB r8 c n)) rfl rfl ((dzt_B324_64_17 z L xs r4 c n r8 er8).le (Nat.le_of_ble_eq_true rfl)) ?_
                show q_RP _ _ _ (110, [(0, .ref 64), (1, .int v1), (2, .int v2)], [.ref 64], (q_kB r8 c n)) _ _
                refine q_RP_seg (g2 := (134, [(0, .ref 64), (1, .int v1), (2, .int v2)], [], (q_kB r8 c n))) 2 (fun _ _ => rfl) ?_
                exact q_RP_ret rfl rfl rfl
              | false =>
                refine q_RP_cF ?_
                cases h9 : decide (v1 = 7) with
                | true =>
                  refine q_RP_cT ?_
                  refine q_RP_st1 (g2 := (114, [(0, .ref 64), (1, .int v1), (2, .int v2)], [], (q_kB r4 c n))) rfl (by rw [of_decide_eq_true h9]; rfl) ?_
                  refine q_RP_seg (g2 := (117, [(0, .ref 64), (1, .int v1), (2, .int v2)], [.ref 18, .ref 64], (q_kB r4 c n))) 2 (fun _ _ => rfl) ?_
                  refine q_RP_bd fun r9 er9 => ?_
                  refine q_RP_call (v := (some (.ref 64))) (h2 := (q_kB r9 c n)) rfl rfl ((dzt_B324_64_18 z L xs r4 c n r9 er9).le (Nat.le_of_ble_eq_true rfl)) ?_
                  show q_RP _ _ _ (120, [(0, .ref 64), (1, .int v1), (2, .int v2)], [.ref 64], (q_kB r9 c n)) _ _
                  refine q_RP_seg (g2 := (134, [(0, .ref 64), (1, .int v1), (2, .int v2)], [], (q_kB r9 c n))) 2 (fun _ _ => rfl) ?_
                  exact q_RP_ret rfl rfl rfl
                | false =>
                  refine q_RP_cF ?_
                  have h10 : v1 = 8 := Int32.toInt_inj.mp (by have e0 := q_neI h4 (n := 2); have e1 := q_neI h5 (n := 3); have e2 := q_neI h6 (n := 4); have e3 := q_neI h7 (n := 5); have e4 := q_neI h8 (n := 6); have e5 := q_neI h9 (n := 7); have l1 : 2 ≤ (v1).toInt := q_lo1 h2; have l2 : (v1).toInt ≤ 8 := q_hi2 h3; show (v1).toInt = 8; omega)
                  refine q_RP_st1 (g2 := (124, [(0, .ref 64), (1, .int v1), (2, .int v2)], [], (q_kB r4 c n))) rfl (by rw [h10]; rfl) ?_
                  refine q_RP_seg (g2 := (127, [(0, .ref 64), (1, .int v1), (2, .int v2)], [.int 41, .ref 64], (q_kB r4 c n))) 2 (fun _ _ => rfl) ?_
                  refine q_RP_bd fun r10 er10 => ?_
                  refine q_RP_call (v := (some (.ref 64))) (h2 := (q_kB r10 c n)) rfl rfl ((dzt_B325_64 z L xs r4 c n 41 r10 er10).le (Nat.le_of_ble_eq_true rfl)) ?_
                  show q_RP _ _ _ (130, [(0, .ref 64), (1, .int v1), (2, .int v2)], [.ref 64], (q_kB r10 c n)) _ _
                  refine q_RP_seg (g2 := (134, [(0, .ref 64), (1, .int v1), (2, .int v2)], [], (q_kB r10 c n))) 2 (fun _ _ => rfl) ?_
                  exact q_RP_ret rfl rfl rfl
def dz_B196_64 (s : q_S) (a1 : Int32) (a2 : Int32) : Option (q_S) :=
  (dz_B325_64 s 32).bind fun r2 => cond (decide (a1 = 0)) ((dz_B325_64 r2 35).bind fun r3 => dz_B196_64_34 r3 a1 a2) (cond (decide (a1 < 6)) (dz_B196_64_34 r2 a1 a2) ((dz_B325_64 r2 40).bind fun r11 => dz_B196_64_34 r11 a1 a2))
set_option maxHeartbeats 4000000 in
theorem dzt_B196_64 (z L : Nat) (xs : Nat → Int32) (s : q_S) (c n : Nat) (a1 : Int32) (a2 : Int32) (x : q_S) (h : dz_B196_64 s a1 a2 = some x) : q_Ca (q_TBs z L xs) 6 196 [.ref 64, .int a1, .int a2] (q_kB s c n) ((q_oSB c n) x) := by
  refine q_CaP_of (φ := (q_oSB c n)) (Nat.le_of_ble_eq_true rfl) ?_ h
  clear h
  unfold dz_B196_64
  refine q_RP_seg (g2 := (3, [(0, .ref 64), (1, .int a1), (2, .int a2)], [.int 32, .ref 64], (q_kB s c n))) 2 (fun _ _ => rfl) ?_
  refine q_RP_bd fun r2 er2 => ?_
  refine q_RP_call (v := (some (.ref 64))) (h2 := (q_kB r2 c n)) rfl rfl ((dzt_B325_64 z L xs s c n 32 r2 er2).le (Nat.le_of_ble_eq_true rfl)) ?_
  show q_RP _ _ _ (6, [(0, .ref 64), (1, .int a1), (2, .int a2)], [.ref 64], (q_kB r2 c n)) _ _
  refine q_RP_seg (g2 := (8, [(0, .ref 64), (1, .int a1), (2, .int a2)], [.int a1], (q_kB r2 c n))) 2 (fun _ _ => rfl) ?_
  cases h1 : decide (a1 = 0) with
  | true =>
    refine q_RP_cT ?_
    refine q_RP_rsF (g2 := (11, [(0, .ref 64), (1, .int a1), (2, .int a2)], [], (q_kB r2 c n))) rfl rfl (q_d_neT h1) ?_
    refine q_RP_seg (g2 := (14, [(0, .ref 64), (1, .int a1), (2, .int a2)], [.int 35, .ref 64], (q_kB r2 c n))) 2 (fun _ _ => rfl) ?_
    refine q_RP_bd fun r3 er3 => ?_
    refine q_RP_call (v := (some (.ref 64))) (h2 := (q_kB r3 c n)) rfl rfl ((dzt_B325_64 z L xs r2 c n 35 r3 er3).le (Nat.le_of_ble_eq_true rfl)) ?_
    show q_RP _ _ _ (17, [(0, .ref 64), (1, .int a1), (2, .int a2)], [.ref 64], (q_kB r3 c n)) _ _
    refine q_RP_seg (g2 := (34, [(0, .ref 64), (1, .int a1), (2, .int a2)], [], (q_kB r3 c n))) 2 (fun _ _ => rfl) ?_
    exact (dzt_B196_64_34 z L xs c n r3 a1 a2)
  | false =>
    refine q_RP_cF ?_
    refine q_RP_rsT (g2 := (21, [(0, .ref 64), (1, .int a1), (2, .int a2)], [], (q_kB r2 c n))) rfl rfl (q_d_neF h1) ?_
    refine q_RP_seg (g2 := (24, [(0, .ref 64), (1, .int a1), (2, .int a2)], [.int 6, .int a1], (q_kB r2 c n))) 2 (fun _ _ => rfl) ?_
    cases h11 : decide (a1 < 6) with
    | true =>
      refine q_RP_cT ?_
      refine q_RP_rsT (g2 := (34, [(0, .ref 64), (1, .int a1), (2, .int a2)], [], (q_kB r2 c n))) rfl rfl h11 ?_
      exact (dzt_B196_64_34 z L xs c n r2 a1 a2)
    | false =>
      refine q_RP_cF ?_
      refine q_RP_rsF (g2 := (27, [(0, .ref 64), (1, .int a1), (2, .int a2)], [], (q_kB r2 c n))) rfl rfl h11 ?_
      refine q_RP_seg (g2 := (30, [(0, .ref 64), (1, .int a1), (2, .int a2)], [.int 40, .ref 64], (q_kB r2 c n))) 2 (fun _ _ => rfl) ?_
      refine q_RP_bd fun r11 er11 => ?_
      refine q_RP_call (v := (some (.ref 64))) (h2 := (q_kB r11 c n)) rfl rfl ((dzt_B325_64 z L xs r2 c n 40 r11 er11).le (Nat.le_of_ble_eq_true rfl)) ?_
      show q_RP _ _ _ (33, [(0, .ref 64), (1, .int a1), (2, .int a2)], [.ref 64], (q_kB r11 c n)) _ _
      refine q_RP_seg (g2 := (34, [(0, .ref 64), (1, .int a1), (2, .int a2)], [], (q_kB r11 c n))) 1 (fun _ _ => rfl) ?_
      exact (dzt_B196_64_34 z L xs c n r11 a1 a2)
def dz_B331_64 (s : q_S) : Int32 :=
  (s.2.1 0 3)
set_option maxHeartbeats 4000000 in
theorem dzt_B331_64 (z L : Nat) (xs : Nat → Int32) (s : q_S) (c n : Nat) : q_Ca (q_TBs z L xs) 1 331 [.ref 64] (q_kB s c n) ((q_oP (q_kB s c n)) (dz_B331_64 s)) := by
  refine q_CaT_of (φ := (q_oP (q_kB s c n))) (Nat.le_of_ble_eq_true rfl) ?_
  unfold dz_B331_64
  refine q_RT_seg (g2 := (4, [(0, .ref 64)], [.int (s.2.1 0 3)], (q_kB s c n))) 2 (fun _ _ => rfl) ?_
  exact q_RT_ret rfl rfl rfl
def dz_B329_64 (s : q_S) : Int32 :=
  q_let (dz_B331_64 s) fun r1 => r1
set_option maxHeartbeats 4000000 in
theorem dzt_B329_64 (z L : Nat) (xs : Nat → Int32) (s : q_S) (c n : Nat) : q_Ca (q_TBs z L xs) 2 329 [.ref 64] (q_kB s c n) ((q_oP (q_kB s c n)) (dz_B329_64 s)) := by
  refine q_CaT_of (φ := (q_oP (q_kB s c n))) (Nat.le_of_ble_eq_true rfl) ?_
  unfold dz_B329_64
  refine q_RT_seg (g2 := (1, [(0, .ref 64)], [.ref 64], (q_kB s c n))) 1 (fun _ _ => rfl) ?_
  refine q_RT_call (v := (some (.int (dz_B331_64 s)))) (h2 := (q_kB s c n)) rfl rfl ((dzt_B331_64 z L xs s c n).le (Nat.le_of_ble_eq_true rfl)) ?_
  generalize dz_B331_64 s = r1
  refine q_RT_let ?_
  show q_RT _ _ _ (4, [(0, .ref 64)], [.int r1], (q_kB s c n)) _ _
  exact q_RT_ret rfl rfl rfl
def dz_B336_64 (s : q_S) (a1 : Int32) : Option (Int32) :=
  q_let (if 16 < (s.2.1 0 3) then 16 else (s.2.1 0 3)) fun x3 => (dz_B349 s a1 x3).bind fun r4 => cond (q_in a1 16) (cond (decide (vp_nar .char (((((s.1 1) (a1.toNatClampNeg)) &&& 255).toUInt32 % 65536).toInt32) = ((((s.1 1) (a1.toNatClampNeg)) &&& 255).toUInt32 % 65536).toInt32)) (some (((((s.1 1) (a1.toNatClampNeg)) &&& 255).toUInt32 % 65536).toInt32)) none) none
set_option maxHeartbeats 4000000 in
theorem dzt_B336_64 (z L : Nat) (xs : Nat → Int32) (s : q_S) (c n : Nat) (a1 : Int32) (x : Int32) (h : dz_B336_64 s a1 = some x) : q_Ca (q_TBs z L xs) 3 336 [.ref 64, .int a1] (q_kB s c n) ((q_oP (q_kB s c n)) x) := by
  refine q_CaP_of (φ := (q_oP (q_kB s c n))) (Nat.le_of_ble_eq_true rfl) ?_ h
  clear h
  unfold dz_B336_64
  refine q_RP_seg (g2 := (4, [(0, .ref 64), (1, .int a1)], [.int 0], (q_kB s c n))) 2 (fun _ _ => rfl) ?_
  refine q_RP_seg (g2 := (14, [(3, .ref 65), (2, .int 0), (0, .ref 64), (1, .int a1)], [.int (s.2.1 0 3)], (q_kB s c n))) 6 (fun _ _ => rfl) ?_
  refine q_RP_seg (g2 := (21, [(3, .ref 65), (2, .int 0), (0, .ref 64), (1, .int a1)], [.int (if 16 < (s.2.1 0 3) then 16 else (s.2.1 0 3))], (q_kB s c n))) 5 (fun _ _ => rfl) ?_
  generalize (if 16 < (s.2.1 0 3) then 16 else (s.2.1 0 3)) = x3
  refine q_RP_let ?_
  show q_RP _ _ _ (21, [(3, .ref 65), (2, .int 0), (0, .ref 64), (1, .int a1)], [.int x3], (q_kB s c n)) _ _
  refine q_RP_seg (g2 := (26, [(4, .int x3), (3, .ref 65), (2, .int 0), (0, .ref 64), (1, .int a1)], [.int x3, .int a1], (q_kB s c n))) 3 (fun _ _ => rfl) ?_
  refine q_RP_bd fun r4 er4 => ?_
  refine q_RP_call (v := none) (h2 := (q_kB s c n)) rfl rfl ((dzt_B349 z L xs s c n a1 x3 r4 er4).le (Nat.le_of_ble_eq_true rfl)) ?_
  show q_RP _ _ _ (29, [(4, .int x3), (3, .ref 65), (2, .int 0), (0, .ref 64), (1, .int a1)], [], (q_kB s c n)) _ _
  refine q_RP_seg (g2 := (35, [(4, .int x3), (3, .ref 65), (2, .int 0), (0, .ref 64), (1, .int a1)], [.int a1, .ref 65], (q_kB s c n))) 4 (fun _ _ => rfl) ?_
  refine q_RP_as fun i1 => ?_
  refine q_RP_rsT (g2 := (36, [(4, .int x3), (3, .ref 65), (2, .int 0), (0, .ref 64), (1, .int a1)], [.int ((s.1 1) (a1.toNatClampNeg))], (q_kB s c n))) rfl rfl i1 ?_
  refine q_RP_seg (g2 := (41, [(4, .int x3), (3, .ref 65), (2, .int 0), (0, .ref 64), (1, .int a1)], [.int (((((s.1 1) (a1.toNatClampNeg)) &&& 255).toUInt32 % 65536).toInt32)], (q_kB s c n))) 3 (fun _ _ => rfl) ?_
  refine q_RP_as fun i2 => ?_
  exact q_RP_ret rfl (if_pos (of_decide_eq_true i2)) rfl
def dz_B327_64 (s : q_S) (a1 : Int32) : Option (Int32) :=
  (dz_B336_64 s a1).bind fun r2 => cond (decide (vp_nar .char r2 = r2)) (some r2) none
set_option maxHeartbeats 4000000 in
theorem dzt_B327_64 (z L : Nat) (xs : Nat → Int32) (s : q_S) (c n : Nat) (a1 : Int32) (x : Int32) (h : dz_B327_64 s a1 = some x) : q_Ca (q_TBs z L xs) 4 327 [.ref 64, .int a1] (q_kB s c n) ((q_oP (q_kB s c n)) x) := by
  refine q_CaP_of (φ := (q_oP (q_kB s c n))) (Nat.le_of_ble_eq_true rfl) ?_ h
  clear h
  unfold dz_B327_64
  refine q_RP_seg (g2 := (2, [(0, .ref 64), (1, .int a1)], [.int a1, .ref 64], (q_kB s c n))) 2 (fun _ _ => rfl) ?_
  refine q_RP_bd fun r2 er2 => ?_
  refine q_RP_call (v := (some (.int r2))) (h2 := (q_kB s c n)) rfl rfl ((dzt_B336_64 z L xs s c n a1 r2 er2).le (Nat.le_of_ble_eq_true rfl)) ?_
  show q_RP _ _ _ (5, [(0, .ref 64), (1, .int a1)], [.int r2], (q_kB s c n)) _ _
  refine q_RP_as fun i1 => ?_
  exact q_RP_ret rfl (if_pos (of_decide_eq_true i1)) rfl
end
section
-- 49.xa
def dz_X184_98 (s : q_S) (a1 : Int32) (a2 : Int32) (a3 : Int32) (a4 : Int32) : q_S :=
  cond (decide (s.2.1 34 7 = 0)) (s) (cond (decide (s.2.1 34 5 < 0)) (s) (cond (decide (s.2.1 34 5 < 512)) ((q_sI (q_sA (q_sA (q_sA (q_sA s 67 (upd (s.1 67) ((s.2.1 34 5).toNatClampNeg) a1)) 68 (upd (s.1 68) ((s.2.1 34 5).toNatClampNeg) a2)) 69 (upd (s.1 69) ((s.2.1 34 5).toNatClampNeg) a3)) 70 (upd (s.1 70) ((s.2.1 34 5).toNatClampNeg) a4)) 34 5 ((s.2.1 34 5) + 1))) (s)))
set_option maxHeartbeats 4000000 in
theorem dzt_X184_98 (z L : Nat) (xs : Nat → Int32) (s : q_S) (c n : Nat) (a1 : Int32) (a2 : Int32) (a3 : Int32) (a4 : Int32) : q_Ca (q_TBs z L xs) 1 184 [.ref 98, .int a1, .int a2, .int a3, .int a4] (q_kX s c n) ((q_oSX c n) (dz_X184_98 s a1 a2 a3 a4)) := by
  refine q_CaT_of (φ := (q_oSX c n)) (Nat.le_of_ble_eq_true rfl) ?_
  unfold dz_X184_98
  refine q_RT_seg (g2 := (4, [(0, .ref 98), (1, .int a1), (2, .int a2), (3, .int a3), (4, .int a4)], [.int (s.2.1 34 7)], (q_kX s c n))) 2 (fun _ _ => rfl) ?_
  cases h1 : decide (s.2.1 34 7 = 0) with
  | true =>
    refine q_RT_cT ?_
    refine q_RT_rsT (g2 := (75, [(0, .ref 98), (1, .int a1), (2, .int a2), (3, .int a3), (4, .int a4)], [], (q_kX s c n))) rfl rfl h1 ?_
    exact q_RT_ret rfl rfl rfl
  | false =>
    refine q_RT_cF ?_
    refine q_RT_rsF (g2 := (7, [(0, .ref 98), (1, .int a1), (2, .int a2), (3, .int a3), (4, .int a4)], [], (q_kX s c n))) rfl rfl h1 ?_
    refine q_RT_seg (g2 := (11, [(0, .ref 98), (1, .int a1), (2, .int a2), (3, .int a3), (4, .int a4)], [.int (s.2.1 34 5)], (q_kX s c n))) 2 (fun _ _ => rfl) ?_
    cases h2 : decide (s.2.1 34 5 < 0) with
    | true =>
      refine q_RT_cT ?_
      refine q_RT_rsT (g2 := (75, [(0, .ref 98), (1, .int a1), (2, .int a2), (3, .int a3), (4, .int a4)], [], (q_kX s c n))) rfl rfl h2 ?_
      exact q_RT_ret rfl rfl rfl
    | false =>
      refine q_RT_cF ?_
      refine q_RT_rsF (g2 := (14, [(0, .ref 98), (1, .int a1), (2, .int a2), (3, .int a3), (4, .int a4)], [], (q_kX s c n))) rfl rfl h2 ?_
      refine q_RT_seg (g2 := (18, [(0, .ref 98), (1, .int a1), (2, .int a2), (3, .int a3), (4, .int a4)], [.int (s.2.1 34 5)], (q_kX s c n))) 2 (fun _ _ => rfl) ?_
      refine q_RT_seg (g2 := (21, [(0, .ref 98), (1, .int a1), (2, .int a2), (3, .int a3), (4, .int a4)], [.int 512, .int (s.2.1 34 5)], (q_kX s c n))) 1 (fun _ _ => rfl) ?_
      cases h3 : decide (s.2.1 34 5 < 512) with
      | true =>
        refine q_RT_cT ?_
        refine q_RT_rsF (g2 := (24, [(0, .ref 98), (1, .int a1), (2, .int a2), (3, .int a3), (4, .int a4)], [], (q_kX s c n))) rfl rfl (q_d_geT h3) ?_
        refine q_RT_seg (g2 := (32, [(0, .ref 98), (1, .int a1), (2, .int a2), (3, .int a3), (4, .int a4)], [.int (s.2.1 34 5), .ref 131], (q_kX s c n))) 4 (fun _ _ => rfl) ?_
        refine q_RT_seg (g2 := (33, [(0, .ref 98), (1, .int a1), (2, .int a2), (3, .int a3), (4, .int a4)], [.int a1, .int (s.2.1 34 5), .ref 131], (q_kX s c n))) 1 (fun _ _ => rfl) ?_
        refine q_RT_rsT (g2 := (34, [(0, .ref 98), (1, .int a1), (2, .int a2), (3, .int a3), (4, .int a4)], [], (q_kX (q_sA s 67 (upd (s.1 67) ((s.2.1 34 5).toNatClampNeg) a1)) c n))) rfl q_wX67 (q_in_bd (x := s.2.1 34 5) (n := 512) (U := 511) (L := 0) (q_lo1 h2) (q_hi1 h3)) ?_
        refine q_RT_seg (g2 := (42, [(0, .ref 98), (1, .int a1), (2, .int a2), (3, .int a3), (4, .int a4)], [.int (s.2.1 34 5), .ref 132], (q_kX (q_sA s 67 (upd (s.1 67) ((s.2.1 34 5).toNatClampNeg) a1)) c n))) 4 (fun _ _ => rfl) ?_
        refine q_RT_seg (g2 := (43, [(0, .ref 98), (1, .int a1), (2, .int a2), (3, .int a3), (4, .int a4)], [.int a2, .int (s.2.1 34 5), .ref 132], (q_kX (q_sA s 67 (upd (s.1 67) ((s.2.1 34 5).toNatClampNeg) a1)) c n))) 1 (fun _ _ => rfl) ?_
        refine q_RT_rsT (g2 := (44, [(0, .ref 98), (1, .int a1), (2, .int a2), (3, .int a3), (4, .int a4)], [], (q_kX (q_sA (q_sA s 67 (upd (s.1 67) ((s.2.1 34 5).toNatClampNeg) a1)) 68 (upd (s.1 68) ((s.2.1 34 5).toNatClampNeg) a2)) c n))) rfl q_wX68 (q_in_bd (x := s.2.1 34 5) (n := 512) (U := 511) (L := 0) (q_lo1 h2) (q_hi1 h3)) ?_
        refine q_RT_seg (g2 := (52, [(0, .ref 98), (1, .int a1), (2, .int a2), (3, .int a3), (4, .int a4)], [.int (s.2.1 34 5), .ref 133], (q_kX (q_sA (q_sA s 67 (upd (s.1 67) ((s.2.1 34 5).toNatClampNeg) a1)) 68 (upd (s.1 68) ((s.2.1 34 5).toNatClampNeg) a2)) c n))) 4 (fun _ _ => rfl) ?_
        refine q_RT_seg (g2 := (53, [(0, .ref 98), (1, .int a1), (2, .int a2), (3, .int a3), (4, .int a4)], [.int a3, .int (s.2.1 34 5), .ref 133], (q_kX (q_sA (q_sA s 67 (upd (s.1 67) ((s.2.1 34 5).toNatClampNeg) a1)) 68 (upd (s.1 68) ((s.2.1 34 5).toNatClampNeg) a2)) c n))) 1 (fun _ _ => rfl) ?_
        refine q_RT_rsT (g2 := (54, [(0, .ref 98), (1, .int a1), (2, .int a2), (3, .int a3), (4, .int a4)], [], (q_kX (q_sA (q_sA (q_sA s 67 (upd (s.1 67) ((s.2.1 34 5).toNatClampNeg) a1)) 68 (upd (s.1 68) ((s.2.1 34 5).toNatClampNeg) a2)) 69 (upd (s.1 69) ((s.2.1 34 5).toNatClampNeg) a3)) c n))) rfl q_wX69 (q_in_bd (x := s.2.1 34 5) (n := 512) (U := 511) (L := 0) (q_lo1 h2) (q_hi1 h3)) ?_
        refine q_RT_seg (g2 := (62, [(0, .ref 98), (1, .int a1), (2, .int a2), (3, .int a3), (4, .int a4)], [.int (s.2.1 34 5), .ref 134], (q_kX (q_sA (q_sA (q_sA s 67 (upd (s.1 67) ((s.2.1 34 5).toNatClampNeg) a1)) 68 (upd (s.1 68) ((s.2.1 34 5).toNatClampNeg) a2)) 69 (upd (s.1 69) ((s.2.1 34 5).toNatClampNeg) a3)) c n))) 4 (fun _ _ => rfl) ?_
        refine q_RT_seg (g2 := (64, [(0, .ref 98), (1, .int a1), (2, .int a2), (3, .int a3), (4, .int a4)], [.int a4, .int (s.2.1 34 5), .ref 134], (q_kX (q_sA (q_sA (q_sA s 67 (upd (s.1 67) ((s.2.1 34 5).toNatClampNeg) a1)) 68 (upd (s.1 68) ((s.2.1 34 5).toNatClampNeg) a2)) 69 (upd (s.1 69) ((s.2.1 34 5).toNatClampNeg) a3)) c n))) 1 (fun _ _ => rfl) ?_
        refine q_RT_rsT (g2 := (65, [(0, .ref 98), (1, .int a1), (2, .int a2), (3, .int a3), (4, .int a4)], [], (q_kX (q_sA (q_sA (q_sA (q_sA s 67 (upd (s.1 67) ((s.2.1 34 5).toNatClampNeg) a1)) 68 (upd (s.1 68) ((s.2.1 34 5).toNatClampNeg) a2)) 69 (upd (s.1 69) ((s.2.1 34 5).toNatClampNeg) a3)) 70 (upd (s.1 70) ((s.2.1 34 5).toNatClampNeg) a4)) c n))) rfl q_wX70 (q_in_bd (x := s.2.1 34 5) (n := 512) (U := 511) (L := 0) (q_lo1 h2) (q_hi1 h3)) ?_
        refine q_RT_seg (g2 := (70, [(0, .ref 98), (1, .int a1), (2, .int a2), (3, .int a3), (4, .int a4)], [.int (s.2.1 34 5), .ref 98], (q_kX (q_sA (q_sA (q_sA (q_sA s 67 (upd (s.1 67) ((s.2.1 34 5).toNatClampNeg) a1)) 68 (upd (s.1 68) ((s.2.1 34 5).toNatClampNeg) a2)) 69 (upd (s.1 69) ((s.2.1 34 5).toNatClampNeg) a3)) 70 (upd (s.1 70) ((s.2.1 34 5).toNatClampNeg) a4)) c n))) 3 (fun _ _ => rfl) ?_
        refine q_RT_seg (g2 := (72, [(0, .ref 98), (1, .int a1), (2, .int a2), (3, .int a3), (4, .int a4)], [.int ((s.2.1 34 5) + 1), .ref 98], (q_kX (q_sA (q_sA (q_sA (q_sA s 67 (upd (s.1 67) ((s.2.1 34 5).toNatClampNeg) a1)) 68 (upd (s.1 68) ((s.2.1 34 5).toNatClampNeg) a2)) 69 (upd (s.1 69) ((s.2.1 34 5).toNatClampNeg) a3)) 70 (upd (s.1 70) ((s.2.1 34 5).toNatClampNeg) a4)) c n))) 2 (fun _ _ => rfl) ?_
        refine q_RT_st1 (g2 := (75, [(0, .ref 98), (1, .int a1), (2, .int a2), (3, .int a3), (4, .int a4)], [], (q_kX (q_sI (q_sA (q_sA (q_sA (q_sA s 67 (upd (s.1 67) ((s.2.1 34 5).toNatClampNeg) a1)) 68 (upd (s.1 68) ((s.2.1 34 5).toNatClampNeg) a2)) 69 (upd (s.1 69) ((s.2.1 34 5).toNatClampNeg) a3)) 70 (upd (s.1 70) ((s.2.1 34 5).toNatClampNeg) a4)) 34 5 ((s.2.1 34 5) + 1)) c n))) rfl q_pX34_5 ?_
        exact q_RT_ret rfl rfl rfl
      | false =>
        refine q_RT_cF ?_
        refine q_RT_rsT (g2 := (75, [(0, .ref 98), (1, .int a1), (2, .int a2), (3, .int a3), (4, .int a4)], [], (q_kX s c n))) rfl rfl (q_d_geF h3) ?_
        exact q_RT_ret rfl rfl rfl
def dz_X0_64_236 (s : q_S) (a1 : Int32) (a2 : Int32) : Option (q_S × Int32 × Nat) :=
  cond (decide (a1 < 0)) (some (s, 1, 1)) (cond (decide (a1 < 4096)) (cond (decide (a2 < 0)) (some (s, 2, 1)) (cond (decide (255 < a2)) (some (s, 2, 1)) (q_let (dz_X184_98 s 0 a1 a2 0) fun r2 => (dz_N79_64 (q_vw 32 1 73 r2) 0 a1 a2 0).bind fun r3 => some ((q_sL (q_pt 32 3 1 73 r2 r3.1) 172 (vp_updL ((q_pt 32 3 1 73 r2 r3.1).2.2 172) 0 r3.2.toInt64)), 0, 0)))) (some (s, 1, 1)))
set_option maxHeartbeats 4000000 in
theorem dzt_X0_64_236 (z L : Nat) (xs : Nat → Int32) (s : q_S) (c n : Nat) (a1 : Int32) (a2 : Int32) (x : q_S × Int32 × Nat) (h : dz_X0_64_236 s a1 a2 = some x) : q_Ca (q_TBs z L xs) 10 0 [.ref 64, .int a1, .int a2, .ref 236] (q_kX s c n) ((q_oEX c n) x) := by
  refine q_CaP_of (φ := (q_oEX c n)) (Nat.le_of_ble_eq_true rfl) ?_ h
  clear h
  unfold dz_X0_64_236
  refine q_RP_seg (g2 := (5, [(0, .ref 64), (1, .int a1), (2, .int a2), (3, .ref 236)], [.int a2, .int a1, .ref 64, .int 0, .ref 236], (q_kX s c n))) 5 (fun _ _ => rfl) ?_
  cases h5 : decide (a1 < 0) with
  | true =>
    refine q_RP_cT ?_
    refine q_RP_callH (E := "java/lang/IndexOutOfBoundsException") (tg := 15) (i := 4) (h2 := (q_kX s (c + 1) (n + 6))) rfl rfl ?_ rfl ?_
    · refine q_Ca_of (Nat.le_of_ble_eq_true rfl) ?_
      refine q_Ru_seg (g2 := (1, [(0, .ref 64), (1, .int a1), (2, .int a2)], [.int a1], (q_kX s c n))) 1 (fun _ _ => rfl) ?_
      refine q_Ru_callX (E := "java/lang/IndexOutOfBoundsException") (h2 := (q_kX s (c + 1) (n + 6))) rfl rfl ?_
      refine q_Ca_of (Nat.le_of_ble_eq_true rfl) ?_
      refine q_Ru_seg (g2 := (4, [(0, .int a1)], [.int 4096, .int a1], (q_kX s c n))) 2 (fun _ _ => rfl) ?_
      refine q_Ru_callX (E := "java/lang/IndexOutOfBoundsException") (h2 := (q_kX s (c + 1) (n + 6))) rfl rfl ?_
      refine q_Ca_of (Nat.le_of_ble_eq_true rfl) ?_
      refine q_Ru_seg (g2 := (1, [(0, .int a1), (1, .int 4096)], [.int a1], (q_kX s c n))) 1 (fun _ _ => rfl) ?_
      refine q_Ru_rsT (g2 := (9, [(0, .int a1), (1, .int 4096)], [], (q_kX s c n))) rfl rfl h5 ?_
      exact q_Ru_thr rfl rfl
    show q_RP _ _ _ (15, [(0, .ref 64), (1, .int a1), (2, .int a2), (3, .ref 236)], [], (q_kX s (c + 1) (n + 6))) _ _
    refine q_RP_seg (g2 := (16, [(0, .ref 64), (1, .int a1), (2, .int a2), (3, .ref 236)], [.int 1], (q_kX s (c + 1) (n + 6)))) 1 (fun _ _ => rfl) ?_
    exact q_RP_ret rfl rfl rfl
  | false =>
    refine q_RP_cF ?_
    cases h6 : decide (a1 < 4096) with
    | true =>
      refine q_RP_cT ?_
      cases h7 : decide (a2 < 0) with
      | true =>
        refine q_RP_cT ?_
        refine q_RP_callH (E := "java/lang/IllegalArgumentException") (tg := 19) (i := 4) (h2 := (q_kX s (c + 1) (n + 6))) rfl rfl ?_ rfl ?_
        · refine q_Ca_of (Nat.le_of_ble_eq_true rfl) ?_
          refine q_Ru_seg (g2 := (1, [(0, .ref 64), (1, .int a1), (2, .int a2)], [.int a1], (q_kX s c n))) 1 (fun _ _ => rfl) ?_
          refine q_Ru_call (v := none) (h2 := (q_kX s c n)) rfl rfl ?_ ?_
          · refine q_Ca_of (Nat.le_of_ble_eq_true rfl) ?_
            refine q_Ru_seg (g2 := (4, [(0, .int a1)], [.int 4096, .int a1], (q_kX s c n))) 2 (fun _ _ => rfl) ?_
            refine q_Ru_call (v := none) (h2 := (q_kX s c n)) rfl rfl ?_ ?_
            · refine q_Ca_of (Nat.le_of_ble_eq_true rfl) ?_
              refine q_Ru_seg (g2 := (1, [(0, .int a1), (1, .int 4096)], [.int a1], (q_kX s c n))) 1 (fun _ _ => rfl) ?_
              refine q_Ru_rsF (g2 := (4, [(0, .int a1), (1, .int 4096)], [], (q_kX s c n))) rfl rfl h5 ?_
              refine q_Ru_seg (g2 := (6, [(0, .int a1), (1, .int 4096)], [.int 4096, .int a1], (q_kX s c n))) 2 (fun _ _ => rfl) ?_
              refine q_Ru_rsT (g2 := (19, [(0, .int a1), (1, .int 4096)], [], (q_kX s c n))) rfl rfl h6 ?_
              exact q_Ru_ret rfl rfl
            show q_Ru _ _ _ (7, [(0, .int a1)], [], (q_kX s c n)) _
            exact q_Ru_ret rfl rfl
          show q_Ru _ _ _ (4, [(0, .ref 64), (1, .int a1), (2, .int a2)], [], (q_kX s c n)) _
          refine q_Ru_seg (g2 := (5, [(0, .ref 64), (1, .int a1), (2, .int a2)], [.int a2], (q_kX s c n))) 1 (fun _ _ => rfl) ?_
          refine q_Ru_callX (E := "java/lang/IllegalArgumentException") (h2 := (q_kX s (c + 1) (n + 6))) rfl rfl ?_
          refine q_Ca_of (Nat.le_of_ble_eq_true rfl) ?_
          refine q_Ru_seg (g2 := (5, [(0, .int a2)], [.int 255, .int 0, .int a2], (q_kX s c n))) 3 (fun _ _ => rfl) ?_
          refine q_Ru_callX (E := "java/lang/IllegalArgumentException") (h2 := (q_kX s (c + 1) (n + 6))) rfl rfl ?_
          refine q_Ca_of (Nat.le_of_ble_eq_true rfl) ?_
          refine q_Ru_seg (g2 := (2, [(0, .int a2), (1, .int 0), (2, .int 255)], [.int 0, .int a2], (q_kX s c n))) 2 (fun _ _ => rfl) ?_
          refine q_Ru_rsT (g2 := (10, [(0, .int a2), (1, .int 0), (2, .int 255)], [], (q_kX s c n))) rfl rfl h7 ?_
          exact q_Ru_thr rfl rfl
        show q_RP _ _ _ (19, [(0, .ref 64), (1, .int a1), (2, .int a2), (3, .ref 236)], [], (q_kX s (c + 1) (n + 6))) _ _
        refine q_RP_seg (g2 := (20, [(0, .ref 64), (1, .int a1), (2, .int a2), (3, .ref 236)], [.int 2], (q_kX s (c + 1) (n + 6)))) 1 (fun _ _ => rfl) ?_
        exact q_RP_ret rfl rfl rfl
      | false =>
        refine q_RP_cF ?_
        cases h8 : decide (255 < a2) with
        | true =>
          refine q_RP_cT ?_
          refine q_RP_callH (E := "java/lang/IllegalArgumentException") (tg := 19) (i := 4) (h2 := (q_kX s (c + 1) (n + 6))) rfl rfl ?_ rfl ?_
          · refine q_Ca_of (Nat.le_of_ble_eq_true rfl) ?_
            refine q_Ru_seg (g2 := (1, [(0, .ref 64), (1, .int a1), (2, .int a2)], [.int a1], (q_kX s c n))) 1 (fun _ _ => rfl) ?_
            refine q_Ru_call (v := none) (h2 := (q_kX s c n)) rfl rfl ?_ ?_
            · refine q_Ca_of (Nat.le_of_ble_eq_true rfl) ?_
              refine q_Ru_seg (g2 := (4, [(0, .int a1)], [.int 4096, .int a1], (q_kX s c n))) 2 (fun _ _ => rfl) ?_
              refine q_Ru_call (v := none) (h2 := (q_kX s c n)) rfl rfl ?_ ?_
              · refine q_Ca_of (Nat.le_of_ble_eq_true rfl) ?_
                refine q_Ru_seg (g2 := (1, [(0, .int a1), (1, .int 4096)], [.int a1], (q_kX s c n))) 1 (fun _ _ => rfl) ?_
                refine q_Ru_rsF (g2 := (4, [(0, .int a1), (1, .int 4096)], [], (q_kX s c n))) rfl rfl h5 ?_
                refine q_Ru_seg (g2 := (6, [(0, .int a1), (1, .int 4096)], [.int 4096, .int a1], (q_kX s c n))) 2 (fun _ _ => rfl) ?_
                refine q_Ru_rsT (g2 := (19, [(0, .int a1), (1, .int 4096)], [], (q_kX s c n))) rfl rfl h6 ?_
                exact q_Ru_ret rfl rfl
              show q_Ru _ _ _ (7, [(0, .int a1)], [], (q_kX s c n)) _
              exact q_Ru_ret rfl rfl
            show q_Ru _ _ _ (4, [(0, .ref 64), (1, .int a1), (2, .int a2)], [], (q_kX s c n)) _
            refine q_Ru_seg (g2 := (5, [(0, .ref 64), (1, .int a1), (2, .int a2)], [.int a2], (q_kX s c n))) 1 (fun _ _ => rfl) ?_
            refine q_Ru_callX (E := "java/lang/IllegalArgumentException") (h2 := (q_kX s (c + 1) (n + 6))) rfl rfl ?_
            refine q_Ca_of (Nat.le_of_ble_eq_true rfl) ?_
            refine q_Ru_seg (g2 := (5, [(0, .int a2)], [.int 255, .int 0, .int a2], (q_kX s c n))) 3 (fun _ _ => rfl) ?_
            refine q_Ru_callX (E := "java/lang/IllegalArgumentException") (h2 := (q_kX s (c + 1) (n + 6))) rfl rfl ?_
            refine q_Ca_of (Nat.le_of_ble_eq_true rfl) ?_
            refine q_Ru_seg (g2 := (2, [(0, .int a2), (1, .int 0), (2, .int 255)], [.int 0, .int a2], (q_kX s c n))) 2 (fun _ _ => rfl) ?_
            refine q_Ru_rsF (g2 := (5, [(0, .int a2), (1, .int 0), (2, .int 255)], [], (q_kX s c n))) rfl rfl h7 ?_
            refine q_Ru_seg (g2 := (7, [(0, .int a2), (1, .int 0), (2, .int 255)], [.int 255, .int a2], (q_kX s c n))) 2 (fun _ _ => rfl) ?_
            refine q_Ru_rsF (g2 := (10, [(0, .int a2), (1, .int 0), (2, .int 255)], [], (q_kX s c n))) rfl rfl (q_d_geT h8) ?_
            exact q_Ru_thr rfl rfl
          show q_RP _ _ _ (19, [(0, .ref 64), (1, .int a1), (2, .int a2), (3, .ref 236)], [], (q_kX s (c + 1) (n + 6))) _ _
          refine q_RP_seg (g2 := (20, [(0, .ref 64), (1, .int a1), (2, .int a2), (3, .ref 236)], [.int 2], (q_kX s (c + 1) (n + 6)))) 1 (fun _ _ => rfl) ?_
          exact q_RP_ret rfl rfl rfl
        | false =>
          refine q_RP_cF ?_
          generalize er2 : dz_X184_98 s 0 a1 a2 0 = r2
          refine q_RP_let ?_
          refine q_RP_bd fun r3 er3 => ?_
          refine q_RP_call (v := (some (.int r3.2))) (h2 := (q_kX (q_pt 32 3 1 73 r2 r3.1) c n)) rfl rfl ?_ ?_
          · refine q_Ca_of (Nat.le_of_ble_eq_true rfl) ?_
            refine q_Ru_seg (g2 := (1, [(0, .ref 64), (1, .int a1), (2, .int a2)], [.int a1], (q_kX s c n))) 1 (fun _ _ => rfl) ?_
            refine q_Ru_call (v := none) (h2 := (q_kX s c n)) rfl rfl ?_ ?_
            · refine q_Ca_of (Nat.le_of_ble_eq_true rfl) ?_
              refine q_Ru_seg (g2 := (4, [(0, .int a1)], [.int 4096, .int a1], (q_kX s c n))) 2 (fun _ _ => rfl) ?_
              refine q_Ru_call (v := none) (h2 := (q_kX s c n)) rfl rfl ?_ ?_
              · refine q_Ca_of (Nat.le_of_ble_eq_true rfl) ?_
                refine q_Ru_seg (g2 := (1, [(0, .int a1), (1, .int 4096)], [.int a1], (q_kX s c n))) 1 (fun _ _ => rfl) ?_
                refine q_Ru_rsF (g2 := (4, [(0, .int a1), (1, .int 4096)], [], (q_kX s c n))) rfl rfl h5 ?_
                refine q_Ru_seg (g2 := (6, [(0, .int a1), (1, .int 4096)], [.int 4096, .int a1], (q_kX s c n))) 2 (fun _ _ => rfl) ?_
                refine q_Ru_rsT (g2 := (19, [(0, .int a1), (1, .int 4096)], [], (q_kX s c n))) rfl rfl h6 ?_
                exact q_Ru_ret rfl rfl
              show q_Ru _ _ _ (7, [(0, .int a1)], [], (q_kX s c n)) _
              exact q_Ru_ret rfl rfl
            show q_Ru _ _ _ (4, [(0, .ref 64), (1, .int a1), (2, .int a2)], [], (q_kX s c n)) _
            refine q_Ru_seg (g2 := (5, [(0, .ref 64), (1, .int a1), (2, .int a2)], [.int a2], (q_kX s c n))) 1 (fun _ _ => rfl) ?_
            refine q_Ru_call (v := none) (h2 := (q_kX s c n)) rfl rfl ?_ ?_
            · refine q_Ca_of (Nat.le_of_ble_eq_true rfl) ?_
              refine q_Ru_seg (g2 := (5, [(0, .int a2)], [.int 255, .int 0, .int a2], (q_kX s c n))) 3 (fun _ _ => rfl) ?_
              refine q_Ru_call (v := none) (h2 := (q_kX s c n)) rfl rfl ?_ ?_
              · refine q_Ca_of (Nat.le_of_ble_eq_true rfl) ?_
                refine q_Ru_seg (g2 := (2, [(0, .int a2), (1, .int 0), (2, .int 255)], [.int 0, .int a2], (q_kX s c n))) 2 (fun _ _ => rfl) ?_
                refine q_Ru_rsF (g2 := (5, [(0, .int a2), (1, .int 0), (2, .int 255)], [], (q_kX s c n))) rfl rfl h7 ?_
                refine q_Ru_seg (g2 := (7, [(0, .int a2), (1, .int 0), (2, .int 255)], [.int 255, .int a2], (q_kX s c n))) 2 (fun _ _ => rfl) ?_
                refine q_Ru_rsT (g2 := (20, [(0, .int a2), (1, .int 0), (2, .int 255)], [], (q_kX s c n))) rfl rfl (q_d_geF h8) ?_
                exact q_Ru_ret rfl rfl
              show q_Ru _ _ _ (8, [(0, .int a2)], [], (q_kX s c n)) _
              exact q_Ru_ret rfl rfl
            show q_Ru _ _ _ (8, [(0, .ref 64), (1, .int a1), (2, .int a2)], [], (q_kX s c n)) _
            refine q_Ru_seg (g2 := (16, [(0, .ref 64), (1, .int a1), (2, .int a2)], [.int 0, .int a2, .int a1, .int 0, .ref 98], (q_kX s c n))) 6 (fun _ _ => rfl) ?_
            refine q_Ru_call (v := none) (h2 := (q_kX r2 c n)) rfl rfl ?_ ?_
            · exact (q_cE (φ := (q_oSX c n)) er2 (dzt_X184_98 z L xs s c n 0 a1 a2 0)).le (Nat.le_of_ble_eq_true rfl)
            show q_Ru _ _ _ (19, [(0, .ref 64), (1, .int a1), (2, .int a2)], [], (q_kX r2 c n)) _
            refine q_Ru_seg (g2 := (27, [(0, .ref 64), (1, .int a1), (2, .int a2)], [.int 0, .int a2, .int a1, .int 0, .ref 65], (q_kX r2 c n))) 6 (fun _ _ => rfl) ?_
            refine q_Ru_call (v := (some (.int r3.2))) (h2 := (q_kX (q_pt 32 3 1 73 r2 r3.1) c n)) rfl rfl ?_ ?_
            · exact (q_emNX_1 rfl (fun _ => rfl) ((dzt_N79_64 (q_vw 32 1 73 r2) c n 0 a1 a2 0 r3 er3).tb q_TB0_le)).le (Nat.le_of_ble_eq_true rfl)
            show q_Ru _ _ _ (30, [(0, .ref 64), (1, .int a1), (2, .int a2)], [.int r3.2], (q_kX (q_pt 32 3 1 73 r2 r3.1) c n)) _
            exact q_Ru_ret rfl rfl
          show q_RP _ _ _ (8, [(0, .ref 64), (1, .int a1), (2, .int a2), (3, .ref 236)], [.int r3.2, .int 0, .ref 236], (q_kX (q_pt 32 3 1 73 r2 r3.1) c n)) _ _
          refine q_RP_seg (g2 := (9, [(0, .ref 64), (1, .int a1), (2, .int a2), (3, .ref 236)], [.long r3.2.toInt64, .int 0, .ref 236], (q_kX (q_pt 32 3 1 73 r2 r3.1) c n))) 1 (fun _ _ => rfl) ?_
          refine q_RP_rsT (g2 := (10, [(0, .ref 64), (1, .int a1), (2, .int a2), (3, .ref 236)], [], (q_kX (q_sL (q_pt 32 3 1 73 r2 r3.1) 172 (vp_updL ((q_pt 32 3 1 73 r2 r3.1).2.2 172) 0 r3.2.toInt64)) c n))) rfl q_wX172 rfl ?_
          refine q_RP_seg (g2 := (22, [(0, .ref 64), (1, .int a1), (2, .int a2), (3, .ref 236)], [.int 0], (q_kX (q_sL (q_pt 32 3 1 73 r2 r3.1) 172 (vp_updL ((q_pt 32 3 1 73 r2 r3.1).2.2 172) 0 r3.2.toInt64)) c n))) 2 (fun _ _ => rfl) ?_
          exact q_RP_ret rfl rfl rfl
    | false =>
      refine q_RP_cF ?_
      refine q_RP_callH (E := "java/lang/IndexOutOfBoundsException") (tg := 15) (i := 4) (h2 := (q_kX s (c + 1) (n + 6))) rfl rfl ?_ rfl ?_
      · refine q_Ca_of (Nat.le_of_ble_eq_true rfl) ?_
        refine q_Ru_seg (g2 := (1, [(0, .ref 64), (1, .int a1), (2, .int a2)], [.int a1], (q_kX s c n))) 1 (fun _ _ => rfl) ?_
        refine q_Ru_callX (E := "java/lang/IndexOutOfBoundsException") (h2 := (q_kX s (c + 1) (n + 6))) rfl rfl ?_
        refine q_Ca_of (Nat.le_of_ble_eq_true rfl) ?_
        refine q_Ru_seg (g2 := (4, [(0, .int a1)], [.int 4096, .int a1], (q_kX s c n))) 2 (fun _ _ => rfl) ?_
        refine q_Ru_callX (E := "java/lang/IndexOutOfBoundsException") (h2 := (q_kX s (c + 1) (n + 6))) rfl rfl ?_
        refine q_Ca_of (Nat.le_of_ble_eq_true rfl) ?_
        refine q_Ru_seg (g2 := (1, [(0, .int a1), (1, .int 4096)], [.int a1], (q_kX s c n))) 1 (fun _ _ => rfl) ?_
        refine q_Ru_rsF (g2 := (4, [(0, .int a1), (1, .int 4096)], [], (q_kX s c n))) rfl rfl h5 ?_
        refine q_Ru_seg (g2 := (6, [(0, .int a1), (1, .int 4096)], [.int 4096, .int a1], (q_kX s c n))) 2 (fun _ _ => rfl) ?_
        refine q_Ru_rsF (g2 := (9, [(0, .int a1), (1, .int 4096)], [], (q_kX s c n))) rfl rfl h6 ?_
        exact q_Ru_thr rfl rfl
      show q_RP _ _ _ (15, [(0, .ref 64), (1, .int a1), (2, .int a2), (3, .ref 236)], [], (q_kX s (c + 1) (n + 6))) _ _
      refine q_RP_seg (g2 := (16, [(0, .ref 64), (1, .int a1), (2, .int a2), (3, .ref 236)], [.int 1], (q_kX s (c + 1) (n + 6)))) 1 (fun _ _ => rfl) ?_
      exact q_RP_ret rfl rfl rfl
def dz_X1_64_236 (s : q_S) (a1 : Int32) (a2 : Int32) : Option (q_S × Int32 × Nat) :=
  cond (decide (a1 < 0)) (some (s, 1, 1)) (cond (decide (a1 < 512)) (cond (decide (a2 < 0)) (some (s, 2, 1)) (cond (decide (255 < a2)) (some (s, 2, 1)) (q_let (dz_X184_98 s 1 a1 a2 0) fun r2 => (dz_N79_64 (q_vw 32 1 73 r2) 1 a1 a2 0).bind fun r3 => some ((q_sL (q_pt 32 3 1 73 r2 r3.1) 172 (vp_updL ((q_pt 32 3 1 73 r2 r3.1).2.2 172) 0 r3.2.toInt64)), 0, 0)))) (some (s, 1, 1)))
set_option maxHeartbeats 4000000 in
theorem dzt_X1_64_236 (z L : Nat) (xs : Nat → Int32) (s : q_S) (c n : Nat) (a1 : Int32) (a2 : Int32) (x : q_S × Int32 × Nat) (h : dz_X1_64_236 s a1 a2 = some x) : q_Ca (q_TBs z L xs) 10 1 [.ref 64, .int a1, .int a2, .ref 236] (q_kX s c n) ((q_oEX c n) x) := by
  refine q_CaP_of (φ := (q_oEX c n)) (Nat.le_of_ble_eq_true rfl) ?_ h
  clear h
  unfold dz_X1_64_236
  refine q_RP_seg (g2 := (5, [(0, .ref 64), (1, .int a1), (2, .int a2), (3, .ref 236)], [.int a2, .int a1, .ref 64, .int 0, .ref 236], (q_kX s c n))) 5 (fun _ _ => rfl) ?_
  cases h5 : decide (a1 < 0) with
  | true =>
    refine q_RP_cT ?_
    refine q_RP_callH (E := "java/lang/IndexOutOfBoundsException") (tg := 15) (i := 4) (h2 := (q_kX s (c + 1) (n + 6))) rfl rfl ?_ rfl ?_
    · refine q_Ca_of (Nat.le_of_ble_eq_true rfl) ?_
      refine q_Ru_seg (g2 := (4, [(0, .ref 64), (1, .int a1), (2, .int a2)], [.int 512, .int a1], (q_kX s c n))) 2 (fun _ _ => rfl) ?_
      refine q_Ru_callX (E := "java/lang/IndexOutOfBoundsException") (h2 := (q_kX s (c + 1) (n + 6))) rfl rfl ?_
      refine q_Ca_of (Nat.le_of_ble_eq_true rfl) ?_
      refine q_Ru_seg (g2 := (1, [(0, .int a1), (1, .int 512)], [.int a1], (q_kX s c n))) 1 (fun _ _ => rfl) ?_
      refine q_Ru_rsT (g2 := (9, [(0, .int a1), (1, .int 512)], [], (q_kX s c n))) rfl rfl h5 ?_
      exact q_Ru_thr rfl rfl
    show q_RP _ _ _ (15, [(0, .ref 64), (1, .int a1), (2, .int a2), (3, .ref 236)], [], (q_kX s (c + 1) (n + 6))) _ _
    refine q_RP_seg (g2 := (16, [(0, .ref 64), (1, .int a1), (2, .int a2), (3, .ref 236)], [.int 1], (q_kX s (c + 1) (n + 6)))) 1 (fun _ _ => rfl) ?_
    exact q_RP_ret rfl rfl rfl
  | false =>
    refine q_RP_cF ?_
    cases h6 : decide (a1 < 512) with
    | true =>
      refine q_RP_cT ?_
      cases h7 : decide (a2 < 0) with
      | true =>
        refine q_RP_cT ?_
        refine q_RP_callH (E := "java/lang/IllegalArgumentException") (tg := 19) (i := 4) (h2 := (q_kX s (c + 1) (n + 6))) rfl rfl ?_ rfl ?_
        · refine q_Ca_of (Nat.le_of_ble_eq_true rfl) ?_
          refine q_Ru_seg (g2 := (4, [(0, .ref 64), (1, .int a1), (2, .int a2)], [.int 512, .int a1], (q_kX s c n))) 2 (fun _ _ => rfl) ?_
          refine q_Ru_call (v := none) (h2 := (q_kX s c n)) rfl rfl ?_ ?_
          · refine q_Ca_of (Nat.le_of_ble_eq_true rfl) ?_
            refine q_Ru_seg (g2 := (1, [(0, .int a1), (1, .int 512)], [.int a1], (q_kX s c n))) 1 (fun _ _ => rfl) ?_
            refine q_Ru_rsF (g2 := (4, [(0, .int a1), (1, .int 512)], [], (q_kX s c n))) rfl rfl h5 ?_
            refine q_Ru_seg (g2 := (6, [(0, .int a1), (1, .int 512)], [.int 512, .int a1], (q_kX s c n))) 2 (fun _ _ => rfl) ?_
            refine q_Ru_rsT (g2 := (19, [(0, .int a1), (1, .int 512)], [], (q_kX s c n))) rfl rfl h6 ?_
            exact q_Ru_ret rfl rfl
          show q_Ru _ _ _ (7, [(0, .ref 64), (1, .int a1), (2, .int a2)], [], (q_kX s c n)) _
          refine q_Ru_seg (g2 := (8, [(0, .ref 64), (1, .int a1), (2, .int a2)], [.int a2], (q_kX s c n))) 1 (fun _ _ => rfl) ?_
          refine q_Ru_callX (E := "java/lang/IllegalArgumentException") (h2 := (q_kX s (c + 1) (n + 6))) rfl rfl ?_
          refine q_Ca_of (Nat.le_of_ble_eq_true rfl) ?_
          refine q_Ru_seg (g2 := (5, [(0, .int a2)], [.int 255, .int 0, .int a2], (q_kX s c n))) 3 (fun _ _ => rfl) ?_
          refine q_Ru_callX (E := "java/lang/IllegalArgumentException") (h2 := (q_kX s (c + 1) (n + 6))) rfl rfl ?_
          refine q_Ca_of (Nat.le_of_ble_eq_true rfl) ?_
          refine q_Ru_seg (g2 := (2, [(0, .int a2), (1, .int 0), (2, .int 255)], [.int 0, .int a2], (q_kX s c n))) 2 (fun _ _ => rfl) ?_
          refine q_Ru_rsT (g2 := (10, [(0, .int a2), (1, .int 0), (2, .int 255)], [], (q_kX s c n))) rfl rfl h7 ?_
          exact q_Ru_thr rfl rfl
        show q_RP _ _ _ (19, [(0, .ref 64), (1, .int a1), (2, .int a2), (3, .ref 236)], [], (q_kX s (c + 1) (n + 6))) _ _
        refine q_RP_seg (g2 := (20, [(0, .ref 64), (1, .int a1), (2, .int a2), (3, .ref 236)], [.int 2], (q_kX s (c + 1) (n + 6)))) 1 (fun _ _ => rfl) ?_
        exact q_RP_ret rfl rfl rfl
      | false =>
        refine q_RP_cF ?_
        cases h8 : decide (255 < a2) with
        | true =>
          refine q_RP_cT ?_
          refine q_RP_callH (E := "java/lang/IllegalArgumentException") (tg := 19) (i := 4) (h2 := (q_kX s (c + 1) (n + 6))) rfl rfl ?_ rfl ?_
          · refine q_Ca_of (Nat.le_of_ble_eq_true rfl) ?_
            refine q_Ru_seg (g2 := (4, [(0, .ref 64), (1, .int a1), (2, .int a2)], [.int 512, .int a1], (q_kX s c n))) 2 (fun _ _ => rfl) ?_
            refine q_Ru_call (v := none) (h2 := (q_kX s c n)) rfl rfl ?_ ?_
            · refine q_Ca_of (Nat.le_of_ble_eq_true rfl) ?_
              refine q_Ru_seg (g2 := (1, [(0, .int a1), (1, .int 512)], [.int a1], (q_kX s c n))) 1 (fun _ _ => rfl) ?_
              refine q_Ru_rsF (g2 := (4, [(0, .int a1), (1, .int 512)], [], (q_kX s c n))) rfl rfl h5 ?_
              refine q_Ru_seg (g2 := (6, [(0, .int a1), (1, .int 512)], [.int 512, .int a1], (q_kX s c n))) 2 (fun _ _ => rfl) ?_
              refine q_Ru_rsT (g2 := (19, [(0, .int a1), (1, .int 512)], [], (q_kX s c n))) rfl rfl h6 ?_
              exact q_Ru_ret rfl rfl
            show q_Ru _ _ _ (7, [(0, .ref 64), (1, .int a1), (2, .int a2)], [], (q_kX s c n)) _
            refine q_Ru_seg (g2 := (8, [(0, .ref 64), (1, .int a1), (2, .int a2)], [.int a2], (q_kX s c n))) 1 (fun _ _ => rfl) ?_
            refine q_Ru_callX (E := "java/lang/IllegalArgumentException") (h2 := (q_kX s (c + 1) (n + 6))) rfl rfl ?_
            refine q_Ca_of (Nat.le_of_ble_eq_true rfl) ?_
            refine q_Ru_seg (g2 := (5, [(0, .int a2)], [.int 255, .int 0, .int a2], (q_kX s c n))) 3 (fun _ _ => rfl) ?_
            refine q_Ru_callX (E := "java/lang/IllegalArgumentException") (h2 := (q_kX s (c + 1) (n + 6))) rfl rfl ?_
            refine q_Ca_of (Nat.le_of_ble_eq_true rfl) ?_
            refine q_Ru_seg (g2 := (2, [(0, .int a2), (1, .int 0), (2, .int 255)], [.int 0, .int a2], (q_kX s c n))) 2 (fun _ _ => rfl) ?_
            refine q_Ru_rsF (g2 := (5, [(0, .int a2), (1, .int 0), (2, .int 255)], [], (q_kX s c n))) rfl rfl h7 ?_
            refine q_Ru_seg (g2 := (7, [(0, .int a2), (1, .int 0), (2, .int 255)], [.int 255, .int a2], (q_kX s c n))) 2 (fun _ _ => rfl) ?_
            refine q_Ru_rsF (g2 := (10, [(0, .int a2), (1, .int 0), (2, .int 255)], [], (q_kX s c n))) rfl rfl (q_d_geT h8) ?_
            exact q_Ru_thr rfl rfl
          show q_RP _ _ _ (19, [(0, .ref 64), (1, .int a1), (2, .int a2), (3, .ref 236)], [], (q_kX s (c + 1) (n + 6))) _ _
          refine q_RP_seg (g2 := (20, [(0, .ref 64), (1, .int a1), (2, .int a2), (3, .ref 236)], [.int 2], (q_kX s (c + 1) (n + 6)))) 1 (fun _ _ => rfl) ?_
          exact q_RP_ret rfl rfl rfl
        | false =>
          refine q_RP_cF ?_
          generalize er2 : dz_X184_98 s 1 a1 a2 0 = r2
          refine q_RP_let ?_
          refine q_RP_bd fun r3 er3 => ?_
          refine q_RP_call (v := (some (.int r3.2))) (h2 := (q_kX (q_pt 32 3 1 73 r2 r3.1) c n)) rfl rfl ?_ ?_
          · refine q_Ca_of (Nat.le_of_ble_eq_true rfl) ?_
            refine q_Ru_seg (g2 := (4, [(0, .ref 64), (1, .int a1), (2, .int a2)], [.int 512, .int a1], (q_kX s c n))) 2 (fun _ _ => rfl) ?_
            refine q_Ru_call (v := none) (h2 := (q_kX s c n)) rfl rfl ?_ ?_
            · refine q_Ca_of (Nat.le_of_ble_eq_true rfl) ?_
              refine q_Ru_seg (g2 := (1, [(0, .int a1), (1, .int 512)], [.int a1], (q_kX s c n))) 1 (fun _ _ => rfl) ?_
              refine q_Ru_rsF (g2 := (4, [(0, .int a1), (1, .int 512)], [], (q_kX s c n))) rfl rfl h5 ?_
              refine q_Ru_seg (g2 := (6, [(0, .int a1), (1, .int 512)], [.int 512, .int a1], (q_kX s c n))) 2 (fun _ _ => rfl) ?_
              refine q_Ru_rsT (g2 := (19, [(0, .int a1), (1, .int 512)], [], (q_kX s c n))) rfl rfl h6 ?_
              exact q_Ru_ret rfl rfl
            show q_Ru _ _ _ (7, [(0, .ref 64), (1, .int a1), (2, .int a2)], [], (q_kX s c n)) _
            refine q_Ru_seg (g2 := (8, [(0, .ref 64), (1, .int a1), (2, .int a2)], [.int a2], (q_kX s c n))) 1 (fun _ _ => rfl) ?_
            refine q_Ru_call (v := none) (h2 := (q_kX s c n)) rfl rfl ?_ ?_
            · refine q_Ca_of (Nat.le_of_ble_eq_true rfl) ?_
              refine q_Ru_seg (g2 := (5, [(0, .int a2)], [.int 255, .int 0, .int a2], (q_kX s c n))) 3 (fun _ _ => rfl) ?_
              refine q_Ru_call (v := none) (h2 := (q_kX s c n)) rfl rfl ?_ ?_
              · refine q_Ca_of (Nat.le_of_ble_eq_true rfl) ?_
                refine q_Ru_seg (g2 := (2, [(0, .int a2), (1, .int 0), (2, .int 255)], [.int 0, .int a2], (q_kX s c n))) 2 (fun _ _ => rfl) ?_
                refine q_Ru_rsF (g2 := (5, [(0, .int a2), (1, .int 0), (2, .int 255)], [], (q_kX s c n))) rfl rfl h7 ?_
                refine q_Ru_seg (g2 := (7, [(0, .int a2), (1, .int 0), (2, .int 255)], [.int 255, .int a2], (q_kX s c n))) 2 (fun _ _ => rfl) ?_
                refine q_Ru_rsT (g2 := (20, [(0, .int a2), (1, .int 0), (2, .int 255)], [], (q_kX s c n))) rfl rfl (q_d_geF h8) ?_
                exact q_Ru_ret rfl rfl
              show q_Ru _ _ _ (8, [(0, .int a2)], [], (q_kX s c n)) _
              exact q_Ru_ret rfl rfl
            show q_Ru _ _ _ (11, [(0, .ref 64), (1, .int a1), (2, .int a2)], [], (q_kX s c n)) _
            refine q_Ru_seg (g2 := (19, [(0, .ref 64), (1, .int a1), (2, .int a2)], [.int 0, .int a2, .int a1, .int 1, .ref 98], (q_kX s c n))) 6 (fun _ _ => rfl) ?_
            refine q_Ru_call (v := none) (h2 := (q_kX r2 c n)) rfl rfl ?_ ?_
            · exact (q_cE (φ := (q_oSX c n)) er2 (dzt_X184_98 z L xs s c n 1 a1 a2 0)).le (Nat.le_of_ble_eq_true rfl)
            show q_Ru _ _ _ (22, [(0, .ref 64), (1, .int a1), (2, .int a2)], [], (q_kX r2 c n)) _
            refine q_Ru_seg (g2 := (30, [(0, .ref 64), (1, .int a1), (2, .int a2)], [.int 0, .int a2, .int a1, .int 1, .ref 65], (q_kX r2 c n))) 6 (fun _ _ => rfl) ?_
            refine q_Ru_call (v := (some (.int r3.2))) (h2 := (q_kX (q_pt 32 3 1 73 r2 r3.1) c n)) rfl rfl ?_ ?_
            · exact (q_emNX_1 rfl (fun _ => rfl) ((dzt_N79_64 (q_vw 32 1 73 r2) c n 1 a1 a2 0 r3 er3).tb q_TB0_le)).le (Nat.le_of_ble_eq_true rfl)
            show q_Ru _ _ _ (33, [(0, .ref 64), (1, .int a1), (2, .int a2)], [.int r3.2], (q_kX (q_pt 32 3 1 73 r2 r3.1) c n)) _
            exact q_Ru_ret rfl rfl
          show q_RP _ _ _ (8, [(0, .ref 64), (1, .int a1), (2, .int a2), (3, .ref 236)], [.int r3.2, .int 0, .ref 236], (q_kX (q_pt 32 3 1 73 r2 r3.1) c n)) _ _
          refine q_RP_seg (g2 := (9, [(0, .ref 64), (1, .int a1), (2, .int a2), (3, .ref 236)], [.long r3.2.toInt64, .int 0, .ref 236], (q_kX (q_pt 32 3 1 73 r2 r3.1) c n))) 1 (fun _ _ => rfl) ?_
          refine q_RP_rsT (g2 := (10, [(0, .ref 64), (1, .int a1), (2, .int a2), (3, .ref 236)], [], (q_kX (q_sL (q_pt 32 3 1 73 r2 r3.1) 172 (vp_updL ((q_pt 32 3 1 73 r2 r3.1).2.2 172) 0 r3.2.toInt64)) c n))) rfl q_wX172 rfl ?_
          refine q_RP_seg (g2 := (22, [(0, .ref 64), (1, .int a1), (2, .int a2), (3, .ref 236)], [.int 0], (q_kX (q_sL (q_pt 32 3 1 73 r2 r3.1) 172 (vp_updL ((q_pt 32 3 1 73 r2 r3.1).2.2 172) 0 r3.2.toInt64)) c n))) 2 (fun _ _ => rfl) ?_
          exact q_RP_ret rfl rfl rfl
    | false =>
      refine q_RP_cF ?_
      refine q_RP_callH (E := "java/lang/IndexOutOfBoundsException") (tg := 15) (i := 4) (h2 := (q_kX s (c + 1) (n + 6))) rfl rfl ?_ rfl ?_
      · refine q_Ca_of (Nat.le_of_ble_eq_true rfl) ?_
        refine q_Ru_seg (g2 := (4, [(0, .ref 64), (1, .int a1), (2, .int a2)], [.int 512, .int a1], (q_kX s c n))) 2 (fun _ _ => rfl) ?_
        refine q_Ru_callX (E := "java/lang/IndexOutOfBoundsException") (h2 := (q_kX s (c + 1) (n + 6))) rfl rfl ?_
        refine q_Ca_of (Nat.le_of_ble_eq_true rfl) ?_
        refine q_Ru_seg (g2 := (1, [(0, .int a1), (1, .int 512)], [.int a1], (q_kX s c n))) 1 (fun _ _ => rfl) ?_
        refine q_Ru_rsF (g2 := (4, [(0, .int a1), (1, .int 512)], [], (q_kX s c n))) rfl rfl h5 ?_
        refine q_Ru_seg (g2 := (6, [(0, .int a1), (1, .int 512)], [.int 512, .int a1], (q_kX s c n))) 2 (fun _ _ => rfl) ?_
        refine q_Ru_rsF (g2 := (9, [(0, .int a1), (1, .int 512)], [], (q_kX s c n))) rfl rfl h6 ?_
        exact q_Ru_thr rfl rfl
      show q_RP _ _ _ (15, [(0, .ref 64), (1, .int a1), (2, .int a2), (3, .ref 236)], [], (q_kX s (c + 1) (n + 6))) _ _
      refine q_RP_seg (g2 := (16, [(0, .ref 64), (1, .int a1), (2, .int a2), (3, .ref 236)], [.int 1], (q_kX s (c + 1) (n + 6)))) 1 (fun _ _ => rfl) ?_
      exact q_RP_ret rfl rfl rfl
def dz_X2_64_236 (s : q_S) (a1 : Int32) (a2 : Int32) (a3 : Int32) : Option (q_S × Int32 × Nat) :=
  cond (decide (a1 < 0)) (some (s, 1, 1)) (cond (decide (a1 < 4)) (cond (decide (a2 < 0)) (some (s, 1, 1)) (cond (decide (a2 < 512)) (cond (decide (a3 < 0)) (some (s, 2, 1)) (cond (decide (255 < a3)) (some (s, 2, 1)) (q_let (dz_X184_98 s 2 a1 a2 a3) fun r2 => (dz_N79_64 (q_vw 32 1 73 r2) 2 a1 a2 a3).bind fun r3 => some ((q_sL (q_pt 32 3 1 73 r2 r3.1) 172 (vp_updL ((q_pt 32 3 1 73 r2 r3.1).2.2 172) 0 r3.2.toInt64)), 0, 0)))) (some (s, 1, 1)))) (some (s, 1, 1)))
set_option maxHeartbeats 4000000 in
theorem dzt_X2_64_236 (z L : Nat) (xs : Nat → Int32) (s : q_S) (c n : Nat) (a1 : Int32) (a2 : Int32) (a3 : Int32) (x : q_S × Int32 × Nat) (h : dz_X2_64_236 s a1 a2 a3 = some x) : q_Ca (q_TBs z L xs) 10 2 [.ref 64, .int a1, .int a2, .int a3, .ref 236] (q_kX s c n) ((q_oEX c n) x) := by
  refine q_CaP_of (φ := (q_oEX c n)) (Nat.le_of_ble_eq_true rfl) ?_ h
  clear h
  unfold dz_X2_64_236
  refine q_RP_seg (g2 := (7, [(0, .ref 64), (1, .int a1), (2, .int a2), (3, .int a3), (4, .ref 236)], [.int a3, .int a2, .int a1, .ref 64, .int 0, .ref 236], (q_kX s c n))) 6 (fun _ _ => rfl) ?_
  cases h7 : decide (a1 < 0) with
  | true =>
    refine q_RP_cT ?_
    refine q_RP_callH (E := "java/lang/IndexOutOfBoundsException") (tg := 17) (i := 5) (h2 := (q_kX s (c + 1) (n + 6))) rfl rfl ?_ rfl ?_
    · refine q_Ca_of (Nat.le_of_ble_eq_true rfl) ?_
      refine q_Ru_seg (g2 := (2, [(0, .ref 64), (1, .int a1), (2, .int a2), (3, .int a3)], [.int 4, .int a1], (q_kX s c n))) 2 (fun _ _ => rfl) ?_
      refine q_Ru_callX (E := "java/lang/IndexOutOfBoundsException") (h2 := (q_kX s (c + 1) (n + 6))) rfl rfl ?_
      refine q_Ca_of (Nat.le_of_ble_eq_true rfl) ?_
      refine q_Ru_seg (g2 := (1, [(0, .int a1), (1, .int 4)], [.int a1], (q_kX s c n))) 1 (fun _ _ => rfl) ?_
      refine q_Ru_rsT (g2 := (9, [(0, .int a1), (1, .int 4)], [], (q_kX s c n))) rfl rfl h7 ?_
      exact q_Ru_thr rfl rfl
    show q_RP _ _ _ (17, [(0, .ref 64), (1, .int a1), (2, .int a2), (3, .int a3), (4, .ref 236)], [], (q_kX s (c + 1) (n + 6))) _ _
    refine q_RP_seg (g2 := (18, [(0, .ref 64), (1, .int a1), (2, .int a2), (3, .int a3), (4, .ref 236)], [.int 1], (q_kX s (c + 1) (n + 6)))) 1 (fun _ _ => rfl) ?_
    exact q_RP_ret rfl rfl rfl
  | false =>
    refine q_RP_cF ?_
    cases h8 : decide (a1 < 4) with
    | true =>
      refine q_RP_cT ?_
      cases h9 : decide (a2 < 0) with
      | true =>
        refine q_RP_cT ?_
        refine q_RP_callH (E := "java/lang/IndexOutOfBoundsException") (tg := 17) (i := 5) (h2 := (q_kX s (c + 1) (n + 6))) rfl rfl ?_ rfl ?_
        · refine q_Ca_of (Nat.le_of_ble_eq_true rfl) ?_
          refine q_Ru_seg (g2 := (2, [(0, .ref 64), (1, .int a1), (2, .int a2), (3, .int a3)], [.int 4, .int a1], (q_kX s c n))) 2 (fun _ _ => rfl) ?_
          refine q_Ru_call (v := none) (h2 := (q_kX s c n)) rfl rfl ?_ ?_
          · refine q_Ca_of (Nat.le_of_ble_eq_true rfl) ?_
            refine q_Ru_seg (g2 := (1, [(0, .int a1), (1, .int 4)], [.int a1], (q_kX s c n))) 1 (fun _ _ => rfl) ?_
            refine q_Ru_rsF (g2 := (4, [(0, .int a1), (1, .int 4)], [], (q_kX s c n))) rfl rfl h7 ?_
            refine q_Ru_seg (g2 := (6, [(0, .int a1), (1, .int 4)], [.int 4, .int a1], (q_kX s c n))) 2 (fun _ _ => rfl) ?_
            refine q_Ru_rsT (g2 := (19, [(0, .int a1), (1, .int 4)], [], (q_kX s c n))) rfl rfl h8 ?_
            exact q_Ru_ret rfl rfl
          show q_Ru _ _ _ (5, [(0, .ref 64), (1, .int a1), (2, .int a2), (3, .int a3)], [], (q_kX s c n)) _
          refine q_Ru_seg (g2 := (9, [(0, .ref 64), (1, .int a1), (2, .int a2), (3, .int a3)], [.int 512, .int a2], (q_kX s c n))) 2 (fun _ _ => rfl) ?_
          refine q_Ru_callX (E := "java/lang/IndexOutOfBoundsException") (h2 := (q_kX s (c + 1) (n + 6))) rfl rfl ?_
          refine q_Ca_of (Nat.le_of_ble_eq_true rfl) ?_
          refine q_Ru_seg (g2 := (1, [(0, .int a2), (1, .int 512)], [.int a2], (q_kX s c n))) 1 (fun _ _ => rfl) ?_
          refine q_Ru_rsT (g2 := (9, [(0, .int a2), (1, .int 512)], [], (q_kX s c n))) rfl rfl h9 ?_
          exact q_Ru_thr rfl rfl
        show q_RP _ _ _ (17, [(0, .ref 64), (1, .int a1), (2, .int a2), (3, .int a3), (4, .ref 236)], [], (q_kX s (c + 1) (n + 6))) _ _
        refine q_RP_seg (g2 := (18, [(0, .ref 64), (1, .int a1), (2, .int a2), (3, .int a3), (4, .ref 236)], [.int 1], (q_kX s (c + 1) (n + 6)))) 1 (fun _ _ => rfl) ?_
        exact q_RP_ret rfl rfl rfl
      | false =>
        refine q_RP_cF ?_
        cases h10 : decide (a2 < 512) with
        | true =>
          refine q_RP_cT ?_
          cases h11 : decide (a3 < 0) with
          | true =>
            refine q_RP_cT ?_
            refine q_RP_callH (E := "java/lang/IllegalArgumentException") (tg := 21) (i := 5) (h2 := (q_kX s (c + 1) (n + 6))) rfl rfl ?_ rfl ?_
            · refine q_Ca_of (Nat.le_of_ble_eq_true rfl) ?_
              refine q_Ru_seg (g2 := (2, [(0, .ref 64), (1, .int a1), (2, .int a2), (3, .int a3)], [.int 4, .int a1], (q_kX s c n))) 2 (fun _ _ => rfl) ?_
              refine q_Ru_call (v := none) (h2 := (q_kX s c n)) rfl rfl ?_ ?_
              · refine q_Ca_of (Nat.le_of_ble_eq_true rfl) ?_
                refine q_Ru_seg (g2 := (1, [(0, .int a1), (1, .int 4)], [.int a1], (q_kX s c n))) 1 (fun _ _ => rfl) ?_
                refine q_Ru_rsF (g2 := (4, [(0, .int a1), (1, .int 4)], [], (q_kX s c n))) rfl rfl h7 ?_
                refine q_Ru_seg (g2 := (6, [(0, .int a1), (1, .int 4)], [.int 4, .int a1], (q_kX s c n))) 2 (fun _ _ => rfl) ?_
                refine q_Ru_rsT (g2 := (19, [(0, .int a1), (1, .int 4)], [], (q_kX s c n))) rfl rfl h8 ?_
                exact q_Ru_ret rfl rfl
              show q_Ru _ _ _ (5, [(0, .ref 64), (1, .int a1), (2, .int a2), (3, .int a3)], [], (q_kX s c n)) _
              refine q_Ru_seg (g2 := (9, [(0, .ref 64), (1, .int a1), (2, .int a2), (3, .int a3)], [.int 512, .int a2], (q_kX s c n))) 2 (fun _ _ => rfl) ?_
              refine q_Ru_call (v := none) (h2 := (q_kX s c n)) rfl rfl ?_ ?_
              · refine q_Ca_of (Nat.le_of_ble_eq_true rfl) ?_
                refine q_Ru_seg (g2 := (1, [(0, .int a2), (1, .int 512)], [.int a2], (q_kX s c n))) 1 (fun _ _ => rfl) ?_
                refine q_Ru_rsF (g2 := (4, [(0, .int a2), (1, .int 512)], [], (q_kX s c n))) rfl rfl h9 ?_
                refine q_Ru_seg (g2 := (6, [(0, .int a2), (1, .int 512)], [.int 512, .int a2], (q_kX s c n))) 2 (fun _ _ => rfl) ?_
                refine q_Ru_rsT (g2 := (19, [(0, .int a2), (1, .int 512)], [], (q_kX s c n))) rfl rfl h10 ?_
                exact q_Ru_ret rfl rfl
              show q_Ru _ _ _ (12, [(0, .ref 64), (1, .int a1), (2, .int a2), (3, .int a3)], [], (q_kX s c n)) _
              refine q_Ru_seg (g2 := (13, [(0, .ref 64), (1, .int a1), (2, .int a2), (3, .int a3)], [.int a3], (q_kX s c n))) 1 (fun _ _ => rfl) ?_
              refine q_Ru_callX (E := "java/lang/IllegalArgumentException") (h2 := (q_kX s (c + 1) (n + 6))) rfl rfl ?_
              refine q_Ca_of (Nat.le_of_ble_eq_true rfl) ?_
              refine q_Ru_seg (g2 := (5, [(0, .int a3)], [.int 255, .int 0, .int a3], (q_kX s c n))) 3 (fun _ _ => rfl) ?_
              refine q_Ru_callX (E := "java/lang/IllegalArgumentException") (h2 := (q_kX s (c + 1) (n + 6))) rfl rfl ?_
              refine q_Ca_of (Nat.le_of_ble_eq_true rfl) ?_
              refine q_Ru_seg (g2 := (2, [(0, .int a3), (1, .int 0), (2, .int 255)], [.int 0, .int a3], (q_kX s c n))) 2 (fun _ _ => rfl) ?_
              refine q_Ru_rsT (g2 := (10, [(0, .int a3), (1, .int 0), (2, .int 255)], [], (q_kX s c n))) rfl rfl h11 ?_
              exact q_Ru_thr rfl rfl
            show q_RP _ _ _ (21, [(0, .ref 64), (1, .int a1), (2, .int a2), (3, .int a3), (4, .ref 236)], [], (q_kX s (c + 1) (n + 6))) _ _
            refine q_RP_seg (g2 := (22, [(0, .ref 64), (1, .int a1), (2, .int a2), (3, .int a3), (4, .ref 236)], [.int 2], (q_kX s (c + 1) (n + 6)))) 1 (fun _ _ => rfl) ?_
            exact q_RP_ret rfl rfl rfl
          | false =>
            refine q_RP_cF ?_
            cases h12 : decide (255 < a3) with
            | true =>
              refine q_RP_cT ?_
              refine q_RP_callH (E := "java/lang/IllegalArgumentException") (tg := 21) (i := 5) (h2 := (q_kX s (c + 1) (n + 6))) rfl rfl ?_ rfl ?_
              · refine q_Ca_of (Nat.le_of_ble_eq_true rfl) ?_
                refine q_Ru_seg (g2 := (2, [(0, .ref 64), (1, .int a1), (2, .int a2), (3, .int a3)], [.int 4, .int a1], (q_kX s c n))) 2 (fun _ _ => rfl) ?_
                refine q_Ru_call (v := none) (h2 := (q_kX s c n)) rfl rfl ?_ ?_
                · refine q_Ca_of (Nat.le_of_ble_eq_true rfl) ?_
                  refine q_Ru_seg (g2 := (1, [(0, .int a1), (1, .int 4)], [.int a1], (q_kX s c n))) 1 (fun _ _ => rfl) ?_
                  refine q_Ru_rsF (g2 := (4, [(0, .int a1), (1, .int 4)], [], (q_kX s c n))) rfl rfl h7 ?_
                  refine q_Ru_seg (g2 := (6, [(0, .int a1), (1, .int 4)], [.int 4, .int a1], (q_kX s c n))) 2 (fun _ _ => rfl) ?_
                  refine q_Ru_rsT (g2 := (19, [(0, .int a1), (1, .int 4)], [], (q_kX s c n))) rfl rfl h8 ?_
                  exact q_Ru_ret rfl rfl
                show q_Ru _ _ _ (5, [(0, .ref 64), (1, .int a1), (2, .int a2), (3, .int a3)], [], (q_kX s c n)) _
                refine q_Ru_seg (g2 := (9, [(0, .ref 64), (1, .int a1), (2, .int a2), (3, .int a3)], [.int 512, .int a2], (q_kX s c n))) 2 (fun _ _ => rfl) ?_
                refine q_Ru_call (v := none) (h2 := (q_kX s c n)) rfl rfl ?_ ?_
                · refine q_Ca_of (Nat.le_of_ble_eq_true rfl) ?_
                  refine q_Ru_seg (g2 := (1, [(0, .int a2), (1, .int 512)], [.int a2], (q_kX s c n))) 1 (fun _ _ => rfl) ?_
                  refine q_Ru_rsF (g2 := (4, [(0, .int a2), (1, .int 512)], [], (q_kX s c n))) rfl rfl h9 ?_
                  refine q_Ru_seg (g2 := (6, [(0, .int a2), (1, .int 512)], [.int 512, .int a2], (q_kX s c n))) 2 (fun _ _ => rfl) ?_
                  refine q_Ru_rsT (g2 := (19, [(0, .int a2), (1, .int 512)], [], (q_kX s c n))) rfl rfl h10 ?_
                  exact q_Ru_ret rfl rfl
                show q_Ru _ _ _ (12, [(0, .ref 64), (1, .int a1), (2, .int a2), (3, .int a3)], [], (q_kX s c n)) _
                refine q_Ru_seg (g2 := (13, [(0, .ref 64), (1, .int a1), (2, .int a2), (3, .int a3)], [.int a3], (q_kX s c n))) 1 (fun _ _ => rfl) ?_
                refine q_Ru_callX (E := "java/lang/IllegalArgumentException") (h2 := (q_kX s (c + 1) (n + 6))) rfl rfl ?_
                refine q_Ca_of (Nat.le_of_ble_eq_true rfl) ?_
                refine q_Ru_seg (g2 := (5, [(0, .int a3)], [.int 255, .int 0, .int a3], (q_kX s c n))) 3 (fun _ _ => rfl) ?_
                refine q_Ru_callX (E := "java/lang/IllegalArgumentException") (h2 := (q_kX s (c + 1) (n + 6))) rfl rfl ?_
                refine q_Ca_of (Nat.le_of_ble_eq_true rfl) ?_
                refine q_Ru_seg (g2 := (2, [(0, .int a3), (1, .int 0), (2, .int 255)], [.int 0, .int a3], (q_kX s c n))) 2 (fun _ _ => rfl) ?_
                refine q_Ru_rsF (g2 := (5, [(0, .int a3), (1, .int 0), (2, .int 255)], [], (q_kX s c n))) rfl rfl h11 ?_
                refine q_Ru_seg (g2 := (7, [(0, .int a3), (1, .int 0), (2, .int 255)], [.int 255, .int a3], (q_kX s c n))) 2 (fun _ _ => rfl) ?_
                refine q_Ru_rsF (g2 := (10, [(0, .int a3), (1, .int 0), (2, .int 255)], [], (q_kX s c n))) rfl rfl (q_d_geT h12) ?_
                exact q_Ru_thr rfl rfl
              show q_RP _ _ _ (21, [(0, .ref 64), (1, .int a1), (2, .int a2), (3, .int a3), (4, .ref 236)], [], (q_kX s (c + 1) (n + 6))) _ _
              refine q_RP_seg (g2 := (22, [(0, .ref 64), (1, .int a1), (2, .int a2), (3, .int a3), (4, .ref 236)], [.int 2], (q_kX s (c + 1) (n + 6)))) 1 (fun _ _ => rfl) ?_
              exact q_RP_ret rfl rfl rfl
            | false =>
              refine q_RP_cF ?_
              generalize er2 : dz_X184_98 s 2 a1 a2 a3 = r2
              refine q_RP_let ?_
              refine q_RP_bd fun r3 er3 => ?_
              refine q_RP_call (v := (some (.int r3.2))) (h2 := (q_kX (q_pt 32 3 1 73 r2 r3.1) c n)) rfl rfl ?_ ?_
              · refine q_Ca_of (Nat.le_of_ble_eq_true rfl) ?_
                refine q_Ru_seg (g2 := (2, [(0, .ref 64), (1, .int a1), (2, .int a2), (3, .int a3)], [.int 4, .int a1], (q_kX s c n))) 2 (fun _ _ => rfl) ?_
                refine q_Ru_call (v := none) (h2 := (q_kX s c n)) rfl rfl ?_ ?_
                · refine q_Ca_of (Nat.le_of_ble_eq_true rfl) ?_
                  refine q_Ru_seg (g2 := (1, [(0, .int a1), (1, .int 4)], [.int a1], (q_kX s c n))) 1 (fun _ _ => rfl) ?_
                  refine q_Ru_rsF (g2 := (4, [(0, .int a1), (1, .int 4)], [], (q_kX s c n))) rfl rfl h7 ?_
                  refine q_Ru_seg (g2 := (6, [(0, .int a1), (1, .int 4)], [.int 4, .int a1], (q_kX s c n))) 2 (fun _ _ => rfl) ?_
                  refine q_Ru_rsT (g2 := (19, [(0, .int a1), (1, .int 4)], [], (q_kX s c n))) rfl rfl h8 ?_
                  exact q_Ru_ret rfl rfl
                show q_Ru _ _ _ (5, [(0, .ref 64), (1, .int a1), (2, .int a2), (3, .int a3)], [], (q_kX s c n)) _
                refine q_Ru_seg (g2 := (9, [(0, .ref 64), (1, .int a1), (2, .int a2), (3, .int a3)], [.int 512, .int a2], (q_kX s c n))) 2 (fun _ _ => rfl) ?_
                refine q_Ru_call (v := none) (h2 := (q_kX s c n)) rfl rfl ?_ ?_
                · refine q_Ca_of (Nat.le_of_ble_eq_true rfl) ?_
                  refine q_Ru_seg (g2 := (1, [(0, .int a2), (1, .int 512)], [.int a2], (q_kX s c n))) 1 (fun _ _ => rfl) ?_
                  refine q_Ru_rsF (g2 := (4, [(0, .int a2), (1, .int 512)], [], (q_kX s c n))) rfl rfl h9 ?_
                  refine q_Ru_seg (g2 := (6, [(0, .int a2), (1, .int 512)], [.int 512, .int a2], (q_kX s c n))) 2 (fun _ _ => rfl) ?_
                  refine q_Ru_rsT (g2 := (19, [(0, .int a2), (1, .int 512)], [], (q_kX s c n))) rfl rfl h10 ?_
                  exact q_Ru_ret rfl rfl
                show q_Ru _ _ _ (12, [(0, .ref 64), (1, .int a1), (2, .int a2), (3, .int a3)], [], (q_kX s c n)) _
                refine q_Ru_seg (g2 := (13, [(0, .ref 64), (1, .int a1), (2, .int a2), (3, .int a3)], [.int a3], (q_kX s c n))) 1 (fun _ _ => rfl) ?_
                refine q_Ru_call (v := none) (h2 := (q_kX s c n)) rfl rfl ?_ ?_
                · refine q_Ca_of (Nat.le_of_ble_eq_true rfl) ?_
                  refine q_Ru_seg (g2 := (5, [(0, .int a3)], [.int 255, .int 0, .int a3], (q_kX s c n))) 3 (fun _ _ => rfl) ?_
                  refine q_Ru_call (v := none) (h2 := (q_kX s c n)) rfl rfl ?_ ?_
                  · refine q_Ca_of (Nat.le_of_ble_eq_true rfl) ?_
                    refine q_Ru_seg (g2 := (2, [(0, .int a3), (1, .int 0), (2, .int 255)], [.int 0, .int a3], (q_kX s c n))) 2 (fun _ _ => rfl) ?_
                    refine q_Ru_rsF (g2 := (5, [(0, .int a3), (1, .int 0), (2, .int 255)], [], (q_kX s c n))) rfl rfl h11 ?_
                    refine q_Ru_seg (g2 := (7, [(0, .int a3), (1, .int 0), (2, .int 255)], [.int 255, .int a3], (q_kX s c n))) 2 (fun _ _ => rfl) ?_
                    refine q_Ru_rsT (g2 := (20, [(0, .int a3), (1, .int 0), (2, .int 255)], [], (q_kX s c n))) rfl rfl (q_d_geF h12) ?_
                    exact q_Ru_ret rfl rfl
                  show q_Ru _ _ _ (8, [(0, .int a3)], [], (q_kX s c n)) _
                  exact q_Ru_ret rfl rfl
                show q_Ru _ _ _ (16, [(0, .ref 64), (1, .int a1), (2, .int a2), (3, .int a3)], [], (q_kX s c n)) _
                refine q_Ru_seg (g2 := (24, [(0, .ref 64), (1, .int a1), (2, .int a2), (3, .int a3)], [.int a3, .int a2, .int a1, .int 2, .ref 98], (q_kX s c n))) 6 (fun _ _ => rfl) ?_
                refine q_Ru_call (v := none) (h2 := (q_kX r2 c n)) rfl rfl ?_ ?_
                · exact (q_cE (φ := (q_oSX c n)) er2 (dzt_X184_98 z L xs s c n 2 a1 a2 a3)).le (Nat.le_of_ble_eq_true rfl)
                show q_Ru _ _ _ (27, [(0, .ref 64), (1, .int a1), (2, .int a2), (3, .int a3)], [], (q_kX r2 c n)) _
                refine q_Ru_seg (g2 := (35, [(0, .ref 64), (1, .int a1), (2, .int a2), (3, .int a3)], [.int a3, .int a2, .int a1, .int 2, .ref 65], (q_kX r2 c n))) 6 (fun _ _ => rfl) ?_
                refine q_Ru_call (v := (some (.int r3.2))) (h2 := (q_kX (q_pt 32 3 1 73 r2 r3.1) c n)) rfl rfl ?_ ?_
                · exact (q_emNX_1 rfl (fun _ => rfl) ((dzt_N79_64 (q_vw 32 1 73 r2) c n 2 a1 a2 a3 r3 er3).tb q_TB0_le)).le (Nat.le_of_ble_eq_true rfl)
                show q_Ru _ _ _ (38, [(0, .ref 64), (1, .int a1), (2, .int a2), (3, .int a3)], [.int r3.2], (q_kX (q_pt 32 3 1 73 r2 r3.1) c n)) _
                exact q_Ru_ret rfl rfl
              show q_RP _ _ _ (10, [(0, .ref 64), (1, .int a1), (2, .int a2), (3, .int a3), (4, .ref 236)], [.int r3.2, .int 0, .ref 236], (q_kX (q_pt 32 3 1 73 r2 r3.1) c n)) _ _
              refine q_RP_seg (g2 := (11, [(0, .ref 64), (1, .int a1), (2, .int a2), (3, .int a3), (4, .ref 236)], [.long r3.2.toInt64, .int 0, .ref 236], (q_kX (q_pt 32 3 1 73 r2 r3.1) c n))) 1 (fun _ _ => rfl) ?_
              refine q_RP_rsT (g2 := (12, [(0, .ref 64), (1, .int a1), (2, .int a2), (3, .int a3), (4, .ref 236)], [], (q_kX (q_sL (q_pt 32 3 1 73 r2 r3.1) 172 (vp_updL ((q_pt 32 3 1 73 r2 r3.1).2.2 172) 0 r3.2.toInt64)) c n))) rfl q_wX172 rfl ?_
              refine q_RP_seg (g2 := (24, [(0, .ref 64), (1, .int a1), (2, .int a2), (3, .int a3), (4, .ref 236)], [.int 0], (q_kX (q_sL (q_pt 32 3 1 73 r2 r3.1) 172 (vp_updL ((q_pt 32 3 1 73 r2 r3.1).2.2 172) 0 r3.2.toInt64)) c n))) 2 (fun _ _ => rfl) ?_
              exact q_RP_ret rfl rfl rfl
        | false =>
          refine q_RP_cF ?_
          refine q_RP_callH (E := "java/lang/IndexOutOfBoundsException") (tg := 17) (i := 5) (h2 := (q_kX s (c + 1) (n + 6))) rfl rfl ?_ rfl ?_
          · refine q_Ca_of (Nat.le_of_ble_eq_true rfl) ?_
            refine q_Ru_seg (g2 := (2, [(0, .ref 64), (1, .int a1), (2, .int a2), (3, .int a3)], [.int 4, .int a1], (q_kX s c n))) 2 (fun _ _ => rfl) ?_
            refine q_Ru_call (v := none) (h2 := (q_kX s c n)) rfl rfl ?_ ?_
            · refine q_Ca_of (Nat.le_of_ble_eq_true rfl) ?_
              refine q_Ru_seg (g2 := (1, [(0, .int a1), (1, .int 4)], [.int a1], (q_kX s c n))) 1 (fun _ _ => rfl) ?_
              refine q_Ru_rsF (g2 := (4, [(0, .int a1), (1, .int 4)], [], (q_kX s c n))) rfl rfl h7 ?_
              refine q_Ru_seg (g2 := (6, [(0, .int a1), (1, .int 4)], [.int 4, .int a1], (q_kX s c n))) 2 (fun _ _ => rfl) ?_
              refine q_Ru_rsT (g2 := (19, [(0, .int a1), (1, .int 4)], [], (q_kX s c n))) rfl rfl h8 ?_
              exact q_Ru_ret rfl rfl
            show q_Ru _ _ _ (5, [(0, .ref 64), (1, .int a1), (2, .int a2), (3, .int a3)], [], (q_kX s c n)) _
            refine q_Ru_seg (g2 := (9, [(0, .ref 64), (1, .int a1), (2, .int a2), (3, .int a3)], [.int 512, .int a2], (q_kX s c n))) 2 (fun _ _ => rfl) ?_
            refine q_Ru_callX (E := "java/lang/IndexOutOfBoundsException") (h2 := (q_kX s (c + 1) (n + 6))) rfl rfl ?_
            refine q_Ca_of (Nat.le_of_ble_eq_true rfl) ?_
            refine q_Ru_seg (g2 := (1, [(0, .int a2), (1, .int 512)], [.int a2], (q_kX s c n))) 1 (fun _ _ => rfl) ?_
            refine q_Ru_rsF (g2 := (4, [(0, .int a2), (1, .int 512)], [], (q_kX s c n))) rfl rfl h9 ?_
            refine q_Ru_seg (g2 := (6, [(0, .int a2), (1, .int 512)], [.int 512, .int a2], (q_kX s c n))) 2 (fun _ _ => rfl) ?_
            refine q_Ru_rsF (g2 := (9, [(0, .int a2), (1, .int 512)], [], (q_kX s c n))) rfl rfl h10 ?_
            exact q_Ru_thr rfl rfl
          show q_RP _ _ _ (17, [(0, .ref 64), (1, .int a1), (2, .int a2), (3, .int a3), (4, .ref 236)], [], (q_kX s (c + 1) (n + 6))) _ _
          refine q_RP_seg (g2 := (18, [(0, .ref 64), (1, .int a1), (2, .int a2), (3, .int a3), (4, .ref 236)], [.int 1], (q_kX s (c + 1) (n + 6)))) 1 (fun _ _ => rfl) ?_
          exact q_RP_ret rfl rfl rfl
    | false =>
      refine q_RP_cF ?_
      refine q_RP_callH (E := "java/lang/IndexOutOfBoundsException") (tg := 17) (i := 5) (h2 := (q_kX s (c + 1) (n + 6))) rfl rfl ?_ rfl ?_
      · refine q_Ca_of (Nat.le_of_ble_eq_true rfl) ?_
        refine q_Ru_seg (g2 := (2, [(0, .ref 64), (1, .int a1), (2, .int a2), (3, .int a3)], [.int 4, .int a1], (q_kX s c n))) 2 (fun _ _ => rfl) ?_
        refine q_Ru_callX (E := "java/lang/IndexOutOfBoundsException") (h2 := (q_kX s (c + 1) (n + 6))) rfl rfl ?_
        refine q_Ca_of (Nat.le_of_ble_eq_true rfl) ?_
        refine q_Ru_seg (g2 := (1, [(0, .int a1), (1, .int 4)], [.int a1], (q_kX s c n))) 1 (fun _ _ => rfl) ?_
        refine q_Ru_rsF (g2 := (4, [(0, .int a1), (1, .int 4)], [], (q_kX s c n))) rfl rfl h7 ?_
        refine q_Ru_seg (g2 := (6, [(0, .int a1), (1, .int 4)], [.int 4, .int a1], (q_kX s c n))) 2 (fun _ _ => rfl) ?_
        refine q_Ru_rsF (g2 := (9, [(0, .int a1), (1, .int 4)], [], (q_kX s c n))) rfl rfl h8 ?_
        exact q_Ru_thr rfl rfl
      show q_RP _ _ _ (17, [(0, .ref 64), (1, .int a1), (2, .int a2), (3, .int a3), (4, .ref 236)], [], (q_kX s (c + 1) (n + 6))) _ _
      refine q_RP_seg (g2 := (18, [(0, .ref 64), (1, .int a1), (2, .int a2), (3, .int a3), (4, .ref 236)], [.int 1], (q_kX s (c + 1) (n + 6)))) 1 (fun _ _ => rfl) ?_
      exact q_RP_ret rfl rfl rfl
def dz_X3_64_236 (s : q_S) (a1 : Int32) : Option (q_S × Int32 × Nat) :=
  cond (decide (a1 < 0)) (some (s, 1, 1)) (cond (decide (a1 < 4096)) ((dz_N90_65 (q_vw 32 1 73 s) a1).bind fun r1 => some ((q_sL s 172 (vp_updL (s.2.2 172) 0 r1.toInt64)), 0, 0)) (some (s, 1, 1)))
set_option maxHeartbeats 4000000 in
theorem dzt_X3_64_236 (z L : Nat) (xs : Nat → Int32) (s : q_S) (c n : Nat) (a1 : Int32) (x : q_S × Int32 × Nat) (h : dz_X3_64_236 s a1 = some x) : q_Ca (q_TBs z L xs) 5 3 [.ref 64, .int a1, .ref 236] (q_kX s c n) ((q_oEX c n) x) := by
  refine q_CaP_of (φ := (q_oEX c n)) (Nat.le_of_ble_eq_true rfl) ?_ h
  clear h
  unfold dz_X3_64_236
  refine q_RP_seg (g2 := (4, [(0, .ref 64), (1, .int a1), (2, .ref 236)], [.int a1, .ref 64, .int 0, .ref 236], (q_kX s c n))) 4 (fun _ _ => rfl) ?_
  cases h3 : decide (a1 < 0) with
  | true =>
    refine q_RP_cT ?_
    refine q_RP_callH (E := "java/lang/IndexOutOfBoundsException") (tg := 13) (i := 3) (h2 := (q_kX s (c + 1) (n + 6))) rfl rfl ?_ rfl ?_
    · refine q_Ca_of (Nat.le_of_ble_eq_true rfl) ?_
      refine q_Ru_seg (g2 := (1, [(0, .ref 64), (1, .int a1)], [.int a1], (q_kX s c n))) 1 (fun _ _ => rfl) ?_
      refine q_Ru_callX (E := "java/lang/IndexOutOfBoundsException") (h2 := (q_kX s (c + 1) (n + 6))) rfl rfl ?_
      refine q_Ca_of (Nat.le_of_ble_eq_true rfl) ?_
      refine q_Ru_seg (g2 := (4, [(0, .int a1)], [.int 4096, .int a1], (q_kX s c n))) 2 (fun _ _ => rfl) ?_
      refine q_Ru_callX (E := "java/lang/IndexOutOfBoundsException") (h2 := (q_kX s (c + 1) (n + 6))) rfl rfl ?_
      refine q_Ca_of (Nat.le_of_ble_eq_true rfl) ?_
      refine q_Ru_seg (g2 := (1, [(0, .int a1), (1, .int 4096)], [.int a1], (q_kX s c n))) 1 (fun _ _ => rfl) ?_
      refine q_Ru_rsT (g2 := (9, [(0, .int a1), (1, .int 4096)], [], (q_kX s c n))) rfl rfl h3 ?_
      exact q_Ru_thr rfl rfl
    show q_RP _ _ _ (13, [(0, .ref 64), (1, .int a1), (2, .ref 236)], [], (q_kX s (c + 1) (n + 6))) _ _
    refine q_RP_seg (g2 := (14, [(0, .ref 64), (1, .int a1), (2, .ref 236)], [.int 1], (q_kX s (c + 1) (n + 6)))) 1 (fun _ _ => rfl) ?_
    exact q_RP_ret rfl rfl rfl
  | false =>
    refine q_RP_cF ?_
    cases h4 : decide (a1 < 4096) with
    | true =>
      refine q_RP_cT ?_
      refine q_RP_bd fun r1 er1 => ?_
      refine q_RP_call (v := (some (.int r1))) (h2 := (q_kX s c n)) rfl rfl ?_ ?_
      · refine q_Ca_of (Nat.le_of_ble_eq_true rfl) ?_
        refine q_Ru_seg (g2 := (1, [(0, .ref 64), (1, .int a1)], [.int a1], (q_kX s c n))) 1 (fun _ _ => rfl) ?_
        refine q_Ru_call (v := none) (h2 := (q_kX s c n)) rfl rfl ?_ ?_
        · refine q_Ca_of (Nat.le_of_ble_eq_true rfl) ?_
          refine q_Ru_seg (g2 := (4, [(0, .int a1)], [.int 4096, .int a1], (q_kX s c n))) 2 (fun _ _ => rfl) ?_
          refine q_Ru_call (v := none) (h2 := (q_kX s c n)) rfl rfl ?_ ?_
          · refine q_Ca_of (Nat.le_of_ble_eq_true rfl) ?_
            refine q_Ru_seg (g2 := (1, [(0, .int a1), (1, .int 4096)], [.int a1], (q_kX s c n))) 1 (fun _ _ => rfl) ?_
            refine q_Ru_rsF (g2 := (4, [(0, .int a1), (1, .int 4096)], [], (q_kX s c n))) rfl rfl h3 ?_
            refine q_Ru_seg (g2 := (6, [(0, .int a1), (1, .int 4096)], [.int 4096, .int a1], (q_kX s c n))) 2 (fun _ _ => rfl) ?_
            refine q_Ru_rsT (g2 := (19, [(0, .int a1), (1, .int 4096)], [], (q_kX s c n))) rfl rfl h4 ?_
            exact q_Ru_ret rfl rfl
          show q_Ru _ _ _ (7, [(0, .int a1)], [], (q_kX s c n)) _
          exact q_Ru_ret rfl rfl
        show q_Ru _ _ _ (4, [(0, .ref 64), (1, .int a1)], [], (q_kX s c n)) _
        refine q_Ru_seg (g2 := (12, [(0, .ref 64), (1, .int a1)], [.int a1, .ref 66], (q_kX s c n))) 4 (fun _ _ => rfl) ?_
        refine q_Ru_call (v := (some (.int r1))) (h2 := (q_kX s c n)) rfl rfl ?_ ?_
        · exact (q_emNX_1p rfl (fun _ => rfl) ((dzt_N90_65 (q_vw 32 1 73 s) c n a1 r1 er1).tb q_TB0_le)).le (Nat.le_of_ble_eq_true rfl)
        show q_Ru _ _ _ (15, [(0, .ref 64), (1, .int a1)], [.int r1], (q_kX s c n)) _
        exact q_Ru_ret rfl rfl
      show q_RP _ _ _ (7, [(0, .ref 64), (1, .int a1), (2, .ref 236)], [.int r1, .int 0, .ref 236], (q_kX s c n)) _ _
      refine q_RP_seg (g2 := (8, [(0, .ref 64), (1, .int a1), (2, .ref 236)], [.long r1.toInt64, .int 0, .ref 236], (q_kX s c n))) 1 (fun _ _ => rfl) ?_
      refine q_RP_rsT (g2 := (9, [(0, .ref 64), (1, .int a1), (2, .ref 236)], [], (q_kX (q_sL s 172 (vp_updL (s.2.2 172) 0 r1.toInt64)) c n))) rfl q_wX172 rfl ?_
      refine q_RP_seg (g2 := (16, [(0, .ref 64), (1, .int a1), (2, .ref 236)], [.int 0], (q_kX (q_sL s 172 (vp_updL (s.2.2 172) 0 r1.toInt64)) c n))) 2 (fun _ _ => rfl) ?_
      exact q_RP_ret rfl rfl rfl
    | false =>
      refine q_RP_cF ?_
      refine q_RP_callH (E := "java/lang/IndexOutOfBoundsException") (tg := 13) (i := 3) (h2 := (q_kX s (c + 1) (n + 6))) rfl rfl ?_ rfl ?_
      · refine q_Ca_of (Nat.le_of_ble_eq_true rfl) ?_
        refine q_Ru_seg (g2 := (1, [(0, .ref 64), (1, .int a1)], [.int a1], (q_kX s c n))) 1 (fun _ _ => rfl) ?_
        refine q_Ru_callX (E := "java/lang/IndexOutOfBoundsException") (h2 := (q_kX s (c + 1) (n + 6))) rfl rfl ?_
        refine q_Ca_of (Nat.le_of_ble_eq_true rfl) ?_
        refine q_Ru_seg (g2 := (4, [(0, .int a1)], [.int 4096, .int a1], (q_kX s c n))) 2 (fun _ _ => rfl) ?_
        refine q_Ru_callX (E := "java/lang/IndexOutOfBoundsException") (h2 := (q_kX s (c + 1) (n + 6))) rfl rfl ?_
        refine q_Ca_of (Nat.le_of_ble_eq_true rfl) ?_
        refine q_Ru_seg (g2 := (1, [(0, .int a1), (1, .int 4096)], [.int a1], (q_kX s c n))) 1 (fun _ _ => rfl) ?_
        refine q_Ru_rsF (g2 := (4, [(0, .int a1), (1, .int 4096)], [], (q_kX s c n))) rfl rfl h3 ?_
        refine q_Ru_seg (g2 := (6, [(0, .int a1), (1, .int 4096)], [.int 4096, .int a1], (q_kX s c n))) 2 (fun _ _ => rfl) ?_
        refine q_Ru_rsF (g2 := (9, [(0, .int a1), (1, .int 4096)], [], (q_kX s c n))) rfl rfl h4 ?_
        exact q_Ru_thr rfl rfl
      show q_RP _ _ _ (13, [(0, .ref 64), (1, .int a1), (2, .ref 236)], [], (q_kX s (c + 1) (n + 6))) _ _
      refine q_RP_seg (g2 := (14, [(0, .ref 64), (1, .int a1), (2, .ref 236)], [.int 1], (q_kX s (c + 1) (n + 6)))) 1 (fun _ _ => rfl) ?_
      exact q_RP_ret rfl rfl rfl
def dz_X4_64_236 (s : q_S) (a1 : Int32) : q_S × Int32 × Nat :=
  cond (decide (a1 < 0)) ((s, 1, 1)) (cond (decide (a1 < 4096)) (((q_sL s 172 (vp_updL (s.2.2 172) 0 (((s.1 4) ((a1 &&& 4095).toNatClampNeg)).toInt64))), 0, 0)) ((s, 1, 1)))
set_option maxHeartbeats 4000000 in
theorem dzt_X4_64_236 (z L : Nat) (xs : Nat → Int32) (s : q_S) (c n : Nat) (a1 : Int32) : q_Ca (q_TBs z L xs) 4 4 [.ref 64, .int a1, .ref 236] (q_kX s c n) ((q_oEX c n) (dz_X4_64_236 s a1)) := by
  refine q_CaT_of (φ := (q_oEX c n)) (Nat.le_of_ble_eq_true rfl) ?_
  unfold dz_X4_64_236
  refine q_RT_seg (g2 := (4, [(0, .ref 64), (1, .int a1), (2, .ref 236)], [.int a1, .ref 64, .int 0, .ref 236], (q_kX s c n))) 4 (fun _ _ => rfl) ?_
  cases h1 : decide (a1 < 0) with
  | true =>
    refine q_RT_cT ?_
    refine q_RT_callH (E := "java/lang/IndexOutOfBoundsException") (tg := 13) (i := 3) (h2 := (q_kX s (c + 1) (n + 6))) rfl rfl ?_ rfl ?_
    · refine q_Ca_of (Nat.le_of_ble_eq_true rfl) ?_
      refine q_Ru_seg (g2 := (1, [(0, .ref 64), (1, .int a1)], [.int a1], (q_kX s c n))) 1 (fun _ _ => rfl) ?_
      refine q_Ru_callX (E := "java/lang/IndexOutOfBoundsException") (h2 := (q_kX s (c + 1) (n + 6))) rfl rfl ?_
      refine q_Ca_of (Nat.le_of_ble_eq_true rfl) ?_
      refine q_Ru_seg (g2 := (4, [(0, .int a1)], [.int 4096, .int a1], (q_kX s c n))) 2 (fun _ _ => rfl) ?_
      refine q_Ru_callX (E := "java/lang/IndexOutOfBoundsException") (h2 := (q_kX s (c + 1) (n + 6))) rfl rfl ?_
      refine q_Ca_of (Nat.le_of_ble_eq_true rfl) ?_
      refine q_Ru_seg (g2 := (1, [(0, .int a1), (1, .int 4096)], [.int a1], (q_kX s c n))) 1 (fun _ _ => rfl) ?_
      refine q_Ru_rsT (g2 := (9, [(0, .int a1), (1, .int 4096)], [], (q_kX s c n))) rfl rfl h1 ?_
      exact q_Ru_thr rfl rfl
    show q_RT _ _ _ (13, [(0, .ref 64), (1, .int a1), (2, .ref 236)], [], (q_kX s (c + 1) (n + 6))) _ _
    refine q_RT_seg (g2 := (14, [(0, .ref 64), (1, .int a1), (2, .ref 236)], [.int 1], (q_kX s (c + 1) (n + 6)))) 1 (fun _ _ => rfl) ?_
    exact q_RT_ret rfl rfl rfl
  | false =>
    refine q_RT_cF ?_
    cases h2 : decide (a1 < 4096) with
    | true =>
      refine q_RT_cT ?_
      refine q_RT_call (v := (some (.int ((s.1 4) ((a1 &&& 4095).toNatClampNeg))))) (h2 := (q_kX s c n)) rfl rfl ?_ ?_
      · refine q_Ca_of (Nat.le_of_ble_eq_true rfl) ?_
        refine q_Ru_seg (g2 := (1, [(0, .ref 64), (1, .int a1)], [.int a1], (q_kX s c n))) 1 (fun _ _ => rfl) ?_
        refine q_Ru_call (v := none) (h2 := (q_kX s c n)) rfl rfl ?_ ?_
        · refine q_Ca_of (Nat.le_of_ble_eq_true rfl) ?_
          refine q_Ru_seg (g2 := (4, [(0, .int a1)], [.int 4096, .int a1], (q_kX s c n))) 2 (fun _ _ => rfl) ?_
          refine q_Ru_call (v := none) (h2 := (q_kX s c n)) rfl rfl ?_ ?_
          · refine q_Ca_of (Nat.le_of_ble_eq_true rfl) ?_
            refine q_Ru_seg (g2 := (1, [(0, .int a1), (1, .int 4096)], [.int a1], (q_kX s c n))) 1 (fun _ _ => rfl) ?_
            refine q_Ru_rsF (g2 := (4, [(0, .int a1), (1, .int 4096)], [], (q_kX s c n))) rfl rfl h1 ?_
            refine q_Ru_seg (g2 := (6, [(0, .int a1), (1, .int 4096)], [.int 4096, .int a1], (q_kX s c n))) 2 (fun _ _ => rfl) ?_
            refine q_Ru_rsT (g2 := (19, [(0, .int a1), (1, .int 4096)], [], (q_kX s c n))) rfl rfl h2 ?_
            exact q_Ru_ret rfl rfl
          show q_Ru _ _ _ (7, [(0, .int a1)], [], (q_kX s c n)) _
          exact q_Ru_ret rfl rfl
        show q_Ru _ _ _ (4, [(0, .ref 64), (1, .int a1)], [], (q_kX s c n)) _
        refine q_Ru_seg (g2 := (22, [(0, .ref 64), (1, .int a1)], [.int (a1 &&& 4095), .ref 68], (q_kX s c n))) 8 (fun _ _ => rfl) ?_
        refine q_Ru_rsT (g2 := (23, [(0, .ref 64), (1, .int a1)], [.int ((s.1 4) ((a1 &&& 4095).toNatClampNeg))], (q_kX s c n))) rfl rfl (q_in_bd (x := a1 &&& 4095) (n := 4096) (U := 4095) (L := 0) (q_and_lo a1 4095) (q_and_hi a1 4095 4095)) ?_
        exact q_Ru_ret rfl rfl
      show q_RT _ _ _ (7, [(0, .ref 64), (1, .int a1), (2, .ref 236)], [.int ((s.1 4) ((a1 &&& 4095).toNatClampNeg)), .int 0, .ref 236], (q_kX s c n)) _ _
      refine q_RT_seg (g2 := (8, [(0, .ref 64), (1, .int a1), (2, .ref 236)], [.long (((s.1 4) ((a1 &&& 4095).toNatClampNeg)).toInt64), .int 0, .ref 236], (q_kX s c n))) 1 (fun _ _ => rfl) ?_
      refine q_RT_rsT (g2 := (9, [(0, .ref 64), (1, .int a1), (2, .ref 236)], [], (q_kX (q_sL s 172 (vp_updL (s.2.2 172) 0 (((s.1 4) ((a1 &&& 4095).toNatClampNeg)).toInt64))) c n))) rfl q_wX172 rfl ?_
      refine q_RT_seg (g2 := (16, [(0, .ref 64), (1, .int a1), (2, .ref 236)], [.int 0], (q_kX (q_sL s 172 (vp_updL (s.2.2 172) 0 (((s.1 4) ((a1 &&& 4095).toNatClampNeg)).toInt64))) c n))) 2 (fun _ _ => rfl) ?_
      exact q_RT_ret rfl rfl rfl
    | false =>
      refine q_RT_cF ?_
      refine q_RT_callH (E := "java/lang/IndexOutOfBoundsException") (tg := 13) (i := 3) (h2 := (q_kX s (c + 1) (n + 6))) rfl rfl ?_ rfl ?_
      · refine q_Ca_of (Nat.le_of_ble_eq_true rfl) ?_
        refine q_Ru_seg (g2 := (1, [(0, .ref 64), (1, .int a1)], [.int a1], (q_kX s c n))) 1 (fun _ _ => rfl) ?_
        refine q_Ru_callX (E := "java/lang/IndexOutOfBoundsException") (h2 := (q_kX s (c + 1) (n + 6))) rfl rfl ?_
        refine q_Ca_of (Nat.le_of_ble_eq_true rfl) ?_
        refine q_Ru_seg (g2 := (4, [(0, .int a1)], [.int 4096, .int a1], (q_kX s c n))) 2 (fun _ _ => rfl) ?_
        refine q_Ru_callX (E := "java/lang/IndexOutOfBoundsException") (h2 := (q_kX s (c + 1) (n + 6))) rfl rfl ?_
        refine q_Ca_of (Nat.le_of_ble_eq_true rfl) ?_
        refine q_Ru_seg (g2 := (1, [(0, .int a1), (1, .int 4096)], [.int a1], (q_kX s c n))) 1 (fun _ _ => rfl) ?_
        refine q_Ru_rsF (g2 := (4, [(0, .int a1), (1, .int 4096)], [], (q_kX s c n))) rfl rfl h1 ?_
        refine q_Ru_seg (g2 := (6, [(0, .int a1), (1, .int 4096)], [.int 4096, .int a1], (q_kX s c n))) 2 (fun _ _ => rfl) ?_
        refine q_Ru_rsF (g2 := (9, [(0, .int a1), (1, .int 4096)], [], (q_kX s c n))) rfl rfl h2 ?_
        exact q_Ru_thr rfl rfl
      show q_RT _ _ _ (13, [(0, .ref 64), (1, .int a1), (2, .ref 236)], [], (q_kX s (c + 1) (n + 6))) _ _
      refine q_RT_seg (g2 := (14, [(0, .ref 64), (1, .int a1), (2, .ref 236)], [.int 1], (q_kX s (c + 1) (n + 6)))) 1 (fun _ _ => rfl) ?_
      exact q_RT_ret rfl rfl rfl
def dz_X5_64_236 (s : q_S) (a1 : Int32) (a2 : Int32) (a3 : Int32) : Option (q_S × Int32 × Nat) :=
  cond (decide (a1 < 0)) (some (s, 1, 1)) (cond (decide (a1 < 4096)) (cond (decide (a2 < 0)) (some (s, 2, 1)) (cond (decide (255 < a2)) (some (s, 2, 1)) (cond (decide (a3 < 0)) (some (s, 2, 1)) (cond (decide (4095 < a3)) (some (s, 2, 1)) (q_let (dz_N190 (q_vw 32 1 73 s) a2) fun r3 => cond (decide (r3 = 2)) (cond (decide (255 < a3)) (some (s, 2, 1)) (q_let (dz_X184_98 s 3 a1 a2 a3) fun r4 => (dz_N79_64 (q_vw 32 1 73 r4) 3 a1 a2 a3).bind fun r5 => some ((q_sL (q_pt 32 3 1 73 r4 r5.1) 172 (vp_updL ((q_pt 32 3 1 73 r4 r5.1).2.2 172) 0 r5.2.toInt64)), 0, 0))) (q_let (dz_X184_98 s 3 a1 a2 a3) fun r6 => (dz_N79_64 (q_vw 32 1 73 r6) 3 a1 a2 a3).bind fun r7 => some ((q_sL (q_pt 32 3 1 73 r6 r7.1) 172 (vp_updL ((q_pt 32 3 1 73 r6 r7.1).2.2 172) 0 r7.2.toInt64)), 0, 0))))))) (some (s, 1, 1)))
set_option maxHeartbeats 4000000 in
theorem dzt_X5_64_236 (z L : Nat) (xs : Nat → Int32) (s : q_S) (c n : Nat) (a1 : Int32) (a2 : Int32) (a3 : Int32) (x : q_S × Int32 × Nat) (h : dz_X5_64_236 s a1 a2 a3 = some x) : q_Ca (q_TBs z L xs) 10 5 [.ref 64, .int a1, .int a2, .int a3, .ref 236] (q_kX s c n) ((q_oEX c n) x) := by
  refine q_CaP_of (φ := (q_oEX c n)) (Nat.le_of_ble_eq_true rfl) ?_ h
  clear h
  unfold dz_X5_64_236
  refine q_RP_seg (g2 := (7, [(0, .ref 64), (1, .int a1), (2, .int a2), (3, .int a3), (4, .ref 236)], [.int a3, .int a2, .int a1, .ref 64, .int 0, .ref 236], (q_kX s c n))) 6 (fun _ _ => rfl) ?_
  cases h9 : decide (a1 < 0) with
  | true =>
    refine q_RP_cT ?_
    refine q_RP_callH (E := "java/lang/IndexOutOfBoundsException") (tg := 17) (i := 5) (h2 := (q_kX s (c + 1) (n + 6))) rfl rfl ?_ rfl ?_
    · refine q_Ca_of (Nat.le_of_ble_eq_true rfl) ?_
      refine q_Ru_seg (g2 := (1, [(0, .ref 64), (1, .int a1), (2, .int a2), (3, .int a3)], [.int a1], (q_kX s c n))) 1 (fun _ _ => rfl) ?_
      refine q_Ru_callX (E := "java/lang/IndexOutOfBoundsException") (h2 := (q_kX s (c + 1) (n + 6))) rfl rfl ?_
      refine q_Ca_of (Nat.le_of_ble_eq_true rfl) ?_
      refine q_Ru_seg (g2 := (4, [(0, .int a1)], [.int 4096, .int a1], (q_kX s c n))) 2 (fun _ _ => rfl) ?_
      refine q_Ru_callX (E := "java/lang/IndexOutOfBoundsException") (h2 := (q_kX s (c + 1) (n + 6))) rfl rfl ?_
      refine q_Ca_of (Nat.le_of_ble_eq_true rfl) ?_
      refine q_Ru_seg (g2 := (1, [(0, .int a1), (1, .int 4096)], [.int a1], (q_kX s c n))) 1 (fun _ _ => rfl) ?_
      refine q_Ru_rsT (g2 := (9, [(0, .int a1), (1, .int 4096)], [], (q_kX s c n))) rfl rfl h9 ?_
      exact q_Ru_thr rfl rfl
    show q_RP _ _ _ (17, [(0, .ref 64), (1, .int a1), (2, .int a2), (3, .int a3), (4, .ref 236)], [], (q_kX s (c + 1) (n + 6))) _ _
    refine q_RP_seg (g2 := (18, [(0, .ref 64), (1, .int a1), (2, .int a2), (3, .int a3), (4, .ref 236)], [.int 1], (q_kX s (c + 1) (n + 6)))) 1 (fun _ _ => rfl) ?_
    exact q_RP_ret rfl rfl rfl
  | false =>
    refine q_RP_cF ?_
    cases h10 : decide (a1 < 4096) with
    | true =>
      refine q_RP_cT ?_
      cases h11 : decide (a2 < 0) with
      | true =>
        refine q_RP_cT ?_
        refine q_RP_callH (E := "java/lang/IllegalArgumentException") (tg := 21) (i := 5) (h2 := (q_kX s (c + 1) (n + 6))) rfl rfl ?_ rfl ?_
        · refine q_Ca_of (Nat.le_of_ble_eq_true rfl) ?_
          refine q_Ru_seg (g2 := (1, [(0, .ref 64), (1, .int a1), (2, .int a2), (3, .int a3)], [.int a1], (q_kX s c n))) 1 (fun _ _ => rfl) ?_
          refine q_Ru_call (v := none) (h2 := (q_kX s c n)) rfl rfl ?_ ?_
          · refine q_Ca_of (Nat.le_of_ble_eq_true rfl) ?_
            refine q_Ru_seg (g2 := (4, [(0, .int a1)], [.int 4096, .int a1], (q_kX s c n))) 2 (fun _ _ => rfl) ?_
            refine q_Ru_call (v := none) (h2 := (q_kX s c n)) rfl rfl ?_ ?_
            · refine q_Ca_of (Nat.le_of_ble_eq_true rfl) ?_
              refine q_Ru_seg (g2 := (1, [(0, .int a1), (1, .int 4096)], [.int a1], (q_kX s c n))) 1 (fun _ _ => rfl) ?_
              refine q_Ru_rsF (g2 := (4, [(0, .int a1), (1, .int 4096)], [], (q_kX s c n))) rfl rfl h9 ?_
              refine q_Ru_seg (g2 := (6, [(0, .int a1), (1, .int 4096)], [.int 4096, .int a1], (q_kX s c n))) 2 (fun _ _ => rfl) ?_
              refine q_Ru_rsT (g2 := (19, [(0, .int a1), (1, .int 4096)], [], (q_kX s c n))) rfl rfl h10 ?_
              exact q_Ru_ret rfl rfl
            show q_Ru _ _ _ (7, [(0, .int a1)], [], (q_kX s c n)) _
            exact q_Ru_ret rfl rfl
          show q_Ru _ _ _ (4, [(0, .ref 64), (1, .int a1), (2, .int a2), (3, .int a3)], [], (q_kX s c n)) _
          refine q_Ru_seg (g2 := (5, [(0, .ref 64), (1, .int a1), (2, .int a2), (3, .int a3)], [.int a2], (q_kX s c n))) 1 (fun _ _ => rfl) ?_
          refine q_Ru_callX (E := "java/lang/IllegalArgumentException") (h2 := (q_kX s (c + 1) (n + 6))) rfl rfl ?_
          refine q_Ca_of (Nat.le_of_ble_eq_true rfl) ?_
          refine q_Ru_seg (g2 := (5, [(0, .int a2)], [.int 255, .int 0, .int a2], (q_kX s c n))) 3 (fun _ _ => rfl) ?_
          refine q_Ru_callX (E := "java/lang/IllegalArgumentException") (h2 := (q_kX s (c + 1) (n + 6))) rfl rfl ?_
          refine q_Ca_of (Nat.le_of_ble_eq_true rfl) ?_
          refine q_Ru_seg (g2 := (2, [(0, .int a2), (1, .int 0), (2, .int 255)], [.int 0, .int a2], (q_kX s c n))) 2 (fun _ _ => rfl) ?_
          refine q_Ru_rsT (g2 := (10, [(0, .int a2), (1, .int 0), (2, .int 255)], [], (q_kX s c n))) rfl rfl h11 ?_
          exact q_Ru_thr rfl rfl
        show q_RP _ _ _ (21, [(0, .ref 64), (1, .int a1), (2, .int a2), (3, .int a3), (4, .ref 236)], [], (q_kX s (c + 1) (n + 6))) _ _
        refine q_RP_seg (g2 := (22, [(0, .ref 64), (1, .int a1), (2, .int a2), (3, .int a3), (4, .ref 236)], [.int 2], (q_kX s (c + 1) (n + 6)))) 1 (fun _ _ => rfl) ?_
        exact q_RP_ret rfl rfl rfl
      | false =>
        refine q_RP_cF ?_
        cases h12 : decide (255 < a2) with
        | true =>
          refine q_RP_cT ?_
          refine q_RP_callH (E := "java/lang/IllegalArgumentException") (tg := 21) (i := 5) (h2 := (q_kX s (c + 1) (n + 6))) rfl rfl ?_ rfl ?_
          · refine q_Ca_of (Nat.le_of_ble_eq_true rfl) ?_
            refine q_Ru_seg (g2 := (1, [(0, .ref 64), (1, .int a1), (2, .int a2), (3, .int a3)], [.int a1], (q_kX s c n))) 1 (fun _ _ => rfl) ?_
            refine q_Ru_call (v := none) (h2 := (q_kX s c n)) rfl rfl ?_ ?_
            · refine q_Ca_of (Nat.le_of_ble_eq_true rfl) ?_
              refine q_Ru_seg (g2 := (4, [(0, .int a1)], [.int 4096, .int a1], (q_kX s c n))) 2 (fun _ _ => rfl) ?_
              refine q_Ru_call (v := none) (h2 := (q_kX s c n)) rfl rfl ?_ ?_
              · refine q_Ca_of (Nat.le_of_ble_eq_true rfl) ?_
                refine q_Ru_seg (g2 := (1, [(0, .int a1), (1, .int 4096)], [.int a1], (q_kX s c n))) 1 (fun _ _ => rfl) ?_
                refine q_Ru_rsF (g2 := (4, [(0, .int a1), (1, .int 4096)], [], (q_kX s c n))) rfl rfl h9 ?_
                refine q_Ru_seg (g2 := (6, [(0, .int a1), (1, .int 4096)], [.int 4096, .int a1], (q_kX s c n))) 2 (fun _ _ => rfl) ?_
                refine q_Ru_rsT (g2 := (19, [(0, .int a1), (1, .int 4096)], [], (q_kX s c n))) rfl rfl h10 ?_
                exact q_Ru_ret rfl rfl
              show q_Ru _ _ _ (7, [(0, .int a1)], [], (q_kX s c n)) _
              exact q_Ru_ret rfl rfl
            show q_Ru _ _ _ (4, [(0, .ref 64), (1, .int a1), (2, .int a2), (3, .int a3)], [], (q_kX s c n)) _
            refine q_Ru_seg (g2 := (5, [(0, .ref 64), (1, .int a1), (2, .int a2), (3, .int a3)], [.int a2], (q_kX s c n))) 1 (fun _ _ => rfl) ?_
            refine q_Ru_callX (E := "java/lang/IllegalArgumentException") (h2 := (q_kX s (c + 1) (n + 6))) rfl rfl ?_
            refine q_Ca_of (Nat.le_of_ble_eq_true rfl) ?_
            refine q_Ru_seg (g2 := (5, [(0, .int a2)], [.int 255, .int 0, .int a2], (q_kX s c n))) 3 (fun _ _ => rfl) ?_
            refine q_Ru_callX (E := "java/lang/IllegalArgumentException") (h2 := (q_kX s (c + 1) (n + 6))) rfl rfl ?_
            refine q_Ca_of (Nat.le_of_ble_eq_true rfl) ?_
            refine q_Ru_seg (g2 := (2, [(0, .int a2), (1, .int 0), (2, .int 255)], [.int 0, .int a2], (q_kX s c n))) 2 (fun _ _ => rfl) ?_
            refine q_Ru_rsF (g2 := (5, [(0, .int a2), (1, .int 0), (2, .int 255)], [], (q_kX s c n))) rfl rfl h11 ?_
            refine q_Ru_seg (g2 := (7, [(0, .int a2), (1, .int 0), (2, .int 255)], [.int 255, .int a2], (q_kX s c n))) 2 (fun _ _ => rfl) ?_
            refine q_Ru_rsF (g2 := (10, [(0, .int a2), (1, .int 0), (2, .int 255)], [], (q_kX s c n))) rfl rfl (q_d_geT h12) ?_
            exact q_Ru_thr rfl rfl
          show q_RP _ _ _ (21, [(0, .ref 64), (1, .int a1), (2, .int a2), (3, .int a3), (4, .ref 236)], [], (q_kX s (c + 1) (n + 6))) _ _
          refine q_RP_seg (g2 := (22, [(0, .ref 64), (1, .int a1), (2, .int a2), (3, .int a3), (4, .ref 236)], [.int 2], (q_kX s (c + 1) (n + 6)))) 1 (fun _ _ => rfl) ?_
          exact q_RP_ret rfl rfl rfl
        | false =>
          refine q_RP_cF ?_
          cases h13 : decide (a3 < 0) with
          | true =>
            refine q_RP_cT ?_
            refine q_RP_callH (E := "java/lang/IllegalArgumentException") (tg := 21) (i := 5) (h2 := (q_kX s (c + 1) (n + 6))) rfl rfl ?_ rfl ?_
            · refine q_Ca_of (Nat.le_of_ble_eq_true rfl) ?_
              refine q_Ru_seg (g2 := (1, [(0, .ref 64), (1, .int a1), (2, .int a2), (3, .int a3)], [.int a1], (q_kX s c n))) 1 (fun _ _ => rfl) ?_
              refine q_Ru_call (v := none) (h2 := (q_kX s c n)) rfl rfl ?_ ?_
              · refine q_Ca_of (Nat.le_of_ble_eq_true rfl) ?_
                refine q_Ru_seg (g2 := (4, [(0, .int a1)], [.int 4096, .int a1], (q_kX s c n))) 2 (fun _ _ => rfl) ?_
                refine q_Ru_call (v := none) (h2 := (q_kX s c n)) rfl rfl ?_ ?_
                · refine q_Ca_of (Nat.le_of_ble_eq_true rfl) ?_
                  refine q_Ru_seg (g2 := (1, [(0, .int a1), (1, .int 4096)], [.int a1], (q_kX s c n))) 1 (fun _ _ => rfl) ?_
                  refine q_Ru_rsF (g2 := (4, [(0, .int a1), (1, .int 4096)], [], (q_kX s c n))) rfl rfl h9 ?_
                  refine q_Ru_seg (g2 := (6, [(0, .int a1), (1, .int 4096)], [.int 4096, .int a1], (q_kX s c n))) 2 (fun _ _ => rfl) ?_
                  refine q_Ru_rsT (g2 := (19, [(0, .int a1), (1, .int 4096)], [], (q_kX s c n))) rfl rfl h10 ?_
                  exact q_Ru_ret rfl rfl
                show q_Ru _ _ _ (7, [(0, .int a1)], [], (q_kX s c n)) _
                exact q_Ru_ret rfl rfl
              show q_Ru _ _ _ (4, [(0, .ref 64), (1, .int a1), (2, .int a2), (3, .int a3)], [], (q_kX s c n)) _
              refine q_Ru_seg (g2 := (5, [(0, .ref 64), (1, .int a1), (2, .int a2), (3, .int a3)], [.int a2], (q_kX s c n))) 1 (fun _ _ => rfl) ?_
              refine q_Ru_call (v := none) (h2 := (q_kX s c n)) rfl rfl ?_ ?_
              · refine q_Ca_of (Nat.le_of_ble_eq_true rfl) ?_
                refine q_Ru_seg (g2 := (5, [(0, .int a2)], [.int 255, .int 0, .int a2], (q_kX s c n))) 3 (fun _ _ => rfl) ?_
                refine q_Ru_call (v := none) (h2 := (q_kX s c n)) rfl rfl ?_ ?_
                · refine q_Ca_of (Nat.le_of_ble_eq_true rfl) ?_
                  refine q_Ru_seg (g2 := (2, [(0, .int a2), (1, .int 0), (2, .int 255)], [.int 0, .int a2], (q_kX s c n))) 2 (fun _ _ => rfl) ?_
                  refine q_Ru_rsF (g2 := (5, [(0, .int a2), (1, .int 0), (2, .int 255)], [], (q_kX s c n))) rfl rfl h11 ?_
                  refine q_Ru_seg (g2 := (7, [(0, .int a2), (1, .int 0), (2, .int 255)], [.int 255, .int a2], (q_kX s c n))) 2 (fun _ _ => rfl) ?_
                  refine q_Ru_rsT (g2 := (20, [(0, .int a2), (1, .int 0), (2, .int 255)], [], (q_kX s c n))) rfl rfl (q_d_geF h12) ?_
                  exact q_Ru_ret rfl rfl
                show q_Ru _ _ _ (8, [(0, .int a2)], [], (q_kX s c n)) _
                exact q_Ru_ret rfl rfl
              show q_Ru _ _ _ (8, [(0, .ref 64), (1, .int a1), (2, .int a2), (3, .int a3)], [], (q_kX s c n)) _
              refine q_Ru_seg (g2 := (13, [(0, .ref 64), (1, .int a1), (2, .int a2), (3, .int a3)], [.int 4095, .int 0, .int a3], (q_kX s c n))) 3 (fun _ _ => rfl) ?_
              refine q_Ru_callX (E := "java/lang/IllegalArgumentException") (h2 := (q_kX s (c + 1) (n + 6))) rfl rfl ?_
              refine q_Ca_of (Nat.le_of_ble_eq_true rfl) ?_
              refine q_Ru_seg (g2 := (2, [(0, .int a3), (1, .int 0), (2, .int 4095)], [.int 0, .int a3], (q_kX s c n))) 2 (fun _ _ => rfl) ?_
              refine q_Ru_rsT (g2 := (10, [(0, .int a3), (1, .int 0), (2, .int 4095)], [], (q_kX s c n))) rfl rfl h13 ?_
              exact q_Ru_thr rfl rfl
            show q_RP _ _ _ (21, [(0, .ref 64), (1, .int a1), (2, .int a2), (3, .int a3), (4, .ref 236)], [], (q_kX s (c + 1) (n + 6))) _ _
            refine q_RP_seg (g2 := (22, [(0, .ref 64), (1, .int a1), (2, .int a2), (3, .int a3), (4, .ref 236)], [.int 2], (q_kX s (c + 1) (n + 6)))) 1 (fun _ _ => rfl) ?_
            exact q_RP_ret rfl rfl rfl
          | false =>
            refine q_RP_cF ?_
            cases h14 : decide (4095 < a3) with
            | true =>
              refine q_RP_cT ?_
              refine q_RP_callH (E := "java/lang/IllegalArgumentException") (tg := 21) (i := 5) (h2 := (q_kX s (c + 1) (n + 6))) rfl rfl ?_ rfl ?_
              · refine q_Ca_of (Nat.le_of_ble_eq_true rfl) ?_
                refine q_Ru_seg (g2 := (1, [(0, .ref 64), (1, .int a1), (2, .int a2), (3, .int a3)], [.int a1], (q_kX s c n))) 1 (fun _ _ => rfl) ?_
                refine q_Ru_call (v := none) (h2 := (q_kX s c n)) rfl rfl ?_ ?_
                · refine q_Ca_of (Nat.le_of_ble_eq_true rfl) ?_
                  refine q_Ru_seg (g2 := (4, [(0, .int a1)], [.int 4096, .int a1], (q_kX s c n))) 2 (fun _ _ => rfl) ?_
                  refine q_Ru_call (v := none) (h2 := (q_kX s c n)) rfl rfl ?_ ?_
                  · refine q_Ca_of (Nat.le_of_ble_eq_true rfl) ?_
                    refine q_Ru_seg (g2 := (1, [(0, .int a1), (1, .int 4096)], [.int a1], (q_kX s c n))) 1 (fun _ _ => rfl) ?_
                    refine q_Ru_rsF (g2 := (4, [(0, .int a1), (1, .int 4096)], [], (q_kX s c n))) rfl rfl h9 ?_
                    refine q_Ru_seg (g2 := (6, [(0, .int a1), (1, .int 4096)], [.int 4096, .int a1], (q_kX s c n))) 2 (fun _ _ => rfl) ?_
                    refine q_Ru_rsT (g2 := (19, [(0, .int a1), (1, .int 4096)], [], (q_kX s c n))) rfl rfl h10 ?_
                    exact q_Ru_ret rfl rfl
                  show q_Ru _ _ _ (7, [(0, .int a1)], [], (q_kX s c n)) _
                  exact q_Ru_ret rfl rfl
                show q_Ru _ _ _ (4, [(0, .ref 64), (1, .int a1), (2, .int a2), (3, .int a3)], [], (q_kX s c n)) _
                refine q_Ru_seg (g2 := (5, [(0, .ref 64), (1, .int a1), (2, .int a2), (3, .int a3)], [.int a2], (q_kX s c n))) 1 (fun _ _ => rfl) ?_
                refine q_Ru_call (v := none) (h2 := (q_kX s c n)) rfl rfl ?_ ?_
                · refine q_Ca_of (Nat.le_of_ble_eq_true rfl) ?_
                  refine q_Ru_seg (g2 := (5, [(0, .int a2)], [.int 255, .int 0, .int a2], (q_kX s c n))) 3 (fun _ _ => rfl) ?_
                  refine q_Ru_call (v := none) (h2 := (q_kX s c n)) rfl rfl ?_ ?_
                  · refine q_Ca_of (Nat.le_of_ble_eq_true rfl) ?_
                    refine q_Ru_seg (g2 := (2, [(0, .int a2), (1, .int 0), (2, .int 255)], [.int 0, .int a2], (q_kX s c n))) 2 (fun _ _ => rfl) ?_
                    refine q_Ru_rsF (g2 := (5, [(0, .int a2), (1, .int 0), (2, .int 255)], [], (q_kX s c n))) rfl rfl h11 ?_
                    refine q_Ru_seg (g2 := (7, [(0, .int a2), (1, .int 0), (2, .int 255)], [.int 255, .int a2], (q_kX s c n))) 2 (fun _ _ => rfl) ?_
                    refine q_Ru_rsT (g2 := (20, [(0, .int a2), (1, .int 0), (2, .int 255)], [], (q_kX s c n))) rfl rfl (q_d_geF h12) ?_
                    exact q_Ru_ret rfl rfl
                  show q_Ru _ _ _ (8, [(0, .int a2)], [], (q_kX s c n)) _
                  exact q_Ru_ret rfl rfl
                show q_Ru _ _ _ (8, [(0, .ref 64), (1, .int a1), (2, .int a2), (3, .int a3)], [], (q_kX s c n)) _
                refine q_Ru_seg (g2 := (13, [(0, .ref 64), (1, .int a1), (2, .int a2), (3, .int a3)], [.int 4095, .int 0, .int a3], (q_kX s c n))) 3 (fun _ _ => rfl) ?_
                refine q_Ru_callX (E := "java/lang/IllegalArgumentException") (h2 := (q_kX s (c + 1) (n + 6))) rfl rfl ?_
                refine q_Ca_of (Nat.le_of_ble_eq_true rfl) ?_
                refine q_Ru_seg (g2 := (2, [(0, .int a3), (1, .int 0), (2, .int 4095)], [.int 0, .int a3], (q_kX s c n))) 2 (fun _ _ => rfl) ?_
                refine q_Ru_rsF (g2 := (5, [(0, .int a3), (1, .int 0), (2, .int 4095)], [], (q_kX s c n))) rfl rfl h13 ?_
                refine q_Ru_seg (g2 := (7, [(0, .int a3), (1, .int 0), (2, .int 4095)], [.int 4095, .int a3], (q_kX s c n))) 2 (fun _ _ => rfl) ?_
                refine q_Ru_rsF (g2 := (10, [(0, .int a3), (1, .int 0), (2, .int 4095)], [], (q_kX s c n))) rfl rfl (q_d_geT h14) ?_
                exact q_Ru_thr rfl rfl
              show q_RP _ _ _ (21, [(0, .ref 64), (1, .int a1), (2, .int a2), (3, .int a3), (4, .ref 236)], [], (q_kX s (c + 1) (n + 6))) _ _
              refine q_RP_seg (g2 := (22, [(0, .ref 64), (1, .int a1), (2, .int a2), (3, .int a3), (4, .ref 236)], [.int 2], (q_kX s (c + 1) (n + 6)))) 1 (fun _ _ => rfl) ?_
              exact q_RP_ret rfl rfl rfl
            | false =>
              refine q_RP_cF ?_
              generalize er3 : dz_N190 (q_vw 32 1 73 s) a2 = r3
              refine q_RP_let ?_
              cases h15 : decide (r3 = 2) with
              | true =>
                refine q_RP_cT ?_
                cases h16 : decide (255 < a3) with
                | true =>
                  refine q_RP_cT ?_
                  refine q_RP_callH (E := "java/lang/IllegalArgumentException") (tg := 21) (i := 5) (h2 := (q_kX s (c + 1) (n + 6))) rfl rfl ?_ rfl ?_
                  · refine q_Ca_of (Nat.le_of_ble_eq_true rfl) ?_
                    refine q_Ru_seg (g2 := (1, [(0, .ref 64), (1, .int a1), (2, .int a2), (3, .int a3)], [.int a1], (q_kX s c n))) 1 (fun _ _ => rfl) ?_
                    refine q_Ru_call (v := none) (h2 := (q_kX s c n)) rfl rfl ?_ ?_
                    · refine q_Ca_of (Nat.le_of_ble_eq_true rfl) ?_
                      refine q_Ru_seg (g2 := (4, [(0, .int a1)], [.int 4096, .int a1], (q_kX s c n))) 2 (fun _ _ => rfl) ?_
                      refine q_Ru_call (v := none) (h2 := (q_kX s c n)) rfl rfl ?_ ?_
                      · refine q_Ca_of (Nat.le_of_ble_eq_true rfl) ?_
                        refine q_Ru_seg (g2 := (1, [(0, .int a1), (1, .int 4096)], [.int a1], (q_kX s c n))) 1 (fun _ _ => rfl) ?_
                        refine q_Ru_rsF (g2 := (4, [(0, .int a1), (1, .int 4096)], [], (q_kX s c n))) rfl rfl h9 ?_
                        refine q_Ru_seg (g2 := (6, [(0, .int a1), (1, .int 4096)], [.int 4096, .int a1], (q_kX s c n))) 2 (fun _ _ => rfl) ?_
                        refine q_Ru_rsT (g2 := (19, [(0, .int a1), (1, .int 4096)], [], (q_kX s c n))) rfl rfl h10 ?_
                        exact q_Ru_ret rfl rfl
                      show q_Ru _ _ _ (7, [(0, .int a1)], [], (q_kX s c n)) _
                      exact q_Ru_ret rfl rfl
                    show q_Ru _ _ _ (4, [(0, .ref 64), (1, .int a1), (2, .int a2), (3, .int a3)], [], (q_kX s c n)) _
                    refine q_Ru_seg (g2 := (5, [(0, .ref 64), (1, .int a1), (2, .int a2), (3, .int a3)], [.int a2], (q_kX s c n))) 1 (fun _ _ => rfl) ?_
                    refine q_Ru_call (v := none) (h2 := (q_kX s c n)) rfl rfl ?_ ?_
                    · refine q_Ca_of (Nat.le_of_ble_eq_true rfl) ?_
                      refine q_Ru_seg (g2 := (5, [(0, .int a2)], [.int 255, .int 0, .int a2], (q_kX s c n))) 3 (fun _ _ => rfl) ?_
                      refine q_Ru_call (v := none) (h2 := (q_kX s c n)) rfl rfl ?_ ?_
                      · refine q_Ca_of (Nat.le_of_ble_eq_true rfl) ?_
                        refine q_Ru_seg (g2 := (2, [(0, .int a2), (1, .int 0), (2, .int 255)], [.int 0, .int a2], (q_kX s c n))) 2 (fun _ _ => rfl) ?_
                        refine q_Ru_rsF (g2 := (5, [(0, .int a2), (1, .int 0), (2, .int 255)], [], (q_kX s c n))) rfl rfl h11 ?_
                        refine q_Ru_seg (g2 := (7, [(0, .int a2), (1, .int 0), (2, .int 255)], [.int 255, .int a2], (q_kX s c n))) 2 (fun _ _ => rfl) ?_
                        refine q_Ru_rsT (g2 := (20, [(0, .int a2), (1, .int 0), (2, .int 255)], [], (q_kX s c n))) rfl rfl (q_d_geF h12) ?_
                        exact q_Ru_ret rfl rfl
                      show q_Ru _ _ _ (8, [(0, .int a2)], [], (q_kX s c n)) _
                      exact q_Ru_ret rfl rfl
                    show q_Ru _ _ _ (8, [(0, .ref 64), (1, .int a1), (2, .int a2), (3, .int a3)], [], (q_kX s c n)) _
                    refine q_Ru_seg (g2 := (13, [(0, .ref 64), (1, .int a1), (2, .int a2), (3, .int a3)], [.int 4095, .int 0, .int a3], (q_kX s c n))) 3 (fun _ _ => rfl) ?_
                    refine q_Ru_call (v := none) (h2 := (q_kX s c n)) rfl rfl ?_ ?_
                    · refine q_Ca_of (Nat.le_of_ble_eq_true rfl) ?_
                      refine q_Ru_seg (g2 := (2, [(0, .int a3), (1, .int 0), (2, .int 4095)], [.int 0, .int a3], (q_kX s c n))) 2 (fun _ _ => rfl) ?_
                      refine q_Ru_rsF (g2 := (5, [(0, .int a3), (1, .int 0), (2, .int 4095)], [], (q_kX s c n))) rfl rfl h13 ?_
                      refine q_Ru_seg (g2 := (7, [(0, .int a3), (1, .int 0), (2, .int 4095)], [.int 4095, .int a3], (q_kX s c n))) 2 (fun _ _ => rfl) ?_
                      refine q_Ru_rsT (g2 := (20, [(0, .int a3), (1, .int 0), (2, .int 4095)], [], (q_kX s c n))) rfl rfl (q_d_geF h14) ?_
                      exact q_Ru_ret rfl rfl
                    show q_Ru _ _ _ (16, [(0, .ref 64), (1, .int a1), (2, .int a2), (3, .int a3)], [], (q_kX s c n)) _
                    refine q_Ru_seg (g2 := (17, [(0, .ref 64), (1, .int a1), (2, .int a2), (3, .int a3)], [.int a2], (q_kX s c n))) 1 (fun _ _ => rfl) ?_
                    refine q_Ru_call (v := (some (.int r3))) (h2 := (q_kX s c n)) rfl rfl ?_ ?_
                    · exact (q_emNX_1p rfl (fun _ => rfl) ((q_cE (φ := (q_oP (q_kN (q_vw 32 1 73 s) c n))) er3 (dzt_N190 (q_vw 32 1 73 s) c n a2)).tb q_TB0_le)).le (Nat.le_of_ble_eq_true rfl)
                    show q_Ru _ _ _ (20, [(0, .ref 64), (1, .int a1), (2, .int a2), (3, .int a3)], [.int r3], (q_kX s c n)) _
                    refine q_Ru_seg (g2 := (21, [(0, .ref 64), (1, .int a1), (2, .int a2), (3, .int a3)], [.int 2, .int r3], (q_kX s c n))) 1 (fun _ _ => rfl) ?_
                    refine q_Ru_rsF (g2 := (24, [(0, .ref 64), (1, .int a1), (2, .int a2), (3, .int a3)], [], (q_kX s c n))) rfl rfl (q_d_neT h15) ?_
                    refine q_Ru_seg (g2 := (25, [(0, .ref 64), (1, .int a1), (2, .int a2), (3, .int a3)], [.int a3], (q_kX s c n))) 1 (fun _ _ => rfl) ?_
                    refine q_Ru_callX (E := "java/lang/IllegalArgumentException") (h2 := (q_kX s (c + 1) (n + 6))) rfl rfl ?_
                    refine q_Ca_of (Nat.le_of_ble_eq_true rfl) ?_
                    refine q_Ru_seg (g2 := (5, [(0, .int a3)], [.int 255, .int 0, .int a3], (q_kX s c n))) 3 (fun _ _ => rfl) ?_
                    refine q_Ru_callX (E := "java/lang/IllegalArgumentException") (h2 := (q_kX s (c + 1) (n + 6))) rfl rfl ?_
                    refine q_Ca_of (Nat.le_of_ble_eq_true rfl) ?_
                    refine q_Ru_seg (g2 := (2, [(0, .int a3), (1, .int 0), (2, .int 255)], [.int 0, .int a3], (q_kX s c n))) 2 (fun _ _ => rfl) ?_
                    refine q_Ru_rsF (g2 := (5, [(0, .int a3), (1, .int 0), (2, .int 255)], [], (q_kX s c n))) rfl rfl h13 ?_
                    refine q_Ru_seg (g2 := (7, [(0, .int a3), (1, .int 0), (2, .int 255)], [.int 255, .int a3], (q_kX s c n))) 2 (fun _ _ => rfl) ?_
                    refine q_Ru_rsF (g2 := (10, [(0, .int a3), (1, .int 0), (2, .int 255)], [], (q_kX s c n))) rfl rfl (q_d_geT h16) ?_
                    exact q_Ru_thr rfl rfl
                  show q_RP _ _ _ (21, [(0, .ref 64), (1, .int a1), (2, .int a2), (3, .int a3), (4, .ref 236)], [], (q_kX s (c + 1) (n + 6))) _ _
                  refine q_RP_seg (g2 := (22, [(0, .ref 64), (1, .int a1), (2, .int a2), (3, .int a3), (4, .ref 236)], [.int 2], (q_kX s (c + 1) (n + 6)))) 1 (fun _ _ => rfl) ?_
                  exact q_RP_ret rfl rfl rfl
                | false =>
                  refine q_RP_cF ?_
                  generalize er4 : dz_X184_98 s 3 a1 a2 a3 = r4
                  refine q_RP_let ?_
                  refine q_RP_bd fun r5 er5 => ?_
                  refine q_RP_call (v := (some (.int r5.2))) (h2 := (q_kX (q_pt 32 3 1 73 r4 r5.1) c n)) rfl rfl ?_ ?_
                  · refine q_Ca_of (Nat.le_of_ble_eq_true rfl) ?_
                    refine q_Ru_seg (g2 := (1, [(0, .ref 64), (1, .int a1), (2, .int a2), (3, .int a3)], [.int a1], (q_kX s c n))) 1 (fun _ _ => rfl) ?_
                    refine q_Ru_call (v := none) (h2 := (q_kX s c n)) rfl rfl ?_ ?_
                    · refine q_Ca_of (Nat.le_of_ble_eq_true rfl) ?_
                      refine q_Ru_seg (g2 := (4, [(0, .int a1)], [.int 4096, .int a1], (q_kX s c n))) 2 (fun _ _ => rfl) ?_
                      refine q_Ru_call (v := none) (h2 := (q_kX s c n)) rfl rfl ?_ ?_
                      · refine q_Ca_of (Nat.le_of_ble_eq_true rfl) ?_
                        refine q_Ru_seg (g2 := (1, [(0, .int a1), (1, .int 4096)], [.int a1], (q_kX s c n))) 1 (fun _ _ => rfl) ?_
                        refine q_Ru_rsF (g2 := (4, [(0, .int a1), (1, .int 4096)], [], (q_kX s c n))) rfl rfl h9 ?_
                        refine q_Ru_seg (g2 := (6, [(0, .int a1), (1, .int 4096)], [.int 4096, .int a1], (q_kX s c n))) 2 (fun _ _ => rfl) ?_
                        refine q_Ru_rsT (g2 := (19, [(0, .int a1), (1, .int 4096)], [], (q_kX s c n))) rfl rfl h10 ?_
                        exact q_Ru_ret rfl rfl
                      show q_Ru _ _ _ (7, [(0, .int a1)], [], (q_kX s c n)) _
                      exact q_Ru_ret rfl rfl
                    show q_Ru _ _ _ (4, [(0, .ref 64), (1, .int a1), (2, .int a2), (3, .int a3)], [], (q_kX s c n)) _
                    refine q_Ru_seg (g2 := (5, [(0, .ref 64), (1, .int a1), (2, .int a2), (3, .int a3)], [.int a2], (q_kX s c n))) 1 (fun _ _ => rfl) ?_
                    refine q_Ru_call (v := none) (h2 := (q_kX s c n)) rfl rfl ?_ ?_
                    · refine q_Ca_of (Nat.le_of_ble_eq_true rfl) ?_
                      refine q_Ru_seg (g2 := (5, [(0, .int a2)], [.int 255, .int 0, .int a2], (q_kX s c n))) 3 (fun _ _ => rfl) ?_
                      refine q_Ru_call (v := none) (h2 := (q_kX s c n)) rfl rfl ?_ ?_
                      · refine q_Ca_of (Nat.le_of_ble_eq_true rfl) ?_
                        refine q_Ru_seg (g2 := (2, [(0, .int a2), (1, .int 0), (2, .int 255)], [.int 0, .int a2], (q_kX s c n))) 2 (fun _ _ => rfl) ?_
                        refine q_Ru_rsF (g2 := (5, [(0, .int a2), (1, .int 0), (2, .int 255)], [], (q_kX s c n))) rfl rfl h11 ?_
                        refine q_Ru_seg (g2 := (7, [(0, .int a2), (1, .int 0), (2, .int 255)], [.int 255, .int a2], (q_kX s c n))) 2 (fun _ _ => rfl) ?_
                        refine q_Ru_rsT (g2 := (20, [(0, .int a2), (1, .int 0), (2, .int 255)], [], (q_kX s c n))) rfl rfl (q_d_geF h12) ?_
                        exact q_Ru_ret rfl rfl
                      show q_Ru _ _ _ (8, [(0, .int a2)], [], (q_kX s c n)) _
                      exact q_Ru_ret rfl rfl
                    show q_Ru _ _ _ (8, [(0, .ref 64), (1, .int a1), (2, .int a2), (3, .int a3)], [], (q_kX s c n)) _
                    refine q_Ru_seg (g2 := (13, [(0, .ref 64), (1, .int a1), (2, .int a2), (3, .int a3)], [.int 4095, .int 0, .int a3], (q_kX s c n))) 3 (fun _ _ => rfl) ?_
                    refine q_Ru_call (v := none) (h2 := (q_kX s c n)) rfl rfl ?_ ?_
                    · refine q_Ca_of (Nat.le_of_ble_eq_true rfl) ?_
                      refine q_Ru_seg (g2 := (2, [(0, .int a3), (1, .int 0), (2, .int 4095)], [.int 0, .int a3], (q_kX s c n))) 2 (fun _ _ => rfl) ?_
                      refine q_Ru_rsF (g2 := (5, [(0, .int a3), (1, .int 0), (2, .int 4095)], [], (q_kX s c n))) rfl rfl h13 ?_
                      refine q_Ru_seg (g2 := (7, [(0, .int a3), (1, .int 0), (2, .int 4095)], [.int 4095, .int a3], (q_kX s c n))) 2 (fun _ _ => rfl) ?_
                      refine q_Ru_rsT (g2 := (20, [(0, .int a3), (1, .int 0), (2, .int 4095)], [], (q_kX s c n))) rfl rfl (q_d_geF h14) ?_
                      exact q_Ru_ret rfl rfl
                    show q_Ru _ _ _ (16, [(0, .ref 64), (1, .int a1), (2, .int a2), (3, .int a3)], [], (q_kX s c n)) _
                    refine q_Ru_seg (g2 := (17, [(0, .ref 64), (1, .int a1), (2, .int a2), (3, .int a3)], [.int a2], (q_kX s c n))) 1 (fun _ _ => rfl) ?_
                    refine q_Ru_call (v := (some (.int r3))) (h2 := (q_kX s c n)) rfl rfl ?_ ?_
                    · exact (q_emNX_1p rfl (fun _ => rfl) ((q_cE (φ := (q_oP (q_kN (q_vw 32 1 73 s) c n))) er3 (dzt_N190 (q_vw 32 1 73 s) c n a2)).tb q_TB0_le)).le (Nat.le_of_ble_eq_true rfl)
                    show q_Ru _ _ _ (20, [(0, .ref 64), (1, .int a1), (2, .int a2), (3, .int a3)], [.int r3], (q_kX s c n)) _
                    refine q_Ru_seg (g2 := (21, [(0, .ref 64), (1, .int a1), (2, .int a2), (3, .int a3)], [.int 2, .int r3], (q_kX s c n))) 1 (fun _ _ => rfl) ?_
                    refine q_Ru_rsF (g2 := (24, [(0, .ref 64), (1, .int a1), (2, .int a2), (3, .int a3)], [], (q_kX s c n))) rfl rfl (q_d_neT h15) ?_
                    refine q_Ru_seg (g2 := (25, [(0, .ref 64), (1, .int a1), (2, .int a2), (3, .int a3)], [.int a3], (q_kX s c n))) 1 (fun _ _ => rfl) ?_
                    refine q_Ru_call (v := none) (h2 := (q_kX s c n)) rfl rfl ?_ ?_
                    · refine q_Ca_of (Nat.le_of_ble_eq_true rfl) ?_
                      refine q_Ru_seg (g2 := (5, [(0, .int a3)], [.int 255, .int 0, .int a3], (q_kX s c n))) 3 (fun _ _ => rfl) ?_
                      refine q_Ru_call (v := none) (h2 := (q_kX s c n)) rfl rfl ?_ ?_
                      · refine q_Ca_of (Nat.le_of_ble_eq_true rfl) ?_
                        refine q_Ru_seg (g2 := (2, [(0, .int a3), (1, .int 0), (2, .int 255)], [.int 0, .int a3], (q_kX s c n))) 2 (fun _ _ => rfl) ?_
                        refine q_Ru_rsF (g2 := (5, [(0, .int a3), (1, .int 0), (2, .int 255)], [], (q_kX s c n))) rfl rfl h13 ?_
                        refine q_Ru_seg (g2 := (7, [(0, .int a3), (1, .int 0), (2, .int 255)], [.int 255, .int a3], (q_kX s c n))) 2 (fun _ _ => rfl) ?_
                        refine q_Ru_rsT (g2 := (20, [(0, .int a3), (1, .int 0), (2, .int 255)], [], (q_kX s c n))) rfl rfl (q_d_geF h16) ?_
                        exact q_Ru_ret rfl rfl
                      show q_Ru _ _ _ (8, [(0, .int a3)], [], (q_kX s c n)) _
                      exact q_Ru_ret rfl rfl
                    show q_Ru _ _ _ (28, [(0, .ref 64), (1, .int a1), (2, .int a2), (3, .int a3)], [], (q_kX s c n)) _
                    refine q_Ru_seg (g2 := (36, [(0, .ref 64), (1, .int a1), (2, .int a2), (3, .int a3)], [.int a3, .int a2, .int a1, .int 3, .ref 98], (q_kX s c n))) 6 (fun _ _ => rfl) ?_
                    refine q_Ru_call (v := none) (h2 := (q_kX r4 c n)) rfl rfl ?_ ?_
                    · exact (q_cE (φ := (q_oSX c n)) er4 (dzt_X184_98 z L xs s c n 3 a1 a2 a3)).le (Nat.le_of_ble_eq_true rfl)
                    show q_Ru _ _ _ (39, [(0, .ref 64), (1, .int a1), (2, .int a2), (3, .int a3)], [], (q_kX r4 c n)) _
                    refine q_Ru_seg (g2 := (47, [(0, .ref 64), (1, .int a1), (2, .int a2), (3, .int a3)], [.int a3, .int a2, .int a1, .int 3, .ref 65], (q_kX r4 c n))) 6 (fun _ _ => rfl) ?_
                    refine q_Ru_call (v := (some (.int r5.2))) (h2 := (q_kX (q_pt 32 3 1 73 r4 r5.1) c n)) rfl rfl ?_ ?_
                    · exact (q_emNX_1 rfl (fun _ => rfl) ((dzt_N79_64 (q_vw 32 1 73 r4) c n 3 a1 a2 a3 r5 er5).tb q_TB0_le)).le (Nat.le_of_ble_eq_true rfl)
                    show q_Ru _ _ _ (50, [(0, .ref 64), (1, .int a1), (2, .int a2), (3, .int a3)], [.int r5.2], (q_kX (q_pt 32 3 1 73 r4 r5.1) c n)) _
                    exact q_Ru_ret rfl rfl
                  show q_RP _ _ _ (10, [(0, .ref 64), (1, .int a1), (2, .int a2), (3, .int a3), (4, .ref 236)], [.int r5.2, .int 0, .ref 236], (q_kX (q_pt 32 3 1 73 r4 r5.1) c n)) _ _
                  refine q_RP_seg (g2 := (11, [(0, .ref 64), (1, .int a1), (2, .int a2), (3, .int a3), (4, .ref 236)], [.long r5.2.toInt64, .int 0, .ref 236], (q_kX (q_pt 32 3 1 73 r4 r5.1) c n))) 1 (fun _ _ => rfl) ?_
                  refine q_RP_rsT (g2 := (12, [(0, .ref 64), (1, .int a1), (2, .int a2), (3, .int a3), (4, .ref 236)], [], (q_kX (q_sL (q_pt 32 3 1 73 r4 r5.1) 172 (vp_updL ((q_pt 32 3 1 73 r4 r5.1).2.2 172) 0 r5.2.toInt64)) c n))) rfl q_wX172 rfl ?_
                  refine q_RP_seg (g2 := (24, [(0, .ref 64), (1, .int a1), (2, .int a2), (3, .int a3), (4, .ref 236)], [.int 0], (q_kX (q_sL (q_pt 32 3 1 73 r4 r5.1) 172 (vp_updL ((q_pt 32 3 1 73 r4 r5.1).2.2 172) 0 r5.2.toInt64)) c n))) 2 (fun _ _ => rfl) ?_
                  exact q_RP_ret rfl rfl rfl
              | false =>
                refine q_RP_cF ?_
                generalize er6 : dz_X184_98 s 3 a1 a2 a3 = r6
                refine q_RP_let ?_
                refine q_RP_bd fun r7 er7 => ?_
                refine q_RP_call (v := (some (.int r7.2))) (h2 := (q_kX (q_pt 32 3 1 73 r6 r7.1) c n)) rfl rfl ?_ ?_
                · refine q_Ca_of (Nat.le_of_ble_eq_true rfl) ?_
                  refine q_Ru_seg (g2 := (1, [(0, .ref 64), (1, .int a1), (2, .int a2), (3, .int a3)], [.int a1], (q_kX s c n))) 1 (fun _ _ => rfl) ?_
                  refine q_Ru_call (v := none) (h2 := (q_kX s c n)) rfl rfl ?_ ?_
                  · refine q_Ca_of (Nat.le_of_ble_eq_true rfl) ?_
                    refine q_Ru_seg (g2 := (4, [(0, .int a1)], [.int 4096, .int a1], (q_kX s c n))) 2 (fun _ _ => rfl) ?_
                    refine q_Ru_call (v := none) (h2 := (q_kX s c n)) rfl rfl ?_ ?_
                    · refine q_Ca_of (Nat.le_of_ble_eq_true rfl) ?_
                      refine q_Ru_seg (g2 := (1, [(0, .int a1), (1, .int 4096)], [.int a1], (q_kX s c n))) 1 (fun _ _ => rfl) ?_
                      refine q_Ru_rsF (g2 := (4, [(0, .int a1), (1, .int 4096)], [], (q_kX s c n))) rfl rfl h9 ?_
                      refine q_Ru_seg (g2 := (6, [(0, .int a1), (1, .int 4096)], [.int 4096, .int a1], (q_kX s c n))) 2 (fun _ _ => rfl) ?_
                      refine q_Ru_rsT (g2 := (19, [(0, .int a1), (1, .int 4096)], [], (q_kX s c n))) rfl rfl h10 ?_
                      exact q_Ru_ret rfl rfl
                    show q_Ru _ _ _ (7, [(0, .int a1)], [], (q_kX s c n)) _
                    exact q_Ru_ret rfl rfl
                  show q_Ru _ _ _ (4, [(0, .ref 64), (1, .int a1), (2, .int a2), (3, .int a3)], [], (q_kX s c n)) _
                  refine q_Ru_seg (g2 := (5, [(0, .ref 64), (1, .int a1), (2, .int a2), (3, .int a3)], [.int a2], (q_kX s c n))) 1 (fun _ _ => rfl) ?_
                  refine q_Ru_call (v := none) (h2 := (q_kX s c n)) rfl rfl ?_ ?_
                  · refine q_Ca_of (Nat.le_of_ble_eq_true rfl) ?_
                    refine q_Ru_seg (g2 := (5, [(0, .int a2)], [.int 255, .int 0, .int a2], (q_kX s c n))) 3 (fun _ _ => rfl) ?_
                    refine q_Ru_call (v := none) (h2 := (q_kX s c n)) rfl rfl ?_ ?_
                    · refine q_Ca_of (Nat.le_of_ble_eq_true rfl) ?_
                      refine q_Ru_seg (g2 := (2, [(0, .int a2), (1, .int 0), (2, .int 255)], [.int 0, .int a2], (q_kX s c n))) 2 (fun _ _ => rfl) ?_
                      refine q_Ru_rsF (g2 := (5, [(0, .int a2), (1, .int 0), (2, .int 255)], [], (q_kX s c n))) rfl rfl h11 ?_
                      refine q_Ru_seg (g2 := (7, [(0, .int a2), (1, .int 0), (2, .int 255)], [.int 255, .int a2], (q_kX s c n))) 2 (fun _ _ => rfl) ?_
                      refine q_Ru_rsT (g2 := (20, [(0, .int a2), (1, .int 0), (2, .int 255)], [], (q_kX s c n))) rfl rfl (q_d_geF h12) ?_
                      exact q_Ru_ret rfl rfl
                    show q_Ru _ _ _ (8, [(0, .int a2)], [], (q_kX s c n)) _
                    exact q_Ru_ret rfl rfl
                  show q_Ru _ _ _ (8, [(0, .ref 64), (1, .int a1), (2, .int a2), (3, .int a3)], [], (q_kX s c n)) _
                  refine q_Ru_seg (g2 := (13, [(0, .ref 64), (1, .int a1), (2, .int a2), (3, .int a3)], [.int 4095, .int 0, .int a3], (q_kX s c n))) 3 (fun _ _ => rfl) ?_
                  refine q_Ru_call (v := none) (h2 := (q_kX s c n)) rfl rfl ?_ ?_
                  · refine q_Ca_of (Nat.le_of_ble_eq_true rfl) ?_
                    refine q_Ru_seg (g2 := (2, [(0, .int a3), (1, .int 0), (2, .int 4095)], [.int 0, .int a3], (q_kX s c n))) 2 (fun _ _ => rfl) ?_
                    refine q_Ru_rsF (g2 := (5, [(0, .int a3), (1, .int 0), (2, .int 4095)], [], (q_kX s c n))) rfl rfl h13 ?_
                    refine q_Ru_seg (g2 := (7, [(0, .int a3), (1, .int 0), (2, .int 4095)], [.int 4095, .int a3], (q_kX s c n))) 2 (fun _ _ => rfl) ?_
                    refine q_Ru_rsT (g2 := (20, [(0, .int a3), (1, .int 0), (2, .int 4095)], [], (q_kX s c n))) rfl rfl (q_d_geF h14) ?_
                    exact q_Ru_ret rfl rfl
                  show q_Ru _ _ _ (16, [(0, .ref 64), (1, .int a1), (2, .int a2), (3, .int a3)], [], (q_kX s c n)) _
                  refine q_Ru_seg (g2 := (17, [(0, .ref 64), (1, .int a1), (2, .int a2), (3, .int a3)], [.int a2], (q_kX s c n))) 1 (fun _ _ => rfl) ?_
                  refine q_Ru_call (v := (some (.int r3))) (h2 := (q_kX s c n)) rfl rfl ?_ ?_
                  · exact (q_emNX_1p rfl (fun _ => rfl) ((q_cE (φ := (q_oP (q_kN (q_vw 32 1 73 s) c n))) er3 (dzt_N190 (q_vw 32 1 73 s) c n a2)).tb q_TB0_le)).le (Nat.le_of_ble_eq_true rfl)
                  show q_Ru _ _ _ (20, [(0, .ref 64), (1, .int a1), (2, .int a2), (3, .int a3)], [.int r3], (q_kX s c n)) _
                  refine q_Ru_seg (g2 := (21, [(0, .ref 64), (1, .int a1), (2, .int a2), (3, .int a3)], [.int 2, .int r3], (q_kX s c n))) 1 (fun _ _ => rfl) ?_
                  refine q_Ru_rsT (g2 := (28, [(0, .ref 64), (1, .int a1), (2, .int a2), (3, .int a3)], [], (q_kX s c n))) rfl rfl (q_d_neF h15) ?_
                  refine q_Ru_seg (g2 := (36, [(0, .ref 64), (1, .int a1), (2, .int a2), (3, .int a3)], [.int a3, .int a2, .int a1, .int 3, .ref 98], (q_kX s c n))) 6 (fun _ _ => rfl) ?_
                  refine q_Ru_call (v := none) (h2 := (q_kX r6 c n)) rfl rfl ?_ ?_
                  · exact (q_cE (φ := (q_oSX c n)) er6 (dzt_X184_98 z L xs s c n 3 a1 a2 a3)).le (Nat.le_of_ble_eq_true rfl)
                  show q_Ru _ _ _ (39, [(0, .ref 64), (1, .int a1), (2, .int a2), (3, .int a3)], [], (q_kX r6 c n)) _
                  refine q_Ru_seg (g2 := (47, [(0, .ref 64), (1, .int a1), (2, .int a2), (3, .int a3)], [.int a3, .int a2, .int a1, .int 3, .ref 65], (q_kX r6 c n))) 6 (fun _ _ => rfl) ?_
                  refine q_Ru_call (v := (some (.int r7.2))) (h2 := (q_kX (q_pt 32 3 1 73 r6 r7.1) c n)) rfl rfl ?_ ?_
                  · exact (q_emNX_1 rfl (fun _ => rfl) ((dzt_N79_64 (q_vw 32 1 73 r6) c n 3 a1 a2 a3 r7 er7).tb q_TB0_le)).le (Nat.le_of_ble_eq_true rfl)
                  show q_Ru _ _ _ (50, [(0, .ref 64), (1, .int a1), (2, .int a2), (3, .int a3)], [.int r7.2], (q_kX (q_pt 32 3 1 73 r6 r7.1) c n)) _
                  exact q_Ru_ret rfl rfl
                show q_RP _ _ _ (10, [(0, .ref 64), (1, .int a1), (2, .int a2), (3, .int a3), (4, .ref 236)], [.int r7.2, .int 0, .ref 236], (q_kX (q_pt 32 3 1 73 r6 r7.1) c n)) _ _
                refine q_RP_seg (g2 := (11, [(0, .ref 64), (1, .int a1), (2, .int a2), (3, .int a3), (4, .ref 236)], [.long r7.2.toInt64, .int 0, .ref 236], (q_kX (q_pt 32 3 1 73 r6 r7.1) c n))) 1 (fun _ _ => rfl) ?_
                refine q_RP_rsT (g2 := (12, [(0, .ref 64), (1, .int a1), (2, .int a2), (3, .int a3), (4, .ref 236)], [], (q_kX (q_sL (q_pt 32 3 1 73 r6 r7.1) 172 (vp_updL ((q_pt 32 3 1 73 r6 r7.1).2.2 172) 0 r7.2.toInt64)) c n))) rfl q_wX172 rfl ?_
                refine q_RP_seg (g2 := (24, [(0, .ref 64), (1, .int a1), (2, .int a2), (3, .int a3), (4, .ref 236)], [.int 0], (q_kX (q_sL (q_pt 32 3 1 73 r6 r7.1) 172 (vp_updL ((q_pt 32 3 1 73 r6 r7.1).2.2 172) 0 r7.2.toInt64)) c n))) 2 (fun _ _ => rfl) ?_
                exact q_RP_ret rfl rfl rfl
    | false =>
      refine q_RP_cF ?_
      refine q_RP_callH (E := "java/lang/IndexOutOfBoundsException") (tg := 17) (i := 5) (h2 := (q_kX s (c + 1) (n + 6))) rfl rfl ?_ rfl ?_
      · refine q_Ca_of (Nat.le_of_ble_eq_true rfl) ?_
        refine q_Ru_seg (g2 := (1, [(0, .ref 64), (1, .int a1), (2, .int a2), (3, .int a3)], [.int a1], (q_kX s c n))) 1 (fun _ _ => rfl) ?_
        refine q_Ru_callX (E := "java/lang/IndexOutOfBoundsException") (h2 := (q_kX s (c + 1) (n + 6))) rfl rfl ?_
        refine q_Ca_of (Nat.le_of_ble_eq_true rfl) ?_
        refine q_Ru_seg (g2 := (4, [(0, .int a1)], [.int 4096, .int a1], (q_kX s c n))) 2 (fun _ _ => rfl) ?_
        refine q_Ru_callX (E := "java/lang/IndexOutOfBoundsException") (h2 := (q_kX s (c + 1) (n + 6))) rfl rfl ?_
        refine q_Ca_of (Nat.le_of_ble_eq_true rfl) ?_
        refine q_Ru_seg (g2 := (1, [(0, .int a1), (1, .int 4096)], [.int a1], (q_kX s c n))) 1 (fun _ _ => rfl) ?_
        refine q_Ru_rsF (g2 := (4, [(0, .int a1), (1, .int 4096)], [], (q_kX s c n))) rfl rfl h9 ?_
        refine q_Ru_seg (g2 := (6, [(0, .int a1), (1, .int 4096)], [.int 4096, .int a1], (q_kX s c n))) 2 (fun _ _ => rfl) ?_
        refine q_Ru_rsF (g2 := (9, [(0, .int a1), (1, .int 4096)], [], (q_kX s c n))) rfl rfl h10 ?_
        exact q_Ru_thr rfl rfl
      show q_RP _ _ _ (17, [(0, .ref 64), (1, .int a1), (2, .int a2), (3, .int a3), (4, .ref 236)], [], (q_kX s (c + 1) (n + 6))) _ _
      refine q_RP_seg (g2 := (18, [(0, .ref 64), (1, .int a1), (2, .int a2), (3, .int a3), (4, .ref 236)], [.int 1], (q_kX s (c + 1) (n + 6)))) 1 (fun _ _ => rfl) ?_
      exact q_RP_ret rfl rfl rfl
def dz_X194_135_66 (s : q_S) (a2 : Int32) : Option (q_S) :=
  (dz_N90_65 (q_vw 32 1 73 s) a2).bind fun r2 => q_let (dz_N190 (q_vw 32 1 73 s) r2) fun r3 => (dz_N90_65 (q_vw 32 1 73 s) ((a2 + 1) &&& 4095)).bind fun r4 => (dz_B328_64 (q_vw 2 71 0 s) 0).bind fun r5 => (dz_B326_64 (q_vw 2 71 0 (q_pt 2 0 71 0 s r5)) a2).bind fun r6 => (dz_B325_64 (q_vw 2 71 0 (q_pt 2 0 71 0 (q_pt 2 0 71 0 s r5) r6)) 32).bind fun r7 => (dz_B193_64 (q_vw 2 71 0 (q_pt 2 0 71 0 (q_pt 2 0 71 0 (q_pt 2 0 71 0 s r5) r6) r7)) r2).bind fun r8 => cond (decide (r3 = 1)) (some (q_pt 2 0 71 0 (q_pt 2 0 71 0 (q_pt 2 0 71 0 (q_pt 2 0 71 0 s r5) r6) r7) r8)) (q_let (dz_N187 (q_vw 32 1 73 (q_pt 2 0 71 0 (q_pt 2 0 71 0 (q_pt 2 0 71 0 (q_pt 2 0 71 0 s r5) r6) r7) r8)) r2) fun r9 => cond r9 ((dz_B325_64 (q_vw 2 71 0 (q_pt 2 0 71 0 (q_pt 2 0 71 0 (q_pt 2 0 71 0 (q_pt 2 0 71 0 s r5) r6) r7) r8)) 32).bind fun r10 => q_let (dz_N193 (q_vw 32 1 73 (q_pt 2 0 71 0 (q_pt 2 0 71 0 (q_pt 2 0 71 0 (q_pt 2 0 71 0 (q_pt 2 0 71 0 s r5) r6) r7) r8) r10)) a2 r4) fun r11 => (dz_B326_64 (q_vw 2 71 0 (q_pt 2 0 71 0 (q_pt 2 0 71 0 (q_pt 2 0 71 0 (q_pt 2 0 71 0 (q_pt 2 0 71 0 s r5) r6) r7) r8) r10)) r11).bind fun r12 => some (q_pt 2 0 71 0 (q_pt 2 0 71 0 (q_pt 2 0 71 0 (q_pt 2 0 71 0 (q_pt 2 0 71 0 (q_pt 2 0 71 0 s r5) r6) r7) r8) r10) r12)) (cond (decide (r3 = 2)) (q_let (dz_N196 (q_vw 32 1 73 (q_pt 2 0 71 0 (q_pt 2 0 71 0 (q_pt 2 0 71 0 (q_pt 2 0 71 0 s r5) r6) r7) r8)) r2) fun r13 => (dz_B196_64 (q_vw 2 71 0 (q_pt 2 0 71 0 (q_pt 2 0 71 0 (q_pt 2 0 71 0 (q_pt 2 0 71 0 s r5) r6) r7) r8)) r13 r4).bind fun r14 => some (q_pt 2 0 71 0 (q_pt 2 0 71 0 (q_pt 2 0 71 0 (q_pt 2 0 71 0 (q_pt 2 0 71 0 s r5) r6) r7) r8) r14)) ((dz_N92_65 (q_vw 32 1 73 (q_pt 2 0 71 0 (q_pt 2 0 71 0 (q_pt 2 0 71 0 (q_pt 2 0 71 0 s r5) r6) r7) r8)) (a2 + 1)).bind fun r15 => q_let (dz_N196 (q_vw 32 1 73 (q_pt 2 0 71 0 (q_pt 2 0 71 0 (q_pt 2 0 71 0 (q_pt 2 0 71 0 s r5) r6) r7) r8)) r2) fun r16 => (dz_B196_64 (q_vw 2 71 0 (q_pt 2 0 71 0 (q_pt 2 0 71 0 (q_pt 2 0 71 0 (q_pt 2 0 71 0 s r5) r6) r7) r8)) r16 r15).bind fun r17 => some (q_pt 2 0 71 0 (q_pt 2 0 71 0 (q_pt 2 0 71 0 (q_pt 2 0 71 0 (q_pt 2 0 71 0 s r5) r6) r7) r8) r17))))
set_option maxHeartbeats 4000000 in
theorem dzt_X194_135_66 (z L : Nat) (xs : Nat → Int32) (s : q_S) (c n : Nat) (a2 : Int32) (x : q_S) (h : dz_X194_135_66 s a2 = some x) : q_Ca (q_TBs z L xs) 7 194 [.ref 135, .ref 66, .int a2] (q_kX s c n) ((q_oSX c n) x) := by
  refine q_CaP_of (φ := (q_oSX c n)) (Nat.le_of_ble_eq_true rfl) ?_ h
  clear h
  unfold dz_X194_135_66
  refine q_RP_seg (g2 := (2, [(0, .ref 135), (1, .ref 66), (2, .int a2)], [.int a2, .ref 66], (q_kX s c n))) 2 (fun _ _ => rfl) ?_
  refine q_RP_bd fun r2 er2 => ?_
  refine q_RP_call (v := (some (.int r2))) (h2 := (q_kX s c n)) rfl rfl ((q_emNX_1p rfl (fun _ => rfl) ((dzt_N90_65 (q_vw 32 1 73 s) c n a2 r2 er2).tb q_TB0_le)).le (Nat.le_of_ble_eq_true rfl)) ?_
  show q_RP _ _ _ (5, [(0, .ref 135), (1, .ref 66), (2, .int a2)], [.int r2], (q_kX s c n)) _ _
  refine q_RP_seg (g2 := (7, [(3, .int r2), (0, .ref 135), (1, .ref 66), (2, .int a2)], [.int r2], (q_kX s c n))) 2 (fun _ _ => rfl) ?_
  refine q_RP_call (v := (some (.int (dz_N190 (q_vw 32 1 73 s) r2)))) (h2 := (q_kX s c n)) rfl rfl ((q_emNX_1p rfl (fun _ => rfl) ((dzt_N190 (q_vw 32 1 73 s) c n r2).tb q_TB0_le)).le (Nat.le_of_ble_eq_true rfl)) ?_
  generalize dz_N190 (q_vw 32 1 73 s) r2 = r3
  refine q_RP_let ?_
  show q_RP _ _ _ (10, [(3, .int r2), (0, .ref 135), (1, .ref 66), (2, .int a2)], [.int r3], (q_kX s c n)) _ _
  refine q_RP_seg (g2 := (20, [(4, .int r3), (3, .int r2), (0, .ref 135), (1, .ref 66), (2, .int a2)], [.int ((a2 + 1) &&& 4095), .ref 66], (q_kX s c n))) 7 (fun _ _ => rfl) ?_
  refine q_RP_bd fun r4 er4 => ?_
  refine q_RP_call (v := (some (.int r4))) (h2 := (q_kX s c n)) rfl rfl ((q_emNX_1p rfl (fun _ => rfl) ((dzt_N90_65 (q_vw 32 1 73 s) c n ((a2 + 1) &&& 4095) r4 er4).tb q_TB0_le)).le (Nat.le_of_ble_eq_true rfl)) ?_
  show q_RP _ _ _ (23, [(4, .int r3), (3, .int r2), (0, .ref 135), (1, .ref 66), (2, .int a2)], [.int r4], (q_kX s c n)) _ _
  refine q_RP_seg (g2 := (27, [(5, .int r4), (4, .int r3), (3, .int r2), (0, .ref 135), (1, .ref 66), (2, .int a2)], [.int 0, .ref 135], (q_kX s c n))) 3 (fun _ _ => rfl) ?_
  refine q_RP_bd fun r5 er5 => ?_
  refine q_RP_call (v := none) (h2 := (q_kX (q_pt 2 0 71 0 s r5) c n)) rfl rfl ((q_emBX rfl (fun _ => rfl) (dzt_B328_64 z L xs (q_vw 2 71 0 s) c n 0 r5 er5)).le (Nat.le_of_ble_eq_true rfl)) ?_
  show q_RP _ _ _ (30, [(5, .int r4), (4, .int r3), (3, .int r2), (0, .ref 135), (1, .ref 66), (2, .int a2)], [], (q_kX (q_pt 2 0 71 0 s r5) c n)) _ _
  refine q_RP_seg (g2 := (32, [(5, .int r4), (4, .int r3), (3, .int r2), (0, .ref 135), (1, .ref 66), (2, .int a2)], [.int a2, .ref 135], (q_kX (q_pt 2 0 71 0 s r5) c n))) 2 (fun _ _ => rfl) ?_
  refine q_RP_bd fun r6 er6 => ?_
  refine q_RP_call (v := (some (.ref 135))) (h2 := (q_kX (q_pt 2 0 71 0 (q_pt 2 0 71 0 s r5) r6) c n)) rfl rfl ((q_emBXr rfl (dzt_B326_64 z L xs (q_vw 2 71 0 (q_pt 2 0 71 0 s r5)) c n a2 r6 er6)).le (Nat.le_of_ble_eq_true rfl)) ?_
  show q_RP _ _ _ (35, [(5, .int r4), (4, .int r3), (3, .int r2), (0, .ref 135), (1, .ref 66), (2, .int a2)], [.ref 135], (q_kX (q_pt 2 0 71 0 (q_pt 2 0 71 0 s r5) r6) c n)) _ _
  refine q_RP_seg (g2 := (39, [(5, .int r4), (4, .int r3), (3, .int r2), (0, .ref 135), (1, .ref 66), (2, .int a2)], [.int 32, .ref 135], (q_kX (q_pt 2 0 71 0 (q_pt 2 0 71 0 s r5) r6) c n))) 3 (fun _ _ => rfl) ?_
  refine q_RP_bd fun r7 er7 => ?_
  refine q_RP_call (v := (some (.ref 135))) (h2 := (q_kX (q_pt 2 0 71 0 (q_pt 2 0 71 0 (q_pt 2 0 71 0 s r5) r6) r7) c n)) rfl rfl ((q_emBXr rfl (dzt_B325_64 z L xs (q_vw 2 71 0 (q_pt 2 0 71 0 (q_pt 2 0 71 0 s r5) r6)) c n 32 r7 er7)).le (Nat.le_of_ble_eq_true rfl)) ?_
  show q_RP _ _ _ (42, [(5, .int r4), (4, .int r3), (3, .int r2), (0, .ref 135), (1, .ref 66), (2, .int a2)], [.ref 135], (q_kX (q_pt 2 0 71 0 (q_pt 2 0 71 0 (q_pt 2 0 71 0 s r5) r6) r7) c n)) _ _
  refine q_RP_seg (g2 := (45, [(5, .int r4), (4, .int r3), (3, .int r2), (0, .ref 135), (1, .ref 66), (2, .int a2)], [.int r2, .ref 135], (q_kX (q_pt 2 0 71 0 (q_pt 2 0 71 0 (q_pt 2 0 71 0 s r5) r6) r7) c n))) 3 (fun _ _ => rfl) ?_
  refine q_RP_bd fun r8 er8 => ?_
  refine q_RP_call (v := none) (h2 := (q_kX (q_pt 2 0 71 0 (q_pt 2 0 71 0 (q_pt 2 0 71 0 (q_pt 2 0 71 0 s r5) r6) r7) r8) c n)) rfl rfl ((q_emBX rfl (fun _ => rfl) (dzt_B193_64 z L xs (q_vw 2 71 0 (q_pt 2 0 71 0 (q_pt 2 0 71 0 (q_pt 2 0 71 0 s r5) r6) r7)) c n r2 r8 er8)).le (Nat.le_of_ble_eq_true rfl)) ?_
  show q_RP _ _ _ (48, [(5, .int r4), (4, .int r3), (3, .int r2), (0, .ref 135), (1, .ref 66), (2, .int a2)], [], (q_kX (q_pt 2 0 71 0 (q_pt 2 0 71 0 (q_pt 2 0 71 0 (q_pt 2 0 71 0 s r5) r6) r7) r8) c n)) _ _
  refine q_RP_seg (g2 := (51, [(5, .int r4), (4, .int r3), (3, .int r2), (0, .ref 135), (1, .ref 66), (2, .int a2)], [.int 1, .int r3], (q_kX (q_pt 2 0 71 0 (q_pt 2 0 71 0 (q_pt 2 0 71 0 (q_pt 2 0 71 0 s r5) r6) r7) r8) c n))) 2 (fun _ _ => rfl) ?_
  cases h1 : decide (r3 = 1) with
  | true =>
    refine q_RP_cT ?_
    refine q_RP_rsF (g2 := (54, [(5, .int r4), (4, .int r3), (3, .int r2), (0, .ref 135), (1, .ref 66), (2, .int a2)], [], (q_kX (q_pt 2 0 71 0 (q_pt 2 0 71 0 (q_pt 2 0 71 0 (q_pt 2 0 71 0 s r5) r6) r7) r8) c n))) rfl rfl (q_d_neT h1) ?_
    exact q_RP_ret rfl rfl rfl
  | false =>
    refine q_RP_cF ?_
    refine q_RP_rsT (g2 := (55, [(5, .int r4), (4, .int r3), (3, .int r2), (0, .ref 135), (1, .ref 66), (2, .int a2)], [], (q_kX (q_pt 2 0 71 0 (q_pt 2 0 71 0 (q_pt 2 0 71 0 (q_pt 2 0 71 0 s r5) r6) r7) r8) c n))) rfl rfl (q_d_neF h1) ?_
    refine q_RP_seg (g2 := (56, [(5, .int r4), (4, .int r3), (3, .int r2), (0, .ref 135), (1, .ref 66), (2, .int a2)], [.int r2], (q_kX (q_pt 2 0 71 0 (q_pt 2 0 71 0 (q_pt 2 0 71 0 (q_pt 2 0 71 0 s r5) r6) r7) r8) c n))) 1 (fun _ _ => rfl) ?_
    refine q_RP_call (v := (some (.int (q_b (dz_N187 (q_vw 32 1 73 (q_pt 2 0 71 0 (q_pt 2 0 71 0 (q_pt 2 0 71 0 (q_pt 2 0 71 0 s r5) r6) r7) r8)) r2))))) (h2 := (q_kX (q_pt 2 0 71 0 (q_pt 2 0 71 0 (q_pt 2 0 71 0 (q_pt 2 0 71 0 s r5) r6) r7) r8) c n)) rfl rfl ((q_emNX_1p rfl (fun _ => rfl) ((dzt_N187 (q_vw 32 1 73 (q_pt 2 0 71 0 (q_pt 2 0 71 0 (q_pt 2 0 71 0 (q_pt 2 0 71 0 s r5) r6) r7) r8)) c n r2).tb q_TB0_le)).le (Nat.le_of_ble_eq_true rfl)) ?_
    generalize dz_N187 (q_vw 32 1 73 (q_pt 2 0 71 0 (q_pt 2 0 71 0 (q_pt 2 0 71 0 (q_pt 2 0 71 0 s r5) r6) r7) r8)) r2 = r9
    refine q_RP_let ?_
    show q_RP _ _ _ (59, [(5, .int r4), (4, .int r3), (3, .int r2), (0, .ref 135), (1, .ref 66), (2, .int a2)], [.int (q_b r9)], (q_kX (q_pt 2 0 71 0 (q_pt 2 0 71 0 (q_pt 2 0 71 0 (q_pt 2 0 71 0 s r5) r6) r7) r8) c n)) _ _
    cases h2 : r9 with
    | true =>
      refine q_RP_cT ?_
      show q_RP _ _ _ (59, [(5, .int r4), (4, .int r3), (3, .int r2), (0, .ref 135), (1, .ref 66), (2, .int a2)], [.int 1], (q_kX (q_pt 2 0 71 0 (q_pt 2 0 71 0 (q_pt 2 0 71 0 (q_pt 2 0 71 0 s r5) r6) r7) r8) c n)) _ _
      refine q_RP_seg (g2 := (65, [(5, .int r4), (4, .int r3), (3, .int r2), (0, .ref 135), (1, .ref 66), (2, .int a2)], [.int 32, .ref 135], (q_kX (q_pt 2 0 71 0 (q_pt 2 0 71 0 (q_pt 2 0 71 0 (q_pt 2 0 71 0 s r5) r6) r7) r8) c n))) 3 (fun _ _ => rfl) ?_
      refine q_RP_bd fun r10 er10 => ?_
      refine q_RP_call (v := (some (.ref 135))) (h2 := (q_kX (q_pt 2 0 71 0 (q_pt 2 0 71 0 (q_pt 2 0 71 0 (q_pt 2 0 71 0 (q_pt 2 0 71 0 s r5) r6) r7) r8) r10) c n)) rfl rfl ((q_emBXr rfl (dzt_B325_64 z L xs (q_vw 2 71 0 (q_pt 2 0 71 0 (q_pt 2 0 71 0 (q_pt 2 0 71 0 (q_pt 2 0 71 0 s r5) r6) r7) r8)) c n 32 r10 er10)).le (Nat.le_of_ble_eq_true rfl)) ?_
      show q_RP _ _ _ (68, [(5, .int r4), (4, .int r3), (3, .int r2), (0, .ref 135), (1, .ref 66), (2, .int a2)], [.ref 135], (q_kX (q_pt 2 0 71 0 (q_pt 2 0 71 0 (q_pt 2 0 71 0 (q_pt 2 0 71 0 (q_pt 2 0 71 0 s r5) r6) r7) r8) r10) c n)) _ _
      refine q_RP_seg (g2 := (73, [(5, .int r4), (4, .int r3), (3, .int r2), (0, .ref 135), (1, .ref 66), (2, .int a2)], [.int r4, .int a2, .ref 135], (q_kX (q_pt 2 0 71 0 (q_pt 2 0 71 0 (q_pt 2 0 71 0 (q_pt 2 0 71 0 (q_pt 2 0 71 0 s r5) r6) r7) r8) r10) c n))) 4 (fun _ _ => rfl) ?_
      refine q_RP_call (v := (some (.int (dz_N193 (q_vw 32 1 73 (q_pt 2 0 71 0 (q_pt 2 0 71 0 (q_pt 2 0 71 0 (q_pt 2 0 71 0 (q_pt 2 0 71 0 s r5) r6) r7) r8) r10)) a2 r4)))) (h2 := (q_kX (q_pt 2 0 71 0 (q_pt 2 0 71 0 (q_pt 2 0 71 0 (q_pt 2 0 71 0 (q_pt 2 0 71 0 s r5) r6) r7) r8) r10) c n)) rfl rfl ((q_emNX_1p rfl (fun _ => rfl) ((dzt_N193 (q_vw 32 1 73 (q_pt 2 0 71 0 (q_pt 2 0 71 0 (q_pt 2 0 71 0 (q_pt 2 0 71 0 (q_pt 2 0 71 0 s r5) r6) r7) r8) r10)) c n a2 r4).tb q_TB0_le)).le (Nat.le_of_ble_eq_true rfl)) ?_
      generalize dz_N193 (q_vw 32 1 73 (q_pt 2 0 71 0 (q_pt 2 0 71 0 (q_pt 2 0 71 0 (q_pt 2 0 71 0 (q_pt 2 0 71 0 s r5) r6) r7) r8) r10)) a2 r4 = r11
      refine q_RP_let ?_
      show q_RP _ _ _ (76, [(5, .int r4), (4, .int r3), (3, .int r2), (0, .ref 135), (1, .ref 66), (2, .int a2)], [.int r11, .ref 135], (q_kX (q_pt 2 0 71 0 (q_pt 2 0 71 0 (q_pt 2 0 71 0 (q_pt 2 0 71 0 (q_pt 2 0 71 0 s r5) r6) r7) r8) r10) c n)) _ _
      refine q_RP_bd fun r12 er12 => ?_
      refine q_RP_call (v := (some (.ref 135))) (h2 := (q_kX (q_pt 2 0 71 0 (q_pt 2 0 71 0 (q_pt 2 0 71 0 (q_pt 2 0 71 0 (q_pt 2 0 71 0 (q_pt 2 0 71 0 s r5) r6) r7) r8) r10) r12) c n)) rfl rfl ((q_emBXr rfl (dzt_B326_64 z L xs (q_vw 2 71 0 (q_pt 2 0 71 0 (q_pt 2 0 71 0 (q_pt 2 0 71 0 (q_pt 2 0 71 0 (q_pt 2 0 71 0 s r5) r6) r7) r8) r10)) c n r11 r12 er12)).le (Nat.le_of_ble_eq_true rfl)) ?_
      show q_RP _ _ _ (79, [(5, .int r4), (4, .int r3), (3, .int r2), (0, .ref 135), (1, .ref 66), (2, .int a2)], [.ref 135], (q_kX (q_pt 2 0 71 0 (q_pt 2 0 71 0 (q_pt 2 0 71 0 (q_pt 2 0 71 0 (q_pt 2 0 71 0 (q_pt 2 0 71 0 s r5) r6) r7) r8) r10) r12) c n)) _ _
      refine q_RP_seg (g2 := (80, [(5, .int r4), (4, .int r3), (3, .int r2), (0, .ref 135), (1, .ref 66), (2, .int a2)], [], (q_kX (q_pt 2 0 71 0 (q_pt 2 0 71 0 (q_pt 2 0 71 0 (q_pt 2 0 71 0 (q_pt 2 0 71 0 (q_pt 2 0 71 0 s r5) r6) r7) r8) r10) r12) c n))) 1 (fun _ _ => rfl) ?_
      exact q_RP_ret rfl rfl rfl
    | false =>
      refine q_RP_cF ?_
      show q_RP _ _ _ (59, [(5, .int r4), (4, .int r3), (3, .int r2), (0, .ref 135), (1, .ref 66), (2, .int a2)], [.int 0], (q_kX (q_pt 2 0 71 0 (q_pt 2 0 71 0 (q_pt 2 0 71 0 (q_pt 2 0 71 0 s r5) r6) r7) r8) c n)) _ _
      refine q_RP_seg (g2 := (84, [(5, .int r4), (4, .int r3), (3, .int r2), (0, .ref 135), (1, .ref 66), (2, .int a2)], [.int 2, .int r3], (q_kX (q_pt 2 0 71 0 (q_pt 2 0 71 0 (q_pt 2 0 71 0 (q_pt 2 0 71 0 s r5) r6) r7) r8) c n))) 3 (fun _ _ => rfl) ?_
      cases h3 : decide (r3 = 2) with
      | true =>
        refine q_RP_cT ?_
        refine q_RP_rsF (g2 := (87, [(5, .int r4), (4, .int r3), (3, .int r2), (0, .ref 135), (1, .ref 66), (2, .int a2)], [], (q_kX (q_pt 2 0 71 0 (q_pt 2 0 71 0 (q_pt 2 0 71 0 (q_pt 2 0 71 0 s r5) r6) r7) r8) c n))) rfl rfl (q_d_neT h3) ?_
        refine q_RP_seg (g2 := (103, [(6, .int r4), (5, .int r4), (4, .int r3), (3, .int r2), (0, .ref 135), (1, .ref 66), (2, .int a2)], [.int r2, .ref 135], (q_kX (q_pt 2 0 71 0 (q_pt 2 0 71 0 (q_pt 2 0 71 0 (q_pt 2 0 71 0 s r5) r6) r7) r8) c n))) 5 (fun _ _ => rfl) ?_
        refine q_RP_call (v := (some (.int (dz_N196 (q_vw 32 1 73 (q_pt 2 0 71 0 (q_pt 2 0 71 0 (q_pt 2 0 71 0 (q_pt 2 0 71 0 s r5) r6) r7) r8)) r2)))) (h2 := (q_kX (q_pt 2 0 71 0 (q_pt 2 0 71 0 (q_pt 2 0 71 0 (q_pt 2 0 71 0 s r5) r6) r7) r8) c n)) rfl rfl ((q_emNX_1p rfl (fun _ => rfl) ((dzt_N196 (q_vw 32 1 73 (q_pt 2 0 71 0 (q_pt 2 0 71 0 (q_pt 2 0 71 0 (q_pt 2 0 71 0 s r5) r6) r7) r8)) c n r2).tb q_TB0_le)).le (Nat.le_of_ble_eq_true rfl)) ?_
        generalize dz_N196 (q_vw 32 1 73 (q_pt 2 0 71 0 (q_pt 2 0 71 0 (q_pt 2 0 71 0 (q_pt 2 0 71 0 s r5) r6) r7) r8)) r2 = r13
        refine q_RP_let ?_
        show q_RP _ _ _ (106, [(6, .int r4), (5, .int r4), (4, .int r3), (3, .int r2), (0, .ref 135), (1, .ref 66), (2, .int a2)], [.int r13, .ref 135], (q_kX (q_pt 2 0 71 0 (q_pt 2 0 71 0 (q_pt 2 0 71 0 (q_pt 2 0 71 0 s r5) r6) r7) r8) c n)) _ _
        refine q_RP_seg (g2 := (108, [(6, .int r4), (5, .int r4), (4, .int r3), (3, .int r2), (0, .ref 135), (1, .ref 66), (2, .int a2)], [.int r4, .int r13, .ref 135], (q_kX (q_pt 2 0 71 0 (q_pt 2 0 71 0 (q_pt 2 0 71 0 (q_pt 2 0 71 0 s r5) r6) r7) r8) c n))) 1 (fun _ _ => rfl) ?_
        refine q_RP_bd fun r14 er14 => ?_
        refine q_RP_call (v := none) (h2 := (q_kX (q_pt 2 0 71 0 (q_pt 2 0 71 0 (q_pt 2 0 71 0 (q_pt 2 0 71 0 (q_pt 2 0 71 0 s r5) r6) r7) r8) r14) c n)) rfl rfl ((q_emBX rfl (fun _ => rfl) (dzt_B196_64 z L xs (q_vw 2 71 0 (q_pt 2 0 71 0 (q_pt 2 0 71 0 (q_pt 2 0 71 0 (q_pt 2 0 71 0 s r5) r6) r7) r8)) c n r13 r4 r14 er14)).le (Nat.le_of_ble_eq_true rfl)) ?_
        show q_RP _ _ _ (111, [(6, .int r4), (5, .int r4), (4, .int r3), (3, .int r2), (0, .ref 135), (1, .ref 66), (2, .int a2)], [], (q_kX (q_pt 2 0 71 0 (q_pt 2 0 71 0 (q_pt 2 0 71 0 (q_pt 2 0 71 0 (q_pt 2 0 71 0 s r5) r6) r7) r8) r14) c n)) _ _
        exact q_RP_ret rfl rfl rfl
      | false =>
        refine q_RP_cF ?_
        refine q_RP_rsT (g2 := (92, [(5, .int r4), (4, .int r3), (3, .int r2), (0, .ref 135), (1, .ref 66), (2, .int a2)], [], (q_kX (q_pt 2 0 71 0 (q_pt 2 0 71 0 (q_pt 2 0 71 0 (q_pt 2 0 71 0 s r5) r6) r7) r8) c n))) rfl rfl (q_d_neF h3) ?_
        refine q_RP_seg (g2 := (96, [(5, .int r4), (4, .int r3), (3, .int r2), (0, .ref 135), (1, .ref 66), (2, .int a2)], [.int (a2 + 1), .ref 66], (q_kX (q_pt 2 0 71 0 (q_pt 2 0 71 0 (q_pt 2 0 71 0 (q_pt 2 0 71 0 s r5) r6) r7) r8) c n))) 4 (fun _ _ => rfl) ?_
        refine q_RP_bd fun r15 er15 => ?_
        refine q_RP_call (v := (some (.int r15))) (h2 := (q_kX (q_pt 2 0 71 0 (q_pt 2 0 71 0 (q_pt 2 0 71 0 (q_pt 2 0 71 0 s r5) r6) r7) r8) c n)) rfl rfl ((q_emNX_1p rfl (fun _ => rfl) ((dzt_N92_65 (q_vw 32 1 73 (q_pt 2 0 71 0 (q_pt 2 0 71 0 (q_pt 2 0 71 0 (q_pt 2 0 71 0 s r5) r6) r7) r8)) c n (a2 + 1) r15 er15).tb q_TB0_le)).le (Nat.le_of_ble_eq_true rfl)) ?_
        show q_RP _ _ _ (99, [(5, .int r4), (4, .int r3), (3, .int r2), (0, .ref 135), (1, .ref 66), (2, .int a2)], [.int r15], (q_kX (q_pt 2 0 71 0 (q_pt 2 0 71 0 (q_pt 2 0 71 0 (q_pt 2 0 71 0 s r5) r6) r7) r8) c n)) _ _
        refine q_RP_seg (g2 := (103, [(6, .int r15), (5, .int r4), (4, .int r3), (3, .int r2), (0, .ref 135), (1, .ref 66), (2, .int a2)], [.int r2, .ref 135], (q_kX (q_pt 2 0 71 0 (q_pt 2 0 71 0 (q_pt 2 0 71 0 (q_pt 2 0 71 0 s r5) r6) r7) r8) c n))) 3 (fun _ _ => rfl) ?_
        refine q_RP_call (v := (some (.int (dz_N196 (q_vw 32 1 73 (q_pt 2 0 71 0 (q_pt 2 0 71 0 (q_pt 2 0 71 0 (q_pt 2 0 71 0 s r5) r6) r7) r8)) r2)))) (h2 := (q_kX (q_pt 2 0 71 0 (q_pt 2 0 71 0 (q_pt 2 0 71 0 (q_pt 2 0 71 0 s r5) r6) r7) r8) c n)) rfl rfl ((q_emNX_1p rfl (fun _ => rfl) ((dzt_N196 (q_vw 32 1 73 (q_pt 2 0 71 0 (q_pt 2 0 71 0 (q_pt 2 0 71 0 (q_pt 2 0 71 0 s r5) r6) r7) r8)) c n r2).tb q_TB0_le)).le (Nat.le_of_ble_eq_true rfl)) ?_
        generalize dz_N196 (q_vw 32 1 73 (q_pt 2 0 71 0 (q_pt 2 0 71 0 (q_pt 2 0 71 0 (q_pt 2 0 71 0 s r5) r6) r7) r8)) r2 = r16
        refine q_RP_let ?_
        show q_RP _ _ _ (106, [(6, .int r15), (5, .int r4), (4, .int r3), (3, .int r2), (0, .ref 135), (1, .ref 66), (2, .int a2)], [.int r16, .ref 135], (q_kX (q_pt 2 0 71 0 (q_pt 2 0 71 0 (q_pt 2 0 71 0 (q_pt 2 0 71 0 s r5) r6) r7) r8) c n)) _ _
        refine q_RP_seg (g2 := (108, [(6, .int r15), (5, .int r4), (4, .int r3), (3, .int r2), (0, .ref 135), (1, .ref 66), (2, .int a2)], [.int r15, .int r16, .ref 135], (q_kX (q_pt 2 0 71 0 (q_pt 2 0 71 0 (q_pt 2 0 71 0 (q_pt 2 0 71 0 s r5) r6) r7) r8) c n))) 1 (fun _ _ => rfl) ?_
        refine q_RP_bd fun r17 er17 => ?_
        refine q_RP_call (v := none) (h2 := (q_kX (q_pt 2 0 71 0 (q_pt 2 0 71 0 (q_pt 2 0 71 0 (q_pt 2 0 71 0 (q_pt 2 0 71 0 s r5) r6) r7) r8) r17) c n)) rfl rfl ((q_emBX rfl (fun _ => rfl) (dzt_B196_64 z L xs (q_vw 2 71 0 (q_pt 2 0 71 0 (q_pt 2 0 71 0 (q_pt 2 0 71 0 (q_pt 2 0 71 0 s r5) r6) r7) r8)) c n r16 r15 r17 er17)).le (Nat.le_of_ble_eq_true rfl)) ?_
        show q_RP _ _ _ (111, [(6, .int r15), (5, .int r4), (4, .int r3), (3, .int r2), (0, .ref 135), (1, .ref 66), (2, .int a2)], [], (q_kX (q_pt 2 0 71 0 (q_pt 2 0 71 0 (q_pt 2 0 71 0 (q_pt 2 0 71 0 (q_pt 2 0 71 0 s r5) r6) r7) r8) r17) c n)) _ _
        exact q_RP_ret rfl rfl rfl
def dz_X6_64_236 (s : q_S) (a1 : Int32) : Option (q_S × Int32 × Nat) :=
  cond (decide (a1 < 0)) (some (s, 1, 1)) (cond (decide (a1 < 4096)) ((dz_X194_135_66 s a1).bind fun r1 => q_let (dz_B329_64 (q_vw 2 71 0 r1)) fun r2 => some ((q_sL r1 172 (vp_updL (r1.2.2 172) 0 r2.toInt64)), 0, 0)) (some (s, 1, 1)))
set_option maxHeartbeats 4000000 in
theorem dzt_X6_64_236 (z L : Nat) (xs : Nat → Int32) (s : q_S) (c n : Nat) (a1 : Int32) (x : q_S × Int32 × Nat) (h : dz_X6_64_236 s a1 = some x) : q_Ca (q_TBs z L xs) 10 6 [.ref 64, .int a1, .ref 236] (q_kX s c n) ((q_oEX c n) x) := by
  refine q_CaP_of (φ := (q_oEX c n)) (Nat.le_of_ble_eq_true rfl) ?_ h
  clear h
  unfold dz_X6_64_236
  refine q_RP_seg (g2 := (4, [(0, .ref 64), (1, .int a1), (2, .ref 236)], [.int a1, .ref 64, .int 0, .ref 236], (q_kX s c n))) 4 (fun _ _ => rfl) ?_
  cases h3 : decide (a1 < 0) with
  | true =>
    refine q_RP_cT ?_
    refine q_RP_callH (E := "java/lang/IndexOutOfBoundsException") (tg := 13) (i := 3) (h2 := (q_kX s (c + 1) (n + 6))) rfl rfl ?_ rfl ?_
    · refine q_Ca_of (Nat.le_of_ble_eq_true rfl) ?_
      refine q_Ru_seg (g2 := (1, [(0, .ref 64), (1, .int a1)], [.int a1], (q_kX s c n))) 1 (fun _ _ => rfl) ?_
      refine q_Ru_callX (E := "java/lang/IndexOutOfBoundsException") (h2 := (q_kX s (c + 1) (n + 6))) rfl rfl ?_
      refine q_Ca_of (Nat.le_of_ble_eq_true rfl) ?_
      refine q_Ru_seg (g2 := (4, [(0, .int a1)], [.int 4096, .int a1], (q_kX s c n))) 2 (fun _ _ => rfl) ?_
      refine q_Ru_callX (E := "java/lang/IndexOutOfBoundsException") (h2 := (q_kX s (c + 1) (n + 6))) rfl rfl ?_
      refine q_Ca_of (Nat.le_of_ble_eq_true rfl) ?_
      refine q_Ru_seg (g2 := (1, [(0, .int a1), (1, .int 4096)], [.int a1], (q_kX s c n))) 1 (fun _ _ => rfl) ?_
      refine q_Ru_rsT (g2 := (9, [(0, .int a1), (1, .int 4096)], [], (q_kX s c n))) rfl rfl h3 ?_
      exact q_Ru_thr rfl rfl
    show q_RP _ _ _ (13, [(0, .ref 64), (1, .int a1), (2, .ref 236)], [], (q_kX s (c + 1) (n + 6))) _ _
    refine q_RP_seg (g2 := (14, [(0, .ref 64), (1, .int a1), (2, .ref 236)], [.int 1], (q_kX s (c + 1) (n + 6)))) 1 (fun _ _ => rfl) ?_
    exact q_RP_ret rfl rfl rfl
  | false =>
    refine q_RP_cF ?_
    cases h4 : decide (a1 < 4096) with
    | true =>
      refine q_RP_cT ?_
      refine q_RP_bd fun r1 er1 => ?_
      generalize er2 : dz_B329_64 (q_vw 2 71 0 r1) = r2
      refine q_RP_let ?_
      refine q_RP_call (v := (some (.int r2))) (h2 := (q_kX r1 c n)) rfl rfl ?_ ?_
      · refine q_Ca_of (Nat.le_of_ble_eq_true rfl) ?_
        refine q_Ru_seg (g2 := (1, [(0, .ref 64), (1, .int a1)], [.int a1], (q_kX s c n))) 1 (fun _ _ => rfl) ?_
        refine q_Ru_call (v := none) (h2 := (q_kX s c n)) rfl rfl ?_ ?_
        · refine q_Ca_of (Nat.le_of_ble_eq_true rfl) ?_
          refine q_Ru_seg (g2 := (4, [(0, .int a1)], [.int 4096, .int a1], (q_kX s c n))) 2 (fun _ _ => rfl) ?_
          refine q_Ru_call (v := none) (h2 := (q_kX s c n)) rfl rfl ?_ ?_
          · refine q_Ca_of (Nat.le_of_ble_eq_true rfl) ?_
            refine q_Ru_seg (g2 := (1, [(0, .int a1), (1, .int 4096)], [.int a1], (q_kX s c n))) 1 (fun _ _ => rfl) ?_
            refine q_Ru_rsF (g2 := (4, [(0, .int a1), (1, .int 4096)], [], (q_kX s c n))) rfl rfl h3 ?_
            refine q_Ru_seg (g2 := (6, [(0, .int a1), (1, .int 4096)], [.int 4096, .int a1], (q_kX s c n))) 2 (fun _ _ => rfl) ?_
            refine q_Ru_rsT (g2 := (19, [(0, .int a1), (1, .int 4096)], [], (q_kX s c n))) rfl rfl h4 ?_
            exact q_Ru_ret rfl rfl
          show q_Ru _ _ _ (7, [(0, .int a1)], [], (q_kX s c n)) _
          exact q_Ru_ret rfl rfl
        show q_Ru _ _ _ (4, [(0, .ref 64), (1, .int a1)], [], (q_kX s c n)) _
        refine q_Ru_seg (g2 := (16, [(0, .ref 64), (1, .int a1)], [.int a1, .ref 66, .ref 135], (q_kX s c n))) 6 (fun _ _ => rfl) ?_
        refine q_Ru_call (v := none) (h2 := (q_kX r1 c n)) rfl rfl ?_ ?_
        · exact (dzt_X194_135_66 z L xs s c n a1 r1 er1).le (Nat.le_of_ble_eq_true rfl)
        show q_Ru _ _ _ (19, [(0, .ref 64), (1, .int a1)], [], (q_kX r1 c n)) _
        refine q_Ru_seg (g2 := (23, [(0, .ref 64), (1, .int a1)], [.ref 135], (q_kX r1 c n))) 2 (fun _ _ => rfl) ?_
        refine q_Ru_call (v := (some (.int r2))) (h2 := (q_kX r1 c n)) rfl rfl ?_ ?_
        · exact (q_emBXp rfl (fun _ => rfl) (q_cE (φ := (q_oP (q_kB (q_vw 2 71 0 r1) c n))) er2 (dzt_B329_64 z L xs (q_vw 2 71 0 r1) c n))).le (Nat.le_of_ble_eq_true rfl)
        show q_Ru _ _ _ (26, [(0, .ref 64), (1, .int a1)], [.int r2], (q_kX r1 c n)) _
        exact q_Ru_ret rfl rfl
      show q_RP _ _ _ (7, [(0, .ref 64), (1, .int a1), (2, .ref 236)], [.int r2, .int 0, .ref 236], (q_kX r1 c n)) _ _
      refine q_RP_seg (g2 := (8, [(0, .ref 64), (1, .int a1), (2, .ref 236)], [.long r2.toInt64, .int 0, .ref 236], (q_kX r1 c n))) 1 (fun _ _ => rfl) ?_
      refine q_RP_rsT (g2 := (9, [(0, .ref 64), (1, .int a1), (2, .ref 236)], [], (q_kX (q_sL r1 172 (vp_updL (r1.2.2 172) 0 r2.toInt64)) c n))) rfl q_wX172 rfl ?_
      refine q_RP_seg (g2 := (16, [(0, .ref 64), (1, .int a1), (2, .ref 236)], [.int 0], (q_kX (q_sL r1 172 (vp_updL (r1.2.2 172) 0 r2.toInt64)) c n))) 2 (fun _ _ => rfl) ?_
      exact q_RP_ret rfl rfl rfl
    | false =>
      refine q_RP_cF ?_
      refine q_RP_callH (E := "java/lang/IndexOutOfBoundsException") (tg := 13) (i := 3) (h2 := (q_kX s (c + 1) (n + 6))) rfl rfl ?_ rfl ?_
      · refine q_Ca_of (Nat.le_of_ble_eq_true rfl) ?_
        refine q_Ru_seg (g2 := (1, [(0, .ref 64), (1, .int a1)], [.int a1], (q_kX s c n))) 1 (fun _ _ => rfl) ?_
        refine q_Ru_callX (E := "java/lang/IndexOutOfBoundsException") (h2 := (q_kX s (c + 1) (n + 6))) rfl rfl ?_
        refine q_Ca_of (Nat.le_of_ble_eq_true rfl) ?_
        refine q_Ru_seg (g2 := (4, [(0, .int a1)], [.int 4096, .int a1], (q_kX s c n))) 2 (fun _ _ => rfl) ?_
        refine q_Ru_callX (E := "java/lang/IndexOutOfBoundsException") (h2 := (q_kX s (c + 1) (n + 6))) rfl rfl ?_
        refine q_Ca_of (Nat.le_of_ble_eq_true rfl) ?_
        refine q_Ru_seg (g2 := (1, [(0, .int a1), (1, .int 4096)], [.int a1], (q_kX s c n))) 1 (fun _ _ => rfl) ?_
        refine q_Ru_rsF (g2 := (4, [(0, .int a1), (1, .int 4096)], [], (q_kX s c n))) rfl rfl h3 ?_
        refine q_Ru_seg (g2 := (6, [(0, .int a1), (1, .int 4096)], [.int 4096, .int a1], (q_kX s c n))) 2 (fun _ _ => rfl) ?_
        refine q_Ru_rsF (g2 := (9, [(0, .int a1), (1, .int 4096)], [], (q_kX s c n))) rfl rfl h4 ?_
        exact q_Ru_thr rfl rfl
      show q_RP _ _ _ (13, [(0, .ref 64), (1, .int a1), (2, .ref 236)], [], (q_kX s (c + 1) (n + 6))) _ _
      refine q_RP_seg (g2 := (14, [(0, .ref 64), (1, .int a1), (2, .ref 236)], [.int 1], (q_kX s (c + 1) (n + 6)))) 1 (fun _ _ => rfl) ?_
      exact q_RP_ret rfl rfl rfl
def dz_X7_64_236 (s : q_S) (a1 : Int32) : Option (q_S × Int32 × Nat) :=
  q_let (dz_B329_64 (q_vw 2 71 0 s)) fun r2 => cond (decide (a1 < 0)) (some (s, 1, 1)) (cond (decide (a1 < r2)) ((dz_B327_64 (q_vw 2 71 0 s) a1).bind fun r3 => cond (decide (vp_nar .char r3 = r3)) (some ((q_sL s 172 (vp_updL (s.2.2 172) 0 r3.toInt64)), 0, 0)) none) (some (s, 1, 1)))
set_option maxHeartbeats 4000000 in
theorem dzt_X7_64_236 (z L : Nat) (xs : Nat → Int32) (s : q_S) (c n : Nat) (a1 : Int32) (x : q_S × Int32 × Nat) (h : dz_X7_64_236 s a1 = some x) : q_Ca (q_TBs z L xs) 7 7 [.ref 64, .int a1, .ref 236] (q_kX s c n) ((q_oEX c n) x) := by
  refine q_CaP_of (φ := (q_oEX c n)) (Nat.le_of_ble_eq_true rfl) ?_ h
  clear h
  unfold dz_X7_64_236
  refine q_RP_seg (g2 := (4, [(0, .ref 64), (1, .int a1), (2, .ref 236)], [.int a1, .ref 64, .int 0, .ref 236], (q_kX s c n))) 4 (fun _ _ => rfl) ?_
  generalize er2 : dz_B329_64 (q_vw 2 71 0 s) = r2
  refine q_RP_let ?_
  cases h3 : decide (a1 < 0) with
  | true =>
    refine q_RP_cT ?_
    refine q_RP_callH (E := "java/lang/IndexOutOfBoundsException") (tg := 13) (i := 3) (h2 := (q_kX s (c + 1) (n + 6))) rfl rfl ?_ rfl ?_
    · refine q_Ca_of (Nat.le_of_ble_eq_true rfl) ?_
      refine q_Ru_seg (g2 := (5, [(0, .ref 64), (1, .int a1)], [.ref 135, .int a1], (q_kX s c n))) 3 (fun _ _ => rfl) ?_
      refine q_Ru_call (v := (some (.int r2))) (h2 := (q_kX s c n)) rfl rfl ?_ ?_
      · exact (q_emBXp rfl (fun _ => rfl) (q_cE (φ := (q_oP (q_kB (q_vw 2 71 0 s) c n))) er2 (dzt_B329_64 z L xs (q_vw 2 71 0 s) c n))).le (Nat.le_of_ble_eq_true rfl)
      show q_Ru _ _ _ (8, [(0, .ref 64), (1, .int a1)], [.int r2, .int a1], (q_kX s c n)) _
      refine q_Ru_callX (E := "java/lang/IndexOutOfBoundsException") (h2 := (q_kX s (c + 1) (n + 6))) rfl rfl ?_
      refine q_Ca_of (Nat.le_of_ble_eq_true rfl) ?_
      refine q_Ru_seg (g2 := (1, [(0, .int a1), (1, .int r2)], [.int a1], (q_kX s c n))) 1 (fun _ _ => rfl) ?_
      refine q_Ru_rsT (g2 := (9, [(0, .int a1), (1, .int r2)], [], (q_kX s c n))) rfl rfl h3 ?_
      exact q_Ru_thr rfl rfl
    show q_RP _ _ _ (13, [(0, .ref 64), (1, .int a1), (2, .ref 236)], [], (q_kX s (c + 1) (n + 6))) _ _
    refine q_RP_seg (g2 := (14, [(0, .ref 64), (1, .int a1), (2, .ref 236)], [.int 1], (q_kX s (c + 1) (n + 6)))) 1 (fun _ _ => rfl) ?_
    exact q_RP_ret rfl rfl rfl
  | false =>
    refine q_RP_cF ?_
    cases h4 : decide (a1 < r2) with
    | true =>
      refine q_RP_cT ?_
      refine q_RP_bd fun r3 er3 => ?_
      refine q_RP_as fun i5 => ?_
      refine q_RP_call (v := (some (.int r3))) (h2 := (q_kX s c n)) rfl rfl ?_ ?_
      · refine q_Ca_of (Nat.le_of_ble_eq_true rfl) ?_
        refine q_Ru_seg (g2 := (5, [(0, .ref 64), (1, .int a1)], [.ref 135, .int a1], (q_kX s c n))) 3 (fun _ _ => rfl) ?_
        refine q_Ru_call (v := (some (.int r2))) (h2 := (q_kX s c n)) rfl rfl ?_ ?_
        · exact (q_emBXp rfl (fun _ => rfl) (q_cE (φ := (q_oP (q_kB (q_vw 2 71 0 s) c n))) er2 (dzt_B329_64 z L xs (q_vw 2 71 0 s) c n))).le (Nat.le_of_ble_eq_true rfl)
        show q_Ru _ _ _ (8, [(0, .ref 64), (1, .int a1)], [.int r2, .int a1], (q_kX s c n)) _
        refine q_Ru_call (v := none) (h2 := (q_kX s c n)) rfl rfl ?_ ?_
        · refine q_Ca_of (Nat.le_of_ble_eq_true rfl) ?_
          refine q_Ru_seg (g2 := (1, [(0, .int a1), (1, .int r2)], [.int a1], (q_kX s c n))) 1 (fun _ _ => rfl) ?_
          refine q_Ru_rsF (g2 := (4, [(0, .int a1), (1, .int r2)], [], (q_kX s c n))) rfl rfl h3 ?_
          refine q_Ru_seg (g2 := (6, [(0, .int a1), (1, .int r2)], [.int r2, .int a1], (q_kX s c n))) 2 (fun _ _ => rfl) ?_
          refine q_Ru_rsT (g2 := (19, [(0, .int a1), (1, .int r2)], [], (q_kX s c n))) rfl rfl h4 ?_
          exact q_Ru_ret rfl rfl
        show q_Ru _ _ _ (11, [(0, .ref 64), (1, .int a1)], [], (q_kX s c n)) _
        refine q_Ru_seg (g2 := (16, [(0, .ref 64), (1, .int a1)], [.int a1, .ref 135], (q_kX s c n))) 3 (fun _ _ => rfl) ?_
        refine q_Ru_call (v := (some (.int r3))) (h2 := (q_kX s c n)) rfl rfl ?_ ?_
        · exact (q_emBXp rfl (fun _ => rfl) (dzt_B327_64 z L xs (q_vw 2 71 0 s) c n a1 r3 er3)).le (Nat.le_of_ble_eq_true rfl)
        show q_Ru _ _ _ (19, [(0, .ref 64), (1, .int a1)], [.int r3], (q_kX s c n)) _
        exact q_Ru_ret rfl (if_pos (of_decide_eq_true i5))
      show q_RP _ _ _ (7, [(0, .ref 64), (1, .int a1), (2, .ref 236)], [.int r3, .int 0, .ref 236], (q_kX s c n)) _ _
      refine q_RP_seg (g2 := (8, [(0, .ref 64), (1, .int a1), (2, .ref 236)], [.long r3.toInt64, .int 0, .ref 236], (q_kX s c n))) 1 (fun _ _ => rfl) ?_
      refine q_RP_rsT (g2 := (9, [(0, .ref 64), (1, .int a1), (2, .ref 236)], [], (q_kX (q_sL s 172 (vp_updL (s.2.2 172) 0 r3.toInt64)) c n))) rfl q_wX172 rfl ?_
      refine q_RP_seg (g2 := (16, [(0, .ref 64), (1, .int a1), (2, .ref 236)], [.int 0], (q_kX (q_sL s 172 (vp_updL (s.2.2 172) 0 r3.toInt64)) c n))) 2 (fun _ _ => rfl) ?_
      exact q_RP_ret rfl rfl rfl
    | false =>
      refine q_RP_cF ?_
      refine q_RP_callH (E := "java/lang/IndexOutOfBoundsException") (tg := 13) (i := 3) (h2 := (q_kX s (c + 1) (n + 6))) rfl rfl ?_ rfl ?_
      · refine q_Ca_of (Nat.le_of_ble_eq_true rfl) ?_
        refine q_Ru_seg (g2 := (5, [(0, .ref 64), (1, .int a1)], [.ref 135, .int a1], (q_kX s c n))) 3 (fun _ _ => rfl) ?_
        refine q_Ru_call (v := (some (.int r2))) (h2 := (q_kX s c n)) rfl rfl ?_ ?_
        · exact (q_emBXp rfl (fun _ => rfl) (q_cE (φ := (q_oP (q_kB (q_vw 2 71 0 s) c n))) er2 (dzt_B329_64 z L xs (q_vw 2 71 0 s) c n))).le (Nat.le_of_ble_eq_true rfl)
        show q_Ru _ _ _ (8, [(0, .ref 64), (1, .int a1)], [.int r2, .int a1], (q_kX s c n)) _
        refine q_Ru_callX (E := "java/lang/IndexOutOfBoundsException") (h2 := (q_kX s (c + 1) (n + 6))) rfl rfl ?_
        refine q_Ca_of (Nat.le_of_ble_eq_true rfl) ?_
        refine q_Ru_seg (g2 := (1, [(0, .int a1), (1, .int r2)], [.int a1], (q_kX s c n))) 1 (fun _ _ => rfl) ?_
        refine q_Ru_rsF (g2 := (4, [(0, .int a1), (1, .int r2)], [], (q_kX s c n))) rfl rfl h3 ?_
        refine q_Ru_seg (g2 := (6, [(0, .int a1), (1, .int r2)], [.int r2, .int a1], (q_kX s c n))) 2 (fun _ _ => rfl) ?_
        refine q_Ru_rsF (g2 := (9, [(0, .int a1), (1, .int r2)], [], (q_kX s c n))) rfl rfl h4 ?_
        exact q_Ru_thr rfl rfl
      show q_RP _ _ _ (13, [(0, .ref 64), (1, .int a1), (2, .ref 236)], [], (q_kX s (c + 1) (n + 6))) _ _
      refine q_RP_seg (g2 := (14, [(0, .ref 64), (1, .int a1), (2, .ref 236)], [.int 1], (q_kX s (c + 1) (n + 6)))) 1 (fun _ _ => rfl) ?_
      exact q_RP_ret rfl rfl rfl
def dz_X36_22 (m : Nat) : q_S → Int32 → Int32 → Int32 → Int32 → Int32 → Option (Int32) := Nat.rec (motive := fun _ => q_S → Int32 → Int32 → Int32 → Int32 → Int32 → Option (Int32)) (fun _ _ _ _ _ _ => none) (fun _ k22 s v1 v2 v3 v4 v5 =>
  cond (decide (v5 < v3)) ((dz_N90_65 (q_vw 32 1 73 s) ((v1 + v5) &&& 4095)).bind fun r1 => (dz_N90_65 (q_vw 32 1 73 s) ((v2 + v5) &&& 4095)).bind fun r2 => cond (decide (r1 = r2)) (k22 s v1 v2 v3 v4 (v5 + 1)) (k22 s v1 v2 v3 (v4 + 1) (v5 + 1))) (some v4)) m
theorem dzs_X36_22 (m : Nat) (s : q_S) (v1 : Int32) (v2 : Int32) (v3 : Int32) (v4 : Int32) (v5 : Int32) : dz_X36_22 (m + 1) s v1 v2 v3 v4 v5 = (fun k22 : q_S → Int32 → Int32 → Int32 → Int32 → Int32 → Option (Int32) =>
  cond (decide (v5 < v3)) ((dz_N90_65 (q_vw 32 1 73 s) ((v1 + v5) &&& 4095)).bind fun r1 => (dz_N90_65 (q_vw 32 1 73 s) ((v2 + v5) &&& 4095)).bind fun r2 => cond (decide (r1 = r2)) (k22 s v1 v2 v3 v4 (v5 + 1)) (k22 s v1 v2 v3 (v4 + 1) (v5 + 1))) (some v4)) (dz_X36_22 m) := rfl
set_option maxHeartbeats 4000000 in
theorem dzt_X36_22 (z L : Nat) (xs : Nat → Int32) (c n : Nat) (s : q_S) : ∀ (m : Nat) (v1 : Int32) (v2 : Int32) (v3 : Int32) (v4 : Int32) (v5 : Int32), q_RP (q_TBs z L xs) 2 36 (22, [(0, .ref 64), (1, .int v1), (2, .int v2), (3, .int v3), (4, .int v4), (5, .int v5)], [], (q_kX s c n)) (q_oP (q_kX s c n)) (dz_X36_22 m s v1 v2 v3 v4 v5) := by
  intro m
  induction m with
  | zero => intro v1 v2 v3 v4 v5; exact q_RP_no
  | succ m ih =>
    intro v1 v2 v3 v4 v5
    have hk22 := ih
    clear ih
    rw [dzs_X36_22]
    generalize dz_X36_22 m = k22 at hk22 ⊢
    dsimp only
    refine q_RP_seg (g2 := (25, [(0, .ref 64), (1, .int v1), (2, .int v2), (3, .int v3), (4, .int v4), (5, .int v5)], [.int v3, .int v5], (q_kX s c n))) 2 (fun _ _ => rfl) ?_
    cases h13 : decide (v5 < v3) with
    | true =>
      refine q_RP_cT ?_
      refine q_RP_rsF (g2 := (28, [(0, .ref 64), (1, .int v1), (2, .int v2), (3, .int v3), (4, .int v4), (5, .int v5)], [], (q_kX s c n))) rfl rfl (q_d_geT h13) ?_
      refine q_RP_seg (g2 := (43, [(0, .ref 64), (1, .int v1), (2, .int v2), (3, .int v3), (4, .int v4), (5, .int v5)], [.int ((v1 + v5) &&& 4095), .ref 66], (q_kX s c n))) 8 (fun _ _ => rfl) ?_
      refine q_RP_bd fun r1 er1 => ?_
      refine q_RP_call (v := (some (.int r1))) (h2 := (q_kX s c n)) rfl rfl ((q_emNX_1p rfl (fun _ => rfl) ((dzt_N90_65 (q_vw 32 1 73 s) c n ((v1 + v5) &&& 4095) r1 er1).tb q_TB0_le)).le (Nat.le_of_ble_eq_true rfl)) ?_
      show q_RP _ _ _ (46, [(0, .ref 64), (1, .int v1), (2, .int v2), (3, .int v3), (4, .int v4), (5, .int v5)], [.int r1], (q_kX s c n)) _ _
      refine q_RP_seg (g2 := (65, [(6, .int r1), (0, .ref 64), (1, .int v1), (2, .int v2), (3, .int v3), (4, .int v4), (5, .int v5)], [.int ((v2 + v5) &&& 4095), .ref 66, .int r1], (q_kX s c n))) 10 (fun _ _ => rfl) ?_
      refine q_RP_bd fun r2 er2 => ?_
      refine q_RP_call (v := (some (.int r2))) (h2 := (q_kX s c n)) rfl rfl ((q_emNX_1p rfl (fun _ => rfl) ((dzt_N90_65 (q_vw 32 1 73 s) c n ((v2 + v5) &&& 4095) r2 er2).tb q_TB0_le)).le (Nat.le_of_ble_eq_true rfl)) ?_
      show q_RP _ _ _ (68, [(6, .int r1), (0, .ref 64), (1, .int v1), (2, .int v2), (3, .int v3), (4, .int v4), (5, .int v5)], [.int r2, .int r1], (q_kX s c n)) _ _
      cases h14 : decide (r1 = r2) with
      | true =>
        refine q_RP_cT ?_
        refine q_RP_rsT (g2 := (74, [(6, .int r1), (0, .ref 64), (1, .int v1), (2, .int v2), (3, .int v3), (4, .int v4), (5, .int v5)], [], (q_kX s c n))) rfl rfl h14 ?_
        refine q_RP_seg (g2 := (22, [(5, .int (v5 + 1)), (6, .int r1), (0, .ref 64), (1, .int v1), (2, .int v2), (3, .int v3), (4, .int v4)], [], (q_kX s c n))) 2 (fun _ _ => rfl) ?_
        exact q_RP_xt (q_xt_mk (q_mn1 2 rfl (q_mn1 3 rfl (q_mn1 4 rfl (q_mn1 5 rfl (q_mn1 6 rfl (q_mn1 0 rfl q_mn0)))))) rfl) (hk22 v1 v2 v3 v4 (v5 + 1))
      | false =>
        refine q_RP_cF ?_
        refine q_RP_rsF (g2 := (71, [(6, .int r1), (0, .ref 64), (1, .int v1), (2, .int v2), (3, .int v3), (4, .int v4), (5, .int v5)], [], (q_kX s c n))) rfl rfl h14 ?_
        refine q_RP_seg (g2 := (22, [(5, .int (v5 + 1)), (4, .int (v4 + 1)), (6, .int r1), (0, .ref 64), (1, .int v1), (2, .int v2), (3, .int v3)], [], (q_kX s c n))) 3 (fun _ _ => rfl) ?_
        exact q_RP_xt (q_xt_mk (q_mn1 3 rfl (q_mn1 4 rfl (q_mn1 5 rfl (q_mn1 6 rfl (q_mn1 1 rfl (q_mn1 0 rfl q_mn0)))))) rfl) (hk22 v1 v2 v3 (v4 + 1) (v5 + 1))
    | false =>
      refine q_RP_cF ?_
      refine q_RP_rsT (g2 := (80, [(0, .ref 64), (1, .int v1), (2, .int v2), (3, .int v3), (4, .int v4), (5, .int v5)], [], (q_kX s c n))) rfl rfl (q_d_geF h13) ?_
      refine q_RP_seg (g2 := (82, [(0, .ref 64), (1, .int v1), (2, .int v2), (3, .int v3), (4, .int v4), (5, .int v5)], [.int v4], (q_kX s c n))) 1 (fun _ _ => rfl) ?_
      exact q_RP_ret rfl rfl rfl
end
