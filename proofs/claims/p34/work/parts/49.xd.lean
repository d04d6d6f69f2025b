def dz_X68_64_20 (m : Nat) : q_S → Int32 → Int32 → Int32 → Option (UInt32) := Nat.rec (motive := fun _ => q_S → Int32 → Int32 → Int32 → Option (UInt32)) (fun _ _ _ _ => none) (fun _ k20 s v1 v2 v3 =>
  cond (decide (v3 < 1024)) (cond (q_in v3 1024) (cond (decide ((s.1 32) (v3.toNatClampNeg) = v1)) (k20 s v1 v2 (v3 + 1)) (k20 s v1 (v2 + 1) (v3 + 1))) none) (cond (q_nnf (FP.fdiv (FP.i2f v2) 1149239296)) (some (FP.fdiv (FP.i2f v2) 1149239296)) none)) m
theorem dzs_X68_64_20 (m : Nat) (s : q_S) (v1 : Int32) (v2 : Int32) (v3 : Int32) : dz_X68_64_20 (m + 1) s v1 v2 v3 = (fun k20 : q_S → Int32 → Int32 → Int32 → Option (UInt32) =>
  cond (decide (v3 < 1024)) (cond (q_in v3 1024) (cond (decide ((s.1 32) (v3.toNatClampNeg) = v1)) (k20 s v1 v2 (v3 + 1)) (k20 s v1 (v2 + 1) (v3 + 1))) none) (cond (q_nnf (FP.fdiv (FP.i2f v2) 1149239296)) (some (FP.fdiv (FP.i2f v2) 1149239296)) none)) (dz_X68_64_20 m) := rfl
set_option maxHeartbeats 4000000 in
theorem dzt_X68_64_20 (z L : Nat) (xs : Nat → Int32) (c n : Nat) (s : q_S) : ∀ (m : Nat) (v1 : Int32) (v2 : Int32) (v3 : Int32), q_RP (q_TBs z L xs) 0 68 (20, [(0, .ref 64), (1, .int v1), (2, .int v2), (3, .int v3)], [], (q_kX s c n)) (q_oF (q_kX s c n)) (dz_X68_64_20 m s v1 v2 v3) := by
  intro m
  induction m with
  | zero => intro v1 v2 v3; exact q_RP_no
  | succ m ih =>
    intro v1 v2 v3
    have hk20 := ih
    clear ih
    rw [dzs_X68_64_20]
    generalize dz_X68_64_20 m = k20 at hk20 ⊢
    dsimp only
    refine q_RP_seg (g2 := (24, [(0, .ref 64), (1, .int v1), (2, .int v2), (3, .int v3)], [.int 1024, .int v3], (q_kX s c n))) 2 (fun _ _ => rfl) ?_
    cases h882 : decide (v3 < 1024) with
    | true =>
      refine q_RP_cT ?_
      refine q_RP_rsF (g2 := (27, [(0, .ref 64), (1, .int v1), (2, .int v2), (3, .int v3)], [], (q_kX s c n))) rfl rfl (q_d_geT h882) ?_
      refine q_RP_seg (g2 := (35, [(0, .ref 64), (1, .int v1), (2, .int v2), (3, .int v3)], [.int v3, .ref 96], (q_kX s c n))) 4 (fun _ _ => rfl) ?_
      refine q_RP_as fun i883 => ?_
      refine q_RP_rsT (g2 := (36, [(0, .ref 64), (1, .int v1), (2, .int v2), (3, .int v3)], [.int ((s.1 32) (v3.toNatClampNeg))], (q_kX s c n))) rfl rfl i883 ?_
      refine q_RP_seg (g2 := (37, [(0, .ref 64), (1, .int v1), (2, .int v2), (3, .int v3)], [.int v1, .int ((s.1 32) (v3.toNatClampNeg))], (q_kX s c n))) 1 (fun _ _ => rfl) ?_
      cases h884 : decide ((s.1 32) (v3.toNatClampNeg) = v1) with
      | true =>
        refine q_RP_cT ?_
        refine q_RP_rsT (g2 := (43, [(0, .ref 64), (1, .int v1), (2, .int v2), (3, .int v3)], [], (q_kX s c n))) rfl rfl h884 ?_
        refine q_RP_seg (g2 := (20, [(3, .int (v3 + 1)), (0, .ref 64), (1, .int v1), (2, .int v2)], [], (q_kX s c n))) 2 (fun _ _ => rfl) ?_
        exact q_RP_xt (q_xt_mk (q_mn1 1 rfl (q_mn1 2 rfl (q_mn1 3 rfl (q_mn1 0 rfl q_mn0)))) rfl) (hk20 v1 v2 (v3 + 1))
      | false =>
        refine q_RP_cF ?_
        refine q_RP_rsF (g2 := (40, [(0, .ref 64), (1, .int v1), (2, .int v2), (3, .int v3)], [], (q_kX s c n))) rfl rfl h884 ?_
        refine q_RP_seg (g2 := (20, [(3, .int (v3 + 1)), (2, .int (v2 + 1)), (0, .ref 64), (1, .int v1)], [], (q_kX s c n))) 3 (fun _ _ => rfl) ?_
        exact q_RP_xt (q_xt_mk (q_mn1 2 rfl (q_mn1 3 rfl (q_mn1 1 rfl (q_mn1 0 rfl q_mn0)))) rfl) (hk20 v1 (v2 + 1) (v3 + 1))
    | false =>
      refine q_RP_cF ?_
      refine q_RP_rsT (g2 := (49, [(0, .ref 64), (1, .int v1), (2, .int v2), (3, .int v3)], [], (q_kX s c n))) rfl rfl (q_d_geF h882) ?_
      refine q_RP_seg (g2 := (53, [(0, .ref 64), (1, .int v1), (2, .int v2), (3, .int v3)], [.float 1149239296, .float (FP.i2f v2)], (q_kX s c n))) 3 (fun _ _ => rfl) ?_
      refine q_RP_as fun i885 => ?_
      refine q_RP_st1 (g2 := (54, [(0, .ref 64), (1, .int v1), (2, .int v2), (3, .int v3)], [.float (FP.fdiv (FP.i2f v2) 1149239296)], (q_kX s c n))) rfl (q_fdv i885) ?_
      exact q_RP_ret rfl rfl rfl
def dz_X68_64 (s : q_S) : Option (UInt32) :=
  q_let ((s.1 5) 3) fun x653 => dz_X68_64_20 5000 s x653 0 0
set_option maxHeartbeats 4000000 in
theorem dzt_X68_64 (z L : Nat) (xs : Nat → Int32) (s : q_S) (c n : Nat) (x : UInt32) (h : dz_X68_64 s = some x) : q_Ca (q_TBs z L xs) 1 68 [.ref 64] (q_kX s c n) ((q_oF (q_kX s c n)) x) := by
  refine q_CaP_of (φ := (q_oF (q_kX s c n))) (Nat.le_of_ble_eq_true rfl) ?_ h
  clear h
  unfold dz_X68_64
  refine q_RP_seg (g2 := (15, [(0, .ref 64)], [.int ((s.1 5) 3)], (q_kX s c n))) 7 (fun _ _ => rfl) ?_
  generalize ((s.1 5) 3) = x653
  refine q_RP_let ?_
  show q_RP _ _ _ (15, [(0, .ref 64)], [.int x653], (q_kX s c n)) _ _
  refine q_RP_seg (g2 := (20, [(3, .int 0), (2, .int 0), (1, .int x653), (0, .ref 64)], [], (q_kX s c n))) 5 (fun _ _ => rfl) ?_
  exact q_RP_xt (q_xt_mk (q_mn1 3 rfl (q_mn1 2 rfl (q_mn1 1 rfl (q_mn1 0 rfl q_mn0)))) rfl) (dzt_X68_64_20 z L xs c n s 5000 x653 0 0)
def dz_X69_64_4 (m : Nat) : q_S → Int32 → Int32 → Option (UInt64) := Nat.rec (motive := fun _ => q_S → Int32 → Int32 → Option (UInt64)) (fun _ _ _ => none) (fun _ k4 s v1 v2 =>
  cond (decide (v2 < 40)) (cond (q_in v2 40) (q_let (v1 + ((s.1 31) (v2.toNatClampNeg))) fun x654 => k4 s x654 (v2 + 1)) none) (cond (q_nnd (FP.ddiv (FP.i2d v1) 4630826316843712512)) (some (FP.ddiv (FP.i2d v1) 4630826316843712512)) none)) m
theorem dzs_X69_64_4 (m : Nat) (s : q_S) (v1 : Int32) (v2 : Int32) : dz_X69_64_4 (m + 1) s v1 v2 = (fun k4 : q_S → Int32 → Int32 → Option (UInt64) =>
  cond (decide (v2 < 40)) (cond (q_in v2 40) (q_let (v1 + ((s.1 31) (v2.toNatClampNeg))) fun x654 => k4 s x654 (v2 + 1)) none) (cond (q_nnd (FP.ddiv (FP.i2d v1) 4630826316843712512)) (some (FP.ddiv (FP.i2d v1) 4630826316843712512)) none)) (dz_X69_64_4 m) := rfl
set_option maxHeartbeats 4000000 in
theorem dzt_X69_64_4 (z L : Nat) (xs : Nat → Int32) (c n : Nat) (s : q_S) : ∀ (m : Nat) (v1 : Int32) (v2 : Int32), q_RP (q_TBs z L xs) 0 69 (4, [(0, .ref 64), (1, .int v1), (2, .int v2)], [], (q_kX s c n)) (q_oD (q_kX s c n)) (dz_X69_64_4 m s v1 v2) := by
  intro m
  induction m with
  | zero => intro v1 v2; exact q_RP_no
  | succ m ih =>
    intro v1 v2
    have hk4 := ih
    clear ih
    rw [dzs_X69_64_4]
    generalize dz_X69_64_4 m = k4 at hk4 ⊢
    dsimp only
    refine q_RP_seg (g2 := (7, [(0, .ref 64), (1, .int v1), (2, .int v2)], [.int 40, .int v2], (q_kX s c n))) 2 (fun _ _ => rfl) ?_
    cases h886 : decide (v2 < 40) with
    | true =>
      refine q_RP_cT ?_
      refine q_RP_rsF (g2 := (10, [(0, .ref 64), (1, .int v1), (2, .int v2)], [], (q_kX s c n))) rfl rfl (q_d_geT h886) ?_
      refine q_RP_seg (g2 := (22, [(0, .ref 64), (1, .int v1), (2, .int v2)], [.int v2, .ref 95, .int v1], (q_kX s c n))) 6 (fun _ _ => rfl) ?_
      refine q_RP_as fun i887 => ?_
      refine q_RP_rsT (g2 := (23, [(0, .ref 64), (1, .int v1), (2, .int v2)], [.int ((s.1 31) (v2.toNatClampNeg)), .int v1], (q_kX s c n))) rfl rfl i887 ?_
      refine q_RP_seg (g2 := (24, [(0, .ref 64), (1, .int v1), (2, .int v2)], [.int (v1 + ((s.1 31) (v2.toNatClampNeg)))], (q_kX s c n))) 1 (fun _ _ => rfl) ?_
      generalize (v1 + ((s.1 31) (v2.toNatClampNeg))) = x654
      refine q_RP_let ?_
      show q_RP _ _ _ (24, [(0, .ref 64), (1, .int v1), (2, .int v2)], [.int x654], (q_kX s c n)) _ _
      refine q_RP_seg (g2 := (4, [(2, .int (v2 + 1)), (1, .int x654), (0, .ref 64)], [], (q_kX s c n))) 3 (fun _ _ => rfl) ?_
      exact q_RP_xt (q_xt_mk (q_mn1 2 rfl (q_mn1 1 rfl (q_mn1 0 rfl q_mn0))) rfl) (hk4 x654 (v2 + 1))
    | false =>
      refine q_RP_cF ?_
      refine q_RP_rsT (g2 := (31, [(0, .ref 64), (1, .int v1), (2, .int v2)], [], (q_kX s c n))) rfl rfl (q_d_geF h886) ?_
      refine q_RP_seg (g2 := (36, [(0, .ref 64), (1, .int v1), (2, .int v2)], [.double 4630826316843712512, .double (FP.i2d v1)], (q_kX s c n))) 3 (fun _ _ => rfl) ?_
      refine q_RP_as fun i888 => ?_
      refine q_RP_st1 (g2 := (37, [(0, .ref 64), (1, .int v1), (2, .int v2)], [.double (FP.ddiv (FP.i2d v1) 4630826316843712512)], (q_kX s c n))) rfl (q_ddv i888) ?_
      exact q_RP_ret rfl rfl rfl
def dz_X69_64 (s : q_S) : Option (UInt64) :=
  dz_X69_64_4 5000 s 0 0
set_option maxHeartbeats 4000000 in
theorem dzt_X69_64 (z L : Nat) (xs : Nat → Int32) (s : q_S) (c n : Nat) (x : UInt64) (h : dz_X69_64 s = some x) : q_Ca (q_TBs z L xs) 1 69 [.ref 64] (q_kX s c n) ((q_oD (q_kX s c n)) x) := by
  refine q_CaP_of (φ := (q_oD (q_kX s c n))) (Nat.le_of_ble_eq_true rfl) ?_ h
  clear h
  unfold dz_X69_64
  refine q_RP_seg (g2 := (4, [(2, .int 0), (1, .int 0), (0, .ref 64)], [], (q_kX s c n))) 4 (fun _ _ => rfl) ?_
  exact q_RP_xt (q_xt_mk (q_mn1 2 rfl (q_mn1 1 rfl (q_mn1 0 rfl q_mn0))) rfl) (dzt_X69_64_4 z L xs c n s 5000 0 0)
