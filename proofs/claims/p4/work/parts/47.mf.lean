def dz_M304_73_88_3 (m : Nat) : q_S → Int32 → Int32 → Int32 → Int32 → Option (q_S) := Nat.rec (motive := fun _ => q_S → Int32 → Int32 → Int32 → Int32 → Option (q_S)) (fun _ _ _ _ _ => none) (fun _ k3 s v1 v3 v4 v5 =>
  cond (decide (v5 < v4)) (cond (q_in (v1 + v5) 16) (cond (q_in (v3 + v5) 48) (k3 (q_sA s 24 (upd (s.1 24) ((v3 + v5).toNatClampNeg) ((s.1 9) ((v1 + v5).toNatClampNeg)))) v1 v3 v4 (v5 + 1)) none) none) (some s)) m
theorem dzs_M304_73_88_3 (m : Nat) (s : q_S) (v1 : Int32) (v3 : Int32) (v4 : Int32) (v5 : Int32) : dz_M304_73_88_3 (m + 1) s v1 v3 v4 v5 = (fun k3 : q_S → Int32 → Int32 → Int32 → Int32 → Option (q_S) =>
  cond (decide (v5 < v4)) (cond (q_in (v1 + v5) 16) (cond (q_in (v3 + v5) 48) (k3 (q_sA s 24 (upd (s.1 24) ((v3 + v5).toNatClampNeg) ((s.1 9) ((v1 + v5).toNatClampNeg)))) v1 v3 v4 (v5 + 1)) none) none) (some s)) (dz_M304_73_88_3 m) := rfl
set_option maxHeartbeats 4000000 in
theorem dzt_M304_73_88_3 (c n : Nat) : ∀ (m : Nat) (s : q_S) (v1 : Int32) (v3 : Int32) (v4 : Int32) (v5 : Int32), q_RP q_TB0 0 303 (3, [(0, .ref 73), (1, .int v1), (2, .ref 88), (3, .int v3), (4, .int v4), (5, .int v5)], [], (q_kM s c n)) (q_oSM c n) (dz_M304_73_88_3 m s v1 v3 v4 v5) := by
  intro m
  induction m with
  | zero => intro s v1 v3 v4 v5; exact q_RP_no
  | succ m ih =>
    intro s v1 v3 v4 v5
    have hk3 := ih
    clear ih
    rw [dzs_M304_73_88_3]
    generalize dz_M304_73_88_3 m = k3 at hk3 ⊢
    dsimp only
    refine q_RP_seg (g2 := (7, [(0, .ref 73), (1, .int v1), (2, .ref 88), (3, .int v3), (4, .int v4), (5, .int v5)], [.int v4, .int v5], (q_kM s c n))) 2 (fun _ _ => rfl) ?_
    cases h1 : decide (v5 < v4) with
    | true =>
      refine q_RP_cT ?_
      refine q_RP_rsF (g2 := (10, [(0, .ref 73), (1, .int v1), (2, .ref 88), (3, .int v3), (4, .int v4), (5, .int v5)], [], (q_kM s c n))) rfl rfl (q_d_geT h1) ?_
      refine q_RP_seg (g2 := (20, [(0, .ref 73), (1, .int v1), (2, .ref 88), (3, .int v3), (4, .int v4), (5, .int v5)], [.int (v1 + v5), .ref 73, .int (v3 + v5), .ref 88], (q_kM s c n))) 8 (fun _ _ => rfl) ?_
      refine q_RP_as fun i2 => ?_
      refine q_RP_rsT (g2 := (21, [(0, .ref 73), (1, .int v1), (2, .ref 88), (3, .int v3), (4, .int v4), (5, .int v5)], [.int ((s.1 9) ((v1 + v5).toNatClampNeg)), .int (v3 + v5), .ref 88], (q_kM s c n))) rfl rfl i2 ?_
      refine q_RP_as fun i3 => ?_
      refine q_RP_rsT (g2 := (22, [(0, .ref 73), (1, .int v1), (2, .ref 88), (3, .int v3), (4, .int v4), (5, .int v5)], [], (q_kM (q_sA s 24 (upd (s.1 24) ((v3 + v5).toNatClampNeg) ((s.1 9) ((v1 + v5).toNatClampNeg)))) c n))) rfl q_wM24 i3 ?_
      refine q_RP_seg (g2 := (3, [(5, .int (v5 + 1)), (0, .ref 73), (1, .int v1), (2, .ref 88), (3, .int v3), (4, .int v4)], [], (q_kM (q_sA s 24 (upd (s.1 24) ((v3 + v5).toNatClampNeg) ((s.1 9) ((v1 + v5).toNatClampNeg)))) c n))) 2 (fun _ _ => rfl) ?_
      exact q_RP_xt (q_xt_mk (q_mn1 1 rfl (q_mn1 2 rfl (q_mn1 3 rfl (q_mn1 4 rfl (q_mn1 5 rfl (q_mn1 0 rfl q_mn0)))))) rfl) (hk3 (q_sA s 24 (upd (s.1 24) ((v3 + v5).toNatClampNeg) ((s.1 9) ((v1 + v5).toNatClampNeg)))) v1 v3 v4 (v5 + 1))
    | false =>
      refine q_RP_cF ?_
      refine q_RP_rsT (g2 := (28, [(0, .ref 73), (1, .int v1), (2, .ref 88), (3, .int v3), (4, .int v4), (5, .int v5)], [], (q_kM s c n))) rfl rfl (q_d_geF h1) ?_
      exact q_RP_ret rfl rfl rfl
def dz_M304_73_88 (s : q_S) (a1 : Int32) (a3 : Int32) (a4 : Int32) : Option (q_S) :=
  dz_M304_73_88_3 5000 s a1 a3 a4 0
set_option maxHeartbeats 4000000 in
theorem dzt_M304_73_88 (s : q_S) (c n : Nat) (a1 : Int32) (a3 : Int32) (a4 : Int32) (x : q_S) (h : dz_M304_73_88 s a1 a3 a4 = some x) : q_Ca q_TB0 1 303 [.ref 73, .int a1, .ref 88, .int a3, .int a4] (q_kM s c n) ((q_oSM c n) x) := by
  refine q_CaP_of (φ := (q_oSM c n)) (Nat.le_of_ble_eq_true rfl) ?_ h
  clear h
  unfold dz_M304_73_88
  refine q_RP_seg (g2 := (3, [(5, .int 0), (0, .ref 73), (1, .int a1), (2, .ref 88), (3, .int a3), (4, .int a4)], [], (q_kM s c n))) 2 (fun _ _ => rfl) ?_
  exact q_RP_xt (q_xt_mk (q_mn1 1 rfl (q_mn1 2 rfl (q_mn1 3 rfl (q_mn1 4 rfl (q_mn1 5 rfl (q_mn1 0 rfl q_mn0)))))) rfl) (dzt_M304_73_88_3 c n 5000 s a1 a3 a4 0)
def dz_M304_74_89_3 (m : Nat) : q_S → Int32 → Int32 → Int32 → Int32 → Option (q_S) := Nat.rec (motive := fun _ => q_S → Int32 → Int32 → Int32 → Int32 → Option (q_S)) (fun _ _ _ _ _ => none) (fun _ k3 s v1 v3 v4 v5 =>
  cond (decide (v5 < v4)) (cond (q_in (v1 + v5) 3) (cond (q_in (v3 + v5) 9) (k3 (q_sA s 25 (upd (s.1 25) ((v3 + v5).toNatClampNeg) ((s.1 10) ((v1 + v5).toNatClampNeg)))) v1 v3 v4 (v5 + 1)) none) none) (some s)) m
theorem dzs_M304_74_89_3 (m : Nat) (s : q_S) (v1 : Int32) (v3 : Int32) (v4 : Int32) (v5 : Int32) : dz_M304_74_89_3 (m + 1) s v1 v3 v4 v5 = (fun k3 : q_S → Int32 → Int32 → Int32 → Int32 → Option (q_S) =>
  cond (decide (v5 < v4)) (cond (q_in (v1 + v5) 3) (cond (q_in (v3 + v5) 9) (k3 (q_sA s 25 (upd (s.1 25) ((v3 + v5).toNatClampNeg) ((s.1 10) ((v1 + v5).toNatClampNeg)))) v1 v3 v4 (v5 + 1)) none) none) (some s)) (dz_M304_74_89_3 m) := rfl
set_option maxHeartbeats 4000000 in
theorem dzt_M304_74_89_3 (c n : Nat) : ∀ (m : Nat) (s : q_S) (v1 : Int32) (v3 : Int32) (v4 : Int32) (v5 : Int32), q_RP q_TB0 0 303 (3, [(0, .ref 74), (1, .int v1), (2, .ref 89), (3, .int v3), (4, .int v4), (5, .int v5)], [], (q_kM s c n)) (q_oSM c n) (dz_M304_74_89_3 m s v1 v3 v4 v5) := by
  intro m
  induction m with
  | zero => intro s v1 v3 v4 v5; exact q_RP_no
  | succ m ih =>
    intro s v1 v3 v4 v5
    have hk3 := ih
    clear ih
    rw [dzs_M304_74_89_3]
    generalize dz_M304_74_89_3 m = k3 at hk3 ⊢
    dsimp only
    refine q_RP_seg (g2 := (7, [(0, .ref 74), (1, .int v1), (2, .ref 89), (3, .int v3), (4, .int v4), (5, .int v5)], [.int v4, .int v5], (q_kM s c n))) 2 (fun _ _ => rfl) ?_
    cases h1 : decide (v5 < v4) with
    | true =>
      refine q_RP_cT ?_
      refine q_RP_rsF (g2 := (10, [(0, .ref 74), (1, .int v1), (2, .ref 89), (3, .int v3), (4, .int v4), (5, .int v5)], [], (q_kM s c n))) rfl rfl (q_d_geT h1) ?_
      refine q_RP_seg (g2 := (20, [(0, .ref 74), (1, .int v1), (2, .ref 89), (3, .int v3), (4, .int v4), (5, .int v5)], [.int (v1 + v5), .ref 74, .int (v3 + v5), .ref 89], (q_kM s c n))) 8 (fun _ _ => rfl) ?_
      refine q_RP_as fun i2 => ?_
      refine q_RP_rsT (g2 := (21, [(0, .ref 74), (1, .int v1), (2, .ref 89), (3, .int v3), (4, .int v4), (5, .int v5)], [.int ((s.1 10) ((v1 + v5).toNatClampNeg)), .int (v3 + v5), .ref 89], (q_kM s c n))) rfl rfl i2 ?_
      refine q_RP_as fun i3 => ?_
      refine q_RP_rsT (g2 := (22, [(0, .ref 74), (1, .int v1), (2, .ref 89), (3, .int v3), (4, .int v4), (5, .int v5)], [], (q_kM (q_sA s 25 (upd (s.1 25) ((v3 + v5).toNatClampNeg) ((s.1 10) ((v1 + v5).toNatClampNeg)))) c n))) rfl q_wM25 i3 ?_
      refine q_RP_seg (g2 := (3, [(5, .int (v5 + 1)), (0, .ref 74), (1, .int v1), (2, .ref 89), (3, .int v3), (4, .int v4)], [], (q_kM (q_sA s 25 (upd (s.1 25) ((v3 + v5).toNatClampNeg) ((s.1 10) ((v1 + v5).toNatClampNeg)))) c n))) 2 (fun _ _ => rfl) ?_
      exact q_RP_xt (q_xt_mk (q_mn1 1 rfl (q_mn1 2 rfl (q_mn1 3 rfl (q_mn1 4 rfl (q_mn1 5 rfl (q_mn1 0 rfl q_mn0)))))) rfl) (hk3 (q_sA s 25 (upd (s.1 25) ((v3 + v5).toNatClampNeg) ((s.1 10) ((v1 + v5).toNatClampNeg)))) v1 v3 v4 (v5 + 1))
    | false =>
      refine q_RP_cF ?_
      refine q_RP_rsT (g2 := (28, [(0, .ref 74), (1, .int v1), (2, .ref 89), (3, .int v3), (4, .int v4), (5, .int v5)], [], (q_kM s c n))) rfl rfl (q_d_geF h1) ?_
      exact q_RP_ret rfl rfl rfl
def dz_M304_74_89 (s : q_S) (a1 : Int32) (a3 : Int32) (a4 : Int32) : Option (q_S) :=
  dz_M304_74_89_3 5000 s a1 a3 a4 0
set_option maxHeartbeats 4000000 in
theorem dzt_M304_74_89 (s : q_S) (c n : Nat) (a1 : Int32) (a3 : Int32) (a4 : Int32) (x : q_S) (h : dz_M304_74_89 s a1 a3 a4 = some x) : q_Ca q_TB0 1 303 [.ref 74, .int a1, .ref 89, .int a3, .int a4] (q_kM s c n) ((q_oSM c n) x) := by
  refine q_CaP_of (φ := (q_oSM c n)) (Nat.le_of_ble_eq_true rfl) ?_ h
  clear h
  unfold dz_M304_74_89
  refine q_RP_seg (g2 := (3, [(5, .int 0), (0, .ref 74), (1, .int a1), (2, .ref 89), (3, .int a3), (4, .int a4)], [], (q_kM s c n))) 2 (fun _ _ => rfl) ?_
  exact q_RP_xt (q_xt_mk (q_mn1 1 rfl (q_mn1 2 rfl (q_mn1 3 rfl (q_mn1 4 rfl (q_mn1 5 rfl (q_mn1 0 rfl q_mn0)))))) rfl) (dzt_M304_74_89_3 c n 5000 s a1 a3 a4 0)
def dz_M304_75_90_3 (m : Nat) : q_S → Int32 → Int32 → Int32 → Int32 → Option (q_S) := Nat.rec (motive := fun _ => q_S → Int32 → Int32 → Int32 → Int32 → Option (q_S)) (fun _ _ _ _ _ => none) (fun _ k3 s v1 v3 v4 v5 =>
  cond (decide (v5 < v4)) (cond (q_in (v1 + v5) 3) (cond (q_in (v3 + v5) 9) (k3 (q_sA s 26 (upd (s.1 26) ((v3 + v5).toNatClampNeg) ((s.1 11) ((v1 + v5).toNatClampNeg)))) v1 v3 v4 (v5 + 1)) none) none) (some s)) m
theorem dzs_M304_75_90_3 (m : Nat) (s : q_S) (v1 : Int32) (v3 : Int32) (v4 : Int32) (v5 : Int32) : dz_M304_75_90_3 (m + 1) s v1 v3 v4 v5 = (fun k3 : q_S → Int32 → Int32 → Int32 → Int32 → Option (q_S) =>
  cond (decide (v5 < v4)) (cond (q_in (v1 + v5) 3) (cond (q_in (v3 + v5) 9) (k3 (q_sA s 26 (upd (s.1 26) ((v3 + v5).toNatClampNeg) ((s.1 11) ((v1 + v5).toNatClampNeg)))) v1 v3 v4 (v5 + 1)) none) none) (some s)) (dz_M304_75_90_3 m) := rfl
set_option maxHeartbeats 4000000 in
theorem dzt_M304_75_90_3 (c n : Nat) : ∀ (m : Nat) (s : q_S) (v1 : Int32) (v3 : Int32) (v4 : Int32) (v5 : Int32), q_RP q_TB0 0 303 (3, [(0, .ref 75), (1, .int v1), (2, .ref 90), (3, .int v3), (4, .int v4), (5, .int v5)], [], (q_kM s c n)) (q_oSM c n) (dz_M304_75_90_3 m s v1 v3 v4 v5) := by
  intro m
  induction m with
  | zero => intro s v1 v3 v4 v5; exact q_RP_no
  | succ m ih =>
    intro s v1 v3 v4 v5
    have hk3 := ih
    clear ih
    rw [dzs_M304_75_90_3]
    generalize dz_M304_75_90_3 m = k3 at hk3 ⊢
    dsimp only
    refine q_RP_seg (g2 := (7, [(0, .ref 75), (1, .int v1), (2, .ref 90), (3, .int v3), (4, .int v4), (5, .int v5)], [.int v4, .int v5], (q_kM s c n))) 2 (fun _ _ => rfl) ?_
    cases h1 : decide (v5 < v4) with
    | true =>
      refine q_RP_cT ?_
      refine q_RP_rsF (g2 := (10, [(0, .ref 75), (1, .int v1), (2, .ref 90), (3, .int v3), (4, .int v4), (5, .int v5)], [], (q_kM s c n))) rfl rfl (q_d_geT h1) ?_
      refine q_RP_seg (g2 := (20, [(0, .ref 75), (1, .int v1), (2, .ref 90), (3, .int v3), (4, .int v4), (5, .int v5)], [.int (v1 + v5), .ref 75, .int (v3 + v5), .ref 90], (q_kM s c n))) 8 (fun _ _ => rfl) ?_
      refine q_RP_as fun i2 => ?_
      refine q_RP_rsT (g2 := (21, [(0, .ref 75), (1, .int v1), (2, .ref 90), (3, .int v3), (4, .int v4), (5, .int v5)], [.int ((s.1 11) ((v1 + v5).toNatClampNeg)), .int (v3 + v5), .ref 90], (q_kM s c n))) rfl rfl i2 ?_
      refine q_RP_as fun i3 => ?_
      refine q_RP_rsT (g2 := (22, [(0, .ref 75), (1, .int v1), (2, .ref 90), (3, .int v3), (4, .int v4), (5, .int v5)], [], (q_kM (q_sA s 26 (upd (s.1 26) ((v3 + v5).toNatClampNeg) ((s.1 11) ((v1 + v5).toNatClampNeg)))) c n))) rfl q_wM26 i3 ?_
      refine q_RP_seg (g2 := (3, [(5, .int (v5 + 1)), (0, .ref 75), (1, .int v1), (2, .ref 90), (3, .int v3), (4, .int v4)], [], (q_kM (q_sA s 26 (upd (s.1 26) ((v3 + v5).toNatClampNeg) ((s.1 11) ((v1 + v5).toNatClampNeg)))) c n))) 2 (fun _ _ => rfl) ?_
      exact q_RP_xt (q_xt_mk (q_mn1 1 rfl (q_mn1 2 rfl (q_mn1 3 rfl (q_mn1 4 rfl (q_mn1 5 rfl (q_mn1 0 rfl q_mn0)))))) rfl) (hk3 (q_sA s 26 (upd (s.1 26) ((v3 + v5).toNatClampNeg) ((s.1 11) ((v1 + v5).toNatClampNeg)))) v1 v3 v4 (v5 + 1))
    | false =>
      refine q_RP_cF ?_
      refine q_RP_rsT (g2 := (28, [(0, .ref 75), (1, .int v1), (2, .ref 90), (3, .int v3), (4, .int v4), (5, .int v5)], [], (q_kM s c n))) rfl rfl (q_d_geF h1) ?_
      exact q_RP_ret rfl rfl rfl
def dz_M304_75_90 (s : q_S) (a1 : Int32) (a3 : Int32) (a4 : Int32) : Option (q_S) :=
  dz_M304_75_90_3 5000 s a1 a3 a4 0
set_option maxHeartbeats 4000000 in
theorem dzt_M304_75_90 (s : q_S) (c n : Nat) (a1 : Int32) (a3 : Int32) (a4 : Int32) (x : q_S) (h : dz_M304_75_90 s a1 a3 a4 = some x) : q_Ca q_TB0 1 303 [.ref 75, .int a1, .ref 90, .int a3, .int a4] (q_kM s c n) ((q_oSM c n) x) := by
  refine q_CaP_of (φ := (q_oSM c n)) (Nat.le_of_ble_eq_true rfl) ?_ h
  clear h
  unfold dz_M304_75_90
  refine q_RP_seg (g2 := (3, [(5, .int 0), (0, .ref 75), (1, .int a1), (2, .ref 90), (3, .int a3), (4, .int a4)], [], (q_kM s c n))) 2 (fun _ _ => rfl) ?_
  exact q_RP_xt (q_xt_mk (q_mn1 1 rfl (q_mn1 2 rfl (q_mn1 3 rfl (q_mn1 4 rfl (q_mn1 5 rfl (q_mn1 0 rfl q_mn0)))))) rfl) (dzt_M304_75_90_3 c n 5000 s a1 a3 a4 0)
def dz_M304_76_91_3 (m : Nat) : q_S → Int32 → Int32 → Int32 → Int32 → Option (q_S) := Nat.rec (motive := fun _ => q_S → Int32 → Int32 → Int32 → Int32 → Option (q_S)) (fun _ _ _ _ _ => none) (fun _ k3 s v1 v3 v4 v5 =>
  cond (decide (v5 < v4)) (cond (q_in (v1 + v5) 3) (cond (q_in (v3 + v5) 9) (k3 (q_sA s 27 (upd (s.1 27) ((v3 + v5).toNatClampNeg) ((s.1 12) ((v1 + v5).toNatClampNeg)))) v1 v3 v4 (v5 + 1)) none) none) (some s)) m
theorem dzs_M304_76_91_3 (m : Nat) (s : q_S) (v1 : Int32) (v3 : Int32) (v4 : Int32) (v5 : Int32) : dz_M304_76_91_3 (m + 1) s v1 v3 v4 v5 = (fun k3 : q_S → Int32 → Int32 → Int32 → Int32 → Option (q_S) =>
  cond (decide (v5 < v4)) (cond (q_in (v1 + v5) 3) (cond (q_in (v3 + v5) 9) (k3 (q_sA s 27 (upd (s.1 27) ((v3 + v5).toNatClampNeg) ((s.1 12) ((v1 + v5).toNatClampNeg)))) v1 v3 v4 (v5 + 1)) none) none) (some s)) (dz_M304_76_91_3 m) := rfl
set_option maxHeartbeats 4000000 in
theorem dzt_M304_76_91_3 (c n : Nat) : ∀ (m : Nat) (s : q_S) (v1 : Int32) (v3 : Int32) (v4 : Int32) (v5 : Int32), q_RP q_TB0 0 303 (3, [(0, .ref 76), (1, .int v1), (2, .ref 91), (3, .int v3), (4, .int v4), (5, .int v5)], [], (q_kM s c n)) (q_oSM c n) (dz_M304_76_91_3 m s v1 v3 v4 v5) := by
  intro m
  induction m with
  | zero => intro s v1 v3 v4 v5; exact q_RP_no
  | succ m ih =>
    intro s v1 v3 v4 v5
    have hk3 := ih
    clear ih
    rw [dzs_M304_76_91_3]
    generalize dz_M304_76_91_3 m = k3 at hk3 ⊢
    dsimp only
    refine q_RP_seg (g2 := (7, [(0, .ref 76), (1, .int v1), (2, .ref 91), (3, .int v3), (4, .int v4), (5, .int v5)], [.int v4, .int v5], (q_kM s c n))) 2 (fun _ _ => rfl) ?_
    cases h1 : decide (v5 < v4) with
    | true =>
      refine q_RP_cT ?_
      refine q_RP_rsF (g2 := (10, [(0, .ref 76), (1, .int v1), (2, .ref 91), (3, .int v3), (4, .int v4), (5, .int v5)], [], (q_kM s c n))) rfl rfl (q_d_geT h1) ?_
      refine q_RP_seg (g2 := (20, [(0, .ref 76), (1, .int v1), (2, .ref 91), (3, .int v3), (4, .int v4), (5, .int v5)], [.int (v1 + v5), .ref 76, .int (v3 + v5), .ref 91], (q_kM s c n))) 8 (fun _ _ => rfl) ?_
      refine q_RP_as fun i2 => ?_
      refine q_RP_rsT (g2 := (21, [(0, .ref 76), (1, .int v1), (2, .ref 91), (3, .int v3), (4, .int v4), (5, .int v5)], [.int ((s.1 12) ((v1 + v5).toNatClampNeg)), .int (v3 + v5), .ref 91], (q_kM s c n))) rfl rfl i2 ?_
      refine q_RP_as fun i3 => ?_
      refine q_RP_rsT (g2 := (22, [(0, .ref 76), (1, .int v1), (2, .ref 91), (3, .int v3), (4, .int v4), (5, .int v5)], [], (q_kM (q_sA s 27 (upd (s.1 27) ((v3 + v5).toNatClampNeg) ((s.1 12) ((v1 + v5).toNatClampNeg)))) c n))) rfl q_wM27 i3 ?_
      refine q_RP_seg (g2 := (3, [(5, .int (v5 + 1)), (0, .ref 76), (1, .int v1), (2, .ref 91), (3, .int v3), (4, .int v4)], [], (q_kM (q_sA s 27 (upd (s.1 27) ((v3 + v5).toNatClampNeg) ((s.1 12) ((v1 + v5).toNatClampNeg)))) c n))) 2 (fun _ _ => rfl) ?_
      exact q_RP_xt (q_xt_mk (q_mn1 1 rfl (q_mn1 2 rfl (q_mn1 3 rfl (q_mn1 4 rfl (q_mn1 5 rfl (q_mn1 0 rfl q_mn0)))))) rfl) (hk3 (q_sA s 27 (upd (s.1 27) ((v3 + v5).toNatClampNeg) ((s.1 12) ((v1 + v5).toNatClampNeg)))) v1 v3 v4 (v5 + 1))
    | false =>
      refine q_RP_cF ?_
      refine q_RP_rsT (g2 := (28, [(0, .ref 76), (1, .int v1), (2, .ref 91), (3, .int v3), (4, .int v4), (5, .int v5)], [], (q_kM s c n))) rfl rfl (q_d_geF h1) ?_
      exact q_RP_ret rfl rfl rfl
def dz_M304_76_91 (s : q_S) (a1 : Int32) (a3 : Int32) (a4 : Int32) : Option (q_S) :=
  dz_M304_76_91_3 5000 s a1 a3 a4 0
set_option maxHeartbeats 4000000 in
theorem dzt_M304_76_91 (s : q_S) (c n : Nat) (a1 : Int32) (a3 : Int32) (a4 : Int32) (x : q_S) (h : dz_M304_76_91 s a1 a3 a4 = some x) : q_Ca q_TB0 1 303 [.ref 76, .int a1, .ref 91, .int a3, .int a4] (q_kM s c n) ((q_oSM c n) x) := by
  refine q_CaP_of (φ := (q_oSM c n)) (Nat.le_of_ble_eq_true rfl) ?_ h
  clear h
  unfold dz_M304_76_91
  refine q_RP_seg (g2 := (3, [(5, .int 0), (0, .ref 76), (1, .int a1), (2, .ref 91), (3, .int a3), (4, .int a4)], [], (q_kM s c n))) 2 (fun _ _ => rfl) ?_
  exact q_RP_xt (q_xt_mk (q_mn1 1 rfl (q_mn1 2 rfl (q_mn1 3 rfl (q_mn1 4 rfl (q_mn1 5 rfl (q_mn1 0 rfl q_mn0)))))) rfl) (dzt_M304_76_91_3 c n 5000 s a1 a3 a4 0)
def dz_M304_77_92_3 (m : Nat) : q_S → Int32 → Int32 → Int32 → Int32 → Option (q_S) := Nat.rec (motive := fun _ => q_S → Int32 → Int32 → Int32 → Int32 → Option (q_S)) (fun _ _ _ _ _ => none) (fun _ k3 s v1 v3 v4 v5 =>
  cond (decide (v5 < v4)) (cond (q_in (v1 + v5) 3) (cond (q_in (v3 + v5) 9) (k3 (q_sA s 28 (upd (s.1 28) ((v3 + v5).toNatClampNeg) ((s.1 13) ((v1 + v5).toNatClampNeg)))) v1 v3 v4 (v5 + 1)) none) none) (some s)) m
theorem dzs_M304_77_92_3 (m : Nat) (s : q_S) (v1 : Int32) (v3 : Int32) (v4 : Int32) (v5 : Int32) : dz_M304_77_92_3 (m + 1) s v1 v3 v4 v5 = (fun k3 : q_S → Int32 → Int32 → Int32 → Int32 → Option (q_S) =>
  cond (decide (v5 < v4)) (cond (q_in (v1 + v5) 3) (cond (q_in (v3 + v5) 9) (k3 (q_sA s 28 (upd (s.1 28) ((v3 + v5).toNatClampNeg) ((s.1 13) ((v1 + v5).toNatClampNeg)))) v1 v3 v4 (v5 + 1)) none) none) (some s)) (dz_M304_77_92_3 m) := rfl
set_option maxHeartbeats 4000000 in
theorem dzt_M304_77_92_3 (c n : Nat) : ∀ (m : Nat) (s : q_S) (v1 : Int32) (v3 : Int32) (v4 : Int32) (v5 : Int32), q_RP q_TB0 0 303 (3, [(0, .ref 77), (1, .int v1), (2, .ref 92), (3, .int v3), (4, .int v4), (5, .int v5)], [], (q_kM s c n)) (q_oSM c n) (dz_M304_77_92_3 m s v1 v3 v4 v5) := by
  intro m
  induction m with
  | zero => intro s v1 v3 v4 v5; exact q_RP_no
  | succ m ih =>
    intro s v1 v3 v4 v5
    have hk3 := ih
    clear ih
    rw [dzs_M304_77_92_3]
    generalize dz_M304_77_92_3 m = k3 at hk3 ⊢
    dsimp only
    refine q_RP_seg (g2 := (7, [(0, .ref 77), (1, .int v1), (2, .ref 92), (3, .int v3), (4, .int v4), (5, .int v5)], [.int v4, .int v5], (q_kM s c n))) 2 (fun _ _ => rfl) ?_
    cases h1 : decide (v5 < v4) with
    | true =>
      refine q_RP_cT ?_
      refine q_RP_rsF (g2 := (10, [(0, .ref 77), (1, .int v1), (2, .ref 92), (3, .int v3), (4, .int v4), (5, .int v5)], [], (q_kM s c n))) rfl rfl (q_d_geT h1) ?_
      refine q_RP_seg (g2 := (20, [(0, .ref 77), (1, .int v1), (2, .ref 92), (3, .int v3), (4, .int v4), (5, .int v5)], [.int (v1 + v5), .ref 77, .int (v3 + v5), .ref 92], (q_kM s c n))) 8 (fun _ _ => rfl) ?_
      refine q_RP_as fun i2 => ?_
      refine q_RP_rsT (g2 := (21, [(0, .ref 77), (1, .int v1), (2, .ref 92), (3, .int v3), (4, .int v4), (5, .int v5)], [.int ((s.1 13) ((v1 + v5).toNatClampNeg)), .int (v3 + v5), .ref 92], (q_kM s c n))) rfl rfl i2 ?_
      refine q_RP_as fun i3 => ?_
      refine q_RP_rsT (g2 := (22, [(0, .ref 77), (1, .int v1), (2, .ref 92), (3, .int v3), (4, .int v4), (5, .int v5)], [], (q_kM (q_sA s 28 (upd (s.1 28) ((v3 + v5).toNatClampNeg) ((s.1 13) ((v1 + v5).toNatClampNeg)))) c n))) rfl q_wM28 i3 ?_
      refine q_RP_seg (g2 := (3, [(5, .int (v5 + 1)), (0, .ref 77), (1, .int v1), (2, .ref 92), (3, .int v3), (4, .int v4)], [], (q_kM (q_sA s 28 (upd (s.1 28) ((v3 + v5).toNatClampNeg) ((s.1 13) ((v1 + v5).toNatClampNeg)))) c n))) 2 (fun _ _ => rfl) ?_
      exact q_RP_xt (q_xt_mk (q_mn1 1 rfl (q_mn1 2 rfl (q_mn1 3 rfl (q_mn1 4 rfl (q_mn1 5 rfl (q_mn1 0 rfl q_mn0)))))) rfl) (hk3 (q_sA s 28 (upd (s.1 28) ((v3 + v5).toNatClampNeg) ((s.1 13) ((v1 + v5).toNatClampNeg)))) v1 v3 v4 (v5 + 1))
    | false =>
      refine q_RP_cF ?_
      refine q_RP_rsT (g2 := (28, [(0, .ref 77), (1, .int v1), (2, .ref 92), (3, .int v3), (4, .int v4), (5, .int v5)], [], (q_kM s c n))) rfl rfl (q_d_geF h1) ?_
      exact q_RP_ret rfl rfl rfl
def dz_M304_77_92 (s : q_S) (a1 : Int32) (a3 : Int32) (a4 : Int32) : Option (q_S) :=
  dz_M304_77_92_3 5000 s a1 a3 a4 0
set_option maxHeartbeats 4000000 in
theorem dzt_M304_77_92 (s : q_S) (c n : Nat) (a1 : Int32) (a3 : Int32) (a4 : Int32) (x : q_S) (h : dz_M304_77_92 s a1 a3 a4 = some x) : q_Ca q_TB0 1 303 [.ref 77, .int a1, .ref 92, .int a3, .int a4] (q_kM s c n) ((q_oSM c n) x) := by
  refine q_CaP_of (φ := (q_oSM c n)) (Nat.le_of_ble_eq_true rfl) ?_ h
  clear h
  unfold dz_M304_77_92
  refine q_RP_seg (g2 := (3, [(5, .int 0), (0, .ref 77), (1, .int a1), (2, .ref 92), (3, .int a3), (4, .int a4)], [], (q_kM s c n))) 2 (fun _ _ => rfl) ?_
  exact q_RP_xt (q_xt_mk (q_mn1 1 rfl (q_mn1 2 rfl (q_mn1 3 rfl (q_mn1 4 rfl (q_mn1 5 rfl (q_mn1 0 rfl q_mn0)))))) rfl) (dzt_M304_77_92_3 c n 5000 s a1 a3 a4 0)
def dz_M304_78_93_3 (m : Nat) : q_S → Int32 → Int32 → Int32 → Int32 → Option (q_S) := Nat.rec (motive := fun _ => q_S → Int32 → Int32 → Int32 → Int32 → Option (q_S)) (fun _ _ _ _ _ => none) (fun _ k3 s v1 v3 v4 v5 =>
  cond (decide (v5 < v4)) (cond (q_in (v1 + v5) 24) (cond (q_in (v3 + v5) 72) (k3 (q_sA s 29 (upd (s.1 29) ((v3 + v5).toNatClampNeg) ((s.1 14) ((v1 + v5).toNatClampNeg)))) v1 v3 v4 (v5 + 1)) none) none) (some s)) m
theorem dzs_M304_78_93_3 (m : Nat) (s : q_S) (v1 : Int32) (v3 : Int32) (v4 : Int32) (v5 : Int32) : dz_M304_78_93_3 (m + 1) s v1 v3 v4 v5 = (fun k3 : q_S → Int32 → Int32 → Int32 → Int32 → Option (q_S) =>
  cond (decide (v5 < v4)) (cond (q_in (v1 + v5) 24) (cond (q_in (v3 + v5) 72) (k3 (q_sA s 29 (upd (s.1 29) ((v3 + v5).toNatClampNeg) ((s.1 14) ((v1 + v5).toNatClampNeg)))) v1 v3 v4 (v5 + 1)) none) none) (some s)) (dz_M304_78_93_3 m) := rfl
set_option maxHeartbeats 4000000 in
theorem dzt_M304_78_93_3 (c n : Nat) : ∀ (m : Nat) (s : q_S) (v1 : Int32) (v3 : Int32) (v4 : Int32) (v5 : Int32), q_RP q_TB0 0 303 (3, [(0, .ref 78), (1, .int v1), (2, .ref 93), (3, .int v3), (4, .int v4), (5, .int v5)], [], (q_kM s c n)) (q_oSM c n) (dz_M304_78_93_3 m s v1 v3 v4 v5) := by
  intro m
  induction m with
  | zero => intro s v1 v3 v4 v5; exact q_RP_no
  | succ m ih =>
    intro s v1 v3 v4 v5
    have hk3 := ih
    clear ih
    rw [dzs_M304_78_93_3]
    generalize dz_M304_78_93_3 m = k3 at hk3 ⊢
    dsimp only
    refine q_RP_seg (g2 := (7, [(0, .ref 78), (1, .int v1), (2, .ref 93), (3, .int v3), (4, .int v4), (5, .int v5)], [.int v4, .int v5], (q_kM s c n))) 2 (fun _ _ => rfl) ?_
    cases h1 : decide (v5 < v4) with
    | true =>
      refine q_RP_cT ?_
      refine q_RP_rsF (g2 := (10, [(0, .ref 78), (1, .int v1), (2, .ref 93), (3, .int v3), (4, .int v4), (5, .int v5)], [], (q_kM s c n))) rfl rfl (q_d_geT h1) ?_
      refine q_RP_seg (g2 := (20, [(0, .ref 78), (1, .int v1), (2, .ref 93), (3, .int v3), (4, .int v4), (5, .int v5)], [.int (v1 + v5), .ref 78, .int (v3 + v5), .ref 93], (q_kM s c n))) 8 (fun _ _ => rfl) ?_
      refine q_RP_as fun i2 => ?_
      refine q_RP_rsT (g2 := (21, [(0, .ref 78), (1, .int v1), (2, .ref 93), (3, .int v3), (4, .int v4), (5, .int v5)], [.int ((s.1 14) ((v1 + v5).toNatClampNeg)), .int (v3 + v5), .ref 93], (q_kM s c n))) rfl rfl i2 ?_
      refine q_RP_as fun i3 => ?_
      refine q_RP_rsT (g2 := (22, [(0, .ref 78), (1, .int v1), (2, .ref 93), (3, .int v3), (4, .int v4), (5, .int v5)], [], (q_kM (q_sA s 29 (upd (s.1 29) ((v3 + v5).toNatClampNeg) ((s.1 14) ((v1 + v5).toNatClampNeg)))) c n))) rfl q_wM29 i3 ?_
      refine q_RP_seg (g2 := (3, [(5, .int (v5 + 1)), (0, .ref 78), (1, .int v1), (2, .ref 93), (3, .int v3), (4, .int v4)], [], (q_kM (q_sA s 29 (upd (s.1 29) ((v3 + v5).toNatClampNeg) ((s.1 14) ((v1 + v5).toNatClampNeg)))) c n))) 2 (fun _ _ => rfl) ?_
      exact q_RP_xt (q_xt_mk (q_mn1 1 rfl (q_mn1 2 rfl (q_mn1 3 rfl (q_mn1 4 rfl (q_mn1 5 rfl (q_mn1 0 rfl q_mn0)))))) rfl) (hk3 (q_sA s 29 (upd (s.1 29) ((v3 + v5).toNatClampNeg) ((s.1 14) ((v1 + v5).toNatClampNeg)))) v1 v3 v4 (v5 + 1))
    | false =>
      refine q_RP_cF ?_
      refine q_RP_rsT (g2 := (28, [(0, .ref 78), (1, .int v1), (2, .ref 93), (3, .int v3), (4, .int v4), (5, .int v5)], [], (q_kM s c n))) rfl rfl (q_d_geF h1) ?_
      exact q_RP_ret rfl rfl rfl
def dz_M304_78_93 (s : q_S) (a1 : Int32) (a3 : Int32) (a4 : Int32) : Option (q_S) :=
  dz_M304_78_93_3 5000 s a1 a3 a4 0
set_option maxHeartbeats 4000000 in
theorem dzt_M304_78_93 (s : q_S) (c n : Nat) (a1 : Int32) (a3 : Int32) (a4 : Int32) (x : q_S) (h : dz_M304_78_93 s a1 a3 a4 = some x) : q_Ca q_TB0 1 303 [.ref 78, .int a1, .ref 93, .int a3, .int a4] (q_kM s c n) ((q_oSM c n) x) := by
  refine q_CaP_of (φ := (q_oSM c n)) (Nat.le_of_ble_eq_true rfl) ?_ h
  clear h
  unfold dz_M304_78_93
  refine q_RP_seg (g2 := (3, [(5, .int 0), (0, .ref 78), (1, .int a1), (2, .ref 93), (3, .int a3), (4, .int a4)], [], (q_kM s c n))) 2 (fun _ _ => rfl) ?_
  exact q_RP_xt (q_xt_mk (q_mn1 1 rfl (q_mn1 2 rfl (q_mn1 3 rfl (q_mn1 4 rfl (q_mn1 5 rfl (q_mn1 0 rfl q_mn0)))))) rfl) (dzt_M304_78_93_3 c n 5000 s a1 a3 a4 0)
def dz_M305_71_86_3 (m : Nat) : q_S → Int32 → Int32 → Int32 → Int32 → Option (q_S) := Nat.rec (motive := fun _ => q_S → Int32 → Int32 → Int32 → Int32 → Option (q_S)) (fun _ _ _ _ _ => none) (fun _ k3 s v1 v3 v4 v5 =>
  cond (decide (v5 < v4)) (cond (q_in (v1 + v5) 16) (cond (q_in (v3 + v5) 48) (k3 (q_sA s 22 (upd (s.1 22) ((v3 + v5).toNatClampNeg) (vp_nar .boolean ((s.1 7) ((v1 + v5).toNatClampNeg))))) v1 v3 v4 (v5 + 1)) none) none) (some s)) m
theorem dzs_M305_71_86_3 (m : Nat) (s : q_S) (v1 : Int32) (v3 : Int32) (v4 : Int32) (v5 : Int32) : dz_M305_71_86_3 (m + 1) s v1 v3 v4 v5 = (fun k3 : q_S → Int32 → Int32 → Int32 → Int32 → Option (q_S) =>
  cond (decide (v5 < v4)) (cond (q_in (v1 + v5) 16) (cond (q_in (v3 + v5) 48) (k3 (q_sA s 22 (upd (s.1 22) ((v3 + v5).toNatClampNeg) (vp_nar .boolean ((s.1 7) ((v1 + v5).toNatClampNeg))))) v1 v3 v4 (v5 + 1)) none) none) (some s)) (dz_M305_71_86_3 m) := rfl
set_option maxHeartbeats 4000000 in
theorem dzt_M305_71_86_3 (c n : Nat) : ∀ (m : Nat) (s : q_S) (v1 : Int32) (v3 : Int32) (v4 : Int32) (v5 : Int32), q_RP q_TB0 0 304 (3, [(0, .ref 71), (1, .int v1), (2, .ref 86), (3, .int v3), (4, .int v4), (5, .int v5)], [], (q_kM s c n)) (q_oSM c n) (dz_M305_71_86_3 m s v1 v3 v4 v5) := by
  intro m
  induction m with
  | zero => intro s v1 v3 v4 v5; exact q_RP_no
  | succ m ih =>
    intro s v1 v3 v4 v5
    have hk3 := ih
    clear ih
    rw [dzs_M305_71_86_3]
    generalize dz_M305_71_86_3 m = k3 at hk3 ⊢
    dsimp only
    refine q_RP_seg (g2 := (7, [(0, .ref 71), (1, .int v1), (2, .ref 86), (3, .int v3), (4, .int v4), (5, .int v5)], [.int v4, .int v5], (q_kM s c n))) 2 (fun _ _ => rfl) ?_
    cases h1 : decide (v5 < v4) with
    | true =>
      refine q_RP_cT ?_
      refine q_RP_rsF (g2 := (10, [(0, .ref 71), (1, .int v1), (2, .ref 86), (3, .int v3), (4, .int v4), (5, .int v5)], [], (q_kM s c n))) rfl rfl (q_d_geT h1) ?_
      refine q_RP_seg (g2 := (20, [(0, .ref 71), (1, .int v1), (2, .ref 86), (3, .int v3), (4, .int v4), (5, .int v5)], [.int (v1 + v5), .ref 71, .int (v3 + v5), .ref 86], (q_kM s c n))) 8 (fun _ _ => rfl) ?_
      refine q_RP_as fun i2 => ?_
      refine q_RP_rsT (g2 := (21, [(0, .ref 71), (1, .int v1), (2, .ref 86), (3, .int v3), (4, .int v4), (5, .int v5)], [.int ((s.1 7) ((v1 + v5).toNatClampNeg)), .int (v3 + v5), .ref 86], (q_kM s c n))) rfl rfl i2 ?_
      refine q_RP_as fun i3 => ?_
      refine q_RP_rsT (g2 := (22, [(0, .ref 71), (1, .int v1), (2, .ref 86), (3, .int v3), (4, .int v4), (5, .int v5)], [], (q_kM (q_sA s 22 (upd (s.1 22) ((v3 + v5).toNatClampNeg) (vp_nar .boolean ((s.1 7) ((v1 + v5).toNatClampNeg))))) c n))) rfl q_wM22 i3 ?_
      refine q_RP_seg (g2 := (3, [(5, .int (v5 + 1)), (0, .ref 71), (1, .int v1), (2, .ref 86), (3, .int v3), (4, .int v4)], [], (q_kM (q_sA s 22 (upd (s.1 22) ((v3 + v5).toNatClampNeg) (vp_nar .boolean ((s.1 7) ((v1 + v5).toNatClampNeg))))) c n))) 2 (fun _ _ => rfl) ?_
      exact q_RP_xt (q_xt_mk (q_mn1 1 rfl (q_mn1 2 rfl (q_mn1 3 rfl (q_mn1 4 rfl (q_mn1 5 rfl (q_mn1 0 rfl q_mn0)))))) rfl) (hk3 (q_sA s 22 (upd (s.1 22) ((v3 + v5).toNatClampNeg) (vp_nar .boolean ((s.1 7) ((v1 + v5).toNatClampNeg))))) v1 v3 v4 (v5 + 1))
    | false =>
      refine q_RP_cF ?_
      refine q_RP_rsT (g2 := (28, [(0, .ref 71), (1, .int v1), (2, .ref 86), (3, .int v3), (4, .int v4), (5, .int v5)], [], (q_kM s c n))) rfl rfl (q_d_geF h1) ?_
      exact q_RP_ret rfl rfl rfl
def dz_M305_71_86 (s : q_S) (a1 : Int32) (a3 : Int32) (a4 : Int32) : Option (q_S) :=
  dz_M305_71_86_3 5000 s a1 a3 a4 0
set_option maxHeartbeats 4000000 in
theorem dzt_M305_71_86 (s : q_S) (c n : Nat) (a1 : Int32) (a3 : Int32) (a4 : Int32) (x : q_S) (h : dz_M305_71_86 s a1 a3 a4 = some x) : q_Ca q_TB0 1 304 [.ref 71, .int a1, .ref 86, .int a3, .int a4] (q_kM s c n) ((q_oSM c n) x) := by
  refine q_CaP_of (φ := (q_oSM c n)) (Nat.le_of_ble_eq_true rfl) ?_ h
  clear h
  unfold dz_M305_71_86
  refine q_RP_seg (g2 := (3, [(5, .int 0), (0, .ref 71), (1, .int a1), (2, .ref 86), (3, .int a3), (4, .int a4)], [], (q_kM s c n))) 2 (fun _ _ => rfl) ?_
  exact q_RP_xt (q_xt_mk (q_mn1 1 rfl (q_mn1 2 rfl (q_mn1 3 rfl (q_mn1 4 rfl (q_mn1 5 rfl (q_mn1 0 rfl q_mn0)))))) rfl) (dzt_M305_71_86_3 c n 5000 s a1 a3 a4 0)
def dz_M305_79_94_3 (m : Nat) : q_S → Int32 → Int32 → Int32 → Int32 → Option (q_S) := Nat.rec (motive := fun _ => q_S → Int32 → Int32 → Int32 → Int32 → Option (q_S)) (fun _ _ _ _ _ => none) (fun _ k3 s v1 v3 v4 v5 =>
  cond (decide (v5 < v4)) (cond (q_in (v1 + v5) 8) (cond (q_in (v3 + v5) 24) (k3 (q_sA s 30 (upd (s.1 30) ((v3 + v5).toNatClampNeg) (vp_nar .boolean ((s.1 15) ((v1 + v5).toNatClampNeg))))) v1 v3 v4 (v5 + 1)) none) none) (some s)) m
theorem dzs_M305_79_94_3 (m : Nat) (s : q_S) (v1 : Int32) (v3 : Int32) (v4 : Int32) (v5 : Int32) : dz_M305_79_94_3 (m + 1) s v1 v3 v4 v5 = (fun k3 : q_S → Int32 → Int32 → Int32 → Int32 → Option (q_S) =>
  cond (decide (v5 < v4)) (cond (q_in (v1 + v5) 8) (cond (q_in (v3 + v5) 24) (k3 (q_sA s 30 (upd (s.1 30) ((v3 + v5).toNatClampNeg) (vp_nar .boolean ((s.1 15) ((v1 + v5).toNatClampNeg))))) v1 v3 v4 (v5 + 1)) none) none) (some s)) (dz_M305_79_94_3 m) := rfl
set_option maxHeartbeats 4000000 in
theorem dzt_M305_79_94_3 (c n : Nat) : ∀ (m : Nat) (s : q_S) (v1 : Int32) (v3 : Int32) (v4 : Int32) (v5 : Int32), q_RP q_TB0 0 304 (3, [(0, .ref 79), (1, .int v1), (2, .ref 94), (3, .int v3), (4, .int v4), (5, .int v5)], [], (q_kM s c n)) (q_oSM c n) (dz_M305_79_94_3 m s v1 v3 v4 v5) := by
  intro m
  induction m with
  | zero => intro s v1 v3 v4 v5; exact q_RP_no
  | succ m ih =>
    intro s v1 v3 v4 v5
    have hk3 := ih
    clear ih
    rw [dzs_M305_79_94_3]
    generalize dz_M305_79_94_3 m = k3 at hk3 ⊢
    dsimp only
    refine q_RP_seg (g2 := (7, [(0, .ref 79), (1, .int v1), (2, .ref 94), (3, .int v3), (4, .int v4), (5, .int v5)], [.int v4, .int v5], (q_kM s c n))) 2 (fun _ _ => rfl) ?_
    cases h1 : decide (v5 < v4) with
    | true =>
      refine q_RP_cT ?_
      refine q_RP_rsF (g2 := (10, [(0, .ref 79), (1, .int v1), (2, .ref 94), (3, .int v3), (4, .int v4), (5, .int v5)], [], (q_kM s c n))) rfl rfl (q_d_geT h1) ?_
      refine q_RP_seg (g2 := (20, [(0, .ref 79), (1, .int v1), (2, .ref 94), (3, .int v3), (4, .int v4), (5, .int v5)], [.int (v1 + v5), .ref 79, .int (v3 + v5), .ref 94], (q_kM s c n))) 8 (fun _ _ => rfl) ?_
      refine q_RP_as fun i2 => ?_
      refine q_RP_rsT (g2 := (21, [(0, .ref 79), (1, .int v1), (2, .ref 94), (3, .int v3), (4, .int v4), (5, .int v5)], [.int ((s.1 15) ((v1 + v5).toNatClampNeg)), .int (v3 + v5), .ref 94], (q_kM s c n))) rfl rfl i2 ?_
      refine q_RP_as fun i3 => ?_
      refine q_RP_rsT (g2 := (22, [(0, .ref 79), (1, .int v1), (2, .ref 94), (3, .int v3), (4, .int v4), (5, .int v5)], [], (q_kM (q_sA s 30 (upd (s.1 30) ((v3 + v5).toNatClampNeg) (vp_nar .boolean ((s.1 15) ((v1 + v5).toNatClampNeg))))) c n))) rfl q_wM30 i3 ?_
      refine q_RP_seg (g2 := (3, [(5, .int (v5 + 1)), (0, .ref 79), (1, .int v1), (2, .ref 94), (3, .int v3), (4, .int v4)], [], (q_kM (q_sA s 30 (upd (s.1 30) ((v3 + v5).toNatClampNeg) (vp_nar .boolean ((s.1 15) ((v1 + v5).toNatClampNeg))))) c n))) 2 (fun _ _ => rfl) ?_
      exact q_RP_xt (q_xt_mk (q_mn1 1 rfl (q_mn1 2 rfl (q_mn1 3 rfl (q_mn1 4 rfl (q_mn1 5 rfl (q_mn1 0 rfl q_mn0)))))) rfl) (hk3 (q_sA s 30 (upd (s.1 30) ((v3 + v5).toNatClampNeg) (vp_nar .boolean ((s.1 15) ((v1 + v5).toNatClampNeg))))) v1 v3 v4 (v5 + 1))
    | false =>
      refine q_RP_cF ?_
      refine q_RP_rsT (g2 := (28, [(0, .ref 79), (1, .int v1), (2, .ref 94), (3, .int v3), (4, .int v4), (5, .int v5)], [], (q_kM s c n))) rfl rfl (q_d_geF h1) ?_
      exact q_RP_ret rfl rfl rfl
def dz_M305_79_94 (s : q_S) (a1 : Int32) (a3 : Int32) (a4 : Int32) : Option (q_S) :=
  dz_M305_79_94_3 5000 s a1 a3 a4 0
set_option maxHeartbeats 4000000 in
theorem dzt_M305_79_94 (s : q_S) (c n : Nat) (a1 : Int32) (a3 : Int32) (a4 : Int32) (x : q_S) (h : dz_M305_79_94 s a1 a3 a4 = some x) : q_Ca q_TB0 1 304 [.ref 79, .int a1, .ref 94, .int a3, .int a4] (q_kM s c n) ((q_oSM c n) x) := by
  refine q_CaP_of (φ := (q_oSM c n)) (Nat.le_of_ble_eq_true rfl) ?_ h
  clear h
  unfold dz_M305_79_94
  refine q_RP_seg (g2 := (3, [(5, .int 0), (0, .ref 79), (1, .int a1), (2, .ref 94), (3, .int a3), (4, .int a4)], [], (q_kM s c n))) 2 (fun _ _ => rfl) ?_
  exact q_RP_xt (q_xt_mk (q_mn1 1 rfl (q_mn1 2 rfl (q_mn1 3 rfl (q_mn1 4 rfl (q_mn1 5 rfl (q_mn1 0 rfl q_mn0)))))) rfl) (dzt_M305_79_94_3 c n 5000 s a1 a3 a4 0)
def dz_M306_64 (s : q_S) : Option (q_S × Int32) :=
  cond (decide (s.2.1 0 17 = 3)) (q_let (dz_M200_64 s 1) fun r3 => cond r3.2 (some (r3.1, 0)) ((dz_M304_65_80 r3.1 0 (4096 * (r3.1.2.1 0 17)) 4096).bind fun r4 => (dz_M304_66_81 r4 0 (512 * (r3.1.2.1 0 17)) 512).bind fun r5 => (dz_M304_67_82 r5 0 (2048 * (r3.1.2.1 0 17)) 2048).bind fun r6 => (dz_M304_68_83 r6 0 (48 * (r3.1.2.1 0 17)) 48).bind fun r7 => (dz_M304_69_84 r7 0 (1024 * (r3.1.2.1 0 17)) 1024).bind fun r8 => (dz_M304_70_85 r8 0 (40 * (r3.1.2.1 0 17)) 40).bind fun r9 => (dz_M304_72_87 r9 0 (40 * (r3.1.2.1 0 17)) 40).bind fun r10 => (dz_M304_73_88 r10 0 (16 * (r3.1.2.1 0 17)) 16).bind fun r11 => (dz_M304_74_89 r11 0 (3 * (r3.1.2.1 0 17)) 3).bind fun r12 => (dz_M304_75_90 r12 0 (3 * (r3.1.2.1 0 17)) 3).bind fun r13 => (dz_M304_76_91 r13 0 (3 * (r3.1.2.1 0 17)) 3).bind fun r14 => (dz_M304_77_92 r14 0 (3 * (r3.1.2.1 0 17)) 3).bind fun r15 => (dz_M304_78_93 r15 0 (24 * (r3.1.2.1 0 17)) 24).bind fun r16 => (dz_M305_71_86 r16 0 (16 * (r3.1.2.1 0 17)) 16).bind fun r17 => (dz_M305_79_94 r17 0 (8 * (r3.1.2.1 0 17)) 8).bind fun r18 => cond (q_in (2 * (r3.1.2.1 0 17)) 6) (cond (q_in ((2 * (r3.1.2.1 0 17)) + 1) 6) (q_let ((q_sL r18 31 (vp_updL (r18.2.2 31) ((2 * (r3.1.2.1 0 17)).toNatClampNeg) (r18.2.2 0 15)))) fun r19 => some ((q_sI (q_sL r19 31 (vp_updL (r19.2.2 31) (((2 * (r3.1.2.1 0 17)) + 1).toNatClampNeg) (r18.2.2 0 16))) 0 17 ((r19.2.1 0 17) + 1)), (r3.1.2.1 0 17))) none) none)) (q_let (dz_M200_64 s 0) fun r20 => cond r20.2 (some (r20.1, 0)) ((dz_M304_65_80 r20.1 0 (4096 * (r20.1.2.1 0 17)) 4096).bind fun r21 => (dz_M304_66_81 r21 0 (512 * (r20.1.2.1 0 17)) 512).bind fun r22 => (dz_M304_67_82 r22 0 (2048 * (r20.1.2.1 0 17)) 2048).bind fun r23 => (dz_M304_68_83 r23 0 (48 * (r20.1.2.1 0 17)) 48).bind fun r24 => (dz_M304_69_84 r24 0 (1024 * (r20.1.2.1 0 17)) 1024).bind fun r25 => (dz_M304_70_85 r25 0 (40 * (r20.1.2.1 0 17)) 40).bind fun r26 => (dz_M304_72_87 r26 0 (40 * (r20.1.2.1 0 17)) 40).bind fun r27 => (dz_M304_73_88 r27 0 (16 * (r20.1.2.1 0 17)) 16).bind fun r28 => (dz_M304_74_89 r28 0 (3 * (r20.1.2.1 0 17)) 3).bind fun r29 => (dz_M304_75_90 r29 0 (3 * (r20.1.2.1 0 17)) 3).bind fun r30 => (dz_M304_76_91 r30 0 (3 * (r20.1.2.1 0 17)) 3).bind fun r31 => (dz_M304_77_92 r31 0 (3 * (r20.1.2.1 0 17)) 3).bind fun r32 => (dz_M304_78_93 r32 0 (24 * (r20.1.2.1 0 17)) 24).bind fun r33 => (dz_M305_71_86 r33 0 (16 * (r20.1.2.1 0 17)) 16).bind fun r34 => (dz_M305_79_94 r34 0 (8 * (r20.1.2.1 0 17)) 8).bind fun r35 => cond (q_in (2 * (r20.1.2.1 0 17)) 6) (cond (q_in ((2 * (r20.1.2.1 0 17)) + 1) 6) (q_let ((q_sL r35 31 (vp_updL (r35.2.2 31) ((2 * (r20.1.2.1 0 17)).toNatClampNeg) (r35.2.2 0 15)))) fun r36 => some ((q_sI (q_sL r36 31 (vp_updL (r36.2.2 31) (((2 * (r20.1.2.1 0 17)) + 1).toNatClampNeg) (r35.2.2 0 16))) 0 17 ((r36.2.1 0 17) + 1)), (r20.1.2.1 0 17))) none) none))
set_option maxHeartbeats 4000000 in
theorem dzt_M306_64 (s : q_S) (c n : Nat) (x : q_S × Int32) (h : dz_M306_64 s = some x) : q_Ca q_TB0 2 305 [.ref 64] (q_kM s c n) ((q_oIM c n) x) := by
  refine q_CaP_of (φ := (q_oIM c n)) (Nat.le_of_ble_eq_true rfl) ?_ h
  clear h
  unfold dz_M306_64
  refine q_RP_seg (g2 := (5, [(0, .ref 64)], [.int (s.2.1 0 17), .ref 64], (q_kM s c n))) 3 (fun _ _ => rfl) ?_
  refine q_RP_seg (g2 := (6, [(0, .ref 64)], [.int 3, .int (s.2.1 0 17), .ref 64], (q_kM s c n))) 1 (fun _ _ => rfl) ?_
  cases h3 : decide (s.2.1 0 17 = 3) with
  | true =>
    refine q_RP_cT ?_
    refine q_RP_rsF (g2 := (9, [(0, .ref 64)], [.ref 64], (q_kM s c n))) rfl rfl (q_d_neT h3) ?_
    refine q_RP_seg (g2 := (14, [(0, .ref 64)], [.int 1, .ref 64], (q_kM s c n))) 2 (fun _ _ => rfl) ?_
    refine q_RP_call (v := (some (.int (q_b (dz_M200_64 s 1).2)))) (h2 := (q_kM (dz_M200_64 s 1).1 c n)) rfl rfl ((dzt_M200_64 s c n 1).le (Nat.le_of_ble_eq_true rfl)) ?_
    generalize dz_M200_64 s 1 = r3
    refine q_RP_let ?_
    show q_RP _ _ _ (17, [(0, .ref 64)], [.int (q_b r3.2)], (q_kM r3.1 c n)) _ _
    cases h4 : r3.2 with
    | true =>
      refine q_RP_cT ?_
      show q_RP _ _ _ (17, [(0, .ref 64)], [.int 1], (q_kM r3.1 c n)) _ _
      refine q_RP_seg (g2 := (21, [(0, .ref 64)], [.int 0], (q_kM r3.1 c n))) 2 (fun _ _ => rfl) ?_
      exact q_RP_ret rfl rfl rfl
    | false =>
      refine q_RP_cF ?_
      show q_RP _ _ _ (17, [(0, .ref 64)], [.int 0], (q_kM r3.1 c n)) _ _
      refine q_RP_seg (g2 := (26, [(0, .ref 64)], [.int (r3.1.2.1 0 17)], (q_kM r3.1 c n))) 3 (fun _ _ => rfl) ?_
      refine q_RP_seg (g2 := (44, [(1, .int (r3.1.2.1 0 17)), (0, .ref 64)], [.int 4096, .int (4096 * (r3.1.2.1 0 17)), .ref 80, .int 0, .ref 65], (q_kM r3.1 c n))) 10 (fun _ _ => rfl) ?_
      refine q_RP_bd fun r4 er4 => ?_
      refine q_RP_call (v := none) (h2 := (q_kM r4 c n)) rfl rfl ((dzt_M304_65_80 r3.1 c n 0 (4096 * (r3.1.2.1 0 17)) 4096 r4 er4).le (Nat.le_of_ble_eq_true rfl)) ?_
      show q_RP _ _ _ (47, [(1, .int (r3.1.2.1 0 17)), (0, .ref 64)], [], (q_kM r4 c n)) _ _
      refine q_RP_seg (g2 := (64, [(1, .int (r3.1.2.1 0 17)), (0, .ref 64)], [.int 512, .int (512 * (r3.1.2.1 0 17)), .ref 81, .int 0, .ref 66], (q_kM r4 c n))) 9 (fun _ _ => rfl) ?_
      refine q_RP_bd fun r5 er5 => ?_
      refine q_RP_call (v := none) (h2 := (q_kM r5 c n)) rfl rfl ((dzt_M304_66_81 r4 c n 0 (512 * (r3.1.2.1 0 17)) 512 r5 er5).le (Nat.le_of_ble_eq_true rfl)) ?_
      show q_RP _ _ _ (67, [(1, .int (r3.1.2.1 0 17)), (0, .ref 64)], [], (q_kM r5 c n)) _ _
      refine q_RP_seg (g2 := (84, [(1, .int (r3.1.2.1 0 17)), (0, .ref 64)], [.int 2048, .int (2048 * (r3.1.2.1 0 17)), .ref 82, .int 0, .ref 67], (q_kM r5 c n))) 9 (fun _ _ => rfl) ?_
      refine q_RP_bd fun r6 er6 => ?_
      refine q_RP_call (v := none) (h2 := (q_kM r6 c n)) rfl rfl ((dzt_M304_67_82 r5 c n 0 (2048 * (r3.1.2.1 0 17)) 2048 r6 er6).le (Nat.le_of_ble_eq_true rfl)) ?_
      show q_RP _ _ _ (87, [(1, .int (r3.1.2.1 0 17)), (0, .ref 64)], [], (q_kM r6 c n)) _ _
      refine q_RP_seg (g2 := (102, [(1, .int (r3.1.2.1 0 17)), (0, .ref 64)], [.int 48, .int (48 * (r3.1.2.1 0 17)), .ref 83, .int 0, .ref 68], (q_kM r6 c n))) 9 (fun _ _ => rfl) ?_
      refine q_RP_bd fun r7 er7 => ?_
      refine q_RP_call (v := none) (h2 := (q_kM r7 c n)) rfl rfl ((dzt_M304_68_83 r6 c n 0 (48 * (r3.1.2.1 0 17)) 48 r7 er7).le (Nat.le_of_ble_eq_true rfl)) ?_
      show q_RP _ _ _ (105, [(1, .int (r3.1.2.1 0 17)), (0, .ref 64)], [], (q_kM r7 c n)) _ _
      refine q_RP_seg (g2 := (122, [(1, .int (r3.1.2.1 0 17)), (0, .ref 64)], [.int 1024, .int (1024 * (r3.1.2.1 0 17)), .ref 84, .int 0, .ref 69], (q_kM r7 c n))) 9 (fun _ _ => rfl) ?_
      refine q_RP_bd fun r8 er8 => ?_
      refine q_RP_call (v := none) (h2 := (q_kM r8 c n)) rfl rfl ((dzt_M304_69_84 r7 c n 0 (1024 * (r3.1.2.1 0 17)) 1024 r8 er8).le (Nat.le_of_ble_eq_true rfl)) ?_
      show q_RP _ _ _ (125, [(1, .int (r3.1.2.1 0 17)), (0, .ref 64)], [], (q_kM r8 c n)) _ _
      refine q_RP_seg (g2 := (140, [(1, .int (r3.1.2.1 0 17)), (0, .ref 64)], [.int 40, .int (40 * (r3.1.2.1 0 17)), .ref 85, .int 0, .ref 70], (q_kM r8 c n))) 9 (fun _ _ => rfl) ?_
      refine q_RP_bd fun r9 er9 => ?_
      refine q_RP_call (v := none) (h2 := (q_kM r9 c n)) rfl rfl ((dzt_M304_70_85 r8 c n 0 (40 * (r3.1.2.1 0 17)) 40 r9 er9).le (Nat.le_of_ble_eq_true rfl)) ?_
      show q_RP _ _ _ (143, [(1, .int (r3.1.2.1 0 17)), (0, .ref 64)], [], (q_kM r9 c n)) _ _
      refine q_RP_seg (g2 := (158, [(1, .int (r3.1.2.1 0 17)), (0, .ref 64)], [.int 40, .int (40 * (r3.1.2.1 0 17)), .ref 87, .int 0, .ref 72], (q_kM r9 c n))) 9 (fun _ _ => rfl) ?_
      refine q_RP_bd fun r10 er10 => ?_
      refine q_RP_call (v := none) (h2 := (q_kM r10 c n)) rfl rfl ((dzt_M304_72_87 r9 c n 0 (40 * (r3.1.2.1 0 17)) 40 r10 er10).le (Nat.le_of_ble_eq_true rfl)) ?_
      show q_RP _ _ _ (161, [(1, .int (r3.1.2.1 0 17)), (0, .ref 64)], [], (q_kM r10 c n)) _ _
      refine q_RP_seg (g2 := (176, [(1, .int (r3.1.2.1 0 17)), (0, .ref 64)], [.int 16, .int (16 * (r3.1.2.1 0 17)), .ref 88, .int 0, .ref 73], (q_kM r10 c n))) 9 (fun _ _ => rfl) ?_
      refine q_RP_bd fun r11 er11 => ?_
      refine q_RP_call (v := none) (h2 := (q_kM r11 c n)) rfl rfl ((dzt_M304_73_88 r10 c n 0 (16 * (r3.1.2.1 0 17)) 16 r11 er11).le (Nat.le_of_ble_eq_true rfl)) ?_
      show q_RP _ _ _ (179, [(1, .int (r3.1.2.1 0 17)), (0, .ref 64)], [], (q_kM r11 c n)) _ _
      refine q_RP_seg (g2 := (192, [(1, .int (r3.1.2.1 0 17)), (0, .ref 64)], [.int 3, .int (3 * (r3.1.2.1 0 17)), .ref 89, .int 0, .ref 74], (q_kM r11 c n))) 9 (fun _ _ => rfl) ?_
      refine q_RP_bd fun r12 er12 => ?_
      refine q_RP_call (v := none) (h2 := (q_kM r12 c n)) rfl rfl ((dzt_M304_74_89 r11 c n 0 (3 * (r3.1.2.1 0 17)) 3 r12 er12).le (Nat.le_of_ble_eq_true rfl)) ?_
      show q_RP _ _ _ (195, [(1, .int (r3.1.2.1 0 17)), (0, .ref 64)], [], (q_kM r12 c n)) _ _
      refine q_RP_seg (g2 := (208, [(1, .int (r3.1.2.1 0 17)), (0, .ref 64)], [.int 3, .int (3 * (r3.1.2.1 0 17)), .ref 90, .int 0, .ref 75], (q_kM r12 c n))) 9 (fun _ _ => rfl) ?_
      refine q_RP_bd fun r13 er13 => ?_
      refine q_RP_call (v := none) (h2 := (q_kM r13 c n)) rfl rfl ((dzt_M304_75_90 r12 c n 0 (3 * (r3.1.2.1 0 17)) 3 r13 er13).le (Nat.le_of_ble_eq_true rfl)) ?_
      show q_RP _ _ _ (211, [(1, .int (r3.1.2.1 0 17)), (0, .ref 64)], [], (q_kM r13 c n)) _ _
      refine q_RP_seg (g2 := (224, [(1, .int (r3.1.2.1 0 17)), (0, .ref 64)], [.int 3, .int (3 * (r3.1.2.1 0 17)), .ref 91, .int 0, .ref 76], (q_kM r13 c n))) 9 (fun _ _ => rfl) ?_
      refine q_RP_bd fun r14 er14 => ?_
      refine q_RP_call (v := none) (h2 := (q_kM r14 c n)) rfl rfl ((dzt_M304_76_91 r13 c n 0 (3 * (r3.1.2.1 0 17)) 3 r14 er14).le (Nat.le_of_ble_eq_true rfl)) ?_
      show q_RP _ _ _ (227, [(1, .int (r3.1.2.1 0 17)), (0, .ref 64)], [], (q_kM r14 c n)) _ _
      refine q_RP_seg (g2 := (240, [(1, .int (r3.1.2.1 0 17)), (0, .ref 64)], [.int 3, .int (3 * (r3.1.2.1 0 17)), .ref 92, .int 0, .ref 77], (q_kM r14 c n))) 9 (fun _ _ => rfl) ?_
      refine q_RP_bd fun r15 er15 => ?_
      refine q_RP_call (v := none) (h2 := (q_kM r15 c n)) rfl rfl ((dzt_M304_77_92 r14 c n 0 (3 * (r3.1.2.1 0 17)) 3 r15 er15).le (Nat.le_of_ble_eq_true rfl)) ?_
      show q_RP _ _ _ (243, [(1, .int (r3.1.2.1 0 17)), (0, .ref 64)], [], (q_kM r15 c n)) _ _
      refine q_RP_seg (g2 := (258, [(1, .int (r3.1.2.1 0 17)), (0, .ref 64)], [.int 24, .int (24 * (r3.1.2.1 0 17)), .ref 93, .int 0, .ref 78], (q_kM r15 c n))) 9 (fun _ _ => rfl) ?_
      refine q_RP_bd fun r16 er16 => ?_
      refine q_RP_call (v := none) (h2 := (q_kM r16 c n)) rfl rfl ((dzt_M304_78_93 r15 c n 0 (24 * (r3.1.2.1 0 17)) 24 r16 er16).le (Nat.le_of_ble_eq_true rfl)) ?_
      show q_RP _ _ _ (261, [(1, .int (r3.1.2.1 0 17)), (0, .ref 64)], [], (q_kM r16 c n)) _ _
      refine q_RP_seg (g2 := (276, [(1, .int (r3.1.2.1 0 17)), (0, .ref 64)], [.int 16, .int (16 * (r3.1.2.1 0 17)), .ref 86, .int 0, .ref 71], (q_kM r16 c n))) 9 (fun _ _ => rfl) ?_
      refine q_RP_bd fun r17 er17 => ?_
      refine q_RP_call (v := none) (h2 := (q_kM r17 c n)) rfl rfl ((dzt_M305_71_86 r16 c n 0 (16 * (r3.1.2.1 0 17)) 16 r17 er17).le (Nat.le_of_ble_eq_true rfl)) ?_
      show q_RP _ _ _ (279, [(1, .int (r3.1.2.1 0 17)), (0, .ref 64)], [], (q_kM r17 c n)) _ _
      refine q_RP_seg (g2 := (294, [(1, .int (r3.1.2.1 0 17)), (0, .ref 64)], [.int 8, .int (8 * (r3.1.2.1 0 17)), .ref 94, .int 0, .ref 79], (q_kM r17 c n))) 9 (fun _ _ => rfl) ?_
      refine q_RP_bd fun r18 er18 => ?_
      refine q_RP_call (v := none) (h2 := (q_kM r18 c n)) rfl rfl ((dzt_M305_79_94 r17 c n 0 (8 * (r3.1.2.1 0 17)) 8 r18 er18).le (Nat.le_of_ble_eq_true rfl)) ?_
      show q_RP _ _ _ (297, [(1, .int (r3.1.2.1 0 17)), (0, .ref 64)], [], (q_kM r18 c n)) _ _
      refine q_RP_seg (g2 := (308, [(1, .int (r3.1.2.1 0 17)), (0, .ref 64)], [.long (r18.2.2 0 15), .int (2 * (r3.1.2.1 0 17)), .ref 95], (q_kM r18 c n))) 7 (fun _ _ => rfl) ?_
      refine q_RP_as fun i5 => ?_
      refine q_RP_rsT (g2 := (309, [(1, .int (r3.1.2.1 0 17)), (0, .ref 64)], [], (q_kM (q_sL r18 31 (vp_updL (r18.2.2 31) ((2 * (r3.1.2.1 0 17)).toNatClampNeg) (r18.2.2 0 15))) c n))) rfl q_wM31 i5 ?_
      refine q_RP_seg (g2 := (322, [(1, .int (r3.1.2.1 0 17)), (0, .ref 64)], [.long (r18.2.2 0 16), .int ((2 * (r3.1.2.1 0 17)) + 1), .ref 95], (q_kM (q_sL r18 31 (vp_updL (r18.2.2 31) ((2 * (r3.1.2.1 0 17)).toNatClampNeg) (r18.2.2 0 15))) c n))) 9 (fun _ _ => rfl) ?_
      refine q_RP_as fun i6 => ?_
      generalize (q_sL r18 31 (vp_updL (r18.2.2 31) ((2 * (r3.1.2.1 0 17)).toNatClampNeg) (r18.2.2 0 15))) = r19
      refine q_RP_let ?_
      show q_RP _ _ _ (322, [(1, .int (r3.1.2.1 0 17)), (0, .ref 64)], [.long (r18.2.2 0 16), .int ((2 * (r3.1.2.1 0 17)) + 1), .ref 95], (q_kM r19 c n)) _ _
      refine q_RP_rsT (g2 := (323, [(1, .int (r3.1.2.1 0 17)), (0, .ref 64)], [], (q_kM (q_sL r19 31 (vp_updL (r19.2.2 31) (((2 * (r3.1.2.1 0 17)) + 1).toNatClampNeg) (r18.2.2 0 16))) c n))) rfl q_wM31 i6 ?_
      refine q_RP_seg (g2 := (328, [(1, .int (r3.1.2.1 0 17)), (0, .ref 64)], [.int (r19.2.1 0 17), .ref 64], (q_kM (q_sL r19 31 (vp_updL (r19.2.2 31) (((2 * (r3.1.2.1 0 17)) + 1).toNatClampNeg) (r18.2.2 0 16))) c n))) 3 (fun _ _ => rfl) ?_
      refine q_RP_seg (g2 := (334, [(1, .int (r3.1.2.1 0 17)), (0, .ref 64)], [.int (r3.1.2.1 0 17)], (q_kM (q_sI (q_sL r19 31 (vp_updL (r19.2.2 31) (((2 * (r3.1.2.1 0 17)) + 1).toNatClampNeg) (r18.2.2 0 16))) 0 17 ((r19.2.1 0 17) + 1)) c n))) 4 (fun _ _ => rfl) ?_
      exact q_RP_ret rfl rfl rfl
  | false =>
    refine q_RP_cF ?_
    refine q_RP_rsT (g2 := (13, [(0, .ref 64)], [.ref 64], (q_kM s c n))) rfl rfl (q_d_neF h3) ?_
    refine q_RP_seg (g2 := (14, [(0, .ref 64)], [.int 0, .ref 64], (q_kM s c n))) 1 (fun _ _ => rfl) ?_
    refine q_RP_call (v := (some (.int (q_b (dz_M200_64 s 0).2)))) (h2 := (q_kM (dz_M200_64 s 0).1 c n)) rfl rfl ((dzt_M200_64 s c n 0).le (Nat.le_of_ble_eq_true rfl)) ?_
    generalize dz_M200_64 s 0 = r20
    refine q_RP_let ?_
    show q_RP _ _ _ (17, [(0, .ref 64)], [.int (q_b r20.2)], (q_kM r20.1 c n)) _ _
    cases h7 : r20.2 with
    | true =>
      refine q_RP_cT ?_
      show q_RP _ _ _ (17, [(0, .ref 64)], [.int 1], (q_kM r20.1 c n)) _ _
      refine q_RP_seg (g2 := (21, [(0, .ref 64)], [.int 0], (q_kM r20.1 c n))) 2 (fun _ _ => rfl) ?_
      exact q_RP_ret rfl rfl rfl
    | false =>
      refine q_RP_cF ?_
      show q_RP _ _ _ (17, [(0, .ref 64)], [.int 0], (q_kM r20.1 c n)) _ _
      refine q_RP_seg (g2 := (26, [(0, .ref 64)], [.int (r20.1.2.1 0 17)], (q_kM r20.1 c n))) 3 (fun _ _ => rfl) ?_
      refine q_RP_seg (g2 := (44, [(1, .int (r20.1.2.1 0 17)), (0, .ref 64)], [.int 4096, .int (4096 * (r20.1.2.1 0 17)), .ref 80, .int 0, .ref 65], (q_kM r20.1 c n))) 10 (fun _ _ => rfl) ?_
      refine q_RP_bd fun r21 er21 => ?_
      refine q_RP_call (v := none) (h2 := (q_kM r21 c n)) rfl rfl ((dzt_M304_65_80 r20.1 c n 0 (4096 * (r20.1.2.1 0 17)) 4096 r21 er21).le (Nat.le_of_ble_eq_true rfl)) ?_
      show q_RP _ _ _ (47, [(1, .int (r20.1.2.1 0 17)), (0, .ref 64)], [], (q_kM r21 c n)) _ _
      refine q_RP_seg (g2 := (64, [(1, .int (r20.1.2.1 0 17)), (0, .ref 64)], [.int 512, .int (512 * (r20.1.2.1 0 17)), .ref 81, .int 0, .ref 66], (q_kM r21 c n))) 9 (fun _ _ => rfl) ?_
      refine q_RP_bd fun r22 er22 => ?_
      refine q_RP_call (v := none) (h2 := (q_kM r22 c n)) rfl rfl ((dzt_M304_66_81 r21 c n 0 (512 * (r20.1.2.1 0 17)) 512 r22 er22).le (Nat.le_of_ble_eq_true rfl)) ?_
      show q_RP _ _ _ (67, [(1, .int (r20.1.2.1 0 17)), (0, .ref 64)], [], (q_kM r22 c n)) _ _
      refine q_RP_seg (g2 := (84, [(1, .int (r20.1.2.1 0 17)), (0, .ref 64)], [.int 2048, .int (2048 * (r20.1.2.1 0 17)), .ref 82, .int 0, .ref 67], (q_kM r22 c n))) 9 (fun _ _ => rfl) ?_
      refine q_RP_bd fun r23 er23 => ?_
      refine q_RP_call (v := none) (h2 := (q_kM r23 c n)) rfl rfl ((dzt_M304_67_82 r22 c n 0 (2048 * (r20.1.2.1 0 17)) 2048 r23 er23).le (Nat.le_of_ble_eq_true rfl)) ?_
      show q_RP _ _ _ (87, [(1, .int (r20.1.2.1 0 17)), (0, .ref 64)], [], (q_kM r23 c n)) _ _
      refine q_RP_seg (g2 := (102, [(1, .int (r20.1.2.1 0 17)), (0, .ref 64)], [.int 48, .int (48 * (r20.1.2.1 0 17)), .ref 83, .int 0, .ref 68], (q_kM r23 c n))) 9 (fun _ _ => rfl) ?_
      refine q_RP_bd fun r24 er24 => ?_
      refine q_RP_call (v := none) (h2 := (q_kM r24 c n)) rfl rfl ((dzt_M304_68_83 r23 c n 0 (48 * (r20.1.2.1 0 17)) 48 r24 er24).le (Nat.le_of_ble_eq_true rfl)) ?_
      show q_RP _ _ _ (105, [(1, .int (r20.1.2.1 0 17)), (0, .ref 64)], [], (q_kM r24 c n)) _ _
      refine q_RP_seg (g2 := (122, [(1, .int (r20.1.2.1 0 17)), (0, .ref 64)], [.int 1024, .int (1024 * (r20.1.2.1 0 17)), .ref 84, .int 0, .ref 69], (q_kM r24 c n))) 9 (fun _ _ => rfl) ?_
      refine q_RP_bd fun r25 er25 => ?_
      refine q_RP_call (v := none) (h2 := (q_kM r25 c n)) rfl rfl ((dzt_M304_69_84 r24 c n 0 (1024 * (r20.1.2.1 0 17)) 1024 r25 er25).le (Nat.le_of_ble_eq_true rfl)) ?_
      show q_RP _ _ _ (125, [(1, .int (r20.1.2.1 0 17)), (0, .ref 64)], [], (q_kM r25 c n)) _ _
      refine q_RP_seg (g2 := (140, [(1, .int (r20.1.2.1 0 17)), (0, .ref 64)], [.int 40, .int (40 * (r20.1.2.1 0 17)), .ref 85, .int 0, .ref 70], (q_kM r25 c n))) 9 (fun _ _ => rfl) ?_
      refine q_RP_bd fun r26 er26 => ?_
      refine q_RP_call (v := none) (h2 := (q_kM r26 c n)) rfl rfl ((dzt_M304_70_85 r25 c n 0 (40 * (r20.1.2.1 0 17)) 40 r26 er26).le (Nat.le_of_ble_eq_true rfl)) ?_
      show q_RP _ _ _ (143, [(1, .int (r20.1.2.1 0 17)), (0, .ref 64)], [], (q_kM r26 c n)) _ _
      refine q_RP_seg (g2 := (158, [(1, .int (r20.1.2.1 0 17)), (0, .ref 64)], [.int 40, .int (40 * (r20.1.2.1 0 17)), .ref 87, .int 0, .ref 72], (q_kM r26 c n))) 9 (fun _ _ => rfl) ?_
      refine q_RP_bd fun r27 er27 => ?_
      refine q_RP_call (v := none) (h2 := (q_kM r27 c n)) rfl rfl ((dzt_M304_72_87 r26 c n 0 (40 * (r20.1.2.1 0 17)) 40 r27 er27).le (Nat.le_of_ble_eq_true rfl)) ?_
      show q_RP _ _ _ (161, [(1, .int (r20.1.2.1 0 17)), (0, .ref 64)], [], (q_kM r27 c n)) _ _
      refine q_RP_seg (g2 := (176, [(1, .int (r20.1.2.1 0 17)), (0, .ref 64)], [.int 16, .int (16 * (r20.1.2.1 0 17)), .ref 88, .int 0, .ref 73], (q_kM r27 c n))) 9 (fun _ _ => rfl) ?_
      refine q_RP_bd fun r28 er28 => ?_
      refine q_RP_call (v := none) (h2 := (q_kM r28 c n)) rfl rfl ((dzt_M304_73_88 r27 c n 0 (16 * (r20.1.2.1 0 17)) 16 r28 er28).le (Nat.le_of_ble_eq_true rfl)) ?_
      show q_RP _ _ _ (179, [(1, .int (r20.1.2.1 0 17)), (0, .ref 64)], [], (q_kM r28 c n)) _ _
      refine q_RP_seg (g2 := (192, [(1, .int (r20.1.2.1 0 17)), (0, .ref 64)], [.int 3, .int (3 * (r20.1.2.1 0 17)), .ref 89, .int 0, .ref 74], (q_kM r28 c n))) 9 (fun _ _ => rfl) ?_
      refine q_RP_bd fun r29 er29 => ?_
      refine q_RP_call (v := none) (h2 := (q_kM r29 c n)) rfl rfl ((dzt_M304_74_89 r28 c n 0 (3 * (r20.1.2.1 0 17)) 3 r29 er29).le (Nat.le_of_ble_eq_true rfl)) ?_
      show q_RP _ _ _ (195, [(1, .int (r20.1.2.1 0 17)), (0, .ref 64)], [], (q_kM r29 c n)) _ _
      refine q_RP_seg (g2 := (208, [(1, .int (r20.1.2.1 0 17)), (0, .ref 64)], [.int 3, .int (3 * (r20.1.2.1 0 17)), .ref 90, .int 0, .ref 75], (q_kM r29 c n))) 9 (fun _ _ => rfl) ?_
      refine q_RP_bd fun r30 er30 => ?_
      refine q_RP_call (v := none) (h2 := (q_kM r30 c n)) rfl rfl ((dzt_M304_75_90 r29 c n 0 (3 * (r20.1.2.1 0 17)) 3 r30 er30).le (Nat.le_of_ble_eq_true rfl)) ?_
      show q_RP _ _ _ (211, [(1, .int (r20.1.2.1 0 17)), (0, .ref 64)], [], (q_kM r30 c n)) _ _
      refine q_RP_seg (g2 := (224, [(1, .int (r20.1.2.1 0 17)), (0, .ref 64)], [.int 3, .int (3 * (r20.1.2.1 0 17)), .ref 91, .int 0, .ref 76], (q_kM r30 c n))) 9 (fun _ _ => rfl) ?_
      refine q_RP_bd fun r31 er31 => ?_
      refine q_RP_call (v := none) (h2 := (q_kM r31 c n)) rfl rfl ((dzt_M304_76_91 r30 c n 0 (3 * (r20.1.2.1 0 17)) 3 r31 er31).le (Nat.le_of_ble_eq_true rfl)) ?_
      show q_RP _ _ _ (227, [(1, .int (r20.1.2.1 0 17)), (0, .ref 64)], [], (q_kM r31 c n)) _ _
      refine q_RP_seg (g2 := (240, [(1, .int (r20.1.2.1 0 17)), (0, .ref 64)], [.int 3, .int (3 * (r20.1.2.1 0 17)), .ref 92, .int 0, .ref 77], (q_kM r31 c n))) 9 (fun _ _ => rfl) ?_
      refine q_RP_bd fun r32 er32 => ?_
      refine q_RP_call (v := none) (h2 := (q_kM r32 c n)) rfl rfl ((dzt_M304_77_92 r31 c n 0 (3 * (r20.1.2.1 0 17)) 3 r32 er32).le (Nat.le_of_ble_eq_true rfl)) ?_
      show q_RP _ _ _ (243, [(1, .int (r20.1.2.1 0 17)), (0, .ref 64)], [], (q_kM r32 c n)) _ _
      refine q_RP_seg (g2 := (258, [(1, .int (r20.1.2.1 0 17)), (0, .ref 64)], [.int 24, .int (24 * (r20.1.2.1 0 17)), .ref 93, .int 0, .ref 78], (q_kM r32 c n))) 9 (fun _ _ => rfl) ?_
      refine q_RP_bd fun r33 er33 => ?_
      refine q_RP_call (v := none) (h2 := (q_kM r33 c n)) rfl rfl ((dzt_M304_78_93 r32 c n 0 (24 * (r20.1.2.1 0 17)) 24 r33 er33).le (Nat.le_of_ble_eq_true rfl)) ?_
      show q_RP _ _ _ (261, [(1, .int (r20.1.2.1 0 17)), (0, .ref 64)], [], (q_kM r33 c n)) _ _
      refine q_RP_seg (g2 := (276, [(1, .int (r20.1.2.1 0 17)), (0, .ref 64)], [.int 16, .int (16 * (r20.1.2.1 0 17)), .ref 86, .int 0, .ref 71], (q_kM r33 c n))) 9 (fun _ _ => rfl) ?_
      refine q_RP_bd fun r34 er34 => ?_
      refine q_RP_call (v := none) (h2 := (q_kM r34 c n)) rfl rfl ((dzt_M305_71_86 r33 c n 0 (16 * (r20.1.2.1 0 17)) 16 r34 er34).le (Nat.le_of_ble_eq_true rfl)) ?_
      show q_RP _ _ _ (279, [(1, .int (r20.1.2.1 0 17)), (0, .ref 64)], [], (q_kM r34 c n)) _ _
      refine q_RP_seg (g2 := (294, [(1, .int (r20.1.2.1 0 17)), (0, .ref 64)], [.int 8, .int (8 * (r20.1.2.1 0 17)), .ref 94, .int 0, .ref 79], (q_kM r34 c n))) 9 (fun _ _ => rfl) ?_
      refine q_RP_bd fun r35 er35 => ?_
      refine q_RP_call (v := none) (h2 := (q_kM r35 c n)) rfl rfl ((dzt_M305_79_94 r34 c n 0 (8 * (r20.1.2.1 0 17)) 8 r35 er35).le (Nat.le_of_ble_eq_true rfl)) ?_
      show q_RP _ _ _ (297, [(1, .int (r20.1.2.1 0 17)), (0, .ref 64)], [], (q_kM r35 c n)) _ _
      refine q_RP_seg (g2 := (308, [(1, .int (r20.1.2.1 0 17)), (0, .ref 64)], [.long (r35.2.2 0 15), .int (2 * (r20.1.2.1 0 17)), .ref 95], (q_kM r35 c n))) 7 (fun _ _ => rfl) ?_
      refine q_RP_as fun i8 => ?_
      refine q_RP_rsT (g2 := (309, [(1, .int (r20.1.2.1 0 17)), (0, .ref 64)], [], (q_kM (q_sL r35 31 (vp_updL (r35.2.2 31) ((2 * (r20.1.2.1 0 17)).toNatClampNeg) (r35.2.2 0 15))) c n))) rfl q_wM31 i8 ?_
      refine q_RP_seg (g2 := (322, [(1, .int (r20.1.2.1 0 17)), (0, .ref 64)], [.long (r35.2.2 0 16), .int ((2 * (r20.1.2.1 0 17)) + 1), .ref 95], (q_kM (q_sL r35 31 (vp_updL (r35.2.2 31) ((2 * (r20.1.2.1 0 17)).toNatClampNeg) (r35.2.2 0 15))) c n))) 9 (fun _ _ => rfl) ?_
      refine q_RP_as fun i9 => ?_
      generalize (q_sL r35 31 (vp_updL (r35.2.2 31) ((2 * (r20.1.2.1 0 17)).toNatClampNeg) (r35.2.2 0 15))) = r36
      refine q_RP_let ?_
      show q_RP _ _ _ (322, [(1, .int (r20.1.2.1 0 17)), (0, .ref 64)], [.long (r35.2.2 0 16), .int ((2 * (r20.1.2.1 0 17)) + 1), .ref 95], (q_kM r36 c n)) _ _
      refine q_RP_rsT (g2 := (323, [(1, .int (r20.1.2.1 0 17)), (0, .ref 64)], [], (q_kM (q_sL r36 31 (vp_updL (r36.2.2 31) (((2 * (r20.1.2.1 0 17)) + 1).toNatClampNeg) (r35.2.2 0 16))) c n))) rfl q_wM31 i9 ?_
      refine q_RP_seg (g2 := (328, [(1, .int (r20.1.2.1 0 17)), (0, .ref 64)], [.int (r36.2.1 0 17), .ref 64], (q_kM (q_sL r36 31 (vp_updL (r36.2.2 31) (((2 * (r20.1.2.1 0 17)) + 1).toNatClampNeg) (r35.2.2 0 16))) c n))) 3 (fun _ _ => rfl) ?_
      refine q_RP_seg (g2 := (334, [(1, .int (r20.1.2.1 0 17)), (0, .ref 64)], [.int (r20.1.2.1 0 17)], (q_kM (q_sI (q_sL r36 31 (vp_updL (r36.2.2 31) (((2 * (r20.1.2.1 0 17)) + 1).toNatClampNeg) (r35.2.2 0 16))) 0 17 ((r36.2.1 0 17) + 1)) c n))) 4 (fun _ _ => rfl) ?_
      exact q_RP_ret rfl rfl rfl
def dz_M307_64_4 (m : Nat) : q_S → Int32 → Int32 → Int32 → Option (Int32) := Nat.rec (motive := fun _ => q_S → Int32 → Int32 → Int32 → Option (Int32)) (fun _ _ _ _ => none) (fun _ k4 s v1 v2 v3 =>
  cond (decide (v3 < 4096)) (cond (q_in v3 4096) (cond (q_in ((4096 * v1) + v3) 12288) (cond (decide ((s.1 1) (v3.toNatClampNeg) = (s.1 16) (((4096 * v1) + v3).toNatClampNeg))) (k4 s v1 (v2 + 0) (v3 + 1)) (k4 s v1 (v2 + 1) (v3 + 1))) none) none) (some v2)) m
theorem dzs_M307_64_4 (m : Nat) (s : q_S) (v1 : Int32) (v2 : Int32) (v3 : Int32) : dz_M307_64_4 (m + 1) s v1 v2 v3 = (fun k4 : q_S → Int32 → Int32 → Int32 → Option (Int32) =>
  cond (decide (v3 < 4096)) (cond (q_in v3 4096) (cond (q_in ((4096 * v1) + v3) 12288) (cond (decide ((s.1 1) (v3.toNatClampNeg) = (s.1 16) (((4096 * v1) + v3).toNatClampNeg))) (k4 s v1 (v2 + 0) (v3 + 1)) (k4 s v1 (v2 + 1) (v3 + 1))) none) none) (some v2)) (dz_M307_64_4 m) := rfl
set_option maxHeartbeats 4000000 in
theorem dzt_M307_64_4 (c n : Nat) (s : q_S) : ∀ (m : Nat) (v1 : Int32) (v2 : Int32) (v3 : Int32), q_RP q_TB0 0 306 (4, [(0, .ref 64), (1, .int v1), (2, .int v2), (3, .int v3)], [], (q_kM s c n)) (q_oP (q_kM s c n)) (dz_M307_64_4 m s v1 v2 v3) := by
  intro m
  induction m with
  | zero => intro v1 v2 v3; exact q_RP_no
  | succ m ih =>
    intro v1 v2 v3
    have hk4 := ih
    clear ih
    rw [dzs_M307_64_4]
    generalize dz_M307_64_4 m = k4 at hk4 ⊢
    dsimp only
    refine q_RP_seg (g2 := (8, [(0, .ref 64), (1, .int v1), (2, .int v2), (3, .int v3)], [.int 4096, .int v3], (q_kM s c n))) 2 (fun _ _ => rfl) ?_
    cases h1 : decide (v3 < 4096) with
    | true =>
      refine q_RP_cT ?_
      refine q_RP_rsF (g2 := (11, [(0, .ref 64), (1, .int v1), (2, .int v2), (3, .int v3)], [], (q_kM s c n))) rfl rfl (q_d_geT h1) ?_
      refine q_RP_seg (g2 := (17, [(0, .ref 64), (1, .int v1), (2, .int v2), (3, .int v3)], [.int v3, .ref 65, .int v2], (q_kM s c n))) 4 (fun _ _ => rfl) ?_
      refine q_RP_as fun i2 => ?_
      refine q_RP_rsT (g2 := (18, [(0, .ref 64), (1, .int v1), (2, .int v2), (3, .int v3)], [.int ((s.1 1) (v3.toNatClampNeg)), .int v2], (q_kM s c n))) rfl rfl i2 ?_
      refine q_RP_seg (g2 := (29, [(0, .ref 64), (1, .int v1), (2, .int v2), (3, .int v3)], [.int ((4096 * v1) + v3), .ref 80, .int ((s.1 1) (v3.toNatClampNeg)), .int v2], (q_kM s c n))) 7 (fun _ _ => rfl) ?_
      refine q_RP_as fun i3 => ?_
      refine q_RP_rsT (g2 := (30, [(0, .ref 64), (1, .int v1), (2, .int v2), (3, .int v3)], [.int ((s.1 16) (((4096 * v1) + v3).toNatClampNeg)), .int ((s.1 1) (v3.toNatClampNeg)), .int v2], (q_kM s c n))) rfl rfl i3 ?_
      cases h4 : decide ((s.1 1) (v3.toNatClampNeg) = (s.1 16) (((4096 * v1) + v3).toNatClampNeg)) with
      | true =>
        refine q_RP_cT ?_
        refine q_RP_rsF (g2 := (33, [(0, .ref 64), (1, .int v1), (2, .int v2), (3, .int v3)], [.int v2], (q_kM s c n))) rfl rfl (q_d_neT h4) ?_
        refine q_RP_seg (g2 := (4, [(3, .int (v3 + 1)), (2, .int (v2 + 0)), (0, .ref 64), (1, .int v1)], [], (q_kM s c n))) 6 (fun _ _ => rfl) ?_
        exact q_RP_xt (q_xt_mk (q_mn1 2 rfl (q_mn1 3 rfl (q_mn1 1 rfl (q_mn1 0 rfl q_mn0)))) rfl) (hk4 v1 (v2 + 0) (v3 + 1))
      | false =>
        refine q_RP_cF ?_
        refine q_RP_rsT (g2 := (37, [(0, .ref 64), (1, .int v1), (2, .int v2), (3, .int v3)], [.int v2], (q_kM s c n))) rfl rfl (q_d_neF h4) ?_
        refine q_RP_seg (g2 := (4, [(3, .int (v3 + 1)), (2, .int (v2 + 1)), (0, .ref 64), (1, .int v1)], [], (q_kM s c n))) 5 (fun _ _ => rfl) ?_
        exact q_RP_xt (q_xt_mk (q_mn1 2 rfl (q_mn1 3 rfl (q_mn1 1 rfl (q_mn1 0 rfl q_mn0)))) rfl) (hk4 v1 (v2 + 1) (v3 + 1))
    | false =>
      refine q_RP_cF ?_
      refine q_RP_rsT (g2 := (46, [(0, .ref 64), (1, .int v1), (2, .int v2), (3, .int v3)], [], (q_kM s c n))) rfl rfl (q_d_geF h1) ?_
      refine q_RP_seg (g2 := (47, [(0, .ref 64), (1, .int v1), (2, .int v2), (3, .int v3)], [.int v2], (q_kM s c n))) 1 (fun _ _ => rfl) ?_
      exact q_RP_ret rfl rfl rfl
def dz_M307_64 (s : q_S) (a1 : Int32) : Option (Int32) :=
  dz_M307_64_4 5000 s a1 0 0
set_option maxHeartbeats 4000000 in
theorem dzt_M307_64 (s : q_S) (c n : Nat) (a1 : Int32) (x : Int32) (h : dz_M307_64 s a1 = some x) : q_Ca q_TB0 1 306 [.ref 64, .int a1] (q_kM s c n) ((q_oP (q_kM s c n)) x) := by
  refine q_CaP_of (φ := (q_oP (q_kM s c n))) (Nat.le_of_ble_eq_true rfl) ?_ h
  clear h
  unfold dz_M307_64
  refine q_RP_seg (g2 := (4, [(3, .int 0), (2, .int 0), (0, .ref 64), (1, .int a1)], [], (q_kM s c n))) 4 (fun _ _ => rfl) ?_
  exact q_RP_xt (q_xt_mk (q_mn1 2 rfl (q_mn1 3 rfl (q_mn1 1 rfl (q_mn1 0 rfl q_mn0)))) rfl) (dzt_M307_64_4 c n s 5000 a1 0 0)
def dz_M304_80_65_3 (m : Nat) : q_S → Int32 → Int32 → Int32 → Int32 → Option (q_S) := Nat.rec (motive := fun _ => q_S → Int32 → Int32 → Int32 → Int32 → Option (q_S)) (fun _ _ _ _ _ => none) (fun _ k3 s v1 v3 v4 v5 =>
  cond (decide (v5 < v4)) (cond (q_in (v1 + v5) 12288) (cond (q_in (v3 + v5) 4096) (k3 (q_sA s 1 (upd (s.1 1) ((v3 + v5).toNatClampNeg) ((s.1 16) ((v1 + v5).toNatClampNeg)))) v1 v3 v4 (v5 + 1)) none) none) (some s)) m
theorem dzs_M304_80_65_3 (m : Nat) (s : q_S) (v1 : Int32) (v3 : Int32) (v4 : Int32) (v5 : Int32) : dz_M304_80_65_3 (m + 1) s v1 v3 v4 v5 = (fun k3 : q_S → Int32 → Int32 → Int32 → Int32 → Option (q_S) =>
  cond (decide (v5 < v4)) (cond (q_in (v1 + v5) 12288) (cond (q_in (v3 + v5) 4096) (k3 (q_sA s 1 (upd (s.1 1) ((v3 + v5).toNatClampNeg) ((s.1 16) ((v1 + v5).toNatClampNeg)))) v1 v3 v4 (v5 + 1)) none) none) (some s)) (dz_M304_80_65_3 m) := rfl
set_option maxHeartbeats 4000000 in
theorem dzt_M304_80_65_3 (c n : Nat) : ∀ (m : Nat) (s : q_S) (v1 : Int32) (v3 : Int32) (v4 : Int32) (v5 : Int32), q_RP q_TB0 0 303 (3, [(0, .ref 80), (1, .int v1), (2, .ref 65), (3, .int v3), (4, .int v4), (5, .int v5)], [], (q_kM s c n)) (q_oSM c n) (dz_M304_80_65_3 m s v1 v3 v4 v5) := by
  intro m
  induction m with
  | zero => intro s v1 v3 v4 v5; exact q_RP_no
  | succ m ih =>
    intro s v1 v3 v4 v5
    have hk3 := ih
    clear ih
    rw [dzs_M304_80_65_3]
    generalize dz_M304_80_65_3 m = k3 at hk3 ⊢
    dsimp only
    refine q_RP_seg (g2 := (7, [(0, .ref 80), (1, .int v1), (2, .ref 65), (3, .int v3), (4, .int v4), (5, .int v5)], [.int v4, .int v5], (q_kM s c n))) 2 (fun _ _ => rfl) ?_
    cases h1 : decide (v5 < v4) with
    | true =>
      refine q_RP_cT ?_
      refine q_RP_rsF (g2 := (10, [(0, .ref 80), (1, .int v1), (2, .ref 65), (3, .int v3), (4, .int v4), (5, .int v5)], [], (q_kM s c n))) rfl rfl (q_d_geT h1) ?_
      refine q_RP_seg (g2 := (20, [(0, .ref 80), (1, .int v1), (2, .ref 65), (3, .int v3), (4, .int v4), (5, .int v5)], [.int (v1 + v5), .ref 80, .int (v3 + v5), .ref 65], (q_kM s c n))) 8 (fun _ _ => rfl) ?_
      refine q_RP_as fun i2 => ?_
      refine q_RP_rsT (g2 := (21, [(0, .ref 80), (1, .int v1), (2, .ref 65), (3, .int v3), (4, .int v4), (5, .int v5)], [.int ((s.1 16) ((v1 + v5).toNatClampNeg)), .int (v3 + v5), .ref 65], (q_kM s c n))) rfl rfl i2 ?_
      refine q_RP_as fun i3 => ?_
      refine q_RP_rsT (g2 := (22, [(0, .ref 80), (1, .int v1), (2, .ref 65), (3, .int v3), (4, .int v4), (5, .int v5)], [], (q_kM (q_sA s 1 (upd (s.1 1) ((v3 + v5).toNatClampNeg) ((s.1 16) ((v1 + v5).toNatClampNeg)))) c n))) rfl q_wM1 i3 ?_
      refine q_RP_seg (g2 := (3, [(5, .int (v5 + 1)), (0, .ref 80), (1, .int v1), (2, .ref 65), (3, .int v3), (4, .int v4)], [], (q_kM (q_sA s 1 (upd (s.1 1) ((v3 + v5).toNatClampNeg) ((s.1 16) ((v1 + v5).toNatClampNeg)))) c n))) 2 (fun _ _ => rfl) ?_
      exact q_RP_xt (q_xt_mk (q_mn1 1 rfl (q_mn1 2 rfl (q_mn1 3 rfl (q_mn1 4 rfl (q_mn1 5 rfl (q_mn1 0 rfl q_mn0)))))) rfl) (hk3 (q_sA s 1 (upd (s.1 1) ((v3 + v5).toNatClampNeg) ((s.1 16) ((v1 + v5).toNatClampNeg)))) v1 v3 v4 (v5 + 1))
    | false =>
      refine q_RP_cF ?_
      refine q_RP_rsT (g2 := (28, [(0, .ref 80), (1, .int v1), (2, .ref 65), (3, .int v3), (4, .int v4), (5, .int v5)], [], (q_kM s c n))) rfl rfl (q_d_geF h1) ?_
      exact q_RP_ret rfl rfl rfl
def dz_M304_80_65 (s : q_S) (a1 : Int32) (a3 : Int32) (a4 : Int32) : Option (q_S) :=
  dz_M304_80_65_3 5000 s a1 a3 a4 0
set_option maxHeartbeats 4000000 in
theorem dzt_M304_80_65 (s : q_S) (c n : Nat) (a1 : Int32) (a3 : Int32) (a4 : Int32) (x : q_S) (h : dz_M304_80_65 s a1 a3 a4 = some x) : q_Ca q_TB0 1 303 [.ref 80, .int a1, .ref 65, .int a3, .int a4] (q_kM s c n) ((q_oSM c n) x) := by
  refine q_CaP_of (φ := (q_oSM c n)) (Nat.le_of_ble_eq_true rfl) ?_ h
  clear h
  unfold dz_M304_80_65
  refine q_RP_seg (g2 := (3, [(5, .int 0), (0, .ref 80), (1, .int a1), (2, .ref 65), (3, .int a3), (4, .int a4)], [], (q_kM s c n))) 2 (fun _ _ => rfl) ?_
  exact q_RP_xt (q_xt_mk (q_mn1 1 rfl (q_mn1 2 rfl (q_mn1 3 rfl (q_mn1 4 rfl (q_mn1 5 rfl (q_mn1 0 rfl q_mn0)))))) rfl) (dzt_M304_80_65_3 c n 5000 s a1 a3 a4 0)
def dz_M304_81_66_3 (m : Nat) : q_S → Int32 → Int32 → Int32 → Int32 → Option (q_S) := Nat.rec (motive := fun _ => q_S → Int32 → Int32 → Int32 → Int32 → Option (q_S)) (fun _ _ _ _ _ => none) (fun _ k3 s v1 v3 v4 v5 =>
  cond (decide (v5 < v4)) (cond (q_in (v1 + v5) 1536) (cond (q_in (v3 + v5) 512) (k3 (q_sA s 2 (upd (s.1 2) ((v3 + v5).toNatClampNeg) ((s.1 17) ((v1 + v5).toNatClampNeg)))) v1 v3 v4 (v5 + 1)) none) none) (some s)) m
theorem dzs_M304_81_66_3 (m : Nat) (s : q_S) (v1 : Int32) (v3 : Int32) (v4 : Int32) (v5 : Int32) : dz_M304_81_66_3 (m + 1) s v1 v3 v4 v5 = (fun k3 : q_S → Int32 → Int32 → Int32 → Int32 → Option (q_S) =>
  cond (decide (v5 < v4)) (cond (q_in (v1 + v5) 1536) (cond (q_in (v3 + v5) 512) (k3 (q_sA s 2 (upd (s.1 2) ((v3 + v5).toNatClampNeg) ((s.1 17) ((v1 + v5).toNatClampNeg)))) v1 v3 v4 (v5 + 1)) none) none) (some s)) (dz_M304_81_66_3 m) := rfl
set_option maxHeartbeats 4000000 in
theorem dzt_M304_81_66_3 (c n : Nat) : ∀ (m : Nat) (s : q_S) (v1 : Int32) (v3 : Int32) (v4 : Int32) (v5 : Int32), q_RP q_TB0 0 303 (3, [(0, .ref 81), (1, .int v1), (2, .ref 66), (3, .int v3), (4, .int v4), (5, .int v5)], [], (q_kM s c n)) (q_oSM c n) (dz_M304_81_66_3 m s v1 v3 v4 v5) := by
  intro m
  induction m with
  | zero => intro s v1 v3 v4 v5; exact q_RP_no
  | succ m ih =>
    intro s v1 v3 v4 v5
    have hk3 := ih
    clear ih
    rw [dzs_M304_81_66_3]
    generalize dz_M304_81_66_3 m = k3 at hk3 ⊢
    dsimp only
    refine q_RP_seg (g2 := (7, [(0, .ref 81), (1, .int v1), (2, .ref 66), (3, .int v3), (4, .int v4), (5, .int v5)], [.int v4, .int v5], (q_kM s c n))) 2 (fun _ _ => rfl) ?_
    cases h1 : decide (v5 < v4) with
    | true =>
      refine q_RP_cT ?_
      refine q_RP_rsF (g2 := (10, [(0, .ref 81), (1, .int v1), (2, .ref 66), (3, .int v3), (4, .int v4), (5, .int v5)], [], (q_kM s c n))) rfl rfl (q_d_geT h1) ?_
      refine q_RP_seg (g2 := (20, [(0, .ref 81), (1, .int v1), (2, .ref 66), (3, .int v3), (4, .int v4), (5, .int v5)], [.int (v1 + v5), .ref 81, .int (v3 + v5), .ref 66], (q_kM s c n))) 8 (fun _ _ => rfl) ?_
      refine q_RP_as fun i2 => ?_
      refine q_RP_rsT (g2 := (21, [(0, .ref 81), (1, .int v1), (2, .ref 66), (3, .int v3), (4, .int v4), (5, .int v5)], [.int ((s.1 17) ((v1 + v5).toNatClampNeg)), .int (v3 + v5), .ref 66], (q_kM s c n))) rfl rfl i2 ?_
      refine q_RP_as fun i3 => ?_
      refine q_RP_rsT (g2 := (22, [(0, .ref 81), (1, .int v1), (2, .ref 66), (3, .int v3), (4, .int v4), (5, .int v5)], [], (q_kM (q_sA s 2 (upd (s.1 2) ((v3 + v5).toNatClampNeg) ((s.1 17) ((v1 + v5).toNatClampNeg)))) c n))) rfl q_wM2 i3 ?_
      refine q_RP_seg (g2 := (3, [(5, .int (v5 + 1)), (0, .ref 81), (1, .int v1), (2, .ref 66), (3, .int v3), (4, .int v4)], [], (q_kM (q_sA s 2 (upd (s.1 2) ((v3 + v5).toNatClampNeg) ((s.1 17) ((v1 + v5).toNatClampNeg)))) c n))) 2 (fun _ _ => rfl) ?_
      exact q_RP_xt (q_xt_mk (q_mn1 1 rfl (q_mn1 2 rfl (q_mn1 3 rfl (q_mn1 4 rfl (q_mn1 5 rfl (q_mn1 0 rfl q_mn0)))))) rfl) (hk3 (q_sA s 2 (upd (s.1 2) ((v3 + v5).toNatClampNeg) ((s.1 17) ((v1 + v5).toNatClampNeg)))) v1 v3 v4 (v5 + 1))
    | false =>
      refine q_RP_cF ?_
      refine q_RP_rsT (g2 := (28, [(0, .ref 81), (1, .int v1), (2, .ref 66), (3, .int v3), (4, .int v4), (5, .int v5)], [], (q_kM s c n))) rfl rfl (q_d_geF h1) ?_
      exact q_RP_ret rfl rfl rfl
def dz_M304_81_66 (s : q_S) (a1 : Int32) (a3 : Int32) (a4 : Int32) : Option (q_S) :=
  dz_M304_81_66_3 5000 s a1 a3 a4 0
set_option maxHeartbeats 4000000 in
theorem dzt_M304_81_66 (s : q_S) (c n : Nat) (a1 : Int32) (a3 : Int32) (a4 : Int32) (x : q_S) (h : dz_M304_81_66 s a1 a3 a4 = some x) : q_Ca q_TB0 1 303 [.ref 81, .int a1, .ref 66, .int a3, .int a4] (q_kM s c n) ((q_oSM c n) x) := by
  refine q_CaP_of (φ := (q_oSM c n)) (Nat.le_of_ble_eq_true rfl) ?_ h
  clear h
  unfold dz_M304_81_66
  refine q_RP_seg (g2 := (3, [(5, .int 0), (0, .ref 81), (1, .int a1), (2, .ref 66), (3, .int a3), (4, .int a4)], [], (q_kM s c n))) 2 (fun _ _ => rfl) ?_
  exact q_RP_xt (q_xt_mk (q_mn1 1 rfl (q_mn1 2 rfl (q_mn1 3 rfl (q_mn1 4 rfl (q_mn1 5 rfl (q_mn1 0 rfl q_mn0)))))) rfl) (dzt_M304_81_66_3 c n 5000 s a1 a3 a4 0)
def dz_M304_82_67_3 (m : Nat) : q_S → Int32 → Int32 → Int32 → Int32 → Option (q_S) := Nat.rec (motive := fun _ => q_S → Int32 → Int32 → Int32 → Int32 → Option (q_S)) (fun _ _ _ _ _ => none) (fun _ k3 s v1 v3 v4 v5 =>
  cond (decide (v5 < v4)) (cond (q_in (v1 + v5) 6144) (cond (q_in (v3 + v5) 2048) (k3 (q_sA s 3 (upd (s.1 3) ((v3 + v5).toNatClampNeg) ((s.1 18) ((v1 + v5).toNatClampNeg)))) v1 v3 v4 (v5 + 1)) none) none) (some s)) m
theorem dzs_M304_82_67_3 (m : Nat) (s : q_S) (v1 : Int32) (v3 : Int32) (v4 : Int32) (v5 : Int32) : dz_M304_82_67_3 (m + 1) s v1 v3 v4 v5 = (fun k3 : q_S → Int32 → Int32 → Int32 → Int32 → Option (q_S) =>
  cond (decide (v5 < v4)) (cond (q_in (v1 + v5) 6144) (cond (q_in (v3 + v5) 2048) (k3 (q_sA s 3 (upd (s.1 3) ((v3 + v5).toNatClampNeg) ((s.1 18) ((v1 + v5).toNatClampNeg)))) v1 v3 v4 (v5 + 1)) none) none) (some s)) (dz_M304_82_67_3 m) := rfl
set_option maxHeartbeats 4000000 in
theorem dzt_M304_82_67_3 (c n : Nat) : ∀ (m : Nat) (s : q_S) (v1 : Int32) (v3 : Int32) (v4 : Int32) (v5 : Int32), q_RP q_TB0 0 303 (3, [(0, .ref 82), (1, .int v1), (2, .ref 67), (3, .int v3), (4, .int v4), (5, .int v5)], [], (q_kM s c n)) (q_oSM c n) (dz_M304_82_67_3 m s v1 v3 v4 v5) := by
  intro m
  induction m with
  | zero => intro s v1 v3 v4 v5; exact q_RP_no
  | succ m ih =>
    intro s v1 v3 v4 v5
    have hk3 := ih
    clear ih
    rw [dzs_M304_82_67_3]
    generalize dz_M304_82_67_3 m = k3 at hk3 ⊢
    dsimp only
    refine q_RP_seg (g2 := (7, [(0, .ref 82), (1, .int v1), (2, .ref 67), (3, .int v3), (4, .int v4), (5, .int v5)], [.int v4, .int v5], (q_kM s c n))) 2 (fun _ _ => rfl) ?_
    cases h1 : decide (v5 < v4) with
    | true =>
      refine q_RP_cT ?_
      refine q_RP_rsF (g2 := (10, [(0, .ref 82), (1, .int v1), (2, .ref 67), (3, .int v3), (4, .int v4), (5, .int v5)], [], (q_kM s c n))) rfl rfl (q_d_geT h1) ?_
      refine q_RP_seg (g2 := (20, [(0, .ref 82), (1, .int v1), (2, .ref 67), (3, .int v3), (4, .int v4), (5, .int v5)], [.int (v1 + v5), .ref 82, .int (v3 + v5), .ref 67], (q_kM s c n))) 8 (fun _ _ => rfl) ?_
      refine q_RP_as fun i2 => ?_
      refine q_RP_rsT (g2 := (21, [(0, .ref 82), (1, .int v1), (2, .ref 67), (3, .int v3), (4, .int v4), (5, .int v5)], [.int ((s.1 18) ((v1 + v5).toNatClampNeg)), .int (v3 + v5), .ref 67], (q_kM s c n))) rfl rfl i2 ?_
      refine q_RP_as fun i3 => ?_
      refine q_RP_rsT (g2 := (22, [(0, .ref 82), (1, .int v1), (2, .ref 67), (3, .int v3), (4, .int v4), (5, .int v5)], [], (q_kM (q_sA s 3 (upd (s.1 3) ((v3 + v5).toNatClampNeg) ((s.1 18) ((v1 + v5).toNatClampNeg)))) c n))) rfl q_wM3 i3 ?_
      refine q_RP_seg (g2 := (3, [(5, .int (v5 + 1)), (0, .ref 82), (1, .int v1), (2, .ref 67), (3, .int v3), (4, .int v4)], [], (q_kM (q_sA s 3 (upd (s.1 3) ((v3 + v5).toNatClampNeg) ((s.1 18) ((v1 + v5).toNatClampNeg)))) c n))) 2 (fun _ _ => rfl) ?_
      exact q_RP_xt (q_xt_mk (q_mn1 1 rfl (q_mn1 2 rfl (q_mn1 3 rfl (q_mn1 4 rfl (q_mn1 5 rfl (q_mn1 0 rfl q_mn0)))))) rfl) (hk3 (q_sA s 3 (upd (s.1 3) ((v3 + v5).toNatClampNeg) ((s.1 18) ((v1 + v5).toNatClampNeg)))) v1 v3 v4 (v5 + 1))
    | false =>
      refine q_RP_cF ?_
      refine q_RP_rsT (g2 := (28, [(0, .ref 82), (1, .int v1), (2, .ref 67), (3, .int v3), (4, .int v4), (5, .int v5)], [], (q_kM s c n))) rfl rfl (q_d_geF h1) ?_
      exact q_RP_ret rfl rfl rfl
def dz_M304_82_67 (s : q_S) (a1 : Int32) (a3 : Int32) (a4 : Int32) : Option (q_S) :=
  dz_M304_82_67_3 5000 s a1 a3 a4 0
set_option maxHeartbeats 4000000 in
theorem dzt_M304_82_67 (s : q_S) (c n : Nat) (a1 : Int32) (a3 : Int32) (a4 : Int32) (x : q_S) (h : dz_M304_82_67 s a1 a3 a4 = some x) : q_Ca q_TB0 1 303 [.ref 82, .int a1, .ref 67, .int a3, .int a4] (q_kM s c n) ((q_oSM c n) x) := by
  refine q_CaP_of (φ := (q_oSM c n)) (Nat.le_of_ble_eq_true rfl) ?_ h
  clear h
  unfold dz_M304_82_67
  refine q_RP_seg (g2 := (3, [(5, .int 0), (0, .ref 82), (1, .int a1), (2, .ref 67), (3, .int a3), (4, .int a4)], [], (q_kM s c n))) 2 (fun _ _ => rfl) ?_
  exact q_RP_xt (q_xt_mk (q_mn1 1 rfl (q_mn1 2 rfl (q_mn1 3 rfl (q_mn1 4 rfl (q_mn1 5 rfl (q_mn1 0 rfl q_mn0)))))) rfl) (dzt_M304_82_67_3 c n 5000 s a1 a3 a4 0)
def dz_M304_83_68_3 (m : Nat) : q_S → Int32 → Int32 → Int32 → Int32 → Option (q_S) := Nat.rec (motive := fun _ => q_S → Int32 → Int32 → Int32 → Int32 → Option (q_S)) (fun _ _ _ _ _ => none) (fun _ k3 s v1 v3 v4 v5 =>
  cond (decide (v5 < v4)) (cond (q_in (v1 + v5) 144) (cond (q_in (v3 + v5) 48) (k3 (q_sA s 4 (upd (s.1 4) ((v3 + v5).toNatClampNeg) ((s.1 19) ((v1 + v5).toNatClampNeg)))) v1 v3 v4 (v5 + 1)) none) none) (some s)) m
theorem dzs_M304_83_68_3 (m : Nat) (s : q_S) (v1 : Int32) (v3 : Int32) (v4 : Int32) (v5 : Int32) : dz_M304_83_68_3 (m + 1) s v1 v3 v4 v5 = (fun k3 : q_S → Int32 → Int32 → Int32 → Int32 → Option (q_S) =>
  cond (decide (v5 < v4)) (cond (q_in (v1 + v5) 144) (cond (q_in (v3 + v5) 48) (k3 (q_sA s 4 (upd (s.1 4) ((v3 + v5).toNatClampNeg) ((s.1 19) ((v1 + v5).toNatClampNeg)))) v1 v3 v4 (v5 + 1)) none) none) (some s)) (dz_M304_83_68_3 m) := rfl
set_option maxHeartbeats 4000000 in
theorem dzt_M304_83_68_3 (c n : Nat) : ∀ (m : Nat) (s : q_S) (v1 : Int32) (v3 : Int32) (v4 : Int32) (v5 : Int32), q_RP q_TB0 0 303 (3, [(0, .ref 83), (1, .int v1), (2, .ref 68), (3, .int v3), (4, .int v4), (5, .int v5)], [], (q_kM s c n)) (q_oSM c n) (dz_M304_83_68_3 m s v1 v3 v4 v5) := by
  intro m
  induction m with
  | zero => intro s v1 v3 v4 v5; exact q_RP_no
  | succ m ih =>
    intro s v1 v3 v4 v5
    have hk3 := ih
    clear ih
    rw [dzs_M304_83_68_3]
    generalize dz_M304_83_68_3 m = k3 at hk3 ⊢
    dsimp only
    refine q_RP_seg (g2 := (7, [(0, .ref 83), (1, .int v1), (2, .ref 68), (3, .int v3), (4, .int v4), (5, .int v5)], [.int v4, .int v5], (q_kM s c n))) 2 (fun _ _ => rfl) ?_
    cases h1 : decide (v5 < v4) with
    | true =>
      refine q_RP_cT ?_
      refine q_RP_rsF (g2 := (10, [(0, .ref 83), (1, .int v1), (2, .ref 68), (3, .int v3), (4, .int v4), (5, .int v5)], [], (q_kM s c n))) rfl rfl (q_d_geT h1) ?_
      refine q_RP_seg (g2 := (20, [(0, .ref 83), (1, .int v1), (2, .ref 68), (3, .int v3), (4, .int v4), (5, .int v5)], [.int (v1 + v5), .ref 83, .int (v3 + v5), .ref 68], (q_kM s c n))) 8 (fun _ _ => rfl) ?_
      refine q_RP_as fun i2 => ?_
      refine q_RP_rsT (g2 := (21, [(0, .ref 83), (1, .int v1), (2, .ref 68), (3, .int v3), (4, .int v4), (5, .int v5)], [.int ((s.1 19) ((v1 + v5).toNatClampNeg)), .int (v3 + v5), .ref 68], (q_kM s c n))) rfl rfl i2 ?_
      refine q_RP_as fun i3 => ?_
      refine q_RP_rsT (g2 := (22, [(0, .ref 83), (1, .int v1), (2, .ref 68), (3, .int v3), (4, .int v4), (5, .int v5)], [], (q_kM (q_sA s 4 (upd (s.1 4) ((v3 + v5).toNatClampNeg) ((s.1 19) ((v1 + v5).toNatClampNeg)))) c n))) rfl q_wM4 i3 ?_
      refine q_RP_seg (g2 := (3, [(5, .int (v5 + 1)), (0, .ref 83), (1, .int v1), (2, .ref 68), (3, .int v3), (4, .int v4)], [], (q_kM (q_sA s 4 (upd (s.1 4) ((v3 + v5).toNatClampNeg) ((s.1 19) ((v1 + v5).toNatClampNeg)))) c n))) 2 (fun _ _ => rfl) ?_
      exact q_RP_xt (q_xt_mk (q_mn1 1 rfl (q_mn1 2 rfl (q_mn1 3 rfl (q_mn1 4 rfl (q_mn1 5 rfl (q_mn1 0 rfl q_mn0)))))) rfl) (hk3 (q_sA s 4 (upd (s.1 4) ((v3 + v5).toNatClampNeg) ((s.1 19) ((v1 + v5).toNatClampNeg)))) v1 v3 v4 (v5 + 1))
    | false =>
      refine q_RP_cF ?_
      refine q_RP_rsT (g2 := (28, [(0, .ref 83), (1, .int v1), (2, .ref 68), (3, .int v3), (4, .int v4), (5, .int v5)], [], (q_kM s c n))) rfl rfl (q_d_geF h1) ?_
      exact q_RP_ret rfl rfl rfl
def dz_M304_83_68 (s : q_S) (a1 : Int32) (a3 : Int32) (a4 : Int32) : Option (q_S) :=
  dz_M304_83_68_3 5000 s a1 a3 a4 0
set_option maxHeartbeats 4000000 in
theorem dzt_M304_83_68 (s : q_S) (c n : Nat) (a1 : Int32) (a3 : Int32) (a4 : Int32) (x : q_S) (h : dz_M304_83_68 s a1 a3 a4 = some x) : q_Ca q_TB0 1 303 [.ref 83, .int a1, .ref 68, .int a3, .int a4] (q_kM s c n) ((q_oSM c n) x) := by
  refine q_CaP_of (φ := (q_oSM c n)) (Nat.le_of_ble_eq_true rfl) ?_ h
  clear h
  unfold dz_M304_83_68
  refine q_RP_seg (g2 := (3, [(5, .int 0), (0, .ref 83), (1, .int a1), (2, .ref 68), (3, .int a3), (4, .int a4)], [], (q_kM s c n))) 2 (fun _ _ => rfl) ?_
  exact q_RP_xt (q_xt_mk (q_mn1 1 rfl (q_mn1 2 rfl (q_mn1 3 rfl (q_mn1 4 rfl (q_mn1 5 rfl (q_mn1 0 rfl q_mn0)))))) rfl) (dzt_M304_83_68_3 c n 5000 s a1 a3 a4 0)
def dz_M304_84_69_3 (m : Nat) : q_S → Int32 → Int32 → Int32 → Int32 → Option (q_S) := Nat.rec (motive := fun _ => q_S → Int32 → Int32 → Int32 → Int32 → Option (q_S)) (fun _ _ _ _ _ => none) (fun _ k3 s v1 v3 v4 v5 =>
  cond (decide (v5 < v4)) (cond (q_in (v1 + v5) 3072) (cond (q_in (v3 + v5) 1024) (k3 (q_sA s 5 (upd (s.1 5) ((v3 + v5).toNatClampNeg) ((s.1 20) ((v1 + v5).toNatClampNeg)))) v1 v3 v4 (v5 + 1)) none) none) (some s)) m
theorem dzs_M304_84_69_3 (m : Nat) (s : q_S) (v1 : Int32) (v3 : Int32) (v4 : Int32) (v5 : Int32) : dz_M304_84_69_3 (m + 1) s v1 v3 v4 v5 = (fun k3 : q_S → Int32 → Int32 → Int32 → Int32 → Option (q_S) =>
  cond (decide (v5 < v4)) (cond (q_in (v1 + v5) 3072) (cond (q_in (v3 + v5) 1024) (k3 (q_sA s 5 (upd (s.1 5) ((v3 + v5).toNatClampNeg) ((s.1 20) ((v1 + v5).toNatClampNeg)))) v1 v3 v4 (v5 + 1)) none) none) (some s)) (dz_M304_84_69_3 m) := rfl
set_option maxHeartbeats 4000000 in
theorem dzt_M304_84_69_3 (c n : Nat) : ∀ (m : Nat) (s : q_S) (v1 : Int32) (v3 : Int32) (v4 : Int32) (v5 : Int32), q_RP q_TB0 0 303 (3, [(0, .ref 84), (1, .int v1), (2, .ref 69), (3, .int v3), (4, .int v4), (5, .int v5)], [], (q_kM s c n)) (q_oSM c n) (dz_M304_84_69_3 m s v1 v3 v4 v5) := by
  intro m
  induction m with
  | zero => intro s v1 v3 v4 v5; exact q_RP_no
  | succ m ih =>
    intro s v1 v3 v4 v5
    have hk3 := ih
    clear ih
    rw [dzs_M304_84_69_3]
    generalize dz_M304_84_69_3 m = k3 at hk3 ⊢
    dsimp only
    refine q_RP_seg (g2 := (7, [(0, .ref 84), (1, .int v1), (2, .ref 69), (3, .int v3), (4, .int v4), (5, .int v5)], [.int v4, .int v5], (q_kM s c n))) 2 (fun _ _ => rfl) ?_
    cases h1 : decide (v5 < v4) with
    | true =>
      refine q_RP_cT ?_
      refine q_RP_rsF (g2 := (10, [(0, .ref 84), (1, .int v1), (2, .ref 69), (3, .int v3), (4, .int v4), (5, .int v5)], [], (q_kM s c n))) rfl rfl (q_d_geT h1) ?_
      refine q_RP_seg (g2 := (20, [(0, .ref 84), (1, .int v1), (2, .ref 69), (3, .int v3), (4, .int v4), (5, .int v5)], [.int (v1 + v5), .ref 84, .int (v3 + v5), .ref 69], (q_kM s c n))) 8 (fun _ _ => rfl) ?_
      refine q_RP_as fun i2 => ?_
      refine q_RP_rsT (g2 := (21, [(0, .ref 84), (1, .int v1), (2, .ref 69), (3, .int v3), (4, .int v4), (5, .int v5)], [.int ((s.1 20) ((v1 + v5).toNatClampNeg)), .int (v3 + v5), .ref 69], (q_kM s c n))) rfl rfl i2 ?_
      refine q_RP_as fun i3 => ?_
      refine q_RP_rsT (g2 := (22, [(0, .ref 84), (1, .int v1), (2, .ref 69), (3, .int v3), (4, .int v4), (5, .int v5)], [], (q_kM (q_sA s 5 (upd (s.1 5) ((v3 + v5).toNatClampNeg) ((s.1 20) ((v1 + v5).toNatClampNeg)))) c n))) rfl q_wM5 i3 ?_
      refine q_RP_seg (g2 := (3, [(5, .int (v5 + 1)), (0, .ref 84), (1, .int v1), (2, .ref 69), (3, .int v3), (4, .int v4)], [], (q_kM (q_sA s 5 (upd (s.1 5) ((v3 + v5).toNatClampNeg) ((s.1 20) ((v1 + v5).toNatClampNeg)))) c n))) 2 (fun _ _ => rfl) ?_
      exact q_RP_xt (q_xt_mk (q_mn1 1 rfl (q_mn1 2 rfl (q_mn1 3 rfl (q_mn1 4 rfl (q_mn1 5 rfl (q_mn1 0 rfl q_mn0)))))) rfl) (hk3 (q_sA s 5 (upd (s.1 5) ((v3 + v5).toNatClampNeg) ((s.1 20) ((v1 + v5).toNatClampNeg)))) v1 v3 v4 (v5 + 1))
    | false =>
      refine q_RP_cF ?_
      refine q_RP_rsT (g2 := (28, [(0, .ref 84), (1, .int v1), (2, .ref 69), (3, .int v3), (4, .int v4), (5, .int v5)], [], (q_kM s c n))) rfl rfl (q_d_geF h1) ?_
      exact q_RP_ret rfl rfl rfl
def dz_M304_84_69 (s : q_S) (a1 : Int32) (a3 : Int32) (a4 : Int32) : Option (q_S) :=
  dz_M304_84_69_3 5000 s a1 a3 a4 0
set_option maxHeartbeats 4000000 in
theorem dzt_M304_84_69 (s : q_S) (c n : Nat) (a1 : Int32) (a3 : Int32) (a4 : Int32) (x : q_S) (h : dz_M304_84_69 s a1 a3 a4 = some x) : q_Ca q_TB0 1 303 [.ref 84, .int a1, .ref 69, .int a3, .int a4] (q_kM s c n) ((q_oSM c n) x) := by
  refine q_CaP_of (φ := (q_oSM c n)) (Nat.le_of_ble_eq_true rfl) ?_ h
  clear h
  unfold dz_M304_84_69
  refine q_RP_seg (g2 := (3, [(5, .int 0), (0, .ref 84), (1, .int a1), (2, .ref 69), (3, .int a3), (4, .int a4)], [], (q_kM s c n))) 2 (fun _ _ => rfl) ?_
  exact q_RP_xt (q_xt_mk (q_mn1 1 rfl (q_mn1 2 rfl (q_mn1 3 rfl (q_mn1 4 rfl (q_mn1 5 rfl (q_mn1 0 rfl q_mn0)))))) rfl) (dzt_M304_84_69_3 c n 5000 s a1 a3 a4 0)
def dz_M304_85_70_3 (m : Nat) : q_S → Int32 → Int32 → Int32 → Int32 → Option (q_S) := Nat.rec (motive := fun _ => q_S → Int32 → Int32 → Int32 → Int32 → Option (q_S)) (fun _ _ _ _ _ => none) (fun _ k3 s v1 v3 v4 v5 =>
  cond (decide (v5 < v4)) (cond (q_in (v1 + v5) 120) (cond (q_in (v3 + v5) 40) (k3 (q_sA s 6 (upd (s.1 6) ((v3 + v5).toNatClampNeg) ((s.1 21) ((v1 + v5).toNatClampNeg)))) v1 v3 v4 (v5 + 1)) none) none) (some s)) m
theorem dzs_M304_85_70_3 (m : Nat) (s : q_S) (v1 : Int32) (v3 : Int32) (v4 : Int32) (v5 : Int32) : dz_M304_85_70_3 (m + 1) s v1 v3 v4 v5 = (fun k3 : q_S → Int32 → Int32 → Int32 → Int32 → Option (q_S) =>
  cond (decide (v5 < v4)) (cond (q_in (v1 + v5) 120) (cond (q_in (v3 + v5) 40) (k3 (q_sA s 6 (upd (s.1 6) ((v3 + v5).toNatClampNeg) ((s.1 21) ((v1 + v5).toNatClampNeg)))) v1 v3 v4 (v5 + 1)) none) none) (some s)) (dz_M304_85_70_3 m) := rfl
set_option maxHeartbeats 4000000 in
theorem dzt_M304_85_70_3 (c n : Nat) : ∀ (m : Nat) (s : q_S) (v1 : Int32) (v3 : Int32) (v4 : Int32) (v5 : Int32), q_RP q_TB0 0 303 (3, [(0, .ref 85), (1, .int v1), (2, .ref 70), (3, .int v3), (4, .int v4), (5, .int v5)], [], (q_kM s c n)) (q_oSM c n) (dz_M304_85_70_3 m s v1 v3 v4 v5) := by
  intro m
  induction m with
  | zero => intro s v1 v3 v4 v5; exact q_RP_no
  | succ m ih =>
    intro s v1 v3 v4 v5
    have hk3 := ih
    clear ih
    rw [dzs_M304_85_70_3]
    generalize dz_M304_85_70_3 m = k3 at hk3 ⊢
    dsimp only
    refine q_RP_seg (g2 := (7, [(0, .ref 85), (1, .int v1), (2, .ref 70), (3, .int v3), (4, .int v4), (5, .int v5)], [.int v4, .int v5], (q_kM s c n))) 2 (fun _ _ => rfl) ?_
    cases h1 : decide (v5 < v4) with
    | true =>
      refine q_RP_cT ?_
      refine q_RP_rsF (g2 := (10, [(0, .ref 85), (1, .int v1), (2, .ref 70), (3, .int v3), (4, .int v4), (5, .int v5)], [], (q_kM s c n))) rfl rfl (q_d_geT h1) ?_
      refine q_RP_seg (g2 := (20, [(0, .ref 85), (1, .int v1), (2, .ref 70), (3, .int v3), (4, .int v4), (5, .int v5)], [.int (v1 + v5), .ref 85, .int (v3 + v5), .ref 70], (q_kM s c n))) 8 (fun _ _ => rfl) ?_
      refine q_RP_as fun i2 => ?_
      refine q_RP_rsT (g2 := (21, [(0, .ref 85), (1, .int v1), (2, .ref 70), (3, .int v3), (4, .int v4), (5, .int v5)], [.int ((s.1 21) ((v1 + v5).toNatClampNeg)), .int (v3 + v5), .ref 70], (q_kM s c n))) rfl rfl i2 ?_
      refine q_RP_as fun i3 => ?_
      refine q_RP_rsT (g2 := (22, [(0, .ref 85), (1, .int v1), (2, .ref 70), (3, .int v3), (4, .int v4), (5, .int v5)], [], (q_kM (q_sA s 6 (upd (s.1 6) ((v3 + v5).toNatClampNeg) ((s.1 21) ((v1 + v5).toNatClampNeg)))) c n))) rfl q_wM6 i3 ?_
      refine q_RP_seg (g2 := (3, [(5, .int (v5 + 1)), (0, .ref 85), (1, .int v1), (2, .ref 70), (3, .int v3), (4, .int v4)], [], (q_kM (q_sA s 6 (upd (s.1 6) ((v3 + v5).toNatClampNeg) ((s.1 21) ((v1 + v5).toNatClampNeg)))) c n))) 2 (fun _ _ => rfl) ?_
      exact q_RP_xt (q_xt_mk (q_mn1 1 rfl (q_mn1 2 rfl (q_mn1 3 rfl (q_mn1 4 rfl (q_mn1 5 rfl (q_mn1 0 rfl q_mn0)))))) rfl) (hk3 (q_sA s 6 (upd (s.1 6) ((v3 + v5).toNatClampNeg) ((s.1 21) ((v1 + v5).toNatClampNeg)))) v1 v3 v4 (v5 + 1))
    | false =>
      refine q_RP_cF ?_
      refine q_RP_rsT (g2 := (28, [(0, .ref 85), (1, .int v1), (2, .ref 70), (3, .int v3), (4, .int v4), (5, .int v5)], [], (q_kM s c n))) rfl rfl (q_d_geF h1) ?_
      exact q_RP_ret rfl rfl rfl
def dz_M304_85_70 (s : q_S) (a1 : Int32) (a3 : Int32) (a4 : Int32) : Option (q_S) :=
  dz_M304_85_70_3 5000 s a1 a3 a4 0
set_option maxHeartbeats 4000000 in
theorem dzt_M304_85_70 (s : q_S) (c n : Nat) (a1 : Int32) (a3 : Int32) (a4 : Int32) (x : q_S) (h : dz_M304_85_70 s a1 a3 a4 = some x) : q_Ca q_TB0 1 303 [.ref 85, .int a1, .ref 70, .int a3, .int a4] (q_kM s c n) ((q_oSM c n) x) := by
  refine q_CaP_of (φ := (q_oSM c n)) (Nat.le_of_ble_eq_true rfl) ?_ h
  clear h
  unfold dz_M304_85_70
  refine q_RP_seg (g2 := (3, [(5, .int 0), (0, .ref 85), (1, .int a1), (2, .ref 70), (3, .int a3), (4, .int a4)], [], (q_kM s c n))) 2 (fun _ _ => rfl) ?_
  exact q_RP_xt (q_xt_mk (q_mn1 1 rfl (q_mn1 2 rfl (q_mn1 3 rfl (q_mn1 4 rfl (q_mn1 5 rfl (q_mn1 0 rfl q_mn0)))))) rfl) (dzt_M304_85_70_3 c n 5000 s a1 a3 a4 0)
def dz_M304_87_72_3 (m : Nat) : q_S → Int32 → Int32 → Int32 → Int32 → Option (q_S) := Nat.rec (motive := fun _ => q_S → Int32 → Int32 → Int32 → Int32 → Option (q_S)) (fun _ _ _ _ _ => none) (fun _ k3 s v1 v3 v4 v5 =>
  cond (decide (v5 < v4)) (cond (q_in (v1 + v5) 120) (cond (q_in (v3 + v5) 40) (k3 (q_sA s 8 (upd (s.1 8) ((v3 + v5).toNatClampNeg) ((s.1 23) ((v1 + v5).toNatClampNeg)))) v1 v3 v4 (v5 + 1)) none) none) (some s)) m
theorem dzs_M304_87_72_3 (m : Nat) (s : q_S) (v1 : Int32) (v3 : Int32) (v4 : Int32) (v5 : Int32) : dz_M304_87_72_3 (m + 1) s v1 v3 v4 v5 = (fun k3 : q_S → Int32 → Int32 → Int32 → Int32 → Option (q_S) =>
  cond (decide (v5 < v4)) (cond (q_in (v1 + v5) 120) (cond (q_in (v3 + v5) 40) (k3 (q_sA s 8 (upd (s.1 8) ((v3 + v5).toNatClampNeg) ((s.1 23) ((v1 + v5).toNatClampNeg)))) v1 v3 v4 (v5 + 1)) none) none) (some s)) (dz_M304_87_72_3 m) := rfl
set_option maxHeartbeats 4000000 in
theorem dzt_M304_87_72_3 (c n : Nat) : ∀ (m : Nat) (s : q_S) (v1 : Int32) (v3 : Int32) (v4 : Int32) (v5 : Int32), q_RP q_TB0 0 303 (3, [(0, .ref 87), (1, .int v1), (2, .ref 72), (3, .int v3), (4, .int v4), (5, .int v5)], [], (q_kM s c n)) (q_oSM c n) (dz_M304_87_72_3 m s v1 v3 v4 v5) := by
  intro m
  induction m with
  | zero => intro s v1 v3 v4 v5; exact q_RP_no
  | succ m ih =>
    intro s v1 v3 v4 v5
    have hk3 := ih
    clear ih
    rw [dzs_M304_87_72_3]
    generalize dz_M304_87_72_3 m = k3 at hk3 ⊢
    dsimp only
    refine q_RP_seg (g2 := (7, [(0, .ref 87), (1, .int v1), (2, .ref 72), (3, .int v3), (4, .int v4), (5, .int v5)], [.int v4, .int v5], (q_kM s c n))) 2 (fun _ _ => rfl) ?_
    cases h1 : decide (v5 < v4) with
    | true =>
      refine q_RP_cT ?_
      refine q_RP_rsF (g2 := (10, [(0, .ref 87), (1, .int v1), (2, .ref 72), (3, .int v3), (4, .int v4), (5, .int v5)], [], (q_kM s c n))) rfl rfl (q_d_geT h1) ?_
      refine q_RP_seg (g2 := (20, [(0, .ref 87), (1, .int v1), (2, .ref 72), (3, .int v3), (4, .int v4), (5, .int v5)], [.int (v1 + v5), .ref 87, .int (v3 + v5), .ref 72], (q_kM s c n))) 8 (fun _ _ => rfl) ?_
      refine q_RP_as fun i2 => ?_
      refine q_RP_rsT (g2 := (21, [(0, .ref 87), (1, .int v1), (2, .ref 72), (3, .int v3), (4, .int v4), (5, .int v5)], [.int ((s.1 23) ((v1 + v5).toNatClampNeg)), .int (v3 + v5), .ref 72], (q_kM s c n))) rfl rfl i2 ?_
      refine q_RP_as fun i3 => ?_
      refine q_RP_rsT (g2 := (22, [(0, .ref 87), (1, .int v1), (2, .ref 72), (3, .int v3), (4, .int v4), (5, .int v5)], [], (q_kM (q_sA s 8 (upd (s.1 8) ((v3 + v5).toNatClampNeg) ((s.1 23) ((v1 + v5).toNatClampNeg)))) c n))) rfl q_wM8 i3 ?_
      refine q_RP_seg (g2 := (3, [(5, .int (v5 + 1)), (0, .ref 87), (1, .int v1), (2, .ref 72), (3, .int v3), (4, .int v4)], [], (q_kM (q_sA s 8 (upd (s.1 8) ((v3 + v5).toNatClampNeg) ((s.1 23) ((v1 + v5).toNatClampNeg)))) c n))) 2 (fun _ _ => rfl) ?_
      exact q_RP_xt (q_xt_mk (q_mn1 1 rfl (q_mn1 2 rfl (q_mn1 3 rfl (q_mn1 4 rfl (q_mn1 5 rfl (q_mn1 0 rfl q_mn0)))))) rfl) (hk3 (q_sA s 8 (upd (s.1 8) ((v3 + v5).toNatClampNeg) ((s.1 23) ((v1 + v5).toNatClampNeg)))) v1 v3 v4 (v5 + 1))
    | false =>
      refine q_RP_cF ?_
      refine q_RP_rsT (g2 := (28, [(0, .ref 87), (1, .int v1), (2, .ref 72), (3, .int v3), (4, .int v4), (5, .int v5)], [], (q_kM s c n))) rfl rfl (q_d_geF h1) ?_
      exact q_RP_ret rfl rfl rfl
def dz_M304_87_72 (s : q_S) (a1 : Int32) (a3 : Int32) (a4 : Int32) : Option (q_S) :=
  dz_M304_87_72_3 5000 s a1 a3 a4 0
set_option maxHeartbeats 4000000 in
theorem dzt_M304_87_72 (s : q_S) (c n : Nat) (a1 : Int32) (a3 : Int32) (a4 : Int32) (x : q_S) (h : dz_M304_87_72 s a1 a3 a4 = some x) : q_Ca q_TB0 1 303 [.ref 87, .int a1, .ref 72, .int a3, .int a4] (q_kM s c n) ((q_oSM c n) x) := by
  refine q_CaP_of (φ := (q_oSM c n)) (Nat.le_of_ble_eq_true rfl) ?_ h
  clear h
  unfold dz_M304_87_72
  refine q_RP_seg (g2 := (3, [(5, .int 0), (0, .ref 87), (1, .int a1), (2, .ref 72), (3, .int a3), (4, .int a4)], [], (q_kM s c n))) 2 (fun _ _ => rfl) ?_
  exact q_RP_xt (q_xt_mk (q_mn1 1 rfl (q_mn1 2 rfl (q_mn1 3 rfl (q_mn1 4 rfl (q_mn1 5 rfl (q_mn1 0 rfl q_mn0)))))) rfl) (dzt_M304_87_72_3 c n 5000 s a1 a3 a4 0)
def dz_M304_88_73_3 (m : Nat) : q_S → Int32 → Int32 → Int32 → Int32 → Option (q_S) := Nat.rec (motive := fun _ => q_S → Int32 → Int32 → Int32 → Int32 → Option (q_S)) (fun _ _ _ _ _ => none) (fun _ k3 s v1 v3 v4 v5 =>
  cond (decide (v5 < v4)) (cond (q_in (v1 + v5) 48) (cond (q_in (v3 + v5) 16) (k3 (q_sA s 9 (upd (s.1 9) ((v3 + v5).toNatClampNeg) ((s.1 24) ((v1 + v5).toNatClampNeg)))) v1 v3 v4 (v5 + 1)) none) none) (some s)) m
theorem dzs_M304_88_73_3 (m : Nat) (s : q_S) (v1 : Int32) (v3 : Int32) (v4 : Int32) (v5 : Int32) : dz_M304_88_73_3 (m + 1) s v1 v3 v4 v5 = (fun k3 : q_S → Int32 → Int32 → Int32 → Int32 → Option (q_S) =>
  cond (decide (v5 < v4)) (cond (q_in (v1 + v5) 48) (cond (q_in (v3 + v5) 16) (k3 (q_sA s 9 (upd (s.1 9) ((v3 + v5).toNatClampNeg) ((s.1 24) ((v1 + v5).toNatClampNeg)))) v1 v3 v4 (v5 + 1)) none) none) (some s)) (dz_M304_88_73_3 m) := rfl
set_option maxHeartbeats 4000000 in
theorem dzt_M304_88_73_3 (c n : Nat) : ∀ (m : Nat) (s : q_S) (v1 : Int32) (v3 : Int32) (v4 : Int32) (v5 : Int32), q_RP q_TB0 0 303 (3, [(0, .ref 88), (1, .int v1), (2, .ref 73), (3, .int v3), (4, .int v4), (5, .int v5)], [], (q_kM s c n)) (q_oSM c n) (dz_M304_88_73_3 m s v1 v3 v4 v5) := by
  intro m
  induction m with
  | zero => intro s v1 v3 v4 v5; exact q_RP_no
  | succ m ih =>
    intro s v1 v3 v4 v5
    have hk3 := ih
    clear ih
    rw [dzs_M304_88_73_3]
    generalize dz_M304_88_73_3 m = k3 at hk3 ⊢
    dsimp only
    refine q_RP_seg (g2 := (7, [(0, .ref 88), (1, .int v1), (2, .ref 73), (3, .int v3), (4, .int v4), (5, .int v5)], [.int v4, .int v5], (q_kM s c n))) 2 (fun _ _ => rfl) ?_
    cases h1 : decide (v5 < v4) with
    | true =>
      refine q_RP_cT ?_
      refine q_RP_rsF (g2 := (10, [(0, .ref 88), (1, .int v1), (2, .ref 73), (3, .int v3), (4, .int v4), (5, .int v5)], [], (q_kM s c n))) rfl rfl (q_d_geT h1) ?_
      refine q_RP_seg (g2 := (20, [(0, .ref 88), (1, .int v1), (2, .ref 73), (3, .int v3), (4, .int v4), (5, .int v5)], [.int (v1 + v5), .ref 88, .int (v3 + v5), .ref 73], (q_kM s c n))) 8 (fun _ _ => rfl) ?_
      refine q_RP_as fun i2 => ?_
      refine q_RP_rsT (g2 := (21, [(0, .ref 88), (1, .int v1), (2, .ref 73), (3, .int v3), (4, .int v4), (5, .int v5)], [.int ((s.1 24) ((v1 + v5).toNatClampNeg)), .int (v3 + v5), .ref 73], (q_kM s c n))) rfl rfl i2 ?_
      refine q_RP_as fun i3 => ?_
      refine q_RP_rsT (g2 := (22, [(0, .ref 88), (1, .int v1), (2, .ref 73), (3, .int v3), (4, .int v4), (5, .int v5)], [], (q_kM (q_sA s 9 (upd (s.1 9) ((v3 + v5).toNatClampNeg) ((s.1 24) ((v1 + v5).toNatClampNeg)))) c n))) rfl q_wM9 i3 ?_
      refine q_RP_seg (g2 := (3, [(5, .int (v5 + 1)), (0, .ref 88), (1, .int v1), (2, .ref 73), (3, .int v3), (4, .int v4)], [], (q_kM (q_sA s 9 (upd (s.1 9) ((v3 + v5).toNatClampNeg) ((s.1 24) ((v1 + v5).toNatClampNeg)))) c n))) 2 (fun _ _ => rfl) ?_
      exact q_RP_xt (q_xt_mk (q_mn1 1 rfl (q_mn1 2 rfl (q_mn1 3 rfl (q_mn1 4 rfl (q_mn1 5 rfl (q_mn1 0 rfl q_mn0)))))) rfl) (hk3 (q_sA s 9 (upd (s.1 9) ((v3 + v5).toNatClampNeg) ((s.1 24) ((v1 + v5).toNatClampNeg)))) v1 v3 v4 (v5 + 1))
    | false =>
      refine q_RP_cF ?_
      refine q_RP_rsT (g2 := (28, [(0, .ref 88), (1, .int v1), (2, .ref 73), (3, .int v3), (4, .int v4), (5, .int v5)], [], (q_kM s c n))) rfl rfl (q_d_geF h1) ?_
      exact q_RP_ret rfl rfl rfl
def dz_M304_88_73 (s : q_S) (a1 : Int32) (a3 : Int32) (a4 : Int32) : Option (q_S) :=
  dz_M304_88_73_3 5000 s a1 a3 a4 0
set_option maxHeartbeats 4000000 in
theorem dzt_M304_88_73 (s : q_S) (c n : Nat) (a1 : Int32) (a3 : Int32) (a4 : Int32) (x : q_S) (h : dz_M304_88_73 s a1 a3 a4 = some x) : q_Ca q_TB0 1 303 [.ref 88, .int a1, .ref 73, .int a3, .int a4] (q_kM s c n) ((q_oSM c n) x) := by
  refine q_CaP_of (φ := (q_oSM c n)) (Nat.le_of_ble_eq_true rfl) ?_ h
  clear h
  unfold dz_M304_88_73
  refine q_RP_seg (g2 := (3, [(5, .int 0), (0, .ref 88), (1, .int a1), (2, .ref 73), (3, .int a3), (4, .int a4)], [], (q_kM s c n))) 2 (fun _ _ => rfl) ?_
  exact q_RP_xt (q_xt_mk (q_mn1 1 rfl (q_mn1 2 rfl (q_mn1 3 rfl (q_mn1 4 rfl (q_mn1 5 rfl (q_mn1 0 rfl q_mn0)))))) rfl) (dzt_M304_88_73_3 c n 5000 s a1 a3 a4 0)
def dz_M304_89_74_3 (m : Nat) : q_S → Int32 → Int32 → Int32 → Int32 → Option (q_S) := Nat.rec (motive := fun _ => q_S → Int32 → Int32 → Int32 → Int32 → Option (q_S)) (fun _ _ _ _ _ => none) (fun _ k3 s v1 v3 v4 v5 =>
  cond (decide (v5 < v4)) (cond (q_in (v1 + v5) 9) (cond (q_in (v3 + v5) 3) (k3 (q_sA s 10 (upd (s.1 10) ((v3 + v5).toNatClampNeg) ((s.1 25) ((v1 + v5).toNatClampNeg)))) v1 v3 v4 (v5 + 1)) none) none) (some s)) m
theorem dzs_M304_89_74_3 (m : Nat) (s : q_S) (v1 : Int32) (v3 : Int32) (v4 : Int32) (v5 : Int32) : dz_M304_89_74_3 (m + 1) s v1 v3 v4 v5 = (fun k3 : q_S → Int32 → Int32 → Int32 → Int32 → Option (q_S) =>
  cond (decide (v5 < v4)) (cond (q_in (v1 + v5) 9) (cond (q_in (v3 + v5) 3) (k3 (q_sA s 10 (upd (s.1 10) ((v3 + v5).toNatClampNeg) ((s.1 25) ((v1 + v5).toNatClampNeg)))) v1 v3 v4 (v5 + 1)) none) none) (some s)) (dz_M304_89_74_3 m) := rfl
set_option maxHeartbeats 4000000 in
theorem dzt_M304_89_74_3 (c n : Nat) : ∀ (m : Nat) (s : q_S) (v1 : Int32) (v3 : Int32) (v4 : Int32) (v5 : Int32), q_RP q_TB0 0 303 (3, [(0, .ref 89), (1, .int v1), (2, .ref 74), (3, .int v3), (4, .int v4), (5, .int v5)], [], (q_kM s c n)) (q_oSM c n) (dz_M304_89_74_3 m s v1 v3 v4 v5) := by
  intro m
  induction m with
  | zero => intro s v1 v3 v4 v5; exact q_RP_no
  | succ m ih =>
    intro s v1 v3 v4 v5
    have hk3 := ih
    clear ih
    rw [dzs_M304_89_74_3]
    generalize dz_M304_89_74_3 m = k3 at hk3 ⊢
    dsimp only
    refine q_RP_seg (g2 := (7, [(0, .ref 89), (1, .int v1), (2, .ref 74), (3, .int v3), (4, .int v4), (5, .int v5)], [.int v4, .int v5], (q_kM s c n))) 2 (fun _ _ => rfl) ?_
    cases h1 : decide (v5 < v4) with
    | true =>
      refine q_RP_cT ?_
      refine q_RP_rsF (g2 := (10, [(0, .ref 89), (1, .int v1), (2, .ref 74), (3, .int v3), (4, .int v4), (5, .int v5)], [], (q_kM s c n))) rfl rfl (q_d_geT h1) ?_
      refine q_RP_seg (g2 := (20, [(0, .ref 89), (1, .int v1), (2, .ref 74), (3, .int v3), (4, .int v4), (5, .int v5)], [.int (v1 + v5), .ref 89, .int (v3 + v5), .ref 74], (q_kM s c n))) 8 (fun _ _ => rfl) ?_
      refine q_RP_as fun i2 => ?_
      refine q_RP_rsT (g2 := (21, [(0, .ref 89), (1, .int v1), (2, .ref 74), (3, .int v3), (4, .int v4), (5, .int v5)], [.int ((s.1 25) ((v1 + v5).toNatClampNeg)), .int (v3 + v5), .ref 74], (q_kM s c n))) rfl rfl i2 ?_
      refine q_RP_as fun i3 => ?_
      refine q_RP_rsT (g2 := (22, [(0, .ref 89), (1, .int v1), (2, .ref 74), (3, .int v3), (4, .int v4), (5, .int v5)], [], (q_kM (q_sA s 10 (upd (s.1 10) ((v3 + v5).toNatClampNeg) ((s.1 25) ((v1 + v5).toNatClampNeg)))) c n))) rfl q_wM10 i3 ?_
      refine q_RP_seg (g2 := (3, [(5, .int (v5 + 1)), (0, .ref 89), (1, .int v1), (2, .ref 74), (3, .int v3), (4, .int v4)], [], (q_kM (q_sA s 10 (upd (s.1 10) ((v3 + v5).toNatClampNeg) ((s.1 25) ((v1 + v5).toNatClampNeg)))) c n))) 2 (fun _ _ => rfl) ?_
      exact q_RP_xt (q_xt_mk (q_mn1 1 rfl (q_mn1 2 rfl (q_mn1 3 rfl (q_mn1 4 rfl (q_mn1 5 rfl (q_mn1 0 rfl q_mn0)))))) rfl) (hk3 (q_sA s 10 (upd (s.1 10) ((v3 + v5).toNatClampNeg) ((s.1 25) ((v1 + v5).toNatClampNeg)))) v1 v3 v4 (v5 + 1))
    | false =>
      refine q_RP_cF ?_
      refine q_RP_rsT (g2 := (28, [(0, .ref 89), (1, .int v1), (2, .ref 74), (3, .int v3), (4, .int v4), (5, .int v5)], [], (q_kM s c n))) rfl rfl (q_d_geF h1) ?_
      exact q_RP_ret rfl rfl rfl
def dz_M304_89_74 (s : q_S) (a1 : Int32) (a3 : Int32) (a4 : Int32) : Option (q_S) :=
  dz_M304_89_74_3 5000 s a1 a3 a4 0
set_option maxHeartbeats 4000000 in
theorem dzt_M304_89_74 (s : q_S) (c n : Nat) (a1 : Int32) (a3 : Int32) (a4 : Int32) (x : q_S) (h : dz_M304_89_74 s a1 a3 a4 = some x) : q_Ca q_TB0 1 303 [.ref 89, .int a1, .ref 74, .int a3, .int a4] (q_kM s c n) ((q_oSM c n) x) := by
  refine q_CaP_of (φ := (q_oSM c n)) (Nat.le_of_ble_eq_true rfl) ?_ h
  clear h
  unfold dz_M304_89_74
  refine q_RP_seg (g2 := (3, [(5, .int 0), (0, .ref 89), (1, .int a1), (2, .ref 74), (3, .int a3), (4, .int a4)], [], (q_kM s c n))) 2 (fun _ _ => rfl) ?_
  exact q_RP_xt (q_xt_mk (q_mn1 1 rfl (q_mn1 2 rfl (q_mn1 3 rfl (q_mn1 4 rfl (q_mn1 5 rfl (q_mn1 0 rfl q_mn0)))))) rfl) (dzt_M304_89_74_3 c n 5000 s a1 a3 a4 0)
def dz_M304_90_75_3 (m : Nat) : q_S → Int32 → Int32 → Int32 → Int32 → Option (q_S) := Nat.rec (motive := fun _ => q_S → Int32 → Int32 → Int32 → Int32 → Option (q_S)) (fun _ _ _ _ _ => none) (fun _ k3 s v1 v3 v4 v5 =>
  cond (decide (v5 < v4)) (cond (q_in (v1 + v5) 9) (cond (q_in (v3 + v5) 3) (k3 (q_sA s 11 (upd (s.1 11) ((v3 + v5).toNatClampNeg) ((s.1 26) ((v1 + v5).toNatClampNeg)))) v1 v3 v4 (v5 + 1)) none) none) (some s)) m
theorem dzs_M304_90_75_3 (m : Nat) (s : q_S) (v1 : Int32) (v3 : Int32) (v4 : Int32) (v5 : Int32) : dz_M304_90_75_3 (m + 1) s v1 v3 v4 v5 = (fun k3 : q_S → Int32 → Int32 → Int32 → Int32 → Option (q_S) =>
  cond (decide (v5 < v4)) (cond (q_in (v1 + v5) 9) (cond (q_in (v3 + v5) 3) (k3 (q_sA s 11 (upd (s.1 11) ((v3 + v5).toNatClampNeg) ((s.1 26) ((v1 + v5).toNatClampNeg)))) v1 v3 v4 (v5 + 1)) none) none) (some s)) (dz_M304_90_75_3 m) := rfl
set_option maxHeartbeats 4000000 in
theorem dzt_M304_90_75_3 (c n : Nat) : ∀ (m : Nat) (s : q_S) (v1 : Int32) (v3 : Int32) (v4 : Int32) (v5 : Int32), q_RP q_TB0 0 303 (3, [(0, .ref 90), (1, .int v1), (2, .ref 75), (3, .int v3), (4, .int v4), (5, .int v5)], [], (q_kM s c n)) (q_oSM c n) (dz_M304_90_75_3 m s v1 v3 v4 v5) := by
  intro m
  induction m with
  | zero => intro s v1 v3 v4 v5; exact q_RP_no
  | succ m ih =>
    intro s v1 v3 v4 v5
    have hk3 := ih
    clear ih
    rw [dzs_M304_90_75_3]
    generalize dz_M304_90_75_3 m = k3 at hk3 ⊢
    dsimp only
    refine q_RP_seg (g2 := (7, [(0, .ref 90), (1, .int v1), (2, .ref 75), (3, .int v3), (4, .int v4), (5, .int v5)], [.int v4, .int v5], (q_kM s c n))) 2 (fun _ _ => rfl) ?_
    cases h1 : decide (v5 < v4) with
    | true =>
      refine q_RP_cT ?_
      refine q_RP_rsF (g2 := (10, [(0, .ref 90), (1, .int v1), (2, .ref 75), (3, .int v3), (4, .int v4), (5, .int v5)], [], (q_kM s c n))) rfl rfl (q_d_geT h1) ?_
      refine q_RP_seg (g2 := (20, [(0, .ref 90), (1, .int v1), (2, .ref 75), (3, .int v3), (4, .int v4), (5, .int v5)], [.int (v1 + v5), .ref 90, .int (v3 + v5), .ref 75], (q_kM s c n))) 8 (fun _ _ => rfl) ?_
      refine q_RP_as fun i2 => ?_
      refine q_RP_rsT (g2 := (21, [(0, .ref 90), (1, .int v1), (2, .ref 75), (3, .int v3), (4, .int v4), (5, .int v5)], [.int ((s.1 26) ((v1 + v5).toNatClampNeg)), .int (v3 + v5), .ref 75], (q_kM s c n))) rfl rfl i2 ?_
      refine q_RP_as fun i3 => ?_
      refine q_RP_rsT (g2 := (22, [(0, .ref 90), (1, .int v1), (2, .ref 75), (3, .int v3), (4, .int v4), (5, .int v5)], [], (q_kM (q_sA s 11 (upd (s.1 11) ((v3 + v5).toNatClampNeg) ((s.1 26) ((v1 + v5).toNatClampNeg)))) c n))) rfl q_wM11 i3 ?_
      refine q_RP_seg (g2 := (3, [(5, .int (v5 + 1)), (0, .ref 90), (1, .int v1), (2, .ref 75), (3, .int v3), (4, .int v4)], [], (q_kM (q_sA s 11 (upd (s.1 11) ((v3 + v5).toNatClampNeg) ((s.1 26) ((v1 + v5).toNatClampNeg)))) c n))) 2 (fun _ _ => rfl) ?_
      exact q_RP_xt (q_xt_mk (q_mn1 1 rfl (q_mn1 2 rfl (q_mn1 3 rfl (q_mn1 4 rfl (q_mn1 5 rfl (q_mn1 0 rfl q_mn0)))))) rfl) (hk3 (q_sA s 11 (upd (s.1 11) ((v3 + v5).toNatClampNeg) ((s.1 26) ((v1 + v5).toNatClampNeg)))) v1 v3 v4 (v5 + 1))
    | false =>
      refine q_RP_cF ?_
      refine q_RP_rsT (g2 := (28, [(0, .ref 90), (1, .int v1), (2, .ref 75), (3, .int v3), (4, .int v4), (5, .int v5)], [], (q_kM s c n))) rfl rfl (q_d_geF h1) ?_
      exact q_RP_ret rfl rfl rfl
def dz_M304_90_75 (s : q_S) (a1 : Int32) (a3 : Int32) (a4 : Int32) : Option (q_S) :=
  dz_M304_90_75_3 5000 s a1 a3 a4 0
set_option maxHeartbeats 4000000 in
theorem dzt_M304_90_75 (s : q_S) (c n : Nat) (a1 : Int32) (a3 : Int32) (a4 : Int32) (x : q_S) (h : dz_M304_90_75 s a1 a3 a4 = some x) : q_Ca q_TB0 1 303 [.ref 90, .int a1, .ref 75, .int a3, .int a4] (q_kM s c n) ((q_oSM c n) x) := by
  refine q_CaP_of (φ := (q_oSM c n)) (Nat.le_of_ble_eq_true rfl) ?_ h
  clear h
  unfold dz_M304_90_75
  refine q_RP_seg (g2 := (3, [(5, .int 0), (0, .ref 90), (1, .int a1), (2, .ref 75), (3, .int a3), (4, .int a4)], [], (q_kM s c n))) 2 (fun _ _ => rfl) ?_
  exact q_RP_xt (q_xt_mk (q_mn1 1 rfl (q_mn1 2 rfl (q_mn1 3 rfl (q_mn1 4 rfl (q_mn1 5 rfl (q_mn1 0 rfl q_mn0)))))) rfl) (dzt_M304_90_75_3 c n 5000 s a1 a3 a4 0)
def dz_M304_91_76_3 (m : Nat) : q_S → Int32 → Int32 → Int32 → Int32 → Option (q_S) := Nat.rec (motive := fun _ => q_S → Int32 → Int32 → Int32 → Int32 → Option (q_S)) (fun _ _ _ _ _ => none) (fun _ k3 s v1 v3 v4 v5 =>
  cond (decide (v5 < v4)) (cond (q_in (v1 + v5) 9) (cond (q_in (v3 + v5) 3) (k3 (q_sA s 12 (upd (s.1 12) ((v3 + v5).toNatClampNeg) ((s.1 27) ((v1 + v5).toNatClampNeg)))) v1 v3 v4 (v5 + 1)) none) none) (some s)) m
theorem dzs_M304_91_76_3 (m : Nat) (s : q_S) (v1 : Int32) (v3 : Int32) (v4 : Int32) (v5 : Int32) : dz_M304_91_76_3 (m + 1) s v1 v3 v4 v5 = (fun k3 : q_S → Int32 → Int32 → Int32 → Int32 → Option (q_S) =>
  cond (decide (v5 < v4)) (cond (q_in (v1 + v5) 9) (cond (q_in (v3 + v5) 3) (k3 (q_sA s 12 (upd (s.1 12) ((v3 + v5).toNatClampNeg) ((s.1 27) ((v1 + v5).toNatClampNeg)))) v1 v3 v4 (v5 + 1)) none) none) (some s)) (dz_M304_91_76_3 m) := rfl
set_option maxHeartbeats 4000000 in
theorem dzt_M304_91_76_3 (c n : Nat) : ∀ (m : Nat) (s : q_S) (v1 : Int32) (v3 : Int32) (v4 : Int32) (v5 : Int32), q_RP q_TB0 0 303 (3, [(0, .ref 91), (1, .int v1), (2, .ref 76), (3, .int v3), (4, .int v4), (5, .int v5)], [], (q_kM s c n)) (q_oSM c n) (dz_M304_91_76_3 m s v1 v3 v4 v5) := by
  intro m
  induction m with
  | zero => intro s v1 v3 v4 v5; exact q_RP_no
  | succ m ih =>
    intro s v1 v3 v4 v5
    have hk3 := ih
    clear ih
    rw [dzs_M304_91_76_3]
    generalize dz_M304_91_76_3 m = k3 at hk3 ⊢
    dsimp only
    refine q_RP_seg (g2 := (7, [(0, .ref 91), (1, .int v1), (2, .ref 76), (3, .int v3), (4, .int v4), (5, .int v5)], [.int v4, .int v5], (q_kM s c n))) 2 (fun _ _ => rfl) ?_
    cases h1 : decide (v5 < v4) with
    | true =>
      refine q_RP_cT ?_
      refine q_RP_rsF (g2 := (10, [(0, .ref 91), (1, .int v1), (2, .ref 76), (3, .int v3), (4, .int v4), (5, .int v5)], [], (q_kM s c n))) rfl rfl (q_d_geT h1) ?_
      refine q_RP_seg (g2 := (20, [(0, .ref 91), (1, .int v1), (2, .ref 76), (3, .int v3), (4, .int v4), (5, .int v5)], [.int (v1 + v5), .ref 91, .int (v3 + v5), .ref 76], (q_kM s c n))) 8 (fun _ _ => rfl) ?_
      refine q_RP_as fun i2 => ?_
      refine q_RP_rsT (g2 := (21, [(0, .ref 91), (1, .int v1), (2, .ref 76), (3, .int v3), (4, .int v4), (5, .int v5)], [.int ((s.1 27) ((v1 + v5).toNatClampNeg)), .int (v3 + v5), .ref 76], (q_kM s c n))) rfl rfl i2 ?_
      refine q_RP_as fun i3 => ?_
      refine q_RP_rsT (g2 := (22, [(0, .ref 91), (1, .int v1), (2, .ref 76), (3, .int v3), (4, .int v4), (5, .int v5)], [], (q_kM (q_sA s 12 (upd (s.1 12) ((v3 + v5).toNatClampNeg) ((s.1 27) ((v1 + v5).toNatClampNeg)))) c n))) rfl q_wM12 i3 ?_
      refine q_RP_seg (g2 := (3, [(5, .int (v5 + 1)), (0, .ref 91), (1, .int v1), (2, .ref 76), (3, .int v3), (4, .int v4)], [], (q_kM (q_sA s 12 (upd (s.1 12) ((v3 + v5).toNatClampNeg) ((s.1 27) ((v1 + v5).toNatClampNeg)))) c n))) 2 (fun _ _ => rfl) ?_
      exact q_RP_xt (q_xt_mk (q_mn1 1 rfl (q_mn1 2 rfl (q_mn1 3 rfl (q_mn1 4 rfl (q_mn1 5 rfl (q_mn1 0 rfl q_mn0)))))) rfl) (hk3 (q_sA s 12 (upd (s.1 12) ((v3 + v5).toNatClampNeg) ((s.1 27) ((v1 + v5).toNatClampNeg)))) v1 v3 v4 (v5 + 1))
    | false =>
      refine q_RP_cF ?_
      refine q_RP_rsT (g2 := (28, [(0, .ref 91), (1, .int v1), (2, .ref 76), (3, .int v3), (4, .int v4), (5, .int v5)], [], (q_kM s c n))) rfl rfl (q_d_geF h1) ?_
      exact q_RP_ret rfl rfl rfl
def dz_M304_91_76 (s : q_S) (a1 : Int32) (a3 : Int32) (a4 : Int32) : Option (q_S) :=
  dz_M304_91_76_3 5000 s a1 a3 a4 0
set_option maxHeartbeats 4000000 in
theorem dzt_M304_91_76 (s : q_S) (c n : Nat) (a1 : Int32) (a3 : Int32) (a4 : Int32) (x : q_S) (h : dz_M304_91_76 s a1 a3 a4 = some x) : q_Ca q_TB0 1 303 [.ref 91, .int a1, .ref 76, .int a3, .int a4] (q_kM s c n) ((q_oSM c n) x) := by
  refine q_CaP_of (φ := (q_oSM c n)) (Nat.le_of_ble_eq_true rfl) ?_ h
  clear h
  unfold dz_M304_91_76
  refine q_RP_seg (g2 := (3, [(5, .int 0), (0, .ref 91), (1, .int a1), (2, .ref 76), (3, .int a3), (4, .int a4)], [], (q_kM s c n))) 2 (fun _ _ => rfl) ?_
  exact q_RP_xt (q_xt_mk (q_mn1 1 rfl (q_mn1 2 rfl (q_mn1 3 rfl (q_mn1 4 rfl (q_mn1 5 rfl (q_mn1 0 rfl q_mn0)))))) rfl) (dzt_M304_91_76_3 c n 5000 s a1 a3 a4 0)
def dz_M304_92_77_3 (m : Nat) : q_S → Int32 → Int32 → Int32 → Int32 → Option (q_S) := Nat.rec (motive := fun _ => q_S → Int32 → Int32 → Int32 → Int32 → Option (q_S)) (fun _ _ _ _ _ => none) (fun _ k3 s v1 v3 v4 v5 =>
  cond (decide (v5 < v4)) (cond (q_in (v1 + v5) 9) (cond (q_in (v3 + v5) 3) (k3 (q_sA s 13 (upd (s.1 13) ((v3 + v5).toNatClampNeg) ((s.1 28) ((v1 + v5).toNatClampNeg)))) v1 v3 v4 (v5 + 1)) none) none) (some s)) m
theorem dzs_M304_92_77_3 (m : Nat) (s : q_S) (v1 : Int32) (v3 : Int32) (v4 : Int32) (v5 : Int32) : dz_M304_92_77_3 (m + 1) s v1 v3 v4 v5 = (fun k3 : q_S → Int32 → Int32 → Int32 → Int32 → Option (q_S) =>
  cond (decide (v5 < v4)) (cond (q_in (v1 + v5) 9) (cond (q_in (v3 + v5) 3) (k3 (q_sA s 13 (upd (s.1 13) ((v3 + v5).toNatClampNeg) ((s.1 28) ((v1 + v5).toNatClampNeg)))) v1 v3 v4 (v5 + 1)) none) none) (some s)) (dz_M304_92_77_3 m) := rfl
set_option maxHeartbeats 4000000 in
theorem dzt_M304_92_77_3 (c n : Nat) : ∀ (m : Nat) (s : q_S) (v1 : Int32) (v3 : Int32) (v4 : Int32) (v5 : Int32), q_RP q_TB0 0 303 (3, [(0, .ref 92), (1, .int v1), (2, .ref 77), (3, .int v3), (4, .int v4), (5, .int v5)], [], (q_kM s c n)) (q_oSM c n) (dz_M304_92_77_3 m s v1 v3 v4 v5) := by
  intro m
  induction m with
  | zero => intro s v1 v3 v4 v5; exact q_RP_no
  | succ m ih =>
    intro s v1 v3 v4 v5
    have hk3 := ih
    clear ih
    rw [dzs_M304_92_77_3]
    generalize dz_M304_92_77_3 m = k3 at hk3 ⊢
    dsimp only
    refine q_RP_seg (g2 := (7, [(0, .ref 92), (1, .int v1), (2, .ref 77), (3, .int v3), (4, .int v4), (5, .int v5)], [.int v4, .int v5], (q_kM s c n))) 2 (fun _ _ => rfl) ?_
    cases h1 : decide (v5 < v4) with
    | true =>
      refine q_RP_cT ?_
      refine q_RP_rsF (g2 := (10, [(0, .ref 92), (1, .int v1), (2, .ref 77), (3, .int v3), (4, .int v4), (5, .int v5)], [], (q_kM s c n))) rfl rfl (q_d_geT h1) ?_
      refine q_RP_seg (g2 := (20, [(0, .ref 92), (1, .int v1), (2, .ref 77), (3, .int v3), (4, .int v4), (5, .int v5)], [.int (v1 + v5), .ref 92, .int (v3 + v5), .ref 77], (q_kM s c n))) 8 (fun _ _ => rfl) ?_
      refine q_RP_as fun i2 => ?_
      refine q_RP_rsT (g2 := (21, [(0, .ref 92), (1, .int v1), (2, .ref 77), (3, .int v3), (4, .int v4), (5, .int v5)], [.int ((s.1 28) ((v1 + v5).toNatClampNeg)), .int (v3 + v5), .ref 77], (q_kM s c n))) rfl rfl i2 ?_
      refine q_RP_as fun i3 => ?_
      refine q_RP_rsT (g2 := (22, [(0, .ref 92), (1, .int v1), (2, .ref 77), (3, .int v3), (4, .int v4), (5, .int v5)], [], (q_kM (q_sA s 13 (upd (s.1 13) ((v3 + v5).toNatClampNeg) ((s.1 28) ((v1 + v5).toNatClampNeg)))) c n))) rfl q_wM13 i3 ?_
      refine q_RP_seg (g2 := (3, [(5, .int (v5 + 1)), (0, .ref 92), (1, .int v1), (2, .ref 77), (3, .int v3), (4, .int v4)], [], (q_kM (q_sA s 13 (upd (s.1 13) ((v3 + v5).toNatClampNeg) ((s.1 28) ((v1 + v5).toNatClampNeg)))) c n))) 2 (fun _ _ => rfl) ?_
      exact q_RP_xt (q_xt_mk (q_mn1 1 rfl (q_mn1 2 rfl (q_mn1 3 rfl (q_mn1 4 rfl (q_mn1 5 rfl (q_mn1 0 rfl q_mn0)))))) rfl) (hk3 (q_sA s 13 (upd (s.1 13) ((v3 + v5).toNatClampNeg) ((s.1 28) ((v1 + v5).toNatClampNeg)))) v1 v3 v4 (v5 + 1))
    | false =>
      refine q_RP_cF ?_
      refine q_RP_rsT (g2 := (28, [(0, .ref 92), (1, .int v1), (2, .ref 77), (3, .int v3), (4, .int v4), (5, .int v5)], [], (q_kM s c n))) rfl rfl (q_d_geF h1) ?_
      exact q_RP_ret rfl rfl rfl
def dz_M304_92_77 (s : q_S) (a1 : Int32) (a3 : Int32) (a4 : Int32) : Option (q_S) :=
  dz_M304_92_77_3 5000 s a1 a3 a4 0
set_option maxHeartbeats 4000000 in
theorem dzt_M304_92_77 (s : q_S) (c n : Nat) (a1 : Int32) (a3 : Int32) (a4 : Int32) (x : q_S) (h : dz_M304_92_77 s a1 a3 a4 = some x) : q_Ca q_TB0 1 303 [.ref 92, .int a1, .ref 77, .int a3, .int a4] (q_kM s c n) ((q_oSM c n) x) := by
  refine q_CaP_of (φ := (q_oSM c n)) (Nat.le_of_ble_eq_true rfl) ?_ h
  clear h
  unfold dz_M304_92_77
  refine q_RP_seg (g2 := (3, [(5, .int 0), (0, .ref 92), (1, .int a1), (2, .ref 77), (3, .int a3), (4, .int a4)], [], (q_kM s c n))) 2 (fun _ _ => rfl) ?_
  exact q_RP_xt (q_xt_mk (q_mn1 1 rfl (q_mn1 2 rfl (q_mn1 3 rfl (q_mn1 4 rfl (q_mn1 5 rfl (q_mn1 0 rfl q_mn0)))))) rfl) (dzt_M304_92_77_3 c n 5000 s a1 a3 a4 0)
def dz_M304_93_78_3 (m : Nat) : q_S → Int32 → Int32 → Int32 → Int32 → Option (q_S) := Nat.rec (motive := fun _ => q_S → Int32 → Int32 → Int32 → Int32 → Option (q_S)) (fun _ _ _ _ _ => none) (fun _ k3 s v1 v3 v4 v5 =>
  cond (decide (v5 < v4)) (cond (q_in (v1 + v5) 72) (cond (q_in (v3 + v5) 24) (k3 (q_sA s 14 (upd (s.1 14) ((v3 + v5).toNatClampNeg) ((s.1 29) ((v1 + v5).toNatClampNeg)))) v1 v3 v4 (v5 + 1)) none) none) (some s)) m
theorem dzs_M304_93_78_3 (m : Nat) (s : q_S) (v1 : Int32) (v3 : Int32) (v4 : Int32) (v5 : Int32) : dz_M304_93_78_3 (m + 1) s v1 v3 v4 v5 = (fun k3 : q_S → Int32 → Int32 → Int32 → Int32 → Option (q_S) =>
  cond (decide (v5 < v4)) (cond (q_in (v1 + v5) 72) (cond (q_in (v3 + v5) 24) (k3 (q_sA s 14 (upd (s.1 14) ((v3 + v5).toNatClampNeg) ((s.1 29) ((v1 + v5).toNatClampNeg)))) v1 v3 v4 (v5 + 1)) none) none) (some s)) (dz_M304_93_78_3 m) := rfl
set_option maxHeartbeats 4000000 in
theorem dzt_M304_93_78_3 (c n : Nat) : ∀ (m : Nat) (s : q_S) (v1 : Int32) (v3 : Int32) (v4 : Int32) (v5 : Int32), q_RP q_TB0 0 303 (3, [(0, .ref 93), (1, .int v1), (2, .ref 78), (3, .int v3), (4, .int v4), (5, .int v5)], [], (q_kM s c n)) (q_oSM c n) (dz_M304_93_78_3 m s v1 v3 v4 v5) := by
  intro m
  induction m with
  | zero => intro s v1 v3 v4 v5; exact q_RP_no
  | succ m ih =>
    intro s v1 v3 v4 v5
    have hk3 := ih
    clear ih
    rw [dzs_M304_93_78_3]
    generalize dz_M304_93_78_3 m = k3 at hk3 ⊢
    dsimp only
    refine q_RP_seg (g2 := (7, [(0, .ref 93), (1, .int v1), (2, .ref 78), (3, .int v3), (4, .int v4), (5, .int v5)], [.int v4, .int v5], (q_kM s c n))) 2 (fun _ _ => rfl) ?_
    cases h1 : decide (v5 < v4) with
    | true =>
      refine q_RP_cT ?_
      refine q_RP_rsF (g2 := (10, [(0, .ref 93), (1, .int v1), (2, .ref 78), (3, .int v3), (4, .int v4), (5, .int v5)], [], (q_kM s c n))) rfl rfl (q_d_geT h1) ?_
      refine q_RP_seg (g2 := (20, [(0, .ref 93), (1, .int v1), (2, .ref 78), (3, .int v3), (4, .int v4), (5, .int v5)], [.int (v1 + v5), .ref 93, .int (v3 + v5), .ref 78], (q_kM s c n))) 8 (fun _ _ => rfl) ?_
      refine q_RP_as fun i2 => ?_
      refine q_RP_rsT (g2 := (21, [(0, .ref 93), (1, .int v1), (2, .ref 78), (3, .int v3), (4, .int v4), (5, .int v5)], [.int ((s.1 29) ((v1 + v5).toNatClampNeg)), .int (v3 + v5), .ref 78], (q_kM s c n))) rfl rfl i2 ?_
      refine q_RP_as fun i3 => ?_
      refine q_RP_rsT (g2 := (22, [(0, .ref 93), (1, .int v1), (2, .ref 78), (3, .int v3), (4, .int v4), (5, .int v5)], [], (q_kM (q_sA s 14 (upd (s.1 14) ((v3 + v5).toNatClampNeg) ((s.1 29) ((v1 + v5).toNatClampNeg)))) c n))) rfl q_wM14 i3 ?_
      refine q_RP_seg (g2 := (3, [(5, .int (v5 + 1)), (0, .ref 93), (1, .int v1), (2, .ref 78), (3, .int v3), (4, .int v4)], [], (q_kM (q_sA s 14 (upd (s.1 14) ((v3 + v5).toNatClampNeg) ((s.1 29) ((v1 + v5).toNatClampNeg)))) c n))) 2 (fun _ _ => rfl) ?_
      exact q_RP_xt (q_xt_mk (q_mn1 1 rfl (q_mn1 2 rfl (q_mn1 3 rfl (q_mn1 4 rfl (q_mn1 5 rfl (q_mn1 0 rfl q_mn0)))))) rfl) (hk3 (q_sA s 14 (upd (s.1 14) ((v3 + v5).toNatClampNeg) ((s.1 29) ((v1 + v5).toNatClampNeg)))) v1 v3 v4 (v5 + 1))
    | false =>
      refine q_RP_cF ?_
      refine q_RP_rsT (g2 := (28, [(0, .ref 93), (1, .int v1), (2, .ref 78), (3, .int v3), (4, .int v4), (5, .int v5)], [], (q_kM s c n))) rfl rfl (q_d_geF h1) ?_
      exact q_RP_ret rfl rfl rfl
def dz_M304_93_78 (s : q_S) (a1 : Int32) (a3 : Int32) (a4 : Int32) : Option (q_S) :=
  dz_M304_93_78_3 5000 s a1 a3 a4 0
set_option maxHeartbeats 4000000 in
theorem dzt_M304_93_78 (s : q_S) (c n : Nat) (a1 : Int32) (a3 : Int32) (a4 : Int32) (x : q_S) (h : dz_M304_93_78 s a1 a3 a4 = some x) : q_Ca q_TB0 1 303 [.ref 93, .int a1, .ref 78, .int a3, .int a4] (q_kM s c n) ((q_oSM c n) x) := by
  refine q_CaP_of (φ := (q_oSM c n)) (Nat.le_of_ble_eq_true rfl) ?_ h
  clear h
  unfold dz_M304_93_78
  refine q_RP_seg (g2 := (3, [(5, .int 0), (0, .ref 93), (1, .int a1), (2, .ref 78), (3, .int a3), (4, .int a4)], [], (q_kM s c n))) 2 (fun _ _ => rfl) ?_
  exact q_RP_xt (q_xt_mk (q_mn1 1 rfl (q_mn1 2 rfl (q_mn1 3 rfl (q_mn1 4 rfl (q_mn1 5 rfl (q_mn1 0 rfl q_mn0)))))) rfl) (dzt_M304_93_78_3 c n 5000 s a1 a3 a4 0)
def dz_M305_86_71_3 (m : Nat) : q_S → Int32 → Int32 → Int32 → Int32 → Option (q_S) := Nat.rec (motive := fun _ => q_S → Int32 → Int32 → Int32 → Int32 → Option (q_S)) (fun _ _ _ _ _ => none) (fun _ k3 s v1 v3 v4 v5 =>
  cond (decide (v5 < v4)) (cond (q_in (v1 + v5) 48) (cond (q_in (v3 + v5) 16) (k3 (q_sA s 7 (upd (s.1 7) ((v3 + v5).toNatClampNeg) (vp_nar .boolean ((s.1 22) ((v1 + v5).toNatClampNeg))))) v1 v3 v4 (v5 + 1)) none) none) (some s)) m
theorem dzs_M305_86_71_3 (m : Nat) (s : q_S) (v1 : Int32) (v3 : Int32) (v4 : Int32) (v5 : Int32) : dz_M305_86_71_3 (m + 1) s v1 v3 v4 v5 = (fun k3 : q_S → Int32 → Int32 → Int32 → Int32 → Option (q_S) =>
  cond (decide (v5 < v4)) (cond (q_in (v1 + v5) 48) (cond (q_in (v3 + v5) 16) (k3 (q_sA s 7 (upd (s.1 7) ((v3 + v5).toNatClampNeg) (vp_nar .boolean ((s.1 22) ((v1 + v5).toNatClampNeg))))) v1 v3 v4 (v5 + 1)) none) none) (some s)) (dz_M305_86_71_3 m) := rfl
set_option maxHeartbeats 4000000 in
theorem dzt_M305_86_71_3 (c n : Nat) : ∀ (m : Nat) (s : q_S) (v1 : Int32) (v3 : Int32) (v4 : Int32) (v5 : Int32), q_RP q_TB0 0 304 (3, [(0, .ref 86), (1, .int v1), (2, .ref 71), (3, .int v3), (4, .int v4), (5, .int v5)], [], (q_kM s c n)) (q_oSM c n) (dz_M305_86_71_3 m s v1 v3 v4 v5) := by
  intro m
  induction m with
  | zero => intro s v1 v3 v4 v5; exact q_RP_no
  | succ m ih =>
    intro s v1 v3 v4 v5
    have hk3 := ih
    clear ih
    rw [dzs_M305_86_71_3]
    generalize dz_M305_86_71_3 m = k3 at hk3 ⊢
    dsimp only
    refine q_RP_seg (g2 := (7, [(0, .ref 86), (1, .int v1), (2, .ref 71), (3, .int v3), (4, .int v4), (5, .int v5)], [.int v4, .int v5], (q_kM s c n))) 2 (fun _ _ => rfl) ?_
    cases h1 : decide (v5 < v4) with
    | true =>
      refine q_RP_cT ?_
      refine q_RP_rsF (g2 := (10, [(0, .ref 86), (1, .int v1), (2, .ref 71), (3, .int v3), (4, .int v4), (5, .int v5)], [], (q_kM s c n))) rfl rfl (q_d_geT h1) ?_
      refine q_RP_seg (g2 := (20, [(0, .ref 86), (1, .int v1), (2, .ref 71), (3, .int v3), (4, .int v4), (5, .int v5)], [.int (v1 + v5), .ref 86, .int (v3 + v5), .ref 71], (q_kM s c n))) 8 (fun _ _ => rfl) ?_
      refine q_RP_as fun i2 => ?_
      refine q_RP_rsT (g2 := (21, [(0, .ref 86), (1, .int v1), (2, .ref 71), (3, .int v3), (4, .int v4), (5, .int v5)], [.int ((s.1 22) ((v1 + v5).toNatClampNeg)), .int (v3 + v5), .ref 71], (q_kM s c n))) rfl rfl i2 ?_
      refine q_RP_as fun i3 => ?_
      refine q_RP_rsT (g2 := (22, [(0, .ref 86), (1, .int v1), (2, .ref 71), (3, .int v3), (4, .int v4), (5, .int v5)], [], (q_kM (q_sA s 7 (upd (s.1 7) ((v3 + v5).toNatClampNeg) (vp_nar .boolean ((s.1 22) ((v1 + v5).toNatClampNeg))))) c n))) rfl q_wM7 i3 ?_
      refine q_RP_seg (g2 := (3, [(5, .int (v5 + 1)), (0, .ref 86), (1, .int v1), (2, .ref 71), (3, .int v3), (4, .int v4)], [], (q_kM (q_sA s 7 (upd (s.1 7) ((v3 + v5).toNatClampNeg) (vp_nar .boolean ((s.1 22) ((v1 + v5).toNatClampNeg))))) c n))) 2 (fun _ _ => rfl) ?_
      exact q_RP_xt (q_xt_mk (q_mn1 1 rfl (q_mn1 2 rfl (q_mn1 3 rfl (q_mn1 4 rfl (q_mn1 5 rfl (q_mn1 0 rfl q_mn0)))))) rfl) (hk3 (q_sA s 7 (upd (s.1 7) ((v3 + v5).toNatClampNeg) (vp_nar .boolean ((s.1 22) ((v1 + v5).toNatClampNeg))))) v1 v3 v4 (v5 + 1))
    | false =>
      refine q_RP_cF ?_
      refine q_RP_rsT (g2 := (28, [(0, .ref 86), (1, .int v1), (2, .ref 71), (3, .int v3), (4, .int v4), (5, .int v5)], [], (q_kM s c n))) rfl rfl (q_d_geF h1) ?_
      exact q_RP_ret rfl rfl rfl
def dz_M305_86_71 (s : q_S) (a1 : Int32) (a3 : Int32) (a4 : Int32) : Option (q_S) :=
  dz_M305_86_71_3 5000 s a1 a3 a4 0
set_option maxHeartbeats 4000000 in
theorem dzt_M305_86_71 (s : q_S) (c n : Nat) (a1 : Int32) (a3 : Int32) (a4 : Int32) (x : q_S) (h : dz_M305_86_71 s a1 a3 a4 = some x) : q_Ca q_TB0 1 304 [.ref 86, .int a1, .ref 71, .int a3, .int a4] (q_kM s c n) ((q_oSM c n) x) := by
  refine q_CaP_of (φ := (q_oSM c n)) (Nat.le_of_ble_eq_true rfl) ?_ h
  clear h
  unfold dz_M305_86_71
  refine q_RP_seg (g2 := (3, [(5, .int 0), (0, .ref 86), (1, .int a1), (2, .ref 71), (3, .int a3), (4, .int a4)], [], (q_kM s c n))) 2 (fun _ _ => rfl) ?_
  exact q_RP_xt (q_xt_mk (q_mn1 1 rfl (q_mn1 2 rfl (q_mn1 3 rfl (q_mn1 4 rfl (q_mn1 5 rfl (q_mn1 0 rfl q_mn0)))))) rfl) (dzt_M305_86_71_3 c n 5000 s a1 a3 a4 0)
def dz_M305_94_79_3 (m : Nat) : q_S → Int32 → Int32 → Int32 → Int32 → Option (q_S) := Nat.rec (motive := fun _ => q_S → Int32 → Int32 → Int32 → Int32 → Option (q_S)) (fun _ _ _ _ _ => none) (fun _ k3 s v1 v3 v4 v5 =>
  cond (decide (v5 < v4)) (cond (q_in (v1 + v5) 24) (cond (q_in (v3 + v5) 8) (k3 (q_sA s 15 (upd (s.1 15) ((v3 + v5).toNatClampNeg) (vp_nar .boolean ((s.1 30) ((v1 + v5).toNatClampNeg))))) v1 v3 v4 (v5 + 1)) none) none) (some s)) m
theorem dzs_M305_94_79_3 (m : Nat) (s : q_S) (v1 : Int32) (v3 : Int32) (v4 : Int32) (v5 : Int32) : dz_M305_94_79_3 (m + 1) s v1 v3 v4 v5 = (fun k3 : q_S → Int32 → Int32 → Int32 → Int32 → Option (q_S) =>
  cond (decide (v5 < v4)) (cond (q_in (v1 + v5) 24) (cond (q_in (v3 + v5) 8) (k3 (q_sA s 15 (upd (s.1 15) ((v3 + v5).toNatClampNeg) (vp_nar .boolean ((s.1 30) ((v1 + v5).toNatClampNeg))))) v1 v3 v4 (v5 + 1)) none) none) (some s)) (dz_M305_94_79_3 m) := rfl
set_option maxHeartbeats 4000000 in
theorem dzt_M305_94_79_3 (c n : Nat) : ∀ (m : Nat) (s : q_S) (v1 : Int32) (v3 : Int32) (v4 : Int32) (v5 : Int32), q_RP q_TB0 0 304 (3, [(0, .ref 94), (1, .int v1), (2, .ref 79), (3, .int v3), (4, .int v4), (5, .int v5)], [], (q_kM s c n)) (q_oSM c n) (dz_M305_94_79_3 m s v1 v3 v4 v5) := by
  intro m
  induction m with
  | zero => intro s v1 v3 v4 v5; exact q_RP_no
  | succ m ih =>
    intro s v1 v3 v4 v5
    have hk3 := ih
    clear ih
    rw [dzs_M305_94_79_3]
    generalize dz_M305_94_79_3 m = k3 at hk3 ⊢
    dsimp only
    refine q_RP_seg (g2 := (7, [(0, .ref 94), (1, .int v1), (2, .ref 79), (3, .int v3), (4, .int v4), (5, .int v5)], [.int v4, .int v5], (q_kM s c n))) 2 (fun _ _ => rfl) ?_
    cases h1 : decide (v5 < v4) with
    | true =>
      refine q_RP_cT ?_
      refine q_RP_rsF (g2 := (10, [(0, .ref 94), (1, .int v1), (2, .ref 79), (3, .int v3), (4, .int v4), (5, .int v5)], [], (q_kM s c n))) rfl rfl (q_d_geT h1) ?_
      refine q_RP_seg (g2 := (20, [(0, .ref 94), (1, .int v1), (2, .ref 79), (3, .int v3), (4, .int v4), (5, .int v5)], [.int (v1 + v5), .ref 94, .int (v3 + v5), .ref 79], (q_kM s c n))) 8 (fun _ _ => rfl) ?_
      refine q_RP_as fun i2 => ?_
      refine q_RP_rsT (g2 := (21, [(0, .ref 94), (1, .int v1), (2, .ref 79), (3, .int v3), (4, .int v4), (5, .int v5)], [.int ((s.1 30) ((v1 + v5).toNatClampNeg)), .int (v3 + v5), .ref 79], (q_kM s c n))) rfl rfl i2 ?_
      refine q_RP_as fun i3 => ?_
      refine q_RP_rsT (g2 := (22, [(0, .ref 94), (1, .int v1), (2, .ref 79), (3, .int v3), (4, .int v4), (5, .int v5)], [], (q_kM (q_sA s 15 (upd (s.1 15) ((v3 + v5).toNatClampNeg) (vp_nar .boolean ((s.1 30) ((v1 + v5).toNatClampNeg))))) c n))) rfl q_wM15 i3 ?_
      refine q_RP_seg (g2 := (3, [(5, .int (v5 + 1)), (0, .ref 94), (1, .int v1), (2, .ref 79), (3, .int v3), (4, .int v4)], [], (q_kM (q_sA s 15 (upd (s.1 15) ((v3 + v5).toNatClampNeg) (vp_nar .boolean ((s.1 30) ((v1 + v5).toNatClampNeg))))) c n))) 2 (fun _ _ => rfl) ?_
      exact q_RP_xt (q_xt_mk (q_mn1 1 rfl (q_mn1 2 rfl (q_mn1 3 rfl (q_mn1 4 rfl (q_mn1 5 rfl (q_mn1 0 rfl q_mn0)))))) rfl) (hk3 (q_sA s 15 (upd (s.1 15) ((v3 + v5).toNatClampNeg) (vp_nar .boolean ((s.1 30) ((v1 + v5).toNatClampNeg))))) v1 v3 v4 (v5 + 1))
    | false =>
      refine q_RP_cF ?_
      refine q_RP_rsT (g2 := (28, [(0, .ref 94), (1, .int v1), (2, .ref 79), (3, .int v3), (4, .int v4), (5, .int v5)], [], (q_kM s c n))) rfl rfl (q_d_geF h1) ?_
      exact q_RP_ret rfl rfl rfl
def dz_M305_94_79 (s : q_S) (a1 : Int32) (a3 : Int32) (a4 : Int32) : Option (q_S) :=
  dz_M305_94_79_3 5000 s a1 a3 a4 0
set_option maxHeartbeats 4000000 in
theorem dzt_M305_94_79 (s : q_S) (c n : Nat) (a1 : Int32) (a3 : Int32) (a4 : Int32) (x : q_S) (h : dz_M305_94_79 s a1 a3 a4 = some x) : q_Ca q_TB0 1 304 [.ref 94, .int a1, .ref 79, .int a3, .int a4] (q_kM s c n) ((q_oSM c n) x) := by
  refine q_CaP_of (φ := (q_oSM c n)) (Nat.le_of_ble_eq_true rfl) ?_ h
  clear h
  unfold dz_M305_94_79
  refine q_RP_seg (g2 := (3, [(5, .int 0), (0, .ref 94), (1, .int a1), (2, .ref 79), (3, .int a3), (4, .int a4)], [], (q_kM s c n))) 2 (fun _ _ => rfl) ?_
  exact q_RP_xt (q_xt_mk (q_mn1 1 rfl (q_mn1 2 rfl (q_mn1 3 rfl (q_mn1 4 rfl (q_mn1 5 rfl (q_mn1 0 rfl q_mn0)))))) rfl) (dzt_M305_94_79_3 c n 5000 s a1 a3 a4 0)
def dz_M308_64 (s : q_S) (a1 : Int32) : Option (q_S × Int32) :=
  q_let (dz_M202 s a1 0 ((s.2.1 0 17) - 1)) fun r4 => cond r4 (q_let (dz_M200_64 s 0) fun r5 => cond r5.2 (some (r5.1, 0)) ((dz_M307_64 r5.1 a1).bind fun r6 => (dz_M304_80_65 r5.1 (4096 * a1) 0 4096).bind fun r7 => (dz_M304_81_66 r7 (512 * a1) 0 512).bind fun r8 => (dz_M304_82_67 r8 (2048 * a1) 0 2048).bind fun r9 => (dz_M304_83_68 r9 (48 * a1) 0 48).bind fun r10 => (dz_M304_84_69 r10 (1024 * a1) 0 1024).bind fun r11 => (dz_M304_85_70 r11 (40 * a1) 0 40).bind fun r12 => (dz_M304_87_72 r12 (40 * a1) 0 40).bind fun r13 => (dz_M304_88_73 r13 (16 * a1) 0 16).bind fun r14 => (dz_M304_89_74 r14 (3 * a1) 0 3).bind fun r15 => (dz_M304_90_75 r15 (3 * a1) 0 3).bind fun r16 => (dz_M304_91_76 r16 (3 * a1) 0 3).bind fun r17 => (dz_M304_92_77 r17 (3 * a1) 0 3).bind fun r18 => (dz_M304_93_78 r18 (24 * a1) 0 24).bind fun r19 => (dz_M305_86_71 r19 (16 * a1) 0 16).bind fun r20 => (dz_M305_94_79 r20 (8 * a1) 0 8).bind fun r21 => cond (q_in (2 * a1) 6) (cond (q_in ((2 * a1) + 1) 6) (some ((q_sI (q_sJ (q_sJ r21 0 15 ((r21.2.2 31) ((2 * a1).toNatClampNeg))) 0 16 ((r21.2.2 31) (((2 * a1) + 1).toNatClampNeg))) 0 34 (-1)), r6)) none) none)) (q_let (dz_M200_64 s 1) fun r22 => cond r22.2 (some (r22.1, 0)) ((dz_M307_64 r22.1 a1).bind fun r23 => (dz_M304_80_65 r22.1 (4096 * a1) 0 4096).bind fun r24 => (dz_M304_81_66 r24 (512 * a1) 0 512).bind fun r25 => (dz_M304_82_67 r25 (2048 * a1) 0 2048).bind fun r26 => (dz_M304_83_68 r26 (48 * a1) 0 48).bind fun r27 => (dz_M304_84_69 r27 (1024 * a1) 0 1024).bind fun r28 => (dz_M304_85_70 r28 (40 * a1) 0 40).bind fun r29 => (dz_M304_87_72 r29 (40 * a1) 0 40).bind fun r30 => (dz_M304_88_73 r30 (16 * a1) 0 16).bind fun r31 => (dz_M304_89_74 r31 (3 * a1) 0 3).bind fun r32 => (dz_M304_90_75 r32 (3 * a1) 0 3).bind fun r33 => (dz_M304_91_76 r33 (3 * a1) 0 3).bind fun r34 => (dz_M304_92_77 r34 (3 * a1) 0 3).bind fun r35 => (dz_M304_93_78 r35 (24 * a1) 0 24).bind fun r36 => (dz_M305_86_71 r36 (16 * a1) 0 16).bind fun r37 => (dz_M305_94_79 r37 (8 * a1) 0 8).bind fun r38 => cond (q_in (2 * a1) 6) (cond (q_in ((2 * a1) + 1) 6) (some ((q_sI (q_sJ (q_sJ r38 0 15 ((r38.2.2 31) ((2 * a1).toNatClampNeg))) 0 16 ((r38.2.2 31) (((2 * a1) + 1).toNatClampNeg))) 0 34 (-1)), r23)) none) none))
set_option maxHeartbeats 4000000 in
theorem dzt_M308_64 (s : q_S) (c n : Nat) (a1 : Int32) (x : q_S × Int32) (h : dz_M308_64 s a1 = some x) : q_Ca q_TB0 2 307 [.ref 64, .int a1] (q_kM s c n) ((q_oIM c n) x) := by
  refine q_CaP_of (φ := (q_oIM c n)) (Nat.le_of_ble_eq_true rfl) ?_ h
  clear h
  unfold dz_M308_64
  refine q_RP_seg (g2 := (7, [(0, .ref 64), (1, .int a1)], [.int (s.2.1 0 17), .int 0, .int a1, .ref 64], (q_kM s c n))) 5 (fun _ _ => rfl) ?_
  refine q_RP_seg (g2 := (9, [(0, .ref 64), (1, .int a1)], [.int ((s.2.1 0 17) - 1), .int 0, .int a1, .ref 64], (q_kM s c n))) 2 (fun _ _ => rfl) ?_
  refine q_RP_call (v := (some (.int (q_b (dz_M202 s a1 0 ((s.2.1 0 17) - 1)))))) (h2 := (q_kM s c n)) rfl rfl ((dzt_M202 s c n a1 0 ((s.2.1 0 17) - 1)).le (Nat.le_of_ble_eq_true rfl)) ?_
  generalize dz_M202 s a1 0 ((s.2.1 0 17) - 1) = r4
  refine q_RP_let ?_
  show q_RP _ _ _ (12, [(0, .ref 64), (1, .int a1)], [.int (q_b r4), .ref 64], (q_kM s c n)) _ _
  cases h3 : r4 with
  | true =>
    refine q_RP_cT ?_
    show q_RP _ _ _ (12, [(0, .ref 64), (1, .int a1)], [.int 1, .ref 64], (q_kM s c n)) _ _
    refine q_RP_seg (g2 := (20, [(0, .ref 64), (1, .int a1)], [.int 0, .ref 64], (q_kM s c n))) 3 (fun _ _ => rfl) ?_
    refine q_RP_call (v := (some (.int (q_b (dz_M200_64 s 0).2)))) (h2 := (q_kM (dz_M200_64 s 0).1 c n)) rfl rfl ((dzt_M200_64 s c n 0).le (Nat.le_of_ble_eq_true rfl)) ?_
    generalize dz_M200_64 s 0 = r5
    refine q_RP_let ?_
    show q_RP _ _ _ (23, [(0, .ref 64), (1, .int a1)], [.int (q_b r5.2)], (q_kM r5.1 c n)) _ _
    cases h4 : r5.2 with
    | true =>
      refine q_RP_cT ?_
      show q_RP _ _ _ (23, [(0, .ref 64), (1, .int a1)], [.int 1], (q_kM r5.1 c n)) _ _
      refine q_RP_seg (g2 := (27, [(0, .ref 64), (1, .int a1)], [.int 0], (q_kM r5.1 c n))) 2 (fun _ _ => rfl) ?_
      exact q_RP_ret rfl rfl rfl
    | false =>
      refine q_RP_cF ?_
      show q_RP _ _ _ (23, [(0, .ref 64), (1, .int a1)], [.int 0], (q_kM r5.1 c n)) _ _
      refine q_RP_seg (g2 := (32, [(2, .int a1), (0, .ref 64), (1, .int a1)], [.int a1, .ref 64], (q_kM r5.1 c n))) 5 (fun _ _ => rfl) ?_
      refine q_RP_bd fun r6 er6 => ?_
      refine q_RP_call (v := (some (.int r6))) (h2 := (q_kM r5.1 c n)) rfl rfl ((dzt_M307_64 r5.1 c n a1 r6 er6).le (Nat.le_of_ble_eq_true rfl)) ?_
      show q_RP _ _ _ (35, [(2, .int a1), (0, .ref 64), (1, .int a1)], [.int r6], (q_kM r5.1 c n)) _ _
      refine q_RP_seg (g2 := (53, [(3, .int r6), (2, .int a1), (0, .ref 64), (1, .int a1)], [.int 4096, .int 0, .ref 65, .int (4096 * a1), .ref 80], (q_kM r5.1 c n))) 10 (fun _ _ => rfl) ?_
      refine q_RP_bd fun r7 er7 => ?_
      refine q_RP_call (v := none) (h2 := (q_kM r7 c n)) rfl rfl ((dzt_M304_80_65 r5.1 c n (4096 * a1) 0 4096 r7 er7).le (Nat.le_of_ble_eq_true rfl)) ?_
      show q_RP _ _ _ (56, [(3, .int r6), (2, .int a1), (0, .ref 64), (1, .int a1)], [], (q_kM r7 c n)) _ _
      refine q_RP_seg (g2 := (73, [(3, .int r6), (2, .int a1), (0, .ref 64), (1, .int a1)], [.int 512, .int 0, .ref 66, .int (512 * a1), .ref 81], (q_kM r7 c n))) 9 (fun _ _ => rfl) ?_
      refine q_RP_bd fun r8 er8 => ?_
      refine q_RP_call (v := none) (h2 := (q_kM r8 c n)) rfl rfl ((dzt_M304_81_66 r7 c n (512 * a1) 0 512 r8 er8).le (Nat.le_of_ble_eq_true rfl)) ?_
      show q_RP _ _ _ (76, [(3, .int r6), (2, .int a1), (0, .ref 64), (1, .int a1)], [], (q_kM r8 c n)) _ _
      refine q_RP_seg (g2 := (93, [(3, .int r6), (2, .int a1), (0, .ref 64), (1, .int a1)], [.int 2048, .int 0, .ref 67, .int (2048 * a1), .ref 82], (q_kM r8 c n))) 9 (fun _ _ => rfl) ?_
      refine q_RP_bd fun r9 er9 => ?_
      refine q_RP_call (v := none) (h2 := (q_kM r9 c n)) rfl rfl ((dzt_M304_82_67 r8 c n (2048 * a1) 0 2048 r9 er9).le (Nat.le_of_ble_eq_true rfl)) ?_
      show q_RP _ _ _ (96, [(3, .int r6), (2, .int a1), (0, .ref 64), (1, .int a1)], [], (q_kM r9 c n)) _ _
      refine q_RP_seg (g2 := (111, [(3, .int r6), (2, .int a1), (0, .ref 64), (1, .int a1)], [.int 48, .int 0, .ref 68, .int (48 * a1), .ref 83], (q_kM r9 c n))) 9 (fun _ _ => rfl) ?_
      refine q_RP_bd fun r10 er10 => ?_
      refine q_RP_call (v := none) (h2 := (q_kM r10 c n)) rfl rfl ((dzt_M304_83_68 r9 c n (48 * a1) 0 48 r10 er10).le (Nat.le_of_ble_eq_true rfl)) ?_
      show q_RP _ _ _ (114, [(3, .int r6), (2, .int a1), (0, .ref 64), (1, .int a1)], [], (q_kM r10 c n)) _ _
      refine q_RP_seg (g2 := (131, [(3, .int r6), (2, .int a1), (0, .ref 64), (1, .int a1)], [.int 1024, .int 0, .ref 69, .int (1024 * a1), .ref 84], (q_kM r10 c n))) 9 (fun _ _ => rfl) ?_
      refine q_RP_bd fun r11 er11 => ?_
      refine q_RP_call (v := none) (h2 := (q_kM r11 c n)) rfl rfl ((dzt_M304_84_69 r10 c n (1024 * a1) 0 1024 r11 er11).le (Nat.le_of_ble_eq_true rfl)) ?_
      show q_RP _ _ _ (134, [(3, .int r6), (2, .int a1), (0, .ref 64), (1, .int a1)], [], (q_kM r11 c n)) _ _
      refine q_RP_seg (g2 := (149, [(3, .int r6), (2, .int a1), (0, .ref 64), (1, .int a1)], [.int 40, .int 0, .ref 70, .int (40 * a1), .ref 85], (q_kM r11 c n))) 9 (fun _ _ => rfl) ?_
      refine q_RP_bd fun r12 er12 => ?_
      refine q_RP_call (v := none) (h2 := (q_kM r12 c n)) rfl rfl ((dzt_M304_85_70 r11 c n (40 * a1) 0 40 r12 er12).le (Nat.le_of_ble_eq_true rfl)) ?_
      show q_RP _ _ _ (152, [(3, .int r6), (2, .int a1), (0, .ref 64), (1, .int a1)], [], (q_kM r12 c n)) _ _
      refine q_RP_seg (g2 := (167, [(3, .int r6), (2, .int a1), (0, .ref 64), (1, .int a1)], [.int 40, .int 0, .ref 72, .int (40 * a1), .ref 87], (q_kM r12 c n))) 9 (fun _ _ => rfl) ?_
      refine q_RP_bd fun r13 er13 => ?_
      refine q_RP_call (v := none) (h2 := (q_kM r13 c n)) rfl rfl ((dzt_M304_87_72 r12 c n (40 * a1) 0 40 r13 er13).le (Nat.le_of_ble_eq_true rfl)) ?_
      show q_RP _ _ _ (170, [(3, .int r6), (2, .int a1), (0, .ref 64), (1, .int a1)], [], (q_kM r13 c n)) _ _
      refine q_RP_seg (g2 := (185, [(3, .int r6), (2, .int a1), (0, .ref 64), (1, .int a1)], [.int 16, .int 0, .ref 73, .int (16 * a1), .ref 88], (q_kM r13 c n))) 9 (fun _ _ => rfl) ?_
      refine q_RP_bd fun r14 er14 => ?_
      refine q_RP_call (v := none) (h2 := (q_kM r14 c n)) rfl rfl ((dzt_M304_88_73 r13 c n (16 * a1) 0 16 r14 er14).le (Nat.le_of_ble_eq_true rfl)) ?_
      show q_RP _ _ _ (188, [(3, .int r6), (2, .int a1), (0, .ref 64), (1, .int a1)], [], (q_kM r14 c n)) _ _
      refine q_RP_seg (g2 := (201, [(3, .int r6), (2, .int a1), (0, .ref 64), (1, .int a1)], [.int 3, .int 0, .ref 74, .int (3 * a1), .ref 89], (q_kM r14 c n))) 9 (fun _ _ => rfl) ?_
      refine q_RP_bd fun r15 er15 => ?_
      refine q_RP_call (v := none) (h2 := (q_kM r15 c n)) rfl rfl ((dzt_M304_89_74 r14 c n (3 * a1) 0 3 r15 er15).le (Nat.le_of_ble_eq_true rfl)) ?_
      show q_RP _ _ _ (204, [(3, .int r6), (2, .int a1), (0, .ref 64), (1, .int a1)], [], (q_kM r15 c n)) _ _
      refine q_RP_seg (g2 := (217, [(3, .int r6), (2, .int a1), (0, .ref 64), (1, .int a1)], [.int 3, .int 0, .ref 75, .int (3 * a1), .ref 90], (q_kM r15 c n))) 9 (fun _ _ => rfl) ?_
      refine q_RP_bd fun r16 er16 => ?_
      refine q_RP_call (v := none) (h2 := (q_kM r16 c n)) rfl rfl ((dzt_M304_90_75 r15 c n (3 * a1) 0 3 r16 er16).le (Nat.le_of_ble_eq_true rfl)) ?_
      show q_RP _ _ _ (220, [(3, .int r6), (2, .int a1), (0, .ref 64), (1, .int a1)], [], (q_kM r16 c n)) _ _
      refine q_RP_seg (g2 := (233, [(3, .int r6), (2, .int a1), (0, .ref 64), (1, .int a1)], [.int 3, .int 0, .ref 76, .int (3 * a1), .ref 91], (q_kM r16 c n))) 9 (fun _ _ => rfl) ?_
      refine q_RP_bd fun r17 er17 => ?_
      refine q_RP_call (v := none) (h2 := (q_kM r17 c n)) rfl rfl ((dzt_M304_91_76 r16 c n (3 * a1) 0 3 r17 er17).le (Nat.le_of_ble_eq_true rfl)) ?_
      show q_RP _ _ _ (236, [(3, .int r6), (2, .int a1), (0, .ref 64), (1, .int a1)], [], (q_kM r17 c n)) _ _
      refine q_RP_seg (g2 := (249, [(3, .int r6), (2, .int a1), (0, .ref 64), (1, .int a1)], [.int 3, .int 0, .ref 77, .int (3 * a1), .ref 92], (q_kM r17 c n))) 9 (fun _ _ => rfl) ?_
      refine q_RP_bd fun r18 er18 => ?_
      refine q_RP_call (v := none) (h2 := (q_kM r18 c n)) rfl rfl ((dzt_M304_92_77 r17 c n (3 * a1) 0 3 r18 er18).le (Nat.le_of_ble_eq_true rfl)) ?_
      show q_RP _ _ _ (252, [(3, .int r6), (2, .int a1), (0, .ref 64), (1, .int a1)], [], (q_kM r18 c n)) _ _
      refine q_RP_seg (g2 := (267, [(3, .int r6), (2, .int a1), (0, .ref 64), (1, .int a1)], [.int 24, .int 0, .ref 78, .int (24 * a1), .ref 93], (q_kM r18 c n))) 9 (fun _ _ => rfl) ?_
      refine q_RP_bd fun r19 er19 => ?_
      refine q_RP_call (v := none) (h2 := (q_kM r19 c n)) rfl rfl ((dzt_M304_93_78 r18 c n (24 * a1) 0 24 r19 er19).le (Nat.le_of_ble_eq_true rfl)) ?_
      show q_RP _ _ _ (270, [(3, .int r6), (2, .int a1), (0, .ref 64), (1, .int a1)], [], (q_kM r19 c n)) _ _
      refine q_RP_seg (g2 := (285, [(3, .int r6), (2, .int a1), (0, .ref 64), (1, .int a1)], [.int 16, .int 0, .ref 71, .int (16 * a1), .ref 86], (q_kM r19 c n))) 9 (fun _ _ => rfl) ?_
      refine q_RP_bd fun r20 er20 => ?_
      refine q_RP_call (v := none) (h2 := (q_kM r20 c n)) rfl rfl ((dzt_M305_86_71 r19 c n (16 * a1) 0 16 r20 er20).le (Nat.le_of_ble_eq_true rfl)) ?_
      show q_RP _ _ _ (288, [(3, .int r6), (2, .int a1), (0, .ref 64), (1, .int a1)], [], (q_kM r20 c n)) _ _
      refine q_RP_seg (g2 := (303, [(3, .int r6), (2, .int a1), (0, .ref 64), (1, .int a1)], [.int 8, .int 0, .ref 79, .int (8 * a1), .ref 94], (q_kM r20 c n))) 9 (fun _ _ => rfl) ?_
      refine q_RP_bd fun r21 er21 => ?_
      refine q_RP_call (v := none) (h2 := (q_kM r21 c n)) rfl rfl ((dzt_M305_94_79 r20 c n (8 * a1) 0 8 r21 er21).le (Nat.le_of_ble_eq_true rfl)) ?_
      show q_RP _ _ _ (306, [(3, .int r6), (2, .int a1), (0, .ref 64), (1, .int a1)], [], (q_kM r21 c n)) _ _
      refine q_RP_seg (g2 := (314, [(3, .int r6), (2, .int a1), (0, .ref 64), (1, .int a1)], [.int (2 * a1), .ref 95, .ref 64], (q_kM r21 c n))) 6 (fun _ _ => rfl) ?_
      refine q_RP_as fun i5 => ?_
      refine q_RP_rsT (g2 := (315, [(3, .int r6), (2, .int a1), (0, .ref 64), (1, .int a1)], [.long ((r21.2.2 31) ((2 * a1).toNatClampNeg)), .ref 64], (q_kM r21 c n))) rfl rfl i5 ?_
      refine q_RP_st1 (g2 := (318, [(3, .int r6), (2, .int a1), (0, .ref 64), (1, .int a1)], [], (q_kM (q_sJ r21 0 15 ((r21.2.2 31) ((2 * a1).toNatClampNeg))) c n))) rfl q_pM0_15 ?_
      refine q_RP_seg (g2 := (328, [(3, .int r6), (2, .int a1), (0, .ref 64), (1, .int a1)], [.int ((2 * a1) + 1), .ref 95, .ref 64], (q_kM (q_sJ r21 0 15 ((r21.2.2 31) ((2 * a1).toNatClampNeg))) c n))) 8 (fun _ _ => rfl) ?_
      refine q_RP_as fun i6 => ?_
      refine q_RP_rsT (g2 := (329, [(3, .int r6), (2, .int a1), (0, .ref 64), (1, .int a1)], [.long ((r21.2.2 31) (((2 * a1) + 1).toNatClampNeg)), .ref 64], (q_kM (q_sJ r21 0 15 ((r21.2.2 31) ((2 * a1).toNatClampNeg))) c n))) rfl rfl i6 ?_
      refine q_RP_st1 (g2 := (332, [(3, .int r6), (2, .int a1), (0, .ref 64), (1, .int a1)], [], (q_kM (q_sJ (q_sJ r21 0 15 ((r21.2.2 31) ((2 * a1).toNatClampNeg))) 0 16 ((r21.2.2 31) (((2 * a1) + 1).toNatClampNeg))) c n))) rfl q_pM0_16 ?_
      refine q_RP_seg (g2 := (334, [(3, .int r6), (2, .int a1), (0, .ref 64), (1, .int a1)], [.int (-1), .ref 64], (q_kM (q_sJ (q_sJ r21 0 15 ((r21.2.2 31) ((2 * a1).toNatClampNeg))) 0 16 ((r21.2.2 31) (((2 * a1) + 1).toNatClampNeg))) c n))) 2 (fun _ _ => rfl) ?_
      refine q_RP_st1 (g2 := (337, [(3, .int r6), (2, .int a1), (0, .ref 64), (1, .int a1)], [], (q_kM (q_sI (q_sJ (q_sJ r21 0 15 ((r21.2.2 31) ((2 * a1).toNatClampNeg))) 0 16 ((r21.2.2 31) (((2 * a1) + 1).toNatClampNeg))) 0 34 (-1)) c n))) rfl q_pM0_34 ?_
      refine q_RP_seg (g2 := (338, [(3, .int r6), (2, .int a1), (0, .ref 64), (1, .int a1)], [.int r6], (q_kM (q_sI (q_sJ (q_sJ r21 0 15 ((r21.2.2 31) ((2 * a1).toNatClampNeg))) 0 16 ((r21.2.2 31) (((2 * a1) + 1).toNatClampNeg))) 0 34 (-1)) c n))) 1 (fun _ _ => rfl) ?_
      exact q_RP_ret rfl rfl rfl
  | false =>
    refine q_RP_cF ?_
    show q_RP _ _ _ (12, [(0, .ref 64), (1, .int a1)], [.int 0, .ref 64], (q_kM s c n)) _ _
    refine q_RP_seg (g2 := (20, [(0, .ref 64), (1, .int a1)], [.int 1, .ref 64], (q_kM s c n))) 2 (fun _ _ => rfl) ?_
    refine q_RP_call (v := (some (.int (q_b (dz_M200_64 s 1).2)))) (h2 := (q_kM (dz_M200_64 s 1).1 c n)) rfl rfl ((dzt_M200_64 s c n 1).le (Nat.le_of_ble_eq_true rfl)) ?_
    generalize dz_M200_64 s 1 = r22
    refine q_RP_let ?_
    show q_RP _ _ _ (23, [(0, .ref 64), (1, .int a1)], [.int (q_b r22.2)], (q_kM r22.1 c n)) _ _
    cases h7 : r22.2 with
    | true =>
      refine q_RP_cT ?_
      show q_RP _ _ _ (23, [(0, .ref 64), (1, .int a1)], [.int 1], (q_kM r22.1 c n)) _ _
      refine q_RP_seg (g2 := (27, [(0, .ref 64), (1, .int a1)], [.int 0], (q_kM r22.1 c n))) 2 (fun _ _ => rfl) ?_
      exact q_RP_ret rfl rfl rfl
    | false =>
      refine q_RP_cF ?_
      show q_RP _ _ _ (23, [(0, .ref 64), (1, .int a1)], [.int 0], (q_kM r22.1 c n)) _ _
      refine q_RP_seg (g2 := (32, [(2, .int a1), (0, .ref 64), (1, .int a1)], [.int a1, .ref 64], (q_kM r22.1 c n))) 5 (fun _ _ => rfl) ?_
      refine q_RP_bd fun r23 er23 => ?_
      refine q_RP_call (v := (some (.int r23))) (h2 := (q_kM r22.1 c n)) rfl rfl ((dzt_M307_64 r22.1 c n a1 r23 er23).le (Nat.le_of_ble_eq_true rfl)) ?_
      show q_RP _ _ _ (35, [(2, .int a1), (0, .ref 64), (1, .int a1)], [.int r23], (q_kM r22.1 c n)) _ _
      refine q_RP_seg (g2 := (53, [(3, .int r23), (2, .int a1), (0, .ref 64), (1, .int a1)], [.int 4096, .int 0, .ref 65, .int (4096 * a1), .ref 80], (q_kM r22.1 c n))) 10 (fun _ _ => rfl) ?_
      refine q_RP_bd fun r24 er24 => ?_
      refine q_RP_call (v := none) (h2 := (q_kM r24 c n)) rfl rfl ((dzt_M304_80_65 r22.1 c n (4096 * a1) 0 4096 r24 er24).le (Nat.le_of_ble_eq_true rfl)) ?_
      show q_RP _ _ _ (56, [(3, .int r23), (2, .int a1), (0, .ref 64), (1, .int a1)], [], (q_kM r24 c n)) _ _
      refine q_RP_seg (g2 := (73, [(3, .int r23), (2, .int a1), (0, .ref 64), (1, .int a1)], [.int 512, .int 0, .ref 66, .int (512 * a1), .ref 81], (q_kM r24 c n))) 9 (fun _ _ => rfl) ?_
      refine q_RP_bd fun r25 er25 => ?_
      refine q_RP_call (v := none) (h2 := (q_kM r25 c n)) rfl rfl ((dzt_M304_81_66 r24 c n (512 * a1) 0 512 r25 er25).le (Nat.le_of_ble_eq_true rfl)) ?_
      show q_RP _ _ _ (76, [(3, .int r23), (2, .int a1), (0, .ref 64), (1, .int a1)], [], (q_kM r25 c n)) _ _
      refine q_RP_seg (g2 := (93, [(3, .int r23), (2, .int a1), (0, .ref 64), (1, .int a1)], [.int 2048, .int 0, .ref 67, .int (2048 * a1), .ref 82], (q_kM r25 c n))) 9 (fun _ _ => rfl) ?_
      refine q_RP_bd fun r26 er26 => ?_
      refine q_RP_call (v := none) (h2 := (q_kM r26 c n)) rfl rfl ((dzt_M304_82_67 r25 c n (2048 * a1) 0 2048 r26 er26).le (Nat.le_of_ble_eq_true rfl)) ?_
      show q_RP _ _ _ (96, [(3, .int r23), (2, .int a1), (0, .ref 64), (1, .int a1)], [], (q_kM r26 c n)) _ _
      refine q_RP_seg (g2 := (111, [(3, .int r23), (2, .int a1), (0, .ref 64), (1, .int a1)], [.int 48, .int 0, .ref 68, .int (48 * a1), .ref 83], (q_kM r26 c n))) 9 (fun _ _ => rfl) ?_
      refine q_RP_bd fun r27 er27 => ?_
      refine q_RP_call (v := none) (h2 := (q_kM r27 c n)) rfl rfl ((dzt_M304_83_68 r26 c n (48 * a1) 0 48 r27 er27).le (Nat.le_of_ble_eq_true rfl)) ?_
      show q_RP _ _ _ (114, [(3, .int r23), (2, .int a1), (0, .ref 64), (1, .int a1)], [], (q_kM r27 c n)) _ _
      refine q_RP_seg (g2 := (131, [(3, .int r23), (2, .int a1), (0, .ref 64), (1, .int a1)], [.int 1024, .int 0, .ref 69, .int (1024 * a1), .ref 84], (q_kM r27 c n))) 9 (fun _ _ => rfl) ?_
      refine q_RP_bd fun r28 er28 => ?_
      refine q_RP_call (v := none) (h2 := (q_kM r28 c n)) rfl rfl ((dzt_M304_84_69 r27 c n (1024 * a1) 0 1024 r28 er28).le (Nat.le_of_ble_eq_true rfl)) ?_
      show q_RP _ _ _ (134, [(3, .int r23), (2, .int a1), (0, .ref 64), (1, .int a1)], [], (q_kM r28 c n)) _ _
      refine q_RP_seg (g2 := (149, [(3, .int r23), (2, .int a1), (0, .ref 64), (1, .int a1)], [.int 40, .int 0, .ref 70, .int (40 * a1), .ref 85], (q_kM r28 c n))) 9 (fun _ _ => rfl) ?_
      refine q_RP_bd fun r29 er29 => ?_
      refine q_RP_call (v := none) (h2 := (q_kM r29 c n)) rfl rfl ((dzt_M304_85_70 r28 c n (40 * a1) 0 40 r29 er29).le (Nat.le_of_ble_eq_true rfl)) ?_
      show q_RP _ _ _ (152, [(3, .int r23), (2, .int a1), (0, .ref 64), (1, .int a1)], [], (q_kM r29 c n)) _ _
      refine q_RP_seg (g2 := (167, [(3, .int r23), (2, .int a1), (0, .ref 64), (1, .int a1)], [.int 40, .int 0, .ref 72, .int (40 * a1), .ref 87], (q_kM r29 c n))) 9 (fun _ _ => rfl) ?_
      refine q_RP_bd fun r30 er30 => ?_
      refine q_RP_call (v := none) (h2 := (q_kM r30 c n)) rfl rfl ((dzt_M304_87_72 r29 c n (40 * a1) 0 40 r30 er30).le (Nat.le_of_ble_eq_true rfl)) ?_
      show q_RP _ _ _ (170, [(3, .int r23), (2, .int a1), (0, .ref 64), (1, .int a1)], [], (q_kM r30 c n)) _ _
      refine q_RP_seg (g2 := (185, [(3, .int r23), (2, .int a1), (0, .ref 64), (1, .int a1)], [.int 16, .int 0, .ref 73, .int (16 * a1), .ref 88], (q_kM r30 c n))) 9 (fun _ _ => rfl) ?_
      refine q_RP_bd fun r31 er31 => ?_
      refine q_RP_call (v := none) (h2 := (q_kM r31 c n)) rfl rfl ((dzt_M304_88_73 r30 c n (16 * a1) 0 16 r31 er31).le (Nat.le_of_ble_eq_true rfl)) ?_
      show q_RP _ _ _ (188, [(3, .int r23), (2, .int a1), (0, .ref 64), (1, .int a1)], [], (q_kM r31 c n)) _ _
      refine q_RP_seg (g2 := (201, [(3, .int r23), (2, .int a1), (0, .ref 64), (1, .int a1)], [.int 3, .int 0, .ref 74, .int (3 * a1), .ref 89], (q_kM r31 c n))) 9 (fun _ _ => rfl) ?_
      refine q_RP_bd fun r32 er32 => ?_
      refine q_RP_call (v := none) (h2 := (q_kM r32 c n)) rfl rfl ((dzt_M304_89_74 r31 c n (3 * a1) 0 3 r32 er32).le (Nat.le_of_ble_eq_true rfl)) ?_
      show q_RP _ _ _ (204, [(3, .int r23), (2, .int a1), (0, .ref 64), (1, .int a1)], [], (q_kM r32 c n)) _ _
      refine q_RP_seg (g2 := (217, [(3, .int r23), (2, .int a1), (0, .ref 64), (1, .int a1)], [.int 3, .int 0, .ref 75, .int (3 * a1), .ref 90], (q_kM r32 c n))) 9 (fun _ _ => rfl) ?_
      refine q_RP_bd fun r33 er33 => ?_
      refine q_RP_call (v := none) (h2 := (q_kM r33 c n)) rfl rfl ((dzt_M304_90_75 r32 c n (3 * a1) 0 3 r33 er33).le (Nat.le_of_ble_eq_true rfl)) ?_
      show q_RP _ _ _ (220, [(3, .int r23), (2, .int a1), (0, .ref 64), (1, .int a1)], [], (q_kM r33 c n)) _ _
      refine q_RP_seg (g2 := (233, [(3, .int r23), (2, .int a1), (0, .ref 64), (1, .int a1)], [.int 3, .int 0, .ref 76, .int (3 * a1), .ref 91], (q_kM r33 c n))) 9 (fun _ _ => rfl) ?_
      refine q_RP_bd fun r34 er34 => ?_
      refine q_RP_call (v := none) (h2 := (q_kM r34 c n)) rfl rfl ((dzt_M304_91_76 r33 c n (3 * a1) 0 3 r34 er34).le (Nat.le_of_ble_eq_true rfl)) ?_
      show q_RP _ _ _ (236, [(3, .int r23), (2, .int a1), (0, .ref 64), (1, .int a1)], [], (q_kM r34 c n)) _ _
      refine q_RP_seg (g2 := (249, [(3, .int r23), (2, .int a1), (0, .ref 64), (1, .int a1)], [.int 3, .int 0, .ref 77, .int (3 * a1), .ref 92], (q_kM r34 c n))) 9 (fun _ _ => rfl) ?_
      refine q_RP_bd fun r35 er35 => ?_
      refine q_RP_call (v := none) (h2 := (q_kM r35 c n)) rfl rfl ((dzt_M304_92_77 r34 c n (3 * a1) 0 3 r35 er35).le (Nat.le_of_ble_eq_true rfl)) ?_
      show q_RP _ _ _ (252, [(3, .int r23), (2, .int a1), (0, .ref 64), (1, .int a1)], [], (q_kM r35 c n)) _ _
      refine q_RP_seg (g2 := (267, [(3, .int r23), (2, .int a1), (0, .ref 64), (1, .int a1)], [.int 24, .int 0, .ref 78, .int (24 * a1), .ref 93], (q_kM r35 c n))) 9 (fun _ _ => rfl) ?_
      refine q_RP_bd fun r36 er36 => ?_
      refine q_RP_call (v := none) (h2 := (q_kM r36 c n)) rfl rfl ((dzt_M304_93_78 r35 c n (24 * a1) 0 24 r36 er36).le (Nat.le_of_ble_eq_true rfl)) ?_
      show q_RP _ _ _ (270, [(3, .int r23), (2, .int a1), (0, .ref 64), (1, .int a1)], [], (q_kM r36 c n)) _ _
      refine q_RP_seg (g2 := (285, [(3, .int r23), (2, .int a1), (0, .ref 64), (1, .int a1)], [.int 16, .int 0, .ref 71, .int (16 * a1), .ref 86], (q_kM r36 c n))) 9 (fun _ _ => rfl) ?_
      refine q_RP_bd fun r37 er37 => ?_
      refine q_RP_call (v := none) (h2 := (q_kM r37 c n)) rfl rfl ((dzt_M305_86_71 r36 c n (16 * a1) 0 16 r37 er37).le (Nat.le_of_ble_eq_true rfl)) ?_
      show q_RP _ _ _ (288, [(3, .int r23), (2, .int a1), (0, .ref 64), (1, .int a1)], [], (q_kM r37 c n)) _ _
      refine q_RP_seg (g2 := (303, [(3, .int r23), (2, .int a1), (0, .ref 64), (1, .int a1)], [.int 8, .int 0, .ref 79, .int (8 * a1), .ref 94], (q_kM r37 c n))) 9 (fun _ _ => rfl) ?_
      refine q_RP_bd fun r38 er38 => ?_
      refine q_RP_call (v := none) (h2 := (q_kM r38 c n)) rfl rfl ((dzt_M305_94_79 r37 c n (8 * a1) 0 8 r38 er38).le (Nat.le_of_ble_eq_true rfl)) ?_
      show q_RP _ _ _ (306, [(3, .int r23), (2, .int a1), (0, .ref 64), (1, .int a1)], [], (q_kM r38 c n)) _ _
      refine q_RP_seg (g2 := (314, [(3, .int r23), (2, .int a1), (0, .ref 64), (1, .int a1)], [.int (2 * a1), .ref 95, .ref 64], (q_kM r38 c n))) 6 (fun _ _ => rfl) ?_
      refine q_RP_as fun i8 => ?_
      refine q_RP_rsT (g2 := (315, [(3, .int r23), (2, .int a1), (0, .ref 64), (1, .int a1)], [.long ((r38.2.2 31) ((2 * a1).toNatClampNeg)), .ref 64], (q_kM r38 c n))) rfl rfl i8 ?_
      refine q_RP_st1 (g2 := (318, [(3, .int r23), (2, .int a1), (0, .ref 64), (1, .int a1)], [], (q_kM (q_sJ r38 0 15 ((r38.2.2 31) ((2 * a1).toNatClampNeg))) c n))) rfl q_pM0_15 ?_
      refine q_RP_seg (g2 := (328, [(3, .int r23), (2, .int a1), (0, .ref 64), (1, .int a1)], [.int ((2 * a1) + 1), .ref 95, .ref 64], (q_kM (q_sJ r38 0 15 ((r38.2.2 31) ((2 * a1).toNatClampNeg))) c n))) 8 (fun _ _ => rfl) ?_
      refine q_RP_as fun i9 => ?_
      refine q_RP_rsT (g2 := (329, [(3, .int r23), (2, .int a1), (0, .ref 64), (1, .int a1)], [.long ((r38.2.2 31) (((2 * a1) + 1).toNatClampNeg)), .ref 64], (q_kM (q_sJ r38 0 15 ((r38.2.2 31) ((2 * a1).toNatClampNeg))) c n))) rfl rfl i9 ?_
      refine q_RP_st1 (g2 := (332, [(3, .int r23), (2, .int a1), (0, .ref 64), (1, .int a1)], [], (q_kM (q_sJ (q_sJ r38 0 15 ((r38.2.2 31) ((2 * a1).toNatClampNeg))) 0 16 ((r38.2.2 31) (((2 * a1) + 1).toNatClampNeg))) c n))) rfl q_pM0_16 ?_
      refine q_RP_seg (g2 := (334, [(3, .int r23), (2, .int a1), (0, .ref 64), (1, .int a1)], [.int (-1), .ref 64], (q_kM (q_sJ (q_sJ r38 0 15 ((r38.2.2 31) ((2 * a1).toNatClampNeg))) 0 16 ((r38.2.2 31) (((2 * a1) + 1).toNatClampNeg))) c n))) 2 (fun _ _ => rfl) ?_
      refine q_RP_st1 (g2 := (337, [(3, .int r23), (2, .int a1), (0, .ref 64), (1, .int a1)], [], (q_kM (q_sI (q_sJ (q_sJ r38 0 15 ((r38.2.2 31) ((2 * a1).toNatClampNeg))) 0 16 ((r38.2.2 31) (((2 * a1) + 1).toNatClampNeg))) 0 34 (-1)) c n))) rfl q_pM0_34 ?_
      refine q_RP_seg (g2 := (338, [(3, .int r23), (2, .int a1), (0, .ref 64), (1, .int a1)], [.int r23], (q_kM (q_sI (q_sJ (q_sJ r38 0 15 ((r38.2.2 31) ((2 * a1).toNatClampNeg))) 0 16 ((r38.2.2 31) (((2 * a1) + 1).toNatClampNeg))) 0 34 (-1)) c n))) 1 (fun _ _ => rfl) ?_
      exact q_RP_ret rfl rfl rfl
def dz_M309_64 (s : q_S) (a1 : Int32) : Option (q_S × Int32) :=
  q_let (dz_M202 s a1 0 ((s.2.1 0 17) - 1)) fun r4 => cond r4 (q_let (dz_M200_64 s 0) fun r5 => cond r5.2 (some (r5.1, 0)) ((dz_M307_64 r5.1 a1).bind fun r6 => some (r5.1, r6))) (q_let (dz_M200_64 s 1) fun r7 => cond r7.2 (some (r7.1, 0)) ((dz_M307_64 r7.1 a1).bind fun r8 => some (r7.1, r8)))
set_option maxHeartbeats 4000000 in
theorem dzt_M309_64 (s : q_S) (c n : Nat) (a1 : Int32) (x : q_S × Int32) (h : dz_M309_64 s a1 = some x) : q_Ca q_TB0 2 308 [.ref 64, .int a1] (q_kM s c n) ((q_oIM c n) x) := by
  refine q_CaP_of (φ := (q_oIM c n)) (Nat.le_of_ble_eq_true rfl) ?_ h
  clear h
  unfold dz_M309_64
  refine q_RP_seg (g2 := (7, [(0, .ref 64), (1, .int a1)], [.int (s.2.1 0 17), .int 0, .int a1, .ref 64], (q_kM s c n))) 5 (fun _ _ => rfl) ?_
  refine q_RP_seg (g2 := (9, [(0, .ref 64), (1, .int a1)], [.int ((s.2.1 0 17) - 1), .int 0, .int a1, .ref 64], (q_kM s c n))) 2 (fun _ _ => rfl) ?_
  refine q_RP_call (v := (some (.int (q_b (dz_M202 s a1 0 ((s.2.1 0 17) - 1)))))) (h2 := (q_kM s c n)) rfl rfl ((dzt_M202 s c n a1 0 ((s.2.1 0 17) - 1)).le (Nat.le_of_ble_eq_true rfl)) ?_
  generalize dz_M202 s a1 0 ((s.2.1 0 17) - 1) = r4
  refine q_RP_let ?_
  show q_RP _ _ _ (12, [(0, .ref 64), (1, .int a1)], [.int (q_b r4), .ref 64], (q_kM s c n)) _ _
  cases h3 : r4 with
  | true =>
    refine q_RP_cT ?_
    show q_RP _ _ _ (12, [(0, .ref 64), (1, .int a1)], [.int 1, .ref 64], (q_kM s c n)) _ _
    refine q_RP_seg (g2 := (20, [(0, .ref 64), (1, .int a1)], [.int 0, .ref 64], (q_kM s c n))) 3 (fun _ _ => rfl) ?_
    refine q_RP_call (v := (some (.int (q_b (dz_M200_64 s 0).2)))) (h2 := (q_kM (dz_M200_64 s 0).1 c n)) rfl rfl ((dzt_M200_64 s c n 0).le (Nat.le_of_ble_eq_true rfl)) ?_
    generalize dz_M200_64 s 0 = r5
    refine q_RP_let ?_
    show q_RP _ _ _ (23, [(0, .ref 64), (1, .int a1)], [.int (q_b r5.2)], (q_kM r5.1 c n)) _ _
    cases h4 : r5.2 with
    | true =>
      refine q_RP_cT ?_
      show q_RP _ _ _ (23, [(0, .ref 64), (1, .int a1)], [.int 1], (q_kM r5.1 c n)) _ _
      refine q_RP_seg (g2 := (35, [(0, .ref 64), (1, .int a1)], [.int 0], (q_kM r5.1 c n))) 3 (fun _ _ => rfl) ?_
      exact q_RP_ret rfl rfl rfl
    | false =>
      refine q_RP_cF ?_
      show q_RP _ _ _ (23, [(0, .ref 64), (1, .int a1)], [.int 0], (q_kM r5.1 c n)) _ _
      refine q_RP_seg (g2 := (32, [(0, .ref 64), (1, .int a1)], [.int a1, .ref 64], (q_kM r5.1 c n))) 3 (fun _ _ => rfl) ?_
      refine q_RP_bd fun r6 er6 => ?_
      refine q_RP_call (v := (some (.int r6))) (h2 := (q_kM r5.1 c n)) rfl rfl ((dzt_M307_64 r5.1 c n a1 r6 er6).le (Nat.le_of_ble_eq_true rfl)) ?_
      show q_RP _ _ _ (35, [(0, .ref 64), (1, .int a1)], [.int r6], (q_kM r5.1 c n)) _ _
      exact q_RP_ret rfl rfl rfl
  | false =>
    refine q_RP_cF ?_
    show q_RP _ _ _ (12, [(0, .ref 64), (1, .int a1)], [.int 0, .ref 64], (q_kM s c n)) _ _
    refine q_RP_seg (g2 := (20, [(0, .ref 64), (1, .int a1)], [.int 1, .ref 64], (q_kM s c n))) 2 (fun _ _ => rfl) ?_
    refine q_RP_call (v := (some (.int (q_b (dz_M200_64 s 1).2)))) (h2 := (q_kM (dz_M200_64 s 1).1 c n)) rfl rfl ((dzt_M200_64 s c n 1).le (Nat.le_of_ble_eq_true rfl)) ?_
    generalize dz_M200_64 s 1 = r7
    refine q_RP_let ?_
    show q_RP _ _ _ (23, [(0, .ref 64), (1, .int a1)], [.int (q_b r7.2)], (q_kM r7.1 c n)) _ _
    cases h5 : r7.2 with
    | true =>
      refine q_RP_cT ?_
      show q_RP _ _ _ (23, [(0, .ref 64), (1, .int a1)], [.int 1], (q_kM r7.1 c n)) _ _
      refine q_RP_seg (g2 := (35, [(0, .ref 64), (1, .int a1)], [.int 0], (q_kM r7.1 c n))) 3 (fun _ _ => rfl) ?_
      exact q_RP_ret rfl rfl rfl
    | false =>
      refine q_RP_cF ?_
      show q_RP _ _ _ (23, [(0, .ref 64), (1, .int a1)], [.int 0], (q_kM r7.1 c n)) _ _
      refine q_RP_seg (g2 := (32, [(0, .ref 64), (1, .int a1)], [.int a1, .ref 64], (q_kM r7.1 c n))) 3 (fun _ _ => rfl) ?_
      refine q_RP_bd fun r8 er8 => ?_
      refine q_RP_call (v := (some (.int r8))) (h2 := (q_kM r7.1 c n)) rfl rfl ((dzt_M307_64 r7.1 c n a1 r8 er8).le (Nat.le_of_ble_eq_true rfl)) ?_
      show q_RP _ _ _ (35, [(0, .ref 64), (1, .int a1)], [.int r8], (q_kM r7.1 c n)) _ _
      exact q_RP_ret rfl rfl rfl
def dz_M310_64 (s : q_S) : q_S × Int32 :=
  q_let (if (0 : Int32) < (s.2.1 0 34) then (s.2.1 0 34) else (0 : Int32)) fun x1 => q_let (dz_M201_64 (q_sI s 0 34 0) x1) fun r2 => (r2.1, r2.2)
set_option maxHeartbeats 4000000 in
theorem dzt_M310_64 (s : q_S) (c n : Nat) : q_Ca q_TB0 2 309 [.ref 64] (q_kM s c n) ((q_oIM c n) (dz_M310_64 s)) := by
  refine q_CaT_of (φ := (q_oIM c n)) (Nat.le_of_ble_eq_true rfl) ?_
  unfold dz_M310_64
  refine q_RT_seg (g2 := (5, [(0, .ref 64)], [.int (s.2.1 0 34), .int 0], (q_kM s c n))) 3 (fun _ _ => rfl) ?_
  refine q_RT_seg (g2 := (8, [(0, .ref 64)], [.int (if (0 : Int32) < (s.2.1 0 34) then (s.2.1 0 34) else (0 : Int32))], (q_kM s c n))) 1 (fun _ _ => rfl) ?_
  generalize (if (0 : Int32) < (s.2.1 0 34) then (s.2.1 0 34) else (0 : Int32)) = x1
  refine q_RT_let ?_
  show q_RT _ _ _ (8, [(0, .ref 64)], [.int x1], (q_kM s c n)) _ _
  refine q_RT_seg (g2 := (16, [(1, .int x1), (0, .ref 64)], [.int x1, .ref 64], (q_kM (q_sI s 0 34 0) c n))) 6 (fun _ _ => rfl) ?_
  refine q_RT_call (v := (some (.int (dz_M201_64 (q_sI s 0 34 0) x1).2))) (h2 := (q_kM (dz_M201_64 (q_sI s 0 34 0) x1).1 c n)) rfl rfl ((dzt_M201_64 (q_sI s 0 34 0) c n x1).le (Nat.le_of_ble_eq_true rfl)) ?_
  generalize dz_M201_64 (q_sI s 0 34 0) x1 = r2
  refine q_RT_let ?_
  show q_RT _ _ _ (19, [(1, .int x1), (0, .ref 64)], [.int r2.2], (q_kM r2.1 c n)) _ _
  exact q_RT_ret rfl rfl rfl
def dz_M311_64 (s : q_S) : q_S × Int32 :=
  cond (decide (s.2.1 0 34 < 0)) (q_let (dz_M200_64 s 1) fun r1 => cond r1.2 ((r1.1, 0)) ((r1.1, (r1.1.2.1 0 34)))) (q_let (dz_M200_64 s 0) fun r2 => cond r2.2 ((r2.1, 0)) ((r2.1, (r2.1.2.1 0 34))))
set_option maxHeartbeats 4000000 in
theorem dzt_M311_64 (s : q_S) (c n : Nat) : q_Ca q_TB0 2 310 [.ref 64] (q_kM s c n) ((q_oIM c n) (dz_M311_64 s)) := by
  refine q_CaT_of (φ := (q_oIM c n)) (Nat.le_of_ble_eq_true rfl) ?_
  unfold dz_M311_64
  refine q_RT_seg (g2 := (5, [(0, .ref 64)], [.int (s.2.1 0 34), .ref 64], (q_kM s c n))) 3 (fun _ _ => rfl) ?_
  cases h1 : decide (s.2.1 0 34 < 0) with
  | true =>
    refine q_RT_cT ?_
    refine q_RT_rsF (g2 := (8, [(0, .ref 64)], [.ref 64], (q_kM s c n))) rfl rfl (q_d_geT h1) ?_
    refine q_RT_seg (g2 := (13, [(0, .ref 64)], [.int 1, .ref 64], (q_kM s c n))) 2 (fun _ _ => rfl) ?_
    refine q_RT_call (v := (some (.int (q_b (dz_M200_64 s 1).2)))) (h2 := (q_kM (dz_M200_64 s 1).1 c n)) rfl rfl ((dzt_M200_64 s c n 1).le (Nat.le_of_ble_eq_true rfl)) ?_
    generalize dz_M200_64 s 1 = r1
    refine q_RT_let ?_
    show q_RT _ _ _ (16, [(0, .ref 64)], [.int (q_b r1.2)], (q_kM r1.1 c n)) _ _
    cases h2 : r1.2 with
    | true =>
      refine q_RT_cT ?_
      show q_RT _ _ _ (16, [(0, .ref 64)], [.int 1], (q_kM r1.1 c n)) _ _
      refine q_RT_seg (g2 := (27, [(0, .ref 64)], [.int 0], (q_kM r1.1 c n))) 3 (fun _ _ => rfl) ?_
      exact q_RT_ret rfl rfl rfl
    | false =>
      refine q_RT_cF ?_
      show q_RT _ _ _ (16, [(0, .ref 64)], [.int 0], (q_kM r1.1 c n)) _ _
      refine q_RT_seg (g2 := (27, [(0, .ref 64)], [.int (r1.1.2.1 0 34)], (q_kM r1.1 c n))) 3 (fun _ _ => rfl) ?_
      exact q_RT_ret rfl rfl rfl
  | false =>
    refine q_RT_cF ?_
    refine q_RT_rsT (g2 := (12, [(0, .ref 64)], [.ref 64], (q_kM s c n))) rfl rfl (q_d_geF h1) ?_
    refine q_RT_seg (g2 := (13, [(0, .ref 64)], [.int 0, .ref 64], (q_kM s c n))) 1 (fun _ _ => rfl) ?_
    refine q_RT_call (v := (some (.int (q_b (dz_M200_64 s 0).2)))) (h2 := (q_kM (dz_M200_64 s 0).1 c n)) rfl rfl ((dzt_M200_64 s c n 0).le (Nat.le_of_ble_eq_true rfl)) ?_
    generalize dz_M200_64 s 0 = r2
    refine q_RT_let ?_
    show q_RT _ _ _ (16, [(0, .ref 64)], [.int (q_b r2.2)], (q_kM r2.1 c n)) _ _
    cases h3 : r2.2 with
    | true =>
      refine q_RT_cT ?_
      show q_RT _ _ _ (16, [(0, .ref 64)], [.int 1], (q_kM r2.1 c n)) _ _
      refine q_RT_seg (g2 := (27, [(0, .ref 64)], [.int 0], (q_kM r2.1 c n))) 3 (fun _ _ => rfl) ?_
      exact q_RT_ret rfl rfl rfl
    | false =>
      refine q_RT_cF ?_
      show q_RT _ _ _ (16, [(0, .ref 64)], [.int 0], (q_kM r2.1 c n)) _ _
      refine q_RT_seg (g2 := (27, [(0, .ref 64)], [.int (r2.1.2.1 0 34)], (q_kM r2.1 c n))) 3 (fun _ _ => rfl) ?_
      exact q_RT_ret rfl rfl rfl
def dz_M312_64 (s : q_S) : q_S × Bool :=
  cond (decide (s.2.1 0 34 < 0)) (q_let (dz_M200_64 s 1) fun r1 => cond r1.2 ((r1.1, false)) ((r1.1, true))) (q_let (dz_M200_64 s 0) fun r2 => cond r2.2 ((r2.1, false)) ((r2.1, true)))
set_option maxHeartbeats 4000000 in
theorem dzt_M312_64 (s : q_S) (c n : Nat) : q_Ca q_TB0 2 311 [.ref 64] (q_kM s c n) ((q_oJM c n) (dz_M312_64 s)) := by
  refine q_CaT_of (φ := (q_oJM c n)) (Nat.le_of_ble_eq_true rfl) ?_
  unfold dz_M312_64
  refine q_RT_seg (g2 := (5, [(0, .ref 64)], [.int (s.2.1 0 34), .ref 64], (q_kM s c n))) 3 (fun _ _ => rfl) ?_
  cases h1 : decide (s.2.1 0 34 < 0) with
  | true =>
    refine q_RT_cT ?_
    refine q_RT_rsF (g2 := (8, [(0, .ref 64)], [.ref 64], (q_kM s c n))) rfl rfl (q_d_geT h1) ?_
    refine q_RT_seg (g2 := (13, [(0, .ref 64)], [.int 1, .ref 64], (q_kM s c n))) 2 (fun _ _ => rfl) ?_
    refine q_RT_call (v := (some (.int (q_b (dz_M200_64 s 1).2)))) (h2 := (q_kM (dz_M200_64 s 1).1 c n)) rfl rfl ((dzt_M200_64 s c n 1).le (Nat.le_of_ble_eq_true rfl)) ?_
    generalize dz_M200_64 s 1 = r1
    refine q_RT_let ?_
    show q_RT _ _ _ (16, [(0, .ref 64)], [.int (q_b r1.2)], (q_kM r1.1 c n)) _ _
    cases h2 : r1.2 with
    | true =>
      refine q_RT_cT ?_
      show q_RT _ _ _ (16, [(0, .ref 64)], [.int 1], (q_kM r1.1 c n)) _ _
      refine q_RT_seg (g2 := (24, [(0, .ref 64)], [.int 0], (q_kM r1.1 c n))) 2 (fun _ _ => rfl) ?_
      exact q_RT_ret rfl rfl rfl
    | false =>
      refine q_RT_cF ?_
      show q_RT _ _ _ (16, [(0, .ref 64)], [.int 0], (q_kM r1.1 c n)) _ _
      refine q_RT_seg (g2 := (24, [(0, .ref 64)], [.int 1], (q_kM r1.1 c n))) 3 (fun _ _ => rfl) ?_
      exact q_RT_ret rfl rfl rfl
  | false =>
    refine q_RT_cF ?_
    refine q_RT_rsT (g2 := (12, [(0, .ref 64)], [.ref 64], (q_kM s c n))) rfl rfl (q_d_geF h1) ?_
    refine q_RT_seg (g2 := (13, [(0, .ref 64)], [.int 0, .ref 64], (q_kM s c n))) 1 (fun _ _ => rfl) ?_
    refine q_RT_call (v := (some (.int (q_b (dz_M200_64 s 0).2)))) (h2 := (q_kM (dz_M200_64 s 0).1 c n)) rfl rfl ((dzt_M200_64 s c n 0).le (Nat.le_of_ble_eq_true rfl)) ?_
    generalize dz_M200_64 s 0 = r2
    refine q_RT_let ?_
    show q_RT _ _ _ (16, [(0, .ref 64)], [.int (q_b r2.2)], (q_kM r2.1 c n)) _ _
    cases h3 : r2.2 with
    | true =>
      refine q_RT_cT ?_
      show q_RT _ _ _ (16, [(0, .ref 64)], [.int 1], (q_kM r2.1 c n)) _ _
      refine q_RT_seg (g2 := (24, [(0, .ref 64)], [.int 0], (q_kM r2.1 c n))) 2 (fun _ _ => rfl) ?_
      exact q_RT_ret rfl rfl rfl
    | false =>
      refine q_RT_cF ?_
      show q_RT _ _ _ (16, [(0, .ref 64)], [.int 0], (q_kM r2.1 c n)) _ _
      refine q_RT_seg (g2 := (24, [(0, .ref 64)], [.int 1], (q_kM r2.1 c n))) 3 (fun _ _ => rfl) ?_
      exact q_RT_ret rfl rfl rfl
def dz_M313_64_9 (m : Nat) : q_S → Int32 → Int32 → Option (q_S × Int32) := Nat.rec (motive := fun _ => q_S → Int32 → Int32 → Option (q_S × Int32)) (fun _ _ _ => none) (fun _ k9 s v1 v2 =>
  cond (decide (v2 < 1024)) (cond (q_in v2 1024) (k9 s ((31 * v1) + ((s.1 5) (v2.toNatClampNeg))) (v2 + 1)) none) (some (s, v1))) m
theorem dzs_M313_64_9 (m : Nat) (s : q_S) (v1 : Int32) (v2 : Int32) : dz_M313_64_9 (m + 1) s v1 v2 = (fun k9 : q_S → Int32 → Int32 → Option (q_S × Int32) =>
  cond (decide (v2 < 1024)) (cond (q_in v2 1024) (k9 s ((31 * v1) + ((s.1 5) (v2.toNatClampNeg))) (v2 + 1)) none) (some (s, v1))) (dz_M313_64_9 m) := rfl
set_option maxHeartbeats 4000000 in
theorem dzt_M313_64_9 (c n : Nat) : ∀ (m : Nat) (s : q_S) (v1 : Int32) (v2 : Int32), q_RP q_TB0 0 312 (9, [(0, .ref 64), (1, .int v1), (2, .int v2)], [], (q_kM s c n)) (q_oIM c n) (dz_M313_64_9 m s v1 v2) := by
  intro m
  induction m with
  | zero => intro s v1 v2; exact q_RP_no
  | succ m ih =>
    intro s v1 v2
    have hk9 := ih
    clear ih
    rw [dzs_M313_64_9]
    generalize dz_M313_64_9 m = k9 at hk9 ⊢
    dsimp only
    refine q_RP_seg (g2 := (13, [(0, .ref 64), (1, .int v1), (2, .int v2)], [.int 1024, .int v2], (q_kM s c n))) 2 (fun _ _ => rfl) ?_
    cases h1 : decide (v2 < 1024) with
    | true =>
      refine q_RP_cT ?_
      refine q_RP_rsF (g2 := (16, [(0, .ref 64), (1, .int v1), (2, .int v2)], [], (q_kM s c n))) rfl rfl (q_d_geT h1) ?_
      refine q_RP_seg (g2 := (25, [(0, .ref 64), (1, .int v1), (2, .int v2)], [.int v2, .ref 69, .int (31 * v1)], (q_kM s c n))) 6 (fun _ _ => rfl) ?_
      refine q_RP_as fun i2 => ?_
      refine q_RP_rsT (g2 := (26, [(0, .ref 64), (1, .int v1), (2, .int v2)], [.int ((s.1 5) (v2.toNatClampNeg)), .int (31 * v1)], (q_kM s c n))) rfl rfl i2 ?_
      refine q_RP_seg (g2 := (9, [(2, .int (v2 + 1)), (1, .int ((31 * v1) + ((s.1 5) (v2.toNatClampNeg)))), (0, .ref 64)], [], (q_kM s c n))) 4 (fun _ _ => rfl) ?_
      exact q_RP_xt (q_xt_mk (q_mn1 2 rfl (q_mn1 1 rfl (q_mn1 0 rfl q_mn0))) rfl) (hk9 s ((31 * v1) + ((s.1 5) (v2.toNatClampNeg))) (v2 + 1))
    | false =>
      refine q_RP_cF ?_
      refine q_RP_rsT (g2 := (34, [(0, .ref 64), (1, .int v1), (2, .int v2)], [], (q_kM s c n))) rfl rfl (q_d_geF h1) ?_
      refine q_RP_seg (g2 := (35, [(0, .ref 64), (1, .int v1), (2, .int v2)], [.int v1], (q_kM s c n))) 1 (fun _ _ => rfl) ?_
      exact q_RP_ret rfl rfl rfl
def dz_M313_64 (s : q_S) : Option (q_S × Int32) :=
  dz_M313_64_9 5000 (q_sI s 0 39 0) 0 0
set_option maxHeartbeats 4000000 in
theorem dzt_M313_64 (s : q_S) (c n : Nat) (x : q_S × Int32) (h : dz_M313_64 s = some x) : q_Ca q_TB0 1 312 [.ref 64] (q_kM s c n) ((q_oIM c n) x) := by
  refine q_CaP_of (φ := (q_oIM c n)) (Nat.le_of_ble_eq_true rfl) ?_ h
  clear h
  unfold dz_M313_64
  refine q_RP_seg (g2 := (9, [(2, .int 0), (1, .int 0), (0, .ref 64)], [], (q_kM (q_sI s 0 39 0) c n))) 7 (fun _ _ => rfl) ?_
  exact q_RP_xt (q_xt_mk (q_mn1 2 rfl (q_mn1 1 rfl (q_mn1 0 rfl q_mn0))) rfl) (dzt_M313_64_9 c n 5000 (q_sI s 0 39 0) 0 0)
def dz_M314_64 (s : q_S) : q_S × Int64 :=
  ((q_sI s 0 39 0), (s.2.2 0 16))
set_option maxHeartbeats 4000000 in
theorem dzt_M314_64 (s : q_S) (c n : Nat) : q_Ca q_TB0 1 313 [.ref 64] (q_kM s c n) ((q_oKM c n) (dz_M314_64 s)) := by
  refine q_CaT_of (φ := (q_oKM c n)) (Nat.le_of_ble_eq_true rfl) ?_
  unfold dz_M314_64
  refine q_RT_seg (g2 := (9, [(0, .ref 64)], [.long (s.2.2 0 16)], (q_kM (q_sI s 0 39 0) c n))) 5 (fun _ _ => rfl) ?_
  exact q_RT_ret rfl rfl rfl
def dz_M315_64_9 (m : Nat) : q_S → Int32 → Int32 → Option (q_S × UInt32) := Nat.rec (motive := fun _ => q_S → Int32 → Int32 → Option (q_S × UInt32)) (fun _ _ _ => none) (fun _ k9 s v1 v2 =>
  cond (decide (v2 < 1024)) (cond (q_in v2 1024) (cond (decide ((s.1 5) (v2.toNatClampNeg) = (s.1 4) 3)) (k9 s (v1 + 0) (v2 + 1)) (k9 s (v1 + 1) (v2 + 1))) none) (cond (q_nnf (FP.fdiv (FP.i2f v1) 1149239296)) (some (s, (FP.fdiv (FP.i2f v1) 1149239296))) none)) m
theorem dzs_M315_64_9 (m : Nat) (s : q_S) (v1 : Int32) (v2 : Int32) : dz_M315_64_9 (m + 1) s v1 v2 = (fun k9 : q_S → Int32 → Int32 → Option (q_S × UInt32) =>
  cond (decide (v2 < 1024)) (cond (q_in v2 1024) (cond (decide ((s.1 5) (v2.toNatClampNeg) = (s.1 4) 3)) (k9 s (v1 + 0) (v2 + 1)) (k9 s (v1 + 1) (v2 + 1))) none) (cond (q_nnf (FP.fdiv (FP.i2f v1) 1149239296)) (some (s, (FP.fdiv (FP.i2f v1) 1149239296))) none)) (dz_M315_64_9 m) := rfl
set_option maxHeartbeats 4000000 in
theorem dzt_M315_64_9 (c n : Nat) : ∀ (m : Nat) (s : q_S) (v1 : Int32) (v2 : Int32), q_RP q_TB0 0 314 (9, [(0, .ref 64), (1, .int v1), (2, .int v2)], [], (q_kM s c n)) (q_oFM c n) (dz_M315_64_9 m s v1 v2) := by
  intro m
  induction m with
  | zero => intro s v1 v2; exact q_RP_no
  | succ m ih =>
    intro s v1 v2
    have hk9 := ih
    clear ih
    rw [dzs_M315_64_9]
    generalize dz_M315_64_9 m = k9 at hk9 ⊢
    dsimp only
    refine q_RP_seg (g2 := (13, [(0, .ref 64), (1, .int v1), (2, .int v2)], [.int 1024, .int v2], (q_kM s c n))) 2 (fun _ _ => rfl) ?_
    cases h1 : decide (v2 < 1024) with
    | true =>
      refine q_RP_cT ?_
      refine q_RP_rsF (g2 := (16, [(0, .ref 64), (1, .int v1), (2, .int v2)], [], (q_kM s c n))) rfl rfl (q_d_geT h1) ?_
      refine q_RP_seg (g2 := (22, [(0, .ref 64), (1, .int v1), (2, .int v2)], [.int v2, .ref 69, .int v1], (q_kM s c n))) 4 (fun _ _ => rfl) ?_
      refine q_RP_as fun i2 => ?_
      refine q_RP_rsT (g2 := (23, [(0, .ref 64), (1, .int v1), (2, .int v2)], [.int ((s.1 5) (v2.toNatClampNeg)), .int v1], (q_kM s c n))) rfl rfl i2 ?_
      refine q_RP_seg (g2 := (29, [(0, .ref 64), (1, .int v1), (2, .int v2)], [.int ((s.1 4) 3), .int ((s.1 5) (v2.toNatClampNeg)), .int v1], (q_kM s c n))) 4 (fun _ _ => rfl) ?_
      cases h3 : decide ((s.1 5) (v2.toNatClampNeg) = (s.1 4) 3) with
      | true =>
        refine q_RP_cT ?_
        refine q_RP_rsF (g2 := (32, [(0, .ref 64), (1, .int v1), (2, .int v2)], [.int v1], (q_kM s c n))) rfl rfl (q_d_neT h3) ?_
        refine q_RP_seg (g2 := (9, [(2, .int (v2 + 1)), (1, .int (v1 + 0)), (0, .ref 64)], [], (q_kM s c n))) 6 (fun _ _ => rfl) ?_
        exact q_RP_xt (q_xt_mk (q_mn1 2 rfl (q_mn1 1 rfl (q_mn1 0 rfl q_mn0))) rfl) (hk9 s (v1 + 0) (v2 + 1))
      | false =>
        refine q_RP_cF ?_
        refine q_RP_rsT (g2 := (36, [(0, .ref 64), (1, .int v1), (2, .int v2)], [.int v1], (q_kM s c n))) rfl rfl (q_d_neF h3) ?_
        refine q_RP_seg (g2 := (9, [(2, .int (v2 + 1)), (1, .int (v1 + 1)), (0, .ref 64)], [], (q_kM s c n))) 5 (fun _ _ => rfl) ?_
        exact q_RP_xt (q_xt_mk (q_mn1 2 rfl (q_mn1 1 rfl (q_mn1 0 rfl q_mn0))) rfl) (hk9 s (v1 + 1) (v2 + 1))
    | false =>
      refine q_RP_cF ?_
      refine q_RP_rsT (g2 := (45, [(0, .ref 64), (1, .int v1), (2, .int v2)], [], (q_kM s c n))) rfl rfl (q_d_geF h1) ?_
      refine q_RP_seg (g2 := (50, [(0, .ref 64), (1, .int v1), (2, .int v2)], [.float 1149239296, .float (FP.i2f v1)], (q_kM s c n))) 3 (fun _ _ => rfl) ?_
      refine q_RP_as fun i4 => ?_
      refine q_RP_st1 (g2 := (51, [(0, .ref 64), (1, .int v1), (2, .int v2)], [.float (FP.fdiv (FP.i2f v1) 1149239296)], (q_kM s c n))) rfl (q_fdv i4) ?_
      exact q_RP_ret rfl rfl rfl
def dz_M315_64 (s : q_S) : Option (q_S × UInt32) :=
  dz_M315_64_9 5000 (q_sI s 0 39 0) 0 0
set_option maxHeartbeats 4000000 in
theorem dzt_M315_64 (s : q_S) (c n : Nat) (x : q_S × UInt32) (h : dz_M315_64 s = some x) : q_Ca q_TB0 1 314 [.ref 64] (q_kM s c n) ((q_oFM c n) x) := by
  refine q_CaP_of (φ := (q_oFM c n)) (Nat.le_of_ble_eq_true rfl) ?_ h
  clear h
  unfold dz_M315_64
  refine q_RP_seg (g2 := (9, [(2, .int 0), (1, .int 0), (0, .ref 64)], [], (q_kM (q_sI s 0 39 0) c n))) 7 (fun _ _ => rfl) ?_
  exact q_RP_xt (q_xt_mk (q_mn1 2 rfl (q_mn1 1 rfl (q_mn1 0 rfl q_mn0))) rfl) (dzt_M315_64_9 c n 5000 (q_sI s 0 39 0) 0 0)
def dz_M316_64_9 (m : Nat) : q_S → Int32 → Int32 → Option (q_S × UInt64) := Nat.rec (motive := fun _ => q_S → Int32 → Int32 → Option (q_S × UInt64)) (fun _ _ _ => none) (fun _ k9 s v1 v2 =>
  cond (decide (v2 < 40)) (cond (q_in v2 40) (k9 s (v1 + ((s.1 6) (v2.toNatClampNeg))) (v2 + 1)) none) (cond (q_nnd (FP.ddiv (FP.i2d v1) 4630826316843712512)) (some (s, (FP.ddiv (FP.i2d v1) 4630826316843712512))) none)) m
theorem dzs_M316_64_9 (m : Nat) (s : q_S) (v1 : Int32) (v2 : Int32) : dz_M316_64_9 (m + 1) s v1 v2 = (fun k9 : q_S → Int32 → Int32 → Option (q_S × UInt64) =>
  cond (decide (v2 < 40)) (cond (q_in v2 40) (k9 s (v1 + ((s.1 6) (v2.toNatClampNeg))) (v2 + 1)) none) (cond (q_nnd (FP.ddiv (FP.i2d v1) 4630826316843712512)) (some (s, (FP.ddiv (FP.i2d v1) 4630826316843712512))) none)) (dz_M316_64_9 m) := rfl
set_option maxHeartbeats 4000000 in
theorem dzt_M316_64_9 (c n : Nat) : ∀ (m : Nat) (s : q_S) (v1 : Int32) (v2 : Int32), q_RP q_TB0 0 315 (9, [(0, .ref 64), (1, .int v1), (2, .int v2)], [], (q_kM s c n)) (q_oDM c n) (dz_M316_64_9 m s v1 v2) := by
  intro m
  induction m with
  | zero => intro s v1 v2; exact q_RP_no
  | succ m ih =>
    intro s v1 v2
    have hk9 := ih
    clear ih
    rw [dzs_M316_64_9]
    generalize dz_M316_64_9 m = k9 at hk9 ⊢
    dsimp only
    refine q_RP_seg (g2 := (12, [(0, .ref 64), (1, .int v1), (2, .int v2)], [.int 40, .int v2], (q_kM s c n))) 2 (fun _ _ => rfl) ?_
    cases h1 : decide (v2 < 40) with
    | true =>
      refine q_RP_cT ?_
      refine q_RP_rsF (g2 := (15, [(0, .ref 64), (1, .int v1), (2, .int v2)], [], (q_kM s c n))) rfl rfl (q_d_geT h1) ?_
      refine q_RP_seg (g2 := (21, [(0, .ref 64), (1, .int v1), (2, .int v2)], [.int v2, .ref 70, .int v1], (q_kM s c n))) 4 (fun _ _ => rfl) ?_
      refine q_RP_as fun i2 => ?_
      refine q_RP_rsT (g2 := (22, [(0, .ref 64), (1, .int v1), (2, .int v2)], [.int ((s.1 6) (v2.toNatClampNeg)), .int v1], (q_kM s c n))) rfl rfl i2 ?_
      refine q_RP_seg (g2 := (9, [(2, .int (v2 + 1)), (1, .int (v1 + ((s.1 6) (v2.toNatClampNeg)))), (0, .ref 64)], [], (q_kM s c n))) 4 (fun _ _ => rfl) ?_
      exact q_RP_xt (q_xt_mk (q_mn1 2 rfl (q_mn1 1 rfl (q_mn1 0 rfl q_mn0))) rfl) (hk9 s (v1 + ((s.1 6) (v2.toNatClampNeg))) (v2 + 1))
    | false =>
      refine q_RP_cF ?_
      refine q_RP_rsT (g2 := (30, [(0, .ref 64), (1, .int v1), (2, .int v2)], [], (q_kM s c n))) rfl rfl (q_d_geF h1) ?_
      refine q_RP_seg (g2 := (35, [(0, .ref 64), (1, .int v1), (2, .int v2)], [.double 4630826316843712512, .double (FP.i2d v1)], (q_kM s c n))) 3 (fun _ _ => rfl) ?_
      refine q_RP_as fun i3 => ?_
      refine q_RP_st1 (g2 := (36, [(0, .ref 64), (1, .int v1), (2, .int v2)], [.double (FP.ddiv (FP.i2d v1) 4630826316843712512)], (q_kM s c n))) rfl (q_ddv i3) ?_
      exact q_RP_ret rfl rfl rfl
def dz_M316_64 (s : q_S) : Option (q_S × UInt64) :=
  dz_M316_64_9 5000 (q_sI s 0 39 0) 0 0
set_option maxHeartbeats 4000000 in
theorem dzt_M316_64 (s : q_S) (c n : Nat) (x : q_S × UInt64) (h : dz_M316_64 s = some x) : q_Ca q_TB0 1 315 [.ref 64] (q_kM s c n) ((q_oDM c n) x) := by
  refine q_CaP_of (φ := (q_oDM c n)) (Nat.le_of_ble_eq_true rfl) ?_ h
  clear h
  unfold dz_M316_64
  refine q_RP_seg (g2 := (9, [(2, .int 0), (1, .int 0), (0, .ref 64)], [], (q_kM (q_sI s 0 39 0) c n))) 7 (fun _ _ => rfl) ?_
  exact q_RP_xt (q_xt_mk (q_mn1 2 rfl (q_mn1 1 rfl (q_mn1 0 rfl q_mn0))) rfl) (dzt_M316_64_9 c n 5000 (q_sI s 0 39 0) 0 0)
