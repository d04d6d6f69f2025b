def dz_M304_73_88_3 (m : Nat) : q_S → Int32 → Int32 → Int32 → Int32 → Option (q_S) := Nat.rec (motive := fun _ => q_S → Int32 → Int32 → Int32 → Int32 → Option (q_S)) (fun _ _ _ _ _ => none) (fun _ k3 s v1 v3 v4 v5 =>
  cond (decide (v5 < v4)) (cond (q_in (v1 + v5) 16) (cond (q_in (v3 + v5) 48) (k3 (q_sA s 24 (upd (s.1 24) ((v3 + v5).toNatClampNeg) ((s.1 9) ((v1 + v5).toNatClampNeg)))) v1 v3 v4 (v5 + 1)) none) none) (some s)) m
theorem dzs_M304_73_88_3 (m : Nat) (s : q_S) (v1 : Int32) (v3 : Int32) (v4 : Int32) (v5 : Int32) : dz_M304_73_88_3 (m + 1) s v1 v3 v4 v5 = (fun k3 : q_S → Int32 → Int32 → Int32 → Int32 → Option (q_S) =>
  cond (decide (v5 < v4)) (cond (q_in (v1 + v5) 16) (cond (q_in (v3 + v5) 48) (k3 (q_sA s 24 (upd (s.1 24) ((v3 + v5).toNatClampNeg) ((s.1 9) ((v1 + v5).toNatClampNeg)))) v1 v3 v4 (v5 + 1)) none) none) (some s)) (dz_M304_73_88_3 m) := rfl
set_option maxHeartbeats 4000000 in
theorem dzt_M304_73_88_3 (c n : Nat) : ∀ (m : Nat) (s : q_S) (v1 : Int32) (v3 : Int32) (v4 : Int32) (v5 : Int32), q_RP q_TB0 0 303 (3, [(0, .ref 73), (1, .int v1), (2, .ref 88), (3, .int v3), (4, .int v4), (5, .int v5)], [], (q_kM s c n)) (q_oSM c n) (dz_M304_73_88_3 m s v1 v3 v4 v5) := by
  intro m
  induction m with
  | zero => intro s v1 v3 v4 v5; exact q_RP_no
  | succ m ih =>
    intro s v1 v3 v4 v5
    have hk3 := ih
    clear ih
    rw [dzs_M304_73_88_3]
    generalize dz_M304_73_88_3 m = k3 at hk3 ⊢
    dsimp only
    refine q_RP_seg (g2 := (7, [(0, .ref 73), (1, .int v1), (2, .ref 88), (3, .int v3), (4, .int v4), (5, .int v5)], [.int v4, .int v5], (q_kM s c n))) 2 (fun _ _ => rfl) ?_
    cases h1748 : decide (v5 < v4) with
    | true =>
      refine q_RP_cT ?_
      refine q_RP_rsF (g2 := (10, [(0, .ref 73), (1, .int v1), (2, .ref 88), (3, .int v3), (4, .int v4), (5, .int v5)], [], (q_kM s c n))) rfl rfl (q_d_geT h1748) ?_
      refine q_RP_seg (g2 := (20, [(0, .ref 73), (1, .int v1), (2, .ref 88), (3, .int v3), (4, .int v4), (5, .int v5)], [.int (v1 + v5), .ref 73, .int (v3 + v5), .ref 88], (q_kM s c n))) 8 (fun _ _ => rfl) ?_
      refine q_RP_as fun i1749 => ?_
      refine q_RP_rsT (g2 := (21, [(0, .ref 73), (1, .int v1), (2, .ref 88), (3, .int v3), (4, .int v4), (5, .int v5)], [.int ((s.1 9) ((v1 + v5).toNatClampNeg)), .int (v3 + v5), .ref 88], (q_kM s c n))) rfl rfl i1749 ?_
      refine q_RP_as fun i1750 => ?_
      refine q_RP_rsT (g2 := (22, [(0, .ref 73), (1, .int v1), (2, .ref 88), (3, .int v3), (4, .int v4), (5, .int v5)], [], (q_kM (q_sA s 24 (upd (s.1 24) ((v3 + v5).toNatClampNeg) ((s.1 9) ((v1 + v5).toNatClampNeg)))) c n))) rfl q_wM24 i1750 ?_
      refine q_RP_seg (g2 := (3, [(5, .int (v5 + 1)), (0, .ref 73), (1, .int v1), (2, .ref 88), (3, .int v3), (4, .int v4)], [], (q_kM (q_sA s 24 (upd (s.1 24) ((v3 + v5).toNatClampNeg) ((s.1 9) ((v1 + v5).toNatClampNeg)))) c n))) 2 (fun _ _ => rfl) ?_
      exact q_RP_xt (q_xt_mk (q_mn1 1 rfl (q_mn1 2 rfl (q_mn1 3 rfl (q_mn1 4 rfl (q_mn1 5 rfl (q_mn1 0 rfl q_mn0)))))) rfl) (hk3 (q_sA s 24 (upd (s.1 24) ((v3 + v5).toNatClampNeg) ((s.1 9) ((v1 + v5).toNatClampNeg)))) v1 v3 v4 (v5 + 1))
    | false =>
      refine q_RP_cF ?_
      refine q_RP_rsT (g2 := (28, [(0, .ref 73), (1, .int v1), (2, .ref 88), (3, .int v3), (4, .int v4), (5, .int v5)], [], (q_kM s c n))) rfl rfl (q_d_geF h1748) ?_
      exact q_RP_ret rfl rfl rfl
def dz_M304_73_88 (s : q_S) (a1 : Int32) (a3 : Int32) (a4 : Int32) : Option (q_S) :=
  dz_M304_73_88_3 5000 s a1 a3 a4 0
set_option maxHeartbeats 4000000 in
theorem dzt_M304_73_88 (s : q_S) (c n : Nat) (a1 : Int32) (a3 : Int32) (a4 : Int32) (x : q_S) (h : dz_M304_73_88 s a1 a3 a4 = some x) : q_Ca q_TB0 1 303 [.ref 73, .int a1, .ref 88, .int a3, .int a4] (q_kM s c n) ((q_oSM c n) x) := by
  refine q_CaP_of (φ := (q_oSM c n)) (Nat.le_of_ble_eq_true rfl) ?_ h
  clear h
  unfold dz_M304_73_88
  refine q_RP_seg (g2 := (3, [(5, .int 0), (0, .ref 73), (1, .int a1), (2, .ref 88), (3, .int a3), (4, .int a4)], [], (q_kM s c n))) 2 (fun _ _ => rfl) ?_
  exact q_RP_xt (q_xt_mk (q_mn1 1 rfl (q_mn1 2 rfl (q_mn1 3 rfl (q_mn1 4 rfl (q_mn1 5 rfl (q_mn1 0 rfl q_mn0)))))) rfl) (dzt_M304_73_88_3 c n 5000 s a1 a3 a4 0)
def dz_M304_74_89_3 (m : Nat) : q_S → Int32 → Int32 → Int32 → Int32 → Option (q_S) := Nat.rec (motive := fun _ => q_S → Int32 → Int32 → Int32 → Int32 → Option (q_S)) (fun _ _ _ _ _ => none) (fun _ k3 s v1 v3 v4 v5 =>
  cond (decide (v5 < v4)) (cond (q_in (v1 + v5) 3) (cond (q_in (v3 + v5) 9) (k3 (q_sA s 25 (upd (s.1 25) ((v3 + v5).toNatClampNeg) ((s.1 10) ((v1 + v5).toNatClampNeg)))) v1 v3 v4 (v5 + 1)) none) none) (some s)) m
theorem dzs_M304_74_89_3 (m : Nat) (s : q_S) (v1 : Int32) (v3 : Int32) (v4 : Int32) (v5 : Int32) : dz_M304_74_89_3 (m + 1) s v1 v3 v4 v5 = (fun k3 : q_S → Int32 → Int32 → Int32 → Int32 → Option (q_S) =>
  cond (decide (v5 < v4)) (cond (q_in (v1 + v5) 3) (cond (q_in (v3 + v5) 9) (k3 (q_sA s 25 (upd (s.1 25) ((v3 + v5).toNatClampNeg) ((s.1 10) ((v1 + v5).toNatClampNeg)))) v1 v3 v4 (v5 + 1)) none) none) (some s)) (dz_M304_74_89_3 m) := rfl
set_option maxHeartbeats 4000000 in
theorem dzt_M304_74_89_3 (c n : Nat) : ∀ (m : Nat) (s : q_S) (v1 : Int32) (v3 : Int32) (v4 : Int32) (v5 : Int32), q_RP q_TB0 0 303 (3, [(0, .ref 74), (1, .int v1), (2, .ref 89), (3, .int v3), (4, .int v4), (5, .int v5)], [], (q_kM s c n)) (q_oSM c n) (dz_M304_74_89_3 m s v1 v3 v4 v5) := by
  intro m
  induction m with
  | zero => intro s v1 v3 v4 v5; exact q_RP_no
  | succ m ih =>
    intro s v1 v3 v4 v5
    have hk3 := ih
    clear ih
    rw [dzs_M304_74_89_3]
    generalize dz_M304_74_89_3 m = k3 at hk3 ⊢
    dsimp only
    refine q_RP_seg (g2 := (7, [(0, .ref 74), (1, .int v1), (2, .ref 89), (3, .int v3), (4, .int v4), (5, .int v5)], [.int v4, .int v5], (q_kM s c n))) 2 (fun _ _ => rfl) ?_
    cases h1751 : decide (v5 < v4) with
    | true =>
      refine q_RP_cT ?_
      refine q_RP_rsF (g2 := (10, [(0, .ref 74), (1, .int v1), (2, .ref 89), (3, .int v3), (4, .int v4), (5, .int v5)], [], (q_kM s c n))) rfl rfl (q_d_geT h1751) ?_
      refine q_RP_seg (g2 := (20, [(0, .ref 74), (1, .int v1), (2, .ref 89), (3, .int v3), (4, .int v4), (5, .int v5)], [.int (v1 + v5), .ref 74, .int (v3 + v5), .ref 89], (q_kM s c n))) 8 (fun _ _ => rfl) ?_
      refine q_RP_as fun i1752 => ?_
      refine q_RP_rsT (g2 := (21, [(0, .ref 74), (1, .int v1), (2, .ref 89), (3, .int v3), (4, .int v4), (5, .int v5)], [.int ((s.1 10) ((v1 + v5).toNatClampNeg)), .int (v3 + v5), .ref 89], (q_kM s c n))) rfl rfl i1752 ?_
      refine q_RP_as fun i1753 => ?_
      refine q_RP_rsT (g2 := (22, [(0, .ref 74), (1, .int v1), (2, .ref 89), (3, .int v3), (4, .int v4), (5, .int v5)], [], (q_kM (q_sA s 25 (upd (s.1 25) ((v3 + v5).toNatClampNeg) ((s.1 10) ((v1 + v5).toNatClampNeg)))) c n))) rfl q_wM25 i1753 ?_
      refine q_RP_seg (g2 := (3, [(5, .int (v5 + 1)), (0, .ref 74), (1, .int v1), (2, .ref 89), (3, .int v3), (4, .int v4)], [], (q_kM (q_sA s 25 (upd (s.1 25) ((v3 + v5).toNatClampNeg) ((s.1 10) ((v1 + v5).toNatClampNeg)))) c n))) 2 (fun _ _ => rfl) ?_
      exact q_RP_xt (q_xt_mk (q_mn1 1 rfl (q_mn1 2 rfl (q_mn1 3 rfl (q_mn1 4 rfl (q_mn1 5 rfl (q_mn1 0 rfl q_mn0)))))) rfl) (hk3 (q_sA s 25 (upd (s.1 25) ((v3 + v5).toNatClampNeg) ((s.1 10) ((v1 + v5).toNatClampNeg)))) v1 v3 v4 (v5 + 1))
    | false =>
      refine q_RP_cF ?_
      refine q_RP_rsT (g2 := (28, [(0, .ref 74), (1, .int v1), (2, .ref 89), (3, .int v3), (4, .int v4), (5, .int v5)], [], (q_kM s c n))) rfl rfl (q_d_geF h1751) ?_
      exact q_RP_ret rfl rfl rfl
def dz_M304_74_89 (s : q_S) (a1 : Int32) (a3 : Int32) (a4 : Int32) : Option (q_S) :=
  dz_M304_74_89_3 5000 s a1 a3 a4 0
set_option maxHeartbeats 4000000 in
theorem dzt_M304_74_89 (s : q_S) (c n : Nat) (a1 : Int32) (a3 : Int32) (a4 : Int32) (x : q_S) (h : dz_M304_74_89 s a1 a3 a4 = some x) : q_Ca q_TB0 1 303 [.ref 74, .int a1, .ref 89, .int a3, .int a4] (q_kM s c n) ((q_oSM c n) x) := by
  refine q_CaP_of (φ := (q_oSM c n)) (Nat.le_of_ble_eq_true rfl) ?_ h
  clear h
  unfold dz_M304_74_89
  refine q_RP_seg (g2 := (3, [(5, .int 0), (0, .ref 74), (1, .int a1), (2, .ref 89), (3, .int a3), (4, .int a4)], [], (q_kM s c n))) 2 (fun _ _ => rfl) ?_
  exact q_RP_xt (q_xt_mk (q_mn1 1 rfl (q_mn1 2 rfl (q_mn1 3 rfl (q_mn1 4 rfl (q_mn1 5 rfl (q_mn1 0 rfl q_mn0)))))) rfl) (dzt_M304_74_89_3 c n 5000 s a1 a3 a4 0)
def dz_M304_75_90_3 (m : Nat) : q_S → Int32 → Int32 → Int32 → Int32 → Option (q_S) := Nat.rec (motive := fun _ => q_S → Int32 → Int32 → Int32 → Int32 → Option (q_S)) (fun _ _ _ _ _ => none) (fun _ k3 s v1 v3 v4 v5 =>
  cond (decide (v5 < v4)) (cond (q_in (v1 + v5) 3) (cond (q_in (v3 + v5) 9) (k3 (q_sA s 26 (upd (s.1 26) ((v3 + v5).toNatClampNeg) ((s.1 11) ((v1 + v5).toNatClampNeg)))) v1 v3 v4 (v5 + 1)) none) none) (some s)) m
theorem dzs_M304_75_90_3 (m : Nat) (s : q_S) (v1 : Int32) (v3 : Int32) (v4 : Int32) (v5 : Int32) : dz_M304_75_90_3 (m + 1) s v1 v3 v4 v5 = (fun k3 : q_S → Int32 → Int32 → Int32 → Int32 → Option (q_S) =>
  cond (decide (v5 < v4)) (cond (q_in (v1 + v5) 3) (cond (q_in (v3 + v5) 9) (k3 (q_sA s 26 (upd (s.1 26) ((v3 + v5).toNatClampNeg) ((s.1 11) ((v1 + v5).toNatClampNeg)))) v1 v3 v4 (v5 + 1)) none) none) (some s)) (dz_M304_75_90_3 m) := rfl
set_option maxHeartbeats 4000000 in
theorem dzt_M304_75_90_3 (c n : Nat) : ∀ (m : Nat) (s : q_S) (v1 : Int32) (v3 : Int32) (v4 : Int32) (v5 : Int32), q_RP q_TB0 0 303 (3, [(0, .ref 75), (1, .int v1), (2, .ref 90), (3, .int v3), (4, .int v4), (5, .int v5)], [], (q_kM s c n)) (q_oSM c n) (dz_M304_75_90_3 m s v1 v3 v4 v5) := by
  intro m
  induction m with
  | zero => intro s v1 v3 v4 v5; exact q_RP_no
  | succ m ih =>
    intro s v1 v3 v4 v5
    have hk3 := ih
    clear ih
    rw [dzs_M304_75_90_3]
    generalize dz_M304_75_90_3 m = k3 at hk3 ⊢
    dsimp only
    refine q_RP_seg (g2 := (7, [(0, .ref 75), (1, .int v1), (2, .ref 90), (3, .int v3), (4, .int v4), (5, .int v5)], [.int v4, .int v5], (q_kM s c n))) 2 (fun _ _ => rfl) ?_
    cases h1754 : decide (v5 < v4) with
    | true =>
      refine q_RP_cT ?_
      refine q_RP_rsF (g2 := (10, [(0, .ref 75), (1, .int v1), (2, .ref 90), (3, .int v3), (4, .int v4), (5, .int v5)], [], (q_kM s c n))) rfl rfl (q_d_geT h1754) ?_
      refine q_RP_seg (g2 := (20, [(0, .ref 75), (1, .int v1), (2, .ref 90), (3, .int v3), (4, .int v4), (5, .int v5)], [.int (v1 + v5), .ref 75, .int (v3 + v5), .ref 90], (q_kM s c n))) 8 (fun _ _ => rfl) ?_
      refine q_RP_as fun i1755 => ?_
      refine q_RP_rsT (g2 := (21, [(0, .ref 75), (1, .int v1), (2, .ref 90), (3, .int v3), (4, .int v4), (5, .int v5)], [.int ((s.1 11) ((v1 + v5).toNatClampNeg)), .int (v3 + v5), .ref 90], (q_kM s c n))) rfl rfl i1755 ?_
      refine q_RP_as fun i1756 => ?_
      refine q_RP_rsT (g2 := (22, [(0, .ref 75), (1, .int v1), (2, .ref 90), (3, .int v3), (4, .int v4), (5, .int v5)], [], (q_kM (q_sA s 26 (upd (s.1 26) ((v3 + v5).toNatClampNeg) ((s.1 11) ((v1 + v5).toNatClampNeg)))) c n))) rfl q_wM26 i1756 ?_
      refine q_RP_seg (g2 := (3, [(5, .int (v5 + 1)), (0, .ref 75), (1, .int v1), (2, .ref 90), (3, .int v3), (4, .int v4)], [], (q_kM (q_sA s 26 (upd (s.1 26) ((v3 + v5).toNatClampNeg) ((s.1 11) ((v1 + v5).toNatClampNeg)))) c n))) 2 (fun _ _ => rfl) ?_
      exact q_RP_xt (q_xt_mk (q_mn1 1 rfl (q_mn1 2 rfl (q_mn1 3 rfl (q_mn1 4 rfl (q_mn1 5 rfl (q_mn1 0 rfl q_mn0)))))) rfl) (hk3 (q_sA s 26 (upd (s.1 26) ((v3 + v5).toNatClampNeg) ((s.1 11) ((v1 + v5).toNatClampNeg)))) v1 v3 v4 (v5 + 1))
    | false =>
      refine q_RP_cF ?_
      refine q_RP_rsT (g2 := (28, [(0, .ref 75), (1, .int v1), (2, .ref 90), (3, .int v3), (4, .int v4), (5, .int v5)], [], (q_kM s c n))) rfl rfl (q_d_geF h1754) ?_
      exact q_RP_ret rfl rfl rfl
def dz_M304_75_90 (s : q_S) (a1 : Int32) (a3 : Int32) (a4 : Int32) : Option (q_S) :=
  dz_M304_75_90_3 5000 s a1 a3 a4 0
set_option maxHeartbeats 4000000 in
theorem dzt_M304_75_90 (s : q_S) (c n : Nat) (a1 : Int32) (a3 : Int32) (a4 : Int32) (x : q_S) (h : dz_M304_75_90 s a1 a3 a4 = some x) : q_Ca q_TB0 1 303 [.ref 75, .int a1, .ref 90, .int a3, .int a4] (q_kM s c n) ((q_oSM c n) x) := by
  refine q_CaP_of (φ := (q_oSM c n)) (Nat.le_of_ble_eq_true rfl) ?_ h
  clear h
  unfold dz_M304_75_90
  refine q_RP_seg (g2 := (3, [(5, .int 0), (0, .ref 75), (1, .int a1), (2, .ref 90), (3, .int a3), (4, .int a4)], [], (q_kM s c n))) 2 (fun _ _ => rfl) ?_
  exact q_RP_xt (q_xt_mk (q_mn1 1 rfl (q_mn1 2 rfl (q_mn1 3 rfl (q_mn1 4 rfl (q_mn1 5 rfl (q_mn1 0 rfl q_mn0)))))) rfl) (dzt_M304_75_90_3 c n 5000 s a1 a3 a4 0)
def dz_M304_76_91_3 (m : Nat) : q_S → Int32 → Int32 → Int32 → Int32 → Option (q_S) := Nat.rec (motive := fun _ => q_S → Int32 → Int32 → Int32 → Int32 → Option (q_S)) (fun _ _ _ _ _ => none) (fun _ k3 s v1 v3 v4 v5 =>
  cond (decide (v5 < v4)) (cond (q_in (v1 + v5) 3) (cond (q_in (v3 + v5) 9) (k3 (q_sA s 27 (upd (s.1 27) ((v3 + v5).toNatClampNeg) ((s.1 12) ((v1 + v5).toNatClampNeg)))) v1 v3 v4 (v5 + 1)) none) none) (some s)) m
theorem dzs_M304_76_91_3 (m : Nat) (s : q_S) (v1 : Int32) (v3 : Int32) (v4 : Int32) (v5 : Int32) : dz_M304_76_91_3 (m + 1) s v1 v3 v4 v5 = (fun k3 : q_S → Int32 → Int32 → Int32 → Int32 → Option (q_S) =>
  cond (decide (v5 < v4)) (cond (q_in (v1 + v5) 3) (cond (q_in (v3 + v5) 9) (k3 (q_sA s 27 (upd (s.1 27) ((v3 + v5).toNatClampNeg) ((s.1 12) ((v1 + v5).toNatClampNeg)))) v1 v3 v4 (v5 + 1)) none) none) (some s)) (dz_M304_76_91_3 m) := rfl
set_option maxHeartbeats 4000000 in
theorem dzt_M304_76_91_3 (c n : Nat) : ∀ (m : Nat) (s : q_S) (v1 : Int32) (v3 : Int32) (v4 : Int32) (v5 : Int32), q_RP q_TB0 0 303 (3, [(0, .ref 76), (1, .int v1), (2, .ref 91), (3, .int v3), (4, .int v4), (5, .int v5)], [], (q_kM s c n)) (q_oSM c n) (dz_M304_76_91_3 m s v1 v3 v4 v5) := by
  intro m
  induction m with
  | zero => intro s v1 v3 v4 v5; exact q_RP_no
  | succ m ih =>
    intro s v1 v3 v4 v5
    have hk3 := ih
    clear ih
    rw [dzs_M304_76_91_3]
    generalize dz_M304_76_91_3 m = k3 at hk3 ⊢
    dsimp only
    refine q_RP_seg (g2 := (7, [(0, .ref 76), (1, .int v1), (2, .ref 91), (3, .int v3), (4, .int v4), (5, .int v5)], [.int v4, .int v5], (q_kM s c n))) 2 (fun _ _ => rfl) ?_
    cases h1757 : decide (v5 < v4) with
    | true =>
      refine q_RP_cT ?_
      refine q_RP_rsF (g2 := (10, [(0, .ref 76), (1, .int v1), (2, .ref 91), (3, .int v3), (4, .int v4), (5, .int v5)], [], (q_kM s c n))) rfl rfl (q_d_geT h1757) ?_
      refine q_RP_seg (g2 := (20, [(0, .ref 76), (1, .int v1), (2, .ref 91), (3, .int v3), (4, .int v4), (5, .int v5)], [.int (v1 + v5), .ref 76, .int (v3 + v5), .ref 91], (q_kM s c n))) 8 (fun _ _ => rfl) ?_
      refine q_RP_as fun i1758 => ?_
      refine q_RP_rsT (g2 := (21, [(0, .ref 76), (1, .int v1), (2, .ref 91), (3, .int v3), (4, .int v4), (5, .int v5)], [.int ((s.1 12) ((v1 + v5).toNatClampNeg)), .int (v3 + v5), .ref 91], (q_kM s c n))) rfl rfl i1758 ?_
      refine q_RP_as fun i1759 => ?_
      refine q_RP_rsT (g2 := (22, [(0, .ref 76), (1, .int v1), (2, .ref 91), (3, .int v3), (4, .int v4), (5, .int v5)], [], (q_kM (q_sA s 27 (upd (s.1 27) ((v3 + v5).toNatClampNeg) ((s.1 12) ((v1 + v5).toNatClampNeg)))) c n))) rfl q_wM27 i1759 ?_
      refine q_RP_seg (g2 := (3, [(5, .int (v5 + 1)), (0, .ref 76), (1, .int v1), (2, .ref 91), (3, .int v3), (4, .int v4)], [], (q_kM (q_sA s 27 (upd (s.1 27) ((v3 + v5).toNatClampNeg) ((s.1 12) ((v1 + v5).toNatClampNeg)))) c n))) 2 (fun _ _ => rfl) ?_
      exact q_RP_xt (q_xt_mk (q_mn1 1 rfl (q_mn1 2 rfl (q_mn1 3 rfl (q_mn1 4 rfl (q_mn1 5 rfl (q_mn1 0 rfl q_mn0)))))) rfl) (hk3 (q_sA s 27 (upd (s.1 27) ((v3 + v5).toNatClampNeg) ((s.1 12) ((v1 + v5).toNatClampNeg)))) v1 v3 v4 (v5 + 1))
    | false =>
      refine q_RP_cF ?_
      refine q_RP_rsT (g2 := (28, [(0, .ref 76), (1, .int v1), (2, .ref 91), (3, .int v3), (4, .int v4), (5, .int v5)], [], (q_kM s c n))) rfl rfl (q_d_geF h1757) ?_
      exact q_RP_ret rfl rfl rfl
def dz_M304_76_91 (s : q_S) (a1 : Int32) (a3 : Int32) (a4 : Int32) : Option (q_S) :=
  dz_M304_76_91_3 5000 s a1 a3 a4 0
set_option maxHeartbeats 4000000 in
theorem dzt_M304_76_91 (s : q_S) (c n : Nat) (a1 : Int32) (a3 : Int32) (a4 : Int32) (x : q_S) (h : dz_M304_76_91 s a1 a3 a4 = some x) : q_Ca q_TB0 1 303 [.ref 76, .int a1, .ref 91, .int a3, .int a4] (q_kM s c n) ((q_oSM c n) x) := by
  refine q_CaP_of (φ := (q_oSM c n)) (Nat.le_of_ble_eq_true rfl) ?_ h
  clear h
  unfold dz_M304_76_91
  refine q_RP_seg (g2 := (3, [(5, .int 0), (0, .ref 76), (1, .int a1), (2, .ref 91), (3, .int a3), (4, .int a4)], [], (q_kM s c n))) 2 (fun _ _ => rfl) ?_
  exact q_RP_xt (q_xt_mk (q_mn1 1 rfl (q_mn1 2 rfl (q_mn1 3 rfl (q_mn1 4 rfl (q_mn1 5 rfl (q_mn1 0 rfl q_mn0)))))) rfl) (dzt_M304_76_91_3 c n 5000 s a1 a3 a4 0)
def dz_M304_77_92_3 (m : Nat) : q_S → Int32 → Int32 → Int32 → Int32 → Option (q_S) := Nat.rec (motive := fun _ => q_S → Int32 → Int32 → Int32 → Int32 → Option (q_S)) (fun _ _ _ _ _ => none) (fun _ k3 s v1 v3 v4 v5 =>
  cond (decide (v5 < v4)) (cond (q_in (v1 + v5) 3) (cond (q_in (v3 + v5) 9) (k3 (q_sA s 28 (upd (s.1 28) ((v3 + v5).toNatClampNeg) ((s.1 13) ((v1 + v5).toNatClampNeg)))) v1 v3 v4 (v5 + 1)) none) none) (some s)) m
theorem dzs_M304_77_92_3 (m : Nat) (s : q_S) (v1 : Int32) (v3 : Int32) (v4 : Int32) (v5 : Int32) : dz_M304_77_92_3 (m + 1) s v1 v3 v4 v5 = (fun k3 : q_S → Int32 → Int32 → Int32 → Int32 → Option (q_S) =>
  cond (decide (v5 < v4)) (cond (q_in (v1 + v5) 3) (cond (q_in (v3 + v5) 9) (k3 (q_sA s 28 (upd (s.1 28) ((v3 + v5).toNatClampNeg) ((s.1 13) ((v1 + v5).toNatClampNeg)))) v1 v3 v4 (v5 + 1)) none) none) (some s)) (dz_M304_77_92_3 m) := rfl
set_option maxHeartbeats 4000000 in
theorem dzt_M304_77_92_3 (c n : Nat) : ∀ (m : Nat) (s : q_S) (v1 : Int32) (v3 : Int32) (v4 : Int32) (v5 : Int32), q_RP q_TB0 0 303 (3, [(0, .ref 77), (1, .int v1), (2, .ref 92), (3, .int v3), (4, .int v4), (5, .int v5)], [], (q_kM s c n)) (q_oSM c n) (dz_M304_77_92_3 m s v1 v3 v4 v5) := by
  intro m
  induction m with
  | zero => intro s v1 v3 v4 v5; exact q_RP_no
  | succ m ih =>
    intro s v1 v3 v4 v5
    have hk3 := ih
    clear ih
    rw [dzs_M304_77_92_3]
    generalize dz_M304_77_92_3 m = k3 at hk3 ⊢
    dsimp only
    refine q_RP_seg (g2 := (7, [(0, .ref 77), (1, .int v1), (2, .ref 92), (3, .int v3), (4, .int v4), (5, .int v5)], [.int v4, .int v5], (q_kM s c n))) 2 (fun _ _ => rfl) ?_
    cases h1760 : decide (v5 < v4) with
    | true =>
      refine q_RP_cT ?_
      refine q_RP_rsF (g2 := (10, [(0, .ref 77), (1, .int v1), (2, .ref 92), (3, .int v3), (4, .int v4), (5, .int v5)], [], (q_kM s c n))) rfl rfl (q_d_geT h1760) ?_
      refine q_RP_seg (g2 := (20, [(0, .ref 77), (1, .int v1), (2, .ref 92), (3, .int v3), (4, .int v4), (5, .int v5)], [.int (v1 + v5), .ref 77, .int (v3 + v5), .ref 92], (q_kM s c n))) 8 (fun _ _ => rfl) ?_
      refine q_RP_as fun i1761 => ?_
      refine q_RP_rsT (g2 := (21, [(0, .ref 77), (1, .int v1), (2, .ref 92), (3, .int v3), (4, .int v4), (5, .int v5)], [.int ((s.1 13) ((v1 + v5).toNatClampNeg)), .int (v3 + v5), .ref 92], (q_kM s c n))) rfl rfl i1761 ?_
      refine q_RP_as fun i1762 => ?_
      refine q_RP_rsT (g2 := (22, [(0, .ref 77), (1, .int v1), (2, .ref 92), (3, .int v3), (4, .int v4), (5, .int v5)], [], (q_kM (q_sA s 28 (upd (s.1 28) ((v3 + v5).toNatClampNeg) ((s.1 13) ((v1 + v5).toNatClampNeg)))) c n))) rfl q_wM28 i1762 ?_
      refine q_RP_seg (g2 := (3, [(5, .int (v5 + 1)), (0, .ref 77), (1, .int v1), (2, .ref 92), (3, .int v3), (4, .int v4)], [], (q_kM (q_sA s 28 (upd (s.1 28) ((v3 + v5).toNatClampNeg) ((s.1 13) ((v1 + v5).toNatClampNeg)))) c n))) 2 (fun _ _ => rfl) ?_
      exact q_RP_xt (q_xt_mk (q_mn1 1 rfl (q_mn1 2 rfl (q_mn1 3 rfl (q_mn1 4 rfl (q_mn1 5 rfl (q_mn1 0 rfl q_mn0)))))) rfl) (hk3 (q_sA s 28 (upd (s.1 28) ((v3 + v5).toNatClampNeg) ((s.1 13) ((v1 + v5).toNatClampNeg)))) v1 v3 v4 (v5 + 1))
    | false =>
      refine q_RP_cF ?_
      refine q_RP_rsT (g2 := (28, [(0, .ref 77), (1, .int v1), (2, .ref 92), (3, .int v3), (4, .int v4), (5, .int v5)], [], (q_kM s c n))) rfl rfl (q_d_geF h1760) ?_
      exact q_RP_ret rfl rfl rfl
def dz_M304_77_92 (s : q_S) (a1 : Int32) (a3 : Int32) (a4 : Int32) : Option (q_S) :=
  dz_M304_77_92_3 5000 s a1 a3 a4 0
set_option maxHeartbeats 4000000 in
theorem dzt_M304_77_92 (s : q_S) (c n : Nat) (a1 : Int32) (a3 : Int32) (a4 : Int32) (x : q_S) (h : dz_M304_77_92 s a1 a3 a4 = some x) : q_Ca q_TB0 1 303 [.ref 77, .int a1, .ref 92, .int a3, .int a4] (q_kM s c n) ((q_oSM c n) x) := by
  refine q_CaP_of (φ := (q_oSM c n)) (Nat.le_of_ble_eq_true rfl) ?_ h
  clear h
  unfold dz_M304_77_92
  refine q_RP_seg (g2 := (3, [(5, .int 0), (0, .ref 77), (1, .int a1), (2, .ref 92), (3, .int a3), (4, .int a4)], [], (q_kM s c n))) 2 (fun _ _ => rfl) ?_
  exact q_RP_xt (q_xt_mk (q_mn1 1 rfl (q_mn1 2 rfl (q_mn1 3 rfl (q_mn1 4 rfl (q_mn1 5 rfl (q_mn1 0 rfl q_mn0)))))) rfl) (dzt_M304_77_92_3 c n 5000 s a1 a3 a4 0)
def dz_M304_78_93_3 (m : Nat) : q_S → Int32 → Int32 → Int32 → Int32 → Option (q_S) := Nat.rec (motive := fun _ => q_S → Int32 → Int32 → Int32 → Int32 → Option (q_S)) (fun _ _ _ _ _ => none) (fun _ k3 s v1 v3 v4 v5 =>
  cond (decide (v5 < v4)) (cond (q_in (v1 + v5) 24) (cond (q_in (v3 + v5) 72) (k3 (q_sA s 29 (upd (s.1 29) ((v3 + v5).toNatClampNeg) ((s.1 14) ((v1 + v5).toNatClampNeg)))) v1 v3 v4 (v5 + 1)) none) none) (some s)) m
theorem dzs_M304_78_93_3 (m : Nat) (s : q_S) (v1 : Int32) (v3 : Int32) (v4 : Int32) (v5 : Int32) : dz_M304_78_93_3 (m + 1) s v1 v3 v4 v5 = (fun k3 : q_S → Int32 → Int32 → Int32 → Int32 → Option (q_S) =>
  cond (decide (v5 < v4)) (cond (q_in (v1 + v5) 24) (cond (q_in (v3 + v5) 72) (k3 (q_sA s 29 (upd (s.1 29) ((v3 + v5).toNatClampNeg) ((s.1 14) ((v1 + v5).toNatClampNeg)))) v1 v3 v4 (v5 + 1)) none) none) (some s)) (dz_M304_78_93_3 m) := rfl
set_option maxHeartbeats 4000000 in
theorem dzt_M304_78_93_3 (c n : Nat) : ∀ (m : Nat) (s : q_S) (v1 : Int32) (v3 : Int32) (v4 : Int32) (v5 : Int32), q_RP q_TB0 0 303 (3, [(0, .ref 78), (1, .int v1), (2, .ref 93), (3, .int v3), (4, .int v4), (5, .int v5)], [], (q_kM s c n)) (q_oSM c n) (dz_M304_78_93_3 m s v1 v3 v4 v5) := by
  intro m
  induction m with
  | zero => intro s v1 v3 v4 v5; exact q_RP_no
  | succ m ih =>
    intro s v1 v3 v4 v5
    have hk3 := ih
    clear ih
    rw [dzs_M304_78_93_3]
    generalize dz_M304_78_93_3 m = k3 at hk3 ⊢
    dsimp only
    refine q_RP_seg (g2 := (7, [(0, .ref 78), (1, .int v1), (2, .ref 93), (3, .int v3), (4, .int v4), (5, .int v5)], [.int v4, .int v5], (q_kM s c n))) 2 (fun _ _ => rfl) ?_
    cases h1763 : decide (v5 < v4) with
    | true =>
      refine q_RP_cT ?_
      refine q_RP_rsF (g2 := (10, [(0, .ref 78), (1, .int v1), (2, .ref 93), (3, .int v3), (4, .int v4), (5, .int v5)], [], (q_kM s c n))) rfl rfl (q_d_geT h1763) ?_
      refine q_RP_seg (g2 := (20, [(0, .ref 78), (1, .int v1), (2, .ref 93), (3, .int v3), (4, .int v4), (5, .int v5)], [.int (v1 + v5), .ref 78, .int (v3 + v5), .ref 93], (q_kM s c n))) 8 (fun _ _ => rfl) ?_
      refine q_RP_as fun i1764 => ?_
      refine q_RP_rsT (g2 := (21, [(0, .ref 78), (1, .int v1), (2, .ref 93), (3, .int v3), (4, .int v4), (5, .int v5)], [.int ((s.1 14) ((v1 + v5).toNatClampNeg)), .int (v3 + v5), .ref 93], (q_kM s c n))) rfl rfl i1764 ?_
      refine q_RP_as fun i1765 => ?_
      refine q_RP_rsT (g2 := (22, [(0, .ref 78), (1, .int v1), (2, .ref 93), (3, .int v3), (4, .int v4), (5, .int v5)], [], (q_kM (q_sA s 29 (upd (s.1 29) ((v3 + v5).toNatClampNeg) ((s.1 14) ((v1 + v5).toNatClampNeg)))) c n))) rfl q_wM29 i1765 ?_
      refine q_RP_seg (g2 := (3, [(5, .int (v5 + 1)), (0, .ref 78), (1, .int v1), (2, .ref 93), (3, .int v3), (4, .int v4)], [], (q_kM (q_sA s 29 (upd (s.1 29) ((v3 + v5).toNatClampNeg) ((s.1 14) ((v1 + v5).toNatClampNeg)))) c n))) 2 (fun _ _ => rfl) ?_
      exact q_RP_xt (q_xt_mk (q_mn1 1 rfl (q_mn1 2 rfl (q_mn1 3 rfl (q_mn1 4 rfl (q_mn1 5 rfl (q_mn1 0 rfl q_mn0)))))) rfl) (hk3 (q_sA s 29 (upd (s.1 29) ((v3 + v5).toNatClampNeg) ((s.1 14) ((v1 + v5).toNatClampNeg)))) v1 v3 v4 (v5 + 1))
    | false =>
      refine q_RP_cF ?_
      refine q_RP_rsT (g2 := (28, [(0, .ref 78), (1, .int v1), (2, .ref 93), (3, .int v3), (4, .int v4), (5, .int v5)], [], (q_kM s c n))) rfl rfl (q_d_geF h1763) ?_
      exact q_RP_ret rfl rfl rfl
def dz_M304_78_93 (s : q_S) (a1 : Int32) (a3 : Int32) (a4 : Int32) : Option (q_S) :=
  dz_M304_78_93_3 5000 s a1 a3 a4 0
set_option maxHeartbeats 4000000 in
theorem dzt_M304_78_93 (s : q_S) (c n : Nat) (a1 : Int32) (a3 : Int32) (a4 : Int32) (x : q_S) (h : dz_M304_78_93 s a1 a3 a4 = some x) : q_Ca q_TB0 1 303 [.ref 78, .int a1, .ref 93, .int a3, .int a4] (q_kM s c n) ((q_oSM c n) x) := by
  refine q_CaP_of (φ := (q_oSM c n)) (Nat.le_of_ble_eq_true rfl) ?_ h
  clear h
  unfold dz_M304_78_93
  refine q_RP_seg (g2 := (3, [(5, .int 0), (0, .ref 78), (1, .int a1), (2, .ref 93), (3, .int a3), (4, .int a4)], [], (q_kM s c n))) 2 (fun _ _ => rfl) ?_
  exact q_RP_xt (q_xt_mk (q_mn1 1 rfl (q_mn1 2 rfl (q_mn1 3 rfl (q_mn1 4 rfl (q_mn1 5 rfl (q_mn1 0 rfl q_mn0)))))) rfl) (dzt_M304_78_93_3 c n 5000 s a1 a3 a4 0)
def dz_M305_71_86_3 (m : Nat) : q_S → Int32 → Int32 → Int32 → Int32 → Option (q_S) := Nat.rec (motive := fun _ => q_S → Int32 → Int32 → Int32 → Int32 → Option (q_S)) (fun _ _ _ _ _ => none) (fun _ k3 s v1 v3 v4 v5 =>
  cond (decide (v5 < v4)) (cond (q_in (v1 + v5) 16) (cond (q_in (v3 + v5) 48) (k3 (q_sA s 22 (upd (s.1 22) ((v3 + v5).toNatClampNeg) (vp_nar .boolean ((s.1 7) ((v1 + v5).toNatClampNeg))))) v1 v3 v4 (v5 + 1)) none) none) (some s)) m
theorem dzs_M305_71_86_3 (m : Nat) (s : q_S) (v1 : Int32) (v3 : Int32) (v4 : Int32) (v5 : Int32) : dz_M305_71_86_3 (m + 1) s v1 v3 v4 v5 = (fun k3 : q_S → Int32 → Int32 → Int32 → Int32 → Option (q_S) =>
  cond (decide (v5 < v4)) (cond (q_in (v1 + v5) 16) (cond (q_in (v3 + v5) 48) (k3 (q_sA s 22 (upd (s.1 22) ((v3 + v5).toNatClampNeg) (vp_nar .boolean ((s.1 7) ((v1 + v5).toNatClampNeg))))) v1 v3 v4 (v5 + 1)) none) none) (some s)) (dz_M305_71_86_3 m) := rfl
set_option maxHeartbeats 4000000 in
theorem dzt_M305_71_86_3 (c n : Nat) : ∀ (m : Nat) (s : q_S) (v1 : Int32) (v3 : Int32) (v4 : Int32) (v5 : Int32), q_RP q_TB0 0 304 (3, [(0, .ref 71), (1, .int v1), (2, .ref 86), (3, .int v3), (4, .int v4), (5, .int v5)], [], (q_kM s c n)) (q_oSM c n) (dz_M305_71_86_3 m s v1 v3 v4 v5) := by
  intro m
  induction m with
  | zero => intro s v1 v3 v4 v5; exact q_RP_no
  | succ m ih =>
    intro s v1 v3 v4 v5
    have hk3 := ih
    clear ih
    rw [dzs_M305_71_86_3]
    generalize dz_M305_71_86_3 m = k3 at hk3 ⊢
    dsimp only
    refine q_RP_seg (g2 := (7, [(0, .ref 71), (1, .int v1), (2, .ref 86), (3, .int v3), (4, .int v4), (5, .int v5)], [.int v4, .int v5], (q_kM s c n))) 2 (fun _ _ => rfl) ?_
    cases h1766 : decide (v5 < v4) with
    | true =>
      refine q_RP_cT ?_
      refine q_RP_rsF (g2 := (10, [(0, .ref 71), (1, .int v1), (2, .ref 86), (3, .int v3), (4, .int v4), (5, .int v5)], [], (q_kM s c n))) rfl rfl (q_d_geT h1766) ?_
      refine q_RP_seg (g2 := (20, [(0, .ref 71), (1, .int v1), (2, .ref 86), (3, .int v3), (4, .int v4), (5, .int v5)], [.int (v1 + v5), .ref 71, .int (v3 + v5), .ref 86], (q_kM s c n))) 8 (fun _ _ => rfl) ?_
      refine q_RP_as fun i1767 => ?_
      refine q_RP_rsT (g2 := (21, [(0, .ref 71), (1, .int v1), (2, .ref 86), (3, .int v3), (4, .int v4), (5, .int v5)], [.int ((s.1 7) ((v1 + v5).toNatClampNeg)), .int (v3 + v5), .ref 86], (q_kM s c n))) rfl rfl i1767 ?_
      refine q_RP_as fun i1768 => ?_
      refine q_RP_rsT (g2 := (22, [(0, .ref 71), (1, .int v1), (2, .ref 86), (3, .int v3), (4, .int v4), (5, .int v5)], [], (q_kM (q_sA s 22 (upd (s.1 22) ((v3 + v5).toNatClampNeg) (vp_nar .boolean ((s.1 7) ((v1 + v5).toNatClampNeg))))) c n))) rfl q_wM22 i1768 ?_
      refine q_RP_seg (g2 := (3, [(5, .int (v5 + 1)), (0, .ref 71), (1, .int v1), (2, .ref 86), (3, .int v3), (4, .int v4)], [], (q_kM (q_sA s 22 (upd (s.1 22) ((v3 + v5).toNatClampNeg) (vp_nar .boolean ((s.1 7) ((v1 + v5).toNatClampNeg))))) c n))) 2 (fun _ _ => rfl) ?_
      exact q_RP_xt (q_xt_mk (q_mn1 1 rfl (q_mn1 2 rfl (q_mn1 3 rfl (q_mn1 4 rfl (q_mn1 5 rfl (q_mn1 0 rfl q_mn0)))))) rfl) (hk3 (q_sA s 22 (upd (s.1 22) ((v3 + v5).toNatClampNeg) (vp_nar .boolean ((s.1 7) ((v1 + v5).toNatClampNeg))))) v1 v3 v4 (v5 + 1))
    | false =>
      refine q_RP_cF ?_
      refine q_RP_rsT (g2 := (28, [(0, .ref 71), (1, .int v1), (2, .ref 86), (3, .int v3), (4, .int v4), (5, .int v5)], [], (q_kM s c n))) rfl rfl (q_d_geF h1766) ?_
      exact q_RP_ret rfl rfl rfl
def dz_M305_71_86 (s : q_S) (a1 : Int32) (a3 : Int32) (a4 : Int32) : Option (q_S) :=
  dz_M305_71_86_3 5000 s a1 a3 a4 0
set_option maxHeartbeats 4000000 in
theorem dzt_M305_71_86 (s : q_S) (c n : Nat) (a1 : Int32) (a3 : Int32) (a4 : Int32) (x : q_S) (h : dz_M305_71_86 s a1 a3 a4 = some x) : q_Ca q_TB0 1 304 [.ref 71, .int a1, .ref 86, .int a3, .int a4] (q_kM s c n) ((q_oSM c n) x) := by
  refine q_CaP_of (φ := (q_oSM c n)) (Nat.le_of_ble_eq_true rfl) ?_ h
  clear h
  unfold dz_M305_71_86
  refine q_RP_seg (g2 := (3, [(5, .int 0), (0, .ref 71), (1, .int a1), (2, .ref 86), (3, .int a3), (4, .int a4)], [], (q_kM s c n))) 2 (fun _ _ => rfl) ?_
  exact q_RP_xt (q_xt_mk (q_mn1 1 rfl (q_mn1 2 rfl (q_mn1 3 rfl (q_mn1 4 rfl (q_mn1 5 rfl (q_mn1 0 rfl q_mn0)))))) rfl) (dzt_M305_71_86_3 c n 5000 s a1 a3 a4 0)
def dz_M305_79_94_3 (m : Nat) : q_S → Int32 → Int32 → Int32 → Int32 → Option (q_S) := Nat.rec (motive := fun _ => q_S → Int32 → Int32 → Int32 → Int32 → Option (q_S)) (fun _ _ _ _ _ => none) (fun _ k3 s v1 v3 v4 v5 =>
  cond (decide (v5 < v4)) (cond (q_in (v1 + v5) 8) (cond (q_in (v3 + v5) 24) (k3 (q_sA s 30 (upd (s.1 30) ((v3 + v5).toNatClampNeg) (vp_nar .boolean ((s.1 15) ((v1 + v5).toNatClampNeg))))) v1 v3 v4 (v5 + 1)) none) none) (some s)) m
theorem dzs_M305_79_94_3 (m : Nat) (s : q_S) (v1 : Int32) (v3 : Int32) (v4 : Int32) (v5 : Int32) : dz_M305_79_94_3 (m + 1) s v1 v3 v4 v5 = (fun k3 : q_S → Int32 → Int32 → Int32 → Int32 → Option (q_S) =>
  cond (decide (v5 < v4)) (cond (q_in (v1 + v5) 8) (cond (q_in (v3 + v5) 24) (k3 (q_sA s 30 (upd (s.1 30) ((v3 + v5).toNatClampNeg) (vp_nar .boolean ((s.1 15) ((v1 + v5).toNatClampNeg))))) v1 v3 v4 (v5 + 1)) none) none) (some s)) (dz_M305_79_94_3 m) := rfl
set_option maxHeartbeats 4000000 in
theorem dzt_M305_79_94_3 (c n : Nat) : ∀ (m : Nat) (s : q_S) (v1 : Int32) (v3 : Int32) (v4 : Int32) (v5 : Int32), q_RP q_TB0 0 304 (3, [(0, .ref 79), (1, .int v1), (2, .ref 94), (3, .int v3), (4, .int v4), (5, .int v5)], [], (q_kM s c n)) (q_oSM c n) (dz_M305_79_94_3 m s v1 v3 v4 v5) := by
  intro m
  induction m with
  | zero => intro s v1 v3 v4 v5; exact q_RP_no
  | succ m ih =>
    intro s v1 v3 v4 v5
    have hk3 := ih
    clear ih
    rw [dzs_M305_79_94_3]
    generalize dz_M305_79_94_3 m = k3 at hk3 ⊢
    dsimp only
    refine q_RP_seg (g2 := (7, [(0, .ref 79), (1, .int v1), (2, .ref 94), (3, .int v3), (4, .int v4), (5, .int v5)], [.int v4, .int v5], (q_kM s c n))) 2 (fun _ _ => rfl) ?_
    cases h1769 : decide (v5 < v4) with
    | true =>
      refine q_RP_cT ?_
      refine q_RP_rsF (g2 := (10, [(0, .ref 79), (1, .int v1), (2, .ref 94), (3, .int v3), (4, .int v4), (5, .int v5)], [], (q_kM s c n))) rfl rfl (q_d_geT h1769) ?_
      refine q_RP_seg (g2 := (20, [(0, .ref 79), (1, .int v1), (2, .ref 94), (3, .int v3), (4, .int v4), (5, .int v5)], [.int (v1 + v5), .ref 79, .int (v3 + v5), .ref 94], (q_kM s c n))) 8 (fun _ _ => rfl) ?_
      refine q_RP_as fun i1770 => ?_
      refine q_RP_rsT (g2 := (21, [(0, .ref 79), (1, .int v1), (2, .ref 94), (3, .int v3), (4, .int v4), (5, .int v5)], [.int ((s.1 15) ((v1 + v5).toNatClampNeg)), .int (v3 + v5), .ref 94], (q_kM s c n))) rfl rfl i1770 ?_
      refine q_RP_as fun i1771 => ?_
      refine q_RP_rsT (g2 := (22, [(0, .ref 79), (1, .int v1), (2, .ref 94), (3, .int v3), (4, .int v4), (5, .int v5)], [], (q_kM (q_sA s 30 (upd (s.1 30) ((v3 + v5).toNatClampNeg) (vp_nar .boolean ((s.1 15) ((v1 + v5).toNatClampNeg))))) c n))) rfl q_wM30 i1771 ?_
      refine q_RP_seg (g2 := (3, [(5, .int (v5 + 1)), (0, .ref 79), (1, .int v1), (2, .ref 94), (3, .int v3), (4, .int v4)], [], (q_kM (q_sA s 30 (upd (s.1 30) ((v3 + v5).toNatClampNeg) (vp_nar .boolean ((s.1 15) ((v1 + v5).toNatClampNeg))))) c n))) 2 (fun _ _ => rfl) ?_
      exact q_RP_xt (q_xt_mk (q_mn1 1 rfl (q_mn1 2 rfl (q_mn1 3 rfl (q_mn1 4 rfl (q_mn1 5 rfl (q_mn1 0 rfl q_mn0)))))) rfl) (hk3 (q_sA s 30 (upd (s.1 30) ((v3 + v5).toNatClampNeg) (vp_nar .boolean ((s.1 15) ((v1 + v5).toNatClampNeg))))) v1 v3 v4 (v5 + 1))
    | false =>
      refine q_RP_cF ?_
      refine q_RP_rsT (g2 := (28, [(0, .ref 79), (1, .int v1), (2, .ref 94), (3, .int v3), (4, .int v4), (5, .int v5)], [], (q_kM s c n))) rfl rfl (q_d_geF h1769) ?_
      exact q_RP_ret rfl rfl rfl
def dz_M305_79_94 (s : q_S) (a1 : Int32) (a3 : Int32) (a4 : Int32) : Option (q_S) :=
  dz_M305_79_94_3 5000 s a1 a3 a4 0
set_option maxHeartbeats 4000000 in
theorem dzt_M305_79_94 (s : q_S) (c n : Nat) (a1 : Int32) (a3 : Int32) (a4 : Int32) (x : q_S) (h : dz_M305_79_94 s a1 a3 a4 = some x) : q_Ca q_TB0 1 304 [.ref 79, .int a1, .ref 94, .int a3, .int a4] (q_kM s c n) ((q_oSM c n) x) := by
  refine q_CaP_of (φ := (q_oSM c n)) (Nat.le_of_ble_eq_true rfl) ?_ h
  clear h
  unfold dz_M305_79_94
  refine q_RP_seg (g2 := (3, [(5, .int 0), (0, .ref 79), (1, .int a1), (2, .ref 94), (3, .int a3), (4, .int a4)], [], (q_kM s c n))) 2 (fun _ _ => rfl) ?_
  exact q_RP_xt (q_xt_mk (q_mn1 1 rfl (q_mn1 2 rfl (q_mn1 3 rfl (q_mn1 4 rfl (q_mn1 5 rfl (q_mn1 0 rfl q_mn0)))))) rfl) (dzt_M305_79_94_3 c n 5000 s a1 a3 a4 0)
def dz_M306_64 (s : q_S) : Option (q_S × Int32) :=
  cond (decide (s.2.1 0 17 = 3)) (q_let (dz_M200_64 s 1) fun r1716 => cond r1716.2 (some (r1716.1, 0)) ((dz_M304_65_80 r1716.1 0 (4096 * (r1716.1.2.1 0 17)) 4096).bind fun r1717 => (dz_M304_66_81 r1717 0 (512 * (r1716.1.2.1 0 17)) 512).bind fun r1718 => (dz_M304_67_82 r1718 0 (2048 * (r1716.1.2.1 0 17)) 2048).bind fun r1719 => (dz_M304_68_83 r1719 0 (48 * (r1716.1.2.1 0 17)) 48).bind fun r1720 => (dz_M304_69_84 r1720 0 (1024 * (r1716.1.2.1 0 17)) 1024).bind fun r1721 => (dz_M304_70_85 r1721 0 (40 * (r1716.1.2.1 0 17)) 40).bind fun r1722 => (dz_M304_72_87 r1722 0 (40 * (r1716.1.2.1 0 17)) 40).bind fun r1723 => (dz_M304_73_88 r1723 0 (16 * (r1716.1.2.1 0 17)) 16).bind fun r1724 => (dz_M304_74_89 r1724 0 (3 * (r1716.1.2.1 0 17)) 3).bind fun r1725 => (dz_M304_75_90 r1725 0 (3 * (r1716.1.2.1 0 17)) 3).bind fun r1726 => (dz_M304_76_91 r1726 0 (3 * (r1716.1.2.1 0 17)) 3).bind fun r1727 => (dz_M304_77_92 r1727 0 (3 * (r1716.1.2.1 0 17)) 3).bind fun r1728 => (dz_M304_78_93 r1728 0 (24 * (r1716.1.2.1 0 17)) 24).bind fun r1729 => (dz_M305_71_86 r1729 0 (16 * (r1716.1.2.1 0 17)) 16).bind fun r1730 => (dz_M305_79_94 r1730 0 (8 * (r1716.1.2.1 0 17)) 8).bind fun r1731 => cond (q_in (2 * (r1716.1.2.1 0 17)) 6) (cond (q_in ((2 * (r1716.1.2.1 0 17)) + 1) 6) (q_let ((q_sL r1731 31 (vp_updL (r1731.2.2 31) ((2 * (r1716.1.2.1 0 17)).toNatClampNeg) (r1731.2.2 0 15)))) fun r1732 => some ((q_sI (q_sL r1732 31 (vp_updL (r1732.2.2 31) (((2 * (r1716.1.2.1 0 17)) + 1).toNatClampNeg) (r1731.2.2 0 16))) 0 17 ((r1732.2.1 0 17) + 1)), (r1716.1.2.1 0 17))) none) none)) (q_let (dz_M200_64 s 0) fun r1733 => cond r1733.2 (some (r1733.1, 0)) ((dz_M304_65_80 r1733.1 0 (4096 * (r1733.1.2.1 0 17)) 4096).bind fun r1734 => (dz_M304_66_81 r1734 0 (512 * (r1733.1.2.1 0 17)) 512).bind fun r1735 => (dz_M304_67_82 r1735 0 (2048 * (r1733.1.2.1 0 17)) 2048).bind fun r1736 => (dz_M304_68_83 r1736 0 (48 * (r1733.1.2.1 0 17)) 48).bind fun r1737 => (dz_M304_69_84 r1737 0 (1024 * (r1733.1.2.1 0 17)) 1024).bind fun r1738 => (dz_M304_70_85 r1738 0 (40 * (r1733.1.2.1 0 17)) 40).bind fun r1739 => (dz_M304_72_87 r1739 0 (40 * (r1733.1.2.1 0 17)) 40).bind fun r1740 => (dz_M304_73_88 r1740 0 (16 * (r1733.1.2.1 0 17)) 16).bind fun r1741 => (dz_M304_74_89 r1741 0 (3 * (r1733.1.2.1 0 17)) 3).bind fun r1742 => (dz_M304_75_90 r1742 0 (3 * (r1733.1.2.1 0 17)) 3).bind fun r1743 => (dz_M304_76_91 r1743 0 (3 * (r1733.1.2.1 0 17)) 3).bind fun r1744 => (dz_M304_77_92 r1744 0 (3 * (r1733.1.2.1 0 17)) 3).bind fun r1745 => (dz_M304_78_93 r1745 0 (24 * (r1733.1.2.1 0 17)) 24).bind fun r1746 => (dz_M305_71_86 r1746 0 (16 * (r1733.1.2.1 0 17)) 16).bind fun r1747 => (dz_M305_79_94 r1747 0 (8 * (r1733.1.2.1 0 17)) 8).bind fun r1748 => cond (q_in (2 * (r1733.1.2.1 0 17)) 6) (cond (q_in ((2 * (r1733.1.2.1 0 17)) + 1) 6) (q_let ((q_sL r1748 31 (vp_updL (r1748.2.2 31) ((2 * (r1733.1.2.1 0 17)).toNatClampNeg) (r1748.2.2 0 15)))) fun r1749 => some ((q_sI (q_sL r1749 31 (vp_updL (r1749.2.2 31) (((2 * (r1733.1.2.1 0 17)) + 1).toNatClampNeg) (r1748.2.2 0 16))) 0 17 ((r1749.2.1 0 17) + 1)), (r1733.1.2.1 0 17))) none) none))
set_option maxHeartbeats 4000000 in
theorem dzt_M306_64 (s : q_S) (c n : Nat) (x : q_S × Int32) (h : dz_M306_64 s = some x) : q_Ca q_TB0 2 305 [.ref 64] (q_kM s c n) ((q_oIM c n) x) := by
  refine q_CaP_of (φ := (q_oIM c n)) (Nat.le_of_ble_eq_true rfl) ?_ h
  clear h
  unfold dz_M306_64
  refine q_RP_seg (g2 := (5, [(0, .ref 64)], [.int (s.2.1 0 17), .ref 64], (q_kM s c n))) 3 (fun _ _ => rfl) ?_
  refine q_RP_seg (g2 := (6, [(0, .ref 64)], [.int 3, .int (s.2.1 0 17), .ref 64], (q_kM s c n))) 1 (fun _ _ => rfl) ?_
  cases h1728 : decide (s.2.1 0 17 = 3) with
  | true =>
    refine q_RP_cT ?_
    refine q_RP_rsF (g2 := (9, [(0, .ref 64)], [.ref 64], (q_kM s c n))) rfl rfl (q_d_neT h1728) ?_
    refine q_RP_seg (g2 := (14, [(0, .ref 64)], [.int 1, .ref 64], (q_kM s c n))) 2 (fun _ _ => rfl) ?_
    refine q_RP_call (v := (some (.int (q_b (dz_M200_64 s 1).2)))) (h2 := (q_kM (dz_M200_64 s 1).1 c n)) rfl rfl ((dzt_M200_64 s c n 1).le (Nat.le_of_ble_eq_true rfl)) ?_
    generalize dz_M200_64 s 1 = r1716
    refine q_RP_let ?_
    show q_RP _ _ _ (17, [(0, .ref 64)], [.int (q_b r1716.2)], (q_kM r1716.1 c n)) _ _
    cases h1729 : r1716.2 with
    | true =>
      refine q_RP_cT ?_
      show q_RP _ _ _ (17, [(0, .ref 64)], [.int 1], (q_kM r1716.1 c n)) _ _
      refine q_RP_seg (g2 := (21, [(0, .ref 64)], [.int 0], (q_kM r1716.1 c n))) 2 (fun _ _ => rfl) ?_
      exact q_RP_ret rfl rfl rfl
    | false =>
      refine q_RP_cF ?_
      show q_RP _ _ _ (17, [(0, .ref 64)], [.int 0], (q_kM r1716.1 c n)) _ _
      refine q_RP_seg (g2 := (26, [(0, .ref 64)], [.int (r1716.1.2.1 0 17)], (q_kM r1716.1 c n))) 3 (fun _ _ => rfl) ?_
      refine q_RP_seg (g2 := (44, [(1, .int (r1716.1.2.1 0 17)), (0, .ref 64)], [.int 4096, .int (4096 * (r1716.1.2.1 0 17)), .ref 80, .int 0, .ref 65], (q_kM r1716.1 c n))) 10 (fun _ _ => rfl) ?_
      refine q_RP_bd fun r1717 er1717 => ?_
      refine q_RP_call (v := none) (h2 := (q_kM r1717 c n)) rfl rfl ((dzt_M304_65_80 r1716.1 c n 0 (4096 * (r1716.1.2.1 0 17)) 4096 r1717 er1717).le (Nat.le_of_ble_eq_true rfl)) ?_
      show q_RP _ _ _ (47, [(1, .int (r1716.1.2.1 0 17)), (0, .ref 64)], [], (q_kM r1717 c n)) _ _
      refine q_RP_seg (g2 := (64, [(1, .int (r1716.1.2.1 0 17)), (0, .ref 64)], [.int 512, .int (512 * (r1716.1.2.1 0 17)), .ref 81, .int 0, .ref 66], (q_kM r1717 c n))) 9 (fun _ _ => rfl) ?_
      refine q_RP_bd fun r1718 er1718 => ?_
      refine q_RP_call (v := none) (h2 := (q_kM r1718 c n)) rfl rfl ((dzt_M304_66_81 r1717 c n 0 (512 * (r1716.1.2.1 0 17)) 512 r1718 er1718).le (Nat.le_of_ble_eq_true rfl)) ?_
      show q_RP _ _ _ (67, [(1, .int (r1716.1.2.1 0 17)), (0, .ref 64)], [], (q_kM r1718 c n)) _ _
      refine q_RP_seg (g2 := (84, [(1, .int (r1716.1.2.1 0 17)), (0, .ref 64)], [.int 2048, .int (2048 * (r1716.1.2.1 0 17)), .ref 82, .int 0, .ref 67], (q_kM r1718 c n))) 9 (fun _ _ => rfl) ?_
      refine q_RP_bd fun r1719 er1719 => ?_
      refine q_RP_call (v := none) (h2 := (q_kM r1719 c n)) rfl rfl ((dzt_M304_67_82 r1718 c n 0 (2048 * (r1716.1.2.1 0 17)) 2048 r1719 er1719).le (Nat.le_of_ble_eq_true rfl)) ?_
      show q_RP _ _ _ (87, [(1, .int (r1716.1.2.1 0 17)), (0, .ref 64)], [], (q_kM r1719 c n)) _ _
      refine q_RP_seg (g2 := (102, [(1, .int (r1716.1.2.1 0 17)), (0, .ref 64)], [.int 48, .int (48 * (r1716.1.2.1 0 17)), .ref 83, .int 0, .ref 68], (q_kM r1719 c n))) 9 (fun _ _ => rfl) ?_
      refine q_RP_bd fun r1720 er1720 => ?_
      refine q_RP_call (v := none) (h2 := (q_kM r1720 c n)) rfl rfl ((dzt_M304_68_83 r1719 c n 0 (48 * (r1716.1.2.1 0 17)) 48 r1720 er1720).le (Nat.le_of_ble_eq_true rfl)) ?_
      show q_RP _ _ _ (105, [(1, .int (r1716.1.2.1 0 17)), (0, .ref 64)], [], (q_kM r1720 c n)) _ _
      refine q_RP_seg (g2 := (122, [(1, .int (r1716.1.2.1 0 17)), (0, .ref 64)], [.int 1024, .int (1024 * (r1716.1.2.1 0 17)), .ref 84, .int 0, .ref 69], (q_kM r1720 c n))) 9 (fun _ _ => rfl) ?_
      refine q_RP_bd fun r1721 er1721 => ?_
      refine q_RP_call (v := none) (h2 := (q_kM r1721 c n)) rfl rfl ((dzt_M304_69_84 r1720 c n 0 (1024 * (r1716.1.2.1 0 17)) 1024 r1721 er1721).le (Nat.le_of_ble_eq_true rfl)) ?_
      show q_RP _ _ _ (125, [(1, .int (r1716.1.2.1 0 17)), (0, .ref 64)], [], (q_kM r1721 c n)) _ _
      refine q_RP_seg (g2 := (140, [(1, .int (r1716.1.2.1 0 17)), (0, .ref 64)], [.int 40, .int (40 * (r1716.1.2.1 0 17)), .ref 85, .int 0, .ref 70], (q_kM r1721 c n))) 9 (fun _ _ => rfl) ?_
      refine q_RP_bd fun r1722 er1722 => ?_
      refine q_RP_call (v := none) (h2 := (q_kM r1722 c n)) rfl rfl ((dzt_M304_70_85 r1721 c n 0 (40 * (r1716.1.2.1 0 17)) 40 r1722 er1722).le (Nat.le_of_ble_eq_true rfl)) ?_
      show q_RP _ _ _ (143, [(1, .int (r1716.1.2.1 0 17)), (0, .ref 64)], [], (q_kM r1722 c n)) _ _
      refine q_RP_seg (g2 := (158, [(1, .int (r1716.1.2.1 0 17)), (0, .ref 64)], [.int 40, .int (40 * (r1716.1.2.1 0 17)), .ref 87, .int 0, .ref 72], (q_kM r1722 c n))) 9 (fun _ _ => rfl) ?_
      refine q_RP_bd fun r1723 er1723 => ?_
      refine q_RP_call (v := none) (h2 := (q_kM r1723 c n)) rfl rfl ((dzt_M304_72_87 r1722 c n 0 (40 * (r1716.1.2.1 0 17)) 40 r1723 er1723).le (Nat.le_of_ble_eq_true rfl)) ?_
      show q_RP _ _ _ (161, [(1, .int (r1716.1.2.1 0 17)), (0, .ref 64)], [], (q_kM r1723 c n)) _ _
      refine q_RP_seg (g2 := (176, [(1, .int (r1716.1.2.1 0 17)), (0, .ref 64)], [.int 16, .int (16 * (r1716.1.2.1 0 17)), .ref 88, .int 0, .ref 73], (q_kM r1723 c n))) 9 (fun _ _ => rfl) ?_
      refine q_RP_bd fun r1724 er1724 => ?_
      refine q_RP_call (v := none) (h2 := (q_kM r1724 c n)) rfl rfl ((dzt_M304_73_88 r1723 c n 0 (16 * (r1716.1.2.1 0 17)) 16 r1724 er1724).le (Nat.le_of_ble_eq_true rfl)) ?_
      show q_RP _ _ _ (179, [(1, .int (r1716.1.2.1 0 17)), (0, .ref 64)], [], (q_kM r1724 c n)) _ _
      refine q_RP_seg (g2 := (192, [(1, .int (r1716.1.2.1 0 17)), (0, .ref 64)], [.int 3, .int (3 * (r1716.1.2.1 0 17)), .ref 89, .int 0, .ref 74], (q_kM r1724 c n))) 9 (fun _ _ => rfl) ?_
      refine q_RP_bd fun r1725 er1725 => ?_
      refine q_RP_call (v := none) (h2 := (q_kM r1725 c n)) rfl rfl ((dzt_M304_74_89 r1724 c n 0 (3 * (r1716.1.2.1 0 17)) 3 r1725 er1725).le (Nat.le_of_ble_eq_true rfl)) ?_
      show q_RP _ _ _ (195, [(1, .int (r1716.1.2.1 0 17)), (0, .ref 64)], [], (q_kM r1725 c n)) _ _
      refine q_RP_seg (g2 := (208, [(1, .int (r1716.1.2.1 0 17)), (0, .ref 64)], [.int 3, .int (3 * (r1716.1.2.1 0 17)), .ref 90, .int 0, .ref 75], (q_kM r1725 c n))) 9 (fun _ _ => rfl) ?_
      refine q_RP_bd fun r1726 er1726 => ?_
      refine q_RP_call (v := none) (h2 := (q_kM r1726 c n)) rfl rfl ((dzt_M304_75_90 r1725 c n 0 (3 * (r1716.1.2.1 0 17)) 3 r1726 er1726).le (Nat.le_of_ble_eq_true rfl)) ?_
      show q_RP _ _ _ (211, [(1, .int (r1716.1.2.1 0 17)), (0, .ref 64)], [], (q_kM r1726 c n)) _ _
      refine q_RP_seg (g2 := (224, [(1, .int (r1716.1.2.1 0 17)), (0, .ref 64)], [.int 3, .int (3 * (r1716.1.2.1 0 17)), .ref 91, .int 0, .ref 76], (q_kM r1726 c n))) 9 (fun _ _ => rfl) ?_
      refine q_RP_bd fun r1727 er1727 => ?_
      refine q_RP_call (v := none) (h2 := (q_kM r1727 c n)) rfl rfl ((dzt_M304_76_91 r1726 c n 0 (3 * (r1716.1.2.1 0 17)) 3 r1727 er1727).le (Nat.le_of_ble_eq_true rfl)) ?_
      show q_RP _ _ _ (227, [(1, .int (r1716.1.2.1 0 17)), (0, .ref 64)], [], (q_kM r1727 c n)) _ _
      refine q_RP_seg (g2 := (240, [(1, .int (r1716.1.2.1 0 17)), (0, .ref 64)], [.int 3, .int (3 * (r1716.1.2.1 0 17)), .ref 92, .int 0, .ref 77], (q_kM r1727 c n))) 9 (fun _ _ => rfl) ?_
      refine q_RP_bd fun r1728 er1728 => ?_
      refine q_RP_call (v := none) (h2 := (q_kM r1728 c n)) rfl rfl ((dzt_M304_77_92 r1727 c n 0 (3 * (r1716.1.2.1 0 17)) 3 r1728 er1728).le (Nat.le_of_ble_eq_true rfl)) ?_
      show q_RP _ _ _ (243, [(1, .int (r1716.1.2.1 0 17)), (0, .ref 64)], [], (q_kM r1728 c n)) _ _
      refine q_RP_seg (g2 := (258, [(1, .int (r1716.1.2.1 0 17)), (0, .ref 64)], [.int 24, .int (24 * (r1716.1.2.1 0 17)), .ref 93, .int 0, .ref 78], (q_kM r1728 c n))) 9 (fun _ _ => rfl) ?_
      refine q_RP_bd fun r1729 er1729 => ?_
      refine q_RP_call (v := none) (h2 := (q_kM r1729 c n)) rfl rfl ((dzt_M304_78_93 r1728 c n 0 (24 * (r1716.1.2.1 0 17)) 24 r1729 er1729).le (Nat.le_of_ble_eq_true rfl)) ?_
      show q_RP _ _ _ (261, [(1, .int (r1716.1.2.1 0 17)), (0, .ref 64)], [], (q_kM r1729 c n)) _ _
      refine q_RP_seg (g2 := (276, [(1, .int (r1716.1.2.1 0 17)), (0, .ref 64)], [.int 16, .int (16 * (r1716.1.2.1 0 17)), .ref 86, .int 0, .ref 71], (q_kM r1729 c n))) 9 (fun _ _ => rfl) ?_
      refine q_RP_bd fun r1730 er1730 => ?_
      refine q_RP_call (v := none) (h2 := (q_kM r1730 c n)) rfl rfl ((dzt_M305_71_86 r1729 c n 0 (16 * (r1716.1.2.1 0 17)) 16 r1730 er1730).le (Nat.le_of_ble_eq_true rfl)) ?_
      show q_RP _ _ _ (279, [(1, .int (r1716.1.2.1 0 17)), (0, .ref 64)], [], (q_kM r1730 c n)) _ _
      refine q_RP_seg (g2 := (294, [(1, .int (r1716.1.2.1 0 17)), (0, .ref 64)], [.int 8, .int (8 * (r1716.1.2.1 0 17)), .ref 94, .int 0, .ref 79], (q_kM r1730 c n))) 9 (fun _ _ => rfl) ?_
      refine q_RP_bd fun r1731 er1731 => ?_
      refine q_RP_call (v := none) (h2 := (q_kM r1731 c n)) rfl rfl ((dzt_M305_79_94 r1730 c n 0 (8 * (r1716.1.2.1 0 17)) 8 r1731 er1731).le (Nat.le_of_ble_eq_true rfl)) ?_
      show q_RP _ _ _ (297, [(1, .int (r1716.1.2.1 0 17)), (0, .ref 64)], [], (q_kM r1731 c n)) _ _
      refine q_RP_seg (g2 := (308, [(1, .int (r1716.1.2.1 0 17)), (0, .ref 64)], [.long (r1731.2.2 0 15), .int (2 * (r1716.1.2.1 0 17)), .ref 95], (q_kM r1731 c n))) 7 (fun _ _ => rfl) ?_
      refine q_RP_as fun i1772 => ?_
      refine q_RP_rsT (g2 := (309, [(1, .int (r1716.1.2.1 0 17)), (0, .ref 64)], [], (q_kM (q_sL r1731 31 (vp_updL (r1731.2.2 31) ((2 * (r1716.1.2.1 0 17)).toNatClampNeg) (r1731.2.2 0 15))) c n))) rfl q_wM31 i1772 ?_
      refine q_RP_seg (g2 := (322, [(1, .int (r1716.1.2.1 0 17)), (0, .ref 64)], [.long (r1731.2.2 0 16), .int ((2 * (r1716.1.2.1 0 17)) + 1), .ref 95], (q_kM (q_sL r1731 31 (vp_updL (r1731.2.2 31) ((2 * (r1716.1.2.1 0 17)).toNatClampNeg) (r1731.2.2 0 15))) c n))) 9 (fun _ _ => rfl) ?_
      refine q_RP_as fun i1773 => ?_
      generalize (q_sL r1731 31 (vp_updL (r1731.2.2 31) ((2 * (r1716.1.2.1 0 17)).toNatClampNeg) (r1731.2.2 0 15))) = r1732
      refine q_RP_let ?_
      show q_RP _ _ _ (322, [(1, .int (r1716.1.2.1 0 17)), (0, .ref 64)], [.long (r1731.2.2 0 16), .int ((2 * (r1716.1.2.1 0 17)) + 1), .ref 95], (q_kM r1732 c n)) _ _
      refine q_RP_rsT (g2 := (323, [(1, .int (r1716.1.2.1 0 17)), (0, .ref 64)], [], (q_kM (q_sL r1732 31 (vp_updL (r1732.2.2 31) (((2 * (r1716.1.2.1 0 17)) + 1).toNatClampNeg) (r1731.2.2 0 16))) c n))) rfl q_wM31 i1773 ?_
      refine q_RP_seg (g2 := (328, [(1, .int (r1716.1.2.1 0 17)), (0, .ref 64)], [.int (r1732.2.1 0 17), .ref 64], (q_kM (q_sL r1732 31 (vp_updL (r1732.2.2 31) (((2 * (r1716.1.2.1 0 17)) + 1).toNatClampNeg) (r1731.2.2 0 16))) c n))) 3 (fun _ _ => rfl) ?_
      refine q_RP_seg (g2 := (334, [(1, .int (r1716.1.2.1 0 17)), (0, .ref 64)], [.int (r1716.1.2.1 0 17)], (q_kM (q_sI (q_sL r1732 31 (vp_updL (r1732.2.2 31) (((2 * (r1716.1.2.1 0 17)) + 1).toNatClampNeg) (r1731.2.2 0 16))) 0 17 ((r1732.2.1 0 17) + 1)) c n))) 4 (fun _ _ => rfl) ?_
      exact q_RP_ret rfl rfl rfl
  | false =>
    refine q_RP_cF ?_
    refine q_RP_rsT (g2 := (13, [(0, .ref 64)], [.ref 64], (q_kM s c n))) rfl rfl (q_d_neF h1728) ?_
    refine q_RP_seg (g2 := (14, [(0, .ref 64)], [.int 0, .ref 64], (q_kM s c n))) 1 (fun _ _ => rfl) ?_
    refine q_RP_call (v := (some (.int (q_b (dz_M200_64 s 0).2)))) (h2 := (q_kM (dz_M200_64 s 0).1 c n)) rfl rfl ((dzt_M200_64 s c n 0).le (Nat.le_of_ble_eq_true rfl)) ?_
    generalize dz_M200_64 s 0 = r1733
    refine q_RP_let ?_
    show q_RP _ _ _ (17, [(0, .ref 64)], [.int (q_b r1733.2)], (q_kM r1733.1 c n)) _ _
    cases h1774 : r1733.2 with
    | true =>
      refine q_RP_cT ?_
      show q_RP _ _ _ (17, [(0, .ref 64)], [.int 1], (q_kM r1733.1 c n)) _ _
      refine q_RP_seg (g2 := (21, [(0, .ref 64)], [.int 0], (q_kM r1733.1 c n))) 2 (fun _ _ => rfl) ?_
      exact q_RP_ret rfl rfl rfl
    | false =>
      refine q_RP_cF ?_
      show q_RP _ _ _ (17, [(0, .ref 64)], [.int 0], (q_kM r1733.1 c n)) _ _
      refine q_RP_seg (g2 := (26, [(0, .ref 64)], [.int (r1733.1.2.1 0 17)], (q_kM r1733.1 c n))) 3 (fun _ _ => rfl) ?_
      refine q_RP_seg (g2 := (44, [(1, .int (r1733.1.2.1 0 17)), (0, .ref 64)], [.int 4096, .int (4096 * (r1733.1.2.1 0 17)), .ref 80, .int 0, .ref 65], (q_kM r1733.1 c n))) 10 (fun _ _ => rfl) ?_
      refine q_RP_bd fun r1734 er1734 => ?_
      refine q_RP_call (v := none) (h2 := (q_kM r1734 c n)) rfl rfl ((dzt_M304_65_80 r1733.1 c n 0 (4096 * (r1733.1.2.1 0 17)) 4096 r1734 er1734).le (Nat.le_of_ble_eq_true rfl)) ?_
      show q_RP _ _ _ (47, [(1, .int (r1733.1.2.1 0 17)), (0, .ref 64)], [], (q_kM r1734 c n)) _ _
      refine q_RP_seg (g2 := (64, [(1, .int (r1733.1.2.1 0 17)), (0, .ref 64)], [.int 512, .int (512 * (r1733.1.2.1 0 17)), .ref 81, .int 0, .ref 66], (q_kM r1734 c n))) 9 (fun _ _ => rfl) ?_
      refine q_RP_bd fun r1735 er1735 => ?_
      refine q_RP_call (v := none) (h2 := (q_kM r1735 c n)) rfl rfl ((dzt_M304_66_81 r1734 c n 0 (512 * (r1733.1.2.1 0 17)) 512 r1735 er1735).le (Nat.le_of_ble_eq_true rfl)) ?_
      show q_RP _ _ _ (67, [(1, .int (r1733.1.2.1 0 17)), (0, .ref 64)], [], (q_kM r1735 c n)) _ _
      refine q_RP_seg (g2 := (84, [(1, .int (r1733.1.2.1 0 17)), (0, .ref 64)], [.int 2048, .int (2048 * (r1733.1.2.1 0 17)), .ref 82, .int 0, .ref 67], (q_kM r1735 c n))) 9 (fun _ _ => rfl) ?_
      refine q_RP_bd fun r1736 er1736 => ?_
      refine q_RP_call (v := none) (h2 := (q_kM r1736 c n)) rfl rfl ((dzt_M304_67_82 r1735 c n 0 (2048 * (r1733.1.2.1 0 17)) 2048 r1736 er1736).le (Nat.le_of_ble_eq_true rfl)) ?_
      show q_RP _ _ _ (87, [(1, .int (r1733.1.2.1 0 17)), (0, .ref 64)], [], (q_kM r1736 c n)) _ _
      refine q_RP_seg (g2 := (102, [(1, .int (r1733.1.2.1 0 17)), (0, .ref 64)], [.int 48, .int (48 * (r1733.1.2.1 0 17)), .ref 83, .int 0, .ref 68], (q_kM r1736 c n))) 9 (fun _ _ => rfl) ?_
      refine q_RP_bd fun r1737 er1737 => ?_
      refine q_RP_call (v := none) (h2 := (q_kM r1737 c n)) rfl rfl ((dzt_M304_68_83 r1736 c n 0 (48 * (r1733.1.2.1 0 17)) 48 r1737 er1737).le (Nat.le_of_ble_eq_true rfl)) ?_
      show q_RP _ _ _ (105, [(1, .int (r1733.1.2.1 0 17)), (0, .ref 64)], [], (q_kM r1737 c n)) _ _
      refine q_RP_seg (g2 := (122, [(1, .int (r1733.1.2.1 0 17)), (0, .ref 64)], [.int 1024, .int (1024 * (r1733.1.2.1 0 17)), .ref 84, .int 0, .ref 69], (q_kM r1737 c n))) 9 (fun _ _ => rfl) ?_
      refine q_RP_bd fun r1738 er1738 => ?_
      refine q_RP_call (v := none) (h2 := (q_kM r1738 c n)) rfl rfl ((dzt_M304_69_84 r1737 c n 0 (1024 * (r1733.1.2.1 0 17)) 1024 r1738 er1738).le (Nat.le_of_ble_eq_true rfl)) ?_
      show q_RP _ _ _ (125, [(1, .int (r1733.1.2.1 0 17)), (0, .ref 64)], [], (q_kM r1738 c n)) _ _
      refine q_RP_seg (g2 := (140, [(1, .int (r1733.1.2.1 0 17)), (0, .ref 64)], [.int 40, .int (40 * (r1733.1.2.1 0 17)), .ref 85, .int 0, .ref 70], (q_kM r1738 c n))) 9 (fun _ _ => rfl) ?_
      refine q_RP_bd fun r1739 er1739 => ?_
      refine q_RP_call (v := none) (h2 := (q_kM r1739 c n)) rfl rfl ((dzt_M304_70_85 r1738 c n 0 (40 * (r1733.1.2.1 0 17)) 40 r1739 er1739).le (Nat.le_of_ble_eq_true rfl)) ?_
      show q_RP _ _ _ (143, [(1, .int (r1733.1.2.1 0 17)), (0, .ref 64)], [], (q_kM r1739 c n)) _ _
      refine q_RP_seg (g2 := (158, [(1, .int (r1733.1.2.1 0 17)), (0, .ref 64)], [.int 40, .int (40 * (r1733.1.2.1 0 17)), .ref 87, .int 0, .ref 72], (q_kM r1739 c n))) 9 (fun _ _ => rfl) ?_
      refine q_RP_bd fun r1740 er1740 => ?_
      refine q_RP_call (v := none) (h2 := (q_kM r1740 c n)) rfl rfl ((dzt_M304_72_87 r1739 c n 0 (40 * (r1733.1.2.1 0 17)) 40 r1740 er1740).le (Nat.le_of_ble_eq_true rfl)) ?_
      show q_RP _ _ _ (161, [(1, .int (r1733.1.2.1 0 17)), (0, .ref 64)], [], (q_kM r1740 c n)) _ _
      refine q_RP_seg (g2 := (176, [(1, .int (r1733.1.2.1 0 17)), (0, .ref 64)], [.int 16, .int (16 * (r1733.1.2.1 0 17)), .ref 88, .int 0, .ref 73], (q_kM r1740 c n))) 9 (fun _ _ => rfl) ?_
      refine q_RP_bd fun r1741 er1741 => ?_
      refine q_RP_call (v := none) (h2 := (q_kM r1741 c n)) rfl rfl ((dzt_M304_73_88 r1740 c n 0 (16 * (r1733.1.2.1 0 17)) 16 r1741 er1741).le (Nat.le_of_ble_eq_true rfl)) ?_
      show q_RP _ _ _ (179, [(1, .int (r1733.1.2.1 0 17)), (0, .ref 64)], [], (q_kM r1741 c n)) _ _
      refine q_RP_seg (g2 := (192, [(1, .int (r1733.1.2.1 0 17)), (0, .ref 64)], [.int 3, .int (3 * (r1733.1.2.1 0 17)), .ref 89, .int 0, .ref 74], (q_kM r1741 c n))) 9 (fun _ _ => rfl) ?_
      refine q_RP_bd fun r1742 er1742 => ?_
      refine q_RP_call (v := none) (h2 := (q_kM r1742 c n)) rfl rfl ((dzt_M304_74_89 r1741 c n 0 (3 * (r1733.1.2.1 0 17)) 3 r1742 er1742).le (Nat.le_of_ble_eq_true rfl)) ?_
      show q_RP _ _ _ (195, [(1, .int (r1733.1.2.1 0 17)), (0, .ref 64)], [], (q_kM r1742 c n)) _ _
      refine q_RP_seg (g2 := (208, [(1, .int (r1733.1.2.1 0 17)), (0, .ref 64)], [.int 3, .int (3 * (r1733.1.2.1 0 17)), .ref 90, .int 0, .ref 75], (q_kM r1742 c n))) 9 (fun _ _ => rfl) ?_
      refine q_RP_bd fun r1743 er1743 => ?_
      refine q_RP_call (v := none) (h2 := (q_kM r1743 c n)) rfl rfl ((dzt_M304_75_90 r1742 c n 0 (3 * (r1733.1.2.1 0 17)) 3 r1743 er1743).le (Nat.le_of_ble_eq_true rfl)) ?_
      show q_RP _ _ _ (211, [(1, .int (r1733.1.2.1 0 17)), (0, .ref 64)], [], (q_kM r1743 c n)) _ _
      refine q_RP_seg (g2 := (224, [(1, .int (r1733.1.2.1 0 17)), (0, .ref 64)], [.int 3, .int (3 * (r1733.1.2.1 0 17)), .ref 91, .int 0, .ref 76], (q_kM r1743 c n))) 9 (fun _ _ => rfl) ?_
      refine q_RP_bd fun r1744 er1744 => ?_
      refine q_RP_call (v := none) (h2 := (q_kM r1744 c n)) rfl rfl ((dzt_M304_76_91 r1743 c n 0 (3 * (r1733.1.2.1 0 17)) 3 r1744 er1744).le (Nat.le_of_ble_eq_true rfl)) ?_
      show q_RP _ _ _ (227, [(1, .int (r1733.1.2.1 0 17)), (0, .ref 64)], [], (q_kM r1744 c n)) _ _
      refine q_RP_seg (g2 := (240, [(1, .int (r1733.1.2.1 0 17)), (0, .ref 64)], [.int 3, .int (3 * (r1733.1.2.1 0 17)), .ref 92, .int 0, .ref 77], (q_kM r1744 c n))) 9 (fun _ _ => rfl) ?_
      refine q_RP_bd fun r1745 er1745 => ?_
      refine q_RP_call (v := none) (h2 := (q_kM r1745 c n)) rfl rfl ((dzt_M304_77_92 r1744 c n 0 (3 * (r1733.1.2.1 0 17)) 3 r1745 er1745).le (Nat.le_of_ble_eq_true rfl)) ?_
      show q_RP _ _ _ (243, [(1, .int (r1733.1.2.1 0 17)), (0, .ref 64)], [], (q_kM r1745 c n)) _ _
      refine q_RP_seg (g2 := (258, [(1, .int (r1733.1.2.1 0 17)), (0, .ref 64)], [.int 24, .int (24 * (r1733.1.2.1 0 17)), .ref 93, .int 0, .ref 78], (q_kM r1745 c n))) 9 (fun _ _ => rfl) ?_
      refine q_RP_bd fun r1746 er1746 => ?_
      refine q_RP_call (v := none) (h2 := (q_kM r1746 c n)) rfl rfl ((dzt_M304_78_93 r1745 c n 0 (24 * (r1733.1.2.1 0 17)) 24 r1746 er1746).le (Nat.le_of_ble_eq_true rfl)) ?_
      show q_RP _ _ _ (261, [(1, .int (r1733.1.2.1 0 17)), (0, .ref 64)], [], (q_kM r1746 c n)) _ _
      refine q_RP_seg (g2 := (276, [(1, .int (r1733.1.2.1 0 17)), (0, .ref 64)], [.int 16, .int (16 * (r1733.1.2.1 0 17)), .ref 86, .int 0, .ref 71], (q_kM r1746 c n))) 9 (fun _ _ => rfl) ?_
      refine q_RP_bd fun r1747 er1747 => ?_
      refine q_RP_call (v := none) (h2 := (q_kM r1747 c n)) rfl rfl ((dzt_M305_71_86 r1746 c n 0 (16 * (r1733.1.2.1 0 17)) 16 r1747 er1747).le (Nat.le_of_ble_eq_true rfl)) ?_
      show q_RP _ _ _ (279, [(1, .int (r1733.1.2.1 0 17)), (0, .ref 64)], [], (q_kM r1747 c n)) _ _
      refine q_RP_seg (g2 := (294, [(1, .int (r1733.1.2.1 0 17)), (0, .ref 64)], [.int 8, .int (8 * (r1733.1.2.1 0 17)), .ref 94, .int 0, .ref 79], (q_kM r1747 c n))) 9 (fun _ _ => rfl) ?_
      refine q_RP_bd fun r1748 er1748 => ?_
      refine q_RP_call (v := none) (h2 := (q_kM r1748 c n)) rfl rfl ((dzt_M305_79_94 r1747 c n 0 (8 * (r1733.1.2.1 0 17)) 8 r1748 er1748).le (Nat.le_of_ble_eq_true rfl)) ?_
      show q_RP _ _ _ (297, [(1, .int (r1733.1.2.1 0 17)), (0, .ref 64)], [], (q_kM r1748 c n)) _ _
      refine q_RP_seg (g2 := (308, [(1, .int (r1733.1.2.1 0 17)), (0, .ref 64)], [.long (r1748.2.2 0 15), .int (2 * (r1733.1.2.1 0 17)), .ref 95], (q_kM r1748 c n))) 7 (fun _ _ => rfl) ?_
      refine q_RP_as fun i1775 => ?_
      refine q_RP_rsT (g2 := (309, [(1, .int (r1733.1.2.1 0 17)), (0, .ref 64)], [], (q_kM (q_sL r1748 31 (vp_updL (r1748.2.2 31) ((2 * (r1733.1.2.1 0 17)).toNatClampNeg) (r1748.2.2 0 15))) c n))) rfl q_wM31 i1775 ?_
      refine q_RP_seg (g2 := (322, [(1, .int (r1733.1.2.1 0 17)), (0, .ref 64)], [.long (r1748.2.2 0 16), .int ((2 * (r1733.1.2.1 0 17)) + 1), .ref 95], (q_kM (q_sL r1748 31 (vp_updL (r1748.2.2 31) ((2 * (r1733.1.2.1 0 17)).toNatClampNeg) (r1748.2.2 0 15))) c n))) 9 (fun _ _ => rfl) ?_
      refine q_RP_as fun i1776 => ?_
      generalize (q_sL r1748 31 (vp_updL (r1748.2.2 31) ((2 * (r1733.1.2.1 0 17)).toNatClampNeg) (r1748.2.2 0 15))) = r1749
      refine q_RP_let ?_
      show q_RP _ _ _ (322, [(1, .int (r1733.1.2.1 0 17)), (0, .ref 64)], [.long (r1748.2.2 0 16), .int ((2 * (r1733.1.2.1 0 17)) + 1), .ref 95], (q_kM r1749 c n)) _ _
      refine q_RP_rsT (g2 := (323, [(1, .int (r1733.1.2.1 0 17)), (0, .ref 64)], [], (q_kM (q_sL r1749 31 (vp_updL (r1749.2.2 31) (((2 * (r1733.1.2.1 0 17)) + 1).toNatClampNeg) (r1748.2.2 0 16))) c n))) rfl q_wM31 i1776 ?_
      refine q_RP_seg (g2 := (328, [(1, .int (r1733.1.2.1 0 17)), (0, .ref 64)], [.int (r1749.2.1 0 17), .ref 64], (q_kM (q_sL r1749 31 (vp_updL (r1749.2.2 31) (((2 * (r1733.1.2.1 0 17)) + 1).toNatClampNeg) (r1748.2.2 0 16))) c n))) 3 (fun _ _ => rfl) ?_
      refine q_RP_seg (g2 := (334, [(1, .int (r1733.1.2.1 0 17)), (0, .ref 64)], [.int (r1733.1.2.1 0 17)], (q_kM (q_sI (q_sL r1749 31 (vp_updL (r1749.2.2 31) (((2 * (r1733.1.2.1 0 17)) + 1).toNatClampNeg) (r1748.2.2 0 16))) 0 17 ((r1749.2.1 0 17) + 1)) c n))) 4 (fun _ _ => rfl) ?_
      exact q_RP_ret rfl rfl rfl
def dz_M307_64_4 (m : Nat) : q_S → Int32 → Int32 → Int32 → Option (Int32) := Nat.rec (motive := fun _ => q_S → Int32 → Int32 → Int32 → Option (Int32)) (fun _ _ _ _ => none) (fun _ k4 s v1 v2 v3 =>
  cond (decide (v3 < 4096)) (cond (q_in v3 4096) (cond (q_in ((4096 * v1) + v3) 12288) (cond (decide ((s.1 1) (v3.toNatClampNeg) = (s.1 16) (((4096 * v1) + v3).toNatClampNeg))) (k4 s v1 (v2 + 0) (v3 + 1)) (k4 s v1 (v2 + 1) (v3 + 1))) none) none) (some v2)) m
theorem dzs_M307_64_4 (m : Nat) (s : q_S) (v1 : Int32) (v2 : Int32) (v3 : Int32) : dz_M307_64_4 (m + 1) s v1 v2 v3 = (fun k4 : q_S → Int32 → Int32 → Int32 → Option (Int32) =>
  cond (decide (v3 < 4096)) (cond (q_in v3 4096) (cond (q_in ((4096 * v1) + v3) 12288) (cond (decide ((s.1 1) (v3.toNatClampNeg) = (s.1 16) (((4096 * v1) + v3).toNatClampNeg))) (k4 s v1 (v2 + 0) (v3 + 1)) (k4 s v1 (v2 + 1) (v3 + 1))) none) none) (some v2)) (dz_M307_64_4 m) := rfl
set_option maxHeartbeats 4000000 in
theorem dzt_M307_64_4 (c n : Nat) (s : q_S) : ∀ (m : Nat) (v1 : Int32) (v2 : Int32) (v3 : Int32), q_RP q_TB0 0 306 (4, [(0, .ref 64), (1, .int v1), (2, .int v2), (3, .int v3)], [], (q_kM s c n)) (q_oP (q_kM s c n)) (dz_M307_64_4 m s v1 v2 v3) := by
  intro m
  induction m with
  | zero => intro v1 v2 v3; exact q_RP_no
  | succ m ih =>
    intro v1 v2 v3
    have hk4 := ih
    clear ih
    rw [dzs_M307_64_4]
    generalize dz_M307_64_4 m = k4 at hk4 ⊢
    dsimp only
    refine q_RP_seg (g2 := (8, [(0, .ref 64), (1, .int v1), (2, .int v2), (3, .int v3)], [.int 4096, .int v3], (q_kM s c n))) 2 (fun _ _ => rfl) ?_
    cases h1777 : decide (v3 < 4096) with
    | true =>
      refine q_RP_cT ?_
      refine q_RP_rsF (g2 := (11, [(0, .ref 64), (1, .int v1), (2, .int v2), (3, .int v3)], [], (q_kM s c n))) rfl rfl (q_d_geT h1777) ?_
      refine q_RP_seg (g2 := (17, [(0, .ref 64), (1, .int v1), (2, .int v2), (3, .int v3)], [.int v3, .ref 65, .int v2], (q_kM s c n))) 4 (fun _ _ => rfl) ?_
      refine q_RP_as fun i1778 => ?_
      refine q_RP_rsT (g2 := (18, [(0, .ref 64), (1, .int v1), (2, .int v2), (3, .int v3)], [.int ((s.1 1) (v3.toNatClampNeg)), .int v2], (q_kM s c n))) rfl rfl i1778 ?_
      refine q_RP_seg (g2 := (29, [(0, .ref 64), (1, .int v1), (2, .int v2), (3, .int v3)], [.int ((4096 * v1) + v3), .ref 80, .int ((s.1 1) (v3.toNatClampNeg)), .int v2], (q_kM s c n))) 7 (fun _ _ => rfl) ?_
      refine q_RP_as fun i1779 => ?_
      refine q_RP_rsT (g2 := (30, [(0, .ref 64), (1, .int v1), (2, .int v2), (3, .int v3)], [.int ((s.1 16) (((4096 * v1) + v3).toNatClampNeg)), .int ((s.1 1) (v3.toNatClampNeg)), .int v2], (q_kM s c n))) rfl rfl i1779 ?_
      cases h1780 : decide ((s.1 1) (v3.toNatClampNeg) = (s.1 16) (((4096 * v1) + v3).toNatClampNeg)) with
      | true =>
        refine q_RP_cT ?_
        refine q_RP_rsF (g2 := (33, [(0, .ref 64), (1, .int v1), (2, .int v2), (3, .int v3)], [.int v2], (q_kM s c n))) rfl rfl (q_d_neT h1780) ?_
        refine q_RP_seg (g2 := (4, [(3, .int (v3 + 1)), (2, .int (v2 + 0)), (0, .ref 64), (1, .int v1)], [], (q_kM s c n))) 6 (fun _ _ => rfl) ?_
        exact q_RP_xt (q_xt_mk (q_mn1 2 rfl (q_mn1 3 rfl (q_mn1 1 rfl (q_mn1 0 rfl q_mn0)))) rfl) (hk4 v1 (v2 + 0) (v3 + 1))
      | false =>
        refine q_RP_cF ?_
        refine q_RP_rsT (g2 := (37, [(0, .ref 64), (1, .int v1), (2, .int v2), (3, .int v3)], [.int v2], (q_kM s c n))) rfl rfl (q_d_neF h1780) ?_
        refine q_RP_seg (g2 := (4, [(3, .int (v3 + 1)), (2, .int (v2 + 1)), (0, .ref 64), (1, .int v1)], [], (q_kM s c n))) 5 (fun _ _ => rfl) ?_
        exact q_RP_xt (q_xt_mk (q_mn1 2 rfl (q_mn1 3 rfl (q_mn1 1 rfl (q_mn1 0 rfl q_mn0)))) rfl) (hk4 v1 (v2 + 1) (v3 + 1))
    | false =>
      refine q_RP_cF ?_
      refine q_RP_rsT (g2 := (46, [(0, .ref 64), (1, .int v1), (2, .int v2), (3, .int v3)], [], (q_kM s c n))) rfl rfl (q_d_geF h1777) ?_
      refine q_RP_seg (g2 := (47, [(0, .ref 64), (1, .int v1), (2, .int v2), (3, .int v3)], [.int v2], (q_kM s c n))) 1 (fun _ _ => rfl) ?_
      exact q_RP_ret rfl rfl rfl
def dz_M307_64 (s : q_S) (a1 : Int32) : Option (Int32) :=
  dz_M307_64_4 5000 s a1 0 0
set_option maxHeartbeats 4000000 in
theorem dzt_M307_64 (s : q_S) (c n : Nat) (a1 : Int32) (x : Int32) (h : dz_M307_64 s a1 = some x) : q_Ca q_TB0 1 306 [.ref 64, .int a1] (q_kM s c n) ((q_oP (q_kM s c n)) x) := by
  refine q_CaP_of (φ := (q_oP (q_kM s c n))) (Nat.le_of_ble_eq_true rfl) ?_ h
  clear h
  unfold dz_M307_64
  refine q_RP_seg (g2 := (4, [(3, .int 0), (2, .int 0), (0, .ref 64), (1, .int a1)], [], (q_kM s c n))) 4 (fun _ _ => rfl) ?_
  exact q_RP_xt (q_xt_mk (q_mn1 2 rfl (q_mn1 3 rfl (q_mn1 1 rfl (q_mn1 0 rfl q_mn0)))) rfl) (dzt_M307_64_4 c n s 5000 a1 0 0)
def dz_M304_80_65_3 (m : Nat) : q_S → Int32 → Int32 → Int32 → Int32 → Option (q_S) := Nat.rec (motive := fun _ => q_S → Int32 → Int32 → Int32 → Int32 → Option (q_S)) (fun _ _ _ _ _ => none) (fun _ k3 s v1 v3 v4 v5 =>
  cond (decide (v5 < v4)) (cond (q_in (v1 + v5) 12288) (cond (q_in (v3 + v5) 4096) (k3 (q_sA s 1 (upd (s.1 1) ((v3 + v5).toNatClampNeg) ((s.1 16) ((v1 + v5).toNatClampNeg)))) v1 v3 v4 (v5 + 1)) none) none) (some s)) m
theorem dzs_M304_80_65_3 (m : Nat) (s : q_S) (v1 : Int32) (v3 : Int32) (v4 : Int32) (v5 : Int32) : dz_M304_80_65_3 (m + 1) s v1 v3 v4 v5 = (fun k3 : q_S → Int32 → Int32 → Int32 → Int32 → Option (q_S) =>
  cond (decide (v5 < v4)) (cond (q_in (v1 + v5) 12288) (cond (q_in (v3 + v5) 4096) (k3 (q_sA s 1 (upd (s.1 1) ((v3 + v5).toNatClampNeg) ((s.1 16) ((v1 + v5).toNatClampNeg)))) v1 v3 v4 (v5 + 1)) none) none) (some s)) (dz_M304_80_65_3 m) := rfl
set_option maxHeartbeats 4000000 in
theorem dzt_M304_80_65_3 (c n : Nat) : ∀ (m : Nat) (s : q_S) (v1 : Int32) (v3 : Int32) (v4 : Int32) (v5 : Int32), q_RP q_TB0 0 303 (3, [(0, .ref 80), (1, .int v1), (2, .ref 65), (3, .int v3), (4, .int v4), (5, .int v5)], [], (q_kM s c n)) (q_oSM c n) (dz_M304_80_65_3 m s v1 v3 v4 v5) := by
  intro m
  induction m with
  | zero => intro s v1 v3 v4 v5; exact q_RP_no
  | succ m ih =>
    intro s v1 v3 v4 v5
    have hk3 := ih
    clear ih
    rw [dzs_M304_80_65_3]
    generalize dz_M304_80_65_3 m = k3 at hk3 ⊢
    dsimp only
    refine q_RP_seg (g2 := (7, [(0, .ref 80), (1, .int v1), (2, .ref 65), (3, .int v3), (4, .int v4), (5, .int v5)], [.int v4, .int v5], (q_kM s c n))) 2 (fun _ _ => rfl) ?_
    cases h1785 : decide (v5 < v4) with
    | true =>
      refine q_RP_cT ?_
      refine q_RP_rsF (g2 := (10, [(0, .ref 80), (1, .int v1), (2, .ref 65), (3, .int v3), (4, .int v4), (5, .int v5)], [], (q_kM s c n))) rfl rfl (q_d_geT h1785) ?_
      refine q_RP_seg (g2 := (20, [(0, .ref 80), (1, .int v1), (2, .ref 65), (3, .int v3), (4, .int v4), (5, .int v5)], [.int (v1 + v5), .ref 80, .int (v3 + v5), .ref 65], (q_kM s c n))) 8 (fun _ _ => rfl) ?_
      refine q_RP_as fun i1786 => ?_
      refine q_RP_rsT (g2 := (21, [(0, .ref 80), (1, .int v1), (2, .ref 65), (3, .int v3), (4, .int v4), (5, .int v5)], [.int ((s.1 16) ((v1 + v5).toNatClampNeg)), .int (v3 + v5), .ref 65], (q_kM s c n))) rfl rfl i1786 ?_
      refine q_RP_as fun i1787 => ?_
      refine q_RP_rsT (g2 := (22, [(0, .ref 80), (1, .int v1), (2, .ref 65), (3, .int v3), (4, .int v4), (5, .int v5)], [], (q_kM (q_sA s 1 (upd (s.1 1) ((v3 + v5).toNatClampNeg) ((s.1 16) ((v1 + v5).toNatClampNeg)))) c n))) rfl q_wM1 i1787 ?_
      refine q_RP_seg (g2 := (3, [(5, .int (v5 + 1)), (0, .ref 80), (1, .int v1), (2, .ref 65), (3, .int v3), (4, .int v4)], [], (q_kM (q_sA s 1 (upd (s.1 1) ((v3 + v5).toNatClampNeg) ((s.1 16) ((v1 + v5).toNatClampNeg)))) c n))) 2 (fun _ _ => rfl) ?_
      exact q_RP_xt (q_xt_mk (q_mn1 1 rfl (q_mn1 2 rfl (q_mn1 3 rfl (q_mn1 4 rfl (q_mn1 5 rfl (q_mn1 0 rfl q_mn0)))))) rfl) (hk3 (q_sA s 1 (upd (s.1 1) ((v3 + v5).toNatClampNeg) ((s.1 16) ((v1 + v5).toNatClampNeg)))) v1 v3 v4 (v5 + 1))
    | false =>
      refine q_RP_cF ?_
      refine q_RP_rsT (g2 := (28, [(0, .ref 80), (1, .int v1), (2, .ref 65), (3, .int v3), (4, .int v4), (5, .int v5)], [], (q_kM s c n))) rfl rfl (q_d_geF h1785) ?_
      exact q_RP_ret rfl rfl rfl
def dz_M304_80_65 (s : q_S) (a1 : Int32) (a3 : Int32) (a4 : Int32) : Option (q_S) :=
  dz_M304_80_65_3 5000 s a1 a3 a4 0
set_option maxHeartbeats 4000000 in
theorem dzt_M304_80_65 (s : q_S) (c n : Nat) (a1 : Int32) (a3 : Int32) (a4 : Int32) (x : q_S) (h : dz_M304_80_65 s a1 a3 a4 = some x) : q_Ca q_TB0 1 303 [.ref 80, .int a1, .ref 65, .int a3, .int a4] (q_kM s c n) ((q_oSM c n) x) := by
  refine q_CaP_of (φ := (q_oSM c n)) (Nat.le_of_ble_eq_true rfl) ?_ h
  clear h
  unfold dz_M304_80_65
  refine q_RP_seg (g2 := (3, [(5, .int 0), (0, .ref 80), (1, .int a1), (2, .ref 65), (3, .int a3), (4, .int a4)], [], (q_kM s c n))) 2 (fun _ _ => rfl) ?_
  exact q_RP_xt (q_xt_mk (q_mn1 1 rfl (q_mn1 2 rfl (q_mn1 3 rfl (q_mn1 4 rfl (q_mn1 5 rfl (q_mn1 0 rfl q_mn0)))))) rfl) (dzt_M304_80_65_3 c n 5000 s a1 a3 a4 0)
def dz_M304_81_66_3 (m : Nat) : q_S → Int32 → Int32 → Int32 → Int32 → Option (q_S) := Nat.rec (motive := fun _ => q_S → Int32 → Int32 → Int32 → Int32 → Option (q_S)) (fun _ _ _ _ _ => none) (fun _ k3 s v1 v3 v4 v5 =>
  cond (decide (v5 < v4)) (cond (q_in (v1 + v5) 1536) (cond (q_in (v3 + v5) 512) (k3 (q_sA s 2 (upd (s.1 2) ((v3 + v5).toNatClampNeg) ((s.1 17) ((v1 + v5).toNatClampNeg)))) v1 v3 v4 (v5 + 1)) none) none) (some s)) m
theorem dzs_M304_81_66_3 (m : Nat) (s : q_S) (v1 : Int32) (v3 : Int32) (v4 : Int32) (v5 : Int32) : dz_M304_81_66_3 (m + 1) s v1 v3 v4 v5 = (fun k3 : q_S → Int32 → Int32 → Int32 → Int32 → Option (q_S) =>
  cond (decide (v5 < v4)) (cond (q_in (v1 + v5) 1536) (cond (q_in (v3 + v5) 512) (k3 (q_sA s 2 (upd (s.1 2) ((v3 + v5).toNatClampNeg) ((s.1 17) ((v1 + v5).toNatClampNeg)))) v1 v3 v4 (v5 + 1)) none) none) (some s)) (dz_M304_81_66_3 m) := rfl
set_option maxHeartbeats 4000000 in
theorem dzt_M304_81_66_3 (c n : Nat) : ∀ (m : Nat) (s : q_S) (v1 : Int32) (v3 : Int32) (v4 : Int32) (v5 : Int32), q_RP q_TB0 0 303 (3, [(0, .ref 81), (1, .int v1), (2, .ref 66), (3, .int v3), (4, .int v4), (5, .int v5)], [], (q_kM s c n)) (q_oSM c n) (dz_M304_81_66_3 m s v1 v3 v4 v5) := by
  intro m
  induction m with
  | zero => intro s v1 v3 v4 v5; exact q_RP_no
  | succ m ih =>
    intro s v1 v3 v4 v5
    have hk3 := ih
    clear ih
    rw [dzs_M304_81_66_3]
    generalize dz_M304_81_66_3 m = k3 at hk3 ⊢
    dsimp only
    refine q_RP_seg (g2 := (7, [(0, .ref 81), (1, .int v1), (2, .ref 66), (3, .int v3), (4, .int v4), (5, .int v5)], [.int v4, .int v5], (q_kM s c n))) 2 (fun _ _ => rfl) ?_
    cases h1788 : decide (v5 < v4) with
    | true =>
      refine q_RP_cT ?_
      refine q_RP_rsF (g2 := (10, [(0, .ref 81), (1, .int v1), (2, .ref 66), (3, .int v3), (4, .int v4), (5, .int v5)], [], (q_kM s c n))) rfl rfl (q_d_geT h1788) ?_
      refine q_RP_seg (g2 := (20, [(0, .ref 81), (1, .int v1), (2, .ref 66), (3, .int v3), (4, .int v4), (5, .int v5)], [.int (v1 + v5), .ref 81, .int (v3 + v5), .ref 66], (q_kM s c n))) 8 (fun _ _ => rfl) ?_
      refine q_RP_as fun i1789 => ?_
      refine q_RP_rsT (g2 := (21, [(0, .ref 81), (1, .int v1), (2, .ref 66), (3, .int v3), (4, .int v4), (5, .int v5)], [.int ((s.1 17) ((v1 + v5).toNatClampNeg)), .int (v3 + v5), .ref 66], (q_kM s c n))) rfl rfl i1789 ?_
      refine q_RP_as fun i1790 => ?_
      refine q_RP_rsT (g2 := (22, [(0, .ref 81), (1, .int v1), (2, .ref 66), (3, .int v3), (4, .int v4), (5, .int v5)], [], (q_kM (q_sA s 2 (upd (s.1 2) ((v3 + v5).toNatClampNeg) ((s.1 17) ((v1 + v5).toNatClampNeg)))) c n))) rfl q_wM2 i1790 ?_
      refine q_RP_seg (g2 := (3, [(5, .int (v5 + 1)), (0, .ref 81), (1, .int v1), (2, .ref 66), (3, .int v3), (4, .int v4)], [], (q_kM (q_sA s 2 (upd (s.1 2) ((v3 + v5).toNatClampNeg) ((s.1 17) ((v1 + v5).toNatClampNeg)))) c n))) 2 (fun _ _ => rfl) ?_
      exact q_RP_xt (q_xt_mk (q_mn1 1 rfl (q_mn1 2 rfl (q_mn1 3 rfl (q_mn1 4 rfl (q_mn1 5 rfl (q_mn1 0 rfl q_mn0)))))) rfl) (hk3 (q_sA s 2 (upd (s.1 2) ((v3 + v5).toNatClampNeg) ((s.1 17) ((v1 + v5).toNatClampNeg)))) v1 v3 v4 (v5 + 1))
    | false =>
      refine q_RP_cF ?_
      refine q_RP_rsT (g2 := (28, [(0, .ref 81), (1, .int v1), (2, .ref 66), (3, .int v3), (4, .int v4), (5, .int v5)], [], (q_kM s c n))) rfl rfl (q_d_geF h1788) ?_
      exact q_RP_ret rfl rfl rfl
def dz_M304_81_66 (s : q_S) (a1 : Int32) (a3 : Int32) (a4 : Int32) : Option (q_S) :=
  dz_M304_81_66_3 5000 s a1 a3 a4 0
set_option maxHeartbeats 4000000 in
theorem dzt_M304_81_66 (s : q_S) (c n : Nat) (a1 : Int32) (a3 : Int32) (a4 : Int32) (x : q_S) (h : dz_M304_81_66 s a1 a3 a4 = some x) : q_Ca q_TB0 1 303 [.ref 81, .int a1, .ref 66, .int a3, .int a4] (q_kM s c n) ((q_oSM c n) x) := by
  refine q_CaP_of (φ := (q_oSM c n)) (Nat.le_of_ble_eq_true rfl) ?_ h
  clear h
  unfold dz_M304_81_66
  refine q_RP_seg (g2 := (3, [(5, .int 0), (0, .ref 81), (1, .int a1), (2, .ref 66), (3, .int a3), (4, .int a4)], [], (q_kM s c n))) 2 (fun _ _ => rfl) ?_
  exact q_RP_xt (q_xt_mk (q_mn1 1 rfl (q_mn1 2 rfl (q_mn1 3 rfl (q_mn1 4 rfl (q_mn1 5 rfl (q_mn1 0 rfl q_mn0)))))) rfl) (dzt_M304_81_66_3 c n 5000 s a1 a3 a4 0)
def dz_M304_82_67_3 (m : Nat) : q_S → Int32 → Int32 → Int32 → Int32 → Option (q_S) := Nat.rec (motive := fun _ => q_S → Int32 → Int32 → Int32 → Int32 → Option (q_S)) (fun _ _ _ _ _ => none) (fun _ k3 s v1 v3 v4 v5 =>
  cond (decide (v5 < v4)) (cond (q_in (v1 + v5) 6144) (cond (q_in (v3 + v5) 2048) (k3 (q_sA s 3 (upd (s.1 3) ((v3 + v5).toNatClampNeg) ((s.1 18) ((v1 + v5).toNatClampNeg)))) v1 v3 v4 (v5 + 1)) none) none) (some s)) m
theorem dzs_M304_82_67_3 (m : Nat) (s : q_S) (v1 : Int32) (v3 : Int32) (v4 : Int32) (v5 : Int32) : dz_M304_82_67_3 (m + 1) s v1 v3 v4 v5 = (fun k3 : q_S → Int32 → Int32 → Int32 → Int32 → Option (q_S) =>
  cond (decide (v5 < v4)) (cond (q_in (v1 + v5) 6144) (cond (q_in (v3 + v5) 2048) (k3 (q_sA s 3 (upd (s.1 3) ((v3 + v5).toNatClampNeg) ((s.1 18) ((v1 + v5).toNatClampNeg)))) v1 v3 v4 (v5 + 1)) none) none) (some s)) (dz_M304_82_67_3 m) := rfl
set_option maxHeartbeats 4000000 in
theorem dzt_M304_82_67_3 (c n : Nat) : ∀ (m : Nat) (s : q_S) (v1 : Int32) (v3 : Int32) (v4 : Int32) (v5 : Int32), q_RP q_TB0 0 303 (3, [(0, .ref 82), (1, .int v1), (2, .ref 67), (3, .int v3), (4, .int v4), (5, .int v5)], [], (q_kM s c n)) (q_oSM c n) (dz_M304_82_67_3 m s v1 v3 v4 v5) := by
  intro m
  induction m with
  | zero => intro s v1 v3 v4 v5; exact q_RP_no
  | succ m ih =>
    intro s v1 v3 v4 v5
    have hk3 := ih
    clear ih
    rw [dzs_M304_82_67_3]
    generalize dz_M304_82_67_3 m = k3 at hk3 ⊢
    dsimp only
    refine q_RP_seg (g2 := (7, [(0, .ref 82), (1, .int v1), (2, .ref 67), (3, .int v3), (4, .int v4), (5, .int v5)], [.int v4, .int v5], (q_kM s c n))) 2 (fun _ _ => rfl) ?_
    cases h1791 : decide (v5 < v4) with
    | true =>
      refine q_RP_cT ?_
      refine q_RP_rsF (g2 := (10, [(0, .ref 82), (1, .int v1), (2, .ref 67), (3, .int v3), (4, .int v4), (5, .int v5)], [], (q_kM s c n))) rfl rfl (q_d_geT h1791) ?_
      refine q_RP_seg (g2 := (20, [(0, .ref 82), (1, .int v1), (2, .ref 67), (3, .int v3), (4, .int v4), (5, .int v5)], [.int (v1 + v5), .ref 82, .int (v3 + v5), .ref 67], (q_kM s c n))) 8 (fun _ _ => rfl) ?_
      refine q_RP_as fun i1792 => ?_
      refine q_RP_rsT (g2 := (21, [(0, .ref 82), (1, .int v1), (2, .ref 67), (3, .int v3), (4, .int v4), (5, .int v5)], [.int ((s.1 18) ((v1 + v5).toNatClampNeg)), .int (v3 + v5), .ref 67], (q_kM s c n))) rfl rfl i1792 ?_
      refine q_RP_as fun i1793 => ?_
      refine q_RP_rsT (g2 := (22, [(0, .ref 82), (1, .int v1), (2, .ref 67), (3, .int v3), (4, .int v4), (5, .int v5)], [], (q_kM (q_sA s 3 (upd (s.1 3) ((v3 + v5).toNatClampNeg) ((s.1 18) ((v1 + v5).toNatClampNeg)))) c n))) rfl q_wM3 i1793 ?_
      refine q_RP_seg (g2 := (3, [(5, .int (v5 + 1)), (0, .ref 82), (1, .int v1), (2, .ref 67), (3, .int v3), (4, .int v4)], [], (q_kM (q_sA s 3 (upd (s.1 3) ((v3 + v5).toNatClampNeg) ((s.1 18) ((v1 + v5).toNatClampNeg)))) c n))) 2 (fun _ _ => rfl) ?_
      exact q_RP_xt (q_xt_mk (q_mn1 1 rfl (q_mn1 2 rfl (q_mn1 3 rfl (q_mn1 4 rfl (q_mn1 5 rfl (q_mn1 0 rfl q_mn0)))))) rfl) (hk3 (q_sA s 3 (upd (s.1 3) ((v3 + v5).toNatClampNeg) ((s.1 18) ((v1 + v5).toNatClampNeg)))) v1 v3 v4 (v5 + 1))
    | false =>
      refine q_RP_cF ?_
      refine q_RP_rsT (g2 := (28, [(0, .ref 82), (1, .int v1), (2, .ref 67), (3, .int v3), (4, .int v4), (5, .int v5)], [], (q_kM s c n))) rfl rfl (q_d_geF h1791) ?_
      exact q_RP_ret rfl rfl rfl
def dz_M304_82_67 (s : q_S) (a1 : Int32) (a3 : Int32) (a4 : Int32) : Option (q_S) :=
  dz_M304_82_67_3 5000 s a1 a3 a4 0
set_option maxHeartbeats 4000000 in
theorem dzt_M304_82_67 (s : q_S) (c n : Nat) (a1 : Int32) (a3 : Int32) (a4 : Int32) (x : q_S) (h : dz_M304_82_67 s a1 a3 a4 = some x) : q_Ca q_TB0 1 303 [.ref 82, .int a1, .ref 67, .int a3, .int a4] (q_kM s c n) ((q_oSM c n) x) := by
  refine q_CaP_of (φ := (q_oSM c n)) (Nat.le_of_ble_eq_true rfl) ?_ h
  clear h
  unfold dz_M304_82_67
  refine q_RP_seg (g2 := (3, [(5, .int 0), (0, .ref 82), (1, .int a1), (2, .ref 67), (3, .int a3), (4, .int a4)], [], (q_kM s c n))) 2 (fun _ _ => rfl) ?_
  exact q_RP_xt (q_xt_mk (q_mn1 1 rfl (q_mn1 2 rfl (q_mn1 3 rfl (q_mn1 4 rfl (q_mn1 5 rfl (q_mn1 0 rfl q_mn0)))))) rfl) (dzt_M304_82_67_3 c n 5000 s a1 a3 a4 0)
def dz_M304_83_68_3 (m : Nat) : q_S → Int32 → Int32 → Int32 → Int32 → Option (q_S) := Nat.rec (motive := fun _ => q_S → Int32 → Int32 → Int32 → Int32 → Option (q_S)) (fun _ _ _ _ _ => none) (fun _ k3 s v1 v3 v4 v5 =>
  cond (decide (v5 < v4)) (cond (q_in (v1 + v5) 144) (cond (q_in (v3 + v5) 48) (k3 (q_sA s 4 (upd (s.1 4) ((v3 + v5).toNatClampNeg) ((s.1 19) ((v1 + v5).toNatClampNeg)))) v1 v3 v4 (v5 + 1)) none) none) (some s)) m
theorem dzs_M304_83_68_3 (m : Nat) (s : q_S) (v1 : Int32) (v3 : Int32) (v4 : Int32) (v5 : Int32) : dz_M304_83_68_3 (m + 1) s v1 v3 v4 v5 = (fun k3 : q_S → Int32 → Int32 → Int32 → Int32 → Option (q_S) =>
  cond (decide (v5 < v4)) (cond (q_in (v1 + v5) 144) (cond (q_in (v3 + v5) 48) (k3 (q_sA s 4 (upd (s.1 4) ((v3 + v5).toNatClampNeg) ((s.1 19) ((v1 + v5).toNatClampNeg)))) v1 v3 v4 (v5 + 1)) none) none) (some s)) (dz_M304_83_68_3 m) := rfl
set_option maxHeartbeats 4000000 in
theorem dzt_M304_83_68_3 (c n : Nat) : ∀ (m : Nat) (s : q_S) (v1 : Int32) (v3 : Int32) (v4 : Int32) (v5 : Int32), q_RP q_TB0 0 303 (3, [(0, .ref 83), (1, .int v1), (2, .ref 68), (3, .int v3), (4, .int v4), (5, .int v5)], [], (q_kM s c n)) (q_oSM c n) (dz_M304_83_68_3 m s v1 v3 v4 v5) := by
  intro m
  induction m with
  | zero => intro s v1 v3 v4 v5; exact q_RP_no
  | succ m ih =>
    intro s v1 v3 v4 v5
    have hk3 := ih
    clear ih
    rw [dzs_M304_83_68_3]
    generalize dz_M304_83_68_3 m = k3 at hk3 ⊢
    dsimp only
    refine q_RP_seg (g2 := (7, [(0, .ref 83), (1, .int v1), (2, .ref 68), (3, .int v3), (4, .int v4), (5, .int v5)], [.int v4, .int v5], (q_kM s c n))) 2 (fun _ _ => rfl) ?_
    cases h1794 : decide (v5 < v4) with
    | true =>
      refine q_RP_cT ?_
      refine q_RP_rsF (g2 := (10, [(0, .ref 83), (1, .int v1), (2, .ref 68), (3, .int v3), (4, .int v4), (5, .int v5)], [], (q_kM s c n))) rfl rfl (q_d_geT h1794) ?_
      refine q_RP_seg (g2 := (20, [(0, .ref 83), (1, .int v1), (2, .ref 68), (3, .int v3), (4, .int v4), (5, .int v5)], [.int (v1 + v5), .ref 83, .int (v3 + v5), .ref 68], (q_kM s c n))) 8 (fun _ _ => rfl) ?_
      refine q_RP_as fun i1795 => ?_
      refine q_RP_rsT (g2 := (21, [(0, .ref 83), (1, .int v1), (2, .ref 68), (3, .int v3), (4, .int v4), (5, .int v5)], [.int ((s.1 19) ((v1 + v5).toNatClampNeg)), .int (v3 + v5), .ref 68], (q_kM s c n))) rfl rfl i1795 ?_
      refine q_RP_as fun i1796 => ?_
      refine q_RP_rsT (g2 := (22, [(0, .ref 83), (1, .int v1), (2, .ref 68), (3, .int v3), (4, .int v4), (5, .int v5)], [], (q_kM (q_sA s 4 (upd (s.1 4) ((v3 + v5).toNatClampNeg) ((s.1 19) ((v1 + v5).toNatClampNeg)))) c n))) rfl q_wM4 i1796 ?_
      refine q_RP_seg (g2 := (3, [(5, .int (v5 + 1)), (0, .ref 83), (1, .int v1), (2, .ref 68), (3, .int v3), (4, .int v4)], [], (q_kM (q_sA s 4 (upd (s.1 4) ((v3 + v5).toNatClampNeg) ((s.1 19) ((v1 + v5).toNatClampNeg)))) c n))) 2 (fun _ _ => rfl) ?_
      exact q_RP_xt (q_xt_mk (q_mn1 1 rfl (q_mn1 2 rfl (q_mn1 3 rfl (q_mn1 4 rfl (q_mn1 5 rfl (q_mn1 0 rfl q_mn0)))))) rfl) (hk3 (q_sA s 4 (upd (s.1 4) ((v3 + v5).toNatClampNeg) ((s.1 19) ((v1 + v5).toNatClampNeg)))) v1 v3 v4 (v5 + 1))
    | false =>
      refine q_RP_cF ?_
      refine q_RP_rsT (g2 := (28, [(0, .ref 83), (1, .int v1), (2, .ref 68), (3, .int v3), (4, .int v4), (5, .int v5)], [], (q_kM s c n))) rfl rfl (q_d_geF h1794) ?_
      exact q_RP_ret rfl rfl rfl
def dz_M304_83_68 (s : q_S) (a1 : Int32) (a3 : Int32) (a4 : Int32) : Option (q_S) :=
  dz_M304_83_68_3 5000 s a1 a3 a4 0
set_option maxHeartbeats 4000000 in
theorem dzt_M304_83_68 (s : q_S) (c n : Nat) (a1 : Int32) (a3 : Int32) (a4 : Int32) (x : q_S) (h : dz_M304_83_68 s a1 a3 a4 = some x) : q_Ca q_TB0 1 303 [.ref 83, .int a1, .ref 68, .int a3, .int a4] (q_kM s c n) ((q_oSM c n) x) := by
  refine q_CaP_of (φ := (q_oSM c n)) (Nat.le_of_ble_eq_true rfl) ?_ h
  clear h
  unfold dz_M304_83_68
  refine q_RP_seg (g2 := (3, [(5, .int 0), (0, .ref 83), (1, .int a1), (2, .ref 68), (3, .int a3), (4, .int a4)], [], (q_kM s c n))) 2 (fun _ _ => rfl) ?_
  exact q_RP_xt (q_xt_mk (q_mn1 1 rfl (q_mn1 2 rfl (q_mn1 3 rfl (q_mn1 4 rfl (q_mn1 5 rfl (q_mn1 0 rfl q_mn0)))))) rfl) (dzt_M304_83_68_3 c n 5000 s a1 a3 a4 0)
def dz_M304_84_69_3 (m : Nat) : q_S → Int32 → Int32 → Int32 → Int32 → Option (q_S) := Nat.rec (motive := fun _ => q_S → Int32 → Int32 → Int32 → Int32 → Option (q_S)) (fun _ _ _ _ _ => none) (fun _ k3 s v1 v3 v4 v5 =>
  cond (decide (v5 < v4)) (cond (q_in (v1 + v5) 3072) (cond (q_in (v3 + v5) 1024) (k3 (q_sA s 5 (upd (s.1 5) ((v3 + v5).toNatClampNeg) ((s.1 20) ((v1 + v5).toNatClampNeg)))) v1 v3 v4 (v5 + 1)) none) none) (some s)) m
theorem dzs_M304_84_69_3 (m : Nat) (s : q_S) (v1 : Int32) (v3 : Int32) (v4 : Int32) (v5 : Int32) : dz_M304_84_69_3 (m + 1) s v1 v3 v4 v5 = (fun k3 : q_S → Int32 → Int32 → Int32 → Int32 → Option (q_S) =>
  cond (decide (v5 < v4)) (cond (q_in (v1 + v5) 3072) (cond (q_in (v3 + v5) 1024) (k3 (q_sA s 5 (upd (s.1 5) ((v3 + v5).toNatClampNeg) ((s.1 20) ((v1 + v5).toNatClampNeg)))) v1 v3 v4 (v5 + 1)) none) none) (some s)) (dz_M304_84_69_3 m) := rfl
set_option maxHeartbeats 4000000 in
theorem dzt_M304_84_69_3 (c n : Nat) : ∀ (m : Nat) (s : q_S) (v1 : Int32) (v3 : Int32) (v4 : Int32) (v5 : Int32), q_RP q_TB0 0 303 (3, [(0, .ref 84), (1, .int v1), (2, .ref 69), (3, .int v3), (4, .int v4), (5, .int v5)], [], (q_kM s c n)) (q_oSM c n) (dz_M304_84_69_3 m s v1 v3 v4 v5) := by
  intro m
  induction m with
  | zero => intro s v1 v3 v4 v5; exact q_RP_no
  | succ m ih =>
    intro s v1 v3 v4 v5
    have hk3 := ih
    clear ih
    rw [dzs_M304_84_69_3]
    generalize dz_M304_84_69_3 m = k3 at hk3 ⊢
    dsimp only
    refine q_RP_seg (g2 := (7, [(0, .ref 84), (1, .int v1), (2, .ref 69), (3, .int v3), (4, .int v4), (5, .int v5)], [.int v4, .int v5], (q_kM s c n))) 2 (fun _ _ => rfl) ?_
    cases h1797 : decide (v5 < v4) with
    | true =>
      refine q_RP_cT ?_
      refine q_RP_rsF (g2 := (10, [(0, .ref 84), (1, .int v1), (2, .ref 69), (3, .int v3), (4, .int v4), (5, .int v5)], [], (q_kM s c n))) rfl rfl (q_d_geT h1797) ?_
      refine q_RP_seg (g2 := (20, [(0, .ref 84), (1, .int v1), (2, .ref 69), (3, .int v3), (4, .int v4), (5, .int v5)], [.int (v1 + v5), .ref 84, .int (v3 + v5), .ref 69], (q_kM s c n))) 8 (fun _ _ => rfl) ?_
      refine q_RP_as fun i1798 => ?_
      refine q_RP_rsT (g2 := (21, [(0, .ref 84), (1, .int v1), (2, .ref 69), (3, .int v3), (4, .int v4), (5, .int v5)], [.int ((s.1 20) ((v1 + v5).toNatClampNeg)), .int (v3 + v5), .ref 69], (q_kM s c n))) rfl rfl i1798 ?_
      refine q_RP_as fun i1799 => ?_
      refine q_RP_rsT (g2 := (22, [(0, .ref 84), (1, .int v1), (2, .ref 69), (3, .int v3), (4, .int v4), (5, .int v5)], [], (q_kM (q_sA s 5 (upd (s.1 5) ((v3 + v5).toNatClampNeg) ((s.1 20) ((v1 + v5).toNatClampNeg)))) c n))) rfl q_wM5 i1799 ?_
      refine q_RP_seg (g2 := (3, [(5, .int (v5 + 1)), (0, .ref 84), (1, .int v1), (2, .ref 69), (3, .int v3), (4, .int v4)], [], (q_kM (q_sA s 5 (upd (s.1 5) ((v3 + v5).toNatClampNeg) ((s.1 20) ((v1 + v5).toNatClampNeg)))) c n))) 2 (fun _ _ => rfl) ?_
      exact q_RP_xt (q_xt_mk (q_mn1 1 rfl (q_mn1 2 rfl (q_mn1 3 rfl (q_mn1 4 rfl (q_mn1 5 rfl (q_mn1 0 rfl q_mn0)))))) rfl) (hk3 (q_sA s 5 (upd (s.1 5) ((v3 + v5).toNatClampNeg) ((s.1 20) ((v1 + v5).toNatClampNeg)))) v1 v3 v4 (v5 + 1))
    | false =>
      refine q_RP_cF ?_
      refine q_RP_rsT (g2 := (28, [(0, .ref 84), (1, .int v1), (2, .ref 69), (3, .int v3), (4, .int v4), (5, .int v5)], [], (q_kM s c n))) rfl rfl (q_d_geF h1797) ?_
      exact q_RP_ret rfl rfl rfl
def dz_M304_84_69 (s : q_S) (a1 : Int32) (a3 : Int32) (a4 : Int32) : Option (q_S) :=
  dz_M304_84_69_3 5000 s a1 a3 a4 0
set_option maxHeartbeats 4000000 in
theorem dzt_M304_84_69 (s : q_S) (c n : Nat) (a1 : Int32) (a3 : Int32) (a4 : Int32) (x : q_S) (h : dz_M304_84_69 s a1 a3 a4 = some x) : q_Ca q_TB0 1 303 [.ref 84, .int a1, .ref 69, .int a3, .int a4] (q_kM s c n) ((q_oSM c n) x) := by
  refine q_CaP_of (φ := (q_oSM c n)) (Nat.le_of_ble_eq_true rfl) ?_ h
  clear h
  unfold dz_M304_84_69
  refine q_RP_seg (g2 := (3, [(5, .int 0), (0, .ref 84), (1, .int a1), (2, .ref 69), (3, .int a3), (4, .int a4)], [], (q_kM s c n))) 2 (fun _ _ => rfl) ?_
  exact q_RP_xt (q_xt_mk (q_mn1 1 rfl (q_mn1 2 rfl (q_mn1 3 rfl (q_mn1 4 rfl (q_mn1 5 rfl (q_mn1 0 rfl q_mn0)))))) rfl) (dzt_M304_84_69_3 c n 5000 s a1 a3 a4 0)
def dz_M304_85_70_3 (m : Nat) : q_S → Int32 → Int32 → Int32 → Int32 → Option (q_S) := Nat.rec (motive := fun _ => q_S → Int32 → Int32 → Int32 → Int32 → Option (q_S)) (fun _ _ _ _ _ => none) (fun _ k3 s v1 v3 v4 v5 =>
  cond (decide (v5 < v4)) (cond (q_in (v1 + v5) 120) (cond (q_in (v3 + v5) 40) (k3 (q_sA s 6 (upd (s.1 6) ((v3 + v5).toNatClampNeg) ((s.1 21) ((v1 + v5).toNatClampNeg)))) v1 v3 v4 (v5 + 1)) none) none) (some s)) m
theorem dzs_M304_85_70_3 (m : Nat) (s : q_S) (v1 : Int32) (v3 : Int32) (v4 : Int32) (v5 : Int32) : dz_M304_85_70_3 (m + 1) s v1 v3 v4 v5 = (fun k3 : q_S → Int32 → Int32 → Int32 → Int32 → Option (q_S) =>
  cond (decide (v5 < v4)) (cond (q_in (v1 + v5) 120) (cond (q_in (v3 + v5) 40) (k3 (q_sA s 6 (upd (s.1 6) ((v3 + v5).toNatClampNeg) ((s.1 21) ((v1 + v5).toNatClampNeg)))) v1 v3 v4 (v5 + 1)) none) none) (some s)) (dz_M304_85_70_3 m) := rfl
set_option maxHeartbeats 4000000 in
theorem dzt_M304_85_70_3 (c n : Nat) : ∀ (m : Nat) (s : q_S) (v1 : Int32) (v3 : Int32) (v4 : Int32) (v5 : Int32), q_RP q_TB0 0 303 (3, [(0, .ref 85), (1, .int v1), (2, .ref 70), (3, .int v3), (4, .int v4), (5, .int v5)], [], (q_kM s c n)) (q_oSM c n) (dz_M304_85_70_3 m s v1 v3 v4 v5) := by
  intro m
  induction m with
  | zero => intro s v1 v3 v4 v5; exact q_RP_no
  | succ m ih =>
    intro s v1 v3 v4 v5
    have hk3 := ih
    clear ih
    rw [dzs_M304_85_70_3]
    generalize dz_M304_85_70_3 m = k3 at hk3 ⊢
    dsimp only
    refine q_RP_seg (g2 := (7, [(0, .ref 85), (1, .int v1), (2, .ref 70), (3, .int v3), (4, .int v4), (5, .int v5)], [.int v4, .int v5], (q_kM s c n))) 2 (fun _ _ => rfl) ?_
    cases h1800 : decide (v5 < v4) with
    | true =>
      refine q_RP_cT ?_
      refine q_RP_rsF (g2 := (10, [(0, .ref 85), (1, .int v1), (2, .ref 70), (3, .int v3), (4, .int v4), (5, .int v5)], [], (q_kM s c n))) rfl rfl (q_d_geT h1800) ?_
      refine q_RP_seg (g2 := (20, [(0, .ref 85), (1, .int v1), (2, .ref 70), (3, .int v3), (4, .int v4), (5, .int v5)], [.int (v1 + v5), .ref 85, .int (v3 + v5), .ref 70], (q_kM s c n))) 8 (fun _ _ => rfl) ?_
      refine q_RP_as fun i1801 => ?_
      refine q_RP_rsT (g2 := (21, [(0, .ref 85), (1, .int v1), (2, .ref 70), (3, .int v3), (4, .int v4), (5, .int v5)], [.int ((s.1 21) ((v1 + v5).toNatClampNeg)), .int (v3 + v5), .ref 70], (q_kM s c n))) rfl rfl i1801 ?_
      refine q_RP_as fun i1802 => ?_
      refine q_RP_rsT (g2 := (22, [(0, .ref 85), (1, .int v1), (2, .ref 70), (3, .int v3), (4, .int v4), (5, .int v5)], [], (q_kM (q_sA s 6 (upd (s.1 6) ((v3 + v5).toNatClampNeg) ((s.1 21) ((v1 + v5).toNatClampNeg)))) c n))) rfl q_wM6 i1802 ?_
      refine q_RP_seg (g2 := (3, [(5, .int (v5 + 1)), (0, .ref 85), (1, .int v1), (2, .ref 70), (3, .int v3), (4, .int v4)], [], (q_kM (q_sA s 6 (upd (s.1 6) ((v3 + v5).toNatClampNeg) ((s.1 21) ((v1 + v5).toNatClampNeg)))) c n))) 2 (fun _ _ => rfl) ?_
      exact q_RP_xt (q_xt_mk (q_mn1 1 rfl (q_mn1 2 rfl (q_mn1 3 rfl (q_mn1 4 rfl (q_mn1 5 rfl (q_mn1 0 rfl q_mn0)))))) rfl) (hk3 (q_sA s 6 (upd (s.1 6) ((v3 + v5).toNatClampNeg) ((s.1 21) ((v1 + v5).toNatClampNeg)))) v1 v3 v4 (v5 + 1))
    | false =>
      refine q_RP_cF ?_
      refine q_RP_rsT (g2 := (28, [(0, .ref 85), (1, .int v1), (2, .ref 70), (3, .int v3), (4, .int v4), (5, .int v5)], [], (q_kM s c n))) rfl rfl (q_d_geF h1800) ?_
      exact q_RP_ret rfl rfl rfl
def dz_M304_85_70 (s : q_S) (a1 : Int32) (a3 : Int32) (a4 : Int32) : Option (q_S) :=
  dz_M304_85_70_3 5000 s a1 a3 a4 0
set_option maxHeartbeats 4000000 in
theorem dzt_M304_85_70 (s : q_S) (c n : Nat) (a1 : Int32) (a3 : Int32) (a4 : Int32) (x : q_S) (h : dz_M304_85_70 s a1 a3 a4 = some x) : q_Ca q_TB0 1 303 [.ref 85, .int a1, .ref 70, .int a3, .int a4] (q_kM s c n) ((q_oSM c n) x) := by
  refine q_CaP_of (φ := (q_oSM c n)) (Nat.le_of_ble_eq_true rfl) ?_ h
  clear h
  unfold dz_M304_85_70
  refine q_RP_seg (g2 := (3, [(5, .int 0), (0, .ref 85), (1, .int a1), (2, .ref 70), (3, .int a3), (4, .int a4)], [], (q_kM s c n))) 2 (fun _ _ => rfl) ?_
  exact q_RP_xt (q_xt_mk (q_mn1 1 rfl (q_mn1 2 rfl (q_mn1 3 rfl (q_mn1 4 rfl (q_mn1 5 rfl (q_mn1 0 rfl q_mn0)))))) rfl) (dzt_M304_85_70_3 c n 5000 s a1 a3 a4 0)
def dz_M304_87_72_3 (m : Nat) : q_S → Int32 → Int32 → Int32 → Int32 → Option (q_S) := Nat.rec (motive := fun _ => q_S → Int32 → Int32 → Int32 → Int32 → Option (q_S)) (fun _ _ _ _ _ => none) (fun _ k3 s v1 v3 v4 v5 =>
  cond (decide (v5 < v4)) (cond (q_in (v1 + v5) 120) (cond (q_in (v3 + v5) 40) (k3 (q_sA s 8 (upd (s.1 8) ((v3 + v5).toNatClampNeg) ((s.1 23) ((v1 + v5).toNatClampNeg)))) v1 v3 v4 (v5 + 1)) none) none) (some s)) m
theorem dzs_M304_87_72_3 (m : Nat) (s : q_S) (v1 : Int32) (v3 : Int32) (v4 : Int32) (v5 : Int32) : dz_M304_87_72_3 (m + 1) s v1 v3 v4 v5 = (fun k3 : q_S → Int32 → Int32 → Int32 → Int32 → Option (q_S) =>
  cond (decide (v5 < v4)) (cond (q_in (v1 + v5) 120) (cond (q_in (v3 + v5) 40) (k3 (q_sA s 8 (upd (s.1 8) ((v3 + v5).toNatClampNeg) ((s.1 23) ((v1 + v5).toNatClampNeg)))) v1 v3 v4 (v5 + 1)) none) none) (some s)) (dz_M304_87_72_3 m) := rfl
set_option maxHeartbeats 4000000 in
theorem dzt_M304_87_72_3 (c n : Nat) : ∀ (m : Nat) (s : q_S) (v1 : Int32) (v3 : Int32) (v4 : Int32) (v5 : Int32), q_RP q_TB0 0 303 (3, [(0, .ref 87), (1, .int v1), (2, .ref 72), (3, .int v3), (4, .int v4), (5, .int v5)], [], (q_kM s c n)) (q_oSM c n) (dz_M304_87_72_3 m s v1 v3 v4 v5) := by
  intro m
  induction m with
  | zero => intro s v1 v3 v4 v5; exact q_RP_no
  | succ m ih =>
    intro s v1 v3 v4 v5
    have hk3 := ih
    clear ih
    rw [dzs_M304_87_72_3]
    generalize dz_M304_87_72_3 m = k3 at hk3 ⊢
    dsimp only
    refine q_RP_seg (g2 := (7, [(0, .ref 87), (1, .int v1), (2, .ref 72), (3, .int v3), (4, .int v4), (5, .int v5)], [.int v4, .int v5], (q_kM s c n))) 2 (fun _ _ => rfl) ?_
    cases h1803 : decide (v5 < v4) with
    | true =>
      refine q_RP_cT ?_
      refine q_RP_rsF (g2 := (10, [(0, .ref 87), (1, .int v1), (2, .ref 72), (3, .int v3), (4, .int v4), (5, .int v5)], [], (q_kM s c n))) rfl rfl (q_d_geT h1803) ?_
      refine q_RP_seg (g2 := (20, [(0, .ref 87), (1, .int v1), (2, .ref 72), (3, .int v3), (4, .int v4), (5, .int v5)], [.int (v1 + v5), .ref 87, .int (v3 + v5), .ref 72], (q_kM s c n))) 8 (fun _ _ => rfl) ?_
      refine q_RP_as fun i1804 => ?_
      refine q_RP_rsT (g2 := (21, [(0, .ref 87), (1, .int v1), (2, .ref 72), (3, .int v3), (4, .int v4), (5, .int v5)], [.int ((s.1 23) ((v1 + v5).toNatClampNeg)), .int (v3 + v5), .ref 72], (q_kM s c n))) rfl rfl i1804 ?_
      refine q_RP_as fun i1805 => ?_
      refine q_RP_rsT (g2 := (22, [(0, .ref 87), (1, .int v1), (2, .ref 72), (3, .int v3), (4, .int v4), (5, .int v5)], [], (q_kM (q_sA s 8 (upd (s.1 8) ((v3 + v5).toNatClampNeg) ((s.1 23) ((v1 + v5).toNatClampNeg)))) c n))) rfl q_wM8 i1805 ?_
      refine q_RP_seg (g2 := (3, [(5, .int (v5 + 1)), (0, .ref 87), (1, .int v1), (2, .ref 72), (3, .int v3), (4, .int v4)], [], (q_kM (q_sA s 8 (upd (s.1 8) ((v3 + v5).toNatClampNeg) ((s.1 23) ((v1 + v5).toNatClampNeg)))) c n))) 2 (fun _ _ => rfl) ?_
      exact q_RP_xt (q_xt_mk (q_mn1 1 rfl (q_mn1 2 rfl (q_mn1 3 rfl (q_mn1 4 rfl (q_mn1 5 rfl (q_mn1 0 rfl q_mn0)))))) rfl) (hk3 (q_sA s 8 (upd (s.1 8) ((v3 + v5).toNatClampNeg) ((s.1 23) ((v1 + v5).toNatClampNeg)))) v1 v3 v4 (v5 + 1))
    | false =>
      refine q_RP_cF ?_
      refine q_RP_rsT (g2 := (28, [(0, .ref 87), (1, .int v1), (2, .ref 72), (3, .int v3), (4, .int v4), (5, .int v5)], [], (q_kM s c n))) rfl rfl (q_d_geF h1803) ?_
      exact q_RP_ret rfl rfl rfl
def dz_M304_87_72 (s : q_S) (a1 : Int32) (a3 : Int32) (a4 : Int32) : Option (q_S) :=
  dz_M304_87_72_3 5000 s a1 a3 a4 0
set_option maxHeartbeats 4000000 in
theorem dzt_M304_87_72 (s : q_S) (c n : Nat) (a1 : Int32) (a3 : Int32) (a4 : Int32) (x : q_S) (h : dz_M304_87_72 s a1 a3 a4 = some x) : q_Ca q_TB0 1 303 [.ref 87, .int a1, .ref 72, .int a3, .int a4] (q_kM s c n) ((q_oSM c n) x) := by
  refine q_CaP_of (φ := (q_oSM c n)) (Nat.le_of_ble_eq_true rfl) ?_ h
  clear h
  unfold dz_M304_87_72
  refine q_RP_seg (g2 := (3, [(5, .int 0), (0, .ref 87), (1, .int a1), (2, .ref 72), (3, .int a3), (4, .int a4)], [], (q_kM s c n))) 2 (fun _ _ => rfl) ?_
  exact q_RP_xt (q_xt_mk (q_mn1 1 rfl (q_mn1 2 rfl (q_mn1 3 rfl (q_mn1 4 rfl (q_mn1 5 rfl (q_mn1 0 rfl q_mn0)))))) rfl) (dzt_M304_87_72_3 c n 5000 s a1 a3 a4 0)
def dz_M304_88_73_3 (m : Nat) : q_S → Int32 → Int32 → Int32 → Int32 → Option (q_S) := Nat.rec (motive := fun _ => q_S → Int32 → Int32 → Int32 → Int32 → Option (q_S)) (fun _ _ _ _ _ => none) (fun _ k3 s v1 v3 v4 v5 =>
  cond (decide (v5 < v4)) (cond (q_in (v1 + v5) 48) (cond (q_in (v3 + v5) 16) (k3 (q_sA s 9 (upd (s.1 9) ((v3 + v5).toNatClampNeg) ((s.1 24) ((v1 + v5).toNatClampNeg)))) v1 v3 v4 (v5 + 1)) none) none) (some s)) m
theorem dzs_M304_88_73_3 (m : Nat) (s : q_S) (v1 : Int32) (v3 : Int32) (v4 : Int32) (v5 : Int32) : dz_M304_88_73_3 (m + 1) s v1 v3 v4 v5 = (fun k3 : q_S → Int32 → Int32 → Int32 → Int32 → Option (q_S) =>
  cond (decide (v5 < v4)) (cond (q_in (v1 + v5) 48) (cond (q_in (v3 + v5) 16) (k3 (q_sA s 9 (upd (s.1 9) ((v3 + v5).toNatClampNeg) ((s.1 24) ((v1 + v5).toNatClampNeg)))) v1 v3 v4 (v5 + 1)) none) none) (some s)) (dz_M304_88_73_3 m) := rfl
set_option maxHeartbeats 4000000 in
theorem dzt_M304_88_73_3 (c n : Nat) : ∀ (m : Nat) (s : q_S) (v1 : Int32) (v3 : Int32) (v4 : Int32) (v5 : Int32), q_RP q_TB0 0 303 (3, [(0, .ref 88), (1, .int v1), (2, .ref 73), (3, .int v3), (4, .int v4), (5, .int v5)], [], (q_kM s c n)) (q_oSM c n) (dz_M304_88_73_3 m s v1 v3 v4 v5) := by
  intro m
  induction m with
  | zero => intro s v1 v3 v4 v5; exact q_RP_no
  | succ m ih =>
    intro s v1 v3 v4 v5
    have hk3 := ih
    clear ih
    rw [dzs_M304_88_73_3]
    generalize dz_M304_88_73_3 m = k3 at hk3 ⊢
    dsimp only
    refine q_RP_seg (g2 := (7, [(0, .ref 88), (1, .int v1), (2, .ref 73), (3, .int v3), (4, .int v4), (5, .int v5)], [.int v4, .int v5], (q_kM s c n))) 2 (fun _ _ => rfl) ?_
    cases h1806 : decide (v5 < v4) with
    | true =>
      refine q_RP_cT ?_
      refine q_RP_rsF (g2 := (10, [(0, .ref 88), (1, .int v1), (2, .ref 73), (3, .int v3), (4, .int v4), (5, .int v5)], [], (q_kM s c n))) rfl rfl (q_d_geT h1806) ?_
      refine q_RP_seg (g2 := (20, [(0, .ref 88), (1, .int v1), (2, .ref 73), (3, .int v3), (4, .int v4), (5, .int v5)], [.int (v1 + v5), .ref 88, .int (v3 + v5), .ref 73], (q_kM s c n))) 8 (fun _ _ => rfl) ?_
      refine q_RP_as fun i1807 => ?_
      refine q_RP_rsT (g2 := (21, [(0, .ref 88), (1, .int v1), (2, .ref 73), (3, .int v3), (4, .int v4), (5, .int v5)], [.int ((s.1 24) ((v1 + v5).toNatClampNeg)), .int (v3 + v5), .ref 73], (q_kM s c n))) rfl rfl i1807 ?_
      refine q_RP_as fun i1808 => ?_
      refine q_RP_rsT (g2 := (22, [(0, .ref 88), (1, .int v1), (2, .ref 73), (3, .int v3), (4, .int v4), (5, .int v5)], [], (q_kM (q_sA s 9 (upd (s.1 9) ((v3 + v5).toNatClampNeg) ((s.1 24) ((v1 + v5).toNatClampNeg)))) c n))) rfl q_wM9 i1808 ?_
      refine q_RP_seg (g2 := (3, [(5, .int (v5 + 1)), (0, .ref 88), (1, .int v1), (2, .ref 73), (3, .int v3), (4, .int v4)], [], (q_kM (q_sA s 9 (upd (s.1 9) ((v3 + v5).toNatClampNeg) ((s.1 24) ((v1 + v5).toNatClampNeg)))) c n))) 2 (fun _ _ => rfl) ?_
      exact q_RP_xt (q_xt_mk (q_mn1 1 rfl (q_mn1 2 rfl (q_mn1 3 rfl (q_mn1 4 rfl (q_mn1 5 rfl (q_mn1 0 rfl q_mn0)))))) rfl) (hk3 (q_sA s 9 (upd (s.1 9) ((v3 + v5).toNatClampNeg) ((s.1 24) ((v1 + v5).toNatClampNeg)))) v1 v3 v4 (v5 + 1))
    | false =>
      refine q_RP_cF ?_
      refine q_RP_rsT (g2 := (28, [(0, .ref 88), (1, .int v1), (2, .ref 73), (3, .int v3), (4, .int v4), (5, .int v5)], [], (q_kM s c n))) rfl rfl (q_d_geF h1806) ?_
      exact q_RP_ret rfl rfl rfl
def dz_M304_88_73 (s : q_S) (a1 : Int32) (a3 : Int32) (a4 : Int32) : Option (q_S) :=
  dz_M304_88_73_3 5000 s a1 a3 a4 0
set_option maxHeartbeats 4000000 in
theorem dzt_M304_88_73 (s : q_S) (c n : Nat) (a1 : Int32) (a3 : Int32) (a4 : Int32) (x : q_S) (h : dz_M304_88_73 s a1 a3 a4 = some x) : q_Ca q_TB0 1 303 [.ref 88, .int a1, .ref 73, .int a3, .int a4] (q_kM s c n) ((q_oSM c n) x) := by
  refine q_CaP_of (φ := (q_oSM c n)) (Nat.le_of_ble_eq_true rfl) ?_ h
  clear h
  unfold dz_M304_88_73
  refine q_RP_seg (g2 := (3, [(5, .int 0), (0, .ref 88), (1, .int a1), (2, .ref 73), (3, .int a3), (4, .int a4)], [], (q_kM s c n))) 2 (fun _ _ => rfl) ?_
  exact q_RP_xt (q_xt_mk (q_mn1 1 rfl (q_mn1 2 rfl (q_mn1 3 rfl (q_mn1 4 rfl (q_mn1 5 rfl (q_mn1 0 rfl q_mn0)))))) rfl) (dzt_M304_88_73_3 c n 5000 s a1 a3 a4 0)
def dz_M304_89_74_3 (m : Nat) : q_S → Int32 → Int32 → Int32 → Int32 → Option (q_S) := Nat.rec (motive := fun _ => q_S → Int32 → Int32 → Int32 → Int32 → Option (q_S)) (fun _ _ _ _ _ => none) (fun _ k3 s v1 v3 v4 v5 =>
  cond (decide (v5 < v4)) (cond (q_in (v1 + v5) 9) (cond (q_in (v3 + v5) 3) (k3 (q_sA s 10 (upd (s.1 10) ((v3 + v5).toNatClampNeg) ((s.1 25) ((v1 + v5).toNatClampNeg)))) v1 v3 v4 (v5 + 1)) none) none) (some s)) m
theorem dzs_M304_89_74_3 (m : Nat) (s : q_S) (v1 : Int32) (v3 : Int32) (v4 : Int32) (v5 : Int32) : dz_M304_89_74_3 (m + 1) s v1 v3 v4 v5 = (fun k3 : q_S → Int32 → Int32 → Int32 → Int32 → Option (q_S) =>
  cond (decide (v5 < v4)) (cond (q_in (v1 + v5) 9) (cond (q_in (v3 + v5) 3) (k3 (q_sA s 10 (upd (s.1 10) ((v3 + v5).toNatClampNeg) ((s.1 25) ((v1 + v5).toNatClampNeg)))) v1 v3 v4 (v5 + 1)) none) none) (some s)) (dz_M304_89_74_3 m) := rfl
set_option maxHeartbeats 4000000 in
theorem dzt_M304_89_74_3 (c n : Nat) : ∀ (m : Nat) (s : q_S) (v1 : Int32) (v3 : Int32) (v4 : Int32) (v5 : Int32), q_RP q_TB0 0 303 (3, [(0, .ref 89), (1, .int v1), (2, .ref 74), (3, .int v3), (4, .int v4), (5, .int v5)], [], (q_kM s c n)) (q_oSM c n) (dz_M304_89_74_3 m s v1 v3 v4 v5) := by
  intro m
  induction m with
  | zero => intro s v1 v3 v4 v5; exact q_RP_no
  | succ m ih =>
    intro s v1 v3 v4 v5
    have hk3 := ih
    clear ih
    rw [dzs_M304_89_74_3]
    generalize dz_M304_89_74_3 m = k3 at hk3 ⊢
    dsimp only
    refine q_RP_seg (g2 := (7, [(0, .ref 89), (1, .int v1), (2, .ref 74), (3, .int v3), (4, .int v4), (5, .int v5)], [.int v4, .int v5], (q_kM s c n))) 2 (fun _ _ => rfl) ?_
    cases h1809 : decide (v5 < v4) with
    | true =>
      refine q_RP_cT ?_
      refine q_RP_rsF (g2 := (10, [(0, .ref 89), (1, .int v1), (2, .ref 74), (3, .int v3), (4, .int v4), (5, .int v5)], [], (q_kM s c n))) rfl rfl (q_d_geT h1809) ?_
      refine q_RP_seg (g2 := (20, [(0, .ref 89), (1, .int v1), (2, .ref 74), (3, .int v3), (4, .int v4), (5, .int v5)], [.int (v1 + v5), .ref 89, .int (v3 + v5), .ref 74], (q_kM s c n))) 8 (fun _ _ => rfl) ?_
      refine q_RP_as fun i1810 => ?_
      refine q_RP_rsT (g2 := (21, [(0, .ref 89), (1, .int v1), (2, .ref 74), (3, .int v3), (4, .int v4), (5, .int v5)], [.int ((s.1 25) ((v1 + v5).toNatClampNeg)), .int (v3 + v5), .ref 74], (q_kM s c n))) rfl rfl i1810 ?_
      refine q_RP_as fun i1811 => ?_
      refine q_RP_rsT (g2 := (22, [(0, .ref 89), (1, .int v1), (2, .ref 74), (3, .int v3), (4, .int v4), (5, .int v5)], [], (q_kM (q_sA s 10 (upd (s.1 10) ((v3 + v5).toNatClampNeg) ((s.1 25) ((v1 + v5).toNatClampNeg)))) c n))) rfl q_wM10 i1811 ?_
      refine q_RP_seg (g2 := (3, [(5, .int (v5 + 1)), (0, .ref 89), (1, .int v1), (2, .ref 74), (3, .int v3), (4, .int v4)], [], (q_kM (q_sA s 10 (upd (s.1 10) ((v3 + v5).toNatClampNeg) ((s.1 25) ((v1 + v5).toNatClampNeg)))) c n))) 2 (fun _ _ => rfl) ?_
      exact q_RP_xt (q_xt_mk (q_mn1 1 rfl (q_mn1 2 rfl (q_mn1 3 rfl (q_mn1 4 rfl (q_mn1 5 rfl (q_mn1 0 rfl q_mn0)))))) rfl) (hk3 (q_sA s 10 (upd (s.1 10) ((v3 + v5).toNatClampNeg) ((s.1 25) ((v1 + v5).toNatClampNeg)))) v1 v3 v4 (v5 + 1))
    | false =>
      refine q_RP_cF ?_
      refine q_RP_rsT (g2 := (28, [(0, .ref 89), (1, .int v1), (2, .ref 74), (3, .int v3), (4, .int v4), (5, .int v5)], [], (q_kM s c n))) rfl rfl (q_d_geF h1809) ?_
      exact q_RP_ret rfl rfl rfl
def dz_M304_89_74 (s : q_S) (a1 : Int32) (a3 : Int32) (a4 : Int32) : Option (q_S) :=
  dz_M304_89_74_3 5000 s a1 a3 a4 0
set_option maxHeartbeats 4000000 in
theorem dzt_M304_89_74 (s : q_S) (c n : Nat) (a1 : Int32) (a3 : Int32) (a4 : Int32) (x : q_S) (h : dz_M304_89_74 s a1 a3 a4 = some x) : q_Ca q_TB0 1 303 [.ref 89, .int a1, .ref 74, .int a3, .int a4] (q_kM s c n) ((q_oSM c n) x) := by
  refine q_CaP_of (φ := (q_oSM c n)) (Nat.le_of_ble_eq_true rfl) ?_ h
  clear h
  unfold dz_M304_89_74
  refine q_RP_seg (g2 := (3, [(5, .int 0), (0, .ref 89), (1, .int a1), (2, .ref 74), (3, .int a3), (4, .int a4)], [], (q_kM s c n))) 2 (fun _ _ => rfl) ?_
  exact q_RP_xt (q_xt_mk (q_mn1 1 rfl (q_mn1 2 rfl (q_mn1 3 rfl (q_mn1 4 rfl (q_mn1 5 rfl (q_mn1 0 rfl q_mn0)))))) rfl) (dzt_M304_89_74_3 c n 5000 s a1 a3 a4 0)
def dz_M304_90_75_3 (m : Nat) : q_S → Int32 → Int32 → Int32 → Int32 → Option (q_S) := Nat.rec (motive := fun _ => q_S → Int32 → Int32 → Int32 → Int32 → Option (q_S)) (fun _ _ _ _ _ => none) (fun _ k3 s v1 v3 v4 v5 =>
  cond (decide (v5 < v4)) (cond (q_in (v1 + v5) 9) (cond (q_in (v3 + v5) 3) (k3 (q_sA s 11 (upd (s.1 11) ((v3 + v5).toNatClampNeg) ((s.1 26) ((v1 + v5).toNatClampNeg)))) v1 v3 v4 (v5 + 1)) none) none) (some s)) m
theorem dzs_M304_90_75_3 (m : Nat) (s : q_S) (v1 : Int32) (v3 : Int32) (v4 : Int32) (v5 : Int32) : dz_M304_90_75_3 (m + 1) s v1 v3 v4 v5 = (fun k3 : q_S → Int32 → Int32 → Int32 → Int32 → Option (q_S) =>
  cond (decide (v5 < v4)) (cond (q_in (v1 + v5) 9) (cond (q_in (v3 + v5) 3) (k3 (q_sA s 11 (upd (s.1 11) ((v3 + v5).toNatClampNeg) ((s.1 26) ((v1 + v5).toNatClampNeg)))) v1 v3 v4 (v5 + 1)) none) none) (some s)) (dz_M304_90_75_3 m) := rfl
set_option maxHeartbeats 4000000 in
theorem dzt_M304_90_75_3 (c n : Nat) : ∀ (m : Nat) (s : q_S) (v1 : Int32) (v3 : Int32) (v4 : Int32) (v5 : Int32), q_RP q_TB0 0 303 (3, [(0, .ref 90), (1, .int v1), (2, .ref 75), (3, .int v3), (4, .int v4), (5, .int v5)], [], (q_kM s c n)) (q_oSM c n) (dz_M304_90_75_3 m s v1 v3 v4 v5) := by
  intro m
  induction m with
  | zero => intro s v1 v3 v4 v5; exact q_RP_no
  | succ m ih =>
    intro s v1 v3 v4 v5
    have hk3 := ih
    clear ih
    rw [dzs_M304_90_75_3]
    generalize dz_M304_90_75_3 m = k3 at hk3 ⊢
    dsimp only
    refine q_RP_seg (g2 := (7, [(0, .ref 90), (1, .int v1), (2, .ref 75), (3, .int v3), (4, .int v4), (5, .int v5)], [.int v4, .int v5], (q_kM s c n))) 2 (fun _ _ => rfl) ?_
    cases h1812 : decide (v5 < v4) with
    | true =>
      refine q_RP_cT ?_
      refine q_RP_rsF (g2 := (10, [(0, .ref 90), (1, .int v1), (2, .ref 75), (3, .int v3), (4, .int v4), (5, .int v5)], [], (q_kM s c n))) rfl rfl (q_d_geT h1812) ?_
      refine q_RP_seg (g2 := (20, [(0, .ref 90), (1, .int v1), (2, .ref 75), (3, .int v3), (4, .int v4), (5, .int v5)], [.int (v1 + v5), .ref 90, .int (v3 + v5), .ref 75], (q_kM s c n))) 8 (fun _ _ => rfl) ?_
      refine q_RP_as fun i1813 => ?_
      refine q_RP_rsT (g2 := (21, [(0, .ref 90), (1, .int v1), (2, .ref 75), (3, .int v3), (4, .int v4), (5, .int v5)], [.int ((s.1 26) ((v1 + v5).toNatClampNeg)), .int (v3 + v5), .ref 75], (q_kM s c n))) rfl rfl i1813 ?_
      refine q_RP_as fun i1814 => ?_
      refine q_RP_rsT (g2 := (22, [(0, .ref 90), (1, .int v1), (2, .ref 75), (3, .int v3), (4, .int v4), (5, .int v5)], [], (q_kM (q_sA s 11 (upd (s.1 11) ((v3 + v5).toNatClampNeg) ((s.1 26) ((v1 + v5).toNatClampNeg)))) c n))) rfl q_wM11 i1814 ?_
      refine q_RP_seg (g2 := (3, [(5, .int (v5 + 1)), (0, .ref 90), (1, .int v1), (2, .ref 75), (3, .int v3), (4, .int v4)], [], (q_kM (q_sA s 11 (upd (s.1 11) ((v3 + v5).toNatClampNeg) ((s.1 26) ((v1 + v5).toNatClampNeg)))) c n))) 2 (fun _ _ => rfl) ?_
      exact q_RP_xt (q_xt_mk (q_mn1 1 rfl (q_mn1 2 rfl (q_mn1 3 rfl (q_mn1 4 rfl (q_mn1 5 rfl (q_mn1 0 rfl q_mn0)))))) rfl) (hk3 (q_sA s 11 (upd (s.1 11) ((v3 + v5).toNatClampNeg) ((s.1 26) ((v1 + v5).toNatClampNeg)))) v1 v3 v4 (v5 + 1))
    | false =>
      refine q_RP_cF ?_
      refine q_RP_rsT (g2 := (28, [(0, .ref 90), (1, .int v1), (2, .ref 75), (3, .int v3), (4, .int v4), (5, .int v5)], [], (q_kM s c n))) rfl rfl (q_d_geF h1812) ?_
      exact q_RP_ret rfl rfl rfl
def dz_M304_90_75 (s : q_S) (a1 : Int32) (a3 : Int32) (a4 : Int32) : Option (q_S) :=
  dz_M304_90_75_3 5000 s a1 a3 a4 0
set_option maxHeartbeats 4000000 in
theorem dzt_M304_90_75 (s : q_S) (c n : Nat) (a1 : Int32) (a3 : Int32) (a4 : Int32) (x : q_S) (h : dz_M304_90_75 s a1 a3 a4 = some x) : q_Ca q_TB0 1 303 [.ref 90, .int a1, .ref 75, .int a3, .int a4] (q_kM s c n) ((q_oSM c n) x) := by
  refine q_CaP_of (φ := (q_oSM c n)) (Nat.le_of_ble_eq_true rfl) ?_ h
  clear h
  unfold dz_M304_90_75
  refine q_RP_seg (g2 := (3, [(5, .int 0), (0, .ref 90), (1, .int a1), (2, .ref 75), (3, .int a3), (4, .int a4)], [], (q_kM s c n))) 2 (fun _ _ => rfl) ?_
  exact q_RP_xt (q_xt_mk (q_mn1 1 rfl (q_mn1 2 rfl (q_mn1 3 rfl (q_mn1 4 rfl (q_mn1 5 rfl (q_mn1 0 rfl q_mn0)))))) rfl) (dzt_M304_90_75_3 c n 5000 s a1 a3 a4 0)
def dz_M304_91_76_3 (m : Nat) : q_S → Int32 → Int32 → Int32 → Int32 → Option (q_S) := Nat.rec (motive := fun _ => q_S → Int32 → Int32 → Int32 → Int32 → Option (q_S)) (fun _ _ _ _ _ => none) (fun _ k3 s v1 v3 v4 v5 =>
  cond (decide (v5 < v4)) (cond (q_in (v1 + v5) 9) (cond (q_in (v3 + v5) 3) (k3 (q_sA s 12 (upd (s.1 12) ((v3 + v5).toNatClampNeg) ((s.1 27) ((v1 + v5).toNatClampNeg)))) v1 v3 v4 (v5 + 1)) none) none) (some s)) m
theorem dzs_M304_91_76_3 (m : Nat) (s : q_S) (v1 : Int32) (v3 : Int32) (v4 : Int32) (v5 : Int32) : dz_M304_91_76_3 (m + 1) s v1 v3 v4 v5 = (fun k3 : q_S → Int32 → Int32 → Int32 → Int32 → Option (q_S) =>
  cond (decide (v5 < v4)) (cond (q_in (v1 + v5) 9) (cond (q_in (v3 + v5) 3) (k3 (q_sA s 12 (upd (s.1 12) ((v3 + v5).toNatClampNeg) ((s.1 27) ((v1 + v5).toNatClampNeg)))) v1 v3 v4 (v5 + 1)) none) none) (some s)) (dz_M304_91_76_3 m) := rfl
set_option maxHeartbeats 4000000 in
theorem dzt_M304_91_76_3 (c n : Nat) : ∀ (m : Nat) (s : q_S) (v1 : Int32) (v3 : Int32) (v4 : Int32) (v5 : Int32), q_RP q_TB0 0 303 (3, [(0, .ref 91), (1, .int v1), (2, .ref 76), (3, .int v3), (4, .int v4), (5, .int v5)], [], (q_kM s c n)) (q_oSM c n) (dz_M304_91_76_3 m s v1 v3 v4 v5) := by
  intro m
  induction m with
  | zero => intro s v1 v3 v4 v5; exact q_RP_no
  | succ m ih =>
    intro s v1 v3 v4 v5
    have hk3 := ih
    clear ih
    rw [dzs_M304_91_76_3]
    generalize dz_M304_91_76_3 m = k3 at hk3 ⊢
    dsimp only
    refine q_RP_seg (g2 := (7, [(0, .ref 91), (1, .int v1), (2, .ref 76), (3, .int v3), (4, .int v4), (5, .int v5)], [.int v4, .int v5], (q_kM s c n))) 2 (fun _ _ => rfl) ?_
    cases h1815 : decide (v5 < v4) with
    | true =>
      refine q_RP_cT ?_
      refine q_RP_rsF (g2 := (10, [(0, .ref 91), (1, .int v1), (2, .ref 76), (3, .int v3), (4, .int v4), (5, .int v5)], [], (q_kM s c n))) rfl rfl (q_d_geT h1815) ?_
      refine q_RP_seg (g2 := (20, [(0, .ref 91), (1, .int v1), (2, .ref 76), (3, .int v3), (4, .int v4), (5, .int v5)], [.int (v1 + v5), .ref 91, .int (v3 + v5), .ref 76], (q_kM s c n))) 8 (fun _ _ => rfl) ?_
      refine q_RP_as fun i1816 => ?_
      refine q_RP_rsT (g2 := (21, [(0, .ref 91), (1, .int v1), (2, .ref 76), (3, .int v3), (4, .int v4), (5, .int v5)], [.int ((s.1 27) ((v1 + v5).toNatClampNeg)), .int (v3 + v5), .ref 76], (q_kM s c n))) rfl rfl i1816 ?_
      refine q_RP_as fun i1817 => ?_
      refine q_RP_rsT (g2 := (22, [(0, .ref 91), (1, .int v1), (2, .ref 76), (3, .int v3), (4, .int v4), (5, .int v5)], [], (q_kM (q_sA s 12 (upd (s.1 12) ((v3 + v5).toNatClampNeg) ((s.1 27) ((v1 + v5).toNatClampNeg)))) c n))) rfl q_wM12 i1817 ?_
      refine q_RP_seg (g2 := (3, [(5, .int (v5 + 1)), (0, .ref 91), (1, .int v1), (2, .ref 76), (3, .int v3), (4, .int v4)], [], (q_kM (q_sA s 12 (upd (s.1 12) ((v3 + v5).toNatClampNeg) ((s.1 27) ((v1 + v5).toNatClampNeg)))) c n))) 2 (fun _ _ => rfl) ?_
      exact q_RP_xt (q_xt_mk (q_mn1 1 rfl (q_mn1 2 rfl (q_mn1 3 rfl (q_mn1 4 rfl (q_mn1 5 rfl (q_mn1 0 rfl q_mn0)))))) rfl) (hk3 (q_sA s 12 (upd (s.1 12) ((v3 + v5).toNatClampNeg) ((s.1 27) ((v1 + v5).toNatClampNeg)))) v1 v3 v4 (v5 + 1))
    | false =>
      refine q_RP_cF ?_
      refine q_RP_rsT (g2 := (28, [(0, .ref 91), (1, .int v1), (2, .ref 76), (3, .int v3), (4, .int v4), (5, .int v5)], [], (q_kM s c n))) rfl rfl (q_d_geF h1815) ?_
      exact q_RP_ret rfl rfl rfl
def dz_M304_91_76 (s : q_S) (a1 : Int32) (a3 : Int32) (a4 : Int32) : Option (q_S) :=
  dz_M304_91_76_3 5000 s a1 a3 a4 0
set_option maxHeartbeats 4000000 in
theorem dzt_M304_91_76 (s : q_S) (c n : Nat) (a1 : Int32) (a3 : Int32) (a4 : Int32) (x : q_S) (h : dz_M304_91_76 s a1 a3 a4 = some x) : q_Ca q_TB0 1 303 [.ref 91, .int a1, .ref 76, .int a3, .int a4] (q_kM s c n) ((q_oSM c n) x) := by
  refine q_CaP_of (φ := (q_oSM c n)) (Nat.le_of_ble_eq_true rfl) ?_ h
  clear h
  unfold dz_M304_91_76
  refine q_RP_seg (g2 := (3, [(5, .int 0), (0, .ref 91), (1, .int a1), (2, .ref 76), (3, .int a3), (4, .int a4)], [], (q_kM s c n))) 2 (fun _ _ => rfl) ?_
  exact q_RP_xt (q_xt_mk (q_mn1 1 rfl (q_mn1 2 rfl (q_mn1 3 rfl (q_mn1 4 rfl (q_mn1 5 rfl (q_mn1 0 rfl q_mn0)))))) rfl) (dzt_M304_91_76_3 c n 5000 s a1 a3 a4 0)
def dz_M304_92_77_3 (m : Nat) : q_S → Int32 → Int32 → Int32 → Int32 → Option (q_S) := Nat.rec (motive := fun _ => q_S → Int32 → Int32 → Int32 → Int32 → Option (q_S)) (fun _ _ _ _ _ => none) (fun _ k3 s v1 v3 v4 v5 =>
  cond (decide (v5 < v4)) (cond (q_in (v1 + v5) 9) (cond (q_in (v3 + v5) 3) (k3 (q_sA s 13 (upd (s.1 13) ((v3 + v5).toNatClampNeg) ((s.1 28) ((v1 + v5).toNatClampNeg)))) v1 v3 v4 (v5 + 1)) none) none) (some s)) m
theorem dzs_M304_92_77_3 (m : Nat) (s : q_S) (v1 : Int32) (v3 : Int32) (v4 : Int32) (v5 : Int32) : dz_M304_92_77_3 (m + 1) s v1 v3 v4 v5 = (fun k3 : q_S → Int32 → Int32 → Int32 → Int32 → Option (q_S) =>
  cond (decide (v5 < v4)) (cond (q_in (v1 + v5) 9) (cond (q_in (v3 + v5) 3) (k3 (q_sA s 13 (upd (s.1 13) ((v3 + v5).toNatClampNeg) ((s.1 28) ((v1 + v5).toNatClampNeg)))) v1 v3 v4 (v5 + 1)) none) none) (some s)) (dz_M304_92_77_3 m) := rfl
set_option maxHeartbeats 4000000 in
theorem dzt_M304_92_77_3 (c n : Nat) : ∀ (m : Nat) (s : q_S) (v1 : Int32) (v3 : Int32) (v4 : Int32) (v5 : Int32), q_RP q_TB0 0 303 (3, [(0, .ref 92), (1, .int v1), (2, .ref 77), (3, .int v3), (4, .int v4), (5, .int v5)], [], (q_kM s c n)) (q_oSM c n) (dz_M304_92_77_3 m s v1 v3 v4 v5) := by
  intro m
  induction m with
  | zero => intro s v1 v3 v4 v5; exact q_RP_no
  | succ m ih =>
    intro s v1 v3 v4 v5
    have hk3 := ih
    clear ih
    rw [dzs_M304_92_77_3]
    generalize dz_M304_92_77_3 m = k3 at hk3 ⊢
    dsimp only
    refine q_RP_seg (g2 := (7, [(0, .ref 92), (1, .int v1), (2, .ref 77), (3, .int v3), (4, .int v4), (5, .int v5)], [.int v4, .int v5], (q_kM s c n))) 2 (fun _ _ => rfl) ?_
    cases h1818 : decide (v5 < v4) with
    | true =>
      refine q_RP_cT ?_
      refine q_RP_rsF (g2 := (10, [(0, .ref 92), (1, .int v1), (2, .ref 77), (3, .int v3), (4, .int v4), (5, .int v5)], [], (q_kM s c n))) rfl rfl (q_d_geT h1818) ?_
      refine q_RP_seg (g2 := (20, [(0, .ref 92), (1, .int v1), (2, .ref 77), (3, .int v3), (4, .int v4), (5, .int v5)], [.int (v1 + v5), .ref 92, .int (v3 + v5), .ref 77], (q_kM s c n))) 8 (fun _ _ => rfl) ?_
      refine q_RP_as fun i1819 => ?_
      refine q_RP_rsT (g2 := (21, [(0, .ref 92), (1, .int v1), (2, .ref 77), (3, .int v3), (4, .int v4), (5, .int v5)], [.int ((s.1 28) ((v1 + v5).toNatClampNeg)), .int (v3 + v5), .ref 77], (q_kM s c n))) rfl rfl i1819 ?_
      refine q_RP_as fun i1820 => ?_
      refine q_RP_rsT (g2 := (22, [(0, .ref 92), (1, .int v1), (2, .ref 77), (3, .int v3), (4, .int v4), (5, .int v5)], [], (q_kM (q_sA s 13 (upd (s.1 13) ((v3 + v5).toNatClampNeg) ((s.1 28) ((v1 + v5).toNatClampNeg)))) c n))) rfl q_wM13 i1820 ?_
      refine q_RP_seg (g2 := (3, [(5, .int (v5 + 1)), (0, .ref 92), (1, .int v1), (2, .ref 77), (3, .int v3), (4, .int v4)], [], (q_kM (q_sA s 13 (upd (s.1 13) ((v3 + v5).toNatClampNeg) ((s.1 28) ((v1 + v5).toNatClampNeg)))) c n))) 2 (fun _ _ => rfl) ?_
      exact q_RP_xt (q_xt_mk (q_mn1 1 rfl (q_mn1 2 rfl (q_mn1 3 rfl (q_mn1 4 rfl (q_mn1 5 rfl (q_mn1 0 rfl q_mn0)))))) rfl) (hk3 (q_sA s 13 (upd (s.1 13) ((v3 + v5).toNatClampNeg) ((s.1 28) ((v1 + v5).toNatClampNeg)))) v1 v3 v4 (v5 + 1))
    | false =>
      refine q_RP_cF ?_
      refine q_RP_rsT (g2 := (28, [(0, .ref 92), (1, .int v1), (2, .ref 77), (3, .int v3), (4, .int v4), (5, .int v5)], [], (q_kM s c n))) rfl rfl (q_d_geF h1818) ?_
      exact q_RP_ret rfl rfl rfl
def dz_M304_92_77 (s : q_S) (a1 : Int32) (a3 : Int32) (a4 : Int32) : Option (q_S) :=
  dz_M304_92_77_3 5000 s a1 a3 a4 0
set_option maxHeartbeats 4000000 in
theorem dzt_M304_92_77 (s : q_S) (c n : Nat) (a1 : Int32) (a3 : Int32) (a4 : Int32) (x : q_S) (h : dz_M304_92_77 s a1 a3 a4 = some x) : q_Ca q_TB0 1 303 [.ref 92, .int a1, .ref 77, .int a3, .int a4] (q_kM s c n) ((q_oSM c n) x) := by
  refine q_CaP_of (φ := (q_oSM c n)) (Nat.le_of_ble_eq_true rfl) ?_ h
  clear h
  unfold dz_M304_92_77
  refine q_RP_seg (g2 := (3, [(5, .int 0), (0, .ref 92), (1, .int a1), (2, .ref 77), (3, .int a3), (4, .int a4)], [], (q_kM s c n))) 2 (fun _ _ => rfl) ?_
  exact q_RP_xt (q_xt_mk (q_mn1 1 rfl (q_mn1 2 rfl (q_mn1 3 rfl (q_mn1 4 rfl (q_mn1 5 rfl (q_mn1 0 rfl q_mn0)))))) rfl) (dzt_M304_92_77_3 c n 5000 s a1 a3 a4 0)
def dz_M304_93_78_3 (m : Nat) : q_S → Int32 → Int32 → Int32 → Int32 → Option (q_S) := Nat.rec (motive := fun _ => q_S → Int32 → Int32 → Int32 → Int32 → Option (q_S)) (fun _ _ _ _ _ => none) (fun _ k3 s v1 v3 v4 v5 =>
  cond (decide (v5 < v4)) (cond (q_in (v1 + v5) 72) (cond (q_in (v3 + v5) 24) (k3 (q_sA s 14 (upd (s.1 14) ((v3 + v5).toNatClampNeg) ((s.1 29) ((v1 + v5).toNatClampNeg)))) v1 v3 v4 (v5 + 1)) none) none) (some s)) m
theorem dzs_M304_93_78_3 (m : Nat) (s : q_S) (v1 : Int32) (v3 : Int32) (v4 : Int32) (v5 : Int32) : dz_M304_93_78_3 (m + 1) s v1 v3 v4 v5 = (fun k3 : q_S → Int32 → Int32 → Int32 → Int32 → Option (q_S) =>
  cond (decide (v5 < v4)) (cond (q_in (v1 + v5) 72) (cond (q_in (v3 + v5) 24) (k3 (q_sA s 14 (upd (s.1 14) ((v3 + v5).toNatClampNeg) ((s.1 29) ((v1 + v5).toNatClampNeg)))) v1 v3 v4 (v5 + 1)) none) none) (some s)) (dz_M304_93_78_3 m) := rfl
set_option maxHeartbeats 4000000 in
theorem dzt_M304_93_78_3 (c n : Nat) : ∀ (m : Nat) (s : q_S) (v1 : Int32) (v3 : Int32) (v4 : Int32) (v5 : Int32), q_RP q_TB0 0 303 (3, [(0, .ref 93), (1, .int v1), (2, .ref 78), (3, .int v3), (4, .int v4), (5, .int v5)], [], (q_kM s c n)) (q_oSM c n) (dz_M304_93_78_3 m s v1 v3 v4 v5) := by
  intro m
  induction m with
  | zero => intro s v1 v3 v4 v5; exact q_RP_no
  | succ m ih =>
    intro s v1 v3 v4 v5
    have hk3 := ih
    clear ih
    rw [dzs_M304_93_78_3]
    generalize dz_M304_93_78_3 m = k3 at hk3 ⊢
    dsimp only
    refine q_RP_seg (g2 := (7, [(0, .ref 93), (1, .int v1), (2, .ref 78), (3, .int v3), (4, .int v4), (5, .int v5)], [.int v4, .int v5], (q_kM s c n))) 2 (fun _ _ => rfl) ?_
    cases h1821 : decide (v5 < v4) with
    | true =>
      refine q_RP_cT ?_
      refine q_RP_rsF (g2 := (10, [(0, .ref 93), (1, .int v1), (2, .ref 78), (3, .int v3), (4, .int v4), (5, .int v5)], [], (q_kM s c n))) rfl rfl (q_d_geT h1821) ?_
      refine q_RP_seg (g2 := (20, [(0, .ref 93), (1, .int v1), (2, .ref 78), (3, .int v3), (4, .int v4), (5, .int v5)], [.int (v1 + v5), .ref 93, .int (v3 + v5), .ref 78], (q_kM s c n))) 8 (fun _ _ => rfl) ?_
      refine q_RP_as fun i1822 => ?_
      refine q_RP_rsT (g2 := (21, [(0, .ref 93), (1, .int v1), (2, .ref 78), (3, .int v3), (4, .int v4), (5, .int v5)], [.int ((s.1 29) ((v1 + v5).toNatClampNeg)), .int (v3 + v5), .ref 78], (q_kM s c n))) rfl rfl i1822 ?_
      refine q_RP_as fun i1823 => ?_
      refine q_RP_rsT (g2 := (22, [(0, .ref 93), (1, .int v1), (2, .ref 78), (3, .int v3), (4, .int v4), (5, .int v5)], [], (q_kM (q_sA s 14 (upd (s.1 14) ((v3 + v5).toNatClampNeg) ((s.1 29) ((v1 + v5).toNatClampNeg)))) c n))) rfl q_wM14 i1823 ?_
      refine q_RP_seg (g2 := (3, [(5, .int (v5 + 1)), (0, .ref 93), (1, .int v1), (2, .ref 78), (3, .int v3), (4, .int v4)], [], (q_kM (q_sA s 14 (upd (s.1 14) ((v3 + v5).toNatClampNeg) ((s.1 29) ((v1 + v5).toNatClampNeg)))) c n))) 2 (fun _ _ => rfl) ?_
      exact q_RP_xt (q_xt_mk (q_mn1 1 rfl (q_mn1 2 rfl (q_mn1 3 rfl (q_mn1 4 rfl (q_mn1 5 rfl (q_mn1 0 rfl q_mn0)))))) rfl) (hk3 (q_sA s 14 (upd (s.1 14) ((v3 + v5).toNatClampNeg) ((s.1 29) ((v1 + v5).toNatClampNeg)))) v1 v3 v4 (v5 + 1))
    | false =>
      refine q_RP_cF ?_
      refine q_RP_rsT (g2 := (28, [(0, .ref 93), (1, .int v1), (2, .ref 78), (3, .int v3), (4, .int v4), (5, .int v5)], [], (q_kM s c n))) rfl rfl (q_d_geF h1821) ?_
      exact q_RP_ret rfl rfl rfl
def dz_M304_93_78 (s : q_S) (a1 : Int32) (a3 : Int32) (a4 : Int32) : Option (q_S) :=
  dz_M304_93_78_3 5000 s a1 a3 a4 0
set_option maxHeartbeats 4000000 in
theorem dzt_M304_93_78 (s : q_S) (c n : Nat) (a1 : Int32) (a3 : Int32) (a4 : Int32) (x : q_S) (h : dz_M304_93_78 s a1 a3 a4 = some x) : q_Ca q_TB0 1 303 [.ref 93, .int a1, .ref 78, .int a3, .int a4] (q_kM s c n) ((q_oSM c n) x) := by
  refine q_CaP_of (φ := (q_oSM c n)) (Nat.le_of_ble_eq_true rfl) ?_ h
  clear h
  unfold dz_M304_93_78
  refine q_RP_seg (g2 := (3, [(5, .int 0), (0, .ref 93), (1, .int a1), (2, .ref 78), (3, .int a3), (4, .int a4)], [], (q_kM s c n))) 2 (fun _ _ => rfl) ?_
  exact q_RP_xt (q_xt_mk (q_mn1 1 rfl (q_mn1 2 rfl (q_mn1 3 rfl (q_mn1 4 rfl (q_mn1 5 rfl (q_mn1 0 rfl q_mn0)))))) rfl) (dzt_M304_93_78_3 c n 5000 s a1 a3 a4 0)
def dz_M305_86_71_3 (m : Nat) : q_S → Int32 → Int32 → Int32 → Int32 → Option (q_S) := Nat.rec (motive := fun _ => q_S → Int32 → Int32 → Int32 → Int32 → Option (q_S)) (fun _ _ _ _ _ => none) (fun _ k3 s v1 v3 v4 v5 =>
  cond (decide (v5 < v4)) (cond (q_in (v1 + v5) 48) (cond (q_in (v3 + v5) 16) (k3 (q_sA s 7 (upd (s.1 7) ((v3 + v5).toNatClampNeg) (vp_nar .boolean ((s.1 22) ((v1 + v5).toNatClampNeg))))) v1 v3 v4 (v5 + 1)) none) none) (some s)) m
theorem dzs_M305_86_71_3 (m : Nat) (s : q_S) (v1 : Int32) (v3 : Int32) (v4 : Int32) (v5 : Int32) : dz_M305_86_71_3 (m + 1) s v1 v3 v4 v5 = (fun k3 : q_S → Int32 → Int32 → Int32 → Int32 → Option (q_S) =>
  cond (decide (v5 < v4)) (cond (q_in (v1 + v5) 48) (cond (q_in (v3 + v5) 16) (k3 (q_sA s 7 (upd (s.1 7) ((v3 + v5).toNatClampNeg) (vp_nar .boolean ((s.1 22) ((v1 + v5).toNatClampNeg))))) v1 v3 v4 (v5 + 1)) none) none) (some s)) (dz_M305_86_71_3 m) := rfl
set_option maxHeartbeats 4000000 in
theorem dzt_M305_86_71_3 (c n : Nat) : ∀ (m : Nat) (s : q_S) (v1 : Int32) (v3 : Int32) (v4 : Int32) (v5 : Int32), q_RP q_TB0 0 304 (3, [(0, .ref 86), (1, .int v1), (2, .ref 71), (3, .int v3), (4, .int v4), (5, .int v5)], [], (q_kM s c n)) (q_oSM c n) (dz_M305_86_71_3 m s v1 v3 v4 v5) := by
  intro m
  induction m with
  | zero => intro s v1 v3 v4 v5; exact q_RP_no
  | succ m ih =>
    intro s v1 v3 v4 v5
    have hk3 := ih
    clear ih
    rw [dzs_M305_86_71_3]
    generalize dz_M305_86_71_3 m = k3 at hk3 ⊢
    dsimp only
    refine q_RP_seg (g2 := (7, [(0, .ref 86), (1, .int v1), (2, .ref 71), (3, .int v3), (4, .int v4), (5, .int v5)], [.int v4, .int v5], (q_kM s c n))) 2 (fun _ _ => rfl) ?_
    cases h1824 : decide (v5 < v4) with
    | true =>
      refine q_RP_cT ?_
      refine q_RP_rsF (g2 := (10, [(0, .ref 86), (1, .int v1), (2, .ref 71), (3, .int v3), (4, .int v4), (5, .int v5)], [], (q_kM s c n))) rfl rfl (q_d_geT h1824) ?_
      refine q_RP_seg (g2 := (20, [(0, .ref 86), (1, .int v1), (2, .ref 71), (3, .int v3), (4, .int v4), (5, .int v5)], [.int (v1 + v5), .ref 86, .int (v3 + v5), .ref 71], (q_kM s c n))) 8 (fun _ _ => rfl) ?_
      refine q_RP_as fun i1825 => ?_
      refine q_RP_rsT (g2 := (21, [(0, .ref 86), (1, .int v1), (2, .ref 71), (3, .int v3), (4, .int v4), (5, .int v5)], [.int ((s.1 22) ((v1 + v5).toNatClampNeg)), .int (v3 + v5), .ref 71], (q_kM s c n))) rfl rfl i1825 ?_
      refine q_RP_as fun i1826 => ?_
      refine q_RP_rsT (g2 := (22, [(0, .ref 86), (1, .int v1), (2, .ref 71), (3, .int v3), (4, .int v4), (5, .int v5)], [], (q_kM (q_sA s 7 (upd (s.1 7) ((v3 + v5).toNatClampNeg) (vp_nar .boolean ((s.1 22) ((v1 + v5).toNatClampNeg))))) c n))) rfl q_wM7 i1826 ?_
      refine q_RP_seg (g2 := (3, [(5, .int (v5 + 1)), (0, .ref 86), (1, .int v1), (2, .ref 71), (3, .int v3), (4, .int v4)], [], (q_kM (q_sA s 7 (upd (s.1 7) ((v3 + v5).toNatClampNeg) (vp_nar .boolean ((s.1 22) ((v1 + v5).toNatClampNeg))))) c n))) 2 (fun _ _ => rfl) ?_
      exact q_RP_xt (q_xt_mk (q_mn1 1 rfl (q_mn1 2 rfl (q_mn1 3 rfl (q_mn1 4 rfl (q_mn1 5 rfl (q_mn1 0 rfl q_mn0)))))) rfl) (hk3 (q_sA s 7 (upd (s.1 7) ((v3 + v5).toNatClampNeg) (vp_nar .boolean ((s.1 22) ((v1 + v5).toNatClampNeg))))) v1 v3 v4 (v5 + 1))
    | false =>
      refine q_RP_cF ?_
      refine q_RP_rsT (g2 := (28, [(0, .ref 86), (1, .int v1), (2, .ref 71), (3, .int v3), (4, .int v4), (5, .int v5)], [], (q_kM s c n))) rfl rfl (q_d_geF h1824) ?_
      exact q_RP_ret rfl rfl rfl
def dz_M305_86_71 (s : q_S) (a1 : Int32) (a3 : Int32) (a4 : Int32) : Option (q_S) :=
  dz_M305_86_71_3 5000 s a1 a3 a4 0
set_option maxHeartbeats 4000000 in
theorem dzt_M305_86_71 (s : q_S) (c n : Nat) (a1 : Int32) (a3 : Int32) (a4 : Int32) (x : q_S) (h : dz_M305_86_71 s a1 a3 a4 = some x) : q_Ca q_TB0 1 304 [.ref 86, .int a1, .ref 71, .int a3, .int a4] (q_kM s c n) ((q_oSM c n) x) := by
  refine q_CaP_of (φ := (q_oSM c n)) (Nat.le_of_ble_eq_true rfl) ?_ h
  clear h
  unfold dz_M305_86_71
  refine q_RP_seg (g2 := (3, [(5, .int 0), (0, .ref 86), (1, .int a1), (2, .ref 71), (3, .int a3), (4, .int a4)], [], (q_kM s c n))) 2 (fun _ _ => rfl) ?_
  exact q_RP_xt (q_xt_mk (q_mn1 1 rfl (q_mn1 2 rfl (q_mn1 3 rfl (q_mn1 4 rfl (q_mn1 5 rfl (q_mn1 0 rfl q_mn0)))))) rfl) (dzt_M305_86_71_3 c n 5000 s a1 a3 a4 0)
def dz_M305_94_79_3 (m : Nat) : q_S → Int32 → Int32 → Int32 → Int32 → Option (q_S) := Nat.rec (motive := fun _ => q_S → Int32 → Int32 → Int32 → Int32 → Option (q_S)) (fun _ _ _ _ _ => none) (fun _ k3 s v1 v3 v4 v5 =>
  cond (decide (v5 < v4)) (cond (q_in (v1 + v5) 24) (cond (q_in (v3 + v5) 8) (k3 (q_sA s 15 (upd (s.1 15) ((v3 + v5).toNatClampNeg) (vp_nar .boolean ((s.1 30) ((v1 + v5).toNatClampNeg))))) v1 v3 v4 (v5 + 1)) none) none) (some s)) m
theorem dzs_M305_94_79_3 (m : Nat) (s : q_S) (v1 : Int32) (v3 : Int32) (v4 : Int32) (v5 : Int32) : dz_M305_94_79_3 (m + 1) s v1 v3 v4 v5 = (fun k3 : q_S → Int32 → Int32 → Int32 → Int32 → Option (q_S) =>
  cond (decide (v5 < v4)) (cond (q_in (v1 + v5) 24) (cond (q_in (v3 + v5) 8) (k3 (q_sA s 15 (upd (s.1 15) ((v3 + v5).toNatClampNeg) (vp_nar .boolean ((s.1 30) ((v1 + v5).toNatClampNeg))))) v1 v3 v4 (v5 + 1)) none) none) (some s)) (dz_M305_94_79_3 m) := rfl
set_option maxHeartbeats 4000000 in
theorem dzt_M305_94_79_3 (c n : Nat) : ∀ (m : Nat) (s : q_S) (v1 : Int32) (v3 : Int32) (v4 : Int32) (v5 : Int32), q_RP q_TB0 0 304 (3, [(0, .ref 94), (1, .int v1), (2, .ref 79), (3, .int v3), (4, .int v4), (5, .int v5)], [], (q_kM s c n)) (q_oSM c n) (dz_M305_94_79_3 m s v1 v3 v4 v5) := by
  intro m
  induction m with
  | zero => intro s v1 v3 v4 v5; exact q_RP_no
  | succ m ih =>
    intro s v1 v3 v4 v5
    have hk3 := ih
    clear ih
    rw [dzs_M305_94_79_3]
    generalize dz_M305_94_79_3 m = k3 at hk3 ⊢
    dsimp only
    refine q_RP_seg (g2 := (7, [(0, .ref 94), (1, .int v1), (2, .ref 79), (3, .int v3), (4, .int v4), (5, .int v5)], [.int v4, .int v5], (q_kM s c n))) 2 (fun _ _ => rfl) ?_
    cases h1827 : decide (v5 < v4) with
    | true =>
      refine q_RP_cT ?_
      refine q_RP_rsF (g2 := (10, [(0, .ref 94), (1, .int v1), (2, .ref 79), (3, .int v3), (4, .int v4), (5, .int v5)], [], (q_kM s c n))) rfl rfl (q_d_geT h1827) ?_
      refine q_RP_seg (g2 := (20, [(0, .ref 94), (1, .int v1), (2, .ref 79), (3, .int v3), (4, .int v4), (5, .int v5)], [.int (v1 + v5), .ref 94, .int (v3 + v5), .ref 79], (q_kM s c n))) 8 (fun _ _ => rfl) ?_
      refine q_RP_as fun i1828 => ?_
      refine q_RP_rsT (g2 := (21, [(0, .ref 94), (1, .int v1), (2, .ref 79), (3, .int v3), (4, .int v4), (5, .int v5)], [.int ((s.1 30) ((v1 + v5).toNatClampNeg)), .int (v3 + v5), .ref 79], (q_kM s c n))) rfl rfl i1828 ?_
      refine q_RP_as fun i1829 => ?_
      refine q_RP_rsT (g2 := (22, [(0, .ref 94), (1, .int v1), (2, .ref 79), (3, .int v3), (4, .int v4), (5, .int v5)], [], (q_kM (q_sA s 15 (upd (s.1 15) ((v3 + v5).toNatClampNeg) (vp_nar .boolean ((s.1 30) ((v1 + v5).toNatClampNeg))))) c n))) rfl q_wM15 i1829 ?_
      refine q_RP_seg (g2 := (3, [(5, .int (v5 + 1)), (0, .ref 94), (1, .int v1), (2, .ref 79), (3, .int v3), (4, .int v4)], [], (q_kM (q_sA s 15 (upd (s.1 15) ((v3 + v5).toNatClampNeg) (vp_nar .boolean ((s.1 30) ((v1 + v5).toNatClampNeg))))) c n))) 2 (fun _ _ => rfl) ?_
      exact q_RP_xt (q_xt_mk (q_mn1 1 rfl (q_mn1 2 rfl (q_mn1 3 rfl (q_mn1 4 rfl (q_mn1 5 rfl (q_mn1 0 rfl q_mn0)))))) rfl) (hk3 (q_sA s 15 (upd (s.1 15) ((v3 + v5).toNatClampNeg) (vp_nar .boolean ((s.1 30) ((v1 + v5).toNatClampNeg))))) v1 v3 v4 (v5 + 1))
    | false =>
      refine q_RP_cF ?_
      refine q_RP_rsT (g2 := (28, [(0, .ref 94), (1, .int v1), (2, .ref 79), (3, .int v3), (4, .int v4), (5, .int v5)], [], (q_kM s c n))) rfl rfl (q_d_geF h1827) ?_
      exact q_RP_ret rfl rfl rfl
def dz_M305_94_79 (s : q_S) (a1 : Int32) (a3 : Int32) (a4 : Int32) : Option (q_S) :=
  dz_M305_94_79_3 5000 s a1 a3 a4 0
set_option maxHeartbeats 4000000 in
theorem dzt_M305_94_79 (s : q_S) (c n : Nat) (a1 : Int32) (a3 : Int32) (a4 : Int32) (x : q_S) (h : dz_M305_94_79 s a1 a3 a4 = some x) : q_Ca q_TB0 1 304 [.ref 94, .int a1, .ref 79, .int a3, .int a4] (q_kM s c n) ((q_oSM c n) x) := by
  refine q_CaP_of (φ := (q_oSM c n)) (Nat.le_of_ble_eq_true rfl) ?_ h
  clear h
  unfold dz_M305_94_79
  refine q_RP_seg (g2 := (3, [(5, .int 0), (0, .ref 94), (1, .int a1), (2, .ref 79), (3, .int a3), (4, .int a4)], [], (q_kM s c n))) 2 (fun _ _ => rfl) ?_
  exact q_RP_xt (q_xt_mk (q_mn1 1 rfl (q_mn1 2 rfl (q_mn1 3 rfl (q_mn1 4 rfl (q_mn1 5 rfl (q_mn1 0 rfl q_mn0)))))) rfl) (dzt_M305_94_79_3 c n 5000 s a1 a3 a4 0)
def dz_M308_64 (s : q_S) (a1 : Int32) : Option (q_S × Int32) :=
  q_let (dz_M202 s a1 0 ((s.2.1 0 17) - 1)) fun r1753 => cond r1753 (q_let (dz_M200_64 s 0) fun r1754 => cond r1754.2 (some (r1754.1, 0)) ((dz_M307_64 r1754.1 a1).bind fun r1755 => (dz_M304_80_65 r1754.1 (4096 * a1) 0 4096).bind fun r1756 => (dz_M304_81_66 r1756 (512 * a1) 0 512).bind fun r1757 => (dz_M304_82_67 r1757 (2048 * a1) 0 2048).bind fun r1758 => (dz_M304_83_68 r1758 (48 * a1) 0 48).bind fun r1759 => (dz_M304_84_69 r1759 (1024 * a1) 0 1024).bind fun r1760 => (dz_M304_85_70 r1760 (40 * a1) 0 40).bind fun r1761 => (dz_M304_87_72 r1761 (40 * a1) 0 40).bind fun r1762 => (dz_M304_88_73 r1762 (16 * a1) 0 16).bind fun r1763 => (dz_M304_89_74 r1763 (3 * a1) 0 3).bind fun r1764 => (dz_M304_90_75 r1764 (3 * a1) 0 3).bind fun r1765 => (dz_M304_91_76 r1765 (3 * a1) 0 3).bind fun r1766 => (dz_M304_92_77 r1766 (3 * a1) 0 3).bind fun r1767 => (dz_M304_93_78 r1767 (24 * a1) 0 24).bind fun r1768 => (dz_M305_86_71 r1768 (16 * a1) 0 16).bind fun r1769 => (dz_M305_94_79 r1769 (8 * a1) 0 8).bind fun r1770 => cond (q_in (2 * a1) 6) (cond (q_in ((2 * a1) + 1) 6) (some ((q_sI (q_sJ (q_sJ r1770 0 15 ((r1770.2.2 31) ((2 * a1).toNatClampNeg))) 0 16 ((r1770.2.2 31) (((2 * a1) + 1).toNatClampNeg))) 0 34 (-1)), r1755)) none) none)) (q_let (dz_M200_64 s 1) fun r1771 => cond r1771.2 (some (r1771.1, 0)) ((dz_M307_64 r1771.1 a1).bind fun r1772 => (dz_M304_80_65 r1771.1 (4096 * a1) 0 4096).bind fun r1773 => (dz_M304_81_66 r1773 (512 * a1) 0 512).bind fun r1774 => (dz_M304_82_67 r1774 (2048 * a1) 0 2048).bind fun r1775 => (dz_M304_83_68 r1775 (48 * a1) 0 48).bind fun r1776 => (dz_M304_84_69 r1776 (1024 * a1) 0 1024).bind fun r1777 => (dz_M304_85_70 r1777 (40 * a1) 0 40).bind fun r1778 => (dz_M304_87_72 r1778 (40 * a1) 0 40).bind fun r1779 => (dz_M304_88_73 r1779 (16 * a1) 0 16).bind fun r1780 => (dz_M304_89_74 r1780 (3 * a1) 0 3).bind fun r1781 => (dz_M304_90_75 r1781 (3 * a1) 0 3).bind fun r1782 => (dz_M304_91_76 r1782 (3 * a1) 0 3).bind fun r1783 => (dz_M304_92_77 r1783 (3 * a1) 0 3).bind fun r1784 => (dz_M304_93_78 r1784 (24 * a1) 0 24).bind fun r1785 => (dz_M305_86_71 r1785 (16 * a1) 0 16).bind fun r1786 => (dz_M305_94_79 r1786 (8 * a1) 0 8).bind fun r1787 => cond (q_in (2 * a1) 6) (cond (q_in ((2 * a1) + 1) 6) (some ((q_sI (q_sJ (q_sJ r1787 0 15 ((r1787.2.2 31) ((2 * a1).toNatClampNeg))) 0 16 ((r1787.2.2 31) (((2 * a1) + 1).toNatClampNeg))) 0 34 (-1)), r1772)) none) none))
set_option maxHeartbeats 4000000 in
theorem dzt_M308_64 (s : q_S) (c n : Nat) (a1 : Int32) (x : q_S × Int32) (h : dz_M308_64 s a1 = some x) : q_Ca q_TB0 2 307 [.ref 64, .int a1] (q_kM s c n) ((q_oIM c n) x) := by
  refine q_CaP_of (φ := (q_oIM c n)) (Nat.le_of_ble_eq_true rfl) ?_ h
  clear h
  unfold dz_M308_64
  refine q_RP_seg (g2 := (7, [(0, .ref 64), (1, .int a1)], [.int (s.2.1 0 17), .int 0, .int a1, .ref 64], (q_kM s c n))) 5 (fun _ _ => rfl) ?_
  refine q_RP_seg (g2 := (9, [(0, .ref 64), (1, .int a1)], [.int ((s.2.1 0 17) - 1), .int 0, .int a1, .ref 64], (q_kM s c n))) 2 (fun _ _ => rfl) ?_
  refine q_RP_call (v := (some (.int (q_b (dz_M202 s a1 0 ((s.2.1 0 17) - 1)))))) (h2 := (q_kM s c n)) rfl rfl ((dzt_M202 s c n a1 0 ((s.2.1 0 17) - 1)).le (Nat.le_of_ble_eq_true rfl)) ?_
  generalize dz_M202 s a1 0 ((s.2.1 0 17) - 1) = r1753
  refine q_RP_let ?_
  show q_RP _ _ _ (12, [(0, .ref 64), (1, .int a1)], [.int (q_b r1753), .ref 64], (q_kM s c n)) _ _
  cases h1783 : r1753 with
  | true =>
    refine q_RP_cT ?_
    show q_RP _ _ _ (12, [(0, .ref 64), (1, .int a1)], [.int 1, .ref 64], (q_kM s c n)) _ _
    refine q_RP_seg (g2 := (20, [(0, .ref 64), (1, .int a1)], [.int 0, .ref 64], (q_kM s c n))) 3 (fun _ _ => rfl) ?_
    refine q_RP_call (v := (some (.int (q_b (dz_M200_64 s 0).2)))) (h2 := (q_kM (dz_M200_64 s 0).1 c n)) rfl rfl ((dzt_M200_64 s c n 0).le (Nat.le_of_ble_eq_true rfl)) ?_
    generalize dz_M200_64 s 0 = r1754
    refine q_RP_let ?_
    show q_RP _ _ _ (23, [(0, .ref 64), (1, .int a1)], [.int (q_b r1754.2)], (q_kM r1754.1 c n)) _ _
    cases h1784 : r1754.2 with
    | true =>
      refine q_RP_cT ?_
      show q_RP _ _ _ (23, [(0, .ref 64), (1, .int a1)], [.int 1], (q_kM r1754.1 c n)) _ _
      refine q_RP_seg (g2 := (27, [(0, .ref 64), (1, .int a1)], [.int 0], (q_kM r1754.1 c n))) 2 (fun _ _ => rfl) ?_
      exact q_RP_ret rfl rfl rfl
    | false =>
      refine q_RP_cF ?_
      show q_RP _ _ _ (23, [(0, .ref 64), (1, .int a1)], [.int 0], (q_kM r1754.1 c n)) _ _
      refine q_RP_seg (g2 := (32, [(2, .int a1), (0, .ref 64), (1, .int a1)], [.int a1, .ref 64], (q_kM r1754.1 c n))) 5 (fun _ _ => rfl) ?_
      refine q_RP_bd fun r1755 er1755 => ?_
      refine q_RP_call (v := (some (.int r1755))) (h2 := (q_kM r1754.1 c n)) rfl rfl ((dzt_M307_64 r1754.1 c n a1 r1755 er1755).le (Nat.le_of_ble_eq_true rfl)) ?_
      show q_RP _ _ _ (35, [(2, .int a1), (0, .ref 64), (1, .int a1)], [.int r1755], (q_kM r1754.1 c n)) _ _
      refine q_RP_seg (g2 := (53, [(3, .int r1755), (2, .int a1), (0, .ref 64), (1, .int a1)], [.int 4096, .int 0, .ref 65, .int (4096 * a1), .ref 80], (q_kM r1754.1 c n))) 10 (fun _ _ => rfl) ?_
      refine q_RP_bd fun r1756 er1756 => ?_
      refine q_RP_call (v := none) (h2 := (q_kM r1756 c n)) rfl rfl ((dzt_M304_80_65 r1754.1 c n (4096 * a1) 0 4096 r1756 er1756).le (Nat.le_of_ble_eq_true rfl)) ?_
      show q_RP _ _ _ (56, [(3, .int r1755), (2, .int a1), (0, .ref 64), (1, .int a1)], [], (q_kM r1756 c n)) _ _
      refine q_RP_seg (g2 := (73, [(3, .int r1755), (2, .int a1), (0, .ref 64), (1, .int a1)], [.int 512, .int 0, .ref 66, .int (512 * a1), .ref 81], (q_kM r1756 c n))) 9 (fun _ _ => rfl) ?_
      refine q_RP_bd fun r1757 er1757 => ?_
      refine q_RP_call (v := none) (h2 := (q_kM r1757 c n)) rfl rfl ((dzt_M304_81_66 r1756 c n (512 * a1) 0 512 r1757 er1757).le (Nat.le_of_ble_eq_true rfl)) ?_
      show q_RP _ _ _ (76, [(3, .int r1755), (2, .int a1), (0, .ref 64), (1, .int a1)], [], (q_kM r1757 c n)) _ _
      refine q_RP_seg (g2 := (93, [(3, .int r1755), (2, .int a1), (0, .ref 64), (1, .int a1)], [.int 2048, .int 0, .ref 67, .int (2048 * a1), .ref 82], (q_kM r1757 c n))) 9 (fun _ _ => rfl) ?_
      refine q_RP_bd fun r1758 er1758 => ?_
      refine q_RP_call (v := none) (h2 := (q_kM r1758 c n)) rfl rfl ((dzt_M304_82_67 r1757 c n (2048 * a1) 0 2048 r1758 er1758).le (Nat.le_of_ble_eq_true rfl)) ?_
      show q_RP _ _ _ (96, [(3, .int r1755), (2, .int a1), (0, .ref 64), (1, .int a1)], [], (q_kM r1758 c n)) _ _
      refine q_RP_seg (g2 := (111, [(3, .int r1755), (2, .int a1), (0, .ref 64), (1, .int a1)], [.int 48, .int 0, .ref 68, .int (48 * a1), .ref 83], (q_kM r1758 c n))) 9 (fun _ _ => rfl) ?_
      refine q_RP_bd fun r1759 er1759 => ?_
      refine q_RP_call (v := none) (h2 := (q_kM r1759 c n)) rfl rfl ((dzt_M304_83_68 r1758 c n (48 * a1) 0 48 r1759 er1759).le (Nat.le_of_ble_eq_true rfl)) ?_
      show q_RP _ _ _ (114, [(3, .int r1755), (2, .int a1), (0, .ref 64), (1, .int a1)], [], (q_kM r1759 c n)) _ _
      refine q_RP_seg (g2 := (131, [(3, .int r1755), (2, .int a1), (0, .ref 64), (1, .int a1)], [.int 1024, .int 0, .ref 69, .int (1024 * a1), .ref 84], (q_kM r1759 c n))) 9 (fun _ _ => rfl) ?_
      refine q_RP_bd fun r1760 er1760 => ?_
      refine q_RP_call (v := none) (h2 := (q_kM r1760 c n)) rfl rfl ((dzt_M304_84_69 r1759 c n (1024 * a1) 0 1024 r1760 er1760).le (Nat.le_of_ble_eq_true rfl)) ?_
      show q_RP _ _ _ (134, [(3, .int r1755), (2, .int a1), (0, .ref 64), (1, .int a1)], [], (q_kM r1760 c n)) _ _
      refine q_RP_seg (g2 := (149, [(3, .int r1755), (2, .int a1), (0, .ref 64), (1, .int a1)], [.int 40, .int 0, .ref 70, .int (40 * a1), .ref 85], (q_kM r1760 c n))) 9 (fun _ _ => rfl) ?_
      refine q_RP_bd fun r1761 er1761 => ?_
      refine q_RP_call (v := none) (h2 := (q_kM r1761 c n)) rfl rfl ((dzt_M304_85_70 r1760 c n (40 * a1) 0 40 r1761 er1761).le (Nat.le_of_ble_eq_true rfl)) ?_
      show q_RP _ _ _ (152, [(3, .int r1755), (2, .int a1), (0, .ref 64), (1, .int a1)], [], (q_kM r1761 c n)) _ _
      refine q_RP_seg (g2 := (167, [(3, .int r1755), (2, .int a1), (0, .ref 64), (1, .int a1)], [.int 40, .int 0, .ref 72, .int (40 * a1), .ref 87], (q_kM r1761 c n))) 9 (fun _ _ => rfl) ?_
      refine q_RP_bd fun r1762 er1762 => ?_
      refine q_RP_call (v := none) (h2 := (q_kM r1762 c n)) rfl rfl ((dzt_M304_87_72 r1761 c n (40 * a1) 0 40 r1762 er1762).le (Nat.le_of_ble_eq_true rfl)) ?_
      show q_RP _ _ _ (170, [(3, .int r1755), (2, .int a1), (0, .ref 64), (1, .int a1)], [], (q_kM r1762 c n)) _ _
      refine q_RP_seg (g2 := (185, [(3, .int r1755), (2, .int a1), (0, .ref 64), (1, .int a1)], [.int 16, .int 0, .ref 73, .int (16 * a1), .ref 88], (q_kM r1762 c n))) 9 (fun _ _ => rfl) ?_
      refine q_RP_bd fun r1763 er1763 => ?_
      refine q_RP_call (v := none) (h2 := (q_kM r1763 c n)) rfl rfl ((dzt_M304_88_73 r1762 c n (16 * a1) 0 16 r1763 er1763).le (Nat.le_of_ble_eq_true rfl)) ?_
      show q_RP _ _ _ (188, [(3, .int r1755), (2, .int a1), (0, .ref 64), (1, .int a1)], [], (q_kM r1763 c n)) _ _
      refine q_RP_seg (g2 := (201, [(3, .int r1755), (2, .int a1), (0, .ref 64), (1, .int a1)], [.int 3, .int 0, .ref 74, .int (3 * a1), .ref 89], (q_kM r1763 c n))) 9 (fun _ _ => rfl) ?_
      refine q_RP_bd fun r1764 er1764 => ?_
      refine q_RP_call (v := none) (h2 := (q_kM r1764 c n)) rfl rfl ((dzt_M304_89_74 r1763 c n (3 * a1) 0 3 r1764 er1764).le (Nat.le_of_ble_eq_true rfl)) ?_
      show q_RP _ _ _ (204, [(3, .int r1755), (2, .int a1), (0, .ref 64), (1, .int a1)], [], (q_kM r1764 c n)) _ _
      refine q_RP_seg (g2 := (217, [(3, .int r1755), (2, .int a1), (0, .ref 64), (1, .int a1)], [.int 3, .int 0, .ref 75, .int (3 * a1), .ref 90], (q_kM r1764 c n))) 9 (fun _ _ => rfl) ?_
      refine q_RP_bd fun r1765 er1765 => ?_
      refine q_RP_call (v := none) (h2 := (q_kM r1765 c n)) rfl rfl ((dzt_M304_90_75 r1764 c n (3 * a1) 0 3 r1765 er1765).le (Nat.le_of_ble_eq_true rfl)) ?_
      show q_RP _ _ _ (220, [(3, .int r1755), (2, .int a1), (0, .ref 64), (1, .int a1)], [], (q_kM r1765 c n)) _ _
      refine q_RP_seg (g2 := (233, [(3, .int r1755), (2, .int a1), (0, .ref 64), (1, .int a1)], [.int 3, .int 0, .ref 76, .int (3 * a1), .ref 91], (q_kM r1765 c n))) 9 (fun _ _ => rfl) ?_
      refine q_RP_bd fun r1766 er1766 => ?_
      refine q_RP_call (v := none) (h2 := (q_kM r1766 c n)) rfl rfl ((dzt_M304_91_76 r1765 c n (3 * a1) 0 3 r1766 er1766).le (Nat.le_of_ble_eq_true rfl)) ?_
      show q_RP _ _ _ (236, [(3, .int r1755), (2, .int a1), (0, .ref 64), (1, .int a1)], [], (q_kM r1766 c n)) _ _
      refine q_RP_seg (g2 := (249, [(3, .int r1755), (2, .int a1), (0, .ref 64), (1, .int a1)], [.int 3, .int 0, .ref 77, .int (3 * a1), .ref 92], (q_kM r1766 c n))) 9 (fun _ _ => rfl) ?_
      refine q_RP_bd fun r1767 er1767 => ?_
      refine q_RP_call (v := none) (h2 := (q_kM r1767 c n)) rfl rfl ((dzt_M304_92_77 r1766 c n (3 * a1) 0 3 r1767 er1767).le (Nat.le_of_ble_eq_true rfl)) ?_
      show q_RP _ _ _ (252, [(3, .int r1755), (2, .int a1), (0, .ref 64), (1, .int a1)], [], (q_kM r1767 c n)) _ _
      refine q_RP_seg (g2 := (267, [(3, .int r1755), (2, .int a1), (0, .ref 64), (1, .int a1)], [.int 24, .int 0, .ref 78, .int (24 * a1), .ref 93], (q_kM r1767 c n))) 9 (fun _ _ => rfl) ?_
      refine q_RP_bd fun r1768 er1768 => ?_
      refine q_RP_call (v := none) (h2 := (q_kM r1768 c n)) rfl rfl ((dzt_M304_93_78 r1767 c n (24 * a1) 0 24 r1768 er1768).le (Nat.le_of_ble_eq_true rfl)) ?_
      show q_RP _ _ _ (270, [(3, .int r1755), (2, .int a1), (0, .ref 64), (1, .int a1)], [], (q_kM r1768 c n)) _ _
      refine q_RP_seg (g2 := (285, [(3, .int r1755), (2, .int a1), (0, .ref 64), (1, .int a1)], [.int 16, .int 0, .ref 71, .int (16 * a1), .ref 86], (q_kM r1768 c n))) 9 (fun _ _ => rfl) ?_
      refine q_RP_bd fun r1769 er1769 => ?_
      refine q_RP_call (v := none) (h2 := (q_kM r1769 c n)) rfl rfl ((dzt_M305_86_71 r1768 c n (16 * a1) 0 16 r1769 er1769).le (Nat.le_of_ble_eq_true rfl)) ?_
      show q_RP _ _ _ (288, [(3, .int r1755), (2, .int a1), (0, .ref 64), (1, .int a1)], [], (q_kM r1769 c n)) _ _
      refine q_RP_seg (g2 := (303, [(3, .int r1755), (2, .int a1), (0, .ref 64), (1, .int a1)], [.int 8, .int 0, .ref 79, .int (8 * a1), .ref 94], (q_kM r1769 c n))) 9 (fun _ _ => rfl) ?_
      refine q_RP_bd fun r1770 er1770 => ?_
      refine q_RP_call (v := none) (h2 := (q_kM r1770 c n)) rfl rfl ((dzt_M305_94_79 r1769 c n (8 * a1) 0 8 r1770 er1770).le (Nat.le_of_ble_eq_true rfl)) ?_
      show q_RP _ _ _ (306, [(3, .int r1755), (2, .int a1), (0, .ref 64), (1, .int a1)], [], (q_kM r1770 c n)) _ _
      refine q_RP_seg (g2 := (314, [(3, .int r1755), (2, .int a1), (0, .ref 64), (1, .int a1)], [.int (2 * a1), .ref 95, .ref 64], (q_kM r1770 c n))) 6 (fun _ _ => rfl) ?_
      refine q_RP_as fun i1830 => ?_
      refine q_RP_rsT (g2 := (315, [(3, .int r1755), (2, .int a1), (0, .ref 64), (1, .int a1)], [.long ((r1770.2.2 31) ((2 * a1).toNatClampNeg)), .ref 64], (q_kM r1770 c n))) rfl rfl i1830 ?_
      refine q_RP_st1 (g2 := (318, [(3, .int r1755), (2, .int a1), (0, .ref 64), (1, .int a1)], [], (q_kM (q_sJ r1770 0 15 ((r1770.2.2 31) ((2 * a1).toNatClampNeg))) c n))) rfl q_pM0_15 ?_
      refine q_RP_seg (g2 := (328, [(3, .int r1755), (2, .int a1), (0, .ref 64), (1, .int a1)], [.int ((2 * a1) + 1), .ref 95, .ref 64], (q_kM (q_sJ r1770 0 15 ((r1770.2.2 31) ((2 * a1).toNatClampNeg))) c n))) 8 (fun _ _ => rfl) ?_
      refine q_RP_as fun i1831 => ?_
      refine q_RP_rsT (g2 := (329, [(3, .int r1755), (2, .int a1), (0, .ref 64), (1, .int a1)], [.long ((r1770.2.2 31) (((2 * a1) + 1).toNatClampNeg)), .ref 64], (q_kM (q_sJ r1770 0 15 ((r1770.2.2 31) ((2 * a1).toNatClampNeg))) c n))) rfl rfl i1831 ?_
      refine q_RP_st1 (g2 := (332, [(3, .int r1755), (2, .int a1), (0, .ref 64), (1, .int a1)], [], (q_kM (q_sJ (q_sJ r1770 0 15 ((r1770.2.2 31) ((2 * a1).toNatClampNeg))) 0 16 ((r1770.2.2 31) (((2 * a1) + 1).toNatClampNeg))) c n))) rfl q_pM0_16 ?_
      refine q_RP_seg (g2 := (334, [(3, .int r1755), (2, .int a1), (0, .ref 64), (1, .int a1)], [.int (-1), .ref 64], (q_kM (q_sJ (q_sJ r1770 0 15 ((r1770.2.2 31) ((2 * a1).toNatClampNeg))) 0 16 ((r1770.2.2 31) (((2 * a1) + 1).toNatClampNeg))) c n))) 2 (fun _ _ => rfl) ?_
      refine q_RP_st1 (g2 := (337, [(3, .int r1755), (2, .int a1), (0, .ref 64), (1, .int a1)], [], (q_kM (q_sI (q_sJ (q_sJ r1770 0 15 ((r1770.2.2 31) ((2 * a1).toNatClampNeg))) 0 16 ((r1770.2.2 31) (((2 * a1) + 1).toNatClampNeg))) 0 34 (-1)) c n))) rfl q_pM0_34 ?_
      refine q_RP_seg (g2 := (338, [(3, .int r1755), (2, .int a1), (0, .ref 64), (1, .int a1)], [.int r1755], (q_kM (q_sI (q_sJ (q_sJ r1770 0 15 ((r1770.2.2 31) ((2 * a1).toNatClampNeg))) 0 16 ((r1770.2.2 31) (((2 * a1) + 1).toNatClampNeg))) 0 34 (-1)) c n))) 1 (fun _ _ => rfl) ?_
      exact q_RP_ret rfl rfl rfl
  | false =>
    refine q_RP_cF ?_
    show q_RP _ _ _ (12, [(0, .ref 64), (1, .int a1)], [.int 0, .ref 64], (q_kM s c n)) _ _
    refine q_RP_seg (g2 := (20, [(0, .ref 64), (1, .int a1)], [.int 1, .ref 64], (q_kM s c n))) 2 (fun _ _ => rfl) ?_
    refine q_RP_call (v := (some (.int (q_b (dz_M200_64 s 1).2)))) (h2 := (q_kM (dz_M200_64 s 1).1 c n)) rfl rfl ((dzt_M200_64 s c n 1).le (Nat.le_of_ble_eq_true rfl)) ?_
    generalize dz_M200_64 s 1 = r1771
    refine q_RP_let ?_
    show q_RP _ _ _ (23, [(0, .ref 64), (1, .int a1)], [.int (q_b r1771.2)], (q_kM r1771.1 c n)) _ _
    cases h1832 : r1771.2 with
    | true =>
      refine q_RP_cT ?_
      show q_RP _ _ _ (23, [(0, .ref 64), (1, .int a1)], [.int 1], (q_kM r1771.1 c n)) _ _
      refine q_RP_seg (g2 := (27, [(0, .ref 64), (1, .int a1)], [.int 0], (q_kM r1771.1 c n))) 2 (fun _ _ => rfl) ?_
      exact q_RP_ret rfl rfl rfl
    | false =>
      refine q_RP_cF ?_
      show q_RP _ _ _ (23, [(0, .ref 64), (1, .int a1)], [.int 0], (q_kM r1771.1 c n)) _ _
      refine q_RP_seg (g2 := (32, [(2, .int a1), (0, .ref 64), (1, .int a1)], [.int a1, .ref 64], (q_kM r1771.1 c n))) 5 (fun _ _ => rfl) ?_
      refine q_RP_bd fun r1772 er1772 => ?_
      refine q_RP_call (v := (some (.int r1772))) (h2 := (q_kM r1771.1 c n)) rfl rfl ((dzt_M307_64 r1771.1 c n a1 r1772 er1772).le (Nat.le_of_ble_eq_true rfl)) ?_
      show q_RP _ _ _ (35, [(2, .int a1), (0, .ref 64), (1, .int a1)], [.int r1772], (q_kM r1771.1 c n)) _ _
      refine q_RP_seg (g2 := (53, [(3, .int r1772), (2, .int a1), (0, .ref 64), (1, .int a1)], [.int 4096, .int 0, .ref 65, .int (4096 * a1), .ref 80], (q_kM r1771.1 c n))) 10 (fun _ _ => rfl) ?_
      refine q_RP_bd fun r1773 er1773 => ?_
      refine q_RP_call (v := none) (h2 := (q_kM r1773 c n)) rfl rfl ((dzt_M304_80_65 r1771.1 c n (4096 * a1) 0 4096 r1773 er1773).le (Nat.le_of_ble_eq_true rfl)) ?_
      show q_RP _ _ _ (56, [(3, .int r1772), (2, .int a1), (0, .ref 64), (1, .int a1)], [], (q_kM r1773 c n)) _ _
      refine q_RP_seg (g2 := (73, [(3, .int r1772), (2, .int a1), (0, .ref 64), (1, .int a1)], [.int 512, .int 0, .ref 66, .int (512 * a1), .ref 81], (q_kM r1773 c n))) 9 (fun _ _ => rfl) ?_
      refine q_RP_bd fun r1774 er1774 => ?_
      refine q_RP_call (v := none) (h2 := (q_kM r1774 c n)) rfl rfl ((dzt_M304_81_66 r1773 c n (512 * a1) 0 512 r1774 er1774).le (Nat.le_of_ble_eq_true rfl)) ?_
      show q_RP _ _ _ (76, [(3, .int r1772), (2, .int a1), (0, .ref 64), (1, .int a1)], [], (q_kM r1774 c n)) _ _
      refine q_RP_seg (g2 := (93, [(3, .int r1772), (2, .int a1), (0, .ref 64), (1, .int a1)], [.int 2048, .int 0, .ref 67, .int (2048 * a1), .ref 82], (q_kM r1774 c n))) 9 (fun _ _ => rfl) ?_
      refine q_RP_bd fun r1775 er1775 => ?_
      refine q_RP_call (v := none) (h2 := (q_kM r1775 c n)) rfl rfl ((dzt_M304_82_67 r1774 c n (2048 * a1) 0 2048 r1775 er1775).le (Nat.le_of_ble_eq_true rfl)) ?_
      show q_RP _ _ _ (96, [(3, .int r1772), (2, .int a1), (0, .ref 64), (1, .int a1)], [], (q_kM r1775 c n)) _ _
      refine q_RP_seg (g2 := (111, [(3, .int r1772), (2, .int a1), (0, .ref 64), (1, .int a1)], [.int 48, .int 0, .ref 68, .int (48 * a1), .ref 83], (q_kM r1775 c n))) 9 (fun _ _ => rfl) ?_
      refine q_RP_bd fun r1776 er1776 => ?_
      refine q_RP_call (v := none) (h2 := (q_kM r1776 c n)) rfl rfl ((dzt_M304_83_68 r1775 c n (48 * a1) 0 48 r1776 er1776).le (Nat.le_of_ble_eq_true rfl)) ?_
      show q_RP _ _ _ (114, [(3, .int r1772), (2, .int a1), (0, .ref 64), (1, .int a1)], [], (q_kM r1776 c n)) _ _
      refine q_RP_seg (g2 := (131, [(3, .int r1772), (2, .int a1), (0, .ref 64), (1, .int a1)], [.int 1024, .int 0, .ref 69, .int (1024 * a1), .ref 84], (q_kM r1776 c n))) 9 (fun _ _ => rfl) ?_
      refine q_RP_bd fun r1777 er1777 => ?_
      refine q_RP_call (v := none) (h2 := (q_kM r1777 c n)) rfl rfl ((dzt_M304_84_69 r1776 c n (1024 * a1) 0 1024 r1777 er1777).le (Nat.le_of_ble_eq_true rfl)) ?_
      show q_RP _ _ _ (134, [(3, .int r1772), (2, .int a1), (0, .ref 64), (1, .int a1)], [], (q_kM r1777 c n)) _ _
      refine q_RP_seg (g2 := (149, [(3, .int r1772), (2, .int a1), (0, .ref 64), (1, .int a1)], [.int 40, .int 0, .ref 70, .int (40 * a1), .ref 85], (q_kM r1777 c n))) 9 (fun _ _ => rfl) ?_
      refine q_RP_bd fun r1778 er1778 => ?_
      refine q_RP_call (v := none) (h2 := (q_kM r1778 c n)) rfl rfl ((dzt_M304_85_70 r1777 c n (40 * a1) 0 40 r1778 er1778).le (Nat.le_of_ble_eq_true rfl)) ?_
      show q_RP _ _ _ (152, [(3, .int r1772), (2, .int a1), (0, .ref 64), (1, .int a1)], [], (q_kM r1778 c n)) _ _
      refine q_RP_seg (g2 := (167, [(3, .int r1772), (2, .int a1), (0, .ref 64), (1, .int a1)], [.int 40, .int 0, .ref 72, .int (40 * a1), .ref 87], (q_kM r1778 c n))) 9 (fun _ _ => rfl) ?_
      refine q_RP_bd fun r1779 er1779 => ?_
      refine q_RP_call (v := none) (h2 := (q_kM r1779 c n)) rfl rfl ((dzt_M304_87_72 r1778 c n (40 * a1) 0 40 r1779 er1779).le (Nat.le_of_ble_eq_true rfl)) ?_
      show q_RP _ _ _ (170, [(3, .int r1772), (2, .int a1), (0, .ref 64), (1, .int a1)], [], (q_kM r1779 c n)) _ _
      refine q_RP_seg (g2 := (185, [(3, .int r1772), (2, .int a1), (0, .ref 64), (1, .int a1)], [.int 16, .int 0, .ref 73, .int (16 * a1), .ref 88], (q_kM r1779 c n))) 9 (fun _ _ => rfl) ?_
      refine q_RP_bd fun r1780 er1780 => ?_
      refine q_RP_call (v := none) (h2 := (q_kM r1780 c n)) rfl rfl ((dzt_M304_88_73 r1779 c n (16 * a1) 0 16 r1780 er1780).le (Nat.le_of_ble_eq_true rfl)) ?_
      show q_RP _ _ _ (188, [(3, .int r1772), (2, .int a1), (0, .ref 64), (1, .int a1)], [], (q_kM r1780 c n)) _ _
      refine q_RP_seg (g2 := (201, [(3, .int r1772), (2, .int a1), (0, .ref 64), (1, .int a1)], [.int 3, .int 0, .ref 74, .int (3 * a1), .ref 89], (q_kM r1780 c n))) 9 (fun _ _ => rfl) ?_
      refine q_RP_bd fun r1781 er1781 => ?_
      refine q_RP_call (v := none) (h2 := (q_kM r1781 c n)) rfl rfl ((dzt_M304_89_74 r1780 c n (3 * a1) 0 3 r1781 er1781).le (Nat.le_of_ble_eq_true rfl)) ?_
      show q_RP _ _ _ (204, [(3, .int r1772), (2, .int a1), (0, .ref 64), (1, .int a1)], [], (q_kM r1781 c n)) _ _
      refine q_RP_seg (g2 := (217, [(3, .int r1772), (2, .int a1), (0, .ref 64), (1, .int a1)], [.int 3, .int 0, .ref 75, .int (3 * a1), .ref 90], (q_kM r1781 c n))) 9 (fun _ _ => rfl) ?_
      refine q_RP_bd fun r1782 er1782 => ?_
      refine q_RP_call (v := none) (h2 := (q_kM r1782 c n)) rfl rfl ((dzt_M304_90_75 r1781 c n (3 * a1) 0 3 r1782 er1782).le (Nat.le_of_ble_eq_true rfl)) ?_
      show q_RP _ _ _ (220, [(3, .int r1772), (2, .int a1), (0, .ref 64), (1, .int a1)], [], (q_kM r1782 c n)) _ _
      refine q_RP_seg (g2 := (233, [(3, .int r1772), (2, .int a1), (0, .ref 64), (1, .int a1)], [.int 3, .int 0, .ref 76, .int (3 * a1), .ref 91], (q_kM r1782 c n))) 9 (fun _ _ => rfl) ?_
      refine q_RP_bd fun r1783 er1783 => ?_
      refine q_RP_call (v := none) (h2 := (q_kM r1783 c n)) rfl rfl ((dzt_M304_91_76 r1782 c n (3 * a1) 0 3 r1783 er1783).le (Nat.le_of_ble_eq_true rfl)) ?_
      show q_RP _ _ _ (236, [(3, .int r1772), (2, .int a1), (0, .ref 64), (1, .int a1)], [], (q_kM r1783 c n)) _ _
      refine q_RP_seg (g2 := (249, [(3, .int r1772), (2, .int a1), (0, .ref 64), (1, .int a1)], [.int 3, .int 0, .ref 77, .int (3 * a1), .ref 92], (q_kM r1783 c n))) 9 (fun _ _ => rfl) ?_
      refine q_RP_bd fun r1784 er1784 => ?_
      refine q_RP_call (v := none) (h2 := (q_kM r1784 c n)) rfl rfl ((dzt_M304_92_77 r1783 c n (3 * a1) 0 3 r1784 er1784).le (Nat.le_of_ble_eq_true rfl)) ?_
      show q_RP _ _ _ (252, [(3, .int r1772), (2, .int a1), (0, .ref 64), (1, .int a1)], [], (q_kM r1784 c n)) _ _
      refine q_RP_seg (g2 := (267, [(3, .int r1772), (2, .int a1), (0, .ref 64), (1, .int a1)], [.int 24, .int 0, .ref 78, .int (24 * a1), .ref 93], (q_kM r1784 c n))) 9 (fun _ _ => rfl) ?_
      refine q_RP_bd fun r1785 er1785 => ?_
      refine q_RP_call (v := none) (h2 := (q_kM r1785 c n)) rfl rfl ((dzt_M304_93_78 r1784 c n (24 * a1) 0 24 r1785 er1785).le (Nat.le_of_ble_eq_true rfl)) ?_
      show q_RP _ _ _ (270, [(3, .int r1772), (2, .int a1), (0, .ref 64), (1, .int a1)], [], (q_kM r1785 c n)) _ _
      refine q_RP_seg (g2 := (285, [(3, .int r1772), (2, .int a1), (0, .ref 64), (1, .int a1)], [.int 16, .int 0, .ref 71, .int (16 * a1), .ref 86], (q_kM r1785 c n))) 9 (fun _ _ => rfl) ?_
      refine q_RP_bd fun r1786 er1786 => ?_
      refine q_RP_call (v := none) (h2 := (q_kM r1786 c n)) rfl rfl ((dzt_M305_86_71 r1785 c n (16 * a1) 0 16 r1786 er1786).le (Nat.le_of_ble_eq_true rfl)) ?_
      show q_RP _ _ _ (288, [(3, .int r1772), (2, .int a1), (0, .ref 64), (1, .int a1)], [], (q_kM r1786 c n)) _ _
      refine q_RP_seg (g2 := (303, [(3, .int r1772), (2, .int a1), (0, .ref 64), (1, .int a1)], [.int 8, .int 0, .ref 79, .int (8 * a1), .ref 94], (q_kM r1786 c n))) 9 (fun _ _ => rfl) ?_
      refine q_RP_bd fun r1787 er1787 => ?_
      refine q_RP_call (v := none) (h2 := (q_kM r1787 c n)) rfl rfl ((dzt_M305_94_79 r1786 c n (8 * a1) 0 8 r1787 er1787).le (Nat.le_of_ble_eq_true rfl)) ?_
      show q_RP _ _ _ (306, [(3, .int r1772), (2, .int a1), (0, .ref 64), (1, .int a1)], [], (q_kM r1787 c n)) _ _
      refine q_RP_seg (g2 := (314, [(3, .int r1772), (2, .int a1), (0, .ref 64), (1, .int a1)], [.int (2 * a1), .ref 95, .ref 64], (q_kM r1787 c n))) 6 (fun _ _ => rfl) ?_
      refine q_RP_as fun i1833 => ?_
      refine q_RP_rsT (g2 := (315, [(3, .int r1772), (2, .int a1), (0, .ref 64), (1, .int a1)], [.long ((r1787.2.2 31) ((2 * a1).toNatClampNeg)), .ref 64], (q_kM r1787 c n))) rfl rfl i1833 ?_
      refine q_RP_st1 (g2 := (318, [(3, .int r1772), (2, .int a1), (0, .ref 64), (1, .int a1)], [], (q_kM (q_sJ r1787 0 15 ((r1787.2.2 31) ((2 * a1).toNatClampNeg))) c n))) rfl q_pM0_15 ?_
      refine q_RP_seg (g2 := (328, [(3, .int r1772), (2, .int a1), (0, .ref 64), (1, .int a1)], [.int ((2 * a1) + 1), .ref 95, .ref 64], (q_kM (q_sJ r1787 0 15 ((r1787.2.2 31) ((2 * a1).toNatClampNeg))) c n))) 8 (fun _ _ => rfl) ?_
      refine q_RP_as fun i1834 => ?_
      refine q_RP_rsT (g2 := (329, [(3, .int r1772), (2, .int a1), (0, .ref 64), (1, .int a1)], [.long ((r1787.2.2 31) (((2 * a1) + 1).toNatClampNeg)), .ref 64], (q_kM (q_sJ r1787 0 15 ((r1787.2.2 31) ((2 * a1).toNatClampNeg))) c n))) rfl rfl i1834 ?_
      refine q_RP_st1 (g2 := (332, [(3, .int r1772), (2, .int a1), (0, .ref 64), (1, .int a1)], [], (q_kM (q_sJ (q_sJ r1787 0 15 ((r1787.2.2 31) ((2 * a1).toNatClampNeg))) 0 16 ((r1787.2.2 31) (((2 * a1) + 1).toNatClampNeg))) c n))) rfl q_pM0_16 ?_
      refine q_RP_seg (g2 := (334, [(3, .int r1772), (2, .int a1), (0, .ref 64), (1, .int a1)], [.int (-1), .ref 64], (q_kM (q_sJ (q_sJ r1787 0 15 ((r1787.2.2 31) ((2 * a1).toNatClampNeg))) 0 16 ((r1787.2.2 31) (((2 * a1) + 1).toNatClampNeg))) c n))) 2 (fun _ _ => rfl) ?_
      refine q_RP_st1 (g2 := (337, [(3, .int r1772), (2, .int a1), (0, .ref 64), (1, .int a1)], [], (q_kM (q_sI (q_sJ (q_sJ r1787 0 15 ((r1787.2.2 31) ((2 * a1).toNatClampNeg))) 0 16 ((r1787.2.2 31) (((2 * a1) + 1).toNatClampNeg))) 0 34 (-1)) c n))) rfl q_pM0_34 ?_
      refine q_RP_seg (g2 := (338, [(3, .int r1772), (2, .int a1), (0, .ref 64), (1, .int a1)], [.int r1772], (q_kM (q_sI (q_sJ (q_sJ r1787 0 15 ((r1787.2.2 31) ((2 * a1).toNatClampNeg))) 0 16 ((r1787.2.2 31) (((2 * a1) + 1).toNatClampNeg))) 0 34 (-1)) c n))) 1 (fun _ _ => rfl) ?_
      exact q_RP_ret rfl rfl rfl
def dz_M309_64 (s : q_S) (a1 : Int32) : Option (q_S × Int32) :=
  q_let (dz_M202 s a1 0 ((s.2.1 0 17) - 1)) fun r1791 => cond r1791 (q_let (dz_M200_64 s 0) fun r1792 => cond r1792.2 (some (r1792.1, 0)) ((dz_M307_64 r1792.1 a1).bind fun r1793 => some (r1792.1, r1793))) (q_let (dz_M200_64 s 1) fun r1794 => cond r1794.2 (some (r1794.1, 0)) ((dz_M307_64 r1794.1 a1).bind fun r1795 => some (r1794.1, r1795)))
set_option maxHeartbeats 4000000 in
theorem dzt_M309_64 (s : q_S) (c n : Nat) (a1 : Int32) (x : q_S × Int32) (h : dz_M309_64 s a1 = some x) : q_Ca q_TB0 2 308 [.ref 64, .int a1] (q_kM s c n) ((q_oIM c n) x) := by
  refine q_CaP_of (φ := (q_oIM c n)) (Nat.le_of_ble_eq_true rfl) ?_ h
  clear h
  unfold dz_M309_64
  refine q_RP_seg (g2 := (7, [(0, .ref 64), (1, .int a1)], [.int (s.2.1 0 17), .int 0, .int a1, .ref 64], (q_kM s c n))) 5 (fun _ _ => rfl) ?_
  refine q_RP_seg (g2 := (9, [(0, .ref 64), (1, .int a1)], [.int ((s.2.1 0 17) - 1), .int 0, .int a1, .ref 64], (q_kM s c n))) 2 (fun _ _ => rfl) ?_
  refine q_RP_call (v := (some (.int (q_b (dz_M202 s a1 0 ((s.2.1 0 17) - 1)))))) (h2 := (q_kM s c n)) rfl rfl ((dzt_M202 s c n a1 0 ((s.2.1 0 17) - 1)).le (Nat.le_of_ble_eq_true rfl)) ?_
  generalize dz_M202 s a1 0 ((s.2.1 0 17) - 1) = r1791
  refine q_RP_let ?_
  show q_RP _ _ _ (12, [(0, .ref 64), (1, .int a1)], [.int (q_b r1791), .ref 64], (q_kM s c n)) _ _
  cases h1837 : r1791 with
  | true =>
    refine q_RP_cT ?_
    show q_RP _ _ _ (12, [(0, .ref 64), (1, .int a1)], [.int 1, .ref 64], (q_kM s c n)) _ _
    refine q_RP_seg (g2 := (20, [(0, .ref 64), (1, .int a1)], [.int 0, .ref 64], (q_kM s c n))) 3 (fun _ _ => rfl) ?_
    refine q_RP_call (v := (some (.int (q_b (dz_M200_64 s 0).2)))) (h2 := (q_kM (dz_M200_64 s 0).1 c n)) rfl rfl ((dzt_M200_64 s c n 0).le (Nat.le_of_ble_eq_true rfl)) ?_
    generalize dz_M200_64 s 0 = r1792
    refine q_RP_let ?_
    show q_RP _ _ _ (23, [(0, .ref 64), (1, .int a1)], [.int (q_b r1792.2)], (q_kM r1792.1 c n)) _ _
    cases h1838 : r1792.2 with
    | true =>
      refine q_RP_cT ?_
      show q_RP _ _ _ (23, [(0, .ref 64), (1, .int a1)], [.int 1], (q_kM r1792.1 c n)) _ _
      refine q_RP_seg (g2 := (35, [(0, .ref 64), (1, .int a1)], [.int 0], (q_kM r1792.1 c n))) 3 (fun _ _ => rfl) ?_
      exact q_RP_ret rfl rfl rfl
    | false =>
      refine q_RP_cF ?_
      show q_RP _ _ _ (23, [(0, .ref 64), (1, .int a1)], [.int 0], (q_kM r1792.1 c n)) _ _
      refine q_RP_seg (g2 := (32, [(0, .ref 64), (1, .int a1)], [.int a1, .ref 64], (q_kM r1792.1 c n))) 3 (fun _ _ => rfl) ?_
      refine q_RP_bd fun r1793 er1793 => ?_
      refine q_RP_call (v := (some (.int r1793))) (h2 := (q_kM r1792.1 c n)) rfl rfl ((dzt_M307_64 r1792.1 c n a1 r1793 er1793).le (Nat.le_of_ble_eq_true rfl)) ?_
      show q_RP _ _ _ (35, [(0, .ref 64), (1, .int a1)], [.int r1793], (q_kM r1792.1 c n)) _ _
      exact q_RP_ret rfl rfl rfl
  | false =>
    refine q_RP_cF ?_
    show q_RP _ _ _ (12, [(0, .ref 64), (1, .int a1)], [.int 0, .ref 64], (q_kM s c n)) _ _
    refine q_RP_seg (g2 := (20, [(0, .ref 64), (1, .int a1)], [.int 1, .ref 64], (q_kM s c n))) 2 (fun _ _ => rfl) ?_
    refine q_RP_call (v := (some (.int (q_b (dz_M200_64 s 1).2)))) (h2 := (q_kM (dz_M200_64 s 1).1 c n)) rfl rfl ((dzt_M200_64 s c n 1).le (Nat.le_of_ble_eq_true rfl)) ?_
    generalize dz_M200_64 s 1 = r1794
    refine q_RP_let ?_
    show q_RP _ _ _ (23, [(0, .ref 64), (1, .int a1)], [.int (q_b r1794.2)], (q_kM r1794.1 c n)) _ _
    cases h1839 : r1794.2 with
    | true =>
      refine q_RP_cT ?_
      show q_RP _ _ _ (23, [(0, .ref 64), (1, .int a1)], [.int 1], (q_kM r1794.1 c n)) _ _
      refine q_RP_seg (g2 := (35, [(0, .ref 64), (1, .int a1)], [.int 0], (q_kM r1794.1 c n))) 3 (fun _ _ => rfl) ?_
      exact q_RP_ret rfl rfl rfl
    | false =>
      refine q_RP_cF ?_
      show q_RP _ _ _ (23, [(0, .ref 64), (1, .int a1)], [.int 0], (q_kM r1794.1 c n)) _ _
      refine q_RP_seg (g2 := (32, [(0, .ref 64), (1, .int a1)], [.int a1, .ref 64], (q_kM r1794.1 c n))) 3 (fun _ _ => rfl) ?_
      refine q_RP_bd fun r1795 er1795 => ?_
      refine q_RP_call (v := (some (.int r1795))) (h2 := (q_kM r1794.1 c n)) rfl rfl ((dzt_M307_64 r1794.1 c n a1 r1795 er1795).le (Nat.le_of_ble_eq_true rfl)) ?_
      show q_RP _ _ _ (35, [(0, .ref 64), (1, .int a1)], [.int r1795], (q_kM r1794.1 c n)) _ _
      exact q_RP_ret rfl rfl rfl
def dz_M310_64 (s : q_S) : q_S × Int32 :=
  q_let (if (0 : Int32) < (s.2.1 0 34) then (s.2.1 0 34) else (0 : Int32)) fun x1796 => q_let (dz_M201_64 (q_sI s 0 34 0) x1796) fun r1797 => (r1797.1, r1797.2)
set_option maxHeartbeats 4000000 in
theorem dzt_M310_64 (s : q_S) (c n : Nat) : q_Ca q_TB0 2 309 [.ref 64] (q_kM s c n) ((q_oIM c n) (dz_M310_64 s)) := by
  refine q_CaT_of (φ := (q_oIM c n)) (Nat.le_of_ble_eq_true rfl) ?_
  unfold dz_M310_64
  refine q_RT_seg (g2 := (5, [(0, .ref 64)], [.int (s.2.1 0 34), .int 0], (q_kM s c n))) 3 (fun _ _ => rfl) ?_
  refine q_RT_seg (g2 := (8, [(0, .ref 64)], [.int (if (0 : Int32) < (s.2.1 0 34) then (s.2.1 0 34) else (0 : Int32))], (q_kM s c n))) 1 (fun _ _ => rfl) ?_
  generalize (if (0 : Int32) < (s.2.1 0 34) then (s.2.1 0 34) else (0 : Int32)) = x1796
  refine q_RT_let ?_
  show q_RT _ _ _ (8, [(0, .ref 64)], [.int x1796], (q_kM s c n)) _ _
  refine q_RT_seg (g2 := (16, [(1, .int x1796), (0, .ref 64)], [.int x1796, .ref 64], (q_kM (q_sI s 0 34 0) c n))) 6 (fun _ _ => rfl) ?_
  refine q_RT_call (v := (some (.int (dz_M201_64 (q_sI s 0 34 0) x1796).2))) (h2 := (q_kM (dz_M201_64 (q_sI s 0 34 0) x1796).1 c n)) rfl rfl ((dzt_M201_64 (q_sI s 0 34 0) c n x1796).le (Nat.le_of_ble_eq_true rfl)) ?_
  generalize dz_M201_64 (q_sI s 0 34 0) x1796 = r1797
  refine q_RT_let ?_
  show q_RT _ _ _ (19, [(1, .int x1796), (0, .ref 64)], [.int r1797.2], (q_kM r1797.1 c n)) _ _
  exact q_RT_ret rfl rfl rfl
def dz_M311_64 (s : q_S) : q_S × Int32 :=
  cond (decide (s.2.1 0 34 < 0)) (q_let (dz_M200_64 s 1) fun r1798 => cond r1798.2 ((r1798.1, 0)) ((r1798.1, (r1798.1.2.1 0 34)))) (q_let (dz_M200_64 s 0) fun r1799 => cond r1799.2 ((r1799.1, 0)) ((r1799.1, (r1799.1.2.1 0 34))))
set_option maxHeartbeats 4000000 in
theorem dzt_M311_64 (s : q_S) (c n : Nat) : q_Ca q_TB0 2 310 [.ref 64] (q_kM s c n) ((q_oIM c n) (dz_M311_64 s)) := by
  refine q_CaT_of (φ := (q_oIM c n)) (Nat.le_of_ble_eq_true rfl) ?_
  unfold dz_M311_64
  refine q_RT_seg (g2 := (5, [(0, .ref 64)], [.int (s.2.1 0 34), .ref 64], (q_kM s c n))) 3 (fun _ _ => rfl) ?_
  cases h1840 : decide (s.2.1 0 34 < 0) with
  | true =>
    refine q_RT_cT ?_
    refine q_RT_rsF (g2 := (8, [(0, .ref 64)], [.ref 64], (q_kM s c n))) rfl rfl (q_d_geT h1840) ?_
    refine q_RT_seg (g2 := (13, [(0, .ref 64)], [.int 1, .ref 64], (q_kM s c n))) 2 (fun _ _ => rfl) ?_
    refine q_RT_call (v := (some (.int (q_b (dz_M200_64 s 1).2)))) (h2 := (q_kM (dz_M200_64 s 1).1 c n)) rfl rfl ((dzt_M200_64 s c n 1).le (Nat.le_of_ble_eq_true rfl)) ?_
    generalize dz_M200_64 s 1 = r1798
    refine q_RT_let ?_
    show q_RT _ _ _ (16, [(0, .ref 64)], [.int (q_b r1798.2)], (q_kM r1798.1 c n)) _ _
    cases h1841 : r1798.2 with
    | true =>
      refine q_RT_cT ?_
      show q_RT _ _ _ (16, [(0, .ref 64)], [.int 1], (q_kM r1798.1 c n)) _ _
      refine q_RT_seg (g2 := (27, [(0, .ref 64)], [.int 0], (q_kM r1798.1 c n))) 3 (fun _ _ => rfl) ?_
      exact q_RT_ret rfl rfl rfl
    | false =>
      refine q_RT_cF ?_
      show q_RT _ _ _ (16, [(0, .ref 64)], [.int 0], (q_kM r1798.1 c n)) _ _
      refine q_RT_seg (g2 := (27, [(0, .ref 64)], [.int (r1798.1.2.1 0 34)], (q_kM r1798.1 c n))) 3 (fun _ _ => rfl) ?_
      exact q_RT_ret rfl rfl rfl
  | false =>
    refine q_RT_cF ?_
    refine q_RT_rsT (g2 := (12, [(0, .ref 64)], [.ref 64], (q_kM s c n))) rfl rfl (q_d_geF h1840) ?_
    refine q_RT_seg (g2 := (13, [(0, .ref 64)], [.int 0, .ref 64], (q_kM s c n))) 1 (fun _ _ => rfl) ?_
    refine q_RT_call (v := (some (.int (q_b (dz_M200_64 s 0).2)))) (h2 := (q_kM (dz_M200_64 s 0).1 c n)) rfl rfl ((dzt_M200_64 s c n 0).le (Nat.le_of_ble_eq_true rfl)) ?_
    generalize dz_M200_64 s 0 = r1799
    refine q_RT_let ?_
    show q_RT _ _ _ (16, [(0, .ref 64)], [.int (q_b r1799.2)], (q_kM r1799.1 c n)) _ _
    cases h1842 : r1799.2 with
    | true =>
      refine q_RT_cT ?_
      show q_RT _ _ _ (16, [(0, .ref 64)], [.int 1], (q_kM r1799.1 c n)) _ _
      refine q_RT_seg (g2 := (27, [(0, .ref 64)], [.int 0], (q_kM r1799.1 c n))) 3 (fun _ _ => rfl) ?_
      exact q_RT_ret rfl rfl rfl
    | false =>
      refine q_RT_cF ?_
      show q_RT _ _ _ (16, [(0, .ref 64)], [.int 0], (q_kM r1799.1 c n)) _ _
      refine q_RT_seg (g2 := (27, [(0, .ref 64)], [.int (r1799.1.2.1 0 34)], (q_kM r1799.1 c n))) 3 (fun _ _ => rfl) ?_
      exact q_RT_ret rfl rfl rfl
def dz_M312_64 (s : q_S) : q_S × Bool :=
  cond (decide (s.2.1 0 34 < 0)) (q_let (dz_M200_64 s 1) fun r1800 => cond r1800.2 ((r1800.1, false)) ((r1800.1, true))) (q_let (dz_M200_64 s 0) fun r1801 => cond r1801.2 ((r1801.1, false)) ((r1801.1, true)))
set_option maxHeartbeats 4000000 in
theorem dzt_M312_64 (s : q_S) (c n : Nat) : q_Ca q_TB0 2 311 [.ref 64] (q_kM s c n) ((q_oJM c n) (dz_M312_64 s)) := by
  refine q_CaT_of (φ := (q_oJM c n)) (Nat.le_of_ble_eq_true rfl) ?_
  unfold dz_M312_64
  refine q_RT_seg (g2 := (5, [(0, .ref 64)], [.int (s.2.1 0 34), .ref 64], (q_kM s c n))) 3 (fun _ _ => rfl) ?_
  cases h1843 : decide (s.2.1 0 34 < 0) with
  | true =>
    refine q_RT_cT ?_
    refine q_RT_rsF (g2 := (8, [(0, .ref 64)], [.ref 64], (q_kM s c n))) rfl rfl (q_d_geT h1843) ?_
    refine q_RT_seg (g2 := (13, [(0, .ref 64)], [.int 1, .ref 64], (q_kM s c n))) 2 (fun _ _ => rfl) ?_
    refine q_RT_call (v := (some (.int (q_b (dz_M200_64 s 1).2)))) (h2 := (q_kM (dz_M200_64 s 1).1 c n)) rfl rfl ((dzt_M200_64 s c n 1).le (Nat.le_of_ble_eq_true rfl)) ?_
    generalize dz_M200_64 s 1 = r1800
    refine q_RT_let ?_
    show q_RT _ _ _ (16, [(0, .ref 64)], [.int (q_b r1800.2)], (q_kM r1800.1 c n)) _ _
    cases h1844 : r1800.2 with
    | true =>
      refine q_RT_cT ?_
      show q_RT _ _ _ (16, [(0, .ref 64)], [.int 1], (q_kM r1800.1 c n)) _ _
      refine q_RT_seg (g2 := (24, [(0, .ref 64)], [.int 0], (q_kM r1800.1 c n))) 2 (fun _ _ => rfl) ?_
      exact q_RT_ret rfl rfl rfl
    | false =>
      refine q_RT_cF ?_
      show q_RT _ _ _ (16, [(0, .ref 64)], [.int 0], (q_kM r1800.1 c n)) _ _
      refine q_RT_seg (g2 := (24, [(0, .ref 64)], [.int 1], (q_kM r1800.1 c n))) 3 (fun _ _ => rfl) ?_
      exact q_RT_ret rfl rfl rfl
  | false =>
    refine q_RT_cF ?_
    refine q_RT_rsT (g2 := (12, [(0, .ref 64)], [.ref 64], (q_kM s c n))) rfl rfl (q_d_geF h1843) ?_
    refine q_RT_seg (g2 := (13, [(0, .ref 64)], [.int 0, .ref 64], (q_kM s c n))) 1 (fun _ _ => rfl) ?_
    refine q_RT_call (v := (some (.int (q_b (dz_M200_64 s 0).2)))) (h2 := (q_kM (dz_M200_64 s 0).1 c n)) rfl rfl ((dzt_M200_64 s c n 0).le (Nat.le_of_ble_eq_true rfl)) ?_
    generalize dz_M200_64 s 0 = r1801
    refine q_RT_let ?_
    show q_RT _ _ _ (16, [(0, .ref 64)], [.int (q_b r1801.2)], (q_kM r1801.1 c n)) _ _
    cases h1845 : r1801.2 with
    | true =>
      refine q_RT_cT ?_
      show q_RT _ _ _ (16, [(0, .ref 64)], [.int 1], (q_kM r1801.1 c n)) _ _
      refine q_RT_seg (g2 := (24, [(0, .ref 64)], [.int 0], (q_kM r1801.1 c n))) 2 (fun _ _ => rfl) ?_
      exact q_RT_ret rfl rfl rfl
    | false =>
      refine q_RT_cF ?_
      show q_RT _ _ _ (16, [(0, .ref 64)], [.int 0], (q_kM r1801.1 c n)) _ _
      refine q_RT_seg (g2 := (24, [(0, .ref 64)], [.int 1], (q_kM r1801.1 c n))) 3 (fun _ _ => rfl) ?_
      exact q_RT_ret rfl rfl rfl
def dz_M313_64_9 (m : Nat) : q_S → Int32 → Int32 → Option (q_S × Int32) := Nat.rec (motive := fun _ => q_S → Int32 → Int32 → Option (q_S × Int32)) (fun _ _ _ => none) (fun _ k9 s v1 v2 =>
  cond (decide (v2 < 1024)) (cond (q_in v2 1024) (k9 s ((31 * v1) + ((s.1 5) (v2.toNatClampNeg))) (v2 + 1)) none) (some (s, v1))) m
theorem dzs_M313_64_9 (m : Nat) (s : q_S) (v1 : Int32) (v2 : Int32) : dz_M313_64_9 (m + 1) s v1 v2 = (fun k9 : q_S → Int32 → Int32 → Option (q_S × Int32) =>
  cond (decide (v2 < 1024)) (cond (q_in v2 1024) (k9 s ((31 * v1) + ((s.1 5) (v2.toNatClampNeg))) (v2 + 1)) none) (some (s, v1))) (dz_M313_64_9 m) := rfl
set_option maxHeartbeats 4000000 in
theorem dzt_M313_64_9 (c n : Nat) : ∀ (m : Nat) (s : q_S) (v1 : Int32) (v2 : Int32), q_RP q_TB0 0 312 (9, [(0, .ref 64), (1, .int v1), (2, .int v2)], [], (q_kM s c n)) (q_oIM c n) (dz_M313_64_9 m s v1 v2) := by
  intro m
  induction m with
  | zero => intro s v1 v2; exact q_RP_no
  | succ m ih =>
    intro s v1 v2
    have hk9 := ih
    clear ih
    rw [dzs_M313_64_9]
    generalize dz_M313_64_9 m = k9 at hk9 ⊢
    dsimp only
    refine q_RP_seg (g2 := (13, [(0, .ref 64), (1, .int v1), (2, .int v2)], [.int 1024, .int v2], (q_kM s c n))) 2 (fun _ _ => rfl) ?_
    cases h1846 : decide (v2 < 1024) with
    | true =>
      refine q_RP_cT ?_
      refine q_RP_rsF (g2 := (16, [(0, .ref 64), (1, .int v1), (2, .int v2)], [], (q_kM s c n))) rfl rfl (q_d_geT h1846) ?_
      refine q_RP_seg (g2 := (25, [(0, .ref 64), (1, .int v1), (2, .int v2)], [.int v2, .ref 69, .int (31 * v1)], (q_kM s c n))) 6 (fun _ _ => rfl) ?_
      refine q_RP_as fun i1847 => ?_
      refine q_RP_rsT (g2 := (26, [(0, .ref 64), (1, .int v1), (2, .int v2)], [.int ((s.1 5) (v2.toNatClampNeg)), .int (31 * v1)], (q_kM s c n))) rfl rfl i1847 ?_
      refine q_RP_seg (g2 := (9, [(2, .int (v2 + 1)), (1, .int ((31 * v1) + ((s.1 5) (v2.toNatClampNeg)))), (0, .ref 64)], [], (q_kM s c n))) 4 (fun _ _ => rfl) ?_
      exact q_RP_xt (q_xt_mk (q_mn1 2 rfl (q_mn1 1 rfl (q_mn1 0 rfl q_mn0))) rfl) (hk9 s ((31 * v1) + ((s.1 5) (v2.toNatClampNeg))) (v2 + 1))
    | false =>
      refine q_RP_cF ?_
      refine q_RP_rsT (g2 := (34, [(0, .ref 64), (1, .int v1), (2, .int v2)], [], (q_kM s c n))) rfl rfl (q_d_geF h1846) ?_
      refine q_RP_seg (g2 := (35, [(0, .ref 64), (1, .int v1), (2, .int v2)], [.int v1], (q_kM s c n))) 1 (fun _ _ => rfl) ?_
      exact q_RP_ret rfl rfl rfl
def dz_M313_64 (s : q_S) : Option (q_S × Int32) :=
  dz_M313_64_9 5000 (q_sI s 0 39 0) 0 0
set_option maxHeartbeats 4000000 in
theorem dzt_M313_64 (s : q_S) (c n : Nat) (x : q_S × Int32) (h : dz_M313_64 s = some x) : q_Ca q_TB0 1 312 [.ref 64] (q_kM s c n) ((q_oIM c n) x) := by
  refine q_CaP_of (φ := (q_oIM c n)) (Nat.le_of_ble_eq_true rfl) ?_ h
  clear h
  unfold dz_M313_64
  refine q_RP_seg (g2 := (9, [(2, .int 0), (1, .int 0), (0, .ref 64)], [], (q_kM (q_sI s 0 39 0) c n))) 7 (fun _ _ => rfl) ?_
  exact q_RP_xt (q_xt_mk (q_mn1 2 rfl (q_mn1 1 rfl (q_mn1 0 rfl q_mn0))) rfl) (dzt_M313_64_9 c n 5000 (q_sI s 0 39 0) 0 0)
def dz_M314_64 (s : q_S) : q_S × Int64 :=
  ((q_sI s 0 39 0), (s.2.2 0 16))
set_option maxHeartbeats 4000000 in
theorem dzt_M314_64 (s : q_S) (c n : Nat) : q_Ca q_TB0 1 313 [.ref 64] (q_kM s c n) ((q_oKM c n) (dz_M314_64 s)) := by
  refine q_CaT_of (φ := (q_oKM c n)) (Nat.le_of_ble_eq_true rfl) ?_
  unfold dz_M314_64
  refine q_RT_seg (g2 := (9, [(0, .ref 64)], [.long (s.2.2 0 16)], (q_kM (q_sI s 0 39 0) c n))) 5 (fun _ _ => rfl) ?_
  exact q_RT_ret rfl rfl rfl
def dz_M315_64_9 (m : Nat) : q_S → Int32 → Int32 → Option (q_S × UInt32) := Nat.rec (motive := fun _ => q_S → Int32 → Int32 → Option (q_S × UInt32)) (fun _ _ _ => none) (fun _ k9 s v1 v2 =>
  cond (decide (v2 < 1024)) (cond (q_in v2 1024) (cond (decide ((s.1 5) (v2.toNatClampNeg) = (s.1 4) 3)) (k9 s (v1 + 0) (v2 + 1)) (k9 s (v1 + 1) (v2 + 1))) none) (cond (q_nnf (FP.fdiv (FP.i2f v1) 1149239296)) (some (s, (FP.fdiv (FP.i2f v1) 1149239296))) none)) m
theorem dzs_M315_64_9 (m : Nat) (s : q_S) (v1 : Int32) (v2 : Int32) : dz_M315_64_9 (m + 1) s v1 v2 = (fun k9 : q_S → Int32 → Int32 → Option (q_S × UInt32) =>
  cond (decide (v2 < 1024)) (cond (q_in v2 1024) (cond (decide ((s.1 5) (v2.toNatClampNeg) = (s.1 4) 3)) (k9 s (v1 + 0) (v2 + 1)) (k9 s (v1 + 1) (v2 + 1))) none) (cond (q_nnf (FP.fdiv (FP.i2f v1) 1149239296)) (some (s, (FP.fdiv (FP.i2f v1) 1149239296))) none)) (dz_M315_64_9 m) := rfl
set_option maxHeartbeats 4000000 in
theorem dzt_M315_64_9 (c n : Nat) : ∀ (m : Nat) (s : q_S) (v1 : Int32) (v2 : Int32), q_RP q_TB0 0 314 (9, [(0, .ref 64), (1, .int v1), (2, .int v2)], [], (q_kM s c n)) (q_oFM c n) (dz_M315_64_9 m s v1 v2) := by
  intro m
  induction m with
  | zero => intro s v1 v2; exact q_RP_no
  | succ m ih =>
    intro s v1 v2
    have hk9 := ih
    clear ih
    rw [dzs_M315_64_9]
    generalize dz_M315_64_9 m = k9 at hk9 ⊢
    dsimp only
    refine q_RP_seg (g2 := (13, [(0, .ref 64), (1, .int v1), (2, .int v2)], [.int 1024, .int v2], (q_kM s c n))) 2 (fun _ _ => rfl) ?_
    cases h1848 : decide (v2 < 1024) with
    | true =>
      refine q_RP_cT ?_
      refine q_RP_rsF (g2 := (16, [(0, .ref 64), (1, .int v1), (2, .int v2)], [], (q_kM s c n))) rfl rfl (q_d_geT h1848) ?_
      refine q_RP_seg (g2 := (22, [(0, .ref 64), (1, .int v1), (2, .int v2)], [.int v2, .ref 69, .int v1], (q_kM s c n))) 4 (fun _ _ => rfl) ?_
      refine q_RP_as fun i1849 => ?_
      refine q_RP_rsT (g2 := (23, [(0, .ref 64), (1, .int v1), (2, .int v2)], [.int ((s.1 5) (v2.toNatClampNeg)), .int v1], (q_kM s c n))) rfl rfl i1849 ?_
      refine q_RP_seg (g2 := (29, [(0, .ref 64), (1, .int v1), (2, .int v2)], [.int ((s.1 4) 3), .int ((s.1 5) (v2.toNatClampNeg)), .int v1], (q_kM s c n))) 4 (fun _ _ => rfl) ?_
      cases h1850 : decide ((s.1 5) (v2.toNatClampNeg) = (s.1 4) 3) with
      | true =>
        refine q_RP_cT ?_
        refine q_RP_rsF (g2 := (32, [(0, .ref 64), (1, .int v1), (2, .int v2)], [.int v1], (q_kM s c n))) rfl rfl (q_d_neT h1850) ?_
        refine q_RP_seg (g2 := (9, [(2, .int (v2 + 1)), (1, .int (v1 + 0)), (0, .ref 64)], [], (q_kM s c n))) 6 (fun _ _ => rfl) ?_
        exact q_RP_xt (q_xt_mk (q_mn1 2 rfl (q_mn1 1 rfl (q_mn1 0 rfl q_mn0))) rfl) (hk9 s (v1 + 0) (v2 + 1))
      | false =>
        refine q_RP_cF ?_
        refine q_RP_rsT (g2 := (36, [(0, .ref 64), (1, .int v1), (2, .int v2)], [.int v1], (q_kM s c n))) rfl rfl (q_d_neF h1850) ?_
        refine q_RP_seg (g2 := (9, [(2, .int (v2 + 1)), (1, .int (v1 + 1)), (0, .ref 64)], [], (q_kM s c n))) 5 (fun _ _ => rfl) ?_
        exact q_RP_xt (q_xt_mk (q_mn1 2 rfl (q_mn1 1 rfl (q_mn1 0 rfl q_mn0))) rfl) (hk9 s (v1 + 1) (v2 + 1))
    | false =>
      refine q_RP_cF ?_
      refine q_RP_rsT (g2 := (45, [(0, .ref 64), (1, .int v1), (2, .int v2)], [], (q_kM s c n))) rfl rfl (q_d_geF h1848) ?_
      refine q_RP_seg (g2 := (50, [(0, .ref 64), (1, .int v1), (2, .int v2)], [.float 1149239296, .float (FP.i2f v1)], (q_kM s c n))) 3 (fun _ _ => rfl) ?_
      refine q_RP_as fun i1851 => ?_
      refine q_RP_st1 (g2 := (51, [(0, .ref 64), (1, .int v1), (2, .int v2)], [.float (FP.fdiv (FP.i2f v1) 1149239296)], (q_kM s c n))) rfl (q_fdv i1851) ?_
      exact q_RP_ret rfl rfl rfl
def dz_M315_64 (s : q_S) : Option (q_S × UInt32) :=
  dz_M315_64_9 5000 (q_sI s 0 39 0) 0 0
set_option maxHeartbeats 4000000 in
theorem dzt_M315_64 (s : q_S) (c n : Nat) (x : q_S × UInt32) (h : dz_M315_64 s = some x) : q_Ca q_TB0 1 314 [.ref 64] (q_kM s c n) ((q_oFM c n) x) := by
  refine q_CaP_of (φ := (q_oFM c n)) (Nat.le_of_ble_eq_true rfl) ?_ h
  clear h
  unfold dz_M315_64
  refine q_RP_seg (g2 := (9, [(2, .int 0), (1, .int 0), (0, .ref 64)], [], (q_kM (q_sI s 0 39 0) c n))) 7 (fun _ _ => rfl) ?_
  exact q_RP_xt (q_xt_mk (q_mn1 2 rfl (q_mn1 1 rfl (q_mn1 0 rfl q_mn0))) rfl) (dzt_M315_64_9 c n 5000 (q_sI s 0 39 0) 0 0)
def dz_M316_64_9 (m : Nat) : q_S → Int32 → Int32 → Option (q_S × UInt64) := Nat.rec (motive := fun _ => q_S → Int32 → Int32 → Option (q_S × UInt64)) (fun _ _ _ => none) (fun _ k9 s v1 v2 =>
  cond (decide (v2 < 40)) (cond (q_in v2 40) (k9 s (v1 + ((s.1 6) (v2.toNatClampNeg))) (v2 + 1)) none) (cond (q_nnd (FP.ddiv (FP.i2d v1) 4630826316843712512)) (some (s, (FP.ddiv (FP.i2d v1) 4630826316843712512))) none)) m
theorem dzs_M316_64_9 (m : Nat) (s : q_S) (v1 : Int32) (v2 : Int32) : dz_M316_64_9 (m + 1) s v1 v2 = (fun k9 : q_S → Int32 → Int32 → Option (q_S × UInt64) =>
  cond (decide (v2 < 40)) (cond (q_in v2 40) (k9 s (v1 + ((s.1 6) (v2.toNatClampNeg))) (v2 + 1)) none) (cond (q_nnd (FP.ddiv (FP.i2d v1) 4630826316843712512)) (some (s, (FP.ddiv (FP.i2d v1) 4630826316843712512))) none)) (dz_M316_64_9 m) := rfl
set_option maxHeartbeats 4000000 in
theorem dzt_M316_64_9 (c n : Nat) : ∀ (m : Nat) (s : q_S) (v1 : Int32) (v2 : Int32), q_RP q_TB0 0 315 (9, [(0, .ref 64), (1, .int v1), (2, .int v2)], [], (q_kM s c n)) (q_oDM c n) (dz_M316_64_9 m s v1 v2) := by
  intro m
  induction m with
  | zero => intro s v1 v2; exact q_RP_no
  | succ m ih =>
    intro s v1 v2
    have hk9 := ih
    clear ih
    rw [dzs_M316_64_9]
    generalize dz_M316_64_9 m = k9 at hk9 ⊢
    dsimp only
    refine q_RP_seg (g2 := (12, [(0, .ref 64), (1, .int v1), (2, .int v2)], [.int 40, .int v2], (q_kM s c n))) 2 (fun _ _ => rfl) ?_
    cases h1852 : decide (v2 < 40) with
    | true =>
      refine q_RP_cT ?_
      refine q_RP_rsF (g2 := (15, [(0, .ref 64), (1, .int v1), (2, .int v2)], [], (q_kM s c n))) rfl rfl (q_d_geT h1852) ?_
      refine q_RP_seg (g2 := (21, [(0, .ref 64), (1, .int v1), (2, .int v2)], [.int v2, .ref 70, .int v1], (q_kM s c n))) 4 (fun _ _ => rfl) ?_
      refine q_RP_as fun i1853 => ?_
      refine q_RP_rsT (g2 := (22, [(0, .ref 64), (1, .int v1), (2, .int v2)], [.int ((s.1 6) (v2.toNatClampNeg)), .int v1], (q_kM s c n))) rfl rfl i1853 ?_
      refine q_RP_seg (g2 := (9, [(2, .int (v2 + 1)), (1, .int (v1 + ((s.1 6) (v2.toNatClampNeg)))), (0, .ref 64)], [], (q_kM s c n))) 4 (fun _ _ => rfl) ?_
      exact q_RP_xt (q_xt_mk (q_mn1 2 rfl (q_mn1 1 rfl (q_mn1 0 rfl q_mn0))) rfl) (hk9 s (v1 + ((s.1 6) (v2.toNatClampNeg))) (v2 + 1))
    | false =>
      refine q_RP_cF ?_
      refine q_RP_rsT (g2 := (30, [(0, .ref 64), (1, .int v1), (2, .int v2)], [], (q_kM s c n))) rfl rfl (q_d_geF h1852) ?_
      refine q_RP_seg (g2 := (35, [(0, .ref 64), (1, .int v1), (2, .int v2)], [.double 4630826316843712512, .double (FP.i2d v1)], (q_kM s c n))) 3 (fun _ _ => rfl) ?_
      refine q_RP_as fun i1854 => ?_
      refine q_RP_st1 (g2 := (36, [(0, .ref 64), (1, .int v1), (2, .int v2)], [.double (FP.ddiv (FP.i2d v1) 4630826316843712512)], (q_kM s c n))) rfl (q_ddv i1854) ?_
      exact q_RP_ret rfl rfl rfl
def dz_M316_64 (s : q_S) : Option (q_S × UInt64) :=
  dz_M316_64_9 5000 (q_sI s 0 39 0) 0 0
set_option maxHeartbeats 4000000 in
theorem dzt_M316_64 (s : q_S) (c n : Nat) (x : q_S × UInt64) (h : dz_M316_64 s = some x) : q_Ca q_TB0 1 315 [.ref 64] (q_kM s c n) ((q_oDM c n) x) := by
  refine q_CaP_of (φ := (q_oDM c n)) (Nat.le_of_ble_eq_true rfl) ?_ h
  clear h
  unfold dz_M316_64
  refine q_RP_seg (g2 := (9, [(2, .int 0), (1, .int 0), (0, .ref 64)], [], (q_kM (q_sI s 0 39 0) c n))) 7 (fun _ _ => rfl) ?_
  exact q_RP_xt (q_xt_mk (q_mn1 2 rfl (q_mn1 1 rfl (q_mn1 0 rfl q_mn0))) rfl) (dzt_M316_64_9 c n 5000 (q_sI s 0 39 0) 0 0)
