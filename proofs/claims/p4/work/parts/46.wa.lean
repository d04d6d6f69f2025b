def dz_W111_66_98_4 (m : Nat) : q_S → Int32 → Int32 → Option (Int32) := Nat.rec (motive := fun _ => q_S → Int32 → Int32 → Option (Int32)) (fun _ _ _ => none) (fun _ k4 s v2 v3 =>
  cond (decide (v3 < 4096)) (cond (q_in v3 4096) (cond (decide ((s.1 3) (v3.toNatClampNeg) = (s.1 35) (v3.toNatClampNeg))) (k4 s v2 (v3 + 1)) (k4 s (v2 + 1) (v3 + 1))) none) (some v2)) m
theorem dzs_W111_66_98_4 (m : Nat) (s : q_S) (v2 : Int32) (v3 : Int32) : dz_W111_66_98_4 (m + 1) s v2 v3 = (fun k4 : q_S → Int32 → Int32 → Option (Int32) =>
  cond (decide (v3 < 4096)) (cond (q_in v3 4096) (cond (decide ((s.1 3) (v3.toNatClampNeg) = (s.1 35) (v3.toNatClampNeg))) (k4 s v2 (v3 + 1)) (k4 s (v2 + 1) (v3 + 1))) none) (some v2)) (dz_W111_66_98_4 m) := rfl
set_option maxHeartbeats 4000000 in
theorem dzt_W111_66_98_4 (c n : Nat) (s : q_S) : ∀ (m : Nat) (v2 : Int32) (v3 : Int32), q_RP q_TB0 0 110 (4, [(0, .ref 66), (1, .ref 98), (2, .int v2), (3, .int v3)], [], (q_kW s c n)) (q_oP (q_kW s c n)) (dz_W111_66_98_4 m s v2 v3) := by
  intro m
  induction m with
  | zero => intro v2 v3; exact q_RP_no
  | succ m ih =>
    intro v2 v3
    have hk4 := ih
    clear ih
    rw [dzs_W111_66_98_4]
    generalize dz_W111_66_98_4 m = k4 at hk4 ⊢
    dsimp only
    refine q_RP_seg (g2 := (8, [(0, .ref 66), (1, .ref 98), (2, .int v2), (3, .int v3)], [.int 4096, .int v3], (q_kW s c n))) 2 (fun _ _ => rfl) ?_
    cases h1 : decide (v3 < 4096) with
    | true =>
      refine q_RP_cT ?_
      refine q_RP_rsF (g2 := (11, [(0, .ref 66), (1, .ref 98), (2, .int v2), (3, .int v3)], [], (q_kW s c n))) rfl rfl (q_d_geT h1) ?_
      refine q_RP_seg (g2 := (16, [(0, .ref 66), (1, .ref 98), (2, .int v2), (3, .int v3)], [.int v3, .ref 67], (q_kW s c n))) 3 (fun _ _ => rfl) ?_
      refine q_RP_as fun i2 => ?_
      refine q_RP_rsT (g2 := (17, [(0, .ref 66), (1, .ref 98), (2, .int v2), (3, .int v3)], [.int ((s.1 3) (v3.toNatClampNeg))], (q_kW s c n))) rfl rfl i2 ?_
      refine q_RP_seg (g2 := (22, [(0, .ref 66), (1, .ref 98), (2, .int v2), (3, .int v3)], [.int v3, .ref 99, .int ((s.1 3) (v3.toNatClampNeg))], (q_kW s c n))) 3 (fun _ _ => rfl) ?_
      refine q_RP_rsT (g2 := (23, [(0, .ref 66), (1, .ref 98), (2, .int v2), (3, .int v3)], [.int ((s.1 35) (v3.toNatClampNeg)), .int ((s.1 3) (v3.toNatClampNeg))], (q_kW s c n))) rfl rfl i2 ?_
      cases h3 : decide ((s.1 3) (v3.toNatClampNeg) = (s.1 35) (v3.toNatClampNeg)) with
      | true =>
        refine q_RP_cT ?_
        refine q_RP_rsT (g2 := (29, [(0, .ref 66), (1, .ref 98), (2, .int v2), (3, .int v3)], [], (q_kW s c n))) rfl rfl h3 ?_
        refine q_RP_seg (g2 := (4, [(3, .int (v3 + 1)), (0, .ref 66), (1, .ref 98), (2, .int v2)], [], (q_kW s c n))) 2 (fun _ _ => rfl) ?_
        exact q_RP_xt (q_xt_mk (q_mn1 1 rfl (q_mn1 2 rfl (q_mn1 3 rfl (q_mn1 0 rfl q_mn0)))) rfl) (hk4 v2 (v3 + 1))
      | false =>
        refine q_RP_cF ?_
        refine q_RP_rsF (g2 := (26, [(0, .ref 66), (1, .ref 98), (2, .int v2), (3, .int v3)], [], (q_kW s c n))) rfl rfl h3 ?_
        refine q_RP_seg (g2 := (4, [(3, .int (v3 + 1)), (2, .int (v2 + 1)), (0, .ref 66), (1, .ref 98)], [], (q_kW s c n))) 3 (fun _ _ => rfl) ?_
        exact q_RP_xt (q_xt_mk (q_mn1 2 rfl (q_mn1 3 rfl (q_mn1 1 rfl (q_mn1 0 rfl q_mn0)))) rfl) (hk4 (v2 + 1) (v3 + 1))
    | false =>
      refine q_RP_cF ?_
      refine q_RP_rsT (g2 := (35, [(0, .ref 66), (1, .ref 98), (2, .int v2), (3, .int v3)], [], (q_kW s c n))) rfl rfl (q_d_geF h1) ?_
      refine q_RP_seg (g2 := (36, [(0, .ref 66), (1, .ref 98), (2, .int v2), (3, .int v3)], [.int v2], (q_kW s c n))) 1 (fun _ _ => rfl) ?_
      exact q_RP_ret rfl rfl rfl
def dz_W111_66_98 (s : q_S) : Option (Int32) :=
  dz_W111_66_98_4 5000 s 0 0
set_option maxHeartbeats 4000000 in
theorem dzt_W111_66_98 (s : q_S) (c n : Nat) (x : Int32) (h : dz_W111_66_98 s = some x) : q_Ca q_TB0 1 110 [.ref 66, .ref 98] (q_kW s c n) ((q_oP (q_kW s c n)) x) := by
  refine q_CaP_of (φ := (q_oP (q_kW s c n))) (Nat.le_of_ble_eq_true rfl) ?_ h
  clear h
  unfold dz_W111_66_98
  refine q_RP_seg (g2 := (4, [(3, .int 0), (2, .int 0), (0, .ref 66), (1, .ref 98)], [], (q_kW s c n))) 4 (fun _ _ => rfl) ?_
  exact q_RP_xt (q_xt_mk (q_mn1 2 rfl (q_mn1 3 rfl (q_mn1 1 rfl (q_mn1 0 rfl q_mn0)))) rfl) (dzt_W111_66_98_4 c n s 5000 0 0)
def dz_W110_66_98 (s : q_S) : q_S :=
  (q_sA (q_sA s 3 (va_cpy (s.1 35) (s.1 3) 0 0 4096)) 4 (va_cpy (s.1 36) (s.1 4) 0 0 48))
set_option maxHeartbeats 4000000 in
theorem dzt_W110_66_98 (s : q_S) (c n : Nat) : q_Ca q_TB0 1 109 [.ref 66, .ref 98] (q_kW s c n) ((q_oSW c n) (dz_W110_66_98 s)) := by
  refine q_CaT_of (φ := (q_oSW c n)) (Nat.le_of_ble_eq_true rfl) ?_
  unfold dz_W110_66_98
  refine q_RT_seg (g2 := (13, [(0, .ref 66), (1, .ref 98)], [.int 4096, .int 0, .ref 67, .int 0, .ref 99], (q_kW s c n))) 7 (fun _ _ => rfl) ?_
  refine q_RT_rsT (g2 := (16, [(0, .ref 66), (1, .ref 98)], [], (q_kW (q_sA s 3 (va_cpy (s.1 35) (s.1 3) 0 0 4096)) c n))) rfl rfl (q_acb rfl) ?_
  refine q_RT_seg (g2 := (28, [(0, .ref 66), (1, .ref 98)], [.int 48, .int 0, .ref 68, .int 0, .ref 100], (q_kW (q_sA s 3 (va_cpy (s.1 35) (s.1 3) 0 0 4096)) c n))) 7 (fun _ _ => rfl) ?_
  refine q_RT_rsT (g2 := (31, [(0, .ref 66), (1, .ref 98)], [], (q_kW (q_sA (q_sA s 3 (va_cpy (s.1 35) (s.1 3) 0 0 4096)) 4 (va_cpy (s.1 36) (s.1 4) 0 0 48)) c n))) rfl rfl (q_acb rfl) ?_
  exact q_RT_ret rfl rfl rfl
def dz_W174_72_104 (s : q_S) : q_S :=
  (q_sI (q_sI (q_sI (q_sI (q_sA s 9 (va_cpy (s.1 41) (s.1 9) 0 0 40)) 8 1 (s.2.1 40 1)) 8 2 (s.2.1 40 2)) 8 3 (s.2.1 40 3)) 8 4 (s.2.1 40 4))
set_option maxHeartbeats 4000000 in
theorem dzt_W174_72_104 (s : q_S) (c n : Nat) : q_Ca q_TB0 1 173 [.ref 72, .ref 104] (q_kW s c n) ((q_oSW c n) (dz_W174_72_104 s)) := by
  refine q_CaT_of (φ := (q_oSW c n)) (Nat.le_of_ble_eq_true rfl) ?_
  unfold dz_W174_72_104
  refine q_RT_seg (g2 := (12, [(0, .ref 72), (1, .ref 104)], [.int 40, .int 0, .ref 73, .int 0, .ref 105], (q_kW s c n))) 7 (fun _ _ => rfl) ?_
  refine q_RT_rsT (g2 := (15, [(0, .ref 72), (1, .ref 104)], [], (q_kW (q_sA s 9 (va_cpy (s.1 41) (s.1 9) 0 0 40)) c n))) rfl rfl (q_acb rfl) ?_
  refine q_RT_seg (g2 := (20, [(0, .ref 72), (1, .ref 104)], [.int (s.2.1 40 1), .ref 72], (q_kW (q_sA s 9 (va_cpy (s.1 41) (s.1 9) 0 0 40)) c n))) 3 (fun _ _ => rfl) ?_
  refine q_RT_seg (g2 := (28, [(0, .ref 72), (1, .ref 104)], [.int (s.2.1 40 2), .ref 72], (q_kW (q_sI (q_sA s 9 (va_cpy (s.1 41) (s.1 9) 0 0 40)) 8 1 (s.2.1 40 1)) c n))) 4 (fun _ _ => rfl) ?_
  refine q_RT_seg (g2 := (36, [(0, .ref 72), (1, .ref 104)], [.int (s.2.1 40 3), .ref 72], (q_kW (q_sI (q_sI (q_sA s 9 (va_cpy (s.1 41) (s.1 9) 0 0 40)) 8 1 (s.2.1 40 1)) 8 2 (s.2.1 40 2)) c n))) 4 (fun _ _ => rfl) ?_
  refine q_RT_seg (g2 := (44, [(0, .ref 72), (1, .ref 104)], [.int (s.2.1 40 4), .ref 72], (q_kW (q_sI (q_sI (q_sI (q_sA s 9 (va_cpy (s.1 41) (s.1 9) 0 0 40)) 8 1 (s.2.1 40 1)) 8 2 (s.2.1 40 2)) 8 3 (s.2.1 40 3)) c n))) 4 (fun _ _ => rfl) ?_
  refine q_RT_seg (g2 := (47, [(0, .ref 72), (1, .ref 104)], [], (q_kW (q_sI (q_sI (q_sI (q_sI (q_sA s 9 (va_cpy (s.1 41) (s.1 9) 0 0 40)) 8 1 (s.2.1 40 1)) 8 2 (s.2.1 40 2)) 8 3 (s.2.1 40 3)) 8 4 (s.2.1 40 4)) c n))) 1 (fun _ _ => rfl) ?_
  exact q_RT_ret rfl rfl rfl
def dz_W179_74_106 (s : q_S) : q_S :=
  (q_sI (q_sA (q_sA s 11 (va_cpy (s.1 43) (s.1 11) 0 0 4)) 12 (va_cpy (s.1 44) (s.1 12) 0 0 16)) 10 2 (s.2.1 42 2))
set_option maxHeartbeats 4000000 in
theorem dzt_W179_74_106 (s : q_S) (c n : Nat) : q_Ca q_TB0 1 178 [.ref 74, .ref 106] (q_kW s c n) ((q_oSW c n) (dz_W179_74_106 s)) := by
  refine q_CaT_of (φ := (q_oSW c n)) (Nat.le_of_ble_eq_true rfl) ?_
  unfold dz_W179_74_106
  refine q_RT_seg (g2 := (11, [(0, .ref 74), (1, .ref 106)], [.int 4, .int 0, .ref 75, .int 0, .ref 107], (q_kW s c n))) 7 (fun _ _ => rfl) ?_
  refine q_RT_rsT (g2 := (14, [(0, .ref 74), (1, .ref 106)], [], (q_kW (q_sA s 11 (va_cpy (s.1 43) (s.1 11) 0 0 4)) c n))) rfl rfl (q_acb rfl) ?_
  refine q_RT_seg (g2 := (26, [(0, .ref 74), (1, .ref 106)], [.int 16, .int 0, .ref 76, .int 0, .ref 108], (q_kW (q_sA s 11 (va_cpy (s.1 43) (s.1 11) 0 0 4)) c n))) 7 (fun _ _ => rfl) ?_
  refine q_RT_rsT (g2 := (29, [(0, .ref 74), (1, .ref 106)], [], (q_kW (q_sA (q_sA s 11 (va_cpy (s.1 43) (s.1 11) 0 0 4)) 12 (va_cpy (s.1 44) (s.1 12) 0 0 16)) c n))) rfl rfl (q_acb rfl) ?_
  refine q_RT_seg (g2 := (34, [(0, .ref 74), (1, .ref 106)], [.int (s.2.1 42 2), .ref 74], (q_kW (q_sA (q_sA s 11 (va_cpy (s.1 43) (s.1 11) 0 0 4)) 12 (va_cpy (s.1 44) (s.1 12) 0 0 16)) c n))) 3 (fun _ _ => rfl) ?_
  refine q_RT_seg (g2 := (37, [(0, .ref 74), (1, .ref 106)], [], (q_kW (q_sI (q_sA (q_sA s 11 (va_cpy (s.1 43) (s.1 11) 0 0 4)) 12 (va_cpy (s.1 44) (s.1 12) 0 0 16)) 10 2 (s.2.1 42 2)) c n))) 1 (fun _ _ => rfl) ?_
  exact q_RT_ret rfl rfl rfl
def dz_W110_78_110 (s : q_S) : q_S :=
  (q_sA (q_sA s 15 (va_cpy (s.1 47) (s.1 15) 0 0 4096)) 16 (va_cpy (s.1 48) (s.1 16) 0 0 48))
set_option maxHeartbeats 4000000 in
theorem dzt_W110_78_110 (s : q_S) (c n : Nat) : q_Ca q_TB0 1 109 [.ref 78, .ref 110] (q_kW s c n) ((q_oSW c n) (dz_W110_78_110 s)) := by
  refine q_CaT_of (φ := (q_oSW c n)) (Nat.le_of_ble_eq_true rfl) ?_
  unfold dz_W110_78_110
  refine q_RT_seg (g2 := (13, [(0, .ref 78), (1, .ref 110)], [.int 4096, .int 0, .ref 79, .int 0, .ref 111], (q_kW s c n))) 7 (fun _ _ => rfl) ?_
  refine q_RT_rsT (g2 := (16, [(0, .ref 78), (1, .ref 110)], [], (q_kW (q_sA s 15 (va_cpy (s.1 47) (s.1 15) 0 0 4096)) c n))) rfl rfl (q_acb rfl) ?_
  refine q_RT_seg (g2 := (28, [(0, .ref 78), (1, .ref 110)], [.int 48, .int 0, .ref 80, .int 0, .ref 112], (q_kW (q_sA s 15 (va_cpy (s.1 47) (s.1 15) 0 0 4096)) c n))) 7 (fun _ _ => rfl) ?_
  refine q_RT_rsT (g2 := (31, [(0, .ref 78), (1, .ref 110)], [], (q_kW (q_sA (q_sA s 15 (va_cpy (s.1 47) (s.1 15) 0 0 4096)) 16 (va_cpy (s.1 48) (s.1 16) 0 0 48)) c n))) rfl rfl (q_acb rfl) ?_
  exact q_RT_ret rfl rfl rfl
def dz_W126_77_109 (s : q_S) : q_S :=
  q_let (dz_W110_78_110 s) fun r1 => (q_sI (q_sI (q_sA r1 17 (va_cpy (r1.1 49) (r1.1 17) 0 0 3072)) 13 2 (r1.2.1 45 2)) 13 3 (r1.2.1 45 3))
set_option maxHeartbeats 4000000 in
theorem dzt_W126_77_109 (s : q_S) (c n : Nat) : q_Ca q_TB0 2 125 [.ref 77, .ref 109] (q_kW s c n) ((q_oSW c n) (dz_W126_77_109 s)) := by
  refine q_CaT_of (φ := (q_oSW c n)) (Nat.le_of_ble_eq_true rfl) ?_
  unfold dz_W126_77_109
  refine q_RT_seg (g2 := (8, [(0, .ref 77), (1, .ref 109)], [.ref 110, .ref 78], (q_kW s c n))) 4 (fun _ _ => rfl) ?_
  refine q_RT_call (v := none) (h2 := (q_kW (dz_W110_78_110 s) c n)) rfl rfl ((dzt_W110_78_110 s c n).le (Nat.le_of_ble_eq_true rfl)) ?_
  generalize dz_W110_78_110 s = r1
  refine q_RT_let ?_
  show q_RT _ _ _ (11, [(0, .ref 77), (1, .ref 109)], [], (q_kW r1 c n)) _ _
  refine q_RT_seg (g2 := (24, [(0, .ref 77), (1, .ref 109)], [.int 3072, .int 0, .ref 81, .int 0, .ref 113], (q_kW r1 c n))) 7 (fun _ _ => rfl) ?_
  refine q_RT_rsT (g2 := (27, [(0, .ref 77), (1, .ref 109)], [], (q_kW (q_sA r1 17 (va_cpy (r1.1 49) (r1.1 17) 0 0 3072)) c n))) rfl rfl (q_acb rfl) ?_
  refine q_RT_seg (g2 := (32, [(0, .ref 77), (1, .ref 109)], [.int (r1.2.1 45 2), .ref 77], (q_kW (q_sA r1 17 (va_cpy (r1.1 49) (r1.1 17) 0 0 3072)) c n))) 3 (fun _ _ => rfl) ?_
  refine q_RT_seg (g2 := (40, [(0, .ref 77), (1, .ref 109)], [.int (r1.2.1 45 3), .ref 77], (q_kW (q_sI (q_sA r1 17 (va_cpy (r1.1 49) (r1.1 17) 0 0 3072)) 13 2 (r1.2.1 45 2)) c n))) 4 (fun _ _ => rfl) ?_
  refine q_RT_seg (g2 := (43, [(0, .ref 77), (1, .ref 109)], [], (q_kW (q_sI (q_sI (q_sA r1 17 (va_cpy (r1.1 49) (r1.1 17) 0 0 3072)) 13 2 (r1.2.1 45 2)) 13 3 (r1.2.1 45 3)) c n))) 1 (fun _ _ => rfl) ?_
  exact q_RT_ret rfl rfl rfl
def dz_W110_83_115 (s : q_S) : q_S :=
  (q_sA (q_sA s 20 (va_cpy (s.1 52) (s.1 20) 0 0 4096)) 21 (va_cpy (s.1 53) (s.1 21) 0 0 48))
set_option maxHeartbeats 4000000 in
theorem dzt_W110_83_115 (s : q_S) (c n : Nat) : q_Ca q_TB0 1 109 [.ref 83, .ref 115] (q_kW s c n) ((q_oSW c n) (dz_W110_83_115 s)) := by
  refine q_CaT_of (φ := (q_oSW c n)) (Nat.le_of_ble_eq_true rfl) ?_
  unfold dz_W110_83_115
  refine q_RT_seg (g2 := (13, [(0, .ref 83), (1, .ref 115)], [.int 4096, .int 0, .ref 84, .int 0, .ref 116], (q_kW s c n))) 7 (fun _ _ => rfl) ?_
  refine q_RT_rsT (g2 := (16, [(0, .ref 83), (1, .ref 115)], [], (q_kW (q_sA s 20 (va_cpy (s.1 52) (s.1 20) 0 0 4096)) c n))) rfl rfl (q_acb rfl) ?_
  refine q_RT_seg (g2 := (28, [(0, .ref 83), (1, .ref 115)], [.int 48, .int 0, .ref 85, .int 0, .ref 117], (q_kW (q_sA s 20 (va_cpy (s.1 52) (s.1 20) 0 0 4096)) c n))) 7 (fun _ _ => rfl) ?_
  refine q_RT_rsT (g2 := (31, [(0, .ref 83), (1, .ref 115)], [], (q_kW (q_sA (q_sA s 20 (va_cpy (s.1 52) (s.1 20) 0 0 4096)) 21 (va_cpy (s.1 53) (s.1 21) 0 0 48)) c n))) rfl rfl (q_acb rfl) ?_
  exact q_RT_ret rfl rfl rfl
def dz_W126_82_114 (s : q_S) : q_S :=
  q_let (dz_W110_83_115 s) fun r1 => (q_sI (q_sI (q_sA r1 22 (va_cpy (r1.1 54) (r1.1 22) 0 0 3072)) 18 2 (r1.2.1 50 2)) 18 3 (r1.2.1 50 3))
set_option maxHeartbeats 4000000 in
theorem dzt_W126_82_114 (s : q_S) (c n : Nat) : q_Ca q_TB0 2 125 [.ref 82, .ref 114] (q_kW s c n) ((q_oSW c n) (dz_W126_82_114 s)) := by
  refine q_CaT_of (φ := (q_oSW c n)) (Nat.le_of_ble_eq_true rfl) ?_
  unfold dz_W126_82_114
  refine q_RT_seg (g2 := (8, [(0, .ref 82), (1, .ref 114)], [.ref 115, .ref 83], (q_kW s c n))) 4 (fun _ _ => rfl) ?_
  refine q_RT_call (v := none) (h2 := (q_kW (dz_W110_83_115 s) c n)) rfl rfl ((dzt_W110_83_115 s c n).le (Nat.le_of_ble_eq_true rfl)) ?_
  generalize dz_W110_83_115 s = r1
  refine q_RT_let ?_
  show q_RT _ _ _ (11, [(0, .ref 82), (1, .ref 114)], [], (q_kW r1 c n)) _ _
  refine q_RT_seg (g2 := (24, [(0, .ref 82), (1, .ref 114)], [.int 3072, .int 0, .ref 86, .int 0, .ref 118], (q_kW r1 c n))) 7 (fun _ _ => rfl) ?_
  refine q_RT_rsT (g2 := (27, [(0, .ref 82), (1, .ref 114)], [], (q_kW (q_sA r1 22 (va_cpy (r1.1 54) (r1.1 22) 0 0 3072)) c n))) rfl rfl (q_acb rfl) ?_
  refine q_RT_seg (g2 := (32, [(0, .ref 82), (1, .ref 114)], [.int (r1.2.1 50 2), .ref 82], (q_kW (q_sA r1 22 (va_cpy (r1.1 54) (r1.1 22) 0 0 3072)) c n))) 3 (fun _ _ => rfl) ?_
  refine q_RT_seg (g2 := (40, [(0, .ref 82), (1, .ref 114)], [.int (r1.2.1 50 3), .ref 82], (q_kW (q_sI (q_sA r1 22 (va_cpy (r1.1 54) (r1.1 22) 0 0 3072)) 18 2 (r1.2.1 50 2)) c n))) 4 (fun _ _ => rfl) ?_
  refine q_RT_seg (g2 := (43, [(0, .ref 82), (1, .ref 114)], [], (q_kW (q_sI (q_sI (q_sA r1 22 (va_cpy (r1.1 54) (r1.1 22) 0 0 3072)) 18 2 (r1.2.1 50 2)) 18 3 (r1.2.1 50 3)) c n))) 1 (fun _ _ => rfl) ?_
  exact q_RT_ret rfl rfl rfl
def dz_W85_65_97 (s : q_S) : q_S :=
  q_let (dz_W110_66_98 s) fun r1 => q_let (dz_W174_72_104 (q_sA (q_sA (q_sA r1 5 (va_cpy (r1.1 37) (r1.1 5) 0 0 512)) 6 (va_cpy (r1.1 38) (r1.1 6) 0 0 2048)) 7 (va_cpy (r1.1 39) (r1.1 7) 0 0 2))) fun r2 => q_let (dz_W179_74_106 r2) fun r3 => q_let (dz_W126_77_109 r3) fun r4 => q_let (dz_W126_82_114 r4) fun r5 => (q_sJ r5 1 8 (r5.2.2 33 8))
set_option maxHeartbeats 4000000 in
theorem dzt_W85_65_97 (s : q_S) (c n : Nat) : q_Ca q_TB0 3 84 [.ref 65, .ref 97] (q_kW s c n) ((q_oSW c n) (dz_W85_65_97 s)) := by
  refine q_CaT_of (φ := (q_oSW c n)) (Nat.le_of_ble_eq_true rfl) ?_
  unfold dz_W85_65_97
  refine q_RT_seg (g2 := (8, [(0, .ref 65), (1, .ref 97)], [.ref 98, .ref 66], (q_kW s c n))) 4 (fun _ _ => rfl) ?_
  refine q_RT_call (v := none) (h2 := (q_kW (dz_W110_66_98 s) c n)) rfl rfl ((dzt_W110_66_98 s c n).le (Nat.le_of_ble_eq_true rfl)) ?_
  generalize dz_W110_66_98 s = r1
  refine q_RT_let ?_
  show q_RT _ _ _ (11, [(0, .ref 65), (1, .ref 97)], [], (q_kW r1 c n)) _ _
  refine q_RT_seg (g2 := (24, [(0, .ref 65), (1, .ref 97)], [.int 512, .int 0, .ref 69, .int 0, .ref 101], (q_kW r1 c n))) 7 (fun _ _ => rfl) ?_
  refine q_RT_rsT (g2 := (27, [(0, .ref 65), (1, .ref 97)], [], (q_kW (q_sA r1 5 (va_cpy (r1.1 37) (r1.1 5) 0 0 512)) c n))) rfl rfl (q_acb rfl) ?_
  refine q_RT_seg (g2 := (40, [(0, .ref 65), (1, .ref 97)], [.int 2048, .int 0, .ref 70, .int 0, .ref 102], (q_kW (q_sA r1 5 (va_cpy (r1.1 37) (r1.1 5) 0 0 512)) c n))) 7 (fun _ _ => rfl) ?_
  refine q_RT_rsT (g2 := (43, [(0, .ref 65), (1, .ref 97)], [], (q_kW (q_sA (q_sA r1 5 (va_cpy (r1.1 37) (r1.1 5) 0 0 512)) 6 (va_cpy (r1.1 38) (r1.1 6) 0 0 2048)) c n))) rfl rfl (q_acb rfl) ?_
  refine q_RT_seg (g2 := (54, [(0, .ref 65), (1, .ref 97)], [.int 2, .int 0, .ref 71, .int 0, .ref 103], (q_kW (q_sA (q_sA r1 5 (va_cpy (r1.1 37) (r1.1 5) 0 0 512)) 6 (va_cpy (r1.1 38) (r1.1 6) 0 0 2048)) c n))) 7 (fun _ _ => rfl) ?_
  refine q_RT_rsT (g2 := (57, [(0, .ref 65), (1, .ref 97)], [], (q_kW (q_sA (q_sA (q_sA r1 5 (va_cpy (r1.1 37) (r1.1 5) 0 0 512)) 6 (va_cpy (r1.1 38) (r1.1 6) 0 0 2048)) 7 (va_cpy (r1.1 39) (r1.1 7) 0 0 2)) c n))) rfl rfl (q_acb rfl) ?_
  refine q_RT_seg (g2 := (65, [(0, .ref 65), (1, .ref 97)], [.ref 104, .ref 72], (q_kW (q_sA (q_sA (q_sA r1 5 (va_cpy (r1.1 37) (r1.1 5) 0 0 512)) 6 (va_cpy (r1.1 38) (r1.1 6) 0 0 2048)) 7 (va_cpy (r1.1 39) (r1.1 7) 0 0 2)) c n))) 4 (fun _ _ => rfl) ?_
  refine q_RT_call (v := none) (h2 := (q_kW (dz_W174_72_104 (q_sA (q_sA (q_sA r1 5 (va_cpy (r1.1 37) (r1.1 5) 0 0 512)) 6 (va_cpy (r1.1 38) (r1.1 6) 0 0 2048)) 7 (va_cpy (r1.1 39) (r1.1 7) 0 0 2))) c n)) rfl rfl ((dzt_W174_72_104 (q_sA (q_sA (q_sA r1 5 (va_cpy (r1.1 37) (r1.1 5) 0 0 512)) 6 (va_cpy (r1.1 38) (r1.1 6) 0 0 2048)) 7 (va_cpy (r1.1 39) (r1.1 7) 0 0 2)) c n).le (Nat.le_of_ble_eq_true rfl)) ?_
  generalize dz_W174_72_104 (q_sA (q_sA (q_sA r1 5 (va_cpy (r1.1 37) (r1.1 5) 0 0 512)) 6 (va_cpy (r1.1 38) (r1.1 6) 0 0 2048)) 7 (va_cpy (r1.1 39) (r1.1 7) 0 0 2)) = r2
  refine q_RT_let ?_
  show q_RT _ _ _ (68, [(0, .ref 65), (1, .ref 97)], [], (q_kW r2 c n)) _ _
  refine q_RT_seg (g2 := (76, [(0, .ref 65), (1, .ref 97)], [.ref 106, .ref 74], (q_kW r2 c n))) 4 (fun _ _ => rfl) ?_
  refine q_RT_call (v := none) (h2 := (q_kW (dz_W179_74_106 r2) c n)) rfl rfl ((dzt_W179_74_106 r2 c n).le (Nat.le_of_ble_eq_true rfl)) ?_
  generalize dz_W179_74_106 r2 = r3
  refine q_RT_let ?_
  show q_RT _ _ _ (79, [(0, .ref 65), (1, .ref 97)], [], (q_kW r3 c n)) _ _
  refine q_RT_seg (g2 := (87, [(0, .ref 65), (1, .ref 97)], [.ref 109, .ref 77], (q_kW r3 c n))) 4 (fun _ _ => rfl) ?_
  refine q_RT_call (v := none) (h2 := (q_kW (dz_W126_77_109 r3) c n)) rfl rfl ((dzt_W126_77_109 r3 c n).le (Nat.le_of_ble_eq_true rfl)) ?_
  generalize dz_W126_77_109 r3 = r4
  refine q_RT_let ?_
  show q_RT _ _ _ (90, [(0, .ref 65), (1, .ref 97)], [], (q_kW r4 c n)) _ _
  refine q_RT_seg (g2 := (98, [(0, .ref 65), (1, .ref 97)], [.ref 114, .ref 82], (q_kW r4 c n))) 4 (fun _ _ => rfl) ?_
  refine q_RT_call (v := none) (h2 := (q_kW (dz_W126_82_114 r4) c n)) rfl rfl ((dzt_W126_82_114 r4 c n).le (Nat.le_of_ble_eq_true rfl)) ?_
  generalize dz_W126_82_114 r4 = r5
  refine q_RT_let ?_
  show q_RT _ _ _ (101, [(0, .ref 65), (1, .ref 97)], [], (q_kW r5 c n)) _ _
  refine q_RT_seg (g2 := (106, [(0, .ref 65), (1, .ref 97)], [.long (r5.2.2 33 8), .ref 65], (q_kW r5 c n))) 3 (fun _ _ => rfl) ?_
  refine q_RT_seg (g2 := (109, [(0, .ref 65), (1, .ref 97)], [], (q_kW (q_sJ r5 1 8 (r5.2.2 33 8)) c n))) 1 (fun _ _ => rfl) ?_
  exact q_RT_ret rfl rfl rfl
def dz_W131_87_119 (s : q_S) : Option (q_S) :=
  cond (q_z1 (s.2.1 55 6)) (cond (q_z1 (s.2.1 55 7)) (some (q_sA (q_sI (q_sI (q_sI (q_sI (q_sI (q_sI (q_sI (q_sI (q_sI (q_sI (q_sI (q_sI s 23 0 (s.2.1 55 0)) 23 1 (s.2.1 55 1)) 23 2 (s.2.1 55 2)) 23 3 (s.2.1 55 3)) 23 4 (s.2.1 55 4)) 23 5 (s.2.1 55 5)) 23 6 (s.2.1 55 6)) 23 7 (s.2.1 55 7)) 23 8 (s.2.1 55 8)) 23 9 (s.2.1 55 9)) 23 10 (s.2.1 55 10)) 23 11 (s.2.1 55 11)) 24 (va_cpy (s.1 56) (s.1 24) 0 0 16))) none) none
set_option maxHeartbeats 4000000 in
theorem dzt_W131_87_119 (s : q_S) (c n : Nat) (x : q_S) (h : dz_W131_87_119 s = some x) : q_Ca q_TB0 1 130 [.ref 87, .ref 119] (q_kW s c n) ((q_oSW c n) x) := by
  refine q_CaP_of (φ := (q_oSW c n)) (Nat.le_of_ble_eq_true rfl) ?_ h
  clear h
  unfold dz_W131_87_119
  refine q_RP_seg (g2 := (5, [(0, .ref 87), (1, .ref 119)], [.int (s.2.1 55 0), .ref 87], (q_kW s c n))) 3 (fun _ _ => rfl) ?_
  refine q_RP_seg (g2 := (13, [(0, .ref 87), (1, .ref 119)], [.int (s.2.1 55 1), .ref 87], (q_kW (q_sI s 23 0 (s.2.1 55 0)) c n))) 4 (fun _ _ => rfl) ?_
  refine q_RP_seg (g2 := (21, [(0, .ref 87), (1, .ref 119)], [.int (s.2.1 55 2), .ref 87], (q_kW (q_sI (q_sI s 23 0 (s.2.1 55 0)) 23 1 (s.2.1 55 1)) c n))) 4 (fun _ _ => rfl) ?_
  refine q_RP_seg (g2 := (29, [(0, .ref 87), (1, .ref 119)], [.int (s.2.1 55 3), .ref 87], (q_kW (q_sI (q_sI (q_sI s 23 0 (s.2.1 55 0)) 23 1 (s.2.1 55 1)) 23 2 (s.2.1 55 2)) c n))) 4 (fun _ _ => rfl) ?_
  refine q_RP_seg (g2 := (37, [(0, .ref 87), (1, .ref 119)], [.int (s.2.1 55 4), .ref 87], (q_kW (q_sI (q_sI (q_sI (q_sI s 23 0 (s.2.1 55 0)) 23 1 (s.2.1 55 1)) 23 2 (s.2.1 55 2)) 23 3 (s.2.1 55 3)) c n))) 4 (fun _ _ => rfl) ?_
  refine q_RP_seg (g2 := (45, [(0, .ref 87), (1, .ref 119)], [.int (s.2.1 55 5), .ref 87], (q_kW (q_sI (q_sI (q_sI (q_sI (q_sI s 23 0 (s.2.1 55 0)) 23 1 (s.2.1 55 1)) 23 2 (s.2.1 55 2)) 23 3 (s.2.1 55 3)) 23 4 (s.2.1 55 4)) c n))) 4 (fun _ _ => rfl) ?_
  refine q_RP_seg (g2 := (53, [(0, .ref 87), (1, .ref 119)], [.int (s.2.1 55 6), .ref 87], (q_kW (q_sI (q_sI (q_sI (q_sI (q_sI (q_sI s 23 0 (s.2.1 55 0)) 23 1 (s.2.1 55 1)) 23 2 (s.2.1 55 2)) 23 3 (s.2.1 55 3)) 23 4 (s.2.1 55 4)) 23 5 (s.2.1 55 5)) c n))) 4 (fun _ _ => rfl) ?_
  refine q_RP_as fun i1 => ?_
  refine q_RP_st1 (g2 := (56, [(0, .ref 87), (1, .ref 119)], [], (q_kW (q_sI (q_sI (q_sI (q_sI (q_sI (q_sI (q_sI s 23 0 (s.2.1 55 0)) 23 1 (s.2.1 55 1)) 23 2 (s.2.1 55 2)) 23 3 (s.2.1 55 3)) 23 4 (s.2.1 55 4)) 23 5 (s.2.1 55 5)) 23 6 (s.2.1 55 6)) c n))) rfl (if_pos ⟨rfl, (Nat.le_of_ble_eq_true rfl), i1⟩) ?_
  refine q_RP_seg (g2 := (61, [(0, .ref 87), (1, .ref 119)], [.int (s.2.1 55 7), .ref 87], (q_kW (q_sI (q_sI (q_sI (q_sI (q_sI (q_sI (q_sI s 23 0 (s.2.1 55 0)) 23 1 (s.2.1 55 1)) 23 2 (s.2.1 55 2)) 23 3 (s.2.1 55 3)) 23 4 (s.2.1 55 4)) 23 5 (s.2.1 55 5)) 23 6 (s.2.1 55 6)) c n))) 3 (fun _ _ => rfl) ?_
  refine q_RP_as fun i2 => ?_
  refine q_RP_st1 (g2 := (64, [(0, .ref 87), (1, .ref 119)], [], (q_kW (q_sI (q_sI (q_sI (q_sI (q_sI (q_sI (q_sI (q_sI s 23 0 (s.2.1 55 0)) 23 1 (s.2.1 55 1)) 23 2 (s.2.1 55 2)) 23 3 (s.2.1 55 3)) 23 4 (s.2.1 55 4)) 23 5 (s.2.1 55 5)) 23 6 (s.2.1 55 6)) 23 7 (s.2.1 55 7)) c n))) rfl (if_pos ⟨rfl, (Nat.le_of_ble_eq_true rfl), i2⟩) ?_
  refine q_RP_seg (g2 := (69, [(0, .ref 87), (1, .ref 119)], [.int (s.2.1 55 8), .ref 87], (q_kW (q_sI (q_sI (q_sI (q_sI (q_sI (q_sI (q_sI (q_sI s 23 0 (s.2.1 55 0)) 23 1 (s.2.1 55 1)) 23 2 (s.2.1 55 2)) 23 3 (s.2.1 55 3)) 23 4 (s.2.1 55 4)) 23 5 (s.2.1 55 5)) 23 6 (s.2.1 55 6)) 23 7 (s.2.1 55 7)) c n))) 3 (fun _ _ => rfl) ?_
  refine q_RP_seg (g2 := (77, [(0, .ref 87), (1, .ref 119)], [.int (s.2.1 55 9), .ref 87], (q_kW (q_sI (q_sI (q_sI (q_sI (q_sI (q_sI (q_sI (q_sI (q_sI s 23 0 (s.2.1 55 0)) 23 1 (s.2.1 55 1)) 23 2 (s.2.1 55 2)) 23 3 (s.2.1 55 3)) 23 4 (s.2.1 55 4)) 23 5 (s.2.1 55 5)) 23 6 (s.2.1 55 6)) 23 7 (s.2.1 55 7)) 23 8 (s.2.1 55 8)) c n))) 4 (fun _ _ => rfl) ?_
  refine q_RP_seg (g2 := (85, [(0, .ref 87), (1, .ref 119)], [.int (s.2.1 55 10), .ref 87], (q_kW (q_sI (q_sI (q_sI (q_sI (q_sI (q_sI (q_sI (q_sI (q_sI (q_sI s 23 0 (s.2.1 55 0)) 23 1 (s.2.1 55 1)) 23 2 (s.2.1 55 2)) 23 3 (s.2.1 55 3)) 23 4 (s.2.1 55 4)) 23 5 (s.2.1 55 5)) 23 6 (s.2.1 55 6)) 23 7 (s.2.1 55 7)) 23 8 (s.2.1 55 8)) 23 9 (s.2.1 55 9)) c n))) 4 (fun _ _ => rfl) ?_
  refine q_RP_seg (g2 := (93, [(0, .ref 87), (1, .ref 119)], [.int (s.2.1 55 11), .ref 87], (q_kW (q_sI (q_sI (q_sI (q_sI (q_sI (q_sI (q_sI (q_sI (q_sI (q_sI (q_sI s 23 0 (s.2.1 55 0)) 23 1 (s.2.1 55 1)) 23 2 (s.2.1 55 2)) 23 3 (s.2.1 55 3)) 23 4 (s.2.1 55 4)) 23 5 (s.2.1 55 5)) 23 6 (s.2.1 55 6)) 23 7 (s.2.1 55 7)) 23 8 (s.2.1 55 8)) 23 9 (s.2.1 55 9)) 23 10 (s.2.1 55 10)) c n))) 4 (fun _ _ => rfl) ?_
  refine q_RP_seg (g2 := (108, [(0, .ref 87), (1, .ref 119)], [.int 16, .int 0, .ref 88, .int 0, .ref 120], (q_kW (q_sI (q_sI (q_sI (q_sI (q_sI (q_sI (q_sI (q_sI (q_sI (q_sI (q_sI (q_sI s 23 0 (s.2.1 55 0)) 23 1 (s.2.1 55 1)) 23 2 (s.2.1 55 2)) 23 3 (s.2.1 55 3)) 23 4 (s.2.1 55 4)) 23 5 (s.2.1 55 5)) 23 6 (s.2.1 55 6)) 23 7 (s.2.1 55 7)) 23 8 (s.2.1 55 8)) 23 9 (s.2.1 55 9)) 23 10 (s.2.1 55 10)) 23 11 (s.2.1 55 11)) c n))) 8 (fun _ _ => rfl) ?_
  refine q_RP_rsT (g2 := (111, [(0, .ref 87), (1, .ref 119)], [], (q_kW (q_sA (q_sI (q_sI (q_sI (q_sI (q_sI (q_sI (q_sI (q_sI (q_sI (q_sI (q_sI (q_sI s 23 0 (s.2.1 55 0)) 23 1 (s.2.1 55 1)) 23 2 (s.2.1 55 2)) 23 3 (s.2.1 55 3)) 23 4 (s.2.1 55 4)) 23 5 (s.2.1 55 5)) 23 6 (s.2.1 55 6)) 23 7 (s.2.1 55 7)) 23 8 (s.2.1 55 8)) 23 9 (s.2.1 55 9)) 23 10 (s.2.1 55 10)) 23 11 (s.2.1 55 11)) 24 (va_cpy (s.1 56) (s.1 24) 0 0 16)) c n))) rfl rfl (q_acb rfl) ?_
  exact q_RP_ret rfl rfl rfl
def dz_W166_89_121 (s : q_S) : q_S :=
  (q_sA (q_sA (q_sA (q_sA (q_sA s 26 (va_cpy (s.1 58) (s.1 26) 0 0 3)) 27 (va_cpy (s.1 59) (s.1 27) 0 0 3)) 28 (va_cpy (s.1 60) (s.1 28) 0 0 3)) 29 (va_cpy (s.1 61) (s.1 29) 0 0 3)) 30 (va_cpy (s.1 62) (s.1 30) 0 0 40))
set_option maxHeartbeats 4000000 in
theorem dzt_W166_89_121 (s : q_S) (c n : Nat) : q_Ca q_TB0 1 165 [.ref 89, .ref 121] (q_kW s c n) ((q_oSW c n) (dz_W166_89_121 s)) := by
  refine q_CaT_of (φ := (q_oSW c n)) (Nat.le_of_ble_eq_true rfl) ?_
  unfold dz_W166_89_121
  refine q_RT_seg (g2 := (11, [(0, .ref 89), (1, .ref 121)], [.int 3, .int 0, .ref 90, .int 0, .ref 122], (q_kW s c n))) 7 (fun _ _ => rfl) ?_
  refine q_RT_rsT (g2 := (14, [(0, .ref 89), (1, .ref 121)], [], (q_kW (q_sA s 26 (va_cpy (s.1 58) (s.1 26) 0 0 3)) c n))) rfl rfl (q_acb rfl) ?_
  refine q_RT_seg (g2 := (25, [(0, .ref 89), (1, .ref 121)], [.int 3, .int 0, .ref 91, .int 0, .ref 123], (q_kW (q_sA s 26 (va_cpy (s.1 58) (s.1 26) 0 0 3)) c n))) 7 (fun _ _ => rfl) ?_
  refine q_RT_rsT (g2 := (28, [(0, .ref 89), (1, .ref 121)], [], (q_kW (q_sA (q_sA s 26 (va_cpy (s.1 58) (s.1 26) 0 0 3)) 27 (va_cpy (s.1 59) (s.1 27) 0 0 3)) c n))) rfl rfl (q_acb rfl) ?_
  refine q_RT_seg (g2 := (39, [(0, .ref 89), (1, .ref 121)], [.int 3, .int 0, .ref 92, .int 0, .ref 124], (q_kW (q_sA (q_sA s 26 (va_cpy (s.1 58) (s.1 26) 0 0 3)) 27 (va_cpy (s.1 59) (s.1 27) 0 0 3)) c n))) 7 (fun _ _ => rfl) ?_
  refine q_RT_rsT (g2 := (42, [(0, .ref 89), (1, .ref 121)], [], (q_kW (q_sA (q_sA (q_sA s 26 (va_cpy (s.1 58) (s.1 26) 0 0 3)) 27 (va_cpy (s.1 59) (s.1 27) 0 0 3)) 28 (va_cpy (s.1 60) (s.1 28) 0 0 3)) c n))) rfl rfl (q_acb rfl) ?_
  refine q_RT_seg (g2 := (53, [(0, .ref 89), (1, .ref 121)], [.int 3, .int 0, .ref 93, .int 0, .ref 125], (q_kW (q_sA (q_sA (q_sA s 26 (va_cpy (s.1 58) (s.1 26) 0 0 3)) 27 (va_cpy (s.1 59) (s.1 27) 0 0 3)) 28 (va_cpy (s.1 60) (s.1 28) 0 0 3)) c n))) 7 (fun _ _ => rfl) ?_
  refine q_RT_rsT (g2 := (56, [(0, .ref 89), (1, .ref 121)], [], (q_kW (q_sA (q_sA (q_sA (q_sA s 26 (va_cpy (s.1 58) (s.1 26) 0 0 3)) 27 (va_cpy (s.1 59) (s.1 27) 0 0 3)) 28 (va_cpy (s.1 60) (s.1 28) 0 0 3)) 29 (va_cpy (s.1 61) (s.1 29) 0 0 3)) c n))) rfl rfl (q_acb rfl) ?_
  refine q_RT_seg (g2 := (68, [(0, .ref 89), (1, .ref 121)], [.int 40, .int 0, .ref 94, .int 0, .ref 126], (q_kW (q_sA (q_sA (q_sA (q_sA s 26 (va_cpy (s.1 58) (s.1 26) 0 0 3)) 27 (va_cpy (s.1 59) (s.1 27) 0 0 3)) 28 (va_cpy (s.1 60) (s.1 28) 0 0 3)) 29 (va_cpy (s.1 61) (s.1 29) 0 0 3)) c n))) 7 (fun _ _ => rfl) ?_
  refine q_RT_rsT (g2 := (71, [(0, .ref 89), (1, .ref 121)], [], (q_kW (q_sA (q_sA (q_sA (q_sA (q_sA s 26 (va_cpy (s.1 58) (s.1 26) 0 0 3)) 27 (va_cpy (s.1 59) (s.1 27) 0 0 3)) 28 (va_cpy (s.1 60) (s.1 28) 0 0 3)) 29 (va_cpy (s.1 61) (s.1 29) 0 0 3)) 30 (va_cpy (s.1 62) (s.1 30) 0 0 40)) c n))) rfl rfl (q_acb rfl) ?_
  exact q_RT_ret rfl rfl rfl
def dz_W77_64_96 (s : q_S) : Option (q_S) :=
  q_let (dz_W85_65_97 s) fun r3 => (dz_W131_87_119 r3).bind fun r4 => q_let (dz_W166_89_121 r4) fun r5 => some (q_sJ (q_sA r5 31 (va_cpy (r5.1 63) (r5.1 31) 0 0 1024)) 0 4 (r5.2.2 32 4))
set_option maxHeartbeats 4000000 in
theorem dzt_W77_64_96 (s : q_S) (c n : Nat) (x : q_S) (h : dz_W77_64_96 s = some x) : q_Ca q_TB0 4 76 [.ref 64, .ref 96] (q_kW s c n) ((q_oSW c n) x) := by
  refine q_CaP_of (φ := (q_oSW c n)) (Nat.le_of_ble_eq_true rfl) ?_ h
  clear h
  unfold dz_W77_64_96
  refine q_RP_seg (g2 := (8, [(0, .ref 64), (1, .ref 96)], [.ref 97, .ref 65], (q_kW s c n))) 4 (fun _ _ => rfl) ?_
  refine q_RP_call (v := none) (h2 := (q_kW (dz_W85_65_97 s) c n)) rfl rfl ((dzt_W85_65_97 s c n).le (Nat.le_of_ble_eq_true rfl)) ?_
  generalize dz_W85_65_97 s = r3
  refine q_RP_let ?_
  show q_RP _ _ _ (11, [(0, .ref 64), (1, .ref 96)], [], (q_kW r3 c n)) _ _
  refine q_RP_seg (g2 := (19, [(0, .ref 64), (1, .ref 96)], [.ref 119, .ref 87], (q_kW r3 c n))) 4 (fun _ _ => rfl) ?_
  refine q_RP_bd fun r4 er4 => ?_
  refine q_RP_call (v := none) (h2 := (q_kW r4 c n)) rfl rfl ((dzt_W131_87_119 r3 c n r4 er4).le (Nat.le_of_ble_eq_true rfl)) ?_
  show q_RP _ _ _ (22, [(0, .ref 64), (1, .ref 96)], [], (q_kW r4 c n)) _ _
  refine q_RP_seg (g2 := (30, [(0, .ref 64), (1, .ref 96)], [.ref 121, .ref 89], (q_kW r4 c n))) 4 (fun _ _ => rfl) ?_
  refine q_RP_call (v := none) (h2 := (q_kW (dz_W166_89_121 r4) c n)) rfl rfl ((dzt_W166_89_121 r4 c n).le (Nat.le_of_ble_eq_true rfl)) ?_
  generalize dz_W166_89_121 r4 = r5
  refine q_RP_let ?_
  show q_RP _ _ _ (33, [(0, .ref 64), (1, .ref 96)], [], (q_kW r5 c n)) _ _
  refine q_RP_seg (g2 := (46, [(0, .ref 64), (1, .ref 96)], [.int 1024, .int 0, .ref 95, .int 0, .ref 127], (q_kW r5 c n))) 7 (fun _ _ => rfl) ?_
  refine q_RP_rsT (g2 := (49, [(0, .ref 64), (1, .ref 96)], [], (q_kW (q_sA r5 31 (va_cpy (r5.1 63) (r5.1 31) 0 0 1024)) c n))) rfl rfl (q_acb rfl) ?_
  refine q_RP_seg (g2 := (54, [(0, .ref 64), (1, .ref 96)], [.long (r5.2.2 32 4), .ref 64], (q_kW (q_sA r5 31 (va_cpy (r5.1 63) (r5.1 31) 0 0 1024)) c n))) 3 (fun _ _ => rfl) ?_
  refine q_RP_seg (g2 := (57, [(0, .ref 64), (1, .ref 96)], [], (q_kW (q_sJ (q_sA r5 31 (va_cpy (r5.1 63) (r5.1 31) 0 0 1024)) 0 4 (r5.2.2 32 4)) c n))) 1 (fun _ _ => rfl) ?_
  exact q_RP_ret rfl rfl rfl
def dz_W91_65 (s : q_S) (a1 : Int32) (a2 : Int32) : Int32 :=
  cond (decide (a1 = 9)) (((((s.2.2 1 8) - (s.2.2 1 8) / 960 * 960).toInt32) / 24)) (cond (decide (a1 = 12)) ((((s.1 7) 0) &&& 255)) (cond (decide (a1 = 13)) ((((s.1 7) 0) >>> ((8 &&& 31) : Int32))) (cond (decide (a1 = 14)) ((((s.1 7) 1) &&& 255)) (cond (decide (a1 = 15)) ((((s.1 7) 1) >>> ((8 &&& 31) : Int32))) (cond (decide (a1 = 31)) ((((s.1 12) ((a2 &&& 15).toNatClampNeg)) + (16 * (s.2.1 10 2)))) (cond (decide (a1 = 44)) (cond (decide (s.2.1 8 2 < s.2.1 8 1)) (((a2 + (2 * (s.2.1 8 4))) + 4)) (((a2 + (2 * (s.2.1 8 4))) + 0))) (a2)))))))
set_option maxHeartbeats 4000000 in
theorem dzt_W91_65 (s : q_S) (c n : Nat) (a1 : Int32) (a2 : Int32) : q_Ca q_TB0 1 90 [.ref 65, .int a1, .int a2] (q_kW s c n) ((q_oP (q_kW s c n)) (dz_W91_65 s a1 a2)) := by
  refine q_CaT_of (φ := (q_oP (q_kW s c n))) (Nat.le_of_ble_eq_true rfl) ?_
  unfold dz_W91_65
  refine q_RT_seg (g2 := (1, [(0, .ref 65), (1, .int a1), (2, .int a2)], [.int a1], (q_kW s c n))) 1 (fun _ _ => rfl) ?_
  cases h1 : decide (a1 = 9) with
  | true =>
    refine q_RT_cT ?_
    refine q_RT_st1 (g2 := (68, [(0, .ref 65), (1, .int a1), (2, .int a2)], [], (q_kW s c n))) rfl (by rw [of_decide_eq_true h1]; rfl) ?_
    refine q_RT_seg (g2 := (72, [(0, .ref 65), (1, .int a1), (2, .int a2)], [.long (s.2.2 1 8)], (q_kW s c n))) 2 (fun _ _ => rfl) ?_
    refine q_RT_seg (g2 := (80, [(0, .ref 65), (1, .int a1), (2, .int a2)], [.int ((((s.2.2 1 8) - (s.2.2 1 8) / 960 * 960).toInt32) / 24)], (q_kW s c n))) 5 (fun _ _ => rfl) ?_
    exact q_RT_ret rfl rfl rfl
  | false =>
    refine q_RT_cF ?_
    cases h2 : decide (a1 = 12) with
    | true =>
      refine q_RT_cT ?_
      refine q_RT_st1 (g2 := (81, [(0, .ref 65), (1, .int a1), (2, .int a2)], [], (q_kW s c n))) rfl (by rw [of_decide_eq_true h2]; rfl) ?_
      refine q_RT_seg (g2 := (87, [(0, .ref 65), (1, .int a1), (2, .int a2)], [.int ((s.1 7) 0)], (q_kW s c n))) 4 (fun _ _ => rfl) ?_
      refine q_RT_seg (g2 := (91, [(0, .ref 65), (1, .int a1), (2, .int a2)], [.int (((s.1 7) 0) &&& 255)], (q_kW s c n))) 2 (fun _ _ => rfl) ?_
      exact q_RT_ret rfl rfl rfl
    | false =>
      refine q_RT_cF ?_
      cases h3 : decide (a1 = 13) with
      | true =>
        refine q_RT_cT ?_
        refine q_RT_st1 (g2 := (92, [(0, .ref 65), (1, .int a1), (2, .int a2)], [], (q_kW s c n))) rfl (by rw [of_decide_eq_true h3]; rfl) ?_
        refine q_RT_seg (g2 := (98, [(0, .ref 65), (1, .int a1), (2, .int a2)], [.int ((s.1 7) 0)], (q_kW s c n))) 4 (fun _ _ => rfl) ?_
        refine q_RT_seg (g2 := (101, [(0, .ref 65), (1, .int a1), (2, .int a2)], [.int (((s.1 7) 0) >>> ((8 &&& 31) : Int32))], (q_kW s c n))) 2 (fun _ _ => rfl) ?_
        exact q_RT_ret rfl rfl rfl
      | false =>
        refine q_RT_cF ?_
        cases h4 : decide (a1 = 14) with
        | true =>
          refine q_RT_cT ?_
          refine q_RT_st1 (g2 := (102, [(0, .ref 65), (1, .int a1), (2, .int a2)], [], (q_kW s c n))) rfl (by rw [of_decide_eq_true h4]; rfl) ?_
          refine q_RT_seg (g2 := (108, [(0, .ref 65), (1, .int a1), (2, .int a2)], [.int ((s.1 7) 1)], (q_kW s c n))) 4 (fun _ _ => rfl) ?_
          refine q_RT_seg (g2 := (112, [(0, .ref 65), (1, .int a1), (2, .int a2)], [.int (((s.1 7) 1) &&& 255)], (q_kW s c n))) 2 (fun _ _ => rfl) ?_
          exact q_RT_ret rfl rfl rfl
        | false =>
          refine q_RT_cF ?_
          cases h5 : decide (a1 = 15) with
          | true =>
            refine q_RT_cT ?_
            refine q_RT_st1 (g2 := (113, [(0, .ref 65), (1, .int a1), (2, .int a2)], [], (q_kW s c n))) rfl (by rw [of_decide_eq_true h5]; rfl) ?_
            refine q_RT_seg (g2 := (119, [(0, .ref 65), (1, .int a1), (2, .int a2)], [.int ((s.1 7) 1)], (q_kW s c n))) 4 (fun _ _ => rfl) ?_
            refine q_RT_seg (g2 := (122, [(0, .ref 65), (1, .int a1), (2, .int a2)], [.int (((s.1 7) 1) >>> ((8 &&& 31) : Int32))], (q_kW s c n))) 2 (fun _ _ => rfl) ?_
            exact q_RT_ret rfl rfl rfl
          | false =>
            refine q_RT_cF ?_
            cases h6 : decide (a1 = 31) with
            | true =>
              refine q_RT_cT ?_
              refine q_RT_st1 (g2 := (123, [(0, .ref 65), (1, .int a1), (2, .int a2)], [], (q_kW s c n))) rfl (by rw [of_decide_eq_true h6]; rfl) ?_
              refine q_RT_seg (g2 := (134, [(0, .ref 65), (1, .int a1), (2, .int a2)], [.int (a2 &&& 15), .ref 76], (q_kW s c n))) 6 (fun _ _ => rfl) ?_
              refine q_RT_rsT (g2 := (135, [(0, .ref 65), (1, .int a1), (2, .int a2)], [.int ((s.1 12) ((a2 &&& 15).toNatClampNeg))], (q_kW s c n))) rfl rfl (q_in_bd (x := a2 &&& 15) (n := 16) (U := 15) (L := 0) (q_and_lo a2 15) (q_and_hi a2 15 15)) ?_
              refine q_RT_seg (g2 := (144, [(0, .ref 65), (1, .int a1), (2, .int a2)], [.int (s.2.1 10 2), .int 16, .int ((s.1 12) ((a2 &&& 15).toNatClampNeg))], (q_kW s c n))) 4 (fun _ _ => rfl) ?_
              refine q_RT_seg (g2 := (146, [(0, .ref 65), (1, .int a1), (2, .int a2)], [.int (((s.1 12) ((a2 &&& 15).toNatClampNeg)) + (16 * (s.2.1 10 2)))], (q_kW s c n))) 2 (fun _ _ => rfl) ?_
              exact q_RT_ret rfl rfl rfl
            | false =>
              refine q_RT_cF ?_
              cases h7 : decide (a1 = 44) with
              | true =>
                refine q_RT_cT ?_
                refine q_RT_st1 (g2 := (147, [(0, .ref 65), (1, .int a1), (2, .int a2)], [], (q_kW s c n))) rfl (by rw [of_decide_eq_true h7]; rfl) ?_
                refine q_RT_seg (g2 := (156, [(0, .ref 65), (1, .int a1), (2, .int a2)], [.int (s.2.1 8 4), .int 2, .int a2], (q_kW s c n))) 5 (fun _ _ => rfl) ?_
                refine q_RT_seg (g2 := (165, [(0, .ref 65), (1, .int a1), (2, .int a2)], [.int (s.2.1 8 2), .int (a2 + (2 * (s.2.1 8 4)))], (q_kW s c n))) 5 (fun _ _ => rfl) ?_
                refine q_RT_seg (g2 := (172, [(0, .ref 65), (1, .int a1), (2, .int a2)], [.int (s.2.1 8 1), .int (s.2.1 8 2), .int (a2 + (2 * (s.2.1 8 4)))], (q_kW s c n))) 3 (fun _ _ => rfl) ?_
                cases h8 : decide (s.2.1 8 2 < s.2.1 8 1) with
                | true =>
                  refine q_RT_cT ?_
                  refine q_RT_rsF (g2 := (175, [(0, .ref 65), (1, .int a1), (2, .int a2)], [.int (a2 + (2 * (s.2.1 8 4)))], (q_kW s c n))) rfl rfl (q_d_geT h8) ?_
                  refine q_RT_seg (g2 := (181, [(0, .ref 65), (1, .int a1), (2, .int a2)], [.int ((a2 + (2 * (s.2.1 8 4))) + 4)], (q_kW s c n))) 3 (fun _ _ => rfl) ?_
                  exact q_RT_ret rfl rfl rfl
                | false =>
                  refine q_RT_cF ?_
                  refine q_RT_rsT (g2 := (179, [(0, .ref 65), (1, .int a1), (2, .int a2)], [.int (a2 + (2 * (s.2.1 8 4)))], (q_kW s c n))) rfl rfl (q_d_geF h8) ?_
                  refine q_RT_seg (g2 := (181, [(0, .ref 65), (1, .int a1), (2, .int a2)], [.int ((a2 + (2 * (s.2.1 8 4))) + 0)], (q_kW s c n))) 2 (fun _ _ => rfl) ?_
                  exact q_RT_ret rfl rfl rfl
              | false =>
                refine q_RT_cF ?_
                refine q_RT_st1 (g2 := (182, [(0, .ref 65), (1, .int a1), (2, .int a2)], [], (q_kW s c n))) rfl (by unfold q_lsw; dsimp only; rw [Op.lookupswitch.offset_cons, if_neg (q_neJ h1 (n := 9)), Op.lookupswitch.offset_cons, if_neg (q_neJ h2 (n := 12)), Op.lookupswitch.offset_cons, if_neg (q_neJ h3 (n := 13)), Op.lookupswitch.offset_cons, if_neg (q_neJ h4 (n := 14)), Op.lookupswitch.offset_cons, if_neg (q_neJ h5 (n := 15)), Op.lookupswitch.offset_cons, if_neg (q_neJ h6 (n := 31)), Op.lookupswitch.offset_cons, if_neg (q_neJ h7 (n := 44))]; rfl) ?_
                refine q_RT_seg (g2 := (183, [(0, .ref 65), (1, .int a1), (2, .int a2)], [.int a2], (q_kW s c n))) 1 (fun _ _ => rfl) ?_
                exact q_RT_ret rfl rfl rfl
def dz_W90_65_73 (s : q_S) (v1 : Int32) (v3 : Int32) : Option (Int32) :=
  cond (decide (v3 &&& 2 = 2)) (cond (decide (v1 < 2048)) (some ((s.1 3) ((v1 &&& 4095).toNatClampNeg))) (cond (decide (v1 < 2560)) (cond (q_in (((512 * ((v3 >>> ((2 &&& 31) : Int32)) &&& 3)) + v1) - 2048) 2048) (some ((s.1 6) ((((512 * ((v3 >>> ((2 &&& 31) : Int32)) &&& 3)) + v1) - 2048).toNatClampNeg))) none) (some ((s.1 3) ((v1 &&& 4095).toNatClampNeg))))) (some ((s.1 3) ((v1 &&& 4095).toNatClampNeg)))
set_option maxHeartbeats 4000000 in
theorem dzt_W90_65_73 (c n : Nat) (s : q_S) (v1 : Int32) (v3 : Int32) : q_RP q_TB0 1 89 (73, [(0, .ref 65), (1, .int v1), (3, .int v3)], [], (q_kW s c n)) (q_oP (q_kW s c n)) (dz_W90_65_73 s v1 v3) := by
  unfold dz_W90_65_73
  refine q_RP_seg (g2 := (77, [(0, .ref 65), (1, .int v1), (3, .int v3)], [.int 2, .int (v3 &&& 2)], (q_kW s c n))) 4 (fun _ _ => rfl) ?_
  cases h10 : decide (v3 &&& 2 = 2) with
  | true =>
    refine q_RP_cT ?_
    refine q_RP_rsF (g2 := (80, [(0, .ref 65), (1, .int v1), (3, .int v3)], [], (q_kW s c n))) rfl rfl (q_d_neT h10) ?_
    refine q_RP_seg (g2 := (84, [(0, .ref 65), (1, .int v1), (3, .int v3)], [.int 2048, .int v1], (q_kW s c n))) 2 (fun _ _ => rfl) ?_
    cases h11 : decide (v1 < 2048) with
    | true =>
      refine q_RP_cT ?_
      refine q_RP_rsT (g2 := (115, [(0, .ref 65), (1, .int v1), (3, .int v3)], [], (q_kW s c n))) rfl rfl h11 ?_
      refine q_RP_seg (g2 := (127, [(0, .ref 65), (1, .int v1), (3, .int v3)], [.int (v1 &&& 4095), .ref 67], (q_kW s c n))) 6 (fun _ _ => rfl) ?_
      refine q_RP_rsT (g2 := (128, [(0, .ref 65), (1, .int v1), (3, .int v3)], [.int ((s.1 3) ((v1 &&& 4095).toNatClampNeg))], (q_kW s c n))) rfl rfl (q_in_bd (x := v1 &&& 4095) (n := 4096) (U := 4095) (L := 0) (q_and_lo v1 4095) (q_and_hi v1 4095 4095)) ?_
      exact q_RP_ret rfl rfl rfl
    | false =>
      refine q_RP_cF ?_
      refine q_RP_rsF (g2 := (87, [(0, .ref 65), (1, .int v1), (3, .int v3)], [], (q_kW s c n))) rfl rfl h11 ?_
      refine q_RP_seg (g2 := (91, [(0, .ref 65), (1, .int v1), (3, .int v3)], [.int 2560, .int v1], (q_kW s c n))) 2 (fun _ _ => rfl) ?_
      cases h12 : decide (v1 < 2560) with
      | true =>
        refine q_RP_cT ?_
        refine q_RP_rsF (g2 := (94, [(0, .ref 65), (1, .int v1), (3, .int v3)], [], (q_kW s c n))) rfl rfl (q_d_geT h12) ?_
        refine q_RP_seg (g2 := (113, [(0, .ref 65), (1, .int v1), (3, .int v3)], [.int (((512 * ((v3 >>> ((2 &&& 31) : Int32)) &&& 3)) + v1) - 2048), .ref 70], (q_kW s c n))) 13 (fun _ _ => rfl) ?_
        refine q_RP_as fun i13 => ?_
        refine q_RP_rsT (g2 := (114, [(0, .ref 65), (1, .int v1), (3, .int v3)], [.int ((s.1 6) ((((512 * ((v3 >>> ((2 &&& 31) : Int32)) &&& 3)) + v1) - 2048).toNatClampNeg))], (q_kW s c n))) rfl rfl i13 ?_
        exact q_RP_ret rfl rfl rfl
      | false =>
        refine q_RP_cF ?_
        refine q_RP_rsT (g2 := (115, [(0, .ref 65), (1, .int v1), (3, .int v3)], [], (q_kW s c n))) rfl rfl (q_d_geF h12) ?_
        refine q_RP_seg (g2 := (127, [(0, .ref 65), (1, .int v1), (3, .int v3)], [.int (v1 &&& 4095), .ref 67], (q_kW s c n))) 6 (fun _ _ => rfl) ?_
        refine q_RP_rsT (g2 := (128, [(0, .ref 65), (1, .int v1), (3, .int v3)], [.int ((s.1 3) ((v1 &&& 4095).toNatClampNeg))], (q_kW s c n))) rfl rfl (q_in_bd (x := v1 &&& 4095) (n := 4096) (U := 4095) (L := 0) (q_and_lo v1 4095) (q_and_hi v1 4095 4095)) ?_
        exact q_RP_ret rfl rfl rfl
  | false =>
    refine q_RP_cF ?_
    refine q_RP_rsT (g2 := (115, [(0, .ref 65), (1, .int v1), (3, .int v3)], [], (q_kW s c n))) rfl rfl (q_d_neF h10) ?_
    refine q_RP_seg (g2 := (127, [(0, .ref 65), (1, .int v1), (3, .int v3)], [.int (v1 &&& 4095), .ref 67], (q_kW s c n))) 6 (fun _ _ => rfl) ?_
    refine q_RP_rsT (g2 := (128, [(0, .ref 65), (1, .int v1), (3, .int v3)], [.int ((s.1 3) ((v1 &&& 4095).toNatClampNeg))], (q_kW s c n))) rfl rfl (q_in_bd (x := v1 &&& 4095) (n := 4096) (U := 4095) (L := 0) (q_and_lo v1 4095) (q_and_hi v1 4095 4095)) ?_
    exact q_RP_ret rfl rfl rfl
def dz_W90_65_31 (s : q_S) (v1 : Int32) : Option (Int32) :=
  cond (decide (((s.1 4) 0) &&& 1 = 1)) (cond (decide (v1 < 3072)) (dz_W90_65_73 s v1 ((s.1 4) 0)) (cond (decide (v1 < 3584)) (some ((s.1 5) ((v1 - 3072).toNatClampNeg))) (dz_W90_65_73 s v1 ((s.1 4) 0)))) (dz_W90_65_73 s v1 ((s.1 4) 0))
set_option maxHeartbeats 4000000 in
theorem dzt_W90_65_31 (c n : Nat) (s : q_S) (v1 : Int32) : q_RP q_TB0 1 89 (31, [(0, .ref 65), (1, .int v1)], [], (q_kW s c n)) (q_oP (q_kW s c n)) (dz_W90_65_31 s v1) := by
  unfold dz_W90_65_31
  refine q_RP_seg (g2 := (40, [(0, .ref 65), (1, .int v1)], [.int ((s.1 4) 0)], (q_kW s c n))) 5 (fun _ _ => rfl) ?_
  refine q_RP_seg (g2 := (45, [(3, .int ((s.1 4) 0)), (0, .ref 65), (1, .int v1)], [.int 1, .int (((s.1 4) 0) &&& 1)], (q_kW s c n))) 5 (fun _ _ => rfl) ?_
  cases h8 : decide (((s.1 4) 0) &&& 1 = 1) with
  | true =>
    refine q_RP_cT ?_
    refine q_RP_rsF (g2 := (48, [(3, .int ((s.1 4) 0)), (0, .ref 65), (1, .int v1)], [], (q_kW s c n))) rfl rfl (q_d_neT h8) ?_
    refine q_RP_seg (g2 := (52, [(3, .int ((s.1 4) 0)), (0, .ref 65), (1, .int v1)], [.int 3072, .int v1], (q_kW s c n))) 2 (fun _ _ => rfl) ?_
    cases h9 : decide (v1 < 3072) with
    | true =>
      refine q_RP_cT ?_
      refine q_RP_rsT (g2 := (73, [(3, .int ((s.1 4) 0)), (0, .ref 65), (1, .int v1)], [], (q_kW s c n))) rfl rfl h9 ?_
      exact q_RP_xt (q_xt_mk (q_mn1 1 rfl (q_mn1 2 rfl (q_mn1 0 rfl q_mn0))) rfl) (dzt_W90_65_73 c n s v1 ((s.1 4) 0))
    | false =>
      refine q_RP_cF ?_
      refine q_RP_rsF (g2 := (55, [(3, .int ((s.1 4) 0)), (0, .ref 65), (1, .int v1)], [], (q_kW s c n))) rfl rfl h9 ?_
      refine q_RP_seg (g2 := (59, [(3, .int ((s.1 4) 0)), (0, .ref 65), (1, .int v1)], [.int 3584, .int v1], (q_kW s c n))) 2 (fun _ _ => rfl) ?_
      cases h14 : decide (v1 < 3584) with
      | true =>
        refine q_RP_cT ?_
        refine q_RP_rsF (g2 := (62, [(3, .int ((s.1 4) 0)), (0, .ref 65), (1, .int v1)], [], (q_kW s c n))) rfl rfl (q_d_geT h14) ?_
        refine q_RP_seg (g2 := (71, [(3, .int ((s.1 4) 0)), (0, .ref 65), (1, .int v1)], [.int (v1 - 3072), .ref 69], (q_kW s c n))) 5 (fun _ _ => rfl) ?_
        refine q_RP_rsT (g2 := (72, [(3, .int ((s.1 4) 0)), (0, .ref 65), (1, .int v1)], [.int ((s.1 5) ((v1 - 3072).toNatClampNeg))], (q_kW s c n))) rfl rfl (q_in_bd (x := v1 - 3072) (n := 512) (U := 511) (L := 0) (q_sub_lo9 0 (q_lo1 h9) (q_hi1 h14)) (q_sub_hi9 511 (q_lo1 h9) (q_hi1 h14))) ?_
        exact q_RP_ret rfl rfl rfl
      | false =>
        refine q_RP_cF ?_
        refine q_RP_rsT (g2 := (73, [(3, .int ((s.1 4) 0)), (0, .ref 65), (1, .int v1)], [], (q_kW s c n))) rfl rfl (q_d_geF h14) ?_
        exact q_RP_xt (q_xt_mk (q_mn1 1 rfl (q_mn1 2 rfl (q_mn1 0 rfl q_mn0))) rfl) (dzt_W90_65_73 c n s v1 ((s.1 4) 0))
  | false =>
    refine q_RP_cF ?_
    refine q_RP_rsT (g2 := (73, [(3, .int ((s.1 4) 0)), (0, .ref 65), (1, .int v1)], [], (q_kW s c n))) rfl rfl (q_d_neF h8) ?_
    exact q_RP_xt (q_xt_mk (q_mn1 1 rfl (q_mn1 2 rfl (q_mn1 0 rfl q_mn0))) rfl) (dzt_W90_65_73 c n s v1 ((s.1 4) 0))
def dz_W90_65 (s : q_S) (a1 : Int32) : Option (Int32) :=
  cond (decide (a1 - 3840 < 0)) (dz_W90_65_31 s a1) (cond (decide (a1 - 3840 < 48)) (q_let (dz_W91_65 s (a1 - 3840) ((s.1 4) ((a1 - 3840).toNatClampNeg))) fun r1 => some r1) (dz_W90_65_31 s a1))
set_option maxHeartbeats 4000000 in
theorem dzt_W90_65 (s : q_S) (c n : Nat) (a1 : Int32) (x : Int32) (h : dz_W90_65 s a1 = some x) : q_Ca q_TB0 2 89 [.ref 65, .int a1] (q_kW s c n) ((q_oP (q_kW s c n)) x) := by
  refine q_CaP_of (φ := (q_oP (q_kW s c n))) (Nat.le_of_ble_eq_true rfl) ?_ h
  clear h
  unfold dz_W90_65
  refine q_RP_seg (g2 := (7, [(2, .int (a1 - 3840)), (0, .ref 65), (1, .int a1)], [.int (a1 - 3840)], (q_kW s c n))) 5 (fun _ _ => rfl) ?_
  cases h7 : decide (a1 - 3840 < 0) with
  | true =>
    refine q_RP_cT ?_
    refine q_RP_rsT (g2 := (31, [(2, .int (a1 - 3840)), (0, .ref 65), (1, .int a1)], [], (q_kW s c n))) rfl rfl h7 ?_
    exact q_RP_xt (q_xt_mk (q_mn1 1 rfl (q_mn1 2 rfl q_mn0)) rfl) (dzt_W90_65_31 c n s a1)
  | false =>
    refine q_RP_cF ?_
    refine q_RP_rsF (g2 := (10, [(2, .int (a1 - 3840)), (0, .ref 65), (1, .int a1)], [], (q_kW s c n))) rfl rfl h7 ?_
    refine q_RP_seg (g2 := (13, [(2, .int (a1 - 3840)), (0, .ref 65), (1, .int a1)], [.int 48, .int (a1 - 3840)], (q_kW s c n))) 2 (fun _ _ => rfl) ?_
    cases h15 : decide (a1 - 3840 < 48) with
    | true =>
      refine q_RP_cT ?_
      refine q_RP_rsF (g2 := (16, [(2, .int (a1 - 3840)), (0, .ref 65), (1, .int a1)], [], (q_kW s c n))) rfl rfl (q_d_geT h15) ?_
      refine q_RP_seg (g2 := (26, [(2, .int (a1 - 3840)), (0, .ref 65), (1, .int a1)], [.int (a1 - 3840), .ref 68, .int (a1 - 3840), .ref 65], (q_kW s c n))) 6 (fun _ _ => rfl) ?_
      refine q_RP_rsT (g2 := (27, [(2, .int (a1 - 3840)), (0, .ref 65), (1, .int a1)], [.int ((s.1 4) ((a1 - 3840).toNatClampNeg)), .int (a1 - 3840), .ref 65], (q_kW s c n))) rfl rfl (q_in_bd (x := a1 - 3840) (n := 48) (U := 47) (L := 0) (q_lo1 h7) (q_hi1 h15)) ?_
      refine q_RP_call (v := (some (.int (dz_W91_65 s (a1 - 3840) ((s.1 4) ((a1 - 3840).toNatClampNeg)))))) (h2 := (q_kW s c n)) rfl rfl ((dzt_W91_65 s c n (a1 - 3840) ((s.1 4) ((a1 - 3840).toNatClampNeg))).le (Nat.le_of_ble_eq_true rfl)) ?_
      generalize dz_W91_65 s (a1 - 3840) ((s.1 4) ((a1 - 3840).toNatClampNeg)) = r1
      refine q_RP_let ?_
      show q_RP _ _ _ (30, [(2, .int (a1 - 3840)), (0, .ref 65), (1, .int a1)], [.int r1], (q_kW s c n)) _ _
      exact q_RP_ret rfl rfl rfl
    | false =>
      refine q_RP_cF ?_
      refine q_RP_rsT (g2 := (31, [(2, .int (a1 - 3840)), (0, .ref 65), (1, .int a1)], [], (q_kW s c n))) rfl rfl (q_d_geF h15) ?_
      exact q_RP_xt (q_xt_mk (q_mn1 1 rfl (q_mn1 2 rfl q_mn0)) rfl) (dzt_W90_65_31 c n s a1)
def dz_W91_97 (s : q_S) (a1 : Int32) (a2 : Int32) : Int32 :=
  cond (decide (a1 = 9)) (((((s.2.2 33 8) - (s.2.2 33 8) / 960 * 960).toInt32) / 24)) (cond (decide (a1 = 12)) ((((s.1 39) 0) &&& 255)) (cond (decide (a1 = 13)) ((((s.1 39) 0) >>> ((8 &&& 31) : Int32))) (cond (decide (a1 = 14)) ((((s.1 39) 1) &&& 255)) (cond (decide (a1 = 15)) ((((s.1 39) 1) >>> ((8 &&& 31) : Int32))) (cond (decide (a1 = 31)) ((((s.1 44) ((a2 &&& 15).toNatClampNeg)) + (16 * (s.2.1 42 2)))) (cond (decide (a1 = 44)) (cond (decide (s.2.1 40 2 < s.2.1 40 1)) (((a2 + (2 * (s.2.1 40 4))) + 4)) (((a2 + (2 * (s.2.1 40 4))) + 0))) (a2)))))))
set_option maxHeartbeats 4000000 in
theorem dzt_W91_97 (s : q_S) (c n : Nat) (a1 : Int32) (a2 : Int32) : q_Ca q_TB0 1 90 [.ref 97, .int a1, .int a2] (q_kW s c n) ((q_oP (q_kW s c n)) (dz_W91_97 s a1 a2)) := by
  refine q_CaT_of (φ := (q_oP (q_kW s c n))) (Nat.le_of_ble_eq_true rfl) ?_
  unfold dz_W91_97
  refine q_RT_seg (g2 := (1, [(0, .ref 97), (1, .int a1), (2, .int a2)], [.int a1], (q_kW s c n))) 1 (fun _ _ => rfl) ?_
  cases h1 : decide (a1 = 9) with
  | true =>
    refine q_RT_cT ?_
    refine q_RT_st1 (g2 := (68, [(0, .ref 97), (1, .int a1), (2, .int a2)], [], (q_kW s c n))) rfl (by rw [of_decide_eq_true h1]; rfl) ?_
    refine q_RT_seg (g2 := (72, [(0, .ref 97), (1, .int a1), (2, .int a2)], [.long (s.2.2 33 8)], (q_kW s c n))) 2 (fun _ _ => rfl) ?_
    refine q_RT_seg (g2 := (80, [(0, .ref 97), (1, .int a1), (2, .int a2)], [.int ((((s.2.2 33 8) - (s.2.2 33 8) / 960 * 960).toInt32) / 24)], (q_kW s c n))) 5 (fun _ _ => rfl) ?_
    exact q_RT_ret rfl rfl rfl
  | false =>
    refine q_RT_cF ?_
    cases h2 : decide (a1 = 12) with
    | true =>
      refine q_RT_cT ?_
      refine q_RT_st1 (g2 := (81, [(0, .ref 97), (1, .int a1), (2, .int a2)], [], (q_kW s c n))) rfl (by rw [of_decide_eq_true h2]; rfl) ?_
      refine q_RT_seg (g2 := (87, [(0, .ref 97), (1, .int a1), (2, .int a2)], [.int ((s.1 39) 0)], (q_kW s c n))) 4 (fun _ _ => rfl) ?_
      refine q_RT_seg (g2 := (91, [(0, .ref 97), (1, .int a1), (2, .int a2)], [.int (((s.1 39) 0) &&& 255)], (q_kW s c n))) 2 (fun _ _ => rfl) ?_
      exact q_RT_ret rfl rfl rfl
    | false =>
      refine q_RT_cF ?_
      cases h3 : decide (a1 = 13) with
      | true =>
        refine q_RT_cT ?_
        refine q_RT_st1 (g2 := (92, [(0, .ref 97), (1, .int a1), (2, .int a2)], [], (q_kW s c n))) rfl (by rw [of_decide_eq_true h3]; rfl) ?_
        refine q_RT_seg (g2 := (98, [(0, .ref 97), (1, .int a1), (2, .int a2)], [.int ((s.1 39) 0)], (q_kW s c n))) 4 (fun _ _ => rfl) ?_
        refine q_RT_seg (g2 := (101, [(0, .ref 97), (1, .int a1), (2, .int a2)], [.int (((s.1 39) 0) >>> ((8 &&& 31) : Int32))], (q_kW s c n))) 2 (fun _ _ => rfl) ?_
        exact q_RT_ret rfl rfl rfl
      | false =>
        refine q_RT_cF ?_
        cases h4 : decide (a1 = 14) with
        | true =>
          refine q_RT_cT ?_
          refine q_RT_st1 (g2 := (102, [(0, .ref 97), (1, .int a1), (2, .int a2)], [], (q_kW s c n))) rfl (by rw [of_decide_eq_true h4]; rfl) ?_
          refine q_RT_seg (g2 := (108, [(0, .ref 97), (1, .int a1), (2, .int a2)], [.int ((s.1 39) 1)], (q_kW s c n))) 4 (fun _ _ => rfl) ?_
          refine q_RT_seg (g2 := (112, [(0, .ref 97), (1, .int a1), (2, .int a2)], [.int (((s.1 39) 1) &&& 255)], (q_kW s c n))) 2 (fun _ _ => rfl) ?_
          exact q_RT_ret rfl rfl rfl
        | false =>
          refine q_RT_cF ?_
          cases h5 : decide (a1 = 15) with
          | true =>
            refine q_RT_cT ?_
            refine q_RT_st1 (g2 := (113, [(0, .ref 97), (1, .int a1), (2, .int a2)], [], (q_kW s c n))) rfl (by rw [of_decide_eq_true h5]; rfl) ?_
            refine q_RT_seg (g2 := (119, [(0, .ref 97), (1, .int a1), (2, .int a2)], [.int ((s.1 39) 1)], (q_kW s c n))) 4 (fun _ _ => rfl) ?_
            refine q_RT_seg (g2 := (122, [(0, .ref 97), (1, .int a1), (2, .int a2)], [.int (((s.1 39) 1) >>> ((8 &&& 31) : Int32))], (q_kW s c n))) 2 (fun _ _ => rfl) ?_
            exact q_RT_ret rfl rfl rfl
          | false =>
            refine q_RT_cF ?_
            cases h6 : decide (a1 = 31) with
            | true =>
              refine q_RT_cT ?_
              refine q_RT_st1 (g2 := (123, [(0, .ref 97), (1, .int a1), (2, .int a2)], [], (q_kW s c n))) rfl (by rw [of_decide_eq_true h6]; rfl) ?_
              refine q_RT_seg (g2 := (134, [(0, .ref 97), (1, .int a1), (2, .int a2)], [.int (a2 &&& 15), .ref 108], (q_kW s c n))) 6 (fun _ _ => rfl) ?_
              refine q_RT_rsT (g2 := (135, [(0, .ref 97), (1, .int a1), (2, .int a2)], [.int ((s.1 44) ((a2 &&& 15).toNatClampNeg))], (q_kW s c n))) rfl rfl (q_in_bd (x := a2 &&& 15) (n := 16) (U := 15) (L := 0) (q_and_lo a2 15) (q_and_hi a2 15 15)) ?_
              refine q_RT_seg (g2 := (144, [(0, .ref 97), (1, .int a1), (2, .int a2)], [.int (s.2.1 42 2), .int 16, .int ((s.1 44) ((a2 &&& 15).toNatClampNeg))], (q_kW s c n))) 4 (fun _ _ => rfl) ?_
              refine q_RT_seg (g2 := (146, [(0, .ref 97), (1, .int a1), (2, .int a2)], [.int (((s.1 44) ((a2 &&& 15).toNatClampNeg)) + (16 * (s.2.1 42 2)))], (q_kW s c n))) 2 (fun _ _ => rfl) ?_
              exact q_RT_ret rfl rfl rfl
            | false =>
              refine q_RT_cF ?_
              cases h7 : decide (a1 = 44) with
              | true =>
                refine q_RT_cT ?_
                refine q_RT_st1 (g2 := (147, [(0, .ref 97), (1, .int a1), (2, .int a2)], [], (q_kW s c n))) rfl (by rw [of_decide_eq_true h7]; rfl) ?_
                refine q_RT_seg (g2 := (156, [(0, .ref 97), (1, .int a1), (2, .int a2)], [.int (s.2.1 40 4), .int 2, .int a2], (q_kW s c n))) 5 (fun _ _ => rfl) ?_
                refine q_RT_seg (g2 := (165, [(0, .ref 97), (1, .int a1), (2, .int a2)], [.int (s.2.1 40 2), .int (a2 + (2 * (s.2.1 40 4)))], (q_kW s c n))) 5 (fun _ _ => rfl) ?_
                refine q_RT_seg (g2 := (172, [(0, .ref 97), (1, .int a1), (2, .int a2)], [.int (s.2.1 40 1), .int (s.2.1 40 2), .int (a2 + (2 * (s.2.1 40 4)))], (q_kW s c n))) 3 (fun _ _ => rfl) ?_
                cases h8 : decide (s.2.1 40 2 < s.2.1 40 1) with
                | true =>
                  refine q_RT_cT ?_
                  refine q_RT_rsF (g2 := (175, [(0, .ref 97), (1, .int a1), (2, .int a2)], [.int (a2 + (2 * (s.2.1 40 4)))], (q_kW s c n))) rfl rfl (q_d_geT h8) ?_
                  refine q_RT_seg (g2 := (181, [(0, .ref 97), (1, .int a1), (2, .int a2)], [.int ((a2 + (2 * (s.2.1 40 4))) + 4)], (q_kW s c n))) 3 (fun _ _ => rfl) ?_
                  exact q_RT_ret rfl rfl rfl
                | false =>
                  refine q_RT_cF ?_
                  refine q_RT_rsT (g2 := (179, [(0, .ref 97), (1, .int a1), (2, .int a2)], [.int (a2 + (2 * (s.2.1 40 4)))], (q_kW s c n))) rfl rfl (q_d_geF h8) ?_
                  refine q_RT_seg (g2 := (181, [(0, .ref 97), (1, .int a1), (2, .int a2)], [.int ((a2 + (2 * (s.2.1 40 4))) + 0)], (q_kW s c n))) 2 (fun _ _ => rfl) ?_
                  exact q_RT_ret rfl rfl rfl
              | false =>
                refine q_RT_cF ?_
                refine q_RT_st1 (g2 := (182, [(0, .ref 97), (1, .int a1), (2, .int a2)], [], (q_kW s c n))) rfl (by unfold q_lsw; dsimp only; rw [Op.lookupswitch.offset_cons, if_neg (q_neJ h1 (n := 9)), Op.lookupswitch.offset_cons, if_neg (q_neJ h2 (n := 12)), Op.lookupswitch.offset_cons, if_neg (q_neJ h3 (n := 13)), Op.lookupswitch.offset_cons, if_neg (q_neJ h4 (n := 14)), Op.lookupswitch.offset_cons, if_neg (q_neJ h5 (n := 15)), Op.lookupswitch.offset_cons, if_neg (q_neJ h6 (n := 31)), Op.lookupswitch.offset_cons, if_neg (q_neJ h7 (n := 44))]; rfl) ?_
                refine q_RT_seg (g2 := (183, [(0, .ref 97), (1, .int a1), (2, .int a2)], [.int a2], (q_kW s c n))) 1 (fun _ _ => rfl) ?_
                exact q_RT_ret rfl rfl rfl
def dz_W90_97_73 (s : q_S) (v1 : Int32) (v3 : Int32) : Option (Int32) :=
  cond (decide (v3 &&& 2 = 2)) (cond (decide (v1 < 2048)) (some ((s.1 35) ((v1 &&& 4095).toNatClampNeg))) (cond (decide (v1 < 2560)) (cond (q_in (((512 * ((v3 >>> ((2 &&& 31) : Int32)) &&& 3)) + v1) - 2048) 2048) (some ((s.1 38) ((((512 * ((v3 >>> ((2 &&& 31) : Int32)) &&& 3)) + v1) - 2048).toNatClampNeg))) none) (some ((s.1 35) ((v1 &&& 4095).toNatClampNeg))))) (some ((s.1 35) ((v1 &&& 4095).toNatClampNeg)))
set_option maxHeartbeats 4000000 in
theorem dzt_W90_97_73 (c n : Nat) (s : q_S) (v1 : Int32) (v3 : Int32) : q_RP q_TB0 1 89 (73, [(0, .ref 97), (1, .int v1), (3, .int v3)], [], (q_kW s c n)) (q_oP (q_kW s c n)) (dz_W90_97_73 s v1 v3) := by
  unfold dz_W90_97_73
  refine q_RP_seg (g2 := (77, [(0, .ref 97), (1, .int v1), (3, .int v3)], [.int 2, .int (v3 &&& 2)], (q_kW s c n))) 4 (fun _ _ => rfl) ?_
  cases h10 : decide (v3 &&& 2 = 2) with
  | true =>
    refine q_RP_cT ?_
    refine q_RP_rsF (g2 := (80, [(0, .ref 97), (1, .int v1), (3, .int v3)], [], (q_kW s c n))) rfl rfl (q_d_neT h10) ?_
    refine q_RP_seg (g2 := (84, [(0, .ref 97), (1, .int v1), (3, .int v3)], [.int 2048, .int v1], (q_kW s c n))) 2 (fun _ _ => rfl) ?_
    cases h11 : decide (v1 < 2048) with
    | true =>
      refine q_RP_cT ?_
      refine q_RP_rsT (g2 := (115, [(0, .ref 97), (1, .int v1), (3, .int v3)], [], (q_kW s c n))) rfl rfl h11 ?_
      refine q_RP_seg (g2 := (127, [(0, .ref 97), (1, .int v1), (3, .int v3)], [.int (v1 &&& 4095), .ref 99], (q_kW s c n))) 6 (fun _ _ => rfl) ?_
      refine q_RP_rsT (g2 := (128, [(0, .ref 97), (1, .int v1), (3, .int v3)], [.int ((s.1 35) ((v1 &&& 4095).toNatClampNeg))], (q_kW s c n))) rfl rfl (q_in_bd (x := v1 &&& 4095) (n := 4096) (U := 4095) (L := 0) (q_and_lo v1 4095) (q_and_hi v1 4095 4095)) ?_
      exact q_RP_ret rfl rfl rfl
    | false =>
      refine q_RP_cF ?_
      refine q_RP_rsF (g2 := (87, [(0, .ref 97), (1, .int v1), (3, .int v3)], [], (q_kW s c n))) rfl rfl h11 ?_
      refine q_RP_seg (g2 := (91, [(0, .ref 97), (1, .int v1), (3, .int v3)], [.int 2560, .int v1], (q_kW s c n))) 2 (fun _ _ => rfl) ?_
      cases h12 : decide (v1 < 2560) with
      | true =>
        refine q_RP_cT ?_
        refine q_RP_rsF (g2 := (94, [(0, .ref 97), (1, .int v1), (3, .int v3)], [], (q_kW s c n))) rfl rfl (q_d_geT h12) ?_
        refine q_RP_seg (g2 := (113, [(0, .ref 97), (1, .int v1), (3, .int v3)], [.int (((512 * ((v3 >>> ((2 &&& 31) : Int32)) &&& 3)) + v1) - 2048), .ref 102], (q_kW s c n))) 13 (fun _ _ => rfl) ?_
        refine q_RP_as fun i13 => ?_
        refine q_RP_rsT (g2 := (114, [(0, .ref 97), (1, .int v1), (3, .int v3)], [.int ((s.1 38) ((((512 * ((v3 >>> ((2 &&& 31) : Int32)) &&& 3)) + v1) - 2048).toNatClampNeg))], (q_kW s c n))) rfl rfl i13 ?_
        exact q_RP_ret rfl rfl rfl
      | false =>
        refine q_RP_cF ?_
        refine q_RP_rsT (g2 := (115, [(0, .ref 97), (1, .int v1), (3, .int v3)], [], (q_kW s c n))) rfl rfl (q_d_geF h12) ?_
        refine q_RP_seg (g2 := (127, [(0, .ref 97), (1, .int v1), (3, .int v3)], [.int (v1 &&& 4095), .ref 99], (q_kW s c n))) 6 (fun _ _ => rfl) ?_
        refine q_RP_rsT (g2 := (128, [(0, .ref 97), (1, .int v1), (3, .int v3)], [.int ((s.1 35) ((v1 &&& 4095).toNatClampNeg))], (q_kW s c n))) rfl rfl (q_in_bd (x := v1 &&& 4095) (n := 4096) (U := 4095) (L := 0) (q_and_lo v1 4095) (q_and_hi v1 4095 4095)) ?_
        exact q_RP_ret rfl rfl rfl
  | false =>
    refine q_RP_cF ?_
    refine q_RP_rsT (g2 := (115, [(0, .ref 97), (1, .int v1), (3, .int v3)], [], (q_kW s c n))) rfl rfl (q_d_neF h10) ?_
    refine q_RP_seg (g2 := (127, [(0, .ref 97), (1, .int v1), (3, .int v3)], [.int (v1 &&& 4095), .ref 99], (q_kW s c n))) 6 (fun _ _ => rfl) ?_
    refine q_RP_rsT (g2 := (128, [(0, .ref 97), (1, .int v1), (3, .int v3)], [.int ((s.1 35) ((v1 &&& 4095).toNatClampNeg))], (q_kW s c n))) rfl rfl (q_in_bd (x := v1 &&& 4095) (n := 4096) (U := 4095) (L := 0) (q_and_lo v1 4095) (q_and_hi v1 4095 4095)) ?_
    exact q_RP_ret rfl rfl rfl
def dz_W90_97_31 (s : q_S) (v1 : Int32) : Option (Int32) :=
  cond (decide (((s.1 36) 0) &&& 1 = 1)) (cond (decide (v1 < 3072)) (dz_W90_97_73 s v1 ((s.1 36) 0)) (cond (decide (v1 < 3584)) (some ((s.1 37) ((v1 - 3072).toNatClampNeg))) (dz_W90_97_73 s v1 ((s.1 36) 0)))) (dz_W90_97_73 s v1 ((s.1 36) 0))
set_option maxHeartbeats 4000000 in
theorem dzt_W90_97_31 (c n : Nat) (s : q_S) (v1 : Int32) : q_RP q_TB0 1 89 (31, [(0, .ref 97), (1, .int v1)], [], (q_kW s c n)) (q_oP (q_kW s c n)) (dz_W90_97_31 s v1) := by
  unfold dz_W90_97_31
  refine q_RP_seg (g2 := (40, [(0, .ref 97), (1, .int v1)], [.int ((s.1 36) 0)], (q_kW s c n))) 5 (fun _ _ => rfl) ?_
  refine q_RP_seg (g2 := (45, [(3, .int ((s.1 36) 0)), (0, .ref 97), (1, .int v1)], [.int 1, .int (((s.1 36) 0) &&& 1)], (q_kW s c n))) 5 (fun _ _ => rfl) ?_
  cases h8 : decide (((s.1 36) 0) &&& 1 = 1) with
  | true =>
    refine q_RP_cT ?_
    refine q_RP_rsF (g2 := (48, [(3, .int ((s.1 36) 0)), (0, .ref 97), (1, .int v1)], [], (q_kW s c n))) rfl rfl (q_d_neT h8) ?_
    refine q_RP_seg (g2 := (52, [(3, .int ((s.1 36) 0)), (0, .ref 97), (1, .int v1)], [.int 3072, .int v1], (q_kW s c n))) 2 (fun _ _ => rfl) ?_
    cases h9 : decide (v1 < 3072) with
    | true =>
      refine q_RP_cT ?_
      refine q_RP_rsT (g2 := (73, [(3, .int ((s.1 36) 0)), (0, .ref 97), (1, .int v1)], [], (q_kW s c n))) rfl rfl h9 ?_
      exact q_RP_xt (q_xt_mk (q_mn1 1 rfl (q_mn1 2 rfl (q_mn1 0 rfl q_mn0))) rfl) (dzt_W90_97_73 c n s v1 ((s.1 36) 0))
    | false =>
      refine q_RP_cF ?_
      refine q_RP_rsF (g2 := (55, [(3, .int ((s.1 36) 0)), (0, .ref 97), (1, .int v1)], [], (q_kW s c n))) rfl rfl h9 ?_
      refine q_RP_seg (g2 := (59, [(3, .int ((s.1 36) 0)), (0, .ref 97), (1, .int v1)], [.int 3584, .int v1], (q_kW s c n))) 2 (fun _ _ => rfl) ?_
      cases h14 : decide (v1 < 3584) with
      | true =>
        refine q_RP_cT ?_
        refine q_RP_rsF (g2 := (62, [(3, .int ((s.1 36) 0)), (0, .ref 97), (1, .int v1)], [], (q_kW s c n))) rfl rfl (q_d_geT h14) ?_
        refine q_RP_seg (g2 := (71, [(3, .int ((s.1 36) 0)), (0, .ref 97), (1, .int v1)], [.int (v1 - 3072), .ref 101], (q_kW s c n))) 5 (fun _ _ => rfl) ?_
        refine q_RP_rsT (g2 := (72, [(3, .int ((s.1 36) 0)), (0, .ref 97), (1, .int v1)], [.int ((s.1 37) ((v1 - 3072).toNatClampNeg))], (q_kW s c n))) rfl rfl (q_in_bd (x := v1 - 3072) (n := 512) (U := 511) (L := 0) (q_sub_lo9 0 (q_lo1 h9) (q_hi1 h14)) (q_sub_hi9 511 (q_lo1 h9) (q_hi1 h14))) ?_
        exact q_RP_ret rfl rfl rfl
      | false =>
        refine q_RP_cF ?_
        refine q_RP_rsT (g2 := (73, [(3, .int ((s.1 36) 0)), (0, .ref 97), (1, .int v1)], [], (q_kW s c n))) rfl rfl (q_d_geF h14) ?_
        exact q_RP_xt (q_xt_mk (q_mn1 1 rfl (q_mn1 2 rfl (q_mn1 0 rfl q_mn0))) rfl) (dzt_W90_97_73 c n s v1 ((s.1 36) 0))
  | false =>
    refine q_RP_cF ?_
    refine q_RP_rsT (g2 := (73, [(3, .int ((s.1 36) 0)), (0, .ref 97), (1, .int v1)], [], (q_kW s c n))) rfl rfl (q_d_neF h8) ?_
    exact q_RP_xt (q_xt_mk (q_mn1 1 rfl (q_mn1 2 rfl (q_mn1 0 rfl q_mn0))) rfl) (dzt_W90_97_73 c n s v1 ((s.1 36) 0))
def dz_W90_97 (s : q_S) (a1 : Int32) : Option (Int32) :=
  cond (decide (a1 - 3840 < 0)) (dz_W90_97_31 s a1) (cond (decide (a1 - 3840 < 48)) (q_let (dz_W91_97 s (a1 - 3840) ((s.1 36) ((a1 - 3840).toNatClampNeg))) fun r1 => some r1) (dz_W90_97_31 s a1))
set_option maxHeartbeats 4000000 in
theorem dzt_W90_97 (s : q_S) (c n : Nat) (a1 : Int32) (x : Int32) (h : dz_W90_97 s a1 = some x) : q_Ca q_TB0 2 89 [.ref 97, .int a1] (q_kW s c n) ((q_oP (q_kW s c n)) x) := by
  refine q_CaP_of (φ := (q_oP (q_kW s c n))) (Nat.le_of_ble_eq_true rfl) ?_ h
  clear h
  unfold dz_W90_97
  refine q_RP_seg (g2 := (7, [(2, .int (a1 - 3840)), (0, .ref 97), (1, .int a1)], [.int (a1 - 3840)], (q_kW s c n))) 5 (fun _ _ => rfl) ?_
  cases h7 : decide (a1 - 3840 < 0) with
  | true =>
    refine q_RP_cT ?_
    refine q_RP_rsT (g2 := (31, [(2, .int (a1 - 3840)), (0, .ref 97), (1, .int a1)], [], (q_kW s c n))) rfl rfl h7 ?_
    exact q_RP_xt (q_xt_mk (q_mn1 1 rfl (q_mn1 2 rfl q_mn0)) rfl) (dzt_W90_97_31 c n s a1)
  | false =>
    refine q_RP_cF ?_
    refine q_RP_rsF (g2 := (10, [(2, .int (a1 - 3840)), (0, .ref 97), (1, .int a1)], [], (q_kW s c n))) rfl rfl h7 ?_
    refine q_RP_seg (g2 := (13, [(2, .int (a1 - 3840)), (0, .ref 97), (1, .int a1)], [.int 48, .int (a1 - 3840)], (q_kW s c n))) 2 (fun _ _ => rfl) ?_
    cases h15 : decide (a1 - 3840 < 48) with
    | true =>
      refine q_RP_cT ?_
      refine q_RP_rsF (g2 := (16, [(2, .int (a1 - 3840)), (0, .ref 97), (1, .int a1)], [], (q_kW s c n))) rfl rfl (q_d_geT h15) ?_
      refine q_RP_seg (g2 := (26, [(2, .int (a1 - 3840)), (0, .ref 97), (1, .int a1)], [.int (a1 - 3840), .ref 100, .int (a1 - 3840), .ref 97], (q_kW s c n))) 6 (fun _ _ => rfl) ?_
      refine q_RP_rsT (g2 := (27, [(2, .int (a1 - 3840)), (0, .ref 97), (1, .int a1)], [.int ((s.1 36) ((a1 - 3840).toNatClampNeg)), .int (a1 - 3840), .ref 97], (q_kW s c n))) rfl rfl (q_in_bd (x := a1 - 3840) (n := 48) (U := 47) (L := 0) (q_lo1 h7) (q_hi1 h15)) ?_
      refine q_RP_call (v := (some (.int (dz_W91_97 s (a1 - 3840) ((s.1 36) ((a1 - 3840).toNatClampNeg)))))) (h2 := (q_kW s c n)) rfl rfl ((dzt_W91_97 s c n (a1 - 3840) ((s.1 36) ((a1 - 3840).toNatClampNeg))).le (Nat.le_of_ble_eq_true rfl)) ?_
      generalize dz_W91_97 s (a1 - 3840) ((s.1 36) ((a1 - 3840).toNatClampNeg)) = r1
      refine q_RP_let ?_
      show q_RP _ _ _ (30, [(2, .int (a1 - 3840)), (0, .ref 97), (1, .int a1)], [.int r1], (q_kW s c n)) _ _
      exact q_RP_ret rfl rfl rfl
    | false =>
      refine q_RP_cF ?_
      refine q_RP_rsT (g2 := (31, [(2, .int (a1 - 3840)), (0, .ref 97), (1, .int a1)], [], (q_kW s c n))) rfl rfl (q_d_geF h15) ?_
      exact q_RP_xt (q_xt_mk (q_mn1 1 rfl (q_mn1 2 rfl q_mn0)) rfl) (dzt_W90_97_31 c n s a1)
def dz_W132_87_119 (s : q_S) : Bool :=
  cond (decide (s.2.1 23 0 = s.2.1 55 0)) (cond (decide (s.2.1 23 1 = s.2.1 55 1)) (cond (decide (s.2.1 23 2 = s.2.1 55 2)) (cond (decide (s.2.1 23 3 = s.2.1 55 3)) (cond (decide (s.2.1 23 4 = s.2.1 55 4)) (cond (decide (s.2.1 23 5 = s.2.1 55 5)) (true) (false)) (false)) (false)) (false)) (false)) (false)
set_option maxHeartbeats 4000000 in
theorem dzt_W132_87_119 (s : q_S) (c n : Nat) : q_Ca q_TB0 1 131 [.ref 87, .ref 119] (q_kW s c n) ((q_oB (q_kW s c n)) (dz_W132_87_119 s)) := by
  refine q_CaT_of (φ := (q_oB (q_kW s c n))) (Nat.le_of_ble_eq_true rfl) ?_
  unfold dz_W132_87_119
  refine q_RT_seg (g2 := (4, [(0, .ref 87), (1, .ref 119)], [.int (s.2.1 23 0)], (q_kW s c n))) 2 (fun _ _ => rfl) ?_
  refine q_RT_seg (g2 := (8, [(0, .ref 87), (1, .ref 119)], [.int (s.2.1 55 0), .int (s.2.1 23 0)], (q_kW s c n))) 2 (fun _ _ => rfl) ?_
  cases h1 : decide (s.2.1 23 0 = s.2.1 55 0) with
  | true =>
    refine q_RT_cT ?_
    refine q_RT_rsF (g2 := (11, [(0, .ref 87), (1, .ref 119)], [], (q_kW s c n))) rfl rfl (q_d_neT h1) ?_
    refine q_RT_seg (g2 := (15, [(0, .ref 87), (1, .ref 119)], [.int (s.2.1 23 1)], (q_kW s c n))) 2 (fun _ _ => rfl) ?_
    refine q_RT_seg (g2 := (19, [(0, .ref 87), (1, .ref 119)], [.int (s.2.1 55 1), .int (s.2.1 23 1)], (q_kW s c n))) 2 (fun _ _ => rfl) ?_
    cases h2 : decide (s.2.1 23 1 = s.2.1 55 1) with
    | true =>
      refine q_RT_cT ?_
      refine q_RT_rsF (g2 := (22, [(0, .ref 87), (1, .ref 119)], [], (q_kW s c n))) rfl rfl (q_d_neT h2) ?_
      refine q_RT_seg (g2 := (26, [(0, .ref 87), (1, .ref 119)], [.int (s.2.1 23 2)], (q_kW s c n))) 2 (fun _ _ => rfl) ?_
      refine q_RT_seg (g2 := (30, [(0, .ref 87), (1, .ref 119)], [.int (s.2.1 55 2), .int (s.2.1 23 2)], (q_kW s c n))) 2 (fun _ _ => rfl) ?_
      cases h3 : decide (s.2.1 23 2 = s.2.1 55 2) with
      | true =>
        refine q_RT_cT ?_
        refine q_RT_rsF (g2 := (33, [(0, .ref 87), (1, .ref 119)], [], (q_kW s c n))) rfl rfl (q_d_neT h3) ?_
        refine q_RT_seg (g2 := (37, [(0, .ref 87), (1, .ref 119)], [.int (s.2.1 23 3)], (q_kW s c n))) 2 (fun _ _ => rfl) ?_
        refine q_RT_seg (g2 := (41, [(0, .ref 87), (1, .ref 119)], [.int (s.2.1 55 3), .int (s.2.1 23 3)], (q_kW s c n))) 2 (fun _ _ => rfl) ?_
        cases h4 : decide (s.2.1 23 3 = s.2.1 55 3) with
        | true =>
          refine q_RT_cT ?_
          refine q_RT_rsF (g2 := (44, [(0, .ref 87), (1, .ref 119)], [], (q_kW s c n))) rfl rfl (q_d_neT h4) ?_
          refine q_RT_seg (g2 := (48, [(0, .ref 87), (1, .ref 119)], [.int (s.2.1 23 4)], (q_kW s c n))) 2 (fun _ _ => rfl) ?_
          refine q_RT_seg (g2 := (52, [(0, .ref 87), (1, .ref 119)], [.int (s.2.1 55 4), .int (s.2.1 23 4)], (q_kW s c n))) 2 (fun _ _ => rfl) ?_
          cases h5 : decide (s.2.1 23 4 = s.2.1 55 4) with
          | true =>
            refine q_RT_cT ?_
            refine q_RT_rsF (g2 := (55, [(0, .ref 87), (1, .ref 119)], [], (q_kW s c n))) rfl rfl (q_d_neT h5) ?_
            refine q_RT_seg (g2 := (59, [(0, .ref 87), (1, .ref 119)], [.int (s.2.1 23 5)], (q_kW s c n))) 2 (fun _ _ => rfl) ?_
            refine q_RT_seg (g2 := (63, [(0, .ref 87), (1, .ref 119)], [.int (s.2.1 55 5), .int (s.2.1 23 5)], (q_kW s c n))) 2 (fun _ _ => rfl) ?_
            cases h6 : decide (s.2.1 23 5 = s.2.1 55 5) with
            | true =>
              refine q_RT_cT ?_
              refine q_RT_rsF (g2 := (66, [(0, .ref 87), (1, .ref 119)], [], (q_kW s c n))) rfl rfl (q_d_neT h6) ?_
              refine q_RT_seg (g2 := (71, [(0, .ref 87), (1, .ref 119)], [.int 1], (q_kW s c n))) 2 (fun _ _ => rfl) ?_
              exact q_RT_ret rfl rfl rfl
            | false =>
              refine q_RT_cF ?_
              refine q_RT_rsT (g2 := (70, [(0, .ref 87), (1, .ref 119)], [], (q_kW s c n))) rfl rfl (q_d_neF h6) ?_
              refine q_RT_seg (g2 := (71, [(0, .ref 87), (1, .ref 119)], [.int 0], (q_kW s c n))) 1 (fun _ _ => rfl) ?_
              exact q_RT_ret rfl rfl rfl
          | false =>
            refine q_RT_cF ?_
            refine q_RT_rsT (g2 := (70, [(0, .ref 87), (1, .ref 119)], [], (q_kW s c n))) rfl rfl (q_d_neF h5) ?_
            refine q_RT_seg (g2 := (71, [(0, .ref 87), (1, .ref 119)], [.int 0], (q_kW s c n))) 1 (fun _ _ => rfl) ?_
            exact q_RT_ret rfl rfl rfl
        | false =>
          refine q_RT_cF ?_
          refine q_RT_rsT (g2 := (70, [(0, .ref 87), (1, .ref 119)], [], (q_kW s c n))) rfl rfl (q_d_neF h4) ?_
          refine q_RT_seg (g2 := (71, [(0, .ref 87), (1, .ref 119)], [.int 0], (q_kW s c n))) 1 (fun _ _ => rfl) ?_
          exact q_RT_ret rfl rfl rfl
      | false =>
        refine q_RT_cF ?_
        refine q_RT_rsT (g2 := (70, [(0, .ref 87), (1, .ref 119)], [], (q_kW s c n))) rfl rfl (q_d_neF h3) ?_
        refine q_RT_seg (g2 := (71, [(0, .ref 87), (1, .ref 119)], [.int 0], (q_kW s c n))) 1 (fun _ _ => rfl) ?_
        exact q_RT_ret rfl rfl rfl
    | false =>
      refine q_RT_cF ?_
      refine q_RT_rsT (g2 := (70, [(0, .ref 87), (1, .ref 119)], [], (q_kW s c n))) rfl rfl (q_d_neF h2) ?_
      refine q_RT_seg (g2 := (71, [(0, .ref 87), (1, .ref 119)], [.int 0], (q_kW s c n))) 1 (fun _ _ => rfl) ?_
      exact q_RT_ret rfl rfl rfl
  | false =>
    refine q_RT_cF ?_
    refine q_RT_rsT (g2 := (70, [(0, .ref 87), (1, .ref 119)], [], (q_kW s c n))) rfl rfl (q_d_neF h1) ?_
    refine q_RT_seg (g2 := (71, [(0, .ref 87), (1, .ref 119)], [.int 0], (q_kW s c n))) 1 (fun _ _ => rfl) ?_
    exact q_RT_ret rfl rfl rfl
def dz_W167_89_121_2 (m : Nat) : q_S → Int32 → Option (Bool) := Nat.rec (motive := fun _ => q_S → Int32 → Option (Bool)) (fun _ _ => none) (fun _ k2 s v2 =>
  cond (decide (v2 < 40)) (cond (q_in v2 40) (cond (decide ((s.1 30) (v2.toNatClampNeg) = (s.1 62) (v2.toNatClampNeg))) (k2 s (v2 + 1)) (some false)) none) (some true)) m
theorem dzs_W167_89_121_2 (m : Nat) (s : q_S) (v2 : Int32) : dz_W167_89_121_2 (m + 1) s v2 = (fun k2 : q_S → Int32 → Option (Bool) =>
  cond (decide (v2 < 40)) (cond (q_in v2 40) (cond (decide ((s.1 30) (v2.toNatClampNeg) = (s.1 62) (v2.toNatClampNeg))) (k2 s (v2 + 1)) (some false)) none) (some true)) (dz_W167_89_121_2 m) := rfl
set_option maxHeartbeats 4000000 in
theorem dzt_W167_89_121_2 (c n : Nat) (s : q_S) : ∀ (m : Nat) (v2 : Int32), q_RP q_TB0 0 166 (2, [(0, .ref 89), (1, .ref 121), (2, .int v2)], [], (q_kW s c n)) (q_oB (q_kW s c n)) (dz_W167_89_121_2 m s v2) := by
  intro m
  induction m with
  | zero => intro v2; exact q_RP_no
  | succ m ih =>
    intro v2
    have hk2 := ih
    clear ih
    rw [dzs_W167_89_121_2]
    generalize dz_W167_89_121_2 m = k2 at hk2 ⊢
    dsimp only
    refine q_RP_seg (g2 := (5, [(0, .ref 89), (1, .ref 121), (2, .int v2)], [.int 40, .int v2], (q_kW s c n))) 2 (fun _ _ => rfl) ?_
    cases h1 : decide (v2 < 40) with
    | true =>
      refine q_RP_cT ?_
      refine q_RP_rsF (g2 := (8, [(0, .ref 89), (1, .ref 121), (2, .int v2)], [], (q_kW s c n))) rfl rfl (q_d_geT h1) ?_
      refine q_RP_seg (g2 := (13, [(0, .ref 89), (1, .ref 121), (2, .int v2)], [.int v2, .ref 94], (q_kW s c n))) 3 (fun _ _ => rfl) ?_
      refine q_RP_as fun i2 => ?_
      refine q_RP_rsT (g2 := (14, [(0, .ref 89), (1, .ref 121), (2, .int v2)], [.int ((s.1 30) (v2.toNatClampNeg))], (q_kW s c n))) rfl rfl i2 ?_
      refine q_RP_seg (g2 := (19, [(0, .ref 89), (1, .ref 121), (2, .int v2)], [.int v2, .ref 126, .int ((s.1 30) (v2.toNatClampNeg))], (q_kW s c n))) 3 (fun _ _ => rfl) ?_
      refine q_RP_rsT (g2 := (20, [(0, .ref 89), (1, .ref 121), (2, .int v2)], [.int ((s.1 62) (v2.toNatClampNeg)), .int ((s.1 30) (v2.toNatClampNeg))], (q_kW s c n))) rfl rfl i2 ?_
      cases h3 : decide ((s.1 30) (v2.toNatClampNeg) = (s.1 62) (v2.toNatClampNeg)) with
      | true =>
        refine q_RP_cT ?_
        refine q_RP_rsT (g2 := (25, [(0, .ref 89), (1, .ref 121), (2, .int v2)], [], (q_kW s c n))) rfl rfl h3 ?_
        refine q_RP_seg (g2 := (2, [(2, .int (v2 + 1)), (0, .ref 89), (1, .ref 121)], [], (q_kW s c n))) 2 (fun _ _ => rfl) ?_
        exact q_RP_xt (q_xt_mk (q_mn1 1 rfl (q_mn1 2 rfl (q_mn1 0 rfl q_mn0))) rfl) (hk2 (v2 + 1))
      | false =>
        refine q_RP_cF ?_
        refine q_RP_rsF (g2 := (23, [(0, .ref 89), (1, .ref 121), (2, .int v2)], [], (q_kW s c n))) rfl rfl h3 ?_
        refine q_RP_seg (g2 := (24, [(0, .ref 89), (1, .ref 121), (2, .int v2)], [.int 0], (q_kW s c n))) 1 (fun _ _ => rfl) ?_
        exact q_RP_ret rfl rfl rfl
    | false =>
      refine q_RP_cF ?_
      refine q_RP_rsT (g2 := (31, [(0, .ref 89), (1, .ref 121), (2, .int v2)], [], (q_kW s c n))) rfl rfl (q_d_geF h1) ?_
      refine q_RP_seg (g2 := (32, [(0, .ref 89), (1, .ref 121), (2, .int v2)], [.int 1], (q_kW s c n))) 1 (fun _ _ => rfl) ?_
      exact q_RP_ret rfl rfl rfl
def dz_W167_89_121 (s : q_S) : Option (Bool) :=
  dz_W167_89_121_2 5000 s 0
set_option maxHeartbeats 4000000 in
theorem dzt_W167_89_121 (s : q_S) (c n : Nat) (x : Bool) (h : dz_W167_89_121 s = some x) : q_Ca q_TB0 1 166 [.ref 89, .ref 121] (q_kW s c n) ((q_oB (q_kW s c n)) x) := by
  refine q_CaP_of (φ := (q_oB (q_kW s c n))) (Nat.le_of_ble_eq_true rfl) ?_ h
  clear h
  unfold dz_W167_89_121
  refine q_RP_seg (g2 := (2, [(2, .int 0), (0, .ref 89), (1, .ref 121)], [], (q_kW s c n))) 2 (fun _ _ => rfl) ?_
  exact q_RP_xt (q_xt_mk (q_mn1 1 rfl (q_mn1 2 rfl (q_mn1 0 rfl q_mn0))) rfl) (dzt_W167_89_121_2 c n s 5000 0)
def dz_W78_64_96_45 (m : Nat) : q_S → Int32 → Option (Bool) := Nat.rec (motive := fun _ => q_S → Int32 → Option (Bool)) (fun _ _ => none) (fun _ k45 s v2 =>
  cond (decide (v2 < 1024)) (cond (q_in v2 1024) (cond (decide ((s.1 31) (v2.toNatClampNeg) = (s.1 63) (v2.toNatClampNeg))) (k45 s (v2 + 1)) (some false)) none) ((dz_W111_66_98 s).bind fun r3 => cond (decide (r3 = 0)) (q_let (dz_W132_87_119 s) fun r4 => cond r4 ((dz_W167_89_121 s).bind fun r5 => cond r5 (some true) (some false)) (some false)) (some false))) m
theorem dzs_W78_64_96_45 (m : Nat) (s : q_S) (v2 : Int32) : dz_W78_64_96_45 (m + 1) s v2 = (fun k45 : q_S → Int32 → Option (Bool) =>
  cond (decide (v2 < 1024)) (cond (q_in v2 1024) (cond (decide ((s.1 31) (v2.toNatClampNeg) = (s.1 63) (v2.toNatClampNeg))) (k45 s (v2 + 1)) (some false)) none) ((dz_W111_66_98 s).bind fun r3 => cond (decide (r3 = 0)) (q_let (dz_W132_87_119 s) fun r4 => cond r4 ((dz_W167_89_121 s).bind fun r5 => cond r5 (some true) (some false)) (some false)) (some false))) (dz_W78_64_96_45 m) := rfl
set_option maxHeartbeats 4000000 in
theorem dzt_W78_64_96_45 (c n : Nat) (s : q_S) : ∀ (m : Nat) (v2 : Int32), q_RP q_TB0 2 77 (45, [(0, .ref 64), (1, .ref 96), (2, .int v2)], [], (q_kW s c n)) (q_oB (q_kW s c n)) (dz_W78_64_96_45 m s v2) := by
  intro m
  induction m with
  | zero => intro v2; exact q_RP_no
  | succ m ih =>
    intro v2
    have hk45 := ih
    clear ih
    rw [dzs_W78_64_96_45]
    generalize dz_W78_64_96_45 m = k45 at hk45 ⊢
    dsimp only
    refine q_RP_seg (g2 := (49, [(0, .ref 64), (1, .ref 96), (2, .int v2)], [.int 1024, .int v2], (q_kW s c n))) 2 (fun _ _ => rfl) ?_
    cases h3 : decide (v2 < 1024) with
    | true =>
      refine q_RP_cT ?_
      refine q_RP_rsF (g2 := (52, [(0, .ref 64), (1, .ref 96), (2, .int v2)], [], (q_kW s c n))) rfl rfl (q_d_geT h3) ?_
      refine q_RP_seg (g2 := (57, [(0, .ref 64), (1, .ref 96), (2, .int v2)], [.int v2, .ref 95], (q_kW s c n))) 3 (fun _ _ => rfl) ?_
      refine q_RP_as fun i4 => ?_
      refine q_RP_rsT (g2 := (58, [(0, .ref 64), (1, .ref 96), (2, .int v2)], [.int ((s.1 31) (v2.toNatClampNeg))], (q_kW s c n))) rfl rfl i4 ?_
      refine q_RP_seg (g2 := (63, [(0, .ref 64), (1, .ref 96), (2, .int v2)], [.int v2, .ref 127, .int ((s.1 31) (v2.toNatClampNeg))], (q_kW s c n))) 3 (fun _ _ => rfl) ?_
      refine q_RP_rsT (g2 := (64, [(0, .ref 64), (1, .ref 96), (2, .int v2)], [.int ((s.1 63) (v2.toNatClampNeg)), .int ((s.1 31) (v2.toNatClampNeg))], (q_kW s c n))) rfl rfl i4 ?_
      cases h5 : decide ((s.1 31) (v2.toNatClampNeg) = (s.1 63) (v2.toNatClampNeg)) with
      | true =>
        refine q_RP_cT ?_
        refine q_RP_rsT (g2 := (69, [(0, .ref 64), (1, .ref 96), (2, .int v2)], [], (q_kW s c n))) rfl rfl h5 ?_
        refine q_RP_seg (g2 := (45, [(2, .int (v2 + 1)), (0, .ref 64), (1, .ref 96)], [], (q_kW s c n))) 2 (fun _ _ => rfl) ?_
        exact q_RP_xt (q_xt_mk (q_mn1 1 rfl (q_mn1 2 rfl (q_mn1 0 rfl q_mn0))) rfl) (hk45 (v2 + 1))
      | false =>
        refine q_RP_cF ?_
        refine q_RP_rsF (g2 := (67, [(0, .ref 64), (1, .ref 96), (2, .int v2)], [], (q_kW s c n))) rfl rfl h5 ?_
        refine q_RP_seg (g2 := (68, [(0, .ref 64), (1, .ref 96), (2, .int v2)], [.int 0], (q_kW s c n))) 1 (fun _ _ => rfl) ?_
        exact q_RP_ret rfl rfl rfl
    | false =>
      refine q_RP_cF ?_
      refine q_RP_rsT (g2 := (75, [(0, .ref 64), (1, .ref 96), (2, .int v2)], [], (q_kW s c n))) rfl rfl (q_d_geF h3) ?_
      refine q_RP_seg (g2 := (89, [(0, .ref 64), (1, .ref 96), (2, .int v2)], [.ref 98, .ref 66], (q_kW s c n))) 6 (fun _ _ => rfl) ?_
      refine q_RP_bd fun r3 er3 => ?_
      refine q_RP_call (v := (some (.int r3))) (h2 := (q_kW s c n)) rfl rfl ((dzt_W111_66_98 s c n r3 er3).le (Nat.le_of_ble_eq_true rfl)) ?_
      show q_RP _ _ _ (92, [(0, .ref 64), (1, .ref 96), (2, .int v2)], [.int r3], (q_kW s c n)) _ _
      cases h6 : decide (r3 = 0) with
      | true =>
        refine q_RP_cT ?_
        refine q_RP_rsF (g2 := (95, [(0, .ref 64), (1, .ref 96), (2, .int v2)], [], (q_kW s c n))) rfl rfl (q_d_neT h6) ?_
        refine q_RP_seg (g2 := (103, [(0, .ref 64), (1, .ref 96), (2, .int v2)], [.ref 119, .ref 87], (q_kW s c n))) 4 (fun _ _ => rfl) ?_
        refine q_RP_call (v := (some (.int (q_b (dz_W132_87_119 s))))) (h2 := (q_kW s c n)) rfl rfl ((dzt_W132_87_119 s c n).le (Nat.le_of_ble_eq_true rfl)) ?_
        generalize dz_W132_87_119 s = r4
        refine q_RP_let ?_
        show q_RP _ _ _ (106, [(0, .ref 64), (1, .ref 96), (2, .int v2)], [.int (q_b r4)], (q_kW s c n)) _ _
        cases h7 : r4 with
        | true =>
          refine q_RP_cT ?_
          show q_RP _ _ _ (106, [(0, .ref 64), (1, .ref 96), (2, .int v2)], [.int 1], (q_kW s c n)) _ _
          refine q_RP_seg (g2 := (117, [(0, .ref 64), (1, .ref 96), (2, .int v2)], [.ref 121, .ref 89], (q_kW s c n))) 5 (fun _ _ => rfl) ?_
          refine q_RP_bd fun r5 er5 => ?_
          refine q_RP_call (v := (some (.int (q_b r5)))) (h2 := (q_kW s c n)) rfl rfl ((dzt_W167_89_121 s c n r5 er5).le (Nat.le_of_ble_eq_true rfl)) ?_
          show q_RP _ _ _ (120, [(0, .ref 64), (1, .ref 96), (2, .int v2)], [.int (q_b r5)], (q_kW s c n)) _ _
          cases h8 : r5 with
          | true =>
            refine q_RP_cT ?_
            show q_RP _ _ _ (120, [(0, .ref 64), (1, .ref 96), (2, .int v2)], [.int 1], (q_kW s c n)) _ _
            refine q_RP_seg (g2 := (128, [(0, .ref 64), (1, .ref 96), (2, .int v2)], [.int 1], (q_kW s c n))) 3 (fun _ _ => rfl) ?_
            exact q_RP_ret rfl rfl rfl
          | false =>
            refine q_RP_cF ?_
            show q_RP _ _ _ (120, [(0, .ref 64), (1, .ref 96), (2, .int v2)], [.int 0], (q_kW s c n)) _ _
            refine q_RP_seg (g2 := (128, [(0, .ref 64), (1, .ref 96), (2, .int v2)], [.int 0], (q_kW s c n))) 2 (fun _ _ => rfl) ?_
            exact q_RP_ret rfl rfl rfl
        | false =>
          refine q_RP_cF ?_
          show q_RP _ _ _ (106, [(0, .ref 64), (1, .ref 96), (2, .int v2)], [.int 0], (q_kW s c n)) _ _
          refine q_RP_seg (g2 := (128, [(0, .ref 64), (1, .ref 96), (2, .int v2)], [.int 0], (q_kW s c n))) 2 (fun _ _ => rfl) ?_
          exact q_RP_ret rfl rfl rfl
      | false =>
        refine q_RP_cF ?_
        refine q_RP_rsT (g2 := (127, [(0, .ref 64), (1, .ref 96), (2, .int v2)], [], (q_kW s c n))) rfl rfl (q_d_neF h6) ?_
        refine q_RP_seg (g2 := (128, [(0, .ref 64), (1, .ref 96), (2, .int v2)], [.int 0], (q_kW s c n))) 1 (fun _ _ => rfl) ?_
        exact q_RP_ret rfl rfl rfl
def dz_W78_64_96_2 (m : Nat) : q_S → Int32 → Option (Bool) := Nat.rec (motive := fun _ => q_S → Int32 → Option (Bool)) (fun _ _ => none) (fun _ k2 s v2 =>
  cond (decide (v2 < 48)) ((dz_W90_65 s ((3840 : Int32) + v2)).bind fun r1 => (dz_W90_97 s ((3840 : Int32) + v2)).bind fun r2 => cond (decide (r1 = r2)) (k2 s (v2 + 1)) (some false)) (dz_W78_64_96_45 5000 s 0)) m
theorem dzs_W78_64_96_2 (m : Nat) (s : q_S) (v2 : Int32) : dz_W78_64_96_2 (m + 1) s v2 = (fun k2 : q_S → Int32 → Option (Bool) =>
  cond (decide (v2 < 48)) ((dz_W90_65 s ((3840 : Int32) + v2)).bind fun r1 => (dz_W90_97 s ((3840 : Int32) + v2)).bind fun r2 => cond (decide (r1 = r2)) (k2 s (v2 + 1)) (some false)) (dz_W78_64_96_45 5000 s 0)) (dz_W78_64_96_2 m) := rfl
set_option maxHeartbeats 4000000 in
theorem dzt_W78_64_96_2 (c n : Nat) (s : q_S) : ∀ (m : Nat) (v2 : Int32), q_RP q_TB0 2 77 (2, [(0, .ref 64), (1, .ref 96), (2, .int v2)], [], (q_kW s c n)) (q_oB (q_kW s c n)) (dz_W78_64_96_2 m s v2) := by
  intro m
  induction m with
  | zero => intro v2; exact q_RP_no
  | succ m ih =>
    intro v2
    have hk2 := ih
    clear ih
    rw [dzs_W78_64_96_2]
    generalize dz_W78_64_96_2 m = k2 at hk2 ⊢
    dsimp only
    refine q_RP_seg (g2 := (5, [(0, .ref 64), (1, .ref 96), (2, .int v2)], [.int 48, .int v2], (q_kW s c n))) 2 (fun _ _ => rfl) ?_
    cases h1 : decide (v2 < 48) with
    | true =>
      refine q_RP_cT ?_
      refine q_RP_rsF (g2 := (8, [(0, .ref 64), (1, .ref 96), (2, .int v2)], [], (q_kW s c n))) rfl rfl (q_d_geT h1) ?_
      refine q_RP_seg (g2 := (17, [(0, .ref 64), (1, .ref 96), (2, .int v2)], [.int ((3840 : Int32) + v2), .ref 65], (q_kW s c n))) 5 (fun _ _ => rfl) ?_
      refine q_RP_bd fun r1 er1 => ?_
      refine q_RP_call (v := (some (.int r1))) (h2 := (q_kW s c n)) rfl rfl ((dzt_W90_65 s c n ((3840 : Int32) + v2) r1 er1).le (Nat.le_of_ble_eq_true rfl)) ?_
      show q_RP _ _ _ (20, [(0, .ref 64), (1, .ref 96), (2, .int v2)], [.int r1], (q_kW s c n)) _ _
      refine q_RP_seg (g2 := (29, [(0, .ref 64), (1, .ref 96), (2, .int v2)], [.int ((3840 : Int32) + v2), .ref 97, .int r1], (q_kW s c n))) 5 (fun _ _ => rfl) ?_
      refine q_RP_bd fun r2 er2 => ?_
      refine q_RP_call (v := (some (.int r2))) (h2 := (q_kW s c n)) rfl rfl ((dzt_W90_97 s c n ((3840 : Int32) + v2) r2 er2).le (Nat.le_of_ble_eq_true rfl)) ?_
      show q_RP _ _ _ (32, [(0, .ref 64), (1, .ref 96), (2, .int v2)], [.int r2, .int r1], (q_kW s c n)) _ _
      cases h2 : decide (r1 = r2) with
      | true =>
        refine q_RP_cT ?_
        refine q_RP_rsT (g2 := (37, [(0, .ref 64), (1, .ref 96), (2, .int v2)], [], (q_kW s c n))) rfl rfl h2 ?_
        refine q_RP_seg (g2 := (2, [(2, .int (v2 + 1)), (0, .ref 64), (1, .ref 96)], [], (q_kW s c n))) 2 (fun _ _ => rfl) ?_
        exact q_RP_xt (q_xt_mk (q_mn1 1 rfl (q_mn1 2 rfl (q_mn1 0 rfl q_mn0))) rfl) (hk2 (v2 + 1))
      | false =>
        refine q_RP_cF ?_
        refine q_RP_rsF (g2 := (35, [(0, .ref 64), (1, .ref 96), (2, .int v2)], [], (q_kW s c n))) rfl rfl h2 ?_
        refine q_RP_seg (g2 := (36, [(0, .ref 64), (1, .ref 96), (2, .int v2)], [.int 0], (q_kW s c n))) 1 (fun _ _ => rfl) ?_
        exact q_RP_ret rfl rfl rfl
    | false =>
      refine q_RP_cF ?_
      refine q_RP_rsT (g2 := (43, [(0, .ref 64), (1, .ref 96), (2, .int v2)], [], (q_kW s c n))) rfl rfl (q_d_geF h1) ?_
      refine q_RP_seg (g2 := (45, [(2, .int 0), (0, .ref 64), (1, .ref 96)], [], (q_kW s c n))) 2 (fun _ _ => rfl) ?_
      exact q_RP_xt (q_xt_mk (q_mn1 1 rfl (q_mn1 2 rfl (q_mn1 0 rfl q_mn0))) rfl) (dzt_W78_64_96_45 c n s 5000 0)
def dz_W78_64_96 (s : q_S) : Option (Bool) :=
  dz_W78_64_96_2 5000 s 0
set_option maxHeartbeats 4000000 in
theorem dzt_W78_64_96 (s : q_S) (c n : Nat) (x : Bool) (h : dz_W78_64_96 s = some x) : q_Ca q_TB0 3 77 [.ref 64, .ref 96] (q_kW s c n) ((q_oB (q_kW s c n)) x) := by
  refine q_CaP_of (φ := (q_oB (q_kW s c n))) (Nat.le_of_ble_eq_true rfl) ?_ h
  clear h
  unfold dz_W78_64_96
  refine q_RP_seg (g2 := (2, [(2, .int 0), (0, .ref 64), (1, .ref 96)], [], (q_kW s c n))) 2 (fun _ _ => rfl) ?_
  exact q_RP_xt (q_xt_mk (q_mn1 1 rfl (q_mn1 2 rfl (q_mn1 0 rfl q_mn0))) rfl) (dzt_W78_64_96_2 c n s 5000 0)
