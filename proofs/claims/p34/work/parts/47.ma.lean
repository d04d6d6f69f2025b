def dz_M199_64 (s : q_S) : Int32 :=
  (s.2.1 0 39)
set_option maxHeartbeats 4000000 in
theorem dzt_M199_64 (s : q_S) (c n : Nat) : q_Ca q_TB0 1 198 [.ref 64] (q_kM s c n) ((q_oP (q_kM s c n)) (dz_M199_64 s)) := by
  refine q_CaT_of (φ := (q_oP (q_kM s c n))) (Nat.le_of_ble_eq_true rfl) ?_
  unfold dz_M199_64
  refine q_RT_seg (g2 := (4, [(0, .ref 64)], [.int (s.2.1 0 39)], (q_kM s c n))) 2 (fun _ _ => rfl) ?_
  exact q_RT_ret rfl rfl rfl
def dz_M200_64 (s : q_S) (a1 : Int32) : q_S × Bool :=
  cond (decide (0 < a1)) (((q_sI s 0 39 a1), true)) (((q_sI s 0 39 a1), false))
set_option maxHeartbeats 4000000 in
theorem dzt_M200_64 (s : q_S) (c n : Nat) (a1 : Int32) : q_Ca q_TB0 1 199 [.ref 64, .int a1] (q_kM s c n) ((q_oJM c n) (dz_M200_64 s a1)) := by
  refine q_CaT_of (φ := (q_oJM c n)) (Nat.le_of_ble_eq_true rfl) ?_
  unfold dz_M200_64
  refine q_RT_seg (g2 := (6, [(0, .ref 64), (1, .int a1)], [.int a1], (q_kM (q_sI s 0 39 a1) c n))) 4 (fun _ _ => rfl) ?_
  cases h889 : decide (0 < a1) with
  | true =>
    refine q_RT_cT ?_
    refine q_RT_rsF (g2 := (9, [(0, .ref 64), (1, .int a1)], [], (q_kM (q_sI s 0 39 a1) c n))) rfl rfl (q_d_geT h889) ?_
    refine q_RT_seg (g2 := (14, [(0, .ref 64), (1, .int a1)], [.int 1], (q_kM (q_sI s 0 39 a1) c n))) 2 (fun _ _ => rfl) ?_
    exact q_RT_ret rfl rfl rfl
  | false =>
    refine q_RT_cF ?_
    refine q_RT_rsT (g2 := (13, [(0, .ref 64), (1, .int a1)], [], (q_kM (q_sI s 0 39 a1) c n))) rfl rfl (q_d_geF h889) ?_
    refine q_RT_seg (g2 := (14, [(0, .ref 64), (1, .int a1)], [.int 0], (q_kM (q_sI s 0 39 a1) c n))) 1 (fun _ _ => rfl) ?_
    exact q_RT_ret rfl rfl rfl
def dz_M201_64 (s : q_S) (a1 : Int32) : q_S × Int32 :=
  ((q_sI s 0 39 0), a1)
set_option maxHeartbeats 4000000 in
theorem dzt_M201_64 (s : q_S) (c n : Nat) (a1 : Int32) : q_Ca q_TB0 1 200 [.ref 64, .int a1] (q_kM s c n) ((q_oIM c n) (dz_M201_64 s a1)) := by
  refine q_CaT_of (φ := (q_oIM c n)) (Nat.le_of_ble_eq_true rfl) ?_
  unfold dz_M201_64
  refine q_RT_seg (g2 := (6, [(0, .ref 64), (1, .int a1)], [.int a1], (q_kM (q_sI s 0 39 0) c n))) 4 (fun _ _ => rfl) ?_
  exact q_RT_ret rfl rfl rfl
def dz_M202 (s : q_S) (a0 : Int32) (a1 : Int32) (a2 : Int32) : Bool :=
  cond (decide (a0 < a1)) (false) (cond (decide (a2 < a0)) (false) (true))
set_option maxHeartbeats 4000000 in
theorem dzt_M202 (s : q_S) (c n : Nat) (a0 : Int32) (a1 : Int32) (a2 : Int32) : q_Ca q_TB0 1 201 [.int a0, .int a1, .int a2] (q_kM s c n) ((q_oB (q_kM s c n)) (dz_M202 s a0 a1 a2)) := by
  refine q_CaT_of (φ := (q_oB (q_kM s c n))) (Nat.le_of_ble_eq_true rfl) ?_
  unfold dz_M202
  refine q_RT_seg (g2 := (2, [(0, .int a0), (1, .int a1), (2, .int a2)], [.int a1, .int a0], (q_kM s c n))) 2 (fun _ _ => rfl) ?_
  cases h890 : decide (a0 < a1) with
  | true =>
    refine q_RT_cT ?_
    refine q_RT_rsT (g2 := (14, [(0, .int a0), (1, .int a1), (2, .int a2)], [], (q_kM s c n))) rfl rfl h890 ?_
    refine q_RT_seg (g2 := (15, [(0, .int a0), (1, .int a1), (2, .int a2)], [.int 0], (q_kM s c n))) 1 (fun _ _ => rfl) ?_
    exact q_RT_ret rfl rfl rfl
  | false =>
    refine q_RT_cF ?_
    refine q_RT_rsF (g2 := (5, [(0, .int a0), (1, .int a1), (2, .int a2)], [], (q_kM s c n))) rfl rfl h890 ?_
    refine q_RT_seg (g2 := (7, [(0, .int a0), (1, .int a1), (2, .int a2)], [.int a2, .int a0], (q_kM s c n))) 2 (fun _ _ => rfl) ?_
    cases h891 : decide (a2 < a0) with
    | true =>
      refine q_RT_cT ?_
      refine q_RT_rsT (g2 := (14, [(0, .int a0), (1, .int a1), (2, .int a2)], [], (q_kM s c n))) rfl rfl h891 ?_
      refine q_RT_seg (g2 := (15, [(0, .int a0), (1, .int a1), (2, .int a2)], [.int 0], (q_kM s c n))) 1 (fun _ _ => rfl) ?_
      exact q_RT_ret rfl rfl rfl
    | false =>
      refine q_RT_cF ?_
      refine q_RT_rsF (g2 := (10, [(0, .int a0), (1, .int a1), (2, .int a2)], [], (q_kM s c n))) rfl rfl h891 ?_
      refine q_RT_seg (g2 := (15, [(0, .int a0), (1, .int a1), (2, .int a2)], [.int 1], (q_kM s c n))) 2 (fun _ _ => rfl) ?_
      exact q_RT_ret rfl rfl rfl
def dz_M203 (s : q_S) (a0 : Int32) : Bool :=
  q_let (dz_M202 s a0 0 255) fun r655 => cond r655 (false) (true)
set_option maxHeartbeats 4000000 in
theorem dzt_M203 (s : q_S) (c n : Nat) (a0 : Int32) : q_Ca q_TB0 2 202 [.int a0] (q_kM s c n) ((q_oB (q_kM s c n)) (dz_M203 s a0)) := by
  refine q_CaT_of (φ := (q_oB (q_kM s c n))) (Nat.le_of_ble_eq_true rfl) ?_
  unfold dz_M203
  refine q_RT_seg (g2 := (5, [(0, .int a0)], [.int 255, .int 0, .int a0], (q_kM s c n))) 3 (fun _ _ => rfl) ?_
  refine q_RT_call (v := (some (.int (q_b (dz_M202 s a0 0 255))))) (h2 := (q_kM s c n)) rfl rfl ((dzt_M202 s c n a0 0 255).le (Nat.le_of_ble_eq_true rfl)) ?_
  generalize dz_M202 s a0 0 255 = r655
  refine q_RT_let ?_
  show q_RT _ _ _ (8, [(0, .int a0)], [.int (q_b r655)], (q_kM s c n)) _ _
  cases h892 : r655 with
  | true =>
    refine q_RT_cT ?_
    show q_RT _ _ _ (8, [(0, .int a0)], [.int 1], (q_kM s c n)) _ _
    refine q_RT_seg (g2 := (16, [(0, .int a0)], [.int 0], (q_kM s c n))) 2 (fun _ _ => rfl) ?_
    exact q_RT_ret rfl rfl rfl
  | false =>
    refine q_RT_cF ?_
    show q_RT _ _ _ (8, [(0, .int a0)], [.int 0], (q_kM s c n)) _ _
    refine q_RT_seg (g2 := (16, [(0, .int a0)], [.int 1], (q_kM s c n))) 3 (fun _ _ => rfl) ?_
    exact q_RT_ret rfl rfl rfl
def dz_M204 (s : q_S) (a0 : Int32) : Bool :=
  q_let (dz_M202 s a0 0 4095) fun r656 => cond r656 (false) (true)
set_option maxHeartbeats 4000000 in
theorem dzt_M204 (s : q_S) (c n : Nat) (a0 : Int32) : q_Ca q_TB0 2 203 [.int a0] (q_kM s c n) ((q_oB (q_kM s c n)) (dz_M204 s a0)) := by
  refine q_CaT_of (φ := (q_oB (q_kM s c n))) (Nat.le_of_ble_eq_true rfl) ?_
  unfold dz_M204
  refine q_RT_seg (g2 := (5, [(0, .int a0)], [.int 4095, .int 0, .int a0], (q_kM s c n))) 3 (fun _ _ => rfl) ?_
  refine q_RT_call (v := (some (.int (q_b (dz_M202 s a0 0 4095))))) (h2 := (q_kM s c n)) rfl rfl ((dzt_M202 s c n a0 0 4095).le (Nat.le_of_ble_eq_true rfl)) ?_
  generalize dz_M202 s a0 0 4095 = r656
  refine q_RT_let ?_
  show q_RT _ _ _ (8, [(0, .int a0)], [.int (q_b r656)], (q_kM s c n)) _ _
  cases h893 : r656 with
  | true =>
    refine q_RT_cT ?_
    show q_RT _ _ _ (8, [(0, .int a0)], [.int 1], (q_kM s c n)) _ _
    refine q_RT_seg (g2 := (16, [(0, .int a0)], [.int 0], (q_kM s c n))) 2 (fun _ _ => rfl) ?_
    exact q_RT_ret rfl rfl rfl
  | false =>
    refine q_RT_cF ?_
    show q_RT _ _ _ (8, [(0, .int a0)], [.int 0], (q_kM s c n)) _ _
    refine q_RT_seg (g2 := (16, [(0, .int a0)], [.int 1], (q_kM s c n))) 3 (fun _ _ => rfl) ?_
    exact q_RT_ret rfl rfl rfl
def dz_M205_64 (s : q_S) : q_S :=
  cond (decide (s.2.1 0 34 < 0)) (s) ((q_sI s 0 34 ((s.2.1 0 34) + 1)))
set_option maxHeartbeats 4000000 in
theorem dzt_M205_64 (s : q_S) (c n : Nat) : q_Ca q_TB0 1 204 [.ref 64] (q_kM s c n) ((q_oSM c n) (dz_M205_64 s)) := by
  refine q_CaT_of (φ := (q_oSM c n)) (Nat.le_of_ble_eq_true rfl) ?_
  unfold dz_M205_64
  refine q_RT_seg (g2 := (4, [(0, .ref 64)], [.int (s.2.1 0 34)], (q_kM s c n))) 2 (fun _ _ => rfl) ?_
  cases h894 : decide (s.2.1 0 34 < 0) with
  | true =>
    refine q_RT_cT ?_
    refine q_RT_rsT (g2 := (17, [(0, .ref 64)], [], (q_kM s c n))) rfl rfl h894 ?_
    exact q_RT_ret rfl rfl rfl
  | false =>
    refine q_RT_cF ?_
    refine q_RT_rsF (g2 := (7, [(0, .ref 64)], [], (q_kM s c n))) rfl rfl h894 ?_
    refine q_RT_seg (g2 := (12, [(0, .ref 64)], [.int (s.2.1 0 34), .ref 64], (q_kM s c n))) 3 (fun _ _ => rfl) ?_
    refine q_RT_seg (g2 := (17, [(0, .ref 64)], [], (q_kM (q_sI s 0 34 ((s.2.1 0 34) + 1)) c n))) 3 (fun _ _ => rfl) ?_
    exact q_RT_ret rfl rfl rfl
def dz_M206 (s : q_S) (a0 : Int32) (a1 : Int32) : Bool :=
  cond (decide ((a0 >>> (a1 &&& 31)) &&& 1 = 1)) (true) (false)
set_option maxHeartbeats 4000000 in
theorem dzt_M206 (s : q_S) (c n : Nat) (a0 : Int32) (a1 : Int32) : q_Ca q_TB0 1 205 [.int a0, .int a1] (q_kM s c n) ((q_oB (q_kM s c n)) (dz_M206 s a0 a1)) := by
  refine q_CaT_of (φ := (q_oB (q_kM s c n))) (Nat.le_of_ble_eq_true rfl) ?_
  unfold dz_M206
  refine q_RT_seg (g2 := (6, [(0, .int a0), (1, .int a1)], [.int 1, .int ((a0 >>> (a1 &&& 31)) &&& 1)], (q_kM s c n))) 6 (fun _ _ => rfl) ?_
  cases h895 : decide ((a0 >>> (a1 &&& 31)) &&& 1 = 1) with
  | true =>
    refine q_RT_cT ?_
    refine q_RT_rsF (g2 := (9, [(0, .int a0), (1, .int a1)], [], (q_kM s c n))) rfl rfl (q_d_neT h895) ?_
    refine q_RT_seg (g2 := (14, [(0, .int a0), (1, .int a1)], [.int 1], (q_kM s c n))) 2 (fun _ _ => rfl) ?_
    exact q_RT_ret rfl rfl rfl
  | false =>
    refine q_RT_cF ?_
    refine q_RT_rsT (g2 := (13, [(0, .int a0), (1, .int a1)], [], (q_kM s c n))) rfl rfl (q_d_neF h895) ?_
    refine q_RT_seg (g2 := (14, [(0, .int a0), (1, .int a1)], [.int 0], (q_kM s c n))) 1 (fun _ _ => rfl) ?_
    exact q_RT_ret rfl rfl rfl
def dz_M207_64 (s : q_S) : Int32 :=
  ((((s.2.2 0 15) / 24) - ((s.2.2 0 15) / 24) / 40 * 40).toInt32)
set_option maxHeartbeats 4000000 in
theorem dzt_M207_64 (s : q_S) (c n : Nat) : q_Ca q_TB0 1 206 [.ref 64] (q_kM s c n) ((q_oP (q_kM s c n)) (dz_M207_64 s)) := by
  refine q_CaT_of (φ := (q_oP (q_kM s c n))) (Nat.le_of_ble_eq_true rfl) ?_
  unfold dz_M207_64
  refine q_RT_seg (g2 := (4, [(0, .ref 64)], [.long (s.2.2 0 15)], (q_kM s c n))) 2 (fun _ _ => rfl) ?_
  refine q_RT_seg (g2 := (13, [(0, .ref 64)], [.int ((((s.2.2 0 15) / 24) - ((s.2.2 0 15) / 24) / 40 * 40).toInt32)], (q_kM s c n))) 5 (fun _ _ => rfl) ?_
  exact q_RT_ret rfl rfl rfl
def dz_M208_64_85 (k35 : q_S → Int32 → Option (q_S × Int32)) (k43 : q_S → Int32 → Int32 → Option (q_S × Int32)) (s : q_S) (v2 : Int32) (v3 : Int32) : Option (q_S × Int32) :=
  cond (q_in (v3 / 4) 8) (cond (q_in ((4 : Int32) + (v3 - v3 / 4 * 4)) 8) (q_let ((q_sA s 33 (upd (s.1 33) ((v3 / 4).toNatClampNeg) (vp_nar .boolean 1)))) fun r661 => k43 (q_sA r661 33 (upd (r661.1 33) (((4 : Int32) + (v3 - v3 / 4 * 4)).toNatClampNeg) (vp_nar .boolean 1))) v2 (v3 + 1)) none) none
set_option maxHeartbeats 4000000 in
theorem dzt_M208_64_85 (c n : Nat) (k35 : q_S → Int32 → Option (q_S × Int32)) (k43 : q_S → Int32 → Int32 → Option (q_S × Int32)) (s : q_S) (hk35 : ∀ (s : q_S) (v2 : Int32), q_RP q_TB0 1 207 (35, [(0, .ref 64), (2, .int v2)], [], (q_kM s c n)) (q_oIM c n) (k35 s v2)) (hk43 : ∀ (s : q_S) (v2 : Int32) (v3 : Int32), q_RP q_TB0 1 207 (43, [(0, .ref 64), (2, .int v2), (3, .int v3)], [], (q_kM s c n)) (q_oIM c n) (k43 s v2 v3)) (v2 : Int32) (v3 : Int32) : q_RP q_TB0 1 207 (85, [(0, .ref 64), (2, .int v2), (3, .int v3)], [], (q_kM s c n)) (q_oIM c n) (dz_M208_64_85 k35 k43 s v2 v3) := by
  unfold dz_M208_64_85
  refine q_RP_seg (g2 := (101, [(4, .int 1), (0, .ref 64), (2, .int v2), (3, .int v3)], [.int 1, .int (v3 / 4), .ref 97], (q_kM s c n))) 9 (fun _ _ => rfl) ?_
  refine q_RP_as fun i910 => ?_
  refine q_RP_rsT (g2 := (102, [(4, .int 1), (0, .ref 64), (2, .int v2), (3, .int v3)], [], (q_kM (q_sA s 33 (upd (s.1 33) ((v3 / 4).toNatClampNeg) (vp_nar .boolean 1))) c n))) rfl q_wM33 i910 ?_
  refine q_RP_seg (g2 := (113, [(4, .int 1), (0, .ref 64), (2, .int v2), (3, .int v3)], [.int 1, .int ((4 : Int32) + (v3 - v3 / 4 * 4)), .ref 97], (q_kM (q_sA s 33 (upd (s.1 33) ((v3 / 4).toNatClampNeg) (vp_nar .boolean 1))) c n))) 8 (fun _ _ => rfl) ?_
  refine q_RP_as fun i911 => ?_
  generalize (q_sA s 33 (upd (s.1 33) ((v3 / 4).toNatClampNeg) (vp_nar .boolean 1))) = r661
  refine q_RP_let ?_
  show q_RP _ _ _ (113, [(4, .int 1), (0, .ref 64), (2, .int v2), (3, .int v3)], [.int 1, .int ((4 : Int32) + (v3 - v3 / 4 * 4)), .ref 97], (q_kM r661 c n)) _ _
  refine q_RP_rsT (g2 := (114, [(4, .int 1), (0, .ref 64), (2, .int v2), (3, .int v3)], [], (q_kM (q_sA r661 33 (upd (r661.1 33) (((4 : Int32) + (v3 - v3 / 4 * 4)).toNatClampNeg) (vp_nar .boolean 1))) c n))) rfl q_wM33 i911 ?_
  refine q_RP_seg (g2 := (43, [(3, .int (v3 + 1)), (4, .int 1), (0, .ref 64), (2, .int v2)], [], (q_kM (q_sA r661 33 (upd (r661.1 33) (((4 : Int32) + (v3 - v3 / 4 * 4)).toNatClampNeg) (vp_nar .boolean 1))) c n))) 2 (fun _ _ => rfl) ?_
  exact q_RP_xt (q_xt_mk (q_mn1 2 rfl (q_mn1 3 rfl (q_mn1 0 rfl q_mn0))) rfl) (hk43 (q_sA r661 33 (upd (r661.1 33) (((4 : Int32) + (v3 - v3 / 4 * 4)).toNatClampNeg) (vp_nar .boolean 1))) v2 (v3 + 1))
def dz_M208_64_43 (k35 : q_S → Int32 → Option (q_S × Int32)) (m : Nat) : q_S → Int32 → Int32 → Option (q_S × Int32) := Nat.rec (motive := fun _ => q_S → Int32 → Int32 → Option (q_S × Int32)) (fun _ _ _ => none) (fun _ k43 s v2 v3 =>
  cond (decide (v3 < 16)) (cond (q_in v3 16) (cond (decide ((s.1 7) (v3.toNatClampNeg) = 0)) (k43 s v2 (v3 + 1)) (cond (q_in (v3 / 4) 8) (cond (decide ((s.1 33) ((v3 / 4).toNatClampNeg) = 0)) (cond (q_in ((4 : Int32) + (v3 - v3 / 4 * 4)) 8) (cond (decide ((s.1 33) (((4 : Int32) + (v3 - v3 / 4 * 4)).toNatClampNeg) = 0)) (q_let ((q_sA s 33 (upd (s.1 33) ((v3 / 4).toNatClampNeg) (vp_nar .boolean 0)))) fun r660 => k43 (q_sA r660 33 (upd (r660.1 33) (((4 : Int32) + (v3 - v3 / 4 * 4)).toNatClampNeg) (vp_nar .boolean 0))) v2 (v3 + 1)) (dz_M208_64_85 k35 k43 s v2 v3)) none) (dz_M208_64_85 k35 k43 s v2 v3)) none)) none) (k35 s (v2 + 1))) m
theorem dzs_M208_64_43 (k35 : q_S → Int32 → Option (q_S × Int32)) (m : Nat) (s : q_S) (v2 : Int32) (v3 : Int32) : dz_M208_64_43 k35 (m + 1) s v2 v3 = (fun k43 : q_S → Int32 → Int32 → Option (q_S × Int32) =>
  cond (decide (v3 < 16)) (cond (q_in v3 16) (cond (decide ((s.1 7) (v3.toNatClampNeg) = 0)) (k43 s v2 (v3 + 1)) (cond (q_in (v3 / 4) 8) (cond (decide ((s.1 33) ((v3 / 4).toNatClampNeg) = 0)) (cond (q_in ((4 : Int32) + (v3 - v3 / 4 * 4)) 8) (cond (decide ((s.1 33) (((4 : Int32) + (v3 - v3 / 4 * 4)).toNatClampNeg) = 0)) (q_let ((q_sA s 33 (upd (s.1 33) ((v3 / 4).toNatClampNeg) (vp_nar .boolean 0)))) fun r660 => k43 (q_sA r660 33 (upd (r660.1 33) (((4 : Int32) + (v3 - v3 / 4 * 4)).toNatClampNeg) (vp_nar .boolean 0))) v2 (v3 + 1)) (dz_M208_64_85 k35 k43 s v2 v3)) none) (dz_M208_64_85 k35 k43 s v2 v3)) none)) none) (k35 s (v2 + 1))) (dz_M208_64_43 k35 m) := rfl
set_option maxHeartbeats 4000000 in
theorem dzt_M208_64_43 (c n : Nat) (k35 : q_S → Int32 → Option (q_S × Int32)) (hk35 : ∀ (s : q_S) (v2 : Int32), q_RP q_TB0 1 207 (35, [(0, .ref 64), (2, .int v2)], [], (q_kM s c n)) (q_oIM c n) (k35 s v2)) : ∀ (m : Nat) (s : q_S) (v2 : Int32) (v3 : Int32), q_RP q_TB0 1 207 (43, [(0, .ref 64), (2, .int v2), (3, .int v3)], [], (q_kM s c n)) (q_oIM c n) (dz_M208_64_43 k35 m s v2 v3) := by
  intro m
  induction m with
  | zero => intro s v2 v3; exact q_RP_no
  | succ m ih =>
    intro s v2 v3
    have hk43 := ih
    clear ih
    rw [dzs_M208_64_43]
    generalize dz_M208_64_43 k35 m = k43 at hk43 ⊢
    dsimp only
    refine q_RP_seg (g2 := (46, [(0, .ref 64), (2, .int v2), (3, .int v3)], [.int 16, .int v3], (q_kM s c n))) 2 (fun _ _ => rfl) ?_
    cases h903 : decide (v3 < 16) with
    | true =>
      refine q_RP_cT ?_
      refine q_RP_rsF (g2 := (49, [(0, .ref 64), (2, .int v2), (3, .int v3)], [], (q_kM s c n))) rfl rfl (q_d_geT h903) ?_
      refine q_RP_seg (g2 := (54, [(0, .ref 64), (2, .int v2), (3, .int v3)], [.int v3, .ref 71], (q_kM s c n))) 3 (fun _ _ => rfl) ?_
      refine q_RP_as fun i904 => ?_
      refine q_RP_rsT (g2 := (55, [(0, .ref 64), (2, .int v2), (3, .int v3)], [.int ((s.1 7) (v3.toNatClampNeg))], (q_kM s c n))) rfl rfl i904 ?_
      cases h905 : decide ((s.1 7) (v3.toNatClampNeg) = 0) with
      | true =>
        refine q_RP_cT ?_
        refine q_RP_rsF (g2 := (58, [(0, .ref 64), (2, .int v2), (3, .int v3)], [], (q_kM s c n))) rfl rfl (q_d_neT h905) ?_
        refine q_RP_seg (g2 := (43, [(3, .int (v3 + 1)), (0, .ref 64), (2, .int v2)], [], (q_kM s c n))) 3 (fun _ _ => rfl) ?_
        exact q_RP_xt (q_xt_mk (q_mn1 1 rfl (q_mn1 2 rfl (q_mn1 0 rfl q_mn0))) rfl) (hk43 s v2 (v3 + 1))
      | false =>
        refine q_RP_cF ?_
        refine q_RP_rsT (g2 := (61, [(0, .ref 64), (2, .int v2), (3, .int v3)], [], (q_kM s c n))) rfl rfl (q_d_neF h905) ?_
        refine q_RP_seg (g2 := (68, [(0, .ref 64), (2, .int v2), (3, .int v3)], [.int (v3 / 4), .ref 97], (q_kM s c n))) 5 (fun _ _ => rfl) ?_
        refine q_RP_as fun i906 => ?_
        refine q_RP_rsT (g2 := (69, [(0, .ref 64), (2, .int v2), (3, .int v3)], [.int ((s.1 33) ((v3 / 4).toNatClampNeg))], (q_kM s c n))) rfl rfl i906 ?_
        cases h907 : decide ((s.1 33) ((v3 / 4).toNatClampNeg) = 0) with
        | true =>
          refine q_RP_cT ?_
          refine q_RP_rsF (g2 := (72, [(0, .ref 64), (2, .int v2), (3, .int v3)], [], (q_kM s c n))) rfl rfl (q_d_neT h907) ?_
          refine q_RP_seg (g2 := (81, [(0, .ref 64), (2, .int v2), (3, .int v3)], [.int ((4 : Int32) + (v3 - v3 / 4 * 4)), .ref 97], (q_kM s c n))) 7 (fun _ _ => rfl) ?_
          refine q_RP_as fun i908 => ?_
          refine q_RP_rsT (g2 := (82, [(0, .ref 64), (2, .int v2), (3, .int v3)], [.int ((s.1 33) (((4 : Int32) + (v3 - v3 / 4 * 4)).toNatClampNeg))], (q_kM s c n))) rfl rfl i908 ?_
          cases h909 : decide ((s.1 33) (((4 : Int32) + (v3 - v3 / 4 * 4)).toNatClampNeg) = 0) with
          | true =>
            refine q_RP_cT ?_
            refine q_RP_rsT (g2 := (89, [(0, .ref 64), (2, .int v2), (3, .int v3)], [], (q_kM s c n))) rfl rfl h909 ?_
            refine q_RP_seg (g2 := (101, [(4, .int 0), (0, .ref 64), (2, .int v2), (3, .int v3)], [.int 0, .int (v3 / 4), .ref 97], (q_kM s c n))) 8 (fun _ _ => rfl) ?_
            refine q_RP_rsT (g2 := (102, [(4, .int 0), (0, .ref 64), (2, .int v2), (3, .int v3)], [], (q_kM (q_sA s 33 (upd (s.1 33) ((v3 / 4).toNatClampNeg) (vp_nar .boolean 0))) c n))) rfl q_wM33 i906 ?_
            refine q_RP_seg (g2 := (113, [(4, .int 0), (0, .ref 64), (2, .int v2), (3, .int v3)], [.int 0, .int ((4 : Int32) + (v3 - v3 / 4 * 4)), .ref 97], (q_kM (q_sA s 33 (upd (s.1 33) ((v3 / 4).toNatClampNeg) (vp_nar .boolean 0))) c n))) 8 (fun _ _ => rfl) ?_
            generalize (q_sA s 33 (upd (s.1 33) ((v3 / 4).toNatClampNeg) (vp_nar .boolean 0))) = r660
            refine q_RP_let ?_
            show q_RP _ _ _ (113, [(4, .int 0), (0, .ref 64), (2, .int v2), (3, .int v3)], [.int 0, .int ((4 : Int32) + (v3 - v3 / 4 * 4)), .ref 97], (q_kM r660 c n)) _ _
            refine q_RP_rsT (g2 := (114, [(4, .int 0), (0, .ref 64), (2, .int v2), (3, .int v3)], [], (q_kM (q_sA r660 33 (upd (r660.1 33) (((4 : Int32) + (v3 - v3 / 4 * 4)).toNatClampNeg) (vp_nar .boolean 0))) c n))) rfl q_wM33 i908 ?_
            refine q_RP_seg (g2 := (43, [(3, .int (v3 + 1)), (4, .int 0), (0, .ref 64), (2, .int v2)], [], (q_kM (q_sA r660 33 (upd (r660.1 33) (((4 : Int32) + (v3 - v3 / 4 * 4)).toNatClampNeg) (vp_nar .boolean 0))) c n))) 2 (fun _ _ => rfl) ?_
            exact q_RP_xt (q_xt_mk (q_mn1 2 rfl (q_mn1 3 rfl (q_mn1 0 rfl q_mn0))) rfl) (hk43 (q_sA r660 33 (upd (r660.1 33) (((4 : Int32) + (v3 - v3 / 4 * 4)).toNatClampNeg) (vp_nar .boolean 0))) v2 (v3 + 1))
          | false =>
            refine q_RP_cF ?_
            refine q_RP_rsF (g2 := (85, [(0, .ref 64), (2, .int v2), (3, .int v3)], [], (q_kM s c n))) rfl rfl h909 ?_
            exact (dzt_M208_64_85 c n k35 k43 s hk35 hk43 v2 v3)
        | false =>
          refine q_RP_cF ?_
          refine q_RP_rsT (g2 := (85, [(0, .ref 64), (2, .int v2), (3, .int v3)], [], (q_kM s c n))) rfl rfl (q_d_neF h907) ?_
          exact (dzt_M208_64_85 c n k35 k43 s hk35 hk43 v2 v3)
    | false =>
      refine q_RP_cF ?_
      refine q_RP_rsT (g2 := (120, [(0, .ref 64), (2, .int v2), (3, .int v3)], [], (q_kM s c n))) rfl rfl (q_d_geF h903) ?_
      refine q_RP_seg (g2 := (35, [(2, .int (v2 + 1)), (0, .ref 64), (3, .int v3)], [], (q_kM s c n))) 2 (fun _ _ => rfl) ?_
      exact q_RP_xt (q_xt_mk (q_mn1 1 rfl (q_mn1 0 rfl q_mn0)) rfl) (hk35 s (v2 + 1))
def dz_M208_64_130 (m : Nat) : q_S → Int32 → Int32 → Option (q_S × Int32) := Nat.rec (motive := fun _ => q_S → Int32 → Int32 → Option (q_S × Int32)) (fun _ _ _ => none) (fun _ k130 s v2 v3 =>
  cond (decide (v3 < 4)) (cond (q_in ((4 : Int32) + v3) 8) (cond (decide ((s.1 33) (((4 : Int32) + v3).toNatClampNeg) = 0)) (k130 s (v2 + 0) (v3 + 1)) (k130 s (v2 + ((1 : Int32) <<< (v3 &&& 31))) (v3 + 1))) none) (some (s, v2))) m
theorem dzs_M208_64_130 (m : Nat) (s : q_S) (v2 : Int32) (v3 : Int32) : dz_M208_64_130 (m + 1) s v2 v3 = (fun k130 : q_S → Int32 → Int32 → Option (q_S × Int32) =>
  cond (decide (v3 < 4)) (cond (q_in ((4 : Int32) + v3) 8) (cond (decide ((s.1 33) (((4 : Int32) + v3).toNatClampNeg) = 0)) (k130 s (v2 + 0) (v3 + 1)) (k130 s (v2 + ((1 : Int32) <<< (v3 &&& 31))) (v3 + 1))) none) (some (s, v2))) (dz_M208_64_130 m) := rfl
set_option maxHeartbeats 4000000 in
theorem dzt_M208_64_130 (c n : Nat) : ∀ (m : Nat) (s : q_S) (v2 : Int32) (v3 : Int32), q_RP q_TB0 1 207 (130, [(0, .ref 64), (2, .int v2), (3, .int v3)], [], (q_kM s c n)) (q_oIM c n) (dz_M208_64_130 m s v2 v3) := by
  intro m
  induction m with
  | zero => intro s v2 v3; exact q_RP_no
  | succ m ih =>
    intro s v2 v3
    have hk130 := ih
    clear ih
    rw [dzs_M208_64_130]
    generalize dz_M208_64_130 m = k130 at hk130 ⊢
    dsimp only
    refine q_RP_seg (g2 := (132, [(0, .ref 64), (2, .int v2), (3, .int v3)], [.int 4, .int v3], (q_kM s c n))) 2 (fun _ _ => rfl) ?_
    cases h912 : decide (v3 < 4) with
    | true =>
      refine q_RP_cT ?_
      refine q_RP_rsF (g2 := (135, [(0, .ref 64), (2, .int v2), (3, .int v3)], [], (q_kM s c n))) rfl rfl (q_d_geT h912) ?_
      refine q_RP_seg (g2 := (143, [(0, .ref 64), (2, .int v2), (3, .int v3)], [.int ((4 : Int32) + v3), .ref 97, .int v2], (q_kM s c n))) 6 (fun _ _ => rfl) ?_
      refine q_RP_as fun i913 => ?_
      refine q_RP_rsT (g2 := (144, [(0, .ref 64), (2, .int v2), (3, .int v3)], [.int ((s.1 33) (((4 : Int32) + v3).toNatClampNeg)), .int v2], (q_kM s c n))) rfl rfl i913 ?_
      cases h914 : decide ((s.1 33) (((4 : Int32) + v3).toNatClampNeg) = 0) with
      | true =>
        refine q_RP_cT ?_
        refine q_RP_rsT (g2 := (153, [(0, .ref 64), (2, .int v2), (3, .int v3)], [.int v2], (q_kM s c n))) rfl rfl h914 ?_
        refine q_RP_seg (g2 := (130, [(3, .int (v3 + 1)), (2, .int (v2 + 0)), (0, .ref 64)], [], (q_kM s c n))) 5 (fun _ _ => rfl) ?_
        exact q_RP_xt (q_xt_mk (q_mn1 2 rfl (q_mn1 1 rfl (q_mn1 0 rfl q_mn0))) rfl) (hk130 s (v2 + 0) (v3 + 1))
      | false =>
        refine q_RP_cF ?_
        refine q_RP_rsF (g2 := (147, [(0, .ref 64), (2, .int v2), (3, .int v3)], [.int v2], (q_kM s c n))) rfl rfl h914 ?_
        refine q_RP_seg (g2 := (130, [(3, .int (v3 + 1)), (2, .int (v2 + ((1 : Int32) <<< (v3 &&& 31)))), (0, .ref 64)], [], (q_kM s c n))) 8 (fun _ _ => rfl) ?_
        exact q_RP_xt (q_xt_mk (q_mn1 2 rfl (q_mn1 1 rfl (q_mn1 0 rfl q_mn0))) rfl) (hk130 s (v2 + ((1 : Int32) <<< (v3 &&& 31))) (v3 + 1))
    | false =>
      refine q_RP_cF ?_
      refine q_RP_rsT (g2 := (162, [(0, .ref 64), (2, .int v2), (3, .int v3)], [], (q_kM s c n))) rfl rfl (q_d_geF h912) ?_
      refine q_RP_seg (g2 := (163, [(0, .ref 64), (2, .int v2), (3, .int v3)], [.int v2], (q_kM s c n))) 1 (fun _ _ => rfl) ?_
      exact q_RP_ret rfl rfl rfl
def dz_M208_64_35 (m : Nat) : q_S → Int32 → Option (q_S × Int32) := Nat.rec (motive := fun _ => q_S → Int32 → Option (q_S × Int32)) (fun _ _ => none) (fun _ k35 s v2 =>
  cond (decide (v2 < 8)) (dz_M208_64_43 k35 5000 s v2 0) (dz_M208_64_130 5000 s 0 0)) m
theorem dzs_M208_64_35 (m : Nat) (s : q_S) (v2 : Int32) : dz_M208_64_35 (m + 1) s v2 = (fun k35 : q_S → Int32 → Option (q_S × Int32) =>
  cond (decide (v2 < 8)) (dz_M208_64_43 k35 5000 s v2 0) (dz_M208_64_130 5000 s 0 0)) (dz_M208_64_35 m) := rfl
set_option maxHeartbeats 4000000 in
theorem dzt_M208_64_35 (c n : Nat) : ∀ (m : Nat) (s : q_S) (v2 : Int32), q_RP q_TB0 1 207 (35, [(0, .ref 64), (2, .int v2)], [], (q_kM s c n)) (q_oIM c n) (dz_M208_64_35 m s v2) := by
  intro m
  induction m with
  | zero => intro s v2; exact q_RP_no
  | succ m ih =>
    intro s v2
    have hk35 := ih
    clear ih
    rw [dzs_M208_64_35]
    generalize dz_M208_64_35 m = k35 at hk35 ⊢
    dsimp only
    refine q_RP_seg (g2 := (38, [(0, .ref 64), (2, .int v2)], [.int 8, .int v2], (q_kM s c n))) 2 (fun _ _ => rfl) ?_
    cases h902 : decide (v2 < 8) with
    | true =>
      refine q_RP_cT ?_
      refine q_RP_rsF (g2 := (41, [(0, .ref 64), (2, .int v2)], [], (q_kM s c n))) rfl rfl (q_d_geT h902) ?_
      refine q_RP_seg (g2 := (43, [(3, .int 0), (0, .ref 64), (2, .int v2)], [], (q_kM s c n))) 2 (fun _ _ => rfl) ?_
      exact q_RP_xt (q_xt_mk (q_mn1 1 rfl (q_mn1 2 rfl (q_mn1 0 rfl q_mn0))) rfl) (dzt_M208_64_43 c n k35 hk35 5000 s v2 0)
    | false =>
      refine q_RP_cF ?_
      refine q_RP_rsT (g2 := (126, [(0, .ref 64), (2, .int v2)], [], (q_kM s c n))) rfl rfl (q_d_geF h902) ?_
      refine q_RP_seg (g2 := (130, [(3, .int 0), (2, .int 0), (0, .ref 64)], [], (q_kM s c n))) 4 (fun _ _ => rfl) ?_
      exact q_RP_xt (q_xt_mk (q_mn1 2 rfl (q_mn1 1 rfl (q_mn1 0 rfl q_mn0))) rfl) (dzt_M208_64_130 c n 5000 s 0 0)
def dz_M208_64_2 (m : Nat) : q_S → Int32 → Int32 → Option (q_S × Int32) := Nat.rec (motive := fun _ => q_S → Int32 → Int32 → Option (q_S × Int32)) (fun _ _ _ => none) (fun _ k2 s v1 v2 =>
  cond (decide (v2 < 4)) (q_let (dz_M206 s v1 v2) fun r657 => cond r657 (cond (q_in v2 8) (cond (q_in ((4 : Int32) + v2) 8) (q_let ((q_sA s 33 (upd (s.1 33) (v2.toNatClampNeg) (vp_nar .boolean 1)))) fun r658 => k2 (q_sA r658 33 (upd (r658.1 33) (((4 : Int32) + v2).toNatClampNeg) (vp_nar .boolean 0))) v1 (v2 + 1)) none) none) (cond (q_in v2 8) (cond (q_in ((4 : Int32) + v2) 8) (q_let ((q_sA s 33 (upd (s.1 33) (v2.toNatClampNeg) (vp_nar .boolean 0)))) fun r659 => k2 (q_sA r659 33 (upd (r659.1 33) (((4 : Int32) + v2).toNatClampNeg) (vp_nar .boolean 0))) v1 (v2 + 1)) none) none)) (dz_M208_64_35 5000 s 0)) m
theorem dzs_M208_64_2 (m : Nat) (s : q_S) (v1 : Int32) (v2 : Int32) : dz_M208_64_2 (m + 1) s v1 v2 = (fun k2 : q_S → Int32 → Int32 → Option (q_S × Int32) =>
  cond (decide (v2 < 4)) (q_let (dz_M206 s v1 v2) fun r657 => cond r657 (cond (q_in v2 8) (cond (q_in ((4 : Int32) + v2) 8) (q_let ((q_sA s 33 (upd (s.1 33) (v2.toNatClampNeg) (vp_nar .boolean 1)))) fun r658 => k2 (q_sA r658 33 (upd (r658.1 33) (((4 : Int32) + v2).toNatClampNeg) (vp_nar .boolean 0))) v1 (v2 + 1)) none) none) (cond (q_in v2 8) (cond (q_in ((4 : Int32) + v2) 8) (q_let ((q_sA s 33 (upd (s.1 33) (v2.toNatClampNeg) (vp_nar .boolean 0)))) fun r659 => k2 (q_sA r659 33 (upd (r659.1 33) (((4 : Int32) + v2).toNatClampNeg) (vp_nar .boolean 0))) v1 (v2 + 1)) none) none)) (dz_M208_64_35 5000 s 0)) (dz_M208_64_2 m) := rfl
set_option maxHeartbeats 4000000 in
theorem dzt_M208_64_2 (c n : Nat) : ∀ (m : Nat) (s : q_S) (v1 : Int32) (v2 : Int32), q_RP q_TB0 1 207 (2, [(0, .ref 64), (1, .int v1), (2, .int v2)], [], (q_kM s c n)) (q_oIM c n) (dz_M208_64_2 m s v1 v2) := by
  intro m
  induction m with
  | zero => intro s v1 v2; exact q_RP_no
  | succ m ih =>
    intro s v1 v2
    have hk2 := ih
    clear ih
    rw [dzs_M208_64_2]
    generalize dz_M208_64_2 m = k2 at hk2 ⊢
    dsimp only
    refine q_RP_seg (g2 := (4, [(0, .ref 64), (1, .int v1), (2, .int v2)], [.int 4, .int v2], (q_kM s c n))) 2 (fun _ _ => rfl) ?_
    cases h896 : decide (v2 < 4) with
    | true =>
      refine q_RP_cT ?_
      refine q_RP_rsF (g2 := (7, [(0, .ref 64), (1, .int v1), (2, .int v2)], [], (q_kM s c n))) rfl rfl (q_d_geT h896) ?_
      refine q_RP_seg (g2 := (14, [(0, .ref 64), (1, .int v1), (2, .int v2)], [.int v2, .int v1, .int v2, .ref 97], (q_kM s c n))) 5 (fun _ _ => rfl) ?_
      refine q_RP_call (v := (some (.int (q_b (dz_M206 s v1 v2))))) (h2 := (q_kM s c n)) rfl rfl ((dzt_M206 s c n v1 v2).le (Nat.le_of_ble_eq_true rfl)) ?_
      generalize dz_M206 s v1 v2 = r657
      refine q_RP_let ?_
      show q_RP _ _ _ (17, [(0, .ref 64), (1, .int v1), (2, .int v2)], [.int (q_b r657), .int v2, .ref 97], (q_kM s c n)) _ _
      cases h897 : r657 with
      | true =>
        refine q_RP_cT ?_
        show q_RP _ _ _ (17, [(0, .ref 64), (1, .int v1), (2, .int v2)], [.int 1, .int v2, .ref 97], (q_kM s c n)) _ _
        refine q_RP_as fun i898 => ?_
        refine q_RP_rsT (g2 := (18, [(0, .ref 64), (1, .int v1), (2, .int v2)], [], (q_kM (q_sA s 33 (upd (s.1 33) (v2.toNatClampNeg) (vp_nar .boolean 1))) c n))) rfl q_wM33 i898 ?_
        refine q_RP_seg (g2 := (26, [(0, .ref 64), (1, .int v1), (2, .int v2)], [.int 0, .int ((4 : Int32) + v2), .ref 97], (q_kM (q_sA s 33 (upd (s.1 33) (v2.toNatClampNeg) (vp_nar .boolean 1))) c n))) 6 (fun _ _ => rfl) ?_
        refine q_RP_as fun i899 => ?_
        generalize (q_sA s 33 (upd (s.1 33) (v2.toNatClampNeg) (vp_nar .boolean 1))) = r658
        refine q_RP_let ?_
        show q_RP _ _ _ (26, [(0, .ref 64), (1, .int v1), (2, .int v2)], [.int 0, .int ((4 : Int32) + v2), .ref 97], (q_kM r658 c n)) _ _
        refine q_RP_rsT (g2 := (27, [(0, .ref 64), (1, .int v1), (2, .int v2)], [], (q_kM (q_sA r658 33 (upd (r658.1 33) (((4 : Int32) + v2).toNatClampNeg) (vp_nar .boolean 0))) c n))) rfl q_wM33 i899 ?_
        refine q_RP_seg (g2 := (2, [(2, .int (v2 + 1)), (0, .ref 64), (1, .int v1)], [], (q_kM (q_sA r658 33 (upd (r658.1 33) (((4 : Int32) + v2).toNatClampNeg) (vp_nar .boolean 0))) c n))) 2 (fun _ _ => rfl) ?_
        exact q_RP_xt (q_xt_mk (q_mn1 1 rfl (q_mn1 2 rfl (q_mn1 0 rfl q_mn0))) rfl) (hk2 (q_sA r658 33 (upd (r658.1 33) (((4 : Int32) + v2).toNatClampNeg) (vp_nar .boolean 0))) v1 (v2 + 1))
      | false =>
        refine q_RP_cF ?_
        show q_RP _ _ _ (17, [(0, .ref 64), (1, .int v1), (2, .int v2)], [.int 0, .int v2, .ref 97], (q_kM s c n)) _ _
        refine q_RP_as fun i900 => ?_
        refine q_RP_rsT (g2 := (18, [(0, .ref 64), (1, .int v1), (2, .int v2)], [], (q_kM (q_sA s 33 (upd (s.1 33) (v2.toNatClampNeg) (vp_nar .boolean 0))) c n))) rfl q_wM33 i900 ?_
        refine q_RP_seg (g2 := (26, [(0, .ref 64), (1, .int v1), (2, .int v2)], [.int 0, .int ((4 : Int32) + v2), .ref 97], (q_kM (q_sA s 33 (upd (s.1 33) (v2.toNatClampNeg) (vp_nar .boolean 0))) c n))) 6 (fun _ _ => rfl) ?_
        refine q_RP_as fun i901 => ?_
        generalize (q_sA s 33 (upd (s.1 33) (v2.toNatClampNeg) (vp_nar .boolean 0))) = r659
        refine q_RP_let ?_
        show q_RP _ _ _ (26, [(0, .ref 64), (1, .int v1), (2, .int v2)], [.int 0, .int ((4 : Int32) + v2), .ref 97], (q_kM r659 c n)) _ _
        refine q_RP_rsT (g2 := (27, [(0, .ref 64), (1, .int v1), (2, .int v2)], [], (q_kM (q_sA r659 33 (upd (r659.1 33) (((4 : Int32) + v2).toNatClampNeg) (vp_nar .boolean 0))) c n))) rfl q_wM33 i901 ?_
        refine q_RP_seg (g2 := (2, [(2, .int (v2 + 1)), (0, .ref 64), (1, .int v1)], [], (q_kM (q_sA r659 33 (upd (r659.1 33) (((4 : Int32) + v2).toNatClampNeg) (vp_nar .boolean 0))) c n))) 2 (fun _ _ => rfl) ?_
        exact q_RP_xt (q_xt_mk (q_mn1 1 rfl (q_mn1 2 rfl (q_mn1 0 rfl q_mn0))) rfl) (hk2 (q_sA r659 33 (upd (r659.1 33) (((4 : Int32) + v2).toNatClampNeg) (vp_nar .boolean 0))) v1 (v2 + 1))
    | false =>
      refine q_RP_cF ?_
      refine q_RP_rsT (g2 := (33, [(0, .ref 64), (1, .int v1), (2, .int v2)], [], (q_kM s c n))) rfl rfl (q_d_geF h896) ?_
      refine q_RP_seg (g2 := (35, [(2, .int 0), (0, .ref 64), (1, .int v1)], [], (q_kM s c n))) 2 (fun _ _ => rfl) ?_
      exact q_RP_xt (q_xt_mk (q_mn1 1 rfl (q_mn1 0 rfl q_mn0)) rfl) (dzt_M208_64_35 c n 5000 s 0)
def dz_M208_64 (s : q_S) (a1 : Int32) : Option (q_S × Int32) :=
  dz_M208_64_2 5000 s a1 0
set_option maxHeartbeats 4000000 in
theorem dzt_M208_64 (s : q_S) (c n : Nat) (a1 : Int32) (x : q_S × Int32) (h : dz_M208_64 s a1 = some x) : q_Ca q_TB0 2 207 [.ref 64, .int a1] (q_kM s c n) ((q_oIM c n) x) := by
  refine q_CaP_of (φ := (q_oIM c n)) (Nat.le_of_ble_eq_true rfl) ?_ h
  clear h
  unfold dz_M208_64
  refine q_RP_seg (g2 := (2, [(2, .int 0), (0, .ref 64), (1, .int a1)], [], (q_kM s c n))) 2 (fun _ _ => rfl) ?_
  exact q_RP_xt (q_xt_mk (q_mn1 1 rfl (q_mn1 2 rfl (q_mn1 0 rfl q_mn0))) rfl) (dzt_M208_64_2 c n 5000 s a1 0)
def dz_M209_64 (s : q_S) : Bool :=
  cond (decide ((s.1 14) 14 < (s.1 14) 13)) (true) (false)
set_option maxHeartbeats 4000000 in
theorem dzt_M209_64 (s : q_S) (c n : Nat) : q_Ca q_TB0 1 208 [.ref 64] (q_kM s c n) ((q_oB (q_kM s c n)) (dz_M209_64 s)) := by
  refine q_CaT_of (φ := (q_oB (q_kM s c n))) (Nat.le_of_ble_eq_true rfl) ?_
  unfold dz_M209_64
  refine q_RT_seg (g2 := (7, [(0, .ref 64)], [.int ((s.1 14) 14)], (q_kM s c n))) 4 (fun _ _ => rfl) ?_
  refine q_RT_seg (g2 := (14, [(0, .ref 64)], [.int ((s.1 14) 13), .int ((s.1 14) 14)], (q_kM s c n))) 4 (fun _ _ => rfl) ?_
  cases h915 : decide ((s.1 14) 14 < (s.1 14) 13) with
  | true =>
    refine q_RT_cT ?_
    refine q_RT_rsF (g2 := (17, [(0, .ref 64)], [], (q_kM s c n))) rfl rfl (q_d_geT h915) ?_
    refine q_RT_seg (g2 := (22, [(0, .ref 64)], [.int 1], (q_kM s c n))) 2 (fun _ _ => rfl) ?_
    exact q_RT_ret rfl rfl rfl
  | false =>
    refine q_RT_cF ?_
    refine q_RT_rsT (g2 := (21, [(0, .ref 64)], [], (q_kM s c n))) rfl rfl (q_d_geF h915) ?_
    refine q_RT_seg (g2 := (22, [(0, .ref 64)], [.int 0], (q_kM s c n))) 1 (fun _ _ => rfl) ?_
    exact q_RT_ret rfl rfl rfl
def dz_M210_64 (s : q_S) (a1 : Int32) : Option (q_S × Int32) :=
  cond (decide (a1 = 9)) (q_let (dz_M207_64 s) fun r664 => some (s, r664)) (cond (decide (a1 = 10)) (some (s, ((s.1 14) 9))) (q_let (dz_M202 s a1 12 15) fun r665 => cond r665 (cond (decide (a1 - a1 / 2 * 2 = 0)) (cond (q_in ((5 : Int32) + ((a1 - 12) / 2)) 24) (some (s, (((s.1 14) (((5 : Int32) + ((a1 - 12) / 2)).toNatClampNeg)) - ((s.1 14) (((5 : Int32) + ((a1 - 12) / 2)).toNatClampNeg)) / 256 * 256))) none) (cond (q_in ((5 : Int32) + ((a1 - 12) / 2)) 24) (some (s, ((((s.1 14) (((5 : Int32) + ((a1 - 12) / 2)).toNatClampNeg)) / 256) - (((s.1 14) (((5 : Int32) + ((a1 - 12) / 2)).toNatClampNeg)) / 256) / 256 * 256))) none)) (cond (decide (a1 = 29)) (some (s, ((s.1 14) 10))) (cond (decide (a1 = 30)) (some (s, ((s.1 14) 11))) (cond (decide (a1 = 31)) ((dz_M208_64 s ((s.1 4) 31)).bind fun r666 => some (r666.1, (r666.2 + (16 * ((r666.1.1 14) 12))))) (cond (decide (a1 = 44)) (q_let (dz_M209_64 s) fun r667 => cond r667 (some (s, ((((s.1 4) 44) + (2 * ((s.1 14) 16))) + 4))) (some (s, ((((s.1 4) 44) + (2 * ((s.1 14) 16))) + 0)))) (cond (decide (44 < a1)) (some (s, 0)) (cond (q_in a1 48) (some (s, ((s.1 4) (a1.toNatClampNeg)))) none))))))))
set_option maxHeartbeats 4000000 in
theorem dzt_M210_64 (s : q_S) (c n : Nat) (a1 : Int32) (x : q_S × Int32) (h : dz_M210_64 s a1 = some x) : q_Ca q_TB0 3 209 [.ref 64, .int a1] (q_kM s c n) ((q_oIM c n) x) := by
  refine q_CaP_of (φ := (q_oIM c n)) (Nat.le_of_ble_eq_true rfl) ?_ h
  clear h
  unfold dz_M210_64
  refine q_RP_seg (g2 := (3, [(0, .ref 64), (1, .int a1)], [.int 9, .int a1], (q_kM s c n))) 2 (fun _ _ => rfl) ?_
  cases h920 : decide (a1 = 9) with
  | true =>
    refine q_RP_cT ?_
    refine q_RP_rsF (g2 := (6, [(0, .ref 64), (1, .int a1)], [], (q_kM s c n))) rfl rfl (q_d_neT h920) ?_
    refine q_RP_seg (g2 := (7, [(0, .ref 64), (1, .int a1)], [.ref 64], (q_kM s c n))) 1 (fun _ _ => rfl) ?_
    refine q_RP_call (v := (some (.int (dz_M207_64 s)))) (h2 := (q_kM s c n)) rfl rfl ((dzt_M207_64 s c n).le (Nat.le_of_ble_eq_true rfl)) ?_
    generalize dz_M207_64 s = r664
    refine q_RP_let ?_
    show q_RP _ _ _ (10, [(0, .ref 64), (1, .int a1)], [.int r664], (q_kM s c n)) _ _
    exact q_RP_ret rfl rfl rfl
  | false =>
    refine q_RP_cF ?_
    refine q_RP_rsT (g2 := (11, [(0, .ref 64), (1, .int a1)], [], (q_kM s c n))) rfl rfl (q_d_neF h920) ?_
    refine q_RP_seg (g2 := (14, [(0, .ref 64), (1, .int a1)], [.int 10, .int a1], (q_kM s c n))) 2 (fun _ _ => rfl) ?_
    cases h921 : decide (a1 = 10) with
    | true =>
      refine q_RP_cT ?_
      refine q_RP_rsF (g2 := (17, [(0, .ref 64), (1, .int a1)], [], (q_kM s c n))) rfl rfl (q_d_neT h921) ?_
      refine q_RP_seg (g2 := (24, [(0, .ref 64), (1, .int a1)], [.int ((s.1 14) 9)], (q_kM s c n))) 4 (fun _ _ => rfl) ?_
      exact q_RP_ret rfl rfl rfl
    | false =>
      refine q_RP_cF ?_
      refine q_RP_rsT (g2 := (25, [(0, .ref 64), (1, .int a1)], [], (q_kM s c n))) rfl rfl (q_d_neF h921) ?_
      refine q_RP_seg (g2 := (30, [(0, .ref 64), (1, .int a1)], [.int 15, .int 12, .int a1], (q_kM s c n))) 3 (fun _ _ => rfl) ?_
      refine q_RP_call (v := (some (.int (q_b (dz_M202 s a1 12 15))))) (h2 := (q_kM s c n)) rfl rfl ((dzt_M202 s c n a1 12 15).le (Nat.le_of_ble_eq_true rfl)) ?_
      generalize dz_M202 s a1 12 15 = r665
      refine q_RP_let ?_
      show q_RP _ _ _ (33, [(0, .ref 64), (1, .int a1)], [.int (q_b r665)], (q_kM s c n)) _ _
      cases h922 : r665 with
      | true =>
        refine q_RP_cT ?_
        show q_RP _ _ _ (33, [(0, .ref 64), (1, .int a1)], [.int 1], (q_kM s c n)) _ _
        refine q_RP_seg (g2 := (39, [(0, .ref 64), (1, .int a1)], [.int (a1 - a1 / 2 * 2)], (q_kM s c n))) 4 (fun _ _ => rfl) ?_
        cases h923 : decide (a1 - a1 / 2 * 2 = 0) with
        | true =>
          refine q_RP_cT ?_
          refine q_RP_rsF (g2 := (42, [(0, .ref 64), (1, .int a1)], [], (q_kM s c n))) rfl rfl (q_d_neT h923) ?_
          refine q_RP_seg (g2 := (54, [(0, .ref 64), (1, .int a1)], [.int ((5 : Int32) + ((a1 - 12) / 2)), .ref 78], (q_kM s c n))) 9 (fun _ _ => rfl) ?_
          refine q_RP_as fun i924 => ?_
          refine q_RP_rsT (g2 := (55, [(0, .ref 64), (1, .int a1)], [.int ((s.1 14) (((5 : Int32) + ((a1 - 12) / 2)).toNatClampNeg))], (q_kM s c n))) rfl rfl i924 ?_
          refine q_RP_seg (g2 := (79, [(0, .ref 64), (1, .int a1)], [.int (((s.1 14) (((5 : Int32) + ((a1 - 12) / 2)).toNatClampNeg)) - ((s.1 14) (((5 : Int32) + ((a1 - 12) / 2)).toNatClampNeg)) / 256 * 256)], (q_kM s c n))) 3 (fun _ _ => rfl) ?_
          exact q_RP_ret rfl rfl rfl
        | false =>
          refine q_RP_cF ?_
          refine q_RP_rsT (g2 := (58, [(0, .ref 64), (1, .int a1)], [], (q_kM s c n))) rfl rfl (q_d_neF h923) ?_
          refine q_RP_seg (g2 := (70, [(0, .ref 64), (1, .int a1)], [.int ((5 : Int32) + ((a1 - 12) / 2)), .ref 78], (q_kM s c n))) 9 (fun _ _ => rfl) ?_
          refine q_RP_as fun i925 => ?_
          refine q_RP_rsT (g2 := (71, [(0, .ref 64), (1, .int a1)], [.int ((s.1 14) (((5 : Int32) + ((a1 - 12) / 2)).toNatClampNeg))], (q_kM s c n))) rfl rfl i925 ?_
          refine q_RP_seg (g2 := (79, [(0, .ref 64), (1, .int a1)], [.int ((((s.1 14) (((5 : Int32) + ((a1 - 12) / 2)).toNatClampNeg)) / 256) - (((s.1 14) (((5 : Int32) + ((a1 - 12) / 2)).toNatClampNeg)) / 256) / 256 * 256)], (q_kM s c n))) 4 (fun _ _ => rfl) ?_
          exact q_RP_ret rfl rfl rfl
      | false =>
        refine q_RP_cF ?_
        show q_RP _ _ _ (33, [(0, .ref 64), (1, .int a1)], [.int 0], (q_kM s c n)) _ _
        refine q_RP_seg (g2 := (83, [(0, .ref 64), (1, .int a1)], [.int 29, .int a1], (q_kM s c n))) 3 (fun _ _ => rfl) ?_
        cases h926 : decide (a1 = 29) with
        | true =>
          refine q_RP_cT ?_
          refine q_RP_rsF (g2 := (86, [(0, .ref 64), (1, .int a1)], [], (q_kM s c n))) rfl rfl (q_d_neT h926) ?_
          refine q_RP_seg (g2 := (93, [(0, .ref 64), (1, .int a1)], [.int ((s.1 14) 10)], (q_kM s c n))) 4 (fun _ _ => rfl) ?_
          exact q_RP_ret rfl rfl rfl
        | false =>
          refine q_RP_cF ?_
          refine q_RP_rsT (g2 := (94, [(0, .ref 64), (1, .int a1)], [], (q_kM s c n))) rfl rfl (q_d_neF h926) ?_
          refine q_RP_seg (g2 := (97, [(0, .ref 64), (1, .int a1)], [.int 30, .int a1], (q_kM s c n))) 2 (fun _ _ => rfl) ?_
          cases h927 : decide (a1 = 30) with
          | true =>
            refine q_RP_cT ?_
            refine q_RP_rsF (g2 := (100, [(0, .ref 64), (1, .int a1)], [], (q_kM s c n))) rfl rfl (q_d_neT h927) ?_
            refine q_RP_seg (g2 := (107, [(0, .ref 64), (1, .int a1)], [.int ((s.1 14) 11)], (q_kM s c n))) 4 (fun _ _ => rfl) ?_
            exact q_RP_ret rfl rfl rfl
          | false =>
            refine q_RP_cF ?_
            refine q_RP_rsT (g2 := (108, [(0, .ref 64), (1, .int a1)], [], (q_kM s c n))) rfl rfl (q_d_neF h927) ?_
            refine q_RP_seg (g2 := (111, [(0, .ref 64), (1, .int a1)], [.int 31, .int a1], (q_kM s c n))) 2 (fun _ _ => rfl) ?_
            cases h928 : decide (a1 = 31) with
            | true =>
              refine q_RP_cT ?_
              refine q_RP_rsF (g2 := (114, [(0, .ref 64), (1, .int a1)], [], (q_kM s c n))) rfl rfl (q_d_neT h928) ?_
              refine q_RP_seg (g2 := (122, [(0, .ref 64), (1, .int a1)], [.int ((s.1 4) 31), .ref 64], (q_kM s c n))) 5 (fun _ _ => rfl) ?_
              refine q_RP_bd fun r666 er666 => ?_
              refine q_RP_call (v := (some (.int r666.2))) (h2 := (q_kM r666.1 c n)) rfl rfl ((dzt_M208_64 s c n ((s.1 4) 31) r666 er666).le (Nat.le_of_ble_eq_true rfl)) ?_
              show q_RP _ _ _ (125, [(0, .ref 64), (1, .int a1)], [.int r666.2], (q_kM r666.1 c n)) _ _
              refine q_RP_seg (g2 := (134, [(0, .ref 64), (1, .int a1)], [.int ((r666.1.1 14) 12), .int 16, .int r666.2], (q_kM r666.1 c n))) 5 (fun _ _ => rfl) ?_
              refine q_RP_seg (g2 := (136, [(0, .ref 64), (1, .int a1)], [.int (r666.2 + (16 * ((r666.1.1 14) 12)))], (q_kM r666.1 c n))) 2 (fun _ _ => rfl) ?_
              exact q_RP_ret rfl rfl rfl
            | false =>
              refine q_RP_cF ?_
              refine q_RP_rsT (g2 := (137, [(0, .ref 64), (1, .int a1)], [], (q_kM s c n))) rfl rfl (q_d_neF h928) ?_
              refine q_RP_seg (g2 := (140, [(0, .ref 64), (1, .int a1)], [.int 44, .int a1], (q_kM s c n))) 2 (fun _ _ => rfl) ?_
              cases h929 : decide (a1 = 44) with
              | true =>
                refine q_RP_cT ?_
                refine q_RP_rsF (g2 := (143, [(0, .ref 64), (1, .int a1)], [], (q_kM s c n))) rfl rfl (q_d_neT h929) ?_
                refine q_RP_seg (g2 := (150, [(0, .ref 64), (1, .int a1)], [.int ((s.1 4) 44)], (q_kM s c n))) 4 (fun _ _ => rfl) ?_
                refine q_RP_seg (g2 := (158, [(0, .ref 64), (1, .int a1)], [.int ((s.1 14) 16), .int 2, .int ((s.1 4) 44)], (q_kM s c n))) 5 (fun _ _ => rfl) ?_
                refine q_RP_seg (g2 := (161, [(0, .ref 64), (1, .int a1)], [.ref 64, .int (((s.1 4) 44) + (2 * ((s.1 14) 16)))], (q_kM s c n))) 3 (fun _ _ => rfl) ?_
                refine q_RP_call (v := (some (.int (q_b (dz_M209_64 s))))) (h2 := (q_kM s c n)) rfl rfl ((dzt_M209_64 s c n).le (Nat.le_of_ble_eq_true rfl)) ?_
                generalize dz_M209_64 s = r667
                refine q_RP_let ?_
                show q_RP _ _ _ (164, [(0, .ref 64), (1, .int a1)], [.int (q_b r667), .int (((s.1 4) 44) + (2 * ((s.1 14) 16)))], (q_kM s c n)) _ _
                cases h930 : r667 with
                | true =>
                  refine q_RP_cT ?_
                  show q_RP _ _ _ (164, [(0, .ref 64), (1, .int a1)], [.int 1, .int (((s.1 4) 44) + (2 * ((s.1 14) 16)))], (q_kM s c n)) _ _
                  refine q_RP_seg (g2 := (173, [(0, .ref 64), (1, .int a1)], [.int ((((s.1 4) 44) + (2 * ((s.1 14) 16))) + 4)], (q_kM s c n))) 4 (fun _ _ => rfl) ?_
                  exact q_RP_ret rfl rfl rfl
                | false =>
                  refine q_RP_cF ?_
                  show q_RP _ _ _ (164, [(0, .ref 64), (1, .int a1)], [.int 0, .int (((s.1 4) 44) + (2 * ((s.1 14) 16)))], (q_kM s c n)) _ _
                  refine q_RP_seg (g2 := (173, [(0, .ref 64), (1, .int a1)], [.int ((((s.1 4) 44) + (2 * ((s.1 14) 16))) + 0)], (q_kM s c n))) 3 (fun _ _ => rfl) ?_
                  exact q_RP_ret rfl rfl rfl
              | false =>
                refine q_RP_cF ?_
                refine q_RP_rsT (g2 := (174, [(0, .ref 64), (1, .int a1)], [], (q_kM s c n))) rfl rfl (q_d_neF h929) ?_
                refine q_RP_seg (g2 := (177, [(0, .ref 64), (1, .int a1)], [.int 44, .int a1], (q_kM s c n))) 2 (fun _ _ => rfl) ?_
                cases h931 : decide (44 < a1) with
                | true =>
                  refine q_RP_cT ?_
                  refine q_RP_rsF (g2 := (180, [(0, .ref 64), (1, .int a1)], [], (q_kM s c n))) rfl rfl (q_d_geT h931) ?_
                  refine q_RP_seg (g2 := (190, [(0, .ref 64), (1, .int a1)], [.int 0], (q_kM s c n))) 2 (fun _ _ => rfl) ?_
                  exact q_RP_ret rfl rfl rfl
                | false =>
                  refine q_RP_cF ?_
                  refine q_RP_rsT (g2 := (184, [(0, .ref 64), (1, .int a1)], [], (q_kM s c n))) rfl rfl (q_d_geF h931) ?_
                  refine q_RP_seg (g2 := (189, [(0, .ref 64), (1, .int a1)], [.int a1, .ref 68], (q_kM s c n))) 3 (fun _ _ => rfl) ?_
                  refine q_RP_as fun i932 => ?_
                  refine q_RP_rsT (g2 := (190, [(0, .ref 64), (1, .int a1)], [.int ((s.1 4) (a1.toNatClampNeg))], (q_kM s c n))) rfl rfl i932 ?_
                  exact q_RP_ret rfl rfl rfl
def dz_M211 (s : q_S) (a0 : Int32) : Int32 :=
  cond (decide (a0 = 1)) (2) (cond (decide (a0 = 2)) (5) (cond (decide (a0 = 16)) (3) (q_let (dz_M202 s a0 20 27) fun r668 => cond r668 (6) (cond (decide (a0 = 9)) (8) (q_let (dz_M202 s a0 12 15) fun r669 => cond r669 (8) (q_let (dz_M202 s a0 32 43) fun r670 => cond r670 (8) (cond (decide (a0 = 44)) (1) (4))))))))
set_option maxHeartbeats 4000000 in
theorem dzt_M211 (s : q_S) (c n : Nat) (a0 : Int32) : q_Ca q_TB0 2 210 [.int a0] (q_kM s c n) ((q_oP (q_kM s c n)) (dz_M211 s a0)) := by
  refine q_CaT_of (φ := (q_oP (q_kM s c n))) (Nat.le_of_ble_eq_true rfl) ?_
  unfold dz_M211
  refine q_RT_seg (g2 := (2, [(0, .int a0)], [.int 1, .int a0], (q_kM s c n))) 2 (fun _ _ => rfl) ?_
  cases h933 : decide (a0 = 1) with
  | true =>
    refine q_RT_cT ?_
    refine q_RT_rsF (g2 := (5, [(0, .int a0)], [], (q_kM s c n))) rfl rfl (q_d_neT h933) ?_
    refine q_RT_seg (g2 := (6, [(0, .int a0)], [.int 2], (q_kM s c n))) 1 (fun _ _ => rfl) ?_
    exact q_RT_ret rfl rfl rfl
  | false =>
    refine q_RT_cF ?_
    refine q_RT_rsT (g2 := (7, [(0, .int a0)], [], (q_kM s c n))) rfl rfl (q_d_neF h933) ?_
    refine q_RT_seg (g2 := (9, [(0, .int a0)], [.int 2, .int a0], (q_kM s c n))) 2 (fun _ _ => rfl) ?_
    cases h934 : decide (a0 = 2) with
    | true =>
      refine q_RT_cT ?_
      refine q_RT_rsF (g2 := (12, [(0, .int a0)], [], (q_kM s c n))) rfl rfl (q_d_neT h934) ?_
      refine q_RT_seg (g2 := (13, [(0, .int a0)], [.int 5], (q_kM s c n))) 1 (fun _ _ => rfl) ?_
      exact q_RT_ret rfl rfl rfl
    | false =>
      refine q_RT_cF ?_
      refine q_RT_rsT (g2 := (14, [(0, .int a0)], [], (q_kM s c n))) rfl rfl (q_d_neF h934) ?_
      refine q_RT_seg (g2 := (17, [(0, .int a0)], [.int 16, .int a0], (q_kM s c n))) 2 (fun _ _ => rfl) ?_
      cases h935 : decide (a0 = 16) with
      | true =>
        refine q_RT_cT ?_
        refine q_RT_rsF (g2 := (20, [(0, .int a0)], [], (q_kM s c n))) rfl rfl (q_d_neT h935) ?_
        refine q_RT_seg (g2 := (21, [(0, .int a0)], [.int 3], (q_kM s c n))) 1 (fun _ _ => rfl) ?_
        exact q_RT_ret rfl rfl rfl
      | false =>
        refine q_RT_cF ?_
        refine q_RT_rsT (g2 := (22, [(0, .int a0)], [], (q_kM s c n))) rfl rfl (q_d_neF h935) ?_
        refine q_RT_seg (g2 := (27, [(0, .int a0)], [.int 27, .int 20, .int a0], (q_kM s c n))) 3 (fun _ _ => rfl) ?_
        refine q_RT_call (v := (some (.int (q_b (dz_M202 s a0 20 27))))) (h2 := (q_kM s c n)) rfl rfl ((dzt_M202 s c n a0 20 27).le (Nat.le_of_ble_eq_true rfl)) ?_
        generalize dz_M202 s a0 20 27 = r668
        refine q_RT_let ?_
        show q_RT _ _ _ (30, [(0, .int a0)], [.int (q_b r668)], (q_kM s c n)) _ _
        cases h936 : r668 with
        | true =>
          refine q_RT_cT ?_
          show q_RT _ _ _ (30, [(0, .int a0)], [.int 1], (q_kM s c n)) _ _
          refine q_RT_seg (g2 := (35, [(0, .int a0)], [.int 6], (q_kM s c n))) 2 (fun _ _ => rfl) ?_
          exact q_RT_ret rfl rfl rfl
        | false =>
          refine q_RT_cF ?_
          show q_RT _ _ _ (30, [(0, .int a0)], [.int 0], (q_kM s c n)) _ _
          refine q_RT_seg (g2 := (39, [(0, .int a0)], [.int 9, .int a0], (q_kM s c n))) 3 (fun _ _ => rfl) ?_
          cases h937 : decide (a0 = 9) with
          | true =>
            refine q_RT_cT ?_
            refine q_RT_rsT (g2 := (64, [(0, .int a0)], [], (q_kM s c n))) rfl rfl h937 ?_
            refine q_RT_seg (g2 := (66, [(0, .int a0)], [.int 8], (q_kM s c n))) 1 (fun _ _ => rfl) ?_
            exact q_RT_ret rfl rfl rfl
          | false =>
            refine q_RT_cF ?_
            refine q_RT_rsF (g2 := (42, [(0, .int a0)], [], (q_kM s c n))) rfl rfl h937 ?_
            refine q_RT_seg (g2 := (47, [(0, .int a0)], [.int 15, .int 12, .int a0], (q_kM s c n))) 3 (fun _ _ => rfl) ?_
            refine q_RT_call (v := (some (.int (q_b (dz_M202 s a0 12 15))))) (h2 := (q_kM s c n)) rfl rfl ((dzt_M202 s c n a0 12 15).le (Nat.le_of_ble_eq_true rfl)) ?_
            generalize dz_M202 s a0 12 15 = r669
            refine q_RT_let ?_
            show q_RT _ _ _ (50, [(0, .int a0)], [.int (q_b r669)], (q_kM s c n)) _ _
            cases h938 : r669 with
            | true =>
              refine q_RT_cT ?_
              show q_RT _ _ _ (50, [(0, .int a0)], [.int 1], (q_kM s c n)) _ _
              refine q_RT_seg (g2 := (66, [(0, .int a0)], [.int 8], (q_kM s c n))) 2 (fun _ _ => rfl) ?_
              exact q_RT_ret rfl rfl rfl
            | false =>
              refine q_RT_cF ?_
              show q_RT _ _ _ (50, [(0, .int a0)], [.int 0], (q_kM s c n)) _ _
              refine q_RT_seg (g2 := (58, [(0, .int a0)], [.int 43, .int 32, .int a0], (q_kM s c n))) 4 (fun _ _ => rfl) ?_
              refine q_RT_call (v := (some (.int (q_b (dz_M202 s a0 32 43))))) (h2 := (q_kM s c n)) rfl rfl ((dzt_M202 s c n a0 32 43).le (Nat.le_of_ble_eq_true rfl)) ?_
              generalize dz_M202 s a0 32 43 = r670
              refine q_RT_let ?_
              show q_RT _ _ _ (61, [(0, .int a0)], [.int (q_b r670)], (q_kM s c n)) _ _
              cases h939 : r670 with
              | true =>
                refine q_RT_cT ?_
                show q_RT _ _ _ (61, [(0, .int a0)], [.int 1], (q_kM s c n)) _ _
                refine q_RT_seg (g2 := (66, [(0, .int a0)], [.int 8], (q_kM s c n))) 2 (fun _ _ => rfl) ?_
                exact q_RT_ret rfl rfl rfl
              | false =>
                refine q_RT_cF ?_
                show q_RT _ _ _ (61, [(0, .int a0)], [.int 0], (q_kM s c n)) _ _
                refine q_RT_seg (g2 := (70, [(0, .int a0)], [.int 44, .int a0], (q_kM s c n))) 3 (fun _ _ => rfl) ?_
                cases h940 : decide (a0 = 44) with
                | true =>
                  refine q_RT_cT ?_
                  refine q_RT_rsF (g2 := (73, [(0, .int a0)], [], (q_kM s c n))) rfl rfl (q_d_neT h940) ?_
                  refine q_RT_seg (g2 := (78, [(0, .int a0)], [.int 1], (q_kM s c n))) 2 (fun _ _ => rfl) ?_
                  exact q_RT_ret rfl rfl rfl
                | false =>
                  refine q_RT_cF ?_
                  refine q_RT_rsT (g2 := (77, [(0, .int a0)], [], (q_kM s c n))) rfl rfl (q_d_neF h940) ?_
                  refine q_RT_seg (g2 := (78, [(0, .int a0)], [.int 4], (q_kM s c n))) 1 (fun _ _ => rfl) ?_
                  exact q_RT_ret rfl rfl rfl
def dz_M212_64_126 (m : Nat) : q_S → Int32 → Int32 → Int32 → Option (q_S) := Nat.rec (motive := fun _ => q_S → Int32 → Int32 → Int32 → Option (q_S)) (fun _ _ _ _ => none) (fun _ k126 s v1 v3 v4 =>
  cond (decide (v1 = 16)) (cond (decide (v4 < 2)) (q_let (dz_M206 s v3 v4) fun r673 => cond r673 (q_let (dz_M206 s ((s.1 4) 16) v4) fun r674 => cond r674 (k126 s v1 v3 (v4 + 1)) (cond (q_in ((7 : Int32) + v4) 24) (cond (q_in ((5 : Int32) + v4) 24) (k126 (q_sA s 14 (upd (s.1 14) (((5 : Int32) + v4).toNatClampNeg) ((s.1 14) (((7 : Int32) + v4).toNatClampNeg)))) v1 v3 (v4 + 1)) none) none)) (k126 s v1 v3 (v4 + 1))) (cond (q_in v1 48) (some (q_sA s 4 (upd (s.1 4) (v1.toNatClampNeg) v3))) none)) (cond (q_in v1 48) (some (q_sA s 4 (upd (s.1 4) (v1.toNatClampNeg) v3))) none)) m
theorem dzs_M212_64_126 (m : Nat) (s : q_S) (v1 : Int32) (v3 : Int32) (v4 : Int32) : dz_M212_64_126 (m + 1) s v1 v3 v4 = (fun k126 : q_S → Int32 → Int32 → Int32 → Option (q_S) =>
  cond (decide (v1 = 16)) (cond (decide (v4 < 2)) (q_let (dz_M206 s v3 v4) fun r673 => cond r673 (q_let (dz_M206 s ((s.1 4) 16) v4) fun r674 => cond r674 (k126 s v1 v3 (v4 + 1)) (cond (q_in ((7 : Int32) + v4) 24) (cond (q_in ((5 : Int32) + v4) 24) (k126 (q_sA s 14 (upd (s.1 14) (((5 : Int32) + v4).toNatClampNeg) ((s.1 14) (((7 : Int32) + v4).toNatClampNeg)))) v1 v3 (v4 + 1)) none) none)) (k126 s v1 v3 (v4 + 1))) (cond (q_in v1 48) (some (q_sA s 4 (upd (s.1 4) (v1.toNatClampNeg) v3))) none)) (cond (q_in v1 48) (some (q_sA s 4 (upd (s.1 4) (v1.toNatClampNeg) v3))) none)) (dz_M212_64_126 m) := rfl
set_option maxHeartbeats 4000000 in
theorem dzt_M212_64_126 (c n : Nat) : ∀ (m : Nat) (s : q_S) (v1 : Int32) (v3 : Int32) (v4 : Int32), q_RP q_TB0 2 211 (126, [(0, .ref 64), (1, .int v1), (3, .int v3), (4, .int v4)], [], (q_kM s c n)) (q_oSM c n) (dz_M212_64_126 m s v1 v3 v4) := by
  intro m
  induction m with
  | zero => intro s v1 v3 v4; exact q_RP_no
  | succ m ih =>
    intro s v1 v3 v4
    have hk126 := ih
    clear ih
    rw [dzs_M212_64_126]
    generalize dz_M212_64_126 m = k126 at hk126 ⊢
    dsimp only
    refine q_RP_seg (g2 := (129, [(0, .ref 64), (1, .int v1), (3, .int v3), (4, .int v4)], [.int 16, .int v1], (q_kM s c n))) 2 (fun _ _ => rfl) ?_
    cases h949 : decide (v1 = 16) with
    | true =>
      refine q_RP_cT ?_
      refine q_RP_rsF (g2 := (132, [(0, .ref 64), (1, .int v1), (3, .int v3), (4, .int v4)], [], (q_kM s c n))) rfl rfl (q_d_neT h949) ?_
      refine q_RP_seg (g2 := (135, [(0, .ref 64), (1, .int v1), (3, .int v3), (4, .int v4)], [.int 2, .int v4], (q_kM s c n))) 2 (fun _ _ => rfl) ?_
      cases h950 : decide (v4 < 2) with
      | true =>
        refine q_RP_cT ?_
        refine q_RP_rsF (g2 := (138, [(0, .ref 64), (1, .int v1), (3, .int v3), (4, .int v4)], [], (q_kM s c n))) rfl rfl (q_d_geT h950) ?_
        refine q_RP_seg (g2 := (141, [(0, .ref 64), (1, .int v1), (3, .int v3), (4, .int v4)], [.int v4, .int v3], (q_kM s c n))) 2 (fun _ _ => rfl) ?_
        refine q_RP_call (v := (some (.int (q_b (dz_M206 s v3 v4))))) (h2 := (q_kM s c n)) rfl rfl ((dzt_M206 s c n v3 v4).le (Nat.le_of_ble_eq_true rfl)) ?_
        generalize dz_M206 s v3 v4 = r673
        refine q_RP_let ?_
        show q_RP _ _ _ (144, [(0, .ref 64), (1, .int v1), (3, .int v3), (4, .int v4)], [.int (q_b r673)], (q_kM s c n)) _ _
        cases h951 : r673 with
        | true =>
          refine q_RP_cT ?_
          show q_RP _ _ _ (144, [(0, .ref 64), (1, .int v1), (3, .int v3), (4, .int v4)], [.int 1], (q_kM s c n)) _ _
          refine q_RP_seg (g2 := (154, [(0, .ref 64), (1, .int v1), (3, .int v3), (4, .int v4)], [.int ((s.1 4) 16)], (q_kM s c n))) 5 (fun _ _ => rfl) ?_
          refine q_RP_seg (g2 := (156, [(0, .ref 64), (1, .int v1), (3, .int v3), (4, .int v4)], [.int v4, .int ((s.1 4) 16)], (q_kM s c n))) 1 (fun _ _ => rfl) ?_
          refine q_RP_call (v := (some (.int (q_b (dz_M206 s ((s.1 4) 16) v4))))) (h2 := (q_kM s c n)) rfl rfl ((dzt_M206 s c n ((s.1 4) 16) v4).le (Nat.le_of_ble_eq_true rfl)) ?_
          generalize dz_M206 s ((s.1 4) 16) v4 = r674
          refine q_RP_let ?_
          show q_RP _ _ _ (159, [(0, .ref 64), (1, .int v1), (3, .int v3), (4, .int v4)], [.int (q_b r674)], (q_kM s c n)) _ _
          cases h952 : r674 with
          | true =>
            refine q_RP_cT ?_
            show q_RP _ _ _ (159, [(0, .ref 64), (1, .int v1), (3, .int v3), (4, .int v4)], [.int 1], (q_kM s c n)) _ _
            refine q_RP_seg (g2 := (126, [(4, .int (v4 + 1)), (0, .ref 64), (1, .int v1), (3, .int v3)], [], (q_kM s c n))) 3 (fun _ _ => rfl) ?_
            exact q_RP_xt (q_xt_mk (q_mn1 1 rfl (q_mn1 2 rfl (q_mn1 3 rfl (q_mn1 0 rfl q_mn0)))) rfl) (hk126 s v1 v3 (v4 + 1))
          | false =>
            refine q_RP_cF ?_
            show q_RP _ _ _ (159, [(0, .ref 64), (1, .int v1), (3, .int v3), (4, .int v4)], [.int 0], (q_kM s c n)) _ _
            refine q_RP_seg (g2 := (179, [(0, .ref 64), (1, .int v1), (3, .int v3), (4, .int v4)], [.int ((7 : Int32) + v4), .ref 78, .int ((5 : Int32) + v4), .ref 78], (q_kM s c n))) 11 (fun _ _ => rfl) ?_
            refine q_RP_as fun i953 => ?_
            refine q_RP_rsT (g2 := (180, [(0, .ref 64), (1, .int v1), (3, .int v3), (4, .int v4)], [.int ((s.1 14) (((7 : Int32) + v4).toNatClampNeg)), .int ((5 : Int32) + v4), .ref 78], (q_kM s c n))) rfl rfl i953 ?_
            refine q_RP_as fun i954 => ?_
            refine q_RP_rsT (g2 := (181, [(0, .ref 64), (1, .int v1), (3, .int v3), (4, .int v4)], [], (q_kM (q_sA s 14 (upd (s.1 14) (((5 : Int32) + v4).toNatClampNeg) ((s.1 14) (((7 : Int32) + v4).toNatClampNeg)))) c n))) rfl q_wM14 i954 ?_
            refine q_RP_seg (g2 := (126, [(4, .int (v4 + 1)), (0, .ref 64), (1, .int v1), (3, .int v3)], [], (q_kM (q_sA s 14 (upd (s.1 14) (((5 : Int32) + v4).toNatClampNeg) ((s.1 14) (((7 : Int32) + v4).toNatClampNeg)))) c n))) 2 (fun _ _ => rfl) ?_
            exact q_RP_xt (q_xt_mk (q_mn1 1 rfl (q_mn1 2 rfl (q_mn1 3 rfl (q_mn1 0 rfl q_mn0)))) rfl) (hk126 (q_sA s 14 (upd (s.1 14) (((5 : Int32) + v4).toNatClampNeg) ((s.1 14) (((7 : Int32) + v4).toNatClampNeg)))) v1 v3 (v4 + 1))
        | false =>
          refine q_RP_cF ?_
          show q_RP _ _ _ (144, [(0, .ref 64), (1, .int v1), (3, .int v3), (4, .int v4)], [.int 0], (q_kM s c n)) _ _
          refine q_RP_seg (g2 := (126, [(4, .int (v4 + 1)), (0, .ref 64), (1, .int v1), (3, .int v3)], [], (q_kM s c n))) 3 (fun _ _ => rfl) ?_
          exact q_RP_xt (q_xt_mk (q_mn1 1 rfl (q_mn1 2 rfl (q_mn1 3 rfl (q_mn1 0 rfl q_mn0)))) rfl) (hk126 s v1 v3 (v4 + 1))
      | false =>
        refine q_RP_cF ?_
        refine q_RP_rsT (g2 := (187, [(0, .ref 64), (1, .int v1), (3, .int v3), (4, .int v4)], [], (q_kM s c n))) rfl rfl (q_d_geF h950) ?_
        refine q_RP_seg (g2 := (193, [(0, .ref 64), (1, .int v1), (3, .int v3), (4, .int v4)], [.int v3, .int v1, .ref 68], (q_kM s c n))) 4 (fun _ _ => rfl) ?_
        refine q_RP_as fun i955 => ?_
        refine q_RP_rsT (g2 := (194, [(0, .ref 64), (1, .int v1), (3, .int v3), (4, .int v4)], [], (q_kM (q_sA s 4 (upd (s.1 4) (v1.toNatClampNeg) v3)) c n))) rfl q_wM4 i955 ?_
        exact q_RP_ret rfl rfl rfl
    | false =>
      refine q_RP_cF ?_
      refine q_RP_rsT (g2 := (187, [(0, .ref 64), (1, .int v1), (3, .int v3), (4, .int v4)], [], (q_kM s c n))) rfl rfl (q_d_neF h949) ?_
      refine q_RP_seg (g2 := (193, [(0, .ref 64), (1, .int v1), (3, .int v3), (4, .int v4)], [.int v3, .int v1, .ref 68], (q_kM s c n))) 4 (fun _ _ => rfl) ?_
      refine q_RP_as fun i956 => ?_
      refine q_RP_rsT (g2 := (194, [(0, .ref 64), (1, .int v1), (3, .int v3), (4, .int v4)], [], (q_kM (q_sA s 4 (upd (s.1 4) (v1.toNatClampNeg) v3)) c n))) rfl q_wM4 i956 ?_
      exact q_RP_ret rfl rfl rfl
def dz_M212_64 (s : q_S) (a1 : Int32) (a2 : Int32) : Option (q_S) :=
  cond (decide (44 < a1)) (some s) (cond (decide (a1 = 29)) (some s) (cond (decide (a1 = 30)) (some s) (q_let (dz_M211 s a1) fun r671 => cond (decide (a1 = 10)) (some (q_sA s 14 (upd (s.1 14) 9 (((s.1 14) 9) &&& (a2 ^^^ (-1)))))) (q_let (dz_M202 s a1 12 15) fun r672 => cond r672 (cond (decide (a1 - a1 / 2 * 2 = 0)) (cond (q_in ((7 : Int32) + ((a1 - 12) / 2)) 24) (some (q_sA s 14 (upd (s.1 14) (((7 : Int32) + ((a1 - 12) / 2)).toNatClampNeg) (((((s.1 14) (((7 : Int32) + ((a1 - 12) / 2)).toNatClampNeg)) / 256) * 256) + a2)))) none) (cond (q_in ((7 : Int32) + ((a1 - 12) / 2)) 24) (some (q_sA s 14 (upd (s.1 14) (((7 : Int32) + ((a1 - 12) / 2)).toNatClampNeg) ((((s.1 14) (((7 : Int32) + ((a1 - 12) / 2)).toNatClampNeg)) - ((s.1 14) (((7 : Int32) + ((a1 - 12) / 2)).toNatClampNeg)) / 256 * 256) + (256 * a2))))) none)) (dz_M212_64_126 5000 s a1 (a2 &&& (((1 : Int32) <<< (r671 &&& 31)) - 1)) 0)))))
set_option maxHeartbeats 4000000 in
theorem dzt_M212_64 (s : q_S) (c n : Nat) (a1 : Int32) (a2 : Int32) (x : q_S) (h : dz_M212_64 s a1 a2 = some x) : q_Ca q_TB0 3 211 [.ref 64, .int a1, .int a2] (q_kM s c n) ((q_oSM c n) x) := by
  refine q_CaP_of (φ := (q_oSM c n)) (Nat.le_of_ble_eq_true rfl) ?_ h
  clear h
  unfold dz_M212_64
  refine q_RP_seg (g2 := (3, [(0, .ref 64), (1, .int a1), (2, .int a2)], [.int 44, .int a1], (q_kM s c n))) 2 (fun _ _ => rfl) ?_
  cases h941 : decide (44 < a1) with
  | true =>
    refine q_RP_cT ?_
    refine q_RP_rsT (g2 := (18, [(0, .ref 64), (1, .int a1), (2, .int a2)], [], (q_kM s c n))) rfl rfl h941 ?_
    exact q_RP_ret rfl rfl rfl
  | false =>
    refine q_RP_cF ?_
    refine q_RP_rsF (g2 := (6, [(0, .ref 64), (1, .int a1), (2, .int a2)], [], (q_kM s c n))) rfl rfl h941 ?_
    refine q_RP_seg (g2 := (9, [(0, .ref 64), (1, .int a1), (2, .int a2)], [.int 29, .int a1], (q_kM s c n))) 2 (fun _ _ => rfl) ?_
    cases h942 : decide (a1 = 29) with
    | true =>
      refine q_RP_cT ?_
      refine q_RP_rsT (g2 := (18, [(0, .ref 64), (1, .int a1), (2, .int a2)], [], (q_kM s c n))) rfl rfl h942 ?_
      exact q_RP_ret rfl rfl rfl
    | false =>
      refine q_RP_cF ?_
      refine q_RP_rsF (g2 := (12, [(0, .ref 64), (1, .int a1), (2, .int a2)], [], (q_kM s c n))) rfl rfl h942 ?_
      refine q_RP_seg (g2 := (15, [(0, .ref 64), (1, .int a1), (2, .int a2)], [.int 30, .int a1], (q_kM s c n))) 2 (fun _ _ => rfl) ?_
      cases h943 : decide (a1 = 30) with
      | true =>
        refine q_RP_cT ?_
        refine q_RP_rsF (g2 := (18, [(0, .ref 64), (1, .int a1), (2, .int a2)], [], (q_kM s c n))) rfl rfl (q_d_neT h943) ?_
        exact q_RP_ret rfl rfl rfl
      | false =>
        refine q_RP_cF ?_
        refine q_RP_rsT (g2 := (19, [(0, .ref 64), (1, .int a1), (2, .int a2)], [], (q_kM s c n))) rfl rfl (q_d_neF h943) ?_
        refine q_RP_seg (g2 := (22, [(0, .ref 64), (1, .int a1), (2, .int a2)], [.int a1, .int 1, .int a2], (q_kM s c n))) 3 (fun _ _ => rfl) ?_
        refine q_RP_call (v := (some (.int (dz_M211 s a1)))) (h2 := (q_kM s c n)) rfl rfl ((dzt_M211 s c n a1).le (Nat.le_of_ble_eq_true rfl)) ?_
        generalize dz_M211 s a1 = r671
        refine q_RP_let ?_
        show q_RP _ _ _ (25, [(0, .ref 64), (1, .int a1), (2, .int a2)], [.int r671, .int 1, .int a2], (q_kM s c n)) _ _
        refine q_RP_seg (g2 := (33, [(3, .int (a2 &&& (((1 : Int32) <<< (r671 &&& 31)) - 1))), (0, .ref 64), (1, .int a1), (2, .int a2)], [.int 10, .int a1], (q_kM s c n))) 7 (fun _ _ => rfl) ?_
        cases h944 : decide (a1 = 10) with
        | true =>
          refine q_RP_cT ?_
          refine q_RP_rsF (g2 := (36, [(3, .int (a2 &&& (((1 : Int32) <<< (r671 &&& 31)) - 1))), (0, .ref 64), (1, .int a1), (2, .int a2)], [], (q_kM s c n))) rfl rfl (q_d_neT h944) ?_
          refine q_RP_seg (g2 := (44, [(3, .int (a2 &&& (((1 : Int32) <<< (r671 &&& 31)) - 1))), (0, .ref 64), (1, .int a1), (2, .int a2)], [.int ((s.1 14) 9), .int 9, .ref 78], (q_kM s c n))) 5 (fun _ _ => rfl) ?_
          refine q_RP_seg (g2 := (49, [(3, .int (a2 &&& (((1 : Int32) <<< (r671 &&& 31)) - 1))), (0, .ref 64), (1, .int a1), (2, .int a2)], [], (q_kM (q_sA s 14 (upd (s.1 14) 9 (((s.1 14) 9) &&& (a2 ^^^ (-1))))) c n))) 5 (fun _ _ => rfl) ?_
          exact q_RP_ret rfl rfl rfl
        | false =>
          refine q_RP_cF ?_
          refine q_RP_rsT (g2 := (50, [(3, .int (a2 &&& (((1 : Int32) <<< (r671 &&& 31)) - 1))), (0, .ref 64), (1, .int a1), (2, .int a2)], [], (q_kM s c n))) rfl rfl (q_d_neF h944) ?_
          refine q_RP_seg (g2 := (55, [(3, .int (a2 &&& (((1 : Int32) <<< (r671 &&& 31)) - 1))), (0, .ref 64), (1, .int a1), (2, .int a2)], [.int 15, .int 12, .int a1], (q_kM s c n))) 3 (fun _ _ => rfl) ?_
          refine q_RP_call (v := (some (.int (q_b (dz_M202 s a1 12 15))))) (h2 := (q_kM s c n)) rfl rfl ((dzt_M202 s c n a1 12 15).le (Nat.le_of_ble_eq_true rfl)) ?_
          generalize dz_M202 s a1 12 15 = r672
          refine q_RP_let ?_
          show q_RP _ _ _ (58, [(3, .int (a2 &&& (((1 : Int32) <<< (r671 &&& 31)) - 1))), (0, .ref 64), (1, .int a1), (2, .int a2)], [.int (q_b r672)], (q_kM s c n)) _ _
          cases h945 : r672 with
          | true =>
            refine q_RP_cT ?_
            show q_RP _ _ _ (58, [(3, .int (a2 &&& (((1 : Int32) <<< (r671 &&& 31)) - 1))), (0, .ref 64), (1, .int a1), (2, .int a2)], [.int 1], (q_kM s c n)) _ _
            refine q_RP_seg (g2 := (81, [(4, .int ((7 : Int32) + ((a1 - 12) / 2))), (3, .int (a2 &&& (((1 : Int32) <<< (r671 &&& 31)) - 1))), (0, .ref 64), (1, .int a1), (2, .int a2)], [.int (a1 - a1 / 2 * 2), .int ((7 : Int32) + ((a1 - 12) / 2)), .ref 78], (q_kM s c n))) 15 (fun _ _ => rfl) ?_
            cases h946 : decide (a1 - a1 / 2 * 2 = 0) with
            | true =>
              refine q_RP_cT ?_
              refine q_RP_rsF (g2 := (84, [(4, .int ((7 : Int32) + ((a1 - 12) / 2))), (3, .int (a2 &&& (((1 : Int32) <<< (r671 &&& 31)) - 1))), (0, .ref 64), (1, .int a1), (2, .int a2)], [.int ((7 : Int32) + ((a1 - 12) / 2)), .ref 78], (q_kM s c n))) rfl rfl (q_d_neT h946) ?_
              refine q_RP_seg (g2 := (90, [(4, .int ((7 : Int32) + ((a1 - 12) / 2))), (3, .int (a2 &&& (((1 : Int32) <<< (r671 &&& 31)) - 1))), (0, .ref 64), (1, .int a1), (2, .int a2)], [.int ((7 : Int32) + ((a1 - 12) / 2)), .ref 78, .int ((7 : Int32) + ((a1 - 12) / 2)), .ref 78], (q_kM s c n))) 3 (fun _ _ => rfl) ?_
              refine q_RP_as fun i947 => ?_
              refine q_RP_rsT (g2 := (91, [(4, .int ((7 : Int32) + ((a1 - 12) / 2))), (3, .int (a2 &&& (((1 : Int32) <<< (r671 &&& 31)) - 1))), (0, .ref 64), (1, .int a1), (2, .int a2)], [.int ((s.1 14) (((7 : Int32) + ((a1 - 12) / 2)).toNatClampNeg)), .int ((7 : Int32) + ((a1 - 12) / 2)), .ref 78], (q_kM s c n))) rfl rfl i947 ?_
              refine q_RP_seg (g2 := (121, [(4, .int ((7 : Int32) + ((a1 - 12) / 2))), (3, .int (a2 &&& (((1 : Int32) <<< (r671 &&& 31)) - 1))), (0, .ref 64), (1, .int a1), (2, .int a2)], [.int (((((s.1 14) (((7 : Int32) + ((a1 - 12) / 2)).toNatClampNeg)) / 256) * 256) + a2), .int ((7 : Int32) + ((a1 - 12) / 2)), .ref 78], (q_kM s c n))) 7 (fun _ _ => rfl) ?_
              refine q_RP_rsT (g2 := (122, [(4, .int ((7 : Int32) + ((a1 - 12) / 2))), (3, .int (a2 &&& (((1 : Int32) <<< (r671 &&& 31)) - 1))), (0, .ref 64), (1, .int a1), (2, .int a2)], [], (q_kM (q_sA s 14 (upd (s.1 14) (((7 : Int32) + ((a1 - 12) / 2)).toNatClampNeg) (((((s.1 14) (((7 : Int32) + ((a1 - 12) / 2)).toNatClampNeg)) / 256) * 256) + a2))) c n))) rfl q_wM14 i947 ?_
              exact q_RP_ret rfl rfl rfl
            | false =>
              refine q_RP_cF ?_
              refine q_RP_rsT (g2 := (104, [(4, .int ((7 : Int32) + ((a1 - 12) / 2))), (3, .int (a2 &&& (((1 : Int32) <<< (r671 &&& 31)) - 1))), (0, .ref 64), (1, .int a1), (2, .int a2)], [.int ((7 : Int32) + ((a1 - 12) / 2)), .ref 78], (q_kM s c n))) rfl rfl (q_d_neF h946) ?_
              refine q_RP_seg (g2 := (110, [(4, .int ((7 : Int32) + ((a1 - 12) / 2))), (3, .int (a2 &&& (((1 : Int32) <<< (r671 &&& 31)) - 1))), (0, .ref 64), (1, .int a1), (2, .int a2)], [.int ((7 : Int32) + ((a1 - 12) / 2)), .ref 78, .int ((7 : Int32) + ((a1 - 12) / 2)), .ref 78], (q_kM s c n))) 3 (fun _ _ => rfl) ?_
              refine q_RP_as fun i948 => ?_
              refine q_RP_rsT (g2 := (111, [(4, .int ((7 : Int32) + ((a1 - 12) / 2))), (3, .int (a2 &&& (((1 : Int32) <<< (r671 &&& 31)) - 1))), (0, .ref 64), (1, .int a1), (2, .int a2)], [.int ((s.1 14) (((7 : Int32) + ((a1 - 12) / 2)).toNatClampNeg)), .int ((7 : Int32) + ((a1 - 12) / 2)), .ref 78], (q_kM s c n))) rfl rfl i948 ?_
              refine q_RP_seg (g2 := (121, [(4, .int ((7 : Int32) + ((a1 - 12) / 2))), (3, .int (a2 &&& (((1 : Int32) <<< (r671 &&& 31)) - 1))), (0, .ref 64), (1, .int a1), (2, .int a2)], [.int ((((s.1 14) (((7 : Int32) + ((a1 - 12) / 2)).toNatClampNeg)) - ((s.1 14) (((7 : Int32) + ((a1 - 12) / 2)).toNatClampNeg)) / 256 * 256) + (256 * a2)), .int ((7 : Int32) + ((a1 - 12) / 2)), .ref 78], (q_kM s c n))) 6 (fun _ _ => rfl) ?_
              refine q_RP_rsT (g2 := (122, [(4, .int ((7 : Int32) + ((a1 - 12) / 2))), (3, .int (a2 &&& (((1 : Int32) <<< (r671 &&& 31)) - 1))), (0, .ref 64), (1, .int a1), (2, .int a2)], [], (q_kM (q_sA s 14 (upd (s.1 14) (((7 : Int32) + ((a1 - 12) / 2)).toNatClampNeg) ((((s.1 14) (((7 : Int32) + ((a1 - 12) / 2)).toNatClampNeg)) - ((s.1 14) (((7 : Int32) + ((a1 - 12) / 2)).toNatClampNeg)) / 256 * 256) + (256 * a2)))) c n))) rfl q_wM14 i948 ?_
              exact q_RP_ret rfl rfl rfl
          | false =>
            refine q_RP_cF ?_
            show q_RP _ _ _ (58, [(3, .int (a2 &&& (((1 : Int32) <<< (r671 &&& 31)) - 1))), (0, .ref 64), (1, .int a1), (2, .int a2)], [.int 0], (q_kM s c n)) _ _
            refine q_RP_seg (g2 := (126, [(4, .int 0), (3, .int (a2 &&& (((1 : Int32) <<< (r671 &&& 31)) - 1))), (0, .ref 64), (1, .int a1), (2, .int a2)], [], (q_kM s c n))) 3 (fun _ _ => rfl) ?_
            exact q_RP_xt (q_xt_mk (q_mn1 2 rfl (q_mn1 3 rfl (q_mn1 1 rfl (q_mn1 0 rfl q_mn0)))) rfl) (dzt_M212_64_126 c n 5000 s a1 (a2 &&& (((1 : Int32) <<< (r671 &&& 31)) - 1)) 0)
def dz_M213 (s : q_S) (a0 : Int32) : Int32 :=
  (a0 &&& 4095)
set_option maxHeartbeats 4000000 in
theorem dzt_M213 (s : q_S) (c n : Nat) (a0 : Int32) : q_Ca q_TB0 1 212 [.int a0] (q_kM s c n) ((q_oP (q_kM s c n)) (dz_M213 s a0)) := by
  refine q_CaT_of (φ := (q_oP (q_kM s c n))) (Nat.le_of_ble_eq_true rfl) ?_
  unfold dz_M213
  refine q_RT_seg (g2 := (5, [(0, .int a0)], [.int (a0 &&& 4095)], (q_kM s c n))) 3 (fun _ _ => rfl) ?_
  exact q_RT_ret rfl rfl rfl
def dz_M214_64_60 (s : q_S) (v1 : Int32) : Option (q_S × Int32) :=
  q_let (dz_M202 s v1 2048 2559) fun r681 => cond r681 (q_let (dz_M206 s ((s.1 4) 0) 1) fun r682 => cond r682 (cond (q_in (((512 * (((s.1 4) 0) / 4)) + v1) - 2048) 2048) (some (s, ((s.1 3) ((((512 * (((s.1 4) 0) / 4)) + v1) - 2048).toNatClampNeg)))) none) (cond (q_in v1 4096) (some (s, ((s.1 1) (v1.toNatClampNeg)))) none)) (cond (q_in v1 4096) (some (s, ((s.1 1) (v1.toNatClampNeg)))) none)
set_option maxHeartbeats 4000000 in
theorem dzt_M214_64_60 (c n : Nat) (s : q_S) (v1 : Int32) : q_RP q_TB0 3 213 (60, [(0, .ref 64), (1, .int v1)], [], (q_kM s c n)) (q_oIM c n) (dz_M214_64_60 s v1) := by
  unfold dz_M214_64_60
  refine q_RP_seg (g2 := (67, [(0, .ref 64), (1, .int v1)], [.int 2559, .int 2048, .int v1], (q_kM s c n))) 3 (fun _ _ => rfl) ?_
  refine q_RP_call (v := (some (.int (q_b (dz_M202 s v1 2048 2559))))) (h2 := (q_kM s c n)) rfl rfl ((dzt_M202 s c n v1 2048 2559).le (Nat.le_of_ble_eq_true rfl)) ?_
  generalize dz_M202 s v1 2048 2559 = r681
  refine q_RP_let ?_
  show q_RP _ _ _ (70, [(0, .ref 64), (1, .int v1)], [.int (q_b r681)], (q_kM s c n)) _ _
  cases h962 : r681 with
  | true =>
    refine q_RP_cT ?_
    show q_RP _ _ _ (70, [(0, .ref 64), (1, .int v1)], [.int 1], (q_kM s c n)) _ _
    refine q_RP_seg (g2 := (79, [(0, .ref 64), (1, .int v1)], [.int ((s.1 4) 0)], (q_kM s c n))) 5 (fun _ _ => rfl) ?_
    refine q_RP_seg (g2 := (80, [(0, .ref 64), (1, .int v1)], [.int 1, .int ((s.1 4) 0)], (q_kM s c n))) 1 (fun _ _ => rfl) ?_
    refine q_RP_call (v := (some (.int (q_b (dz_M206 s ((s.1 4) 0) 1))))) (h2 := (q_kM s c n)) rfl rfl ((dzt_M206 s c n ((s.1 4) 0) 1).le (Nat.le_of_ble_eq_true rfl)) ?_
    generalize dz_M206 s ((s.1 4) 0) 1 = r682
    refine q_RP_let ?_
    show q_RP _ _ _ (83, [(0, .ref 64), (1, .int v1)], [.int (q_b r682)], (q_kM s c n)) _ _
    cases h963 : r682 with
    | true =>
      refine q_RP_cT ?_
      show q_RP _ _ _ (83, [(0, .ref 64), (1, .int v1)], [.int 1], (q_kM s c n)) _ _
      refine q_RP_seg (g2 := (99, [(0, .ref 64), (1, .int v1)], [.int ((s.1 4) 0), .int 512, .ref 67], (q_kM s c n))) 8 (fun _ _ => rfl) ?_
      refine q_RP_seg (g2 := (108, [(0, .ref 64), (1, .int v1)], [.int (((512 * (((s.1 4) 0) / 4)) + v1) - 2048), .ref 67], (q_kM s c n))) 7 (fun _ _ => rfl) ?_
      refine q_RP_as fun i964 => ?_
      refine q_RP_rsT (g2 := (109, [(0, .ref 64), (1, .int v1)], [.int ((s.1 3) ((((512 * (((s.1 4) 0) / 4)) + v1) - 2048).toNatClampNeg))], (q_kM s c n))) rfl rfl i964 ?_
      exact q_RP_ret rfl rfl rfl
    | false =>
      refine q_RP_cF ?_
      show q_RP _ _ _ (83, [(0, .ref 64), (1, .int v1)], [.int 0], (q_kM s c n)) _ _
      refine q_RP_seg (g2 := (115, [(0, .ref 64), (1, .int v1)], [.int v1, .ref 65], (q_kM s c n))) 4 (fun _ _ => rfl) ?_
      refine q_RP_as fun i965 => ?_
      refine q_RP_rsT (g2 := (116, [(0, .ref 64), (1, .int v1)], [.int ((s.1 1) (v1.toNatClampNeg))], (q_kM s c n))) rfl rfl i965 ?_
      exact q_RP_ret rfl rfl rfl
  | false =>
    refine q_RP_cF ?_
    show q_RP _ _ _ (70, [(0, .ref 64), (1, .int v1)], [.int 0], (q_kM s c n)) _ _
    refine q_RP_seg (g2 := (115, [(0, .ref 64), (1, .int v1)], [.int v1, .ref 65], (q_kM s c n))) 4 (fun _ _ => rfl) ?_
    refine q_RP_as fun i966 => ?_
    refine q_RP_rsT (g2 := (116, [(0, .ref 64), (1, .int v1)], [.int ((s.1 1) (v1.toNatClampNeg))], (q_kM s c n))) rfl rfl i966 ?_
    exact q_RP_ret rfl rfl rfl
def dz_M214_64 (s : q_S) (a1 : Int32) : Option (q_S × Int32) :=
  q_let (dz_M202 s a1 3840 3887) fun r677 => cond r677 ((dz_M210_64 s (a1 - 3840)).bind fun r678 => some (r678.1, r678.2)) (q_let (dz_M202 s a1 3072 3583) fun r679 => cond r679 (q_let (dz_M206 s ((s.1 4) 0) 0) fun r680 => cond r680 (cond (q_in (a1 - 3072) 512) (some (s, ((s.1 2) ((a1 - 3072).toNatClampNeg)))) none) (dz_M214_64_60 s a1)) (dz_M214_64_60 s a1))
set_option maxHeartbeats 4000000 in
theorem dzt_M214_64 (s : q_S) (c n : Nat) (a1 : Int32) (x : q_S × Int32) (h : dz_M214_64 s a1 = some x) : q_Ca q_TB0 4 213 [.ref 64, .int a1] (q_kM s c n) ((q_oIM c n) x) := by
  refine q_CaP_of (φ := (q_oIM c n)) (Nat.le_of_ble_eq_true rfl) ?_ h
  clear h
  unfold dz_M214_64
  refine q_RP_seg (g2 := (7, [(0, .ref 64), (1, .int a1)], [.int 3887, .int 3840, .int a1], (q_kM s c n))) 3 (fun _ _ => rfl) ?_
  refine q_RP_call (v := (some (.int (q_b (dz_M202 s a1 3840 3887))))) (h2 := (q_kM s c n)) rfl rfl ((dzt_M202 s c n a1 3840 3887).le (Nat.le_of_ble_eq_true rfl)) ?_
  generalize dz_M202 s a1 3840 3887 = r677
  refine q_RP_let ?_
  show q_RP _ _ _ (10, [(0, .ref 64), (1, .int a1)], [.int (q_b r677)], (q_kM s c n)) _ _
  cases h958 : r677 with
  | true =>
    refine q_RP_cT ?_
    show q_RP _ _ _ (10, [(0, .ref 64), (1, .int a1)], [.int 1], (q_kM s c n)) _ _
    refine q_RP_seg (g2 := (19, [(0, .ref 64), (1, .int a1)], [.int (a1 - 3840), .ref 64], (q_kM s c n))) 5 (fun _ _ => rfl) ?_
    refine q_RP_bd fun r678 er678 => ?_
    refine q_RP_call (v := (some (.int r678.2))) (h2 := (q_kM r678.1 c n)) rfl rfl ((dzt_M210_64 s c n (a1 - 3840) r678 er678).le (Nat.le_of_ble_eq_true rfl)) ?_
    show q_RP _ _ _ (22, [(0, .ref 64), (1, .int a1)], [.int r678.2], (q_kM r678.1 c n)) _ _
    exact q_RP_ret rfl rfl rfl
  | false =>
    refine q_RP_cF ?_
    show q_RP _ _ _ (10, [(0, .ref 64), (1, .int a1)], [.int 0], (q_kM s c n)) _ _
    refine q_RP_seg (g2 := (30, [(0, .ref 64), (1, .int a1)], [.int 3583, .int 3072, .int a1], (q_kM s c n))) 4 (fun _ _ => rfl) ?_
    refine q_RP_call (v := (some (.int (q_b (dz_M202 s a1 3072 3583))))) (h2 := (q_kM s c n)) rfl rfl ((dzt_M202 s c n a1 3072 3583).le (Nat.le_of_ble_eq_true rfl)) ?_
    generalize dz_M202 s a1 3072 3583 = r679
    refine q_RP_let ?_
    show q_RP _ _ _ (33, [(0, .ref 64), (1, .int a1)], [.int (q_b r679)], (q_kM s c n)) _ _
    cases h959 : r679 with
    | true =>
      refine q_RP_cT ?_
      show q_RP _ _ _ (33, [(0, .ref 64), (1, .int a1)], [.int 1], (q_kM s c n)) _ _
      refine q_RP_seg (g2 := (42, [(0, .ref 64), (1, .int a1)], [.int ((s.1 4) 0)], (q_kM s c n))) 5 (fun _ _ => rfl) ?_
      refine q_RP_seg (g2 := (43, [(0, .ref 64), (1, .int a1)], [.int 0, .int ((s.1 4) 0)], (q_kM s c n))) 1 (fun _ _ => rfl) ?_
      refine q_RP_call (v := (some (.int (q_b (dz_M206 s ((s.1 4) 0) 0))))) (h2 := (q_kM s c n)) rfl rfl ((dzt_M206 s c n ((s.1 4) 0) 0).le (Nat.le_of_ble_eq_true rfl)) ?_
      generalize dz_M206 s ((s.1 4) 0) 0 = r680
      refine q_RP_let ?_
      show q_RP _ _ _ (46, [(0, .ref 64), (1, .int a1)], [.int (q_b r680)], (q_kM s c n)) _ _
      cases h960 : r680 with
      | true =>
        refine q_RP_cT ?_
        show q_RP _ _ _ (46, [(0, .ref 64), (1, .int a1)], [.int 1], (q_kM s c n)) _ _
        refine q_RP_seg (g2 := (58, [(0, .ref 64), (1, .int a1)], [.int (a1 - 3072), .ref 66], (q_kM s c n))) 6 (fun _ _ => rfl) ?_
        refine q_RP_as fun i961 => ?_
        refine q_RP_rsT (g2 := (59, [(0, .ref 64), (1, .int a1)], [.int ((s.1 2) ((a1 - 3072).toNatClampNeg))], (q_kM s c n))) rfl rfl i961 ?_
        exact q_RP_ret rfl rfl rfl
      | false =>
        refine q_RP_cF ?_
        show q_RP _ _ _ (46, [(0, .ref 64), (1, .int a1)], [.int 0], (q_kM s c n)) _ _
        refine q_RP_seg (g2 := (60, [(0, .ref 64), (1, .int a1)], [], (q_kM s c n))) 1 (fun _ _ => rfl) ?_
        exact (dzt_M214_64_60 c n s a1)
    | false =>
      refine q_RP_cF ?_
      show q_RP _ _ _ (33, [(0, .ref 64), (1, .int a1)], [.int 0], (q_kM s c n)) _ _
      refine q_RP_seg (g2 := (60, [(0, .ref 64), (1, .int a1)], [], (q_kM s c n))) 1 (fun _ _ => rfl) ?_
      exact (dzt_M214_64_60 c n s a1)
def dz_M215_64 (s : q_S) (a1 : Int32) (a2 : Int32) : Option (q_S) :=
  q_let (dz_M202 s a1 3840 3887) fun r685 => cond r685 ((dz_M212_64 s (a1 - 3840) a2).bind fun r686 => some r686) (cond (q_in a1 4096) (some (q_sA s 1 (upd (s.1 1) (a1.toNatClampNeg) a2))) none)
set_option maxHeartbeats 4000000 in
theorem dzt_M215_64 (s : q_S) (c n : Nat) (a1 : Int32) (a2 : Int32) (x : q_S) (h : dz_M215_64 s a1 a2 = some x) : q_Ca q_TB0 4 214 [.ref 64, .int a1, .int a2] (q_kM s c n) ((q_oSM c n) x) := by
  refine q_CaP_of (φ := (q_oSM c n)) (Nat.le_of_ble_eq_true rfl) ?_ h
  clear h
  unfold dz_M215_64
  refine q_RP_seg (g2 := (7, [(0, .ref 64), (1, .int a1), (2, .int a2)], [.int 3887, .int 3840, .int a1], (q_kM s c n))) 3 (fun _ _ => rfl) ?_
  refine q_RP_call (v := (some (.int (q_b (dz_M202 s a1 3840 3887))))) (h2 := (q_kM s c n)) rfl rfl ((dzt_M202 s c n a1 3840 3887).le (Nat.le_of_ble_eq_true rfl)) ?_
  generalize dz_M202 s a1 3840 3887 = r685
  refine q_RP_let ?_
  show q_RP _ _ _ (10, [(0, .ref 64), (1, .int a1), (2, .int a2)], [.int (q_b r685)], (q_kM s c n)) _ _
  cases h968 : r685 with
  | true =>
    refine q_RP_cT ?_
    show q_RP _ _ _ (10, [(0, .ref 64), (1, .int a1), (2, .int a2)], [.int 1], (q_kM s c n)) _ _
    refine q_RP_seg (g2 := (20, [(0, .ref 64), (1, .int a1), (2, .int a2)], [.int a2, .int (a1 - 3840), .ref 64], (q_kM s c n))) 6 (fun _ _ => rfl) ?_
    refine q_RP_bd fun r686 er686 => ?_
    refine q_RP_call (v := none) (h2 := (q_kM r686 c n)) rfl rfl ((dzt_M212_64 s c n (a1 - 3840) a2 r686 er686).le (Nat.le_of_ble_eq_true rfl)) ?_
    show q_RP _ _ _ (23, [(0, .ref 64), (1, .int a1), (2, .int a2)], [], (q_kM r686 c n)) _ _
    refine q_RP_seg (g2 := (33, [(0, .ref 64), (1, .int a1), (2, .int a2)], [], (q_kM r686 c n))) 1 (fun _ _ => rfl) ?_
    exact q_RP_ret rfl rfl rfl
  | false =>
    refine q_RP_cF ?_
    show q_RP _ _ _ (10, [(0, .ref 64), (1, .int a1), (2, .int a2)], [.int 0], (q_kM s c n)) _ _
    refine q_RP_seg (g2 := (32, [(0, .ref 64), (1, .int a1), (2, .int a2)], [.int a2, .int a1, .ref 65], (q_kM s c n))) 5 (fun _ _ => rfl) ?_
    refine q_RP_as fun i969 => ?_
    refine q_RP_rsT (g2 := (33, [(0, .ref 64), (1, .int a1), (2, .int a2)], [], (q_kM (q_sA s 1 (upd (s.1 1) (a1.toNatClampNeg) a2)) c n))) rfl q_wM1 i969 ?_
    exact q_RP_ret rfl rfl rfl
def dz_M216_64 (s : q_S) (a1 : Int32) (a2 : Int32) : Option (q_S × Int32) :=
  q_let (dz_M204 s a1) fun r690 => cond r690 (q_let (dz_M200_64 s 1) fun r691 => cond r691.2 (some (r691.1, 0)) ((dz_M214_64 r691.1 a1).bind fun r692 => (dz_M215_64 r692.1 a1 a2).bind fun r693 => q_let (dz_M205_64 r693) fun r694 => some (r694, r692.2))) (q_let (dz_M203 s a2) fun r695 => cond r695 (q_let (dz_M200_64 s 2) fun r696 => cond r696.2 (some (r696.1, 0)) ((dz_M214_64 r696.1 a1).bind fun r697 => (dz_M215_64 r697.1 a1 a2).bind fun r698 => q_let (dz_M205_64 r698) fun r699 => some (r699, r697.2))) (q_let (dz_M200_64 s 0) fun r700 => cond r700.2 (some (r700.1, 0)) ((dz_M214_64 r700.1 a1).bind fun r701 => (dz_M215_64 r701.1 a1 a2).bind fun r702 => q_let (dz_M205_64 r702) fun r703 => some (r703, r701.2))))
set_option maxHeartbeats 4000000 in
theorem dzt_M216_64 (s : q_S) (c n : Nat) (a1 : Int32) (a2 : Int32) (x : q_S × Int32) (h : dz_M216_64 s a1 a2 = some x) : q_Ca q_TB0 5 215 [.ref 64, .int a1, .int a2] (q_kM s c n) ((q_oIM c n) x) := by
  refine q_CaP_of (φ := (q_oIM c n)) (Nat.le_of_ble_eq_true rfl) ?_ h
  clear h
  unfold dz_M216_64
  refine q_RP_seg (g2 := (2, [(0, .ref 64), (1, .int a1), (2, .int a2)], [.int a1, .ref 64], (q_kM s c n))) 2 (fun _ _ => rfl) ?_
  refine q_RP_call (v := (some (.int (q_b (dz_M204 s a1))))) (h2 := (q_kM s c n)) rfl rfl ((dzt_M204 s c n a1).le (Nat.le_of_ble_eq_true rfl)) ?_
  generalize dz_M204 s a1 = r690
  refine q_RP_let ?_
  show q_RP _ _ _ (5, [(0, .ref 64), (1, .int a1), (2, .int a2)], [.int (q_b r690), .ref 64], (q_kM s c n)) _ _
  cases h972 : r690 with
  | true =>
    refine q_RP_cT ?_
    show q_RP _ _ _ (5, [(0, .ref 64), (1, .int a1), (2, .int a2)], [.int 1, .ref 64], (q_kM s c n)) _ _
    refine q_RP_seg (g2 := (24, [(0, .ref 64), (1, .int a1), (2, .int a2)], [.int 1, .ref 64], (q_kM s c n))) 3 (fun _ _ => rfl) ?_
    refine q_RP_call (v := (some (.int (q_b (dz_M200_64 s 1).2)))) (h2 := (q_kM (dz_M200_64 s 1).1 c n)) rfl rfl ((dzt_M200_64 s c n 1).le (Nat.le_of_ble_eq_true rfl)) ?_
    generalize dz_M200_64 s 1 = r691
    refine q_RP_let ?_
    show q_RP _ _ _ (27, [(0, .ref 64), (1, .int a1), (2, .int a2)], [.int (q_b r691.2)], (q_kM r691.1 c n)) _ _
    cases h973 : r691.2 with
    | true =>
      refine q_RP_cT ?_
      show q_RP _ _ _ (27, [(0, .ref 64), (1, .int a1), (2, .int a2)], [.int 1], (q_kM r691.1 c n)) _ _
      refine q_RP_seg (g2 := (31, [(0, .ref 64), (1, .int a1), (2, .int a2)], [.int 0], (q_kM r691.1 c n))) 2 (fun _ _ => rfl) ?_
      exact q_RP_ret rfl rfl rfl
    | false =>
      refine q_RP_cF ?_
      show q_RP _ _ _ (27, [(0, .ref 64), (1, .int a1), (2, .int a2)], [.int 0], (q_kM r691.1 c n)) _ _
      refine q_RP_seg (g2 := (34, [(0, .ref 64), (1, .int a1), (2, .int a2)], [.int a1, .ref 64], (q_kM r691.1 c n))) 3 (fun _ _ => rfl) ?_
      refine q_RP_bd fun r692 er692 => ?_
      refine q_RP_call (v := (some (.int r692.2))) (h2 := (q_kM r692.1 c n)) rfl rfl ((dzt_M214_64 r691.1 c n a1 r692 er692).le (Nat.le_of_ble_eq_true rfl)) ?_
      show q_RP _ _ _ (37, [(0, .ref 64), (1, .int a1), (2, .int a2)], [.int r692.2], (q_kM r692.1 c n)) _ _
      refine q_RP_seg (g2 := (41, [(3, .int r692.2), (0, .ref 64), (1, .int a1), (2, .int a2)], [.int a2, .int a1, .ref 64], (q_kM r692.1 c n))) 4 (fun _ _ => rfl) ?_
      refine q_RP_bd fun r693 er693 => ?_
      refine q_RP_call (v := none) (h2 := (q_kM r693 c n)) rfl rfl ((dzt_M215_64 r692.1 c n a1 a2 r693 er693).le (Nat.le_of_ble_eq_true rfl)) ?_
      show q_RP _ _ _ (44, [(3, .int r692.2), (0, .ref 64), (1, .int a1), (2, .int a2)], [], (q_kM r693 c n)) _ _
      refine q_RP_seg (g2 := (45, [(3, .int r692.2), (0, .ref 64), (1, .int a1), (2, .int a2)], [.ref 64], (q_kM r693 c n))) 1 (fun _ _ => rfl) ?_
      refine q_RP_call (v := none) (h2 := (q_kM (dz_M205_64 r693) c n)) rfl rfl ((dzt_M205_64 r693 c n).le (Nat.le_of_ble_eq_true rfl)) ?_
      generalize dz_M205_64 r693 = r694
      refine q_RP_let ?_
      show q_RP _ _ _ (48, [(3, .int r692.2), (0, .ref 64), (1, .int a1), (2, .int a2)], [], (q_kM r694 c n)) _ _
      refine q_RP_seg (g2 := (49, [(3, .int r692.2), (0, .ref 64), (1, .int a1), (2, .int a2)], [.int r692.2], (q_kM r694 c n))) 1 (fun _ _ => rfl) ?_
      exact q_RP_ret rfl rfl rfl
  | false =>
    refine q_RP_cF ?_
    show q_RP _ _ _ (5, [(0, .ref 64), (1, .int a1), (2, .int a2)], [.int 0, .ref 64], (q_kM s c n)) _ _
    refine q_RP_seg (g2 := (13, [(0, .ref 64), (1, .int a1), (2, .int a2)], [.int a2, .ref 64], (q_kM s c n))) 2 (fun _ _ => rfl) ?_
    refine q_RP_call (v := (some (.int (q_b (dz_M203 s a2))))) (h2 := (q_kM s c n)) rfl rfl ((dzt_M203 s c n a2).le (Nat.le_of_ble_eq_true rfl)) ?_
    generalize dz_M203 s a2 = r695
    refine q_RP_let ?_
    show q_RP _ _ _ (16, [(0, .ref 64), (1, .int a1), (2, .int a2)], [.int (q_b r695), .ref 64], (q_kM s c n)) _ _
    cases h974 : r695 with
    | true =>
      refine q_RP_cT ?_
      show q_RP _ _ _ (16, [(0, .ref 64), (1, .int a1), (2, .int a2)], [.int 1, .ref 64], (q_kM s c n)) _ _
      refine q_RP_seg (g2 := (24, [(0, .ref 64), (1, .int a1), (2, .int a2)], [.int 2, .ref 64], (q_kM s c n))) 3 (fun _ _ => rfl) ?_
      refine q_RP_call (v := (some (.int (q_b (dz_M200_64 s 2).2)))) (h2 := (q_kM (dz_M200_64 s 2).1 c n)) rfl rfl ((dzt_M200_64 s c n 2).le (Nat.le_of_ble_eq_true rfl)) ?_
      generalize dz_M200_64 s 2 = r696
      refine q_RP_let ?_
      show q_RP _ _ _ (27, [(0, .ref 64), (1, .int a1), (2, .int a2)], [.int (q_b r696.2)], (q_kM r696.1 c n)) _ _
      cases h975 : r696.2 with
      | true =>
        refine q_RP_cT ?_
        show q_RP _ _ _ (27, [(0, .ref 64), (1, .int a1), (2, .int a2)], [.int 1], (q_kM r696.1 c n)) _ _
        refine q_RP_seg (g2 := (31, [(0, .ref 64), (1, .int a1), (2, .int a2)], [.int 0], (q_kM r696.1 c n))) 2 (fun _ _ => rfl) ?_
        exact q_RP_ret rfl rfl rfl
      | false =>
        refine q_RP_cF ?_
        show q_RP _ _ _ (27, [(0, .ref 64), (1, .int a1), (2, .int a2)], [.int 0], (q_kM r696.1 c n)) _ _
        refine q_RP_seg (g2 := (34, [(0, .ref 64), (1, .int a1), (2, .int a2)], [.int a1, .ref 64], (q_kM r696.1 c n))) 3 (fun _ _ => rfl) ?_
        refine q_RP_bd fun r697 er697 => ?_
        refine q_RP_call (v := (some (.int r697.2))) (h2 := (q_kM r697.1 c n)) rfl rfl ((dzt_M214_64 r696.1 c n a1 r697 er697).le (Nat.le_of_ble_eq_true rfl)) ?_
        show q_RP _ _ _ (37, [(0, .ref 64), (1, .int a1), (2, .int a2)], [.int r697.2], (q_kM r697.1 c n)) _ _
        refine q_RP_seg (g2 := (41, [(3, .int r697.2), (0, .ref 64), (1, .int a1), (2, .int a2)], [.int a2, .int a1, .ref 64], (q_kM r697.1 c n))) 4 (fun _ _ => rfl) ?_
        refine q_RP_bd fun r698 er698 => ?_
        refine q_RP_call (v := none) (h2 := (q_kM r698 c n)) rfl rfl ((dzt_M215_64 r697.1 c n a1 a2 r698 er698).le (Nat.le_of_ble_eq_true rfl)) ?_
        show q_RP _ _ _ (44, [(3, .int r697.2), (0, .ref 64), (1, .int a1), (2, .int a2)], [], (q_kM r698 c n)) _ _
        refine q_RP_seg (g2 := (45, [(3, .int r697.2), (0, .ref 64), (1, .int a1), (2, .int a2)], [.ref 64], (q_kM r698 c n))) 1 (fun _ _ => rfl) ?_
        refine q_RP_call (v := none) (h2 := (q_kM (dz_M205_64 r698) c n)) rfl rfl ((dzt_M205_64 r698 c n).le (Nat.le_of_ble_eq_true rfl)) ?_
        generalize dz_M205_64 r698 = r699
        refine q_RP_let ?_
        show q_RP _ _ _ (48, [(3, .int r697.2), (0, .ref 64), (1, .int a1), (2, .int a2)], [], (q_kM r699 c n)) _ _
        refine q_RP_seg (g2 := (49, [(3, .int r697.2), (0, .ref 64), (1, .int a1), (2, .int a2)], [.int r697.2], (q_kM r699 c n))) 1 (fun _ _ => rfl) ?_
        exact q_RP_ret rfl rfl rfl
    | false =>
      refine q_RP_cF ?_
      show q_RP _ _ _ (16, [(0, .ref 64), (1, .int a1), (2, .int a2)], [.int 0, .ref 64], (q_kM s c n)) _ _
      refine q_RP_seg (g2 := (24, [(0, .ref 64), (1, .int a1), (2, .int a2)], [.int 0, .ref 64], (q_kM s c n))) 2 (fun _ _ => rfl) ?_
      refine q_RP_call (v := (some (.int (q_b (dz_M200_64 s 0).2)))) (h2 := (q_kM (dz_M200_64 s 0).1 c n)) rfl rfl ((dzt_M200_64 s c n 0).le (Nat.le_of_ble_eq_true rfl)) ?_
      generalize dz_M200_64 s 0 = r700
      refine q_RP_let ?_
      show q_RP _ _ _ (27, [(0, .ref 64), (1, .int a1), (2, .int a2)], [.int (q_b r700.2)], (q_kM r700.1 c n)) _ _
      cases h976 : r700.2 with
      | true =>
        refine q_RP_cT ?_
        show q_RP _ _ _ (27, [(0, .ref 64), (1, .int a1), (2, .int a2)], [.int 1], (q_kM r700.1 c n)) _ _
        refine q_RP_seg (g2 := (31, [(0, .ref 64), (1, .int a1), (2, .int a2)], [.int 0], (q_kM r700.1 c n))) 2 (fun _ _ => rfl) ?_
        exact q_RP_ret rfl rfl rfl
      | false =>
        refine q_RP_cF ?_
        show q_RP _ _ _ (27, [(0, .ref 64), (1, .int a1), (2, .int a2)], [.int 0], (q_kM r700.1 c n)) _ _
        refine q_RP_seg (g2 := (34, [(0, .ref 64), (1, .int a1), (2, .int a2)], [.int a1, .ref 64], (q_kM r700.1 c n))) 3 (fun _ _ => rfl) ?_
        refine q_RP_bd fun r701 er701 => ?_
        refine q_RP_call (v := (some (.int r701.2))) (h2 := (q_kM r701.1 c n)) rfl rfl ((dzt_M214_64 r700.1 c n a1 r701 er701).le (Nat.le_of_ble_eq_true rfl)) ?_
        show q_RP _ _ _ (37, [(0, .ref 64), (1, .int a1), (2, .int a2)], [.int r701.2], (q_kM r701.1 c n)) _ _
        refine q_RP_seg (g2 := (41, [(3, .int r701.2), (0, .ref 64), (1, .int a1), (2, .int a2)], [.int a2, .int a1, .ref 64], (q_kM r701.1 c n))) 4 (fun _ _ => rfl) ?_
        refine q_RP_bd fun r702 er702 => ?_
        refine q_RP_call (v := none) (h2 := (q_kM r702 c n)) rfl rfl ((dzt_M215_64 r701.1 c n a1 a2 r702 er702).le (Nat.le_of_ble_eq_true rfl)) ?_
        show q_RP _ _ _ (44, [(3, .int r701.2), (0, .ref 64), (1, .int a1), (2, .int a2)], [], (q_kM r702 c n)) _ _
        refine q_RP_seg (g2 := (45, [(3, .int r701.2), (0, .ref 64), (1, .int a1), (2, .int a2)], [.ref 64], (q_kM r702 c n))) 1 (fun _ _ => rfl) ?_
        refine q_RP_call (v := none) (h2 := (q_kM (dz_M205_64 r702) c n)) rfl rfl ((dzt_M205_64 r702 c n).le (Nat.le_of_ble_eq_true rfl)) ?_
        generalize dz_M205_64 r702 = r703
        refine q_RP_let ?_
        show q_RP _ _ _ (48, [(3, .int r701.2), (0, .ref 64), (1, .int a1), (2, .int a2)], [], (q_kM r703 c n)) _ _
        refine q_RP_seg (g2 := (49, [(3, .int r701.2), (0, .ref 64), (1, .int a1), (2, .int a2)], [.int r701.2], (q_kM r703 c n))) 1 (fun _ _ => rfl) ?_
        exact q_RP_ret rfl rfl rfl
def dz_M217_64 (s : q_S) (a1 : Int32) (a2 : Int32) : Option (q_S × Int32) :=
  q_let (dz_M202 s a1 0 511) fun r707 => cond r707 (q_let (dz_M203 s a2) fun r708 => cond r708 (q_let (dz_M200_64 s 2) fun r709 => cond r709.2 (some (r709.1, 0)) (cond (q_in a1 512) (q_let (dz_M205_64 (q_sA r709.1 2 (upd (r709.1.1 2) (a1.toNatClampNeg) a2))) fun r710 => some (r710, ((r709.1.1 2) (a1.toNatClampNeg)))) none)) (q_let (dz_M200_64 s 0) fun r711 => cond r711.2 (some (r711.1, 0)) (cond (q_in a1 512) (q_let (dz_M205_64 (q_sA r711.1 2 (upd (r711.1.1 2) (a1.toNatClampNeg) a2))) fun r712 => some (r712, ((r711.1.1 2) (a1.toNatClampNeg)))) none))) (q_let (dz_M200_64 s 1) fun r713 => cond r713.2 (some (r713.1, 0)) (cond (q_in a1 512) (q_let (dz_M205_64 (q_sA r713.1 2 (upd (r713.1.1 2) (a1.toNatClampNeg) a2))) fun r714 => some (r714, ((r713.1.1 2) (a1.toNatClampNeg)))) none))
set_option maxHeartbeats 4000000 in
theorem dzt_M217_64 (s : q_S) (c n : Nat) (a1 : Int32) (a2 : Int32) (x : q_S × Int32) (h : dz_M217_64 s a1 a2 = some x) : q_Ca q_TB0 3 216 [.ref 64, .int a1, .int a2] (q_kM s c n) ((q_oIM c n) x) := by
  refine q_CaP_of (φ := (q_oIM c n)) (Nat.le_of_ble_eq_true rfl) ?_ h
  clear h
  unfold dz_M217_64
  refine q_RP_seg (g2 := (6, [(0, .ref 64), (1, .int a1), (2, .int a2)], [.int 511, .int 0, .int a1, .ref 64], (q_kM s c n))) 4 (fun _ _ => rfl) ?_
  refine q_RP_call (v := (some (.int (q_b (dz_M202 s a1 0 511))))) (h2 := (q_kM s c n)) rfl rfl ((dzt_M202 s c n a1 0 511).le (Nat.le_of_ble_eq_true rfl)) ?_
  generalize dz_M202 s a1 0 511 = r707
  refine q_RP_let ?_
  show q_RP _ _ _ (9, [(0, .ref 64), (1, .int a1), (2, .int a2)], [.int (q_b r707), .ref 64], (q_kM s c n)) _ _
  cases h980 : r707 with
  | true =>
    refine q_RP_cT ?_
    show q_RP _ _ _ (9, [(0, .ref 64), (1, .int a1), (2, .int a2)], [.int 1, .ref 64], (q_kM s c n)) _ _
    refine q_RP_seg (g2 := (17, [(0, .ref 64), (1, .int a1), (2, .int a2)], [.int a2, .ref 64], (q_kM s c n))) 2 (fun _ _ => rfl) ?_
    refine q_RP_call (v := (some (.int (q_b (dz_M203 s a2))))) (h2 := (q_kM s c n)) rfl rfl ((dzt_M203 s c n a2).le (Nat.le_of_ble_eq_true rfl)) ?_
    generalize dz_M203 s a2 = r708
    refine q_RP_let ?_
    show q_RP _ _ _ (20, [(0, .ref 64), (1, .int a1), (2, .int a2)], [.int (q_b r708), .ref 64], (q_kM s c n)) _ _
    cases h981 : r708 with
    | true =>
      refine q_RP_cT ?_
      show q_RP _ _ _ (20, [(0, .ref 64), (1, .int a1), (2, .int a2)], [.int 1, .ref 64], (q_kM s c n)) _ _
      refine q_RP_seg (g2 := (28, [(0, .ref 64), (1, .int a1), (2, .int a2)], [.int 2, .ref 64], (q_kM s c n))) 3 (fun _ _ => rfl) ?_
      refine q_RP_call (v := (some (.int (q_b (dz_M200_64 s 2).2)))) (h2 := (q_kM (dz_M200_64 s 2).1 c n)) rfl rfl ((dzt_M200_64 s c n 2).le (Nat.le_of_ble_eq_true rfl)) ?_
      generalize dz_M200_64 s 2 = r709
      refine q_RP_let ?_
      show q_RP _ _ _ (31, [(0, .ref 64), (1, .int a1), (2, .int a2)], [.int (q_b r709.2)], (q_kM r709.1 c n)) _ _
      cases h982 : r709.2 with
      | true =>
        refine q_RP_cT ?_
        show q_RP _ _ _ (31, [(0, .ref 64), (1, .int a1), (2, .int a2)], [.int 1], (q_kM r709.1 c n)) _ _
        refine q_RP_seg (g2 := (35, [(0, .ref 64), (1, .int a1), (2, .int a2)], [.int 0], (q_kM r709.1 c n))) 2 (fun _ _ => rfl) ?_
        exact q_RP_ret rfl rfl rfl
      | false =>
        refine q_RP_cF ?_
        show q_RP _ _ _ (31, [(0, .ref 64), (1, .int a1), (2, .int a2)], [.int 0], (q_kM r709.1 c n)) _ _
        refine q_RP_seg (g2 := (41, [(0, .ref 64), (1, .int a1), (2, .int a2)], [.int a1, .ref 66], (q_kM r709.1 c n))) 4 (fun _ _ => rfl) ?_
        refine q_RP_as fun i983 => ?_
        refine q_RP_rsT (g2 := (42, [(0, .ref 64), (1, .int a1), (2, .int a2)], [.int ((r709.1.1 2) (a1.toNatClampNeg))], (q_kM r709.1 c n))) rfl rfl i983 ?_
        refine q_RP_seg (g2 := (49, [(3, .int ((r709.1.1 2) (a1.toNatClampNeg))), (0, .ref 64), (1, .int a1), (2, .int a2)], [.int a2, .int a1, .ref 66], (q_kM r709.1 c n))) 5 (fun _ _ => rfl) ?_
        refine q_RP_rsT (g2 := (50, [(3, .int ((r709.1.1 2) (a1.toNatClampNeg))), (0, .ref 64), (1, .int a1), (2, .int a2)], [], (q_kM (q_sA r709.1 2 (upd (r709.1.1 2) (a1.toNatClampNeg) a2)) c n))) rfl q_wM2 i983 ?_
        refine q_RP_seg (g2 := (51, [(3, .int ((r709.1.1 2) (a1.toNatClampNeg))), (0, .ref 64), (1, .int a1), (2, .int a2)], [.ref 64], (q_kM (q_sA r709.1 2 (upd (r709.1.1 2) (a1.toNatClampNeg) a2)) c n))) 1 (fun _ _ => rfl) ?_
        refine q_RP_call (v := none) (h2 := (q_kM (dz_M205_64 (q_sA r709.1 2 (upd (r709.1.1 2) (a1.toNatClampNeg) a2))) c n)) rfl rfl ((dzt_M205_64 (q_sA r709.1 2 (upd (r709.1.1 2) (a1.toNatClampNeg) a2)) c n).le (Nat.le_of_ble_eq_true rfl)) ?_
        generalize dz_M205_64 (q_sA r709.1 2 (upd (r709.1.1 2) (a1.toNatClampNeg) a2)) = r710
        refine q_RP_let ?_
        show q_RP _ _ _ (54, [(3, .int ((r709.1.1 2) (a1.toNatClampNeg))), (0, .ref 64), (1, .int a1), (2, .int a2)], [], (q_kM r710 c n)) _ _
        refine q_RP_seg (g2 := (55, [(3, .int ((r709.1.1 2) (a1.toNatClampNeg))), (0, .ref 64), (1, .int a1), (2, .int a2)], [.int ((r709.1.1 2) (a1.toNatClampNeg))], (q_kM r710 c n))) 1 (fun _ _ => rfl) ?_
        exact q_RP_ret rfl rfl rfl
    | false =>
      refine q_RP_cF ?_
      show q_RP _ _ _ (20, [(0, .ref 64), (1, .int a1), (2, .int a2)], [.int 0, .ref 64], (q_kM s c n)) _ _
      refine q_RP_seg (g2 := (28, [(0, .ref 64), (1, .int a1), (2, .int a2)], [.int 0, .ref 64], (q_kM s c n))) 2 (fun _ _ => rfl) ?_
      refine q_RP_call (v := (some (.int (q_b (dz_M200_64 s 0).2)))) (h2 := (q_kM (dz_M200_64 s 0).1 c n)) rfl rfl ((dzt_M200_64 s c n 0).le (Nat.le_of_ble_eq_true rfl)) ?_
      generalize dz_M200_64 s 0 = r711
      refine q_RP_let ?_
      show q_RP _ _ _ (31, [(0, .ref 64), (1, .int a1), (2, .int a2)], [.int (q_b r711.2)], (q_kM r711.1 c n)) _ _
      cases h984 : r711.2 with
      | true =>
        refine q_RP_cT ?_
        show q_RP _ _ _ (31, [(0, .ref 64), (1, .int a1), (2, .int a2)], [.int 1], (q_kM r711.1 c n)) _ _
        refine q_RP_seg (g2 := (35, [(0, .ref 64), (1, .int a1), (2, .int a2)], [.int 0], (q_kM r711.1 c n))) 2 (fun _ _ => rfl) ?_
        exact q_RP_ret rfl rfl rfl
      | false =>
        refine q_RP_cF ?_
        show q_RP _ _ _ (31, [(0, .ref 64), (1, .int a1), (2, .int a2)], [.int 0], (q_kM r711.1 c n)) _ _
        refine q_RP_seg (g2 := (41, [(0, .ref 64), (1, .int a1), (2, .int a2)], [.int a1, .ref 66], (q_kM r711.1 c n))) 4 (fun _ _ => rfl) ?_
        refine q_RP_as fun i985 => ?_
        refine q_RP_rsT (g2 := (42, [(0, .ref 64), (1, .int a1), (2, .int a2)], [.int ((r711.1.1 2) (a1.toNatClampNeg))], (q_kM r711.1 c n))) rfl rfl i985 ?_
        refine q_RP_seg (g2 := (49, [(3, .int ((r711.1.1 2) (a1.toNatClampNeg))), (0, .ref 64), (1, .int a1), (2, .int a2)], [.int a2, .int a1, .ref 66], (q_kM r711.1 c n))) 5 (fun _ _ => rfl) ?_
        refine q_RP_rsT (g2 := (50, [(3, .int ((r711.1.1 2) (a1.toNatClampNeg))), (0, .ref 64), (1, .int a1), (2, .int a2)], [], (q_kM (q_sA r711.1 2 (upd (r711.1.1 2) (a1.toNatClampNeg) a2)) c n))) rfl q_wM2 i985 ?_
        refine q_RP_seg (g2 := (51, [(3, .int ((r711.1.1 2) (a1.toNatClampNeg))), (0, .ref 64), (1, .int a1), (2, .int a2)], [.ref 64], (q_kM (q_sA r711.1 2 (upd (r711.1.1 2) (a1.toNatClampNeg) a2)) c n))) 1 (fun _ _ => rfl) ?_
        refine q_RP_call (v := none) (h2 := (q_kM (dz_M205_64 (q_sA r711.1 2 (upd (r711.1.1 2) (a1.toNatClampNeg) a2))) c n)) rfl rfl ((dzt_M205_64 (q_sA r711.1 2 (upd (r711.1.1 2) (a1.toNatClampNeg) a2)) c n).le (Nat.le_of_ble_eq_true rfl)) ?_
        generalize dz_M205_64 (q_sA r711.1 2 (upd (r711.1.1 2) (a1.toNatClampNeg) a2)) = r712
        refine q_RP_let ?_
        show q_RP _ _ _ (54, [(3, .int ((r711.1.1 2) (a1.toNatClampNeg))), (0, .ref 64), (1, .int a1), (2, .int a2)], [], (q_kM r712 c n)) _ _
        refine q_RP_seg (g2 := (55, [(3, .int ((r711.1.1 2) (a1.toNatClampNeg))), (0, .ref 64), (1, .int a1), (2, .int a2)], [.int ((r711.1.1 2) (a1.toNatClampNeg))], (q_kM r712 c n))) 1 (fun _ _ => rfl) ?_
        exact q_RP_ret rfl rfl rfl
  | false =>
    refine q_RP_cF ?_
    show q_RP _ _ _ (9, [(0, .ref 64), (1, .int a1), (2, .int a2)], [.int 0, .ref 64], (q_kM s c n)) _ _
    refine q_RP_seg (g2 := (28, [(0, .ref 64), (1, .int a1), (2, .int a2)], [.int 1, .ref 64], (q_kM s c n))) 3 (fun _ _ => rfl) ?_
    refine q_RP_call (v := (some (.int (q_b (dz_M200_64 s 1).2)))) (h2 := (q_kM (dz_M200_64 s 1).1 c n)) rfl rfl ((dzt_M200_64 s c n 1).le (Nat.le_of_ble_eq_true rfl)) ?_
    generalize dz_M200_64 s 1 = r713
    refine q_RP_let ?_
    show q_RP _ _ _ (31, [(0, .ref 64), (1, .int a1), (2, .int a2)], [.int (q_b r713.2)], (q_kM r713.1 c n)) _ _
    cases h986 : r713.2 with
    | true =>
      refine q_RP_cT ?_
      show q_RP _ _ _ (31, [(0, .ref 64), (1, .int a1), (2, .int a2)], [.int 1], (q_kM r713.1 c n)) _ _
      refine q_RP_seg (g2 := (35, [(0, .ref 64), (1, .int a1), (2, .int a2)], [.int 0], (q_kM r713.1 c n))) 2 (fun _ _ => rfl) ?_
      exact q_RP_ret rfl rfl rfl
    | false =>
      refine q_RP_cF ?_
      show q_RP _ _ _ (31, [(0, .ref 64), (1, .int a1), (2, .int a2)], [.int 0], (q_kM r713.1 c n)) _ _
      refine q_RP_seg (g2 := (41, [(0, .ref 64), (1, .int a1), (2, .int a2)], [.int a1, .ref 66], (q_kM r713.1 c n))) 4 (fun _ _ => rfl) ?_
      refine q_RP_as fun i987 => ?_
      refine q_RP_rsT (g2 := (42, [(0, .ref 64), (1, .int a1), (2, .int a2)], [.int ((r713.1.1 2) (a1.toNatClampNeg))], (q_kM r713.1 c n))) rfl rfl i987 ?_
      refine q_RP_seg (g2 := (49, [(3, .int ((r713.1.1 2) (a1.toNatClampNeg))), (0, .ref 64), (1, .int a1), (2, .int a2)], [.int a2, .int a1, .ref 66], (q_kM r713.1 c n))) 5 (fun _ _ => rfl) ?_
      refine q_RP_rsT (g2 := (50, [(3, .int ((r713.1.1 2) (a1.toNatClampNeg))), (0, .ref 64), (1, .int a1), (2, .int a2)], [], (q_kM (q_sA r713.1 2 (upd (r713.1.1 2) (a1.toNatClampNeg) a2)) c n))) rfl q_wM2 i987 ?_
      refine q_RP_seg (g2 := (51, [(3, .int ((r713.1.1 2) (a1.toNatClampNeg))), (0, .ref 64), (1, .int a1), (2, .int a2)], [.ref 64], (q_kM (q_sA r713.1 2 (upd (r713.1.1 2) (a1.toNatClampNeg) a2)) c n))) 1 (fun _ _ => rfl) ?_
      refine q_RP_call (v := none) (h2 := (q_kM (dz_M205_64 (q_sA r713.1 2 (upd (r713.1.1 2) (a1.toNatClampNeg) a2))) c n)) rfl rfl ((dzt_M205_64 (q_sA r713.1 2 (upd (r713.1.1 2) (a1.toNatClampNeg) a2)) c n).le (Nat.le_of_ble_eq_true rfl)) ?_
      generalize dz_M205_64 (q_sA r713.1 2 (upd (r713.1.1 2) (a1.toNatClampNeg) a2)) = r714
      refine q_RP_let ?_
      show q_RP _ _ _ (54, [(3, .int ((r713.1.1 2) (a1.toNatClampNeg))), (0, .ref 64), (1, .int a1), (2, .int a2)], [], (q_kM r714 c n)) _ _
      refine q_RP_seg (g2 := (55, [(3, .int ((r713.1.1 2) (a1.toNatClampNeg))), (0, .ref 64), (1, .int a1), (2, .int a2)], [.int ((r713.1.1 2) (a1.toNatClampNeg))], (q_kM r714 c n))) 1 (fun _ _ => rfl) ?_
      exact q_RP_ret rfl rfl rfl
def dz_M218_64 (s : q_S) (a1 : Int32) (a2 : Int32) (a3 : Int32) : Option (q_S × Int32) :=
  q_let (dz_M202 s a1 0 3) fun r719 => cond r719 (q_let (dz_M202 s a2 0 511) fun r720 => cond r720 (q_let (dz_M203 s a3) fun r721 => cond r721 (q_let (dz_M200_64 s 2) fun r722 => cond r722.2 (some (r722.1, 0)) (cond (q_in ((512 * a1) + a2) 2048) (q_let (dz_M205_64 (q_sA r722.1 3 (upd (r722.1.1 3) (((512 * a1) + a2).toNatClampNeg) a3))) fun r723 => some (r723, ((r722.1.1 3) (((512 * a1) + a2).toNatClampNeg)))) none)) (q_let (dz_M200_64 s 0) fun r724 => cond r724.2 (some (r724.1, 0)) (cond (q_in ((512 * a1) + a2) 2048) (q_let (dz_M205_64 (q_sA r724.1 3 (upd (r724.1.1 3) (((512 * a1) + a2).toNatClampNeg) a3))) fun r725 => some (r725, ((r724.1.1 3) (((512 * a1) + a2).toNatClampNeg)))) none))) (q_let (dz_M200_64 s 1) fun r726 => cond r726.2 (some (r726.1, 0)) (cond (q_in ((512 * a1) + a2) 2048) (q_let (dz_M205_64 (q_sA r726.1 3 (upd (r726.1.1 3) (((512 * a1) + a2).toNatClampNeg) a3))) fun r727 => some (r727, ((r726.1.1 3) (((512 * a1) + a2).toNatClampNeg)))) none))) (q_let (dz_M200_64 s 1) fun r728 => cond r728.2 (some (r728.1, 0)) (cond (q_in ((512 * a1) + a2) 2048) (q_let (dz_M205_64 (q_sA r728.1 3 (upd (r728.1.1 3) (((512 * a1) + a2).toNatClampNeg) a3))) fun r729 => some (r729, ((r728.1.1 3) (((512 * a1) + a2).toNatClampNeg)))) none))
set_option maxHeartbeats 4000000 in
theorem dzt_M218_64 (s : q_S) (c n : Nat) (a1 : Int32) (a2 : Int32) (a3 : Int32) (x : q_S × Int32) (h : dz_M218_64 s a1 a2 a3 = some x) : q_Ca q_TB0 3 217 [.ref 64, .int a1, .int a2, .int a3] (q_kM s c n) ((q_oIM c n) x) := by
  refine q_CaP_of (φ := (q_oIM c n)) (Nat.le_of_ble_eq_true rfl) ?_ h
  clear h
  unfold dz_M218_64
  refine q_RP_seg (g2 := (4, [(0, .ref 64), (1, .int a1), (2, .int a2), (3, .int a3)], [.int 3, .int 0, .int a1, .ref 64], (q_kM s c n))) 4 (fun _ _ => rfl) ?_
  refine q_RP_call (v := (some (.int (q_b (dz_M202 s a1 0 3))))) (h2 := (q_kM s c n)) rfl rfl ((dzt_M202 s c n a1 0 3).le (Nat.le_of_ble_eq_true rfl)) ?_
  generalize dz_M202 s a1 0 3 = r719
  refine q_RP_let ?_
  show q_RP _ _ _ (7, [(0, .ref 64), (1, .int a1), (2, .int a2), (3, .int a3)], [.int (q_b r719), .ref 64], (q_kM s c n)) _ _
  cases h992 : r719 with
  | true =>
    refine q_RP_cT ?_
    show q_RP _ _ _ (7, [(0, .ref 64), (1, .int a1), (2, .int a2), (3, .int a3)], [.int 1, .ref 64], (q_kM s c n)) _ _
    refine q_RP_seg (g2 := (15, [(0, .ref 64), (1, .int a1), (2, .int a2), (3, .int a3)], [.int 511, .int 0, .int a2, .ref 64], (q_kM s c n))) 4 (fun _ _ => rfl) ?_
    refine q_RP_call (v := (some (.int (q_b (dz_M202 s a2 0 511))))) (h2 := (q_kM s c n)) rfl rfl ((dzt_M202 s c n a2 0 511).le (Nat.le_of_ble_eq_true rfl)) ?_
    generalize dz_M202 s a2 0 511 = r720
    refine q_RP_let ?_
    show q_RP _ _ _ (18, [(0, .ref 64), (1, .int a1), (2, .int a2), (3, .int a3)], [.int (q_b r720), .ref 64], (q_kM s c n)) _ _
    cases h993 : r720 with
    | true =>
      refine q_RP_cT ?_
      show q_RP _ _ _ (18, [(0, .ref 64), (1, .int a1), (2, .int a2), (3, .int a3)], [.int 1, .ref 64], (q_kM s c n)) _ _
      refine q_RP_seg (g2 := (26, [(0, .ref 64), (1, .int a1), (2, .int a2), (3, .int a3)], [.int a3, .ref 64], (q_kM s c n))) 2 (fun _ _ => rfl) ?_
      refine q_RP_call (v := (some (.int (q_b (dz_M203 s a3))))) (h2 := (q_kM s c n)) rfl rfl ((dzt_M203 s c n a3).le (Nat.le_of_ble_eq_true rfl)) ?_
      generalize dz_M203 s a3 = r721
      refine q_RP_let ?_
      show q_RP _ _ _ (29, [(0, .ref 64), (1, .int a1), (2, .int a2), (3, .int a3)], [.int (q_b r721), .ref 64], (q_kM s c n)) _ _
      cases h994 : r721 with
      | true =>
        refine q_RP_cT ?_
        show q_RP _ _ _ (29, [(0, .ref 64), (1, .int a1), (2, .int a2), (3, .int a3)], [.int 1, .ref 64], (q_kM s c n)) _ _
        refine q_RP_seg (g2 := (37, [(0, .ref 64), (1, .int a1), (2, .int a2), (3, .int a3)], [.int 2, .ref 64], (q_kM s c n))) 3 (fun _ _ => rfl) ?_
        refine q_RP_call (v := (some (.int (q_b (dz_M200_64 s 2).2)))) (h2 := (q_kM (dz_M200_64 s 2).1 c n)) rfl rfl ((dzt_M200_64 s c n 2).le (Nat.le_of_ble_eq_true rfl)) ?_
        generalize dz_M200_64 s 2 = r722
        refine q_RP_let ?_
        show q_RP _ _ _ (40, [(0, .ref 64), (1, .int a1), (2, .int a2), (3, .int a3)], [.int (q_b r722.2)], (q_kM r722.1 c n)) _ _
        cases h995 : r722.2 with
        | true =>
          refine q_RP_cT ?_
          show q_RP _ _ _ (40, [(0, .ref 64), (1, .int a1), (2, .int a2), (3, .int a3)], [.int 1], (q_kM r722.1 c n)) _ _
          refine q_RP_seg (g2 := (44, [(0, .ref 64), (1, .int a1), (2, .int a2), (3, .int a3)], [.int 0], (q_kM r722.1 c n))) 2 (fun _ _ => rfl) ?_
          exact q_RP_ret rfl rfl rfl
        | false =>
          refine q_RP_cF ?_
          show q_RP _ _ _ (40, [(0, .ref 64), (1, .int a1), (2, .int a2), (3, .int a3)], [.int 0], (q_kM r722.1 c n)) _ _
          refine q_RP_seg (g2 := (56, [(0, .ref 64), (1, .int a1), (2, .int a2), (3, .int a3)], [.int ((512 * a1) + a2), .ref 67], (q_kM r722.1 c n))) 8 (fun _ _ => rfl) ?_
          refine q_RP_as fun i996 => ?_
          refine q_RP_rsT (g2 := (57, [(0, .ref 64), (1, .int a1), (2, .int a2), (3, .int a3)], [.int ((r722.1.1 3) (((512 * a1) + a2).toNatClampNeg))], (q_kM r722.1 c n))) rfl rfl i996 ?_
          refine q_RP_seg (g2 := (71, [(4, .int ((r722.1.1 3) (((512 * a1) + a2).toNatClampNeg))), (0, .ref 64), (1, .int a1), (2, .int a2), (3, .int a3)], [.int a3, .int ((512 * a1) + a2), .ref 67], (q_kM r722.1 c n))) 9 (fun _ _ => rfl) ?_
          refine q_RP_rsT (g2 := (72, [(4, .int ((r722.1.1 3) (((512 * a1) + a2).toNatClampNeg))), (0, .ref 64), (1, .int a1), (2, .int a2), (3, .int a3)], [], (q_kM (q_sA r722.1 3 (upd (r722.1.1 3) (((512 * a1) + a2).toNatClampNeg) a3)) c n))) rfl q_wM3 i996 ?_
          refine q_RP_seg (g2 := (73, [(4, .int ((r722.1.1 3) (((512 * a1) + a2).toNatClampNeg))), (0, .ref 64), (1, .int a1), (2, .int a2), (3, .int a3)], [.ref 64], (q_kM (q_sA r722.1 3 (upd (r722.1.1 3) (((512 * a1) + a2).toNatClampNeg) a3)) c n))) 1 (fun _ _ => rfl) ?_
          refine q_RP_call (v := none) (h2 := (q_kM (dz_M205_64 (q_sA r722.1 3 (upd (r722.1.1 3) (((512 * a1) + a2).toNatClampNeg) a3))) c n)) rfl rfl ((dzt_M205_64 (q_sA r722.1 3 (upd (r722.1.1 3) (((512 * a1) + a2).toNatClampNeg) a3)) c n).le (Nat.le_of_ble_eq_true rfl)) ?_
          generalize dz_M205_64 (q_sA r722.1 3 (upd (r722.1.1 3) (((512 * a1) + a2).toNatClampNeg) a3)) = r723
          refine q_RP_let ?_
          show q_RP _ _ _ (76, [(4, .int ((r722.1.1 3) (((512 * a1) + a2).toNatClampNeg))), (0, .ref 64), (1, .int a1), (2, .int a2), (3, .int a3)], [], (q_kM r723 c n)) _ _
          refine q_RP_seg (g2 := (78, [(4, .int ((r722.1.1 3) (((512 * a1) + a2).toNatClampNeg))), (0, .ref 64), (1, .int a1), (2, .int a2), (3, .int a3)], [.int ((r722.1.1 3) (((512 * a1) + a2).toNatClampNeg))], (q_kM r723 c n))) 1 (fun _ _ => rfl) ?_
          exact q_RP_ret rfl rfl rfl
      | false =>
        refine q_RP_cF ?_
        show q_RP _ _ _ (29, [(0, .ref 64), (1, .int a1), (2, .int a2), (3, .int a3)], [.int 0, .ref 64], (q_kM s c n)) _ _
        refine q_RP_seg (g2 := (37, [(0, .ref 64), (1, .int a1), (2, .int a2), (3, .int a3)], [.int 0, .ref 64], (q_kM s c n))) 2 (fun _ _ => rfl) ?_
        refine q_RP_call (v := (some (.int (q_b (dz_M200_64 s 0).2)))) (h2 := (q_kM (dz_M200_64 s 0).1 c n)) rfl rfl ((dzt_M200_64 s c n 0).le (Nat.le_of_ble_eq_true rfl)) ?_
        generalize dz_M200_64 s 0 = r724
        refine q_RP_let ?_
        show q_RP _ _ _ (40, [(0, .ref 64), (1, .int a1), (2, .int a2), (3, .int a3)], [.int (q_b r724.2)], (q_kM r724.1 c n)) _ _
        cases h997 : r724.2 with
        | true =>
          refine q_RP_cT ?_
          show q_RP _ _ _ (40, [(0, .ref 64), (1, .int a1), (2, .int a2), (3, .int a3)], [.int 1], (q_kM r724.1 c n)) _ _
          refine q_RP_seg (g2 := (44, [(0, .ref 64), (1, .int a1), (2, .int a2), (3, .int a3)], [.int 0], (q_kM r724.1 c n))) 2 (fun _ _ => rfl) ?_
          exact q_RP_ret rfl rfl rfl
        | false =>
          refine q_RP_cF ?_
          show q_RP _ _ _ (40, [(0, .ref 64), (1, .int a1), (2, .int a2), (3, .int a3)], [.int 0], (q_kM r724.1 c n)) _ _
          refine q_RP_seg (g2 := (56, [(0, .ref 64), (1, .int a1), (2, .int a2), (3, .int a3)], [.int ((512 * a1) + a2), .ref 67], (q_kM r724.1 c n))) 8 (fun _ _ => rfl) ?_
          refine q_RP_as fun i998 => ?_
          refine q_RP_rsT (g2 := (57, [(0, .ref 64), (1, .int a1), (2, .int a2), (3, .int a3)], [.int ((r724.1.1 3) (((512 * a1) + a2).toNatClampNeg))], (q_kM r724.1 c n))) rfl rfl i998 ?_
          refine q_RP_seg (g2 := (71, [(4, .int ((r724.1.1 3) (((512 * a1) + a2).toNatClampNeg))), (0, .ref 64), (1, .int a1), (2, .int a2), (3, .int a3)], [.int a3, .int ((512 * a1) + a2), .ref 67], (q_kM r724.1 c n))) 9 (fun _ _ => rfl) ?_
          refine q_RP_rsT (g2 := (72, [(4, .int ((r724.1.1 3) (((512 * a1) + a2).toNatClampNeg))), (0, .ref 64), (1, .int a1), (2, .int a2), (3, .int a3)], [], (q_kM (q_sA r724.1 3 (upd (r724.1.1 3) (((512 * a1) + a2).toNatClampNeg) a3)) c n))) rfl q_wM3 i998 ?_
          refine q_RP_seg (g2 := (73, [(4, .int ((r724.1.1 3) (((512 * a1) + a2).toNatClampNeg))), (0, .ref 64), (1, .int a1), (2, .int a2), (3, .int a3)], [.ref 64], (q_kM (q_sA r724.1 3 (upd (r724.1.1 3) (((512 * a1) + a2).toNatClampNeg) a3)) c n))) 1 (fun _ _ => rfl) ?_
          refine q_RP_call (v := none) (h2 := (q_kM (dz_M205_64 (q_sA r724.1 3 (upd (r724.1.1 3) (((512 * a1) + a2).toNatClampNeg) a3))) c n)) rfl rfl ((dzt_M205_64 (q_sA r724.1 3 (upd (r724.1.1 3) (((512 * a1) + a2).toNatClampNeg) a3)) c n).le (Nat.le_of_ble_eq_true rfl)) ?_
          generalize dz_M205_64 (q_sA r724.1 3 (upd (r724.1.1 3) (((512 * a1) + a2).toNatClampNeg) a3)) = r725
          refine q_RP_let ?_
          show q_RP _ _ _ (76, [(4, .int ((r724.1.1 3) (((512 * a1) + a2).toNatClampNeg))), (0, .ref 64), (1, .int a1), (2, .int a2), (3, .int a3)], [], (q_kM r725 c n)) _ _
          refine q_RP_seg (g2 := (78, [(4, .int ((r724.1.1 3) (((512 * a1) + a2).toNatClampNeg))), (0, .ref 64), (1, .int a1), (2, .int a2), (3, .int a3)], [.int ((r724.1.1 3) (((512 * a1) + a2).toNatClampNeg))], (q_kM r725 c n))) 1 (fun _ _ => rfl) ?_
          exact q_RP_ret rfl rfl rfl
    | false =>
      refine q_RP_cF ?_
      show q_RP _ _ _ (18, [(0, .ref 64), (1, .int a1), (2, .int a2), (3, .int a3)], [.int 0, .ref 64], (q_kM s c n)) _ _
      refine q_RP_seg (g2 := (37, [(0, .ref 64), (1, .int a1), (2, .int a2), (3, .int a3)], [.int 1, .ref 64], (q_kM s c n))) 3 (fun _ _ => rfl) ?_
      refine q_RP_call (v := (some (.int (q_b (dz_M200_64 s 1).2)))) (h2 := (q_kM (dz_M200_64 s 1).1 c n)) rfl rfl ((dzt_M200_64 s c n 1).le (Nat.le_of_ble_eq_true rfl)) ?_
      generalize dz_M200_64 s 1 = r726
      refine q_RP_let ?_
      show q_RP _ _ _ (40, [(0, .ref 64), (1, .int a1), (2, .int a2), (3, .int a3)], [.int (q_b r726.2)], (q_kM r726.1 c n)) _ _
      cases h999 : r726.2 with
      | true =>
        refine q_RP_cT ?_
        show q_RP _ _ _ (40, [(0, .ref 64), (1, .int a1), (2, .int a2), (3, .int a3)], [.int 1], (q_kM r726.1 c n)) _ _
        refine q_RP_seg (g2 := (44, [(0, .ref 64), (1, .int a1), (2, .int a2), (3, .int a3)], [.int 0], (q_kM r726.1 c n))) 2 (fun _ _ => rfl) ?_
        exact q_RP_ret rfl rfl rfl
      | false =>
        refine q_RP_cF ?_
        show q_RP _ _ _ (40, [(0, .ref 64), (1, .int a1), (2, .int a2), (3, .int a3)], [.int 0], (q_kM r726.1 c n)) _ _
        refine q_RP_seg (g2 := (56, [(0, .ref 64), (1, .int a1), (2, .int a2), (3, .int a3)], [.int ((512 * a1) + a2), .ref 67], (q_kM r726.1 c n))) 8 (fun _ _ => rfl) ?_
        refine q_RP_as fun i1000 => ?_
        refine q_RP_rsT (g2 := (57, [(0, .ref 64), (1, .int a1), (2, .int a2), (3, .int a3)], [.int ((r726.1.1 3) (((512 * a1) + a2).toNatClampNeg))], (q_kM r726.1 c n))) rfl rfl i1000 ?_
        refine q_RP_seg (g2 := (71, [(4, .int ((r726.1.1 3) (((512 * a1) + a2).toNatClampNeg))), (0, .ref 64), (1, .int a1), (2, .int a2), (3, .int a3)], [.int a3, .int ((512 * a1) + a2), .ref 67], (q_kM r726.1 c n))) 9 (fun _ _ => rfl) ?_
        refine q_RP_rsT (g2 := (72, [(4, .int ((r726.1.1 3) (((512 * a1) + a2).toNatClampNeg))), (0, .ref 64), (1, .int a1), (2, .int a2), (3, .int a3)], [], (q_kM (q_sA r726.1 3 (upd (r726.1.1 3) (((512 * a1) + a2).toNatClampNeg) a3)) c n))) rfl q_wM3 i1000 ?_
        refine q_RP_seg (g2 := (73, [(4, .int ((r726.1.1 3) (((512 * a1) + a2).toNatClampNeg))), (0, .ref 64), (1, .int a1), (2, .int a2), (3, .int a3)], [.ref 64], (q_kM (q_sA r726.1 3 (upd (r726.1.1 3) (((512 * a1) + a2).toNatClampNeg) a3)) c n))) 1 (fun _ _ => rfl) ?_
        refine q_RP_call (v := none) (h2 := (q_kM (dz_M205_64 (q_sA r726.1 3 (upd (r726.1.1 3) (((512 * a1) + a2).toNatClampNeg) a3))) c n)) rfl rfl ((dzt_M205_64 (q_sA r726.1 3 (upd (r726.1.1 3) (((512 * a1) + a2).toNatClampNeg) a3)) c n).le (Nat.le_of_ble_eq_true rfl)) ?_
        generalize dz_M205_64 (q_sA r726.1 3 (upd (r726.1.1 3) (((512 * a1) + a2).toNatClampNeg) a3)) = r727
        refine q_RP_let ?_
        show q_RP _ _ _ (76, [(4, .int ((r726.1.1 3) (((512 * a1) + a2).toNatClampNeg))), (0, .ref 64), (1, .int a1), (2, .int a2), (3, .int a3)], [], (q_kM r727 c n)) _ _
        refine q_RP_seg (g2 := (78, [(4, .int ((r726.1.1 3) (((512 * a1) + a2).toNatClampNeg))), (0, .ref 64), (1, .int a1), (2, .int a2), (3, .int a3)], [.int ((r726.1.1 3) (((512 * a1) + a2).toNatClampNeg))], (q_kM r727 c n))) 1 (fun _ _ => rfl) ?_
        exact q_RP_ret rfl rfl rfl
  | false =>
    refine q_RP_cF ?_
    show q_RP _ _ _ (7, [(0, .ref 64), (1, .int a1), (2, .int a2), (3, .int a3)], [.int 0, .ref 64], (q_kM s c n)) _ _
    refine q_RP_seg (g2 := (37, [(0, .ref 64), (1, .int a1), (2, .int a2), (3, .int a3)], [.int 1, .ref 64], (q_kM s c n))) 3 (fun _ _ => rfl) ?_
    refine q_RP_call (v := (some (.int (q_b (dz_M200_64 s 1).2)))) (h2 := (q_kM (dz_M200_64 s 1).1 c n)) rfl rfl ((dzt_M200_64 s c n 1).le (Nat.le_of_ble_eq_true rfl)) ?_
    generalize dz_M200_64 s 1 = r728
    refine q_RP_let ?_
    show q_RP _ _ _ (40, [(0, .ref 64), (1, .int a1), (2, .int a2), (3, .int a3)], [.int (q_b r728.2)], (q_kM r728.1 c n)) _ _
    cases h1001 : r728.2 with
    | true =>
      refine q_RP_cT ?_
      show q_RP _ _ _ (40, [(0, .ref 64), (1, .int a1), (2, .int a2), (3, .int a3)], [.int 1], (q_kM r728.1 c n)) _ _
      refine q_RP_seg (g2 := (44, [(0, .ref 64), (1, .int a1), (2, .int a2), (3, .int a3)], [.int 0], (q_kM r728.1 c n))) 2 (fun _ _ => rfl) ?_
      exact q_RP_ret rfl rfl rfl
    | false =>
      refine q_RP_cF ?_
      show q_RP _ _ _ (40, [(0, .ref 64), (1, .int a1), (2, .int a2), (3, .int a3)], [.int 0], (q_kM r728.1 c n)) _ _
      refine q_RP_seg (g2 := (56, [(0, .ref 64), (1, .int a1), (2, .int a2), (3, .int a3)], [.int ((512 * a1) + a2), .ref 67], (q_kM r728.1 c n))) 8 (fun _ _ => rfl) ?_
      refine q_RP_as fun i1002 => ?_
      refine q_RP_rsT (g2 := (57, [(0, .ref 64), (1, .int a1), (2, .int a2), (3, .int a3)], [.int ((r728.1.1 3) (((512 * a1) + a2).toNatClampNeg))], (q_kM r728.1 c n))) rfl rfl i1002 ?_
      refine q_RP_seg (g2 := (71, [(4, .int ((r728.1.1 3) (((512 * a1) + a2).toNatClampNeg))), (0, .ref 64), (1, .int a1), (2, .int a2), (3, .int a3)], [.int a3, .int ((512 * a1) + a2), .ref 67], (q_kM r728.1 c n))) 9 (fun _ _ => rfl) ?_
      refine q_RP_rsT (g2 := (72, [(4, .int ((r728.1.1 3) (((512 * a1) + a2).toNatClampNeg))), (0, .ref 64), (1, .int a1), (2, .int a2), (3, .int a3)], [], (q_kM (q_sA r728.1 3 (upd (r728.1.1 3) (((512 * a1) + a2).toNatClampNeg) a3)) c n))) rfl q_wM3 i1002 ?_
      refine q_RP_seg (g2 := (73, [(4, .int ((r728.1.1 3) (((512 * a1) + a2).toNatClampNeg))), (0, .ref 64), (1, .int a1), (2, .int a2), (3, .int a3)], [.ref 64], (q_kM (q_sA r728.1 3 (upd (r728.1.1 3) (((512 * a1) + a2).toNatClampNeg) a3)) c n))) 1 (fun _ _ => rfl) ?_
      refine q_RP_call (v := none) (h2 := (q_kM (dz_M205_64 (q_sA r728.1 3 (upd (r728.1.1 3) (((512 * a1) + a2).toNatClampNeg) a3))) c n)) rfl rfl ((dzt_M205_64 (q_sA r728.1 3 (upd (r728.1.1 3) (((512 * a1) + a2).toNatClampNeg) a3)) c n).le (Nat.le_of_ble_eq_true rfl)) ?_
      generalize dz_M205_64 (q_sA r728.1 3 (upd (r728.1.1 3) (((512 * a1) + a2).toNatClampNeg) a3)) = r729
      refine q_RP_let ?_
      show q_RP _ _ _ (76, [(4, .int ((r728.1.1 3) (((512 * a1) + a2).toNatClampNeg))), (0, .ref 64), (1, .int a1), (2, .int a2), (3, .int a3)], [], (q_kM r729 c n)) _ _
      refine q_RP_seg (g2 := (78, [(4, .int ((r728.1.1 3) (((512 * a1) + a2).toNatClampNeg))), (0, .ref 64), (1, .int a1), (2, .int a2), (3, .int a3)], [.int ((r728.1.1 3) (((512 * a1) + a2).toNatClampNeg))], (q_kM r729 c n))) 1 (fun _ _ => rfl) ?_
      exact q_RP_ret rfl rfl rfl
def dz_M219_64 (s : q_S) (a1 : Int32) : Option (q_S × Int32) :=
  q_let (dz_M204 s a1) fun r733 => cond r733 (q_let (dz_M200_64 s 1) fun r734 => cond r734.2 (some (r734.1, 0)) ((dz_M214_64 r734.1 a1).bind fun r735 => some (r735.1, r735.2))) (q_let (dz_M200_64 s 0) fun r736 => cond r736.2 (some (r736.1, 0)) ((dz_M214_64 r736.1 a1).bind fun r737 => some (r737.1, r737.2)))
set_option maxHeartbeats 4000000 in
theorem dzt_M219_64 (s : q_S) (c n : Nat) (a1 : Int32) (x : q_S × Int32) (h : dz_M219_64 s a1 = some x) : q_Ca q_TB0 5 218 [.ref 64, .int a1] (q_kM s c n) ((q_oIM c n) x) := by
  refine q_CaP_of (φ := (q_oIM c n)) (Nat.le_of_ble_eq_true rfl) ?_ h
  clear h
  unfold dz_M219_64
  refine q_RP_seg (g2 := (2, [(0, .ref 64), (1, .int a1)], [.int a1, .ref 64], (q_kM s c n))) 2 (fun _ _ => rfl) ?_
  refine q_RP_call (v := (some (.int (q_b (dz_M204 s a1))))) (h2 := (q_kM s c n)) rfl rfl ((dzt_M204 s c n a1).le (Nat.le_of_ble_eq_true rfl)) ?_
  generalize dz_M204 s a1 = r733
  refine q_RP_let ?_
  show q_RP _ _ _ (5, [(0, .ref 64), (1, .int a1)], [.int (q_b r733), .ref 64], (q_kM s c n)) _ _
  cases h1005 : r733 with
  | true =>
    refine q_RP_cT ?_
    show q_RP _ _ _ (5, [(0, .ref 64), (1, .int a1)], [.int 1, .ref 64], (q_kM s c n)) _ _
    refine q_RP_seg (g2 := (13, [(0, .ref 64), (1, .int a1)], [.int 1, .ref 64], (q_kM s c n))) 3 (fun _ _ => rfl) ?_
    refine q_RP_call (v := (some (.int (q_b (dz_M200_64 s 1).2)))) (h2 := (q_kM (dz_M200_64 s 1).1 c n)) rfl rfl ((dzt_M200_64 s c n 1).le (Nat.le_of_ble_eq_true rfl)) ?_
    generalize dz_M200_64 s 1 = r734
    refine q_RP_let ?_
    show q_RP _ _ _ (16, [(0, .ref 64), (1, .int a1)], [.int (q_b r734.2)], (q_kM r734.1 c n)) _ _
    cases h1006 : r734.2 with
    | true =>
      refine q_RP_cT ?_
      show q_RP _ _ _ (16, [(0, .ref 64), (1, .int a1)], [.int 1], (q_kM r734.1 c n)) _ _
      refine q_RP_seg (g2 := (28, [(0, .ref 64), (1, .int a1)], [.int 0], (q_kM r734.1 c n))) 3 (fun _ _ => rfl) ?_
      exact q_RP_ret rfl rfl rfl
    | false =>
      refine q_RP_cF ?_
      show q_RP _ _ _ (16, [(0, .ref 64), (1, .int a1)], [.int 0], (q_kM r734.1 c n)) _ _
      refine q_RP_seg (g2 := (25, [(0, .ref 64), (1, .int a1)], [.int a1, .ref 64], (q_kM r734.1 c n))) 3 (fun _ _ => rfl) ?_
      refine q_RP_bd fun r735 er735 => ?_
      refine q_RP_call (v := (some (.int r735.2))) (h2 := (q_kM r735.1 c n)) rfl rfl ((dzt_M214_64 r734.1 c n a1 r735 er735).le (Nat.le_of_ble_eq_true rfl)) ?_
      show q_RP _ _ _ (28, [(0, .ref 64), (1, .int a1)], [.int r735.2], (q_kM r735.1 c n)) _ _
      exact q_RP_ret rfl rfl rfl
  | false =>
    refine q_RP_cF ?_
    show q_RP _ _ _ (5, [(0, .ref 64), (1, .int a1)], [.int 0, .ref 64], (q_kM s c n)) _ _
    refine q_RP_seg (g2 := (13, [(0, .ref 64), (1, .int a1)], [.int 0, .ref 64], (q_kM s c n))) 2 (fun _ _ => rfl) ?_
    refine q_RP_call (v := (some (.int (q_b (dz_M200_64 s 0).2)))) (h2 := (q_kM (dz_M200_64 s 0).1 c n)) rfl rfl ((dzt_M200_64 s c n 0).le (Nat.le_of_ble_eq_true rfl)) ?_
    generalize dz_M200_64 s 0 = r736
    refine q_RP_let ?_
    show q_RP _ _ _ (16, [(0, .ref 64), (1, .int a1)], [.int (q_b r736.2)], (q_kM r736.1 c n)) _ _
    cases h1007 : r736.2 with
    | true =>
      refine q_RP_cT ?_
      show q_RP _ _ _ (16, [(0, .ref 64), (1, .int a1)], [.int 1], (q_kM r736.1 c n)) _ _
      refine q_RP_seg (g2 := (28, [(0, .ref 64), (1, .int a1)], [.int 0], (q_kM r736.1 c n))) 3 (fun _ _ => rfl) ?_
      exact q_RP_ret rfl rfl rfl
    | false =>
      refine q_RP_cF ?_
      show q_RP _ _ _ (16, [(0, .ref 64), (1, .int a1)], [.int 0], (q_kM r736.1 c n)) _ _
      refine q_RP_seg (g2 := (25, [(0, .ref 64), (1, .int a1)], [.int a1, .ref 64], (q_kM r736.1 c n))) 3 (fun _ _ => rfl) ?_
      refine q_RP_bd fun r737 er737 => ?_
      refine q_RP_call (v := (some (.int r737.2))) (h2 := (q_kM r737.1 c n)) rfl rfl ((dzt_M214_64 r736.1 c n a1 r737 er737).le (Nat.le_of_ble_eq_true rfl)) ?_
      show q_RP _ _ _ (28, [(0, .ref 64), (1, .int a1)], [.int r737.2], (q_kM r737.1 c n)) _ _
      exact q_RP_ret rfl rfl rfl
def dz_M220_64 (s : q_S) (a1 : Int32) : Option (q_S × Int32) :=
  q_let (dz_M204 s a1) fun r740 => cond r740 (q_let (dz_M200_64 s 1) fun r741 => cond r741.2 (some (r741.1, 0)) (cond (q_in a1 4096) (some (r741.1, ((r741.1.1 1) (a1.toNatClampNeg)))) none)) (q_let (dz_M200_64 s 0) fun r742 => cond r742.2 (some (r742.1, 0)) (cond (q_in a1 4096) (some (r742.1, ((r742.1.1 1) (a1.toNatClampNeg)))) none))
set_option maxHeartbeats 4000000 in
theorem dzt_M220_64 (s : q_S) (c n : Nat) (a1 : Int32) (x : q_S × Int32) (h : dz_M220_64 s a1 = some x) : q_Ca q_TB0 3 219 [.ref 64, .int a1] (q_kM s c n) ((q_oIM c n) x) := by
  refine q_CaP_of (φ := (q_oIM c n)) (Nat.le_of_ble_eq_true rfl) ?_ h
  clear h
  unfold dz_M220_64
  refine q_RP_seg (g2 := (2, [(0, .ref 64), (1, .int a1)], [.int a1, .ref 64], (q_kM s c n))) 2 (fun _ _ => rfl) ?_
  refine q_RP_call (v := (some (.int (q_b (dz_M204 s a1))))) (h2 := (q_kM s c n)) rfl rfl ((dzt_M204 s c n a1).le (Nat.le_of_ble_eq_true rfl)) ?_
  generalize dz_M204 s a1 = r740
  refine q_RP_let ?_
  show q_RP _ _ _ (5, [(0, .ref 64), (1, .int a1)], [.int (q_b r740), .ref 64], (q_kM s c n)) _ _
  cases h1010 : r740 with
  | true =>
    refine q_RP_cT ?_
    show q_RP _ _ _ (5, [(0, .ref 64), (1, .int a1)], [.int 1, .ref 64], (q_kM s c n)) _ _
    refine q_RP_seg (g2 := (13, [(0, .ref 64), (1, .int a1)], [.int 1, .ref 64], (q_kM s c n))) 3 (fun _ _ => rfl) ?_
    refine q_RP_call (v := (some (.int (q_b (dz_M200_64 s 1).2)))) (h2 := (q_kM (dz_M200_64 s 1).1 c n)) rfl rfl ((dzt_M200_64 s c n 1).le (Nat.le_of_ble_eq_true rfl)) ?_
    generalize dz_M200_64 s 1 = r741
    refine q_RP_let ?_
    show q_RP _ _ _ (16, [(0, .ref 64), (1, .int a1)], [.int (q_b r741.2)], (q_kM r741.1 c n)) _ _
    cases h1011 : r741.2 with
    | true =>
      refine q_RP_cT ?_
      show q_RP _ _ _ (16, [(0, .ref 64), (1, .int a1)], [.int 1], (q_kM r741.1 c n)) _ _
      refine q_RP_seg (g2 := (29, [(0, .ref 64), (1, .int a1)], [.int 0], (q_kM r741.1 c n))) 3 (fun _ _ => rfl) ?_
      exact q_RP_ret rfl rfl rfl
    | false =>
      refine q_RP_cF ?_
      show q_RP _ _ _ (16, [(0, .ref 64), (1, .int a1)], [.int 0], (q_kM r741.1 c n)) _ _
      refine q_RP_seg (g2 := (28, [(0, .ref 64), (1, .int a1)], [.int a1, .ref 65], (q_kM r741.1 c n))) 4 (fun _ _ => rfl) ?_
      refine q_RP_as fun i1012 => ?_
      refine q_RP_rsT (g2 := (29, [(0, .ref 64), (1, .int a1)], [.int ((r741.1.1 1) (a1.toNatClampNeg))], (q_kM r741.1 c n))) rfl rfl i1012 ?_
      exact q_RP_ret rfl rfl rfl
  | false =>
    refine q_RP_cF ?_
    show q_RP _ _ _ (5, [(0, .ref 64), (1, .int a1)], [.int 0, .ref 64], (q_kM s c n)) _ _
    refine q_RP_seg (g2 := (13, [(0, .ref 64), (1, .int a1)], [.int 0, .ref 64], (q_kM s c n))) 2 (fun _ _ => rfl) ?_
    refine q_RP_call (v := (some (.int (q_b (dz_M200_64 s 0).2)))) (h2 := (q_kM (dz_M200_64 s 0).1 c n)) rfl rfl ((dzt_M200_64 s c n 0).le (Nat.le_of_ble_eq_true rfl)) ?_
    generalize dz_M200_64 s 0 = r742
    refine q_RP_let ?_
    show q_RP _ _ _ (16, [(0, .ref 64), (1, .int a1)], [.int (q_b r742.2)], (q_kM r742.1 c n)) _ _
    cases h1013 : r742.2 with
    | true =>
      refine q_RP_cT ?_
      show q_RP _ _ _ (16, [(0, .ref 64), (1, .int a1)], [.int 1], (q_kM r742.1 c n)) _ _
      refine q_RP_seg (g2 := (29, [(0, .ref 64), (1, .int a1)], [.int 0], (q_kM r742.1 c n))) 3 (fun _ _ => rfl) ?_
      exact q_RP_ret rfl rfl rfl
    | false =>
      refine q_RP_cF ?_
      show q_RP _ _ _ (16, [(0, .ref 64), (1, .int a1)], [.int 0], (q_kM r742.1 c n)) _ _
      refine q_RP_seg (g2 := (28, [(0, .ref 64), (1, .int a1)], [.int a1, .ref 65], (q_kM r742.1 c n))) 4 (fun _ _ => rfl) ?_
      refine q_RP_as fun i1014 => ?_
      refine q_RP_rsT (g2 := (29, [(0, .ref 64), (1, .int a1)], [.int ((r742.1.1 1) (a1.toNatClampNeg))], (q_kM r742.1 c n))) rfl rfl i1014 ?_
      exact q_RP_ret rfl rfl rfl
def dz_M221_64_49 (m : Nat) : q_S → Int32 → Int32 → Int32 → Int32 → Int32 → Option (q_S × Int32) := Nat.rec (motive := fun _ => q_S → Int32 → Int32 → Int32 → Int32 → Int32 → Option (q_S × Int32)) (fun _ _ _ _ _ _ => none) (fun _ k49 s v1 v2 v3 v4 v5 =>
  cond (decide (v5 < v3)) (q_let (dz_M213 s (v1 + v5)) fun r745 => (dz_M214_64 s r745).bind fun r746 => q_let (dz_M213 r746.1 (v2 + v5)) fun r747 => (dz_M214_64 r746.1 r747).bind fun r748 => cond (decide (r746.2 = r748.2)) (k49 r748.1 v1 v2 v3 (v4 + 0) (v5 + 1)) (k49 r748.1 v1 v2 v3 (v4 + 1) (v5 + 1))) (some (s, v4))) m
theorem dzs_M221_64_49 (m : Nat) (s : q_S) (v1 : Int32) (v2 : Int32) (v3 : Int32) (v4 : Int32) (v5 : Int32) : dz_M221_64_49 (m + 1) s v1 v2 v3 v4 v5 = (fun k49 : q_S → Int32 → Int32 → Int32 → Int32 → Int32 → Option (q_S × Int32) =>
  cond (decide (v5 < v3)) (q_let (dz_M213 s (v1 + v5)) fun r745 => (dz_M214_64 s r745).bind fun r746 => q_let (dz_M213 r746.1 (v2 + v5)) fun r747 => (dz_M214_64 r746.1 r747).bind fun r748 => cond (decide (r746.2 = r748.2)) (k49 r748.1 v1 v2 v3 (v4 + 0) (v5 + 1)) (k49 r748.1 v1 v2 v3 (v4 + 1) (v5 + 1))) (some (s, v4))) (dz_M221_64_49 m) := rfl
set_option maxHeartbeats 4000000 in
theorem dzt_M221_64_49 (c n : Nat) : ∀ (m : Nat) (s : q_S) (v1 : Int32) (v2 : Int32) (v3 : Int32) (v4 : Int32) (v5 : Int32), q_RP q_TB0 4 220 (49, [(0, .ref 64), (1, .int v1), (2, .int v2), (3, .int v3), (4, .int v4), (5, .int v5)], [], (q_kM s c n)) (q_oIM c n) (dz_M221_64_49 m s v1 v2 v3 v4 v5) := by
  intro m
  induction m with
  | zero => intro s v1 v2 v3 v4 v5; exact q_RP_no
  | succ m ih =>
    intro s v1 v2 v3 v4 v5
    have hk49 := ih
    clear ih
    rw [dzs_M221_64_49]
    generalize dz_M221_64_49 m = k49 at hk49 ⊢
    dsimp only
    refine q_RP_seg (g2 := (52, [(0, .ref 64), (1, .int v1), (2, .int v2), (3, .int v3), (4, .int v4), (5, .int v5)], [.int v3, .int v5], (q_kM s c n))) 2 (fun _ _ => rfl) ?_
    cases h1017 : decide (v5 < v3) with
    | true =>
      refine q_RP_cT ?_
      refine q_RP_rsF (g2 := (55, [(0, .ref 64), (1, .int v1), (2, .int v2), (3, .int v3), (4, .int v4), (5, .int v5)], [], (q_kM s c n))) rfl rfl (q_d_geT h1017) ?_
      refine q_RP_seg (g2 := (62, [(0, .ref 64), (1, .int v1), (2, .int v2), (3, .int v3), (4, .int v4), (5, .int v5)], [.int (v1 + v5), .ref 64, .int v4], (q_kM s c n))) 5 (fun _ _ => rfl) ?_
      refine q_RP_call (v := (some (.int (dz_M213 s (v1 + v5))))) (h2 := (q_kM s c n)) rfl rfl ((dzt_M213 s c n (v1 + v5)).le (Nat.le_of_ble_eq_true rfl)) ?_
      generalize dz_M213 s (v1 + v5) = r745
      refine q_RP_let ?_
      show q_RP _ _ _ (65, [(0, .ref 64), (1, .int v1), (2, .int v2), (3, .int v3), (4, .int v4), (5, .int v5)], [.int r745, .ref 64, .int v4], (q_kM s c n)) _ _
      refine q_RP_bd fun r746 er746 => ?_
      refine q_RP_call (v := (some (.int r746.2))) (h2 := (q_kM r746.1 c n)) rfl rfl ((dzt_M214_64 s c n r745 r746 er746).le (Nat.le_of_ble_eq_true rfl)) ?_
      show q_RP _ _ _ (68, [(0, .ref 64), (1, .int v1), (2, .int v2), (3, .int v3), (4, .int v4), (5, .int v5)], [.int r746.2, .int v4], (q_kM r746.1 c n)) _ _
      refine q_RP_seg (g2 := (73, [(0, .ref 64), (1, .int v1), (2, .int v2), (3, .int v3), (4, .int v4), (5, .int v5)], [.int (v2 + v5), .ref 64, .int r746.2, .int v4], (q_kM r746.1 c n))) 4 (fun _ _ => rfl) ?_
      refine q_RP_call (v := (some (.int (dz_M213 r746.1 (v2 + v5))))) (h2 := (q_kM r746.1 c n)) rfl rfl ((dzt_M213 r746.1 c n (v2 + v5)).le (Nat.le_of_ble_eq_true rfl)) ?_
      generalize dz_M213 r746.1 (v2 + v5) = r747
      refine q_RP_let ?_
      show q_RP _ _ _ (76, [(0, .ref 64), (1, .int v1), (2, .int v2), (3, .int v3), (4, .int v4), (5, .int v5)], [.int r747, .ref 64, .int r746.2, .int v4], (q_kM r746.1 c n)) _ _
      refine q_RP_bd fun r748 er748 => ?_
      refine q_RP_call (v := (some (.int r748.2))) (h2 := (q_kM r748.1 c n)) rfl rfl ((dzt_M214_64 r746.1 c n r747 r748 er748).le (Nat.le_of_ble_eq_true rfl)) ?_
      show q_RP _ _ _ (79, [(0, .ref 64), (1, .int v1), (2, .int v2), (3, .int v3), (4, .int v4), (5, .int v5)], [.int r748.2, .int r746.2, .int v4], (q_kM r748.1 c n)) _ _
      cases h1018 : decide (r746.2 = r748.2) with
      | true =>
        refine q_RP_cT ?_
        refine q_RP_rsF (g2 := (82, [(0, .ref 64), (1, .int v1), (2, .int v2), (3, .int v3), (4, .int v4), (5, .int v5)], [.int v4], (q_kM r748.1 c n))) rfl rfl (q_d_neT h1018) ?_
        refine q_RP_seg (g2 := (49, [(5, .int (v5 + 1)), (4, .int (v4 + 0)), (0, .ref 64), (1, .int v1), (2, .int v2), (3, .int v3)], [], (q_kM r748.1 c n))) 6 (fun _ _ => rfl) ?_
        exact q_RP_xt (q_xt_mk (q_mn1 2 rfl (q_mn1 3 rfl (q_mn1 4 rfl (q_mn1 5 rfl (q_mn1 1 rfl (q_mn1 0 rfl q_mn0)))))) rfl) (hk49 r748.1 v1 v2 v3 (v4 + 0) (v5 + 1))
      | false =>
        refine q_RP_cF ?_
        refine q_RP_rsT (g2 := (86, [(0, .ref 64), (1, .int v1), (2, .int v2), (3, .int v3), (4, .int v4), (5, .int v5)], [.int v4], (q_kM r748.1 c n))) rfl rfl (q_d_neF h1018) ?_
        refine q_RP_seg (g2 := (49, [(5, .int (v5 + 1)), (4, .int (v4 + 1)), (0, .ref 64), (1, .int v1), (2, .int v2), (3, .int v3)], [], (q_kM r748.1 c n))) 5 (fun _ _ => rfl) ?_
        exact q_RP_xt (q_xt_mk (q_mn1 2 rfl (q_mn1 3 rfl (q_mn1 4 rfl (q_mn1 5 rfl (q_mn1 1 rfl (q_mn1 0 rfl q_mn0)))))) rfl) (hk49 r748.1 v1 v2 v3 (v4 + 1) (v5 + 1))
    | false =>
      refine q_RP_cF ?_
      refine q_RP_rsT (g2 := (96, [(0, .ref 64), (1, .int v1), (2, .int v2), (3, .int v3), (4, .int v4), (5, .int v5)], [], (q_kM s c n))) rfl rfl (q_d_geF h1017) ?_
      refine q_RP_seg (g2 := (98, [(0, .ref 64), (1, .int v1), (2, .int v2), (3, .int v3), (4, .int v4), (5, .int v5)], [.int v4], (q_kM s c n))) 1 (fun _ _ => rfl) ?_
      exact q_RP_ret rfl rfl rfl
def dz_M221_64 (s : q_S) (a1 : Int32) (a2 : Int32) (a3 : Int32) : Option (q_S × Int32) :=
  q_let (dz_M204 s a1) fun r743 => cond r743 (q_let (dz_M200_64 s 1) fun r744 => cond r744.2 (some (r744.1, 0)) (dz_M221_64_49 5000 r744.1 a1 a2 a3 0 0)) (q_let (dz_M204 s a2) fun r749 => cond r749 (q_let (dz_M200_64 s 1) fun r750 => cond r750.2 (some (r750.1, 0)) (dz_M221_64_49 5000 r750.1 a1 a2 a3 0 0)) (q_let (dz_M202 s a3 1 4096) fun r751 => cond r751 (q_let (dz_M200_64 s 0) fun r752 => cond r752.2 (some (r752.1, 0)) (dz_M221_64_49 5000 r752.1 a1 a2 a3 0 0)) (q_let (dz_M200_64 s 2) fun r753 => cond r753.2 (some (r753.1, 0)) (dz_M221_64_49 5000 r753.1 a1 a2 a3 0 0))))
set_option maxHeartbeats 4000000 in
theorem dzt_M221_64 (s : q_S) (c n : Nat) (a1 : Int32) (a2 : Int32) (a3 : Int32) (x : q_S × Int32) (h : dz_M221_64 s a1 a2 a3 = some x) : q_Ca q_TB0 5 220 [.ref 64, .int a1, .int a2, .int a3] (q_kM s c n) ((q_oIM c n) x) := by
  refine q_CaP_of (φ := (q_oIM c n)) (Nat.le_of_ble_eq_true rfl) ?_ h
  clear h
  unfold dz_M221_64
  refine q_RP_seg (g2 := (2, [(0, .ref 64), (1, .int a1), (2, .int a2), (3, .int a3)], [.int a1, .ref 64], (q_kM s c n))) 2 (fun _ _ => rfl) ?_
  refine q_RP_call (v := (some (.int (q_b (dz_M204 s a1))))) (h2 := (q_kM s c n)) rfl rfl ((dzt_M204 s c n a1).le (Nat.le_of_ble_eq_true rfl)) ?_
  generalize dz_M204 s a1 = r743
  refine q_RP_let ?_
  show q_RP _ _ _ (5, [(0, .ref 64), (1, .int a1), (2, .int a2), (3, .int a3)], [.int (q_b r743), .ref 64], (q_kM s c n)) _ _
  cases h1015 : r743 with
  | true =>
    refine q_RP_cT ?_
    show q_RP _ _ _ (5, [(0, .ref 64), (1, .int a1), (2, .int a2), (3, .int a3)], [.int 1, .ref 64], (q_kM s c n)) _ _
    refine q_RP_seg (g2 := (35, [(0, .ref 64), (1, .int a1), (2, .int a2), (3, .int a3)], [.int 1, .ref 64], (q_kM s c n))) 3 (fun _ _ => rfl) ?_
    refine q_RP_call (v := (some (.int (q_b (dz_M200_64 s 1).2)))) (h2 := (q_kM (dz_M200_64 s 1).1 c n)) rfl rfl ((dzt_M200_64 s c n 1).le (Nat.le_of_ble_eq_true rfl)) ?_
    generalize dz_M200_64 s 1 = r744
    refine q_RP_let ?_
    show q_RP _ _ _ (38, [(0, .ref 64), (1, .int a1), (2, .int a2), (3, .int a3)], [.int (q_b r744.2)], (q_kM r744.1 c n)) _ _
    cases h1016 : r744.2 with
    | true =>
      refine q_RP_cT ?_
      show q_RP _ _ _ (38, [(0, .ref 64), (1, .int a1), (2, .int a2), (3, .int a3)], [.int 1], (q_kM r744.1 c n)) _ _
      refine q_RP_seg (g2 := (42, [(0, .ref 64), (1, .int a1), (2, .int a2), (3, .int a3)], [.int 0], (q_kM r744.1 c n))) 2 (fun _ _ => rfl) ?_
      exact q_RP_ret rfl rfl rfl
    | false =>
      refine q_RP_cF ?_
      show q_RP _ _ _ (38, [(0, .ref 64), (1, .int a1), (2, .int a2), (3, .int a3)], [.int 0], (q_kM r744.1 c n)) _ _
      refine q_RP_seg (g2 := (49, [(5, .int 0), (4, .int 0), (0, .ref 64), (1, .int a1), (2, .int a2), (3, .int a3)], [], (q_kM r744.1 c n))) 5 (fun _ _ => rfl) ?_
      exact q_RP_xt (q_xt_mk (q_mn1 2 rfl (q_mn1 3 rfl (q_mn1 4 rfl (q_mn1 5 rfl (q_mn1 1 rfl (q_mn1 0 rfl q_mn0)))))) rfl) (dzt_M221_64_49 c n 5000 r744.1 a1 a2 a3 0 0)
  | false =>
    refine q_RP_cF ?_
    show q_RP _ _ _ (5, [(0, .ref 64), (1, .int a1), (2, .int a2), (3, .int a3)], [.int 0, .ref 64], (q_kM s c n)) _ _
    refine q_RP_seg (g2 := (9, [(0, .ref 64), (1, .int a1), (2, .int a2), (3, .int a3)], [.int a2, .ref 64], (q_kM s c n))) 2 (fun _ _ => rfl) ?_
    refine q_RP_call (v := (some (.int (q_b (dz_M204 s a2))))) (h2 := (q_kM s c n)) rfl rfl ((dzt_M204 s c n a2).le (Nat.le_of_ble_eq_true rfl)) ?_
    generalize dz_M204 s a2 = r749
    refine q_RP_let ?_
    show q_RP _ _ _ (12, [(0, .ref 64), (1, .int a1), (2, .int a2), (3, .int a3)], [.int (q_b r749), .ref 64], (q_kM s c n)) _ _
    cases h1019 : r749 with
    | true =>
      refine q_RP_cT ?_
      show q_RP _ _ _ (12, [(0, .ref 64), (1, .int a1), (2, .int a2), (3, .int a3)], [.int 1, .ref 64], (q_kM s c n)) _ _
      refine q_RP_seg (g2 := (35, [(0, .ref 64), (1, .int a1), (2, .int a2), (3, .int a3)], [.int 1, .ref 64], (q_kM s c n))) 3 (fun _ _ => rfl) ?_
      refine q_RP_call (v := (some (.int (q_b (dz_M200_64 s 1).2)))) (h2 := (q_kM (dz_M200_64 s 1).1 c n)) rfl rfl ((dzt_M200_64 s c n 1).le (Nat.le_of_ble_eq_true rfl)) ?_
      generalize dz_M200_64 s 1 = r750
      refine q_RP_let ?_
      show q_RP _ _ _ (38, [(0, .ref 64), (1, .int a1), (2, .int a2), (3, .int a3)], [.int (q_b r750.2)], (q_kM r750.1 c n)) _ _
      cases h1020 : r750.2 with
      | true =>
        refine q_RP_cT ?_
        show q_RP _ _ _ (38, [(0, .ref 64), (1, .int a1), (2, .int a2), (3, .int a3)], [.int 1], (q_kM r750.1 c n)) _ _
        refine q_RP_seg (g2 := (42, [(0, .ref 64), (1, .int a1), (2, .int a2), (3, .int a3)], [.int 0], (q_kM r750.1 c n))) 2 (fun _ _ => rfl) ?_
        exact q_RP_ret rfl rfl rfl
      | false =>
        refine q_RP_cF ?_
        show q_RP _ _ _ (38, [(0, .ref 64), (1, .int a1), (2, .int a2), (3, .int a3)], [.int 0], (q_kM r750.1 c n)) _ _
        refine q_RP_seg (g2 := (49, [(5, .int 0), (4, .int 0), (0, .ref 64), (1, .int a1), (2, .int a2), (3, .int a3)], [], (q_kM r750.1 c n))) 5 (fun _ _ => rfl) ?_
        exact q_RP_xt (q_xt_mk (q_mn1 2 rfl (q_mn1 3 rfl (q_mn1 4 rfl (q_mn1 5 rfl (q_mn1 1 rfl (q_mn1 0 rfl q_mn0)))))) rfl) (dzt_M221_64_49 c n 5000 r750.1 a1 a2 a3 0 0)
    | false =>
      refine q_RP_cF ?_
      show q_RP _ _ _ (12, [(0, .ref 64), (1, .int a1), (2, .int a2), (3, .int a3)], [.int 0, .ref 64], (q_kM s c n)) _ _
      refine q_RP_seg (g2 := (24, [(0, .ref 64), (1, .int a1), (2, .int a2), (3, .int a3)], [.int 4096, .int 1, .int a3, .ref 64], (q_kM s c n))) 4 (fun _ _ => rfl) ?_
      refine q_RP_call (v := (some (.int (q_b (dz_M202 s a3 1 4096))))) (h2 := (q_kM s c n)) rfl rfl ((dzt_M202 s c n a3 1 4096).le (Nat.le_of_ble_eq_true rfl)) ?_
      generalize dz_M202 s a3 1 4096 = r751
      refine q_RP_let ?_
      show q_RP _ _ _ (27, [(0, .ref 64), (1, .int a1), (2, .int a2), (3, .int a3)], [.int (q_b r751), .ref 64], (q_kM s c n)) _ _
      cases h1021 : r751 with
      | true =>
        refine q_RP_cT ?_
        show q_RP _ _ _ (27, [(0, .ref 64), (1, .int a1), (2, .int a2), (3, .int a3)], [.int 1, .ref 64], (q_kM s c n)) _ _
        refine q_RP_seg (g2 := (35, [(0, .ref 64), (1, .int a1), (2, .int a2), (3, .int a3)], [.int 0, .ref 64], (q_kM s c n))) 3 (fun _ _ => rfl) ?_
        refine q_RP_call (v := (some (.int (q_b (dz_M200_64 s 0).2)))) (h2 := (q_kM (dz_M200_64 s 0).1 c n)) rfl rfl ((dzt_M200_64 s c n 0).le (Nat.le_of_ble_eq_true rfl)) ?_
        generalize dz_M200_64 s 0 = r752
        refine q_RP_let ?_
        show q_RP _ _ _ (38, [(0, .ref 64), (1, .int a1), (2, .int a2), (3, .int a3)], [.int (q_b r752.2)], (q_kM r752.1 c n)) _ _
        cases h1022 : r752.2 with
        | true =>
          refine q_RP_cT ?_
          show q_RP _ _ _ (38, [(0, .ref 64), (1, .int a1), (2, .int a2), (3, .int a3)], [.int 1], (q_kM r752.1 c n)) _ _
          refine q_RP_seg (g2 := (42, [(0, .ref 64), (1, .int a1), (2, .int a2), (3, .int a3)], [.int 0], (q_kM r752.1 c n))) 2 (fun _ _ => rfl) ?_
          exact q_RP_ret rfl rfl rfl
        | false =>
          refine q_RP_cF ?_
          show q_RP _ _ _ (38, [(0, .ref 64), (1, .int a1), (2, .int a2), (3, .int a3)], [.int 0], (q_kM r752.1 c n)) _ _
          refine q_RP_seg (g2 := (49, [(5, .int 0), (4, .int 0), (0, .ref 64), (1, .int a1), (2, .int a2), (3, .int a3)], [], (q_kM r752.1 c n))) 5 (fun _ _ => rfl) ?_
          exact q_RP_xt (q_xt_mk (q_mn1 2 rfl (q_mn1 3 rfl (q_mn1 4 rfl (q_mn1 5 rfl (q_mn1 1 rfl (q_mn1 0 rfl q_mn0)))))) rfl) (dzt_M221_64_49 c n 5000 r752.1 a1 a2 a3 0 0)
      | false =>
        refine q_RP_cF ?_
        show q_RP _ _ _ (27, [(0, .ref 64), (1, .int a1), (2, .int a2), (3, .int a3)], [.int 0, .ref 64], (q_kM s c n)) _ _
        refine q_RP_seg (g2 := (35, [(0, .ref 64), (1, .int a1), (2, .int a2), (3, .int a3)], [.int 2, .ref 64], (q_kM s c n))) 2 (fun _ _ => rfl) ?_
        refine q_RP_call (v := (some (.int (q_b (dz_M200_64 s 2).2)))) (h2 := (q_kM (dz_M200_64 s 2).1 c n)) rfl rfl ((dzt_M200_64 s c n 2).le (Nat.le_of_ble_eq_true rfl)) ?_
        generalize dz_M200_64 s 2 = r753
        refine q_RP_let ?_
        show q_RP _ _ _ (38, [(0, .ref 64), (1, .int a1), (2, .int a2), (3, .int a3)], [.int (q_b r753.2)], (q_kM r753.1 c n)) _ _
        cases h1023 : r753.2 with
        | true =>
          refine q_RP_cT ?_
          show q_RP _ _ _ (38, [(0, .ref 64), (1, .int a1), (2, .int a2), (3, .int a3)], [.int 1], (q_kM r753.1 c n)) _ _
          refine q_RP_seg (g2 := (42, [(0, .ref 64), (1, .int a1), (2, .int a2), (3, .int a3)], [.int 0], (q_kM r753.1 c n))) 2 (fun _ _ => rfl) ?_
          exact q_RP_ret rfl rfl rfl
        | false =>
          refine q_RP_cF ?_
          show q_RP _ _ _ (38, [(0, .ref 64), (1, .int a1), (2, .int a2), (3, .int a3)], [.int 0], (q_kM r753.1 c n)) _ _
          refine q_RP_seg (g2 := (49, [(5, .int 0), (4, .int 0), (0, .ref 64), (1, .int a1), (2, .int a2), (3, .int a3)], [], (q_kM r753.1 c n))) 5 (fun _ _ => rfl) ?_
          exact q_RP_xt (q_xt_mk (q_mn1 2 rfl (q_mn1 3 rfl (q_mn1 4 rfl (q_mn1 5 rfl (q_mn1 1 rfl (q_mn1 0 rfl q_mn0)))))) rfl) (dzt_M221_64_49 c n 5000 r753.1 a1 a2 a3 0 0)
def dz_M222_64 (s : q_S) : Int32 :=
  q_let (dz_M207_64 s) fun r754 => (r754 - 4)
set_option maxHeartbeats 4000000 in
theorem dzt_M222_64 (s : q_S) (c n : Nat) : q_Ca q_TB0 2 221 [.ref 64] (q_kM s c n) ((q_oP (q_kM s c n)) (dz_M222_64 s)) := by
  refine q_CaT_of (φ := (q_oP (q_kM s c n))) (Nat.le_of_ble_eq_true rfl) ?_
  unfold dz_M222_64
  refine q_RT_seg (g2 := (1, [(0, .ref 64)], [.ref 64], (q_kM s c n))) 1 (fun _ _ => rfl) ?_
  refine q_RT_call (v := (some (.int (dz_M207_64 s)))) (h2 := (q_kM s c n)) rfl rfl ((dzt_M207_64 s c n).le (Nat.le_of_ble_eq_true rfl)) ?_
  generalize dz_M207_64 s = r754
  refine q_RT_let ?_
  show q_RT _ _ _ (4, [(0, .ref 64)], [.int r754], (q_kM s c n)) _ _
  refine q_RT_seg (g2 := (6, [(0, .ref 64)], [.int (r754 - 4)], (q_kM s c n))) 2 (fun _ _ => rfl) ?_
  exact q_RT_ret rfl rfl rfl
def dz_M223_64 (s : q_S) (a1 : Int32) : Bool :=
  q_let (dz_M206 s ((s.1 4) 17) a1) fun r755 => cond r755 (true) (false)
set_option maxHeartbeats 4000000 in
theorem dzt_M223_64 (s : q_S) (c n : Nat) (a1 : Int32) : q_Ca q_TB0 2 222 [.ref 64, .int a1] (q_kM s c n) ((q_oB (q_kM s c n)) (dz_M223_64 s a1)) := by
  refine q_CaT_of (φ := (q_oB (q_kM s c n))) (Nat.le_of_ble_eq_true rfl) ?_
  unfold dz_M223_64
  refine q_RT_seg (g2 := (7, [(0, .ref 64), (1, .int a1)], [.int ((s.1 4) 17)], (q_kM s c n))) 4 (fun _ _ => rfl) ?_
  refine q_RT_seg (g2 := (8, [(0, .ref 64), (1, .int a1)], [.int a1, .int ((s.1 4) 17)], (q_kM s c n))) 1 (fun _ _ => rfl) ?_
  refine q_RT_call (v := (some (.int (q_b (dz_M206 s ((s.1 4) 17) a1))))) (h2 := (q_kM s c n)) rfl rfl ((dzt_M206 s c n ((s.1 4) 17) a1).le (Nat.le_of_ble_eq_true rfl)) ?_
  generalize dz_M206 s ((s.1 4) 17) a1 = r755
  refine q_RT_let ?_
  show q_RT _ _ _ (11, [(0, .ref 64), (1, .int a1)], [.int (q_b r755)], (q_kM s c n)) _ _
  cases h1024 : r755 with
  | true =>
    refine q_RT_cT ?_
    show q_RT _ _ _ (11, [(0, .ref 64), (1, .int a1)], [.int 1], (q_kM s c n)) _ _
    exact q_RT_ret rfl rfl rfl
  | false =>
    refine q_RT_cF ?_
    show q_RT _ _ _ (11, [(0, .ref 64), (1, .int a1)], [.int 0], (q_kM s c n)) _ _
    exact q_RT_ret rfl rfl rfl
def dz_M224_64 (s : q_S) (a1 : Int32) (a2 : Int32) : Option (Bool) :=
  cond (q_in ((24 : Int32) + a1) 48) (cond (decide (a2 < (s.1 4) (((24 : Int32) + a1).toNatClampNeg))) (some false) (q_let (dz_M206 s ((s.1 4) 18) a1) fun r756 => cond r756 (cond (decide (a2 < ((s.1 4) (((24 : Int32) + a1).toNatClampNeg)) + 16)) (some true) (some false)) (cond (decide (a2 < ((s.1 4) (((24 : Int32) + a1).toNatClampNeg)) + 8)) (some true) (some false)))) none
set_option maxHeartbeats 4000000 in
theorem dzt_M224_64 (s : q_S) (c n : Nat) (a1 : Int32) (a2 : Int32) (x : Bool) (h : dz_M224_64 s a1 a2 = some x) : q_Ca q_TB0 2 223 [.ref 64, .int a1, .int a2] (q_kM s c n) ((q_oB (q_kM s c n)) x) := by
  refine q_CaP_of (φ := (q_oB (q_kM s c n))) (Nat.le_of_ble_eq_true rfl) ?_ h
  clear h
  unfold dz_M224_64
  refine q_RP_seg (g2 := (8, [(0, .ref 64), (1, .int a1), (2, .int a2)], [.int ((24 : Int32) + a1), .ref 68], (q_kM s c n))) 5 (fun _ _ => rfl) ?_
  refine q_RP_as fun i1025 => ?_
  refine q_RP_rsT (g2 := (9, [(0, .ref 64), (1, .int a1), (2, .int a2)], [.int ((s.1 4) (((24 : Int32) + a1).toNatClampNeg))], (q_kM s c n))) rfl rfl i1025 ?_
  refine q_RP_seg (g2 := (12, [(3, .int ((s.1 4) (((24 : Int32) + a1).toNatClampNeg))), (0, .ref 64), (1, .int a1), (2, .int a2)], [.int ((s.1 4) (((24 : Int32) + a1).toNatClampNeg)), .int a2], (q_kM s c n))) 3 (fun _ _ => rfl) ?_
  cases h1026 : decide (a2 < (s.1 4) (((24 : Int32) + a1).toNatClampNeg)) with
  | true =>
    refine q_RP_cT ?_
    refine q_RP_rsT (g2 := (46, [(3, .int ((s.1 4) (((24 : Int32) + a1).toNatClampNeg))), (0, .ref 64), (1, .int a1), (2, .int a2)], [], (q_kM s c n))) rfl rfl h1026 ?_
    refine q_RP_seg (g2 := (47, [(3, .int ((s.1 4) (((24 : Int32) + a1).toNatClampNeg))), (0, .ref 64), (1, .int a1), (2, .int a2)], [.int 0], (q_kM s c n))) 1 (fun _ _ => rfl) ?_
    exact q_RP_ret rfl rfl rfl
  | false =>
    refine q_RP_cF ?_
    refine q_RP_rsF (g2 := (15, [(3, .int ((s.1 4) (((24 : Int32) + a1).toNatClampNeg))), (0, .ref 64), (1, .int a1), (2, .int a2)], [], (q_kM s c n))) rfl rfl h1026 ?_
    refine q_RP_seg (g2 := (24, [(3, .int ((s.1 4) (((24 : Int32) + a1).toNatClampNeg))), (0, .ref 64), (1, .int a1), (2, .int a2)], [.int ((s.1 4) 18), .int ((s.1 4) (((24 : Int32) + a1).toNatClampNeg)), .int a2], (q_kM s c n))) 6 (fun _ _ => rfl) ?_
    refine q_RP_seg (g2 := (25, [(3, .int ((s.1 4) (((24 : Int32) + a1).toNatClampNeg))), (0, .ref 64), (1, .int a1), (2, .int a2)], [.int a1, .int ((s.1 4) 18), .int ((s.1 4) (((24 : Int32) + a1).toNatClampNeg)), .int a2], (q_kM s c n))) 1 (fun _ _ => rfl) ?_
    refine q_RP_call (v := (some (.int (q_b (dz_M206 s ((s.1 4) 18) a1))))) (h2 := (q_kM s c n)) rfl rfl ((dzt_M206 s c n ((s.1 4) 18) a1).le (Nat.le_of_ble_eq_true rfl)) ?_
    generalize dz_M206 s ((s.1 4) 18) a1 = r756
    refine q_RP_let ?_
    show q_RP _ _ _ (28, [(3, .int ((s.1 4) (((24 : Int32) + a1).toNatClampNeg))), (0, .ref 64), (1, .int a1), (2, .int a2)], [.int (q_b r756), .int ((s.1 4) (((24 : Int32) + a1).toNatClampNeg)), .int a2], (q_kM s c n)) _ _
    cases h1027 : r756 with
    | true =>
      refine q_RP_cT ?_
      show q_RP _ _ _ (28, [(3, .int ((s.1 4) (((24 : Int32) + a1).toNatClampNeg))), (0, .ref 64), (1, .int a1), (2, .int a2)], [.int 1, .int ((s.1 4) (((24 : Int32) + a1).toNatClampNeg)), .int a2], (q_kM s c n)) _ _
      refine q_RP_seg (g2 := (39, [(3, .int ((s.1 4) (((24 : Int32) + a1).toNatClampNeg))), (0, .ref 64), (1, .int a1), (2, .int a2)], [.int (((s.1 4) (((24 : Int32) + a1).toNatClampNeg)) + 16), .int a2], (q_kM s c n))) 4 (fun _ _ => rfl) ?_
      cases h1028 : decide (a2 < ((s.1 4) (((24 : Int32) + a1).toNatClampNeg)) + 16) with
      | true =>
        refine q_RP_cT ?_
        refine q_RP_rsF (g2 := (42, [(3, .int ((s.1 4) (((24 : Int32) + a1).toNatClampNeg))), (0, .ref 64), (1, .int a1), (2, .int a2)], [], (q_kM s c n))) rfl rfl (q_d_geT h1028) ?_
        refine q_RP_seg (g2 := (47, [(3, .int ((s.1 4) (((24 : Int32) + a1).toNatClampNeg))), (0, .ref 64), (1, .int a1), (2, .int a2)], [.int 1], (q_kM s c n))) 2 (fun _ _ => rfl) ?_
        exact q_RP_ret rfl rfl rfl
      | false =>
        refine q_RP_cF ?_
        refine q_RP_rsT (g2 := (46, [(3, .int ((s.1 4) (((24 : Int32) + a1).toNatClampNeg))), (0, .ref 64), (1, .int a1), (2, .int a2)], [], (q_kM s c n))) rfl rfl (q_d_geF h1028) ?_
        refine q_RP_seg (g2 := (47, [(3, .int ((s.1 4) (((24 : Int32) + a1).toNatClampNeg))), (0, .ref 64), (1, .int a1), (2, .int a2)], [.int 0], (q_kM s c n))) 1 (fun _ _ => rfl) ?_
        exact q_RP_ret rfl rfl rfl
    | false =>
      refine q_RP_cF ?_
      show q_RP _ _ _ (28, [(3, .int ((s.1 4) (((24 : Int32) + a1).toNatClampNeg))), (0, .ref 64), (1, .int a1), (2, .int a2)], [.int 0, .int ((s.1 4) (((24 : Int32) + a1).toNatClampNeg)), .int a2], (q_kM s c n)) _ _
      refine q_RP_seg (g2 := (39, [(3, .int ((s.1 4) (((24 : Int32) + a1).toNatClampNeg))), (0, .ref 64), (1, .int a1), (2, .int a2)], [.int (((s.1 4) (((24 : Int32) + a1).toNatClampNeg)) + 8), .int a2], (q_kM s c n))) 3 (fun _ _ => rfl) ?_
      cases h1029 : decide (a2 < ((s.1 4) (((24 : Int32) + a1).toNatClampNeg)) + 8) with
      | true =>
        refine q_RP_cT ?_
        refine q_RP_rsF (g2 := (42, [(3, .int ((s.1 4) (((24 : Int32) + a1).toNatClampNeg))), (0, .ref 64), (1, .int a1), (2, .int a2)], [], (q_kM s c n))) rfl rfl (q_d_geT h1029) ?_
        refine q_RP_seg (g2 := (47, [(3, .int ((s.1 4) (((24 : Int32) + a1).toNatClampNeg))), (0, .ref 64), (1, .int a1), (2, .int a2)], [.int 1], (q_kM s c n))) 2 (fun _ _ => rfl) ?_
        exact q_RP_ret rfl rfl rfl
      | false =>
        refine q_RP_cF ?_
        refine q_RP_rsT (g2 := (46, [(3, .int ((s.1 4) (((24 : Int32) + a1).toNatClampNeg))), (0, .ref 64), (1, .int a1), (2, .int a2)], [], (q_kM s c n))) rfl rfl (q_d_geF h1029) ?_
        refine q_RP_seg (g2 := (47, [(3, .int ((s.1 4) (((24 : Int32) + a1).toNatClampNeg))), (0, .ref 64), (1, .int a1), (2, .int a2)], [.int 0], (q_kM s c n))) 1 (fun _ _ => rfl) ?_
        exact q_RP_ret rfl rfl rfl
def dz_M225_64_85 (s : q_S) (v1 : Int32) (v2 : Int32) : Option (Bool) :=
  cond (decide (v2 < 20)) (some false) (q_let (dz_M223_64 s (v2 - 20)) fun r765 => cond r765 ((dz_M224_64 s (v2 - 20) v1).bind fun r766 => cond r766 (some true) (some false)) (some false))
set_option maxHeartbeats 4000000 in
theorem dzt_M225_64_85 (c n : Nat) (s : q_S) (v1 : Int32) (v2 : Int32) : q_RP q_TB0 2 224 (85, [(0, .ref 64), (1, .int v1), (2, .int v2)], [], (q_kM s c n)) (q_oB (q_kM s c n)) (dz_M225_64_85 s v1 v2) := by
  unfold dz_M225_64_85
  refine q_RP_seg (g2 := (88, [(0, .ref 64), (1, .int v1), (2, .int v2)], [.int 20, .int v2], (q_kM s c n))) 2 (fun _ _ => rfl) ?_
  cases h1044 : decide (v2 < 20) with
  | true =>
    refine q_RP_cT ?_
    refine q_RP_rsT (g2 := (118, [(0, .ref 64), (1, .int v1), (2, .int v2)], [], (q_kM s c n))) rfl rfl h1044 ?_
    refine q_RP_seg (g2 := (119, [(0, .ref 64), (1, .int v1), (2, .int v2)], [.int 0], (q_kM s c n))) 1 (fun _ _ => rfl) ?_
    exact q_RP_ret rfl rfl rfl
  | false =>
    refine q_RP_cF ?_
    refine q_RP_rsF (g2 := (91, [(0, .ref 64), (1, .int v1), (2, .int v2)], [], (q_kM s c n))) rfl rfl h1044 ?_
    refine q_RP_seg (g2 := (96, [(0, .ref 64), (1, .int v1), (2, .int v2)], [.int (v2 - 20), .ref 64], (q_kM s c n))) 4 (fun _ _ => rfl) ?_
    refine q_RP_call (v := (some (.int (q_b (dz_M223_64 s (v2 - 20)))))) (h2 := (q_kM s c n)) rfl rfl ((dzt_M223_64 s c n (v2 - 20)).le (Nat.le_of_ble_eq_true rfl)) ?_
    generalize dz_M223_64 s (v2 - 20) = r765
    refine q_RP_let ?_
    show q_RP _ _ _ (99, [(0, .ref 64), (1, .int v1), (2, .int v2)], [.int (q_b r765)], (q_kM s c n)) _ _
    cases h1045 : r765 with
    | true =>
      refine q_RP_cT ?_
      show q_RP _ _ _ (99, [(0, .ref 64), (1, .int v1), (2, .int v2)], [.int 1], (q_kM s c n)) _ _
      refine q_RP_seg (g2 := (108, [(0, .ref 64), (1, .int v1), (2, .int v2)], [.int v1, .int (v2 - 20), .ref 64], (q_kM s c n))) 6 (fun _ _ => rfl) ?_
      refine q_RP_bd fun r766 er766 => ?_
      refine q_RP_call (v := (some (.int (q_b r766)))) (h2 := (q_kM s c n)) rfl rfl ((dzt_M224_64 s c n (v2 - 20) v1 r766 er766).le (Nat.le_of_ble_eq_true rfl)) ?_
      show q_RP _ _ _ (111, [(0, .ref 64), (1, .int v1), (2, .int v2)], [.int (q_b r766)], (q_kM s c n)) _ _
      cases h1046 : r766 with
      | true =>
        refine q_RP_cT ?_
        show q_RP _ _ _ (111, [(0, .ref 64), (1, .int v1), (2, .int v2)], [.int 1], (q_kM s c n)) _ _
        refine q_RP_seg (g2 := (119, [(0, .ref 64), (1, .int v1), (2, .int v2)], [.int 1], (q_kM s c n))) 3 (fun _ _ => rfl) ?_
        exact q_RP_ret rfl rfl rfl
      | false =>
        refine q_RP_cF ?_
        show q_RP _ _ _ (111, [(0, .ref 64), (1, .int v1), (2, .int v2)], [.int 0], (q_kM s c n)) _ _
        refine q_RP_seg (g2 := (119, [(0, .ref 64), (1, .int v1), (2, .int v2)], [.int 0], (q_kM s c n))) 2 (fun _ _ => rfl) ?_
        exact q_RP_ret rfl rfl rfl
    | false =>
      refine q_RP_cF ?_
      show q_RP _ _ _ (99, [(0, .ref 64), (1, .int v1), (2, .int v2)], [.int 0], (q_kM s c n)) _ _
      refine q_RP_seg (g2 := (119, [(0, .ref 64), (1, .int v1), (2, .int v2)], [.int 0], (q_kM s c n))) 2 (fun _ _ => rfl) ?_
      exact q_RP_ret rfl rfl rfl
def dz_M225_64_64 (s : q_S) (v1 : Int32) (v2 : Int32) : Option (Bool) :=
  q_let (dz_M202 s ((s.1 4) 1) 1 2) fun r764 => cond r764 (cond (decide (v2 < 4)) (some true) (dz_M225_64_85 s v1 v2)) (dz_M225_64_85 s v1 v2)
set_option maxHeartbeats 4000000 in
theorem dzt_M225_64_64 (c n : Nat) (s : q_S) (v1 : Int32) (v2 : Int32) : q_RP q_TB0 2 224 (64, [(0, .ref 64), (1, .int v1), (2, .int v2)], [], (q_kM s c n)) (q_oB (q_kM s c n)) (dz_M225_64_64 s v1 v2) := by
  unfold dz_M225_64_64
  refine q_RP_seg (g2 := (70, [(0, .ref 64), (1, .int v1), (2, .int v2)], [.int ((s.1 4) 1)], (q_kM s c n))) 4 (fun _ _ => rfl) ?_
  refine q_RP_seg (g2 := (72, [(0, .ref 64), (1, .int v1), (2, .int v2)], [.int 2, .int 1, .int ((s.1 4) 1)], (q_kM s c n))) 2 (fun _ _ => rfl) ?_
  refine q_RP_call (v := (some (.int (q_b (dz_M202 s ((s.1 4) 1) 1 2))))) (h2 := (q_kM s c n)) rfl rfl ((dzt_M202 s c n ((s.1 4) 1) 1 2).le (Nat.le_of_ble_eq_true rfl)) ?_
  generalize dz_M202 s ((s.1 4) 1) 1 2 = r764
  refine q_RP_let ?_
  show q_RP _ _ _ (75, [(0, .ref 64), (1, .int v1), (2, .int v2)], [.int (q_b r764)], (q_kM s c n)) _ _
  cases h1042 : r764 with
  | true =>
    refine q_RP_cT ?_
    show q_RP _ _ _ (75, [(0, .ref 64), (1, .int v1), (2, .int v2)], [.int 1], (q_kM s c n)) _ _
    refine q_RP_seg (g2 := (80, [(0, .ref 64), (1, .int v1), (2, .int v2)], [.int 4, .int v2], (q_kM s c n))) 3 (fun _ _ => rfl) ?_
    cases h1043 : decide (v2 < 4) with
    | true =>
      refine q_RP_cT ?_
      refine q_RP_rsF (g2 := (83, [(0, .ref 64), (1, .int v1), (2, .int v2)], [], (q_kM s c n))) rfl rfl (q_d_geT h1043) ?_
      refine q_RP_seg (g2 := (84, [(0, .ref 64), (1, .int v1), (2, .int v2)], [.int 1], (q_kM s c n))) 1 (fun _ _ => rfl) ?_
      exact q_RP_ret rfl rfl rfl
    | false =>
      refine q_RP_cF ?_
      refine q_RP_rsT (g2 := (85, [(0, .ref 64), (1, .int v1), (2, .int v2)], [], (q_kM s c n))) rfl rfl (q_d_geF h1043) ?_
      exact (dzt_M225_64_85 c n s v1 v2)
  | false =>
    refine q_RP_cF ?_
    show q_RP _ _ _ (75, [(0, .ref 64), (1, .int v1), (2, .int v2)], [.int 0], (q_kM s c n)) _ _
    refine q_RP_seg (g2 := (85, [(0, .ref 64), (1, .int v1), (2, .int v2)], [], (q_kM s c n))) 1 (fun _ _ => rfl) ?_
    exact (dzt_M225_64_85 c n s v1 v2)
def dz_M225_64 (s : q_S) : Option (Bool) :=
  q_let (dz_M222_64 s) fun r762 => q_let (dz_M202 s r762 0 31) fun r763 => cond r763 (cond (decide ((s.1 4) 1 = 0)) (cond (decide (((s.2.2 0 15) - (s.2.2 0 15) / 24 * 24).toInt32 < 8)) (cond (decide ((r762 + (((s.1 4) 2) / 4)) - (r762 + (((s.1 4) 2) / 4)) / 8 * 8 = 0)) (some true) (some false)) (dz_M225_64_64 s r762 (((s.2.2 0 15) - (s.2.2 0 15) / 24 * 24).toInt32))) (dz_M225_64_64 s r762 (((s.2.2 0 15) - (s.2.2 0 15) / 24 * 24).toInt32))) (some false)
set_option maxHeartbeats 4000000 in
theorem dzt_M225_64 (s : q_S) (c n : Nat) (x : Bool) (h : dz_M225_64 s = some x) : q_Ca q_TB0 3 224 [.ref 64] (q_kM s c n) ((q_oB (q_kM s c n)) x) := by
  refine q_CaP_of (φ := (q_oB (q_kM s c n))) (Nat.le_of_ble_eq_true rfl) ?_ h
  clear h
  unfold dz_M225_64
  refine q_RP_seg (g2 := (1, [(0, .ref 64)], [.ref 64], (q_kM s c n))) 1 (fun _ _ => rfl) ?_
  refine q_RP_call (v := (some (.int (dz_M222_64 s)))) (h2 := (q_kM s c n)) rfl rfl ((dzt_M222_64 s c n).le (Nat.le_of_ble_eq_true rfl)) ?_
  generalize dz_M222_64 s = r762
  refine q_RP_let ?_
  show q_RP _ _ _ (4, [(0, .ref 64)], [.int r762], (q_kM s c n)) _ _
  refine q_RP_seg (g2 := (9, [(1, .int r762), (0, .ref 64)], [.long (s.2.2 0 15)], (q_kM s c n))) 3 (fun _ _ => rfl) ?_
  refine q_RP_seg (g2 := (19, [(2, .int (((s.2.2 0 15) - (s.2.2 0 15) / 24 * 24).toInt32)), (1, .int r762), (0, .ref 64)], [.int 31, .int 0, .int r762], (q_kM s c n))) 7 (fun _ _ => rfl) ?_
  refine q_RP_call (v := (some (.int (q_b (dz_M202 s r762 0 31))))) (h2 := (q_kM s c n)) rfl rfl ((dzt_M202 s c n r762 0 31).le (Nat.le_of_ble_eq_true rfl)) ?_
  generalize dz_M202 s r762 0 31 = r763
  refine q_RP_let ?_
  show q_RP _ _ _ (22, [(2, .int (((s.2.2 0 15) - (s.2.2 0 15) / 24 * 24).toInt32)), (1, .int r762), (0, .ref 64)], [.int (q_b r763)], (q_kM s c n)) _ _
  cases h1038 : r763 with
  | true =>
    refine q_RP_cT ?_
    show q_RP _ _ _ (22, [(2, .int (((s.2.2 0 15) - (s.2.2 0 15) / 24 * 24).toInt32)), (1, .int r762), (0, .ref 64)], [.int 1], (q_kM s c n)) _ _
    refine q_RP_seg (g2 := (33, [(2, .int (((s.2.2 0 15) - (s.2.2 0 15) / 24 * 24).toInt32)), (1, .int r762), (0, .ref 64)], [.int ((s.1 4) 1)], (q_kM s c n))) 5 (fun _ _ => rfl) ?_
    cases h1039 : decide ((s.1 4) 1 = 0) with
    | true =>
      refine q_RP_cT ?_
      refine q_RP_rsF (g2 := (36, [(2, .int (((s.2.2 0 15) - (s.2.2 0 15) / 24 * 24).toInt32)), (1, .int r762), (0, .ref 64)], [], (q_kM s c n))) rfl rfl (q_d_neT h1039) ?_
      refine q_RP_seg (g2 := (39, [(2, .int (((s.2.2 0 15) - (s.2.2 0 15) / 24 * 24).toInt32)), (1, .int r762), (0, .ref 64)], [.int 8, .int (((s.2.2 0 15) - (s.2.2 0 15) / 24 * 24).toInt32)], (q_kM s c n))) 2 (fun _ _ => rfl) ?_
      cases h1040 : decide (((s.2.2 0 15) - (s.2.2 0 15) / 24 * 24).toInt32 < 8) with
      | true =>
        refine q_RP_cT ?_
        refine q_RP_rsF (g2 := (42, [(2, .int (((s.2.2 0 15) - (s.2.2 0 15) / 24 * 24).toInt32)), (1, .int r762), (0, .ref 64)], [], (q_kM s c n))) rfl rfl (q_d_geT h1040) ?_
        refine q_RP_seg (g2 := (49, [(2, .int (((s.2.2 0 15) - (s.2.2 0 15) / 24 * 24).toInt32)), (1, .int r762), (0, .ref 64)], [.int ((s.1 4) 2), .int r762], (q_kM s c n))) 5 (fun _ _ => rfl) ?_
        refine q_RP_seg (g2 := (55, [(2, .int (((s.2.2 0 15) - (s.2.2 0 15) / 24 * 24).toInt32)), (1, .int r762), (0, .ref 64)], [.int ((r762 + (((s.1 4) 2) / 4)) - (r762 + (((s.1 4) 2) / 4)) / 8 * 8)], (q_kM s c n))) 5 (fun _ _ => rfl) ?_
        cases h1041 : decide ((r762 + (((s.1 4) 2) / 4)) - (r762 + (((s.1 4) 2) / 4)) / 8 * 8 = 0) with
        | true =>
          refine q_RP_cT ?_
          refine q_RP_rsF (g2 := (58, [(2, .int (((s.2.2 0 15) - (s.2.2 0 15) / 24 * 24).toInt32)), (1, .int r762), (0, .ref 64)], [], (q_kM s c n))) rfl rfl (q_d_neT h1041) ?_
          refine q_RP_seg (g2 := (63, [(2, .int (((s.2.2 0 15) - (s.2.2 0 15) / 24 * 24).toInt32)), (1, .int r762), (0, .ref 64)], [.int 1], (q_kM s c n))) 2 (fun _ _ => rfl) ?_
          exact q_RP_ret rfl rfl rfl
        | false =>
          refine q_RP_cF ?_
          refine q_RP_rsT (g2 := (62, [(2, .int (((s.2.2 0 15) - (s.2.2 0 15) / 24 * 24).toInt32)), (1, .int r762), (0, .ref 64)], [], (q_kM s c n))) rfl rfl (q_d_neF h1041) ?_
          refine q_RP_seg (g2 := (63, [(2, .int (((s.2.2 0 15) - (s.2.2 0 15) / 24 * 24).toInt32)), (1, .int r762), (0, .ref 64)], [.int 0], (q_kM s c n))) 1 (fun _ _ => rfl) ?_
          exact q_RP_ret rfl rfl rfl
      | false =>
        refine q_RP_cF ?_
        refine q_RP_rsT (g2 := (64, [(2, .int (((s.2.2 0 15) - (s.2.2 0 15) / 24 * 24).toInt32)), (1, .int r762), (0, .ref 64)], [], (q_kM s c n))) rfl rfl (q_d_geF h1040) ?_
        exact q_RP_xt (q_xt_mk (q_mn1 2 rfl (q_mn1 1 rfl (q_mn1 0 rfl q_mn0))) rfl) (dzt_M225_64_64 c n s r762 (((s.2.2 0 15) - (s.2.2 0 15) / 24 * 24).toInt32))
    | false =>
      refine q_RP_cF ?_
      refine q_RP_rsT (g2 := (64, [(2, .int (((s.2.2 0 15) - (s.2.2 0 15) / 24 * 24).toInt32)), (1, .int r762), (0, .ref 64)], [], (q_kM s c n))) rfl rfl (q_d_neF h1039) ?_
      exact q_RP_xt (q_xt_mk (q_mn1 2 rfl (q_mn1 1 rfl (q_mn1 0 rfl q_mn0))) rfl) (dzt_M225_64_64 c n s r762 (((s.2.2 0 15) - (s.2.2 0 15) / 24 * 24).toInt32))
  | false =>
    refine q_RP_cF ?_
    show q_RP _ _ _ (22, [(2, .int (((s.2.2 0 15) - (s.2.2 0 15) / 24 * 24).toInt32)), (1, .int r762), (0, .ref 64)], [.int 0], (q_kM s c n)) _ _
    refine q_RP_seg (g2 := (26, [(2, .int (((s.2.2 0 15) - (s.2.2 0 15) / 24 * 24).toInt32)), (1, .int r762), (0, .ref 64)], [.int 0], (q_kM s c n))) 2 (fun _ _ => rfl) ?_
    exact q_RP_ret rfl rfl rfl
def dz_M226_64 (s : q_S) (a1 : Int32) (a2 : Int32) : Option (Int32) :=
  q_let ((a1 + (((s.1 4) 2) - ((s.1 4) 2) / 4 * 4)) - (a1 + (((s.1 4) 2) - ((s.1 4) 2) / 4 * 4)) / 32 * 32) fun x770 => q_let ((a2 + (((s.1 4) 2) / 4)) - (a2 + (((s.1 4) 2) / 4)) / 32 * 32) fun x771 => cond (decide ((s.1 4) 1 = 0)) (q_let (dz_M213 s (((256 * ((s.1 4) 7)) + (8 * (x771 / 8))) + (x770 / 4))) fun r772 => cond (q_in r772 4096) (q_let (dz_M213 s (((256 * ((s.1 4) 8)) + (8 * ((s.1 1) (r772.toNatClampNeg)))) + (x771 - x771 / 8 * 8))) fun r773 => cond (q_in r773 4096) (some ((((s.1 1) (r773.toNatClampNeg)) >>> (((3 : Int32) - (x770 - x770 / 4 * 4)) &&& 31)) &&& 1)) none) none) (q_let (dz_M213 s (((256 * ((s.1 4) 7)) + (4 * x771)) + (x770 / 8))) fun r774 => cond (q_in r774 4096) (cond (decide ((s.1 4) 1 = 1)) (some ((((s.1 1) (r774.toNatClampNeg)) >>> (((7 : Int32) - (x770 - x770 / 8 * 8)) &&& 31)) &&& 1)) (cond (decide ((s.1 4) 1 = 2)) (some ((((s.1 1) (r774.toNatClampNeg)) >>> (((6 : Int32) - (2 * ((x770 - x770 / 8 * 8) / 2))) &&& 31)) &&& 3)) (some 0))) none)
set_option maxHeartbeats 4000000 in
theorem dzt_M226_64 (s : q_S) (c n : Nat) (a1 : Int32) (a2 : Int32) (x : Int32) (h : dz_M226_64 s a1 a2 = some x) : q_Ca q_TB0 2 225 [.ref 64, .int a1, .int a2] (q_kM s c n) ((q_oP (q_kM s c n)) x) := by
  refine q_CaP_of (φ := (q_oP (q_kM s c n))) (Nat.le_of_ble_eq_true rfl) ?_ h
  clear h
  unfold dz_M226_64
  refine q_RP_seg (g2 := (7, [(0, .ref 64), (1, .int a1), (2, .int a2)], [.int ((s.1 4) 2), .int a1], (q_kM s c n))) 5 (fun _ _ => rfl) ?_
  refine q_RP_seg (g2 := (13, [(0, .ref 64), (1, .int a1), (2, .int a2)], [.int ((a1 + (((s.1 4) 2) - ((s.1 4) 2) / 4 * 4)) - (a1 + (((s.1 4) 2) - ((s.1 4) 2) / 4 * 4)) / 32 * 32)], (q_kM s c n))) 5 (fun _ _ => rfl) ?_
  generalize ((a1 + (((s.1 4) 2) - ((s.1 4) 2) / 4 * 4)) - (a1 + (((s.1 4) 2) - ((s.1 4) 2) / 4 * 4)) / 32 * 32) = x770
  refine q_RP_let ?_
  show q_RP _ _ _ (13, [(0, .ref 64), (1, .int a1), (2, .int a2)], [.int x770], (q_kM s c n)) _ _
  refine q_RP_seg (g2 := (21, [(3, .int x770), (0, .ref 64), (1, .int a1), (2, .int a2)], [.int ((s.1 4) 2), .int a2], (q_kM s c n))) 6 (fun _ _ => rfl) ?_
  refine q_RP_seg (g2 := (27, [(3, .int x770), (0, .ref 64), (1, .int a1), (2, .int a2)], [.int ((a2 + (((s.1 4) 2) / 4)) - (a2 + (((s.1 4) 2) / 4)) / 32 * 32)], (q_kM s c n))) 5 (fun _ _ => rfl) ?_
  generalize ((a2 + (((s.1 4) 2) / 4)) - (a2 + (((s.1 4) 2) / 4)) / 32 * 32) = x771
  refine q_RP_let ?_
  show q_RP _ _ _ (27, [(3, .int x770), (0, .ref 64), (1, .int a1), (2, .int a2)], [.int x771], (q_kM s c n)) _ _
  refine q_RP_seg (g2 := (39, [(4, .int x771), (3, .int x770), (0, .ref 64), (1, .int a1), (2, .int a2)], [.int ((s.1 4) 7), .int 256], (q_kM s c n))) 6 (fun _ _ => rfl) ?_
  refine q_RP_seg (g2 := (48, [(5, .int (256 * ((s.1 4) 7))), (4, .int x771), (3, .int x770), (0, .ref 64), (1, .int a1), (2, .int a2)], [.int ((s.1 4) 1)], (q_kM s c n))) 6 (fun _ _ => rfl) ?_
  cases h1048 : decide ((s.1 4) 1 = 0) with
  | true =>
    refine q_RP_cT ?_
    refine q_RP_rsF (g2 := (51, [(5, .int (256 * ((s.1 4) 7))), (4, .int x771), (3, .int x770), (0, .ref 64), (1, .int a1), (2, .int a2)], [], (q_kM s c n))) rfl rfl (q_d_neT h1048) ?_
    refine q_RP_seg (g2 := (70, [(5, .int (256 * ((s.1 4) 7))), (4, .int x771), (3, .int x770), (0, .ref 64), (1, .int a1), (2, .int a2)], [.int (((256 * ((s.1 4) 7)) + (8 * (x771 / 8))) + (x770 / 4)), .ref 65], (q_kM s c n))) 13 (fun _ _ => rfl) ?_
    refine q_RP_call (v := (some (.int (dz_M213 s (((256 * ((s.1 4) 7)) + (8 * (x771 / 8))) + (x770 / 4)))))) (h2 := (q_kM s c n)) rfl rfl ((dzt_M213 s c n (((256 * ((s.1 4) 7)) + (8 * (x771 / 8))) + (x770 / 4))).le (Nat.le_of_ble_eq_true rfl)) ?_
    generalize dz_M213 s (((256 * ((s.1 4) 7)) + (8 * (x771 / 8))) + (x770 / 4)) = r772
    refine q_RP_let ?_
    show q_RP _ _ _ (73, [(5, .int (256 * ((s.1 4) 7))), (4, .int x771), (3, .int x770), (0, .ref 64), (1, .int a1), (2, .int a2)], [.int r772, .ref 65], (q_kM s c n)) _ _
    refine q_RP_as fun i1049 => ?_
    refine q_RP_rsT (g2 := (74, [(5, .int (256 * ((s.1 4) 7))), (4, .int x771), (3, .int x770), (0, .ref 64), (1, .int a1), (2, .int a2)], [.int ((s.1 1) (r772.toNatClampNeg))], (q_kM s c n))) rfl rfl i1049 ?_
    refine q_RP_seg (g2 := (90, [(6, .int ((s.1 1) (r772.toNatClampNeg))), (5, .int (256 * ((s.1 4) 7))), (4, .int x771), (3, .int x770), (0, .ref 64), (1, .int a1), (2, .int a2)], [.int ((s.1 4) 8), .int 256, .ref 65], (q_kM s c n))) 8 (fun _ _ => rfl) ?_
    refine q_RP_seg (g2 := (103, [(6, .int ((s.1 1) (r772.toNatClampNeg))), (5, .int (256 * ((s.1 4) 7))), (4, .int x771), (3, .int x770), (0, .ref 64), (1, .int a1), (2, .int a2)], [.int (((256 * ((s.1 4) 8)) + (8 * ((s.1 1) (r772.toNatClampNeg)))) + (x771 - x771 / 8 * 8)), .ref 65], (q_kM s c n))) 9 (fun _ _ => rfl) ?_
    refine q_RP_call (v := (some (.int (dz_M213 s (((256 * ((s.1 4) 8)) + (8 * ((s.1 1) (r772.toNatClampNeg)))) + (x771 - x771 / 8 * 8)))))) (h2 := (q_kM s c n)) rfl rfl ((dzt_M213 s c n (((256 * ((s.1 4) 8)) + (8 * ((s.1 1) (r772.toNatClampNeg)))) + (x771 - x771 / 8 * 8))).le (Nat.le_of_ble_eq_true rfl)) ?_
    generalize dz_M213 s (((256 * ((s.1 4) 8)) + (8 * ((s.1 1) (r772.toNatClampNeg)))) + (x771 - x771 / 8 * 8)) = r773
    refine q_RP_let ?_
    show q_RP _ _ _ (106, [(6, .int ((s.1 1) (r772.toNatClampNeg))), (5, .int (256 * ((s.1 4) 7))), (4, .int x771), (3, .int x770), (0, .ref 64), (1, .int a1), (2, .int a2)], [.int r773, .ref 65], (q_kM s c n)) _ _
    refine q_RP_as fun i1050 => ?_
    refine q_RP_rsT (g2 := (107, [(6, .int ((s.1 1) (r772.toNatClampNeg))), (5, .int (256 * ((s.1 4) 7))), (4, .int x771), (3, .int x770), (0, .ref 64), (1, .int a1), (2, .int a2)], [.int ((s.1 1) (r773.toNatClampNeg))], (q_kM s c n))) rfl rfl i1050 ?_
    refine q_RP_seg (g2 := (115, [(6, .int ((s.1 1) (r772.toNatClampNeg))), (5, .int (256 * ((s.1 4) 7))), (4, .int x771), (3, .int x770), (0, .ref 64), (1, .int a1), (2, .int a2)], [.int ((((s.1 1) (r773.toNatClampNeg)) >>> (((3 : Int32) - (x770 - x770 / 4 * 4)) &&& 31)) &&& 1)], (q_kM s c n))) 8 (fun _ _ => rfl) ?_
    exact q_RP_ret rfl rfl rfl
  | false =>
    refine q_RP_cF ?_
    refine q_RP_rsT (g2 := (116, [(5, .int (256 * ((s.1 4) 7))), (4, .int x771), (3, .int x770), (0, .ref 64), (1, .int a1), (2, .int a2)], [], (q_kM s c n))) rfl rfl (q_d_neF h1048) ?_
    refine q_RP_seg (g2 := (132, [(5, .int (256 * ((s.1 4) 7))), (4, .int x771), (3, .int x770), (0, .ref 64), (1, .int a1), (2, .int a2)], [.int (((256 * ((s.1 4) 7)) + (4 * x771)) + (x770 / 8)), .ref 65], (q_kM s c n))) 11 (fun _ _ => rfl) ?_
    refine q_RP_call (v := (some (.int (dz_M213 s (((256 * ((s.1 4) 7)) + (4 * x771)) + (x770 / 8)))))) (h2 := (q_kM s c n)) rfl rfl ((dzt_M213 s c n (((256 * ((s.1 4) 7)) + (4 * x771)) + (x770 / 8))).le (Nat.le_of_ble_eq_true rfl)) ?_
    generalize dz_M213 s (((256 * ((s.1 4) 7)) + (4 * x771)) + (x770 / 8)) = r774
    refine q_RP_let ?_
    show q_RP _ _ _ (135, [(5, .int (256 * ((s.1 4) 7))), (4, .int x771), (3, .int x770), (0, .ref 64), (1, .int a1), (2, .int a2)], [.int r774, .ref 65], (q_kM s c n)) _ _
    refine q_RP_as fun i1051 => ?_
    refine q_RP_rsT (g2 := (136, [(5, .int (256 * ((s.1 4) 7))), (4, .int x771), (3, .int x770), (0, .ref 64), (1, .int a1), (2, .int a2)], [.int ((s.1 1) (r774.toNatClampNeg))], (q_kM s c n))) rfl rfl i1051 ?_
    refine q_RP_seg (g2 := (144, [(6, .int ((s.1 1) (r774.toNatClampNeg))), (5, .int (256 * ((s.1 4) 7))), (4, .int x771), (3, .int x770), (0, .ref 64), (1, .int a1), (2, .int a2)], [.int ((s.1 4) 1)], (q_kM s c n))) 5 (fun _ _ => rfl) ?_
    refine q_RP_seg (g2 := (145, [(6, .int ((s.1 1) (r774.toNatClampNeg))), (5, .int (256 * ((s.1 4) 7))), (4, .int x771), (3, .int x770), (0, .ref 64), (1, .int a1), (2, .int a2)], [.int 1, .int ((s.1 4) 1)], (q_kM s c n))) 1 (fun _ _ => rfl) ?_
    cases h1052 : decide ((s.1 4) 1 = 1) with
    | true =>
      refine q_RP_cT ?_
      refine q_RP_rsF (g2 := (148, [(6, .int ((s.1 1) (r774.toNatClampNeg))), (5, .int (256 * ((s.1 4) 7))), (4, .int x771), (3, .int x770), (0, .ref 64), (1, .int a1), (2, .int a2)], [], (q_kM s c n))) rfl rfl (q_d_neT h1052) ?_
      refine q_RP_seg (g2 := (193, [(6, .int ((s.1 1) (r774.toNatClampNeg))), (5, .int (256 * ((s.1 4) 7))), (4, .int x771), (3, .int x770), (0, .ref 64), (1, .int a1), (2, .int a2)], [.int ((((s.1 1) (r774.toNatClampNeg)) >>> (((7 : Int32) - (x770 - x770 / 8 * 8)) &&& 31)) &&& 1)], (q_kM s c n))) 10 (fun _ _ => rfl) ?_
      exact q_RP_ret rfl rfl rfl
    | false =>
      refine q_RP_cF ?_
      refine q_RP_rsT (g2 := (163, [(6, .int ((s.1 1) (r774.toNatClampNeg))), (5, .int (256 * ((s.1 4) 7))), (4, .int x771), (3, .int x770), (0, .ref 64), (1, .int a1), (2, .int a2)], [], (q_kM s c n))) rfl rfl (q_d_neF h1052) ?_
      refine q_RP_seg (g2 := (169, [(6, .int ((s.1 1) (r774.toNatClampNeg))), (5, .int (256 * ((s.1 4) 7))), (4, .int x771), (3, .int x770), (0, .ref 64), (1, .int a1), (2, .int a2)], [.int ((s.1 4) 1)], (q_kM s c n))) 4 (fun _ _ => rfl) ?_
      refine q_RP_seg (g2 := (170, [(6, .int ((s.1 1) (r774.toNatClampNeg))), (5, .int (256 * ((s.1 4) 7))), (4, .int x771), (3, .int x770), (0, .ref 64), (1, .int a1), (2, .int a2)], [.int 2, .int ((s.1 4) 1)], (q_kM s c n))) 1 (fun _ _ => rfl) ?_
      cases h1053 : decide ((s.1 4) 1 = 2) with
      | true =>
        refine q_RP_cT ?_
        refine q_RP_rsF (g2 := (173, [(6, .int ((s.1 1) (r774.toNatClampNeg))), (5, .int (256 * ((s.1 4) 7))), (4, .int x771), (3, .int x770), (0, .ref 64), (1, .int a1), (2, .int a2)], [], (q_kM s c n))) rfl rfl (q_d_neT h1053) ?_
        refine q_RP_seg (g2 := (193, [(6, .int ((s.1 1) (r774.toNatClampNeg))), (5, .int (256 * ((s.1 4) 7))), (4, .int x771), (3, .int x770), (0, .ref 64), (1, .int a1), (2, .int a2)], [.int ((((s.1 1) (r774.toNatClampNeg)) >>> (((6 : Int32) - (2 * ((x770 - x770 / 8 * 8) / 2))) &&& 31)) &&& 3)], (q_kM s c n))) 14 (fun _ _ => rfl) ?_
        exact q_RP_ret rfl rfl rfl
      | false =>
        refine q_RP_cF ?_
        refine q_RP_rsT (g2 := (192, [(6, .int ((s.1 1) (r774.toNatClampNeg))), (5, .int (256 * ((s.1 4) 7))), (4, .int x771), (3, .int x770), (0, .ref 64), (1, .int a1), (2, .int a2)], [], (q_kM s c n))) rfl rfl (q_d_neF h1053) ?_
        refine q_RP_seg (g2 := (193, [(6, .int ((s.1 1) (r774.toNatClampNeg))), (5, .int (256 * ((s.1 4) 7))), (4, .int x771), (3, .int x770), (0, .ref 64), (1, .int a1), (2, .int a2)], [.int 0], (q_kM s c n))) 1 (fun _ _ => rfl) ?_
        exact q_RP_ret rfl rfl rfl
def dz_M227_64_62 (s : q_S) (v1 : Int32) (v4 : Int32) (v5 : Int32) : Option (Bool) :=
  q_let (dz_M202 s v4 0 7) fun r780 => cond r780 (q_let (dz_M202 s v5 0 7) fun r781 => cond r781 (q_let (dz_M213 s ((((256 * ((s.1 4) 7)) + 128) + (8 * v1)) + v5)) fun r782 => cond (q_in r782 4096) (q_let (dz_M206 s ((s.1 1) (r782.toNatClampNeg)) ((7 : Int32) - v4)) fun r783 => cond r783 (some true) (some false)) none) (some false)) (some false)
set_option maxHeartbeats 4000000 in
theorem dzt_M227_64_62 (c n : Nat) (s : q_S) (v1 : Int32) (v4 : Int32) (v5 : Int32) : q_RP q_TB0 2 226 (62, [(0, .ref 64), (1, .int v1), (4, .int v4), (5, .int v5)], [], (q_kM s c n)) (q_oB (q_kM s c n)) (dz_M227_64_62 s v1 v4 v5) := by
  unfold dz_M227_64_62
  refine q_RP_seg (g2 := (67, [(0, .ref 64), (1, .int v1), (4, .int v4), (5, .int v5)], [.int 7, .int 0, .int v4], (q_kM s c n))) 3 (fun _ _ => rfl) ?_
  refine q_RP_call (v := (some (.int (q_b (dz_M202 s v4 0 7))))) (h2 := (q_kM s c n)) rfl rfl ((dzt_M202 s c n v4 0 7).le (Nat.le_of_ble_eq_true rfl)) ?_
  generalize dz_M202 s v4 0 7 = r780
  refine q_RP_let ?_
  show q_RP _ _ _ (70, [(0, .ref 64), (1, .int v1), (4, .int v4), (5, .int v5)], [.int (q_b r780)], (q_kM s c n)) _ _
  cases h1059 : r780 with
  | true =>
    refine q_RP_cT ?_
    show q_RP _ _ _ (70, [(0, .ref 64), (1, .int v1), (4, .int v4), (5, .int v5)], [.int 1], (q_kM s c n)) _ _
    refine q_RP_seg (g2 := (78, [(0, .ref 64), (1, .int v1), (4, .int v4), (5, .int v5)], [.int 7, .int 0, .int v5], (q_kM s c n))) 4 (fun _ _ => rfl) ?_
    refine q_RP_call (v := (some (.int (q_b (dz_M202 s v5 0 7))))) (h2 := (q_kM s c n)) rfl rfl ((dzt_M202 s c n v5 0 7).le (Nat.le_of_ble_eq_true rfl)) ?_
    generalize dz_M202 s v5 0 7 = r781
    refine q_RP_let ?_
    show q_RP _ _ _ (81, [(0, .ref 64), (1, .int v1), (4, .int v4), (5, .int v5)], [.int (q_b r781)], (q_kM s c n)) _ _
    cases h1060 : r781 with
    | true =>
      refine q_RP_cT ?_
      show q_RP _ _ _ (81, [(0, .ref 64), (1, .int v1), (4, .int v4), (5, .int v5)], [.int 1], (q_kM s c n)) _ _
      refine q_RP_seg (g2 := (98, [(0, .ref 64), (1, .int v1), (4, .int v4), (5, .int v5)], [.int ((s.1 4) 7), .int 256, .ref 65], (q_kM s c n))) 8 (fun _ _ => rfl) ?_
      refine q_RP_seg (g2 := (111, [(0, .ref 64), (1, .int v1), (4, .int v4), (5, .int v5)], [.int ((((256 * ((s.1 4) 7)) + 128) + (8 * v1)) + v5), .ref 65], (q_kM s c n))) 9 (fun _ _ => rfl) ?_
      refine q_RP_call (v := (some (.int (dz_M213 s ((((256 * ((s.1 4) 7)) + 128) + (8 * v1)) + v5))))) (h2 := (q_kM s c n)) rfl rfl ((dzt_M213 s c n ((((256 * ((s.1 4) 7)) + 128) + (8 * v1)) + v5)).le (Nat.le_of_ble_eq_true rfl)) ?_
      generalize dz_M213 s ((((256 * ((s.1 4) 7)) + 128) + (8 * v1)) + v5) = r782
      refine q_RP_let ?_
      show q_RP _ _ _ (114, [(0, .ref 64), (1, .int v1), (4, .int v4), (5, .int v5)], [.int r782, .ref 65], (q_kM s c n)) _ _
      refine q_RP_as fun i1061 => ?_
      refine q_RP_rsT (g2 := (115, [(0, .ref 64), (1, .int v1), (4, .int v4), (5, .int v5)], [.int ((s.1 1) (r782.toNatClampNeg))], (q_kM s c n))) rfl rfl i1061 ?_
      refine q_RP_seg (g2 := (120, [(0, .ref 64), (1, .int v1), (4, .int v4), (5, .int v5)], [.int ((7 : Int32) - v4), .int ((s.1 1) (r782.toNatClampNeg))], (q_kM s c n))) 3 (fun _ _ => rfl) ?_
      refine q_RP_call (v := (some (.int (q_b (dz_M206 s ((s.1 1) (r782.toNatClampNeg)) ((7 : Int32) - v4)))))) (h2 := (q_kM s c n)) rfl rfl ((dzt_M206 s c n ((s.1 1) (r782.toNatClampNeg)) ((7 : Int32) - v4)).le (Nat.le_of_ble_eq_true rfl)) ?_
      generalize dz_M206 s ((s.1 1) (r782.toNatClampNeg)) ((7 : Int32) - v4) = r783
      refine q_RP_let ?_
      show q_RP _ _ _ (123, [(0, .ref 64), (1, .int v1), (4, .int v4), (5, .int v5)], [.int (q_b r783)], (q_kM s c n)) _ _
      cases h1062 : r783 with
      | true =>
        refine q_RP_cT ?_
        show q_RP _ _ _ (123, [(0, .ref 64), (1, .int v1), (4, .int v4), (5, .int v5)], [.int 1], (q_kM s c n)) _ _
        refine q_RP_seg (g2 := (131, [(0, .ref 64), (1, .int v1), (4, .int v4), (5, .int v5)], [.int 1], (q_kM s c n))) 3 (fun _ _ => rfl) ?_
        exact q_RP_ret rfl rfl rfl
      | false =>
        refine q_RP_cF ?_
        show q_RP _ _ _ (123, [(0, .ref 64), (1, .int v1), (4, .int v4), (5, .int v5)], [.int 0], (q_kM s c n)) _ _
        refine q_RP_seg (g2 := (131, [(0, .ref 64), (1, .int v1), (4, .int v4), (5, .int v5)], [.int 0], (q_kM s c n))) 2 (fun _ _ => rfl) ?_
        exact q_RP_ret rfl rfl rfl
    | false =>
      refine q_RP_cF ?_
      show q_RP _ _ _ (81, [(0, .ref 64), (1, .int v1), (4, .int v4), (5, .int v5)], [.int 0], (q_kM s c n)) _ _
      refine q_RP_seg (g2 := (131, [(0, .ref 64), (1, .int v1), (4, .int v4), (5, .int v5)], [.int 0], (q_kM s c n))) 2 (fun _ _ => rfl) ?_
      exact q_RP_ret rfl rfl rfl
  | false =>
    refine q_RP_cF ?_
    show q_RP _ _ _ (70, [(0, .ref 64), (1, .int v1), (4, .int v4), (5, .int v5)], [.int 0], (q_kM s c n)) _ _
    refine q_RP_seg (g2 := (131, [(0, .ref 64), (1, .int v1), (4, .int v4), (5, .int v5)], [.int 0], (q_kM s c n))) 2 (fun _ _ => rfl) ?_
    exact q_RP_ret rfl rfl rfl
def dz_M227_64 (s : q_S) (a1 : Int32) (a2 : Int32) (a3 : Int32) : Option (Bool) :=
  q_let (dz_M223_64 s a1) fun r776 => cond r776 (cond (q_in ((20 : Int32) + a1) 48) (cond (q_in ((24 : Int32) + a1) 48) (q_let (dz_M206 s ((s.1 4) 18) a1) fun r777 => cond r777 (q_let ((a2 - ((s.1 4) (((20 : Int32) + a1).toNatClampNeg))) >>> ((1 &&& 31) : Int32)) fun x778 => q_let ((a3 - ((s.1 4) (((24 : Int32) + a1).toNatClampNeg))) >>> ((1 &&& 31) : Int32)) fun x779 => dz_M227_64_62 s a1 x778 x779) (dz_M227_64_62 s a1 (a2 - ((s.1 4) (((20 : Int32) + a1).toNatClampNeg))) (a3 - ((s.1 4) (((24 : Int32) + a1).toNatClampNeg))))) none) none) (some false)
set_option maxHeartbeats 4000000 in
theorem dzt_M227_64 (s : q_S) (c n : Nat) (a1 : Int32) (a2 : Int32) (a3 : Int32) (x : Bool) (h : dz_M227_64 s a1 a2 a3 = some x) : q_Ca q_TB0 3 226 [.ref 64, .int a1, .int a2, .int a3] (q_kM s c n) ((q_oB (q_kM s c n)) x) := by
  refine q_CaP_of (φ := (q_oB (q_kM s c n))) (Nat.le_of_ble_eq_true rfl) ?_ h
  clear h
  unfold dz_M227_64
  refine q_RP_seg (g2 := (2, [(0, .ref 64), (1, .int a1), (2, .int a2), (3, .int a3)], [.int a1, .ref 64], (q_kM s c n))) 2 (fun _ _ => rfl) ?_
  refine q_RP_call (v := (some (.int (q_b (dz_M223_64 s a1))))) (h2 := (q_kM s c n)) rfl rfl ((dzt_M223_64 s c n a1).le (Nat.le_of_ble_eq_true rfl)) ?_
  generalize dz_M223_64 s a1 = r776
  refine q_RP_let ?_
  show q_RP _ _ _ (5, [(0, .ref 64), (1, .int a1), (2, .int a2), (3, .int a3)], [.int (q_b r776)], (q_kM s c n)) _ _
  cases h1055 : r776 with
  | true =>
    refine q_RP_cT ?_
    show q_RP _ _ _ (5, [(0, .ref 64), (1, .int a1), (2, .int a2), (3, .int a3)], [.int 1], (q_kM s c n)) _ _
    refine q_RP_seg (g2 := (19, [(0, .ref 64), (1, .int a1), (2, .int a2), (3, .int a3)], [.int ((20 : Int32) + a1), .ref 68, .int a2], (q_kM s c n))) 7 (fun _ _ => rfl) ?_
    refine q_RP_as fun i1056 => ?_
    refine q_RP_rsT (g2 := (20, [(0, .ref 64), (1, .int a1), (2, .int a2), (3, .int a3)], [.int ((s.1 4) (((20 : Int32) + a1).toNatClampNeg)), .int a2], (q_kM s c n))) rfl rfl i1056 ?_
    refine q_RP_seg (g2 := (32, [(4, .int (a2 - ((s.1 4) (((20 : Int32) + a1).toNatClampNeg)))), (0, .ref 64), (1, .int a1), (2, .int a2), (3, .int a3)], [.int ((24 : Int32) + a1), .ref 68, .int a3], (q_kM s c n))) 8 (fun _ _ => rfl) ?_
    refine q_RP_as fun i1057 => ?_
    refine q_RP_rsT (g2 := (33, [(4, .int (a2 - ((s.1 4) (((20 : Int32) + a1).toNatClampNeg)))), (0, .ref 64), (1, .int a1), (2, .int a2), (3, .int a3)], [.int ((s.1 4) (((24 : Int32) + a1).toNatClampNeg)), .int a3], (q_kM s c n))) rfl rfl i1057 ?_
    refine q_RP_seg (g2 := (43, [(5, .int (a3 - ((s.1 4) (((24 : Int32) + a1).toNatClampNeg)))), (4, .int (a2 - ((s.1 4) (((20 : Int32) + a1).toNatClampNeg)))), (0, .ref 64), (1, .int a1), (2, .int a2), (3, .int a3)], [.int ((s.1 4) 18)], (q_kM s c n))) 6 (fun _ _ => rfl) ?_
    refine q_RP_seg (g2 := (44, [(5, .int (a3 - ((s.1 4) (((24 : Int32) + a1).toNatClampNeg)))), (4, .int (a2 - ((s.1 4) (((20 : Int32) + a1).toNatClampNeg)))), (0, .ref 64), (1, .int a1), (2, .int a2), (3, .int a3)], [.int a1, .int ((s.1 4) 18)], (q_kM s c n))) 1 (fun _ _ => rfl) ?_
    refine q_RP_call (v := (some (.int (q_b (dz_M206 s ((s.1 4) 18) a1))))) (h2 := (q_kM s c n)) rfl rfl ((dzt_M206 s c n ((s.1 4) 18) a1).le (Nat.le_of_ble_eq_true rfl)) ?_
    generalize dz_M206 s ((s.1 4) 18) a1 = r777
    refine q_RP_let ?_
    show q_RP _ _ _ (47, [(5, .int (a3 - ((s.1 4) (((24 : Int32) + a1).toNatClampNeg)))), (4, .int (a2 - ((s.1 4) (((20 : Int32) + a1).toNatClampNeg)))), (0, .ref 64), (1, .int a1), (2, .int a2), (3, .int a3)], [.int (q_b r777)], (q_kM s c n)) _ _
    cases h1058 : r777 with
    | true =>
      refine q_RP_cT ?_
      show q_RP _ _ _ (47, [(5, .int (a3 - ((s.1 4) (((24 : Int32) + a1).toNatClampNeg)))), (4, .int (a2 - ((s.1 4) (((20 : Int32) + a1).toNatClampNeg)))), (0, .ref 64), (1, .int a1), (2, .int a2), (3, .int a3)], [.int 1], (q_kM s c n)) _ _
      refine q_RP_seg (g2 := (54, [(5, .int (a3 - ((s.1 4) (((24 : Int32) + a1).toNatClampNeg)))), (4, .int (a2 - ((s.1 4) (((20 : Int32) + a1).toNatClampNeg)))), (0, .ref 64), (1, .int a1), (2, .int a2), (3, .int a3)], [.int ((a2 - ((s.1 4) (((20 : Int32) + a1).toNatClampNeg))) >>> ((1 &&& 31) : Int32))], (q_kM s c n))) 4 (fun _ _ => rfl) ?_
      generalize ((a2 - ((s.1 4) (((20 : Int32) + a1).toNatClampNeg))) >>> ((1 &&& 31) : Int32)) = x778
      refine q_RP_let ?_
      show q_RP _ _ _ (54, [(5, .int (a3 - ((s.1 4) (((24 : Int32) + a1).toNatClampNeg)))), (4, .int (a2 - ((s.1 4) (((20 : Int32) + a1).toNatClampNeg)))), (0, .ref 64), (1, .int a1), (2, .int a2), (3, .int a3)], [.int x778], (q_kM s c n)) _ _
      refine q_RP_seg (g2 := (60, [(4, .int x778), (5, .int (a3 - ((s.1 4) (((24 : Int32) + a1).toNatClampNeg)))), (0, .ref 64), (1, .int a1), (2, .int a2), (3, .int a3)], [.int ((a3 - ((s.1 4) (((24 : Int32) + a1).toNatClampNeg))) >>> ((1 &&& 31) : Int32))], (q_kM s c n))) 4 (fun _ _ => rfl) ?_
      generalize ((a3 - ((s.1 4) (((24 : Int32) + a1).toNatClampNeg))) >>> ((1 &&& 31) : Int32)) = x779
      refine q_RP_let ?_
      show q_RP _ _ _ (60, [(4, .int x778), (5, .int (a3 - ((s.1 4) (((24 : Int32) + a1).toNatClampNeg)))), (0, .ref 64), (1, .int a1), (2, .int a2), (3, .int a3)], [.int x779], (q_kM s c n)) _ _
      refine q_RP_seg (g2 := (62, [(5, .int x779), (4, .int x778), (0, .ref 64), (1, .int a1), (2, .int a2), (3, .int a3)], [], (q_kM s c n))) 1 (fun _ _ => rfl) ?_
      exact q_RP_xt (q_xt_mk (q_mn1 2 rfl (q_mn1 3 rfl (q_mn1 1 rfl (q_mn1 0 rfl q_mn0)))) rfl) (dzt_M227_64_62 c n s a1 x778 x779)
    | false =>
      refine q_RP_cF ?_
      show q_RP _ _ _ (47, [(5, .int (a3 - ((s.1 4) (((24 : Int32) + a1).toNatClampNeg)))), (4, .int (a2 - ((s.1 4) (((20 : Int32) + a1).toNatClampNeg)))), (0, .ref 64), (1, .int a1), (2, .int a2), (3, .int a3)], [.int 0], (q_kM s c n)) _ _
      refine q_RP_seg (g2 := (62, [(5, .int (a3 - ((s.1 4) (((24 : Int32) + a1).toNatClampNeg)))), (4, .int (a2 - ((s.1 4) (((20 : Int32) + a1).toNatClampNeg)))), (0, .ref 64), (1, .int a1), (2, .int a2), (3, .int a3)], [], (q_kM s c n))) 1 (fun _ _ => rfl) ?_
      exact q_RP_xt (q_xt_mk (q_mn1 2 rfl (q_mn1 3 rfl (q_mn1 1 rfl (q_mn1 0 rfl q_mn0)))) rfl) (dzt_M227_64_62 c n s a1 (a2 - ((s.1 4) (((20 : Int32) + a1).toNatClampNeg))) (a3 - ((s.1 4) (((24 : Int32) + a1).toNatClampNeg))))
  | false =>
    refine q_RP_cF ?_
    show q_RP _ _ _ (5, [(0, .ref 64), (1, .int a1), (2, .int a2), (3, .int a3)], [.int 0], (q_kM s c n)) _ _
    refine q_RP_seg (g2 := (9, [(0, .ref 64), (1, .int a1), (2, .int a2), (3, .int a3)], [.int 0], (q_kM s c n))) 2 (fun _ _ => rfl) ?_
    exact q_RP_ret rfl rfl rfl
def dz_M228_64_118 (s : q_S) (v1 : Int32) (v2 : Int32) (v3 : Int32) (v4 : Int32) (v5 : Int32) (v6 : Int32) : Option (q_S) :=
  cond (q_in ((3 : Int32) + v3) 48) (cond (q_in ((32 * v2) + v1) 1024) (cond (decide (v5 &&& (v5 - 1) = 0)) (cond (decide (v4 = 0)) (some (q_sA s 5 (upd (s.1 5) (((32 * v2) + v1).toNatClampNeg) ((s.1 4) (((3 : Int32) + v3).toNatClampNeg))))) (some (q_sA (q_sA s 5 (upd (s.1 5) (((32 * v2) + v1).toNatClampNeg) ((s.1 4) (((3 : Int32) + v3).toNatClampNeg)))) 14 (upd (s.1 14) 11 (((s.1 14) 11) ||| v5))))) (cond (decide (v4 = 0)) (some (q_sA (q_sA s 5 (upd (s.1 5) (((32 * v2) + v1).toNatClampNeg) ((s.1 4) (((3 : Int32) + v3).toNatClampNeg)))) 14 (upd (s.1 14) 10 (((s.1 14) 10) ||| v5)))) (q_let ((q_sA (q_sA s 5 (upd (s.1 5) (((32 * v2) + v1).toNatClampNeg) ((s.1 4) (((3 : Int32) + v3).toNatClampNeg)))) 14 (upd (s.1 14) 10 (((s.1 14) 10) ||| v5)))) fun r785 => some (q_sA r785 14 (upd (r785.1 14) 11 (((upd (s.1 14) 10 (((s.1 14) 10) ||| v5)) 11) ||| v5)))))) none) none
set_option maxHeartbeats 4000000 in
theorem dzt_M228_64_118 (c n : Nat) (s : q_S) (v1 : Int32) (v2 : Int32) (v3 : Int32) (v4 : Int32) (v5 : Int32) (v6 : Int32) : q_RP q_TB0 3 227 (118, [(0, .ref 64), (1, .int v1), (2, .int v2), (3, .int v3), (4, .int v4), (5, .int v5), (6, .int v6)], [], (q_kM s c n)) (q_oSM c n) (dz_M228_64_118 s v1 v2 v3 v4 v5 v6) := by
  unfold dz_M228_64_118
  refine q_RP_seg (g2 := (159, [(7, .int 0), (0, .ref 64), (1, .int v1), (2, .int v2), (3, .int v3), (4, .int v4), (5, .int v5), (6, .int v6)], [.int ((3 : Int32) + v3), .ref 68, .int ((32 * v2) + v1), .ref 69], (q_kM s c n))) 16 (fun _ _ => rfl) ?_
  refine q_RP_as fun i1067 => ?_
  refine q_RP_rsT (g2 := (160, [(7, .int 0), (0, .ref 64), (1, .int v1), (2, .int v2), (3, .int v3), (4, .int v4), (5, .int v5), (6, .int v6)], [.int ((s.1 4) (((3 : Int32) + v3).toNatClampNeg)), .int ((32 * v2) + v1), .ref 69], (q_kM s c n))) rfl rfl i1067 ?_
  refine q_RP_as fun i1068 => ?_
  refine q_RP_rsT (g2 := (161, [(7, .int 0), (0, .ref 64), (1, .int v1), (2, .int v2), (3, .int v3), (4, .int v4), (5, .int v5), (6, .int v6)], [], (q_kM (q_sA s 5 (upd (s.1 5) (((32 * v2) + v1).toNatClampNeg) ((s.1 4) (((3 : Int32) + v3).toNatClampNeg)))) c n))) rfl q_wM5 i1068 ?_
  refine q_RP_seg (g2 := (168, [(7, .int 0), (0, .ref 64), (1, .int v1), (2, .int v2), (3, .int v3), (4, .int v4), (5, .int v5), (6, .int v6)], [.int (v5 &&& (v5 - 1))], (q_kM (q_sA s 5 (upd (s.1 5) (((32 * v2) + v1).toNatClampNeg) ((s.1 4) (((3 : Int32) + v3).toNatClampNeg)))) c n))) 5 (fun _ _ => rfl) ?_
  cases h1069 : decide (v5 &&& (v5 - 1) = 0) with
  | true =>
    refine q_RP_cT ?_
    refine q_RP_rsT (g2 := (183, [(7, .int 0), (0, .ref 64), (1, .int v1), (2, .int v2), (3, .int v3), (4, .int v4), (5, .int v5), (6, .int v6)], [], (q_kM (q_sA s 5 (upd (s.1 5) (((32 * v2) + v1).toNatClampNeg) ((s.1 4) (((3 : Int32) + v3).toNatClampNeg)))) c n))) rfl rfl h1069 ?_
    refine q_RP_seg (g2 := (185, [(7, .int 0), (0, .ref 64), (1, .int v1), (2, .int v2), (3, .int v3), (4, .int v4), (5, .int v5), (6, .int v6)], [.int v4], (q_kM (q_sA s 5 (upd (s.1 5) (((32 * v2) + v1).toNatClampNeg) ((s.1 4) (((3 : Int32) + v3).toNatClampNeg)))) c n))) 1 (fun _ _ => rfl) ?_
    cases h1070 : decide (v4 = 0) with
    | true =>
      refine q_RP_cT ?_
      refine q_RP_rsT (g2 := (200, [(7, .int 0), (0, .ref 64), (1, .int v1), (2, .int v2), (3, .int v3), (4, .int v4), (5, .int v5), (6, .int v6)], [], (q_kM (q_sA s 5 (upd (s.1 5) (((32 * v2) + v1).toNatClampNeg) ((s.1 4) (((3 : Int32) + v3).toNatClampNeg)))) c n))) rfl rfl h1070 ?_
      exact q_RP_ret rfl rfl rfl
    | false =>
      refine q_RP_cF ?_
      refine q_RP_rsF (g2 := (188, [(7, .int 0), (0, .ref 64), (1, .int v1), (2, .int v2), (3, .int v3), (4, .int v4), (5, .int v5), (6, .int v6)], [], (q_kM (q_sA s 5 (upd (s.1 5) (((32 * v2) + v1).toNatClampNeg) ((s.1 4) (((3 : Int32) + v3).toNatClampNeg)))) c n))) rfl rfl h1070 ?_
      refine q_RP_seg (g2 := (196, [(7, .int 0), (0, .ref 64), (1, .int v1), (2, .int v2), (3, .int v3), (4, .int v4), (5, .int v5), (6, .int v6)], [.int ((s.1 14) 11), .int 11, .ref 78], (q_kM (q_sA s 5 (upd (s.1 5) (((32 * v2) + v1).toNatClampNeg) ((s.1 4) (((3 : Int32) + v3).toNatClampNeg)))) c n))) 5 (fun _ _ => rfl) ?_
      refine q_RP_seg (g2 := (200, [(7, .int 0), (0, .ref 64), (1, .int v1), (2, .int v2), (3, .int v3), (4, .int v4), (5, .int v5), (6, .int v6)], [], (q_kM (q_sA (q_sA s 5 (upd (s.1 5) (((32 * v2) + v1).toNatClampNeg) ((s.1 4) (((3 : Int32) + v3).toNatClampNeg)))) 14 (upd (s.1 14) 11 (((s.1 14) 11) ||| v5))) c n))) 3 (fun _ _ => rfl) ?_
      exact q_RP_ret rfl rfl rfl
  | false =>
    refine q_RP_cF ?_
    refine q_RP_rsF (g2 := (171, [(7, .int 0), (0, .ref 64), (1, .int v1), (2, .int v2), (3, .int v3), (4, .int v4), (5, .int v5), (6, .int v6)], [], (q_kM (q_sA s 5 (upd (s.1 5) (((32 * v2) + v1).toNatClampNeg) ((s.1 4) (((3 : Int32) + v3).toNatClampNeg)))) c n))) rfl rfl h1069 ?_
    refine q_RP_seg (g2 := (179, [(7, .int 0), (0, .ref 64), (1, .int v1), (2, .int v2), (3, .int v3), (4, .int v4), (5, .int v5), (6, .int v6)], [.int ((s.1 14) 10), .int 10, .ref 78], (q_kM (q_sA s 5 (upd (s.1 5) (((32 * v2) + v1).toNatClampNeg) ((s.1 4) (((3 : Int32) + v3).toNatClampNeg)))) c n))) 5 (fun _ _ => rfl) ?_
    refine q_RP_seg (g2 := (185, [(7, .int 0), (0, .ref 64), (1, .int v1), (2, .int v2), (3, .int v3), (4, .int v4), (5, .int v5), (6, .int v6)], [.int v4], (q_kM (q_sA (q_sA s 5 (upd (s.1 5) (((32 * v2) + v1).toNatClampNeg) ((s.1 4) (((3 : Int32) + v3).toNatClampNeg)))) 14 (upd (s.1 14) 10 (((s.1 14) 10) ||| v5))) c n))) 4 (fun _ _ => rfl) ?_
    cases h1071 : decide (v4 = 0) with
    | true =>
      refine q_RP_cT ?_
      refine q_RP_rsT (g2 := (200, [(7, .int 0), (0, .ref 64), (1, .int v1), (2, .int v2), (3, .int v3), (4, .int v4), (5, .int v5), (6, .int v6)], [], (q_kM (q_sA (q_sA s 5 (upd (s.1 5) (((32 * v2) + v1).toNatClampNeg) ((s.1 4) (((3 : Int32) + v3).toNatClampNeg)))) 14 (upd (s.1 14) 10 (((s.1 14) 10) ||| v5))) c n))) rfl rfl h1071 ?_
      exact q_RP_ret rfl rfl rfl
    | false =>
      refine q_RP_cF ?_
      refine q_RP_rsF (g2 := (188, [(7, .int 0), (0, .ref 64), (1, .int v1), (2, .int v2), (3, .int v3), (4, .int v4), (5, .int v5), (6, .int v6)], [], (q_kM (q_sA (q_sA s 5 (upd (s.1 5) (((32 * v2) + v1).toNatClampNeg) ((s.1 4) (((3 : Int32) + v3).toNatClampNeg)))) 14 (upd (s.1 14) 10 (((s.1 14) 10) ||| v5))) c n))) rfl rfl h1071 ?_
      refine q_RP_seg (g2 := (196, [(7, .int 0), (0, .ref 64), (1, .int v1), (2, .int v2), (3, .int v3), (4, .int v4), (5, .int v5), (6, .int v6)], [.int ((upd (s.1 14) 10 (((s.1 14) 10) ||| v5)) 11), .int 11, .ref 78], (q_kM (q_sA (q_sA s 5 (upd (s.1 5) (((32 * v2) + v1).toNatClampNeg) ((s.1 4) (((3 : Int32) + v3).toNatClampNeg)))) 14 (upd (s.1 14) 10 (((s.1 14) 10) ||| v5))) c n))) 5 (fun _ _ => rfl) ?_
      refine q_RP_seg (g2 := (199, [(7, .int 0), (0, .ref 64), (1, .int v1), (2, .int v2), (3, .int v3), (4, .int v4), (5, .int v5), (6, .int v6)], [.int (((upd (s.1 14) 10 (((s.1 14) 10) ||| v5)) 11) ||| v5), .int 11, .ref 78], (q_kM (q_sA (q_sA s 5 (upd (s.1 5) (((32 * v2) + v1).toNatClampNeg) ((s.1 4) (((3 : Int32) + v3).toNatClampNeg)))) 14 (upd (s.1 14) 10 (((s.1 14) 10) ||| v5))) c n))) 2 (fun _ _ => rfl) ?_
      generalize (q_sA (q_sA s 5 (upd (s.1 5) (((32 * v2) + v1).toNatClampNeg) ((s.1 4) (((3 : Int32) + v3).toNatClampNeg)))) 14 (upd (s.1 14) 10 (((s.1 14) 10) ||| v5))) = r785
      refine q_RP_let ?_
      show q_RP _ _ _ (199, [(7, .int 0), (0, .ref 64), (1, .int v1), (2, .int v2), (3, .int v3), (4, .int v4), (5, .int v5), (6, .int v6)], [.int (((upd (s.1 14) 10 (((s.1 14) 10) ||| v5)) 11) ||| v5), .int 11, .ref 78], (q_kM r785 c n)) _ _
      refine q_RP_seg (g2 := (200, [(7, .int 0), (0, .ref 64), (1, .int v1), (2, .int v2), (3, .int v3), (4, .int v4), (5, .int v5), (6, .int v6)], [], (q_kM (q_sA r785 14 (upd (r785.1 14) 11 (((upd (s.1 14) 10 (((s.1 14) 10) ||| v5)) 11) ||| v5))) c n))) 1 (fun _ _ => rfl) ?_
      exact q_RP_ret rfl rfl rfl
def dz_M228_64_114 (s : q_S) (v1 : Int32) (v2 : Int32) (v3 : Int32) (v4 : Int32) (v5 : Int32) (v6 : Int32) : Option (q_S) :=
  cond (q_in ((32 * v2) + v1) 1024) (cond (decide (v5 &&& (v5 - 1) = 0)) (cond (decide (v4 = 0)) (some (q_sA s 5 (upd (s.1 5) (((32 * v2) + v1).toNatClampNeg) ((((s.1 4) 28) + v6) - (((s.1 4) 28) + v6) / 16 * 16)))) (some (q_sA (q_sA s 5 (upd (s.1 5) (((32 * v2) + v1).toNatClampNeg) ((((s.1 4) 28) + v6) - (((s.1 4) 28) + v6) / 16 * 16))) 14 (upd (s.1 14) 11 (((s.1 14) 11) ||| v5))))) (cond (decide (v4 = 0)) (some (q_sA (q_sA s 5 (upd (s.1 5) (((32 * v2) + v1).toNatClampNeg) ((((s.1 4) 28) + v6) - (((s.1 4) 28) + v6) / 16 * 16))) 14 (upd (s.1 14) 10 (((s.1 14) 10) ||| v5)))) (q_let ((q_sA (q_sA s 5 (upd (s.1 5) (((32 * v2) + v1).toNatClampNeg) ((((s.1 4) 28) + v6) - (((s.1 4) 28) + v6) / 16 * 16))) 14 (upd (s.1 14) 10 (((s.1 14) 10) ||| v5)))) fun r786 => some (q_sA r786 14 (upd (r786.1 14) 11 (((upd (s.1 14) 10 (((s.1 14) 10) ||| v5)) 11) ||| v5)))))) none
set_option maxHeartbeats 4000000 in
theorem dzt_M228_64_114 (c n : Nat) (s : q_S) (v1 : Int32) (v2 : Int32) (v3 : Int32) (v4 : Int32) (v5 : Int32) (v6 : Int32) : q_RP q_TB0 3 227 (114, [(0, .ref 64), (1, .int v1), (2, .int v2), (3, .int v3), (4, .int v4), (5, .int v5), (6, .int v6)], [], (q_kM s c n)) (q_oSM c n) (dz_M228_64_114 s v1 v2 v3 v4 v5 v6) := by
  unfold dz_M228_64_114
  refine q_RP_seg (g2 := (143, [(7, .int 1), (0, .ref 64), (1, .int v1), (2, .int v2), (3, .int v3), (4, .int v4), (5, .int v5), (6, .int v6)], [.int ((s.1 4) 28), .int ((32 * v2) + v1), .ref 69], (q_kM s c n))) 16 (fun _ _ => rfl) ?_
  refine q_RP_seg (g2 := (160, [(7, .int 1), (0, .ref 64), (1, .int v1), (2, .int v2), (3, .int v3), (4, .int v4), (5, .int v5), (6, .int v6)], [.int ((((s.1 4) 28) + v6) - (((s.1 4) 28) + v6) / 16 * 16), .int ((32 * v2) + v1), .ref 69], (q_kM s c n))) 5 (fun _ _ => rfl) ?_
  refine q_RP_as fun i1073 => ?_
  refine q_RP_rsT (g2 := (161, [(7, .int 1), (0, .ref 64), (1, .int v1), (2, .int v2), (3, .int v3), (4, .int v4), (5, .int v5), (6, .int v6)], [], (q_kM (q_sA s 5 (upd (s.1 5) (((32 * v2) + v1).toNatClampNeg) ((((s.1 4) 28) + v6) - (((s.1 4) 28) + v6) / 16 * 16))) c n))) rfl q_wM5 i1073 ?_
  refine q_RP_seg (g2 := (168, [(7, .int 1), (0, .ref 64), (1, .int v1), (2, .int v2), (3, .int v3), (4, .int v4), (5, .int v5), (6, .int v6)], [.int (v5 &&& (v5 - 1))], (q_kM (q_sA s 5 (upd (s.1 5) (((32 * v2) + v1).toNatClampNeg) ((((s.1 4) 28) + v6) - (((s.1 4) 28) + v6) / 16 * 16))) c n))) 5 (fun _ _ => rfl) ?_
  cases h1074 : decide (v5 &&& (v5 - 1) = 0) with
  | true =>
    refine q_RP_cT ?_
    refine q_RP_rsT (g2 := (183, [(7, .int 1), (0, .ref 64), (1, .int v1), (2, .int v2), (3, .int v3), (4, .int v4), (5, .int v5), (6, .int v6)], [], (q_kM (q_sA s 5 (upd (s.1 5) (((32 * v2) + v1).toNatClampNeg) ((((s.1 4) 28) + v6) - (((s.1 4) 28) + v6) / 16 * 16))) c n))) rfl rfl h1074 ?_
    refine q_RP_seg (g2 := (185, [(7, .int 1), (0, .ref 64), (1, .int v1), (2, .int v2), (3, .int v3), (4, .int v4), (5, .int v5), (6, .int v6)], [.int v4], (q_kM (q_sA s 5 (upd (s.1 5) (((32 * v2) + v1).toNatClampNeg) ((((s.1 4) 28) + v6) - (((s.1 4) 28) + v6) / 16 * 16))) c n))) 1 (fun _ _ => rfl) ?_
    cases h1075 : decide (v4 = 0) with
    | true =>
      refine q_RP_cT ?_
      refine q_RP_rsT (g2 := (200, [(7, .int 1), (0, .ref 64), (1, .int v1), (2, .int v2), (3, .int v3), (4, .int v4), (5, .int v5), (6, .int v6)], [], (q_kM (q_sA s 5 (upd (s.1 5) (((32 * v2) + v1).toNatClampNeg) ((((s.1 4) 28) + v6) - (((s.1 4) 28) + v6) / 16 * 16))) c n))) rfl rfl h1075 ?_
      exact q_RP_ret rfl rfl rfl
    | false =>
      refine q_RP_cF ?_
      refine q_RP_rsF (g2 := (188, [(7, .int 1), (0, .ref 64), (1, .int v1), (2, .int v2), (3, .int v3), (4, .int v4), (5, .int v5), (6, .int v6)], [], (q_kM (q_sA s 5 (upd (s.1 5) (((32 * v2) + v1).toNatClampNeg) ((((s.1 4) 28) + v6) - (((s.1 4) 28) + v6) / 16 * 16))) c n))) rfl rfl h1075 ?_
      refine q_RP_seg (g2 := (196, [(7, .int 1), (0, .ref 64), (1, .int v1), (2, .int v2), (3, .int v3), (4, .int v4), (5, .int v5), (6, .int v6)], [.int ((s.1 14) 11), .int 11, .ref 78], (q_kM (q_sA s 5 (upd (s.1 5) (((32 * v2) + v1).toNatClampNeg) ((((s.1 4) 28) + v6) - (((s.1 4) 28) + v6) / 16 * 16))) c n))) 5 (fun _ _ => rfl) ?_
      refine q_RP_seg (g2 := (200, [(7, .int 1), (0, .ref 64), (1, .int v1), (2, .int v2), (3, .int v3), (4, .int v4), (5, .int v5), (6, .int v6)], [], (q_kM (q_sA (q_sA s 5 (upd (s.1 5) (((32 * v2) + v1).toNatClampNeg) ((((s.1 4) 28) + v6) - (((s.1 4) 28) + v6) / 16 * 16))) 14 (upd (s.1 14) 11 (((s.1 14) 11) ||| v5))) c n))) 3 (fun _ _ => rfl) ?_
      exact q_RP_ret rfl rfl rfl
  | false =>
    refine q_RP_cF ?_
    refine q_RP_rsF (g2 := (171, [(7, .int 1), (0, .ref 64), (1, .int v1), (2, .int v2), (3, .int v3), (4, .int v4), (5, .int v5), (6, .int v6)], [], (q_kM (q_sA s 5 (upd (s.1 5) (((32 * v2) + v1).toNatClampNeg) ((((s.1 4) 28) + v6) - (((s.1 4) 28) + v6) / 16 * 16))) c n))) rfl rfl h1074 ?_
    refine q_RP_seg (g2 := (179, [(7, .int 1), (0, .ref 64), (1, .int v1), (2, .int v2), (3, .int v3), (4, .int v4), (5, .int v5), (6, .int v6)], [.int ((s.1 14) 10), .int 10, .ref 78], (q_kM (q_sA s 5 (upd (s.1 5) (((32 * v2) + v1).toNatClampNeg) ((((s.1 4) 28) + v6) - (((s.1 4) 28) + v6) / 16 * 16))) c n))) 5 (fun _ _ => rfl) ?_
    refine q_RP_seg (g2 := (185, [(7, .int 1), (0, .ref 64), (1, .int v1), (2, .int v2), (3, .int v3), (4, .int v4), (5, .int v5), (6, .int v6)], [.int v4], (q_kM (q_sA (q_sA s 5 (upd (s.1 5) (((32 * v2) + v1).toNatClampNeg) ((((s.1 4) 28) + v6) - (((s.1 4) 28) + v6) / 16 * 16))) 14 (upd (s.1 14) 10 (((s.1 14) 10) ||| v5))) c n))) 4 (fun _ _ => rfl) ?_
    cases h1076 : decide (v4 = 0) with
    | true =>
      refine q_RP_cT ?_
      refine q_RP_rsT (g2 := (200, [(7, .int 1), (0, .ref 64), (1, .int v1), (2, .int v2), (3, .int v3), (4, .int v4), (5, .int v5), (6, .int v6)], [], (q_kM (q_sA (q_sA s 5 (upd (s.1 5) (((32 * v2) + v1).toNatClampNeg) ((((s.1 4) 28) + v6) - (((s.1 4) 28) + v6) / 16 * 16))) 14 (upd (s.1 14) 10 (((s.1 14) 10) ||| v5))) c n))) rfl rfl h1076 ?_
      exact q_RP_ret rfl rfl rfl
    | false =>
      refine q_RP_cF ?_
      refine q_RP_rsF (g2 := (188, [(7, .int 1), (0, .ref 64), (1, .int v1), (2, .int v2), (3, .int v3), (4, .int v4), (5, .int v5), (6, .int v6)], [], (q_kM (q_sA (q_sA s 5 (upd (s.1 5) (((32 * v2) + v1).toNatClampNeg) ((((s.1 4) 28) + v6) - (((s.1 4) 28) + v6) / 16 * 16))) 14 (upd (s.1 14) 10 (((s.1 14) 10) ||| v5))) c n))) rfl rfl h1076 ?_
      refine q_RP_seg (g2 := (196, [(7, .int 1), (0, .ref 64), (1, .int v1), (2, .int v2), (3, .int v3), (4, .int v4), (5, .int v5), (6, .int v6)], [.int ((upd (s.1 14) 10 (((s.1 14) 10) ||| v5)) 11), .int 11, .ref 78], (q_kM (q_sA (q_sA s 5 (upd (s.1 5) (((32 * v2) + v1).toNatClampNeg) ((((s.1 4) 28) + v6) - (((s.1 4) 28) + v6) / 16 * 16))) 14 (upd (s.1 14) 10 (((s.1 14) 10) ||| v5))) c n))) 5 (fun _ _ => rfl) ?_
      refine q_RP_seg (g2 := (199, [(7, .int 1), (0, .ref 64), (1, .int v1), (2, .int v2), (3, .int v3), (4, .int v4), (5, .int v5), (6, .int v6)], [.int (((upd (s.1 14) 10 (((s.1 14) 10) ||| v5)) 11) ||| v5), .int 11, .ref 78], (q_kM (q_sA (q_sA s 5 (upd (s.1 5) (((32 * v2) + v1).toNatClampNeg) ((((s.1 4) 28) + v6) - (((s.1 4) 28) + v6) / 16 * 16))) 14 (upd (s.1 14) 10 (((s.1 14) 10) ||| v5))) c n))) 2 (fun _ _ => rfl) ?_
      generalize (q_sA (q_sA s 5 (upd (s.1 5) (((32 * v2) + v1).toNatClampNeg) ((((s.1 4) 28) + v6) - (((s.1 4) 28) + v6) / 16 * 16))) 14 (upd (s.1 14) 10 (((s.1 14) 10) ||| v5))) = r786
      refine q_RP_let ?_
      show q_RP _ _ _ (199, [(7, .int 1), (0, .ref 64), (1, .int v1), (2, .int v2), (3, .int v3), (4, .int v4), (5, .int v5), (6, .int v6)], [.int (((upd (s.1 14) 10 (((s.1 14) 10) ||| v5)) 11) ||| v5), .int 11, .ref 78], (q_kM r786 c n)) _ _
      refine q_RP_seg (g2 := (200, [(7, .int 1), (0, .ref 64), (1, .int v1), (2, .int v2), (3, .int v3), (4, .int v4), (5, .int v5), (6, .int v6)], [], (q_kM (q_sA r786 14 (upd (r786.1 14) 11 (((upd (s.1 14) 10 (((s.1 14) 10) ||| v5)) 11) ||| v5))) c n))) 1 (fun _ _ => rfl) ?_
      exact q_RP_ret rfl rfl rfl
def dz_M228_64_51 (m : Nat) : q_S → Int32 → Int32 → Int32 → Int32 → Int32 → Int32 → Int32 → Option (q_S) := Nat.rec (motive := fun _ => q_S → Int32 → Int32 → Int32 → Int32 → Int32 → Int32 → Int32 → Option (q_S)) (fun _ _ _ _ _ _ _ _ => none) (fun _ k51 s v1 v2 v3 v4 v5 v6 v7 =>
  cond (decide (v7 < 0)) (cond (decide (v6 < 0)) (dz_M228_64_118 s v1 v2 v3 v4 v5 v6) (cond (decide (v4 = 0)) (dz_M228_64_114 s v1 v2 v3 v4 v5 v6) (q_let (dz_M206 s ((s.1 4) 19) v6) fun r787 => cond r787 (dz_M228_64_118 s v1 v2 v3 v4 v5 v6) (dz_M228_64_114 s v1 v2 v3 v4 v5 v6)))) ((dz_M227_64 s v7 v1 v2).bind fun r788 => cond r788 (k51 s v1 v2 v3 v4 (v5 ||| ((1 : Int32) <<< (v7 &&& 31))) v7 (v7 + (-1))) (k51 s v1 v2 v3 v4 v5 v6 (v7 + (-1))))) m
theorem dzs_M228_64_51 (m : Nat) (s : q_S) (v1 : Int32) (v2 : Int32) (v3 : Int32) (v4 : Int32) (v5 : Int32) (v6 : Int32) (v7 : Int32) : dz_M228_64_51 (m + 1) s v1 v2 v3 v4 v5 v6 v7 = (fun k51 : q_S → Int32 → Int32 → Int32 → Int32 → Int32 → Int32 → Int32 → Option (q_S) =>
  cond (decide (v7 < 0)) (cond (decide (v6 < 0)) (dz_M228_64_118 s v1 v2 v3 v4 v5 v6) (cond (decide (v4 = 0)) (dz_M228_64_114 s v1 v2 v3 v4 v5 v6) (q_let (dz_M206 s ((s.1 4) 19) v6) fun r787 => cond r787 (dz_M228_64_118 s v1 v2 v3 v4 v5 v6) (dz_M228_64_114 s v1 v2 v3 v4 v5 v6)))) ((dz_M227_64 s v7 v1 v2).bind fun r788 => cond r788 (k51 s v1 v2 v3 v4 (v5 ||| ((1 : Int32) <<< (v7 &&& 31))) v7 (v7 + (-1))) (k51 s v1 v2 v3 v4 v5 v6 (v7 + (-1))))) (dz_M228_64_51 m) := rfl
set_option maxHeartbeats 4000000 in
theorem dzt_M228_64_51 (c n : Nat) : ∀ (m : Nat) (s : q_S) (v1 : Int32) (v2 : Int32) (v3 : Int32) (v4 : Int32) (v5 : Int32) (v6 : Int32) (v7 : Int32), q_RP q_TB0 3 227 (51, [(0, .ref 64), (1, .int v1), (2, .int v2), (3, .int v3), (4, .int v4), (5, .int v5), (6, .int v6), (7, .int v7)], [], (q_kM s c n)) (q_oSM c n) (dz_M228_64_51 m s v1 v2 v3 v4 v5 v6 v7) := by
  intro m
  induction m with
  | zero => intro s v1 v2 v3 v4 v5 v6 v7; exact q_RP_no
  | succ m ih =>
    intro s v1 v2 v3 v4 v5 v6 v7
    have hk51 := ih
    clear ih
    rw [dzs_M228_64_51]
    generalize dz_M228_64_51 m = k51 at hk51 ⊢
    dsimp only
    refine q_RP_seg (g2 := (53, [(0, .ref 64), (1, .int v1), (2, .int v2), (3, .int v3), (4, .int v4), (5, .int v5), (6, .int v6), (7, .int v7)], [.int v7], (q_kM s c n))) 1 (fun _ _ => rfl) ?_
    cases h1065 : decide (v7 < 0) with
    | true =>
      refine q_RP_cT ?_
      refine q_RP_rsT (g2 := (89, [(0, .ref 64), (1, .int v1), (2, .int v2), (3, .int v3), (4, .int v4), (5, .int v5), (6, .int v6), (7, .int v7)], [], (q_kM s c n))) rfl rfl h1065 ?_
      refine q_RP_seg (g2 := (91, [(0, .ref 64), (1, .int v1), (2, .int v2), (3, .int v3), (4, .int v4), (5, .int v5), (6, .int v6), (7, .int v7)], [.int v6], (q_kM s c n))) 1 (fun _ _ => rfl) ?_
      cases h1066 : decide (v6 < 0) with
      | true =>
        refine q_RP_cT ?_
        refine q_RP_rsT (g2 := (118, [(0, .ref 64), (1, .int v1), (2, .int v2), (3, .int v3), (4, .int v4), (5, .int v5), (6, .int v6), (7, .int v7)], [], (q_kM s c n))) rfl rfl h1066 ?_
        exact q_RP_xt (q_xt_mk (q_mn1 0 rfl (q_mn1 1 rfl (q_mn1 2 rfl (q_mn1 3 rfl (q_mn1 4 rfl (q_mn1 5 rfl (q_mn1 6 rfl q_mn0))))))) rfl) (dzt_M228_64_118 c n s v1 v2 v3 v4 v5 v6)
      | false =>
        refine q_RP_cF ?_
        refine q_RP_rsF (g2 := (94, [(0, .ref 64), (1, .int v1), (2, .int v2), (3, .int v3), (4, .int v4), (5, .int v5), (6, .int v6), (7, .int v7)], [], (q_kM s c n))) rfl rfl h1066 ?_
        refine q_RP_seg (g2 := (96, [(0, .ref 64), (1, .int v1), (2, .int v2), (3, .int v3), (4, .int v4), (5, .int v5), (6, .int v6), (7, .int v7)], [.int v4], (q_kM s c n))) 1 (fun _ _ => rfl) ?_
        cases h1072 : decide (v4 = 0) with
        | true =>
          refine q_RP_cT ?_
          refine q_RP_rsT (g2 := (114, [(0, .ref 64), (1, .int v1), (2, .int v2), (3, .int v3), (4, .int v4), (5, .int v5), (6, .int v6), (7, .int v7)], [], (q_kM s c n))) rfl rfl h1072 ?_
          exact q_RP_xt (q_xt_mk (q_mn1 0 rfl (q_mn1 1 rfl (q_mn1 2 rfl (q_mn1 3 rfl (q_mn1 4 rfl (q_mn1 5 rfl (q_mn1 6 rfl q_mn0))))))) rfl) (dzt_M228_64_114 c n s v1 v2 v3 v4 v5 v6)
        | false =>
          refine q_RP_cF ?_
          refine q_RP_rsF (g2 := (99, [(0, .ref 64), (1, .int v1), (2, .int v2), (3, .int v3), (4, .int v4), (5, .int v5), (6, .int v6), (7, .int v7)], [], (q_kM s c n))) rfl rfl h1072 ?_
          refine q_RP_seg (g2 := (106, [(0, .ref 64), (1, .int v1), (2, .int v2), (3, .int v3), (4, .int v4), (5, .int v5), (6, .int v6), (7, .int v7)], [.int ((s.1 4) 19)], (q_kM s c n))) 4 (fun _ _ => rfl) ?_
          refine q_RP_seg (g2 := (108, [(0, .ref 64), (1, .int v1), (2, .int v2), (3, .int v3), (4, .int v4), (5, .int v5), (6, .int v6), (7, .int v7)], [.int v6, .int ((s.1 4) 19)], (q_kM s c n))) 1 (fun _ _ => rfl) ?_
          refine q_RP_call (v := (some (.int (q_b (dz_M206 s ((s.1 4) 19) v6))))) (h2 := (q_kM s c n)) rfl rfl ((dzt_M206 s c n ((s.1 4) 19) v6).le (Nat.le_of_ble_eq_true rfl)) ?_
          generalize dz_M206 s ((s.1 4) 19) v6 = r787
          refine q_RP_let ?_
          show q_RP _ _ _ (111, [(0, .ref 64), (1, .int v1), (2, .int v2), (3, .int v3), (4, .int v4), (5, .int v5), (6, .int v6), (7, .int v7)], [.int (q_b r787)], (q_kM s c n)) _ _
          cases h1077 : r787 with
          | true =>
            refine q_RP_cT ?_
            show q_RP _ _ _ (111, [(0, .ref 64), (1, .int v1), (2, .int v2), (3, .int v3), (4, .int v4), (5, .int v5), (6, .int v6), (7, .int v7)], [.int 1], (q_kM s c n)) _ _
            refine q_RP_seg (g2 := (118, [(0, .ref 64), (1, .int v1), (2, .int v2), (3, .int v3), (4, .int v4), (5, .int v5), (6, .int v6), (7, .int v7)], [], (q_kM s c n))) 1 (fun _ _ => rfl) ?_
            exact q_RP_xt (q_xt_mk (q_mn1 0 rfl (q_mn1 1 rfl (q_mn1 2 rfl (q_mn1 3 rfl (q_mn1 4 rfl (q_mn1 5 rfl (q_mn1 6 rfl q_mn0))))))) rfl) (dzt_M228_64_118 c n s v1 v2 v3 v4 v5 v6)
          | false =>
            refine q_RP_cF ?_
            show q_RP _ _ _ (111, [(0, .ref 64), (1, .int v1), (2, .int v2), (3, .int v3), (4, .int v4), (5, .int v5), (6, .int v6), (7, .int v7)], [.int 0], (q_kM s c n)) _ _
            refine q_RP_seg (g2 := (114, [(0, .ref 64), (1, .int v1), (2, .int v2), (3, .int v3), (4, .int v4), (5, .int v5), (6, .int v6), (7, .int v7)], [], (q_kM s c n))) 1 (fun _ _ => rfl) ?_
            exact q_RP_xt (q_xt_mk (q_mn1 0 rfl (q_mn1 1 rfl (q_mn1 2 rfl (q_mn1 3 rfl (q_mn1 4 rfl (q_mn1 5 rfl (q_mn1 6 rfl q_mn0))))))) rfl) (dzt_M228_64_114 c n s v1 v2 v3 v4 v5 v6)
    | false =>
      refine q_RP_cF ?_
      refine q_RP_rsF (g2 := (56, [(0, .ref 64), (1, .int v1), (2, .int v2), (3, .int v3), (4, .int v4), (5, .int v5), (6, .int v6), (7, .int v7)], [], (q_kM s c n))) rfl rfl h1065 ?_
      refine q_RP_seg (g2 := (61, [(0, .ref 64), (1, .int v1), (2, .int v2), (3, .int v3), (4, .int v4), (5, .int v5), (6, .int v6), (7, .int v7)], [.int v2, .int v1, .int v7, .ref 64], (q_kM s c n))) 4 (fun _ _ => rfl) ?_
      refine q_RP_bd fun r788 er788 => ?_
      refine q_RP_call (v := (some (.int (q_b r788)))) (h2 := (q_kM s c n)) rfl rfl ((dzt_M227_64 s c n v7 v1 v2 r788 er788).le (Nat.le_of_ble_eq_true rfl)) ?_
      show q_RP _ _ _ (64, [(0, .ref 64), (1, .int v1), (2, .int v2), (3, .int v3), (4, .int v4), (5, .int v5), (6, .int v6), (7, .int v7)], [.int (q_b r788)], (q_kM s c n)) _ _
      cases h1078 : r788 with
      | true =>
        refine q_RP_cT ?_
        show q_RP _ _ _ (64, [(0, .ref 64), (1, .int v1), (2, .int v2), (3, .int v3), (4, .int v4), (5, .int v5), (6, .int v6), (7, .int v7)], [.int 1], (q_kM s c n)) _ _
        refine q_RP_seg (g2 := (51, [(7, .int (v7 + (-1))), (6, .int v7), (5, .int (v5 ||| ((1 : Int32) <<< (v7 &&& 31)))), (0, .ref 64), (1, .int v1), (2, .int v2), (3, .int v3), (4, .int v4)], [], (q_kM s c n))) 11 (fun _ _ => rfl) ?_
        exact q_RP_xt (q_xt_mk (q_mn1 3 rfl (q_mn1 4 rfl (q_mn1 5 rfl (q_mn1 6 rfl (q_mn1 7 rfl (q_mn1 2 rfl (q_mn1 1 rfl (q_mn1 0 rfl q_mn0)))))))) rfl) (hk51 s v1 v2 v3 v4 (v5 ||| ((1 : Int32) <<< (v7 &&& 31))) v7 (v7 + (-1)))
      | false =>
        refine q_RP_cF ?_
        show q_RP _ _ _ (64, [(0, .ref 64), (1, .int v1), (2, .int v2), (3, .int v3), (4, .int v4), (5, .int v5), (6, .int v6), (7, .int v7)], [.int 0], (q_kM s c n)) _ _
        refine q_RP_seg (g2 := (51, [(7, .int (v7 + (-1))), (0, .ref 64), (1, .int v1), (2, .int v2), (3, .int v3), (4, .int v4), (5, .int v5), (6, .int v6)], [], (q_kM s c n))) 4 (fun _ _ => rfl) ?_
        exact q_RP_xt (q_xt_mk (q_mn1 1 rfl (q_mn1 2 rfl (q_mn1 3 rfl (q_mn1 4 rfl (q_mn1 5 rfl (q_mn1 6 rfl (q_mn1 7 rfl (q_mn1 0 rfl q_mn0)))))))) rfl) (hk51 s v1 v2 v3 v4 v5 v6 (v7 + (-1)))
def dz_M228_64 (s : q_S) (a1 : Int32) (a2 : Int32) : Option (q_S) :=
  (dz_M226_64 s a1 a2).bind fun r784 => cond (decide ((s.1 4) 1 = 2)) (cond (decide (1 < r784)) (dz_M228_64_51 5000 s a1 a2 r784 1 0 (-1) 3) (dz_M228_64_51 5000 s a1 a2 r784 0 0 (-1) 3)) (cond (decide (r784 = 1)) (dz_M228_64_51 5000 s a1 a2 r784 1 0 (-1) 3) (dz_M228_64_51 5000 s a1 a2 r784 0 0 (-1) 3))
set_option maxHeartbeats 4000000 in
theorem dzt_M228_64 (s : q_S) (c n : Nat) (a1 : Int32) (a2 : Int32) (x : q_S) (h : dz_M228_64 s a1 a2 = some x) : q_Ca q_TB0 4 227 [.ref 64, .int a1, .int a2] (q_kM s c n) ((q_oSM c n) x) := by
  refine q_CaP_of (φ := (q_oSM c n)) (Nat.le_of_ble_eq_true rfl) ?_ h
  clear h
  unfold dz_M228_64
  refine q_RP_seg (g2 := (3, [(0, .ref 64), (1, .int a1), (2, .int a2)], [.int a2, .int a1, .ref 64], (q_kM s c n))) 3 (fun _ _ => rfl) ?_
  refine q_RP_bd fun r784 er784 => ?_
  refine q_RP_call (v := (some (.int r784))) (h2 := (q_kM s c n)) rfl rfl ((dzt_M226_64 s c n a1 a2 r784 er784).le (Nat.le_of_ble_eq_true rfl)) ?_
  show q_RP _ _ _ (6, [(0, .ref 64), (1, .int a1), (2, .int a2)], [.int r784], (q_kM s c n)) _ _
  refine q_RP_seg (g2 := (13, [(3, .int r784), (0, .ref 64), (1, .int a1), (2, .int a2)], [.int ((s.1 4) 1)], (q_kM s c n))) 5 (fun _ _ => rfl) ?_
  refine q_RP_seg (g2 := (14, [(3, .int r784), (0, .ref 64), (1, .int a1), (2, .int a2)], [.int 2, .int ((s.1 4) 1)], (q_kM s c n))) 1 (fun _ _ => rfl) ?_
  cases h1063 : decide ((s.1 4) 1 = 2) with
  | true =>
    refine q_RP_cT ?_
    refine q_RP_rsF (g2 := (17, [(3, .int r784), (0, .ref 64), (1, .int a1), (2, .int a2)], [], (q_kM s c n))) rfl rfl (q_d_neT h1063) ?_
    refine q_RP_seg (g2 := (19, [(3, .int r784), (0, .ref 64), (1, .int a1), (2, .int a2)], [.int 1, .int r784], (q_kM s c n))) 2 (fun _ _ => rfl) ?_
    cases h1064 : decide (1 < r784) with
    | true =>
      refine q_RP_cT ?_
      refine q_RP_rsF (g2 := (22, [(3, .int r784), (0, .ref 64), (1, .int a1), (2, .int a2)], [], (q_kM s c n))) rfl rfl (q_d_geT h1064) ?_
      refine q_RP_seg (g2 := (51, [(7, .int 3), (6, .int (-1)), (5, .int 0), (4, .int 1), (3, .int r784), (0, .ref 64), (1, .int a1), (2, .int a2)], [], (q_kM s c n))) 9 (fun _ _ => rfl) ?_
      exact q_RP_xt (q_xt_mk (q_mn1 5 rfl (q_mn1 6 rfl (q_mn1 7 rfl (q_mn1 4 rfl (q_mn1 3 rfl (q_mn1 2 rfl (q_mn1 1 rfl (q_mn1 0 rfl q_mn0)))))))) rfl) (dzt_M228_64_51 c n 5000 s a1 a2 r784 1 0 (-1) 3)
    | false =>
      refine q_RP_cF ?_
      refine q_RP_rsT (g2 := (26, [(3, .int r784), (0, .ref 64), (1, .int a1), (2, .int a2)], [], (q_kM s c n))) rfl rfl (q_d_geF h1064) ?_
      refine q_RP_seg (g2 := (51, [(7, .int 3), (6, .int (-1)), (5, .int 0), (4, .int 0), (3, .int r784), (0, .ref 64), (1, .int a1), (2, .int a2)], [], (q_kM s c n))) 9 (fun _ _ => rfl) ?_
      exact q_RP_xt (q_xt_mk (q_mn1 5 rfl (q_mn1 6 rfl (q_mn1 7 rfl (q_mn1 4 rfl (q_mn1 3 rfl (q_mn1 2 rfl (q_mn1 1 rfl (q_mn1 0 rfl q_mn0)))))))) rfl) (dzt_M228_64_51 c n 5000 s a1 a2 r784 0 0 (-1) 3)
  | false =>
    refine q_RP_cF ?_
    refine q_RP_rsT (g2 := (30, [(3, .int r784), (0, .ref 64), (1, .int a1), (2, .int a2)], [], (q_kM s c n))) rfl rfl (q_d_neF h1063) ?_
    refine q_RP_seg (g2 := (32, [(3, .int r784), (0, .ref 64), (1, .int a1), (2, .int a2)], [.int 1, .int r784], (q_kM s c n))) 2 (fun _ _ => rfl) ?_
    cases h1079 : decide (r784 = 1) with
    | true =>
      refine q_RP_cT ?_
      refine q_RP_rsF (g2 := (35, [(3, .int r784), (0, .ref 64), (1, .int a1), (2, .int a2)], [], (q_kM s c n))) rfl rfl (q_d_neT h1079) ?_
      refine q_RP_seg (g2 := (51, [(7, .int 3), (6, .int (-1)), (5, .int 0), (4, .int 1), (3, .int r784), (0, .ref 64), (1, .int a1), (2, .int a2)], [], (q_kM s c n))) 9 (fun _ _ => rfl) ?_
      exact q_RP_xt (q_xt_mk (q_mn1 5 rfl (q_mn1 6 rfl (q_mn1 7 rfl (q_mn1 4 rfl (q_mn1 3 rfl (q_mn1 2 rfl (q_mn1 1 rfl (q_mn1 0 rfl q_mn0)))))))) rfl) (dzt_M228_64_51 c n 5000 s a1 a2 r784 1 0 (-1) 3)
    | false =>
      refine q_RP_cF ?_
      refine q_RP_rsT (g2 := (39, [(3, .int r784), (0, .ref 64), (1, .int a1), (2, .int a2)], [], (q_kM s c n))) rfl rfl (q_d_neF h1079) ?_
      refine q_RP_seg (g2 := (51, [(7, .int 3), (6, .int (-1)), (5, .int 0), (4, .int 0), (3, .int r784), (0, .ref 64), (1, .int a1), (2, .int a2)], [], (q_kM s c n))) 8 (fun _ _ => rfl) ?_
      exact q_RP_xt (q_xt_mk (q_mn1 5 rfl (q_mn1 6 rfl (q_mn1 7 rfl (q_mn1 4 rfl (q_mn1 3 rfl (q_mn1 2 rfl (q_mn1 1 rfl (q_mn1 0 rfl q_mn0)))))))) rfl) (dzt_M228_64_51 c n 5000 s a1 a2 r784 0 0 (-1) 3)
def dz_M229_64 (s : q_S) (a1 : Int32) : Option (q_S × Bool) :=
  cond (q_in ((5 : Int32) + a1) 24) (cond (decide (0 < (s.1 14) (((5 : Int32) + a1).toNatClampNeg))) (some ((q_sA s 14 (upd (s.1 14) (((5 : Int32) + a1).toNatClampNeg) (((s.1 14) (((5 : Int32) + a1).toNatClampNeg)) - 1))), false)) (cond (q_in ((7 : Int32) + a1) 24) (q_let ((q_sA s 14 (upd (s.1 14) (((5 : Int32) + a1).toNatClampNeg) ((s.1 14) (((7 : Int32) + a1).toNatClampNeg))))) fun r789 => some ((q_sA r789 14 (upd (r789.1 14) 9 (((upd (s.1 14) (((5 : Int32) + a1).toNatClampNeg) ((s.1 14) (((7 : Int32) + a1).toNatClampNeg))) 9) ||| ((2 : Int32) <<< (a1 &&& 31))))), true)) none)) none
set_option maxHeartbeats 4000000 in
theorem dzt_M229_64 (s : q_S) (c n : Nat) (a1 : Int32) (x : q_S × Bool) (h : dz_M229_64 s a1 = some x) : q_Ca q_TB0 1 228 [.ref 64, .int a1] (q_kM s c n) ((q_oJM c n) x) := by
  refine q_CaP_of (φ := (q_oJM c n)) (Nat.le_of_ble_eq_true rfl) ?_ h
  clear h
  unfold dz_M229_64
  refine q_RP_seg (g2 := (7, [(0, .ref 64), (1, .int a1)], [.int ((5 : Int32) + a1), .ref 78], (q_kM s c n))) 5 (fun _ _ => rfl) ?_
  refine q_RP_as fun i1080 => ?_
  refine q_RP_rsT (g2 := (8, [(0, .ref 64), (1, .int a1)], [.int ((s.1 14) (((5 : Int32) + a1).toNatClampNeg))], (q_kM s c n))) rfl rfl i1080 ?_
  cases h1081 : decide (0 < (s.1 14) (((5 : Int32) + a1).toNatClampNeg)) with
  | true =>
    refine q_RP_cT ?_
    refine q_RP_rsF (g2 := (11, [(0, .ref 64), (1, .int a1)], [], (q_kM s c n))) rfl rfl (q_d_geT h1081) ?_
    refine q_RP_seg (g2 := (19, [(0, .ref 64), (1, .int a1)], [.int ((5 : Int32) + a1), .ref 78, .int ((5 : Int32) + a1), .ref 78], (q_kM s c n))) 6 (fun _ _ => rfl) ?_
    refine q_RP_rsT (g2 := (20, [(0, .ref 64), (1, .int a1)], [.int ((s.1 14) (((5 : Int32) + a1).toNatClampNeg)), .int ((5 : Int32) + a1), .ref 78], (q_kM s c n))) rfl rfl i1080 ?_
    refine q_RP_seg (g2 := (22, [(0, .ref 64), (1, .int a1)], [.int (((s.1 14) (((5 : Int32) + a1).toNatClampNeg)) - 1), .int ((5 : Int32) + a1), .ref 78], (q_kM s c n))) 2 (fun _ _ => rfl) ?_
    refine q_RP_rsT (g2 := (23, [(0, .ref 64), (1, .int a1)], [], (q_kM (q_sA s 14 (upd (s.1 14) (((5 : Int32) + a1).toNatClampNeg) (((s.1 14) (((5 : Int32) + a1).toNatClampNeg)) - 1))) c n))) rfl q_wM14 i1080 ?_
    refine q_RP_seg (g2 := (24, [(0, .ref 64), (1, .int a1)], [.int 0], (q_kM (q_sA s 14 (upd (s.1 14) (((5 : Int32) + a1).toNatClampNeg) (((s.1 14) (((5 : Int32) + a1).toNatClampNeg)) - 1))) c n))) 1 (fun _ _ => rfl) ?_
    exact q_RP_ret rfl rfl rfl
  | false =>
    refine q_RP_cF ?_
    refine q_RP_rsT (g2 := (25, [(0, .ref 64), (1, .int a1)], [], (q_kM s c n))) rfl rfl (q_d_geF h1081) ?_
    refine q_RP_seg (g2 := (40, [(0, .ref 64), (1, .int a1)], [.int ((7 : Int32) + a1), .ref 78, .int ((5 : Int32) + a1), .ref 78], (q_kM s c n))) 10 (fun _ _ => rfl) ?_
    refine q_RP_as fun i1082 => ?_
    refine q_RP_rsT (g2 := (41, [(0, .ref 64), (1, .int a1)], [.int ((s.1 14) (((7 : Int32) + a1).toNatClampNeg)), .int ((5 : Int32) + a1), .ref 78], (q_kM s c n))) rfl rfl i1082 ?_
    refine q_RP_rsT (g2 := (42, [(0, .ref 64), (1, .int a1)], [], (q_kM (q_sA s 14 (upd (s.1 14) (((5 : Int32) + a1).toNatClampNeg) ((s.1 14) (((7 : Int32) + a1).toNatClampNeg)))) c n))) rfl q_wM14 i1080 ?_
    refine q_RP_seg (g2 := (50, [(0, .ref 64), (1, .int a1)], [.int ((upd (s.1 14) (((5 : Int32) + a1).toNatClampNeg) ((s.1 14) (((7 : Int32) + a1).toNatClampNeg))) 9), .int 9, .ref 78], (q_kM (q_sA s 14 (upd (s.1 14) (((5 : Int32) + a1).toNatClampNeg) ((s.1 14) (((7 : Int32) + a1).toNatClampNeg)))) c n))) 5 (fun _ _ => rfl) ?_
    refine q_RP_seg (g2 := (54, [(0, .ref 64), (1, .int a1)], [.int (((upd (s.1 14) (((5 : Int32) + a1).toNatClampNeg) ((s.1 14) (((7 : Int32) + a1).toNatClampNeg))) 9) ||| ((2 : Int32) <<< (a1 &&& 31))), .int 9, .ref 78], (q_kM (q_sA s 14 (upd (s.1 14) (((5 : Int32) + a1).toNatClampNeg) ((s.1 14) (((7 : Int32) + a1).toNatClampNeg)))) c n))) 4 (fun _ _ => rfl) ?_
    generalize (q_sA s 14 (upd (s.1 14) (((5 : Int32) + a1).toNatClampNeg) ((s.1 14) (((7 : Int32) + a1).toNatClampNeg)))) = r789
    refine q_RP_let ?_
    show q_RP _ _ _ (54, [(0, .ref 64), (1, .int a1)], [.int (((upd (s.1 14) (((5 : Int32) + a1).toNatClampNeg) ((s.1 14) (((7 : Int32) + a1).toNatClampNeg))) 9) ||| ((2 : Int32) <<< (a1 &&& 31))), .int 9, .ref 78], (q_kM r789 c n)) _ _
    refine q_RP_seg (g2 := (56, [(0, .ref 64), (1, .int a1)], [.int 1], (q_kM (q_sA r789 14 (upd (r789.1 14) 9 (((upd (s.1 14) (((5 : Int32) + a1).toNatClampNeg) ((s.1 14) (((7 : Int32) + a1).toNatClampNeg))) 9) ||| ((2 : Int32) <<< (a1 &&& 31))))) c n))) 2 (fun _ _ => rfl) ?_
    exact q_RP_ret rfl rfl rfl
def dz_M230_64 (s : q_S) : Option (q_S) :=
  q_let (dz_M206 s ((s.1 4) 16) 0) fun r792 => cond r792 ((dz_M229_64 s 0).bind fun r793 => cond r793.2 (q_let (dz_M206 (q_sI r793.1 0 38 1) ((r793.1.1 4) 16) 1) fun r794 => cond r794 ((dz_M229_64 (q_sI r793.1 0 38 1) 1).bind fun r795 => cond r795.2 (some r795.1) (some r795.1)) (some (q_sI r793.1 0 38 1))) (q_let (dz_M206 (q_sI r793.1 0 38 0) ((r793.1.1 4) 16) 1) fun r796 => cond r796 (q_let (dz_M206 (q_sI r793.1 0 38 0) ((r793.1.1 4) 16) 2) fun r797 => cond r797 (some (q_sI r793.1 0 38 0)) ((dz_M229_64 (q_sI r793.1 0 38 0) 1).bind fun r798 => cond r798.2 (some r798.1) (some r798.1))) (some (q_sI r793.1 0 38 0)))) (q_let (dz_M206 (q_sI s 0 38 0) ((s.1 4) 16) 1) fun r799 => cond r799 (q_let (dz_M206 (q_sI s 0 38 0) ((s.1 4) 16) 2) fun r800 => cond r800 (some (q_sI s 0 38 0)) ((dz_M229_64 (q_sI s 0 38 0) 1).bind fun r801 => cond r801.2 (some r801.1) (some r801.1))) (some (q_sI s 0 38 0)))
set_option maxHeartbeats 4000000 in
theorem dzt_M230_64 (s : q_S) (c n : Nat) (x : q_S) (h : dz_M230_64 s = some x) : q_Ca q_TB0 2 229 [.ref 64] (q_kM s c n) ((q_oSM c n) x) := by
  refine q_CaP_of (φ := (q_oSM c n)) (Nat.le_of_ble_eq_true rfl) ?_ h
  clear h
  unfold dz_M230_64
  refine q_RP_seg (g2 := (8, [(0, .ref 64)], [.int ((s.1 4) 16), .ref 64], (q_kM s c n))) 5 (fun _ _ => rfl) ?_
  refine q_RP_seg (g2 := (9, [(0, .ref 64)], [.int 0, .int ((s.1 4) 16), .ref 64], (q_kM s c n))) 1 (fun _ _ => rfl) ?_
  refine q_RP_call (v := (some (.int (q_b (dz_M206 s ((s.1 4) 16) 0))))) (h2 := (q_kM s c n)) rfl rfl ((dzt_M206 s c n ((s.1 4) 16) 0).le (Nat.le_of_ble_eq_true rfl)) ?_
  generalize dz_M206 s ((s.1 4) 16) 0 = r792
  refine q_RP_let ?_
  show q_RP _ _ _ (12, [(0, .ref 64)], [.int (q_b r792), .ref 64], (q_kM s c n)) _ _
  cases h1084 : r792 with
  | true =>
    refine q_RP_cT ?_
    show q_RP _ _ _ (12, [(0, .ref 64)], [.int 1, .ref 64], (q_kM s c n)) _ _
    refine q_RP_seg (g2 := (17, [(0, .ref 64)], [.int 0, .ref 64, .ref 64], (q_kM s c n))) 3 (fun _ _ => rfl) ?_
    refine q_RP_bd fun r793 er793 => ?_
    refine q_RP_call (v := (some (.int (q_b r793.2)))) (h2 := (q_kM r793.1 c n)) rfl rfl ((dzt_M229_64 s c n 0 r793 er793).le (Nat.le_of_ble_eq_true rfl)) ?_
    show q_RP _ _ _ (20, [(0, .ref 64)], [.int (q_b r793.2), .ref 64], (q_kM r793.1 c n)) _ _
    cases h1085 : r793.2 with
    | true =>
      refine q_RP_cT ?_
      show q_RP _ _ _ (20, [(0, .ref 64)], [.int 1, .ref 64], (q_kM r793.1 c n)) _ _
      refine q_RP_seg (g2 := (38, [(0, .ref 64)], [.int ((r793.1.1 4) 16)], (q_kM (q_sI r793.1 0 38 1) c n))) 8 (fun _ _ => rfl) ?_
      refine q_RP_seg (g2 := (39, [(0, .ref 64)], [.int 1, .int ((r793.1.1 4) 16)], (q_kM (q_sI r793.1 0 38 1) c n))) 1 (fun _ _ => rfl) ?_
      refine q_RP_call (v := (some (.int (q_b (dz_M206 (q_sI r793.1 0 38 1) ((r793.1.1 4) 16) 1))))) (h2 := (q_kM (q_sI r793.1 0 38 1) c n)) rfl rfl ((dzt_M206 (q_sI r793.1 0 38 1) c n ((r793.1.1 4) 16) 1).le (Nat.le_of_ble_eq_true rfl)) ?_
      generalize dz_M206 (q_sI r793.1 0 38 1) ((r793.1.1 4) 16) 1 = r794
      refine q_RP_let ?_
      show q_RP _ _ _ (42, [(0, .ref 64)], [.int (q_b r794)], (q_kM (q_sI r793.1 0 38 1) c n)) _ _
      cases h1086 : r794 with
      | true =>
        refine q_RP_cT ?_
        show q_RP _ _ _ (42, [(0, .ref 64)], [.int 1], (q_kM (q_sI r793.1 0 38 1) c n)) _ _
        refine q_RP_seg (g2 := (49, [(0, .ref 64)], [.int 1], (q_kM (q_sI r793.1 0 38 1) c n))) 3 (fun _ _ => rfl) ?_
        refine q_RP_seg (g2 := (68, [(0, .ref 64)], [.int 1, .ref 64], (q_kM (q_sI r793.1 0 38 1) c n))) 3 (fun _ _ => rfl) ?_
        refine q_RP_bd fun r795 er795 => ?_
        refine q_RP_call (v := (some (.int (q_b r795.2)))) (h2 := (q_kM r795.1 c n)) rfl rfl ((dzt_M229_64 (q_sI r793.1 0 38 1) c n 1 r795 er795).le (Nat.le_of_ble_eq_true rfl)) ?_
        show q_RP _ _ _ (71, [(0, .ref 64)], [.int (q_b r795.2)], (q_kM r795.1 c n)) _ _
        cases h1087 : r795.2 with
        | true =>
          refine q_RP_cT ?_
          show q_RP _ _ _ (71, [(0, .ref 64)], [.int 1], (q_kM r795.1 c n)) _ _
          refine q_RP_seg (g2 := (72, [(0, .ref 64)], [], (q_kM r795.1 c n))) 1 (fun _ _ => rfl) ?_
          exact q_RP_ret rfl rfl rfl
        | false =>
          refine q_RP_cF ?_
          show q_RP _ _ _ (71, [(0, .ref 64)], [.int 0], (q_kM r795.1 c n)) _ _
          refine q_RP_seg (g2 := (72, [(0, .ref 64)], [], (q_kM r795.1 c n))) 1 (fun _ _ => rfl) ?_
          exact q_RP_ret rfl rfl rfl
      | false =>
        refine q_RP_cF ?_
        show q_RP _ _ _ (42, [(0, .ref 64)], [.int 0], (q_kM (q_sI r793.1 0 38 1) c n)) _ _
        refine q_RP_seg (g2 := (72, [(0, .ref 64)], [], (q_kM (q_sI r793.1 0 38 1) c n))) 1 (fun _ _ => rfl) ?_
        exact q_RP_ret rfl rfl rfl
    | false =>
      refine q_RP_cF ?_
      show q_RP _ _ _ (20, [(0, .ref 64)], [.int 0, .ref 64], (q_kM r793.1 c n)) _ _
      refine q_RP_seg (g2 := (38, [(0, .ref 64)], [.int ((r793.1.1 4) 16)], (q_kM (q_sI r793.1 0 38 0) c n))) 7 (fun _ _ => rfl) ?_
      refine q_RP_seg (g2 := (39, [(0, .ref 64)], [.int 1, .int ((r793.1.1 4) 16)], (q_kM (q_sI r793.1 0 38 0) c n))) 1 (fun _ _ => rfl) ?_
      refine q_RP_call (v := (some (.int (q_b (dz_M206 (q_sI r793.1 0 38 0) ((r793.1.1 4) 16) 1))))) (h2 := (q_kM (q_sI r793.1 0 38 0) c n)) rfl rfl ((dzt_M206 (q_sI r793.1 0 38 0) c n ((r793.1.1 4) 16) 1).le (Nat.le_of_ble_eq_true rfl)) ?_
      generalize dz_M206 (q_sI r793.1 0 38 0) ((r793.1.1 4) 16) 1 = r796
      refine q_RP_let ?_
      show q_RP _ _ _ (42, [(0, .ref 64)], [.int (q_b r796)], (q_kM (q_sI r793.1 0 38 0) c n)) _ _
      cases h1088 : r796 with
      | true =>
        refine q_RP_cT ?_
        show q_RP _ _ _ (42, [(0, .ref 64)], [.int 1], (q_kM (q_sI r793.1 0 38 0) c n)) _ _
        refine q_RP_seg (g2 := (49, [(0, .ref 64)], [.int 0], (q_kM (q_sI r793.1 0 38 0) c n))) 3 (fun _ _ => rfl) ?_
        refine q_RP_seg (g2 := (59, [(0, .ref 64)], [.int ((r793.1.1 4) 16)], (q_kM (q_sI r793.1 0 38 0) c n))) 5 (fun _ _ => rfl) ?_
        refine q_RP_seg (g2 := (60, [(0, .ref 64)], [.int 2, .int ((r793.1.1 4) 16)], (q_kM (q_sI r793.1 0 38 0) c n))) 1 (fun _ _ => rfl) ?_
        refine q_RP_call (v := (some (.int (q_b (dz_M206 (q_sI r793.1 0 38 0) ((r793.1.1 4) 16) 2))))) (h2 := (q_kM (q_sI r793.1 0 38 0) c n)) rfl rfl ((dzt_M206 (q_sI r793.1 0 38 0) c n ((r793.1.1 4) 16) 2).le (Nat.le_of_ble_eq_true rfl)) ?_
        generalize dz_M206 (q_sI r793.1 0 38 0) ((r793.1.1 4) 16) 2 = r797
        refine q_RP_let ?_
        show q_RP _ _ _ (63, [(0, .ref 64)], [.int (q_b r797)], (q_kM (q_sI r793.1 0 38 0) c n)) _ _
        cases h1089 : r797 with
        | true =>
          refine q_RP_cT ?_
          show q_RP _ _ _ (63, [(0, .ref 64)], [.int 1], (q_kM (q_sI r793.1 0 38 0) c n)) _ _
          refine q_RP_seg (g2 := (72, [(0, .ref 64)], [], (q_kM (q_sI r793.1 0 38 0) c n))) 1 (fun _ _ => rfl) ?_
          exact q_RP_ret rfl rfl rfl
        | false =>
          refine q_RP_cF ?_
          show q_RP _ _ _ (63, [(0, .ref 64)], [.int 0], (q_kM (q_sI r793.1 0 38 0) c n)) _ _
          refine q_RP_seg (g2 := (68, [(0, .ref 64)], [.int 1, .ref 64], (q_kM (q_sI r793.1 0 38 0) c n))) 3 (fun _ _ => rfl) ?_
          refine q_RP_bd fun r798 er798 => ?_
          refine q_RP_call (v := (some (.int (q_b r798.2)))) (h2 := (q_kM r798.1 c n)) rfl rfl ((dzt_M229_64 (q_sI r793.1 0 38 0) c n 1 r798 er798).le (Nat.le_of_ble_eq_true rfl)) ?_
          show q_RP _ _ _ (71, [(0, .ref 64)], [.int (q_b r798.2)], (q_kM r798.1 c n)) _ _
          cases h1090 : r798.2 with
          | true =>
            refine q_RP_cT ?_
            show q_RP _ _ _ (71, [(0, .ref 64)], [.int 1], (q_kM r798.1 c n)) _ _
            refine q_RP_seg (g2 := (72, [(0, .ref 64)], [], (q_kM r798.1 c n))) 1 (fun _ _ => rfl) ?_
            exact q_RP_ret rfl rfl rfl
          | false =>
            refine q_RP_cF ?_
            show q_RP _ _ _ (71, [(0, .ref 64)], [.int 0], (q_kM r798.1 c n)) _ _
            refine q_RP_seg (g2 := (72, [(0, .ref 64)], [], (q_kM r798.1 c n))) 1 (fun _ _ => rfl) ?_
            exact q_RP_ret rfl rfl rfl
      | false =>
        refine q_RP_cF ?_
        show q_RP _ _ _ (42, [(0, .ref 64)], [.int 0], (q_kM (q_sI r793.1 0 38 0) c n)) _ _
        refine q_RP_seg (g2 := (72, [(0, .ref 64)], [], (q_kM (q_sI r793.1 0 38 0) c n))) 1 (fun _ _ => rfl) ?_
        exact q_RP_ret rfl rfl rfl
  | false =>
    refine q_RP_cF ?_
    show q_RP _ _ _ (12, [(0, .ref 64)], [.int 0, .ref 64], (q_kM s c n)) _ _
    refine q_RP_seg (g2 := (38, [(0, .ref 64)], [.int ((s.1 4) 16)], (q_kM (q_sI s 0 38 0) c n))) 7 (fun _ _ => rfl) ?_
    refine q_RP_seg (g2 := (39, [(0, .ref 64)], [.int 1, .int ((s.1 4) 16)], (q_kM (q_sI s 0 38 0) c n))) 1 (fun _ _ => rfl) ?_
    refine q_RP_call (v := (some (.int (q_b (dz_M206 (q_sI s 0 38 0) ((s.1 4) 16) 1))))) (h2 := (q_kM (q_sI s 0 38 0) c n)) rfl rfl ((dzt_M206 (q_sI s 0 38 0) c n ((s.1 4) 16) 1).le (Nat.le_of_ble_eq_true rfl)) ?_
    generalize dz_M206 (q_sI s 0 38 0) ((s.1 4) 16) 1 = r799
    refine q_RP_let ?_
    show q_RP _ _ _ (42, [(0, .ref 64)], [.int (q_b r799)], (q_kM (q_sI s 0 38 0) c n)) _ _
    cases h1091 : r799 with
    | true =>
      refine q_RP_cT ?_
      show q_RP _ _ _ (42, [(0, .ref 64)], [.int 1], (q_kM (q_sI s 0 38 0) c n)) _ _
      refine q_RP_seg (g2 := (49, [(0, .ref 64)], [.int 0], (q_kM (q_sI s 0 38 0) c n))) 3 (fun _ _ => rfl) ?_
      refine q_RP_seg (g2 := (59, [(0, .ref 64)], [.int ((s.1 4) 16)], (q_kM (q_sI s 0 38 0) c n))) 5 (fun _ _ => rfl) ?_
      refine q_RP_seg (g2 := (60, [(0, .ref 64)], [.int 2, .int ((s.1 4) 16)], (q_kM (q_sI s 0 38 0) c n))) 1 (fun _ _ => rfl) ?_
      refine q_RP_call (v := (some (.int (q_b (dz_M206 (q_sI s 0 38 0) ((s.1 4) 16) 2))))) (h2 := (q_kM (q_sI s 0 38 0) c n)) rfl rfl ((dzt_M206 (q_sI s 0 38 0) c n ((s.1 4) 16) 2).le (Nat.le_of_ble_eq_true rfl)) ?_
      generalize dz_M206 (q_sI s 0 38 0) ((s.1 4) 16) 2 = r800
      refine q_RP_let ?_
      show q_RP _ _ _ (63, [(0, .ref 64)], [.int (q_b r800)], (q_kM (q_sI s 0 38 0) c n)) _ _
      cases h1092 : r800 with
      | true =>
        refine q_RP_cT ?_
        show q_RP _ _ _ (63, [(0, .ref 64)], [.int 1], (q_kM (q_sI s 0 38 0) c n)) _ _
        refine q_RP_seg (g2 := (72, [(0, .ref 64)], [], (q_kM (q_sI s 0 38 0) c n))) 1 (fun _ _ => rfl) ?_
        exact q_RP_ret rfl rfl rfl
      | false =>
        refine q_RP_cF ?_
        show q_RP _ _ _ (63, [(0, .ref 64)], [.int 0], (q_kM (q_sI s 0 38 0) c n)) _ _
        refine q_RP_seg (g2 := (68, [(0, .ref 64)], [.int 1, .ref 64], (q_kM (q_sI s 0 38 0) c n))) 3 (fun _ _ => rfl) ?_
        refine q_RP_bd fun r801 er801 => ?_
        refine q_RP_call (v := (some (.int (q_b r801.2)))) (h2 := (q_kM r801.1 c n)) rfl rfl ((dzt_M229_64 (q_sI s 0 38 0) c n 1 r801 er801).le (Nat.le_of_ble_eq_true rfl)) ?_
        show q_RP _ _ _ (71, [(0, .ref 64)], [.int (q_b r801.2)], (q_kM r801.1 c n)) _ _
        cases h1093 : r801.2 with
        | true =>
          refine q_RP_cT ?_
          show q_RP _ _ _ (71, [(0, .ref 64)], [.int 1], (q_kM r801.1 c n)) _ _
          refine q_RP_seg (g2 := (72, [(0, .ref 64)], [], (q_kM r801.1 c n))) 1 (fun _ _ => rfl) ?_
          exact q_RP_ret rfl rfl rfl
        | false =>
          refine q_RP_cF ?_
          show q_RP _ _ _ (71, [(0, .ref 64)], [.int 0], (q_kM r801.1 c n)) _ _
          refine q_RP_seg (g2 := (72, [(0, .ref 64)], [], (q_kM r801.1 c n))) 1 (fun _ _ => rfl) ?_
          exact q_RP_ret rfl rfl rfl
    | false =>
      refine q_RP_cF ?_
      show q_RP _ _ _ (42, [(0, .ref 64)], [.int 0], (q_kM (q_sI s 0 38 0) c n)) _ _
      refine q_RP_seg (g2 := (72, [(0, .ref 64)], [], (q_kM (q_sI s 0 38 0) c n))) 1 (fun _ _ => rfl) ?_
      exact q_RP_ret rfl rfl rfl
def dz_M231_64 (s : q_S) : Option (q_S) :=
  cond (decide ((s.1 4) 44 = 0)) (some s) (q_let (dz_M209_64 s) fun r807 => cond r807 (cond (decide (0 < (upd (s.1 14) 15 (((s.1 14) 15) - 1)) 15)) (some (q_sA s 14 (upd (s.1 14) 15 (((s.1 14) 15) - 1)))) (q_let ((q_sA s 14 (upd (s.1 14) 15 (((s.1 14) 15) - 1)))) fun r808 => q_let ((q_sA r808 14 (upd (r808.1 14) 14 (((upd (s.1 14) 15 (((s.1 14) 15) - 1)) 14) + 1)))) fun r809 => q_let ((q_sA r809 14 (upd (r809.1 14) 16 ((1 : Int32) - ((upd (r808.1 14) 14 (((upd (s.1 14) 15 (((s.1 14) 15) - 1)) 14) + 1)) 16))))) fun r810 => q_let (dz_M209_64 (q_sA r810 14 (upd (r810.1 14) 9 (((upd (r809.1 14) 16 ((1 : Int32) - ((upd (r808.1 14) 14 (((upd (s.1 14) 15 (((s.1 14) 15) - 1)) 14) + 1)) 16))) 9) ||| 8)))) fun r811 => cond r811 (cond (q_in ((upd (r810.1 14) 9 (((upd (r809.1 14) 16 ((1 : Int32) - ((upd (r808.1 14) 14 (((upd (s.1 14) 15 (((s.1 14) 15) - 1)) 14) + 1)) 16))) 9) ||| 8)) 14) 40) (q_let ((q_sA r810 14 (upd (r810.1 14) 9 (((upd (r809.1 14) 16 ((1 : Int32) - ((upd (r808.1 14) 14 (((upd (s.1 14) 15 (((s.1 14) 15) - 1)) 14) + 1)) 16))) 9) ||| 8)))) fun r812 => some (q_sA r812 14 (upd (r812.1 14) 15 ((r810.1 8) (((upd (r810.1 14) 9 (((upd (r809.1 14) 16 ((1 : Int32) - ((upd (r808.1 14) 14 (((upd (s.1 14) 15 (((s.1 14) 15) - 1)) 14) + 1)) 16))) 9) ||| 8)) 14).toNatClampNeg))))) none) (q_let ((q_sA r810 14 (upd (r810.1 14) 9 (((upd (r809.1 14) 16 ((1 : Int32) - ((upd (r808.1 14) 14 (((upd (s.1 14) 15 (((s.1 14) 15) - 1)) 14) + 1)) 16))) 9) ||| 8)))) fun r813 => some (q_sA r813 14 (upd (r813.1 14) 15 0))))) (some s))
set_option maxHeartbeats 4000000 in
theorem dzt_M231_64 (s : q_S) (c n : Nat) (x : q_S) (h : dz_M231_64 s = some x) : q_Ca q_TB0 2 230 [.ref 64] (q_kM s c n) ((q_oSM c n) x) := by
  refine q_CaP_of (φ := (q_oSM c n)) (Nat.le_of_ble_eq_true rfl) ?_ h
  clear h
  unfold dz_M231_64
  refine q_RP_seg (g2 := (7, [(0, .ref 64)], [.int ((s.1 4) 44)], (q_kM s c n))) 4 (fun _ _ => rfl) ?_
  cases h1098 : decide ((s.1 4) 44 = 0) with
  | true =>
    refine q_RP_cT ?_
    refine q_RP_rsT (g2 := (17, [(0, .ref 64)], [], (q_kM s c n))) rfl rfl h1098 ?_
    exact q_RP_ret rfl rfl rfl
  | false =>
    refine q_RP_cF ?_
    refine q_RP_rsF (g2 := (10, [(0, .ref 64)], [], (q_kM s c n))) rfl rfl h1098 ?_
    refine q_RP_seg (g2 := (11, [(0, .ref 64)], [.ref 64], (q_kM s c n))) 1 (fun _ _ => rfl) ?_
    refine q_RP_call (v := (some (.int (q_b (dz_M209_64 s))))) (h2 := (q_kM s c n)) rfl rfl ((dzt_M209_64 s c n).le (Nat.le_of_ble_eq_true rfl)) ?_
    generalize dz_M209_64 s = r807
    refine q_RP_let ?_
    show q_RP _ _ _ (14, [(0, .ref 64)], [.int (q_b r807)], (q_kM s c n)) _ _
    cases h1099 : r807 with
    | true =>
      refine q_RP_cT ?_
      show q_RP _ _ _ (14, [(0, .ref 64)], [.int 1], (q_kM s c n)) _ _
      refine q_RP_seg (g2 := (26, [(0, .ref 64)], [.int ((s.1 14) 15), .int 15, .ref 78], (q_kM s c n))) 6 (fun _ _ => rfl) ?_
      refine q_RP_seg (g2 := (36, [(0, .ref 64)], [.int ((upd (s.1 14) 15 (((s.1 14) 15) - 1)) 15)], (q_kM (q_sA s 14 (upd (s.1 14) 15 (((s.1 14) 15) - 1))) c n))) 7 (fun _ _ => rfl) ?_
      cases h1100 : decide (0 < (upd (s.1 14) 15 (((s.1 14) 15) - 1)) 15) with
      | true =>
        refine q_RP_cT ?_
        refine q_RP_rsF (g2 := (39, [(0, .ref 64)], [], (q_kM (q_sA s 14 (upd (s.1 14) 15 (((s.1 14) 15) - 1))) c n))) rfl rfl (q_d_geT h1100) ?_
        exact q_RP_ret rfl rfl rfl
      | false =>
        refine q_RP_cF ?_
        refine q_RP_rsT (g2 := (40, [(0, .ref 64)], [], (q_kM (q_sA s 14 (upd (s.1 14) 15 (((s.1 14) 15) - 1))) c n))) rfl rfl (q_d_geF h1100) ?_
        refine q_RP_seg (g2 := (48, [(0, .ref 64)], [.int ((upd (s.1 14) 15 (((s.1 14) 15) - 1)) 14), .int 14, .ref 78], (q_kM (q_sA s 14 (upd (s.1 14) 15 (((s.1 14) 15) - 1))) c n))) 5 (fun _ _ => rfl) ?_
        refine q_RP_seg (g2 := (50, [(0, .ref 64)], [.int (((upd (s.1 14) 15 (((s.1 14) 15) - 1)) 14) + 1), .int 14, .ref 78], (q_kM (q_sA s 14 (upd (s.1 14) 15 (((s.1 14) 15) - 1))) c n))) 2 (fun _ _ => rfl) ?_
        generalize (q_sA s 14 (upd (s.1 14) 15 (((s.1 14) 15) - 1))) = r808
        refine q_RP_let ?_
        show q_RP _ _ _ (50, [(0, .ref 64)], [.int (((upd (s.1 14) 15 (((s.1 14) 15) - 1)) 14) + 1), .int 14, .ref 78], (q_kM r808 c n)) _ _
        refine q_RP_seg (g2 := (65, [(0, .ref 64)], [.int ((upd (r808.1 14) 14 (((upd (s.1 14) 15 (((s.1 14) 15) - 1)) 14) + 1)) 16), .int 1, .int 16, .ref 78], (q_kM (q_sA r808 14 (upd (r808.1 14) 14 (((upd (s.1 14) 15 (((s.1 14) 15) - 1)) 14) + 1))) c n))) 9 (fun _ _ => rfl) ?_
        refine q_RP_seg (g2 := (66, [(0, .ref 64)], [.int ((1 : Int32) - ((upd (r808.1 14) 14 (((upd (s.1 14) 15 (((s.1 14) 15) - 1)) 14) + 1)) 16)), .int 16, .ref 78], (q_kM (q_sA r808 14 (upd (r808.1 14) 14 (((upd (s.1 14) 15 (((s.1 14) 15) - 1)) 14) + 1))) c n))) 1 (fun _ _ => rfl) ?_
        generalize (q_sA r808 14 (upd (r808.1 14) 14 (((upd (s.1 14) 15 (((s.1 14) 15) - 1)) 14) + 1))) = r809
        refine q_RP_let ?_
        show q_RP _ _ _ (66, [(0, .ref 64)], [.int ((1 : Int32) - ((upd (r808.1 14) 14 (((upd (s.1 14) 15 (((s.1 14) 15) - 1)) 14) + 1)) 16)), .int 16, .ref 78], (q_kM r809 c n)) _ _
        refine q_RP_seg (g2 := (75, [(0, .ref 64)], [.int ((upd (r809.1 14) 16 ((1 : Int32) - ((upd (r808.1 14) 14 (((upd (s.1 14) 15 (((s.1 14) 15) - 1)) 14) + 1)) 16))) 9), .int 9, .ref 78], (q_kM (q_sA r809 14 (upd (r809.1 14) 16 ((1 : Int32) - ((upd (r808.1 14) 14 (((upd (s.1 14) 15 (((s.1 14) 15) - 1)) 14) + 1)) 16)))) c n))) 6 (fun _ _ => rfl) ?_
        refine q_RP_seg (g2 := (78, [(0, .ref 64)], [.int (((upd (r809.1 14) 16 ((1 : Int32) - ((upd (r808.1 14) 14 (((upd (s.1 14) 15 (((s.1 14) 15) - 1)) 14) + 1)) 16))) 9) ||| 8), .int 9, .ref 78], (q_kM (q_sA r809 14 (upd (r809.1 14) 16 ((1 : Int32) - ((upd (r808.1 14) 14 (((upd (s.1 14) 15 (((s.1 14) 15) - 1)) 14) + 1)) 16)))) c n))) 2 (fun _ _ => rfl) ?_
        generalize (q_sA r809 14 (upd (r809.1 14) 16 ((1 : Int32) - ((upd (r808.1 14) 14 (((upd (s.1 14) 15 (((s.1 14) 15) - 1)) 14) + 1)) 16)))) = r810
        refine q_RP_let ?_
        show q_RP _ _ _ (78, [(0, .ref 64)], [.int (((upd (r809.1 14) 16 ((1 : Int32) - ((upd (r808.1 14) 14 (((upd (s.1 14) 15 (((s.1 14) 15) - 1)) 14) + 1)) 16))) 9) ||| 8), .int 9, .ref 78], (q_kM r810 c n)) _ _
        refine q_RP_seg (g2 := (86, [(0, .ref 64)], [.ref 64, .int 15, .ref 78], (q_kM (q_sA r810 14 (upd (r810.1 14) 9 (((upd (r809.1 14) 16 ((1 : Int32) - ((upd (r808.1 14) 14 (((upd (s.1 14) 15 (((s.1 14) 15) - 1)) 14) + 1)) 16))) 9) ||| 8))) c n))) 5 (fun _ _ => rfl) ?_
        refine q_RP_call (v := (some (.int (q_b (dz_M209_64 (q_sA r810 14 (upd (r810.1 14) 9 (((upd (r809.1 14) 16 ((1 : Int32) - ((upd (r808.1 14) 14 (((upd (s.1 14) 15 (((s.1 14) 15) - 1)) 14) + 1)) 16))) 9) ||| 8)))))))) (h2 := (q_kM (q_sA r810 14 (upd (r810.1 14) 9 (((upd (r809.1 14) 16 ((1 : Int32) - ((upd (r808.1 14) 14 (((upd (s.1 14) 15 (((s.1 14) 15) - 1)) 14) + 1)) 16))) 9) ||| 8))) c n)) rfl rfl ((dzt_M209_64 (q_sA r810 14 (upd (r810.1 14) 9 (((upd (r809.1 14) 16 ((1 : Int32) - ((upd (r808.1 14) 14 (((upd (s.1 14) 15 (((s.1 14) 15) - 1)) 14) + 1)) 16))) 9) ||| 8))) c n).le (Nat.le_of_ble_eq_true rfl)) ?_
        generalize dz_M209_64 (q_sA r810 14 (upd (r810.1 14) 9 (((upd (r809.1 14) 16 ((1 : Int32) - ((upd (r808.1 14) 14 (((upd (s.1 14) 15 (((s.1 14) 15) - 1)) 14) + 1)) 16))) 9) ||| 8))) = r811
        refine q_RP_let ?_
        show q_RP _ _ _ (89, [(0, .ref 64)], [.int (q_b r811), .int 15, .ref 78], (q_kM (q_sA r810 14 (upd (r810.1 14) 9 (((upd (r809.1 14) 16 ((1 : Int32) - ((upd (r808.1 14) 14 (((upd (s.1 14) 15 (((s.1 14) 15) - 1)) 14) + 1)) 16))) 9) ||| 8))) c n)) _ _
        cases h1101 : r811 with
        | true =>
          refine q_RP_cT ?_
          show q_RP _ _ _ (89, [(0, .ref 64)], [.int 1, .int 15, .ref 78], (q_kM (q_sA r810 14 (upd (r810.1 14) 9 (((upd (r809.1 14) 16 ((1 : Int32) - ((upd (r808.1 14) 14 (((upd (s.1 14) 15 (((s.1 14) 15) - 1)) 14) + 1)) 16))) 9) ||| 8))) c n)) _ _
          refine q_RP_seg (g2 := (103, [(0, .ref 64)], [.int ((upd (r810.1 14) 9 (((upd (r809.1 14) 16 ((1 : Int32) - ((upd (r808.1 14) 14 (((upd (s.1 14) 15 (((s.1 14) 15) - 1)) 14) + 1)) 16))) 9) ||| 8)) 14), .ref 72, .int 15, .ref 78], (q_kM (q_sA r810 14 (upd (r810.1 14) 9 (((upd (r809.1 14) 16 ((1 : Int32) - ((upd (r808.1 14) 14 (((upd (s.1 14) 15 (((s.1 14) 15) - 1)) 14) + 1)) 16))) 9) ||| 8))) c n))) 7 (fun _ _ => rfl) ?_
          refine q_RP_as fun i1102 => ?_
          refine q_RP_rsT (g2 := (104, [(0, .ref 64)], [.int ((r810.1 8) (((upd (r810.1 14) 9 (((upd (r809.1 14) 16 ((1 : Int32) - ((upd (r808.1 14) 14 (((upd (s.1 14) 15 (((s.1 14) 15) - 1)) 14) + 1)) 16))) 9) ||| 8)) 14).toNatClampNeg)), .int 15, .ref 78], (q_kM (q_sA r810 14 (upd (r810.1 14) 9 (((upd (r809.1 14) 16 ((1 : Int32) - ((upd (r808.1 14) 14 (((upd (s.1 14) 15 (((s.1 14) 15) - 1)) 14) + 1)) 16))) 9) ||| 8))) c n))) rfl rfl i1102 ?_
          refine q_RP_seg (g2 := (108, [(0, .ref 64)], [.int ((r810.1 8) (((upd (r810.1 14) 9 (((upd (r809.1 14) 16 ((1 : Int32) - ((upd (r808.1 14) 14 (((upd (s.1 14) 15 (((s.1 14) 15) - 1)) 14) + 1)) 16))) 9) ||| 8)) 14).toNatClampNeg)), .int 15, .ref 78], (q_kM (q_sA r810 14 (upd (r810.1 14) 9 (((upd (r809.1 14) 16 ((1 : Int32) - ((upd (r808.1 14) 14 (((upd (s.1 14) 15 (((s.1 14) 15) - 1)) 14) + 1)) 16))) 9) ||| 8))) c n))) 1 (fun _ _ => rfl) ?_
          generalize (q_sA r810 14 (upd (r810.1 14) 9 (((upd (r809.1 14) 16 ((1 : Int32) - ((upd (r808.1 14) 14 (((upd (s.1 14) 15 (((s.1 14) 15) - 1)) 14) + 1)) 16))) 9) ||| 8))) = r812
          refine q_RP_let ?_
          show q_RP _ _ _ (108, [(0, .ref 64)], [.int ((r810.1 8) (((upd (r810.1 14) 9 (((upd (r809.1 14) 16 ((1 : Int32) - ((upd (r808.1 14) 14 (((upd (s.1 14) 15 (((s.1 14) 15) - 1)) 14) + 1)) 16))) 9) ||| 8)) 14).toNatClampNeg)), .int 15, .ref 78], (q_kM r812 c n)) _ _
          refine q_RP_seg (g2 := (109, [(0, .ref 64)], [], (q_kM (q_sA r812 14 (upd (r812.1 14) 15 ((r810.1 8) (((upd (r810.1 14) 9 (((upd (r809.1 14) 16 ((1 : Int32) - ((upd (r808.1 14) 14 (((upd (s.1 14) 15 (((s.1 14) 15) - 1)) 14) + 1)) 16))) 9) ||| 8)) 14).toNatClampNeg)))) c n))) 1 (fun _ _ => rfl) ?_
          exact q_RP_ret rfl rfl rfl
        | false =>
          refine q_RP_cF ?_
          show q_RP _ _ _ (89, [(0, .ref 64)], [.int 0, .int 15, .ref 78], (q_kM (q_sA r810 14 (upd (r810.1 14) 9 (((upd (r809.1 14) 16 ((1 : Int32) - ((upd (r808.1 14) 14 (((upd (s.1 14) 15 (((s.1 14) 15) - 1)) 14) + 1)) 16))) 9) ||| 8))) c n)) _ _
          refine q_RP_seg (g2 := (108, [(0, .ref 64)], [.int 0, .int 15, .ref 78], (q_kM (q_sA r810 14 (upd (r810.1 14) 9 (((upd (r809.1 14) 16 ((1 : Int32) - ((upd (r808.1 14) 14 (((upd (s.1 14) 15 (((s.1 14) 15) - 1)) 14) + 1)) 16))) 9) ||| 8))) c n))) 2 (fun _ _ => rfl) ?_
          generalize (q_sA r810 14 (upd (r810.1 14) 9 (((upd (r809.1 14) 16 ((1 : Int32) - ((upd (r808.1 14) 14 (((upd (s.1 14) 15 (((s.1 14) 15) - 1)) 14) + 1)) 16))) 9) ||| 8))) = r813
          refine q_RP_let ?_
          show q_RP _ _ _ (108, [(0, .ref 64)], [.int 0, .int 15, .ref 78], (q_kM r813 c n)) _ _
          refine q_RP_seg (g2 := (109, [(0, .ref 64)], [], (q_kM (q_sA r813 14 (upd (r813.1 14) 15 0)) c n))) 1 (fun _ _ => rfl) ?_
          exact q_RP_ret rfl rfl rfl
    | false =>
      refine q_RP_cF ?_
      show q_RP _ _ _ (14, [(0, .ref 64)], [.int 0], (q_kM s c n)) _ _
      refine q_RP_seg (g2 := (17, [(0, .ref 64)], [], (q_kM s c n))) 1 (fun _ _ => rfl) ?_
      exact q_RP_ret rfl rfl rfl
