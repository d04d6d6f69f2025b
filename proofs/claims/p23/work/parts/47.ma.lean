def dz_M199_64 (s : q_S) : Int32 :=
  (s.2.1 0 39)
set_option maxHeartbeats 4000000 in
theorem dzt_M199_64 (s : q_S) (c n : Nat) : q_Ca q_TB0 1 198 [.ref 64] (q_kM s c n) ((q_oP (q_kM s c n)) (dz_M199_64 s)) := by
  refine q_CaT_of (φ := (q_oP (q_kM s c n))) (Nat.le_of_ble_eq_true rfl) ?_
  unfold dz_M199_64
  refine q_RT_seg (g2 := (4, [(0, .ref 64)], [.int (s.2.1 0 39)], (q_kM s c n))) 2 (fun _ _ => rfl) ?_
  exact q_RT_ret rfl rfl rfl
def dz_M200_64 (s : q_S) (a1 : Int32) : q_S × Bool :=
  cond (decide (0 < a1)) (((q_sI s 0 39 a1), true)) (((q_sI s 0 39 a1), false))
set_option maxHeartbeats 4000000 in
theorem dzt_M200_64 (s : q_S) (c n : Nat) (a1 : Int32) : q_Ca q_TB0 1 199 [.ref 64, .int a1] (q_kM s c n) ((q_oJM c n) (dz_M200_64 s a1)) := by
  refine q_CaT_of (φ := (q_oJM c n)) (Nat.le_of_ble_eq_true rfl) ?_
  unfold dz_M200_64
  refine q_RT_seg (g2 := (6, [(0, .ref 64), (1, .int a1)], [.int a1], (q_kM (q_sI s 0 39 a1) c n))) 4 (fun _ _ => rfl) ?_
  cases h1 : decide (0 < a1) with
  | true =>
    refine q_RT_cT ?_
    refine q_RT_rsF (g2 := (9, [(0, .ref 64), (1, .int a1)], [], (q_kM (q_sI s 0 39 a1) c n))) rfl rfl (q_d_geT h1) ?_
    refine q_RT_seg (g2 := (14, [(0, .ref 64), (1, .int a1)], [.int 1], (q_kM (q_sI s 0 39 a1) c n))) 2 (fun _ _ => rfl) ?_
    exact q_RT_ret rfl rfl rfl
  | false =>
    refine q_RT_cF ?_
    refine q_RT_rsT (g2 := (13, [(0, .ref 64), (1, .int a1)], [], (q_kM (q_sI s 0 39 a1) c n))) rfl rfl (q_d_geF h1) ?_
    refine q_RT_seg (g2 := (14, [(0, .ref 64), (1, .int a1)], [.int 0], (q_kM (q_sI s 0 39 a1) c n))) 1 (fun _ _ => rfl) ?_
    exact q_RT_ret rfl rfl rfl
def dz_M201_64 (s : q_S) (a1 : Int32) : q_S × Int32 :=
  ((q_sI s 0 39 0), a1)
set_option maxHeartbeats 4000000 in
theorem dzt_M201_64 (s : q_S) (c n : Nat) (a1 : Int32) : q_Ca q_TB0 1 200 [.ref 64, .int a1] (q_kM s c n) ((q_oIM c n) (dz_M201_64 s a1)) := by
  refine q_CaT_of (φ := (q_oIM c n)) (Nat.le_of_ble_eq_true rfl) ?_
  unfold dz_M201_64
  refine q_RT_seg (g2 := (6, [(0, .ref 64), (1, .int a1)], [.int a1], (q_kM (q_sI s 0 39 0) c n))) 4 (fun _ _ => rfl) ?_
  exact q_RT_ret rfl rfl rfl
def dz_M202 (s : q_S) (a0 : Int32) (a1 : Int32) (a2 : Int32) : Bool :=
  cond (decide (a0 < a1)) (false) (cond (decide (a2 < a0)) (false) (true))
set_option maxHeartbeats 4000000 in
theorem dzt_M202 (s : q_S) (c n : Nat) (a0 : Int32) (a1 : Int32) (a2 : Int32) : q_Ca q_TB0 1 201 [.int a0, .int a1, .int a2] (q_kM s c n) ((q_oB (q_kM s c n)) (dz_M202 s a0 a1 a2)) := by
  refine q_CaT_of (φ := (q_oB (q_kM s c n))) (Nat.le_of_ble_eq_true rfl) ?_
  unfold dz_M202
  refine q_RT_seg (g2 := (2, [(0, .int a0), (1, .int a1), (2, .int a2)], [.int a1, .int a0], (q_kM s c n))) 2 (fun _ _ => rfl) ?_
  cases h1 : decide (a0 < a1) with
  | true =>
    refine q_RT_cT ?_
    refine q_RT_rsT (g2 := (14, [(0, .int a0), (1, .int a1), (2, .int a2)], [], (q_kM s c n))) rfl rfl h1 ?_
    refine q_RT_seg (g2 := (15, [(0, .int a0), (1, .int a1), (2, .int a2)], [.int 0], (q_kM s c n))) 1 (fun _ _ => rfl) ?_
    exact q_RT_ret rfl rfl rfl
  | false =>
    refine q_RT_cF ?_
    refine q_RT_rsF (g2 := (5, [(0, .int a0), (1, .int a1), (2, .int a2)], [], (q_kM s c n))) rfl rfl h1 ?_
    refine q_RT_seg (g2 := (7, [(0, .int a0), (1, .int a1), (2, .int a2)], [.int a2, .int a0], (q_kM s c n))) 2 (fun _ _ => rfl) ?_
    cases h2 : decide (a2 < a0) with
    | true =>
      refine q_RT_cT ?_
      refine q_RT_rsT (g2 := (14, [(0, .int a0), (1, .int a1), (2, .int a2)], [], (q_kM s c n))) rfl rfl h2 ?_
      refine q_RT_seg (g2 := (15, [(0, .int a0), (1, .int a1), (2, .int a2)], [.int 0], (q_kM s c n))) 1 (fun _ _ => rfl) ?_
      exact q_RT_ret rfl rfl rfl
    | false =>
      refine q_RT_cF ?_
      refine q_RT_rsF (g2 := (10, [(0, .int a0), (1, .int a1), (2, .int a2)], [], (q_kM s c n))) rfl rfl h2 ?_
      refine q_RT_seg (g2 := (15, [(0, .int a0), (1, .int a1), (2, .int a2)], [.int 1], (q_kM s c n))) 2 (fun _ _ => rfl) ?_
      exact q_RT_ret rfl rfl rfl
def dz_M203 (s : q_S) (a0 : Int32) : Bool :=
  q_let (dz_M202 s a0 0 255) fun r1 => cond r1 (false) (true)
set_option maxHeartbeats 4000000 in
theorem dzt_M203 (s : q_S) (c n : Nat) (a0 : Int32) : q_Ca q_TB0 2 202 [.int a0] (q_kM s c n) ((q_oB (q_kM s c n)) (dz_M203 s a0)) := by
  refine q_CaT_of (φ := (q_oB (q_kM s c n))) (Nat.le_of_ble_eq_true rfl) ?_
  unfold dz_M203
  refine q_RT_seg (g2 := (5, [(0, .int a0)], [.int 255, .int 0, .int a0], (q_kM s c n))) 3 (fun _ _ => rfl) ?_
  refine q_RT_call (v := (some (.int (q_b (dz_M202 s a0 0 255))))) (h2 := (q_kM s c n)) rfl rfl ((dzt_M202 s c n a0 0 255).le (Nat.le_of_ble_eq_true rfl)) ?_
  generalize dz_M202 s a0 0 255 = r1
  refine q_RT_let ?_
  show q_RT _ _ _ (8, [(0, .int a0)], [.int (q_b r1)], (q_kM s c n)) _ _
  cases h1 : r1 with
  | true =>
    refine q_RT_cT ?_
    show q_RT _ _ _ (8, [(0, .int a0)], [.int 1], (q_kM s c n)) _ _
    refine q_RT_seg (g2 := (16, [(0, .int a0)], [.int 0], (q_kM s c n))) 2 (fun _ _ => rfl) ?_
    exact q_RT_ret rfl rfl rfl
  | false =>
    refine q_RT_cF ?_
    show q_RT _ _ _ (8, [(0, .int a0)], [.int 0], (q_kM s c n)) _ _
    refine q_RT_seg (g2 := (16, [(0, .int a0)], [.int 1], (q_kM s c n))) 3 (fun _ _ => rfl) ?_
    exact q_RT_ret rfl rfl rfl
def dz_M204 (s : q_S) (a0 : Int32) : Bool :=
  q_let (dz_M202 s a0 0 4095) fun r1 => cond r1 (false) (true)
set_option maxHeartbeats 4000000 in
theorem dzt_M204 (s : q_S) (c n : Nat) (a0 : Int32) : q_Ca q_TB0 2 203 [.int a0] (q_kM s c n) ((q_oB (q_kM s c n)) (dz_M204 s a0)) := by
  refine q_CaT_of (φ := (q_oB (q_kM s c n))) (Nat.le_of_ble_eq_true rfl) ?_
  unfold dz_M204
  refine q_RT_seg (g2 := (5, [(0, .int a0)], [.int 4095, .int 0, .int a0], (q_kM s c n))) 3 (fun _ _ => rfl) ?_
  refine q_RT_call (v := (some (.int (q_b (dz_M202 s a0 0 4095))))) (h2 := (q_kM s c n)) rfl rfl ((dzt_M202 s c n a0 0 4095).le (Nat.le_of_ble_eq_true rfl)) ?_
  generalize dz_M202 s a0 0 4095 = r1
  refine q_RT_let ?_
  show q_RT _ _ _ (8, [(0, .int a0)], [.int (q_b r1)], (q_kM s c n)) _ _
  cases h1 : r1 with
  | true =>
    refine q_RT_cT ?_
    show q_RT _ _ _ (8, [(0, .int a0)], [.int 1], (q_kM s c n)) _ _
    refine q_RT_seg (g2 := (16, [(0, .int a0)], [.int 0], (q_kM s c n))) 2 (fun _ _ => rfl) ?_
    exact q_RT_ret rfl rfl rfl
  | false =>
    refine q_RT_cF ?_
    show q_RT _ _ _ (8, [(0, .int a0)], [.int 0], (q_kM s c n)) _ _
    refine q_RT_seg (g2 := (16, [(0, .int a0)], [.int 1], (q_kM s c n))) 3 (fun _ _ => rfl) ?_
    exact q_RT_ret rfl rfl rfl
def dz_M205_64 (s : q_S) : q_S :=
  cond (decide (s.2.1 0 34 < 0)) (s) ((q_sI s 0 34 ((s.2.1 0 34) + 1)))
set_option maxHeartbeats 4000000 in
theorem dzt_M205_64 (s : q_S) (c n : Nat) : q_Ca q_TB0 1 204 [.ref 64] (q_kM s c n) ((q_oSM c n) (dz_M205_64 s)) := by
  refine q_CaT_of (φ := (q_oSM c n)) (Nat.le_of_ble_eq_true rfl) ?_
  unfold dz_M205_64
  refine q_RT_seg (g2 := (4, [(0, .ref 64)], [.int (s.2.1 0 34)], (q_kM s c n))) 2 (fun _ _ => rfl) ?_
  cases h1 : decide (s.2.1 0 34 < 0) with
  | true =>
    refine q_RT_cT ?_
    refine q_RT_rsT (g2 := (17, [(0, .ref 64)], [], (q_kM s c n))) rfl rfl h1 ?_
    exact q_RT_ret rfl rfl rfl
  | false =>
    refine q_RT_cF ?_
    refine q_RT_rsF (g2 := (7, [(0, .ref 64)], [], (q_kM s c n))) rfl rfl h1 ?_
    refine q_RT_seg (g2 := (12, [(0, .ref 64)], [.int (s.2.1 0 34), .ref 64], (q_kM s c n))) 3 (fun _ _ => rfl) ?_
    refine q_RT_seg (g2 := (17, [(0, .ref 64)], [], (q_kM (q_sI s 0 34 ((s.2.1 0 34) + 1)) c n))) 3 (fun _ _ => rfl) ?_
    exact q_RT_ret rfl rfl rfl
def dz_M206 (s : q_S) (a0 : Int32) (a1 : Int32) : Bool :=
  cond (decide ((a0 >>> (a1 &&& 31)) &&& 1 = 1)) (true) (false)
set_option maxHeartbeats 4000000 in
theorem dzt_M206 (s : q_S) (c n : Nat) (a0 : Int32) (a1 : Int32) : q_Ca q_TB0 1 205 [.int a0, .int a1] (q_kM s c n) ((q_oB (q_kM s c n)) (dz_M206 s a0 a1)) := by
  refine q_CaT_of (φ := (q_oB (q_kM s c n))) (Nat.le_of_ble_eq_true rfl) ?_
  unfold dz_M206
  refine q_RT_seg (g2 := (6, [(0, .int a0), (1, .int a1)], [.int 1, .int ((a0 >>> (a1 &&& 31)) &&& 1)], (q_kM s c n))) 6 (fun _ _ => rfl) ?_
  cases h1 : decide ((a0 >>> (a1 &&& 31)) &&& 1 = 1) with
  | true =>
    refine q_RT_cT ?_
    refine q_RT_rsF (g2 := (9, [(0, .int a0), (1, .int a1)], [], (q_kM s c n))) rfl rfl (q_d_neT h1) ?_
    refine q_RT_seg (g2 := (14, [(0, .int a0), (1, .int a1)], [.int 1], (q_kM s c n))) 2 (fun _ _ => rfl) ?_
    exact q_RT_ret rfl rfl rfl
  | false =>
    refine q_RT_cF ?_
    refine q_RT_rsT (g2 := (13, [(0, .int a0), (1, .int a1)], [], (q_kM s c n))) rfl rfl (q_d_neF h1) ?_
    refine q_RT_seg (g2 := (14, [(0, .int a0), (1, .int a1)], [.int 0], (q_kM s c n))) 1 (fun _ _ => rfl) ?_
    exact q_RT_ret rfl rfl rfl
def dz_M207_64 (s : q_S) : Int32 :=
  ((((s.2.2 0 15) / 24) - ((s.2.2 0 15) / 24) / 40 * 40).toInt32)
set_option maxHeartbeats 4000000 in
theorem dzt_M207_64 (s : q_S) (c n : Nat) : q_Ca q_TB0 1 206 [.ref 64] (q_kM s c n) ((q_oP (q_kM s c n)) (dz_M207_64 s)) := by
  refine q_CaT_of (φ := (q_oP (q_kM s c n))) (Nat.le_of_ble_eq_true rfl) ?_
  unfold dz_M207_64
  refine q_RT_seg (g2 := (4, [(0, .ref 64)], [.long (s.2.2 0 15)], (q_kM s c n))) 2 (fun _ _ => rfl) ?_
  refine q_RT_seg (g2 := (13, [(0, .ref 64)], [.int ((((s.2.2 0 15) / 24) - ((s.2.2 0 15) / 24) / 40 * 40).toInt32)], (q_kM s c n))) 5 (fun _ _ => rfl) ?_
  exact q_RT_ret rfl rfl rfl
def dz_M208_64_85 (k35 : q_S → Int32 → Option (q_S × Int32)) (k43 : q_S → Int32 → Int32 → Option (q_S × Int32)) (s : q_S) (v2 : Int32) (v3 : Int32) : Option (q_S × Int32) :=
  cond (q_in (v3 / 4) 8) (cond (q_in ((4 : Int32) + (v3 - v3 / 4 * 4)) 8) (q_let ((q_sA s 33 (upd (s.1 33) ((v3 / 4).toNatClampNeg) (vp_nar .boolean 1)))) fun r5 => k43 (q_sA r5 33 (upd (r5.1 33) (((4 : Int32) + (v3 - v3 / 4 * 4)).toNatClampNeg) (vp_nar .boolean 1))) v2 (v3 + 1)) none) none
set_option maxHeartbeats 4000000 in
theorem dzt_M208_64_85 (c n : Nat) (k35 : q_S → Int32 → Option (q_S × Int32)) (k43 : q_S → Int32 → Int32 → Option (q_S × Int32)) (s : q_S) (hk35 : ∀ (s : q_S) (v2 : Int32), q_RP q_TB0 1 207 (35, [(0, .ref 64), (2, .int v2)], [], (q_kM s c n)) (q_oIM c n) (k35 s v2)) (hk43 : ∀ (s : q_S) (v2 : Int32) (v3 : Int32), q_RP q_TB0 1 207 (43, [(0, .ref 64), (2, .int v2), (3, .int v3)], [], (q_kM s c n)) (q_oIM c n) (k43 s v2 v3)) (v2 : Int32) (v3 : Int32) : q_RP q_TB0 1 207 (85, [(0, .ref 64), (2, .int v2), (3, .int v3)], [], (q_kM s c n)) (q_oIM c n) (dz_M208_64_85 k35 k43 s v2 v3) := by
  unfold dz_M208_64_85
  refine q_RP_seg (g2 := (101, [(4, .int 1), (0, .ref 64), (2, .int v2), (3, .int v3)], [.int 1, .int (v3 / 4), .ref 97], (q_kM s c n))) 9 (fun _ _ => rfl) ?_
  refine q_RP_as fun i15 => ?_
  refine q_RP_rsT (g2 := (102, [(4, .int 1), (0, .ref 64), (2, .int v2), (3, .int v3)], [], (q_kM (q_sA s 33 (upd (s.1 33) ((v3 / 4).toNatClampNeg) (vp_nar .boolean 1))) c n))) rfl q_wM33 i15 ?_
  refine q_RP_seg (g2 := (113, [(4, .int 1), (0, .ref 64), (2, .int v2), (3, .int v3)], [.int 1, .int ((4 : Int32) + (v3 - v3 / 4 * 4)), .ref 97], (q_kM (q_sA s 33 (upd (s.1 33) ((v3 / 4).toNatClampNeg) (vp_nar .boolean 1))) c n))) 8 (fun _ _ => rfl) ?_
  refine q_RP_as fun i16 => ?_
  generalize (q_sA s 33 (upd (s.1 33) ((v3 / 4).toNatClampNeg) (vp_nar .boolean 1))) = r5
  refine q_RP_let ?_
  show q_RP _ _ _ (113, [(4, .int 1), (0, .ref 64), (2, .int v2), (3, .int v3)], [.int 1, .int ((4 : Int32) + (v3 - v3 / 4 * 4)), .ref 97], (q_kM r5 c n)) _ _
  refine q_RP_rsT (g2 := (114, [(4, .int 1), (0, .ref 64), (2, .int v2), (3, .int v3)], [], (q_kM (q_sA r5 33 (upd (r5.1 33) (((4 : Int32) + (v3 - v3 / 4 * 4)).toNatClampNeg) (vp_nar .boolean 1))) c n))) rfl q_wM33 i16 ?_
  refine q_RP_seg (g2 := (43, [(3, .int (v3 + 1)), (4, .int 1), (0, .ref 64), (2, .int v2)], [], (q_kM (q_sA r5 33 (upd (r5.1 33) (((4 : Int32) + (v3 - v3 / 4 * 4)).toNatClampNeg) (vp_nar .boolean 1))) c n))) 2 (fun _ _ => rfl) ?_
  exact q_RP_xt (q_xt_mk (q_mn1 2 rfl (q_mn1 3 rfl (q_mn1 0 rfl q_mn0))) rfl) (hk43 (q_sA r5 33 (upd (r5.1 33) (((4 : Int32) + (v3 - v3 / 4 * 4)).toNatClampNeg) (vp_nar .boolean 1))) v2 (v3 + 1))
def dz_M208_64_43 (k35 : q_S → Int32 → Option (q_S × Int32)) (m : Nat) : q_S → Int32 → Int32 → Option (q_S × Int32) := Nat.rec (motive := fun _ => q_S → Int32 → Int32 → Option (q_S × Int32)) (fun _ _ _ => none) (fun _ k43 s v2 v3 =>
  cond (decide (v3 < 16)) (cond (q_in v3 16) (cond (decide ((s.1 7) (v3.toNatClampNeg) = 0)) (k43 s v2 (v3 + 1)) (cond (q_in (v3 / 4) 8) (cond (decide ((s.1 33) ((v3 / 4).toNatClampNeg) = 0)) (cond (q_in ((4 : Int32) + (v3 - v3 / 4 * 4)) 8) (cond (decide ((s.1 33) (((4 : Int32) + (v3 - v3 / 4 * 4)).toNatClampNeg) = 0)) (q_let ((q_sA s 33 (upd (s.1 33) ((v3 / 4).toNatClampNeg) (vp_nar .boolean 0)))) fun r4 => k43 (q_sA r4 33 (upd (r4.1 33) (((4 : Int32) + (v3 - v3 / 4 * 4)).toNatClampNeg) (vp_nar .boolean 0))) v2 (v3 + 1)) (dz_M208_64_85 k35 k43 s v2 v3)) none) (dz_M208_64_85 k35 k43 s v2 v3)) none)) none) (k35 s (v2 + 1))) m
theorem dzs_M208_64_43 (k35 : q_S → Int32 → Option (q_S × Int32)) (m : Nat) (s : q_S) (v2 : Int32) (v3 : Int32) : dz_M208_64_43 k35 (m + 1) s v2 v3 = (fun k43 : q_S → Int32 → Int32 → Option (q_S × Int32) =>
  cond (decide (v3 < 16)) (cond (q_in v3 16) (cond (decide ((s.1 7) (v3.toNatClampNeg) = 0)) (k43 s v2 (v3 + 1)) (cond (q_in (v3 / 4) 8) (cond (decide ((s.1 33) ((v3 / 4).toNatClampNeg) = 0)) (cond (q_in ((4 : Int32) + (v3 - v3 / 4 * 4)) 8) (cond (decide ((s.1 33) (((4 : Int32) + (v3 - v3 / 4 * 4)).toNatClampNeg) = 0)) (q_let ((q_sA s 33 (upd (s.1 33) ((v3 / 4).toNatClampNeg) (vp_nar .boolean 0)))) fun r4 => k43 (q_sA r4 33 (upd (r4.1 33) (((4 : Int32) + (v3 - v3 / 4 * 4)).toNatClampNeg) (vp_nar .boolean 0))) v2 (v3 + 1)) (dz_M208_64_85 k35 k43 s v2 v3)) none) (dz_M208_64_85 k35 k43 s v2 v3)) none)) none) (k35 s (v2 + 1))) (dz_M208_64_43 k35 m) := rfl
set_option maxHeartbeats 4000000 in
theorem dzt_M208_64_43 (c n : Nat) (k35 : q_S → Int32 → Option (q_S × Int32)) (hk35 : ∀ (s : q_S) (v2 : Int32), q_RP q_TB0 1 207 (35, [(0, .ref 64), (2, .int v2)], [], (q_kM s c n)) (q_oIM c n) (k35 s v2)) : ∀ (m : Nat) (s : q_S) (v2 : Int32) (v3 : Int32), q_RP q_TB0 1 207 (43, [(0, .ref 64), (2, .int v2), (3, .int v3)], [], (q_kM s c n)) (q_oIM c n) (dz_M208_64_43 k35 m s v2 v3) := by
  intro m
  induction m with
  | zero => intro s v2 v3; exact q_RP_no
  | succ m ih =>
    intro s v2 v3
    have hk43 := ih
    clear ih
    rw [dzs_M208_64_43]
    generalize dz_M208_64_43 k35 m = k43 at hk43 ⊢
    dsimp only
    refine q_RP_seg (g2 := (46, [(0, .ref 64), (2, .int v2), (3, .int v3)], [.int 16, .int v3], (q_kM s c n))) 2 (fun _ _ => rfl) ?_
    cases h8 : decide (v3 < 16) with
    | true =>
      refine q_RP_cT ?_
      refine q_RP_rsF (g2 := (49, [(0, .ref 64), (2, .int v2), (3, .int v3)], [], (q_kM s c n))) rfl rfl (q_d_geT h8) ?_
      refine q_RP_seg (g2 := (54, [(0, .ref 64), (2, .int v2), (3, .int v3)], [.int v3, .ref 71], (q_kM s c n))) 3 (fun _ _ => rfl) ?_
      refine q_RP_as fun i9 => ?_
      refine q_RP_rsT (g2 := (55, [(0, .ref 64), (2, .int v2), (3, .int v3)], [.int ((s.1 7) (v3.toNatClampNeg))], (q_kM s c n))) rfl rfl i9 ?_
      cases h10 : decide ((s.1 7) (v3.toNatClampNeg) = 0) with
      | true =>
        refine q_RP_cT ?_
        refine q_RP_rsF (g2 := (58, [(0, .ref 64), (2, .int v2), (3, .int v3)], [], (q_kM s c n))) rfl rfl (q_d_neT h10) ?_
        refine q_RP_seg (g2 := (43, [(3, .int (v3 + 1)), (0, .ref 64), (2, .int v2)], [], (q_kM s c n))) 3 (fun _ _ => rfl) ?_
        exact q_RP_xt (q_xt_mk (q_mn1 1 rfl (q_mn1 2 rfl (q_mn1 0 rfl q_mn0))) rfl) (hk43 s v2 (v3 + 1))
      | false =>
        refine q_RP_cF ?_
        refine q_RP_rsT (g2 := (61, [(0, .ref 64), (2, .int v2), (3, .int v3)], [], (q_kM s c n))) rfl rfl (q_d_neF h10) ?_
        refine q_RP_seg (g2 := (68, [(0, .ref 64), (2, .int v2), (3, .int v3)], [.int (v3 / 4), .ref 97], (q_kM s c n))) 5 (fun _ _ => rfl) ?_
        refine q_RP_as fun i11 => ?_
        refine q_RP_rsT (g2 := (69, [(0, .ref 64), (2, .int v2), (3, .int v3)], [.int ((s.1 33) ((v3 / 4).toNatClampNeg))], (q_kM s c n))) rfl rfl i11 ?_
        cases h12 : decide ((s.1 33) ((v3 / 4).toNatClampNeg) = 0) with
        | true =>
          refine q_RP_cT ?_
          refine q_RP_rsF (g2 := (72, [(0, .ref 64), (2, .int v2), (3, .int v3)], [], (q_kM s c n))) rfl rfl (q_d_neT h12) ?_
          refine q_RP_seg (g2 := (81, [(0, .ref 64), (2, .int v2), (3, .int v3)], [.int ((4 : Int32) + (v3 - v3 / 4 * 4)), .ref 97], (q_kM s c n))) 7 (fun _ _ => rfl) ?_
          refine q_RP_as fun i13 => ?_
          refine q_RP_rsT (g2 := (82, [(0, .ref 64), (2, .int v2), (3, .int v3)], [.int ((s.1 33) (((4 : Int32) + (v3 - v3 / 4 * 4)).toNatClampNeg))], (q_kM s c n))) rfl rfl i13 ?_
          cases h14 : decide ((s.1 33) (((4 : Int32) + (v3 - v3 / 4 * 4)).toNatClampNeg) = 0) with
          | true =>
            refine q_RP_cT ?_
            refine q_RP_rsT (g2 := (89, [(0, .ref 64), (2, .int v2), (3, .int v3)], [], (q_kM s c n))) rfl rfl h14 ?_
            refine q_RP_seg (g2 := (101, [(4, .int 0), (0, .ref 64), (2, .int v2), (3, .int v3)], [.int 0, .int (v3 / 4), .ref 97], (q_kM s c n))) 8 (fun _ _ => rfl) ?_
            refine q_RP_rsT (g2 := (102, [(4, .int 0), (0, .ref 64), (2, .int v2), (3, .int v3)], [], (q_kM (q_sA s 33 (upd (s.1 33) ((v3 / 4).toNatClampNeg) (vp_nar .boolean 0))) c n))) rfl q_wM33 i11 ?_
            refine q_RP_seg (g2 := (113, [(4, .int 0), (0, .ref 64), (2, .int v2), (3, .int v3)], [.int 0, .int ((4 : Int32) + (v3 - v3 / 4 * 4)), .ref 97], (q_kM (q_sA s 33 (upd (s.1 33) ((v3 / 4).toNatClampNeg) (vp_nar .boolean 0))) c n))) 8 (fun _ _ => rfl) ?_
            generalize (q_sA s 33 (upd (s.1 33) ((v3 / 4).toNatClampNeg) (vp_nar .boolean 0))) = r4
            refine q_RP_let ?_
            show q_RP _ _ _ (113, [(4, .int 0), (0, .ref 64), (2, .int v2), (3, .int v3)], [.int 0, .int ((4 : Int32) + (v3 - v3 / 4 * 4)), .ref 97], (q_kM r4 c n)) _ _
            refine q_RP_rsT (g2 := (114, [(4, .int 0), (0, .ref 64), (2, .int v2), (3, .int v3)], [], (q_kM (q_sA r4 33 (upd (r4.1 33) (((4 : Int32) + (v3 - v3 / 4 * 4)).toNatClampNeg) (vp_nar .boolean 0))) c n))) rfl q_wM33 i13 ?_
            refine q_RP_seg (g2 := (43, [(3, .int (v3 + 1)), (4, .int 0), (0, .ref 64), (2, .int v2)], [], (q_kM (q_sA r4 33 (upd (r4.1 33) (((4 : Int32) + (v3 - v3 / 4 * 4)).toNatClampNeg) (vp_nar .boolean 0))) c n))) 2 (fun _ _ => rfl) ?_
            exact q_RP_xt (q_xt_mk (q_mn1 2 rfl (q_mn1 3 rfl (q_mn1 0 rfl q_mn0))) rfl) (hk43 (q_sA r4 33 (upd (r4.1 33) (((4 : Int32) + (v3 - v3 / 4 * 4)).toNatClampNeg) (vp_nar .boolean 0))) v2 (v3 + 1))
          | false =>
            refine q_RP_cF ?_
            refine q_RP_rsF (g2 := (85, [(0, .ref 64), (2, .int v2), (3, .int v3)], [], (q_kM s c n))) rfl rfl h14 ?_
            exact (dzt_M208_64_85 c n k35 k43 s hk35 hk43 v2 v3)
        | false =>
          refine q_RP_cF ?_
          refine q_RP_rsT (g2 := (85, [(0, .ref 64), (2, .int v2), (3, .int v3)], [], (q_kM s c n))) rfl rfl (q_d_neF h12) ?_
          exact (dzt_M208_64_85 c n k35 k43 s hk35 hk43 v2 v3)
    | false =>
      refine q_RP_cF ?_
      refine q_RP_rsT (g2 := (120, [(0, .ref 64), (2, .int v2), (3, .int v3)], [], (q_kM s c n))) rfl rfl (q_d_geF h8) ?_
      refine q_RP_seg (g2 := (35, [(2, .int (v2 + 1)), (0, .ref 64), (3, .int v3)], [], (q_kM s c n))) 2 (fun _ _ => rfl) ?_
      exact q_RP_xt (q_xt_mk (q_mn1 1 rfl (q_mn1 0 rfl q_mn0)) rfl) (hk35 s (v2 + 1))
def dz_M208_64_130 (m : Nat) : q_S → Int32 → Int32 → Option (q_S × Int32) := Nat.rec (motive := fun _ => q_S → Int32 → Int32 → Option (q_S × Int32)) (fun _ _ _ => none) (fun _ k130 s v2 v3 =>
  cond (decide (v3 < 4)) (cond (q_in ((4 : Int32) + v3) 8) (cond (decide ((s.1 33) (((4 : Int32) + v3).toNatClampNeg) = 0)) (k130 s (v2 + 0) (v3 + 1)) (k130 s (v2 + ((1 : Int32) <<< (v3 &&& 31))) (v3 + 1))) none) (some (s, v2))) m
theorem dzs_M208_64_130 (m : Nat) (s : q_S) (v2 : Int32) (v3 : Int32) : dz_M208_64_130 (m + 1) s v2 v3 = (fun k130 : q_S → Int32 → Int32 → Option (q_S × Int32) =>
  cond (decide (v3 < 4)) (cond (q_in ((4 : Int32) + v3) 8) (cond (decide ((s.1 33) (((4 : Int32) + v3).toNatClampNeg) = 0)) (k130 s (v2 + 0) (v3 + 1)) (k130 s (v2 + ((1 : Int32) <<< (v3 &&& 31))) (v3 + 1))) none) (some (s, v2))) (dz_M208_64_130 m) := rfl
set_option maxHeartbeats 4000000 in
theorem dzt_M208_64_130 (c n : Nat) : ∀ (m : Nat) (s : q_S) (v2 : Int32) (v3 : Int32), q_RP q_TB0 1 207 (130, [(0, .ref 64), (2, .int v2), (3, .int v3)], [], (q_kM s c n)) (q_oIM c n) (dz_M208_64_130 m s v2 v3) := by
  intro m
  induction m with
  | zero => intro s v2 v3; exact q_RP_no
  | succ m ih =>
    intro s v2 v3
    have hk130 := ih
    clear ih
    rw [dzs_M208_64_130]
    generalize dz_M208_64_130 m = k130 at hk130 ⊢
    dsimp only
    refine q_RP_seg (g2 := (132, [(0, .ref 64), (2, .int v2), (3, .int v3)], [.int 4, .int v3], (q_kM s c n))) 2 (fun _ _ => rfl) ?_
    cases h17 : decide (v3 < 4) with
    | true =>
      refine q_RP_cT ?_
      refine q_RP_rsF (g2 := (135, [(0, .ref 64), (2, .int v2), (3, .int v3)], [], (q_kM s c n))) rfl rfl (q_d_geT h17) ?_
      refine q_RP_seg (g2 := (143, [(0, .ref 64), (2, .int v2), (3, .int v3)], [.int ((4 : Int32) + v3), .ref 97, .int v2], (q_kM s c n))) 6 (fun _ _ => rfl) ?_
      refine q_RP_as fun i18 => ?_
      refine q_RP_rsT (g2 := (144, [(0, .ref 64), (2, .int v2), (3, .int v3)], [.int ((s.1 33) (((4 : Int32) + v3).toNatClampNeg)), .int v2], (q_kM s c n))) rfl rfl i18 ?_
      cases h19 : decide ((s.1 33) (((4 : Int32) + v3).toNatClampNeg) = 0) with
      | true =>
        refine q_RP_cT ?_
        refine q_RP_rsT (g2 := (153, [(0, .ref 64), (2, .int v2), (3, .int v3)], [.int v2], (q_kM s c n))) rfl rfl h19 ?_
        refine q_RP_seg (g2 := (130, [(3, .int (v3 + 1)), (2, .int (v2 + 0)), (0, .ref 64)], [], (q_kM s c n))) 5 (fun _ _ => rfl) ?_
        exact q_RP_xt (q_xt_mk (q_mn1 2 rfl (q_mn1 1 rfl (q_mn1 0 rfl q_mn0))) rfl) (hk130 s (v2 + 0) (v3 + 1))
      | false =>
        refine q_RP_cF ?_
        refine q_RP_rsF (g2 := (147, [(0, .ref 64), (2, .int v2), (3, .int v3)], [.int v2], (q_kM s c n))) rfl rfl h19 ?_
        refine q_RP_seg (g2 := (130, [(3, .int (v3 + 1)), (2, .int (v2 + ((1 : Int32) <<< (v3 &&& 31)))), (0, .ref 64)], [], (q_kM s c n))) 8 (fun _ _ => rfl) ?_
        exact q_RP_xt (q_xt_mk (q_mn1 2 rfl (q_mn1 1 rfl (q_mn1 0 rfl q_mn0))) rfl) (hk130 s (v2 + ((1 : Int32) <<< (v3 &&& 31))) (v3 + 1))
    | false =>
      refine q_RP_cF ?_
      refine q_RP_rsT (g2 := (162, [(0, .ref 64), (2, .int v2), (3, .int v3)], [], (q_kM s c n))) rfl rfl (q_d_geF h17) ?_
      refine q_RP_seg (g2 := (163, [(0, .ref 64), (2, .int v2), (3, .int v3)], [.int v2], (q_kM s c n))) 1 (fun _ _ => rfl) ?_
      exact q_RP_ret rfl rfl rfl
def dz_M208_64_35 (m : Nat) : q_S → Int32 → Option (q_S × Int32) := Nat.rec (motive := fun _ => q_S → Int32 → Option (q_S × Int32)) (fun _ _ => none) (fun _ k35 s v2 =>
  cond (decide (v2 < 8)) (dz_M208_64_43 k35 5000 s v2 0) (dz_M208_64_130 5000 s 0 0)) m
theorem dzs_M208_64_35 (m : Nat) (s : q_S) (v2 : Int32) : dz_M208_64_35 (m + 1) s v2 = (fun k35 : q_S → Int32 → Option (q_S × Int32) =>
  cond (decide (v2 < 8)) (dz_M208_64_43 k35 5000 s v2 0) (dz_M208_64_130 5000 s 0 0)) (dz_M208_64_35 m) := rfl
set_option maxHeartbeats 4000000 in
theorem dzt_M208_64_35 (c n : Nat) : ∀ (m : Nat) (s : q_S) (v2 : Int32), q_RP q_TB0 1 207 (35, [(0, .ref 64), (2, .int v2)], [], (q_kM s c n)) (q_oIM c n) (dz_M208_64_35 m s v2) := by
  intro m
  induction m with
  | zero => intro s v2; exact q_RP_no
  | succ m ih =>
    intro s v2
    have hk35 := ih
    clear ih
    rw [dzs_M208_64_35]
    generalize dz_M208_64_35 m = k35 at hk35 ⊢
    dsimp only
    refine q_RP_seg (g2 := (38, [(0, .ref 64), (2, .int v2)], [.int 8, .int v2], (q_kM s c n))) 2 (fun _ _ => rfl) ?_
    cases h7 : decide (v2 < 8) with
    | true =>
      refine q_RP_cT ?_
      refine q_RP_rsF (g2 := (41, [(0, .ref 64), (2, .int v2)], [], (q_kM s c n))) rfl rfl (q_d_geT h7) ?_
      refine q_RP_seg (g2 := (43, [(3, .int 0), (0, .ref 64), (2, .int v2)], [], (q_kM s c n))) 2 (fun _ _ => rfl) ?_
      exact q_RP_xt (q_xt_mk (q_mn1 1 rfl (q_mn1 2 rfl (q_mn1 0 rfl q_mn0))) rfl) (dzt_M208_64_43 c n k35 hk35 5000 s v2 0)
    | false =>
      refine q_RP_cF ?_
      refine q_RP_rsT (g2 := (126, [(0, .ref 64), (2, .int v2)], [], (q_kM s c n))) rfl rfl (q_d_geF h7) ?_
      refine q_RP_seg (g2 := (130, [(3, .int 0), (2, .int 0), (0, .ref 64)], [], (q_kM s c n))) 4 (fun _ _ => rfl) ?_
      exact q_RP_xt (q_xt_mk (q_mn1 2 rfl (q_mn1 1 rfl (q_mn1 0 rfl q_mn0))) rfl) (dzt_M208_64_130 c n 5000 s 0 0)
def dz_M208_64_2 (m : Nat) : q_S → Int32 → Int32 → Option (q_S × Int32) := Nat.rec (motive := fun _ => q_S → Int32 → Int32 → Option (q_S × Int32)) (fun _ _ _ => none) (fun _ k2 s v1 v2 =>
  cond (decide (v2 < 4)) (q_let (dz_M206 s v1 v2) fun r1 => cond r1 (cond (q_in v2 8) (cond (q_in ((4 : Int32) + v2) 8) (q_let ((q_sA s 33 (upd (s.1 33) (v2.toNatClampNeg) (vp_nar .boolean 1)))) fun r2 => k2 (q_sA r2 33 (upd (r2.1 33) (((4 : Int32) + v2).toNatClampNeg) (vp_nar .boolean 0))) v1 (v2 + 1)) none) none) (cond (q_in v2 8) (cond (q_in ((4 : Int32) + v2) 8) (q_let ((q_sA s 33 (upd (s.1 33) (v2.toNatClampNeg) (vp_nar .boolean 0)))) fun r3 => k2 (q_sA r3 33 (upd (r3.1 33) (((4 : Int32) + v2).toNatClampNeg) (vp_nar .boolean 0))) v1 (v2 + 1)) none) none)) (dz_M208_64_35 5000 s 0)) m
theorem dzs_M208_64_2 (m : Nat) (s : q_S) (v1 : Int32) (v2 : Int32) : dz_M208_64_2 (m + 1) s v1 v2 = (fun k2 : q_S → Int32 → Int32 → Option (q_S × Int32) =>
  cond (decide (v2 < 4)) (q_let (dz_M206 s v1 v2) fun r1 => cond r1 (cond (q_in v2 8) (cond (q_in ((4 : Int32) + v2) 8) (q_let ((q_sA s 33 (upd (s.1 33) (v2.toNatClampNeg) (vp_nar .boolean 1)))) fun r2 => k2 (q_sA r2 33 (upd (r2.1 33) (((4 : Int32) + v2).toNatClampNeg) (vp_nar .boolean 0))) v1 (v2 + 1)) none) none) (cond (q_in v2 8) (cond (q_in ((4 : Int32) + v2) 8) (q_let ((q_sA s 33 (upd (s.1 33) (v2.toNatClampNeg) (vp_nar .boolean 0)))) fun r3 => k2 (q_sA r3 33 (upd (r3.1 33) (((4 : Int32) + v2).toNatClampNeg) (vp_nar .boolean 0))) v1 (v2 + 1)) none) none)) (dz_M208_64_35 5000 s 0)) (dz_M208_64_2 m) := rfl
set_option maxHeartbeats 4000000 in
theorem dzt_M208_64_2 (c n : Nat) : ∀ (m : Nat) (s : q_S) (v1 : Int32) (v2 : Int32), q_RP q_TB0 1 207 (2, [(0, .ref 64), (1, .int v1), (2, .int v2)], [], (q_kM s c n)) (q_oIM c n) (dz_M208_64_2 m s v1 v2) := by
  intro m
  induction m with
  | zero => intro s v1 v2; exact q_RP_no
  | succ m ih =>
    intro s v1 v2
    have hk2 := ih
    clear ih
    rw [dzs_M208_64_2]
    generalize dz_M208_64_2 m = k2 at hk2 ⊢
    dsimp only
    refine q_RP_seg (g2 := (4, [(0, .ref 64), (1, .int v1), (2, .int v2)], [.int 4, .int v2], (q_kM s c n))) 2 (fun _ _ => rfl) ?_
    cases h1 : decide (v2 < 4) with
    | true =>
      refine q_RP_cT ?_
      refine q_RP_rsF (g2 := (7, [(0, .ref 64), (1, .int v1), (2, .int v2)], [], (q_kM s c n))) rfl rfl (q_d_geT h1) ?_
      refine q_RP_seg (g2 := (14, [(0, .ref 64), (1, .int v1), (2, .int v2)], [.int v2, .int v1, .int v2, .ref 97], (q_kM s c n))) 5 (fun _ _ => rfl) ?_
      refine q_RP_call (v := (some (.int (q_b (dz_M206 s v1 v2))))) (h2 := (q_kM s c n)) rfl rfl ((dzt_M206 s c n v1 v2).le (Nat.le_of_ble_eq_true rfl)) ?_
      generalize dz_M206 s v1 v2 = r1
      refine q_RP_let ?_
      show q_RP _ _ _ (17, [(0, .ref 64), (1, .int v1), (2, .int v2)], [.int (q_b r1), .int v2, .ref 97], (q_kM s c n)) _ _
      cases h2 : r1 with
      | true =>
        refine q_RP_cT ?_
        show q_RP _ _ _ (17, [(0, .ref 64), (1, .int v1), (2, .int v2)], [.int 1, .int v2, .ref 97], (q_kM s c n)) _ _
        refine q_RP_as fun i3 => ?_
        refine q_RP_rsT (g2 := (18, [(0, .ref 64), (1, .int v1), (2, .int v2)], [], (q_kM (q_sA s 33 (upd (s.1 33) (v2.toNatClampNeg) (vp_nar .boolean 1))) c n))) rfl q_wM33 i3 ?_
        refine q_RP_seg (g2 := (26, [(0, .ref 64), (1, .int v1), (2, .int v2)], [.int 0, .int ((4 : Int32) + v2), .ref 97], (q_kM (q_sA s 33 (upd (s.1 33) (v2.toNatClampNeg) (vp_nar .boolean 1))) c n))) 6 (fun _ _ => rfl) ?_
        refine q_RP_as fun i4 => ?_
        generalize (q_sA s 33 (upd (s.1 33) (v2.toNatClampNeg) (vp_nar .boolean 1))) = r2
        refine q_RP_let ?_
        show q_RP _ _ _ (26, [(0, .ref 64), (1, .int v1), (2, .int v2)], [.int 0, .int ((4 : Int32) + v2), .ref 97], (q_kM r2 c n)) _ _
        refine q_RP_rsT (g2 := (27, [(0, .ref 64), (1, .int v1), (2, .int v2)], [], (q_kM (q_sA r2 33 (upd (r2.1 33) (((4 : Int32) + v2).toNatClampNeg) (vp_nar .boolean 0))) c n))) rfl q_wM33 i4 ?_
        refine q_RP_seg (g2 := (2, [(2, .int (v2 + 1)), (0, .ref 64), (1, .int v1)], [], (q_kM (q_sA r2 33 (upd (r2.1 33) (((4 : Int32) + v2).toNatClampNeg) (vp_nar .boolean 0))) c n))) 2 (fun _ _ => rfl) ?_
        exact q_RP_xt (q_xt_mk (q_mn1 1 rfl (q_mn1 2 rfl (q_mn1 0 rfl q_mn0))) rfl) (hk2 (q_sA r2 33 (upd (r2.1 33) (((4 : Int32) + v2).toNatClampNeg) (vp_nar .boolean 0))) v1 (v2 + 1))
      | false =>
        refine q_RP_cF ?_
        show q_RP _ _ _ (17, [(0, .ref 64), (1, .int v1), (2, .int v2)], [.int 0, .int v2, .ref 97], (q_kM s c n)) _ _
        refine q_RP_as fun i5 => ?_
        refine q_RP_rsT (g2 := (18, [(0, .ref 64), (1, .int v1), (2, .int v2)], [], (q_kM (q_sA s 33 (upd (s.1 33) (v2.toNatClampNeg) (vp_nar .boolean 0))) c n))) rfl q_wM33 i5 ?_
        refine q_RP_seg (g2 := (26, [(0, .ref 64), (1, .int v1), (2, .int v2)], [.int 0, .int ((4 : Int32) + v2), .ref 97], (q_kM (q_sA s 33 (upd (s.1 33) (v2.toNatClampNeg) (vp_nar .boolean 0))) c n))) 6 (fun _ _ => rfl) ?_
        refine q_RP_as fun i6 => ?_
        generalize (q_sA s 33 (upd (s.1 33) (v2.toNatClampNeg) (vp_nar .boolean 0))) = r3
        refine q_RP_let ?_
        show q_RP _ _ _ (26, [(0, .ref 64), (1, .int v1), (2, .int v2)], [.int 0, .int ((4 : Int32) + v2), .ref 97], (q_kM r3 c n)) _ _
        refine q_RP_rsT (g2 := (27, [(0, .ref 64), (1, .int v1), (2, .int v2)], [], (q_kM (q_sA r3 33 (upd (r3.1 33) (((4 : Int32) + v2).toNatClampNeg) (vp_nar .boolean 0))) c n))) rfl q_wM33 i6 ?_
        refine q_RP_seg (g2 := (2, [(2, .int (v2 + 1)), (0, .ref 64), (1, .int v1)], [], (q_kM (q_sA r3 33 (upd (r3.1 33) (((4 : Int32) + v2).toNatClampNeg) (vp_nar .boolean 0))) c n))) 2 (fun _ _ => rfl) ?_
        exact q_RP_xt (q_xt_mk (q_mn1 1 rfl (q_mn1 2 rfl (q_mn1 0 rfl q_mn0))) rfl) (hk2 (q_sA r3 33 (upd (r3.1 33) (((4 : Int32) + v2).toNatClampNeg) (vp_nar .boolean 0))) v1 (v2 + 1))
    | false =>
      refine q_RP_cF ?_
      refine q_RP_rsT (g2 := (33, [(0, .ref 64), (1, .int v1), (2, .int v2)], [], (q_kM s c n))) rfl rfl (q_d_geF h1) ?_
      refine q_RP_seg (g2 := (35, [(2, .int 0), (0, .ref 64), (1, .int v1)], [], (q_kM s c n))) 2 (fun _ _ => rfl) ?_
      exact q_RP_xt (q_xt_mk (q_mn1 1 rfl (q_mn1 0 rfl q_mn0)) rfl) (dzt_M208_64_35 c n 5000 s 0)
def dz_M208_64 (s : q_S) (a1 : Int32) : Option (q_S × Int32) :=
  dz_M208_64_2 5000 s a1 0
set_option maxHeartbeats 4000000 in
theorem dzt_M208_64 (s : q_S) (c n : Nat) (a1 : Int32) (x : q_S × Int32) (h : dz_M208_64 s a1 = some x) : q_Ca q_TB0 2 207 [.ref 64, .int a1] (q_kM s c n) ((q_oIM c n) x) := by
  refine q_CaP_of (φ := (q_oIM c n)) (Nat.le_of_ble_eq_true rfl) ?_ h
  clear h
  unfold dz_M208_64
  refine q_RP_seg (g2 := (2, [(2, .int 0), (0, .ref 64), (1, .int a1)], [], (q_kM s c n))) 2 (fun _ _ => rfl) ?_
  exact q_RP_xt (q_xt_mk (q_mn1 1 rfl (q_mn1 2 rfl (q_mn1 0 rfl q_mn0))) rfl) (dzt_M208_64_2 c n 5000 s a1 0)
def dz_M209_64 (s : q_S) : Bool :=
  cond (decide ((s.1 14) 14 < (s.1 14) 13)) (true) (false)
set_option maxHeartbeats 4000000 in
theorem dzt_M209_64 (s : q_S) (c n : Nat) : q_Ca q_TB0 1 208 [.ref 64] (q_kM s c n) ((q_oB (q_kM s c n)) (dz_M209_64 s)) := by
  refine q_CaT_of (φ := (q_oB (q_kM s c n))) (Nat.le_of_ble_eq_true rfl) ?_
  unfold dz_M209_64
  refine q_RT_seg (g2 := (7, [(0, .ref 64)], [.int ((s.1 14) 14)], (q_kM s c n))) 4 (fun _ _ => rfl) ?_
  refine q_RT_seg (g2 := (14, [(0, .ref 64)], [.int ((s.1 14) 13), .int ((s.1 14) 14)], (q_kM s c n))) 4 (fun _ _ => rfl) ?_
  cases h1 : decide ((s.1 14) 14 < (s.1 14) 13) with
  | true =>
    refine q_RT_cT ?_
    refine q_RT_rsF (g2 := (17, [(0, .ref 64)], [], (q_kM s c n))) rfl rfl (q_d_geT h1) ?_
    refine q_RT_seg (g2 := (22, [(0, .ref 64)], [.int 1], (q_kM s c n))) 2 (fun _ _ => rfl) ?_
    exact q_RT_ret rfl rfl rfl
  | false =>
    refine q_RT_cF ?_
    refine q_RT_rsT (g2 := (21, [(0, .ref 64)], [], (q_kM s c n))) rfl rfl (q_d_geF h1) ?_
    refine q_RT_seg (g2 := (22, [(0, .ref 64)], [.int 0], (q_kM s c n))) 1 (fun _ _ => rfl) ?_
    exact q_RT_ret rfl rfl rfl
def dz_M210_64 (s : q_S) (a1 : Int32) : Option (q_S × Int32) :=
  cond (decide (a1 = 9)) (q_let (dz_M207_64 s) fun r3 => some (s, r3)) (cond (decide (a1 = 10)) (some (s, ((s.1 14) 9))) (q_let (dz_M202 s a1 12 15) fun r4 => cond r4 (cond (decide (a1 - a1 / 2 * 2 = 0)) (cond (q_in ((5 : Int32) + ((a1 - 12) / 2)) 24) (some (s, (((s.1 14) (((5 : Int32) + ((a1 - 12) / 2)).toNatClampNeg)) - ((s.1 14) (((5 : Int32) + ((a1 - 12) / 2)).toNatClampNeg)) / 256 * 256))) none) (cond (q_in ((5 : Int32) + ((a1 - 12) / 2)) 24) (some (s, ((((s.1 14) (((5 : Int32) + ((a1 - 12) / 2)).toNatClampNeg)) / 256) - (((s.1 14) (((5 : Int32) + ((a1 - 12) / 2)).toNatClampNeg)) / 256) / 256 * 256))) none)) (cond (decide (a1 = 29)) (some (s, ((s.1 14) 10))) (cond (decide (a1 = 30)) (some (s, ((s.1 14) 11))) (cond (decide (a1 = 31)) ((dz_M208_64 s ((s.1 4) 31)).bind fun r5 => some (r5.1, (r5.2 + (16 * ((r5.1.1 14) 12))))) (cond (decide (a1 = 44)) (q_let (dz_M209_64 s) fun r6 => cond r6 (some (s, ((((s.1 4) 44) + (2 * ((s.1 14) 16))) + 4))) (some (s, ((((s.1 4) 44) + (2 * ((s.1 14) 16))) + 0)))) (cond (decide (44 < a1)) (some (s, 0)) (cond (q_in a1 48) (some (s, ((s.1 4) (a1.toNatClampNeg)))) none))))))))
set_option maxHeartbeats 4000000 in
theorem dzt_M210_64 (s : q_S) (c n : Nat) (a1 : Int32) (x : q_S × Int32) (h : dz_M210_64 s a1 = some x) : q_Ca q_TB0 3 209 [.ref 64, .int a1] (q_kM s c n) ((q_oIM c n) x) := by
  refine q_CaP_of (φ := (q_oIM c n)) (Nat.le_of_ble_eq_true rfl) ?_ h
  clear h
  unfold dz_M210_64
  refine q_RP_seg (g2 := (3, [(0, .ref 64), (1, .int a1)], [.int 9, .int a1], (q_kM s c n))) 2 (fun _ _ => rfl) ?_
  cases h5 : decide (a1 = 9) with
  | true =>
    refine q_RP_cT ?_
    refine q_RP_rsF (g2 := (6, [(0, .ref 64), (1, .int a1)], [], (q_kM s c n))) rfl rfl (q_d_neT h5) ?_
    refine q_RP_seg (g2 := (7, [(0, .ref 64), (1, .int a1)], [.ref 64], (q_kM s c n))) 1 (fun _ _ => rfl) ?_
    refine q_RP_call (v := (some (.int (dz_M207_64 s)))) (h2 := (q_kM s c n)) rfl rfl ((dzt_M207_64 s c n).le (Nat.le_of_ble_eq_true rfl)) ?_
    generalize dz_M207_64 s = r3
    refine q_RP_let ?_
    show q_RP _ _ _ (10, [(0, .ref 64), (1, .int a1)], [.int r3], (q_kM s c n)) _ _
    exact q_RP_ret rfl rfl rfl
  | false =>
    refine q_RP_cF ?_
    refine q_RP_rsT (g2 := (11, [(0, .ref 64), (1, .int a1)], [], (q_kM s c n))) rfl rfl (q_d_neF h5) ?_
    refine q_RP_seg (g2 := (14, [(0, .ref 64), (1, .int a1)], [.int 10, .int a1], (q_kM s c n))) 2 (fun _ _ => rfl) ?_
    cases h6 : decide (a1 = 10) with
    | true =>
      refine q_RP_cT ?_
      refine q_RP_rsF (g2 := (17, [(0, .ref 64), (1, .int a1)], [], (q_kM s c n))) rfl rfl (q_d_neT h6) ?_
      refine q_RP_seg (g2 := (24, [(0, .ref 64), (1, .int a1)], [.int ((s.1 14) 9)], (q_kM s c n))) 4 (fun _ _ => rfl) ?_
      exact q_RP_ret rfl rfl rfl
    | false =>
      refine q_RP_cF ?_
      refine q_RP_rsT (g2 := (25, [(0, .ref 64), (1, .int a1)], [], (q_kM s c n))) rfl rfl (q_d_neF h6) ?_
      refine q_RP_seg (g2 := (30, [(0, .ref 64), (1, .int a1)], [.int 15, .int 12, .int a1], (q_kM s c n))) 3 (fun _ _ => rfl) ?_
      refine q_RP_call (v := (some (.int (q_b (dz_M202 s a1 12 15))))) (h2 := (q_kM s c n)) rfl rfl ((dzt_M202 s c n a1 12 15).le (Nat.le_of_ble_eq_true rfl)) ?_
      generalize dz_M202 s a1 12 15 = r4
      refine q_RP_let ?_
      show q_RP _ _ _ (33, [(0, .ref 64), (1, .int a1)], [.int (q_b r4)], (q_kM s c n)) _ _
      cases h7 : r4 with
      | true =>
        refine q_RP_cT ?_
        show q_RP _ _ _ (33, [(0, .ref 64), (1, .int a1)], [.int 1], (q_kM s c n)) _ _
        refine q_RP_seg (g2 := (39, [(0, .ref 64), (1, .int a1)], [.int (a1 - a1 / 2 * 2)], (q_kM s c n))) 4 (fun _ _ => rfl) ?_
        cases h8 : decide (a1 - a1 / 2 * 2 = 0) with
        | true =>
          refine q_RP_cT ?_
          refine q_RP_rsF (g2 := (42, [(0, .ref 64), (1, .int a1)], [], (q_kM s c n))) rfl rfl (q_d_neT h8) ?_
          refine q_RP_seg (g2 := (54, [(0, .ref 64), (1, .int a1)], [.int ((5 : Int32) + ((a1 - 12) / 2)), .ref 78], (q_kM s c n))) 9 (fun _ _ => rfl) ?_
          refine q_RP_as fun i9 => ?_
          refine q_RP_rsT (g2 := (55, [(0, .ref 64), (1, .int a1)], [.int ((s.1 14) (((5 : Int32) + ((a1 - 12) / 2)).toNatClampNeg))], (q_kM s c n))) rfl rfl i9 ?_
          refine q_RP_seg (g2 := (79, [(0, .ref 64), (1, .int a1)], [.int (((s.1 14) (((5 : Int32) + ((a1 - 12) / 2)).toNatClampNeg)) - ((s.1 14) (((5 : Int32) + ((a1 - 12) / 2)).toNatClampNeg)) / 256 * 256)], (q_kM s c n))) 3 (fun _ _ => rfl) ?_
          exact q_RP_ret rfl rfl rfl
        | false =>
          refine q_RP_cF ?_
          refine q_RP_rsT (g2 := (58, [(0, .ref 64), (1, .int a1)], [], (q_kM s c n))) rfl rfl (q_d_neF h8) ?_
          refine q_RP_seg (g2 := (70, [(0, .ref 64), (1, .int a1)], [.int ((5 : Int32) + ((a1 - 12) / 2)), .ref 78], (q_kM s c n))) 9 (fun _ _ => rfl) ?_
          refine q_RP_as fun i10 => ?_
          refine q_RP_rsT (g2 := (71, [(0, .ref 64), (1, .int a1)], [.int ((s.1 14) (((5 : Int32) + ((a1 - 12) / 2)).toNatClampNeg))], (q_kM s c n))) rfl rfl i10 ?_
          refine q_RP_seg (g2 := (79, [(0, .ref 64), (1, .int a1)], [.int ((((s.1 14) (((5 : Int32) + ((a1 - 12) / 2)).toNatClampNeg)) / 256) - (((s.1 14) (((5 : Int32) + ((a1 - 12) / 2)).toNatClampNeg)) / 256) / 256 * 256)], (q_kM s c n))) 4 (fun _ _ => rfl) ?_
          exact q_RP_ret rfl rfl rfl
      | false =>
        refine q_RP_cF ?_
        show q_RP _ _ _ (33, [(0, .ref 64), (1, .int a1)], [.int 0], (q_kM s c n)) _ _
        refine q_RP_seg (g2 := (83, [(0, .ref 64), (1, .int a1)], [.int 29, .int a1], (q_kM s c n))) 3 (fun _ _ => rfl) ?_
        cases h11 : decide (a1 = 29) with
        | true =>
          refine q_RP_cT ?_
          refine q_RP_rsF (g2 := (86, [(0, .ref 64), (1, .int a1)], [], (q_kM s c n))) rfl rfl (q_d_neT h11) ?_
          refine q_RP_seg (g2 := (93, [(0, .ref 64), (1, .int a1)], [.int ((s.1 14) 10)], (q_kM s c n))) 4 (fun _ _ => rfl) ?_
          exact q_RP_ret rfl rfl rfl
        | false =>
          refine q_RP_cF ?_
          refine q_RP_rsT (g2 := (94, [(0, .ref 64), (1, .int a1)], [], (q_kM s c n))) rfl rfl (q_d_neF h11) ?_
          refine q_RP_seg (g2 := (97, [(0, .ref 64), (1, .int a1)], [.int 30, .int a1], (q_kM s c n))) 2 (fun _ _ => rfl) ?_
          cases h12 : decide (a1 = 30) with
          | true =>
            refine q_RP_cT ?_
            refine q_RP_rsF (g2 := (100, [(0, .ref 64), (1, .int a1)], [], (q_kM s c n))) rfl rfl (q_d_neT h12) ?_
            refine q_RP_seg (g2 := (107, [(0, .ref 64), (1, .int a1)], [.int ((s.1 14) 11)], (q_kM s c n))) 4 (fun _ _ => rfl) ?_
            exact q_RP_ret rfl rfl rfl
          | false =>
            refine q_RP_cF ?_
            refine q_RP_rsT (g2 := (108, [(0, .ref 64), (1, .int a1)], [], (q_kM s c n))) rfl rfl (q_d_neF h12) ?_
            refine q_RP_seg (g2 := (111, [(0, .ref 64), (1, .int a1)], [.int 31, .int a1], (q_kM s c n))) 2 (fun _ _ => rfl) ?_
            cases h13 : decide (a1 = 31) with
            | true =>
              refine q_RP_cT ?_
              refine q_RP_rsF (g2 := (114, [(0, .ref 64), (1, .int a1)], [], (q_kM s c n))) rfl rfl (q_d_neT h13) ?_
              refine q_RP_seg (g2 := (122, [(0, .ref 64), (1, .int a1)], [.int ((s.1 4) 31), .ref 64], (q_kM s c n))) 5 (fun _ _ => rfl) ?_
              refine q_RP_bd fun r5 er5 => ?_
              refine q_RP_call (v := (some (.int r5.2))) (h2 := (q_kM r5.1 c n)) rfl rfl ((dzt_M208_64 s c n ((s.1 4) 31) r5 er5).le (Nat.le_of_ble_eq_true rfl)) ?_
              show q_RP _ _ _ (125, [(0, .ref 64), (1, .int a1)], [.int r5.2], (q_kM r5.1 c n)) _ _
              refine q_RP_seg (g2 := (134, [(0, .ref 64), (1, .int a1)], [.int ((r5.1.1 14) 12), .int 16, .int r5.2], (q_kM r5.1 c n))) 5 (fun _ _ => rfl) ?_
              refine q_RP_seg (g2 := (136, [(0, .ref 64), (1, .int a1)], [.int (r5.2 + (16 * ((r5.1.1 14) 12)))], (q_kM r5.1 c n))) 2 (fun _ _ => rfl) ?_
              exact q_RP_ret rfl rfl rfl
            | false =>
              refine q_RP_cF ?_
              refine q_RP_rsT (g2 := (137, [(0, .ref 64), (1, .int a1)], [], (q_kM s c n))) rfl rfl (q_d_neF h13) ?_
              refine q_RP_seg (g2 := (140, [(0, .ref 64), (1, .int a1)], [.int 44, .int a1], (q_kM s c n))) 2 (fun _ _ => rfl) ?_
              cases h14 : decide (a1 = 44) with
              | true =>
                refine q_RP_cT ?_
                refine q_RP_rsF (g2 := (143, [(0, .ref 64), (1, .int a1)], [], (q_kM s c n))) rfl rfl (q_d_neT h14) ?_
                refine q_RP_seg (g2 := (150, [(0, .ref 64), (1, .int a1)], [.int ((s.1 4) 44)], (q_kM s c n))) 4 (fun _ _ => rfl) ?_
                refine q_RP_seg (g2 := (158, [(0, .ref 64), (1, .int a1)], [.int ((s.1 14) 16), .int 2, .int ((s.1 4) 44)], (q_kM s c n))) 5 (fun _ _ => rfl) ?_
                refine q_RP_seg (g2 := (161, [(0, .ref 64), (1, .int a1)], [.ref 64, .int (((s.1 4) 44) + (2 * ((s.1 14) 16)))], (q_kM s c n))) 3 (fun _ _ => rfl) ?_
                refine q_RP_call (v := (some (.int (q_b (dz_M209_64 s))))) (h2 := (q_kM s c n)) rfl rfl ((dzt_M209_64 s c n).le (Nat.le_of_ble_eq_true rfl)) ?_
                generalize dz_M209_64 s = r6
                refine q_RP_let ?_
                show q_RP _ _ _ (164, [(0, .ref 64), (1, .int a1)], [.int (q_b r6), .int (((s.1 4) 44) + (2 * ((s.1 14) 16)))], (q_kM s c n)) _ _
                cases h15 : r6 with
                | true =>
                  refine q_RP_cT ?_
                  show q_RP _ _ _ (164, [(0, .ref 64), (1, .int a1)], [.int 1, .int (((s.1 4) 44) + (2 * ((s.1 14) 16)))], (q_kM s c n)) _ _
                  refine q_RP_seg (g2 := (173, [(0, .ref 64), (1, .int a1)], [.int ((((s.1 4) 44) + (2 * ((s.1 14) 16))) + 4)], (q_kM s c n))) 4 (fun _ _ => rfl) ?_
                  exact q_RP_ret rfl rfl rfl
                | false =>
                  refine q_RP_cF ?_
                  show q_RP _ _ _ (164, [(0, .ref 64), (1, .int a1)], [.int 0, .int (((s.1 4) 44) + (2 * ((s.1 14) 16)))], (q_kM s c n)) _ _
                  refine q_RP_seg (g2 := (173, [(0, .ref 64), (1, .int a1)], [.int ((((s.1 4) 44) + (2 * ((s.1 14) 16))) + 0)], (q_kM s c n))) 3 (fun _ _ => rfl) ?_
                  exact q_RP_ret rfl rfl rfl
              | false =>
                refine q_RP_cF ?_
                refine q_RP_rsT (g2 := (174, [(0, .ref 64), (1, .int a1)], [], (q_kM s c n))) rfl rfl (q_d_neF h14) ?_
                refine q_RP_seg (g2 := (177, [(0, .ref 64), (1, .int a1)], [.int 44, .int a1], (q_kM s c n))) 2 (fun _ _ => rfl) ?_
                cases h16 : decide (44 < a1) with
                | true =>
                  refine q_RP_cT ?_
                  refine q_RP_rsF (g2 := (180, [(0, .ref 64), (1, .int a1)], [], (q_kM s c n))) rfl rfl (q_d_geT h16) ?_
                  refine q_RP_seg (g2 := (190, [(0, .ref 64), (1, .int a1)], [.int 0], (q_kM s c n))) 2 (fun _ _ => rfl) ?_
                  exact q_RP_ret rfl rfl rfl
                | false =>
                  refine q_RP_cF ?_
                  refine q_RP_rsT (g2 := (184, [(0, .ref 64), (1, .int a1)], [], (q_kM s c n))) rfl rfl (q_d_geF h16) ?_
                  refine q_RP_seg (g2 := (189, [(0, .ref 64), (1, .int a1)], [.int a1, .ref 68], (q_kM s c n))) 3 (fun _ _ => rfl) ?_
                  refine q_RP_as fun i17 => ?_
                  refine q_RP_rsT (g2 := (190, [(0, .ref 64), (1, .int a1)], [.int ((s.1 4) (a1.toNatClampNeg))], (q_kM s c n))) rfl rfl i17 ?_
                  exact q_RP_ret rfl rfl rfl
def dz_M211 (s : q_S) (a0 : Int32) : Int32 :=
  cond (decide (a0 = 1)) (2) (cond (decide (a0 = 2)) (5) (cond (decide (a0 = 16)) (3) (q_let (dz_M202 s a0 20 27) fun r1 => cond r1 (6) (cond (decide (a0 = 9)) (8) (q_let (dz_M202 s a0 12 15) fun r2 => cond r2 (8) (q_let (dz_M202 s a0 32 43) fun r3 => cond r3 (8) (cond (decide (a0 = 44)) (1) (4))))))))
set_option maxHeartbeats 4000000 in
theorem dzt_M211 (s : q_S) (c n : Nat) (a0 : Int32) : q_Ca q_TB0 2 210 [.int a0] (q_kM s c n) ((q_oP (q_kM s c n)) (dz_M211 s a0)) := by
  refine q_CaT_of (φ := (q_oP (q_kM s c n))) (Nat.le_of_ble_eq_true rfl) ?_
  unfold dz_M211
  refine q_RT_seg (g2 := (2, [(0, .int a0)], [.int 1, .int a0], (q_kM s c n))) 2 (fun _ _ => rfl) ?_
  cases h1 : decide (a0 = 1) with
  | true =>
    refine q_RT_cT ?_
    refine q_RT_rsF (g2 := (5, [(0, .int a0)], [], (q_kM s c n))) rfl rfl (q_d_neT h1) ?_
    refine q_RT_seg (g2 := (6, [(0, .int a0)], [.int 2], (q_kM s c n))) 1 (fun _ _ => rfl) ?_
    exact q_RT_ret rfl rfl rfl
  | false =>
    refine q_RT_cF ?_
    refine q_RT_rsT (g2 := (7, [(0, .int a0)], [], (q_kM s c n))) rfl rfl (q_d_neF h1) ?_
    refine q_RT_seg (g2 := (9, [(0, .int a0)], [.int 2, .int a0], (q_kM s c n))) 2 (fun _ _ => rfl) ?_
    cases h2 : decide (a0 = 2) with
    | true =>
      refine q_RT_cT ?_
      refine q_RT_rsF (g2 := (12, [(0, .int a0)], [], (q_kM s c n))) rfl rfl (q_d_neT h2) ?_
      refine q_RT_seg (g2 := (13, [(0, .int a0)], [.int 5], (q_kM s c n))) 1 (fun _ _ => rfl) ?_
      exact q_RT_ret rfl rfl rfl
    | false =>
      refine q_RT_cF ?_
      refine q_RT_rsT (g2 := (14, [(0, .int a0)], [], (q_kM s c n))) rfl rfl (q_d_neF h2) ?_
      refine q_RT_seg (g2 := (17, [(0, .int a0)], [.int 16, .int a0], (q_kM s c n))) 2 (fun _ _ => rfl) ?_
      cases h3 : decide (a0 = 16) with
      | true =>
        refine q_RT_cT ?_
        refine q_RT_rsF (g2 := (20, [(0, .int a0)], [], (q_kM s c n))) rfl rfl (q_d_neT h3) ?_
        refine q_RT_seg (g2 := (21, [(0, .int a0)], [.int 3], (q_kM s c n))) 1 (fun _ _ => rfl) ?_
        exact q_RT_ret rfl rfl rfl
      | false =>
        refine q_RT_cF ?_
        refine q_RT_rsT (g2 := (22, [(0, .int a0)], [], (q_kM s c n))) rfl rfl (q_d_neF h3) ?_
        refine q_RT_seg (g2 := (27, [(0, .int a0)], [.int 27, .int 20, .int a0], (q_kM s c n))) 3 (fun _ _ => rfl) ?_
        refine q_RT_call (v := (some (.int (q_b (dz_M202 s a0 20 27))))) (h2 := (q_kM s c n)) rfl rfl ((dzt_M202 s c n a0 20 27).le (Nat.le_of_ble_eq_true rfl)) ?_
        generalize dz_M202 s a0 20 27 = r1
        refine q_RT_let ?_
        show q_RT _ _ _ (30, [(0, .int a0)], [.int (q_b r1)], (q_kM s c n)) _ _
        cases h4 : r1 with
        | true =>
          refine q_RT_cT ?_
          show q_RT _ _ _ (30, [(0, .int a0)], [.int 1], (q_kM s c n)) _ _
          refine q_RT_seg (g2 := (35, [(0, .int a0)], [.int 6], (q_kM s c n))) 2 (fun _ _ => rfl) ?_
          exact q_RT_ret rfl rfl rfl
        | false =>
          refine q_RT_cF ?_
          show q_RT _ _ _ (30, [(0, .int a0)], [.int 0], (q_kM s c n)) _ _
          refine q_RT_seg (g2 := (39, [(0, .int a0)], [.int 9, .int a0], (q_kM s c n))) 3 (fun _ _ => rfl) ?_
          cases h5 : decide (a0 = 9) with
          | true =>
            refine q_RT_cT ?_
            refine q_RT_rsT (g2 := (64, [(0, .int a0)], [], (q_kM s c n))) rfl rfl h5 ?_
            refine q_RT_seg (g2 := (66, [(0, .int a0)], [.int 8], (q_kM s c n))) 1 (fun _ _ => rfl) ?_
            exact q_RT_ret rfl rfl rfl
          | false =>
            refine q_RT_cF ?_
            refine q_RT_rsF (g2 := (42, [(0, .int a0)], [], (q_kM s c n))) rfl rfl h5 ?_
            refine q_RT_seg (g2 := (47, [(0, .int a0)], [.int 15, .int 12, .int a0], (q_kM s c n))) 3 (fun _ _ => rfl) ?_
            refine q_RT_call (v := (some (.int (q_b (dz_M202 s a0 12 15))))) (h2 := (q_kM s c n)) rfl rfl ((dzt_M202 s c n a0 12 15).le (Nat.le_of_ble_eq_true rfl)) ?_
            generalize dz_M202 s a0 12 15 = r2
            refine q_RT_let ?_
            show q_RT _ _ _ (50, [(0, .int a0)], [.int (q_b r2)], (q_kM s c n)) _ _
            cases h6 : r2 with
            | true =>
              refine q_RT_cT ?_
              show q_RT _ _ _ (50, [(0, .int a0)], [.int 1], (q_kM s c n)) _ _
              refine q_RT_seg (g2 := (66, [(0, .int a0)], [.int 8], (q_kM s c n))) 2 (fun _ _ => rfl) ?_
              exact q_RT_ret rfl rfl rfl
            | false =>
              refine q_RT_cF ?_
              show q_RT _ _ _ (50, [(0, .int a0)], [.int 0], (q_kM s c n)) _ _
              refine q_RT_seg (g2 := (58, [(0, .int a0)], [.int 43, .int 32, .int a0], (q_kM s c n))) 4 (fun _ _ => rfl) ?_
              refine q_RT_call (v := (some (.int (q_b (dz_M202 s a0 32 43))))) (h2 := (q_kM s c n)) rfl rfl ((dzt_M202 s c n a0 32 43).le (Nat.le_of_ble_eq_true rfl)) ?_
              generalize dz_M202 s a0 32 43 = r3
              refine q_RT_let ?_
              show q_RT _ _ _ (61, [(0, .int a0)], [.int (q_b r3)], (q_kM s c n)) _ _
              cases h7 : r3 with
              | true =>
                refine q_RT_cT ?_
                show q_RT _ _ _ (61, [(0, .int a0)], [.int 1], (q_kM s c n)) _ _
                refine q_RT_seg (g2 := (66, [(0, .int a0)], [.int 8], (q_kM s c n))) 2 (fun _ _ => rfl) ?_
                exact q_RT_ret rfl rfl rfl
              | false =>
                refine q_RT_cF ?_
                show q_RT _ _ _ (61, [(0, .int a0)], [.int 0], (q_kM s c n)) _ _
                refine q_RT_seg (g2 := (70, [(0, .int a0)], [.int 44, .int a0], (q_kM s c n))) 3 (fun _ _ => rfl) ?_
                cases h8 : decide (a0 = 44) with
                | true =>
                  refine q_RT_cT ?_
                  refine q_RT_rsF (g2 := (73, [(0, .int a0)], [], (q_kM s c n))) rfl rfl (q_d_neT h8) ?_
                  refine q_RT_seg (g2 := (78, [(0, .int a0)], [.int 1], (q_kM s c n))) 2 (fun _ _ => rfl) ?_
                  exact q_RT_ret rfl rfl rfl
                | false =>
                  refine q_RT_cF ?_
                  refine q_RT_rsT (g2 := (77, [(0, .int a0)], [], (q_kM s c n))) rfl rfl (q_d_neF h8) ?_
                  refine q_RT_seg (g2 := (78, [(0, .int a0)], [.int 4], (q_kM s c n))) 1 (fun _ _ => rfl) ?_
                  exact q_RT_ret rfl rfl rfl
def dz_M212_64_126 (m : Nat) : q_S → Int32 → Int32 → Int32 → Option (q_S) := Nat.rec (motive := fun _ => q_S → Int32 → Int32 → Int32 → Option (q_S)) (fun _ _ _ _ => none) (fun _ k126 s v1 v3 v4 =>
  cond (decide (v1 = 16)) (cond (decide (v4 < 2)) (q_let (dz_M206 s v3 v4) fun r3 => cond r3 (q_let (dz_M206 s ((s.1 4) 16) v4) fun r4 => cond r4 (k126 s v1 v3 (v4 + 1)) (cond (q_in ((7 : Int32) + v4) 24) (cond (q_in ((5 : Int32) + v4) 24) (k126 (q_sA s 14 (upd (s.1 14) (((5 : Int32) + v4).toNatClampNeg) ((s.1 14) (((7 : Int32) + v4).toNatClampNeg)))) v1 v3 (v4 + 1)) none) none)) (k126 s v1 v3 (v4 + 1))) (cond (q_in v1 48) (some (q_sA s 4 (upd (s.1 4) (v1.toNatClampNeg) v3))) none)) (cond (q_in v1 48) (some (q_sA s 4 (upd (s.1 4) (v1.toNatClampNeg) v3))) none)) m
theorem dzs_M212_64_126 (m : Nat) (s : q_S) (v1 : Int32) (v3 : Int32) (v4 : Int32) : dz_M212_64_126 (m + 1) s v1 v3 v4 = (fun k126 : q_S → Int32 → Int32 → Int32 → Option (q_S) =>
  cond (decide (v1 = 16)) (cond (decide (v4 < 2)) (q_let (dz_M206 s v3 v4) fun r3 => cond r3 (q_let (dz_M206 s ((s.1 4) 16) v4) fun r4 => cond r4 (k126 s v1 v3 (v4 + 1)) (cond (q_in ((7 : Int32) + v4) 24) (cond (q_in ((5 : Int32) + v4) 24) (k126 (q_sA s 14 (upd (s.1 14) (((5 : Int32) + v4).toNatClampNeg) ((s.1 14) (((7 : Int32) + v4).toNatClampNeg)))) v1 v3 (v4 + 1)) none) none)) (k126 s v1 v3 (v4 + 1))) (cond (q_in v1 48) (some (q_sA s 4 (upd (s.1 4) (v1.toNatClampNeg) v3))) none)) (cond (q_in v1 48) (some (q_sA s 4 (upd (s.1 4) (v1.toNatClampNeg) v3))) none)) (dz_M212_64_126 m) := rfl
set_option maxHeartbeats 4000000 in
theorem dzt_M212_64_126 (c n : Nat) : ∀ (m : Nat) (s : q_S) (v1 : Int32) (v3 : Int32) (v4 : Int32), q_RP q_TB0 2 211 (126, [(0, .ref 64), (1, .int v1), (3, .int v3), (4, .int v4)], [], (q_kM s c n)) (q_oSM c n) (dz_M212_64_126 m s v1 v3 v4) := by
  intro m
  induction m with
  | zero => intro s v1 v3 v4; exact q_RP_no
  | succ m ih =>
    intro s v1 v3 v4
    have hk126 := ih
    clear ih
    rw [dzs_M212_64_126]
    generalize dz_M212_64_126 m = k126 at hk126 ⊢
    dsimp only
    refine q_RP_seg (g2 := (129, [(0, .ref 64), (1, .int v1), (3, .int v3), (4, .int v4)], [.int 16, .int v1], (q_kM s c n))) 2 (fun _ _ => rfl) ?_
    cases h9 : decide (v1 = 16) with
    | true =>
      refine q_RP_cT ?_
      refine q_RP_rsF (g2 := (132, [(0, .ref 64), (1, .int v1), (3, .int v3), (4, .int v4)], [], (q_kM s c n))) rfl rfl (q_d_neT h9) ?_
      refine q_RP_seg (g2 := (135, [(0, .ref 64), (1, .int v1), (3, .int v3), (4, .int v4)], [.int 2, .int v4], (q_kM s c n))) 2 (fun _ _ => rfl) ?_
      cases h10 : decide (v4 < 2) with
      | true =>
        refine q_RP_cT ?_
        refine q_RP_rsF (g2 := (138, [(0, .ref 64), (1, .int v1), (3, .int v3), (4, .int v4)], [], (q_kM s c n))) rfl rfl (q_d_geT h10) ?_
        refine q_RP_seg (g2 := (141, [(0, .ref 64), (1, .int v1), (3, .int v3), (4, .int v4)], [.int v4, .int v3], (q_kM s c n))) 2 (fun _ _ => rfl) ?_
        refine q_RP_call (v := (some (.int (q_b (dz_M206 s v3 v4))))) (h2 := (q_kM s c n)) rfl rfl ((dzt_M206 s c n v3 v4).le (Nat.le_of_ble_eq_true rfl)) ?_
        generalize dz_M206 s v3 v4 = r3
        refine q_RP_let ?_
        show q_RP _ _ _ (144, [(0, .ref 64), (1, .int v1), (3, .int v3), (4, .int v4)], [.int (q_b r3)], (q_kM s c n)) _ _
        cases h11 : r3 with
        | true =>
          refine q_RP_cT ?_
          show q_RP _ _ _ (144, [(0, .ref 64), (1, .int v1), (3, .int v3), (4, .int v4)], [.int 1], (q_kM s c n)) _ _
          refine q_RP_seg (g2 := (154, [(0, .ref 64), (1, .int v1), (3, .int v3), (4, .int v4)], [.int ((s.1 4) 16)], (q_kM s c n))) 5 (fun _ _ => rfl) ?_
          refine q_RP_seg (g2 := (156, [(0, .ref 64), (1, .int v1), (3, .int v3), (4, .int v4)], [.int v4, .int ((s.1 4) 16)], (q_kM s c n))) 1 (fun _ _ => rfl) ?_
          refine q_RP_call (v := (some (.int (q_b (dz_M206 s ((s.1 4) 16) v4))))) (h2 := (q_kM s c n)) rfl rfl ((dzt_M206 s c n ((s.1 4) 16) v4).le (Nat.le_of_ble_eq_true rfl)) ?_
          generalize dz_M206 s ((s.1 4) 16) v4 = r4
          refine q_RP_let ?_
          show q_RP _ _ _ (159, [(0, .ref 64), (1, .int v1), (3, .int v3), (4, .int v4)], [.int (q_b r4)], (q_kM s c n)) _ _
          cases h12 : r4 with
          | true =>
            refine q_RP_cT ?_
            show q_RP _ _ _ (159, [(0, .ref 64), (1, .int v1), (3, .int v3), (4, .int v4)], [.int 1], (q_kM s c n)) _ _
            refine q_RP_seg (g2 := (126, [(4, .int (v4 + 1)), (0, .ref 64), (1, .int v1), (3, .int v3)], [], (q_kM s c n))) 3 (fun _ _ => rfl) ?_
            exact q_RP_xt (q_xt_mk (q_mn1 1 rfl (q_mn1 2 rfl (q_mn1 3 rfl (q_mn1 0 rfl q_mn0)))) rfl) (hk126 s v1 v3 (v4 + 1))
          | false =>
            refine q_RP_cF ?_
            show q_RP _ _ _ (159, [(0, .ref 64), (1, .int v1), (3, .int v3), (4, .int v4)], [.int 0], (q_kM s c n)) _ _
            refine q_RP_seg (g2 := (179, [(0, .ref 64), (1, .int v1), (3, .int v3), (4, .int v4)], [.int ((7 : Int32) + v4), .ref 78, .int ((5 : Int32) + v4), .ref 78], (q_kM s c n))) 11 (fun _ _ => rfl) ?_
            refine q_RP_as fun i13 => ?_
            refine q_RP_rsT (g2 := (180, [(0, .ref 64), (1, .int v1), (3, .int v3), (4, .int v4)], [.int ((s.1 14) (((7 : Int32) + v4).toNatClampNeg)), .int ((5 : Int32) + v4), .ref 78], (q_kM s c n))) rfl rfl i13 ?_
            refine q_RP_as fun i14 => ?_
            refine q_RP_rsT (g2 := (181, [(0, .ref 64), (1, .int v1), (3, .int v3), (4, .int v4)], [], (q_kM (q_sA s 14 (upd (s.1 14) (((5 : Int32) + v4).toNatClampNeg) ((s.1 14) (((7 : Int32) + v4).toNatClampNeg)))) c n))) rfl q_wM14 i14 ?_
            refine q_RP_seg (g2 := (126, [(4, .int (v4 + 1)), (0, .ref 64), (1, .int v1), (3, .int v3)], [], (q_kM (q_sA s 14 (upd (s.1 14) (((5 : Int32) + v4).toNatClampNeg) ((s.1 14) (((7 : Int32) + v4).toNatClampNeg)))) c n))) 2 (fun _ _ => rfl) ?_
            exact q_RP_xt (q_xt_mk (q_mn1 1 rfl (q_mn1 2 rfl (q_mn1 3 rfl (q_mn1 0 rfl q_mn0)))) rfl) (hk126 (q_sA s 14 (upd (s.1 14) (((5 : Int32) + v4).toNatClampNeg) ((s.1 14) (((7 : Int32) + v4).toNatClampNeg)))) v1 v3 (v4 + 1))
        | false =>
          refine q_RP_cF ?_
          show q_RP _ _ _ (144, [(0, .ref 64), (1, .int v1), (3, .int v3), (4, .int v4)], [.int 0], (q_kM s c n)) _ _
          refine q_RP_seg (g2 := (126, [(4, .int (v4 + 1)), (0, .ref 64), (1, .int v1), (3, .int v3)], [], (q_kM s c n))) 3 (fun _ _ => rfl) ?_
          exact q_RP_xt (q_xt_mk (q_mn1 1 rfl (q_mn1 2 rfl (q_mn1 3 rfl (q_mn1 0 rfl q_mn0)))) rfl) (hk126 s v1 v3 (v4 + 1))
      | false =>
        refine q_RP_cF ?_
        refine q_RP_rsT (g2 := (187, [(0, .ref 64), (1, .int v1), (3, .int v3), (4, .int v4)], [], (q_kM s c n))) rfl rfl (q_d_geF h10) ?_
        refine q_RP_seg (g2 := (193, [(0, .ref 64), (1, .int v1), (3, .int v3), (4, .int v4)], [.int v3, .int v1, .ref 68], (q_kM s c n))) 4 (fun _ _ => rfl) ?_
        refine q_RP_as fun i15 => ?_
        refine q_RP_rsT (g2 := (194, [(0, .ref 64), (1, .int v1), (3, .int v3), (4, .int v4)], [], (q_kM (q_sA s 4 (upd (s.1 4) (v1.toNatClampNeg) v3)) c n))) rfl q_wM4 i15 ?_
        exact q_RP_ret rfl rfl rfl
    | false =>
      refine q_RP_cF ?_
      refine q_RP_rsT (g2 := (187, [(0, .ref 64), (1, .int v1), (3, .int v3), (4, .int v4)], [], (q_kM s c n))) rfl rfl (q_d_neF h9) ?_
      refine q_RP_seg (g2 := (193, [(0, .ref 64), (1, .int v1), (3, .int v3), (4, .int v4)], [.int v3, .int v1, .ref 68], (q_kM s c n))) 4 (fun _ _ => rfl) ?_
      refine q_RP_as fun i16 => ?_
      refine q_RP_rsT (g2 := (194, [(0, .ref 64), (1, .int v1), (3, .int v3), (4, .int v4)], [], (q_kM (q_sA s 4 (upd (s.1 4) (v1.toNatClampNeg) v3)) c n))) rfl q_wM4 i16 ?_
      exact q_RP_ret rfl rfl rfl
def dz_M212_64 (s : q_S) (a1 : Int32) (a2 : Int32) : Option (q_S) :=
  cond (decide (44 < a1)) (some s) (cond (decide (a1 = 29)) (some s) (cond (decide (a1 = 30)) (some s) (q_let (dz_M211 s a1) fun r1 => cond (decide (a1 = 10)) (some (q_sA s 14 (upd (s.1 14) 9 (((s.1 14) 9) &&& (a2 ^^^ (-1)))))) (q_let (dz_M202 s a1 12 15) fun r2 => cond r2 (cond (decide (a1 - a1 / 2 * 2 = 0)) (cond (q_in ((7 : Int32) + ((a1 - 12) / 2)) 24) (some (q_sA s 14 (upd (s.1 14) (((7 : Int32) + ((a1 - 12) / 2)).toNatClampNeg) (((((s.1 14) (((7 : Int32) + ((a1 - 12) / 2)).toNatClampNeg)) / 256) * 256) + a2)))) none) (cond (q_in ((7 : Int32) + ((a1 - 12) / 2)) 24) (some (q_sA s 14 (upd (s.1 14) (((7 : Int32) + ((a1 - 12) / 2)).toNatClampNeg) ((((s.1 14) (((7 : Int32) + ((a1 - 12) / 2)).toNatClampNeg)) - ((s.1 14) (((7 : Int32) + ((a1 - 12) / 2)).toNatClampNeg)) / 256 * 256) + (256 * a2))))) none)) (dz_M212_64_126 5000 s a1 (a2 &&& (((1 : Int32) <<< (r1 &&& 31)) - 1)) 0)))))
set_option maxHeartbeats 4000000 in
theorem dzt_M212_64 (s : q_S) (c n : Nat) (a1 : Int32) (a2 : Int32) (x : q_S) (h : dz_M212_64 s a1 a2 = some x) : q_Ca q_TB0 3 211 [.ref 64, .int a1, .int a2] (q_kM s c n) ((q_oSM c n) x) := by
  refine q_CaP_of (φ := (q_oSM c n)) (Nat.le_of_ble_eq_true rfl) ?_ h
  clear h
  unfold dz_M212_64
  refine q_RP_seg (g2 := (3, [(0, .ref 64), (1, .int a1), (2, .int a2)], [.int 44, .int a1], (q_kM s c n))) 2 (fun _ _ => rfl) ?_
  cases h1 : decide (44 < a1) with
  | true =>
    refine q_RP_cT ?_
    refine q_RP_rsT (g2 := (18, [(0, .ref 64), (1, .int a1), (2, .int a2)], [], (q_kM s c n))) rfl rfl h1 ?_
    exact q_RP_ret rfl rfl rfl
  | false =>
    refine q_RP_cF ?_
    refine q_RP_rsF (g2 := (6, [(0, .ref 64), (1, .int a1), (2, .int a2)], [], (q_kM s c n))) rfl rfl h1 ?_
    refine q_RP_seg (g2 := (9, [(0, .ref 64), (1, .int a1), (2, .int a2)], [.int 29, .int a1], (q_kM s c n))) 2 (fun _ _ => rfl) ?_
    cases h2 : decide (a1 = 29) with
    | true =>
      refine q_RP_cT ?_
      refine q_RP_rsT (g2 := (18, [(0, .ref 64), (1, .int a1), (2, .int a2)], [], (q_kM s c n))) rfl rfl h2 ?_
      exact q_RP_ret rfl rfl rfl
    | false =>
      refine q_RP_cF ?_
      refine q_RP_rsF (g2 := (12, [(0, .ref 64), (1, .int a1), (2, .int a2)], [], (q_kM s c n))) rfl rfl h2 ?_
      refine q_RP_seg (g2 := (15, [(0, .ref 64), (1, .int a1), (2, .int a2)], [.int 30, .int a1], (q_kM s c n))) 2 (fun _ _ => rfl) ?_
      cases h3 : decide (a1 = 30) with
      | true =>
        refine q_RP_cT ?_
        refine q_RP_rsF (g2 := (18, [(0, .ref 64), (1, .int a1), (2, .int a2)], [], (q_kM s c n))) rfl rfl (q_d_neT h3) ?_
        exact q_RP_ret rfl rfl rfl
      | false =>
        refine q_RP_cF ?_
        refine q_RP_rsT (g2 := (19, [(0, .ref 64), (1, .int a1), (2, .int a2)], [], (q_kM s c n))) rfl rfl (q_d_neF h3) ?_
        refine q_RP_seg (g2 := (22, [(0, .ref 64), (1, .int a1), (2, .int a2)], [.int a1, .int 1, .int a2], (q_kM s c n))) 3 (fun _ _ => rfl) ?_
        refine q_RP_call (v := (some (.int (dz_M211 s a1)))) (h2 := (q_kM s c n)) rfl rfl ((dzt_M211 s c n a1).le (Nat.le_of_ble_eq_true rfl)) ?_
        generalize dz_M211 s a1 = r1
        refine q_RP_let ?_
        show q_RP _ _ _ (25, [(0, .ref 64), (1, .int a1), (2, .int a2)], [.int r1, .int 1, .int a2], (q_kM s c n)) _ _
        refine q_RP_seg (g2 := (33, [(3, .int (a2 &&& (((1 : Int32) <<< (r1 &&& 31)) - 1))), (0, .ref 64), (1, .int a1), (2, .int a2)], [.int 10, .int a1], (q_kM s c n))) 7 (fun _ _ => rfl) ?_
        cases h4 : decide (a1 = 10) with
        | true =>
          refine q_RP_cT ?_
          refine q_RP_rsF (g2 := (36, [(3, .int (a2 &&& (((1 : Int32) <<< (r1 &&& 31)) - 1))), (0, .ref 64), (1, .int a1), (2, .int a2)], [], (q_kM s c n))) rfl rfl (q_d_neT h4) ?_
          refine q_RP_seg (g2 := (44, [(3, .int (a2 &&& (((1 : Int32) <<< (r1 &&& 31)) - 1))), (0, .ref 64), (1, .int a1), (2, .int a2)], [.int ((s.1 14) 9), .int 9, .ref 78], (q_kM s c n))) 5 (fun _ _ => rfl) ?_
          refine q_RP_seg (g2 := (49, [(3, .int (a2 &&& (((1 : Int32) <<< (r1 &&& 31)) - 1))), (0, .ref 64), (1, .int a1), (2, .int a2)], [], (q_kM (q_sA s 14 (upd (s.1 14) 9 (((s.1 14) 9) &&& (a2 ^^^ (-1))))) c n))) 5 (fun _ _ => rfl) ?_
          exact q_RP_ret rfl rfl rfl
        | false =>
          refine q_RP_cF ?_
          refine q_RP_rsT (g2 := (50, [(3, .int (a2 &&& (((1 : Int32) <<< (r1 &&& 31)) - 1))), (0, .ref 64), (1, .int a1), (2, .int a2)], [], (q_kM s c n))) rfl rfl (q_d_neF h4) ?_
          refine q_RP_seg (g2 := (55, [(3, .int (a2 &&& (((1 : Int32) <<< (r1 &&& 31)) - 1))), (0, .ref 64), (1, .int a1), (2, .int a2)], [.int 15, .int 12, .int a1], (q_kM s c n))) 3 (fun _ _ => rfl) ?_
          refine q_RP_call (v := (some (.int (q_b (dz_M202 s a1 12 15))))) (h2 := (q_kM s c n)) rfl rfl ((dzt_M202 s c n a1 12 15).le (Nat.le_of_ble_eq_true rfl)) ?_
          generalize dz_M202 s a1 12 15 = r2
          refine q_RP_let ?_
          show q_RP _ _ _ (58, [(3, .int (a2 &&& (((1 : Int32) <<< (r1 &&& 31)) - 1))), (0, .ref 64), (1, .int a1), (2, .int a2)], [.int (q_b r2)], (q_kM s c n)) _ _
          cases h5 : r2 with
          | true =>
            refine q_RP_cT ?_
            show q_RP _ _ _ (58, [(3, .int (a2 &&& (((1 : Int32) <<< (r1 &&& 31)) - 1))), (0, .ref 64), (1, .int a1), (2, .int a2)], [.int 1], (q_kM s c n)) _ _
            refine q_RP_seg (g2 := (81, [(4, .int ((7 : Int32) + ((a1 - 12) / 2))), (3, .int (a2 &&& (((1 : Int32) <<< (r1 &&& 31)) - 1))), (0, .ref 64), (1, .int a1), (2, .int a2)], [.int (a1 - a1 / 2 * 2), .int ((7 : Int32) + ((a1 - 12) / 2)), .ref 78], (q_kM s c n))) 15 (fun _ _ => rfl) ?_
            cases h6 : decide (a1 - a1 / 2 * 2 = 0) with
            | true =>
              refine q_RP_cT ?_
              refine q_RP_rsF (g2 := (84, [(4, .int ((7 : Int32) + ((a1 - 12) / 2))), (3, .int (a2 &&& (((1 : Int32) <<< (r1 &&& 31)) - 1))), (0, .ref 64), (1, .int a1), (2, .int a2)], [.int ((7 : Int32) + ((a1 - 12) / 2)), .ref 78], (q_kM s c n))) rfl rfl (q_d_neT h6) ?_
              refine q_RP_seg (g2 := (90, [(4, .int ((7 : Int32) + ((a1 - 12) / 2))), (3, .int (a2 &&& (((1 : Int32) <<< (r1 &&& 31)) - 1))), (0, .ref 64), (1, .int a1), (2, .int a2)], [.int ((7 : Int32) + ((a1 - 12) / 2)), .ref 78, .int ((7 : Int32) + ((a1 - 12) / 2)), .ref 78], (q_kM s c n))) 3 (fun _ _ => rfl) ?_
              refine q_RP_as fun i7 => ?_
              refine q_RP_rsT (g2 := (91, [(4, .int ((7 : Int32) + ((a1 - 12) / 2))), (3, .int (a2 &&& (((1 : Int32) <<< (r1 &&& 31)) - 1))), (0, .ref 64), (1, .int a1), (2, .int a2)], [.int ((s.1 14) (((7 : Int32) + ((a1 - 12) / 2)).toNatClampNeg)), .int ((7 : Int32) + ((a1 - 12) / 2)), .ref 78], (q_kM s c n))) rfl rfl i7 ?_
              refine q_RP_seg (g2 := (121, [(4, .int ((7 : Int32) + ((a1 - 12) / 2))), (3, .int (a2 &&& (((1 : Int32) <<< (r1 &&& 31)) - 1))), (0, .ref 64), (1, .int a1), (2, .int a2)], [.int (((((s.1 14) (((7 : Int32) + ((a1 - 12) / 2)).toNatClampNeg)) / 256) * 256) + a2), .int ((7 : Int32) + ((a1 - 12) / 2)), .ref 78], (q_kM s c n))) 7 (fun _ _ => rfl) ?_
              refine q_RP_rsT (g2 := (122, [(4, .int ((7 : Int32) + ((a1 - 12) / 2))), (3, .int (a2 &&& (((1 : Int32) <<< (r1 &&& 31)) - 1))), (0, .ref 64), (1, .int a1), (2, .int a2)], [], (q_kM (q_sA s 14 (upd (s.1 14) (((7 : Int32) + ((a1 - 12) / 2)).toNatClampNeg) (((((s.1 14) (((7 : Int32) + ((a1 - 12) / 2)).toNatClampNeg)) / 256) * 256) + a2))) c n))) rfl q_wM14 i7 ?_
              exact q_RP_ret rfl rfl rfl
            | false =>
              refine q_RP_cF ?_
              refine q_RP_rsT (g2 := (104, [(4, .int ((7 : Int32) + ((a1 - 12) / 2))), (3, .int (a2 &&& (((1 : Int32) <<< (r1 &&& 31)) - 1))), (0, .ref 64), (1, .int a1), (2, .int a2)], [.int ((7 : Int32) + ((a1 - 12) / 2)), .ref 78], (q_kM s c n))) rfl rfl (q_d_neF h6) ?_
              refine q_RP_seg (g2 := (110, [(4, .int ((7 : Int32) + ((a1 - 12) / 2))), (3, .int (a2 &&& (((1 : Int32) <<< (r1 &&& 31)) - 1))), (0, .ref 64), (1, .int a1), (2, .int a2)], [.int ((7 : Int32) + ((a1 - 12) / 2)), .ref 78, .int ((7 : Int32) + ((a1 - 12) / 2)), .ref 78], (q_kM s c n))) 3 (fun _ _ => rfl) ?_
              refine q_RP_as fun i8 => ?_
              refine q_RP_rsT (g2 := (111, [(4, .int ((7 : Int32) + ((a1 - 12) / 2))), (3, .int (a2 &&& (((1 : Int32) <<< (r1 &&& 31)) - 1))), (0, .ref 64), (1, .int a1), (2, .int a2)], [.int ((s.1 14) (((7 : Int32) + ((a1 - 12) / 2)).toNatClampNeg)), .int ((7 : Int32) + ((a1 - 12) / 2)), .ref 78], (q_kM s c n))) rfl rfl i8 ?_
              refine q_RP_seg (g2 := (121, [(4, .int ((7 : Int32) + ((a1 - 12) / 2))), (3, .int (a2 &&& (((1 : Int32) <<< (r1 &&& 31)) - 1))), (0, .ref 64), (1, .int a1), (2, .int a2)], [.int ((((s.1 14) (((7 : Int32) + ((a1 - 12) / 2)).toNatClampNeg)) - ((s.1 14) (((7 : Int32) + ((a1 - 12) / 2)).toNatClampNeg)) / 256 * 256) + (256 * a2)), .int ((7 : Int32) + ((a1 - 12) / 2)), .ref 78], (q_kM s c n))) 6 (fun _ _ => rfl) ?_
              refine q_RP_rsT (g2 := (122, [(4, .int ((7 : Int32) + ((a1 - 12) / 2))), (3, .int (a2 &&& (((1 : Int32) <<< (r1 &&& 31)) - 1))), (0, .ref 64), (1, .int a1), (2, .int a2)], [], (q_kM (q_sA s 14 (upd (s.1 14) (((7 : Int32) + ((a1 - 12) / 2)).toNatClampNeg) ((((s.1 14) (((7 : Int32) + ((a1 - 12) / 2)).toNatClampNeg)) - ((s.1 14) (((7 : Int32) + ((a1 - 12) / 2)).toNatClampNeg)) / 256 * 256) + (256 * a2)))) c n))) rfl q_wM14 i8 ?_
              exact q_RP_ret rfl rfl rfl
          | false =>
            refine q_RP_cF ?_
            show q_RP _ _ _ (58, [(3, .int (a2 &&& (((1 : Int32) <<< (r1 &&& 31)) - 1))), (0, .ref 64), (1, .int a1), (2, .int a2)], [.int 0], (q_kM s c n)) _ _
            refine q_RP_seg (g2 := (126, [(4, .int 0), (3, .int (a2 &&& (((1 : Int32) <<< (r1 &&& 31)) - 1))), (0, .ref 64), (1, .int a1), (2, .int a2)], [], (q_kM s c n))) 3 (fun _ _ => rfl) ?_
            exact q_RP_xt (q_xt_mk (q_mn1 2 rfl (q_mn1 3 rfl (q_mn1 1 rfl (q_mn1 0 rfl q_mn0)))) rfl) (dzt_M212_64_126 c n 5000 s a1 (a2 &&& (((1 : Int32) <<< (r1 &&& 31)) - 1)) 0)
def dz_M213 (s : q_S) (a0 : Int32) : Int32 :=
  (a0 &&& 4095)
set_option maxHeartbeats 4000000 in
theorem dzt_M213 (s : q_S) (c n : Nat) (a0 : Int32) : q_Ca q_TB0 1 212 [.int a0] (q_kM s c n) ((q_oP (q_kM s c n)) (dz_M213 s a0)) := by
  refine q_CaT_of (φ := (q_oP (q_kM s c n))) (Nat.le_of_ble_eq_true rfl) ?_
  unfold dz_M213
  refine q_RT_seg (g2 := (5, [(0, .int a0)], [.int (a0 &&& 4095)], (q_kM s c n))) 3 (fun _ _ => rfl) ?_
  exact q_RT_ret rfl rfl rfl
def dz_M214_64_60 (s : q_S) (v1 : Int32) : Option (q_S × Int32) :=
  q_let (dz_M202 s v1 2048 2559) fun r7 => cond r7 (q_let (dz_M206 s ((s.1 4) 0) 1) fun r8 => cond r8 (cond (q_in (((512 * (((s.1 4) 0) / 4)) + v1) - 2048) 2048) (some (s, ((s.1 3) ((((512 * (((s.1 4) 0) / 4)) + v1) - 2048).toNatClampNeg)))) none) (cond (q_in v1 4096) (some (s, ((s.1 1) (v1.toNatClampNeg)))) none)) (cond (q_in v1 4096) (some (s, ((s.1 1) (v1.toNatClampNeg)))) none)
set_option maxHeartbeats 4000000 in
theorem dzt_M214_64_60 (c n : Nat) (s : q_S) (v1 : Int32) : q_RP q_TB0 3 213 (60, [(0, .ref 64), (1, .int v1)], [], (q_kM s c n)) (q_oIM c n) (dz_M214_64_60 s v1) := by
  unfold dz_M214_64_60
  refine q_RP_seg (g2 := (67, [(0, .ref 64), (1, .int v1)], [.int 2559, .int 2048, .int v1], (q_kM s c n))) 3 (fun _ _ => rfl) ?_
  refine q_RP_call (v := (some (.int (q_b (dz_M202 s v1 2048 2559))))) (h2 := (q_kM s c n)) rfl rfl ((dzt_M202 s c n v1 2048 2559).le (Nat.le_of_ble_eq_true rfl)) ?_
  generalize dz_M202 s v1 2048 2559 = r7
  refine q_RP_let ?_
  show q_RP _ _ _ (70, [(0, .ref 64), (1, .int v1)], [.int (q_b r7)], (q_kM s c n)) _ _
  cases h6 : r7 with
  | true =>
    refine q_RP_cT ?_
    show q_RP _ _ _ (70, [(0, .ref 64), (1, .int v1)], [.int 1], (q_kM s c n)) _ _
    refine q_RP_seg (g2 := (79, [(0, .ref 64), (1, .int v1)], [.int ((s.1 4) 0)], (q_kM s c n))) 5 (fun _ _ => rfl) ?_
    refine q_RP_seg (g2 := (80, [(0, .ref 64), (1, .int v1)], [.int 1, .int ((s.1 4) 0)], (q_kM s c n))) 1 (fun _ _ => rfl) ?_
    refine q_RP_call (v := (some (.int (q_b (dz_M206 s ((s.1 4) 0) 1))))) (h2 := (q_kM s c n)) rfl rfl ((dzt_M206 s c n ((s.1 4) 0) 1).le (Nat.le_of_ble_eq_true rfl)) ?_
    generalize dz_M206 s ((s.1 4) 0) 1 = r8
    refine q_RP_let ?_
    show q_RP _ _ _ (83, [(0, .ref 64), (1, .int v1)], [.int (q_b r8)], (q_kM s c n)) _ _
    cases h7 : r8 with
    | true =>
      refine q_RP_cT ?_
      show q_RP _ _ _ (83, [(0, .ref 64), (1, .int v1)], [.int 1], (q_kM s c n)) _ _
      refine q_RP_seg (g2 := (99, [(0, .ref 64), (1, .int v1)], [.int ((s.1 4) 0), .int 512, .ref 67], (q_kM s c n))) 8 (fun _ _ => rfl) ?_
      refine q_RP_seg (g2 := (108, [(0, .ref 64), (1, .int v1)], [.int (((512 * (((s.1 4) 0) / 4)) + v1) - 2048), .ref 67], (q_kM s c n))) 7 (fun _ _ => rfl) ?_
      refine q_RP_as fun i8 => ?_
      refine q_RP_rsT (g2 := (109, [(0, .ref 64), (1, .int v1)], [.int ((s.1 3) ((((512 * (((s.1 4) 0) / 4)) + v1) - 2048).toNatClampNeg))], (q_kM s c n))) rfl rfl i8 ?_
      exact q_RP_ret rfl rfl rfl
    | false =>
      refine q_RP_cF ?_
      show q_RP _ _ _ (83, [(0, .ref 64), (1, .int v1)], [.int 0], (q_kM s c n)) _ _
      refine q_RP_seg (g2 := (115, [(0, .ref 64), (1, .int v1)], [.int v1, .ref 65], (q_kM s c n))) 4 (fun _ _ => rfl) ?_
      refine q_RP_as fun i9 => ?_
      refine q_RP_rsT (g2 := (116, [(0, .ref 64), (1, .int v1)], [.int ((s.1 1) (v1.toNatClampNeg))], (q_kM s c n))) rfl rfl i9 ?_
      exact q_RP_ret rfl rfl rfl
  | false =>
    refine q_RP_cF ?_
    show q_RP _ _ _ (70, [(0, .ref 64), (1, .int v1)], [.int 0], (q_kM s c n)) _ _
    refine q_RP_seg (g2 := (115, [(0, .ref 64), (1, .int v1)], [.int v1, .ref 65], (q_kM s c n))) 4 (fun _ _ => rfl) ?_
    refine q_RP_as fun i10 => ?_
    refine q_RP_rsT (g2 := (116, [(0, .ref 64), (1, .int v1)], [.int ((s.1 1) (v1.toNatClampNeg))], (q_kM s c n))) rfl rfl i10 ?_
    exact q_RP_ret rfl rfl rfl
def dz_M214_64 (s : q_S) (a1 : Int32) : Option (q_S × Int32) :=
  q_let (dz_M202 s a1 3840 3887) fun r3 => cond r3 ((dz_M210_64 s (a1 - 3840)).bind fun r4 => some (r4.1, r4.2)) (q_let (dz_M202 s a1 3072 3583) fun r5 => cond r5 (q_let (dz_M206 s ((s.1 4) 0) 0) fun r6 => cond r6 (cond (q_in (a1 - 3072) 512) (some (s, ((s.1 2) ((a1 - 3072).toNatClampNeg)))) none) (dz_M214_64_60 s a1)) (dz_M214_64_60 s a1))
set_option maxHeartbeats 4000000 in
theorem dzt_M214_64 (s : q_S) (c n : Nat) (a1 : Int32) (x : q_S × Int32) (h : dz_M214_64 s a1 = some x) : q_Ca q_TB0 4 213 [.ref 64, .int a1] (q_kM s c n) ((q_oIM c n) x) := by
  refine q_CaP_of (φ := (q_oIM c n)) (Nat.le_of_ble_eq_true rfl) ?_ h
  clear h
  unfold dz_M214_64
  refine q_RP_seg (g2 := (7, [(0, .ref 64), (1, .int a1)], [.int 3887, .int 3840, .int a1], (q_kM s c n))) 3 (fun _ _ => rfl) ?_
  refine q_RP_call (v := (some (.int (q_b (dz_M202 s a1 3840 3887))))) (h2 := (q_kM s c n)) rfl rfl ((dzt_M202 s c n a1 3840 3887).le (Nat.le_of_ble_eq_true rfl)) ?_
  generalize dz_M202 s a1 3840 3887 = r3
  refine q_RP_let ?_
  show q_RP _ _ _ (10, [(0, .ref 64), (1, .int a1)], [.int (q_b r3)], (q_kM s c n)) _ _
  cases h2 : r3 with
  | true =>
    refine q_RP_cT ?_
    show q_RP _ _ _ (10, [(0, .ref 64), (1, .int a1)], [.int 1], (q_kM s c n)) _ _
    refine q_RP_seg (g2 := (19, [(0, .ref 64), (1, .int a1)], [.int (a1 - 3840), .ref 64], (q_kM s c n))) 5 (fun _ _ => rfl) ?_
    refine q_RP_bd fun r4 er4 => ?_
    refine q_RP_call (v := (some (.int r4.2))) (h2 := (q_kM r4.1 c n)) rfl rfl ((dzt_M210_64 s c n (a1 - 3840) r4 er4).le (Nat.le_of_ble_eq_true rfl)) ?_
    show q_RP _ _ _ (22, [(0, .ref 64), (1, .int a1)], [.int r4.2], (q_kM r4.1 c n)) _ _
    exact q_RP_ret rfl rfl rfl
  | false =>
    refine q_RP_cF ?_
    show q_RP _ _ _ (10, [(0, .ref 64), (1, .int a1)], [.int 0], (q_kM s c n)) _ _
    refine q_RP_seg (g2 := (30, [(0, .ref 64), (1, .int a1)], [.int 3583, .int 3072, .int a1], (q_kM s c n))) 4 (fun _ _ => rfl) ?_
    refine q_RP_call (v := (some (.int (q_b (dz_M202 s a1 3072 3583))))) (h2 := (q_kM s c n)) rfl rfl ((dzt_M202 s c n a1 3072 3583).le (Nat.le_of_ble_eq_true rfl)) ?_
    generalize dz_M202 s a1 3072 3583 = r5
    refine q_RP_let ?_
    show q_RP _ _ _ (33, [(0, .ref 64), (1, .int a1)], [.int (q_b r5)], (q_kM s c n)) _ _
    cases h3 : r5 with
    | true =>
      refine q_RP_cT ?_
      show q_RP _ _ _ (33, [(0, .ref 64), (1, .int a1)], [.int 1], (q_kM s c n)) _ _
      refine q_RP_seg (g2 := (42, [(0, .ref 64), (1, .int a1)], [.int ((s.1 4) 0)], (q_kM s c n))) 5 (fun _ _ => rfl) ?_
      refine q_RP_seg (g2 := (43, [(0, .ref 64), (1, .int a1)], [.int 0, .int ((s.1 4) 0)], (q_kM s c n))) 1 (fun _ _ => rfl) ?_
      refine q_RP_call (v := (some (.int (q_b (dz_M206 s ((s.1 4) 0) 0))))) (h2 := (q_kM s c n)) rfl rfl ((dzt_M206 s c n ((s.1 4) 0) 0).le (Nat.le_of_ble_eq_true rfl)) ?_
      generalize dz_M206 s ((s.1 4) 0) 0 = r6
      refine q_RP_let ?_
      show q_RP _ _ _ (46, [(0, .ref 64), (1, .int a1)], [.int (q_b r6)], (q_kM s c n)) _ _
      cases h4 : r6 with
      | true =>
        refine q_RP_cT ?_
        show q_RP _ _ _ (46, [(0, .ref 64), (1, .int a1)], [.int 1], (q_kM s c n)) _ _
        refine q_RP_seg (g2 := (58, [(0, .ref 64), (1, .int a1)], [.int (a1 - 3072), .ref 66], (q_kM s c n))) 6 (fun _ _ => rfl) ?_
        refine q_RP_as fun i5 => ?_
        refine q_RP_rsT (g2 := (59, [(0, .ref 64), (1, .int a1)], [.int ((s.1 2) ((a1 - 3072).toNatClampNeg))], (q_kM s c n))) rfl rfl i5 ?_
        exact q_RP_ret rfl rfl rfl
      | false =>
        refine q_RP_cF ?_
        show q_RP _ _ _ (46, [(0, .ref 64), (1, .int a1)], [.int 0], (q_kM s c n)) _ _
        refine q_RP_seg (g2 := (60, [(0, .ref 64), (1, .int a1)], [], (q_kM s c n))) 1 (fun _ _ => rfl) ?_
        exact (dzt_M214_64_60 c n s a1)
    | false =>
      refine q_RP_cF ?_
      show q_RP _ _ _ (33, [(0, .ref 64), (1, .int a1)], [.int 0], (q_kM s c n)) _ _
      refine q_RP_seg (g2 := (60, [(0, .ref 64), (1, .int a1)], [], (q_kM s c n))) 1 (fun _ _ => rfl) ?_
      exact (dzt_M214_64_60 c n s a1)
def dz_M215_64 (s : q_S) (a1 : Int32) (a2 : Int32) : Option (q_S) :=
  q_let (dz_M202 s a1 3840 3887) fun r3 => cond r3 ((dz_M212_64 s (a1 - 3840) a2).bind fun r4 => some r4) (cond (q_in a1 4096) (some (q_sA s 1 (upd (s.1 1) (a1.toNatClampNeg) a2))) none)
set_option maxHeartbeats 4000000 in
theorem dzt_M215_64 (s : q_S) (c n : Nat) (a1 : Int32) (a2 : Int32) (x : q_S) (h : dz_M215_64 s a1 a2 = some x) : q_Ca q_TB0 4 214 [.ref 64, .int a1, .int a2] (q_kM s c n) ((q_oSM c n) x) := by
  refine q_CaP_of (φ := (q_oSM c n)) (Nat.le_of_ble_eq_true rfl) ?_ h
  clear h
  unfold dz_M215_64
  refine q_RP_seg (g2 := (7, [(0, .ref 64), (1, .int a1), (2, .int a2)], [.int 3887, .int 3840, .int a1], (q_kM s c n))) 3 (fun _ _ => rfl) ?_
  refine q_RP_call (v := (some (.int (q_b (dz_M202 s a1 3840 3887))))) (h2 := (q_kM s c n)) rfl rfl ((dzt_M202 s c n a1 3840 3887).le (Nat.le_of_ble_eq_true rfl)) ?_
  generalize dz_M202 s a1 3840 3887 = r3
  refine q_RP_let ?_
  show q_RP _ _ _ (10, [(0, .ref 64), (1, .int a1), (2, .int a2)], [.int (q_b r3)], (q_kM s c n)) _ _
  cases h2 : r3 with
  | true =>
    refine q_RP_cT ?_
    show q_RP _ _ _ (10, [(0, .ref 64), (1, .int a1), (2, .int a2)], [.int 1], (q_kM s c n)) _ _
    refine q_RP_seg (g2 := (20, [(0, .ref 64), (1, .int a1), (2, .int a2)], [.int a2, .int (a1 - 3840), .ref 64], (q_kM s c n))) 6 (fun _ _ => rfl) ?_
    refine q_RP_bd fun r4 er4 => ?_
    refine q_RP_call (v := none) (h2 := (q_kM r4 c n)) rfl rfl ((dzt_M212_64 s c n (a1 - 3840) a2 r4 er4).le (Nat.le_of_ble_eq_true rfl)) ?_
    show q_RP _ _ _ (23, [(0, .ref 64), (1, .int a1), (2, .int a2)], [], (q_kM r4 c n)) _ _
    refine q_RP_seg (g2 := (33, [(0, .ref 64), (1, .int a1), (2, .int a2)], [], (q_kM r4 c n))) 1 (fun _ _ => rfl) ?_
    exact q_RP_ret rfl rfl rfl
  | false =>
    refine q_RP_cF ?_
    show q_RP _ _ _ (10, [(0, .ref 64), (1, .int a1), (2, .int a2)], [.int 0], (q_kM s c n)) _ _
    refine q_RP_seg (g2 := (32, [(0, .ref 64), (1, .int a1), (2, .int a2)], [.int a2, .int a1, .ref 65], (q_kM s c n))) 5 (fun _ _ => rfl) ?_
    refine q_RP_as fun i3 => ?_
    refine q_RP_rsT (g2 := (33, [(0, .ref 64), (1, .int a1), (2, .int a2)], [], (q_kM (q_sA s 1 (upd (s.1 1) (a1.toNatClampNeg) a2)) c n))) rfl q_wM1 i3 ?_
    exact q_RP_ret rfl rfl rfl
def dz_M216_64 (s : q_S) (a1 : Int32) (a2 : Int32) : Option (q_S × Int32) :=
  q_let (dz_M204 s a1) fun r4 => cond r4 (q_let (dz_M200_64 s 1) fun r5 => cond r5.2 (some (r5.1, 0)) ((dz_M214_64 r5.1 a1).bind fun r6 => (dz_M215_64 r6.1 a1 a2).bind fun r7 => q_let (dz_M205_64 r7) fun r8 => some (r8, r6.2))) (q_let (dz_M203 s a2) fun r9 => cond r9 (q_let (dz_M200_64 s 2) fun r10 => cond r10.2 (some (r10.1, 0)) ((dz_M214_64 r10.1 a1).bind fun r11 => (dz_M215_64 r11.1 a1 a2).bind fun r12 => q_let (dz_M205_64 r12) fun r13 => some (r13, r11.2))) (q_let (dz_M200_64 s 0) fun r14 => cond r14.2 (some (r14.1, 0)) ((dz_M214_64 r14.1 a1).bind fun r15 => (dz_M215_64 r15.1 a1 a2).bind fun r16 => q_let (dz_M205_64 r16) fun r17 => some (r17, r15.2))))
set_option maxHeartbeats 4000000 in
theorem dzt_M216_64 (s : q_S) (c n : Nat) (a1 : Int32) (a2 : Int32) (x : q_S × Int32) (h : dz_M216_64 s a1 a2 = some x) : q_Ca q_TB0 5 215 [.ref 64, .int a1, .int a2] (q_kM s c n) ((q_oIM c n) x) := by
  refine q_CaP_of (φ := (q_oIM c n)) (Nat.le_of_ble_eq_true rfl) ?_ h
  clear h
  unfold dz_M216_64
  refine q_RP_seg (g2 := (2, [(0, .ref 64), (1, .int a1), (2, .int a2)], [.int a1, .ref 64], (q_kM s c n))) 2 (fun _ _ => rfl) ?_
  refine q_RP_call (v := (some (.int (q_b (dz_M204 s a1))))) (h2 := (q_kM s c n)) rfl rfl ((dzt_M204 s c n a1).le (Nat.le_of_ble_eq_true rfl)) ?_
  generalize dz_M204 s a1 = r4
  refine q_RP_let ?_
  show q_RP _ _ _ (5, [(0, .ref 64), (1, .int a1), (2, .int a2)], [.int (q_b r4), .ref 64], (q_kM s c n)) _ _
  cases h3 : r4 with
  | true =>
    refine q_RP_cT ?_
    show q_RP _ _ _ (5, [(0, .ref 64), (1, .int a1), (2, .int a2)], [.int 1, .ref 64], (q_kM s c n)) _ _
    refine q_RP_seg (g2 := (24, [(0, .ref 64), (1, .int a1), (2, .int a2)], [.int 1, .ref 64], (q_kM s c n))) 3 (fun _ _ => rfl) ?_
    refine q_RP_call (v := (some (.int (q_b (dz_M200_64 s 1).2)))) (h2 := (q_kM (dz_M200_64 s 1).1 c n)) rfl rfl ((dzt_M200_64 s c n 1).le (Nat.le_of_ble_eq_true rfl)) ?_
    generalize dz_M200_64 s 1 = r5
    refine q_RP_let ?_
    show q_RP _ _ _ (27, [(0, .ref 64), (1, .int a1), (2, .int a2)], [.int (q_b r5.2)], (q_kM r5.1 c n)) _ _
    cases h4 : r5.2 with
    | true =>
      refine q_RP_cT ?_
      show q_RP _ _ _ (27, [(0, .ref 64), (1, .int a1), (2, .int a2)], [.int 1], (q_kM r5.1 c n)) _ _
      refine q_RP_seg (g2 := (31, [(0, .ref 64), (1, .int a1), (2, .int a2)], [.int 0], (q_kM r5.1 c n))) 2 (fun _ _ => rfl) ?_
      exact q_RP_ret rfl rfl rfl
    | false =>
      refine q_RP_cF ?_
      show q_RP _ _ _ (27, [(0, .ref 64), (1, .int a1), (2, .int a2)], [.int 0], (q_kM r5.1 c n)) _ _
      refine q_RP_seg (g2 := (34, [(0, .ref 64), (1, .int a1), (2, .int a2)], [.int a1, .ref 64], (q_kM r5.1 c n))) 3 (fun _ _ => rfl) ?_
      refine q_RP_bd fun r6 er6 => ?_
      refine q_RP_call (v := (some (.int r6.2))) (h2 := (q_kM r6.1 c n)) rfl rfl ((dzt_M214_64 r5.1 c n a1 r6 er6).le (Nat.le_of_ble_eq_true rfl)) ?_
      show q_RP _ _ _ (37, [(0, .ref 64), (1, .int a1), (2, .int a2)], [.int r6.2], (q_kM r6.1 c n)) _ _
      refine q_RP_seg (g2 := (41, [(3, .int r6.2), (0, .ref 64), (1, .int a1), (2, .int a2)], [.int a2, .int a1, .ref 64], (q_kM r6.1 c n))) 4 (fun _ _ => rfl) ?_
      refine q_RP_bd fun r7 er7 => ?_
      refine q_RP_call (v := none) (h2 := (q_kM r7 c n)) rfl rfl ((dzt_M215_64 r6.1 c n a1 a2 r7 er7).le (Nat.le_of_ble_eq_true rfl)) ?_
      show q_RP _ _ _ (44, [(3, .int r6.2), (0, .ref 64), (1, .int a1), (2, .int a2)], [], (q_kM r7 c n)) _ _
      refine q_RP_seg (g2 := (45, [(3, .int r6.2), (0, .ref 64), (1, .int a1), (2, .int a2)], [.ref 64], (q_kM r7 c n))) 1 (fun _ _ => rfl) ?_
      refine q_RP_call (v := none) (h2 := (q_kM (dz_M205_64 r7) c n)) rfl rfl ((dzt_M205_64 r7 c n).le (Nat.le_of_ble_eq_true rfl)) ?_
      generalize dz_M205_64 r7 = r8
      refine q_RP_let ?_
      show q_RP _ _ _ (48, [(3, .int r6.2), (0, .ref 64), (1, .int a1), (2, .int a2)], [], (q_kM r8 c n)) _ _
      refine q_RP_seg (g2 := (49, [(3, .int r6.2), (0, .ref 64), (1, .int a1), (2, .int a2)], [.int r6.2], (q_kM r8 c n))) 1 (fun _ _ => rfl) ?_
      exact q_RP_ret rfl rfl rfl
  | false =>
    refine q_RP_cF ?_
    show q_RP _ _ _ (5, [(0, .ref 64), (1, .int a1), (2, .int a2)], [.int 0, .ref 64], (q_kM s c n)) _ _
    refine q_RP_seg (g2 := (13, [(0, .ref 64), (1, .int a1), (2, .int a2)], [.int a2, .ref 64], (q_kM s c n))) 2 (fun _ _ => rfl) ?_
    refine q_RP_call (v := (some (.int (q_b (dz_M203 s a2))))) (h2 := (q_kM s c n)) rfl rfl ((dzt_M203 s c n a2).le (Nat.le_of_ble_eq_true rfl)) ?_
    generalize dz_M203 s a2 = r9
    refine q_RP_let ?_
    show q_RP _ _ _ (16, [(0, .ref 64), (1, .int a1), (2, .int a2)], [.int (q_b r9), .ref 64], (q_kM s c n)) _ _
    cases h5 : r9 with
    | true =>
      refine q_RP_cT ?_
      show q_RP _ _ _ (16, [(0, .ref 64), (1, .int a1), (2, .int a2)], [.int 1, .ref 64], (q_kM s c n)) _ _
      refine q_RP_seg (g2 := (24, [(0, .ref 64), (1, .int a1), (2, .int a2)], [.int 2, .ref 64], (q_kM s c n))) 3 (fun _ _ => rfl) ?_
      refine q_RP_call (v := (some (.int (q_b (dz_M200_64 s 2).2)))) (h2 := (q_kM (dz_M200_64 s 2).1 c n)) rfl rfl ((dzt_M200_64 s c n 2).le (Nat.le_of_ble_eq_true rfl)) ?_
      generalize dz_M200_64 s 2 = r10
      refine q_RP_let ?_
      show q_RP _ _ _ (27, [(0, .ref 64), (1, .int a1), (2, .int a2)], [.int (q_b r10.2)], (q_kM r10.1 c n)) _ _
      cases h6 : r10.2 with
      | true =>
        refine q_RP_cT ?_
        show q_RP _ _ _ (27, [(0, .ref 64), (1, .int a1), (2, .int a2)], [.int 1], (q_kM r10.1 c n)) _ _
        refine q_RP_seg (g2 := (31, [(0, .ref 64), (1, .int a1), (2, .int a2)], [.int 0], (q_kM r10.1 c n))) 2 (fun _ _ => rfl) ?_
        exact q_RP_ret rfl rfl rfl
      | false =>
        refine q_RP_cF ?_
        show q_RP _ _ _ (27, [(0, .ref 64), (1, .int a1), (2, .int a2)], [.int 0], (q_kM r10.1 c n)) _ _
        refine q_RP_seg (g2 := (34, [(0, .ref 64), (1, .int a1), (2, .int a2)], [.int a1, .ref 64], (q_kM r10.1 c n))) 3 (fun _ _ => rfl) ?_
        refine q_RP_bd fun r11 er11 => ?_
        refine q_RP_call (v := (some (.int r11.2))) (h2 := (q_kM r11.1 c n)) rfl rfl ((dzt_M214_64 r10.1 c n a1 r11 er11).le (Nat.le_of_ble_eq_true rfl)) ?_
        show q_RP _ _ _ (37, [(0, .ref 64), (1, .int a1), (2, .int a2)], [.int r11.2], (q_kM r11.1 c n)) _ _
        refine q_RP_seg (g2 := (41, [(3, .int r11.2), (0, .ref 64), (1, .int a1), (2, .int a2)], [.int a2, .int a1, .ref 64], (q_kM r11.1 c n))) 4 (fun _ _ => rfl) ?_
        refine q_RP_bd fun r12 er12 => ?_
        refine q_RP_call (v := none) (h2 := (q_kM r12 c n)) rfl rfl ((dzt_M215_64 r11.1 c n a1 a2 r12 er12).le (Nat.le_of_ble_eq_true rfl)) ?_
        show q_RP _ _ _ (44, [(3, .int r11.2), (0, .ref 64), (1, .int a1), (2, .int a2)], [], (q_kM r12 c n)) _ _
        refine q_RP_seg (g2 := (45, [(3, .int r11.2), (0, .ref 64), (1, .int a1), (2, .int a2)], [.ref 64], (q_kM r12 c n))) 1 (fun _ _ => rfl) ?_
        refine q_RP_call (v := none) (h2 := (q_kM (dz_M205_64 r12) c n)) rfl rfl ((dzt_M205_64 r12 c n).le (Nat.le_of_ble_eq_true rfl)) ?_
        generalize dz_M205_64 r12 = r13
        refine q_RP_let ?_
        show q_RP _ _ _ (48, [(3, .int r11.2), (0, .ref 64), (1, .int a1), (2, .int a2)], [], (q_kM r13 c n)) _ _
        refine q_RP_seg (g2 := (49, [(3, .int r11.2), (0, .ref 64), (1, .int a1), (2, .int a2)], [.int r11.2], (q_kM r13 c n))) 1 (fun _ _ => rfl) ?_
        exact q_RP_ret rfl rfl rfl
    | false =>
      refine q_RP_cF ?_
      show q_RP _ _ _ (16, [(0, .ref 64), (1, .int a1), (2, .int a2)], [.int 0, .ref 64], (q_kM s c n)) _ _
      refine q_RP_seg (g2 := (24, [(0, .ref 64), (1, .int a1), (2, .int a2)], [.int 0, .ref 64], (q_kM s c n))) 2 (fun _ _ => rfl) ?_
      refine q_RP_call (v := (some (.int (q_b (dz_M200_64 s 0).2)))) (h2 := (q_kM (dz_M200_64 s 0).1 c n)) rfl rfl ((dzt_M200_64 s c n 0).le (Nat.le_of_ble_eq_true rfl)) ?_
      generalize dz_M200_64 s 0 = r14
      refine q_RP_let ?_
      show q_RP _ _ _ (27, [(0, .ref 64), (1, .int a1), (2, .int a2)], [.int (q_b r14.2)], (q_kM r14.1 c n)) _ _
      cases h7 : r14.2 with
      | true =>
        refine q_RP_cT ?_
        show q_RP _ _ _ (27, [(0, .ref 64), (1, .int a1), (2, .int a2)], [.int 1], (q_kM r14.1 c n)) _ _
        refine q_RP_seg (g2 := (31, [(0, .ref 64), (1, .int a1), (2, .int a2)], [.int 0], (q_kM r14.1 c n))) 2 (fun _ _ => rfl) ?_
        exact q_RP_ret rfl rfl rfl
      | false =>
        refine q_RP_cF ?_
        show q_RP _ _ _ (27, [(0, .ref 64), (1, .int a1), (2, .int a2)], [.int 0], (q_kM r14.1 c n)) _ _
        refine q_RP_seg (g2 := (34, [(0, .ref 64), (1, .int a1), (2, .int a2)], [.int a1, .ref 64], (q_kM r14.1 c n))) 3 (fun _ _ => rfl) ?_
        refine q_RP_bd fun r15 er15 => ?_
        refine q_RP_call (v := (some (.int r15.2))) (h2 := (q_kM r15.1 c n)) rfl rfl ((dzt_M214_64 r14.1 c n a1 r15 er15).le (Nat.le_of_ble_eq_true rfl)) ?_
        show q_RP _ _ _ (37, [(0, .ref 64), (1, .int a1), (2, .int a2)], [.int r15.2], (q_kM r15.1 c n)) _ _
        refine q_RP_seg (g2 := (41, [(3, .int r15.2), (0, .ref 64), (1, .int a1), (2, .int a2)], [.int a2, .int a1, .ref 64], (q_kM r15.1 c n))) 4 (fun _ _ => rfl) ?_
        refine q_RP_bd fun r16 er16 => ?_
        refine q_RP_call (v := none) (h2 := (q_kM r16 c n)) rfl rfl ((dzt_M215_64 r15.1 c n a1 a2 r16 er16).le (Nat.le_of_ble_eq_true rfl)) ?_
        show q_RP _ _ _ (44, [(3, .int r15.2), (0, .ref 64), (1, .int a1), (2, .int a2)], [], (q_kM r16 c n)) _ _
        refine q_RP_seg (g2 := (45, [(3, .int r15.2), (0, .ref 64), (1, .int a1), (2, .int a2)], [.ref 64], (q_kM r16 c n))) 1 (fun _ _ => rfl) ?_
        refine q_RP_call (v := none) (h2 := (q_kM (dz_M205_64 r16) c n)) rfl rfl ((dzt_M205_64 r16 c n).le (Nat.le_of_ble_eq_true rfl)) ?_
        generalize dz_M205_64 r16 = r17
        refine q_RP_let ?_
        show q_RP _ _ _ (48, [(3, .int r15.2), (0, .ref 64), (1, .int a1), (2, .int a2)], [], (q_kM r17 c n)) _ _
        refine q_RP_seg (g2 := (49, [(3, .int r15.2), (0, .ref 64), (1, .int a1), (2, .int a2)], [.int r15.2], (q_kM r17 c n))) 1 (fun _ _ => rfl) ?_
        exact q_RP_ret rfl rfl rfl
def dz_M217_64 (s : q_S) (a1 : Int32) (a2 : Int32) : Option (q_S × Int32) :=
  q_let (dz_M202 s a1 0 511) fun r4 => cond r4 (q_let (dz_M203 s a2) fun r5 => cond r5 (q_let (dz_M200_64 s 2) fun r6 => cond r6.2 (some (r6.1, 0)) (cond (q_in a1 512) (q_let (dz_M205_64 (q_sA r6.1 2 (upd (r6.1.1 2) (a1.toNatClampNeg) a2))) fun r7 => some (r7, ((r6.1.1 2) (a1.toNatClampNeg)))) none)) (q_let (dz_M200_64 s 0) fun r8 => cond r8.2 (some (r8.1, 0)) (cond (q_in a1 512) (q_let (dz_M205_64 (q_sA r8.1 2 (upd (r8.1.1 2) (a1.toNatClampNeg) a2))) fun r9 => some (r9, ((r8.1.1 2) (a1.toNatClampNeg)))) none))) (q_let (dz_M200_64 s 1) fun r10 => cond r10.2 (some (r10.1, 0)) (cond (q_in a1 512) (q_let (dz_M205_64 (q_sA r10.1 2 (upd (r10.1.1 2) (a1.toNatClampNeg) a2))) fun r11 => some (r11, ((r10.1.1 2) (a1.toNatClampNeg)))) none))
set_option maxHeartbeats 4000000 in
theorem dzt_M217_64 (s : q_S) (c n : Nat) (a1 : Int32) (a2 : Int32) (x : q_S × Int32) (h : dz_M217_64 s a1 a2 = some x) : q_Ca q_TB0 3 216 [.ref 64, .int a1, .int a2] (q_kM s c n) ((q_oIM c n) x) := by
  refine q_CaP_of (φ := (q_oIM c n)) (Nat.le_of_ble_eq_true rfl) ?_ h
  clear h
  unfold dz_M217_64
  refine q_RP_seg (g2 := (6, [(0, .ref 64), (1, .int a1), (2, .int a2)], [.int 511, .int 0, .int a1, .ref 64], (q_kM s c n))) 4 (fun _ _ => rfl) ?_
  refine q_RP_call (v := (some (.int (q_b (dz_M202 s a1 0 511))))) (h2 := (q_kM s c n)) rfl rfl ((dzt_M202 s c n a1 0 511).le (Nat.le_of_ble_eq_true rfl)) ?_
  generalize dz_M202 s a1 0 511 = r4
  refine q_RP_let ?_
  show q_RP _ _ _ (9, [(0, .ref 64), (1, .int a1), (2, .int a2)], [.int (q_b r4), .ref 64], (q_kM s c n)) _ _
  cases h4 : r4 with
  | true =>
    refine q_RP_cT ?_
    show q_RP _ _ _ (9, [(0, .ref 64), (1, .int a1), (2, .int a2)], [.int 1, .ref 64], (q_kM s c n)) _ _
    refine q_RP_seg (g2 := (17, [(0, .ref 64), (1, .int a1), (2, .int a2)], [.int a2, .ref 64], (q_kM s c n))) 2 (fun _ _ => rfl) ?_
    refine q_RP_call (v := (some (.int (q_b (dz_M203 s a2))))) (h2 := (q_kM s c n)) rfl rfl ((dzt_M203 s c n a2).le (Nat.le_of_ble_eq_true rfl)) ?_
    generalize dz_M203 s a2 = r5
    refine q_RP_let ?_
    show q_RP _ _ _ (20, [(0, .ref 64), (1, .int a1), (2, .int a2)], [.int (q_b r5), .ref 64], (q_kM s c n)) _ _
    cases h5 : r5 with
    | true =>
      refine q_RP_cT ?_
      show q_RP _ _ _ (20, [(0, .ref 64), (1, .int a1), (2, .int a2)], [.int 1, .ref 64], (q_kM s c n)) _ _
      refine q_RP_seg (g2 := (28, [(0, .ref 64), (1, .int a1), (2, .int a2)], [.int 2, .ref 64], (q_kM s c n))) 3 (fun _ _ => rfl) ?_
      refine q_RP_call (v := (some (.int (q_b (dz_M200_64 s 2).2)))) (h2 := (q_kM (dz_M200_64 s 2).1 c n)) rfl rfl ((dzt_M200_64 s c n 2).le (Nat.le_of_ble_eq_true rfl)) ?_
      generalize dz_M200_64 s 2 = r6
      refine q_RP_let ?_
      show q_RP _ _ _ (31, [(0, .ref 64), (1, .int a1), (2, .int a2)], [.int (q_b r6.2)], (q_kM r6.1 c n)) _ _
      cases h6 : r6.2 with
      | true =>
        refine q_RP_cT ?_
        show q_RP _ _ _ (31, [(0, .ref 64), (1, .int a1), (2, .int a2)], [.int 1], (q_kM r6.1 c n)) _ _
        refine q_RP_seg (g2 := (35, [(0, .ref 64), (1, .int a1), (2, .int a2)], [.int 0], (q_kM r6.1 c n))) 2 (fun _ _ => rfl) ?_
        exact q_RP_ret rfl rfl rfl
      | false =>
        refine q_RP_cF ?_
        show q_RP _ _ _ (31, [(0, .ref 64), (1, .int a1), (2, .int a2)], [.int 0], (q_kM r6.1 c n)) _ _
        refine q_RP_seg (g2 := (41, [(0, .ref 64), (1, .int a1), (2, .int a2)], [.int a1, .ref 66], (q_kM r6.1 c n))) 4 (fun _ _ => rfl) ?_
        refine q_RP_as fun i7 => ?_
        refine q_RP_rsT (g2 := (42, [(0, .ref 64), (1, .int a1), (2, .int a2)], [.int ((r6.1.1 2) (a1.toNatClampNeg))], (q_kM r6.1 c n))) rfl rfl i7 ?_
        refine q_RP_seg (g2 := (49, [(3, .int ((r6.1.1 2) (a1.toNatClampNeg))), (0, .ref 64), (1, .int a1), (2, .int a2)], [.int a2, .int a1, .ref 66], (q_kM r6.1 c n))) 5 (fun _ _ => rfl) ?_
        refine q_RP_rsT (g2 := (50, [(3, .int ((r6.1.1 2) (a1.toNatClampNeg))), (0, .ref 64), (1, .int a1), (2, .int a2)], [], (q_kM (q_sA r6.1 2 (upd (r6.1.1 2) (a1.toNatClampNeg) a2)) c n))) rfl q_wM2 i7 ?_
        refine q_RP_seg (g2 := (51, [(3, .int ((r6.1.1 2) (a1.toNatClampNeg))), (0, .ref 64), (1, .int a1), (2, .int a2)], [.ref 64], (q_kM (q_sA r6.1 2 (upd (r6.1.1 2) (a1.toNatClampNeg) a2)) c n))) 1 (fun _ _ => rfl) ?_
        refine q_RP_call (v := none) (h2 := (q_kM (dz_M205_64 (q_sA r6.1 2 (upd (r6.1.1 2) (a1.toNatClampNeg) a2))) c n)) rfl rfl ((dzt_M205_64 (q_sA r6.1 2 (upd (r6.1.1 2) (a1.toNatClampNeg) a2)) c n).le (Nat.le_of_ble_eq_true rfl)) ?_
        generalize dz_M205_64 (q_sA r6.1 2 (upd (r6.1.1 2) (a1.toNatClampNeg) a2)) = r7
        refine q_RP_let ?_
        show q_RP _ _ _ (54, [(3, .int ((r6.1.1 2) (a1.toNatClampNeg))), (0, .ref 64), (1, .int a1), (2, .int a2)], [], (q_kM r7 c n)) _ _
        refine q_RP_seg (g2 := (55, [(3, .int ((r6.1.1 2) (a1.toNatClampNeg))), (0, .ref 64), (1, .int a1), (2, .int a2)], [.int ((r6.1.1 2) (a1.toNatClampNeg))], (q_kM r7 c n))) 1 (fun _ _ => rfl) ?_
        exact q_RP_ret rfl rfl rfl
    | false =>
      refine q_RP_cF ?_
      show q_RP _ _ _ (20, [(0, .ref 64), (1, .int a1), (2, .int a2)], [.int 0, .ref 64], (q_kM s c n)) _ _
      refine q_RP_seg (g2 := (28, [(0, .ref 64), (1, .int a1), (2, .int a2)], [.int 0, .ref 64], (q_kM s c n))) 2 (fun _ _ => rfl) ?_
      refine q_RP_call (v := (some (.int (q_b (dz_M200_64 s 0).2)))) (h2 := (q_kM (dz_M200_64 s 0).1 c n)) rfl rfl ((dzt_M200_64 s c n 0).le (Nat.le_of_ble_eq_true rfl)) ?_
      generalize dz_M200_64 s 0 = r8
      refine q_RP_let ?_
      show q_RP _ _ _ (31, [(0, .ref 64), (1, .int a1), (2, .int a2)], [.int (q_b r8.2)], (q_kM r8.1 c n)) _ _
      cases h8 : r8.2 with
      | true =>
        refine q_RP_cT ?_
        show q_RP _ _ _ (31, [(0, .ref 64), (1, .int a1), (2, .int a2)], [.int 1], (q_kM r8.1 c n)) _ _
        refine q_RP_seg (g2 := (35, [(0, .ref 64), (1, .int a1), (2, .int a2)], [.int 0], (q_kM r8.1 c n))) 2 (fun _ _ => rfl) ?_
        exact q_RP_ret rfl rfl rfl
      | false =>
        refine q_RP_cF ?_
        show q_RP _ _ _ (31, [(0, .ref 64), (1, .int a1), (2, .int a2)], [.int 0], (q_kM r8.1 c n)) _ _
        refine q_RP_seg (g2 := (41, [(0, .ref 64), (1, .int a1), (2, .int a2)], [.int a1, .ref 66], (q_kM r8.1 c n))) 4 (fun _ _ => rfl) ?_
        refine q_RP_as fun i9 => ?_
        refine q_RP_rsT (g2 := (42, [(0, .ref 64), (1, .int a1), (2, .int a2)], [.int ((r8.1.1 2) (a1.toNatClampNeg))], (q_kM r8.1 c n))) rfl rfl i9 ?_
        refine q_RP_seg (g2 := (49, [(3, .int ((r8.1.1 2) (a1.toNatClampNeg))), (0, .ref 64), (1, .int a1), (2, .int a2)], [.int a2, .int a1, .ref 66], (q_kM r8.1 c n))) 5 (fun _ _ => rfl) ?_
        refine q_RP_rsT (g2 := (50, [(3, .int ((r8.1.1 2) (a1.toNatClampNeg))), (0, .ref 64), (1, .int a1), (2, .int a2)], [], (q_kM (q_sA r8.1 2 (upd (r8.1.1 2) (a1.toNatClampNeg) a2)) c n))) rfl q_wM2 i9 ?_
        refine q_RP_seg (g2 := (51, [(3, .int ((r8.1.1 2) (a1.toNatClampNeg))), (0, .ref 64), (1, .int a1), (2, .int a2)], [.ref 64], (q_kM (q_sA r8.1 2 (upd (r8.1.1 2) (a1.toNatClampNeg) a2)) c n))) 1 (fun _ _ => rfl) ?_
        refine q_RP_call (v := none) (h2 := (q_kM (dz_M205_64 (q_sA r8.1 2 (upd (r8.1.1 2) (a1.toNatClampNeg) a2))) c n)) rfl rfl ((dzt_M205_64 (q_sA r8.1 2 (upd (r8.1.1 2) (a1.toNatClampNeg) a2)) c n).le (Nat.le_of_ble_eq_true rfl)) ?_
        generalize dz_M205_64 (q_sA r8.1 2 (upd (r8.1.1 2) (a1.toNatClampNeg) a2)) = r9
        refine q_RP_let ?_
        show q_RP _ _ _ (54, [(3, .int ((r8.1.1 2) (a1.toNatClampNeg))), (0, .ref 64), (1, .int a1), (2, .int a2)], [], (q_kM r9 c n)) _ _
        refine q_RP_seg (g2 := (55, [(3, .int ((r8.1.1 2) (a1.toNatClampNeg))), (0, .ref 64), (1, .int a1), (2, .int a2)], [.int ((r8.1.1 2) (a1.toNatClampNeg))], (q_kM r9 c n))) 1 (fun _ _ => rfl) ?_
        exact q_RP_ret rfl rfl rfl
  | false =>
    refine q_RP_cF ?_
    show q_RP _ _ _ (9, [(0, .ref 64), (1, .int a1), (2, .int a2)], [.int 0, .ref 64], (q_kM s c n)) _ _
    refine q_RP_seg (g2 := (28, [(0, .ref 64), (1, .int a1), (2, .int a2)], [.int 1, .ref 64], (q_kM s c n))) 3 (fun _ _ => rfl) ?_
    refine q_RP_call (v := (some (.int (q_b (dz_M200_64 s 1).2)))) (h2 := (q_kM (dz_M200_64 s 1).1 c n)) rfl rfl ((dzt_M200_64 s c n 1).le (Nat.le_of_ble_eq_true rfl)) ?_
    generalize dz_M200_64 s 1 = r10
    refine q_RP_let ?_
    show q_RP _ _ _ (31, [(0, .ref 64), (1, .int a1), (2, .int a2)], [.int (q_b r10.2)], (q_kM r10.1 c n)) _ _
    cases h10 : r10.2 with
    | true =>
      refine q_RP_cT ?_
      show q_RP _ _ _ (31, [(0, .ref 64), (1, .int a1), (2, .int a2)], [.int 1], (q_kM r10.1 c n)) _ _
      refine q_RP_seg (g2 := (35, [(0, .ref 64), (1, .int a1), (2, .int a2)], [.int 0], (q_kM r10.1 c n))) 2 (fun _ _ => rfl) ?_
      exact q_RP_ret rfl rfl rfl
    | false =>
      refine q_RP_cF ?_
      show q_RP _ _ _ (31, [(0, .ref 64), (1, .int a1), (2, .int a2)], [.int 0], (q_kM r10.1 c n)) _ _
      refine q_RP_seg (g2 := (41, [(0, .ref 64), (1, .int a1), (2, .int a2)], [.int a1, .ref 66], (q_kM r10.1 c n))) 4 (fun _ _ => rfl) ?_
      refine q_RP_as fun i11 => ?_
      refine q_RP_rsT (g2 := (42, [(0, .ref 64), (1, .int a1), (2, .int a2)], [.int ((r10.1.1 2) (a1.toNatClampNeg))], (q_kM r10.1 c n))) rfl rfl i11 ?_
      refine q_RP_seg (g2 := (49, [(3, .int ((r10.1.1 2) (a1.toNatClampNeg))), (0, .ref 64), (1, .int a1), (2, .int a2)], [.int a2, .int a1, .ref 66], (q_kM r10.1 c n))) 5 (fun _ _ => rfl) ?_
      refine q_RP_rsT (g2 := (50, [(3, .int ((r10.1.1 2) (a1.toNatClampNeg))), (0, .ref 64), (1, .int a1), (2, .int a2)], [], (q_kM (q_sA r10.1 2 (upd (r10.1.1 2) (a1.toNatClampNeg) a2)) c n))) rfl q_wM2 i11 ?_
      refine q_RP_seg (g2 := (51, [(3, .int ((r10.1.1 2) (a1.toNatClampNeg))), (0, .ref 64), (1, .int a1), (2, .int a2)], [.ref 64], (q_kM (q_sA r10.1 2 (upd (r10.1.1 2) (a1.toNatClampNeg) a2)) c n))) 1 (fun _ _ => rfl) ?_
      refine q_RP_call (v := none) (h2 := (q_kM (dz_M205_64 (q_sA r10.1 2 (upd (r10.1.1 2) (a1.toNatClampNeg) a2))) c n)) rfl rfl ((dzt_M205_64 (q_sA r10.1 2 (upd (r10.1.1 2) (a1.toNatClampNeg) a2)) c n).le (Nat.le_of_ble_eq_true rfl)) ?_
      generalize dz_M205_64 (q_sA r10.1 2 (upd (r10.1.1 2) (a1.toNatClampNeg) a2)) = r11
      refine q_RP_let ?_
      show q_RP _ _ _ (54, [(3, .int ((r10.1.1 2) (a1.toNatClampNeg))), (0, .ref 64), (1, .int a1), (2, .int a2)], [], (q_kM r11 c n)) _ _
      refine q_RP_seg (g2 := (55, [(3, .int ((r10.1.1 2) (a1.toNatClampNeg))), (0, .ref 64), (1, .int a1), (2, .int a2)], [.int ((r10.1.1 2) (a1.toNatClampNeg))], (q_kM r11 c n))) 1 (fun _ _ => rfl) ?_
      exact q_RP_ret rfl rfl rfl
def dz_M218_64 (s : q_S) (a1 : Int32) (a2 : Int32) (a3 : Int32) : Option (q_S × Int32) :=
  q_let (dz_M202 s a1 0 3) fun r5 => cond r5 (q_let (dz_M202 s a2 0 511) fun r6 => cond r6 (q_let (dz_M203 s a3) fun r7 => cond r7 (q_let (dz_M200_64 s 2) fun r8 => cond r8.2 (some (r8.1, 0)) (cond (q_in ((512 * a1) + a2) 2048) (q_let (dz_M205_64 (q_sA r8.1 3 (upd (r8.1.1 3) (((512 * a1) + a2).toNatClampNeg) a3))) fun r9 => some (r9, ((r8.1.1 3) (((512 * a1) + a2).toNatClampNeg)))) none)) (q_let (dz_M200_64 s 0) fun r10 => cond r10.2 (some (r10.1, 0)) (cond (q_in ((512 * a1) + a2) 2048) (q_let (dz_M205_64 (q_sA r10.1 3 (upd (r10.1.1 3) (((512 * a1) + a2).toNatClampNeg) a3))) fun r11 => some (r11, ((r10.1.1 3) (((512 * a1) + a2).toNatClampNeg)))) none))) (q_let (dz_M200_64 s 1) fun r12 => cond r12.2 (some (r12.1, 0)) (cond (q_in ((512 * a1) + a2) 2048) (q_let (dz_M205_64 (q_sA r12.1 3 (upd (r12.1.1 3) (((512 * a1) + a2).toNatClampNeg) a3))) fun r13 => some (r13, ((r12.1.1 3) (((512 * a1) + a2).toNatClampNeg)))) none))) (q_let (dz_M200_64 s 1) fun r14 => cond r14.2 (some (r14.1, 0)) (cond (q_in ((512 * a1) + a2) 2048) (q_let (dz_M205_64 (q_sA r14.1 3 (upd (r14.1.1 3) (((512 * a1) + a2).toNatClampNeg) a3))) fun r15 => some (r15, ((r14.1.1 3) (((512 * a1) + a2).toNatClampNeg)))) none))
set_option maxHeartbeats 4000000 in
theorem dzt_M218_64 (s : q_S) (c n : Nat) (a1 : Int32) (a2 : Int32) (a3 : Int32) (x : q_S × Int32) (h : dz_M218_64 s a1 a2 a3 = some x) : q_Ca q_TB0 3 217 [.ref 64, .int a1, .int a2, .int a3] (q_kM s c n) ((q_oIM c n) x) := by
  refine q_CaP_of (φ := (q_oIM c n)) (Nat.le_of_ble_eq_true rfl) ?_ h
  clear h
  unfold dz_M218_64
  refine q_RP_seg (g2 := (4, [(0, .ref 64), (1, .int a1), (2, .int a2), (3, .int a3)], [.int 3, .int 0, .int a1, .ref 64], (q_kM s c n))) 4 (fun _ _ => rfl) ?_
  refine q_RP_call (v := (some (.int (q_b (dz_M202 s a1 0 3))))) (h2 := (q_kM s c n)) rfl rfl ((dzt_M202 s c n a1 0 3).le (Nat.le_of_ble_eq_true rfl)) ?_
  generalize dz_M202 s a1 0 3 = r5
  refine q_RP_let ?_
  show q_RP _ _ _ (7, [(0, .ref 64), (1, .int a1), (2, .int a2), (3, .int a3)], [.int (q_b r5), .ref 64], (q_kM s c n)) _ _
  cases h5 : r5 with
  | true =>
    refine q_RP_cT ?_
    show q_RP _ _ _ (7, [(0, .ref 64), (1, .int a1), (2, .int a2), (3, .int a3)], [.int 1, .ref 64], (q_kM s c n)) _ _
    refine q_RP_seg (g2 := (15, [(0, .ref 64), (1, .int a1), (2, .int a2), (3, .int a3)], [.int 511, .int 0, .int a2, .ref 64], (q_kM s c n))) 4 (fun _ _ => rfl) ?_
    refine q_RP_call (v := (some (.int (q_b (dz_M202 s a2 0 511))))) (h2 := (q_kM s c n)) rfl rfl ((dzt_M202 s c n a2 0 511).le (Nat.le_of_ble_eq_true rfl)) ?_
    generalize dz_M202 s a2 0 511 = r6
    refine q_RP_let ?_
    show q_RP _ _ _ (18, [(0, .ref 64), (1, .int a1), (2, .int a2), (3, .int a3)], [.int (q_b r6), .ref 64], (q_kM s c n)) _ _
    cases h6 : r6 with
    | true =>
      refine q_RP_cT ?_
      show q_RP _ _ _ (18, [(0, .ref 64), (1, .int a1), (2, .int a2), (3, .int a3)], [.int 1, .ref 64], (q_kM s c n)) _ _
      refine q_RP_seg (g2 := (26, [(0, .ref 64), (1, .int a1), (2, .int a2), (3, .int a3)], [.int a3, .ref 64], (q_kM s c n))) 2 (fun _ _ => rfl) ?_
      refine q_RP_call (v := (some (.int (q_b (dz_M203 s a3))))) (h2 := (q_kM s c n)) rfl rfl ((dzt_M203 s c n a3).le (Nat.le_of_ble_eq_true rfl)) ?_
      generalize dz_M203 s a3 = r7
      refine q_RP_let ?_
      show q_RP _ _ _ (29, [(0, .ref 64), (1, .int a1), (2, .int a2), (3, .int a3)], [.int (q_b r7), .ref 64], (q_kM s c n)) _ _
      cases h7 : r7 with
      | true =>
        refine q_RP_cT ?_
        show q_RP _ _ _ (29, [(0, .ref 64), (1, .int a1), (2, .int a2), (3, .int a3)], [.int 1, .ref 64], (q_kM s c n)) _ _
        refine q_RP_seg (g2 := (37, [(0, .ref 64), (1, .int a1), (2, .int a2), (3, .int a3)], [.int 2, .ref 64], (q_kM s c n))) 3 (fun _ _ => rfl) ?_
        refine q_RP_call (v := (some (.int (q_b (dz_M200_64 s 2).2)))) (h2 := (q_kM (dz_M200_64 s 2).1 c n)) rfl rfl ((dzt_M200_64 s c n 2).le (Nat.le_of_ble_eq_true rfl)) ?_
        generalize dz_M200_64 s 2 = r8
        refine q_RP_let ?_
        show q_RP _ _ _ (40, [(0, .ref 64), (1, .int a1), (2, .int a2), (3, .int a3)], [.int (q_b r8.2)], (q_kM r8.1 c n)) _ _
        cases h8 : r8.2 with
        | true =>
          refine q_RP_cT ?_
          show q_RP _ _ _ (40, [(0, .ref 64), (1, .int a1), (2, .int a2), (3, .int a3)], [.int 1], (q_kM r8.1 c n)) _ _
          refine q_RP_seg (g2 := (44, [(0, .ref 64), (1, .int a1), (2, .int a2), (3, .int a3)], [.int 0], (q_kM r8.1 c n))) 2 (fun _ _ => rfl) ?_
          exact q_RP_ret rfl rfl rfl
        | false =>
          refine q_RP_cF ?_
          show q_RP _ _ _ (40, [(0, .ref 64), (1, .int a1), (2, .int a2), (3, .int a3)], [.int 0], (q_kM r8.1 c n)) _ _
          refine q_RP_seg (g2 := (56, [(0, .ref 64), (1, .int a1), (2, .int a2), (3, .int a3)], [.int ((512 * a1) + a2), .ref 67], (q_kM r8.1 c n))) 8 (fun _ _ => rfl) ?_
          refine q_RP_as fun i9 => ?_
          refine q_RP_rsT (g2 := (57, [(0, .ref 64), (1, .int a1), (2, .int a2), (3, .int a3)], [.int ((r8.1.1 3) (((512 * a1) + a2).toNatClampNeg))], (q_kM r8.1 c n))) rfl rfl i9 ?_
          refine q_RP_seg (g2 := (71, [(4, .int ((r8.1.1 3) (((512 * a1) + a2).toNatClampNeg))), (0, .ref 64), (1, .int a1), (2, .int a2), (3, .int a3)], [.int a3, .int ((512 * a1) + a2), .ref 67], (q_kM r8.1 c n))) 9 (fun _ _ => rfl) ?_
          refine q_RP_rsT (g2 := (72, [(4, .int ((r8.1.1 3) (((512 * a1) + a2).toNatClampNeg))), (0, .ref 64), (1, .int a1), (2, .int a2), (3, .int a3)], [], (q_kM (q_sA r8.1 3 (upd (r8.1.1 3) (((512 * a1) + a2).toNatClampNeg) a3)) c n))) rfl q_wM3 i9 ?_
          refine q_RP_seg (g2 := (73, [(4, .int ((r8.1.1 3) (((512 * a1) + a2).toNatClampNeg))), (0, .ref 64), (1, .int a1), (2, .int a2), (3, .int a3)], [.ref 64], (q_kM (q_sA r8.1 3 (upd (r8.1.1 3) (((512 * a1) + a2).toNatClampNeg) a3)) c n))) 1 (fun _ _ => rfl) ?_
          refine q_RP_call (v := none) (h2 := (q_kM (dz_M205_64 (q_sA r8.1 3 (upd (r8.1.1 3) (((512 * a1) + a2).toNatClampNeg) a3))) c n)) rfl rfl ((dzt_M205_64 (q_sA r8.1 3 (upd (r8.1.1 3) (((512 * a1) + a2).toNatClampNeg) a3)) c n).le (Nat.le_of_ble_eq_true rfl)) ?_
          generalize dz_M205_64 (q_sA r8.1 3 (upd (r8.1.1 3) (((512 * a1) + a2).toNatClampNeg) a3)) = r9
          refine q_RP_let ?_
          show q_RP _ _ _ (76, [(4, .int ((r8.1.1 3) (((512 * a1) + a2).toNatClampNeg))), (0, .ref 64), (1, .int a1), (2, .int a2), (3, .int a3)], [], (q_kM r9 c n)) _ _
          refine q_RP_seg (g2 := (78, [(4, .int ((r8.1.1 3) (((512 * a1) + a2).toNatClampNeg))), (0, .ref 64), (1, .int a1), (2, .int a2), (3, .int a3)], [.int ((r8.1.1 3) (((512 * a1) + a2).toNatClampNeg))], (q_kM r9 c n))) 1 (fun _ _ => rfl) ?_
          exact q_RP_ret rfl rfl rfl
      | false =>
        refine q_RP_cF ?_
        show q_RP _ _ _ (29, [(0, .ref 64), (1, .int a1), (2, .int a2), (3, .int a3)], [.int 0, .ref 64], (q_kM s c n)) _ _
        refine q_RP_seg (g2 := (37, [(0, .ref 64), (1, .int a1), (2, .int a2), (3, .int a3)], [.int 0, .ref 64], (q_kM s c n))) 2 (fun _ _ => rfl) ?_
        refine q_RP_call (v := (some (.int (q_b (dz_M200_64 s 0).2)))) (h2 := (q_kM (dz_M200_64 s 0).1 c n)) rfl rfl ((dzt_M200_64 s c n 0).le (Nat.le_of_ble_eq_true rfl)) ?_
        generalize dz_M200_64 s 0 = r10
        refine q_RP_let ?_
        show q_RP _ _ _ (40, [(0, .ref 64), (1, .int a1), (2, .int a2), (3, .int a3)], [.int (q_b r10.2)], (q_kM r10.1 c n)) _ _
        cases h10 : r10.2 with
        | true =>
          refine q_RP_cT ?_
          show q_RP _ _ _ (40, [(0, .ref 64), (1, .int a1), (2, .int a2), (3, .int a3)], [.int 1], (q_kM r10.1 c n)) _ _
          refine q_RP_seg (g2 := (44, [(0, .ref 64), (1, .int a1), (2, .int a2), (3, .int a3)], [.int 0], (q_kM r10.1 c n))) 2 (fun _ _ => rfl) ?_
          exact q_RP_ret rfl rfl rfl
        | false =>
          refine q_RP_cF ?_
          show q_RP _ _ _ (40, [(0, .ref 64), (1, .int a1), (2, .int a2), (3, .int a3)], [.int 0], (q_kM r10.1 c n)) _ _
          refine q_RP_seg (g2 := (56, [(0, .ref 64), (1, .int a1), (2, .int a2), (3, .int a3)], [.int ((512 * a1) + a2), .ref 67], (q_kM r10.1 c n))) 8 (fun _ _ => rfl) ?_
          refine q_RP_as fun i11 => ?_
          refine q_RP_rsT (g2 := (57, [(0, .ref 64), (1, .int a1), (2, .int a2), (3, .int a3)], [.int ((r10.1.1 3) (((512 * a1) + a2).toNatClampNeg))], (q_kM r10.1 c n))) rfl rfl i11 ?_
          refine q_RP_seg (g2 := (71, [(4, .int ((r10.1.1 3) (((512 * a1) + a2).toNatClampNeg))), (0, .ref 64), (1, .int a1), (2, .int a2), (3, .int a3)], [.int a3, .int ((512 * a1) + a2), .ref 67], (q_kM r10.1 c n))) 9 (fun _ _ => rfl) ?_
          refine q_RP_rsT (g2 := (72, [(4, .int ((r10.1.1 3) (((512 * a1) + a2).toNatClampNeg))), (0, .ref 64), (1, .int a1), (2, .int a2), (3, .int a3)], [], (q_kM (q_sA r10.1 3 (upd (r10.1.1 3) (((512 * a1) + a2).toNatClampNeg) a3)) c n))) rfl q_wM3 i11 ?_
          refine q_RP_seg (g2 := (73, [(4, .int ((r10.1.1 3) (((512 * a1) + a2).toNatClampNeg))), (0, .ref 64), (1, .int a1), (2, .int a2), (3, .int a3)], [.ref 64], (q_kM (q_sA r10.1 3 (upd (r10.1.1 3) (((512 * a1) + a2).toNatClampNeg) a3)) c n))) 1 (fun _ _ => rfl) ?_
          refine q_RP_call (v := none) (h2 := (q_kM (dz_M205_64 (q_sA r10.1 3 (upd (r10.1.1 3) (((512 * a1) + a2).toNatClampNeg) a3))) c n)) rfl rfl ((dzt_M205_64 (q_sA r10.1 3 (upd (r10.1.1 3) (((512 * a1) + a2).toNatClampNeg) a3)) c n).le (Nat.le_of_ble_eq_true rfl)) ?_
          generalize dz_M205_64 (q_sA r10.1 3 (upd (r10.1.1 3) (((512 * a1) + a2).toNatClampNeg) a3)) = r11
          refine q_RP_let ?_
          show q_RP _ _ _ (76, [(4, .int ((r10.1.1 3) (((512 * a1) + a2).toNatClampNeg))), (0, .ref 64), (1, .int a1), (2, .int a2), (3, .int a3)], [], (q_kM r11 c n)) _ _
          refine q_RP_seg (g2 := (78, [(4, .int ((r10.1.1 3) (((512 * a1) + a2).toNatClampNeg))), (0, .ref 64), (1, .int a1), (2, .int a2), (3, .int a3)], [.int ((r10.1.1 3) (((512 * a1) + a2).toNatClampNeg))], (q_kM r11 c n))) 1 (fun _ _ => rfl) ?_
          exact q_RP_ret rfl rfl rfl
    | false =>
      refine q_RP_cF ?_
      show q_RP _ _ _ (18, [(0, .ref 64), (1, .int a1), (2, .int a2), (3, .int a3)], [.int 0, .ref 64], (q_kM s c n)) _ _
      refine q_RP_seg (g2 := (37, [(0, .ref 64), (1, .int a1), (2, .int a2), (3, .int a3)], [.int 1, .ref 64], (q_kM s c n))) 3 (fun _ _ => rfl) ?_
      refine q_RP_call (v := (some (.int (q_b (dz_M200_64 s 1).2)))) (h2 := (q_kM (dz_M200_64 s 1).1 c n)) rfl rfl ((dzt_M200_64 s c n 1).le (Nat.le_of_ble_eq_true rfl)) ?_
      generalize dz_M200_64 s 1 = r12
      refine q_RP_let ?_
      show q_RP _ _ _ (40, [(0, .ref 64), (1, .int a1), (2, .int a2), (3, .int a3)], [.int (q_b r12.2)], (q_kM r12.1 c n)) _ _
      cases h12 : r12.2 with
      | true =>
        refine q_RP_cT ?_
        show q_RP _ _ _ (40, [(0, .ref 64), (1, .int a1), (2, .int a2), (3, .int a3)], [.int 1], (q_kM r12.1 c n)) _ _
        refine q_RP_seg (g2 := (44, [(0, .ref 64), (1, .int a1), (2, .int a2), (3, .int a3)], [.int 0], (q_kM r12.1 c n))) 2 (fun _ _ => rfl) ?_
        exact q_RP_ret rfl rfl rfl
      | false =>
        refine q_RP_cF ?_
        show q_RP _ _ _ (40, [(0, .ref 64), (1, .int a1), (2, .int a2), (3, .int a3)], [.int 0], (q_kM r12.1 c n)) _ _
        refine q_RP_seg (g2 := (56, [(0, .ref 64), (1, .int a1), (2, .int a2), (3, .int a3)], [.int ((512 * a1) + a2), .ref 67], (q_kM r12.1 c n))) 8 (fun _ _ => rfl) ?_
        refine q_RP_as fun i13 => ?_
        refine q_RP_rsT (g2 := (57, [(0, .ref 64), (1, .int a1), (2, .int a2), (3, .int a3)], [.int ((r12.1.1 3) (((512 * a1) + a2).toNatClampNeg))], (q_kM r12.1 c n))) rfl rfl i13 ?_
        refine q_RP_seg (g2 := (71, [(4, .int ((r12.1.1 3) (((512 * a1) + a2).toNatClampNeg))), (0, .ref 64), (1, .int a1), (2, .int a2), (3, .int a3)], [.int a3, .int ((512 * a1) + a2), .ref 67], (q_kM r12.1 c n))) 9 (fun _ _ => rfl) ?_
        refine q_RP_rsT (g2 := (72, [(4, .int ((r12.1.1 3) (((512 * a1) + a2).toNatClampNeg))), (0, .ref 64), (1, .int a1), (2, .int a2), (3, .int a3)], [], (q_kM (q_sA r12.1 3 (upd (r12.1.1 3) (((512 * a1) + a2).toNatClampNeg) a3)) c n))) rfl q_wM3 i13 ?_
        refine q_RP_seg (g2 := (73, [(4, .int ((r12.1.1 3) (((512 * a1) + a2).toNatClampNeg))), (0, .ref 64), (1, .int a1), (2, .int a2), (3, .int a3)], [.ref 64], (q_kM (q_sA r12.1 3 (upd (r12.1.1 3) (((512 * a1) + a2).toNatClampNeg) a3)) c n))) 1 (fun _ _ => rfl) ?_
        refine q_RP_call (v := none) (h2 := (q_kM (dz_M205_64 (q_sA r12.1 3 (upd (r12.1.1 3) (((512 * a1) + a2).toNatClampNeg) a3))) c n)) rfl rfl ((dzt_M205_64 (q_sA r12.1 3 (upd (r12.1.1 3) (((512 * a1) + a2).toNatClampNeg) a3)) c n).le (Nat.le_of_ble_eq_true rfl)) ?_
        generalize dz_M205_64 (q_sA r12.1 3 (upd (r12.1.1 3) (((512 * a1) + a2).toNatClampNeg) a3)) = r13
        refine q_RP_let ?_
        show q_RP _ _ _ (76, [(4, .int ((r12.1.1 3) (((512 * a1) + a2).toNatClampNeg))), (0, .ref 64), (1, .int a1), (2, .int a2), (3, .int a3)], [], (q_kM r13 c n)) _ _
        refine q_RP_seg (g2 := (78, [(4, .int ((r12.1.1 3) (((512 * a1) + a2).toNatClampNeg))), (0, .ref 64), (1, .int a1), (2, .int a2), (3, .int a3)], [.int ((r12.1.1 3) (((512 * a1) + a2).toNatClampNeg))], (q_kM r13 c n))) 1 (fun _ _ => rfl) ?_
        exact q_RP_ret rfl rfl rfl
  | false =>
    refine q_RP_cF ?_
    show q_RP _ _ _ (7, [(0, .ref 64), (1, .int a1), (2, .int a2), (3, .int a3)], [.int 0, .ref 64], (q_kM s c n)) _ _
    refine q_RP_seg (g2 := (37, [(0, .ref 64), (1, .int a1), (2, .int a2), (3, .int a3)], [.int 1, .ref 64], (q_kM s c n))) 3 (fun _ _ => rfl) ?_
    refine q_RP_call (v := (some (.int (q_b (dz_M200_64 s 1).2)))) (h2 := (q_kM (dz_M200_64 s 1).1 c n)) rfl rfl ((dzt_M200_64 s c n 1).le (Nat.le_of_ble_eq_true rfl)) ?_
    generalize dz_M200_64 s 1 = r14
    refine q_RP_let ?_
    show q_RP _ _ _ (40, [(0, .ref 64), (1, .int a1), (2, .int a2), (3, .int a3)], [.int (q_b r14.2)], (q_kM r14.1 c n)) _ _
    cases h14 : r14.2 with
    | true =>
      refine q_RP_cT ?_
      show q_RP _ _ _ (40, [(0, .ref 64), (1, .int a1), (2, .int a2), (3, .int a3)], [.int 1], (q_kM r14.1 c n)) _ _
      refine q_RP_seg (g2 := (44, [(0, .ref 64), (1, .int a1), (2, .int a2), (3, .int a3)], [.int 0], (q_kM r14.1 c n))) 2 (fun _ _ => rfl) ?_
      exact q_RP_ret rfl rfl rfl
    | false =>
      refine q_RP_cF ?_
      show q_RP _ _ _ (40, [(0, .ref 64), (1, .int a1), (2, .int a2), (3, .int a3)], [.int 0], (q_kM r14.1 c n)) _ _
      refine q_RP_seg (g2 := (56, [(0, .ref 64), (1, .int a1), (2, .int a2), (3, .int a3)], [.int ((512 * a1) + a2), .ref 67], (q_kM r14.1 c n))) 8 (fun _ _ => rfl) ?_
      refine q_RP_as fun i15 => ?_
      refine q_RP_rsT (g2 := (57, [(0, .ref 64), (1, .int a1), (2, .int a2), (3, .int a3)], [.int ((r14.1.1 3) (((512 * a1) + a2).toNatClampNeg))], (q_kM r14.1 c n))) rfl rfl i15 ?_
      refine q_RP_seg (g2 := (71, [(4, .int ((r14.1.1 3) (((512 * a1) + a2).toNatClampNeg))), (0, .ref 64), (1, .int a1), (2, .int a2), (3, .int a3)], [.int a3, .int ((512 * a1) + a2), .ref 67], (q_kM r14.1 c n))) 9 (fun _ _ => rfl) ?_
      refine q_RP_rsT (g2 := (72, [(4, .int ((r14.1.1 3) (((512 * a1) + a2).toNatClampNeg))), (0, .ref 64), (1, .int a1), (2, .int a2), (3, .int a3)], [], (q_kM (q_sA r14.1 3 (upd (r14.1.1 3) (((512 * a1) + a2).toNatClampNeg) a3)) c n))) rfl q_wM3 i15 ?_
      refine q_RP_seg (g2 := (73, [(4, .int ((r14.1.1 3) (((512 * a1) + a2).toNatClampNeg))), (0, .ref 64), (1, .int a1), (2, .int a2), (3, .int a3)], [.ref 64], (q_kM (q_sA r14.1 3 (upd (r14.1.1 3) (((512 * a1) + a2).toNatClampNeg) a3)) c n))) 1 (fun _ _ => rfl) ?_
      refine q_RP_call (v := none) (h2 := (q_kM (dz_M205_64 (q_sA r14.1 3 (upd (r14.1.1 3) (((512 * a1) + a2).toNatClampNeg) a3))) c n)) rfl rfl ((dzt_M205_64 (q_sA r14.1 3 (upd (r14.1.1 3) (((512 * a1) + a2).toNatClampNeg) a3)) c n).le (Nat.le_of_ble_eq_true rfl)) ?_
      generalize dz_M205_64 (q_sA r14.1 3 (upd (r14.1.1 3) (((512 * a1) + a2).toNatClampNeg) a3)) = r15
      refine q_RP_let ?_
      show q_RP _ _ _ (76, [(4, .int ((r14.1.1 3) (((512 * a1) + a2).toNatClampNeg))), (0, .ref 64), (1, .int a1), (2, .int a2), (3, .int a3)], [], (q_kM r15 c n)) _ _
      refine q_RP_seg (g2 := (78, [(4, .int ((r14.1.1 3) (((512 * a1) + a2).toNatClampNeg))), (0, .ref 64), (1, .int a1), (2, .int a2), (3, .int a3)], [.int ((r14.1.1 3) (((512 * a1) + a2).toNatClampNeg))], (q_kM r15 c n))) 1 (fun _ _ => rfl) ?_
      exact q_RP_ret rfl rfl rfl
def dz_M219_64 (s : q_S) (a1 : Int32) : Option (q_S × Int32) :=
  q_let (dz_M204 s a1) fun r4 => cond r4 (q_let (dz_M200_64 s 1) fun r5 => cond r5.2 (some (r5.1, 0)) ((dz_M214_64 r5.1 a1).bind fun r6 => some (r6.1, r6.2))) (q_let (dz_M200_64 s 0) fun r7 => cond r7.2 (some (r7.1, 0)) ((dz_M214_64 r7.1 a1).bind fun r8 => some (r8.1, r8.2)))
set_option maxHeartbeats 4000000 in
theorem dzt_M219_64 (s : q_S) (c n : Nat) (a1 : Int32) (x : q_S × Int32) (h : dz_M219_64 s a1 = some x) : q_Ca q_TB0 5 218 [.ref 64, .int a1] (q_kM s c n) ((q_oIM c n) x) := by
  refine q_CaP_of (φ := (q_oIM c n)) (Nat.le_of_ble_eq_true rfl) ?_ h
  clear h
  unfold dz_M219_64
  refine q_RP_seg (g2 := (2, [(0, .ref 64), (1, .int a1)], [.int a1, .ref 64], (q_kM s c n))) 2 (fun _ _ => rfl) ?_
  refine q_RP_call (v := (some (.int (q_b (dz_M204 s a1))))) (h2 := (q_kM s c n)) rfl rfl ((dzt_M204 s c n a1).le (Nat.le_of_ble_eq_true rfl)) ?_
  generalize dz_M204 s a1 = r4
  refine q_RP_let ?_
  show q_RP _ _ _ (5, [(0, .ref 64), (1, .int a1)], [.int (q_b r4), .ref 64], (q_kM s c n)) _ _
  cases h3 : r4 with
  | true =>
    refine q_RP_cT ?_
    show q_RP _ _ _ (5, [(0, .ref 64), (1, .int a1)], [.int 1, .ref 64], (q_kM s c n)) _ _
    refine q_RP_seg (g2 := (13, [(0, .ref 64), (1, .int a1)], [.int 1, .ref 64], (q_kM s c n))) 3 (fun _ _ => rfl) ?_
    refine q_RP_call (v := (some (.int (q_b (dz_M200_64 s 1).2)))) (h2 := (q_kM (dz_M200_64 s 1).1 c n)) rfl rfl ((dzt_M200_64 s c n 1).le (Nat.le_of_ble_eq_true rfl)) ?_
    generalize dz_M200_64 s 1 = r5
    refine q_RP_let ?_
    show q_RP _ _ _ (16, [(0, .ref 64), (1, .int a1)], [.int (q_b r5.2)], (q_kM r5.1 c n)) _ _
    cases h4 : r5.2 with
    | true =>
      refine q_RP_cT ?_
      show q_RP _ _ _ (16, [(0, .ref 64), (1, .int a1)], [.int 1], (q_kM r5.1 c n)) _ _
      refine q_RP_seg (g2 := (28, [(0, .ref 64), (1, .int a1)], [.int 0], (q_kM r5.1 c n))) 3 (fun _ _ => rfl) ?_
      exact q_RP_ret rfl rfl rfl
    | false =>
      refine q_RP_cF ?_
      show q_RP _ _ _ (16, [(0, .ref 64), (1, .int a1)], [.int 0], (q_kM r5.1 c n)) _ _
      refine q_RP_seg (g2 := (25, [(0, .ref 64), (1, .int a1)], [.int a1, .ref 64], (q_kM r5.1 c n))) 3 (fun _ _ => rfl) ?_
      refine q_RP_bd fun r6 er6 => ?_
      refine q_RP_call (v := (some (.int r6.2))) (h2 := (q_kM r6.1 c n)) rfl rfl ((dzt_M214_64 r5.1 c n a1 r6 er6).le (Nat.le_of_ble_eq_true rfl)) ?_
      show q_RP _ _ _ (28, [(0, .ref 64), (1, .int a1)], [.int r6.2], (q_kM r6.1 c n)) _ _
      exact q_RP_ret rfl rfl rfl
  | false =>
    refine q_RP_cF ?_
    show q_RP _ _ _ (5, [(0, .ref 64), (1, .int a1)], [.int 0, .ref 64], (q_kM s c n)) _ _
    refine q_RP_seg (g2 := (13, [(0, .ref 64), (1, .int a1)], [.int 0, .ref 64], (q_kM s c n))) 2 (fun _ _ => rfl) ?_
    refine q_RP_call (v := (some (.int (q_b (dz_M200_64 s 0).2)))) (h2 := (q_kM (dz_M200_64 s 0).1 c n)) rfl rfl ((dzt_M200_64 s c n 0).le (Nat.le_of_ble_eq_true rfl)) ?_
    generalize dz_M200_64 s 0 = r7
    refine q_RP_let ?_
    show q_RP _ _ _ (16, [(0, .ref 64), (1, .int a1)], [.int (q_b r7.2)], (q_kM r7.1 c n)) _ _
    cases h5 : r7.2 with
    | true =>
      refine q_RP_cT ?_
      show q_RP _ _ _ (16, [(0, .ref 64), (1, .int a1)], [.int 1], (q_kM r7.1 c n)) _ _
      refine q_RP_seg (g2 := (28, [(0, .ref 64), (1, .int a1)], [.int 0], (q_kM r7.1 c n))) 3 (fun _ _ => rfl) ?_
      exact q_RP_ret rfl rfl rfl
    | false =>
      refine q_RP_cF ?_
      show q_RP _ _ _ (16, [(0, .ref 64), (1, .int a1)], [.int 0], (q_kM r7.1 c n)) _ _
      refine q_RP_seg (g2 := (25, [(0, .ref 64), (1, .int a1)], [.int a1, .ref 64], (q_kM r7.1 c n))) 3 (fun _ _ => rfl) ?_
      refine q_RP_bd fun r8 er8 => ?_
      refine q_RP_call (v := (some (.int r8.2))) (h2 := (q_kM r8.1 c n)) rfl rfl ((dzt_M214_64 r7.1 c n a1 r8 er8).le (Nat.le_of_ble_eq_true rfl)) ?_
      show q_RP _ _ _ (28, [(0, .ref 64), (1, .int a1)], [.int r8.2], (q_kM r8.1 c n)) _ _
      exact q_RP_ret rfl rfl rfl
def dz_M220_64 (s : q_S) (a1 : Int32) : Option (q_S × Int32) :=
  q_let (dz_M204 s a1) fun r3 => cond r3 (q_let (dz_M200_64 s 1) fun r4 => cond r4.2 (some (r4.1, 0)) (cond (q_in a1 4096) (some (r4.1, ((r4.1.1 1) (a1.toNatClampNeg)))) none)) (q_let (dz_M200_64 s 0) fun r5 => cond r5.2 (some (r5.1, 0)) (cond (q_in a1 4096) (some (r5.1, ((r5.1.1 1) (a1.toNatClampNeg)))) none))
set_option maxHeartbeats 4000000 in
theorem dzt_M220_64 (s : q_S) (c n : Nat) (a1 : Int32) (x : q_S × Int32) (h : dz_M220_64 s a1 = some x) : q_Ca q_TB0 3 219 [.ref 64, .int a1] (q_kM s c n) ((q_oIM c n) x) := by
  refine q_CaP_of (φ := (q_oIM c n)) (Nat.le_of_ble_eq_true rfl) ?_ h
  clear h
  unfold dz_M220_64
  refine q_RP_seg (g2 := (2, [(0, .ref 64), (1, .int a1)], [.int a1, .ref 64], (q_kM s c n))) 2 (fun _ _ => rfl) ?_
  refine q_RP_call (v := (some (.int (q_b (dz_M204 s a1))))) (h2 := (q_kM s c n)) rfl rfl ((dzt_M204 s c n a1).le (Nat.le_of_ble_eq_true rfl)) ?_
  generalize dz_M204 s a1 = r3
  refine q_RP_let ?_
  show q_RP _ _ _ (5, [(0, .ref 64), (1, .int a1)], [.int (q_b r3), .ref 64], (q_kM s c n)) _ _
  cases h3 : r3 with
  | true =>
    refine q_RP_cT ?_
    show q_RP _ _ _ (5, [(0, .ref 64), (1, .int a1)], [.int 1, .ref 64], (q_kM s c n)) _ _
    refine q_RP_seg (g2 := (13, [(0, .ref 64), (1, .int a1)], [.int 1, .ref 64], (q_kM s c n))) 3 (fun _ _ => rfl) ?_
    refine q_RP_call (v := (some (.int (q_b (dz_M200_64 s 1).2)))) (h2 := (q_kM (dz_M200_64 s 1).1 c n)) rfl rfl ((dzt_M200_64 s c n 1).le (Nat.le_of_ble_eq_true rfl)) ?_
    generalize dz_M200_64 s 1 = r4
    refine q_RP_let ?_
    show q_RP _ _ _ (16, [(0, .ref 64), (1, .int a1)], [.int (q_b r4.2)], (q_kM r4.1 c n)) _ _
    cases h4 : r4.2 with
    | true =>
      refine q_RP_cT ?_
      show q_RP _ _ _ (16, [(0, .ref 64), (1, .int a1)], [.int 1], (q_kM r4.1 c n)) _ _
      refine q_RP_seg (g2 := (29, [(0, .ref 64), (1, .int a1)], [.int 0], (q_kM r4.1 c n))) 3 (fun _ _ => rfl) ?_
      exact q_RP_ret rfl rfl rfl
    | false =>
      refine q_RP_cF ?_
      show q_RP _ _ _ (16, [(0, .ref 64), (1, .int a1)], [.int 0], (q_kM r4.1 c n)) _ _
      refine q_RP_seg (g2 := (28, [(0, .ref 64), (1, .int a1)], [.int a1, .ref 65], (q_kM r4.1 c n))) 4 (fun _ _ => rfl) ?_
      refine q_RP_as fun i5 => ?_
      refine q_RP_rsT (g2 := (29, [(0, .ref 64), (1, .int a1)], [.int ((r4.1.1 1) (a1.toNatClampNeg))], (q_kM r4.1 c n))) rfl rfl i5 ?_
      exact q_RP_ret rfl rfl rfl
  | false =>
    refine q_RP_cF ?_
    show q_RP _ _ _ (5, [(0, .ref 64), (1, .int a1)], [.int 0, .ref 64], (q_kM s c n)) _ _
    refine q_RP_seg (g2 := (13, [(0, .ref 64), (1, .int a1)], [.int 0, .ref 64], (q_kM s c n))) 2 (fun _ _ => rfl) ?_
    refine q_RP_call (v := (some (.int (q_b (dz_M200_64 s 0).2)))) (h2 := (q_kM (dz_M200_64 s 0).1 c n)) rfl rfl ((dzt_M200_64 s c n 0).le (Nat.le_of_ble_eq_true rfl)) ?_
    generalize dz_M200_64 s 0 = r5
    refine q_RP_let ?_
    show q_RP _ _ _ (16, [(0, .ref 64), (1, .int a1)], [.int (q_b r5.2)], (q_kM r5.1 c n)) _ _
    cases h6 : r5.2 with
    | true =>
      refine q_RP_cT ?_
      show q_RP _ _ _ (16, [(0, .ref 64), (1, .int a1)], [.int 1], (q_kM r5.1 c n)) _ _
      refine q_RP_seg (g2 := (29, [(0, .ref 64), (1, .int a1)], [.int 0], (q_kM r5.1 c n))) 3 (fun _ _ => rfl) ?_
      exact q_RP_ret rfl rfl rfl
    | false =>
      refine q_RP_cF ?_
      show q_RP _ _ _ (16, [(0, .ref 64), (1, .int a1)], [.int 0], (q_kM r5.1 c n)) _ _
      refine q_RP_seg (g2 := (28, [(0, .ref 64), (1, .int a1)], [.int a1, .ref 65], (q_kM r5.1 c n))) 4 (fun _ _ => rfl) ?_
      refine q_RP_as fun i7 => ?_
      refine q_RP_rsT (g2 := (29, [(0, .ref 64), (1, .int a1)], [.int ((r5.1.1 1) (a1.toNatClampNeg))], (q_kM r5.1 c n))) rfl rfl i7 ?_
      exact q_RP_ret rfl rfl rfl
def dz_M221_64_49 (m : Nat) : q_S → Int32 → Int32 → Int32 → Int32 → Int32 → Option (q_S × Int32) := Nat.rec (motive := fun _ => q_S → Int32 → Int32 → Int32 → Int32 → Int32 → Option (q_S × Int32)) (fun _ _ _ _ _ _ => none) (fun _ k49 s v1 v2 v3 v4 v5 =>
  cond (decide (v5 < v3)) (q_let (dz_M213 s (v1 + v5)) fun r3 => (dz_M214_64 s r3).bind fun r4 => q_let (dz_M213 r4.1 (v2 + v5)) fun r5 => (dz_M214_64 r4.1 r5).bind fun r6 => cond (decide (r4.2 = r6.2)) (k49 r6.1 v1 v2 v3 (v4 + 0) (v5 + 1)) (k49 r6.1 v1 v2 v3 (v4 + 1) (v5 + 1))) (some (s, v4))) m
theorem dzs_M221_64_49 (m : Nat) (s : q_S) (v1 : Int32) (v2 : Int32) (v3 : Int32) (v4 : Int32) (v5 : Int32) : dz_M221_64_49 (m + 1) s v1 v2 v3 v4 v5 = (fun k49 : q_S → Int32 → Int32 → Int32 → Int32 → Int32 → Option (q_S × Int32) =>
  cond (decide (v5 < v3)) (q_let (dz_M213 s (v1 + v5)) fun r3 => (dz_M214_64 s r3).bind fun r4 => q_let (dz_M213 r4.1 (v2 + v5)) fun r5 => (dz_M214_64 r4.1 r5).bind fun r6 => cond (decide (r4.2 = r6.2)) (k49 r6.1 v1 v2 v3 (v4 + 0) (v5 + 1)) (k49 r6.1 v1 v2 v3 (v4 + 1) (v5 + 1))) (some (s, v4))) (dz_M221_64_49 m) := rfl
set_option maxHeartbeats 4000000 in
theorem dzt_M221_64_49 (c n : Nat) : ∀ (m : Nat) (s : q_S) (v1 : Int32) (v2 : Int32) (v3 : Int32) (v4 : Int32) (v5 : Int32), q_RP q_TB0 4 220 (49, [(0, .ref 64), (1, .int v1), (2, .int v2), (3, .int v3), (4, .int v4), (5, .int v5)], [], (q_kM s c n)) (q_oIM c n) (dz_M221_64_49 m s v1 v2 v3 v4 v5) := by
  intro m
  induction m with
  | zero => intro s v1 v2 v3 v4 v5; exact q_RP_no
  | succ m ih =>
    intro s v1 v2 v3 v4 v5
    have hk49 := ih
    clear ih
    rw [dzs_M221_64_49]
    generalize dz_M221_64_49 m = k49 at hk49 ⊢
    dsimp only
    refine q_RP_seg (g2 := (52, [(0, .ref 64), (1, .int v1), (2, .int v2), (3, .int v3), (4, .int v4), (5, .int v5)], [.int v3, .int v5], (q_kM s c n))) 2 (fun _ _ => rfl) ?_
    cases h3 : decide (v5 < v3) with
    | true =>
      refine q_RP_cT ?_
      refine q_RP_rsF (g2 := (55, [(0, .ref 64), (1, .int v1), (2, .int v2), (3, .int v3), (4, .int v4), (5, .int v5)], [], (q_kM s c n))) rfl rfl (q_d_geT h3) ?_
      refine q_RP_seg (g2 := (62, [(0, .ref 64), (1, .int v1), (2, .int v2), (3, .int v3), (4, .int v4), (5, .int v5)], [.int (v1 + v5), .ref 64, .int v4], (q_kM s c n))) 5 (fun _ _ => rfl) ?_
      refine q_RP_call (v := (some (.int (dz_M213 s (v1 + v5))))) (h2 := (q_kM s c n)) rfl rfl ((dzt_M213 s c n (v1 + v5)).le (Nat.le_of_ble_eq_true rfl)) ?_
      generalize dz_M213 s (v1 + v5) = r3
      refine q_RP_let ?_
      show q_RP _ _ _ (65, [(0, .ref 64), (1, .int v1), (2, .int v2), (3, .int v3), (4, .int v4), (5, .int v5)], [.int r3, .ref 64, .int v4], (q_kM s c n)) _ _
      refine q_RP_bd fun r4 er4 => ?_
      refine q_RP_call (v := (some (.int r4.2))) (h2 := (q_kM r4.1 c n)) rfl rfl ((dzt_M214_64 s c n r3 r4 er4).le (Nat.le_of_ble_eq_true rfl)) ?_
      show q_RP _ _ _ (68, [(0, .ref 64), (1, .int v1), (2, .int v2), (3, .int v3), (4, .int v4), (5, .int v5)], [.int r4.2, .int v4], (q_kM r4.1 c n)) _ _
      refine q_RP_seg (g2 := (73, [(0, .ref 64), (1, .int v1), (2, .int v2), (3, .int v3), (4, .int v4), (5, .int v5)], [.int (v2 + v5), .ref 64, .int r4.2, .int v4], (q_kM r4.1 c n))) 4 (fun _ _ => rfl) ?_
      refine q_RP_call (v := (some (.int (dz_M213 r4.1 (v2 + v5))))) (h2 := (q_kM r4.1 c n)) rfl rfl ((dzt_M213 r4.1 c n (v2 + v5)).le (Nat.le_of_ble_eq_true rfl)) ?_
      generalize dz_M213 r4.1 (v2 + v5) = r5
      refine q_RP_let ?_
      show q_RP _ _ _ (76, [(0, .ref 64), (1, .int v1), (2, .int v2), (3, .int v3), (4, .int v4), (5, .int v5)], [.int r5, .ref 64, .int r4.2, .int v4], (q_kM r4.1 c n)) _ _
      refine q_RP_bd fun r6 er6 => ?_
      refine q_RP_call (v := (some (.int r6.2))) (h2 := (q_kM r6.1 c n)) rfl rfl ((dzt_M214_64 r4.1 c n r5 r6 er6).le (Nat.le_of_ble_eq_true rfl)) ?_
      show q_RP _ _ _ (79, [(0, .ref 64), (1, .int v1), (2, .int v2), (3, .int v3), (4, .int v4), (5, .int v5)], [.int r6.2, .int r4.2, .int v4], (q_kM r6.1 c n)) _ _
      cases h4 : decide (r4.2 = r6.2) with
      | true =>
        refine q_RP_cT ?_
        refine q_RP_rsF (g2 := (82, [(0, .ref 64), (1, .int v1), (2, .int v2), (3, .int v3), (4, .int v4), (5, .int v5)], [.int v4], (q_kM r6.1 c n))) rfl rfl (q_d_neT h4) ?_
        refine q_RP_seg (g2 := (49, [(5, .int (v5 + 1)), (4, .int (v4 + 0)), (0, .ref 64), (1, .int v1), (2, .int v2), (3, .int v3)], [], (q_kM r6.1 c n))) 6 (fun _ _ => rfl) ?_
        exact q_RP_xt (q_xt_mk (q_mn1 2 rfl (q_mn1 3 rfl (q_mn1 4 rfl (q_mn1 5 rfl (q_mn1 1 rfl (q_mn1 0 rfl q_mn0)))))) rfl) (hk49 r6.1 v1 v2 v3 (v4 + 0) (v5 + 1))
      | false =>
        refine q_RP_cF ?_
        refine q_RP_rsT (g2 := (86, [(0, .ref 64), (1, .int v1), (2, .int v2), (3, .int v3), (4, .int v4), (5, .int v5)], [.int v4], (q_kM r6.1 c n))) rfl rfl (q_d_neF h4) ?_
        refine q_RP_seg (g2 := (49, [(5, .int (v5 + 1)), (4, .int (v4 + 1)), (0, .ref 64), (1, .int v1), (2, .int v2), (3, .int v3)], [], (q_kM r6.1 c n))) 5 (fun _ _ => rfl) ?_
        exact q_RP_xt (q_xt_mk (q_mn1 2 rfl (q_mn1 3 rfl (q_mn1 4 rfl (q_mn1 5 rfl (q_mn1 1 rfl (q_mn1 0 rfl q_mn0)))))) rfl) (hk49 r6.1 v1 v2 v3 (v4 + 1) (v5 + 1))
    | false =>
      refine q_RP_cF ?_
      refine q_RP_rsT (g2 := (96, [(0, .ref 64), (1, .int v1), (2, .int v2), (3, .int v3), (4, .int v4), (5, .int v5)], [], (q_kM s c n))) rfl rfl (q_d_geF h3) ?_
      refine q_RP_seg (g2 := (98, [(0, .ref 64), (1, .int v1), (2, .int v2), (3, .int v3), (4, .int v4), (5, .int v5)], [.int v4], (q_kM s c n))) 1 (fun _ _ => rfl) ?_
      exact q_RP_ret rfl rfl rfl
def dz_M221_64 (s : q_S) (a1 : Int32) (a2 : Int32) (a3 : Int32) : Option (q_S × Int32) :=
  q_let (dz_M204 s a1) fun r1 => cond r1 (q_let (dz_M200_64 s 1) fun r2 => cond r2.2 (some (r2.1, 0)) (dz_M221_64_49 5000 r2.1 a1 a2 a3 0 0)) (q_let (dz_M204 s a2) fun r7 => cond r7 (q_let (dz_M200_64 s 1) fun r8 => cond r8.2 (some (r8.1, 0)) (dz_M221_64_49 5000 r8.1 a1 a2 a3 0 0)) (q_let (dz_M202 s a3 1 4096) fun r9 => cond r9 (q_let (dz_M200_64 s 0) fun r10 => cond r10.2 (some (r10.1, 0)) (dz_M221_64_49 5000 r10.1 a1 a2 a3 0 0)) (q_let (dz_M200_64 s 2) fun r11 => cond r11.2 (some (r11.1, 0)) (dz_M221_64_49 5000 r11.1 a1 a2 a3 0 0))))
set_option maxHeartbeats 4000000 in
theorem dzt_M221_64 (s : q_S) (c n : Nat) (a1 : Int32) (a2 : Int32) (a3 : Int32) (x : q_S × Int32) (h : dz_M221_64 s a1 a2 a3 = some x) : q_Ca q_TB0 5 220 [.ref 64, .int a1, .int a2, .int a3] (q_kM s c n) ((q_oIM c n) x) := by
  refine q_CaP_of (φ := (q_oIM c n)) (Nat.le_of_ble_eq_true rfl) ?_ h
  clear h
  unfold dz_M221_64
  refine q_RP_seg (g2 := (2, [(0, .ref 64), (1, .int a1), (2, .int a2), (3, .int a3)], [.int a1, .ref 64], (q_kM s c n))) 2 (fun _ _ => rfl) ?_
  refine q_RP_call (v := (some (.int (q_b (dz_M204 s a1))))) (h2 := (q_kM s c n)) rfl rfl ((dzt_M204 s c n a1).le (Nat.le_of_ble_eq_true rfl)) ?_
  generalize dz_M204 s a1 = r1
  refine q_RP_let ?_
  show q_RP _ _ _ (5, [(0, .ref 64), (1, .int a1), (2, .int a2), (3, .int a3)], [.int (q_b r1), .ref 64], (q_kM s c n)) _ _
  cases h1 : r1 with
  | true =>
    refine q_RP_cT ?_
    show q_RP _ _ _ (5, [(0, .ref 64), (1, .int a1), (2, .int a2), (3, .int a3)], [.int 1, .ref 64], (q_kM s c n)) _ _
    refine q_RP_seg (g2 := (35, [(0, .ref 64), (1, .int a1), (2, .int a2), (3, .int a3)], [.int 1, .ref 64], (q_kM s c n))) 3 (fun _ _ => rfl) ?_
    refine q_RP_call (v := (some (.int (q_b (dz_M200_64 s 1).2)))) (h2 := (q_kM (dz_M200_64 s 1).1 c n)) rfl rfl ((dzt_M200_64 s c n 1).le (Nat.le_of_ble_eq_true rfl)) ?_
    generalize dz_M200_64 s 1 = r2
    refine q_RP_let ?_
    show q_RP _ _ _ (38, [(0, .ref 64), (1, .int a1), (2, .int a2), (3, .int a3)], [.int (q_b r2.2)], (q_kM r2.1 c n)) _ _
    cases h2 : r2.2 with
    | true =>
      refine q_RP_cT ?_
      show q_RP _ _ _ (38, [(0, .ref 64), (1, .int a1), (2, .int a2), (3, .int a3)], [.int 1], (q_kM r2.1 c n)) _ _
      refine q_RP_seg (g2 := (42, [(0, .ref 64), (1, .int a1), (2, .int a2), (3, .int a3)], [.int 0], (q_kM r2.1 c n))) 2 (fun _ _ => rfl) ?_
      exact q_RP_ret rfl rfl rfl
    | false =>
      refine q_RP_cF ?_
      show q_RP _ _ _ (38, [(0, .ref 64), (1, .int a1), (2, .int a2), (3, .int a3)], [.int 0], (q_kM r2.1 c n)) _ _
      refine q_RP_seg (g2 := (49, [(5, .int 0), (4, .int 0), (0, .ref 64), (1, .int a1), (2, .int a2), (3, .int a3)], [], (q_kM r2.1 c n))) 5 (fun _ _ => rfl) ?_
      exact q_RP_xt (q_xt_mk (q_mn1 2 rfl (q_mn1 3 rfl (q_mn1 4 rfl (q_mn1 5 rfl (q_mn1 1 rfl (q_mn1 0 rfl q_mn0)))))) rfl) (dzt_M221_64_49 c n 5000 r2.1 a1 a2 a3 0 0)
  | false =>
    refine q_RP_cF ?_
    show q_RP _ _ _ (5, [(0, .ref 64), (1, .int a1), (2, .int a2), (3, .int a3)], [.int 0, .ref 64], (q_kM s c n)) _ _
    refine q_RP_seg (g2 := (9, [(0, .ref 64), (1, .int a1), (2, .int a2), (3, .int a3)], [.int a2, .ref 64], (q_kM s c n))) 2 (fun _ _ => rfl) ?_
    refine q_RP_call (v := (some (.int (q_b (dz_M204 s a2))))) (h2 := (q_kM s c n)) rfl rfl ((dzt_M204 s c n a2).le (Nat.le_of_ble_eq_true rfl)) ?_
    generalize dz_M204 s a2 = r7
    refine q_RP_let ?_
    show q_RP _ _ _ (12, [(0, .ref 64), (1, .int a1), (2, .int a2), (3, .int a3)], [.int (q_b r7), .ref 64], (q_kM s c n)) _ _
    cases h5 : r7 with
    | true =>
      refine q_RP_cT ?_
      show q_RP _ _ _ (12, [(0, .ref 64), (1, .int a1), (2, .int a2), (3, .int a3)], [.int 1, .ref 64], (q_kM s c n)) _ _
      refine q_RP_seg (g2 := (35, [(0, .ref 64), (1, .int a1), (2, .int a2), (3, .int a3)], [.int 1, .ref 64], (q_kM s c n))) 3 (fun _ _ => rfl) ?_
      refine q_RP_call (v := (some (.int (q_b (dz_M200_64 s 1).2)))) (h2 := (q_kM (dz_M200_64 s 1).1 c n)) rfl rfl ((dzt_M200_64 s c n 1).le (Nat.le_of_ble_eq_true rfl)) ?_
      generalize dz_M200_64 s 1 = r8
      refine q_RP_let ?_
      show q_RP _ _ _ (38, [(0, .ref 64), (1, .int a1), (2, .int a2), (3, .int a3)], [.int (q_b r8.2)], (q_kM r8.1 c n)) _ _
      cases h6 : r8.2 with
      | true =>
        refine q_RP_cT ?_
        show q_RP _ _ _ (38, [(0, .ref 64), (1, .int a1), (2, .int a2), (3, .int a3)], [.int 1], (q_kM r8.1 c n)) _ _
        refine q_RP_seg (g2 := (42, [(0, .ref 64), (1, .int a1), (2, .int a2), (3, .int a3)], [.int 0], (q_kM r8.1 c n))) 2 (fun _ _ => rfl) ?_
        exact q_RP_ret rfl rfl rfl
      | false =>
        refine q_RP_cF ?_
        show q_RP _ _ _ (38, [(0, .ref 64), (1, .int a1), (2, .int a2), (3, .int a3)], [.int 0], (q_kM r8.1 c n)) _ _
        refine q_RP_seg (g2 := (49, [(5, .int 0), (4, .int 0), (0, .ref 64), (1, .int a1), (2, .int a2), (3, .int a3)], [], (q_kM r8.1 c n))) 5 (fun _ _ => rfl) ?_
        exact q_RP_xt (q_xt_mk (q_mn1 2 rfl (q_mn1 3 rfl (q_mn1 4 rfl (q_mn1 5 rfl (q_mn1 1 rfl (q_mn1 0 rfl q_mn0)))))) rfl) (dzt_M221_64_49 c n 5000 r8.1 a1 a2 a3 0 0)
    | false =>
      refine q_RP_cF ?_
      show q_RP _ _ _ (12, [(0, .ref 64), (1, .int a1), (2, .int a2), (3, .int a3)], [.int 0, .ref 64], (q_kM s c n)) _ _
      refine q_RP_seg (g2 := (24, [(0, .ref 64), (1, .int a1), (2, .int a2), (3, .int a3)], [.int 4096, .int 1, .int a3, .ref 64], (q_kM s c n))) 4 (fun _ _ => rfl) ?_
      refine q_RP_call (v := (some (.int (q_b (dz_M202 s a3 1 4096))))) (h2 := (q_kM s c n)) rfl rfl ((dzt_M202 s c n a3 1 4096).le (Nat.le_of_ble_eq_true rfl)) ?_
      generalize dz_M202 s a3 1 4096 = r9
      refine q_RP_let ?_
      show q_RP _ _ _ (27, [(0, .ref 64), (1, .int a1), (2, .int a2), (3, .int a3)], [.int (q_b r9), .ref 64], (q_kM s c n)) _ _
      cases h7 : r9 with
      | true =>
        refine q_RP_cT ?_
        show q_RP _ _ _ (27, [(0, .ref 64), (1, .int a1), (2, .int a2), (3, .int a3)], [.int 1, .ref 64], (q_kM s c n)) _ _
        refine q_RP_seg (g2 := (35, [(0, .ref 64), (1, .int a1), (2, .int a2), (3, .int a3)], [.int 0, .ref 64], (q_kM s c n))) 3 (fun _ _ => rfl) ?_
        refine q_RP_call (v := (some (.int (q_b (dz_M200_64 s 0).2)))) (h2 := (q_kM (dz_M200_64 s 0).1 c n)) rfl rfl ((dzt_M200_64 s c n 0).le (Nat.le_of_ble_eq_true rfl)) ?_
        generalize dz_M200_64 s 0 = r10
        refine q_RP_let ?_
        show q_RP _ _ _ (38, [(0, .ref 64), (1, .int a1), (2, .int a2), (3, .int a3)], [.int (q_b r10.2)], (q_kM r10.1 c n)) _ _
        cases h8 : r10.2 with
        | true =>
          refine q_RP_cT ?_
          show q_RP _ _ _ (38, [(0, .ref 64), (1, .int a1), (2, .int a2), (3, .int a3)], [.int 1], (q_kM r10.1 c n)) _ _
          refine q_RP_seg (g2 := (42, [(0, .ref 64), (1, .int a1), (2, .int a2), (3, .int a3)], [.int 0], (q_kM r10.1 c n))) 2 (fun _ _ => rfl) ?_
          exact q_RP_ret rfl rfl rfl
        | false =>
          refine q_RP_cF ?_
          show q_RP _ _ _ (38, [(0, .ref 64), (1, .int a1), (2, .int a2), (3, .int a3)], [.int 0], (q_kM r10.1 c n)) _ _
          refine q_RP_seg (g2 := (49, [(5, .int 0), (4, .int 0), (0, .ref 64), (1, .int a1), (2, .int a2), (3, .int a3)], [], (q_kM r10.1 c n))) 5 (fun _ _ => rfl) ?_
          exact q_RP_xt (q_xt_mk (q_mn1 2 rfl (q_mn1 3 rfl (q_mn1 4 rfl (q_mn1 5 rfl (q_mn1 1 rfl (q_mn1 0 rfl q_mn0)))))) rfl) (dzt_M221_64_49 c n 5000 r10.1 a1 a2 a3 0 0)
      | false =>
        refine q_RP_cF ?_
        show q_RP _ _ _ (27, [(0, .ref 64), (1, .int a1), (2, .int a2), (3, .int a3)], [.int 0, .ref 64], (q_kM s c n)) _ _
        refine q_RP_seg (g2 := (35, [(0, .ref 64), (1, .int a1), (2, .int a2), (3, .int a3)], [.int 2, .ref 64], (q_kM s c n))) 2 (fun _ _ => rfl) ?_
        refine q_RP_call (v := (some (.int (q_b (dz_M200_64 s 2).2)))) (h2 := (q_kM (dz_M200_64 s 2).1 c n)) rfl rfl ((dzt_M200_64 s c n 2).le (Nat.le_of_ble_eq_true rfl)) ?_
        generalize dz_M200_64 s 2 = r11
        refine q_RP_let ?_
        show q_RP _ _ _ (38, [(0, .ref 64), (1, .int a1), (2, .int a2), (3, .int a3)], [.int (q_b r11.2)], (q_kM r11.1 c n)) _ _
        cases h9 : r11.2 with
        | true =>
          refine q_RP_cT ?_
          show q_RP _ _ _ (38, [(0, .ref 64), (1, .int a1), (2, .int a2), (3, .int a3)], [.int 1], (q_kM r11.1 c n)) _ _
          refine q_RP_seg (g2 := (42, [(0, .ref 64), (1, .int a1), (2, .int a2), (3, .int a3)], [.int 0], (q_kM r11.1 c n))) 2 (fun _ _ => rfl) ?_
          exact q_RP_ret rfl rfl rfl
        | false =>
          refine q_RP_cF ?_
          show q_RP _ _ _ (38, [(0, .ref 64), (1, .int a1), (2, .int a2), (3, .int a3)], [.int 0], (q_kM r11.1 c n)) _ _
          refine q_RP_seg (g2 := (49, [(5, .int 0), (4, .int 0), (0, .ref 64), (1, .int a1), (2, .int a2), (3, .int a3)], [], (q_kM r11.1 c n))) 5 (fun _ _ => rfl) ?_
          exact q_RP_xt (q_xt_mk (q_mn1 2 rfl (q_mn1 3 rfl (q_mn1 4 rfl (q_mn1 5 rfl (q_mn1 1 rfl (q_mn1 0 rfl q_mn0)))))) rfl) (dzt_M221_64_49 c n 5000 r11.1 a1 a2 a3 0 0)
def dz_M222_64 (s : q_S) : Int32 :=
  q_let (dz_M207_64 s) fun r1 => (r1 - 4)
set_option maxHeartbeats 4000000 in
theorem dzt_M222_64 (s : q_S) (c n : Nat) : q_Ca q_TB0 2 221 [.ref 64] (q_kM s c n) ((q_oP (q_kM s c n)) (dz_M222_64 s)) := by
  refine q_CaT_of (φ := (q_oP (q_kM s c n))) (Nat.le_of_ble_eq_true rfl) ?_
  unfold dz_M222_64
  refine q_RT_seg (g2 := (1, [(0, .ref 64)], [.ref 64], (q_kM s c n))) 1 (fun _ _ => rfl) ?_
  refine q_RT_call (v := (some (.int (dz_M207_64 s)))) (h2 := (q_kM s c n)) rfl rfl ((dzt_M207_64 s c n).le (Nat.le_of_ble_eq_true rfl)) ?_
  generalize dz_M207_64 s = r1
  refine q_RT_let ?_
  show q_RT _ _ _ (4, [(0, .ref 64)], [.int r1], (q_kM s c n)) _ _
  refine q_RT_seg (g2 := (6, [(0, .ref 64)], [.int (r1 - 4)], (q_kM s c n))) 2 (fun _ _ => rfl) ?_
  exact q_RT_ret rfl rfl rfl
def dz_M223_64 (s : q_S) (a1 : Int32) : Bool :=
  q_let (dz_M206 s ((s.1 4) 17) a1) fun r1 => cond r1 (true) (false)
set_option maxHeartbeats 4000000 in
theorem dzt_M223_64 (s : q_S) (c n : Nat) (a1 : Int32) : q_Ca q_TB0 2 222 [.ref 64, .int a1] (q_kM s c n) ((q_oB (q_kM s c n)) (dz_M223_64 s a1)) := by
  refine q_CaT_of (φ := (q_oB (q_kM s c n))) (Nat.le_of_ble_eq_true rfl) ?_
  unfold dz_M223_64
  refine q_RT_seg (g2 := (7, [(0, .ref 64), (1, .int a1)], [.int ((s.1 4) 17)], (q_kM s c n))) 4 (fun _ _ => rfl) ?_
  refine q_RT_seg (g2 := (8, [(0, .ref 64), (1, .int a1)], [.int a1, .int ((s.1 4) 17)], (q_kM s c n))) 1 (fun _ _ => rfl) ?_
  refine q_RT_call (v := (some (.int (q_b (dz_M206 s ((s.1 4) 17) a1))))) (h2 := (q_kM s c n)) rfl rfl ((dzt_M206 s c n ((s.1 4) 17) a1).le (Nat.le_of_ble_eq_true rfl)) ?_
  generalize dz_M206 s ((s.1 4) 17) a1 = r1
  refine q_RT_let ?_
  show q_RT _ _ _ (11, [(0, .ref 64), (1, .int a1)], [.int (q_b r1)], (q_kM s c n)) _ _
  cases h1 : r1 with
  | true =>
    refine q_RT_cT ?_
    show q_RT _ _ _ (11, [(0, .ref 64), (1, .int a1)], [.int 1], (q_kM s c n)) _ _
    exact q_RT_ret rfl rfl rfl
  | false =>
    refine q_RT_cF ?_
    show q_RT _ _ _ (11, [(0, .ref 64), (1, .int a1)], [.int 0], (q_kM s c n)) _ _
    exact q_RT_ret rfl rfl rfl
def dz_M224_64 (s : q_S) (a1 : Int32) (a2 : Int32) : Option (Bool) :=
  cond (q_in ((24 : Int32) + a1) 48) (cond (decide (a2 < (s.1 4) (((24 : Int32) + a1).toNatClampNeg))) (some false) (q_let (dz_M206 s ((s.1 4) 18) a1) fun r1 => cond r1 (cond (decide (a2 < ((s.1 4) (((24 : Int32) + a1).toNatClampNeg)) + 16)) (some true) (some false)) (cond (decide (a2 < ((s.1 4) (((24 : Int32) + a1).toNatClampNeg)) + 8)) (some true) (some false)))) none
set_option maxHeartbeats 4000000 in
theorem dzt_M224_64 (s : q_S) (c n : Nat) (a1 : Int32) (a2 : Int32) (x : Bool) (h : dz_M224_64 s a1 a2 = some x) : q_Ca q_TB0 2 223 [.ref 64, .int a1, .int a2] (q_kM s c n) ((q_oB (q_kM s c n)) x) := by
  refine q_CaP_of (φ := (q_oB (q_kM s c n))) (Nat.le_of_ble_eq_true rfl) ?_ h
  clear h
  unfold dz_M224_64
  refine q_RP_seg (g2 := (8, [(0, .ref 64), (1, .int a1), (2, .int a2)], [.int ((24 : Int32) + a1), .ref 68], (q_kM s c n))) 5 (fun _ _ => rfl) ?_
  refine q_RP_as fun i1 => ?_
  refine q_RP_rsT (g2 := (9, [(0, .ref 64), (1, .int a1), (2, .int a2)], [.int ((s.1 4) (((24 : Int32) + a1).toNatClampNeg))], (q_kM s c n))) rfl rfl i1 ?_
  refine q_RP_seg (g2 := (12, [(3, .int ((s.1 4) (((24 : Int32) + a1).toNatClampNeg))), (0, .ref 64), (1, .int a1), (2, .int a2)], [.int ((s.1 4) (((24 : Int32) + a1).toNatClampNeg)), .int a2], (q_kM s c n))) 3 (fun _ _ => rfl) ?_
  cases h2 : decide (a2 < (s.1 4) (((24 : Int32) + a1).toNatClampNeg)) with
  | true =>
    refine q_RP_cT ?_
    refine q_RP_rsT (g2 := (46, [(3, .int ((s.1 4) (((24 : Int32) + a1).toNatClampNeg))), (0, .ref 64), (1, .int a1), (2, .int a2)], [], (q_kM s c n))) rfl rfl h2 ?_
    refine q_RP_seg (g2 := (47, [(3, .int ((s.1 4) (((24 : Int32) + a1).toNatClampNeg))), (0, .ref 64), (1, .int a1), (2, .int a2)], [.int 0], (q_kM s c n))) 1 (fun _ _ => rfl) ?_
    exact q_RP_ret rfl rfl rfl
  | false =>
    refine q_RP_cF ?_
    refine q_RP_rsF (g2 := (15, [(3, .int ((s.1 4) (((24 : Int32) + a1).toNatClampNeg))), (0, .ref 64), (1, .int a1), (2, .int a2)], [], (q_kM s c n))) rfl rfl h2 ?_
    refine q_RP_seg (g2 := (24, [(3, .int ((s.1 4) (((24 : Int32) + a1).toNatClampNeg))), (0, .ref 64), (1, .int a1), (2, .int a2)], [.int ((s.1 4) 18), .int ((s.1 4) (((24 : Int32) + a1).toNatClampNeg)), .int a2], (q_kM s c n))) 6 (fun _ _ => rfl) ?_
    refine q_RP_seg (g2 := (25, [(3, .int ((s.1 4) (((24 : Int32) + a1).toNatClampNeg))), (0, .ref 64), (1, .int a1), (2, .int a2)], [.int a1, .int ((s.1 4) 18), .int ((s.1 4) (((24 : Int32) + a1).toNatClampNeg)), .int a2], (q_kM s c n))) 1 (fun _ _ => rfl) ?_
    refine q_RP_call (v := (some (.int (q_b (dz_M206 s ((s.1 4) 18) a1))))) (h2 := (q_kM s c n)) rfl rfl ((dzt_M206 s c n ((s.1 4) 18) a1).le (Nat.le_of_ble_eq_true rfl)) ?_
    generalize dz_M206 s ((s.1 4) 18) a1 = r1
    refine q_RP_let ?_
    show q_RP _ _ _ (28, [(3, .int ((s.1 4) (((24 : Int32) + a1).toNatClampNeg))), (0, .ref 64), (1, .int a1), (2, .int a2)], [.int (q_b r1), .int ((s.1 4) (((24 : Int32) + a1).toNatClampNeg)), .int a2], (q_kM s c n)) _ _
    cases h3 : r1 with
    | true =>
      refine q_RP_cT ?_
      show q_RP _ _ _ (28, [(3, .int ((s.1 4) (((24 : Int32) + a1).toNatClampNeg))), (0, .ref 64), (1, .int a1), (2, .int a2)], [.int 1, .int ((s.1 4) (((24 : Int32) + a1).toNatClampNeg)), .int a2], (q_kM s c n)) _ _
      refine q_RP_seg (g2 := (39, [(3, .int ((s.1 4) (((24 : Int32) + a1).toNatClampNeg))), (0, .ref 64), (1, .int a1), (2, .int a2)], [.int (((s.1 4) (((24 : Int32) + a1).toNatClampNeg)) + 16), .int a2], (q_kM s c n))) 4 (fun _ _ => rfl) ?_
      cases h4 : decide (a2 < ((s.1 4) (((24 : Int32) + a1).toNatClampNeg)) + 16) with
      | true =>
        refine q_RP_cT ?_
        refine q_RP_rsF (g2 := (42, [(3, .int ((s.1 4) (((24 : Int32) + a1).toNatClampNeg))), (0, .ref 64), (1, .int a1), (2, .int a2)], [], (q_kM s c n))) rfl rfl (q_d_geT h4) ?_
        refine q_RP_seg (g2 := (47, [(3, .int ((s.1 4) (((24 : Int32) + a1).toNatClampNeg))), (0, .ref 64), (1, .int a1), (2, .int a2)], [.int 1], (q_kM s c n))) 2 (fun _ _ => rfl) ?_
        exact q_RP_ret rfl rfl rfl
      | false =>
        refine q_RP_cF ?_
        refine q_RP_rsT (g2 := (46, [(3, .int ((s.1 4) (((24 : Int32) + a1).toNatClampNeg))), (0, .ref 64), (1, .int a1), (2, .int a2)], [], (q_kM s c n))) rfl rfl (q_d_geF h4) ?_
        refine q_RP_seg (g2 := (47, [(3, .int ((s.1 4) (((24 : Int32) + a1).toNatClampNeg))), (0, .ref 64), (1, .int a1), (2, .int a2)], [.int 0], (q_kM s c n))) 1 (fun _ _ => rfl) ?_
        exact q_RP_ret rfl rfl rfl
    | false =>
      refine q_RP_cF ?_
      show q_RP _ _ _ (28, [(3, .int ((s.1 4) (((24 : Int32) + a1).toNatClampNeg))), (0, .ref 64), (1, .int a1), (2, .int a2)], [.int 0, .int ((s.1 4) (((24 : Int32) + a1).toNatClampNeg)), .int a2], (q_kM s c n)) _ _
      refine q_RP_seg (g2 := (39, [(3, .int ((s.1 4) (((24 : Int32) + a1).toNatClampNeg))), (0, .ref 64), (1, .int a1), (2, .int a2)], [.int (((s.1 4) (((24 : Int32) + a1).toNatClampNeg)) + 8), .int a2], (q_kM s c n))) 3 (fun _ _ => rfl) ?_
      cases h5 : decide (a2 < ((s.1 4) (((24 : Int32) + a1).toNatClampNeg)) + 8) with
      | true =>
        refine q_RP_cT ?_
        refine q_RP_rsF (g2 := (42, [(3, .int ((s.1 4) (((24 : Int32) + a1).toNatClampNeg))), (0, .ref 64), (1, .int a1), (2, .int a2)], [], (q_kM s c n))) rfl rfl (q_d_geT h5) ?_
        refine q_RP_seg (g2 := (47, [(3, .int ((s.1 4) (((24 : Int32) + a1).toNatClampNeg))), (0, .ref 64), (1, .int a1), (2, .int a2)], [.int 1], (q_kM s c n))) 2 (fun _ _ => rfl) ?_
        exact q_RP_ret rfl rfl rfl
      | false =>
        refine q_RP_cF ?_
        refine q_RP_rsT (g2 := (46, [(3, .int ((s.1 4) (((24 : Int32) + a1).toNatClampNeg))), (0, .ref 64), (1, .int a1), (2, .int a2)], [], (q_kM s c n))) rfl rfl (q_d_geF h5) ?_
        refine q_RP_seg (g2 := (47, [(3, .int ((s.1 4) (((24 : Int32) + a1).toNatClampNeg))), (0, .ref 64), (1, .int a1), (2, .int a2)], [.int 0], (q_kM s c n))) 1 (fun _ _ => rfl) ?_
        exact q_RP_ret rfl rfl rfl
def dz_M225_64_85 (s : q_S) (v1 : Int32) (v2 : Int32) : Option (Bool) :=
  cond (decide (v2 < 20)) (some false) (q_let (dz_M223_64 s (v2 - 20)) fun r9 => cond r9 ((dz_M224_64 s (v2 - 20) v1).bind fun r10 => cond r10 (some true) (some false)) (some false))
set_option maxHeartbeats 4000000 in
theorem dzt_M225_64_85 (c n : Nat) (s : q_S) (v1 : Int32) (v2 : Int32) : q_RP q_TB0 2 224 (85, [(0, .ref 64), (1, .int v1), (2, .int v2)], [], (q_kM s c n)) (q_oB (q_kM s c n)) (dz_M225_64_85 s v1 v2) := by
  unfold dz_M225_64_85
  refine q_RP_seg (g2 := (88, [(0, .ref 64), (1, .int v1), (2, .int v2)], [.int 20, .int v2], (q_kM s c n))) 2 (fun _ _ => rfl) ?_
  cases h15 : decide (v2 < 20) with
  | true =>
    refine q_RP_cT ?_
    refine q_RP_rsT (g2 := (118, [(0, .ref 64), (1, .int v1), (2, .int v2)], [], (q_kM s c n))) rfl rfl h15 ?_
    refine q_RP_seg (g2 := (119, [(0, .ref 64), (1, .int v1), (2, .int v2)], [.int 0], (q_kM s c n))) 1 (fun _ _ => rfl) ?_
    exact q_RP_ret rfl rfl rfl
  | false =>
    refine q_RP_cF ?_
    refine q_RP_rsF (g2 := (91, [(0, .ref 64), (1, .int v1), (2, .int v2)], [], (q_kM s c n))) rfl rfl h15 ?_
    refine q_RP_seg (g2 := (96, [(0, .ref 64), (1, .int v1), (2, .int v2)], [.int (v2 - 20), .ref 64], (q_kM s c n))) 4 (fun _ _ => rfl) ?_
    refine q_RP_call (v := (some (.int (q_b (dz_M223_64 s (v2 - 20)))))) (h2 := (q_kM s c n)) rfl rfl ((dzt_M223_64 s c n (v2 - 20)).le (Nat.le_of_ble_eq_true rfl)) ?_
    generalize dz_M223_64 s (v2 - 20) = r9
    refine q_RP_let ?_
    show q_RP _ _ _ (99, [(0, .ref 64), (1, .int v1), (2, .int v2)], [.int (q_b r9)], (q_kM s c n)) _ _
    cases h16 : r9 with
    | true =>
      refine q_RP_cT ?_
      show q_RP _ _ _ (99, [(0, .ref 64), (1, .int v1), (2, .int v2)], [.int 1], (q_kM s c n)) _ _
      refine q_RP_seg (g2 := (108, [(0, .ref 64), (1, .int v1), (2, .int v2)], [.int v1, .int (v2 - 20), .ref 64], (q_kM s c n))) 6 (fun _ _ => rfl) ?_
      refine q_RP_bd fun r10 er10 => ?_
      refine q_RP_call (v := (some (.int (q_b r10)))) (h2 := (q_kM s c n)) rfl rfl ((dzt_M224_64 s c n (v2 - 20) v1 r10 er10).le (Nat.le_of_ble_eq_true rfl)) ?_
      show q_RP _ _ _ (111, [(0, .ref 64), (1, .int v1), (2, .int v2)], [.int (q_b r10)], (q_kM s c n)) _ _
      cases h17 : r10 with
      | true =>
        refine q_RP_cT ?_
        show q_RP _ _ _ (111, [(0, .ref 64), (1, .int v1), (2, .int v2)], [.int 1], (q_kM s c n)) _ _
        refine q_RP_seg (g2 := (119, [(0, .ref 64), (1, .int v1), (2, .int v2)], [.int 1], (q_kM s c n))) 3 (fun _ _ => rfl) ?_
        exact q_RP_ret rfl rfl rfl
      | false =>
        refine q_RP_cF ?_
        show q_RP _ _ _ (111, [(0, .ref 64), (1, .int v1), (2, .int v2)], [.int 0], (q_kM s c n)) _ _
        refine q_RP_seg (g2 := (119, [(0, .ref 64), (1, .int v1), (2, .int v2)], [.int 0], (q_kM s c n))) 2 (fun _ _ => rfl) ?_
        exact q_RP_ret rfl rfl rfl
    | false =>
      refine q_RP_cF ?_
      show q_RP _ _ _ (99, [(0, .ref 64), (1, .int v1), (2, .int v2)], [.int 0], (q_kM s c n)) _ _
      refine q_RP_seg (g2 := (119, [(0, .ref 64), (1, .int v1), (2, .int v2)], [.int 0], (q_kM s c n))) 2 (fun _ _ => rfl) ?_
      exact q_RP_ret rfl rfl rfl
def dz_M225_64_64 (s : q_S) (v1 : Int32) (v2 : Int32) : Option (Bool) :=
  q_let (dz_M202 s ((s.1 4) 1) 1 2) fun r8 => cond r8 (cond (decide (v2 < 4)) (some true) (dz_M225_64_85 s v1 v2)) (dz_M225_64_85 s v1 v2)
set_option maxHeartbeats 4000000 in
theorem dzt_M225_64_64 (c n : Nat) (s : q_S) (v1 : Int32) (v2 : Int32) : q_RP q_TB0 2 224 (64, [(0, .ref 64), (1, .int v1), (2, .int v2)], [], (q_kM s c n)) (q_oB (q_kM s c n)) (dz_M225_64_64 s v1 v2) := by
  unfold dz_M225_64_64
  refine q_RP_seg (g2 := (70, [(0, .ref 64), (1, .int v1), (2, .int v2)], [.int ((s.1 4) 1)], (q_kM s c n))) 4 (fun _ _ => rfl) ?_
  refine q_RP_seg (g2 := (72, [(0, .ref 64), (1, .int v1), (2, .int v2)], [.int 2, .int 1, .int ((s.1 4) 1)], (q_kM s c n))) 2 (fun _ _ => rfl) ?_
  refine q_RP_call (v := (some (.int (q_b (dz_M202 s ((s.1 4) 1) 1 2))))) (h2 := (q_kM s c n)) rfl rfl ((dzt_M202 s c n ((s.1 4) 1) 1 2).le (Nat.le_of_ble_eq_true rfl)) ?_
  generalize dz_M202 s ((s.1 4) 1) 1 2 = r8
  refine q_RP_let ?_
  show q_RP _ _ _ (75, [(0, .ref 64), (1, .int v1), (2, .int v2)], [.int (q_b r8)], (q_kM s c n)) _ _
  cases h13 : r8 with
  | true =>
    refine q_RP_cT ?_
    show q_RP _ _ _ (75, [(0, .ref 64), (1, .int v1), (2, .int v2)], [.int 1], (q_kM s c n)) _ _
    refine q_RP_seg (g2 := (80, [(0, .ref 64), (1, .int v1), (2, .int v2)], [.int 4, .int v2], (q_kM s c n))) 3 (fun _ _ => rfl) ?_
    cases h14 : decide (v2 < 4) with
    | true =>
      refine q_RP_cT ?_
      refine q_RP_rsF (g2 := (83, [(0, .ref 64), (1, .int v1), (2, .int v2)], [], (q_kM s c n))) rfl rfl (q_d_geT h14) ?_
      refine q_RP_seg (g2 := (84, [(0, .ref 64), (1, .int v1), (2, .int v2)], [.int 1], (q_kM s c n))) 1 (fun _ _ => rfl) ?_
      exact q_RP_ret rfl rfl rfl
    | false =>
      refine q_RP_cF ?_
      refine q_RP_rsT (g2 := (85, [(0, .ref 64), (1, .int v1), (2, .int v2)], [], (q_kM s c n))) rfl rfl (q_d_geF h14) ?_
      exact (dzt_M225_64_85 c n s v1 v2)
  | false =>
    refine q_RP_cF ?_
    show q_RP _ _ _ (75, [(0, .ref 64), (1, .int v1), (2, .int v2)], [.int 0], (q_kM s c n)) _ _
    refine q_RP_seg (g2 := (85, [(0, .ref 64), (1, .int v1), (2, .int v2)], [], (q_kM s c n))) 1 (fun _ _ => rfl) ?_
    exact (dzt_M225_64_85 c n s v1 v2)
def dz_M225_64 (s : q_S) : Option (Bool) :=
  q_let (dz_M222_64 s) fun r6 => q_let (dz_M202 s r6 0 31) fun r7 => cond r7 (cond (decide ((s.1 4) 1 = 0)) (cond (decide (((s.2.2 0 15) - (s.2.2 0 15) / 24 * 24).toInt32 < 8)) (cond (decide ((r6 + (((s.1 4) 2) / 4)) - (r6 + (((s.1 4) 2) / 4)) / 8 * 8 = 0)) (some true) (some false)) (dz_M225_64_64 s r6 (((s.2.2 0 15) - (s.2.2 0 15) / 24 * 24).toInt32))) (dz_M225_64_64 s r6 (((s.2.2 0 15) - (s.2.2 0 15) / 24 * 24).toInt32))) (some false)
set_option maxHeartbeats 4000000 in
theorem dzt_M225_64 (s : q_S) (c n : Nat) (x : Bool) (h : dz_M225_64 s = some x) : q_Ca q_TB0 3 224 [.ref 64] (q_kM s c n) ((q_oB (q_kM s c n)) x) := by
  refine q_CaP_of (φ := (q_oB (q_kM s c n))) (Nat.le_of_ble_eq_true rfl) ?_ h
  clear h
  unfold dz_M225_64
  refine q_RP_seg (g2 := (1, [(0, .ref 64)], [.ref 64], (q_kM s c n))) 1 (fun _ _ => rfl) ?_
  refine q_RP_call (v := (some (.int (dz_M222_64 s)))) (h2 := (q_kM s c n)) rfl rfl ((dzt_M222_64 s c n).le (Nat.le_of_ble_eq_true rfl)) ?_
  generalize dz_M222_64 s = r6
  refine q_RP_let ?_
  show q_RP _ _ _ (4, [(0, .ref 64)], [.int r6], (q_kM s c n)) _ _
  refine q_RP_seg (g2 := (9, [(1, .int r6), (0, .ref 64)], [.long (s.2.2 0 15)], (q_kM s c n))) 3 (fun _ _ => rfl) ?_
  refine q_RP_seg (g2 := (19, [(2, .int (((s.2.2 0 15) - (s.2.2 0 15) / 24 * 24).toInt32)), (1, .int r6), (0, .ref 64)], [.int 31, .int 0, .int r6], (q_kM s c n))) 7 (fun _ _ => rfl) ?_
  refine q_RP_call (v := (some (.int (q_b (dz_M202 s r6 0 31))))) (h2 := (q_kM s c n)) rfl rfl ((dzt_M202 s c n r6 0 31).le (Nat.le_of_ble_eq_true rfl)) ?_
  generalize dz_M202 s r6 0 31 = r7
  refine q_RP_let ?_
  show q_RP _ _ _ (22, [(2, .int (((s.2.2 0 15) - (s.2.2 0 15) / 24 * 24).toInt32)), (1, .int r6), (0, .ref 64)], [.int (q_b r7)], (q_kM s c n)) _ _
  cases h9 : r7 with
  | true =>
    refine q_RP_cT ?_
    show q_RP _ _ _ (22, [(2, .int (((s.2.2 0 15) - (s.2.2 0 15) / 24 * 24).toInt32)), (1, .int r6), (0, .ref 64)], [.int 1], (q_kM s c n)) _ _
    refine q_RP_seg (g2 := (33, [(2, .int (((s.2.2 0 15) - (s.2.2 0 15) / 24 * 24).toInt32)), (1, .int r6), (0, .ref 64)], [.int ((s.1 4) 1)], (q_kM s c n))) 5 (fun _ _ => rfl) ?_
    cases h10 : decide ((s.1 4) 1 = 0) with
    | true =>
      refine q_RP_cT ?_
      refine q_RP_rsF (g2 := (36, [(2, .int (((s.2.2 0 15) - (s.2.2 0 15) / 24 * 24).toInt32)), (1, .int r6), (0, .ref 64)], [], (q_kM s c n))) rfl rfl (q_d_neT h10) ?_
      refine q_RP_seg (g2 := (39, [(2, .int (((s.2.2 0 15) - (s.2.2 0 15) / 24 * 24).toInt32)), (1, .int r6), (0, .ref 64)], [.int 8, .int (((s.2.2 0 15) - (s.2.2 0 15) / 24 * 24).toInt32)], (q_kM s c n))) 2 (fun _ _ => rfl) ?_
      cases h11 : decide (((s.2.2 0 15) - (s.2.2 0 15) / 24 * 24).toInt32 < 8) with
      | true =>
        refine q_RP_cT ?_
        refine q_RP_rsF (g2 := (42, [(2, .int (((s.2.2 0 15) - (s.2.2 0 15) / 24 * 24).toInt32)), (1, .int r6), (0, .ref 64)], [], (q_kM s c n))) rfl rfl (q_d_geT h11) ?_
        refine q_RP_seg (g2 := (49, [(2, .int (((s.2.2 0 15) - (s.2.2 0 15) / 24 * 24).toInt32)), (1, .int r6), (0, .ref 64)], [.int ((s.1 4) 2), .int r6], (q_kM s c n))) 5 (fun _ _ => rfl) ?_
        refine q_RP_seg (g2 := (55, [(2, .int (((s.2.2 0 15) - (s.2.2 0 15) / 24 * 24).toInt32)), (1, .int r6), (0, .ref 64)], [.int ((r6 + (((s.1 4) 2) / 4)) - (r6 + (((s.1 4) 2) / 4)) / 8 * 8)], (q_kM s c n))) 5 (fun _ _ => rfl) ?_
        cases h12 : decide ((r6 + (((s.1 4) 2) / 4)) - (r6 + (((s.1 4) 2) / 4)) / 8 * 8 = 0) with
        | true =>
          refine q_RP_cT ?_
          refine q_RP_rsF (g2 := (58, [(2, .int (((s.2.2 0 15) - (s.2.2 0 15) / 24 * 24).toInt32)), (1, .int r6), (0, .ref 64)], [], (q_kM s c n))) rfl rfl (q_d_neT h12) ?_
          refine q_RP_seg (g2 := (63, [(2, .int (((s.2.2 0 15) - (s.2.2 0 15) / 24 * 24).toInt32)), (1, .int r6), (0, .ref 64)], [.int 1], (q_kM s c n))) 2 (fun _ _ => rfl) ?_
          exact q_RP_ret rfl rfl rfl
        | false =>
          refine q_RP_cF ?_
          refine q_RP_rsT (g2 := (62, [(2, .int (((s.2.2 0 15) - (s.2.2 0 15) / 24 * 24).toInt32)), (1, .int r6), (0, .ref 64)], [], (q_kM s c n))) rfl rfl (q_d_neF h12) ?_
          refine q_RP_seg (g2 := (63, [(2, .int (((s.2.2 0 15) - (s.2.2 0 15) / 24 * 24).toInt32)), (1, .int r6), (0, .ref 64)], [.int 0], (q_kM s c n))) 1 (fun _ _ => rfl) ?_
          exact q_RP_ret rfl rfl rfl
      | false =>
        refine q_RP_cF ?_
        refine q_RP_rsT (g2 := (64, [(2, .int (((s.2.2 0 15) - (s.2.2 0 15) / 24 * 24).toInt32)), (1, .int r6), (0, .ref 64)], [], (q_kM s c n))) rfl rfl (q_d_geF h11) ?_
        exact q_RP_xt (q_xt_mk (q_mn1 2 rfl (q_mn1 1 rfl (q_mn1 0 rfl q_mn0))) rfl) (dzt_M225_64_64 c n s r6 (((s.2.2 0 15) - (s.2.2 0 15) / 24 * 24).toInt32))
    | false =>
      refine q_RP_cF ?_
      refine q_RP_rsT (g2 := (64, [(2, .int (((s.2.2 0 15) - (s.2.2 0 15) / 24 * 24).toInt32)), (1, .int r6), (0, .ref 64)], [], (q_kM s c n))) rfl rfl (q_d_neF h10) ?_
      exact q_RP_xt (q_xt_mk (q_mn1 2 rfl (q_mn1 1 rfl (q_mn1 0 rfl q_mn0))) rfl) (dzt_M225_64_64 c n s r6 (((s.2.2 0 15) - (s.2.2 0 15) / 24 * 24).toInt32))
  | false =>
    refine q_RP_cF ?_
    show q_RP _ _ _ (22, [(2, .int (((s.2.2 0 15) - (s.2.2 0 15) / 24 * 24).toInt32)), (1, .int r6), (0, .ref 64)], [.int 0], (q_kM s c n)) _ _
    refine q_RP_seg (g2 := (26, [(2, .int (((s.2.2 0 15) - (s.2.2 0 15) / 24 * 24).toInt32)), (1, .int r6), (0, .ref 64)], [.int 0], (q_kM s c n))) 2 (fun _ _ => rfl) ?_
    exact q_RP_ret rfl rfl rfl
def dz_M226_64 (s : q_S) (a1 : Int32) (a2 : Int32) : Option (Int32) :=
  q_let ((a1 + (((s.1 4) 2) - ((s.1 4) 2) / 4 * 4)) - (a1 + (((s.1 4) 2) - ((s.1 4) 2) / 4 * 4)) / 32 * 32) fun x4 => q_let ((a2 + (((s.1 4) 2) / 4)) - (a2 + (((s.1 4) 2) / 4)) / 32 * 32) fun x5 => cond (decide ((s.1 4) 1 = 0)) (q_let (dz_M213 s (((256 * ((s.1 4) 7)) + (8 * (x5 / 8))) + (x4 / 4))) fun r6 => cond (q_in r6 4096) (q_let (dz_M213 s (((256 * ((s.1 4) 8)) + (8 * ((s.1 1) (r6.toNatClampNeg)))) + (x5 - x5 / 8 * 8))) fun r7 => cond (q_in r7 4096) (some ((((s.1 1) (r7.toNatClampNeg)) >>> (((3 : Int32) - (x4 - x4 / 4 * 4)) &&& 31)) &&& 1)) none) none) (q_let (dz_M213 s (((256 * ((s.1 4) 7)) + (4 * x5)) + (x4 / 8))) fun r8 => cond (q_in r8 4096) (cond (decide ((s.1 4) 1 = 1)) (some ((((s.1 1) (r8.toNatClampNeg)) >>> (((7 : Int32) - (x4 - x4 / 8 * 8)) &&& 31)) &&& 1)) (cond (decide ((s.1 4) 1 = 2)) (some ((((s.1 1) (r8.toNatClampNeg)) >>> (((6 : Int32) - (2 * ((x4 - x4 / 8 * 8) / 2))) &&& 31)) &&& 3)) (some 0))) none)
set_option maxHeartbeats 4000000 in
theorem dzt_M226_64 (s : q_S) (c n : Nat) (a1 : Int32) (a2 : Int32) (x : Int32) (h : dz_M226_64 s a1 a2 = some x) : q_Ca q_TB0 2 225 [.ref 64, .int a1, .int a2] (q_kM s c n) ((q_oP (q_kM s c n)) x) := by
  refine q_CaP_of (φ := (q_oP (q_kM s c n))) (Nat.le_of_ble_eq_true rfl) ?_ h
  clear h
  unfold dz_M226_64
  refine q_RP_seg (g2 := (7, [(0, .ref 64), (1, .int a1), (2, .int a2)], [.int ((s.1 4) 2), .int a1], (q_kM s c n))) 5 (fun _ _ => rfl) ?_
  refine q_RP_seg (g2 := (13, [(0, .ref 64), (1, .int a1), (2, .int a2)], [.int ((a1 + (((s.1 4) 2) - ((s.1 4) 2) / 4 * 4)) - (a1 + (((s.1 4) 2) - ((s.1 4) 2) / 4 * 4)) / 32 * 32)], (q_kM s c n))) 5 (fun _ _ => rfl) ?_
  generalize ((a1 + (((s.1 4) 2) - ((s.1 4) 2) / 4 * 4)) - (a1 + (((s.1 4) 2) - ((s.1 4) 2) / 4 * 4)) / 32 * 32) = x4
  refine q_RP_let ?_
  show q_RP _ _ _ (13, [(0, .ref 64), (1, .int a1), (2, .int a2)], [.int x4], (q_kM s c n)) _ _
  refine q_RP_seg (g2 := (21, [(3, .int x4), (0, .ref 64), (1, .int a1), (2, .int a2)], [.int ((s.1 4) 2), .int a2], (q_kM s c n))) 6 (fun _ _ => rfl) ?_
  refine q_RP_seg (g2 := (27, [(3, .int x4), (0, .ref 64), (1, .int a1), (2, .int a2)], [.int ((a2 + (((s.1 4) 2) / 4)) - (a2 + (((s.1 4) 2) / 4)) / 32 * 32)], (q_kM s c n))) 5 (fun _ _ => rfl) ?_
  generalize ((a2 + (((s.1 4) 2) / 4)) - (a2 + (((s.1 4) 2) / 4)) / 32 * 32) = x5
  refine q_RP_let ?_
  show q_RP _ _ _ (27, [(3, .int x4), (0, .ref 64), (1, .int a1), (2, .int a2)], [.int x5], (q_kM s c n)) _ _
  refine q_RP_seg (g2 := (39, [(4, .int x5), (3, .int x4), (0, .ref 64), (1, .int a1), (2, .int a2)], [.int ((s.1 4) 7), .int 256], (q_kM s c n))) 6 (fun _ _ => rfl) ?_
  refine q_RP_seg (g2 := (48, [(5, .int (256 * ((s.1 4) 7))), (4, .int x5), (3, .int x4), (0, .ref 64), (1, .int a1), (2, .int a2)], [.int ((s.1 4) 1)], (q_kM s c n))) 6 (fun _ _ => rfl) ?_
  cases h2 : decide ((s.1 4) 1 = 0) with
  | true =>
    refine q_RP_cT ?_
    refine q_RP_rsF (g2 := (51, [(5, .int (256 * ((s.1 4) 7))), (4, .int x5), (3, .int x4), (0, .ref 64), (1, .int a1), (2, .int a2)], [], (q_kM s c n))) rfl rfl (q_d_neT h2) ?_
    refine q_RP_seg (g2 := (70, [(5, .int (256 * ((s.1 4) 7))), (4, .int x5), (3, .int x4), (0, .ref 64), (1, .int a1), (2, .int a2)], [.int (((256 * ((s.1 4) 7)) + (8 * (x5 / 8))) + (x4 / 4)), .ref 65], (q_kM s c n))) 13 (fun _ _ => rfl) ?_
    refine q_RP_call (v := (some (.int (dz_M213 s (((256 * ((s.1 4) 7)) + (8 * (x5 / 8))) + (x4 / 4)))))) (h2 := (q_kM s c n)) rfl rfl ((dzt_M213 s c n (((256 * ((s.1 4) 7)) + (8 * (x5 / 8))) + (x4 / 4))).le (Nat.le_of_ble_eq_true rfl)) ?_
    generalize dz_M213 s (((256 * ((s.1 4) 7)) + (8 * (x5 / 8))) + (x4 / 4)) = r6
    refine q_RP_let ?_
    show q_RP _ _ _ (73, [(5, .int (256 * ((s.1 4) 7))), (4, .int x5), (3, .int x4), (0, .ref 64), (1, .int a1), (2, .int a2)], [.int r6, .ref 65], (q_kM s c n)) _ _
    refine q_RP_as fun i3 => ?_
    refine q_RP_rsT (g2 := (74, [(5, .int (256 * ((s.1 4) 7))), (4, .int x5), (3, .int x4), (0, .ref 64), (1, .int a1), (2, .int a2)], [.int ((s.1 1) (r6.toNatClampNeg))], (q_kM s c n))) rfl rfl i3 ?_
    refine q_RP_seg (g2 := (90, [(6, .int ((s.1 1) (r6.toNatClampNeg))), (5, .int (256 * ((s.1 4) 7))), (4, .int x5), (3, .int x4), (0, .ref 64), (1, .int a1), (2, .int a2)], [.int ((s.1 4) 8), .int 256, .ref 65], (q_kM s c n))) 8 (fun _ _ => rfl) ?_
    refine q_RP_seg (g2 := (103, [(6, .int ((s.1 1) (r6.toNatClampNeg))), (5, .int (256 * ((s.1 4) 7))), (4, .int x5), (3, .int x4), (0, .ref 64), (1, .int a1), (2, .int a2)], [.int (((256 * ((s.1 4) 8)) + (8 * ((s.1 1) (r6.toNatClampNeg)))) + (x5 - x5 / 8 * 8)), .ref 65], (q_kM s c n))) 9 (fun _ _ => rfl) ?_
    refine q_RP_call (v := (some (.int (dz_M213 s (((256 * ((s.1 4) 8)) + (8 * ((s.1 1) (r6.toNatClampNeg)))) + (x5 - x5 / 8 * 8)))))) (h2 := (q_kM s c n)) rfl rfl ((dzt_M213 s c n (((256 * ((s.1 4) 8)) + (8 * ((s.1 1) (r6.toNatClampNeg)))) + (x5 - x5 / 8 * 8))).le (Nat.le_of_ble_eq_true rfl)) ?_
    generalize dz_M213 s (((256 * ((s.1 4) 8)) + (8 * ((s.1 1) (r6.toNatClampNeg)))) + (x5 - x5 / 8 * 8)) = r7
    refine q_RP_let ?_
    show q_RP _ _ _ (106, [(6, .int ((s.1 1) (r6.toNatClampNeg))), (5, .int (256 * ((s.1 4) 7))), (4, .int x5), (3, .int x4), (0, .ref 64), (1, .int a1), (2, .int a2)], [.int r7, .ref 65], (q_kM s c n)) _ _
    refine q_RP_as fun i4 => ?_
    refine q_RP_rsT (g2 := (107, [(6, .int ((s.1 1) (r6.toNatClampNeg))), (5, .int (256 * ((s.1 4) 7))), (4, .int x5), (3, .int x4), (0, .ref 64), (1, .int a1), (2, .int a2)], [.int ((s.1 1) (r7.toNatClampNeg))], (q_kM s c n))) rfl rfl i4 ?_
    refine q_RP_seg (g2 := (115, [(6, .int ((s.1 1) (r6.toNatClampNeg))), (5, .int (256 * ((s.1 4) 7))), (4, .int x5), (3, .int x4), (0, .ref 64), (1, .int a1), (2, .int a2)], [.int ((((s.1 1) (r7.toNatClampNeg)) >>> (((3 : Int32) - (x4 - x4 / 4 * 4)) &&& 31)) &&& 1)], (q_kM s c n))) 8 (fun _ _ => rfl) ?_
    exact q_RP_ret rfl rfl rfl
  | false =>
    refine q_RP_cF ?_
    refine q_RP_rsT (g2 := (116, [(5, .int (256 * ((s.1 4) 7))), (4, .int x5), (3, .int x4), (0, .ref 64), (1, .int a1), (2, .int a2)], [], (q_kM s c n))) rfl rfl (q_d_neF h2) ?_
    refine q_RP_seg (g2 := (132, [(5, .int (256 * ((s.1 4) 7))), (4, .int x5), (3, .int x4), (0, .ref 64), (1, .int a1), (2, .int a2)], [.int (((256 * ((s.1 4) 7)) + (4 * x5)) + (x4 / 8)), .ref 65], (q_kM s c n))) 11 (fun _ _ => rfl) ?_
    refine q_RP_call (v := (some (.int (dz_M213 s (((256 * ((s.1 4) 7)) + (4 * x5)) + (x4 / 8)))))) (h2 := (q_kM s c n)) rfl rfl ((dzt_M213 s c n (((256 * ((s.1 4) 7)) + (4 * x5)) + (x4 / 8))).le (Nat.le_of_ble_eq_true rfl)) ?_
    generalize dz_M213 s (((256 * ((s.1 4) 7)) + (4 * x5)) + (x4 / 8)) = r8
    refine q_RP_let ?_
    show q_RP _ _ _ (135, [(5, .int (256 * ((s.1 4) 7))), (4, .int x5), (3, .int x4), (0, .ref 64), (1, .int a1), (2, .int a2)], [.int r8, .ref 65], (q_kM s c n)) _ _
    refine q_RP_as fun i5 => ?_
    refine q_RP_rsT (g2 := (136, [(5, .int (256 * ((s.1 4) 7))), (4, .int x5), (3, .int x4), (0, .ref 64), (1, .int a1), (2, .int a2)], [.int ((s.1 1) (r8.toNatClampNeg))], (q_kM s c n))) rfl rfl i5 ?_
    refine q_RP_seg (g2 := (144, [(6, .int ((s.1 1) (r8.toNatClampNeg))), (5, .int (256 * ((s.1 4) 7))), (4, .int x5), (3, .int x4), (0, .ref 64), (1, .int a1), (2, .int a2)], [.int ((s.1 4) 1)], (q_kM s c n))) 5 (fun _ _ => rfl) ?_
    refine q_RP_seg (g2 := (145, [(6, .int ((s.1 1) (r8.toNatClampNeg))), (5, .int (256 * ((s.1 4) 7))), (4, .int x5), (3, .int x4), (0, .ref 64), (1, .int a1), (2, .int a2)], [.int 1, .int ((s.1 4) 1)], (q_kM s c n))) 1 (fun _ _ => rfl) ?_
    cases h6 : decide ((s.1 4) 1 = 1) with
    | true =>
      refine q_RP_cT ?_
      refine q_RP_rsF (g2 := (148, [(6, .int ((s.1 1) (r8.toNatClampNeg))), (5, .int (256 * ((s.1 4) 7))), (4, .int x5), (3, .int x4), (0, .ref 64), (1, .int a1), (2, .int a2)], [], (q_kM s c n))) rfl rfl (q_d_neT h6) ?_
      refine q_RP_seg (g2 := (193, [(6, .int ((s.1 1) (r8.toNatClampNeg))), (5, .int (256 * ((s.1 4) 7))), (4, .int x5), (3, .int x4), (0, .ref 64), (1, .int a1), (2, .int a2)], [.int ((((s.1 1) (r8.toNatClampNeg)) >>> (((7 : Int32) - (x4 - x4 / 8 * 8)) &&& 31)) &&& 1)], (q_kM s c n))) 10 (fun _ _ => rfl) ?_
      exact q_RP_ret rfl rfl rfl
    | false =>
      refine q_RP_cF ?_
      refine q_RP_rsT (g2 := (163, [(6, .int ((s.1 1) (r8.toNatClampNeg))), (5, .int (256 * ((s.1 4) 7))), (4, .int x5), (3, .int x4), (0, .ref 64), (1, .int a1), (2, .int a2)], [], (q_kM s c n))) rfl rfl (q_d_neF h6) ?_
      refine q_RP_seg (g2 := (169, [(6, .int ((s.1 1) (r8.toNatClampNeg))), (5, .int (256 * ((s.1 4) 7))), (4, .int x5), (3, .int x4), (0, .ref 64), (1, .int a1), (2, .int a2)], [.int ((s.1 4) 1)], (q_kM s c n))) 4 (fun _ _ => rfl) ?_
      refine q_RP_seg (g2 := (170, [(6, .int ((s.1 1) (r8.toNatClampNeg))), (5, .int (256 * ((s.1 4) 7))), (4, .int x5), (3, .int x4), (0, .ref 64), (1, .int a1), (2, .int a2)], [.int 2, .int ((s.1 4) 1)], (q_kM s c n))) 1 (fun _ _ => rfl) ?_
      cases h7 : decide ((s.1 4) 1 = 2) with
      | true =>
        refine q_RP_cT ?_
        refine q_RP_rsF (g2 := (173, [(6, .int ((s.1 1) (r8.toNatClampNeg))), (5, .int (256 * ((s.1 4) 7))), (4, .int x5), (3, .int x4), (0, .ref 64), (1, .int a1), (2, .int a2)], [], (q_kM s c n))) rfl rfl (q_d_neT h7) ?_
        refine q_RP_seg (g2 := (193, [(6, .int ((s.1 1) (r8.toNatClampNeg))), (5, .int (256 * ((s.1 4) 7))), (4, .int x5), (3, .int x4), (0, .ref 64), (1, .int a1), (2, .int a2)], [.int ((((s.1 1) (r8.toNatClampNeg)) >>> (((6 : Int32) - (2 * ((x4 - x4 / 8 * 8) / 2))) &&& 31)) &&& 3)], (q_kM s c n))) 14 (fun _ _ => rfl) ?_
        exact q_RP_ret rfl rfl rfl
      | false =>
        refine q_RP_cF ?_
        refine q_RP_rsT (g2 := (192, [(6, .int ((s.1 1) (r8.toNatClampNeg))), (5, .int (256 * ((s.1 4) 7))), (4, .int x5), (3, .int x4), (0, .ref 64), (1, .int a1), (2, .int a2)], [], (q_kM s c n))) rfl rfl (q_d_neF h7) ?_
        refine q_RP_seg (g2 := (193, [(6, .int ((s.1 1) (r8.toNatClampNeg))), (5, .int (256 * ((s.1 4) 7))), (4, .int x5), (3, .int x4), (0, .ref 64), (1, .int a1), (2, .int a2)], [.int 0], (q_kM s c n))) 1 (fun _ _ => rfl) ?_
        exact q_RP_ret rfl rfl rfl
def dz_M227_64_62 (s : q_S) (v1 : Int32) (v4 : Int32) (v5 : Int32) : Option (Bool) :=
  q_let (dz_M202 s v4 0 7) fun r6 => cond r6 (q_let (dz_M202 s v5 0 7) fun r7 => cond r7 (q_let (dz_M213 s ((((256 * ((s.1 4) 7)) + 128) + (8 * v1)) + v5)) fun r8 => cond (q_in r8 4096) (q_let (dz_M206 s ((s.1 1) (r8.toNatClampNeg)) ((7 : Int32) - v4)) fun r9 => cond r9 (some true) (some false)) none) (some false)) (some false)
set_option maxHeartbeats 4000000 in
theorem dzt_M227_64_62 (c n : Nat) (s : q_S) (v1 : Int32) (v4 : Int32) (v5 : Int32) : q_RP q_TB0 2 226 (62, [(0, .ref 64), (1, .int v1), (4, .int v4), (5, .int v5)], [], (q_kM s c n)) (q_oB (q_kM s c n)) (dz_M227_64_62 s v1 v4 v5) := by
  unfold dz_M227_64_62
  refine q_RP_seg (g2 := (67, [(0, .ref 64), (1, .int v1), (4, .int v4), (5, .int v5)], [.int 7, .int 0, .int v4], (q_kM s c n))) 3 (fun _ _ => rfl) ?_
  refine q_RP_call (v := (some (.int (q_b (dz_M202 s v4 0 7))))) (h2 := (q_kM s c n)) rfl rfl ((dzt_M202 s c n v4 0 7).le (Nat.le_of_ble_eq_true rfl)) ?_
  generalize dz_M202 s v4 0 7 = r6
  refine q_RP_let ?_
  show q_RP _ _ _ (70, [(0, .ref 64), (1, .int v1), (4, .int v4), (5, .int v5)], [.int (q_b r6)], (q_kM s c n)) _ _
  cases h6 : r6 with
  | true =>
    refine q_RP_cT ?_
    show q_RP _ _ _ (70, [(0, .ref 64), (1, .int v1), (4, .int v4), (5, .int v5)], [.int 1], (q_kM s c n)) _ _
    refine q_RP_seg (g2 := (78, [(0, .ref 64), (1, .int v1), (4, .int v4), (5, .int v5)], [.int 7, .int 0, .int v5], (q_kM s c n))) 4 (fun _ _ => rfl) ?_
    refine q_RP_call (v := (some (.int (q_b (dz_M202 s v5 0 7))))) (h2 := (q_kM s c n)) rfl rfl ((dzt_M202 s c n v5 0 7).le (Nat.le_of_ble_eq_true rfl)) ?_
    generalize dz_M202 s v5 0 7 = r7
    refine q_RP_let ?_
    show q_RP _ _ _ (81, [(0, .ref 64), (1, .int v1), (4, .int v4), (5, .int v5)], [.int (q_b r7)], (q_kM s c n)) _ _
    cases h7 : r7 with
    | true =>
      refine q_RP_cT ?_
      show q_RP _ _ _ (81, [(0, .ref 64), (1, .int v1), (4, .int v4), (5, .int v5)], [.int 1], (q_kM s c n)) _ _
      refine q_RP_seg (g2 := (98, [(0, .ref 64), (1, .int v1), (4, .int v4), (5, .int v5)], [.int ((s.1 4) 7), .int 256, .ref 65], (q_kM s c n))) 8 (fun _ _ => rfl) ?_
      refine q_RP_seg (g2 := (111, [(0, .ref 64), (1, .int v1), (4, .int v4), (5, .int v5)], [.int ((((256 * ((s.1 4) 7)) + 128) + (8 * v1)) + v5), .ref 65], (q_kM s c n))) 9 (fun _ _ => rfl) ?_
      refine q_RP_call (v := (some (.int (dz_M213 s ((((256 * ((s.1 4) 7)) + 128) + (8 * v1)) + v5))))) (h2 := (q_kM s c n)) rfl rfl ((dzt_M213 s c n ((((256 * ((s.1 4) 7)) + 128) + (8 * v1)) + v5)).le (Nat.le_of_ble_eq_true rfl)) ?_
      generalize dz_M213 s ((((256 * ((s.1 4) 7)) + 128) + (8 * v1)) + v5) = r8
      refine q_RP_let ?_
      show q_RP _ _ _ (114, [(0, .ref 64), (1, .int v1), (4, .int v4), (5, .int v5)], [.int r8, .ref 65], (q_kM s c n)) _ _
      refine q_RP_as fun i8 => ?_
      refine q_RP_rsT (g2 := (115, [(0, .ref 64), (1, .int v1), (4, .int v4), (5, .int v5)], [.int ((s.1 1) (r8.toNatClampNeg))], (q_kM s c n))) rfl rfl i8 ?_
      refine q_RP_seg (g2 := (120, [(0, .ref 64), (1, .int v1), (4, .int v4), (5, .int v5)], [.int ((7 : Int32) - v4), .int ((s.1 1) (r8.toNatClampNeg))], (q_kM s c n))) 3 (fun _ _ => rfl) ?_
      refine q_RP_call (v := (some (.int (q_b (dz_M206 s ((s.1 1) (r8.toNatClampNeg)) ((7 : Int32) - v4)))))) (h2 := (q_kM s c n)) rfl rfl ((dzt_M206 s c n ((s.1 1) (r8.toNatClampNeg)) ((7 : Int32) - v4)).le (Nat.le_of_ble_eq_true rfl)) ?_
      generalize dz_M206 s ((s.1 1) (r8.toNatClampNeg)) ((7 : Int32) - v4) = r9
      refine q_RP_let ?_
      show q_RP _ _ _ (123, [(0, .ref 64), (1, .int v1), (4, .int v4), (5, .int v5)], [.int (q_b r9)], (q_kM s c n)) _ _
      cases h9 : r9 with
      | true =>
        refine q_RP_cT ?_
        show q_RP _ _ _ (123, [(0, .ref 64), (1, .int v1), (4, .int v4), (5, .int v5)], [.int 1], (q_kM s c n)) _ _
        refine q_RP_seg (g2 := (131, [(0, .ref 64), (1, .int v1), (4, .int v4), (5, .int v5)], [.int 1], (q_kM s c n))) 3 (fun _ _ => rfl) ?_
        exact q_RP_ret rfl rfl rfl
      | false =>
        refine q_RP_cF ?_
        show q_RP _ _ _ (123, [(0, .ref 64), (1, .int v1), (4, .int v4), (5, .int v5)], [.int 0], (q_kM s c n)) _ _
        refine q_RP_seg (g2 := (131, [(0, .ref 64), (1, .int v1), (4, .int v4), (5, .int v5)], [.int 0], (q_kM s c n))) 2 (fun _ _ => rfl) ?_
        exact q_RP_ret rfl rfl rfl
    | false =>
      refine q_RP_cF ?_
      show q_RP _ _ _ (81, [(0, .ref 64), (1, .int v1), (4, .int v4), (5, .int v5)], [.int 0], (q_kM s c n)) _ _
      refine q_RP_seg (g2 := (131, [(0, .ref 64), (1, .int v1), (4, .int v4), (5, .int v5)], [.int 0], (q_kM s c n))) 2 (fun _ _ => rfl) ?_
      exact q_RP_ret rfl rfl rfl
  | false =>
    refine q_RP_cF ?_
    show q_RP _ _ _ (70, [(0, .ref 64), (1, .int v1), (4, .int v4), (5, .int v5)], [.int 0], (q_kM s c n)) _ _
    refine q_RP_seg (g2 := (131, [(0, .ref 64), (1, .int v1), (4, .int v4), (5, .int v5)], [.int 0], (q_kM s c n))) 2 (fun _ _ => rfl) ?_
    exact q_RP_ret rfl rfl rfl
def dz_M227_64 (s : q_S) (a1 : Int32) (a2 : Int32) (a3 : Int32) : Option (Bool) :=
  q_let (dz_M223_64 s a1) fun r2 => cond r2 (cond (q_in ((20 : Int32) + a1) 48) (cond (q_in ((24 : Int32) + a1) 48) (q_let (dz_M206 s ((s.1 4) 18) a1) fun r3 => cond r3 (q_let ((a2 - ((s.1 4) (((20 : Int32) + a1).toNatClampNeg))) >>> ((1 &&& 31) : Int32)) fun x4 => q_let ((a3 - ((s.1 4) (((24 : Int32) + a1).toNatClampNeg))) >>> ((1 &&& 31) : Int32)) fun x5 => dz_M227_64_62 s a1 x4 x5) (dz_M227_64_62 s a1 (a2 - ((s.1 4) (((20 : Int32) + a1).toNatClampNeg))) (a3 - ((s.1 4) (((24 : Int32) + a1).toNatClampNeg))))) none) none) (some false)
set_option maxHeartbeats 4000000 in
theorem dzt_M227_64 (s : q_S) (c n : Nat) (a1 : Int32) (a2 : Int32) (a3 : Int32) (x : Bool) (h : dz_M227_64 s a1 a2 a3 = some x) : q_Ca q_TB0 3 226 [.ref 64, .int a1, .int a2, .int a3] (q_kM s c n) ((q_oB (q_kM s c n)) x) := by
  refine q_CaP_of (φ := (q_oB (q_kM s c n))) (Nat.le_of_ble_eq_true rfl) ?_ h
  clear h
  unfold dz_M227_64
  refine q_RP_seg (g2 := (2, [(0, .ref 64), (1, .int a1), (2, .int a2), (3, .int a3)], [.int a1, .ref 64], (q_kM s c n))) 2 (fun _ _ => rfl) ?_
  refine q_RP_call (v := (some (.int (q_b (dz_M223_64 s a1))))) (h2 := (q_kM s c n)) rfl rfl ((dzt_M223_64 s c n a1).le (Nat.le_of_ble_eq_true rfl)) ?_
  generalize dz_M223_64 s a1 = r2
  refine q_RP_let ?_
  show q_RP _ _ _ (5, [(0, .ref 64), (1, .int a1), (2, .int a2), (3, .int a3)], [.int (q_b r2)], (q_kM s c n)) _ _
  cases h2 : r2 with
  | true =>
    refine q_RP_cT ?_
    show q_RP _ _ _ (5, [(0, .ref 64), (1, .int a1), (2, .int a2), (3, .int a3)], [.int 1], (q_kM s c n)) _ _
    refine q_RP_seg (g2 := (19, [(0, .ref 64), (1, .int a1), (2, .int a2), (3, .int a3)], [.int ((20 : Int32) + a1), .ref 68, .int a2], (q_kM s c n))) 7 (fun _ _ => rfl) ?_
    refine q_RP_as fun i3 => ?_
    refine q_RP_rsT (g2 := (20, [(0, .ref 64), (1, .int a1), (2, .int a2), (3, .int a3)], [.int ((s.1 4) (((20 : Int32) + a1).toNatClampNeg)), .int a2], (q_kM s c n))) rfl rfl i3 ?_
    refine q_RP_seg (g2 := (32, [(4, .int (a2 - ((s.1 4) (((20 : Int32) + a1).toNatClampNeg)))), (0, .ref 64), (1, .int a1), (2, .int a2), (3, .int a3)], [.int ((24 : Int32) + a1), .ref 68, .int a3], (q_kM s c n))) 8 (fun _ _ => rfl) ?_
    refine q_RP_as fun i4 => ?_
    refine q_RP_rsT (g2 := (33, [(4, .int (a2 - ((s.1 4) (((20 : Int32) + a1).toNatClampNeg)))), (0, .ref 64), (1, .int a1), (2, .int a2), (3, .int a3)], [.int ((s.1 4) (((24 : Int32) + a1).toNatClampNeg)), .int a3], (q_kM s c n))) rfl rfl i4 ?_
    refine q_RP_seg (g2 := (43, [(5, .int (a3 - ((s.1 4) (((24 : Int32) + a1).toNatClampNeg)))), (4, .int (a2 - ((s.1 4) (((20 : Int32) + a1).toNatClampNeg)))), (0, .ref 64), (1, .int a1), (2, .int a2), (3, .int a3)], [.int ((s.1 4) 18)], (q_kM s c n))) 6 (fun _ _ => rfl) ?_
    refine q_RP_seg (g2 := (44, [(5, .int (a3 - ((s.1 4) (((24 : Int32) + a1).toNatClampNeg)))), (4, .int (a2 - ((s.1 4) (((20 : Int32) + a1).toNatClampNeg)))), (0, .ref 64), (1, .int a1), (2, .int a2), (3, .int a3)], [.int a1, .int ((s.1 4) 18)], (q_kM s c n))) 1 (fun _ _ => rfl) ?_
    refine q_RP_call (v := (some (.int (q_b (dz_M206 s ((s.1 4) 18) a1))))) (h2 := (q_kM s c n)) rfl rfl ((dzt_M206 s c n ((s.1 4) 18) a1).le (Nat.le_of_ble_eq_true rfl)) ?_
    generalize dz_M206 s ((s.1 4) 18) a1 = r3
    refine q_RP_let ?_
    show q_RP _ _ _ (47, [(5, .int (a3 - ((s.1 4) (((24 : Int32) + a1).toNatClampNeg)))), (4, .int (a2 - ((s.1 4) (((20 : Int32) + a1).toNatClampNeg)))), (0, .ref 64), (1, .int a1), (2, .int a2), (3, .int a3)], [.int (q_b r3)], (q_kM s c n)) _ _
    cases h5 : r3 with
    | true =>
      refine q_RP_cT ?_
      show q_RP _ _ _ (47, [(5, .int (a3 - ((s.1 4) (((24 : Int32) + a1).toNatClampNeg)))), (4, .int (a2 - ((s.1 4) (((20 : Int32) + a1).toNatClampNeg)))), (0, .ref 64), (1, .int a1), (2, .int a2), (3, .int a3)], [.int 1], (q_kM s c n)) _ _
      refine q_RP_seg (g2 := (54, [(5, .int (a3 - ((s.1 4) (((24 : Int32) + a1).toNatClampNeg)))), (4, .int (a2 - ((s.1 4) (((20 : Int32) + a1).toNatClampNeg)))), (0, .ref 64), (1, .int a1), (2, .int a2), (3, .int a3)], [.int ((a2 - ((s.1 4) (((20 : Int32) + a1).toNatClampNeg))) >>> ((1 &&& 31) : Int32))], (q_kM s c n))) 4 (fun _ _ => rfl) ?_
      generalize ((a2 - ((s.1 4) (((20 : Int32) + a1).toNatClampNeg))) >>> ((1 &&& 31) : Int32)) = x4
      refine q_RP_let ?_
      show q_RP _ _ _ (54, [(5, .int (a3 - ((s.1 4) (((24 : Int32) + a1).toNatClampNeg)))), (4, .int (a2 - ((s.1 4) (((20 : Int32) + a1).toNatClampNeg)))), (0, .ref 64), (1, .int a1), (2, .int a2), (3, .int a3)], [.int x4], (q_kM s c n)) _ _
      refine q_RP_seg (g2 := (60, [(4, .int x4), (5, .int (a3 - ((s.1 4) (((24 : Int32) + a1).toNatClampNeg)))), (0, .ref 64), (1, .int a1), (2, .int a2), (3, .int a3)], [.int ((a3 - ((s.1 4) (((24 : Int32) + a1).toNatClampNeg))) >>> ((1 &&& 31) : Int32))], (q_kM s c n))) 4 (fun _ _ => rfl) ?_
      generalize ((a3 - ((s.1 4) (((24 : Int32) + a1).toNatClampNeg))) >>> ((1 &&& 31) : Int32)) = x5
      refine q_RP_let ?_
      show q_RP _ _ _ (60, [(4, .int x4), (5, .int (a3 - ((s.1 4) (((24 : Int32) + a1).toNatClampNeg)))), (0, .ref 64), (1, .int a1), (2, .int a2), (3, .int a3)], [.int x5], (q_kM s c n)) _ _
      refine q_RP_seg (g2 := (62, [(5, .int x5), (4, .int x4), (0, .ref 64), (1, .int a1), (2, .int a2), (3, .int a3)], [], (q_kM s c n))) 1 (fun _ _ => rfl) ?_
      exact q_RP_xt (q_xt_mk (q_mn1 2 rfl (q_mn1 3 rfl (q_mn1 1 rfl (q_mn1 0 rfl q_mn0)))) rfl) (dzt_M227_64_62 c n s a1 x4 x5)
    | false =>
      refine q_RP_cF ?_
      show q_RP _ _ _ (47, [(5, .int (a3 - ((s.1 4) (((24 : Int32) + a1).toNatClampNeg)))), (4, .int (a2 - ((s.1 4) (((20 : Int32) + a1).toNatClampNeg)))), (0, .ref 64), (1, .int a1), (2, .int a2), (3, .int a3)], [.int 0], (q_kM s c n)) _ _
      refine q_RP_seg (g2 := (62, [(5, .int (a3 - ((s.1 4) (((24 : Int32) + a1).toNatClampNeg)))), (4, .int (a2 - ((s.1 4) (((20 : Int32) + a1).toNatClampNeg)))), (0, .ref 64), (1, .int a1), (2, .int a2), (3, .int a3)], [], (q_kM s c n))) 1 (fun _ _ => rfl) ?_
      exact q_RP_xt (q_xt_mk (q_mn1 2 rfl (q_mn1 3 rfl (q_mn1 1 rfl (q_mn1 0 rfl q_mn0)))) rfl) (dzt_M227_64_62 c n s a1 (a2 - ((s.1 4) (((20 : Int32) + a1).toNatClampNeg))) (a3 - ((s.1 4) (((24 : Int32) + a1).toNatClampNeg))))
  | false =>
    refine q_RP_cF ?_
    show q_RP _ _ _ (5, [(0, .ref 64), (1, .int a1), (2, .int a2), (3, .int a3)], [.int 0], (q_kM s c n)) _ _
    refine q_RP_seg (g2 := (9, [(0, .ref 64), (1, .int a1), (2, .int a2), (3, .int a3)], [.int 0], (q_kM s c n))) 2 (fun _ _ => rfl) ?_
    exact q_RP_ret rfl rfl rfl
def dz_M228_64_118 (s : q_S) (v1 : Int32) (v2 : Int32) (v3 : Int32) (v4 : Int32) (v5 : Int32) (v6 : Int32) : Option (q_S) :=
  cond (q_in ((3 : Int32) + v3) 48) (cond (q_in ((32 * v2) + v1) 1024) (cond (decide (v5 &&& (v5 - 1) = 0)) (cond (decide (v4 = 0)) (some (q_sA s 5 (upd (s.1 5) (((32 * v2) + v1).toNatClampNeg) ((s.1 4) (((3 : Int32) + v3).toNatClampNeg))))) (some (q_sA (q_sA s 5 (upd (s.1 5) (((32 * v2) + v1).toNatClampNeg) ((s.1 4) (((3 : Int32) + v3).toNatClampNeg)))) 14 (upd (s.1 14) 11 (((s.1 14) 11) ||| v5))))) (cond (decide (v4 = 0)) (some (q_sA (q_sA s 5 (upd (s.1 5) (((32 * v2) + v1).toNatClampNeg) ((s.1 4) (((3 : Int32) + v3).toNatClampNeg)))) 14 (upd (s.1 14) 10 (((s.1 14) 10) ||| v5)))) (q_let ((q_sA (q_sA s 5 (upd (s.1 5) (((32 * v2) + v1).toNatClampNeg) ((s.1 4) (((3 : Int32) + v3).toNatClampNeg)))) 14 (upd (s.1 14) 10 (((s.1 14) 10) ||| v5)))) fun r2 => some (q_sA r2 14 (upd (r2.1 14) 11 (((upd (s.1 14) 10 (((s.1 14) 10) ||| v5)) 11) ||| v5)))))) none) none
set_option maxHeartbeats 4000000 in
theorem dzt_M228_64_118 (c n : Nat) (s : q_S) (v1 : Int32) (v2 : Int32) (v3 : Int32) (v4 : Int32) (v5 : Int32) (v6 : Int32) : q_RP q_TB0 3 227 (118, [(0, .ref 64), (1, .int v1), (2, .int v2), (3, .int v3), (4, .int v4), (5, .int v5), (6, .int v6)], [], (q_kM s c n)) (q_oSM c n) (dz_M228_64_118 s v1 v2 v3 v4 v5 v6) := by
  unfold dz_M228_64_118
  refine q_RP_seg (g2 := (159, [(7, .int 0), (0, .ref 64), (1, .int v1), (2, .int v2), (3, .int v3), (4, .int v4), (5, .int v5), (6, .int v6)], [.int ((3 : Int32) + v3), .ref 68, .int ((32 * v2) + v1), .ref 69], (q_kM s c n))) 16 (fun _ _ => rfl) ?_
  refine q_RP_as fun i5 => ?_
  refine q_RP_rsT (g2 := (160, [(7, .int 0), (0, .ref 64), (1, .int v1), (2, .int v2), (3, .int v3), (4, .int v4), (5, .int v5), (6, .int v6)], [.int ((s.1 4) (((3 : Int32) + v3).toNatClampNeg)), .int ((32 * v2) + v1), .ref 69], (q_kM s c n))) rfl rfl i5 ?_
  refine q_RP_as fun i6 => ?_
  refine q_RP_rsT (g2 := (161, [(7, .int 0), (0, .ref 64), (1, .int v1), (2, .int v2), (3, .int v3), (4, .int v4), (5, .int v5), (6, .int v6)], [], (q_kM (q_sA s 5 (upd (s.1 5) (((32 * v2) + v1).toNatClampNeg) ((s.1 4) (((3 : Int32) + v3).toNatClampNeg)))) c n))) rfl q_wM5 i6 ?_
  refine q_RP_seg (g2 := (168, [(7, .int 0), (0, .ref 64), (1, .int v1), (2, .int v2), (3, .int v3), (4, .int v4), (5, .int v5), (6, .int v6)], [.int (v5 &&& (v5 - 1))], (q_kM (q_sA s 5 (upd (s.1 5) (((32 * v2) + v1).toNatClampNeg) ((s.1 4) (((3 : Int32) + v3).toNatClampNeg)))) c n))) 5 (fun _ _ => rfl) ?_
  cases h7 : decide (v5 &&& (v5 - 1) = 0) with
  | true =>
    refine q_RP_cT ?_
    refine q_RP_rsT (g2 := (183, [(7, .int 0), (0, .ref 64), (1, .int v1), (2, .int v2), (3, .int v3), (4, .int v4), (5, .int v5), (6, .int v6)], [], (q_kM (q_sA s 5 (upd (s.1 5) (((32 * v2) + v1).toNatClampNeg) ((s.1 4) (((3 : Int32) + v3).toNatClampNeg)))) c n))) rfl rfl h7 ?_
    refine q_RP_seg (g2 := (185, [(7, .int 0), (0, .ref 64), (1, .int v1), (2, .int v2), (3, .int v3), (4, .int v4), (5, .int v5), (6, .int v6)], [.int v4], (q_kM (q_sA s 5 (upd (s.1 5) (((32 * v2) + v1).toNatClampNeg) ((s.1 4) (((3 : Int32) + v3).toNatClampNeg)))) c n))) 1 (fun _ _ => rfl) ?_
    cases h8 : decide (v4 = 0) with
    | true =>
      refine q_RP_cT ?_
      refine q_RP_rsT (g2 := (200, [(7, .int 0), (0, .ref 64), (1, .int v1), (2, .int v2), (3, .int v3), (4, .int v4), (5, .int v5), (6, .int v6)], [], (q_kM (q_sA s 5 (upd (s.1 5) (((32 * v2) + v1).toNatClampNeg) ((s.1 4) (((3 : Int32) + v3).toNatClampNeg)))) c n))) rfl rfl h8 ?_
      exact q_RP_ret rfl rfl rfl
    | false =>
      refine q_RP_cF ?_
      refine q_RP_rsF (g2 := (188, [(7, .int 0), (0, .ref 64), (1, .int v1), (2, .int v2), (3, .int v3), (4, .int v4), (5, .int v5), (6, .int v6)], [], (q_kM (q_sA s 5 (upd (s.1 5) (((32 * v2) + v1).toNatClampNeg) ((s.1 4) (((3 : Int32) + v3).toNatClampNeg)))) c n))) rfl rfl h8 ?_
      refine q_RP_seg (g2 := (196, [(7, .int 0), (0, .ref 64), (1, .int v1), (2, .int v2), (3, .int v3), (4, .int v4), (5, .int v5), (6, .int v6)], [.int ((s.1 14) 11), .int 11, .ref 78], (q_kM (q_sA s 5 (upd (s.1 5) (((32 * v2) + v1).toNatClampNeg) ((s.1 4) (((3 : Int32) + v3).toNatClampNeg)))) c n))) 5 (fun _ _ => rfl) ?_
      refine q_RP_seg (g2 := (200, [(7, .int 0), (0, .ref 64), (1, .int v1), (2, .int v2), (3, .int v3), (4, .int v4), (5, .int v5), (6, .int v6)], [], (q_kM (q_sA (q_sA s 5 (upd (s.1 5) (((32 * v2) + v1).toNatClampNeg) ((s.1 4) (((3 : Int32) + v3).toNatClampNeg)))) 14 (upd (s.1 14) 11 (((s.1 14) 11) ||| v5))) c n))) 3 (fun _ _ => rfl) ?_
      exact q_RP_ret rfl rfl rfl
  | false =>
    refine q_RP_cF ?_
    refine q_RP_rsF (g2 := (171, [(7, .int 0), (0, .ref 64), (1, .int v1), (2, .int v2), (3, .int v3), (4, .int v4), (5, .int v5), (6, .int v6)], [], (q_kM (q_sA s 5 (upd (s.1 5) (((32 * v2) + v1).toNatClampNeg) ((s.1 4) (((3 : Int32) + v3).toNatClampNeg)))) c n))) rfl rfl h7 ?_
    refine q_RP_seg (g2 := (179, [(7, .int 0), (0, .ref 64), (1, .int v1), (2, .int v2), (3, .int v3), (4, .int v4), (5, .int v5), (6, .int v6)], [.int ((s.1 14) 10), .int 10, .ref 78], (q_kM (q_sA s 5 (upd (s.1 5) (((32 * v2) + v1).toNatClampNeg) ((s.1 4) (((3 : Int32) + v3).toNatClampNeg)))) c n))) 5 (fun _ _ => rfl) ?_
    refine q_RP_seg (g2 := (185, [(7, .int 0), (0, .ref 64), (1, .int v1), (2, .int v2), (3, .int v3), (4, .int v4), (5, .int v5), (6, .int v6)], [.int v4], (q_kM (q_sA (q_sA s 5 (upd (s.1 5) (((32 * v2) + v1).toNatClampNeg) ((s.1 4) (((3 : Int32) + v3).toNatClampNeg)))) 14 (upd (s.1 14) 10 (((s.1 14) 10) ||| v5))) c n))) 4 (fun _ _ => rfl) ?_
    cases h9 : decide (v4 = 0) with
    | true =>
      refine q_RP_cT ?_
      refine q_RP_rsT (g2 := (200, [(7, .int 0), (0, .ref 64), (1, .int v1), (2, .int v2), (3, .int v3), (4, .int v4), (5, .int v5), (6, .int v6)], [], (q_kM (q_sA (q_sA s 5 (upd (s.1 5) (((32 * v2) + v1).toNatClampNeg) ((s.1 4) (((3 : Int32) + v3).toNatClampNeg)))) 14 (upd (s.1 14) 10 (((s.1 14) 10) ||| v5))) c n))) rfl rfl h9 ?_
      exact q_RP_ret rfl rfl rfl
    | false =>
      refine q_RP_cF ?_
      refine q_RP_rsF (g2 := (188, [(7, .int 0), (0, .ref 64), (1, .int v1), (2, .int v2), (3, .int v3), (4, .int v4), (5, .int v5), (6, .int v6)], [], (q_kM (q_sA (q_sA s 5 (upd (s.1 5) (((32 * v2) + v1).toNatClampNeg) ((s.1 4) (((3 : Int32) + v3).toNatClampNeg)))) 14 (upd (s.1 14) 10 (((s.1 14) 10) ||| v5))) c n))) rfl rfl h9 ?_
      refine q_RP_seg (g2 := (196, [(7, .int 0), (0, .ref 64), (1, .int v1), (2, .int v2), (3, .int v3), (4, .int v4), (5, .int v5), (6, .int v6)], [.int ((upd (s.1 14) 10 (((s.1 14) 10) ||| v5)) 11), .int 11, .ref 78], (q_kM (q_sA (q_sA s 5 (upd (s.1 5) (((32 * v2) + v1).toNatClampNeg) ((s.1 4) (((3 : Int32) + v3).toNatClampNeg)))) 14 (upd (s.1 14) 10 (((s.1 14) 10) ||| v5))) c n))) 5 (fun _ _ => rfl) ?_
      refine q_RP_seg (g2 := (199, [(7, .int 0), (0, .ref 64), (1, .int v1), (2, .int v2), (3, .int v3), (4, .int v4), (5, .int v5), (6, .int v6)], [.int (((upd (s.1 14) 10 (((s.1 14) 10) ||| v5)) 11) ||| v5), .int 11, .ref 78], (q_kM (q_sA (q_sA s 5 (upd (s.1 5) (((32 * v2) + v1).toNatClampNeg) ((s.1 4) (((3 : Int32) + v3).toNatClampNeg)))) 14 (upd (s.1 14) 10 (((s.1 14) 10) ||| v5))) c n))) 2 (fun _ _ => rfl) ?_
      generalize (q_sA (q_sA s 5 (upd (s.1 5) (((32 * v2) + v1).toNatClampNeg) ((s.1 4) (((3 : Int32) + v3).toNatClampNeg)))) 14 (upd (s.1 14) 10 (((s.1 14) 10) ||| v5))) = r2
      refine q_RP_let ?_
      show q_RP _ _ _ (199, [(7, .int 0), (0, .ref 64), (1, .int v1), (2, .int v2), (3, .int v3), (4, .int v4), (5, .int v5), (6, .int v6)], [.int (((upd (s.1 14) 10 (((s.1 14) 10) ||| v5)) 11) ||| v5), .int 11, .ref 78], (q_kM r2 c n)) _ _
      refine q_RP_seg (g2 := (200, [(7, .int 0), (0, .ref 64), (1, .int v1), (2, .int v2), (3, .int v3), (4, .int v4), (5, .int v5), (6, .int v6)], [], (q_kM (q_sA r2 14 (upd (r2.1 14) 11 (((upd (s.1 14) 10 (((s.1 14) 10) ||| v5)) 11) ||| v5))) c n))) 1 (fun _ _ => rfl) ?_
      exact q_RP_ret rfl rfl rfl
def dz_M228_64_114 (s : q_S) (v1 : Int32) (v2 : Int32) (v3 : Int32) (v4 : Int32) (v5 : Int32) (v6 : Int32) : Option (q_S) :=
  cond (q_in ((32 * v2) + v1) 1024) (cond (decide (v5 &&& (v5 - 1) = 0)) (cond (decide (v4 = 0)) (some (q_sA s 5 (upd (s.1 5) (((32 * v2) + v1).toNatClampNeg) ((((s.1 4) 28) + v6) - (((s.1 4) 28) + v6) / 16 * 16)))) (some (q_sA (q_sA s 5 (upd (s.1 5) (((32 * v2) + v1).toNatClampNeg) ((((s.1 4) 28) + v6) - (((s.1 4) 28) + v6) / 16 * 16))) 14 (upd (s.1 14) 11 (((s.1 14) 11) ||| v5))))) (cond (decide (v4 = 0)) (some (q_sA (q_sA s 5 (upd (s.1 5) (((32 * v2) + v1).toNatClampNeg) ((((s.1 4) 28) + v6) - (((s.1 4) 28) + v6) / 16 * 16))) 14 (upd (s.1 14) 10 (((s.1 14) 10) ||| v5)))) (q_let ((q_sA (q_sA s 5 (upd (s.1 5) (((32 * v2) + v1).toNatClampNeg) ((((s.1 4) 28) + v6) - (((s.1 4) 28) + v6) / 16 * 16))) 14 (upd (s.1 14) 10 (((s.1 14) 10) ||| v5)))) fun r3 => some (q_sA r3 14 (upd (r3.1 14) 11 (((upd (s.1 14) 10 (((s.1 14) 10) ||| v5)) 11) ||| v5)))))) none
set_option maxHeartbeats 4000000 in
theorem dzt_M228_64_114 (c n : Nat) (s : q_S) (v1 : Int32) (v2 : Int32) (v3 : Int32) (v4 : Int32) (v5 : Int32) (v6 : Int32) : q_RP q_TB0 3 227 (114, [(0, .ref 64), (1, .int v1), (2, .int v2), (3, .int v3), (4, .int v4), (5, .int v5), (6, .int v6)], [], (q_kM s c n)) (q_oSM c n) (dz_M228_64_114 s v1 v2 v3 v4 v5 v6) := by
  unfold dz_M228_64_114
  refine q_RP_seg (g2 := (143, [(7, .int 1), (0, .ref 64), (1, .int v1), (2, .int v2), (3, .int v3), (4, .int v4), (5, .int v5), (6, .int v6)], [.int ((s.1 4) 28), .int ((32 * v2) + v1), .ref 69], (q_kM s c n))) 16 (fun _ _ => rfl) ?_
  refine q_RP_seg (g2 := (160, [(7, .int 1), (0, .ref 64), (1, .int v1), (2, .int v2), (3, .int v3), (4, .int v4), (5, .int v5), (6, .int v6)], [.int ((((s.1 4) 28) + v6) - (((s.1 4) 28) + v6) / 16 * 16), .int ((32 * v2) + v1), .ref 69], (q_kM s c n))) 5 (fun _ _ => rfl) ?_
  refine q_RP_as fun i11 => ?_
  refine q_RP_rsT (g2 := (161, [(7, .int 1), (0, .ref 64), (1, .int v1), (2, .int v2), (3, .int v3), (4, .int v4), (5, .int v5), (6, .int v6)], [], (q_kM (q_sA s 5 (upd (s.1 5) (((32 * v2) + v1).toNatClampNeg) ((((s.1 4) 28) + v6) - (((s.1 4) 28) + v6) / 16 * 16))) c n))) rfl q_wM5 i11 ?_
  refine q_RP_seg (g2 := (168, [(7, .int 1), (0, .ref 64), (1, .int v1), (2, .int v2), (3, .int v3), (4, .int v4), (5, .int v5), (6, .int v6)], [.int (v5 &&& (v5 - 1))], (q_kM (q_sA s 5 (upd (s.1 5) (((32 * v2) + v1).toNatClampNeg) ((((s.1 4) 28) + v6) - (((s.1 4) 28) + v6) / 16 * 16))) c n))) 5 (fun _ _ => rfl) ?_
  cases h12 : decide (v5 &&& (v5 - 1) = 0) with
  | true =>
    refine q_RP_cT ?_
    refine q_RP_rsT (g2 := (183, [(7, .int 1), (0, .ref 64), (1, .int v1), (2, .int v2), (3, .int v3), (4, .int v4), (5, .int v5), (6, .int v6)], [], (q_kM (q_sA s 5 (upd (s.1 5) (((32 * v2) + v1).toNatClampNeg) ((((s.1 4) 28) + v6) - (((s.1 4) 28) + v6) / 16 * 16))) c n))) rfl rfl h12 ?_
    refine q_RP_seg (g2 := (185, [(7, .int 1), (0, .ref 64), (1, .int v1), (2, .int v2), (3, .int v3), (4, .int v4), (5, .int v5), (6, .int v6)], [.int v4], (q_kM (q_sA s 5 (upd (s.1 5) (((32 * v2) + v1).toNatClampNeg) ((((s.1 4) 28) + v6) - (((s.1 4) 28) + v6) / 16 * 16))) c n))) 1 (fun _ _ => rfl) ?_
    cases h13 : decide (v4 = 0) with
    | true =>
      refine q_RP_cT ?_
      refine q_RP_rsT (g2 := (200, [(7, .int 1), (0, .ref 64), (1, .int v1), (2, .int v2), (3, .int v3), (4, .int v4), (5, .int v5), (6, .int v6)], [], (q_kM (q_sA s 5 (upd (s.1 5) (((32 * v2) + v1).toNatClampNeg) ((((s.1 4) 28) + v6) - (((s.1 4) 28) + v6) / 16 * 16))) c n))) rfl rfl h13 ?_
      exact q_RP_ret rfl rfl rfl
    | false =>
      refine q_RP_cF ?_
      refine q_RP_rsF (g2 := (188, [(7, .int 1), (0, .ref 64), (1, .int v1), (2, .int v2), (3, .int v3), (4, .int v4), (5, .int v5), (6, .int v6)], [], (q_kM (q_sA s 5 (upd (s.1 5) (((32 * v2) + v1).toNatClampNeg) ((((s.1 4) 28) + v6) - (((s.1 4) 28) + v6) / 16 * 16))) c n))) rfl rfl h13 ?_
      refine q_RP_seg (g2 := (196, [(7, .int 1), (0, .ref 64), (1, .int v1), (2, .int v2), (3, .int v3), (4, .int v4), (5, .int v5), (6, .int v6)], [.int ((s.1 14) 11), .int 11, .ref 78], (q_kM (q_sA s 5 (upd (s.1 5) (((32 * v2) + v1).toNatClampNeg) ((((s.1 4) 28) + v6) - (((s.1 4) 28) + v6) / 16 * 16))) c n))) 5 (fun _ _ => rfl) ?_
      refine q_RP_seg (g2 := (200, [(7, .int 1), (0, .ref 64), (1, .int v1), (2, .int v2), (3, .int v3), (4, .int v4), (5, .int v5), (6, .int v6)], [], (q_kM (q_sA (q_sA s 5 (upd (s.1 5) (((32 * v2) + v1).toNatClampNeg) ((((s.1 4) 28) + v6) - (((s.1 4) 28) + v6) / 16 * 16))) 14 (upd (s.1 14) 11 (((s.1 14) 11) ||| v5))) c n))) 3 (fun _ _ => rfl) ?_
      exact q_RP_ret rfl rfl rfl
  | false =>
    refine q_RP_cF ?_
    refine q_RP_rsF (g2 := (171, [(7, .int 1), (0, .ref 64), (1, .int v1), (2, .int v2), (3, .int v3), (4, .int v4), (5, .int v5), (6, .int v6)], [], (q_kM (q_sA s 5 (upd (s.1 5) (((32 * v2) + v1).toNatClampNeg) ((((s.1 4) 28) + v6) - (((s.1 4) 28) + v6) / 16 * 16))) c n))) rfl rfl h12 ?_
    refine q_RP_seg (g2 := (179, [(7, .int 1), (0, .ref 64), (1, .int v1), (2, .int v2), (3, .int v3), (4, .int v4), (5, .int v5), (6, .int v6)], [.int ((s.1 14) 10), .int 10, .ref 78], (q_kM (q_sA s 5 (upd (s.1 5) (((32 * v2) + v1).toNatClampNeg) ((((s.1 4) 28) + v6) - (((s.1 4) 28) + v6) / 16 * 16))) c n))) 5 (fun _ _ => rfl) ?_
    refine q_RP_seg (g2 := (185, [(7, .int 1), (0, .ref 64), (1, .int v1), (2, .int v2), (3, .int v3), (4, .int v4), (5, .int v5), (6, .int v6)], [.int v4], (q_kM (q_sA (q_sA s 5 (upd (s.1 5) (((32 * v2) + v1).toNatClampNeg) ((((s.1 4) 28) + v6) - (((s.1 4) 28) + v6) / 16 * 16))) 14 (upd (s.1 14) 10 (((s.1 14) 10) ||| v5))) c n))) 4 (fun _ _ => rfl) ?_
    cases h14 : decide (v4 = 0) with
    | true =>
      refine q_RP_cT ?_
      refine q_RP_rsT (g2 := (200, [(7, .int 1), (0, .ref 64), (1, .int v1), (2, .int v2), (3, .int v3), (4, .int v4), (5, .int v5), (6, .int v6)], [], (q_kM (q_sA (q_sA s 5 (upd (s.1 5) (((32 * v2) + v1).toNatClampNeg) ((((s.1 4) 28) + v6) - (((s.1 4) 28) + v6) / 16 * 16))) 14 (upd (s.1 14) 10 (((s.1 14) 10) ||| v5))) c n))) rfl rfl h14 ?_
      exact q_RP_ret rfl rfl rfl
    | false =>
      refine q_RP_cF ?_
      refine q_RP_rsF (g2 := (188, [(7, .int 1), (0, .ref 64), (1, .int v1), (2, .int v2), (3, .int v3), (4, .int v4), (5, .int v5), (6, .int v6)], [], (q_kM (q_sA (q_sA s 5 (upd (s.1 5) (((32 * v2) + v1).toNatClampNeg) ((((s.1 4) 28) + v6) - (((s.1 4) 28) + v6) / 16 * 16))) 14 (upd (s.1 14) 10 (((s.1 14) 10) ||| v5))) c n))) rfl rfl h14 ?_
      refine q_RP_seg (g2 := (196, [(7, .int 1), (0, .ref 64), (1, .int v1), (2, .int v2), (3, .int v3), (4, .int v4), (5, .int v5), (6, .int v6)], [.int ((upd (s.1 14) 10 (((s.1 14) 10) ||| v5)) 11), .int 11, .ref 78], (q_kM (q_sA (q_sA s 5 (upd (s.1 5) (((32 * v2) + v1).toNatClampNeg) ((((s.1 4) 28) + v6) - (((s.1 4) 28) + v6) / 16 * 16))) 14 (upd (s.1 14) 10 (((s.1 14) 10) ||| v5))) c n))) 5 (fun _ _ => rfl) ?_
      refine q_RP_seg (g2 := (199, [(7, .int 1), (0, .ref 64), (1, .int v1), (2, .int v2), (3, .int v3), (4, .int v4), (5, .int v5), (6, .int v6)], [.int (((upd (s.1 14) 10 (((s.1 14) 10) ||| v5)) 11) ||| v5), .int 11, .ref 78], (q_kM (q_sA (q_sA s 5 (upd (s.1 5) (((32 * v2) + v1).toNatClampNeg) ((((s.1 4) 28) + v6) - (((s.1 4) 28) + v6) / 16 * 16))) 14 (upd (s.1 14) 10 (((s.1 14) 10) ||| v5))) c n))) 2 (fun _ _ => rfl) ?_
      generalize (q_sA (q_sA s 5 (upd (s.1 5) (((32 * v2) + v1).toNatClampNeg) ((((s.1 4) 28) + v6) - (((s.1 4) 28) + v6) / 16 * 16))) 14 (upd (s.1 14) 10 (((s.1 14) 10) ||| v5))) = r3
      refine q_RP_let ?_
      show q_RP _ _ _ (199, [(7, .int 1), (0, .ref 64), (1, .int v1), (2, .int v2), (3, .int v3), (4, .int v4), (5, .int v5), (6, .int v6)], [.int (((upd (s.1 14) 10 (((s.1 14) 10) ||| v5)) 11) ||| v5), .int 11, .ref 78], (q_kM r3 c n)) _ _
      refine q_RP_seg (g2 := (200, [(7, .int 1), (0, .ref 64), (1, .int v1), (2, .int v2), (3, .int v3), (4, .int v4), (5, .int v5), (6, .int v6)], [], (q_kM (q_sA r3 14 (upd (r3.1 14) 11 (((upd (s.1 14) 10 (((s.1 14) 10) ||| v5)) 11) ||| v5))) c n))) 1 (fun _ _ => rfl) ?_
      exact q_RP_ret rfl rfl rfl
def dz_M228_64_51 (m : Nat) : q_S → Int32 → Int32 → Int32 → Int32 → Int32 → Int32 → Int32 → Option (q_S) := Nat.rec (motive := fun _ => q_S → Int32 → Int32 → Int32 → Int32 → Int32 → Int32 → Int32 → Option (q_S)) (fun _ _ _ _ _ _ _ _ => none) (fun _ k51 s v1 v2 v3 v4 v5 v6 v7 =>
  cond (decide (v7 < 0)) (cond (decide (v6 < 0)) (dz_M228_64_118 s v1 v2 v3 v4 v5 v6) (cond (decide (v4 = 0)) (dz_M228_64_114 s v1 v2 v3 v4 v5 v6) (q_let (dz_M206 s ((s.1 4) 19) v6) fun r4 => cond r4 (dz_M228_64_118 s v1 v2 v3 v4 v5 v6) (dz_M228_64_114 s v1 v2 v3 v4 v5 v6)))) ((dz_M227_64 s v7 v1 v2).bind fun r5 => cond r5 (k51 s v1 v2 v3 v4 (v5 ||| ((1 : Int32) <<< (v7 &&& 31))) v7 (v7 + (-1))) (k51 s v1 v2 v3 v4 v5 v6 (v7 + (-1))))) m
theorem dzs_M228_64_51 (m : Nat) (s : q_S) (v1 : Int32) (v2 : Int32) (v3 : Int32) (v4 : Int32) (v5 : Int32) (v6 : Int32) (v7 : Int32) : dz_M228_64_51 (m + 1) s v1 v2 v3 v4 v5 v6 v7 = (fun k51 : q_S → Int32 → Int32 → Int32 → Int32 → Int32 → Int32 → Int32 → Option (q_S) =>
  cond (decide (v7 < 0)) (cond (decide (v6 < 0)) (dz_M228_64_118 s v1 v2 v3 v4 v5 v6) (cond (decide (v4 = 0)) (dz_M228_64_114 s v1 v2 v3 v4 v5 v6) (q_let (dz_M206 s ((s.1 4) 19) v6) fun r4 => cond r4 (dz_M228_64_118 s v1 v2 v3 v4 v5 v6) (dz_M228_64_114 s v1 v2 v3 v4 v5 v6)))) ((dz_M227_64 s v7 v1 v2).bind fun r5 => cond r5 (k51 s v1 v2 v3 v4 (v5 ||| ((1 : Int32) <<< (v7 &&& 31))) v7 (v7 + (-1))) (k51 s v1 v2 v3 v4 v5 v6 (v7 + (-1))))) (dz_M228_64_51 m) := rfl
set_option maxHeartbeats 4000000 in
theorem dzt_M228_64_51 (c n : Nat) : ∀ (m : Nat) (s : q_S) (v1 : Int32) (v2 : Int32) (v3 : Int32) (v4 : Int32) (v5 : Int32) (v6 : Int32) (v7 : Int32), q_RP q_TB0 3 227 (51, [(0, .ref 64), (1, .int v1), (2, .int v2), (3, .int v3), (4, .int v4), (5, .int v5), (6, .int v6), (7, .int v7)], [], (q_kM s c n)) (q_oSM c n) (dz_M228_64_51 m s v1 v2 v3 v4 v5 v6 v7) := by
  intro m
  induction m with
  | zero => intro s v1 v2 v3 v4 v5 v6 v7; exact q_RP_no
  | succ m ih =>
    intro s v1 v2 v3 v4 v5 v6 v7
    have hk51 := ih
    clear ih
    rw [dzs_M228_64_51]
    generalize dz_M228_64_51 m = k51 at hk51 ⊢
    dsimp only
    refine q_RP_seg (g2 := (53, [(0, .ref 64), (1, .int v1), (2, .int v2), (3, .int v3), (4, .int v4), (5, .int v5), (6, .int v6), (7, .int v7)], [.int v7], (q_kM s c n))) 1 (fun _ _ => rfl) ?_
    cases h3 : decide (v7 < 0) with
    | true =>
      refine q_RP_cT ?_
      refine q_RP_rsT (g2 := (89, [(0, .ref 64), (1, .int v1), (2, .int v2), (3, .int v3), (4, .int v4), (5, .int v5), (6, .int v6), (7, .int v7)], [], (q_kM s c n))) rfl rfl h3 ?_
      refine q_RP_seg (g2 := (91, [(0, .ref 64), (1, .int v1), (2, .int v2), (3, .int v3), (4, .int v4), (5, .int v5), (6, .int v6), (7, .int v7)], [.int v6], (q_kM s c n))) 1 (fun _ _ => rfl) ?_
      cases h4 : decide (v6 < 0) with
      | true =>
        refine q_RP_cT ?_
        refine q_RP_rsT (g2 := (118, [(0, .ref 64), (1, .int v1), (2, .int v2), (3, .int v3), (4, .int v4), (5, .int v5), (6, .int v6), (7, .int v7)], [], (q_kM s c n))) rfl rfl h4 ?_
        exact q_RP_xt (q_xt_mk (q_mn1 0 rfl (q_mn1 1 rfl (q_mn1 2 rfl (q_mn1 3 rfl (q_mn1 4 rfl (q_mn1 5 rfl (q_mn1 6 rfl q_mn0))))))) rfl) (dzt_M228_64_118 c n s v1 v2 v3 v4 v5 v6)
      | false =>
        refine q_RP_cF ?_
        refine q_RP_rsF (g2 := (94, [(0, .ref 64), (1, .int v1), (2, .int v2), (3, .int v3), (4, .int v4), (5, .int v5), (6, .int v6), (7, .int v7)], [], (q_kM s c n))) rfl rfl h4 ?_
        refine q_RP_seg (g2 := (96, [(0, .ref 64), (1, .int v1), (2, .int v2), (3, .int v3), (4, .int v4), (5, .int v5), (6, .int v6), (7, .int v7)], [.int v4], (q_kM s c n))) 1 (fun _ _ => rfl) ?_
        cases h10 : decide (v4 = 0) with
        | true =>
          refine q_RP_cT ?_
          refine q_RP_rsT (g2 := (114, [(0, .ref 64), (1, .int v1), (2, .int v2), (3, .int v3), (4, .int v4), (5, .int v5), (6, .int v6), (7, .int v7)], [], (q_kM s c n))) rfl rfl h10 ?_
          exact q_RP_xt (q_xt_mk (q_mn1 0 rfl (q_mn1 1 rfl (q_mn1 2 rfl (q_mn1 3 rfl (q_mn1 4 rfl (q_mn1 5 rfl (q_mn1 6 rfl q_mn0))))))) rfl) (dzt_M228_64_114 c n s v1 v2 v3 v4 v5 v6)
        | false =>
          refine q_RP_cF ?_
          refine q_RP_rsF (g2 := (99, [(0, .ref 64), (1, .int v1), (2, .int v2), (3, .int v3), (4, .int v4), (5, .int v5), (6, .int v6), (7, .int v7)], [], (q_kM s c n))) rfl rfl h10 ?_
          refine q_RP_seg (g2 := (106, [(0, .ref 64), (1, .int v1), (2, .int v2), (3, .int v3), (4, .int v4), (5, .int v5), (6, .int v6), (7, .int v7)], [.int ((s.1 4) 19)], (q_kM s c n))) 4 (fun _ _ => rfl) ?_
          refine q_RP_seg (g2 := (108, [(0, .ref 64), (1, .int v1), (2, .int v2), (3, .int v3), (4, .int v4), (5, .int v5), (6, .int v6), (7, .int v7)], [.int v6, .int ((s.1 4) 19)], (q_kM s c n))) 1 (fun _ _ => rfl) ?_
          refine q_RP_call (v := (some (.int (q_b (dz_M206 s ((s.1 4) 19) v6))))) (h2 := (q_kM s c n)) rfl rfl ((dzt_M206 s c n ((s.1 4) 19) v6).le (Nat.le_of_ble_eq_true rfl)) ?_
          generalize dz_M206 s ((s.1 4) 19) v6 = r4
          refine q_RP_let ?_
          show q_RP _ _ _ (111, [(0, .ref 64), (1, .int v1), (2, .int v2), (3, .int v3), (4, .int v4), (5, .int v5), (6, .int v6), (7, .int v7)], [.int (q_b r4)], (q_kM s c n)) _ _
          cases h15 : r4 with
          | true =>
            refine q_RP_cT ?_
            show q_RP _ _ _ (111, [(0, .ref 64), (1, .int v1), (2, .int v2), (3, .int v3), (4, .int v4), (5, .int v5), (6, .int v6), (7, .int v7)], [.int 1], (q_kM s c n)) _ _
            refine q_RP_seg (g2 := (118, [(0, .ref 64), (1, .int v1), (2, .int v2), (3, .int v3), (4, .int v4), (5, .int v5), (6, .int v6), (7, .int v7)], [], (q_kM s c n))) 1 (fun _ _ => rfl) ?_
            exact q_RP_xt (q_xt_mk (q_mn1 0 rfl (q_mn1 1 rfl (q_mn1 2 rfl (q_mn1 3 rfl (q_mn1 4 rfl (q_mn1 5 rfl (q_mn1 6 rfl q_mn0))))))) rfl) (dzt_M228_64_118 c n s v1 v2 v3 v4 v5 v6)
          | false =>
            refine q_RP_cF ?_
            show q_RP _ _ _ (111, [(0, .ref 64), (1, .int v1), (2, .int v2), (3, .int v3), (4, .int v4), (5, .int v5), (6, .int v6), (7, .int v7)], [.int 0], (q_kM s c n)) _ _
            refine q_RP_seg (g2 := (114, [(0, .ref 64), (1, .int v1), (2, .int v2), (3, .int v3), (4, .int v4), (5, .int v5), (6, .int v6), (7, .int v7)], [], (q_kM s c n))) 1 (fun _ _ => rfl) ?_
            exact q_RP_xt (q_xt_mk (q_mn1 0 rfl (q_mn1 1 rfl (q_mn1 2 rfl (q_mn1 3 rfl (q_mn1 4 rfl (q_mn1 5 rfl (q_mn1 6 rfl q_mn0))))))) rfl) (dzt_M228_64_114 c n s v1 v2 v3 v4 v5 v6)
    | false =>
      refine q_RP_cF ?_
      refine q_RP_rsF (g2 := (56, [(0, .ref 64), (1, .int v1), (2, .int v2), (3, .int v3), (4, .int v4), (5, .int v5), (6, .int v6), (7, .int v7)], [], (q_kM s c n))) rfl rfl h3 ?_
      refine q_RP_seg (g2 := (61, [(0, .ref 64), (1, .int v1), (2, .int v2), (3, .int v3), (4, .int v4), (5, .int v5), (6, .int v6), (7, .int v7)], [.int v2, .int v1, .int v7, .ref 64], (q_kM s c n))) 4 (fun _ _ => rfl) ?_
      refine q_RP_bd fun r5 er5 => ?_
      refine q_RP_call (v := (some (.int (q_b r5)))) (h2 := (q_kM s c n)) rfl rfl ((dzt_M227_64 s c n v7 v1 v2 r5 er5).le (Nat.le_of_ble_eq_true rfl)) ?_
      show q_RP _ _ _ (64, [(0, .ref 64), (1, .int v1), (2, .int v2), (3, .int v3), (4, .int v4), (5, .int v5), (6, .int v6), (7, .int v7)], [.int (q_b r5)], (q_kM s c n)) _ _
      cases h16 : r5 with
      | true =>
        refine q_RP_cT ?_
        show q_RP _ _ _ (64, [(0, .ref 64), (1, .int v1), (2, .int v2), (3, .int v3), (4, .int v4), (5, .int v5), (6, .int v6), (7, .int v7)], [.int 1], (q_kM s c n)) _ _
        refine q_RP_seg (g2 := (51, [(7, .int (v7 + (-1))), (6, .int v7), (5, .int (v5 ||| ((1 : Int32) <<< (v7 &&& 31)))), (0, .ref 64), (1, .int v1), (2, .int v2), (3, .int v3), (4, .int v4)], [], (q_kM s c n))) 11 (fun _ _ => rfl) ?_
        exact q_RP_xt (q_xt_mk (q_mn1 3 rfl (q_mn1 4 rfl (q_mn1 5 rfl (q_mn1 6 rfl (q_mn1 7 rfl (q_mn1 2 rfl (q_mn1 1 rfl (q_mn1 0 rfl q_mn0)))))))) rfl) (hk51 s v1 v2 v3 v4 (v5 ||| ((1 : Int32) <<< (v7 &&& 31))) v7 (v7 + (-1)))
      | false =>
        refine q_RP_cF ?_
        show q_RP _ _ _ (64, [(0, .ref 64), (1, .int v1), (2, .int v2), (3, .int v3), (4, .int v4), (5, .int v5), (6, .int v6), (7, .int v7)], [.int 0], (q_kM s c n)) _ _
        refine q_RP_seg (g2 := (51, [(7, .int (v7 + (-1))), (0, .ref 64), (1, .int v1), (2, .int v2), (3, .int v3), (4, .int v4), (5, .int v5), (6, .int v6)], [], (q_kM s c n))) 4 (fun _ _ => rfl) ?_
        exact q_RP_xt (q_xt_mk (q_mn1 1 rfl (q_mn1 2 rfl (q_mn1 3 rfl (q_mn1 4 rfl (q_mn1 5 rfl (q_mn1 6 rfl (q_mn1 7 rfl (q_mn1 0 rfl q_mn0)))))))) rfl) (hk51 s v1 v2 v3 v4 v5 v6 (v7 + (-1)))
def dz_M228_64 (s : q_S) (a1 : Int32) (a2 : Int32) : Option (q_S) :=
  (dz_M226_64 s a1 a2).bind fun r1 => cond (decide ((s.1 4) 1 = 2)) (cond (decide (1 < r1)) (dz_M228_64_51 5000 s a1 a2 r1 1 0 (-1) 3) (dz_M228_64_51 5000 s a1 a2 r1 0 0 (-1) 3)) (cond (decide (r1 = 1)) (dz_M228_64_51 5000 s a1 a2 r1 1 0 (-1) 3) (dz_M228_64_51 5000 s a1 a2 r1 0 0 (-1) 3))
set_option maxHeartbeats 4000000 in
theorem dzt_M228_64 (s : q_S) (c n : Nat) (a1 : Int32) (a2 : Int32) (x : q_S) (h : dz_M228_64 s a1 a2 = some x) : q_Ca q_TB0 4 227 [.ref 64, .int a1, .int a2] (q_kM s c n) ((q_oSM c n) x) := by
  refine q_CaP_of (φ := (q_oSM c n)) (Nat.le_of_ble_eq_true rfl) ?_ h
  clear h
  unfold dz_M228_64
  refine q_RP_seg (g2 := (3, [(0, .ref 64), (1, .int a1), (2, .int a2)], [.int a2, .int a1, .ref 64], (q_kM s c n))) 3 (fun _ _ => rfl) ?_
  refine q_RP_bd fun r1 er1 => ?_
  refine q_RP_call (v := (some (.int r1))) (h2 := (q_kM s c n)) rfl rfl ((dzt_M226_64 s c n a1 a2 r1 er1).le (Nat.le_of_ble_eq_true rfl)) ?_
  show q_RP _ _ _ (6, [(0, .ref 64), (1, .int a1), (2, .int a2)], [.int r1], (q_kM s c n)) _ _
  refine q_RP_seg (g2 := (13, [(3, .int r1), (0, .ref 64), (1, .int a1), (2, .int a2)], [.int ((s.1 4) 1)], (q_kM s c n))) 5 (fun _ _ => rfl) ?_
  refine q_RP_seg (g2 := (14, [(3, .int r1), (0, .ref 64), (1, .int a1), (2, .int a2)], [.int 2, .int ((s.1 4) 1)], (q_kM s c n))) 1 (fun _ _ => rfl) ?_
  cases h1 : decide ((s.1 4) 1 = 2) with
  | true =>
    refine q_RP_cT ?_
    refine q_RP_rsF (g2 := (17, [(3, .int r1), (0, .ref 64), (1, .int a1), (2, .int a2)], [], (q_kM s c n))) rfl rfl (q_d_neT h1) ?_
    refine q_RP_seg (g2 := (19, [(3, .int r1), (0, .ref 64), (1, .int a1), (2, .int a2)], [.int 1, .int r1], (q_kM s c n))) 2 (fun _ _ => rfl) ?_
    cases h2 : decide (1 < r1) with
    | true =>
      refine q_RP_cT ?_
      refine q_RP_rsF (g2 := (22, [(3, .int r1), (0, .ref 64), (1, .int a1), (2, .int a2)], [], (q_kM s c n))) rfl rfl (q_d_geT h2) ?_
      refine q_RP_seg (g2 := (51, [(7, .int 3), (6, .int (-1)), (5, .int 0), (4, .int 1), (3, .int r1), (0, .ref 64), (1, .int a1), (2, .int a2)], [], (q_kM s c n))) 9 (fun _ _ => rfl) ?_
      exact q_RP_xt (q_xt_mk (q_mn1 5 rfl (q_mn1 6 rfl (q_mn1 7 rfl (q_mn1 4 rfl (q_mn1 3 rfl (q_mn1 2 rfl (q_mn1 1 rfl (q_mn1 0 rfl q_mn0)))))))) rfl) (dzt_M228_64_51 c n 5000 s a1 a2 r1 1 0 (-1) 3)
    | false =>
      refine q_RP_cF ?_
      refine q_RP_rsT (g2 := (26, [(3, .int r1), (0, .ref 64), (1, .int a1), (2, .int a2)], [], (q_kM s c n))) rfl rfl (q_d_geF h2) ?_
      refine q_RP_seg (g2 := (51, [(7, .int 3), (6, .int (-1)), (5, .int 0), (4, .int 0), (3, .int r1), (0, .ref 64), (1, .int a1), (2, .int a2)], [], (q_kM s c n))) 9 (fun _ _ => rfl) ?_
      exact q_RP_xt (q_xt_mk (q_mn1 5 rfl (q_mn1 6 rfl (q_mn1 7 rfl (q_mn1 4 rfl (q_mn1 3 rfl (q_mn1 2 rfl (q_mn1 1 rfl (q_mn1 0 rfl q_mn0)))))))) rfl) (dzt_M228_64_51 c n 5000 s a1 a2 r1 0 0 (-1) 3)
  | false =>
    refine q_RP_cF ?_
    refine q_RP_rsT (g2 := (30, [(3, .int r1), (0, .ref 64), (1, .int a1), (2, .int a2)], [], (q_kM s c n))) rfl rfl (q_d_neF h1) ?_
    refine q_RP_seg (g2 := (32, [(3, .int r1), (0, .ref 64), (1, .int a1), (2, .int a2)], [.int 1, .int r1], (q_kM s c n))) 2 (fun _ _ => rfl) ?_
    cases h17 : decide (r1 = 1) with
    | true =>
      refine q_RP_cT ?_
      refine q_RP_rsF (g2 := (35, [(3, .int r1), (0, .ref 64), (1, .int a1), (2, .int a2)], [], (q_kM s c n))) rfl rfl (q_d_neT h17) ?_
      refine q_RP_seg (g2 := (51, [(7, .int 3), (6, .int (-1)), (5, .int 0), (4, .int 1), (3, .int r1), (0, .ref 64), (1, .int a1), (2, .int a2)], [], (q_kM s c n))) 9 (fun _ _ => rfl) ?_
      exact q_RP_xt (q_xt_mk (q_mn1 5 rfl (q_mn1 6 rfl (q_mn1 7 rfl (q_mn1 4 rfl (q_mn1 3 rfl (q_mn1 2 rfl (q_mn1 1 rfl (q_mn1 0 rfl q_mn0)))))))) rfl) (dzt_M228_64_51 c n 5000 s a1 a2 r1 1 0 (-1) 3)
    | false =>
      refine q_RP_cF ?_
      refine q_RP_rsT (g2 := (39, [(3, .int r1), (0, .ref 64), (1, .int a1), (2, .int a2)], [], (q_kM s c n))) rfl rfl (q_d_neF h17) ?_
      refine q_RP_seg (g2 := (51, [(7, .int 3), (6, .int (-1)), (5, .int 0), (4, .int 0), (3, .int r1), (0, .ref 64), (1, .int a1), (2, .int a2)], [], (q_kM s c n))) 8 (fun _ _ => rfl) ?_
      exact q_RP_xt (q_xt_mk (q_mn1 5 rfl (q_mn1 6 rfl (q_mn1 7 rfl (q_mn1 4 rfl (q_mn1 3 rfl (q_mn1 2 rfl (q_mn1 1 rfl (q_mn1 0 rfl q_mn0)))))))) rfl) (dzt_M228_64_51 c n 5000 s a1 a2 r1 0 0 (-1) 3)
def dz_M229_64 (s : q_S) (a1 : Int32) : Option (q_S × Bool) :=
  cond (q_in ((5 : Int32) + a1) 24) (cond (decide (0 < (s.1 14) (((5 : Int32) + a1).toNatClampNeg))) (some ((q_sA s 14 (upd (s.1 14) (((5 : Int32) + a1).toNatClampNeg) (((s.1 14) (((5 : Int32) + a1).toNatClampNeg)) - 1))), false)) (cond (q_in ((7 : Int32) + a1) 24) (q_let ((q_sA s 14 (upd (s.1 14) (((5 : Int32) + a1).toNatClampNeg) ((s.1 14) (((7 : Int32) + a1).toNatClampNeg))))) fun r1 => some ((q_sA r1 14 (upd (r1.1 14) 9 (((upd (s.1 14) (((5 : Int32) + a1).toNatClampNeg) ((s.1 14) (((7 : Int32) + a1).toNatClampNeg))) 9) ||| ((2 : Int32) <<< (a1 &&& 31))))), true)) none)) none
set_option maxHeartbeats 4000000 in
theorem dzt_M229_64 (s : q_S) (c n : Nat) (a1 : Int32) (x : q_S × Bool) (h : dz_M229_64 s a1 = some x) : q_Ca q_TB0 1 228 [.ref 64, .int a1] (q_kM s c n) ((q_oJM c n) x) := by
  refine q_CaP_of (φ := (q_oJM c n)) (Nat.le_of_ble_eq_true rfl) ?_ h
  clear h
  unfold dz_M229_64
  refine q_RP_seg (g2 := (7, [(0, .ref 64), (1, .int a1)], [.int ((5 : Int32) + a1), .ref 78], (q_kM s c n))) 5 (fun _ _ => rfl) ?_
  refine q_RP_as fun i1 => ?_
  refine q_RP_rsT (g2 := (8, [(0, .ref 64), (1, .int a1)], [.int ((s.1 14) (((5 : Int32) + a1).toNatClampNeg))], (q_kM s c n))) rfl rfl i1 ?_
  cases h2 : decide (0 < (s.1 14) (((5 : Int32) + a1).toNatClampNeg)) with
  | true =>
    refine q_RP_cT ?_
    refine q_RP_rsF (g2 := (11, [(0, .ref 64), (1, .int a1)], [], (q_kM s c n))) rfl rfl (q_d_geT h2) ?_
    refine q_RP_seg (g2 := (19, [(0, .ref 64), (1, .int a1)], [.int ((5 : Int32) + a1), .ref 78, .int ((5 : Int32) + a1), .ref 78], (q_kM s c n))) 6 (fun _ _ => rfl) ?_
    refine q_RP_rsT (g2 := (20, [(0, .ref 64), (1, .int a1)], [.int ((s.1 14) (((5 : Int32) + a1).toNatClampNeg)), .int ((5 : Int32) + a1), .ref 78], (q_kM s c n))) rfl rfl i1 ?_
    refine q_RP_seg (g2 := (22, [(0, .ref 64), (1, .int a1)], [.int (((s.1 14) (((5 : Int32) + a1).toNatClampNeg)) - 1), .int ((5 : Int32) + a1), .ref 78], (q_kM s c n))) 2 (fun _ _ => rfl) ?_
    refine q_RP_rsT (g2 := (23, [(0, .ref 64), (1, .int a1)], [], (q_kM (q_sA s 14 (upd (s.1 14) (((5 : Int32) + a1).toNatClampNeg) (((s.1 14) (((5 : Int32) + a1).toNatClampNeg)) - 1))) c n))) rfl q_wM14 i1 ?_
    refine q_RP_seg (g2 := (24, [(0, .ref 64), (1, .int a1)], [.int 0], (q_kM (q_sA s 14 (upd (s.1 14) (((5 : Int32) + a1).toNatClampNeg) (((s.1 14) (((5 : Int32) + a1).toNatClampNeg)) - 1))) c n))) 1 (fun _ _ => rfl) ?_
    exact q_RP_ret rfl rfl rfl
  | false =>
    refine q_RP_cF ?_
    refine q_RP_rsT (g2 := (25, [(0, .ref 64), (1, .int a1)], [], (q_kM s c n))) rfl rfl (q_d_geF h2) ?_
    refine q_RP_seg (g2 := (40, [(0, .ref 64), (1, .int a1)], [.int ((7 : Int32) + a1), .ref 78, .int ((5 : Int32) + a1), .ref 78], (q_kM s c n))) 10 (fun _ _ => rfl) ?_
    refine q_RP_as fun i3 => ?_
    refine q_RP_rsT (g2 := (41, [(0, .ref 64), (1, .int a1)], [.int ((s.1 14) (((7 : Int32) + a1).toNatClampNeg)), .int ((5 : Int32) + a1), .ref 78], (q_kM s c n))) rfl rfl i3 ?_
    refine q_RP_rsT (g2 := (42, [(0, .ref 64), (1, .int a1)], [], (q_kM (q_sA s 14 (upd (s.1 14) (((5 : Int32) + a1).toNatClampNeg) ((s.1 14) (((7 : Int32) + a1).toNatClampNeg)))) c n))) rfl q_wM14 i1 ?_
    refine q_RP_seg (g2 := (50, [(0, .ref 64), (1, .int a1)], [.int ((upd (s.1 14) (((5 : Int32) + a1).toNatClampNeg) ((s.1 14) (((7 : Int32) + a1).toNatClampNeg))) 9), .int 9, .ref 78], (q_kM (q_sA s 14 (upd (s.1 14) (((5 : Int32) + a1).toNatClampNeg) ((s.1 14) (((7 : Int32) + a1).toNatClampNeg)))) c n))) 5 (fun _ _ => rfl) ?_
    refine q_RP_seg (g2 := (54, [(0, .ref 64), (1, .int a1)], [.int (((upd (s.1 14) (((5 : Int32) + a1).toNatClampNeg) ((s.1 14) (((7 : Int32) + a1).toNatClampNeg))) 9) ||| ((2 : Int32) <<< (a1 &&& 31))), .int 9, .ref 78], (q_kM (q_sA s 14 (upd (s.1 14) (((5 : Int32) + a1).toNatClampNeg) ((s.1 14) (((7 : Int32) + a1).toNatClampNeg)))) c n))) 4 (fun _ _ => rfl) ?_
    generalize (q_sA s 14 (upd (s.1 14) (((5 : Int32) + a1).toNatClampNeg) ((s.1 14) (((7 : Int32) + a1).toNatClampNeg)))) = r1
    refine q_RP_let ?_
    show q_RP _ _ _ (54, [(0, .ref 64), (1, .int a1)], [.int (((upd (s.1 14) (((5 : Int32) + a1).toNatClampNeg) ((s.1 14) (((7 : Int32) + a1).toNatClampNeg))) 9) ||| ((2 : Int32) <<< (a1 &&& 31))), .int 9, .ref 78], (q_kM r1 c n)) _ _
    refine q_RP_seg (g2 := (56, [(0, .ref 64), (1, .int a1)], [.int 1], (q_kM (q_sA r1 14 (upd (r1.1 14) 9 (((upd (s.1 14) (((5 : Int32) + a1).toNatClampNeg) ((s.1 14) (((7 : Int32) + a1).toNatClampNeg))) 9) ||| ((2 : Int32) <<< (a1 &&& 31))))) c n))) 2 (fun _ _ => rfl) ?_
    exact q_RP_ret rfl rfl rfl
def dz_M230_64 (s : q_S) : Option (q_S) :=
  q_let (dz_M206 s ((s.1 4) 16) 0) fun r3 => cond r3 ((dz_M229_64 s 0).bind fun r4 => cond r4.2 (q_let (dz_M206 (q_sI r4.1 0 38 1) ((r4.1.1 4) 16) 1) fun r5 => cond r5 ((dz_M229_64 (q_sI r4.1 0 38 1) 1).bind fun r6 => cond r6.2 (some r6.1) (some r6.1)) (some (q_sI r4.1 0 38 1))) (q_let (dz_M206 (q_sI r4.1 0 38 0) ((r4.1.1 4) 16) 1) fun r7 => cond r7 (q_let (dz_M206 (q_sI r4.1 0 38 0) ((r4.1.1 4) 16) 2) fun r8 => cond r8 (some (q_sI r4.1 0 38 0)) ((dz_M229_64 (q_sI r4.1 0 38 0) 1).bind fun r9 => cond r9.2 (some r9.1) (some r9.1))) (some (q_sI r4.1 0 38 0)))) (q_let (dz_M206 (q_sI s 0 38 0) ((s.1 4) 16) 1) fun r10 => cond r10 (q_let (dz_M206 (q_sI s 0 38 0) ((s.1 4) 16) 2) fun r11 => cond r11 (some (q_sI s 0 38 0)) ((dz_M229_64 (q_sI s 0 38 0) 1).bind fun r12 => cond r12.2 (some r12.1) (some r12.1))) (some (q_sI s 0 38 0)))
set_option maxHeartbeats 4000000 in
theorem dzt_M230_64 (s : q_S) (c n : Nat) (x : q_S) (h : dz_M230_64 s = some x) : q_Ca q_TB0 2 229 [.ref 64] (q_kM s c n) ((q_oSM c n) x) := by
  refine q_CaP_of (φ := (q_oSM c n)) (Nat.le_of_ble_eq_true rfl) ?_ h
  clear h
  unfold dz_M230_64
  refine q_RP_seg (g2 := (8, [(0, .ref 64)], [.int ((s.1 4) 16), .ref 64], (q_kM s c n))) 5 (fun _ _ => rfl) ?_
  refine q_RP_seg (g2 := (9, [(0, .ref 64)], [.int 0, .int ((s.1 4) 16), .ref 64], (q_kM s c n))) 1 (fun _ _ => rfl) ?_
  refine q_RP_call (v := (some (.int (q_b (dz_M206 s ((s.1 4) 16) 0))))) (h2 := (q_kM s c n)) rfl rfl ((dzt_M206 s c n ((s.1 4) 16) 0).le (Nat.le_of_ble_eq_true rfl)) ?_
  generalize dz_M206 s ((s.1 4) 16) 0 = r3
  refine q_RP_let ?_
  show q_RP _ _ _ (12, [(0, .ref 64)], [.int (q_b r3), .ref 64], (q_kM s c n)) _ _
  cases h2 : r3 with
  | true =>
    refine q_RP_cT ?_
    show q_RP _ _ _ (12, [(0, .ref 64)], [.int 1, .ref 64], (q_kM s c n)) _ _
    refine q_RP_seg (g2 := (17, [(0, .ref 64)], [.int 0, .ref 64, .ref 64], (q_kM s c n))) 3 (fun _ _ => rfl) ?_
    refine q_RP_bd fun r4 er4 => ?_
    refine q_RP_call (v := (some (.int (q_b r4.2)))) (h2 := (q_kM r4.1 c n)) rfl rfl ((dzt_M229_64 s c n 0 r4 er4).le (Nat.le_of_ble_eq_true rfl)) ?_
    show q_RP _ _ _ (20, [(0, .ref 64)], [.int (q_b r4.2), .ref 64], (q_kM r4.1 c n)) _ _
    cases h3 : r4.2 with
    | true =>
      refine q_RP_cT ?_
      show q_RP _ _ _ (20, [(0, .ref 64)], [.int 1, .ref 64], (q_kM r4.1 c n)) _ _
      refine q_RP_seg (g2 := (38, [(0, .ref 64)], [.int ((r4.1.1 4) 16)], (q_kM (q_sI r4.1 0 38 1) c n))) 8 (fun _ _ => rfl) ?_
      refine q_RP_seg (g2 := (39, [(0, .ref 64)], [.int 1, .int ((r4.1.1 4) 16)], (q_kM (q_sI r4.1 0 38 1) c n))) 1 (fun _ _ => rfl) ?_
      refine q_RP_call (v := (some (.int (q_b (dz_M206 (q_sI r4.1 0 38 1) ((r4.1.1 4) 16) 1))))) (h2 := (q_kM (q_sI r4.1 0 38 1) c n)) rfl rfl ((dzt_M206 (q_sI r4.1 0 38 1) c n ((r4.1.1 4) 16) 1).le (Nat.le_of_ble_eq_true rfl)) ?_
      generalize dz_M206 (q_sI r4.1 0 38 1) ((r4.1.1 4) 16) 1 = r5
      refine q_RP_let ?_
      show q_RP _ _ _ (42, [(0, .ref 64)], [.int (q_b r5)], (q_kM (q_sI r4.1 0 38 1) c n)) _ _
      cases h4 : r5 with
      | true =>
        refine q_RP_cT ?_
        show q_RP _ _ _ (42, [(0, .ref 64)], [.int 1], (q_kM (q_sI r4.1 0 38 1) c n)) _ _
        refine q_RP_seg (g2 := (49, [(0, .ref 64)], [.int 1], (q_kM (q_sI r4.1 0 38 1) c n))) 3 (fun _ _ => rfl) ?_
        refine q_RP_seg (g2 := (68, [(0, .ref 64)], [.int 1, .ref 64], (q_kM (q_sI r4.1 0 38 1) c n))) 3 (fun _ _ => rfl) ?_
        refine q_RP_bd fun r6 er6 => ?_
        refine q_RP_call (v := (some (.int (q_b r6.2)))) (h2 := (q_kM r6.1 c n)) rfl rfl ((dzt_M229_64 (q_sI r4.1 0 38 1) c n 1 r6 er6).le (Nat.le_of_ble_eq_true rfl)) ?_
        show q_RP _ _ _ (71, [(0, .ref 64)], [.int (q_b r6.2)], (q_kM r6.1 c n)) _ _
        cases h5 : r6.2 with
        | true =>
          refine q_RP_cT ?_
          show q_RP _ _ _ (71, [(0, .ref 64)], [.int 1], (q_kM r6.1 c n)) _ _
          refine q_RP_seg (g2 := (72, [(0, .ref 64)], [], (q_kM r6.1 c n))) 1 (fun _ _ => rfl) ?_
          exact q_RP_ret rfl rfl rfl
        | false =>
          refine q_RP_cF ?_
          show q_RP _ _ _ (71, [(0, .ref 64)], [.int 0], (q_kM r6.1 c n)) _ _
          refine q_RP_seg (g2 := (72, [(0, .ref 64)], [], (q_kM r6.1 c n))) 1 (fun _ _ => rfl) ?_
          exact q_RP_ret rfl rfl rfl
      | false =>
        refine q_RP_cF ?_
        show q_RP _ _ _ (42, [(0, .ref 64)], [.int 0], (q_kM (q_sI r4.1 0 38 1) c n)) _ _
        refine q_RP_seg (g2 := (72, [(0, .ref 64)], [], (q_kM (q_sI r4.1 0 38 1) c n))) 1 (fun _ _ => rfl) ?_
        exact q_RP_ret rfl rfl rfl
    | false =>
      refine q_RP_cF ?_
      show q_RP _ _ _ (20, [(0, .ref 64)], [.int 0, .ref 64], (q_kM r4.1 c n)) _ _
      refine q_RP_seg (g2 := (38, [(0, .ref 64)], [.int ((r4.1.1 4) 16)], (q_kM (q_sI r4.1 0 38 0) c n))) 7 (fun _ _ => rfl) ?_
      refine q_RP_seg (g2 := (39, [(0, .ref 64)], [.int 1, .int ((r4.1.1 4) 16)], (q_kM (q_sI r4.1 0 38 0) c n))) 1 (fun _ _ => rfl) ?_
      refine q_RP_call (v := (some (.int (q_b (dz_M206 (q_sI r4.1 0 38 0) ((r4.1.1 4) 16) 1))))) (h2 := (q_kM (q_sI r4.1 0 38 0) c n)) rfl rfl ((dzt_M206 (q_sI r4.1 0 38 0) c n ((r4.1.1 4) 16) 1).le (Nat.le_of_ble_eq_true rfl)) ?_
      generalize dz_M206 (q_sI r4.1 0 38 0) ((r4.1.1 4) 16) 1 = r7
      refine q_RP_let ?_
      show q_RP _ _ _ (42, [(0, .ref 64)], [.int (q_b r7)], (q_kM (q_sI r4.1 0 38 0) c n)) _ _
      cases h6 : r7 with
      | true =>
        refine q_RP_cT ?_
        show q_RP _ _ _ (42, [(0, .ref 64)], [.int 1], (q_kM (q_sI r4.1 0 38 0) c n)) _ _
        refine q_RP_seg (g2 := (49, [(0, .ref 64)], [.int 0], (q_kM (q_sI r4.1 0 38 0) c n))) 3 (fun _ _ => rfl) ?_
        refine q_RP_seg (g2 := (59, [(0, .ref 64)], [.int ((r4.1.1 4) 16)], (q_kM (q_sI r4.1 0 38 0) c n))) 5 (fun _ _ => rfl) ?_
        refine q_RP_seg (g2 := (60, [(0, .ref 64)], [.int 2, .int ((r4.1.1 4) 16)], (q_kM (q_sI r4.1 0 38 0) c n))) 1 (fun _ _ => rfl) ?_
        refine q_RP_call (v := (some (.int (q_b (dz_M206 (q_sI r4.1 0 38 0) ((r4.1.1 4) 16) 2))))) (h2 := (q_kM (q_sI r4.1 0 38 0) c n)) rfl rfl ((dzt_M206 (q_sI r4.1 0 38 0) c n ((r4.1.1 4) 16) 2).le (Nat.le_of_ble_eq_true rfl)) ?_
        generalize dz_M206 (q_sI r4.1 0 38 0) ((r4.1.1 4) 16) 2 = r8
        refine q_RP_let ?_
        show q_RP _ _ _ (63, [(0, .ref 64)], [.int (q_b r8)], (q_kM (q_sI r4.1 0 38 0) c n)) _ _
        cases h7 : r8 with
        | true =>
          refine q_RP_cT ?_
          show q_RP _ _ _ (63, [(0, .ref 64)], [.int 1], (q_kM (q_sI r4.1 0 38 0) c n)) _ _
          refine q_RP_seg (g2 := (72, [(0, .ref 64)], [], (q_kM (q_sI r4.1 0 38 0) c n))) 1 (fun _ _ => rfl) ?_
          exact q_RP_ret rfl rfl rfl
        | false =>
          refine q_RP_cF ?_
          show q_RP _ _ _ (63, [(0, .ref 64)], [.int 0], (q_kM (q_sI r4.1 0 38 0) c n)) _ _
          refine q_RP_seg (g2 := (68, [(0, .ref 64)], [.int 1, .ref 64], (q_kM (q_sI r4.1 0 38 0) c n))) 3 (fun _ _ => rfl) ?_
          refine q_RP_bd fun r9 er9 => ?_
          refine q_RP_call (v := (some (.int (q_b r9.2)))) (h2 := (q_kM r9.1 c n)) rfl rfl ((dzt_M229_64 (q_sI r4.1 0 38 0) c n 1 r9 er9).le (Nat.le_of_ble_eq_true rfl)) ?_
          show q_RP _ _ _ (71, [(0, .ref 64)], [.int (q_b r9.2)], (q_kM r9.1 c n)) _ _
          cases h8 : r9.2 with
          | true =>
            refine q_RP_cT ?_
            show q_RP _ _ _ (71, [(0, .ref 64)], [.int 1], (q_kM r9.1 c n)) _ _
            refine q_RP_seg (g2 := (72, [(0, .ref 64)], [], (q_kM r9.1 c n))) 1 (fun _ _ => rfl) ?_
            exact q_RP_ret rfl rfl rfl
          | false =>
            refine q_RP_cF ?_
            show q_RP _ _ _ (71, [(0, .ref 64)], [.int 0], (q_kM r9.1 c n)) _ _
            refine q_RP_seg (g2 := (72, [(0, .ref 64)], [], (q_kM r9.1 c n))) 1 (fun _ _ => rfl) ?_
            exact q_RP_ret rfl rfl rfl
      | false =>
        refine q_RP_cF ?_
        show q_RP _ _ _ (42, [(0, .ref 64)], [.int 0], (q_kM (q_sI r4.1 0 38 0) c n)) _ _
        refine q_RP_seg (g2 := (72, [(0, .ref 64)], [], (q_kM (q_sI r4.1 0 38 0) c n))) 1 (fun _ _ => rfl) ?_
        exact q_RP_ret rfl rfl rfl
  | false =>
    refine q_RP_cF ?_
    show q_RP _ _ _ (12, [(0, .ref 64)], [.int 0, .ref 64], (q_kM s c n)) _ _
    refine q_RP_seg (g2 := (38, [(0, .ref 64)], [.int ((s.1 4) 16)], (q_kM (q_sI s 0 38 0) c n))) 7 (fun _ _ => rfl) ?_
    refine q_RP_seg (g2 := (39, [(0, .ref 64)], [.int 1, .int ((s.1 4) 16)], (q_kM (q_sI s 0 38 0) c n))) 1 (fun _ _ => rfl) ?_
    refine q_RP_call (v := (some (.int (q_b (dz_M206 (q_sI s 0 38 0) ((s.1 4) 16) 1))))) (h2 := (q_kM (q_sI s 0 38 0) c n)) rfl rfl ((dzt_M206 (q_sI s 0 38 0) c n ((s.1 4) 16) 1).le (Nat.le_of_ble_eq_true rfl)) ?_
    generalize dz_M206 (q_sI s 0 38 0) ((s.1 4) 16) 1 = r10
    refine q_RP_let ?_
    show q_RP _ _ _ (42, [(0, .ref 64)], [.int (q_b r10)], (q_kM (q_sI s 0 38 0) c n)) _ _
    cases h9 : r10 with
    | true =>
      refine q_RP_cT ?_
      show q_RP _ _ _ (42, [(0, .ref 64)], [.int 1], (q_kM (q_sI s 0 38 0) c n)) _ _
      refine q_RP_seg (g2 := (49, [(0, .ref 64)], [.int 0], (q_kM (q_sI s 0 38 0) c n))) 3 (fun _ _ => rfl) ?_
      refine q_RP_seg (g2 := (59, [(0, .ref 64)], [.int ((s.1 4) 16)], (q_kM (q_sI s 0 38 0) c n))) 5 (fun _ _ => rfl) ?_
      refine q_RP_seg (g2 := (60, [(0, .ref 64)], [.int 2, .int ((s.1 4) 16)], (q_kM (q_sI s 0 38 0) c n))) 1 (fun _ _ => rfl) ?_
      refine q_RP_call (v := (some (.int (q_b (dz_M206 (q_sI s 0 38 0) ((s.1 4) 16) 2))))) (h2 := (q_kM (q_sI s 0 38 0) c n)) rfl rfl ((dzt_M206 (q_sI s 0 38 0) c n ((s.1 4) 16) 2).le (Nat.le_of_ble_eq_true rfl)) ?_
      generalize dz_M206 (q_sI s 0 38 0) ((s.1 4) 16) 2 = r11
      refine q_RP_let ?_
      show q_RP _ _ _ (63, [(0, .ref 64)], [.int (q_b r11)], (q_kM (q_sI s 0 38 0) c n)) _ _
      cases h10 : r11 with
      | true =>
        refine q_RP_cT ?_
        show q_RP _ _ _ (63, [(0, .ref 64)], [.int 1], (q_kM (q_sI s 0 38 0) c n)) _ _
        refine q_RP_seg (g2 := (72, [(0, .ref 64)], [], (q_kM (q_sI s 0 38 0) c n))) 1 (fun _ _ => rfl) ?_
        exact q_RP_ret rfl rfl rfl
      | false =>
        refine q_RP_cF ?_
        show q_RP _ _ _ (63, [(0, .ref 64)], [.int 0], (q_kM (q_sI s 0 38 0) c n)) _ _
        refine q_RP_seg (g2 := (68, [(0, .ref 64)], [.int 1, .ref 64], (q_kM (q_sI s 0 38 0) c n))) 3 (fun _ _ => rfl) ?_
        refine q_RP_bd fun r12 er12 => ?_
        refine q_RP_call (v := (some (.int (q_b r12.2)))) (h2 := (q_kM r12.1 c n)) rfl rfl ((dzt_M229_64 (q_sI s 0 38 0) c n 1 r12 er12).le (Nat.le_of_ble_eq_true rfl)) ?_
        show q_RP _ _ _ (71, [(0, .ref 64)], [.int (q_b r12.2)], (q_kM r12.1 c n)) _ _
        cases h11 : r12.2 with
        | true =>
          refine q_RP_cT ?_
          show q_RP _ _ _ (71, [(0, .ref 64)], [.int 1], (q_kM r12.1 c n)) _ _
          refine q_RP_seg (g2 := (72, [(0, .ref 64)], [], (q_kM r12.1 c n))) 1 (fun _ _ => rfl) ?_
          exact q_RP_ret rfl rfl rfl
        | false =>
          refine q_RP_cF ?_
          show q_RP _ _ _ (71, [(0, .ref 64)], [.int 0], (q_kM r12.1 c n)) _ _
          refine q_RP_seg (g2 := (72, [(0, .ref 64)], [], (q_kM r12.1 c n))) 1 (fun _ _ => rfl) ?_
          exact q_RP_ret rfl rfl rfl
    | false =>
      refine q_RP_cF ?_
      show q_RP _ _ _ (42, [(0, .ref 64)], [.int 0], (q_kM (q_sI s 0 38 0) c n)) _ _
      refine q_RP_seg (g2 := (72, [(0, .ref 64)], [], (q_kM (q_sI s 0 38 0) c n))) 1 (fun _ _ => rfl) ?_
      exact q_RP_ret rfl rfl rfl
def dz_M231_64 (s : q_S) : Option (q_S) :=
  cond (decide ((s.1 4) 44 = 0)) (some s) (q_let (dz_M209_64 s) fun r6 => cond r6 (cond (decide (0 < (upd (s.1 14) 15 (((s.1 14) 15) - 1)) 15)) (some (q_sA s 14 (upd (s.1 14) 15 (((s.1 14) 15) - 1)))) (q_let ((q_sA s 14 (upd (s.1 14) 15 (((s.1 14) 15) - 1)))) fun r7 => q_let ((q_sA r7 14 (upd (r7.1 14) 14 (((upd (s.1 14) 15 (((s.1 14) 15) - 1)) 14) + 1)))) fun r8 => q_let ((q_sA r8 14 (upd (r8.1 14) 16 ((1 : Int32) - ((upd (r7.1 14) 14 (((upd (s.1 14) 15 (((s.1 14) 15) - 1)) 14) + 1)) 16))))) fun r9 => q_let (dz_M209_64 (q_sA r9 14 (upd (r9.1 14) 9 (((upd (r8.1 14) 16 ((1 : Int32) - ((upd (r7.1 14) 14 (((upd (s.1 14) 15 (((s.1 14) 15) - 1)) 14) + 1)) 16))) 9) ||| 8)))) fun r10 => cond r10 (cond (q_in ((upd (r9.1 14) 9 (((upd (r8.1 14) 16 ((1 : Int32) - ((upd (r7.1 14) 14 (((upd (s.1 14) 15 (((s.1 14) 15) - 1)) 14) + 1)) 16))) 9) ||| 8)) 14) 40) (q_let ((q_sA r9 14 (upd (r9.1 14) 9 (((upd (r8.1 14) 16 ((1 : Int32) - ((upd (r7.1 14) 14 (((upd (s.1 14) 15 (((s.1 14) 15) - 1)) 14) + 1)) 16))) 9) ||| 8)))) fun r11 => some (q_sA r11 14 (upd (r11.1 14) 15 ((r9.1 8) (((upd (r9.1 14) 9 (((upd (r8.1 14) 16 ((1 : Int32) - ((upd (r7.1 14) 14 (((upd (s.1 14) 15 (((s.1 14) 15) - 1)) 14) + 1)) 16))) 9) ||| 8)) 14).toNatClampNeg))))) none) (q_let ((q_sA r9 14 (upd (r9.1 14) 9 (((upd (r8.1 14) 16 ((1 : Int32) - ((upd (r7.1 14) 14 (((upd (s.1 14) 15 (((s.1 14) 15) - 1)) 14) + 1)) 16))) 9) ||| 8)))) fun r12 => some (q_sA r12 14 (upd (r12.1 14) 15 0))))) (some s))
set_option maxHeartbeats 4000000 in
theorem dzt_M231_64 (s : q_S) (c n : Nat) (x : q_S) (h : dz_M231_64 s = some x) : q_Ca q_TB0 2 230 [.ref 64] (q_kM s c n) ((q_oSM c n) x) := by
  refine q_CaP_of (φ := (q_oSM c n)) (Nat.le_of_ble_eq_true rfl) ?_ h
  clear h
  unfold dz_M231_64
  refine q_RP_seg (g2 := (7, [(0, .ref 64)], [.int ((s.1 4) 44)], (q_kM s c n))) 4 (fun _ _ => rfl) ?_
  cases h5 : decide ((s.1 4) 44 = 0) with
  | true =>
    refine q_RP_cT ?_
    refine q_RP_rsT (g2 := (17, [(0, .ref 64)], [], (q_kM s c n))) rfl rfl h5 ?_
    exact q_RP_ret rfl rfl rfl
  | false =>
    refine q_RP_cF ?_
    refine q_RP_rsF (g2 := (10, [(0, .ref 64)], [], (q_kM s c n))) rfl rfl h5 ?_
    refine q_RP_seg (g2 := (11, [(0, .ref 64)], [.ref 64], (q_kM s c n))) 1 (fun _ _ => rfl) ?_
    refine q_RP_call (v := (some (.int (q_b (dz_M209_64 s))))) (h2 := (q_kM s c n)) rfl rfl ((dzt_M209_64 s c n).le (Nat.le_of_ble_eq_true rfl)) ?_
    generalize dz_M209_64 s = r6
    refine q_RP_let ?_
    show q_RP _ _ _ (14, [(0, .ref 64)], [.int (q_b r6)], (q_kM s c n)) _ _
    cases h6 : r6 with
    | true =>
      refine q_RP_cT ?_
      show q_RP _ _ _ (14, [(0, .ref 64)], [.int 1], (q_kM s c n)) _ _
      refine q_RP_seg (g2 := (26, [(0, .ref 64)], [.int ((s.1 14) 15), .int 15, .ref 78], (q_kM s c n))) 6 (fun _ _ => rfl) ?_
      refine q_RP_seg (g2 := (36, [(0, .ref 64)], [.int ((upd (s.1 14) 15 (((s.1 14) 15) - 1)) 15)], (q_kM (q_sA s 14 (upd (s.1 14) 15 (((s.1 14) 15) - 1))) c n))) 7 (fun _ _ => rfl) ?_
      cases h7 : decide (0 < (upd (s.1 14) 15 (((s.1 14) 15) - 1)) 15) with
      | true =>
        refine q_RP_cT ?_
        refine q_RP_rsF (g2 := (39, [(0, .ref 64)], [], (q_kM (q_sA s 14 (upd (s.1 14) 15 (((s.1 14) 15) - 1))) c n))) rfl rfl (q_d_geT h7) ?_
        exact q_RP_ret rfl rfl rfl
      | false =>
        refine q_RP_cF ?_
        refine q_RP_rsT (g2 := (40, [(0, .ref 64)], [], (q_kM (q_sA s 14 (upd (s.1 14) 15 (((s.1 14) 15) - 1))) c n))) rfl rfl (q_d_geF h7) ?_
        refine q_RP_seg (g2 := (48, [(0, .ref 64)], [.int ((upd (s.1 14) 15 (((s.1 14) 15) - 1)) 14), .int 14, .ref 78], (q_kM (q_sA s 14 (upd (s.1 14) 15 (((s.1 14) 15) - 1))) c n))) 5 (fun _ _ => rfl) ?_
        refine q_RP_seg (g2 := (50, [(0, .ref 64)], [.int (((upd (s.1 14) 15 (((s.1 14) 15) - 1)) 14) + 1), .int 14, .ref 78], (q_kM (q_sA s 14 (upd (s.1 14) 15 (((s.1 14) 15) - 1))) c n))) 2 (fun _ _ => rfl) ?_
        generalize (q_sA s 14 (upd (s.1 14) 15 (((s.1 14) 15) - 1))) = r7
        refine q_RP_let ?_
        show q_RP _ _ _ (50, [(0, .ref 64)], [.int (((upd (s.1 14) 15 (((s.1 14) 15) - 1)) 14) + 1), .int 14, .ref 78], (q_kM r7 c n)) _ _
        refine q_RP_seg (g2 := (65, [(0, .ref 64)], [.int ((upd (r7.1 14) 14 (((upd (s.1 14) 15 (((s.1 14) 15) - 1)) 14) + 1)) 16), .int 1, .int 16, .ref 78], (q_kM (q_sA r7 14 (upd (r7.1 14) 14 (((upd (s.1 14) 15 (((s.1 14) 15) - 1)) 14) + 1))) c n))) 9 (fun _ _ => rfl) ?_
        refine q_RP_seg (g2 := (66, [(0, .ref 64)], [.int ((1 : Int32) - ((upd (r7.1 14) 14 (((upd (s.1 14) 15 (((s.1 14) 15) - 1)) 14) + 1)) 16)), .int 16, .ref 78], (q_kM (q_sA r7 14 (upd (r7.1 14) 14 (((upd (s.1 14) 15 (((s.1 14) 15) - 1)) 14) + 1))) c n))) 1 (fun _ _ => rfl) ?_
        generalize (q_sA r7 14 (upd (r7.1 14) 14 (((upd (s.1 14) 15 (((s.1 14) 15) - 1)) 14) + 1))) = r8
        refine q_RP_let ?_
        show q_RP _ _ _ (66, [(0, .ref 64)], [.int ((1 : Int32) - ((upd (r7.1 14) 14 (((upd (s.1 14) 15 (((s.1 14) 15) - 1)) 14) + 1)) 16)), .int 16, .ref 78], (q_kM r8 c n)) _ _
        refine q_RP_seg (g2 := (75, [(0, .ref 64)], [.int ((upd (r8.1 14) 16 ((1 : Int32) - ((upd (r7.1 14) 14 (((upd (s.1 14) 15 (((s.1 14) 15) - 1)) 14) + 1)) 16))) 9), .int 9, .ref 78], (q_kM (q_sA r8 14 (upd (r8.1 14) 16 ((1 : Int32) - ((upd (r7.1 14) 14 (((upd (s.1 14) 15 (((s.1 14) 15) - 1)) 14) + 1)) 16)))) c n))) 6 (fun _ _ => rfl) ?_
        refine q_RP_seg (g2 := (78, [(0, .ref 64)], [.int (((upd (r8.1 14) 16 ((1 : Int32) - ((upd (r7.1 14) 14 (((upd (s.1 14) 15 (((s.1 14) 15) - 1)) 14) + 1)) 16))) 9) ||| 8), .int 9, .ref 78], (q_kM (q_sA r8 14 (upd (r8.1 14) 16 ((1 : Int32) - ((upd (r7.1 14) 14 (((upd (s.1 14) 15 (((s.1 14) 15) - 1)) 14) + 1)) 16)))) c n))) 2 (fun _ _ => rfl) ?_
        generalize (q_sA r8 14 (upd (r8.1 14) 16 ((1 : Int32) - ((upd (r7.1 14) 14 (((upd (s.1 14) 15 (((s.1 14) 15) - 1)) 14) + 1)) 16)))) = r9
        refine q_RP_let ?_
        show q_RP _ _ _ (78, [(0, .ref 64)], [.int (((upd (r8.1 14) 16 ((1 : Int32) - ((upd (r7.1 14) 14 (((upd (s.1 14) 15 (((s.1 14) 15) - 1)) 14) + 1)) 16))) 9) ||| 8), .int 9, .ref 78], (q_kM r9 c n)) _ _
        refine q_RP_seg (g2 := (86, [(0, .ref 64)], [.ref 64, .int 15, .ref 78], (q_kM (q_sA r9 14 (upd (r9.1 14) 9 (((upd (r8.1 14) 16 ((1 : Int32) - ((upd (r7.1 14) 14 (((upd (s.1 14) 15 (((s.1 14) 15) - 1)) 14) + 1)) 16))) 9) ||| 8))) c n))) 5 (fun _ _ => rfl) ?_
        refine q_RP_call (v := (some (.int (q_b (dz_M209_64 (q_sA r9 14 (upd (r9.1 14) 9 (((upd (r8.1 14) 16 ((1 : Int32) - ((upd (r7.1 14) 14 (((upd (s.1 14) 15 (((s.1 14) 15) - 1)) 14) + 1)) 16))) 9) ||| 8)))))))) (h2 := (q_kM (q_sA r9 14 (upd (r9.1 14) 9 (((upd (r8.1 14) 16 ((1 : Int32) - ((upd (r7.1 14) 14 (((upd (s.1 14) 15 (((s.1 14) 15) - 1)) 14) + 1)) 16))) 9) ||| 8))) c n)) rfl rfl ((dzt_M209_64 (q_sA r9 14 (upd (r9.1 14) 9 (((upd (r8.1 14) 16 ((1 : Int32) - ((upd (r7.1 14) 14 (((upd (s.1 14) 15 (((s.1 14) 15) - 1)) 14) + 1)) 16))) 9) ||| 8))) c n).le (Nat.le_of_ble_eq_true rfl)) ?_
        generalize dz_M209_64 (q_sA r9 14 (upd (r9.1 14) 9 (((upd (r8.1 14) 16 ((1 : Int32) - ((upd (r7.1 14) 14 (((upd (s.1 14) 15 (((s.1 14) 15) - 1)) 14) + 1)) 16))) 9) ||| 8))) = r10
        refine q_RP_let ?_
        show q_RP _ _ _ (89, [(0, .ref 64)], [.int (q_b r10), .int 15, .ref 78], (q_kM (q_sA r9 14 (upd (r9.1 14) 9 (((upd (r8.1 14) 16 ((1 : Int32) - ((upd (r7.1 14) 14 (((upd (s.1 14) 15 (((s.1 14) 15) - 1)) 14) + 1)) 16))) 9) ||| 8))) c n)) _ _
        cases h8 : r10 with
        | true =>
          refine q_RP_cT ?_
          show q_RP _ _ _ (89, [(0, .ref 64)], [.int 1, .int 15, .ref 78], (q_kM (q_sA r9 14 (upd (r9.1 14) 9 (((upd (r8.1 14) 16 ((1 : Int32) - ((upd (r7.1 14) 14 (((upd (s.1 14) 15 (((s.1 14) 15) - 1)) 14) + 1)) 16))) 9) ||| 8))) c n)) _ _
          refine q_RP_seg (g2 := (103, [(0, .ref 64)], [.int ((upd (r9.1 14) 9 (((upd (r8.1 14) 16 ((1 : Int32) - ((upd (r7.1 14) 14 (((upd (s.1 14) 15 (((s.1 14) 15) - 1)) 14) + 1)) 16))) 9) ||| 8)) 14), .ref 72, .int 15, .ref 78], (q_kM (q_sA r9 14 (upd (r9.1 14) 9 (((upd (r8.1 14) 16 ((1 : Int32) - ((upd (r7.1 14) 14 (((upd (s.1 14) 15 (((s.1 14) 15) - 1)) 14) + 1)) 16))) 9) ||| 8))) c n))) 7 (fun _ _ => rfl) ?_
          refine q_RP_as fun i9 => ?_
          refine q_RP_rsT (g2 := (104, [(0, .ref 64)], [.int ((r9.1 8) (((upd (r9.1 14) 9 (((upd (r8.1 14) 16 ((1 : Int32) - ((upd (r7.1 14) 14 (((upd (s.1 14) 15 (((s.1 14) 15) - 1)) 14) + 1)) 16))) 9) ||| 8)) 14).toNatClampNeg)), .int 15, .ref 78], (q_kM (q_sA r9 14 (upd (r9.1 14) 9 (((upd (r8.1 14) 16 ((1 : Int32) - ((upd (r7.1 14) 14 (((upd (s.1 14) 15 (((s.1 14) 15) - 1)) 14) + 1)) 16))) 9) ||| 8))) c n))) rfl rfl i9 ?_
          refine q_RP_seg (g2 := (108, [(0, .ref 64)], [.int ((r9.1 8) (((upd (r9.1 14) 9 (((upd (r8.1 14) 16 ((1 : Int32) - ((upd (r7.1 14) 14 (((upd (s.1 14) 15 (((s.1 14) 15) - 1)) 14) + 1)) 16))) 9) ||| 8)) 14).toNatClampNeg)), .int 15, .ref 78], (q_kM (q_sA r9 14 (upd (r9.1 14) 9 (((upd (r8.1 14) 16 ((1 : Int32) - ((upd (r7.1 14) 14 (((upd (s.1 14) 15 (((s.1 14) 15) - 1)) 14) + 1)) 16))) 9) ||| 8))) c n))) 1 (fun _ _ => rfl) ?_
          generalize (q_sA r9 14 (upd (r9.1 14) 9 (((upd (r8.1 14) 16 ((1 : Int32) - ((upd (r7.1 14) 14 (((upd (s.1 14) 15 (((s.1 14) 15) - 1)) 14) + 1)) 16))) 9) ||| 8))) = r11
          refine q_RP_let ?_
          show q_RP _ _ _ (108, [(0, .ref 64)], [.int ((r9.1 8) (((upd (r9.1 14) 9 (((upd (r8.1 14) 16 ((1 : Int32) - ((upd (r7.1 14) 14 (((upd (s.1 14) 15 (((s.1 14) 15) - 1)) 14) + 1)) 16))) 9) ||| 8)) 14).toNatClampNeg)), .int 15, .ref 78], (q_kM r11 c n)) _ _
          refine q_RP_seg (g2 := (109, [(0, .ref 64)], [], (q_kM (q_sA r11 14 (upd (r11.1 14) 15 ((r9.1 8) (((upd (r9.1 14) 9 (((upd (r8.1 14) 16 ((1 : Int32) - ((upd (r7.1 14) 14 (((upd (s.1 14) 15 (((s.1 14) 15) - 1)) 14) + 1)) 16))) 9) ||| 8)) 14).toNatClampNeg)))) c n))) 1 (fun _ _ => rfl) ?_
          exact q_RP_ret rfl rfl rfl
        | false =>
          refine q_RP_cF ?_
          show q_RP _ _ _ (89, [(0, .ref 64)], [.int 0, .int 15, .ref 78], (q_kM (q_sA r9 14 (upd (r9.1 14) 9 (((upd (r8.1 14) 16 ((1 : Int32) - ((upd (r7.1 14) 14 (((upd (s.1 14) 15 (((s.1 14) 15) - 1)) 14) + 1)) 16))) 9) ||| 8))) c n)) _ _
          refine q_RP_seg (g2 := (108, [(0, .ref 64)], [.int 0, .int 15, .ref 78], (q_kM (q_sA r9 14 (upd (r9.1 14) 9 (((upd (r8.1 14) 16 ((1 : Int32) - ((upd (r7.1 14) 14 (((upd (s.1 14) 15 (((s.1 14) 15) - 1)) 14) + 1)) 16))) 9) ||| 8))) c n))) 2 (fun _ _ => rfl) ?_
          generalize (q_sA r9 14 (upd (r9.1 14) 9 (((upd (r8.1 14) 16 ((1 : Int32) - ((upd (r7.1 14) 14 (((upd (s.1 14) 15 (((s.1 14) 15) - 1)) 14) + 1)) 16))) 9) ||| 8))) = r12
          refine q_RP_let ?_
          show q_RP _ _ _ (108, [(0, .ref 64)], [.int 0, .int 15, .ref 78], (q_kM r12 c n)) _ _
          refine q_RP_seg (g2 := (109, [(0, .ref 64)], [], (q_kM (q_sA r12 14 (upd (r12.1 14) 15 0)) c n))) 1 (fun _ _ => rfl) ?_
          exact q_RP_ret rfl rfl rfl
    | false =>
      refine q_RP_cF ?_
      show q_RP _ _ _ (14, [(0, .ref 64)], [.int 0], (q_kM s c n)) _ _
      refine q_RP_seg (g2 := (17, [(0, .ref 64)], [], (q_kM s c n))) 1 (fun _ _ => rfl) ?_
      exact q_RP_ret rfl rfl rfl
