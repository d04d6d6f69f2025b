theorem q_exX (pix smp tr a16 a17 a21 a22 : Nat → Int32) (t14 t19 p F left dn ins : Int32) (y : Int64) (k c u db : Int32) (hk : decide (k < u) = false) : q_Ru q_TB0 8 82 (14, [(4, .int k), (5, .int c), (3, .int db), (0, .ref 65), (1, .int u), (2, .int 0)], [], (q_cX (q_rA pix smp tr a16 a17 a21 a22) (q_rI t14 t19 p F left dn ins) (q_rJ y), 40, 26520)) (.inl (some (.int c)), (q_cX (q_rA pix smp tr a16 a17 a21 a22) (q_rI t14 t19 p F left dn ins) (q_uI (q_rJ y) 1 4 (0 + c.toInt64)), 40, 26520)) := by
  refine q_Ru_seg (g2 := (17, [(4, .int k), (5, .int c), (3, .int db), (0, .ref 65), (1, .int u), (2, .int 0)], [.int u, .int k], (q_cX (q_rA pix smp tr a16 a17 a21 a22) (q_rI t14 t19 p F left dn ins) (q_rJ y), 40, 26520))) 2 (fun _ _ => rfl) ?_
  refine q_Ru_rsT (g2 := (103, [(4, .int k), (5, .int c), (3, .int db), (0, .ref 65), (1, .int u), (2, .int 0)], [], (q_cX (q_rA pix smp tr a16 a17 a21 a22) (q_rI t14 t19 p F left dn ins) (q_rJ y), 40, 26520))) rfl rfl (q_d_geF hk) ?_
  refine q_Ru_seg (g2 := (108, [(4, .int k), (5, .int c), (3, .int db), (0, .ref 65), (1, .int u), (2, .int 0)], [.long 0, .ref 65], (q_cX (q_rA pix smp tr a16 a17 a21 a22) (q_rI t14 t19 p F left dn ins) (q_rJ y), 40, 26520))) 3 (fun _ _ => rfl) ?_
  refine q_Ru_seg (g2 := (126, [(4, .int k), (5, .int c), (3, .int db), (0, .ref 65), (1, .int u), (2, .int 0)], [.int c], (q_cX (q_rA pix smp tr a16 a17 a21 a22) (q_rI t14 t19 p F left dn ins) (q_uI (q_rJ y) 1 4 (0 + c.toInt64)), 40, 26520))) 7 (fun _ _ => rfl) ?_
  exact q_Ru_ret rfl rfl
theorem q_exM (pix smp tr : Nat → Int32) (p left dn ins z : Int32) (y pd : Int64) (k c u : Int32) (hk : decide (k < u) = false) : q_Ru q_TB0 9 236 (29, [(3, .int k), (2, .int c), (0, .ref 64), (1, .int u)], [], (q_cM (q_mA pix smp tr (q_nb p left dn ins) (q_fb z)) q_IM (q_mJ y pd), 34, 31630)) (.inl (some (.int c)), (q_cM (q_mA pix smp tr (q_nb p left dn ins) (q_fb z)) q_IM (q_mJ y pd), 34, 31630)) := by
  refine q_Ru_seg (g2 := (31, [(3, .int k), (2, .int c), (0, .ref 64), (1, .int u)], [.int u, .int k], (q_cM (q_mA pix smp tr (q_nb p left dn ins) (q_fb z)) q_IM (q_mJ y pd), 34, 31630))) 2 (fun _ _ => rfl) ?_
  refine q_Ru_rsT (g2 := (55, [(3, .int k), (2, .int c), (0, .ref 64), (1, .int u)], [], (q_cM (q_mA pix smp tr (q_nb p left dn ins) (q_fb z)) q_IM (q_mJ y pd), 34, 31630))) rfl rfl (q_d_geF hk) ?_
  refine q_Ru_seg (g2 := (56, [(3, .int k), (2, .int c), (0, .ref 64), (1, .int u)], [.ref 64], (q_cM (q_mA pix smp tr (q_nb p left dn ins) (q_fb z)) q_IM (q_mJ y pd), 34, 31630))) 1 (fun _ _ => rfl) ?_
  refine q_Ru_call (v := none) (h2 := (q_cM (q_mA pix smp tr (q_nb p left dn ins) (q_fb z)) q_IM (q_mJ y pd), 34, 31630)) rfl rfl ?_ ?_
  · refine q_Ca_of (Nat.le_of_ble_eq_true rfl) ?_
    refine q_Ru_seg (g2 := (4, [(0, .ref 64)], [.int (-1)], (q_cM (q_mA pix smp tr (q_nb p left dn ins) (q_fb z)) q_IM (q_mJ y pd), 34, 31630))) 2 (fun _ _ => rfl) ?_
    refine q_Ru_seg (g2 := (17, [(0, .ref 64)], [], (q_cM (q_mA pix smp tr (q_nb p left dn ins) (q_fb z)) q_IM (q_mJ y pd), 34, 31630))) 1 (fun _ _ => rfl) ?_
    exact q_Ru_ret rfl rfl
  show q_Ru _ _ _ (59, [(3, .int k), (2, .int c), (0, .ref 64), (1, .int u)], [], (q_cM (q_mA pix smp tr (q_nb p left dn ins) (q_fb z)) q_IM (q_mJ y pd), 34, 31630)) _
  refine q_Ru_seg (g2 := (60, [(3, .int k), (2, .int c), (0, .ref 64), (1, .int u)], [.int c], (q_cM (q_mA pix smp tr (q_nb p left dn ins) (q_fb z)) q_IM (q_mJ y pd), 34, 31630))) 1 (fun _ _ => rfl) ?_
  exact q_Ru_ret rfl rfl
theorem q_ofN64 (k : Nat) : Int64.ofNat (k + 1) = Int64.ofNat k + 1 := Int64.ofNat_add k 1
theorem q_ofN32 (k : Nat) : Int32.ofNat (k + 1) = Int32.ofNat k + 1 := Int32.ofNat_add k 1
theorem q_ofN32t (k : Nat) (h : k ≤ 1000) : (Int32.ofNat k).toInt = (k : Int) := Int32.toInt_ofNat_of_lt (by omega)
theorem q_addz (c : Int32) : c + 0 = c := by simp
def q_tabY (k : Nat) : Bool := decide (0 ≤ (q_colY (Int64.ofNat k)).toInt) && (decide ((q_colY (Int64.ofNat k)).toInt ≤ 23) && (decide (0 ≤ (q_linY (Int64.ofNat k)).toInt) && (decide ((q_linY (Int64.ofNat k)).toInt ≤ 39) && decide ((Int64.ofNat k / 24 - Int64.ofNat k / 24 / 40 * 40).toInt32 = q_linY (Int64.ofNat k)))))
set_option maxRecDepth 100000 in
theorem q_tabY_all : (List.range 1001).all q_tabY = true := by decide +kernel
theorem q_tabY_at (k : Nat) (h : k ≤ 1000) : 0 ≤ (q_colY (Int64.ofNat k)).toInt ∧ (q_colY (Int64.ofNat k)).toInt ≤ 23 ∧ 0 ≤ (q_linY (Int64.ofNat k)).toInt ∧ (q_linY (Int64.ofNat k)).toInt ≤ 39 ∧ (Int64.ofNat k / 24 - Int64.ofNat k / 24 / 40 * 40).toInt32 = q_linY (Int64.ofNat k) := by
  have h9 := List.all_eq_true.mp q_tabY_all k (List.mem_range.mpr (by omega))
  unfold q_tabY at h9
  rw [Bool.and_eq_true, Bool.and_eq_true, Bool.and_eq_true, Bool.and_eq_true] at h9
  obtain ⟨a, b, c, d, e⟩ := h9
  exact ⟨of_decide_eq_true a, of_decide_eq_true b, of_decide_eq_true c, of_decide_eq_true d, of_decide_eq_true e⟩
def q_tabP (i : Nat) : Bool := decide (0 ≤ (Int32.ofNat (2 * i)).toInt) && (decide ((Int32.ofNat (2 * i)).toInt ≤ 3839) && (decide (0 ≤ (Int32.ofNat (2 * i) + 1).toInt) && (decide ((Int32.ofNat (2 * i) + 1).toInt ≤ 3839) && (decide (Int32.ofNat (2 * i) &&& 4095 = Int32.ofNat (2 * i)) && (decide ((Int32.ofNat (2 * i) + 1) &&& 4095 = Int32.ofNat (2 * i) + 1) && (decide ((Int32.ofNat (2 * i) + 2) &&& 4095 = Int32.ofNat (2 * (i + 1))) && (decide (0 ≤ (Int32.ofNat i).toInt) && decide ((Int32.ofNat i).toInt ≤ 1000))))))))
set_option maxRecDepth 100000 in
theorem q_tabP_all : (List.range 1001).all q_tabP = true := by decide +kernel
theorem q_tabP_at (i : Nat) (h : i ≤ 1000) : 0 ≤ (Int32.ofNat (2 * i)).toInt ∧ (Int32.ofNat (2 * i)).toInt ≤ 3839 ∧ 0 ≤ (Int32.ofNat (2 * i) + 1).toInt ∧ (Int32.ofNat (2 * i) + 1).toInt ≤ 3839 ∧ Int32.ofNat (2 * i) &&& 4095 = Int32.ofNat (2 * i) ∧ (Int32.ofNat (2 * i) + 1) &&& 4095 = Int32.ofNat (2 * i) + 1 ∧ (Int32.ofNat (2 * i) + 2) &&& 4095 = Int32.ofNat (2 * (i + 1)) ∧ 0 ≤ (Int32.ofNat i).toInt ∧ (Int32.ofNat i).toInt ≤ 1000 := by
  have h9 := List.all_eq_true.mp q_tabP_all i (List.mem_range.mpr (by omega))
  unfold q_tabP at h9
  rw [Bool.and_eq_true, Bool.and_eq_true, Bool.and_eq_true, Bool.and_eq_true, Bool.and_eq_true, Bool.and_eq_true, Bool.and_eq_true, Bool.and_eq_true] at h9
  obtain ⟨a, b, c, d, e, f, g, k, l⟩ := h9
  exact ⟨of_decide_eq_true a, of_decide_eq_true b, of_decide_eq_true c, of_decide_eq_true d, of_decide_eq_true e, of_decide_eq_true f, of_decide_eq_true g, of_decide_eq_true k, of_decide_eq_true l⟩
theorem q_sumP_0 {m k : Nat} {c : Int32} (h : q_picX (q_linY (Int64.ofNat k)) (q_colY (Int64.ofNat k)) = 0) : q_sumP (m + 1) k c = q_sumP m (k + 1) c := by
  show q_sumP m (k + 1) (cond (decide (q_picX (q_linY (Int64.ofNat k)) (q_colY (Int64.ofNat k)) = 0)) c (c + 1)) = _
  rw [h]; rfl
theorem q_sumP_1 {m k : Nat} {c : Int32} (h : q_picX (q_linY (Int64.ofNat k)) (q_colY (Int64.ofNat k)) = 1) : q_sumP (m + 1) k c = q_sumP m (k + 1) (c + 1) := by
  show q_sumP m (k + 1) (cond (decide (q_picX (q_linY (Int64.ofNat k)) (q_colY (Int64.ofNat k)) = 0)) c (c + 1)) = _
  rw [h]; rfl
theorem q_sumP_first (N : Nat) (h : 0 < N) : q_sumP N 0 0 = q_sumP (N - 1) 1 0 := by
  cases N with
  | zero => omega
  | succ m => exact q_sumP_0 (by decide +kernel)
theorem q_lpX (N : Nat) (hN : N ≤ 1000) (u db : Int32) (hu : u.toInt = (N : Int)) : ∀ (m k i : Nat) (pix smp tr a16 a17 a21 a22 : Nat → Int32) (t14 t19 F left dn c : Int32), k + m = N → i ≤ k → (left = 0 ∨ left = 1) → ∃ A I J, q_Ru q_TB0 8 82 (14, [(4, .int (Int32.ofNat k)), (5, .int c), (3, .int db), (0, .ref 65), (1, .int u), (2, .int 0)], [], (q_cX (q_rA pix smp tr a16 a17 a21 a22) (q_rI t14 t19 (Int32.ofNat (2 * i)) F left dn (Int32.ofNat i)) (q_rJ (Int64.ofNat k)), 40, 26520)) (.inl (some (.int (q_sumP m k c))), q_cX A I J, 40, 26520) := by
  intro m
  induction m with
  | zero =>
    intro k i pix smp tr a16 a17 a21 a22 t14 t19 F left dn c h1 h2 h3
    have hk : decide (Int32.ofNat k < u) = false := decide_eq_false (by rw [Int32.lt_iff_toInt_lt, q_ofN32t k (by omega)]; omega)
    exact ⟨_, _, _, q_exX pix smp tr a16 a17 a21 a22 t14 t19 _ F left dn _ _ _ c u db hk⟩
  | succ m ih =>
    intro k i pix smp tr a16 a17 a21 a22 t14 t19 F left dn c h1 h2 h3
    have hk : decide (Int32.ofNat k < u) = true := decide_eq_true (by rw [Int32.lt_iff_toInt_lt, q_ofN32t k (by omega)]; omega)
    obtain ⟨c0, c1, l0, l1, -⟩ := q_tabY_at k (by omega)
    obtain ⟨a0, a1, b0, b1, -, hp1, hp2, -, -⟩ := q_tabP_at i (by omega)
    rcases q_pic01 (q_linY (Int64.ofNat k)) (q_colY (Int64.ofNat k)) with hp | hp
    · rcases h3 with rfl | rfl
      · obtain ⟨pix2, smp2, t142, t192, a162, a172, a212, a222, tr2, F2, h⟩ := q_itX00 pix smp tr a16 a17 a21 a22 t14 t19 (Int32.ofNat (2 * i)) F dn (Int32.ofNat i) (Int64.ofNat k) (q_posY (Int64.ofNat k)) (q_colY (Int64.ofNat k)) (q_linY (Int64.ofNat k)) _ rfl rfl rfl rfl c0 c1 l0 l1 hp _ _ a0 a1 b0 b1 hp1 hp2 (Int32.ofNat k) c u db hk
        obtain ⟨A, I, J, e⟩ := ih (k + 1) i pix2 smp2 tr2 a162 a172 a212 a222 t142 t192 F2 1 dn c (by omega) (by omega) (Or.inr rfl)
        refine ⟨A, I, J, h _ ?_⟩
        rw [q_sumP_0 hp, ← q_ofN32, ← q_ofN64]
        exact e
      · obtain ⟨pix2, smp2, t142, t192, a162, a172, a212, a222, tr2, F2, h⟩ := q_itX01 pix smp tr a16 a17 a21 a22 t14 t19 (Int32.ofNat (2 * i)) F dn (Int32.ofNat i) (Int64.ofNat k) (q_posY (Int64.ofNat k)) (q_colY (Int64.ofNat k)) (q_linY (Int64.ofNat k)) _ rfl rfl rfl rfl c0 c1 l0 l1 hp _ _ a0 a1 b0 b1 hp1 hp2 (Int32.ofNat k) c u db hk
        obtain ⟨A, I, J, e⟩ := ih (k + 1) (i + 1) pix2 smp2 tr2 a162 a172 a212 a222 t142 t192 F2 0 (dn + 1) c (by omega) (by omega) (Or.inl rfl)
        refine ⟨A, I, J, h _ ?_⟩
        rw [q_sumP_0 hp, ← q_ofN32 k, ← q_ofN32 i, ← q_ofN64]
        exact e
    · obtain ⟨pix2, smp2, t142, t192, a162, a172, a212, a222, tr2, F2, h⟩ := q_itX1 pix smp tr a16 a17 a21 a22 t14 t19 (Int32.ofNat (2 * i)) F left dn (Int32.ofNat i) (Int64.ofNat k) (q_posY (Int64.ofNat k)) (q_colY (Int64.ofNat k)) (q_linY (Int64.ofNat k)) _ rfl rfl rfl rfl c0 c1 l0 l1 hp _ _ a0 a1 b0 b1 hp1 hp2 (Int32.ofNat k) c u db hk
      obtain ⟨A, I, J, e⟩ := ih (k + 1) i pix2 smp2 tr2 a162 a172 a212 a222 t142 t192 F2 left dn (c + 1) (by omega) (by omega) h3
      refine ⟨A, I, J, h _ ?_⟩
      rw [q_sumP_1 hp, ← q_ofN32 k, ← q_ofN64]
      exact e
theorem q_lpM (N : Nat) (hN : N ≤ 1000) (u : Int32) (hu : u.toInt = (N : Int)) : ∀ (m k i : Nat) (pix smp tr : Nat → Int32) (left dn z c : Int32) (pd : Int64), k + m = N → i ≤ k → (left = 0 ∨ left = 1) → ∃ A J, q_Ru q_TB0 9 236 (29, [(3, .int (Int32.ofNat k)), (2, .int c), (0, .ref 64), (1, .int u)], [], (q_cM (q_mA pix smp tr (q_nb (Int32.ofNat (2 * i)) left dn (Int32.ofNat i)) (q_fb z)) q_IM (q_mJ (Int64.ofNat k) pd), 34, 31630)) (.inl (some (.int (q_sumP m k c))), q_cM A q_IM J, 34, 31630) := by
  intro m
  induction m with
  | zero =>
    intro k i pix smp tr left dn z c pd h1 h2 h3
    have hk : decide (Int32.ofNat k < u) = false := decide_eq_false (by rw [Int32.lt_iff_toInt_lt, q_ofN32t k (by omega)]; omega)
    exact ⟨_, _, q_exM pix smp tr _ left dn _ z _ pd _ c u hk⟩
  | succ m ih =>
    intro k i pix smp tr left dn z c pd h1 h2 h3
    have hk : decide (Int32.ofNat k < u) = true := decide_eq_true (by rw [Int32.lt_iff_toInt_lt, q_ofN32t k (by omega)]; omega)
    obtain ⟨c0, c1, l0, l1, hM⟩ := q_tabY_at k (by omega)
    obtain ⟨a0, a1, b0, b1, hp0, hp1, hp2, i0, i1⟩ := q_tabP_at i (by omega)
    rcases q_pic01 (q_linY (Int64.ofNat k)) (q_colY (Int64.ofNat k)) with hp | hp
    · rcases h3 with rfl | rfl
      · obtain ⟨pix2, smp2, h⟩ := q_itM00 pix smp tr (Int32.ofNat (2 * i)) dn (Int32.ofNat i) z (Int64.ofNat k) pd (q_colY (Int64.ofNat k)) (q_linY (Int64.ofNat k)) _ _ rfl hM c0 c1 l0 l1 a0 a1 b0 b1 hp0 hp1 hp2 i0 i1 hp (Int32.ofNat k) c u hk
        obtain ⟨A, J, e⟩ := ih (k + 1) i pix2 smp2 tr 1 dn z c (pd + 0) (by omega) (by omega) (Or.inr rfl)
        refine ⟨A, J, h _ ?_⟩
        rw [q_sumP_0 hp, q_addz c, ← q_ofN32, ← q_ofN64]
        exact e
      · obtain ⟨pix2, smp2, tr2, z2, h⟩ := q_itM01 pix smp tr (Int32.ofNat (2 * i)) dn (Int32.ofNat i) z (Int64.ofNat k) pd (q_colY (Int64.ofNat k)) (q_linY (Int64.ofNat k)) _ _ rfl hM c0 c1 l0 l1 a0 a1 b0 b1 hp0 hp1 hp2 i0 i1 hp (Int32.ofNat k) c u hk
        obtain ⟨A, J, e⟩ := ih (k + 1) (i + 1) pix2 smp2 tr2 0 (dn + 1) z2 c (pd + 0) (by omega) (by omega) (Or.inl rfl)
        refine ⟨A, J, h _ ?_⟩
        rw [q_sumP_0 hp, q_addz c, ← q_ofN32 k, ← q_ofN32 i, ← q_ofN64]
        exact e
    · obtain ⟨pix2, smp2, h⟩ := q_itM1 pix smp tr (Int32.ofNat (2 * i)) left dn (Int32.ofNat i) z (Int64.ofNat k) pd (q_colY (Int64.ofNat k)) (q_linY (Int64.ofNat k)) _ _ rfl hM c0 c1 l0 l1 a0 a1 b0 b1 hp0 hp1 hp2 i0 i1 hp (Int32.ofNat k) c u hk
      obtain ⟨A, J, e⟩ := ih (k + 1) i pix2 smp2 tr left dn z (c + 1) (pd + 1) (by omega) (by omega) h3
      refine ⟨A, J, h _ ?_⟩
      rw [q_sumP_1 hp, ← q_ofN32 k, ← q_ofN64]
      exact e
