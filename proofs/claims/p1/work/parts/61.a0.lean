/-! ===== run: cycle by cycle ===== -/
def q_rA (pix smp tr a16 a17 a21 a22 : Nat → Int32) (i : Nat) : Nat → Int32 := cond (Nat.beq i 32) pix (cond (Nat.beq i 31) smp (cond (Nat.beq i 25) tr (cond (Nat.beq i 16) a16 (cond (Nat.beq i 17) a17 (cond (Nat.beq i 21) a21 (cond (Nat.beq i 22) a22 (cond (Nat.beq i 5) (upd (fun _ => 0) 10 1) (q_AX i))))))))
def q_rI (t14 t19 p F left dn ins : Int32) (i k : Nat) : Int32 := cond (Nat.beq i 14 && Nat.beq k 3) t14 (cond (Nat.beq i 19 && Nat.beq k 3) t19 (cond (Nat.beq i 24 && Nat.beq k 4) p (cond (Nat.beq i 24 && Nat.beq k 5) F (cond (Nat.beq i 24 && Nat.beq k 9) left (cond (Nat.beq i 24 && Nat.beq k 10) dn (cond (Nat.beq i 24 && Nat.beq k 11) ins (q_IX i k)))))))
def q_rJ (y : Int64) (i k : Nat) : Int64 := cond (Nat.beq i 2 && Nat.beq k 8) y 0
def q_picX (lin col : Int32) : Int32 := cond (decide (col < 8) && (decide (3 < lin) && (decide (lin < 36) && decide ((lin - 4) - (lin - 4) / 8 * 8 = 0)))) 1 0
def q_colY (y : Int64) : Int32 := (y - y / 24 * 24).toInt32
def q_posY (y : Int64) : Int32 := (y - y / 960 * 960).toInt32
def q_linY (y : Int64) : Int32 := q_posY y / 24
def q_sumP (m : Nat) : Nat → Int32 → Int32 := Nat.rec (motive := fun _ => Nat → Int32 → Int32) (fun _ c => c) (fun _ ih k c => ih (k + 1) (cond (decide (q_picX (q_linY (Int64.ofNat k)) (q_colY (Int64.ofNat k)) = 0)) c (c + 1))) m
theorem q_upd_upd (f : Nat → Int32) (i : Nat) (a b : Int32) : upd (upd f i a) i b = upd f i b := by
  funext j
  unfold upd
  split <;> rfl
theorem q_upd_z (i : Nat) : upd (fun _ => (0 : Int32)) i 0 = fun _ => 0 := by
  funext j
  unfold upd
  split <;> rfl
theorem q_eqlo {x c : Int32} (h : decide (x = c) = true) : c.toInt ≤ x.toInt := by rw [of_decide_eq_true h]; exact Int.le_refl _
theorem q_eqhi {x c : Int32} (h : decide (x = c) = true) : x.toInt ≤ c.toInt := by rw [of_decide_eq_true h]; exact Int.le_refl _
theorem q_Ca_hX {TB : Nat → Option (Nat × Nat × (Nat → Int32))} {d k : Nat} {as : List Value} {h : q_H} {v : Option Value ⊕ String} {l l' : List q_C} {c n : Nat} (e : l = l') (h9 : q_Ca TB d k as h (v, l, c, n)) : q_Ca TB d k as h (v, l', c, n) := e ▸ h9
theorem q_Ru_hX {TB : Nat → Option (Nat × Nat × (Nat → Int32))} {d k pc : Nat} {L : q_L} {st : List Value} {o : q_Out} {l l' : List q_C} {c n : Nat} (e : l = l') (h9 : q_Ru TB d k (pc, L, st, l', c, n) o) : q_Ru TB d k (pc, L, st, l, c, n) o := e ▸ h9
theorem q_acb {a b c d e : Bool} {m : Nat} (h : (a && (b && (c && (d && e)))) = true) : (a && (b && (c && (d && (e && (List.range m).all fun _ => true))))) = true := by
  have h1 : ((List.range m).all fun _ => true) = true := List.all_eq_true.mpr fun _ _ => rfl
  rw [h1, Bool.and_true]
  exact h
theorem q_shr0 (z : Int32) : (0 : Int32) >>> z = 0 := by simp
theorem q_d_rf_eq {x : Int32} : decide (x = x) = true := decide_eq_true rfl
theorem q_d_rf_ne {x : Int32} : decide (¬ x = x) = false := decide_eq_false fun h => h rfl
theorem q_d_rf_lt {x : Int32} : decide (x < x) = false := decide_eq_false (Int32.lt_irrefl)
theorem q_d_rf_gt {x : Int32} : decide (x < x) = false := decide_eq_false (Int32.lt_irrefl)
theorem q_d_rf_ge {x : Int32} : decide (x ≤ x) = true := decide_eq_true (Int32.le_refl x)
theorem q_d_rf_le {x : Int32} : decide (x ≤ x) = true := decide_eq_true (Int32.le_refl x)
theorem q_cX_A {A B I : Nat → Nat → Int32} {J : Nat → Nat → Int64} (h : ∀ i, i < 40 → A i = B i) : q_cX A I J = q_cX B I J := by
  unfold q_cX
  simp only [h 4 (by decide), h 5 (by decide), h 6 (by decide), h 7 (by decide), h 8 (by decide), h 10 (by decide), h 12 (by decide), h 13 (by decide), h 16 (by decide), h 17 (by decide), h 18 (by decide), h 21 (by decide), h 22 (by decide), h 23 (by decide), h 25 (by decide), h 27 (by decide), h 28 (by decide), h 29 (by decide), h 30 (by decide), h 31 (by decide), h 32 (by decide), h 35 (by decide), h 37 (by decide), h 38 (by decide)]
theorem q_astM_5 {nx pc : Nat} {L : q_L} {v i : Int32} {r : List Value} {A I : Nat → Nat → Int32} {J : Nat → Nat → Int64} {c s : Nat} : q_ast nx 0 (fun x => x) (pc, L, .int v :: .int i :: .ref 69 :: r, (q_cM A I J, c, s)) = some (q_in i 1024, (nx, L, r, (q_cM (q_uA A 5 (upd (A 5) i.toNatClampNeg v)) I J, c, s)), none) := rfl
theorem q_astM_6 {nx pc : Nat} {L : q_L} {v i : Int32} {r : List Value} {A I : Nat → Nat → Int32} {J : Nat → Nat → Int64} {c s : Nat} : q_ast nx 0 (fun x => x) (pc, L, .int v :: .int i :: .ref 70 :: r, (q_cM A I J, c, s)) = some (q_in i 40, (nx, L, r, (q_cM (q_uA A 6 (upd (A 6) i.toNatClampNeg v)) I J, c, s)), none) := rfl
theorem q_astM_9 {nx pc : Nat} {L : q_L} {v i : Int32} {r : List Value} {A I : Nat → Nat → Int32} {J : Nat → Nat → Int64} {c s : Nat} : q_ast nx 0 (fun x => x) (pc, L, .int v :: .int i :: .ref 73 :: r, (q_cM A I J, c, s)) = some (q_in i 16, (nx, L, r, (q_cM (q_uA A 9 (upd (A 9) i.toNatClampNeg v)) I J, c, s)), none) := rfl
theorem q_astX_25 {nx pc : Nat} {L : q_L} {v i : Int32} {r : List Value} {A I : Nat → Nat → Int32} {J : Nat → Nat → Int64} {c s : Nat} : q_ast nx 0 (fun x => x) (pc, L, .int v :: .int i :: .ref 89 :: r, (q_cX A I J, c, s)) = some (q_in i 16, (nx, L, r, (q_cX (q_uA A 25 (upd (A 25) i.toNatClampNeg v)) I J, c, s)), none) := rfl
theorem q_astX_31 {nx pc : Nat} {L : q_L} {v i : Int32} {r : List Value} {A I : Nat → Nat → Int32} {J : Nat → Nat → Int64} {c s : Nat} : q_ast nx 0 (fun x => x) (pc, L, .int v :: .int i :: .ref 95 :: r, (q_cX A I J, c, s)) = some (q_in i 40, (nx, L, r, (q_cX (q_uA A 31 (upd (A 31) i.toNatClampNeg v)) I J, c, s)), none) := rfl
theorem q_astX_32 {nx pc : Nat} {L : q_L} {v i : Int32} {r : List Value} {A I : Nat → Nat → Int32} {J : Nat → Nat → Int64} {c s : Nat} : q_ast nx 0 (fun x => x) (pc, L, .int v :: .int i :: .ref 96 :: r, (q_cX A I J, c, s)) = some (q_in i 1024, (nx, L, r, (q_cX (q_uA A 32 (upd (A 32) i.toNatClampNeg v)) I J, c, s)), none) := rfl
set_option maxHeartbeats 4000000 in
theorem q_p_picX (pix smp tr a16 a17 a21 a22 : Nat → Int32) (t14 t19 p F left dn ins : Int32) (y : Int64) (pos col lin pq : Int32) (hC : (y - y / 24 * 24).toInt32 = col) (hP : (y - y / 960 * 960).toInt32 = pos) (hL : pos / 24 = lin) (hQ : lg_cmp (y / 960 - y / 960 / 2 * 2) 0 = pq) (c0 : 0 ≤ col.toInt) (c1 : col.toInt ≤ 23) (l0 : 0 ≤ lin.toInt) (l1 : lin.toInt ≤ 39) : q_Ca q_TB0 4 102 [.ref 66] (q_cX (q_rA pix smp tr a16 a17 a21 a22) (q_rI t14 t19 p F left dn ins) (q_rJ y), 40, 26520) (.inl (some (.int (q_picX lin col))), (q_cX (q_rA pix smp tr a16 a17 a21 a22) (q_rI t14 t19 p F left dn ins) (q_rJ y), 40, 26520)) := by
  cases h130 : decide (lin - 4 < 0) with
  | true =>
    have t9 := q_tbl2 (fun lin col => decide (q_picX lin col = 0)) (l := 0) (n := 3) (l2 := 0) (n2 := 23) (by decide +kernel) l0 (q_sub_hi 3 (q_hi1 h130) l0 l1) c0 c1
    rw [of_decide_eq_true t9]
    refine q_Ca_of (Nat.le_of_ble_eq_true rfl) ?_
    refine q_Ru_seg (g2 := (5, [(0, .ref 66)], [.ref 66, .ref 67], (q_cX (q_rA pix smp tr a16 a17 a21 a22) (q_rI t14 t19 p F left dn ins) (q_rJ y), 40, 26520))) 3 (fun _ _ => rfl) ?_
    refine q_Ru_call (v := (some (.int pos))) (h2 := (q_cX (q_rA pix smp tr a16 a17 a21 a22) (q_rI t14 t19 p F left dn ins) (q_rJ y), 40, 26520)) rfl rfl ?_ ?_
    · refine q_Ca_of (Nat.le_of_ble_eq_true rfl) ?_
      refine q_Ru_seg (g2 := (4, [(0, .ref 66)], [.long y], (q_cX (q_rA pix smp tr a16 a17 a21 a22) (q_rI t14 t19 p F left dn ins) (q_rJ y), 40, 26520))) 2 (fun _ _ => rfl) ?_
      refine q_Ru_seg (g2 := (9, [(0, .ref 66)], [.int ((y - y / 960 * 960).toInt32)], (q_cX (q_rA pix smp tr a16 a17 a21 a22) (q_rI t14 t19 p F left dn ins) (q_rJ y), 40, 26520))) 3 (fun _ _ => rfl) ?_
      rw [hP]
      exact q_Ru_ret rfl rfl
    show q_Ru _ _ _ (8, [(0, .ref 66)], [.int pos, .ref 67], (q_cX (q_rA pix smp tr a16 a17 a21 a22) (q_rI t14 t19 p F left dn ins) (q_rJ y), 40, 26520)) _
    refine q_Ru_seg (g2 := (11, [(0, .ref 66)], [.int (pos / 24), .ref 67], (q_cX (q_rA pix smp tr a16 a17 a21 a22) (q_rI t14 t19 p F left dn ins) (q_rJ y), 40, 26520))) 2 (fun _ _ => rfl) ?_
    rw [hL]
    refine q_Ru_seg (g2 := (14, [(0, .ref 66)], [.ref 66, .int (lin - 4), .ref 67], (q_cX (q_rA pix smp tr a16 a17 a21 a22) (q_rI t14 t19 p F left dn ins) (q_rJ y), 40, 26520))) 3 (fun _ _ => rfl) ?_
    refine q_Ru_call (v := (some (.int col))) (h2 := (q_cX (q_rA pix smp tr a16 a17 a21 a22) (q_rI t14 t19 p F left dn ins) (q_rJ y), 40, 26520)) rfl rfl ?_ ?_
    · refine q_Ca_of (Nat.le_of_ble_eq_true rfl) ?_
      refine q_Ru_seg (g2 := (4, [(0, .ref 66)], [.long y], (q_cX (q_rA pix smp tr a16 a17 a21 a22) (q_rI t14 t19 p F left dn ins) (q_rJ y), 40, 26520))) 2 (fun _ _ => rfl) ?_
      refine q_Ru_seg (g2 := (9, [(0, .ref 66)], [.int ((y - y / 24 * 24).toInt32)], (q_cX (q_rA pix smp tr a16 a17 a21 a22) (q_rI t14 t19 p F left dn ins) (q_rJ y), 40, 26520))) 3 (fun _ _ => rfl) ?_
      rw [hC]
      exact q_Ru_ret rfl rfl
    show q_Ru _ _ _ (17, [(0, .ref 66)], [.int col, .int (lin - 4), .ref 67], (q_cX (q_rA pix smp tr a16 a17 a21 a22) (q_rI t14 t19 p F left dn ins) (q_rJ y), 40, 26520)) _
    refine q_Ru_call (v := (some (.int 0))) (h2 := (q_cX (q_rA pix smp tr a16 a17 a21 a22) (q_rI t14 t19 p F left dn ins) (q_rJ y), 40, 26520)) rfl rfl ?_ ?_
    · refine q_Ca_of (Nat.le_of_ble_eq_true rfl) ?_
      refine q_Ru_seg (g2 := (1, [(0, .ref 67), (1, .int (lin - 4)), (2, .int col)], [.int (lin - 4)], (q_cX (q_rA pix smp tr a16 a17 a21 a22) (q_rI t14 t19 p F left dn ins) (q_rJ y), 40, 26520))) 1 (fun _ _ => rfl) ?_
      refine q_Ru_rsT (g2 := (22, [(0, .ref 67), (1, .int (lin - 4)), (2, .int col)], [], (q_cX (q_rA pix smp tr a16 a17 a21 a22) (q_rI t14 t19 p F left dn ins) (q_rJ y), 40, 26520))) rfl rfl h130 ?_
      refine q_Ru_seg (g2 := (23, [(0, .ref 67), (1, .int (lin - 4)), (2, .int col)], [.int 0], (q_cX (q_rA pix smp tr a16 a17 a21 a22) (q_rI t14 t19 p F left dn ins) (q_rJ y), 40, 26520))) 1 (fun _ _ => rfl) ?_
      exact q_Ru_ret rfl rfl
    show q_Ru _ _ _ (20, [(0, .ref 66)], [.int 0], (q_cX (q_rA pix smp tr a16 a17 a21 a22) (q_rI t14 t19 p F left dn ins) (q_rJ y), 40, 26520)) _
    exact q_Ru_ret rfl rfl
  | false =>
    cases h131 : decide (lin - 4 < 32) with
    | true =>
      cases h132 : decide (col < 8) with
      | true =>
        have h133 : decide (col < 20) = true := q_tbl1 (fun col => decide (col < 20)) (l := 0) (n := 7) (by decide +kernel) c0 (q_hi1 h132)
        cases h134 : decide (((lin - 4) + 0) - ((lin - 4) + 0) / 8 * 8 = 0) with
        | true =>
          have t9 := q_tbl2 (fun lin col => !decide (((lin - 4) + 0) - ((lin - 4) + 0) / 8 * 8 = 0) || decide (q_picX lin col = 1)) (l := 4) (n := 31) (l2 := 0) (n2 := 7) (by decide +kernel) (q_sub_lo 4 (q_lo1 h130) l0 l1) (q_sub_hi 35 (q_hi1 h131) (q_sub_lo 4 (q_lo1 h130) l0 l1) l1) c0 (q_hi1 h132)
          simp only [h134, Bool.not_true, Bool.not_false, Bool.false_or] at t9
          rw [of_decide_eq_true t9]
          refine q_Ca_of (Nat.le_of_ble_eq_true rfl) ?_
          refine q_Ru_seg (g2 := (5, [(0, .ref 66)], [.ref 66, .ref 67], (q_cX (q_rA pix smp tr a16 a17 a21 a22) (q_rI t14 t19 p F left dn ins) (q_rJ y), 40, 26520))) 3 (fun _ _ => rfl) ?_
          refine q_Ru_call (v := (some (.int pos))) (h2 := (q_cX (q_rA pix smp tr a16 a17 a21 a22) (q_rI t14 t19 p F left dn ins) (q_rJ y), 40, 26520)) rfl rfl ?_ ?_
          · refine q_Ca_of (Nat.le_of_ble_eq_true rfl) ?_
            refine q_Ru_seg (g2 := (4, [(0, .ref 66)], [.long y], (q_cX (q_rA pix smp tr a16 a17 a21 a22) (q_rI t14 t19 p F left dn ins) (q_rJ y), 40, 26520))) 2 (fun _ _ => rfl) ?_
            refine q_Ru_seg (g2 := (9, [(0, .ref 66)], [.int ((y - y / 960 * 960).toInt32)], (q_cX (q_rA pix smp tr a16 a17 a21 a22) (q_rI t14 t19 p F left dn ins) (q_rJ y), 40, 26520))) 3 (fun _ _ => rfl) ?_
            rw [hP]
            exact q_Ru_ret rfl rfl
          show q_Ru _ _ _ (8, [(0, .ref 66)], [.int pos, .ref 67], (q_cX (q_rA pix smp tr a16 a17 a21 a22) (q_rI t14 t19 p F left dn ins) (q_rJ y), 40, 26520)) _
          refine q_Ru_seg (g2 := (11, [(0, .ref 66)], [.int (pos / 24), .ref 67], (q_cX (q_rA pix smp tr a16 a17 a21 a22) (q_rI t14 t19 p F left dn ins) (q_rJ y), 40, 26520))) 2 (fun _ _ => rfl) ?_
          rw [hL]
          refine q_Ru_seg (g2 := (14, [(0, .ref 66)], [.ref 66, .int (lin - 4), .ref 67], (q_cX (q_rA pix smp tr a16 a17 a21 a22) (q_rI t14 t19 p F left dn ins) (q_rJ y), 40, 26520))) 3 (fun _ _ => rfl) ?_
          refine q_Ru_call (v := (some (.int col))) (h2 := (q_cX (q_rA pix smp tr a16 a17 a21 a22) (q_rI t14 t19 p F left dn ins) (q_rJ y), 40, 26520)) rfl rfl ?_ ?_
          · refine q_Ca_of (Nat.le_of_ble_eq_true rfl) ?_
            refine q_Ru_seg (g2 := (4, [(0, .ref 66)], [.long y], (q_cX (q_rA pix smp tr a16 a17 a21 a22) (q_rI t14 t19 p F left dn ins) (q_rJ y), 40, 26520))) 2 (fun _ _ => rfl) ?_
            refine q_Ru_seg (g2 := (9, [(0, .ref 66)], [.int ((y - y / 24 * 24).toInt32)], (q_cX (q_rA pix smp tr a16 a17 a21 a22) (q_rI t14 t19 p F left dn ins) (q_rJ y), 40, 26520))) 3 (fun _ _ => rfl) ?_
            rw [hC]
            exact q_Ru_ret rfl rfl
          show q_Ru _ _ _ (17, [(0, .ref 66)], [.int col, .int (lin - 4), .ref 67], (q_cX (q_rA pix smp tr a16 a17 a21 a22) (q_rI t14 t19 p F left dn ins) (q_rJ y), 40, 26520)) _
          refine q_Ru_call (v := (some (.int 1))) (h2 := (q_cX (q_rA pix smp tr a16 a17 a21 a22) (q_rI t14 t19 p F left dn ins) (q_rJ y), 40, 26520)) rfl rfl ?_ ?_
          · refine q_Ca_of (Nat.le_of_ble_eq_true rfl) ?_
            refine q_Ru_seg (g2 := (1, [(0, .ref 67), (1, .int (lin - 4)), (2, .int col)], [.int (lin - 4)], (q_cX (q_rA pix smp tr a16 a17 a21 a22) (q_rI t14 t19 p F left dn ins) (q_rJ y), 40, 26520))) 1 (fun _ _ => rfl) ?_
            refine q_Ru_rsF (g2 := (4, [(0, .ref 67), (1, .int (lin - 4)), (2, .int col)], [], (q_cX (q_rA pix smp tr a16 a17 a21 a22) (q_rI t14 t19 p F left dn ins) (q_rJ y), 40, 26520))) rfl rfl h130 ?_
            refine q_Ru_seg (g2 := (7, [(0, .ref 67), (1, .int (lin - 4)), (2, .int col)], [.int 32, .int (lin - 4)], (q_cX (q_rA pix smp tr a16 a17 a21 a22) (q_rI t14 t19 p F left dn ins) (q_rJ y), 40, 26520))) 2 (fun _ _ => rfl) ?_
            refine q_Ru_rsF (g2 := (10, [(0, .ref 67), (1, .int (lin - 4)), (2, .int col)], [], (q_cX (q_rA pix smp tr a16 a17 a21 a22) (q_rI t14 t19 p F left dn ins) (q_rJ y), 40, 26520))) rfl rfl (q_d_geT h131) ?_
            refine q_Ru_seg (g2 := (13, [(0, .ref 67), (1, .int (lin - 4)), (2, .int col)], [.int 8, .int col], (q_cX (q_rA pix smp tr a16 a17 a21 a22) (q_rI t14 t19 p F left dn ins) (q_rJ y), 40, 26520))) 2 (fun _ _ => rfl) ?_
            refine q_Ru_rsT (g2 := (24, [(0, .ref 67), (1, .int (lin - 4)), (2, .int col)], [], (q_cX (q_rA pix smp tr a16 a17 a21 a22) (q_rI t14 t19 p F left dn ins) (q_rJ y), 40, 26520))) rfl rfl h132 ?_
            refine q_Ru_seg (g2 := (27, [(0, .ref 67), (1, .int (lin - 4)), (2, .int col)], [.int 20, .int col], (q_cX (q_rA pix smp tr a16 a17 a21 a22) (q_rI t14 t19 p F left dn ins) (q_rJ y), 40, 26520))) 2 (fun _ _ => rfl) ?_
            refine q_Ru_rsT (g2 := (40, [(0, .ref 67), (1, .int (lin - 4)), (2, .int col)], [], (q_cX (q_rA pix smp tr a16 a17 a21 a22) (q_rI t14 t19 p F left dn ins) (q_rJ y), 40, 26520))) rfl rfl h133 ?_
            refine q_Ru_seg (g2 := (46, [(0, .ref 67), (1, .int (lin - 4)), (2, .int col)], [.int 0], (q_cX (q_rA pix smp tr a16 a17 a21 a22) (q_rI t14 t19 p F left dn ins) (q_rJ y), 40, 26520))) 4 (fun _ _ => rfl) ?_
            refine q_Ru_seg (g2 := (51, [(0, .ref 67), (1, .int (lin - 4)), (2, .int col)], [.ref 67, .int (lin - 4)], (q_cX (q_rA pix smp tr a16 a17 a21 a22) (q_rI t14 t19 p F left dn ins) (q_rJ y), 40, 26520))) 3 (fun _ _ => rfl) ?_
            refine q_Ru_call (v := (some (.int 0))) (h2 := (q_cX (q_rA pix smp tr a16 a17 a21 a22) (q_rI t14 t19 p F left dn ins) (q_rJ y), 40, 26520)) rfl rfl ?_ ?_
            · refine q_Ca_of (Nat.le_of_ble_eq_true rfl) ?_
              refine q_Ru_seg (g2 := (6, [(0, .ref 67)], [.int 0], (q_cX (q_rA pix smp tr a16 a17 a21 a22) (q_rI t14 t19 p F left dn ins) (q_rJ y), 40, 26520))) 4 (fun _ _ => rfl) ?_
              refine q_Ru_seg (g2 := (8, [(0, .ref 67)], [.int 0], (q_cX (q_rA pix smp tr a16 a17 a21 a22) (q_rI t14 t19 p F left dn ins) (q_rJ y), 40, 26520))) 2 (fun _ _ => rfl) ?_
              exact q_Ru_ret rfl rfl
            show q_Ru _ _ _ (54, [(0, .ref 67), (1, .int (lin - 4)), (2, .int col)], [.int 0, .int (lin - 4)], (q_cX (q_rA pix smp tr a16 a17 a21 a22) (q_rI t14 t19 p F left dn ins) (q_rJ y), 40, 26520)) _
            refine q_Ru_seg (g2 := (58, [(0, .ref 67), (1, .int (lin - 4)), (2, .int col)], [.int (((lin - 4) + 0) - ((lin - 4) + 0) / 8 * 8)], (q_cX (q_rA pix smp tr a16 a17 a21 a22) (q_rI t14 t19 p F left dn ins) (q_rJ y), 40, 26520))) 3 (fun _ _ => rfl) ?_
            refine q_Ru_rsF (g2 := (61, [(0, .ref 67), (1, .int (lin - 4)), (2, .int col)], [], (q_cX (q_rA pix smp tr a16 a17 a21 a22) (q_rI t14 t19 p F left dn ins) (q_rJ y), 40, 26520))) rfl rfl (q_d_neT h134) ?_
            refine q_Ru_seg (g2 := (66, [(0, .ref 67), (1, .int (lin - 4)), (2, .int col)], [.int 1], (q_cX (q_rA pix smp tr a16 a17 a21 a22) (q_rI t14 t19 p F left dn ins) (q_rJ y), 40, 26520))) 2 (fun _ _ => rfl) ?_
            exact q_Ru_ret rfl rfl
          show q_Ru _ _ _ (20, [(0, .ref 66)], [.int 1], (q_cX (q_rA pix smp tr a16 a17 a21 a22) (q_rI t14 t19 p F left dn ins) (q_rJ y), 40, 26520)) _
          exact q_Ru_ret rfl rfl
        | false =>
          have t9 := q_tbl2 (fun lin col => decide (((lin - 4) + 0) - ((lin - 4) + 0) / 8 * 8 = 0) || decide (q_picX lin col = 0)) (l := 4) (n := 31) (l2 := 0) (n2 := 7) (by decide +kernel) (q_sub_lo 4 (q_lo1 h130) l0 l1) (q_sub_hi 35 (q_hi1 h131) (q_sub_lo 4 (q_lo1 h130) l0 l1) l1) c0 (q_hi1 h132)
          simp only [h134, Bool.not_true, Bool.not_false, Bool.false_or] at t9
          rw [of_decide_eq_true t9]
          refine q_Ca_of (Nat.le_of_ble_eq_true rfl) ?_
          refine q_Ru_seg (g2 := (5, [(0, .ref 66)], [.ref 66, .ref 67], (q_cX (q_rA pix smp tr a16 a17 a21 a22) (q_rI t14 t19 p F left dn ins) (q_rJ y), 40, 26520))) 3 (fun _ _ => rfl) ?_
          refine q_Ru_call (v := (some (.int pos))) (h2 := (q_cX (q_rA pix smp tr a16 a17 a21 a22) (q_rI t14 t19 p F left dn ins) (q_rJ y), 40, 26520)) rfl rfl ?_ ?_
          · refine q_Ca_of (Nat.le_of_ble_eq_true rfl) ?_
            refine q_Ru_seg (g2 := (4, [(0, .ref 66)], [.long y], (q_cX (q_rA pix smp tr a16 a17 a21 a22) (q_rI t14 t19 p F left dn ins) (q_rJ y), 40, 26520))) 2 (fun _ _ => rfl) ?_
            refine q_Ru_seg (g2 := (9, [(0, .ref 66)], [.int ((y - y / 960 * 960).toInt32)], (q_cX (q_rA pix smp tr a16 a17 a21 a22) (q_rI t14 t19 p F left dn ins) (q_rJ y), 40, 26520))) 3 (fun _ _ => rfl) ?_
            rw [hP]
            exact q_Ru_ret rfl rfl
          show q_Ru _ _ _ (8, [(0, .ref 66)], [.int pos, .ref 67], (q_cX (q_rA pix smp tr a16 a17 a21 a22) (q_rI t14 t19 p F left dn ins) (q_rJ y), 40, 26520)) _
          refine q_Ru_seg (g2 := (11, [(0, .ref 66)], [.int (pos / 24), .ref 67], (q_cX (q_rA pix smp tr a16 a17 a21 a22) (q_rI t14 t19 p F left dn ins) (q_rJ y), 40, 26520))) 2 (fun _ _ => rfl) ?_
          rw [hL]
          refine q_Ru_seg (g2 := (14, [(0, .ref 66)], [.ref 66, .int (lin - 4), .ref 67], (q_cX (q_rA pix smp tr a16 a17 a21 a22) (q_rI t14 t19 p F left dn ins) (q_rJ y), 40, 26520))) 3 (fun _ _ => rfl) ?_
          refine q_Ru_call (v := (some (.int col))) (h2 := (q_cX (q_rA pix smp tr a16 a17 a21 a22) (q_rI t14 t19 p F left dn ins) (q_rJ y), 40, 26520)) rfl rfl ?_ ?_
          · refine q_Ca_of (Nat.le_of_ble_eq_true rfl) ?_
            refine q_Ru_seg (g2 := (4, [(0, .ref 66)], [.long y], (q_cX (q_rA pix smp tr a16 a17 a21 a22) (q_rI t14 t19 p F left dn ins) (q_rJ y), 40, 26520))) 2 (fun _ _ => rfl) ?_
            refine q_Ru_seg (g2 := (9, [(0, .ref 66)], [.int ((y - y / 24 * 24).toInt32)], (q_cX (q_rA pix smp tr a16 a17 a21 a22) (q_rI t14 t19 p F left dn ins) (q_rJ y), 40, 26520))) 3 (fun _ _ => rfl) ?_
            rw [hC]
            exact q_Ru_ret rfl rfl
          show q_Ru _ _ _ (17, [(0, .ref 66)], [.int col, .int (lin - 4), .ref 67], (q_cX (q_rA pix smp tr a16 a17 a21 a22) (q_rI t14 t19 p F left dn ins) (q_rJ y), 40, 26520)) _
          refine q_Ru_call (v := (some (.int 0))) (h2 := (q_cX (q_rA pix smp tr a16 a17 a21 a22) (q_rI t14 t19 p F left dn ins) (q_rJ y), 40, 26520)) rfl rfl ?_ ?_
          · refine q_Ca_of (Nat.le_of_ble_eq_true rfl) ?_
            refine q_Ru_seg (g2 := (1, [(0, .ref 67), (1, .int (lin - 4)), (2, .int col)], [.int (lin - 4)], (q_cX (q_rA pix smp tr a16 a17 a21 a22) (q_rI t14 t19 p F left dn ins) (q_rJ y), 40, 26520))) 1 (fun _ _ => rfl) ?_
            refine q_Ru_rsF (g2 := (4, [(0, .ref 67), (1, .int (lin - 4)), (2, .int col)], [], (q_cX (q_rA pix smp tr a16 a17 a21 a22) (q_rI t14 t19 p F left dn ins) (q_rJ y), 40, 26520))) rfl rfl h130 ?_
            refine q_Ru_seg (g2 := (7, [(0, .ref 67), (1, .int (lin - 4)), (2, .int col)], [.int 32, .int (lin - 4)], (q_cX (q_rA pix smp tr a16 a17 a21 a22) (q_rI t14 t19 p F left dn ins) (q_rJ y), 40, 26520))) 2 (fun _ _ => rfl) ?_
            refine q_Ru_rsF (g2 := (10, [(0, .ref 67), (1, .int (lin - 4)), (2, .int col)], [], (q_cX (q_rA pix smp tr a16 a17 a21 a22) (q_rI t14 t19 p F left dn ins) (q_rJ y), 40, 26520))) rfl rfl (q_d_geT h131) ?_
            refine q_Ru_seg (g2 := (13, [(0, .ref 67), (1, .int (lin - 4)), (2, .int col)], [.int 8, .int col], (q_cX (q_rA pix smp tr a16 a17 a21 a22) (q_rI t14 t19 p F left dn ins) (q_rJ y), 40, 26520))) 2 (fun _ _ => rfl) ?_
            refine q_Ru_rsT (g2 := (24, [(0, .ref 67), (1, .int (lin - 4)), (2, .int col)], [], (q_cX (q_rA pix smp tr a16 a17 a21 a22) (q_rI t14 t19 p F left dn ins) (q_rJ y), 40, 26520))) rfl rfl h132 ?_
            refine q_Ru_seg (g2 := (27, [(0, .ref 67), (1, .int (lin - 4)), (2, .int col)], [.int 20, .int col], (q_cX (q_rA pix smp tr a16 a17 a21 a22) (q_rI t14 t19 p F left dn ins) (q_rJ y), 40, 26520))) 2 (fun _ _ => rfl) ?_
            refine q_Ru_rsT (g2 := (40, [(0, .ref 67), (1, .int (lin - 4)), (2, .int col)], [], (q_cX (q_rA pix smp tr a16 a17 a21 a22) (q_rI t14 t19 p F left dn ins) (q_rJ y), 40, 26520))) rfl rfl h133 ?_
            refine q_Ru_seg (g2 := (46, [(0, .ref 67), (1, .int (lin - 4)), (2, .int col)], [.int 0], (q_cX (q_rA pix smp tr a16 a17 a21 a22) (q_rI t14 t19 p F left dn ins) (q_rJ y), 40, 26520))) 4 (fun _ _ => rfl) ?_
            refine q_Ru_seg (g2 := (51, [(0, .ref 67), (1, .int (lin - 4)), (2, .int col)], [.ref 67, .int (lin - 4)], (q_cX (q_rA pix smp tr a16 a17 a21 a22) (q_rI t14 t19 p F left dn ins) (q_rJ y), 40, 26520))) 3 (fun _ _ => rfl) ?_
            refine q_Ru_call (v := (some (.int 0))) (h2 := (q_cX (q_rA pix smp tr a16 a17 a21 a22) (q_rI t14 t19 p F left dn ins) (q_rJ y), 40, 26520)) rfl rfl ?_ ?_
            · refine q_Ca_of (Nat.le_of_ble_eq_true rfl) ?_
              refine q_Ru_seg (g2 := (6, [(0, .ref 67)], [.int 0], (q_cX (q_rA pix smp tr a16 a17 a21 a22) (q_rI t14 t19 p F left dn ins) (q_rJ y), 40, 26520))) 4 (fun _ _ => rfl) ?_
              refine q_Ru_seg (g2 := (8, [(0, .ref 67)], [.int 0], (q_cX (q_rA pix smp tr a16 a17 a21 a22) (q_rI t14 t19 p F left dn ins) (q_rJ y), 40, 26520))) 2 (fun _ _ => rfl) ?_
              exact q_Ru_ret rfl rfl
            show q_Ru _ _ _ (54, [(0, .ref 67), (1, .int (lin - 4)), (2, .int col)], [.int 0, .int (lin - 4)], (q_cX (q_rA pix smp tr a16 a17 a21 a22) (q_rI t14 t19 p F left dn ins) (q_rJ y), 40, 26520)) _
            refine q_Ru_seg (g2 := (58, [(0, .ref 67), (1, .int (lin - 4)), (2, .int col)], [.int (((lin - 4) + 0) - ((lin - 4) + 0) / 8 * 8)], (q_cX (q_rA pix smp tr a16 a17 a21 a22) (q_rI t14 t19 p F left dn ins) (q_rJ y), 40, 26520))) 3 (fun _ _ => rfl) ?_
            refine q_Ru_rsT (g2 := (65, [(0, .ref 67), (1, .int (lin - 4)), (2, .int col)], [], (q_cX (q_rA pix smp tr a16 a17 a21 a22) (q_rI t14 t19 p F left dn ins) (q_rJ y), 40, 26520))) rfl rfl (q_d_neF h134) ?_
            refine q_Ru_seg (g2 := (66, [(0, .ref 67), (1, .int (lin - 4)), (2, .int col)], [.int 0], (q_cX (q_rA pix smp tr a16 a17 a21 a22) (q_rI t14 t19 p F left dn ins) (q_rJ y), 40, 26520))) 1 (fun _ _ => rfl) ?_
            exact q_Ru_ret rfl rfl
          show q_Ru _ _ _ (20, [(0, .ref 66)], [.int 0], (q_cX (q_rA pix smp tr a16 a17 a21 a22) (q_rI t14 t19 p F left dn ins) (q_rJ y), 40, 26520)) _
          exact q_Ru_ret rfl rfl
      | false =>
        cases h135 : decide (col < 20) with
        | true =>
          have t9 := q_tbl2 (fun lin col => decide (q_picX lin col = 0)) (l := 4) (n := 31) (l2 := 8) (n2 := 11) (by decide +kernel) (q_sub_lo 4 (q_lo1 h130) l0 l1) (q_sub_hi 35 (q_hi1 h131) (q_sub_lo 4 (q_lo1 h130) l0 l1) l1) (q_lo1 h132) (q_hi1 h135)
          rw [of_decide_eq_true t9]
          refine q_Ca_of (Nat.le_of_ble_eq_true rfl) ?_
          refine q_Ru_seg (g2 := (5, [(0, .ref 66)], [.ref 66, .ref 67], (q_cX (q_rA pix smp tr a16 a17 a21 a22) (q_rI t14 t19 p F left dn ins) (q_rJ y), 40, 26520))) 3 (fun _ _ => rfl) ?_
          refine q_Ru_call (v := (some (.int pos))) (h2 := (q_cX (q_rA pix smp tr a16 a17 a21 a22) (q_rI t14 t19 p F left dn ins) (q_rJ y), 40, 26520)) rfl rfl ?_ ?_
          · refine q_Ca_of (Nat.le_of_ble_eq_true rfl) ?_
            refine q_Ru_seg (g2 := (4, [(0, .ref 66)], [.long y], (q_cX (q_rA pix smp tr a16 a17 a21 a22) (q_rI t14 t19 p F left dn ins) (q_rJ y), 40, 26520))) 2 (fun _ _ => rfl) ?_
            refine q_Ru_seg (g2 := (9, [(0, .ref 66)], [.int ((y - y / 960 * 960).toInt32)], (q_cX (q_rA pix smp tr a16 a17 a21 a22) (q_rI t14 t19 p F left dn ins) (q_rJ y), 40, 26520))) 3 (fun _ _ => rfl) ?_
            rw [hP]
            exact q_Ru_ret rfl rfl
          show q_Ru _ _ _ (8, [(0, .ref 66)], [.int pos, .ref 67], (q_cX (q_rA pix smp tr a16 a17 a21 a22) (q_rI t14 t19 p F left dn ins) (q_rJ y), 40, 26520)) _
          refine q_Ru_seg (g2 := (11, [(0, .ref 66)], [.int (pos / 24), .ref 67], (q_cX (q_rA pix smp tr a16 a17 a21 a22) (q_rI t14 t19 p F left dn ins) (q_rJ y), 40, 26520))) 2 (fun _ _ => rfl) ?_
          rw [hL]
          refine q_Ru_seg (g2 := (14, [(0, .ref 66)], [.ref 66, .int (lin - 4), .ref 67], (q_cX (q_rA pix smp tr a16 a17 a21 a22) (q_rI t14 t19 p F left dn ins) (q_rJ y), 40, 26520))) 3 (fun _ _ => rfl) ?_
          refine q_Ru_call (v := (some (.int col))) (h2 := (q_cX (q_rA pix smp tr a16 a17 a21 a22) (q_rI t14 t19 p F left dn ins) (q_rJ y), 40, 26520)) rfl rfl ?_ ?_
          · refine q_Ca_of (Nat.le_of_ble_eq_true rfl) ?_
            refine q_Ru_seg (g2 := (4, [(0, .ref 66)], [.long y], (q_cX (q_rA pix smp tr a16 a17 a21 a22) (q_rI t14 t19 p F left dn ins) (q_rJ y), 40, 26520))) 2 (fun _ _ => rfl) ?_
            refine q_Ru_seg (g2 := (9, [(0, .ref 66)], [.int ((y - y / 24 * 24).toInt32)], (q_cX (q_rA pix smp tr a16 a17 a21 a22) (q_rI t14 t19 p F left dn ins) (q_rJ y), 40, 26520))) 3 (fun _ _ => rfl) ?_
            rw [hC]
            exact q_Ru_ret rfl rfl
          show q_Ru _ _ _ (17, [(0, .ref 66)], [.int col, .int (lin - 4), .ref 67], (q_cX (q_rA pix smp tr a16 a17 a21 a22) (q_rI t14 t19 p F left dn ins) (q_rJ y), 40, 26520)) _
          refine q_Ru_call (v := (some (.int 0))) (h2 := (q_cX (q_rA pix smp tr a16 a17 a21 a22) (q_rI t14 t19 p F left dn ins) (q_rJ y), 40, 26520)) rfl rfl ?_ ?_
          · refine q_Ca_of (Nat.le_of_ble_eq_true rfl) ?_
            refine q_Ru_seg (g2 := (1, [(0, .ref 67), (1, .int (lin - 4)), (2, .int col)], [.int (lin - 4)], (q_cX (q_rA pix smp tr a16 a17 a21 a22) (q_rI t14 t19 p F left dn ins) (q_rJ y), 40, 26520))) 1 (fun _ _ => rfl) ?_
            refine q_Ru_rsF (g2 := (4, [(0, .ref 67), (1, .int (lin - 4)), (2, .int col)], [], (q_cX (q_rA pix smp tr a16 a17 a21 a22) (q_rI t14 t19 p F left dn ins) (q_rJ y), 40, 26520))) rfl rfl h130 ?_
            refine q_Ru_seg (g2 := (7, [(0, .ref 67), (1, .int (lin - 4)), (2, .int col)], [.int 32, .int (lin - 4)], (q_cX (q_rA pix smp tr a16 a17 a21 a22) (q_rI t14 t19 p F left dn ins) (q_rJ y), 40, 26520))) 2 (fun _ _ => rfl) ?_
            refine q_Ru_rsF (g2 := (10, [(0, .ref 67), (1, .int (lin - 4)), (2, .int col)], [], (q_cX (q_rA pix smp tr a16 a17 a21 a22) (q_rI t14 t19 p F left dn ins) (q_rJ y), 40, 26520))) rfl rfl (q_d_geT h131) ?_
            refine q_Ru_seg (g2 := (13, [(0, .ref 67), (1, .int (lin - 4)), (2, .int col)], [.int 8, .int col], (q_cX (q_rA pix smp tr a16 a17 a21 a22) (q_rI t14 t19 p F left dn ins) (q_rJ y), 40, 26520))) 2 (fun _ _ => rfl) ?_
            refine q_Ru_rsF (g2 := (16, [(0, .ref 67), (1, .int (lin - 4)), (2, .int col)], [], (q_cX (q_rA pix smp tr a16 a17 a21 a22) (q_rI t14 t19 p F left dn ins) (q_rJ y), 40, 26520))) rfl rfl h132 ?_
            refine q_Ru_seg (g2 := (19, [(0, .ref 67), (1, .int (lin - 4)), (2, .int col)], [.int 20, .int col], (q_cX (q_rA pix smp tr a16 a17 a21 a22) (q_rI t14 t19 p F left dn ins) (q_rJ y), 40, 26520))) 2 (fun _ _ => rfl) ?_
            refine q_Ru_rsF (g2 := (22, [(0, .ref 67), (1, .int (lin - 4)), (2, .int col)], [], (q_cX (q_rA pix smp tr a16 a17 a21 a22) (q_rI t14 t19 p F left dn ins) (q_rJ y), 40, 26520))) rfl rfl (q_d_geT h135) ?_
            refine q_Ru_seg (g2 := (23, [(0, .ref 67), (1, .int (lin - 4)), (2, .int col)], [.int 0], (q_cX (q_rA pix smp tr a16 a17 a21 a22) (q_rI t14 t19 p F left dn ins) (q_rJ y), 40, 26520))) 1 (fun _ _ => rfl) ?_
            exact q_Ru_ret rfl rfl
          show q_Ru _ _ _ (20, [(0, .ref 66)], [.int 0], (q_cX (q_rA pix smp tr a16 a17 a21 a22) (q_rI t14 t19 p F left dn ins) (q_rJ y), 40, 26520)) _
          exact q_Ru_ret rfl rfl
        | false =>
          have t9 := q_tbl2 (fun lin col => decide (q_picX lin col = 0)) (l := 4) (n := 31) (l2 := 20) (n2 := 3) (by decide +kernel) (q_sub_lo 4 (q_lo1 h130) l0 l1) (q_sub_hi 35 (q_hi1 h131) (q_sub_lo 4 (q_lo1 h130) l0 l1) l1) (q_lo1 h135) c1
          rw [of_decide_eq_true t9]
          refine q_Ca_of (Nat.le_of_ble_eq_true rfl) ?_
          refine q_Ru_seg (g2 := (5, [(0, .ref 66)], [.ref 66, .ref 67], (q_cX (q_rA pix smp tr a16 a17 a21 a22) (q_rI t14 t19 p F left dn ins) (q_rJ y), 40, 26520))) 3 (fun _ _ => rfl) ?_
          refine q_Ru_call (v := (some (.int pos))) (h2 := (q_cX (q_rA pix smp tr a16 a17 a21 a22) (q_rI t14 t19 p F left dn ins) (q_rJ y), 40, 26520)) rfl rfl ?_ ?_
          · refine q_Ca_of (Nat.le_of_ble_eq_true rfl) ?_
            refine q_Ru_seg (g2 := (4, [(0, .ref 66)], [.long y], (q_cX (q_rA pix smp tr a16 a17 a21 a22) (q_rI t14 t19 p F left dn ins) (q_rJ y), 40, 26520))) 2 (fun _ _ => rfl) ?_
            refine q_Ru_seg (g2 := (9, [(0, .ref 66)], [.int ((y - y / 960 * 960).toInt32)], (q_cX (q_rA pix smp tr a16 a17 a21 a22) (q_rI t14 t19 p F left dn ins) (q_rJ y), 40, 26520))) 3 (fun _ _ => rfl) ?_
            rw [hP]
            exact q_Ru_ret rfl rfl
          show q_Ru _ _ _ (8, [(0, .ref 66)], [.int pos, .ref 67], (q_cX (q_rA pix smp tr a16 a17 a21 a22) (q_rI t14 t19 p F left dn ins) (q_rJ y), 40, 26520)) _
          refine q_Ru_seg (g2 := (11, [(0, .ref 66)], [.int (pos / 24), .ref 67], (q_cX (q_rA pix smp tr a16 a17 a21 a22) (q_rI t14 t19 p F left dn ins) (q_rJ y), 40, 26520))) 2 (fun _ _ => rfl) ?_
          rw [hL]
          refine q_Ru_seg (g2 := (14, [(0, .ref 66)], [.ref 66, .int (lin - 4), .ref 67], (q_cX (q_rA pix smp tr a16 a17 a21 a22) (q_rI t14 t19 p F left dn ins) (q_rJ y), 40, 26520))) 3 (fun _ _ => rfl) ?_
          refine q_Ru_call (v := (some (.int col))) (h2 := (q_cX (q_rA pix smp tr a16 a17 a21 a22) (q_rI t14 t19 p F left dn ins) (q_rJ y), 40, 26520)) rfl rfl ?_ ?_
          · refine q_Ca_of (Nat.le_of_ble_eq_true rfl) ?_
            refine q_Ru_seg (g2 := (4, [(0, .ref 66)], [.long y], (q_cX (q_rA pix smp tr a16 a17 a21 a22) (q_rI t14 t19 p F left dn ins) (q_rJ y), 40, 26520))) 2 (fun _ _ => rfl) ?_
            refine q_Ru_seg (g2 := (9, [(0, .ref 66)], [.int ((y - y / 24 * 24).toInt32)], (q_cX (q_rA pix smp tr a16 a17 a21 a22) (q_rI t14 t19 p F left dn ins) (q_rJ y), 40, 26520))) 3 (fun _ _ => rfl) ?_
            rw [hC]
            exact q_Ru_ret rfl rfl
          show q_Ru _ _ _ (17, [(0, .ref 66)], [.int col, .int (lin - 4), .ref 67], (q_cX (q_rA pix smp tr a16 a17 a21 a22) (q_rI t14 t19 p F left dn ins) (q_rJ y), 40, 26520)) _
          refine q_Ru_call (v := (some (.int 0))) (h2 := (q_cX (q_rA pix smp tr a16 a17 a21 a22) (q_rI t14 t19 p F left dn ins) (q_rJ y), 40, 26520)) rfl rfl ?_ ?_
          · refine q_Ca_of (Nat.le_of_ble_eq_true rfl) ?_
            refine q_Ru_seg (g2 := (1, [(0, .ref 67), (1, .int (lin - 4)), (2, .int col)], [.int (lin - 4)], (q_cX (q_rA pix smp tr a16 a17 a21 a22) (q_rI t14 t19 p F left dn ins) (q_rJ y), 40, 26520))) 1 (fun _ _ => rfl) ?_
            refine q_Ru_rsF (g2 := (4, [(0, .ref 67), (1, .int (lin - 4)), (2, .int col)], [], (q_cX (q_rA pix smp tr a16 a17 a21 a22) (q_rI t14 t19 p F left dn ins) (q_rJ y), 40, 26520))) rfl rfl h130 ?_
            refine q_Ru_seg (g2 := (7, [(0, .ref 67), (1, .int (lin - 4)), (2, .int col)], [.int 32, .int (lin - 4)], (q_cX (q_rA pix smp tr a16 a17 a21 a22) (q_rI t14 t19 p F left dn ins) (q_rJ y), 40, 26520))) 2 (fun _ _ => rfl) ?_
            refine q_Ru_rsF (g2 := (10, [(0, .ref 67), (1, .int (lin - 4)), (2, .int col)], [], (q_cX (q_rA pix smp tr a16 a17 a21 a22) (q_rI t14 t19 p F left dn ins) (q_rJ y), 40, 26520))) rfl rfl (q_d_geT h131) ?_
            refine q_Ru_seg (g2 := (13, [(0, .ref 67), (1, .int (lin - 4)), (2, .int col)], [.int 8, .int col], (q_cX (q_rA pix smp tr a16 a17 a21 a22) (q_rI t14 t19 p F left dn ins) (q_rJ y), 40, 26520))) 2 (fun _ _ => rfl) ?_
            refine q_Ru_rsF (g2 := (16, [(0, .ref 67), (1, .int (lin - 4)), (2, .int col)], [], (q_cX (q_rA pix smp tr a16 a17 a21 a22) (q_rI t14 t19 p F left dn ins) (q_rJ y), 40, 26520))) rfl rfl h132 ?_
            refine q_Ru_seg (g2 := (19, [(0, .ref 67), (1, .int (lin - 4)), (2, .int col)], [.int 20, .int col], (q_cX (q_rA pix smp tr a16 a17 a21 a22) (q_rI t14 t19 p F left dn ins) (q_rJ y), 40, 26520))) 2 (fun _ _ => rfl) ?_
            refine q_Ru_rsT (g2 := (24, [(0, .ref 67), (1, .int (lin - 4)), (2, .int col)], [], (q_cX (q_rA pix smp tr a16 a17 a21 a22) (q_rI t14 t19 p F left dn ins) (q_rJ y), 40, 26520))) rfl rfl (q_d_geF h135) ?_
            refine q_Ru_seg (g2 := (27, [(0, .ref 67), (1, .int (lin - 4)), (2, .int col)], [.int 20, .int col], (q_cX (q_rA pix smp tr a16 a17 a21 a22) (q_rI t14 t19 p F left dn ins) (q_rJ y), 40, 26520))) 2 (fun _ _ => rfl) ?_
            refine q_Ru_rsF (g2 := (30, [(0, .ref 67), (1, .int (lin - 4)), (2, .int col)], [], (q_cX (q_rA pix smp tr a16 a17 a21 a22) (q_rI t14 t19 p F left dn ins) (q_rJ y), 40, 26520))) rfl rfl h135 ?_
            refine q_Ru_seg (g2 := (36, [(0, .ref 67), (1, .int (lin - 4)), (2, .int col)], [.int (lin - 4), .int (col - 20), .ref 67], (q_cX (q_rA pix smp tr a16 a17 a21 a22) (q_rI t14 t19 p F left dn ins) (q_rJ y), 40, 26520))) 5 (fun _ _ => rfl) ?_
            refine q_Ru_call (v := (some (.int 0))) (h2 := (q_cX (q_rA pix smp tr a16 a17 a21 a22) (q_rI t14 t19 p F left dn ins) (q_rJ y), 40, 26520)) rfl rfl ?_ ?_
            · refine q_Ca_of (Nat.le_of_ble_eq_true rfl) ?_
              refine q_Ru_seg (g2 := (12, [(3, .int ((col - 20) &&& 3)), (0, .ref 67), (1, .int (col - 20)), (2, .int (lin - 4))], [.int ((24 : Int32) + ((col - 20) &&& 3)), .ref 69], (q_cX (q_rA pix smp tr a16 a17 a21 a22) (q_rI t14 t19 p F left dn ins) (q_rJ y), 40, 26520))) 9 (fun _ _ => rfl) ?_
              refine q_Ru_rsT (g2 := (13, [(3, .int ((col - 20) &&& 3)), (0, .ref 67), (1, .int (col - 20)), (2, .int (lin - 4))], [.int ((upd (fun _ => 0) 10 1) (((24 : Int32) + ((col - 20) &&& 3)).toNatClampNeg))], (q_cX (q_rA pix smp tr a16 a17 a21 a22) (q_rI t14 t19 p F left dn ins) (q_rJ y), 40, 26520))) rfl rfl (q_tbl1 (fun col => q_in ((24 : Int32) + ((col - 20) &&& 3)) 48) (l := 20) (n := 3) (by decide +kernel) (q_lo1 h135) c1) ?_
              refine q_Ru_seg (g2 := (21, [(4, .int ((upd (fun _ => 0) 10 1) (((24 : Int32) + ((col - 20) &&& 3)).toNatClampNeg))), (3, .int ((col - 20) &&& 3)), (0, .ref 67), (1, .int (col - 20)), (2, .int (lin - 4))], [.int ((col - 20) &&& 3), .int 18, .ref 67, .int 8], (q_cX (q_rA pix smp tr a16 a17 a21 a22) (q_rI t14 t19 p F left dn ins) (q_rJ y), 40, 26520))) 5 (fun _ _ => rfl) ?_
              refine q_Ru_call (v := (some (.int 0))) (h2 := (q_cX (q_rA pix smp tr a16 a17 a21 a22) (q_rI t14 t19 p F left dn ins) (q_rJ y), 40, 26520)) rfl rfl ?_ ?_
              · refine q_Ca_of (Nat.le_of_ble_eq_true rfl) ?_
                refine q_Ru_seg (g2 := (16, [(0, .ref 67), (1, .int 18), (2, .int ((col - 20) &&& 3))], [.int 0], (q_cX (q_rA pix smp tr a16 a17 a21 a22) (q_rI t14 t19 p F left dn ins) (q_rJ y), 40, 26520))) 9 (fun _ _ => rfl) ?_
                refine q_Ru_seg (g2 := (18, [(0, .ref 67), (1, .int 18), (2, .int ((col - 20) &&& 3))], [.int ((0 : Int32) >>> (((col - 20) &&& 3) &&& 31))], (q_cX (q_rA pix smp tr a16 a17 a21 a22) (q_rI t14 t19 p F left dn ins) (q_rJ y), 40, 26520))) 2 (fun _ _ => rfl) ?_
                rw [q_shr0]
                refine q_Ru_seg (g2 := (24, [(0, .ref 67), (1, .int 18), (2, .int ((col - 20) &&& 3))], [.int 0], (q_cX (q_rA pix smp tr a16 a17 a21 a22) (q_rI t14 t19 p F left dn ins) (q_rJ y), 40, 26520))) 3 (fun _ _ => rfl) ?_
                exact q_Ru_ret rfl rfl
              show q_Ru _ _ _ (24, [(4, .int ((upd (fun _ => 0) 10 1) (((24 : Int32) + ((col - 20) &&& 3)).toNatClampNeg))), (3, .int ((col - 20) &&& 3)), (0, .ref 67), (1, .int (col - 20)), (2, .int (lin - 4))], [.int 0, .int 8], (q_cX (q_rA pix smp tr a16 a17 a21 a22) (q_rI t14 t19 p F left dn ins) (q_rJ y), 40, 26520)) _
              refine q_Ru_seg (g2 := (31, [(5, .int 8), (4, .int ((upd (fun _ => 0) 10 1) (((24 : Int32) + ((col - 20) &&& 3)).toNatClampNeg))), (3, .int ((col - 20) &&& 3)), (0, .ref 67), (1, .int (col - 20)), (2, .int (lin - 4))], [.int ((col - 20) &&& 3), .int 17, .ref 67], (q_cX (q_rA pix smp tr a16 a17 a21 a22) (q_rI t14 t19 p F left dn ins) (q_rJ y), 40, 26520))) 5 (fun _ _ => rfl) ?_
              refine q_Ru_call (v := (some (.int 0))) (h2 := (q_cX (q_rA pix smp tr a16 a17 a21 a22) (q_rI t14 t19 p F left dn ins) (q_rJ y), 40, 26520)) rfl rfl ?_ ?_
              · refine q_Ca_of (Nat.le_of_ble_eq_true rfl) ?_
                refine q_Ru_seg (g2 := (16, [(0, .ref 67), (1, .int 17), (2, .int ((col - 20) &&& 3))], [.int 0], (q_cX (q_rA pix smp tr a16 a17 a21 a22) (q_rI t14 t19 p F left dn ins) (q_rJ y), 40, 26520))) 9 (fun _ _ => rfl) ?_
                refine q_Ru_seg (g2 := (18, [(0, .ref 67), (1, .int 17), (2, .int ((col - 20) &&& 3))], [.int ((0 : Int32) >>> (((col - 20) &&& 3) &&& 31))], (q_cX (q_rA pix smp tr a16 a17 a21 a22) (q_rI t14 t19 p F left dn ins) (q_rJ y), 40, 26520))) 2 (fun _ _ => rfl) ?_
                rw [q_shr0]
                refine q_Ru_seg (g2 := (24, [(0, .ref 67), (1, .int 17), (2, .int ((col - 20) &&& 3))], [.int 0], (q_cX (q_rA pix smp tr a16 a17 a21 a22) (q_rI t14 t19 p F left dn ins) (q_rJ y), 40, 26520))) 3 (fun _ _ => rfl) ?_
                exact q_Ru_ret rfl rfl
              show q_Ru _ _ _ (34, [(5, .int 8), (4, .int ((upd (fun _ => 0) 10 1) (((24 : Int32) + ((col - 20) &&& 3)).toNatClampNeg))), (3, .int ((col - 20) &&& 3)), (0, .ref 67), (1, .int (col - 20)), (2, .int (lin - 4))], [.int 0], (q_cX (q_rA pix smp tr a16 a17 a21 a22) (q_rI t14 t19 p F left dn ins) (q_rJ y), 40, 26520)) _
              refine q_Ru_seg (g2 := (58, [(5, .int 8), (4, .int ((upd (fun _ => 0) 10 1) (((24 : Int32) + ((col - 20) &&& 3)).toNatClampNeg))), (3, .int ((col - 20) &&& 3)), (0, .ref 67), (1, .int (col - 20)), (2, .int (lin - 4))], [.int 0], (q_cX (q_rA pix smp tr a16 a17 a21 a22) (q_rI t14 t19 p F left dn ins) (q_rJ y), 40, 26520))) 3 (fun _ _ => rfl) ?_
              exact q_Ru_ret rfl rfl
            show q_Ru _ _ _ (39, [(0, .ref 67), (1, .int (lin - 4)), (2, .int col)], [.int 0], (q_cX (q_rA pix smp tr a16 a17 a21 a22) (q_rI t14 t19 p F left dn ins) (q_rJ y), 40, 26520)) _
            exact q_Ru_ret rfl rfl
          show q_Ru _ _ _ (20, [(0, .ref 66)], [.int 0], (q_cX (q_rA pix smp tr a16 a17 a21 a22) (q_rI t14 t19 p F left dn ins) (q_rJ y), 40, 26520)) _
          exact q_Ru_ret rfl rfl
    | false =>
      have t9 := q_tbl2 (fun lin col => decide (q_picX lin col = 0)) (l := 36) (n := 3) (l2 := 0) (n2 := 23) (by decide +kernel) (q_sub_lo 36 (q_lo1 h131) (q_sub_lo 4 (q_lo1 h130) l0 l1) l1) l1 c0 c1
      rw [of_decide_eq_true t9]
      refine q_Ca_of (Nat.le_of_ble_eq_true rfl) ?_
      refine q_Ru_seg (g2 := (5, [(0, .ref 66)], [.ref 66, .ref 67], (q_cX (q_rA pix smp tr a16 a17 a21 a22) (q_rI t14 t19 p F left dn ins) (q_rJ y), 40, 26520))) 3 (fun _ _ => rfl) ?_
      refine q_Ru_call (v := (some (.int pos))) (h2 := (q_cX (q_rA pix smp tr a16 a17 a21 a22) (q_rI t14 t19 p F left dn ins) (q_rJ y), 40, 26520)) rfl rfl ?_ ?_
      · refine q_Ca_of (Nat.le_of_ble_eq_true rfl) ?_
        refine q_Ru_seg (g2 := (4, [(0, .ref 66)], [.long y], (q_cX (q_rA pix smp tr a16 a17 a21 a22) (q_rI t14 t19 p F left dn ins) (q_rJ y), 40, 26520))) 2 (fun _ _ => rfl) ?_
        refine q_Ru_seg (g2 := (9, [(0, .ref 66)], [.int ((y - y / 960 * 960).toInt32)], (q_cX (q_rA pix smp tr a16 a17 a21 a22) (q_rI t14 t19 p F left dn ins) (q_rJ y), 40, 26520))) 3 (fun _ _ => rfl) ?_
        rw [hP]
        exact q_Ru_ret rfl rfl
      show q_Ru _ _ _ (8, [(0, .ref 66)], [.int pos, .ref 67], (q_cX (q_rA pix smp tr a16 a17 a21 a22) (q_rI t14 t19 p F left dn ins) (q_rJ y), 40, 26520)) _
      refine q_Ru_seg (g2 := (11, [(0, .ref 66)], [.int (pos / 24), .ref 67], (q_cX (q_rA pix smp tr a16 a17 a21 a22) (q_rI t14 t19 p F left dn ins) (q_rJ y), 40, 26520))) 2 (fun _ _ => rfl) ?_
      rw [hL]
      refine q_Ru_seg (g2 := (14, [(0, .ref 66)], [.ref 66, .int (lin - 4), .ref 67], (q_cX (q_rA pix smp tr a16 a17 a21 a22) (q_rI t14 t19 p F left dn ins) (q_rJ y), 40, 26520))) 3 (fun _ _ => rfl) ?_
      refine q_Ru_call (v := (some (.int col))) (h2 := (q_cX (q_rA pix smp tr a16 a17 a21 a22) (q_rI t14 t19 p F left dn ins) (q_rJ y), 40, 26520)) rfl rfl ?_ ?_
      · refine q_Ca_of (Nat.le_of_ble_eq_true rfl) ?_
        refine q_Ru_seg (g2 := (4, [(0, .ref 66)], [.long y], (q_cX (q_rA pix smp tr a16 a17 a21 a22) (q_rI t14 t19 p F left dn ins) (q_rJ y), 40, 26520))) 2 (fun _ _ => rfl) ?_
        refine q_Ru_seg (g2 := (9, [(0, .ref 66)], [.int ((y - y / 24 * 24).toInt32)], (q_cX (q_rA pix smp tr a16 a17 a21 a22) (q_rI t14 t19 p F left dn ins) (q_rJ y), 40, 26520))) 3 (fun _ _ => rfl) ?_
        rw [hC]
        exact q_Ru_ret rfl rfl
      show q_Ru _ _ _ (17, [(0, .ref 66)], [.int col, .int (lin - 4), .ref 67], (q_cX (q_rA pix smp tr a16 a17 a21 a22) (q_rI t14 t19 p F left dn ins) (q_rJ y), 40, 26520)) _
      refine q_Ru_call (v := (some (.int 0))) (h2 := (q_cX (q_rA pix smp tr a16 a17 a21 a22) (q_rI t14 t19 p F left dn ins) (q_rJ y), 40, 26520)) rfl rfl ?_ ?_
      · refine q_Ca_of (Nat.le_of_ble_eq_true rfl) ?_
        refine q_Ru_seg (g2 := (1, [(0, .ref 67), (1, .int (lin - 4)), (2, .int col)], [.int (lin - 4)], (q_cX (q_rA pix smp tr a16 a17 a21 a22) (q_rI t14 t19 p F left dn ins) (q_rJ y), 40, 26520))) 1 (fun _ _ => rfl) ?_
        refine q_Ru_rsF (g2 := (4, [(0, .ref 67), (1, .int (lin - 4)), (2, .int col)], [], (q_cX (q_rA pix smp tr a16 a17 a21 a22) (q_rI t14 t19 p F left dn ins) (q_rJ y), 40, 26520))) rfl rfl h130 ?_
        refine q_Ru_seg (g2 := (7, [(0, .ref 67), (1, .int (lin - 4)), (2, .int col)], [.int 32, .int (lin - 4)], (q_cX (q_rA pix smp tr a16 a17 a21 a22) (q_rI t14 t19 p F left dn ins) (q_rJ y), 40, 26520))) 2 (fun _ _ => rfl) ?_
        refine q_Ru_rsT (g2 := (22, [(0, .ref 67), (1, .int (lin - 4)), (2, .int col)], [], (q_cX (q_rA pix smp tr a16 a17 a21 a22) (q_rI t14 t19 p F left dn ins) (q_rJ y), 40, 26520))) rfl rfl (q_d_geF h131) ?_
        refine q_Ru_seg (g2 := (23, [(0, .ref 67), (1, .int (lin - 4)), (2, .int col)], [.int 0], (q_cX (q_rA pix smp tr a16 a17 a21 a22) (q_rI t14 t19 p F left dn ins) (q_rJ y), 40, 26520))) 1 (fun _ _ => rfl) ?_
        exact q_Ru_ret rfl rfl
      show q_Ru _ _ _ (20, [(0, .ref 66)], [.int 0], (q_cX (q_rA pix smp tr a16 a17 a21 a22) (q_rI t14 t19 p F left dn ins) (q_rJ y), 40, 26520)) _
      exact q_Ru_ret rfl rfl
set_option maxHeartbeats 4000000 in
theorem q_p_valueAt (pix smp tr a16 a17 a21 a22 : Nat → Int32) (t14 t19 p F left dn ins : Int32) (y : Int64) (u v : Int32) : q_Ca q_TB0 3 119 [.ref 67, .int u, .int v] (q_cX (q_rA pix smp tr a16 a17 a21 a22) (q_rI t14 t19 p F left dn ins) (q_rJ y), 40, 26520) (.inl (some (.int 0)), (q_cX (q_rA pix smp tr a16 a17 a21 a22) (q_rI t14 t19 p F left dn ins) (q_rJ y), 40, 26520)) := by
  refine q_Ca_of (Nat.le_of_ble_eq_true rfl) ?_
  refine q_Ru_seg (g2 := (2, [(0, .ref 67), (1, .int u), (2, .int v)], [.ref 67, .int u], (q_cX (q_rA pix smp tr a16 a17 a21 a22) (q_rI t14 t19 p F left dn ins) (q_rJ y), 40, 26520))) 2 (fun _ _ => rfl) ?_
  refine q_Ru_call (v := (some (.int 0))) (h2 := (q_cX (q_rA pix smp tr a16 a17 a21 a22) (q_rI t14 t19 p F left dn ins) (q_rJ y), 40, 26520)) rfl rfl ?_ ?_
  · refine q_Ca_of (Nat.le_of_ble_eq_true rfl) ?_
    refine q_Ru_seg (g2 := (6, [(0, .ref 67)], [.int 0], (q_cX (q_rA pix smp tr a16 a17 a21 a22) (q_rI t14 t19 p F left dn ins) (q_rJ y), 40, 26520))) 4 (fun _ _ => rfl) ?_
    refine q_Ru_seg (g2 := (8, [(0, .ref 67)], [.int 0], (q_cX (q_rA pix smp tr a16 a17 a21 a22) (q_rI t14 t19 p F left dn ins) (q_rJ y), 40, 26520))) 2 (fun _ _ => rfl) ?_
    exact q_Ru_ret rfl rfl
  show q_Ru _ _ _ (5, [(0, .ref 67), (1, .int u), (2, .int v)], [.int 0, .int u], (q_cX (q_rA pix smp tr a16 a17 a21 a22) (q_rI t14 t19 p F left dn ins) (q_rJ y), 40, 26520)) _
  refine q_Ru_seg (g2 := (12, [(3, .int ((u + 0) - (u + 0) / 32 * 32)), (0, .ref 67), (1, .int u), (2, .int v)], [.ref 67, .int v], (q_cX (q_rA pix smp tr a16 a17 a21 a22) (q_rI t14 t19 p F left dn ins) (q_rJ y), 40, 26520))) 6 (fun _ _ => rfl) ?_
  refine q_Ru_call (v := (some (.int 0))) (h2 := (q_cX (q_rA pix smp tr a16 a17 a21 a22) (q_rI t14 t19 p F left dn ins) (q_rJ y), 40, 26520)) rfl rfl ?_ ?_
  · refine q_Ca_of (Nat.le_of_ble_eq_true rfl) ?_
    refine q_Ru_seg (g2 := (6, [(0, .ref 67)], [.int 0], (q_cX (q_rA pix smp tr a16 a17 a21 a22) (q_rI t14 t19 p F left dn ins) (q_rJ y), 40, 26520))) 4 (fun _ _ => rfl) ?_
    refine q_Ru_seg (g2 := (8, [(0, .ref 67)], [.int 0], (q_cX (q_rA pix smp tr a16 a17 a21 a22) (q_rI t14 t19 p F left dn ins) (q_rJ y), 40, 26520))) 2 (fun _ _ => rfl) ?_
    exact q_Ru_ret rfl rfl
  show q_Ru _ _ _ (15, [(3, .int ((u + 0) - (u + 0) / 32 * 32)), (0, .ref 67), (1, .int u), (2, .int v)], [.int 0, .int v], (q_cX (q_rA pix smp tr a16 a17 a21 a22) (q_rI t14 t19 p F left dn ins) (q_rJ y), 40, 26520)) _
  refine q_Ru_seg (g2 := (31, [(4, .int ((v + 0) - (v + 0) / 32 * 32)), (3, .int ((u + 0) - (u + 0) / 32 * 32)), (0, .ref 67), (1, .int u), (2, .int v)], [.int 0, .int 256], (q_cX (q_rA pix smp tr a16 a17 a21 a22) (q_rI t14 t19 p F left dn ins) (q_rJ y), 40, 26520))) 9 (fun _ _ => rfl) ?_
  refine q_Ru_seg (g2 := (47, [(5, .int 0), (4, .int ((v + 0) - (v + 0) / 32 * 32)), (3, .int ((u + 0) - (u + 0) / 32 * 32)), (0, .ref 67), (1, .int u), (2, .int v)], [.int (((0 : Int32) + (4 * ((v + 0) - (v + 0) / 32 * 32))) + (((u + 0) - (u + 0) / 32 * 32) / 8)), .ref 67], (q_cX (q_rA pix smp tr a16 a17 a21 a22) (q_rI t14 t19 p F left dn ins) (q_rJ y), 40, 26520))) 12 (fun _ _ => rfl) ?_
  refine q_Ru_call (v := (some (.int 0))) (h2 := (q_cX (q_rA pix smp tr a16 a17 a21 a22) (q_rI t14 t19 p F left dn ins) (q_rJ y), 40, 26520)) rfl rfl ?_ ?_
  · refine q_Ca_of (Nat.le_of_ble_eq_true rfl) ?_
    refine q_Ru_seg (g2 := (9, [(0, .ref 67), (1, .int (((0 : Int32) + (4 * ((v + 0) - (v + 0) / 32 * 32))) + (((u + 0) - (u + 0) / 32 * 32) / 8)))], [.int ((((0 : Int32) + (4 * ((v + 0) - (v + 0) / 32 * 32))) + (((u + 0) - (u + 0) / 32 * 32) / 8)) &&& 4095), .ref 68], (q_cX (q_rA pix smp tr a16 a17 a21 a22) (q_rI t14 t19 p F left dn ins) (q_rJ y), 40, 26520))) 5 (fun _ _ => rfl) ?_
    refine q_Ru_rsT (g2 := (10, [(0, .ref 67), (1, .int (((0 : Int32) + (4 * ((v + 0) - (v + 0) / 32 * 32))) + (((u + 0) - (u + 0) / 32 * 32) / 8)))], [.int 0], (q_cX (q_rA pix smp tr a16 a17 a21 a22) (q_rI t14 t19 p F left dn ins) (q_rJ y), 40, 26520))) rfl rfl (q_in_bd (x := (((0 : Int32) + (4 * ((v + 0) - (v + 0) / 32 * 32))) + (((u + 0) - (u + 0) / 32 * 32) / 8)) &&& 4095) (n := 4096) (U := 4095) (L := 0) (q_and_lo (((0 : Int32) + (4 * ((v + 0) - (v + 0) / 32 * 32))) + (((u + 0) - (u + 0) / 32 * 32) / 8)) 4095) (q_and_hi (((0 : Int32) + (4 * ((v + 0) - (v + 0) / 32 * 32))) + (((u + 0) - (u + 0) / 32 * 32) / 8)) 4095 4095)) ?_
    exact q_Ru_ret rfl rfl
  show q_Ru _ _ _ (50, [(5, .int 0), (4, .int ((v + 0) - (v + 0) / 32 * 32)), (3, .int ((u + 0) - (u + 0) / 32 * 32)), (0, .ref 67), (1, .int u), (2, .int v)], [.int 0], (q_cX (q_rA pix smp tr a16 a17 a21 a22) (q_rI t14 t19 p F left dn ins) (q_rJ y), 40, 26520)) _
  refine q_Ru_seg (g2 := (58, [(6, .int 0), (5, .int 0), (4, .int ((v + 0) - (v + 0) / 32 * 32)), (3, .int ((u + 0) - (u + 0) / 32 * 32)), (0, .ref 67), (1, .int u), (2, .int v)], [.int 0], (q_cX (q_rA pix smp tr a16 a17 a21 a22) (q_rI t14 t19 p F left dn ins) (q_rJ y), 40, 26520))) 5 (fun _ _ => rfl) ?_
  refine q_Ru_seg (g2 := (100, [(6, .int 0), (5, .int 0), (4, .int ((v + 0) - (v + 0) / 32 * 32)), (3, .int ((u + 0) - (u + 0) / 32 * 32)), (0, .ref 67), (1, .int u), (2, .int v)], [.int (((0 : Int32) + (8 * (((v + 0) - (v + 0) / 32 * 32) / 8))) + (((u + 0) - (u + 0) / 32 * 32) / 4)), .ref 67], (q_cX (q_rA pix smp tr a16 a17 a21 a22) (q_rI t14 t19 p F left dn ins) (q_rJ y), 40, 26520))) 13 (fun _ _ => rfl) ?_
  refine q_Ru_call (v := (some (.int 0))) (h2 := (q_cX (q_rA pix smp tr a16 a17 a21 a22) (q_rI t14 t19 p F left dn ins) (q_rJ y), 40, 26520)) rfl rfl ?_ ?_
  · refine q_Ca_of (Nat.le_of_ble_eq_true rfl) ?_
    refine q_Ru_seg (g2 := (9, [(0, .ref 67), (1, .int (((0 : Int32) + (8 * (((v + 0) - (v + 0) / 32 * 32) / 8))) + (((u + 0) - (u + 0) / 32 * 32) / 4)))], [.int ((((0 : Int32) + (8 * (((v + 0) - (v + 0) / 32 * 32) / 8))) + (((u + 0) - (u + 0) / 32 * 32) / 4)) &&& 4095), .ref 68], (q_cX (q_rA pix smp tr a16 a17 a21 a22) (q_rI t14 t19 p F left dn ins) (q_rJ y), 40, 26520))) 5 (fun _ _ => rfl) ?_
    refine q_Ru_rsT (g2 := (10, [(0, .ref 67), (1, .int (((0 : Int32) + (8 * (((v + 0) - (v + 0) / 32 * 32) / 8))) + (((u + 0) - (u + 0) / 32 * 32) / 4)))], [.int 0], (q_cX (q_rA pix smp tr a16 a17 a21 a22) (q_rI t14 t19 p F left dn ins) (q_rJ y), 40, 26520))) rfl rfl (q_in_bd (x := (((0 : Int32) + (8 * (((v + 0) - (v + 0) / 32 * 32) / 8))) + (((u + 0) - (u + 0) / 32 * 32) / 4)) &&& 4095) (n := 4096) (U := 4095) (L := 0) (q_and_lo (((0 : Int32) + (8 * (((v + 0) - (v + 0) / 32 * 32) / 8))) + (((u + 0) - (u + 0) / 32 * 32) / 4)) 4095) (q_and_hi (((0 : Int32) + (8 * (((v + 0) - (v + 0) / 32 * 32) / 8))) + (((u + 0) - (u + 0) / 32 * 32) / 4)) 4095 4095)) ?_
    exact q_Ru_ret rfl rfl
  show q_Ru _ _ _ (103, [(6, .int 0), (5, .int 0), (4, .int ((v + 0) - (v + 0) / 32 * 32)), (3, .int ((u + 0) - (u + 0) / 32 * 32)), (0, .ref 67), (1, .int u), (2, .int v)], [.int 0], (q_cX (q_rA pix smp tr a16 a17 a21 a22) (q_rI t14 t19 p F left dn ins) (q_rJ y), 40, 26520)) _
  refine q_Ru_seg (g2 := (116, [(7, .int 0), (6, .int 0), (5, .int 0), (4, .int ((v + 0) - (v + 0) / 32 * 32)), (3, .int ((u + 0) - (u + 0) / 32 * 32)), (0, .ref 67), (1, .int u), (2, .int v)], [.int 0, .int 256, .ref 67], (q_cX (q_rA pix smp tr a16 a17 a21 a22) (q_rI t14 t19 p F left dn ins) (q_rJ y), 40, 26520))) 7 (fun _ _ => rfl) ?_
  refine q_Ru_seg (g2 := (129, [(7, .int 0), (6, .int 0), (5, .int 0), (4, .int ((v + 0) - (v + 0) / 32 * 32)), (3, .int ((u + 0) - (u + 0) / 32 * 32)), (0, .ref 67), (1, .int u), (2, .int v)], [.int ((0 : Int32) + (((v + 0) - (v + 0) / 32 * 32) - ((v + 0) - (v + 0) / 32 * 32) / 8 * 8)), .ref 67], (q_cX (q_rA pix smp tr a16 a17 a21 a22) (q_rI t14 t19 p F left dn ins) (q_rJ y), 40, 26520))) 9 (fun _ _ => rfl) ?_
  refine q_Ru_call (v := (some (.int 0))) (h2 := (q_cX (q_rA pix smp tr a16 a17 a21 a22) (q_rI t14 t19 p F left dn ins) (q_rJ y), 40, 26520)) rfl rfl ?_ ?_
  · refine q_Ca_of (Nat.le_of_ble_eq_true rfl) ?_
    refine q_Ru_seg (g2 := (9, [(0, .ref 67), (1, .int ((0 : Int32) + (((v + 0) - (v + 0) / 32 * 32) - ((v + 0) - (v + 0) / 32 * 32) / 8 * 8)))], [.int (((0 : Int32) + (((v + 0) - (v + 0) / 32 * 32) - ((v + 0) - (v + 0) / 32 * 32) / 8 * 8)) &&& 4095), .ref 68], (q_cX (q_rA pix smp tr a16 a17 a21 a22) (q_rI t14 t19 p F left dn ins) (q_rJ y), 40, 26520))) 5 (fun _ _ => rfl) ?_
    refine q_Ru_rsT (g2 := (10, [(0, .ref 67), (1, .int ((0 : Int32) + (((v + 0) - (v + 0) / 32 * 32) - ((v + 0) - (v + 0) / 32 * 32) / 8 * 8)))], [.int 0], (q_cX (q_rA pix smp tr a16 a17 a21 a22) (q_rI t14 t19 p F left dn ins) (q_rJ y), 40, 26520))) rfl rfl (q_in_bd (x := ((0 : Int32) + (((v + 0) - (v + 0) / 32 * 32) - ((v + 0) - (v + 0) / 32 * 32) / 8 * 8)) &&& 4095) (n := 4096) (U := 4095) (L := 0) (q_and_lo ((0 : Int32) + (((v + 0) - (v + 0) / 32 * 32) - ((v + 0) - (v + 0) / 32 * 32) / 8 * 8)) 4095) (q_and_hi ((0 : Int32) + (((v + 0) - (v + 0) / 32 * 32) - ((v + 0) - (v + 0) / 32 * 32) / 8 * 8)) 4095 4095)) ?_
    exact q_Ru_ret rfl rfl
  show q_Ru _ _ _ (132, [(7, .int 0), (6, .int 0), (5, .int 0), (4, .int ((v + 0) - (v + 0) / 32 * 32)), (3, .int ((u + 0) - (u + 0) / 32 * 32)), (0, .ref 67), (1, .int u), (2, .int v)], [.int 0], (q_cX (q_rA pix smp tr a16 a17 a21 a22) (q_rI t14 t19 p F left dn ins) (q_rJ y), 40, 26520)) _
  refine q_Ru_seg (g2 := (138, [(7, .int 0), (6, .int 0), (5, .int 0), (4, .int ((v + 0) - (v + 0) / 32 * 32)), (3, .int ((u + 0) - (u + 0) / 32 * 32)), (0, .ref 67), (1, .int u), (2, .int v)], [.int ((0 : Int32) >>> (((3 : Int32) - (((u + 0) - (u + 0) / 32 * 32) - ((u + 0) - (u + 0) / 32 * 32) / 4 * 4)) &&& 31))], (q_cX (q_rA pix smp tr a16 a17 a21 a22) (q_rI t14 t19 p F left dn ins) (q_rJ y), 40, 26520))) 6 (fun _ _ => rfl) ?_
  rw [q_shr0]
  refine q_Ru_seg (g2 := (140, [(7, .int 0), (6, .int 0), (5, .int 0), (4, .int ((v + 0) - (v + 0) / 32 * 32)), (3, .int ((u + 0) - (u + 0) / 32 * 32)), (0, .ref 67), (1, .int u), (2, .int v)], [.int 0], (q_cX (q_rA pix smp tr a16 a17 a21 a22) (q_rI t14 t19 p F left dn ins) (q_rJ y), 40, 26520))) 2 (fun _ _ => rfl) ?_
  exact q_Ru_ret rfl rfl
set_option maxHeartbeats 4000000 in
theorem q_p_spritesAt (pix smp tr a16 a17 a21 a22 : Nat → Int32) (t14 t19 p F left dn ins : Int32) (y : Int64) (u v : Int32) : q_Ca q_TB0 3 122 [.ref 67, .int u, .int v] (q_cX (q_rA pix smp tr a16 a17 a21 a22) (q_rI t14 t19 p F left dn ins) (q_rJ y), 40, 26520) (.inl (some (.int 0)), (q_cX (q_rA pix smp tr a16 a17 a21 a22) (q_rI t14 t19 p F left dn ins) (q_rJ y), 40, 26520)) := by
  refine q_Ca_of (Nat.le_of_ble_eq_true rfl) ?_
  refine q_Ru_seg (g2 := (16, [(4, .int 0), (3, .int 0), (0, .ref 67), (1, .int u), (2, .int v)], [.int 0, .int 18, .ref 67], (q_cX (q_rA pix smp tr a16 a17 a21 a22) (q_rI t14 t19 p F left dn ins) (q_rJ y), 40, 26520))) 10 (fun _ _ => rfl) ?_
  refine q_Ru_call (v := (some (.int 0))) (h2 := (q_cX (q_rA pix smp tr a16 a17 a21 a22) (q_rI t14 t19 p F left dn ins) (q_rJ y), 40, 26520)) rfl rfl ?_ ?_
  · refine q_Ca_of (Nat.le_of_ble_eq_true rfl) ?_
    refine q_Ru_seg (g2 := (16, [(0, .ref 67), (1, .int 18), (2, .int 0)], [.int 0], (q_cX (q_rA pix smp tr a16 a17 a21 a22) (q_rI t14 t19 p F left dn ins) (q_rJ y), 40, 26520))) 9 (fun _ _ => rfl) ?_
    refine q_Ru_seg (g2 := (24, [(0, .ref 67), (1, .int 18), (2, .int 0)], [.int 0], (q_cX (q_rA pix smp tr a16 a17 a21 a22) (q_rI t14 t19 p F left dn ins) (q_rJ y), 40, 26520))) 5 (fun _ _ => rfl) ?_
    exact q_Ru_ret rfl rfl
  show q_Ru _ _ _ (19, [(4, .int 0), (3, .int 0), (0, .ref 67), (1, .int u), (2, .int v)], [.int 0], (q_cX (q_rA pix smp tr a16 a17 a21 a22) (q_rI t14 t19 p F left dn ins) (q_rJ y), 40, 26520)) _
  refine q_Ru_seg (g2 := (32, [(5, .int 0), (4, .int 0), (3, .int 0), (0, .ref 67), (1, .int u), (2, .int v)], [.int 0, .int u], (q_cX (q_rA pix smp tr a16 a17 a21 a22) (q_rI t14 t19 p F left dn ins) (q_rJ y), 40, 26520))) 8 (fun _ _ => rfl) ?_
  refine q_Ru_seg (g2 := (49, [(6, .int ((u - 0) >>> (0 &&& 31))), (5, .int 0), (4, .int 0), (3, .int 0), (0, .ref 67), (1, .int u), (2, .int v)], [.int 0, .int v], (q_cX (q_rA pix smp tr a16 a17 a21 a22) (q_rI t14 t19 p F left dn ins) (q_rJ y), 40, 26520))) 11 (fun _ _ => rfl) ?_
  refine q_Ru_seg (g2 := (60, [(7, .int ((v - 0) >>> (0 &&& 31))), (6, .int ((u - 0) >>> (0 &&& 31))), (5, .int 0), (4, .int 0), (3, .int 0), (0, .ref 67), (1, .int u), (2, .int v)], [.int 0, .int 17, .ref 67], (q_cX (q_rA pix smp tr a16 a17 a21 a22) (q_rI t14 t19 p F left dn ins) (q_rJ y), 40, 26520))) 7 (fun _ _ => rfl) ?_
  refine q_Ru_call (v := (some (.int 0))) (h2 := (q_cX (q_rA pix smp tr a16 a17 a21 a22) (q_rI t14 t19 p F left dn ins) (q_rJ y), 40, 26520)) rfl rfl ?_ ?_
  · refine q_Ca_of (Nat.le_of_ble_eq_true rfl) ?_
    refine q_Ru_seg (g2 := (16, [(0, .ref 67), (1, .int 17), (2, .int 0)], [.int 0], (q_cX (q_rA pix smp tr a16 a17 a21 a22) (q_rI t14 t19 p F left dn ins) (q_rJ y), 40, 26520))) 9 (fun _ _ => rfl) ?_
    refine q_Ru_seg (g2 := (24, [(0, .ref 67), (1, .int 17), (2, .int 0)], [.int 0], (q_cX (q_rA pix smp tr a16 a17 a21 a22) (q_rI t14 t19 p F left dn ins) (q_rJ y), 40, 26520))) 5 (fun _ _ => rfl) ?_
    exact q_Ru_ret rfl rfl
  show q_Ru _ _ _ (63, [(7, .int ((v - 0) >>> (0 &&& 31))), (6, .int ((u - 0) >>> (0 &&& 31))), (5, .int 0), (4, .int 0), (3, .int 0), (0, .ref 67), (1, .int u), (2, .int v)], [.int 0], (q_cX (q_rA pix smp tr a16 a17 a21 a22) (q_rI t14 t19 p F left dn ins) (q_rJ y), 40, 26520)) _
  refine q_Ru_seg (g2 := (16, [(4, .int 1), (7, .int ((v - 0) >>> (0 &&& 31))), (6, .int ((u - 0) >>> (0 &&& 31))), (5, .int 0), (3, .int 0), (0, .ref 67), (1, .int u), (2, .int v)], [.int 1, .int 18, .ref 67], (q_cX (q_rA pix smp tr a16 a17 a21 a22) (q_rI t14 t19 p F left dn ins) (q_rJ y), 40, 26520))) 10 (fun _ _ => rfl) ?_
  refine q_Ru_call (v := (some (.int 0))) (h2 := (q_cX (q_rA pix smp tr a16 a17 a21 a22) (q_rI t14 t19 p F left dn ins) (q_rJ y), 40, 26520)) rfl rfl ?_ ?_
  · refine q_Ca_of (Nat.le_of_ble_eq_true rfl) ?_
    refine q_Ru_seg (g2 := (16, [(0, .ref 67), (1, .int 18), (2, .int 1)], [.int 0], (q_cX (q_rA pix smp tr a16 a17 a21 a22) (q_rI t14 t19 p F left dn ins) (q_rJ y), 40, 26520))) 9 (fun _ _ => rfl) ?_
    refine q_Ru_seg (g2 := (24, [(0, .ref 67), (1, .int 18), (2, .int 1)], [.int 0], (q_cX (q_rA pix smp tr a16 a17 a21 a22) (q_rI t14 t19 p F left dn ins) (q_rJ y), 40, 26520))) 5 (fun _ _ => rfl) ?_
    exact q_Ru_ret rfl rfl
  show q_Ru _ _ _ (19, [(4, .int 1), (7, .int ((v - 0) >>> (0 &&& 31))), (6, .int ((u - 0) >>> (0 &&& 31))), (5, .int 0), (3, .int 0), (0, .ref 67), (1, .int u), (2, .int v)], [.int 0], (q_cX (q_rA pix smp tr a16 a17 a21 a22) (q_rI t14 t19 p F left dn ins) (q_rJ y), 40, 26520)) _
  refine q_Ru_seg (g2 := (32, [(5, .int 0), (4, .int 1), (7, .int ((v - 0) >>> (0 &&& 31))), (6, .int ((u - 0) >>> (0 &&& 31))), (3, .int 0), (0, .ref 67), (1, .int u), (2, .int v)], [.int 0, .int u], (q_cX (q_rA pix smp tr a16 a17 a21 a22) (q_rI t14 t19 p F left dn ins) (q_rJ y), 40, 26520))) 8 (fun _ _ => rfl) ?_
  refine q_Ru_seg (g2 := (49, [(6, .int ((u - 0) >>> (0 &&& 31))), (5, .int 0), (4, .int 1), (7, .int ((v - 0) >>> (0 &&& 31))), (3, .int 0), (0, .ref 67), (1, .int u), (2, .int v)], [.int 0, .int v], (q_cX (q_rA pix smp tr a16 a17 a21 a22) (q_rI t14 t19 p F left dn ins) (q_rJ y), 40, 26520))) 11 (fun _ _ => rfl) ?_
  refine q_Ru_seg (g2 := (60, [(7, .int ((v - 0) >>> (0 &&& 31))), (6, .int ((u - 0) >>> (0 &&& 31))), (5, .int 0), (4, .int 1), (3, .int 0), (0, .ref 67), (1, .int u), (2, .int v)], [.int 1, .int 17, .ref 67], (q_cX (q_rA pix smp tr a16 a17 a21 a22) (q_rI t14 t19 p F left dn ins) (q_rJ y), 40, 26520))) 7 (fun _ _ => rfl) ?_
  refine q_Ru_call (v := (some (.int 0))) (h2 := (q_cX (q_rA pix smp tr a16 a17 a21 a22) (q_rI t14 t19 p F left dn ins) (q_rJ y), 40, 26520)) rfl rfl ?_ ?_
  · refine q_Ca_of (Nat.le_of_ble_eq_true rfl) ?_
    refine q_Ru_seg (g2 := (16, [(0, .ref 67), (1, .int 17), (2, .int 1)], [.int 0], (q_cX (q_rA pix smp tr a16 a17 a21 a22) (q_rI t14 t19 p F left dn ins) (q_rJ y), 40, 26520))) 9 (fun _ _ => rfl) ?_
    refine q_Ru_seg (g2 := (24, [(0, .ref 67), (1, .int 17), (2, .int 1)], [.int 0], (q_cX (q_rA pix smp tr a16 a17 a21 a22) (q_rI t14 t19 p F left dn ins) (q_rJ y), 40, 26520))) 5 (fun _ _ => rfl) ?_
    exact q_Ru_ret rfl rfl
  show q_Ru _ _ _ (63, [(7, .int ((v - 0) >>> (0 &&& 31))), (6, .int ((u - 0) >>> (0 &&& 31))), (5, .int 0), (4, .int 1), (3, .int 0), (0, .ref 67), (1, .int u), (2, .int v)], [.int 0], (q_cX (q_rA pix smp tr a16 a17 a21 a22) (q_rI t14 t19 p F left dn ins) (q_rJ y), 40, 26520)) _
  refine q_Ru_seg (g2 := (16, [(4, .int 2), (7, .int ((v - 0) >>> (0 &&& 31))), (6, .int ((u - 0) >>> (0 &&& 31))), (5, .int 0), (3, .int 0), (0, .ref 67), (1, .int u), (2, .int v)], [.int 2, .int 18, .ref 67], (q_cX (q_rA pix smp tr a16 a17 a21 a22) (q_rI t14 t19 p F left dn ins) (q_rJ y), 40, 26520))) 10 (fun _ _ => rfl) ?_
  refine q_Ru_call (v := (some (.int 0))) (h2 := (q_cX (q_rA pix smp tr a16 a17 a21 a22) (q_rI t14 t19 p F left dn ins) (q_rJ y), 40, 26520)) rfl rfl ?_ ?_
  · refine q_Ca_of (Nat.le_of_ble_eq_true rfl) ?_
    refine q_Ru_seg (g2 := (16, [(0, .ref 67), (1, .int 18), (2, .int 2)], [.int 0], (q_cX (q_rA pix smp tr a16 a17 a21 a22) (q_rI t14 t19 p F left dn ins) (q_rJ y), 40, 26520))) 9 (fun _ _ => rfl) ?_
    refine q_Ru_seg (g2 := (24, [(0, .ref 67), (1, .int 18), (2, .int 2)], [.int 0], (q_cX (q_rA pix smp tr a16 a17 a21 a22) (q_rI t14 t19 p F left dn ins) (q_rJ y), 40, 26520))) 5 (fun _ _ => rfl) ?_
    exact q_Ru_ret rfl rfl
  show q_Ru _ _ _ (19, [(4, .int 2), (7, .int ((v - 0) >>> (0 &&& 31))), (6, .int ((u - 0) >>> (0 &&& 31))), (5, .int 0), (3, .int 0), (0, .ref 67), (1, .int u), (2, .int v)], [.int 0], (q_cX (q_rA pix smp tr a16 a17 a21 a22) (q_rI t14 t19 p F left dn ins) (q_rJ y), 40, 26520)) _
  refine q_Ru_seg (g2 := (32, [(5, .int 0), (4, .int 2), (7, .int ((v - 0) >>> (0 &&& 31))), (6, .int ((u - 0) >>> (0 &&& 31))), (3, .int 0), (0, .ref 67), (1, .int u), (2, .int v)], [.int 0, .int u], (q_cX (q_rA pix smp tr a16 a17 a21 a22) (q_rI t14 t19 p F left dn ins) (q_rJ y), 40, 26520))) 8 (fun _ _ => rfl) ?_
  refine q_Ru_seg (g2 := (49, [(6, .int ((u - 0) >>> (0 &&& 31))), (5, .int 0), (4, .int 2), (7, .int ((v - 0) >>> (0 &&& 31))), (3, .int 0), (0, .ref 67), (1, .int u), (2, .int v)], [.int 0, .int v], (q_cX (q_rA pix smp tr a16 a17 a21 a22) (q_rI t14 t19 p F left dn ins) (q_rJ y), 40, 26520))) 11 (fun _ _ => rfl) ?_
  refine q_Ru_seg (g2 := (60, [(7, .int ((v - 0) >>> (0 &&& 31))), (6, .int ((u - 0) >>> (0 &&& 31))), (5, .int 0), (4, .int 2), (3, .int 0), (0, .ref 67), (1, .int u), (2, .int v)], [.int 2, .int 17, .ref 67], (q_cX (q_rA pix smp tr a16 a17 a21 a22) (q_rI t14 t19 p F left dn ins) (q_rJ y), 40, 26520))) 7 (fun _ _ => rfl) ?_
  refine q_Ru_call (v := (some (.int 0))) (h2 := (q_cX (q_rA pix smp tr a16 a17 a21 a22) (q_rI t14 t19 p F left dn ins) (q_rJ y), 40, 26520)) rfl rfl ?_ ?_
  · refine q_Ca_of (Nat.le_of_ble_eq_true rfl) ?_
    refine q_Ru_seg (g2 := (16, [(0, .ref 67), (1, .int 17), (2, .int 2)], [.int 0], (q_cX (q_rA pix smp tr a16 a17 a21 a22) (q_rI t14 t19 p F left dn ins) (q_rJ y), 40, 26520))) 9 (fun _ _ => rfl) ?_
    refine q_Ru_seg (g2 := (24, [(0, .ref 67), (1, .int 17), (2, .int 2)], [.int 0], (q_cX (q_rA pix smp tr a16 a17 a21 a22) (q_rI t14 t19 p F left dn ins) (q_rJ y), 40, 26520))) 5 (fun _ _ => rfl) ?_
    exact q_Ru_ret rfl rfl
  show q_Ru _ _ _ (63, [(7, .int ((v - 0) >>> (0 &&& 31))), (6, .int ((u - 0) >>> (0 &&& 31))), (5, .int 0), (4, .int 2), (3, .int 0), (0, .ref 67), (1, .int u), (2, .int v)], [.int 0], (q_cX (q_rA pix smp tr a16 a17 a21 a22) (q_rI t14 t19 p F left dn ins) (q_rJ y), 40, 26520)) _
  refine q_Ru_seg (g2 := (16, [(4, .int 3), (7, .int ((v - 0) >>> (0 &&& 31))), (6, .int ((u - 0) >>> (0 &&& 31))), (5, .int 0), (3, .int 0), (0, .ref 67), (1, .int u), (2, .int v)], [.int 3, .int 18, .ref 67], (q_cX (q_rA pix smp tr a16 a17 a21 a22) (q_rI t14 t19 p F left dn ins) (q_rJ y), 40, 26520))) 10 (fun _ _ => rfl) ?_
  refine q_Ru_call (v := (some (.int 0))) (h2 := (q_cX (q_rA pix smp tr a16 a17 a21 a22) (q_rI t14 t19 p F left dn ins) (q_rJ y), 40, 26520)) rfl rfl ?_ ?_
  · refine q_Ca_of (Nat.le_of_ble_eq_true rfl) ?_
    refine q_Ru_seg (g2 := (16, [(0, .ref 67), (1, .int 18), (2, .int 3)], [.int 0], (q_cX (q_rA pix smp tr a16 a17 a21 a22) (q_rI t14 t19 p F left dn ins) (q_rJ y), 40, 26520))) 9 (fun _ _ => rfl) ?_
    refine q_Ru_seg (g2 := (24, [(0, .ref 67), (1, .int 18), (2, .int 3)], [.int 0], (q_cX (q_rA pix smp tr a16 a17 a21 a22) (q_rI t14 t19 p F left dn ins) (q_rJ y), 40, 26520))) 5 (fun _ _ => rfl) ?_
    exact q_Ru_ret rfl rfl
  show q_Ru _ _ _ (19, [(4, .int 3), (7, .int ((v - 0) >>> (0 &&& 31))), (6, .int ((u - 0) >>> (0 &&& 31))), (5, .int 0), (3, .int 0), (0, .ref 67), (1, .int u), (2, .int v)], [.int 0], (q_cX (q_rA pix smp tr a16 a17 a21 a22) (q_rI t14 t19 p F left dn ins) (q_rJ y), 40, 26520)) _
  refine q_Ru_seg (g2 := (32, [(5, .int 0), (4, .int 3), (7, .int ((v - 0) >>> (0 &&& 31))), (6, .int ((u - 0) >>> (0 &&& 31))), (3, .int 0), (0, .ref 67), (1, .int u), (2, .int v)], [.int 0, .int u], (q_cX (q_rA pix smp tr a16 a17 a21 a22) (q_rI t14 t19 p F left dn ins) (q_rJ y), 40, 26520))) 8 (fun _ _ => rfl) ?_
  refine q_Ru_seg (g2 := (49, [(6, .int ((u - 0) >>> (0 &&& 31))), (5, .int 0), (4, .int 3), (7, .int ((v - 0) >>> (0 &&& 31))), (3, .int 0), (0, .ref 67), (1, .int u), (2, .int v)], [.int 0, .int v], (q_cX (q_rA pix smp tr a16 a17 a21 a22) (q_rI t14 t19 p F left dn ins) (q_rJ y), 40, 26520))) 11 (fun _ _ => rfl) ?_
  refine q_Ru_seg (g2 := (60, [(7, .int ((v - 0) >>> (0 &&& 31))), (6, .int ((u - 0) >>> (0 &&& 31))), (5, .int 0), (4, .int 3), (3, .int 0), (0, .ref 67), (1, .int u), (2, .int v)], [.int 3, .int 17, .ref 67], (q_cX (q_rA pix smp tr a16 a17 a21 a22) (q_rI t14 t19 p F left dn ins) (q_rJ y), 40, 26520))) 7 (fun _ _ => rfl) ?_
  refine q_Ru_call (v := (some (.int 0))) (h2 := (q_cX (q_rA pix smp tr a16 a17 a21 a22) (q_rI t14 t19 p F left dn ins) (q_rJ y), 40, 26520)) rfl rfl ?_ ?_
  · refine q_Ca_of (Nat.le_of_ble_eq_true rfl) ?_
    refine q_Ru_seg (g2 := (16, [(0, .ref 67), (1, .int 17), (2, .int 3)], [.int 0], (q_cX (q_rA pix smp tr a16 a17 a21 a22) (q_rI t14 t19 p F left dn ins) (q_rJ y), 40, 26520))) 9 (fun _ _ => rfl) ?_
    refine q_Ru_seg (g2 := (24, [(0, .ref 67), (1, .int 17), (2, .int 3)], [.int 0], (q_cX (q_rA pix smp tr a16 a17 a21 a22) (q_rI t14 t19 p F left dn ins) (q_rJ y), 40, 26520))) 5 (fun _ _ => rfl) ?_
    exact q_Ru_ret rfl rfl
  show q_Ru _ _ _ (63, [(7, .int ((v - 0) >>> (0 &&& 31))), (6, .int ((u - 0) >>> (0 &&& 31))), (5, .int 0), (4, .int 3), (3, .int 0), (0, .ref 67), (1, .int u), (2, .int v)], [.int 0], (q_cX (q_rA pix smp tr a16 a17 a21 a22) (q_rI t14 t19 p F left dn ins) (q_rJ y), 40, 26520)) _
  refine q_Ru_seg (g2 := (144, [(4, .int 4), (7, .int ((v - 0) >>> (0 &&& 31))), (6, .int ((u - 0) >>> (0 &&& 31))), (5, .int 0), (3, .int 0), (0, .ref 67), (1, .int u), (2, .int v)], [.int 0], (q_cX (q_rA pix smp tr a16 a17 a21 a22) (q_rI t14 t19 p F left dn ins) (q_rJ y), 40, 26520))) 8 (fun _ _ => rfl) ?_
  exact q_Ru_ret rfl rfl
set_option maxHeartbeats 4000000 in
theorem q_p_noteHits (pix smp tr a16 a17 a21 a22 : Nat → Int32) (t14 t19 p F left dn ins : Int32) (y : Int64) : q_Ca q_TB0 3 124 [.ref 67, .int 0, .int 0] (q_cX (q_rA pix smp tr a16 a17 a21 a22) (q_rI t14 t19 p F left dn ins) (q_rJ y), 40, 26520) (.inl none, (q_cX (q_rA pix smp tr a16 a17 a21 a22) (q_rI t14 t19 p F left dn ins) (q_rJ y), 40, 26520)) := by
  refine q_Ca_of (Nat.le_of_ble_eq_true rfl) ?_
  refine q_Ru_seg (g2 := (1, [(0, .ref 67), (1, .int 0), (2, .int 0)], [.int 0], (q_cX (q_rA pix smp tr a16 a17 a21 a22) (q_rI t14 t19 p F left dn ins) (q_rJ y), 40, 26520))) 1 (fun _ _ => rfl) ?_
  refine q_Ru_call (v := (some (.int 0))) (h2 := (q_cX (q_rA pix smp tr a16 a17 a21 a22) (q_rI t14 t19 p F left dn ins) (q_rJ y), 40, 26520)) rfl rfl ?_ ?_
  · refine q_Ca_of (Nat.le_of_ble_eq_true rfl) ?_
    refine q_Ru_seg (g2 := (52, [(0, .int 0)], [.int 0], (q_cX (q_rA pix smp tr a16 a17 a21 a22) (q_rI t14 t19 p F left dn ins) (q_rJ y), 40, 26520))) 41 (fun _ _ => rfl) ?_
    exact q_Ru_ret rfl rfl
  show q_Ru _ _ _ (4, [(0, .ref 67), (1, .int 0), (2, .int 0)], [.int 0], (q_cX (q_rA pix smp tr a16 a17 a21 a22) (q_rI t14 t19 p F left dn ins) (q_rJ y), 40, 26520)) _
  refine q_Ru_seg (g2 := (21, [(0, .ref 67), (1, .int 0), (2, .int 0)], [.int 0, .ref 67], (q_cX (q_rA pix smp tr a16 a17 a21 a22) (q_rI t14 t19 p F left dn ins) (q_rJ y), 40, 26520))) 4 (fun _ _ => rfl) ?_
  refine q_Ru_call (v := (some (.int 0))) (h2 := (q_cX (q_rA pix smp tr a16 a17 a21 a22) (q_rI t14 t19 p F left dn ins) (q_rJ y), 40, 26520)) rfl rfl ?_ ?_
  · refine q_Ca_of (Nat.le_of_ble_eq_true rfl) ?_
    refine q_Ru_seg (g2 := (6, [(0, .ref 67), (1, .int 0)], [.int 0], (q_cX (q_rA pix smp tr a16 a17 a21 a22) (q_rI t14 t19 p F left dn ins) (q_rJ y), 40, 26520))) 4 (fun _ _ => rfl) ?_
    refine q_Ru_seg (g2 := (33, [(0, .ref 67), (1, .int 0)], [.int 0], (q_cX (q_rA pix smp tr a16 a17 a21 a22) (q_rI t14 t19 p F left dn ins) (q_rJ y), 40, 26520))) 6 (fun _ _ => rfl) ?_
    exact q_Ru_ret rfl rfl
  show q_Ru _ _ _ (24, [(0, .ref 67), (1, .int 0), (2, .int 0)], [.int 0], (q_cX (q_rA pix smp tr a16 a17 a21 a22) (q_rI t14 t19 p F left dn ins) (q_rJ y), 40, 26520)) _
  refine q_Ru_seg (g2 := (38, [(0, .ref 67), (1, .int 0), (2, .int 0)], [], (q_cX (q_rA pix smp tr a16 a17 a21 a22) (q_rI t14 t19 p F left dn ins) (q_rJ y), 40, 26520))) 1 (fun _ _ => rfl) ?_
  exact q_Ru_ret rfl rfl
set_option maxHeartbeats 4000000 in
theorem q_p_colourOf (pix smp tr a16 a17 a21 a22 : Nat → Int32) (t14 t19 p F left dn ins : Int32) (y : Int64) : q_Ca q_TB0 3 123 [.ref 67, .int 0, .int 0] (q_cX (q_rA pix smp tr a16 a17 a21 a22) (q_rI t14 t19 p F left dn ins) (q_rJ y), 40, 26520) (.inl (some (.int 0)), (q_cX (q_rA pix smp tr a16 a17 a21 a22) (q_rI t14 t19 p F left dn ins) (q_rJ y), 40, 26520)) := by
  refine q_Ca_of (Nat.le_of_ble_eq_true rfl) ?_
  refine q_Ru_seg (g2 := (88, [(3, .int 4), (0, .ref 67), (1, .int 0), (2, .int 0)], [.int 3, .ref 69], (q_cX (q_rA pix smp tr a16 a17 a21 a22) (q_rI t14 t19 p F left dn ins) (q_rJ y), 40, 26520))) 60 (fun _ _ => rfl) ?_
  refine q_Ru_seg (g2 := (89, [(3, .int 4), (0, .ref 67), (1, .int 0), (2, .int 0)], [.int 0], (q_cX (q_rA pix smp tr a16 a17 a21 a22) (q_rI t14 t19 p F left dn ins) (q_rJ y), 40, 26520))) 1 (fun _ _ => rfl) ?_
  exact q_Ru_ret rfl rfl
set_option maxHeartbeats 4000000 in
theorem q_p_draw (pix smp tr a16 a17 a21 a22 : Nat → Int32) (t14 t19 p F left dn ins : Int32) (y : Int64) (pos col lin pq : Int32) (hC : (y - y / 24 * 24).toInt32 = col) (hP : (y - y / 960 * 960).toInt32 = pos) (hL : pos / 24 = lin) (hQ : lg_cmp (y / 960 - y / 960 / 2 * 2) 0 = pq) (c0 : 0 ≤ col.toInt) (c1 : col.toInt ≤ 23) (l0 : 0 ≤ lin.toInt) (l1 : lin.toInt ≤ 39) : ∃ pix2 t14b t19b, q_Ca q_TB0 5 103 [.ref 66, .ref 96] (q_cX (q_rA pix smp tr a16 a17 a21 a22) (q_rI t14 t19 p F left dn ins) (q_rJ y), 40, 26520) (.inl none, (q_cX (q_rA pix2 smp tr a16 a17 a21 a22) (q_rI t14b t19b p F left dn ins) (q_rJ y), 40, 26520)) := by
  cases h136 : decide (lin - 4 < 0) with
  | true =>
    cases h137 : decide (pq = 0) with
    | true =>
      refine ⟨pix, t14 + 1, t19, ?_⟩
      refine q_Ca_of (Nat.le_of_ble_eq_true rfl) ?_
      refine q_Ru_seg (g2 := (1, [(0, .ref 66), (1, .ref 96)], [.ref 66], (q_cX (q_rA pix smp tr a16 a17 a21 a22) (q_rI t14 t19 p F left dn ins) (q_rJ y), 40, 26520))) 1 (fun _ _ => rfl) ?_
      refine q_Ru_call (v := (some (.int pos))) (h2 := (q_cX (q_rA pix smp tr a16 a17 a21 a22) (q_rI t14 t19 p F left dn ins) (q_rJ y), 40, 26520)) rfl rfl ?_ ?_
      · refine q_Ca_of (Nat.le_of_ble_eq_true rfl) ?_
        refine q_Ru_seg (g2 := (4, [(0, .ref 66)], [.long y], (q_cX (q_rA pix smp tr a16 a17 a21 a22) (q_rI t14 t19 p F left dn ins) (q_rJ y), 40, 26520))) 2 (fun _ _ => rfl) ?_
        refine q_Ru_seg (g2 := (9, [(0, .ref 66)], [.int ((y - y / 960 * 960).toInt32)], (q_cX (q_rA pix smp tr a16 a17 a21 a22) (q_rI t14 t19 p F left dn ins) (q_rJ y), 40, 26520))) 3 (fun _ _ => rfl) ?_
        rw [hP]
        exact q_Ru_ret rfl rfl
      show q_Ru _ _ _ (4, [(0, .ref 66), (1, .ref 96)], [.int pos], (q_cX (q_rA pix smp tr a16 a17 a21 a22) (q_rI t14 t19 p F left dn ins) (q_rJ y), 40, 26520)) _
      refine q_Ru_seg (g2 := (7, [(0, .ref 66), (1, .ref 96)], [.int (pos / 24)], (q_cX (q_rA pix smp tr a16 a17 a21 a22) (q_rI t14 t19 p F left dn ins) (q_rJ y), 40, 26520))) 2 (fun _ _ => rfl) ?_
      rw [hL]
      refine q_Ru_seg (g2 := (11, [(2, .int (lin - 4)), (0, .ref 66), (1, .ref 96)], [.ref 66], (q_cX (q_rA pix smp tr a16 a17 a21 a22) (q_rI t14 t19 p F left dn ins) (q_rJ y), 40, 26520))) 4 (fun _ _ => rfl) ?_
      refine q_Ru_call (v := (some (.int col))) (h2 := (q_cX (q_rA pix smp tr a16 a17 a21 a22) (q_rI t14 t19 p F left dn ins) (q_rJ y), 40, 26520)) rfl rfl ?_ ?_
      · refine q_Ca_of (Nat.le_of_ble_eq_true rfl) ?_
        refine q_Ru_seg (g2 := (4, [(0, .ref 66)], [.long y], (q_cX (q_rA pix smp tr a16 a17 a21 a22) (q_rI t14 t19 p F left dn ins) (q_rJ y), 40, 26520))) 2 (fun _ _ => rfl) ?_
        refine q_Ru_seg (g2 := (9, [(0, .ref 66)], [.int ((y - y / 24 * 24).toInt32)], (q_cX (q_rA pix smp tr a16 a17 a21 a22) (q_rI t14 t19 p F left dn ins) (q_rJ y), 40, 26520))) 3 (fun _ _ => rfl) ?_
        rw [hC]
        exact q_Ru_ret rfl rfl
      show q_Ru _ _ _ (14, [(2, .int (lin - 4)), (0, .ref 66), (1, .ref 96)], [.int col], (q_cX (q_rA pix smp tr a16 a17 a21 a22) (q_rI t14 t19 p F left dn ins) (q_rJ y), 40, 26520)) _
      refine q_Ru_seg (g2 := (16, [(3, .int col), (2, .int (lin - 4)), (0, .ref 66), (1, .ref 96)], [.int (lin - 4)], (q_cX (q_rA pix smp tr a16 a17 a21 a22) (q_rI t14 t19 p F left dn ins) (q_rJ y), 40, 26520))) 2 (fun _ _ => rfl) ?_
      refine q_Ru_rsT (g2 := (121, [(3, .int col), (2, .int (lin - 4)), (0, .ref 66), (1, .ref 96)], [], (q_cX (q_rA pix smp tr a16 a17 a21 a22) (q_rI t14 t19 p F left dn ins) (q_rJ y), 40, 26520))) rfl rfl h136 ?_
      refine q_Ru_seg (g2 := (122, [(3, .int col), (2, .int (lin - 4)), (0, .ref 66), (1, .ref 96)], [.ref 66], (q_cX (q_rA pix smp tr a16 a17 a21 a22) (q_rI t14 t19 p F left dn ins) (q_rJ y), 40, 26520))) 1 (fun _ _ => rfl) ?_
      refine q_Ru_call (v := (some (.ref 78))) (h2 := (q_cX (q_rA pix smp tr a16 a17 a21 a22) (q_rI t14 t19 p F left dn ins) (q_rJ y), 40, 26520)) rfl rfl ?_ ?_
      · refine q_Ca_of (Nat.le_of_ble_eq_true rfl) ?_
        refine q_Ru_seg (g2 := (4, [(0, .ref 66)], [.long y], (q_cX (q_rA pix smp tr a16 a17 a21 a22) (q_rI t14 t19 p F left dn ins) (q_rJ y), 40, 26520))) 2 (fun _ _ => rfl) ?_
        refine q_Ru_seg (g2 := (14, [(0, .ref 66)], [.int (lg_cmp ((y / 960) - (y / 960) / 2 * 2) 0)], (q_cX (q_rA pix smp tr a16 a17 a21 a22) (q_rI t14 t19 p F left dn ins) (q_rJ y), 40, 26520))) 6 (fun _ _ => rfl) ?_
        rw [hQ]
        refine q_Ru_rsF (g2 := (17, [(0, .ref 66)], [], (q_cX (q_rA pix smp tr a16 a17 a21 a22) (q_rI t14 t19 p F left dn ins) (q_rJ y), 40, 26520))) rfl rfl (q_d_neT h137) ?_
        refine q_Ru_seg (g2 := (28, [(0, .ref 66)], [.ref 78], (q_cX (q_rA pix smp tr a16 a17 a21 a22) (q_rI t14 t19 p F left dn ins) (q_rJ y), 40, 26520))) 3 (fun _ _ => rfl) ?_
        exact q_Ru_ret rfl rfl
      show q_Ru _ _ _ (125, [(3, .int col), (2, .int (lin - 4)), (0, .ref 66), (1, .ref 96)], [.ref 78], (q_cX (q_rA pix smp tr a16 a17 a21 a22) (q_rI t14 t19 p F left dn ins) (q_rJ y), 40, 26520)) _
      refine q_Ru_seg (g2 := (129, [(3, .int col), (2, .int (lin - 4)), (0, .ref 66), (1, .ref 96)], [.int t14, .ref 78], (q_cX (q_rA pix smp tr a16 a17 a21 a22) (q_rI t14 t19 p F left dn ins) (q_rJ y), 40, 26520))) 2 (fun _ _ => rfl) ?_
      refine q_Ru_seg (g2 := (134, [(3, .int col), (2, .int (lin - 4)), (0, .ref 66), (1, .ref 96)], [], (q_cX (q_rA pix smp tr a16 a17 a21 a22) (q_uI (q_rI t14 t19 p F left dn ins) 14 3 (t14 + 1)) (q_rJ y), 40, 26520))) 3 (fun _ _ => rfl) ?_
      exact q_Ru_ret rfl rfl
    | false =>
      refine ⟨pix, t14, t19 + 1, ?_⟩
      refine q_Ca_of (Nat.le_of_ble_eq_true rfl) ?_
      refine q_Ru_seg (g2 := (1, [(0, .ref 66), (1, .ref 96)], [.ref 66], (q_cX (q_rA pix smp tr a16 a17 a21 a22) (q_rI t14 t19 p F left dn ins) (q_rJ y), 40, 26520))) 1 (fun _ _ => rfl) ?_
      refine q_Ru_call (v := (some (.int pos))) (h2 := (q_cX (q_rA pix smp tr a16 a17 a21 a22) (q_rI t14 t19 p F left dn ins) (q_rJ y), 40, 26520)) rfl rfl ?_ ?_
      · refine q_Ca_of (Nat.le_of_ble_eq_true rfl) ?_
        refine q_Ru_seg (g2 := (4, [(0, .ref 66)], [.long y], (q_cX (q_rA pix smp tr a16 a17 a21 a22) (q_rI t14 t19 p F left dn ins) (q_rJ y), 40, 26520))) 2 (fun _ _ => rfl) ?_
        refine q_Ru_seg (g2 := (9, [(0, .ref 66)], [.int ((y - y / 960 * 960).toInt32)], (q_cX (q_rA pix smp tr a16 a17 a21 a22) (q_rI t14 t19 p F left dn ins) (q_rJ y), 40, 26520))) 3 (fun _ _ => rfl) ?_
        rw [hP]
        exact q_Ru_ret rfl rfl
      show q_Ru _ _ _ (4, [(0, .ref 66), (1, .ref 96)], [.int pos], (q_cX (q_rA pix smp tr a16 a17 a21 a22) (q_rI t14 t19 p F left dn ins) (q_rJ y), 40, 26520)) _
      refine q_Ru_seg (g2 := (7, [(0, .ref 66), (1, .ref 96)], [.int (pos / 24)], (q_cX (q_rA pix smp tr a16 a17 a21 a22) (q_rI t14 t19 p F left dn ins) (q_rJ y), 40, 26520))) 2 (fun _ _ => rfl) ?_
      rw [hL]
      refine q_Ru_seg (g2 := (11, [(2, .int (lin - 4)), (0, .ref 66), (1, .ref 96)], [.ref 66], (q_cX (q_rA pix smp tr a16 a17 a21 a22) (q_rI t14 t19 p F left dn ins) (q_rJ y), 40, 26520))) 4 (fun _ _ => rfl) ?_
      refine q_Ru_call (v := (some (.int col))) (h2 := (q_cX (q_rA pix smp tr a16 a17 a21 a22) (q_rI t14 t19 p F left dn ins) (q_rJ y), 40, 26520)) rfl rfl ?_ ?_
      · refine q_Ca_of (Nat.le_of_ble_eq_true rfl) ?_
        refine q_Ru_seg (g2 := (4, [(0, .ref 66)], [.long y], (q_cX (q_rA pix smp tr a16 a17 a21 a22) (q_rI t14 t19 p F left dn ins) (q_rJ y), 40, 26520))) 2 (fun _ _ => rfl) ?_
        refine q_Ru_seg (g2 := (9, [(0, .ref 66)], [.int ((y - y / 24 * 24).toInt32)], (q_cX (q_rA pix smp tr a16 a17 a21 a22) (q_rI t14 t19 p F left dn ins) (q_rJ y), 40, 26520))) 3 (fun _ _ => rfl) ?_
        rw [hC]
        exact q_Ru_ret rfl rfl
      show q_Ru _ _ _ (14, [(2, .int (lin - 4)), (0, .ref 66), (1, .ref 96)], [.int col], (q_cX (q_rA pix smp tr a16 a17 a21 a22) (q_rI t14 t19 p F left dn ins) (q_rJ y), 40, 26520)) _
      refine q_Ru_seg (g2 := (16, [(3, .int col), (2, .int (lin - 4)), (0, .ref 66), (1, .ref 96)], [.int (lin - 4)], (q_cX (q_rA pix smp tr a16 a17 a21 a22) (q_rI t14 t19 p F left dn ins) (q_rJ y), 40, 26520))) 2 (fun _ _ => rfl) ?_
      refine q_Ru_rsT (g2 := (121, [(3, .int col), (2, .int (lin - 4)), (0, .ref 66), (1, .ref 96)], [], (q_cX (q_rA pix smp tr a16 a17 a21 a22) (q_rI t14 t19 p F left dn ins) (q_rJ y), 40, 26520))) rfl rfl h136 ?_
      refine q_Ru_seg (g2 := (122, [(3, .int col), (2, .int (lin - 4)), (0, .ref 66), (1, .ref 96)], [.ref 66], (q_cX (q_rA pix smp tr a16 a17 a21 a22) (q_rI t14 t19 p F left dn ins) (q_rJ y), 40, 26520))) 1 (fun _ _ => rfl) ?_
      refine q_Ru_call (v := (some (.ref 83))) (h2 := (q_cX (q_rA pix smp tr a16 a17 a21 a22) (q_rI t14 t19 p F left dn ins) (q_rJ y), 40, 26520)) rfl rfl ?_ ?_
      · refine q_Ca_of (Nat.le_of_ble_eq_true rfl) ?_
        refine q_Ru_seg (g2 := (4, [(0, .ref 66)], [.long y], (q_cX (q_rA pix smp tr a16 a17 a21 a22) (q_rI t14 t19 p F left dn ins) (q_rJ y), 40, 26520))) 2 (fun _ _ => rfl) ?_
        refine q_Ru_seg (g2 := (14, [(0, .ref 66)], [.int (lg_cmp ((y / 960) - (y / 960) / 2 * 2) 0)], (q_cX (q_rA pix smp tr a16 a17 a21 a22) (q_rI t14 t19 p F left dn ins) (q_rJ y), 40, 26520))) 6 (fun _ _ => rfl) ?_
        rw [hQ]
        refine q_Ru_rsT (g2 := (24, [(0, .ref 66)], [], (q_cX (q_rA pix smp tr a16 a17 a21 a22) (q_rI t14 t19 p F left dn ins) (q_rJ y), 40, 26520))) rfl rfl (q_d_neF h137) ?_
        refine q_Ru_seg (g2 := (28, [(0, .ref 66)], [.ref 83], (q_cX (q_rA pix smp tr a16 a17 a21 a22) (q_rI t14 t19 p F left dn ins) (q_rJ y), 40, 26520))) 2 (fun _ _ => rfl) ?_
        exact q_Ru_ret rfl rfl
      show q_Ru _ _ _ (125, [(3, .int col), (2, .int (lin - 4)), (0, .ref 66), (1, .ref 96)], [.ref 83], (q_cX (q_rA pix smp tr a16 a17 a21 a22) (q_rI t14 t19 p F left dn ins) (q_rJ y), 40, 26520)) _
      refine q_Ru_seg (g2 := (129, [(3, .int col), (2, .int (lin - 4)), (0, .ref 66), (1, .ref 96)], [.int t19, .ref 83], (q_cX (q_rA pix smp tr a16 a17 a21 a22) (q_rI t14 t19 p F left dn ins) (q_rJ y), 40, 26520))) 2 (fun _ _ => rfl) ?_
      refine q_Ru_seg (g2 := (134, [(3, .int col), (2, .int (lin - 4)), (0, .ref 66), (1, .ref 96)], [], (q_cX (q_rA pix smp tr a16 a17 a21 a22) (q_uI (q_rI t14 t19 p F left dn ins) 19 3 (t19 + 1)) (q_rJ y), 40, 26520))) 3 (fun _ _ => rfl) ?_
      exact q_Ru_ret rfl rfl
  | false =>
    cases h138 : decide (lin - 4 < 32) with
    | true =>
      cases h139 : decide (col < 4) with
      | true =>
        cases h140 : decide (pq = 0) with
        | true =>
          refine ⟨pix, t14 + 1, t19, ?_⟩
          refine q_Ca_of (Nat.le_of_ble_eq_true rfl) ?_
          refine q_Ru_seg (g2 := (1, [(0, .ref 66), (1, .ref 96)], [.ref 66], (q_cX (q_rA pix smp tr a16 a17 a21 a22) (q_rI t14 t19 p F left dn ins) (q_rJ y), 40, 26520))) 1 (fun _ _ => rfl) ?_
          refine q_Ru_call (v := (some (.int pos))) (h2 := (q_cX (q_rA pix smp tr a16 a17 a21 a22) (q_rI t14 t19 p F left dn ins) (q_rJ y), 40, 26520)) rfl rfl ?_ ?_
          · refine q_Ca_of (Nat.le_of_ble_eq_true rfl) ?_
            refine q_Ru_seg (g2 := (4, [(0, .ref 66)], [.long y], (q_cX (q_rA pix smp tr a16 a17 a21 a22) (q_rI t14 t19 p F left dn ins) (q_rJ y), 40, 26520))) 2 (fun _ _ => rfl) ?_
            refine q_Ru_seg (g2 := (9, [(0, .ref 66)], [.int ((y - y / 960 * 960).toInt32)], (q_cX (q_rA pix smp tr a16 a17 a21 a22) (q_rI t14 t19 p F left dn ins) (q_rJ y), 40, 26520))) 3 (fun _ _ => rfl) ?_
            rw [hP]
            exact q_Ru_ret rfl rfl
          show q_Ru _ _ _ (4, [(0, .ref 66), (1, .ref 96)], [.int pos], (q_cX (q_rA pix smp tr a16 a17 a21 a22) (q_rI t14 t19 p F left dn ins) (q_rJ y), 40, 26520)) _
          refine q_Ru_seg (g2 := (7, [(0, .ref 66), (1, .ref 96)], [.int (pos / 24)], (q_cX (q_rA pix smp tr a16 a17 a21 a22) (q_rI t14 t19 p F left dn ins) (q_rJ y), 40, 26520))) 2 (fun _ _ => rfl) ?_
          rw [hL]
          refine q_Ru_seg (g2 := (11, [(2, .int (lin - 4)), (0, .ref 66), (1, .ref 96)], [.ref 66], (q_cX (q_rA pix smp tr a16 a17 a21 a22) (q_rI t14 t19 p F left dn ins) (q_rJ y), 40, 26520))) 4 (fun _ _ => rfl) ?_
          refine q_Ru_call (v := (some (.int col))) (h2 := (q_cX (q_rA pix smp tr a16 a17 a21 a22) (q_rI t14 t19 p F left dn ins) (q_rJ y), 40, 26520)) rfl rfl ?_ ?_
          · refine q_Ca_of (Nat.le_of_ble_eq_true rfl) ?_
            refine q_Ru_seg (g2 := (4, [(0, .ref 66)], [.long y], (q_cX (q_rA pix smp tr a16 a17 a21 a22) (q_rI t14 t19 p F left dn ins) (q_rJ y), 40, 26520))) 2 (fun _ _ => rfl) ?_
            refine q_Ru_seg (g2 := (9, [(0, .ref 66)], [.int ((y - y / 24 * 24).toInt32)], (q_cX (q_rA pix smp tr a16 a17 a21 a22) (q_rI t14 t19 p F left dn ins) (q_rJ y), 40, 26520))) 3 (fun _ _ => rfl) ?_
            rw [hC]
            exact q_Ru_ret rfl rfl
          show q_Ru _ _ _ (14, [(2, .int (lin - 4)), (0, .ref 66), (1, .ref 96)], [.int col], (q_cX (q_rA pix smp tr a16 a17 a21 a22) (q_rI t14 t19 p F left dn ins) (q_rJ y), 40, 26520)) _
          refine q_Ru_seg (g2 := (16, [(3, .int col), (2, .int (lin - 4)), (0, .ref 66), (1, .ref 96)], [.int (lin - 4)], (q_cX (q_rA pix smp tr a16 a17 a21 a22) (q_rI t14 t19 p F left dn ins) (q_rJ y), 40, 26520))) 2 (fun _ _ => rfl) ?_
          refine q_Ru_rsF (g2 := (19, [(3, .int col), (2, .int (lin - 4)), (0, .ref 66), (1, .ref 96)], [], (q_cX (q_rA pix smp tr a16 a17 a21 a22) (q_rI t14 t19 p F left dn ins) (q_rJ y), 40, 26520))) rfl rfl h136 ?_
          refine q_Ru_seg (g2 := (22, [(3, .int col), (2, .int (lin - 4)), (0, .ref 66), (1, .ref 96)], [.int 32, .int (lin - 4)], (q_cX (q_rA pix smp tr a16 a17 a21 a22) (q_rI t14 t19 p F left dn ins) (q_rJ y), 40, 26520))) 2 (fun _ _ => rfl) ?_
          refine q_Ru_rsF (g2 := (25, [(3, .int col), (2, .int (lin - 4)), (0, .ref 66), (1, .ref 96)], [], (q_cX (q_rA pix smp tr a16 a17 a21 a22) (q_rI t14 t19 p F left dn ins) (q_rJ y), 40, 26520))) rfl rfl (q_d_geT h138) ?_
          refine q_Ru_seg (g2 := (27, [(3, .int col), (2, .int (lin - 4)), (0, .ref 66), (1, .ref 96)], [.int 4, .int col], (q_cX (q_rA pix smp tr a16 a17 a21 a22) (q_rI t14 t19 p F left dn ins) (q_rJ y), 40, 26520))) 2 (fun _ _ => rfl) ?_
          refine q_Ru_rsT (g2 := (121, [(3, .int col), (2, .int (lin - 4)), (0, .ref 66), (1, .ref 96)], [], (q_cX (q_rA pix smp tr a16 a17 a21 a22) (q_rI t14 t19 p F left dn ins) (q_rJ y), 40, 26520))) rfl rfl h139 ?_
          refine q_Ru_seg (g2 := (122, [(3, .int col), (2, .int (lin - 4)), (0, .ref 66), (1, .ref 96)], [.ref 66], (q_cX (q_rA pix smp tr a16 a17 a21 a22) (q_rI t14 t19 p F left dn ins) (q_rJ y), 40, 26520))) 1 (fun _ _ => rfl) ?_
          refine q_Ru_call (v := (some (.ref 78))) (h2 := (q_cX (q_rA pix smp tr a16 a17 a21 a22) (q_rI t14 t19 p F left dn ins) (q_rJ y), 40, 26520)) rfl rfl ?_ ?_
          · refine q_Ca_of (Nat.le_of_ble_eq_true rfl) ?_
            refine q_Ru_seg (g2 := (4, [(0, .ref 66)], [.long y], (q_cX (q_rA pix smp tr a16 a17 a21 a22) (q_rI t14 t19 p F left dn ins) (q_rJ y), 40, 26520))) 2 (fun _ _ => rfl) ?_
            refine q_Ru_seg (g2 := (14, [(0, .ref 66)], [.int (lg_cmp ((y / 960) - (y / 960) / 2 * 2) 0)], (q_cX (q_rA pix smp tr a16 a17 a21 a22) (q_rI t14 t19 p F left dn ins) (q_rJ y), 40, 26520))) 6 (fun _ _ => rfl) ?_
            rw [hQ]
            refine q_Ru_rsF (g2 := (17, [(0, .ref 66)], [], (q_cX (q_rA pix smp tr a16 a17 a21 a22) (q_rI t14 t19 p F left dn ins) (q_rJ y), 40, 26520))) rfl rfl (q_d_neT h140) ?_
            refine q_Ru_seg (g2 := (28, [(0, .ref 66)], [.ref 78], (q_cX (q_rA pix smp tr a16 a17 a21 a22) (q_rI t14 t19 p F left dn ins) (q_rJ y), 40, 26520))) 3 (fun _ _ => rfl) ?_
            exact q_Ru_ret rfl rfl
          show q_Ru _ _ _ (125, [(3, .int col), (2, .int (lin - 4)), (0, .ref 66), (1, .ref 96)], [.ref 78], (q_cX (q_rA pix smp tr a16 a17 a21 a22) (q_rI t14 t19 p F left dn ins) (q_rJ y), 40, 26520)) _
          refine q_Ru_seg (g2 := (129, [(3, .int col), (2, .int (lin - 4)), (0, .ref 66), (1, .ref 96)], [.int t14, .ref 78], (q_cX (q_rA pix smp tr a16 a17 a21 a22) (q_rI t14 t19 p F left dn ins) (q_rJ y), 40, 26520))) 2 (fun _ _ => rfl) ?_
          refine q_Ru_seg (g2 := (134, [(3, .int col), (2, .int (lin - 4)), (0, .ref 66), (1, .ref 96)], [], (q_cX (q_rA pix smp tr a16 a17 a21 a22) (q_uI (q_rI t14 t19 p F left dn ins) 14 3 (t14 + 1)) (q_rJ y), 40, 26520))) 3 (fun _ _ => rfl) ?_
          exact q_Ru_ret rfl rfl
        | false =>
          refine ⟨pix, t14, t19 + 1, ?_⟩
          refine q_Ca_of (Nat.le_of_ble_eq_true rfl) ?_
          refine q_Ru_seg (g2 := (1, [(0, .ref 66), (1, .ref 96)], [.ref 66], (q_cX (q_rA pix smp tr a16 a17 a21 a22) (q_rI t14 t19 p F left dn ins) (q_rJ y), 40, 26520))) 1 (fun _ _ => rfl) ?_
          refine q_Ru_call (v := (some (.int pos))) (h2 := (q_cX (q_rA pix smp tr a16 a17 a21 a22) (q_rI t14 t19 p F left dn ins) (q_rJ y), 40, 26520)) rfl rfl ?_ ?_
          · refine q_Ca_of (Nat.le_of_ble_eq_true rfl) ?_
            refine q_Ru_seg (g2 := (4, [(0, .ref 66)], [.long y], (q_cX (q_rA pix smp tr a16 a17 a21 a22) (q_rI t14 t19 p F left dn ins) (q_rJ y), 40, 26520))) 2 (fun _ _ => rfl) ?_
            refine q_Ru_seg (g2 := (9, [(0, .ref 66)], [.int ((y - y / 960 * 960).toInt32)], (q_cX (q_rA pix smp tr a16 a17 a21 a22) (q_rI t14 t19 p F left dn ins) (q_rJ y), 40, 26520))) 3 (fun _ _ => rfl) ?_
            rw [hP]
            exact q_Ru_ret rfl rfl
          show q_Ru _ _ _ (4, [(0, .ref 66), (1, .ref 96)], [.int pos], (q_cX (q_rA pix smp tr a16 a17 a21 a22) (q_rI t14 t19 p F left dn ins) (q_rJ y), 40, 26520)) _
          refine q_Ru_seg (g2 := (7, [(0, .ref 66), (1, .ref 96)], [.int (pos / 24)], (q_cX (q_rA pix smp tr a16 a17 a21 a22) (q_rI t14 t19 p F left dn ins) (q_rJ y), 40, 26520))) 2 (fun _ _ => rfl) ?_
          rw [hL]
          refine q_Ru_seg (g2 := (11, [(2, .int (lin - 4)), (0, .ref 66), (1, .ref 96)], [.ref 66], (q_cX (q_rA pix smp tr a16 a17 a21 a22) (q_rI t14 t19 p F left dn ins) (q_rJ y), 40, 26520))) 4 (fun _ _ => rfl) ?_
          refine q_Ru_call (v := (some (.int col))) (h2 := (q_cX (q_rA pix smp tr a16 a17 a21 a22) (q_rI t14 t19 p F left dn ins) (q_rJ y), 40, 26520)) rfl rfl ?_ ?_
          · refine q_Ca_of (Nat.le_of_ble_eq_true rfl) ?_
            refine q_Ru_seg (g2 := (4, [(0, .ref 66)], [.long y], (q_cX (q_rA pix smp tr a16 a17 a21 a22) (q_rI t14 t19 p F left dn ins) (q_rJ y), 40, 26520))) 2 (fun _ _ => rfl) ?_
            refine q_Ru_seg (g2 := (9, [(0, .ref 66)], [.int ((y - y / 24 * 24).toInt32)], (q_cX (q_rA pix smp tr a16 a17 a21 a22) (q_rI t14 t19 p F left dn ins) (q_rJ y), 40, 26520))) 3 (fun _ _ => rfl) ?_
            rw [hC]
            exact q_Ru_ret rfl rfl
          show q_Ru _ _ _ (14, [(2, .int (lin - 4)), (0, .ref 66), (1, .ref 96)], [.int col], (q_cX (q_rA pix smp tr a16 a17 a21 a22) (q_rI t14 t19 p F left dn ins) (q_rJ y), 40, 26520)) _
          refine q_Ru_seg (g2 := (16, [(3, .int col), (2, .int (lin - 4)), (0, .ref 66), (1, .ref 96)], [.int (lin - 4)], (q_cX (q_rA pix smp tr a16 a17 a21 a22) (q_rI t14 t19 p F left dn ins) (q_rJ y), 40, 26520))) 2 (fun _ _ => rfl) ?_
          refine q_Ru_rsF (g2 := (19, [(3, .int col), (2, .int (lin - 4)), (0, .ref 66), (1, .ref 96)], [], (q_cX (q_rA pix smp tr a16 a17 a21 a22) (q_rI t14 t19 p F left dn ins) (q_rJ y), 40, 26520))) rfl rfl h136 ?_
          refine q_Ru_seg (g2 := (22, [(3, .int col), (2, .int (lin - 4)), (0, .ref 66), (1, .ref 96)], [.int 32, .int (lin - 4)], (q_cX (q_rA pix smp tr a16 a17 a21 a22) (q_rI t14 t19 p F left dn ins) (q_rJ y), 40, 26520))) 2 (fun _ _ => rfl) ?_
          refine q_Ru_rsF (g2 := (25, [(3, .int col), (2, .int (lin - 4)), (0, .ref 66), (1, .ref 96)], [], (q_cX (q_rA pix smp tr a16 a17 a21 a22) (q_rI t14 t19 p F left dn ins) (q_rJ y), 40, 26520))) rfl rfl (q_d_geT h138) ?_
          refine q_Ru_seg (g2 := (27, [(3, .int col), (2, .int (lin - 4)), (0, .ref 66), (1, .ref 96)], [.int 4, .int col], (q_cX (q_rA pix smp tr a16 a17 a21 a22) (q_rI t14 t19 p F left dn ins) (q_rJ y), 40, 26520))) 2 (fun _ _ => rfl) ?_
          refine q_Ru_rsT (g2 := (121, [(3, .int col), (2, .int (lin - 4)), (0, .ref 66), (1, .ref 96)], [], (q_cX (q_rA pix smp tr a16 a17 a21 a22) (q_rI t14 t19 p F left dn ins) (q_rJ y), 40, 26520))) rfl rfl h139 ?_
          refine q_Ru_seg (g2 := (122, [(3, .int col), (2, .int (lin - 4)), (0, .ref 66), (1, .ref 96)], [.ref 66], (q_cX (q_rA pix smp tr a16 a17 a21 a22) (q_rI t14 t19 p F left dn ins) (q_rJ y), 40, 26520))) 1 (fun _ _ => rfl) ?_
          refine q_Ru_call (v := (some (.ref 83))) (h2 := (q_cX (q_rA pix smp tr a16 a17 a21 a22) (q_rI t14 t19 p F left dn ins) (q_rJ y), 40, 26520)) rfl rfl ?_ ?_
          · refine q_Ca_of (Nat.le_of_ble_eq_true rfl) ?_
            refine q_Ru_seg (g2 := (4, [(0, .ref 66)], [.long y], (q_cX (q_rA pix smp tr a16 a17 a21 a22) (q_rI t14 t19 p F left dn ins) (q_rJ y), 40, 26520))) 2 (fun _ _ => rfl) ?_
            refine q_Ru_seg (g2 := (14, [(0, .ref 66)], [.int (lg_cmp ((y / 960) - (y / 960) / 2 * 2) 0)], (q_cX (q_rA pix smp tr a16 a17 a21 a22) (q_rI t14 t19 p F left dn ins) (q_rJ y), 40, 26520))) 6 (fun _ _ => rfl) ?_
            rw [hQ]
            refine q_Ru_rsT (g2 := (24, [(0, .ref 66)], [], (q_cX (q_rA pix smp tr a16 a17 a21 a22) (q_rI t14 t19 p F left dn ins) (q_rJ y), 40, 26520))) rfl rfl (q_d_neF h140) ?_
            refine q_Ru_seg (g2 := (28, [(0, .ref 66)], [.ref 83], (q_cX (q_rA pix smp tr a16 a17 a21 a22) (q_rI t14 t19 p F left dn ins) (q_rJ y), 40, 26520))) 2 (fun _ _ => rfl) ?_
            exact q_Ru_ret rfl rfl
          show q_Ru _ _ _ (125, [(3, .int col), (2, .int (lin - 4)), (0, .ref 66), (1, .ref 96)], [.ref 83], (q_cX (q_rA pix smp tr a16 a17 a21 a22) (q_rI t14 t19 p F left dn ins) (q_rJ y), 40, 26520)) _
          refine q_Ru_seg (g2 := (129, [(3, .int col), (2, .int (lin - 4)), (0, .ref 66), (1, .ref 96)], [.int t19, .ref 83], (q_cX (q_rA pix smp tr a16 a17 a21 a22) (q_rI t14 t19 p F left dn ins) (q_rJ y), 40, 26520))) 2 (fun _ _ => rfl) ?_
          refine q_Ru_seg (g2 := (134, [(3, .int col), (2, .int (lin - 4)), (0, .ref 66), (1, .ref 96)], [], (q_cX (q_rA pix smp tr a16 a17 a21 a22) (q_uI (q_rI t14 t19 p F left dn ins) 19 3 (t19 + 1)) (q_rJ y), 40, 26520))) 3 (fun _ _ => rfl) ?_
          exact q_Ru_ret rfl rfl
      | false =>
        cases h141 : decide (19 < col) with
        | true =>
          cases h142 : decide (pq = 0) with
          | true =>
            refine ⟨pix, t14 + 1, t19, ?_⟩
            refine q_Ca_of (Nat.le_of_ble_eq_true rfl) ?_
            refine q_Ru_seg (g2 := (1, [(0, .ref 66), (1, .ref 96)], [.ref 66], (q_cX (q_rA pix smp tr a16 a17 a21 a22) (q_rI t14 t19 p F left dn ins) (q_rJ y), 40, 26520))) 1 (fun _ _ => rfl) ?_
            refine q_Ru_call (v := (some (.int pos))) (h2 := (q_cX (q_rA pix smp tr a16 a17 a21 a22) (q_rI t14 t19 p F left dn ins) (q_rJ y), 40, 26520)) rfl rfl ?_ ?_
            · refine q_Ca_of (Nat.le_of_ble_eq_true rfl) ?_
              refine q_Ru_seg (g2 := (4, [(0, .ref 66)], [.long y], (q_cX (q_rA pix smp tr a16 a17 a21 a22) (q_rI t14 t19 p F left dn ins) (q_rJ y), 40, 26520))) 2 (fun _ _ => rfl) ?_
              refine q_Ru_seg (g2 := (9, [(0, .ref 66)], [.int ((y - y / 960 * 960).toInt32)], (q_cX (q_rA pix smp tr a16 a17 a21 a22) (q_rI t14 t19 p F left dn ins) (q_rJ y), 40, 26520))) 3 (fun _ _ => rfl) ?_
              rw [hP]
              exact q_Ru_ret rfl rfl
            show q_Ru _ _ _ (4, [(0, .ref 66), (1, .ref 96)], [.int pos], (q_cX (q_rA pix smp tr a16 a17 a21 a22) (q_rI t14 t19 p F left dn ins) (q_rJ y), 40, 26520)) _
            refine q_Ru_seg (g2 := (7, [(0, .ref 66), (1, .ref 96)], [.int (pos / 24)], (q_cX (q_rA pix smp tr a16 a17 a21 a22) (q_rI t14 t19 p F left dn ins) (q_rJ y), 40, 26520))) 2 (fun _ _ => rfl) ?_
            rw [hL]
            refine q_Ru_seg (g2 := (11, [(2, .int (lin - 4)), (0, .ref 66), (1, .ref 96)], [.ref 66], (q_cX (q_rA pix smp tr a16 a17 a21 a22) (q_rI t14 t19 p F left dn ins) (q_rJ y), 40, 26520))) 4 (fun _ _ => rfl) ?_
            refine q_Ru_call (v := (some (.int col))) (h2 := (q_cX (q_rA pix smp tr a16 a17 a21 a22) (q_rI t14 t19 p F left dn ins) (q_rJ y), 40, 26520)) rfl rfl ?_ ?_
            · refine q_Ca_of (Nat.le_of_ble_eq_true rfl) ?_
              refine q_Ru_seg (g2 := (4, [(0, .ref 66)], [.long y], (q_cX (q_rA pix smp tr a16 a17 a21 a22) (q_rI t14 t19 p F left dn ins) (q_rJ y), 40, 26520))) 2 (fun _ _ => rfl) ?_
              refine q_Ru_seg (g2 := (9, [(0, .ref 66)], [.int ((y - y / 24 * 24).toInt32)], (q_cX (q_rA pix smp tr a16 a17 a21 a22) (q_rI t14 t19 p F left dn ins) (q_rJ y), 40, 26520))) 3 (fun _ _ => rfl) ?_
              rw [hC]
              exact q_Ru_ret rfl rfl
            show q_Ru _ _ _ (14, [(2, .int (lin - 4)), (0, .ref 66), (1, .ref 96)], [.int col], (q_cX (q_rA pix smp tr a16 a17 a21 a22) (q_rI t14 t19 p F left dn ins) (q_rJ y), 40, 26520)) _
            refine q_Ru_seg (g2 := (16, [(3, .int col), (2, .int (lin - 4)), (0, .ref 66), (1, .ref 96)], [.int (lin - 4)], (q_cX (q_rA pix smp tr a16 a17 a21 a22) (q_rI t14 t19 p F left dn ins) (q_rJ y), 40, 26520))) 2 (fun _ _ => rfl) ?_
            refine q_Ru_rsF (g2 := (19, [(3, .int col), (2, .int (lin - 4)), (0, .ref 66), (1, .ref 96)], [], (q_cX (q_rA pix smp tr a16 a17 a21 a22) (q_rI t14 t19 p F left dn ins) (q_rJ y), 40, 26520))) rfl rfl h136 ?_
            refine q_Ru_seg (g2 := (22, [(3, .int col), (2, .int (lin - 4)), (0, .ref 66), (1, .ref 96)], [.int 32, .int (lin - 4)], (q_cX (q_rA pix smp tr a16 a17 a21 a22) (q_rI t14 t19 p F left dn ins) (q_rJ y), 40, 26520))) 2 (fun _ _ => rfl) ?_
            refine q_Ru_rsF (g2 := (25, [(3, .int col), (2, .int (lin - 4)), (0, .ref 66), (1, .ref 96)], [], (q_cX (q_rA pix smp tr a16 a17 a21 a22) (q_rI t14 t19 p F left dn ins) (q_rJ y), 40, 26520))) rfl rfl (q_d_geT h138) ?_
            refine q_Ru_seg (g2 := (27, [(3, .int col), (2, .int (lin - 4)), (0, .ref 66), (1, .ref 96)], [.int 4, .int col], (q_cX (q_rA pix smp tr a16 a17 a21 a22) (q_rI t14 t19 p F left dn ins) (q_rJ y), 40, 26520))) 2 (fun _ _ => rfl) ?_
            refine q_Ru_rsF (g2 := (30, [(3, .int col), (2, .int (lin - 4)), (0, .ref 66), (1, .ref 96)], [], (q_cX (q_rA pix smp tr a16 a17 a21 a22) (q_rI t14 t19 p F left dn ins) (q_rJ y), 40, 26520))) rfl rfl h139 ?_
            refine q_Ru_seg (g2 := (33, [(3, .int col), (2, .int (lin - 4)), (0, .ref 66), (1, .ref 96)], [.int 19, .int col], (q_cX (q_rA pix smp tr a16 a17 a21 a22) (q_rI t14 t19 p F left dn ins) (q_rJ y), 40, 26520))) 2 (fun _ _ => rfl) ?_
            refine q_Ru_rsT (g2 := (121, [(3, .int col), (2, .int (lin - 4)), (0, .ref 66), (1, .ref 96)], [], (q_cX (q_rA pix smp tr a16 a17 a21 a22) (q_rI t14 t19 p F left dn ins) (q_rJ y), 40, 26520))) rfl rfl h141 ?_
            refine q_Ru_seg (g2 := (122, [(3, .int col), (2, .int (lin - 4)), (0, .ref 66), (1, .ref 96)], [.ref 66], (q_cX (q_rA pix smp tr a16 a17 a21 a22) (q_rI t14 t19 p F left dn ins) (q_rJ y), 40, 26520))) 1 (fun _ _ => rfl) ?_
            refine q_Ru_call (v := (some (.ref 78))) (h2 := (q_cX (q_rA pix smp tr a16 a17 a21 a22) (q_rI t14 t19 p F left dn ins) (q_rJ y), 40, 26520)) rfl rfl ?_ ?_
            · refine q_Ca_of (Nat.le_of_ble_eq_true rfl) ?_
              refine q_Ru_seg (g2 := (4, [(0, .ref 66)], [.long y], (q_cX (q_rA pix smp tr a16 a17 a21 a22) (q_rI t14 t19 p F left dn ins) (q_rJ y), 40, 26520))) 2 (fun _ _ => rfl) ?_
              refine q_Ru_seg (g2 := (14, [(0, .ref 66)], [.int (lg_cmp ((y / 960) - (y / 960) / 2 * 2) 0)], (q_cX (q_rA pix smp tr a16 a17 a21 a22) (q_rI t14 t19 p F left dn ins) (q_rJ y), 40, 26520))) 6 (fun _ _ => rfl) ?_
              rw [hQ]
              refine q_Ru_rsF (g2 := (17, [(0, .ref 66)], [], (q_cX (q_rA pix smp tr a16 a17 a21 a22) (q_rI t14 t19 p F left dn ins) (q_rJ y), 40, 26520))) rfl rfl (q_d_neT h142) ?_
              refine q_Ru_seg (g2 := (28, [(0, .ref 66)], [.ref 78], (q_cX (q_rA pix smp tr a16 a17 a21 a22) (q_rI t14 t19 p F left dn ins) (q_rJ y), 40, 26520))) 3 (fun _ _ => rfl) ?_
              exact q_Ru_ret rfl rfl
            show q_Ru _ _ _ (125, [(3, .int col), (2, .int (lin - 4)), (0, .ref 66), (1, .ref 96)], [.ref 78], (q_cX (q_rA pix smp tr a16 a17 a21 a22) (q_rI t14 t19 p F left dn ins) (q_rJ y), 40, 26520)) _
            refine q_Ru_seg (g2 := (129, [(3, .int col), (2, .int (lin - 4)), (0, .ref 66), (1, .ref 96)], [.int t14, .ref 78], (q_cX (q_rA pix smp tr a16 a17 a21 a22) (q_rI t14 t19 p F left dn ins) (q_rJ y), 40, 26520))) 2 (fun _ _ => rfl) ?_
            refine q_Ru_seg (g2 := (134, [(3, .int col), (2, .int (lin - 4)), (0, .ref 66), (1, .ref 96)], [], (q_cX (q_rA pix smp tr a16 a17 a21 a22) (q_uI (q_rI t14 t19 p F left dn ins) 14 3 (t14 + 1)) (q_rJ y), 40, 26520))) 3 (fun _ _ => rfl) ?_
            exact q_Ru_ret rfl rfl
          | false =>
            refine ⟨pix, t14, t19 + 1, ?_⟩
            refine q_Ca_of (Nat.le_of_ble_eq_true rfl) ?_
            refine q_Ru_seg (g2 := (1, [(0, .ref 66), (1, .ref 96)], [.ref 66], (q_cX (q_rA pix smp tr a16 a17 a21 a22) (q_rI t14 t19 p F left dn ins) (q_rJ y), 40, 26520))) 1 (fun _ _ => rfl) ?_
            refine q_Ru_call (v := (some (.int pos))) (h2 := (q_cX (q_rA pix smp tr a16 a17 a21 a22) (q_rI t14 t19 p F left dn ins) (q_rJ y), 40, 26520)) rfl rfl ?_ ?_
            · refine q_Ca_of (Nat.le_of_ble_eq_true rfl) ?_
              refine q_Ru_seg (g2 := (4, [(0, .ref 66)], [.long y], (q_cX (q_rA pix smp tr a16 a17 a21 a22) (q_rI t14 t19 p F left dn ins) (q_rJ y), 40, 26520))) 2 (fun _ _ => rfl) ?_
              refine q_Ru_seg (g2 := (9, [(0, .ref 66)], [.int ((y - y / 960 * 960).toInt32)], (q_cX (q_rA pix smp tr a16 a17 a21 a22) (q_rI t14 t19 p F left dn ins) (q_rJ y), 40, 26520))) 3 (fun _ _ => rfl) ?_
              rw [hP]
              exact q_Ru_ret rfl rfl
            show q_Ru _ _ _ (4, [(0, .ref 66), (1, .ref 96)], [.int pos], (q_cX (q_rA pix smp tr a16 a17 a21 a22) (q_rI t14 t19 p F left dn ins) (q_rJ y), 40, 26520)) _
            refine q_Ru_seg (g2 := (7, [(0, .ref 66), (1, .ref 96)], [.int (pos / 24)], (q_cX (q_rA pix smp tr a16 a17 a21 a22) (q_rI t14 t19 p F left dn ins) (q_rJ y), 40, 26520))) 2 (fun _ _ => rfl) ?_
            rw [hL]
            refine q_Ru_seg (g2 := (11, [(2, .int (lin - 4)), (0, .ref 66), (1, .ref 96)], [.ref 66], (q_cX (q_rA pix smp tr a16 a17 a21 a22) (q_rI t14 t19 p F left dn ins) (q_rJ y), 40, 26520))) 4 (fun _ _ => rfl) ?_
            refine q_Ru_call (v := (some (.int col))) (h2 := (q_cX (q_rA pix smp tr a16 a17 a21 a22) (q_rI t14 t19 p F left dn ins) (q_rJ y), 40, 26520)) rfl rfl ?_ ?_
            · refine q_Ca_of (Nat.le_of_ble_eq_true rfl) ?_
              refine q_Ru_seg (g2 := (4, [(0, .ref 66)], [.long y], (q_cX (q_rA pix smp tr a16 a17 a21 a22) (q_rI t14 t19 p F left dn ins) (q_rJ y), 40, 26520))) 2 (fun _ _ => rfl) ?_
              refine q_Ru_seg (g2 := (9, [(0, .ref 66)], [.int ((y - y / 24 * 24).toInt32)], (q_cX (q_rA pix smp tr a16 a17 a21 a22) (q_rI t14 t19 p F left dn ins) (q_rJ y), 40, 26520))) 3 (fun _ _ => rfl) ?_
              rw [hC]
              exact q_Ru_ret rfl rfl
            show q_Ru _ _ _ (14, [(2, .int (lin - 4)), (0, .ref 66), (1, .ref 96)], [.int col], (q_cX (q_rA pix smp tr a16 a17 a21 a22) (q_rI t14 t19 p F left dn ins) (q_rJ y), 40, 26520)) _
            refine q_Ru_seg (g2 := (16, [(3, .int col), (2, .int (lin - 4)), (0, .ref 66), (1, .ref 96)], [.int (lin - 4)], (q_cX (q_rA pix smp tr a16 a17 a21 a22) (q_rI t14 t19 p F left dn ins) (q_rJ y), 40, 26520))) 2 (fun _ _ => rfl) ?_
            refine q_Ru_rsF (g2 := (19, [(3, .int col), (2, .int (lin - 4)), (0, .ref 66), (1, .ref 96)], [], (q_cX (q_rA pix smp tr a16 a17 a21 a22) (q_rI t14 t19 p F left dn ins) (q_rJ y), 40, 26520))) rfl rfl h136 ?_
            refine q_Ru_seg (g2 := (22, [(3, .int col), (2, .int (lin - 4)), (0, .ref 66), (1, .ref 96)], [.int 32, .int (lin - 4)], (q_cX (q_rA pix smp tr a16 a17 a21 a22) (q_rI t14 t19 p F left dn ins) (q_rJ y), 40, 26520))) 2 (fun _ _ => rfl) ?_
            refine q_Ru_rsF (g2 := (25, [(3, .int col), (2, .int (lin - 4)), (0, .ref 66), (1, .ref 96)], [], (q_cX (q_rA pix smp tr a16 a17 a21 a22) (q_rI t14 t19 p F left dn ins) (q_rJ y), 40, 26520))) rfl rfl (q_d_geT h138) ?_
            refine q_Ru_seg (g2 := (27, [(3, .int col), (2, .int (lin - 4)), (0, .ref 66), (1, .ref 96)], [.int 4, .int col], (q_cX (q_rA pix smp tr a16 a17 a21 a22) (q_rI t14 t19 p F left dn ins) (q_rJ y), 40, 26520))) 2 (fun _ _ => rfl) ?_
            refine q_Ru_rsF (g2 := (30, [(3, .int col), (2, .int (lin - 4)), (0, .ref 66), (1, .ref 96)], [], (q_cX (q_rA pix smp tr a16 a17 a21 a22) (q_rI t14 t19 p F left dn ins) (q_rJ y), 40, 26520))) rfl rfl h139 ?_
            refine q_Ru_seg (g2 := (33, [(3, .int col), (2, .int (lin - 4)), (0, .ref 66), (1, .ref 96)], [.int 19, .int col], (q_cX (q_rA pix smp tr a16 a17 a21 a22) (q_rI t14 t19 p F left dn ins) (q_rJ y), 40, 26520))) 2 (fun _ _ => rfl) ?_
            refine q_Ru_rsT (g2 := (121, [(3, .int col), (2, .int (lin - 4)), (0, .ref 66), (1, .ref 96)], [], (q_cX (q_rA pix smp tr a16 a17 a21 a22) (q_rI t14 t19 p F left dn ins) (q_rJ y), 40, 26520))) rfl rfl h141 ?_
            refine q_Ru_seg (g2 := (122, [(3, .int col), (2, .int (lin - 4)), (0, .ref 66), (1, .ref 96)], [.ref 66], (q_cX (q_rA pix smp tr a16 a17 a21 a22) (q_rI t14 t19 p F left dn ins) (q_rJ y), 40, 26520))) 1 (fun _ _ => rfl) ?_
            refine q_Ru_call (v := (some (.ref 83))) (h2 := (q_cX (q_rA pix smp tr a16 a17 a21 a22) (q_rI t14 t19 p F left dn ins) (q_rJ y), 40, 26520)) rfl rfl ?_ ?_
            · refine q_Ca_of (Nat.le_of_ble_eq_true rfl) ?_
              refine q_Ru_seg (g2 := (4, [(0, .ref 66)], [.long y], (q_cX (q_rA pix smp tr a16 a17 a21 a22) (q_rI t14 t19 p F left dn ins) (q_rJ y), 40, 26520))) 2 (fun _ _ => rfl) ?_
              refine q_Ru_seg (g2 := (14, [(0, .ref 66)], [.int (lg_cmp ((y / 960) - (y / 960) / 2 * 2) 0)], (q_cX (q_rA pix smp tr a16 a17 a21 a22) (q_rI t14 t19 p F left dn ins) (q_rJ y), 40, 26520))) 6 (fun _ _ => rfl) ?_
              rw [hQ]
              refine q_Ru_rsT (g2 := (24, [(0, .ref 66)], [], (q_cX (q_rA pix smp tr a16 a17 a21 a22) (q_rI t14 t19 p F left dn ins) (q_rJ y), 40, 26520))) rfl rfl (q_d_neF h142) ?_
              refine q_Ru_seg (g2 := (28, [(0, .ref 66)], [.ref 83], (q_cX (q_rA pix smp tr a16 a17 a21 a22) (q_rI t14 t19 p F left dn ins) (q_rJ y), 40, 26520))) 2 (fun _ _ => rfl) ?_
              exact q_Ru_ret rfl rfl
            show q_Ru _ _ _ (125, [(3, .int col), (2, .int (lin - 4)), (0, .ref 66), (1, .ref 96)], [.ref 83], (q_cX (q_rA pix smp tr a16 a17 a21 a22) (q_rI t14 t19 p F left dn ins) (q_rJ y), 40, 26520)) _
            refine q_Ru_seg (g2 := (129, [(3, .int col), (2, .int (lin - 4)), (0, .ref 66), (1, .ref 96)], [.int t19, .ref 83], (q_cX (q_rA pix smp tr a16 a17 a21 a22) (q_rI t14 t19 p F left dn ins) (q_rJ y), 40, 26520))) 2 (fun _ _ => rfl) ?_
            refine q_Ru_seg (g2 := (134, [(3, .int col), (2, .int (lin - 4)), (0, .ref 66), (1, .ref 96)], [], (q_cX (q_rA pix smp tr a16 a17 a21 a22) (q_uI (q_rI t14 t19 p F left dn ins) 19 3 (t19 + 1)) (q_rJ y), 40, 26520))) 3 (fun _ _ => rfl) ?_
            exact q_Ru_ret rfl rfl
        | false =>
          have h143 : decide ((2 * (col - 4)) + 1 < 2 * (col - 4)) = false := q_not_tr (q_tbl1 (fun col => !decide ((2 * (col - 4)) + 1 < 2 * (col - 4))) (l := 4) (n := 15) (by decide +kernel) (q_lo1 h139) (q_hi2 h141))
          have h144 : decide ((2 * (col - 4)) + 1 < ((2 * (col - 4)) + 1) + 1) = true := q_tbl1 (fun col => decide ((2 * (col - 4)) + 1 < ((2 * (col - 4)) + 1) + 1)) (l := 4) (n := 15) (by decide +kernel) (q_lo1 h139) (q_hi2 h141)
          cases h145 : decide (pq = 0) with
          | true =>
            refine ⟨(upd (upd pix ((((32 * (lin - 4)) + (2 * (col - 4))) &&& 1023).toNatClampNeg) 0) ((((32 * (lin - 4)) + ((2 * (col - 4)) + 1)) &&& 1023).toNatClampNeg) 0), t14 + 1, t19, ?_⟩
            refine q_Ca_of (Nat.le_of_ble_eq_true rfl) ?_
            refine q_Ru_seg (g2 := (1, [(0, .ref 66), (1, .ref 96)], [.ref 66], (q_cX (q_rA pix smp tr a16 a17 a21 a22) (q_rI t14 t19 p F left dn ins) (q_rJ y), 40, 26520))) 1 (fun _ _ => rfl) ?_
            refine q_Ru_call (v := (some (.int pos))) (h2 := (q_cX (q_rA pix smp tr a16 a17 a21 a22) (q_rI t14 t19 p F left dn ins) (q_rJ y), 40, 26520)) rfl rfl ?_ ?_
            · refine q_Ca_of (Nat.le_of_ble_eq_true rfl) ?_
              refine q_Ru_seg (g2 := (4, [(0, .ref 66)], [.long y], (q_cX (q_rA pix smp tr a16 a17 a21 a22) (q_rI t14 t19 p F left dn ins) (q_rJ y), 40, 26520))) 2 (fun _ _ => rfl) ?_
              refine q_Ru_seg (g2 := (9, [(0, .ref 66)], [.int ((y - y / 960 * 960).toInt32)], (q_cX (q_rA pix smp tr a16 a17 a21 a22) (q_rI t14 t19 p F left dn ins) (q_rJ y), 40, 26520))) 3 (fun _ _ => rfl) ?_
              rw [hP]
              exact q_Ru_ret rfl rfl
            show q_Ru _ _ _ (4, [(0, .ref 66), (1, .ref 96)], [.int pos], (q_cX (q_rA pix smp tr a16 a17 a21 a22) (q_rI t14 t19 p F left dn ins) (q_rJ y), 40, 26520)) _
            refine q_Ru_seg (g2 := (7, [(0, .ref 66), (1, .ref 96)], [.int (pos / 24)], (q_cX (q_rA pix smp tr a16 a17 a21 a22) (q_rI t14 t19 p F left dn ins) (q_rJ y), 40, 26520))) 2 (fun _ _ => rfl) ?_
            rw [hL]
            refine q_Ru_seg (g2 := (11, [(2, .int (lin - 4)), (0, .ref 66), (1, .ref 96)], [.ref 66], (q_cX (q_rA pix smp tr a16 a17 a21 a22) (q_rI t14 t19 p F left dn ins) (q_rJ y), 40, 26520))) 4 (fun _ _ => rfl) ?_
            refine q_Ru_call (v := (some (.int col))) (h2 := (q_cX (q_rA pix smp tr a16 a17 a21 a22) (q_rI t14 t19 p F left dn ins) (q_rJ y), 40, 26520)) rfl rfl ?_ ?_
            · refine q_Ca_of (Nat.le_of_ble_eq_true rfl) ?_
              refine q_Ru_seg (g2 := (4, [(0, .ref 66)], [.long y], (q_cX (q_rA pix smp tr a16 a17 a21 a22) (q_rI t14 t19 p F left dn ins) (q_rJ y), 40, 26520))) 2 (fun _ _ => rfl) ?_
              refine q_Ru_seg (g2 := (9, [(0, .ref 66)], [.int ((y - y / 24 * 24).toInt32)], (q_cX (q_rA pix smp tr a16 a17 a21 a22) (q_rI t14 t19 p F left dn ins) (q_rJ y), 40, 26520))) 3 (fun _ _ => rfl) ?_
              rw [hC]
              exact q_Ru_ret rfl rfl
            show q_Ru _ _ _ (14, [(2, .int (lin - 4)), (0, .ref 66), (1, .ref 96)], [.int col], (q_cX (q_rA pix smp tr a16 a17 a21 a22) (q_rI t14 t19 p F left dn ins) (q_rJ y), 40, 26520)) _
            refine q_Ru_seg (g2 := (16, [(3, .int col), (2, .int (lin - 4)), (0, .ref 66), (1, .ref 96)], [.int (lin - 4)], (q_cX (q_rA pix smp tr a16 a17 a21 a22) (q_rI t14 t19 p F left dn ins) (q_rJ y), 40, 26520))) 2 (fun _ _ => rfl) ?_
            refine q_Ru_rsF (g2 := (19, [(3, .int col), (2, .int (lin - 4)), (0, .ref 66), (1, .ref 96)], [], (q_cX (q_rA pix smp tr a16 a17 a21 a22) (q_rI t14 t19 p F left dn ins) (q_rJ y), 40, 26520))) rfl rfl h136 ?_
            refine q_Ru_seg (g2 := (22, [(3, .int col), (2, .int (lin - 4)), (0, .ref 66), (1, .ref 96)], [.int 32, .int (lin - 4)], (q_cX (q_rA pix smp tr a16 a17 a21 a22) (q_rI t14 t19 p F left dn ins) (q_rJ y), 40, 26520))) 2 (fun _ _ => rfl) ?_
            refine q_Ru_rsF (g2 := (25, [(3, .int col), (2, .int (lin - 4)), (0, .ref 66), (1, .ref 96)], [], (q_cX (q_rA pix smp tr a16 a17 a21 a22) (q_rI t14 t19 p F left dn ins) (q_rJ y), 40, 26520))) rfl rfl (q_d_geT h138) ?_
            refine q_Ru_seg (g2 := (27, [(3, .int col), (2, .int (lin - 4)), (0, .ref 66), (1, .ref 96)], [.int 4, .int col], (q_cX (q_rA pix smp tr a16 a17 a21 a22) (q_rI t14 t19 p F left dn ins) (q_rJ y), 40, 26520))) 2 (fun _ _ => rfl) ?_
            refine q_Ru_rsF (g2 := (30, [(3, .int col), (2, .int (lin - 4)), (0, .ref 66), (1, .ref 96)], [], (q_cX (q_rA pix smp tr a16 a17 a21 a22) (q_rI t14 t19 p F left dn ins) (q_rJ y), 40, 26520))) rfl rfl h139 ?_
            refine q_Ru_seg (g2 := (33, [(3, .int col), (2, .int (lin - 4)), (0, .ref 66), (1, .ref 96)], [.int 19, .int col], (q_cX (q_rA pix smp tr a16 a17 a21 a22) (q_rI t14 t19 p F left dn ins) (q_rJ y), 40, 26520))) 2 (fun _ _ => rfl) ?_
            refine q_Ru_rsF (g2 := (36, [(3, .int col), (2, .int (lin - 4)), (0, .ref 66), (1, .ref 96)], [], (q_cX (q_rA pix smp tr a16 a17 a21 a22) (q_rI t14 t19 p F left dn ins) (q_rJ y), 40, 26520))) rfl rfl h141 ?_
            refine q_Ru_seg (g2 := (53, [(5, .int (2 * (col - 4))), (4, .int (2 * (col - 4))), (3, .int col), (2, .int (lin - 4)), (0, .ref 66), (1, .ref 96)], [.int ((2 * (col - 4)) + 1), .int (2 * (col - 4))], (q_cX (q_rA pix smp tr a16 a17 a21 a22) (q_rI t14 t19 p F left dn ins) (q_rJ y), 40, 26520))) 12 (fun _ _ => rfl) ?_
            refine q_Ru_rsF (g2 := (56, [(5, .int (2 * (col - 4))), (4, .int (2 * (col - 4))), (3, .int col), (2, .int (lin - 4)), (0, .ref 66), (1, .ref 96)], [], (q_cX (q_rA pix smp tr a16 a17 a21 a22) (q_rI t14 t19 p F left dn ins) (q_rJ y), 40, 26520))) rfl rfl h143 ?_
            refine q_Ru_seg (g2 := (63, [(5, .int (2 * (col - 4))), (4, .int (2 * (col - 4))), (3, .int col), (2, .int (lin - 4)), (0, .ref 66), (1, .ref 96)], [.int (lin - 4), .int (2 * (col - 4)), .ref 67], (q_cX (q_rA pix smp tr a16 a17 a21 a22) (q_rI t14 t19 p F left dn ins) (q_rJ y), 40, 26520))) 4 (fun _ _ => rfl) ?_
            refine q_Ru_call (v := (some (.int 0))) (h2 := (q_cX (q_rA pix smp tr a16 a17 a21 a22) (q_rI t14 t19 p F left dn ins) (q_rJ y), 40, 26520)) rfl rfl ?_ ?_
            · exact (q_p_valueAt pix smp tr a16 a17 a21 a22 t14 t19 p F left dn ins y (2 * (col - 4)) (lin - 4)).le (Nat.le_of_ble_eq_true rfl)
            show q_Ru _ _ _ (66, [(5, .int (2 * (col - 4))), (4, .int (2 * (col - 4))), (3, .int col), (2, .int (lin - 4)), (0, .ref 66), (1, .ref 96)], [.int 0], (q_cX (q_rA pix smp tr a16 a17 a21 a22) (q_rI t14 t19 p F left dn ins) (q_rJ y), 40, 26520)) _
            refine q_Ru_seg (g2 := (75, [(6, .int 0), (5, .int (2 * (col - 4))), (4, .int (2 * (col - 4))), (3, .int col), (2, .int (lin - 4)), (0, .ref 66), (1, .ref 96)], [.int (lin - 4), .int (2 * (col - 4)), .ref 67], (q_cX (q_rA pix smp tr a16 a17 a21 a22) (q_rI t14 t19 p F left dn ins) (q_rJ y), 40, 26520))) 5 (fun _ _ => rfl) ?_
            refine q_Ru_call (v := (some (.int 0))) (h2 := (q_cX (q_rA pix smp tr a16 a17 a21 a22) (q_rI t14 t19 p F left dn ins) (q_rJ y), 40, 26520)) rfl rfl ?_ ?_
            · exact (q_p_spritesAt pix smp tr a16 a17 a21 a22 t14 t19 p F left dn ins y (2 * (col - 4)) (lin - 4)).le (Nat.le_of_ble_eq_true rfl)
            show q_Ru _ _ _ (78, [(6, .int 0), (5, .int (2 * (col - 4))), (4, .int (2 * (col - 4))), (3, .int col), (2, .int (lin - 4)), (0, .ref 66), (1, .ref 96)], [.int 0], (q_cX (q_rA pix smp tr a16 a17 a21 a22) (q_rI t14 t19 p F left dn ins) (q_rJ y), 40, 26520)) _
            refine q_Ru_seg (g2 := (88, [(7, .int 0), (6, .int 0), (5, .int (2 * (col - 4))), (4, .int (2 * (col - 4))), (3, .int col), (2, .int (lin - 4)), (0, .ref 66), (1, .ref 96)], [.int 0, .int 0, .ref 67], (q_cX (q_rA pix smp tr a16 a17 a21 a22) (q_rI t14 t19 p F left dn ins) (q_rJ y), 40, 26520))) 5 (fun _ _ => rfl) ?_
            refine q_Ru_call (v := none) (h2 := (q_cX (q_rA pix smp tr a16 a17 a21 a22) (q_rI t14 t19 p F left dn ins) (q_rJ y), 40, 26520)) rfl rfl ?_ ?_
            · exact (q_p_noteHits pix smp tr a16 a17 a21 a22 t14 t19 p F left dn ins y ).le (Nat.le_of_ble_eq_true rfl)
            show q_Ru _ _ _ (91, [(7, .int 0), (6, .int 0), (5, .int (2 * (col - 4))), (4, .int (2 * (col - 4))), (3, .int col), (2, .int (lin - 4)), (0, .ref 66), (1, .ref 96)], [], (q_cX (q_rA pix smp tr a16 a17 a21 a22) (q_rI t14 t19 p F left dn ins) (q_rJ y), 40, 26520)) _
            refine q_Ru_seg (g2 := (111, [(7, .int 0), (6, .int 0), (5, .int (2 * (col - 4))), (4, .int (2 * (col - 4))), (3, .int col), (2, .int (lin - 4)), (0, .ref 66), (1, .ref 96)], [.int 0, .int 0, .ref 67, .int (((32 * (lin - 4)) + (2 * (col - 4))) &&& 1023), .ref 96], (q_cX (q_rA pix smp tr a16 a17 a21 a22) (q_rI t14 t19 p F left dn ins) (q_rJ y), 40, 26520))) 12 (fun _ _ => rfl) ?_
            refine q_Ru_call (v := (some (.int 0))) (h2 := (q_cX (q_rA pix smp tr a16 a17 a21 a22) (q_rI t14 t19 p F left dn ins) (q_rJ y), 40, 26520)) rfl rfl ?_ ?_
            · exact (q_p_colourOf pix smp tr a16 a17 a21 a22 t14 t19 p F left dn ins y ).le (Nat.le_of_ble_eq_true rfl)
            show q_Ru _ _ _ (114, [(7, .int 0), (6, .int 0), (5, .int (2 * (col - 4))), (4, .int (2 * (col - 4))), (3, .int col), (2, .int (lin - 4)), (0, .ref 66), (1, .ref 96)], [.int 0, .int (((32 * (lin - 4)) + (2 * (col - 4))) &&& 1023), .ref 96], (q_cX (q_rA pix smp tr a16 a17 a21 a22) (q_rI t14 t19 p F left dn ins) (q_rJ y), 40, 26520)) _
            have iy11 := (q_in_bd (x := ((32 * (lin - 4)) + (2 * (col - 4))) &&& 1023) (n := 1024) (U := 1023) (L := 0) (q_and_lo ((32 * (lin - 4)) + (2 * (col - 4))) 1023) (q_and_hi ((32 * (lin - 4)) + (2 * (col - 4))) 1023 1023))
            generalize (((32 * (lin - 4)) + (2 * (col - 4))) &&& 1023) = y11 at iy11 ⊢
            refine q_Ru_rsT (g2 := (115, [(7, .int 0), (6, .int 0), (5, .int (2 * (col - 4))), (4, .int (2 * (col - 4))), (3, .int col), (2, .int (lin - 4)), (0, .ref 66), (1, .ref 96)], [], (q_cX (q_uA (q_rA pix smp tr a16 a17 a21 a22) 32 (upd pix (y11.toNatClampNeg) 0)) (q_rI t14 t19 p F left dn ins) (q_rJ y), 40, 26520))) rfl q_astX_32 iy11 ?_
            generalize (upd pix (y11.toNatClampNeg) 0) = w12
            show q_Ru _ _ _ (115, [(7, .int 0), (6, .int 0), (5, .int (2 * (col - 4))), (4, .int (2 * (col - 4))), (3, .int col), (2, .int (lin - 4)), (0, .ref 66), (1, .ref 96)], [], (q_cX (q_rA w12 smp tr a16 a17 a21 a22) (q_rI t14 t19 p F left dn ins) (q_rJ y), 40, 26520)) _
            refine q_Ru_seg (g2 := (53, [(5, .int ((2 * (col - 4)) + 1)), (7, .int 0), (6, .int 0), (4, .int (2 * (col - 4))), (3, .int col), (2, .int (lin - 4)), (0, .ref 66), (1, .ref 96)], [.int ((2 * (col - 4)) + 1), .int ((2 * (col - 4)) + 1)], (q_cX (q_rA w12 smp tr a16 a17 a21 a22) (q_rI t14 t19 p F left dn ins) (q_rJ y), 40, 26520))) 6 (fun _ _ => rfl) ?_
            refine q_Ru_rsF (g2 := (56, [(5, .int ((2 * (col - 4)) + 1)), (7, .int 0), (6, .int 0), (4, .int (2 * (col - 4))), (3, .int col), (2, .int (lin - 4)), (0, .ref 66), (1, .ref 96)], [], (q_cX (q_rA w12 smp tr a16 a17 a21 a22) (q_rI t14 t19 p F left dn ins) (q_rJ y), 40, 26520))) rfl rfl q_d_rf_gt ?_
            refine q_Ru_seg (g2 := (63, [(5, .int ((2 * (col - 4)) + 1)), (7, .int 0), (6, .int 0), (4, .int (2 * (col - 4))), (3, .int col), (2, .int (lin - 4)), (0, .ref 66), (1, .ref 96)], [.int (lin - 4), .int ((2 * (col - 4)) + 1), .ref 67], (q_cX (q_rA w12 smp tr a16 a17 a21 a22) (q_rI t14 t19 p F left dn ins) (q_rJ y), 40, 26520))) 4 (fun _ _ => rfl) ?_
            refine q_Ru_call (v := (some (.int 0))) (h2 := (q_cX (q_rA w12 smp tr a16 a17 a21 a22) (q_rI t14 t19 p F left dn ins) (q_rJ y), 40, 26520)) rfl rfl ?_ ?_
            · exact (q_p_valueAt w12 smp tr a16 a17 a21 a22 t14 t19 p F left dn ins y ((2 * (col - 4)) + 1) (lin - 4)).le (Nat.le_of_ble_eq_true rfl)
            show q_Ru _ _ _ (66, [(5, .int ((2 * (col - 4)) + 1)), (7, .int 0), (6, .int 0), (4, .int (2 * (col - 4))), (3, .int col), (2, .int (lin - 4)), (0, .ref 66), (1, .ref 96)], [.int 0], (q_cX (q_rA w12 smp tr a16 a17 a21 a22) (q_rI t14 t19 p F left dn ins) (q_rJ y), 40, 26520)) _
            refine q_Ru_seg (g2 := (75, [(6, .int 0), (5, .int ((2 * (col - 4)) + 1)), (7, .int 0), (4, .int (2 * (col - 4))), (3, .int col), (2, .int (lin - 4)), (0, .ref 66), (1, .ref 96)], [.int (lin - 4), .int ((2 * (col - 4)) + 1), .ref 67], (q_cX (q_rA w12 smp tr a16 a17 a21 a22) (q_rI t14 t19 p F left dn ins) (q_rJ y), 40, 26520))) 5 (fun _ _ => rfl) ?_
            refine q_Ru_call (v := (some (.int 0))) (h2 := (q_cX (q_rA w12 smp tr a16 a17 a21 a22) (q_rI t14 t19 p F left dn ins) (q_rJ y), 40, 26520)) rfl rfl ?_ ?_
            · exact (q_p_spritesAt w12 smp tr a16 a17 a21 a22 t14 t19 p F left dn ins y ((2 * (col - 4)) + 1) (lin - 4)).le (Nat.le_of_ble_eq_true rfl)
            show q_Ru _ _ _ (78, [(6, .int 0), (5, .int ((2 * (col - 4)) + 1)), (7, .int 0), (4, .int (2 * (col - 4))), (3, .int col), (2, .int (lin - 4)), (0, .ref 66), (1, .ref 96)], [.int 0], (q_cX (q_rA w12 smp tr a16 a17 a21 a22) (q_rI t14 t19 p F left dn ins) (q_rJ y), 40, 26520)) _
            refine q_Ru_seg (g2 := (88, [(7, .int 0), (6, .int 0), (5, .int ((2 * (col - 4)) + 1)), (4, .int (2 * (col - 4))), (3, .int col), (2, .int (lin - 4)), (0, .ref 66), (1, .ref 96)], [.int 0, .int 0, .ref 67], (q_cX (q_rA w12 smp tr a16 a17 a21 a22) (q_rI t14 t19 p F left dn ins) (q_rJ y), 40, 26520))) 5 (fun _ _ => rfl) ?_
            refine q_Ru_call (v := none) (h2 := (q_cX (q_rA w12 smp tr a16 a17 a21 a22) (q_rI t14 t19 p F left dn ins) (q_rJ y), 40, 26520)) rfl rfl ?_ ?_
            · exact (q_p_noteHits w12 smp tr a16 a17 a21 a22 t14 t19 p F left dn ins y ).le (Nat.le_of_ble_eq_true rfl)
            show q_Ru _ _ _ (91, [(7, .int 0), (6, .int 0), (5, .int ((2 * (col - 4)) + 1)), (4, .int (2 * (col - 4))), (3, .int col), (2, .int (lin - 4)), (0, .ref 66), (1, .ref 96)], [], (q_cX (q_rA w12 smp tr a16 a17 a21 a22) (q_rI t14 t19 p F left dn ins) (q_rJ y), 40, 26520)) _
            refine q_Ru_seg (g2 := (111, [(7, .int 0), (6, .int 0), (5, .int ((2 * (col - 4)) + 1)), (4, .int (2 * (col - 4))), (3, .int col), (2, .int (lin - 4)), (0, .ref 66), (1, .ref 96)], [.int 0, .int 0, .ref 67, .int (((32 * (lin - 4)) + ((2 * (col - 4)) + 1)) &&& 1023), .ref 96], (q_cX (q_rA w12 smp tr a16 a17 a21 a22) (q_rI t14 t19 p F left dn ins) (q_rJ y), 40, 26520))) 12 (fun _ _ => rfl) ?_
            refine q_Ru_call (v := (some (.int 0))) (h2 := (q_cX (q_rA w12 smp tr a16 a17 a21 a22) (q_rI t14 t19 p F left dn ins) (q_rJ y), 40, 26520)) rfl rfl ?_ ?_
            · exact (q_p_colourOf w12 smp tr a16 a17 a21 a22 t14 t19 p F left dn ins y ).le (Nat.le_of_ble_eq_true rfl)
            show q_Ru _ _ _ (114, [(7, .int 0), (6, .int 0), (5, .int ((2 * (col - 4)) + 1)), (4, .int (2 * (col - 4))), (3, .int col), (2, .int (lin - 4)), (0, .ref 66), (1, .ref 96)], [.int 0, .int (((32 * (lin - 4)) + ((2 * (col - 4)) + 1)) &&& 1023), .ref 96], (q_cX (q_rA w12 smp tr a16 a17 a21 a22) (q_rI t14 t19 p F left dn ins) (q_rJ y), 40, 26520)) _
            have iy13 := (q_in_bd (x := ((32 * (lin - 4)) + ((2 * (col - 4)) + 1)) &&& 1023) (n := 1024) (U := 1023) (L := 0) (q_and_lo ((32 * (lin - 4)) + ((2 * (col - 4)) + 1)) 1023) (q_and_hi ((32 * (lin - 4)) + ((2 * (col - 4)) + 1)) 1023 1023))
            generalize (((32 * (lin - 4)) + ((2 * (col - 4)) + 1)) &&& 1023) = y13 at iy13 ⊢
            refine q_Ru_rsT (g2 := (115, [(7, .int 0), (6, .int 0), (5, .int ((2 * (col - 4)) + 1)), (4, .int (2 * (col - 4))), (3, .int col), (2, .int (lin - 4)), (0, .ref 66), (1, .ref 96)], [], (q_cX (q_uA (q_rA w12 smp tr a16 a17 a21 a22) 32 (upd w12 (y13.toNatClampNeg) 0)) (q_rI t14 t19 p F left dn ins) (q_rJ y), 40, 26520))) rfl q_astX_32 iy13 ?_
            generalize (upd w12 (y13.toNatClampNeg) 0) = w14
            show q_Ru _ _ _ (115, [(7, .int 0), (6, .int 0), (5, .int ((2 * (col - 4)) + 1)), (4, .int (2 * (col - 4))), (3, .int col), (2, .int (lin - 4)), (0, .ref 66), (1, .ref 96)], [], (q_cX (q_rA w14 smp tr a16 a17 a21 a22) (q_rI t14 t19 p F left dn ins) (q_rJ y), 40, 26520)) _
            refine q_Ru_seg (g2 := (53, [(5, .int (((2 * (col - 4)) + 1) + 1)), (7, .int 0), (6, .int 0), (4, .int (2 * (col - 4))), (3, .int col), (2, .int (lin - 4)), (0, .ref 66), (1, .ref 96)], [.int ((2 * (col - 4)) + 1), .int (((2 * (col - 4)) + 1) + 1)], (q_cX (q_rA w14 smp tr a16 a17 a21 a22) (q_rI t14 t19 p F left dn ins) (q_rJ y), 40, 26520))) 6 (fun _ _ => rfl) ?_
            refine q_Ru_rsT (g2 := (121, [(5, .int (((2 * (col - 4)) + 1) + 1)), (7, .int 0), (6, .int 0), (4, .int (2 * (col - 4))), (3, .int col), (2, .int (lin - 4)), (0, .ref 66), (1, .ref 96)], [], (q_cX (q_rA w14 smp tr a16 a17 a21 a22) (q_rI t14 t19 p F left dn ins) (q_rJ y), 40, 26520))) rfl rfl h144 ?_
            refine q_Ru_seg (g2 := (122, [(5, .int (((2 * (col - 4)) + 1) + 1)), (7, .int 0), (6, .int 0), (4, .int (2 * (col - 4))), (3, .int col), (2, .int (lin - 4)), (0, .ref 66), (1, .ref 96)], [.ref 66], (q_cX (q_rA w14 smp tr a16 a17 a21 a22) (q_rI t14 t19 p F left dn ins) (q_rJ y), 40, 26520))) 1 (fun _ _ => rfl) ?_
            refine q_Ru_call (v := (some (.ref 78))) (h2 := (q_cX (q_rA w14 smp tr a16 a17 a21 a22) (q_rI t14 t19 p F left dn ins) (q_rJ y), 40, 26520)) rfl rfl ?_ ?_
            · refine q_Ca_of (Nat.le_of_ble_eq_true rfl) ?_
              refine q_Ru_seg (g2 := (4, [(0, .ref 66)], [.long y], (q_cX (q_rA w14 smp tr a16 a17 a21 a22) (q_rI t14 t19 p F left dn ins) (q_rJ y), 40, 26520))) 2 (fun _ _ => rfl) ?_
              refine q_Ru_seg (g2 := (14, [(0, .ref 66)], [.int (lg_cmp ((y / 960) - (y / 960) / 2 * 2) 0)], (q_cX (q_rA w14 smp tr a16 a17 a21 a22) (q_rI t14 t19 p F left dn ins) (q_rJ y), 40, 26520))) 6 (fun _ _ => rfl) ?_
              rw [hQ]
              refine q_Ru_rsF (g2 := (17, [(0, .ref 66)], [], (q_cX (q_rA w14 smp tr a16 a17 a21 a22) (q_rI t14 t19 p F left dn ins) (q_rJ y), 40, 26520))) rfl rfl (q_d_neT h145) ?_
              refine q_Ru_seg (g2 := (28, [(0, .ref 66)], [.ref 78], (q_cX (q_rA w14 smp tr a16 a17 a21 a22) (q_rI t14 t19 p F left dn ins) (q_rJ y), 40, 26520))) 3 (fun _ _ => rfl) ?_
              exact q_Ru_ret rfl rfl
            show q_Ru _ _ _ (125, [(5, .int (((2 * (col - 4)) + 1) + 1)), (7, .int 0), (6, .int 0), (4, .int (2 * (col - 4))), (3, .int col), (2, .int (lin - 4)), (0, .ref 66), (1, .ref 96)], [.ref 78], (q_cX (q_rA w14 smp tr a16 a17 a21 a22) (q_rI t14 t19 p F left dn ins) (q_rJ y), 40, 26520)) _
            refine q_Ru_seg (g2 := (129, [(5, .int (((2 * (col - 4)) + 1) + 1)), (7, .int 0), (6, .int 0), (4, .int (2 * (col - 4))), (3, .int col), (2, .int (lin - 4)), (0, .ref 66), (1, .ref 96)], [.int t14, .ref 78], (q_cX (q_rA w14 smp tr a16 a17 a21 a22) (q_rI t14 t19 p F left dn ins) (q_rJ y), 40, 26520))) 2 (fun _ _ => rfl) ?_
            refine q_Ru_seg (g2 := (134, [(5, .int (((2 * (col - 4)) + 1) + 1)), (7, .int 0), (6, .int 0), (4, .int (2 * (col - 4))), (3, .int col), (2, .int (lin - 4)), (0, .ref 66), (1, .ref 96)], [], (q_cX (q_rA w14 smp tr a16 a17 a21 a22) (q_uI (q_rI t14 t19 p F left dn ins) 14 3 (t14 + 1)) (q_rJ y), 40, 26520))) 3 (fun _ _ => rfl) ?_
            exact q_Ru_ret rfl rfl
          | false =>
            refine ⟨(upd (upd pix ((((32 * (lin - 4)) + (2 * (col - 4))) &&& 1023).toNatClampNeg) 0) ((((32 * (lin - 4)) + ((2 * (col - 4)) + 1)) &&& 1023).toNatClampNeg) 0), t14, t19 + 1, ?_⟩
            refine q_Ca_of (Nat.le_of_ble_eq_true rfl) ?_
            refine q_Ru_seg (g2 := (1, [(0, .ref 66), (1, .ref 96)], [.ref 66], (q_cX (q_rA pix smp tr a16 a17 a21 a22) (q_rI t14 t19 p F left dn ins) (q_rJ y), 40, 26520))) 1 (fun _ _ => rfl) ?_
            refine q_Ru_call (v := (some (.int pos))) (h2 := (q_cX (q_rA pix smp tr a16 a17 a21 a22) (q_rI t14 t19 p F left dn ins) (q_rJ y), 40, 26520)) rfl rfl ?_ ?_
            · refine q_Ca_of (Nat.le_of_ble_eq_true rfl) ?_
              refine q_Ru_seg (g2 := (4, [(0, .ref 66)], [.long y], (q_cX (q_rA pix smp tr a16 a17 a21 a22) (q_rI t14 t19 p F left dn ins) (q_rJ y), 40, 26520))) 2 (fun _ _ => rfl) ?_
              refine q_Ru_seg (g2 := (9, [(0, .ref 66)], [.int ((y - y / 960 * 960).toInt32)], (q_cX (q_rA pix smp tr a16 a17 a21 a22) (q_rI t14 t19 p F left dn ins) (q_rJ y), 40, 26520))) 3 (fun _ _ => rfl) ?_
              rw [hP]
              exact q_Ru_ret rfl rfl
            show q_Ru _ _ _ (4, [(0, .ref 66), (1, .ref 96)], [.int pos], (q_cX (q_rA pix smp tr a16 a17 a21 a22) (q_rI t14 t19 p F left dn ins) (q_rJ y), 40, 26520)) _
            refine q_Ru_seg (g2 := (7, [(0, .ref 66), (1, .ref 96)], [.int (pos / 24)], (q_cX (q_rA pix smp tr a16 a17 a21 a22) (q_rI t14 t19 p F left dn ins) (q_rJ y), 40, 26520))) 2 (fun _ _ => rfl) ?_
            rw [hL]
            refine q_Ru_seg (g2 := (11, [(2, .int (lin - 4)), (0, .ref 66), (1, .ref 96)], [.ref 66], (q_cX (q_rA pix smp tr a16 a17 a21 a22) (q_rI t14 t19 p F left dn ins) (q_rJ y), 40, 26520))) 4 (fun _ _ => rfl) ?_
            refine q_Ru_call (v := (some (.int col))) (h2 := (q_cX (q_rA pix smp tr a16 a17 a21 a22) (q_rI t14 t19 p F left dn ins) (q_rJ y), 40, 26520)) rfl rfl ?_ ?_
            · refine q_Ca_of (Nat.le_of_ble_eq_true rfl) ?_
              refine q_Ru_seg (g2 := (4, [(0, .ref 66)], [.long y], (q_cX (q_rA pix smp tr a16 a17 a21 a22) (q_rI t14 t19 p F left dn ins) (q_rJ y), 40, 26520))) 2 (fun _ _ => rfl) ?_
              refine q_Ru_seg (g2 := (9, [(0, .ref 66)], [.int ((y - y / 24 * 24).toInt32)], (q_cX (q_rA pix smp tr a16 a17 a21 a22) (q_rI t14 t19 p F left dn ins) (q_rJ y), 40, 26520))) 3 (fun _ _ => rfl) ?_
              rw [hC]
              exact q_Ru_ret rfl rfl
            show q_Ru _ _ _ (14, [(2, .int (lin - 4)), (0, .ref 66), (1, .ref 96)], [.int col], (q_cX (q_rA pix smp tr a16 a17 a21 a22) (q_rI t14 t19 p F left dn ins) (q_rJ y), 40, 26520)) _
            refine q_Ru_seg (g2 := (16, [(3, .int col), (2, .int (lin - 4)), (0, .ref 66), (1, .ref 96)], [.int (lin - 4)], (q_cX (q_rA pix smp tr a16 a17 a21 a22) (q_rI t14 t19 p F left dn ins) (q_rJ y), 40, 26520))) 2 (fun _ _ => rfl) ?_
            refine q_Ru_rsF (g2 := (19, [(3, .int col), (2, .int (lin - 4)), (0, .ref 66), (1, .ref 96)], [], (q_cX (q_rA pix smp tr a16 a17 a21 a22) (q_rI t14 t19 p F left dn ins) (q_rJ y), 40, 26520))) rfl rfl h136 ?_
            refine q_Ru_seg (g2 := (22, [(3, .int col), (2, .int (lin - 4)), (0, .ref 66), (1, .ref 96)], [.int 32, .int (lin - 4)], (q_cX (q_rA pix smp tr a16 a17 a21 a22) (q_rI t14 t19 p F left dn ins) (q_rJ y), 40, 26520))) 2 (fun _ _ => rfl) ?_
            refine q_Ru_rsF (g2 := (25, [(3, .int col), (2, .int (lin - 4)), (0, .ref 66), (1, .ref 96)], [], (q_cX (q_rA pix smp tr a16 a17 a21 a22) (q_rI t14 t19 p F left dn ins) (q_rJ y), 40, 26520))) rfl rfl (q_d_geT h138) ?_
            refine q_Ru_seg (g2 := (27, [(3, .int col), (2, .int (lin - 4)), (0, .ref 66), (1, .ref 96)], [.int 4, .int col], (q_cX (q_rA pix smp tr a16 a17 a21 a22) (q_rI t14 t19 p F left dn ins) (q_rJ y), 40, 26520))) 2 (fun _ _ => rfl) ?_
            refine q_Ru_rsF (g2 := (30, [(3, .int col), (2, .int (lin - 4)), (0, .ref 66), (1, .ref 96)], [], (q_cX (q_rA pix smp tr a16 a17 a21 a22) (q_rI t14 t19 p F left dn ins) (q_rJ y), 40, 26520))) rfl rfl h139 ?_
            refine q_Ru_seg (g2 := (33, [(3, .int col), (2, .int (lin - 4)), (0, .ref 66), (1, .ref 96)], [.int 19, .int col], (q_cX (q_rA pix smp tr a16 a17 a21 a22) (q_rI t14 t19 p F left dn ins) (q_rJ y), 40, 26520))) 2 (fun _ _ => rfl) ?_
            refine q_Ru_rsF (g2 := (36, [(3, .int col), (2, .int (lin - 4)), (0, .ref 66), (1, .ref 96)], [], (q_cX (q_rA pix smp tr a16 a17 a21 a22) (q_rI t14 t19 p F left dn ins) (q_rJ y), 40, 26520))) rfl rfl h141 ?_
            refine q_Ru_seg (g2 := (53, [(5, .int (2 * (col - 4))), (4, .int (2 * (col - 4))), (3, .int col), (2, .int (lin - 4)), (0, .ref 66), (1, .ref 96)], [.int ((2 * (col - 4)) + 1), .int (2 * (col - 4))], (q_cX (q_rA pix smp tr a16 a17 a21 a22) (q_rI t14 t19 p F left dn ins) (q_rJ y), 40, 26520))) 12 (fun _ _ => rfl) ?_
            refine q_Ru_rsF (g2 := (56, [(5, .int (2 * (col - 4))), (4, .int (2 * (col - 4))), (3, .int col), (2, .int (lin - 4)), (0, .ref 66), (1, .ref 96)], [], (q_cX (q_rA pix smp tr a16 a17 a21 a22) (q_rI t14 t19 p F left dn ins) (q_rJ y), 40, 26520))) rfl rfl h143 ?_
            refine q_Ru_seg (g2 := (63, [(5, .int (2 * (col - 4))), (4, .int (2 * (col - 4))), (3, .int col), (2, .int (lin - 4)), (0, .ref 66), (1, .ref 96)], [.int (lin - 4), .int (2 * (col - 4)), .ref 67], (q_cX (q_rA pix smp tr a16 a17 a21 a22) (q_rI t14 t19 p F left dn ins) (q_rJ y), 40, 26520))) 4 (fun _ _ => rfl) ?_
            refine q_Ru_call (v := (some (.int 0))) (h2 := (q_cX (q_rA pix smp tr a16 a17 a21 a22) (q_rI t14 t19 p F left dn ins) (q_rJ y), 40, 26520)) rfl rfl ?_ ?_
            · exact (q_p_valueAt pix smp tr a16 a17 a21 a22 t14 t19 p F left dn ins y (2 * (col - 4)) (lin - 4)).le (Nat.le_of_ble_eq_true rfl)
            show q_Ru _ _ _ (66, [(5, .int (2 * (col - 4))), (4, .int (2 * (col - 4))), (3, .int col), (2, .int (lin - 4)), (0, .ref 66), (1, .ref 96)], [.int 0], (q_cX (q_rA pix smp tr a16 a17 a21 a22) (q_rI t14 t19 p F left dn ins) (q_rJ y), 40, 26520)) _
            refine q_Ru_seg (g2 := (75, [(6, .int 0), (5, .int (2 * (col - 4))), (4, .int (2 * (col - 4))), (3, .int col), (2, .int (lin - 4)), (0, .ref 66), (1, .ref 96)], [.int (lin - 4), .int (2 * (col - 4)), .ref 67], (q_cX (q_rA pix smp tr a16 a17 a21 a22) (q_rI t14 t19 p F left dn ins) (q_rJ y), 40, 26520))) 5 (fun _ _ => rfl) ?_
            refine q_Ru_call (v := (some (.int 0))) (h2 := (q_cX (q_rA pix smp tr a16 a17 a21 a22) (q_rI t14 t19 p F left dn ins) (q_rJ y), 40, 26520)) rfl rfl ?_ ?_
            · exact (q_p_spritesAt pix smp tr a16 a17 a21 a22 t14 t19 p F left dn ins y (2 * (col - 4)) (lin - 4)).le (Nat.le_of_ble_eq_true rfl)
            show q_Ru _ _ _ (78, [(6, .int 0), (5, .int (2 * (col - 4))), (4, .int (2 * (col - 4))), (3, .int col), (2, .int (lin - 4)), (0, .ref 66), (1, .ref 96)], [.int 0], (q_cX (q_rA pix smp tr a16 a17 a21 a22) (q_rI t14 t19 p F left dn ins) (q_rJ y), 40, 26520)) _
            refine q_Ru_seg (g2 := (88, [(7, .int 0), (6, .int 0), (5, .int (2 * (col - 4))), (4, .int (2 * (col - 4))), (3, .int col), (2, .int (lin - 4)), (0, .ref 66), (1, .ref 96)], [.int 0, .int 0, .ref 67], (q_cX (q_rA pix smp tr a16 a17 a21 a22) (q_rI t14 t19 p F left dn ins) (q_rJ y), 40, 26520))) 5 (fun _ _ => rfl) ?_
            refine q_Ru_call (v := none) (h2 := (q_cX (q_rA pix smp tr a16 a17 a21 a22) (q_rI t14 t19 p F left dn ins) (q_rJ y), 40, 26520)) rfl rfl ?_ ?_
            · exact (q_p_noteHits pix smp tr a16 a17 a21 a22 t14 t19 p F left dn ins y ).le (Nat.le_of_ble_eq_true rfl)
            show q_Ru _ _ _ (91, [(7, .int 0), (6, .int 0), (5, .int (2 * (col - 4))), (4, .int (2 * (col - 4))), (3, .int col), (2, .int (lin - 4)), (0, .ref 66), (1, .ref 96)], [], (q_cX (q_rA pix smp tr a16 a17 a21 a22) (q_rI t14 t19 p F left dn ins) (q_rJ y), 40, 26520)) _
            refine q_Ru_seg (g2 := (111, [(7, .int 0), (6, .int 0), (5, .int (2 * (col - 4))), (4, .int (2 * (col - 4))), (3, .int col), (2, .int (lin - 4)), (0, .ref 66), (1, .ref 96)], [.int 0, .int 0, .ref 67, .int (((32 * (lin - 4)) + (2 * (col - 4))) &&& 1023), .ref 96], (q_cX (q_rA pix smp tr a16 a17 a21 a22) (q_rI t14 t19 p F left dn ins) (q_rJ y), 40, 26520))) 12 (fun _ _ => rfl) ?_
            refine q_Ru_call (v := (some (.int 0))) (h2 := (q_cX (q_rA pix smp tr a16 a17 a21 a22) (q_rI t14 t19 p F left dn ins) (q_rJ y), 40, 26520)) rfl rfl ?_ ?_
            · exact (q_p_colourOf pix smp tr a16 a17 a21 a22 t14 t19 p F left dn ins y ).le (Nat.le_of_ble_eq_true rfl)
            show q_Ru _ _ _ (114, [(7, .int 0), (6, .int 0), (5, .int (2 * (col - 4))), (4, .int (2 * (col - 4))), (3, .int col), (2, .int (lin - 4)), (0, .ref 66), (1, .ref 96)], [.int 0, .int (((32 * (lin - 4)) + (2 * (col - 4))) &&& 1023), .ref 96], (q_cX (q_rA pix smp tr a16 a17 a21 a22) (q_rI t14 t19 p F left dn ins) (q_rJ y), 40, 26520)) _
            have iy15 := (q_in_bd (x := ((32 * (lin - 4)) + (2 * (col - 4))) &&& 1023) (n := 1024) (U := 1023) (L := 0) (q_and_lo ((32 * (lin - 4)) + (2 * (col - 4))) 1023) (q_and_hi ((32 * (lin - 4)) + (2 * (col - 4))) 1023 1023))
            generalize (((32 * (lin - 4)) + (2 * (col - 4))) &&& 1023) = y15 at iy15 ⊢
            refine q_Ru_rsT (g2 := (115, [(7, .int 0), (6, .int 0), (5, .int (2 * (col - 4))), (4, .int (2 * (col - 4))), (3, .int col), (2, .int (lin - 4)), (0, .ref 66), (1, .ref 96)], [], (q_cX (q_uA (q_rA pix smp tr a16 a17 a21 a22) 32 (upd pix (y15.toNatClampNeg) 0)) (q_rI t14 t19 p F left dn ins) (q_rJ y), 40, 26520))) rfl q_astX_32 iy15 ?_
            generalize (upd pix (y15.toNatClampNeg) 0) = w16
            show q_Ru _ _ _ (115, [(7, .int 0), (6, .int 0), (5, .int (2 * (col - 4))), (4, .int (2 * (col - 4))), (3, .int col), (2, .int (lin - 4)), (0, .ref 66), (1, .ref 96)], [], (q_cX (q_rA w16 smp tr a16 a17 a21 a22) (q_rI t14 t19 p F left dn ins) (q_rJ y), 40, 26520)) _
            refine q_Ru_seg (g2 := (53, [(5, .int ((2 * (col - 4)) + 1)), (7, .int 0), (6, .int 0), (4, .int (2 * (col - 4))), (3, .int col), (2, .int (lin - 4)), (0, .ref 66), (1, .ref 96)], [.int ((2 * (col - 4)) + 1), .int ((2 * (col - 4)) + 1)], (q_cX (q_rA w16 smp tr a16 a17 a21 a22) (q_rI t14 t19 p F left dn ins) (q_rJ y), 40, 26520))) 6 (fun _ _ => rfl) ?_
            refine q_Ru_rsF (g2 := (56, [(5, .int ((2 * (col - 4)) + 1)), (7, .int 0), (6, .int 0), (4, .int (2 * (col - 4))), (3, .int col), (2, .int (lin - 4)), (0, .ref 66), (1, .ref 96)], [], (q_cX (q_rA w16 smp tr a16 a17 a21 a22) (q_rI t14 t19 p F left dn ins) (q_rJ y), 40, 26520))) rfl rfl q_d_rf_gt ?_
            refine q_Ru_seg (g2 := (63, [(5, .int ((2 * (col - 4)) + 1)), (7, .int 0), (6, .int 0), (4, .int (2 * (col - 4))), (3, .int col), (2, .int (lin - 4)), (0, .ref 66), (1, .ref 96)], [.int (lin - 4), .int ((2 * (col - 4)) + 1), .ref 67], (q_cX (q_rA w16 smp tr a16 a17 a21 a22) (q_rI t14 t19 p F left dn ins) (q_rJ y), 40, 26520))) 4 (fun _ _ => rfl) ?_
            refine q_Ru_call (v := (some (.int 0))) (h2 := (q_cX (q_rA w16 smp tr a16 a17 a21 a22) (q_rI t14 t19 p F left dn ins) (q_rJ y), 40, 26520)) rfl rfl ?_ ?_
            · exact (q_p_valueAt w16 smp tr a16 a17 a21 a22 t14 t19 p F left dn ins y ((2 * (col - 4)) + 1) (lin - 4)).le (Nat.le_of_ble_eq_true rfl)
            show q_Ru _ _ _ (66, [(5, .int ((2 * (col - 4)) + 1)), (7, .int 0), (6, .int 0), (4, .int (2 * (col - 4))), (3, .int col), (2, .int (lin - 4)), (0, .ref 66), (1, .ref 96)], [.int 0], (q_cX (q_rA w16 smp tr a16 a17 a21 a22) (q_rI t14 t19 p F left dn ins) (q_rJ y), 40, 26520)) _
            refine q_Ru_seg (g2 := (75, [(6, .int 0), (5, .int ((2 * (col - 4)) + 1)), (7, .int 0), (4, .int (2 * (col - 4))), (3, .int col), (2, .int (lin - 4)), (0, .ref 66), (1, .ref 96)], [.int (lin - 4), .int ((2 * (col - 4)) + 1), .ref 67], (q_cX (q_rA w16 smp tr a16 a17 a21 a22) (q_rI t14 t19 p F left dn ins) (q_rJ y), 40, 26520))) 5 (fun _ _ => rfl) ?_
            refine q_Ru_call (v := (some (.int 0))) (h2 := (q_cX (q_rA w16 smp tr a16 a17 a21 a22) (q_rI t14 t19 p F left dn ins) (q_rJ y), 40, 26520)) rfl rfl ?_ ?_
            · exact (q_p_spritesAt w16 smp tr a16 a17 a21 a22 t14 t19 p F left dn ins y ((2 * (col - 4)) + 1) (lin - 4)).le (Nat.le_of_ble_eq_true rfl)
            show q_Ru _ _ _ (78, [(6, .int 0), (5, .int ((2 * (col - 4)) + 1)), (7, .int 0), (4, .int (2 * (col - 4))), (3, .int col), (2, .int (lin - 4)), (0, .ref 66), (1, .ref 96)], [.int 0], (q_cX (q_rA w16 smp tr a16 a17 a21 a22) (q_rI t14 t19 p F left dn ins) (q_rJ y), 40, 26520)) _
            refine q_Ru_seg (g2 := (88, [(7, .int 0), (6, .int 0), (5, .int ((2 * (col - 4)) + 1)), (4, .int (2 * (col - 4))), (3, .int col), (2, .int (lin - 4)), (0, .ref 66), (1, .ref 96)], [.int 0, .int 0, .ref 67], (q_cX (q_rA w16 smp tr a16 a17 a21 a22) (q_rI t14 t19 p F left dn ins) (q_rJ y), 40, 26520))) 5 (fun _ _ => rfl) ?_
            refine q_Ru_call (v := none) (h2 := (q_cX (q_rA w16 smp tr a16 a17 a21 a22) (q_rI t14 t19 p F left dn ins) (q_rJ y), 40, 26520)) rfl rfl ?_ ?_
            · exact (q_p_noteHits w16 smp tr a16 a17 a21 a22 t14 t19 p F left dn ins y ).le (Nat.le_of_ble_eq_true rfl)
            show q_Ru _ _ _ (91, [(7, .int 0), (6, .int 0), (5, .int ((2 * (col - 4)) + 1)), (4, .int (2 * (col - 4))), (3, .int col), (2, .int (lin - 4)), (0, .ref 66), (1, .ref 96)], [], (q_cX (q_rA w16 smp tr a16 a17 a21 a22) (q_rI t14 t19 p F left dn ins) (q_rJ y), 40, 26520)) _
            refine q_Ru_seg (g2 := (111, [(7, .int 0), (6, .int 0), (5, .int ((2 * (col - 4)) + 1)), (4, .int (2 * (col - 4))), (3, .int col), (2, .int (lin - 4)), (0, .ref 66), (1, .ref 96)], [.int 0, .int 0, .ref 67, .int (((32 * (lin - 4)) + ((2 * (col - 4)) + 1)) &&& 1023), .ref 96], (q_cX (q_rA w16 smp tr a16 a17 a21 a22) (q_rI t14 t19 p F left dn ins) (q_rJ y), 40, 26520))) 12 (fun _ _ => rfl) ?_
            refine q_Ru_call (v := (some (.int 0))) (h2 := (q_cX (q_rA w16 smp tr a16 a17 a21 a22) (q_rI t14 t19 p F left dn ins) (q_rJ y), 40, 26520)) rfl rfl ?_ ?_
            · exact (q_p_colourOf w16 smp tr a16 a17 a21 a22 t14 t19 p F left dn ins y ).le (Nat.le_of_ble_eq_true rfl)
            show q_Ru _ _ _ (114, [(7, .int 0), (6, .int 0), (5, .int ((2 * (col - 4)) + 1)), (4, .int (2 * (col - 4))), (3, .int col), (2, .int (lin - 4)), (0, .ref 66), (1, .ref 96)], [.int 0, .int (((32 * (lin - 4)) + ((2 * (col - 4)) + 1)) &&& 1023), .ref 96], (q_cX (q_rA w16 smp tr a16 a17 a21 a22) (q_rI t14 t19 p F left dn ins) (q_rJ y), 40, 26520)) _
            have iy17 := (q_in_bd (x := ((32 * (lin - 4)) + ((2 * (col - 4)) + 1)) &&& 1023) (n := 1024) (U := 1023) (L := 0) (q_and_lo ((32 * (lin - 4)) + ((2 * (col - 4)) + 1)) 1023) (q_and_hi ((32 * (lin - 4)) + ((2 * (col - 4)) + 1)) 1023 1023))
            generalize (((32 * (lin - 4)) + ((2 * (col - 4)) + 1)) &&& 1023) = y17 at iy17 ⊢
            refine q_Ru_rsT (g2 := (115, [(7, .int 0), (6, .int 0), (5, .int ((2 * (col - 4)) + 1)), (4, .int (2 * (col - 4))), (3, .int col), (2, .int (lin - 4)), (0, .ref 66), (1, .ref 96)], [], (q_cX (q_uA (q_rA w16 smp tr a16 a17 a21 a22) 32 (upd w16 (y17.toNatClampNeg) 0)) (q_rI t14 t19 p F left dn ins) (q_rJ y), 40, 26520))) rfl q_astX_32 iy17 ?_
            generalize (upd w16 (y17.toNatClampNeg) 0) = w18
            show q_Ru _ _ _ (115, [(7, .int 0), (6, .int 0), (5, .int ((2 * (col - 4)) + 1)), (4, .int (2 * (col - 4))), (3, .int col), (2, .int (lin - 4)), (0, .ref 66), (1, .ref 96)], [], (q_cX (q_rA w18 smp tr a16 a17 a21 a22) (q_rI t14 t19 p F left dn ins) (q_rJ y), 40, 26520)) _
            refine q_Ru_seg (g2 := (53, [(5, .int (((2 * (col - 4)) + 1) + 1)), (7, .int 0), (6, .int 0), (4, .int (2 * (col - 4))), (3, .int col), (2, .int (lin - 4)), (0, .ref 66), (1, .ref 96)], [.int ((2 * (col - 4)) + 1), .int (((2 * (col - 4)) + 1) + 1)], (q_cX (q_rA w18 smp tr a16 a17 a21 a22) (q_rI t14 t19 p F left dn ins) (q_rJ y), 40, 26520))) 6 (fun _ _ => rfl) ?_
            refine q_Ru_rsT (g2 := (121, [(5, .int (((2 * (col - 4)) + 1) + 1)), (7, .int 0), (6, .int 0), (4, .int (2 * (col - 4))), (3, .int col), (2, .int (lin - 4)), (0, .ref 66), (1, .ref 96)], [], (q_cX (q_rA w18 smp tr a16 a17 a21 a22) (q_rI t14 t19 p F left dn ins) (q_rJ y), 40, 26520))) rfl rfl h144 ?_
            refine q_Ru_seg (g2 := (122, [(5, .int (((2 * (col - 4)) + 1) + 1)), (7, .int 0), (6, .int 0), (4, .int (2 * (col - 4))), (3, .int col), (2, .int (lin - 4)), (0, .ref 66), (1, .ref 96)], [.ref 66], (q_cX (q_rA w18 smp tr a16 a17 a21 a22) (q_rI t14 t19 p F left dn ins) (q_rJ y), 40, 26520))) 1 (fun _ _ => rfl) ?_
            refine q_Ru_call (v := (some (.ref 83))) (h2 := (q_cX (q_rA w18 smp tr a16 a17 a21 a22) (q_rI t14 t19 p F left dn ins) (q_rJ y), 40, 26520)) rfl rfl ?_ ?_
            · refine q_Ca_of (Nat.le_of_ble_eq_true rfl) ?_
              refine q_Ru_seg (g2 := (4, [(0, .ref 66)], [.long y], (q_cX (q_rA w18 smp tr a16 a17 a21 a22) (q_rI t14 t19 p F left dn ins) (q_rJ y), 40, 26520))) 2 (fun _ _ => rfl) ?_
              refine q_Ru_seg (g2 := (14, [(0, .ref 66)], [.int (lg_cmp ((y / 960) - (y / 960) / 2 * 2) 0)], (q_cX (q_rA w18 smp tr a16 a17 a21 a22) (q_rI t14 t19 p F left dn ins) (q_rJ y), 40, 26520))) 6 (fun _ _ => rfl) ?_
              rw [hQ]
              refine q_Ru_rsT (g2 := (24, [(0, .ref 66)], [], (q_cX (q_rA w18 smp tr a16 a17 a21 a22) (q_rI t14 t19 p F left dn ins) (q_rJ y), 40, 26520))) rfl rfl (q_d_neF h145) ?_
              refine q_Ru_seg (g2 := (28, [(0, .ref 66)], [.ref 83], (q_cX (q_rA w18 smp tr a16 a17 a21 a22) (q_rI t14 t19 p F left dn ins) (q_rJ y), 40, 26520))) 2 (fun _ _ => rfl) ?_
              exact q_Ru_ret rfl rfl
            show q_Ru _ _ _ (125, [(5, .int (((2 * (col - 4)) + 1) + 1)), (7, .int 0), (6, .int 0), (4, .int (2 * (col - 4))), (3, .int col), (2, .int (lin - 4)), (0, .ref 66), (1, .ref 96)], [.ref 83], (q_cX (q_rA w18 smp tr a16 a17 a21 a22) (q_rI t14 t19 p F left dn ins) (q_rJ y), 40, 26520)) _
            refine q_Ru_seg (g2 := (129, [(5, .int (((2 * (col - 4)) + 1) + 1)), (7, .int 0), (6, .int 0), (4, .int (2 * (col - 4))), (3, .int col), (2, .int (lin - 4)), (0, .ref 66), (1, .ref 96)], [.int t19, .ref 83], (q_cX (q_rA w18 smp tr a16 a17 a21 a22) (q_rI t14 t19 p F left dn ins) (q_rJ y), 40, 26520))) 2 (fun _ _ => rfl) ?_
            refine q_Ru_seg (g2 := (134, [(5, .int (((2 * (col - 4)) + 1) + 1)), (7, .int 0), (6, .int 0), (4, .int (2 * (col - 4))), (3, .int col), (2, .int (lin - 4)), (0, .ref 66), (1, .ref 96)], [], (q_cX (q_rA w18 smp tr a16 a17 a21 a22) (q_uI (q_rI t14 t19 p F left dn ins) 19 3 (t19 + 1)) (q_rJ y), 40, 26520))) 3 (fun _ _ => rfl) ?_
            exact q_Ru_ret rfl rfl
    | false =>
      cases h146 : decide (pq = 0) with
      | true =>
        refine ⟨pix, t14 + 1, t19, ?_⟩
        refine q_Ca_of (Nat.le_of_ble_eq_true rfl) ?_
        refine q_Ru_seg (g2 := (1, [(0, .ref 66), (1, .ref 96)], [.ref 66], (q_cX (q_rA pix smp tr a16 a17 a21 a22) (q_rI t14 t19 p F left dn ins) (q_rJ y), 40, 26520))) 1 (fun _ _ => rfl) ?_
        refine q_Ru_call (v := (some (.int pos))) (h2 := (q_cX (q_rA pix smp tr a16 a17 a21 a22) (q_rI t14 t19 p F left dn ins) (q_rJ y), 40, 26520)) rfl rfl ?_ ?_
        · refine q_Ca_of (Nat.le_of_ble_eq_true rfl) ?_
          refine q_Ru_seg (g2 := (4, [(0, .ref 66)], [.long y], (q_cX (q_rA pix smp tr a16 a17 a21 a22) (q_rI t14 t19 p F left dn ins) (q_rJ y), 40, 26520))) 2 (fun _ _ => rfl) ?_
          refine q_Ru_seg (g2 := (9, [(0, .ref 66)], [.int ((y - y / 960 * 960).toInt32)], (q_cX (q_rA pix smp tr a16 a17 a21 a22) (q_rI t14 t19 p F left dn ins) (q_rJ y), 40, 26520))) 3 (fun _ _ => rfl) ?_
          rw [hP]
          exact q_Ru_ret rfl rfl
        show q_Ru _ _ _ (4, [(0, .ref 66), (1, .ref 96)], [.int pos], (q_cX (q_rA pix smp tr a16 a17 a21 a22) (q_rI t14 t19 p F left dn ins) (q_rJ y), 40, 26520)) _
        refine q_Ru_seg (g2 := (7, [(0, .ref 66), (1, .ref 96)], [.int (pos / 24)], (q_cX (q_rA pix smp tr a16 a17 a21 a22) (q_rI t14 t19 p F left dn ins) (q_rJ y), 40, 26520))) 2 (fun _ _ => rfl) ?_
        rw [hL]
        refine q_Ru_seg (g2 := (11, [(2, .int (lin - 4)), (0, .ref 66), (1, .ref 96)], [.ref 66], (q_cX (q_rA pix smp tr a16 a17 a21 a22) (q_rI t14 t19 p F left dn ins) (q_rJ y), 40, 26520))) 4 (fun _ _ => rfl) ?_
        refine q_Ru_call (v := (some (.int col))) (h2 := (q_cX (q_rA pix smp tr a16 a17 a21 a22) (q_rI t14 t19 p F left dn ins) (q_rJ y), 40, 26520)) rfl rfl ?_ ?_
        · refine q_Ca_of (Nat.le_of_ble_eq_true rfl) ?_
          refine q_Ru_seg (g2 := (4, [(0, .ref 66)], [.long y], (q_cX (q_rA pix smp tr a16 a17 a21 a22) (q_rI t14 t19 p F left dn ins) (q_rJ y), 40, 26520))) 2 (fun _ _ => rfl) ?_
          refine q_Ru_seg (g2 := (9, [(0, .ref 66)], [.int ((y - y / 24 * 24).toInt32)], (q_cX (q_rA pix smp tr a16 a17 a21 a22) (q_rI t14 t19 p F left dn ins) (q_rJ y), 40, 26520))) 3 (fun _ _ => rfl) ?_
          rw [hC]
          exact q_Ru_ret rfl rfl
        show q_Ru _ _ _ (14, [(2, .int (lin - 4)), (0, .ref 66), (1, .ref 96)], [.int col], (q_cX (q_rA pix smp tr a16 a17 a21 a22) (q_rI t14 t19 p F left dn ins) (q_rJ y), 40, 26520)) _
        refine q_Ru_seg (g2 := (16, [(3, .int col), (2, .int (lin - 4)), (0, .ref 66), (1, .ref 96)], [.int (lin - 4)], (q_cX (q_rA pix smp tr a16 a17 a21 a22) (q_rI t14 t19 p F left dn ins) (q_rJ y), 40, 26520))) 2 (fun _ _ => rfl) ?_
        refine q_Ru_rsF (g2 := (19, [(3, .int col), (2, .int (lin - 4)), (0, .ref 66), (1, .ref 96)], [], (q_cX (q_rA pix smp tr a16 a17 a21 a22) (q_rI t14 t19 p F left dn ins) (q_rJ y), 40, 26520))) rfl rfl h136 ?_
        refine q_Ru_seg (g2 := (22, [(3, .int col), (2, .int (lin - 4)), (0, .ref 66), (1, .ref 96)], [.int 32, .int (lin - 4)], (q_cX (q_rA pix smp tr a16 a17 a21 a22) (q_rI t14 t19 p F left dn ins) (q_rJ y), 40, 26520))) 2 (fun _ _ => rfl) ?_
        refine q_Ru_rsT (g2 := (121, [(3, .int col), (2, .int (lin - 4)), (0, .ref 66), (1, .ref 96)], [], (q_cX (q_rA pix smp tr a16 a17 a21 a22) (q_rI t14 t19 p F left dn ins) (q_rJ y), 40, 26520))) rfl rfl (q_d_geF h138) ?_
        refine q_Ru_seg (g2 := (122, [(3, .int col), (2, .int (lin - 4)), (0, .ref 66), (1, .ref 96)], [.ref 66], (q_cX (q_rA pix smp tr a16 a17 a21 a22) (q_rI t14 t19 p F left dn ins) (q_rJ y), 40, 26520))) 1 (fun _ _ => rfl) ?_
        refine q_Ru_call (v := (some (.ref 78))) (h2 := (q_cX (q_rA pix smp tr a16 a17 a21 a22) (q_rI t14 t19 p F left dn ins) (q_rJ y), 40, 26520)) rfl rfl ?_ ?_
        · refine q_Ca_of (Nat.le_of_ble_eq_true rfl) ?_
          refine q_Ru_seg (g2 := (4, [(0, .ref 66)], [.long y], (q_cX (q_rA pix smp tr a16 a17 a21 a22) (q_rI t14 t19 p F left dn ins) (q_rJ y), 40, 26520))) 2 (fun _ _ => rfl) ?_
          refine q_Ru_seg (g2 := (14, [(0, .ref 66)], [.int (lg_cmp ((y / 960) - (y / 960) / 2 * 2) 0)], (q_cX (q_rA pix smp tr a16 a17 a21 a22) (q_rI t14 t19 p F left dn ins) (q_rJ y), 40, 26520))) 6 (fun _ _ => rfl) ?_
          rw [hQ]
          refine q_Ru_rsF (g2 := (17, [(0, .ref 66)], [], (q_cX (q_rA pix smp tr a16 a17 a21 a22) (q_rI t14 t19 p F left dn ins) (q_rJ y), 40, 26520))) rfl rfl (q_d_neT h146) ?_
          refine q_Ru_seg (g2 := (28, [(0, .ref 66)], [.ref 78], (q_cX (q_rA pix smp tr a16 a17 a21 a22) (q_rI t14 t19 p F left dn ins) (q_rJ y), 40, 26520))) 3 (fun _ _ => rfl) ?_
          exact q_Ru_ret rfl rfl
        show q_Ru _ _ _ (125, [(3, .int col), (2, .int (lin - 4)), (0, .ref 66), (1, .ref 96)], [.ref 78], (q_cX (q_rA pix smp tr a16 a17 a21 a22) (q_rI t14 t19 p F left dn ins) (q_rJ y), 40, 26520)) _
        refine q_Ru_seg (g2 := (129, [(3, .int col), (2, .int (lin - 4)), (0, .ref 66), (1, .ref 96)], [.int t14, .ref 78], (q_cX (q_rA pix smp tr a16 a17 a21 a22) (q_rI t14 t19 p F left dn ins) (q_rJ y), 40, 26520))) 2 (fun _ _ => rfl) ?_
        refine q_Ru_seg (g2 := (134, [(3, .int col), (2, .int (lin - 4)), (0, .ref 66), (1, .ref 96)], [], (q_cX (q_rA pix smp tr a16 a17 a21 a22) (q_uI (q_rI t14 t19 p F left dn ins) 14 3 (t14 + 1)) (q_rJ y), 40, 26520))) 3 (fun _ _ => rfl) ?_
        exact q_Ru_ret rfl rfl
      | false =>
        refine ⟨pix, t14, t19 + 1, ?_⟩
        refine q_Ca_of (Nat.le_of_ble_eq_true rfl) ?_
        refine q_Ru_seg (g2 := (1, [(0, .ref 66), (1, .ref 96)], [.ref 66], (q_cX (q_rA pix smp tr a16 a17 a21 a22) (q_rI t14 t19 p F left dn ins) (q_rJ y), 40, 26520))) 1 (fun _ _ => rfl) ?_
        refine q_Ru_call (v := (some (.int pos))) (h2 := (q_cX (q_rA pix smp tr a16 a17 a21 a22) (q_rI t14 t19 p F left dn ins) (q_rJ y), 40, 26520)) rfl rfl ?_ ?_
        · refine q_Ca_of (Nat.le_of_ble_eq_true rfl) ?_
          refine q_Ru_seg (g2 := (4, [(0, .ref 66)], [.long y], (q_cX (q_rA pix smp tr a16 a17 a21 a22) (q_rI t14 t19 p F left dn ins) (q_rJ y), 40, 26520))) 2 (fun _ _ => rfl) ?_
          refine q_Ru_seg (g2 := (9, [(0, .ref 66)], [.int ((y - y / 960 * 960).toInt32)], (q_cX (q_rA pix smp tr a16 a17 a21 a22) (q_rI t14 t19 p F left dn ins) (q_rJ y), 40, 26520))) 3 (fun _ _ => rfl) ?_
          rw [hP]
          exact q_Ru_ret rfl rfl
        show q_Ru _ _ _ (4, [(0, .ref 66), (1, .ref 96)], [.int pos], (q_cX (q_rA pix smp tr a16 a17 a21 a22) (q_rI t14 t19 p F left dn ins) (q_rJ y), 40, 26520)) _
        refine q_Ru_seg (g2 := (7, [(0, .ref 66), (1, .ref 96)], [.int (pos / 24)], (q_cX (q_rA pix smp tr a16 a17 a21 a22) (q_rI t14 t19 p F left dn ins) (q_rJ y), 40, 26520))) 2 (fun _ _ => rfl) ?_
        rw [hL]
        refine q_Ru_seg (g2 := (11, [(2, .int (lin - 4)), (0, .ref 66), (1, .ref 96)], [.ref 66], (q_cX (q_rA pix smp tr a16 a17 a21 a22) (q_rI t14 t19 p F left dn ins) (q_rJ y), 40, 26520))) 4 (fun _ _ => rfl) ?_
        refine q_Ru_call (v := (some (.int col))) (h2 := (q_cX (q_rA pix smp tr a16 a17 a21 a22) (q_rI t14 t19 p F left dn ins) (q_rJ y), 40, 26520)) rfl rfl ?_ ?_
        · refine q_Ca_of (Nat.le_of_ble_eq_true rfl) ?_
          refine q_Ru_seg (g2 := (4, [(0, .ref 66)], [.long y], (q_cX (q_rA pix smp tr a16 a17 a21 a22) (q_rI t14 t19 p F left dn ins) (q_rJ y), 40, 26520))) 2 (fun _ _ => rfl) ?_
          refine q_Ru_seg (g2 := (9, [(0, .ref 66)], [.int ((y - y / 24 * 24).toInt32)], (q_cX (q_rA pix smp tr a16 a17 a21 a22) (q_rI t14 t19 p F left dn ins) (q_rJ y), 40, 26520))) 3 (fun _ _ => rfl) ?_
          rw [hC]
          exact q_Ru_ret rfl rfl
        show q_Ru _ _ _ (14, [(2, .int (lin - 4)), (0, .ref 66), (1, .ref 96)], [.int col], (q_cX (q_rA pix smp tr a16 a17 a21 a22) (q_rI t14 t19 p F left dn ins) (q_rJ y), 40, 26520)) _
        refine q_Ru_seg (g2 := (16, [(3, .int col), (2, .int (lin - 4)), (0, .ref 66), (1, .ref 96)], [.int (lin - 4)], (q_cX (q_rA pix smp tr a16 a17 a21 a22) (q_rI t14 t19 p F left dn ins) (q_rJ y), 40, 26520))) 2 (fun _ _ => rfl) ?_
        refine q_Ru_rsF (g2 := (19, [(3, .int col), (2, .int (lin - 4)), (0, .ref 66), (1, .ref 96)], [], (q_cX (q_rA pix smp tr a16 a17 a21 a22) (q_rI t14 t19 p F left dn ins) (q_rJ y), 40, 26520))) rfl rfl h136 ?_
        refine q_Ru_seg (g2 := (22, [(3, .int col), (2, .int (lin - 4)), (0, .ref 66), (1, .ref 96)], [.int 32, .int (lin - 4)], (q_cX (q_rA pix smp tr a16 a17 a21 a22) (q_rI t14 t19 p F left dn ins) (q_rJ y), 40, 26520))) 2 (fun _ _ => rfl) ?_
        refine q_Ru_rsT (g2 := (121, [(3, .int col), (2, .int (lin - 4)), (0, .ref 66), (1, .ref 96)], [], (q_cX (q_rA pix smp tr a16 a17 a21 a22) (q_rI t14 t19 p F left dn ins) (q_rJ y), 40, 26520))) rfl rfl (q_d_geF h138) ?_
        refine q_Ru_seg (g2 := (122, [(3, .int col), (2, .int (lin - 4)), (0, .ref 66), (1, .ref 96)], [.ref 66], (q_cX (q_rA pix smp tr a16 a17 a21 a22) (q_rI t14 t19 p F left dn ins) (q_rJ y), 40, 26520))) 1 (fun _ _ => rfl) ?_
        refine q_Ru_call (v := (some (.ref 83))) (h2 := (q_cX (q_rA pix smp tr a16 a17 a21 a22) (q_rI t14 t19 p F left dn ins) (q_rJ y), 40, 26520)) rfl rfl ?_ ?_
        · refine q_Ca_of (Nat.le_of_ble_eq_true rfl) ?_
          refine q_Ru_seg (g2 := (4, [(0, .ref 66)], [.long y], (q_cX (q_rA pix smp tr a16 a17 a21 a22) (q_rI t14 t19 p F left dn ins) (q_rJ y), 40, 26520))) 2 (fun _ _ => rfl) ?_
          refine q_Ru_seg (g2 := (14, [(0, .ref 66)], [.int (lg_cmp ((y / 960) - (y / 960) / 2 * 2) 0)], (q_cX (q_rA pix smp tr a16 a17 a21 a22) (q_rI t14 t19 p F left dn ins) (q_rJ y), 40, 26520))) 6 (fun _ _ => rfl) ?_
          rw [hQ]
          refine q_Ru_rsT (g2 := (24, [(0, .ref 66)], [], (q_cX (q_rA pix smp tr a16 a17 a21 a22) (q_rI t14 t19 p F left dn ins) (q_rJ y), 40, 26520))) rfl rfl (q_d_neF h146) ?_
          refine q_Ru_seg (g2 := (28, [(0, .ref 66)], [.ref 83], (q_cX (q_rA pix smp tr a16 a17 a21 a22) (q_rI t14 t19 p F left dn ins) (q_rJ y), 40, 26520))) 2 (fun _ _ => rfl) ?_
          exact q_Ru_ret rfl rfl
        show q_Ru _ _ _ (125, [(3, .int col), (2, .int (lin - 4)), (0, .ref 66), (1, .ref 96)], [.ref 83], (q_cX (q_rA pix smp tr a16 a17 a21 a22) (q_rI t14 t19 p F left dn ins) (q_rJ y), 40, 26520)) _
        refine q_Ru_seg (g2 := (129, [(3, .int col), (2, .int (lin - 4)), (0, .ref 66), (1, .ref 96)], [.int t19, .ref 83], (q_cX (q_rA pix smp tr a16 a17 a21 a22) (q_rI t14 t19 p F left dn ins) (q_rJ y), 40, 26520))) 2 (fun _ _ => rfl) ?_
        refine q_Ru_seg (g2 := (134, [(3, .int col), (2, .int (lin - 4)), (0, .ref 66), (1, .ref 96)], [], (q_cX (q_rA pix smp tr a16 a17 a21 a22) (q_uI (q_rI t14 t19 p F left dn ins) 19 3 (t19 + 1)) (q_rJ y), 40, 26520))) 3 (fun _ _ => rfl) ?_
        exact q_Ru_ret rfl rfl
set_option maxHeartbeats 4000000 in
theorem q_p_sound (pix smp tr a16 a17 a21 a22 : Nat → Int32) (t14 t19 p F left dn ins : Int32) (y : Int64) (pos col lin pq : Int32) (hC : (y - y / 24 * 24).toInt32 = col) (hP : (y - y / 960 * 960).toInt32 = pos) (hL : pos / 24 = lin) (hQ : lg_cmp (y / 960 - y / 960 / 2 * 2) 0 = pq) (c0 : 0 ≤ col.toInt) (c1 : col.toInt ≤ 23) (l0 : 0 ≤ lin.toInt) (l1 : lin.toInt ≤ 39) : ∃ smp2, q_Ca q_TB0 5 168 [.ref 90, .ref 69, .int lin] (q_cX (q_rA pix smp tr a16 a17 a21 a22) (q_rI t14 t19 p F left dn ins) (q_rJ y), 40, 26520) (.inl none, (q_cX (q_rA pix smp2 tr a16 a17 a21 a22) (q_rI t14 t19 p F left dn ins) (q_rJ y), 40, 26520)) := by
  have h147 : decide (lin < 0) = false := q_not_tr (q_tbl1 (fun lin => !decide (lin < 0)) (l := 0) (n := 39) (by decide +kernel) l0 l1)
  have h148 : decide (lin < 40) = true := q_tbl1 (fun lin => decide (lin < 40)) (l := 0) (n := 39) (by decide +kernel) l0 l1
  refine ⟨(upd smp (lin.toNatClampNeg) 0), ?_⟩
  have hA : ∀ i, i < 40 → (q_uA (q_uA (q_uA (q_rA pix smp tr a16 a17 a21 a22) 27 (upd (upd (upd (fun _ => 0) 0 0) 1 0) 2 0)) 29 (upd (upd (upd (upd (upd (upd (fun _ => 0) 0 1) 0 0) 1 1) 1 0) 2 1) 2 0)) 31 (upd smp (lin.toNatClampNeg) 0)) i = (q_rA pix (upd smp (lin.toNatClampNeg) 0) tr a16 a17 a21 a22) i := by
    intro i hi
    match i, hi with
    | 0, _ => rfl
    | 1, _ => rfl
    | 2, _ => rfl
    | 3, _ => rfl
    | 4, _ => rfl
    | 5, _ => rfl
    | 6, _ => rfl
    | 7, _ => rfl
    | 8, _ => rfl
    | 9, _ => rfl
    | 10, _ => rfl
    | 11, _ => rfl
    | 12, _ => rfl
    | 13, _ => rfl
    | 14, _ => rfl
    | 15, _ => rfl
    | 16, _ => rfl
    | 17, _ => rfl
    | 18, _ => rfl
    | 19, _ => rfl
    | 20, _ => rfl
    | 21, _ => rfl
    | 22, _ => rfl
    | 23, _ => rfl
    | 24, _ => rfl
    | 25, _ => rfl
    | 26, _ => rfl
    | 27, _ => exact (show (upd (upd (upd (fun _ => 0) 0 0) 1 0) 2 0) = (fun _ => 0) by simp only [q_upd_upd, q_upd_z])
    | 28, _ => rfl
    | 29, _ => exact (show (upd (upd (upd (upd (upd (upd (fun _ => 0) 0 1) 0 0) 1 1) 1 0) 2 1) 2 0) = (fun _ => 0) by simp only [q_upd_upd, q_upd_z])
    | 30, _ => rfl
    | 31, _ => rfl
    | 32, _ => rfl
    | 33, _ => rfl
    | 34, _ => rfl
    | 35, _ => rfl
    | 36, _ => rfl
    | 37, _ => rfl
    | 38, _ => rfl
    | 39, _ => rfl
    | i + 40, hi => exact absurd hi (by omega)
  refine q_Ca_hX (q_cX_A (I := (q_rI t14 t19 p F left dn ins)) (J := (q_rJ y)) hA) ?_
  refine q_Ca_of (Nat.le_of_ble_eq_true rfl) ?_
  refine q_Ru_seg (g2 := (8, [(0, .ref 90), (1, .ref 69), (2, .int lin)], [.int lin], (q_cX (q_rA pix smp tr a16 a17 a21 a22) (q_rI t14 t19 p F left dn ins) (q_rJ y), 40, 26520))) 5 (fun _ _ => rfl) ?_
  refine q_Ru_rsF (g2 := (11, [(0, .ref 90), (1, .ref 69), (2, .int lin)], [], (q_cX (q_rA pix smp tr a16 a17 a21 a22) (q_rI t14 t19 p F left dn ins) (q_rJ y), 40, 26520))) rfl rfl h147 ?_
  refine q_Ru_seg (g2 := (14, [(0, .ref 90), (1, .ref 69), (2, .int lin)], [.int 40, .int lin], (q_cX (q_rA pix smp tr a16 a17 a21 a22) (q_rI t14 t19 p F left dn ins) (q_rJ y), 40, 26520))) 2 (fun _ _ => rfl) ?_
  refine q_Ru_rsT (g2 := (18, [(0, .ref 90), (1, .ref 69), (2, .int lin)], [], (q_cX (q_rA pix smp tr a16 a17 a21 a22) (q_rI t14 t19 p F left dn ins) (q_rJ y), 40, 26520))) rfl rfl h148 ?_
  refine q_Ru_seg (g2 := (39, [(4, .int 32), (3, .int 0), (0, .ref 90), (1, .ref 69), (2, .int lin)], [.int 0, .int 0, .ref 90], (q_cX (q_rA pix smp tr a16 a17 a21 a22) (q_rI t14 t19 p F left dn ins) (q_rJ y), 40, 26520))) 16 (fun _ _ => rfl) ?_
  refine q_Ru_seg (g2 := (48, [(4, .int 32), (3, .int 0), (0, .ref 90), (1, .ref 69), (2, .int lin)], [.int 0, .int 256, .int 0, .int 0, .ref 90], (q_cX (q_rA pix smp tr a16 a17 a21 a22) (q_rI t14 t19 p F left dn ins) (q_rJ y), 40, 26520))) 6 (fun _ _ => rfl) ?_
  refine q_Ru_seg (g2 := (50, [(4, .int 32), (3, .int 0), (0, .ref 90), (1, .ref 69), (2, .int lin)], [.int 0, .int 0, .ref 90], (q_cX (q_rA pix smp tr a16 a17 a21 a22) (q_rI t14 t19 p F left dn ins) (q_rJ y), 40, 26520))) 2 (fun _ _ => rfl) ?_
  refine q_Ru_call (v := none) (h2 := (q_cX (q_uA (q_rA pix smp tr a16 a17 a21 a22) 27 (upd (fun _ => 0) 0 0)) (q_rI t14 t19 p F left dn ins) (q_rJ y), 40, 26520)) rfl rfl ?_ ?_
  · refine q_Ca_of (Nat.le_of_ble_eq_true rfl) ?_
    refine q_Ru_seg (g2 := (16, [(0, .ref 90), (1, .int 0), (2, .int 0)], [.int 0], (q_cX (q_rA pix smp tr a16 a17 a21 a22) (q_rI t14 t19 p F left dn ins) (q_rJ y), 40, 26520))) 9 (fun _ _ => rfl) ?_
    refine q_Ru_seg (g2 := (25, [(3, .int 0), (0, .ref 90), (1, .int 0), (2, .int 0)], [.int 1], (q_cX (q_rA pix smp tr a16 a17 a21 a22) (q_rI t14 t19 p F left dn ins) (q_rJ y), 40, 26520))) 7 (fun _ _ => rfl) ?_
    refine q_Ru_seg (g2 := (89, [(4, .int 1), (3, .int 0), (0, .ref 90), (1, .int 0), (2, .int 0)], [], (q_cX (q_uA (q_rA pix smp tr a16 a17 a21 a22) 27 (upd (fun _ => 0) 0 0)) (q_rI t14 t19 p F left dn ins) (q_rJ y), 40, 26520))) 11 (fun _ _ => rfl) ?_
    exact q_Ru_ret rfl rfl
  show q_Ru _ _ _ (53, [(4, .int 32), (3, .int 0), (0, .ref 90), (1, .ref 69), (2, .int lin)], [], (q_cX (q_uA (q_rA pix smp tr a16 a17 a21 a22) 27 (upd (fun _ => 0) 0 0)) (q_rI t14 t19 p F left dn ins) (q_rJ y), 40, 26520)) _
  refine q_Ru_seg (g2 := (61, [(4, .int 32), (3, .int 0), (0, .ref 90), (1, .ref 69), (2, .int lin)], [.int 0, .int 0, .ref 90], (q_cX (q_uA (q_rA pix smp tr a16 a17 a21 a22) 27 (upd (fun _ => 0) 0 0)) (q_rI t14 t19 p F left dn ins) (q_rJ y), 40, 26520))) 7 (fun _ _ => rfl) ?_
  refine q_Ru_seg (g2 := (78, [(4, .int 32), (3, .int 0), (0, .ref 90), (1, .ref 69), (2, .int lin)], [.int 0, .int 0, .int 0, .ref 90], (q_cX (q_uA (q_rA pix smp tr a16 a17 a21 a22) 27 (upd (fun _ => 0) 0 0)) (q_rI t14 t19 p F left dn ins) (q_rJ y), 40, 26520))) 10 (fun _ _ => rfl) ?_
  refine q_Ru_call (v := none) (h2 := (q_cX (q_uA (q_uA (q_rA pix smp tr a16 a17 a21 a22) 27 (upd (fun _ => 0) 0 0)) 29 (upd (upd (fun _ => 0) 0 1) 0 0)) (q_rI t14 t19 p F left dn ins) (q_rJ y), 40, 26520)) rfl rfl ?_ ?_
  · refine q_Ca_of (Nat.le_of_ble_eq_true rfl) ?_
    refine q_Ru_seg (g2 := (17, [(0, .ref 90), (1, .int 0), (2, .int 0), (3, .int 0)], [.int 0, .int 0, .ref 93], (q_cX (q_uA (q_rA pix smp tr a16 a17 a21 a22) 27 (upd (fun _ => 0) 0 0)) (q_rI t14 t19 p F left dn ins) (q_rJ y), 40, 26520))) 10 (fun _ _ => rfl) ?_
    refine q_Ru_seg (g2 := (26, [(0, .ref 90), (1, .int 0), (2, .int 0), (3, .int 0)], [.int 1], (q_cX (q_uA (q_uA (q_rA pix smp tr a16 a17 a21 a22) 27 (upd (fun _ => 0) 0 0)) 29 (upd (fun _ => 0) 0 1)) (q_rI t14 t19 p F left dn ins) (q_rJ y), 40, 26520))) 7 (fun _ _ => rfl) ?_
    refine q_Ru_seg (g2 := (90, [(0, .ref 90), (1, .int 0), (2, .int 0), (3, .int 0)], [.int 0], (q_cX (q_uA (q_uA (q_rA pix smp tr a16 a17 a21 a22) 27 (upd (fun _ => 0) 0 0)) 29 (upd (upd (fun _ => 0) 0 1) 0 0)) (q_rI t14 t19 p F left dn ins) (q_rJ y), 40, 26520))) 19 (fun _ _ => rfl) ?_
    refine q_Ru_seg (g2 := (103, [(0, .ref 90), (1, .int 0), (2, .int 0), (3, .int 0)], [], (q_cX (q_uA (q_uA (q_rA pix smp tr a16 a17 a21 a22) 27 (upd (fun _ => 0) 0 0)) 29 (upd (upd (fun _ => 0) 0 1) 0 0)) (q_rI t14 t19 p F left dn ins) (q_rJ y), 40, 26520))) 1 (fun _ _ => rfl) ?_
    exact q_Ru_ret rfl rfl
  show q_Ru _ _ _ (81, [(4, .int 32), (3, .int 0), (0, .ref 90), (1, .ref 69), (2, .int lin)], [], (q_cX (q_uA (q_uA (q_rA pix smp tr a16 a17 a21 a22) 27 (upd (fun _ => 0) 0 0)) 29 (upd (upd (fun _ => 0) 0 1) 0 0)) (q_rI t14 t19 p F left dn ins) (q_rJ y), 40, 26520)) _
  refine q_Ru_seg (g2 := (39, [(4, .int 36), (3, .int 1), (0, .ref 90), (1, .ref 69), (2, .int lin)], [.int 0, .int 1, .ref 90], (q_cX (q_uA (q_uA (q_rA pix smp tr a16 a17 a21 a22) 27 (upd (fun _ => 0) 0 0)) 29 (upd (upd (fun _ => 0) 0 1) 0 0)) (q_rI t14 t19 p F left dn ins) (q_rJ y), 40, 26520))) 16 (fun _ _ => rfl) ?_
  refine q_Ru_seg (g2 := (48, [(4, .int 36), (3, .int 1), (0, .ref 90), (1, .ref 69), (2, .int lin)], [.int 0, .int 256, .int 0, .int 1, .ref 90], (q_cX (q_uA (q_uA (q_rA pix smp tr a16 a17 a21 a22) 27 (upd (fun _ => 0) 0 0)) 29 (upd (upd (fun _ => 0) 0 1) 0 0)) (q_rI t14 t19 p F left dn ins) (q_rJ y), 40, 26520))) 6 (fun _ _ => rfl) ?_
  refine q_Ru_seg (g2 := (50, [(4, .int 36), (3, .int 1), (0, .ref 90), (1, .ref 69), (2, .int lin)], [.int 0, .int 1, .ref 90], (q_cX (q_uA (q_uA (q_rA pix smp tr a16 a17 a21 a22) 27 (upd (fun _ => 0) 0 0)) 29 (upd (upd (fun _ => 0) 0 1) 0 0)) (q_rI t14 t19 p F left dn ins) (q_rJ y), 40, 26520))) 2 (fun _ _ => rfl) ?_
  refine q_Ru_call (v := none) (h2 := (q_cX (q_uA (q_uA (q_rA pix smp tr a16 a17 a21 a22) 27 (upd (upd (fun _ => 0) 0 0) 1 0)) 29 (upd (upd (fun _ => 0) 0 1) 0 0)) (q_rI t14 t19 p F left dn ins) (q_rJ y), 40, 26520)) rfl rfl ?_ ?_
  · refine q_Ca_of (Nat.le_of_ble_eq_true rfl) ?_
    refine q_Ru_seg (g2 := (16, [(0, .ref 90), (1, .int 1), (2, .int 0)], [.int 0], (q_cX (q_uA (q_uA (q_rA pix smp tr a16 a17 a21 a22) 27 (upd (fun _ => 0) 0 0)) 29 (upd (upd (fun _ => 0) 0 1) 0 0)) (q_rI t14 t19 p F left dn ins) (q_rJ y), 40, 26520))) 9 (fun _ _ => rfl) ?_
    refine q_Ru_seg (g2 := (25, [(3, .int 0), (0, .ref 90), (1, .int 1), (2, .int 0)], [.int 1], (q_cX (q_uA (q_uA (q_rA pix smp tr a16 a17 a21 a22) 27 (upd (fun _ => 0) 0 0)) 29 (upd (upd (fun _ => 0) 0 1) 0 0)) (q_rI t14 t19 p F left dn ins) (q_rJ y), 40, 26520))) 7 (fun _ _ => rfl) ?_
    refine q_Ru_seg (g2 := (89, [(4, .int 1), (3, .int 0), (0, .ref 90), (1, .int 1), (2, .int 0)], [], (q_cX (q_uA (q_uA (q_rA pix smp tr a16 a17 a21 a22) 27 (upd (upd (fun _ => 0) 0 0) 1 0)) 29 (upd (upd (fun _ => 0) 0 1) 0 0)) (q_rI t14 t19 p F left dn ins) (q_rJ y), 40, 26520))) 11 (fun _ _ => rfl) ?_
    exact q_Ru_ret rfl rfl
  show q_Ru _ _ _ (53, [(4, .int 36), (3, .int 1), (0, .ref 90), (1, .ref 69), (2, .int lin)], [], (q_cX (q_uA (q_uA (q_rA pix smp tr a16 a17 a21 a22) 27 (upd (upd (fun _ => 0) 0 0) 1 0)) 29 (upd (upd (fun _ => 0) 0 1) 0 0)) (q_rI t14 t19 p F left dn ins) (q_rJ y), 40, 26520)) _
  refine q_Ru_seg (g2 := (61, [(4, .int 36), (3, .int 1), (0, .ref 90), (1, .ref 69), (2, .int lin)], [.int 0, .int 1, .ref 90], (q_cX (q_uA (q_uA (q_rA pix smp tr a16 a17 a21 a22) 27 (upd (upd (fun _ => 0) 0 0) 1 0)) 29 (upd (upd (fun _ => 0) 0 1) 0 0)) (q_rI t14 t19 p F left dn ins) (q_rJ y), 40, 26520))) 7 (fun _ _ => rfl) ?_
  refine q_Ru_seg (g2 := (78, [(4, .int 36), (3, .int 1), (0, .ref 90), (1, .ref 69), (2, .int lin)], [.int 0, .int 0, .int 1, .ref 90], (q_cX (q_uA (q_uA (q_rA pix smp tr a16 a17 a21 a22) 27 (upd (upd (fun _ => 0) 0 0) 1 0)) 29 (upd (upd (fun _ => 0) 0 1) 0 0)) (q_rI t14 t19 p F left dn ins) (q_rJ y), 40, 26520))) 10 (fun _ _ => rfl) ?_
  refine q_Ru_call (v := none) (h2 := (q_cX (q_uA (q_uA (q_rA pix smp tr a16 a17 a21 a22) 27 (upd (upd (fun _ => 0) 0 0) 1 0)) 29 (upd (upd (upd (upd (fun _ => 0) 0 1) 0 0) 1 1) 1 0)) (q_rI t14 t19 p F left dn ins) (q_rJ y), 40, 26520)) rfl rfl ?_ ?_
  · refine q_Ca_of (Nat.le_of_ble_eq_true rfl) ?_
    refine q_Ru_seg (g2 := (17, [(0, .ref 90), (1, .int 1), (2, .int 0), (3, .int 0)], [.int 0, .int 1, .ref 93], (q_cX (q_uA (q_uA (q_rA pix smp tr a16 a17 a21 a22) 27 (upd (upd (fun _ => 0) 0 0) 1 0)) 29 (upd (upd (fun _ => 0) 0 1) 0 0)) (q_rI t14 t19 p F left dn ins) (q_rJ y), 40, 26520))) 10 (fun _ _ => rfl) ?_
    refine q_Ru_seg (g2 := (26, [(0, .ref 90), (1, .int 1), (2, .int 0), (3, .int 0)], [.int 1], (q_cX (q_uA (q_uA (q_rA pix smp tr a16 a17 a21 a22) 27 (upd (upd (fun _ => 0) 0 0) 1 0)) 29 (upd (upd (upd (fun _ => 0) 0 1) 0 0) 1 1)) (q_rI t14 t19 p F left dn ins) (q_rJ y), 40, 26520))) 7 (fun _ _ => rfl) ?_
    refine q_Ru_seg (g2 := (90, [(0, .ref 90), (1, .int 1), (2, .int 0), (3, .int 0)], [.int 0], (q_cX (q_uA (q_uA (q_rA pix smp tr a16 a17 a21 a22) 27 (upd (upd (fun _ => 0) 0 0) 1 0)) 29 (upd (upd (upd (upd (fun _ => 0) 0 1) 0 0) 1 1) 1 0)) (q_rI t14 t19 p F left dn ins) (q_rJ y), 40, 26520))) 19 (fun _ _ => rfl) ?_
    refine q_Ru_seg (g2 := (103, [(0, .ref 90), (1, .int 1), (2, .int 0), (3, .int 0)], [], (q_cX (q_uA (q_uA (q_rA pix smp tr a16 a17 a21 a22) 27 (upd (upd (fun _ => 0) 0 0) 1 0)) 29 (upd (upd (upd (upd (fun _ => 0) 0 1) 0 0) 1 1) 1 0)) (q_rI t14 t19 p F left dn ins) (q_rJ y), 40, 26520))) 1 (fun _ _ => rfl) ?_
    exact q_Ru_ret rfl rfl
  show q_Ru _ _ _ (81, [(4, .int 36), (3, .int 1), (0, .ref 90), (1, .ref 69), (2, .int lin)], [], (q_cX (q_uA (q_uA (q_rA pix smp tr a16 a17 a21 a22) 27 (upd (upd (fun _ => 0) 0 0) 1 0)) 29 (upd (upd (upd (upd (fun _ => 0) 0 1) 0 0) 1 1) 1 0)) (q_rI t14 t19 p F left dn ins) (q_rJ y), 40, 26520)) _
  refine q_Ru_seg (g2 := (39, [(4, .int 40), (3, .int 2), (0, .ref 90), (1, .ref 69), (2, .int lin)], [.int 0, .int 2, .ref 90], (q_cX (q_uA (q_uA (q_rA pix smp tr a16 a17 a21 a22) 27 (upd (upd (fun _ => 0) 0 0) 1 0)) 29 (upd (upd (upd (upd (fun _ => 0) 0 1) 0 0) 1 1) 1 0)) (q_rI t14 t19 p F left dn ins) (q_rJ y), 40, 26520))) 16 (fun _ _ => rfl) ?_
  refine q_Ru_seg (g2 := (48, [(4, .int 40), (3, .int 2), (0, .ref 90), (1, .ref 69), (2, .int lin)], [.int 0, .int 256, .int 0, .int 2, .ref 90], (q_cX (q_uA (q_uA (q_rA pix smp tr a16 a17 a21 a22) 27 (upd (upd (fun _ => 0) 0 0) 1 0)) 29 (upd (upd (upd (upd (fun _ => 0) 0 1) 0 0) 1 1) 1 0)) (q_rI t14 t19 p F left dn ins) (q_rJ y), 40, 26520))) 6 (fun _ _ => rfl) ?_
  refine q_Ru_seg (g2 := (50, [(4, .int 40), (3, .int 2), (0, .ref 90), (1, .ref 69), (2, .int lin)], [.int 0, .int 2, .ref 90], (q_cX (q_uA (q_uA (q_rA pix smp tr a16 a17 a21 a22) 27 (upd (upd (fun _ => 0) 0 0) 1 0)) 29 (upd (upd (upd (upd (fun _ => 0) 0 1) 0 0) 1 1) 1 0)) (q_rI t14 t19 p F left dn ins) (q_rJ y), 40, 26520))) 2 (fun _ _ => rfl) ?_
  refine q_Ru_call (v := none) (h2 := (q_cX (q_uA (q_uA (q_rA pix smp tr a16 a17 a21 a22) 27 (upd (upd (upd (fun _ => 0) 0 0) 1 0) 2 0)) 29 (upd (upd (upd (upd (fun _ => 0) 0 1) 0 0) 1 1) 1 0)) (q_rI t14 t19 p F left dn ins) (q_rJ y), 40, 26520)) rfl rfl ?_ ?_
  · refine q_Ca_of (Nat.le_of_ble_eq_true rfl) ?_
    refine q_Ru_seg (g2 := (16, [(0, .ref 90), (1, .int 2), (2, .int 0)], [.int 0], (q_cX (q_uA (q_uA (q_rA pix smp tr a16 a17 a21 a22) 27 (upd (upd (fun _ => 0) 0 0) 1 0)) 29 (upd (upd (upd (upd (fun _ => 0) 0 1) 0 0) 1 1) 1 0)) (q_rI t14 t19 p F left dn ins) (q_rJ y), 40, 26520))) 9 (fun _ _ => rfl) ?_
    refine q_Ru_seg (g2 := (25, [(3, .int 0), (0, .ref 90), (1, .int 2), (2, .int 0)], [.int 1], (q_cX (q_uA (q_uA (q_rA pix smp tr a16 a17 a21 a22) 27 (upd (upd (fun _ => 0) 0 0) 1 0)) 29 (upd (upd (upd (upd (fun _ => 0) 0 1) 0 0) 1 1) 1 0)) (q_rI t14 t19 p F left dn ins) (q_rJ y), 40, 26520))) 7 (fun _ _ => rfl) ?_
    refine q_Ru_seg (g2 := (89, [(4, .int 1), (3, .int 0), (0, .ref 90), (1, .int 2), (2, .int 0)], [], (q_cX (q_uA (q_uA (q_rA pix smp tr a16 a17 a21 a22) 27 (upd (upd (upd (fun _ => 0) 0 0) 1 0) 2 0)) 29 (upd (upd (upd (upd (fun _ => 0) 0 1) 0 0) 1 1) 1 0)) (q_rI t14 t19 p F left dn ins) (q_rJ y), 40, 26520))) 11 (fun _ _ => rfl) ?_
    exact q_Ru_ret rfl rfl
  show q_Ru _ _ _ (53, [(4, .int 40), (3, .int 2), (0, .ref 90), (1, .ref 69), (2, .int lin)], [], (q_cX (q_uA (q_uA (q_rA pix smp tr a16 a17 a21 a22) 27 (upd (upd (upd (fun _ => 0) 0 0) 1 0) 2 0)) 29 (upd (upd (upd (upd (fun _ => 0) 0 1) 0 0) 1 1) 1 0)) (q_rI t14 t19 p F left dn ins) (q_rJ y), 40, 26520)) _
  refine q_Ru_seg (g2 := (61, [(4, .int 40), (3, .int 2), (0, .ref 90), (1, .ref 69), (2, .int lin)], [.int 0, .int 2, .ref 90], (q_cX (q_uA (q_uA (q_rA pix smp tr a16 a17 a21 a22) 27 (upd (upd (upd (fun _ => 0) 0 0) 1 0) 2 0)) 29 (upd (upd (upd (upd (fun _ => 0) 0 1) 0 0) 1 1) 1 0)) (q_rI t14 t19 p F left dn ins) (q_rJ y), 40, 26520))) 7 (fun _ _ => rfl) ?_
  refine q_Ru_seg (g2 := (78, [(4, .int 40), (3, .int 2), (0, .ref 90), (1, .ref 69), (2, .int lin)], [.int 0, .int 0, .int 2, .ref 90], (q_cX (q_uA (q_uA (q_rA pix smp tr a16 a17 a21 a22) 27 (upd (upd (upd (fun _ => 0) 0 0) 1 0) 2 0)) 29 (upd (upd (upd (upd (fun _ => 0) 0 1) 0 0) 1 1) 1 0)) (q_rI t14 t19 p F left dn ins) (q_rJ y), 40, 26520))) 10 (fun _ _ => rfl) ?_
  refine q_Ru_call (v := none) (h2 := (q_cX (q_uA (q_uA (q_rA pix smp tr a16 a17 a21 a22) 27 (upd (upd (upd (fun _ => 0) 0 0) 1 0) 2 0)) 29 (upd (upd (upd (upd (upd (upd (fun _ => 0) 0 1) 0 0) 1 1) 1 0) 2 1) 2 0)) (q_rI t14 t19 p F left dn ins) (q_rJ y), 40, 26520)) rfl rfl ?_ ?_
  · refine q_Ca_of (Nat.le_of_ble_eq_true rfl) ?_
    refine q_Ru_seg (g2 := (17, [(0, .ref 90), (1, .int 2), (2, .int 0), (3, .int 0)], [.int 0, .int 2, .ref 93], (q_cX (q_uA (q_uA (q_rA pix smp tr a16 a17 a21 a22) 27 (upd (upd (upd (fun _ => 0) 0 0) 1 0) 2 0)) 29 (upd (upd (upd (upd (fun _ => 0) 0 1) 0 0) 1 1) 1 0)) (q_rI t14 t19 p F left dn ins) (q_rJ y), 40, 26520))) 10 (fun _ _ => rfl) ?_
    refine q_Ru_seg (g2 := (26, [(0, .ref 90), (1, .int 2), (2, .int 0), (3, .int 0)], [.int 1], (q_cX (q_uA (q_uA (q_rA pix smp tr a16 a17 a21 a22) 27 (upd (upd (upd (fun _ => 0) 0 0) 1 0) 2 0)) 29 (upd (upd (upd (upd (upd (fun _ => 0) 0 1) 0 0) 1 1) 1 0) 2 1)) (q_rI t14 t19 p F left dn ins) (q_rJ y), 40, 26520))) 7 (fun _ _ => rfl) ?_
    refine q_Ru_seg (g2 := (90, [(0, .ref 90), (1, .int 2), (2, .int 0), (3, .int 0)], [.int 0], (q_cX (q_uA (q_uA (q_rA pix smp tr a16 a17 a21 a22) 27 (upd (upd (upd (fun _ => 0) 0 0) 1 0) 2 0)) 29 (upd (upd (upd (upd (upd (upd (fun _ => 0) 0 1) 0 0) 1 1) 1 0) 2 1) 2 0)) (q_rI t14 t19 p F left dn ins) (q_rJ y), 40, 26520))) 19 (fun _ _ => rfl) ?_
    refine q_Ru_seg (g2 := (103, [(0, .ref 90), (1, .int 2), (2, .int 0), (3, .int 0)], [], (q_cX (q_uA (q_uA (q_rA pix smp tr a16 a17 a21 a22) 27 (upd (upd (upd (fun _ => 0) 0 0) 1 0) 2 0)) 29 (upd (upd (upd (upd (upd (upd (fun _ => 0) 0 1) 0 0) 1 1) 1 0) 2 1) 2 0)) (q_rI t14 t19 p F left dn ins) (q_rJ y), 40, 26520))) 1 (fun _ _ => rfl) ?_
    exact q_Ru_ret rfl rfl
  show q_Ru _ _ _ (81, [(4, .int 40), (3, .int 2), (0, .ref 90), (1, .ref 69), (2, .int lin)], [], (q_cX (q_uA (q_uA (q_rA pix smp tr a16 a17 a21 a22) 27 (upd (upd (upd (fun _ => 0) 0 0) 1 0) 2 0)) 29 (upd (upd (upd (upd (upd (upd (fun _ => 0) 0 1) 0 0) 1 1) 1 0) 2 1) 2 0)) (q_rI t14 t19 p F left dn ins) (q_rJ y), 40, 26520)) _
  refine q_Ru_seg (g2 := (113, [(4, .int 0), (3, .int 0), (0, .ref 90), (1, .ref 69), (2, .int lin)], [.int 0, .int 0, .ref 90, .int 0], (q_cX (q_uA (q_uA (q_rA pix smp tr a16 a17 a21 a22) 27 (upd (upd (upd (fun _ => 0) 0 0) 1 0) 2 0)) 29 (upd (upd (upd (upd (upd (upd (fun _ => 0) 0 1) 0 0) 1 1) 1 0) 2 1) 2 0)) (q_rI t14 t19 p F left dn ins) (q_rJ y), 40, 26520))) 24 (fun _ _ => rfl) ?_
  refine q_Ru_call (v := (some (.int 0))) (h2 := (q_cX (q_uA (q_uA (q_rA pix smp tr a16 a17 a21 a22) 27 (upd (upd (upd (fun _ => 0) 0 0) 1 0) 2 0)) 29 (upd (upd (upd (upd (upd (upd (fun _ => 0) 0 1) 0 0) 1 1) 1 0) 2 1) 2 0)) (q_rI t14 t19 p F left dn ins) (q_rJ y), 40, 26520)) rfl rfl ?_ ?_
  · refine q_Ca_of (Nat.le_of_ble_eq_true rfl) ?_
    refine q_Ru_seg (g2 := (22, [(0, .ref 90), (1, .int 0), (2, .int 0)], [.int 0, .int 0], (q_cX (q_uA (q_uA (q_rA pix smp tr a16 a17 a21 a22) 27 (upd (upd (upd (fun _ => 0) 0 0) 1 0) 2 0)) 29 (upd (upd (upd (upd (upd (upd (fun _ => 0) 0 1) 0 0) 1 1) 1 0) 2 1) 2 0)) (q_rI t14 t19 p F left dn ins) (q_rJ y), 40, 26520))) 14 (fun _ _ => rfl) ?_
    refine q_Ru_seg (g2 := (28, [(0, .ref 90), (1, .int 0), (2, .int 0)], [.int 1, .int 0, .int 0], (q_cX (q_uA (q_uA (q_rA pix smp tr a16 a17 a21 a22) 27 (upd (upd (upd (fun _ => 0) 0 0) 1 0) 2 0)) 29 (upd (upd (upd (upd (upd (upd (fun _ => 0) 0 1) 0 0) 1 1) 1 0) 2 1) 2 0)) (q_rI t14 t19 p F left dn ins) (q_rJ y), 40, 26520))) 4 (fun _ _ => rfl) ?_
    refine q_Ru_call (v := (some (.int 0))) (h2 := (q_cX (q_uA (q_uA (q_rA pix smp tr a16 a17 a21 a22) 27 (upd (upd (upd (fun _ => 0) 0 0) 1 0) 2 0)) 29 (upd (upd (upd (upd (upd (upd (fun _ => 0) 0 1) 0 0) 1 1) 1 0) 2 1) 2 0)) (q_rI t14 t19 p F left dn ins) (q_rJ y), 40, 26520)) rfl rfl ?_ ?_
    · refine q_Ca_of (Nat.le_of_ble_eq_true rfl) ?_
      refine q_Ru_seg (g2 := (33, [(0, .int 0), (1, .int 0), (2, .int 1)], [.int 0], (q_cX (q_uA (q_uA (q_rA pix smp tr a16 a17 a21 a22) 27 (upd (upd (upd (fun _ => 0) 0 0) 1 0) 2 0)) 29 (upd (upd (upd (upd (upd (upd (fun _ => 0) 0 1) 0 0) 1 1) 1 0) 2 1) 2 0)) (q_rI t14 t19 p F left dn ins) (q_rJ y), 40, 26520))) 5 (fun _ _ => rfl) ?_
      exact q_Ru_ret rfl rfl
    show q_Ru _ _ _ (31, [(0, .ref 90), (1, .int 0), (2, .int 0)], [.int 0], (q_cX (q_uA (q_uA (q_rA pix smp tr a16 a17 a21 a22) 27 (upd (upd (upd (fun _ => 0) 0 0) 1 0) 2 0)) 29 (upd (upd (upd (upd (upd (upd (fun _ => 0) 0 1) 0 0) 1 1) 1 0) 2 1) 2 0)) (q_rI t14 t19 p F left dn ins) (q_rJ y), 40, 26520)) _
    refine q_Ru_seg (g2 := (86, [(5, .int 0), (4, .int 2), (3, .int 0), (0, .ref 90), (1, .int 0), (2, .int 0)], [.int 0], (q_cX (q_uA (q_uA (q_rA pix smp tr a16 a17 a21 a22) 27 (upd (upd (upd (fun _ => 0) 0 0) 1 0) 2 0)) 29 (upd (upd (upd (upd (upd (upd (fun _ => 0) 0 1) 0 0) 1 1) 1 0) 2 1) 2 0)) (q_rI t14 t19 p F left dn ins) (q_rJ y), 40, 26520))) 16 (fun _ _ => rfl) ?_
    exact q_Ru_ret rfl rfl
  show q_Ru _ _ _ (116, [(4, .int 0), (3, .int 0), (0, .ref 90), (1, .ref 69), (2, .int lin)], [.int 0, .int 0], (q_cX (q_uA (q_uA (q_rA pix smp tr a16 a17 a21 a22) 27 (upd (upd (upd (fun _ => 0) 0 0) 1 0) 2 0)) 29 (upd (upd (upd (upd (upd (upd (fun _ => 0) 0 1) 0 0) 1 1) 1 0) 2 1) 2 0)) (q_rI t14 t19 p F left dn ins) (q_rJ y), 40, 26520)) _
  refine q_Ru_seg (g2 := (123, [(4, .int 0), (3, .int 0), (0, .ref 90), (1, .ref 69), (2, .int lin)], [.int 0, .int 0, .int 0], (q_cX (q_uA (q_uA (q_rA pix smp tr a16 a17 a21 a22) 27 (upd (upd (upd (fun _ => 0) 0 0) 1 0) 2 0)) 29 (upd (upd (upd (upd (upd (upd (fun _ => 0) 0 1) 0 0) 1 1) 1 0) 2 1) 2 0)) (q_rI t14 t19 p F left dn ins) (q_rJ y), 40, 26520))) 4 (fun _ _ => rfl) ?_
  refine q_Ru_seg (g2 := (113, [(4, .int 1), (3, .int 0), (0, .ref 90), (1, .ref 69), (2, .int lin)], [.int 0, .int 1, .ref 90, .int 0], (q_cX (q_uA (q_uA (q_rA pix smp tr a16 a17 a21 a22) 27 (upd (upd (upd (fun _ => 0) 0 0) 1 0) 2 0)) 29 (upd (upd (upd (upd (upd (upd (fun _ => 0) 0 1) 0 0) 1 1) 1 0) 2 1) 2 0)) (q_rI t14 t19 p F left dn ins) (q_rJ y), 40, 26520))) 20 (fun _ _ => rfl) ?_
  refine q_Ru_call (v := (some (.int 0))) (h2 := (q_cX (q_uA (q_uA (q_rA pix smp tr a16 a17 a21 a22) 27 (upd (upd (upd (fun _ => 0) 0 0) 1 0) 2 0)) 29 (upd (upd (upd (upd (upd (upd (fun _ => 0) 0 1) 0 0) 1 1) 1 0) 2 1) 2 0)) (q_rI t14 t19 p F left dn ins) (q_rJ y), 40, 26520)) rfl rfl ?_ ?_
  · refine q_Ca_of (Nat.le_of_ble_eq_true rfl) ?_
    refine q_Ru_seg (g2 := (22, [(0, .ref 90), (1, .int 1), (2, .int 0)], [.int 0, .int 0], (q_cX (q_uA (q_uA (q_rA pix smp tr a16 a17 a21 a22) 27 (upd (upd (upd (fun _ => 0) 0 0) 1 0) 2 0)) 29 (upd (upd (upd (upd (upd (upd (fun _ => 0) 0 1) 0 0) 1 1) 1 0) 2 1) 2 0)) (q_rI t14 t19 p F left dn ins) (q_rJ y), 40, 26520))) 14 (fun _ _ => rfl) ?_
    refine q_Ru_seg (g2 := (28, [(0, .ref 90), (1, .int 1), (2, .int 0)], [.int 1, .int 0, .int 0], (q_cX (q_uA (q_uA (q_rA pix smp tr a16 a17 a21 a22) 27 (upd (upd (upd (fun _ => 0) 0 0) 1 0) 2 0)) 29 (upd (upd (upd (upd (upd (upd (fun _ => 0) 0 1) 0 0) 1 1) 1 0) 2 1) 2 0)) (q_rI t14 t19 p F left dn ins) (q_rJ y), 40, 26520))) 4 (fun _ _ => rfl) ?_
    refine q_Ru_call (v := (some (.int 0))) (h2 := (q_cX (q_uA (q_uA (q_rA pix smp tr a16 a17 a21 a22) 27 (upd (upd (upd (fun _ => 0) 0 0) 1 0) 2 0)) 29 (upd (upd (upd (upd (upd (upd (fun _ => 0) 0 1) 0 0) 1 1) 1 0) 2 1) 2 0)) (q_rI t14 t19 p F left dn ins) (q_rJ y), 40, 26520)) rfl rfl ?_ ?_
    · refine q_Ca_of (Nat.le_of_ble_eq_true rfl) ?_
      refine q_Ru_seg (g2 := (33, [(0, .int 0), (1, .int 0), (2, .int 1)], [.int 0], (q_cX (q_uA (q_uA (q_rA pix smp tr a16 a17 a21 a22) 27 (upd (upd (upd (fun _ => 0) 0 0) 1 0) 2 0)) 29 (upd (upd (upd (upd (upd (upd (fun _ => 0) 0 1) 0 0) 1 1) 1 0) 2 1) 2 0)) (q_rI t14 t19 p F left dn ins) (q_rJ y), 40, 26520))) 5 (fun _ _ => rfl) ?_
      exact q_Ru_ret rfl rfl
    show q_Ru _ _ _ (31, [(0, .ref 90), (1, .int 1), (2, .int 0)], [.int 0], (q_cX (q_uA (q_uA (q_rA pix smp tr a16 a17 a21 a22) 27 (upd (upd (upd (fun _ => 0) 0 0) 1 0) 2 0)) 29 (upd (upd (upd (upd (upd (upd (fun _ => 0) 0 1) 0 0) 1 1) 1 0) 2 1) 2 0)) (q_rI t14 t19 p F left dn ins) (q_rJ y), 40, 26520)) _
    refine q_Ru_seg (g2 := (86, [(5, .int 0), (4, .int 0), (3, .int 0), (0, .ref 90), (1, .int 1), (2, .int 0)], [.int 0], (q_cX (q_uA (q_uA (q_rA pix smp tr a16 a17 a21 a22) 27 (upd (upd (upd (fun _ => 0) 0 0) 1 0) 2 0)) 29 (upd (upd (upd (upd (upd (upd (fun _ => 0) 0 1) 0 0) 1 1) 1 0) 2 1) 2 0)) (q_rI t14 t19 p F left dn ins) (q_rJ y), 40, 26520))) 17 (fun _ _ => rfl) ?_
    exact q_Ru_ret rfl rfl
  show q_Ru _ _ _ (116, [(4, .int 1), (3, .int 0), (0, .ref 90), (1, .ref 69), (2, .int lin)], [.int 0, .int 0], (q_cX (q_uA (q_uA (q_rA pix smp tr a16 a17 a21 a22) 27 (upd (upd (upd (fun _ => 0) 0 0) 1 0) 2 0)) 29 (upd (upd (upd (upd (upd (upd (fun _ => 0) 0 1) 0 0) 1 1) 1 0) 2 1) 2 0)) (q_rI t14 t19 p F left dn ins) (q_rJ y), 40, 26520)) _
  refine q_Ru_seg (g2 := (123, [(4, .int 1), (3, .int 0), (0, .ref 90), (1, .ref 69), (2, .int lin)], [.int 0, .int 0, .int 0], (q_cX (q_uA (q_uA (q_rA pix smp tr a16 a17 a21 a22) 27 (upd (upd (upd (fun _ => 0) 0 0) 1 0) 2 0)) 29 (upd (upd (upd (upd (upd (upd (fun _ => 0) 0 1) 0 0) 1 1) 1 0) 2 1) 2 0)) (q_rI t14 t19 p F left dn ins) (q_rJ y), 40, 26520))) 4 (fun _ _ => rfl) ?_
  refine q_Ru_seg (g2 := (113, [(4, .int 2), (3, .int 0), (0, .ref 90), (1, .ref 69), (2, .int lin)], [.int 0, .int 2, .ref 90, .int 0], (q_cX (q_uA (q_uA (q_rA pix smp tr a16 a17 a21 a22) 27 (upd (upd (upd (fun _ => 0) 0 0) 1 0) 2 0)) 29 (upd (upd (upd (upd (upd (upd (fun _ => 0) 0 1) 0 0) 1 1) 1 0) 2 1) 2 0)) (q_rI t14 t19 p F left dn ins) (q_rJ y), 40, 26520))) 20 (fun _ _ => rfl) ?_
  refine q_Ru_call (v := (some (.int 0))) (h2 := (q_cX (q_uA (q_uA (q_rA pix smp tr a16 a17 a21 a22) 27 (upd (upd (upd (fun _ => 0) 0 0) 1 0) 2 0)) 29 (upd (upd (upd (upd (upd (upd (fun _ => 0) 0 1) 0 0) 1 1) 1 0) 2 1) 2 0)) (q_rI t14 t19 p F left dn ins) (q_rJ y), 40, 26520)) rfl rfl ?_ ?_
  · refine q_Ca_of (Nat.le_of_ble_eq_true rfl) ?_
    refine q_Ru_seg (g2 := (22, [(0, .ref 90), (1, .int 2), (2, .int 0)], [.int 0, .int 0], (q_cX (q_uA (q_uA (q_rA pix smp tr a16 a17 a21 a22) 27 (upd (upd (upd (fun _ => 0) 0 0) 1 0) 2 0)) 29 (upd (upd (upd (upd (upd (upd (fun _ => 0) 0 1) 0 0) 1 1) 1 0) 2 1) 2 0)) (q_rI t14 t19 p F left dn ins) (q_rJ y), 40, 26520))) 14 (fun _ _ => rfl) ?_
    refine q_Ru_seg (g2 := (28, [(0, .ref 90), (1, .int 2), (2, .int 0)], [.int 1, .int 0, .int 0], (q_cX (q_uA (q_uA (q_rA pix smp tr a16 a17 a21 a22) 27 (upd (upd (upd (fun _ => 0) 0 0) 1 0) 2 0)) 29 (upd (upd (upd (upd (upd (upd (fun _ => 0) 0 1) 0 0) 1 1) 1 0) 2 1) 2 0)) (q_rI t14 t19 p F left dn ins) (q_rJ y), 40, 26520))) 4 (fun _ _ => rfl) ?_
    refine q_Ru_call (v := (some (.int 0))) (h2 := (q_cX (q_uA (q_uA (q_rA pix smp tr a16 a17 a21 a22) 27 (upd (upd (upd (fun _ => 0) 0 0) 1 0) 2 0)) 29 (upd (upd (upd (upd (upd (upd (fun _ => 0) 0 1) 0 0) 1 1) 1 0) 2 1) 2 0)) (q_rI t14 t19 p F left dn ins) (q_rJ y), 40, 26520)) rfl rfl ?_ ?_
    · refine q_Ca_of (Nat.le_of_ble_eq_true rfl) ?_
      refine q_Ru_seg (g2 := (33, [(0, .int 0), (1, .int 0), (2, .int 1)], [.int 0], (q_cX (q_uA (q_uA (q_rA pix smp tr a16 a17 a21 a22) 27 (upd (upd (upd (fun _ => 0) 0 0) 1 0) 2 0)) 29 (upd (upd (upd (upd (upd (upd (fun _ => 0) 0 1) 0 0) 1 1) 1 0) 2 1) 2 0)) (q_rI t14 t19 p F left dn ins) (q_rJ y), 40, 26520))) 5 (fun _ _ => rfl) ?_
      exact q_Ru_ret rfl rfl
    show q_Ru _ _ _ (31, [(0, .ref 90), (1, .int 2), (2, .int 0)], [.int 0], (q_cX (q_uA (q_uA (q_rA pix smp tr a16 a17 a21 a22) 27 (upd (upd (upd (fun _ => 0) 0 0) 1 0) 2 0)) 29 (upd (upd (upd (upd (upd (upd (fun _ => 0) 0 1) 0 0) 1 1) 1 0) 2 1) 2 0)) (q_rI t14 t19 p F left dn ins) (q_rJ y), 40, 26520)) _
    refine q_Ru_seg (g2 := (86, [(5, .int 0), (4, .int 1), (3, .int 0), (0, .ref 90), (1, .int 2), (2, .int 0)], [.int 0], (q_cX (q_uA (q_uA (q_rA pix smp tr a16 a17 a21 a22) 27 (upd (upd (upd (fun _ => 0) 0 0) 1 0) 2 0)) 29 (upd (upd (upd (upd (upd (upd (fun _ => 0) 0 1) 0 0) 1 1) 1 0) 2 1) 2 0)) (q_rI t14 t19 p F left dn ins) (q_rJ y), 40, 26520))) 17 (fun _ _ => rfl) ?_
    exact q_Ru_ret rfl rfl
  show q_Ru _ _ _ (116, [(4, .int 2), (3, .int 0), (0, .ref 90), (1, .ref 69), (2, .int lin)], [.int 0, .int 0], (q_cX (q_uA (q_uA (q_rA pix smp tr a16 a17 a21 a22) 27 (upd (upd (upd (fun _ => 0) 0 0) 1 0) 2 0)) 29 (upd (upd (upd (upd (upd (upd (fun _ => 0) 0 1) 0 0) 1 1) 1 0) 2 1) 2 0)) (q_rI t14 t19 p F left dn ins) (q_rJ y), 40, 26520)) _
  refine q_Ru_seg (g2 := (123, [(4, .int 2), (3, .int 0), (0, .ref 90), (1, .ref 69), (2, .int lin)], [.int 0, .int 0, .int 0], (q_cX (q_uA (q_uA (q_rA pix smp tr a16 a17 a21 a22) 27 (upd (upd (upd (fun _ => 0) 0 0) 1 0) 2 0)) 29 (upd (upd (upd (upd (upd (upd (fun _ => 0) 0 1) 0 0) 1 1) 1 0) 2 1) 2 0)) (q_rI t14 t19 p F left dn ins) (q_rJ y), 40, 26520))) 4 (fun _ _ => rfl) ?_
  refine q_Ru_seg (g2 := (141, [(4, .int 3), (3, .int 0), (0, .ref 90), (1, .ref 69), (2, .int lin)], [.int 0, .int lin, .ref 95], (q_cX (q_uA (q_uA (q_rA pix smp tr a16 a17 a21 a22) 27 (upd (upd (upd (fun _ => 0) 0 0) 1 0) 2 0)) 29 (upd (upd (upd (upd (upd (upd (fun _ => 0) 0 1) 0 0) 1 1) 1 0) 2 1) 2 0)) (q_rI t14 t19 p F left dn ins) (q_rJ y), 40, 26520))) 14 (fun _ _ => rfl) ?_
  refine q_Ru_rsT (g2 := (142, [(4, .int 3), (3, .int 0), (0, .ref 90), (1, .ref 69), (2, .int lin)], [], (q_cX (q_uA (q_uA (q_uA (q_rA pix smp tr a16 a17 a21 a22) 27 (upd (upd (upd (fun _ => 0) 0 0) 1 0) 2 0)) 29 (upd (upd (upd (upd (upd (upd (fun _ => 0) 0 1) 0 0) 1 1) 1 0) 2 1) 2 0)) 31 (upd smp (lin.toNatClampNeg) 0)) (q_rI t14 t19 p F left dn ins) (q_rJ y), 40, 26520))) rfl q_astX_31 (q_in_bd (x := lin) (n := 40) (U := 39) (L := 0) l0 l1) ?_
  generalize (upd smp (lin.toNatClampNeg) 0) = w19
  exact q_Ru_ret rfl rfl
