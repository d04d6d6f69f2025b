
set_option maxHeartbeats 4000000 in
theorem dzj_M200_64 (c d w : Int) (s : q_S) (hI : q_Iv c d w s) (a1 : Int32) : (fun (x : q_S × Int32) => q_Iv c d w x.1) (dz_M200_64 s a1) := by
  refine q_S_of (P := (fun (x : q_S × Int32) => q_Iv c d w x.1)) ?_
  unfold dz_M200_64
  exact q_E_x (q_Iv_I (i := 0) (m := 39) hI (q_rg_full _))
set_option maxHeartbeats 4000000 in
theorem dzj_M204_64 (c d w : Int) (s : q_S) (hI : q_Iv c d w s) : (q_Iv c d w) (dz_M204_64 s) := by
  refine q_S_of (P := (q_Iv c d w)) ?_
  unfold dz_M204_64
  cases h4 : decide (s.2.1 0 34 < 0) with
  | true =>
    have g5 := (q_rg_ltT1 (l := -2147483648) (U := -1) h4 (q_rg_full _) (q_rg_lit (n := 0) (x := 0) rfl) (by decide))
    refine q_S_T ?_
    exact q_E_x hI
  | false =>
    have g6 := (q_rg_ltF1 (l2 := 0) (u := 2147483647) h4 (q_rg_full _) (q_rg_lit (n := 0) (x := 0) rfl))
    refine q_S_F ?_
    exact q_E_x (q_Iv_I (i := 0) (m := 34) hI (q_rg_full _))
theorem q64_div {a b : Int64} (ha : 0 ≤ a.toInt) (hb : 0 < b.toInt) : (a / b).toInt = a.toInt / b.toInt := by
  rw [Int64.toInt_div]
  have h9 := Int64.toInt_lt a
  have h1 : a.toInt.tdiv b.toInt = a.toInt / b.toInt := Int.tdiv_eq_ediv_of_nonneg ha
  rw [h1]
  have h2 : 0 ≤ a.toInt / b.toInt := Int.ediv_nonneg ha (Int.le_of_lt hb)
  have h3 : a.toInt / b.toInt ≤ a.toInt := Int.ediv_le_self _ ha
  exact Int.bmod_eq_of_le (by omega) (by omega)
theorem q64_rem {a b : Int64} (ha : 0 ≤ a.toInt) (hb : 0 < b.toInt) : (a - a / b * b).toInt = a.toInt % b.toInt := by
  have h9 := Int64.toInt_lt a
  have e0 := Int.mul_ediv_add_emod a.toInt b.toInt
  have e3 : 0 ≤ a.toInt % b.toInt := Int.emod_nonneg _ (by omega)
  have e4 : 0 ≤ a.toInt / b.toInt := Int.ediv_nonneg ha (Int.le_of_lt hb)
  have e5 : 0 ≤ a.toInt / b.toInt * b.toInt := Int.mul_nonneg e4 (Int.le_of_lt hb)
  have e6 : b.toInt * (a.toInt / b.toInt) = a.toInt / b.toInt * b.toInt := Int.mul_comm _ _
  have e1 : (a / b * b).toInt = a.toInt / b.toInt * b.toInt := by
    rw [Int64.toInt_mul, q64_div ha hb]
    exact Int.bmod_eq_of_le (by omega) (by omega)
  rw [Int64.toInt_sub, e1]
  rw [show Int.bmod (a.toInt - a.toInt / b.toInt * b.toInt) (2 ^ 64) = a.toInt - a.toInt / b.toInt * b.toInt from Int.bmod_eq_of_le (by omega) (by omega)]
  omega
theorem q64_32 {y : Int64} (h : 0 ≤ y.toInt) (h2 : y.toInt < 2147483648) : y.toInt32.toInt = y.toInt := by
  rw [Int64.toInt_toInt32]
  exact Int.bmod_eq_of_le (by omega) (by omega)
theorem q_cyc {c d w : Int} {s : q_S} (hI : q_Iv c d w s) (b : Int64) {n : Int} (hb : b.toInt = n) (h0 : 0 < n) (h1 : n < 2147483648) : (((s.2.2 0 15) - (s.2.2 0 15) / b * b).toInt32).toInt = (s.2.2 0 15).toInt % n := by
  have h := (hI.2.2 0 15 rfl).1
  have e : ((s.2.2 0 15) - (s.2.2 0 15) / b * b).toInt = (s.2.2 0 15).toInt % n := by rw [q64_rem h (by omega), hb]
  have h2 := Int.emod_nonneg (s.2.2 0 15).toInt (show n ≠ 0 by omega)
  have h3 := Int.emod_lt_of_pos (s.2.2 0 15).toInt h0
  rw [q64_32 (by omega) (by omega), e]
theorem q_line {c d w : Int} {s : q_S} (hI : q_Iv c d w s) : (dz_M206_64 s).toInt = (s.2.2 0 15).toInt / 24 % 40 := by
  have h := (hI.2.2 0 15 rfl).1
  have e1 : ((s.2.2 0 15) / 24).toInt = (s.2.2 0 15).toInt / 24 := q64_div h (by decide)
  have e2 : ((s.2.2 0 15) / 24 - (s.2.2 0 15) / 24 / 40 * 40).toInt = (s.2.2 0 15).toInt / 24 % 40 := by
    rw [q64_rem (by omega) (by decide), e1]; rfl
  show (((s.2.2 0 15) / 24 - (s.2.2 0 15) / 24 / 40 * 40).toInt32).toInt = _
  rw [q64_32 (by omega) (by omega), e2]
theorem dzj_M206_64 (c d w : Int) (s : q_S) (hI : q_Iv c d w s) : (fun x => q_rgz 0 39 x) (dz_M206_64 s) := by
  have h := q_line hI
  show q_rgz 0 39 (dz_M206_64 s)
  unfold q_rgz
  rw [h]
  omega
theorem q_rg_cyc {c d w n : Int} {s : q_S} {b : Int64} (hI : q_Iv c d w s) (h0 : 0 < n ∧ n < 2147483648) (hb : b.toInt = n) : q_rgz 0 (n - 1) (((s.2.2 0 15) - (s.2.2 0 15) / b * b).toInt32) := by
  unfold q_rgz
  rw [q_cyc hI b hb h0.1 h0.2]
  have h2 := Int.emod_nonneg (s.2.2 0 15).toInt (show n ≠ 0 by omega)
  have h3 := Int.emod_lt_of_pos (s.2.2 0 15).toInt h0.1
  omega

set_option maxHeartbeats 4000000 in
theorem dzj_M207_64_85 (c d w : Int) (k35 : q_S → Int32 → Option (q_S × Int32)) (M35 : Int) (tk35 : ∀ (s : q_S), q_Iv c d w s → ∀ (v2 : Int32), q_rgz 0 8 v2 → ((8 - v2.toInt).toNat : Int) ≤ M35 → q_Ex (k35 s v2) (fun (x : q_S × Int32) => q_Iv c d w x.1 ∧ q_rgz 0 15 x.2)) (k43 : q_S → Int32 → Int32 → Option (q_S × Int32)) (M43 : Int) (tk43 : ∀ (s : q_S), q_Iv c d w s → ∀ (v2 : Int32) (v3 : Int32), q_rgz 0 7 v2 → q_rgz 0 16 v3 → ((8 - v2.toInt).toNat : Int) ≤ M35 + 1 → ((16 - v3.toInt).toNat : Int) ≤ M43 → q_Ex (k43 s v2 v3) (fun (x : q_S × Int32) => q_Iv c d w x.1 ∧ q_rgz 0 15 x.2)) (s : q_S) (hI : q_Iv c d w s) (v2 : Int32) (v3 : Int32) (rv2 : q_rgz 0 7 v2) (rv3 : q_rgz 0 15 v3) (m35 : ((8 - v2.toInt).toNat : Int) ≤ M35 + 1) (m43 : ((16 - v3.toInt).toNat : Int) ≤ M43 + 1) : q_Ex (dz_M207_64_85 k35 k43 s v2 v3) (fun (x : q_S × Int32) => q_Iv c d w x.1 ∧ q_rgz 0 15 x.2) := by
  unfold dz_M207_64_85
  refine q_E_A (q_in_rg (q_rg_div (c := 4) (U := 3) rv3 (by decide) rfl (by decide) (by decide)) (by decide) (by decide)) ?_
  refine q_E_A (q_in_rg (q_rg_add (L := 4) (U := 7) (q_rg_lit (n := 4) (x := 4) rfl) (q_rg_rem (c := 4) (U := 3) rv3 (by decide) rfl (by decide) (by decide)) (by decide) (by decide) (by decide) (by decide)) (by decide) (by decide)) ?_
  have j36 : q_Iv c d w (q_sA s 33 (upd (s.1 33) ((v3 / 4).toNatClampNeg) (vp_nar .boolean 1))) := (q_Iv_A (i := 33) hI (q_hf_up ((hI).1 33) (q_s33 (q_rg_le (L := 0) (U := 1) (q_rg_nb _) (by decide) (by decide)))))
  refine q_E_L ?_
  generalize (q_sA s 33 (upd (s.1 33) ((v3 / 4).toNatClampNeg) (vp_nar .boolean 1))) = r5 at j36 ⊢
  exact tk43 (q_sA r5 33 (upd (r5.1 33) (((4 : Int32) + (v3 - v3 / 4 * 4)).toNatClampNeg) (vp_nar .boolean 1))) (q_Iv_A (i := 33) j36 (q_hf_up ((j36).1 33) (q_s33 (q_rg_le (L := 0) (U := 1) (q_rg_nb _) (by decide) (by decide))))) (v2) (v3 + 1) (q_rg_le (L := 0) (U := 7) rv2 (by decide) (by decide)) (q_rg_le (L := 0) (U := 16) (q_rg_add (L := 1) (U := 16) rv3 (q_rg_lit (n := 1) (x := 1) rfl) (by decide) (by decide) (by decide) (by decide)) (by decide) (by decide)) m35 (q_meu rv3 m43 (by decide) (by decide))
set_option maxHeartbeats 4000000 in
theorem dzjb_M207_64_43 (c d w : Int) (k35 : q_S → Int32 → Option (q_S × Int32)) (M35 : Int) (tk35 : ∀ (s : q_S), q_Iv c d w s → ∀ (v2 : Int32), q_rgz 0 8 v2 → ((8 - v2.toInt).toNat : Int) ≤ M35 → q_Ex (k35 s v2) (fun (x : q_S × Int32) => q_Iv c d w x.1 ∧ q_rgz 0 15 x.2)) (k43 : q_S → Int32 → Int32 → Option (q_S × Int32)) (M43 : Int) (tk43 : ∀ (s : q_S), q_Iv c d w s → ∀ (v2 : Int32) (v3 : Int32), q_rgz 0 7 v2 → q_rgz 0 16 v3 → ((8 - v2.toInt).toNat : Int) ≤ M35 + 1 → ((16 - v3.toInt).toNat : Int) ≤ M43 → q_Ex (k43 s v2 v3) (fun (x : q_S × Int32) => q_Iv c d w x.1 ∧ q_rgz 0 15 x.2)) (s : q_S) (hI : q_Iv c d w s) (v2 : Int32) (v3 : Int32) (rv2 : q_rgz 0 7 v2) (rv3 : q_rgz 0 16 v3) (m35 : ((8 - v2.toInt).toNat : Int) ≤ M35 + 1) (m43 : ((16 - v3.toInt).toNat : Int) ≤ M43 + 1) : q_Ex (cond (decide (v3 < 16)) (cond (q_in v3 16) (cond (decide ((s.1 7) (v3.toNatClampNeg) = 0)) (k43 s v2 (v3 + 1)) (cond (q_in (v3 / 4) 8) (cond (decide ((s.1 33) ((v3 / 4).toNatClampNeg) = 0)) (cond (q_in ((4 : Int32) + (v3 - v3 / 4 * 4)) 8) (cond (decide ((s.1 33) (((4 : Int32) + (v3 - v3 / 4 * 4)).toNatClampNeg) = 0)) (q_let ((q_sA s 33 (upd (s.1 33) ((v3 / 4).toNatClampNeg) (vp_nar .boolean 0)))) fun r4 => k43 (q_sA r4 33 (upd (r4.1 33) (((4 : Int32) + (v3 - v3 / 4 * 4)).toNatClampNeg) (vp_nar .boolean 0))) v2 (v3 + 1)) (dz_M207_64_85 k35 k43 s v2 v3)) none) (dz_M207_64_85 k35 k43 s v2 v3)) none)) none) (k35 s (v2 + 1))) (fun (x : q_S × Int32) => q_Iv c d w x.1 ∧ q_rgz 0 15 x.2) := by
  cases h37 : decide (v3 < 16) with
  | true =>
    have g38 := (q_rg_ltT1 (l := 0) (U := 15) h37 rv3 (q_rg_lit (n := 16) (x := 16) rfl) (by decide))
    refine q_E_T ?_
    refine q_E_A (q_in_rg g38 (by decide) (by decide)) ?_
    cases h39 : decide ((s.1 7) (v3.toNatClampNeg) = 0) with
    | true =>
      have g40 := q_rg_eqT h39 (q_rg_lit (n := 0) (x := 0) rfl)
      refine q_E_T ?_
      exact tk43 (s) hI (v2) (v3 + 1) (q_rg_le (L := 0) (U := 7) rv2 (by decide) (by decide)) (q_rg_le (L := 0) (U := 16) (q_rg_add (L := 1) (U := 16) g38 (q_rg_lit (n := 1) (x := 1) rfl) (by decide) (by decide) (by decide) (by decide)) (by decide) (by decide)) m35 (q_meu g38 m43 (by decide) (by decide))
    | false =>
      have g41 := (q_rg_neL (l := 0) (u := 1) (n := 0) (L := 1) h39 (q_r7 hI _) rfl (by decide) (by decide))
      refine q_E_F ?_
      refine q_E_A (q_in_rg (q_rg_div (c := 4) (U := 3) g38 (by decide) rfl (by decide) (by decide)) (by decide) (by decide)) ?_
      cases h42 : decide ((s.1 33) ((v3 / 4).toNatClampNeg) = 0) with
      | true =>
        have g43 := q_rg_eqT h42 (q_rg_lit (n := 0) (x := 0) rfl)
        refine q_E_T ?_
        refine q_E_A (q_in_rg (q_rg_add (L := 4) (U := 7) (q_rg_lit (n := 4) (x := 4) rfl) (q_rg_rem (c := 4) (U := 3) g38 (by decide) rfl (by decide) (by decide)) (by decide) (by decide) (by decide) (by decide)) (by decide) (by decide)) ?_
        cases h44 : decide ((s.1 33) (((4 : Int32) + (v3 - v3 / 4 * 4)).toNatClampNeg) = 0) with
        | true =>
          have g45 := q_rg_eqT h44 (q_rg_lit (n := 0) (x := 0) rfl)
          refine q_E_T ?_
          have j46 : q_Iv c d w (q_sA s 33 (upd (s.1 33) ((v3 / 4).toNatClampNeg) (vp_nar .boolean 0))) := (q_Iv_A (i := 33) hI (q_hf_up ((hI).1 33) (q_s33 (q_rg_le (L := 0) (U := 1) (q_rg_nb _) (by decide) (by decide)))))
          refine q_E_L ?_
          generalize (q_sA s 33 (upd (s.1 33) ((v3 / 4).toNatClampNeg) (vp_nar .boolean 0))) = r4 at j46 ⊢
          exact tk43 (q_sA r4 33 (upd (r4.1 33) (((4 : Int32) + (v3 - v3 / 4 * 4)).toNatClampNeg) (vp_nar .boolean 0))) (q_Iv_A (i := 33) j46 (q_hf_up ((j46).1 33) (q_s33 (q_rg_le (L := 0) (U := 1) (q_rg_nb _) (by decide) (by decide))))) (v2) (v3 + 1) (q_rg_le (L := 0) (U := 7) rv2 (by decide) (by decide)) (q_rg_le (L := 0) (U := 16) (q_rg_add (L := 1) (U := 16) g38 (q_rg_lit (n := 1) (x := 1) rfl) (by decide) (by decide) (by decide) (by decide)) (by decide) (by decide)) m35 (q_meu g38 m43 (by decide) (by decide))
        | false =>
          have g47 := (q_rg_neL (l := 0) (u := 1) (n := 0) (L := 1) h44 (q_r33 hI _) rfl (by decide) (by decide))
          refine q_E_F ?_
          exact dzj_M207_64_85 c d w k35 M35 tk35 k43 M43 tk43 (s) hI (v2) (v3) (q_rg_le (L := 0) (U := 7) rv2 (by decide) (by decide)) (q_rg_le (L := 0) (U := 15) g38 (by decide) (by decide)) m35 m43
      | false =>
        have g48 := (q_rg_neL (l := 0) (u := 1) (n := 0) (L := 1) h42 (q_r33 hI _) rfl (by decide) (by decide))
        refine q_E_F ?_
        exact dzj_M207_64_85 c d w k35 M35 tk35 k43 M43 tk43 (s) hI (v2) (v3) (q_rg_le (L := 0) (U := 7) rv2 (by decide) (by decide)) (q_rg_le (L := 0) (U := 15) g38 (by decide) (by decide)) m35 m43
  | false =>
    have g49 := (q_rg_ltF1 (l2 := 16) (u := 16) h37 rv3 (q_rg_lit (n := 16) (x := 16) rfl))
    refine q_E_F ?_
    exact tk35 (s) hI (v2 + 1) (q_rg_le (L := 0) (U := 8) (q_rg_add (L := 1) (U := 8) rv2 (q_rg_lit (n := 1) (x := 1) rfl) (by decide) (by decide) (by decide) (by decide)) (by decide) (by decide)) (q_meu rv2 m35 (by decide) (by decide))
theorem dzj_M207_64_43 (c d w : Int) (k35 : q_S → Int32 → Option (q_S × Int32)) (M35 : Int) (tk35 : ∀ (s : q_S), q_Iv c d w s → ∀ (v2 : Int32), q_rgz 0 8 v2 → ((8 - v2.toInt).toNat : Int) ≤ M35 → q_Ex (k35 s v2) (fun (x : q_S × Int32) => q_Iv c d w x.1 ∧ q_rgz 0 15 x.2)) : ∀ (m : Nat) (s : q_S) (hI : q_Iv c d w s) (v2 : Int32) (v3 : Int32) (rv2 : q_rgz 0 7 v2) (rv3 : q_rgz 0 16 v3) (m35 : ((8 - v2.toInt).toNat : Int) ≤ M35 + 1), ((16 - v3.toInt).toNat : Int) ≤ (m : Int) → q_Ex (dz_M207_64_43 k35 (m + 1) s v2 v3) (fun (x : q_S × Int32) => q_Iv c d w x.1 ∧ q_rgz 0 15 x.2) := by
  intro m
  induction m with
  | zero => intro s hI v2 v3 rv2 rv3 m35 hm; rw [dzs_M207_64_43]; exact dzjb_M207_64_43 c d w k35 M35 tk35 (dz_M207_64_43 k35 0) (-1) (fun s hI v2 v3 rv2 rv3 m35 hm => absurd hm (by omega)) s hI v2 v3 rv2 rv3 m35 (by omega)
  | succ m ih => intro s hI v2 v3 rv2 rv3 m35 hm; rw [dzs_M207_64_43]; exact dzjb_M207_64_43 c d w k35 M35 tk35 (dz_M207_64_43 k35 (m + 1)) (m : Int) (fun s hI v2 v3 rv2 rv3 m35 hm => ih s hI v2 v3 rv2 rv3 m35 hm) s hI v2 v3 rv2 rv3 m35 (by omega)
theorem dzj_M207_64_130 (c d w : Int) : ∀ (m : Nat) (s : q_S) (hI : q_Iv c d w s) (v2 v3 : Int32) (rv3 : q_rgz 0 4 v3) (hx : 0 ≤ v2.toInt ∧ v2.toInt < ((2 ^ v3.toInt.toNat : Nat) : Int)), ((4 - v3.toInt).toNat : Int) ≤ (m : Int) → q_Ex (dz_M207_64_130 (m + 1) s v2 v3) (fun x => q_Iv c d w x.1 ∧ q_rgz 0 15 x.2) := by
  intro m
  induction m with
  | zero =>
    intro s hI v2 v3 rv3 hx hm
    have e : v3.toInt = 4 := by have := rv3.2; have := rv3.1; omega
    have e2 : v3 = 4 := Int32.toInt_inj.mp e
    subst e2
    rw [dzs_M207_64_130]
    have h : v2.toInt < 16 := hx.2
    exact ⟨_, rfl, hI, hx.1, show v2.toInt ≤ 15 by omega⟩
  | succ m ih =>
    intro s hI v2 v3 rv3 hx hm
    have a := rv3.1
    have b := rv3.2
    rw [dzs_M207_64_130]
    dsimp only
    cases h : decide (v3 < 4) with
    | false =>
      have e1 : ¬ v3.toInt < 4 := fun z => of_decide_eq_false h (Int32.lt_iff_toInt_lt.mpr z)
      have e2 : v3 = 4 := Int32.toInt_inj.mp (show v3.toInt = 4 by omega)
      subst e2
      have h : v2.toInt < 16 := hx.2
      exact ⟨_, rfl, hI, hx.1, show v2.toInt ≤ 15 by omega⟩
    | true =>
      have e1 : v3.toInt < 4 := Int32.lt_iff_toInt_lt.mp (of_decide_eq_true h)
      have e3 : (v3 + 1).toInt = v3.toInt + 1 := q_add9 (c := 1) (by show _ ≤ v3.toInt + 1; omega) (by show v3.toInt + 1 ≤ _; omega)
      have i1 : q_in ((4 : Int32) + v3) 8 = true := q_in_rg (q_rg_add (L := 4) (U := 7) (q_rg_lit (n := 4) (x := 4) rfl) (l2 := 0) (u2 := 3) ⟨a, by omega⟩ (by decide) (by decide) (by decide) (by decide)) (by decide) (by decide)
      have p : ((2 ^ (v3 + 1).toInt.toNat : Nat) : Int) = 2 * ((2 ^ v3.toInt.toNat : Nat) : Int) := by
        rw [e3, show (v3.toInt + 1).toNat = v3.toInt.toNat + 1 by omega, Nat.pow_succ]
        omega
      refine q_E_T (q_E_A i1 ?_)
      have sh : ((1 : Int32) <<< (v3 &&& 31)).toInt = ((2 ^ v3.toInt.toNat : Nat) : Int) ∧ ((2 ^ v3.toInt.toNat : Nat) : Int) ≤ 8 := by
        have e : v3.toInt = 0 ∨ v3.toInt = 1 ∨ v3.toInt = 2 ∨ v3.toInt = 3 := by omega
        rcases e with e | e | e | e
        · rw [show v3 = 0 from Int32.toInt_inj.mp e]; exact ⟨by decide, by decide⟩
        · rw [show v3 = 1 from Int32.toInt_inj.mp e]; exact ⟨by decide, by decide⟩
        · rw [show v3 = 2 from Int32.toInt_inj.mp e]; exact ⟨by decide, by decide⟩
        · rw [show v3 = 3 from Int32.toInt_inj.mp e]; exact ⟨by decide, by decide⟩
      have z0 : (v2 + 0).toInt = v2.toInt := by
        rw [show v2 + 0 = v2 from Int32.add_zero v2]
      have z1 : (v2 + ((1 : Int32) <<< (v3 &&& 31))).toInt = v2.toInt + ((2 ^ v3.toInt.toNat : Nat) : Int) := by
        rw [q_add9 (by omega) (by omega), sh.1]
      cases h2 : decide ((s.1 33) (((4 : Int32) + v3).toNatClampNeg) = 0) with
      | true =>
        refine q_E_T ?_
        exact ih s hI _ _ ⟨by omega, by omega⟩ ⟨by omega, by rw [p]; omega⟩ (by omega)
      | false =>
        refine q_E_F ?_
        exact ih s hI _ _ ⟨by omega, by omega⟩ ⟨by omega, by rw [p]; omega⟩ (by omega)

set_option maxHeartbeats 4000000 in
theorem dzjb_M207_64_35 (c d w : Int) (k35 : q_S → Int32 → Option (q_S × Int32)) (M35 : Int) (tk35 : ∀ (s : q_S), q_Iv c d w s → ∀ (v2 : Int32), q_rgz 0 8 v2 → ((8 - v2.toInt).toNat : Int) ≤ M35 → q_Ex (k35 s v2) (fun (x : q_S × Int32) => q_Iv c d w x.1 ∧ q_rgz 0 15 x.2)) (s : q_S) (hI : q_Iv c d w s) (v2 : Int32) (rv2 : q_rgz 0 8 v2) (m35 : ((8 - v2.toInt).toNat : Int) ≤ M35 + 1) : q_Ex (cond (decide (v2 < 8)) (dz_M207_64_43 k35 5000 s v2 0) (dz_M207_64_130 5000 s 0 0)) (fun (x : q_S × Int32) => q_Iv c d w x.1 ∧ q_rgz 0 15 x.2) := by
  cases h50 : decide (v2 < 8) with
  | true =>
    have g51 := (q_rg_ltT1 (l := 0) (U := 7) h50 rv2 (q_rg_lit (n := 8) (x := 8) rfl) (by decide))
    refine q_E_T ?_
    exact dzj_M207_64_43 c d w k35 M35 tk35 4999 (s) hI (v2) (0) (q_rg_le (L := 0) (U := 7) g51 (by decide) (by decide)) (q_rg_le (L := 0) (U := 16) (q_rg_lit (n := 0) (x := 0) rfl) (by decide) (by decide)) m35 (q_meu0 (q_rg_lit (n := 0) (x := 0) rfl) (by decide) (by decide))
  | false =>
    have g52 := (q_rg_ltF1 (l2 := 8) (u := 8) h50 rv2 (q_rg_lit (n := 8) (x := 8) rfl))
    refine q_E_F ?_
    exact dzj_M207_64_130 c d w 4999 (s) hI (0) (0) (q_rg_le (L := 0) (U := 4) (q_rg_lit (n := 0) (x := 0) rfl) (by decide) (by decide)) (by decide) (q_meu0 (q_rg_lit (n := 0) (x := 0) rfl) (by decide) (by decide))
theorem dzj_M207_64_35 (c d w : Int) : ∀ (m : Nat) (s : q_S) (hI : q_Iv c d w s) (v2 : Int32) (rv2 : q_rgz 0 8 v2), ((8 - v2.toInt).toNat : Int) ≤ (m : Int) → q_Ex (dz_M207_64_35 (m + 1) s v2) (fun (x : q_S × Int32) => q_Iv c d w x.1 ∧ q_rgz 0 15 x.2) := by
  intro m
  induction m with
  | zero => intro s hI v2 rv2 hm; rw [dzs_M207_64_35]; exact dzjb_M207_64_35 c d w (dz_M207_64_35 0) (-1) (fun s hI v2 rv2 hm => absurd hm (by omega)) s hI v2 rv2 (by omega)
  | succ m ih => intro s hI v2 rv2 hm; rw [dzs_M207_64_35]; exact dzjb_M207_64_35 c d w (dz_M207_64_35 (m + 1)) (m : Int) (fun s hI v2 rv2 hm => ih s hI v2 rv2 hm) s hI v2 rv2 (by omega)
set_option maxHeartbeats 4000000 in
theorem dzjb_M207_64_2 (c d w : Int) (k2 : q_S → Int32 → Int32 → Option (q_S × Int32)) (M2 : Int) (tk2 : ∀ (s : q_S), q_Iv c d w s → ∀ (v1 : Int32) (v2 : Int32), q_rgz 0 4 v2 → ((4 - v2.toInt).toNat : Int) ≤ M2 → q_Ex (k2 s v1 v2) (fun (x : q_S × Int32) => q_Iv c d w x.1 ∧ q_rgz 0 15 x.2)) (s : q_S) (hI : q_Iv c d w s) (v1 : Int32) (v2 : Int32) (rv2 : q_rgz 0 4 v2) (m2 : ((4 - v2.toInt).toNat : Int) ≤ M2 + 1) : q_Ex (cond (decide (v2 < 4)) (q_let (dz_M205 s v1 v2) fun r1 => cond r1 (cond (q_in v2 8) (cond (q_in ((4 : Int32) + v2) 8) (q_let ((q_sA s 33 (upd (s.1 33) (v2.toNatClampNeg) (vp_nar .boolean 1)))) fun r2 => k2 (q_sA r2 33 (upd (r2.1 33) (((4 : Int32) + v2).toNatClampNeg) (vp_nar .boolean 0))) v1 (v2 + 1)) none) none) (cond (q_in v2 8) (cond (q_in ((4 : Int32) + v2) 8) (q_let ((q_sA s 33 (upd (s.1 33) (v2.toNatClampNeg) (vp_nar .boolean 0)))) fun r3 => k2 (q_sA r3 33 (upd (r3.1 33) (((4 : Int32) + v2).toNatClampNeg) (vp_nar .boolean 0))) v1 (v2 + 1)) none) none)) (dz_M207_64_35 5000 s 0)) (fun (x : q_S × Int32) => q_Iv c d w x.1 ∧ q_rgz 0 15 x.2) := by
  cases h53 : decide (v2 < 4) with
  | true =>
    have g54 := (q_rg_ltT1 (l := 0) (U := 3) h53 rv2 (q_rg_lit (n := 4) (x := 4) rfl) (by decide))
    refine q_E_T ?_
    refine q_E_L ?_
    generalize p55 : dz_M205 s v1 v2 = r1
    cases r1 with
    | true =>
      refine q_E_T ?_
      refine q_E_A (q_in_rg g54 (by decide) (by decide)) ?_
      refine q_E_A (q_in_rg (q_rg_add (L := 4) (U := 7) (q_rg_lit (n := 4) (x := 4) rfl) g54 (by decide) (by decide) (by decide) (by decide)) (by decide) (by decide)) ?_
      have j56 : q_Iv c d w (q_sA s 33 (upd (s.1 33) (v2.toNatClampNeg) (vp_nar .boolean 1))) := (q_Iv_A (i := 33) hI (q_hf_up ((hI).1 33) (q_s33 (q_rg_le (L := 0) (U := 1) (q_rg_nb _) (by decide) (by decide)))))
      refine q_E_L ?_
      generalize (q_sA s 33 (upd (s.1 33) (v2.toNatClampNeg) (vp_nar .boolean 1))) = r2 at j56 ⊢
      exact tk2 (q_sA r2 33 (upd (r2.1 33) (((4 : Int32) + v2).toNatClampNeg) (vp_nar .boolean 0))) (q_Iv_A (i := 33) j56 (q_hf_up ((j56).1 33) (q_s33 (q_rg_le (L := 0) (U := 1) (q_rg_nb _) (by decide) (by decide))))) (v1) (v2 + 1) (q_rg_le (L := 0) (U := 4) (q_rg_add (L := 1) (U := 4) g54 (q_rg_lit (n := 1) (x := 1) rfl) (by decide) (by decide) (by decide) (by decide)) (by decide) (by decide)) (q_meu g54 m2 (by decide) (by decide))
    | false =>
      refine q_E_F ?_
      refine q_E_A (q_in_rg g54 (by decide) (by decide)) ?_
      refine q_E_A (q_in_rg (q_rg_add (L := 4) (U := 7) (q_rg_lit (n := 4) (x := 4) rfl) g54 (by decide) (by decide) (by decide) (by decide)) (by decide) (by decide)) ?_
      have j57 : q_Iv c d w (q_sA s 33 (upd (s.1 33) (v2.toNatClampNeg) (vp_nar .boolean 0))) := (q_Iv_A (i := 33) hI (q_hf_up ((hI).1 33) (q_s33 (q_rg_le (L := 0) (U := 1) (q_rg_nb _) (by decide) (by decide)))))
      refine q_E_L ?_
      generalize (q_sA s 33 (upd (s.1 33) (v2.toNatClampNeg) (vp_nar .boolean 0))) = r3 at j57 ⊢
      exact tk2 (q_sA r3 33 (upd (r3.1 33) (((4 : Int32) + v2).toNatClampNeg) (vp_nar .boolean 0))) (q_Iv_A (i := 33) j57 (q_hf_up ((j57).1 33) (q_s33 (q_rg_le (L := 0) (U := 1) (q_rg_nb _) (by decide) (by decide))))) (v1) (v2 + 1) (q_rg_le (L := 0) (U := 4) (q_rg_add (L := 1) (U := 4) g54 (q_rg_lit (n := 1) (x := 1) rfl) (by decide) (by decide) (by decide) (by decide)) (by decide) (by decide)) (q_meu g54 m2 (by decide) (by decide))
  | false =>
    have g58 := (q_rg_ltF1 (l2 := 4) (u := 4) h53 rv2 (q_rg_lit (n := 4) (x := 4) rfl))
    refine q_E_F ?_
    exact dzj_M207_64_35 c d w 4999 (s) hI (0) (q_rg_le (L := 0) (U := 8) (q_rg_lit (n := 0) (x := 0) rfl) (by decide) (by decide)) (q_meu0 (q_rg_lit (n := 0) (x := 0) rfl) (by decide) (by decide))
theorem dzj_M207_64_2 (c d w : Int) : ∀ (m : Nat) (s : q_S) (hI : q_Iv c d w s) (v1 : Int32) (v2 : Int32) (rv2 : q_rgz 0 4 v2), ((4 - v2.toInt).toNat : Int) ≤ (m : Int) → q_Ex (dz_M207_64_2 (m + 1) s v1 v2) (fun (x : q_S × Int32) => q_Iv c d w x.1 ∧ q_rgz 0 15 x.2) := by
  intro m
  induction m with
  | zero => intro s hI v1 v2 rv2 hm; rw [dzs_M207_64_2]; exact dzjb_M207_64_2 c d w (dz_M207_64_2 0) (-1) (fun s hI v1 v2 rv2 hm => absurd hm (by omega)) s hI v1 v2 rv2 (by omega)
  | succ m ih => intro s hI v1 v2 rv2 hm; rw [dzs_M207_64_2]; exact dzjb_M207_64_2 c d w (dz_M207_64_2 (m + 1)) (m : Int) (fun s hI v1 v2 rv2 hm => ih s hI v1 v2 rv2 hm) s hI v1 v2 rv2 (by omega)
set_option maxHeartbeats 4000000 in
theorem dzj_M207_64 (c d w : Int) (s : q_S) (hI : q_Iv c d w s) (a1 : Int32) : q_Ex (dz_M207_64 s a1) (fun (x : q_S × Int32) => q_Iv c d w x.1 ∧ q_rgz 0 15 x.2) := by
  unfold dz_M207_64
  exact dzj_M207_64_2 c d w 4999 (s) hI (a1) (0) (q_rg_le (L := 0) (U := 4) (q_rg_lit (n := 0) (x := 0) rfl) (by decide) (by decide)) (q_meu0 (q_rg_lit (n := 0) (x := 0) rfl) (by decide) (by decide))
set_option maxHeartbeats 4000000 in
theorem dzj_M209_64 (c d w : Int) (s : q_S) (hI : q_Iv c d w s) (a1 : Int32) (ra1 : q_rgz 0 47 a1) : q_Ex (dz_M209_64 s a1) (fun (x : q_S × Int32) => q_Iv c d w x.1 ∧ q_rgz 0 255 x.2) := by
  unfold dz_M209_64
  cases h84 : decide (a1 = 9) with
  | true =>
    have g85 := q_rg_eqT h84 (q_rg_lit (n := 9) (x := 9) rfl)
    refine q_E_T ?_
    have j86 := dzj_M206_64 c d w (s) hI
    refine q_E_L ?_
    generalize dz_M206_64 s = r3 at j86 ⊢
    exact q_E_x ⟨hI, q_rg_le j86 (by decide) (by decide)⟩
  | false =>
    refine q_E_F ?_
    cases h87 : decide (a1 = 10) with
    | true =>
      have g88 := q_rg_eqT h87 (q_rg_lit (n := 10) (x := 10) rfl)
      refine q_E_T ?_
      exact q_E_x ⟨hI, q_rg_le (q_n9 hI) (by decide) (by decide)⟩
    | false =>
      refine q_E_F ?_
      refine q_E_L ?_
      generalize p89 : dz_M201 s a1 12 15 = r4
      cases r4 with
      | true =>
        have g90 : q_rgz 12 15 (a1) := ⟨(q_p202 p89 (q_rg_lit (n := 12) (x := 12) rfl) (q_rg_lit (n := 15) (x := 15) rfl)).1, (q_p202 p89 (q_rg_lit (n := 12) (x := 12) rfl) (q_rg_lit (n := 15) (x := 15) rfl)).2⟩
        refine q_E_T ?_
        cases h91 : decide (a1 - a1 / 2 * 2 = 0) with
        | true =>
          have g92 := q_rg_eqT h91 (q_rg_lit (n := 0) (x := 0) rfl)
          refine q_E_T ?_
          refine q_E_A (q_in_rg (q_rg_add (L := 5) (U := 6) (q_rg_lit (n := 5) (x := 5) rfl) (q_rg_div (c := 2) (U := 1) (q_rg_sub (L := 0) (U := 3) g90 (q_rg_lit (n := 12) (x := 12) rfl) (by decide) (by decide) (by decide) (by decide)) (by decide) rfl (by decide) (by decide)) (by decide) (by decide) (by decide) (by decide)) (by decide) (by decide)) ?_
          exact q_E_x ⟨hI, q_rg_le (q_rg_rem (c := 256) (U := 255) (q_rdv (i := 14) (a := 5) (n := 2) (L := 0) (U := 65535) hI (q_rg_le (q_rg_add (L := 5) (U := 6) (q_rg_lit (n := 5) (x := 5) rfl) (q_rg_div (c := 2) (U := 1) (q_rg_sub (L := 0) (U := 3) g90 (q_rg_lit (n := 12) (x := 12) rfl) (by decide) (by decide) (by decide) (by decide)) (by decide) rfl (by decide) (by decide)) (by decide) (by decide) (by decide) (by decide)) (by decide) (by decide)) rfl (by decide)) (by decide) rfl (by decide) (by decide)) (by decide) (by decide)⟩
        | false =>
          have g93 := (q_rg_neL (l := 0) (u := 1) (n := 0) (L := 1) h91 (q_rg_rem (c := 2) (U := 1) g90 (by decide) rfl (by decide) (by decide)) rfl (by decide) (by decide))
          refine q_E_F ?_
          refine q_E_A (q_in_rg (q_rg_add (L := 5) (U := 6) (q_rg_lit (n := 5) (x := 5) rfl) (q_rg_div (c := 2) (U := 1) (q_rg_sub (L := 0) (U := 3) g90 (q_rg_lit (n := 12) (x := 12) rfl) (by decide) (by decide) (by decide) (by decide)) (by decide) rfl (by decide) (by decide)) (by decide) (by decide) (by decide) (by decide)) (by decide) (by decide)) ?_
          exact q_E_x ⟨hI, q_rg_le (q_rg_rem2 (c := 256) (q_rg_div (c := 256) (U := 255) (q_rdv (i := 14) (a := 5) (n := 2) (L := 0) (U := 65535) hI (q_rg_le (q_rg_add (L := 5) (U := 6) (q_rg_lit (n := 5) (x := 5) rfl) (q_rg_div (c := 2) (U := 1) (q_rg_sub (L := 0) (U := 3) g90 (q_rg_lit (n := 12) (x := 12) rfl) (by decide) (by decide) (by decide) (by decide)) (by decide) rfl (by decide) (by decide)) (by decide) (by decide) (by decide) (by decide)) (by decide) (by decide)) rfl (by decide)) (by decide) rfl (by decide) (by decide)) (by decide) rfl (by decide)) (by decide) (by decide)⟩
      | false =>
        refine q_E_F ?_
        cases h94 : decide (a1 = 29) with
        | true =>
          have g95 := q_rg_eqT h94 (q_rg_lit (n := 29) (x := 29) rfl)
          refine q_E_T ?_
          exact q_E_x ⟨hI, q_rg_le (q_n10 hI) (by decide) (by decide)⟩
        | false =>
          refine q_E_F ?_
          cases h96 : decide (a1 = 30) with
          | true =>
            have g97 := q_rg_eqT h96 (q_rg_lit (n := 30) (x := 30) rfl)
            refine q_E_T ?_
            exact q_E_x ⟨hI, q_rg_le (q_n11 hI) (by decide) (by decide)⟩
          | false =>
            refine q_E_F ?_
            cases h98 : decide (a1 = 31) with
            | true =>
              have g99 := q_rg_eqT h98 (q_rg_lit (n := 31) (x := 31) rfl)
              refine q_E_T ?_
              obtain ⟨r5, e101, j100⟩ := dzj_M207_64 c d w (s) hI ((s.1 4) 31)
              rw [e101]
              refine q_E_B ?_
              exact q_E_x ⟨j100.1, q_rg_le (q_rg_add (L := 0) (U := 255) j100.2 (q_rg_mul (L := 0) (U := 240) (q_rg_lit (n := 16) (x := 16) rfl) (q_n12 j100.1) (by decide) (by decide) (by decide) (by decide) (by decide) (by decide)) (by decide) (by decide) (by decide) (by decide)) (by decide) (by decide)⟩
            | false =>
              refine q_E_F ?_
              cases h102 : decide (a1 = 44) with
              | true =>
                have g103 := q_rg_eqT h102 (q_rg_lit (n := 44) (x := 44) rfl)
                refine q_E_T ?_
                refine q_E_L ?_
                generalize p104 : dz_M208_64 s = r6
                cases r6 with
                | true =>
                  have g105 : q_rgz 0 39 ((s.1 14) 14) := q_p209 (s := s) hI p104
                  refine q_E_T ?_
                  exact q_E_x ⟨hI, q_rg_le (q_rg_add (L := 4) (U := 7) (q_rg_add (L := 0) (U := 3) (q_g44 hI) (q_rg_mul (L := 0) (U := 2) (q_rg_lit (n := 2) (x := 2) rfl) (q_n16 hI) (by decide) (by decide) (by decide) (by decide) (by decide) (by decide)) (by decide) (by decide) (by decide) (by decide)) (q_rg_lit (n := 4) (x := 4) rfl) (by decide) (by decide) (by decide) (by decide)) (by decide) (by decide)⟩
                | false =>
                  refine q_E_F ?_
                  exact q_E_x ⟨hI, q_rg_le (q_rg_add (L := 0) (U := 3) (q_rg_add (L := 0) (U := 3) (q_g44 hI) (q_rg_mul (L := 0) (U := 2) (q_rg_lit (n := 2) (x := 2) rfl) (q_n16 hI) (by decide) (by decide) (by decide) (by decide) (by decide) (by decide)) (by decide) (by decide) (by decide) (by decide)) (q_rg_lit (n := 0) (x := 0) rfl) (by decide) (by decide) (by decide) (by decide)) (by decide) (by decide)⟩
              | false =>
                refine q_E_F ?_
                cases h106 : decide (44 < a1) with
                | true =>
                  have g107 := (q_rg_ltT2 (L := 45) (u2 := 47) h106 (q_rg_lit (n := 44) (x := 44) rfl) ra1 (by decide))
                  refine q_E_T ?_
                  exact q_E_x ⟨hI, q_rg_le (q_rg_lit (n := 0) (x := 0) rfl) (by decide) (by decide)⟩
                | false =>
                  have g108 := (q_rg_ltF2 (l2 := 0) (u := 44) h106 (q_rg_lit (n := 44) (x := 44) rfl) ra1)
                  refine q_E_F ?_
                  refine q_E_A (q_in_rg g108 (by decide) (by decide)) ?_
                  exact q_E_x ⟨hI, q_rg_le (q_rdv (i := 4) (a := 0) (n := 45) (L := 0) (U := 255) hI (q_rg_le g108 (by decide) (by decide)) rfl (by decide)) (by decide) (by decide)⟩
set_option maxHeartbeats 4000000 in
theorem dzj_M210 (c d w : Int) (s : q_S) (hI : q_Iv c d w s) (a0 : Int32) : (fun x => q_rgz 1 8 x) (dz_M210 s a0) := by
  refine q_S_of (P := (fun x => q_rgz 1 8 x)) ?_
  unfold dz_M210
  cases h125 : decide (a0 = 1) with
  | true =>
    have g126 := q_rg_eqT h125 (q_rg_lit (n := 1) (x := 1) rfl)
    refine q_S_T ?_
    exact q_E_x (q_rg_le (q_rg_lit (n := 2) (x := 2) rfl) (by decide) (by decide))
  | false =>
    refine q_S_F ?_
    cases h127 : decide (a0 = 2) with
    | true =>
      have g128 := q_rg_eqT h127 (q_rg_lit (n := 2) (x := 2) rfl)
      refine q_S_T ?_
      exact q_E_x (q_rg_le (q_rg_lit (n := 5) (x := 5) rfl) (by decide) (by decide))
    | false =>
      refine q_S_F ?_
      cases h129 : decide (a0 = 16) with
      | true =>
        have g130 := q_rg_eqT h129 (q_rg_lit (n := 16) (x := 16) rfl)
        refine q_S_T ?_
        exact q_E_x (q_rg_le (q_rg_lit (n := 3) (x := 3) rfl) (by decide) (by decide))
      | false =>
        refine q_S_F ?_
        refine q_S_L ?_
        generalize p131 : dz_M201 s a0 20 27 = r1
        cases r1 with
        | true =>
          have g132 : q_rgz 20 27 (a0) := ⟨(q_p202 p131 (q_rg_lit (n := 20) (x := 20) rfl) (q_rg_lit (n := 27) (x := 27) rfl)).1, (q_p202 p131 (q_rg_lit (n := 20) (x := 20) rfl) (q_rg_lit (n := 27) (x := 27) rfl)).2⟩
          refine q_S_T ?_
          exact q_E_x (q_rg_le (q_rg_lit (n := 6) (x := 6) rfl) (by decide) (by decide))
        | false =>
          refine q_S_F ?_
          cases h133 : decide (a0 = 9) with
          | true =>
            have g134 := q_rg_eqT h133 (q_rg_lit (n := 9) (x := 9) rfl)
            refine q_S_T ?_
            exact q_E_x (q_rg_le (q_rg_lit (n := 8) (x := 8) rfl) (by decide) (by decide))
          | false =>
            refine q_S_F ?_
            refine q_S_L ?_
            generalize p135 : dz_M201 s a0 12 15 = r2
            cases r2 with
            | true =>
              have g136 : q_rgz 12 15 (a0) := ⟨(q_p202 p135 (q_rg_lit (n := 12) (x := 12) rfl) (q_rg_lit (n := 15) (x := 15) rfl)).1, (q_p202 p135 (q_rg_lit (n := 12) (x := 12) rfl) (q_rg_lit (n := 15) (x := 15) rfl)).2⟩
              refine q_S_T ?_
              exact q_E_x (q_rg_le (q_rg_lit (n := 8) (x := 8) rfl) (by decide) (by decide))
            | false =>
              refine q_S_F ?_
              refine q_S_L ?_
              generalize p137 : dz_M201 s a0 32 43 = r3
              cases r3 with
              | true =>
                have g138 : q_rgz 32 43 (a0) := ⟨(q_p202 p137 (q_rg_lit (n := 32) (x := 32) rfl) (q_rg_lit (n := 43) (x := 43) rfl)).1, (q_p202 p137 (q_rg_lit (n := 32) (x := 32) rfl) (q_rg_lit (n := 43) (x := 43) rfl)).2⟩
                refine q_S_T ?_
                exact q_E_x (q_rg_le (q_rg_lit (n := 8) (x := 8) rfl) (by decide) (by decide))
              | false =>
                refine q_S_F ?_
                cases h139 : decide (a0 = 44) with
                | true =>
                  have g140 := q_rg_eqT h139 (q_rg_lit (n := 44) (x := 44) rfl)
                  refine q_S_T ?_
                  exact q_E_x (q_rg_le (q_rg_lit (n := 1) (x := 1) rfl) (by decide) (by decide))
                | false =>
                  refine q_S_F ?_
                  exact q_E_x (q_rg_le (q_rg_lit (n := 4) (x := 4) rfl) (by decide) (by decide))
theorem q_wr (c d w : Int) (s : q_S) (hI : q_Iv c d w s) (a1 a2 : Int32) (ha : q_rgz 0 47 a1) (h2 : q_rgz 0 255 a2) : q_rgz (q_la 4 a1.toNatClampNeg) (q_ha d 4 a1.toNatClampNeg) (a2 &&& (((1 : Int32) <<< (dz_M210 s a1 &&& 31)) - 1)) := by
  have b : q_rgz 0 255 (a2 &&& (((1 : Int32) <<< (dz_M210 s a1 &&& 31)) - 1)) := q_rg_and1 h2 (by decide)
  by_cases e0 : a1.toInt = 0
  · have e : a1 = 0 := Int32.toInt_inj.mp e0
    subst e
    rw [show dz_M210 s 0 = 4 from rfl, show ((1 : Int32) <<< ((4 : Int32) &&& 31)) - 1 = 15 from by decide]
    exact (q_rg_and a2 15 (U := 15) (by decide) rfl : q_rgz 0 15 (a2 &&& 15))
  · by_cases e4 : a1.toInt = 44
    · have e : a1 = 44 := Int32.toInt_inj.mp e4
      subst e
      rw [show dz_M210 s 44 = 1 from rfl, show ((1 : Int32) <<< ((1 : Int32) &&& 31)) - 1 = 1 from by decide]
      exact (q_rg_and a2 1 (U := 1) (by decide) rfl : q_rgz 0 1 (a2 &&& 1))
    · have hl : q_la 4 a1.toNatClampNeg = 0 := rfl
      have n0 : a1.toNatClampNeg = a1.toInt.toNat := rfl
      have l0 := ha.1
      have hh : q_ha d 4 a1.toNatClampNeg = 255 := by
        show q_hg a1.toNatClampNeg = 255
        unfold q_hg
        rw [show Nat.beq a1.toNatClampNeg 0 = false from by
          cases e9 : Nat.beq a1.toNatClampNeg 0 with
          | false => rfl
          | true => have := Nat.eq_of_beq_eq_true e9; omega]
        rw [show Nat.beq a1.toNatClampNeg 44 = false from by
          cases e9 : Nat.beq a1.toNatClampNeg 44 with
          | false => rfl
          | true => have := Nat.eq_of_beq_eq_true e9; omega]
        rfl
      rw [hl, hh]
      exact b

set_option maxHeartbeats 4000000 in
theorem dzjb_M211_64_126 (c d w : Int) (k126 : q_S → Int32 → Int32 → Int32 → Option (q_S)) (M126 : Int) (tk126 : ∀ (s : q_S), q_Iv c d w s → ∀ (v1 : Int32) (v3 : Int32) (v4 : Int32), q_rgz 0 47 v1 → q_rgz 0 255 v3 → q_rgz 0 2 v4 → (q_rgz (q_la 4 v1.toNatClampNeg) (q_ha d 4 v1.toNatClampNeg) v3) → ((2 - v4.toInt).toNat : Int) ≤ M126 → q_Ex (k126 s v1 v3 v4) (q_Iv c d w)) (s : q_S) (hI : q_Iv c d w s) (v1 : Int32) (v3 : Int32) (v4 : Int32) (rv1 : q_rgz 0 47 v1) (rv3 : q_rgz 0 255 v3) (rv4 : q_rgz 0 2 v4) (hx : q_rgz (q_la 4 v1.toNatClampNeg) (q_ha d 4 v1.toNatClampNeg) v3) (m126 : ((2 - v4.toInt).toNat : Int) ≤ M126 + 1) : q_Ex (cond (decide (v1 = 16)) (cond (decide (v4 < 2)) (q_let (dz_M205 s v3 v4) fun r3 => cond r3 (q_let (dz_M205 s ((s.1 4) 16) v4) fun r4 => cond r4 (k126 s v1 v3 (v4 + 1)) (cond (q_in ((7 : Int32) + v4) 24) (cond (q_in ((5 : Int32) + v4) 24) (k126 (q_sA s 14 (upd (s.1 14) (((5 : Int32) + v4).toNatClampNeg) ((s.1 14) (((7 : Int32) + v4).toNatClampNeg)))) v1 v3 (v4 + 1)) none) none)) (k126 s v1 v3 (v4 + 1))) (cond (q_in v1 48) (some (q_sA s 4 (upd (s.1 4) (v1.toNatClampNeg) v3))) none)) (cond (q_in v1 48) (some (q_sA s 4 (upd (s.1 4) (v1.toNatClampNeg) v3))) none)) (q_Iv c d w) := by
  cases h163 : decide (v1 = 16) with
  | true =>
    have g164 := q_rg_eqT h163 (q_rg_lit (n := 16) (x := 16) rfl)
    refine q_E_T ?_
    cases h165 : decide (v4 < 2) with
    | true =>
      have g166 := (q_rg_ltT1 (l := 0) (U := 1) h165 rv4 (q_rg_lit (n := 2) (x := 2) rfl) (by decide))
      refine q_E_T ?_
      refine q_E_L ?_
      generalize p167 : dz_M205 s v3 v4 = r3
      cases r3 with
      | true =>
        refine q_E_T ?_
        refine q_E_L ?_
        generalize p168 : dz_M205 s ((s.1 4) 16) v4 = r4
        cases r4 with
        | true =>
          refine q_E_T ?_
          exact tk126 (s) hI (v1) (v3) (v4 + 1) (q_rg_le (L := 0) (U := 47) g164 (by decide) (by decide)) (q_rg_le (L := 0) (U := 255) rv3 (by decide) (by decide)) (q_rg_le (L := 0) (U := 2) (q_rg_add (L := 1) (U := 2) g166 (q_rg_lit (n := 1) (x := 1) rfl) (by decide) (by decide) (by decide) (by decide)) (by decide) (by decide)) hx (q_meu g166 m126 (by decide) (by decide))
        | false =>
          refine q_E_F ?_
          refine q_E_A (q_in_rg (q_rg_add (L := 7) (U := 8) (q_rg_lit (n := 7) (x := 7) rfl) g166 (by decide) (by decide) (by decide) (by decide)) (by decide) (by decide)) ?_
          refine q_E_A (q_in_rg (q_rg_add (L := 5) (U := 6) (q_rg_lit (n := 5) (x := 5) rfl) g166 (by decide) (by decide) (by decide) (by decide)) (by decide) (by decide)) ?_
          exact tk126 (q_sA s 14 (upd (s.1 14) (((5 : Int32) + v4).toNatClampNeg) ((s.1 14) (((7 : Int32) + v4).toNatClampNeg)))) (q_Iv_A (i := 14) hI (q_hf_up ((hI).1 14) (q_stv (i := 14) (a := 5) (n := 2) (L := 0) (U := 65535) hI (q_rg_le (q_rg_add (L := 5) (U := 6) (q_rg_lit (n := 5) (x := 5) rfl) g166 (by decide) (by decide) (by decide) (by decide)) (by decide) (by decide)) (by decide) (q_rdv (i := 14) (a := 7) (n := 2) (L := 0) (U := 65535) hI (q_rg_le (q_rg_add (L := 7) (U := 8) (q_rg_lit (n := 7) (x := 7) rfl) g166 (by decide) (by decide) (by decide) (by decide)) (by decide) (by decide)) rfl (by decide))))) (v1) (v3) (v4 + 1) (q_rg_le (L := 0) (U := 47) g164 (by decide) (by decide)) (q_rg_le (L := 0) (U := 255) rv3 (by decide) (by decide)) (q_rg_le (L := 0) (U := 2) (q_rg_add (L := 1) (U := 2) g166 (q_rg_lit (n := 1) (x := 1) rfl) (by decide) (by decide) (by decide) (by decide)) (by decide) (by decide)) hx (q_meu g166 m126 (by decide) (by decide))
      | false =>
        refine q_E_F ?_
        exact tk126 (s) hI (v1) (v3) (v4 + 1) (q_rg_le (L := 0) (U := 47) g164 (by decide) (by decide)) (q_rg_le (L := 0) (U := 255) rv3 (by decide) (by decide)) (q_rg_le (L := 0) (U := 2) (q_rg_add (L := 1) (U := 2) g166 (q_rg_lit (n := 1) (x := 1) rfl) (by decide) (by decide) (by decide) (by decide)) (by decide) (by decide)) hx (q_meu g166 m126 (by decide) (by decide))
    | false =>
      have g169 := (q_rg_ltF1 (l2 := 2) (u := 2) h165 rv4 (q_rg_lit (n := 2) (x := 2) rfl))
      refine q_E_F ?_
      refine q_E_A (q_in_rg g164 (by decide) (by decide)) ?_
      exact q_E_x (q_Iv_A (i := 4) hI (q_hf_up ((hI).1 4) hx))
  | false =>
    refine q_E_F ?_
    refine q_E_A (q_in_rg rv1 (by decide) (by decide)) ?_
    exact q_E_x (q_Iv_A (i := 4) hI (q_hf_up ((hI).1 4) hx))
theorem dzj_M211_64_126 (c d w : Int) : ∀ (m : Nat) (s : q_S) (hI : q_Iv c d w s) (v1 : Int32) (v3 : Int32) (v4 : Int32) (rv1 : q_rgz 0 47 v1) (rv3 : q_rgz 0 255 v3) (rv4 : q_rgz 0 2 v4) (hx : q_rgz (q_la 4 v1.toNatClampNeg) (q_ha d 4 v1.toNatClampNeg) v3), ((2 - v4.toInt).toNat : Int) ≤ (m : Int) → q_Ex (dz_M211_64_126 (m + 1) s v1 v3 v4) (q_Iv c d w) := by
  intro m
  induction m with
  | zero => intro s hI v1 v3 v4 rv1 rv3 rv4 hx hm; rw [dzs_M211_64_126]; exact dzjb_M211_64_126 c d w (dz_M211_64_126 0) (-1) (fun s hI v1 v3 v4 rv1 rv3 rv4 hx hm => absurd hm (by omega)) s hI v1 v3 v4 rv1 rv3 rv4 hx (by omega)
  | succ m ih => intro s hI v1 v3 v4 rv1 rv3 rv4 hx hm; rw [dzs_M211_64_126]; exact dzjb_M211_64_126 c d w (dz_M211_64_126 (m + 1)) (m : Int) (fun s hI v1 v3 v4 rv1 rv3 rv4 hx hm => ih s hI v1 v3 v4 rv1 rv3 rv4 hx hm) s hI v1 v3 v4 rv1 rv3 rv4 hx (by omega)
set_option maxHeartbeats 4000000 in
theorem dzj_M211_64 (c d w : Int) (s : q_S) (hI : q_Iv c d w s) (a1 : Int32) (a2 : Int32) (ra1 : q_rgz 0 47 a1) (ra2 : q_rgz 0 255 a2) : q_Ex (dz_M211_64 s a1 a2) (q_Iv c d w) := by
  unfold dz_M211_64
  cases h170 : decide (44 < a1) with
  | true =>
    have g171 := (q_rg_ltT2 (L := 45) (u2 := 47) h170 (q_rg_lit (n := 44) (x := 44) rfl) ra1 (by decide))
    refine q_E_T ?_
    exact q_E_x hI
  | false =>
    have g172 := (q_rg_ltF2 (l2 := 0) (u := 44) h170 (q_rg_lit (n := 44) (x := 44) rfl) ra1)
    refine q_E_F ?_
    cases h173 : decide (a1 = 29) with
    | true =>
      have g174 := q_rg_eqT h173 (q_rg_lit (n := 29) (x := 29) rfl)
      refine q_E_T ?_
      exact q_E_x hI
    | false =>
      refine q_E_F ?_
      cases h175 : decide (a1 = 30) with
      | true =>
        have g176 := q_rg_eqT h175 (q_rg_lit (n := 30) (x := 30) rfl)
        refine q_E_T ?_
        exact q_E_x hI
      | false =>
        refine q_E_F ?_
        have j177 := dzj_M210 c d w (s) hI (a1)
        have hwr := q_wr c d w s hI a1 a2 ra1 ra2
        refine q_E_L ?_
        generalize dz_M210 s a1 = r1 at j177 hwr ⊢
        cases h178 : decide (a1 = 10) with
        | true =>
          have g179 := q_rg_eqT h178 (q_rg_lit (n := 10) (x := 10) rfl)
          refine q_E_T ?_
          exact q_E_x (q_Iv_A (i := 14) hI (q_hf_up ((hI).1 14) (q_sn9 (q_rg_le (L := 0) (U := 15) (q_rg_and1 (q_n9 hI) (by decide)) (by decide) (by decide)))))
        | false =>
          refine q_E_F ?_
          refine q_E_L ?_
          generalize p180 : dz_M201 s a1 12 15 = r2
          cases r2 with
          | true =>
            have g181 : q_rgz 12 15 (a1) := ⟨(q_p202 p180 (q_rg_lit (n := 12) (x := 12) rfl) (q_rg_lit (n := 15) (x := 15) rfl)).1, (q_p202 p180 (q_rg_lit (n := 12) (x := 12) rfl) (q_rg_lit (n := 15) (x := 15) rfl)).2⟩
            refine q_E_T ?_
            cases h182 : decide (a1 - a1 / 2 * 2 = 0) with
            | true =>
              have g183 := q_rg_eqT h182 (q_rg_lit (n := 0) (x := 0) rfl)
              refine q_E_T ?_
              refine q_E_A (q_in_rg (q_rg_add (L := 7) (U := 8) (q_rg_lit (n := 7) (x := 7) rfl) (q_rg_div (c := 2) (U := 1) (q_rg_sub (L := 0) (U := 3) g181 (q_rg_lit (n := 12) (x := 12) rfl) (by decide) (by decide) (by decide) (by decide)) (by decide) rfl (by decide) (by decide)) (by decide) (by decide) (by decide) (by decide)) (by decide) (by decide)) ?_
              exact q_E_x (q_Iv_A (i := 14) hI (q_hf_up ((hI).1 14) (q_stv (i := 14) (a := 7) (n := 2) (L := 0) (U := 65535) hI (q_rg_le (q_rg_add (L := 7) (U := 8) (q_rg_lit (n := 7) (x := 7) rfl) (q_rg_div (c := 2) (U := 1) (q_rg_sub (L := 0) (U := 3) g181 (q_rg_lit (n := 12) (x := 12) rfl) (by decide) (by decide) (by decide) (by decide)) (by decide) rfl (by decide) (by decide)) (by decide) (by decide) (by decide) (by decide)) (by decide) (by decide)) (by decide) (q_rg_add (L := 0) (U := 65535) (q_rg_mul (L := 0) (U := 65280) (q_rg_div (c := 256) (U := 255) (q_rdv (i := 14) (a := 7) (n := 2) (L := 0) (U := 65535) hI (q_rg_le (q_rg_add (L := 7) (U := 8) (q_rg_lit (n := 7) (x := 7) rfl) (q_rg_div (c := 2) (U := 1) (q_rg_sub (L := 0) (U := 3) g181 (q_rg_lit (n := 12) (x := 12) rfl) (by decide) (by decide) (by decide) (by decide)) (by decide) rfl (by decide) (by decide)) (by decide) (by decide) (by decide) (by decide)) (by decide) (by decide)) rfl (by decide)) (by decide) rfl (by decide) (by decide)) (q_rg_lit (n := 256) (x := 256) rfl) (by decide) (by decide) (by decide) (by decide) (by decide) (by decide)) ra2 (by decide) (by decide) (by decide) (by decide)))))
            | false =>
              have g184 := (q_rg_neL (l := 0) (u := 1) (n := 0) (L := 1) h182 (q_rg_rem (c := 2) (U := 1) g181 (by decide) rfl (by decide) (by decide)) rfl (by decide) (by decide))
              refine q_E_F ?_
              refine q_E_A (q_in_rg (q_rg_add (L := 7) (U := 8) (q_rg_lit (n := 7) (x := 7) rfl) (q_rg_div (c := 2) (U := 1) (q_rg_sub (L := 0) (U := 3) g181 (q_rg_lit (n := 12) (x := 12) rfl) (by decide) (by decide) (by decide) (by decide)) (by decide) rfl (by decide) (by decide)) (by decide) (by decide) (by decide) (by decide)) (by decide) (by decide)) ?_
              exact q_E_x (q_Iv_A (i := 14) hI (q_hf_up ((hI).1 14) (q_stv (i := 14) (a := 7) (n := 2) (L := 0) (U := 65535) hI (q_rg_le (q_rg_add (L := 7) (U := 8) (q_rg_lit (n := 7) (x := 7) rfl) (q_rg_div (c := 2) (U := 1) (q_rg_sub (L := 0) (U := 3) g181 (q_rg_lit (n := 12) (x := 12) rfl) (by decide) (by decide) (by decide) (by decide)) (by decide) rfl (by decide) (by decide)) (by decide) (by decide) (by decide) (by decide)) (by decide) (by decide)) (by decide) (q_rg_add (L := 0) (U := 65535) (q_rg_rem (c := 256) (U := 255) (q_rdv (i := 14) (a := 7) (n := 2) (L := 0) (U := 65535) hI (q_rg_le (q_rg_add (L := 7) (U := 8) (q_rg_lit (n := 7) (x := 7) rfl) (q_rg_div (c := 2) (U := 1) (q_rg_sub (L := 0) (U := 3) g181 (q_rg_lit (n := 12) (x := 12) rfl) (by decide) (by decide) (by decide) (by decide)) (by decide) rfl (by decide) (by decide)) (by decide) (by decide) (by decide) (by decide)) (by decide) (by decide)) rfl (by decide)) (by decide) rfl (by decide) (by decide)) (q_rg_mul (L := 0) (U := 65280) (q_rg_lit (n := 256) (x := 256) rfl) ra2 (by decide) (by decide) (by decide) (by decide) (by decide) (by decide)) (by decide) (by decide) (by decide) (by decide)))))
          | false =>
            refine q_E_F ?_
            exact dzj_M211_64_126 c d w 4999 (s) hI (a1) (a2 &&& (((1 : Int32) <<< (r1 &&& 31)) - 1)) (0) (q_rg_le (L := 0) (U := 47) g172 (by decide) (by decide)) (q_rg_le (L := 0) (U := 255) (q_rg_and1 ra2 (by decide)) (by decide) (by decide)) (q_rg_le (L := 0) (U := 2) (q_rg_lit (n := 0) (x := 0) rfl) (by decide) (by decide)) hwr (q_meu0 (q_rg_lit (n := 0) (x := 0) rfl) (by decide) (by decide))
set_option maxHeartbeats 4000000 in
theorem dzj_M212 (c d w : Int) (s : q_S) (hI : q_Iv c d w s) (a0 : Int32) : (fun x => q_rgz 0 4095 x) (dz_M212 s a0) := by
  refine q_S_of (P := (fun x => q_rgz 0 4095 x)) ?_
  unfold dz_M212
  exact q_E_x (q_rg_le (q_rg_and a0 4095 (U := 4095) (by decide) rfl) (by decide) (by decide))
set_option maxHeartbeats 4000000 in
theorem dzj_M213_64_60 (c d w : Int) (s : q_S) (hI : q_Iv c d w s) (v1 : Int32) (rv1 : q_rgz 0 4095 v1) : q_Ex (dz_M213_64_60 s v1) (fun (x : q_S × Int32) => q_Iv c d w x.1 ∧ q_rgz 0 255 x.2) := by
  unfold dz_M213_64_60
  refine q_E_L ?_
  generalize p202 : dz_M201 s v1 2048 2559 = r7
  cases r7 with
  | true =>
    have g203 : q_rgz 2048 2559 (v1) := ⟨(q_p202 p202 (q_rg_lit (n := 2048) (x := 2048) rfl) (q_rg_lit (n := 2559) (x := 2559) rfl)).1, (q_p202 p202 (q_rg_lit (n := 2048) (x := 2048) rfl) (q_rg_lit (n := 2559) (x := 2559) rfl)).2⟩
    refine q_E_T ?_
    refine q_E_L ?_
    generalize p204 : dz_M205 s ((s.1 4) 0) 1 = r8
    cases r8 with
    | true =>
      refine q_E_T ?_
      refine q_E_A (q_in_rg (q_rg_sub (L := 0) (U := 2047) (q_rg_add (L := 2048) (U := 4095) (q_rg_mul (L := 0) (U := 1536) (q_rg_lit (n := 512) (x := 512) rfl) (q_rg_div (c := 4) (U := 3) (q_g0 hI) (by decide) rfl (by decide) (by decide)) (by decide) (by decide) (by decide) (by decide) (by decide) (by decide)) g203 (by decide) (by decide) (by decide) (by decide)) (q_rg_lit (n := 2048) (x := 2048) rfl) (by decide) (by decide) (by decide) (by decide)) (by decide) (by decide)) ?_
      exact q_E_x ⟨hI, q_rg_le (q_r3 hI _) (by decide) (by decide)⟩
    | false =>
      refine q_E_F ?_
      refine q_E_A (q_in_rg g203 (by decide) (by decide)) ?_
      exact q_E_x ⟨hI, q_rg_le (q_r1 hI _) (by decide) (by decide)⟩
  | false =>
    refine q_E_F ?_
    refine q_E_A (q_in_rg rv1 (by decide) (by decide)) ?_
    exact q_E_x ⟨hI, q_rg_le (q_r1 hI _) (by decide) (by decide)⟩
set_option maxHeartbeats 4000000 in
theorem dzj_M213_64 (c d w : Int) (s : q_S) (hI : q_Iv c d w s) (a1 : Int32) (ra1 : q_rgz 0 4095 a1) : q_Ex (dz_M213_64 s a1) (fun (x : q_S × Int32) => q_Iv c d w x.1 ∧ q_rgz 0 255 x.2) := by
  unfold dz_M213_64
  refine q_E_L ?_
  generalize p205 : dz_M201 s a1 3840 3887 = r3
  cases r3 with
  | true =>
    have g206 : q_rgz 3840 3887 (a1) := ⟨(q_p202 p205 (q_rg_lit (n := 3840) (x := 3840) rfl) (q_rg_lit (n := 3887) (x := 3887) rfl)).1, (q_p202 p205 (q_rg_lit (n := 3840) (x := 3840) rfl) (q_rg_lit (n := 3887) (x := 3887) rfl)).2⟩
    refine q_E_T ?_
    obtain ⟨r4, e208, j207⟩ := dzj_M209_64 c d w (s) hI (a1 - 3840) (q_rg_le (L := 0) (U := 47) (q_rg_sub (L := 0) (U := 47) g206 (q_rg_lit (n := 3840) (x := 3840) rfl) (by decide) (by decide) (by decide) (by decide)) (by decide) (by decide))
    rw [e208]
    refine q_E_B ?_
    exact q_E_x ⟨j207.1, q_rg_le j207.2 (by decide) (by decide)⟩
  | false =>
    refine q_E_F ?_
    refine q_E_L ?_
    generalize p209 : dz_M201 s a1 3072 3583 = r5
    cases r5 with
    | true =>
      have g210 : q_rgz 3072 3583 (a1) := ⟨(q_p202 p209 (q_rg_lit (n := 3072) (x := 3072) rfl) (q_rg_lit (n := 3583) (x := 3583) rfl)).1, (q_p202 p209 (q_rg_lit (n := 3072) (x := 3072) rfl) (q_rg_lit (n := 3583) (x := 3583) rfl)).2⟩
      refine q_E_T ?_
      refine q_E_L ?_
      generalize p211 : dz_M205 s ((s.1 4) 0) 0 = r6
      cases r6 with
      | true =>
        refine q_E_T ?_
        refine q_E_A (q_in_rg (q_rg_sub (L := 0) (U := 511) g210 (q_rg_lit (n := 3072) (x := 3072) rfl) (by decide) (by decide) (by decide) (by decide)) (by decide) (by decide)) ?_
        exact q_E_x ⟨hI, q_rg_le (q_r2 hI _) (by decide) (by decide)⟩
      | false =>
        refine q_E_F ?_
        exact dzj_M213_64_60 c d w (s) hI (a1) (q_rg_le (L := 0) (U := 4095) g210 (by decide) (by decide))
    | false =>
      refine q_E_F ?_
      exact dzj_M213_64_60 c d w (s) hI (a1) (q_rg_le (L := 0) (U := 4095) ra1 (by decide) (by decide))
set_option maxHeartbeats 4000000 in
theorem dzj_M214_64 (c d w : Int) (s : q_S) (hI : q_Iv c d w s) (a1 : Int32) (a2 : Int32) (ra1 : q_rgz 0 4095 a1) (ra2 : q_rgz 0 255 a2) : q_Ex (dz_M214_64 s a1 a2) (q_Iv c d w) := by
  unfold dz_M214_64
  refine q_E_L ?_
  generalize p216 : dz_M201 s a1 3840 3887 = r3
  cases r3 with
  | true =>
    have g217 : q_rgz 3840 3887 (a1) := ⟨(q_p202 p216 (q_rg_lit (n := 3840) (x := 3840) rfl) (q_rg_lit (n := 3887) (x := 3887) rfl)).1, (q_p202 p216 (q_rg_lit (n := 3840) (x := 3840) rfl) (q_rg_lit (n := 3887) (x := 3887) rfl)).2⟩
    refine q_E_T ?_
    obtain ⟨r4, e219, j218⟩ := dzj_M211_64 c d w (s) hI (a1 - 3840) (a2) (q_rg_le (L := 0) (U := 47) (q_rg_sub (L := 0) (U := 47) g217 (q_rg_lit (n := 3840) (x := 3840) rfl) (by decide) (by decide) (by decide) (by decide)) (by decide) (by decide)) (q_rg_le (L := 0) (U := 255) ra2 (by decide) (by decide))
    rw [e219]
    refine q_E_B ?_
    exact q_E_x j218
  | false =>
    refine q_E_F ?_
    refine q_E_A (q_in_rg ra1 (by decide) (by decide)) ?_
    exact q_E_x (q_Iv_A (i := 1) hI (q_hf_up ((hI).1 1) (q_s1z (q_rg_le (L := 0) (U := 255) ra2 (by decide) (by decide)))))
set_option maxHeartbeats 4000000 in
theorem dzj_M215_64 (c d w : Int) (s : q_S) (hI : q_Iv c d w s) (a1 : Int32) (a2 : Int32) : q_Ex (dz_M215_64 s a1 a2) (fun (x : q_S × Int32) => q_Iv c d w x.1 ∧ q_rgz (-2147483648) 2147483647 x.2) := by
  unfold dz_M215_64
  refine q_E_L ?_
  generalize p235 : dz_M203 s a1 = r4
  cases r4 with
  | true =>
    refine q_E_T ?_
    have j236 := q_fails (s) (1) hI
    refine q_E_L ?_
    generalize dz_M199_64 s 1 = r5 at j236 ⊢
    cases h237 : r5.2 with
    | true =>
      refine q_E_T ?_
      exact q_E_x ⟨j236.1, q_rg_le (q_rg_lit (n := 0) (x := 0) rfl) (by decide) (by decide)⟩
    | false =>
      exact (q_failsF j236 h237 (q_rg_lit (n := 1) (x := 1) rfl) (by decide)).elim
  | false =>
    have g238 : q_rgz 0 4095 (a1) := ⟨(q_p204 p235).1, (q_p204 p235).2⟩
    refine q_E_F ?_
    refine q_E_L ?_
    generalize p239 : dz_M202 s a2 = r9
    cases r9 with
    | true =>
      refine q_E_T ?_
      have j240 := q_fails (s) (2) hI
      refine q_E_L ?_
      generalize dz_M199_64 s 2 = r10 at j240 ⊢
      cases h241 : r10.2 with
      | true =>
        refine q_E_T ?_
        exact q_E_x ⟨j240.1, q_rg_le (q_rg_lit (n := 0) (x := 0) rfl) (by decide) (by decide)⟩
      | false =>
        exact (q_failsF j240 h241 (q_rg_lit (n := 2) (x := 2) rfl) (by decide)).elim
    | false =>
      have g242 : q_rgz 0 255 (a2) := ⟨(q_p203 p239).1, (q_p203 p239).2⟩
      refine q_E_F ?_
      have j243 := q_fails (s) (0) hI
      refine q_E_L ?_
      generalize dz_M199_64 s 0 = r14 at j243 ⊢
      cases h244 : r14.2 with
      | true =>
        exact (q_failsT j243 h244 (q_rg_lit (n := 0) (x := 0) rfl) (by decide)).elim
      | false =>
        refine q_E_F ?_
        obtain ⟨r15, e246, j245⟩ := dzj_M213_64 c d w (r14.1) j243.1 (a1) (q_rg_le (L := 0) (U := 4095) g238 (by decide) (by decide))
        rw [e246]
        refine q_E_B ?_
        obtain ⟨r16, e248, j247⟩ := dzj_M214_64 c d w (r15.1) j245.1 (a1) (a2) (q_rg_le (L := 0) (U := 4095) g238 (by decide) (by decide)) (q_rg_le (L := 0) (U := 255) g242 (by decide) (by decide))
        rw [e248]
        refine q_E_B ?_
        have j249 := dzj_M204_64 c d w (r16) j247
        refine q_E_L ?_
        generalize dz_M204_64 r16 = r17 at j249 ⊢
        exact q_E_x ⟨j249, q_rg_le j245.2 (by decide) (by decide)⟩
set_option maxHeartbeats 4000000 in
theorem dzj_M216_64 (c d w : Int) (s : q_S) (hI : q_Iv c d w s) (a1 : Int32) (a2 : Int32) : q_Ex (dz_M216_64 s a1 a2) (fun (x : q_S × Int32) => q_Iv c d w x.1 ∧ q_rgz (-2147483648) 2147483647 x.2) := by
  unfold dz_M216_64
  refine q_E_L ?_
  generalize p261 : dz_M201 s a1 0 511 = r4
  cases r4 with
  | true =>
    have g262 : q_rgz 0 511 (a1) := ⟨(q_p202 p261 (q_rg_lit (n := 0) (x := 0) rfl) (q_rg_lit (n := 511) (x := 511) rfl)).1, (q_p202 p261 (q_rg_lit (n := 0) (x := 0) rfl) (q_rg_lit (n := 511) (x := 511) rfl)).2⟩
    refine q_E_T ?_
    refine q_E_L ?_
    generalize p263 : dz_M202 s a2 = r5
    cases r5 with
    | true =>
      refine q_E_T ?_
      have j264 := q_fails (s) (2) hI
      refine q_E_L ?_
      generalize dz_M199_64 s 2 = r6 at j264 ⊢
      cases h265 : r6.2 with
      | true =>
        refine q_E_T ?_
        exact q_E_x ⟨j264.1, q_rg_le (q_rg_lit (n := 0) (x := 0) rfl) (by decide) (by decide)⟩
      | false =>
        exact (q_failsF j264 h265 (q_rg_lit (n := 2) (x := 2) rfl) (by decide)).elim
    | false =>
      have g266 : q_rgz 0 255 (a2) := ⟨(q_p203 p263).1, (q_p203 p263).2⟩
      refine q_E_F ?_
      have j267 := q_fails (s) (0) hI
      refine q_E_L ?_
      generalize dz_M199_64 s 0 = r8 at j267 ⊢
      cases h268 : r8.2 with
      | true =>
        exact (q_failsT j267 h268 (q_rg_lit (n := 0) (x := 0) rfl) (by decide)).elim
      | false =>
        refine q_E_F ?_
        refine q_E_A (q_in_rg g262 (by decide) (by decide)) ?_
        have j269 := dzj_M204_64 c d w (q_sA r8.1 2 (upd (r8.1.1 2) (a1.toNatClampNeg) a2)) (q_Iv_A (i := 2) j267.1 (q_hf_up ((j267.1).1 2) (q_s2z (q_rg_le (L := 0) (U := 255) g266 (by decide) (by decide)))))
        refine q_E_L ?_
        generalize dz_M204_64 (q_sA r8.1 2 (upd (r8.1.1 2) (a1.toNatClampNeg) a2)) = r9 at j269 ⊢
        exact q_E_x ⟨j269, q_rg_le (q_r2 j267.1 _) (by decide) (by decide)⟩
  | false =>
    refine q_E_F ?_
    have j270 := q_fails (s) (1) hI
    refine q_E_L ?_
    generalize dz_M199_64 s 1 = r10 at j270 ⊢
    cases h271 : r10.2 with
    | true =>
      refine q_E_T ?_
      exact q_E_x ⟨j270.1, q_rg_le (q_rg_lit (n := 0) (x := 0) rfl) (by decide) (by decide)⟩
    | false =>
      exact (q_failsF j270 h271 (q_rg_lit (n := 1) (x := 1) rfl) (by decide)).elim
set_option maxHeartbeats 4000000 in
theorem dzj_M217_64 (c d w : Int) (s : q_S) (hI : q_Iv c d w s) (a1 : Int32) (a2 : Int32) (a3 : Int32) : q_Ex (dz_M217_64 s a1 a2 a3) (fun (x : q_S × Int32) => q_Iv c d w x.1 ∧ q_rgz (-2147483648) 2147483647 x.2) := by
  unfold dz_M217_64
  refine q_E_L ?_
  generalize p287 : dz_M201 s a1 0 3 = r5
  cases r5 with
  | true =>
    have g288 : q_rgz 0 3 (a1) := ⟨(q_p202 p287 (q_rg_lit (n := 0) (x := 0) rfl) (q_rg_lit (n := 3) (x := 3) rfl)).1, (q_p202 p287 (q_rg_lit (n := 0) (x := 0) rfl) (q_rg_lit (n := 3) (x := 3) rfl)).2⟩
    refine q_E_T ?_
    refine q_E_L ?_
    generalize p289 : dz_M201 s a2 0 511 = r6
    cases r6 with
    | true =>
      have g290 : q_rgz 0 511 (a2) := ⟨(q_p202 p289 (q_rg_lit (n := 0) (x := 0) rfl) (q_rg_lit (n := 511) (x := 511) rfl)).1, (q_p202 p289 (q_rg_lit (n := 0) (x := 0) rfl) (q_rg_lit (n := 511) (x := 511) rfl)).2⟩
      refine q_E_T ?_
      refine q_E_L ?_
      generalize p291 : dz_M202 s a3 = r7
      cases r7 with
      | true =>
        refine q_E_T ?_
        have j292 := q_fails (s) (2) hI
        refine q_E_L ?_
        generalize dz_M199_64 s 2 = r8 at j292 ⊢
        cases h293 : r8.2 with
        | true =>
          refine q_E_T ?_
          exact q_E_x ⟨j292.1, q_rg_le (q_rg_lit (n := 0) (x := 0) rfl) (by decide) (by decide)⟩
        | false =>
          exact (q_failsF j292 h293 (q_rg_lit (n := 2) (x := 2) rfl) (by decide)).elim
      | false =>
        have g294 : q_rgz 0 255 (a3) := ⟨(q_p203 p291).1, (q_p203 p291).2⟩
        refine q_E_F ?_
        have j295 := q_fails (s) (0) hI
        refine q_E_L ?_
        generalize dz_M199_64 s 0 = r10 at j295 ⊢
        cases h296 : r10.2 with
        | true =>
          exact (q_failsT j295 h296 (q_rg_lit (n := 0) (x := 0) rfl) (by decide)).elim
        | false =>
          refine q_E_F ?_
          refine q_E_A (q_in_rg (q_rg_add (L := 0) (U := 2047) (q_rg_mul (L := 0) (U := 1536) (q_rg_lit (n := 512) (x := 512) rfl) g288 (by decide) (by decide) (by decide) (by decide) (by decide) (by decide)) g290 (by decide) (by decide) (by decide) (by decide)) (by decide) (by decide)) ?_
          have j297 := dzj_M204_64 c d w (q_sA r10.1 3 (upd (r10.1.1 3) (((512 * a1) + a2).toNatClampNeg) a3)) (q_Iv_A (i := 3) j295.1 (q_hf_up ((j295.1).1 3) (q_s3 (q_rg_le (L := 0) (U := 255) g294 (by decide) (by decide)))))
          refine q_E_L ?_
          generalize dz_M204_64 (q_sA r10.1 3 (upd (r10.1.1 3) (((512 * a1) + a2).toNatClampNeg) a3)) = r11 at j297 ⊢
          exact q_E_x ⟨j297, q_rg_le (q_r3 j295.1 _) (by decide) (by decide)⟩
    | false =>
      refine q_E_F ?_
      have j298 := q_fails (s) (1) hI
      refine q_E_L ?_
      generalize dz_M199_64 s 1 = r12 at j298 ⊢
      cases h299 : r12.2 with
      | true =>
        refine q_E_T ?_
        exact q_E_x ⟨j298.1, q_rg_le (q_rg_lit (n := 0) (x := 0) rfl) (by decide) (by decide)⟩
      | false =>
        exact (q_failsF j298 h299 (q_rg_lit (n := 1) (x := 1) rfl) (by decide)).elim
  | false =>
    refine q_E_F ?_
    have j300 := q_fails (s) (1) hI
    refine q_E_L ?_
    generalize dz_M199_64 s 1 = r14 at j300 ⊢
    cases h301 : r14.2 with
    | true =>
      refine q_E_T ?_
      exact q_E_x ⟨j300.1, q_rg_le (q_rg_lit (n := 0) (x := 0) rfl) (by decide) (by decide)⟩
    | false =>
      exact (q_failsF j300 h301 (q_rg_lit (n := 1) (x := 1) rfl) (by decide)).elim
set_option maxHeartbeats 4000000 in
theorem dzj_M218_64 (c d w : Int) (s : q_S) (hI : q_Iv c d w s) (a1 : Int32) : q_Ex (dz_M218_64 s a1) (fun (x : q_S × Int32) => q_Iv c d w x.1 ∧ q_rgz (-2147483648) 2147483647 x.2) := by
  unfold dz_M218_64
  refine q_E_L ?_
  generalize p310 : dz_M203 s a1 = r4
  cases r4 with
  | true =>
    refine q_E_T ?_
    have j311 := q_fails (s) (1) hI
    refine q_E_L ?_
    generalize dz_M199_64 s 1 = r5 at j311 ⊢
    cases h312 : r5.2 with
    | true =>
      refine q_E_T ?_
      exact q_E_x ⟨j311.1, q_rg_le (q_rg_lit (n := 0) (x := 0) rfl) (by decide) (by decide)⟩
    | false =>
      exact (q_failsF j311 h312 (q_rg_lit (n := 1) (x := 1) rfl) (by decide)).elim
  | false =>
    have g313 : q_rgz 0 4095 (a1) := ⟨(q_p204 p310).1, (q_p204 p310).2⟩
    refine q_E_F ?_
    have j314 := q_fails (s) (0) hI
    refine q_E_L ?_
    generalize dz_M199_64 s 0 = r7 at j314 ⊢
    cases h315 : r7.2 with
    | true =>
      exact (q_failsT j314 h315 (q_rg_lit (n := 0) (x := 0) rfl) (by decide)).elim
    | false =>
      refine q_E_F ?_
      obtain ⟨r8, e317, j316⟩ := dzj_M213_64 c d w (r7.1) j314.1 (a1) (q_rg_le (L := 0) (U := 4095) g313 (by decide) (by decide))
      rw [e317]
      refine q_E_B ?_
      exact q_E_x ⟨j316.1, q_rg_le j316.2 (by decide) (by decide)⟩
set_option maxHeartbeats 4000000 in
theorem dzj_M219_64 (c d w : Int) (s : q_S) (hI : q_Iv c d w s) (a1 : Int32) : q_Ex (dz_M219_64 s a1) (fun (x : q_S × Int32) => q_Iv c d w x.1 ∧ q_rgz (-2147483648) 2147483647 x.2) := by
  unfold dz_M219_64
  refine q_E_L ?_
  generalize p324 : dz_M203 s a1 = r3
  cases r3 with
  | true =>
    refine q_E_T ?_
    have j325 := q_fails (s) (1) hI
    refine q_E_L ?_
    generalize dz_M199_64 s 1 = r4 at j325 ⊢
    cases h326 : r4.2 with
    | true =>
      refine q_E_T ?_
      exact q_E_x ⟨j325.1, q_rg_le (q_rg_lit (n := 0) (x := 0) rfl) (by decide) (by decide)⟩
    | false =>
      exact (q_failsF j325 h326 (q_rg_lit (n := 1) (x := 1) rfl) (by decide)).elim
  | false =>
    have g327 : q_rgz 0 4095 (a1) := ⟨(q_p204 p324).1, (q_p204 p324).2⟩
    refine q_E_F ?_
    have j328 := q_fails (s) (0) hI
    refine q_E_L ?_
    generalize dz_M199_64 s 0 = r5 at j328 ⊢
    cases h329 : r5.2 with
    | true =>
      exact (q_failsT j328 h329 (q_rg_lit (n := 0) (x := 0) rfl) (by decide)).elim
    | false =>
      refine q_E_F ?_
      refine q_E_A (q_in_rg g327 (by decide) (by decide)) ?_
      exact q_E_x ⟨j328.1, q_rg_le (q_r1 j328.1 _) (by decide) (by decide)⟩
set_option maxHeartbeats 4000000 in
theorem dzjb_M220_64_49 (c d w : Int) (k49 : q_S → Int32 → Int32 → Int32 → Int32 → Int32 → Option (q_S × Int32)) (M49 : Int) (tk49 : ∀ (s : q_S), q_Iv c d w s → ∀ (v1 : Int32) (v2 : Int32) (v3 : Int32) (v4 : Int32) (v5 : Int32), q_rgz 0 4095 v1 → q_rgz 0 4095 v2 → q_rgz 1 4096 v3 → q_rgz 0 4096 v5 → ((4096 - v5.toInt).toNat : Int) ≤ M49 → q_Ex (k49 s v1 v2 v3 v4 v5) (fun (x : q_S × Int32) => q_Iv c d w x.1 ∧ q_rgz (-2147483648) 2147483647 x.2)) (s : q_S) (hI : q_Iv c d w s) (v1 : Int32) (v2 : Int32) (v3 : Int32) (v4 : Int32) (v5 : Int32) (rv1 : q_rgz 0 4095 v1) (rv2 : q_rgz 0 4095 v2) (rv3 : q_rgz 1 4096 v3) (rv5 : q_rgz 0 4096 v5) (m49 : ((4096 - v5.toInt).toNat : Int) ≤ M49 + 1) : q_Ex (cond (decide (v5 < v3)) (q_let (dz_M212 s (v1 + v5)) fun r3 => (dz_M213_64 s r3).bind fun r4 => q_let (dz_M212 r4.1 (v2 + v5)) fun r5 => (dz_M213_64 r4.1 r5).bind fun r6 => cond (decide (r4.2 = r6.2)) (k49 r6.1 v1 v2 v3 (v4 + 0) (v5 + 1)) (k49 r6.1 v1 v2 v3 (v4 + 1) (v5 + 1))) (some (s, v4))) (fun (x : q_S × Int32) => q_Iv c d w x.1 ∧ q_rgz (-2147483648) 2147483647 x.2) := by
  cases h534 : decide (v5 < v3) with
  | true =>
    have g535 := (q_rg_ltT1 (l := 0) (U := 4095) h534 rv5 rv3 (by decide))
    refine q_E_T ?_
    have j536 := dzj_M212 c d w (s) hI (v1 + v5)
    refine q_E_L ?_
    generalize dz_M212 s (v1 + v5) = r3 at j536 ⊢
    obtain ⟨r4, e538, j537⟩ := dzj_M213_64 c d w (s) hI (r3) (q_rg_le (L := 0) (U := 4095) j536 (by decide) (by decide))
    rw [e538]
    refine q_E_B ?_
    have j539 := dzj_M212 c d w (r4.1) j537.1 (v2 + v5)
    refine q_E_L ?_
    generalize dz_M212 r4.1 (v2 + v5) = r5 at j539 ⊢
    obtain ⟨r6, e541, j540⟩ := dzj_M213_64 c d w (r4.1) j537.1 (r5) (q_rg_le (L := 0) (U := 4095) j539 (by decide) (by decide))
    rw [e541]
    refine q_E_B ?_
    cases h542 : decide (r4.2 = r6.2) with
    | true =>
      refine q_E_T ?_
      exact tk49 (r6.1) j540.1 (v1) (v2) (v3) (v4 + 0) (v5 + 1) (q_rg_le (L := 0) (U := 4095) rv1 (by decide) (by decide)) (q_rg_le (L := 0) (U := 4095) rv2 (by decide) (by decide)) (q_rg_le (L := 1) (U := 4096) rv3 (by decide) (by decide)) (q_rg_le (L := 0) (U := 4096) (q_rg_add (L := 1) (U := 4096) g535 (q_rg_lit (n := 1) (x := 1) rfl) (by decide) (by decide) (by decide) (by decide)) (by decide) (by decide)) (q_meu g535 m49 (by decide) (by decide))
    | false =>
      refine q_E_F ?_
      exact tk49 (r6.1) j540.1 (v1) (v2) (v3) (v4 + 1) (v5 + 1) (q_rg_le (L := 0) (U := 4095) rv1 (by decide) (by decide)) (q_rg_le (L := 0) (U := 4095) rv2 (by decide) (by decide)) (q_rg_le (L := 1) (U := 4096) rv3 (by decide) (by decide)) (q_rg_le (L := 0) (U := 4096) (q_rg_add (L := 1) (U := 4096) g535 (q_rg_lit (n := 1) (x := 1) rfl) (by decide) (by decide) (by decide) (by decide)) (by decide) (by decide)) (q_meu g535 m49 (by decide) (by decide))
  | false =>
    have g543 := (q_rg_ltF1 (l2 := 1) (u := 4096) h534 rv5 rv3)
    refine q_E_F ?_
    exact q_E_x ⟨hI, q_rg_le (q_rg_full _) (by decide) (by decide)⟩
theorem dzj_M220_64_49 (c d w : Int) : ∀ (m : Nat) (s : q_S) (hI : q_Iv c d w s) (v1 : Int32) (v2 : Int32) (v3 : Int32) (v4 : Int32) (v5 : Int32) (rv1 : q_rgz 0 4095 v1) (rv2 : q_rgz 0 4095 v2) (rv3 : q_rgz 1 4096 v3) (rv5 : q_rgz 0 4096 v5), ((4096 - v5.toInt).toNat : Int) ≤ (m : Int) → q_Ex (dz_M220_64_49 (m + 1) s v1 v2 v3 v4 v5) (fun (x : q_S × Int32) => q_Iv c d w x.1 ∧ q_rgz (-2147483648) 2147483647 x.2) := by
  intro m
  induction m with
  | zero => intro s hI v1 v2 v3 v4 v5 rv1 rv2 rv3 rv5 hm; rw [dzs_M220_64_49]; exact dzjb_M220_64_49 c d w (dz_M220_64_49 0) (-1) (fun s hI v1 v2 v3 v4 v5 rv1 rv2 rv3 rv5 hm => absurd hm (by omega)) s hI v1 v2 v3 v4 v5 rv1 rv2 rv3 rv5 (by omega)
  | succ m ih => intro s hI v1 v2 v3 v4 v5 rv1 rv2 rv3 rv5 hm; rw [dzs_M220_64_49]; exact dzjb_M220_64_49 c d w (dz_M220_64_49 (m + 1)) (m : Int) (fun s hI v1 v2 v3 v4 v5 rv1 rv2 rv3 rv5 hm => ih s hI v1 v2 v3 v4 v5 rv1 rv2 rv3 rv5 hm) s hI v1 v2 v3 v4 v5 rv1 rv2 rv3 rv5 (by omega)
set_option maxHeartbeats 4000000 in
theorem dzj_M220_64 (c d w : Int) (s : q_S) (hI : q_Iv c d w s) (a1 : Int32) (a2 : Int32) (a3 : Int32) : q_Ex (dz_M220_64 s a1 a2 a3) (fun (x : q_S × Int32) => q_Iv c d w x.1 ∧ q_rgz (-2147483648) 2147483647 x.2) := by
  unfold dz_M220_64
  refine q_E_L ?_
  generalize p544 : dz_M203 s a1 = r1
  cases r1 with
  | true =>
    refine q_E_T ?_
    have j545 := q_fails (s) (1) hI
    refine q_E_L ?_
    generalize dz_M199_64 s 1 = r2 at j545 ⊢
    cases h546 : r2.2 with
    | true =>
      refine q_E_T ?_
      exact q_E_x ⟨j545.1, q_rg_le (q_rg_lit (n := 0) (x := 0) rfl) (by decide) (by decide)⟩
    | false =>
      exact (q_failsF j545 h546 (q_rg_lit (n := 1) (x := 1) rfl) (by decide)).elim
  | false =>
    have g547 : q_rgz 0 4095 (a1) := ⟨(q_p204 p544).1, (q_p204 p544).2⟩
    refine q_E_F ?_
    refine q_E_L ?_
    generalize p548 : dz_M203 s a2 = r7
    cases r7 with
    | true =>
      refine q_E_T ?_
      have j549 := q_fails (s) (1) hI
      refine q_E_L ?_
      generalize dz_M199_64 s 1 = r8 at j549 ⊢
      cases h550 : r8.2 with
      | true =>
        refine q_E_T ?_
        exact q_E_x ⟨j549.1, q_rg_le (q_rg_lit (n := 0) (x := 0) rfl) (by decide) (by decide)⟩
      | false =>
        exact (q_failsF j549 h550 (q_rg_lit (n := 1) (x := 1) rfl) (by decide)).elim
    | false =>
      have g551 : q_rgz 0 4095 (a2) := ⟨(q_p204 p548).1, (q_p204 p548).2⟩
      refine q_E_F ?_
      refine q_E_L ?_
      generalize p552 : dz_M201 s a3 1 4096 = r9
      cases r9 with
      | true =>
        have g553 : q_rgz 1 4096 (a3) := ⟨(q_p202 p552 (q_rg_lit (n := 1) (x := 1) rfl) (q_rg_lit (n := 4096) (x := 4096) rfl)).1, (q_p202 p552 (q_rg_lit (n := 1) (x := 1) rfl) (q_rg_lit (n := 4096) (x := 4096) rfl)).2⟩
        refine q_E_T ?_
        have j554 := q_fails (s) (0) hI
        refine q_E_L ?_
        generalize dz_M199_64 s 0 = r10 at j554 ⊢
        cases h555 : r10.2 with
        | true =>
          exact (q_failsT j554 h555 (q_rg_lit (n := 0) (x := 0) rfl) (by decide)).elim
        | false =>
          refine q_E_F ?_
          exact dzj_M220_64_49 c d w 4999 (r10.1) j554.1 (a1) (a2) (a3) (0) (0) (q_rg_le (L := 0) (U := 4095) g547 (by decide) (by decide)) (q_rg_le (L := 0) (U := 4095) g551 (by decide) (by decide)) (q_rg_le (L := 1) (U := 4096) g553 (by decide) (by decide)) (q_rg_le (L := 0) (U := 4096) (q_rg_lit (n := 0) (x := 0) rfl) (by decide) (by decide)) (q_meu0 (q_rg_lit (n := 0) (x := 0) rfl) (by decide) (by decide))
      | false =>
        refine q_E_F ?_
        have j556 := q_fails (s) (2) hI
        refine q_E_L ?_
        generalize dz_M199_64 s 2 = r11 at j556 ⊢
        cases h557 : r11.2 with
        | true =>
          refine q_E_T ?_
          exact q_E_x ⟨j556.1, q_rg_le (q_rg_lit (n := 0) (x := 0) rfl) (by decide) (by decide)⟩
        | false =>
          exact (q_failsF j556 h557 (q_rg_lit (n := 2) (x := 2) rfl) (by decide)).elim
set_option maxHeartbeats 4000000 in
theorem dzj_M221_64 (c d w : Int) (s : q_S) (hI : q_Iv c d w s) : (fun x => q_rgz (-4) 35 x) (dz_M221_64 s) := by
  refine q_S_of (P := (fun x => q_rgz (-4) 35 x)) ?_
  unfold dz_M221_64
  have j559 := dzj_M206_64 c d w (s) hI
  refine q_S_L ?_
  generalize dz_M206_64 s = r1 at j559 ⊢
  exact q_E_x (q_rg_le (q_rg_sub (L := -4) (U := 35) j559 (q_rg_lit (n := 4) (x := 4) rfl) (by decide) (by decide) (by decide) (by decide)) (by decide) (by decide))
set_option maxHeartbeats 4000000 in
theorem dzj_M223_64 (c d w : Int) (s : q_S) (hI : q_Iv c d w s) (a1 : Int32) (a2 : Int32) (ra1 : q_rgz 0 3 a1) : q_Ex (dz_M223_64 s a1 a2) (fun _ => True) := by
  unfold dz_M223_64
  refine q_E_A (q_in_rg (q_rg_add (L := 24) (U := 27) (q_rg_lit (n := 24) (x := 24) rfl) ra1 (by decide) (by decide) (by decide) (by decide)) (by decide) (by decide)) ?_
  cases h570 : decide (a2 < (s.1 4) (((24 : Int32) + a1).toNatClampNeg)) with
  | true =>
    have g571 := (q_rg_ltT1 (l := -2147483648) (U := 254) h570 (q_rg_full _) (q_rdv (i := 4) (a := 24) (n := 4) (L := 0) (U := 255) hI (q_rg_le (q_rg_add (L := 24) (U := 27) (q_rg_lit (n := 24) (x := 24) rfl) ra1 (by decide) (by decide) (by decide) (by decide)) (by decide) (by decide)) rfl (by decide)) (by decide))
    refine q_E_T ?_
    exact q_E_x trivial
  | false =>
    have g572 := (q_rg_ltF1 (l2 := 0) (u := 2147483647) h570 (q_rg_full _) (q_rdv (i := 4) (a := 24) (n := 4) (L := 0) (U := 255) hI (q_rg_le (q_rg_add (L := 24) (U := 27) (q_rg_lit (n := 24) (x := 24) rfl) ra1 (by decide) (by decide) (by decide) (by decide)) (by decide) (by decide)) rfl (by decide)))
    refine q_E_F ?_
    refine q_E_L ?_
    generalize p573 : dz_M205 s ((s.1 4) 18) a1 = r1
    cases r1 with
    | true =>
      refine q_E_T ?_
      cases h574 : decide (a2 < ((s.1 4) (((24 : Int32) + a1).toNatClampNeg)) + 16) with
      | true =>
        have g575 := (q_rg_ltT1 (l := 0) (U := 270) h574 g572 (q_rg_add (L := 16) (U := 271) (q_rdv (i := 4) (a := 24) (n := 4) (L := 0) (U := 255) hI (q_rg_le (q_rg_add (L := 24) (U := 27) (q_rg_lit (n := 24) (x := 24) rfl) ra1 (by decide) (by decide) (by decide) (by decide)) (by decide) (by decide)) rfl (by decide)) (q_rg_lit (n := 16) (x := 16) rfl) (by decide) (by decide) (by decide) (by decide)) (by decide))
        refine q_E_T ?_
        exact q_E_x trivial
      | false =>
        have g576 := (q_rg_ltF1 (l2 := 16) (u := 2147483647) h574 g572 (q_rg_add (L := 16) (U := 271) (q_rdv (i := 4) (a := 24) (n := 4) (L := 0) (U := 255) hI (q_rg_le (q_rg_add (L := 24) (U := 27) (q_rg_lit (n := 24) (x := 24) rfl) ra1 (by decide) (by decide) (by decide) (by decide)) (by decide) (by decide)) rfl (by decide)) (q_rg_lit (n := 16) (x := 16) rfl) (by decide) (by decide) (by decide) (by decide)))
        refine q_E_F ?_
        exact q_E_x trivial
    | false =>
      refine q_E_F ?_
      cases h577 : decide (a2 < ((s.1 4) (((24 : Int32) + a1).toNatClampNeg)) + 8) with
      | true =>
        have g578 := (q_rg_ltT1 (l := 0) (U := 262) h577 g572 (q_rg_add (L := 8) (U := 263) (q_rdv (i := 4) (a := 24) (n := 4) (L := 0) (U := 255) hI (q_rg_le (q_rg_add (L := 24) (U := 27) (q_rg_lit (n := 24) (x := 24) rfl) ra1 (by decide) (by decide) (by decide) (by decide)) (by decide) (by decide)) rfl (by decide)) (q_rg_lit (n := 8) (x := 8) rfl) (by decide) (by decide) (by decide) (by decide)) (by decide))
        refine q_E_T ?_
        exact q_E_x trivial
      | false =>
        have g579 := (q_rg_ltF1 (l2 := 8) (u := 2147483647) h577 g572 (q_rg_add (L := 8) (U := 263) (q_rdv (i := 4) (a := 24) (n := 4) (L := 0) (U := 255) hI (q_rg_le (q_rg_add (L := 24) (U := 27) (q_rg_lit (n := 24) (x := 24) rfl) ra1 (by decide) (by decide) (by decide) (by decide)) (by decide) (by decide)) rfl (by decide)) (q_rg_lit (n := 8) (x := 8) rfl) (by decide) (by decide) (by decide) (by decide)))
        refine q_E_F ?_
        exact q_E_x trivial
set_option maxHeartbeats 4000000 in
theorem dzj_M224_64_85 (c d w : Int) (s : q_S) (hI : q_Iv c d w s) (v1 : Int32) (v2 : Int32) (rv1 : q_rgz 0 31 v1) (rv2 : q_rgz 0 23 v2) : q_Ex (dz_M224_64_85 s v1 v2) (fun _ => True) := by
  unfold dz_M224_64_85
  cases h633 : decide (v2 < 20) with
  | true =>
    have g634 := (q_rg_ltT1 (l := 0) (U := 19) h633 rv2 (q_rg_lit (n := 20) (x := 20) rfl) (by decide))
    refine q_E_T ?_
    exact q_E_x trivial
  | false =>
    have g635 := (q_rg_ltF1 (l2 := 20) (u := 23) h633 rv2 (q_rg_lit (n := 20) (x := 20) rfl))
    refine q_E_F ?_
    refine q_E_L ?_
    generalize p636 : dz_M222_64 s (v2 - 20) = r9
    cases r9 with
    | true =>
      refine q_E_T ?_
      obtain ⟨r10, e638, j637⟩ := dzj_M223_64 c d w (s) hI (v2 - 20) (v1) (q_rg_le (L := 0) (U := 3) (q_rg_sub (L := 0) (U := 3) g635 (q_rg_lit (n := 20) (x := 20) rfl) (by decide) (by decide) (by decide) (by decide)) (by decide) (by decide))
      rw [e638]
      refine q_E_B ?_
      cases h639 : r10 with
      | true =>
        refine q_E_T ?_
        exact q_E_x trivial
      | false =>
        refine q_E_F ?_
        exact q_E_x trivial
    | false =>
      refine q_E_F ?_
      exact q_E_x trivial
set_option maxHeartbeats 4000000 in
theorem dzj_M224_64_64 (c d w : Int) (s : q_S) (hI : q_Iv c d w s) (v1 : Int32) (v2 : Int32) (rv1 : q_rgz 0 31 v1) (rv2 : q_rgz 0 23 v2) : q_Ex (dz_M224_64_64 s v1 v2) (fun _ => True) := by
  unfold dz_M224_64_64
  refine q_E_L ?_
  generalize p640 : dz_M201 s ((s.1 4) 1) 1 2 = r8
  cases r8 with
  | true =>
    have g641 : q_rgz 1 2 ((s.1 4) 1) := ⟨(q_p202 p640 (q_rg_lit (n := 1) (x := 1) rfl) (q_rg_lit (n := 2) (x := 2) rfl)).1, (q_p202 p640 (q_rg_lit (n := 1) (x := 1) rfl) (q_rg_lit (n := 2) (x := 2) rfl)).2⟩
    refine q_E_T ?_
    cases h642 : decide (v2 < 4) with
    | true =>
      have g643 := (q_rg_ltT1 (l := 0) (U := 3) h642 rv2 (q_rg_lit (n := 4) (x := 4) rfl) (by decide))
      refine q_E_T ?_
      exact q_E_x trivial
    | false =>
      have g644 := (q_rg_ltF1 (l2 := 4) (u := 23) h642 rv2 (q_rg_lit (n := 4) (x := 4) rfl))
      refine q_E_F ?_
      exact dzj_M224_64_85 c d w (s) hI (v1) (v2) (q_rg_le (L := 0) (U := 31) rv1 (by decide) (by decide)) (q_rg_le (L := 0) (U := 23) g644 (by decide) (by decide))
  | false =>
    refine q_E_F ?_
    exact dzj_M224_64_85 c d w (s) hI (v1) (v2) (q_rg_le (L := 0) (U := 31) rv1 (by decide) (by decide)) (q_rg_le (L := 0) (U := 23) rv2 (by decide) (by decide))
set_option maxHeartbeats 4000000 in
theorem dzj_M224_64 (c d w : Int) (s : q_S) (hI : q_Iv c d w s) : q_Ex (dz_M224_64 s) (fun _ => True) := by
  unfold dz_M224_64
  have j645 := dzj_M221_64 c d w (s) hI
  refine q_E_L ?_
  generalize dz_M221_64 s = r6 at j645 ⊢
  refine q_E_L ?_
  generalize p646 : dz_M201 s r6 0 31 = r7
  cases r7 with
  | true =>
    have g647 : q_rgz 0 31 (r6) := ⟨(q_p202 p646 (q_rg_lit (n := 0) (x := 0) rfl) (q_rg_lit (n := 31) (x := 31) rfl)).1, (q_p202 p646 (q_rg_lit (n := 0) (x := 0) rfl) (q_rg_lit (n := 31) (x := 31) rfl)).2⟩
    refine q_E_T ?_
    cases h648 : decide ((s.1 4) 1 = 0) with
    | true =>
      have g649 := q_rg_eqT h648 (q_rg_lit (n := 0) (x := 0) rfl)
      refine q_E_T ?_
      cases h650 : decide (((s.2.2 0 15) - (s.2.2 0 15) / 24 * 24).toInt32 < 8) with
      | true =>
        have g651 := (q_rg_ltT1 (l := 0) (U := 7) h650 (q_rg_cyc (n := 24) (hI) (by decide) (by decide)) (q_rg_lit (n := 8) (x := 8) rfl) (by decide))
        refine q_E_T ?_
        cases h652 : decide ((r6 + (((s.1 4) 2) / 4)) - (r6 + (((s.1 4) 2) / 4)) / 8 * 8 = 0) with
        | true =>
          have g653 := q_rg_eqT h652 (q_rg_lit (n := 0) (x := 0) rfl)
          refine q_E_T ?_
          exact q_E_x trivial
        | false =>
          have g654 := (q_rg_neL (l := 0) (u := 7) (n := 0) (L := 1) h652 (q_rg_rem (c := 8) (U := 7) (q_rg_add (L := 0) (U := 94) g647 (q_rg_div (c := 4) (U := 63) (q_g2 hI) (by decide) rfl (by decide) (by decide)) (by decide) (by decide) (by decide) (by decide)) (by decide) rfl (by decide) (by decide)) rfl (by decide) (by decide))
          refine q_E_F ?_
          exact q_E_x trivial
      | false =>
        have g655 := (q_rg_ltF1 (l2 := 8) (u := 23) h650 (q_rg_cyc (n := 24) (hI) (by decide) (by decide)) (q_rg_lit (n := 8) (x := 8) rfl))
        refine q_E_F ?_
        exact dzj_M224_64_64 c d w (s) hI (r6) (((s.2.2 0 15) - (s.2.2 0 15) / 24 * 24).toInt32) (q_rg_le (L := 0) (U := 31) g647 (by decide) (by decide)) (q_rg_le (L := 0) (U := 23) g655 (by decide) (by decide))
    | false =>
      have g656 := (q_rg_neL (l := 0) (u := 255) (n := 0) (L := 1) h648 (q_g1 hI) rfl (by decide) (by decide))
      refine q_E_F ?_
      exact dzj_M224_64_64 c d w (s) hI (r6) (((s.2.2 0 15) - (s.2.2 0 15) / 24 * 24).toInt32) (q_rg_le (L := 0) (U := 31) g647 (by decide) (by decide)) (q_rg_le (L := 0) (U := 23) (q_rg_cyc (n := 24) (hI) (by decide) (by decide)) (by decide) (by decide))
  | false =>
    refine q_E_F ?_
    exact q_E_x trivial
set_option maxHeartbeats 4000000 in
theorem dzj_M225_64 (c d w : Int) (s : q_S) (hI : q_Iv c d w s) (a1 : Int32) (a2 : Int32) (ra1 : q_rgz 0 31 a1) (ra2 : q_rgz 0 31 a2) : q_Ex (dz_M225_64 s a1 a2) (fun x => q_rgz 0 3 x) := by
  unfold dz_M225_64
  have j671 : q_rgz 0 31 ((a1 + (((s.1 4) 2) - ((s.1 4) 2) / 4 * 4)) - (a1 + (((s.1 4) 2) - ((s.1 4) 2) / 4 * 4)) / 32 * 32) := (q_rg_rem (c := 32) (U := 31) (q_rg_add (L := 0) (U := 34) ra1 (q_rg_rem (c := 4) (U := 3) (q_g2 hI) (by decide) rfl (by decide) (by decide)) (by decide) (by decide) (by decide) (by decide)) (by decide) rfl (by decide) (by decide))
  refine q_E_L ?_
  generalize ((a1 + (((s.1 4) 2) - ((s.1 4) 2) / 4 * 4)) - (a1 + (((s.1 4) 2) - ((s.1 4) 2) / 4 * 4)) / 32 * 32) = x4 at j671 ⊢
  have j672 : q_rgz 0 31 ((a2 + (((s.1 4) 2) / 4)) - (a2 + (((s.1 4) 2) / 4)) / 32 * 32) := (q_rg_rem (c := 32) (U := 31) (q_rg_add (L := 0) (U := 94) ra2 (q_rg_div (c := 4) (U := 63) (q_g2 hI) (by decide) rfl (by decide) (by decide)) (by decide) (by decide) (by decide) (by decide)) (by decide) rfl (by decide) (by decide))
  refine q_E_L ?_
  generalize ((a2 + (((s.1 4) 2) / 4)) - (a2 + (((s.1 4) 2) / 4)) / 32 * 32) = x5 at j672 ⊢
  cases h673 : decide ((s.1 4) 1 = 0) with
  | true =>
    have g674 := q_rg_eqT h673 (q_rg_lit (n := 0) (x := 0) rfl)
    refine q_E_T ?_
    have j675 := dzj_M212 c d w (s) hI (((256 * ((s.1 4) 7)) + (8 * (x5 / 8))) + (x4 / 4))
    refine q_E_L ?_
    generalize dz_M212 s (((256 * ((s.1 4) 7)) + (8 * (x5 / 8))) + (x4 / 4)) = r6 at j675 ⊢
    refine q_E_A (q_in_rg j675 (by decide) (by decide)) ?_
    have j676 := dzj_M212 c d w (s) hI (((256 * ((s.1 4) 8)) + (8 * ((s.1 1) (r6.toNatClampNeg)))) + (x5 - x5 / 8 * 8))
    refine q_E_L ?_
    generalize dz_M212 s (((256 * ((s.1 4) 8)) + (8 * ((s.1 1) (r6.toNatClampNeg)))) + (x5 - x5 / 8 * 8)) = r7 at j676 ⊢
    refine q_E_A (q_in_rg j676 (by decide) (by decide)) ?_
    exact q_E_x (q_rg_le (q_rg_and (((s.1 1) (r7.toNatClampNeg)) >>> (((3 : Int32) - (x4 - x4 / 4 * 4)) &&& 31)) 1 (U := 1) (by decide) rfl) (by decide) (by decide))
  | false =>
    have g677 := (q_rg_neL (l := 0) (u := 255) (n := 0) (L := 1) h673 (q_g1 hI) rfl (by decide) (by decide))
    refine q_E_F ?_
    have j678 := dzj_M212 c d w (s) hI (((256 * ((s.1 4) 7)) + (4 * x5)) + (x4 / 8))
    refine q_E_L ?_
    generalize dz_M212 s (((256 * ((s.1 4) 7)) + (4 * x5)) + (x4 / 8)) = r8 at j678 ⊢
    refine q_E_A (q_in_rg j678 (by decide) (by decide)) ?_
    cases h679 : decide ((s.1 4) 1 = 1) with
    | true =>
      have g680 := q_rg_eqT h679 (q_rg_lit (n := 1) (x := 1) rfl)
      refine q_E_T ?_
      exact q_E_x (q_rg_le (q_rg_and (((s.1 1) (r8.toNatClampNeg)) >>> (((7 : Int32) - (x4 - x4 / 8 * 8)) &&& 31)) 1 (U := 1) (by decide) rfl) (by decide) (by decide))
    | false =>
      have g681 := (q_rg_neL (l := 1) (u := 255) (n := 1) (L := 2) h679 g677 rfl (by decide) (by decide))
      refine q_E_F ?_
      cases h682 : decide ((s.1 4) 1 = 2) with
      | true =>
        have g683 := q_rg_eqT h682 (q_rg_lit (n := 2) (x := 2) rfl)
        refine q_E_T ?_
        exact q_E_x (q_rg_le (q_rg_and (((s.1 1) (r8.toNatClampNeg)) >>> (((6 : Int32) - (2 * ((x4 - x4 / 8 * 8) / 2))) &&& 31)) 3 (U := 3) (by decide) rfl) (by decide) (by decide))
      | false =>
        have g684 := (q_rg_neL (l := 2) (u := 255) (n := 2) (L := 3) h682 g681 rfl (by decide) (by decide))
        refine q_E_F ?_
        exact q_E_x (q_rg_le (q_rg_lit (n := 0) (x := 0) rfl) (by decide) (by decide))
set_option maxHeartbeats 4000000 in
theorem dzj_M226_64_62 (c d w : Int) (s : q_S) (hI : q_Iv c d w s) (v1 : Int32) (v4 : Int32) (v5 : Int32) (rv1 : q_rgz 0 3 v1) : q_Ex (dz_M226_64_62 s v1 v4 v5) (fun _ => True) := by
  unfold dz_M226_64_62
  refine q_E_L ?_
  generalize p699 : dz_M201 s v4 0 7 = r6
  cases r6 with
  | true =>
    have g700 : q_rgz 0 7 (v4) := ⟨(q_p202 p699 (q_rg_lit (n := 0) (x := 0) rfl) (q_rg_lit (n := 7) (x := 7) rfl)).1, (q_p202 p699 (q_rg_lit (n := 0) (x := 0) rfl) (q_rg_lit (n := 7) (x := 7) rfl)).2⟩
    refine q_E_T ?_
    refine q_E_L ?_
    generalize p701 : dz_M201 s v5 0 7 = r7
    cases r7 with
    | true =>
      have g702 : q_rgz 0 7 (v5) := ⟨(q_p202 p701 (q_rg_lit (n := 0) (x := 0) rfl) (q_rg_lit (n := 7) (x := 7) rfl)).1, (q_p202 p701 (q_rg_lit (n := 0) (x := 0) rfl) (q_rg_lit (n := 7) (x := 7) rfl)).2⟩
      refine q_E_T ?_
      have j703 := dzj_M212 c d w (s) hI ((((256 * ((s.1 4) 7)) + 128) + (8 * v1)) + v5)
      refine q_E_L ?_
      generalize dz_M212 s ((((256 * ((s.1 4) 7)) + 128) + (8 * v1)) + v5) = r8 at j703 ⊢
      refine q_E_A (q_in_rg j703 (by decide) (by decide)) ?_
      refine q_E_L ?_
      generalize p704 : dz_M205 s ((s.1 1) (r8.toNatClampNeg)) ((7 : Int32) - v4) = r9
      cases r9 with
      | true =>
        refine q_E_T ?_
        exact q_E_x trivial
      | false =>
        refine q_E_F ?_
        exact q_E_x trivial
    | false =>
      refine q_E_F ?_
      exact q_E_x trivial
  | false =>
    refine q_E_F ?_
    exact q_E_x trivial
set_option maxHeartbeats 4000000 in
theorem dzj_M226_64 (c d w : Int) (s : q_S) (hI : q_Iv c d w s) (a1 : Int32) (a2 : Int32) (a3 : Int32) (ra1 : q_rgz 0 3 a1) (ra2 : q_rgz 0 31 a2) (ra3 : q_rgz 0 31 a3) : q_Ex (dz_M226_64 s a1 a2 a3) (fun _ => True) := by
  unfold dz_M226_64
  refine q_E_L ?_
  generalize p705 : dz_M222_64 s a1 = r2
  cases r2 with
  | true =>
    refine q_E_T ?_
    refine q_E_A (q_in_rg (q_rg_add (L := 20) (U := 23) (q_rg_lit (n := 20) (x := 20) rfl) ra1 (by decide) (by decide) (by decide) (by decide)) (by decide) (by decide)) ?_
    refine q_E_A (q_in_rg (q_rg_add (L := 24) (U := 27) (q_rg_lit (n := 24) (x := 24) rfl) ra1 (by decide) (by decide) (by decide) (by decide)) (by decide) (by decide)) ?_
    refine q_E_L ?_
    generalize p706 : dz_M205 s ((s.1 4) 18) a1 = r3
    cases r3 with
    | true =>
      refine q_E_T ?_
      have j707 : q_rgz (-2147483648) 2147483647 ((a2 - ((s.1 4) (((20 : Int32) + a1).toNatClampNeg))) >>> ((1 &&& 31) : Int32)) := (q_rg_full _)
      refine q_E_L ?_
      generalize ((a2 - ((s.1 4) (((20 : Int32) + a1).toNatClampNeg))) >>> ((1 &&& 31) : Int32)) = x4 at j707 ⊢
      have j708 : q_rgz (-2147483648) 2147483647 ((a3 - ((s.1 4) (((24 : Int32) + a1).toNatClampNeg))) >>> ((1 &&& 31) : Int32)) := (q_rg_full _)
      refine q_E_L ?_
      generalize ((a3 - ((s.1 4) (((24 : Int32) + a1).toNatClampNeg))) >>> ((1 &&& 31) : Int32)) = x5 at j708 ⊢
      exact dzj_M226_64_62 c d w (s) hI (a1) (x4) (x5) (q_rg_le (L := 0) (U := 3) ra1 (by decide) (by decide))
    | false =>
      refine q_E_F ?_
      exact dzj_M226_64_62 c d w (s) hI (a1) (a2 - ((s.1 4) (((20 : Int32) + a1).toNatClampNeg))) (a3 - ((s.1 4) (((24 : Int32) + a1).toNatClampNeg))) (q_rg_le (L := 0) (U := 3) ra1 (by decide) (by decide))
  | false =>
    refine q_E_F ?_
    exact q_E_x trivial
set_option maxHeartbeats 4000000 in
theorem dzj_M227_64_118 (c d w : Int) (s : q_S) (hI : q_Iv c d w s) (v1 : Int32) (v2 : Int32) (v3 : Int32) (v4 : Int32) (v5 : Int32) (v6 : Int32) (rv1 : q_rgz 0 31 v1) (rv2 : q_rgz 0 31 v2) (rv3 : q_rgz 0 3 v3) (rv4 : q_rgz 0 1 v4) (rv5 : q_rgz 0 15 v5) (rv6 : q_rgz (-1) 3 v6) : q_Ex (dz_M227_64_118 s v1 v2 v3 v4 v5 v6) (q_Iv c d w) := by
  unfold dz_M227_64_118
  refine q_E_A (q_in_rg (q_rg_add (L := 3) (U := 6) (q_rg_lit (n := 3) (x := 3) rfl) rv3 (by decide) (by decide) (by decide) (by decide)) (by decide) (by decide)) ?_
  refine q_E_A (q_in_rg (q_rg_add (L := 0) (U := 1023) (q_rg_mul (L := 0) (U := 992) (q_rg_lit (n := 32) (x := 32) rfl) rv2 (by decide) (by decide) (by decide) (by decide) (by decide) (by decide)) rv1 (by decide) (by decide) (by decide) (by decide)) (by decide) (by decide)) ?_
  cases h834 : decide (v5 &&& (v5 - 1) = 0) with
  | true =>
    have g835 := q_rg_eqT h834 (q_rg_lit (n := 0) (x := 0) rfl)
    refine q_E_T ?_
    cases h836 : decide (v4 = 0) with
    | true =>
      have g837 := q_rg_eqT h836 (q_rg_lit (n := 0) (x := 0) rfl)
      refine q_E_T ?_
      exact q_E_x (q_Iv_A (i := 5) hI (q_hf_up ((hI).1 5) (q_s5 (q_rg_full _))))
    | false =>
      have g838 := (q_rg_neL (l := 0) (u := 1) (n := 0) (L := 1) h836 rv4 rfl (by decide) (by decide))
      refine q_E_F ?_
      exact q_E_x (q_Iv_A (i := 14) (q_Iv_A (i := 5) hI (q_hf_up ((hI).1 5) (q_s5 (q_rg_full _)))) (q_hf_up ((hI).1 14) (q_sn11 (q_rg_le (L := 0) (U := 15) (q_rg_or (n := 4) (W := 15) (q_n11 hI) rv5 (by decide) (by decide) (by decide) (by decide) (by decide)) (by decide) (by decide)))))
  | false =>
    have g839 := (q_rg_neL (l := 0) (u := 15) (n := 0) (L := 1) h834 (q_rg_and1 rv5 (by decide)) rfl (by decide) (by decide))
    refine q_E_F ?_
    cases h840 : decide (v4 = 0) with
    | true =>
      have g841 := q_rg_eqT h840 (q_rg_lit (n := 0) (x := 0) rfl)
      refine q_E_T ?_
      exact q_E_x (q_Iv_A (i := 14) (q_Iv_A (i := 5) hI (q_hf_up ((hI).1 5) (q_s5 (q_rg_full _)))) (q_hf_up ((hI).1 14) (q_sn10 (q_rg_le (L := 0) (U := 15) (q_rg_or (n := 4) (W := 15) (q_n10 hI) rv5 (by decide) (by decide) (by decide) (by decide) (by decide)) (by decide) (by decide)))))
    | false =>
      have g842 := (q_rg_neL (l := 0) (u := 1) (n := 0) (L := 1) h840 rv4 rfl (by decide) (by decide))
      refine q_E_F ?_
      have j843 : q_Iv c d w (q_sA (q_sA s 5 (upd (s.1 5) (((32 * v2) + v1).toNatClampNeg) ((s.1 4) (((3 : Int32) + v3).toNatClampNeg)))) 14 (upd (s.1 14) 10 (((s.1 14) 10) ||| v5))) := (q_Iv_A (i := 14) (q_Iv_A (i := 5) hI (q_hf_up ((hI).1 5) (q_s5 (q_rg_full _)))) (q_hf_up ((hI).1 14) (q_sn10 (q_rg_le (L := 0) (U := 15) (q_rg_or (n := 4) (W := 15) (q_n10 hI) rv5 (by decide) (by decide) (by decide) (by decide) (by decide)) (by decide) (by decide)))))
      refine q_E_L ?_
      generalize (q_sA (q_sA s 5 (upd (s.1 5) (((32 * v2) + v1).toNatClampNeg) ((s.1 4) (((3 : Int32) + v3).toNatClampNeg)))) 14 (upd (s.1 14) 10 (((s.1 14) 10) ||| v5))) = r2 at j843 ⊢
      exact q_E_x (q_Iv_A (i := 14) j843 (q_hf_up ((j843).1 14) (q_sn11 (q_rg_le (L := 0) (U := 15) (q_rg_or (n := 4) (W := 15) (q_up_ne (i := 10) (j := 11) (by decide) (q_n11 hI)) rv5 (by decide) (by decide) (by decide) (by decide) (by decide)) (by decide) (by decide)))))
set_option maxHeartbeats 4000000 in
theorem dzj_M227_64_114 (c d w : Int) (s : q_S) (hI : q_Iv c d w s) (v1 : Int32) (v2 : Int32) (v3 : Int32) (v4 : Int32) (v5 : Int32) (v6 : Int32) (rv1 : q_rgz 0 31 v1) (rv2 : q_rgz 0 31 v2) (rv3 : q_rgz 0 3 v3) (rv4 : q_rgz 0 1 v4) (rv5 : q_rgz 0 15 v5) (rv6 : q_rgz 0 3 v6) : q_Ex (dz_M227_64_114 s v1 v2 v3 v4 v5 v6) (q_Iv c d w) := by
  unfold dz_M227_64_114
  refine q_E_A (q_in_rg (q_rg_add (L := 0) (U := 1023) (q_rg_mul (L := 0) (U := 992) (q_rg_lit (n := 32) (x := 32) rfl) rv2 (by decide) (by decide) (by decide) (by decide) (by decide) (by decide)) rv1 (by decide) (by decide) (by decide) (by decide)) (by decide) (by decide)) ?_
  cases h844 : decide (v5 &&& (v5 - 1) = 0) with
  | true =>
    have g845 := q_rg_eqT h844 (q_rg_lit (n := 0) (x := 0) rfl)
    refine q_E_T ?_
    cases h846 : decide (v4 = 0) with
    | true =>
      have g847 := q_rg_eqT h846 (q_rg_lit (n := 0) (x := 0) rfl)
      refine q_E_T ?_
      exact q_E_x (q_Iv_A (i := 5) hI (q_hf_up ((hI).1 5) (q_s5 (q_rg_full _))))
    | false =>
      have g848 := (q_rg_neL (l := 0) (u := 1) (n := 0) (L := 1) h846 rv4 rfl (by decide) (by decide))
      refine q_E_F ?_
      exact q_E_x (q_Iv_A (i := 14) (q_Iv_A (i := 5) hI (q_hf_up ((hI).1 5) (q_s5 (q_rg_full _)))) (q_hf_up ((hI).1 14) (q_sn11 (q_rg_le (L := 0) (U := 15) (q_rg_or (n := 4) (W := 15) (q_n11 hI) rv5 (by decide) (by decide) (by decide) (by decide) (by decide)) (by decide) (by decide)))))
  | false =>
    have g849 := (q_rg_neL (l := 0) (u := 15) (n := 0) (L := 1) h844 (q_rg_and1 rv5 (by decide)) rfl (by decide) (by decide))
    refine q_E_F ?_
    cases h850 : decide (v4 = 0) with
    | true =>
      have g851 := q_rg_eqT h850 (q_rg_lit (n := 0) (x := 0) rfl)
      refine q_E_T ?_
      exact q_E_x (q_Iv_A (i := 14) (q_Iv_A (i := 5) hI (q_hf_up ((hI).1 5) (q_s5 (q_rg_full _)))) (q_hf_up ((hI).1 14) (q_sn10 (q_rg_le (L := 0) (U := 15) (q_rg_or (n := 4) (W := 15) (q_n10 hI) rv5 (by decide) (by decide) (by decide) (by decide) (by decide)) (by decide) (by decide)))))
    | false =>
      have g852 := (q_rg_neL (l := 0) (u := 1) (n := 0) (L := 1) h850 rv4 rfl (by decide) (by decide))
      refine q_E_F ?_
      have j853 : q_Iv c d w (q_sA (q_sA s 5 (upd (s.1 5) (((32 * v2) + v1).toNatClampNeg) ((((s.1 4) 28) + v6) - (((s.1 4) 28) + v6) / 16 * 16))) 14 (upd (s.1 14) 10 (((s.1 14) 10) ||| v5))) := (q_Iv_A (i := 14) (q_Iv_A (i := 5) hI (q_hf_up ((hI).1 5) (q_s5 (q_rg_full _)))) (q_hf_up ((hI).1 14) (q_sn10 (q_rg_le (L := 0) (U := 15) (q_rg_or (n := 4) (W := 15) (q_n10 hI) rv5 (by decide) (by decide) (by decide) (by decide) (by decide)) (by decide) (by decide)))))
      refine q_E_L ?_
      generalize (q_sA (q_sA s 5 (upd (s.1 5) (((32 * v2) + v1).toNatClampNeg) ((((s.1 4) 28) + v6) - (((s.1 4) 28) + v6) / 16 * 16))) 14 (upd (s.1 14) 10 (((s.1 14) 10) ||| v5))) = r3 at j853 ⊢
      exact q_E_x (q_Iv_A (i := 14) j853 (q_hf_up ((j853).1 14) (q_sn11 (q_rg_le (L := 0) (U := 15) (q_rg_or (n := 4) (W := 15) (q_up_ne (i := 10) (j := 11) (by decide) (q_n11 hI)) rv5 (by decide) (by decide) (by decide) (by decide) (by decide)) (by decide) (by decide)))))
set_option maxHeartbeats 4000000 in
theorem dzjb_M227_64_51 (c d w : Int) (k51 : q_S → Int32 → Int32 → Int32 → Int32 → Int32 → Int32 → Int32 → Option (q_S)) (M51 : Int) (tk51 : ∀ (s : q_S), q_Iv c d w s → ∀ (v1 : Int32) (v2 : Int32) (v3 : Int32) (v4 : Int32) (v5 : Int32) (v6 : Int32) (v7 : Int32), q_rgz 0 31 v1 → q_rgz 0 31 v2 → q_rgz 0 3 v3 → q_rgz 0 1 v4 → q_rgz 0 15 v5 → q_rgz (-1) 3 v6 → q_rgz (-1) 3 v7 → ((v7.toInt - (-1)).toNat : Int) ≤ M51 → q_Ex (k51 s v1 v2 v3 v4 v5 v6 v7) (q_Iv c d w)) (s : q_S) (hI : q_Iv c d w s) (v1 : Int32) (v2 : Int32) (v3 : Int32) (v4 : Int32) (v5 : Int32) (v6 : Int32) (v7 : Int32) (rv1 : q_rgz 0 31 v1) (rv2 : q_rgz 0 31 v2) (rv3 : q_rgz 0 3 v3) (rv4 : q_rgz 0 1 v4) (rv5 : q_rgz 0 15 v5) (rv6 : q_rgz (-1) 3 v6) (rv7 : q_rgz (-1) 3 v7) (m51 : ((v7.toInt - (-1)).toNat : Int) ≤ M51 + 1) : q_Ex (cond (decide (v7 < 0)) (cond (decide (v6 < 0)) (dz_M227_64_118 s v1 v2 v3 v4 v5 v6) (cond (decide (v4 = 0)) (dz_M227_64_114 s v1 v2 v3 v4 v5 v6) (q_let (dz_M205 s ((s.1 4) 19) v6) fun r4 => cond r4 (dz_M227_64_118 s v1 v2 v3 v4 v5 v6) (dz_M227_64_114 s v1 v2 v3 v4 v5 v6)))) ((dz_M226_64 s v7 v1 v2).bind fun r5 => cond r5 (k51 s v1 v2 v3 v4 (v5 ||| ((1 : Int32) <<< (v7 &&& 31))) v7 (v7 + (-1))) (k51 s v1 v2 v3 v4 v5 v6 (v7 + (-1))))) (q_Iv c d w) := by
  cases h854 : decide (v7 < 0) with
  | true =>
    have g855 := (q_rg_ltT1 (l := -1) (U := -1) h854 rv7 (q_rg_lit (n := 0) (x := 0) rfl) (by decide))
    refine q_E_T ?_
    cases h856 : decide (v6 < 0) with
    | true =>
      have g857 := (q_rg_ltT1 (l := -1) (U := -1) h856 rv6 (q_rg_lit (n := 0) (x := 0) rfl) (by decide))
      refine q_E_T ?_
      exact dzj_M227_64_118 c d w (s) hI (v1) (v2) (v3) (v4) (v5) (v6) (q_rg_le (L := 0) (U := 31) rv1 (by decide) (by decide)) (q_rg_le (L := 0) (U := 31) rv2 (by decide) (by decide)) (q_rg_le (L := 0) (U := 3) rv3 (by decide) (by decide)) (q_rg_le (L := 0) (U := 1) rv4 (by decide) (by decide)) (q_rg_le (L := 0) (U := 15) rv5 (by decide) (by decide)) (q_rg_le (L := -1) (U := 3) g857 (by decide) (by decide))
    | false =>
      have g858 := (q_rg_ltF1 (l2 := 0) (u := 3) h856 rv6 (q_rg_lit (n := 0) (x := 0) rfl))
      refine q_E_F ?_
      cases h859 : decide (v4 = 0) with
      | true =>
        have g860 := q_rg_eqT h859 (q_rg_lit (n := 0) (x := 0) rfl)
        refine q_E_T ?_
        exact dzj_M227_64_114 c d w (s) hI (v1) (v2) (v3) (v4) (v5) (v6) (q_rg_le (L := 0) (U := 31) rv1 (by decide) (by decide)) (q_rg_le (L := 0) (U := 31) rv2 (by decide) (by decide)) (q_rg_le (L := 0) (U := 3) rv3 (by decide) (by decide)) (q_rg_le (L := 0) (U := 1) g860 (by decide) (by decide)) (q_rg_le (L := 0) (U := 15) rv5 (by decide) (by decide)) (q_rg_le (L := 0) (U := 3) g858 (by decide) (by decide))
      | false =>
        have g861 := (q_rg_neL (l := 0) (u := 1) (n := 0) (L := 1) h859 rv4 rfl (by decide) (by decide))
        refine q_E_F ?_
        refine q_E_L ?_
        generalize p862 : dz_M205 s ((s.1 4) 19) v6 = r4
        cases r4 with
        | true =>
          refine q_E_T ?_
          exact dzj_M227_64_118 c d w (s) hI (v1) (v2) (v3) (v4) (v5) (v6) (q_rg_le (L := 0) (U := 31) rv1 (by decide) (by decide)) (q_rg_le (L := 0) (U := 31) rv2 (by decide) (by decide)) (q_rg_le (L := 0) (U := 3) rv3 (by decide) (by decide)) (q_rg_le (L := 0) (U := 1) g861 (by decide) (by decide)) (q_rg_le (L := 0) (U := 15) rv5 (by decide) (by decide)) (q_rg_le (L := -1) (U := 3) g858 (by decide) (by decide))
        | false =>
          refine q_E_F ?_
          exact dzj_M227_64_114 c d w (s) hI (v1) (v2) (v3) (v4) (v5) (v6) (q_rg_le (L := 0) (U := 31) rv1 (by decide) (by decide)) (q_rg_le (L := 0) (U := 31) rv2 (by decide) (by decide)) (q_rg_le (L := 0) (U := 3) rv3 (by decide) (by decide)) (q_rg_le (L := 0) (U := 1) g861 (by decide) (by decide)) (q_rg_le (L := 0) (U := 15) rv5 (by decide) (by decide)) (q_rg_le (L := 0) (U := 3) g858 (by decide) (by decide))
  | false =>
    have g863 := (q_rg_ltF1 (l2 := 0) (u := 3) h854 rv7 (q_rg_lit (n := 0) (x := 0) rfl))
    refine q_E_F ?_
    obtain ⟨r5, e865, j864⟩ := dzj_M226_64 c d w (s) hI (v7) (v1) (v2) (q_rg_le (L := 0) (U := 3) g863 (by decide) (by decide)) (q_rg_le (L := 0) (U := 31) rv1 (by decide) (by decide)) (q_rg_le (L := 0) (U := 31) rv2 (by decide) (by decide))
    rw [e865]
    refine q_E_B ?_
    cases h866 : r5 with
    | true =>
      refine q_E_T ?_
      exact tk51 (s) hI (v1) (v2) (v3) (v4) (v5 ||| ((1 : Int32) <<< (v7 &&& 31))) (v7) (v7 + (-1)) (q_rg_le (L := 0) (U := 31) rv1 (by decide) (by decide)) (q_rg_le (L := 0) (U := 31) rv2 (by decide) (by decide)) (q_rg_le (L := 0) (U := 3) rv3 (by decide) (by decide)) (q_rg_le (L := 0) (U := 1) rv4 (by decide) (by decide)) (q_rg_le (L := 0) (U := 15) (q_rg_or (n := 4) (W := 15) rv5 (q_sh3 (q_rg_le g863 (by decide) (by decide))) (by decide) (by decide) (by decide) (by decide) (by decide)) (by decide) (by decide)) (q_rg_le (L := -1) (U := 3) g863 (by decide) (by decide)) (q_rg_le (L := -1) (U := 3) (q_rg_add (L := -1) (U := 2) g863 (q_rg_lit (n := -1) (x := -1) rfl) (by decide) (by decide) (by decide) (by decide)) (by decide) (by decide)) (q_med g863 m51 (by decide) (by decide))
    | false =>
      refine q_E_F ?_
      exact tk51 (s) hI (v1) (v2) (v3) (v4) (v5) (v6) (v7 + (-1)) (q_rg_le (L := 0) (U := 31) rv1 (by decide) (by decide)) (q_rg_le (L := 0) (U := 31) rv2 (by decide) (by decide)) (q_rg_le (L := 0) (U := 3) rv3 (by decide) (by decide)) (q_rg_le (L := 0) (U := 1) rv4 (by decide) (by decide)) (q_rg_le (L := 0) (U := 15) rv5 (by decide) (by decide)) (q_rg_le (L := -1) (U := 3) rv6 (by decide) (by decide)) (q_rg_le (L := -1) (U := 3) (q_rg_add (L := -1) (U := 2) g863 (q_rg_lit (n := -1) (x := -1) rfl) (by decide) (by decide) (by decide) (by decide)) (by decide) (by decide)) (q_med g863 m51 (by decide) (by decide))
theorem dzj_M227_64_51 (c d w : Int) : ∀ (m : Nat) (s : q_S) (hI : q_Iv c d w s) (v1 : Int32) (v2 : Int32) (v3 : Int32) (v4 : Int32) (v5 : Int32) (v6 : Int32) (v7 : Int32) (rv1 : q_rgz 0 31 v1) (rv2 : q_rgz 0 31 v2) (rv3 : q_rgz 0 3 v3) (rv4 : q_rgz 0 1 v4) (rv5 : q_rgz 0 15 v5) (rv6 : q_rgz (-1) 3 v6) (rv7 : q_rgz (-1) 3 v7), ((v7.toInt - (-1)).toNat : Int) ≤ (m : Int) → q_Ex (dz_M227_64_51 (m + 1) s v1 v2 v3 v4 v5 v6 v7) (q_Iv c d w) := by
  intro m
  induction m with
  | zero => intro s hI v1 v2 v3 v4 v5 v6 v7 rv1 rv2 rv3 rv4 rv5 rv6 rv7 hm; rw [dzs_M227_64_51]; exact dzjb_M227_64_51 c d w (dz_M227_64_51 0) (-1) (fun s hI v1 v2 v3 v4 v5 v6 v7 rv1 rv2 rv3 rv4 rv5 rv6 rv7 hm => absurd hm (by omega)) s hI v1 v2 v3 v4 v5 v6 v7 rv1 rv2 rv3 rv4 rv5 rv6 rv7 (by omega)
  | succ m ih => intro s hI v1 v2 v3 v4 v5 v6 v7 rv1 rv2 rv3 rv4 rv5 rv6 rv7 hm; rw [dzs_M227_64_51]; exact dzjb_M227_64_51 c d w (dz_M227_64_51 (m + 1)) (m : Int) (fun s hI v1 v2 v3 v4 v5 v6 v7 rv1 rv2 rv3 rv4 rv5 rv6 rv7 hm => ih s hI v1 v2 v3 v4 v5 v6 v7 rv1 rv2 rv3 rv4 rv5 rv6 rv7 hm) s hI v1 v2 v3 v4 v5 v6 v7 rv1 rv2 rv3 rv4 rv5 rv6 rv7 (by omega)
set_option maxHeartbeats 4000000 in
theorem dzj_M227_64 (c d w : Int) (s : q_S) (hI : q_Iv c d w s) (a1 : Int32) (a2 : Int32) (ra1 : q_rgz 0 31 a1) (ra2 : q_rgz 0 31 a2) : q_Ex (dz_M227_64 s a1 a2) (q_Iv c d w) := by
  unfold dz_M227_64
  obtain ⟨r1, e868, j867⟩ := dzj_M225_64 c d w (s) hI (a1) (a2) (q_rg_le (L := 0) (U := 31) ra1 (by decide) (by decide)) (q_rg_le (L := 0) (U := 31) ra2 (by decide) (by decide))
  rw [e868]
  refine q_E_B ?_
  cases h869 : decide ((s.1 4) 1 = 2) with
  | true =>
    have g870 := q_rg_eqT h869 (q_rg_lit (n := 2) (x := 2) rfl)
    refine q_E_T ?_
    cases h871 : decide (1 < r1) with
    | true =>
      have g872 := (q_rg_ltT2 (L := 2) (u2 := 3) h871 (q_rg_lit (n := 1) (x := 1) rfl) j867 (by decide))
      refine q_E_T ?_
      exact dzj_M227_64_51 c d w 4999 (s) hI (a1) (a2) (r1) (1) (0) (-1) (3) (q_rg_le (L := 0) (U := 31) ra1 (by decide) (by decide)) (q_rg_le (L := 0) (U := 31) ra2 (by decide) (by decide)) (q_rg_le (L := 0) (U := 3) g872 (by decide) (by decide)) (q_rg_le (L := 0) (U := 1) (q_rg_lit (n := 1) (x := 1) rfl) (by decide) (by decide)) (q_rg_le (L := 0) (U := 15) (q_rg_lit (n := 0) (x := 0) rfl) (by decide) (by decide)) (q_rg_le (L := -1) (U := 3) (q_rg_lit (n := -1) (x := -1) rfl) (by decide) (by decide)) (q_rg_le (L := -1) (U := 3) (q_rg_lit (n := 3) (x := 3) rfl) (by decide) (by decide)) (q_med0 (q_rg_lit (n := 3) (x := 3) rfl) (by decide) (by decide))
    | false =>
      have g873 := (q_rg_ltF2 (l2 := 0) (u := 1) h871 (q_rg_lit (n := 1) (x := 1) rfl) j867)
      refine q_E_F ?_
      exact dzj_M227_64_51 c d w 4999 (s) hI (a1) (a2) (r1) (0) (0) (-1) (3) (q_rg_le (L := 0) (U := 31) ra1 (by decide) (by decide)) (q_rg_le (L := 0) (U := 31) ra2 (by decide) (by decide)) (q_rg_le (L := 0) (U := 3) g873 (by decide) (by decide)) (q_rg_le (L := 0) (U := 1) (q_rg_lit (n := 0) (x := 0) rfl) (by decide) (by decide)) (q_rg_le (L := 0) (U := 15) (q_rg_lit (n := 0) (x := 0) rfl) (by decide) (by decide)) (q_rg_le (L := -1) (U := 3) (q_rg_lit (n := -1) (x := -1) rfl) (by decide) (by decide)) (q_rg_le (L := -1) (U := 3) (q_rg_lit (n := 3) (x := 3) rfl) (by decide) (by decide)) (q_med0 (q_rg_lit (n := 3) (x := 3) rfl) (by decide) (by decide))
  | false =>
    refine q_E_F ?_
    cases h874 : decide (r1 = 1) with
    | true =>
      have g875 := q_rg_eqT h874 (q_rg_lit (n := 1) (x := 1) rfl)
      refine q_E_T ?_
      exact dzj_M227_64_51 c d w 4999 (s) hI (a1) (a2) (r1) (1) (0) (-1) (3) (q_rg_le (L := 0) (U := 31) ra1 (by decide) (by decide)) (q_rg_le (L := 0) (U := 31) ra2 (by decide) (by decide)) (q_rg_le (L := 0) (U := 3) g875 (by decide) (by decide)) (q_rg_le (L := 0) (U := 1) (q_rg_lit (n := 1) (x := 1) rfl) (by decide) (by decide)) (q_rg_le (L := 0) (U := 15) (q_rg_lit (n := 0) (x := 0) rfl) (by decide) (by decide)) (q_rg_le (L := -1) (U := 3) (q_rg_lit (n := -1) (x := -1) rfl) (by decide) (by decide)) (q_rg_le (L := -1) (U := 3) (q_rg_lit (n := 3) (x := 3) rfl) (by decide) (by decide)) (q_med0 (q_rg_lit (n := 3) (x := 3) rfl) (by decide) (by decide))
    | false =>
      refine q_E_F ?_
      exact dzj_M227_64_51 c d w 4999 (s) hI (a1) (a2) (r1) (0) (0) (-1) (3) (q_rg_le (L := 0) (U := 31) ra1 (by decide) (by decide)) (q_rg_le (L := 0) (U := 31) ra2 (by decide) (by decide)) (q_rg_le (L := 0) (U := 3) j867 (by decide) (by decide)) (q_rg_le (L := 0) (U := 1) (q_rg_lit (n := 0) (x := 0) rfl) (by decide) (by decide)) (q_rg_le (L := 0) (U := 15) (q_rg_lit (n := 0) (x := 0) rfl) (by decide) (by decide)) (q_rg_le (L := -1) (U := 3) (q_rg_lit (n := -1) (x := -1) rfl) (by decide) (by decide)) (q_rg_le (L := -1) (U := 3) (q_rg_lit (n := 3) (x := 3) rfl) (by decide) (by decide)) (q_med0 (q_rg_lit (n := 3) (x := 3) rfl) (by decide) (by decide))
set_option maxHeartbeats 4000000 in
theorem dzj_M228_64 (c d w : Int) (s : q_S) (hI : q_Iv c d w s) (a1 : Int32) (ra1 : q_rgz 0 1 a1) : q_Ex (dz_M228_64 s a1) (fun (x : q_S × Bool) => q_Iv c d w x.1) := by
  unfold dz_M228_64
  refine q_E_A (q_in_rg (q_rg_add (L := 5) (U := 6) (q_rg_lit (n := 5) (x := 5) rfl) ra1 (by decide) (by decide) (by decide) (by decide)) (by decide) (by decide)) ?_
  cases h880 : decide (0 < (s.1 14) (((5 : Int32) + a1).toNatClampNeg)) with
  | true =>
    have g881 := (q_rg_ltT2 (L := 1) (u2 := 65535) h880 (q_rg_lit (n := 0) (x := 0) rfl) (q_rdv (i := 14) (a := 5) (n := 2) (L := 0) (U := 65535) hI (q_rg_le (q_rg_add (L := 5) (U := 6) (q_rg_lit (n := 5) (x := 5) rfl) ra1 (by decide) (by decide) (by decide) (by decide)) (by decide) (by decide)) rfl (by decide)) (by decide))
    refine q_E_T ?_
    exact q_E_x (q_Iv_A (i := 14) hI (q_hf_up ((hI).1 14) (q_stv (i := 14) (a := 5) (n := 2) (L := 0) (U := 65534) hI (q_rg_le (q_rg_add (L := 5) (U := 6) (q_rg_lit (n := 5) (x := 5) rfl) ra1 (by decide) (by decide) (by decide) (by decide)) (by decide) (by decide)) (by decide) (q_rg_sub (L := 0) (U := 65534) g881 (q_rg_lit (n := 1) (x := 1) rfl) (by decide) (by decide) (by decide) (by decide)))))
  | false =>
    have g882 := (q_rg_ltF2 (l2 := 0) (u := 0) h880 (q_rg_lit (n := 0) (x := 0) rfl) (q_rdv (i := 14) (a := 5) (n := 2) (L := 0) (U := 65535) hI (q_rg_le (q_rg_add (L := 5) (U := 6) (q_rg_lit (n := 5) (x := 5) rfl) ra1 (by decide) (by decide) (by decide) (by decide)) (by decide) (by decide)) rfl (by decide)))
    refine q_E_F ?_
    refine q_E_A (q_in_rg (q_rg_add (L := 7) (U := 8) (q_rg_lit (n := 7) (x := 7) rfl) ra1 (by decide) (by decide) (by decide) (by decide)) (by decide) (by decide)) ?_
    have j883 : q_Iv c d w (q_sA s 14 (upd (s.1 14) (((5 : Int32) + a1).toNatClampNeg) ((s.1 14) (((7 : Int32) + a1).toNatClampNeg)))) := (q_Iv_A (i := 14) hI (q_hf_up ((hI).1 14) (q_stv (i := 14) (a := 5) (n := 2) (L := 0) (U := 65535) hI (q_rg_le (q_rg_add (L := 5) (U := 6) (q_rg_lit (n := 5) (x := 5) rfl) ra1 (by decide) (by decide) (by decide) (by decide)) (by decide) (by decide)) (by decide) (q_rdv (i := 14) (a := 7) (n := 2) (L := 0) (U := 65535) hI (q_rg_le (q_rg_add (L := 7) (U := 8) (q_rg_lit (n := 7) (x := 7) rfl) ra1 (by decide) (by decide) (by decide) (by decide)) (by decide) (by decide)) rfl (by decide)))))
    refine q_E_L ?_
    generalize (q_sA s 14 (upd (s.1 14) (((5 : Int32) + a1).toNatClampNeg) ((s.1 14) (((7 : Int32) + a1).toNatClampNeg)))) = r1 at j883 ⊢
    exact q_E_x (q_Iv_A (i := 14) j883 (q_hf_up ((j883).1 14) (q_sn9 (q_rg_le (L := 0) (U := 15) (q_rg_or (n := 4) (W := 15) (q_up_ne (q_ixne (q_rg_add (L := 5) (U := 6) (q_rg_lit (n := 5) (x := 5) rfl) ra1 (by decide) (by decide) (by decide) (by decide)) (by decide) (by decide)) (q_n9 hI)) (q_sh2 (q_rg_le ra1 (by decide) (by decide))) (by decide) (by decide) (by decide) (by decide) (by decide)) (by decide) (by decide)))))
set_option maxHeartbeats 4000000 in
theorem dzj_M229_64 (c d w : Int) (s : q_S) (hI : q_Iv c d w s) : q_Ex (dz_M229_64 s) (q_Iv c d w) := by
  unfold dz_M229_64
  refine q_E_L ?_
  generalize p902 : dz_M205 s ((s.1 4) 16) 0 = r3
  cases r3 with
  | true =>
    refine q_E_T ?_
    obtain ⟨r4, e904, j903⟩ := dzj_M228_64 c d w (s) hI (0) (q_rg_le (L := 0) (U := 1) (q_rg_lit (n := 0) (x := 0) rfl) (by decide) (by decide))
    rw [e904]
    refine q_E_B ?_
    cases h905 : r4.2 with
    | true =>
      refine q_E_T ?_
      refine q_E_L ?_
      generalize p906 : dz_M205 (q_sI r4.1 0 38 1) ((r4.1.1 4) 16) 1 = r5
      cases r5 with
      | true =>
        refine q_E_T ?_
        obtain ⟨r6, e908, j907⟩ := dzj_M228_64 c d w (q_sI r4.1 0 38 1) (q_Iv_I (i := 0) (m := 38) j903 (q_rg_le (L := 0) (U := 1) (q_rg_lit (n := 1) (x := 1) rfl) (by decide) (by decide))) (1) (q_rg_le (L := 0) (U := 1) (q_rg_lit (n := 1) (x := 1) rfl) (by decide) (by decide))
        rw [e908]
        refine q_E_B ?_
        cases h909 : r6.2 with
        | true =>
          refine q_E_T ?_
          exact q_E_x j907
        | false =>
          refine q_E_F ?_
          exact q_E_x j907
      | false =>
        refine q_E_F ?_
        exact q_E_x (q_Iv_I (i := 0) (m := 38) j903 (q_rg_le (L := 0) (U := 1) (q_rg_lit (n := 1) (x := 1) rfl) (by decide) (by decide)))
    | false =>
      refine q_E_F ?_
      refine q_E_L ?_
      generalize p910 : dz_M205 (q_sI r4.1 0 38 0) ((r4.1.1 4) 16) 1 = r7
      cases r7 with
      | true =>
        refine q_E_T ?_
        refine q_E_L ?_
        generalize p911 : dz_M205 (q_sI r4.1 0 38 0) ((r4.1.1 4) 16) 2 = r8
        cases r8 with
        | true =>
          refine q_E_T ?_
          exact q_E_x (q_Iv_I (i := 0) (m := 38) j903 (q_rg_le (L := 0) (U := 1) (q_rg_lit (n := 0) (x := 0) rfl) (by decide) (by decide)))
        | false =>
          refine q_E_F ?_
          obtain ⟨r9, e913, j912⟩ := dzj_M228_64 c d w (q_sI r4.1 0 38 0) (q_Iv_I (i := 0) (m := 38) j903 (q_rg_le (L := 0) (U := 1) (q_rg_lit (n := 0) (x := 0) rfl) (by decide) (by decide))) (1) (q_rg_le (L := 0) (U := 1) (q_rg_lit (n := 1) (x := 1) rfl) (by decide) (by decide))
          rw [e913]
          refine q_E_B ?_
          cases h914 : r9.2 with
          | true =>
            refine q_E_T ?_
            exact q_E_x j912
          | false =>
            refine q_E_F ?_
            exact q_E_x j912
      | false =>
        refine q_E_F ?_
        exact q_E_x (q_Iv_I (i := 0) (m := 38) j903 (q_rg_le (L := 0) (U := 1) (q_rg_lit (n := 0) (x := 0) rfl) (by decide) (by decide)))
  | false =>
    refine q_E_F ?_
    refine q_E_L ?_
    generalize p915 : dz_M205 (q_sI s 0 38 0) ((s.1 4) 16) 1 = r10
    cases r10 with
    | true =>
      refine q_E_T ?_
      refine q_E_L ?_
      generalize p916 : dz_M205 (q_sI s 0 38 0) ((s.1 4) 16) 2 = r11
      cases r11 with
      | true =>
        refine q_E_T ?_
        exact q_E_x (q_Iv_I (i := 0) (m := 38) hI (q_rg_le (L := 0) (U := 1) (q_rg_lit (n := 0) (x := 0) rfl) (by decide) (by decide)))
      | false =>
        refine q_E_F ?_
        obtain ⟨r12, e918, j917⟩ := dzj_M228_64 c d w (q_sI s 0 38 0) (q_Iv_I (i := 0) (m := 38) hI (q_rg_le (L := 0) (U := 1) (q_rg_lit (n := 0) (x := 0) rfl) (by decide) (by decide))) (1) (q_rg_le (L := 0) (U := 1) (q_rg_lit (n := 1) (x := 1) rfl) (by decide) (by decide))
        rw [e918]
        refine q_E_B ?_
        cases h919 : r12.2 with
        | true =>
          refine q_E_T ?_
          exact q_E_x j917
        | false =>
          refine q_E_F ?_
          exact q_E_x j917
    | false =>
      refine q_E_F ?_
      exact q_E_x (q_Iv_I (i := 0) (m := 38) hI (q_rg_le (L := 0) (U := 1) (q_rg_lit (n := 0) (x := 0) rfl) (by decide) (by decide)))
set_option maxHeartbeats 4000000 in
theorem dzj_M230_64 (c d w : Int) (s : q_S) (hI : q_Iv c d w s) : q_Ex (dz_M230_64 s) (q_Iv c d w) := by
  unfold dz_M230_64
  cases h935 : decide ((s.1 4) 44 = 0) with
  | true =>
    have g936 := q_rg_eqT h935 (q_rg_lit (n := 0) (x := 0) rfl)
    refine q_E_T ?_
    exact q_E_x hI
  | false =>
    have g937 := (q_rg_neL (l := 0) (u := 1) (n := 0) (L := 1) h935 (q_g44 hI) rfl (by decide) (by decide))
    refine q_E_F ?_
    refine q_E_L ?_
    generalize p938 : dz_M208_64 s = r6
    cases r6 with
    | true =>
      have g939 : q_rgz 0 39 ((s.1 14) 14) := q_p209 (s := s) hI p938
      refine q_E_T ?_
      cases h940 : decide (0 < (upd (s.1 14) 15 (((s.1 14) 15) - 1)) 15) with
      | true =>
        have g941 := (q_rg_ltT2 (L := 1) (u2 := 2147483647) h940 (q_rg_lit (n := 0) (x := 0) rfl) (q_rg_full _) (by decide))
        refine q_E_T ?_
        exact q_E_x (q_Iv_A (i := 14) hI (q_hf_up ((hI).1 14) (q_sn15 (q_rg_full _))))
      | false =>
        have g942 := (q_rg_ltF2 (l2 := -2147483648) (u := 0) h940 (q_rg_lit (n := 0) (x := 0) rfl) (q_rg_full _))
        refine q_E_F ?_
        have j943 : q_Iv c d w (q_sA s 14 (upd (s.1 14) 15 (((s.1 14) 15) - 1))) := (q_Iv_A (i := 14) hI (q_hf_up ((hI).1 14) (q_sn15 (q_rg_full _))))
        refine q_E_L ?_
        generalize (q_sA s 14 (upd (s.1 14) 15 (((s.1 14) 15) - 1))) = r7 at j943 ⊢
        have j944 : q_Iv c d w (q_sA r7 14 (upd (r7.1 14) 14 (((upd (s.1 14) 15 (((s.1 14) 15) - 1)) 14) + 1))) := (q_Iv_A (i := 14) j943 (q_hf_up ((j943).1 14) (q_sn14 (q_rg_le (L := 0) (U := 40) (q_rg_add (L := 1) (U := 40) (q_up_ne (i := 15) (j := 14) (by decide) g939) (q_rg_lit (n := 1) (x := 1) rfl) (by decide) (by decide) (by decide) (by decide)) (by decide) (by decide)))))
        refine q_E_L ?_
        generalize (q_sA r7 14 (upd (r7.1 14) 14 (((upd (s.1 14) 15 (((s.1 14) 15) - 1)) 14) + 1))) = r8 at j944 ⊢
        have j945 : q_Iv c d w (q_sA r8 14 (upd (r8.1 14) 16 ((1 : Int32) - ((upd (r7.1 14) 14 (((upd (s.1 14) 15 (((s.1 14) 15) - 1)) 14) + 1)) 16)))) := (q_Iv_A (i := 14) j944 (q_hf_up ((j944).1 14) (q_sn16 (q_rg_le (L := 0) (U := 1) (q_rg_sub (L := 0) (U := 1) (q_rg_lit (n := 1) (x := 1) rfl) (q_up_ne (i := 14) (j := 16) (by decide) (q_n16 j943)) (by decide) (by decide) (by decide) (by decide)) (by decide) (by decide)))))
        refine q_E_L ?_
        generalize (q_sA r8 14 (upd (r8.1 14) 16 ((1 : Int32) - ((upd (r7.1 14) 14 (((upd (s.1 14) 15 (((s.1 14) 15) - 1)) 14) + 1)) 16)))) = r9 at j945 ⊢
        refine q_E_L ?_
        generalize p946 : dz_M208_64 (q_sA r9 14 (upd (r9.1 14) 9 (((upd (r8.1 14) 16 ((1 : Int32) - ((upd (r7.1 14) 14 (((upd (s.1 14) 15 (((s.1 14) 15) - 1)) 14) + 1)) 16))) 9) ||| 8))) = r10
        cases r10 with
        | true =>
          have g947 : q_rgz 0 39 ((upd (r9.1 14) 9 (((upd (r8.1 14) 16 ((1 : Int32) - ((upd (r7.1 14) 14 (((upd (s.1 14) 15 (((s.1 14) 15) - 1)) 14) + 1)) 16))) 9) ||| 8)) 14) := q_p209 (s := q_sA r9 14 (upd (r9.1 14) 9 (((upd (r8.1 14) 16 ((1 : Int32) - ((upd (r7.1 14) 14 (((upd (s.1 14) 15 (((s.1 14) 15) - 1)) 14) + 1)) 16))) 9) ||| 8))) (q_Iv_A (i := 14) j945 (q_hf_up ((j945).1 14) (q_sn9 (q_rg_le (L := 0) (U := 15) (q_rg_or (n := 4) (W := 15) (q_up_ne (i := 16) (j := 9) (by decide) (q_n9 j944)) (q_rg_lit (n := 8) (x := 8) rfl) (by decide) (by decide) (by decide) (by decide) (by decide)) (by decide) (by decide))))) p946
          refine q_E_T ?_
          refine q_E_A (q_in_rg g947 (by decide) (by decide)) ?_
          have j948 : q_Iv c d w (q_sA r9 14 (upd (r9.1 14) 9 (((upd (r8.1 14) 16 ((1 : Int32) - ((upd (r7.1 14) 14 (((upd (s.1 14) 15 (((s.1 14) 15) - 1)) 14) + 1)) 16))) 9) ||| 8))) := (q_Iv_A (i := 14) j945 (q_hf_up ((j945).1 14) (q_sn9 (q_rg_le (L := 0) (U := 15) (q_rg_or (n := 4) (W := 15) (q_up_ne (i := 16) (j := 9) (by decide) (q_n9 j944)) (q_rg_lit (n := 8) (x := 8) rfl) (by decide) (by decide) (by decide) (by decide) (by decide)) (by decide) (by decide)))))
          refine q_E_L ?_
          generalize (q_sA r9 14 (upd (r9.1 14) 9 (((upd (r8.1 14) 16 ((1 : Int32) - ((upd (r7.1 14) 14 (((upd (s.1 14) 15 (((s.1 14) 15) - 1)) 14) + 1)) 16))) 9) ||| 8))) = r11 at j948 ⊢
          exact q_E_x (q_Iv_A (i := 14) j948 (q_hf_up ((j948).1 14) (q_sn15 (q_rg_full _))))
        | false =>
          refine q_E_F ?_
          have j949 : q_Iv c d w (q_sA r9 14 (upd (r9.1 14) 9 (((upd (r8.1 14) 16 ((1 : Int32) - ((upd (r7.1 14) 14 (((upd (s.1 14) 15 (((s.1 14) 15) - 1)) 14) + 1)) 16))) 9) ||| 8))) := (q_Iv_A (i := 14) j945 (q_hf_up ((j945).1 14) (q_sn9 (q_rg_le (L := 0) (U := 15) (q_rg_or (n := 4) (W := 15) (q_up_ne (i := 16) (j := 9) (by decide) (q_n9 j944)) (q_rg_lit (n := 8) (x := 8) rfl) (by decide) (by decide) (by decide) (by decide) (by decide)) (by decide) (by decide)))))
          refine q_E_L ?_
          generalize (q_sA r9 14 (upd (r9.1 14) 9 (((upd (r8.1 14) 16 ((1 : Int32) - ((upd (r7.1 14) 14 (((upd (s.1 14) 15 (((s.1 14) 15) - 1)) 14) + 1)) 16))) 9) ||| 8))) = r12 at j949 ⊢
          exact q_E_x (q_Iv_A (i := 14) j949 (q_hf_up ((j949).1 14) (q_sn15 (q_rg_full _))))
    | false =>
      refine q_E_F ?_
      exact q_E_x hI
set_option maxHeartbeats 4000000 in
theorem dzj_M231_64_93 (c d w : Int) (s : q_S) (hI : q_Iv c d w s) (v1 : Int32) (v2 : Int32) (rv1 : q_rgz 0 2 v1) (rv2 : q_rgz 32 40 v2) : q_Ex (dz_M231_64_93 s v1 v2) (q_Iv c d w) := by
  unfold dz_M231_64_93
  refine q_E_A (q_in_rg (q_rg_add (L := 34) (U := 42) rv2 (q_rg_lit (n := 2) (x := 2) rfl) (by decide) (by decide) (by decide) (by decide)) (by decide) (by decide)) ?_
  refine q_E_L ?_
  generalize p969 : dz_M205 s ((s.1 4) ((v2 + 2).toNatClampNeg)) 0 = r2
  cases r2 with
  | true =>
    refine q_E_T ?_
    refine q_E_A (q_in_rg rv1 (by decide) (by decide)) ?_
    refine q_E_A (q_in_rg (q_rg_add (L := 35) (U := 43) rv2 (q_rg_lit (n := 3) (x := 3) rfl) (by decide) (by decide) (by decide) (by decide)) (by decide) (by decide)) ?_
    cases h970 : decide (((s.1 4) ((v2 + 3).toNatClampNeg)) - ((s.1 4) ((v2 + 3).toNatClampNeg)) / 16 * 16 < (upd (s.1 12) (v1.toNatClampNeg) (((s.1 12) (v1.toNatClampNeg)) + 1)) (v1.toNatClampNeg)) with
    | true =>
      have g971 := (q_rg_ltT2 (L := 1) (u2 := 2147483647) h970 (q_rg_rem (c := 16) (U := 15) (q_rdv (i := 4) (a := 35) (n := 9) (L := 0) (U := 255) hI (q_rg_le (q_rg_add (L := 35) (U := 43) rv2 (q_rg_lit (n := 3) (x := 3) rfl) (by decide) (by decide) (by decide) (by decide)) (by decide) (by decide)) rfl (by decide)) (by decide) rfl (by decide) (by decide)) (q_rg_full _) (by decide))
      refine q_E_T ?_
      have j972 : q_Iv c d w (q_sA s 12 (upd (s.1 12) (v1.toNatClampNeg) (((s.1 12) (v1.toNatClampNeg)) + 1))) := (q_Iv_A (i := 12) hI (q_hf_up ((hI).1 12) (q_s12 (q_rg_full _))))
      refine q_E_L ?_
      generalize (q_sA s 12 (upd (s.1 12) (v1.toNatClampNeg) (((s.1 12) (v1.toNatClampNeg)) + 1))) = r3 at j972 ⊢
      exact q_E_x (q_Iv_A (i := 11) (q_Iv_A (i := 12) j972 (q_hf_up ((j972).1 12) (q_s12 (q_rg_full _)))) (q_hf_up ((j972).1 11) (q_s11 (q_rg_le (L := 0) (U := 15) (q_rg_min (L := 1) (U := 15) (q_rg_add (L := 1) (U := 16) (q_r11 j972 _) (q_rg_lit (n := 1) (x := 1) rfl) (by decide) (by decide) (by decide) (by decide)) (q_rg_lit (n := 15) (x := 15) rfl) (by decide) (by decide) (by decide)) (by decide) (by decide)))))
    | false =>
      have g973 := (q_rg_ltF2 (l2 := -2147483648) (u := 15) h970 (q_rg_rem (c := 16) (U := 15) (q_rdv (i := 4) (a := 35) (n := 9) (L := 0) (U := 255) hI (q_rg_le (q_rg_add (L := 35) (U := 43) rv2 (q_rg_lit (n := 3) (x := 3) rfl) (by decide) (by decide) (by decide) (by decide)) (by decide) (by decide)) rfl (by decide)) (by decide) rfl (by decide) (by decide)) (q_rg_full _))
      refine q_E_F ?_
      exact q_E_x (q_Iv_A (i := 12) hI (q_hf_up ((hI).1 12) (q_s12 (q_rg_full _))))
  | false =>
    refine q_E_F ?_
    refine q_E_A (q_in_rg rv1 (by decide) (by decide)) ?_
    refine q_E_A (q_in_rg (q_rg_add (L := 35) (U := 43) rv2 (q_rg_lit (n := 3) (x := 3) rfl) (by decide) (by decide) (by decide) (by decide)) (by decide) (by decide)) ?_
    cases h974 : decide (((s.1 4) ((v2 + 3).toNatClampNeg)) / 16 < (upd (s.1 12) (v1.toNatClampNeg) (((s.1 12) (v1.toNatClampNeg)) + 1)) (v1.toNatClampNeg)) with
    | true =>
      have g975 := (q_rg_ltT2 (L := 1) (u2 := 2147483647) h974 (q_rg_div (c := 16) (U := 15) (q_rdv (i := 4) (a := 35) (n := 9) (L := 0) (U := 255) hI (q_rg_le (q_rg_add (L := 35) (U := 43) rv2 (q_rg_lit (n := 3) (x := 3) rfl) (by decide) (by decide) (by decide) (by decide)) (by decide) (by decide)) rfl (by decide)) (by decide) rfl (by decide) (by decide)) (q_rg_full _) (by decide))
      refine q_E_T ?_
      have j976 : q_Iv c d w (q_sA s 12 (upd (s.1 12) (v1.toNatClampNeg) (((s.1 12) (v1.toNatClampNeg)) + 1))) := (q_Iv_A (i := 12) hI (q_hf_up ((hI).1 12) (q_s12 (q_rg_full _))))
      refine q_E_L ?_
      generalize (q_sA s 12 (upd (s.1 12) (v1.toNatClampNeg) (((s.1 12) (v1.toNatClampNeg)) + 1))) = r4 at j976 ⊢
      exact q_E_x (q_Iv_A (i := 11) (q_Iv_A (i := 12) j976 (q_hf_up ((j976).1 12) (q_s12 (q_rg_full _)))) (q_hf_up ((j976).1 11) (q_s11 (q_rg_le (L := 0) (U := 15) (q_rg_max (L := 0) (U := 14) (q_rg_sub (L := -1) (U := 14) (q_r11 j976 _) (q_rg_lit (n := 1) (x := 1) rfl) (by decide) (by decide) (by decide) (by decide)) (q_rg_lit (n := 0) (x := 0) rfl) (by decide) (by decide) (by decide)) (by decide) (by decide)))))
    | false =>
      have g977 := (q_rg_ltF2 (l2 := -2147483648) (u := 15) h974 (q_rg_div (c := 16) (U := 15) (q_rdv (i := 4) (a := 35) (n := 9) (L := 0) (U := 255) hI (q_rg_le (q_rg_add (L := 35) (U := 43) rv2 (q_rg_lit (n := 3) (x := 3) rfl) (by decide) (by decide) (by decide) (by decide)) (by decide) (by decide)) rfl (by decide)) (by decide) rfl (by decide) (by decide)) (q_rg_full _))
      refine q_E_F ?_
      exact q_E_x (q_Iv_A (i := 12) hI (q_hf_up ((hI).1 12) (q_s12 (q_rg_full _))))
set_option maxHeartbeats 4000000 in
theorem dzj_M231_64 (c d w : Int) (s : q_S) (hI : q_Iv c d w s) (a1 : Int32) (ra1 : q_rgz 0 2 a1) : q_Ex (dz_M231_64 s a1) (q_Iv c d w) := by
  unfold dz_M231_64
  refine q_E_A (q_in_rg ra1 (by decide) (by decide)) ?_
  refine q_E_A (q_in_rg (q_rg_add (L := 32) (U := 40) (q_rg_lit (n := 32) (x := 32) rfl) (q_rg_mul (L := 0) (U := 8) (q_rg_lit (n := 4) (x := 4) rfl) ra1 (by decide) (by decide) (by decide) (by decide) (by decide) (by decide)) (by decide) (by decide) (by decide) (by decide)) (by decide) (by decide)) ?_
  refine q_E_A (q_in_rg (q_rg_add (L := 33) (U := 41) (q_rg_add (L := 32) (U := 40) (q_rg_lit (n := 32) (x := 32) rfl) (q_rg_mul (L := 0) (U := 8) (q_rg_lit (n := 4) (x := 4) rfl) ra1 (by decide) (by decide) (by decide) (by decide) (by decide) (by decide)) (by decide) (by decide) (by decide) (by decide)) (q_rg_lit (n := 1) (x := 1) rfl) (by decide) (by decide) (by decide) (by decide)) (by decide) (by decide)) ?_
  have j978 : q_rgz 0 131070 ((((s.1 10) (a1.toNatClampNeg)) + ((s.1 4) (((32 : Int32) + (4 * a1)).toNatClampNeg))) + (256 * ((s.1 4) ((((32 : Int32) + (4 * a1)) + 1).toNatClampNeg)))) := (q_rg_add (L := 0) (U := 131070) (q_rg_add (L := 0) (U := 65790) (q_r10 hI _) (q_rdv (i := 4) (a := 32) (n := 9) (L := 0) (U := 255) hI (q_rg_le (q_rg_add (L := 32) (U := 40) (q_rg_lit (n := 32) (x := 32) rfl) (q_rg_mul (L := 0) (U := 8) (q_rg_lit (n := 4) (x := 4) rfl) ra1 (by decide) (by decide) (by decide) (by decide) (by decide) (by decide)) (by decide) (by decide) (by decide) (by decide)) (by decide) (by decide)) rfl (by decide)) (by decide) (by decide) (by decide) (by decide)) (q_rg_mul (L := 0) (U := 65280) (q_rg_lit (n := 256) (x := 256) rfl) (q_rdv (i := 4) (a := 33) (n := 9) (L := 0) (U := 255) hI (q_rg_le (q_rg_add (L := 33) (U := 41) (q_rg_add (L := 32) (U := 40) (q_rg_lit (n := 32) (x := 32) rfl) (q_rg_mul (L := 0) (U := 8) (q_rg_lit (n := 4) (x := 4) rfl) ra1 (by decide) (by decide) (by decide) (by decide) (by decide) (by decide)) (by decide) (by decide) (by decide) (by decide)) (q_rg_lit (n := 1) (x := 1) rfl) (by decide) (by decide) (by decide) (by decide)) (by decide) (by decide)) rfl (by decide)) (by decide) (by decide) (by decide) (by decide) (by decide) (by decide)) (by decide) (by decide) (by decide) (by decide))
  refine q_E_L ?_
  generalize ((((s.1 10) (a1.toNatClampNeg)) + ((s.1 4) (((32 : Int32) + (4 * a1)).toNatClampNeg))) + (256 * ((s.1 4) ((((32 : Int32) + (4 * a1)) + 1).toNatClampNeg)))) = x1 at j978 ⊢
  cases h979 : decide (65535 < x1) with
  | true =>
    have g980 := (q_rg_ltT2 (L := 65536) (u2 := 131070) h979 (q_rg_lit (n := 65535) (x := 65535) rfl) j978 (by decide))
    refine q_E_T ?_
    cases h981 : decide (((s.1 13) (a1.toNatClampNeg)) - ((s.1 13) (a1.toNatClampNeg)) / 2 * 2 = (((s.1 13) (a1.toNatClampNeg)) / 2) - (((s.1 13) (a1.toNatClampNeg)) / 2) / 2 * 2) with
    | true =>
      refine q_E_T ?_
      exact dzj_M231_64_93 c d w (q_sA (q_sA s 10 (upd (s.1 10) (a1.toNatClampNeg) (x1 - x1 / 65536 * 65536))) 13 (upd (s.1 13) (a1.toNatClampNeg) ((((s.1 13) (a1.toNatClampNeg)) / 2) + 0))) (q_Iv_A (i := 13) (q_Iv_A (i := 10) hI (q_hf_up ((hI).1 10) (q_s10 (q_rg_le (L := 0) (U := 65535) (q_rg_rem (c := 65536) (U := 65535) g980 (by decide) rfl (by decide) (by decide)) (by decide) (by decide))))) (q_hf_up ((hI).1 13) (q_s13 (q_rg_le (L := 0) (U := 32767) (q_rg_add (L := 0) (U := 16383) (q_rg_div (c := 2) (U := 16383) (q_r13 hI _) (by decide) rfl (by decide) (by decide)) (q_rg_lit (n := 0) (x := 0) rfl) (by decide) (by decide) (by decide) (by decide)) (by decide) (by decide))))) (a1) ((32 : Int32) + (4 * a1)) (q_rg_le (L := 0) (U := 2) ra1 (by decide) (by decide)) (q_rg_le (L := 32) (U := 40) (q_rg_add (L := 32) (U := 40) (q_rg_lit (n := 32) (x := 32) rfl) (q_rg_mul (L := 0) (U := 8) (q_rg_lit (n := 4) (x := 4) rfl) ra1 (by decide) (by decide) (by decide) (by decide) (by decide) (by decide)) (by decide) (by decide) (by decide) (by decide)) (by decide) (by decide))
    | false =>
      refine q_E_F ?_
      exact dzj_M231_64_93 c d w (q_sA (q_sA s 10 (upd (s.1 10) (a1.toNatClampNeg) (x1 - x1 / 65536 * 65536))) 13 (upd (s.1 13) (a1.toNatClampNeg) ((((s.1 13) (a1.toNatClampNeg)) / 2) + 16384))) (q_Iv_A (i := 13) (q_Iv_A (i := 10) hI (q_hf_up ((hI).1 10) (q_s10 (q_rg_le (L := 0) (U := 65535) (q_rg_rem (c := 65536) (U := 65535) g980 (by decide) rfl (by decide) (by decide)) (by decide) (by decide))))) (q_hf_up ((hI).1 13) (q_s13 (q_rg_le (L := 0) (U := 32767) (q_rg_add (L := 16384) (U := 32767) (q_rg_div (c := 2) (U := 16383) (q_r13 hI _) (by decide) rfl (by decide) (by decide)) (q_rg_lit (n := 16384) (x := 16384) rfl) (by decide) (by decide) (by decide) (by decide)) (by decide) (by decide))))) (a1) ((32 : Int32) + (4 * a1)) (q_rg_le (L := 0) (U := 2) ra1 (by decide) (by decide)) (q_rg_le (L := 32) (U := 40) (q_rg_add (L := 32) (U := 40) (q_rg_lit (n := 32) (x := 32) rfl) (q_rg_mul (L := 0) (U := 8) (q_rg_lit (n := 4) (x := 4) rfl) ra1 (by decide) (by decide) (by decide) (by decide) (by decide) (by decide)) (by decide) (by decide) (by decide) (by decide)) (by decide) (by decide))
  | false =>
    have g982 := (q_rg_ltF2 (l2 := 0) (u := 65535) h979 (q_rg_lit (n := 65535) (x := 65535) rfl) j978)
    refine q_E_F ?_
    exact dzj_M231_64_93 c d w (q_sA s 10 (upd (s.1 10) (a1.toNatClampNeg) (x1 - x1 / 65536 * 65536))) (q_Iv_A (i := 10) hI (q_hf_up ((hI).1 10) (q_s10 (q_rg_le (L := 0) (U := 65535) (q_rg_rem2 (c := 65536) g982 (by decide) rfl (by decide)) (by decide) (by decide))))) (a1) ((32 : Int32) + (4 * a1)) (q_rg_le (L := 0) (U := 2) ra1 (by decide) (by decide)) (q_rg_le (L := 32) (U := 40) (q_rg_add (L := 32) (U := 40) (q_rg_lit (n := 32) (x := 32) rfl) (q_rg_mul (L := 0) (U := 8) (q_rg_lit (n := 4) (x := 4) rfl) ra1 (by decide) (by decide) (by decide) (by decide) (by decide) (by decide)) (by decide) (by decide) (by decide) (by decide)) (by decide) (by decide))
set_option maxHeartbeats 4000000 in
theorem dzj_M232_64 (c d w : Int) (s : q_S) (hI : q_Iv c d w s) (a1 : Int32) (ra1 : q_rgz 0 2 a1) : q_Ex (dz_M232_64 s a1) (fun _ => True) := by
  unfold dz_M232_64
  refine q_E_A (q_in_rg (q_rg_add (L := 34) (U := 42) (q_rg_lit (n := 34) (x := 34) rfl) (q_rg_mul (L := 0) (U := 8) (q_rg_lit (n := 4) (x := 4) rfl) ra1 (by decide) (by decide) (by decide) (by decide) (by decide) (by decide)) (by decide) (by decide) (by decide) (by decide)) (by decide) (by decide)) ?_
  have j1017 : q_rgz 0 3 ((((s.1 4) (((34 : Int32) + (4 * a1)).toNatClampNeg)) / 2) - (((s.1 4) (((34 : Int32) + (4 * a1)).toNatClampNeg)) / 2) / 4 * 4) := (q_rg_rem (c := 4) (U := 3) (q_rg_div (c := 2) (U := 127) (q_rdv (i := 4) (a := 34) (n := 9) (L := 0) (U := 255) hI (q_rg_le (q_rg_add (L := 34) (U := 42) (q_rg_lit (n := 34) (x := 34) rfl) (q_rg_mul (L := 0) (U := 8) (q_rg_lit (n := 4) (x := 4) rfl) ra1 (by decide) (by decide) (by decide) (by decide) (by decide) (by decide)) (by decide) (by decide) (by decide) (by decide)) (by decide) (by decide)) rfl (by decide)) (by decide) rfl (by decide) (by decide)) (by decide) rfl (by decide) (by decide))
  refine q_E_L ?_
  generalize ((((s.1 4) (((34 : Int32) + (4 * a1)).toNatClampNeg)) / 2) - (((s.1 4) (((34 : Int32) + (4 * a1)).toNatClampNeg)) / 2) / 4 * 4) = x1 at j1017 ⊢
  cases h1018 : decide (x1 = 0) with
  | true =>
    have g1019 := q_rg_eqT h1018 (q_rg_lit (n := 0) (x := 0) rfl)
    refine q_E_T ?_
    refine q_E_A (q_in_rg ra1 (by decide) (by decide)) ?_
    refine q_E_L ?_
    generalize p1020 : dz_M205 s ((s.1 4) (((34 : Int32) + (4 * a1)).toNatClampNeg)) 3 = r2
    cases r2 with
    | true =>
      refine q_E_T ?_
      refine q_E_A (q_in_rg (q_rg_rem (c := 3) (U := 2) (q_rg_add (L := 2) (U := 4) ra1 (q_rg_lit (n := 2) (x := 2) rfl) (by decide) (by decide) (by decide) (by decide)) (by decide) rfl (by decide) (by decide)) (by decide) (by decide)) ?_
      cases h1021 : decide ((s.1 10) (((a1 + 2) - (a1 + 2) / 3 * 3).toNatClampNeg) < 32768) with
      | true =>
        have g1022 := (q_rg_ltT1 (l := 0) (U := 32767) h1021 (q_r10 hI _) (q_rg_lit (n := 32768) (x := 32768) rfl) (by decide))
        refine q_E_T ?_
        exact q_E_x trivial
      | false =>
        have g1023 := (q_rg_ltF1 (l2 := 32768) (u := 65535) h1021 (q_r10 hI _) (q_rg_lit (n := 32768) (x := 32768) rfl))
        refine q_E_F ?_
        exact q_E_x trivial
    | false =>
      refine q_E_F ?_
      exact q_E_x trivial
  | false =>
    have g1024 := (q_rg_neL (l := 0) (u := 3) (n := 0) (L := 1) h1018 j1017 rfl (by decide) (by decide))
    refine q_E_F ?_
    cases h1025 : decide (x1 = 1) with
    | true =>
      have g1026 := q_rg_eqT h1025 (q_rg_lit (n := 1) (x := 1) rfl)
      refine q_E_T ?_
      refine q_E_A (q_in_rg ra1 (by decide) (by decide)) ?_
      cases h1027 : decide ((s.1 10) (a1.toNatClampNeg) < 32768) with
      | true =>
        have g1028 := (q_rg_ltT1 (l := 0) (U := 32767) h1027 (q_r10 hI _) (q_rg_lit (n := 32768) (x := 32768) rfl) (by decide))
        refine q_E_T ?_
        refine q_E_L ?_
        generalize p1029 : dz_M205 s ((s.1 4) (((34 : Int32) + (4 * a1)).toNatClampNeg)) 3 = r3
        cases r3 with
        | true =>
          refine q_E_T ?_
          refine q_E_A (q_in_rg (q_rg_rem (c := 3) (U := 2) (q_rg_add (L := 2) (U := 4) ra1 (q_rg_lit (n := 2) (x := 2) rfl) (by decide) (by decide) (by decide) (by decide)) (by decide) rfl (by decide) (by decide)) (by decide) (by decide)) ?_
          cases h1030 : decide ((s.1 10) (((a1 + 2) - (a1 + 2) / 3 * 3).toNatClampNeg) < 32768) with
          | true =>
            have g1031 := (q_rg_ltT1 (l := 0) (U := 32767) h1030 (q_r10 hI _) (q_rg_lit (n := 32768) (x := 32768) rfl) (by decide))
            refine q_E_T ?_
            exact q_E_x trivial
          | false =>
            have g1032 := (q_rg_ltF1 (l2 := 32768) (u := 65535) h1030 (q_r10 hI _) (q_rg_lit (n := 32768) (x := 32768) rfl))
            refine q_E_F ?_
            exact q_E_x trivial
        | false =>
          refine q_E_F ?_
          exact q_E_x trivial
      | false =>
        have g1033 := (q_rg_ltF1 (l2 := 32768) (u := 65535) h1027 (q_r10 hI _) (q_rg_lit (n := 32768) (x := 32768) rfl))
        refine q_E_F ?_
        refine q_E_L ?_
        generalize p1034 : dz_M205 s ((s.1 4) (((34 : Int32) + (4 * a1)).toNatClampNeg)) 3 = r4
        cases r4 with
        | true =>
          refine q_E_T ?_
          refine q_E_A (q_in_rg (q_rg_rem (c := 3) (U := 2) (q_rg_add (L := 2) (U := 4) ra1 (q_rg_lit (n := 2) (x := 2) rfl) (by decide) (by decide) (by decide) (by decide)) (by decide) rfl (by decide) (by decide)) (by decide) (by decide)) ?_
          cases h1035 : decide ((s.1 10) (((a1 + 2) - (a1 + 2) / 3 * 3).toNatClampNeg) < 32768) with
          | true =>
            have g1036 := (q_rg_ltT1 (l := 0) (U := 32767) h1035 (q_r10 hI _) (q_rg_lit (n := 32768) (x := 32768) rfl) (by decide))
            refine q_E_T ?_
            exact q_E_x trivial
          | false =>
            have g1037 := (q_rg_ltF1 (l2 := 32768) (u := 65535) h1035 (q_r10 hI _) (q_rg_lit (n := 32768) (x := 32768) rfl))
            refine q_E_F ?_
            exact q_E_x trivial
        | false =>
          refine q_E_F ?_
          exact q_E_x trivial
    | false =>
      have g1038 := (q_rg_neL (l := 1) (u := 3) (n := 1) (L := 2) h1025 g1024 rfl (by decide) (by decide))
      refine q_E_F ?_
      cases h1039 : decide (x1 = 2) with
      | true =>
        have g1040 := q_rg_eqT h1039 (q_rg_lit (n := 2) (x := 2) rfl)
        refine q_E_T ?_
        refine q_E_A (q_in_rg ra1 (by decide) (by decide)) ?_
        have j1041 : q_rgz 0 15 (((s.1 13) (a1.toNatClampNeg)) - ((s.1 13) (a1.toNatClampNeg)) / 16 * 16) := (q_rg_rem (c := 16) (U := 15) (q_r13 hI _) (by decide) rfl (by decide) (by decide))
        refine q_E_L ?_
        generalize (((s.1 13) (a1.toNatClampNeg)) - ((s.1 13) (a1.toNatClampNeg)) / 16 * 16) = x5 at j1041 ⊢
        refine q_E_L ?_
        generalize p1042 : dz_M205 s ((s.1 4) (((34 : Int32) + (4 * a1)).toNatClampNeg)) 3 = r6
        cases r6 with
        | true =>
          refine q_E_T ?_
          refine q_E_A (q_in_rg (q_rg_rem (c := 3) (U := 2) (q_rg_add (L := 2) (U := 4) ra1 (q_rg_lit (n := 2) (x := 2) rfl) (by decide) (by decide) (by decide) (by decide)) (by decide) rfl (by decide) (by decide)) (by decide) (by decide)) ?_
          cases h1043 : decide ((s.1 10) (((a1 + 2) - (a1 + 2) / 3 * 3).toNatClampNeg) < 32768) with
          | true =>
            have g1044 := (q_rg_ltT1 (l := 0) (U := 32767) h1043 (q_r10 hI _) (q_rg_lit (n := 32768) (x := 32768) rfl) (by decide))
            refine q_E_T ?_
            exact q_E_x trivial
          | false =>
            have g1045 := (q_rg_ltF1 (l2 := 32768) (u := 65535) h1043 (q_r10 hI _) (q_rg_lit (n := 32768) (x := 32768) rfl))
            refine q_E_F ?_
            exact q_E_x trivial
        | false =>
          refine q_E_F ?_
          exact q_E_x trivial
      | false =>
        have g1046 := (q_rg_neL (l := 2) (u := 3) (n := 2) (L := 3) h1039 g1038 rfl (by decide) (by decide))
        refine q_E_F ?_
        refine q_E_L ?_
        generalize p1047 : dz_M205 s ((s.1 4) (((34 : Int32) + (4 * a1)).toNatClampNeg)) 3 = r7
        cases r7 with
        | true =>
          refine q_E_T ?_
          refine q_E_A (q_in_rg (q_rg_rem (c := 3) (U := 2) (q_rg_add (L := 2) (U := 4) ra1 (q_rg_lit (n := 2) (x := 2) rfl) (by decide) (by decide) (by decide) (by decide)) (by decide) rfl (by decide) (by decide)) (by decide) (by decide)) ?_
          cases h1048 : decide ((s.1 10) (((a1 + 2) - (a1 + 2) / 3 * 3).toNatClampNeg) < 32768) with
          | true =>
            have g1049 := (q_rg_ltT1 (l := 0) (U := 32767) h1048 (q_r10 hI _) (q_rg_lit (n := 32768) (x := 32768) rfl) (by decide))
            refine q_E_T ?_
            exact q_E_x trivial
          | false =>
            have g1050 := (q_rg_ltF1 (l2 := 32768) (u := 65535) h1048 (q_r10 hI _) (q_rg_lit (n := 32768) (x := 32768) rfl))
            refine q_E_F ?_
            exact q_E_x trivial
        | false =>
          refine q_E_F ?_
          exact q_E_x trivial
set_option maxHeartbeats 4000000 in
theorem dzjb_M233_64_22 (c d w : Int) (k22 : q_S → Int32 → Int32 → Option (q_S)) (M22 : Int) (tk22 : ∀ (s : q_S), q_Iv c d w s → ∀ (v1 : Int32) (v2 : Int32), q_rgz 0 3 v2 → ((3 - v2.toInt).toNat : Int) ≤ M22 → q_Ex (k22 s v1 v2) (q_Iv c d w)) (s : q_S) (hI : q_Iv c d w s) (v1 : Int32) (v2 : Int32) (rv2 : q_rgz 0 3 v2) (m22 : ((3 - v2.toInt).toNat : Int) ≤ M22 + 1) : q_Ex (cond (decide (v2 < 3)) ((dz_M232_64 s v2).bind fun r2 => cond (q_in v2 3) (k22 s (v1 + (r2 * ((s.1 11) (v2.toNatClampNeg)))) (v2 + 1)) none) (q_let (dz_M206_64 s) fun r3 => cond (q_in r3 40) (some (q_sA s 6 (upd (s.1 6) (r3.toNatClampNeg) (v1 / 15)))) none)) (q_Iv c d w) := by
  cases h1103 : decide (v2 < 3) with
  | true =>
    have g1104 := (q_rg_ltT1 (l := 0) (U := 2) h1103 rv2 (q_rg_lit (n := 3) (x := 3) rfl) (by decide))
    refine q_E_T ?_
    obtain ⟨r2, e1106, j1105⟩ := dzj_M232_64 c d w (s) hI (v2) (q_rg_le (L := 0) (U := 2) g1104 (by decide) (by decide))
    rw [e1106]
    refine q_E_B ?_
    refine q_E_A (q_in_rg g1104 (by decide) (by decide)) ?_
    exact tk22 (s) hI (v1 + (r2 * ((s.1 11) (v2.toNatClampNeg)))) (v2 + 1) (q_rg_le (L := 0) (U := 3) (q_rg_add (L := 1) (U := 3) g1104 (q_rg_lit (n := 1) (x := 1) rfl) (by decide) (by decide) (by decide) (by decide)) (by decide) (by decide)) (q_meu g1104 m22 (by decide) (by decide))
  | false =>
    have g1107 := (q_rg_ltF1 (l2 := 3) (u := 3) h1103 rv2 (q_rg_lit (n := 3) (x := 3) rfl))
    refine q_E_F ?_
    have j1108 := dzj_M206_64 c d w (s) hI
    refine q_E_L ?_
    generalize dz_M206_64 s = r3 at j1108 ⊢
    refine q_E_A (q_in_rg j1108 (by decide) (by decide)) ?_
    exact q_E_x (q_Iv_A (i := 6) hI (q_hf_up ((hI).1 6) (q_s6 (q_rg_full _))))
theorem dzj_M233_64_22 (c d w : Int) : ∀ (m : Nat) (s : q_S) (hI : q_Iv c d w s) (v1 : Int32) (v2 : Int32) (rv2 : q_rgz 0 3 v2), ((3 - v2.toInt).toNat : Int) ≤ (m : Int) → q_Ex (dz_M233_64_22 (m + 1) s v1 v2) (q_Iv c d w) := by
  intro m
  induction m with
  | zero => intro s hI v1 v2 rv2 hm; rw [dzs_M233_64_22]; exact dzjb_M233_64_22 c d w (dz_M233_64_22 0) (-1) (fun s hI v1 v2 rv2 hm => absurd hm (by omega)) s hI v1 v2 rv2 (by omega)
  | succ m ih => intro s hI v1 v2 rv2 hm; rw [dzs_M233_64_22]; exact dzjb_M233_64_22 c d w (dz_M233_64_22 (m + 1)) (m : Int) (fun s hI v1 v2 rv2 hm => ih s hI v1 v2 rv2 hm) s hI v1 v2 rv2 (by omega)
set_option maxHeartbeats 4000000 in
theorem dzjb_M233_64_2 (c d w : Int) (k2 : q_S → Int32 → Option (q_S)) (M2 : Int) (tk2 : ∀ (s : q_S), q_Iv c d w s → ∀ (v1 : Int32), q_rgz 0 3 v1 → ((3 - v1.toInt).toNat : Int) ≤ M2 → q_Ex (k2 s v1) (q_Iv c d w)) (s : q_S) (hI : q_Iv c d w s) (v1 : Int32) (rv1 : q_rgz 0 3 v1) (m2 : ((3 - v1.toInt).toNat : Int) ≤ M2 + 1) : q_Ex (cond (decide (v1 < 3)) ((dz_M231_64 s v1).bind fun r1 => k2 r1 (v1 + 1)) (dz_M233_64_22 5000 s 0 0)) (q_Iv c d w) := by
  cases h1109 : decide (v1 < 3) with
  | true =>
    have g1110 := (q_rg_ltT1 (l := 0) (U := 2) h1109 rv1 (q_rg_lit (n := 3) (x := 3) rfl) (by decide))
    refine q_E_T ?_
    obtain ⟨r1, e1112, j1111⟩ := dzj_M231_64 c d w (s) hI (v1) (q_rg_le (L := 0) (U := 2) g1110 (by decide) (by decide))
    rw [e1112]
    refine q_E_B ?_
    exact tk2 (r1) j1111 (v1 + 1) (q_rg_le (L := 0) (U := 3) (q_rg_add (L := 1) (U := 3) g1110 (q_rg_lit (n := 1) (x := 1) rfl) (by decide) (by decide) (by decide) (by decide)) (by decide) (by decide)) (q_meu g1110 m2 (by decide) (by decide))
  | false =>
    have g1113 := (q_rg_ltF1 (l2 := 3) (u := 3) h1109 rv1 (q_rg_lit (n := 3) (x := 3) rfl))
    refine q_E_F ?_
    exact dzj_M233_64_22 c d w 4999 (s) hI (0) (0) (q_rg_le (L := 0) (U := 3) (q_rg_lit (n := 0) (x := 0) rfl) (by decide) (by decide)) (q_meu0 (q_rg_lit (n := 0) (x := 0) rfl) (by decide) (by decide))
theorem dzj_M233_64_2 (c d w : Int) : ∀ (m : Nat) (s : q_S) (hI : q_Iv c d w s) (v1 : Int32) (rv1 : q_rgz 0 3 v1), ((3 - v1.toInt).toNat : Int) ≤ (m : Int) → q_Ex (dz_M233_64_2 (m + 1) s v1) (q_Iv c d w) := by
  intro m
  induction m with
  | zero => intro s hI v1 rv1 hm; rw [dzs_M233_64_2]; exact dzjb_M233_64_2 c d w (dz_M233_64_2 0) (-1) (fun s hI v1 rv1 hm => absurd hm (by omega)) s hI v1 rv1 (by omega)
  | succ m ih => intro s hI v1 rv1 hm; rw [dzs_M233_64_2]; exact dzjb_M233_64_2 c d w (dz_M233_64_2 (m + 1)) (m : Int) (fun s hI v1 rv1 hm => ih s hI v1 rv1 hm) s hI v1 rv1 (by omega)
set_option maxHeartbeats 4000000 in
theorem dzj_M233_64 (c d w : Int) (s : q_S) (hI : q_Iv c d w s) : q_Ex (dz_M233_64 s) (q_Iv c d w) := by
  unfold dz_M233_64
  exact dzj_M233_64_2 c d w 4999 (s) hI (0) (q_rg_le (L := 0) (U := 3) (q_rg_lit (n := 0) (x := 0) rfl) (by decide) (by decide)) (q_meu0 (q_rg_lit (n := 0) (x := 0) rfl) (by decide) (by decide))
set_option maxHeartbeats 4000000 in
theorem dzj_M246_64 (c d w : Int) (s : q_S) (hI : q_Iv c d w s) (a1 : Int32) : q_Ex (dz_M246_64 s a1) (fun (x : q_S × Int32) => q_Iv c d w x.1 ∧ q_rgz 0 255 x.2) := by
  unfold dz_M246_64
  have j1117 := dzj_M212 c d w (s) hI (a1)
  refine q_E_L ?_
  generalize dz_M212 s a1 = r3 at j1117 ⊢
  obtain ⟨r4, e1119, j1118⟩ := dzj_M213_64 c d w (s) hI (r3) (q_rg_le (L := 0) (U := 4095) j1117 (by decide) (by decide))
  rw [e1119]
  refine q_E_B ?_
  exact q_E_x ⟨j1118.1, q_rg_le j1118.2 (by decide) (by decide)⟩
theorem dzj_M243 (c d w : Int) (s : q_S) (hI : q_Iv c d w s) (a0 : Int32) : (fun _ => True) (dz_M243 s a0) := trivial
set_option maxHeartbeats 4000000 in
theorem dzj_M252_64 (c d w : Int) (s : q_S) (hI : q_Iv c d w s) (a1 : Int32) : q_Ex (dz_M252_64 s a1) (fun (x : q_S × Int32) => q_Iv c d w x.1 ∧ q_rgz 0 4095 x.2) := by
  unfold dz_M252_64
  obtain ⟨r2, e1138, j1137⟩ := dzj_M246_64 c d w (s) hI (a1 + 1)
  rw [e1138]
  refine q_E_B ?_
  cases h1139 : decide (127 < r2.2) with
  | true =>
    have g1140 := (q_rg_ltT2 (L := 128) (u2 := 255) h1139 (q_rg_lit (n := 127) (x := 127) rfl) j1137.2 (by decide))
    refine q_E_T ?_
    have j1141 := dzj_M212 c d w (r2.1) j1137.1 ((a1 + 2) + (r2.2 - 256))
    refine q_E_L ?_
    generalize dz_M212 r2.1 ((a1 + 2) + (r2.2 - 256)) = r3 at j1141 ⊢
    exact q_E_x ⟨j1137.1, q_rg_le j1141 (by decide) (by decide)⟩
  | false =>
    have g1142 := (q_rg_ltF2 (l2 := 0) (u := 127) h1139 (q_rg_lit (n := 127) (x := 127) rfl) j1137.2)
    refine q_E_F ?_
    have j1143 := dzj_M212 c d w (r2.1) j1137.1 ((a1 + 2) + r2.2)
    refine q_E_L ?_
    generalize dz_M212 r2.1 ((a1 + 2) + r2.2) = r4 at j1143 ⊢
    exact q_E_x ⟨j1137.1, q_rg_le j1143 (by decide) (by decide)⟩
set_option maxHeartbeats 4000000 in
theorem dzj_M247_64 (c d w : Int) (s : q_S) (hI : q_Iv c d w s) (a1 : Int32) : q_Ex (dz_M247_64 s a1) (fun (x : q_S × Int32) => q_Iv c d w x.1 ∧ q_rgz 0 4095 x.2) := by
  unfold dz_M247_64
  obtain ⟨r2, e1150, j1149⟩ := dzj_M246_64 c d w (s) hI (a1)
  rw [e1150]
  refine q_E_B ?_
  obtain ⟨r3, e1152, j1151⟩ := dzj_M246_64 c d w (r2.1) j1149.1 (a1 + 1)
  rw [e1152]
  refine q_E_B ?_
  have j1153 := dzj_M212 c d w (r3.1) j1151.1 (r2.2 + (256 * r3.2))
  refine q_E_L ?_
  generalize dz_M212 r3.1 (r2.2 + (256 * r3.2)) = r4 at j1153 ⊢
  exact q_E_x ⟨j1151.1, q_rg_le j1153 (by decide) (by decide)⟩
set_option maxHeartbeats 4000000 in
theorem dzj_M248_64 (c d w : Int) (s : q_S) (hI : q_Iv c d w s) (a1 : Int32) (a2 : Int32) : q_Ex (dz_M248_64 s a1 a2) (fun (x : q_S × Int32) => q_Iv c d w x.1 ∧ q_rgz 0 4095 x.2) := by
  unfold dz_M248_64
  cases h1166 : decide (a1 < 6) with
  | true =>
    have g1167 := (q_rg_ltT1 (l := -2147483648) (U := 5) h1166 (q_rg_full _) (q_rg_lit (n := 6) (x := 6) rfl) (by decide))
    refine q_E_T ?_
    obtain ⟨r2, e1169, j1168⟩ := dzj_M247_64 c d w (s) hI (a2 + 1)
    rw [e1169]
    refine q_E_B ?_
    exact q_E_x ⟨j1168.1, q_rg_le j1168.2 (by decide) (by decide)⟩
  | false =>
    have g1170 := (q_rg_ltF1 (l2 := 6) (u := 2147483647) h1166 (q_rg_full _) (q_rg_lit (n := 6) (x := 6) rfl))
    refine q_E_F ?_
    obtain ⟨r3, e1172, j1171⟩ := dzj_M246_64 c d w (s) hI (a2 + 1)
    rw [e1172]
    refine q_E_B ?_
    obtain ⟨r4, e1174, j1173⟩ := dzj_M246_64 c d w (r3.1) j1171.1 (r3.2)
    rw [e1174]
    refine q_E_B ?_
    obtain ⟨r5, e1176, j1175⟩ := dzj_M246_64 c d w (r4.1) j1173.1 ((r3.2 + 1) - (r3.2 + 1) / 256 * 256)
    rw [e1176]
    refine q_E_B ?_
    have j1177 := dzj_M212 c d w (r5.1) j1175.1 (r4.2 + (256 * r5.2))
    refine q_E_L ?_
    generalize dz_M212 r5.1 (r4.2 + (256 * r5.2)) = r6 at j1177 ⊢
    exact q_E_x ⟨j1175.1, q_rg_le j1177 (by decide) (by decide)⟩
set_option maxHeartbeats 4000000 in
theorem dzj_M249_64 (c d w : Int) (s : q_S) (hI : q_Iv c d w s) (a1 : Int32) (a2 : Int32) : q_Ex (dz_M249_64 s a1 a2) (fun (x : q_S × Int32) => q_Iv c d w x.1 ∧ q_rgz 0 4095 x.2) := by
  unfold dz_M249_64
  cases h1209 : decide (a1 = 1) with
  | true =>
    have g1210 := q_rg_eqT h1209 (q_rg_lit (n := 1) (x := 1) rfl)
    refine q_E_T ?_
    obtain ⟨r2, e1212, j1211⟩ := dzj_M246_64 c d w (s) hI (a2 + 1)
    rw [e1212]
    refine q_E_B ?_
    exact q_E_x ⟨j1211.1, q_rg_le j1211.2 (by decide) (by decide)⟩
  | false =>
    refine q_E_F ?_
    cases h1213 : decide (a1 = 2) with
    | true =>
      have g1214 := q_rg_eqT h1213 (q_rg_lit (n := 2) (x := 2) rfl)
      refine q_E_T ?_
      obtain ⟨r3, e1216, j1215⟩ := dzj_M246_64 c d w (s) hI (a2 + 1)
      rw [e1216]
      refine q_E_B ?_
      exact q_E_x ⟨j1215.1, q_rg_le (q_rg_rem (c := 256) (U := 255) (q_rg_add (L := 0) (U := 510) j1215.2 (q_n1 j1215.1) (by decide) (by decide) (by decide) (by decide)) (by decide) rfl (by decide) (by decide)) (by decide) (by decide)⟩
    | false =>
      refine q_E_F ?_
      cases h1217 : decide (a1 = 3) with
      | true =>
        have g1218 := q_rg_eqT h1217 (q_rg_lit (n := 3) (x := 3) rfl)
        refine q_E_T ?_
        obtain ⟨r4, e1220, j1219⟩ := dzj_M247_64 c d w (s) hI (a2 + 1)
        rw [e1220]
        refine q_E_B ?_
        exact q_E_x ⟨j1219.1, q_rg_le j1219.2 (by decide) (by decide)⟩
      | false =>
        refine q_E_F ?_
        cases h1221 : decide (a1 = 4) with
        | true =>
          have g1222 := q_rg_eqT h1221 (q_rg_lit (n := 4) (x := 4) rfl)
          refine q_E_T ?_
          obtain ⟨r5, e1224, j1223⟩ := dzj_M248_64 c d w (s) hI (a1) (a2)
          rw [e1224]
          refine q_E_B ?_
          have j1225 := dzj_M212 c d w (r5.1) j1223.1 (r5.2 + ((r5.1.1 14) 1))
          refine q_E_L ?_
          generalize dz_M212 r5.1 (r5.2 + ((r5.1.1 14) 1)) = r6 at j1225 ⊢
          exact q_E_x ⟨j1223.1, q_rg_le j1225 (by decide) (by decide)⟩
        | false =>
          refine q_E_F ?_
          cases h1226 : decide (a1 < 7) with
          | true =>
            have g1227 := (q_rg_ltT1 (l := -2147483648) (U := 6) h1226 (q_rg_full _) (q_rg_lit (n := 7) (x := 7) rfl) (by decide))
            refine q_E_T ?_
            obtain ⟨r7, e1229, j1228⟩ := dzj_M248_64 c d w (s) hI (a1) (a2)
            rw [e1229]
            refine q_E_B ?_
            have j1230 := dzj_M212 c d w (r7.1) j1228.1 (r7.2 + ((r7.1.1 14) 2))
            refine q_E_L ?_
            generalize dz_M212 r7.1 (r7.2 + ((r7.1.1 14) 2)) = r8 at j1230 ⊢
            exact q_E_x ⟨j1228.1, q_rg_le j1230 (by decide) (by decide)⟩
          | false =>
            have g1231 := (q_rg_ltF1 (l2 := 7) (u := 2147483647) h1226 (q_rg_full _) (q_rg_lit (n := 7) (x := 7) rfl))
            refine q_E_F ?_
            obtain ⟨r9, e1233, j1232⟩ := dzj_M246_64 c d w (s) hI (a2 + 1)
            rw [e1233]
            refine q_E_B ?_
            have j1234 : q_rgz 0 255 ((r9.2 + ((r9.1.1 14) 1)) - (r9.2 + ((r9.1.1 14) 1)) / 256 * 256) := (q_rg_rem (c := 256) (U := 255) (q_rg_add (L := 0) (U := 510) j1232.2 (q_n1 j1232.1) (by decide) (by decide) (by decide) (by decide)) (by decide) rfl (by decide) (by decide))
            refine q_E_L ?_
            generalize ((r9.2 + ((r9.1.1 14) 1)) - (r9.2 + ((r9.1.1 14) 1)) / 256 * 256) = x10 at j1234 ⊢
            obtain ⟨r11, e1236, j1235⟩ := dzj_M246_64 c d w (r9.1) j1232.1 (x10)
            rw [e1236]
            refine q_E_B ?_
            obtain ⟨r12, e1238, j1237⟩ := dzj_M246_64 c d w (r11.1) j1235.1 ((x10 + 1) - (x10 + 1) / 256 * 256)
            rw [e1238]
            refine q_E_B ?_
            have j1239 := dzj_M212 c d w (r12.1) j1237.1 (r11.2 + (256 * r12.2))
            refine q_E_L ?_
            generalize dz_M212 r12.1 (r11.2 + (256 * r12.2)) = r13 at j1239 ⊢
            exact q_E_x ⟨j1237.1, q_rg_le j1239 (by decide) (by decide)⟩
set_option maxHeartbeats 4000000 in
theorem dzj_M250_64_28 (c d w : Int) (s : q_S) (hI : q_Iv c d w s) (v1 : Int32) (v2 : Int32) (v3 : Int32) (rv1 : q_rgz 14 19 v1) : q_Ex (dz_M250_64_28 s v1 v2 v3) (fun (x : q_S × Int32) => q_Iv c d w x.1) := by
  unfold dz_M250_64_28
  cases h1321 : decide (v2 = 1) with
  | true =>
    have g1322 := q_rg_eqT h1321 (q_rg_lit (n := 1) (x := 1) rfl)
    refine q_E_T ?_
    refine q_E_L ?_
    generalize p1323 : dz_M201 s v2 4 6 = r5
    cases r5 with
    | true =>
      have g1324 : q_rgz 4 1 (v2) := ⟨(q_p202 p1323 (q_rg_lit (n := 4) (x := 4) rfl) (q_rg_lit (n := 6) (x := 6) rfl)).1, g1322.2⟩
      exact (q_rg_no g1324 (by decide)).elim
    | false =>
      refine q_E_F ?_
      exact q_E_x hI
  | false =>
    refine q_E_F ?_
    cases h1325 : decide (v2 < 6) with
    | true =>
      have g1326 := (q_rg_ltT1 (l := -2147483648) (U := 5) h1325 (q_rg_full _) (q_rg_lit (n := 6) (x := 6) rfl) (by decide))
      refine q_E_T ?_
      refine q_E_L ?_
      generalize p1327 : dz_M201 s v2 4 6 = r9
      cases r9 with
      | true =>
        have g1328 : q_rgz 4 5 (v2) := ⟨(q_p202 p1327 (q_rg_lit (n := 4) (x := 4) rfl) (q_rg_lit (n := 6) (x := 6) rfl)).1, g1326.2⟩
        refine q_E_T ?_
        obtain ⟨r10, e1330, j1329⟩ := dzj_M248_64 c d w (s) hI (v2) (v3)
        rw [e1330]
        refine q_E_B ?_
        obtain ⟨r11, e1332, j1331⟩ := dzj_M249_64 c d w (r10.1) j1329.1 (v2) (v3)
        rw [e1332]
        refine q_E_B ?_
        cases h1333 : decide (r10.2 / 256 = r11.2 / 256) with
        | true =>
          refine q_E_T ?_
          refine q_E_L ?_
          generalize p1334 : dz_M244 r11.1 v1 = r12
          cases r12 with
          | true =>
            refine q_E_T ?_
            exact q_E_x j1331.1
          | false =>
            refine q_E_F ?_
            exact q_E_x j1331.1
        | false =>
          refine q_E_F ?_
          exact q_E_x j1331.1
      | false =>
        refine q_E_F ?_
        exact q_E_x hI
    | false =>
      have g1335 := (q_rg_ltF1 (l2 := 6) (u := 2147483647) h1325 (q_rg_full _) (q_rg_lit (n := 6) (x := 6) rfl))
      refine q_E_F ?_
      refine q_E_L ?_
      generalize p1336 : dz_M201 s v2 4 6 = r13
      cases r13 with
      | true =>
        have g1337 : q_rgz 6 6 (v2) := ⟨g1335.1, (q_p202 p1336 (q_rg_lit (n := 4) (x := 4) rfl) (q_rg_lit (n := 6) (x := 6) rfl)).2⟩
        refine q_E_T ?_
        obtain ⟨r14, e1339, j1338⟩ := dzj_M248_64 c d w (s) hI (v2) (v3)
        rw [e1339]
        refine q_E_B ?_
        obtain ⟨r15, e1341, j1340⟩ := dzj_M249_64 c d w (r14.1) j1338.1 (v2) (v3)
        rw [e1341]
        refine q_E_B ?_
        cases h1342 : decide (r14.2 / 256 = r15.2 / 256) with
        | true =>
          refine q_E_T ?_
          refine q_E_L ?_
          generalize p1343 : dz_M244 r15.1 v1 = r16
          cases r16 with
          | true =>
            refine q_E_T ?_
            exact q_E_x j1340.1
          | false =>
            refine q_E_F ?_
            exact q_E_x j1340.1
        | false =>
          refine q_E_F ?_
          exact q_E_x j1340.1
      | false =>
        refine q_E_F ?_
        exact q_E_x hI
set_option maxHeartbeats 4000000 in
theorem dzj_M250_64 (c d w : Int) (s : q_S) (hI : q_Iv c d w s) (a1 : Int32) (a2 : Int32) (a3 : Int32) : q_Ex (dz_M250_64 s a1 a2 a3) (fun (x : q_S × Int32) => q_Iv c d w x.1) := by
  unfold dz_M250_64
  cases h1344 : decide (a2 = 0) with
  | true =>
    have g1345 := q_rg_eqT h1344 (q_rg_lit (n := 0) (x := 0) rfl)
    refine q_E_T ?_
    exact q_E_x hI
  | false =>
    refine q_E_F ?_
    refine q_E_L ?_
    generalize p1346 : dz_M201 s a1 14 15 = r4
    cases r4 with
    | true =>
      have g1347 : q_rgz 14 15 (a1) := ⟨(q_p202 p1346 (q_rg_lit (n := 14) (x := 14) rfl) (q_rg_lit (n := 15) (x := 15) rfl)).1, (q_p202 p1346 (q_rg_lit (n := 14) (x := 14) rfl) (q_rg_lit (n := 15) (x := 15) rfl)).2⟩
      refine q_E_T ?_
      exact dzj_M250_64_28 c d w (s) hI (a1) (a2) (a3) (q_rg_le (L := 14) (U := 19) g1347 (by decide) (by decide))
    | false =>
      refine q_E_F ?_
      refine q_E_L ?_
      generalize p1348 : dz_M201 s a1 18 19 = r17
      cases r17 with
      | true =>
        have g1349 : q_rgz 18 19 (a1) := ⟨(q_p202 p1348 (q_rg_lit (n := 18) (x := 18) rfl) (q_rg_lit (n := 19) (x := 19) rfl)).1, (q_p202 p1348 (q_rg_lit (n := 18) (x := 18) rfl) (q_rg_lit (n := 19) (x := 19) rfl)).2⟩
        refine q_E_T ?_
        exact dzj_M250_64_28 c d w (s) hI (a1) (a2) (a3) (q_rg_le (L := 14) (U := 19) g1349 (by decide) (by decide))
      | false =>
        refine q_E_F ?_
        cases h1350 : decide (a2 = 1) with
        | true =>
          have g1351 := q_rg_eqT h1350 (q_rg_lit (n := 1) (x := 1) rfl)
          refine q_E_T ?_
          refine q_E_L ?_
          generalize p1352 : dz_M201 s a2 4 6 = r18
          cases r18 with
          | true =>
            have g1353 : q_rgz 4 1 (a2) := ⟨(q_p202 p1352 (q_rg_lit (n := 4) (x := 4) rfl) (q_rg_lit (n := 6) (x := 6) rfl)).1, g1351.2⟩
            exact (q_rg_no g1353 (by decide)).elim
          | false =>
            refine q_E_F ?_
            exact q_E_x hI
        | false =>
          refine q_E_F ?_
          cases h1354 : decide (a2 < 6) with
          | true =>
            have g1355 := (q_rg_ltT1 (l := -2147483648) (U := 5) h1354 (q_rg_full _) (q_rg_lit (n := 6) (x := 6) rfl) (by decide))
            refine q_E_T ?_
            refine q_E_L ?_
            generalize p1356 : dz_M201 s a2 4 6 = r22
            cases r22 with
            | true =>
              have g1357 : q_rgz 4 5 (a2) := ⟨(q_p202 p1356 (q_rg_lit (n := 4) (x := 4) rfl) (q_rg_lit (n := 6) (x := 6) rfl)).1, g1355.2⟩
              refine q_E_T ?_
              obtain ⟨r23, e1359, j1358⟩ := dzj_M248_64 c d w (s) hI (a2) (a3)
              rw [e1359]
              refine q_E_B ?_
              obtain ⟨r24, e1361, j1360⟩ := dzj_M249_64 c d w (r23.1) j1358.1 (a2) (a3)
              rw [e1361]
              refine q_E_B ?_
              cases h1362 : decide (r23.2 / 256 = r24.2 / 256) with
              | true =>
                refine q_E_T ?_
                refine q_E_L ?_
                generalize p1363 : dz_M244 r24.1 a1 = r25
                cases r25 with
                | true =>
                  refine q_E_T ?_
                  exact q_E_x j1360.1
                | false =>
                  refine q_E_F ?_
                  exact q_E_x j1360.1
              | false =>
                refine q_E_F ?_
                exact q_E_x j1360.1
            | false =>
              refine q_E_F ?_
              exact q_E_x hI
          | false =>
            have g1364 := (q_rg_ltF1 (l2 := 6) (u := 2147483647) h1354 (q_rg_full _) (q_rg_lit (n := 6) (x := 6) rfl))
            refine q_E_F ?_
            refine q_E_L ?_
            generalize p1365 : dz_M201 s a2 4 6 = r26
            cases r26 with
            | true =>
              have g1366 : q_rgz 6 6 (a2) := ⟨g1364.1, (q_p202 p1365 (q_rg_lit (n := 4) (x := 4) rfl) (q_rg_lit (n := 6) (x := 6) rfl)).2⟩
              refine q_E_T ?_
              obtain ⟨r27, e1368, j1367⟩ := dzj_M248_64 c d w (s) hI (a2) (a3)
              rw [e1368]
              refine q_E_B ?_
              obtain ⟨r28, e1370, j1369⟩ := dzj_M249_64 c d w (r27.1) j1367.1 (a2) (a3)
              rw [e1370]
              refine q_E_B ?_
              cases h1371 : decide (r27.2 / 256 = r28.2 / 256) with
              | true =>
                refine q_E_T ?_
                refine q_E_L ?_
                generalize p1372 : dz_M244 r28.1 a1 = r29
                cases r29 with
                | true =>
                  refine q_E_T ?_
                  exact q_E_x j1369.1
                | false =>
                  refine q_E_F ?_
                  exact q_E_x j1369.1
              | false =>
                refine q_E_F ?_
                exact q_E_x j1369.1
            | false =>
              refine q_E_F ?_
              exact q_E_x hI
set_option maxHeartbeats 4000000 in
theorem dzj_M253_64 (c d w : Int) (s : q_S) (hI : q_Iv c d w s) (a1 : Int32) : q_Ex (dz_M253_64 s a1) (fun (x : q_S × Int32) => q_Iv c d w x.1) := by
  unfold dz_M253_64
  obtain ⟨r2, e1409, j1408⟩ := dzj_M246_64 c d w (s) hI (a1)
  rw [e1409]
  refine q_E_B ?_
  have j1410 := dzj_M243 c d w (r2.1) j1408.1 (r2.2)
  refine q_E_L ?_
  generalize dz_M243 r2.1 r2.2 = r3 at j1410 ⊢
  cases h1411 : decide (r3 < 0) with
  | true =>
    have g1412 := (q_rg_ltT1 (l := -2147483648) (U := -1) h1411 (q_rg_full _) (q_rg_lit (n := 0) (x := 0) rfl) (by decide))
    refine q_E_T ?_
    refine q_E_L ?_
    generalize p1413 : dz_M201 r2.1 r2.2 160 167 = r4
    cases r4 with
    | true =>
      have g1414 : q_rgz 160 167 (r2.2) := ⟨(q_p202 p1413 (q_rg_lit (n := 160) (x := 160) rfl) (q_rg_lit (n := 167) (x := 167) rfl)).1, (q_p202 p1413 (q_rg_lit (n := 160) (x := 160) rfl) (q_rg_lit (n := 167) (x := 167) rfl)).2⟩
      refine q_E_T ?_
      refine q_E_L ?_
      generalize p1415 : dz_M251_64 r2.1 r2.2 = r5
      cases r5 with
      | true =>
        refine q_E_T ?_
        have j1416 := dzj_M212 c d w (r2.1) j1408.1 (a1 + 2)
        refine q_E_L ?_
        generalize dz_M212 r2.1 (a1 + 2) = r6 at j1416 ⊢
        obtain ⟨r7, e1418, j1417⟩ := dzj_M252_64 c d w (r2.1) j1408.1 (a1)
        rw [e1418]
        refine q_E_B ?_
        cases h1419 : decide (r6 / 256 = r7.2 / 256) with
        | true =>
          refine q_E_T ?_
          exact q_E_x j1417.1
        | false =>
          refine q_E_F ?_
          exact q_E_x j1417.1
      | false =>
        refine q_E_F ?_
        exact q_E_x j1408.1
    | false =>
      refine q_E_F ?_
      cases h1420 : decide (r2.2 = 138) with
      | true =>
        have g1421 := q_rg_eqT h1420 (q_rg_lit (n := 138) (x := 138) rfl)
        refine q_E_T ?_
        exact q_E_x j1408.1
      | false =>
        refine q_E_F ?_
        cases h1422 : decide (r2.2 = 140) with
        | true =>
          have g1423 := q_rg_eqT h1422 (q_rg_lit (n := 140) (x := 140) rfl)
          refine q_E_T ?_
          exact q_E_x j1408.1
        | false =>
          refine q_E_F ?_
          cases h1424 : decide (r2.2 = 157) with
          | true =>
            have g1425 := q_rg_eqT h1424 (q_rg_lit (n := 157) (x := 157) rfl)
            refine q_E_T ?_
            exact q_E_x j1408.1
          | false =>
            refine q_E_F ?_
            cases h1426 : decide (r2.2 = 139) with
            | true =>
              have g1427 := q_rg_eqT h1426 (q_rg_lit (n := 139) (x := 139) rfl)
              refine q_E_T ?_
              exact q_E_x j1408.1
            | false =>
              refine q_E_F ?_
              cases h1428 : decide (r2.2 = 141) with
              | true =>
                have g1429 := q_rg_eqT h1428 (q_rg_lit (n := 141) (x := 141) rfl)
                refine q_E_T ?_
                exact q_E_x j1408.1
              | false =>
                refine q_E_F ?_
                cases h1430 : decide (r2.2 = 159) with
                | true =>
                  have g1431 := q_rg_eqT h1430 (q_rg_lit (n := 159) (x := 159) rfl)
                  refine q_E_T ?_
                  exact q_E_x j1408.1
                | false =>
                  refine q_E_F ?_
                  cases h1432 : decide (r2.2 = 155) with
                  | true =>
                    have g1433 := q_rg_eqT h1432 (q_rg_lit (n := 155) (x := 155) rfl)
                    refine q_E_T ?_
                    exact q_E_x j1408.1
                  | false =>
                    refine q_E_F ?_
                    cases h1434 : decide (r2.2 = 156) with
                    | true =>
                      have g1435 := q_rg_eqT h1434 (q_rg_lit (n := 156) (x := 156) rfl)
                      refine q_E_T ?_
                      exact q_E_x j1408.1
                    | false =>
                      refine q_E_F ?_
                      cases h1436 : decide (r2.2 = 158) with
                      | true =>
                        have g1437 := q_rg_eqT h1436 (q_rg_lit (n := 158) (x := 158) rfl)
                        refine q_E_T ?_
                        exact q_E_x j1408.1
                      | false =>
                        refine q_E_F ?_
                        cases h1438 : decide (r2.2 = 154) with
                        | true =>
                          have g1439 := q_rg_eqT h1438 (q_rg_lit (n := 154) (x := 154) rfl)
                          refine q_E_T ?_
                          exact q_E_x j1408.1
                        | false =>
                          refine q_E_F ?_
                          exact q_E_x j1408.1
  | false =>
    have g1440 := (q_rg_ltF1 (l2 := 0) (u := 2147483647) h1411 (q_rg_full _) (q_rg_lit (n := 0) (x := 0) rfl))
    refine q_E_F ?_
    obtain ⟨r8, e1442, j1441⟩ := dzj_M250_64 c d w (r2.1) j1408.1 (r3) (r2.2 - r2.2 / 8 * 8) (a1)
    rw [e1442]
    refine q_E_B ?_
    exact q_E_x j1441
set_option maxHeartbeats 4000000 in
theorem dzj_M276_64_75 (c d w : Int) (s : q_S) (hI : q_Iv c d w s) : q_Ex (dz_M276_64_75 s) (q_Iv c d w) := by
  unfold dz_M276_64_75
  cases h1452 : decide (0 < (s.1 14) 18) with
  | true =>
    have g1453 := (q_rg_ltT2 (L := 1) (u2 := 4095) h1452 (q_rg_lit (n := 0) (x := 0) rfl) (q_n18 hI) (by decide))
    refine q_E_T ?_
    exact q_E_x (q_Iv_A (i := 14) hI (q_hf_up ((hI).1 14) (q_sn17 (q_rg_full _))))
  | false =>
    have g1454 := (q_rg_ltF2 (l2 := 0) (u := 0) h1452 (q_rg_lit (n := 0) (x := 0) rfl) (q_n18 hI))
    refine q_E_F ?_
    obtain ⟨r2, e1456, j1455⟩ := dzj_M253_64 c d w (s) hI ((s.1 14) 4)
    rw [e1456]
    refine q_E_B ?_
    exact q_E_x (q_Iv_A (i := 14) j1455 (q_hf_up ((j1455).1 14) (q_sn17 (q_rg_full _))))
set_option maxHeartbeats 4000000 in
theorem dzj_M276_64 (c d w : Int) (s : q_S) (hI : q_Iv c d w s) : q_Ex (dz_M276_64 s) (q_Iv c d w) := by
  unfold dz_M276_64
  cases h1457 : decide ((s.1 15) 6 = 0) with
  | true =>
    have g1458 := q_rg_eqT h1457 (q_rg_lit (n := 0) (x := 0) rfl)
    refine q_E_T ?_
    cases h1459 : decide (((s.1 14) 9) &&& ((s.1 4) 11) = 0) with
    | true =>
      have g1460 := q_rg_eqT h1459 (q_rg_lit (n := 0) (x := 0) rfl)
      refine q_E_T ?_
      exact dzj_M276_64_75 c d w (q_sA s 14 (upd (s.1 14) 18 0)) (q_Iv_A (i := 14) hI (q_hf_up ((hI).1 14) (q_sn18 (q_rg_le (L := 0) (U := 4095) (q_rg_lit (n := 0) (x := 0) rfl) (by decide) (by decide)))))
    | false =>
      have g1461 := (q_rg_neL (l := 0) (u := 15) (n := 0) (L := 1) h1459 (q_rg_and1 (q_n9 hI) (by decide)) rfl (by decide) (by decide))
      refine q_E_F ?_
      cases h1462 : decide ((s.1 15) 3 = 0) with
      | true =>
        have g1463 := q_rg_eqT h1462 (q_rg_lit (n := 0) (x := 0) rfl)
        refine q_E_T ?_
        exact dzj_M276_64_75 c d w (q_sA s 14 (upd (s.1 14) 18 3838)) (q_Iv_A (i := 14) hI (q_hf_up ((hI).1 14) (q_sn18 (q_rg_le (L := 0) (U := 4095) (q_rg_lit (n := 3838) (x := 3838) rfl) (by decide) (by decide)))))
      | false =>
        have g1464 := (q_rg_neL (l := 0) (u := 1) (n := 0) (L := 1) h1462 (q_r15 hI 3) rfl (by decide) (by decide))
        refine q_E_F ?_
        exact dzj_M276_64_75 c d w (q_sA s 14 (upd (s.1 14) 18 0)) (q_Iv_A (i := 14) hI (q_hf_up ((hI).1 14) (q_sn18 (q_rg_le (L := 0) (U := 4095) (q_rg_lit (n := 0) (x := 0) rfl) (by decide) (by decide)))))
  | false =>
    have g1465 := (q_rg_neL (l := 0) (u := 1) (n := 0) (L := 1) h1457 (q_r15 hI 6) rfl (by decide) (by decide))
    refine q_E_F ?_
    exact dzj_M276_64_75 c d w (q_sA (q_sA s 14 (upd (s.1 14) 18 3834)) 15 (upd (s.1 15) 6 (vp_nar .boolean 0))) (q_Iv_A (i := 15) (q_Iv_A (i := 14) hI (q_hf_up ((hI).1 14) (q_sn18 (q_rg_le (L := 0) (U := 4095) (q_rg_lit (n := 3834) (x := 3834) rfl) (by decide) (by decide))))) (q_hf_up ((hI).1 15) (q_s15 (q_rg_le (L := 0) (U := 1) (q_rg_nb _) (by decide) (by decide)))))
set_option maxHeartbeats 4000000 in
theorem dzj_M254_64 (c d w : Int) (s : q_S) (hI : q_Iv c d w s) (a1 : Int32) (ra1 : q_rgz 0 255 a1) : q_Ex (dz_M254_64 s a1) (q_Iv c d w) := by
  unfold dz_M254_64
  refine q_E_A (q_in_rg (q_rg_add (L := 256) (U := 511) (q_rg_lit (n := 256) (x := 256) rfl) (q_n3 hI) (by decide) (by decide) (by decide) (by decide)) (by decide) (by decide)) ?_
  exact q_E_x (q_Iv_A (i := 14) (q_Iv_A (i := 1) hI (q_hf_up ((hI).1 1) (q_s1z (q_rg_le (L := 0) (U := 255) ra1 (by decide) (by decide))))) (q_hf_up ((hI).1 14) (q_sn3 (q_rg_le (L := 0) (U := 255) (q_rg_rem (c := 256) (U := 255) (q_rg_add (L := 255) (U := 510) (q_n3 hI) (q_rg_lit (n := 255) (x := 255) rfl) (by decide) (by decide) (by decide) (by decide)) (by decide) rfl (by decide) (by decide)) (by decide) (by decide)))))
theorem dzj_M256_64 (c d w V : Int) (s : q_S) (hI : q_Iv c d w s) (a1 a2 : Int32) (ra1 : q_rgz 0 7 a1) (ra2 : q_rgz 0 V a2) : q_Ex (dz_M256_64 s a1 a2) (fun x => q_rgz 0 V x) := by
  unfold dz_M256_64
  refine q_E_A (q_in_rg ra1 (by decide) (by decide)) ?_
  cases h : decide ((s.1 15) (a1.toNatClampNeg) = 0) with
  | true =>
    refine q_E_T (q_E_x ?_)
    have z : (0 : Int32).toInt = 0 := rfl
    have g1 := ra2.1
    have g2 := ra2.2
    exact ⟨by omega, by omega⟩
  | false => exact q_E_F (q_E_x ra2)

set_option maxHeartbeats 4000000 in
theorem dzj_M257_64 (c d w : Int) (s : q_S) (hI : q_Iv c d w s) (a1 : Int32) (ra1 : q_rgz 0 16 a1) : q_Ex (dz_M257_64 s a1) (fun x => q_rgz 0 255 x) := by
  unfold dz_M257_64
  obtain ⟨r2, e1479, j1478⟩ := dzj_M256_64 c d w 1 (s) hI (5) (1)  (q_rg_le (L := 0) (U := 7) (q_rg_lit (n := 5) (x := 5) rfl) (by decide) (by decide)) (q_rg_le (L := 0) (U := 1) (q_rg_lit (n := 1) (x := 1) rfl) (by decide) (by decide))
  rw [e1479]
  refine q_E_B ?_
  obtain ⟨r3, e1481, j1480⟩ := dzj_M256_64 c d w 2 (s) hI (4) (2)  (q_rg_le (L := 0) (U := 7) (q_rg_lit (n := 4) (x := 4) rfl) (by decide) (by decide)) (q_rg_le (L := 0) (U := 2) (q_rg_lit (n := 2) (x := 2) rfl) (by decide) (by decide))
  rw [e1481]
  refine q_E_B ?_
  obtain ⟨r4, e1483, j1482⟩ := dzj_M256_64 c d w 4 (s) hI (3) (4)  (q_rg_le (L := 0) (U := 7) (q_rg_lit (n := 3) (x := 3) rfl) (by decide) (by decide)) (q_rg_le (L := 0) (U := 4) (q_rg_lit (n := 4) (x := 4) rfl) (by decide) (by decide))
  rw [e1483]
  refine q_E_B ?_
  obtain ⟨r5, e1485, j1484⟩ := dzj_M256_64 c d w 8 (s) hI (2) (8)  (q_rg_le (L := 0) (U := 7) (q_rg_lit (n := 2) (x := 2) rfl) (by decide) (by decide)) (q_rg_le (L := 0) (U := 8) (q_rg_lit (n := 8) (x := 8) rfl) (by decide) (by decide))
  rw [e1485]
  refine q_E_B ?_
  obtain ⟨r6, e1487, j1486⟩ := dzj_M256_64 c d w 64 (s) hI (1) (64)  (q_rg_le (L := 0) (U := 7) (q_rg_lit (n := 1) (x := 1) rfl) (by decide) (by decide)) (q_rg_le (L := 0) (U := 64) (q_rg_lit (n := 64) (x := 64) rfl) (by decide) (by decide))
  rw [e1487]
  refine q_E_B ?_
  obtain ⟨r7, e1489, j1488⟩ := dzj_M256_64 c d w 128 (s) hI (0) (128)  (q_rg_le (L := 0) (U := 7) (q_rg_lit (n := 0) (x := 0) rfl) (by decide) (by decide)) (q_rg_le (L := 0) (U := 128) (q_rg_lit (n := 128) (x := 128) rfl) (by decide) (by decide))
  rw [e1489]
  refine q_E_B ?_
  exact q_E_x (q_rg_le (q_rg_add (L := 32) (U := 255) (q_rg_add (L := 32) (U := 127) (q_rg_add (L := 32) (U := 63) (q_rg_add (L := 0) (U := 31) (q_rg_add (L := 0) (U := 15) (q_rg_add (L := 0) (U := 7) (q_rg_add (L := 0) (U := 3) j1478 j1480 (by decide) (by decide) (by decide) (by decide)) j1482 (by decide) (by decide) (by decide) (by decide)) j1484 (by decide) (by decide) (by decide) (by decide)) ra1 (by decide) (by decide) (by decide) (by decide)) (q_rg_lit (n := 32) (x := 32) rfl) (by decide) (by decide) (by decide) (by decide)) j1486 (by decide) (by decide) (by decide) (by decide)) j1488 (by decide) (by decide) (by decide) (by decide)) (by decide) (by decide))
set_option maxHeartbeats 4000000 in
theorem dzj_M259_64 (c d w : Int) (s : q_S) (hI : q_Iv c d w s) (a1 : Int32) (a2 : Int32) (a3 : Int32) (ra2 : q_rgz 0 4095 a2) (ra3 : q_rgz 0 16 a3) : q_Ex (dz_M259_64 s a1 a2 a3) (q_Iv c d w) := by
  unfold dz_M259_64
  obtain ⟨r2, e1501, j1500⟩ := dzj_M254_64 c d w (s) hI (a2 / 256) (q_rg_le (L := 0) (U := 255) (q_rg_div (c := 256) (U := 15) ra2 (by decide) rfl (by decide) (by decide)) (by decide) (by decide))
  rw [e1501]
  refine q_E_B ?_
  obtain ⟨r3, e1503, j1502⟩ := dzj_M254_64 c d w (r2) j1500 (a2 - a2 / 256 * 256) (q_rg_le (L := 0) (U := 255) (q_rg_rem (c := 256) (U := 255) ra2 (by decide) rfl (by decide) (by decide)) (by decide) (by decide))
  rw [e1503]
  refine q_E_B ?_
  obtain ⟨r4, e1505, j1504⟩ := dzj_M257_64 c d w (r3) j1502 (a3) (q_rg_le (L := 0) (U := 16) ra3 (by decide) (by decide))
  rw [e1505]
  refine q_E_B ?_
  obtain ⟨r5, e1507, j1506⟩ := dzj_M254_64 c d w (r3) j1502 (r4) (q_rg_le (L := 0) (U := 255) j1504 (by decide) (by decide))
  rw [e1507]
  refine q_E_B ?_
  obtain ⟨r6, e1509, j1508⟩ := dzj_M247_64 c d w (q_sA r5 15 (upd (r5.1 15) 3 (vp_nar .boolean 1))) (q_Iv_A (i := 15) j1506 (q_hf_up ((j1506).1 15) (q_s15 (q_rg_le (L := 0) (U := 1) (q_rg_nb _) (by decide) (by decide))))) (a1)
  rw [e1509]
  refine q_E_B ?_
  exact q_E_x (q_Iv_A (i := 14) j1508.1 (q_hf_up ((j1508.1).1 14) (q_sn4 (q_rg_le (L := 0) (U := 4095) j1508.2 (by decide) (by decide)))))
set_option maxHeartbeats 4000000 in
theorem dzj_M255_64 (c d w : Int) (s : q_S) (hI : q_Iv c d w s) : q_Ex (dz_M255_64 s) (fun (x : q_S × Int32) => q_Iv c d w x.1 ∧ q_rgz 0 255 x.2) := by
  unfold dz_M255_64
  refine q_E_A (q_in_rg (q_rg_add (L := 256) (U := 511) (q_rg_lit (n := 256) (x := 256) rfl) (q_up_eq rfl (q_rg_rem (c := 256) (U := 255) (q_rg_add (L := 1) (U := 256) (q_n3 hI) (q_rg_lit (n := 1) (x := 1) rfl) (by decide) (by decide) (by decide) (by decide)) (by decide) rfl (by decide) (by decide))) (by decide) (by decide) (by decide) (by decide)) (by decide) (by decide)) ?_
  exact q_E_x ⟨(q_Iv_A (i := 14) hI (q_hf_up ((hI).1 14) (q_sn3 (q_rg_le (L := 0) (U := 255) (q_rg_rem (c := 256) (U := 255) (q_rg_add (L := 1) (U := 256) (q_n3 hI) (q_rg_lit (n := 1) (x := 1) rfl) (by decide) (by decide) (by decide) (by decide)) (by decide) rfl (by decide) (by decide)) (by decide) (by decide))))), q_rg_le (q_r1 hI _) (by decide) (by decide)⟩
