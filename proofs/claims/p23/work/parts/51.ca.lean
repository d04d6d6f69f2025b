section
-- 51.ca
theorem dzj_M199_64 (c d w : Int) (s : q_S) (hI : q_Iv c d w s) : (fun _ => True) (dz_M199_64 s) := trivial

set_option maxHeartbeats 4000000 in
theorem dzj_M201_64 (c d w : Int) (s : q_S) (hI : q_Iv c d w s) (a1 : Int32) : (fun (x : q_S × Int32) => q_Iv c d w x.1) (dz_M201_64 s a1) := by
  refine q_S_of (P := (fun (x : q_S × Int32) => q_Iv c d w x.1)) ?_
  unfold dz_M201_64
  exact q_E_x (q_Iv_I (i := 0) (m := 39) hI (q_rg_full _))
set_option maxHeartbeats 4000000 in
theorem dzj_M205_64 (c d w : Int) (s : q_S) (hI : q_Iv c d w s) : (q_Iv c d w) (dz_M205_64 s) := by
  refine q_S_of (P := (q_Iv c d w)) ?_
  unfold dz_M205_64
  cases h4 : decide (s.2.1 0 34 < 0) with
  | true =>
    have g5 := (q_rg_ltT1 (l := -2147483648) (U := -1) h4 (q_rg_full _) (q_rg_lit (n := 0) (x := 0) rfl) (by decide))
    refine q_S_T ?_
    exact q_E_x hI
  | false =>
    have g6 := (q_rg_ltF1 (l2 := 0) (u := 2147483647) h4 (q_rg_full _) (q_rg_lit (n := 0) (x := 0) rfl))
    refine q_S_F ?_
    exact q_E_x (q_Iv_I (i := 0) (m := 34) hI (q_rg_full _))
theorem q64_div {a b : Int64} (ha : 0 ≤ a.toInt) (hb : 0 < b.toInt) : (a / b).toInt = a.toInt / b.toInt := by
  rw [Int64.toInt_div]
  have h9 := Int64.toInt_lt a
  have h1 : a.toInt.tdiv b.toInt = a.toInt / b.toInt := Int.tdiv_eq_ediv_of_nonneg ha
  rw [h1]
  have h2 : 0 ≤ a.toInt / b.toInt := Int.ediv_nonneg ha (Int.le_of_lt hb)
  have h3 : a.toInt / b.toInt ≤ a.toInt := Int.ediv_le_self _ ha
  exact Int.bmod_eq_of_le (by omega) (by omega)
theorem q64_rem {a b : Int64} (ha : 0 ≤ a.toInt) (hb : 0 < b.toInt) : (a - a / b * b).toInt = a.toInt % b.toInt := by
  have h9 := Int64.toInt_lt a
  have e0 := Int.mul_ediv_add_emod a.toInt b.toInt
  have e3 : 0 ≤ a.toInt % b.toInt := Int.emod_nonneg _ (by omega)
  have e4 : 0 ≤ a.toInt / b.toInt := Int.ediv_nonneg ha (Int.le_of_lt hb)
  have e5 : 0 ≤ a.toInt / b.toInt * b.toInt := Int.mul_nonneg e4 (Int.le_of_lt hb)
  have e6 : b.toInt * (a.toInt / b.toInt) = a.toInt / b.toInt * b.toInt := Int.mul_comm _ _
  have e1 : (a / b * b).toInt = a.toInt / b.toInt * b.toInt := by
    rw [Int64.toInt_mul, q64_div ha hb]
    exact Int.bmod_eq_of_le (by omega) (by omega)
  rw [Int64.toInt_sub, e1]
  rw [show Int.bmod (a.toInt - a.toInt / b.toInt * b.toInt) (2 ^ 64) = a.toInt - a.toInt / b.toInt * b.toInt from Int.bmod_eq_of_le (by omega) (by omega)]
  omega
theorem q64_32 {y : Int64} (h : 0 ≤ y.toInt) (h2 : y.toInt < 2147483648) : y.toInt32.toInt = y.toInt := by
  rw [Int64.toInt_toInt32]
  exact Int.bmod_eq_of_le (by omega) (by omega)
theorem q_cyc {c d w : Int} {s : q_S} (hI : q_Iv c d w s) (b : Int64) {n : Int} (hb : b.toInt = n) (h0 : 0 < n) (h1 : n < 2147483648) : (((s.2.2 0 15) - (s.2.2 0 15) / b * b).toInt32).toInt = (s.2.2 0 15).toInt % n := by
  have h := (hI.2.2 0 15 rfl).1
  have e : ((s.2.2 0 15) - (s.2.2 0 15) / b * b).toInt = (s.2.2 0 15).toInt % n := by rw [q64_rem h (by omega), hb]
  have h2 := Int.emod_nonneg (s.2.2 0 15).toInt (show n ≠ 0 by omega)
  have h3 := Int.emod_lt_of_pos (s.2.2 0 15).toInt h0
  rw [q64_32 (by omega) (by omega), e]
theorem q_line {c d w : Int} {s : q_S} (hI : q_Iv c d w s) : (dz_M207_64 s).toInt = (s.2.2 0 15).toInt / 24 % 40 := by
  have h := (hI.2.2 0 15 rfl).1
  have e1 : ((s.2.2 0 15) / 24).toInt = (s.2.2 0 15).toInt / 24 := q64_div h (by decide)
  have e2 : ((s.2.2 0 15) / 24 - (s.2.2 0 15) / 24 / 40 * 40).toInt = (s.2.2 0 15).toInt / 24 % 40 := by
    rw [q64_rem (by omega) (by decide), e1]; rfl
  show (((s.2.2 0 15) / 24 - (s.2.2 0 15) / 24 / 40 * 40).toInt32).toInt = _
  rw [q64_32 (by omega) (by omega), e2]
theorem dzj_M207_64 (c d w : Int) (s : q_S) (hI : q_Iv c d w s) : (fun x => q_rgz 0 39 x) (dz_M207_64 s) := by
  have h := q_line hI
  show q_rgz 0 39 (dz_M207_64 s)
  unfold q_rgz
  rw [h]
  omega
theorem q_rg_cyc {c d w n : Int} {s : q_S} {b : Int64} (hI : q_Iv c d w s) (h0 : 0 < n ∧ n < 2147483648) (hb : b.toInt = n) : q_rgz 0 (n - 1) (((s.2.2 0 15) - (s.2.2 0 15) / b * b).toInt32) := by
  unfold q_rgz
  rw [q_cyc hI b hb h0.1 h0.2]
  have h2 := Int.emod_nonneg (s.2.2 0 15).toInt (show n ≠ 0 by omega)
  have h3 := Int.emod_lt_of_pos (s.2.2 0 15).toInt h0.1
  omega

set_option maxHeartbeats 4000000 in
theorem dzj_M208_64_85 (c d w : Int) (k35 : q_S → Int32 → Option (q_S × Int32)) (M35 : Int) (tk35 : ∀ (s : q_S), q_Iv c d w s → ∀ (v2 : Int32), q_rgz 0 8 v2 → ((8 - v2.toInt).toNat : Int) ≤ M35 → q_Ex (k35 s v2) (fun (x : q_S × Int32) => q_Iv c d w x.1 ∧ q_rgz 0 15 x.2)) (k43 : q_S → Int32 → Int32 → Option (q_S × Int32)) (M43 : Int) (tk43 : ∀ (s : q_S), q_Iv c d w s → ∀ (v2 : Int32) (v3 : Int32), q_rgz 0 7 v2 → q_rgz 0 16 v3 → ((8 - v2.toInt).toNat : Int) ≤ M35 + 1 → ((16 - v3.toInt).toNat : Int) ≤ M43 → q_Ex (k43 s v2 v3) (fun (x : q_S × Int32) => q_Iv c d w x.1 ∧ q_rgz 0 15 x.2)) (s : q_S) (hI : q_Iv c d w s) (v2 : Int32) (v3 : Int32) (rv2 : q_rgz 0 7 v2) (rv3 : q_rgz 0 15 v3) (m35 : ((8 - v2.toInt).toNat : Int) ≤ M35 + 1) (m43 : ((16 - v3.toInt).toNat : Int) ≤ M43 + 1) : q_Ex (dz_M208_64_85 k35 k43 s v2 v3) (fun (x : q_S × Int32) => q_Iv c d w x.1 ∧ q_rgz 0 15 x.2) := by
  unfold dz_M208_64_85
  refine q_E_A (q_in_rg (q_rg_div (c := 4) (U := 3) rv3 (by decide) rfl (by decide) (by decide)) (by decide) (by decide)) ?_
  refine q_E_A (q_in_rg (q_rg_add (L := 4) (U := 7) (q_rg_lit (n := 4) (x := 4) rfl) (q_rg_rem (c := 4) (U := 3) rv3 (by decide) rfl (by decide) (by decide)) (by decide) (by decide) (by decide) (by decide)) (by decide) (by decide)) ?_
  have j36 : q_Iv c d w (q_sA s 33 (upd (s.1 33) ((v3 / 4).toNatClampNeg) (vp_nar .boolean 1))) := (q_Iv_A (i := 33) hI (q_hf_up ((hI).1 33) (q_s33 (q_rg_le (L := 0) (U := 1) (q_rg_nb _) (by decide) (by decide)))))
  refine q_E_L ?_
  generalize (q_sA s 33 (upd (s.1 33) ((v3 / 4).toNatClampNeg) (vp_nar .boolean 1))) = r5 at j36 ⊢
  exact tk43 (q_sA r5 33 (upd (r5.1 33) (((4 : Int32) + (v3 - v3 / 4 * 4)).toNatClampNeg) (vp_nar .boolean 1))) (q_Iv_A (i := 33) j36 (q_hf_up ((j36).1 33) (q_s33 (q_rg_le (L := 0) (U := 1) (q_rg_nb _) (by decide) (by decide))))) (v2) (v3 + 1) (q_rg_le (L := 0) (U := 7) rv2 (by decide) (by decide)) (q_rg_le (L := 0) (U := 16) (q_rg_add (L := 1) (U := 16) rv3 (q_rg_lit (n := 1) (x := 1) rfl) (by decide) (by decide) (by decide) (by decide)) (by decide) (by decide)) m35 (q_meu rv3 m43 (by decide) (by decide))
set_option maxHeartbeats 4000000 in
theorem dzjb_M208_64_43 (c d w : Int) (k35 : q_S → Int32 → Option (q_S × Int32)) (M35 : Int) (tk35 : ∀ (s : q_S), q_Iv c d w s → ∀ (v2 : Int32), q_rgz 0 8 v2 → ((8 - v2.toInt).toNat : Int) ≤ M35 → q_Ex (k35 s v2) (fun (x : q_S × Int32) => q_Iv c d w x.1 ∧ q_rgz 0 15 x.2)) (k43 : q_S → Int32 → Int32 → Option (q_S × Int32)) (M43 : Int) (tk43 : ∀ (s : q_S), q_Iv c d w s → ∀ (v2 : Int32) (v3 : Int32), q_rgz 0 7 v2 → q_rgz 0 16 v3 → ((8 - v2.toInt).toNat : Int) ≤ M35 + 1 → ((16 - v3.toInt).toNat : Int) ≤ M43 → q_Ex (k43 s v2 v3) (fun (x : q_S × Int32) => q_Iv c d w x.1 ∧ q_rgz 0 15 x.2)) (s : q_S) (hI : q_Iv c d w s) (v2 : Int32) (v3 : Int32) (rv2 : q_rgz 0 7 v2) (rv3 : q_rgz 0 16 v3) (m35 : ((8 - v2.toInt).toNat : Int) ≤ M35 + 1) (m43 : ((16 - v3.toInt).toNat : Int) ≤ M43 + 1) : q_Ex (cond (decide (v3 < 16)) (cond (q_in v3 16) (cond (decide ((s.1 7) (v3.toNatClampNeg) = 0)) (k43 s v2 (v3 + 1)) (cond (q_in (v3 / 4) 8) (cond (decide ((s.1 33) ((v3 / 4).toNatClampNeg) = 0)) (cond (q_in ((4 : Int32) + (v3 - v3 / 4 * 4)) 8) (cond (decide ((s.1 33) (((4 : Int32) + (v3 - v3 / 4 * 4)).toNatClampNeg) = 0)) (q_let ((q_sA s 33 (upd (s.1 33) ((v3 / 4).toNatClampNeg) (vp_nar .boolean 0)))) fun r4 => k43 (q_sA r4 33 (upd (r4.1 33) (((4 : Int32) + (v3 - v3 / 4 * 4)).toNatClampNeg) (vp_nar .boolean 0))) v2 (v3 + 1)) (dz_M208_64_85 k35 k43 s v2 v3)) none) (dz_M208_64_85 k35 k43 s v2 v3)) none)) none) (k35 s (v2 + 1))) (fun (x : q_S × Int32) => q_Iv c d w x.1 ∧ q_rgz 0 15 x.2) := by
  cases h37 : decide (v3 < 16) with
  | true =>
    have g38 := (q_rg_ltT1 (l := 0) (U := 15) h37 rv3 (q_rg_lit (n := 16) (x := 16) rfl) (by decide))
    refine q_E_T ?_
    refine q_E_A (q_in_rg g38 (by decide) (by decide)) ?_
    cases h39 : decide ((s.1 7) (v3.toNatClampNeg) = 0) with
    | true =>
      have g40 := q_rg_eqT h39 (q_rg_lit (n := 0) (x := 0) rfl)
      refine q_E_T ?_
      exact tk43 (s) hI (v2) (v3 + 1) (q_rg_le (L := 0) (U := 7) rv2 (by decide) (by decide)) (q_rg_le (L := 0) (U := 16) (q_rg_add (L := 1) (U := 16) g38 (q_rg_lit (n := 1) (x := 1) rfl) (by decide) (by decide) (by decide) (by decide)) (by decide) (by decide)) m35 (q_meu g38 m43 (by decide) (by decide))
    | false =>
      have g41 := (q_rg_neL (l := 0) (u := 1) (n := 0) (L := 1) h39 (q_r7 hI _) rfl (by decide) (by decide))
      refine q_E_F ?_
      refine q_E_A (q_in_rg (q_rg_div (c := 4) (U := 3) g38 (by decide) rfl (by decide) (by decide)) (by decide) (by decide)) ?_
      cases h42 : decide ((s.1 33) ((v3 / 4).toNatClampNeg) = 0) with
      | true =>
        have g43 := q_rg_eqT h42 (q_rg_lit (n := 0) (x := 0) rfl)
        refine q_E_T ?_
        refine q_E_A (q_in_rg (q_rg_add (L := 4) (U := 7) (q_rg_lit (n := 4) (x := 4) rfl) (q_rg_rem (c := 4) (U := 3) g38 (by decide) rfl (by decide) (by decide)) (by decide) (by decide) (by decide) (by decide)) (by decide) (by decide)) ?_
        cases h44 : decide ((s.1 33) (((4 : Int32) + (v3 - v3 / 4 * 4)).toNatClampNeg) = 0) with
        | true =>
          have g45 := q_rg_eqT h44 (q_rg_lit (n := 0) (x := 0) rfl)
          refine q_E_T ?_
          have j46 : q_Iv c d w (q_sA s 33 (upd (s.1 33) ((v3 / 4).toNatClampNeg) (vp_nar .boolean 0))) := (q_Iv_A (i := 33) hI (q_hf_up ((hI).1 33) (q_s33 (q_rg_le (L := 0) (U := 1) (q_rg_nb _) (by decide) (by decide)))))
          refine q_E_L ?_
          generalize (q_sA s 33 (upd (s.1 33) ((v3 / 4).toNatClampNeg) (vp_nar .boolean 0))) = r4 at j46 ⊢
          exact tk43 (q_sA r4 33 (upd (r4.1 33) (((4 : Int32) + (v3 - v3 / 4 * 4)).toNatClampNeg) (vp_nar .boolean 0))) (q_Iv_A (i := 33) j46 (q_hf_up ((j46).1 33) (q_s33 (q_rg_le (L := 0) (U := 1) (q_rg_nb _) (by decide) (by decide))))) (v2) (v3 + 1) (q_rg_le (L := 0) (U := 7) rv2 (by decide) (by decide)) (q_rg_le (L := 0) (U := 16) (q_rg_add (L := 1) (U := 16) g38 (q_rg_lit (n := 1) (x := 1) rfl) (by decide) (by decide) (by decide) (by decide)) (by decide) (by decide)) m35 (q_meu g38 m43 (by decide) (by decide))
        | false =>
          have g47 := (q_rg_neL (l := 0) (u := 1) (n := 0) (L := 1) h44 (q_r33 hI _) rfl (by decide) (by decide))
          refine q_E_F ?_
          exact dzj_M208_64_85 c d w k35 M35 tk35 k43 M43 tk43 (s) hI (v2) (v3) (q_rg_le (L := 0) (U := 7) rv2 (by decide) (by decide)) (q_rg_le (L := 0) (U := 15) g38 (by decide) (by decide)) m35 m43
      | false =>
        have g48 := (q_rg_neL (l := 0) (u := 1) (n := 0) (L := 1) h42 (q_r33 hI _) rfl (by decide) (by decide))
        refine q_E_F ?_
        exact dzj_M208_64_85 c d w k35 M35 tk35 k43 M43 tk43 (s) hI (v2) (v3) (q_rg_le (L := 0) (U := 7) rv2 (by decide) (by decide)) (q_rg_le (L := 0) (U := 15) g38 (by decide) (by decide)) m35 m43
  | false =>
    have g49 := (q_rg_ltF1 (l2 := 16) (u := 16) h37 rv3 (q_rg_lit (n := 16) (x := 16) rfl))
    refine q_E_F ?_
    exact tk35 (s) hI (v2 + 1) (q_rg_le (L := 0) (U := 8) (q_rg_add (L := 1) (U := 8) rv2 (q_rg_lit (n := 1) (x := 1) rfl) (by decide) (by decide) (by decide) (by decide)) (by decide) (by decide)) (q_meu rv2 m35 (by decide) (by decide))
theorem dzj_M208_64_43 (c d w : Int) (k35 : q_S → Int32 → Option (q_S × Int32)) (M35 : Int) (tk35 : ∀ (s : q_S), q_Iv c d w s → ∀ (v2 : Int32), q_rgz 0 8 v2 → ((8 - v2.toInt).toNat : Int) ≤ M35 → q_Ex (k35 s v2) (fun (x : q_S × Int32) => q_Iv c d w x.1 ∧ q_rgz 0 15 x.2)) : ∀ (m : Nat) (s : q_S) (hI : q_Iv c d w s) (v2 : Int32) (v3 : Int32) (rv2 : q_rgz 0 7 v2) (rv3 : q_rgz 0 16 v3) (m35 : ((8 - v2.toInt).toNat : Int) ≤ M35 + 1), ((16 - v3.toInt).toNat : Int) ≤ (m : Int) → q_Ex (dz_M208_64_43 k35 (m + 1) s v2 v3) (fun (x : q_S × Int32) => q_Iv c d w x.1 ∧ q_rgz 0 15 x.2) := by
  intro m
  induction m with
  | zero => intro s hI v2 v3 rv2 rv3 m35 hm; rw [dzs_M208_64_43]; exact dzjb_M208_64_43 c d w k35 M35 tk35 (dz_M208_64_43 k35 0) (-1) (fun s hI v2 v3 rv2 rv3 m35 hm => absurd hm (by omega)) s hI v2 v3 rv2 rv3 m35 (by omega)
  | succ m ih => intro s hI v2 v3 rv2 rv3 m35 hm; rw [dzs_M208_64_43]; exact dzjb_M208_64_43 c d w k35 M35 tk35 (dz_M208_64_43 k35 (m + 1)) (m : Int) (fun s hI v2 v3 rv2 rv3 m35 hm => ih s hI v2 v3 rv2 rv3 m35 hm) s hI v2 v3 rv2 rv3 m35 (by omega)
theorem dzj_M208_64_130 (c d w : Int) : ∀ (m : Nat) (s : q_S) (hI : q_Iv c d w s) (v2 v3 : Int32) (rv3 : q_rgz 0 4 v3) (hx : 0 ≤ v2.toInt ∧ v2.toInt < ((2 ^ v3.toInt.toNat : Nat) : Int)), ((4 - v3.toInt).toNat : Int) ≤ (m : Int) → q_Ex (dz_M208_64_130 (m + 1) s v2 v3) (fun x => q_Iv c d w x.1 ∧ q_rgz 0 15 x.2) := by
  intro m
  induction m with
  | zero =>
    intro s hI v2 v3 rv3 hx hm
    have e : v3.toInt = 4 := by have := rv3.2; have := rv3.1; omega
    have e2 : v3 = 4 := Int32.toInt_inj.mp e
    subst e2
    rw [dzs_M208_64_130]
    have h : v2.toInt < 16 := hx.2
    exact ⟨_, rfl, hI, hx.1, show v2.toInt ≤ 15 by omega⟩
  | succ m ih =>
    intro s hI v2 v3 rv3 hx hm
    have a := rv3.1
    have b := rv3.2
    rw [dzs_M208_64_130]
    dsimp only
    cases h : decide (v3 < 4) with
    | false =>
      have e1 : ¬ v3.toInt < 4 := fun z => of_decide_eq_false h (Int32.lt_iff_toInt_lt.mpr z)
      have e2 : v3 = 4 := Int32.toInt_inj.mp (show v3.toInt = 4 by omega)
      subst e2
      have h : v2.toInt < 16 := hx.2
      exact ⟨_, rfl, hI, hx.1, show v2.toInt ≤ 15 by omega⟩
    | true =>
      have e1 : v3.toInt < 4 := Int32.lt_iff_toInt_lt.mp (of_decide_eq_true h)
      have e3 : (v3 + 1).toInt = v3.toInt + 1 := q_add9 (c := 1) (by show _ ≤ v3.toInt + 1; omega) (by show v3.toInt + 1 ≤ _; omega)
      have i1 : q_in ((4 : Int32) + v3) 8 = true := q_in_rg (q_rg_add (L := 4) (U := 7) (q_rg_lit (n := 4) (x := 4) rfl) (l2 := 0) (u2 := 3) ⟨a, by omega⟩ (by decide) (by decide) (by decide) (by decide)) (by decide) (by decide)
      have p : ((2 ^ (v3 + 1).toInt.toNat : Nat) : Int) = 2 * ((2 ^ v3.toInt.toNat : Nat) : Int) := by
        rw [e3, show (v3.toInt + 1).toNat = v3.toInt.toNat + 1 by omega, Nat.pow_succ]
        omega
      refine q_E_T (q_E_A i1 ?_)
      have sh : ((1 : Int32) <<< (v3 &&& 31)).toInt = ((2 ^ v3.toInt.toNat : Nat) : Int) ∧ ((2 ^ v3.toInt.toNat : Nat) : Int) ≤ 8 := by
        have e : v3.toInt = 0 ∨ v3.toInt = 1 ∨ v3.toInt = 2 ∨ v3.toInt = 3 := by omega
        rcases e with e | e | e | e
        · rw [show v3 = 0 from Int32.toInt_inj.mp e]; exact ⟨by decide, by decide⟩
        · rw [show v3 = 1 from Int32.toInt_inj.mp e]; exact ⟨by decide, by decide⟩
        · rw [show v3 = 2 from Int32.toInt_inj.mp e]; exact ⟨by decide, by decide⟩
        · rw [show v3 = 3 from Int32.toInt_inj.mp e]; exact ⟨by decide, by decide⟩
      have z0 : (v2 + 0).toInt = v2.toInt := by
        rw [show v2 + 0 = v2 from Int32.add_zero v2]
      have z1 : (v2 + ((1 : Int32) <<< (v3 &&& 31))).toInt = v2.toInt + ((2 ^ v3.toInt.toNat : Nat) : Int) := by
        rw [q_add9 (by omega) (by omega), sh.1]
      cases h2 : decide ((s.1 33) (((4 : Int32) + v3).toNatClampNeg) = 0) with
      | true =>
        refine q_E_T ?_
        exact ih s hI _ _ ⟨by omega, by omega⟩ ⟨by omega, by rw [p]; omega⟩ (by omega)
      | false =>
        refine q_E_F ?_
        exact ih s hI _ _ ⟨by omega, by omega⟩ ⟨by omega, by rw [p]; omega⟩ (by omega)

set_option maxHeartbeats 4000000 in
theorem dzjb_M208_64_35 (c d w : Int) (k35 : q_S → Int32 → Option (q_S × Int32)) (M35 : Int) (tk35 : ∀ (s : q_S), q_Iv c d w s → ∀ (v2 : Int32), q_rgz 0 8 v2 → ((8 - v2.toInt).toNat : Int) ≤ M35 → q_Ex (k35 s v2) (fun (x : q_S × Int32) => q_Iv c d w x.1 ∧ q_rgz 0 15 x.2)) (s : q_S) (hI : q_Iv c d w s) (v2 : Int32) (rv2 : q_rgz 0 8 v2) (m35 : ((8 - v2.toInt).toNat : Int) ≤ M35 + 1) : q_Ex (cond (decide (v2 < 8)) (dz_M208_64_43 k35 5000 s v2 0) (dz_M208_64_130 5000 s 0 0)) (fun (x : q_S × Int32) => q_Iv c d w x.1 ∧ q_rgz 0 15 x.2) := by
  cases h50 : decide (v2 < 8) with
  | true =>
    have g51 := (q_rg_ltT1 (l := 0) (U := 7) h50 rv2 (q_rg_lit (n := 8) (x := 8) rfl) (by decide))
    refine q_E_T ?_
    exact dzj_M208_64_43 c d w k35 M35 tk35 4999 (s) hI (v2) (0) (q_rg_le (L := 0) (U := 7) g51 (by decide) (by decide)) (q_rg_le (L := 0) (U := 16) (q_rg_lit (n := 0) (x := 0) rfl) (by decide) (by decide)) m35 (q_meu0 (q_rg_lit (n := 0) (x := 0) rfl) (by decide) (by decide))
  | false =>
    have g52 := (q_rg_ltF1 (l2 := 8) (u := 8) h50 rv2 (q_rg_lit (n := 8) (x := 8) rfl))
    refine q_E_F ?_
    exact dzj_M208_64_130 c d w 4999 (s) hI (0) (0) (q_rg_le (L := 0) (U := 4) (q_rg_lit (n := 0) (x := 0) rfl) (by decide) (by decide)) (by decide) (q_meu0 (q_rg_lit (n := 0) (x := 0) rfl) (by decide) (by decide))
theorem dzj_M208_64_35 (c d w : Int) : ∀ (m : Nat) (s : q_S) (hI : q_Iv c d w s) (v2 : Int32) (rv2 : q_rgz 0 8 v2), ((8 - v2.toInt).toNat : Int) ≤ (m : Int) → q_Ex (dz_M208_64_35 (m + 1) s v2) (fun (x : q_S × Int32) => q_Iv c d w x.1 ∧ q_rgz 0 15 x.2) := by
  intro m
  induction m with
  | zero => intro s hI v2 rv2 hm; rw [dzs_M208_64_35]; exact dzjb_M208_64_35 c d w (dz_M208_64_35 0) (-1) (fun s hI v2 rv2 hm => absurd hm (by omega)) s hI v2 rv2 (by omega)
  | succ m ih => intro s hI v2 rv2 hm; rw [dzs_M208_64_35]; exact dzjb_M208_64_35 c d w (dz_M208_64_35 (m + 1)) (m : Int) (fun s hI v2 rv2 hm => ih s hI v2 rv2 hm) s hI v2 rv2 (by omega)
set_option maxHeartbeats 4000000 in
theorem dzjb_M208_64_2 (c d w : Int) (k2 : q_S → Int32 → Int32 → Option (q_S × Int32)) (M2 : Int) (tk2 : ∀ (s : q_S), q_Iv c d w s → ∀ (v1 : Int32) (v2 : Int32), q_rgz 0 4 v2 → ((4 - v2.toInt).toNat : Int) ≤ M2 → q_Ex (k2 s v1 v2) (fun (x : q_S × Int32) => q_Iv c d w x.1 ∧ q_rgz 0 15 x.2)) (s : q_S) (hI : q_Iv c d w s) (v1 : Int32) (v2 : Int32) (rv2 : q_rgz 0 4 v2) (m2 : ((4 - v2.toInt).toNat : Int) ≤ M2 + 1) : q_Ex (cond (decide (v2 < 4)) (q_let (dz_M206 s v1 v2) fun r1 => cond r1 (cond (q_in v2 8) (cond (q_in ((4 : Int32) + v2) 8) (q_let ((q_sA s 33 (upd (s.1 33) (v2.toNatClampNeg) (vp_nar .boolean 1)))) fun r2 => k2 (q_sA r2 33 (upd (r2.1 33) (((4 : Int32) + v2).toNatClampNeg) (vp_nar .boolean 0))) v1 (v2 + 1)) none) none) (cond (q_in v2 8) (cond (q_in ((4 : Int32) + v2) 8) (q_let ((q_sA s 33 (upd (s.1 33) (v2.toNatClampNeg) (vp_nar .boolean 0)))) fun r3 => k2 (q_sA r3 33 (upd (r3.1 33) (((4 : Int32) + v2).toNatClampNeg) (vp_nar .boolean 0))) v1 (v2 + 1)) none) none)) (dz_M208_64_35 5000 s 0)) (fun (x : q_S × Int32) => q_Iv c d w x.1 ∧ q_rgz 0 15 x.2) := by
  cases h53 : decide (v2 < 4) with
  | true =>
    have g54 := (q_rg_ltT1 (l := 0) (U := 3) h53 rv2 (q_rg_lit (n := 4) (x := 4) rfl) (by decide))
    refine q_E_T ?_
    refine q_E_L ?_
    generalize p55 : dz_M206 s v1 v2 = r1
    cases r1 with
    | true =>
      refine q_E_T ?_
      refine q_E_A (q_in_rg g54 (by decide) (by decide)) ?_
      refine q_E_A (q_in_rg (q_rg_add (L := 4) (U := 7) (q_rg_lit (n := 4) (x := 4) rfl) g54 (by decide) (by decide) (by decide) (by decide)) (by decide) (by decide)) ?_
      have j56 : q_Iv c d w (q_sA s 33 (upd (s.1 33) (v2.toNatClampNeg) (vp_nar .boolean 1))) := (q_Iv_A (i := 33) hI (q_hf_up ((hI).1 33) (q_s33 (q_rg_le (L := 0) (U := 1) (q_rg_nb _) (by decide) (by decide)))))
      refine q_E_L ?_
      generalize (q_sA s 33 (upd (s.1 33) (v2.toNatClampNeg) (vp_nar .boolean 1))) = r2 at j56 ⊢
      exact tk2 (q_sA r2 33 (upd (r2.1 33) (((4 : Int32) + v2).toNatClampNeg) (vp_nar .boolean 0))) (q_Iv_A (i := 33) j56 (q_hf_up ((j56).1 33) (q_s33 (q_rg_le (L := 0) (U := 1) (q_rg_nb _) (by decide) (by decide))))) (v1) (v2 + 1) (q_rg_le (L := 0) (U := 4) (q_rg_add (L := 1) (U := 4) g54 (q_rg_lit (n := 1) (x := 1) rfl) (by decide) (by decide) (by decide) (by decide)) (by decide) (by decide)) (q_meu g54 m2 (by decide) (by decide))
    | false =>
      refine q_E_F ?_
      refine q_E_A (q_in_rg g54 (by decide) (by decide)) ?_
      refine q_E_A (q_in_rg (q_rg_add (L := 4) (U := 7) (q_rg_lit (n := 4) (x := 4) rfl) g54 (by decide) (by decide) (by decide) (by decide)) (by decide) (by decide)) ?_
      have j57 : q_Iv c d w (q_sA s 33 (upd (s.1 33) (v2.toNatClampNeg) (vp_nar .boolean 0))) := (q_Iv_A (i := 33) hI (q_hf_up ((hI).1 33) (q_s33 (q_rg_le (L := 0) (U := 1) (q_rg_nb _) (by decide) (by decide)))))
      refine q_E_L ?_
      generalize (q_sA s 33 (upd (s.1 33) (v2.toNatClampNeg) (vp_nar .boolean 0))) = r3 at j57 ⊢
      exact tk2 (q_sA r3 33 (upd (r3.1 33) (((4 : Int32) + v2).toNatClampNeg) (vp_nar .boolean 0))) (q_Iv_A (i := 33) j57 (q_hf_up ((j57).1 33) (q_s33 (q_rg_le (L := 0) (U := 1) (q_rg_nb _) (by decide) (by decide))))) (v1) (v2 + 1) (q_rg_le (L := 0) (U := 4) (q_rg_add (L := 1) (U := 4) g54 (q_rg_lit (n := 1) (x := 1) rfl) (by decide) (by decide) (by decide) (by decide)) (by decide) (by decide)) (q_meu g54 m2 (by decide) (by decide))
  | false =>
    have g58 := (q_rg_ltF1 (l2 := 4) (u := 4) h53 rv2 (q_rg_lit (n := 4) (x := 4) rfl))
    refine q_E_F ?_
    exact dzj_M208_64_35 c d w 4999 (s) hI (0) (q_rg_le (L := 0) (U := 8) (q_rg_lit (n := 0) (x := 0) rfl) (by decide) (by decide)) (q_meu0 (q_rg_lit (n := 0) (x := 0) rfl) (by decide) (by decide))
theorem dzj_M208_64_2 (c d w : Int) : ∀ (m : Nat) (s : q_S) (hI : q_Iv c d w s) (v1 : Int32) (v2 : Int32) (rv2 : q_rgz 0 4 v2), ((4 - v2.toInt).toNat : Int) ≤ (m : Int) → q_Ex (dz_M208_64_2 (m + 1) s v1 v2) (fun (x : q_S × Int32) => q_Iv c d w x.1 ∧ q_rgz 0 15 x.2) := by
  intro m
  induction m with
  | zero => intro s hI v1 v2 rv2 hm; rw [dzs_M208_64_2]; exact dzjb_M208_64_2 c d w (dz_M208_64_2 0) (-1) (fun s hI v1 v2 rv2 hm => absurd hm (by omega)) s hI v1 v2 rv2 (by omega)
  | succ m ih => intro s hI v1 v2 rv2 hm; rw [dzs_M208_64_2]; exact dzjb_M208_64_2 c d w (dz_M208_64_2 (m + 1)) (m : Int) (fun s hI v1 v2 rv2 hm => ih s hI v1 v2 rv2 hm) s hI v1 v2 rv2 (by omega)
set_option maxHeartbeats 4000000 in
theorem dzj_M208_64 (c d w : Int) (s : q_S) (hI : q_Iv c d w s) (a1 : Int32) : q_Ex (dz_M208_64 s a1) (fun (x : q_S × Int32) => q_Iv c d w x.1 ∧ q_rgz 0 15 x.2) := by
  unfold dz_M208_64
  exact dzj_M208_64_2 c d w 4999 (s) hI (a1) (0) (q_rg_le (L := 0) (U := 4) (q_rg_lit (n := 0) (x := 0) rfl) (by decide) (by decide)) (q_meu0 (q_rg_lit (n := 0) (x := 0) rfl) (by decide) (by decide))
set_option maxHeartbeats 4000000 in
theorem dzj_M210_64 (c d w : Int) (s : q_S) (hI : q_Iv c d w s) (a1 : Int32) (ra1 : q_rgz 0 47 a1) : q_Ex (dz_M210_64 s a1) (fun (x : q_S × Int32) => q_Iv c d w x.1 ∧ q_rgz 0 255 x.2) := by
  unfold dz_M210_64
  cases h84 : decide (a1 = 9) with
  | true =>
    have g85 := q_rg_eqT h84 (q_rg_lit (n := 9) (x := 9) rfl)
    refine q_E_T ?_
    have j86 := dzj_M207_64 c d w (s) hI
    refine q_E_L ?_
    generalize dz_M207_64 s = r3 at j86 ⊢
    exact q_E_x ⟨hI, q_rg_le j86 (by decide) (by decide)⟩
  | false =>
    refine q_E_F ?_
    cases h87 : decide (a1 = 10) with
    | true =>
      have g88 := q_rg_eqT h87 (q_rg_lit (n := 10) (x := 10) rfl)
      refine q_E_T ?_
      exact q_E_x ⟨hI, q_rg_le (q_n9 hI) (by decide) (by decide)⟩
    | false =>
      refine q_E_F ?_
      refine q_E_L ?_
      generalize p89 : dz_M202 s a1 12 15 = r4
      cases r4 with
      | true =>
        have g90 : q_rgz 12 15 (a1) := ⟨(q_p202 p89 (q_rg_lit (n := 12) (x := 12) rfl) (q_rg_lit (n := 15) (x := 15) rfl)).1, (q_p202 p89 (q_rg_lit (n := 12) (x := 12) rfl) (q_rg_lit (n := 15) (x := 15) rfl)).2⟩
        refine q_E_T ?_
        cases h91 : decide (a1 - a1 / 2 * 2 = 0) with
        | true =>
          have g92 := q_rg_eqT h91 (q_rg_lit (n := 0) (x := 0) rfl)
          refine q_E_T ?_
          refine q_E_A (q_in_rg (q_rg_add (L := 5) (U := 6) (q_rg_lit (n := 5) (x := 5) rfl) (q_rg_div (c := 2) (U := 1) (q_rg_sub (L := 0) (U := 3) g90 (q_rg_lit (n := 12) (x := 12) rfl) (by decide) (by decide) (by decide) (by decide)) (by decide) rfl (by decide) (by decide)) (by decide) (by decide) (by decide) (by decide)) (by decide) (by decide)) ?_
          exact q_E_x ⟨hI, q_rg_le (q_rg_rem (c := 256) (U := 255) (q_rdv (i := 14) (a := 5) (n := 2) (L := 0) (U := 65535) hI (q_rg_le (q_rg_add (L := 5) (U := 6) (q_rg_lit (n := 5) (x := 5) rfl) (q_rg_div (c := 2) (U := 1) (q_rg_sub (L := 0) (U := 3) g90 (q_rg_lit (n := 12) (x := 12) rfl) (by decide) (by decide) (by decide) (by decide)) (by decide) rfl (by decide) (by decide)) (by decide) (by decide) (by decide) (by decide)) (by decide) (by decide)) rfl (by decide)) (by decide) rfl (by decide) (by decide)) (by decide) (by decide)⟩
        | false =>
          have g93 := (q_rg_neL (l := 0) (u := 1) (n := 0) (L := 1) h91 (q_rg_rem (c := 2) (U := 1) g90 (by decide) rfl (by decide) (by decide)) rfl (by decide) (by decide))
          refine q_E_F ?_
          refine q_E_A (q_in_rg (q_rg_add (L := 5) (U := 6) (q_rg_lit (n := 5) (x := 5) rfl) (q_rg_div (c := 2) (U := 1) (q_rg_sub (L := 0) (U := 3) g90 (q_rg_lit (n := 12) (x := 12) rfl) (by decide) (by decide) (by decide) (by decide)) (by decide) rfl (by decide) (by decide)) (by decide) (by decide) (by decide) (by decide)) (by decide) (by decide)) ?_
          exact q_E_x ⟨hI, q_rg_le (q_rg_rem2 (c := 256) (q_rg_div (c := 256) (U := 255) (q_rdv (i := 14) (a := 5) (n := 2) (L := 0) (U := 65535) hI (q_rg_le (q_rg_add (L := 5) (U := 6) (q_rg_lit (n := 5) (x := 5) rfl) (q_rg_div (c := 2) (U := 1) (q_rg_sub (L := 0) (U := 3) g90 (q_rg_lit (n := 12) (x := 12) rfl) (by decide) (by decide) (by decide) (by decide)) (by decide) rfl (by decide) (by decide)) (by decide) (by decide) (by decide) (by decide)) (by decide) (by decide)) rfl (by decide)) (by decide) rfl (by decide) (by decide)) (by decide) rfl (by decide)) (by decide) (by decide)⟩
      | false =>
        refine q_E_F ?_
        cases h94 : decide (a1 = 29) with
        | true =>
          have g95 := q_rg_eqT h94 (q_rg_lit (n := 29) (x := 29) rfl)
          refine q_E_T ?_
          exact q_E_x ⟨hI, q_rg_le (q_n10 hI) (by decide) (by decide)⟩
        | false =>
          refine q_E_F ?_
          cases h96 : decide (a1 = 30) with
          | true =>
            have g97 := q_rg_eqT h96 (q_rg_lit (n := 30) (x := 30) rfl)
            refine q_E_T ?_
            exact q_E_x ⟨hI, q_rg_le (q_n11 hI) (by decide) (by decide)⟩
          | false =>
            refine q_E_F ?_
            cases h98 : decide (a1 = 31) with
            | true =>
              have g99 := q_rg_eqT h98 (q_rg_lit (n := 31) (x := 31) rfl)
              refine q_E_T ?_
              obtain ⟨r5, e101, j100⟩ := dzj_M208_64 c d w (s) hI ((s.1 4) 31)
              rw [e101]
              refine q_E_B ?_
              exact q_E_x ⟨j100.1, q_rg_le (q_rg_add (L := 0) (U := 255) j100.2 (q_rg_mul (L := 0) (U := 240) (q_rg_lit (n := 16) (x := 16) rfl) (q_n12 j100.1) (by decide) (by decide) (by decide) (by decide) (by decide) (by decide)) (by decide) (by decide) (by decide) (by decide)) (by decide) (by decide)⟩
            | false =>
              refine q_E_F ?_
              cases h102 : decide (a1 = 44) with
              | true =>
                have g103 := q_rg_eqT h102 (q_rg_lit (n := 44) (x := 44) rfl)
                refine q_E_T ?_
                refine q_E_L ?_
                generalize p104 : dz_M209_64 s = r6
                cases r6 with
                | true =>
                  have g105 : q_rgz 0 39 ((s.1 14) 14) := q_p209 (s := s) hI p104
                  refine q_E_T ?_
                  exact q_E_x ⟨hI, q_rg_le (q_rg_add (L := 4) (U := 7) (q_rg_add (L := 0) (U := 3) (q_g44 hI) (q_rg_mul (L := 0) (U := 2) (q_rg_lit (n := 2) (x := 2) rfl) (q_n16 hI) (by decide) (by decide) (by decide) (by decide) (by decide) (by decide)) (by decide) (by decide) (by decide) (by decide)) (q_rg_lit (n := 4) (x := 4) rfl) (by decide) (by decide) (by decide) (by decide)) (by decide) (by decide)⟩
                | false =>
                  refine q_E_F ?_
                  exact q_E_x ⟨hI, q_rg_le (q_rg_add (L := 0) (U := 3) (q_rg_add (L := 0) (U := 3) (q_g44 hI) (q_rg_mul (L := 0) (U := 2) (q_rg_lit (n := 2) (x := 2) rfl) (q_n16 hI) (by decide) (by decide) (by decide) (by decide) (by decide) (by decide)) (by decide) (by decide) (by decide) (by decide)) (q_rg_lit (n := 0) (x := 0) rfl) (by decide) (by decide) (by decide) (by decide)) (by decide) (by decide)⟩
              | false =>
                refine q_E_F ?_
                cases h106 : decide (44 < a1) with
                | true =>
                  have g107 := (q_rg_ltT2 (L := 45) (u2 := 47) h106 (q_rg_lit (n := 44) (x := 44) rfl) ra1 (by decide))
                  refine q_E_T ?_
                  exact q_E_x ⟨hI, q_rg_le (q_rg_lit (n := 0) (x := 0) rfl) (by decide) (by decide)⟩
                | false =>
                  have g108 := (q_rg_ltF2 (l2 := 0) (u := 44) h106 (q_rg_lit (n := 44) (x := 44) rfl) ra1)
                  refine q_E_F ?_
                  refine q_E_A (q_in_rg g108 (by decide) (by decide)) ?_
                  exact q_E_x ⟨hI, q_rg_le (q_rdv (i := 4) (a := 0) (n := 45) (L := 0) (U := 255) hI (q_rg_le g108 (by decide) (by decide)) rfl (by decide)) (by decide) (by decide)⟩
set_option maxHeartbeats 4000000 in
theorem dzj_M211 (c d w : Int) (s : q_S) (hI : q_Iv c d w s) (a0 : Int32) : (fun x => q_rgz 1 8 x) (dz_M211 s a0) := by
  refine q_S_of (P := (fun x => q_rgz 1 8 x)) ?_
  unfold dz_M211
  cases h125 : decide (a0 = 1) with
  | true =>
    have g126 := q_rg_eqT h125 (q_rg_lit (n := 1) (x := 1) rfl)
    refine q_S_T ?_
    exact q_E_x (q_rg_le (q_rg_lit (n := 2) (x := 2) rfl) (by decide) (by decide))
  | false =>
    refine q_S_F ?_
    cases h127 : decide (a0 = 2) with
    | true =>
      have g128 := q_rg_eqT h127 (q_rg_lit (n := 2) (x := 2) rfl)
      refine q_S_T ?_
      exact q_E_x (q_rg_le (q_rg_lit (n := 5) (x := 5) rfl) (by decide) (by decide))
    | false =>
      refine q_S_F ?_
      cases h129 : decide (a0 = 16) with
      | true =>
        have g130 := q_rg_eqT h129 (q_rg_lit (n := 16) (x := 16) rfl)
        refine q_S_T ?_
        exact q_E_x (q_rg_le (q_rg_lit (n := 3) (x := 3) rfl) (by decide) (by decide))
      | false =>
        refine q_S_F ?_
        refine q_S_L ?_
        generalize p131 : dz_M202 s a0 20 27 = r1
        cases r1 with
        | true =>
          have g132 : q_rgz 20 27 (a0) := ⟨(q_p202 p131 (q_rg_lit (n := 20) (x := 20) rfl) (q_rg_lit (n := 27) (x := 27) rfl)).1, (q_p202 p131 (q_rg_lit (n := 20) (x := 20) rfl) (q_rg_lit (n := 27) (x := 27) rfl)).2⟩
          refine q_S_T ?_
          exact q_E_x (q_rg_le (q_rg_lit (n := 6) (x := 6) rfl) (by decide) (by decide))
        | false =>
          refine q_S_F ?_
          cases h133 : decide (a0 = 9) with
          | true =>
            have g134 := q_rg_eqT h133 (q_rg_lit (n := 9) (x := 9) rfl)
            refine q_S_T ?_
            exact q_E_x (q_rg_le (q_rg_lit (n := 8) (x := 8) rfl) (by decide) (by decide))
          | false =>
            refine q_S_F ?_
            refine q_S_L ?_
            generalize p135 : dz_M202 s a0 12 15 = r2
            cases r2 with
            | true =>
              have g136 : q_rgz 12 15 (a0) := ⟨(q_p202 p135 (q_rg_lit (n := 12) (x := 12) rfl) (q_rg_lit (n := 15) (x := 15) rfl)).1, (q_p202 p135 (q_rg_lit (n := 12) (x := 12) rfl) (q_rg_lit (n := 15) (x := 15) rfl)).2⟩
              refine q_S_T ?_
              exact q_E_x (q_rg_le (q_rg_lit (n := 8) (x := 8) rfl) (by decide) (by decide))
            | false =>
              refine q_S_F ?_
              refine q_S_L ?_
              generalize p137 : dz_M202 s a0 32 43 = r3
              cases r3 with
              | true =>
                have g138 : q_rgz 32 43 (a0) := ⟨(q_p202 p137 (q_rg_lit (n := 32) (x := 32) rfl) (q_rg_lit (n := 43) (x := 43) rfl)).1, (q_p202 p137 (q_rg_lit (n := 32) (x := 32) rfl) (q_rg_lit (n := 43) (x := 43) rfl)).2⟩
                refine q_S_T ?_
                exact q_E_x (q_rg_le (q_rg_lit (n := 8) (x := 8) rfl) (by decide) (by decide))
              | false =>
                refine q_S_F ?_
                cases h139 : decide (a0 = 44) with
                | true =>
                  have g140 := q_rg_eqT h139 (q_rg_lit (n := 44) (x := 44) rfl)
                  refine q_S_T ?_
                  exact q_E_x (q_rg_le (q_rg_lit (n := 1) (x := 1) rfl) (by decide) (by decide))
                | false =>
                  refine q_S_F ?_
                  exact q_E_x (q_rg_le (q_rg_lit (n := 4) (x := 4) rfl) (by decide) (by decide))
theorem q_wr (c d w : Int) (s : q_S) (hI : q_Iv c d w s) (a1 a2 : Int32) (ha : q_rgz 0 47 a1) (h2 : q_rgz 0 255 a2) : q_rgz (q_la 4 a1.toNatClampNeg) (q_ha d 4 a1.toNatClampNeg) (a2 &&& (((1 : Int32) <<< (dz_M211 s a1 &&& 31)) - 1)) := by
  have b : q_rgz 0 255 (a2 &&& (((1 : Int32) <<< (dz_M211 s a1 &&& 31)) - 1)) := q_rg_and1 h2 (by decide)
  by_cases e0 : a1.toInt = 0
  · have e : a1 = 0 := Int32.toInt_inj.mp e0
    subst e
    rw [show dz_M211 s 0 = 4 from rfl, show ((1 : Int32) <<< ((4 : Int32) &&& 31)) - 1 = 15 from by decide]
    exact (q_rg_and a2 15 (U := 15) (by decide) rfl : q_rgz 0 15 (a2 &&& 15))
  · by_cases e4 : a1.toInt = 44
    · have e : a1 = 44 := Int32.toInt_inj.mp e4
      subst e
      rw [show dz_M211 s 44 = 1 from rfl, show ((1 : Int32) <<< ((1 : Int32) &&& 31)) - 1 = 1 from by decide]
      exact (q_rg_and a2 1 (U := 1) (by decide) rfl : q_rgz 0 1 (a2 &&& 1))
    · have hl : q_la 4 a1.toNatClampNeg = 0 := rfl
      have n0 : a1.toNatClampNeg = a1.toInt.toNat := rfl
      have l0 := ha.1
      have hh : q_ha d 4 a1.toNatClampNeg = 255 := by
        show q_hg a1.toNatClampNeg = 255
        unfold q_hg
        rw [show Nat.beq a1.toNatClampNeg 0 = false from by
          cases e9 : Nat.beq a1.toNatClampNeg 0 with
          | false => rfl
          | true => have := Nat.eq_of_beq_eq_true e9; omega]
        rw [show Nat.beq a1.toNatClampNeg 44 = false from by
          cases e9 : Nat.beq a1.toNatClampNeg 44 with
          | false => rfl
          | true => have := Nat.eq_of_beq_eq_true e9; omega]
        rfl
      rw [hl, hh]
      exact b

set_option maxHeartbeats 4000000 in
theorem dzjb_M212_64_126 (c d w : Int) (k126 : q_S → Int32 → Int32 → Int32 → Option (q_S)) (M126 : Int) (tk126 : ∀ (s : q_S), q_Iv c d w s → ∀ (v1 : Int32) (v3 : Int32) (v4 : Int32), q_rgz 0 47 v1 → q_rgz 0 255 v3 → q_rgz 0 2 v4 → (q_rgz (q_la 4 v1.toNatClampNeg) (q_ha d 4 v1.toNatClampNeg) v3) → ((2 - v4.toInt).toNat : Int) ≤ M126 → q_Ex (k126 s v1 v3 v4) (q_Iv c d w)) (s : q_S) (hI : q_Iv c d w s) (v1 : Int32) (v3 : Int32) (v4 : Int32) (rv1 : q_rgz 0 47 v1) (rv3 : q_rgz 0 255 v3) (rv4 : q_rgz 0 2 v4) (hx : q_rgz (q_la 4 v1.toNatClampNeg) (q_ha d 4 v1.toNatClampNeg) v3) (m126 : ((2 - v4.toInt).toNat : Int) ≤ M126 + 1) : q_Ex (cond (decide (v1 = 16)) (cond (decide (v4 < 2)) (q_let (dz_M206 s v3 v4) fun r3 => cond r3 (q_let (dz_M206 s ((s.1 4) 16) v4) fun r4 => cond r4 (k126 s v1 v3 (v4 + 1)) (cond (q_in ((7 : Int32) + v4) 24) (cond (q_in ((5 : Int32) + v4) 24) (k126 (q_sA s 14 (upd (s.1 14) (((5 : Int32) + v4).toNatClampNeg) ((s.1 14) (((7 : Int32) + v4).toNatClampNeg)))) v1 v3 (v4 + 1)) none) none)) (k126 s v1 v3 (v4 + 1))) (cond (q_in v1 48) (some (q_sA s 4 (upd (s.1 4) (v1.toNatClampNeg) v3))) none)) (cond (q_in v1 48) (some (q_sA s 4 (upd (s.1 4) (v1.toNatClampNeg) v3))) none)) (q_Iv c d w) := by
  cases h163 : decide (v1 = 16) with
  | true =>
    have g164 := q_rg_eqT h163 (q_rg_lit (n := 16) (x := 16) rfl)
    refine q_E_T ?_
    cases h165 : decide (v4 < 2) with
    | true =>
      have g166 := (q_rg_ltT1 (l := 0) (U := 1) h165 rv4 (q_rg_lit (n := 2) (x := 2) rfl) (by decide))
      refine q_E_T ?_
      refine q_E_L ?_
      generalize p167 : dz_M206 s v3 v4 = r3
      cases r3 with
      | true =>
        refine q_E_T ?_
        refine q_E_L ?_
        generalize p168 : dz_M206 s ((s.1 4) 16) v4 = r4
        cases r4 with
        | true =>
          refine q_E_T ?_
          exact tk126 (s) hI (v1) (v3) (v4 + 1) (q_rg_le (L := 0) (U := 47) g164 (by decide) (by decide)) (q_rg_le (L := 0) (U := 255) rv3 (by decide) (by decide)) (q_rg_le (L := 0) (U := 2) (q_rg_add (L := 1) (U := 2) g166 (q_rg_lit (n := 1) (x := 1) rfl) (by decide) (by decide) (by decide) (by decide)) (by decide) (by decide)) hx (q_meu g166 m126 (by decide) (by decide))
        | false =>
          refine q_E_F ?_
          refine q_E_A (q_in_rg (q_rg_add (L := 7) (U := 8) (q_rg_lit (n := 7) (x := 7) rfl) g166 (by decide) (by decide) (by decide) (by decide)) (by decide) (by decide)) ?_
          refine q_E_A (q_in_rg (q_rg_add (L := 5) (U := 6) (q_rg_lit (n := 5) (x := 5) rfl) g166 (by decide) (by decide) (by decide) (by decide)) (by decide) (by decide)) ?_
          exact tk126 (q_sA s 14 (upd (s.1 14) (((5 : Int32) + v4).toNatClampNeg) ((s.1 14) (((7 : Int32) + v4).toNatClampNeg)))) (q_Iv_A (i := 14) hI (q_hf_up ((hI).1 14) (q_stv (i := 14) (a := 5) (n := 2) (L := 0) (U := 65535) hI (q_rg_le (q_rg_add (L := 5) (U := 6) (q_rg_lit (n := 5) (x := 5) rfl) g166 (by decide) (by decide) (by decide) (by decide)) (by decide) (by decide)) (by decide) (q_rdv (i := 14) (a := 7) (n := 2) (L := 0) (U := 65535) hI (q_rg_le (q_rg_add (L := 7) (U := 8) (q_rg_lit (n := 7) (x := 7) rfl) g166 (by decide) (by decide) (by decide) (by decide)) (by decide) (by decide)) rfl (by decide))))) (v1) (v3) (v4 + 1) (q_rg_le (L := 0) (U := 47) g164 (by decide) (by decide)) (q_rg_le (L := 0) (U := 255) rv3 (by decide) (by decide)) (q_rg_le (L := 0) (U := 2) (q_rg_add (L := 1) (U := 2) g166 (q_rg_lit (n := 1) (x := 1) rfl) (by decide) (by decide) (by decide) (by decide)) (by decide) (by decide)) hx (q_meu g166 m126 (by decide) (by decide))
      | false =>
        refine q_E_F ?_
        exact tk126 (s) hI (v1) (v3) (v4 + 1) (q_rg_le (L := 0) (U := 47) g164 (by decide) (by decide)) (q_rg_le (L := 0) (U := 255) rv3 (by decide) (by decide)) (q_rg_le (L := 0) (U := 2) (q_rg_add (L := 1) (U := 2) g166 (q_rg_lit (n := 1) (x := 1) rfl) (by decide) (by decide) (by decide) (by decide)) (by decide) (by decide)) hx (q_meu g166 m126 (by decide) (by decide))
    | false =>
      have g169 := (q_rg_ltF1 (l2 := 2) (u := 2) h165 rv4 (q_rg_lit (n := 2) (x := 2) rfl))
      refine q_E_F ?_
      refine q_E_A (q_in_rg g164 (by decide) (by decide)) ?_
      exact q_E_x (q_Iv_A (i := 4) hI (q_hf_up ((hI).1 4) hx))
  | false =>
    refine q_E_F ?_
    refine q_E_A (q_in_rg rv1 (by decide) (by decide)) ?_
    exact q_E_x (q_Iv_A (i := 4) hI (q_hf_up ((hI).1 4) hx))
theorem dzj_M212_64_126 (c d w : Int) : ∀ (m : Nat) (s : q_S) (hI : q_Iv c d w s) (v1 : Int32) (v3 : Int32) (v4 : Int32) (rv1 : q_rgz 0 47 v1) (rv3 : q_rgz 0 255 v3) (rv4 : q_rgz 0 2 v4) (hx : q_rgz (q_la 4 v1.toNatClampNeg) (q_ha d 4 v1.toNatClampNeg) v3), ((2 - v4.toInt).toNat : Int) ≤ (m : Int) → q_Ex (dz_M212_64_126 (m + 1) s v1 v3 v4) (q_Iv c d w) := by
  intro m
  induction m with
  | zero => intro s hI v1 v3 v4 rv1 rv3 rv4 hx hm; rw [dzs_M212_64_126]; exact dzjb_M212_64_126 c d w (dz_M212_64_126 0) (-1) (fun s hI v1 v3 v4 rv1 rv3 rv4 hx hm => absurd hm (by omega)) s hI v1 v3 v4 rv1 rv3 rv4 hx (by omega)
  | succ m ih => intro s hI v1 v3 v4 rv1 rv3 rv4 hx hm; rw [dzs_M212_64_126]; exact dzjb_M212_64_126 c d w (dz_M212_64_126 (m + 1)) (m : Int) (fun s hI v1 v3 v4 rv1 rv3 rv4 hx hm => ih s hI v1 v3 v4 rv1 rv3 rv4 hx hm) s hI v1 v3 v4 rv1 rv3 rv4 hx (by omega)
set_option maxHeartbeats 4000000 in
theorem dzj_M212_64 (c d w : Int) (s : q_S) (hI : q_Iv c d w s) (a1 : Int32) (a2 : Int32) (ra1 : q_rgz 0 47 a1) (ra2 : q_rgz 0 255 a2) : q_Ex (dz_M212_64 s a1 a2) (q_Iv c d w) := by
  unfold dz_M212_64
  cases h170 : decide (44 < a1) with
  | true =>
    have g171 := (q_rg_ltT2 (L := 45) (u2 := 47) h170 (q_rg_lit (n := 44) (x := 44) rfl) ra1 (by decide))
    refine q_E_T ?_
    exact q_E_x hI
  | false =>
    have g172 := (q_rg_ltF2 (l2 := 0) (u := 44) h170 (q_rg_lit (n := 44) (x := 44) rfl) ra1)
    refine q_E_F ?_
    cases h173 : decide (a1 = 29) with
    | true =>
      have g174 := q_rg_eqT h173 (q_rg_lit (n := 29) (x := 29) rfl)
      refine q_E_T ?_
      exact q_E_x hI
    | false =>
      refine q_E_F ?_
      cases h175 : decide (a1 = 30) with
      | true =>
        have g176 := q_rg_eqT h175 (q_rg_lit (n := 30) (x := 30) rfl)
        refine q_E_T ?_
        exact q_E_x hI
      | false =>
        refine q_E_F ?_
        have j177 := dzj_M211 c d w (s) hI (a1)
        have hwr := q_wr c d w s hI a1 a2 ra1 ra2
        refine q_E_L ?_
        generalize dz_M211 s a1 = r1 at j177 hwr ⊢
        cases h178 : decide (a1 = 10) with
        | true =>
          have g179 := q_rg_eqT h178 (q_rg_lit (n := 10) (x := 10) rfl)
          refine q_E_T ?_
          exact q_E_x (q_Iv_A (i := 14) hI (q_hf_up ((hI).1 14) (q_sn9 (q_rg_le (L := 0) (U := 15) (q_rg_and1 (q_n9 hI) (by decide)) (by decide) (by decide)))))
        | false =>
          refine q_E_F ?_
          refine q_E_L ?_
          generalize p180 : dz_M202 s a1 12 15 = r2
          cases r2 with
          | true =>
            have g181 : q_rgz 12 15 (a1) := ⟨(q_p202 p180 (q_rg_lit (n := 12) (x := 12) rfl) (q_rg_lit (n := 15) (x := 15) rfl)).1, (q_p202 p180 (q_rg_lit (n := 12) (x := 12) rfl) (q_rg_lit (n := 15) (x := 15) rfl)).2⟩
            refine q_E_T ?_
            cases h182 : decide (a1 - a1 / 2 * 2 = 0) with
            | true =>
              have g183 := q_rg_eqT h182 (q_rg_lit (n := 0) (x := 0) rfl)
              refine q_E_T ?_
              refine q_E_A (q_in_rg (q_rg_add (L := 7) (U := 8) (q_rg_lit (n := 7) (x := 7) rfl) (q_rg_div (c := 2) (U := 1) (q_rg_sub (L := 0) (U := 3) g181 (q_rg_lit (n := 12) (x := 12) rfl) (by decide) (by decide) (by decide) (by decide)) (by decide) rfl (by decide) (by decide)) (by decide) (by decide) (by decide) (by decide)) (by decide) (by decide)) ?_
              exact q_E_x (q_Iv_A (i := 14) hI (q_hf_up ((hI).1 14) (q_stv (i := 14) (a := 7) (n := 2) (L := 0) (U := 65535) hI (q_rg_le (q_rg_add (L := 7) (U := 8) (q_rg_lit (n := 7) (x := 7) rfl) (q_rg_div (c := 2) (U := 1) (q_rg_sub (L := 0) (U := 3) g181 (q_rg_lit (n := 12) (x := 12) rfl) (by decide) (by decide) (by decide) (by decide)) (by decide) rfl (by decide) (by decide)) (by decide) (by decide) (by decide) (by decide)) (by decide) (by decide)) (by decide) (q_rg_add (L := 0) (U := 65535) (q_rg_mul (L := 0) (U := 65280) (q_rg_div (c := 256) (U := 255) (q_rdv (i := 14) (a := 7) (n := 2) (L := 0) (U := 65535) hI (q_rg_le (q_rg_add (L := 7) (U := 8) (q_rg_lit (n := 7) (x := 7) rfl) (q_rg_div (c := 2) (U := 1) (q_rg_sub (L := 0) (U := 3) g181 (q_rg_lit (n := 12) (x := 12) rfl) (by decide) (by decide) (by decide) (by decide)) (by decide) rfl (by decide) (by decide)) (by decide) (by decide) (by decide) (by decide)) (by decide) (by decide)) rfl (by decide)) (by decide) rfl (by decide) (by decide)) (q_rg_lit (n := 256) (x := 256) rfl) (by decide) (by decide) (by decide) (by decide) (by decide) (by decide)) ra2 (by decide) (by decide) (by decide) (by decide)))))
            | false =>
              have g184 := (q_rg_neL (l := 0) (u := 1) (n := 0) (L := 1) h182 (q_rg_rem (c := 2) (U := 1) g181 (by decide) rfl (by decide) (by decide)) rfl (by decide) (by decide))
              refine q_E_F ?_
              refine q_E_A (q_in_rg (q_rg_add (L := 7) (U := 8) (q_rg_lit (n := 7) (x := 7) rfl) (q_rg_div (c := 2) (U := 1) (q_rg_sub (L := 0) (U := 3) g181 (q_rg_lit (n := 12) (x := 12) rfl) (by decide) (by decide) (by decide) (by decide)) (by decide) rfl (by decide) (by decide)) (by decide) (by decide) (by decide) (by decide)) (by decide) (by decide)) ?_
              exact q_E_x (q_Iv_A (i := 14) hI (q_hf_up ((hI).1 14) (q_stv (i := 14) (a := 7) (n := 2) (L := 0) (U := 65535) hI (q_rg_le (q_rg_add (L := 7) (U := 8) (q_rg_lit (n := 7) (x := 7) rfl) (q_rg_div (c := 2) (U := 1) (q_rg_sub (L := 0) (U := 3) g181 (q_rg_lit (n := 12) (x := 12) rfl) (by decide) (by decide) (by decide) (by decide)) (by decide) rfl (by decide) (by decide)) (by decide) (by decide) (by decide) (by decide)) (by decide) (by decide)) (by decide) (q_rg_add (L := 0) (U := 65535) (q_rg_rem (c := 256) (U := 255) (q_rdv (i := 14) (a := 7) (n := 2) (L := 0) (U := 65535) hI (q_rg_le (q_rg_add (L := 7) (U := 8) (q_rg_lit (n := 7) (x := 7) rfl) (q_rg_div (c := 2) (U := 1) (q_rg_sub (L := 0) (U := 3) g181 (q_rg_lit (n := 12) (x := 12) rfl) (by decide) (by decide) (by decide) (by decide)) (by decide) rfl (by decide) (by decide)) (by decide) (by decide) (by decide) (by decide)) (by decide) (by decide)) rfl (by decide)) (by decide) rfl (by decide) (by decide)) (q_rg_mul (L := 0) (U := 65280) (q_rg_lit (n := 256) (x := 256) rfl) ra2 (by decide) (by decide) (by decide) (by decide) (by decide) (by decide)) (by decide) (by decide) (by decide) (by decide)))))
          | false =>
            refine q_E_F ?_
            exact dzj_M212_64_126 c d w 4999 (s) hI (a1) (a2 &&& (((1 : Int32) <<< (r1 &&& 31)) - 1)) (0) (q_rg_le (L := 0) (U := 47) g172 (by decide) (by decide)) (q_rg_le (L := 0) (U := 255) (q_rg_and1 ra2 (by decide)) (by decide) (by decide)) (q_rg_le (L := 0) (U := 2) (q_rg_lit (n := 0) (x := 0) rfl) (by decide) (by decide)) hwr (q_meu0 (q_rg_lit (n := 0) (x := 0) rfl) (by decide) (by decide))
set_option maxHeartbeats 4000000 in
theorem dzj_M213 (c d w : Int) (s : q_S) (hI : q_Iv c d w s) (a0 : Int32) : (fun x => q_rgz 0 4095 x) (dz_M213 s a0) := by
  refine q_S_of (P := (fun x => q_rgz 0 4095 x)) ?_
  unfold dz_M213
  exact q_E_x (q_rg_le (q_rg_and a0 4095 (U := 4095) (by decide) rfl) (by decide) (by decide))
set_option maxHeartbeats 4000000 in
theorem dzj_M214_64_60 (c d w : Int) (s : q_S) (hI : q_Iv c d w s) (v1 : Int32) (rv1 : q_rgz 0 4095 v1) : q_Ex (dz_M214_64_60 s v1) (fun (x : q_S × Int32) => q_Iv c d w x.1 ∧ q_rgz 0 255 x.2) := by
  unfold dz_M214_64_60
  refine q_E_L ?_
  generalize p202 : dz_M202 s v1 2048 2559 = r7
  cases r7 with
  | true =>
    have g203 : q_rgz 2048 2559 (v1) := ⟨(q_p202 p202 (q_rg_lit (n := 2048) (x := 2048) rfl) (q_rg_lit (n := 2559) (x := 2559) rfl)).1, (q_p202 p202 (q_rg_lit (n := 2048) (x := 2048) rfl) (q_rg_lit (n := 2559) (x := 2559) rfl)).2⟩
    refine q_E_T ?_
    refine q_E_L ?_
    generalize p204 : dz_M206 s ((s.1 4) 0) 1 = r8
    cases r8 with
    | true =>
      refine q_E_T ?_
      refine q_E_A (q_in_rg (q_rg_sub (L := 0) (U := 2047) (q_rg_add (L := 2048) (U := 4095) (q_rg_mul (L := 0) (U := 1536) (q_rg_lit (n := 512) (x := 512) rfl) (q_rg_div (c := 4) (U := 3) (q_g0 hI) (by decide) rfl (by decide) (by decide)) (by decide) (by decide) (by decide) (by decide) (by decide) (by decide)) g203 (by decide) (by decide) (by decide) (by decide)) (q_rg_lit (n := 2048) (x := 2048) rfl) (by decide) (by decide) (by decide) (by decide)) (by decide) (by decide)) ?_
      exact q_E_x ⟨hI, q_rg_le (q_r3 hI _) (by decide) (by decide)⟩
    | false =>
      refine q_E_F ?_
      refine q_E_A (q_in_rg g203 (by decide) (by decide)) ?_
      exact q_E_x ⟨hI, q_rg_le (q_r1 hI _) (by decide) (by decide)⟩
  | false =>
    refine q_E_F ?_
    refine q_E_A (q_in_rg rv1 (by decide) (by decide)) ?_
    exact q_E_x ⟨hI, q_rg_le (q_r1 hI _) (by decide) (by decide)⟩
set_option maxHeartbeats 4000000 in
theorem dzj_M214_64 (c d w : Int) (s : q_S) (hI : q_Iv c d w s) (a1 : Int32) (ra1 : q_rgz 0 4095 a1) : q_Ex (dz_M214_64 s a1) (fun (x : q_S × Int32) => q_Iv c d w x.1 ∧ q_rgz 0 255 x.2) := by
  unfold dz_M214_64
  refine q_E_L ?_
  generalize p205 : dz_M202 s a1 3840 3887 = r3
  cases r3 with
  | true =>
    have g206 : q_rgz 3840 3887 (a1) := ⟨(q_p202 p205 (q_rg_lit (n := 3840) (x := 3840) rfl) (q_rg_lit (n := 3887) (x := 3887) rfl)).1, (q_p202 p205 (q_rg_lit (n := 3840) (x := 3840) rfl) (q_rg_lit (n := 3887) (x := 3887) rfl)).2⟩
    refine q_E_T ?_
    obtain ⟨r4, e208, j207⟩ := dzj_M210_64 c d w (s) hI (a1 - 3840) (q_rg_le (L := 0) (U := 47) (q_rg_sub (L := 0) (U := 47) g206 (q_rg_lit (n := 3840) (x := 3840) rfl) (by decide) (by decide) (by decide) (by decide)) (by decide) (by decide))
    rw [e208]
    refine q_E_B ?_
    exact q_E_x ⟨j207.1, q_rg_le j207.2 (by decide) (by decide)⟩
  | false =>
    refine q_E_F ?_
    refine q_E_L ?_
    generalize p209 : dz_M202 s a1 3072 3583 = r5
    cases r5 with
    | true =>
      have g210 : q_rgz 3072 3583 (a1) := ⟨(q_p202 p209 (q_rg_lit (n := 3072) (x := 3072) rfl) (q_rg_lit (n := 3583) (x := 3583) rfl)).1, (q_p202 p209 (q_rg_lit (n := 3072) (x := 3072) rfl) (q_rg_lit (n := 3583) (x := 3583) rfl)).2⟩
      refine q_E_T ?_
      refine q_E_L ?_
      generalize p211 : dz_M206 s ((s.1 4) 0) 0 = r6
      cases r6 with
      | true =>
        refine q_E_T ?_
        refine q_E_A (q_in_rg (q_rg_sub (L := 0) (U := 511) g210 (q_rg_lit (n := 3072) (x := 3072) rfl) (by decide) (by decide) (by decide) (by decide)) (by decide) (by decide)) ?_
        exact q_E_x ⟨hI, q_rg_le (q_r2 hI _) (by decide) (by decide)⟩
      | false =>
        refine q_E_F ?_
        exact dzj_M214_64_60 c d w (s) hI (a1) (q_rg_le (L := 0) (U := 4095) g210 (by decide) (by decide))
    | false =>
      refine q_E_F ?_
      exact dzj_M214_64_60 c d w (s) hI (a1) (q_rg_le (L := 0) (U := 4095) ra1 (by decide) (by decide))
set_option maxHeartbeats 4000000 in
theorem dzj_M215_64 (c d w : Int) (s : q_S) (hI : q_Iv c d w s) (a1 : Int32) (a2 : Int32) (ra1 : q_rgz 0 4095 a1) (ra2 : q_rgz 0 255 a2) : q_Ex (dz_M215_64 s a1 a2) (q_Iv c d w) := by
  unfold dz_M215_64
  refine q_E_L ?_
  generalize p216 : dz_M202 s a1 3840 3887 = r3
  cases r3 with
  | true =>
    have g217 : q_rgz 3840 3887 (a1) := ⟨(q_p202 p216 (q_rg_lit (n := 3840) (x := 3840) rfl) (q_rg_lit (n := 3887) (x := 3887) rfl)).1, (q_p202 p216 (q_rg_lit (n := 3840) (x := 3840) rfl) (q_rg_lit (n := 3887) (x := 3887) rfl)).2⟩
    refine q_E_T ?_
    obtain ⟨r4, e219, j218⟩ := dzj_M212_64 c d w (s) hI (a1 - 3840) (a2) (q_rg_le (L := 0) (U := 47) (q_rg_sub (L := 0) (U := 47) g217 (q_rg_lit (n := 3840) (x := 3840) rfl) (by decide) (by decide) (by decide) (by decide)) (by decide) (by decide)) (q_rg_le (L := 0) (U := 255) ra2 (by decide) (by decide))
    rw [e219]
    refine q_E_B ?_
    exact q_E_x j218
  | false =>
    refine q_E_F ?_
    refine q_E_A (q_in_rg ra1 (by decide) (by decide)) ?_
    exact q_E_x (q_Iv_A (i := 1) hI (q_hf_up ((hI).1 1) (q_s1z (q_rg_le (L := 0) (U := 255) ra2 (by decide) (by decide)))))
set_option maxHeartbeats 4000000 in
theorem dzj_M216_64 (c d w : Int) (s : q_S) (hI : q_Iv c d w s) (a1 : Int32) (a2 : Int32) : q_Ex (dz_M216_64 s a1 a2) (fun (x : q_S × Int32) => q_Iv c d w x.1 ∧ q_rgz (-2147483648) 2147483647 x.2) := by
  unfold dz_M216_64
  refine q_E_L ?_
  generalize p235 : dz_M204 s a1 = r4
  cases r4 with
  | true =>
    refine q_E_T ?_
    have j236 := q_fails (s) (1) hI
    refine q_E_L ?_
    generalize dz_M200_64 s 1 = r5 at j236 ⊢
    cases h237 : r5.2 with
    | true =>
      refine q_E_T ?_
      exact q_E_x ⟨j236.1, q_rg_le (q_rg_lit (n := 0) (x := 0) rfl) (by decide) (by decide)⟩
    | false =>
      exact (q_failsF j236 h237 (q_rg_lit (n := 1) (x := 1) rfl) (by decide)).elim
  | false =>
    have g238 : q_rgz 0 4095 (a1) := ⟨(q_p204 p235).1, (q_p204 p235).2⟩
    refine q_E_F ?_
    refine q_E_L ?_
    generalize p239 : dz_M203 s a2 = r9
    cases r9 with
    | true =>
      refine q_E_T ?_
      have j240 := q_fails (s) (2) hI
      refine q_E_L ?_
      generalize dz_M200_64 s 2 = r10 at j240 ⊢
      cases h241 : r10.2 with
      | true =>
        refine q_E_T ?_
        exact q_E_x ⟨j240.1, q_rg_le (q_rg_lit (n := 0) (x := 0) rfl) (by decide) (by decide)⟩
      | false =>
        exact (q_failsF j240 h241 (q_rg_lit (n := 2) (x := 2) rfl) (by decide)).elim
    | false =>
      have g242 : q_rgz 0 255 (a2) := ⟨(q_p203 p239).1, (q_p203 p239).2⟩
      refine q_E_F ?_
      have j243 := q_fails (s) (0) hI
      refine q_E_L ?_
      generalize dz_M200_64 s 0 = r14 at j243 ⊢
      cases h244 : r14.2 with
      | true =>
        exact (q_failsT j243 h244 (q_rg_lit (n := 0) (x := 0) rfl) (by decide)).elim
      | false =>
        refine q_E_F ?_
        obtain ⟨r15, e246, j245⟩ := dzj_M214_64 c d w (r14.1) j243.1 (a1) (q_rg_le (L := 0) (U := 4095) g238 (by decide) (by decide))
        rw [e246]
        refine q_E_B ?_
        obtain ⟨r16, e248, j247⟩ := dzj_M215_64 c d w (r15.1) j245.1 (a1) (a2) (q_rg_le (L := 0) (U := 4095) g238 (by decide) (by decide)) (q_rg_le (L := 0) (U := 255) g242 (by decide) (by decide))
        rw [e248]
        refine q_E_B ?_
        have j249 := dzj_M205_64 c d w (r16) j247
        refine q_E_L ?_
        generalize dz_M205_64 r16 = r17 at j249 ⊢
        exact q_E_x ⟨j249, q_rg_le j245.2 (by decide) (by decide)⟩
set_option maxHeartbeats 4000000 in
theorem dzj_M217_64 (c d w : Int) (s : q_S) (hI : q_Iv c d w s) (a1 : Int32) (a2 : Int32) : q_Ex (dz_M217_64 s a1 a2) (fun (x : q_S × Int32) => q_Iv c d w x.1 ∧ q_rgz (-2147483648) 2147483647 x.2) := by
  unfold dz_M217_64
  refine q_E_L ?_
  generalize p261 : dz_M202 s a1 0 511 = r4
  cases r4 with
  | true =>
    have g262 : q_rgz 0 511 (a1) := ⟨(q_p202 p261 (q_rg_lit (n := 0) (x := 0) rfl) (q_rg_lit (n := 511) (x := 511) rfl)).1, (q_p202 p261 (q_rg_lit (n := 0) (x := 0) rfl) (q_rg_lit (n := 511) (x := 511) rfl)).2⟩
    refine q_E_T ?_
    refine q_E_L ?_
    generalize p263 : dz_M203 s a2 = r5
    cases r5 with
    | true =>
      refine q_E_T ?_
      have j264 := q_fails (s) (2) hI
      refine q_E_L ?_
      generalize dz_M200_64 s 2 = r6 at j264 ⊢
      cases h265 : r6.2 with
      | true =>
        refine q_E_T ?_
        exact q_E_x ⟨j264.1, q_rg_le (q_rg_lit (n := 0) (x := 0) rfl) (by decide) (by decide)⟩
      | false =>
        exact (q_failsF j264 h265 (q_rg_lit (n := 2) (x := 2) rfl) (by decide)).elim
    | false =>
      have g266 : q_rgz 0 255 (a2) := ⟨(q_p203 p263).1, (q_p203 p263).2⟩
      refine q_E_F ?_
      have j267 := q_fails (s) (0) hI
      refine q_E_L ?_
      generalize dz_M200_64 s 0 = r8 at j267 ⊢
      cases h268 : r8.2 with
      | true =>
        exact (q_failsT j267 h268 (q_rg_lit (n := 0) (x := 0) rfl) (by decide)).elim
      | false =>
        refine q_E_F ?_
        refine q_E_A (q_in_rg g262 (by decide) (by decide)) ?_
        have j269 := dzj_M205_64 c d w (q_sA r8.1 2 (upd (r8.1.1 2) (a1.toNatClampNeg) a2)) (q_Iv_A (i := 2) j267.1 (q_hf_up ((j267.1).1 2) (q_s2z (q_rg_le (L := 0) (U := 255) g266 (by decide) (by decide)))))
        refine q_E_L ?_
        generalize dz_M205_64 (q_sA r8.1 2 (upd (r8.1.1 2) (a1.toNatClampNeg) a2)) = r9 at j269 ⊢
        exact q_E_x ⟨j269, q_rg_le (q_r2 j267.1 _) (by decide) (by decide)⟩
  | false =>
    refine q_E_F ?_
    have j270 := q_fails (s) (1) hI
    refine q_E_L ?_
    generalize dz_M200_64 s 1 = r10 at j270 ⊢
    cases h271 : r10.2 with
    | true =>
      refine q_E_T ?_
      exact q_E_x ⟨j270.1, q_rg_le (q_rg_lit (n := 0) (x := 0) rfl) (by decide) (by decide)⟩
    | false =>
      exact (q_failsF j270 h271 (q_rg_lit (n := 1) (x := 1) rfl) (by decide)).elim
set_option maxHeartbeats 4000000 in
theorem dzj_M218_64 (c d w : Int) (s : q_S) (hI : q_Iv c d w s) (a1 : Int32) (a2 : Int32) (a3 : Int32) : q_Ex (dz_M218_64 s a1 a2 a3) (fun (x : q_S × Int32) => q_Iv c d w x.1 ∧ q_rgz (-2147483648) 2147483647 x.2) := by
  unfold dz_M218_64
  refine q_E_L ?_
  generalize p287 : dz_M202 s a1 0 3 = r5
  cases r5 with
  | true =>
    have g288 : q_rgz 0 3 (a1) := ⟨(q_p202 p287 (q_rg_lit (n := 0) (x := 0) rfl) (q_rg_lit (n := 3) (x := 3) rfl)).1, (q_p202 p287 (q_rg_lit (n := 0) (x := 0) rfl) (q_rg_lit (n := 3) (x := 3) rfl)).2⟩
    refine q_E_T ?_
    refine q_E_L ?_
    generalize p289 : dz_M202 s a2 0 511 = r6
    cases r6 with
    | true =>
      have g290 : q_rgz 0 511 (a2) := ⟨(q_p202 p289 (q_rg_lit (n := 0) (x := 0) rfl) (q_rg_lit (n := 511) (x := 511) rfl)).1, (q_p202 p289 (q_rg_lit (n := 0) (x := 0) rfl) (q_rg_lit (n := 511) (x := 511) rfl)).2⟩
      refine q_E_T ?_
      refine q_E_L ?_
      generalize p291 : dz_M203 s a3 = r7
      cases r7 with
      | true =>
        refine q_E_T ?_
        have j292 := q_fails (s) (2) hI
        refine q_E_L ?_
        generalize dz_M200_64 s 2 = r8 at j292 ⊢
        cases h293 : r8.2 with
        | true =>
          refine q_E_T ?_
          exact q_E_x ⟨j292.1, q_rg_le (q_rg_lit (n := 0) (x := 0) rfl) (by decide) (by decide)⟩
        | false =>
          exact (q_failsF j292 h293 (q_rg_lit (n := 2) (x := 2) rfl) (by decide)).elim
      | false =>
        have g294 : q_rgz 0 255 (a3) := ⟨(q_p203 p291).1, (q_p203 p291).2⟩
        refine q_E_F ?_
        have j295 := q_fails (s) (0) hI
        refine q_E_L ?_
        generalize dz_M200_64 s 0 = r10 at j295 ⊢
        cases h296 : r10.2 with
        | true =>
          exact (q_failsT j295 h296 (q_rg_lit (n := 0) (x := 0) rfl) (by decide)).elim
        | false =>
          refine q_E_F ?_
          refine q_E_A (q_in_rg (q_rg_add (L := 0) (U := 2047) (q_rg_mul (L := 0) (U := 1536) (q_rg_lit (n := 512) (x := 512) rfl) g288 (by decide) (by decide) (by decide) (by decide) (by decide) (by decide)) g290 (by decide) (by decide) (by decide) (by decide)) (by decide) (by decide)) ?_
          have j297 := dzj_M205_64 c d w (q_sA r10.1 3 (upd (r10.1.1 3) (((512 * a1) + a2).toNatClampNeg) a3)) (q_Iv_A (i := 3) j295.1 (q_hf_up ((j295.1).1 3) (q_s3 (q_rg_le (L := 0) (U := 255) g294 (by decide) (by decide)))))
          refine q_E_L ?_
          generalize dz_M205_64 (q_sA r10.1 3 (upd (r10.1.1 3) (((512 * a1) + a2).toNatClampNeg) a3)) = r11 at j297 ⊢
          exact q_E_x ⟨j297, q_rg_le (q_r3 j295.1 _) (by decide) (by decide)⟩
    | false =>
      refine q_E_F ?_
      have j298 := q_fails (s) (1) hI
      refine q_E_L ?_
      generalize dz_M200_64 s 1 = r12 at j298 ⊢
      cases h299 : r12.2 with
      | true =>
        refine q_E_T ?_
        exact q_E_x ⟨j298.1, q_rg_le (q_rg_lit (n := 0) (x := 0) rfl) (by decide) (by decide)⟩
      | false =>
        exact (q_failsF j298 h299 (q_rg_lit (n := 1) (x := 1) rfl) (by decide)).elim
  | false =>
    refine q_E_F ?_
    have j300 := q_fails (s) (1) hI
    refine q_E_L ?_
    generalize dz_M200_64 s 1 = r14 at j300 ⊢
    cases h301 : r14.2 with
    | true =>
      refine q_E_T ?_
      exact q_E_x ⟨j300.1, q_rg_le (q_rg_lit (n := 0) (x := 0) rfl) (by decide) (by decide)⟩
    | false =>
      exact (q_failsF j300 h301 (q_rg_lit (n := 1) (x := 1) rfl) (by decide)).elim
set_option maxHeartbeats 4000000 in
theorem dzj_M219_64 (c d w : Int) (s : q_S) (hI : q_Iv c d w s) (a1 : Int32) : q_Ex (dz_M219_64 s a1) (fun (x : q_S × Int32) => q_Iv c d w x.1 ∧ q_rgz (-2147483648) 2147483647 x.2) := by
  unfold dz_M219_64
  refine q_E_L ?_
  generalize p310 : dz_M204 s a1 = r4
  cases r4 with
  | true =>
    refine q_E_T ?_
    have j311 := q_fails (s) (1) hI
    refine q_E_L ?_
    generalize dz_M200_64 s 1 = r5 at j311 ⊢
    cases h312 : r5.2 with
    | true =>
      refine q_E_T ?_
      exact q_E_x ⟨j311.1, q_rg_le (q_rg_lit (n := 0) (x := 0) rfl) (by decide) (by decide)⟩
    | false =>
      exact (q_failsF j311 h312 (q_rg_lit (n := 1) (x := 1) rfl) (by decide)).elim
  | false =>
    have g313 : q_rgz 0 4095 (a1) := ⟨(q_p204 p310).1, (q_p204 p310).2⟩
    refine q_E_F ?_
    have j314 := q_fails (s) (0) hI
    refine q_E_L ?_
    generalize dz_M200_64 s 0 = r7 at j314 ⊢
    cases h315 : r7.2 with
    | true =>
      exact (q_failsT j314 h315 (q_rg_lit (n := 0) (x := 0) rfl) (by decide)).elim
    | false =>
      refine q_E_F ?_
      obtain ⟨r8, e317, j316⟩ := dzj_M214_64 c d w (r7.1) j314.1 (a1) (q_rg_le (L := 0) (U := 4095) g313 (by decide) (by decide))
      rw [e317]
      refine q_E_B ?_
      exact q_E_x ⟨j316.1, q_rg_le j316.2 (by decide) (by decide)⟩
set_option maxHeartbeats 4000000 in
theorem dzj_M220_64 (c d w : Int) (s : q_S) (hI : q_Iv c d w s) (a1 : Int32) : q_Ex (dz_M220_64 s a1) (fun (x : q_S × Int32) => q_Iv c d w x.1 ∧ q_rgz (-2147483648) 2147483647 x.2) := by
  unfold dz_M220_64
  refine q_E_L ?_
  generalize p324 : dz_M204 s a1 = r3
  cases r3 with
  | true =>
    refine q_E_T ?_
    have j325 := q_fails (s) (1) hI
    refine q_E_L ?_
    generalize dz_M200_64 s 1 = r4 at j325 ⊢
    cases h326 : r4.2 with
    | true =>
      refine q_E_T ?_
      exact q_E_x ⟨j325.1, q_rg_le (q_rg_lit (n := 0) (x := 0) rfl) (by decide) (by decide)⟩
    | false =>
      exact (q_failsF j325 h326 (q_rg_lit (n := 1) (x := 1) rfl) (by decide)).elim
  | false =>
    have g327 : q_rgz 0 4095 (a1) := ⟨(q_p204 p324).1, (q_p204 p324).2⟩
    refine q_E_F ?_
    have j328 := q_fails (s) (0) hI
    refine q_E_L ?_
    generalize dz_M200_64 s 0 = r5 at j328 ⊢
    cases h329 : r5.2 with
    | true =>
      exact (q_failsT j328 h329 (q_rg_lit (n := 0) (x := 0) rfl) (by decide)).elim
    | false =>
      refine q_E_F ?_
      refine q_E_A (q_in_rg g327 (by decide) (by decide)) ?_
      exact q_E_x ⟨j328.1, q_rg_le (q_r1 j328.1 _) (by decide) (by decide)⟩
set_option maxHeartbeats 4000000 in
theorem dzjb_M221_64_49 (c d w : Int) (k49 : q_S → Int32 → Int32 → Int32 → Int32 → Int32 → Option (q_S × Int32)) (M49 : Int) (tk49 : ∀ (s : q_S), q_Iv c d w s → ∀ (v1 : Int32) (v2 : Int32) (v3 : Int32) (v4 : Int32) (v5 : Int32), q_rgz 0 4095 v1 → q_rgz 0 4095 v2 → q_rgz 1 4096 v3 → q_rgz 0 4096 v5 → ((4096 - v5.toInt).toNat : Int) ≤ M49 → q_Ex (k49 s v1 v2 v3 v4 v5) (fun (x : q_S × Int32) => q_Iv c d w x.1 ∧ q_rgz (-2147483648) 2147483647 x.2)) (s : q_S) (hI : q_Iv c d w s) (v1 : Int32) (v2 : Int32) (v3 : Int32) (v4 : Int32) (v5 : Int32) (rv1 : q_rgz 0 4095 v1) (rv2 : q_rgz 0 4095 v2) (rv3 : q_rgz 1 4096 v3) (rv5 : q_rgz 0 4096 v5) (m49 : ((4096 - v5.toInt).toNat : Int) ≤ M49 + 1) : q_Ex (cond (decide (v5 < v3)) (q_let (dz_M213 s (v1 + v5)) fun r3 => (dz_M214_64 s r3).bind fun r4 => q_let (dz_M213 r4.1 (v2 + v5)) fun r5 => (dz_M214_64 r4.1 r5).bind fun r6 => cond (decide (r4.2 = r6.2)) (k49 r6.1 v1 v2 v3 (v4 + 0) (v5 + 1)) (k49 r6.1 v1 v2 v3 (v4 + 1) (v5 + 1))) (some (s, v4))) (fun (x : q_S × Int32) => q_Iv c d w x.1 ∧ q_rgz (-2147483648) 2147483647 x.2) := by
  cases h534 : decide (v5 < v3) with
  | true =>
    have g535 := (q_rg_ltT1 (l := 0) (U := 4095) h534 rv5 rv3 (by decide))
    refine q_E_T ?_
    have j536 := dzj_M213 c d w (s) hI (v1 + v5)
    refine q_E_L ?_
    generalize dz_M213 s (v1 + v5) = r3 at j536 ⊢
    obtain ⟨r4, e538, j537⟩ := dzj_M214_64 c d w (s) hI (r3) (q_rg_le (L := 0) (U := 4095) j536 (by decide) (by decide))
    rw [e538]
    refine q_E_B ?_
    have j539 := dzj_M213 c d w (r4.1) j537.1 (v2 + v5)
    refine q_E_L ?_
    generalize dz_M213 r4.1 (v2 + v5) = r5 at j539 ⊢
    obtain ⟨r6, e541, j540⟩ := dzj_M214_64 c d w (r4.1) j537.1 (r5) (q_rg_le (L := 0) (U := 4095) j539 (by decide) (by decide))
    rw [e541]
    refine q_E_B ?_
    cases h542 : decide (r4.2 = r6.2) with
    | true =>
      refine q_E_T ?_
      exact tk49 (r6.1) j540.1 (v1) (v2) (v3) (v4 + 0) (v5 + 1) (q_rg_le (L := 0) (U := 4095) rv1 (by decide) (by decide)) (q_rg_le (L := 0) (U := 4095) rv2 (by decide) (by decide)) (q_rg_le (L := 1) (U := 4096) rv3 (by decide) (by decide)) (q_rg_le (L := 0) (U := 4096) (q_rg_add (L := 1) (U := 4096) g535 (q_rg_lit (n := 1) (x := 1) rfl) (by decide) (by decide) (by decide) (by decide)) (by decide) (by decide)) (q_meu g535 m49 (by decide) (by decide))
    | false =>
      refine q_E_F ?_
      exact tk49 (r6.1) j540.1 (v1) (v2) (v3) (v4 + 1) (v5 + 1) (q_rg_le (L := 0) (U := 4095) rv1 (by decide) (by decide)) (q_rg_le (L := 0) (U := 4095) rv2 (by decide) (by decide)) (q_rg_le (L := 1) (U := 4096) rv3 (by decide) (by decide)) (q_rg_le (L := 0) (U := 4096) (q_rg_add (L := 1) (U := 4096) g535 (q_rg_lit (n := 1) (x := 1) rfl) (by decide) (by decide) (by decide) (by decide)) (by decide) (by decide)) (q_meu g535 m49 (by decide) (by decide))
  | false =>
    have g543 := (q_rg_ltF1 (l2 := 1) (u := 4096) h534 rv5 rv3)
    refine q_E_F ?_
    exact q_E_x ⟨hI, q_rg_le (q_rg_full _) (by decide) (by decide)⟩
theorem dzj_M221_64_49 (c d w : Int) : ∀ (m : Nat) (s : q_S) (hI : q_Iv c d w s) (v1 : Int32) (v2 : Int32) (v3 : Int32) (v4 : Int32) (v5 : Int32) (rv1 : q_rgz 0 4095 v1) (rv2 : q_rgz 0 4095 v2) (rv3 : q_rgz 1 4096 v3) (rv5 : q_rgz 0 4096 v5), ((4096 - v5.toInt).toNat : Int) ≤ (m : Int) → q_Ex (dz_M221_64_49 (m + 1) s v1 v2 v3 v4 v5) (fun (x : q_S × Int32) => q_Iv c d w x.1 ∧ q_rgz (-2147483648) 2147483647 x.2) := by
  intro m
  induction m with
  | zero => intro s hI v1 v2 v3 v4 v5 rv1 rv2 rv3 rv5 hm; rw [dzs_M221_64_49]; exact dzjb_M221_64_49 c d w (dz_M221_64_49 0) (-1) (fun s hI v1 v2 v3 v4 v5 rv1 rv2 rv3 rv5 hm => absurd hm (by omega)) s hI v1 v2 v3 v4 v5 rv1 rv2 rv3 rv5 (by omega)
  | succ m ih => intro s hI v1 v2 v3 v4 v5 rv1 rv2 rv3 rv5 hm; rw [dzs_M221_64_49]; exact dzjb_M221_64_49 c d w (dz_M221_64_49 (m + 1)) (m : Int) (fun s hI v1 v2 v3 v4 v5 rv1 rv2 rv3 rv5 hm => ih s hI v1 v2 v3 v4 v5 rv1 rv2 rv3 rv5 hm) s hI v1 v2 v3 v4 v5 rv1 rv2 rv3 rv5 (by omega)
set_option maxHeartbeats 4000000 in
theorem dzj_M221_64 (c d w : Int) (s : q_S) (hI : q_Iv c d w s) (a1 : Int32) (a2 : Int32) (a3 : Int32) : q_Ex (dz_M221_64 s a1 a2 a3) (fun (x : q_S × Int32) => q_Iv c d w x.1 ∧ q_rgz (-2147483648) 2147483647 x.2) := by
  unfold dz_M221_64
  refine q_E_L ?_
  generalize p544 : dz_M204 s a1 = r1
  cases r1 with
  | true =>
    refine q_E_T ?_
    have j545 := q_fails (s) (1) hI
    refine q_E_L ?_
    generalize dz_M200_64 s 1 = r2 at j545 ⊢
    cases h546 : r2.2 with
    | true =>
      refine q_E_T ?_
      exact q_E_x ⟨j545.1, q_rg_le (q_rg_lit (n := 0) (x := 0) rfl) (by decide) (by decide)⟩
    | false =>
      exact (q_failsF j545 h546 (q_rg_lit (n := 1) (x := 1) rfl) (by decide)).elim
  | false =>
    have g547 : q_rgz 0 4095 (a1) := ⟨(q_p204 p544).1, (q_p204 p544).2⟩
    refine q_E_F ?_
    refine q_E_L ?_
    generalize p548 : dz_M204 s a2 = r7
    cases r7 with
    | true =>
      refine q_E_T ?_
      have j549 := q_fails (s) (1) hI
      refine q_E_L ?_
      generalize dz_M200_64 s 1 = r8 at j549 ⊢
      cases h550 : r8.2 with
      | true =>
        refine q_E_T ?_
        exact q_E_x ⟨j549.1, q_rg_le (q_rg_lit (n := 0) (x := 0) rfl) (by decide) (by decide)⟩
      | false =>
        exact (q_failsF j549 h550 (q_rg_lit (n := 1) (x := 1) rfl) (by decide)).elim
    | false =>
      have g551 : q_rgz 0 4095 (a2) := ⟨(q_p204 p548).1, (q_p204 p548).2⟩
      refine q_E_F ?_
      refine q_E_L ?_
      generalize p552 : dz_M202 s a3 1 4096 = r9
      cases r9 with
      | true =>
        have g553 : q_rgz 1 4096 (a3) := ⟨(q_p202 p552 (q_rg_lit (n := 1) (x := 1) rfl) (q_rg_lit (n := 4096) (x := 4096) rfl)).1, (q_p202 p552 (q_rg_lit (n := 1) (x := 1) rfl) (q_rg_lit (n := 4096) (x := 4096) rfl)).2⟩
        refine q_E_T ?_
        have j554 := q_fails (s) (0) hI
        refine q_E_L ?_
        generalize dz_M200_64 s 0 = r10 at j554 ⊢
        cases h555 : r10.2 with
        | true =>
          exact (q_failsT j554 h555 (q_rg_lit (n := 0) (x := 0) rfl) (by decide)).elim
        | false =>
          refine q_E_F ?_
          exact dzj_M221_64_49 c d w 4999 (r10.1) j554.1 (a1) (a2) (a3) (0) (0) (q_rg_le (L := 0) (U := 4095) g547 (by decide) (by decide)) (q_rg_le (L := 0) (U := 4095) g551 (by decide) (by decide)) (q_rg_le (L := 1) (U := 4096) g553 (by decide) (by decide)) (q_rg_le (L := 0) (U := 4096) (q_rg_lit (n := 0) (x := 0) rfl) (by decide) (by decide)) (q_meu0 (q_rg_lit (n := 0) (x := 0) rfl) (by decide) (by decide))
      | false =>
        refine q_E_F ?_
        have j556 := q_fails (s) (2) hI
        refine q_E_L ?_
        generalize dz_M200_64 s 2 = r11 at j556 ⊢
        cases h557 : r11.2 with
        | true =>
          refine q_E_T ?_
          exact q_E_x ⟨j556.1, q_rg_le (q_rg_lit (n := 0) (x := 0) rfl) (by decide) (by decide)⟩
        | false =>
          exact (q_failsF j556 h557 (q_rg_lit (n := 2) (x := 2) rfl) (by decide)).elim
set_option maxHeartbeats 4000000 in
theorem dzj_M222_64 (c d w : Int) (s : q_S) (hI : q_Iv c d w s) : (fun x => q_rgz (-4) 35 x) (dz_M222_64 s) := by
  refine q_S_of (P := (fun x => q_rgz (-4) 35 x)) ?_
  unfold dz_M222_64
  have j559 := dzj_M207_64 c d w (s) hI
  refine q_S_L ?_
  generalize dz_M207_64 s = r1 at j559 ⊢
  exact q_E_x (q_rg_le (q_rg_sub (L := -4) (U := 35) j559 (q_rg_lit (n := 4) (x := 4) rfl) (by decide) (by decide) (by decide) (by decide)) (by decide) (by decide))
set_option maxHeartbeats 4000000 in
theorem dzj_M224_64 (c d w : Int) (s : q_S) (hI : q_Iv c d w s) (a1 : Int32) (a2 : Int32) (ra1 : q_rgz 0 3 a1) : q_Ex (dz_M224_64 s a1 a2) (fun _ => True) := by
  unfold dz_M224_64
  refine q_E_A (q_in_rg (q_rg_add (L := 24) (U := 27) (q_rg_lit (n := 24) (x := 24) rfl) ra1 (by decide) (by decide) (by decide) (by decide)) (by decide) (by decide)) ?_
  cases h570 : decide (a2 < (s.1 4) (((24 : Int32) + a1).toNatClampNeg)) with
  | true =>
    have g571 := (q_rg_ltT1 (l := -2147483648) (U := 254) h570 (q_rg_full _) (q_rdv (i := 4) (a := 24) (n := 4) (L := 0) (U := 255) hI (q_rg_le (q_rg_add (L := 24) (U := 27) (q_rg_lit (n := 24) (x := 24) rfl) ra1 (by decide) (by decide) (by decide) (by decide)) (by decide) (by decide)) rfl (by decide)) (by decide))
    refine q_E_T ?_
    exact q_E_x trivial
  | false =>
    have g572 := (q_rg_ltF1 (l2 := 0) (u := 2147483647) h570 (q_rg_full _) (q_rdv (i := 4) (a := 24) (n := 4) (L := 0) (U := 255) hI (q_rg_le (q_rg_add (L := 24) (U := 27) (q_rg_lit (n := 24) (x := 24) rfl) ra1 (by decide) (by decide) (by decide) (by decide)) (by decide) (by decide)) rfl (by decide)))
    refine q_E_F ?_
    refine q_E_L ?_
    generalize p573 : dz_M206 s ((s.1 4) 18) a1 = r1
    cases r1 with
    | true =>
      refine q_E_T ?_
      cases h574 : decide (a2 < ((s.1 4) (((24 : Int32) + a1).toNatClampNeg)) + 16) with
      | true =>
        have g575 := (q_rg_ltT1 (l := 0) (U := 270) h574 g572 (q_rg_add (L := 16) (U := 271) (q_rdv (i := 4) (a := 24) (n := 4) (L := 0) (U := 255) hI (q_rg_le (q_rg_add (L := 24) (U := 27) (q_rg_lit (n := 24) (x := 24) rfl) ra1 (by decide) (by decide) (by decide) (by decide)) (by decide) (by decide)) rfl (by decide)) (q_rg_lit (n := 16) (x := 16) rfl) (by decide) (by decide) (by decide) (by decide)) (by decide))
        refine q_E_T ?_
        exact q_E_x trivial
      | false =>
        have g576 := (q_rg_ltF1 (l2 := 16) (u := 2147483647) h574 g572 (q_rg_add (L := 16) (U := 271) (q_rdv (i := 4) (a := 24) (n := 4) (L := 0) (U := 255) hI (q_rg_le (q_rg_add (L := 24) (U := 27) (q_rg_lit (n := 24) (x := 24) rfl) ra1 (by decide) (by decide) (by decide) (by decide)) (by decide) (by decide)) rfl (by decide)) (q_rg_lit (n := 16) (x := 16) rfl) (by decide) (by decide) (by decide) (by decide)))
        refine q_E_F ?_
        exact q_E_x trivial
    | false =>
      refine q_E_F ?_
      cases h577 : decide (a2 < ((s.1 4) (((24 : Int32) + a1).toNatClampNeg)) + 8) with
      | true =>
        have g578 := (q_rg_ltT1 (l := 0) (U := 262) h577 g572 (q_rg_add (L := 8) (U := 263) (q_rdv (i := 4) (a := 24) (n := 4) (L := 0) (U := 255) hI (q_rg_le (q_rg_add (L := 24) (U := 27) (q_rg_lit (n := 24) (x := 24) rfl) ra1 (by decide) (by decide) (by decide) (by decide)) (by decide) (by decide)) rfl (by decide)) (q_rg_lit (n := 8) (x := 8) rfl) (by decide) (by decide) (by decide) (by decide)) (by decide))
        refine q_E_T ?_
        exact q_E_x trivial
      | false =>
        have g579 := (q_rg_ltF1 (l2 := 8) (u := 2147483647) h577 g572 (q_rg_add (L := 8) (U := 263) (q_rdv (i := 4) (a := 24) (n := 4) (L := 0) (U := 255) hI (q_rg_le (q_rg_add (L := 24) (U := 27) (q_rg_lit (n := 24) (x := 24) rfl) ra1 (by decide) (by decide) (by decide) (by decide)) (by decide) (by decide)) rfl (by decide)) (q_rg_lit (n := 8) (x := 8) rfl) (by decide) (by decide) (by decide) (by decide)))
        refine q_E_F ?_
        exact q_E_x trivial
set_option maxHeartbeats 4000000 in
theorem dzj_M225_64_85 (c d w : Int) (s : q_S) (hI : q_Iv c d w s) (v1 : Int32) (v2 : Int32) (rv1 : q_rgz 0 31 v1) (rv2 : q_rgz 0 23 v2) : q_Ex (dz_M225_64_85 s v1 v2) (fun _ => True) := by
  unfold dz_M225_64_85
  cases h633 : decide (v2 < 20) with
  | true =>
    have g634 := (q_rg_ltT1 (l := 0) (U := 19) h633 rv2 (q_rg_lit (n := 20) (x := 20) rfl) (by decide))
    refine q_E_T ?_
    exact q_E_x trivial
  | false =>
    have g635 := (q_rg_ltF1 (l2 := 20) (u := 23) h633 rv2 (q_rg_lit (n := 20) (x := 20) rfl))
    refine q_E_F ?_
    refine q_E_L ?_
    generalize p636 : dz_M223_64 s (v2 - 20) = r9
    cases r9 with
    | true =>
      refine q_E_T ?_
      obtain ⟨r10, e638, j637⟩ := dzj_M224_64 c d w (s) hI (v2 - 20) (v1) (q_rg_le (L := 0) (U := 3) (q_rg_sub (L := 0) (U := 3) g635 (q_rg_lit (n := 20) (x := 20) rfl) (by decide) (by decide) (by decide) (by decide)) (by decide) (by decide))
      rw [e638]
      refine q_E_B ?_
      cases h639 : r10 with
      | true =>
        refine q_E_T ?_
        exact q_E_x trivial
      | false =>
        refine q_E_F ?_
        exact q_E_x trivial
    | false =>
      refine q_E_F ?_
      exact q_E_x trivial
set_option maxHeartbeats 4000000 in
theorem dzj_M225_64_64 (c d w : Int) (s : q_S) (hI : q_Iv c d w s) (v1 : Int32) (v2 : Int32) (rv1 : q_rgz 0 31 v1) (rv2 : q_rgz 0 23 v2) : q_Ex (dz_M225_64_64 s v1 v2) (fun _ => True) := by
  unfold dz_M225_64_64
  refine q_E_L ?_
  generalize p640 : dz_M202 s ((s.1 4) 1) 1 2 = r8
  cases r8 with
  | true =>
    have g641 : q_rgz 1 2 ((s.1 4) 1) := ⟨(q_p202 p640 (q_rg_lit (n := 1) (x := 1) rfl) (q_rg_lit (n := 2) (x := 2) rfl)).1, (q_p202 p640 (q_rg_lit (n := 1) (x := 1) rfl) (q_rg_lit (n := 2) (x := 2) rfl)).2⟩
    refine q_E_T ?_
    cases h642 : decide (v2 < 4) with
    | true =>
      have g643 := (q_rg_ltT1 (l := 0) (U := 3) h642 rv2 (q_rg_lit (n := 4) (x := 4) rfl) (by decide))
      refine q_E_T ?_
      exact q_E_x trivial
    | false =>
      have g644 := (q_rg_ltF1 (l2 := 4) (u := 23) h642 rv2 (q_rg_lit (n := 4) (x := 4) rfl))
      refine q_E_F ?_
      exact dzj_M225_64_85 c d w (s) hI (v1) (v2) (q_rg_le (L := 0) (U := 31) rv1 (by decide) (by decide)) (q_rg_le (L := 0) (U := 23) g644 (by decide) (by decide))
  | false =>
    refine q_E_F ?_
    exact dzj_M225_64_85 c d w (s) hI (v1) (v2) (q_rg_le (L := 0) (U := 31) rv1 (by decide) (by decide)) (q_rg_le (L := 0) (U := 23) rv2 (by decide) (by decide))
set_option maxHeartbeats 4000000 in
theorem dzj_M225_64 (c d w : Int) (s : q_S) (hI : q_Iv c d w s) : q_Ex (dz_M225_64 s) (fun _ => True) := by
  unfold dz_M225_64
  have j645 := dzj_M222_64 c d w (s) hI
  refine q_E_L ?_
  generalize dz_M222_64 s = r6 at j645 ⊢
  refine q_E_L ?_
  generalize p646 : dz_M202 s r6 0 31 = r7
  cases r7 with
  | true =>
    have g647 : q_rgz 0 31 (r6) := ⟨(q_p202 p646 (q_rg_lit (n := 0) (x := 0) rfl) (q_rg_lit (n := 31) (x := 31) rfl)).1, (q_p202 p646 (q_rg_lit (n := 0) (x := 0) rfl) (q_rg_lit (n := 31) (x := 31) rfl)).2⟩
    refine q_E_T ?_
    cases h648 : decide ((s.1 4) 1 = 0) with
    | true =>
      have g649 := q_rg_eqT h648 (q_rg_lit (n := 0) (x := 0) rfl)
      refine q_E_T ?_
      cases h650 : decide (((s.2.2 0 15) - (s.2.2 0 15) / 24 * 24).toInt32 < 8) with
      | true =>
        have g651 := (q_rg_ltT1 (l := 0) (U := 7) h650 (q_rg_cyc (n := 24) (hI) (by decide) (by decide)) (q_rg_lit (n := 8) (x := 8) rfl) (by decide))
        refine q_E_T ?_
        cases h652 : decide ((r6 + (((s.1 4) 2) / 4)) - (r6 + (((s.1 4) 2) / 4)) / 8 * 8 = 0) with
        | true =>
          have g653 := q_rg_eqT h652 (q_rg_lit (n := 0) (x := 0) rfl)
          refine q_E_T ?_
          exact q_E_x trivial
        | false =>
          have g654 := (q_rg_neL (l := 0) (u := 7) (n := 0) (L := 1) h652 (q_rg_rem (c := 8) (U := 7) (q_rg_add (L := 0) (U := 94) g647 (q_rg_div (c := 4) (U := 63) (q_g2 hI) (by decide) rfl (by decide) (by decide)) (by decide) (by decide) (by decide) (by decide)) (by decide) rfl (by decide) (by decide)) rfl (by decide) (by decide))
          refine q_E_F ?_
          exact q_E_x trivial
      | false =>
        have g655 := (q_rg_ltF1 (l2 := 8) (u := 23) h650 (q_rg_cyc (n := 24) (hI) (by decide) (by decide)) (q_rg_lit (n := 8) (x := 8) rfl))
        refine q_E_F ?_
        exact dzj_M225_64_64 c d w (s) hI (r6) (((s.2.2 0 15) - (s.2.2 0 15) / 24 * 24).toInt32) (q_rg_le (L := 0) (U := 31) g647 (by decide) (by decide)) (q_rg_le (L := 0) (U := 23) g655 (by decide) (by decide))
    | false =>
      have g656 := (q_rg_neL (l := 0) (u := 255) (n := 0) (L := 1) h648 (q_g1 hI) rfl (by decide) (by decide))
      refine q_E_F ?_
      exact dzj_M225_64_64 c d w (s) hI (r6) (((s.2.2 0 15) - (s.2.2 0 15) / 24 * 24).toInt32) (q_rg_le (L := 0) (U := 31) g647 (by decide) (by decide)) (q_rg_le (L := 0) (U := 23) (q_rg_cyc (n := 24) (hI) (by decide) (by decide)) (by decide) (by decide))
  | false =>
    refine q_E_F ?_
    exact q_E_x trivial
set_option maxHeartbeats 4000000 in
theorem dzj_M226_64 (c d w : Int) (s : q_S) (hI : q_Iv c d w s) (a1 : Int32) (a2 : Int32) (ra1 : q_rgz 0 31 a1) (ra2 : q_rgz 0 31 a2) : q_Ex (dz_M226_64 s a1 a2) (fun x => q_rgz 0 3 x) := by
  unfold dz_M226_64
  have j671 : q_rgz 0 31 ((a1 + (((s.1 4) 2) - ((s.1 4) 2) / 4 * 4)) - (a1 + (((s.1 4) 2) - ((s.1 4) 2) / 4 * 4)) / 32 * 32) := (q_rg_rem (c := 32) (U := 31) (q_rg_add (L := 0) (U := 34) ra1 (q_rg_rem (c := 4) (U := 3) (q_g2 hI) (by decide) rfl (by decide) (by decide)) (by decide) (by decide) (by decide) (by decide)) (by decide) rfl (by decide) (by decide))
  refine q_E_L ?_
  generalize ((a1 + (((s.1 4) 2) - ((s.1 4) 2) / 4 * 4)) - (a1 + (((s.1 4) 2) - ((s.1 4) 2) / 4 * 4)) / 32 * 32) = x4 at j671 ⊢
  have j672 : q_rgz 0 31 ((a2 + (((s.1 4) 2) / 4)) - (a2 + (((s.1 4) 2) / 4)) / 32 * 32) := (q_rg_rem (c := 32) (U := 31) (q_rg_add (L := 0) (U := 94) ra2 (q_rg_div (c := 4) (U := 63) (q_g2 hI) (by decide) rfl (by decide) (by decide)) (by decide) (by decide) (by decide) (by decide)) (by decide) rfl (by decide) (by decide))
  refine q_E_L ?_
  generalize ((a2 + (((s.1 4) 2) / 4)) - (a2 + (((s.1 4) 2) / 4)) / 32 * 32) = x5 at j672 ⊢
  cases h673 : decide ((s.1 4) 1 = 0) with
  | true =>
    have g674 := q_rg_eqT h673 (q_rg_lit (n := 0) (x := 0) rfl)
    refine q_E_T ?_
    have j675 := dzj_M213 c d w (s) hI (((256 * ((s.1 4) 7)) + (8 * (x5 / 8))) + (x4 / 4))
    refine q_E_L ?_
    generalize dz_M213 s (((256 * ((s.1 4) 7)) + (8 * (x5 / 8))) + (x4 / 4)) = r6 at j675 ⊢
    refine q_E_A (q_in_rg j675 (by decide) (by decide)) ?_
    have j676 := dzj_M213 c d w (s) hI (((256 * ((s.1 4) 8)) + (8 * ((s.1 1) (r6.toNatClampNeg)))) + (x5 - x5 / 8 * 8))
    refine q_E_L ?_
    generalize dz_M213 s (((256 * ((s.1 4) 8)) + (8 * ((s.1 1) (r6.toNatClampNeg)))) + (x5 - x5 / 8 * 8)) = r7 at j676 ⊢
    refine q_E_A (q_in_rg j676 (by decide) (by decide)) ?_
    exact q_E_x (q_rg_le (q_rg_and (((s.1 1) (r7.toNatClampNeg)) >>> (((3 : Int32) - (x4 - x4 / 4 * 4)) &&& 31)) 1 (U := 1) (by decide) rfl) (by decide) (by decide))
  | false =>
    have g677 := (q_rg_neL (l := 0) (u := 255) (n := 0) (L := 1) h673 (q_g1 hI) rfl (by decide) (by decide))
    refine q_E_F ?_
    have j678 := dzj_M213 c d w (s) hI (((256 * ((s.1 4) 7)) + (4 * x5)) + (x4 / 8))
    refine q_E_L ?_
    generalize dz_M213 s (((256 * ((s.1 4) 7)) + (4 * x5)) + (x4 / 8)) = r8 at j678 ⊢
    refine q_E_A (q_in_rg j678 (by decide) (by decide)) ?_
    cases h679 : decide ((s.1 4) 1 = 1) with
    | true =>
      have g680 := q_rg_eqT h679 (q_rg_lit (n := 1) (x := 1) rfl)
      refine q_E_T ?_
      exact q_E_x (q_rg_le (q_rg_and (((s.1 1) (r8.toNatClampNeg)) >>> (((7 : Int32) - (x4 - x4 / 8 * 8)) &&& 31)) 1 (U := 1) (by decide) rfl) (by decide) (by decide))
    | false =>
      have g681 := (q_rg_neL (l := 1) (u := 255) (n := 1) (L := 2) h679 g677 rfl (by decide) (by decide))
      refine q_E_F ?_
      cases h682 : decide ((s.1 4) 1 = 2) with
      | true =>
        have g683 := q_rg_eqT h682 (q_rg_lit (n := 2) (x := 2) rfl)
        refine q_E_T ?_
        exact q_E_x (q_rg_le (q_rg_and (((s.1 1) (r8.toNatClampNeg)) >>> (((6 : Int32) - (2 * ((x4 - x4 / 8 * 8) / 2))) &&& 31)) 3 (U := 3) (by decide) rfl) (by decide) (by decide))
      | false =>
        have g684 := (q_rg_neL (l := 2) (u := 255) (n := 2) (L := 3) h682 g681 rfl (by decide) (by decide))
        refine q_E_F ?_
        exact q_E_x (q_rg_le (q_rg_lit (n := 0) (x := 0) rfl) (by decide) (by decide))
set_option maxHeartbeats 4000000 in
theorem dzj_M227_64_62 (c d w : Int) (s : q_S) (hI : q_Iv c d w s) (v1 : Int32) (v4 : Int32) (v5 : Int32) (rv1 : q_rgz 0 3 v1) : q_Ex (dz_M227_64_62 s v1 v4 v5) (fun _ => True) := by
  unfold dz_M227_64_62
  refine q_E_L ?_
  generalize p699 : dz_M202 s v4 0 7 = r6
  cases r6 with
  | true =>
    have g700 : q_rgz 0 7 (v4) := ⟨(q_p202 p699 (q_rg_lit (n := 0) (x := 0) rfl) (q_rg_lit (n := 7) (x := 7) rfl)).1, (q_p202 p699 (q_rg_lit (n := 0) (x := 0) rfl) (q_rg_lit (n := 7) (x := 7) rfl)).2⟩
    refine q_E_T ?_
    refine q_E_L ?_
    generalize p701 : dz_M202 s v5 0 7 = r7
    cases r7 with
    | true =>
      have g702 : q_rgz 0 7 (v5) := ⟨(q_p202 p701 (q_rg_lit (n := 0) (x := 0) rfl) (q_rg_lit (n := 7) (x := 7) rfl)).1, (q_p202 p701 (q_rg_lit (n := 0) (x := 0) rfl) (q_rg_lit (n := 7) (x := 7) rfl)).2⟩
      refine q_E_T ?_
      have j703 := dzj_M213 c d w (s) hI ((((256 * ((s.1 4) 7)) + 128) + (8 * v1)) + v5)
      refine q_E_L ?_
      generalize dz_M213 s ((((256 * ((s.1 4) 7)) + 128) + (8 * v1)) + v5) = r8 at j703 ⊢
      refine q_E_A (q_in_rg j703 (by decide) (by decide)) ?_
      refine q_E_L ?_
      generalize p704 : dz_M206 s ((s.1 1) (r8.toNatClampNeg)) ((7 : Int32) - v4) = r9
      cases r9 with
      | true =>
        refine q_E_T ?_
        exact q_E_x trivial
      | false =>
        refine q_E_F ?_
        exact q_E_x trivial
    | false =>
      refine q_E_F ?_
      exact q_E_x trivial
  | false =>
    refine q_E_F ?_
    exact q_E_x trivial
set_option maxHeartbeats 4000000 in
theorem dzj_M227_64 (c d w : Int) (s : q_S) (hI : q_Iv c d w s) (a1 : Int32) (a2 : Int32) (a3 : Int32) (ra1 : q_rgz 0 3 a1) (ra2 : q_rgz 0 31 a2) (ra3 : q_rgz 0 31 a3) : q_Ex (dz_M227_64 s a1 a2 a3) (fun _ => True) := by
  unfold dz_M227_64
  refine q_E_L ?_
  generalize p705 : dz_M223_64 s a1 = r2
  cases r2 with
  | true =>
    refine q_E_T ?_
    refine q_E_A (q_in_rg (q_rg_add (L := 20) (U := 23) (q_rg_lit (n := 20) (x := 20) rfl) ra1 (by decide) (by decide) (by decide) (by decide)) (by decide) (by decide)) ?_
    refine q_E_A (q_in_rg (q_rg_add (L := 24) (U := 27) (q_rg_lit (n := 24) (x := 24) rfl) ra1 (by decide) (by decide) (by decide) (by decide)) (by decide) (by decide)) ?_
    refine q_E_L ?_
    generalize p706 : dz_M206 s ((s.1 4) 18) a1 = r3
    cases r3 with
    | true =>
      refine q_E_T ?_
      have j707 : q_rgz (-2147483648) 2147483647 ((a2 - ((s.1 4) (((20 : Int32) + a1).toNatClampNeg))) >>> ((1 &&& 31) : Int32)) := (q_rg_full _)
      refine q_E_L ?_
      generalize ((a2 - ((s.1 4) (((20 : Int32) + a1).toNatClampNeg))) >>> ((1 &&& 31) : Int32)) = x4 at j707 ⊢
      have j708 : q_rgz (-2147483648) 2147483647 ((a3 - ((s.1 4) (((24 : Int32) + a1).toNatClampNeg))) >>> ((1 &&& 31) : Int32)) := (q_rg_full _)
      refine q_E_L ?_
      generalize ((a3 - ((s.1 4) (((24 : Int32) + a1).toNatClampNeg))) >>> ((1 &&& 31) : Int32)) = x5 at j708 ⊢
      exact dzj_M227_64_62 c d w (s) hI (a1) (x4) (x5) (q_rg_le (L := 0) (U := 3) ra1 (by decide) (by decide))
    | false =>
      refine q_E_F ?_
      exact dzj_M227_64_62 c d w (s) hI (a1) (a2 - ((s.1 4) (((20 : Int32) + a1).toNatClampNeg))) (a3 - ((s.1 4) (((24 : Int32) + a1).toNatClampNeg))) (q_rg_le (L := 0) (U := 3) ra1 (by decide) (by decide))
  | false =>
    refine q_E_F ?_
    exact q_E_x trivial
set_option maxHeartbeats 4000000 in
theorem dzj_M228_64_118 (c d w : Int) (s : q_S) (hI : q_Iv c d w s) (v1 : Int32) (v2 : Int32) (v3 : Int32) (v4 : Int32) (v5 : Int32) (v6 : Int32) (rv1 : q_rgz 0 31 v1) (rv2 : q_rgz 0 31 v2) (rv3 : q_rgz 0 3 v3) (rv4 : q_rgz 0 1 v4) (rv5 : q_rgz 0 15 v5) (rv6 : q_rgz (-1) 3 v6) : q_Ex (dz_M228_64_118 s v1 v2 v3 v4 v5 v6) (q_Iv c d w) := by
  unfold dz_M228_64_118
  refine q_E_A (q_in_rg (q_rg_add (L := 3) (U := 6) (q_rg_lit (n := 3) (x := 3) rfl) rv3 (by decide) (by decide) (by decide) (by decide)) (by decide) (by decide)) ?_
  refine q_E_A (q_in_rg (q_rg_add (L := 0) (U := 1023) (q_rg_mul (L := 0) (U := 992) (q_rg_lit (n := 32) (x := 32) rfl) rv2 (by decide) (by decide) (by decide) (by decide) (by decide) (by decide)) rv1 (by decide) (by decide) (by decide) (by decide)) (by decide) (by decide)) ?_
  cases h834 : decide (v5 &&& (v5 - 1) = 0) with
  | true =>
    have g835 := q_rg_eqT h834 (q_rg_lit (n := 0) (x := 0) rfl)
    refine q_E_T ?_
    cases h836 : decide (v4 = 0) with
    | true =>
      have g837 := q_rg_eqT h836 (q_rg_lit (n := 0) (x := 0) rfl)
      refine q_E_T ?_
      exact q_E_x (q_Iv_A (i := 5) hI (q_hf_up ((hI).1 5) (q_s5 (q_rg_full _))))
    | false =>
      have g838 := (q_rg_neL (l := 0) (u := 1) (n := 0) (L := 1) h836 rv4 rfl (by decide) (by decide))
      refine q_E_F ?_
      exact q_E_x (q_Iv_A (i := 14) (q_Iv_A (i := 5) hI (q_hf_up ((hI).1 5) (q_s5 (q_rg_full _)))) (q_hf_up ((hI).1 14) (q_sn11 (q_rg_le (L := 0) (U := 15) (q_rg_or (n := 4) (W := 15) (q_n11 hI) rv5 (by decide) (by decide) (by decide) (by decide) (by decide)) (by decide) (by decide)))))
  | false =>
    have g839 := (q_rg_neL (l := 0) (u := 15) (n := 0) (L := 1) h834 (q_rg_and1 rv5 (by decide)) rfl (by decide) (by decide))
    refine q_E_F ?_
    cases h840 : decide (v4 = 0) with
    | true =>
      have g841 := q_rg_eqT h840 (q_rg_lit (n := 0) (x := 0) rfl)
      refine q_E_T ?_
      exact q_E_x (q_Iv_A (i := 14) (q_Iv_A (i := 5) hI (q_hf_up ((hI).1 5) (q_s5 (q_rg_full _)))) (q_hf_up ((hI).1 14) (q_sn10 (q_rg_le (L := 0) (U := 15) (q_rg_or (n := 4) (W := 15) (q_n10 hI) rv5 (by decide) (by decide) (by decide) (by decide) (by decide)) (by decide) (by decide)))))
    | false =>
      have g842 := (q_rg_neL (l := 0) (u := 1) (n := 0) (L := 1) h840 rv4 rfl (by decide) (by decide))
      refine q_E_F ?_
      have j843 : q_Iv c d w (q_sA (q_sA s 5 (upd (s.1 5) (((32 * v2) + v1).toNatClampNeg) ((s.1 4) (((3 : Int32) + v3).toNatClampNeg)))) 14 (upd (s.1 14) 10 (((s.1 14) 10) ||| v5))) := (q_Iv_A (i := 14) (q_Iv_A (i := 5) hI (q_hf_up ((hI).1 5) (q_s5 (q_rg_full _)))) (q_hf_up ((hI).1 14) (q_sn10 (q_rg_le (L := 0) (U := 15) (q_rg_or (n := 4) (W := 15) (q_n10 hI) rv5 (by decide) (by decide) (by decide) (by decide) (by decide)) (by decide) (by decide)))))
      refine q_E_L ?_
      generalize (q_sA (q_sA s 5 (upd (s.1 5) (((32 * v2) + v1).toNatClampNeg) ((s.1 4) (((3 : Int32) + v3).toNatClampNeg)))) 14 (upd (s.1 14) 10 (((s.1 14) 10) ||| v5))) = r2 at j843 ⊢
      exact q_E_x (q_Iv_A (i := 14) j843 (q_hf_up ((j843).1 14) (q_sn11 (q_rg_le (L := 0) (U := 15) (q_rg_or (n := 4) (W := 15) (q_up_ne (i := 10) (j := 11) (by decide) (q_n11 hI)) rv5 (by decide) (by decide) (by decide) (by decide) (by decide)) (by decide) (by decide)))))
set_option maxHeartbeats 4000000 in
theorem dzj_M228_64_114 (c d w : Int) (s : q_S) (hI : q_Iv c d w s) (v1 : Int32) (v2 : Int32) (v3 : Int32) (v4 : Int32) (v5 : Int32) (v6 : Int32) (rv1 : q_rgz 0 31 v1) (rv2 : q_rgz 0 31 v2) (rv3 : q_rgz 0 3 v3) (rv4 : q_rgz 0 1 v4) (rv5 : q_rgz 0 15 v5) (rv6 : q_rgz 0 3 v6) : q_Ex (dz_M228_64_114 s v1 v2 v3 v4 v5 v6) (q_Iv c d w) := by
  unfold dz_M228_64_114
  refine q_E_A (q_in_rg (q_rg_add (L := 0) (U := 1023) (q_rg_mul (L := 0) (U := 992) (q_rg_lit (n := 32) (x := 32) rfl) rv2 (by decide) (by decide) (by decide) (by decide) (by decide) (by decide)) rv1 (by decide) (by decide) (by decide) (by decide)) (by decide) (by decide)) ?_
  cases h844 : decide (v5 &&& (v5 - 1) = 0) with
  | true =>
    have g845 := q_rg_eqT h844 (q_rg_lit (n := 0) (x := 0) rfl)
    refine q_E_T ?_
    cases h846 : decide (v4 = 0) with
    | true =>
      have g847 := q_rg_eqT h846 (q_rg_lit (n := 0) (x := 0) rfl)
      refine q_E_T ?_
      exact q_E_x (q_Iv_A (i := 5) hI (q_hf_up ((hI).1 5) (q_s5 (q_rg_full _))))
    | false =>
      have g848 := (q_rg_neL (l := 0) (u := 1) (n := 0) (L := 1) h846 rv4 rfl (by decide) (by decide))
      refine q_E_F ?_
      exact q_E_x (q_Iv_A (i := 14) (q_Iv_A (i := 5) hI (q_hf_up ((hI).1 5) (q_s5 (q_rg_full _)))) (q_hf_up ((hI).1 14) (q_sn11 (q_rg_le (L := 0) (U := 15) (q_rg_or (n := 4) (W := 15) (q_n11 hI) rv5 (by decide) (by decide) (by decide) (by decide) (by decide)) (by decide) (by decide)))))
  | false =>
    have g849 := (q_rg_neL (l := 0) (u := 15) (n := 0) (L := 1) h844 (q_rg_and1 rv5 (by decide)) rfl (by decide) (by decide))
    refine q_E_F ?_
    cases h850 : decide (v4 = 0) with
    | true =>
      have g851 := q_rg_eqT h850 (q_rg_lit (n := 0) (x := 0) rfl)
      refine q_E_T ?_
      exact q_E_x (q_Iv_A (i := 14) (q_Iv_A (i := 5) hI (q_hf_up ((hI).1 5) (q_s5 (q_rg_full _)))) (q_hf_up ((hI).1 14) (q_sn10 (q_rg_le (L := 0) (U := 15) (q_rg_or (n := 4) (W := 15) (q_n10 hI) rv5 (by decide) (by decide) (by decide) (by decide) (by decide)) (by decide) (by decide)))))
    | false =>
      have g852 := (q_rg_neL (l := 0) (u := 1) (n := 0) (L := 1) h850 rv4 rfl (by decide) (by decide))
      refine q_E_F ?_
      have j853 : q_Iv c d w (q_sA (q_sA s 5 (upd (s.1 5) (((32 * v2) + v1).toNatClampNeg) ((((s.1 4) 28) + v6) - (((s.1 4) 28) + v6) / 16 * 16))) 14 (upd (s.1 14) 10 (((s.1 14) 10) ||| v5))) := (q_Iv_A (i := 14) (q_Iv_A (i := 5) hI (q_hf_up ((hI).1 5) (q_s5 (q_rg_full _)))) (q_hf_up ((hI).1 14) (q_sn10 (q_rg_le (L := 0) (U := 15) (q_rg_or (n := 4) (W := 15) (q_n10 hI) rv5 (by decide) (by decide) (by decide) (by decide) (by decide)) (by decide) (by decide)))))
      refine q_E_L ?_
      generalize (q_sA (q_sA s 5 (upd (s.1 5) (((32 * v2) + v1).toNatClampNeg) ((((s.1 4) 28) + v6) - (((s.1 4) 28) + v6) / 16 * 16))) 14 (upd (s.1 14) 10 (((s.1 14) 10) ||| v5))) = r3 at j853 ⊢
      exact q_E_x (q_Iv_A (i := 14) j853 (q_hf_up ((j853).1 14) (q_sn11 (q_rg_le (L := 0) (U := 15) (q_rg_or (n := 4) (W := 15) (q_up_ne (i := 10) (j := 11) (by decide) (q_n11 hI)) rv5 (by decide) (by decide) (by decide) (by decide) (by decide)) (by decide) (by decide)))))
set_option maxHeartbeats 4000000 in
theorem dzjb_M228_64_51 (c d w : Int) (k51 : q_S → Int32 → Int32 → Int32 → Int32 → Int32 → Int32 → Int32 → Option (q_S)) (M51 : Int) (tk51 : ∀ (s : q_S), q_Iv c d w s → ∀ (v1 : Int32) (v2 : Int32) (v3 : Int32) (v4 : Int32) (v5 : Int32) (v6 : Int32) (v7 : Int32), q_rgz 0 31 v1 → q_rgz 0 31 v2 → q_rgz 0 3 v3 → q_rgz 0 1 v4 → q_rgz 0 15 v5 → q_rgz (-1) 3 v6 → q_rgz (-1) 3 v7 → ((v7.toInt - (-1)).toNat : Int) ≤ M51 → q_Ex (k51 s v1 v2 v3 v4 v5 v6 v7) (q_Iv c d w)) (s : q_S) (hI : q_Iv c d w s) (v1 : Int32) (v2 : Int32) (v3 : Int32) (v4 : Int32) (v5 : Int32) (v6 : Int32) (v7 : Int32) (rv1 : q_rgz 0 31 v1) (rv2 : q_rgz 0 31 v2) (rv3 : q_rgz 0 3 v3) (rv4 : q_rgz 0 1 v4) (rv5 : q_rgz 0 15 v5) (rv6 : q_rgz (-1) 3 v6) (rv7 : q_rgz (-1) 3 v7) (m51 : ((v7.toInt - (-1)).toNat : Int) ≤ M51 + 1) : q_Ex (cond (decide (v7 < 0)) (cond (decide (v6 < 0)) (dz_M228_64_118 s v1 v2 v3 v4 v5 v6) (cond (decide (v4 = 0)) (dz_M228_64_114 s v1 v2 v3 v4 v5 v6) (q_let (dz_M206 s ((s.1 4) 19) v6) fun r4 => cond r4 (dz_M228_64_118 s v1 v2 v3 v4 v5 v6) (dz_M228_64_114 s v1 v2 v3 v4 v5 v6)))) ((dz_M227_64 s v7 v1 v2).bind fun r5 => cond r5 (k51 s v1 v2 v3 v4 (v5 ||| ((1 : Int32) <<< (v7 &&& 31))) v7 (v7 + (-1))) (k51 s v1 v2 v3 v4 v5 v6 (v7 + (-1))))) (q_Iv c d w) := by
  cases h854 : decide (v7 < 0) with
  | true =>
    have g855 := (q_rg_ltT1 (l := -1) (U := -1) h854 rv7 (q_rg_lit (n := 0) (x := 0) rfl) (by decide))
    refine q_E_T ?_
    cases h856 : decide (v6 < 0) with
    | true =>
      have g857 := (q_rg_ltT1 (l := -1) (U := -1) h856 rv6 (q_rg_lit (n := 0) (x := 0) rfl) (by decide))
      refine q_E_T ?_
      exact dzj_M228_64_118 c d w (s) hI (v1) (v2) (v3) (v4) (v5) (v6) (q_rg_le (L := 0) (U := 31) rv1 (by decide) (by decide)) (q_rg_le (L := 0) (U := 31) rv2 (by decide) (by decide)) (q_rg_le (L := 0) (U := 3) rv3 (by decide) (by decide)) (q_rg_le (L := 0) (U := 1) rv4 (by decide) (by decide)) (q_rg_le (L := 0) (U := 15) rv5 (by decide) (by decide)) (q_rg_le (L := -1) (U := 3) g857 (by decide) (by decide))
    | false =>
      have g858 := (q_rg_ltF1 (l2 := 0) (u := 3) h856 rv6 (q_rg_lit (n := 0) (x := 0) rfl))
      refine q_E_F ?_
      cases h859 : decide (v4 = 0) with
      | true =>
        have g860 := q_rg_eqT h859 (q_rg_lit (n := 0) (x := 0) rfl)
        refine q_E_T ?_
        exact dzj_M228_64_114 c d w (s) hI (v1) (v2) (v3) (v4) (v5) (v6) (q_rg_le (L := 0) (U := 31) rv1 (by decide) (by decide)) (q_rg_le (L := 0) (U := 31) rv2 (by decide) (by decide)) (q_rg_le (L := 0) (U := 3) rv3 (by decide) (by decide)) (q_rg_le (L := 0) (U := 1) g860 (by decide) (by decide)) (q_rg_le (L := 0) (U := 15) rv5 (by decide) (by decide)) (q_rg_le (L := 0) (U := 3) g858 (by decide) (by decide))
      | false =>
        have g861 := (q_rg_neL (l := 0) (u := 1) (n := 0) (L := 1) h859 rv4 rfl (by decide) (by decide))
        refine q_E_F ?_
        refine q_E_L ?_
        generalize p862 : dz_M206 s ((s.1 4) 19) v6 = r4
        cases r4 with
        | true =>
          refine q_E_T ?_
          exact dzj_M228_64_118 c d w (s) hI (v1) (v2) (v3) (v4) (v5) (v6) (q_rg_le (L := 0) (U := 31) rv1 (by decide) (by decide)) (q_rg_le (L := 0) (U := 31) rv2 (by decide) (by decide)) (q_rg_le (L := 0) (U := 3) rv3 (by decide) (by decide)) (q_rg_le (L := 0) (U := 1) g861 (by decide) (by decide)) (q_rg_le (L := 0) (U := 15) rv5 (by decide) (by decide)) (q_rg_le (L := -1) (U := 3) g858 (by decide) (by decide))
        | false =>
          refine q_E_F ?_
          exact dzj_M228_64_114 c d w (s) hI (v1) (v2) (v3) (v4) (v5) (v6) (q_rg_le (L := 0) (U := 31) rv1 (by decide) (by decide)) (q_rg_le (L := 0) (U := 31) rv2 (by decide) (by decide)) (q_rg_le (L := 0) (U := 3) rv3 (by decide) (by decide)) (q_rg_le (L := 0) (U := 1) g861 (by decide) (by decide)) (q_rg_le (L := 0) (U := 15) rv5 (by decide) (by decide)) (q_rg_le (L := 0) (U := 3) g858 (by decide) (by decide))
  | false =>
    have g863 := (q_rg_ltF1 (l2 := 0) (u := 3) h854 rv7 (q_rg_lit (n := 0) (x := 0) rfl))
    refine q_E_F ?_
    obtain ⟨r5, e865, j864⟩ := dzj_M227_64 c d w (s) hI (v7) (v1) (v2) (q_rg_le (L := 0) (U := 3) g863 (by decide) (by decide)) (q_rg_le (L := 0) (U := 31) rv1 (by decide) (by decide)) (q_rg_le (L := 0) (U := 31) rv2 (by decide) (by decide))
    rw [e865]
    refine q_E_B ?_
    cases h866 : r5 with
    | true =>
      refine q_E_T ?_
      exact tk51 (s) hI (v1) (v2) (v3) (v4) (v5 ||| ((1 : Int32) <<< (v7 &&& 31))) (v7) (v7 + (-1)) (q_rg_le (L := 0) (U := 31) rv1 (by decide) (by decide)) (q_rg_le (L := 0) (U := 31) rv2 (by decide) (by decide)) (q_rg_le (L := 0) (U := 3) rv3 (by decide) (by decide)) (q_rg_le (L := 0) (U := 1) rv4 (by decide) (by decide)) (q_rg_le (L := 0) (U := 15) (q_rg_or (n := 4) (W := 15) rv5 (q_sh3 (q_rg_le g863 (by decide) (by decide))) (by decide) (by decide) (by decide) (by decide) (by decide)) (by decide) (by decide)) (q_rg_le (L := -1) (U := 3) g863 (by decide) (by decide)) (q_rg_le (L := -1) (U := 3) (q_rg_add (L := -1) (U := 2) g863 (q_rg_lit (n := -1) (x := -1) rfl) (by decide) (by decide) (by decide) (by decide)) (by decide) (by decide)) (q_med g863 m51 (by decide) (by decide))
    | false =>
      refine q_E_F ?_
      exact tk51 (s) hI (v1) (v2) (v3) (v4) (v5) (v6) (v7 + (-1)) (q_rg_le (L := 0) (U := 31) rv1 (by decide) (by decide)) (q_rg_le (L := 0) (U := 31) rv2 (by decide) (by decide)) (q_rg_le (L := 0) (U := 3) rv3 (by decide) (by decide)) (q_rg_le (L := 0) (U := 1) rv4 (by decide) (by decide)) (q_rg_le (L := 0) (U := 15) rv5 (by decide) (by decide)) (q_rg_le (L := -1) (U := 3) rv6 (by decide) (by decide)) (q_rg_le (L := -1) (U := 3) (q_rg_add (L := -1) (U := 2) g863 (q_rg_lit (n := -1) (x := -1) rfl) (by decide) (by decide) (by decide) (by decide)) (by decide) (by decide)) (q_med g863 m51 (by decide) (by decide))
theorem dzj_M228_64_51 (c d w : Int) : ∀ (m : Nat) (s : q_S) (hI : q_Iv c d w s) (v1 : Int32) (v2 : Int32) (v3 : Int32) (v4 : Int32) (v5 : Int32) (v6 : Int32) (v7 : Int32) (rv1 : q_rgz 0 31 v1) (rv2 : q_rgz 0 31 v2) (rv3 : q_rgz 0 3 v3) (rv4 : q_rgz 0 1 v4) (rv5 : q_rgz 0 15 v5) (rv6 : q_rgz (-1) 3 v6) (rv7 : q_rgz (-1) 3 v7), ((v7.toInt - (-1)).toNat : Int) ≤ (m : Int) → q_Ex (dz_M228_64_51 (m + 1) s v1 v2 v3 v4 v5 v6 v7) (q_Iv c d w) := by
  intro m
  induction m with
  | zero => intro s hI v1 v2 v3 v4 v5 v6 v7 rv1 rv2 rv3 rv4 rv5 rv6 rv7 hm; rw [dzs_M228_64_51]; exact dzjb_M228_64_51 c d w (dz_M228_64_51 0) (-1) (fun s hI v1 v2 v3 v4 v5 v6 v7 rv1 rv2 rv3 rv4 rv5 rv6 rv7 hm => absurd hm (by omega)) s hI v1 v2 v3 v4 v5 v6 v7 rv1 rv2 rv3 rv4 rv5 rv6 rv7 (by omega)
  | succ m ih => intro s hI v1 v2 v3 v4 v5 v6 v7 rv1 rv2 rv3 rv4 rv5 rv6 rv7 hm; rw [dzs_M228_64_51]; exact dzjb_M228_64_51 c d w (dz_M228_64_51 (m + 1)) (m : Int) (fun s hI v1 v2 v3 v4 v5 v6 v7 rv1 rv2 rv3 rv4 rv5 rv6 rv7 hm => ih s hI v1 v2 v3 v4 v5 v6 v7 rv1 rv2 rv3 rv4 rv5 rv6 rv7 hm) s hI v1 v2 v3 v4 v5 v6 v7 rv1 rv2 rv3 rv4 rv5 rv6 rv7 (by omega)
set_option maxHeartbeats 4000000 in
theorem dzj_M228_64 (c d w : Int) (s : q_S) (hI : q_Iv c d w s) (a1 : Int32) (a2 : Int32) (ra1 : q_rgz 0 31 a1) (ra2 : q_rgz 0 31 a2) : q_Ex (dz_M228_64 s a1 a2) (q_Iv c d w) := by
  unfold dz_M228_64
  obtain ⟨r1, e868, j867⟩ := dzj_M226_64 c d w (s) hI (a1) (a2) (q_rg_le (L := 0) (U := 31) ra1 (by decide) (by decide)) (q_rg_le (L := 0) (U := 31) ra2 (by decide) (by decide))
  rw [e868]
  refine q_E_B ?_
  cases h869 : decide ((s.1 4) 1 = 2) with
  | true =>
    have g870 := q_rg_eqT h869 (q_rg_lit (n := 2) (x := 2) rfl)
    refine q_E_T ?_
    cases h871 : decide (1 < r1) with
    | true =>
      have g872 := (q_rg_ltT2 (L := 2) (u2 := 3) h871 (q_rg_lit (n := 1) (x := 1) rfl) j867 (by decide))
      refine q_E_T ?_
      exact dzj_M228_64_51 c d w 4999 (s) hI (a1) (a2) (r1) (1) (0) (-1) (3) (q_rg_le (L := 0) (U := 31) ra1 (by decide) (by decide)) (q_rg_le (L := 0) (U := 31) ra2 (by decide) (by decide)) (q_rg_le (L := 0) (U := 3) g872 (by decide) (by decide)) (q_rg_le (L := 0) (U := 1) (q_rg_lit (n := 1) (x := 1) rfl) (by decide) (by decide)) (q_rg_le (L := 0) (U := 15) (q_rg_lit (n := 0) (x := 0) rfl) (by decide) (by decide)) (q_rg_le (L := -1) (U := 3) (q_rg_lit (n := -1) (x := -1) rfl) (by decide) (by decide)) (q_rg_le (L := -1) (U := 3) (q_rg_lit (n := 3) (x := 3) rfl) (by decide) (by decide)) (q_med0 (q_rg_lit (n := 3) (x := 3) rfl) (by decide) (by decide))
    | false =>
      have g873 := (q_rg_ltF2 (l2 := 0) (u := 1) h871 (q_rg_lit (n := 1) (x := 1) rfl) j867)
      refine q_E_F ?_
      exact dzj_M228_64_51 c d w 4999 (s) hI (a1) (a2) (r1) (0) (0) (-1) (3) (q_rg_le (L := 0) (U := 31) ra1 (by decide) (by decide)) (q_rg_le (L := 0) (U := 31) ra2 (by decide) (by decide)) (q_rg_le (L := 0) (U := 3) g873 (by decide) (by decide)) (q_rg_le (L := 0) (U := 1) (q_rg_lit (n := 0) (x := 0) rfl) (by decide) (by decide)) (q_rg_le (L := 0) (U := 15) (q_rg_lit (n := 0) (x := 0) rfl) (by decide) (by decide)) (q_rg_le (L := -1) (U := 3) (q_rg_lit (n := -1) (x := -1) rfl) (by decide) (by decide)) (q_rg_le (L := -1) (U := 3) (q_rg_lit (n := 3) (x := 3) rfl) (by decide) (by decide)) (q_med0 (q_rg_lit (n := 3) (x := 3) rfl) (by decide) (by decide))
  | false =>
    refine q_E_F ?_
    cases h874 : decide (r1 = 1) with
    | true =>
      have g875 := q_rg_eqT h874 (q_rg_lit (n := 1) (x := 1) rfl)
      refine q_E_T ?_
      exact dzj_M228_64_51 c d w 4999 (s) hI (a1) (a2) (r1) (1) (0) (-1) (3) (q_rg_le (L := 0) (U := 31) ra1 (by decide) (by decide)) (q_rg_le (L := 0) (U := 31) ra2 (by decide) (by decide)) (q_rg_le (L := 0) (U := 3) g875 (by decide) (by decide)) (q_rg_le (L := 0) (U := 1) (q_rg_lit (n := 1) (x := 1) rfl) (by decide) (by decide)) (q_rg_le (L := 0) (U := 15) (q_rg_lit (n := 0) (x := 0) rfl) (by decide) (by decide)) (q_rg_le (L := -1) (U := 3) (q_rg_lit (n := -1) (x := -1) rfl) (by decide) (by decide)) (q_rg_le (L := -1) (U := 3) (q_rg_lit (n := 3) (x := 3) rfl) (by decide) (by decide)) (q_med0 (q_rg_lit (n := 3) (x := 3) rfl) (by decide) (by decide))
    | false =>
      refine q_E_F ?_
      exact dzj_M228_64_51 c d w 4999 (s) hI (a1) (a2) (r1) (0) (0) (-1) (3) (q_rg_le (L := 0) (U := 31) ra1 (by decide) (by decide)) (q_rg_le (L := 0) (U := 31) ra2 (by decide) (by decide)) (q_rg_le (L := 0) (U := 3) j867 (by decide) (by decide)) (q_rg_le (L := 0) (U := 1) (q_rg_lit (n := 0) (x := 0) rfl) (by decide) (by decide)) (q_rg_le (L := 0) (U := 15) (q_rg_lit (n := 0) (x := 0) rfl) (by decide) (by decide)) (q_rg_le (L := -1) (U := 3) (q_rg_lit (n := -1) (x := -1) rfl) (by decide) (by decide)) (q_rg_le (L := -1) (U := 3) (q_rg_lit (n := 3) (x := 3) rfl) (by decide) (by decide)) (q_med0 (q_rg_lit (n := 3) (x := 3) rfl) (by decide) (by decide))
set_option maxHeartbeats 4000000 in
theorem dzj_M229_64 (c d w : Int) (s : q_S) (hI : q_Iv c d w s) (a1 : Int32) (ra1 : q_rgz 0 1 a1) : q_Ex (dz_M229_64 s a1) (fun (x : q_S × Bool) => q_Iv c d w x.1) := by
  unfold dz_M229_64
  refine q_E_A (q_in_rg (q_rg_add (L := 5) (U := 6) (q_rg_lit (n := 5) (x := 5) rfl) ra1 (by decide) (by decide) (by decide) (by decide)) (by decide) (by decide)) ?_
  cases h880 : decide (0 < (s.1 14) (((5 : Int32) + a1).toNatClampNeg)) with
  | true =>
    have g881 := (q_rg_ltT2 (L := 1) (u2 := 65535) h880 (q_rg_lit (n := 0) (x := 0) rfl) (q_rdv (i := 14) (a := 5) (n := 2) (L := 0) (U := 65535) hI (q_rg_le (q_rg_add (L := 5) (U := 6) (q_rg_lit (n := 5) (x := 5) rfl) ra1 (by decide) (by decide) (by decide) (by decide)) (by decide) (by decide)) rfl (by decide)) (by decide))
    refine q_E_T ?_
    exact q_E_x (q_Iv_A (i := 14) hI (q_hf_up ((hI).1 14) (q_stv (i := 14) (a := 5) (n := 2) (L := 0) (U := 65534) hI (q_rg_le (q_rg_add (L := 5) (U := 6) (q_rg_lit (n := 5) (x := 5) rfl) ra1 (by decide) (by decide) (by decide) (by decide)) (by decide) (by decide)) (by decide) (q_rg_sub (L := 0) (U := 65534) g881 (q_rg_lit (n := 1) (x := 1) rfl) (by decide) (by decide) (by decide) (by decide)))))
  | false =>
    have g882 := (q_rg_ltF2 (l2 := 0) (u := 0) h880 (q_rg_lit (n := 0) (x := 0) rfl) (q_rdv (i := 14) (a := 5) (n := 2) (L := 0) (U := 65535) hI (q_rg_le (q_rg_add (L := 5) (U := 6) (q_rg_lit (n := 5) (x := 5) rfl) ra1 (by decide) (by decide) (by decide) (by decide)) (by decide) (by decide)) rfl (by decide)))
    refine q_E_F ?_
    refine q_E_A (q_in_rg (q_rg_add (L := 7) (U := 8) (q_rg_lit (n := 7) (x := 7) rfl) ra1 (by decide) (by decide) (by decide) (by decide)) (by decide) (by decide)) ?_
    have j883 : q_Iv c d w (q_sA s 14 (upd (s.1 14) (((5 : Int32) + a1).toNatClampNeg) ((s.1 14) (((7 : Int32) + a1).toNatClampNeg)))) := (q_Iv_A (i := 14) hI (q_hf_up ((hI).1 14) (q_stv (i := 14) (a := 5) (n := 2) (L := 0) (U := 65535) hI (q_rg_le (q_rg_add (L := 5) (U := 6) (q_rg_lit (n := 5) (x := 5) rfl) ra1 (by decide) (by decide) (by decide) (by decide)) (by decide) (by decide)) (by decide) (q_rdv (i := 14) (a := 7) (n := 2) (L := 0) (U := 65535) hI (q_rg_le (q_rg_add (L := 7) (U := 8) (q_rg_lit (n := 7) (x := 7) rfl) ra1 (by decide) (by decide) (by decide) (by decide)) (by decide) (by decide)) rfl (by decide)))))
    refine q_E_L ?_
    generalize (q_sA s 14 (upd (s.1 14) (((5 : Int32) + a1).toNatClampNeg) ((s.1 14) (((7 : Int32) + a1).toNatClampNeg)))) = r1 at j883 ⊢
    exact q_E_x (q_Iv_A (i := 14) j883 (q_hf_up ((j883).1 14) (q_sn9 (q_rg_le (L := 0) (U := 15) (q_rg_or (n := 4) (W := 15) (q_up_ne (q_ixne (q_rg_add (L := 5) (U := 6) (q_rg_lit (n := 5) (x := 5) rfl) ra1 (by decide) (by decide) (by decide) (by decide)) (by decide) (by decide)) (q_n9 hI)) (q_sh2 (q_rg_le ra1 (by decide) (by decide))) (by decide) (by decide) (by decide) (by decide) (by decide)) (by decide) (by decide)))))
set_option maxHeartbeats 4000000 in
theorem dzj_M230_64 (c d w : Int) (s : q_S) (hI : q_Iv c d w s) : q_Ex (dz_M230_64 s) (q_Iv c d w) := by
  unfold dz_M230_64
  refine q_E_L ?_
  generalize p902 : dz_M206 s ((s.1 4) 16) 0 = r3
  cases r3 with
  | true =>
    refine q_E_T ?_
    obtain ⟨r4, e904, j903⟩ := dzj_M229_64 c d w (s) hI (0) (q_rg_le (L := 0) (U := 1) (q_rg_lit (n := 0) (x := 0) rfl) (by decide) (by decide))
    rw [e904]
    refine q_E_B ?_
    cases h905 : r4.2 with
    | true =>
      refine q_E_T ?_
      refine q_E_L ?_
      generalize p906 : dz_M206 (q_sI r4.1 0 38 1) ((r4.1.1 4) 16) 1 = r5
      cases r5 with
      | true =>
        refine q_E_T ?_
        obtain ⟨r6, e908, j907⟩ := dzj_M229_64 c d w (q_sI r4.1 0 38 1) (q_Iv_I (i := 0) (m := 38) j903 (q_rg_le (L := 0) (U := 1) (q_rg_lit (n := 1) (x := 1) rfl) (by decide) (by decide))) (1) (q_rg_le (L := 0) (U := 1) (q_rg_lit (n := 1) (x := 1) rfl) (by decide) (by decide))
        rw [e908]
        refine q_E_B ?_
        cases h909 : r6.2 with
        | true =>
          refine q_E_T ?_
          exact q_E_x j907
        | false =>
          refine q_E_F ?_
          exact q_E_x j907
      | false =>
        refine q_E_F ?_
        exact q_E_x (q_Iv_I (i := 0) (m := 38) j903 (q_rg_le (L := 0) (U := 1) (q_rg_lit (n := 1) (x := 1) rfl) (by decide) (by decide)))
    | false =>
      refine q_E_F ?_
      refine q_E_L ?_
      generalize p910 : dz_M206 (q_sI r4.1 0 38 0) ((r4.1.1 4) 16) 1 = r7
      cases r7 with
      | true =>
        refine q_E_T ?_
        refine q_E_L ?_
        generalize p911 : dz_M206 (q_sI r4.1 0 38 0) ((r4.1.1 4) 16) 2 = r8
        cases r8 with
        | true =>
          refine q_E_T ?_
          exact q_E_x (q_Iv_I (i := 0) (m := 38) j903 (q_rg_le (L := 0) (U := 1) (q_rg_lit (n := 0) (x := 0) rfl) (by decide) (by decide)))
        | false =>
          refine q_E_F ?_
          obtain ⟨r9, e913, j912⟩ := dzj_M229_64 c d w (q_sI r4.1 0 38 0) (q_Iv_I (i := 0) (m := 38) j903 (q_rg_le (L := 0) (U := 1) (q_rg_lit (n := 0) (x := 0) rfl) (by decide) (by decide))) (1) (q_rg_le (L := 0) (U := 1) (q_rg_lit (n := 1) (x := 1) rfl) (by decide) (by decide))
          rw [e913]
          refine q_E_B ?_
          cases h914 : r9.2 with
          | true =>
            refine q_E_T ?_
            exact q_E_x j912
          | false =>
            refine q_E_F ?_
            exact q_E_x j912
      | false =>
        refine q_E_F ?_
        exact q_E_x (q_Iv_I (i := 0) (m := 38) j903 (q_rg_le (L := 0) (U := 1) (q_rg_lit (n := 0) (x := 0) rfl) (by decide) (by decide)))
  | false =>
    refine q_E_F ?_
    refine q_E_L ?_
    generalize p915 : dz_M206 (q_sI s 0 38 0) ((s.1 4) 16) 1 = r10
    cases r10 with
    | true =>
      refine q_E_T ?_
      refine q_E_L ?_
      generalize p916 : dz_M206 (q_sI s 0 38 0) ((s.1 4) 16) 2 = r11
      cases r11 with
      | true =>
        refine q_E_T ?_
        exact q_E_x (q_Iv_I (i := 0) (m := 38) hI (q_rg_le (L := 0) (U := 1) (q_rg_lit (n := 0) (x := 0) rfl) (by decide) (by decide)))
      | false =>
        refine q_E_F ?_
        obtain ⟨r12, e918, j917⟩ := dzj_M229_64 c d w (q_sI s 0 38 0) (q_Iv_I (i := 0) (m := 38) hI (q_rg_le (L := 0) (U := 1) (q_rg_lit (n := 0) (x := 0) rfl) (by decide) (by decide))) (1) (q_rg_le (L := 0) (U := 1) (q_rg_lit (n := 1) (x := 1) rfl) (by decide) (by decide))
        rw [e918]
        refine q_E_B ?_
        cases h919 : r12.2 with
        | true =>
          refine q_E_T ?_
          exact q_E_x j917
        | false =>
          refine q_E_F ?_
          exact q_E_x j917
    | false =>
      refine q_E_F ?_
      exact q_E_x (q_Iv_I (i := 0) (m := 38) hI (q_rg_le (L := 0) (U := 1) (q_rg_lit (n := 0) (x := 0) rfl) (by decide) (by decide)))
set_option maxHeartbeats 4000000 in
theorem dzj_M231_64 (c d w : Int) (s : q_S) (hI : q_Iv c d w s) : q_Ex (dz_M231_64 s) (q_Iv c d w) := by
  unfold dz_M231_64
  cases h935 : decide ((s.1 4) 44 = 0) with
  | true =>
    have g936 := q_rg_eqT h935 (q_rg_lit (n := 0) (x := 0) rfl)
    refine q_E_T ?_
    exact q_E_x hI
  | false =>
    have g937 := (q_rg_neL (l := 0) (u := 1) (n := 0) (L := 1) h935 (q_g44 hI) rfl (by decide) (by decide))
    refine q_E_F ?_
    refine q_E_L ?_
    generalize p938 : dz_M209_64 s = r6
    cases r6 with
    | true =>
      have g939 : q_rgz 0 39 ((s.1 14) 14) := q_p209 (s := s) hI p938
      refine q_E_T ?_
      cases h940 : decide (0 < (upd (s.1 14) 15 (((s.1 14) 15) - 1)) 15) with
      | true =>
        have g941 := (q_rg_ltT2 (L := 1) (u2 := 2147483647) h940 (q_rg_lit (n := 0) (x := 0) rfl) (q_rg_full _) (by decide))
        refine q_E_T ?_
        exact q_E_x (q_Iv_A (i := 14) hI (q_hf_up ((hI).1 14) (q_sn15 (q_rg_full _))))
      | false =>
        have g942 := (q_rg_ltF2 (l2 := -2147483648) (u := 0) h940 (q_rg_lit (n := 0) (x := 0) rfl) (q_rg_full _))
        refine q_E_F ?_
        have j943 : q_Iv c d w (q_sA s 14 (upd (s.1 14) 15 (((s.1 14) 15) - 1))) := (q_Iv_A (i := 14) hI (q_hf_up ((hI).1 14) (q_sn15 (q_rg_full _))))
        refine q_E_L ?_
        generalize (q_sA s 14 (upd (s.1 14) 15 (((s.1 14) 15) - 1))) = r7 at j943 ⊢
        have j944 : q_Iv c d w (q_sA r7 14 (upd (r7.1 14) 14 (((upd (s.1 14) 15 (((s.1 14) 15) - 1)) 14) + 1))) := (q_Iv_A (i := 14) j943 (q_hf_up ((j943).1 14) (q_sn14 (q_rg_le (L := 0) (U := 40) (q_rg_add (L := 1) (U := 40) (q_up_ne (i := 15) (j := 14) (by decide) g939) (q_rg_lit (n := 1) (x := 1) rfl) (by decide) (by decide) (by decide) (by decide)) (by decide) (by decide)))))
        refine q_E_L ?_
        generalize (q_sA r7 14 (upd (r7.1 14) 14 (((upd (s.1 14) 15 (((s.1 14) 15) - 1)) 14) + 1))) = r8 at j944 ⊢
        have j945 : q_Iv c d w (q_sA r8 14 (upd (r8.1 14) 16 ((1 : Int32) - ((upd (r7.1 14) 14 (((upd (s.1 14) 15 (((s.1 14) 15) - 1)) 14) + 1)) 16)))) := (q_Iv_A (i := 14) j944 (q_hf_up ((j944).1 14) (q_sn16 (q_rg_le (L := 0) (U := 1) (q_rg_sub (L := 0) (U := 1) (q_rg_lit (n := 1) (x := 1) rfl) (q_up_ne (i := 14) (j := 16) (by decide) (q_n16 j943)) (by decide) (by decide) (by decide) (by decide)) (by decide) (by decide)))))
        refine q_E_L ?_
        generalize (q_sA r8 14 (upd (r8.1 14) 16 ((1 : Int32) - ((upd (r7.1 14) 14 (((upd (s.1 14) 15 (((s.1 14) 15) - 1)) 14) + 1)) 16)))) = r9 at j945 ⊢
        refine q_E_L ?_
        generalize p946 : dz_M209_64 (q_sA r9 14 (upd (r9.1 14) 9 (((upd (r8.1 14) 16 ((1 : Int32) - ((upd (r7.1 14) 14 (((upd (s.1 14) 15 (((s.1 14) 15) - 1)) 14) + 1)) 16))) 9) ||| 8))) = r10
        cases r10 with
        | true =>
          have g947 : q_rgz 0 39 ((upd (r9.1 14) 9 (((upd (r8.1 14) 16 ((1 : Int32) - ((upd (r7.1 14) 14 (((upd (s.1 14) 15 (((s.1 14) 15) - 1)) 14) + 1)) 16))) 9) ||| 8)) 14) := q_p209 (s := q_sA r9 14 (upd (r9.1 14) 9 (((upd (r8.1 14) 16 ((1 : Int32) - ((upd (r7.1 14) 14 (((upd (s.1 14) 15 (((s.1 14) 15) - 1)) 14) + 1)) 16))) 9) ||| 8))) (q_Iv_A (i := 14) j945 (q_hf_up ((j945).1 14) (q_sn9 (q_rg_le (L := 0) (U := 15) (q_rg_or (n := 4) (W := 15) (q_up_ne (i := 16) (j := 9) (by decide) (q_n9 j944)) (q_rg_lit (n := 8) (x := 8) rfl) (by decide) (by decide) (by decide) (by decide) (by decide)) (by decide) (by decide))))) p946
          refine q_E_T ?_
          refine q_E_A (q_in_rg g947 (by decide) (by decide)) ?_
          have j948 : q_Iv c d w (q_sA r9 14 (upd (r9.1 14) 9 (((upd (r8.1 14) 16 ((1 : Int32) - ((upd (r7.1 14) 14 (((upd (s.1 14) 15 (((s.1 14) 15) - 1)) 14) + 1)) 16))) 9) ||| 8))) := (q_Iv_A (i := 14) j945 (q_hf_up ((j945).1 14) (q_sn9 (q_rg_le (L := 0) (U := 15) (q_rg_or (n := 4) (W := 15) (q_up_ne (i := 16) (j := 9) (by decide) (q_n9 j944)) (q_rg_lit (n := 8) (x := 8) rfl) (by decide) (by decide) (by decide) (by decide) (by decide)) (by decide) (by decide)))))
          refine q_E_L ?_
          generalize (q_sA r9 14 (upd (r9.1 14) 9 (((upd (r8.1 14) 16 ((1 : Int32) - ((upd (r7.1 14) 14 (((upd (s.1 14) 15 (((s.1 14) 15) - 1)) 14) + 1)) 16))) 9) ||| 8))) = r11 at j948 ⊢
          exact q_E_x (q_Iv_A (i := 14) j948 (q_hf_up ((j948).1 14) (q_sn15 (q_rg_full _))))
        | false =>
          refine q_E_F ?_
          have j949 : q_Iv c d w (q_sA r9 14 (upd (r9.1 14) 9 (((upd (r8.1 14) 16 ((1 : Int32) - ((upd (r7.1 14) 14 (((upd (s.1 14) 15 (((s.1 14) 15) - 1)) 14) + 1)) 16))) 9) ||| 8))) := (q_Iv_A (i := 14) j945 (q_hf_up ((j945).1 14) (q_sn9 (q_rg_le (L := 0) (U := 15) (q_rg_or (n := 4) (W := 15) (q_up_ne (i := 16) (j := 9) (by decide) (q_n9 j944)) (q_rg_lit (n := 8) (x := 8) rfl) (by decide) (by decide) (by decide) (by decide) (by decide)) (by decide) (by decide)))))
          refine q_E_L ?_
          generalize (q_sA r9 14 (upd (r9.1 14) 9 (((upd (r8.1 14) 16 ((1 : Int32) - ((upd (r7.1 14) 14 (((upd (s.1 14) 15 (((s.1 14) 15) - 1)) 14) + 1)) 16))) 9) ||| 8))) = r12 at j949 ⊢
          exact q_E_x (q_Iv_A (i := 14) j949 (q_hf_up ((j949).1 14) (q_sn15 (q_rg_full _))))
    | false =>
      refine q_E_F ?_
      exact q_E_x hI
set_option maxHeartbeats 4000000 in
theorem dzj_M232_64_93 (c d w : Int) (s : q_S) (hI : q_Iv c d w s) (v1 : Int32) (v2 : Int32) (rv1 : q_rgz 0 2 v1) (rv2 : q_rgz 32 40 v2) : q_Ex (dz_M232_64_93 s v1 v2) (q_Iv c d w) := by
  unfold dz_M232_64_93
  refine q_E_A (q_in_rg (q_rg_add (L := 34) (U := 42) rv2 (q_rg_lit (n := 2) (x := 2) rfl) (by decide) (by decide) (by decide) (by decide)) (by decide) (by decide)) ?_
  refine q_E_L ?_
  generalize p969 : dz_M206 s ((s.1 4) ((v2 + 2).toNatClampNeg)) 0 = r2
  cases r2 with
  | true =>
    refine q_E_T ?_
    refine q_E_A (q_in_rg rv1 (by decide) (by decide)) ?_
    refine q_E_A (q_in_rg (q_rg_add (L := 35) (U := 43) rv2 (q_rg_lit (n := 3) (x := 3) rfl) (by decide) (by decide) (by decide) (by decide)) (by decide) (by decide)) ?_
    cases h970 : decide (((s.1 4) ((v2 + 3).toNatClampNeg)) - ((s.1 4) ((v2 + 3).toNatClampNeg)) / 16 * 16 < (upd (s.1 12) (v1.toNatClampNeg) (((s.1 12) (v1.toNatClampNeg)) + 1)) (v1.toNatClampNeg)) with
    | true =>
      have g971 := (q_rg_ltT2 (L := 1) (u2 := 2147483647) h970 (q_rg_rem (c := 16) (U := 15) (q_rdv (i := 4) (a := 35) (n := 9) (L := 0) (U := 255) hI (q_rg_le (q_rg_add (L := 35) (U := 43) rv2 (q_rg_lit (n := 3) (x := 3) rfl) (by decide) (by decide) (by decide) (by decide)) (by decide) (by decide)) rfl (by decide)) (by decide) rfl (by decide) (by decide)) (q_rg_full _) (by decide))
      refine q_E_T ?_
      have j972 : q_Iv c d w (q_sA s 12 (upd (s.1 12) (v1.toNatClampNeg) (((s.1 12) (v1.toNatClampNeg)) + 1))) := (q_Iv_A (i := 12) hI (q_hf_up ((hI).1 12) (q_s12 (q_rg_full _))))
      refine q_E_L ?_
      generalize (q_sA s 12 (upd (s.1 12) (v1.toNatClampNeg) (((s.1 12) (v1.toNatClampNeg)) + 1))) = r3 at j972 ⊢
      exact q_E_x (q_Iv_A (i := 11) (q_Iv_A (i := 12) j972 (q_hf_up ((j972).1 12) (q_s12 (q_rg_full _)))) (q_hf_up ((j972).1 11) (q_s11 (q_rg_le (L := 0) (U := 15) (q_rg_min (L := 1) (U := 15) (q_rg_add (L := 1) (U := 16) (q_r11 j972 _) (q_rg_lit (n := 1) (x := 1) rfl) (by decide) (by decide) (by decide) (by decide)) (q_rg_lit (n := 15) (x := 15) rfl) (by decide) (by decide) (by decide)) (by decide) (by decide)))))
    | false =>
      have g973 := (q_rg_ltF2 (l2 := -2147483648) (u := 15) h970 (q_rg_rem (c := 16) (U := 15) (q_rdv (i := 4) (a := 35) (n := 9) (L := 0) (U := 255) hI (q_rg_le (q_rg_add (L := 35) (U := 43) rv2 (q_rg_lit (n := 3) (x := 3) rfl) (by decide) (by decide) (by decide) (by decide)) (by decide) (by decide)) rfl (by decide)) (by decide) rfl (by decide) (by decide)) (q_rg_full _))
      refine q_E_F ?_
      exact q_E_x (q_Iv_A (i := 12) hI (q_hf_up ((hI).1 12) (q_s12 (q_rg_full _))))
  | false =>
    refine q_E_F ?_
    refine q_E_A (q_in_rg rv1 (by decide) (by decide)) ?_
    refine q_E_A (q_in_rg (q_rg_add (L := 35) (U := 43) rv2 (q_rg_lit (n := 3) (x := 3) rfl) (by decide) (by decide) (by decide) (by decide)) (by decide) (by decide)) ?_
    cases h974 : decide (((s.1 4) ((v2 + 3).toNatClampNeg)) / 16 < (upd (s.1 12) (v1.toNatClampNeg) (((s.1 12) (v1.toNatClampNeg)) + 1)) (v1.toNatClampNeg)) with
    | true =>
      have g975 := (q_rg_ltT2 (L := 1) (u2 := 2147483647) h974 (q_rg_div (c := 16) (U := 15) (q_rdv (i := 4) (a := 35) (n := 9) (L := 0) (U := 255) hI (q_rg_le (q_rg_add (L := 35) (U := 43) rv2 (q_rg_lit (n := 3) (x := 3) rfl) (by decide) (by decide) (by decide) (by decide)) (by decide) (by decide)) rfl (by decide)) (by decide) rfl (by decide) (by decide)) (q_rg_full _) (by decide))
      refine q_E_T ?_
      have j976 : q_Iv c d w (q_sA s 12 (upd (s.1 12) (v1.toNatClampNeg) (((s.1 12) (v1.toNatClampNeg)) + 1))) := (q_Iv_A (i := 12) hI (q_hf_up ((hI).1 12) (q_s12 (q_rg_full _))))
      refine q_E_L ?_
      generalize (q_sA s 12 (upd (s.1 12) (v1.toNatClampNeg) (((s.1 12) (v1.toNatClampNeg)) + 1))) = r4 at j976 ⊢
      exact q_E_x (q_Iv_A (i := 11) (q_Iv_A (i := 12) j976 (q_hf_up ((j976).1 12) (q_s12 (q_rg_full _)))) (q_hf_up ((j976).1 11) (q_s11 (q_rg_le (L := 0) (U := 15) (q_rg_max (L := 0) (U := 14) (q_rg_sub (L := -1) (U := 14) (q_r11 j976 _) (q_rg_lit (n := 1) (x := 1) rfl) (by decide) (by decide) (by decide) (by decide)) (q_rg_lit (n := 0) (x := 0) rfl) (by decide) (by decide) (by decide)) (by decide) (by decide)))))
    | false =>
      have g977 := (q_rg_ltF2 (l2 := -2147483648) (u := 15) h974 (q_rg_div (c := 16) (U := 15) (q_rdv (i := 4) (a := 35) (n := 9) (L := 0) (U := 255) hI (q_rg_le (q_rg_add (L := 35) (U := 43) rv2 (q_rg_lit (n := 3) (x := 3) rfl) (by decide) (by decide) (by decide) (by decide)) (by decide) (by decide)) rfl (by decide)) (by decide) rfl (by decide) (by decide)) (q_rg_full _))
      refine q_E_F ?_
      exact q_E_x (q_Iv_A (i := 12) hI (q_hf_up ((hI).1 12) (q_s12 (q_rg_full _))))
set_option maxHeartbeats 4000000 in
theorem dzj_M232_64 (c d w : Int) (s : q_S) (hI : q_Iv c d w s) (a1 : Int32) (ra1 : q_rgz 0 2 a1) : q_Ex (dz_M232_64 s a1) (q_Iv c d w) := by
  unfold dz_M232_64
  refine q_E_A (q_in_rg ra1 (by decide) (by decide)) ?_
  refine q_E_A (q_in_rg (q_rg_add (L := 32) (U := 40) (q_rg_lit (n := 32) (x := 32) rfl) (q_rg_mul (L := 0) (U := 8) (q_rg_lit (n := 4) (x := 4) rfl) ra1 (by decide) (by decide) (by decide) (by decide) (by decide) (by decide)) (by decide) (by decide) (by decide) (by decide)) (by decide) (by decide)) ?_
  refine q_E_A (q_in_rg (q_rg_add (L := 33) (U := 41) (q_rg_add (L := 32) (U := 40) (q_rg_lit (n := 32) (x := 32) rfl) (q_rg_mul (L := 0) (U := 8) (q_rg_lit (n := 4) (x := 4) rfl) ra1 (by decide) (by decide) (by decide) (by decide) (by decide) (by decide)) (by decide) (by decide) (by decide) (by decide)) (q_rg_lit (n := 1) (x := 1) rfl) (by decide) (by decide) (by decide) (by decide)) (by decide) (by decide)) ?_
  have j978 : q_rgz 0 131070 ((((s.1 10) (a1.toNatClampNeg)) + ((s.1 4) (((32 : Int32) + (4 * a1)).toNatClampNeg))) + (256 * ((s.1 4) ((((32 : Int32) + (4 * a1)) + 1).toNatClampNeg)))) := (q_rg_add (L := 0) (U := 131070) (q_rg_add (L := 0) (U := 65790) (q_r10 hI _) (q_rdv (i := 4) (a := 32) (n := 9) (L := 0) (U := 255) hI (q_rg_le (q_rg_add (L := 32) (U := 40) (q_rg_lit (n := 32) (x := 32) rfl) (q_rg_mul (L := 0) (U := 8) (q_rg_lit (n := 4) (x := 4) rfl) ra1 (by decide) (by decide) (by decide) (by decide) (by decide) (by decide)) (by decide) (by decide) (by decide) (by decide)) (by decide) (by decide)) rfl (by decide)) (by decide) (by decide) (by decide) (by decide)) (q_rg_mul (L := 0) (U := 65280) (q_rg_lit (n := 256) (x := 256) rfl) (q_rdv (i := 4) (a := 33) (n := 9) (L := 0) (U := 255) hI (q_rg_le (q_rg_add (L := 33) (U := 41) (q_rg_add (L := 32) (U := 40) (q_rg_lit (n := 32) (x := 32) rfl) (q_rg_mul (L := 0) (U := 8) (q_rg_lit (n := 4) (x := 4) rfl) ra1 (by decide) (by decide) (by decide) (by decide) (by decide) (by decide)) (by decide) (by decide) (by decide) (by decide)) (q_rg_lit (n := 1) (x := 1) rfl) (by decide) (by decide) (by decide) (by decide)) (by decide) (by decide)) rfl (by decide)) (by decide) (by decide) (by decide) (by decide) (by decide) (by decide)) (by decide) (by decide) (by decide) (by decide))
  refine q_E_L ?_
  generalize ((((s.1 10) (a1.toNatClampNeg)) + ((s.1 4) (((32 : Int32) + (4 * a1)).toNatClampNeg))) + (256 * ((s.1 4) ((((32 : Int32) + (4 * a1)) + 1).toNatClampNeg)))) = x1 at j978 ⊢
  cases h979 : decide (65535 < x1) with
  | true =>
    have g980 := (q_rg_ltT2 (L := 65536) (u2 := 131070) h979 (q_rg_lit (n := 65535) (x := 65535) rfl) j978 (by decide))
    refine q_E_T ?_
    cases h981 : decide (((s.1 13) (a1.toNatClampNeg)) - ((s.1 13) (a1.toNatClampNeg)) / 2 * 2 = (((s.1 13) (a1.toNatClampNeg)) / 2) - (((s.1 13) (a1.toNatClampNeg)) / 2) / 2 * 2) with
    | true =>
      refine q_E_T ?_
      exact dzj_M232_64_93 c d w (q_sA (q_sA s 10 (upd (s.1 10) (a1.toNatClampNeg) (x1 - x1 / 65536 * 65536))) 13 (upd (s.1 13) (a1.toNatClampNeg) ((((s.1 13) (a1.toNatClampNeg)) / 2) + 0))) (q_Iv_A (i := 13) (q_Iv_A (i := 10) hI (q_hf_up ((hI).1 10) (q_s10 (q_rg_le (L := 0) (U := 65535) (q_rg_rem (c := 65536) (U := 65535) g980 (by decide) rfl (by decide) (by decide)) (by decide) (by decide))))) (q_hf_up ((hI).1 13) (q_s13 (q_rg_le (L := 0) (U := 32767) (q_rg_add (L := 0) (U := 16383) (q_rg_div (c := 2) (U := 16383) (q_r13 hI _) (by decide) rfl (by decide) (by decide)) (q_rg_lit (n := 0) (x := 0) rfl) (by decide) (by decide) (by decide) (by decide)) (by decide) (by decide))))) (a1) ((32 : Int32) + (4 * a1)) (q_rg_le (L := 0) (U := 2) ra1 (by decide) (by decide)) (q_rg_le (L := 32) (U := 40) (q_rg_add (L := 32) (U := 40) (q_rg_lit (n := 32) (x := 32) rfl) (q_rg_mul (L := 0) (U := 8) (q_rg_lit (n := 4) (x := 4) rfl) ra1 (by decide) (by decide) (by decide) (by decide) (by decide) (by decide)) (by decide) (by decide) (by decide) (by decide)) (by decide) (by decide))
    | false =>
      refine q_E_F ?_
      exact dzj_M232_64_93 c d w (q_sA (q_sA s 10 (upd (s.1 10) (a1.toNatClampNeg) (x1 - x1 / 65536 * 65536))) 13 (upd (s.1 13) (a1.toNatClampNeg) ((((s.1 13) (a1.toNatClampNeg)) / 2) + 16384))) (q_Iv_A (i := 13) (q_Iv_A (i := 10) hI (q_hf_up ((hI).1 10) (q_s10 (q_rg_le (L := 0) (U := 65535) (q_rg_rem (c := 65536) (U := 65535) g980 (by decide) rfl (by decide) (by decide)) (by decide) (by decide))))) (q_hf_up ((hI).1 13) (q_s13 (q_rg_le (L := 0) (U := 32767) (q_rg_add (L := 16384) (U := 32767) (q_rg_div (c := 2) (U := 16383) (q_r13 hI _) (by decide) rfl (by decide) (by decide)) (q_rg_lit (n := 16384) (x := 16384) rfl) (by decide) (by decide) (by decide) (by decide)) (by decide) (by decide))))) (a1) ((32 : Int32) + (4 * a1)) (q_rg_le (L := 0) (U := 2) ra1 (by decide) (by decide)) (q_rg_le (L := 32) (U := 40) (q_rg_add (L := 32) (U := 40) (q_rg_lit (n := 32) (x := 32) rfl) (q_rg_mul (L := 0) (U := 8) (q_rg_lit (n := 4) (x := 4) rfl) ra1 (by decide) (by decide) (by decide) (by decide) (by decide) (by decide)) (by decide) (by decide) (by decide) (by decide)) (by decide) (by decide))
  | false =>
    have g982 := (q_rg_ltF2 (l2 := 0) (u := 65535) h979 (q_rg_lit (n := 65535) (x := 65535) rfl) j978)
    refine q_E_F ?_
    exact dzj_M232_64_93 c d w (q_sA s 10 (upd (s.1 10) (a1.toNatClampNeg) (x1 - x1 / 65536 * 65536))) (q_Iv_A (i := 10) hI (q_hf_up ((hI).1 10) (q_s10 (q_rg_le (L := 0) (U := 65535) (q_rg_rem2 (c := 65536) g982 (by decide) rfl (by decide)) (by decide) (by decide))))) (a1) ((32 : Int32) + (4 * a1)) (q_rg_le (L := 0) (U := 2) ra1 (by decide) (by decide)) (q_rg_le (L := 32) (U := 40) (q_rg_add (L := 32) (U := 40) (q_rg_lit (n := 32) (x := 32) rfl) (q_rg_mul (L := 0) (U := 8) (q_rg_lit (n := 4) (x := 4) rfl) ra1 (by decide) (by decide) (by decide) (by decide) (by decide) (by decide)) (by decide) (by decide) (by decide) (by decide)) (by decide) (by decide))
set_option maxHeartbeats 4000000 in
theorem dzj_M233_64 (c d w : Int) (s : q_S) (hI : q_Iv c d w s) (a1 : Int32) (ra1 : q_rgz 0 2 a1) : q_Ex (dz_M233_64 s a1) (fun _ => True) := by
  unfold dz_M233_64
  refine q_E_A (q_in_rg (q_rg_add (L := 34) (U := 42) (q_rg_lit (n := 34) (x := 34) rfl) (q_rg_mul (L := 0) (U := 8) (q_rg_lit (n := 4) (x := 4) rfl) ra1 (by decide) (by decide) (by decide) (by decide) (by decide) (by decide)) (by decide) (by decide) (by decide) (by decide)) (by decide) (by decide)) ?_
  have j1017 : q_rgz 0 3 ((((s.1 4) (((34 : Int32) + (4 * a1)).toNatClampNeg)) / 2) - (((s.1 4) (((34 : Int32) + (4 * a1)).toNatClampNeg)) / 2) / 4 * 4) := (q_rg_rem (c := 4) (U := 3) (q_rg_div (c := 2) (U := 127) (q_rdv (i := 4) (a := 34) (n := 9) (L := 0) (U := 255) hI (q_rg_le (q_rg_add (L := 34) (U := 42) (q_rg_lit (n := 34) (x := 34) rfl) (q_rg_mul (L := 0) (U := 8) (q_rg_lit (n := 4) (x := 4) rfl) ra1 (by decide) (by decide) (by decide) (by decide) (by decide) (by decide)) (by decide) (by decide) (by decide) (by decide)) (by decide) (by decide)) rfl (by decide)) (by decide) rfl (by decide) (by decide)) (by decide) rfl (by decide) (by decide))
  refine q_E_L ?_
  generalize ((((s.1 4) (((34 : Int32) + (4 * a1)).toNatClampNeg)) / 2) - (((s.1 4) (((34 : Int32) + (4 * a1)).toNatClampNeg)) / 2) / 4 * 4) = x1 at j1017 ⊢
  cases h1018 : decide (x1 = 0) with
  | true =>
    have g1019 := q_rg_eqT h1018 (q_rg_lit (n := 0) (x := 0) rfl)
    refine q_E_T ?_
    refine q_E_A (q_in_rg ra1 (by decide) (by decide)) ?_
    refine q_E_L ?_
    generalize p1020 : dz_M206 s ((s.1 4) (((34 : Int32) + (4 * a1)).toNatClampNeg)) 3 = r2
    cases r2 with
    | true =>
      refine q_E_T ?_
      refine q_E_A (q_in_rg (q_rg_rem (c := 3) (U := 2) (q_rg_add (L := 2) (U := 4) ra1 (q_rg_lit (n := 2) (x := 2) rfl) (by decide) (by decide) (by decide) (by decide)) (by decide) rfl (by decide) (by decide)) (by decide) (by decide)) ?_
      cases h1021 : decide ((s.1 10) (((a1 + 2) - (a1 + 2) / 3 * 3).toNatClampNeg) < 32768) with
      | true =>
        have g1022 := (q_rg_ltT1 (l := 0) (U := 32767) h1021 (q_r10 hI _) (q_rg_lit (n := 32768) (x := 32768) rfl) (by decide))
        refine q_E_T ?_
        exact q_E_x trivial
      | false =>
        have g1023 := (q_rg_ltF1 (l2 := 32768) (u := 65535) h1021 (q_r10 hI _) (q_rg_lit (n := 32768) (x := 32768) rfl))
        refine q_E_F ?_
        exact q_E_x trivial
    | false =>
      refine q_E_F ?_
      exact q_E_x trivial
  | false =>
    have g1024 := (q_rg_neL (l := 0) (u := 3) (n := 0) (L := 1) h1018 j1017 rfl (by decide) (by decide))
    refine q_E_F ?_
    cases h1025 : decide (x1 = 1) with
    | true =>
      have g1026 := q_rg_eqT h1025 (q_rg_lit (n := 1) (x := 1) rfl)
      refine q_E_T ?_
      refine q_E_A (q_in_rg ra1 (by decide) (by decide)) ?_
      cases h1027 : decide ((s.1 10) (a1.toNatClampNeg) < 32768) with
      | true =>
        have g1028 := (q_rg_ltT1 (l := 0) (U := 32767) h1027 (q_r10 hI _) (q_rg_lit (n := 32768) (x := 32768) rfl) (by decide))
        refine q_E_T ?_
        refine q_E_L ?_
        generalize p1029 : dz_M206 s ((s.1 4) (((34 : Int32) + (4 * a1)).toNatClampNeg)) 3 = r3
        cases r3 with
        | true =>
          refine q_E_T ?_
          refine q_E_A (q_in_rg (q_rg_rem (c := 3) (U := 2) (q_rg_add (L := 2) (U := 4) ra1 (q_rg_lit (n := 2) (x := 2) rfl) (by decide) (by decide) (by decide) (by decide)) (by decide) rfl (by decide) (by decide)) (by decide) (by decide)) ?_
          cases h1030 : decide ((s.1 10) (((a1 + 2) - (a1 + 2) / 3 * 3).toNatClampNeg) < 32768) with
          | true =>
            have g1031 := (q_rg_ltT1 (l := 0) (U := 32767) h1030 (q_r10 hI _) (q_rg_lit (n := 32768) (x := 32768) rfl) (by decide))
            refine q_E_T ?_
            exact q_E_x trivial
          | false =>
            have g1032 := (q_rg_ltF1 (l2 := 32768) (u := 65535) h1030 (q_r10 hI _) (q_rg_lit (n := 32768) (x := 32768) rfl))
            refine q_E_F ?_
            exact q_E_x trivial
        | false =>
          refine q_E_F ?_
          exact q_E_x trivial
      | false =>
        have g1033 := (q_rg_ltF1 (l2 := 32768) (u := 65535) h1027 (q_r10 hI _) (q_rg_lit (n := 32768) (x := 32768) rfl))
        refine q_E_F ?_
        refine q_E_L ?_
        generalize p1034 : dz_M206 s ((s.1 4) (((34 : Int32) + (4 * a1)).toNatClampNeg)) 3 = r4
        cases r4 with
        | true =>
          refine q_E_T ?_
          refine q_E_A (q_in_rg (q_rg_rem (c := 3) (U := 2) (q_rg_add (L := 2) (U := 4) ra1 (q_rg_lit (n := 2) (x := 2) rfl) (by decide) (by decide) (by decide) (by decide)) (by decide) rfl (by decide) (by decide)) (by decide) (by decide)) ?_
          cases h1035 : decide ((s.1 10) (((a1 + 2) - (a1 + 2) / 3 * 3).toNatClampNeg) < 32768) with
          | true =>
            have g1036 := (q_rg_ltT1 (l := 0) (U := 32767) h1035 (q_r10 hI _) (q_rg_lit (n := 32768) (x := 32768) rfl) (by decide))
            refine q_E_T ?_
            exact q_E_x trivial
          | false =>
            have g1037 := (q_rg_ltF1 (l2 := 32768) (u := 65535) h1035 (q_r10 hI _) (q_rg_lit (n := 32768) (x := 32768) rfl))
            refine q_E_F ?_
            exact q_E_x trivial
        | false =>
          refine q_E_F ?_
          exact q_E_x trivial
    | false =>
      have g1038 := (q_rg_neL (l := 1) (u := 3) (n := 1) (L := 2) h1025 g1024 rfl (by decide) (by decide))
      refine q_E_F ?_
      cases h1039 : decide (x1 = 2) with
      | true =>
        have g1040 := q_rg_eqT h1039 (q_rg_lit (n := 2) (x := 2) rfl)
        refine q_E_T ?_
        refine q_E_A (q_in_rg ra1 (by decide) (by decide)) ?_
        have j1041 : q_rgz 0 15 (((s.1 13) (a1.toNatClampNeg)) - ((s.1 13) (a1.toNatClampNeg)) / 16 * 16) := (q_rg_rem (c := 16) (U := 15) (q_r13 hI _) (by decide) rfl (by decide) (by decide))
        refine q_E_L ?_
        generalize (((s.1 13) (a1.toNatClampNeg)) - ((s.1 13) (a1.toNatClampNeg)) / 16 * 16) = x5 at j1041 ⊢
        refine q_E_L ?_
        generalize p1042 : dz_M206 s ((s.1 4) (((34 : Int32) + (4 * a1)).toNatClampNeg)) 3 = r6
        cases r6 with
        | true =>
          refine q_E_T ?_
          refine q_E_A (q_in_rg (q_rg_rem (c := 3) (U := 2) (q_rg_add (L := 2) (U := 4) ra1 (q_rg_lit (n := 2) (x := 2) rfl) (by decide) (by decide) (by decide) (by decide)) (by decide) rfl (by decide) (by decide)) (by decide) (by decide)) ?_
          cases h1043 : decide ((s.1 10) (((a1 + 2) - (a1 + 2) / 3 * 3).toNatClampNeg) < 32768) with
          | true =>
            have g1044 := (q_rg_ltT1 (l := 0) (U := 32767) h1043 (q_r10 hI _) (q_rg_lit (n := 32768) (x := 32768) rfl) (by decide))
            refine q_E_T ?_
            exact q_E_x trivial
          | false =>
            have g1045 := (q_rg_ltF1 (l2 := 32768) (u := 65535) h1043 (q_r10 hI _) (q_rg_lit (n := 32768) (x := 32768) rfl))
            refine q_E_F ?_
            exact q_E_x trivial
        | false =>
          refine q_E_F ?_
          exact q_E_x trivial
      | false =>
        have g1046 := (q_rg_neL (l := 2) (u := 3) (n := 2) (L := 3) h1039 g1038 rfl (by decide) (by decide))
        refine q_E_F ?_
        refine q_E_L ?_
        generalize p1047 : dz_M206 s ((s.1 4) (((34 : Int32) + (4 * a1)).toNatClampNeg)) 3 = r7
        cases r7 with
        | true =>
          refine q_E_T ?_
          refine q_E_A (q_in_rg (q_rg_rem (c := 3) (U := 2) (q_rg_add (L := 2) (U := 4) ra1 (q_rg_lit (n := 2) (x := 2) rfl) (by decide) (by decide) (by decide) (by decide)) (by decide) rfl (by decide) (by decide)) (by decide) (by decide)) ?_
          cases h1048 : decide ((s.1 10) (((a1 + 2) - (a1 + 2) / 3 * 3).toNatClampNeg) < 32768) with
          | true =>
            have g1049 := (q_rg_ltT1 (l := 0) (U := 32767) h1048 (q_r10 hI _) (q_rg_lit (n := 32768) (x := 32768) rfl) (by decide))
            refine q_E_T ?_
            exact q_E_x trivial
          | false =>
            have g1050 := (q_rg_ltF1 (l2 := 32768) (u := 65535) h1048 (q_r10 hI _) (q_rg_lit (n := 32768) (x := 32768) rfl))
            refine q_E_F ?_
            exact q_E_x trivial
        | false =>
          refine q_E_F ?_
          exact q_E_x trivial
set_option maxHeartbeats 4000000 in
theorem dzjb_M234_64_22 (c d w : Int) (k22 : q_S → Int32 → Int32 → Option (q_S)) (M22 : Int) (tk22 : ∀ (s : q_S), q_Iv c d w s → ∀ (v1 : Int32) (v2 : Int32), q_rgz 0 3 v2 → ((3 - v2.toInt).toNat : Int) ≤ M22 → q_Ex (k22 s v1 v2) (q_Iv c d w)) (s : q_S) (hI : q_Iv c d w s) (v1 : Int32) (v2 : Int32) (rv2 : q_rgz 0 3 v2) (m22 : ((3 - v2.toInt).toNat : Int) ≤ M22 + 1) : q_Ex (cond (decide (v2 < 3)) ((dz_M233_64 s v2).bind fun r2 => cond (q_in v2 3) (k22 s (v1 + (r2 * ((s.1 11) (v2.toNatClampNeg)))) (v2 + 1)) none) (q_let (dz_M207_64 s) fun r3 => cond (q_in r3 40) (some (q_sA s 6 (upd (s.1 6) (r3.toNatClampNeg) (v1 / 15)))) none)) (q_Iv c d w) := by
  cases h1103 : decide (v2 < 3) with
  | true =>
    have g1104 := (q_rg_ltT1 (l := 0) (U := 2) h1103 rv2 (q_rg_lit (n := 3) (x := 3) rfl) (by decide))
    refine q_E_T ?_
    obtain ⟨r2, e1106, j1105⟩ := dzj_M233_64 c d w (s) hI (v2) (q_rg_le (L := 0) (U := 2) g1104 (by decide) (by decide))
    rw [e1106]
    refine q_E_B ?_
    refine q_E_A (q_in_rg g1104 (by decide) (by decide)) ?_
    exact tk22 (s) hI (v1 + (r2 * ((s.1 11) (v2.toNatClampNeg)))) (v2 + 1) (q_rg_le (L := 0) (U := 3) (q_rg_add (L := 1) (U := 3) g1104 (q_rg_lit (n := 1) (x := 1) rfl) (by decide) (by decide) (by decide) (by decide)) (by decide) (by decide)) (q_meu g1104 m22 (by decide) (by decide))
  | false =>
    have g1107 := (q_rg_ltF1 (l2 := 3) (u := 3) h1103 rv2 (q_rg_lit (n := 3) (x := 3) rfl))
    refine q_E_F ?_
    have j1108 := dzj_M207_64 c d w (s) hI
    refine q_E_L ?_
    generalize dz_M207_64 s = r3 at j1108 ⊢
    refine q_E_A (q_in_rg j1108 (by decide) (by decide)) ?_
    exact q_E_x (q_Iv_A (i := 6) hI (q_hf_up ((hI).1 6) (q_s6 (q_rg_full _))))
theorem dzj_M234_64_22 (c d w : Int) : ∀ (m : Nat) (s : q_S) (hI : q_Iv c d w s) (v1 : Int32) (v2 : Int32) (rv2 : q_rgz 0 3 v2), ((3 - v2.toInt).toNat : Int) ≤ (m : Int) → q_Ex (dz_M234_64_22 (m + 1) s v1 v2) (q_Iv c d w) := by
  intro m
  induction m with
  | zero => intro s hI v1 v2 rv2 hm; rw [dzs_M234_64_22]; exact dzjb_M234_64_22 c d w (dz_M234_64_22 0) (-1) (fun s hI v1 v2 rv2 hm => absurd hm (by omega)) s hI v1 v2 rv2 (by omega)
  | succ m ih => intro s hI v1 v2 rv2 hm; rw [dzs_M234_64_22]; exact dzjb_M234_64_22 c d w (dz_M234_64_22 (m + 1)) (m : Int) (fun s hI v1 v2 rv2 hm => ih s hI v1 v2 rv2 hm) s hI v1 v2 rv2 (by omega)
set_option maxHeartbeats 4000000 in
theorem dzjb_M234_64_2 (c d w : Int) (k2 : q_S → Int32 → Option (q_S)) (M2 : Int) (tk2 : ∀ (s : q_S), q_Iv c d w s → ∀ (v1 : Int32), q_rgz 0 3 v1 → ((3 - v1.toInt).toNat : Int) ≤ M2 → q_Ex (k2 s v1) (q_Iv c d w)) (s : q_S) (hI : q_Iv c d w s) (v1 : Int32) (rv1 : q_rgz 0 3 v1) (m2 : ((3 - v1.toInt).toNat : Int) ≤ M2 + 1) : q_Ex (cond (decide (v1 < 3)) ((dz_M232_64 s v1).bind fun r1 => k2 r1 (v1 + 1)) (dz_M234_64_22 5000 s 0 0)) (q_Iv c d w) := by
  cases h1109 : decide (v1 < 3) with
  | true =>
    have g1110 := (q_rg_ltT1 (l := 0) (U := 2) h1109 rv1 (q_rg_lit (n := 3) (x := 3) rfl) (by decide))
    refine q_E_T ?_
    obtain ⟨r1, e1112, j1111⟩ := dzj_M232_64 c d w (s) hI (v1) (q_rg_le (L := 0) (U := 2) g1110 (by decide) (by decide))
    rw [e1112]
    refine q_E_B ?_
    exact tk2 (r1) j1111 (v1 + 1) (q_rg_le (L := 0) (U := 3) (q_rg_add (L := 1) (U := 3) g1110 (q_rg_lit (n := 1) (x := 1) rfl) (by decide) (by decide) (by decide) (by decide)) (by decide) (by decide)) (q_meu g1110 m2 (by decide) (by decide))
  | false =>
    have g1113 := (q_rg_ltF1 (l2 := 3) (u := 3) h1109 rv1 (q_rg_lit (n := 3) (x := 3) rfl))
    refine q_E_F ?_
    exact dzj_M234_64_22 c d w 4999 (s) hI (0) (0) (q_rg_le (L := 0) (U := 3) (q_rg_lit (n := 0) (x := 0) rfl) (by decide) (by decide)) (q_meu0 (q_rg_lit (n := 0) (x := 0) rfl) (by decide) (by decide))
theorem dzj_M234_64_2 (c d w : Int) : ∀ (m : Nat) (s : q_S) (hI : q_Iv c d w s) (v1 : Int32) (rv1 : q_rgz 0 3 v1), ((3 - v1.toInt).toNat : Int) ≤ (m : Int) → q_Ex (dz_M234_64_2 (m + 1) s v1) (q_Iv c d w) := by
  intro m
  induction m with
  | zero => intro s hI v1 rv1 hm; rw [dzs_M234_64_2]; exact dzjb_M234_64_2 c d w (dz_M234_64_2 0) (-1) (fun s hI v1 rv1 hm => absurd hm (by omega)) s hI v1 rv1 (by omega)
  | succ m ih => intro s hI v1 rv1 hm; rw [dzs_M234_64_2]; exact dzjb_M234_64_2 c d w (dz_M234_64_2 (m + 1)) (m : Int) (fun s hI v1 rv1 hm => ih s hI v1 rv1 hm) s hI v1 rv1 (by omega)
set_option maxHeartbeats 4000000 in
theorem dzj_M234_64 (c d w : Int) (s : q_S) (hI : q_Iv c d w s) : q_Ex (dz_M234_64 s) (q_Iv c d w) := by
  unfold dz_M234_64
  exact dzj_M234_64_2 c d w 4999 (s) hI (0) (q_rg_le (L := 0) (U := 3) (q_rg_lit (n := 0) (x := 0) rfl) (by decide) (by decide)) (q_meu0 (q_rg_lit (n := 0) (x := 0) rfl) (by decide) (by decide))
set_option maxHeartbeats 4000000 in
theorem dzj_M247_64 (c d w : Int) (s : q_S) (hI : q_Iv c d w s) (a1 : Int32) : q_Ex (dz_M247_64 s a1) (fun (x : q_S × Int32) => q_Iv c d w x.1 ∧ q_rgz 0 255 x.2) := by
  unfold dz_M247_64
  have j1117 := dzj_M213 c d w (s) hI (a1)
  refine q_E_L ?_
  generalize dz_M213 s a1 = r3 at j1117 ⊢
  obtain ⟨r4, e1119, j1118⟩ := dzj_M214_64 c d w (s) hI (r3) (q_rg_le (L := 0) (U := 4095) j1117 (by decide) (by decide))
  rw [e1119]
  refine q_E_B ?_
  exact q_E_x ⟨j1118.1, q_rg_le j1118.2 (by decide) (by decide)⟩
theorem dzj_M244 (c d w : Int) (s : q_S) (hI : q_Iv c d w s) (a0 : Int32) : (fun _ => True) (dz_M244 s a0) := trivial
set_option maxHeartbeats 4000000 in
theorem dzj_M253_64 (c d w : Int) (s : q_S) (hI : q_Iv c d w s) (a1 : Int32) : q_Ex (dz_M253_64 s a1) (fun (x : q_S × Int32) => q_Iv c d w x.1 ∧ q_rgz 0 4095 x.2) := by
  unfold dz_M253_64
  obtain ⟨r2, e1138, j1137⟩ := dzj_M247_64 c d w (s) hI (a1 + 1)
  rw [e1138]
  refine q_E_B ?_
  cases h1139 : decide (127 < r2.2) with
  | true =>
    have g1140 := (q_rg_ltT2 (L := 128) (u2 := 255) h1139 (q_rg_lit (n := 127) (x := 127) rfl) j1137.2 (by decide))
    refine q_E_T ?_
    have j1141 := dzj_M213 c d w (r2.1) j1137.1 ((a1 + 2) + (r2.2 - 256))
    refine q_E_L ?_
    generalize dz_M213 r2.1 ((a1 + 2) + (r2.2 - 256)) = r3 at j1141 ⊢
    exact q_E_x ⟨j1137.1, q_rg_le j1141 (by decide) (by decide)⟩
  | false =>
    have g1142 := (q_rg_ltF2 (l2 := 0) (u := 127) h1139 (q_rg_lit (n := 127) (x := 127) rfl) j1137.2)
    refine q_E_F ?_
    have j1143 := dzj_M213 c d w (r2.1) j1137.1 ((a1 + 2) + r2.2)
    refine q_E_L ?_
    generalize dz_M213 r2.1 ((a1 + 2) + r2.2) = r4 at j1143 ⊢
    exact q_E_x ⟨j1137.1, q_rg_le j1143 (by decide) (by decide)⟩
set_option maxHeartbeats 4000000 in
theorem dzj_M248_64 (c d w : Int) (s : q_S) (hI : q_Iv c d w s) (a1 : Int32) : q_Ex (dz_M248_64 s a1) (fun (x : q_S × Int32) => q_Iv c d w x.1 ∧ q_rgz 0 4095 x.2) := by
  unfold dz_M248_64
  obtain ⟨r2, e1150, j1149⟩ := dzj_M247_64 c d w (s) hI (a1)
  rw [e1150]
  refine q_E_B ?_
  obtain ⟨r3, e1152, j1151⟩ := dzj_M247_64 c d w (r2.1) j1149.1 (a1 + 1)
  rw [e1152]
  refine q_E_B ?_
  have j1153 := dzj_M213 c d w (r3.1) j1151.1 (r2.2 + (256 * r3.2))
  refine q_E_L ?_
  generalize dz_M213 r3.1 (r2.2 + (256 * r3.2)) = r4 at j1153 ⊢
  exact q_E_x ⟨j1151.1, q_rg_le j1153 (by decide) (by decide)⟩
set_option maxHeartbeats 4000000 in
theorem dzj_M249_64 (c d w : Int) (s : q_S) (hI : q_Iv c d w s) (a1 : Int32) (a2 : Int32) : q_Ex (dz_M249_64 s a1 a2) (fun (x : q_S × Int32) => q_Iv c d w x.1 ∧ q_rgz 0 4095 x.2) := by
  unfold dz_M249_64
  cases h1166 : decide (a1 < 6) with
  | true =>
    have g1167 := (q_rg_ltT1 (l := -2147483648) (U := 5) h1166 (q_rg_full _) (q_rg_lit (n := 6) (x := 6) rfl) (by decide))
    refine q_E_T ?_
    obtain ⟨r2, e1169, j1168⟩ := dzj_M248_64 c d w (s) hI (a2 + 1)
    rw [e1169]
    refine q_E_B ?_
    exact q_E_x ⟨j1168.1, q_rg_le j1168.2 (by decide) (by decide)⟩
  | false =>
    have g1170 := (q_rg_ltF1 (l2 := 6) (u := 2147483647) h1166 (q_rg_full _) (q_rg_lit (n := 6) (x := 6) rfl))
    refine q_E_F ?_
    obtain ⟨r3, e1172, j1171⟩ := dzj_M247_64 c d w (s) hI (a2 + 1)
    rw [e1172]
    refine q_E_B ?_
    obtain ⟨r4, e1174, j1173⟩ := dzj_M247_64 c d w (r3.1) j1171.1 (r3.2)
    rw [e1174]
    refine q_E_B ?_
    obtain ⟨r5, e1176, j1175⟩ := dzj_M247_64 c d w (r4.1) j1173.1 ((r3.2 + 1) - (r3.2 + 1) / 256 * 256)
    rw [e1176]
    refine q_E_B ?_
    have j1177 := dzj_M213 c d w (r5.1) j1175.1 (r4.2 + (256 * r5.2))
    refine q_E_L ?_
    generalize dz_M213 r5.1 (r4.2 + (256 * r5.2)) = r6 at j1177 ⊢
    exact q_E_x ⟨j1175.1, q_rg_le j1177 (by decide) (by decide)⟩
set_option maxHeartbeats 4000000 in
theorem dzj_M250_64 (c d w : Int) (s : q_S) (hI : q_Iv c d w s) (a1 : Int32) (a2 : Int32) : q_Ex (dz_M250_64 s a1 a2) (fun (x : q_S × Int32) => q_Iv c d w x.1 ∧ q_rgz 0 4095 x.2) := by
  unfold dz_M250_64
  cases h1209 : decide (a1 = 1) with
  | true =>
    have g1210 := q_rg_eqT h1209 (q_rg_lit (n := 1) (x := 1) rfl)
    refine q_E_T ?_
    obtain ⟨r2, e1212, j1211⟩ := dzj_M247_64 c d w (s) hI (a2 + 1)
    rw [e1212]
    refine q_E_B ?_
    exact q_E_x ⟨j1211.1, q_rg_le j1211.2 (by decide) (by decide)⟩
  | false =>
    refine q_E_F ?_
    cases h1213 : decide (a1 = 2) with
    | true =>
      have g1214 := q_rg_eqT h1213 (q_rg_lit (n := 2) (x := 2) rfl)
      refine q_E_T ?_
      obtain ⟨r3, e1216, j1215⟩ := dzj_M247_64 c d w (s) hI (a2 + 1)
      rw [e1216]
      refine q_E_B ?_
      exact q_E_x ⟨j1215.1, q_rg_le (q_rg_rem (c := 256) (U := 255) (q_rg_add (L := 0) (U := 510) j1215.2 (q_n1 j1215.1) (by decide) (by decide) (by decide) (by decide)) (by decide) rfl (by decide) (by decide)) (by decide) (by decide)⟩
    | false =>
      refine q_E_F ?_
      cases h1217 : decide (a1 = 3) with
      | true =>
        have g1218 := q_rg_eqT h1217 (q_rg_lit (n := 3) (x := 3) rfl)
        refine q_E_T ?_
        obtain ⟨r4, e1220, j1219⟩ := dzj_M248_64 c d w (s) hI (a2 + 1)
        rw [e1220]
        refine q_E_B ?_
        exact q_E_x ⟨j1219.1, q_rg_le j1219.2 (by decide) (by decide)⟩
      | false =>
        refine q_E_F ?_
        cases h1221 : decide (a1 = 4) with
        | true =>
          have g1222 := q_rg_eqT h1221 (q_rg_lit (n := 4) (x := 4) rfl)
          refine q_E_T ?_
          obtain ⟨r5, e1224, j1223⟩ := dzj_M249_64 c d w (s) hI (a1) (a2)
          rw [e1224]
          refine q_E_B ?_
          have j1225 := dzj_M213 c d w (r5.1) j1223.1 (r5.2 + ((r5.1.1 14) 1))
          refine q_E_L ?_
          generalize dz_M213 r5.1 (r5.2 + ((r5.1.1 14) 1)) = r6 at j1225 ⊢
          exact q_E_x ⟨j1223.1, q_rg_le j1225 (by decide) (by decide)⟩
        | false =>
          refine q_E_F ?_
          cases h1226 : decide (a1 < 7) with
          | true =>
            have g1227 := (q_rg_ltT1 (l := -2147483648) (U := 6) h1226 (q_rg_full _) (q_rg_lit (n := 7) (x := 7) rfl) (by decide))
            refine q_E_T ?_
            obtain ⟨r7, e1229, j1228⟩ := dzj_M249_64 c d w (s) hI (a1) (a2)
            rw [e1229]
            refine q_E_B ?_
            have j1230 := dzj_M213 c d w (r7.1) j1228.1 (r7.2 + ((r7.1.1 14) 2))
            refine q_E_L ?_
            generalize dz_M213 r7.1 (r7.2 + ((r7.1.1 14) 2)) = r8 at j1230 ⊢
            exact q_E_x ⟨j1228.1, q_rg_le j1230 (by decide) (by decide)⟩
          | false =>
            have g1231 := (q_rg_ltF1 (l2 := 7) (u := 2147483647) h1226 (q_rg_full _) (q_rg_lit (n := 7) (x := 7) rfl))
            refine q_E_F ?_
            obtain ⟨r9, e1233, j1232⟩ := dzj_M247_64 c d w (s) hI (a2 + 1)
            rw [e1233]
            refine q_E_B ?_
            have j1234 : q_rgz 0 255 ((r9.2 + ((r9.1.1 14) 1)) - (r9.2 + ((r9.1.1 14) 1)) / 256 * 256) := (q_rg_rem (c := 256) (U := 255) (q_rg_add (L := 0) (U := 510) j1232.2 (q_n1 j1232.1) (by decide) (by decide) (by decide) (by decide)) (by decide) rfl (by decide) (by decide))
            refine q_E_L ?_
            generalize ((r9.2 + ((r9.1.1 14) 1)) - (r9.2 + ((r9.1.1 14) 1)) / 256 * 256) = x10 at j1234 ⊢
            obtain ⟨r11, e1236, j1235⟩ := dzj_M247_64 c d w (r9.1) j1232.1 (x10)
            rw [e1236]
            refine q_E_B ?_
            obtain ⟨r12, e1238, j1237⟩ := dzj_M247_64 c d w (r11.1) j1235.1 ((x10 + 1) - (x10 + 1) / 256 * 256)
            rw [e1238]
            refine q_E_B ?_
            have j1239 := dzj_M213 c d w (r12.1) j1237.1 (r11.2 + (256 * r12.2))
            refine q_E_L ?_
            generalize dz_M213 r12.1 (r11.2 + (256 * r12.2)) = r13 at j1239 ⊢
            exact q_E_x ⟨j1237.1, q_rg_le j1239 (by decide) (by decide)⟩
set_option maxHeartbeats 4000000 in
theorem dzj_M251_64_28 (c d w : Int) (s : q_S) (hI : q_Iv c d w s) (v1 : Int32) (v2 : Int32) (v3 : Int32) (rv1 : q_rgz 14 19 v1) : q_Ex (dz_M251_64_28 s v1 v2 v3) (fun (x : q_S × Int32) => q_Iv c d w x.1) := by
  unfold dz_M251_64_28
  cases h1321 : decide (v2 = 1) with
  | true =>
    have g1322 := q_rg_eqT h1321 (q_rg_lit (n := 1) (x := 1) rfl)
    refine q_E_T ?_
    refine q_E_L ?_
    generalize p1323 : dz_M202 s v2 4 6 = r5
    cases r5 with
    | true =>
      have g1324 : q_rgz 4 1 (v2) := ⟨(q_p202 p1323 (q_rg_lit (n := 4) (x := 4) rfl) (q_rg_lit (n := 6) (x := 6) rfl)).1, g1322.2⟩
      exact (q_rg_no g1324 (by decide)).elim
    | false =>
      refine q_E_F ?_
      exact q_E_x hI
  | false =>
    refine q_E_F ?_
    cases h1325 : decide (v2 < 6) with
    | true =>
      have g1326 := (q_rg_ltT1 (l := -2147483648) (U := 5) h1325 (q_rg_full _) (q_rg_lit (n := 6) (x := 6) rfl) (by decide))
      refine q_E_T ?_
      refine q_E_L ?_
      generalize p1327 : dz_M202 s v2 4 6 = r9
      cases r9 with
      | true =>
        have g1328 : q_rgz 4 5 (v2) := ⟨(q_p202 p1327 (q_rg_lit (n := 4) (x := 4) rfl) (q_rg_lit (n := 6) (x := 6) rfl)).1, g1326.2⟩
        refine q_E_T ?_
        obtain ⟨r10, e1330, j1329⟩ := dzj_M249_64 c d w (s) hI (v2) (v3)
        rw [e1330]
        refine q_E_B ?_
        obtain ⟨r11, e1332, j1331⟩ := dzj_M250_64 c d w (r10.1) j1329.1 (v2) (v3)
        rw [e1332]
        refine q_E_B ?_
        cases h1333 : decide (r10.2 / 256 = r11.2 / 256) with
        | true =>
          refine q_E_T ?_
          refine q_E_L ?_
          generalize p1334 : dz_M245 r11.1 v1 = r12
          cases r12 with
          | true =>
            refine q_E_T ?_
            exact q_E_x j1331.1
          | false =>
            refine q_E_F ?_
            exact q_E_x j1331.1
        | false =>
          refine q_E_F ?_
          exact q_E_x j1331.1
      | false =>
        refine q_E_F ?_
        exact q_E_x hI
    | false =>
      have g1335 := (q_rg_ltF1 (l2 := 6) (u := 2147483647) h1325 (q_rg_full _) (q_rg_lit (n := 6) (x := 6) rfl))
      refine q_E_F ?_
      refine q_E_L ?_
      generalize p1336 : dz_M202 s v2 4 6 = r13
      cases r13 with
      | true =>
        have g1337 : q_rgz 6 6 (v2) := ⟨g1335.1, (q_p202 p1336 (q_rg_lit (n := 4) (x := 4) rfl) (q_rg_lit (n := 6) (x := 6) rfl)).2⟩
        refine q_E_T ?_
        obtain ⟨r14, e1339, j1338⟩ := dzj_M249_64 c d w (s) hI (v2) (v3)
        rw [e1339]
        refine q_E_B ?_
        obtain ⟨r15, e1341, j1340⟩ := dzj_M250_64 c d w (r14.1) j1338.1 (v2) (v3)
        rw [e1341]
        refine q_E_B ?_
        cases h1342 : decide (r14.2 / 256 = r15.2 / 256) with
        | true =>
          refine q_E_T ?_
          refine q_E_L ?_
          generalize p1343 : dz_M245 r15.1 v1 = r16
          cases r16 with
          | true =>
            refine q_E_T ?_
            exact q_E_x j1340.1
          | false =>
            refine q_E_F ?_
            exact q_E_x j1340.1
        | false =>
          refine q_E_F ?_
          exact q_E_x j1340.1
      | false =>
        refine q_E_F ?_
        exact q_E_x hI
set_option maxHeartbeats 4000000 in
theorem dzj_M251_64 (c d w : Int) (s : q_S) (hI : q_Iv c d w s) (a1 : Int32) (a2 : Int32) (a3 : Int32) : q_Ex (dz_M251_64 s a1 a2 a3) (fun (x : q_S × Int32) => q_Iv c d w x.1) := by
  unfold dz_M251_64
  cases h1344 : decide (a2 = 0) with
  | true =>
    have g1345 := q_rg_eqT h1344 (q_rg_lit (n := 0) (x := 0) rfl)
    refine q_E_T ?_
    exact q_E_x hI
  | false =>
    refine q_E_F ?_
    refine q_E_L ?_
    generalize p1346 : dz_M202 s a1 14 15 = r4
    cases r4 with
    | true =>
      have g1347 : q_rgz 14 15 (a1) := ⟨(q_p202 p1346 (q_rg_lit (n := 14) (x := 14) rfl) (q_rg_lit (n := 15) (x := 15) rfl)).1, (q_p202 p1346 (q_rg_lit (n := 14) (x := 14) rfl) (q_rg_lit (n := 15) (x := 15) rfl)).2⟩
      refine q_E_T ?_
      exact dzj_M251_64_28 c d w (s) hI (a1) (a2) (a3) (q_rg_le (L := 14) (U := 19) g1347 (by decide) (by decide))
    | false =>
      refine q_E_F ?_
      refine q_E_L ?_
      generalize p1348 : dz_M202 s a1 18 19 = r17
      cases r17 with
      | true =>
        have g1349 : q_rgz 18 19 (a1) := ⟨(q_p202 p1348 (q_rg_lit (n := 18) (x := 18) rfl) (q_rg_lit (n := 19) (x := 19) rfl)).1, (q_p202 p1348 (q_rg_lit (n := 18) (x := 18) rfl) (q_rg_lit (n := 19) (x := 19) rfl)).2⟩
        refine q_E_T ?_
        exact dzj_M251_64_28 c d w (s) hI (a1) (a2) (a3) (q_rg_le (L := 14) (U := 19) g1349 (by decide) (by decide))
      | false =>
        refine q_E_F ?_
        cases h1350 : decide (a2 = 1) with
        | true =>
          have g1351 := q_rg_eqT h1350 (q_rg_lit (n := 1) (x := 1) rfl)
          refine q_E_T ?_
          refine q_E_L ?_
          generalize p1352 : dz_M202 s a2 4 6 = r18
          cases r18 with
          | true =>
            have g1353 : q_rgz 4 1 (a2) := ⟨(q_p202 p1352 (q_rg_lit (n := 4) (x := 4) rfl) (q_rg_lit (n := 6) (x := 6) rfl)).1, g1351.2⟩
            exact (q_rg_no g1353 (by decide)).elim
          | false =>
            refine q_E_F ?_
            exact q_E_x hI
        | false =>
          refine q_E_F ?_
          cases h1354 : decide (a2 < 6) with
          | true =>
            have g1355 := (q_rg_ltT1 (l := -2147483648) (U := 5) h1354 (q_rg_full _) (q_rg_lit (n := 6) (x := 6) rfl) (by decide))
            refine q_E_T ?_
            refine q_E_L ?_
            generalize p1356 : dz_M202 s a2 4 6 = r22
            cases r22 with
            | true =>
              have g1357 : q_rgz 4 5 (a2) := ⟨(q_p202 p1356 (q_rg_lit (n := 4) (x := 4) rfl) (q_rg_lit (n := 6) (x := 6) rfl)).1, g1355.2⟩
              refine q_E_T ?_
              obtain ⟨r23, e1359, j1358⟩ := dzj_M249_64 c d w (s) hI (a2) (a3)
              rw [e1359]
              refine q_E_B ?_
              obtain ⟨r24, e1361, j1360⟩ := dzj_M250_64 c d w (r23.1) j1358.1 (a2) (a3)
              rw [e1361]
              refine q_E_B ?_
              cases h1362 : decide (r23.2 / 256 = r24.2 / 256) with
              | true =>
                refine q_E_T ?_
                refine q_E_L ?_
                generalize p1363 : dz_M245 r24.1 a1 = r25
                cases r25 with
                | true =>
                  refine q_E_T ?_
                  exact q_E_x j1360.1
                | false =>
                  refine q_E_F ?_
                  exact q_E_x j1360.1
              | false =>
                refine q_E_F ?_
                exact q_E_x j1360.1
            | false =>
              refine q_E_F ?_
              exact q_E_x hI
          | false =>
            have g1364 := (q_rg_ltF1 (l2 := 6) (u := 2147483647) h1354 (q_rg_full _) (q_rg_lit (n := 6) (x := 6) rfl))
            refine q_E_F ?_
            refine q_E_L ?_
            generalize p1365 : dz_M202 s a2 4 6 = r26
            cases r26 with
            | true =>
              have g1366 : q_rgz 6 6 (a2) := ⟨g1364.1, (q_p202 p1365 (q_rg_lit (n := 4) (x := 4) rfl) (q_rg_lit (n := 6) (x := 6) rfl)).2⟩
              refine q_E_T ?_
              obtain ⟨r27, e1368, j1367⟩ := dzj_M249_64 c d w (s) hI (a2) (a3)
              rw [e1368]
              refine q_E_B ?_
              obtain ⟨r28, e1370, j1369⟩ := dzj_M250_64 c d w (r27.1) j1367.1 (a2) (a3)
              rw [e1370]
              refine q_E_B ?_
              cases h1371 : decide (r27.2 / 256 = r28.2 / 256) with
              | true =>
                refine q_E_T ?_
                refine q_E_L ?_
                generalize p1372 : dz_M245 r28.1 a1 = r29
                cases r29 with
                | true =>
                  refine q_E_T ?_
                  exact q_E_x j1369.1
                | false =>
                  refine q_E_F ?_
                  exact q_E_x j1369.1
              | false =>
                refine q_E_F ?_
                exact q_E_x j1369.1
            | false =>
              refine q_E_F ?_
              exact q_E_x hI
set_option maxHeartbeats 4000000 in
theorem dzj_M254_64 (c d w : Int) (s : q_S) (hI : q_Iv c d w s) (a1 : Int32) : q_Ex (dz_M254_64 s a1) (fun (x : q_S × Int32) => q_Iv c d w x.1) := by
  unfold dz_M254_64
  obtain ⟨r2, e1409, j1408⟩ := dzj_M247_64 c d w (s) hI (a1)
  rw [e1409]
  refine q_E_B ?_
  have j1410 := dzj_M244 c d w (r2.1) j1408.1 (r2.2)
  refine q_E_L ?_
  generalize dz_M244 r2.1 r2.2 = r3 at j1410 ⊢
  cases h1411 : decide (r3 < 0) with
  | true =>
    have g1412 := (q_rg_ltT1 (l := -2147483648) (U := -1) h1411 (q_rg_full _) (q_rg_lit (n := 0) (x := 0) rfl) (by decide))
    refine q_E_T ?_
    refine q_E_L ?_
    generalize p1413 : dz_M202 r2.1 r2.2 160 167 = r4
    cases r4 with
    | true =>
      have g1414 : q_rgz 160 167 (r2.2) := ⟨(q_p202 p1413 (q_rg_lit (n := 160) (x := 160) rfl) (q_rg_lit (n := 167) (x := 167) rfl)).1, (q_p202 p1413 (q_rg_lit (n := 160) (x := 160) rfl) (q_rg_lit (n := 167) (x := 167) rfl)).2⟩
      refine q_E_T ?_
      refine q_E_L ?_
      generalize p1415 : dz_M252_64 r2.1 r2.2 = r5
      cases r5 with
      | true =>
        refine q_E_T ?_
        have j1416 := dzj_M213 c d w (r2.1) j1408.1 (a1 + 2)
        refine q_E_L ?_
        generalize dz_M213 r2.1 (a1 + 2) = r6 at j1416 ⊢
        obtain ⟨r7, e1418, j1417⟩ := dzj_M253_64 c d w (r2.1) j1408.1 (a1)
        rw [e1418]
        refine q_E_B ?_
        cases h1419 : decide (r6 / 256 = r7.2 / 256) with
        | true =>
          refine q_E_T ?_
          exact q_E_x j1417.1
        | false =>
          refine q_E_F ?_
          exact q_E_x j1417.1
      | false =>
        refine q_E_F ?_
        exact q_E_x j1408.1
    | false =>
      refine q_E_F ?_
      cases h1420 : decide (r2.2 = 138) with
      | true =>
        have g1421 := q_rg_eqT h1420 (q_rg_lit (n := 138) (x := 138) rfl)
        refine q_E_T ?_
        exact q_E_x j1408.1
      | false =>
        refine q_E_F ?_
        cases h1422 : decide (r2.2 = 140) with
        | true =>
          have g1423 := q_rg_eqT h1422 (q_rg_lit (n := 140) (x := 140) rfl)
          refine q_E_T ?_
          exact q_E_x j1408.1
        | false =>
          refine q_E_F ?_
          cases h1424 : decide (r2.2 = 157) with
          | true =>
            have g1425 := q_rg_eqT h1424 (q_rg_lit (n := 157) (x := 157) rfl)
            refine q_E_T ?_
            exact q_E_x j1408.1
          | false =>
            refine q_E_F ?_
            cases h1426 : decide (r2.2 = 139) with
            | true =>
              have g1427 := q_rg_eqT h1426 (q_rg_lit (n := 139) (x := 139) rfl)
              refine q_E_T ?_
              exact q_E_x j1408.1
            | false =>
              refine q_E_F ?_
              cases h1428 : decide (r2.2 = 141) with
              | true =>
                have g1429 := q_rg_eqT h1428 (q_rg_lit (n := 141) (x := 141) rfl)
                refine q_E_T ?_
                exact q_E_x j1408.1
              | false =>
                refine q_E_F ?_
                cases h1430 : decide (r2.2 = 159) with
                | true =>
                  have g1431 := q_rg_eqT h1430 (q_rg_lit (n := 159) (x := 159) rfl)
                  refine q_E_T ?_
                  exact q_E_x j1408.1
                | false =>
                  refine q_E_F ?_
                  cases h1432 : decide (r2.2 = 155) with
                  | true =>
                    have g1433 := q_rg_eqT h1432 (q_rg_lit (n := 155) (x := 155) rfl)
                    refine q_E_T ?_
                    exact q_E_x j1408.1
                  | false =>
                    refine q_E_F ?_
                    cases h1434 : decide (r2.2 = 156) with
                    | true =>
                      have g1435 := q_rg_eqT h1434 (q_rg_lit (n := 156) (x := 156) rfl)
                      refine q_E_T ?_
                      exact q_E_x j1408.1
                    | false =>
                      refine q_E_F ?_
                      cases h1436 : decide (r2.2 = 158) with
                      | true =>
                        have g1437 := q_rg_eqT h1436 (q_rg_lit (n := 158) (x := 158) rfl)
                        refine q_E_T ?_
                        exact q_E_x j1408.1
                      | false =>
                        refine q_E_F ?_
                        cases h1438 : decide (r2.2 = 154) with
                        | true =>
                          have g1439 := q_rg_eqT h1438 (q_rg_lit (n := 154) (x := 154) rfl)
                          refine q_E_T ?_
                          exact q_E_x j1408.1
                        | false =>
                          refine q_E_F ?_
                          exact q_E_x j1408.1
  | false =>
    have g1440 := (q_rg_ltF1 (l2 := 0) (u := 2147483647) h1411 (q_rg_full _) (q_rg_lit (n := 0) (x := 0) rfl))
    refine q_E_F ?_
    obtain ⟨r8, e1442, j1441⟩ := dzj_M251_64 c d w (r2.1) j1408.1 (r3) (r2.2 - r2.2 / 8 * 8) (a1)
    rw [e1442]
    refine q_E_B ?_
    exact q_E_x j1441
set_option maxHeartbeats 4000000 in
theorem dzj_M277_64_75 (c d w : Int) (s : q_S) (hI : q_Iv c d w s) : q_Ex (dz_M277_64_75 s) (q_Iv c d w) := by
  unfold dz_M277_64_75
  cases h1452 : decide (0 < (s.1 14) 18) with
  | true =>
    have g1453 := (q_rg_ltT2 (L := 1) (u2 := 4095) h1452 (q_rg_lit (n := 0) (x := 0) rfl) (q_n18 hI) (by decide))
    refine q_E_T ?_
    exact q_E_x (q_Iv_A (i := 14) hI (q_hf_up ((hI).1 14) (q_sn17 (q_rg_full _))))
  | false =>
    have g1454 := (q_rg_ltF2 (l2 := 0) (u := 0) h1452 (q_rg_lit (n := 0) (x := 0) rfl) (q_n18 hI))
    refine q_E_F ?_
    obtain ⟨r2, e1456, j1455⟩ := dzj_M254_64 c d w (s) hI ((s.1 14) 4)
    rw [e1456]
    refine q_E_B ?_
    exact q_E_x (q_Iv_A (i := 14) j1455 (q_hf_up ((j1455).1 14) (q_sn17 (q_rg_full _))))
set_option maxHeartbeats 4000000 in
theorem dzj_M277_64 (c d w : Int) (s : q_S) (hI : q_Iv c d w s) : q_Ex (dz_M277_64 s) (q_Iv c d w) := by
  unfold dz_M277_64
  cases h1457 : decide ((s.1 15) 6 = 0) with
  | true =>
    have g1458 := q_rg_eqT h1457 (q_rg_lit (n := 0) (x := 0) rfl)
    refine q_E_T ?_
    cases h1459 : decide (((s.1 14) 9) &&& ((s.1 4) 11) = 0) with
    | true =>
      have g1460 := q_rg_eqT h1459 (q_rg_lit (n := 0) (x := 0) rfl)
      refine q_E_T ?_
      exact dzj_M277_64_75 c d w (q_sA s 14 (upd (s.1 14) 18 0)) (q_Iv_A (i := 14) hI (q_hf_up ((hI).1 14) (q_sn18 (q_rg_le (L := 0) (U := 4095) (q_rg_lit (n := 0) (x := 0) rfl) (by decide) (by decide)))))
    | false =>
      have g1461 := (q_rg_neL (l := 0) (u := 15) (n := 0) (L := 1) h1459 (q_rg_and1 (q_n9 hI) (by decide)) rfl (by decide) (by decide))
      refine q_E_F ?_
      cases h1462 : decide ((s.1 15) 3 = 0) with
      | true =>
        have g1463 := q_rg_eqT h1462 (q_rg_lit (n := 0) (x := 0) rfl)
        refine q_E_T ?_
        exact dzj_M277_64_75 c d w (q_sA s 14 (upd (s.1 14) 18 3838)) (q_Iv_A (i := 14) hI (q_hf_up ((hI).1 14) (q_sn18 (q_rg_le (L := 0) (U := 4095) (q_rg_lit (n := 3838) (x := 3838) rfl) (by decide) (by decide)))))
      | false =>
        have g1464 := (q_rg_neL (l := 0) (u := 1) (n := 0) (L := 1) h1462 (q_r15 hI 3) rfl (by decide) (by decide))
        refine q_E_F ?_
        exact dzj_M277_64_75 c d w (q_sA s 14 (upd (s.1 14) 18 0)) (q_Iv_A (i := 14) hI (q_hf_up ((hI).1 14) (q_sn18 (q_rg_le (L := 0) (U := 4095) (q_rg_lit (n := 0) (x := 0) rfl) (by decide) (by decide)))))
  | false =>
    have g1465 := (q_rg_neL (l := 0) (u := 1) (n := 0) (L := 1) h1457 (q_r15 hI 6) rfl (by decide) (by decide))
    refine q_E_F ?_
    exact dzj_M277_64_75 c d w (q_sA (q_sA s 14 (upd (s.1 14) 18 3834)) 15 (upd (s.1 15) 6 (vp_nar .boolean 0))) (q_Iv_A (i := 15) (q_Iv_A (i := 14) hI (q_hf_up ((hI).1 14) (q_sn18 (q_rg_le (L := 0) (U := 4095) (q_rg_lit (n := 3834) (x := 3834) rfl) (by decide) (by decide))))) (q_hf_up ((hI).1 15) (q_s15 (q_rg_le (L := 0) (U := 1) (q_rg_nb _) (by decide) (by decide)))))
set_option maxHeartbeats 4000000 in
theorem dzj_M255_64 (c d w : Int) (s : q_S) (hI : q_Iv c d w s) (a1 : Int32) (ra1 : q_rgz 0 255 a1) : q_Ex (dz_M255_64 s a1) (q_Iv c d w) := by
  unfold dz_M255_64
  refine q_E_A (q_in_rg (q_rg_add (L := 256) (U := 511) (q_rg_lit (n := 256) (x := 256) rfl) (q_n3 hI) (by decide) (by decide) (by decide) (by decide)) (by decide) (by decide)) ?_
  exact q_E_x (q_Iv_A (i := 14) (q_Iv_A (i := 1) hI (q_hf_up ((hI).1 1) (q_s1z (q_rg_le (L := 0) (U := 255) ra1 (by decide) (by decide))))) (q_hf_up ((hI).1 14) (q_sn3 (q_rg_le (L := 0) (U := 255) (q_rg_rem (c := 256) (U := 255) (q_rg_add (L := 255) (U := 510) (q_n3 hI) (q_rg_lit (n := 255) (x := 255) rfl) (by decide) (by decide) (by decide) (by decide)) (by decide) rfl (by decide) (by decide)) (by decide) (by decide)))))
theorem dzj_M257_64 (c d w V : Int) (s : q_S) (hI : q_Iv c d w s) (a1 a2 : Int32) (ra1 : q_rgz 0 7 a1) (ra2 : q_rgz 0 V a2) : q_Ex (dz_M257_64 s a1 a2) (fun x => q_rgz 0 V x) := by
  unfold dz_M257_64
  refine q_E_A (q_in_rg ra1 (by decide) (by decide)) ?_
  cases h : decide ((s.1 15) (a1.toNatClampNeg) = 0) with
  | true =>
    refine q_E_T (q_E_x ?_)
    have z : (0 : Int32).toInt = 0 := rfl
    have g1 := ra2.1
    have g2 := ra2.2
    exact ⟨by omega, by omega⟩
  | false => exact q_E_F (q_E_x ra2)

set_option maxHeartbeats 4000000 in
theorem dzj_M258_64 (c d w : Int) (s : q_S) (hI : q_Iv c d w s) (a1 : Int32) (ra1 : q_rgz 0 16 a1) : q_Ex (dz_M258_64 s a1) (fun x => q_rgz 0 255 x) := by
  unfold dz_M258_64
  obtain ⟨r2, e1479, j1478⟩ := dzj_M257_64 c d w 1 (s) hI (5) (1)  (q_rg_le (L := 0) (U := 7) (q_rg_lit (n := 5) (x := 5) rfl) (by decide) (by decide)) (q_rg_le (L := 0) (U := 1) (q_rg_lit (n := 1) (x := 1) rfl) (by decide) (by decide))
  rw [e1479]
  refine q_E_B ?_
  obtain ⟨r3, e1481, j1480⟩ := dzj_M257_64 c d w 2 (s) hI (4) (2)  (q_rg_le (L := 0) (U := 7) (q_rg_lit (n := 4) (x := 4) rfl) (by decide) (by decide)) (q_rg_le (L := 0) (U := 2) (q_rg_lit (n := 2) (x := 2) rfl) (by decide) (by decide))
  rw [e1481]
  refine q_E_B ?_
  obtain ⟨r4, e1483, j1482⟩ := dzj_M257_64 c d w 4 (s) hI (3) (4)  (q_rg_le (L := 0) (U := 7) (q_rg_lit (n := 3) (x := 3) rfl) (by decide) (by decide)) (q_rg_le (L := 0) (U := 4) (q_rg_lit (n := 4) (x := 4) rfl) (by decide) (by decide))
  rw [e1483]
  refine q_E_B ?_
  obtain ⟨r5, e1485, j1484⟩ := dzj_M257_64 c d w 8 (s) hI (2) (8)  (q_rg_le (L := 0) (U := 7) (q_rg_lit (n := 2) (x := 2) rfl) (by decide) (by decide)) (q_rg_le (L := 0) (U := 8) (q_rg_lit (n := 8) (x := 8) rfl) (by decide) (by decide))
  rw [e1485]
  refine q_E_B ?_
  obtain ⟨r6, e1487, j1486⟩ := dzj_M257_64 c d w 64 (s) hI (1) (64)  (q_rg_le (L := 0) (U := 7) (q_rg_lit (n := 1) (x := 1) rfl) (by decide) (by decide)) (q_rg_le (L := 0) (U := 64) (q_rg_lit (n := 64) (x := 64) rfl) (by decide) (by decide))
  rw [e1487]
  refine q_E_B ?_
  obtain ⟨r7, e1489, j1488⟩ := dzj_M257_64 c d w 128 (s) hI (0) (128)  (q_rg_le (L := 0) (U := 7) (q_rg_lit (n := 0) (x := 0) rfl) (by decide) (by decide)) (q_rg_le (L := 0) (U := 128) (q_rg_lit (n := 128) (x := 128) rfl) (by decide) (by decide))
  rw [e1489]
  refine q_E_B ?_
  exact q_E_x (q_rg_le (q_rg_add (L := 32) (U := 255) (q_rg_add (L := 32) (U := 127) (q_rg_add (L := 32) (U := 63) (q_rg_add (L := 0) (U := 31) (q_rg_add (L := 0) (U := 15) (q_rg_add (L := 0) (U := 7) (q_rg_add (L := 0) (U := 3) j1478 j1480 (by decide) (by decide) (by decide) (by decide)) j1482 (by decide) (by decide) (by decide) (by decide)) j1484 (by decide) (by decide) (by decide) (by decide)) ra1 (by decide) (by decide) (by decide) (by decide)) (q_rg_lit (n := 32) (x := 32) rfl) (by decide) (by decide) (by decide) (by decide)) j1486 (by decide) (by decide) (by decide) (by decide)) j1488 (by decide) (by decide) (by decide) (by decide)) (by decide) (by decide))
set_option maxHeartbeats 4000000 in
theorem dzj_M260_64 (c d w : Int) (s : q_S) (hI : q_Iv c d w s) (a1 : Int32) (a2 : Int32) (a3 : Int32) (ra2 : q_rgz 0 4095 a2) (ra3 : q_rgz 0 16 a3) : q_Ex (dz_M260_64 s a1 a2 a3) (q_Iv c d w) := by
  unfold dz_M260_64
  obtain ⟨r2, e1501, j1500⟩ := dzj_M255_64 c d w (s) hI (a2 / 256) (q_rg_le (L := 0) (U := 255) (q_rg_div (c := 256) (U := 15) ra2 (by decide) rfl (by decide) (by decide)) (by decide) (by decide))
  rw [e1501]
  refine q_E_B ?_
  obtain ⟨r3, e1503, j1502⟩ := dzj_M255_64 c d w (r2) j1500 (a2 - a2 / 256 * 256) (q_rg_le (L := 0) (U := 255) (q_rg_rem (c := 256) (U := 255) ra2 (by decide) rfl (by decide) (by decide)) (by decide) (by decide))
  rw [e1503]
  refine q_E_B ?_
  obtain ⟨r4, e1505, j1504⟩ := dzj_M258_64 c d w (r3) j1502 (a3) (q_rg_le (L := 0) (U := 16) ra3 (by decide) (by decide))
  rw [e1505]
  refine q_E_B ?_
  obtain ⟨r5, e1507, j1506⟩ := dzj_M255_64 c d w (r3) j1502 (r4) (q_rg_le (L := 0) (U := 255) j1504 (by decide) (by decide))
  rw [e1507]
  refine q_E_B ?_
  obtain ⟨r6, e1509, j1508⟩ := dzj_M248_64 c d w (q_sA r5 15 (upd (r5.1 15) 3 (vp_nar .boolean 1))) (q_Iv_A (i := 15) j1506 (q_hf_up ((j1506).1 15) (q_s15 (q_rg_le (L := 0) (U := 1) (q_rg_nb _) (by decide) (by decide))))) (a1)
  rw [e1509]
  refine q_E_B ?_
  exact q_E_x (q_Iv_A (i := 14) j1508.1 (q_hf_up ((j1508.1).1 14) (q_sn4 (q_rg_le (L := 0) (U := 4095) j1508.2 (by decide) (by decide)))))
set_option maxHeartbeats 4000000 in
theorem dzj_M256_64 (c d w : Int) (s : q_S) (hI : q_Iv c d w s) : q_Ex (dz_M256_64 s) (fun (x : q_S × Int32) => q_Iv c d w x.1 ∧ q_rgz 0 255 x.2) := by
  unfold dz_M256_64
  refine q_E_A (q_in_rg (q_rg_add (L := 256) (U := 511) (q_rg_lit (n := 256) (x := 256) rfl) (q_up_eq rfl (q_rg_rem (c := 256) (U := 255) (q_rg_add (L := 1) (U := 256) (q_n3 hI) (q_rg_lit (n := 1) (x := 1) rfl) (by decide) (by decide) (by decide) (by decide)) (by decide) rfl (by decide) (by decide))) (by decide) (by decide) (by decide) (by decide)) (by decide) (by decide)) ?_
  exact q_E_x ⟨(q_Iv_A (i := 14) hI (q_hf_up ((hI).1 14) (q_sn3 (q_rg_le (L := 0) (U := 255) (q_rg_rem (c := 256) (U := 255) (q_rg_add (L := 1) (U := 256) (q_n3 hI) (q_rg_lit (n := 1) (x := 1) rfl) (by decide) (by decide) (by decide) (by decide)) (by decide) rfl (by decide) (by decide)) (by decide) (by decide))))), q_rg_le (q_r1 hI _) (by decide) (by decide)⟩
end
section
-- 51.cb
set_option maxHeartbeats 4000000 in
theorem dzj_M259_64 (c d w : Int) (s : q_S) (hI : q_Iv c d w s) (a1 : Int32) : (q_Iv c d w) (dz_M259_64 s a1) := by
  refine q_S_of (P := (q_Iv c d w)) ?_
  unfold dz_M259_64
  refine q_S_L ?_
  generalize p1697 : dz_M206 s a1 0 = r1
  cases r1 with
  | true =>
    refine q_S_T ?_
    refine q_S_L ?_
    generalize p1698 : dz_M206 (q_sA s 15 (upd (s.1 15) 5 (vp_nar .boolean 1))) a1 1 = r2
    cases r2 with
    | true =>
      refine q_S_T ?_
      have j1699 : q_Iv c d w (q_sA s 15 (upd (s.1 15) 5 (vp_nar .boolean 1))) := (q_Iv_A (i := 15) hI (q_hf_up ((hI).1 15) (q_s15 (q_rg_le (L := 0) (U := 1) (q_rg_nb _) (by decide) (by decide)))))
      refine q_S_L ?_
      generalize (q_sA s 15 (upd (s.1 15) 5 (vp_nar .boolean 1))) = r3 at j1699 ⊢
      refine q_S_L ?_
      generalize p1700 : dz_M206 (q_sA r3 15 (upd (r3.1 15) 4 (vp_nar .boolean 1))) a1 2 = r4
      cases r4 with
      | true =>
        refine q_S_T ?_
        have j1701 : q_Iv c d w (q_sA r3 15 (upd (r3.1 15) 4 (vp_nar .boolean 1))) := (q_Iv_A (i := 15) j1699 (q_hf_up ((j1699).1 15) (q_s15 (q_rg_le (L := 0) (U := 1) (q_rg_nb _) (by decide) (by decide)))))
        refine q_S_L ?_
        generalize (q_sA r3 15 (upd (r3.1 15) 4 (vp_nar .boolean 1))) = r5 at j1701 ⊢
        refine q_S_L ?_
        generalize p1702 : dz_M206 (q_sA r5 15 (upd (r5.1 15) 3 (vp_nar .boolean 1))) a1 3 = r6
        cases r6 with
        | true =>
          refine q_S_T ?_
          have j1703 : q_Iv c d w (q_sA r5 15 (upd (r5.1 15) 3 (vp_nar .boolean 1))) := (q_Iv_A (i := 15) j1701 (q_hf_up ((j1701).1 15) (q_s15 (q_rg_le (L := 0) (U := 1) (q_rg_nb _) (by decide) (by decide)))))
          refine q_S_L ?_
          generalize (q_sA r5 15 (upd (r5.1 15) 3 (vp_nar .boolean 1))) = r7 at j1703 ⊢
          refine q_S_L ?_
          generalize p1704 : dz_M206 (q_sA r7 15 (upd (r7.1 15) 2 (vp_nar .boolean 1))) a1 6 = r8
          cases r8 with
          | true =>
            refine q_S_T ?_
            have j1705 : q_Iv c d w (q_sA r7 15 (upd (r7.1 15) 2 (vp_nar .boolean 1))) := (q_Iv_A (i := 15) j1703 (q_hf_up ((j1703).1 15) (q_s15 (q_rg_le (L := 0) (U := 1) (q_rg_nb _) (by decide) (by decide)))))
            refine q_S_L ?_
            generalize (q_sA r7 15 (upd (r7.1 15) 2 (vp_nar .boolean 1))) = r9 at j1705 ⊢
            refine q_S_L ?_
            generalize p1706 : dz_M206 (q_sA r9 15 (upd (r9.1 15) 1 (vp_nar .boolean 1))) a1 7 = r10
            cases r10 with
            | true =>
              refine q_S_T ?_
              have j1707 : q_Iv c d w (q_sA r9 15 (upd (r9.1 15) 1 (vp_nar .boolean 1))) := (q_Iv_A (i := 15) j1705 (q_hf_up ((j1705).1 15) (q_s15 (q_rg_le (L := 0) (U := 1) (q_rg_nb _) (by decide) (by decide)))))
              refine q_S_L ?_
              generalize (q_sA r9 15 (upd (r9.1 15) 1 (vp_nar .boolean 1))) = r11 at j1707 ⊢
              exact q_E_x (q_Iv_A (i := 15) j1707 (q_hf_up ((j1707).1 15) (q_s15 (q_rg_le (L := 0) (U := 1) (q_rg_nb _) (by decide) (by decide)))))
            | false =>
              refine q_S_F ?_
              have j1708 : q_Iv c d w (q_sA r9 15 (upd (r9.1 15) 1 (vp_nar .boolean 1))) := (q_Iv_A (i := 15) j1705 (q_hf_up ((j1705).1 15) (q_s15 (q_rg_le (L := 0) (U := 1) (q_rg_nb _) (by decide) (by decide)))))
              refine q_S_L ?_
              generalize (q_sA r9 15 (upd (r9.1 15) 1 (vp_nar .boolean 1))) = r12 at j1708 ⊢
              exact q_E_x (q_Iv_A (i := 15) j1708 (q_hf_up ((j1708).1 15) (q_s15 (q_rg_le (L := 0) (U := 1) (q_rg_nb _) (by decide) (by decide)))))
          | false =>
            refine q_S_F ?_
            have j1709 : q_Iv c d w (q_sA r7 15 (upd (r7.1 15) 2 (vp_nar .boolean 1))) := (q_Iv_A (i := 15) j1703 (q_hf_up ((j1703).1 15) (q_s15 (q_rg_le (L := 0) (U := 1) (q_rg_nb _) (by decide) (by decide)))))
            refine q_S_L ?_
            generalize (q_sA r7 15 (upd (r7.1 15) 2 (vp_nar .boolean 1))) = r13 at j1709 ⊢
            refine q_S_L ?_
            generalize p1710 : dz_M206 (q_sA r13 15 (upd (r13.1 15) 1 (vp_nar .boolean 0))) a1 7 = r14
            cases r14 with
            | true =>
              refine q_S_T ?_
              have j1711 : q_Iv c d w (q_sA r13 15 (upd (r13.1 15) 1 (vp_nar .boolean 0))) := (q_Iv_A (i := 15) j1709 (q_hf_up ((j1709).1 15) (q_s15 (q_rg_le (L := 0) (U := 1) (q_rg_nb _) (by decide) (by decide)))))
              refine q_S_L ?_
              generalize (q_sA r13 15 (upd (r13.1 15) 1 (vp_nar .boolean 0))) = r15 at j1711 ⊢
              exact q_E_x (q_Iv_A (i := 15) j1711 (q_hf_up ((j1711).1 15) (q_s15 (q_rg_le (L := 0) (U := 1) (q_rg_nb _) (by decide) (by decide)))))
            | false =>
              refine q_S_F ?_
              have j1712 : q_Iv c d w (q_sA r13 15 (upd (r13.1 15) 1 (vp_nar .boolean 0))) := (q_Iv_A (i := 15) j1709 (q_hf_up ((j1709).1 15) (q_s15 (q_rg_le (L := 0) (U := 1) (q_rg_nb _) (by decide) (by decide)))))
              refine q_S_L ?_
              generalize (q_sA r13 15 (upd (r13.1 15) 1 (vp_nar .boolean 0))) = r16 at j1712 ⊢
              exact q_E_x (q_Iv_A (i := 15) j1712 (q_hf_up ((j1712).1 15) (q_s15 (q_rg_le (L := 0) (U := 1) (q_rg_nb _) (by decide) (by decide)))))
        | false =>
          refine q_S_F ?_
          have j1713 : q_Iv c d w (q_sA r5 15 (upd (r5.1 15) 3 (vp_nar .boolean 1))) := (q_Iv_A (i := 15) j1701 (q_hf_up ((j1701).1 15) (q_s15 (q_rg_le (L := 0) (U := 1) (q_rg_nb _) (by decide) (by decide)))))
          refine q_S_L ?_
          generalize (q_sA r5 15 (upd (r5.1 15) 3 (vp_nar .boolean 1))) = r17 at j1713 ⊢
          refine q_S_L ?_
          generalize p1714 : dz_M206 (q_sA r17 15 (upd (r17.1 15) 2 (vp_nar .boolean 0))) a1 6 = r18
          cases r18 with
          | true =>
            refine q_S_T ?_
            have j1715 : q_Iv c d w (q_sA r17 15 (upd (r17.1 15) 2 (vp_nar .boolean 0))) := (q_Iv_A (i := 15) j1713 (q_hf_up ((j1713).1 15) (q_s15 (q_rg_le (L := 0) (U := 1) (q_rg_nb _) (by decide) (by decide)))))
            refine q_S_L ?_
            generalize (q_sA r17 15 (upd (r17.1 15) 2 (vp_nar .boolean 0))) = r19 at j1715 ⊢
            refine q_S_L ?_
            generalize p1716 : dz_M206 (q_sA r19 15 (upd (r19.1 15) 1 (vp_nar .boolean 1))) a1 7 = r20
            cases r20 with
            | true =>
              refine q_S_T ?_
              have j1717 : q_Iv c d w (q_sA r19 15 (upd (r19.1 15) 1 (vp_nar .boolean 1))) := (q_Iv_A (i := 15) j1715 (q_hf_up ((j1715).1 15) (q_s15 (q_rg_le (L := 0) (U := 1) (q_rg_nb _) (by decide) (by decide)))))
              refine q_S_L ?_
              generalize (q_sA r19 15 (upd (r19.1 15) 1 (vp_nar .boolean 1))) = r21 at j1717 ⊢
              exact q_E_x (q_Iv_A (i := 15) j1717 (q_hf_up ((j1717).1 15) (q_s15 (q_rg_le (L := 0) (U := 1) (q_rg_nb _) (by decide) (by decide)))))
            | false =>
              refine q_S_F ?_
              have j1718 : q_Iv c d w (q_sA r19 15 (upd (r19.1 15) 1 (vp_nar .boolean 1))) := (q_Iv_A (i := 15) j1715 (q_hf_up ((j1715).1 15) (q_s15 (q_rg_le (L := 0) (U := 1) (q_rg_nb _) (by decide) (by decide)))))
              refine q_S_L ?_
              generalize (q_sA r19 15 (upd (r19.1 15) 1 (vp_nar .boolean 1))) = r22 at j1718 ⊢
              exact q_E_x (q_Iv_A (i := 15) j1718 (q_hf_up ((j1718).1 15) (q_s15 (q_rg_le (L := 0) (U := 1) (q_rg_nb _) (by decide) (by decide)))))
          | false =>
            refine q_S_F ?_
            have j1719 : q_Iv c d w (q_sA r17 15 (upd (r17.1 15) 2 (vp_nar .boolean 0))) := (q_Iv_A (i := 15) j1713 (q_hf_up ((j1713).1 15) (q_s15 (q_rg_le (L := 0) (U := 1) (q_rg_nb _) (by decide) (by decide)))))
            refine q_S_L ?_
            generalize (q_sA r17 15 (upd (r17.1 15) 2 (vp_nar .boolean 0))) = r23 at j1719 ⊢
            refine q_S_L ?_
            generalize p1720 : dz_M206 (q_sA r23 15 (upd (r23.1 15) 1 (vp_nar .boolean 0))) a1 7 = r24
            cases r24 with
            | true =>
              refine q_S_T ?_
              have j1721 : q_Iv c d w (q_sA r23 15 (upd (r23.1 15) 1 (vp_nar .boolean 0))) := (q_Iv_A (i := 15) j1719 (q_hf_up ((j1719).1 15) (q_s15 (q_rg_le (L := 0) (U := 1) (q_rg_nb _) (by decide) (by decide)))))
              refine q_S_L ?_
              generalize (q_sA r23 15 (upd (r23.1 15) 1 (vp_nar .boolean 0))) = r25 at j1721 ⊢
              exact q_E_x (q_Iv_A (i := 15) j1721 (q_hf_up ((j1721).1 15) (q_s15 (q_rg_le (L := 0) (U := 1) (q_rg_nb _) (by decide) (by decide)))))
            | false =>
              refine q_S_F ?_
              have j1722 : q_Iv c d w (q_sA r23 15 (upd (r23.1 15) 1 (vp_nar .boolean 0))) := (q_Iv_A (i := 15) j1719 (q_hf_up ((j1719).1 15) (q_s15 (q_rg_le (L := 0) (U := 1) (q_rg_nb _) (by decide) (by decide)))))
              refine q_S_L ?_
              generalize (q_sA r23 15 (upd (r23.1 15) 1 (vp_nar .boolean 0))) = r26 at j1722 ⊢
              exact q_E_x (q_Iv_A (i := 15) j1722 (q_hf_up ((j1722).1 15) (q_s15 (q_rg_le (L := 0) (U := 1) (q_rg_nb _) (by decide) (by decide)))))
      | false =>
        refine q_S_F ?_
        have j1723 : q_Iv c d w (q_sA r3 15 (upd (r3.1 15) 4 (vp_nar .boolean 1))) := (q_Iv_A (i := 15) j1699 (q_hf_up ((j1699).1 15) (q_s15 (q_rg_le (L := 0) (U := 1) (q_rg_nb _) (by decide) (by decide)))))
        refine q_S_L ?_
        generalize (q_sA r3 15 (upd (r3.1 15) 4 (vp_nar .boolean 1))) = r27 at j1723 ⊢
        refine q_S_L ?_
        generalize p1724 : dz_M206 (q_sA r27 15 (upd (r27.1 15) 3 (vp_nar .boolean 0))) a1 3 = r28
        cases r28 with
        | true =>
          refine q_S_T ?_
          have j1725 : q_Iv c d w (q_sA r27 15 (upd (r27.1 15) 3 (vp_nar .boolean 0))) := (q_Iv_A (i := 15) j1723 (q_hf_up ((j1723).1 15) (q_s15 (q_rg_le (L := 0) (U := 1) (q_rg_nb _) (by decide) (by decide)))))
          refine q_S_L ?_
          generalize (q_sA r27 15 (upd (r27.1 15) 3 (vp_nar .boolean 0))) = r29 at j1725 ⊢
          refine q_S_L ?_
          generalize p1726 : dz_M206 (q_sA r29 15 (upd (r29.1 15) 2 (vp_nar .boolean 1))) a1 6 = r30
          cases r30 with
          | true =>
            refine q_S_T ?_
            have j1727 : q_Iv c d w (q_sA r29 15 (upd (r29.1 15) 2 (vp_nar .boolean 1))) := (q_Iv_A (i := 15) j1725 (q_hf_up ((j1725).1 15) (q_s15 (q_rg_le (L := 0) (U := 1) (q_rg_nb _) (by decide) (by decide)))))
            refine q_S_L ?_
            generalize (q_sA r29 15 (upd (r29.1 15) 2 (vp_nar .boolean 1))) = r31 at j1727 ⊢
            refine q_S_L ?_
            generalize p1728 : dz_M206 (q_sA r31 15 (upd (r31.1 15) 1 (vp_nar .boolean 1))) a1 7 = r32
            cases r32 with
            | true =>
              refine q_S_T ?_
              have j1729 : q_Iv c d w (q_sA r31 15 (upd (r31.1 15) 1 (vp_nar .boolean 1))) := (q_Iv_A (i := 15) j1727 (q_hf_up ((j1727).1 15) (q_s15 (q_rg_le (L := 0) (U := 1) (q_rg_nb _) (by decide) (by decide)))))
              refine q_S_L ?_
              generalize (q_sA r31 15 (upd (r31.1 15) 1 (vp_nar .boolean 1))) = r33 at j1729 ⊢
              exact q_E_x (q_Iv_A (i := 15) j1729 (q_hf_up ((j1729).1 15) (q_s15 (q_rg_le (L := 0) (U := 1) (q_rg_nb _) (by decide) (by decide)))))
            | false =>
              refine q_S_F ?_
              have j1730 : q_Iv c d w (q_sA r31 15 (upd (r31.1 15) 1 (vp_nar .boolean 1))) := (q_Iv_A (i := 15) j1727 (q_hf_up ((j1727).1 15) (q_s15 (q_rg_le (L := 0) (U := 1) (q_rg_nb _) (by decide) (by decide)))))
              refine q_S_L ?_
              generalize (q_sA r31 15 (upd (r31.1 15) 1 (vp_nar .boolean 1))) = r34 at j1730 ⊢
              exact q_E_x (q_Iv_A (i := 15) j1730 (q_hf_up ((j1730).1 15) (q_s15 (q_rg_le (L := 0) (U := 1) (q_rg_nb _) (by decide) (by decide)))))
          | false =>
            refine q_S_F ?_
            have j1731 : q_Iv c d w (q_sA r29 15 (upd (r29.1 15) 2 (vp_nar .boolean 1))) := (q_Iv_A (i := 15) j1725 (q_hf_up ((j1725).1 15) (q_s15 (q_rg_le (L := 0) (U := 1) (q_rg_nb _) (by decide) (by decide)))))
            refine q_S_L ?_
            generalize (q_sA r29 15 (upd (r29.1 15) 2 (vp_nar .boolean 1))) = r35 at j1731 ⊢
            refine q_S_L ?_
            generalize p1732 : dz_M206 (q_sA r35 15 (upd (r35.1 15) 1 (vp_nar .boolean 0))) a1 7 = r36
            cases r36 with
            | true =>
              refine q_S_T ?_
              have j1733 : q_Iv c d w (q_sA r35 15 (upd (r35.1 15) 1 (vp_nar .boolean 0))) := (q_Iv_A (i := 15) j1731 (q_hf_up ((j1731).1 15) (q_s15 (q_rg_le (L := 0) (U := 1) (q_rg_nb _) (by decide) (by decide)))))
              refine q_S_L ?_
              generalize (q_sA r35 15 (upd (r35.1 15) 1 (vp_nar .boolean 0))) = r37 at j1733 ⊢
              exact q_E_x (q_Iv_A (i := 15) j1733 (q_hf_up ((j1733).1 15) (q_s15 (q_rg_le (L := 0) (U := 1) (q_rg_nb _) (by decide) (by decide)))))
            | false =>
              refine q_S_F ?_
              have j1734 : q_Iv c d w (q_sA r35 15 (upd (r35.1 15) 1 (vp_nar .boolean 0))) := (q_Iv_A (i := 15) j1731 (q_hf_up ((j1731).1 15) (q_s15 (q_rg_le (L := 0) (U := 1) (q_rg_nb _) (by decide) (by decide)))))
              refine q_S_L ?_
              generalize (q_sA r35 15 (upd (r35.1 15) 1 (vp_nar .boolean 0))) = r38 at j1734 ⊢
              exact q_E_x (q_Iv_A (i := 15) j1734 (q_hf_up ((j1734).1 15) (q_s15 (q_rg_le (L := 0) (U := 1) (q_rg_nb _) (by decide) (by decide)))))
        | false =>
          refine q_S_F ?_
          have j1735 : q_Iv c d w (q_sA r27 15 (upd (r27.1 15) 3 (vp_nar .boolean 0))) := (q_Iv_A (i := 15) j1723 (q_hf_up ((j1723).1 15) (q_s15 (q_rg_le (L := 0) (U := 1) (q_rg_nb _) (by decide) (by decide)))))
          refine q_S_L ?_
          generalize (q_sA r27 15 (upd (r27.1 15) 3 (vp_nar .boolean 0))) = r39 at j1735 ⊢
          refine q_S_L ?_
          generalize p1736 : dz_M206 (q_sA r39 15 (upd (r39.1 15) 2 (vp_nar .boolean 0))) a1 6 = r40
          cases r40 with
          | true =>
            refine q_S_T ?_
            have j1737 : q_Iv c d w (q_sA r39 15 (upd (r39.1 15) 2 (vp_nar .boolean 0))) := (q_Iv_A (i := 15) j1735 (q_hf_up ((j1735).1 15) (q_s15 (q_rg_le (L := 0) (U := 1) (q_rg_nb _) (by decide) (by decide)))))
            refine q_S_L ?_
            generalize (q_sA r39 15 (upd (r39.1 15) 2 (vp_nar .boolean 0))) = r41 at j1737 ⊢
            refine q_S_L ?_
            generalize p1738 : dz_M206 (q_sA r41 15 (upd (r41.1 15) 1 (vp_nar .boolean 1))) a1 7 = r42
            cases r42 with
            | true =>
              refine q_S_T ?_
              have j1739 : q_Iv c d w (q_sA r41 15 (upd (r41.1 15) 1 (vp_nar .boolean 1))) := (q_Iv_A (i := 15) j1737 (q_hf_up ((j1737).1 15) (q_s15 (q_rg_le (L := 0) (U := 1) (q_rg_nb _) (by decide) (by decide)))))
              refine q_S_L ?_
              generalize (q_sA r41 15 (upd (r41.1 15) 1 (vp_nar .boolean 1))) = r43 at j1739 ⊢
              exact q_E_x (q_Iv_A (i := 15) j1739 (q_hf_up ((j1739).1 15) (q_s15 (q_rg_le (L := 0) (U := 1) (q_rg_nb _) (by decide) (by decide)))))
            | false =>
              refine q_S_F ?_
              have j1740 : q_Iv c d w (q_sA r41 15 (upd (r41.1 15) 1 (vp_nar .boolean 1))) := (q_Iv_A (i := 15) j1737 (q_hf_up ((j1737).1 15) (q_s15 (q_rg_le (L := 0) (U := 1) (q_rg_nb _) (by decide) (by decide)))))
              refine q_S_L ?_
              generalize (q_sA r41 15 (upd (r41.1 15) 1 (vp_nar .boolean 1))) = r44 at j1740 ⊢
              exact q_E_x (q_Iv_A (i := 15) j1740 (q_hf_up ((j1740).1 15) (q_s15 (q_rg_le (L := 0) (U := 1) (q_rg_nb _) (by decide) (by decide)))))
          | false =>
            refine q_S_F ?_
            have j1741 : q_Iv c d w (q_sA r39 15 (upd (r39.1 15) 2 (vp_nar .boolean 0))) := (q_Iv_A (i := 15) j1735 (q_hf_up ((j1735).1 15) (q_s15 (q_rg_le (L := 0) (U := 1) (q_rg_nb _) (by decide) (by decide)))))
            refine q_S_L ?_
            generalize (q_sA r39 15 (upd (r39.1 15) 2 (vp_nar .boolean 0))) = r45 at j1741 ⊢
            refine q_S_L ?_
            generalize p1742 : dz_M206 (q_sA r45 15 (upd (r45.1 15) 1 (vp_nar .boolean 0))) a1 7 = r46
            cases r46 with
            | true =>
              refine q_S_T ?_
              have j1743 : q_Iv c d w (q_sA r45 15 (upd (r45.1 15) 1 (vp_nar .boolean 0))) := (q_Iv_A (i := 15) j1741 (q_hf_up ((j1741).1 15) (q_s15 (q_rg_le (L := 0) (U := 1) (q_rg_nb _) (by decide) (by decide)))))
              refine q_S_L ?_
              generalize (q_sA r45 15 (upd (r45.1 15) 1 (vp_nar .boolean 0))) = r47 at j1743 ⊢
              exact q_E_x (q_Iv_A (i := 15) j1743 (q_hf_up ((j1743).1 15) (q_s15 (q_rg_le (L := 0) (U := 1) (q_rg_nb _) (by decide) (by decide)))))
            | false =>
              refine q_S_F ?_
              have j1744 : q_Iv c d w (q_sA r45 15 (upd (r45.1 15) 1 (vp_nar .boolean 0))) := (q_Iv_A (i := 15) j1741 (q_hf_up ((j1741).1 15) (q_s15 (q_rg_le (L := 0) (U := 1) (q_rg_nb _) (by decide) (by decide)))))
              refine q_S_L ?_
              generalize (q_sA r45 15 (upd (r45.1 15) 1 (vp_nar .boolean 0))) = r48 at j1744 ⊢
              exact q_E_x (q_Iv_A (i := 15) j1744 (q_hf_up ((j1744).1 15) (q_s15 (q_rg_le (L := 0) (U := 1) (q_rg_nb _) (by decide) (by decide)))))
    | false =>
      refine q_S_F ?_
      have j1745 : q_Iv c d w (q_sA s 15 (upd (s.1 15) 5 (vp_nar .boolean 1))) := (q_Iv_A (i := 15) hI (q_hf_up ((hI).1 15) (q_s15 (q_rg_le (L := 0) (U := 1) (q_rg_nb _) (by decide) (by decide)))))
      refine q_S_L ?_
      generalize (q_sA s 15 (upd (s.1 15) 5 (vp_nar .boolean 1))) = r49 at j1745 ⊢
      refine q_S_L ?_
      generalize p1746 : dz_M206 (q_sA r49 15 (upd (r49.1 15) 4 (vp_nar .boolean 0))) a1 2 = r50
      cases r50 with
      | true =>
        refine q_S_T ?_
        have j1747 : q_Iv c d w (q_sA r49 15 (upd (r49.1 15) 4 (vp_nar .boolean 0))) := (q_Iv_A (i := 15) j1745 (q_hf_up ((j1745).1 15) (q_s15 (q_rg_le (L := 0) (U := 1) (q_rg_nb _) (by decide) (by decide)))))
        refine q_S_L ?_
        generalize (q_sA r49 15 (upd (r49.1 15) 4 (vp_nar .boolean 0))) = r51 at j1747 ⊢
        refine q_S_L ?_
        generalize p1748 : dz_M206 (q_sA r51 15 (upd (r51.1 15) 3 (vp_nar .boolean 1))) a1 3 = r52
        cases r52 with
        | true =>
          refine q_S_T ?_
          have j1749 : q_Iv c d w (q_sA r51 15 (upd (r51.1 15) 3 (vp_nar .boolean 1))) := (q_Iv_A (i := 15) j1747 (q_hf_up ((j1747).1 15) (q_s15 (q_rg_le (L := 0) (U := 1) (q_rg_nb _) (by decide) (by decide)))))
          refine q_S_L ?_
          generalize (q_sA r51 15 (upd (r51.1 15) 3 (vp_nar .boolean 1))) = r53 at j1749 ⊢
          refine q_S_L ?_
          generalize p1750 : dz_M206 (q_sA r53 15 (upd (r53.1 15) 2 (vp_nar .boolean 1))) a1 6 = r54
          cases r54 with
          | true =>
            refine q_S_T ?_
            have j1751 : q_Iv c d w (q_sA r53 15 (upd (r53.1 15) 2 (vp_nar .boolean 1))) := (q_Iv_A (i := 15) j1749 (q_hf_up ((j1749).1 15) (q_s15 (q_rg_le (L := 0) (U := 1) (q_rg_nb _) (by decide) (by decide)))))
            refine q_S_L ?_
            generalize (q_sA r53 15 (upd (r53.1 15) 2 (vp_nar .boolean 1))) = r55 at j1751 ⊢
            refine q_S_L ?_
            generalize p1752 : dz_M206 (q_sA r55 15 (upd (r55.1 15) 1 (vp_nar .boolean 1))) a1 7 = r56
            cases r56 with
            | true =>
              refine q_S_T ?_
              have j1753 : q_Iv c d w (q_sA r55 15 (upd (r55.1 15) 1 (vp_nar .boolean 1))) := (q_Iv_A (i := 15) j1751 (q_hf_up ((j1751).1 15) (q_s15 (q_rg_le (L := 0) (U := 1) (q_rg_nb _) (by decide) (by decide)))))
              refine q_S_L ?_
              generalize (q_sA r55 15 (upd (r55.1 15) 1 (vp_nar .boolean 1))) = r57 at j1753 ⊢
              exact q_E_x (q_Iv_A (i := 15) j1753 (q_hf_up ((j1753).1 15) (q_s15 (q_rg_le (L := 0) (U := 1) (q_rg_nb _) (by decide) (by decide)))))
            | false =>
              refine q_S_F ?_
              have j1754 : q_Iv c d w (q_sA r55 15 (upd (r55.1 15) 1 (vp_nar .boolean 1))) := (q_Iv_A (i := 15) j1751 (q_hf_up ((j1751).1 15) (q_s15 (q_rg_le (L := 0) (U := 1) (q_rg_nb _) (by decide) (by decide)))))
              refine q_S_L ?_
              generalize (q_sA r55 15 (upd (r55.1 15) 1 (vp_nar .boolean 1))) = r58 at j1754 ⊢
              exact q_E_x (q_Iv_A (i := 15) j1754 (q_hf_up ((j1754).1 15) (q_s15 (q_rg_le (L := 0) (U := 1) (q_rg_nb _) (by decide) (by decide)))))
          | false =>
            refine q_S_F ?_
            have j1755 : q_Iv c d w (q_sA r53 15 (upd (r53.1 15) 2 (vp_nar .boolean 1))) := (q_Iv_A (i := 15) j1749 (q_hf_up ((j1749).1 15) (q_s15 (q_rg_le (L := 0) (U := 1) (q_rg_nb _) (by decide) (by decide)))))
            refine q_S_L ?_
            generalize (q_sA r53 15 (upd (r53.1 15) 2 (vp_nar .boolean 1))) = r59 at j1755 ⊢
            refine q_S_L ?_
            generalize p1756 : dz_M206 (q_sA r59 15 (upd (r59.1 15) 1 (vp_nar .boolean 0))) a1 7 = r60
            cases r60 with
            | true =>
              refine q_S_T ?_
              have j1757 : q_Iv c d w (q_sA r59 15 (upd (r59.1 15) 1 (vp_nar .boolean 0))) := (q_Iv_A (i := 15) j1755 (q_hf_up ((j1755).1 15) (q_s15 (q_rg_le (L := 0) (U := 1) (q_rg_nb _) (by decide) (by decide)))))
              refine q_S_L ?_
              generalize (q_sA r59 15 (upd (r59.1 15) 1 (vp_nar .boolean 0))) = r61 at j1757 ⊢
              exact q_E_x (q_Iv_A (i := 15) j1757 (q_hf_up ((j1757).1 15) (q_s15 (q_rg_le (L := 0) (U := 1) (q_rg_nb _) (by decide) (by decide)))))
            | false =>
              refine q_S_F ?_
              have j1758 : q_Iv c d w (q_sA r59 15 (upd (r59.1 15) 1 (vp_nar .boolean 0))) := (q_Iv_A (i := 15) j1755 (q_hf_up ((j1755).1 15) (q_s15 (q_rg_le (L := 0) (U := 1) (q_rg_nb _) (by decide) (by decide)))))
              refine q_S_L ?_
              generalize (q_sA r59 15 (upd (r59.1 15) 1 (vp_nar .boolean 0))) = r62 at j1758 ⊢
              exact q_E_x (q_Iv_A (i := 15) j1758 (q_hf_up ((j1758).1 15) (q_s15 (q_rg_le (L := 0) (U := 1) (q_rg_nb _) (by decide) (by decide)))))
        | false =>
          refine q_S_F ?_
          have j1759 : q_Iv c d w (q_sA r51 15 (upd (r51.1 15) 3 (vp_nar .boolean 1))) := (q_Iv_A (i := 15) j1747 (q_hf_up ((j1747).1 15) (q_s15 (q_rg_le (L := 0) (U := 1) (q_rg_nb _) (by decide) (by decide)))))
          refine q_S_L ?_
          generalize (q_sA r51 15 (upd (r51.1 15) 3 (vp_nar .boolean 1))) = r63 at j1759 ⊢
          refine q_S_L ?_
          generalize p1760 : dz_M206 (q_sA r63 15 (upd (r63.1 15) 2 (vp_nar .boolean 0))) a1 6 = r64
          cases r64 with
          | true =>
            refine q_S_T ?_
            have j1761 : q_Iv c d w (q_sA r63 15 (upd (r63.1 15) 2 (vp_nar .boolean 0))) := (q_Iv_A (i := 15) j1759 (q_hf_up ((j1759).1 15) (q_s15 (q_rg_le (L := 0) (U := 1) (q_rg_nb _) (by decide) (by decide)))))
            refine q_S_L ?_
            generalize (q_sA r63 15 (upd (r63.1 15) 2 (vp_nar .boolean 0))) = r65 at j1761 ⊢
            refine q_S_L ?_
            generalize p1762 : dz_M206 (q_sA r65 15 (upd (r65.1 15) 1 (vp_nar .boolean 1))) a1 7 = r66
            cases r66 with
            | true =>
              refine q_S_T ?_
              have j1763 : q_Iv c d w (q_sA r65 15 (upd (r65.1 15) 1 (vp_nar .boolean 1))) := (q_Iv_A (i := 15) j1761 (q_hf_up ((j1761).1 15) (q_s15 (q_rg_le (L := 0) (U := 1) (q_rg_nb _) (by decide) (by decide)))))
              refine q_S_L ?_
              generalize (q_sA r65 15 (upd (r65.1 15) 1 (vp_nar .boolean 1))) = r67 at j1763 ⊢
              exact q_E_x (q_Iv_A (i := 15) j1763 (q_hf_up ((j1763).1 15) (q_s15 (q_rg_le (L := 0) (U := 1) (q_rg_nb _) (by decide) (by decide)))))
            | false =>
              refine q_S_F ?_
              have j1764 : q_Iv c d w (q_sA r65 15 (upd (r65.1 15) 1 (vp_nar .boolean 1))) := (q_Iv_A (i := 15) j1761 (q_hf_up ((j1761).1 15) (q_s15 (q_rg_le (L := 0) (U := 1) (q_rg_nb _) (by decide) (by decide)))))
              refine q_S_L ?_
              generalize (q_sA r65 15 (upd (r65.1 15) 1 (vp_nar .boolean 1))) = r68 at j1764 ⊢
              exact q_E_x (q_Iv_A (i := 15) j1764 (q_hf_up ((j1764).1 15) (q_s15 (q_rg_le (L := 0) (U := 1) (q_rg_nb _) (by decide) (by decide)))))
          | false =>
            refine q_S_F ?_
            have j1765 : q_Iv c d w (q_sA r63 15 (upd (r63.1 15) 2 (vp_nar .boolean 0))) := (q_Iv_A (i := 15) j1759 (q_hf_up ((j1759).1 15) (q_s15 (q_rg_le (L := 0) (U := 1) (q_rg_nb _) (by decide) (by decide)))))
            refine q_S_L ?_
            generalize (q_sA r63 15 (upd (r63.1 15) 2 (vp_nar .boolean 0))) = r69 at j1765 ⊢
            refine q_S_L ?_
            generalize p1766 : dz_M206 (q_sA r69 15 (upd (r69.1 15) 1 (vp_nar .boolean 0))) a1 7 = r70
            cases r70 with
            | true =>
              refine q_S_T ?_
              have j1767 : q_Iv c d w (q_sA r69 15 (upd (r69.1 15) 1 (vp_nar .boolean 0))) := (q_Iv_A (i := 15) j1765 (q_hf_up ((j1765).1 15) (q_s15 (q_rg_le (L := 0) (U := 1) (q_rg_nb _) (by decide) (by decide)))))
              refine q_S_L ?_
              generalize (q_sA r69 15 (upd (r69.1 15) 1 (vp_nar .boolean 0))) = r71 at j1767 ⊢
              exact q_E_x (q_Iv_A (i := 15) j1767 (q_hf_up ((j1767).1 15) (q_s15 (q_rg_le (L := 0) (U := 1) (q_rg_nb _) (by decide) (by decide)))))
            | false =>
              refine q_S_F ?_
              have j1768 : q_Iv c d w (q_sA r69 15 (upd (r69.1 15) 1 (vp_nar .boolean 0))) := (q_Iv_A (i := 15) j1765 (q_hf_up ((j1765).1 15) (q_s15 (q_rg_le (L := 0) (U := 1) (q_rg_nb _) (by decide) (by decide)))))
              refine q_S_L ?_
              generalize (q_sA r69 15 (upd (r69.1 15) 1 (vp_nar .boolean 0))) = r72 at j1768 ⊢
              exact q_E_x (q_Iv_A (i := 15) j1768 (q_hf_up ((j1768).1 15) (q_s15 (q_rg_le (L := 0) (U := 1) (q_rg_nb _) (by decide) (by decide)))))
      | false =>
        refine q_S_F ?_
        have j1769 : q_Iv c d w (q_sA r49 15 (upd (r49.1 15) 4 (vp_nar .boolean 0))) := (q_Iv_A (i := 15) j1745 (q_hf_up ((j1745).1 15) (q_s15 (q_rg_le (L := 0) (U := 1) (q_rg_nb _) (by decide) (by decide)))))
        refine q_S_L ?_
        generalize (q_sA r49 15 (upd (r49.1 15) 4 (vp_nar .boolean 0))) = r73 at j1769 ⊢
        refine q_S_L ?_
        generalize p1770 : dz_M206 (q_sA r73 15 (upd (r73.1 15) 3 (vp_nar .boolean 0))) a1 3 = r74
        cases r74 with
        | true =>
          refine q_S_T ?_
          have j1771 : q_Iv c d w (q_sA r73 15 (upd (r73.1 15) 3 (vp_nar .boolean 0))) := (q_Iv_A (i := 15) j1769 (q_hf_up ((j1769).1 15) (q_s15 (q_rg_le (L := 0) (U := 1) (q_rg_nb _) (by decide) (by decide)))))
          refine q_S_L ?_
          generalize (q_sA r73 15 (upd (r73.1 15) 3 (vp_nar .boolean 0))) = r75 at j1771 ⊢
          refine q_S_L ?_
          generalize p1772 : dz_M206 (q_sA r75 15 (upd (r75.1 15) 2 (vp_nar .boolean 1))) a1 6 = r76
          cases r76 with
          | true =>
            refine q_S_T ?_
            have j1773 : q_Iv c d w (q_sA r75 15 (upd (r75.1 15) 2 (vp_nar .boolean 1))) := (q_Iv_A (i := 15) j1771 (q_hf_up ((j1771).1 15) (q_s15 (q_rg_le (L := 0) (U := 1) (q_rg_nb _) (by decide) (by decide)))))
            refine q_S_L ?_
            generalize (q_sA r75 15 (upd (r75.1 15) 2 (vp_nar .boolean 1))) = r77 at j1773 ⊢
            refine q_S_L ?_
            generalize p1774 : dz_M206 (q_sA r77 15 (upd (r77.1 15) 1 (vp_nar .boolean 1))) a1 7 = r78
            cases r78 with
            | true =>
              refine q_S_T ?_
              have j1775 : q_Iv c d w (q_sA r77 15 (upd (r77.1 15) 1 (vp_nar .boolean 1))) := (q_Iv_A (i := 15) j1773 (q_hf_up ((j1773).1 15) (q_s15 (q_rg_le (L := 0) (U := 1) (q_rg_nb _) (by decide) (by decide)))))
              refine q_S_L ?_
              generalize (q_sA r77 15 (upd (r77.1 15) 1 (vp_nar .boolean 1))) = r79 at j1775 ⊢
              exact q_E_x (q_Iv_A (i := 15) j1775 (q_hf_up ((j1775).1 15) (q_s15 (q_rg_le (L := 0) (U := 1) (q_rg_nb _) (by decide) (by decide)))))
            | false =>
              refine q_S_F ?_
              have j1776 : q_Iv c d w (q_sA r77 15 (upd (r77.1 15) 1 (vp_nar .boolean 1))) := (q_Iv_A (i := 15) j1773 (q_hf_up ((j1773).1 15) (q_s15 (q_rg_le (L := 0) (U := 1) (q_rg_nb _) (by decide) (by decide)))))
              refine q_S_L ?_
              generalize (q_sA r77 15 (upd (r77.1 15) 1 (vp_nar .boolean 1))) = r80 at j1776 ⊢
              exact q_E_x (q_Iv_A (i := 15) j1776 (q_hf_up ((j1776).1 15) (q_s15 (q_rg_le (L := 0) (U := 1) (q_rg_nb _) (by decide) (by decide)))))
          | false =>
            refine q_S_F ?_
            have j1777 : q_Iv c d w (q_sA r75 15 (upd (r75.1 15) 2 (vp_nar .boolean 1))) := (q_Iv_A (i := 15) j1771 (q_hf_up ((j1771).1 15) (q_s15 (q_rg_le (L := 0) (U := 1) (q_rg_nb _) (by decide) (by decide)))))
            refine q_S_L ?_
            generalize (q_sA r75 15 (upd (r75.1 15) 2 (vp_nar .boolean 1))) = r81 at j1777 ⊢
            refine q_S_L ?_
            generalize p1778 : dz_M206 (q_sA r81 15 (upd (r81.1 15) 1 (vp_nar .boolean 0))) a1 7 = r82
            cases r82 with
            | true =>
              refine q_S_T ?_
              have j1779 : q_Iv c d w (q_sA r81 15 (upd (r81.1 15) 1 (vp_nar .boolean 0))) := (q_Iv_A (i := 15) j1777 (q_hf_up ((j1777).1 15) (q_s15 (q_rg_le (L := 0) (U := 1) (q_rg_nb _) (by decide) (by decide)))))
              refine q_S_L ?_
              generalize (q_sA r81 15 (upd (r81.1 15) 1 (vp_nar .boolean 0))) = r83 at j1779 ⊢
              exact q_E_x (q_Iv_A (i := 15) j1779 (q_hf_up ((j1779).1 15) (q_s15 (q_rg_le (L := 0) (U := 1) (q_rg_nb _) (by decide) (by decide)))))
            | false =>
              refine q_S_F ?_
              have j1780 : q_Iv c d w (q_sA r81 15 (upd (r81.1 15) 1 (vp_nar .boolean 0))) := (q_Iv_A (i := 15) j1777 (q_hf_up ((j1777).1 15) (q_s15 (q_rg_le (L := 0) (U := 1) (q_rg_nb _) (by decide) (by decide)))))
              refine q_S_L ?_
              generalize (q_sA r81 15 (upd (r81.1 15) 1 (vp_nar .boolean 0))) = r84 at j1780 ⊢
              exact q_E_x (q_Iv_A (i := 15) j1780 (q_hf_up ((j1780).1 15) (q_s15 (q_rg_le (L := 0) (U := 1) (q_rg_nb _) (by decide) (by decide)))))
        | false =>
          refine q_S_F ?_
          have j1781 : q_Iv c d w (q_sA r73 15 (upd (r73.1 15) 3 (vp_nar .boolean 0))) := (q_Iv_A (i := 15) j1769 (q_hf_up ((j1769).1 15) (q_s15 (q_rg_le (L := 0) (U := 1) (q_rg_nb _) (by decide) (by decide)))))
          refine q_S_L ?_
          generalize (q_sA r73 15 (upd (r73.1 15) 3 (vp_nar .boolean 0))) = r85 at j1781 ⊢
          refine q_S_L ?_
          generalize p1782 : dz_M206 (q_sA r85 15 (upd (r85.1 15) 2 (vp_nar .boolean 0))) a1 6 = r86
          cases r86 with
          | true =>
            refine q_S_T ?_
            have j1783 : q_Iv c d w (q_sA r85 15 (upd (r85.1 15) 2 (vp_nar .boolean 0))) := (q_Iv_A (i := 15) j1781 (q_hf_up ((j1781).1 15) (q_s15 (q_rg_le (L := 0) (U := 1) (q_rg_nb _) (by decide) (by decide)))))
            refine q_S_L ?_
            generalize (q_sA r85 15 (upd (r85.1 15) 2 (vp_nar .boolean 0))) = r87 at j1783 ⊢
            refine q_S_L ?_
            generalize p1784 : dz_M206 (q_sA r87 15 (upd (r87.1 15) 1 (vp_nar .boolean 1))) a1 7 = r88
            cases r88 with
            | true =>
              refine q_S_T ?_
              have j1785 : q_Iv c d w (q_sA r87 15 (upd (r87.1 15) 1 (vp_nar .boolean 1))) := (q_Iv_A (i := 15) j1783 (q_hf_up ((j1783).1 15) (q_s15 (q_rg_le (L := 0) (U := 1) (q_rg_nb _) (by decide) (by decide)))))
              refine q_S_L ?_
              generalize (q_sA r87 15 (upd (r87.1 15) 1 (vp_nar .boolean 1))) = r89 at j1785 ⊢
              exact q_E_x (q_Iv_A (i := 15) j1785 (q_hf_up ((j1785).1 15) (q_s15 (q_rg_le (L := 0) (U := 1) (q_rg_nb _) (by decide) (by decide)))))
            | false =>
              refine q_S_F ?_
              have j1786 : q_Iv c d w (q_sA r87 15 (upd (r87.1 15) 1 (vp_nar .boolean 1))) := (q_Iv_A (i := 15) j1783 (q_hf_up ((j1783).1 15) (q_s15 (q_rg_le (L := 0) (U := 1) (q_rg_nb _) (by decide) (by decide)))))
              refine q_S_L ?_
              generalize (q_sA r87 15 (upd (r87.1 15) 1 (vp_nar .boolean 1))) = r90 at j1786 ⊢
              exact q_E_x (q_Iv_A (i := 15) j1786 (q_hf_up ((j1786).1 15) (q_s15 (q_rg_le (L := 0) (U := 1) (q_rg_nb _) (by decide) (by decide)))))
          | false =>
            refine q_S_F ?_
            have j1787 : q_Iv c d w (q_sA r85 15 (upd (r85.1 15) 2 (vp_nar .boolean 0))) := (q_Iv_A (i := 15) j1781 (q_hf_up ((j1781).1 15) (q_s15 (q_rg_le (L := 0) (U := 1) (q_rg_nb _) (by decide) (by decide)))))
            refine q_S_L ?_
            generalize (q_sA r85 15 (upd (r85.1 15) 2 (vp_nar .boolean 0))) = r91 at j1787 ⊢
            refine q_S_L ?_
            generalize p1788 : dz_M206 (q_sA r91 15 (upd (r91.1 15) 1 (vp_nar .boolean 0))) a1 7 = r92
            cases r92 with
            | true =>
              refine q_S_T ?_
              have j1789 : q_Iv c d w (q_sA r91 15 (upd (r91.1 15) 1 (vp_nar .boolean 0))) := (q_Iv_A (i := 15) j1787 (q_hf_up ((j1787).1 15) (q_s15 (q_rg_le (L := 0) (U := 1) (q_rg_nb _) (by decide) (by decide)))))
              refine q_S_L ?_
              generalize (q_sA r91 15 (upd (r91.1 15) 1 (vp_nar .boolean 0))) = r93 at j1789 ⊢
              exact q_E_x (q_Iv_A (i := 15) j1789 (q_hf_up ((j1789).1 15) (q_s15 (q_rg_le (L := 0) (U := 1) (q_rg_nb _) (by decide) (by decide)))))
            | false =>
              refine q_S_F ?_
              have j1790 : q_Iv c d w (q_sA r91 15 (upd (r91.1 15) 1 (vp_nar .boolean 0))) := (q_Iv_A (i := 15) j1787 (q_hf_up ((j1787).1 15) (q_s15 (q_rg_le (L := 0) (U := 1) (q_rg_nb _) (by decide) (by decide)))))
              refine q_S_L ?_
              generalize (q_sA r91 15 (upd (r91.1 15) 1 (vp_nar .boolean 0))) = r94 at j1790 ⊢
              exact q_E_x (q_Iv_A (i := 15) j1790 (q_hf_up ((j1790).1 15) (q_s15 (q_rg_le (L := 0) (U := 1) (q_rg_nb _) (by decide) (by decide)))))
  | false =>
    refine q_S_F ?_
    refine q_S_L ?_
    generalize p1791 : dz_M206 (q_sA s 15 (upd (s.1 15) 5 (vp_nar .boolean 0))) a1 1 = r95
    cases r95 with
    | true =>
      refine q_S_T ?_
      have j1792 : q_Iv c d w (q_sA s 15 (upd (s.1 15) 5 (vp_nar .boolean 0))) := (q_Iv_A (i := 15) hI (q_hf_up ((hI).1 15) (q_s15 (q_rg_le (L := 0) (U := 1) (q_rg_nb _) (by decide) (by decide)))))
      refine q_S_L ?_
      generalize (q_sA s 15 (upd (s.1 15) 5 (vp_nar .boolean 0))) = r96 at j1792 ⊢
      refine q_S_L ?_
      generalize p1793 : dz_M206 (q_sA r96 15 (upd (r96.1 15) 4 (vp_nar .boolean 1))) a1 2 = r97
      cases r97 with
      | true =>
        refine q_S_T ?_
        have j1794 : q_Iv c d w (q_sA r96 15 (upd (r96.1 15) 4 (vp_nar .boolean 1))) := (q_Iv_A (i := 15) j1792 (q_hf_up ((j1792).1 15) (q_s15 (q_rg_le (L := 0) (U := 1) (q_rg_nb _) (by decide) (by decide)))))
        refine q_S_L ?_
        generalize (q_sA r96 15 (upd (r96.1 15) 4 (vp_nar .boolean 1))) = r98 at j1794 ⊢
        refine q_S_L ?_
        generalize p1795 : dz_M206 (q_sA r98 15 (upd (r98.1 15) 3 (vp_nar .boolean 1))) a1 3 = r99
        cases r99 with
        | true =>
          refine q_S_T ?_
          have j1796 : q_Iv c d w (q_sA r98 15 (upd (r98.1 15) 3 (vp_nar .boolean 1))) := (q_Iv_A (i := 15) j1794 (q_hf_up ((j1794).1 15) (q_s15 (q_rg_le (L := 0) (U := 1) (q_rg_nb _) (by decide) (by decide)))))
          refine q_S_L ?_
          generalize (q_sA r98 15 (upd (r98.1 15) 3 (vp_nar .boolean 1))) = r100 at j1796 ⊢
          refine q_S_L ?_
          generalize p1797 : dz_M206 (q_sA r100 15 (upd (r100.1 15) 2 (vp_nar .boolean 1))) a1 6 = r101
          cases r101 with
          | true =>
            refine q_S_T ?_
            have j1798 : q_Iv c d w (q_sA r100 15 (upd (r100.1 15) 2 (vp_nar .boolean 1))) := (q_Iv_A (i := 15) j1796 (q_hf_up ((j1796).1 15) (q_s15 (q_rg_le (L := 0) (U := 1) (q_rg_nb _) (by decide) (by decide)))))
            refine q_S_L ?_
            generalize (q_sA r100 15 (upd (r100.1 15) 2 (vp_nar .boolean 1))) = r102 at j1798 ⊢
            refine q_S_L ?_
            generalize p1799 : dz_M206 (q_sA r102 15 (upd (r102.1 15) 1 (vp_nar .boolean 1))) a1 7 = r103
            cases r103 with
            | true =>
              refine q_S_T ?_
              have j1800 : q_Iv c d w (q_sA r102 15 (upd (r102.1 15) 1 (vp_nar .boolean 1))) := (q_Iv_A (i := 15) j1798 (q_hf_up ((j1798).1 15) (q_s15 (q_rg_le (L := 0) (U := 1) (q_rg_nb _) (by decide) (by decide)))))
              refine q_S_L ?_
              generalize (q_sA r102 15 (upd (r102.1 15) 1 (vp_nar .boolean 1))) = r104 at j1800 ⊢
              exact q_E_x (q_Iv_A (i := 15) j1800 (q_hf_up ((j1800).1 15) (q_s15 (q_rg_le (L := 0) (U := 1) (q_rg_nb _) (by decide) (by decide)))))
            | false =>
              refine q_S_F ?_
              have j1801 : q_Iv c d w (q_sA r102 15 (upd (r102.1 15) 1 (vp_nar .boolean 1))) := (q_Iv_A (i := 15) j1798 (q_hf_up ((j1798).1 15) (q_s15 (q_rg_le (L := 0) (U := 1) (q_rg_nb _) (by decide) (by decide)))))
              refine q_S_L ?_
              generalize (q_sA r102 15 (upd (r102.1 15) 1 (vp_nar .boolean 1))) = r105 at j1801 ⊢
              exact q_E_x (q_Iv_A (i := 15) j1801 (q_hf_up ((j1801).1 15) (q_s15 (q_rg_le (L := 0) (U := 1) (q_rg_nb _) (by decide) (by decide)))))
          | false =>
            refine q_S_F ?_
            have j1802 : q_Iv c d w (q_sA r100 15 (upd (r100.1 15) 2 (vp_nar .boolean 1))) := (q_Iv_A (i := 15) j1796 (q_hf_up ((j1796).1 15) (q_s15 (q_rg_le (L := 0) (U := 1) (q_rg_nb _) (by decide) (by decide)))))
            refine q_S_L ?_
            generalize (q_sA r100 15 (upd (r100.1 15) 2 (vp_nar .boolean 1))) = r106 at j1802 ⊢
            refine q_S_L ?_
            generalize p1803 : dz_M206 (q_sA r106 15 (upd (r106.1 15) 1 (vp_nar .boolean 0))) a1 7 = r107
            cases r107 with
            | true =>
              refine q_S_T ?_
              have j1804 : q_Iv c d w (q_sA r106 15 (upd (r106.1 15) 1 (vp_nar .boolean 0))) := (q_Iv_A (i := 15) j1802 (q_hf_up ((j1802).1 15) (q_s15 (q_rg_le (L := 0) (U := 1) (q_rg_nb _) (by decide) (by decide)))))
              refine q_S_L ?_
              generalize (q_sA r106 15 (upd (r106.1 15) 1 (vp_nar .boolean 0))) = r108 at j1804 ⊢
              exact q_E_x (q_Iv_A (i := 15) j1804 (q_hf_up ((j1804).1 15) (q_s15 (q_rg_le (L := 0) (U := 1) (q_rg_nb _) (by decide) (by decide)))))
            | false =>
              refine q_S_F ?_
              have j1805 : q_Iv c d w (q_sA r106 15 (upd (r106.1 15) 1 (vp_nar .boolean 0))) := (q_Iv_A (i := 15) j1802 (q_hf_up ((j1802).1 15) (q_s15 (q_rg_le (L := 0) (U := 1) (q_rg_nb _) (by decide) (by decide)))))
              refine q_S_L ?_
              generalize (q_sA r106 15 (upd (r106.1 15) 1 (vp_nar .boolean 0))) = r109 at j1805 ⊢
              exact q_E_x (q_Iv_A (i := 15) j1805 (q_hf_up ((j1805).1 15) (q_s15 (q_rg_le (L := 0) (U := 1) (q_rg_nb _) (by decide) (by decide)))))
        | false =>
          refine q_S_F ?_
          have j1806 : q_Iv c d w (q_sA r98 15 (upd (r98.1 15) 3 (vp_nar .boolean 1))) := (q_Iv_A (i := 15) j1794 (q_hf_up ((j1794).1 15) (q_s15 (q_rg_le (L := 0) (U := 1) (q_rg_nb _) (by decide) (by decide)))))
          refine q_S_L ?_
          generalize (q_sA r98 15 (upd (r98.1 15) 3 (vp_nar .boolean 1))) = r110 at j1806 ⊢
          refine q_S_L ?_
          generalize p1807 : dz_M206 (q_sA r110 15 (upd (r110.1 15) 2 (vp_nar .boolean 0))) a1 6 = r111
          cases r111 with
          | true =>
            refine q_S_T ?_
            have j1808 : q_Iv c d w (q_sA r110 15 (upd (r110.1 15) 2 (vp_nar .boolean 0))) := (q_Iv_A (i := 15) j1806 (q_hf_up ((j1806).1 15) (q_s15 (q_rg_le (L := 0) (U := 1) (q_rg_nb _) (by decide) (by decide)))))
            refine q_S_L ?_
            generalize (q_sA r110 15 (upd (r110.1 15) 2 (vp_nar .boolean 0))) = r112 at j1808 ⊢
            refine q_S_L ?_
            generalize p1809 : dz_M206 (q_sA r112 15 (upd (r112.1 15) 1 (vp_nar .boolean 1))) a1 7 = r113
            cases r113 with
            | true =>
              refine q_S_T ?_
              have j1810 : q_Iv c d w (q_sA r112 15 (upd (r112.1 15) 1 (vp_nar .boolean 1))) := (q_Iv_A (i := 15) j1808 (q_hf_up ((j1808).1 15) (q_s15 (q_rg_le (L := 0) (U := 1) (q_rg_nb _) (by decide) (by decide)))))
              refine q_S_L ?_
              generalize (q_sA r112 15 (upd (r112.1 15) 1 (vp_nar .boolean 1))) = r114 at j1810 ⊢
              exact q_E_x (q_Iv_A (i := 15) j1810 (q_hf_up ((j1810).1 15) (q_s15 (q_rg_le (L := 0) (U := 1) (q_rg_nb _) (by decide) (by decide)))))
            | false =>
              refine q_S_F ?_
              have j1811 : q_Iv c d w (q_sA r112 15 (upd (r112.1 15) 1 (vp_nar .boolean 1))) := (q_Iv_A (i := 15) j1808 (q_hf_up ((j1808).1 15) (q_s15 (q_rg_le (L := 0) (U := 1) (q_rg_nb _) (by decide) (by decide)))))
              refine q_S_L ?_
              generalize (q_sA r112 15 (upd (r112.1 15) 1 (vp_nar .boolean 1))) = r115 at j1811 ⊢
              exact q_E_x (q_Iv_A (i := 15) j1811 (q_hf_up ((j1811).1 15) (q_s15 (q_rg_le (L := 0) (U := 1) (q_rg_nb _) (by decide) (by decide)))))
          | false =>
            refine q_S_F ?_
            have j1812 : q_Iv c d w (q_sA r110 15 (upd (r110.1 15) 2 (vp_nar .boolean 0))) := (q_Iv_A (i := 15) j1806 (q_hf_up ((j1806).1 15) (q_s15 (q_rg_le (L := 0) (U := 1) (q_rg_nb _) (by decide) (by decide)))))
            refine q_S_L ?_
            generalize (q_sA r110 15 (upd (r110.1 15) 2 (vp_nar .boolean 0))) = r116 at j1812 ⊢
            refine q_S_L ?_
            generalize p1813 : dz_M206 (q_sA r116 15 (upd (r116.1 15) 1 (vp_nar .boolean 0))) a1 7 = r117
            cases r117 with
            | true =>
              refine q_S_T ?_
              have j1814 : q_Iv c d w (q_sA r116 15 (upd (r116.1 15) 1 (vp_nar .boolean 0))) := (q_Iv_A (i := 15) j1812 (q_hf_up ((j1812).1 15) (q_s15 (q_rg_le (L := 0) (U := 1) (q_rg_nb _) (by decide) (by decide)))))
              refine q_S_L ?_
              generalize (q_sA r116 15 (upd (r116.1 15) 1 (vp_nar .boolean 0))) = r118 at j1814 ⊢
              exact q_E_x (q_Iv_A (i := 15) j1814 (q_hf_up ((j1814).1 15) (q_s15 (q_rg_le (L := 0) (U := 1) (q_rg_nb _) (by decide) (by decide)))))
            | false =>
              refine q_S_F ?_
              have j1815 : q_Iv c d w (q_sA r116 15 (upd (r116.1 15) 1 (vp_nar .boolean 0))) := (q_Iv_A (i := 15) j1812 (q_hf_up ((j1812).1 15) (q_s15 (q_rg_le (L := 0) (U := 1) (q_rg_nb _) (by decide) (by decide)))))
              refine q_S_L ?_
              generalize (q_sA r116 15 (upd (r116.1 15) 1 (vp_nar .boolean 0))) = r119 at j1815 ⊢
              exact q_E_x (q_Iv_A (i := 15) j1815 (q_hf_up ((j1815).1 15) (q_s15 (q_rg_le (L := 0) (U := 1) (q_rg_nb _) (by decide) (by decide)))))
      | false =>
        refine q_S_F ?_
        have j1816 : q_Iv c d w (q_sA r96 15 (upd (r96.1 15) 4 (vp_nar .boolean 1))) := (q_Iv_A (i := 15) j1792 (q_hf_up ((j1792).1 15) (q_s15 (q_rg_le (L := 0) (U := 1) (q_rg_nb _) (by decide) (by decide)))))
        refine q_S_L ?_
        generalize (q_sA r96 15 (upd (r96.1 15) 4 (vp_nar .boolean 1))) = r120 at j1816 ⊢
        refine q_S_L ?_
        generalize p1817 : dz_M206 (q_sA r120 15 (upd (r120.1 15) 3 (vp_nar .boolean 0))) a1 3 = r121
        cases r121 with
        | true =>
          refine q_S_T ?_
          have j1818 : q_Iv c d w (q_sA r120 15 (upd (r120.1 15) 3 (vp_nar .boolean 0))) := (q_Iv_A (i := 15) j1816 (q_hf_up ((j1816).1 15) (q_s15 (q_rg_le (L := 0) (U := 1) (q_rg_nb _) (by decide) (by decide)))))
          refine q_S_L ?_
          generalize (q_sA r120 15 (upd (r120.1 15) 3 (vp_nar .boolean 0))) = r122 at j1818 ⊢
          refine q_S_L ?_
          generalize p1819 : dz_M206 (q_sA r122 15 (upd (r122.1 15) 2 (vp_nar .boolean 1))) a1 6 = r123
          cases r123 with
          | true =>
            refine q_S_T ?_
            have j1820 : q_Iv c d w (q_sA r122 15 (upd (r122.1 15) 2 (vp_nar .boolean 1))) := (q_Iv_A (i := 15) j1818 (q_hf_up ((j1818).1 15) (q_s15 (q_rg_le (L := 0) (U := 1) (q_rg_nb _) (by decide) (by decide)))))
            refine q_S_L ?_
            generalize (q_sA r122 15 (upd (r122.1 15) 2 (vp_nar .boolean 1))) = r124 at j1820 ⊢
            refine q_S_L ?_
            generalize p1821 : dz_M206 (q_sA r124 15 (upd (r124.1 15) 1 (vp_nar .boolean 1))) a1 7 = r125
            cases r125 with
            | true =>
              refine q_S_T ?_
              have j1822 : q_Iv c d w (q_sA r124 15 (upd (r124.1 15) 1 (vp_nar .boolean 1))) := (q_Iv_A (i := 15) j1820 (q_hf_up ((j1820).1 15) (q_s15 (q_rg_le (L := 0) (U := 1) (q_rg_nb _) (by decide) (by decide)))))
              refine q_S_L ?_
              generalize (q_sA r124 15 (upd (r124.1 15) 1 (vp_nar .boolean 1))) = r126 at j1822 ⊢
              exact q_E_x (q_Iv_A (i := 15) j1822 (q_hf_up ((j1822).1 15) (q_s15 (q_rg_le (L := 0) (U := 1) (q_rg_nb _) (by decide) (by decide)))))
            | false =>
              refine q_S_F ?_
              have j1823 : q_Iv c d w (q_sA r124 15 (upd (r124.1 15) 1 (vp_nar .boolean 1))) := (q_Iv_A (i := 15) j1820 (q_hf_up ((j1820).1 15) (q_s15 (q_rg_le (L := 0) (U := 1) (q_rg_nb _) (by decide) (by decide)))))
              refine q_S_L ?_
              generalize (q_sA r124 15 (upd (r124.1 15) 1 (vp_nar .boolean 1))) = r127 at j1823 ⊢
              exact q_E_x (q_Iv_A (i := 15) j1823 (q_hf_up ((j1823).1 15) (q_s15 (q_rg_le (L := 0) (U := 1) (q_rg_nb _) (by decide) (by decide)))))
          | false =>
            refine q_S_F ?_
            have j1824 : q_Iv c d w (q_sA r122 15 (upd (r122.1 15) 2 (vp_nar .boolean 1))) := (q_Iv_A (i := 15) j1818 (q_hf_up ((j1818).1 15) (q_s15 (q_rg_le (L := 0) (U := 1) (q_rg_nb _) (by decide) (by decide)))))
            refine q_S_L ?_
            generalize (q_sA r122 15 (upd (r122.1 15) 2 (vp_nar .boolean 1))) = r128 at j1824 ⊢
            refine q_S_L ?_
            generalize p1825 : dz_M206 (q_sA r128 15 (upd (r128.1 15) 1 (vp_nar .boolean 0))) a1 7 = r129
            cases r129 with
            | true =>
              refine q_S_T ?_
              have j1826 : q_Iv c d w (q_sA r128 15 (upd (r128.1 15) 1 (vp_nar .boolean 0))) := (q_Iv_A (i := 15) j1824 (q_hf_up ((j1824).1 15) (q_s15 (q_rg_le (L := 0) (U := 1) (q_rg_nb _) (by decide) (by decide)))))
              refine q_S_L ?_
              generalize (q_sA r128 15 (upd (r128.1 15) 1 (vp_nar .boolean 0))) = r130 at j1826 ⊢
              exact q_E_x (q_Iv_A (i := 15) j1826 (q_hf_up ((j1826).1 15) (q_s15 (q_rg_le (L := 0) (U := 1) (q_rg_nb _) (by decide) (by decide)))))
            | false =>
              refine q_S_F ?_
              have j1827 : q_Iv c d w (q_sA r128 15 (upd (r128.1 15) 1 (vp_nar .boolean 0))) := (q_Iv_A (i := 15) j1824 (q_hf_up ((j1824).1 15) (q_s15 (q_rg_le (L := 0) (U := 1) (q_rg_nb _) (by decide) (by decide)))))
              refine q_S_L ?_
              generalize (q_sA r128 15 (upd (r128.1 15) 1 (vp_nar .boolean 0))) = r131 at j1827 ⊢
              exact q_E_x (q_Iv_A (i := 15) j1827 (q_hf_up ((j1827).1 15) (q_s15 (q_rg_le (L := 0) (U := 1) (q_rg_nb _) (by decide) (by decide)))))
        | false =>
          refine q_S_F ?_
          have j1828 : q_Iv c d w (q_sA r120 15 (upd (r120.1 15) 3 (vp_nar .boolean 0))) := (q_Iv_A (i := 15) j1816 (q_hf_up ((j1816).1 15) (q_s15 (q_rg_le (L := 0) (U := 1) (q_rg_nb _) (by decide) (by decide)))))
          refine q_S_L ?_
          generalize (q_sA r120 15 (upd (r120.1 15) 3 (vp_nar .boolean 0))) = r132 at j1828 ⊢
          refine q_S_L ?_
          generalize p1829 : dz_M206 (q_sA r132 15 (upd (r132.1 15) 2 (vp_nar .boolean 0))) a1 6 = r133
          cases r133 with
          | true =>
            refine q_S_T ?_
            have j1830 : q_Iv c d w (q_sA r132 15 (upd (r132.1 15) 2 (vp_nar .boolean 0))) := (q_Iv_A (i := 15) j1828 (q_hf_up ((j1828).1 15) (q_s15 (q_rg_le (L := 0) (U := 1) (q_rg_nb _) (by decide) (by decide)))))
            refine q_S_L ?_
            generalize (q_sA r132 15 (upd (r132.1 15) 2 (vp_nar .boolean 0))) = r134 at j1830 ⊢
            refine q_S_L ?_
            generalize p1831 : dz_M206 (q_sA r134 15 (upd (r134.1 15) 1 (vp_nar .boolean 1))) a1 7 = r135
            cases r135 with
            | true =>
              refine q_S_T ?_
              have j1832 : q_Iv c d w (q_sA r134 15 (upd (r134.1 15) 1 (vp_nar .boolean 1))) := (q_Iv_A (i := 15) j1830 (q_hf_up ((j1830).1 15) (q_s15 (q_rg_le (L := 0) (U := 1) (q_rg_nb _) (by decide) (by decide)))))
              refine q_S_L ?_
              generalize (q_sA r134 15 (upd (r134.1 15) 1 (vp_nar .boolean 1))) = r136 at j1832 ⊢
              exact q_E_x (q_Iv_A (i := 15) j1832 (q_hf_up ((j1832).1 15) (q_s15 (q_rg_le (L := 0) (U := 1) (q_rg_nb _) (by decide) (by decide)))))
            | false =>
              refine q_S_F ?_
              have j1833 : q_Iv c d w (q_sA r134 15 (upd (r134.1 15) 1 (vp_nar .boolean 1))) := (q_Iv_A (i := 15) j1830 (q_hf_up ((j1830).1 15) (q_s15 (q_rg_le (L := 0) (U := 1) (q_rg_nb _) (by decide) (by decide)))))
              refine q_S_L ?_
              generalize (q_sA r134 15 (upd (r134.1 15) 1 (vp_nar .boolean 1))) = r137 at j1833 ⊢
              exact q_E_x (q_Iv_A (i := 15) j1833 (q_hf_up ((j1833).1 15) (q_s15 (q_rg_le (L := 0) (U := 1) (q_rg_nb _) (by decide) (by decide)))))
          | false =>
            refine q_S_F ?_
            have j1834 : q_Iv c d w (q_sA r132 15 (upd (r132.1 15) 2 (vp_nar .boolean 0))) := (q_Iv_A (i := 15) j1828 (q_hf_up ((j1828).1 15) (q_s15 (q_rg_le (L := 0) (U := 1) (q_rg_nb _) (by decide) (by decide)))))
            refine q_S_L ?_
            generalize (q_sA r132 15 (upd (r132.1 15) 2 (vp_nar .boolean 0))) = r138 at j1834 ⊢
            refine q_S_L ?_
            generalize p1835 : dz_M206 (q_sA r138 15 (upd (r138.1 15) 1 (vp_nar .boolean 0))) a1 7 = r139
            cases r139 with
            | true =>
              refine q_S_T ?_
              have j1836 : q_Iv c d w (q_sA r138 15 (upd (r138.1 15) 1 (vp_nar .boolean 0))) := (q_Iv_A (i := 15) j1834 (q_hf_up ((j1834).1 15) (q_s15 (q_rg_le (L := 0) (U := 1) (q_rg_nb _) (by decide) (by decide)))))
              refine q_S_L ?_
              generalize (q_sA r138 15 (upd (r138.1 15) 1 (vp_nar .boolean 0))) = r140 at j1836 ⊢
              exact q_E_x (q_Iv_A (i := 15) j1836 (q_hf_up ((j1836).1 15) (q_s15 (q_rg_le (L := 0) (U := 1) (q_rg_nb _) (by decide) (by decide)))))
            | false =>
              refine q_S_F ?_
              have j1837 : q_Iv c d w (q_sA r138 15 (upd (r138.1 15) 1 (vp_nar .boolean 0))) := (q_Iv_A (i := 15) j1834 (q_hf_up ((j1834).1 15) (q_s15 (q_rg_le (L := 0) (U := 1) (q_rg_nb _) (by decide) (by decide)))))
              refine q_S_L ?_
              generalize (q_sA r138 15 (upd (r138.1 15) 1 (vp_nar .boolean 0))) = r141 at j1837 ⊢
              exact q_E_x (q_Iv_A (i := 15) j1837 (q_hf_up ((j1837).1 15) (q_s15 (q_rg_le (L := 0) (U := 1) (q_rg_nb _) (by decide) (by decide)))))
    | false =>
      refine q_S_F ?_
      have j1838 : q_Iv c d w (q_sA s 15 (upd (s.1 15) 5 (vp_nar .boolean 0))) := (q_Iv_A (i := 15) hI (q_hf_up ((hI).1 15) (q_s15 (q_rg_le (L := 0) (U := 1) (q_rg_nb _) (by decide) (by decide)))))
      refine q_S_L ?_
      generalize (q_sA s 15 (upd (s.1 15) 5 (vp_nar .boolean 0))) = r142 at j1838 ⊢
      refine q_S_L ?_
      generalize p1839 : dz_M206 (q_sA r142 15 (upd (r142.1 15) 4 (vp_nar .boolean 0))) a1 2 = r143
      cases r143 with
      | true =>
        refine q_S_T ?_
        have j1840 : q_Iv c d w (q_sA r142 15 (upd (r142.1 15) 4 (vp_nar .boolean 0))) := (q_Iv_A (i := 15) j1838 (q_hf_up ((j1838).1 15) (q_s15 (q_rg_le (L := 0) (U := 1) (q_rg_nb _) (by decide) (by decide)))))
        refine q_S_L ?_
        generalize (q_sA r142 15 (upd (r142.1 15) 4 (vp_nar .boolean 0))) = r144 at j1840 ⊢
        refine q_S_L ?_
        generalize p1841 : dz_M206 (q_sA r144 15 (upd (r144.1 15) 3 (vp_nar .boolean 1))) a1 3 = r145
        cases r145 with
        | true =>
          refine q_S_T ?_
          have j1842 : q_Iv c d w (q_sA r144 15 (upd (r144.1 15) 3 (vp_nar .boolean 1))) := (q_Iv_A (i := 15) j1840 (q_hf_up ((j1840).1 15) (q_s15 (q_rg_le (L := 0) (U := 1) (q_rg_nb _) (by decide) (by decide)))))
          refine q_S_L ?_
          generalize (q_sA r144 15 (upd (r144.1 15) 3 (vp_nar .boolean 1))) = r146 at j1842 ⊢
          refine q_S_L ?_
          generalize p1843 : dz_M206 (q_sA r146 15 (upd (r146.1 15) 2 (vp_nar .boolean 1))) a1 6 = r147
          cases r147 with
          | true =>
            refine q_S_T ?_
            have j1844 : q_Iv c d w (q_sA r146 15 (upd (r146.1 15) 2 (vp_nar .boolean 1))) := (q_Iv_A (i := 15) j1842 (q_hf_up ((j1842).1 15) (q_s15 (q_rg_le (L := 0) (U := 1) (q_rg_nb _) (by decide) (by decide)))))
            refine q_S_L ?_
            generalize (q_sA r146 15 (upd (r146.1 15) 2 (vp_nar .boolean 1))) = r148 at j1844 ⊢
            refine q_S_L ?_
            generalize p1845 : dz_M206 (q_sA r148 15 (upd (r148.1 15) 1 (vp_nar .boolean 1))) a1 7 = r149
            cases r149 with
            | true =>
              refine q_S_T ?_
              have j1846 : q_Iv c d w (q_sA r148 15 (upd (r148.1 15) 1 (vp_nar .boolean 1))) := (q_Iv_A (i := 15) j1844 (q_hf_up ((j1844).1 15) (q_s15 (q_rg_le (L := 0) (U := 1) (q_rg_nb _) (by decide) (by decide)))))
              refine q_S_L ?_
              generalize (q_sA r148 15 (upd (r148.1 15) 1 (vp_nar .boolean 1))) = r150 at j1846 ⊢
              exact q_E_x (q_Iv_A (i := 15) j1846 (q_hf_up ((j1846).1 15) (q_s15 (q_rg_le (L := 0) (U := 1) (q_rg_nb _) (by decide) (by decide)))))
            | false =>
              refine q_S_F ?_
              have j1847 : q_Iv c d w (q_sA r148 15 (upd (r148.1 15) 1 (vp_nar .boolean 1))) := (q_Iv_A (i := 15) j1844 (q_hf_up ((j1844).1 15) (q_s15 (q_rg_le (L := 0) (U := 1) (q_rg_nb _) (by decide) (by decide)))))
              refine q_S_L ?_
              generalize (q_sA r148 15 (upd (r148.1 15) 1 (vp_nar .boolean 1))) = r151 at j1847 ⊢
              exact q_E_x (q_Iv_A (i := 15) j1847 (q_hf_up ((j1847).1 15) (q_s15 (q_rg_le (L := 0) (U := 1) (q_rg_nb _) (by decide) (by decide)))))
          | false =>
            refine q_S_F ?_
            have j1848 : q_Iv c d w (q_sA r146 15 (upd (r146.1 15) 2 (vp_nar .boolean 1))) := (q_Iv_A (i := 15) j1842 (q_hf_up ((j1842).1 15) (q_s15 (q_rg_le (L := 0) (U := 1) (q_rg_nb _) (by decide) (by decide)))))
            refine q_S_L ?_
            generalize (q_sA r146 15 (upd (r146.1 15) 2 (vp_nar .boolean 1))) = r152 at j1848 ⊢
            refine q_S_L ?_
            generalize p1849 : dz_M206 (q_sA r152 15 (upd (r152.1 15) 1 (vp_nar .boolean 0))) a1 7 = r153
            cases r153 with
            | true =>
              refine q_S_T ?_
              have j1850 : q_Iv c d w (q_sA r152 15 (upd (r152.1 15) 1 (vp_nar .boolean 0))) := (q_Iv_A (i := 15) j1848 (q_hf_up ((j1848).1 15) (q_s15 (q_rg_le (L := 0) (U := 1) (q_rg_nb _) (by decide) (by decide)))))
              refine q_S_L ?_
              generalize (q_sA r152 15 (upd (r152.1 15) 1 (vp_nar .boolean 0))) = r154 at j1850 ⊢
              exact q_E_x (q_Iv_A (i := 15) j1850 (q_hf_up ((j1850).1 15) (q_s15 (q_rg_le (L := 0) (U := 1) (q_rg_nb _) (by decide) (by decide)))))
            | false =>
              refine q_S_F ?_
              have j1851 : q_Iv c d w (q_sA r152 15 (upd (r152.1 15) 1 (vp_nar .boolean 0))) := (q_Iv_A (i := 15) j1848 (q_hf_up ((j1848).1 15) (q_s15 (q_rg_le (L := 0) (U := 1) (q_rg_nb _) (by decide) (by decide)))))
              refine q_S_L ?_
              generalize (q_sA r152 15 (upd (r152.1 15) 1 (vp_nar .boolean 0))) = r155 at j1851 ⊢
              exact q_E_x (q_Iv_A (i := 15) j1851 (q_hf_up ((j1851).1 15) (q_s15 (q_rg_le (L := 0) (U := 1) (q_rg_nb _) (by decide) (by decide)))))
        | false =>
          refine q_S_F ?_
          have j1852 : q_Iv c d w (q_sA r144 15 (upd (r144.1 15) 3 (vp_nar .boolean 1))) := (q_Iv_A (i := 15) j1840 (q_hf_up ((j1840).1 15) (q_s15 (q_rg_le (L := 0) (U := 1) (q_rg_nb _) (by decide) (by decide)))))
          refine q_S_L ?_
          generalize (q_sA r144 15 (upd (r144.1 15) 3 (vp_nar .boolean 1))) = r156 at j1852 ⊢
          refine q_S_L ?_
          generalize p1853 : dz_M206 (q_sA r156 15 (upd (r156.1 15) 2 (vp_nar .boolean 0))) a1 6 = r157
          cases r157 with
          | true =>
            refine q_S_T ?_
            have j1854 : q_Iv c d w (q_sA r156 15 (upd (r156.1 15) 2 (vp_nar .boolean 0))) := (q_Iv_A (i := 15) j1852 (q_hf_up ((j1852).1 15) (q_s15 (q_rg_le (L := 0) (U := 1) (q_rg_nb _) (by decide) (by decide)))))
            refine q_S_L ?_
            generalize (q_sA r156 15 (upd (r156.1 15) 2 (vp_nar .boolean 0))) = r158 at j1854 ⊢
            refine q_S_L ?_
            generalize p1855 : dz_M206 (q_sA r158 15 (upd (r158.1 15) 1 (vp_nar .boolean 1))) a1 7 = r159
            cases r159 with
            | true =>
              refine q_S_T ?_
              have j1856 : q_Iv c d w (q_sA r158 15 (upd (r158.1 15) 1 (vp_nar .boolean 1))) := (q_Iv_A (i := 15) j1854 (q_hf_up ((j1854).1 15) (q_s15 (q_rg_le (L := 0) (U := 1) (q_rg_nb _) (by decide) (by decide)))))
              refine q_S_L ?_
              generalize (q_sA r158 15 (upd (r158.1 15) 1 (vp_nar .boolean 1))) = r160 at j1856 ⊢
              exact q_E_x (q_Iv_A (i := 15) j1856 (q_hf_up ((j1856).1 15) (q_s15 (q_rg_le (L := 0) (U := 1) (q_rg_nb _) (by decide) (by decide)))))
            | false =>
              refine q_S_F ?_
              have j1857 : q_Iv c d w (q_sA r158 15 (upd (r158.1 15) 1 (vp_nar .boolean 1))) := (q_Iv_A (i := 15) j1854 (q_hf_up ((j1854).1 15) (q_s15 (q_rg_le (L := 0) (U := 1) (q_rg_nb _) (by decide) (by decide)))))
              refine q_S_L ?_
              generalize (q_sA r158 15 (upd (r158.1 15) 1 (vp_nar .boolean 1))) = r161 at j1857 ⊢
              exact q_E_x (q_Iv_A (i := 15) j1857 (q_hf_up ((j1857).1 15) (q_s15 (q_rg_le (L := 0) (U := 1) (q_rg_nb _) (by decide) (by decide)))))
          | false =>
            refine q_S_F ?_
            have j1858 : q_Iv c d w (q_sA r156 15 (upd (r156.1 15) 2 (vp_nar .boolean 0))) := (q_Iv_A (i := 15) j1852 (q_hf_up ((j1852).1 15) (q_s15 (q_rg_le (L := 0) (U := 1) (q_rg_nb _) (by decide) (by decide)))))
            refine q_S_L ?_
            generalize (q_sA r156 15 (upd (r156.1 15) 2 (vp_nar .boolean 0))) = r162 at j1858 ⊢
            refine q_S_L ?_
            generalize p1859 : dz_M206 (q_sA r162 15 (upd (r162.1 15) 1 (vp_nar .boolean 0))) a1 7 = r163
            cases r163 with
            | true =>
              refine q_S_T ?_
              have j1860 : q_Iv c d w (q_sA r162 15 (upd (r162.1 15) 1 (vp_nar .boolean 0))) := (q_Iv_A (i := 15) j1858 (q_hf_up ((j1858).1 15) (q_s15 (q_rg_le (L := 0) (U := 1) (q_rg_nb _) (by decide) (by decide)))))
              refine q_S_L ?_
              generalize (q_sA r162 15 (upd (r162.1 15) 1 (vp_nar .boolean 0))) = r164 at j1860 ⊢
              exact q_E_x (q_Iv_A (i := 15) j1860 (q_hf_up ((j1860).1 15) (q_s15 (q_rg_le (L := 0) (U := 1) (q_rg_nb _) (by decide) (by decide)))))
            | false =>
              refine q_S_F ?_
              have j1861 : q_Iv c d w (q_sA r162 15 (upd (r162.1 15) 1 (vp_nar .boolean 0))) := (q_Iv_A (i := 15) j1858 (q_hf_up ((j1858).1 15) (q_s15 (q_rg_le (L := 0) (U := 1) (q_rg_nb _) (by decide) (by decide)))))
              refine q_S_L ?_
              generalize (q_sA r162 15 (upd (r162.1 15) 1 (vp_nar .boolean 0))) = r165 at j1861 ⊢
              exact q_E_x (q_Iv_A (i := 15) j1861 (q_hf_up ((j1861).1 15) (q_s15 (q_rg_le (L := 0) (U := 1) (q_rg_nb _) (by decide) (by decide)))))
      | false =>
        refine q_S_F ?_
        have j1862 : q_Iv c d w (q_sA r142 15 (upd (r142.1 15) 4 (vp_nar .boolean 0))) := (q_Iv_A (i := 15) j1838 (q_hf_up ((j1838).1 15) (q_s15 (q_rg_le (L := 0) (U := 1) (q_rg_nb _) (by decide) (by decide)))))
        refine q_S_L ?_
        generalize (q_sA r142 15 (upd (r142.1 15) 4 (vp_nar .boolean 0))) = r166 at j1862 ⊢
        refine q_S_L ?_
        generalize p1863 : dz_M206 (q_sA r166 15 (upd (r166.1 15) 3 (vp_nar .boolean 0))) a1 3 = r167
        cases r167 with
        | true =>
          refine q_S_T ?_
          have j1864 : q_Iv c d w (q_sA r166 15 (upd (r166.1 15) 3 (vp_nar .boolean 0))) := (q_Iv_A (i := 15) j1862 (q_hf_up ((j1862).1 15) (q_s15 (q_rg_le (L := 0) (U := 1) (q_rg_nb _) (by decide) (by decide)))))
          refine q_S_L ?_
          generalize (q_sA r166 15 (upd (r166.1 15) 3 (vp_nar .boolean 0))) = r168 at j1864 ⊢
          refine q_S_L ?_
          generalize p1865 : dz_M206 (q_sA r168 15 (upd (r168.1 15) 2 (vp_nar .boolean 1))) a1 6 = r169
          cases r169 with
          | true =>
            refine q_S_T ?_
            have j1866 : q_Iv c d w (q_sA r168 15 (upd (r168.1 15) 2 (vp_nar .boolean 1))) := (q_Iv_A (i := 15) j1864 (q_hf_up ((j1864).1 15) (q_s15 (q_rg_le (L := 0) (U := 1) (q_rg_nb _) (by decide) (by decide)))))
            refine q_S_L ?_
            generalize (q_sA r168 15 (upd (r168.1 15) 2 (vp_nar .boolean 1))) = r170 at j1866 ⊢
            refine q_S_L ?_
            generalize p1867 : dz_M206 (q_sA r170 15 (upd (r170.1 15) 1 (vp_nar .boolean 1))) a1 7 = r171
            cases r171 with
            | true =>
              refine q_S_T ?_
              have j1868 : q_Iv c d w (q_sA r170 15 (upd (r170.1 15) 1 (vp_nar .boolean 1))) := (q_Iv_A (i := 15) j1866 (q_hf_up ((j1866).1 15) (q_s15 (q_rg_le (L := 0) (U := 1) (q_rg_nb _) (by decide) (by decide)))))
              refine q_S_L ?_
              generalize (q_sA r170 15 (upd (r170.1 15) 1 (vp_nar .boolean 1))) = r172 at j1868 ⊢
              exact q_E_x (q_Iv_A (i := 15) j1868 (q_hf_up ((j1868).1 15) (q_s15 (q_rg_le (L := 0) (U := 1) (q_rg_nb _) (by decide) (by decide)))))
            | false =>
              refine q_S_F ?_
              have j1869 : q_Iv c d w (q_sA r170 15 (upd (r170.1 15) 1 (vp_nar .boolean 1))) := (q_Iv_A (i := 15) j1866 (q_hf_up ((j1866).1 15) (q_s15 (q_rg_le (L := 0) (U := 1) (q_rg_nb _) (by decide) (by decide)))))
              refine q_S_L ?_
              generalize (q_sA r170 15 (upd (r170.1 15) 1 (vp_nar .boolean 1))) = r173 at j1869 ⊢
              exact q_E_x (q_Iv_A (i := 15) j1869 (q_hf_up ((j1869).1 15) (q_s15 (q_rg_le (L := 0) (U := 1) (q_rg_nb _) (by decide) (by decide)))))
          | false =>
            refine q_S_F ?_
            have j1870 : q_Iv c d w (q_sA r168 15 (upd (r168.1 15) 2 (vp_nar .boolean 1))) := (q_Iv_A (i := 15) j1864 (q_hf_up ((j1864).1 15) (q_s15 (q_rg_le (L := 0) (U := 1) (q_rg_nb _) (by decide) (by decide)))))
            refine q_S_L ?_
            generalize (q_sA r168 15 (upd (r168.1 15) 2 (vp_nar .boolean 1))) = r174 at j1870 ⊢
            refine q_S_L ?_
            generalize p1871 : dz_M206 (q_sA r174 15 (upd (r174.1 15) 1 (vp_nar .boolean 0))) a1 7 = r175
            cases r175 with
            | true =>
              refine q_S_T ?_
              have j1872 : q_Iv c d w (q_sA r174 15 (upd (r174.1 15) 1 (vp_nar .boolean 0))) := (q_Iv_A (i := 15) j1870 (q_hf_up ((j1870).1 15) (q_s15 (q_rg_le (L := 0) (U := 1) (q_rg_nb _) (by decide) (by decide)))))
              refine q_S_L ?_
              generalize (q_sA r174 15 (upd (r174.1 15) 1 (vp_nar .boolean 0))) = r176 at j1872 ⊢
              exact q_E_x (q_Iv_A (i := 15) j1872 (q_hf_up ((j1872).1 15) (q_s15 (q_rg_le (L := 0) (U := 1) (q_rg_nb _) (by decide) (by decide)))))
            | false =>
              refine q_S_F ?_
              have j1873 : q_Iv c d w (q_sA r174 15 (upd (r174.1 15) 1 (vp_nar .boolean 0))) := (q_Iv_A (i := 15) j1870 (q_hf_up ((j1870).1 15) (q_s15 (q_rg_le (L := 0) (U := 1) (q_rg_nb _) (by decide) (by decide)))))
              refine q_S_L ?_
              generalize (q_sA r174 15 (upd (r174.1 15) 1 (vp_nar .boolean 0))) = r177 at j1873 ⊢
              exact q_E_x (q_Iv_A (i := 15) j1873 (q_hf_up ((j1873).1 15) (q_s15 (q_rg_le (L := 0) (U := 1) (q_rg_nb _) (by decide) (by decide)))))
        | false =>
          refine q_S_F ?_
          have j1874 : q_Iv c d w (q_sA r166 15 (upd (r166.1 15) 3 (vp_nar .boolean 0))) := (q_Iv_A (i := 15) j1862 (q_hf_up ((j1862).1 15) (q_s15 (q_rg_le (L := 0) (U := 1) (q_rg_nb _) (by decide) (by decide)))))
          refine q_S_L ?_
          generalize (q_sA r166 15 (upd (r166.1 15) 3 (vp_nar .boolean 0))) = r178 at j1874 ⊢
          refine q_S_L ?_
          generalize p1875 : dz_M206 (q_sA r178 15 (upd (r178.1 15) 2 (vp_nar .boolean 0))) a1 6 = r179
          cases r179 with
          | true =>
            refine q_S_T ?_
            have j1876 : q_Iv c d w (q_sA r178 15 (upd (r178.1 15) 2 (vp_nar .boolean 0))) := (q_Iv_A (i := 15) j1874 (q_hf_up ((j1874).1 15) (q_s15 (q_rg_le (L := 0) (U := 1) (q_rg_nb _) (by decide) (by decide)))))
            refine q_S_L ?_
            generalize (q_sA r178 15 (upd (r178.1 15) 2 (vp_nar .boolean 0))) = r180 at j1876 ⊢
            refine q_S_L ?_
            generalize p1877 : dz_M206 (q_sA r180 15 (upd (r180.1 15) 1 (vp_nar .boolean 1))) a1 7 = r181
            cases r181 with
            | true =>
              refine q_S_T ?_
              have j1878 : q_Iv c d w (q_sA r180 15 (upd (r180.1 15) 1 (vp_nar .boolean 1))) := (q_Iv_A (i := 15) j1876 (q_hf_up ((j1876).1 15) (q_s15 (q_rg_le (L := 0) (U := 1) (q_rg_nb _) (by decide) (by decide)))))
              refine q_S_L ?_
              generalize (q_sA r180 15 (upd (r180.1 15) 1 (vp_nar .boolean 1))) = r182 at j1878 ⊢
              exact q_E_x (q_Iv_A (i := 15) j1878 (q_hf_up ((j1878).1 15) (q_s15 (q_rg_le (L := 0) (U := 1) (q_rg_nb _) (by decide) (by decide)))))
            | false =>
              refine q_S_F ?_
              have j1879 : q_Iv c d w (q_sA r180 15 (upd (r180.1 15) 1 (vp_nar .boolean 1))) := (q_Iv_A (i := 15) j1876 (q_hf_up ((j1876).1 15) (q_s15 (q_rg_le (L := 0) (U := 1) (q_rg_nb _) (by decide) (by decide)))))
              refine q_S_L ?_
              generalize (q_sA r180 15 (upd (r180.1 15) 1 (vp_nar .boolean 1))) = r183 at j1879 ⊢
              exact q_E_x (q_Iv_A (i := 15) j1879 (q_hf_up ((j1879).1 15) (q_s15 (q_rg_le (L := 0) (U := 1) (q_rg_nb _) (by decide) (by decide)))))
          | false =>
            refine q_S_F ?_
            have j1880 : q_Iv c d w (q_sA r178 15 (upd (r178.1 15) 2 (vp_nar .boolean 0))) := (q_Iv_A (i := 15) j1874 (q_hf_up ((j1874).1 15) (q_s15 (q_rg_le (L := 0) (U := 1) (q_rg_nb _) (by decide) (by decide)))))
            refine q_S_L ?_
            generalize (q_sA r178 15 (upd (r178.1 15) 2 (vp_nar .boolean 0))) = r184 at j1880 ⊢
            refine q_S_L ?_
            generalize p1881 : dz_M206 (q_sA r184 15 (upd (r184.1 15) 1 (vp_nar .boolean 0))) a1 7 = r185
            cases r185 with
            | true =>
              refine q_S_T ?_
              have j1882 : q_Iv c d w (q_sA r184 15 (upd (r184.1 15) 1 (vp_nar .boolean 0))) := (q_Iv_A (i := 15) j1880 (q_hf_up ((j1880).1 15) (q_s15 (q_rg_le (L := 0) (U := 1) (q_rg_nb _) (by decide) (by decide)))))
              refine q_S_L ?_
              generalize (q_sA r184 15 (upd (r184.1 15) 1 (vp_nar .boolean 0))) = r186 at j1882 ⊢
              exact q_E_x (q_Iv_A (i := 15) j1882 (q_hf_up ((j1882).1 15) (q_s15 (q_rg_le (L := 0) (U := 1) (q_rg_nb _) (by decide) (by decide)))))
            | false =>
              refine q_S_F ?_
              have j1883 : q_Iv c d w (q_sA r184 15 (upd (r184.1 15) 1 (vp_nar .boolean 0))) := (q_Iv_A (i := 15) j1880 (q_hf_up ((j1880).1 15) (q_s15 (q_rg_le (L := 0) (U := 1) (q_rg_nb _) (by decide) (by decide)))))
              refine q_S_L ?_
              generalize (q_sA r184 15 (upd (r184.1 15) 1 (vp_nar .boolean 0))) = r187 at j1883 ⊢
              exact q_E_x (q_Iv_A (i := 15) j1883 (q_hf_up ((j1883).1 15) (q_s15 (q_rg_le (L := 0) (U := 1) (q_rg_nb _) (by decide) (by decide)))))
set_option maxHeartbeats 4000000 in
theorem dzj_M274_64 (c d w : Int) (s : q_S) (hI : q_Iv c d w s) (a1 : Int32) : q_Ex (dz_M274_64 s a1) (fun (x : q_S × Int32) => q_Iv c d w x.1 ∧ q_rgz 0 4095 x.2) := by
  unfold dz_M274_64
  obtain ⟨r2, e1890, j1889⟩ := dzj_M256_64 c d w (s) hI
  rw [e1890]
  refine q_E_B ?_
  obtain ⟨r3, e1892, j1891⟩ := dzj_M256_64 c d w (r2.1) j1889.1
  rw [e1892]
  refine q_E_B ?_
  have j1893 := dzj_M213 c d w (r3.1) j1891.1 ((r2.2 + (256 * r3.2)) + a1)
  refine q_E_L ?_
  generalize dz_M213 r3.1 ((r2.2 + (256 * r3.2)) + a1) = r4 at j1893 ⊢
  exact q_E_x ⟨j1891.1, q_rg_le j1893 (by decide) (by decide)⟩
set_option maxHeartbeats 4000000 in
theorem dzj_M275_64_43 (c d w : Int) (s : q_S) (hI : q_Iv c d w s) (v1 : Int32) (v3 : Int32) (rv3 : q_rgz 0 4095 v3) : q_Ex (dz_M275_64_43 s v1 v3) (q_Iv c d w) := by
  unfold dz_M275_64_43
  cases h1919 : decide (v1 = 159) with
  | true =>
    have g1920 := q_rg_eqT h1919 (q_rg_lit (n := 159) (x := 159) rfl)
    refine q_E_T ?_
    obtain ⟨r6, e1922, j1921⟩ := dzj_M247_64 c d w (s) hI (v3)
    rw [e1922]
    refine q_E_B ?_
    obtain ⟨r7, e1924, j1923⟩ := dzj_M247_64 c d w (r6.1) j1921.1 (((v3 / 256) * 256) + ((v3 + 1) - (v3 + 1) / 256 * 256))
    rw [e1924]
    refine q_E_B ?_
    have j1925 := dzj_M213 c d w (r7.1) j1923.1 (r6.2 + (256 * r7.2))
    refine q_E_L ?_
    generalize dz_M213 r7.1 (r6.2 + (256 * r7.2)) = r8 at j1925 ⊢
    exact q_E_x (q_Iv_A (i := 14) j1923.1 (q_hf_up ((j1923.1).1 14) (q_sn4 (q_rg_le (L := 0) (U := 4095) j1925 (by decide) (by decide)))))
  | false =>
    refine q_E_F ?_
    exact q_E_x (q_Iv_A (i := 14) hI (q_hf_up ((hI).1 14) (q_sn4 (q_rg_le (L := 0) (U := 4095) rv3 (by decide) (by decide)))))
set_option maxHeartbeats 4000000 in
theorem dzj_M275_64 (c d w : Int) (s : q_S) (hI : q_Iv c d w s) (a1 : Int32) (a2 : Int32) : q_Ex (dz_M275_64 s a1 a2) (q_Iv c d w) := by
  unfold dz_M275_64
  obtain ⟨r2, e1927, j1926⟩ := dzj_M248_64 c d w (s) hI (a2 + 1)
  rw [e1927]
  refine q_E_B ?_
  cases h1928 : decide (a1 = 158) with
  | true =>
    have g1929 := q_rg_eqT h1928 (q_rg_lit (n := 158) (x := 158) rfl)
    refine q_E_T ?_
    have j1930 := dzj_M213 c d w (r2.1) j1926.1 (a2 + 2)
    refine q_E_L ?_
    generalize dz_M213 r2.1 (a2 + 2) = r3 at j1930 ⊢
    obtain ⟨r4, e1932, j1931⟩ := dzj_M255_64 c d w (r2.1) j1926.1 (r3 / 256) (q_rg_le (L := 0) (U := 255) (q_rg_div (c := 256) (U := 15) j1930 (by decide) rfl (by decide) (by decide)) (by decide) (by decide))
    rw [e1932]
    refine q_E_B ?_
    obtain ⟨r5, e1934, j1933⟩ := dzj_M255_64 c d w (r4) j1931 (r3 - r3 / 256 * 256) (q_rg_le (L := 0) (U := 255) (q_rg_rem (c := 256) (U := 255) j1930 (by decide) rfl (by decide) (by decide)) (by decide) (by decide))
    rw [e1934]
    refine q_E_B ?_
    exact dzj_M275_64_43 c d w (r5) j1933 (a1) (r2.2) (q_rg_le (L := 0) (U := 4095) j1926.2 (by decide) (by decide))
  | false =>
    refine q_E_F ?_
    exact dzj_M275_64_43 c d w (r2.1) j1926.1 (a1) (r2.2) (q_rg_le (L := 0) (U := 4095) j1926.2 (by decide) (by decide))
set_option maxHeartbeats 4000000 in
theorem dzj_M261_64 (c d w : Int) (s : q_S) (hI : q_Iv c d w s) (a1 : Int32) (ra1 : q_rgz 0 255 a1) : (fun (x : q_S × Int32) => q_Iv c d w x.1 ∧ q_rgz 0 255 x.2) (dz_M261_64 s a1) := by
  refine q_S_of (P := (fun (x : q_S × Int32) => q_Iv c d w x.1 ∧ q_rgz 0 255 x.2)) ?_
  unfold dz_M261_64
  cases h1945 : decide (a1 = 0) with
  | true =>
    have g1946 := q_rg_eqT h1945 (q_rg_lit (n := 0) (x := 0) rfl)
    refine q_S_T ?_
    cases h1947 : decide (127 < a1) with
    | true =>
      exact (q_rg_no (q_rg_ltT1 (l := 127) (U := -1) h1947 (q_rg_lit (n := 127) (x := 127) rfl) g1946 (by decide)) (by decide)).elim
    | false =>
      refine q_S_F ?_
      have j1948 : q_Iv c d w (q_sA s 15 (upd (s.1 15) 4 (vp_nar .boolean 1))) := (q_Iv_A (i := 15) hI (q_hf_up ((hI).1 15) (q_s15 (q_rg_le (L := 0) (U := 1) (q_rg_nb _) (by decide) (by decide)))))
      refine q_S_L ?_
      generalize (q_sA s 15 (upd (s.1 15) 4 (vp_nar .boolean 1))) = r2 at j1948 ⊢
      exact q_E_x ⟨(q_Iv_A (i := 15) j1948 (q_hf_up ((j1948).1 15) (q_s15 (q_rg_le (L := 0) (U := 1) (q_rg_nb _) (by decide) (by decide))))), q_rg_le g1946 (by decide) (by decide)⟩
  | false =>
    have g1949 := (q_rg_neL (l := 0) (u := 255) (n := 0) (L := 1) h1945 ra1 rfl (by decide) (by decide))
    refine q_S_F ?_
    cases h1950 : decide (127 < a1) with
    | true =>
      have g1951 := (q_rg_ltT2 (L := 128) (u2 := 255) h1950 (q_rg_lit (n := 127) (x := 127) rfl) g1949 (by decide))
      refine q_S_T ?_
      have j1952 : q_Iv c d w (q_sA s 15 (upd (s.1 15) 4 (vp_nar .boolean 0))) := (q_Iv_A (i := 15) hI (q_hf_up ((hI).1 15) (q_s15 (q_rg_le (L := 0) (U := 1) (q_rg_nb _) (by decide) (by decide)))))
      refine q_S_L ?_
      generalize (q_sA s 15 (upd (s.1 15) 4 (vp_nar .boolean 0))) = r3 at j1952 ⊢
      exact q_E_x ⟨(q_Iv_A (i := 15) j1952 (q_hf_up ((j1952).1 15) (q_s15 (q_rg_le (L := 0) (U := 1) (q_rg_nb _) (by decide) (by decide))))), q_rg_le g1951 (by decide) (by decide)⟩
    | false =>
      have g1953 := (q_rg_ltF2 (l2 := 1) (u := 127) h1950 (q_rg_lit (n := 127) (x := 127) rfl) g1949)
      refine q_S_F ?_
      have j1954 : q_Iv c d w (q_sA s 15 (upd (s.1 15) 4 (vp_nar .boolean 0))) := (q_Iv_A (i := 15) hI (q_hf_up ((hI).1 15) (q_s15 (q_rg_le (L := 0) (U := 1) (q_rg_nb _) (by decide) (by decide)))))
      refine q_S_L ?_
      generalize (q_sA s 15 (upd (s.1 15) 4 (vp_nar .boolean 0))) = r4 at j1954 ⊢
      exact q_E_x ⟨(q_Iv_A (i := 15) j1954 (q_hf_up ((j1954).1 15) (q_s15 (q_rg_le (L := 0) (U := 1) (q_rg_nb _) (by decide) (by decide))))), q_rg_le g1953 (by decide) (by decide)⟩
set_option maxHeartbeats 4000000 in
theorem dzj_M262_64 (c d w : Int) (s : q_S) (hI : q_Iv c d w s) (a1 : Int32) (a2 : Int32) (ra1 : q_rgz 0 2 a1) (ra2 : q_rgz 0 255 a2) : q_Ex (dz_M262_64 s a1 a2) (q_Iv c d w) := by
  unfold dz_M262_64
  have j1956 := dzj_M261_64 c d w (s) hI (a2) (q_rg_le (L := 0) (U := 255) ra2 (by decide) (by decide))
  refine q_E_L ?_
  generalize dz_M261_64 s a2 = r2 at j1956 ⊢
  refine q_E_A (q_in_rg ra1 (by decide) (by decide)) ?_
  exact q_E_x (q_Iv_A (i := 14) j1956.1 (q_hf_up ((j1956.1).1 14) (q_stv (i := 14) (a := 0) (n := 3) (L := 0) (U := 255) j1956.1 (q_rg_le ra1 (by decide) (by decide)) (by decide) j1956.2)))
set_option maxHeartbeats 4000000 in
theorem dzj_M272_64 (c d w : Int) (s : q_S) (hI : q_Iv c d w s) (a1 : Int32) : q_Ex (dz_M272_64 s a1) (q_Iv c d w) := by
  unfold dz_M272_64
  obtain ⟨r2, e2020, j2019⟩ := dzj_M257_64 c d w 1 (s) hI (5) (1)  (q_rg_le (L := 0) (U := 7) (q_rg_lit (n := 5) (x := 5) rfl) (by decide) (by decide)) (q_rg_le (L := 0) (U := 1) (q_rg_lit (n := 1) (x := 1) rfl) (by decide) (by decide))
  rw [e2020]
  refine q_E_B ?_
  cases h2021 : decide (a1 - a1 / 2 * 2 = 0) with
  | true =>
    have g2022 := q_rg_eqT h2021 (q_rg_lit (n := 0) (x := 0) rfl)
    refine q_E_T ?_
    refine q_E_L ?_
    generalize p2023 : dz_M206 s ((s.1 14) 0) 7 = r3
    cases r3 with
    | true =>
      refine q_E_T ?_
      cases h2024 : decide (a1 = 150) with
      | true =>
        have g2025 := q_rg_eqT h2024 (q_rg_lit (n := 150) (x := 150) rfl)
        refine q_E_T ?_
        obtain ⟨r4, e2027, j2026⟩ := dzj_M262_64 c d w (q_sA s 15 (upd (s.1 15) 5 (vp_nar .boolean 1))) (q_Iv_A (i := 15) hI (q_hf_up ((hI).1 15) (q_s15 (q_rg_le (L := 0) (U := 1) (q_rg_nb _) (by decide) (by decide))))) (0) ((((s.1 14) 0) * 2) &&& 255) (q_rg_le (L := 0) (U := 2) (q_rg_lit (n := 0) (x := 0) rfl) (by decide) (by decide)) (q_rg_le (L := 0) (U := 255) (q_rg_and (((s.1 14) 0) * 2) 255 (U := 255) (by decide) rfl) (by decide) (by decide))
        rw [e2027]
        refine q_E_B ?_
        exact q_E_x j2026
      | false =>
        refine q_E_F ?_
        cases h2028 : decide (a1 = 151) with
        | true =>
          have g2029 := q_rg_eqT h2028 (q_rg_lit (n := 151) (x := 151) rfl)
          refine q_E_T ?_
          obtain ⟨r5, e2031, j2030⟩ := dzj_M262_64 c d w (q_sA s 15 (upd (s.1 15) 5 (vp_nar .boolean 1))) (q_Iv_A (i := 15) hI (q_hf_up ((hI).1 15) (q_s15 (q_rg_le (L := 0) (U := 1) (q_rg_nb _) (by decide) (by decide))))) (0) (((s.1 14) 0) / 2) (q_rg_le (L := 0) (U := 2) (q_rg_lit (n := 0) (x := 0) rfl) (by decide) (by decide)) (q_rg_le (L := 0) (U := 255) (q_rg_div (c := 2) (U := 127) (q_n0z hI) (by decide) rfl (by decide) (by decide)) (by decide) (by decide))
          rw [e2031]
          refine q_E_B ?_
          exact q_E_x j2030
        | false =>
          refine q_E_F ?_
          cases h2032 : decide (a1 = 152) with
          | true =>
            have g2033 := q_rg_eqT h2032 (q_rg_lit (n := 152) (x := 152) rfl)
            refine q_E_T ?_
            obtain ⟨r6, e2035, j2034⟩ := dzj_M262_64 c d w (q_sA s 15 (upd (s.1 15) 5 (vp_nar .boolean 1))) (q_Iv_A (i := 15) hI (q_hf_up ((hI).1 15) (q_s15 (q_rg_le (L := 0) (U := 1) (q_rg_nb _) (by decide) (by decide))))) (0) (((((s.1 14) 0) * 2) + r2) &&& 255) (q_rg_le (L := 0) (U := 2) (q_rg_lit (n := 0) (x := 0) rfl) (by decide) (by decide)) (q_rg_le (L := 0) (U := 255) (q_rg_and ((((s.1 14) 0) * 2) + r2) 255 (U := 255) (by decide) rfl) (by decide) (by decide))
            rw [e2035]
            refine q_E_B ?_
            exact q_E_x j2034
          | false =>
            refine q_E_F ?_
            obtain ⟨r7, e2037, j2036⟩ := dzj_M262_64 c d w (q_sA s 15 (upd (s.1 15) 5 (vp_nar .boolean 1))) (q_Iv_A (i := 15) hI (q_hf_up ((hI).1 15) (q_s15 (q_rg_le (L := 0) (U := 1) (q_rg_nb _) (by decide) (by decide))))) (0) ((((s.1 14) 0) / 2) + (128 * r2)) (q_rg_le (L := 0) (U := 2) (q_rg_lit (n := 0) (x := 0) rfl) (by decide) (by decide)) (q_rg_le (L := 0) (U := 255) (q_rg_add (L := 0) (U := 255) (q_rg_div (c := 2) (U := 127) (q_n0z hI) (by decide) rfl (by decide) (by decide)) (q_rg_mul (L := 0) (U := 128) (q_rg_lit (n := 128) (x := 128) rfl) j2019 (by decide) (by decide) (by decide) (by decide) (by decide) (by decide)) (by decide) (by decide) (by decide) (by decide)) (by decide) (by decide))
            rw [e2037]
            refine q_E_B ?_
            exact q_E_x j2036
    | false =>
      refine q_E_F ?_
      cases h2038 : decide (a1 = 150) with
      | true =>
        have g2039 := q_rg_eqT h2038 (q_rg_lit (n := 150) (x := 150) rfl)
        refine q_E_T ?_
        obtain ⟨r8, e2041, j2040⟩ := dzj_M262_64 c d w (q_sA s 15 (upd (s.1 15) 5 (vp_nar .boolean 0))) (q_Iv_A (i := 15) hI (q_hf_up ((hI).1 15) (q_s15 (q_rg_le (L := 0) (U := 1) (q_rg_nb _) (by decide) (by decide))))) (0) ((((s.1 14) 0) * 2) &&& 255) (q_rg_le (L := 0) (U := 2) (q_rg_lit (n := 0) (x := 0) rfl) (by decide) (by decide)) (q_rg_le (L := 0) (U := 255) (q_rg_and (((s.1 14) 0) * 2) 255 (U := 255) (by decide) rfl) (by decide) (by decide))
        rw [e2041]
        refine q_E_B ?_
        exact q_E_x j2040
      | false =>
        refine q_E_F ?_
        cases h2042 : decide (a1 = 151) with
        | true =>
          have g2043 := q_rg_eqT h2042 (q_rg_lit (n := 151) (x := 151) rfl)
          refine q_E_T ?_
          obtain ⟨r9, e2045, j2044⟩ := dzj_M262_64 c d w (q_sA s 15 (upd (s.1 15) 5 (vp_nar .boolean 0))) (q_Iv_A (i := 15) hI (q_hf_up ((hI).1 15) (q_s15 (q_rg_le (L := 0) (U := 1) (q_rg_nb _) (by decide) (by decide))))) (0) (((s.1 14) 0) / 2) (q_rg_le (L := 0) (U := 2) (q_rg_lit (n := 0) (x := 0) rfl) (by decide) (by decide)) (q_rg_le (L := 0) (U := 255) (q_rg_div (c := 2) (U := 127) (q_n0z hI) (by decide) rfl (by decide) (by decide)) (by decide) (by decide))
          rw [e2045]
          refine q_E_B ?_
          exact q_E_x j2044
        | false =>
          refine q_E_F ?_
          cases h2046 : decide (a1 = 152) with
          | true =>
            have g2047 := q_rg_eqT h2046 (q_rg_lit (n := 152) (x := 152) rfl)
            refine q_E_T ?_
            obtain ⟨r10, e2049, j2048⟩ := dzj_M262_64 c d w (q_sA s 15 (upd (s.1 15) 5 (vp_nar .boolean 0))) (q_Iv_A (i := 15) hI (q_hf_up ((hI).1 15) (q_s15 (q_rg_le (L := 0) (U := 1) (q_rg_nb _) (by decide) (by decide))))) (0) (((((s.1 14) 0) * 2) + r2) &&& 255) (q_rg_le (L := 0) (U := 2) (q_rg_lit (n := 0) (x := 0) rfl) (by decide) (by decide)) (q_rg_le (L := 0) (U := 255) (q_rg_and ((((s.1 14) 0) * 2) + r2) 255 (U := 255) (by decide) rfl) (by decide) (by decide))
            rw [e2049]
            refine q_E_B ?_
            exact q_E_x j2048
          | false =>
            refine q_E_F ?_
            obtain ⟨r11, e2051, j2050⟩ := dzj_M262_64 c d w (q_sA s 15 (upd (s.1 15) 5 (vp_nar .boolean 0))) (q_Iv_A (i := 15) hI (q_hf_up ((hI).1 15) (q_s15 (q_rg_le (L := 0) (U := 1) (q_rg_nb _) (by decide) (by decide))))) (0) ((((s.1 14) 0) / 2) + (128 * r2)) (q_rg_le (L := 0) (U := 2) (q_rg_lit (n := 0) (x := 0) rfl) (by decide) (by decide)) (q_rg_le (L := 0) (U := 255) (q_rg_add (L := 0) (U := 255) (q_rg_div (c := 2) (U := 127) (q_n0z hI) (by decide) rfl (by decide) (by decide)) (q_rg_mul (L := 0) (U := 128) (q_rg_lit (n := 128) (x := 128) rfl) j2019 (by decide) (by decide) (by decide) (by decide) (by decide) (by decide)) (by decide) (by decide) (by decide) (by decide)) (by decide) (by decide))
            rw [e2051]
            refine q_E_B ?_
            exact q_E_x j2050
  | false =>
    refine q_E_F ?_
    refine q_E_L ?_
    generalize p2052 : dz_M206 s ((s.1 14) 0) 0 = r12
    cases r12 with
    | true =>
      refine q_E_T ?_
      cases h2053 : decide (a1 = 150) with
      | true =>
        have g2054 := q_rg_eqT h2053 (q_rg_lit (n := 150) (x := 150) rfl)
        refine q_E_T ?_
        obtain ⟨r13, e2056, j2055⟩ := dzj_M262_64 c d w (q_sA s 15 (upd (s.1 15) 5 (vp_nar .boolean 1))) (q_Iv_A (i := 15) hI (q_hf_up ((hI).1 15) (q_s15 (q_rg_le (L := 0) (U := 1) (q_rg_nb _) (by decide) (by decide))))) (0) ((((s.1 14) 0) * 2) &&& 255) (q_rg_le (L := 0) (U := 2) (q_rg_lit (n := 0) (x := 0) rfl) (by decide) (by decide)) (q_rg_le (L := 0) (U := 255) (q_rg_and (((s.1 14) 0) * 2) 255 (U := 255) (by decide) rfl) (by decide) (by decide))
        rw [e2056]
        refine q_E_B ?_
        exact q_E_x j2055
      | false =>
        refine q_E_F ?_
        cases h2057 : decide (a1 = 151) with
        | true =>
          have g2058 := q_rg_eqT h2057 (q_rg_lit (n := 151) (x := 151) rfl)
          refine q_E_T ?_
          obtain ⟨r14, e2060, j2059⟩ := dzj_M262_64 c d w (q_sA s 15 (upd (s.1 15) 5 (vp_nar .boolean 1))) (q_Iv_A (i := 15) hI (q_hf_up ((hI).1 15) (q_s15 (q_rg_le (L := 0) (U := 1) (q_rg_nb _) (by decide) (by decide))))) (0) (((s.1 14) 0) / 2) (q_rg_le (L := 0) (U := 2) (q_rg_lit (n := 0) (x := 0) rfl) (by decide) (by decide)) (q_rg_le (L := 0) (U := 255) (q_rg_div (c := 2) (U := 127) (q_n0z hI) (by decide) rfl (by decide) (by decide)) (by decide) (by decide))
          rw [e2060]
          refine q_E_B ?_
          exact q_E_x j2059
        | false =>
          refine q_E_F ?_
          cases h2061 : decide (a1 = 152) with
          | true =>
            have g2062 := q_rg_eqT h2061 (q_rg_lit (n := 152) (x := 152) rfl)
            refine q_E_T ?_
            obtain ⟨r15, e2064, j2063⟩ := dzj_M262_64 c d w (q_sA s 15 (upd (s.1 15) 5 (vp_nar .boolean 1))) (q_Iv_A (i := 15) hI (q_hf_up ((hI).1 15) (q_s15 (q_rg_le (L := 0) (U := 1) (q_rg_nb _) (by decide) (by decide))))) (0) (((((s.1 14) 0) * 2) + r2) &&& 255) (q_rg_le (L := 0) (U := 2) (q_rg_lit (n := 0) (x := 0) rfl) (by decide) (by decide)) (q_rg_le (L := 0) (U := 255) (q_rg_and ((((s.1 14) 0) * 2) + r2) 255 (U := 255) (by decide) rfl) (by decide) (by decide))
            rw [e2064]
            refine q_E_B ?_
            exact q_E_x j2063
          | false =>
            refine q_E_F ?_
            obtain ⟨r16, e2066, j2065⟩ := dzj_M262_64 c d w (q_sA s 15 (upd (s.1 15) 5 (vp_nar .boolean 1))) (q_Iv_A (i := 15) hI (q_hf_up ((hI).1 15) (q_s15 (q_rg_le (L := 0) (U := 1) (q_rg_nb _) (by decide) (by decide))))) (0) ((((s.1 14) 0) / 2) + (128 * r2)) (q_rg_le (L := 0) (U := 2) (q_rg_lit (n := 0) (x := 0) rfl) (by decide) (by decide)) (q_rg_le (L := 0) (U := 255) (q_rg_add (L := 0) (U := 255) (q_rg_div (c := 2) (U := 127) (q_n0z hI) (by decide) rfl (by decide) (by decide)) (q_rg_mul (L := 0) (U := 128) (q_rg_lit (n := 128) (x := 128) rfl) j2019 (by decide) (by decide) (by decide) (by decide) (by decide) (by decide)) (by decide) (by decide) (by decide) (by decide)) (by decide) (by decide))
            rw [e2066]
            refine q_E_B ?_
            exact q_E_x j2065
    | false =>
      refine q_E_F ?_
      cases h2067 : decide (a1 = 150) with
      | true =>
        have g2068 := q_rg_eqT h2067 (q_rg_lit (n := 150) (x := 150) rfl)
        refine q_E_T ?_
        obtain ⟨r17, e2070, j2069⟩ := dzj_M262_64 c d w (q_sA s 15 (upd (s.1 15) 5 (vp_nar .boolean 0))) (q_Iv_A (i := 15) hI (q_hf_up ((hI).1 15) (q_s15 (q_rg_le (L := 0) (U := 1) (q_rg_nb _) (by decide) (by decide))))) (0) ((((s.1 14) 0) * 2) &&& 255) (q_rg_le (L := 0) (U := 2) (q_rg_lit (n := 0) (x := 0) rfl) (by decide) (by decide)) (q_rg_le (L := 0) (U := 255) (q_rg_and (((s.1 14) 0) * 2) 255 (U := 255) (by decide) rfl) (by decide) (by decide))
        rw [e2070]
        refine q_E_B ?_
        exact q_E_x j2069
      | false =>
        refine q_E_F ?_
        cases h2071 : decide (a1 = 151) with
        | true =>
          have g2072 := q_rg_eqT h2071 (q_rg_lit (n := 151) (x := 151) rfl)
          refine q_E_T ?_
          obtain ⟨r18, e2074, j2073⟩ := dzj_M262_64 c d w (q_sA s 15 (upd (s.1 15) 5 (vp_nar .boolean 0))) (q_Iv_A (i := 15) hI (q_hf_up ((hI).1 15) (q_s15 (q_rg_le (L := 0) (U := 1) (q_rg_nb _) (by decide) (by decide))))) (0) (((s.1 14) 0) / 2) (q_rg_le (L := 0) (U := 2) (q_rg_lit (n := 0) (x := 0) rfl) (by decide) (by decide)) (q_rg_le (L := 0) (U := 255) (q_rg_div (c := 2) (U := 127) (q_n0z hI) (by decide) rfl (by decide) (by decide)) (by decide) (by decide))
          rw [e2074]
          refine q_E_B ?_
          exact q_E_x j2073
        | false =>
          refine q_E_F ?_
          cases h2075 : decide (a1 = 152) with
          | true =>
            have g2076 := q_rg_eqT h2075 (q_rg_lit (n := 152) (x := 152) rfl)
            refine q_E_T ?_
            obtain ⟨r19, e2078, j2077⟩ := dzj_M262_64 c d w (q_sA s 15 (upd (s.1 15) 5 (vp_nar .boolean 0))) (q_Iv_A (i := 15) hI (q_hf_up ((hI).1 15) (q_s15 (q_rg_le (L := 0) (U := 1) (q_rg_nb _) (by decide) (by decide))))) (0) (((((s.1 14) 0) * 2) + r2) &&& 255) (q_rg_le (L := 0) (U := 2) (q_rg_lit (n := 0) (x := 0) rfl) (by decide) (by decide)) (q_rg_le (L := 0) (U := 255) (q_rg_and ((((s.1 14) 0) * 2) + r2) 255 (U := 255) (by decide) rfl) (by decide) (by decide))
            rw [e2078]
            refine q_E_B ?_
            exact q_E_x j2077
          | false =>
            refine q_E_F ?_
            obtain ⟨r20, e2080, j2079⟩ := dzj_M262_64 c d w (q_sA s 15 (upd (s.1 15) 5 (vp_nar .boolean 0))) (q_Iv_A (i := 15) hI (q_hf_up ((hI).1 15) (q_s15 (q_rg_le (L := 0) (U := 1) (q_rg_nb _) (by decide) (by decide))))) (0) ((((s.1 14) 0) / 2) + (128 * r2)) (q_rg_le (L := 0) (U := 2) (q_rg_lit (n := 0) (x := 0) rfl) (by decide) (by decide)) (q_rg_le (L := 0) (U := 255) (q_rg_add (L := 0) (U := 255) (q_rg_div (c := 2) (U := 127) (q_n0z hI) (by decide) rfl (by decide) (by decide)) (q_rg_mul (L := 0) (U := 128) (q_rg_lit (n := 128) (x := 128) rfl) j2019 (by decide) (by decide) (by decide) (by decide) (by decide) (by decide)) (by decide) (by decide) (by decide) (by decide)) (by decide) (by decide))
            rw [e2080]
            refine q_E_B ?_
            exact q_E_x j2079
set_option maxHeartbeats 4000000 in
theorem dzj_M273_64 (c d w : Int) (s : q_S) (hI : q_Iv c d w s) (a1 : Int32) (a2 : Int32) : q_Ex (dz_M273_64 s a1 a2) (q_Iv c d w) := by
  unfold dz_M273_64
  cases h2230 : decide (a1 < 128) with
  | true =>
    have g2231 := (q_rg_ltT1 (l := -2147483648) (U := 127) h2230 (q_rg_full _) (q_rg_lit (n := 128) (x := 128) rfl) (by decide))
    refine q_E_T ?_
    have j2232 := dzj_M213 c d w (q_sA s 15 (upd (s.1 15) 7 (vp_nar .boolean 1))) (q_Iv_A (i := 15) hI (q_hf_up ((hI).1 15) (q_s15 (q_rg_le (L := 0) (U := 1) (q_rg_nb _) (by decide) (by decide))))) (a2 + 1)
    refine q_E_L ?_
    generalize dz_M213 (q_sA s 15 (upd (s.1 15) 7 (vp_nar .boolean 1))) (a2 + 1) = r4 at j2232 ⊢
    exact q_E_x (q_Iv_A (i := 14) (q_Iv_A (i := 15) hI (q_hf_up ((hI).1 15) (q_s15 (q_rg_le (L := 0) (U := 1) (q_rg_nb _) (by decide) (by decide))))) (q_hf_up ((hI).1 14) (q_sn4 (q_rg_le (L := 0) (U := 4095) j2232 (by decide) (by decide)))))
  | false =>
    have g2233 := (q_rg_ltF1 (l2 := 128) (u := 2147483647) h2230 (q_rg_full _) (q_rg_lit (n := 128) (x := 128) rfl))
    refine q_E_F ?_
    cases h2234 : decide (153 < a1) with
    | true =>
      have g2235 := (q_rg_ltT2 (L := 154) (u2 := 2147483647) h2234 (q_rg_lit (n := 153) (x := 153) rfl) g2233 (by decide))
      refine q_E_T ?_
      have j2236 := dzj_M213 c d w (q_sA s 15 (upd (s.1 15) 7 (vp_nar .boolean 1))) (q_Iv_A (i := 15) hI (q_hf_up ((hI).1 15) (q_s15 (q_rg_le (L := 0) (U := 1) (q_rg_nb _) (by decide) (by decide))))) (a2 + 1)
      refine q_E_L ?_
      generalize dz_M213 (q_sA s 15 (upd (s.1 15) 7 (vp_nar .boolean 1))) (a2 + 1) = r5 at j2236 ⊢
      exact q_E_x (q_Iv_A (i := 14) (q_Iv_A (i := 15) hI (q_hf_up ((hI).1 15) (q_s15 (q_rg_le (L := 0) (U := 1) (q_rg_nb _) (by decide) (by decide))))) (q_hf_up ((hI).1 14) (q_sn4 (q_rg_le (L := 0) (U := 4095) j2236 (by decide) (by decide)))))
    | false =>
      have g2237 := (q_rg_ltF2 (l2 := 128) (u := 153) h2234 (q_rg_lit (n := 153) (x := 153) rfl) g2233)
      refine q_E_F ?_
      cases h2238 : decide (a1 = 128) with
      | true =>
        have g2239 := q_rg_eqT h2238 (q_rg_lit (n := 128) (x := 128) rfl)
        refine q_E_T ?_
        obtain ⟨r6, e2241, j2240⟩ := dzj_M262_64 c d w (s) hI (1) ((((s.1 14) 1) + 1) &&& 255) (q_rg_le (L := 0) (U := 2) (q_rg_lit (n := 1) (x := 1) rfl) (by decide) (by decide)) (q_rg_le (L := 0) (U := 255) (q_rg_and (((s.1 14) 1) + 1) 255 (U := 255) (by decide) rfl) (by decide) (by decide))
        rw [e2241]
        refine q_E_B ?_
        have j2242 := dzj_M213 c d w (r6) j2240 (a2 + 1)
        refine q_E_L ?_
        generalize dz_M213 r6 (a2 + 1) = r7 at j2242 ⊢
        exact q_E_x (q_Iv_A (i := 14) j2240 (q_hf_up ((j2240).1 14) (q_sn4 (q_rg_le (L := 0) (U := 4095) j2242 (by decide) (by decide)))))
      | false =>
        have g2243 := (q_rg_neL (l := 128) (u := 153) (n := 128) (L := 129) h2238 g2237 rfl (by decide) (by decide))
        refine q_E_F ?_
        cases h2244 : decide (a1 = 129) with
        | true =>
          have g2245 := q_rg_eqT h2244 (q_rg_lit (n := 129) (x := 129) rfl)
          refine q_E_T ?_
          obtain ⟨r8, e2247, j2246⟩ := dzj_M262_64 c d w (s) hI (1) ((((s.1 14) 1) - 1) &&& 255) (q_rg_le (L := 0) (U := 2) (q_rg_lit (n := 1) (x := 1) rfl) (by decide) (by decide)) (q_rg_le (L := 0) (U := 255) (q_rg_and (((s.1 14) 1) - 1) 255 (U := 255) (by decide) rfl) (by decide) (by decide))
          rw [e2247]
          refine q_E_B ?_
          have j2248 := dzj_M213 c d w (r8) j2246 (a2 + 1)
          refine q_E_L ?_
          generalize dz_M213 r8 (a2 + 1) = r9 at j2248 ⊢
          exact q_E_x (q_Iv_A (i := 14) j2246 (q_hf_up ((j2246).1 14) (q_sn4 (q_rg_le (L := 0) (U := 4095) j2248 (by decide) (by decide)))))
        | false =>
          have g2249 := (q_rg_neL (l := 129) (u := 153) (n := 129) (L := 130) h2244 g2243 rfl (by decide) (by decide))
          refine q_E_F ?_
          cases h2250 : decide (a1 = 130) with
          | true =>
            have g2251 := q_rg_eqT h2250 (q_rg_lit (n := 130) (x := 130) rfl)
            refine q_E_T ?_
            obtain ⟨r10, e2253, j2252⟩ := dzj_M262_64 c d w (s) hI (2) ((((s.1 14) 2) + 1) &&& 255) (q_rg_le (L := 0) (U := 2) (q_rg_lit (n := 2) (x := 2) rfl) (by decide) (by decide)) (q_rg_le (L := 0) (U := 255) (q_rg_and (((s.1 14) 2) + 1) 255 (U := 255) (by decide) rfl) (by decide) (by decide))
            rw [e2253]
            refine q_E_B ?_
            have j2254 := dzj_M213 c d w (r10) j2252 (a2 + 1)
            refine q_E_L ?_
            generalize dz_M213 r10 (a2 + 1) = r11 at j2254 ⊢
            exact q_E_x (q_Iv_A (i := 14) j2252 (q_hf_up ((j2252).1 14) (q_sn4 (q_rg_le (L := 0) (U := 4095) j2254 (by decide) (by decide)))))
          | false =>
            have g2255 := (q_rg_neL (l := 130) (u := 153) (n := 130) (L := 131) h2250 g2249 rfl (by decide) (by decide))
            refine q_E_F ?_
            cases h2256 : decide (a1 = 131) with
            | true =>
              have g2257 := q_rg_eqT h2256 (q_rg_lit (n := 131) (x := 131) rfl)
              refine q_E_T ?_
              obtain ⟨r12, e2259, j2258⟩ := dzj_M262_64 c d w (s) hI (2) ((((s.1 14) 2) - 1) &&& 255) (q_rg_le (L := 0) (U := 2) (q_rg_lit (n := 2) (x := 2) rfl) (by decide) (by decide)) (q_rg_le (L := 0) (U := 255) (q_rg_and (((s.1 14) 2) - 1) 255 (U := 255) (by decide) rfl) (by decide) (by decide))
              rw [e2259]
              refine q_E_B ?_
              have j2260 := dzj_M213 c d w (r12) j2258 (a2 + 1)
              refine q_E_L ?_
              generalize dz_M213 r12 (a2 + 1) = r13 at j2260 ⊢
              exact q_E_x (q_Iv_A (i := 14) j2258 (q_hf_up ((j2258).1 14) (q_sn4 (q_rg_le (L := 0) (U := 4095) j2260 (by decide) (by decide)))))
            | false =>
              have g2261 := (q_rg_neL (l := 131) (u := 153) (n := 131) (L := 132) h2256 g2255 rfl (by decide) (by decide))
              refine q_E_F ?_
              cases h2262 : decide (a1 = 132) with
              | true =>
                have g2263 := q_rg_eqT h2262 (q_rg_lit (n := 132) (x := 132) rfl)
                refine q_E_T ?_
                obtain ⟨r14, e2265, j2264⟩ := dzj_M262_64 c d w (s) hI (1) ((s.1 14) 0) (q_rg_le (L := 0) (U := 2) (q_rg_lit (n := 1) (x := 1) rfl) (by decide) (by decide)) (q_rg_le (L := 0) (U := 255) (q_n0z hI) (by decide) (by decide))
                rw [e2265]
                refine q_E_B ?_
                have j2266 := dzj_M213 c d w (r14) j2264 (a2 + 1)
                refine q_E_L ?_
                generalize dz_M213 r14 (a2 + 1) = r15 at j2266 ⊢
                exact q_E_x (q_Iv_A (i := 14) j2264 (q_hf_up ((j2264).1 14) (q_sn4 (q_rg_le (L := 0) (U := 4095) j2266 (by decide) (by decide)))))
              | false =>
                have g2267 := (q_rg_neL (l := 132) (u := 153) (n := 132) (L := 133) h2262 g2261 rfl (by decide) (by decide))
                refine q_E_F ?_
                cases h2268 : decide (a1 = 133) with
                | true =>
                  have g2269 := q_rg_eqT h2268 (q_rg_lit (n := 133) (x := 133) rfl)
                  refine q_E_T ?_
                  obtain ⟨r16, e2271, j2270⟩ := dzj_M262_64 c d w (s) hI (0) ((s.1 14) 1) (q_rg_le (L := 0) (U := 2) (q_rg_lit (n := 0) (x := 0) rfl) (by decide) (by decide)) (q_rg_le (L := 0) (U := 255) (q_n1 hI) (by decide) (by decide))
                  rw [e2271]
                  refine q_E_B ?_
                  have j2272 := dzj_M213 c d w (r16) j2270 (a2 + 1)
                  refine q_E_L ?_
                  generalize dz_M213 r16 (a2 + 1) = r17 at j2272 ⊢
                  exact q_E_x (q_Iv_A (i := 14) j2270 (q_hf_up ((j2270).1 14) (q_sn4 (q_rg_le (L := 0) (U := 4095) j2272 (by decide) (by decide)))))
                | false =>
                  have g2273 := (q_rg_neL (l := 133) (u := 153) (n := 133) (L := 134) h2268 g2267 rfl (by decide) (by decide))
                  refine q_E_F ?_
                  cases h2274 : decide (a1 = 134) with
                  | true =>
                    have g2275 := q_rg_eqT h2274 (q_rg_lit (n := 134) (x := 134) rfl)
                    refine q_E_T ?_
                    obtain ⟨r18, e2277, j2276⟩ := dzj_M262_64 c d w (s) hI (2) ((s.1 14) 0) (q_rg_le (L := 0) (U := 2) (q_rg_lit (n := 2) (x := 2) rfl) (by decide) (by decide)) (q_rg_le (L := 0) (U := 255) (q_n0z hI) (by decide) (by decide))
                    rw [e2277]
                    refine q_E_B ?_
                    have j2278 := dzj_M213 c d w (r18) j2276 (a2 + 1)
                    refine q_E_L ?_
                    generalize dz_M213 r18 (a2 + 1) = r19 at j2278 ⊢
                    exact q_E_x (q_Iv_A (i := 14) j2276 (q_hf_up ((j2276).1 14) (q_sn4 (q_rg_le (L := 0) (U := 4095) j2278 (by decide) (by decide)))))
                  | false =>
                    have g2279 := (q_rg_neL (l := 134) (u := 153) (n := 134) (L := 135) h2274 g2273 rfl (by decide) (by decide))
                    refine q_E_F ?_
                    cases h2280 : decide (a1 = 135) with
                    | true =>
                      have g2281 := q_rg_eqT h2280 (q_rg_lit (n := 135) (x := 135) rfl)
                      refine q_E_T ?_
                      obtain ⟨r20, e2283, j2282⟩ := dzj_M262_64 c d w (s) hI (0) ((s.1 14) 2) (q_rg_le (L := 0) (U := 2) (q_rg_lit (n := 0) (x := 0) rfl) (by decide) (by decide)) (q_rg_le (L := 0) (U := 255) (q_n2 hI) (by decide) (by decide))
                      rw [e2283]
                      refine q_E_B ?_
                      have j2284 := dzj_M213 c d w (r20) j2282 (a2 + 1)
                      refine q_E_L ?_
                      generalize dz_M213 r20 (a2 + 1) = r21 at j2284 ⊢
                      exact q_E_x (q_Iv_A (i := 14) j2282 (q_hf_up ((j2282).1 14) (q_sn4 (q_rg_le (L := 0) (U := 4095) j2284 (by decide) (by decide)))))
                    | false =>
                      have g2285 := (q_rg_neL (l := 135) (u := 153) (n := 135) (L := 136) h2280 g2279 rfl (by decide) (by decide))
                      refine q_E_F ?_
                      cases h2286 : decide (a1 = 136) with
                      | true =>
                        have g2287 := q_rg_eqT h2286 (q_rg_lit (n := 136) (x := 136) rfl)
                        refine q_E_T ?_
                        obtain ⟨r22, e2289, j2288⟩ := dzj_M262_64 c d w (s) hI (1) ((s.1 14) 3) (q_rg_le (L := 0) (U := 2) (q_rg_lit (n := 1) (x := 1) rfl) (by decide) (by decide)) (q_rg_le (L := 0) (U := 255) (q_n3 hI) (by decide) (by decide))
                        rw [e2289]
                        refine q_E_B ?_
                        have j2290 := dzj_M213 c d w (r22) j2288 (a2 + 1)
                        refine q_E_L ?_
                        generalize dz_M213 r22 (a2 + 1) = r23 at j2290 ⊢
                        exact q_E_x (q_Iv_A (i := 14) j2288 (q_hf_up ((j2288).1 14) (q_sn4 (q_rg_le (L := 0) (U := 4095) j2290 (by decide) (by decide)))))
                      | false =>
                        have g2291 := (q_rg_neL (l := 136) (u := 153) (n := 136) (L := 137) h2286 g2285 rfl (by decide) (by decide))
                        refine q_E_F ?_
                        cases h2292 : decide (a1 = 137) with
                        | true =>
                          have g2293 := q_rg_eqT h2292 (q_rg_lit (n := 137) (x := 137) rfl)
                          refine q_E_T ?_
                          have j2294 := dzj_M213 c d w (q_sA s 14 (upd (s.1 14) 3 ((s.1 14) 1))) (q_Iv_A (i := 14) hI (q_hf_up ((hI).1 14) (q_sn3 (q_rg_le (L := 0) (U := 255) (q_n1 hI) (by decide) (by decide))))) (a2 + 1)
                          refine q_E_L ?_
                          generalize dz_M213 (q_sA s 14 (upd (s.1 14) 3 ((s.1 14) 1))) (a2 + 1) = r24 at j2294 ⊢
                          have j2295 : q_Iv c d w (q_sA s 14 (upd (s.1 14) 3 ((s.1 14) 1))) := (q_Iv_A (i := 14) hI (q_hf_up ((hI).1 14) (q_sn3 (q_rg_le (L := 0) (U := 255) (q_n1 hI) (by decide) (by decide)))))
                          refine q_E_L ?_
                          generalize (q_sA s 14 (upd (s.1 14) 3 ((s.1 14) 1))) = r25 at j2295 ⊢
                          exact q_E_x (q_Iv_A (i := 14) j2295 (q_hf_up ((j2295).1 14) (q_sn4 (q_rg_le (L := 0) (U := 4095) j2294 (by decide) (by decide)))))
                        | false =>
                          have g2296 := (q_rg_neL (l := 137) (u := 153) (n := 137) (L := 138) h2292 g2291 rfl (by decide) (by decide))
                          refine q_E_F ?_
                          cases h2297 : decide (a1 = 138) with
                          | true =>
                            have g2298 := q_rg_eqT h2297 (q_rg_lit (n := 138) (x := 138) rfl)
                            refine q_E_T ?_
                            obtain ⟨r26, e2300, j2299⟩ := dzj_M255_64 c d w (s) hI ((s.1 14) 0) (q_rg_le (L := 0) (U := 255) (q_n0z hI) (by decide) (by decide))
                            rw [e2300]
                            refine q_E_B ?_
                            have j2301 := dzj_M213 c d w (r26) j2299 (a2 + 1)
                            refine q_E_L ?_
                            generalize dz_M213 r26 (a2 + 1) = r27 at j2301 ⊢
                            exact q_E_x (q_Iv_A (i := 14) j2299 (q_hf_up ((j2299).1 14) (q_sn4 (q_rg_le (L := 0) (U := 4095) j2301 (by decide) (by decide)))))
                          | false =>
                            have g2302 := (q_rg_neL (l := 138) (u := 153) (n := 138) (L := 139) h2297 g2296 rfl (by decide) (by decide))
                            refine q_E_F ?_
                            cases h2303 : decide (a1 = 139) with
                            | true =>
                              have g2304 := q_rg_eqT h2303 (q_rg_lit (n := 139) (x := 139) rfl)
                              refine q_E_T ?_
                              obtain ⟨r28, e2306, j2305⟩ := dzj_M256_64 c d w (s) hI
                              rw [e2306]
                              refine q_E_B ?_
                              obtain ⟨r29, e2308, j2307⟩ := dzj_M262_64 c d w (r28.1) j2305.1 (0) (r28.2) (q_rg_le (L := 0) (U := 2) (q_rg_lit (n := 0) (x := 0) rfl) (by decide) (by decide)) (q_rg_le (L := 0) (U := 255) j2305.2 (by decide) (by decide))
                              rw [e2308]
                              refine q_E_B ?_
                              have j2309 := dzj_M213 c d w (r29) j2307 (a2 + 1)
                              refine q_E_L ?_
                              generalize dz_M213 r29 (a2 + 1) = r30 at j2309 ⊢
                              exact q_E_x (q_Iv_A (i := 14) j2307 (q_hf_up ((j2307).1 14) (q_sn4 (q_rg_le (L := 0) (U := 4095) j2309 (by decide) (by decide)))))
                            | false =>
                              have g2310 := (q_rg_neL (l := 139) (u := 153) (n := 139) (L := 140) h2303 g2302 rfl (by decide) (by decide))
                              refine q_E_F ?_
                              cases h2311 : decide (a1 = 140) with
                              | true =>
                                have g2312 := q_rg_eqT h2311 (q_rg_lit (n := 140) (x := 140) rfl)
                                refine q_E_T ?_
                                obtain ⟨r31, e2314, j2313⟩ := dzj_M258_64 c d w (s) hI (16) (q_rg_le (L := 0) (U := 16) (q_rg_lit (n := 16) (x := 16) rfl) (by decide) (by decide))
                                rw [e2314]
                                refine q_E_B ?_
                                obtain ⟨r32, e2316, j2315⟩ := dzj_M255_64 c d w (s) hI (r31) (q_rg_le (L := 0) (U := 255) j2313 (by decide) (by decide))
                                rw [e2316]
                                refine q_E_B ?_
                                have j2317 := dzj_M213 c d w (r32) j2315 (a2 + 1)
                                refine q_E_L ?_
                                generalize dz_M213 r32 (a2 + 1) = r33 at j2317 ⊢
                                exact q_E_x (q_Iv_A (i := 14) j2315 (q_hf_up ((j2315).1 14) (q_sn4 (q_rg_le (L := 0) (U := 4095) j2317 (by decide) (by decide)))))
                              | false =>
                                have g2318 := (q_rg_neL (l := 140) (u := 153) (n := 140) (L := 141) h2311 g2310 rfl (by decide) (by decide))
                                refine q_E_F ?_
                                cases h2319 : decide (a1 = 141) with
                                | true =>
                                  have g2320 := q_rg_eqT h2319 (q_rg_lit (n := 141) (x := 141) rfl)
                                  refine q_E_T ?_
                                  obtain ⟨r34, e2322, j2321⟩ := dzj_M256_64 c d w (s) hI
                                  rw [e2322]
                                  refine q_E_B ?_
                                  have j2323 := dzj_M259_64 c d w (r34.1) j2321.1 (r34.2)
                                  refine q_E_L ?_
                                  generalize dz_M259_64 r34.1 r34.2 = r35 at j2323 ⊢
                                  have j2324 := dzj_M213 c d w (r35) j2323 (a2 + 1)
                                  refine q_E_L ?_
                                  generalize dz_M213 r35 (a2 + 1) = r36 at j2324 ⊢
                                  exact q_E_x (q_Iv_A (i := 14) j2323 (q_hf_up ((j2323).1 14) (q_sn4 (q_rg_le (L := 0) (U := 4095) j2324 (by decide) (by decide)))))
                                | false =>
                                  have g2325 := (q_rg_neL (l := 141) (u := 153) (n := 141) (L := 142) h2319 g2318 rfl (by decide) (by decide))
                                  refine q_E_F ?_
                                  cases h2326 : decide (a1 = 142) with
                                  | true =>
                                    have g2327 := q_rg_eqT h2326 (q_rg_lit (n := 142) (x := 142) rfl)
                                    refine q_E_T ?_
                                    have j2328 := dzj_M213 c d w (q_sA s 15 (upd (s.1 15) 5 (vp_nar .boolean 1))) (q_Iv_A (i := 15) hI (q_hf_up ((hI).1 15) (q_s15 (q_rg_le (L := 0) (U := 1) (q_rg_nb _) (by decide) (by decide))))) (a2 + 1)
                                    refine q_E_L ?_
                                    generalize dz_M213 (q_sA s 15 (upd (s.1 15) 5 (vp_nar .boolean 1))) (a2 + 1) = r37 at j2328 ⊢
                                    exact q_E_x (q_Iv_A (i := 14) (q_Iv_A (i := 15) hI (q_hf_up ((hI).1 15) (q_s15 (q_rg_le (L := 0) (U := 1) (q_rg_nb _) (by decide) (by decide))))) (q_hf_up ((hI).1 14) (q_sn4 (q_rg_le (L := 0) (U := 4095) j2328 (by decide) (by decide)))))
                                  | false =>
                                    have g2329 := (q_rg_neL (l := 142) (u := 153) (n := 142) (L := 143) h2326 g2325 rfl (by decide) (by decide))
                                    refine q_E_F ?_
                                    cases h2330 : decide (a1 = 143) with
                                    | true =>
                                      have g2331 := q_rg_eqT h2330 (q_rg_lit (n := 143) (x := 143) rfl)
                                      refine q_E_T ?_
                                      have j2332 := dzj_M213 c d w (q_sA s 15 (upd (s.1 15) 5 (vp_nar .boolean 0))) (q_Iv_A (i := 15) hI (q_hf_up ((hI).1 15) (q_s15 (q_rg_le (L := 0) (U := 1) (q_rg_nb _) (by decide) (by decide))))) (a2 + 1)
                                      refine q_E_L ?_
                                      generalize dz_M213 (q_sA s 15 (upd (s.1 15) 5 (vp_nar .boolean 0))) (a2 + 1) = r38 at j2332 ⊢
                                      exact q_E_x (q_Iv_A (i := 14) (q_Iv_A (i := 15) hI (q_hf_up ((hI).1 15) (q_s15 (q_rg_le (L := 0) (U := 1) (q_rg_nb _) (by decide) (by decide))))) (q_hf_up ((hI).1 14) (q_sn4 (q_rg_le (L := 0) (U := 4095) j2332 (by decide) (by decide)))))
                                    | false =>
                                      have g2333 := (q_rg_neL (l := 143) (u := 153) (n := 143) (L := 144) h2330 g2329 rfl (by decide) (by decide))
                                      refine q_E_F ?_
                                      cases h2334 : decide (a1 = 144) with
                                      | true =>
                                        have g2335 := q_rg_eqT h2334 (q_rg_lit (n := 144) (x := 144) rfl)
                                        refine q_E_T ?_
                                        have j2336 := dzj_M213 c d w (q_sA s 15 (upd (s.1 15) 2 (vp_nar .boolean 1))) (q_Iv_A (i := 15) hI (q_hf_up ((hI).1 15) (q_s15 (q_rg_le (L := 0) (U := 1) (q_rg_nb _) (by decide) (by decide))))) (a2 + 1)
                                        refine q_E_L ?_
                                        generalize dz_M213 (q_sA s 15 (upd (s.1 15) 2 (vp_nar .boolean 1))) (a2 + 1) = r39 at j2336 ⊢
                                        exact q_E_x (q_Iv_A (i := 14) (q_Iv_A (i := 15) hI (q_hf_up ((hI).1 15) (q_s15 (q_rg_le (L := 0) (U := 1) (q_rg_nb _) (by decide) (by decide))))) (q_hf_up ((hI).1 14) (q_sn4 (q_rg_le (L := 0) (U := 4095) j2336 (by decide) (by decide)))))
                                      | false =>
                                        have g2337 := (q_rg_neL (l := 144) (u := 153) (n := 144) (L := 145) h2334 g2333 rfl (by decide) (by decide))
                                        refine q_E_F ?_
                                        cases h2338 : decide (a1 = 145) with
                                        | true =>
                                          have g2339 := q_rg_eqT h2338 (q_rg_lit (n := 145) (x := 145) rfl)
                                          refine q_E_T ?_
                                          have j2340 := dzj_M213 c d w (q_sA s 15 (upd (s.1 15) 2 (vp_nar .boolean 0))) (q_Iv_A (i := 15) hI (q_hf_up ((hI).1 15) (q_s15 (q_rg_le (L := 0) (U := 1) (q_rg_nb _) (by decide) (by decide))))) (a2 + 1)
                                          refine q_E_L ?_
                                          generalize dz_M213 (q_sA s 15 (upd (s.1 15) 2 (vp_nar .boolean 0))) (a2 + 1) = r40 at j2340 ⊢
                                          exact q_E_x (q_Iv_A (i := 14) (q_Iv_A (i := 15) hI (q_hf_up ((hI).1 15) (q_s15 (q_rg_le (L := 0) (U := 1) (q_rg_nb _) (by decide) (by decide))))) (q_hf_up ((hI).1 14) (q_sn4 (q_rg_le (L := 0) (U := 4095) j2340 (by decide) (by decide)))))
                                        | false =>
                                          have g2341 := (q_rg_neL (l := 145) (u := 153) (n := 145) (L := 146) h2338 g2337 rfl (by decide) (by decide))
                                          refine q_E_F ?_
                                          cases h2342 : decide (a1 = 146) with
                                          | true =>
                                            have g2343 := q_rg_eqT h2342 (q_rg_lit (n := 146) (x := 146) rfl)
                                            refine q_E_T ?_
                                            have j2344 := dzj_M213 c d w (q_sA s 15 (upd (s.1 15) 3 (vp_nar .boolean 1))) (q_Iv_A (i := 15) hI (q_hf_up ((hI).1 15) (q_s15 (q_rg_le (L := 0) (U := 1) (q_rg_nb _) (by decide) (by decide))))) (a2 + 1)
                                            refine q_E_L ?_
                                            generalize dz_M213 (q_sA s 15 (upd (s.1 15) 3 (vp_nar .boolean 1))) (a2 + 1) = r41 at j2344 ⊢
                                            exact q_E_x (q_Iv_A (i := 14) (q_Iv_A (i := 15) hI (q_hf_up ((hI).1 15) (q_s15 (q_rg_le (L := 0) (U := 1) (q_rg_nb _) (by decide) (by decide))))) (q_hf_up ((hI).1 14) (q_sn4 (q_rg_le (L := 0) (U := 4095) j2344 (by decide) (by decide)))))
                                          | false =>
                                            have g2345 := (q_rg_neL (l := 146) (u := 153) (n := 146) (L := 147) h2342 g2341 rfl (by decide) (by decide))
                                            refine q_E_F ?_
                                            cases h2346 : decide (a1 = 147) with
                                            | true =>
                                              have g2347 := q_rg_eqT h2346 (q_rg_lit (n := 147) (x := 147) rfl)
                                              refine q_E_T ?_
                                              have j2348 := dzj_M213 c d w (q_sA s 15 (upd (s.1 15) 3 (vp_nar .boolean 0))) (q_Iv_A (i := 15) hI (q_hf_up ((hI).1 15) (q_s15 (q_rg_le (L := 0) (U := 1) (q_rg_nb _) (by decide) (by decide))))) (a2 + 1)
                                              refine q_E_L ?_
                                              generalize dz_M213 (q_sA s 15 (upd (s.1 15) 3 (vp_nar .boolean 0))) (a2 + 1) = r42 at j2348 ⊢
                                              exact q_E_x (q_Iv_A (i := 14) (q_Iv_A (i := 15) hI (q_hf_up ((hI).1 15) (q_s15 (q_rg_le (L := 0) (U := 1) (q_rg_nb _) (by decide) (by decide))))) (q_hf_up ((hI).1 14) (q_sn4 (q_rg_le (L := 0) (U := 4095) j2348 (by decide) (by decide)))))
                                            | false =>
                                              have g2349 := (q_rg_neL (l := 147) (u := 153) (n := 147) (L := 148) h2346 g2345 rfl (by decide) (by decide))
                                              refine q_E_F ?_
                                              cases h2350 : decide (a1 = 148) with
                                              | true =>
                                                have g2351 := q_rg_eqT h2350 (q_rg_lit (n := 148) (x := 148) rfl)
                                                refine q_E_T ?_
                                                have j2352 := dzj_M213 c d w (q_sA s 15 (upd (s.1 15) 1 (vp_nar .boolean 0))) (q_Iv_A (i := 15) hI (q_hf_up ((hI).1 15) (q_s15 (q_rg_le (L := 0) (U := 1) (q_rg_nb _) (by decide) (by decide))))) (a2 + 1)
                                                refine q_E_L ?_
                                                generalize dz_M213 (q_sA s 15 (upd (s.1 15) 1 (vp_nar .boolean 0))) (a2 + 1) = r43 at j2352 ⊢
                                                exact q_E_x (q_Iv_A (i := 14) (q_Iv_A (i := 15) hI (q_hf_up ((hI).1 15) (q_s15 (q_rg_le (L := 0) (U := 1) (q_rg_nb _) (by decide) (by decide))))) (q_hf_up ((hI).1 14) (q_sn4 (q_rg_le (L := 0) (U := 4095) j2352 (by decide) (by decide)))))
                                              | false =>
                                                have g2353 := (q_rg_neL (l := 148) (u := 153) (n := 148) (L := 149) h2350 g2349 rfl (by decide) (by decide))
                                                refine q_E_F ?_
                                                cases h2354 : decide (a1 = 149) with
                                                | true =>
                                                  have g2355 := q_rg_eqT h2354 (q_rg_lit (n := 149) (x := 149) rfl)
                                                  refine q_E_T ?_
                                                  have j2356 := dzj_M213 c d w (s) hI (a2 + 1)
                                                  refine q_E_L ?_
                                                  generalize dz_M213 s (a2 + 1) = r44 at j2356 ⊢
                                                  exact q_E_x (q_Iv_A (i := 14) hI (q_hf_up ((hI).1 14) (q_sn4 (q_rg_le (L := 0) (U := 4095) j2356 (by decide) (by decide)))))
                                                | false =>
                                                  have g2357 := (q_rg_neL (l := 149) (u := 153) (n := 149) (L := 150) h2354 g2353 rfl (by decide) (by decide))
                                                  refine q_E_F ?_
                                                  cases h2358 : decide (a1 = 150) with
                                                  | true =>
                                                    have g2359 := q_rg_eqT h2358 (q_rg_lit (n := 150) (x := 150) rfl)
                                                    refine q_E_T ?_
                                                    obtain ⟨r45, e2361, j2360⟩ := dzj_M272_64 c d w (s) hI (a1)
                                                    rw [e2361]
                                                    refine q_E_B ?_
                                                    have j2362 := dzj_M213 c d w (r45) j2360 (a2 + 1)
                                                    refine q_E_L ?_
                                                    generalize dz_M213 r45 (a2 + 1) = r46 at j2362 ⊢
                                                    exact q_E_x (q_Iv_A (i := 14) j2360 (q_hf_up ((j2360).1 14) (q_sn4 (q_rg_le (L := 0) (U := 4095) j2362 (by decide) (by decide)))))
                                                  | false =>
                                                    have g2363 := (q_rg_neL (l := 150) (u := 153) (n := 150) (L := 151) h2358 g2357 rfl (by decide) (by decide))
                                                    refine q_E_F ?_
                                                    cases h2364 : decide (a1 = 151) with
                                                    | true =>
                                                      have g2365 := q_rg_eqT h2364 (q_rg_lit (n := 151) (x := 151) rfl)
                                                      refine q_E_T ?_
                                                      obtain ⟨r47, e2367, j2366⟩ := dzj_M272_64 c d w (s) hI (a1)
                                                      rw [e2367]
                                                      refine q_E_B ?_
                                                      have j2368 := dzj_M213 c d w (r47) j2366 (a2 + 1)
                                                      refine q_E_L ?_
                                                      generalize dz_M213 r47 (a2 + 1) = r48 at j2368 ⊢
                                                      exact q_E_x (q_Iv_A (i := 14) j2366 (q_hf_up ((j2366).1 14) (q_sn4 (q_rg_le (L := 0) (U := 4095) j2368 (by decide) (by decide)))))
                                                    | false =>
                                                      have g2369 := (q_rg_neL (l := 151) (u := 153) (n := 151) (L := 152) h2364 g2363 rfl (by decide) (by decide))
                                                      refine q_E_F ?_
                                                      cases h2370 : decide (a1 = 152) with
                                                      | true =>
                                                        have g2371 := q_rg_eqT h2370 (q_rg_lit (n := 152) (x := 152) rfl)
                                                        refine q_E_T ?_
                                                        obtain ⟨r49, e2373, j2372⟩ := dzj_M272_64 c d w (s) hI (a1)
                                                        rw [e2373]
                                                        refine q_E_B ?_
                                                        have j2374 := dzj_M213 c d w (r49) j2372 (a2 + 1)
                                                        refine q_E_L ?_
                                                        generalize dz_M213 r49 (a2 + 1) = r50 at j2374 ⊢
                                                        exact q_E_x (q_Iv_A (i := 14) j2372 (q_hf_up ((j2372).1 14) (q_sn4 (q_rg_le (L := 0) (U := 4095) j2374 (by decide) (by decide)))))
                                                      | false =>
                                                        have g2375 := (q_rg_neL (l := 152) (u := 153) (n := 152) (L := 153) h2370 g2369 rfl (by decide) (by decide))
                                                        refine q_E_F ?_
                                                        obtain ⟨r51, e2377, j2376⟩ := dzj_M272_64 c d w (s) hI (a1)
                                                        rw [e2377]
                                                        refine q_E_B ?_
                                                        have j2378 := dzj_M213 c d w (r51) j2376 (a2 + 1)
                                                        refine q_E_L ?_
                                                        generalize dz_M213 r51 (a2 + 1) = r52 at j2378 ⊢
                                                        exact q_E_x (q_Iv_A (i := 14) j2376 (q_hf_up ((j2376).1 14) (q_sn4 (q_rg_le (L := 0) (U := 4095) j2378 (by decide) (by decide)))))
set_option maxHeartbeats 4000000 in
theorem dzj_M246 (c d w : Int) (s : q_S) (hI : q_Iv c d w s) (a0 : Int32) : (fun x => q_rgz 1 3 x) (dz_M246 s a0) := by
  refine q_S_of (P := (fun x => q_rgz 1 3 x)) ?_
  unfold dz_M246
  have j2389 := dzj_M244 c d w (s) hI (a0)
  refine q_S_L ?_
  generalize dz_M244 s a0 = r1 at j2389 ⊢
  cases h2390 : decide (r1 < 0) with
  | true =>
    have g2391 := (q_rg_ltT1 (l := -2147483648) (U := -1) h2390 (q_rg_full _) (q_rg_lit (n := 0) (x := 0) rfl) (by decide))
    refine q_S_T ?_
    refine q_S_L ?_
    generalize p2392 : dz_M202 s a0 157 159 = r2
    cases r2 with
    | true =>
      have g2393 : q_rgz 157 159 (a0) := ⟨(q_p202 p2392 (q_rg_lit (n := 157) (x := 157) rfl) (q_rg_lit (n := 159) (x := 159) rfl)).1, (q_p202 p2392 (q_rg_lit (n := 157) (x := 157) rfl) (q_rg_lit (n := 159) (x := 159) rfl)).2⟩
      refine q_S_T ?_
      exact q_E_x (q_rg_le (q_rg_lit (n := 3) (x := 3) rfl) (by decide) (by decide))
    | false =>
      refine q_S_F ?_
      refine q_S_L ?_
      generalize p2394 : dz_M202 s a0 160 167 = r3
      cases r3 with
      | true =>
        have g2395 : q_rgz 160 167 (a0) := ⟨(q_p202 p2394 (q_rg_lit (n := 160) (x := 160) rfl) (q_rg_lit (n := 167) (x := 167) rfl)).1, (q_p202 p2394 (q_rg_lit (n := 160) (x := 160) rfl) (q_rg_lit (n := 167) (x := 167) rfl)).2⟩
        refine q_S_T ?_
        exact q_E_x (q_rg_le (q_rg_lit (n := 2) (x := 2) rfl) (by decide) (by decide))
      | false =>
        refine q_S_F ?_
        exact q_E_x (q_rg_le (q_rg_lit (n := 1) (x := 1) rfl) (by decide) (by decide))
  | false =>
    have g2396 := (q_rg_ltF1 (l2 := 0) (u := 2147483647) h2390 (q_rg_full _) (q_rg_lit (n := 0) (x := 0) rfl))
    refine q_S_F ?_
    refine q_S_L ?_
    generalize p2397 : dz_M202 s (a0 - a0 / 8 * 8) 3 5 = r4
    cases r4 with
    | true =>
      have g2398 : q_rgz 3 5 (a0 - a0 / 8 * 8) := ⟨(q_p202 p2397 (q_rg_lit (n := 3) (x := 3) rfl) (q_rg_lit (n := 5) (x := 5) rfl)).1, (q_p202 p2397 (q_rg_lit (n := 3) (x := 3) rfl) (q_rg_lit (n := 5) (x := 5) rfl)).2⟩
      refine q_S_T ?_
      exact q_E_x (q_rg_le (q_rg_lit (n := 3) (x := 3) rfl) (by decide) (by decide))
    | false =>
      refine q_S_F ?_
      exact q_E_x (q_rg_le (q_rg_lit (n := 2) (x := 2) rfl) (by decide) (by decide))
set_option maxHeartbeats 4000000 in
theorem dzj_M263_64 (c d w : Int) (s : q_S) (hI : q_Iv c d w s) (a1 : Int32) (a2 : Int32) (ra1 : q_rgz 0 2 a1) (ra2 : q_rgz 0 255 a2) : q_Ex (dz_M263_64 s a1 a2) (q_Iv c d w) := by
  unfold dz_M263_64
  refine q_E_A (q_in_rg ra1 (by decide) (by decide)) ?_
  cases h2404 : decide ((s.1 14) (a1.toNatClampNeg) < a2) with
  | true =>
    have g2405 := (q_rg_ltT1 (l := 0) (U := 254) h2404 (q_rdv (i := 14) (a := 0) (n := 3) (L := 0) (U := 255) hI (q_rg_le ra1 (by decide) (by decide)) rfl (by decide)) ra2 (by decide))
    have g2406 := (q_rg_ltT2 (L := 1) (u2 := 255) h2404 (q_rdv (i := 14) (a := 0) (n := 3) (L := 0) (U := 255) hI (q_rg_le ra1 (by decide) (by decide)) rfl (by decide)) ra2 (by decide))
    refine q_E_T ?_
    have j2407 := dzj_M261_64 c d w (q_sA s 15 (upd (s.1 15) 5 (vp_nar .boolean 0))) (q_Iv_A (i := 15) hI (q_hf_up ((hI).1 15) (q_s15 (q_rg_le (L := 0) (U := 1) (q_rg_nb _) (by decide) (by decide))))) ((((s.1 14) (a1.toNatClampNeg)) - a2) &&& 255) (q_rg_le (L := 0) (U := 255) (q_rg_and (((s.1 14) (a1.toNatClampNeg)) - a2) 255 (U := 255) (by decide) rfl) (by decide) (by decide))
    refine q_E_L ?_
    generalize dz_M261_64 (q_sA s 15 (upd (s.1 15) 5 (vp_nar .boolean 0))) ((((s.1 14) (a1.toNatClampNeg)) - a2) &&& 255) = r1 at j2407 ⊢
    exact q_E_x j2407.1
  | false =>
    refine q_E_F ?_
    have j2408 := dzj_M261_64 c d w (q_sA s 15 (upd (s.1 15) 5 (vp_nar .boolean 1))) (q_Iv_A (i := 15) hI (q_hf_up ((hI).1 15) (q_s15 (q_rg_le (L := 0) (U := 1) (q_rg_nb _) (by decide) (by decide))))) ((((s.1 14) (a1.toNatClampNeg)) - a2) &&& 255) (q_rg_le (L := 0) (U := 255) (q_rg_and (((s.1 14) (a1.toNatClampNeg)) - a2) 255 (U := 255) (by decide) rfl) (by decide) (by decide))
    refine q_E_L ?_
    generalize dz_M261_64 (q_sA s 15 (upd (s.1 15) 5 (vp_nar .boolean 1))) ((((s.1 14) (a1.toNatClampNeg)) - a2) &&& 255) = r2 at j2408 ⊢
    exact q_E_x j2408.1
set_option maxHeartbeats 4000000 in
theorem dzj_M264_64 (c d w : Int) (s : q_S) (hI : q_Iv c d w s) (a1 : Int32) (ra1 : q_rgz 0 255 a1) : q_Ex (dz_M264_64 s a1) (q_Iv c d w) := by
  unfold dz_M264_64
  obtain ⟨r2, e2425, j2424⟩ := dzj_M257_64 c d w 1 (s) hI (5) (1)  (q_rg_le (L := 0) (U := 7) (q_rg_lit (n := 5) (x := 5) rfl) (by decide) (by decide)) (q_rg_le (L := 0) (U := 1) (q_rg_lit (n := 1) (x := 1) rfl) (by decide) (by decide))
  rw [e2425]
  refine q_E_B ?_
  cases h2426 : decide (((((s.1 14) 0) ^^^ ((((s.1 14) 0) + a1) + r2)) &&& (a1 ^^^ ((((s.1 14) 0) + a1) + r2))) &&& 128 = 0) with
  | true =>
    have g2427 := q_rg_eqT h2426 (q_rg_lit (n := 0) (x := 0) rfl)
    refine q_E_T ?_
    cases h2428 : decide (255 < (((s.1 14) 0) + a1) + r2) with
    | true =>
      have g2429 := (q_rg_ltT2 (L := 256) (u2 := 511) h2428 (q_rg_lit (n := 255) (x := 255) rfl) (q_rg_add (L := 0) (U := 511) (q_rg_add (L := 0) (U := 510) (q_n0z hI) ra1 (by decide) (by decide) (by decide) (by decide)) j2424 (by decide) (by decide) (by decide) (by decide)) (by decide))
      refine q_E_T ?_
      have j2430 : q_Iv c d w (q_sA s 15 (upd (s.1 15) 1 (vp_nar .boolean 0))) := (q_Iv_A (i := 15) hI (q_hf_up ((hI).1 15) (q_s15 (q_rg_le (L := 0) (U := 1) (q_rg_nb _) (by decide) (by decide)))))
      refine q_E_L ?_
      generalize (q_sA s 15 (upd (s.1 15) 1 (vp_nar .boolean 0))) = r3 at j2430 ⊢
      exact q_E_x (q_Iv_A (i := 14) (q_Iv_A (i := 15) j2430 (q_hf_up ((j2430).1 15) (q_s15 (q_rg_le (L := 0) (U := 1) (q_rg_nb _) (by decide) (by decide))))) (q_hf_up ((j2430).1 14) (q_sn0 (q_rg_le (L := 0) (U := 255) (q_rg_rem (c := 256) (U := 255) g2429 (by decide) rfl (by decide) (by decide)) (by decide) (by decide)))))
    | false =>
      have g2431 := (q_rg_ltF2 (l2 := 0) (u := 255) h2428 (q_rg_lit (n := 255) (x := 255) rfl) (q_rg_add (L := 0) (U := 511) (q_rg_add (L := 0) (U := 510) (q_n0z hI) ra1 (by decide) (by decide) (by decide) (by decide)) j2424 (by decide) (by decide) (by decide) (by decide)))
      refine q_E_F ?_
      have j2432 : q_Iv c d w (q_sA s 15 (upd (s.1 15) 1 (vp_nar .boolean 0))) := (q_Iv_A (i := 15) hI (q_hf_up ((hI).1 15) (q_s15 (q_rg_le (L := 0) (U := 1) (q_rg_nb _) (by decide) (by decide)))))
      refine q_E_L ?_
      generalize (q_sA s 15 (upd (s.1 15) 1 (vp_nar .boolean 0))) = r4 at j2432 ⊢
      exact q_E_x (q_Iv_A (i := 14) (q_Iv_A (i := 15) j2432 (q_hf_up ((j2432).1 15) (q_s15 (q_rg_le (L := 0) (U := 1) (q_rg_nb _) (by decide) (by decide))))) (q_hf_up ((j2432).1 14) (q_sn0 (q_rg_le (L := 0) (U := 255) (q_rg_rem2 (c := 256) g2431 (by decide) rfl (by decide)) (by decide) (by decide)))))
  | false =>
    have g2433 := (q_rg_neL (l := 0) (u := 128) (n := 0) (L := 1) h2426 (q_rg_and ((((s.1 14) 0) ^^^ ((((s.1 14) 0) + a1) + r2)) &&& (a1 ^^^ ((((s.1 14) 0) + a1) + r2))) 128 (U := 128) (by decide) rfl) rfl (by decide) (by decide))
    refine q_E_F ?_
    cases h2434 : decide (255 < (((s.1 14) 0) + a1) + r2) with
    | true =>
      have g2435 := (q_rg_ltT2 (L := 256) (u2 := 511) h2434 (q_rg_lit (n := 255) (x := 255) rfl) (q_rg_add (L := 0) (U := 511) (q_rg_add (L := 0) (U := 510) (q_n0z hI) ra1 (by decide) (by decide) (by decide) (by decide)) j2424 (by decide) (by decide) (by decide) (by decide)) (by decide))
      refine q_E_T ?_
      have j2436 : q_Iv c d w (q_sA s 15 (upd (s.1 15) 1 (vp_nar .boolean 1))) := (q_Iv_A (i := 15) hI (q_hf_up ((hI).1 15) (q_s15 (q_rg_le (L := 0) (U := 1) (q_rg_nb _) (by decide) (by decide)))))
      refine q_E_L ?_
      generalize (q_sA s 15 (upd (s.1 15) 1 (vp_nar .boolean 1))) = r5 at j2436 ⊢
      exact q_E_x (q_Iv_A (i := 14) (q_Iv_A (i := 15) j2436 (q_hf_up ((j2436).1 15) (q_s15 (q_rg_le (L := 0) (U := 1) (q_rg_nb _) (by decide) (by decide))))) (q_hf_up ((j2436).1 14) (q_sn0 (q_rg_le (L := 0) (U := 255) (q_rg_rem (c := 256) (U := 255) g2435 (by decide) rfl (by decide) (by decide)) (by decide) (by decide)))))
    | false =>
      have g2437 := (q_rg_ltF2 (l2 := 0) (u := 255) h2434 (q_rg_lit (n := 255) (x := 255) rfl) (q_rg_add (L := 0) (U := 511) (q_rg_add (L := 0) (U := 510) (q_n0z hI) ra1 (by decide) (by decide) (by decide) (by decide)) j2424 (by decide) (by decide) (by decide) (by decide)))
      refine q_E_F ?_
      have j2438 : q_Iv c d w (q_sA s 15 (upd (s.1 15) 1 (vp_nar .boolean 1))) := (q_Iv_A (i := 15) hI (q_hf_up ((hI).1 15) (q_s15 (q_rg_le (L := 0) (U := 1) (q_rg_nb _) (by decide) (by decide)))))
      refine q_E_L ?_
      generalize (q_sA s 15 (upd (s.1 15) 1 (vp_nar .boolean 1))) = r6 at j2438 ⊢
      exact q_E_x (q_Iv_A (i := 14) (q_Iv_A (i := 15) j2438 (q_hf_up ((j2438).1 15) (q_s15 (q_rg_le (L := 0) (U := 1) (q_rg_nb _) (by decide) (by decide))))) (q_hf_up ((j2438).1 14) (q_sn0 (q_rg_le (L := 0) (U := 255) (q_rg_rem2 (c := 256) g2437 (by decide) rfl (by decide)) (by decide) (by decide)))))
set_option maxHeartbeats 4000000 in
theorem dzj_M266_64 (c d w : Int) (s : q_S) (hI : q_Iv c d w s) (a1 : Int32) (a2 : Int32) (a3 : Int32) : (q_Iv c d w) (dz_M266_64 s a1 a2 a3) := by
  refine q_S_of (P := (q_Iv c d w)) ?_
  unfold dz_M266_64
  cases h2449 : decide ((((a1 - a1 / 16 * 16) - (a2 - a2 / 16 * 16)) - 1) + a3 < 0) with
  | true =>
    have g2450 := (q_rg_ltT1 (l := -2147483648) (U := -1) h2449 (q_rg_full _) (q_rg_lit (n := 0) (x := 0) rfl) (by decide))
    refine q_S_T ?_
    have j2451 : q_rgz (-2147483638) 9 (((((a1 - a1 / 16 * 16) - (a2 - a2 / 16 * 16)) - 1) + a3) + 10) := (q_rg_add (L := -2147483638) (U := 9) g2450 (q_rg_lit (n := 10) (x := 10) rfl) (by decide) (by decide) (by decide) (by decide))
    refine q_S_L ?_
    generalize (((((a1 - a1 / 16 * 16) - (a2 - a2 / 16 * 16)) - 1) + a3) + 10) = x1 at j2451 ⊢
    cases h2452 : decide (((a1 / 16) - (a2 / 16)) - 1 < 0) with
    | true =>
      have g2453 := (q_rg_ltT1 (l := -2147483648) (U := -1) h2452 (q_rg_full _) (q_rg_lit (n := 0) (x := 0) rfl) (by decide))
      refine q_S_T ?_
      exact q_E_x (q_Iv_A (i := 14) (q_Iv_A (i := 15) hI (q_hf_up ((hI).1 15) (q_s15 (q_rg_le (L := 0) (U := 1) (q_rg_nb _) (by decide) (by decide))))) (q_hf_up ((hI).1 14) (q_sn0 (q_rg_le (L := 0) (U := 255) (q_rg_and ((16 * ((((a1 / 16) - (a2 / 16)) - 1) + 10)) + x1) 255 (U := 255) (by decide) rfl) (by decide) (by decide)))))
    | false =>
      have g2454 := (q_rg_ltF1 (l2 := 0) (u := 2147483647) h2452 (q_rg_full _) (q_rg_lit (n := 0) (x := 0) rfl))
      refine q_S_F ?_
      exact q_E_x (q_Iv_A (i := 14) (q_Iv_A (i := 15) hI (q_hf_up ((hI).1 15) (q_s15 (q_rg_le (L := 0) (U := 1) (q_rg_nb _) (by decide) (by decide))))) (q_hf_up ((hI).1 14) (q_sn0 (q_rg_le (L := 0) (U := 255) (q_rg_and ((16 * ((((a1 / 16) - (a2 / 16)) - 1) + 0)) + x1) 255 (U := 255) (by decide) rfl) (by decide) (by decide)))))
  | false =>
    have g2455 := (q_rg_ltF1 (l2 := 0) (u := 2147483647) h2449 (q_rg_full _) (q_rg_lit (n := 0) (x := 0) rfl))
    refine q_S_F ?_
    cases h2456 : decide (((a1 / 16) - (a2 / 16)) - 0 < 0) with
    | true =>
      have g2457 := (q_rg_ltT1 (l := -2147483648) (U := -1) h2456 (q_rg_full _) (q_rg_lit (n := 0) (x := 0) rfl) (by decide))
      refine q_S_T ?_
      exact q_E_x (q_Iv_A (i := 14) (q_Iv_A (i := 15) hI (q_hf_up ((hI).1 15) (q_s15 (q_rg_le (L := 0) (U := 1) (q_rg_nb _) (by decide) (by decide))))) (q_hf_up ((hI).1 14) (q_sn0 (q_rg_le (L := 0) (U := 255) (q_rg_and ((16 * ((((a1 / 16) - (a2 / 16)) - 0) + 10)) + (((((a1 - a1 / 16 * 16) - (a2 - a2 / 16 * 16)) - 1) + a3) + 0)) 255 (U := 255) (by decide) rfl) (by decide) (by decide)))))
    | false =>
      have g2458 := (q_rg_ltF1 (l2 := 0) (u := 2147483647) h2456 (q_rg_full _) (q_rg_lit (n := 0) (x := 0) rfl))
      refine q_S_F ?_
      exact q_E_x (q_Iv_A (i := 14) (q_Iv_A (i := 15) hI (q_hf_up ((hI).1 15) (q_s15 (q_rg_le (L := 0) (U := 1) (q_rg_nb _) (by decide) (by decide))))) (q_hf_up ((hI).1 14) (q_sn0 (q_rg_le (L := 0) (U := 255) (q_rg_and ((16 * ((((a1 / 16) - (a2 / 16)) - 0) + 0)) + (((((a1 - a1 / 16 * 16) - (a2 - a2 / 16 * 16)) - 1) + a3) + 0)) 255 (U := 255) (by decide) rfl) (by decide) (by decide)))))
set_option maxHeartbeats 4000000 in
theorem dzj_M267_64_f_56 (c d w : Int) (s : q_S) (hI : q_Iv c d w s) (v2 : Int32) (v3 : Int32) (v4 : Int32) (rv2 : q_rgz 0 255 v2) (rv3 : q_rgz 0 255 v3) (rv4 : q_rgz 0 1 v4) : q_Ex (dz_M267_64_f_56 s v2 v3 v4) (q_Iv c d w) := by
  unfold dz_M267_64_f_56
  cases h2479 : decide ((s.1 15) 2 = 0) with
  | true =>
    have g2480 := q_rg_eqT h2479 (q_rg_lit (n := 0) (x := 0) rfl)
    refine q_E_T ?_
    have j2481 := dzj_M261_64 c d w (s) hI ((s.1 14) 0) (q_rg_le (L := 0) (U := 255) (q_n0z hI) (by decide) (by decide))
    refine q_E_L ?_
    generalize dz_M261_64 s ((s.1 14) 0) = r4 at j2481 ⊢
    exact q_E_x j2481.1
  | false =>
    have g2482 := (q_rg_neL (l := 0) (u := 1) (n := 0) (L := 1) h2479 (q_r15 hI 2) rfl (by decide) (by decide))
    refine q_E_F ?_
    have j2483 := dzj_M266_64 c d w (s) hI (v3) (v2) (v4)
    refine q_E_L ?_
    generalize dz_M266_64 s v3 v2 v4 = r5 at j2483 ⊢
    have j2484 := dzj_M261_64 c d w (r5) j2483 ((r5.1 14) 0) (q_rg_le (L := 0) (U := 255) (q_n0z j2483) (by decide) (by decide))
    refine q_E_L ?_
    generalize dz_M261_64 r5 ((r5.1 14) 0) = r6 at j2484 ⊢
    exact q_E_x j2484.1
set_option maxHeartbeats 4000000 in
theorem dzj_M267_64_f (c d w : Int) (s : q_S) (hI : q_Iv c d w s) (a2 : Int32) (ra2 : q_rgz 0 255 a2) : q_Ex (dz_M267_64_f s a2) (q_Iv c d w) := by
  unfold dz_M267_64_f
  obtain ⟨r2, e2486, j2485⟩ := dzj_M257_64 c d w 1 (s) hI (5) (1)  (q_rg_le (L := 0) (U := 7) (q_rg_lit (n := 5) (x := 5) rfl) (by decide) (by decide)) (q_rg_le (L := 0) (U := 1) (q_rg_lit (n := 1) (x := 1) rfl) (by decide) (by decide))
  rw [e2486]
  refine q_E_B ?_
  obtain ⟨r3, e2488, j2487⟩ := dzj_M264_64 c d w (s) hI ((255 : Int32) - a2) (q_rg_le (L := 0) (U := 255) (q_rg_sub (L := 0) (U := 255) (q_rg_lit (n := 255) (x := 255) rfl) ra2 (by decide) (by decide) (by decide) (by decide)) (by decide) (by decide))
  rw [e2488]
  refine q_E_B ?_
  cases h2489 : decide ((r3.1 15) 2 = 0) with
  | true =>
    have g2490 := q_rg_eqT h2489 (q_rg_lit (n := 0) (x := 0) rfl)
    refine q_E_T ?_
    exact dzj_M267_64_f_56 c d w (r3) j2487 (a2) ((s.1 14) 0) (r2) (q_rg_le (L := 0) (U := 255) ra2 (by decide) (by decide)) (q_rg_le (L := 0) (U := 255) (q_n0z hI) (by decide) (by decide)) (q_rg_le (L := 0) (U := 1) j2485 (by decide) (by decide))
  | false =>
    have g2491 := (q_rg_neL (l := 0) (u := 1) (n := 0) (L := 1) h2489 (q_r15 j2487 2) rfl (by decide) (by decide))
    refine q_E_F ?_
    exact dzj_M267_64_f_56 c d w (r3) j2487 (a2) ((s.1 14) 0) (r2) (q_rg_le (L := 0) (U := 255) ra2 (by decide) (by decide)) (q_rg_le (L := 0) (U := 255) (q_n0z hI) (by decide) (by decide)) (q_rg_le (L := 0) (U := 1) j2485 (by decide) (by decide))
set_option maxHeartbeats 4000000 in
theorem dzj_M268_64 (c d w : Int) (s : q_S) (hI : q_Iv c d w s) (a1 : Int32) (ra1 : q_rgz 0 4095 a1) : q_Ex (dz_M268_64 s a1) (fun (x : q_S × Int32) => q_Iv c d w x.1 ∧ q_rgz 0 255 x.2) := by
  unfold dz_M268_64
  obtain ⟨r2, e2500, j2499⟩ := dzj_M214_64 c d w (s) hI (a1) (q_rg_le (L := 0) (U := 4095) ra1 (by decide) (by decide))
  rw [e2500]
  refine q_E_B ?_
  cases h2501 : decide (a1 = 3869) with
  | true =>
    have g2502 := q_rg_eqT h2501 (q_rg_lit (n := 3869) (x := 3869) rfl)
    refine q_E_T ?_
    cases h2503 : decide (a1 = 3870) with
    | true =>
      exact (q_rg_no (q_rg_le (L := 3870) (U := 3869) ⟨(q_rg_eqT h2503 (q_rg_lit (n := 3870) (x := 3870) rfl)).1, g2502.2⟩ (by decide) (by decide)) (by decide)).elim
    | false =>
      refine q_E_F ?_
      exact q_E_x ⟨(q_Iv_A (i := 14) j2499.1 (q_hf_up ((j2499.1).1 14) (q_sn10 (q_rg_le (L := 0) (U := 15) (q_rg_lit (n := 0) (x := 0) rfl) (by decide) (by decide))))), q_rg_le j2499.2 (by decide) (by decide)⟩
  | false =>
    refine q_E_F ?_
    cases h2504 : decide (a1 = 3870) with
    | true =>
      have g2505 := q_rg_eqT h2504 (q_rg_lit (n := 3870) (x := 3870) rfl)
      refine q_E_T ?_
      exact q_E_x ⟨(q_Iv_A (i := 14) j2499.1 (q_hf_up ((j2499.1).1 14) (q_sn11 (q_rg_le (L := 0) (U := 15) (q_rg_lit (n := 0) (x := 0) rfl) (by decide) (by decide))))), q_rg_le j2499.2 (by decide) (by decide)⟩
    | false =>
      refine q_E_F ?_
      exact q_E_x ⟨j2499.1, q_rg_le j2499.2 (by decide) (by decide)⟩
set_option maxHeartbeats 4000000 in
theorem dzj_M270_64_38 (c d w : Int) (s : q_S) (hI : q_Iv c d w s) (v1 : Int32) (v2 : Int32) (v3 : Int32) (rv1 : q_rgz 14 19 v1) (rv2 : q_rgz 0 4095 v2) (rv3 : q_rgz 0 255 v3) : q_Ex (dz_M270_64_38 s v1 v2 v3) (q_Iv c d w) := by
  unfold dz_M270_64_38
  cases h2615 : decide (v1 = 3) with
  | true =>
    exact (q_rg_no (q_rg_le (L := 14) (U := 3) ⟨rv1.1, (q_rg_eqT h2615 (q_rg_lit (n := 3) (x := 3) rfl)).2⟩ (by decide) (by decide)) (by decide)).elim
  | false =>
    refine q_E_F ?_
    cases h2616 : decide (v1 = 4) with
    | true =>
      exact (q_rg_no (q_rg_le (L := 14) (U := 4) ⟨rv1.1, (q_rg_eqT h2616 (q_rg_lit (n := 4) (x := 4) rfl)).2⟩ (by decide) (by decide)) (by decide)).elim
    | false =>
      refine q_E_F ?_
      cases h2617 : decide (v1 = 5) with
      | true =>
        exact (q_rg_no (q_rg_le (L := 14) (U := 5) ⟨rv1.1, (q_rg_eqT h2617 (q_rg_lit (n := 5) (x := 5) rfl)).2⟩ (by decide) (by decide)) (by decide)).elim
      | false =>
        refine q_E_F ?_
        cases h2618 : decide (v1 = 17) with
        | true =>
          have g2619 := q_rg_eqT h2618 (q_rg_lit (n := 17) (x := 17) rfl)
          refine q_E_T ?_
          obtain ⟨r5, e2621, j2620⟩ := dzj_M215_64 c d w (s) hI (v2) (((s.1 14) 0) &&& ((s.1 14) 1)) (q_rg_le (L := 0) (U := 4095) rv2 (by decide) (by decide)) (q_rg_le (L := 0) (U := 255) (q_rg_and1 (q_n0z hI) (by decide)) (by decide) (by decide))
          rw [e2621]
          refine q_E_B ?_
          exact q_E_x j2620
        | false =>
          refine q_E_F ?_
          obtain ⟨r6, e2623, j2622⟩ := dzj_M215_64 c d w (s) hI (v2) ((v3 + 1) &&& 255) (q_rg_le (L := 0) (U := 4095) rv2 (by decide) (by decide)) (q_rg_le (L := 0) (U := 255) (q_rg_and (v3 + 1) 255 (U := 255) (by decide) rfl) (by decide) (by decide))
          rw [e2623]
          refine q_E_B ?_
          cases h2624 : decide (v1 = 18) with
          | true =>
            have g2625 := q_rg_eqT h2624 (q_rg_lit (n := 18) (x := 18) rfl)
            refine q_E_T ?_
            obtain ⟨r7, e2627, j2626⟩ := dzj_M263_64 c d w (r6) j2622 (0) ((v3 + 1) &&& 255) (q_rg_le (L := 0) (U := 2) (q_rg_lit (n := 0) (x := 0) rfl) (by decide) (by decide)) (q_rg_le (L := 0) (U := 255) (q_rg_and (v3 + 1) 255 (U := 255) (by decide) rfl) (by decide) (by decide))
            rw [e2627]
            refine q_E_B ?_
            exact q_E_x j2626
          | false =>
            refine q_E_F ?_
            cases h2628 : decide (v1 = 19) with
            | true =>
              have g2629 := q_rg_eqT h2628 (q_rg_lit (n := 19) (x := 19) rfl)
              refine q_E_T ?_
              obtain ⟨r8, e2631, j2630⟩ := dzj_M267_64_f c d w (r6) j2622 ((v3 + 1) &&& 255) (q_rg_le (L := 0) (U := 255) (q_rg_and (v3 + 1) 255 (U := 255) (by decide) rfl) (by decide) (by decide))
              rw [e2631]
              refine q_E_B ?_
              exact q_E_x j2630
            | false =>
              have g2632 := (q_rg_neU (l := 14) (u := 19) (n := 19) (U := 18) h2628 rv1 rfl (by decide) (by decide))
              refine q_E_F ?_
              have j2633 := dzj_M261_64 c d w (r6) j2622 ((v3 + 1) &&& 255) (q_rg_le (L := 0) (U := 255) (q_rg_and (v3 + 1) 255 (U := 255) (by decide) rfl) (by decide) (by decide))
              refine q_E_L ?_
              generalize dz_M261_64 r6 ((v3 + 1) &&& 255) = r9 at j2633 ⊢
              exact q_E_x j2633.1
set_option maxHeartbeats 4000000 in
theorem dzj_M270_64 (c d w : Int) (s : q_S) (hI : q_Iv c d w s) (a1 : Int32) (a2 : Int32) (ra2 : q_rgz 0 4095 a2) : q_Ex (dz_M270_64 s a1 a2) (q_Iv c d w) := by
  unfold dz_M270_64
  cases h2634 : decide (a1 < 14) with
  | true =>
    have g2635 := (q_rg_ltT1 (l := -2147483648) (U := 13) h2634 (q_rg_full _) (q_rg_lit (n := 14) (x := 14) rfl) (by decide))
    refine q_E_T ?_
    cases h2636 : decide (a1 = 14) with
    | true =>
      exact (q_rg_no (q_rg_le (L := 14) (U := 13) ⟨(q_rg_eqT h2636 (q_rg_lit (n := 14) (x := 14) rfl)).1, g2635.2⟩ (by decide) (by decide)) (by decide)).elim
    | false =>
      refine q_E_F ?_
      cases h2637 : decide (a1 = 19) with
      | true =>
        exact (q_rg_no (q_rg_le (L := 19) (U := 13) ⟨(q_rg_eqT h2637 (q_rg_lit (n := 19) (x := 19) rfl)).1, g2635.2⟩ (by decide) (by decide)) (by decide)).elim
      | false =>
        refine q_E_F ?_
        cases h2638 : decide (a1 = 3) with
        | true =>
          have g2639 := q_rg_eqT h2638 (q_rg_lit (n := 3) (x := 3) rfl)
          refine q_E_T ?_
          obtain ⟨r10, e2641, j2640⟩ := dzj_M215_64 c d w (s) hI (a2) ((s.1 14) 0) (q_rg_le (L := 0) (U := 4095) ra2 (by decide) (by decide)) (q_rg_le (L := 0) (U := 255) (q_n0z hI) (by decide) (by decide))
          rw [e2641]
          refine q_E_B ?_
          exact q_E_x j2640
        | false =>
          refine q_E_F ?_
          cases h2642 : decide (a1 = 4) with
          | true =>
            have g2643 := q_rg_eqT h2642 (q_rg_lit (n := 4) (x := 4) rfl)
            refine q_E_T ?_
            obtain ⟨r11, e2645, j2644⟩ := dzj_M215_64 c d w (s) hI (a2) ((s.1 14) 1) (q_rg_le (L := 0) (U := 4095) ra2 (by decide) (by decide)) (q_rg_le (L := 0) (U := 255) (q_n1 hI) (by decide) (by decide))
            rw [e2645]
            refine q_E_B ?_
            exact q_E_x j2644
          | false =>
            refine q_E_F ?_
            cases h2646 : decide (a1 = 5) with
            | true =>
              have g2647 := q_rg_eqT h2646 (q_rg_lit (n := 5) (x := 5) rfl)
              refine q_E_T ?_
              obtain ⟨r12, e2649, j2648⟩ := dzj_M215_64 c d w (s) hI (a2) ((s.1 14) 2) (q_rg_le (L := 0) (U := 4095) ra2 (by decide) (by decide)) (q_rg_le (L := 0) (U := 255) (q_n2 hI) (by decide) (by decide))
              rw [e2649]
              refine q_E_B ?_
              exact q_E_x j2648
            | false =>
              refine q_E_F ?_
              cases h2650 : decide (a1 = 17) with
              | true =>
                exact (q_rg_no (q_rg_le (L := 17) (U := 13) ⟨(q_rg_eqT h2650 (q_rg_lit (n := 17) (x := 17) rfl)).1, g2635.2⟩ (by decide) (by decide)) (by decide)).elim
              | false =>
                refine q_E_F ?_
                obtain ⟨r14, e2652, j2651⟩ := dzj_M215_64 c d w (s) hI (a2) (255) (q_rg_le (L := 0) (U := 4095) ra2 (by decide) (by decide)) (q_rg_le (L := 0) (U := 255) (q_rg_lit (n := 255) (x := 255) rfl) (by decide) (by decide))
                rw [e2652]
                refine q_E_B ?_
                cases h2653 : decide (a1 = 18) with
                | true =>
                  exact (q_rg_no (q_rg_le (L := 18) (U := 13) ⟨(q_rg_eqT h2653 (q_rg_lit (n := 18) (x := 18) rfl)).1, g2635.2⟩ (by decide) (by decide)) (by decide)).elim
                | false =>
                  refine q_E_F ?_
                  have j2654 := dzj_M261_64 c d w (r14) j2651 (255) (q_rg_le (L := 0) (U := 255) (q_rg_lit (n := 255) (x := 255) rfl) (by decide) (by decide))
                  refine q_E_L ?_
                  generalize dz_M261_64 r14 255 = r16 at j2654 ⊢
                  exact q_E_x j2654.1
  | false =>
    have g2655 := (q_rg_ltF1 (l2 := 14) (u := 2147483647) h2634 (q_rg_full _) (q_rg_lit (n := 14) (x := 14) rfl))
    refine q_E_F ?_
    cases h2656 : decide (a1 = 17) with
    | true =>
      have g2657 := q_rg_eqT h2656 (q_rg_lit (n := 17) (x := 17) rfl)
      refine q_E_T ?_
      cases h2658 : decide (a1 = 14) with
      | true =>
        exact (q_rg_no (q_rg_le (L := 17) (U := 14) ⟨g2657.1, (q_rg_eqT h2658 (q_rg_lit (n := 14) (x := 14) rfl)).2⟩ (by decide) (by decide)) (by decide)).elim
      | false =>
        refine q_E_F ?_
        cases h2659 : decide (a1 = 19) with
        | true =>
          exact (q_rg_no (q_rg_le (L := 19) (U := 17) ⟨(q_rg_eqT h2659 (q_rg_lit (n := 19) (x := 19) rfl)).1, g2657.2⟩ (by decide) (by decide)) (by decide)).elim
        | false =>
          refine q_E_F ?_
          obtain ⟨r17, e2661, j2660⟩ := dzj_M215_64 c d w (s) hI (a2) (((s.1 14) 0) &&& ((s.1 14) 1)) (q_rg_le (L := 0) (U := 4095) ra2 (by decide) (by decide)) (q_rg_le (L := 0) (U := 255) (q_rg_and1 (q_n0z hI) (by decide)) (by decide) (by decide))
          rw [e2661]
          refine q_E_B ?_
          exact q_E_x j2660
    | false =>
      refine q_E_F ?_
      obtain ⟨r18, e2663, j2662⟩ := dzj_M268_64 c d w (s) hI (a2) (q_rg_le (L := 0) (U := 4095) ra2 (by decide) (by decide))
      rw [e2663]
      refine q_E_B ?_
      cases h2664 : decide (a1 = 14) with
      | true =>
        have g2665 := q_rg_eqT h2664 (q_rg_lit (n := 14) (x := 14) rfl)
        refine q_E_T ?_
        exact dzj_M270_64_38 c d w (r18.1) j2662.1 (a1) (a2) (r18.2) (q_rg_le (L := 14) (U := 19) g2665 (by decide) (by decide)) (q_rg_le (L := 0) (U := 4095) ra2 (by decide) (by decide)) (q_rg_le (L := 0) (U := 255) j2662.2 (by decide) (by decide))
      | false =>
        have g2666 := (q_rg_neL (l := 14) (u := 2147483647) (n := 14) (L := 15) h2664 g2655 rfl (by decide) (by decide))
        refine q_E_F ?_
        cases h2667 : decide (a1 = 19) with
        | true =>
          have g2668 := q_rg_eqT h2667 (q_rg_lit (n := 19) (x := 19) rfl)
          refine q_E_T ?_
          exact dzj_M270_64_38 c d w (r18.1) j2662.1 (a1) (a2) (r18.2) (q_rg_le (L := 14) (U := 19) g2668 (by decide) (by decide)) (q_rg_le (L := 0) (U := 4095) ra2 (by decide) (by decide)) (q_rg_le (L := 0) (U := 255) j2662.2 (by decide) (by decide))
        | false =>
          refine q_E_F ?_
          cases h2669 : decide (a1 = 3) with
          | true =>
            exact (q_rg_no (q_rg_le (L := 15) (U := 3) ⟨g2666.1, (q_rg_eqT h2669 (q_rg_lit (n := 3) (x := 3) rfl)).2⟩ (by decide) (by decide)) (by decide)).elim
          | false =>
            refine q_E_F ?_
            cases h2670 : decide (a1 = 4) with
            | true =>
              exact (q_rg_no (q_rg_le (L := 15) (U := 4) ⟨g2666.1, (q_rg_eqT h2670 (q_rg_lit (n := 4) (x := 4) rfl)).2⟩ (by decide) (by decide)) (by decide)).elim
            | false =>
              refine q_E_F ?_
              cases h2671 : decide (a1 = 5) with
              | true =>
                exact (q_rg_no (q_rg_le (L := 15) (U := 5) ⟨g2666.1, (q_rg_eqT h2671 (q_rg_lit (n := 5) (x := 5) rfl)).2⟩ (by decide) (by decide)) (by decide)).elim
              | false =>
                refine q_E_F ?_
                obtain ⟨r22, e2673, j2672⟩ := dzj_M215_64 c d w (r18.1) j2662.1 (a2) ((r18.2 - 1) &&& 255) (q_rg_le (L := 0) (U := 4095) ra2 (by decide) (by decide)) (q_rg_le (L := 0) (U := 255) (q_rg_and (r18.2 - 1) 255 (U := 255) (by decide) rfl) (by decide) (by decide))
                rw [e2673]
                refine q_E_B ?_
                cases h2674 : decide (a1 = 18) with
                | true =>
                  have g2675 := q_rg_eqT h2674 (q_rg_lit (n := 18) (x := 18) rfl)
                  refine q_E_T ?_
                  obtain ⟨r23, e2677, j2676⟩ := dzj_M263_64 c d w (r22) j2672 (0) ((r18.2 - 1) &&& 255) (q_rg_le (L := 0) (U := 2) (q_rg_lit (n := 0) (x := 0) rfl) (by decide) (by decide)) (q_rg_le (L := 0) (U := 255) (q_rg_and (r18.2 - 1) 255 (U := 255) (by decide) rfl) (by decide) (by decide))
                  rw [e2677]
                  refine q_E_B ?_
                  exact q_E_x j2676
                | false =>
                  refine q_E_F ?_
                  have j2678 := dzj_M261_64 c d w (r22) j2672 ((r18.2 - 1) &&& 255) (q_rg_le (L := 0) (U := 255) (q_rg_and (r18.2 - 1) 255 (U := 255) (by decide) rfl) (by decide) (by decide))
                  refine q_E_L ?_
                  generalize dz_M261_64 r22 ((r18.2 - 1) &&& 255) = r24 at j2678 ⊢
                  exact q_E_x j2678.1
set_option maxHeartbeats 4000000 in
theorem dzj_M265_64 (c d w : Int) (s : q_S) (hI : q_Iv c d w s) (a1 : Int32) (a2 : Int32) (a3 : Int32) : (q_Iv c d w) (dz_M265_64 s a1 a2 a3) := by
  refine q_S_of (P := (q_Iv c d w)) ?_
  unfold dz_M265_64
  cases h2688 : decide (9 < ((a1 - a1 / 16 * 16) + (a2 - a2 / 16 * 16)) + a3) with
  | true =>
    have g2689 := (q_rg_ltT2 (L := 10) (u2 := 2147483647) h2688 (q_rg_lit (n := 9) (x := 9) rfl) (q_rg_full _) (by decide))
    refine q_S_T ?_
    cases h2690 : decide (9 < ((a1 / 16) + (a2 / 16)) + 1) with
    | true =>
      have g2691 := (q_rg_ltT2 (L := 10) (u2 := 2147483647) h2690 (q_rg_lit (n := 9) (x := 9) rfl) (q_rg_full _) (by decide))
      refine q_S_T ?_
      exact q_E_x (q_Iv_A (i := 14) (q_Iv_A (i := 15) hI (q_hf_up ((hI).1 15) (q_s15 (q_rg_le (L := 0) (U := 1) (q_rg_nb _) (by decide) (by decide))))) (q_hf_up ((hI).1 14) (q_sn0 (q_rg_le (L := 0) (U := 255) (q_rg_and ((16 * ((((a1 / 16) + (a2 / 16)) + 1) - 10)) + ((((a1 - a1 / 16 * 16) + (a2 - a2 / 16 * 16)) + a3) - 10)) 255 (U := 255) (by decide) rfl) (by decide) (by decide)))))
    | false =>
      have g2692 := (q_rg_ltF2 (l2 := -2147483648) (u := 9) h2690 (q_rg_lit (n := 9) (x := 9) rfl) (q_rg_full _))
      refine q_S_F ?_
      exact q_E_x (q_Iv_A (i := 14) (q_Iv_A (i := 15) hI (q_hf_up ((hI).1 15) (q_s15 (q_rg_le (L := 0) (U := 1) (q_rg_nb _) (by decide) (by decide))))) (q_hf_up ((hI).1 14) (q_sn0 (q_rg_le (L := 0) (U := 255) (q_rg_and ((16 * ((((a1 / 16) + (a2 / 16)) + 1) - 0)) + ((((a1 - a1 / 16 * 16) + (a2 - a2 / 16 * 16)) + a3) - 10)) 255 (U := 255) (by decide) rfl) (by decide) (by decide)))))
  | false =>
    have g2693 := (q_rg_ltF2 (l2 := -2147483648) (u := 9) h2688 (q_rg_lit (n := 9) (x := 9) rfl) (q_rg_full _))
    refine q_S_F ?_
    cases h2694 : decide (9 < ((a1 / 16) + (a2 / 16)) + 0) with
    | true =>
      have g2695 := (q_rg_ltT2 (L := 10) (u2 := 2147483647) h2694 (q_rg_lit (n := 9) (x := 9) rfl) (q_rg_full _) (by decide))
      refine q_S_T ?_
      exact q_E_x (q_Iv_A (i := 14) (q_Iv_A (i := 15) hI (q_hf_up ((hI).1 15) (q_s15 (q_rg_le (L := 0) (U := 1) (q_rg_nb _) (by decide) (by decide))))) (q_hf_up ((hI).1 14) (q_sn0 (q_rg_le (L := 0) (U := 255) (q_rg_and ((16 * ((((a1 / 16) + (a2 / 16)) + 0) - 10)) + ((((a1 - a1 / 16 * 16) + (a2 - a2 / 16 * 16)) + a3) - 0)) 255 (U := 255) (by decide) rfl) (by decide) (by decide)))))
    | false =>
      have g2696 := (q_rg_ltF2 (l2 := -2147483648) (u := 9) h2694 (q_rg_lit (n := 9) (x := 9) rfl) (q_rg_full _))
      refine q_S_F ?_
      exact q_E_x (q_Iv_A (i := 14) (q_Iv_A (i := 15) hI (q_hf_up ((hI).1 15) (q_s15 (q_rg_le (L := 0) (U := 1) (q_rg_nb _) (by decide) (by decide))))) (q_hf_up ((hI).1 14) (q_sn0 (q_rg_le (L := 0) (U := 255) (q_rg_and ((16 * ((((a1 / 16) + (a2 / 16)) + 0) - 0)) + ((((a1 - a1 / 16 * 16) + (a2 - a2 / 16 * 16)) + a3) - 0)) 255 (U := 255) (by decide) rfl) (by decide) (by decide)))))
set_option maxHeartbeats 4000000 in
theorem dzj_M267_64_t_56 (c d w : Int) (s : q_S) (hI : q_Iv c d w s) (v2 : Int32) (v3 : Int32) (v4 : Int32) (rv2 : q_rgz 0 255 v2) (rv3 : q_rgz 0 255 v3) (rv4 : q_rgz 0 1 v4) : q_Ex (dz_M267_64_t_56 s v2 v3 v4) (q_Iv c d w) := by
  unfold dz_M267_64_t_56
  cases h2721 : decide ((s.1 15) 2 = 0) with
  | true =>
    have g2722 := q_rg_eqT h2721 (q_rg_lit (n := 0) (x := 0) rfl)
    refine q_E_T ?_
    have j2723 := dzj_M261_64 c d w (s) hI ((s.1 14) 0) (q_rg_le (L := 0) (U := 255) (q_n0z hI) (by decide) (by decide))
    refine q_E_L ?_
    generalize dz_M261_64 s ((s.1 14) 0) = r4 at j2723 ⊢
    exact q_E_x j2723.1
  | false =>
    have g2724 := (q_rg_neL (l := 0) (u := 1) (n := 0) (L := 1) h2721 (q_r15 hI 2) rfl (by decide) (by decide))
    refine q_E_F ?_
    have j2725 := dzj_M266_64 c d w (s) hI (v3) (v2) (v4)
    refine q_E_L ?_
    generalize dz_M266_64 s v3 v2 v4 = r5 at j2725 ⊢
    have j2726 := dzj_M261_64 c d w (r5) j2725 ((r5.1 14) 0) (q_rg_le (L := 0) (U := 255) (q_n0z j2725) (by decide) (by decide))
    refine q_E_L ?_
    generalize dz_M261_64 r5 ((r5.1 14) 0) = r6 at j2726 ⊢
    exact q_E_x j2726.1
set_option maxHeartbeats 4000000 in
theorem dzj_M267_64_t (c d w : Int) (s : q_S) (hI : q_Iv c d w s) (a2 : Int32) (ra2 : q_rgz 0 255 a2) : q_Ex (dz_M267_64_t s a2) (q_Iv c d w) := by
  unfold dz_M267_64_t
  obtain ⟨r2, e2728, j2727⟩ := dzj_M257_64 c d w 1 (s) hI (5) (1)  (q_rg_le (L := 0) (U := 7) (q_rg_lit (n := 5) (x := 5) rfl) (by decide) (by decide)) (q_rg_le (L := 0) (U := 1) (q_rg_lit (n := 1) (x := 1) rfl) (by decide) (by decide))
  rw [e2728]
  refine q_E_B ?_
  obtain ⟨r3, e2730, j2729⟩ := dzj_M264_64 c d w (s) hI (a2) (q_rg_le (L := 0) (U := 255) ra2 (by decide) (by decide))
  rw [e2730]
  refine q_E_B ?_
  cases h2731 : decide ((r3.1 15) 2 = 0) with
  | true =>
    have g2732 := q_rg_eqT h2731 (q_rg_lit (n := 0) (x := 0) rfl)
    refine q_E_T ?_
    exact dzj_M267_64_t_56 c d w (r3) j2729 (a2) ((s.1 14) 0) (r2) (q_rg_le (L := 0) (U := 255) ra2 (by decide) (by decide)) (q_rg_le (L := 0) (U := 255) (q_n0z hI) (by decide) (by decide)) (q_rg_le (L := 0) (U := 1) j2727 (by decide) (by decide))
  | false =>
    have g2733 := (q_rg_neL (l := 0) (u := 1) (n := 0) (L := 1) h2731 (q_r15 j2729 2) rfl (by decide) (by decide))
    refine q_E_F ?_
    have j2734 := dzj_M265_64 c d w (r3) j2729 ((s.1 14) 0) (a2) (r2)
    refine q_E_L ?_
    generalize dz_M265_64 r3 ((s.1 14) 0) a2 r2 = r7 at j2734 ⊢
    have j2735 := dzj_M261_64 c d w (r7) j2734 ((r7.1 14) 0) (q_rg_le (L := 0) (U := 255) (q_n0z j2734) (by decide) (by decide))
    refine q_E_L ?_
    generalize dz_M261_64 r7 ((r7.1 14) 0) = r8 at j2735 ⊢
    exact q_E_x j2735.1
end
