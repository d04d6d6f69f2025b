section
variable {z L : Nat} {xs : Nat → Int32} {S : q_S} {c n k : Nat} {i : Int32}
theorem q_st17 (h : q_IV k S) (hk : k < 512) (hx : q_XS L i) (hF : q_F0 (q_vw 172 0 206 S)) (hv : xs i.toNatClampNeg &&& 63 = 17) : q_NX z L xs i S c n k := by
  obtain ⟨hx0, hx1, hx2, hx3, hi⟩ := hx
  obtain ⟨b, e0, e1⟩ := q_tIsP h.1 h.2
  exact ⟨_, _, _, q_rdn h, Nat.le_add_right c 1, Nat.le_add_right n 6, fun o ho => q_lw17t z L xs S c n i hx0 hx1 hx2 hx3 hi hv _ e0 _ e1 (decide_eq_true rfl) ho⟩
theorem q_st18 (h : q_IV k S) (hk : k < 512) (hx : q_XS L i) (hF : q_F0 (q_vw 172 0 206 S)) (hv : xs i.toNatClampNeg &&& 63 = 18) : q_NX z L xs i S c n k := by
  obtain ⟨hx0, hx1, hx2, hx3, hi⟩ := hx
  have e0 := q_tUnd h.1
  exact ⟨_, _, _, q_rdn h, Nat.le_add_right c 1, Nat.le_add_right n 6, fun o ho => q_lw18t z L xs S c n i hx0 hx1 hx2 hx3 hi hv _ e0 (decide_eq_true rfl) ho⟩
theorem q_st19 (h : q_IV k S) (hk : k < 512) (hx : q_XS L i) (hF : q_F0 (q_vw 172 0 206 S)) (hv : xs i.toNatClampNeg &&& 63 = 19) : q_NX z L xs i S c n k := by
  obtain ⟨hx0, hx1, hx2, hx3, hi⟩ := hx
  have e0 := q_tDon h.1
  exact ⟨_, _, _, q_rdn h, Nat.le_add_right c 1, Nat.le_add_right n 6, fun o ho => q_lw19t z L xs S c n i hx0 hx1 hx2 hx3 hi hv _ e0 (decide_eq_true rfl) ho⟩
theorem q_st20 (h : q_IV k S) (hk : k < 512) (hx : q_XS L i) (hF : q_F0 (q_vw 172 0 206 S)) (hv : xs i.toNatClampNeg &&& 63 = 20) : q_NX z L xs i S c n k := by
  obtain ⟨hx0, hx1, hx2, hx3, hi⟩ := hx
  obtain ⟨b, e0, e1⟩ := q_tJam h.1 h.2
  exact ⟨_, _, _, q_rdn h, Nat.le_add_right c 1, Nat.le_add_right n 6, fun o ho => q_lw20t z L xs S c n i hx0 hx1 hx2 hx3 hi hv _ e0 _ e1 (decide_eq_true rfl) ho⟩
theorem q_st21 (h : q_IV k S) (hk : k < 512) (hx : q_XS L i) (hF : q_F0 (q_vw 172 0 206 S)) (hv : xs i.toNatClampNeg &&& 63 = 21) : q_NX z L xs i S c n k := by
  obtain ⟨hx0, hx1, hx2, hx3, hi⟩ := hx
  obtain ⟨r0, r1, e0, e1, hN, hE, hC, hX⟩ := q_trn (ox := (some (dz_X13_64_236 (q_vw 172 0 206 S) (xs ((i + 1).toNatClampNeg))))) (F := fun m => dz_M243_64 m (xs ((i + 1).toNatClampNeg))) (cv := Int32.toInt64) (ex := True) h (fun m h1 h2 => q_tTra h1 h2 (by omega) (xs ((i + 1).toNatClampNeg))) (fun m h2 => dzj_M243_64 _ _ 40 (by omega) m h2 (xs ((i + 1).toNatClampNeg))) (fun x p => q_IVup p)
  have e0 := Option.some.inj e0
  have hT : decide (dz_M199_64 (q_vw 34 172 0 (q_pt 34 0 172 0 (q_pt 172 1 0 206 S r0.1) r1.1)) = r0.2.1) = true := decide_eq_true hC
  cases hk0 : decide (r0.2.1 = 0) with
  | false => exact ⟨_, _, _, hN, Nat.add_le_add_left hE c, by omega, fun o ho => q_lw21tf z L xs S c n i hx0 hx1 hx2 hx3 hi hv r0 e0 r1 e1 hT hk0 ho⟩
  | true =>
    have hV := hX trivial (of_decide_eq_true hk0)
    have hO : (q_pt 34 0 172 0 (q_pt 172 1 0 206 S r0.1) r1.1).2.2 206 0 = r0.1.2.2 172 0 := rfl
    exact ⟨_, _, _, hN, Nat.add_le_add_left hE c, by omega, fun o ho => q_lw21ttt z L xs S c n i hx0 hx1 hx2 hx3 hi hv r0 e0 r1 e1 hT hk0 (by
      show decide (lg_cmp (((q_pt 34 0 172 0 (q_pt 172 1 0 206 S r0.1) r1.1).2.2 206) 0) r1.2.toInt64 = 0) = true
      rw [hO, hV]
      exact q_cmp0 _) ho⟩
theorem q_st22 (h : q_IV k S) (hk : k < 512) (hx : q_XS L i) (hF : q_F0 (q_vw 172 0 206 S)) (hv : xs i.toNatClampNeg &&& 63 = 22) : q_NX z L xs i S c n k := by
  obtain ⟨hx0, hx1, hx2, hx3, hi⟩ := hx
  obtain ⟨r0, r1, e0, e1, hN, hE, hC, hX⟩ := q_trn (ox := (some (dz_X14_64_236 (q_vw 172 0 206 S) (xs ((i + 1).toNatClampNeg)) (xs ((i + 2).toNatClampNeg))))) (F := fun m => dz_M294_64 m (xs ((i + 1).toNatClampNeg)) (xs ((i + 2).toNatClampNeg))) (cv := Int32.toInt64) (ex := True) h (fun m h1 h2 => q_tPix h1 h2 (xs ((i + 1).toNatClampNeg)) (xs ((i + 2).toNatClampNeg))) (fun m h2 => dzj_M294_64 _ _ 40 m h2 (xs ((i + 1).toNatClampNeg)) (xs ((i + 2).toNatClampNeg))) (fun x p => q_IVup p)
  have e0 := Option.some.inj e0
  have hT : decide (dz_M199_64 (q_vw 34 172 0 (q_pt 34 0 172 0 (q_pt 172 1 0 206 S r0.1) r1.1)) = r0.2.1) = true := decide_eq_true hC
  cases hk0 : decide (r0.2.1 = 0) with
  | false => exact ⟨_, _, _, hN, Nat.add_le_add_left hE c, by omega, fun o ho => q_lw22tf z L xs S c n i hx0 hx1 hx2 hx3 hi hv r0 e0 r1 e1 hT hk0 ho⟩
  | true =>
    have hV := hX trivial (of_decide_eq_true hk0)
    have hO : (q_pt 34 0 172 0 (q_pt 172 1 0 206 S r0.1) r1.1).2.2 206 0 = r0.1.2.2 172 0 := rfl
    exact ⟨_, _, _, hN, Nat.add_le_add_left hE c, by omega, fun o ho => q_lw22ttt z L xs S c n i hx0 hx1 hx2 hx3 hi hv r0 e0 r1 e1 hT hk0 (by
      show decide (lg_cmp (((q_pt 34 0 172 0 (q_pt 172 1 0 206 S r0.1) r1.1).2.2 206) 0) r1.2.toInt64 = 0) = true
      rw [hO, hV]
      exact q_cmp0 _) ho⟩
theorem q_st23 (h : q_IV k S) (hk : k < 512) (hx : q_XS L i) (hF : q_F0 (q_vw 172 0 206 S)) (hv : xs i.toNatClampNeg &&& 63 = 23) : q_NX z L xs i S c n k := by
  obtain ⟨hx0, hx1, hx2, hx3, hi⟩ := hx
  obtain ⟨r0, r1, e0, e1, hN, hE, hC, hX⟩ := q_trn (ox := (dz_X15_64_236 (q_vw 172 0 206 S) (xs ((i + 1).toNatClampNeg)) (xs ((i + 2).toNatClampNeg)))) (F := fun m => dz_M295_64 m (xs ((i + 1).toNatClampNeg)) (xs ((i + 2).toNatClampNeg))) (cv := Int32.toInt64) (ex := True) h (fun m h1 h2 => q_tAgnF h1 hF (xs ((i + 1).toNatClampNeg)) (xs ((i + 2).toNatClampNeg))) (fun m h2 => dzj_M295_64 _ _ 40 m h2 (xs ((i + 1).toNatClampNeg)) (xs ((i + 2).toNatClampNeg))) (fun x p => q_IVup p)
  have hT : decide (dz_M199_64 (q_vw 34 172 0 (q_pt 34 0 172 0 (q_pt 172 1 0 206 S r0.1) r1.1)) = r0.2.1) = true := decide_eq_true hC
  cases hk0 : decide (r0.2.1 = 0) with
  | false => exact ⟨_, _, _, hN, Nat.add_le_add_left hE c, by omega, fun o ho => q_lw23tf z L xs S c n i hx0 hx1 hx2 hx3 hi hv r0 e0 r1 e1 hT hk0 ho⟩
  | true =>
    have hV := hX trivial (of_decide_eq_true hk0)
    have hO : (q_pt 34 0 172 0 (q_pt 172 1 0 206 S r0.1) r1.1).2.2 206 0 = r0.1.2.2 172 0 := rfl
    exact ⟨_, _, _, hN, Nat.add_le_add_left hE c, by omega, fun o ho => q_lw23ttt z L xs S c n i hx0 hx1 hx2 hx3 hi hv r0 e0 r1 e1 hT hk0 (by
      show decide (lg_cmp (((q_pt 34 0 172 0 (q_pt 172 1 0 206 S r0.1) r1.1).2.2 206) 0) r1.2.toInt64 = 0) = true
      rw [hO, hV]
      exact q_cmp0 _) ho⟩
theorem q_st24 (h : q_IV k S) (hk : k < 512) (hx : q_XS L i) (hF : q_F0 (q_vw 172 0 206 S)) (hv : xs i.toNatClampNeg &&& 63 = 24) : q_NX z L xs i S c n k := by
  obtain ⟨hx0, hx1, hx2, hx3, hi⟩ := hx
  obtain ⟨r0, r1, e0, e1, hN, hE, hC, hX⟩ := q_trn (ox := (some (dz_X16_64_236 (q_vw 172 0 206 S) (xs ((i + 1).toNatClampNeg))))) (F := fun m => dz_M296_64 m (xs ((i + 1).toNatClampNeg))) (cv := Int32.toInt64) (ex := True) h (fun m h1 h2 => q_tSmp h1 h2 (xs ((i + 1).toNatClampNeg))) (fun m h2 => dzj_M296_64 _ _ 40 m h2 (xs ((i + 1).toNatClampNeg))) (fun x p => q_IVup p)
  have e0 := Option.some.inj e0
  have hT : decide (dz_M199_64 (q_vw 34 172 0 (q_pt 34 0 172 0 (q_pt 172 1 0 206 S r0.1) r1.1)) = r0.2.1) = true := decide_eq_true hC
  cases hk0 : decide (r0.2.1 = 0) with
  | false => exact ⟨_, _, _, hN, Nat.add_le_add_left hE c, by omega, fun o ho => q_lw24tf z L xs S c n i hx0 hx1 hx2 hx3 hi hv r0 e0 r1 e1 hT hk0 ho⟩
  | true =>
    have hV := hX trivial (of_decide_eq_true hk0)
    have hO : (q_pt 34 0 172 0 (q_pt 172 1 0 206 S r0.1) r1.1).2.2 206 0 = r0.1.2.2 172 0 := rfl
    exact ⟨_, _, _, hN, Nat.add_le_add_left hE c, by omega, fun o ho => q_lw24ttt z L xs S c n i hx0 hx1 hx2 hx3 hi hv r0 e0 r1 e1 hT hk0 (by
      show decide (lg_cmp (((q_pt 34 0 172 0 (q_pt 172 1 0 206 S r0.1) r1.1).2.2 206) 0) r1.2.toInt64 = 0) = true
      rw [hO, hV]
      exact q_cmp0 _) ho⟩
theorem q_st25 (h : q_IV k S) (hk : k < 512) (hx : q_XS L i) (hF : q_F0 (q_vw 172 0 206 S)) (hv : xs i.toNatClampNeg &&& 63 = 25) : q_NX z L xs i S c n k := by
  obtain ⟨hx0, hx1, hx2, hx3, hi⟩ := hx
  obtain ⟨r0, r1, e0, e1, hN, hE, hC, hX⟩ := q_trn (ox := (some (dz_X17_64_236 (q_vw 172 0 206 S) (xs ((i + 1).toNatClampNeg))))) (F := fun m => dz_M297_64 m (xs ((i + 1).toNatClampNeg))) (cv := Int32.toInt64) (ex := True) h (fun m h1 h2 => q_tLvl h1 h2 (xs ((i + 1).toNatClampNeg))) (fun m h2 => dzj_M297_64 _ _ 40 m h2 (xs ((i + 1).toNatClampNeg))) (fun x p => q_IVup p)
  have e0 := Option.some.inj e0
  have hT : decide (dz_M199_64 (q_vw 34 172 0 (q_pt 34 0 172 0 (q_pt 172 1 0 206 S r0.1) r1.1)) = r0.2.1) = true := decide_eq_true hC
  cases hk0 : decide (r0.2.1 = 0) with
  | false => exact ⟨_, _, _, hN, Nat.add_le_add_left hE c, by omega, fun o ho => q_lw25tf z L xs S c n i hx0 hx1 hx2 hx3 hi hv r0 e0 r1 e1 hT hk0 ho⟩
  | true =>
    have hV := hX trivial (of_decide_eq_true hk0)
    have hO : (q_pt 34 0 172 0 (q_pt 172 1 0 206 S r0.1) r1.1).2.2 206 0 = r0.1.2.2 172 0 := rfl
    exact ⟨_, _, _, hN, Nat.add_le_add_left hE c, by omega, fun o ho => q_lw25ttt z L xs S c n i hx0 hx1 hx2 hx3 hi hv r0 e0 r1 e1 hT hk0 (by
      show decide (lg_cmp (((q_pt 34 0 172 0 (q_pt 172 1 0 206 S r0.1) r1.1).2.2 206) 0) r1.2.toInt64 = 0) = true
      rw [hO, hV]
      exact q_cmp0 _) ho⟩
theorem q_st26t (h : q_IV k S) (hk : k < 512) (hx : q_XS L i) (hF : q_F0 (q_vw 172 0 206 S)) (hv : xs i.toNatClampNeg &&& 63 = 26) (hc0 : decide (xs ((i + 3).toNatClampNeg) = 0) = true) : q_NX z L xs i S c n k := by
  obtain ⟨hx0, hx1, hx2, hx3, hi⟩ := hx
  obtain ⟨r0, r1, e0, e1, hN, hE, hC, hX⟩ := q_trn (ox := (dz_X18_64_f_236 (q_vw 172 0 206 S) (xs ((i + 1).toNatClampNeg)) (xs ((i + 2).toNatClampNeg)))) (F := fun m => dz_M298_64 m (xs ((i + 1).toNatClampNeg)) (xs ((i + 2).toNatClampNeg)) 0) (cv := q_kb) (ex := True) h (fun m h1 h2 => q_tKeyf h1 h2 (by omega) (xs ((i + 1).toNatClampNeg)) (xs ((i + 2).toNatClampNeg))) (fun m h2 => dzj_M298_64 _ _ 40 m h2 (xs ((i + 1).toNatClampNeg)) (xs ((i + 2).toNatClampNeg)) 0 ⟨by decide, by decide⟩) (fun x p => q_IVup p)
  have hT : decide (dz_M199_64 (q_vw 34 172 0 (q_pt 34 0 172 0 (q_pt 172 1 0 206 S r0.1) r1.1)) = r0.2.1) = true := decide_eq_true hC
  cases hk0 : decide (r0.2.1 = 0) with
  | false => exact ⟨_, _, _, hN, Nat.add_le_add_left hE c, by omega, fun o ho => q_lw26ttf z L xs S c n i hx0 hx1 hx2 hx3 hi hv r0 e0 r1 e1 hc0 hT hk0 ho⟩
  | true =>
    have hV := hX trivial (of_decide_eq_true hk0)
    have hO : (q_pt 34 0 172 0 (q_pt 172 1 0 206 S r0.1) r1.1).2.2 206 0 = r0.1.2.2 172 0 := rfl
    cases hb : r1.2 with
    | false => exact ⟨_, _, _, hN, Nat.add_le_add_left hE c, by omega, fun o ho => q_lw26ttttt z L xs S c n i hx0 hx1 hx2 hx3 hi hv r0 e0 r1 e1 hc0 hT hk0 (by rw [hb]; rfl) (by
      show decide (lg_cmp (((q_pt 34 0 172 0 (q_pt 172 1 0 206 S r0.1) r1.1).2.2 206) 0) 0 = 0) = true
      rw [hO, hV, hb]
      exact q_cmp0 0) ho⟩
    | true => exact ⟨_, _, _, hN, Nat.add_le_add_left hE c, by omega, fun o ho => q_lw26tttft z L xs S c n i hx0 hx1 hx2 hx3 hi hv r0 e0 r1 e1 hc0 hT hk0 (by rw [hb]; rfl) (by
      show decide (lg_cmp (((q_pt 34 0 172 0 (q_pt 172 1 0 206 S r0.1) r1.1).2.2 206) 0) 1 = 0) = true
      rw [hO, hV, hb]
      exact q_cmp0 1) ho⟩
theorem q_st26f (h : q_IV k S) (hk : k < 512) (hx : q_XS L i) (hF : q_F0 (q_vw 172 0 206 S)) (hv : xs i.toNatClampNeg &&& 63 = 26) (hc0 : decide (xs ((i + 3).toNatClampNeg) = 0) = false) : q_NX z L xs i S c n k := by
  obtain ⟨hx0, hx1, hx2, hx3, hi⟩ := hx
  obtain ⟨r0, r1, e0, e1, hN, hE, hC, hX⟩ := q_trn (ox := (dz_X18_64_t_236 (q_vw 172 0 206 S) (xs ((i + 1).toNatClampNeg)) (xs ((i + 2).toNatClampNeg)))) (F := fun m => dz_M298_64 m (xs ((i + 1).toNatClampNeg)) (xs ((i + 2).toNatClampNeg)) 1) (cv := q_kb) (ex := True) h (fun m h1 h2 => q_tKeyt h1 h2 (by omega) (xs ((i + 1).toNatClampNeg)) (xs ((i + 2).toNatClampNeg))) (fun m h2 => dzj_M298_64 _ _ 40 m h2 (xs ((i + 1).toNatClampNeg)) (xs ((i + 2).toNatClampNeg)) 1 ⟨by decide, by decide⟩) (fun x p => q_IVup p)
  have hT : decide (dz_M199_64 (q_vw 34 172 0 (q_pt 34 0 172 0 (q_pt 172 1 0 206 S r0.1) r1.1)) = r0.2.1) = true := decide_eq_true hC
  cases hk0 : decide (r0.2.1 = 0) with
  | false => exact ⟨_, _, _, hN, Nat.add_le_add_left hE c, by omega, fun o ho => q_lw26ftf z L xs S c n i hx0 hx1 hx2 hx3 hi hv r0 e0 r1 e1 hc0 hT hk0 ho⟩
  | true =>
    have hV := hX trivial (of_decide_eq_true hk0)
    have hO : (q_pt 34 0 172 0 (q_pt 172 1 0 206 S r0.1) r1.1).2.2 206 0 = r0.1.2.2 172 0 := rfl
    cases hb : r1.2 with
    | false => exact ⟨_, _, _, hN, Nat.add_le_add_left hE c, by omega, fun o ho => q_lw26ftttt z L xs S c n i hx0 hx1 hx2 hx3 hi hv r0 e0 r1 e1 hc0 hT hk0 (by rw [hb]; rfl) (by
      show decide (lg_cmp (((q_pt 34 0 172 0 (q_pt 172 1 0 206 S r0.1) r1.1).2.2 206) 0) 0 = 0) = true
      rw [hO, hV, hb]
      exact q_cmp0 0) ho⟩
    | true => exact ⟨_, _, _, hN, Nat.add_le_add_left hE c, by omega, fun o ho => q_lw26fttft z L xs S c n i hx0 hx1 hx2 hx3 hi hv r0 e0 r1 e1 hc0 hT hk0 (by rw [hb]; rfl) (by
      show decide (lg_cmp (((q_pt 34 0 172 0 (q_pt 172 1 0 206 S r0.1) r1.1).2.2 206) 0) 1 = 0) = true
      rw [hO, hV, hb]
      exact q_cmp0 1) ho⟩
theorem q_st27 (h : q_IV k S) (hk : k < 512) (hx : q_XS L i) (hF : q_F0 (q_vw 172 0 206 S)) (hv : xs i.toNatClampNeg &&& 63 = 27) : q_NX z L xs i S c n k := by
  obtain ⟨hx0, hx1, hx2, hx3, hi⟩ := hx
  obtain ⟨r0, r1, e0, e1, hN, hE, hC, hX⟩ := q_trn (ox := (some (dz_X19_64_236 (q_vw 172 0 206 S) (xs ((i + 1).toNatClampNeg))))) (F := fun m => dz_M299_64 m (xs ((i + 1).toNatClampNeg))) (cv := Int32.toInt64) (ex := True) h (fun m h1 h2 => q_tCol h1 h2 (xs ((i + 1).toNatClampNeg))) (fun m h2 => dzj_M299_64 _ _ 40 m h2 (xs ((i + 1).toNatClampNeg))) (fun x p => q_IVup p)
  have e0 := Option.some.inj e0
  have hT : decide (dz_M199_64 (q_vw 34 172 0 (q_pt 34 0 172 0 (q_pt 172 1 0 206 S r0.1) r1.1)) = r0.2.1) = true := decide_eq_true hC
  cases hk0 : decide (r0.2.1 = 0) with
  | false => exact ⟨_, _, _, hN, Nat.add_le_add_left hE c, by omega, fun o ho => q_lw27tf z L xs S c n i hx0 hx1 hx2 hx3 hi hv r0 e0 r1 e1 hT hk0 ho⟩
  | true =>
    have hV := hX trivial (of_decide_eq_true hk0)
    have hO : (q_pt 34 0 172 0 (q_pt 172 1 0 206 S r0.1) r1.1).2.2 206 0 = r0.1.2.2 172 0 := rfl
    exact ⟨_, _, _, hN, Nat.add_le_add_left hE c, by omega, fun o ho => q_lw27ttt z L xs S c n i hx0 hx1 hx2 hx3 hi hv r0 e0 r1 e1 hT hk0 (by
      show decide (lg_cmp (((q_pt 34 0 172 0 (q_pt 172 1 0 206 S r0.1) r1.1).2.2 206) 0) r1.2.toInt64 = 0) = true
      rw [hO, hV]
      exact q_cmp0 _) ho⟩
theorem q_st28 (h : q_IV k S) (hk : k < 512) (hx : q_XS L i) (hF : q_F0 (q_vw 172 0 206 S)) (hv : xs i.toNatClampNeg &&& 63 = 28) : q_NX z L xs i S c n k := by
  obtain ⟨hx0, hx1, hx2, hx3, hi⟩ := hx
  obtain ⟨r0, r1, e0, e1, hN, hE, hC, hX⟩ := q_trn (ox := (dz_X20_64_236 (q_vw 172 0 206 S) (xs ((i + 1).toNatClampNeg)))) (F := fun m => some (dz_M300_64 m (xs ((i + 1).toNatClampNeg)))) (cv := Int32.toInt64) (ex := True) h (fun m h1 h2 => q_tJoy h1 h2 (by omega) (xs ((i + 1).toNatClampNeg))) (fun m h2 => q_E_x (dzj_M300_64 _ _ 40 m h2 (xs ((i + 1).toNatClampNeg)))) (fun x p => q_IVup p)
  have e1 := Option.some.inj e1
  have hT : decide (dz_M199_64 (q_vw 34 172 0 (q_pt 34 0 172 0 (q_pt 172 1 0 206 S r0.1) r1.1)) = r0.2.1) = true := decide_eq_true hC
  cases hk0 : decide (r0.2.1 = 0) with
  | false => exact ⟨_, _, _, hN, Nat.add_le_add_left hE c, by omega, fun o ho => q_lw28tf z L xs S c n i hx0 hx1 hx2 hx3 hi hv r0 e0 r1 e1 hT hk0 ho⟩
  | true =>
    have hV := hX trivial (of_decide_eq_true hk0)
    have hO : (q_pt 34 0 172 0 (q_pt 172 1 0 206 S r0.1) r1.1).2.2 206 0 = r0.1.2.2 172 0 := rfl
    exact ⟨_, _, _, hN, Nat.add_le_add_left hE c, by omega, fun o ho => q_lw28ttt z L xs S c n i hx0 hx1 hx2 hx3 hi hv r0 e0 r1 e1 hT hk0 (by
      show decide (lg_cmp (((q_pt 34 0 172 0 (q_pt 172 1 0 206 S r0.1) r1.1).2.2 206) 0) r1.2.toInt64 = 0) = true
      rw [hO, hV]
      exact q_cmp0 _) ho⟩
theorem q_st29 (h : q_IV k S) (hk : k < 512) (hx : q_XS L i) (hF : q_F0 (q_vw 172 0 206 S)) (hv : xs i.toNatClampNeg &&& 63 = 29) : q_NX z L xs i S c n k := by
  obtain ⟨hx0, hx1, hx2, hx3, hi⟩ := hx
  obtain ⟨r0, r1, e0, e1, hN, hE, hC, hX⟩ := q_trn (ox := (dz_X21_64_236 (q_vw 172 0 206 S) (xs ((i + 1).toNatClampNeg)))) (F := fun m => dz_M301_64 m (xs ((i + 1).toNatClampNeg))) (cv := Int32.toInt64) (ex := True) h (fun m h1 h2 => q_tPul h1 h2 (by omega) (xs ((i + 1).toNatClampNeg))) (fun m h2 => dzj_M301_64 _ _ 40 m h2 (xs ((i + 1).toNatClampNeg))) (fun x p => q_IVup p)
  have hT : decide (dz_M199_64 (q_vw 34 172 0 (q_pt 34 0 172 0 (q_pt 172 1 0 206 S r0.1) r1.1)) = r0.2.1) = true := decide_eq_true hC
  cases hk0 : decide (r0.2.1 = 0) with
  | false => exact ⟨_, _, _, hN, Nat.add_le_add_left hE c, by omega, fun o ho => q_lw29tf z L xs S c n i hx0 hx1 hx2 hx3 hi hv r0 e0 r1 e1 hT hk0 ho⟩
  | true =>
    have hV := hX trivial (of_decide_eq_true hk0)
    have hO : (q_pt 34 0 172 0 (q_pt 172 1 0 206 S r0.1) r1.1).2.2 206 0 = r0.1.2.2 172 0 := rfl
    exact ⟨_, _, _, hN, Nat.add_le_add_left hE c, by omega, fun o ho => q_lw29ttt z L xs S c n i hx0 hx1 hx2 hx3 hi hv r0 e0 r1 e1 hT hk0 (by
      show decide (lg_cmp (((q_pt 34 0 172 0 (q_pt 172 1 0 206 S r0.1) r1.1).2.2 206) 0) r1.2.toInt64 = 0) = true
      rw [hO, hV]
      exact q_cmp0 _) ho⟩
theorem q_st30 (h : q_IV k S) (hk : k < 512) (hx : q_XS L i) (hF : q_F0 (q_vw 172 0 206 S)) (hv : xs i.toNatClampNeg &&& 63 = 30) : q_NX z L xs i S c n k := by
  obtain ⟨hx0, hx1, hx2, hx3, hi⟩ := hx
  have hk9 : (k : Int) < 512 := by omega
  have hk8 : 0 ≤ (k : Int) := by omega
  obtain ⟨r0, r1, e0, e1, hN, hQ⟩ := q_trw (ox := dz_X58_64 (q_vw 172 0 206 S)) (F := fun m => some (dz_M302_64 m)) (Q := fun r0 r1 => r1.1.2.1 0 39 = 0 ∧ r0.2 = r1.2) h (fun m h1 h2 => by
    obtain ⟨r0, r1, e0, e1, g⟩ := q_tRew h1 h2 hk9
    exact ⟨r0, r1, e0, congrArg some e1, g⟩) (fun m h2 => q_E_x (dzj_M302_64 _ _ 40 m h2)) (fun x p => q_IVup p)
  have e1 := Option.some.inj e1
  exact ⟨_, _, _, hN, Nat.le_add_right c 1, Nat.le_add_right n 6, fun o ho => q_lw30t z L xs S c n i hx0 hx1 hx2 hx3 hi hv r0 e0 r1 e1 (decide_eq_true hQ.2) ho⟩
theorem q_st31 (h : q_IV k S) (hk : k < 512) (hx : q_XS L i) (hF : q_F0 (q_vw 172 0 206 S)) (hv : xs i.toNatClampNeg &&& 63 = 31) : q_NX z L xs i S c n k := by
  obtain ⟨hx0, hx1, hx2, hx3, hi⟩ := hx
  have e0 := q_tLft h.1
  exact ⟨_, _, _, q_rdn h, Nat.le_add_right c 1, Nat.le_add_right n 6, fun o ho => q_lw31t z L xs S c n i hx0 hx1 hx2 hx3 hi hv _ e0 (decide_eq_true rfl) ho⟩
theorem q_st32 (h : q_IV k S) (hk : k < 512) (hx : q_XS L i) (hF : q_F0 (q_vw 172 0 206 S)) (hv : xs i.toNatClampNeg &&& 63 = 32) : q_NX z L xs i S c n k := by
  obtain ⟨hx0, hx1, hx2, hx3, hi⟩ := hx
  obtain ⟨r0, r1, e0, e1, hN, hE, hC, hX⟩ := q_trn (ox := (dz_X22_64_236 (q_vw 172 0 206 S))) (F := fun m => dz_M306_64 m) (cv := Int32.toInt64) (ex := True) h (fun m h1 h2 => q_tSav h1 h2) (fun m h2 => dzj_M306_64 _ _ 40 m h2) (fun x p => q_IVup p)
  have hT : decide (dz_M199_64 (q_vw 34 172 0 (q_pt 34 0 172 0 (q_pt 172 1 0 206 S r0.1) r1.1)) = r0.2.1) = true := decide_eq_true hC
  cases hk0 : decide (r0.2.1 = 0) with
  | false => exact ⟨_, _, _, hN, Nat.add_le_add_left hE c, by omega, fun o ho => q_lw32tf z L xs S c n i hx0 hx1 hx2 hx3 hi hv r0 e0 r1 e1 hT hk0 ho⟩
  | true =>
    have hV := hX trivial (of_decide_eq_true hk0)
    have hO : (q_pt 34 0 172 0 (q_pt 172 1 0 206 S r0.1) r1.1).2.2 206 0 = r0.1.2.2 172 0 := rfl
    exact ⟨_, _, _, hN, Nat.add_le_add_left hE c, by omega, fun o ho => q_lw32ttt z L xs S c n i hx0 hx1 hx2 hx3 hi hv r0 e0 r1 e1 hT hk0 (by
      show decide (lg_cmp (((q_pt 34 0 172 0 (q_pt 172 1 0 206 S r0.1) r1.1).2.2 206) 0) r1.2.toInt64 = 0) = true
      rw [hO, hV]
      exact q_cmp0 _) ho⟩
end
