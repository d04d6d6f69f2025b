section
variable {z L : Nat} {xs : Nat → Int32} {S : q_S} {c n k : Nat} {i : Int32}
/-- the next turn's head is reached -/
def q_NX (z L : Nat) (xs : Nat → Int32) (i : Int32) (S : q_S) (c n k : Nat) : Prop := ∃ S2 c2 n2, q_IV (k + 1) S2 ∧ c2 ≤ c + 1 ∧ n2 ≤ n + 6 ∧ ∀ o, q_Ru (q_TBs z L xs) 20 376 (23, [(4, .int (i + 4)), (3, .ref 270), (2, .ref 236), (1, .ref 64), (0, .ref 0)], [], (q_kL S2 c2 n2)) o → q_Ru (q_TBs z L xs) 20 376 (23, [(4, .int i), (3, .ref 270), (2, .ref 236), (1, .ref 64), (0, .ref 0)], [], (q_kL S c n)) o
def q_XS (L : Nat) (i : Int32) : Prop := q_in i L = true ∧ q_in (i + 1) L = true ∧ q_in (i + 2) L = true ∧ q_in (i + 3) L = true ∧ decide (Int32.ofNat L - 4 < i) = false
theorem q_st0 (h : q_IV k S) (hk : k < 512) (hx : q_XS L i) (hv : xs i.toNatClampNeg &&& 63 = 0) : q_NX z L xs i S c n k := by
  obtain ⟨hx0, hx1, hx2, hx3, hi⟩ := hx
  obtain ⟨r0, r1, e0, e1, hN, hE, hC, hX⟩ := q_trn (ox := (dz_X0_64_236 (q_vw 172 0 206 S) (xs ((i + 1).toNatClampNeg)) (xs ((i + 2).toNatClampNeg)))) (F := fun m => dz_M216_64 m (xs ((i + 1).toNatClampNeg)) (xs ((i + 2).toNatClampNeg))) (cv := Int32.toInt64) (ex := True) h (fun m h1 h2 => q_tPoke h1 h2 (by omega) (xs ((i + 1).toNatClampNeg)) (xs ((i + 2).toNatClampNeg))) (fun m h2 => dzj_M216_64 _ _ 40 m h2 (xs ((i + 1).toNatClampNeg)) (xs ((i + 2).toNatClampNeg))) (fun x p => q_IVup p.1)
  exact ⟨_, _, _, hN, Nat.add_le_add_left hE c, by omega, fun o ho => q_lw0 z L xs S c n i hx0 hx1 hx2 hx3 hi hv r0 e0 r1 e1 ho⟩
theorem q_st1 (h : q_IV k S) (hk : k < 512) (hx : q_XS L i) (hv : xs i.toNatClampNeg &&& 63 = 1) : q_NX z L xs i S c n k := by
  obtain ⟨hx0, hx1, hx2, hx3, hi⟩ := hx
  obtain ⟨r0, r1, e0, e1, hN, hE, hC, hX⟩ := q_trn (ox := (dz_X1_64_236 (q_vw 172 0 206 S) (xs ((i + 1).toNatClampNeg)) (xs ((i + 2).toNatClampNeg)))) (F := fun m => dz_M217_64 m (xs ((i + 1).toNatClampNeg)) (xs ((i + 2).toNatClampNeg))) (cv := Int32.toInt64) (ex := True) h (fun m h1 h2 => q_tRom h1 h2 (by omega) (xs ((i + 1).toNatClampNeg)) (xs ((i + 2).toNatClampNeg))) (fun m h2 => dzj_M217_64 _ _ 40 m h2 (xs ((i + 1).toNatClampNeg)) (xs ((i + 2).toNatClampNeg))) (fun x p => q_IVup p.1)
  exact ⟨_, _, _, hN, Nat.add_le_add_left hE c, by omega, fun o ho => q_lw1 z L xs S c n i hx0 hx1 hx2 hx3 hi hv r0 e0 r1 e1 ho⟩
theorem q_st2 (h : q_IV k S) (hk : k < 512) (hx : q_XS L i) (hv : xs i.toNatClampNeg &&& 63 = 2) : q_NX z L xs i S c n k := by
  obtain ⟨hx0, hx1, hx2, hx3, hi⟩ := hx
  obtain ⟨r0, r1, e0, e1, hN, hE, hC, hX⟩ := q_trn (ox := (dz_X2_64_236 (q_vw 172 0 206 S) (xs ((i + 1).toNatClampNeg)) (xs ((i + 2).toNatClampNeg)) (xs ((i + 3).toNatClampNeg)))) (F := fun m => dz_M218_64 m (xs ((i + 1).toNatClampNeg)) (xs ((i + 2).toNatClampNeg)) (xs ((i + 3).toNatClampNeg))) (cv := Int32.toInt64) (ex := True) h (fun m h1 h2 => q_tCar h1 h2 (by omega) (xs ((i + 1).toNatClampNeg)) (xs ((i + 2).toNatClampNeg)) (xs ((i + 3).toNatClampNeg))) (fun m h2 => dzj_M218_64 _ _ 40 m h2 (xs ((i + 1).toNatClampNeg)) (xs ((i + 2).toNatClampNeg)) (xs ((i + 3).toNatClampNeg))) (fun x p => q_IVup p.1)
  have hT : decide (dz_M199_64 (q_vw 34 172 0 (q_pt 34 0 172 0 (q_pt 172 1 0 206 S r0.1) r1.1)) = r0.2.1) = true := decide_eq_true hC
  cases hk0 : decide (r0.2.1 = 0) with
  | false => exact ⟨_, _, _, hN, Nat.add_le_add_left hE c, by omega, fun o ho => q_lw2tf z L xs S c n i hx0 hx1 hx2 hx3 hi hv r0 e0 r1 e1 hT hk0 ho⟩
  | true =>
    have hV := hX trivial (of_decide_eq_true hk0)
    have hO : (q_pt 34 0 172 0 (q_pt 172 1 0 206 S r0.1) r1.1).2.2 206 0 = r0.1.2.2 172 0 := rfl
    exact ⟨_, _, _, hN, Nat.add_le_add_left hE c, by omega, fun o ho => q_lw2ttt z L xs S c n i hx0 hx1 hx2 hx3 hi hv r0 e0 r1 e1 hT hk0 (by
      show decide (lg_cmp (((q_pt 34 0 172 0 (q_pt 172 1 0 206 S r0.1) r1.1).2.2 206) 0) r1.2.toInt64 = 0) = true
      rw [hO, hV]
      exact q_cmp0 _) ho⟩
theorem q_st3 (h : q_IV k S) (hk : k < 512) (hx : q_XS L i) (hv : xs i.toNatClampNeg &&& 63 = 3) : q_NX z L xs i S c n k := by
  obtain ⟨hx0, hx1, hx2, hx3, hi⟩ := hx
  obtain ⟨r0, r1, e0, e1, hN, hE, hC, hX⟩ := q_trn (ox := (dz_X3_64_236 (q_vw 172 0 206 S) (xs ((i + 1).toNatClampNeg)))) (F := fun m => dz_M219_64 m (xs ((i + 1).toNatClampNeg))) (cv := Int32.toInt64) (ex := True) h (fun m h1 h2 => q_tPeek h1 h2 (xs ((i + 1).toNatClampNeg))) (fun m h2 => dzj_M219_64 _ _ 40 m h2 (xs ((i + 1).toNatClampNeg))) (fun x p => q_IVup p.1)
  exact ⟨_, _, _, hN, Nat.add_le_add_left hE c, by omega, fun o ho => q_lw3 z L xs S c n i hx0 hx1 hx2 hx3 hi hv r0 e0 r1 e1 ho⟩
theorem q_st4 (h : q_IV k S) (hk : k < 512) (hx : q_XS L i) (hv : xs i.toNatClampNeg &&& 63 = 4) : q_NX z L xs i S c n k := by
  obtain ⟨hx0, hx1, hx2, hx3, hi⟩ := hx
  obtain ⟨r0, r1, e0, e1, hN, hE, hC, hX⟩ := q_trn (ox := (some (dz_X4_64_236 (q_vw 172 0 206 S) (xs ((i + 1).toNatClampNeg))))) (F := fun m => dz_M220_64 m (xs ((i + 1).toNatClampNeg))) (cv := Int32.toInt64) (ex := True) h (fun m h1 h2 => q_tRam h1 h2 (xs ((i + 1).toNatClampNeg))) (fun m h2 => dzj_M220_64 _ _ 40 m h2 (xs ((i + 1).toNatClampNeg))) (fun x p => q_IVup p.1)
  have e0 := Option.some.inj e0
  exact ⟨_, _, _, hN, Nat.add_le_add_left hE c, by omega, fun o ho => q_lw4 z L xs S c n i hx0 hx1 hx2 hx3 hi hv r0 e0 r1 e1 ho⟩
theorem q_st5 (h : q_IV k S) (hk : k < 512) (hx : q_XS L i) (hv : xs i.toNatClampNeg &&& 63 = 5) : q_NX z L xs i S c n k := by
  obtain ⟨hx0, hx1, hx2, hx3, hi⟩ := hx
  obtain ⟨r0, r1, e0, e1, hN, hE, hC, hX⟩ := q_trn (ox := (dz_X5_64_236 (q_vw 172 0 206 S) (xs ((i + 1).toNatClampNeg)) (xs ((i + 2).toNatClampNeg)) (xs ((i + 3).toNatClampNeg)))) (F := fun m => dz_M279_64 m (xs ((i + 1).toNatClampNeg)) (xs ((i + 2).toNatClampNeg)) (xs ((i + 3).toNatClampNeg))) (cv := Int32.toInt64) (ex := True) h (fun m h1 h2 => q_tAsm h1 h2 (by omega) (xs ((i + 1).toNatClampNeg)) (xs ((i + 2).toNatClampNeg)) (xs ((i + 3).toNatClampNeg))) (fun m h2 => dzj_M279_64 _ _ 40 m h2 (xs ((i + 1).toNatClampNeg)) (xs ((i + 2).toNatClampNeg)) (xs ((i + 3).toNatClampNeg))) (fun x p => q_IVup p)
  exact ⟨_, _, _, hN, Nat.add_le_add_left hE c, by omega, fun o ho => q_lw5 z L xs S c n i hx0 hx1 hx2 hx3 hi hv r0 e0 r1 e1 ho⟩
theorem q_st6 (h : q_IV k S) (hk : k < 512) (hx : q_XS L i) (hv : xs i.toNatClampNeg &&& 63 = 6) : q_NX z L xs i S c n k := by
  obtain ⟨hx0, hx1, hx2, hx3, hi⟩ := hx
  obtain ⟨r0, r1, e0, e1, hN, hE, hC, hX⟩ := q_trn (ox := (dz_X6_64_236 (q_vw 172 0 206 S) (xs ((i + 1).toNatClampNeg)))) (F := fun m => dz_M286_64 m (xs ((i + 1).toNatClampNeg))) (cv := Int32.toInt64) (ex := True) h (fun m h1 h2 => q_tWl h1 h2 (xs ((i + 1).toNatClampNeg))) (fun m h2 => dzj_M286_64 _ _ 40 m h2 (xs ((i + 1).toNatClampNeg))) (fun x p => q_IVup p)
  exact ⟨_, _, _, hN, Nat.add_le_add_left hE c, by omega, fun o ho => q_lw6 z L xs S c n i hx0 hx1 hx2 hx3 hi hv r0 e0 r1 e1 ho⟩
theorem q_st7 (h : q_IV k S) (hk : k < 512) (hx : q_XS L i) (hv : xs i.toNatClampNeg &&& 63 = 7) : q_NX z L xs i S c n k := by
  obtain ⟨hx0, hx1, hx2, hx3, hi⟩ := hx
  obtain ⟨r0, r1, e0, e1, hN, hE, hC, hX⟩ := q_trn (ox := (dz_X7_64_236 (q_vw 172 0 206 S) (xs ((i + 1).toNatClampNeg)))) (F := fun m => dz_M287_64 m (xs ((i + 1).toNatClampNeg))) (cv := Int32.toInt64) (ex := True) h (fun m h1 h2 => q_tLat h1 h2 (xs ((i + 1).toNatClampNeg))) (fun m h2 => dzj_M287_64 _ _ 40 m h2 (xs ((i + 1).toNatClampNeg))) (fun x p => q_IVup p)
  exact ⟨_, _, _, hN, Nat.add_le_add_left hE c, by omega, fun o ho => q_lw7 z L xs S c n i hx0 hx1 hx2 hx3 hi hv r0 e0 r1 e1 ho⟩
theorem q_st8 (h : q_IV k S) (hk : k < 512) (hx : q_XS L i) (hv : xs i.toNatClampNeg &&& 63 = 8) : q_NX z L xs i S c n k := by
  obtain ⟨hx0, hx1, hx2, hx3, hi⟩ := hx
  obtain ⟨r0, r1, e0, e1, hN, hE, hC, hX⟩ := q_trn (ox := (dz_X8_64_236 (q_vw 172 0 206 S) (xs ((i + 1).toNatClampNeg)) (xs ((i + 2).toNatClampNeg)) (xs ((i + 3).toNatClampNeg)))) (F := fun m => dz_M221_64 m (xs ((i + 1).toNatClampNeg)) (xs ((i + 2).toNatClampNeg)) (xs ((i + 3).toNatClampNeg))) (cv := Int32.toInt64) (ex := True) h (fun m h1 h2 => q_tCmp h1 h2 (xs ((i + 1).toNatClampNeg)) (xs ((i + 2).toNatClampNeg)) (xs ((i + 3).toNatClampNeg))) (fun m h2 => dzj_M221_64 _ _ 40 m h2 (xs ((i + 1).toNatClampNeg)) (xs ((i + 2).toNatClampNeg)) (xs ((i + 3).toNatClampNeg))) (fun x p => q_IVup p.1)
  exact ⟨_, _, _, hN, Nat.add_le_add_left hE c, by omega, fun o ho => q_lw8 z L xs S c n i hx0 hx1 hx2 hx3 hi hv r0 e0 r1 e1 ho⟩
theorem q_st9 (h : q_IV k S) (hk : k < 512) (hx : q_XS L i) (hv : xs i.toNatClampNeg &&& 63 = 9) : q_NX z L xs i S c n k := by
  obtain ⟨hx0, hx1, hx2, hx3, hi⟩ := hx
  obtain ⟨r0, r1, e0, e1, hN, hE, hC, hX⟩ := q_trn (ox := (some (dz_X9_64_236 (q_vw 172 0 206 S) (xs ((i + 1).toNatClampNeg))))) (F := fun m => dz_M288_64 m (xs ((i + 1).toNatClampNeg))) (cv := Int32.toInt64) (ex := ((xs ((i + 1).toNatClampNeg)).toInt = 4 → (q_vw 172 0 206 S).2.1 24 7 = 0)) h (fun m h1 h2 => q_tGet h1 h2 (xs ((i + 1).toNatClampNeg))) (fun m h2 => dzj_M288_64 _ _ 40 m h2 (xs ((i + 1).toNatClampNeg))) (fun x p => q_IVup p)
  have e0 := Option.some.inj e0
  exact ⟨_, _, _, hN, Nat.add_le_add_left hE c, by omega, fun o ho => q_lw9 z L xs S c n i hx0 hx1 hx2 hx3 hi hv r0 e0 r1 e1 ho⟩
theorem q_st10 (h : q_IV k S) (hk : k < 512) (hx : q_XS L i) (hv : xs i.toNatClampNeg &&& 63 = 10) : q_NX z L xs i S c n k := by
  obtain ⟨hx0, hx1, hx2, hx3, hi⟩ := hx
  obtain ⟨r0, r1, e0, e1, hN, hE, hC, hX⟩ := q_trn (ox := (dz_X10_64_236 (q_vw 172 0 206 S) (xs ((i + 1).toNatClampNeg)) (xs ((i + 2).toNatClampNeg)))) (F := fun m => dz_M289_64 m (xs ((i + 1).toNatClampNeg)) (xs ((i + 2).toNatClampNeg))) (cv := Int32.toInt64) (ex := ((xs ((i + 1).toNatClampNeg)).toInt = 4 → (q_vw 172 0 206 S).2.1 24 7 = 0)) h (fun m h1 h2 => q_tReg h1 h2 (by omega) (xs ((i + 1).toNatClampNeg)) (xs ((i + 2).toNatClampNeg))) (fun m h2 => dzj_M289_64 _ _ 40 m h2 (xs ((i + 1).toNatClampNeg)) (xs ((i + 2).toNatClampNeg))) (fun x p => q_IVup p)
  exact ⟨_, _, _, hN, Nat.add_le_add_left hE c, by omega, fun o ho => q_lw10 z L xs S c n i hx0 hx1 hx2 hx3 hi hv r0 e0 r1 e1 ho⟩
theorem q_st11 (h : q_IV k S) (hk : k < 512) (hx : q_XS L i) (hv : xs i.toNatClampNeg &&& 63 = 11) : q_NX z L xs i S c n k := by
  obtain ⟨hx0, hx1, hx2, hx3, hi⟩ := hx
  have e0 := q_tSta h.1 h.2
  exact ⟨_, _, _, q_rdn h, Nat.le_add_right c 1, Nat.le_add_right n 6, fun o ho => q_lw11 z L xs S c n i hx0 hx1 hx2 hx3 hi hv _ e0 ho⟩
theorem q_st12 (h : q_IV k S) (hk : k < 512) (hx : q_XS L i) (hv : xs i.toNatClampNeg &&& 63 = 12) : q_NX z L xs i S c n k := by
  obtain ⟨hx0, hx1, hx2, hx3, hi⟩ := hx
  have hk9 : (k : Int) < 512 := by omega
  have hk8 : 0 ≤ (k : Int) := by omega
  obtain ⟨r0, r1, e0, e1, hN, hQ⟩ := q_trw (ox := dz_X40_64 (q_vw 172 0 206 S)) (F := fun m => dz_M291_64 m) (Q := fun r0 r1 => r1.1.2.1 0 39 = 0 ∧ r0.2 = r1.2) h (fun m h1 h2 => q_tRes h1 h2 hk9) (fun m h2 => dzj_M291_64 _ _ 40 m h2) (fun x p => q_IVup p)
  exact ⟨_, _, _, hN, Nat.le_add_right c 1, Nat.le_add_right n 6, fun o ho => q_lw12 z L xs S c n i hx0 hx1 hx2 hx3 hi hv r0 e0 r1 e1 ho⟩
theorem q_st13 (h : q_IV k S) (hk : k < 512) (hx : q_XS L i) (hv : xs i.toNatClampNeg &&& 63 = 13) : q_NX z L xs i S c n k := by
  obtain ⟨hx0, hx1, hx2, hx3, hi⟩ := hx
  have hk9 : (k : Int) < 512 := by omega
  have hk8 : 0 ≤ (k : Int) := by omega
  obtain ⟨r0, r1, e0, e1, hN, hQ⟩ := q_trw (ox := dz_X41_64 (q_vw 172 0 206 S)) (F := fun m => some (dz_M292_64 m)) (Q := fun r0 r1 => r1.1.2.1 0 39 = 0 ∧ r0.2 = r1.2) h (fun m h1 h2 => by
    obtain ⟨r0, r1, e0, e1, g⟩ := q_tFrz h1 h2 hk9
    exact ⟨r0, r1, e0, congrArg some e1, g⟩) (fun m h2 => q_E_x (dzj_M292_64 _ _ 40 m h2)) (fun x p => q_IVup p)
  have e1 := Option.some.inj e1
  exact ⟨_, _, _, hN, Nat.le_add_right c 1, Nat.le_add_right n 6, fun o ho => q_lw13 z L xs S c n i hx0 hx1 hx2 hx3 hi hv r0 e0 r1 e1 ho⟩
theorem q_st14 (h : q_IV k S) (hk : k < 512) (hx : q_XS L i) (hv : xs i.toNatClampNeg &&& 63 = 14) : q_NX z L xs i S c n k := by
  obtain ⟨hx0, hx1, hx2, hx3, hi⟩ := hx
  obtain ⟨r0, r1, e0, e1, hN, hE, hC, hX⟩ := q_trn (ox := (dz_X11_64_236 (q_vw 172 0 206 S) (xs ((i + 1).toNatClampNeg)))) (F := fun m => dz_M236_64 m (xs ((i + 1).toNatClampNeg))) (cv := Int32.toInt64) (ex := True) h (fun m h1 h2 => q_tRun h1 h2 (by omega) (xs ((i + 1).toNatClampNeg)) (by omega) (by omega)) (fun m h2 => dzj_M236_64 _ _ 40 ⟨by omega, by omega⟩ m h2 (xs ((i + 1).toNatClampNeg))) (fun x p => q_Iv_mono p (by omega) (by omega) (Int.le_refl _))
  exact ⟨_, _, _, hN, Nat.add_le_add_left hE c, by omega, fun o ho => q_lw14 z L xs S c n i hx0 hx1 hx2 hx3 hi hv r0 e0 r1 e1 ho⟩
theorem q_st15 (h : q_IV k S) (hk : k < 512) (hx : q_XS L i) (hv : xs i.toNatClampNeg &&& 63 = 15) : q_NX z L xs i S c n k := by
  obtain ⟨hx0, hx1, hx2, hx3, hi⟩ := hx
  obtain ⟨r0, r1, e0, e1, hN, hE, hC, hX⟩ := q_trn (ox := (dz_X12_64_236 (q_vw 172 0 206 S))) (F := fun m => dz_M237_64 m) (cv := Int32.toInt64) (ex := True) h (fun m h1 h2 => q_tStep h1 h2 (by omega) (by omega) (by omega)) (fun m h2 => dzj_M237_64 _ _ 40 ⟨by omega, by omega⟩ m h2) (fun x p => q_Iv_mono p (by omega) (by omega) (Int.le_refl _))
  exact ⟨_, _, _, hN, Nat.add_le_add_left hE c, by omega, fun o ho => q_lw15 z L xs S c n i hx0 hx1 hx2 hx3 hi hv r0 e0 r1 e1 ho⟩
theorem q_st16 (h : q_IV k S) (hk : k < 512) (hx : q_XS L i) (hv : xs i.toNatClampNeg &&& 63 = 16) : q_NX z L xs i S c n k := by
  obtain ⟨hx0, hx1, hx2, hx3, hi⟩ := hx
  have e0 := q_tCyc h.1
  exact ⟨_, _, _, q_rdn h, Nat.le_add_right c 1, Nat.le_add_right n 6, fun o ho => q_lw16 z L xs S c n i hx0 hx1 hx2 hx3 hi hv _ e0 ho⟩
theorem q_st17 (h : q_IV k S) (hk : k < 512) (hx : q_XS L i) (hv : xs i.toNatClampNeg &&& 63 = 17) : q_NX z L xs i S c n k := by
  obtain ⟨hx0, hx1, hx2, hx3, hi⟩ := hx
  obtain ⟨b, e0, e1⟩ := q_tIsP h.1 h.2
  exact ⟨_, _, _, q_rdn h, Nat.le_add_right c 1, Nat.le_add_right n 6, fun o ho => q_lw17 z L xs S c n i hx0 hx1 hx2 hx3 hi hv _ e0 _ e1 ho⟩
theorem q_st18 (h : q_IV k S) (hk : k < 512) (hx : q_XS L i) (hv : xs i.toNatClampNeg &&& 63 = 18) : q_NX z L xs i S c n k := by
  obtain ⟨hx0, hx1, hx2, hx3, hi⟩ := hx
  have e0 := q_tUnd h.1
  exact ⟨_, _, _, q_rdn h, Nat.le_add_right c 1, Nat.le_add_right n 6, fun o ho => q_lw18 z L xs S c n i hx0 hx1 hx2 hx3 hi hv _ e0 ho⟩
theorem q_st19 (h : q_IV k S) (hk : k < 512) (hx : q_XS L i) (hv : xs i.toNatClampNeg &&& 63 = 19) : q_NX z L xs i S c n k := by
  obtain ⟨hx0, hx1, hx2, hx3, hi⟩ := hx
  have e0 := q_tDon h.1
  exact ⟨_, _, _, q_rdn h, Nat.le_add_right c 1, Nat.le_add_right n 6, fun o ho => q_lw19 z L xs S c n i hx0 hx1 hx2 hx3 hi hv _ e0 ho⟩
theorem q_st20 (h : q_IV k S) (hk : k < 512) (hx : q_XS L i) (hv : xs i.toNatClampNeg &&& 63 = 20) : q_NX z L xs i S c n k := by
  obtain ⟨hx0, hx1, hx2, hx3, hi⟩ := hx
  obtain ⟨b, e0, e1⟩ := q_tJam h.1 h.2
  exact ⟨_, _, _, q_rdn h, Nat.le_add_right c 1, Nat.le_add_right n 6, fun o ho => q_lw20 z L xs S c n i hx0 hx1 hx2 hx3 hi hv _ e0 _ e1 ho⟩
theorem q_st21 (h : q_IV k S) (hk : k < 512) (hx : q_XS L i) (hv : xs i.toNatClampNeg &&& 63 = 21) : q_NX z L xs i S c n k := by
  obtain ⟨hx0, hx1, hx2, hx3, hi⟩ := hx
  obtain ⟨r0, r1, e0, e1, hN, hE, hC, hX⟩ := q_trn (ox := (some (dz_X13_64_236 (q_vw 172 0 206 S) (xs ((i + 1).toNatClampNeg))))) (F := fun m => dz_M243_64 m (xs ((i + 1).toNatClampNeg))) (cv := Int32.toInt64) (ex := True) h (fun m h1 h2 => q_tTra h1 h2 (by omega) (xs ((i + 1).toNatClampNeg))) (fun m h2 => dzj_M243_64 _ _ 40 (by omega) m h2 (xs ((i + 1).toNatClampNeg))) (fun x p => q_IVup p)
  have e0 := Option.some.inj e0
  exact ⟨_, _, _, hN, Nat.add_le_add_left hE c, by omega, fun o ho => q_lw21 z L xs S c n i hx0 hx1 hx2 hx3 hi hv r0 e0 r1 e1 ho⟩
theorem q_st22 (h : q_IV k S) (hk : k < 512) (hx : q_XS L i) (hv : xs i.toNatClampNeg &&& 63 = 22) : q_NX z L xs i S c n k := by
  obtain ⟨hx0, hx1, hx2, hx3, hi⟩ := hx
  obtain ⟨r0, r1, e0, e1, hN, hE, hC, hX⟩ := q_trn (ox := (some (dz_X14_64_236 (q_vw 172 0 206 S) (xs ((i + 1).toNatClampNeg)) (xs ((i + 2).toNatClampNeg))))) (F := fun m => dz_M294_64 m (xs ((i + 1).toNatClampNeg)) (xs ((i + 2).toNatClampNeg))) (cv := Int32.toInt64) (ex := True) h (fun m h1 h2 => q_tPix h1 h2 (xs ((i + 1).toNatClampNeg)) (xs ((i + 2).toNatClampNeg))) (fun m h2 => dzj_M294_64 _ _ 40 m h2 (xs ((i + 1).toNatClampNeg)) (xs ((i + 2).toNatClampNeg))) (fun x p => q_IVup p)
  have e0 := Option.some.inj e0
  exact ⟨_, _, _, hN, Nat.add_le_add_left hE c, by omega, fun o ho => q_lw22 z L xs S c n i hx0 hx1 hx2 hx3 hi hv r0 e0 r1 e1 ho⟩
theorem q_st23 (h : q_IV k S) (hk : k < 512) (hx : q_XS L i) (hv : xs i.toNatClampNeg &&& 63 = 23) : q_NX z L xs i S c n k := by
  obtain ⟨hx0, hx1, hx2, hx3, hi⟩ := hx
  obtain ⟨r0, r1, e0, e1, hN, hE, hC, hX⟩ := q_trn (ox := (dz_X15_64_236 (q_vw 172 0 206 S) (xs ((i + 1).toNatClampNeg)) (xs ((i + 2).toNatClampNeg)))) (F := fun m => dz_M295_64 m (xs ((i + 1).toNatClampNeg)) (xs ((i + 2).toNatClampNeg))) (cv := Int32.toInt64) (ex := False) h (fun m h1 h2 => q_tAgn h1 h2 (xs ((i + 1).toNatClampNeg)) (xs ((i + 2).toNatClampNeg))) (fun m h2 => dzj_M295_64 _ _ 40 m h2 (xs ((i + 1).toNatClampNeg)) (xs ((i + 2).toNatClampNeg))) (fun x p => q_IVup p)
  exact ⟨_, _, _, hN, Nat.add_le_add_left hE c, by omega, fun o ho => q_lw23 z L xs S c n i hx0 hx1 hx2 hx3 hi hv r0 e0 r1 e1 ho⟩
theorem q_st24 (h : q_IV k S) (hk : k < 512) (hx : q_XS L i) (hv : xs i.toNatClampNeg &&& 63 = 24) : q_NX z L xs i S c n k := by
  obtain ⟨hx0, hx1, hx2, hx3, hi⟩ := hx
  obtain ⟨r0, r1, e0, e1, hN, hE, hC, hX⟩ := q_trn (ox := (some (dz_X16_64_236 (q_vw 172 0 206 S) (xs ((i + 1).toNatClampNeg))))) (F := fun m => dz_M296_64 m (xs ((i + 1).toNatClampNeg))) (cv := Int32.toInt64) (ex := True) h (fun m h1 h2 => q_tSmp h1 h2 (xs ((i + 1).toNatClampNeg))) (fun m h2 => dzj_M296_64 _ _ 40 m h2 (xs ((i + 1).toNatClampNeg))) (fun x p => q_IVup p)
  have e0 := Option.some.inj e0
  exact ⟨_, _, _, hN, Nat.add_le_add_left hE c, by omega, fun o ho => q_lw24 z L xs S c n i hx0 hx1 hx2 hx3 hi hv r0 e0 r1 e1 ho⟩
theorem q_st25 (h : q_IV k S) (hk : k < 512) (hx : q_XS L i) (hv : xs i.toNatClampNeg &&& 63 = 25) : q_NX z L xs i S c n k := by
  obtain ⟨hx0, hx1, hx2, hx3, hi⟩ := hx
  obtain ⟨r0, r1, e0, e1, hN, hE, hC, hX⟩ := q_trn (ox := (some (dz_X17_64_236 (q_vw 172 0 206 S) (xs ((i + 1).toNatClampNeg))))) (F := fun m => dz_M297_64 m (xs ((i + 1).toNatClampNeg))) (cv := Int32.toInt64) (ex := True) h (fun m h1 h2 => q_tLvl h1 h2 (xs ((i + 1).toNatClampNeg))) (fun m h2 => dzj_M297_64 _ _ 40 m h2 (xs ((i + 1).toNatClampNeg))) (fun x p => q_IVup p)
  have e0 := Option.some.inj e0
  exact ⟨_, _, _, hN, Nat.add_le_add_left hE c, by omega, fun o ho => q_lw25 z L xs S c n i hx0 hx1 hx2 hx3 hi hv r0 e0 r1 e1 ho⟩
theorem q_st26t (h : q_IV k S) (hk : k < 512) (hx : q_XS L i) (hv : xs i.toNatClampNeg &&& 63 = 26) (hc0 : decide (xs ((i + 3).toNatClampNeg) = 0) = true) : q_NX z L xs i S c n k := by
  obtain ⟨hx0, hx1, hx2, hx3, hi⟩ := hx
  obtain ⟨r0, r1, e0, e1, hN, hE, hC, hX⟩ := q_trn (ox := (dz_X18_64_f_236 (q_vw 172 0 206 S) (xs ((i + 1).toNatClampNeg)) (xs ((i + 2).toNatClampNeg)))) (F := fun m => dz_M298_64 m (xs ((i + 1).toNatClampNeg)) (xs ((i + 2).toNatClampNeg)) 0) (cv := q_kb) (ex := True) h (fun m h1 h2 => q_tKeyf h1 h2 (by omega) (xs ((i + 1).toNatClampNeg)) (xs ((i + 2).toNatClampNeg))) (fun m h2 => dzj_M298_64 _ _ 40 m h2 (xs ((i + 1).toNatClampNeg)) (xs ((i + 2).toNatClampNeg)) 0 ⟨by decide, by decide⟩) (fun x p => q_IVup p)
  exact ⟨_, _, _, hN, Nat.add_le_add_left hE c, by omega, fun o ho => q_lw26t z L xs S c n i hx0 hx1 hx2 hx3 hi hv r0 e0 r1 e1 hc0 ho⟩
theorem q_st26f (h : q_IV k S) (hk : k < 512) (hx : q_XS L i) (hv : xs i.toNatClampNeg &&& 63 = 26) (hc0 : decide (xs ((i + 3).toNatClampNeg) = 0) = false) : q_NX z L xs i S c n k := by
  obtain ⟨hx0, hx1, hx2, hx3, hi⟩ := hx
  obtain ⟨r0, r1, e0, e1, hN, hE, hC, hX⟩ := q_trn (ox := (dz_X18_64_t_236 (q_vw 172 0 206 S) (xs ((i + 1).toNatClampNeg)) (xs ((i + 2).toNatClampNeg)))) (F := fun m => dz_M298_64 m (xs ((i + 1).toNatClampNeg)) (xs ((i + 2).toNatClampNeg)) 1) (cv := q_kb) (ex := True) h (fun m h1 h2 => q_tKeyt h1 h2 (by omega) (xs ((i + 1).toNatClampNeg)) (xs ((i + 2).toNatClampNeg))) (fun m h2 => dzj_M298_64 _ _ 40 m h2 (xs ((i + 1).toNatClampNeg)) (xs ((i + 2).toNatClampNeg)) 1 ⟨by decide, by decide⟩) (fun x p => q_IVup p)
  exact ⟨_, _, _, hN, Nat.add_le_add_left hE c, by omega, fun o ho => q_lw26f z L xs S c n i hx0 hx1 hx2 hx3 hi hv r0 e0 r1 e1 hc0 ho⟩
theorem q_st27 (h : q_IV k S) (hk : k < 512) (hx : q_XS L i) (hv : xs i.toNatClampNeg &&& 63 = 27) : q_NX z L xs i S c n k := by
  obtain ⟨hx0, hx1, hx2, hx3, hi⟩ := hx
  obtain ⟨r0, r1, e0, e1, hN, hE, hC, hX⟩ := q_trn (ox := (some (dz_X19_64_236 (q_vw 172 0 206 S) (xs ((i + 1).toNatClampNeg))))) (F := fun m => dz_M299_64 m (xs ((i + 1).toNatClampNeg))) (cv := Int32.toInt64) (ex := True) h (fun m h1 h2 => q_tCol h1 h2 (xs ((i + 1).toNatClampNeg))) (fun m h2 => dzj_M299_64 _ _ 40 m h2 (xs ((i + 1).toNatClampNeg))) (fun x p => q_IVup p)
  have e0 := Option.some.inj e0
  exact ⟨_, _, _, hN, Nat.add_le_add_left hE c, by omega, fun o ho => q_lw27 z L xs S c n i hx0 hx1 hx2 hx3 hi hv r0 e0 r1 e1 ho⟩
theorem q_st28 (h : q_IV k S) (hk : k < 512) (hx : q_XS L i) (hv : xs i.toNatClampNeg &&& 63 = 28) : q_NX z L xs i S c n k := by
  obtain ⟨hx0, hx1, hx2, hx3, hi⟩ := hx
  obtain ⟨r0, r1, e0, e1, hN, hE, hC, hX⟩ := q_trn (ox := (dz_X20_64_236 (q_vw 172 0 206 S) (xs ((i + 1).toNatClampNeg)))) (F := fun m => some (dz_M300_64 m (xs ((i + 1).toNatClampNeg)))) (cv := Int32.toInt64) (ex := True) h (fun m h1 h2 => q_tJoy h1 h2 (by omega) (xs ((i + 1).toNatClampNeg))) (fun m h2 => q_E_x (dzj_M300_64 _ _ 40 m h2 (xs ((i + 1).toNatClampNeg)))) (fun x p => q_IVup p)
  have e1 := Option.some.inj e1
  exact ⟨_, _, _, hN, Nat.add_le_add_left hE c, by omega, fun o ho => q_lw28 z L xs S c n i hx0 hx1 hx2 hx3 hi hv r0 e0 r1 e1 ho⟩
theorem q_st29 (h : q_IV k S) (hk : k < 512) (hx : q_XS L i) (hv : xs i.toNatClampNeg &&& 63 = 29) : q_NX z L xs i S c n k := by
  obtain ⟨hx0, hx1, hx2, hx3, hi⟩ := hx
  obtain ⟨r0, r1, e0, e1, hN, hE, hC, hX⟩ := q_trn (ox := (dz_X21_64_236 (q_vw 172 0 206 S) (xs ((i + 1).toNatClampNeg)))) (F := fun m => dz_M301_64 m (xs ((i + 1).toNatClampNeg))) (cv := Int32.toInt64) (ex := True) h (fun m h1 h2 => q_tPul h1 h2 (by omega) (xs ((i + 1).toNatClampNeg))) (fun m h2 => dzj_M301_64 _ _ 40 m h2 (xs ((i + 1).toNatClampNeg))) (fun x p => q_IVup p)
  exact ⟨_, _, _, hN, Nat.add_le_add_left hE c, by omega, fun o ho => q_lw29 z L xs S c n i hx0 hx1 hx2 hx3 hi hv r0 e0 r1 e1 ho⟩
theorem q_st30 (h : q_IV k S) (hk : k < 512) (hx : q_XS L i) (hv : xs i.toNatClampNeg &&& 63 = 30) : q_NX z L xs i S c n k := by
  obtain ⟨hx0, hx1, hx2, hx3, hi⟩ := hx
  have hk9 : (k : Int) < 512 := by omega
  have hk8 : 0 ≤ (k : Int) := by omega
  obtain ⟨r0, r1, e0, e1, hN, hQ⟩ := q_trw (ox := dz_X58_64 (q_vw 172 0 206 S)) (F := fun m => some (dz_M302_64 m)) (Q := fun r0 r1 => r1.1.2.1 0 39 = 0 ∧ r0.2 = r1.2) h (fun m h1 h2 => by
    obtain ⟨r0, r1, e0, e1, g⟩ := q_tRew h1 h2 hk9
    exact ⟨r0, r1, e0, congrArg some e1, g⟩) (fun m h2 => q_E_x (dzj_M302_64 _ _ 40 m h2)) (fun x p => q_IVup p)
  have e1 := Option.some.inj e1
  exact ⟨_, _, _, hN, Nat.le_add_right c 1, Nat.le_add_right n 6, fun o ho => q_lw30 z L xs S c n i hx0 hx1 hx2 hx3 hi hv r0 e0 r1 e1 ho⟩
theorem q_st31 (h : q_IV k S) (hk : k < 512) (hx : q_XS L i) (hv : xs i.toNatClampNeg &&& 63 = 31) : q_NX z L xs i S c n k := by
  obtain ⟨hx0, hx1, hx2, hx3, hi⟩ := hx
  have e0 := q_tLft h.1
  exact ⟨_, _, _, q_rdn h, Nat.le_add_right c 1, Nat.le_add_right n 6, fun o ho => q_lw31 z L xs S c n i hx0 hx1 hx2 hx3 hi hv _ e0 ho⟩
theorem q_st32 (h : q_IV k S) (hk : k < 512) (hx : q_XS L i) (hv : xs i.toNatClampNeg &&& 63 = 32) : q_NX z L xs i S c n k := by
  obtain ⟨hx0, hx1, hx2, hx3, hi⟩ := hx
  obtain ⟨r0, r1, e0, e1, hN, hE, hC, hX⟩ := q_trn (ox := (dz_X22_64_236 (q_vw 172 0 206 S))) (F := fun m => dz_M306_64 m) (cv := Int32.toInt64) (ex := True) h (fun m h1 h2 => q_tSav h1 h2) (fun m h2 => dzj_M306_64 _ _ 40 m h2) (fun x p => q_IVup p)
  exact ⟨_, _, _, hN, Nat.add_le_add_left hE c, by omega, fun o ho => q_lw32 z L xs S c n i hx0 hx1 hx2 hx3 hi hv r0 e0 r1 e1 ho⟩
theorem q_st33 (h : q_IV k S) (hk : k < 512) (hx : q_XS L i) (hv : xs i.toNatClampNeg &&& 63 = 33) : q_NX z L xs i S c n k := by
  obtain ⟨hx0, hx1, hx2, hx3, hi⟩ := hx
  obtain ⟨r0, r1, e0, e1, hN, hE, hC, hX⟩ := q_trn (ox := (dz_X23_64_236 (q_vw 172 0 206 S) (xs ((i + 1).toNatClampNeg)))) (F := fun m => dz_M308_64 m (xs ((i + 1).toNatClampNeg))) (cv := Int32.toInt64) (ex := True) h (fun m h1 h2 => q_tRst h1 h2 (xs ((i + 1).toNatClampNeg))) (fun m h2 => dzj_M308_64 _ _ 40 m h2 (xs ((i + 1).toNatClampNeg))) (fun x p => q_IVup p)
  exact ⟨_, _, _, hN, Nat.add_le_add_left hE c, by omega, fun o ho => q_lw33 z L xs S c n i hx0 hx1 hx2 hx3 hi hv r0 e0 r1 e1 ho⟩
theorem q_st34 (h : q_IV k S) (hk : k < 512) (hx : q_XS L i) (hv : xs i.toNatClampNeg &&& 63 = 34) : q_NX z L xs i S c n k := by
  obtain ⟨hx0, hx1, hx2, hx3, hi⟩ := hx
  obtain ⟨r0, r1, e0, e1, hN, hE, hC, hX⟩ := q_trn (ox := (dz_X24_64_236 (q_vw 172 0 206 S) (xs ((i + 1).toNatClampNeg)))) (F := fun m => dz_M309_64 m (xs ((i + 1).toNatClampNeg))) (cv := Int32.toInt64) (ex := True) h (fun m h1 h2 => q_tDif h1 h2 (xs ((i + 1).toNatClampNeg))) (fun m h2 => dzj_M309_64 _ _ 40 m h2 (xs ((i + 1).toNatClampNeg))) (fun x p => q_IVup p)
  exact ⟨_, _, _, hN, Nat.add_le_add_left hE c, by omega, fun o ho => q_lw34 z L xs S c n i hx0 hx1 hx2 hx3 hi hv r0 e0 r1 e1 ho⟩
theorem q_st35 (h : q_IV k S) (hk : k < 512) (hx : q_XS L i) (hv : xs i.toNatClampNeg &&& 63 = 35) : q_NX z L xs i S c n k := by
  obtain ⟨hx0, hx1, hx2, hx3, hi⟩ := hx
  have hk9 : (k : Int) < 512 := by omega
  have hk8 : 0 ≤ (k : Int) := by omega
  obtain ⟨r0, r1, e0, e1, hN, hQ⟩ := q_trw (ox := dz_X63_64 (q_vw 172 0 206 S)) (F := fun m => some (dz_M310_64 m)) (Q := fun r0 r1 => r1.1.2.1 0 39 = 0 ∧ r0.2 = r1.2) h (fun m h1 h2 => by
    obtain ⟨r0, r1, e0, e1, g⟩ := q_tSrc h1 h2 hk8
    exact ⟨r0, r1, e0, congrArg some e1, g⟩) (fun m h2 => q_E_x (dzj_M310_64 _ _ 40 m h2)) (fun x p => q_IVup p)
  have e1 := Option.some.inj e1
  exact ⟨_, _, _, hN, Nat.le_add_right c 1, Nat.le_add_right n 6, fun o ho => q_lw35 z L xs S c n i hx0 hx1 hx2 hx3 hi hv r0 e0 r1 e1 ho⟩
theorem q_st36 (h : q_IV k S) (hk : k < 512) (hx : q_XS L i) (hv : xs i.toNatClampNeg &&& 63 = 36) : q_NX z L xs i S c n k := by
  obtain ⟨hx0, hx1, hx2, hx3, hi⟩ := hx
  obtain ⟨r0, r1, e0, e1, hN, hE, hC, hX⟩ := q_trn (ox := (some (dz_X25_64_236 (q_vw 172 0 206 S)))) (F := fun m => some (dz_M311_64 m)) (cv := Int32.toInt64) (ex := True) h (fun m h1 h2 => q_tRcd h1) (fun m h2 => q_E_x (dzj_M311_64 _ _ 40 m h2)) (fun x p => q_IVup p)
  have e0 := Option.some.inj e0
  have e1 := Option.some.inj e1
  exact ⟨_, _, _, hN, Nat.add_le_add_left hE c, by omega, fun o ho => q_lw36 z L xs S c n i hx0 hx1 hx2 hx3 hi hv r0 e0 r1 e1 ho⟩
theorem q_st37 (h : q_IV k S) (hk : k < 512) (hx : q_XS L i) (hv : xs i.toNatClampNeg &&& 63 = 37) : q_NX z L xs i S c n k := by
  obtain ⟨hx0, hx1, hx2, hx3, hi⟩ := hx
  obtain ⟨r0, r1, e0, e1, hN, hE, hC, hX⟩ := q_trn (ox := (dz_X26_64_236 (q_vw 172 0 206 S))) (F := fun m => some (dz_M312_64 m)) (cv := q_kb) (ex := False) h (fun m h1 h2 => q_tSam h1 h2 (by omega)) (fun m h2 => q_E_x (dzj_M312_64 _ _ 40 m h2)) (fun x p => q_IVup p)
  have e1 := Option.some.inj e1
  exact ⟨_, _, _, hN, Nat.add_le_add_left hE c, by omega, fun o ho => q_lw37 z L xs S c n i hx0 hx1 hx2 hx3 hi hv r0 e0 r1 e1 ho⟩
theorem q_st38 (h : q_IV k S) (hk : k < 512) (hx : q_XS L i) (hv : xs i.toNatClampNeg &&& 63 = 38) : q_NX z L xs i S c n k := by
  obtain ⟨hx0, hx1, hx2, hx3, hi⟩ := hx
  obtain ⟨r, e0, e1⟩ := q_tSum h.1
  exact ⟨_, _, _, q_rdn h, Nat.le_add_right c 1, Nat.le_add_right n 6, fun o ho => q_lw38 z L xs S c n i hx0 hx1 hx2 hx3 hi hv _ e0 _ e1 ho⟩
end
