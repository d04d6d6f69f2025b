section
-- 58.ab
section
variable {z L : Nat} {xs : Nat → Int32} {S : q_S} {c n k : Nat} {i : Int32}
theorem q_st30 (h : q_IV k S) (hk : k < 512) (hx : q_XS L i) (hF : q_RZ (q_vw 172 0 206 S)) (hv : xs i.toNatClampNeg &&& 63 = 30) : q_NX z L xs i S c n k := by
  obtain ⟨hx0, hx1, hx2, hx3, hi⟩ := hx
  have hk9 : (k : Int) < 512 := by omega
  have hk8 : 0 ≤ (k : Int) := by omega
  obtain ⟨r0, r1, e0, e1, hN, hQ⟩ := q_trw (ox := dz_X58_64 (q_vw 172 0 206 S)) (F := fun m => some (dz_M302_64 m)) (Q := fun r0 r1 => r1.1.2.1 0 39 = 0 ∧ r0.2 = r1.2) h (fun m h1 h2 => by
    obtain ⟨r0, r1, e0, e1, g⟩ := q_tRew h1 h2 hk9
    exact ⟨r0, r1, e0, congrArg some e1, g⟩) (fun m h2 => q_E_x (dzj_M302_64 _ _ 40 m h2)) (fun x p => q_IVup p)
  have hP9 := q_rp30 h.1 h.2 (by omega) hF e0
  have hP8 := q_RZV (S := S) hN hP9
  have e1 := Option.some.inj e1
  exact ⟨_, _, _, hN, hP8, Nat.le_add_right c 1, Nat.le_add_right n 6, fun o ho => q_lw30 z L xs S c n i hx0 hx1 hx2 hx3 hi hv r0 e0 r1 e1 ho⟩
theorem q_st31 (h : q_IV k S) (hk : k < 512) (hx : q_XS L i) (hF : q_RZ (q_vw 172 0 206 S)) (hv : xs i.toNatClampNeg &&& 63 = 31) : q_NX z L xs i S c n k := by
  obtain ⟨hx0, hx1, hx2, hx3, hi⟩ := hx
  have e0 := q_tLft h.1
  exact ⟨_, _, _, q_rdn h, q_RZR (S := S) (q_rdn h) hF, Nat.le_add_right c 1, Nat.le_add_right n 6, fun o ho => q_lw31 z L xs S c n i hx0 hx1 hx2 hx3 hi hv _ e0 ho⟩
theorem q_st32 (h : q_IV k S) (hk : k < 512) (hx : q_XS L i) (hF : q_RZ (q_vw 172 0 206 S)) (hv : xs i.toNatClampNeg &&& 63 = 32) : q_NX z L xs i S c n k := by
  obtain ⟨hx0, hx1, hx2, hx3, hi⟩ := hx
  obtain ⟨r0, r1, e0, e1, hN, hE, hC, hX⟩ := q_trn (ox := (dz_X22_64_236 (q_vw 172 0 206 S))) (F := fun m => dz_M306_64 m) (cv := Int32.toInt64) (ex := True) h (fun m h1 h2 => q_tSav h1 h2) (fun m h2 => dzj_M306_64 _ _ 40 m h2) (fun x p => q_IVup p)
  have hP9 := q_rp32 h.1 h.2 (by omega) hF e0
  have hP8 := q_RZV (S := S) hN hP9
  exact ⟨_, _, _, hN, hP8, Nat.add_le_add_left hE c, by omega, fun o ho => q_lw32 z L xs S c n i hx0 hx1 hx2 hx3 hi hv r0 e0 r1 e1 ho⟩
theorem q_st33 (h : q_IV k S) (hk : k < 512) (hx : q_XS L i) (hF : q_RZ (q_vw 172 0 206 S)) (hv : xs i.toNatClampNeg &&& 63 = 33) : q_NX z L xs i S c n k := by
  obtain ⟨hx0, hx1, hx2, hx3, hi⟩ := hx
  obtain ⟨r0, r1, e0, e1, hN, hE, hC, hX⟩ := q_trn (ox := (dz_X23_64_236 (q_vw 172 0 206 S) (xs ((i + 1).toNatClampNeg)))) (F := fun m => dz_M308_64 m (xs ((i + 1).toNatClampNeg))) (cv := Int32.toInt64) (ex := True) h (fun m h1 h2 => q_tRst h1 h2 (xs ((i + 1).toNatClampNeg))) (fun m h2 => dzj_M308_64 _ _ 40 m h2 (xs ((i + 1).toNatClampNeg))) (fun x p => q_IVup p)
  have hP9 := q_rp33 h.1 h.2 (by omega) hF (xs ((i + 1).toNatClampNeg)) e0
  have hP8 := q_RZV (S := S) hN hP9
  exact ⟨_, _, _, hN, hP8, Nat.add_le_add_left hE c, by omega, fun o ho => q_lw33 z L xs S c n i hx0 hx1 hx2 hx3 hi hv r0 e0 r1 e1 ho⟩
theorem q_st34 (h : q_IV k S) (hk : k < 512) (hx : q_XS L i) (hF : q_RZ (q_vw 172 0 206 S)) (hv : xs i.toNatClampNeg &&& 63 = 34) : q_NX z L xs i S c n k := by
  obtain ⟨hx0, hx1, hx2, hx3, hi⟩ := hx
  obtain ⟨r0, r1, e0, e1, hN, hE, hC, hX⟩ := q_trn (ox := (dz_X24_64_236 (q_vw 172 0 206 S) (xs ((i + 1).toNatClampNeg)))) (F := fun m => dz_M309_64 m (xs ((i + 1).toNatClampNeg))) (cv := Int32.toInt64) (ex := True) h (fun m h1 h2 => q_tDif h1 h2 (xs ((i + 1).toNatClampNeg))) (fun m h2 => dzj_M309_64 _ _ 40 m h2 (xs ((i + 1).toNatClampNeg))) (fun x p => q_IVup p)
  have hP9 := q_rp34 h.1 h.2 (by omega) hF (xs ((i + 1).toNatClampNeg)) e0
  have hP8 := q_RZV (S := S) hN hP9
  exact ⟨_, _, _, hN, hP8, Nat.add_le_add_left hE c, by omega, fun o ho => q_lw34 z L xs S c n i hx0 hx1 hx2 hx3 hi hv r0 e0 r1 e1 ho⟩
theorem q_st35 (h : q_IV k S) (hk : k < 512) (hx : q_XS L i) (hF : q_RZ (q_vw 172 0 206 S)) (hv : xs i.toNatClampNeg &&& 63 = 35) : q_NX z L xs i S c n k := by
  obtain ⟨hx0, hx1, hx2, hx3, hi⟩ := hx
  have hk9 : (k : Int) < 512 := by omega
  have hk8 : 0 ≤ (k : Int) := by omega
  obtain ⟨r0, r1, e0, e1, hN, hQ⟩ := q_trw (ox := dz_X63_64 (q_vw 172 0 206 S)) (F := fun m => some (dz_M310_64 m)) (Q := fun r0 r1 => r1.1.2.1 0 39 = 0 ∧ r0.2 = r1.2) h (fun m h1 h2 => by
    obtain ⟨r0, r1, e0, e1, g⟩ := q_tSrc h1 h2 hk8
    exact ⟨r0, r1, e0, congrArg some e1, g⟩) (fun m h2 => q_E_x (dzj_M310_64 _ _ 40 m h2)) (fun x p => q_IVup p)
  have hP9 := q_rp35 h.1 h.2 (by omega) hF e0
  have hP8 := q_RZV (S := S) hN hP9
  have e1 := Option.some.inj e1
  exact ⟨_, _, _, hN, hP8, Nat.le_add_right c 1, Nat.le_add_right n 6, fun o ho => q_lw35 z L xs S c n i hx0 hx1 hx2 hx3 hi hv r0 e0 r1 e1 ho⟩
theorem q_st36 (h : q_IV k S) (hk : k < 512) (hx : q_XS L i) (hF : q_RZ (q_vw 172 0 206 S)) (hv : xs i.toNatClampNeg &&& 63 = 36) : q_NX z L xs i S c n k := by
  obtain ⟨hx0, hx1, hx2, hx3, hi⟩ := hx
  obtain ⟨r0, r1, e0, e1, hN, hE, hC, hX⟩ := q_trn (ox := (some (dz_X25_64_236 (q_vw 172 0 206 S)))) (F := fun m => some (dz_M311_64 m)) (cv := Int32.toInt64) (ex := True) h (fun m h1 h2 => q_tRcd h1) (fun m h2 => q_E_x (dzj_M311_64 _ _ 40 m h2)) (fun x p => q_IVup p)
  have hP9 := q_rp36 h.1 h.2 (by omega) hF e0
  have hP8 := q_RZV (S := S) hN hP9
  have e0 := Option.some.inj e0
  have e1 := Option.some.inj e1
  exact ⟨_, _, _, hN, hP8, Nat.add_le_add_left hE c, by omega, fun o ho => q_lw36 z L xs S c n i hx0 hx1 hx2 hx3 hi hv r0 e0 r1 e1 ho⟩
theorem q_st37 (h : q_IV k S) (hk : k < 512) (hx : q_XS L i) (hF : q_RZ (q_vw 172 0 206 S)) (hv : xs i.toNatClampNeg &&& 63 = 37) : q_NX z L xs i S c n k := by
  obtain ⟨hx0, hx1, hx2, hx3, hi⟩ := hx
  obtain ⟨r0, r1, e0, e1, hN, hE, hC, hX9, hP9⟩ := q_trw (ox := (dz_X26_64_236 (q_vw 172 0 206 S))) (F := fun m => some (dz_M312_64 m)) (Q := fun r0 r1 => r0.2.2 ≤ 1 ∧ r1.1.2.1 0 39 = r0.2.1 ∧ (r0.2.1 = 0 → r0.1.2.2 172 0 = q_kb r1.2) ∧ q_RZ r0.1) h (fun m h1 h2 => q_tSamP h1 h2 (by omega) hF) (fun m h2 => q_E_x (dzj_M312_64 _ _ 40 m h2)) (fun x p => q_IVup p)
  have hX := fun _ : True => hX9
  have hP8 := q_RZV (S := S) hN hP9
  have e1 := Option.some.inj e1
  have hT : decide (dz_M199_64 (q_vw 34 172 0 (q_pt 34 0 172 0 (q_pt 172 1 0 206 S r0.1) r1.1)) = r0.2.1) = true := decide_eq_true hC
  cases hk0 : decide (r0.2.1 = 0) with
  | false => exact ⟨_, _, _, hN, hP8, Nat.add_le_add_left hE c, by omega, fun o ho => q_lw37tf z L xs S c n i hx0 hx1 hx2 hx3 hi hv r0 e0 r1 e1 hT hk0 ho⟩
  | true =>
    have hV := hX trivial (of_decide_eq_true hk0)
    have hO : (q_pt 34 0 172 0 (q_pt 172 1 0 206 S r0.1) r1.1).2.2 206 0 = r0.1.2.2 172 0 := rfl
    cases hb : r1.2 with
    | false => exact ⟨_, _, _, hN, hP8, Nat.add_le_add_left hE c, by omega, fun o ho => q_lw37tttt z L xs S c n i hx0 hx1 hx2 hx3 hi hv r0 e0 r1 e1 hT hk0 (by rw [hb]; rfl) (by
      show decide (lg_cmp (((q_pt 34 0 172 0 (q_pt 172 1 0 206 S r0.1) r1.1).2.2 206) 0) 0 = 0) = true
      rw [hO, hV, hb]
      exact q_cmp0 0) ho⟩
    | true => exact ⟨_, _, _, hN, hP8, Nat.add_le_add_left hE c, by omega, fun o ho => q_lw37ttft z L xs S c n i hx0 hx1 hx2 hx3 hi hv r0 e0 r1 e1 hT hk0 (by rw [hb]; rfl) (by
      show decide (lg_cmp (((q_pt 34 0 172 0 (q_pt 172 1 0 206 S r0.1) r1.1).2.2 206) 0) 1 = 0) = true
      rw [hO, hV, hb]
      exact q_cmp0 1) ho⟩
theorem q_st38 (h : q_IV k S) (hk : k < 512) (hx : q_XS L i) (hF : q_RZ (q_vw 172 0 206 S)) (hv : xs i.toNatClampNeg &&& 63 = 38) : q_NX z L xs i S c n k := by
  obtain ⟨hx0, hx1, hx2, hx3, hi⟩ := hx
  obtain ⟨r, e0, e1⟩ := q_tSum h.1
  exact ⟨_, _, _, q_rdn h, q_RZR (S := S) (q_rdn h) hF, Nat.le_add_right c 1, Nat.le_add_right n 6, fun o ho => q_lw38 z L xs S c n i hx0 hx1 hx2 hx3 hi hv _ e0 _ e1 ho⟩
theorem q_st39 (h : q_IV k S) (hk : k < 512) (hx : q_XS L i) (hF : q_RZ (q_vw 172 0 206 S)) (hv : xs i.toNatClampNeg &&& 63 = 39) : q_NX z L xs i S c n k := by
  obtain ⟨hx0, hx1, hx2, hx3, hi⟩ := hx
  have e0 := q_tPic h.1
  exact ⟨_, _, _, q_rdn h, q_RZR (S := S) (q_rdn h) hF, Nat.le_add_right c 1, Nat.le_add_right n 6, fun o ho => q_lw39 z L xs S c n i hx0 hx1 hx2 hx3 hi hv _ e0 ho⟩
theorem q_st40 (h : q_IV k S) (hk : k < 512) (hx : q_XS L i) (hF : q_RZ (q_vw 172 0 206 S)) (hv : xs i.toNatClampNeg &&& 63 = 40) : q_NX z L xs i S c n k := by
  obtain ⟨hx0, hx1, hx2, hx3, hi⟩ := hx
  obtain ⟨r, e0, e1, e2⟩ := q_tSol h.1
  exact ⟨_, _, _, q_rdn h, q_RZR (S := S) (q_rdn h) hF, Nat.le_add_right c 1, Nat.le_add_right n 6, fun o ho => q_lw40 z L xs S c n i hx0 hx1 hx2 hx3 hi hv _ e0 _ e1 (q_f2dnn e2) (q_f2dnn e2) ho⟩
theorem q_st41 (h : q_IV k S) (hk : k < 512) (hx : q_XS L i) (hF : q_RZ (q_vw 172 0 206 S)) (hv : xs i.toNatClampNeg &&& 63 = 41) : q_NX z L xs i S c n k := by
  obtain ⟨hx0, hx1, hx2, hx3, hi⟩ := hx
  obtain ⟨r, e0, e1⟩ := q_tMen h.1
  exact ⟨_, _, _, q_rdn h, q_RZR (S := S) (q_rdn h) hF, Nat.le_add_right c 1, Nat.le_add_right n 6, fun o ho => q_lw41 z L xs S c n i hx0 hx1 hx2 hx3 hi hv _ e0 _ e1 ho⟩
theorem q_st42 (h : q_IV k S) (hk : k < 512) (hx : q_XS L i) (hF : q_RZ (q_vw 172 0 206 S)) (hv : xs i.toNatClampNeg &&& 63 = 42) : q_NX z L xs i S c n k := by
  obtain ⟨hx0, hx1, hx2, hx3, hi⟩ := hx
  exact ⟨_, _, _, q_nop h, hF, Nat.le_add_right c 1, Nat.le_add_right n 6, fun o ho => q_lw42 z L xs S c n i hx0 hx1 hx2 hx3 hi hv ho⟩
set_option maxHeartbeats 4000000 in
theorem q_lw43 (z L : Nat) (xs : Nat → Int32) (S : q_S) (c n : Nat) (i : Int32) (hx0 : q_in i L = true) (hx1 : q_in (i + 1) L = true) (hx2 : q_in (i + 2) L = true) (hx3 : q_in (i + 3) L = true) (hi : decide (Int32.ofNat L - 4 < i) = false) (hv : xs i.toNatClampNeg &&& 63 = 43) {o : q_Out} (h : q_Ru (q_TBs z L xs) 20 376 (23, [(4, .int (i + 4)), (3, .ref 270), (2, .ref 236), (1, .ref 64), (0, .ref 0)], [], (q_kL S c n)) o) : q_Ru (q_TBs z L xs) 20 376 (23, [(4, .int i), (3, .ref 270), (2, .ref 236), (1, .ref 64), (0, .ref 0)], [], (q_kL S c n)) o := by
  refine q_Ru_seg (g2 := (29, [(4, .int i), (3, .ref 270), (2, .ref 236), (1, .ref 64), (0, .ref 0)], [.int ((Int32.ofNat L) - 4), .int i], (q_kL S c n))) 5 (fun _ _ => rfl) ?_
  refine q_Ru_rsF (g2 := (32, [(4, .int i), (3, .ref 270), (2, .ref 236), (1, .ref 64), (0, .ref 0)], [], (q_kL S c n))) rfl rfl hi ?_
  refine q_Ru_seg (g2 := (35, [(4, .int i), (3, .ref 270), (2, .ref 236), (1, .ref 64), (0, .ref 0)], [.int i, .ref 0], (q_kL S c n))) 2 (fun _ _ => rfl) ?_
  refine q_Ru_rsT (g2 := (36, [(4, .int i), (3, .ref 270), (2, .ref 236), (1, .ref 64), (0, .ref 0)], [.int (xs (i.toNatClampNeg))], (q_kL S c n))) rfl rfl hx0 ?_
  refine q_Ru_seg (g2 := (39, [(4, .int i), (3, .ref 270), (2, .ref 236), (1, .ref 64), (0, .ref 0)], [.int ((xs (i.toNatClampNeg)) &&& 63)], (q_kL S c n))) 2 (fun _ _ => rfl) ?_
  rw [hv]
  refine q_Ru_seg (g2 := (23, [(4, .int (i + 4)), (3, .ref 270), (2, .ref 236), (1, .ref 64), (0, .ref 0)], [], (q_kL S c n))) 3 (fun _ _ => rfl) ?_
  exact q_Ru_xt (q_xt_mk (q_mn1 0 rfl (q_mn1 1 rfl (q_mn1 2 rfl (q_mn1 3 rfl (q_mn1 4 rfl q_mn0))))) rfl) h
theorem q_st43 (h : q_IV k S) (hk : k < 512) (hx : q_XS L i) (hF : q_RZ (q_vw 172 0 206 S)) (hv : xs i.toNatClampNeg &&& 63 = 43) : q_NX z L xs i S c n k := by
  obtain ⟨hx0, hx1, hx2, hx3, hi⟩ := hx
  exact ⟨_, _, _, q_nop h, hF, Nat.le_add_right c 1, Nat.le_add_right n 6, fun o ho => q_lw43 z L xs S c n i hx0 hx1 hx2 hx3 hi hv ho⟩
set_option maxHeartbeats 4000000 in
theorem q_lw44 (z L : Nat) (xs : Nat → Int32) (S : q_S) (c n : Nat) (i : Int32) (hx0 : q_in i L = true) (hx1 : q_in (i + 1) L = true) (hx2 : q_in (i + 2) L = true) (hx3 : q_in (i + 3) L = true) (hi : decide (Int32.ofNat L - 4 < i) = false) (hv : xs i.toNatClampNeg &&& 63 = 44) {o : q_Out} (h : q_Ru (q_TBs z L xs) 20 376 (23, [(4, .int (i + 4)), (3, .ref 270), (2, .ref 236), (1, .ref 64), (0, .ref 0)], [], (q_kL S c n)) o) : q_Ru (q_TBs z L xs) 20 376 (23, [(4, .int i), (3, .ref 270), (2, .ref 236), (1, .ref 64), (0, .ref 0)], [], (q_kL S c n)) o := by
  refine q_Ru_seg (g2 := (29, [(4, .int i), (3, .ref 270), (2, .ref 236), (1, .ref 64), (0, .ref 0)], [.int ((Int32.ofNat L) - 4), .int i], (q_kL S c n))) 5 (fun _ _ => rfl) ?_
  refine q_Ru_rsF (g2 := (32, [(4, .int i), (3, .ref 270), (2, .ref 236), (1, .ref 64), (0, .ref 0)], [], (q_kL S c n))) rfl rfl hi ?_
  refine q_Ru_seg (g2 := (35, [(4, .int i), (3, .ref 270), (2, .ref 236), (1, .ref 64), (0, .ref 0)], [.int i, .ref 0], (q_kL S c n))) 2 (fun _ _ => rfl) ?_
  refine q_Ru_rsT (g2 := (36, [(4, .int i), (3, .ref 270), (2, .ref 236), (1, .ref 64), (0, .ref 0)], [.int (xs (i.toNatClampNeg))], (q_kL S c n))) rfl rfl hx0 ?_
  refine q_Ru_seg (g2 := (39, [(4, .int i), (3, .ref 270), (2, .ref 236), (1, .ref 64), (0, .ref 0)], [.int ((xs (i.toNatClampNeg)) &&& 63)], (q_kL S c n))) 2 (fun _ _ => rfl) ?_
  rw [hv]
  refine q_Ru_seg (g2 := (23, [(4, .int (i + 4)), (3, .ref 270), (2, .ref 236), (1, .ref 64), (0, .ref 0)], [], (q_kL S c n))) 3 (fun _ _ => rfl) ?_
  exact q_Ru_xt (q_xt_mk (q_mn1 0 rfl (q_mn1 1 rfl (q_mn1 2 rfl (q_mn1 3 rfl (q_mn1 4 rfl q_mn0))))) rfl) h
theorem q_st44 (h : q_IV k S) (hk : k < 512) (hx : q_XS L i) (hF : q_RZ (q_vw 172 0 206 S)) (hv : xs i.toNatClampNeg &&& 63 = 44) : q_NX z L xs i S c n k := by
  obtain ⟨hx0, hx1, hx2, hx3, hi⟩ := hx
  exact ⟨_, _, _, q_nop h, hF, Nat.le_add_right c 1, Nat.le_add_right n 6, fun o ho => q_lw44 z L xs S c n i hx0 hx1 hx2 hx3 hi hv ho⟩
set_option maxHeartbeats 4000000 in
theorem q_lw45 (z L : Nat) (xs : Nat → Int32) (S : q_S) (c n : Nat) (i : Int32) (hx0 : q_in i L = true) (hx1 : q_in (i + 1) L = true) (hx2 : q_in (i + 2) L = true) (hx3 : q_in (i + 3) L = true) (hi : decide (Int32.ofNat L - 4 < i) = false) (hv : xs i.toNatClampNeg &&& 63 = 45) {o : q_Out} (h : q_Ru (q_TBs z L xs) 20 376 (23, [(4, .int (i + 4)), (3, .ref 270), (2, .ref 236), (1, .ref 64), (0, .ref 0)], [], (q_kL S c n)) o) : q_Ru (q_TBs z L xs) 20 376 (23, [(4, .int i), (3, .ref 270), (2, .ref 236), (1, .ref 64), (0, .ref 0)], [], (q_kL S c n)) o := by
  refine q_Ru_seg (g2 := (29, [(4, .int i), (3, .ref 270), (2, .ref 236), (1, .ref 64), (0, .ref 0)], [.int ((Int32.ofNat L) - 4), .int i], (q_kL S c n))) 5 (fun _ _ => rfl) ?_
  refine q_Ru_rsF (g2 := (32, [(4, .int i), (3, .ref 270), (2, .ref 236), (1, .ref 64), (0, .ref 0)], [], (q_kL S c n))) rfl rfl hi ?_
  refine q_Ru_seg (g2 := (35, [(4, .int i), (3, .ref 270), (2, .ref 236), (1, .ref 64), (0, .ref 0)], [.int i, .ref 0], (q_kL S c n))) 2 (fun _ _ => rfl) ?_
  refine q_Ru_rsT (g2 := (36, [(4, .int i), (3, .ref 270), (2, .ref 236), (1, .ref 64), (0, .ref 0)], [.int (xs (i.toNatClampNeg))], (q_kL S c n))) rfl rfl hx0 ?_
  refine q_Ru_seg (g2 := (39, [(4, .int i), (3, .ref 270), (2, .ref 236), (1, .ref 64), (0, .ref 0)], [.int ((xs (i.toNatClampNeg)) &&& 63)], (q_kL S c n))) 2 (fun _ _ => rfl) ?_
  rw [hv]
  refine q_Ru_seg (g2 := (23, [(4, .int (i + 4)), (3, .ref 270), (2, .ref 236), (1, .ref 64), (0, .ref 0)], [], (q_kL S c n))) 3 (fun _ _ => rfl) ?_
  exact q_Ru_xt (q_xt_mk (q_mn1 0 rfl (q_mn1 1 rfl (q_mn1 2 rfl (q_mn1 3 rfl (q_mn1 4 rfl q_mn0))))) rfl) h
theorem q_st45 (h : q_IV k S) (hk : k < 512) (hx : q_XS L i) (hF : q_RZ (q_vw 172 0 206 S)) (hv : xs i.toNatClampNeg &&& 63 = 45) : q_NX z L xs i S c n k := by
  obtain ⟨hx0, hx1, hx2, hx3, hi⟩ := hx
  exact ⟨_, _, _, q_nop h, hF, Nat.le_add_right c 1, Nat.le_add_right n 6, fun o ho => q_lw45 z L xs S c n i hx0 hx1 hx2 hx3 hi hv ho⟩
set_option maxHeartbeats 4000000 in
theorem q_lw46 (z L : Nat) (xs : Nat → Int32) (S : q_S) (c n : Nat) (i : Int32) (hx0 : q_in i L = true) (hx1 : q_in (i + 1) L = true) (hx2 : q_in (i + 2) L = true) (hx3 : q_in (i + 3) L = true) (hi : decide (Int32.ofNat L - 4 < i) = false) (hv : xs i.toNatClampNeg &&& 63 = 46) {o : q_Out} (h : q_Ru (q_TBs z L xs) 20 376 (23, [(4, .int (i + 4)), (3, .ref 270), (2, .ref 236), (1, .ref 64), (0, .ref 0)], [], (q_kL S c n)) o) : q_Ru (q_TBs z L xs) 20 376 (23, [(4, .int i), (3, .ref 270), (2, .ref 236), (1, .ref 64), (0, .ref 0)], [], (q_kL S c n)) o := by
  refine q_Ru_seg (g2 := (29, [(4, .int i), (3, .ref 270), (2, .ref 236), (1, .ref 64), (0, .ref 0)], [.int ((Int32.ofNat L) - 4), .int i], (q_kL S c n))) 5 (fun _ _ => rfl) ?_
  refine q_Ru_rsF (g2 := (32, [(4, .int i), (3, .ref 270), (2, .ref 236), (1, .ref 64), (0, .ref 0)], [], (q_kL S c n))) rfl rfl hi ?_
  refine q_Ru_seg (g2 := (35, [(4, .int i), (3, .ref 270), (2, .ref 236), (1, .ref 64), (0, .ref 0)], [.int i, .ref 0], (q_kL S c n))) 2 (fun _ _ => rfl) ?_
  refine q_Ru_rsT (g2 := (36, [(4, .int i), (3, .ref 270), (2, .ref 236), (1, .ref 64), (0, .ref 0)], [.int (xs (i.toNatClampNeg))], (q_kL S c n))) rfl rfl hx0 ?_
  refine q_Ru_seg (g2 := (39, [(4, .int i), (3, .ref 270), (2, .ref 236), (1, .ref 64), (0, .ref 0)], [.int ((xs (i.toNatClampNeg)) &&& 63)], (q_kL S c n))) 2 (fun _ _ => rfl) ?_
  rw [hv]
  refine q_Ru_seg (g2 := (23, [(4, .int (i + 4)), (3, .ref 270), (2, .ref 236), (1, .ref 64), (0, .ref 0)], [], (q_kL S c n))) 3 (fun _ _ => rfl) ?_
  exact q_Ru_xt (q_xt_mk (q_mn1 0 rfl (q_mn1 1 rfl (q_mn1 2 rfl (q_mn1 3 rfl (q_mn1 4 rfl q_mn0))))) rfl) h
theorem q_st46 (h : q_IV k S) (hk : k < 512) (hx : q_XS L i) (hF : q_RZ (q_vw 172 0 206 S)) (hv : xs i.toNatClampNeg &&& 63 = 46) : q_NX z L xs i S c n k := by
  obtain ⟨hx0, hx1, hx2, hx3, hi⟩ := hx
  exact ⟨_, _, _, q_nop h, hF, Nat.le_add_right c 1, Nat.le_add_right n 6, fun o ho => q_lw46 z L xs S c n i hx0 hx1 hx2 hx3 hi hv ho⟩
set_option maxHeartbeats 4000000 in
theorem q_lw47 (z L : Nat) (xs : Nat → Int32) (S : q_S) (c n : Nat) (i : Int32) (hx0 : q_in i L = true) (hx1 : q_in (i + 1) L = true) (hx2 : q_in (i + 2) L = true) (hx3 : q_in (i + 3) L = true) (hi : decide (Int32.ofNat L - 4 < i) = false) (hv : xs i.toNatClampNeg &&& 63 = 47) {o : q_Out} (h : q_Ru (q_TBs z L xs) 20 376 (23, [(4, .int (i + 4)), (3, .ref 270), (2, .ref 236), (1, .ref 64), (0, .ref 0)], [], (q_kL S c n)) o) : q_Ru (q_TBs z L xs) 20 376 (23, [(4, .int i), (3, .ref 270), (2, .ref 236), (1, .ref 64), (0, .ref 0)], [], (q_kL S c n)) o := by
  refine q_Ru_seg (g2 := (29, [(4, .int i), (3, .ref 270), (2, .ref 236), (1, .ref 64), (0, .ref 0)], [.int ((Int32.ofNat L) - 4), .int i], (q_kL S c n))) 5 (fun _ _ => rfl) ?_
  refine q_Ru_rsF (g2 := (32, [(4, .int i), (3, .ref 270), (2, .ref 236), (1, .ref 64), (0, .ref 0)], [], (q_kL S c n))) rfl rfl hi ?_
  refine q_Ru_seg (g2 := (35, [(4, .int i), (3, .ref 270), (2, .ref 236), (1, .ref 64), (0, .ref 0)], [.int i, .ref 0], (q_kL S c n))) 2 (fun _ _ => rfl) ?_
  refine q_Ru_rsT (g2 := (36, [(4, .int i), (3, .ref 270), (2, .ref 236), (1, .ref 64), (0, .ref 0)], [.int (xs (i.toNatClampNeg))], (q_kL S c n))) rfl rfl hx0 ?_
  refine q_Ru_seg (g2 := (39, [(4, .int i), (3, .ref 270), (2, .ref 236), (1, .ref 64), (0, .ref 0)], [.int ((xs (i.toNatClampNeg)) &&& 63)], (q_kL S c n))) 2 (fun _ _ => rfl) ?_
  rw [hv]
  refine q_Ru_seg (g2 := (23, [(4, .int (i + 4)), (3, .ref 270), (2, .ref 236), (1, .ref 64), (0, .ref 0)], [], (q_kL S c n))) 3 (fun _ _ => rfl) ?_
  exact q_Ru_xt (q_xt_mk (q_mn1 0 rfl (q_mn1 1 rfl (q_mn1 2 rfl (q_mn1 3 rfl (q_mn1 4 rfl q_mn0))))) rfl) h
theorem q_st47 (h : q_IV k S) (hk : k < 512) (hx : q_XS L i) (hF : q_RZ (q_vw 172 0 206 S)) (hv : xs i.toNatClampNeg &&& 63 = 47) : q_NX z L xs i S c n k := by
  obtain ⟨hx0, hx1, hx2, hx3, hi⟩ := hx
  exact ⟨_, _, _, q_nop h, hF, Nat.le_add_right c 1, Nat.le_add_right n 6, fun o ho => q_lw47 z L xs S c n i hx0 hx1 hx2 hx3 hi hv ho⟩
set_option maxHeartbeats 4000000 in
theorem q_lw48 (z L : Nat) (xs : Nat → Int32) (S : q_S) (c n : Nat) (i : Int32) (hx0 : q_in i L = true) (hx1 : q_in (i + 1) L = true) (hx2 : q_in (i + 2) L = true) (hx3 : q_in (i + 3) L = true) (hi : decide (Int32.ofNat L - 4 < i) = false) (hv : xs i.toNatClampNeg &&& 63 = 48) {o : q_Out} (h : q_Ru (q_TBs z L xs) 20 376 (23, [(4, .int (i + 4)), (3, .ref 270), (2, .ref 236), (1, .ref 64), (0, .ref 0)], [], (q_kL S c n)) o) : q_Ru (q_TBs z L xs) 20 376 (23, [(4, .int i), (3, .ref 270), (2, .ref 236), (1, .ref 64), (0, .ref 0)], [], (q_kL S c n)) o := by
  refine q_Ru_seg (g2 := (29, [(4, .int i), (3, .ref 270), (2, .ref 236), (1, .ref 64), (0, .ref 0)], [.int ((Int32.ofNat L) - 4), .int i], (q_kL S c n))) 5 (fun _ _ => rfl) ?_
  refine q_Ru_rsF (g2 := (32, [(4, .int i), (3, .ref 270), (2, .ref 236), (1, .ref 64), (0, .ref 0)], [], (q_kL S c n))) rfl rfl hi ?_
  refine q_Ru_seg (g2 := (35, [(4, .int i), (3, .ref 270), (2, .ref 236), (1, .ref 64), (0, .ref 0)], [.int i, .ref 0], (q_kL S c n))) 2 (fun _ _ => rfl) ?_
  refine q_Ru_rsT (g2 := (36, [(4, .int i), (3, .ref 270), (2, .ref 236), (1, .ref 64), (0, .ref 0)], [.int (xs (i.toNatClampNeg))], (q_kL S c n))) rfl rfl hx0 ?_
  refine q_Ru_seg (g2 := (39, [(4, .int i), (3, .ref 270), (2, .ref 236), (1, .ref 64), (0, .ref 0)], [.int ((xs (i.toNatClampNeg)) &&& 63)], (q_kL S c n))) 2 (fun _ _ => rfl) ?_
  rw [hv]
  refine q_Ru_seg (g2 := (23, [(4, .int (i + 4)), (3, .ref 270), (2, .ref 236), (1, .ref 64), (0, .ref 0)], [], (q_kL S c n))) 3 (fun _ _ => rfl) ?_
  exact q_Ru_xt (q_xt_mk (q_mn1 0 rfl (q_mn1 1 rfl (q_mn1 2 rfl (q_mn1 3 rfl (q_mn1 4 rfl q_mn0))))) rfl) h
theorem q_st48 (h : q_IV k S) (hk : k < 512) (hx : q_XS L i) (hF : q_RZ (q_vw 172 0 206 S)) (hv : xs i.toNatClampNeg &&& 63 = 48) : q_NX z L xs i S c n k := by
  obtain ⟨hx0, hx1, hx2, hx3, hi⟩ := hx
  exact ⟨_, _, _, q_nop h, hF, Nat.le_add_right c 1, Nat.le_add_right n 6, fun o ho => q_lw48 z L xs S c n i hx0 hx1 hx2 hx3 hi hv ho⟩
set_option maxHeartbeats 4000000 in
theorem q_lw49 (z L : Nat) (xs : Nat → Int32) (S : q_S) (c n : Nat) (i : Int32) (hx0 : q_in i L = true) (hx1 : q_in (i + 1) L = true) (hx2 : q_in (i + 2) L = true) (hx3 : q_in (i + 3) L = true) (hi : decide (Int32.ofNat L - 4 < i) = false) (hv : xs i.toNatClampNeg &&& 63 = 49) {o : q_Out} (h : q_Ru (q_TBs z L xs) 20 376 (23, [(4, .int (i + 4)), (3, .ref 270), (2, .ref 236), (1, .ref 64), (0, .ref 0)], [], (q_kL S c n)) o) : q_Ru (q_TBs z L xs) 20 376 (23, [(4, .int i), (3, .ref 270), (2, .ref 236), (1, .ref 64), (0, .ref 0)], [], (q_kL S c n)) o := by
  refine q_Ru_seg (g2 := (29, [(4, .int i), (3, .ref 270), (2, .ref 236), (1, .ref 64), (0, .ref 0)], [.int ((Int32.ofNat L) - 4), .int i], (q_kL S c n))) 5 (fun _ _ => rfl) ?_
  refine q_Ru_rsF (g2 := (32, [(4, .int i), (3, .ref 270), (2, .ref 236), (1, .ref 64), (0, .ref 0)], [], (q_kL S c n))) rfl rfl hi ?_
  refine q_Ru_seg (g2 := (35, [(4, .int i), (3, .ref 270), (2, .ref 236), (1, .ref 64), (0, .ref 0)], [.int i, .ref 0], (q_kL S c n))) 2 (fun _ _ => rfl) ?_
  refine q_Ru_rsT (g2 := (36, [(4, .int i), (3, .ref 270), (2, .ref 236), (1, .ref 64), (0, .ref 0)], [.int (xs (i.toNatClampNeg))], (q_kL S c n))) rfl rfl hx0 ?_
  refine q_Ru_seg (g2 := (39, [(4, .int i), (3, .ref 270), (2, .ref 236), (1, .ref 64), (0, .ref 0)], [.int ((xs (i.toNatClampNeg)) &&& 63)], (q_kL S c n))) 2 (fun _ _ => rfl) ?_
  rw [hv]
  refine q_Ru_seg (g2 := (23, [(4, .int (i + 4)), (3, .ref 270), (2, .ref 236), (1, .ref 64), (0, .ref 0)], [], (q_kL S c n))) 3 (fun _ _ => rfl) ?_
  exact q_Ru_xt (q_xt_mk (q_mn1 0 rfl (q_mn1 1 rfl (q_mn1 2 rfl (q_mn1 3 rfl (q_mn1 4 rfl q_mn0))))) rfl) h
theorem q_st49 (h : q_IV k S) (hk : k < 512) (hx : q_XS L i) (hF : q_RZ (q_vw 172 0 206 S)) (hv : xs i.toNatClampNeg &&& 63 = 49) : q_NX z L xs i S c n k := by
  obtain ⟨hx0, hx1, hx2, hx3, hi⟩ := hx
  exact ⟨_, _, _, q_nop h, hF, Nat.le_add_right c 1, Nat.le_add_right n 6, fun o ho => q_lw49 z L xs S c n i hx0 hx1 hx2 hx3 hi hv ho⟩
set_option maxHeartbeats 4000000 in
theorem q_lw50 (z L : Nat) (xs : Nat → Int32) (S : q_S) (c n : Nat) (i : Int32) (hx0 : q_in i L = true) (hx1 : q_in (i + 1) L = true) (hx2 : q_in (i + 2) L = true) (hx3 : q_in (i + 3) L = true) (hi : decide (Int32.ofNat L - 4 < i) = false) (hv : xs i.toNatClampNeg &&& 63 = 50) {o : q_Out} (h : q_Ru (q_TBs z L xs) 20 376 (23, [(4, .int (i + 4)), (3, .ref 270), (2, .ref 236), (1, .ref 64), (0, .ref 0)], [], (q_kL S c n)) o) : q_Ru (q_TBs z L xs) 20 376 (23, [(4, .int i), (3, .ref 270), (2, .ref 236), (1, .ref 64), (0, .ref 0)], [], (q_kL S c n)) o := by
  refine q_Ru_seg (g2 := (29, [(4, .int i), (3, .ref 270), (2, .ref 236), (1, .ref 64), (0, .ref 0)], [.int ((Int32.ofNat L) - 4), .int i], (q_kL S c n))) 5 (fun _ _ => rfl) ?_
  refine q_Ru_rsF (g2 := (32, [(4, .int i), (3, .ref 270), (2, .ref 236), (1, .ref 64), (0, .ref 0)], [], (q_kL S c n))) rfl rfl hi ?_
  refine q_Ru_seg (g2 := (35, [(4, .int i), (3, .ref 270), (2, .ref 236), (1, .ref 64), (0, .ref 0)], [.int i, .ref 0], (q_kL S c n))) 2 (fun _ _ => rfl) ?_
  refine q_Ru_rsT (g2 := (36, [(4, .int i), (3, .ref 270), (2, .ref 236), (1, .ref 64), (0, .ref 0)], [.int (xs (i.toNatClampNeg))], (q_kL S c n))) rfl rfl hx0 ?_
  refine q_Ru_seg (g2 := (39, [(4, .int i), (3, .ref 270), (2, .ref 236), (1, .ref 64), (0, .ref 0)], [.int ((xs (i.toNatClampNeg)) &&& 63)], (q_kL S c n))) 2 (fun _ _ => rfl) ?_
  rw [hv]
  refine q_Ru_seg (g2 := (23, [(4, .int (i + 4)), (3, .ref 270), (2, .ref 236), (1, .ref 64), (0, .ref 0)], [], (q_kL S c n))) 3 (fun _ _ => rfl) ?_
  exact q_Ru_xt (q_xt_mk (q_mn1 0 rfl (q_mn1 1 rfl (q_mn1 2 rfl (q_mn1 3 rfl (q_mn1 4 rfl q_mn0))))) rfl) h
theorem q_st50 (h : q_IV k S) (hk : k < 512) (hx : q_XS L i) (hF : q_RZ (q_vw 172 0 206 S)) (hv : xs i.toNatClampNeg &&& 63 = 50) : q_NX z L xs i S c n k := by
  obtain ⟨hx0, hx1, hx2, hx3, hi⟩ := hx
  exact ⟨_, _, _, q_nop h, hF, Nat.le_add_right c 1, Nat.le_add_right n 6, fun o ho => q_lw50 z L xs S c n i hx0 hx1 hx2 hx3 hi hv ho⟩
end
end
section
-- 58.ac
section
variable {z L : Nat} {xs : Nat → Int32} {S : q_S} {c n k : Nat} {i : Int32}
set_option maxHeartbeats 4000000 in
theorem q_lw51 (z L : Nat) (xs : Nat → Int32) (S : q_S) (c n : Nat) (i : Int32) (hx0 : q_in i L = true) (hx1 : q_in (i + 1) L = true) (hx2 : q_in (i + 2) L = true) (hx3 : q_in (i + 3) L = true) (hi : decide (Int32.ofNat L - 4 < i) = false) (hv : xs i.toNatClampNeg &&& 63 = 51) {o : q_Out} (h : q_Ru (q_TBs z L xs) 20 376 (23, [(4, .int (i + 4)), (3, .ref 270), (2, .ref 236), (1, .ref 64), (0, .ref 0)], [], (q_kL S c n)) o) : q_Ru (q_TBs z L xs) 20 376 (23, [(4, .int i), (3, .ref 270), (2, .ref 236), (1, .ref 64), (0, .ref 0)], [], (q_kL S c n)) o := by
  refine q_Ru_seg (g2 := (29, [(4, .int i), (3, .ref 270), (2, .ref 236), (1, .ref 64), (0, .ref 0)], [.int ((Int32.ofNat L) - 4), .int i], (q_kL S c n))) 5 (fun _ _ => rfl) ?_
  refine q_Ru_rsF (g2 := (32, [(4, .int i), (3, .ref 270), (2, .ref 236), (1, .ref 64), (0, .ref 0)], [], (q_kL S c n))) rfl rfl hi ?_
  refine q_Ru_seg (g2 := (35, [(4, .int i), (3, .ref 270), (2, .ref 236), (1, .ref 64), (0, .ref 0)], [.int i, .ref 0], (q_kL S c n))) 2 (fun _ _ => rfl) ?_
  refine q_Ru_rsT (g2 := (36, [(4, .int i), (3, .ref 270), (2, .ref 236), (1, .ref 64), (0, .ref 0)], [.int (xs (i.toNatClampNeg))], (q_kL S c n))) rfl rfl hx0 ?_
  refine q_Ru_seg (g2 := (39, [(4, .int i), (3, .ref 270), (2, .ref 236), (1, .ref 64), (0, .ref 0)], [.int ((xs (i.toNatClampNeg)) &&& 63)], (q_kL S c n))) 2 (fun _ _ => rfl) ?_
  rw [hv]
  refine q_Ru_seg (g2 := (23, [(4, .int (i + 4)), (3, .ref 270), (2, .ref 236), (1, .ref 64), (0, .ref 0)], [], (q_kL S c n))) 3 (fun _ _ => rfl) ?_
  exact q_Ru_xt (q_xt_mk (q_mn1 0 rfl (q_mn1 1 rfl (q_mn1 2 rfl (q_mn1 3 rfl (q_mn1 4 rfl q_mn0))))) rfl) h
theorem q_st51 (h : q_IV k S) (hk : k < 512) (hx : q_XS L i) (hF : q_RZ (q_vw 172 0 206 S)) (hv : xs i.toNatClampNeg &&& 63 = 51) : q_NX z L xs i S c n k := by
  obtain ⟨hx0, hx1, hx2, hx3, hi⟩ := hx
  exact ⟨_, _, _, q_nop h, hF, Nat.le_add_right c 1, Nat.le_add_right n 6, fun o ho => q_lw51 z L xs S c n i hx0 hx1 hx2 hx3 hi hv ho⟩
set_option maxHeartbeats 4000000 in
theorem q_lw52 (z L : Nat) (xs : Nat → Int32) (S : q_S) (c n : Nat) (i : Int32) (hx0 : q_in i L = true) (hx1 : q_in (i + 1) L = true) (hx2 : q_in (i + 2) L = true) (hx3 : q_in (i + 3) L = true) (hi : decide (Int32.ofNat L - 4 < i) = false) (hv : xs i.toNatClampNeg &&& 63 = 52) {o : q_Out} (h : q_Ru (q_TBs z L xs) 20 376 (23, [(4, .int (i + 4)), (3, .ref 270), (2, .ref 236), (1, .ref 64), (0, .ref 0)], [], (q_kL S c n)) o) : q_Ru (q_TBs z L xs) 20 376 (23, [(4, .int i), (3, .ref 270), (2, .ref 236), (1, .ref 64), (0, .ref 0)], [], (q_kL S c n)) o := by
  refine q_Ru_seg (g2 := (29, [(4, .int i), (3, .ref 270), (2, .ref 236), (1, .ref 64), (0, .ref 0)], [.int ((Int32.ofNat L) - 4), .int i], (q_kL S c n))) 5 (fun _ _ => rfl) ?_
  refine q_Ru_rsF (g2 := (32, [(4, .int i), (3, .ref 270), (2, .ref 236), (1, .ref 64), (0, .ref 0)], [], (q_kL S c n))) rfl rfl hi ?_
  refine q_Ru_seg (g2 := (35, [(4, .int i), (3, .ref 270), (2, .ref 236), (1, .ref 64), (0, .ref 0)], [.int i, .ref 0], (q_kL S c n))) 2 (fun _ _ => rfl) ?_
  refine q_Ru_rsT (g2 := (36, [(4, .int i), (3, .ref 270), (2, .ref 236), (1, .ref 64), (0, .ref 0)], [.int (xs (i.toNatClampNeg))], (q_kL S c n))) rfl rfl hx0 ?_
  refine q_Ru_seg (g2 := (39, [(4, .int i), (3, .ref 270), (2, .ref 236), (1, .ref 64), (0, .ref 0)], [.int ((xs (i.toNatClampNeg)) &&& 63)], (q_kL S c n))) 2 (fun _ _ => rfl) ?_
  rw [hv]
  refine q_Ru_seg (g2 := (23, [(4, .int (i + 4)), (3, .ref 270), (2, .ref 236), (1, .ref 64), (0, .ref 0)], [], (q_kL S c n))) 3 (fun _ _ => rfl) ?_
  exact q_Ru_xt (q_xt_mk (q_mn1 0 rfl (q_mn1 1 rfl (q_mn1 2 rfl (q_mn1 3 rfl (q_mn1 4 rfl q_mn0))))) rfl) h
theorem q_st52 (h : q_IV k S) (hk : k < 512) (hx : q_XS L i) (hF : q_RZ (q_vw 172 0 206 S)) (hv : xs i.toNatClampNeg &&& 63 = 52) : q_NX z L xs i S c n k := by
  obtain ⟨hx0, hx1, hx2, hx3, hi⟩ := hx
  exact ⟨_, _, _, q_nop h, hF, Nat.le_add_right c 1, Nat.le_add_right n 6, fun o ho => q_lw52 z L xs S c n i hx0 hx1 hx2 hx3 hi hv ho⟩
set_option maxHeartbeats 4000000 in
theorem q_lw53 (z L : Nat) (xs : Nat → Int32) (S : q_S) (c n : Nat) (i : Int32) (hx0 : q_in i L = true) (hx1 : q_in (i + 1) L = true) (hx2 : q_in (i + 2) L = true) (hx3 : q_in (i + 3) L = true) (hi : decide (Int32.ofNat L - 4 < i) = false) (hv : xs i.toNatClampNeg &&& 63 = 53) {o : q_Out} (h : q_Ru (q_TBs z L xs) 20 376 (23, [(4, .int (i + 4)), (3, .ref 270), (2, .ref 236), (1, .ref 64), (0, .ref 0)], [], (q_kL S c n)) o) : q_Ru (q_TBs z L xs) 20 376 (23, [(4, .int i), (3, .ref 270), (2, .ref 236), (1, .ref 64), (0, .ref 0)], [], (q_kL S c n)) o := by
  refine q_Ru_seg (g2 := (29, [(4, .int i), (3, .ref 270), (2, .ref 236), (1, .ref 64), (0, .ref 0)], [.int ((Int32.ofNat L) - 4), .int i], (q_kL S c n))) 5 (fun _ _ => rfl) ?_
  refine q_Ru_rsF (g2 := (32, [(4, .int i), (3, .ref 270), (2, .ref 236), (1, .ref 64), (0, .ref 0)], [], (q_kL S c n))) rfl rfl hi ?_
  refine q_Ru_seg (g2 := (35, [(4, .int i), (3, .ref 270), (2, .ref 236), (1, .ref 64), (0, .ref 0)], [.int i, .ref 0], (q_kL S c n))) 2 (fun _ _ => rfl) ?_
  refine q_Ru_rsT (g2 := (36, [(4, .int i), (3, .ref 270), (2, .ref 236), (1, .ref 64), (0, .ref 0)], [.int (xs (i.toNatClampNeg))], (q_kL S c n))) rfl rfl hx0 ?_
  refine q_Ru_seg (g2 := (39, [(4, .int i), (3, .ref 270), (2, .ref 236), (1, .ref 64), (0, .ref 0)], [.int ((xs (i.toNatClampNeg)) &&& 63)], (q_kL S c n))) 2 (fun _ _ => rfl) ?_
  rw [hv]
  refine q_Ru_seg (g2 := (23, [(4, .int (i + 4)), (3, .ref 270), (2, .ref 236), (1, .ref 64), (0, .ref 0)], [], (q_kL S c n))) 3 (fun _ _ => rfl) ?_
  exact q_Ru_xt (q_xt_mk (q_mn1 0 rfl (q_mn1 1 rfl (q_mn1 2 rfl (q_mn1 3 rfl (q_mn1 4 rfl q_mn0))))) rfl) h
theorem q_st53 (h : q_IV k S) (hk : k < 512) (hx : q_XS L i) (hF : q_RZ (q_vw 172 0 206 S)) (hv : xs i.toNatClampNeg &&& 63 = 53) : q_NX z L xs i S c n k := by
  obtain ⟨hx0, hx1, hx2, hx3, hi⟩ := hx
  exact ⟨_, _, _, q_nop h, hF, Nat.le_add_right c 1, Nat.le_add_right n 6, fun o ho => q_lw53 z L xs S c n i hx0 hx1 hx2 hx3 hi hv ho⟩
set_option maxHeartbeats 4000000 in
theorem q_lw54 (z L : Nat) (xs : Nat → Int32) (S : q_S) (c n : Nat) (i : Int32) (hx0 : q_in i L = true) (hx1 : q_in (i + 1) L = true) (hx2 : q_in (i + 2) L = true) (hx3 : q_in (i + 3) L = true) (hi : decide (Int32.ofNat L - 4 < i) = false) (hv : xs i.toNatClampNeg &&& 63 = 54) {o : q_Out} (h : q_Ru (q_TBs z L xs) 20 376 (23, [(4, .int (i + 4)), (3, .ref 270), (2, .ref 236), (1, .ref 64), (0, .ref 0)], [], (q_kL S c n)) o) : q_Ru (q_TBs z L xs) 20 376 (23, [(4, .int i), (3, .ref 270), (2, .ref 236), (1, .ref 64), (0, .ref 0)], [], (q_kL S c n)) o := by
  refine q_Ru_seg (g2 := (29, [(4, .int i), (3, .ref 270), (2, .ref 236), (1, .ref 64), (0, .ref 0)], [.int ((Int32.ofNat L) - 4), .int i], (q_kL S c n))) 5 (fun _ _ => rfl) ?_
  refine q_Ru_rsF (g2 := (32, [(4, .int i), (3, .ref 270), (2, .ref 236), (1, .ref 64), (0, .ref 0)], [], (q_kL S c n))) rfl rfl hi ?_
  refine q_Ru_seg (g2 := (35, [(4, .int i), (3, .ref 270), (2, .ref 236), (1, .ref 64), (0, .ref 0)], [.int i, .ref 0], (q_kL S c n))) 2 (fun _ _ => rfl) ?_
  refine q_Ru_rsT (g2 := (36, [(4, .int i), (3, .ref 270), (2, .ref 236), (1, .ref 64), (0, .ref 0)], [.int (xs (i.toNatClampNeg))], (q_kL S c n))) rfl rfl hx0 ?_
  refine q_Ru_seg (g2 := (39, [(4, .int i), (3, .ref 270), (2, .ref 236), (1, .ref 64), (0, .ref 0)], [.int ((xs (i.toNatClampNeg)) &&& 63)], (q_kL S c n))) 2 (fun _ _ => rfl) ?_
  rw [hv]
  refine q_Ru_seg (g2 := (23, [(4, .int (i + 4)), (3, .ref 270), (2, .ref 236), (1, .ref 64), (0, .ref 0)], [], (q_kL S c n))) 3 (fun _ _ => rfl) ?_
  exact q_Ru_xt (q_xt_mk (q_mn1 0 rfl (q_mn1 1 rfl (q_mn1 2 rfl (q_mn1 3 rfl (q_mn1 4 rfl q_mn0))))) rfl) h
theorem q_st54 (h : q_IV k S) (hk : k < 512) (hx : q_XS L i) (hF : q_RZ (q_vw 172 0 206 S)) (hv : xs i.toNatClampNeg &&& 63 = 54) : q_NX z L xs i S c n k := by
  obtain ⟨hx0, hx1, hx2, hx3, hi⟩ := hx
  exact ⟨_, _, _, q_nop h, hF, Nat.le_add_right c 1, Nat.le_add_right n 6, fun o ho => q_lw54 z L xs S c n i hx0 hx1 hx2 hx3 hi hv ho⟩
set_option maxHeartbeats 4000000 in
theorem q_lw55 (z L : Nat) (xs : Nat → Int32) (S : q_S) (c n : Nat) (i : Int32) (hx0 : q_in i L = true) (hx1 : q_in (i + 1) L = true) (hx2 : q_in (i + 2) L = true) (hx3 : q_in (i + 3) L = true) (hi : decide (Int32.ofNat L - 4 < i) = false) (hv : xs i.toNatClampNeg &&& 63 = 55) {o : q_Out} (h : q_Ru (q_TBs z L xs) 20 376 (23, [(4, .int (i + 4)), (3, .ref 270), (2, .ref 236), (1, .ref 64), (0, .ref 0)], [], (q_kL S c n)) o) : q_Ru (q_TBs z L xs) 20 376 (23, [(4, .int i), (3, .ref 270), (2, .ref 236), (1, .ref 64), (0, .ref 0)], [], (q_kL S c n)) o := by
  refine q_Ru_seg (g2 := (29, [(4, .int i), (3, .ref 270), (2, .ref 236), (1, .ref 64), (0, .ref 0)], [.int ((Int32.ofNat L) - 4), .int i], (q_kL S c n))) 5 (fun _ _ => rfl) ?_
  refine q_Ru_rsF (g2 := (32, [(4, .int i), (3, .ref 270), (2, .ref 236), (1, .ref 64), (0, .ref 0)], [], (q_kL S c n))) rfl rfl hi ?_
  refine q_Ru_seg (g2 := (35, [(4, .int i), (3, .ref 270), (2, .ref 236), (1, .ref 64), (0, .ref 0)], [.int i, .ref 0], (q_kL S c n))) 2 (fun _ _ => rfl) ?_
  refine q_Ru_rsT (g2 := (36, [(4, .int i), (3, .ref 270), (2, .ref 236), (1, .ref 64), (0, .ref 0)], [.int (xs (i.toNatClampNeg))], (q_kL S c n))) rfl rfl hx0 ?_
  refine q_Ru_seg (g2 := (39, [(4, .int i), (3, .ref 270), (2, .ref 236), (1, .ref 64), (0, .ref 0)], [.int ((xs (i.toNatClampNeg)) &&& 63)], (q_kL S c n))) 2 (fun _ _ => rfl) ?_
  rw [hv]
  refine q_Ru_seg (g2 := (23, [(4, .int (i + 4)), (3, .ref 270), (2, .ref 236), (1, .ref 64), (0, .ref 0)], [], (q_kL S c n))) 3 (fun _ _ => rfl) ?_
  exact q_Ru_xt (q_xt_mk (q_mn1 0 rfl (q_mn1 1 rfl (q_mn1 2 rfl (q_mn1 3 rfl (q_mn1 4 rfl q_mn0))))) rfl) h
theorem q_st55 (h : q_IV k S) (hk : k < 512) (hx : q_XS L i) (hF : q_RZ (q_vw 172 0 206 S)) (hv : xs i.toNatClampNeg &&& 63 = 55) : q_NX z L xs i S c n k := by
  obtain ⟨hx0, hx1, hx2, hx3, hi⟩ := hx
  exact ⟨_, _, _, q_nop h, hF, Nat.le_add_right c 1, Nat.le_add_right n 6, fun o ho => q_lw55 z L xs S c n i hx0 hx1 hx2 hx3 hi hv ho⟩
set_option maxHeartbeats 4000000 in
theorem q_lw56 (z L : Nat) (xs : Nat → Int32) (S : q_S) (c n : Nat) (i : Int32) (hx0 : q_in i L = true) (hx1 : q_in (i + 1) L = true) (hx2 : q_in (i + 2) L = true) (hx3 : q_in (i + 3) L = true) (hi : decide (Int32.ofNat L - 4 < i) = false) (hv : xs i.toNatClampNeg &&& 63 = 56) {o : q_Out} (h : q_Ru (q_TBs z L xs) 20 376 (23, [(4, .int (i + 4)), (3, .ref 270), (2, .ref 236), (1, .ref 64), (0, .ref 0)], [], (q_kL S c n)) o) : q_Ru (q_TBs z L xs) 20 376 (23, [(4, .int i), (3, .ref 270), (2, .ref 236), (1, .ref 64), (0, .ref 0)], [], (q_kL S c n)) o := by
  refine q_Ru_seg (g2 := (29, [(4, .int i), (3, .ref 270), (2, .ref 236), (1, .ref 64), (0, .ref 0)], [.int ((Int32.ofNat L) - 4), .int i], (q_kL S c n))) 5 (fun _ _ => rfl) ?_
  refine q_Ru_rsF (g2 := (32, [(4, .int i), (3, .ref 270), (2, .ref 236), (1, .ref 64), (0, .ref 0)], [], (q_kL S c n))) rfl rfl hi ?_
  refine q_Ru_seg (g2 := (35, [(4, .int i), (3, .ref 270), (2, .ref 236), (1, .ref 64), (0, .ref 0)], [.int i, .ref 0], (q_kL S c n))) 2 (fun _ _ => rfl) ?_
  refine q_Ru_rsT (g2 := (36, [(4, .int i), (3, .ref 270), (2, .ref 236), (1, .ref 64), (0, .ref 0)], [.int (xs (i.toNatClampNeg))], (q_kL S c n))) rfl rfl hx0 ?_
  refine q_Ru_seg (g2 := (39, [(4, .int i), (3, .ref 270), (2, .ref 236), (1, .ref 64), (0, .ref 0)], [.int ((xs (i.toNatClampNeg)) &&& 63)], (q_kL S c n))) 2 (fun _ _ => rfl) ?_
  rw [hv]
  refine q_Ru_seg (g2 := (23, [(4, .int (i + 4)), (3, .ref 270), (2, .ref 236), (1, .ref 64), (0, .ref 0)], [], (q_kL S c n))) 3 (fun _ _ => rfl) ?_
  exact q_Ru_xt (q_xt_mk (q_mn1 0 rfl (q_mn1 1 rfl (q_mn1 2 rfl (q_mn1 3 rfl (q_mn1 4 rfl q_mn0))))) rfl) h
theorem q_st56 (h : q_IV k S) (hk : k < 512) (hx : q_XS L i) (hF : q_RZ (q_vw 172 0 206 S)) (hv : xs i.toNatClampNeg &&& 63 = 56) : q_NX z L xs i S c n k := by
  obtain ⟨hx0, hx1, hx2, hx3, hi⟩ := hx
  exact ⟨_, _, _, q_nop h, hF, Nat.le_add_right c 1, Nat.le_add_right n 6, fun o ho => q_lw56 z L xs S c n i hx0 hx1 hx2 hx3 hi hv ho⟩
set_option maxHeartbeats 4000000 in
theorem q_lw57 (z L : Nat) (xs : Nat → Int32) (S : q_S) (c n : Nat) (i : Int32) (hx0 : q_in i L = true) (hx1 : q_in (i + 1) L = true) (hx2 : q_in (i + 2) L = true) (hx3 : q_in (i + 3) L = true) (hi : decide (Int32.ofNat L - 4 < i) = false) (hv : xs i.toNatClampNeg &&& 63 = 57) {o : q_Out} (h : q_Ru (q_TBs z L xs) 20 376 (23, [(4, .int (i + 4)), (3, .ref 270), (2, .ref 236), (1, .ref 64), (0, .ref 0)], [], (q_kL S c n)) o) : q_Ru (q_TBs z L xs) 20 376 (23, [(4, .int i), (3, .ref 270), (2, .ref 236), (1, .ref 64), (0, .ref 0)], [], (q_kL S c n)) o := by
  refine q_Ru_seg (g2 := (29, [(4, .int i), (3, .ref 270), (2, .ref 236), (1, .ref 64), (0, .ref 0)], [.int ((Int32.ofNat L) - 4), .int i], (q_kL S c n))) 5 (fun _ _ => rfl) ?_
  refine q_Ru_rsF (g2 := (32, [(4, .int i), (3, .ref 270), (2, .ref 236), (1, .ref 64), (0, .ref 0)], [], (q_kL S c n))) rfl rfl hi ?_
  refine q_Ru_seg (g2 := (35, [(4, .int i), (3, .ref 270), (2, .ref 236), (1, .ref 64), (0, .ref 0)], [.int i, .ref 0], (q_kL S c n))) 2 (fun _ _ => rfl) ?_
  refine q_Ru_rsT (g2 := (36, [(4, .int i), (3, .ref 270), (2, .ref 236), (1, .ref 64), (0, .ref 0)], [.int (xs (i.toNatClampNeg))], (q_kL S c n))) rfl rfl hx0 ?_
  refine q_Ru_seg (g2 := (39, [(4, .int i), (3, .ref 270), (2, .ref 236), (1, .ref 64), (0, .ref 0)], [.int ((xs (i.toNatClampNeg)) &&& 63)], (q_kL S c n))) 2 (fun _ _ => rfl) ?_
  rw [hv]
  refine q_Ru_seg (g2 := (23, [(4, .int (i + 4)), (3, .ref 270), (2, .ref 236), (1, .ref 64), (0, .ref 0)], [], (q_kL S c n))) 3 (fun _ _ => rfl) ?_
  exact q_Ru_xt (q_xt_mk (q_mn1 0 rfl (q_mn1 1 rfl (q_mn1 2 rfl (q_mn1 3 rfl (q_mn1 4 rfl q_mn0))))) rfl) h
theorem q_st57 (h : q_IV k S) (hk : k < 512) (hx : q_XS L i) (hF : q_RZ (q_vw 172 0 206 S)) (hv : xs i.toNatClampNeg &&& 63 = 57) : q_NX z L xs i S c n k := by
  obtain ⟨hx0, hx1, hx2, hx3, hi⟩ := hx
  exact ⟨_, _, _, q_nop h, hF, Nat.le_add_right c 1, Nat.le_add_right n 6, fun o ho => q_lw57 z L xs S c n i hx0 hx1 hx2 hx3 hi hv ho⟩
set_option maxHeartbeats 4000000 in
theorem q_lw58 (z L : Nat) (xs : Nat → Int32) (S : q_S) (c n : Nat) (i : Int32) (hx0 : q_in i L = true) (hx1 : q_in (i + 1) L = true) (hx2 : q_in (i + 2) L = true) (hx3 : q_in (i + 3) L = true) (hi : decide (Int32.ofNat L - 4 < i) = false) (hv : xs i.toNatClampNeg &&& 63 = 58) {o : q_Out} (h : q_Ru (q_TBs z L xs) 20 376 (23, [(4, .int (i + 4)), (3, .ref 270), (2, .ref 236), (1, .ref 64), (0, .ref 0)], [], (q_kL S c n)) o) : q_Ru (q_TBs z L xs) 20 376 (23, [(4, .int i), (3, .ref 270), (2, .ref 236), (1, .ref 64), (0, .ref 0)], [], (q_kL S c n)) o := by
  refine q_Ru_seg (g2 := (29, [(4, .int i), (3, .ref 270), (2, .ref 236), (1, .ref 64), (0, .ref 0)], [.int ((Int32.ofNat L) - 4), .int i], (q_kL S c n))) 5 (fun _ _ => rfl) ?_
  refine q_Ru_rsF (g2 := (32, [(4, .int i), (3, .ref 270), (2, .ref 236), (1, .ref 64), (0, .ref 0)], [], (q_kL S c n))) rfl rfl hi ?_
  refine q_Ru_seg (g2 := (35, [(4, .int i), (3, .ref 270), (2, .ref 236), (1, .ref 64), (0, .ref 0)], [.int i, .ref 0], (q_kL S c n))) 2 (fun _ _ => rfl) ?_
  refine q_Ru_rsT (g2 := (36, [(4, .int i), (3, .ref 270), (2, .ref 236), (1, .ref 64), (0, .ref 0)], [.int (xs (i.toNatClampNeg))], (q_kL S c n))) rfl rfl hx0 ?_
  refine q_Ru_seg (g2 := (39, [(4, .int i), (3, .ref 270), (2, .ref 236), (1, .ref 64), (0, .ref 0)], [.int ((xs (i.toNatClampNeg)) &&& 63)], (q_kL S c n))) 2 (fun _ _ => rfl) ?_
  rw [hv]
  refine q_Ru_seg (g2 := (23, [(4, .int (i + 4)), (3, .ref 270), (2, .ref 236), (1, .ref 64), (0, .ref 0)], [], (q_kL S c n))) 3 (fun _ _ => rfl) ?_
  exact q_Ru_xt (q_xt_mk (q_mn1 0 rfl (q_mn1 1 rfl (q_mn1 2 rfl (q_mn1 3 rfl (q_mn1 4 rfl q_mn0))))) rfl) h
theorem q_st58 (h : q_IV k S) (hk : k < 512) (hx : q_XS L i) (hF : q_RZ (q_vw 172 0 206 S)) (hv : xs i.toNatClampNeg &&& 63 = 58) : q_NX z L xs i S c n k := by
  obtain ⟨hx0, hx1, hx2, hx3, hi⟩ := hx
  exact ⟨_, _, _, q_nop h, hF, Nat.le_add_right c 1, Nat.le_add_right n 6, fun o ho => q_lw58 z L xs S c n i hx0 hx1 hx2 hx3 hi hv ho⟩
set_option maxHeartbeats 4000000 in
theorem q_lw59 (z L : Nat) (xs : Nat → Int32) (S : q_S) (c n : Nat) (i : Int32) (hx0 : q_in i L = true) (hx1 : q_in (i + 1) L = true) (hx2 : q_in (i + 2) L = true) (hx3 : q_in (i + 3) L = true) (hi : decide (Int32.ofNat L - 4 < i) = false) (hv : xs i.toNatClampNeg &&& 63 = 59) {o : q_Out} (h : q_Ru (q_TBs z L xs) 20 376 (23, [(4, .int (i + 4)), (3, .ref 270), (2, .ref 236), (1, .ref 64), (0, .ref 0)], [], (q_kL S c n)) o) : q_Ru (q_TBs z L xs) 20 376 (23, [(4, .int i), (3, .ref 270), (2, .ref 236), (1, .ref 64), (0, .ref 0)], [], (q_kL S c n)) o := by
  refine q_Ru_seg (g2 := (29, [(4, .int i), (3, .ref 270), (2, .ref 236), (1, .ref 64), (0, .ref 0)], [.int ((Int32.ofNat L) - 4), .int i], (q_kL S c n))) 5 (fun _ _ => rfl) ?_
  refine q_Ru_rsF (g2 := (32, [(4, .int i), (3, .ref 270), (2, .ref 236), (1, .ref 64), (0, .ref 0)], [], (q_kL S c n))) rfl rfl hi ?_
  refine q_Ru_seg (g2 := (35, [(4, .int i), (3, .ref 270), (2, .ref 236), (1, .ref 64), (0, .ref 0)], [.int i, .ref 0], (q_kL S c n))) 2 (fun _ _ => rfl) ?_
  refine q_Ru_rsT (g2 := (36, [(4, .int i), (3, .ref 270), (2, .ref 236), (1, .ref 64), (0, .ref 0)], [.int (xs (i.toNatClampNeg))], (q_kL S c n))) rfl rfl hx0 ?_
  refine q_Ru_seg (g2 := (39, [(4, .int i), (3, .ref 270), (2, .ref 236), (1, .ref 64), (0, .ref 0)], [.int ((xs (i.toNatClampNeg)) &&& 63)], (q_kL S c n))) 2 (fun _ _ => rfl) ?_
  rw [hv]
  refine q_Ru_seg (g2 := (23, [(4, .int (i + 4)), (3, .ref 270), (2, .ref 236), (1, .ref 64), (0, .ref 0)], [], (q_kL S c n))) 3 (fun _ _ => rfl) ?_
  exact q_Ru_xt (q_xt_mk (q_mn1 0 rfl (q_mn1 1 rfl (q_mn1 2 rfl (q_mn1 3 rfl (q_mn1 4 rfl q_mn0))))) rfl) h
theorem q_st59 (h : q_IV k S) (hk : k < 512) (hx : q_XS L i) (hF : q_RZ (q_vw 172 0 206 S)) (hv : xs i.toNatClampNeg &&& 63 = 59) : q_NX z L xs i S c n k := by
  obtain ⟨hx0, hx1, hx2, hx3, hi⟩ := hx
  exact ⟨_, _, _, q_nop h, hF, Nat.le_add_right c 1, Nat.le_add_right n 6, fun o ho => q_lw59 z L xs S c n i hx0 hx1 hx2 hx3 hi hv ho⟩
set_option maxHeartbeats 4000000 in
theorem q_lw60 (z L : Nat) (xs : Nat → Int32) (S : q_S) (c n : Nat) (i : Int32) (hx0 : q_in i L = true) (hx1 : q_in (i + 1) L = true) (hx2 : q_in (i + 2) L = true) (hx3 : q_in (i + 3) L = true) (hi : decide (Int32.ofNat L - 4 < i) = false) (hv : xs i.toNatClampNeg &&& 63 = 60) {o : q_Out} (h : q_Ru (q_TBs z L xs) 20 376 (23, [(4, .int (i + 4)), (3, .ref 270), (2, .ref 236), (1, .ref 64), (0, .ref 0)], [], (q_kL S c n)) o) : q_Ru (q_TBs z L xs) 20 376 (23, [(4, .int i), (3, .ref 270), (2, .ref 236), (1, .ref 64), (0, .ref 0)], [], (q_kL S c n)) o := by
  refine q_Ru_seg (g2 := (29, [(4, .int i), (3, .ref 270), (2, .ref 236), (1, .ref 64), (0, .ref 0)], [.int ((Int32.ofNat L) - 4), .int i], (q_kL S c n))) 5 (fun _ _ => rfl) ?_
  refine q_Ru_rsF (g2 := (32, [(4, .int i), (3, .ref 270), (2, .ref 236), (1, .ref 64), (0, .ref 0)], [], (q_kL S c n))) rfl rfl hi ?_
  refine q_Ru_seg (g2 := (35, [(4, .int i), (3, .ref 270), (2, .ref 236), (1, .ref 64), (0, .ref 0)], [.int i, .ref 0], (q_kL S c n))) 2 (fun _ _ => rfl) ?_
  refine q_Ru_rsT (g2 := (36, [(4, .int i), (3, .ref 270), (2, .ref 236), (1, .ref 64), (0, .ref 0)], [.int (xs (i.toNatClampNeg))], (q_kL S c n))) rfl rfl hx0 ?_
  refine q_Ru_seg (g2 := (39, [(4, .int i), (3, .ref 270), (2, .ref 236), (1, .ref 64), (0, .ref 0)], [.int ((xs (i.toNatClampNeg)) &&& 63)], (q_kL S c n))) 2 (fun _ _ => rfl) ?_
  rw [hv]
  refine q_Ru_seg (g2 := (23, [(4, .int (i + 4)), (3, .ref 270), (2, .ref 236), (1, .ref 64), (0, .ref 0)], [], (q_kL S c n))) 3 (fun _ _ => rfl) ?_
  exact q_Ru_xt (q_xt_mk (q_mn1 0 rfl (q_mn1 1 rfl (q_mn1 2 rfl (q_mn1 3 rfl (q_mn1 4 rfl q_mn0))))) rfl) h
theorem q_st60 (h : q_IV k S) (hk : k < 512) (hx : q_XS L i) (hF : q_RZ (q_vw 172 0 206 S)) (hv : xs i.toNatClampNeg &&& 63 = 60) : q_NX z L xs i S c n k := by
  obtain ⟨hx0, hx1, hx2, hx3, hi⟩ := hx
  exact ⟨_, _, _, q_nop h, hF, Nat.le_add_right c 1, Nat.le_add_right n 6, fun o ho => q_lw60 z L xs S c n i hx0 hx1 hx2 hx3 hi hv ho⟩
set_option maxHeartbeats 4000000 in
theorem q_lw61 (z L : Nat) (xs : Nat → Int32) (S : q_S) (c n : Nat) (i : Int32) (hx0 : q_in i L = true) (hx1 : q_in (i + 1) L = true) (hx2 : q_in (i + 2) L = true) (hx3 : q_in (i + 3) L = true) (hi : decide (Int32.ofNat L - 4 < i) = false) (hv : xs i.toNatClampNeg &&& 63 = 61) {o : q_Out} (h : q_Ru (q_TBs z L xs) 20 376 (23, [(4, .int (i + 4)), (3, .ref 270), (2, .ref 236), (1, .ref 64), (0, .ref 0)], [], (q_kL S c n)) o) : q_Ru (q_TBs z L xs) 20 376 (23, [(4, .int i), (3, .ref 270), (2, .ref 236), (1, .ref 64), (0, .ref 0)], [], (q_kL S c n)) o := by
  refine q_Ru_seg (g2 := (29, [(4, .int i), (3, .ref 270), (2, .ref 236), (1, .ref 64), (0, .ref 0)], [.int ((Int32.ofNat L) - 4), .int i], (q_kL S c n))) 5 (fun _ _ => rfl) ?_
  refine q_Ru_rsF (g2 := (32, [(4, .int i), (3, .ref 270), (2, .ref 236), (1, .ref 64), (0, .ref 0)], [], (q_kL S c n))) rfl rfl hi ?_
  refine q_Ru_seg (g2 := (35, [(4, .int i), (3, .ref 270), (2, .ref 236), (1, .ref 64), (0, .ref 0)], [.int i, .ref 0], (q_kL S c n))) 2 (fun _ _ => rfl) ?_
  refine q_Ru_rsT (g2 := (36, [(4, .int i), (3, .ref 270), (2, .ref 236), (1, .ref 64), (0, .ref 0)], [.int (xs (i.toNatClampNeg))], (q_kL S c n))) rfl rfl hx0 ?_
  refine q_Ru_seg (g2 := (39, [(4, .int i), (3, .ref 270), (2, .ref 236), (1, .ref 64), (0, .ref 0)], [.int ((xs (i.toNatClampNeg)) &&& 63)], (q_kL S c n))) 2 (fun _ _ => rfl) ?_
  rw [hv]
  refine q_Ru_seg (g2 := (23, [(4, .int (i + 4)), (3, .ref 270), (2, .ref 236), (1, .ref 64), (0, .ref 0)], [], (q_kL S c n))) 3 (fun _ _ => rfl) ?_
  exact q_Ru_xt (q_xt_mk (q_mn1 0 rfl (q_mn1 1 rfl (q_mn1 2 rfl (q_mn1 3 rfl (q_mn1 4 rfl q_mn0))))) rfl) h
theorem q_st61 (h : q_IV k S) (hk : k < 512) (hx : q_XS L i) (hF : q_RZ (q_vw 172 0 206 S)) (hv : xs i.toNatClampNeg &&& 63 = 61) : q_NX z L xs i S c n k := by
  obtain ⟨hx0, hx1, hx2, hx3, hi⟩ := hx
  exact ⟨_, _, _, q_nop h, hF, Nat.le_add_right c 1, Nat.le_add_right n 6, fun o ho => q_lw61 z L xs S c n i hx0 hx1 hx2 hx3 hi hv ho⟩
set_option maxHeartbeats 4000000 in
theorem q_lw62 (z L : Nat) (xs : Nat → Int32) (S : q_S) (c n : Nat) (i : Int32) (hx0 : q_in i L = true) (hx1 : q_in (i + 1) L = true) (hx2 : q_in (i + 2) L = true) (hx3 : q_in (i + 3) L = true) (hi : decide (Int32.ofNat L - 4 < i) = false) (hv : xs i.toNatClampNeg &&& 63 = 62) {o : q_Out} (h : q_Ru (q_TBs z L xs) 20 376 (23, [(4, .int (i + 4)), (3, .ref 270), (2, .ref 236), (1, .ref 64), (0, .ref 0)], [], (q_kL S c n)) o) : q_Ru (q_TBs z L xs) 20 376 (23, [(4, .int i), (3, .ref 270), (2, .ref 236), (1, .ref 64), (0, .ref 0)], [], (q_kL S c n)) o := by
  refine q_Ru_seg (g2 := (29, [(4, .int i), (3, .ref 270), (2, .ref 236), (1, .ref 64), (0, .ref 0)], [.int ((Int32.ofNat L) - 4), .int i], (q_kL S c n))) 5 (fun _ _ => rfl) ?_
  refine q_Ru_rsF (g2 := (32, [(4, .int i), (3, .ref 270), (2, .ref 236), (1, .ref 64), (0, .ref 0)], [], (q_kL S c n))) rfl rfl hi ?_
  refine q_Ru_seg (g2 := (35, [(4, .int i), (3, .ref 270), (2, .ref 236), (1, .ref 64), (0, .ref 0)], [.int i, .ref 0], (q_kL S c n))) 2 (fun _ _ => rfl) ?_
  refine q_Ru_rsT (g2 := (36, [(4, .int i), (3, .ref 270), (2, .ref 236), (1, .ref 64), (0, .ref 0)], [.int (xs (i.toNatClampNeg))], (q_kL S c n))) rfl rfl hx0 ?_
  refine q_Ru_seg (g2 := (39, [(4, .int i), (3, .ref 270), (2, .ref 236), (1, .ref 64), (0, .ref 0)], [.int ((xs (i.toNatClampNeg)) &&& 63)], (q_kL S c n))) 2 (fun _ _ => rfl) ?_
  rw [hv]
  refine q_Ru_seg (g2 := (23, [(4, .int (i + 4)), (3, .ref 270), (2, .ref 236), (1, .ref 64), (0, .ref 0)], [], (q_kL S c n))) 3 (fun _ _ => rfl) ?_
  exact q_Ru_xt (q_xt_mk (q_mn1 0 rfl (q_mn1 1 rfl (q_mn1 2 rfl (q_mn1 3 rfl (q_mn1 4 rfl q_mn0))))) rfl) h
theorem q_st62 (h : q_IV k S) (hk : k < 512) (hx : q_XS L i) (hF : q_RZ (q_vw 172 0 206 S)) (hv : xs i.toNatClampNeg &&& 63 = 62) : q_NX z L xs i S c n k := by
  obtain ⟨hx0, hx1, hx2, hx3, hi⟩ := hx
  exact ⟨_, _, _, q_nop h, hF, Nat.le_add_right c 1, Nat.le_add_right n 6, fun o ho => q_lw62 z L xs S c n i hx0 hx1 hx2 hx3 hi hv ho⟩
set_option maxHeartbeats 4000000 in
theorem q_lw63 (z L : Nat) (xs : Nat → Int32) (S : q_S) (c n : Nat) (i : Int32) (hx0 : q_in i L = true) (hx1 : q_in (i + 1) L = true) (hx2 : q_in (i + 2) L = true) (hx3 : q_in (i + 3) L = true) (hi : decide (Int32.ofNat L - 4 < i) = false) (hv : xs i.toNatClampNeg &&& 63 = 63) {o : q_Out} (h : q_Ru (q_TBs z L xs) 20 376 (23, [(4, .int (i + 4)), (3, .ref 270), (2, .ref 236), (1, .ref 64), (0, .ref 0)], [], (q_kL S c n)) o) : q_Ru (q_TBs z L xs) 20 376 (23, [(4, .int i), (3, .ref 270), (2, .ref 236), (1, .ref 64), (0, .ref 0)], [], (q_kL S c n)) o := by
  refine q_Ru_seg (g2 := (29, [(4, .int i), (3, .ref 270), (2, .ref 236), (1, .ref 64), (0, .ref 0)], [.int ((Int32.ofNat L) - 4), .int i], (q_kL S c n))) 5 (fun _ _ => rfl) ?_
  refine q_Ru_rsF (g2 := (32, [(4, .int i), (3, .ref 270), (2, .ref 236), (1, .ref 64), (0, .ref 0)], [], (q_kL S c n))) rfl rfl hi ?_
  refine q_Ru_seg (g2 := (35, [(4, .int i), (3, .ref 270), (2, .ref 236), (1, .ref 64), (0, .ref 0)], [.int i, .ref 0], (q_kL S c n))) 2 (fun _ _ => rfl) ?_
  refine q_Ru_rsT (g2 := (36, [(4, .int i), (3, .ref 270), (2, .ref 236), (1, .ref 64), (0, .ref 0)], [.int (xs (i.toNatClampNeg))], (q_kL S c n))) rfl rfl hx0 ?_
  refine q_Ru_seg (g2 := (39, [(4, .int i), (3, .ref 270), (2, .ref 236), (1, .ref 64), (0, .ref 0)], [.int ((xs (i.toNatClampNeg)) &&& 63)], (q_kL S c n))) 2 (fun _ _ => rfl) ?_
  rw [hv]
  refine q_Ru_seg (g2 := (23, [(4, .int (i + 4)), (3, .ref 270), (2, .ref 236), (1, .ref 64), (0, .ref 0)], [], (q_kL S c n))) 3 (fun _ _ => rfl) ?_
  exact q_Ru_xt (q_xt_mk (q_mn1 0 rfl (q_mn1 1 rfl (q_mn1 2 rfl (q_mn1 3 rfl (q_mn1 4 rfl q_mn0))))) rfl) h
theorem q_st63 (h : q_IV k S) (hk : k < 512) (hx : q_XS L i) (hF : q_RZ (q_vw 172 0 206 S)) (hv : xs i.toNatClampNeg &&& 63 = 63) : q_NX z L xs i S c n k := by
  obtain ⟨hx0, hx1, hx2, hx3, hi⟩ := hx
  exact ⟨_, _, _, q_nop h, hF, Nat.le_add_right c 1, Nat.le_add_right n 6, fun o ho => q_lw63 z L xs S c n i hx0 hx1 hx2 hx3 hi hv ho⟩
end
end
section
-- 58.b
section
variable {z L : Nat} {xs : Nat → Int32} {S : q_S} {c n k : Nat} {i : Int32}
theorem q_sall (h : q_IV k S) (hk : k < 512) (hx : q_XS L i) (hF : q_RZ (q_vw 172 0 206 S)) : q_NX z L xs i S c n k := by
  have r : q_rgz 0 63 (xs i.toNatClampNeg &&& 63) := q_rg_and (xs i.toNatClampNeg) 63 (by decide) rfl
  have r0 := r.1
  have r1 := r.2
  have key : ∀ j : Nat, j < 64 → (xs i.toNatClampNeg &&& 63).toInt = j → q_NX z L xs i S c n k := by
    intro j hj e
    by_cases g0_64 : j < 32
    · by_cases g0_32 : j < 16
      · by_cases g0_16 : j < 8
        · by_cases g0_8 : j < 4
          · by_cases g0_4 : j < 2
            · by_cases g0_2 : j < 1
              · exact q_st0 h hk hx hF (Int32.toInt_inj.mp (by show _ = (0 : Int); omega))
              · exact q_st1 h hk hx hF (Int32.toInt_inj.mp (by show _ = (1 : Int); omega))
            · by_cases g2_4 : j < 3
              · exact q_st2 h hk hx hF (Int32.toInt_inj.mp (by show _ = (2 : Int); omega))
              · exact q_st3 h hk hx hF (Int32.toInt_inj.mp (by show _ = (3 : Int); omega))
          · by_cases g4_8 : j < 6
            · by_cases g4_6 : j < 5
              · exact q_st4 h hk hx hF (Int32.toInt_inj.mp (by show _ = (4 : Int); omega))
              · exact q_st5 h hk hx hF (Int32.toInt_inj.mp (by show _ = (5 : Int); omega))
            · by_cases g6_8 : j < 7
              · exact q_st6 h hk hx hF (Int32.toInt_inj.mp (by show _ = (6 : Int); omega))
              · exact q_st7 h hk hx hF (Int32.toInt_inj.mp (by show _ = (7 : Int); omega))
        · by_cases g8_16 : j < 12
          · by_cases g8_12 : j < 10
            · by_cases g8_10 : j < 9
              · exact q_st8 h hk hx hF (Int32.toInt_inj.mp (by show _ = (8 : Int); omega))
              · exact q_st9 h hk hx hF (Int32.toInt_inj.mp (by show _ = (9 : Int); omega))
            · by_cases g10_12 : j < 11
              · exact q_st10 h hk hx hF (Int32.toInt_inj.mp (by show _ = (10 : Int); omega))
              · exact q_st11 h hk hx hF (Int32.toInt_inj.mp (by show _ = (11 : Int); omega))
          · by_cases g12_16 : j < 14
            · by_cases g12_14 : j < 13
              · exact q_st12 h hk hx hF (Int32.toInt_inj.mp (by show _ = (12 : Int); omega))
              · exact q_st13 h hk hx hF (Int32.toInt_inj.mp (by show _ = (13 : Int); omega))
            · by_cases g14_16 : j < 15
              · exact q_st14 h hk hx hF (Int32.toInt_inj.mp (by show _ = (14 : Int); omega))
              · exact q_st15 h hk hx hF (Int32.toInt_inj.mp (by show _ = (15 : Int); omega))
      · by_cases g16_32 : j < 24
        · by_cases g16_24 : j < 20
          · by_cases g16_20 : j < 18
            · by_cases g16_18 : j < 17
              · exact q_st16 h hk hx hF (Int32.toInt_inj.mp (by show _ = (16 : Int); omega))
              · exact q_st17 h hk hx hF (Int32.toInt_inj.mp (by show _ = (17 : Int); omega))
            · by_cases g18_20 : j < 19
              · exact q_st18 h hk hx hF (Int32.toInt_inj.mp (by show _ = (18 : Int); omega))
              · exact q_st19 h hk hx hF (Int32.toInt_inj.mp (by show _ = (19 : Int); omega))
          · by_cases g20_24 : j < 22
            · by_cases g20_22 : j < 21
              · exact q_st20 h hk hx hF (Int32.toInt_inj.mp (by show _ = (20 : Int); omega))
              · exact q_st21 h hk hx hF (Int32.toInt_inj.mp (by show _ = (21 : Int); omega))
            · by_cases g22_24 : j < 23
              · exact q_st22 h hk hx hF (Int32.toInt_inj.mp (by show _ = (22 : Int); omega))
              · exact q_st23 h hk hx hF (Int32.toInt_inj.mp (by show _ = (23 : Int); omega))
        · by_cases g24_32 : j < 28
          · by_cases g24_28 : j < 26
            · by_cases g24_26 : j < 25
              · exact q_st24 h hk hx hF (Int32.toInt_inj.mp (by show _ = (24 : Int); omega))
              · exact q_st25 h hk hx hF (Int32.toInt_inj.mp (by show _ = (25 : Int); omega))
            · by_cases g26_28 : j < 27
              · have hv : xs i.toNatClampNeg &&& 63 = 26 := Int32.toInt_inj.mp (by show _ = (26 : Int); omega)
                cases hc0 : decide (xs ((i + 3).toNatClampNeg) = 0) with
                | true => exact q_st26t h hk hx hF hv hc0
                | false => exact q_st26f h hk hx hF hv hc0
              · exact q_st27 h hk hx hF (Int32.toInt_inj.mp (by show _ = (27 : Int); omega))
          · by_cases g28_32 : j < 30
            · by_cases g28_30 : j < 29
              · exact q_st28 h hk hx hF (Int32.toInt_inj.mp (by show _ = (28 : Int); omega))
              · exact q_st29 h hk hx hF (Int32.toInt_inj.mp (by show _ = (29 : Int); omega))
            · by_cases g30_32 : j < 31
              · exact q_st30 h hk hx hF (Int32.toInt_inj.mp (by show _ = (30 : Int); omega))
              · exact q_st31 h hk hx hF (Int32.toInt_inj.mp (by show _ = (31 : Int); omega))
    · by_cases g32_64 : j < 48
      · by_cases g32_48 : j < 40
        · by_cases g32_40 : j < 36
          · by_cases g32_36 : j < 34
            · by_cases g32_34 : j < 33
              · exact q_st32 h hk hx hF (Int32.toInt_inj.mp (by show _ = (32 : Int); omega))
              · exact q_st33 h hk hx hF (Int32.toInt_inj.mp (by show _ = (33 : Int); omega))
            · by_cases g34_36 : j < 35
              · exact q_st34 h hk hx hF (Int32.toInt_inj.mp (by show _ = (34 : Int); omega))
              · exact q_st35 h hk hx hF (Int32.toInt_inj.mp (by show _ = (35 : Int); omega))
          · by_cases g36_40 : j < 38
            · by_cases g36_38 : j < 37
              · exact q_st36 h hk hx hF (Int32.toInt_inj.mp (by show _ = (36 : Int); omega))
              · exact q_st37 h hk hx hF (Int32.toInt_inj.mp (by show _ = (37 : Int); omega))
            · by_cases g38_40 : j < 39
              · exact q_st38 h hk hx hF (Int32.toInt_inj.mp (by show _ = (38 : Int); omega))
              · exact q_st39 h hk hx hF (Int32.toInt_inj.mp (by show _ = (39 : Int); omega))
        · by_cases g40_48 : j < 44
          · by_cases g40_44 : j < 42
            · by_cases g40_42 : j < 41
              · exact q_st40 h hk hx hF (Int32.toInt_inj.mp (by show _ = (40 : Int); omega))
              · exact q_st41 h hk hx hF (Int32.toInt_inj.mp (by show _ = (41 : Int); omega))
            · by_cases g42_44 : j < 43
              · exact q_st42 h hk hx hF (Int32.toInt_inj.mp (by show _ = (42 : Int); omega))
              · exact q_st43 h hk hx hF (Int32.toInt_inj.mp (by show _ = (43 : Int); omega))
          · by_cases g44_48 : j < 46
            · by_cases g44_46 : j < 45
              · exact q_st44 h hk hx hF (Int32.toInt_inj.mp (by show _ = (44 : Int); omega))
              · exact q_st45 h hk hx hF (Int32.toInt_inj.mp (by show _ = (45 : Int); omega))
            · by_cases g46_48 : j < 47
              · exact q_st46 h hk hx hF (Int32.toInt_inj.mp (by show _ = (46 : Int); omega))
              · exact q_st47 h hk hx hF (Int32.toInt_inj.mp (by show _ = (47 : Int); omega))
      · by_cases g48_64 : j < 56
        · by_cases g48_56 : j < 52
          · by_cases g48_52 : j < 50
            · by_cases g48_50 : j < 49
              · exact q_st48 h hk hx hF (Int32.toInt_inj.mp (by show _ = (48 : Int); omega))
              · exact q_st49 h hk hx hF (Int32.toInt_inj.mp (by show _ = (49 : Int); omega))
            · by_cases g50_52 : j < 51
              · exact q_st50 h hk hx hF (Int32.toInt_inj.mp (by show _ = (50 : Int); omega))
              · exact q_st51 h hk hx hF (Int32.toInt_inj.mp (by show _ = (51 : Int); omega))
          · by_cases g52_56 : j < 54
            · by_cases g52_54 : j < 53
              · exact q_st52 h hk hx hF (Int32.toInt_inj.mp (by show _ = (52 : Int); omega))
              · exact q_st53 h hk hx hF (Int32.toInt_inj.mp (by show _ = (53 : Int); omega))
            · by_cases g54_56 : j < 55
              · exact q_st54 h hk hx hF (Int32.toInt_inj.mp (by show _ = (54 : Int); omega))
              · exact q_st55 h hk hx hF (Int32.toInt_inj.mp (by show _ = (55 : Int); omega))
        · by_cases g56_64 : j < 60
          · by_cases g56_60 : j < 58
            · by_cases g56_58 : j < 57
              · exact q_st56 h hk hx hF (Int32.toInt_inj.mp (by show _ = (56 : Int); omega))
              · exact q_st57 h hk hx hF (Int32.toInt_inj.mp (by show _ = (57 : Int); omega))
            · by_cases g58_60 : j < 59
              · exact q_st58 h hk hx hF (Int32.toInt_inj.mp (by show _ = (58 : Int); omega))
              · exact q_st59 h hk hx hF (Int32.toInt_inj.mp (by show _ = (59 : Int); omega))
          · by_cases g60_64 : j < 62
            · by_cases g60_62 : j < 61
              · exact q_st60 h hk hx hF (Int32.toInt_inj.mp (by show _ = (60 : Int); omega))
              · exact q_st61 h hk hx hF (Int32.toInt_inj.mp (by show _ = (61 : Int); omega))
            · by_cases g62_64 : j < 63
              · exact q_st62 h hk hx hF (Int32.toInt_inj.mp (by show _ = (62 : Int); omega))
              · exact q_st63 h hk hx hF (Int32.toInt_inj.mp (by show _ = (63 : Int); omega))
  exact key (xs i.toNatClampNeg &&& 63).toInt.toNat (by omega) (by omega)
theorem q_lwA (hL : L ≤ 2048) : ∀ (t k : Nat) (i : Int32) (S : q_S) (c n : Nat), i.toInt = 4 * k → L ≤ 4 * (k + t) → k ≤ 512 → q_IV k S → q_RZ (q_vw 172 0 206 S) → ∃ S2 c2 n2, q_Ru (q_TBs z L xs) 20 376 (23, [(4, .int i), (3, .ref 270), (2, .ref 236), (1, .ref 64), (0, .ref 0)], [], (q_kL S c n)) (.inl (some (.int 1)), q_kL S2 c2 n2) ∧ c2 ≤ c + t ∧ n2 ≤ n + 6 * t := by
  intro t
  have e4 : (4 : Int32).toInt = 4 := rfl
  have eL : (Int32.ofNat L).toInt = L := Int32.toInt_ofNat_of_lt (by omega)
  have eLm : (Int32.ofNat L - 4).toInt = (L : Int) - 4 := by rw [q_subI ⟨by omega, by omega⟩ ⟨by decide, by decide⟩, eL]; rfl
  induction t with
  | zero =>
    intro k i S c n hi hk h5 h hF
    exact ⟨S, c, n, q_lwE z L xs S c n i (q_lt_T (by omega)), Nat.le_refl _, Nat.le_refl _⟩
  | succ t ih =>
    intro k i S c n hi hk h5 h hF
    by_cases q : (L : Int) - 4 < i.toInt
    · exact ⟨S, c, n, q_lwE z L xs S c n i (q_lt_T (by omega)), by omega, by omega⟩
    · have e1 : (i + 1).toInt = i.toInt + 1 := q_addI ⟨by omega, by omega⟩ ⟨by decide, by decide⟩
      have e2 : (i + 2).toInt = i.toInt + 2 := q_addI ⟨by omega, by omega⟩ ⟨by decide, by decide⟩
      have e3 : (i + 3).toInt = i.toInt + 3 := q_addI ⟨by omega, by omega⟩ ⟨by decide, by decide⟩
      have e9 : (i + 4).toInt = i.toInt + 4 := q_addI ⟨by omega, by omega⟩ ⟨by decide, by decide⟩
      have hx : q_XS L i := ⟨q_in_rg (l := 0) (u := (L : Int) - 1) ⟨by omega, by omega⟩ (by decide) (by omega), q_in_rg (l := 0) (u := (L : Int) - 1) ⟨by omega, by omega⟩ (by decide) (by omega), q_in_rg (l := 0) (u := (L : Int) - 1) ⟨by omega, by omega⟩ (by decide) (by omega), q_in_rg (l := 0) (u := (L : Int) - 1) ⟨by omega, by omega⟩ (by decide) (by omega), q_lt_F (by omega)⟩
      obtain ⟨S2, c2, n2, g1, g9, g2, g3, g4⟩ := q_sall (z := z) (xs := xs) (c := c) (n := n) h (by omega) hx hF
      obtain ⟨S3, c3, n3, f1, f2, f3⟩ := ih (k + 1) (i + 4) S2 c2 n2 (by omega) (by omega) (by omega) g1 g9
      exact ⟨S3, c3, n3, g4 _ f1, by omega, by omega⟩
end
end
section
-- 58.c
theorem q_run : ∀ (z L : Nat) (xs : Nat → Int32), (z = 98 ∨ z = 99) → L ≤ 2048 → ∃ (n d : Nat) (h : q_H), d ≤ 800 ∧ q_loop (q_exec q_mt (q_mtab (q_TBs z L xs)) n d) (q_mtab (q_TBs z L xs) 376) n (0, [(0, .ref 0)], [], ([], 0, 0)) = some (.inl (some (.int 1)), h) ∧ h.2.1 ≤ 601024 ∧ h.2.2 ≤ 7293034 := by
  intro z L xs _ hL
  obtain ⟨S2, c2, n2, ⟨n, e⟩, g1, g2⟩ : ∃ S2 c2 n2, q_Ru (q_TBs z L xs) 20 376 (0, [(0, .ref 0)], [], ([], 0, 0)) (.inl (some (.int 1)), q_kL S2 c2 n2) ∧ c2 ≤ 207 + 512 ∧ n2 ≤ 149582 + 6 * 512 := by
    obtain ⟨S2, c2, n2, e, g1, g2⟩ := q_lwA (z := z) (xs := xs) hL 512 0 0 q_SL0 207 149582 (by decide) (by omega) (by decide) q_IV0 (q_RZ0 rfl)
    exact ⟨S2, c2, n2, q_lwS e, by omega, by omega⟩
  exact ⟨n, 20, q_kL S2 c2 n2, by decide, e, by show c2 ≤ 601024; omega, by show n2 ≤ 7293034; omega⟩
end
