section
variable {z L : Nat} {xs : Nat → Int32} {S : q_S} {c n k : Nat} {i : Int32}
theorem q_st39 (h : q_IV k S) (hk : k < 512) (hx : q_XS L i) (hv : xs i.toNatClampNeg &&& 63 = 39) : q_NX z L xs i S c n k := by
  obtain ⟨hx0, hx1, hx2, hx3, hi⟩ := hx
  have e0 := q_tPic h.1
  exact ⟨_, _, _, q_rdn h, Nat.le_add_right c 1, Nat.le_add_right n 6, fun o ho => q_lw39 z L xs S c n i hx0 hx1 hx2 hx3 hi hv _ e0 ho⟩
theorem q_st40 (h : q_IV k S) (hk : k < 512) (hx : q_XS L i) (hv : xs i.toNatClampNeg &&& 63 = 40) : q_NX z L xs i S c n k := by
  obtain ⟨hx0, hx1, hx2, hx3, hi⟩ := hx
  obtain ⟨r, e0, e1, e2⟩ := q_tSol h.1
  exact ⟨_, _, _, q_rdn h, Nat.le_add_right c 1, Nat.le_add_right n 6, fun o ho => q_lw40 z L xs S c n i hx0 hx1 hx2 hx3 hi hv _ e0 _ e1 (q_f2dnn e2) (q_f2dnn e2) ho⟩
theorem q_st41 (h : q_IV k S) (hk : k < 512) (hx : q_XS L i) (hv : xs i.toNatClampNeg &&& 63 = 41) : q_NX z L xs i S c n k := by
  obtain ⟨hx0, hx1, hx2, hx3, hi⟩ := hx
  obtain ⟨r, e0, e1⟩ := q_tMen h.1
  exact ⟨_, _, _, q_rdn h, Nat.le_add_right c 1, Nat.le_add_right n 6, fun o ho => q_lw41 z L xs S c n i hx0 hx1 hx2 hx3 hi hv _ e0 _ e1 ho⟩
theorem q_st42 (h : q_IV k S) (hk : k < 512) (hx : q_XS L i) (hv : xs i.toNatClampNeg &&& 63 = 42) : q_NX z L xs i S c n k := by
  obtain ⟨hx0, hx1, hx2, hx3, hi⟩ := hx
  exact ⟨_, _, _, q_nop h, Nat.le_add_right c 1, Nat.le_add_right n 6, fun o ho => q_lw42 z L xs S c n i hx0 hx1 hx2 hx3 hi hv ho⟩
set_option maxHeartbeats 4000000 in
theorem q_lw43 (z L : Nat) (xs : Nat → Int32) (S : q_S) (c n : Nat) (i : Int32) (hx0 : q_in i L = true) (hx1 : q_in (i + 1) L = true) (hx2 : q_in (i + 2) L = true) (hx3 : q_in (i + 3) L = true) (hi : decide (Int32.ofNat L - 4 < i) = false) (hv : xs i.toNatClampNeg &&& 63 = 43) {o : q_Out} (h : q_Ru (q_TBs z L xs) 20 376 (23, [(4, .int (i + 4)), (3, .ref 270), (2, .ref 236), (1, .ref 64), (0, .ref 0)], [], (q_kL S c n)) o) : q_Ru (q_TBs z L xs) 20 376 (23, [(4, .int i), (3, .ref 270), (2, .ref 236), (1, .ref 64), (0, .ref 0)], [], (q_kL S c n)) o := by
  refine q_Ru_seg (g2 := (29, [(4, .int i), (3, .ref 270), (2, .ref 236), (1, .ref 64), (0, .ref 0)], [.int ((Int32.ofNat L) - 4), .int i], (q_kL S c n))) 5 (fun _ _ => rfl) ?_
  refine q_Ru_rsF (g2 := (32, [(4, .int i), (3, .ref 270), (2, .ref 236), (1, .ref 64), (0, .ref 0)], [], (q_kL S c n))) rfl rfl hi ?_
  refine q_Ru_seg (g2 := (35, [(4, .int i), (3, .ref 270), (2, .ref 236), (1, .ref 64), (0, .ref 0)], [.int i, .ref 0], (q_kL S c n))) 2 (fun _ _ => rfl) ?_
  refine q_Ru_rsT (g2 := (36, [(4, .int i), (3, .ref 270), (2, .ref 236), (1, .ref 64), (0, .ref 0)], [.int (xs (i.toNatClampNeg))], (q_kL S c n))) rfl rfl hx0 ?_
  refine q_Ru_seg (g2 := (39, [(4, .int i), (3, .ref 270), (2, .ref 236), (1, .ref 64), (0, .ref 0)], [.int ((xs (i.toNatClampNeg)) &&& 63)], (q_kL S c n))) 2 (fun _ _ => rfl) ?_
  rw [hv]
  refine q_Ru_seg (g2 := (23, [(4, .int (i + 4)), (3, .ref 270), (2, .ref 236), (1, .ref 64), (0, .ref 0)], [], (q_kL S c n))) 3 (fun _ _ => rfl) ?_
  exact q_Ru_xt (q_xt_mk (q_mn1 0 rfl (q_mn1 1 rfl (q_mn1 2 rfl (q_mn1 3 rfl (q_mn1 4 rfl q_mn0))))) rfl) h
theorem q_st43 (h : q_IV k S) (hk : k < 512) (hx : q_XS L i) (hv : xs i.toNatClampNeg &&& 63 = 43) : q_NX z L xs i S c n k := by
  obtain ⟨hx0, hx1, hx2, hx3, hi⟩ := hx
  exact ⟨_, _, _, q_nop h, Nat.le_add_right c 1, Nat.le_add_right n 6, fun o ho => q_lw43 z L xs S c n i hx0 hx1 hx2 hx3 hi hv ho⟩
set_option maxHeartbeats 4000000 in
theorem q_lw44 (z L : Nat) (xs : Nat → Int32) (S : q_S) (c n : Nat) (i : Int32) (hx0 : q_in i L = true) (hx1 : q_in (i + 1) L = true) (hx2 : q_in (i + 2) L = true) (hx3 : q_in (i + 3) L = true) (hi : decide (Int32.ofNat L - 4 < i) = false) (hv : xs i.toNatClampNeg &&& 63 = 44) {o : q_Out} (h : q_Ru (q_TBs z L xs) 20 376 (23, [(4, .int (i + 4)), (3, .ref 270), (2, .ref 236), (1, .ref 64), (0, .ref 0)], [], (q_kL S c n)) o) : q_Ru (q_TBs z L xs) 20 376 (23, [(4, .int i), (3, .ref 270), (2, .ref 236), (1, .ref 64), (0, .ref 0)], [], (q_kL S c n)) o := by
  refine q_Ru_seg (g2 := (29, [(4, .int i), (3, .ref 270), (2, .ref 236), (1, .ref 64), (0, .ref 0)], [.int ((Int32.ofNat L) - 4), .int i], (q_kL S c n))) 5 (fun _ _ => rfl) ?_
  refine q_Ru_rsF (g2 := (32, [(4, .int i), (3, .ref 270), (2, .ref 236), (1, .ref 64), (0, .ref 0)], [], (q_kL S c n))) rfl rfl hi ?_
  refine q_Ru_seg (g2 := (35, [(4, .int i), (3, .ref 270), (2, .ref 236), (1, .ref 64), (0, .ref 0)], [.int i, .ref 0], (q_kL S c n))) 2 (fun _ _ => rfl) ?_
  refine q_Ru_rsT (g2 := (36, [(4, .int i), (3, .ref 270), (2, .ref 236), (1, .ref 64), (0, .ref 0)], [.int (xs (i.toNatClampNeg))], (q_kL S c n))) rfl rfl hx0 ?_
  refine q_Ru_seg (g2 := (39, [(4, .int i), (3, .ref 270), (2, .ref 236), (1, .ref 64), (0, .ref 0)], [.int ((xs (i.toNatClampNeg)) &&& 63)], (q_kL S c n))) 2 (fun _ _ => rfl) ?_
  rw [hv]
  refine q_Ru_seg (g2 := (23, [(4, .int (i + 4)), (3, .ref 270), (2, .ref 236), (1, .ref 64), (0, .ref 0)], [], (q_kL S c n))) 3 (fun _ _ => rfl) ?_
  exact q_Ru_xt (q_xt_mk (q_mn1 0 rfl (q_mn1 1 rfl (q_mn1 2 rfl (q_mn1 3 rfl (q_mn1 4 rfl q_mn0))))) rfl) h
theorem q_st44 (h : q_IV k S) (hk : k < 512) (hx : q_XS L i) (hv : xs i.toNatClampNeg &&& 63 = 44) : q_NX z L xs i S c n k := by
  obtain ⟨hx0, hx1, hx2, hx3, hi⟩ := hx
  exact ⟨_, _, _, q_nop h, Nat.le_add_right c 1, Nat.le_add_right n 6, fun o ho => q_lw44 z L xs S c n i hx0 hx1 hx2 hx3 hi hv ho⟩
set_option maxHeartbeats 4000000 in
theorem q_lw45 (z L : Nat) (xs : Nat → Int32) (S : q_S) (c n : Nat) (i : Int32) (hx0 : q_in i L = true) (hx1 : q_in (i + 1) L = true) (hx2 : q_in (i + 2) L = true) (hx3 : q_in (i + 3) L = true) (hi : decide (Int32.ofNat L - 4 < i) = false) (hv : xs i.toNatClampNeg &&& 63 = 45) {o : q_Out} (h : q_Ru (q_TBs z L xs) 20 376 (23, [(4, .int (i + 4)), (3, .ref 270), (2, .ref 236), (1, .ref 64), (0, .ref 0)], [], (q_kL S c n)) o) : q_Ru (q_TBs z L xs) 20 376 (23, [(4, .int i), (3, .ref 270), (2, .ref 236), (1, .ref 64), (0, .ref 0)], [], (q_kL S c n)) o := by
  refine q_Ru_seg (g2 := (29, [(4, .int i), (3, .ref 270), (2, .ref 236), (1, .ref 64), (0, .ref 0)], [.int ((Int32.ofNat L) - 4), .int i], (q_kL S c n))) 5 (fun _ _ => rfl) ?_
  refine q_Ru_rsF (g2 := (32, [(4, .int i), (3, .ref 270), (2, .ref 236), (1, .ref 64), (0, .ref 0)], [], (q_kL S c n))) rfl rfl hi ?_
  refine q_Ru_seg (g2 := (35, [(4, .int i), (3, .ref 270), (2, .ref 236), (1, .ref 64), (0, .ref 0)], [.int i, .ref 0], (q_kL S c n))) 2 (fun _ _ => rfl) ?_
  refine q_Ru_rsT (g2 := (36, [(4, .int i), (3, .ref 270), (2, .ref 236), (1, .ref 64), (0, .ref 0)], [.int (xs (i.toNatClampNeg))], (q_kL S c n))) rfl rfl hx0 ?_
  refine q_Ru_seg (g2 := (39, [(4, .int i), (3, .ref 270), (2, .ref 236), (1, .ref 64), (0, .ref 0)], [.int ((xs (i.toNatClampNeg)) &&& 63)], (q_kL S c n))) 2 (fun _ _ => rfl) ?_
  rw [hv]
  refine q_Ru_seg (g2 := (23, [(4, .int (i + 4)), (3, .ref 270), (2, .ref 236), (1, .ref 64), (0, .ref 0)], [], (q_kL S c n))) 3 (fun _ _ => rfl) ?_
  exact q_Ru_xt (q_xt_mk (q_mn1 0 rfl (q_mn1 1 rfl (q_mn1 2 rfl (q_mn1 3 rfl (q_mn1 4 rfl q_mn0))))) rfl) h
theorem q_st45 (h : q_IV k S) (hk : k < 512) (hx : q_XS L i) (hv : xs i.toNatClampNeg &&& 63 = 45) : q_NX z L xs i S c n k := by
  obtain ⟨hx0, hx1, hx2, hx3, hi⟩ := hx
  exact ⟨_, _, _, q_nop h, Nat.le_add_right c 1, Nat.le_add_right n 6, fun o ho => q_lw45 z L xs S c n i hx0 hx1 hx2 hx3 hi hv ho⟩
set_option maxHeartbeats 4000000 in
theorem q_lw46 (z L : Nat) (xs : Nat → Int32) (S : q_S) (c n : Nat) (i : Int32) (hx0 : q_in i L = true) (hx1 : q_in (i + 1) L = true) (hx2 : q_in (i + 2) L = true) (hx3 : q_in (i + 3) L = true) (hi : decide (Int32.ofNat L - 4 < i) = false) (hv : xs i.toNatClampNeg &&& 63 = 46) {o : q_Out} (h : q_Ru (q_TBs z L xs) 20 376 (23, [(4, .int (i + 4)), (3, .ref 270), (2, .ref 236), (1, .ref 64), (0, .ref 0)], [], (q_kL S c n)) o) : q_Ru (q_TBs z L xs) 20 376 (23, [(4, .int i), (3, .ref 270), (2, .ref 236), (1, .ref 64), (0, .ref 0)], [], (q_kL S c n)) o := by
  refine q_Ru_seg (g2 := (29, [(4, .int i), (3, .ref 270), (2, .ref 236), (1, .ref 64), (0, .ref 0)], [.int ((Int32.ofNat L) - 4), .int i], (q_kL S c n))) 5 (fun _ _ => rfl) ?_
  refine q_Ru_rsF (g2 := (32, [(4, .int i), (3, .ref 270), (2, .ref 236), (1, .ref 64), (0, .ref 0)], [], (q_kL S c n))) rfl rfl hi ?_
  refine q_Ru_seg (g2 := (35, [(4, .int i), (3, .ref 270), (2, .ref 236), (1, .ref 64), (0, .ref 0)], [.int i, .ref 0], (q_kL S c n))) 2 (fun _ _ => rfl) ?_
  refine q_Ru_rsT (g2 := (36, [(4, .int i), (3, .ref 270), (2, .ref 236), (1, .ref 64), (0, .ref 0)], [.int (xs (i.toNatClampNeg))], (q_kL S c n))) rfl rfl hx0 ?_
  refine q_Ru_seg (g2 := (39, [(4, .int i), (3, .ref 270), (2, .ref 236), (1, .ref 64), (0, .ref 0)], [.int ((xs (i.toNatClampNeg)) &&& 63)], (q_kL S c n))) 2 (fun _ _ => rfl) ?_
  rw [hv]
  refine q_Ru_seg (g2 := (23, [(4, .int (i + 4)), (3, .ref 270), (2, .ref 236), (1, .ref 64), (0, .ref 0)], [], (q_kL S c n))) 3 (fun _ _ => rfl) ?_
  exact q_Ru_xt (q_xt_mk (q_mn1 0 rfl (q_mn1 1 rfl (q_mn1 2 rfl (q_mn1 3 rfl (q_mn1 4 rfl q_mn0))))) rfl) h
theorem q_st46 (h : q_IV k S) (hk : k < 512) (hx : q_XS L i) (hv : xs i.toNatClampNeg &&& 63 = 46) : q_NX z L xs i S c n k := by
  obtain ⟨hx0, hx1, hx2, hx3, hi⟩ := hx
  exact ⟨_, _, _, q_nop h, Nat.le_add_right c 1, Nat.le_add_right n 6, fun o ho => q_lw46 z L xs S c n i hx0 hx1 hx2 hx3 hi hv ho⟩
set_option maxHeartbeats 4000000 in
theorem q_lw47 (z L : Nat) (xs : Nat → Int32) (S : q_S) (c n : Nat) (i : Int32) (hx0 : q_in i L = true) (hx1 : q_in (i + 1) L = true) (hx2 : q_in (i + 2) L = true) (hx3 : q_in (i + 3) L = true) (hi : decide (Int32.ofNat L - 4 < i) = false) (hv : xs i.toNatClampNeg &&& 63 = 47) {o : q_Out} (h : q_Ru (q_TBs z L xs) 20 376 (23, [(4, .int (i + 4)), (3, .ref 270), (2, .ref 236), (1, .ref 64), (0, .ref 0)], [], (q_kL S c n)) o) : q_Ru (q_TBs z L xs) 20 376 (23, [(4, .int i), (3, .ref 270), (2, .ref 236), (1, .ref 64), (0, .ref 0)], [], (q_kL S c n)) o := by
  refine q_Ru_seg (g2 := (29, [(4, .int i), (3, .ref 270), (2, .ref 236), (1, .ref 64), (0, .ref 0)], [.int ((Int32.ofNat L) - 4), .int i], (q_kL S c n))) 5 (fun _ _ => rfl) ?_
  refine q_Ru_rsF (g2 := (32, [(4, .int i), (3, .ref 270), (2, .ref 236), (1, .ref 64), (0, .ref 0)], [], (q_kL S c n))) rfl rfl hi ?_
  refine q_Ru_seg (g2 := (35, [(4, .int i), (3, .ref 270), (2, .ref 236), (1, .ref 64), (0, .ref 0)], [.int i, .ref 0], (q_kL S c n))) 2 (fun _ _ => rfl) ?_
  refine q_Ru_rsT (g2 := (36, [(4, .int i), (3, .ref 270), (2, .ref 236), (1, .ref 64), (0, .ref 0)], [.int (xs (i.toNatClampNeg))], (q_kL S c n))) rfl rfl hx0 ?_
  refine q_Ru_seg (g2 := (39, [(4, .int i), (3, .ref 270), (2, .ref 236), (1, .ref 64), (0, .ref 0)], [.int ((xs (i.toNatClampNeg)) &&& 63)], (q_kL S c n))) 2 (fun _ _ => rfl) ?_
  rw [hv]
  refine q_Ru_seg (g2 := (23, [(4, .int (i + 4)), (3, .ref 270), (2, .ref 236), (1, .ref 64), (0, .ref 0)], [], (q_kL S c n))) 3 (fun _ _ => rfl) ?_
  exact q_Ru_xt (q_xt_mk (q_mn1 0 rfl (q_mn1 1 rfl (q_mn1 2 rfl (q_mn1 3 rfl (q_mn1 4 rfl q_mn0))))) rfl) h
theorem q_st47 (h : q_IV k S) (hk : k < 512) (hx : q_XS L i) (hv : xs i.toNatClampNeg &&& 63 = 47) : q_NX z L xs i S c n k := by
  obtain ⟨hx0, hx1, hx2, hx3, hi⟩ := hx
  exact ⟨_, _, _, q_nop h, Nat.le_add_right c 1, Nat.le_add_right n 6, fun o ho => q_lw47 z L xs S c n i hx0 hx1 hx2 hx3 hi hv ho⟩
set_option maxHeartbeats 4000000 in
theorem q_lw48 (z L : Nat) (xs : Nat → Int32) (S : q_S) (c n : Nat) (i : Int32) (hx0 : q_in i L = true) (hx1 : q_in (i + 1) L = true) (hx2 : q_in (i + 2) L = true) (hx3 : q_in (i + 3) L = true) (hi : decide (Int32.ofNat L - 4 < i) = false) (hv : xs i.toNatClampNeg &&& 63 = 48) {o : q_Out} (h : q_Ru (q_TBs z L xs) 20 376 (23, [(4, .int (i + 4)), (3, .ref 270), (2, .ref 236), (1, .ref 64), (0, .ref 0)], [], (q_kL S c n)) o) : q_Ru (q_TBs z L xs) 20 376 (23, [(4, .int i), (3, .ref 270), (2, .ref 236), (1, .ref 64), (0, .ref 0)], [], (q_kL S c n)) o := by
  refine q_Ru_seg (g2 := (29, [(4, .int i), (3, .ref 270), (2, .ref 236), (1, .ref 64), (0, .ref 0)], [.int ((Int32.ofNat L) - 4), .int i], (q_kL S c n))) 5 (fun _ _ => rfl) ?_
  refine q_Ru_rsF (g2 := (32, [(4, .int i), (3, .ref 270), (2, .ref 236), (1, .ref 64), (0, .ref 0)], [], (q_kL S c n))) rfl rfl hi ?_
  refine q_Ru_seg (g2 := (35, [(4, .int i), (3, .ref 270), (2, .ref 236), (1, .ref 64), (0, .ref 0)], [.int i, .ref 0], (q_kL S c n))) 2 (fun _ _ => rfl) ?_
  refine q_Ru_rsT (g2 := (36, [(4, .int i), (3, .ref 270), (2, .ref 236), (1, .ref 64), (0, .ref 0)], [.int (xs (i.toNatClampNeg))], (q_kL S c n))) rfl rfl hx0 ?_
  refine q_Ru_seg (g2 := (39, [(4, .int i), (3, .ref 270), (2, .ref 236), (1, .ref 64), (0, .ref 0)], [.int ((xs (i.toNatClampNeg)) &&& 63)], (q_kL S c n))) 2 (fun _ _ => rfl) ?_
  rw [hv]
  refine q_Ru_seg (g2 := (23, [(4, .int (i + 4)), (3, .ref 270), (2, .ref 236), (1, .ref 64), (0, .ref 0)], [], (q_kL S c n))) 3 (fun _ _ => rfl) ?_
  exact q_Ru_xt (q_xt_mk (q_mn1 0 rfl (q_mn1 1 rfl (q_mn1 2 rfl (q_mn1 3 rfl (q_mn1 4 rfl q_mn0))))) rfl) h
theorem q_st48 (h : q_IV k S) (hk : k < 512) (hx : q_XS L i) (hv : xs i.toNatClampNeg &&& 63 = 48) : q_NX z L xs i S c n k := by
  obtain ⟨hx0, hx1, hx2, hx3, hi⟩ := hx
  exact ⟨_, _, _, q_nop h, Nat.le_add_right c 1, Nat.le_add_right n 6, fun o ho => q_lw48 z L xs S c n i hx0 hx1 hx2 hx3 hi hv ho⟩
set_option maxHeartbeats 4000000 in
theorem q_lw49 (z L : Nat) (xs : Nat → Int32) (S : q_S) (c n : Nat) (i : Int32) (hx0 : q_in i L = true) (hx1 : q_in (i + 1) L = true) (hx2 : q_in (i + 2) L = true) (hx3 : q_in (i + 3) L = true) (hi : decide (Int32.ofNat L - 4 < i) = false) (hv : xs i.toNatClampNeg &&& 63 = 49) {o : q_Out} (h : q_Ru (q_TBs z L xs) 20 376 (23, [(4, .int (i + 4)), (3, .ref 270), (2, .ref 236), (1, .ref 64), (0, .ref 0)], [], (q_kL S c n)) o) : q_Ru (q_TBs z L xs) 20 376 (23, [(4, .int i), (3, .ref 270), (2, .ref 236), (1, .ref 64), (0, .ref 0)], [], (q_kL S c n)) o := by
  refine q_Ru_seg (g2 := (29, [(4, .int i), (3, .ref 270), (2, .ref 236), (1, .ref 64), (0, .ref 0)], [.int ((Int32.ofNat L) - 4), .int i], (q_kL S c n))) 5 (fun _ _ => rfl) ?_
  refine q_Ru_rsF (g2 := (32, [(4, .int i), (3, .ref 270), (2, .ref 236), (1, .ref 64), (0, .ref 0)], [], (q_kL S c n))) rfl rfl hi ?_
  refine q_Ru_seg (g2 := (35, [(4, .int i), (3, .ref 270), (2, .ref 236), (1, .ref 64), (0, .ref 0)], [.int i, .ref 0], (q_kL S c n))) 2 (fun _ _ => rfl) ?_
  refine q_Ru_rsT (g2 := (36, [(4, .int i), (3, .ref 270), (2, .ref 236), (1, .ref 64), (0, .ref 0)], [.int (xs (i.toNatClampNeg))], (q_kL S c n))) rfl rfl hx0 ?_
  refine q_Ru_seg (g2 := (39, [(4, .int i), (3, .ref 270), (2, .ref 236), (1, .ref 64), (0, .ref 0)], [.int ((xs (i.toNatClampNeg)) &&& 63)], (q_kL S c n))) 2 (fun _ _ => rfl) ?_
  rw [hv]
  refine q_Ru_seg (g2 := (23, [(4, .int (i + 4)), (3, .ref 270), (2, .ref 236), (1, .ref 64), (0, .ref 0)], [], (q_kL S c n))) 3 (fun _ _ => rfl) ?_
  exact q_Ru_xt (q_xt_mk (q_mn1 0 rfl (q_mn1 1 rfl (q_mn1 2 rfl (q_mn1 3 rfl (q_mn1 4 rfl q_mn0))))) rfl) h
theorem q_st49 (h : q_IV k S) (hk : k < 512) (hx : q_XS L i) (hv : xs i.toNatClampNeg &&& 63 = 49) : q_NX z L xs i S c n k := by
  obtain ⟨hx0, hx1, hx2, hx3, hi⟩ := hx
  exact ⟨_, _, _, q_nop h, Nat.le_add_right c 1, Nat.le_add_right n 6, fun o ho => q_lw49 z L xs S c n i hx0 hx1 hx2 hx3 hi hv ho⟩
set_option maxHeartbeats 4000000 in
theorem q_lw50 (z L : Nat) (xs : Nat → Int32) (S : q_S) (c n : Nat) (i : Int32) (hx0 : q_in i L = true) (hx1 : q_in (i + 1) L = true) (hx2 : q_in (i + 2) L = true) (hx3 : q_in (i + 3) L = true) (hi : decide (Int32.ofNat L - 4 < i) = false) (hv : xs i.toNatClampNeg &&& 63 = 50) {o : q_Out} (h : q_Ru (q_TBs z L xs) 20 376 (23, [(4, .int (i + 4)), (3, .ref 270), (2, .ref 236), (1, .ref 64), (0, .ref 0)], [], (q_kL S c n)) o) : q_Ru (q_TBs z L xs) 20 376 (23, [(4, .int i), (3, .ref 270), (2, .ref 236), (1, .ref 64), (0, .ref 0)], [], (q_kL S c n)) o := by
  refine q_Ru_seg (g2 := (29, [(4, .int i), (3, .ref 270), (2, .ref 236), (1, .ref 64), (0, .ref 0)], [.int ((Int32.ofNat L) - 4), .int i], (q_kL S c n))) 5 (fun _ _ => rfl) ?_
  refine q_Ru_rsF (g2 := (32, [(4, .int i), (3, .ref 270), (2, .ref 236), (1, .ref 64), (0, .ref 0)], [], (q_kL S c n))) rfl rfl hi ?_
  refine q_Ru_seg (g2 := (35, [(4, .int i), (3, .ref 270), (2, .ref 236), (1, .ref 64), (0, .ref 0)], [.int i, .ref 0], (q_kL S c n))) 2 (fun _ _ => rfl) ?_
  refine q_Ru_rsT (g2 := (36, [(4, .int i), (3, .ref 270), (2, .ref 236), (1, .ref 64), (0, .ref 0)], [.int (xs (i.toNatClampNeg))], (q_kL S c n))) rfl rfl hx0 ?_
  refine q_Ru_seg (g2 := (39, [(4, .int i), (3, .ref 270), (2, .ref 236), (1, .ref 64), (0, .ref 0)], [.int ((xs (i.toNatClampNeg)) &&& 63)], (q_kL S c n))) 2 (fun _ _ => rfl) ?_
  rw [hv]
  refine q_Ru_seg (g2 := (23, [(4, .int (i + 4)), (3, .ref 270), (2, .ref 236), (1, .ref 64), (0, .ref 0)], [], (q_kL S c n))) 3 (fun _ _ => rfl) ?_
  exact q_Ru_xt (q_xt_mk (q_mn1 0 rfl (q_mn1 1 rfl (q_mn1 2 rfl (q_mn1 3 rfl (q_mn1 4 rfl q_mn0))))) rfl) h
theorem q_st50 (h : q_IV k S) (hk : k < 512) (hx : q_XS L i) (hv : xs i.toNatClampNeg &&& 63 = 50) : q_NX z L xs i S c n k := by
  obtain ⟨hx0, hx1, hx2, hx3, hi⟩ := hx
  exact ⟨_, _, _, q_nop h, Nat.le_add_right c 1, Nat.le_add_right n 6, fun o ho => q_lw50 z L xs S c n i hx0 hx1 hx2 hx3 hi hv ho⟩
set_option maxHeartbeats 4000000 in
theorem q_lw51 (z L : Nat) (xs : Nat → Int32) (S : q_S) (c n : Nat) (i : Int32) (hx0 : q_in i L = true) (hx1 : q_in (i + 1) L = true) (hx2 : q_in (i + 2) L = true) (hx3 : q_in (i + 3) L = true) (hi : decide (Int32.ofNat L - 4 < i) = false) (hv : xs i.toNatClampNeg &&& 63 = 51) {o : q_Out} (h : q_Ru (q_TBs z L xs) 20 376 (23, [(4, .int (i + 4)), (3, .ref 270), (2, .ref 236), (1, .ref 64), (0, .ref 0)], [], (q_kL S c n)) o) : q_Ru (q_TBs z L xs) 20 376 (23, [(4, .int i), (3, .ref 270), (2, .ref 236), (1, .ref 64), (0, .ref 0)], [], (q_kL S c n)) o := by
  refine q_Ru_seg (g2 := (29, [(4, .int i), (3, .ref 270), (2, .ref 236), (1, .ref 64), (0, .ref 0)], [.int ((Int32.ofNat L) - 4), .int i], (q_kL S c n))) 5 (fun _ _ => rfl) ?_
  refine q_Ru_rsF (g2 := (32, [(4, .int i), (3, .ref 270), (2, .ref 236), (1, .ref 64), (0, .ref 0)], [], (q_kL S c n))) rfl rfl hi ?_
  refine q_Ru_seg (g2 := (35, [(4, .int i), (3, .ref 270), (2, .ref 236), (1, .ref 64), (0, .ref 0)], [.int i, .ref 0], (q_kL S c n))) 2 (fun _ _ => rfl) ?_
  refine q_Ru_rsT (g2 := (36, [(4, .int i), (3, .ref 270), (2, .ref 236), (1, .ref 64), (0, .ref 0)], [.int (xs (i.toNatClampNeg))], (q_kL S c n))) rfl rfl hx0 ?_
  refine q_Ru_seg (g2 := (39, [(4, .int i), (3, .ref 270), (2, .ref 236), (1, .ref 64), (0, .ref 0)], [.int ((xs (i.toNatClampNeg)) &&& 63)], (q_kL S c n))) 2 (fun _ _ => rfl) ?_
  rw [hv]
  refine q_Ru_seg (g2 := (23, [(4, .int (i + 4)), (3, .ref 270), (2, .ref 236), (1, .ref 64), (0, .ref 0)], [], (q_kL S c n))) 3 (fun _ _ => rfl) ?_
  exact q_Ru_xt (q_xt_mk (q_mn1 0 rfl (q_mn1 1 rfl (q_mn1 2 rfl (q_mn1 3 rfl (q_mn1 4 rfl q_mn0))))) rfl) h
theorem q_st51 (h : q_IV k S) (hk : k < 512) (hx : q_XS L i) (hv : xs i.toNatClampNeg &&& 63 = 51) : q_NX z L xs i S c n k := by
  obtain ⟨hx0, hx1, hx2, hx3, hi⟩ := hx
  exact ⟨_, _, _, q_nop h, Nat.le_add_right c 1, Nat.le_add_right n 6, fun o ho => q_lw51 z L xs S c n i hx0 hx1 hx2 hx3 hi hv ho⟩
set_option maxHeartbeats 4000000 in
theorem q_lw52 (z L : Nat) (xs : Nat → Int32) (S : q_S) (c n : Nat) (i : Int32) (hx0 : q_in i L = true) (hx1 : q_in (i + 1) L = true) (hx2 : q_in (i + 2) L = true) (hx3 : q_in (i + 3) L = true) (hi : decide (Int32.ofNat L - 4 < i) = false) (hv : xs i.toNatClampNeg &&& 63 = 52) {o : q_Out} (h : q_Ru (q_TBs z L xs) 20 376 (23, [(4, .int (i + 4)), (3, .ref 270), (2, .ref 236), (1, .ref 64), (0, .ref 0)], [], (q_kL S c n)) o) : q_Ru (q_TBs z L xs) 20 376 (23, [(4, .int i), (3, .ref 270), (2, .ref 236), (1, .ref 64), (0, .ref 0)], [], (q_kL S c n)) o := by
  refine q_Ru_seg (g2 := (29, [(4, .int i), (3, .ref 270), (2, .ref 236), (1, .ref 64), (0, .ref 0)], [.int ((Int32.ofNat L) - 4), .int i], (q_kL S c n))) 5 (fun _ _ => rfl) ?_
  refine q_Ru_rsF (g2 := (32, [(4, .int i), (3, .ref 270), (2, .ref 236), (1, .ref 64), (0, .ref 0)], [], (q_kL S c n))) rfl rfl hi ?_
  refine q_Ru_seg (g2 := (35, [(4, .int i), (3, .ref 270), (2, .ref 236), (1, .ref 64), (0, .ref 0)], [.int i, .ref 0], (q_kL S c n))) 2 (fun _ _ => rfl) ?_
  refine q_Ru_rsT (g2 := (36, [(4, .int i), (3, .ref 270), (2, .ref 236), (1, .ref 64), (0, .ref 0)], [.int (xs (i.toNatClampNeg))], (q_kL S c n))) rfl rfl hx0 ?_
  refine q_Ru_seg (g2 := (39, [(4, .int i), (3, .ref 270), (2, .ref 236), (1, .ref 64), (0, .ref 0)], [.int ((xs (i.toNatClampNeg)) &&& 63)], (q_kL S c n))) 2 (fun _ _ => rfl) ?_
  rw [hv]
  refine q_Ru_seg (g2 := (23, [(4, .int (i + 4)), (3, .ref 270), (2, .ref 236), (1, .ref 64), (0, .ref 0)], [], (q_kL S c n))) 3 (fun _ _ => rfl) ?_
  exact q_Ru_xt (q_xt_mk (q_mn1 0 rfl (q_mn1 1 rfl (q_mn1 2 rfl (q_mn1 3 rfl (q_mn1 4 rfl q_mn0))))) rfl) h
theorem q_st52 (h : q_IV k S) (hk : k < 512) (hx : q_XS L i) (hv : xs i.toNatClampNeg &&& 63 = 52) : q_NX z L xs i S c n k := by
  obtain ⟨hx0, hx1, hx2, hx3, hi⟩ := hx
  exact ⟨_, _, _, q_nop h, Nat.le_add_right c 1, Nat.le_add_right n 6, fun o ho => q_lw52 z L xs S c n i hx0 hx1 hx2 hx3 hi hv ho⟩
set_option maxHeartbeats 4000000 in
theorem q_lw53 (z L : Nat) (xs : Nat → Int32) (S : q_S) (c n : Nat) (i : Int32) (hx0 : q_in i L = true) (hx1 : q_in (i + 1) L = true) (hx2 : q_in (i + 2) L = true) (hx3 : q_in (i + 3) L = true) (hi : decide (Int32.ofNat L - 4 < i) = false) (hv : xs i.toNatClampNeg &&& 63 = 53) {o : q_Out} (h : q_Ru (q_TBs z L xs) 20 376 (23, [(4, .int (i + 4)), (3, .ref 270), (2, .ref 236), (1, .ref 64), (0, .ref 0)], [], (q_kL S c n)) o) : q_Ru (q_TBs z L xs) 20 376 (23, [(4, .int i), (3, .ref 270), (2, .ref 236), (1, .ref 64), (0, .ref 0)], [], (q_kL S c n)) o := by
  refine q_Ru_seg (g2 := (29, [(4, .int i), (3, .ref 270), (2, .ref 236), (1, .ref 64), (0, .ref 0)], [.int ((Int32.ofNat L) - 4), .int i], (q_kL S c n))) 5 (fun _ _ => rfl) ?_
  refine q_Ru_rsF (g2 := (32, [(4, .int i), (3, .ref 270), (2, .ref 236), (1, .ref 64), (0, .ref 0)], [], (q_kL S c n))) rfl rfl hi ?_
  refine q_Ru_seg (g2 := (35, [(4, .int i), (3, .ref 270), (2, .ref 236), (1, .ref 64), (0, .ref 0)], [.int i, .ref 0], (q_kL S c n))) 2 (fun _ _ => rfl) ?_
  refine q_Ru_rsT (g2 := (36, [(4, .int i), (3, .ref 270), (2, .ref 236), (1, .ref 64), (0, .ref 0)], [.int (xs (i.toNatClampNeg))], (q_kL S c n))) rfl rfl hx0 ?_
  refine q_Ru_seg (g2 := (39, [(4, .int i), (3, .ref 270), (2, .ref 236), (1, .ref 64), (0, .ref 0)], [.int ((xs (i.toNatClampNeg)) &&& 63)], (q_kL S c n))) 2 (fun _ _ => rfl) ?_
  rw [hv]
  refine q_Ru_seg (g2 := (23, [(4, .int (i + 4)), (3, .ref 270), (2, .ref 236), (1, .ref 64), (0, .ref 0)], [], (q_kL S c n))) 3 (fun _ _ => rfl) ?_
  exact q_Ru_xt (q_xt_mk (q_mn1 0 rfl (q_mn1 1 rfl (q_mn1 2 rfl (q_mn1 3 rfl (q_mn1 4 rfl q_mn0))))) rfl) h
theorem q_st53 (h : q_IV k S) (hk : k < 512) (hx : q_XS L i) (hv : xs i.toNatClampNeg &&& 63 = 53) : q_NX z L xs i S c n k := by
  obtain ⟨hx0, hx1, hx2, hx3, hi⟩ := hx
  exact ⟨_, _, _, q_nop h, Nat.le_add_right c 1, Nat.le_add_right n 6, fun o ho => q_lw53 z L xs S c n i hx0 hx1 hx2 hx3 hi hv ho⟩
set_option maxHeartbeats 4000000 in
theorem q_lw54 (z L : Nat) (xs : Nat → Int32) (S : q_S) (c n : Nat) (i : Int32) (hx0 : q_in i L = true) (hx1 : q_in (i + 1) L = true) (hx2 : q_in (i + 2) L = true) (hx3 : q_in (i + 3) L = true) (hi : decide (Int32.ofNat L - 4 < i) = false) (hv : xs i.toNatClampNeg &&& 63 = 54) {o : q_Out} (h : q_Ru (q_TBs z L xs) 20 376 (23, [(4, .int (i + 4)), (3, .ref 270), (2, .ref 236), (1, .ref 64), (0, .ref 0)], [], (q_kL S c n)) o) : q_Ru (q_TBs z L xs) 20 376 (23, [(4, .int i), (3, .ref 270), (2, .ref 236), (1, .ref 64), (0, .ref 0)], [], (q_kL S c n)) o := by
  refine q_Ru_seg (g2 := (29, [(4, .int i), (3, .ref 270), (2, .ref 236), (1, .ref 64), (0, .ref 0)], [.int ((Int32.ofNat L) - 4), .int i], (q_kL S c n))) 5 (fun _ _ => rfl) ?_
  refine q_Ru_rsF (g2 := (32, [(4, .int i), (3, .ref 270), (2, .ref 236), (1, .ref 64), (0, .ref 0)], [], (q_kL S c n))) rfl rfl hi ?_
  refine q_Ru_seg (g2 := (35, [(4, .int i), (3, .ref 270), (2, .ref 236), (1, .ref 64), (0, .ref 0)], [.int i, .ref 0], (q_kL S c n))) 2 (fun _ _ => rfl) ?_
  refine q_Ru_rsT (g2 := (36, [(4, .int i), (3, .ref 270), (2, .ref 236), (1, .ref 64), (0, .ref 0)], [.int (xs (i.toNatClampNeg))], (q_kL S c n))) rfl rfl hx0 ?_
  refine q_Ru_seg (g2 := (39, [(4, .int i), (3, .ref 270), (2, .ref 236), (1, .ref 64), (0, .ref 0)], [.int ((xs (i.toNatClampNeg)) &&& 63)], (q_kL S c n))) 2 (fun _ _ => rfl) ?_
  rw [hv]
  refine q_Ru_seg (g2 := (23, [(4, .int (i + 4)), (3, .ref 270), (2, .ref 236), (1, .ref 64), (0, .ref 0)], [], (q_kL S c n))) 3 (fun _ _ => rfl) ?_
  exact q_Ru_xt (q_xt_mk (q_mn1 0 rfl (q_mn1 1 rfl (q_mn1 2 rfl (q_mn1 3 rfl (q_mn1 4 rfl q_mn0))))) rfl) h
theorem q_st54 (h : q_IV k S) (hk : k < 512) (hx : q_XS L i) (hv : xs i.toNatClampNeg &&& 63 = 54) : q_NX z L xs i S c n k := by
  obtain ⟨hx0, hx1, hx2, hx3, hi⟩ := hx
  exact ⟨_, _, _, q_nop h, Nat.le_add_right c 1, Nat.le_add_right n 6, fun o ho => q_lw54 z L xs S c n i hx0 hx1 hx2 hx3 hi hv ho⟩
set_option maxHeartbeats 4000000 in
theorem q_lw55 (z L : Nat) (xs : Nat → Int32) (S : q_S) (c n : Nat) (i : Int32) (hx0 : q_in i L = true) (hx1 : q_in (i + 1) L = true) (hx2 : q_in (i + 2) L = true) (hx3 : q_in (i + 3) L = true) (hi : decide (Int32.ofNat L - 4 < i) = false) (hv : xs i.toNatClampNeg &&& 63 = 55) {o : q_Out} (h : q_Ru (q_TBs z L xs) 20 376 (23, [(4, .int (i + 4)), (3, .ref 270), (2, .ref 236), (1, .ref 64), (0, .ref 0)], [], (q_kL S c n)) o) : q_Ru (q_TBs z L xs) 20 376 (23, [(4, .int i), (3, .ref 270), (2, .ref 236), (1, .ref 64), (0, .ref 0)], [], (q_kL S c n)) o := by
  refine q_Ru_seg (g2 := (29, [(4, .int i), (3, .ref 270), (2, .ref 236), (1, .ref 64), (0, .ref 0)], [.int ((Int32.ofNat L) - 4), .int i], (q_kL S c n))) 5 (fun _ _ => rfl) ?_
  refine q_Ru_rsF (g2 := (32, [(4, .int i), (3, .ref 270), (2, .ref 236), (1, .ref 64), (0, .ref 0)], [], (q_kL S c n))) rfl rfl hi ?_
  refine q_Ru_seg (g2 := (35, [(4, .int i), (3, .ref 270), (2, .ref 236), (1, .ref 64), (0, .ref 0)], [.int i, .ref 0], (q_kL S c n))) 2 (fun _ _ => rfl) ?_
  refine q_Ru_rsT (g2 := (36, [(4, .int i), (3, .ref 270), (2, .ref 236), (1, .ref 64), (0, .ref 0)], [.int (xs (i.toNatClampNeg))], (q_kL S c n))) rfl rfl hx0 ?_
  refine q_Ru_seg (g2 := (39, [(4, .int i), (3, .ref 270), (2, .ref 236), (1, .ref 64), (0, .ref 0)], [.int ((xs (i.toNatClampNeg)) &&& 63)], (q_kL S c n))) 2 (fun _ _ => rfl) ?_
  rw [hv]
  refine q_Ru_seg (g2 := (23, [(4, .int (i + 4)), (3, .ref 270), (2, .ref 236), (1, .ref 64), (0, .ref 0)], [], (q_kL S c n))) 3 (fun _ _ => rfl) ?_
  exact q_Ru_xt (q_xt_mk (q_mn1 0 rfl (q_mn1 1 rfl (q_mn1 2 rfl (q_mn1 3 rfl (q_mn1 4 rfl q_mn0))))) rfl) h
theorem q_st55 (h : q_IV k S) (hk : k < 512) (hx : q_XS L i) (hv : xs i.toNatClampNeg &&& 63 = 55) : q_NX z L xs i S c n k := by
  obtain ⟨hx0, hx1, hx2, hx3, hi⟩ := hx
  exact ⟨_, _, _, q_nop h, Nat.le_add_right c 1, Nat.le_add_right n 6, fun o ho => q_lw55 z L xs S c n i hx0 hx1 hx2 hx3 hi hv ho⟩
set_option maxHeartbeats 4000000 in
theorem q_lw56 (z L : Nat) (xs : Nat → Int32) (S : q_S) (c n : Nat) (i : Int32) (hx0 : q_in i L = true) (hx1 : q_in (i + 1) L = true) (hx2 : q_in (i + 2) L = true) (hx3 : q_in (i + 3) L = true) (hi : decide (Int32.ofNat L - 4 < i) = false) (hv : xs i.toNatClampNeg &&& 63 = 56) {o : q_Out} (h : q_Ru (q_TBs z L xs) 20 376 (23, [(4, .int (i + 4)), (3, .ref 270), (2, .ref 236), (1, .ref 64), (0, .ref 0)], [], (q_kL S c n)) o) : q_Ru (q_TBs z L xs) 20 376 (23, [(4, .int i), (3, .ref 270), (2, .ref 236), (1, .ref 64), (0, .ref 0)], [], (q_kL S c n)) o := by
  refine q_Ru_seg (g2 := (29, [(4, .int i), (3, .ref 270), (2, .ref 236), (1, .ref 64), (0, .ref 0)], [.int ((Int32.ofNat L) - 4), .int i], (q_kL S c n))) 5 (fun _ _ => rfl) ?_
  refine q_Ru_rsF (g2 := (32, [(4, .int i), (3, .ref 270), (2, .ref 236), (1, .ref 64), (0, .ref 0)], [], (q_kL S c n))) rfl rfl hi ?_
  refine q_Ru_seg (g2 := (35, [(4, .int i), (3, .ref 270), (2, .ref 236), (1, .ref 64), (0, .ref 0)], [.int i, .ref 0], (q_kL S c n))) 2 (fun _ _ => rfl) ?_
  refine q_Ru_rsT (g2 := (36, [(4, .int i), (3, .ref 270), (2, .ref 236), (1, .ref 64), (0, .ref 0)], [.int (xs (i.toNatClampNeg))], (q_kL S c n))) rfl rfl hx0 ?_
  refine q_Ru_seg (g2 := (39, [(4, .int i), (3, .ref 270), (2, .ref 236), (1, .ref 64), (0, .ref 0)], [.int ((xs (i.toNatClampNeg)) &&& 63)], (q_kL S c n))) 2 (fun _ _ => rfl) ?_
  rw [hv]
  refine q_Ru_seg (g2 := (23, [(4, .int (i + 4)), (3, .ref 270), (2, .ref 236), (1, .ref 64), (0, .ref 0)], [], (q_kL S c n))) 3 (fun _ _ => rfl) ?_
  exact q_Ru_xt (q_xt_mk (q_mn1 0 rfl (q_mn1 1 rfl (q_mn1 2 rfl (q_mn1 3 rfl (q_mn1 4 rfl q_mn0))))) rfl) h
theorem q_st56 (h : q_IV k S) (hk : k < 512) (hx : q_XS L i) (hv : xs i.toNatClampNeg &&& 63 = 56) : q_NX z L xs i S c n k := by
  obtain ⟨hx0, hx1, hx2, hx3, hi⟩ := hx
  exact ⟨_, _, _, q_nop h, Nat.le_add_right c 1, Nat.le_add_right n 6, fun o ho => q_lw56 z L xs S c n i hx0 hx1 hx2 hx3 hi hv ho⟩
end
