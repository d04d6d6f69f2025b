/-! ===== the law's start and its end ===== -/
def q_AL (i : Nat) : Nat → Int32 := cond (Nat.blt i 172) (q_AX i) (cond (Nat.blt i 206) (q_AM (i - 172)) (fun _ => 0))
def q_IL (i k : Nat) : Int32 := cond (Nat.blt i 172) (q_IX i k) (cond (Nat.blt i 206) (q_IM (i - 172) k) 0)
def q_SL0 : q_S := (q_AL, q_IL, q_J0)
def q_oX : q_C := .inr (13, [.null, .null, .int 0, .null, .null, .null])
def q_oM : q_C := .inr (14, [.null, .null, .null, .null, .null, .null, .null, .null, .null, .null, .null, .null, .null, .null, .null, .long 0, .long 0, .int 0, .null, .null, .null, .null, .null, .null, .null, .null, .null, .null, .null, .null, .null, .null, .null, .null, .int 0, .int 0, .null, .null, .int 0, .int 0])
set_option maxRecDepth 1000000 in
theorem q_newML {TB : Nat → Option (Nat × Nat × (Nat → Int32))} : q_Ca TB 2 197 [.ref 236] ((q_cX q_AX q_IX q_J0).take 172 ++ [q_oM], 173, 117991) (.inl none, (q_cL q_AL q_IL q_J0).take 206, 206, 149581) := ⟨400, rfl⟩
set_option maxRecDepth 1000000 in
theorem q_lwS1 {z L : Nat} {xs : Nat → Int32} {o : q_Out} (h : q_Ru (q_TBs z L xs) 20 376 (15, [(1, .ref 64), (0, .ref 0)], [.ref 236], ((q_cL q_AL q_IL q_J0).take 206, 206, 149581)) o) : q_Ru (q_TBs z L xs) 20 376 (0, [(0, .ref 0)], [], ([], 0, 0)) o := by
  refine q_Ru_seg (g2 := (4, [(0, .ref 0)], [.ref 64, .ref 64], ([q_oX], 1, 6))) 2 (fun _ _ => rfl) ?_
  refine q_Ru_call (v := none) (h2 := ((q_cX q_AX q_IX q_J0).take 172, 172, 117951)) rfl rfl (q_newX.le (Nat.le_of_ble_eq_true rfl)) ?_
  show q_Ru _ _ _ (7, [(0, .ref 0)], [.ref 64], ((q_cX q_AX q_IX q_J0).take 172, 172, 117951)) _
  refine q_Ru_seg (g2 := (12, [(1, .ref 64), (0, .ref 0)], [.ref 236, .ref 236], ((q_cX q_AX q_IX q_J0).take 172 ++ [q_oM], 173, 117991))) 3 (fun _ _ => rfl) ?_
  refine q_Ru_call (v := none) (h2 := ((q_cL q_AL q_IL q_J0).take 206, 206, 149581)) rfl rfl (q_newML.le (Nat.le_of_ble_eq_true rfl)) ?_
  exact h
set_option maxRecDepth 1000000 in
theorem q_lwS {z L : Nat} {xs : Nat → Int32} {o : q_Out} (h : q_Ru (q_TBs z L xs) 20 376 (23, [(4, .int 0), (3, .ref 270), (2, .ref 236), (1, .ref 64), (0, .ref 0)], [], (q_kL q_SL0 207 149582)) o) : q_Ru (q_TBs z L xs) 20 376 (0, [(0, .ref 0)], [], ([], 0, 0)) o := by
  refine q_lwS1 ?_
  refine q_Ru_seg (g2 := (17, [(2, .ref 236), (1, .ref 64), (0, .ref 0)], [.int 1], ((q_cL q_AL q_IL q_J0).take 206, 206, 149581))) 2 (fun _ _ => rfl) ?_
  refine q_Ru_rsT (g2 := (19, [(2, .ref 236), (1, .ref 64), (0, .ref 0)], [.ref 270], ((q_cL q_AL q_IL q_J0).take 206 ++ [.inl (2, 1, .inr (.inl fun _ => 0))], 207, 149582))) rfl rfl rfl ?_
  refine q_Ru_seg (g2 := (23, [(4, .int 0), (3, .ref 270), (2, .ref 236), (1, .ref 64), (0, .ref 0)], [], (q_kL q_SL0 207 149582))) 3 (fun _ _ => rfl) ?_
  exact h
theorem q_lwE (z L : Nat) (xs : Nat → Int32) (S : q_S) (c n : Nat) (i : Int32) (hi : decide ((Int32.ofNat L) - 4 < i) = true) : q_Ru (q_TBs z L xs) 20 376 (23, [(4, .int i), (3, .ref 270), (2, .ref 236), (1, .ref 64), (0, .ref 0)], [], (q_kL S c n)) (.inl (some (.int 1)), q_kL S c n) := by
  refine q_Ru_seg (g2 := (29, [(4, .int i), (3, .ref 270), (2, .ref 236), (1, .ref 64), (0, .ref 0)], [.int ((Int32.ofNat L) - 4), .int i], (q_kL S c n))) 5 (fun _ _ => rfl) ?_
  refine q_Ru_rsT (g2 := (1335, [(4, .int i), (3, .ref 270), (2, .ref 236), (1, .ref 64), (0, .ref 0)], [], (q_kL S c n))) rfl rfl hi ?_
  refine q_Ru_seg (g2 := (1336, [(4, .int i), (3, .ref 270), (2, .ref 236), (1, .ref 64), (0, .ref 0)], [.int 1], (q_kL S c n))) 1 (fun _ _ => rfl) ?_
  exact q_Ru_ret rfl rfl
