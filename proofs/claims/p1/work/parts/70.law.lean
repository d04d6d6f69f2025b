/-! ===== the law's run ===== -/
theorem q_start (z L : Nat) (xs : Nat → Int32) : ∃ (βX βM : Nat → Nat) (H : q_H), q_tw βX βM H ∧ H.2.1 = 74 ∧ H.2.2 = 58150 ∧ ∀ o, q_Ru (q_TBs z L xs) 12 377 (23, [(4, .int 0), (3, .ref (βX 103)), (2, .ref (βM 64)), (1, .ref (βX 64)), (0, .ref 0)], [], H) o → q_Ru (q_TBs z L xs) 12 377 (0, [(0, .ref 0)], [], ([], 0, 0)) o := by
  have eM : q_Ca (q_TBs z L xs) 2 198 [.ref 64] ([q_oM], 1, 40) (.inl none, q_hM) := q_newM
  obtain ⟨-, β2, H2, e1, e2, e3⟩ := q_CaF eM (fun v hv => by rw [List.mem_singleton.mp hv]; intro a ha; cases ha; exact Nat.le_of_ble_eq_true rfl) (fun c hc => by rw [List.mem_singleton.mp hc]; exact q_okc_obj rfl) (q_Em_id (c := q_oM) (β := fun a => if a < 64 then a else a + 39) (j := 39) (H := ((q_cX q_AX q_IX q_J0).take 39 ++ [q_oM], 40, 26559)) (δ := 39) (σ := 26519) (fun _ => rfl) (fun a h => if_pos h) rfl rfl rfl rfl)
  have b64 : β2 64 = 103 := e3.1 64 (Nat.le_of_ble_eq_true rfl)
  have hn : 40 ≤ H2.1.length := e3.2.2.1
  have hold : ∀ j, j < 39 → H2.1[j]? = ((q_cX q_AX q_IX q_J0).take 39 ++ [q_oM])[j]? := fun j hj => e3.2.2.2.2 j (show j < 40 by omega) (fun i hi h9 => by
    have hi : i < 1 := hi
    obtain rfl : i = 0 := by omega
    have h9 : (103 : Nat) = 64 + j := h9
    omega)
  have hnew : ∀ i, 1 ≤ i → i < 34 → 104 ≤ β2 (64 + i) := fun i h1 h2 => e3.2.2.2.1 i h1 h2
  have hlt : ∀ i, i < 34 → β2 (64 + i) < 64 + H2.1.length := fun i hi => q_Em_lt e2 hi
  have hbX : ∀ i, i < 39 → (fun a => if a = 103 then 64 + H2.1.length else a) (64 + i) = 64 + i := fun i hi => if_neg (by omega)
  have n1 : H2.2.1 = 34 + 39 := e2.2.2.2.2.1
  have n2 : H2.2.2 = 31630 + 26519 := e2.2.2.2.2.2
  refine ⟨fun a => if a = 103 then 64 + H2.1.length else a, β2, (H2.1 ++ [q_out], H2.2.1 + 1, H2.2.2 + 1), ⟨⟨fun a ha => if_neg (by omega), fun i hi => ?_, fun i j hi hj hij => ?_, fun i c hc => ?_, ?_, ?_⟩, ?_, ?_⟩, ?_, ?_, fun o h => ?_⟩
  · dsimp only; split <;> omega
  · have hi : i < 40 := hi
    have hj : j < 40 := hj
    dsimp only at hij
    split at hij <;> split at hij <;> omega
  · have hi : i < 40 := (List.getElem?_eq_some_iff.mp hc).1
    by_cases h39 : i = 39
    · subst h39
      have e : q_out = c := Option.some.inj hc
      subst e
      show (H2.1 ++ [q_out])[64 + H2.1.length - 64]? = some q_out
      rw [show 64 + H2.1.length - 64 = H2.1.length by omega, List.getElem?_append_right (Nat.le_refl _), Nat.sub_self]
      rfl
    · have hi9 : i < 39 := by omega
      rw [hbX i hi9]
      show (H2.1 ++ [q_out])[64 + i - 64]? = _
      rw [show 64 + i - 64 = i by omega, List.getElem?_append_left (by omega), hold i hi9, List.getElem?_append_left (show i < 39 from hi9)]
      have h1 : ((q_cX q_AX q_IX q_J0).take 39)[i]? = some c := by
        have h2 : ((q_cX q_AX q_IX q_J0).take 39 ++ [q_out])[i]? = some c := hc
        rw [List.getElem?_append_left (show i < 39 from hi9)] at h2
        exact h2
      have h3 : ((q_cX q_AX q_IX q_J0).take 39).map (q_mc fun a => if a = 103 then 64 + H2.1.length else a) = (q_cX q_AX q_IX q_J0).take 39 := rfl
      rw [h1, ← h1, ← congrArg (fun l => l[i]?) h3]
      rw [List.getElem?_map, h1]; rfl
  · show H2.2.1 + 1 = 40 + 34; omega
  · show H2.2.2 + 1 = 26520 + 31630; omega
  · refine q_Em_mv e2 (fun i hi => ?_) (by show H2.2.1 + 1 = 34 + 40; omega) (by show H2.2.2 + 1 = 31630 + 26520; omega)
    have q1 := hlt i hi
    have q2 := e2.2.1 i hi
    exact List.getElem?_append_left (by omega)
  · intro i j hi hj
    have q1 := hlt j hj
    dsimp only
    by_cases hj0 : j = 0
    · subst hj0
      rw [show 64 + 0 = 64 from rfl, b64]
      split <;> omega
    · have q2 := hnew j (by omega) hj
      split <;> omega
  · show H2.2.1 + 1 = 74; omega
  · show H2.2.2 + 1 = 58150; omega
  · rw [b64] at h
    refine q_Ru_seg (g2 := (4, [(0, .ref 0)], [.ref 64, .ref 64], ([q_oX], 1, 6))) 2 (fun _ _ => rfl) ?_
    refine q_Ru_call (v := none) (h2 := ((q_cX q_AX q_IX q_J0).take 39, 39, 26519)) rfl rfl (q_newX.le (Nat.le_of_ble_eq_true rfl)) ?_
    show q_Ru _ _ _ (7, [(0, .ref 0)], [.ref 64], ((q_cX q_AX q_IX q_J0).take 39, 39, 26519)) _
    refine q_Ru_seg (g2 := (12, [(1, .ref 64), (0, .ref 0)], [.ref 103, .ref 103], ((q_cX q_AX q_IX q_J0).take 39 ++ [q_oM], 40, 26559))) 3 (fun _ _ => rfl) ?_
    have e1 : q_Ca (q_TBs z L xs) 2 198 [.ref 103] ((q_cX q_AX q_IX q_J0).take 39 ++ [q_oM], 40, 26559) (.inl none, H2) := e1
    refine q_Ru_call (v := none) (h2 := H2) rfl rfl (e1.le (Nat.le_of_ble_eq_true rfl)) ?_
    show q_Ru _ _ _ (15, [(1, .ref 64), (0, .ref 0)], [.ref 103], H2) _
    refine q_Ru_seg (g2 := (17, [(2, .ref 103), (1, .ref 64), (0, .ref 0)], [.int 1], H2)) 2 (fun _ _ => rfl) ?_
    refine q_Ru_rsT (g2 := (19, [(2, .ref 103), (1, .ref 64), (0, .ref 0)], [.ref (64 + H2.1.length)], (H2.1 ++ [q_out], H2.2.1 + 1, H2.2.2 + 1))) rfl rfl rfl ?_
    refine q_Ru_seg (g2 := (23, [(4, .int 0), (3, .ref (64 + H2.1.length)), (2, .ref 103), (1, .ref 64), (0, .ref 0)], [], (H2.1 ++ [q_out], H2.2.1 + 1, H2.2.2 + 1))) 3 (fun _ _ => rfl) ?_
    exact h
theorem q_short {βX βM : Nat → Nat} {H : q_H} (z : Nat) (xs : Nat → Int32) : ∀ L, L ≤ 3 → q_Ru (q_TBs z L xs) 12 377 (23, [(4, .int 0), (3, .ref (βX 103)), (2, .ref (βM 64)), (1, .ref (βX 64)), (0, .ref 0)], [], H) (.inl (some (.int 1)), H) := by
  intro L hL
  match L, hL with
  | 0, _ => exact q_Ru_seg (g2 := (2132, [(4, .int 0), (3, .ref (βX 103)), (2, .ref (βM 64)), (1, .ref (βX 64)), (0, .ref 0)], [.int 1], H)) 7 (fun _ _ => rfl) (q_Ru_ret rfl rfl)
  | 1, _ => exact q_Ru_seg (g2 := (2132, [(4, .int 0), (3, .ref (βX 103)), (2, .ref (βM 64)), (1, .ref (βX 64)), (0, .ref 0)], [.int 1], H)) 7 (fun _ _ => rfl) (q_Ru_ret rfl rfl)
  | 2, _ => exact q_Ru_seg (g2 := (2132, [(4, .int 0), (3, .ref (βX 103)), (2, .ref (βM 64)), (1, .ref (βX 64)), (0, .ref 0)], [.int 1], H)) 7 (fun _ _ => rfl) (q_Ru_ret rfl rfl)
  | 3, _ => exact q_Ru_seg (g2 := (2132, [(4, .int 0), (3, .ref (βX 103)), (2, .ref (βM 64)), (1, .ref (βX 64)), (0, .ref 0)], [.int 1], H)) 7 (fun _ _ => rfl) (q_Ru_ret rfl rfl)
  | L + 4, hL => exact absurd hL (by omega)
theorem q_full {βX βM : Nat → Nat} {H : q_H} (hT : q_tw βX βM H) (n1 : H.2.1 = 74) (n2 : H.2.2 = 58150) (z : Nat) (hz : z = 98 ∨ z = 99) (xs : Nat → Int32) : ∃ h, q_Ru (q_TBs z 4 xs) 12 377 (23, [(4, .int 0), (3, .ref (βX 103)), (2, .ref (βM 64)), (1, .ref (βX 64)), (0, .ref 0)], [], H) (.inl (some (.int 1)), h) ∧ h.2.1 ≤ 600002 ∧ h.2.2 ≤ 7302231 := by
  have key : ∃ h, q_Ru (q_TBs z 4 xs) 12 377 (39, [(4, .int 0), (3, .ref (βX 103)), (2, .ref (βM 64)), (1, .ref (βX 64)), (0, .ref 0)], [.int (xs 0 &&& 63)], H) (.inl (some (.int 1)), h) ∧ h.2.1 ≤ 600002 ∧ h.2.2 ≤ 7302231 := by
    obtain ⟨j, hj, e⟩ := q_en (l := 0) (n := 63) (q_and_lo (xs 0) 63) (q_and_hi (xs 0) 63 63)
    rw [e]
    match j, hj with
    | 0, _ =>
      obtain ⟨h, q, r⟩ := q_lw_poke hT z xs
      exact ⟨h, q_Ru_seg (g2 := (220, [(4, .int 0), (3, .ref (βX 103)), (2, .ref (βM 64)), (1, .ref (βX 64)), (0, .ref 0)], [], H)) 1 (fun _ _ => rfl) q, r⟩
    | 1, _ =>
      obtain ⟨h, q, r⟩ := q_lw_pokeRom hT z xs
      exact ⟨h, q_Ru_seg (g2 := (288, [(4, .int 0), (3, .ref (βX 103)), (2, .ref (βM 64)), (1, .ref (βX 64)), (0, .ref 0)], [], H)) 1 (fun _ _ => rfl) q, r⟩
    | 2, _ =>
      obtain ⟨h, q, r⟩ := q_lw_pokeCartridge hT z xs
      exact ⟨h, q_Ru_seg (g2 := (356, [(4, .int 0), (3, .ref (βX 103)), (2, .ref (βM 64)), (1, .ref (βX 64)), (0, .ref 0)], [], H)) 1 (fun _ _ => rfl) q, r⟩
    | 3, _ =>
      obtain ⟨h, q, r⟩ := q_lw_peek hT z xs
      exact ⟨h, q_Ru_seg (g2 := (436, [(4, .int 0), (3, .ref (βX 103)), (2, .ref (βM 64)), (1, .ref (βX 64)), (0, .ref 0)], [], H)) 1 (fun _ _ => rfl) q, r⟩
    | 4, _ =>
      obtain ⟨h, q, r⟩ := q_lw_ram hT z xs
      exact ⟨h, q_Ru_seg (g2 := (492, [(4, .int 0), (3, .ref (βX 103)), (2, .ref (βM 64)), (1, .ref (βX 64)), (0, .ref 0)], [], H)) 1 (fun _ _ => rfl) q, r⟩
    | 5, _ =>
      obtain ⟨h, q, r⟩ := q_lw_assemble hT z xs
      exact ⟨h, q_Ru_seg (g2 := (548, [(4, .int 0), (3, .ref (βX 103)), (2, .ref (βM 64)), (1, .ref (βX 64)), (0, .ref 0)], [], H)) 1 (fun _ _ => rfl) q, r⟩
    | 6, _ =>
      obtain ⟨h, q, r⟩ := q_lw_writeLine hT z hz xs
      exact ⟨h, q_Ru_seg (g2 := (628, [(4, .int 0), (3, .ref (βX 103)), (2, .ref (βM 64)), (1, .ref (βX 64)), (0, .ref 0)], [], H)) 1 (fun _ _ => rfl) q, r⟩
    | 7, _ =>
      obtain ⟨h, q, r⟩ := q_lw_lineAt hT z xs
      exact ⟨h, q_Ru_seg (g2 := (684, [(4, .int 0), (3, .ref (βX 103)), (2, .ref (βM 64)), (1, .ref (βX 64)), (0, .ref 0)], [], H)) 1 (fun _ _ => rfl) q, r⟩
    | 8, _ =>
      obtain ⟨h, q, r⟩ := q_lw_compare hT z xs
      exact ⟨h, q_Ru_seg (g2 := (740, [(4, .int 0), (3, .ref (βX 103)), (2, .ref (βM 64)), (1, .ref (βX 64)), (0, .ref 0)], [], H)) 1 (fun _ _ => rfl) q, r⟩
    | 9, _ =>
      obtain ⟨h, q, r⟩ := q_lw_register hT z xs
      exact ⟨h, q_Ru_seg (g2 := (820, [(4, .int 0), (3, .ref (βX 103)), (2, .ref (βM 64)), (1, .ref (βX 64)), (0, .ref 0)], [], H)) 1 (fun _ _ => rfl) q, r⟩
    | 10, _ =>
      obtain ⟨h, q, r⟩ := q_lw_setRegister hT z xs
      exact ⟨h, q_Ru_seg (g2 := (876, [(4, .int 0), (3, .ref (βX 103)), (2, .ref (βM 64)), (1, .ref (βX 64)), (0, .ref 0)], [], H)) 1 (fun _ _ => rfl) q, r⟩
    | 11, _ =>
      obtain ⟨h, q, r⟩ := q_lw_status hT z xs
      exact ⟨h, q_Ru_seg (g2 := (944, [(4, .int 0), (3, .ref (βX 103)), (2, .ref (βM 64)), (1, .ref (βX 64)), (0, .ref 0)], [], H)) 1 (fun _ _ => rfl) q, r⟩
    | 12, _ =>
      obtain ⟨h, q, r⟩ := q_lw_reset hT z xs
      exact ⟨h, q_Ru_seg (g2 := (957, [(4, .int 0), (3, .ref (βX 103)), (2, .ref (βM 64)), (1, .ref (βX 64)), (0, .ref 0)], [], H)) 1 (fun _ _ => rfl) q, r⟩
    | 13, _ =>
      obtain ⟨h, q, r⟩ := q_lw_freeze hT z xs
      exact ⟨h, q_Ru_seg (g2 := (970, [(4, .int 0), (3, .ref (βX 103)), (2, .ref (βM 64)), (1, .ref (βX 64)), (0, .ref 0)], [], H)) 1 (fun _ _ => rfl) q, r⟩
    | 14, _ =>
      obtain ⟨h, q, r⟩ := q_lw_run hT z xs
      exact ⟨h, q_Ru_seg (g2 := (983, [(4, .int 0), (3, .ref (βX 103)), (2, .ref (βM 64)), (1, .ref (βX 64)), (0, .ref 0)], [], H)) 1 (fun _ _ => rfl) q, r⟩
    | 15, _ =>
      obtain ⟨h, q, r⟩ := q_lw_step hT z xs
      exact ⟨h, q_Ru_seg (g2 := (1039, [(4, .int 0), (3, .ref (βX 103)), (2, .ref (βM 64)), (1, .ref (βX 64)), (0, .ref 0)], [], H)) 1 (fun _ _ => rfl) q, r⟩
    | 16, _ =>
      obtain ⟨h, q, r⟩ := q_lw_cycle hT z xs
      exact ⟨h, q_Ru_seg (g2 := (1083, [(4, .int 0), (3, .ref (βX 103)), (2, .ref (βM 64)), (1, .ref (βX 64)), (0, .ref 0)], [], H)) 1 (fun _ _ => rfl) q, r⟩
    | 17, _ =>
      obtain ⟨h, q, r⟩ := q_lw_isPictures hT z xs
      exact ⟨h, q_Ru_seg (g2 := (1097, [(4, .int 0), (3, .ref (βX 103)), (2, .ref (βM 64)), (1, .ref (βX 64)), (0, .ref 0)], [], H)) 1 (fun _ _ => rfl) q, r⟩
    | 18, _ =>
      obtain ⟨h, q, r⟩ := q_lw_underWay hT z xs
      exact ⟨h, q_Ru_seg (g2 := (1110, [(4, .int 0), (3, .ref (βX 103)), (2, .ref (βM 64)), (1, .ref (βX 64)), (0, .ref 0)], [], H)) 1 (fun _ _ => rfl) q, r⟩
    | 19, _ =>
      obtain ⟨h, q, r⟩ := q_lw_done hT z xs
      exact ⟨h, q_Ru_seg (g2 := (1123, [(4, .int 0), (3, .ref (βX 103)), (2, .ref (βM 64)), (1, .ref (βX 64)), (0, .ref 0)], [], H)) 1 (fun _ _ => rfl) q, r⟩
    | 20, _ =>
      obtain ⟨h, q, r⟩ := q_lw_isJammed hT z xs
      exact ⟨h, q_Ru_seg (g2 := (1136, [(4, .int 0), (3, .ref (βX 103)), (2, .ref (βM 64)), (1, .ref (βX 64)), (0, .ref 0)], [], H)) 1 (fun _ _ => rfl) q, r⟩
    | 21, _ =>
      obtain ⟨h, q, r⟩ := q_lw_traceAt hT z xs
      exact ⟨h, q_Ru_seg (g2 := (1149, [(4, .int 0), (3, .ref (βX 103)), (2, .ref (βM 64)), (1, .ref (βX 64)), (0, .ref 0)], [], H)) 1 (fun _ _ => rfl) q, r⟩
    | 22, _ =>
      obtain ⟨h, q, r⟩ := q_lw_pixel hT z xs
      exact ⟨h, q_Ru_seg (g2 := (1205, [(4, .int 0), (3, .ref (βX 103)), (2, .ref (βM 64)), (1, .ref (βX 64)), (0, .ref 0)], [], H)) 1 (fun _ _ => rfl) q, r⟩
    | 23, _ =>
      obtain ⟨h, q, r⟩ := q_lw_pixelAgain hT z xs
      exact ⟨h, q_Ru_seg (g2 := (1273, [(4, .int 0), (3, .ref (βX 103)), (2, .ref (βM 64)), (1, .ref (βX 64)), (0, .ref 0)], [], H)) 1 (fun _ _ => rfl) q, r⟩
    | 24, _ =>
      obtain ⟨h, q, r⟩ := q_lw_sample hT z xs
      exact ⟨h, q_Ru_seg (g2 := (1341, [(4, .int 0), (3, .ref (βX 103)), (2, .ref (βM 64)), (1, .ref (βX 64)), (0, .ref 0)], [], H)) 1 (fun _ _ => rfl) q, r⟩
    | 25, _ =>
      obtain ⟨h, q, r⟩ := q_lw_level hT z xs
      exact ⟨h, q_Ru_seg (g2 := (1397, [(4, .int 0), (3, .ref (βX 103)), (2, .ref (βM 64)), (1, .ref (βX 64)), (0, .ref 0)], [], H)) 1 (fun _ _ => rfl) q, r⟩
    | 26, _ =>
      obtain ⟨h, q, r⟩ := q_lw_key hT z xs
      exact ⟨h, q_Ru_seg (g2 := (1453, [(4, .int 0), (3, .ref (βX 103)), (2, .ref (βM 64)), (1, .ref (βX 64)), (0, .ref 0)], [], H)) 1 (fun _ _ => rfl) q, r⟩
    | 27, _ =>
      obtain ⟨h, q, r⟩ := q_lw_columns hT z xs
      exact ⟨h, q_Ru_seg (g2 := (1556, [(4, .int 0), (3, .ref (βX 103)), (2, .ref (βM 64)), (1, .ref (βX 64)), (0, .ref 0)], [], H)) 1 (fun _ _ => rfl) q, r⟩
    | 28, _ =>
      obtain ⟨h, q, r⟩ := q_lw_joystick hT z xs
      exact ⟨h, q_Ru_seg (g2 := (1612, [(4, .int 0), (3, .ref (βX 103)), (2, .ref (βM 64)), (1, .ref (βX 64)), (0, .ref 0)], [], H)) 1 (fun _ _ => rfl) q, r⟩
    | 29, _ =>
      obtain ⟨h, q, r⟩ := q_lw_addPulse hT z xs
      exact ⟨h, q_Ru_seg (g2 := (1668, [(4, .int 0), (3, .ref (βX 103)), (2, .ref (βM 64)), (1, .ref (βX 64)), (0, .ref 0)], [], H)) 1 (fun _ _ => rfl) q, r⟩
    | 30, _ =>
      obtain ⟨h, q, r⟩ := q_lw_rewind hT z xs
      exact ⟨h, q_Ru_seg (g2 := (1724, [(4, .int 0), (3, .ref (βX 103)), (2, .ref (βM 64)), (1, .ref (βX 64)), (0, .ref 0)], [], H)) 1 (fun _ _ => rfl) q, r⟩
    | 31, _ =>
      obtain ⟨h, q, r⟩ := q_lw_pulsesLeft hT z xs
      exact ⟨h, q_Ru_seg (g2 := (1737, [(4, .int 0), (3, .ref (βX 103)), (2, .ref (βM 64)), (1, .ref (βX 64)), (0, .ref 0)], [], H)) 1 (fun _ _ => rfl) q, r⟩
    | 32, _ =>
      obtain ⟨h, q, r⟩ := q_lw_save hT z xs
      exact ⟨h, q_Ru_seg (g2 := (1750, [(4, .int 0), (3, .ref (βX 103)), (2, .ref (βM 64)), (1, .ref (βX 64)), (0, .ref 0)], [], H)) 1 (fun _ _ => rfl) q, r⟩
    | 33, _ =>
      obtain ⟨h, q, r⟩ := q_lw_restore hT z xs
      exact ⟨h, q_Ru_seg (g2 := (1794, [(4, .int 0), (3, .ref (βX 103)), (2, .ref (βM 64)), (1, .ref (βX 64)), (0, .ref 0)], [], H)) 1 (fun _ _ => rfl) q, r⟩
    | 34, _ =>
      obtain ⟨h, q, r⟩ := q_lw_differences hT z xs
      exact ⟨h, q_Ru_seg (g2 := (1850, [(4, .int 0), (3, .ref (βX 103)), (2, .ref (βM 64)), (1, .ref (βX 64)), (0, .ref 0)], [], H)) 1 (fun _ _ => rfl) q, r⟩
    | 35, _ =>
      obtain ⟨h, q, r⟩ := q_lw_startRecord hT z xs
      exact ⟨h, q_Ru_seg (g2 := (1906, [(4, .int 0), (3, .ref (βX 103)), (2, .ref (βM 64)), (1, .ref (βX 64)), (0, .ref 0)], [], H)) 1 (fun _ _ => rfl) q, r⟩
    | 36, _ =>
      obtain ⟨h, q, r⟩ := q_lw_recorded hT z xs
      exact ⟨h, q_Ru_seg (g2 := (1919, [(4, .int 0), (3, .ref (βX 103)), (2, .ref (βM 64)), (1, .ref (βX 64)), (0, .ref 0)], [], H)) 1 (fun _ _ => rfl) q, r⟩
    | 37, _ =>
      obtain ⟨h, q, r⟩ := q_lw_isSame hT z xs
      exact ⟨h, q_Ru_seg (g2 := (1963, [(4, .int 0), (3, .ref (βX 103)), (2, .ref (βM 64)), (1, .ref (βX 64)), (0, .ref 0)], [], H)) 1 (fun _ _ => rfl) q, r⟩
    | 38, _ =>
      obtain ⟨h, q, r⟩ := q_lw_sumOfPicture hT z xs
      exact ⟨h, q_Ru_seg (g2 := (2014, [(4, .int 0), (3, .ref (βX 103)), (2, .ref (βM 64)), (1, .ref (βX 64)), (0, .ref 0)], [], H)) 1 (fun _ _ => rfl) q, r⟩
    | 39, _ =>
      obtain ⟨h, q, r⟩ := q_lw_pictures hT z xs
      exact ⟨h, q_Ru_seg (g2 := (2027, [(4, .int 0), (3, .ref (βX 103)), (2, .ref (βM 64)), (1, .ref (βX 64)), (0, .ref 0)], [], H)) 1 (fun _ _ => rfl) q, r⟩
    | 40, _ =>
      obtain ⟨h, q, r⟩ := q_lw_solidShare hT z xs
      exact ⟨h, q_Ru_seg (g2 := (2041, [(4, .int 0), (3, .ref (βX 103)), (2, .ref (βM 64)), (1, .ref (βX 64)), (0, .ref 0)], [], H)) 1 (fun _ _ => rfl) q, r⟩
    | 41, _ =>
      obtain ⟨h, q, r⟩ := q_lw_meanSample hT z xs
      exact ⟨h, q_Ru_seg (g2 := (2084, [(4, .int 0), (3, .ref (βX 103)), (2, .ref (βM 64)), (1, .ref (βX 64)), (0, .ref 0)], [], H)) 1 (fun _ _ => rfl) q, r⟩
    | 42, _ => exact ⟨H, q_Ru_seg (g2 := (2132, [(4, .int 4), (3, .ref (βX 103)), (2, .ref (βM 64)), (1, .ref (βX 64)), (0, .ref 0)], [.int 1], H)) 10 (fun _ _ => rfl) (q_Ru_ret rfl rfl), by omega, by omega⟩
    | 43, _ => exact ⟨H, q_Ru_seg (g2 := (2132, [(4, .int 4), (3, .ref (βX 103)), (2, .ref (βM 64)), (1, .ref (βX 64)), (0, .ref 0)], [.int 1], H)) 10 (fun _ _ => rfl) (q_Ru_ret rfl rfl), by omega, by omega⟩
    | 44, _ => exact ⟨H, q_Ru_seg (g2 := (2132, [(4, .int 4), (3, .ref (βX 103)), (2, .ref (βM 64)), (1, .ref (βX 64)), (0, .ref 0)], [.int 1], H)) 10 (fun _ _ => rfl) (q_Ru_ret rfl rfl), by omega, by omega⟩
    | 45, _ => exact ⟨H, q_Ru_seg (g2 := (2132, [(4, .int 4), (3, .ref (βX 103)), (2, .ref (βM 64)), (1, .ref (βX 64)), (0, .ref 0)], [.int 1], H)) 10 (fun _ _ => rfl) (q_Ru_ret rfl rfl), by omega, by omega⟩
    | 46, _ => exact ⟨H, q_Ru_seg (g2 := (2132, [(4, .int 4), (3, .ref (βX 103)), (2, .ref (βM 64)), (1, .ref (βX 64)), (0, .ref 0)], [.int 1], H)) 10 (fun _ _ => rfl) (q_Ru_ret rfl rfl), by omega, by omega⟩
    | 47, _ => exact ⟨H, q_Ru_seg (g2 := (2132, [(4, .int 4), (3, .ref (βX 103)), (2, .ref (βM 64)), (1, .ref (βX 64)), (0, .ref 0)], [.int 1], H)) 10 (fun _ _ => rfl) (q_Ru_ret rfl rfl), by omega, by omega⟩
    | 48, _ => exact ⟨H, q_Ru_seg (g2 := (2132, [(4, .int 4), (3, .ref (βX 103)), (2, .ref (βM 64)), (1, .ref (βX 64)), (0, .ref 0)], [.int 1], H)) 10 (fun _ _ => rfl) (q_Ru_ret rfl rfl), by omega, by omega⟩
    | 49, _ => exact ⟨H, q_Ru_seg (g2 := (2132, [(4, .int 4), (3, .ref (βX 103)), (2, .ref (βM 64)), (1, .ref (βX 64)), (0, .ref 0)], [.int 1], H)) 10 (fun _ _ => rfl) (q_Ru_ret rfl rfl), by omega, by omega⟩
    | 50, _ => exact ⟨H, q_Ru_seg (g2 := (2132, [(4, .int 4), (3, .ref (βX 103)), (2, .ref (βM 64)), (1, .ref (βX 64)), (0, .ref 0)], [.int 1], H)) 10 (fun _ _ => rfl) (q_Ru_ret rfl rfl), by omega, by omega⟩
    | 51, _ => exact ⟨H, q_Ru_seg (g2 := (2132, [(4, .int 4), (3, .ref (βX 103)), (2, .ref (βM 64)), (1, .ref (βX 64)), (0, .ref 0)], [.int 1], H)) 10 (fun _ _ => rfl) (q_Ru_ret rfl rfl), by omega, by omega⟩
    | 52, _ => exact ⟨H, q_Ru_seg (g2 := (2132, [(4, .int 4), (3, .ref (βX 103)), (2, .ref (βM 64)), (1, .ref (βX 64)), (0, .ref 0)], [.int 1], H)) 10 (fun _ _ => rfl) (q_Ru_ret rfl rfl), by omega, by omega⟩
    | 53, _ => exact ⟨H, q_Ru_seg (g2 := (2132, [(4, .int 4), (3, .ref (βX 103)), (2, .ref (βM 64)), (1, .ref (βX 64)), (0, .ref 0)], [.int 1], H)) 10 (fun _ _ => rfl) (q_Ru_ret rfl rfl), by omega, by omega⟩
    | 54, _ => exact ⟨H, q_Ru_seg (g2 := (2132, [(4, .int 4), (3, .ref (βX 103)), (2, .ref (βM 64)), (1, .ref (βX 64)), (0, .ref 0)], [.int 1], H)) 10 (fun _ _ => rfl) (q_Ru_ret rfl rfl), by omega, by omega⟩
    | 55, _ => exact ⟨H, q_Ru_seg (g2 := (2132, [(4, .int 4), (3, .ref (βX 103)), (2, .ref (βM 64)), (1, .ref (βX 64)), (0, .ref 0)], [.int 1], H)) 10 (fun _ _ => rfl) (q_Ru_ret rfl rfl), by omega, by omega⟩
    | 56, _ => exact ⟨H, q_Ru_seg (g2 := (2132, [(4, .int 4), (3, .ref (βX 103)), (2, .ref (βM 64)), (1, .ref (βX 64)), (0, .ref 0)], [.int 1], H)) 10 (fun _ _ => rfl) (q_Ru_ret rfl rfl), by omega, by omega⟩
    | 57, _ => exact ⟨H, q_Ru_seg (g2 := (2132, [(4, .int 4), (3, .ref (βX 103)), (2, .ref (βM 64)), (1, .ref (βX 64)), (0, .ref 0)], [.int 1], H)) 10 (fun _ _ => rfl) (q_Ru_ret rfl rfl), by omega, by omega⟩
    | 58, _ => exact ⟨H, q_Ru_seg (g2 := (2132, [(4, .int 4), (3, .ref (βX 103)), (2, .ref (βM 64)), (1, .ref (βX 64)), (0, .ref 0)], [.int 1], H)) 10 (fun _ _ => rfl) (q_Ru_ret rfl rfl), by omega, by omega⟩
    | 59, _ => exact ⟨H, q_Ru_seg (g2 := (2132, [(4, .int 4), (3, .ref (βX 103)), (2, .ref (βM 64)), (1, .ref (βX 64)), (0, .ref 0)], [.int 1], H)) 10 (fun _ _ => rfl) (q_Ru_ret rfl rfl), by omega, by omega⟩
    | 60, _ => exact ⟨H, q_Ru_seg (g2 := (2132, [(4, .int 4), (3, .ref (βX 103)), (2, .ref (βM 64)), (1, .ref (βX 64)), (0, .ref 0)], [.int 1], H)) 10 (fun _ _ => rfl) (q_Ru_ret rfl rfl), by omega, by omega⟩
    | 61, _ => exact ⟨H, q_Ru_seg (g2 := (2132, [(4, .int 4), (3, .ref (βX 103)), (2, .ref (βM 64)), (1, .ref (βX 64)), (0, .ref 0)], [.int 1], H)) 10 (fun _ _ => rfl) (q_Ru_ret rfl rfl), by omega, by omega⟩
    | 62, _ => exact ⟨H, q_Ru_seg (g2 := (2132, [(4, .int 4), (3, .ref (βX 103)), (2, .ref (βM 64)), (1, .ref (βX 64)), (0, .ref 0)], [.int 1], H)) 10 (fun _ _ => rfl) (q_Ru_ret rfl rfl), by omega, by omega⟩
    | 63, _ => exact ⟨H, q_Ru_seg (g2 := (2132, [(4, .int 4), (3, .ref (βX 103)), (2, .ref (βM 64)), (1, .ref (βX 64)), (0, .ref 0)], [.int 1], H)) 10 (fun _ _ => rfl) (q_Ru_ret rfl rfl), by omega, by omega⟩
    | j + 64, hj => exact absurd hj (by omega)
  obtain ⟨h, q, r⟩ := key
  refine ⟨h, ?_, r⟩
  refine q_Ru_seg (g2 := (35, [(4, .int 0), (3, .ref (βX 103)), (2, .ref (βM 64)), (1, .ref (βX 64)), (0, .ref 0)], [.int 0, .ref 0], H)) 8 (fun _ _ => rfl) ?_
  refine q_Ru_rsT (g2 := (36, [(4, .int 0), (3, .ref (βX 103)), (2, .ref (βM 64)), (1, .ref (βX 64)), (0, .ref 0)], [.int (xs 0)], H)) rfl rfl rfl ?_
  exact q_Ru_seg (g2 := (39, [(4, .int 0), (3, .ref (βX 103)), (2, .ref (βM 64)), (1, .ref (βX 64)), (0, .ref 0)], [.int (xs 0 &&& 63)], H)) 2 (fun _ _ => rfl) q
theorem q_run : ∀ (z L : Nat) (xs : Nat → Int32), (z = 98 ∨ z = 99) → L ≤ 4 → ∃ (n d : Nat) (h : q_H), d ≤ 800 ∧ q_loop (q_exec q_mt (q_mtab (q_TBs z L xs)) n d) (q_mtab (q_TBs z L xs) 377) n (0, [(0, .ref 0)], [], ([], 0, 0)) = some (.inl (some (.int 1)), h) ∧ h.2.1 ≤ 600002 ∧ h.2.2 ≤ 7302231 := by
  intro z L xs hz hL
  obtain ⟨βX, βM, H, hT, n1, n2, hs⟩ := q_start z L xs
  by_cases h4 : L ≤ 3
  · obtain ⟨n, q⟩ := hs _ (q_short (βX := βX) (βM := βM) (H := H) z xs L h4)
    exact ⟨n, 12, H, by omega, q, by omega, by omega⟩
  · obtain rfl : L = 4 := by omega
    obtain ⟨h, q, r1, r2⟩ := q_full hT n1 n2 z hz xs
    obtain ⟨n, q⟩ := hs _ q
    exact ⟨n, 12, h, by omega, q, r1, r2⟩
