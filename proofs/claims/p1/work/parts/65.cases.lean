/-! ===== the law, call by call ===== -/
theorem q_lw_poke {βX βM : Nat → Nat} {H : q_H} (hT : q_tw βX βM H) (z : Nat) (xs : Nat → Int32) : ∃ h, q_Ru (q_TBs z 4 xs) 12 377 (220, [(4, .int 0), (3, .ref (βX 103)), (2, .ref (βM 64)), (1, .ref (βX 64)), (0, .ref 0)], [], H) (.inl (some (.int 1)), h) ∧ h.2.1 ≤ 600002 ∧ h.2.2 ≤ 7302231 := by
  obtain ⟨r, b, w, hX, hM, hw⟩ := q_op_poke (xs 1) (xs 2)
  obtain ⟨H2, H3, f, fs, fs2, c1, c2, a1, a2, a3, a4, hf, n1, n2⟩ := q_tw_op hT hX hM hw (fun _ => rfl) z 4 xs
  refine ⟨H3, ?_, by omega, by omega⟩
  refine q_Ru_seg (g2 := (226, [(4, .int 0), (3, .ref (βX 103)), (2, .ref (βM 64)), (1, .ref (βX 64)), (0, .ref 0)], [.int 1, .ref 0, .ref (βX 64)], H)) 5 (fun _ _ => rfl) ?_
  refine q_Ru_rsT (g2 := (227, [(4, .int 0), (3, .ref (βX 103)), (2, .ref (βM 64)), (1, .ref (βX 64)), (0, .ref 0)], [.int (xs 1), .ref (βX 64)], H)) rfl rfl rfl ?_
  refine q_Ru_seg (g2 := (232, [(4, .int 0), (3, .ref (βX 103)), (2, .ref (βM 64)), (1, .ref (βX 64)), (0, .ref 0)], [.int 2, .ref 0, .int (xs 1), .ref (βX 64)], H)) 4 (fun _ _ => rfl) ?_
  refine q_Ru_rsT (g2 := (233, [(4, .int 0), (3, .ref (βX 103)), (2, .ref (βM 64)), (1, .ref (βX 64)), (0, .ref 0)], [.int (xs 2), .int (xs 1), .ref (βX 64)], H)) rfl rfl rfl ?_
  refine q_Ru_seg (g2 := (234, [(4, .int 0), (3, .ref (βX 103)), (2, .ref (βM 64)), (1, .ref (βX 64)), (0, .ref 0)], [.ref (βX 103), .int (xs 2), .int (xs 1), .ref (βX 64)], H)) 1 (fun _ _ => rfl) ?_
  refine q_Ru_call (v := some (.int r)) (h2 := H2) rfl rfl c1 ?_
  show q_Ru _ _ _ (237, [(4, .int 0), (3, .ref (βX 103)), (2, .ref (βM 64)), (1, .ref (βX 64)), (0, .ref 0)], [.int r], H2) _
  refine q_Ru_seg (g2 := (245, [(5, .int r), (4, .int 0), (3, .ref (βX 103)), (2, .ref (βM 64)), (1, .ref (βX 64)), (0, .ref 0)], [.int 1, .ref 0, .ref (βM 64)], H2)) 6 (fun _ _ => rfl) ?_
  refine q_Ru_rsT (g2 := (246, [(5, .int r), (4, .int 0), (3, .ref (βX 103)), (2, .ref (βM 64)), (1, .ref (βX 64)), (0, .ref 0)], [.int (xs 1), .ref (βM 64)], H2)) rfl rfl rfl ?_
  refine q_Ru_seg (g2 := (251, [(5, .int r), (4, .int 0), (3, .ref (βX 103)), (2, .ref (βM 64)), (1, .ref (βX 64)), (0, .ref 0)], [.int 2, .ref 0, .int (xs 1), .ref (βM 64)], H2)) 4 (fun _ _ => rfl) ?_
  refine q_Ru_rsT (g2 := (252, [(5, .int r), (4, .int 0), (3, .ref (βX 103)), (2, .ref (βM 64)), (1, .ref (βX 64)), (0, .ref 0)], [.int (xs 2), .int (xs 1), .ref (βM 64)], H2)) rfl rfl rfl ?_
  refine q_Ru_call (v := some (.int b)) (h2 := H3) rfl (q_fv_at a1 rfl (Nat.zero_le 8)) c2 ?_
  show q_Ru _ _ _ (255, [(5, .int r), (4, .int 0), (3, .ref (βX 103)), (2, .ref (βM 64)), (1, .ref (βX 64)), (0, .ref 0)], [.int b], H3) _
  refine q_Ru_seg (g2 := (258, [(6, .int b), (5, .int r), (4, .int 0), (3, .ref (βX 103)), (2, .ref (βM 64)), (1, .ref (βX 64)), (0, .ref 0)], [.ref (βM 64)], H3)) 2 (fun _ _ => rfl) ?_
  refine q_Ru_call (v := some (.int r)) (h2 := H3) rfl (q_fv_at a2 rfl (Nat.zero_le 8)) (q_thrown a2 a3) ?_
  show q_Ru _ _ _ (261, [(6, .int b), (5, .int r), (4, .int 0), (3, .ref (βX 103)), (2, .ref (βM 64)), (1, .ref (βX 64)), (0, .ref 0)], [.int r], H3) _
  refine q_Ru_seg (g2 := (263, [(6, .int b), (5, .int r), (4, .int 0), (3, .ref (βX 103)), (2, .ref (βM 64)), (1, .ref (βX 64)), (0, .ref 0)], [.int r, .int r], H3)) 1 (fun _ _ => rfl) ?_
  refine q_Ru_rsT (g2 := (268, [(6, .int b), (5, .int r), (4, .int 0), (3, .ref (βX 103)), (2, .ref (βM 64)), (1, .ref (βX 64)), (0, .ref 0)], [], H3)) rfl rfl (decide_eq_true rfl) ?_
  refine q_Ru_seg (g2 := (270, [(6, .int b), (5, .int r), (4, .int 0), (3, .ref (βX 103)), (2, .ref (βM 64)), (1, .ref (βX 64)), (0, .ref 0)], [.int r], H3)) 1 (fun _ _ => rfl) ?_
  by_cases hr : r = 0
  · have hf9 := hf hr
    subst hr
    refine q_Ru_seg (g2 := (273, [(6, .int b), (5, .int 0), (4, .int 0), (3, .ref (βX 103)), (2, .ref (βM 64)), (1, .ref (βX 64)), (0, .ref 0)], [], H3)) 1 (fun _ _ => rfl) ?_
    refine q_Ru_seg (g2 := (275, [(6, .int b), (5, .int 0), (4, .int 0), (3, .ref (βX 103)), (2, .ref (βM 64)), (1, .ref (βX 64)), (0, .ref 0)], [.int 0, .ref (βX 103)], H3)) 2 (fun _ _ => rfl) ?_
    refine q_Ru_rsT (g2 := (276, [(6, .int b), (5, .int 0), (4, .int 0), (3, .ref (βX 103)), (2, .ref (βM 64)), (1, .ref (βX 64)), (0, .ref 0)], [.long (f 0)], H3)) rfl (q_lld_at a4) rfl ?_
    rw [hf9]
    refine q_Ru_seg (g2 := (280, [(6, .int b), (5, .int 0), (4, .int 0), (3, .ref (βX 103)), (2, .ref (βM 64)), (1, .ref (βX 64)), (0, .ref 0)], [.int (lg_cmp b.toInt64 b.toInt64)], H3)) 3 (fun _ _ => rfl) ?_
    rw [q_lcmp_rf]
    refine q_Ru_seg (g2 := (285, [(6, .int b), (5, .int 0), (4, .int 0), (3, .ref (βX 103)), (2, .ref (βM 64)), (1, .ref (βX 64)), (0, .ref 0)], [], H3)) 1 (fun _ _ => rfl) ?_
    refine q_Ru_seg (g2 := (2132, [(4, .int 4), (6, .int b), (5, .int 0), (3, .ref (βX 103)), (2, .ref (βM 64)), (1, .ref (βX 64)), (0, .ref 0)], [.int 1], H3)) 10 (fun _ _ => rfl) ?_
    exact q_Ru_ret rfl rfl
  · refine q_Ru_rsT (g2 := (285, [(6, .int b), (5, .int r), (4, .int 0), (3, .ref (βX 103)), (2, .ref (βM 64)), (1, .ref (βX 64)), (0, .ref 0)], [], H3)) rfl rfl (decide_eq_true hr) ?_
    refine q_Ru_seg (g2 := (2132, [(4, .int 4), (6, .int b), (5, .int r), (3, .ref (βX 103)), (2, .ref (βM 64)), (1, .ref (βX 64)), (0, .ref 0)], [.int 1], H3)) 10 (fun _ _ => rfl) ?_
    exact q_Ru_ret rfl rfl
theorem q_lw_pokeRom {βX βM : Nat → Nat} {H : q_H} (hT : q_tw βX βM H) (z : Nat) (xs : Nat → Int32) : ∃ h, q_Ru (q_TBs z 4 xs) 12 377 (288, [(4, .int 0), (3, .ref (βX 103)), (2, .ref (βM 64)), (1, .ref (βX 64)), (0, .ref 0)], [], H) (.inl (some (.int 1)), h) ∧ h.2.1 ≤ 600002 ∧ h.2.2 ≤ 7302231 := by
  obtain ⟨r, b, w, hX, hM, hw⟩ := q_op_pokeRom (xs 1) (xs 2)
  obtain ⟨H2, H3, f, fs, fs2, c1, c2, a1, a2, a3, a4, hf, n1, n2⟩ := q_tw_op hT hX hM hw (fun _ => rfl) z 4 xs
  refine ⟨H3, ?_, by omega, by omega⟩
  refine q_Ru_seg (g2 := (294, [(4, .int 0), (3, .ref (βX 103)), (2, .ref (βM 64)), (1, .ref (βX 64)), (0, .ref 0)], [.int 1, .ref 0, .ref (βX 64)], H)) 5 (fun _ _ => rfl) ?_
  refine q_Ru_rsT (g2 := (295, [(4, .int 0), (3, .ref (βX 103)), (2, .ref (βM 64)), (1, .ref (βX 64)), (0, .ref 0)], [.int (xs 1), .ref (βX 64)], H)) rfl rfl rfl ?_
  refine q_Ru_seg (g2 := (300, [(4, .int 0), (3, .ref (βX 103)), (2, .ref (βM 64)), (1, .ref (βX 64)), (0, .ref 0)], [.int 2, .ref 0, .int (xs 1), .ref (βX 64)], H)) 4 (fun _ _ => rfl) ?_
  refine q_Ru_rsT (g2 := (301, [(4, .int 0), (3, .ref (βX 103)), (2, .ref (βM 64)), (1, .ref (βX 64)), (0, .ref 0)], [.int (xs 2), .int (xs 1), .ref (βX 64)], H)) rfl rfl rfl ?_
  refine q_Ru_seg (g2 := (302, [(4, .int 0), (3, .ref (βX 103)), (2, .ref (βM 64)), (1, .ref (βX 64)), (0, .ref 0)], [.ref (βX 103), .int (xs 2), .int (xs 1), .ref (βX 64)], H)) 1 (fun _ _ => rfl) ?_
  refine q_Ru_call (v := some (.int r)) (h2 := H2) rfl rfl c1 ?_
  show q_Ru _ _ _ (305, [(4, .int 0), (3, .ref (βX 103)), (2, .ref (βM 64)), (1, .ref (βX 64)), (0, .ref 0)], [.int r], H2) _
  refine q_Ru_seg (g2 := (313, [(5, .int r), (4, .int 0), (3, .ref (βX 103)), (2, .ref (βM 64)), (1, .ref (βX 64)), (0, .ref 0)], [.int 1, .ref 0, .ref (βM 64)], H2)) 6 (fun _ _ => rfl) ?_
  refine q_Ru_rsT (g2 := (314, [(5, .int r), (4, .int 0), (3, .ref (βX 103)), (2, .ref (βM 64)), (1, .ref (βX 64)), (0, .ref 0)], [.int (xs 1), .ref (βM 64)], H2)) rfl rfl rfl ?_
  refine q_Ru_seg (g2 := (319, [(5, .int r), (4, .int 0), (3, .ref (βX 103)), (2, .ref (βM 64)), (1, .ref (βX 64)), (0, .ref 0)], [.int 2, .ref 0, .int (xs 1), .ref (βM 64)], H2)) 4 (fun _ _ => rfl) ?_
  refine q_Ru_rsT (g2 := (320, [(5, .int r), (4, .int 0), (3, .ref (βX 103)), (2, .ref (βM 64)), (1, .ref (βX 64)), (0, .ref 0)], [.int (xs 2), .int (xs 1), .ref (βM 64)], H2)) rfl rfl rfl ?_
  refine q_Ru_call (v := some (.int b)) (h2 := H3) rfl (q_fv_at a1 rfl (Nat.zero_le 8)) c2 ?_
  show q_Ru _ _ _ (323, [(5, .int r), (4, .int 0), (3, .ref (βX 103)), (2, .ref (βM 64)), (1, .ref (βX 64)), (0, .ref 0)], [.int b], H3) _
  refine q_Ru_seg (g2 := (326, [(6, .int b), (5, .int r), (4, .int 0), (3, .ref (βX 103)), (2, .ref (βM 64)), (1, .ref (βX 64)), (0, .ref 0)], [.ref (βM 64)], H3)) 2 (fun _ _ => rfl) ?_
  refine q_Ru_call (v := some (.int r)) (h2 := H3) rfl (q_fv_at a2 rfl (Nat.zero_le 8)) (q_thrown a2 a3) ?_
  show q_Ru _ _ _ (329, [(6, .int b), (5, .int r), (4, .int 0), (3, .ref (βX 103)), (2, .ref (βM 64)), (1, .ref (βX 64)), (0, .ref 0)], [.int r], H3) _
  refine q_Ru_seg (g2 := (331, [(6, .int b), (5, .int r), (4, .int 0), (3, .ref (βX 103)), (2, .ref (βM 64)), (1, .ref (βX 64)), (0, .ref 0)], [.int r, .int r], H3)) 1 (fun _ _ => rfl) ?_
  refine q_Ru_rsT (g2 := (336, [(6, .int b), (5, .int r), (4, .int 0), (3, .ref (βX 103)), (2, .ref (βM 64)), (1, .ref (βX 64)), (0, .ref 0)], [], H3)) rfl rfl (decide_eq_true rfl) ?_
  refine q_Ru_seg (g2 := (338, [(6, .int b), (5, .int r), (4, .int 0), (3, .ref (βX 103)), (2, .ref (βM 64)), (1, .ref (βX 64)), (0, .ref 0)], [.int r], H3)) 1 (fun _ _ => rfl) ?_
  by_cases hr : r = 0
  · have hf9 := hf hr
    subst hr
    refine q_Ru_seg (g2 := (341, [(6, .int b), (5, .int 0), (4, .int 0), (3, .ref (βX 103)), (2, .ref (βM 64)), (1, .ref (βX 64)), (0, .ref 0)], [], H3)) 1 (fun _ _ => rfl) ?_
    refine q_Ru_seg (g2 := (343, [(6, .int b), (5, .int 0), (4, .int 0), (3, .ref (βX 103)), (2, .ref (βM 64)), (1, .ref (βX 64)), (0, .ref 0)], [.int 0, .ref (βX 103)], H3)) 2 (fun _ _ => rfl) ?_
    refine q_Ru_rsT (g2 := (344, [(6, .int b), (5, .int 0), (4, .int 0), (3, .ref (βX 103)), (2, .ref (βM 64)), (1, .ref (βX 64)), (0, .ref 0)], [.long (f 0)], H3)) rfl (q_lld_at a4) rfl ?_
    rw [hf9]
    refine q_Ru_seg (g2 := (348, [(6, .int b), (5, .int 0), (4, .int 0), (3, .ref (βX 103)), (2, .ref (βM 64)), (1, .ref (βX 64)), (0, .ref 0)], [.int (lg_cmp b.toInt64 b.toInt64)], H3)) 3 (fun _ _ => rfl) ?_
    rw [q_lcmp_rf]
    refine q_Ru_seg (g2 := (353, [(6, .int b), (5, .int 0), (4, .int 0), (3, .ref (βX 103)), (2, .ref (βM 64)), (1, .ref (βX 64)), (0, .ref 0)], [], H3)) 1 (fun _ _ => rfl) ?_
    refine q_Ru_seg (g2 := (2132, [(4, .int 4), (6, .int b), (5, .int 0), (3, .ref (βX 103)), (2, .ref (βM 64)), (1, .ref (βX 64)), (0, .ref 0)], [.int 1], H3)) 10 (fun _ _ => rfl) ?_
    exact q_Ru_ret rfl rfl
  · refine q_Ru_rsT (g2 := (353, [(6, .int b), (5, .int r), (4, .int 0), (3, .ref (βX 103)), (2, .ref (βM 64)), (1, .ref (βX 64)), (0, .ref 0)], [], H3)) rfl rfl (decide_eq_true hr) ?_
    refine q_Ru_seg (g2 := (2132, [(4, .int 4), (6, .int b), (5, .int r), (3, .ref (βX 103)), (2, .ref (βM 64)), (1, .ref (βX 64)), (0, .ref 0)], [.int 1], H3)) 10 (fun _ _ => rfl) ?_
    exact q_Ru_ret rfl rfl
theorem q_lw_pokeCartridge {βX βM : Nat → Nat} {H : q_H} (hT : q_tw βX βM H) (z : Nat) (xs : Nat → Int32) : ∃ h, q_Ru (q_TBs z 4 xs) 12 377 (356, [(4, .int 0), (3, .ref (βX 103)), (2, .ref (βM 64)), (1, .ref (βX 64)), (0, .ref 0)], [], H) (.inl (some (.int 1)), h) ∧ h.2.1 ≤ 600002 ∧ h.2.2 ≤ 7302231 := by
  obtain ⟨r, b, w, hX, hM, hw⟩ := q_op_pokeCartridge (xs 1) (xs 2) (xs 3)
  obtain ⟨H2, H3, f, fs, fs2, c1, c2, a1, a2, a3, a4, hf, n1, n2⟩ := q_tw_op hT hX hM hw (fun _ => rfl) z 4 xs
  refine ⟨H3, ?_, by omega, by omega⟩
  refine q_Ru_seg (g2 := (362, [(4, .int 0), (3, .ref (βX 103)), (2, .ref (βM 64)), (1, .ref (βX 64)), (0, .ref 0)], [.int 1, .ref 0, .ref (βX 64)], H)) 5 (fun _ _ => rfl) ?_
  refine q_Ru_rsT (g2 := (363, [(4, .int 0), (3, .ref (βX 103)), (2, .ref (βM 64)), (1, .ref (βX 64)), (0, .ref 0)], [.int (xs 1), .ref (βX 64)], H)) rfl rfl rfl ?_
  refine q_Ru_seg (g2 := (368, [(4, .int 0), (3, .ref (βX 103)), (2, .ref (βM 64)), (1, .ref (βX 64)), (0, .ref 0)], [.int 2, .ref 0, .int (xs 1), .ref (βX 64)], H)) 4 (fun _ _ => rfl) ?_
  refine q_Ru_rsT (g2 := (369, [(4, .int 0), (3, .ref (βX 103)), (2, .ref (βM 64)), (1, .ref (βX 64)), (0, .ref 0)], [.int (xs 2), .int (xs 1), .ref (βX 64)], H)) rfl rfl rfl ?_
  refine q_Ru_seg (g2 := (374, [(4, .int 0), (3, .ref (βX 103)), (2, .ref (βM 64)), (1, .ref (βX 64)), (0, .ref 0)], [.int 3, .ref 0, .int (xs 2), .int (xs 1), .ref (βX 64)], H)) 4 (fun _ _ => rfl) ?_
  refine q_Ru_rsT (g2 := (375, [(4, .int 0), (3, .ref (βX 103)), (2, .ref (βM 64)), (1, .ref (βX 64)), (0, .ref 0)], [.int (xs 3), .int (xs 2), .int (xs 1), .ref (βX 64)], H)) rfl rfl rfl ?_
  refine q_Ru_seg (g2 := (376, [(4, .int 0), (3, .ref (βX 103)), (2, .ref (βM 64)), (1, .ref (βX 64)), (0, .ref 0)], [.ref (βX 103), .int (xs 3), .int (xs 2), .int (xs 1), .ref (βX 64)], H)) 1 (fun _ _ => rfl) ?_
  refine q_Ru_call (v := some (.int r)) (h2 := H2) rfl rfl c1 ?_
  show q_Ru _ _ _ (379, [(4, .int 0), (3, .ref (βX 103)), (2, .ref (βM 64)), (1, .ref (βX 64)), (0, .ref 0)], [.int r], H2) _
  refine q_Ru_seg (g2 := (387, [(5, .int r), (4, .int 0), (3, .ref (βX 103)), (2, .ref (βM 64)), (1, .ref (βX 64)), (0, .ref 0)], [.int 1, .ref 0, .ref (βM 64)], H2)) 6 (fun _ _ => rfl) ?_
  refine q_Ru_rsT (g2 := (388, [(5, .int r), (4, .int 0), (3, .ref (βX 103)), (2, .ref (βM 64)), (1, .ref (βX 64)), (0, .ref 0)], [.int (xs 1), .ref (βM 64)], H2)) rfl rfl rfl ?_
  refine q_Ru_seg (g2 := (393, [(5, .int r), (4, .int 0), (3, .ref (βX 103)), (2, .ref (βM 64)), (1, .ref (βX 64)), (0, .ref 0)], [.int 2, .ref 0, .int (xs 1), .ref (βM 64)], H2)) 4 (fun _ _ => rfl) ?_
  refine q_Ru_rsT (g2 := (394, [(5, .int r), (4, .int 0), (3, .ref (βX 103)), (2, .ref (βM 64)), (1, .ref (βX 64)), (0, .ref 0)], [.int (xs 2), .int (xs 1), .ref (βM 64)], H2)) rfl rfl rfl ?_
  refine q_Ru_seg (g2 := (399, [(5, .int r), (4, .int 0), (3, .ref (βX 103)), (2, .ref (βM 64)), (1, .ref (βX 64)), (0, .ref 0)], [.int 3, .ref 0, .int (xs 2), .int (xs 1), .ref (βM 64)], H2)) 4 (fun _ _ => rfl) ?_
  refine q_Ru_rsT (g2 := (400, [(5, .int r), (4, .int 0), (3, .ref (βX 103)), (2, .ref (βM 64)), (1, .ref (βX 64)), (0, .ref 0)], [.int (xs 3), .int (xs 2), .int (xs 1), .ref (βM 64)], H2)) rfl rfl rfl ?_
  refine q_Ru_call (v := some (.int b)) (h2 := H3) rfl (q_fv_at a1 rfl (Nat.zero_le 8)) c2 ?_
  show q_Ru _ _ _ (403, [(5, .int r), (4, .int 0), (3, .ref (βX 103)), (2, .ref (βM 64)), (1, .ref (βX 64)), (0, .ref 0)], [.int b], H3) _
  refine q_Ru_seg (g2 := (406, [(6, .int b), (5, .int r), (4, .int 0), (3, .ref (βX 103)), (2, .ref (βM 64)), (1, .ref (βX 64)), (0, .ref 0)], [.ref (βM 64)], H3)) 2 (fun _ _ => rfl) ?_
  refine q_Ru_call (v := some (.int r)) (h2 := H3) rfl (q_fv_at a2 rfl (Nat.zero_le 8)) (q_thrown a2 a3) ?_
  show q_Ru _ _ _ (409, [(6, .int b), (5, .int r), (4, .int 0), (3, .ref (βX 103)), (2, .ref (βM 64)), (1, .ref (βX 64)), (0, .ref 0)], [.int r], H3) _
  refine q_Ru_seg (g2 := (411, [(6, .int b), (5, .int r), (4, .int 0), (3, .ref (βX 103)), (2, .ref (βM 64)), (1, .ref (βX 64)), (0, .ref 0)], [.int r, .int r], H3)) 1 (fun _ _ => rfl) ?_
  refine q_Ru_rsT (g2 := (416, [(6, .int b), (5, .int r), (4, .int 0), (3, .ref (βX 103)), (2, .ref (βM 64)), (1, .ref (βX 64)), (0, .ref 0)], [], H3)) rfl rfl (decide_eq_true rfl) ?_
  refine q_Ru_seg (g2 := (418, [(6, .int b), (5, .int r), (4, .int 0), (3, .ref (βX 103)), (2, .ref (βM 64)), (1, .ref (βX 64)), (0, .ref 0)], [.int r], H3)) 1 (fun _ _ => rfl) ?_
  by_cases hr : r = 0
  · have hf9 := hf hr
    subst hr
    refine q_Ru_seg (g2 := (421, [(6, .int b), (5, .int 0), (4, .int 0), (3, .ref (βX 103)), (2, .ref (βM 64)), (1, .ref (βX 64)), (0, .ref 0)], [], H3)) 1 (fun _ _ => rfl) ?_
    refine q_Ru_seg (g2 := (423, [(6, .int b), (5, .int 0), (4, .int 0), (3, .ref (βX 103)), (2, .ref (βM 64)), (1, .ref (βX 64)), (0, .ref 0)], [.int 0, .ref (βX 103)], H3)) 2 (fun _ _ => rfl) ?_
    refine q_Ru_rsT (g2 := (424, [(6, .int b), (5, .int 0), (4, .int 0), (3, .ref (βX 103)), (2, .ref (βM 64)), (1, .ref (βX 64)), (0, .ref 0)], [.long (f 0)], H3)) rfl (q_lld_at a4) rfl ?_
    rw [hf9]
    refine q_Ru_seg (g2 := (428, [(6, .int b), (5, .int 0), (4, .int 0), (3, .ref (βX 103)), (2, .ref (βM 64)), (1, .ref (βX 64)), (0, .ref 0)], [.int (lg_cmp b.toInt64 b.toInt64)], H3)) 3 (fun _ _ => rfl) ?_
    rw [q_lcmp_rf]
    refine q_Ru_seg (g2 := (433, [(6, .int b), (5, .int 0), (4, .int 0), (3, .ref (βX 103)), (2, .ref (βM 64)), (1, .ref (βX 64)), (0, .ref 0)], [], H3)) 1 (fun _ _ => rfl) ?_
    refine q_Ru_seg (g2 := (2132, [(4, .int 4), (6, .int b), (5, .int 0), (3, .ref (βX 103)), (2, .ref (βM 64)), (1, .ref (βX 64)), (0, .ref 0)], [.int 1], H3)) 10 (fun _ _ => rfl) ?_
    exact q_Ru_ret rfl rfl
  · refine q_Ru_rsT (g2 := (433, [(6, .int b), (5, .int r), (4, .int 0), (3, .ref (βX 103)), (2, .ref (βM 64)), (1, .ref (βX 64)), (0, .ref 0)], [], H3)) rfl rfl (decide_eq_true hr) ?_
    refine q_Ru_seg (g2 := (2132, [(4, .int 4), (6, .int b), (5, .int r), (3, .ref (βX 103)), (2, .ref (βM 64)), (1, .ref (βX 64)), (0, .ref 0)], [.int 1], H3)) 10 (fun _ _ => rfl) ?_
    exact q_Ru_ret rfl rfl
theorem q_lw_peek {βX βM : Nat → Nat} {H : q_H} (hT : q_tw βX βM H) (z : Nat) (xs : Nat → Int32) : ∃ h, q_Ru (q_TBs z 4 xs) 12 377 (436, [(4, .int 0), (3, .ref (βX 103)), (2, .ref (βM 64)), (1, .ref (βX 64)), (0, .ref 0)], [], H) (.inl (some (.int 1)), h) ∧ h.2.1 ≤ 600002 ∧ h.2.2 ≤ 7302231 := by
  obtain ⟨r, b, w, hX, hM, hw⟩ := q_op_peek (xs 1)
  obtain ⟨H2, H3, f, fs, fs2, c1, c2, a1, a2, a3, a4, hf, n1, n2⟩ := q_tw_op hT hX hM hw (fun _ => rfl) z 4 xs
  refine ⟨H3, ?_, by omega, by omega⟩
  refine q_Ru_seg (g2 := (442, [(4, .int 0), (3, .ref (βX 103)), (2, .ref (βM 64)), (1, .ref (βX 64)), (0, .ref 0)], [.int 1, .ref 0, .ref (βX 64)], H)) 5 (fun _ _ => rfl) ?_
  refine q_Ru_rsT (g2 := (443, [(4, .int 0), (3, .ref (βX 103)), (2, .ref (βM 64)), (1, .ref (βX 64)), (0, .ref 0)], [.int (xs 1), .ref (βX 64)], H)) rfl rfl rfl ?_
  refine q_Ru_seg (g2 := (444, [(4, .int 0), (3, .ref (βX 103)), (2, .ref (βM 64)), (1, .ref (βX 64)), (0, .ref 0)], [.ref (βX 103), .int (xs 1), .ref (βX 64)], H)) 1 (fun _ _ => rfl) ?_
  refine q_Ru_call (v := some (.int r)) (h2 := H2) rfl rfl c1 ?_
  show q_Ru _ _ _ (447, [(4, .int 0), (3, .ref (βX 103)), (2, .ref (βM 64)), (1, .ref (βX 64)), (0, .ref 0)], [.int r], H2) _
  refine q_Ru_seg (g2 := (455, [(5, .int r), (4, .int 0), (3, .ref (βX 103)), (2, .ref (βM 64)), (1, .ref (βX 64)), (0, .ref 0)], [.int 1, .ref 0, .ref (βM 64)], H2)) 6 (fun _ _ => rfl) ?_
  refine q_Ru_rsT (g2 := (456, [(5, .int r), (4, .int 0), (3, .ref (βX 103)), (2, .ref (βM 64)), (1, .ref (βX 64)), (0, .ref 0)], [.int (xs 1), .ref (βM 64)], H2)) rfl rfl rfl ?_
  refine q_Ru_call (v := some (.int b)) (h2 := H3) rfl (q_fv_at a1 rfl (Nat.zero_le 8)) c2 ?_
  show q_Ru _ _ _ (459, [(5, .int r), (4, .int 0), (3, .ref (βX 103)), (2, .ref (βM 64)), (1, .ref (βX 64)), (0, .ref 0)], [.int b], H3) _
  refine q_Ru_seg (g2 := (462, [(6, .int b), (5, .int r), (4, .int 0), (3, .ref (βX 103)), (2, .ref (βM 64)), (1, .ref (βX 64)), (0, .ref 0)], [.ref (βM 64)], H3)) 2 (fun _ _ => rfl) ?_
  refine q_Ru_call (v := some (.int r)) (h2 := H3) rfl (q_fv_at a2 rfl (Nat.zero_le 8)) (q_thrown a2 a3) ?_
  show q_Ru _ _ _ (465, [(6, .int b), (5, .int r), (4, .int 0), (3, .ref (βX 103)), (2, .ref (βM 64)), (1, .ref (βX 64)), (0, .ref 0)], [.int r], H3) _
  refine q_Ru_seg (g2 := (467, [(6, .int b), (5, .int r), (4, .int 0), (3, .ref (βX 103)), (2, .ref (βM 64)), (1, .ref (βX 64)), (0, .ref 0)], [.int r, .int r], H3)) 1 (fun _ _ => rfl) ?_
  refine q_Ru_rsT (g2 := (472, [(6, .int b), (5, .int r), (4, .int 0), (3, .ref (βX 103)), (2, .ref (βM 64)), (1, .ref (βX 64)), (0, .ref 0)], [], H3)) rfl rfl (decide_eq_true rfl) ?_
  refine q_Ru_seg (g2 := (474, [(6, .int b), (5, .int r), (4, .int 0), (3, .ref (βX 103)), (2, .ref (βM 64)), (1, .ref (βX 64)), (0, .ref 0)], [.int r], H3)) 1 (fun _ _ => rfl) ?_
  by_cases hr : r = 0
  · have hf9 := hf hr
    subst hr
    refine q_Ru_seg (g2 := (477, [(6, .int b), (5, .int 0), (4, .int 0), (3, .ref (βX 103)), (2, .ref (βM 64)), (1, .ref (βX 64)), (0, .ref 0)], [], H3)) 1 (fun _ _ => rfl) ?_
    refine q_Ru_seg (g2 := (479, [(6, .int b), (5, .int 0), (4, .int 0), (3, .ref (βX 103)), (2, .ref (βM 64)), (1, .ref (βX 64)), (0, .ref 0)], [.int 0, .ref (βX 103)], H3)) 2 (fun _ _ => rfl) ?_
    refine q_Ru_rsT (g2 := (480, [(6, .int b), (5, .int 0), (4, .int 0), (3, .ref (βX 103)), (2, .ref (βM 64)), (1, .ref (βX 64)), (0, .ref 0)], [.long (f 0)], H3)) rfl (q_lld_at a4) rfl ?_
    rw [hf9]
    refine q_Ru_seg (g2 := (484, [(6, .int b), (5, .int 0), (4, .int 0), (3, .ref (βX 103)), (2, .ref (βM 64)), (1, .ref (βX 64)), (0, .ref 0)], [.int (lg_cmp b.toInt64 b.toInt64)], H3)) 3 (fun _ _ => rfl) ?_
    rw [q_lcmp_rf]
    refine q_Ru_seg (g2 := (489, [(6, .int b), (5, .int 0), (4, .int 0), (3, .ref (βX 103)), (2, .ref (βM 64)), (1, .ref (βX 64)), (0, .ref 0)], [], H3)) 1 (fun _ _ => rfl) ?_
    refine q_Ru_seg (g2 := (2132, [(4, .int 4), (6, .int b), (5, .int 0), (3, .ref (βX 103)), (2, .ref (βM 64)), (1, .ref (βX 64)), (0, .ref 0)], [.int 1], H3)) 10 (fun _ _ => rfl) ?_
    exact q_Ru_ret rfl rfl
  · refine q_Ru_rsT (g2 := (489, [(6, .int b), (5, .int r), (4, .int 0), (3, .ref (βX 103)), (2, .ref (βM 64)), (1, .ref (βX 64)), (0, .ref 0)], [], H3)) rfl rfl (decide_eq_true hr) ?_
    refine q_Ru_seg (g2 := (2132, [(4, .int 4), (6, .int b), (5, .int r), (3, .ref (βX 103)), (2, .ref (βM 64)), (1, .ref (βX 64)), (0, .ref 0)], [.int 1], H3)) 10 (fun _ _ => rfl) ?_
    exact q_Ru_ret rfl rfl
theorem q_lw_ram {βX βM : Nat → Nat} {H : q_H} (hT : q_tw βX βM H) (z : Nat) (xs : Nat → Int32) : ∃ h, q_Ru (q_TBs z 4 xs) 12 377 (492, [(4, .int 0), (3, .ref (βX 103)), (2, .ref (βM 64)), (1, .ref (βX 64)), (0, .ref 0)], [], H) (.inl (some (.int 1)), h) ∧ h.2.1 ≤ 600002 ∧ h.2.2 ≤ 7302231 := by
  obtain ⟨r, b, w, hX, hM, hw⟩ := q_op_ram (xs 1)
  obtain ⟨H2, H3, f, fs, fs2, c1, c2, a1, a2, a3, a4, hf, n1, n2⟩ := q_tw_op hT hX hM hw (fun _ => rfl) z 4 xs
  refine ⟨H3, ?_, by omega, by omega⟩
  refine q_Ru_seg (g2 := (498, [(4, .int 0), (3, .ref (βX 103)), (2, .ref (βM 64)), (1, .ref (βX 64)), (0, .ref 0)], [.int 1, .ref 0, .ref (βX 64)], H)) 5 (fun _ _ => rfl) ?_
  refine q_Ru_rsT (g2 := (499, [(4, .int 0), (3, .ref (βX 103)), (2, .ref (βM 64)), (1, .ref (βX 64)), (0, .ref 0)], [.int (xs 1), .ref (βX 64)], H)) rfl rfl rfl ?_
  refine q_Ru_seg (g2 := (500, [(4, .int 0), (3, .ref (βX 103)), (2, .ref (βM 64)), (1, .ref (βX 64)), (0, .ref 0)], [.ref (βX 103), .int (xs 1), .ref (βX 64)], H)) 1 (fun _ _ => rfl) ?_
  refine q_Ru_call (v := some (.int r)) (h2 := H2) rfl rfl c1 ?_
  show q_Ru _ _ _ (503, [(4, .int 0), (3, .ref (βX 103)), (2, .ref (βM 64)), (1, .ref (βX 64)), (0, .ref 0)], [.int r], H2) _
  refine q_Ru_seg (g2 := (511, [(5, .int r), (4, .int 0), (3, .ref (βX 103)), (2, .ref (βM 64)), (1, .ref (βX 64)), (0, .ref 0)], [.int 1, .ref 0, .ref (βM 64)], H2)) 6 (fun _ _ => rfl) ?_
  refine q_Ru_rsT (g2 := (512, [(5, .int r), (4, .int 0), (3, .ref (βX 103)), (2, .ref (βM 64)), (1, .ref (βX 64)), (0, .ref 0)], [.int (xs 1), .ref (βM 64)], H2)) rfl rfl rfl ?_
  refine q_Ru_call (v := some (.int b)) (h2 := H3) rfl (q_fv_at a1 rfl (Nat.zero_le 8)) c2 ?_
  show q_Ru _ _ _ (515, [(5, .int r), (4, .int 0), (3, .ref (βX 103)), (2, .ref (βM 64)), (1, .ref (βX 64)), (0, .ref 0)], [.int b], H3) _
  refine q_Ru_seg (g2 := (518, [(6, .int b), (5, .int r), (4, .int 0), (3, .ref (βX 103)), (2, .ref (βM 64)), (1, .ref (βX 64)), (0, .ref 0)], [.ref (βM 64)], H3)) 2 (fun _ _ => rfl) ?_
  refine q_Ru_call (v := some (.int r)) (h2 := H3) rfl (q_fv_at a2 rfl (Nat.zero_le 8)) (q_thrown a2 a3) ?_
  show q_Ru _ _ _ (521, [(6, .int b), (5, .int r), (4, .int 0), (3, .ref (βX 103)), (2, .ref (βM 64)), (1, .ref (βX 64)), (0, .ref 0)], [.int r], H3) _
  refine q_Ru_seg (g2 := (523, [(6, .int b), (5, .int r), (4, .int 0), (3, .ref (βX 103)), (2, .ref (βM 64)), (1, .ref (βX 64)), (0, .ref 0)], [.int r, .int r], H3)) 1 (fun _ _ => rfl) ?_
  refine q_Ru_rsT (g2 := (528, [(6, .int b), (5, .int r), (4, .int 0), (3, .ref (βX 103)), (2, .ref (βM 64)), (1, .ref (βX 64)), (0, .ref 0)], [], H3)) rfl rfl (decide_eq_true rfl) ?_
  refine q_Ru_seg (g2 := (530, [(6, .int b), (5, .int r), (4, .int 0), (3, .ref (βX 103)), (2, .ref (βM 64)), (1, .ref (βX 64)), (0, .ref 0)], [.int r], H3)) 1 (fun _ _ => rfl) ?_
  by_cases hr : r = 0
  · have hf9 := hf hr
    subst hr
    refine q_Ru_seg (g2 := (533, [(6, .int b), (5, .int 0), (4, .int 0), (3, .ref (βX 103)), (2, .ref (βM 64)), (1, .ref (βX 64)), (0, .ref 0)], [], H3)) 1 (fun _ _ => rfl) ?_
    refine q_Ru_seg (g2 := (535, [(6, .int b), (5, .int 0), (4, .int 0), (3, .ref (βX 103)), (2, .ref (βM 64)), (1, .ref (βX 64)), (0, .ref 0)], [.int 0, .ref (βX 103)], H3)) 2 (fun _ _ => rfl) ?_
    refine q_Ru_rsT (g2 := (536, [(6, .int b), (5, .int 0), (4, .int 0), (3, .ref (βX 103)), (2, .ref (βM 64)), (1, .ref (βX 64)), (0, .ref 0)], [.long (f 0)], H3)) rfl (q_lld_at a4) rfl ?_
    rw [hf9]
    refine q_Ru_seg (g2 := (540, [(6, .int b), (5, .int 0), (4, .int 0), (3, .ref (βX 103)), (2, .ref (βM 64)), (1, .ref (βX 64)), (0, .ref 0)], [.int (lg_cmp b.toInt64 b.toInt64)], H3)) 3 (fun _ _ => rfl) ?_
    rw [q_lcmp_rf]
    refine q_Ru_seg (g2 := (545, [(6, .int b), (5, .int 0), (4, .int 0), (3, .ref (βX 103)), (2, .ref (βM 64)), (1, .ref (βX 64)), (0, .ref 0)], [], H3)) 1 (fun _ _ => rfl) ?_
    refine q_Ru_seg (g2 := (2132, [(4, .int 4), (6, .int b), (5, .int 0), (3, .ref (βX 103)), (2, .ref (βM 64)), (1, .ref (βX 64)), (0, .ref 0)], [.int 1], H3)) 10 (fun _ _ => rfl) ?_
    exact q_Ru_ret rfl rfl
  · refine q_Ru_rsT (g2 := (545, [(6, .int b), (5, .int r), (4, .int 0), (3, .ref (βX 103)), (2, .ref (βM 64)), (1, .ref (βX 64)), (0, .ref 0)], [], H3)) rfl rfl (decide_eq_true hr) ?_
    refine q_Ru_seg (g2 := (2132, [(4, .int 4), (6, .int b), (5, .int r), (3, .ref (βX 103)), (2, .ref (βM 64)), (1, .ref (βX 64)), (0, .ref 0)], [.int 1], H3)) 10 (fun _ _ => rfl) ?_
    exact q_Ru_ret rfl rfl
theorem q_lw_assemble {βX βM : Nat → Nat} {H : q_H} (hT : q_tw βX βM H) (z : Nat) (xs : Nat → Int32) : ∃ h, q_Ru (q_TBs z 4 xs) 12 377 (548, [(4, .int 0), (3, .ref (βX 103)), (2, .ref (βM 64)), (1, .ref (βX 64)), (0, .ref 0)], [], H) (.inl (some (.int 1)), h) ∧ h.2.1 ≤ 600002 ∧ h.2.2 ≤ 7302231 := by
  obtain ⟨r, b, w, hX, hM, hw⟩ := q_op_assemble (xs 1) (xs 2) (xs 3)
  obtain ⟨H2, H3, f, fs, fs2, c1, c2, a1, a2, a3, a4, hf, n1, n2⟩ := q_tw_op hT hX hM hw (fun _ => rfl) z 4 xs
  refine ⟨H3, ?_, by omega, by omega⟩
  refine q_Ru_seg (g2 := (554, [(4, .int 0), (3, .ref (βX 103)), (2, .ref (βM 64)), (1, .ref (βX 64)), (0, .ref 0)], [.int 1, .ref 0, .ref (βX 64)], H)) 5 (fun _ _ => rfl) ?_
  refine q_Ru_rsT (g2 := (555, [(4, .int 0), (3, .ref (βX 103)), (2, .ref (βM 64)), (1, .ref (βX 64)), (0, .ref 0)], [.int (xs 1), .ref (βX 64)], H)) rfl rfl rfl ?_
  refine q_Ru_seg (g2 := (560, [(4, .int 0), (3, .ref (βX 103)), (2, .ref (βM 64)), (1, .ref (βX 64)), (0, .ref 0)], [.int 2, .ref 0, .int (xs 1), .ref (βX 64)], H)) 4 (fun _ _ => rfl) ?_
  refine q_Ru_rsT (g2 := (561, [(4, .int 0), (3, .ref (βX 103)), (2, .ref (βM 64)), (1, .ref (βX 64)), (0, .ref 0)], [.int (xs 2), .int (xs 1), .ref (βX 64)], H)) rfl rfl rfl ?_
  refine q_Ru_seg (g2 := (566, [(4, .int 0), (3, .ref (βX 103)), (2, .ref (βM 64)), (1, .ref (βX 64)), (0, .ref 0)], [.int 3, .ref 0, .int (xs 2), .int (xs 1), .ref (βX 64)], H)) 4 (fun _ _ => rfl) ?_
  refine q_Ru_rsT (g2 := (567, [(4, .int 0), (3, .ref (βX 103)), (2, .ref (βM 64)), (1, .ref (βX 64)), (0, .ref 0)], [.int (xs 3), .int (xs 2), .int (xs 1), .ref (βX 64)], H)) rfl rfl rfl ?_
  refine q_Ru_seg (g2 := (568, [(4, .int 0), (3, .ref (βX 103)), (2, .ref (βM 64)), (1, .ref (βX 64)), (0, .ref 0)], [.ref (βX 103), .int (xs 3), .int (xs 2), .int (xs 1), .ref (βX 64)], H)) 1 (fun _ _ => rfl) ?_
  refine q_Ru_call (v := some (.int r)) (h2 := H2) rfl rfl c1 ?_
  show q_Ru _ _ _ (571, [(4, .int 0), (3, .ref (βX 103)), (2, .ref (βM 64)), (1, .ref (βX 64)), (0, .ref 0)], [.int r], H2) _
  refine q_Ru_seg (g2 := (579, [(5, .int r), (4, .int 0), (3, .ref (βX 103)), (2, .ref (βM 64)), (1, .ref (βX 64)), (0, .ref 0)], [.int 1, .ref 0, .ref (βM 64)], H2)) 6 (fun _ _ => rfl) ?_
  refine q_Ru_rsT (g2 := (580, [(5, .int r), (4, .int 0), (3, .ref (βX 103)), (2, .ref (βM 64)), (1, .ref (βX 64)), (0, .ref 0)], [.int (xs 1), .ref (βM 64)], H2)) rfl rfl rfl ?_
  refine q_Ru_seg (g2 := (585, [(5, .int r), (4, .int 0), (3, .ref (βX 103)), (2, .ref (βM 64)), (1, .ref (βX 64)), (0, .ref 0)], [.int 2, .ref 0, .int (xs 1), .ref (βM 64)], H2)) 4 (fun _ _ => rfl) ?_
  refine q_Ru_rsT (g2 := (586, [(5, .int r), (4, .int 0), (3, .ref (βX 103)), (2, .ref (βM 64)), (1, .ref (βX 64)), (0, .ref 0)], [.int (xs 2), .int (xs 1), .ref (βM 64)], H2)) rfl rfl rfl ?_
  refine q_Ru_seg (g2 := (591, [(5, .int r), (4, .int 0), (3, .ref (βX 103)), (2, .ref (βM 64)), (1, .ref (βX 64)), (0, .ref 0)], [.int 3, .ref 0, .int (xs 2), .int (xs 1), .ref (βM 64)], H2)) 4 (fun _ _ => rfl) ?_
  refine q_Ru_rsT (g2 := (592, [(5, .int r), (4, .int 0), (3, .ref (βX 103)), (2, .ref (βM 64)), (1, .ref (βX 64)), (0, .ref 0)], [.int (xs 3), .int (xs 2), .int (xs 1), .ref (βM 64)], H2)) rfl rfl rfl ?_
  refine q_Ru_call (v := some (.int b)) (h2 := H3) rfl (q_fv_at a1 rfl (Nat.zero_le 8)) c2 ?_
  show q_Ru _ _ _ (595, [(5, .int r), (4, .int 0), (3, .ref (βX 103)), (2, .ref (βM 64)), (1, .ref (βX 64)), (0, .ref 0)], [.int b], H3) _
  refine q_Ru_seg (g2 := (598, [(6, .int b), (5, .int r), (4, .int 0), (3, .ref (βX 103)), (2, .ref (βM 64)), (1, .ref (βX 64)), (0, .ref 0)], [.ref (βM 64)], H3)) 2 (fun _ _ => rfl) ?_
  refine q_Ru_call (v := some (.int r)) (h2 := H3) rfl (q_fv_at a2 rfl (Nat.zero_le 8)) (q_thrown a2 a3) ?_
  show q_Ru _ _ _ (601, [(6, .int b), (5, .int r), (4, .int 0), (3, .ref (βX 103)), (2, .ref (βM 64)), (1, .ref (βX 64)), (0, .ref 0)], [.int r], H3) _
  refine q_Ru_seg (g2 := (603, [(6, .int b), (5, .int r), (4, .int 0), (3, .ref (βX 103)), (2, .ref (βM 64)), (1, .ref (βX 64)), (0, .ref 0)], [.int r, .int r], H3)) 1 (fun _ _ => rfl) ?_
  refine q_Ru_rsT (g2 := (608, [(6, .int b), (5, .int r), (4, .int 0), (3, .ref (βX 103)), (2, .ref (βM 64)), (1, .ref (βX 64)), (0, .ref 0)], [], H3)) rfl rfl (decide_eq_true rfl) ?_
  refine q_Ru_seg (g2 := (610, [(6, .int b), (5, .int r), (4, .int 0), (3, .ref (βX 103)), (2, .ref (βM 64)), (1, .ref (βX 64)), (0, .ref 0)], [.int r], H3)) 1 (fun _ _ => rfl) ?_
  by_cases hr : r = 0
  · have hf9 := hf hr
    subst hr
    refine q_Ru_seg (g2 := (613, [(6, .int b), (5, .int 0), (4, .int 0), (3, .ref (βX 103)), (2, .ref (βM 64)), (1, .ref (βX 64)), (0, .ref 0)], [], H3)) 1 (fun _ _ => rfl) ?_
    refine q_Ru_seg (g2 := (615, [(6, .int b), (5, .int 0), (4, .int 0), (3, .ref (βX 103)), (2, .ref (βM 64)), (1, .ref (βX 64)), (0, .ref 0)], [.int 0, .ref (βX 103)], H3)) 2 (fun _ _ => rfl) ?_
    refine q_Ru_rsT (g2 := (616, [(6, .int b), (5, .int 0), (4, .int 0), (3, .ref (βX 103)), (2, .ref (βM 64)), (1, .ref (βX 64)), (0, .ref 0)], [.long (f 0)], H3)) rfl (q_lld_at a4) rfl ?_
    rw [hf9]
    refine q_Ru_seg (g2 := (620, [(6, .int b), (5, .int 0), (4, .int 0), (3, .ref (βX 103)), (2, .ref (βM 64)), (1, .ref (βX 64)), (0, .ref 0)], [.int (lg_cmp b.toInt64 b.toInt64)], H3)) 3 (fun _ _ => rfl) ?_
    rw [q_lcmp_rf]
    refine q_Ru_seg (g2 := (625, [(6, .int b), (5, .int 0), (4, .int 0), (3, .ref (βX 103)), (2, .ref (βM 64)), (1, .ref (βX 64)), (0, .ref 0)], [], H3)) 1 (fun _ _ => rfl) ?_
    refine q_Ru_seg (g2 := (2132, [(4, .int 4), (6, .int b), (5, .int 0), (3, .ref (βX 103)), (2, .ref (βM 64)), (1, .ref (βX 64)), (0, .ref 0)], [.int 1], H3)) 10 (fun _ _ => rfl) ?_
    exact q_Ru_ret rfl rfl
  · refine q_Ru_rsT (g2 := (625, [(6, .int b), (5, .int r), (4, .int 0), (3, .ref (βX 103)), (2, .ref (βM 64)), (1, .ref (βX 64)), (0, .ref 0)], [], H3)) rfl rfl (decide_eq_true hr) ?_
    refine q_Ru_seg (g2 := (2132, [(4, .int 4), (6, .int b), (5, .int r), (3, .ref (βX 103)), (2, .ref (βM 64)), (1, .ref (βX 64)), (0, .ref 0)], [.int 1], H3)) 10 (fun _ _ => rfl) ?_
    exact q_Ru_ret rfl rfl
theorem q_lw_writeLine {βX βM : Nat → Nat} {H : q_H} (hT : q_tw βX βM H) (z : Nat) (hz : z = 98 ∨ z = 99) (xs : Nat → Int32) : ∃ h, q_Ru (q_TBs z 4 xs) 12 377 (628, [(4, .int 0), (3, .ref (βX 103)), (2, .ref (βM 64)), (1, .ref (βX 64)), (0, .ref 0)], [], H) (.inl (some (.int 1)), h) ∧ h.2.1 ≤ 600002 ∧ h.2.2 ≤ 7302231 := by
  obtain ⟨r, b, w, hX, hM, hw⟩ := q_op_writeLine z hz 4 xs (xs 1)
  obtain ⟨H2, H3, f, fs, fs2, c1, c2, a1, a2, a3, a4, hf, n1, n2⟩ := q_tw_opT hT z 4 xs hX hM hw (fun _ => rfl)
  refine ⟨H3, ?_, by omega, by omega⟩
  refine q_Ru_seg (g2 := (634, [(4, .int 0), (3, .ref (βX 103)), (2, .ref (βM 64)), (1, .ref (βX 64)), (0, .ref 0)], [.int 1, .ref 0, .ref (βX 64)], H)) 5 (fun _ _ => rfl) ?_
  refine q_Ru_rsT (g2 := (635, [(4, .int 0), (3, .ref (βX 103)), (2, .ref (βM 64)), (1, .ref (βX 64)), (0, .ref 0)], [.int (xs 1), .ref (βX 64)], H)) rfl rfl rfl ?_
  refine q_Ru_seg (g2 := (636, [(4, .int 0), (3, .ref (βX 103)), (2, .ref (βM 64)), (1, .ref (βX 64)), (0, .ref 0)], [.ref (βX 103), .int (xs 1), .ref (βX 64)], H)) 1 (fun _ _ => rfl) ?_
  refine q_Ru_call (v := some (.int r)) (h2 := H2) rfl rfl c1 ?_
  show q_Ru _ _ _ (639, [(4, .int 0), (3, .ref (βX 103)), (2, .ref (βM 64)), (1, .ref (βX 64)), (0, .ref 0)], [.int r], H2) _
  refine q_Ru_seg (g2 := (647, [(5, .int r), (4, .int 0), (3, .ref (βX 103)), (2, .ref (βM 64)), (1, .ref (βX 64)), (0, .ref 0)], [.int 1, .ref 0, .ref (βM 64)], H2)) 6 (fun _ _ => rfl) ?_
  refine q_Ru_rsT (g2 := (648, [(5, .int r), (4, .int 0), (3, .ref (βX 103)), (2, .ref (βM 64)), (1, .ref (βX 64)), (0, .ref 0)], [.int (xs 1), .ref (βM 64)], H2)) rfl rfl rfl ?_
  refine q_Ru_call (v := some (.int b)) (h2 := H3) rfl (q_fv_at a1 rfl (Nat.zero_le 8)) c2 ?_
  show q_Ru _ _ _ (651, [(5, .int r), (4, .int 0), (3, .ref (βX 103)), (2, .ref (βM 64)), (1, .ref (βX 64)), (0, .ref 0)], [.int b], H3) _
  refine q_Ru_seg (g2 := (654, [(6, .int b), (5, .int r), (4, .int 0), (3, .ref (βX 103)), (2, .ref (βM 64)), (1, .ref (βX 64)), (0, .ref 0)], [.ref (βM 64)], H3)) 2 (fun _ _ => rfl) ?_
  refine q_Ru_call (v := some (.int r)) (h2 := H3) rfl (q_fv_at a2 rfl (Nat.zero_le 8)) (q_thrown a2 a3) ?_
  show q_Ru _ _ _ (657, [(6, .int b), (5, .int r), (4, .int 0), (3, .ref (βX 103)), (2, .ref (βM 64)), (1, .ref (βX 64)), (0, .ref 0)], [.int r], H3) _
  refine q_Ru_seg (g2 := (659, [(6, .int b), (5, .int r), (4, .int 0), (3, .ref (βX 103)), (2, .ref (βM 64)), (1, .ref (βX 64)), (0, .ref 0)], [.int r, .int r], H3)) 1 (fun _ _ => rfl) ?_
  refine q_Ru_rsT (g2 := (664, [(6, .int b), (5, .int r), (4, .int 0), (3, .ref (βX 103)), (2, .ref (βM 64)), (1, .ref (βX 64)), (0, .ref 0)], [], H3)) rfl rfl (decide_eq_true rfl) ?_
  refine q_Ru_seg (g2 := (666, [(6, .int b), (5, .int r), (4, .int 0), (3, .ref (βX 103)), (2, .ref (βM 64)), (1, .ref (βX 64)), (0, .ref 0)], [.int r], H3)) 1 (fun _ _ => rfl) ?_
  by_cases hr : r = 0
  · have hf9 := hf hr
    subst hr
    refine q_Ru_seg (g2 := (669, [(6, .int b), (5, .int 0), (4, .int 0), (3, .ref (βX 103)), (2, .ref (βM 64)), (1, .ref (βX 64)), (0, .ref 0)], [], H3)) 1 (fun _ _ => rfl) ?_
    refine q_Ru_seg (g2 := (671, [(6, .int b), (5, .int 0), (4, .int 0), (3, .ref (βX 103)), (2, .ref (βM 64)), (1, .ref (βX 64)), (0, .ref 0)], [.int 0, .ref (βX 103)], H3)) 2 (fun _ _ => rfl) ?_
    refine q_Ru_rsT (g2 := (672, [(6, .int b), (5, .int 0), (4, .int 0), (3, .ref (βX 103)), (2, .ref (βM 64)), (1, .ref (βX 64)), (0, .ref 0)], [.long (f 0)], H3)) rfl (q_lld_at a4) rfl ?_
    rw [hf9]
    refine q_Ru_seg (g2 := (676, [(6, .int b), (5, .int 0), (4, .int 0), (3, .ref (βX 103)), (2, .ref (βM 64)), (1, .ref (βX 64)), (0, .ref 0)], [.int (lg_cmp b.toInt64 b.toInt64)], H3)) 3 (fun _ _ => rfl) ?_
    rw [q_lcmp_rf]
    refine q_Ru_seg (g2 := (681, [(6, .int b), (5, .int 0), (4, .int 0), (3, .ref (βX 103)), (2, .ref (βM 64)), (1, .ref (βX 64)), (0, .ref 0)], [], H3)) 1 (fun _ _ => rfl) ?_
    refine q_Ru_seg (g2 := (2132, [(4, .int 4), (6, .int b), (5, .int 0), (3, .ref (βX 103)), (2, .ref (βM 64)), (1, .ref (βX 64)), (0, .ref 0)], [.int 1], H3)) 10 (fun _ _ => rfl) ?_
    exact q_Ru_ret rfl rfl
  · refine q_Ru_rsT (g2 := (681, [(6, .int b), (5, .int r), (4, .int 0), (3, .ref (βX 103)), (2, .ref (βM 64)), (1, .ref (βX 64)), (0, .ref 0)], [], H3)) rfl rfl (decide_eq_true hr) ?_
    refine q_Ru_seg (g2 := (2132, [(4, .int 4), (6, .int b), (5, .int r), (3, .ref (βX 103)), (2, .ref (βM 64)), (1, .ref (βX 64)), (0, .ref 0)], [.int 1], H3)) 10 (fun _ _ => rfl) ?_
    exact q_Ru_ret rfl rfl
theorem q_lw_lineAt {βX βM : Nat → Nat} {H : q_H} (hT : q_tw βX βM H) (z : Nat) (xs : Nat → Int32) : ∃ h, q_Ru (q_TBs z 4 xs) 12 377 (684, [(4, .int 0), (3, .ref (βX 103)), (2, .ref (βM 64)), (1, .ref (βX 64)), (0, .ref 0)], [], H) (.inl (some (.int 1)), h) ∧ h.2.1 ≤ 600002 ∧ h.2.2 ≤ 7302231 := by
  obtain ⟨r, b, w, hX, hM, hw⟩ := q_op_lineAt (xs 1)
  obtain ⟨H2, H3, f, fs, fs2, c1, c2, a1, a2, a3, a4, hf, n1, n2⟩ := q_tw_op hT hX hM hw (fun _ => rfl) z 4 xs
  refine ⟨H3, ?_, by omega, by omega⟩
  refine q_Ru_seg (g2 := (690, [(4, .int 0), (3, .ref (βX 103)), (2, .ref (βM 64)), (1, .ref (βX 64)), (0, .ref 0)], [.int 1, .ref 0, .ref (βX 64)], H)) 5 (fun _ _ => rfl) ?_
  refine q_Ru_rsT (g2 := (691, [(4, .int 0), (3, .ref (βX 103)), (2, .ref (βM 64)), (1, .ref (βX 64)), (0, .ref 0)], [.int (xs 1), .ref (βX 64)], H)) rfl rfl rfl ?_
  refine q_Ru_seg (g2 := (692, [(4, .int 0), (3, .ref (βX 103)), (2, .ref (βM 64)), (1, .ref (βX 64)), (0, .ref 0)], [.ref (βX 103), .int (xs 1), .ref (βX 64)], H)) 1 (fun _ _ => rfl) ?_
  refine q_Ru_call (v := some (.int r)) (h2 := H2) rfl rfl c1 ?_
  show q_Ru _ _ _ (695, [(4, .int 0), (3, .ref (βX 103)), (2, .ref (βM 64)), (1, .ref (βX 64)), (0, .ref 0)], [.int r], H2) _
  refine q_Ru_seg (g2 := (703, [(5, .int r), (4, .int 0), (3, .ref (βX 103)), (2, .ref (βM 64)), (1, .ref (βX 64)), (0, .ref 0)], [.int 1, .ref 0, .ref (βM 64)], H2)) 6 (fun _ _ => rfl) ?_
  refine q_Ru_rsT (g2 := (704, [(5, .int r), (4, .int 0), (3, .ref (βX 103)), (2, .ref (βM 64)), (1, .ref (βX 64)), (0, .ref 0)], [.int (xs 1), .ref (βM 64)], H2)) rfl rfl rfl ?_
  refine q_Ru_call (v := some (.int b)) (h2 := H3) rfl (q_fv_at a1 rfl (Nat.zero_le 8)) c2 ?_
  show q_Ru _ _ _ (707, [(5, .int r), (4, .int 0), (3, .ref (βX 103)), (2, .ref (βM 64)), (1, .ref (βX 64)), (0, .ref 0)], [.int b], H3) _
  refine q_Ru_seg (g2 := (710, [(6, .int b), (5, .int r), (4, .int 0), (3, .ref (βX 103)), (2, .ref (βM 64)), (1, .ref (βX 64)), (0, .ref 0)], [.ref (βM 64)], H3)) 2 (fun _ _ => rfl) ?_
  refine q_Ru_call (v := some (.int r)) (h2 := H3) rfl (q_fv_at a2 rfl (Nat.zero_le 8)) (q_thrown a2 a3) ?_
  show q_Ru _ _ _ (713, [(6, .int b), (5, .int r), (4, .int 0), (3, .ref (βX 103)), (2, .ref (βM 64)), (1, .ref (βX 64)), (0, .ref 0)], [.int r], H3) _
  refine q_Ru_seg (g2 := (715, [(6, .int b), (5, .int r), (4, .int 0), (3, .ref (βX 103)), (2, .ref (βM 64)), (1, .ref (βX 64)), (0, .ref 0)], [.int r, .int r], H3)) 1 (fun _ _ => rfl) ?_
  refine q_Ru_rsT (g2 := (720, [(6, .int b), (5, .int r), (4, .int 0), (3, .ref (βX 103)), (2, .ref (βM 64)), (1, .ref (βX 64)), (0, .ref 0)], [], H3)) rfl rfl (decide_eq_true rfl) ?_
  refine q_Ru_seg (g2 := (722, [(6, .int b), (5, .int r), (4, .int 0), (3, .ref (βX 103)), (2, .ref (βM 64)), (1, .ref (βX 64)), (0, .ref 0)], [.int r], H3)) 1 (fun _ _ => rfl) ?_
  by_cases hr : r = 0
  · have hf9 := hf hr
    subst hr
    refine q_Ru_seg (g2 := (725, [(6, .int b), (5, .int 0), (4, .int 0), (3, .ref (βX 103)), (2, .ref (βM 64)), (1, .ref (βX 64)), (0, .ref 0)], [], H3)) 1 (fun _ _ => rfl) ?_
    refine q_Ru_seg (g2 := (727, [(6, .int b), (5, .int 0), (4, .int 0), (3, .ref (βX 103)), (2, .ref (βM 64)), (1, .ref (βX 64)), (0, .ref 0)], [.int 0, .ref (βX 103)], H3)) 2 (fun _ _ => rfl) ?_
    refine q_Ru_rsT (g2 := (728, [(6, .int b), (5, .int 0), (4, .int 0), (3, .ref (βX 103)), (2, .ref (βM 64)), (1, .ref (βX 64)), (0, .ref 0)], [.long (f 0)], H3)) rfl (q_lld_at a4) rfl ?_
    rw [hf9]
    refine q_Ru_seg (g2 := (732, [(6, .int b), (5, .int 0), (4, .int 0), (3, .ref (βX 103)), (2, .ref (βM 64)), (1, .ref (βX 64)), (0, .ref 0)], [.int (lg_cmp b.toInt64 b.toInt64)], H3)) 3 (fun _ _ => rfl) ?_
    rw [q_lcmp_rf]
    refine q_Ru_seg (g2 := (737, [(6, .int b), (5, .int 0), (4, .int 0), (3, .ref (βX 103)), (2, .ref (βM 64)), (1, .ref (βX 64)), (0, .ref 0)], [], H3)) 1 (fun _ _ => rfl) ?_
    refine q_Ru_seg (g2 := (2132, [(4, .int 4), (6, .int b), (5, .int 0), (3, .ref (βX 103)), (2, .ref (βM 64)), (1, .ref (βX 64)), (0, .ref 0)], [.int 1], H3)) 10 (fun _ _ => rfl) ?_
    exact q_Ru_ret rfl rfl
  · refine q_Ru_rsT (g2 := (737, [(6, .int b), (5, .int r), (4, .int 0), (3, .ref (βX 103)), (2, .ref (βM 64)), (1, .ref (βX 64)), (0, .ref 0)], [], H3)) rfl rfl (decide_eq_true hr) ?_
    refine q_Ru_seg (g2 := (2132, [(4, .int 4), (6, .int b), (5, .int r), (3, .ref (βX 103)), (2, .ref (βM 64)), (1, .ref (βX 64)), (0, .ref 0)], [.int 1], H3)) 10 (fun _ _ => rfl) ?_
    exact q_Ru_ret rfl rfl
theorem q_lw_compare {βX βM : Nat → Nat} {H : q_H} (hT : q_tw βX βM H) (z : Nat) (xs : Nat → Int32) : ∃ h, q_Ru (q_TBs z 4 xs) 12 377 (740, [(4, .int 0), (3, .ref (βX 103)), (2, .ref (βM 64)), (1, .ref (βX 64)), (0, .ref 0)], [], H) (.inl (some (.int 1)), h) ∧ h.2.1 ≤ 600002 ∧ h.2.2 ≤ 7302231 := by
  obtain ⟨r, b, w, hX, hM, hw⟩ := q_op_compare (xs 1) (xs 2) (xs 3)
  obtain ⟨H2, H3, f, fs, fs2, c1, c2, a1, a2, a3, a4, hf, n1, n2⟩ := q_tw_op hT hX hM hw (fun _ => rfl) z 4 xs
  refine ⟨H3, ?_, by omega, by omega⟩
  refine q_Ru_seg (g2 := (746, [(4, .int 0), (3, .ref (βX 103)), (2, .ref (βM 64)), (1, .ref (βX 64)), (0, .ref 0)], [.int 1, .ref 0, .ref (βX 64)], H)) 5 (fun _ _ => rfl) ?_
  refine q_Ru_rsT (g2 := (747, [(4, .int 0), (3, .ref (βX 103)), (2, .ref (βM 64)), (1, .ref (βX 64)), (0, .ref 0)], [.int (xs 1), .ref (βX 64)], H)) rfl rfl rfl ?_
  refine q_Ru_seg (g2 := (752, [(4, .int 0), (3, .ref (βX 103)), (2, .ref (βM 64)), (1, .ref (βX 64)), (0, .ref 0)], [.int 2, .ref 0, .int (xs 1), .ref (βX 64)], H)) 4 (fun _ _ => rfl) ?_
  refine q_Ru_rsT (g2 := (753, [(4, .int 0), (3, .ref (βX 103)), (2, .ref (βM 64)), (1, .ref (βX 64)), (0, .ref 0)], [.int (xs 2), .int (xs 1), .ref (βX 64)], H)) rfl rfl rfl ?_
  refine q_Ru_seg (g2 := (758, [(4, .int 0), (3, .ref (βX 103)), (2, .ref (βM 64)), (1, .ref (βX 64)), (0, .ref 0)], [.int 3, .ref 0, .int (xs 2), .int (xs 1), .ref (βX 64)], H)) 4 (fun _ _ => rfl) ?_
  refine q_Ru_rsT (g2 := (759, [(4, .int 0), (3, .ref (βX 103)), (2, .ref (βM 64)), (1, .ref (βX 64)), (0, .ref 0)], [.int (xs 3), .int (xs 2), .int (xs 1), .ref (βX 64)], H)) rfl rfl rfl ?_
  refine q_Ru_seg (g2 := (760, [(4, .int 0), (3, .ref (βX 103)), (2, .ref (βM 64)), (1, .ref (βX 64)), (0, .ref 0)], [.ref (βX 103), .int (xs 3), .int (xs 2), .int (xs 1), .ref (βX 64)], H)) 1 (fun _ _ => rfl) ?_
  refine q_Ru_call (v := some (.int r)) (h2 := H2) rfl rfl c1 ?_
  show q_Ru _ _ _ (763, [(4, .int 0), (3, .ref (βX 103)), (2, .ref (βM 64)), (1, .ref (βX 64)), (0, .ref 0)], [.int r], H2) _
  refine q_Ru_seg (g2 := (771, [(5, .int r), (4, .int 0), (3, .ref (βX 103)), (2, .ref (βM 64)), (1, .ref (βX 64)), (0, .ref 0)], [.int 1, .ref 0, .ref (βM 64)], H2)) 6 (fun _ _ => rfl) ?_
  refine q_Ru_rsT (g2 := (772, [(5, .int r), (4, .int 0), (3, .ref (βX 103)), (2, .ref (βM 64)), (1, .ref (βX 64)), (0, .ref 0)], [.int (xs 1), .ref (βM 64)], H2)) rfl rfl rfl ?_
  refine q_Ru_seg (g2 := (777, [(5, .int r), (4, .int 0), (3, .ref (βX 103)), (2, .ref (βM 64)), (1, .ref (βX 64)), (0, .ref 0)], [.int 2, .ref 0, .int (xs 1), .ref (βM 64)], H2)) 4 (fun _ _ => rfl) ?_
  refine q_Ru_rsT (g2 := (778, [(5, .int r), (4, .int 0), (3, .ref (βX 103)), (2, .ref (βM 64)), (1, .ref (βX 64)), (0, .ref 0)], [.int (xs 2), .int (xs 1), .ref (βM 64)], H2)) rfl rfl rfl ?_
  refine q_Ru_seg (g2 := (783, [(5, .int r), (4, .int 0), (3, .ref (βX 103)), (2, .ref (βM 64)), (1, .ref (βX 64)), (0, .ref 0)], [.int 3, .ref 0, .int (xs 2), .int (xs 1), .ref (βM 64)], H2)) 4 (fun _ _ => rfl) ?_
  refine q_Ru_rsT (g2 := (784, [(5, .int r), (4, .int 0), (3, .ref (βX 103)), (2, .ref (βM 64)), (1, .ref (βX 64)), (0, .ref 0)], [.int (xs 3), .int (xs 2), .int (xs 1), .ref (βM 64)], H2)) rfl rfl rfl ?_
  refine q_Ru_call (v := some (.int b)) (h2 := H3) rfl (q_fv_at a1 rfl (Nat.zero_le 8)) c2 ?_
  show q_Ru _ _ _ (787, [(5, .int r), (4, .int 0), (3, .ref (βX 103)), (2, .ref (βM 64)), (1, .ref (βX 64)), (0, .ref 0)], [.int b], H3) _
  refine q_Ru_seg (g2 := (790, [(6, .int b), (5, .int r), (4, .int 0), (3, .ref (βX 103)), (2, .ref (βM 64)), (1, .ref (βX 64)), (0, .ref 0)], [.ref (βM 64)], H3)) 2 (fun _ _ => rfl) ?_
  refine q_Ru_call (v := some (.int r)) (h2 := H3) rfl (q_fv_at a2 rfl (Nat.zero_le 8)) (q_thrown a2 a3) ?_
  show q_Ru _ _ _ (793, [(6, .int b), (5, .int r), (4, .int 0), (3, .ref (βX 103)), (2, .ref (βM 64)), (1, .ref (βX 64)), (0, .ref 0)], [.int r], H3) _
  refine q_Ru_seg (g2 := (795, [(6, .int b), (5, .int r), (4, .int 0), (3, .ref (βX 103)), (2, .ref (βM 64)), (1, .ref (βX 64)), (0, .ref 0)], [.int r, .int r], H3)) 1 (fun _ _ => rfl) ?_
  refine q_Ru_rsT (g2 := (800, [(6, .int b), (5, .int r), (4, .int 0), (3, .ref (βX 103)), (2, .ref (βM 64)), (1, .ref (βX 64)), (0, .ref 0)], [], H3)) rfl rfl (decide_eq_true rfl) ?_
  refine q_Ru_seg (g2 := (802, [(6, .int b), (5, .int r), (4, .int 0), (3, .ref (βX 103)), (2, .ref (βM 64)), (1, .ref (βX 64)), (0, .ref 0)], [.int r], H3)) 1 (fun _ _ => rfl) ?_
  by_cases hr : r = 0
  · have hf9 := hf hr
    subst hr
    refine q_Ru_seg (g2 := (805, [(6, .int b), (5, .int 0), (4, .int 0), (3, .ref (βX 103)), (2, .ref (βM 64)), (1, .ref (βX 64)), (0, .ref 0)], [], H3)) 1 (fun _ _ => rfl) ?_
    refine q_Ru_seg (g2 := (807, [(6, .int b), (5, .int 0), (4, .int 0), (3, .ref (βX 103)), (2, .ref (βM 64)), (1, .ref (βX 64)), (0, .ref 0)], [.int 0, .ref (βX 103)], H3)) 2 (fun _ _ => rfl) ?_
    refine q_Ru_rsT (g2 := (808, [(6, .int b), (5, .int 0), (4, .int 0), (3, .ref (βX 103)), (2, .ref (βM 64)), (1, .ref (βX 64)), (0, .ref 0)], [.long (f 0)], H3)) rfl (q_lld_at a4) rfl ?_
    rw [hf9]
    refine q_Ru_seg (g2 := (812, [(6, .int b), (5, .int 0), (4, .int 0), (3, .ref (βX 103)), (2, .ref (βM 64)), (1, .ref (βX 64)), (0, .ref 0)], [.int (lg_cmp b.toInt64 b.toInt64)], H3)) 3 (fun _ _ => rfl) ?_
    rw [q_lcmp_rf]
    refine q_Ru_seg (g2 := (817, [(6, .int b), (5, .int 0), (4, .int 0), (3, .ref (βX 103)), (2, .ref (βM 64)), (1, .ref (βX 64)), (0, .ref 0)], [], H3)) 1 (fun _ _ => rfl) ?_
    refine q_Ru_seg (g2 := (2132, [(4, .int 4), (6, .int b), (5, .int 0), (3, .ref (βX 103)), (2, .ref (βM 64)), (1, .ref (βX 64)), (0, .ref 0)], [.int 1], H3)) 10 (fun _ _ => rfl) ?_
    exact q_Ru_ret rfl rfl
  · refine q_Ru_rsT (g2 := (817, [(6, .int b), (5, .int r), (4, .int 0), (3, .ref (βX 103)), (2, .ref (βM 64)), (1, .ref (βX 64)), (0, .ref 0)], [], H3)) rfl rfl (decide_eq_true hr) ?_
    refine q_Ru_seg (g2 := (2132, [(4, .int 4), (6, .int b), (5, .int r), (3, .ref (βX 103)), (2, .ref (βM 64)), (1, .ref (βX 64)), (0, .ref 0)], [.int 1], H3)) 10 (fun _ _ => rfl) ?_
    exact q_Ru_ret rfl rfl
theorem q_lw_register {βX βM : Nat → Nat} {H : q_H} (hT : q_tw βX βM H) (z : Nat) (xs : Nat → Int32) : ∃ h, q_Ru (q_TBs z 4 xs) 12 377 (820, [(4, .int 0), (3, .ref (βX 103)), (2, .ref (βM 64)), (1, .ref (βX 64)), (0, .ref 0)], [], H) (.inl (some (.int 1)), h) ∧ h.2.1 ≤ 600002 ∧ h.2.2 ≤ 7302231 := by
  obtain ⟨r, b, w, hX, hM, hw⟩ := q_op_register (xs 1)
  obtain ⟨H2, H3, f, fs, fs2, c1, c2, a1, a2, a3, a4, hf, n1, n2⟩ := q_tw_op hT hX hM hw (fun _ => rfl) z 4 xs
  refine ⟨H3, ?_, by omega, by omega⟩
  refine q_Ru_seg (g2 := (826, [(4, .int 0), (3, .ref (βX 103)), (2, .ref (βM 64)), (1, .ref (βX 64)), (0, .ref 0)], [.int 1, .ref 0, .ref (βX 64)], H)) 5 (fun _ _ => rfl) ?_
  refine q_Ru_rsT (g2 := (827, [(4, .int 0), (3, .ref (βX 103)), (2, .ref (βM 64)), (1, .ref (βX 64)), (0, .ref 0)], [.int (xs 1), .ref (βX 64)], H)) rfl rfl rfl ?_
  refine q_Ru_seg (g2 := (828, [(4, .int 0), (3, .ref (βX 103)), (2, .ref (βM 64)), (1, .ref (βX 64)), (0, .ref 0)], [.ref (βX 103), .int (xs 1), .ref (βX 64)], H)) 1 (fun _ _ => rfl) ?_
  refine q_Ru_call (v := some (.int r)) (h2 := H2) rfl rfl c1 ?_
  show q_Ru _ _ _ (831, [(4, .int 0), (3, .ref (βX 103)), (2, .ref (βM 64)), (1, .ref (βX 64)), (0, .ref 0)], [.int r], H2) _
  refine q_Ru_seg (g2 := (839, [(5, .int r), (4, .int 0), (3, .ref (βX 103)), (2, .ref (βM 64)), (1, .ref (βX 64)), (0, .ref 0)], [.int 1, .ref 0, .ref (βM 64)], H2)) 6 (fun _ _ => rfl) ?_
  refine q_Ru_rsT (g2 := (840, [(5, .int r), (4, .int 0), (3, .ref (βX 103)), (2, .ref (βM 64)), (1, .ref (βX 64)), (0, .ref 0)], [.int (xs 1), .ref (βM 64)], H2)) rfl rfl rfl ?_
  refine q_Ru_call (v := some (.int b)) (h2 := H3) rfl (q_fv_at a1 rfl (Nat.zero_le 8)) c2 ?_
  show q_Ru _ _ _ (843, [(5, .int r), (4, .int 0), (3, .ref (βX 103)), (2, .ref (βM 64)), (1, .ref (βX 64)), (0, .ref 0)], [.int b], H3) _
  refine q_Ru_seg (g2 := (846, [(6, .int b), (5, .int r), (4, .int 0), (3, .ref (βX 103)), (2, .ref (βM 64)), (1, .ref (βX 64)), (0, .ref 0)], [.ref (βM 64)], H3)) 2 (fun _ _ => rfl) ?_
  refine q_Ru_call (v := some (.int r)) (h2 := H3) rfl (q_fv_at a2 rfl (Nat.zero_le 8)) (q_thrown a2 a3) ?_
  show q_Ru _ _ _ (849, [(6, .int b), (5, .int r), (4, .int 0), (3, .ref (βX 103)), (2, .ref (βM 64)), (1, .ref (βX 64)), (0, .ref 0)], [.int r], H3) _
  refine q_Ru_seg (g2 := (851, [(6, .int b), (5, .int r), (4, .int 0), (3, .ref (βX 103)), (2, .ref (βM 64)), (1, .ref (βX 64)), (0, .ref 0)], [.int r, .int r], H3)) 1 (fun _ _ => rfl) ?_
  refine q_Ru_rsT (g2 := (856, [(6, .int b), (5, .int r), (4, .int 0), (3, .ref (βX 103)), (2, .ref (βM 64)), (1, .ref (βX 64)), (0, .ref 0)], [], H3)) rfl rfl (decide_eq_true rfl) ?_
  refine q_Ru_seg (g2 := (858, [(6, .int b), (5, .int r), (4, .int 0), (3, .ref (βX 103)), (2, .ref (βM 64)), (1, .ref (βX 64)), (0, .ref 0)], [.int r], H3)) 1 (fun _ _ => rfl) ?_
  by_cases hr : r = 0
  · have hf9 := hf hr
    subst hr
    refine q_Ru_seg (g2 := (861, [(6, .int b), (5, .int 0), (4, .int 0), (3, .ref (βX 103)), (2, .ref (βM 64)), (1, .ref (βX 64)), (0, .ref 0)], [], H3)) 1 (fun _ _ => rfl) ?_
    refine q_Ru_seg (g2 := (863, [(6, .int b), (5, .int 0), (4, .int 0), (3, .ref (βX 103)), (2, .ref (βM 64)), (1, .ref (βX 64)), (0, .ref 0)], [.int 0, .ref (βX 103)], H3)) 2 (fun _ _ => rfl) ?_
    refine q_Ru_rsT (g2 := (864, [(6, .int b), (5, .int 0), (4, .int 0), (3, .ref (βX 103)), (2, .ref (βM 64)), (1, .ref (βX 64)), (0, .ref 0)], [.long (f 0)], H3)) rfl (q_lld_at a4) rfl ?_
    rw [hf9]
    refine q_Ru_seg (g2 := (868, [(6, .int b), (5, .int 0), (4, .int 0), (3, .ref (βX 103)), (2, .ref (βM 64)), (1, .ref (βX 64)), (0, .ref 0)], [.int (lg_cmp b.toInt64 b.toInt64)], H3)) 3 (fun _ _ => rfl) ?_
    rw [q_lcmp_rf]
    refine q_Ru_seg (g2 := (873, [(6, .int b), (5, .int 0), (4, .int 0), (3, .ref (βX 103)), (2, .ref (βM 64)), (1, .ref (βX 64)), (0, .ref 0)], [], H3)) 1 (fun _ _ => rfl) ?_
    refine q_Ru_seg (g2 := (2132, [(4, .int 4), (6, .int b), (5, .int 0), (3, .ref (βX 103)), (2, .ref (βM 64)), (1, .ref (βX 64)), (0, .ref 0)], [.int 1], H3)) 10 (fun _ _ => rfl) ?_
    exact q_Ru_ret rfl rfl
  · refine q_Ru_rsT (g2 := (873, [(6, .int b), (5, .int r), (4, .int 0), (3, .ref (βX 103)), (2, .ref (βM 64)), (1, .ref (βX 64)), (0, .ref 0)], [], H3)) rfl rfl (decide_eq_true hr) ?_
    refine q_Ru_seg (g2 := (2132, [(4, .int 4), (6, .int b), (5, .int r), (3, .ref (βX 103)), (2, .ref (βM 64)), (1, .ref (βX 64)), (0, .ref 0)], [.int 1], H3)) 10 (fun _ _ => rfl) ?_
    exact q_Ru_ret rfl rfl
theorem q_lw_setRegister {βX βM : Nat → Nat} {H : q_H} (hT : q_tw βX βM H) (z : Nat) (xs : Nat → Int32) : ∃ h, q_Ru (q_TBs z 4 xs) 12 377 (876, [(4, .int 0), (3, .ref (βX 103)), (2, .ref (βM 64)), (1, .ref (βX 64)), (0, .ref 0)], [], H) (.inl (some (.int 1)), h) ∧ h.2.1 ≤ 600002 ∧ h.2.2 ≤ 7302231 := by
  obtain ⟨r, b, w, hX, hM, hw⟩ := q_op_setRegister (xs 1) (xs 2)
  obtain ⟨H2, H3, f, fs, fs2, c1, c2, a1, a2, a3, a4, hf, n1, n2⟩ := q_tw_op hT hX hM hw (fun _ => rfl) z 4 xs
  refine ⟨H3, ?_, by omega, by omega⟩
  refine q_Ru_seg (g2 := (882, [(4, .int 0), (3, .ref (βX 103)), (2, .ref (βM 64)), (1, .ref (βX 64)), (0, .ref 0)], [.int 1, .ref 0, .ref (βX 64)], H)) 5 (fun _ _ => rfl) ?_
  refine q_Ru_rsT (g2 := (883, [(4, .int 0), (3, .ref (βX 103)), (2, .ref (βM 64)), (1, .ref (βX 64)), (0, .ref 0)], [.int (xs 1), .ref (βX 64)], H)) rfl rfl rfl ?_
  refine q_Ru_seg (g2 := (888, [(4, .int 0), (3, .ref (βX 103)), (2, .ref (βM 64)), (1, .ref (βX 64)), (0, .ref 0)], [.int 2, .ref 0, .int (xs 1), .ref (βX 64)], H)) 4 (fun _ _ => rfl) ?_
  refine q_Ru_rsT (g2 := (889, [(4, .int 0), (3, .ref (βX 103)), (2, .ref (βM 64)), (1, .ref (βX 64)), (0, .ref 0)], [.int (xs 2), .int (xs 1), .ref (βX 64)], H)) rfl rfl rfl ?_
  refine q_Ru_seg (g2 := (890, [(4, .int 0), (3, .ref (βX 103)), (2, .ref (βM 64)), (1, .ref (βX 64)), (0, .ref 0)], [.ref (βX 103), .int (xs 2), .int (xs 1), .ref (βX 64)], H)) 1 (fun _ _ => rfl) ?_
  refine q_Ru_call (v := some (.int r)) (h2 := H2) rfl rfl c1 ?_
  show q_Ru _ _ _ (893, [(4, .int 0), (3, .ref (βX 103)), (2, .ref (βM 64)), (1, .ref (βX 64)), (0, .ref 0)], [.int r], H2) _
  refine q_Ru_seg (g2 := (901, [(5, .int r), (4, .int 0), (3, .ref (βX 103)), (2, .ref (βM 64)), (1, .ref (βX 64)), (0, .ref 0)], [.int 1, .ref 0, .ref (βM 64)], H2)) 6 (fun _ _ => rfl) ?_
  refine q_Ru_rsT (g2 := (902, [(5, .int r), (4, .int 0), (3, .ref (βX 103)), (2, .ref (βM 64)), (1, .ref (βX 64)), (0, .ref 0)], [.int (xs 1), .ref (βM 64)], H2)) rfl rfl rfl ?_
  refine q_Ru_seg (g2 := (907, [(5, .int r), (4, .int 0), (3, .ref (βX 103)), (2, .ref (βM 64)), (1, .ref (βX 64)), (0, .ref 0)], [.int 2, .ref 0, .int (xs 1), .ref (βM 64)], H2)) 4 (fun _ _ => rfl) ?_
  refine q_Ru_rsT (g2 := (908, [(5, .int r), (4, .int 0), (3, .ref (βX 103)), (2, .ref (βM 64)), (1, .ref (βX 64)), (0, .ref 0)], [.int (xs 2), .int (xs 1), .ref (βM 64)], H2)) rfl rfl rfl ?_
  refine q_Ru_call (v := some (.int b)) (h2 := H3) rfl (q_fv_at a1 rfl (Nat.zero_le 8)) c2 ?_
  show q_Ru _ _ _ (911, [(5, .int r), (4, .int 0), (3, .ref (βX 103)), (2, .ref (βM 64)), (1, .ref (βX 64)), (0, .ref 0)], [.int b], H3) _
  refine q_Ru_seg (g2 := (914, [(6, .int b), (5, .int r), (4, .int 0), (3, .ref (βX 103)), (2, .ref (βM 64)), (1, .ref (βX 64)), (0, .ref 0)], [.ref (βM 64)], H3)) 2 (fun _ _ => rfl) ?_
  refine q_Ru_call (v := some (.int r)) (h2 := H3) rfl (q_fv_at a2 rfl (Nat.zero_le 8)) (q_thrown a2 a3) ?_
  show q_Ru _ _ _ (917, [(6, .int b), (5, .int r), (4, .int 0), (3, .ref (βX 103)), (2, .ref (βM 64)), (1, .ref (βX 64)), (0, .ref 0)], [.int r], H3) _
  refine q_Ru_seg (g2 := (919, [(6, .int b), (5, .int r), (4, .int 0), (3, .ref (βX 103)), (2, .ref (βM 64)), (1, .ref (βX 64)), (0, .ref 0)], [.int r, .int r], H3)) 1 (fun _ _ => rfl) ?_
  refine q_Ru_rsT (g2 := (924, [(6, .int b), (5, .int r), (4, .int 0), (3, .ref (βX 103)), (2, .ref (βM 64)), (1, .ref (βX 64)), (0, .ref 0)], [], H3)) rfl rfl (decide_eq_true rfl) ?_
  refine q_Ru_seg (g2 := (926, [(6, .int b), (5, .int r), (4, .int 0), (3, .ref (βX 103)), (2, .ref (βM 64)), (1, .ref (βX 64)), (0, .ref 0)], [.int r], H3)) 1 (fun _ _ => rfl) ?_
  by_cases hr : r = 0
  · have hf9 := hf hr
    subst hr
    refine q_Ru_seg (g2 := (929, [(6, .int b), (5, .int 0), (4, .int 0), (3, .ref (βX 103)), (2, .ref (βM 64)), (1, .ref (βX 64)), (0, .ref 0)], [], H3)) 1 (fun _ _ => rfl) ?_
    refine q_Ru_seg (g2 := (931, [(6, .int b), (5, .int 0), (4, .int 0), (3, .ref (βX 103)), (2, .ref (βM 64)), (1, .ref (βX 64)), (0, .ref 0)], [.int 0, .ref (βX 103)], H3)) 2 (fun _ _ => rfl) ?_
    refine q_Ru_rsT (g2 := (932, [(6, .int b), (5, .int 0), (4, .int 0), (3, .ref (βX 103)), (2, .ref (βM 64)), (1, .ref (βX 64)), (0, .ref 0)], [.long (f 0)], H3)) rfl (q_lld_at a4) rfl ?_
    rw [hf9]
    refine q_Ru_seg (g2 := (936, [(6, .int b), (5, .int 0), (4, .int 0), (3, .ref (βX 103)), (2, .ref (βM 64)), (1, .ref (βX 64)), (0, .ref 0)], [.int (lg_cmp b.toInt64 b.toInt64)], H3)) 3 (fun _ _ => rfl) ?_
    rw [q_lcmp_rf]
    refine q_Ru_seg (g2 := (941, [(6, .int b), (5, .int 0), (4, .int 0), (3, .ref (βX 103)), (2, .ref (βM 64)), (1, .ref (βX 64)), (0, .ref 0)], [], H3)) 1 (fun _ _ => rfl) ?_
    refine q_Ru_seg (g2 := (2132, [(4, .int 4), (6, .int b), (5, .int 0), (3, .ref (βX 103)), (2, .ref (βM 64)), (1, .ref (βX 64)), (0, .ref 0)], [.int 1], H3)) 10 (fun _ _ => rfl) ?_
    exact q_Ru_ret rfl rfl
  · refine q_Ru_rsT (g2 := (941, [(6, .int b), (5, .int r), (4, .int 0), (3, .ref (βX 103)), (2, .ref (βM 64)), (1, .ref (βX 64)), (0, .ref 0)], [], H3)) rfl rfl (decide_eq_true hr) ?_
    refine q_Ru_seg (g2 := (2132, [(4, .int 4), (6, .int b), (5, .int r), (3, .ref (βX 103)), (2, .ref (βM 64)), (1, .ref (βX 64)), (0, .ref 0)], [.int 1], H3)) 10 (fun _ _ => rfl) ?_
    exact q_Ru_ret rfl rfl
theorem q_lw_status {βX βM : Nat → Nat} {H : q_H} (hT : q_tw βX βM H) (z : Nat) (xs : Nat → Int32) : ∃ h, q_Ru (q_TBs z 4 xs) 12 377 (944, [(4, .int 0), (3, .ref (βX 103)), (2, .ref (βM 64)), (1, .ref (βX 64)), (0, .ref 0)], [], H) (.inl (some (.int 1)), h) ∧ h.2.1 ≤ 600002 ∧ h.2.2 ≤ 7302231 := by
  obtain ⟨b, hV⟩ := q_op_status
  obtain ⟨H2, H3, fs, fs2, a0, c1, a1, c2, n1, n2⟩ := q_tw_opV hT hV (fun _ => rfl) z 4 xs
  refine ⟨H3, ?_, by omega, by omega⟩
  refine q_Ru_seg (g2 := (945, [(4, .int 0), (3, .ref (βX 103)), (2, .ref (βM 64)), (1, .ref (βX 64)), (0, .ref 0)], [.ref (βX 64)], H)) 1 (fun _ _ => rfl) ?_
  refine q_Ru_call (v := some (.int b)) (h2 := H2) rfl (q_fv_at a0 rfl (Nat.zero_le 8)) c1 ?_
  show q_Ru _ _ _ (948, [(4, .int 0), (3, .ref (βX 103)), (2, .ref (βM 64)), (1, .ref (βX 64)), (0, .ref 0)], [.int b], H2) _
  refine q_Ru_seg (g2 := (949, [(4, .int 0), (3, .ref (βX 103)), (2, .ref (βM 64)), (1, .ref (βX 64)), (0, .ref 0)], [.ref (βM 64), .int b], H2)) 1 (fun _ _ => rfl) ?_
  refine q_Ru_call (v := some (.int b)) (h2 := H3) rfl (q_fv_at a1 rfl (Nat.le_of_ble_eq_true rfl)) c2 ?_
  show q_Ru _ _ _ (952, [(4, .int 0), (3, .ref (βX 103)), (2, .ref (βM 64)), (1, .ref (βX 64)), (0, .ref 0)], [.int b, .int b], H3) _
  refine q_Ru_rsT (g2 := (2125, [(4, .int 0), (3, .ref (βX 103)), (2, .ref (βM 64)), (1, .ref (βX 64)), (0, .ref 0)], [], H3)) rfl rfl (decide_eq_true rfl) ?_
  refine q_Ru_seg (g2 := (2132, [(4, .int 4), (3, .ref (βX 103)), (2, .ref (βM 64)), (1, .ref (βX 64)), (0, .ref 0)], [.int 1], H3)) 9 (fun _ _ => rfl) ?_
  exact q_Ru_ret rfl rfl
theorem q_lw_reset {βX βM : Nat → Nat} {H : q_H} (hT : q_tw βX βM H) (z : Nat) (xs : Nat → Int32) : ∃ h, q_Ru (q_TBs z 4 xs) 12 377 (957, [(4, .int 0), (3, .ref (βX 103)), (2, .ref (βM 64)), (1, .ref (βX 64)), (0, .ref 0)], [], H) (.inl (some (.int 1)), h) ∧ h.2.1 ≤ 600002 ∧ h.2.2 ≤ 7302231 := by
  obtain ⟨b, hV⟩ := q_op_reset
  obtain ⟨H2, H3, fs, fs2, a0, c1, a1, c2, n1, n2⟩ := q_tw_opV hT hV (fun _ => rfl) z 4 xs
  refine ⟨H3, ?_, by omega, by omega⟩
  refine q_Ru_seg (g2 := (958, [(4, .int 0), (3, .ref (βX 103)), (2, .ref (βM 64)), (1, .ref (βX 64)), (0, .ref 0)], [.ref (βX 64)], H)) 1 (fun _ _ => rfl) ?_
  refine q_Ru_call (v := some (.int b)) (h2 := H2) rfl (q_fv_at a0 rfl (Nat.zero_le 8)) c1 ?_
  show q_Ru _ _ _ (961, [(4, .int 0), (3, .ref (βX 103)), (2, .ref (βM 64)), (1, .ref (βX 64)), (0, .ref 0)], [.int b], H2) _
  refine q_Ru_seg (g2 := (962, [(4, .int 0), (3, .ref (βX 103)), (2, .ref (βM 64)), (1, .ref (βX 64)), (0, .ref 0)], [.ref (βM 64), .int b], H2)) 1 (fun _ _ => rfl) ?_
  refine q_Ru_call (v := some (.int b)) (h2 := H3) rfl (q_fv_at a1 rfl (Nat.le_of_ble_eq_true rfl)) c2 ?_
  show q_Ru _ _ _ (965, [(4, .int 0), (3, .ref (βX 103)), (2, .ref (βM 64)), (1, .ref (βX 64)), (0, .ref 0)], [.int b, .int b], H3) _
  refine q_Ru_rsT (g2 := (2125, [(4, .int 0), (3, .ref (βX 103)), (2, .ref (βM 64)), (1, .ref (βX 64)), (0, .ref 0)], [], H3)) rfl rfl (decide_eq_true rfl) ?_
  refine q_Ru_seg (g2 := (2132, [(4, .int 4), (3, .ref (βX 103)), (2, .ref (βM 64)), (1, .ref (βX 64)), (0, .ref 0)], [.int 1], H3)) 9 (fun _ _ => rfl) ?_
  exact q_Ru_ret rfl rfl
theorem q_lw_freeze {βX βM : Nat → Nat} {H : q_H} (hT : q_tw βX βM H) (z : Nat) (xs : Nat → Int32) : ∃ h, q_Ru (q_TBs z 4 xs) 12 377 (970, [(4, .int 0), (3, .ref (βX 103)), (2, .ref (βM 64)), (1, .ref (βX 64)), (0, .ref 0)], [], H) (.inl (some (.int 1)), h) ∧ h.2.1 ≤ 600002 ∧ h.2.2 ≤ 7302231 := by
  obtain ⟨b, hV⟩ := q_op_freeze
  obtain ⟨H2, H3, fs, fs2, a0, c1, a1, c2, n1, n2⟩ := q_tw_opV hT hV (fun _ => rfl) z 4 xs
  refine ⟨H3, ?_, by omega, by omega⟩
  refine q_Ru_seg (g2 := (971, [(4, .int 0), (3, .ref (βX 103)), (2, .ref (βM 64)), (1, .ref (βX 64)), (0, .ref 0)], [.ref (βX 64)], H)) 1 (fun _ _ => rfl) ?_
  refine q_Ru_call (v := some (.int b)) (h2 := H2) rfl (q_fv_at a0 rfl (Nat.zero_le 8)) c1 ?_
  show q_Ru _ _ _ (974, [(4, .int 0), (3, .ref (βX 103)), (2, .ref (βM 64)), (1, .ref (βX 64)), (0, .ref 0)], [.int b], H2) _
  refine q_Ru_seg (g2 := (975, [(4, .int 0), (3, .ref (βX 103)), (2, .ref (βM 64)), (1, .ref (βX 64)), (0, .ref 0)], [.ref (βM 64), .int b], H2)) 1 (fun _ _ => rfl) ?_
  refine q_Ru_call (v := some (.int b)) (h2 := H3) rfl (q_fv_at a1 rfl (Nat.le_of_ble_eq_true rfl)) c2 ?_
  show q_Ru _ _ _ (978, [(4, .int 0), (3, .ref (βX 103)), (2, .ref (βM 64)), (1, .ref (βX 64)), (0, .ref 0)], [.int b, .int b], H3) _
  refine q_Ru_rsT (g2 := (2125, [(4, .int 0), (3, .ref (βX 103)), (2, .ref (βM 64)), (1, .ref (βX 64)), (0, .ref 0)], [], H3)) rfl rfl (decide_eq_true rfl) ?_
  refine q_Ru_seg (g2 := (2132, [(4, .int 4), (3, .ref (βX 103)), (2, .ref (βM 64)), (1, .ref (βX 64)), (0, .ref 0)], [.int 1], H3)) 9 (fun _ _ => rfl) ?_
  exact q_Ru_ret rfl rfl
theorem q_lw_run {βX βM : Nat → Nat} {H : q_H} (hT : q_tw βX βM H) (z : Nat) (xs : Nat → Int32) : ∃ h, q_Ru (q_TBs z 4 xs) 12 377 (983, [(4, .int 0), (3, .ref (βX 103)), (2, .ref (βM 64)), (1, .ref (βX 64)), (0, .ref 0)], [], H) (.inl (some (.int 1)), h) ∧ h.2.1 ≤ 600002 ∧ h.2.2 ≤ 7302231 := by
  obtain ⟨r, b, w, hX, hM, hw⟩ := q_op_run (xs 1)
  obtain ⟨H2, H3, f, fs, fs2, c1, c2, a1, a2, a3, a4, hf, n1, n2⟩ := q_tw_op hT hX hM hw (fun _ => rfl) z 4 xs
  refine ⟨H3, ?_, by omega, by omega⟩
  refine q_Ru_seg (g2 := (989, [(4, .int 0), (3, .ref (βX 103)), (2, .ref (βM 64)), (1, .ref (βX 64)), (0, .ref 0)], [.int 1, .ref 0, .ref (βX 64)], H)) 5 (fun _ _ => rfl) ?_
  refine q_Ru_rsT (g2 := (990, [(4, .int 0), (3, .ref (βX 103)), (2, .ref (βM 64)), (1, .ref (βX 64)), (0, .ref 0)], [.int (xs 1), .ref (βX 64)], H)) rfl rfl rfl ?_
  refine q_Ru_seg (g2 := (991, [(4, .int 0), (3, .ref (βX 103)), (2, .ref (βM 64)), (1, .ref (βX 64)), (0, .ref 0)], [.ref (βX 103), .int (xs 1), .ref (βX 64)], H)) 1 (fun _ _ => rfl) ?_
  refine q_Ru_call (v := some (.int r)) (h2 := H2) rfl rfl c1 ?_
  show q_Ru _ _ _ (994, [(4, .int 0), (3, .ref (βX 103)), (2, .ref (βM 64)), (1, .ref (βX 64)), (0, .ref 0)], [.int r], H2) _
  refine q_Ru_seg (g2 := (1002, [(5, .int r), (4, .int 0), (3, .ref (βX 103)), (2, .ref (βM 64)), (1, .ref (βX 64)), (0, .ref 0)], [.int 1, .ref 0, .ref (βM 64)], H2)) 6 (fun _ _ => rfl) ?_
  refine q_Ru_rsT (g2 := (1003, [(5, .int r), (4, .int 0), (3, .ref (βX 103)), (2, .ref (βM 64)), (1, .ref (βX 64)), (0, .ref 0)], [.int (xs 1), .ref (βM 64)], H2)) rfl rfl rfl ?_
  refine q_Ru_call (v := some (.int b)) (h2 := H3) rfl (q_fv_at a1 rfl (Nat.zero_le 8)) c2 ?_
  show q_Ru _ _ _ (1006, [(5, .int r), (4, .int 0), (3, .ref (βX 103)), (2, .ref (βM 64)), (1, .ref (βX 64)), (0, .ref 0)], [.int b], H3) _
  refine q_Ru_seg (g2 := (1009, [(6, .int b), (5, .int r), (4, .int 0), (3, .ref (βX 103)), (2, .ref (βM 64)), (1, .ref (βX 64)), (0, .ref 0)], [.ref (βM 64)], H3)) 2 (fun _ _ => rfl) ?_
  refine q_Ru_call (v := some (.int r)) (h2 := H3) rfl (q_fv_at a2 rfl (Nat.zero_le 8)) (q_thrown a2 a3) ?_
  show q_Ru _ _ _ (1012, [(6, .int b), (5, .int r), (4, .int 0), (3, .ref (βX 103)), (2, .ref (βM 64)), (1, .ref (βX 64)), (0, .ref 0)], [.int r], H3) _
  refine q_Ru_seg (g2 := (1014, [(6, .int b), (5, .int r), (4, .int 0), (3, .ref (βX 103)), (2, .ref (βM 64)), (1, .ref (βX 64)), (0, .ref 0)], [.int r, .int r], H3)) 1 (fun _ _ => rfl) ?_
  refine q_Ru_rsT (g2 := (1019, [(6, .int b), (5, .int r), (4, .int 0), (3, .ref (βX 103)), (2, .ref (βM 64)), (1, .ref (βX 64)), (0, .ref 0)], [], H3)) rfl rfl (decide_eq_true rfl) ?_
  refine q_Ru_seg (g2 := (1021, [(6, .int b), (5, .int r), (4, .int 0), (3, .ref (βX 103)), (2, .ref (βM 64)), (1, .ref (βX 64)), (0, .ref 0)], [.int r], H3)) 1 (fun _ _ => rfl) ?_
  by_cases hr : r = 0
  · have hf9 := hf hr
    subst hr
    refine q_Ru_seg (g2 := (1024, [(6, .int b), (5, .int 0), (4, .int 0), (3, .ref (βX 103)), (2, .ref (βM 64)), (1, .ref (βX 64)), (0, .ref 0)], [], H3)) 1 (fun _ _ => rfl) ?_
    refine q_Ru_seg (g2 := (1026, [(6, .int b), (5, .int 0), (4, .int 0), (3, .ref (βX 103)), (2, .ref (βM 64)), (1, .ref (βX 64)), (0, .ref 0)], [.int 0, .ref (βX 103)], H3)) 2 (fun _ _ => rfl) ?_
    refine q_Ru_rsT (g2 := (1027, [(6, .int b), (5, .int 0), (4, .int 0), (3, .ref (βX 103)), (2, .ref (βM 64)), (1, .ref (βX 64)), (0, .ref 0)], [.long (f 0)], H3)) rfl (q_lld_at a4) rfl ?_
    rw [hf9]
    refine q_Ru_seg (g2 := (1031, [(6, .int b), (5, .int 0), (4, .int 0), (3, .ref (βX 103)), (2, .ref (βM 64)), (1, .ref (βX 64)), (0, .ref 0)], [.int (lg_cmp b.toInt64 b.toInt64)], H3)) 3 (fun _ _ => rfl) ?_
    rw [q_lcmp_rf]
    refine q_Ru_seg (g2 := (1036, [(6, .int b), (5, .int 0), (4, .int 0), (3, .ref (βX 103)), (2, .ref (βM 64)), (1, .ref (βX 64)), (0, .ref 0)], [], H3)) 1 (fun _ _ => rfl) ?_
    refine q_Ru_seg (g2 := (2132, [(4, .int 4), (6, .int b), (5, .int 0), (3, .ref (βX 103)), (2, .ref (βM 64)), (1, .ref (βX 64)), (0, .ref 0)], [.int 1], H3)) 10 (fun _ _ => rfl) ?_
    exact q_Ru_ret rfl rfl
  · refine q_Ru_rsT (g2 := (1036, [(6, .int b), (5, .int r), (4, .int 0), (3, .ref (βX 103)), (2, .ref (βM 64)), (1, .ref (βX 64)), (0, .ref 0)], [], H3)) rfl rfl (decide_eq_true hr) ?_
    refine q_Ru_seg (g2 := (2132, [(4, .int 4), (6, .int b), (5, .int r), (3, .ref (βX 103)), (2, .ref (βM 64)), (1, .ref (βX 64)), (0, .ref 0)], [.int 1], H3)) 10 (fun _ _ => rfl) ?_
    exact q_Ru_ret rfl rfl
theorem q_lw_step {βX βM : Nat → Nat} {H : q_H} (hT : q_tw βX βM H) (z : Nat) (xs : Nat → Int32) : ∃ h, q_Ru (q_TBs z 4 xs) 12 377 (1039, [(4, .int 0), (3, .ref (βX 103)), (2, .ref (βM 64)), (1, .ref (βX 64)), (0, .ref 0)], [], H) (.inl (some (.int 1)), h) ∧ h.2.1 ≤ 600002 ∧ h.2.2 ≤ 7302231 := by
  obtain ⟨r, b, w, hX, hM, hw⟩ := q_op_step
  obtain ⟨H2, H3, f, fs, fs2, c1, c2, a1, a2, a3, a4, hf, n1, n2⟩ := q_tw_op hT hX hM hw (fun _ => rfl) z 4 xs
  refine ⟨H3, ?_, by omega, by omega⟩
  refine q_Ru_seg (g2 := (1041, [(4, .int 0), (3, .ref (βX 103)), (2, .ref (βM 64)), (1, .ref (βX 64)), (0, .ref 0)], [.ref (βX 103), .ref (βX 64)], H)) 2 (fun _ _ => rfl) ?_
  refine q_Ru_call (v := some (.int r)) (h2 := H2) rfl rfl c1 ?_
  show q_Ru _ _ _ (1044, [(4, .int 0), (3, .ref (βX 103)), (2, .ref (βM 64)), (1, .ref (βX 64)), (0, .ref 0)], [.int r], H2) _
  refine q_Ru_seg (g2 := (1047, [(5, .int r), (4, .int 0), (3, .ref (βX 103)), (2, .ref (βM 64)), (1, .ref (βX 64)), (0, .ref 0)], [.ref (βM 64)], H2)) 2 (fun _ _ => rfl) ?_
  refine q_Ru_call (v := some (.int b)) (h2 := H3) rfl (q_fv_at a1 rfl (Nat.zero_le 8)) c2 ?_
  show q_Ru _ _ _ (1050, [(5, .int r), (4, .int 0), (3, .ref (βX 103)), (2, .ref (βM 64)), (1, .ref (βX 64)), (0, .ref 0)], [.int b], H3) _
  refine q_Ru_seg (g2 := (1053, [(6, .int b), (5, .int r), (4, .int 0), (3, .ref (βX 103)), (2, .ref (βM 64)), (1, .ref (βX 64)), (0, .ref 0)], [.ref (βM 64)], H3)) 2 (fun _ _ => rfl) ?_
  refine q_Ru_call (v := some (.int r)) (h2 := H3) rfl (q_fv_at a2 rfl (Nat.zero_le 8)) (q_thrown a2 a3) ?_
  show q_Ru _ _ _ (1056, [(6, .int b), (5, .int r), (4, .int 0), (3, .ref (βX 103)), (2, .ref (βM 64)), (1, .ref (βX 64)), (0, .ref 0)], [.int r], H3) _
  refine q_Ru_seg (g2 := (1058, [(6, .int b), (5, .int r), (4, .int 0), (3, .ref (βX 103)), (2, .ref (βM 64)), (1, .ref (βX 64)), (0, .ref 0)], [.int r, .int r], H3)) 1 (fun _ _ => rfl) ?_
  refine q_Ru_rsT (g2 := (1063, [(6, .int b), (5, .int r), (4, .int 0), (3, .ref (βX 103)), (2, .ref (βM 64)), (1, .ref (βX 64)), (0, .ref 0)], [], H3)) rfl rfl (decide_eq_true rfl) ?_
  refine q_Ru_seg (g2 := (1065, [(6, .int b), (5, .int r), (4, .int 0), (3, .ref (βX 103)), (2, .ref (βM 64)), (1, .ref (βX 64)), (0, .ref 0)], [.int r], H3)) 1 (fun _ _ => rfl) ?_
  by_cases hr : r = 0
  · have hf9 := hf hr
    subst hr
    refine q_Ru_seg (g2 := (1068, [(6, .int b), (5, .int 0), (4, .int 0), (3, .ref (βX 103)), (2, .ref (βM 64)), (1, .ref (βX 64)), (0, .ref 0)], [], H3)) 1 (fun _ _ => rfl) ?_
    refine q_Ru_seg (g2 := (1070, [(6, .int b), (5, .int 0), (4, .int 0), (3, .ref (βX 103)), (2, .ref (βM 64)), (1, .ref (βX 64)), (0, .ref 0)], [.int 0, .ref (βX 103)], H3)) 2 (fun _ _ => rfl) ?_
    refine q_Ru_rsT (g2 := (1071, [(6, .int b), (5, .int 0), (4, .int 0), (3, .ref (βX 103)), (2, .ref (βM 64)), (1, .ref (βX 64)), (0, .ref 0)], [.long (f 0)], H3)) rfl (q_lld_at a4) rfl ?_
    rw [hf9]
    refine q_Ru_seg (g2 := (1075, [(6, .int b), (5, .int 0), (4, .int 0), (3, .ref (βX 103)), (2, .ref (βM 64)), (1, .ref (βX 64)), (0, .ref 0)], [.int (lg_cmp b.toInt64 b.toInt64)], H3)) 3 (fun _ _ => rfl) ?_
    rw [q_lcmp_rf]
    refine q_Ru_seg (g2 := (1080, [(6, .int b), (5, .int 0), (4, .int 0), (3, .ref (βX 103)), (2, .ref (βM 64)), (1, .ref (βX 64)), (0, .ref 0)], [], H3)) 1 (fun _ _ => rfl) ?_
    refine q_Ru_seg (g2 := (2132, [(4, .int 4), (6, .int b), (5, .int 0), (3, .ref (βX 103)), (2, .ref (βM 64)), (1, .ref (βX 64)), (0, .ref 0)], [.int 1], H3)) 10 (fun _ _ => rfl) ?_
    exact q_Ru_ret rfl rfl
  · refine q_Ru_rsT (g2 := (1080, [(6, .int b), (5, .int r), (4, .int 0), (3, .ref (βX 103)), (2, .ref (βM 64)), (1, .ref (βX 64)), (0, .ref 0)], [], H3)) rfl rfl (decide_eq_true hr) ?_
    refine q_Ru_seg (g2 := (2132, [(4, .int 4), (6, .int b), (5, .int r), (3, .ref (βX 103)), (2, .ref (βM 64)), (1, .ref (βX 64)), (0, .ref 0)], [.int 1], H3)) 10 (fun _ _ => rfl) ?_
    exact q_Ru_ret rfl rfl
theorem q_lw_cycle {βX βM : Nat → Nat} {H : q_H} (hT : q_tw βX βM H) (z : Nat) (xs : Nat → Int32) : ∃ h, q_Ru (q_TBs z 4 xs) 12 377 (1083, [(4, .int 0), (3, .ref (βX 103)), (2, .ref (βM 64)), (1, .ref (βX 64)), (0, .ref 0)], [], H) (.inl (some (.int 1)), h) ∧ h.2.1 ≤ 600002 ∧ h.2.2 ≤ 7302231 := by
  obtain ⟨b, hV⟩ := q_op_cycle
  obtain ⟨H2, H3, fs, fs2, a0, c1, a1, c2, n1, n2⟩ := q_tw_opV hT hV (fun _ => rfl) z 4 xs
  refine ⟨H3, ?_, by omega, by omega⟩
  refine q_Ru_seg (g2 := (1084, [(4, .int 0), (3, .ref (βX 103)), (2, .ref (βM 64)), (1, .ref (βX 64)), (0, .ref 0)], [.ref (βX 64)], H)) 1 (fun _ _ => rfl) ?_
  refine q_Ru_call (v := some (.long b)) (h2 := H2) rfl (q_fv_at a0 rfl (Nat.zero_le 8)) c1 ?_
  show q_Ru _ _ _ (1087, [(4, .int 0), (3, .ref (βX 103)), (2, .ref (βM 64)), (1, .ref (βX 64)), (0, .ref 0)], [.long b], H2) _
  refine q_Ru_seg (g2 := (1088, [(4, .int 0), (3, .ref (βX 103)), (2, .ref (βM 64)), (1, .ref (βX 64)), (0, .ref 0)], [.ref (βM 64), .long b], H2)) 1 (fun _ _ => rfl) ?_
  refine q_Ru_call (v := some (.long b)) (h2 := H3) rfl (q_fv_at a1 rfl (Nat.le_of_ble_eq_true rfl)) c2 ?_
  show q_Ru _ _ _ (1091, [(4, .int 0), (3, .ref (βX 103)), (2, .ref (βM 64)), (1, .ref (βX 64)), (0, .ref 0)], [.long b, .long b], H3) _
  refine q_Ru_seg (g2 := (1092, [(4, .int 0), (3, .ref (βX 103)), (2, .ref (βM 64)), (1, .ref (βX 64)), (0, .ref 0)], [.int (lg_cmp b b)], H3)) 1 (fun _ _ => rfl) ?_
  rw [q_lcmp_rf]
  refine q_Ru_seg (g2 := (2125, [(4, .int 0), (3, .ref (βX 103)), (2, .ref (βM 64)), (1, .ref (βX 64)), (0, .ref 0)], [], H3)) 1 (fun _ _ => rfl) ?_
  refine q_Ru_seg (g2 := (2132, [(4, .int 4), (3, .ref (βX 103)), (2, .ref (βM 64)), (1, .ref (βX 64)), (0, .ref 0)], [.int 1], H3)) 9 (fun _ _ => rfl) ?_
  exact q_Ru_ret rfl rfl
theorem q_lw_isPictures {βX βM : Nat → Nat} {H : q_H} (hT : q_tw βX βM H) (z : Nat) (xs : Nat → Int32) : ∃ h, q_Ru (q_TBs z 4 xs) 12 377 (1097, [(4, .int 0), (3, .ref (βX 103)), (2, .ref (βM 64)), (1, .ref (βX 64)), (0, .ref 0)], [], H) (.inl (some (.int 1)), h) ∧ h.2.1 ≤ 600002 ∧ h.2.2 ≤ 7302231 := by
  obtain ⟨b, hV⟩ := q_op_isPictures
  obtain ⟨H2, H3, fs, fs2, a0, c1, a1, c2, n1, n2⟩ := q_tw_opV hT hV (fun _ => rfl) z 4 xs
  refine ⟨H3, ?_, by omega, by omega⟩
  refine q_Ru_seg (g2 := (1098, [(4, .int 0), (3, .ref (βX 103)), (2, .ref (βM 64)), (1, .ref (βX 64)), (0, .ref 0)], [.ref (βX 64)], H)) 1 (fun _ _ => rfl) ?_
  refine q_Ru_call (v := some (.int b)) (h2 := H2) rfl (q_fv_at a0 rfl (Nat.zero_le 8)) c1 ?_
  show q_Ru _ _ _ (1101, [(4, .int 0), (3, .ref (βX 103)), (2, .ref (βM 64)), (1, .ref (βX 64)), (0, .ref 0)], [.int b], H2) _
  refine q_Ru_seg (g2 := (1102, [(4, .int 0), (3, .ref (βX 103)), (2, .ref (βM 64)), (1, .ref (βX 64)), (0, .ref 0)], [.ref (βM 64), .int b], H2)) 1 (fun _ _ => rfl) ?_
  refine q_Ru_call (v := some (.int b)) (h2 := H3) rfl (q_fv_at a1 rfl (Nat.le_of_ble_eq_true rfl)) c2 ?_
  show q_Ru _ _ _ (1105, [(4, .int 0), (3, .ref (βX 103)), (2, .ref (βM 64)), (1, .ref (βX 64)), (0, .ref 0)], [.int b, .int b], H3) _
  refine q_Ru_rsT (g2 := (2125, [(4, .int 0), (3, .ref (βX 103)), (2, .ref (βM 64)), (1, .ref (βX 64)), (0, .ref 0)], [], H3)) rfl rfl (decide_eq_true rfl) ?_
  refine q_Ru_seg (g2 := (2132, [(4, .int 4), (3, .ref (βX 103)), (2, .ref (βM 64)), (1, .ref (βX 64)), (0, .ref 0)], [.int 1], H3)) 9 (fun _ _ => rfl) ?_
  exact q_Ru_ret rfl rfl
theorem q_lw_underWay {βX βM : Nat → Nat} {H : q_H} (hT : q_tw βX βM H) (z : Nat) (xs : Nat → Int32) : ∃ h, q_Ru (q_TBs z 4 xs) 12 377 (1110, [(4, .int 0), (3, .ref (βX 103)), (2, .ref (βM 64)), (1, .ref (βX 64)), (0, .ref 0)], [], H) (.inl (some (.int 1)), h) ∧ h.2.1 ≤ 600002 ∧ h.2.2 ≤ 7302231 := by
  obtain ⟨b, hV⟩ := q_op_underWay
  obtain ⟨H2, H3, fs, fs2, a0, c1, a1, c2, n1, n2⟩ := q_tw_opV hT hV (fun _ => rfl) z 4 xs
  refine ⟨H3, ?_, by omega, by omega⟩
  refine q_Ru_seg (g2 := (1111, [(4, .int 0), (3, .ref (βX 103)), (2, .ref (βM 64)), (1, .ref (βX 64)), (0, .ref 0)], [.ref (βX 64)], H)) 1 (fun _ _ => rfl) ?_
  refine q_Ru_call (v := some (.int b)) (h2 := H2) rfl (q_fv_at a0 rfl (Nat.zero_le 8)) c1 ?_
  show q_Ru _ _ _ (1114, [(4, .int 0), (3, .ref (βX 103)), (2, .ref (βM 64)), (1, .ref (βX 64)), (0, .ref 0)], [.int b], H2) _
  refine q_Ru_seg (g2 := (1115, [(4, .int 0), (3, .ref (βX 103)), (2, .ref (βM 64)), (1, .ref (βX 64)), (0, .ref 0)], [.ref (βM 64), .int b], H2)) 1 (fun _ _ => rfl) ?_
  refine q_Ru_call (v := some (.int b)) (h2 := H3) rfl (q_fv_at a1 rfl (Nat.le_of_ble_eq_true rfl)) c2 ?_
  show q_Ru _ _ _ (1118, [(4, .int 0), (3, .ref (βX 103)), (2, .ref (βM 64)), (1, .ref (βX 64)), (0, .ref 0)], [.int b, .int b], H3) _
  refine q_Ru_rsT (g2 := (2125, [(4, .int 0), (3, .ref (βX 103)), (2, .ref (βM 64)), (1, .ref (βX 64)), (0, .ref 0)], [], H3)) rfl rfl (decide_eq_true rfl) ?_
  refine q_Ru_seg (g2 := (2132, [(4, .int 4), (3, .ref (βX 103)), (2, .ref (βM 64)), (1, .ref (βX 64)), (0, .ref 0)], [.int 1], H3)) 9 (fun _ _ => rfl) ?_
  exact q_Ru_ret rfl rfl
theorem q_lw_done {βX βM : Nat → Nat} {H : q_H} (hT : q_tw βX βM H) (z : Nat) (xs : Nat → Int32) : ∃ h, q_Ru (q_TBs z 4 xs) 12 377 (1123, [(4, .int 0), (3, .ref (βX 103)), (2, .ref (βM 64)), (1, .ref (βX 64)), (0, .ref 0)], [], H) (.inl (some (.int 1)), h) ∧ h.2.1 ≤ 600002 ∧ h.2.2 ≤ 7302231 := by
  obtain ⟨b, hV⟩ := q_op_done
  obtain ⟨H2, H3, fs, fs2, a0, c1, a1, c2, n1, n2⟩ := q_tw_opV hT hV (fun _ => rfl) z 4 xs
  refine ⟨H3, ?_, by omega, by omega⟩
  refine q_Ru_seg (g2 := (1124, [(4, .int 0), (3, .ref (βX 103)), (2, .ref (βM 64)), (1, .ref (βX 64)), (0, .ref 0)], [.ref (βX 64)], H)) 1 (fun _ _ => rfl) ?_
  refine q_Ru_call (v := some (.int b)) (h2 := H2) rfl (q_fv_at a0 rfl (Nat.zero_le 8)) c1 ?_
  show q_Ru _ _ _ (1127, [(4, .int 0), (3, .ref (βX 103)), (2, .ref (βM 64)), (1, .ref (βX 64)), (0, .ref 0)], [.int b], H2) _
  refine q_Ru_seg (g2 := (1128, [(4, .int 0), (3, .ref (βX 103)), (2, .ref (βM 64)), (1, .ref (βX 64)), (0, .ref 0)], [.ref (βM 64), .int b], H2)) 1 (fun _ _ => rfl) ?_
  refine q_Ru_call (v := some (.int b)) (h2 := H3) rfl (q_fv_at a1 rfl (Nat.le_of_ble_eq_true rfl)) c2 ?_
  show q_Ru _ _ _ (1131, [(4, .int 0), (3, .ref (βX 103)), (2, .ref (βM 64)), (1, .ref (βX 64)), (0, .ref 0)], [.int b, .int b], H3) _
  refine q_Ru_rsT (g2 := (2125, [(4, .int 0), (3, .ref (βX 103)), (2, .ref (βM 64)), (1, .ref (βX 64)), (0, .ref 0)], [], H3)) rfl rfl (decide_eq_true rfl) ?_
  refine q_Ru_seg (g2 := (2132, [(4, .int 4), (3, .ref (βX 103)), (2, .ref (βM 64)), (1, .ref (βX 64)), (0, .ref 0)], [.int 1], H3)) 9 (fun _ _ => rfl) ?_
  exact q_Ru_ret rfl rfl
theorem q_lw_isJammed {βX βM : Nat → Nat} {H : q_H} (hT : q_tw βX βM H) (z : Nat) (xs : Nat → Int32) : ∃ h, q_Ru (q_TBs z 4 xs) 12 377 (1136, [(4, .int 0), (3, .ref (βX 103)), (2, .ref (βM 64)), (1, .ref (βX 64)), (0, .ref 0)], [], H) (.inl (some (.int 1)), h) ∧ h.2.1 ≤ 600002 ∧ h.2.2 ≤ 7302231 := by
  obtain ⟨b, hV⟩ := q_op_isJammed
  obtain ⟨H2, H3, fs, fs2, a0, c1, a1, c2, n1, n2⟩ := q_tw_opV hT hV (fun _ => rfl) z 4 xs
  refine ⟨H3, ?_, by omega, by omega⟩
  refine q_Ru_seg (g2 := (1137, [(4, .int 0), (3, .ref (βX 103)), (2, .ref (βM 64)), (1, .ref (βX 64)), (0, .ref 0)], [.ref (βX 64)], H)) 1 (fun _ _ => rfl) ?_
  refine q_Ru_call (v := some (.int b)) (h2 := H2) rfl (q_fv_at a0 rfl (Nat.zero_le 8)) c1 ?_
  show q_Ru _ _ _ (1140, [(4, .int 0), (3, .ref (βX 103)), (2, .ref (βM 64)), (1, .ref (βX 64)), (0, .ref 0)], [.int b], H2) _
  refine q_Ru_seg (g2 := (1141, [(4, .int 0), (3, .ref (βX 103)), (2, .ref (βM 64)), (1, .ref (βX 64)), (0, .ref 0)], [.ref (βM 64), .int b], H2)) 1 (fun _ _ => rfl) ?_
  refine q_Ru_call (v := some (.int b)) (h2 := H3) rfl (q_fv_at a1 rfl (Nat.le_of_ble_eq_true rfl)) c2 ?_
  show q_Ru _ _ _ (1144, [(4, .int 0), (3, .ref (βX 103)), (2, .ref (βM 64)), (1, .ref (βX 64)), (0, .ref 0)], [.int b, .int b], H3) _
  refine q_Ru_rsT (g2 := (2125, [(4, .int 0), (3, .ref (βX 103)), (2, .ref (βM 64)), (1, .ref (βX 64)), (0, .ref 0)], [], H3)) rfl rfl (decide_eq_true rfl) ?_
  refine q_Ru_seg (g2 := (2132, [(4, .int 4), (3, .ref (βX 103)), (2, .ref (βM 64)), (1, .ref (βX 64)), (0, .ref 0)], [.int 1], H3)) 9 (fun _ _ => rfl) ?_
  exact q_Ru_ret rfl rfl
theorem q_lw_traceAt {βX βM : Nat → Nat} {H : q_H} (hT : q_tw βX βM H) (z : Nat) (xs : Nat → Int32) : ∃ h, q_Ru (q_TBs z 4 xs) 12 377 (1149, [(4, .int 0), (3, .ref (βX 103)), (2, .ref (βM 64)), (1, .ref (βX 64)), (0, .ref 0)], [], H) (.inl (some (.int 1)), h) ∧ h.2.1 ≤ 600002 ∧ h.2.2 ≤ 7302231 := by
  obtain ⟨r, b, w, hX, hM, hw⟩ := q_op_traceAt (xs 1)
  obtain ⟨H2, H3, f, fs, fs2, c1, c2, a1, a2, a3, a4, hf, n1, n2⟩ := q_tw_op hT hX hM hw (fun _ => rfl) z 4 xs
  refine ⟨H3, ?_, by omega, by omega⟩
  refine q_Ru_seg (g2 := (1155, [(4, .int 0), (3, .ref (βX 103)), (2, .ref (βM 64)), (1, .ref (βX 64)), (0, .ref 0)], [.int 1, .ref 0, .ref (βX 64)], H)) 5 (fun _ _ => rfl) ?_
  refine q_Ru_rsT (g2 := (1156, [(4, .int 0), (3, .ref (βX 103)), (2, .ref (βM 64)), (1, .ref (βX 64)), (0, .ref 0)], [.int (xs 1), .ref (βX 64)], H)) rfl rfl rfl ?_
  refine q_Ru_seg (g2 := (1157, [(4, .int 0), (3, .ref (βX 103)), (2, .ref (βM 64)), (1, .ref (βX 64)), (0, .ref 0)], [.ref (βX 103), .int (xs 1), .ref (βX 64)], H)) 1 (fun _ _ => rfl) ?_
  refine q_Ru_call (v := some (.int r)) (h2 := H2) rfl rfl c1 ?_
  show q_Ru _ _ _ (1160, [(4, .int 0), (3, .ref (βX 103)), (2, .ref (βM 64)), (1, .ref (βX 64)), (0, .ref 0)], [.int r], H2) _
  refine q_Ru_seg (g2 := (1168, [(5, .int r), (4, .int 0), (3, .ref (βX 103)), (2, .ref (βM 64)), (1, .ref (βX 64)), (0, .ref 0)], [.int 1, .ref 0, .ref (βM 64)], H2)) 6 (fun _ _ => rfl) ?_
  refine q_Ru_rsT (g2 := (1169, [(5, .int r), (4, .int 0), (3, .ref (βX 103)), (2, .ref (βM 64)), (1, .ref (βX 64)), (0, .ref 0)], [.int (xs 1), .ref (βM 64)], H2)) rfl rfl rfl ?_
  refine q_Ru_call (v := some (.int b)) (h2 := H3) rfl (q_fv_at a1 rfl (Nat.zero_le 8)) c2 ?_
  show q_Ru _ _ _ (1172, [(5, .int r), (4, .int 0), (3, .ref (βX 103)), (2, .ref (βM 64)), (1, .ref (βX 64)), (0, .ref 0)], [.int b], H3) _
  refine q_Ru_seg (g2 := (1175, [(6, .int b), (5, .int r), (4, .int 0), (3, .ref (βX 103)), (2, .ref (βM 64)), (1, .ref (βX 64)), (0, .ref 0)], [.ref (βM 64)], H3)) 2 (fun _ _ => rfl) ?_
  refine q_Ru_call (v := some (.int r)) (h2 := H3) rfl (q_fv_at a2 rfl (Nat.zero_le 8)) (q_thrown a2 a3) ?_
  show q_Ru _ _ _ (1178, [(6, .int b), (5, .int r), (4, .int 0), (3, .ref (βX 103)), (2, .ref (βM 64)), (1, .ref (βX 64)), (0, .ref 0)], [.int r], H3) _
  refine q_Ru_seg (g2 := (1180, [(6, .int b), (5, .int r), (4, .int 0), (3, .ref (βX 103)), (2, .ref (βM 64)), (1, .ref (βX 64)), (0, .ref 0)], [.int r, .int r], H3)) 1 (fun _ _ => rfl) ?_
  refine q_Ru_rsT (g2 := (1185, [(6, .int b), (5, .int r), (4, .int 0), (3, .ref (βX 103)), (2, .ref (βM 64)), (1, .ref (βX 64)), (0, .ref 0)], [], H3)) rfl rfl (decide_eq_true rfl) ?_
  refine q_Ru_seg (g2 := (1187, [(6, .int b), (5, .int r), (4, .int 0), (3, .ref (βX 103)), (2, .ref (βM 64)), (1, .ref (βX 64)), (0, .ref 0)], [.int r], H3)) 1 (fun _ _ => rfl) ?_
  by_cases hr : r = 0
  · have hf9 := hf hr
    subst hr
    refine q_Ru_seg (g2 := (1190, [(6, .int b), (5, .int 0), (4, .int 0), (3, .ref (βX 103)), (2, .ref (βM 64)), (1, .ref (βX 64)), (0, .ref 0)], [], H3)) 1 (fun _ _ => rfl) ?_
    refine q_Ru_seg (g2 := (1192, [(6, .int b), (5, .int 0), (4, .int 0), (3, .ref (βX 103)), (2, .ref (βM 64)), (1, .ref (βX 64)), (0, .ref 0)], [.int 0, .ref (βX 103)], H3)) 2 (fun _ _ => rfl) ?_
    refine q_Ru_rsT (g2 := (1193, [(6, .int b), (5, .int 0), (4, .int 0), (3, .ref (βX 103)), (2, .ref (βM 64)), (1, .ref (βX 64)), (0, .ref 0)], [.long (f 0)], H3)) rfl (q_lld_at a4) rfl ?_
    rw [hf9]
    refine q_Ru_seg (g2 := (1197, [(6, .int b), (5, .int 0), (4, .int 0), (3, .ref (βX 103)), (2, .ref (βM 64)), (1, .ref (βX 64)), (0, .ref 0)], [.int (lg_cmp b.toInt64 b.toInt64)], H3)) 3 (fun _ _ => rfl) ?_
    rw [q_lcmp_rf]
    refine q_Ru_seg (g2 := (1202, [(6, .int b), (5, .int 0), (4, .int 0), (3, .ref (βX 103)), (2, .ref (βM 64)), (1, .ref (βX 64)), (0, .ref 0)], [], H3)) 1 (fun _ _ => rfl) ?_
    refine q_Ru_seg (g2 := (2132, [(4, .int 4), (6, .int b), (5, .int 0), (3, .ref (βX 103)), (2, .ref (βM 64)), (1, .ref (βX 64)), (0, .ref 0)], [.int 1], H3)) 10 (fun _ _ => rfl) ?_
    exact q_Ru_ret rfl rfl
  · refine q_Ru_rsT (g2 := (1202, [(6, .int b), (5, .int r), (4, .int 0), (3, .ref (βX 103)), (2, .ref (βM 64)), (1, .ref (βX 64)), (0, .ref 0)], [], H3)) rfl rfl (decide_eq_true hr) ?_
    refine q_Ru_seg (g2 := (2132, [(4, .int 4), (6, .int b), (5, .int r), (3, .ref (βX 103)), (2, .ref (βM 64)), (1, .ref (βX 64)), (0, .ref 0)], [.int 1], H3)) 10 (fun _ _ => rfl) ?_
    exact q_Ru_ret rfl rfl
theorem q_lw_pixel {βX βM : Nat → Nat} {H : q_H} (hT : q_tw βX βM H) (z : Nat) (xs : Nat → Int32) : ∃ h, q_Ru (q_TBs z 4 xs) 12 377 (1205, [(4, .int 0), (3, .ref (βX 103)), (2, .ref (βM 64)), (1, .ref (βX 64)), (0, .ref 0)], [], H) (.inl (some (.int 1)), h) ∧ h.2.1 ≤ 600002 ∧ h.2.2 ≤ 7302231 := by
  obtain ⟨r, b, w, hX, hM, hw⟩ := q_op_pixel (xs 1) (xs 2)
  obtain ⟨H2, H3, f, fs, fs2, c1, c2, a1, a2, a3, a4, hf, n1, n2⟩ := q_tw_op hT hX hM hw (fun _ => rfl) z 4 xs
  refine ⟨H3, ?_, by omega, by omega⟩
  refine q_Ru_seg (g2 := (1211, [(4, .int 0), (3, .ref (βX 103)), (2, .ref (βM 64)), (1, .ref (βX 64)), (0, .ref 0)], [.int 1, .ref 0, .ref (βX 64)], H)) 5 (fun _ _ => rfl) ?_
  refine q_Ru_rsT (g2 := (1212, [(4, .int 0), (3, .ref (βX 103)), (2, .ref (βM 64)), (1, .ref (βX 64)), (0, .ref 0)], [.int (xs 1), .ref (βX 64)], H)) rfl rfl rfl ?_
  refine q_Ru_seg (g2 := (1217, [(4, .int 0), (3, .ref (βX 103)), (2, .ref (βM 64)), (1, .ref (βX 64)), (0, .ref 0)], [.int 2, .ref 0, .int (xs 1), .ref (βX 64)], H)) 4 (fun _ _ => rfl) ?_
  refine q_Ru_rsT (g2 := (1218, [(4, .int 0), (3, .ref (βX 103)), (2, .ref (βM 64)), (1, .ref (βX 64)), (0, .ref 0)], [.int (xs 2), .int (xs 1), .ref (βX 64)], H)) rfl rfl rfl ?_
  refine q_Ru_seg (g2 := (1219, [(4, .int 0), (3, .ref (βX 103)), (2, .ref (βM 64)), (1, .ref (βX 64)), (0, .ref 0)], [.ref (βX 103), .int (xs 2), .int (xs 1), .ref (βX 64)], H)) 1 (fun _ _ => rfl) ?_
  refine q_Ru_call (v := some (.int r)) (h2 := H2) rfl rfl c1 ?_
  show q_Ru _ _ _ (1222, [(4, .int 0), (3, .ref (βX 103)), (2, .ref (βM 64)), (1, .ref (βX 64)), (0, .ref 0)], [.int r], H2) _
  refine q_Ru_seg (g2 := (1230, [(5, .int r), (4, .int 0), (3, .ref (βX 103)), (2, .ref (βM 64)), (1, .ref (βX 64)), (0, .ref 0)], [.int 1, .ref 0, .ref (βM 64)], H2)) 6 (fun _ _ => rfl) ?_
  refine q_Ru_rsT (g2 := (1231, [(5, .int r), (4, .int 0), (3, .ref (βX 103)), (2, .ref (βM 64)), (1, .ref (βX 64)), (0, .ref 0)], [.int (xs 1), .ref (βM 64)], H2)) rfl rfl rfl ?_
  refine q_Ru_seg (g2 := (1236, [(5, .int r), (4, .int 0), (3, .ref (βX 103)), (2, .ref (βM 64)), (1, .ref (βX 64)), (0, .ref 0)], [.int 2, .ref 0, .int (xs 1), .ref (βM 64)], H2)) 4 (fun _ _ => rfl) ?_
  refine q_Ru_rsT (g2 := (1237, [(5, .int r), (4, .int 0), (3, .ref (βX 103)), (2, .ref (βM 64)), (1, .ref (βX 64)), (0, .ref 0)], [.int (xs 2), .int (xs 1), .ref (βM 64)], H2)) rfl rfl rfl ?_
  refine q_Ru_call (v := some (.int b)) (h2 := H3) rfl (q_fv_at a1 rfl (Nat.zero_le 8)) c2 ?_
  show q_Ru _ _ _ (1240, [(5, .int r), (4, .int 0), (3, .ref (βX 103)), (2, .ref (βM 64)), (1, .ref (βX 64)), (0, .ref 0)], [.int b], H3) _
  refine q_Ru_seg (g2 := (1243, [(6, .int b), (5, .int r), (4, .int 0), (3, .ref (βX 103)), (2, .ref (βM 64)), (1, .ref (βX 64)), (0, .ref 0)], [.ref (βM 64)], H3)) 2 (fun _ _ => rfl) ?_
  refine q_Ru_call (v := some (.int r)) (h2 := H3) rfl (q_fv_at a2 rfl (Nat.zero_le 8)) (q_thrown a2 a3) ?_
  show q_Ru _ _ _ (1246, [(6, .int b), (5, .int r), (4, .int 0), (3, .ref (βX 103)), (2, .ref (βM 64)), (1, .ref (βX 64)), (0, .ref 0)], [.int r], H3) _
  refine q_Ru_seg (g2 := (1248, [(6, .int b), (5, .int r), (4, .int 0), (3, .ref (βX 103)), (2, .ref (βM 64)), (1, .ref (βX 64)), (0, .ref 0)], [.int r, .int r], H3)) 1 (fun _ _ => rfl) ?_
  refine q_Ru_rsT (g2 := (1253, [(6, .int b), (5, .int r), (4, .int 0), (3, .ref (βX 103)), (2, .ref (βM 64)), (1, .ref (βX 64)), (0, .ref 0)], [], H3)) rfl rfl (decide_eq_true rfl) ?_
  refine q_Ru_seg (g2 := (1255, [(6, .int b), (5, .int r), (4, .int 0), (3, .ref (βX 103)), (2, .ref (βM 64)), (1, .ref (βX 64)), (0, .ref 0)], [.int r], H3)) 1 (fun _ _ => rfl) ?_
  by_cases hr : r = 0
  · have hf9 := hf hr
    subst hr
    refine q_Ru_seg (g2 := (1258, [(6, .int b), (5, .int 0), (4, .int 0), (3, .ref (βX 103)), (2, .ref (βM 64)), (1, .ref (βX 64)), (0, .ref 0)], [], H3)) 1 (fun _ _ => rfl) ?_
    refine q_Ru_seg (g2 := (1260, [(6, .int b), (5, .int 0), (4, .int 0), (3, .ref (βX 103)), (2, .ref (βM 64)), (1, .ref (βX 64)), (0, .ref 0)], [.int 0, .ref (βX 103)], H3)) 2 (fun _ _ => rfl) ?_
    refine q_Ru_rsT (g2 := (1261, [(6, .int b), (5, .int 0), (4, .int 0), (3, .ref (βX 103)), (2, .ref (βM 64)), (1, .ref (βX 64)), (0, .ref 0)], [.long (f 0)], H3)) rfl (q_lld_at a4) rfl ?_
    rw [hf9]
    refine q_Ru_seg (g2 := (1265, [(6, .int b), (5, .int 0), (4, .int 0), (3, .ref (βX 103)), (2, .ref (βM 64)), (1, .ref (βX 64)), (0, .ref 0)], [.int (lg_cmp b.toInt64 b.toInt64)], H3)) 3 (fun _ _ => rfl) ?_
    rw [q_lcmp_rf]
    refine q_Ru_seg (g2 := (1270, [(6, .int b), (5, .int 0), (4, .int 0), (3, .ref (βX 103)), (2, .ref (βM 64)), (1, .ref (βX 64)), (0, .ref 0)], [], H3)) 1 (fun _ _ => rfl) ?_
    refine q_Ru_seg (g2 := (2132, [(4, .int 4), (6, .int b), (5, .int 0), (3, .ref (βX 103)), (2, .ref (βM 64)), (1, .ref (βX 64)), (0, .ref 0)], [.int 1], H3)) 10 (fun _ _ => rfl) ?_
    exact q_Ru_ret rfl rfl
  · refine q_Ru_rsT (g2 := (1270, [(6, .int b), (5, .int r), (4, .int 0), (3, .ref (βX 103)), (2, .ref (βM 64)), (1, .ref (βX 64)), (0, .ref 0)], [], H3)) rfl rfl (decide_eq_true hr) ?_
    refine q_Ru_seg (g2 := (2132, [(4, .int 4), (6, .int b), (5, .int r), (3, .ref (βX 103)), (2, .ref (βM 64)), (1, .ref (βX 64)), (0, .ref 0)], [.int 1], H3)) 10 (fun _ _ => rfl) ?_
    exact q_Ru_ret rfl rfl
theorem q_lw_pixelAgain {βX βM : Nat → Nat} {H : q_H} (hT : q_tw βX βM H) (z : Nat) (xs : Nat → Int32) : ∃ h, q_Ru (q_TBs z 4 xs) 12 377 (1273, [(4, .int 0), (3, .ref (βX 103)), (2, .ref (βM 64)), (1, .ref (βX 64)), (0, .ref 0)], [], H) (.inl (some (.int 1)), h) ∧ h.2.1 ≤ 600002 ∧ h.2.2 ≤ 7302231 := by
  obtain ⟨r, b, w, hX, hM, hw⟩ := q_op_pixelAgain (xs 1) (xs 2)
  obtain ⟨H2, H3, f, fs, fs2, c1, c2, a1, a2, a3, a4, hf, n1, n2⟩ := q_tw_op hT hX hM hw (fun _ => rfl) z 4 xs
  refine ⟨H3, ?_, by omega, by omega⟩
  refine q_Ru_seg (g2 := (1279, [(4, .int 0), (3, .ref (βX 103)), (2, .ref (βM 64)), (1, .ref (βX 64)), (0, .ref 0)], [.int 1, .ref 0, .ref (βX 64)], H)) 5 (fun _ _ => rfl) ?_
  refine q_Ru_rsT (g2 := (1280, [(4, .int 0), (3, .ref (βX 103)), (2, .ref (βM 64)), (1, .ref (βX 64)), (0, .ref 0)], [.int (xs 1), .ref (βX 64)], H)) rfl rfl rfl ?_
  refine q_Ru_seg (g2 := (1285, [(4, .int 0), (3, .ref (βX 103)), (2, .ref (βM 64)), (1, .ref (βX 64)), (0, .ref 0)], [.int 2, .ref 0, .int (xs 1), .ref (βX 64)], H)) 4 (fun _ _ => rfl) ?_
  refine q_Ru_rsT (g2 := (1286, [(4, .int 0), (3, .ref (βX 103)), (2, .ref (βM 64)), (1, .ref (βX 64)), (0, .ref 0)], [.int (xs 2), .int (xs 1), .ref (βX 64)], H)) rfl rfl rfl ?_
  refine q_Ru_seg (g2 := (1287, [(4, .int 0), (3, .ref (βX 103)), (2, .ref (βM 64)), (1, .ref (βX 64)), (0, .ref 0)], [.ref (βX 103), .int (xs 2), .int (xs 1), .ref (βX 64)], H)) 1 (fun _ _ => rfl) ?_
  refine q_Ru_call (v := some (.int r)) (h2 := H2) rfl rfl c1 ?_
  show q_Ru _ _ _ (1290, [(4, .int 0), (3, .ref (βX 103)), (2, .ref (βM 64)), (1, .ref (βX 64)), (0, .ref 0)], [.int r], H2) _
  refine q_Ru_seg (g2 := (1298, [(5, .int r), (4, .int 0), (3, .ref (βX 103)), (2, .ref (βM 64)), (1, .ref (βX 64)), (0, .ref 0)], [.int 1, .ref 0, .ref (βM 64)], H2)) 6 (fun _ _ => rfl) ?_
  refine q_Ru_rsT (g2 := (1299, [(5, .int r), (4, .int 0), (3, .ref (βX 103)), (2, .ref (βM 64)), (1, .ref (βX 64)), (0, .ref 0)], [.int (xs 1), .ref (βM 64)], H2)) rfl rfl rfl ?_
  refine q_Ru_seg (g2 := (1304, [(5, .int r), (4, .int 0), (3, .ref (βX 103)), (2, .ref (βM 64)), (1, .ref (βX 64)), (0, .ref 0)], [.int 2, .ref 0, .int (xs 1), .ref (βM 64)], H2)) 4 (fun _ _ => rfl) ?_
  refine q_Ru_rsT (g2 := (1305, [(5, .int r), (4, .int 0), (3, .ref (βX 103)), (2, .ref (βM 64)), (1, .ref (βX 64)), (0, .ref 0)], [.int (xs 2), .int (xs 1), .ref (βM 64)], H2)) rfl rfl rfl ?_
  refine q_Ru_call (v := some (.int b)) (h2 := H3) rfl (q_fv_at a1 rfl (Nat.zero_le 8)) c2 ?_
  show q_Ru _ _ _ (1308, [(5, .int r), (4, .int 0), (3, .ref (βX 103)), (2, .ref (βM 64)), (1, .ref (βX 64)), (0, .ref 0)], [.int b], H3) _
  refine q_Ru_seg (g2 := (1311, [(6, .int b), (5, .int r), (4, .int 0), (3, .ref (βX 103)), (2, .ref (βM 64)), (1, .ref (βX 64)), (0, .ref 0)], [.ref (βM 64)], H3)) 2 (fun _ _ => rfl) ?_
  refine q_Ru_call (v := some (.int r)) (h2 := H3) rfl (q_fv_at a2 rfl (Nat.zero_le 8)) (q_thrown a2 a3) ?_
  show q_Ru _ _ _ (1314, [(6, .int b), (5, .int r), (4, .int 0), (3, .ref (βX 103)), (2, .ref (βM 64)), (1, .ref (βX 64)), (0, .ref 0)], [.int r], H3) _
  refine q_Ru_seg (g2 := (1316, [(6, .int b), (5, .int r), (4, .int 0), (3, .ref (βX 103)), (2, .ref (βM 64)), (1, .ref (βX 64)), (0, .ref 0)], [.int r, .int r], H3)) 1 (fun _ _ => rfl) ?_
  refine q_Ru_rsT (g2 := (1321, [(6, .int b), (5, .int r), (4, .int 0), (3, .ref (βX 103)), (2, .ref (βM 64)), (1, .ref (βX 64)), (0, .ref 0)], [], H3)) rfl rfl (decide_eq_true rfl) ?_
  refine q_Ru_seg (g2 := (1323, [(6, .int b), (5, .int r), (4, .int 0), (3, .ref (βX 103)), (2, .ref (βM 64)), (1, .ref (βX 64)), (0, .ref 0)], [.int r], H3)) 1 (fun _ _ => rfl) ?_
  by_cases hr : r = 0
  · have hf9 := hf hr
    subst hr
    refine q_Ru_seg (g2 := (1326, [(6, .int b), (5, .int 0), (4, .int 0), (3, .ref (βX 103)), (2, .ref (βM 64)), (1, .ref (βX 64)), (0, .ref 0)], [], H3)) 1 (fun _ _ => rfl) ?_
    refine q_Ru_seg (g2 := (1328, [(6, .int b), (5, .int 0), (4, .int 0), (3, .ref (βX 103)), (2, .ref (βM 64)), (1, .ref (βX 64)), (0, .ref 0)], [.int 0, .ref (βX 103)], H3)) 2 (fun _ _ => rfl) ?_
    refine q_Ru_rsT (g2 := (1329, [(6, .int b), (5, .int 0), (4, .int 0), (3, .ref (βX 103)), (2, .ref (βM 64)), (1, .ref (βX 64)), (0, .ref 0)], [.long (f 0)], H3)) rfl (q_lld_at a4) rfl ?_
    rw [hf9]
    refine q_Ru_seg (g2 := (1333, [(6, .int b), (5, .int 0), (4, .int 0), (3, .ref (βX 103)), (2, .ref (βM 64)), (1, .ref (βX 64)), (0, .ref 0)], [.int (lg_cmp b.toInt64 b.toInt64)], H3)) 3 (fun _ _ => rfl) ?_
    rw [q_lcmp_rf]
    refine q_Ru_seg (g2 := (1338, [(6, .int b), (5, .int 0), (4, .int 0), (3, .ref (βX 103)), (2, .ref (βM 64)), (1, .ref (βX 64)), (0, .ref 0)], [], H3)) 1 (fun _ _ => rfl) ?_
    refine q_Ru_seg (g2 := (2132, [(4, .int 4), (6, .int b), (5, .int 0), (3, .ref (βX 103)), (2, .ref (βM 64)), (1, .ref (βX 64)), (0, .ref 0)], [.int 1], H3)) 10 (fun _ _ => rfl) ?_
    exact q_Ru_ret rfl rfl
  · refine q_Ru_rsT (g2 := (1338, [(6, .int b), (5, .int r), (4, .int 0), (3, .ref (βX 103)), (2, .ref (βM 64)), (1, .ref (βX 64)), (0, .ref 0)], [], H3)) rfl rfl (decide_eq_true hr) ?_
    refine q_Ru_seg (g2 := (2132, [(4, .int 4), (6, .int b), (5, .int r), (3, .ref (βX 103)), (2, .ref (βM 64)), (1, .ref (βX 64)), (0, .ref 0)], [.int 1], H3)) 10 (fun _ _ => rfl) ?_
    exact q_Ru_ret rfl rfl
theorem q_lw_sample {βX βM : Nat → Nat} {H : q_H} (hT : q_tw βX βM H) (z : Nat) (xs : Nat → Int32) : ∃ h, q_Ru (q_TBs z 4 xs) 12 377 (1341, [(4, .int 0), (3, .ref (βX 103)), (2, .ref (βM 64)), (1, .ref (βX 64)), (0, .ref 0)], [], H) (.inl (some (.int 1)), h) ∧ h.2.1 ≤ 600002 ∧ h.2.2 ≤ 7302231 := by
  obtain ⟨r, b, w, hX, hM, hw⟩ := q_op_sample (xs 1)
  obtain ⟨H2, H3, f, fs, fs2, c1, c2, a1, a2, a3, a4, hf, n1, n2⟩ := q_tw_op hT hX hM hw (fun _ => rfl) z 4 xs
  refine ⟨H3, ?_, by omega, by omega⟩
  refine q_Ru_seg (g2 := (1347, [(4, .int 0), (3, .ref (βX 103)), (2, .ref (βM 64)), (1, .ref (βX 64)), (0, .ref 0)], [.int 1, .ref 0, .ref (βX 64)], H)) 5 (fun _ _ => rfl) ?_
  refine q_Ru_rsT (g2 := (1348, [(4, .int 0), (3, .ref (βX 103)), (2, .ref (βM 64)), (1, .ref (βX 64)), (0, .ref 0)], [.int (xs 1), .ref (βX 64)], H)) rfl rfl rfl ?_
  refine q_Ru_seg (g2 := (1349, [(4, .int 0), (3, .ref (βX 103)), (2, .ref (βM 64)), (1, .ref (βX 64)), (0, .ref 0)], [.ref (βX 103), .int (xs 1), .ref (βX 64)], H)) 1 (fun _ _ => rfl) ?_
  refine q_Ru_call (v := some (.int r)) (h2 := H2) rfl rfl c1 ?_
  show q_Ru _ _ _ (1352, [(4, .int 0), (3, .ref (βX 103)), (2, .ref (βM 64)), (1, .ref (βX 64)), (0, .ref 0)], [.int r], H2) _
  refine q_Ru_seg (g2 := (1360, [(5, .int r), (4, .int 0), (3, .ref (βX 103)), (2, .ref (βM 64)), (1, .ref (βX 64)), (0, .ref 0)], [.int 1, .ref 0, .ref (βM 64)], H2)) 6 (fun _ _ => rfl) ?_
  refine q_Ru_rsT (g2 := (1361, [(5, .int r), (4, .int 0), (3, .ref (βX 103)), (2, .ref (βM 64)), (1, .ref (βX 64)), (0, .ref 0)], [.int (xs 1), .ref (βM 64)], H2)) rfl rfl rfl ?_
  refine q_Ru_call (v := some (.int b)) (h2 := H3) rfl (q_fv_at a1 rfl (Nat.zero_le 8)) c2 ?_
  show q_Ru _ _ _ (1364, [(5, .int r), (4, .int 0), (3, .ref (βX 103)), (2, .ref (βM 64)), (1, .ref (βX 64)), (0, .ref 0)], [.int b], H3) _
  refine q_Ru_seg (g2 := (1367, [(6, .int b), (5, .int r), (4, .int 0), (3, .ref (βX 103)), (2, .ref (βM 64)), (1, .ref (βX 64)), (0, .ref 0)], [.ref (βM 64)], H3)) 2 (fun _ _ => rfl) ?_
  refine q_Ru_call (v := some (.int r)) (h2 := H3) rfl (q_fv_at a2 rfl (Nat.zero_le 8)) (q_thrown a2 a3) ?_
  show q_Ru _ _ _ (1370, [(6, .int b), (5, .int r), (4, .int 0), (3, .ref (βX 103)), (2, .ref (βM 64)), (1, .ref (βX 64)), (0, .ref 0)], [.int r], H3) _
  refine q_Ru_seg (g2 := (1372, [(6, .int b), (5, .int r), (4, .int 0), (3, .ref (βX 103)), (2, .ref (βM 64)), (1, .ref (βX 64)), (0, .ref 0)], [.int r, .int r], H3)) 1 (fun _ _ => rfl) ?_
  refine q_Ru_rsT (g2 := (1377, [(6, .int b), (5, .int r), (4, .int 0), (3, .ref (βX 103)), (2, .ref (βM 64)), (1, .ref (βX 64)), (0, .ref 0)], [], H3)) rfl rfl (decide_eq_true rfl) ?_
  refine q_Ru_seg (g2 := (1379, [(6, .int b), (5, .int r), (4, .int 0), (3, .ref (βX 103)), (2, .ref (βM 64)), (1, .ref (βX 64)), (0, .ref 0)], [.int r], H3)) 1 (fun _ _ => rfl) ?_
  by_cases hr : r = 0
  · have hf9 := hf hr
    subst hr
    refine q_Ru_seg (g2 := (1382, [(6, .int b), (5, .int 0), (4, .int 0), (3, .ref (βX 103)), (2, .ref (βM 64)), (1, .ref (βX 64)), (0, .ref 0)], [], H3)) 1 (fun _ _ => rfl) ?_
    refine q_Ru_seg (g2 := (1384, [(6, .int b), (5, .int 0), (4, .int 0), (3, .ref (βX 103)), (2, .ref (βM 64)), (1, .ref (βX 64)), (0, .ref 0)], [.int 0, .ref (βX 103)], H3)) 2 (fun _ _ => rfl) ?_
    refine q_Ru_rsT (g2 := (1385, [(6, .int b), (5, .int 0), (4, .int 0), (3, .ref (βX 103)), (2, .ref (βM 64)), (1, .ref (βX 64)), (0, .ref 0)], [.long (f 0)], H3)) rfl (q_lld_at a4) rfl ?_
    rw [hf9]
    refine q_Ru_seg (g2 := (1389, [(6, .int b), (5, .int 0), (4, .int 0), (3, .ref (βX 103)), (2, .ref (βM 64)), (1, .ref (βX 64)), (0, .ref 0)], [.int (lg_cmp b.toInt64 b.toInt64)], H3)) 3 (fun _ _ => rfl) ?_
    rw [q_lcmp_rf]
    refine q_Ru_seg (g2 := (1394, [(6, .int b), (5, .int 0), (4, .int 0), (3, .ref (βX 103)), (2, .ref (βM 64)), (1, .ref (βX 64)), (0, .ref 0)], [], H3)) 1 (fun _ _ => rfl) ?_
    refine q_Ru_seg (g2 := (2132, [(4, .int 4), (6, .int b), (5, .int 0), (3, .ref (βX 103)), (2, .ref (βM 64)), (1, .ref (βX 64)), (0, .ref 0)], [.int 1], H3)) 10 (fun _ _ => rfl) ?_
    exact q_Ru_ret rfl rfl
  · refine q_Ru_rsT (g2 := (1394, [(6, .int b), (5, .int r), (4, .int 0), (3, .ref (βX 103)), (2, .ref (βM 64)), (1, .ref (βX 64)), (0, .ref 0)], [], H3)) rfl rfl (decide_eq_true hr) ?_
    refine q_Ru_seg (g2 := (2132, [(4, .int 4), (6, .int b), (5, .int r), (3, .ref (βX 103)), (2, .ref (βM 64)), (1, .ref (βX 64)), (0, .ref 0)], [.int 1], H3)) 10 (fun _ _ => rfl) ?_
    exact q_Ru_ret rfl rfl
theorem q_lw_level {βX βM : Nat → Nat} {H : q_H} (hT : q_tw βX βM H) (z : Nat) (xs : Nat → Int32) : ∃ h, q_Ru (q_TBs z 4 xs) 12 377 (1397, [(4, .int 0), (3, .ref (βX 103)), (2, .ref (βM 64)), (1, .ref (βX 64)), (0, .ref 0)], [], H) (.inl (some (.int 1)), h) ∧ h.2.1 ≤ 600002 ∧ h.2.2 ≤ 7302231 := by
  obtain ⟨r, b, w, hX, hM, hw⟩ := q_op_level (xs 1)
  obtain ⟨H2, H3, f, fs, fs2, c1, c2, a1, a2, a3, a4, hf, n1, n2⟩ := q_tw_op hT hX hM hw (fun _ => rfl) z 4 xs
  refine ⟨H3, ?_, by omega, by omega⟩
  refine q_Ru_seg (g2 := (1403, [(4, .int 0), (3, .ref (βX 103)), (2, .ref (βM 64)), (1, .ref (βX 64)), (0, .ref 0)], [.int 1, .ref 0, .ref (βX 64)], H)) 5 (fun _ _ => rfl) ?_
  refine q_Ru_rsT (g2 := (1404, [(4, .int 0), (3, .ref (βX 103)), (2, .ref (βM 64)), (1, .ref (βX 64)), (0, .ref 0)], [.int (xs 1), .ref (βX 64)], H)) rfl rfl rfl ?_
  refine q_Ru_seg (g2 := (1405, [(4, .int 0), (3, .ref (βX 103)), (2, .ref (βM 64)), (1, .ref (βX 64)), (0, .ref 0)], [.ref (βX 103), .int (xs 1), .ref (βX 64)], H)) 1 (fun _ _ => rfl) ?_
  refine q_Ru_call (v := some (.int r)) (h2 := H2) rfl rfl c1 ?_
  show q_Ru _ _ _ (1408, [(4, .int 0), (3, .ref (βX 103)), (2, .ref (βM 64)), (1, .ref (βX 64)), (0, .ref 0)], [.int r], H2) _
  refine q_Ru_seg (g2 := (1416, [(5, .int r), (4, .int 0), (3, .ref (βX 103)), (2, .ref (βM 64)), (1, .ref (βX 64)), (0, .ref 0)], [.int 1, .ref 0, .ref (βM 64)], H2)) 6 (fun _ _ => rfl) ?_
  refine q_Ru_rsT (g2 := (1417, [(5, .int r), (4, .int 0), (3, .ref (βX 103)), (2, .ref (βM 64)), (1, .ref (βX 64)), (0, .ref 0)], [.int (xs 1), .ref (βM 64)], H2)) rfl rfl rfl ?_
  refine q_Ru_call (v := some (.int b)) (h2 := H3) rfl (q_fv_at a1 rfl (Nat.zero_le 8)) c2 ?_
  show q_Ru _ _ _ (1420, [(5, .int r), (4, .int 0), (3, .ref (βX 103)), (2, .ref (βM 64)), (1, .ref (βX 64)), (0, .ref 0)], [.int b], H3) _
  refine q_Ru_seg (g2 := (1423, [(6, .int b), (5, .int r), (4, .int 0), (3, .ref (βX 103)), (2, .ref (βM 64)), (1, .ref (βX 64)), (0, .ref 0)], [.ref (βM 64)], H3)) 2 (fun _ _ => rfl) ?_
  refine q_Ru_call (v := some (.int r)) (h2 := H3) rfl (q_fv_at a2 rfl (Nat.zero_le 8)) (q_thrown a2 a3) ?_
  show q_Ru _ _ _ (1426, [(6, .int b), (5, .int r), (4, .int 0), (3, .ref (βX 103)), (2, .ref (βM 64)), (1, .ref (βX 64)), (0, .ref 0)], [.int r], H3) _
  refine q_Ru_seg (g2 := (1428, [(6, .int b), (5, .int r), (4, .int 0), (3, .ref (βX 103)), (2, .ref (βM 64)), (1, .ref (βX 64)), (0, .ref 0)], [.int r, .int r], H3)) 1 (fun _ _ => rfl) ?_
  refine q_Ru_rsT (g2 := (1433, [(6, .int b), (5, .int r), (4, .int 0), (3, .ref (βX 103)), (2, .ref (βM 64)), (1, .ref (βX 64)), (0, .ref 0)], [], H3)) rfl rfl (decide_eq_true rfl) ?_
  refine q_Ru_seg (g2 := (1435, [(6, .int b), (5, .int r), (4, .int 0), (3, .ref (βX 103)), (2, .ref (βM 64)), (1, .ref (βX 64)), (0, .ref 0)], [.int r], H3)) 1 (fun _ _ => rfl) ?_
  by_cases hr : r = 0
  · have hf9 := hf hr
    subst hr
    refine q_Ru_seg (g2 := (1438, [(6, .int b), (5, .int 0), (4, .int 0), (3, .ref (βX 103)), (2, .ref (βM 64)), (1, .ref (βX 64)), (0, .ref 0)], [], H3)) 1 (fun _ _ => rfl) ?_
    refine q_Ru_seg (g2 := (1440, [(6, .int b), (5, .int 0), (4, .int 0), (3, .ref (βX 103)), (2, .ref (βM 64)), (1, .ref (βX 64)), (0, .ref 0)], [.int 0, .ref (βX 103)], H3)) 2 (fun _ _ => rfl) ?_
    refine q_Ru_rsT (g2 := (1441, [(6, .int b), (5, .int 0), (4, .int 0), (3, .ref (βX 103)), (2, .ref (βM 64)), (1, .ref (βX 64)), (0, .ref 0)], [.long (f 0)], H3)) rfl (q_lld_at a4) rfl ?_
    rw [hf9]
    refine q_Ru_seg (g2 := (1445, [(6, .int b), (5, .int 0), (4, .int 0), (3, .ref (βX 103)), (2, .ref (βM 64)), (1, .ref (βX 64)), (0, .ref 0)], [.int (lg_cmp b.toInt64 b.toInt64)], H3)) 3 (fun _ _ => rfl) ?_
    rw [q_lcmp_rf]
    refine q_Ru_seg (g2 := (1450, [(6, .int b), (5, .int 0), (4, .int 0), (3, .ref (βX 103)), (2, .ref (βM 64)), (1, .ref (βX 64)), (0, .ref 0)], [], H3)) 1 (fun _ _ => rfl) ?_
    refine q_Ru_seg (g2 := (2132, [(4, .int 4), (6, .int b), (5, .int 0), (3, .ref (βX 103)), (2, .ref (βM 64)), (1, .ref (βX 64)), (0, .ref 0)], [.int 1], H3)) 10 (fun _ _ => rfl) ?_
    exact q_Ru_ret rfl rfl
  · refine q_Ru_rsT (g2 := (1450, [(6, .int b), (5, .int r), (4, .int 0), (3, .ref (βX 103)), (2, .ref (βM 64)), (1, .ref (βX 64)), (0, .ref 0)], [], H3)) rfl rfl (decide_eq_true hr) ?_
    refine q_Ru_seg (g2 := (2132, [(4, .int 4), (6, .int b), (5, .int r), (3, .ref (βX 103)), (2, .ref (βM 64)), (1, .ref (βX 64)), (0, .ref 0)], [.int 1], H3)) 10 (fun _ _ => rfl) ?_
    exact q_Ru_ret rfl rfl
theorem q_lw_key {βX βM : Nat → Nat} {H : q_H} (hT : q_tw βX βM H) (z : Nat) (xs : Nat → Int32) : ∃ h, q_Ru (q_TBs z 4 xs) 12 377 (1453, [(4, .int 0), (3, .ref (βX 103)), (2, .ref (βM 64)), (1, .ref (βX 64)), (0, .ref 0)], [], H) (.inl (some (.int 1)), h) ∧ h.2.1 ≤ 600002 ∧ h.2.2 ≤ 7302231 := by
  by_cases h3 : xs 3 = 0
  · have _h := h3
    obtain ⟨r, b, w, hX, hM, hw, hb⟩ := q_op_key0 (xs 1) (xs 2)
    obtain ⟨H2, H3, f, fs, fs2, c1, c2, a1, a2, a3, a4, hf, n1, n2⟩ := q_tw_op hT hX hM hw (fun _ => rfl) z 4 xs
    refine ⟨H3, ?_, by omega, by omega⟩
    refine q_Ru_seg (g2 := (1459, [(4, .int 0), (3, .ref (βX 103)), (2, .ref (βM 64)), (1, .ref (βX 64)), (0, .ref 0)], [.int 1, .ref 0, .ref (βX 64)], H)) 5 (fun _ _ => rfl) ?_
    refine q_Ru_rsT (g2 := (1460, [(4, .int 0), (3, .ref (βX 103)), (2, .ref (βM 64)), (1, .ref (βX 64)), (0, .ref 0)], [.int (xs 1), .ref (βX 64)], H)) rfl rfl rfl ?_
    refine q_Ru_seg (g2 := (1465, [(4, .int 0), (3, .ref (βX 103)), (2, .ref (βM 64)), (1, .ref (βX 64)), (0, .ref 0)], [.int 2, .ref 0, .int (xs 1), .ref (βX 64)], H)) 4 (fun _ _ => rfl) ?_
    refine q_Ru_rsT (g2 := (1466, [(4, .int 0), (3, .ref (βX 103)), (2, .ref (βM 64)), (1, .ref (βX 64)), (0, .ref 0)], [.int (xs 2), .int (xs 1), .ref (βX 64)], H)) rfl rfl rfl ?_
    refine q_Ru_seg (g2 := (1471, [(4, .int 0), (3, .ref (βX 103)), (2, .ref (βM 64)), (1, .ref (βX 64)), (0, .ref 0)], [.int 3, .ref 0, .int (xs 2), .int (xs 1), .ref (βX 64)], H)) 4 (fun _ _ => rfl) ?_
    refine q_Ru_rsT (g2 := (1472, [(4, .int 0), (3, .ref (βX 103)), (2, .ref (βM 64)), (1, .ref (βX 64)), (0, .ref 0)], [.int (xs 3), .int (xs 2), .int (xs 1), .ref (βX 64)], H)) rfl rfl rfl ?_
    refine q_Ru_rsT (g2 := (1479, [(4, .int 0), (3, .ref (βX 103)), (2, .ref (βM 64)), (1, .ref (βX 64)), (0, .ref 0)], [.int (xs 2), .int (xs 1), .ref (βX 64)], H)) rfl rfl (decide_eq_true h3) ?_
    refine q_Ru_seg (g2 := (1481, [(4, .int 0), (3, .ref (βX 103)), (2, .ref (βM 64)), (1, .ref (βX 64)), (0, .ref 0)], [.ref (βX 103), .int 0, .int (xs 2), .int (xs 1), .ref (βX 64)], H)) 2 (fun _ _ => rfl) ?_
    refine q_Ru_call (v := some (.int r)) (h2 := H2) rfl rfl c1 ?_
    show q_Ru _ _ _ (1484, [(4, .int 0), (3, .ref (βX 103)), (2, .ref (βM 64)), (1, .ref (βX 64)), (0, .ref 0)], [.int r], H2) _
    refine q_Ru_seg (g2 := (1492, [(5, .int r), (4, .int 0), (3, .ref (βX 103)), (2, .ref (βM 64)), (1, .ref (βX 64)), (0, .ref 0)], [.int 1, .ref 0, .ref (βM 64)], H2)) 6 (fun _ _ => rfl) ?_
    refine q_Ru_rsT (g2 := (1493, [(5, .int r), (4, .int 0), (3, .ref (βX 103)), (2, .ref (βM 64)), (1, .ref (βX 64)), (0, .ref 0)], [.int (xs 1), .ref (βM 64)], H2)) rfl rfl rfl ?_
    refine q_Ru_seg (g2 := (1498, [(5, .int r), (4, .int 0), (3, .ref (βX 103)), (2, .ref (βM 64)), (1, .ref (βX 64)), (0, .ref 0)], [.int 2, .ref 0, .int (xs 1), .ref (βM 64)], H2)) 4 (fun _ _ => rfl) ?_
    refine q_Ru_rsT (g2 := (1499, [(5, .int r), (4, .int 0), (3, .ref (βX 103)), (2, .ref (βM 64)), (1, .ref (βX 64)), (0, .ref 0)], [.int (xs 2), .int (xs 1), .ref (βM 64)], H2)) rfl rfl rfl ?_
    refine q_Ru_seg (g2 := (1504, [(5, .int r), (4, .int 0), (3, .ref (βX 103)), (2, .ref (βM 64)), (1, .ref (βX 64)), (0, .ref 0)], [.int 3, .ref 0, .int (xs 2), .int (xs 1), .ref (βM 64)], H2)) 4 (fun _ _ => rfl) ?_
    refine q_Ru_rsT (g2 := (1505, [(5, .int r), (4, .int 0), (3, .ref (βX 103)), (2, .ref (βM 64)), (1, .ref (βX 64)), (0, .ref 0)], [.int (xs 3), .int (xs 2), .int (xs 1), .ref (βM 64)], H2)) rfl rfl rfl ?_
    refine q_Ru_rsT (g2 := (1512, [(5, .int r), (4, .int 0), (3, .ref (βX 103)), (2, .ref (βM 64)), (1, .ref (βX 64)), (0, .ref 0)], [.int (xs 2), .int (xs 1), .ref (βM 64)], H2)) rfl rfl (decide_eq_true h3) ?_
    refine q_Ru_seg (g2 := (1513, [(5, .int r), (4, .int 0), (3, .ref (βX 103)), (2, .ref (βM 64)), (1, .ref (βX 64)), (0, .ref 0)], [.int 0, .int (xs 2), .int (xs 1), .ref (βM 64)], H2)) 1 (fun _ _ => rfl) ?_
    refine q_Ru_call (v := some (.int b)) (h2 := H3) rfl (q_fv_at a1 rfl (Nat.zero_le 8)) c2 ?_
    show q_Ru _ _ _ (1516, [(5, .int r), (4, .int 0), (3, .ref (βX 103)), (2, .ref (βM 64)), (1, .ref (βX 64)), (0, .ref 0)], [.int b], H3) _
    refine q_Ru_seg (g2 := (1519, [(6, .int b), (5, .int r), (4, .int 0), (3, .ref (βX 103)), (2, .ref (βM 64)), (1, .ref (βX 64)), (0, .ref 0)], [.ref (βM 64)], H3)) 2 (fun _ _ => rfl) ?_
    refine q_Ru_call (v := some (.int r)) (h2 := H3) rfl (q_fv_at a2 rfl (Nat.zero_le 8)) (q_thrown a2 a3) ?_
    show q_Ru _ _ _ (1522, [(6, .int b), (5, .int r), (4, .int 0), (3, .ref (βX 103)), (2, .ref (βM 64)), (1, .ref (βX 64)), (0, .ref 0)], [.int r], H3) _
    refine q_Ru_seg (g2 := (1524, [(6, .int b), (5, .int r), (4, .int 0), (3, .ref (βX 103)), (2, .ref (βM 64)), (1, .ref (βX 64)), (0, .ref 0)], [.int r, .int r], H3)) 1 (fun _ _ => rfl) ?_
    refine q_Ru_rsT (g2 := (1529, [(6, .int b), (5, .int r), (4, .int 0), (3, .ref (βX 103)), (2, .ref (βM 64)), (1, .ref (βX 64)), (0, .ref 0)], [], H3)) rfl rfl (decide_eq_true rfl) ?_
    refine q_Ru_seg (g2 := (1531, [(6, .int b), (5, .int r), (4, .int 0), (3, .ref (βX 103)), (2, .ref (βM 64)), (1, .ref (βX 64)), (0, .ref 0)], [.int r], H3)) 1 (fun _ _ => rfl) ?_
    by_cases hr : r = 0
    · have hf9 := hf hr
      subst hr
      refine q_Ru_seg (g2 := (1534, [(6, .int b), (5, .int 0), (4, .int 0), (3, .ref (βX 103)), (2, .ref (βM 64)), (1, .ref (βX 64)), (0, .ref 0)], [], H3)) 1 (fun _ _ => rfl) ?_
      refine q_Ru_seg (g2 := (1536, [(6, .int b), (5, .int 0), (4, .int 0), (3, .ref (βX 103)), (2, .ref (βM 64)), (1, .ref (βX 64)), (0, .ref 0)], [.int 0, .ref (βX 103)], H3)) 2 (fun _ _ => rfl) ?_
      refine q_Ru_rsT (g2 := (1537, [(6, .int b), (5, .int 0), (4, .int 0), (3, .ref (βX 103)), (2, .ref (βM 64)), (1, .ref (βX 64)), (0, .ref 0)], [.long (f 0)], H3)) rfl (q_lld_at a4) rfl ?_
      rw [hf9]
      rcases hb with hb | hb
      · subst hb
        show q_Ru _ _ _ (1537, [(6, .int 0), (5, .int 0), (4, .int 0), (3, .ref (βX 103)), (2, .ref (βM 64)), (1, .ref (βX 64)), (0, .ref 0)], [.long 0], H3) _
        refine q_Ru_seg (g2 := (1553, [(6, .int 0), (5, .int 0), (4, .int 0), (3, .ref (βX 103)), (2, .ref (βM 64)), (1, .ref (βX 64)), (0, .ref 0)], [], H3)) 5 (fun _ _ => rfl) ?_
        refine q_Ru_seg (g2 := (2132, [(4, .int 4), (6, .int 0), (5, .int 0), (3, .ref (βX 103)), (2, .ref (βM 64)), (1, .ref (βX 64)), (0, .ref 0)], [.int 1], H3)) 10 (fun _ _ => rfl) ?_
        exact q_Ru_ret rfl rfl
      · subst hb
        show q_Ru _ _ _ (1537, [(6, .int 1), (5, .int 0), (4, .int 0), (3, .ref (βX 103)), (2, .ref (βM 64)), (1, .ref (βX 64)), (0, .ref 0)], [.long 1], H3) _
        refine q_Ru_seg (g2 := (1553, [(6, .int 1), (5, .int 0), (4, .int 0), (3, .ref (βX 103)), (2, .ref (βM 64)), (1, .ref (βX 64)), (0, .ref 0)], [], H3)) 6 (fun _ _ => rfl) ?_
        refine q_Ru_seg (g2 := (2132, [(4, .int 4), (6, .int 1), (5, .int 0), (3, .ref (βX 103)), (2, .ref (βM 64)), (1, .ref (βX 64)), (0, .ref 0)], [.int 1], H3)) 10 (fun _ _ => rfl) ?_
        exact q_Ru_ret rfl rfl
    · refine q_Ru_rsT (g2 := (1553, [(6, .int b), (5, .int r), (4, .int 0), (3, .ref (βX 103)), (2, .ref (βM 64)), (1, .ref (βX 64)), (0, .ref 0)], [], H3)) rfl rfl (decide_eq_true hr) ?_
      refine q_Ru_seg (g2 := (2132, [(4, .int 4), (6, .int b), (5, .int r), (3, .ref (βX 103)), (2, .ref (βM 64)), (1, .ref (βX 64)), (0, .ref 0)], [.int 1], H3)) 10 (fun _ _ => rfl) ?_
      exact q_Ru_ret rfl rfl
  · have _h := h3
    obtain ⟨r, b, w, hX, hM, hw, hb⟩ := q_op_key1 (xs 1) (xs 2)
    obtain ⟨H2, H3, f, fs, fs2, c1, c2, a1, a2, a3, a4, hf, n1, n2⟩ := q_tw_op hT hX hM hw (fun _ => rfl) z 4 xs
    refine ⟨H3, ?_, by omega, by omega⟩
    refine q_Ru_seg (g2 := (1459, [(4, .int 0), (3, .ref (βX 103)), (2, .ref (βM 64)), (1, .ref (βX 64)), (0, .ref 0)], [.int 1, .ref 0, .ref (βX 64)], H)) 5 (fun _ _ => rfl) ?_
    refine q_Ru_rsT (g2 := (1460, [(4, .int 0), (3, .ref (βX 103)), (2, .ref (βM 64)), (1, .ref (βX 64)), (0, .ref 0)], [.int (xs 1), .ref (βX 64)], H)) rfl rfl rfl ?_
    refine q_Ru_seg (g2 := (1465, [(4, .int 0), (3, .ref (βX 103)), (2, .ref (βM 64)), (1, .ref (βX 64)), (0, .ref 0)], [.int 2, .ref 0, .int (xs 1), .ref (βX 64)], H)) 4 (fun _ _ => rfl) ?_
    refine q_Ru_rsT (g2 := (1466, [(4, .int 0), (3, .ref (βX 103)), (2, .ref (βM 64)), (1, .ref (βX 64)), (0, .ref 0)], [.int (xs 2), .int (xs 1), .ref (βX 64)], H)) rfl rfl rfl ?_
    refine q_Ru_seg (g2 := (1471, [(4, .int 0), (3, .ref (βX 103)), (2, .ref (βM 64)), (1, .ref (βX 64)), (0, .ref 0)], [.int 3, .ref 0, .int (xs 2), .int (xs 1), .ref (βX 64)], H)) 4 (fun _ _ => rfl) ?_
    refine q_Ru_rsT (g2 := (1472, [(4, .int 0), (3, .ref (βX 103)), (2, .ref (βM 64)), (1, .ref (βX 64)), (0, .ref 0)], [.int (xs 3), .int (xs 2), .int (xs 1), .ref (βX 64)], H)) rfl rfl rfl ?_
    refine q_Ru_rsF (g2 := (1475, [(4, .int 0), (3, .ref (βX 103)), (2, .ref (βM 64)), (1, .ref (βX 64)), (0, .ref 0)], [.int (xs 2), .int (xs 1), .ref (βX 64)], H)) rfl rfl (decide_eq_false h3) ?_
    refine q_Ru_seg (g2 := (1481, [(4, .int 0), (3, .ref (βX 103)), (2, .ref (βM 64)), (1, .ref (βX 64)), (0, .ref 0)], [.ref (βX 103), .int 1, .int (xs 2), .int (xs 1), .ref (βX 64)], H)) 3 (fun _ _ => rfl) ?_
    refine q_Ru_call (v := some (.int r)) (h2 := H2) rfl rfl c1 ?_
    show q_Ru _ _ _ (1484, [(4, .int 0), (3, .ref (βX 103)), (2, .ref (βM 64)), (1, .ref (βX 64)), (0, .ref 0)], [.int r], H2) _
    refine q_Ru_seg (g2 := (1492, [(5, .int r), (4, .int 0), (3, .ref (βX 103)), (2, .ref (βM 64)), (1, .ref (βX 64)), (0, .ref 0)], [.int 1, .ref 0, .ref (βM 64)], H2)) 6 (fun _ _ => rfl) ?_
    refine q_Ru_rsT (g2 := (1493, [(5, .int r), (4, .int 0), (3, .ref (βX 103)), (2, .ref (βM 64)), (1, .ref (βX 64)), (0, .ref 0)], [.int (xs 1), .ref (βM 64)], H2)) rfl rfl rfl ?_
    refine q_Ru_seg (g2 := (1498, [(5, .int r), (4, .int 0), (3, .ref (βX 103)), (2, .ref (βM 64)), (1, .ref (βX 64)), (0, .ref 0)], [.int 2, .ref 0, .int (xs 1), .ref (βM 64)], H2)) 4 (fun _ _ => rfl) ?_
    refine q_Ru_rsT (g2 := (1499, [(5, .int r), (4, .int 0), (3, .ref (βX 103)), (2, .ref (βM 64)), (1, .ref (βX 64)), (0, .ref 0)], [.int (xs 2), .int (xs 1), .ref (βM 64)], H2)) rfl rfl rfl ?_
    refine q_Ru_seg (g2 := (1504, [(5, .int r), (4, .int 0), (3, .ref (βX 103)), (2, .ref (βM 64)), (1, .ref (βX 64)), (0, .ref 0)], [.int 3, .ref 0, .int (xs 2), .int (xs 1), .ref (βM 64)], H2)) 4 (fun _ _ => rfl) ?_
    refine q_Ru_rsT (g2 := (1505, [(5, .int r), (4, .int 0), (3, .ref (βX 103)), (2, .ref (βM 64)), (1, .ref (βX 64)), (0, .ref 0)], [.int (xs 3), .int (xs 2), .int (xs 1), .ref (βM 64)], H2)) rfl rfl rfl ?_
    refine q_Ru_rsF (g2 := (1508, [(5, .int r), (4, .int 0), (3, .ref (βX 103)), (2, .ref (βM 64)), (1, .ref (βX 64)), (0, .ref 0)], [.int (xs 2), .int (xs 1), .ref (βM 64)], H2)) rfl rfl (decide_eq_false h3) ?_
    refine q_Ru_seg (g2 := (1513, [(5, .int r), (4, .int 0), (3, .ref (βX 103)), (2, .ref (βM 64)), (1, .ref (βX 64)), (0, .ref 0)], [.int 1, .int (xs 2), .int (xs 1), .ref (βM 64)], H2)) 2 (fun _ _ => rfl) ?_
    refine q_Ru_call (v := some (.int b)) (h2 := H3) rfl (q_fv_at a1 rfl (Nat.zero_le 8)) c2 ?_
    show q_Ru _ _ _ (1516, [(5, .int r), (4, .int 0), (3, .ref (βX 103)), (2, .ref (βM 64)), (1, .ref (βX 64)), (0, .ref 0)], [.int b], H3) _
    refine q_Ru_seg (g2 := (1519, [(6, .int b), (5, .int r), (4, .int 0), (3, .ref (βX 103)), (2, .ref (βM 64)), (1, .ref (βX 64)), (0, .ref 0)], [.ref (βM 64)], H3)) 2 (fun _ _ => rfl) ?_
    refine q_Ru_call (v := some (.int r)) (h2 := H3) rfl (q_fv_at a2 rfl (Nat.zero_le 8)) (q_thrown a2 a3) ?_
    show q_Ru _ _ _ (1522, [(6, .int b), (5, .int r), (4, .int 0), (3, .ref (βX 103)), (2, .ref (βM 64)), (1, .ref (βX 64)), (0, .ref 0)], [.int r], H3) _
    refine q_Ru_seg (g2 := (1524, [(6, .int b), (5, .int r), (4, .int 0), (3, .ref (βX 103)), (2, .ref (βM 64)), (1, .ref (βX 64)), (0, .ref 0)], [.int r, .int r], H3)) 1 (fun _ _ => rfl) ?_
    refine q_Ru_rsT (g2 := (1529, [(6, .int b), (5, .int r), (4, .int 0), (3, .ref (βX 103)), (2, .ref (βM 64)), (1, .ref (βX 64)), (0, .ref 0)], [], H3)) rfl rfl (decide_eq_true rfl) ?_
    refine q_Ru_seg (g2 := (1531, [(6, .int b), (5, .int r), (4, .int 0), (3, .ref (βX 103)), (2, .ref (βM 64)), (1, .ref (βX 64)), (0, .ref 0)], [.int r], H3)) 1 (fun _ _ => rfl) ?_
    by_cases hr : r = 0
    · have hf9 := hf hr
      subst hr
      refine q_Ru_seg (g2 := (1534, [(6, .int b), (5, .int 0), (4, .int 0), (3, .ref (βX 103)), (2, .ref (βM 64)), (1, .ref (βX 64)), (0, .ref 0)], [], H3)) 1 (fun _ _ => rfl) ?_
      refine q_Ru_seg (g2 := (1536, [(6, .int b), (5, .int 0), (4, .int 0), (3, .ref (βX 103)), (2, .ref (βM 64)), (1, .ref (βX 64)), (0, .ref 0)], [.int 0, .ref (βX 103)], H3)) 2 (fun _ _ => rfl) ?_
      refine q_Ru_rsT (g2 := (1537, [(6, .int b), (5, .int 0), (4, .int 0), (3, .ref (βX 103)), (2, .ref (βM 64)), (1, .ref (βX 64)), (0, .ref 0)], [.long (f 0)], H3)) rfl (q_lld_at a4) rfl ?_
      rw [hf9]
      rcases hb with hb | hb
      · subst hb
        show q_Ru _ _ _ (1537, [(6, .int 0), (5, .int 0), (4, .int 0), (3, .ref (βX 103)), (2, .ref (βM 64)), (1, .ref (βX 64)), (0, .ref 0)], [.long 0], H3) _
        refine q_Ru_seg (g2 := (1553, [(6, .int 0), (5, .int 0), (4, .int 0), (3, .ref (βX 103)), (2, .ref (βM 64)), (1, .ref (βX 64)), (0, .ref 0)], [], H3)) 5 (fun _ _ => rfl) ?_
        refine q_Ru_seg (g2 := (2132, [(4, .int 4), (6, .int 0), (5, .int 0), (3, .ref (βX 103)), (2, .ref (βM 64)), (1, .ref (βX 64)), (0, .ref 0)], [.int 1], H3)) 10 (fun _ _ => rfl) ?_
        exact q_Ru_ret rfl rfl
      · subst hb
        show q_Ru _ _ _ (1537, [(6, .int 1), (5, .int 0), (4, .int 0), (3, .ref (βX 103)), (2, .ref (βM 64)), (1, .ref (βX 64)), (0, .ref 0)], [.long 1], H3) _
        refine q_Ru_seg (g2 := (1553, [(6, .int 1), (5, .int 0), (4, .int 0), (3, .ref (βX 103)), (2, .ref (βM 64)), (1, .ref (βX 64)), (0, .ref 0)], [], H3)) 6 (fun _ _ => rfl) ?_
        refine q_Ru_seg (g2 := (2132, [(4, .int 4), (6, .int 1), (5, .int 0), (3, .ref (βX 103)), (2, .ref (βM 64)), (1, .ref (βX 64)), (0, .ref 0)], [.int 1], H3)) 10 (fun _ _ => rfl) ?_
        exact q_Ru_ret rfl rfl
    · refine q_Ru_rsT (g2 := (1553, [(6, .int b), (5, .int r), (4, .int 0), (3, .ref (βX 103)), (2, .ref (βM 64)), (1, .ref (βX 64)), (0, .ref 0)], [], H3)) rfl rfl (decide_eq_true hr) ?_
      refine q_Ru_seg (g2 := (2132, [(4, .int 4), (6, .int b), (5, .int r), (3, .ref (βX 103)), (2, .ref (βM 64)), (1, .ref (βX 64)), (0, .ref 0)], [.int 1], H3)) 10 (fun _ _ => rfl) ?_
      exact q_Ru_ret rfl rfl
theorem q_lw_columns {βX βM : Nat → Nat} {H : q_H} (hT : q_tw βX βM H) (z : Nat) (xs : Nat → Int32) : ∃ h, q_Ru (q_TBs z 4 xs) 12 377 (1556, [(4, .int 0), (3, .ref (βX 103)), (2, .ref (βM 64)), (1, .ref (βX 64)), (0, .ref 0)], [], H) (.inl (some (.int 1)), h) ∧ h.2.1 ≤ 600002 ∧ h.2.2 ≤ 7302231 := by
  obtain ⟨r, b, w, hX, hM, hw⟩ := q_op_columns (xs 1)
  obtain ⟨H2, H3, f, fs, fs2, c1, c2, a1, a2, a3, a4, hf, n1, n2⟩ := q_tw_op hT hX hM hw (fun _ => rfl) z 4 xs
  refine ⟨H3, ?_, by omega, by omega⟩
  refine q_Ru_seg (g2 := (1562, [(4, .int 0), (3, .ref (βX 103)), (2, .ref (βM 64)), (1, .ref (βX 64)), (0, .ref 0)], [.int 1, .ref 0, .ref (βX 64)], H)) 5 (fun _ _ => rfl) ?_
  refine q_Ru_rsT (g2 := (1563, [(4, .int 0), (3, .ref (βX 103)), (2, .ref (βM 64)), (1, .ref (βX 64)), (0, .ref 0)], [.int (xs 1), .ref (βX 64)], H)) rfl rfl rfl ?_
  refine q_Ru_seg (g2 := (1564, [(4, .int 0), (3, .ref (βX 103)), (2, .ref (βM 64)), (1, .ref (βX 64)), (0, .ref 0)], [.ref (βX 103), .int (xs 1), .ref (βX 64)], H)) 1 (fun _ _ => rfl) ?_
  refine q_Ru_call (v := some (.int r)) (h2 := H2) rfl rfl c1 ?_
  show q_Ru _ _ _ (1567, [(4, .int 0), (3, .ref (βX 103)), (2, .ref (βM 64)), (1, .ref (βX 64)), (0, .ref 0)], [.int r], H2) _
  refine q_Ru_seg (g2 := (1575, [(5, .int r), (4, .int 0), (3, .ref (βX 103)), (2, .ref (βM 64)), (1, .ref (βX 64)), (0, .ref 0)], [.int 1, .ref 0, .ref (βM 64)], H2)) 6 (fun _ _ => rfl) ?_
  refine q_Ru_rsT (g2 := (1576, [(5, .int r), (4, .int 0), (3, .ref (βX 103)), (2, .ref (βM 64)), (1, .ref (βX 64)), (0, .ref 0)], [.int (xs 1), .ref (βM 64)], H2)) rfl rfl rfl ?_
  refine q_Ru_call (v := some (.int b)) (h2 := H3) rfl (q_fv_at a1 rfl (Nat.zero_le 8)) c2 ?_
  show q_Ru _ _ _ (1579, [(5, .int r), (4, .int 0), (3, .ref (βX 103)), (2, .ref (βM 64)), (1, .ref (βX 64)), (0, .ref 0)], [.int b], H3) _
  refine q_Ru_seg (g2 := (1582, [(6, .int b), (5, .int r), (4, .int 0), (3, .ref (βX 103)), (2, .ref (βM 64)), (1, .ref (βX 64)), (0, .ref 0)], [.ref (βM 64)], H3)) 2 (fun _ _ => rfl) ?_
  refine q_Ru_call (v := some (.int r)) (h2 := H3) rfl (q_fv_at a2 rfl (Nat.zero_le 8)) (q_thrown a2 a3) ?_
  show q_Ru _ _ _ (1585, [(6, .int b), (5, .int r), (4, .int 0), (3, .ref (βX 103)), (2, .ref (βM 64)), (1, .ref (βX 64)), (0, .ref 0)], [.int r], H3) _
  refine q_Ru_seg (g2 := (1587, [(6, .int b), (5, .int r), (4, .int 0), (3, .ref (βX 103)), (2, .ref (βM 64)), (1, .ref (βX 64)), (0, .ref 0)], [.int r, .int r], H3)) 1 (fun _ _ => rfl) ?_
  refine q_Ru_rsT (g2 := (1592, [(6, .int b), (5, .int r), (4, .int 0), (3, .ref (βX 103)), (2, .ref (βM 64)), (1, .ref (βX 64)), (0, .ref 0)], [], H3)) rfl rfl (decide_eq_true rfl) ?_
  refine q_Ru_seg (g2 := (1594, [(6, .int b), (5, .int r), (4, .int 0), (3, .ref (βX 103)), (2, .ref (βM 64)), (1, .ref (βX 64)), (0, .ref 0)], [.int r], H3)) 1 (fun _ _ => rfl) ?_
  by_cases hr : r = 0
  · have hf9 := hf hr
    subst hr
    refine q_Ru_seg (g2 := (1597, [(6, .int b), (5, .int 0), (4, .int 0), (3, .ref (βX 103)), (2, .ref (βM 64)), (1, .ref (βX 64)), (0, .ref 0)], [], H3)) 1 (fun _ _ => rfl) ?_
    refine q_Ru_seg (g2 := (1599, [(6, .int b), (5, .int 0), (4, .int 0), (3, .ref (βX 103)), (2, .ref (βM 64)), (1, .ref (βX 64)), (0, .ref 0)], [.int 0, .ref (βX 103)], H3)) 2 (fun _ _ => rfl) ?_
    refine q_Ru_rsT (g2 := (1600, [(6, .int b), (5, .int 0), (4, .int 0), (3, .ref (βX 103)), (2, .ref (βM 64)), (1, .ref (βX 64)), (0, .ref 0)], [.long (f 0)], H3)) rfl (q_lld_at a4) rfl ?_
    rw [hf9]
    refine q_Ru_seg (g2 := (1604, [(6, .int b), (5, .int 0), (4, .int 0), (3, .ref (βX 103)), (2, .ref (βM 64)), (1, .ref (βX 64)), (0, .ref 0)], [.int (lg_cmp b.toInt64 b.toInt64)], H3)) 3 (fun _ _ => rfl) ?_
    rw [q_lcmp_rf]
    refine q_Ru_seg (g2 := (1609, [(6, .int b), (5, .int 0), (4, .int 0), (3, .ref (βX 103)), (2, .ref (βM 64)), (1, .ref (βX 64)), (0, .ref 0)], [], H3)) 1 (fun _ _ => rfl) ?_
    refine q_Ru_seg (g2 := (2132, [(4, .int 4), (6, .int b), (5, .int 0), (3, .ref (βX 103)), (2, .ref (βM 64)), (1, .ref (βX 64)), (0, .ref 0)], [.int 1], H3)) 10 (fun _ _ => rfl) ?_
    exact q_Ru_ret rfl rfl
  · refine q_Ru_rsT (g2 := (1609, [(6, .int b), (5, .int r), (4, .int 0), (3, .ref (βX 103)), (2, .ref (βM 64)), (1, .ref (βX 64)), (0, .ref 0)], [], H3)) rfl rfl (decide_eq_true hr) ?_
    refine q_Ru_seg (g2 := (2132, [(4, .int 4), (6, .int b), (5, .int r), (3, .ref (βX 103)), (2, .ref (βM 64)), (1, .ref (βX 64)), (0, .ref 0)], [.int 1], H3)) 10 (fun _ _ => rfl) ?_
    exact q_Ru_ret rfl rfl
theorem q_lw_joystick {βX βM : Nat → Nat} {H : q_H} (hT : q_tw βX βM H) (z : Nat) (xs : Nat → Int32) : ∃ h, q_Ru (q_TBs z 4 xs) 12 377 (1612, [(4, .int 0), (3, .ref (βX 103)), (2, .ref (βM 64)), (1, .ref (βX 64)), (0, .ref 0)], [], H) (.inl (some (.int 1)), h) ∧ h.2.1 ≤ 600002 ∧ h.2.2 ≤ 7302231 := by
  obtain ⟨r, b, w, hX, hM, hw⟩ := q_op_joystick (xs 1)
  obtain ⟨H2, H3, f, fs, fs2, c1, c2, a1, a2, a3, a4, hf, n1, n2⟩ := q_tw_op hT hX hM hw (fun _ => rfl) z 4 xs
  refine ⟨H3, ?_, by omega, by omega⟩
  refine q_Ru_seg (g2 := (1618, [(4, .int 0), (3, .ref (βX 103)), (2, .ref (βM 64)), (1, .ref (βX 64)), (0, .ref 0)], [.int 1, .ref 0, .ref (βX 64)], H)) 5 (fun _ _ => rfl) ?_
  refine q_Ru_rsT (g2 := (1619, [(4, .int 0), (3, .ref (βX 103)), (2, .ref (βM 64)), (1, .ref (βX 64)), (0, .ref 0)], [.int (xs 1), .ref (βX 64)], H)) rfl rfl rfl ?_
  refine q_Ru_seg (g2 := (1620, [(4, .int 0), (3, .ref (βX 103)), (2, .ref (βM 64)), (1, .ref (βX 64)), (0, .ref 0)], [.ref (βX 103), .int (xs 1), .ref (βX 64)], H)) 1 (fun _ _ => rfl) ?_
  refine q_Ru_call (v := some (.int r)) (h2 := H2) rfl rfl c1 ?_
  show q_Ru _ _ _ (1623, [(4, .int 0), (3, .ref (βX 103)), (2, .ref (βM 64)), (1, .ref (βX 64)), (0, .ref 0)], [.int r], H2) _
  refine q_Ru_seg (g2 := (1631, [(5, .int r), (4, .int 0), (3, .ref (βX 103)), (2, .ref (βM 64)), (1, .ref (βX 64)), (0, .ref 0)], [.int 1, .ref 0, .ref (βM 64)], H2)) 6 (fun _ _ => rfl) ?_
  refine q_Ru_rsT (g2 := (1632, [(5, .int r), (4, .int 0), (3, .ref (βX 103)), (2, .ref (βM 64)), (1, .ref (βX 64)), (0, .ref 0)], [.int (xs 1), .ref (βM 64)], H2)) rfl rfl rfl ?_
  refine q_Ru_call (v := some (.int b)) (h2 := H3) rfl (q_fv_at a1 rfl (Nat.zero_le 8)) c2 ?_
  show q_Ru _ _ _ (1635, [(5, .int r), (4, .int 0), (3, .ref (βX 103)), (2, .ref (βM 64)), (1, .ref (βX 64)), (0, .ref 0)], [.int b], H3) _
  refine q_Ru_seg (g2 := (1638, [(6, .int b), (5, .int r), (4, .int 0), (3, .ref (βX 103)), (2, .ref (βM 64)), (1, .ref (βX 64)), (0, .ref 0)], [.ref (βM 64)], H3)) 2 (fun _ _ => rfl) ?_
  refine q_Ru_call (v := some (.int r)) (h2 := H3) rfl (q_fv_at a2 rfl (Nat.zero_le 8)) (q_thrown a2 a3) ?_
  show q_Ru _ _ _ (1641, [(6, .int b), (5, .int r), (4, .int 0), (3, .ref (βX 103)), (2, .ref (βM 64)), (1, .ref (βX 64)), (0, .ref 0)], [.int r], H3) _
  refine q_Ru_seg (g2 := (1643, [(6, .int b), (5, .int r), (4, .int 0), (3, .ref (βX 103)), (2, .ref (βM 64)), (1, .ref (βX 64)), (0, .ref 0)], [.int r, .int r], H3)) 1 (fun _ _ => rfl) ?_
  refine q_Ru_rsT (g2 := (1648, [(6, .int b), (5, .int r), (4, .int 0), (3, .ref (βX 103)), (2, .ref (βM 64)), (1, .ref (βX 64)), (0, .ref 0)], [], H3)) rfl rfl (decide_eq_true rfl) ?_
  refine q_Ru_seg (g2 := (1650, [(6, .int b), (5, .int r), (4, .int 0), (3, .ref (βX 103)), (2, .ref (βM 64)), (1, .ref (βX 64)), (0, .ref 0)], [.int r], H3)) 1 (fun _ _ => rfl) ?_
  by_cases hr : r = 0
  · have hf9 := hf hr
    subst hr
    refine q_Ru_seg (g2 := (1653, [(6, .int b), (5, .int 0), (4, .int 0), (3, .ref (βX 103)), (2, .ref (βM 64)), (1, .ref (βX 64)), (0, .ref 0)], [], H3)) 1 (fun _ _ => rfl) ?_
    refine q_Ru_seg (g2 := (1655, [(6, .int b), (5, .int 0), (4, .int 0), (3, .ref (βX 103)), (2, .ref (βM 64)), (1, .ref (βX 64)), (0, .ref 0)], [.int 0, .ref (βX 103)], H3)) 2 (fun _ _ => rfl) ?_
    refine q_Ru_rsT (g2 := (1656, [(6, .int b), (5, .int 0), (4, .int 0), (3, .ref (βX 103)), (2, .ref (βM 64)), (1, .ref (βX 64)), (0, .ref 0)], [.long (f 0)], H3)) rfl (q_lld_at a4) rfl ?_
    rw [hf9]
    refine q_Ru_seg (g2 := (1660, [(6, .int b), (5, .int 0), (4, .int 0), (3, .ref (βX 103)), (2, .ref (βM 64)), (1, .ref (βX 64)), (0, .ref 0)], [.int (lg_cmp b.toInt64 b.toInt64)], H3)) 3 (fun _ _ => rfl) ?_
    rw [q_lcmp_rf]
    refine q_Ru_seg (g2 := (1665, [(6, .int b), (5, .int 0), (4, .int 0), (3, .ref (βX 103)), (2, .ref (βM 64)), (1, .ref (βX 64)), (0, .ref 0)], [], H3)) 1 (fun _ _ => rfl) ?_
    refine q_Ru_seg (g2 := (2132, [(4, .int 4), (6, .int b), (5, .int 0), (3, .ref (βX 103)), (2, .ref (βM 64)), (1, .ref (βX 64)), (0, .ref 0)], [.int 1], H3)) 10 (fun _ _ => rfl) ?_
    exact q_Ru_ret rfl rfl
  · refine q_Ru_rsT (g2 := (1665, [(6, .int b), (5, .int r), (4, .int 0), (3, .ref (βX 103)), (2, .ref (βM 64)), (1, .ref (βX 64)), (0, .ref 0)], [], H3)) rfl rfl (decide_eq_true hr) ?_
    refine q_Ru_seg (g2 := (2132, [(4, .int 4), (6, .int b), (5, .int r), (3, .ref (βX 103)), (2, .ref (βM 64)), (1, .ref (βX 64)), (0, .ref 0)], [.int 1], H3)) 10 (fun _ _ => rfl) ?_
    exact q_Ru_ret rfl rfl
theorem q_lw_addPulse {βX βM : Nat → Nat} {H : q_H} (hT : q_tw βX βM H) (z : Nat) (xs : Nat → Int32) : ∃ h, q_Ru (q_TBs z 4 xs) 12 377 (1668, [(4, .int 0), (3, .ref (βX 103)), (2, .ref (βM 64)), (1, .ref (βX 64)), (0, .ref 0)], [], H) (.inl (some (.int 1)), h) ∧ h.2.1 ≤ 600002 ∧ h.2.2 ≤ 7302231 := by
  obtain ⟨r, b, w, hX, hM, hw⟩ := q_op_addPulse (xs 1)
  obtain ⟨H2, H3, f, fs, fs2, c1, c2, a1, a2, a3, a4, hf, n1, n2⟩ := q_tw_op hT hX hM hw (fun _ => rfl) z 4 xs
  refine ⟨H3, ?_, by omega, by omega⟩
  refine q_Ru_seg (g2 := (1674, [(4, .int 0), (3, .ref (βX 103)), (2, .ref (βM 64)), (1, .ref (βX 64)), (0, .ref 0)], [.int 1, .ref 0, .ref (βX 64)], H)) 5 (fun _ _ => rfl) ?_
  refine q_Ru_rsT (g2 := (1675, [(4, .int 0), (3, .ref (βX 103)), (2, .ref (βM 64)), (1, .ref (βX 64)), (0, .ref 0)], [.int (xs 1), .ref (βX 64)], H)) rfl rfl rfl ?_
  refine q_Ru_seg (g2 := (1676, [(4, .int 0), (3, .ref (βX 103)), (2, .ref (βM 64)), (1, .ref (βX 64)), (0, .ref 0)], [.ref (βX 103), .int (xs 1), .ref (βX 64)], H)) 1 (fun _ _ => rfl) ?_
  refine q_Ru_call (v := some (.int r)) (h2 := H2) rfl rfl c1 ?_
  show q_Ru _ _ _ (1679, [(4, .int 0), (3, .ref (βX 103)), (2, .ref (βM 64)), (1, .ref (βX 64)), (0, .ref 0)], [.int r], H2) _
  refine q_Ru_seg (g2 := (1687, [(5, .int r), (4, .int 0), (3, .ref (βX 103)), (2, .ref (βM 64)), (1, .ref (βX 64)), (0, .ref 0)], [.int 1, .ref 0, .ref (βM 64)], H2)) 6 (fun _ _ => rfl) ?_
  refine q_Ru_rsT (g2 := (1688, [(5, .int r), (4, .int 0), (3, .ref (βX 103)), (2, .ref (βM 64)), (1, .ref (βX 64)), (0, .ref 0)], [.int (xs 1), .ref (βM 64)], H2)) rfl rfl rfl ?_
  refine q_Ru_call (v := some (.int b)) (h2 := H3) rfl (q_fv_at a1 rfl (Nat.zero_le 8)) c2 ?_
  show q_Ru _ _ _ (1691, [(5, .int r), (4, .int 0), (3, .ref (βX 103)), (2, .ref (βM 64)), (1, .ref (βX 64)), (0, .ref 0)], [.int b], H3) _
  refine q_Ru_seg (g2 := (1694, [(6, .int b), (5, .int r), (4, .int 0), (3, .ref (βX 103)), (2, .ref (βM 64)), (1, .ref (βX 64)), (0, .ref 0)], [.ref (βM 64)], H3)) 2 (fun _ _ => rfl) ?_
  refine q_Ru_call (v := some (.int r)) (h2 := H3) rfl (q_fv_at a2 rfl (Nat.zero_le 8)) (q_thrown a2 a3) ?_
  show q_Ru _ _ _ (1697, [(6, .int b), (5, .int r), (4, .int 0), (3, .ref (βX 103)), (2, .ref (βM 64)), (1, .ref (βX 64)), (0, .ref 0)], [.int r], H3) _
  refine q_Ru_seg (g2 := (1699, [(6, .int b), (5, .int r), (4, .int 0), (3, .ref (βX 103)), (2, .ref (βM 64)), (1, .ref (βX 64)), (0, .ref 0)], [.int r, .int r], H3)) 1 (fun _ _ => rfl) ?_
  refine q_Ru_rsT (g2 := (1704, [(6, .int b), (5, .int r), (4, .int 0), (3, .ref (βX 103)), (2, .ref (βM 64)), (1, .ref (βX 64)), (0, .ref 0)], [], H3)) rfl rfl (decide_eq_true rfl) ?_
  refine q_Ru_seg (g2 := (1706, [(6, .int b), (5, .int r), (4, .int 0), (3, .ref (βX 103)), (2, .ref (βM 64)), (1, .ref (βX 64)), (0, .ref 0)], [.int r], H3)) 1 (fun _ _ => rfl) ?_
  by_cases hr : r = 0
  · have hf9 := hf hr
    subst hr
    refine q_Ru_seg (g2 := (1709, [(6, .int b), (5, .int 0), (4, .int 0), (3, .ref (βX 103)), (2, .ref (βM 64)), (1, .ref (βX 64)), (0, .ref 0)], [], H3)) 1 (fun _ _ => rfl) ?_
    refine q_Ru_seg (g2 := (1711, [(6, .int b), (5, .int 0), (4, .int 0), (3, .ref (βX 103)), (2, .ref (βM 64)), (1, .ref (βX 64)), (0, .ref 0)], [.int 0, .ref (βX 103)], H3)) 2 (fun _ _ => rfl) ?_
    refine q_Ru_rsT (g2 := (1712, [(6, .int b), (5, .int 0), (4, .int 0), (3, .ref (βX 103)), (2, .ref (βM 64)), (1, .ref (βX 64)), (0, .ref 0)], [.long (f 0)], H3)) rfl (q_lld_at a4) rfl ?_
    rw [hf9]
    refine q_Ru_seg (g2 := (1716, [(6, .int b), (5, .int 0), (4, .int 0), (3, .ref (βX 103)), (2, .ref (βM 64)), (1, .ref (βX 64)), (0, .ref 0)], [.int (lg_cmp b.toInt64 b.toInt64)], H3)) 3 (fun _ _ => rfl) ?_
    rw [q_lcmp_rf]
    refine q_Ru_seg (g2 := (1721, [(6, .int b), (5, .int 0), (4, .int 0), (3, .ref (βX 103)), (2, .ref (βM 64)), (1, .ref (βX 64)), (0, .ref 0)], [], H3)) 1 (fun _ _ => rfl) ?_
    refine q_Ru_seg (g2 := (2132, [(4, .int 4), (6, .int b), (5, .int 0), (3, .ref (βX 103)), (2, .ref (βM 64)), (1, .ref (βX 64)), (0, .ref 0)], [.int 1], H3)) 10 (fun _ _ => rfl) ?_
    exact q_Ru_ret rfl rfl
  · refine q_Ru_rsT (g2 := (1721, [(6, .int b), (5, .int r), (4, .int 0), (3, .ref (βX 103)), (2, .ref (βM 64)), (1, .ref (βX 64)), (0, .ref 0)], [], H3)) rfl rfl (decide_eq_true hr) ?_
    refine q_Ru_seg (g2 := (2132, [(4, .int 4), (6, .int b), (5, .int r), (3, .ref (βX 103)), (2, .ref (βM 64)), (1, .ref (βX 64)), (0, .ref 0)], [.int 1], H3)) 10 (fun _ _ => rfl) ?_
    exact q_Ru_ret rfl rfl
theorem q_lw_rewind {βX βM : Nat → Nat} {H : q_H} (hT : q_tw βX βM H) (z : Nat) (xs : Nat → Int32) : ∃ h, q_Ru (q_TBs z 4 xs) 12 377 (1724, [(4, .int 0), (3, .ref (βX 103)), (2, .ref (βM 64)), (1, .ref (βX 64)), (0, .ref 0)], [], H) (.inl (some (.int 1)), h) ∧ h.2.1 ≤ 600002 ∧ h.2.2 ≤ 7302231 := by
  obtain ⟨b, hV⟩ := q_op_rewind
  obtain ⟨H2, H3, fs, fs2, a0, c1, a1, c2, n1, n2⟩ := q_tw_opV hT hV (fun _ => rfl) z 4 xs
  refine ⟨H3, ?_, by omega, by omega⟩
  refine q_Ru_seg (g2 := (1725, [(4, .int 0), (3, .ref (βX 103)), (2, .ref (βM 64)), (1, .ref (βX 64)), (0, .ref 0)], [.ref (βX 64)], H)) 1 (fun _ _ => rfl) ?_
  refine q_Ru_call (v := some (.int b)) (h2 := H2) rfl (q_fv_at a0 rfl (Nat.zero_le 8)) c1 ?_
  show q_Ru _ _ _ (1728, [(4, .int 0), (3, .ref (βX 103)), (2, .ref (βM 64)), (1, .ref (βX 64)), (0, .ref 0)], [.int b], H2) _
  refine q_Ru_seg (g2 := (1729, [(4, .int 0), (3, .ref (βX 103)), (2, .ref (βM 64)), (1, .ref (βX 64)), (0, .ref 0)], [.ref (βM 64), .int b], H2)) 1 (fun _ _ => rfl) ?_
  refine q_Ru_call (v := some (.int b)) (h2 := H3) rfl (q_fv_at a1 rfl (Nat.le_of_ble_eq_true rfl)) c2 ?_
  show q_Ru _ _ _ (1732, [(4, .int 0), (3, .ref (βX 103)), (2, .ref (βM 64)), (1, .ref (βX 64)), (0, .ref 0)], [.int b, .int b], H3) _
  refine q_Ru_rsT (g2 := (2125, [(4, .int 0), (3, .ref (βX 103)), (2, .ref (βM 64)), (1, .ref (βX 64)), (0, .ref 0)], [], H3)) rfl rfl (decide_eq_true rfl) ?_
  refine q_Ru_seg (g2 := (2132, [(4, .int 4), (3, .ref (βX 103)), (2, .ref (βM 64)), (1, .ref (βX 64)), (0, .ref 0)], [.int 1], H3)) 9 (fun _ _ => rfl) ?_
  exact q_Ru_ret rfl rfl
theorem q_lw_pulsesLeft {βX βM : Nat → Nat} {H : q_H} (hT : q_tw βX βM H) (z : Nat) (xs : Nat → Int32) : ∃ h, q_Ru (q_TBs z 4 xs) 12 377 (1737, [(4, .int 0), (3, .ref (βX 103)), (2, .ref (βM 64)), (1, .ref (βX 64)), (0, .ref 0)], [], H) (.inl (some (.int 1)), h) ∧ h.2.1 ≤ 600002 ∧ h.2.2 ≤ 7302231 := by
  obtain ⟨b, hV⟩ := q_op_pulsesLeft
  obtain ⟨H2, H3, fs, fs2, a0, c1, a1, c2, n1, n2⟩ := q_tw_opV hT hV (fun _ => rfl) z 4 xs
  refine ⟨H3, ?_, by omega, by omega⟩
  refine q_Ru_seg (g2 := (1738, [(4, .int 0), (3, .ref (βX 103)), (2, .ref (βM 64)), (1, .ref (βX 64)), (0, .ref 0)], [.ref (βX 64)], H)) 1 (fun _ _ => rfl) ?_
  refine q_Ru_call (v := some (.int b)) (h2 := H2) rfl (q_fv_at a0 rfl (Nat.zero_le 8)) c1 ?_
  show q_Ru _ _ _ (1741, [(4, .int 0), (3, .ref (βX 103)), (2, .ref (βM 64)), (1, .ref (βX 64)), (0, .ref 0)], [.int b], H2) _
  refine q_Ru_seg (g2 := (1742, [(4, .int 0), (3, .ref (βX 103)), (2, .ref (βM 64)), (1, .ref (βX 64)), (0, .ref 0)], [.ref (βM 64), .int b], H2)) 1 (fun _ _ => rfl) ?_
  refine q_Ru_call (v := some (.int b)) (h2 := H3) rfl (q_fv_at a1 rfl (Nat.le_of_ble_eq_true rfl)) c2 ?_
  show q_Ru _ _ _ (1745, [(4, .int 0), (3, .ref (βX 103)), (2, .ref (βM 64)), (1, .ref (βX 64)), (0, .ref 0)], [.int b, .int b], H3) _
  refine q_Ru_rsT (g2 := (2125, [(4, .int 0), (3, .ref (βX 103)), (2, .ref (βM 64)), (1, .ref (βX 64)), (0, .ref 0)], [], H3)) rfl rfl (decide_eq_true rfl) ?_
  refine q_Ru_seg (g2 := (2132, [(4, .int 4), (3, .ref (βX 103)), (2, .ref (βM 64)), (1, .ref (βX 64)), (0, .ref 0)], [.int 1], H3)) 9 (fun _ _ => rfl) ?_
  exact q_Ru_ret rfl rfl
theorem q_lw_save {βX βM : Nat → Nat} {H : q_H} (hT : q_tw βX βM H) (z : Nat) (xs : Nat → Int32) : ∃ h, q_Ru (q_TBs z 4 xs) 12 377 (1750, [(4, .int 0), (3, .ref (βX 103)), (2, .ref (βM 64)), (1, .ref (βX 64)), (0, .ref 0)], [], H) (.inl (some (.int 1)), h) ∧ h.2.1 ≤ 600002 ∧ h.2.2 ≤ 7302231 := by
  obtain ⟨r, b, w, hX, hM, hw⟩ := q_op_save
  obtain ⟨H2, H3, f, fs, fs2, c1, c2, a1, a2, a3, a4, hf, n1, n2⟩ := q_tw_op hT hX hM hw (fun _ => rfl) z 4 xs
  refine ⟨H3, ?_, by omega, by omega⟩
  refine q_Ru_seg (g2 := (1752, [(4, .int 0), (3, .ref (βX 103)), (2, .ref (βM 64)), (1, .ref (βX 64)), (0, .ref 0)], [.ref (βX 103), .ref (βX 64)], H)) 2 (fun _ _ => rfl) ?_
  refine q_Ru_call (v := some (.int r)) (h2 := H2) rfl rfl c1 ?_
  show q_Ru _ _ _ (1755, [(4, .int 0), (3, .ref (βX 103)), (2, .ref (βM 64)), (1, .ref (βX 64)), (0, .ref 0)], [.int r], H2) _
  refine q_Ru_seg (g2 := (1758, [(5, .int r), (4, .int 0), (3, .ref (βX 103)), (2, .ref (βM 64)), (1, .ref (βX 64)), (0, .ref 0)], [.ref (βM 64)], H2)) 2 (fun _ _ => rfl) ?_
  refine q_Ru_call (v := some (.int b)) (h2 := H3) rfl (q_fv_at a1 rfl (Nat.zero_le 8)) c2 ?_
  show q_Ru _ _ _ (1761, [(5, .int r), (4, .int 0), (3, .ref (βX 103)), (2, .ref (βM 64)), (1, .ref (βX 64)), (0, .ref 0)], [.int b], H3) _
  refine q_Ru_seg (g2 := (1764, [(6, .int b), (5, .int r), (4, .int 0), (3, .ref (βX 103)), (2, .ref (βM 64)), (1, .ref (βX 64)), (0, .ref 0)], [.ref (βM 64)], H3)) 2 (fun _ _ => rfl) ?_
  refine q_Ru_call (v := some (.int r)) (h2 := H3) rfl (q_fv_at a2 rfl (Nat.zero_le 8)) (q_thrown a2 a3) ?_
  show q_Ru _ _ _ (1767, [(6, .int b), (5, .int r), (4, .int 0), (3, .ref (βX 103)), (2, .ref (βM 64)), (1, .ref (βX 64)), (0, .ref 0)], [.int r], H3) _
  refine q_Ru_seg (g2 := (1769, [(6, .int b), (5, .int r), (4, .int 0), (3, .ref (βX 103)), (2, .ref (βM 64)), (1, .ref (βX 64)), (0, .ref 0)], [.int r, .int r], H3)) 1 (fun _ _ => rfl) ?_
  refine q_Ru_rsT (g2 := (1774, [(6, .int b), (5, .int r), (4, .int 0), (3, .ref (βX 103)), (2, .ref (βM 64)), (1, .ref (βX 64)), (0, .ref 0)], [], H3)) rfl rfl (decide_eq_true rfl) ?_
  refine q_Ru_seg (g2 := (1776, [(6, .int b), (5, .int r), (4, .int 0), (3, .ref (βX 103)), (2, .ref (βM 64)), (1, .ref (βX 64)), (0, .ref 0)], [.int r], H3)) 1 (fun _ _ => rfl) ?_
  by_cases hr : r = 0
  · have hf9 := hf hr
    subst hr
    refine q_Ru_seg (g2 := (1779, [(6, .int b), (5, .int 0), (4, .int 0), (3, .ref (βX 103)), (2, .ref (βM 64)), (1, .ref (βX 64)), (0, .ref 0)], [], H3)) 1 (fun _ _ => rfl) ?_
    refine q_Ru_seg (g2 := (1781, [(6, .int b), (5, .int 0), (4, .int 0), (3, .ref (βX 103)), (2, .ref (βM 64)), (1, .ref (βX 64)), (0, .ref 0)], [.int 0, .ref (βX 103)], H3)) 2 (fun _ _ => rfl) ?_
    refine q_Ru_rsT (g2 := (1782, [(6, .int b), (5, .int 0), (4, .int 0), (3, .ref (βX 103)), (2, .ref (βM 64)), (1, .ref (βX 64)), (0, .ref 0)], [.long (f 0)], H3)) rfl (q_lld_at a4) rfl ?_
    rw [hf9]
    refine q_Ru_seg (g2 := (1786, [(6, .int b), (5, .int 0), (4, .int 0), (3, .ref (βX 103)), (2, .ref (βM 64)), (1, .ref (βX 64)), (0, .ref 0)], [.int (lg_cmp b.toInt64 b.toInt64)], H3)) 3 (fun _ _ => rfl) ?_
    rw [q_lcmp_rf]
    refine q_Ru_seg (g2 := (1791, [(6, .int b), (5, .int 0), (4, .int 0), (3, .ref (βX 103)), (2, .ref (βM 64)), (1, .ref (βX 64)), (0, .ref 0)], [], H3)) 1 (fun _ _ => rfl) ?_
    refine q_Ru_seg (g2 := (2132, [(4, .int 4), (6, .int b), (5, .int 0), (3, .ref (βX 103)), (2, .ref (βM 64)), (1, .ref (βX 64)), (0, .ref 0)], [.int 1], H3)) 10 (fun _ _ => rfl) ?_
    exact q_Ru_ret rfl rfl
  · refine q_Ru_rsT (g2 := (1791, [(6, .int b), (5, .int r), (4, .int 0), (3, .ref (βX 103)), (2, .ref (βM 64)), (1, .ref (βX 64)), (0, .ref 0)], [], H3)) rfl rfl (decide_eq_true hr) ?_
    refine q_Ru_seg (g2 := (2132, [(4, .int 4), (6, .int b), (5, .int r), (3, .ref (βX 103)), (2, .ref (βM 64)), (1, .ref (βX 64)), (0, .ref 0)], [.int 1], H3)) 10 (fun _ _ => rfl) ?_
    exact q_Ru_ret rfl rfl
theorem q_lw_restore {βX βM : Nat → Nat} {H : q_H} (hT : q_tw βX βM H) (z : Nat) (xs : Nat → Int32) : ∃ h, q_Ru (q_TBs z 4 xs) 12 377 (1794, [(4, .int 0), (3, .ref (βX 103)), (2, .ref (βM 64)), (1, .ref (βX 64)), (0, .ref 0)], [], H) (.inl (some (.int 1)), h) ∧ h.2.1 ≤ 600002 ∧ h.2.2 ≤ 7302231 := by
  obtain ⟨r, b, w, hX, hM, hw⟩ := q_op_restore (xs 1)
  obtain ⟨H2, H3, f, fs, fs2, c1, c2, a1, a2, a3, a4, hf, n1, n2⟩ := q_tw_op hT hX hM hw (fun _ => rfl) z 4 xs
  refine ⟨H3, ?_, by omega, by omega⟩
  refine q_Ru_seg (g2 := (1800, [(4, .int 0), (3, .ref (βX 103)), (2, .ref (βM 64)), (1, .ref (βX 64)), (0, .ref 0)], [.int 1, .ref 0, .ref (βX 64)], H)) 5 (fun _ _ => rfl) ?_
  refine q_Ru_rsT (g2 := (1801, [(4, .int 0), (3, .ref (βX 103)), (2, .ref (βM 64)), (1, .ref (βX 64)), (0, .ref 0)], [.int (xs 1), .ref (βX 64)], H)) rfl rfl rfl ?_
  refine q_Ru_seg (g2 := (1802, [(4, .int 0), (3, .ref (βX 103)), (2, .ref (βM 64)), (1, .ref (βX 64)), (0, .ref 0)], [.ref (βX 103), .int (xs 1), .ref (βX 64)], H)) 1 (fun _ _ => rfl) ?_
  refine q_Ru_call (v := some (.int r)) (h2 := H2) rfl rfl c1 ?_
  show q_Ru _ _ _ (1805, [(4, .int 0), (3, .ref (βX 103)), (2, .ref (βM 64)), (1, .ref (βX 64)), (0, .ref 0)], [.int r], H2) _
  refine q_Ru_seg (g2 := (1813, [(5, .int r), (4, .int 0), (3, .ref (βX 103)), (2, .ref (βM 64)), (1, .ref (βX 64)), (0, .ref 0)], [.int 1, .ref 0, .ref (βM 64)], H2)) 6 (fun _ _ => rfl) ?_
  refine q_Ru_rsT (g2 := (1814, [(5, .int r), (4, .int 0), (3, .ref (βX 103)), (2, .ref (βM 64)), (1, .ref (βX 64)), (0, .ref 0)], [.int (xs 1), .ref (βM 64)], H2)) rfl rfl rfl ?_
  refine q_Ru_call (v := some (.int b)) (h2 := H3) rfl (q_fv_at a1 rfl (Nat.zero_le 8)) c2 ?_
  show q_Ru _ _ _ (1817, [(5, .int r), (4, .int 0), (3, .ref (βX 103)), (2, .ref (βM 64)), (1, .ref (βX 64)), (0, .ref 0)], [.int b], H3) _
  refine q_Ru_seg (g2 := (1820, [(6, .int b), (5, .int r), (4, .int 0), (3, .ref (βX 103)), (2, .ref (βM 64)), (1, .ref (βX 64)), (0, .ref 0)], [.ref (βM 64)], H3)) 2 (fun _ _ => rfl) ?_
  refine q_Ru_call (v := some (.int r)) (h2 := H3) rfl (q_fv_at a2 rfl (Nat.zero_le 8)) (q_thrown a2 a3) ?_
  show q_Ru _ _ _ (1823, [(6, .int b), (5, .int r), (4, .int 0), (3, .ref (βX 103)), (2, .ref (βM 64)), (1, .ref (βX 64)), (0, .ref 0)], [.int r], H3) _
  refine q_Ru_seg (g2 := (1825, [(6, .int b), (5, .int r), (4, .int 0), (3, .ref (βX 103)), (2, .ref (βM 64)), (1, .ref (βX 64)), (0, .ref 0)], [.int r, .int r], H3)) 1 (fun _ _ => rfl) ?_
  refine q_Ru_rsT (g2 := (1830, [(6, .int b), (5, .int r), (4, .int 0), (3, .ref (βX 103)), (2, .ref (βM 64)), (1, .ref (βX 64)), (0, .ref 0)], [], H3)) rfl rfl (decide_eq_true rfl) ?_
  refine q_Ru_seg (g2 := (1832, [(6, .int b), (5, .int r), (4, .int 0), (3, .ref (βX 103)), (2, .ref (βM 64)), (1, .ref (βX 64)), (0, .ref 0)], [.int r], H3)) 1 (fun _ _ => rfl) ?_
  by_cases hr : r = 0
  · have hf9 := hf hr
    subst hr
    refine q_Ru_seg (g2 := (1835, [(6, .int b), (5, .int 0), (4, .int 0), (3, .ref (βX 103)), (2, .ref (βM 64)), (1, .ref (βX 64)), (0, .ref 0)], [], H3)) 1 (fun _ _ => rfl) ?_
    refine q_Ru_seg (g2 := (1837, [(6, .int b), (5, .int 0), (4, .int 0), (3, .ref (βX 103)), (2, .ref (βM 64)), (1, .ref (βX 64)), (0, .ref 0)], [.int 0, .ref (βX 103)], H3)) 2 (fun _ _ => rfl) ?_
    refine q_Ru_rsT (g2 := (1838, [(6, .int b), (5, .int 0), (4, .int 0), (3, .ref (βX 103)), (2, .ref (βM 64)), (1, .ref (βX 64)), (0, .ref 0)], [.long (f 0)], H3)) rfl (q_lld_at a4) rfl ?_
    rw [hf9]
    refine q_Ru_seg (g2 := (1842, [(6, .int b), (5, .int 0), (4, .int 0), (3, .ref (βX 103)), (2, .ref (βM 64)), (1, .ref (βX 64)), (0, .ref 0)], [.int (lg_cmp b.toInt64 b.toInt64)], H3)) 3 (fun _ _ => rfl) ?_
    rw [q_lcmp_rf]
    refine q_Ru_seg (g2 := (1847, [(6, .int b), (5, .int 0), (4, .int 0), (3, .ref (βX 103)), (2, .ref (βM 64)), (1, .ref (βX 64)), (0, .ref 0)], [], H3)) 1 (fun _ _ => rfl) ?_
    refine q_Ru_seg (g2 := (2132, [(4, .int 4), (6, .int b), (5, .int 0), (3, .ref (βX 103)), (2, .ref (βM 64)), (1, .ref (βX 64)), (0, .ref 0)], [.int 1], H3)) 10 (fun _ _ => rfl) ?_
    exact q_Ru_ret rfl rfl
  · refine q_Ru_rsT (g2 := (1847, [(6, .int b), (5, .int r), (4, .int 0), (3, .ref (βX 103)), (2, .ref (βM 64)), (1, .ref (βX 64)), (0, .ref 0)], [], H3)) rfl rfl (decide_eq_true hr) ?_
    refine q_Ru_seg (g2 := (2132, [(4, .int 4), (6, .int b), (5, .int r), (3, .ref (βX 103)), (2, .ref (βM 64)), (1, .ref (βX 64)), (0, .ref 0)], [.int 1], H3)) 10 (fun _ _ => rfl) ?_
    exact q_Ru_ret rfl rfl
theorem q_lw_differences {βX βM : Nat → Nat} {H : q_H} (hT : q_tw βX βM H) (z : Nat) (xs : Nat → Int32) : ∃ h, q_Ru (q_TBs z 4 xs) 12 377 (1850, [(4, .int 0), (3, .ref (βX 103)), (2, .ref (βM 64)), (1, .ref (βX 64)), (0, .ref 0)], [], H) (.inl (some (.int 1)), h) ∧ h.2.1 ≤ 600002 ∧ h.2.2 ≤ 7302231 := by
  obtain ⟨r, b, w, hX, hM, hw⟩ := q_op_differences (xs 1)
  obtain ⟨H2, H3, f, fs, fs2, c1, c2, a1, a2, a3, a4, hf, n1, n2⟩ := q_tw_op hT hX hM hw (fun _ => rfl) z 4 xs
  refine ⟨H3, ?_, by omega, by omega⟩
  refine q_Ru_seg (g2 := (1856, [(4, .int 0), (3, .ref (βX 103)), (2, .ref (βM 64)), (1, .ref (βX 64)), (0, .ref 0)], [.int 1, .ref 0, .ref (βX 64)], H)) 5 (fun _ _ => rfl) ?_
  refine q_Ru_rsT (g2 := (1857, [(4, .int 0), (3, .ref (βX 103)), (2, .ref (βM 64)), (1, .ref (βX 64)), (0, .ref 0)], [.int (xs 1), .ref (βX 64)], H)) rfl rfl rfl ?_
  refine q_Ru_seg (g2 := (1858, [(4, .int 0), (3, .ref (βX 103)), (2, .ref (βM 64)), (1, .ref (βX 64)), (0, .ref 0)], [.ref (βX 103), .int (xs 1), .ref (βX 64)], H)) 1 (fun _ _ => rfl) ?_
  refine q_Ru_call (v := some (.int r)) (h2 := H2) rfl rfl c1 ?_
  show q_Ru _ _ _ (1861, [(4, .int 0), (3, .ref (βX 103)), (2, .ref (βM 64)), (1, .ref (βX 64)), (0, .ref 0)], [.int r], H2) _
  refine q_Ru_seg (g2 := (1869, [(5, .int r), (4, .int 0), (3, .ref (βX 103)), (2, .ref (βM 64)), (1, .ref (βX 64)), (0, .ref 0)], [.int 1, .ref 0, .ref (βM 64)], H2)) 6 (fun _ _ => rfl) ?_
  refine q_Ru_rsT (g2 := (1870, [(5, .int r), (4, .int 0), (3, .ref (βX 103)), (2, .ref (βM 64)), (1, .ref (βX 64)), (0, .ref 0)], [.int (xs 1), .ref (βM 64)], H2)) rfl rfl rfl ?_
  refine q_Ru_call (v := some (.int b)) (h2 := H3) rfl (q_fv_at a1 rfl (Nat.zero_le 8)) c2 ?_
  show q_Ru _ _ _ (1873, [(5, .int r), (4, .int 0), (3, .ref (βX 103)), (2, .ref (βM 64)), (1, .ref (βX 64)), (0, .ref 0)], [.int b], H3) _
  refine q_Ru_seg (g2 := (1876, [(6, .int b), (5, .int r), (4, .int 0), (3, .ref (βX 103)), (2, .ref (βM 64)), (1, .ref (βX 64)), (0, .ref 0)], [.ref (βM 64)], H3)) 2 (fun _ _ => rfl) ?_
  refine q_Ru_call (v := some (.int r)) (h2 := H3) rfl (q_fv_at a2 rfl (Nat.zero_le 8)) (q_thrown a2 a3) ?_
  show q_Ru _ _ _ (1879, [(6, .int b), (5, .int r), (4, .int 0), (3, .ref (βX 103)), (2, .ref (βM 64)), (1, .ref (βX 64)), (0, .ref 0)], [.int r], H3) _
  refine q_Ru_seg (g2 := (1881, [(6, .int b), (5, .int r), (4, .int 0), (3, .ref (βX 103)), (2, .ref (βM 64)), (1, .ref (βX 64)), (0, .ref 0)], [.int r, .int r], H3)) 1 (fun _ _ => rfl) ?_
  refine q_Ru_rsT (g2 := (1886, [(6, .int b), (5, .int r), (4, .int 0), (3, .ref (βX 103)), (2, .ref (βM 64)), (1, .ref (βX 64)), (0, .ref 0)], [], H3)) rfl rfl (decide_eq_true rfl) ?_
  refine q_Ru_seg (g2 := (1888, [(6, .int b), (5, .int r), (4, .int 0), (3, .ref (βX 103)), (2, .ref (βM 64)), (1, .ref (βX 64)), (0, .ref 0)], [.int r], H3)) 1 (fun _ _ => rfl) ?_
  by_cases hr : r = 0
  · have hf9 := hf hr
    subst hr
    refine q_Ru_seg (g2 := (1891, [(6, .int b), (5, .int 0), (4, .int 0), (3, .ref (βX 103)), (2, .ref (βM 64)), (1, .ref (βX 64)), (0, .ref 0)], [], H3)) 1 (fun _ _ => rfl) ?_
    refine q_Ru_seg (g2 := (1893, [(6, .int b), (5, .int 0), (4, .int 0), (3, .ref (βX 103)), (2, .ref (βM 64)), (1, .ref (βX 64)), (0, .ref 0)], [.int 0, .ref (βX 103)], H3)) 2 (fun _ _ => rfl) ?_
    refine q_Ru_rsT (g2 := (1894, [(6, .int b), (5, .int 0), (4, .int 0), (3, .ref (βX 103)), (2, .ref (βM 64)), (1, .ref (βX 64)), (0, .ref 0)], [.long (f 0)], H3)) rfl (q_lld_at a4) rfl ?_
    rw [hf9]
    refine q_Ru_seg (g2 := (1898, [(6, .int b), (5, .int 0), (4, .int 0), (3, .ref (βX 103)), (2, .ref (βM 64)), (1, .ref (βX 64)), (0, .ref 0)], [.int (lg_cmp b.toInt64 b.toInt64)], H3)) 3 (fun _ _ => rfl) ?_
    rw [q_lcmp_rf]
    refine q_Ru_seg (g2 := (1903, [(6, .int b), (5, .int 0), (4, .int 0), (3, .ref (βX 103)), (2, .ref (βM 64)), (1, .ref (βX 64)), (0, .ref 0)], [], H3)) 1 (fun _ _ => rfl) ?_
    refine q_Ru_seg (g2 := (2132, [(4, .int 4), (6, .int b), (5, .int 0), (3, .ref (βX 103)), (2, .ref (βM 64)), (1, .ref (βX 64)), (0, .ref 0)], [.int 1], H3)) 10 (fun _ _ => rfl) ?_
    exact q_Ru_ret rfl rfl
  · refine q_Ru_rsT (g2 := (1903, [(6, .int b), (5, .int r), (4, .int 0), (3, .ref (βX 103)), (2, .ref (βM 64)), (1, .ref (βX 64)), (0, .ref 0)], [], H3)) rfl rfl (decide_eq_true hr) ?_
    refine q_Ru_seg (g2 := (2132, [(4, .int 4), (6, .int b), (5, .int r), (3, .ref (βX 103)), (2, .ref (βM 64)), (1, .ref (βX 64)), (0, .ref 0)], [.int 1], H3)) 10 (fun _ _ => rfl) ?_
    exact q_Ru_ret rfl rfl
theorem q_lw_startRecord {βX βM : Nat → Nat} {H : q_H} (hT : q_tw βX βM H) (z : Nat) (xs : Nat → Int32) : ∃ h, q_Ru (q_TBs z 4 xs) 12 377 (1906, [(4, .int 0), (3, .ref (βX 103)), (2, .ref (βM 64)), (1, .ref (βX 64)), (0, .ref 0)], [], H) (.inl (some (.int 1)), h) ∧ h.2.1 ≤ 600002 ∧ h.2.2 ≤ 7302231 := by
  obtain ⟨b, hV⟩ := q_op_startRecord
  obtain ⟨H2, H3, fs, fs2, a0, c1, a1, c2, n1, n2⟩ := q_tw_opV hT hV (fun _ => rfl) z 4 xs
  refine ⟨H3, ?_, by omega, by omega⟩
  refine q_Ru_seg (g2 := (1907, [(4, .int 0), (3, .ref (βX 103)), (2, .ref (βM 64)), (1, .ref (βX 64)), (0, .ref 0)], [.ref (βX 64)], H)) 1 (fun _ _ => rfl) ?_
  refine q_Ru_call (v := some (.int b)) (h2 := H2) rfl (q_fv_at a0 rfl (Nat.zero_le 8)) c1 ?_
  show q_Ru _ _ _ (1910, [(4, .int 0), (3, .ref (βX 103)), (2, .ref (βM 64)), (1, .ref (βX 64)), (0, .ref 0)], [.int b], H2) _
  refine q_Ru_seg (g2 := (1911, [(4, .int 0), (3, .ref (βX 103)), (2, .ref (βM 64)), (1, .ref (βX 64)), (0, .ref 0)], [.ref (βM 64), .int b], H2)) 1 (fun _ _ => rfl) ?_
  refine q_Ru_call (v := some (.int b)) (h2 := H3) rfl (q_fv_at a1 rfl (Nat.le_of_ble_eq_true rfl)) c2 ?_
  show q_Ru _ _ _ (1914, [(4, .int 0), (3, .ref (βX 103)), (2, .ref (βM 64)), (1, .ref (βX 64)), (0, .ref 0)], [.int b, .int b], H3) _
  refine q_Ru_rsT (g2 := (2125, [(4, .int 0), (3, .ref (βX 103)), (2, .ref (βM 64)), (1, .ref (βX 64)), (0, .ref 0)], [], H3)) rfl rfl (decide_eq_true rfl) ?_
  refine q_Ru_seg (g2 := (2132, [(4, .int 4), (3, .ref (βX 103)), (2, .ref (βM 64)), (1, .ref (βX 64)), (0, .ref 0)], [.int 1], H3)) 9 (fun _ _ => rfl) ?_
  exact q_Ru_ret rfl rfl
theorem q_lw_recorded {βX βM : Nat → Nat} {H : q_H} (hT : q_tw βX βM H) (z : Nat) (xs : Nat → Int32) : ∃ h, q_Ru (q_TBs z 4 xs) 12 377 (1919, [(4, .int 0), (3, .ref (βX 103)), (2, .ref (βM 64)), (1, .ref (βX 64)), (0, .ref 0)], [], H) (.inl (some (.int 1)), h) ∧ h.2.1 ≤ 600002 ∧ h.2.2 ≤ 7302231 := by
  obtain ⟨r, b, w, hX, hM, hw⟩ := q_op_recorded
  obtain ⟨H2, H3, f, fs, fs2, c1, c2, a1, a2, a3, a4, hf, n1, n2⟩ := q_tw_op hT hX hM hw (fun _ => rfl) z 4 xs
  refine ⟨H3, ?_, by omega, by omega⟩
  refine q_Ru_seg (g2 := (1921, [(4, .int 0), (3, .ref (βX 103)), (2, .ref (βM 64)), (1, .ref (βX 64)), (0, .ref 0)], [.ref (βX 103), .ref (βX 64)], H)) 2 (fun _ _ => rfl) ?_
  refine q_Ru_call (v := some (.int r)) (h2 := H2) rfl rfl c1 ?_
  show q_Ru _ _ _ (1924, [(4, .int 0), (3, .ref (βX 103)), (2, .ref (βM 64)), (1, .ref (βX 64)), (0, .ref 0)], [.int r], H2) _
  refine q_Ru_seg (g2 := (1927, [(5, .int r), (4, .int 0), (3, .ref (βX 103)), (2, .ref (βM 64)), (1, .ref (βX 64)), (0, .ref 0)], [.ref (βM 64)], H2)) 2 (fun _ _ => rfl) ?_
  refine q_Ru_call (v := some (.int b)) (h2 := H3) rfl (q_fv_at a1 rfl (Nat.zero_le 8)) c2 ?_
  show q_Ru _ _ _ (1930, [(5, .int r), (4, .int 0), (3, .ref (βX 103)), (2, .ref (βM 64)), (1, .ref (βX 64)), (0, .ref 0)], [.int b], H3) _
  refine q_Ru_seg (g2 := (1933, [(6, .int b), (5, .int r), (4, .int 0), (3, .ref (βX 103)), (2, .ref (βM 64)), (1, .ref (βX 64)), (0, .ref 0)], [.ref (βM 64)], H3)) 2 (fun _ _ => rfl) ?_
  refine q_Ru_call (v := some (.int r)) (h2 := H3) rfl (q_fv_at a2 rfl (Nat.zero_le 8)) (q_thrown a2 a3) ?_
  show q_Ru _ _ _ (1936, [(6, .int b), (5, .int r), (4, .int 0), (3, .ref (βX 103)), (2, .ref (βM 64)), (1, .ref (βX 64)), (0, .ref 0)], [.int r], H3) _
  refine q_Ru_seg (g2 := (1938, [(6, .int b), (5, .int r), (4, .int 0), (3, .ref (βX 103)), (2, .ref (βM 64)), (1, .ref (βX 64)), (0, .ref 0)], [.int r, .int r], H3)) 1 (fun _ _ => rfl) ?_
  refine q_Ru_rsT (g2 := (1943, [(6, .int b), (5, .int r), (4, .int 0), (3, .ref (βX 103)), (2, .ref (βM 64)), (1, .ref (βX 64)), (0, .ref 0)], [], H3)) rfl rfl (decide_eq_true rfl) ?_
  refine q_Ru_seg (g2 := (1945, [(6, .int b), (5, .int r), (4, .int 0), (3, .ref (βX 103)), (2, .ref (βM 64)), (1, .ref (βX 64)), (0, .ref 0)], [.int r], H3)) 1 (fun _ _ => rfl) ?_
  by_cases hr : r = 0
  · have hf9 := hf hr
    subst hr
    refine q_Ru_seg (g2 := (1948, [(6, .int b), (5, .int 0), (4, .int 0), (3, .ref (βX 103)), (2, .ref (βM 64)), (1, .ref (βX 64)), (0, .ref 0)], [], H3)) 1 (fun _ _ => rfl) ?_
    refine q_Ru_seg (g2 := (1950, [(6, .int b), (5, .int 0), (4, .int 0), (3, .ref (βX 103)), (2, .ref (βM 64)), (1, .ref (βX 64)), (0, .ref 0)], [.int 0, .ref (βX 103)], H3)) 2 (fun _ _ => rfl) ?_
    refine q_Ru_rsT (g2 := (1951, [(6, .int b), (5, .int 0), (4, .int 0), (3, .ref (βX 103)), (2, .ref (βM 64)), (1, .ref (βX 64)), (0, .ref 0)], [.long (f 0)], H3)) rfl (q_lld_at a4) rfl ?_
    rw [hf9]
    refine q_Ru_seg (g2 := (1955, [(6, .int b), (5, .int 0), (4, .int 0), (3, .ref (βX 103)), (2, .ref (βM 64)), (1, .ref (βX 64)), (0, .ref 0)], [.int (lg_cmp b.toInt64 b.toInt64)], H3)) 3 (fun _ _ => rfl) ?_
    rw [q_lcmp_rf]
    refine q_Ru_seg (g2 := (1960, [(6, .int b), (5, .int 0), (4, .int 0), (3, .ref (βX 103)), (2, .ref (βM 64)), (1, .ref (βX 64)), (0, .ref 0)], [], H3)) 1 (fun _ _ => rfl) ?_
    refine q_Ru_seg (g2 := (2132, [(4, .int 4), (6, .int b), (5, .int 0), (3, .ref (βX 103)), (2, .ref (βM 64)), (1, .ref (βX 64)), (0, .ref 0)], [.int 1], H3)) 10 (fun _ _ => rfl) ?_
    exact q_Ru_ret rfl rfl
  · refine q_Ru_rsT (g2 := (1960, [(6, .int b), (5, .int r), (4, .int 0), (3, .ref (βX 103)), (2, .ref (βM 64)), (1, .ref (βX 64)), (0, .ref 0)], [], H3)) rfl rfl (decide_eq_true hr) ?_
    refine q_Ru_seg (g2 := (2132, [(4, .int 4), (6, .int b), (5, .int r), (3, .ref (βX 103)), (2, .ref (βM 64)), (1, .ref (βX 64)), (0, .ref 0)], [.int 1], H3)) 10 (fun _ _ => rfl) ?_
    exact q_Ru_ret rfl rfl
theorem q_lw_isSame {βX βM : Nat → Nat} {H : q_H} (hT : q_tw βX βM H) (z : Nat) (xs : Nat → Int32) : ∃ h, q_Ru (q_TBs z 4 xs) 12 377 (1963, [(4, .int 0), (3, .ref (βX 103)), (2, .ref (βM 64)), (1, .ref (βX 64)), (0, .ref 0)], [], H) (.inl (some (.int 1)), h) ∧ h.2.1 ≤ 600002 ∧ h.2.2 ≤ 7302231 := by
  obtain ⟨r, b, w, hX, hM, hw, hb⟩ := q_op_isSame
  obtain ⟨H2, H3, f, fs, fs2, c1, c2, a1, a2, a3, a4, hf, n1, n2⟩ := q_tw_op hT hX hM hw (fun _ => rfl) z 4 xs
  refine ⟨H3, ?_, by omega, by omega⟩
  refine q_Ru_seg (g2 := (1965, [(4, .int 0), (3, .ref (βX 103)), (2, .ref (βM 64)), (1, .ref (βX 64)), (0, .ref 0)], [.ref (βX 103), .ref (βX 64)], H)) 2 (fun _ _ => rfl) ?_
  refine q_Ru_call (v := some (.int r)) (h2 := H2) rfl rfl c1 ?_
  show q_Ru _ _ _ (1968, [(4, .int 0), (3, .ref (βX 103)), (2, .ref (βM 64)), (1, .ref (βX 64)), (0, .ref 0)], [.int r], H2) _
  refine q_Ru_seg (g2 := (1971, [(5, .int r), (4, .int 0), (3, .ref (βX 103)), (2, .ref (βM 64)), (1, .ref (βX 64)), (0, .ref 0)], [.ref (βM 64)], H2)) 2 (fun _ _ => rfl) ?_
  refine q_Ru_call (v := some (.int b)) (h2 := H3) rfl (q_fv_at a1 rfl (Nat.zero_le 8)) c2 ?_
  show q_Ru _ _ _ (1974, [(5, .int r), (4, .int 0), (3, .ref (βX 103)), (2, .ref (βM 64)), (1, .ref (βX 64)), (0, .ref 0)], [.int b], H3) _
  refine q_Ru_seg (g2 := (1977, [(6, .int b), (5, .int r), (4, .int 0), (3, .ref (βX 103)), (2, .ref (βM 64)), (1, .ref (βX 64)), (0, .ref 0)], [.ref (βM 64)], H3)) 2 (fun _ _ => rfl) ?_
  refine q_Ru_call (v := some (.int r)) (h2 := H3) rfl (q_fv_at a2 rfl (Nat.zero_le 8)) (q_thrown a2 a3) ?_
  show q_Ru _ _ _ (1980, [(6, .int b), (5, .int r), (4, .int 0), (3, .ref (βX 103)), (2, .ref (βM 64)), (1, .ref (βX 64)), (0, .ref 0)], [.int r], H3) _
  refine q_Ru_seg (g2 := (1982, [(6, .int b), (5, .int r), (4, .int 0), (3, .ref (βX 103)), (2, .ref (βM 64)), (1, .ref (βX 64)), (0, .ref 0)], [.int r, .int r], H3)) 1 (fun _ _ => rfl) ?_
  refine q_Ru_rsT (g2 := (1987, [(6, .int b), (5, .int r), (4, .int 0), (3, .ref (βX 103)), (2, .ref (βM 64)), (1, .ref (βX 64)), (0, .ref 0)], [], H3)) rfl rfl (decide_eq_true rfl) ?_
  refine q_Ru_seg (g2 := (1989, [(6, .int b), (5, .int r), (4, .int 0), (3, .ref (βX 103)), (2, .ref (βM 64)), (1, .ref (βX 64)), (0, .ref 0)], [.int r], H3)) 1 (fun _ _ => rfl) ?_
  by_cases hr : r = 0
  · have hf9 := hf hr
    subst hr
    refine q_Ru_seg (g2 := (1992, [(6, .int b), (5, .int 0), (4, .int 0), (3, .ref (βX 103)), (2, .ref (βM 64)), (1, .ref (βX 64)), (0, .ref 0)], [], H3)) 1 (fun _ _ => rfl) ?_
    refine q_Ru_seg (g2 := (1994, [(6, .int b), (5, .int 0), (4, .int 0), (3, .ref (βX 103)), (2, .ref (βM 64)), (1, .ref (βX 64)), (0, .ref 0)], [.int 0, .ref (βX 103)], H3)) 2 (fun _ _ => rfl) ?_
    refine q_Ru_rsT (g2 := (1995, [(6, .int b), (5, .int 0), (4, .int 0), (3, .ref (βX 103)), (2, .ref (βM 64)), (1, .ref (βX 64)), (0, .ref 0)], [.long (f 0)], H3)) rfl (q_lld_at a4) rfl ?_
    rw [hf9]
    rcases hb with hb | hb
    · subst hb
      show q_Ru _ _ _ (1995, [(6, .int 0), (5, .int 0), (4, .int 0), (3, .ref (βX 103)), (2, .ref (βM 64)), (1, .ref (βX 64)), (0, .ref 0)], [.long 0], H3) _
      refine q_Ru_seg (g2 := (2011, [(6, .int 0), (5, .int 0), (4, .int 0), (3, .ref (βX 103)), (2, .ref (βM 64)), (1, .ref (βX 64)), (0, .ref 0)], [], H3)) 5 (fun _ _ => rfl) ?_
      refine q_Ru_seg (g2 := (2132, [(4, .int 4), (6, .int 0), (5, .int 0), (3, .ref (βX 103)), (2, .ref (βM 64)), (1, .ref (βX 64)), (0, .ref 0)], [.int 1], H3)) 10 (fun _ _ => rfl) ?_
      exact q_Ru_ret rfl rfl
    · subst hb
      show q_Ru _ _ _ (1995, [(6, .int 1), (5, .int 0), (4, .int 0), (3, .ref (βX 103)), (2, .ref (βM 64)), (1, .ref (βX 64)), (0, .ref 0)], [.long 1], H3) _
      refine q_Ru_seg (g2 := (2011, [(6, .int 1), (5, .int 0), (4, .int 0), (3, .ref (βX 103)), (2, .ref (βM 64)), (1, .ref (βX 64)), (0, .ref 0)], [], H3)) 6 (fun _ _ => rfl) ?_
      refine q_Ru_seg (g2 := (2132, [(4, .int 4), (6, .int 1), (5, .int 0), (3, .ref (βX 103)), (2, .ref (βM 64)), (1, .ref (βX 64)), (0, .ref 0)], [.int 1], H3)) 10 (fun _ _ => rfl) ?_
      exact q_Ru_ret rfl rfl
  · refine q_Ru_rsT (g2 := (2011, [(6, .int b), (5, .int r), (4, .int 0), (3, .ref (βX 103)), (2, .ref (βM 64)), (1, .ref (βX 64)), (0, .ref 0)], [], H3)) rfl rfl (decide_eq_true hr) ?_
    refine q_Ru_seg (g2 := (2132, [(4, .int 4), (6, .int b), (5, .int r), (3, .ref (βX 103)), (2, .ref (βM 64)), (1, .ref (βX 64)), (0, .ref 0)], [.int 1], H3)) 10 (fun _ _ => rfl) ?_
    exact q_Ru_ret rfl rfl
theorem q_lw_sumOfPicture {βX βM : Nat → Nat} {H : q_H} (hT : q_tw βX βM H) (z : Nat) (xs : Nat → Int32) : ∃ h, q_Ru (q_TBs z 4 xs) 12 377 (2014, [(4, .int 0), (3, .ref (βX 103)), (2, .ref (βM 64)), (1, .ref (βX 64)), (0, .ref 0)], [], H) (.inl (some (.int 1)), h) ∧ h.2.1 ≤ 600002 ∧ h.2.2 ≤ 7302231 := by
  obtain ⟨b, hV⟩ := q_op_sumOfPicture
  obtain ⟨H2, H3, fs, fs2, a0, c1, a1, c2, n1, n2⟩ := q_tw_opV hT hV (fun _ => rfl) z 4 xs
  refine ⟨H3, ?_, by omega, by omega⟩
  refine q_Ru_seg (g2 := (2015, [(4, .int 0), (3, .ref (βX 103)), (2, .ref (βM 64)), (1, .ref (βX 64)), (0, .ref 0)], [.ref (βX 64)], H)) 1 (fun _ _ => rfl) ?_
  refine q_Ru_call (v := some (.int b)) (h2 := H2) rfl (q_fv_at a0 rfl (Nat.zero_le 8)) c1 ?_
  show q_Ru _ _ _ (2018, [(4, .int 0), (3, .ref (βX 103)), (2, .ref (βM 64)), (1, .ref (βX 64)), (0, .ref 0)], [.int b], H2) _
  refine q_Ru_seg (g2 := (2019, [(4, .int 0), (3, .ref (βX 103)), (2, .ref (βM 64)), (1, .ref (βX 64)), (0, .ref 0)], [.ref (βM 64), .int b], H2)) 1 (fun _ _ => rfl) ?_
  refine q_Ru_call (v := some (.int b)) (h2 := H3) rfl (q_fv_at a1 rfl (Nat.le_of_ble_eq_true rfl)) c2 ?_
  show q_Ru _ _ _ (2022, [(4, .int 0), (3, .ref (βX 103)), (2, .ref (βM 64)), (1, .ref (βX 64)), (0, .ref 0)], [.int b, .int b], H3) _
  refine q_Ru_rsT (g2 := (2125, [(4, .int 0), (3, .ref (βX 103)), (2, .ref (βM 64)), (1, .ref (βX 64)), (0, .ref 0)], [], H3)) rfl rfl (decide_eq_true rfl) ?_
  refine q_Ru_seg (g2 := (2132, [(4, .int 4), (3, .ref (βX 103)), (2, .ref (βM 64)), (1, .ref (βX 64)), (0, .ref 0)], [.int 1], H3)) 9 (fun _ _ => rfl) ?_
  exact q_Ru_ret rfl rfl
theorem q_lw_pictures {βX βM : Nat → Nat} {H : q_H} (hT : q_tw βX βM H) (z : Nat) (xs : Nat → Int32) : ∃ h, q_Ru (q_TBs z 4 xs) 12 377 (2027, [(4, .int 0), (3, .ref (βX 103)), (2, .ref (βM 64)), (1, .ref (βX 64)), (0, .ref 0)], [], H) (.inl (some (.int 1)), h) ∧ h.2.1 ≤ 600002 ∧ h.2.2 ≤ 7302231 := by
  obtain ⟨b, hV⟩ := q_op_pictures
  obtain ⟨H2, H3, fs, fs2, a0, c1, a1, c2, n1, n2⟩ := q_tw_opV hT hV (fun _ => rfl) z 4 xs
  refine ⟨H3, ?_, by omega, by omega⟩
  refine q_Ru_seg (g2 := (2028, [(4, .int 0), (3, .ref (βX 103)), (2, .ref (βM 64)), (1, .ref (βX 64)), (0, .ref 0)], [.ref (βX 64)], H)) 1 (fun _ _ => rfl) ?_
  refine q_Ru_call (v := some (.long b)) (h2 := H2) rfl (q_fv_at a0 rfl (Nat.zero_le 8)) c1 ?_
  show q_Ru _ _ _ (2031, [(4, .int 0), (3, .ref (βX 103)), (2, .ref (βM 64)), (1, .ref (βX 64)), (0, .ref 0)], [.long b], H2) _
  refine q_Ru_seg (g2 := (2032, [(4, .int 0), (3, .ref (βX 103)), (2, .ref (βM 64)), (1, .ref (βX 64)), (0, .ref 0)], [.ref (βM 64), .long b], H2)) 1 (fun _ _ => rfl) ?_
  refine q_Ru_call (v := some (.long b)) (h2 := H3) rfl (q_fv_at a1 rfl (Nat.le_of_ble_eq_true rfl)) c2 ?_
  show q_Ru _ _ _ (2035, [(4, .int 0), (3, .ref (βX 103)), (2, .ref (βM 64)), (1, .ref (βX 64)), (0, .ref 0)], [.long b, .long b], H3) _
  refine q_Ru_seg (g2 := (2036, [(4, .int 0), (3, .ref (βX 103)), (2, .ref (βM 64)), (1, .ref (βX 64)), (0, .ref 0)], [.int (lg_cmp b b)], H3)) 1 (fun _ _ => rfl) ?_
  rw [q_lcmp_rf]
  refine q_Ru_seg (g2 := (2125, [(4, .int 0), (3, .ref (βX 103)), (2, .ref (βM 64)), (1, .ref (βX 64)), (0, .ref 0)], [], H3)) 1 (fun _ _ => rfl) ?_
  refine q_Ru_seg (g2 := (2132, [(4, .int 4), (3, .ref (βX 103)), (2, .ref (βM 64)), (1, .ref (βX 64)), (0, .ref 0)], [.int 1], H3)) 9 (fun _ _ => rfl) ?_
  exact q_Ru_ret rfl rfl
theorem q_lw_solidShare {βX βM : Nat → Nat} {H : q_H} (hT : q_tw βX βM H) (z : Nat) (xs : Nat → Int32) : ∃ h, q_Ru (q_TBs z 4 xs) 12 377 (2041, [(4, .int 0), (3, .ref (βX 103)), (2, .ref (βM 64)), (1, .ref (βX 64)), (0, .ref 0)], [], H) (.inl (some (.int 1)), h) ∧ h.2.1 ≤ 600002 ∧ h.2.2 ≤ 7302231 := by
  have hV := q_op_solidShare
  obtain ⟨H2, H3, fs, fs2, a0, c1, a1, c2, n1, n2⟩ := q_tw_opV hT hV (fun _ => rfl) z 4 xs
  refine ⟨H3, ?_, by omega, by omega⟩
  refine q_Ru_seg (g2 := (2042, [(4, .int 0), (3, .ref (βX 103)), (2, .ref (βM 64)), (1, .ref (βX 64)), (0, .ref 0)], [.ref (βX 64)], H)) 1 (fun _ _ => rfl) ?_
  refine q_Ru_call (v := some (.float 0)) (h2 := H2) rfl (q_fv_at a0 rfl (Nat.zero_le 8)) c1 ?_
  show q_Ru _ _ _ (2045, [(4, .int 0), (3, .ref (βX 103)), (2, .ref (βM 64)), (1, .ref (βX 64)), (0, .ref 0)], [.float 0], H2) _
  refine q_Ru_seg (g2 := (2049, [(5, .double 0), (4, .int 0), (3, .ref (βX 103)), (2, .ref (βM 64)), (1, .ref (βX 64)), (0, .ref 0)], [.ref (βM 64)], H2)) 3 (fun _ _ => rfl) ?_
  refine q_Ru_call (v := some (.float 0)) (h2 := H3) rfl (q_fv_at a1 rfl (Nat.le_of_ble_eq_true rfl)) c2 ?_
  show q_Ru _ _ _ (2052, [(5, .double 0), (4, .int 0), (3, .ref (βX 103)), (2, .ref (βM 64)), (1, .ref (βX 64)), (0, .ref 0)], [.float 0], H3) _
  refine q_Ru_seg (g2 := (2081, [(7, .double 0), (5, .double 0), (4, .int 0), (3, .ref (βX 103)), (2, .ref (βM 64)), (1, .ref (βX 64)), (0, .ref 0)], [], H3)) 6 (fun _ _ => rfl) ?_
  refine q_Ru_seg (g2 := (2132, [(4, .int 4), (7, .double 0), (5, .double 0), (3, .ref (βX 103)), (2, .ref (βM 64)), (1, .ref (βX 64)), (0, .ref 0)], [.int 1], H3)) 10 (fun _ _ => rfl) ?_
  exact q_Ru_ret rfl rfl
theorem q_lw_meanSample {βX βM : Nat → Nat} {H : q_H} (hT : q_tw βX βM H) (z : Nat) (xs : Nat → Int32) : ∃ h, q_Ru (q_TBs z 4 xs) 12 377 (2084, [(4, .int 0), (3, .ref (βX 103)), (2, .ref (βM 64)), (1, .ref (βX 64)), (0, .ref 0)], [], H) (.inl (some (.int 1)), h) ∧ h.2.1 ≤ 600002 ∧ h.2.2 ≤ 7302231 := by
  have hV := q_op_meanSample
  obtain ⟨H2, H3, fs, fs2, a0, c1, a1, c2, n1, n2⟩ := q_tw_opV hT hV (fun _ => rfl) z 4 xs
  refine ⟨H3, ?_, by omega, by omega⟩
  refine q_Ru_seg (g2 := (2085, [(4, .int 0), (3, .ref (βX 103)), (2, .ref (βM 64)), (1, .ref (βX 64)), (0, .ref 0)], [.ref (βX 64)], H)) 1 (fun _ _ => rfl) ?_
  refine q_Ru_call (v := some (.double 0)) (h2 := H2) rfl (q_fv_at a0 rfl (Nat.zero_le 8)) c1 ?_
  show q_Ru _ _ _ (2088, [(4, .int 0), (3, .ref (βX 103)), (2, .ref (βM 64)), (1, .ref (βX 64)), (0, .ref 0)], [.double 0], H2) _
  refine q_Ru_seg (g2 := (2091, [(5, .double 0), (4, .int 0), (3, .ref (βX 103)), (2, .ref (βM 64)), (1, .ref (βX 64)), (0, .ref 0)], [.ref (βM 64)], H2)) 2 (fun _ _ => rfl) ?_
  refine q_Ru_call (v := some (.double 0)) (h2 := H3) rfl (q_fv_at a1 rfl (Nat.le_of_ble_eq_true rfl)) c2 ?_
  show q_Ru _ _ _ (2094, [(5, .double 0), (4, .int 0), (3, .ref (βX 103)), (2, .ref (βM 64)), (1, .ref (βX 64)), (0, .ref 0)], [.double 0], H3) _
  refine q_Ru_seg (g2 := (2122, [(7, .double 0), (5, .double 0), (4, .int 0), (3, .ref (βX 103)), (2, .ref (βM 64)), (1, .ref (βX 64)), (0, .ref 0)], [], H3)) 5 (fun _ _ => rfl) ?_
  refine q_Ru_seg (g2 := (2132, [(4, .int 4), (7, .double 0), (5, .double 0), (3, .ref (βX 103)), (2, .ref (βM 64)), (1, .ref (βX 64)), (0, .ref 0)], [.int 1], H3)) 10 (fun _ _ => rfl) ?_
  exact q_Ru_ret rfl rfl
