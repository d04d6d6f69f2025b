theorem q_run : ∀ (z L : Nat) (xs : Nat → Int32), (z = 98 ∨ z = 99) → L ≤ 2048 → ∃ (n d : Nat) (h : q_H), d ≤ 800 ∧ q_loop (q_exec q_mt (q_mtab (q_TBs z L xs)) n d) (q_mtab (q_TBs z L xs) 376) n (0, [(0, .ref 0)], [], ([], 0, 0)) = some (.inl (some (.int 1)), h) ∧ h.2.1 ≤ 601024 ∧ h.2.2 ≤ 7293034 := by
  intro z L xs _ hL
  obtain ⟨S2, c2, n2, ⟨n, e⟩, g1, g2⟩ : ∃ S2 c2 n2, q_Ru (q_TBs z L xs) 20 376 (0, [(0, .ref 0)], [], ([], 0, 0)) (.inl (some (.int 1)), q_kL S2 c2 n2) ∧ c2 ≤ 207 + 512 ∧ n2 ≤ 149582 + 6 * 512 := by
    obtain ⟨S2, c2, n2, e, g1, g2⟩ := q_lwA (z := z) (xs := xs) hL 512 0 0 q_SL0 207 149582 (by decide) (by omega) (by decide) q_IV0
    exact ⟨S2, c2, n2, q_lwS e, by omega, by omega⟩
  exact ⟨n, 20, q_kL S2 c2 n2, by decide, e, by show c2 ≤ 601024; omega, by show n2 ≤ 7293034; omega⟩
