theorem q_cls {args : Array Value} {s : State} (hts : ∀ w ∈ lw_tbl, w.before args s = true) : ∃ (dC : Nat → ClassId) (dI : Nat → Nat → Nat), ∀ (k : Nat) (q : vw_C), vwCl[k]? = some q → u_Kn s q.1 q.2.1 q.2.2 (dC k) (dI k) := by
  obtain ⟨c0, i0, h0⟩ := u_known (C := RJ0) (T := TJ0) (N := 4) (n := 4) hts q_kn0 (hts (.instantiable RJ0 4) (List.mem_append_right _ (show _ ∈ tables_1 from List.mem_append_right _ (List.mem_append_right _ (List.mem_append_right _ (List.mem_append_right _ (List.mem_append_left _ (List.mem_of_getElem? (i := 239) rfl))))))))
  obtain ⟨c1, i1, h1⟩ := u_known (C := RJ4) (T := TJ4) (N := 4) (n := 4) hts q_kn1 (hts (.instantiable RJ4 4) (List.mem_append_right _ (show _ ∈ tables_1 from List.mem_append_right _ (List.mem_append_left _ (List.mem_of_getElem? (i := 83) rfl)))))
  obtain ⟨c2, i2, h2⟩ := u_known (C := RJx00060) (T := TJx00060) (N := 6) (n := 6) hts q_kn2 (hts (.instantiable RJx00060 6) (List.mem_append_right _ (show _ ∈ tables_1 from List.mem_append_right _ (List.mem_append_right _ (List.mem_append_right _ (List.mem_append_right _ (List.mem_append_right _ (List.mem_append_left _ (List.mem_of_getElem? (i := 83) rfl)))))))))
  obtain ⟨c3, i3, h3⟩ := u_known (C := RJx7c733) (T := TJx7c733) (N := 6) (n := 6) hts q_kn3 (hts (.instantiable RJx7c733 6) (List.mem_append_right _ (show _ ∈ tables_1 from List.mem_append_right _ (List.mem_append_right _ (List.mem_append_right _ (List.mem_append_right _ (List.mem_append_left _ (List.mem_of_getElem? (i := 84) rfl))))))))
  obtain ⟨c4, i4, h4⟩ := u_known (C := RX0) (T := TX0) (N := 9) (n := 9) hts q_kn4 (hts (.instantiable RX0 9) (List.mem_append_right _ (show _ ∈ tables_1 from List.mem_append_left _ (List.mem_of_getElem? (i := 50) rfl))))
  obtain ⟨c5, i5, h5⟩ := u_known (C := RX2) (T := TX2) (N := 4) (n := 4) hts q_kn5 (hts (.instantiable RX2 4) (List.mem_append_right _ (show _ ∈ tables_1 from List.mem_append_left _ (List.mem_of_getElem? (i := 122) rfl))))
  obtain ⟨c6, i6, h6⟩ := u_known (C := RX3) (T := TX3) (N := 3) (n := 3) hts q_kn6 (hts (.instantiable RX3 3) (List.mem_append_right _ (show _ ∈ tables_1 from List.mem_append_left _ (List.mem_of_getElem? (i := 103) rfl))))
  obtain ⟨c7, i7, h7⟩ := u_known (C := RX4) (T := TX4) (N := 5) (n := 5) hts q_kn7 (hts (.instantiable RX4 5) (List.mem_append_right _ (show _ ∈ tables_1 from List.mem_append_left _ (List.mem_of_getElem? (i := 44) rfl))))
  obtain ⟨c8, i8, h8⟩ := u_known (C := RX6) (T := TX6) (N := 13) (n := 13) hts q_kn8 (hts (.instantiable RX6 13) (List.mem_append_right _ (show _ ∈ tables_1 from List.mem_append_left _ (List.mem_of_getElem? (i := 180) rfl))))
  obtain ⟨c9, i9, h9⟩ := u_known (C := RX7) (T := TX7) (N := 8) (n := 8) hts q_kn9 (hts (.instantiable RX7 8) (List.mem_append_right _ (show _ ∈ tables_1 from List.mem_append_right _ (List.mem_append_left _ (List.mem_of_getElem? (i := 42) rfl)))))
  obtain ⟨c10, i10, h10⟩ := u_known (C := RX8) (T := TX8) (N := 2) (n := 2) hts q_kn10 (hts (.instantiable RX8 2) (List.mem_append_right _ (show _ ∈ tables_1 from List.mem_append_left _ (List.mem_of_getElem? (i := 56) rfl))))
  obtain ⟨c11, i11, h11⟩ := u_known (C := RX9) (T := TX9) (N := 5) (n := 5) hts q_kn11 (hts (.instantiable RX9 5) (List.mem_append_right _ (show _ ∈ tables_1 from List.mem_append_left _ (List.mem_of_getElem? (i := 76) rfl))))
  obtain ⟨c12, i12, h12⟩ := u_known (C := RX10) (T := TX10) (N := 5) (n := 5) hts q_kn12 (hts (.instantiable RX10 5) (List.mem_append_right _ (show _ ∈ tables_1 from List.mem_append_left _ (List.mem_of_getElem? (i := 236) rfl))))
  obtain ⟨c13, i13, h13⟩ := u_known (C := RX11) (T := TX11) (N := 6) (n := 6) hts q_kn13 (hts (.instantiable RX11 6) (List.mem_append_right _ (show _ ∈ tables_1 from List.mem_append_left _ (List.mem_of_getElem? (i := 36) rfl))))
  obtain ⟨c14, i14, h14⟩ := u_known (C := RX12) (T := TX12) (N := 40) (n := 40) hts q_kn14 (hts (.instantiable RX12 40) (List.mem_append_right _ (show _ ∈ tables_1 from List.mem_append_right _ (List.mem_append_right _ (List.mem_append_right _ (List.mem_append_right _ (List.mem_append_right _ (List.mem_append_right _ (List.mem_append_left _ (List.mem_of_getElem? (i := 159) rfl))))))))))
  refine ⟨fun k => [c0, c1, c2, c3, c4, c5, c6, c7, c8, c9, c10, c11, c12, c13, c14].getD k 0, fun k => [i0, i1, i2, i3, i4, i5, i6, i7, i8, i9, i10, i11, i12, i13, i14].getD k (fun _ => 0), ?_⟩
  intro k q hq
  match k, hq with
  | 0, hq => cases hq; exact h0
  | 1, hq => cases hq; exact h1
  | 2, hq => cases hq; exact h2
  | 3, hq => cases hq; exact h3
  | 4, hq => cases hq; exact h4
  | 5, hq => cases hq; exact h5
  | 6, hq => cases hq; exact h6
  | 7, hq => cases hq; exact h7
  | 8, hq => cases hq; exact h8
  | 9, hq => cases hq; exact h9
  | 10, hq => cases hq; exact h10
  | 11, hq => cases hq; exact h11
  | 12, hq => cases hq; exact h12
  | 13, hq => cases hq; exact h13
  | 14, hq => cases hq; exact h14
  | k + 15, hq => cases hq
