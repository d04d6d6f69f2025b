/-! ===== .. new cells, switches, calls, ends; the run ===== -/
theorem q_Rn_new {nx ci N : Nat} {fs : List Value} (hfs : ∀ β, fs.map (q_v β) = fs) : q_RnJ (q_new nx ci N fs) := by
  intro β δ σ g g2 H hf hg0 hE
  obtain ⟨pc, L, st, hp⟩ := g
  unfold q_new at hf
  cases hf
  obtain ⟨hE2, hR⟩ := hE.push hg0.2.2 (.inr (ci, fs)) (fun β2 => by show Sum.inr (ci, fs.map (q_v β2)) = Sum.inr (ci, fs); rw [hfs]) 1 N
  refine ⟨_, _, ?_, hE2, hR⟩
  show some (nx, q_l β L, Value.ref (64 + H.1.length) :: st.map (q_v β), H.1 ++ [.inr (ci, fs)], H.2.1 + 1, H.2.2 + N) = some (nx, q_l (q_up β hp.1.length (64 + H.1.length)) L, Value.ref (q_up β hp.1.length (64 + H.1.length) (64 + hp.1.length)) :: st.map (q_v (q_up β hp.1.length (64 + H.1.length))), H.1 ++ [.inr (ci, fs)], H.2.1 + 1, H.2.2 + N)
  rw [q_up_at, q_l_ag (q_up_ag β hp.1.length _) hg0.1, q_vs_ag (q_up_ag β hp.1.length _) hg0.2.1]
theorem q_Rn_nwa {nx t : Nat} {z : (Nat → Int32) ⊕ (Nat → Int64) ⊕ (Nat → UInt32) ⊕ (Nat → UInt64) ⊕ (Nat → Option Nat)} (hz : ∀ β, q_x β z = z) : q_RnJ (q_rs (q_nwa nx t z)) := by
  intro β δ σ g g2 H hf hg0 hE
  obtain ⟨pc, L, st, hp⟩ := g
  unfold q_rs q_nwa at hf
  dsimp only at hf
  split at hf
  · cases hf
  · rename_i t9 g1 g3 hs
    split at hs
    · rename_i n r
      cases hs
      cases hq : (!(decide (n < 0)) && decide (n.toNatClampNeg ≤ 1000000)) with
      | false => rw [hq] at hf; cases hf
      | true =>
        rw [hq] at hf
        cases hf
        obtain ⟨hE2, hR⟩ := hE.push hg0.2.2 (.inl (t, n.toNatClampNeg, z)) (fun β2 => by show Sum.inl (t, n.toNatClampNeg, q_x β2 z) = Sum.inl (t, n.toNatClampNeg, z); rw [hz]) 1 n.toNatClampNeg
        refine ⟨_, _, ?_, hE2, hR⟩
        unfold q_rs q_nwa
        show (match (!(decide (n < 0)) && decide (n.toNatClampNeg ≤ 1000000)) with
          | true => some (nx, q_l β L, Value.ref (64 + H.1.length) :: r.map (q_v β), H.1 ++ [.inl (t, n.toNatClampNeg, z)], H.2.1 + 1, H.2.2 + n.toNatClampNeg)
          | false => none) = some (nx, q_l (q_up β hp.1.length (64 + H.1.length)) L, Value.ref (q_up β hp.1.length (64 + H.1.length) (64 + hp.1.length)) :: r.map (q_v (q_up β hp.1.length (64 + H.1.length))), H.1 ++ [.inl (t, n.toNatClampNeg, z)], H.2.1 + 1, H.2.2 + n.toNatClampNeg)
        rw [hq, q_up_at, q_l_ag (q_up_ag β hp.1.length _) hg0.1, q_vs_ag (q_up_ag β hp.1.length _) (fun v hv => hg0.2.1 v (List.mem_cons_of_mem _ hv))]
    · cases hs
theorem q_Rn_acp {nx t : Nat} {fit : Int32 → Bool} : q_RnJ (q_rs (q_acp nx t fit)) := by
  intro β δ σ g g2 H hf hg0 hE
  obtain ⟨pc, L, st, hp⟩ := g
  unfold q_rs q_acp at hf
  dsimp only at hf
  split at hf
  · cases hf
  · rename_i t9 g1 g3 hs
    split at hs
    · rename_i n dp a sp b r
      split at hs
      · rename_i u n0 f v n1 f1 e1 e9
        split at hs
        · rename_i hu
          cases hs
          generalize hq : (!(decide (sp < 0)) && (!(decide (dp < 0)) && (!(decide (n < 0)) && (decide (sp.toNatClampNeg + n.toNatClampNeg ≤ n0) && (decide (dp.toNatClampNeg + n.toNatClampNeg ≤ n1) && (List.range n.toNatClampNeg).all fun i => fit (f (sp.toNatClampNeg + i))))))) = B at hf
          cases B with
          | false => cases hf
          | true =>
            cases hf
            obtain ⟨hb, e2⟩ := hE.at e1
            obtain ⟨hb9, e29⟩ := hE.at e9
            obtain ⟨hE2, hR⟩ := hE.set e9 (.inl (t, n1, .inl (va_cpy f f1 sp.toNatClampNeg dp.toNatClampNeg n.toNatClampNeg)))
            refine ⟨β, _, ?_, hE2, hR⟩
            unfold q_rs q_acp
            show (match (match q_at H (β b), q_at H (β a) with
              | some (.inl (u, n0, .inl f)), some (.inl (v, n1, .inl f1)) => if u = t ∧ v = t ∧ ((r.map (q_v β)).map fun (v : Value) => v.category).sum ≤ 8 then some (!(decide (sp < 0)) && (!(decide (dp < 0)) && (!(decide (n < 0)) && (decide (sp.toNatClampNeg + n.toNatClampNeg ≤ n0) && (decide (dp.toNatClampNeg + n.toNatClampNeg ≤ n1) && (List.range n.toNatClampNeg).all fun i => fit (f (sp.toNatClampNeg + i)))))), (nx, q_l β L, r.map (q_v β), H.1.set (β a - 64) (.inl (t, n1, .inl (va_cpy f f1 sp.toNatClampNeg dp.toNatClampNeg n.toNatClampNeg))), H.2), (none : Option q_G)) else none
              | _, _ => none) with
              | none => none
              | some (t, g1, g2) => match t with
                | true => some g1
                | false => g2) = _
            rw [e2, e29, q_catm]
            show (match (if u = t ∧ v = t ∧ (r.map fun (v : Value) => v.category).sum ≤ 8 then some (!(decide (sp < 0)) && (!(decide (dp < 0)) && (!(decide (n < 0)) && (decide (sp.toNatClampNeg + n.toNatClampNeg ≤ n0) && (decide (dp.toNatClampNeg + n.toNatClampNeg ≤ n1) && (List.range n.toNatClampNeg).all fun i => fit (f (sp.toNatClampNeg + i)))))), (nx, q_l β L, r.map (q_v β), H.1.set (β a - 64) (.inl (t, n1, .inl (va_cpy f f1 sp.toNatClampNeg dp.toNatClampNeg n.toNatClampNeg))), H.2), (none : Option q_G)) else none) with
              | none => none
              | some (t, g1, g2) => match t with
                | true => some g1
                | false => g2) = _
            rw [if_pos hu]
            dsimp only
            rw [hq]; rfl
        · cases hs
      · cases hs
    · cases hs
theorem q_Rn_acpT {TB : Nat → Option (Nat × Nat × (Nat → Int32))} {nx t : Nat} {fit : Int32 → Bool} : q_RnJ (q_rs (q_acpT TB nx t fit)) := by
  intro β δ σ g g2 H hf hg0 hE
  obtain ⟨pc, L, st, hp⟩ := g
  unfold q_rs q_acpT at hf
  dsimp only at hf
  split at hf
  · cases hf
  · rename_i t9 g1 g3 hs
    split at hs
    · rename_i n dp a sp b r
      split at hs
      · rename_i u n0 f v n1 f1 e1 e9
        split at hs
        · rename_i hu
          cases hs
          generalize hq : (!(decide (sp < 0)) && (!(decide (dp < 0)) && (!(decide (n < 0)) && (decide (sp.toNatClampNeg + n.toNatClampNeg ≤ n0) && (decide (dp.toNatClampNeg + n.toNatClampNeg ≤ n1) && (List.range n.toNatClampNeg).all fun i => fit (f (sp.toNatClampNeg + i))))))) = B at hf
          cases B with
          | false => cases hf
          | true =>
            cases hf
            have e2 := hE.ar e1
            obtain ⟨hb9, e29⟩ := hE.at e9
            obtain ⟨hE2, hR⟩ := hE.set e9 (.inl (t, n1, .inl (va_cpy f f1 sp.toNatClampNeg dp.toNatClampNeg n.toNatClampNeg)))
            refine ⟨β, _, ?_, hE2, hR⟩
            unfold q_rs q_acpT
            show (match (match q_ar TB H (β b), q_at H (β a) with
              | some (u, n0, f), some (.inl (v, n1, .inl f1)) => if u = t ∧ v = t ∧ ((r.map (q_v β)).map fun (v : Value) => v.category).sum ≤ 8 then some (!(decide (sp < 0)) && (!(decide (dp < 0)) && (!(decide (n < 0)) && (decide (sp.toNatClampNeg + n.toNatClampNeg ≤ n0) && (decide (dp.toNatClampNeg + n.toNatClampNeg ≤ n1) && (List.range n.toNatClampNeg).all fun i => fit (f (sp.toNatClampNeg + i)))))), (nx, q_l β L, r.map (q_v β), H.1.set (β a - 64) (.inl (t, n1, .inl (va_cpy f f1 sp.toNatClampNeg dp.toNatClampNeg n.toNatClampNeg))), H.2), (none : Option q_G)) else none
              | _, _ => none) with
              | none => none
              | some (t, g1, g2) => match t with
                | true => some g1
                | false => g2) = _
            rw [e2, e29, q_catm]
            show (match (if u = t ∧ v = t ∧ (r.map fun (v : Value) => v.category).sum ≤ 8 then some (!(decide (sp < 0)) && (!(decide (dp < 0)) && (!(decide (n < 0)) && (decide (sp.toNatClampNeg + n.toNatClampNeg ≤ n0) && (decide (dp.toNatClampNeg + n.toNatClampNeg ≤ n1) && (List.range n.toNatClampNeg).all fun i => fit (f (sp.toNatClampNeg + i)))))), (nx, q_l β L, r.map (q_v β), H.1.set (β a - 64) (.inl (t, n1, .inl (va_cpy f f1 sp.toNatClampNeg dp.toNatClampNeg n.toNatClampNeg))), H.2), (none : Option q_G)) else none) with
              | none => none
              | some (t, g1, g2) => match t with
                | true => some g1
                | false => g2) = _
            rw [if_pos hu]
            dsimp only
            rw [hq]; rfl
        · cases hs
      · cases hs
    · cases hs
theorem q_Rn_obj {nx : Nat} : q_RnJ (q_obj nx) := by
  intro β δ σ g g2 H hf hg0 hE
  obtain ⟨pc, L, st, hp⟩ := g
  unfold q_obj at hf
  dsimp only at hf
  split at hf
  · rename_i a r
    split at hf
    · rename_i hs
      cases hf
      refine ⟨β, H, ?_, hE, q_Rs.rf⟩
      unfold q_obj
      show (if ((r.map (q_v β)).map fun (v : Value) => v.category).sum ≤ 8 then some (nx, q_l β L, r.map (q_v β), H) else none) = _
      rw [q_catm, if_pos hs]; rfl
    · cases hf
  · cases hf
theorem q_Rn_tsw {pc : Nat} {dflt lo hi : Int} {offs : Array Int} : q_RnJ (q_tsw pc dflt lo hi offs) := by
  intro β δ σ g g2 H hf hg0 hE
  obtain ⟨pc, L, st, hp⟩ := g
  unfold q_tsw at hf
  dsimp only at hf
  split at hf
  · rename_i x r
    split at hf
    · rename_i hx
      cases hf
      refine ⟨β, H, ?_, hE, q_Rs.rf⟩
      unfold q_tsw q_rg
      show (if x.toInt < lo ∨ hi < x.toInt then _ else _) = _
      rw [if_pos hx]
    · rename_i hx
      split at hf
      · rename_i o ho
        cases hf
        refine ⟨β, H, ?_, hE, q_Rs.rf⟩
        unfold q_tsw q_rg
        show (if x.toInt < lo ∨ hi < x.toInt then _ else match offs[(x.toInt - lo).toNat]? with
          | some o => _
          | none => _) = _
        rw [if_neg hx, ho]
      · cases hf
  · cases hf
theorem q_Rn_lsw {pc : Nat} {dflt : Int} {ps : Array (Int × Int)} : q_RnJ (q_lsw pc dflt ps) := by
  intro β δ σ g g2 H hf hg0 hE
  obtain ⟨pc, L, st, hp⟩ := g
  unfold q_lsw at hf
  dsimp only at hf
  split at hf
  · rename_i x r
    cases hf
    exact ⟨β, H, rfl, hE, q_Rs.rf⟩
  · cases hf
theorem q_Rn_br {tgt nx : Nat} {b : List Value → Option (Bool × List Value)} (hb : ∀ β st t st2, b st = some (t, st2) → b (st.map (q_v β)) = some (t, st2.map (q_v β))) : q_RnJ (q_rs (q_br tgt nx b)) := by
  intro β δ σ g g2 H hf hg0 hE
  obtain ⟨pc, L, st, hp⟩ := g
  unfold q_rs q_br at hf
  dsimp only at hf
  split at hf
  · cases hf
  · rename_i t g1 g3 hs
    split at hs
    · cases hs
    · rename_i t2 st2 h9
      cases hs
      cases t with
      | true =>
        cases hf
        refine ⟨β, H, ?_, hE, q_Rs.rf⟩
        unfold q_rs q_br q_rg
        dsimp only
        rw [hb β _ _ _ h9]
      | false =>
        cases hf
        refine ⟨β, H, ?_, hE, q_Rs.rf⟩
        unfold q_rs q_br q_rg
        dsimp only
        rw [hb β _ _ _ h9]
theorem q_nb1 {t : Int32 → Bool} : ∀ β st t9 st2, q_b1 t st = some (t9, st2) → q_b1 t (st.map (q_v β)) = some (t9, st2.map (q_v β)) := by
  intro β st t9 st2 e
  unfold q_b1 at e
  split at e
  · cases e; rfl
  · cases e
theorem q_nb2 {t : Int32 → Int32 → Bool} : ∀ β st t9 st2, q_b2 t st = some (t9, st2) → q_b2 t (st.map (q_v β)) = some (t9, st2.map (q_v β)) := by
  intro β st t9 st2 e
  unfold q_b2 at e
  split at e
  · cases e; rfl
  · cases e
theorem q_nbn : ∀ β st t9 st2, q_bn st = some (t9, st2) → q_bn (st.map (q_v β)) = some (t9, st2.map (q_v β)) := by
  intro β st t9 st2 e
  unfold q_bn at e
  split at e
  · cases e; rfl
  · cases e; rfl
  · cases e
theorem q_nbnn : ∀ β st t9 st2, q_bnn st = some (t9, st2) → q_bnn (st.map (q_v β)) = some (t9, st2.map (q_v β)) := by
  intro β st t9 st2 e
  unfold q_bnn at e
  split at e
  · cases e; rfl
  · cases e; rfl
  · cases e
/-- ends -/
def q_RnR (f : q_G → Option (Option Value)) : Prop := ∀ (β : Nat → Nat) (g : q_G) (v : Option Value) (H : q_H), f g = some v → f (q_rg β g H) = some (v.map (q_v β))
theorem q_nr_i : q_RnR q_ri := by
  intro β g v H e
  obtain ⟨pc, L, st, hp⟩ := g
  unfold q_ri at e
  dsimp only at e
  split at e
  · cases e; rfl
  · cases e
theorem q_nr_z : q_RnR q_rz := by
  intro β g v H e
  obtain ⟨pc, L, st, hp⟩ := g
  unfold q_rz at e
  dsimp only at e
  split at e
  · rename_i x
    split at e
    · rename_i hx
      cases e
      show (if x = 0 ∨ x = 1 then some (some (Value.int x)) else none) = _
      rw [if_pos hx]; rfl
    · cases e
  · cases e
theorem q_nr_c : q_RnR q_rc := by
  intro β g v H e
  obtain ⟨pc, L, st, hp⟩ := g
  unfold q_rc at e
  dsimp only at e
  split at e
  · rename_i x
    split at e
    · rename_i hx
      cases e
      show (if vp_nar .char x = x then some (some (Value.int x)) else none) = _
      rw [if_pos hx]; rfl
    · cases e
  · cases e
theorem q_nr_l : q_RnR q_rl := by
  intro β g v H e
  obtain ⟨pc, L, st, hp⟩ := g
  unfold q_rl at e
  dsimp only at e
  split at e
  · cases e; rfl
  · cases e
theorem q_nr_f : q_RnR q_rf := by
  intro β g v H e
  obtain ⟨pc, L, st, hp⟩ := g
  unfold q_rf at e
  dsimp only at e
  split at e
  · cases e; rfl
  · cases e
theorem q_nr_d : q_RnR q_rd := by
  intro β g v H e
  obtain ⟨pc, L, st, hp⟩ := g
  unfold q_rd at e
  dsimp only at e
  split at e
  · cases e; rfl
  · cases e
theorem q_nr_a : q_RnR q_ra := by
  intro β g v H e
  obtain ⟨pc, L, st, hp⟩ := g
  unfold q_ra at e
  dsimp only at e
  split at e
  · cases e; rfl
  · cases e; rfl
  · cases e
theorem q_nr_v : q_RnR q_rv := by
  intro β g v H e
  obtain ⟨pc, L, st, hp⟩ := g
  unfold q_rv at e
  dsimp only at e
  split at e
  · cases e; rfl
  · cases e
def q_RnT (f : q_G → Option String) : Prop := ∀ (β : Nat → Nat) (g : q_G) (E : String) (H : q_H), f g = some E → f (q_rg β g H) = some E
theorem q_nt {E9 : String} : q_RnT (q_ft E9) := by
  intro β g E H e
  obtain ⟨pc, L, st, hp⟩ := g
  unfold q_ft at e
  split at e
  · rename_i hs
    cases e
    show (if ((st.map (q_v β)).map fun (v : Value) => v.category).sum ≤ 8 then some E9 else none) = _
    rw [q_catm, if_pos hs]
  · cases e
def q_RnC (f : q_G → Option (Nat × List Value × List Value)) : Prop := ∀ (β : Nat → Nat) (δ σ : Nat) (g : q_G) (k : Nat) (as rest : List Value) (H : q_H), f g = some (k, as, rest) → q_Em β δ σ g.2.2.2 H → f (q_rg β g H) = some (k, as.map (q_v β), rest.map (q_v β))
theorem q_nc_c {k nA : Nat} : q_RnC (q_fc k nA) := by
  intro β δ σ g k9 as rest H e hE
  obtain ⟨pc, L, st, hp⟩ := g
  unfold q_fc at e
  split at e
  · rename_i hs
    cases e
    show (if nA ≤ (st.map (q_v β)).length ∧ (((st.map (q_v β)).drop nA).map fun (v : Value) => v.category).sum ≤ 8 then some (k, ((st.map (q_v β)).take nA).reverse, (st.map (q_v β)).drop nA) else none) = _
    rw [← List.map_drop, ← List.map_take, List.length_map, q_catm, if_pos hs, List.map_reverse]
  · cases e
theorem q_nc_v {k nA ci : Nat} : q_RnC (q_fv k nA ci) := by
  intro β δ σ g k9 as rest H e hE
  obtain ⟨pc, L, st, hp⟩ := g
  unfold q_fv at e
  dsimp only at e
  split at e
  · rename_i b r hst
    split at e
    · rename_i cj fs e1
      split at e
      · rename_i hs
        cases e
        obtain ⟨hb, e2⟩ := hE.at e1
        unfold q_fv
        show (match (st.map (q_v β)).drop nA with
          | .ref b :: r => match q_at H b with
            | some (.inr (cj, _)) => if cj = ci ∧ (r.map fun (v : Value) => v.category).sum ≤ 8 then some (k, Value.ref b :: ((st.map (q_v β)).take nA).reverse, r) else none
            | _ => none
          | _ => none) = _
        rw [← List.map_drop, ← List.map_take, hst]
        show (match q_at H (β b) with
            | some (.inr (cj, _)) => if cj = ci ∧ ((rest.map (q_v β)).map fun (v : Value) => v.category).sum ≤ 8 then some (k, Value.ref (β b) :: ((st.take nA).map (q_v β)).reverse, rest.map (q_v β)) else none
            | _ => none) = _
        rw [e2, q_catm]
        show (if cj = ci ∧ (rest.map fun (v : Value) => v.category).sum ≤ 8 then some (k, Value.ref (β b) :: ((st.take nA).map (q_v β)).reverse, rest.map (q_v β)) else none) = some (k, Value.ref (β b) :: ((st.take nA).reverse).map (q_v β), rest.map (q_v β))
        rw [if_pos hs, List.map_reverse]
      · cases e
    · cases e
  · cases e
theorem q_nc_i {k nA : Nat} : q_RnC (q_fi k nA) := by
  intro β δ σ g k9 as rest H e hE
  obtain ⟨pc, L, st, hp⟩ := g
  unfold q_fi at e
  dsimp only at e
  split at e
  · rename_i b r hst
    split at e
    · rename_i hs
      cases e
      unfold q_fi
      show (match (st.map (q_v β)).drop nA with
        | .ref b :: r => if (r.map fun (v : Value) => v.category).sum ≤ 8 then some (k, Value.ref b :: ((st.map (q_v β)).take nA).reverse, r) else none
        | _ => none) = _
      rw [← List.map_drop, ← List.map_take, hst]
      show (if ((rest.map (q_v β)).map fun (v : Value) => v.category).sum ≤ 8 then some (k, Value.ref (β b) :: ((st.take nA).map (q_v β)).reverse, rest.map (q_v β)) else none) = some (k, Value.ref (β b) :: ((st.take nA).reverse).map (q_v β), rest.map (q_v β))
      rw [q_catm, if_pos hs, List.map_reverse]
    · cases e
  · cases e
theorem q_nc_o {k nA : Nat} {ks : List Nat} (hlo : ∀ x ∈ ks, x < 64) : q_RnC (q_fo k nA ks) := by
  intro β δ σ g k9 as rest H e hE
  obtain ⟨pc, L, st, hp⟩ := g
  unfold q_fo at e
  dsimp only at e
  split at e
  · rename_i b r hst
    split at e
    · rename_i hs
      cases e
      have hb : β b = b := hE.1 b (hlo b (List.contains_iff_mem.mp hs.1))
      unfold q_fo
      show (match (st.map (q_v β)).drop nA with
        | .ref b :: r => if ks.contains b = true ∧ (r.map fun (v : Value) => v.category).sum ≤ 8 then some (k, Value.ref b :: ((st.map (q_v β)).take nA).reverse, r) else none
        | _ => none) = _
      rw [← List.map_drop, ← List.map_take, hst]
      show (if ks.contains (β b) = true ∧ ((rest.map (q_v β)).map fun (v : Value) => v.category).sum ≤ 8 then some (k, Value.ref (β b) :: ((st.take nA).map (q_v β)).reverse, rest.map (q_v β)) else none) = some (k, Value.ref (β b) :: ((st.take nA).reverse).map (q_v β), rest.map (q_v β))
      rw [q_catm, hb, if_pos hs, List.map_reverse]
    · cases e
  · cases e
/-- entries, tables -/
def q_RnE (x : q_E) : Prop := match x with
  | .inl f => q_RnJ f
  | .inr (.inl f) => q_RnJ (q_rs f)
  | .inr (.inr (.inl f)) => q_RnR f
  | .inr (.inr (.inr (.inl f))) => q_RnT f
  | .inr (.inr (.inr (.inr (_, f, _)))) => q_RnC f
def q_RnB (t : Nat → Option q_E) : Prop := ∀ pc x, t pc = some x → q_RnE x
theorem q_nd_rn {m : Nat} {A B : Nat → Option q_E} (hA : q_RnB A) (hB : q_RnB B) : q_RnB (q_nd m A B) := q_nd_ok (P := fun _ x => q_RnE x) hA hB
theorem q_lf_rn {m : Nat} {y : q_E} (h : q_RnE y) : q_RnB (q_lf m y) := q_lf_ok (P := fun _ x => q_RnE x) h
theorem q_n0_rn : q_RnB q_n0 := q_n0_ok (P := fun _ x => q_RnE x)
theorem q_md_rn {m : Nat} {A B : Nat → Nat → Option q_E} (hA : ∀ k, q_RnB (A k)) (hB : ∀ k, q_RnB (B k)) : ∀ k, q_RnB (q_md m A B k) := q_md_ok (P := fun _ _ x => q_RnE x) hA hB
theorem q_ml_rn {n : Nat} {t : Nat → Option q_E} (h : q_RnB t) : ∀ k, q_RnB (q_ml n t k) := q_ml_ok (P := fun _ _ x => q_RnE x) h
def q_om (β : Nat → Nat) (o : Option Value ⊕ String) : Option Value ⊕ String := match o with
  | .inl v => .inl (v.map (q_v β))
  | .inr E => .inr E
section
variable {WU : List Cond} {cl : List vw_C} {tyl : List FieldType} {GF : (Nat → Prop) → State → Heap → Prop} {τ : Nat → Nat} {mt : Nat → q_M}
def q_FX (ex : Nat → List Value → q_H → Option q_Out) : Prop := ∀ (k : Nat) (as : List Value) (h : q_H) (out : q_Out), ex k as h = some out → (∀ v ∈ as, q_ok h.1.length v) → q_okh h.1 → q_oko h out ∧ ∀ (β : Nat → Nat) (δ σ : Nat) (H : q_H), q_Em β δ σ h H → ∃ β2 H2, ex k (as.map (q_v β)) H = some (q_om β2 out.1, H2) ∧ q_Em β2 δ σ out.2 H2 ∧ q_Rs β β2 h out.2 H H2
def q_FS (ex : Nat → List Value → q_H → Option q_Out) (tb : Nat → Option q_E) (g : q_G) (r : q_G ⊕ q_Out) : Prop := match r with
  | .inl g2 => q_gr g g2 ∧ ∀ (β : Nat → Nat) (δ σ : Nat) (H : q_H), q_Em β δ σ g.2.2.2 H → ∃ β2 H2, q_step ex tb (q_rg β g H) = some (.inl (q_rg β2 g2 H2)) ∧ q_Em β2 δ σ g2.2.2.2 H2 ∧ q_Rs β β2 g.2.2.2 g2.2.2.2 H H2
  | .inr o => q_oko g.2.2.2 o ∧ ∀ (β : Nat → Nat) (δ σ : Nat) (H : q_H), q_Em β δ σ g.2.2.2 H → ∃ β2 H2, q_step ex tb (q_rg β g H) = some (.inr (q_om β2 o.1, H2)) ∧ q_Em β2 δ σ o.2 H2 ∧ q_Rs β β2 g.2.2.2 o.2 H H2
theorem q_dropm (β : Nat → Nat) (L : q_L) (i : Nat) : q_drop (q_l β L) i = q_l β (q_drop L i) := q_drop_l β L i
theorem q_frame_step {k : Nat} {ex : Nat → List Value → q_H → Option q_Out} {tb : Nat → Option q_E} (hX : q_FX ex) (hs : ∀ pc x, tb pc = some x → q_Snd WU cl tyl GF τ mt (mt k) pc x) (hrn : q_RnB tb) {g : q_G} {r : q_G ⊕ q_Out} (h : q_step ex tb g = some r) (hg : q_okg g) : q_FS ex tb g r := by
  unfold q_step at h
  split at h
  · cases h
  · rename_i f hx
    have hJ := hs _ _ hx
    have hR := hrn _ _ hx
    split at h
    · cases h
    · rename_i g2 hf
      cases h
      refine ⟨(hJ g g2 rfl hf hg).1, fun β δ σ H hE => ?_⟩
      obtain ⟨β2, H2, e1, e2, e3⟩ := hR β δ σ g g2 H hf hg hE
      refine ⟨β2, H2, ?_, e2, e3⟩
      unfold q_step
      rw [show (q_rg β g H).1 = g.1 from rfl, hx]
      dsimp only
      rw [e1]
  · rename_i f hx
    have hJ := hs _ _ hx
    have hR := hrn _ _ hx
    split at h
    · cases h
    · rename_i g2 hf
      cases h
      refine ⟨(hJ g g2 rfl hf hg).1, fun β δ σ H hE => ?_⟩
      obtain ⟨β2, H2, e1, e2, e3⟩ := hR β δ σ g g2 H hf hg hE
      refine ⟨β2, H2, ?_, e2, e3⟩
      unfold q_step
      rw [show (q_rg β g H).1 = g.1 from rfl, hx]
      dsimp only
      rw [e1]
  · rename_i f hx
    have hJ := hs _ _ hx
    have hR := hrn _ _ hx
    split at h
    · cases h
    · rename_i v hf
      cases h
      refine ⟨⟨fun w hw => hg.2.1 w ((hJ g v rfl hf).1 w (Sum.inl.inj hw)), hg.2.2, Nat.le_refl _, Nat.le_refl _, Nat.le_refl _⟩, fun β δ σ H hE => ?_⟩
      refine ⟨β, H, ?_, hE, q_Rs.rf⟩
      unfold q_step
      rw [show (q_rg β g H).1 = g.1 from rfl, hx]
      dsimp only
      rw [hR β g v H hf]; rfl
  · rename_i f hx
    have hR := hrn _ _ hx
    split at h
    · cases h
    · rename_i E hf
      cases h
      refine ⟨⟨fun w hw => (by cases hw), hg.2.2, Nat.le_refl _, Nat.le_add_right _ _, Nat.le_add_right _ _⟩, fun β δ σ H hE => ?_⟩
      refine ⟨β, (H.1, H.2.1 + 1, H.2.2 + 6), ?_, ⟨hE.1, hE.2.1, hE.2.2.1, hE.2.2.2.1, by show H.2.1 + 1 = g.2.2.2.2.1 + 1 + δ; rw [hE.2.2.2.2.1]; omega, by show H.2.2 + 6 = g.2.2.2.2.2 + 6 + σ; rw [hE.2.2.2.2.2]; omega⟩, q_ag.rf, Nat.le_refl _, rfl, fun i h1 h2 => absurd h2 (Nat.not_lt.mpr h1), fun _ _ _ => rfl⟩
      unfold q_step
      rw [show (q_rg β g H).1 = g.1 from rfl, hx]
      dsimp only
      rw [hR β g E H hf]; rfl
  · rename_i nx f hd hx
    have hJ := hs _ _ hx
    have hR := hrn _ _ hx
    obtain ⟨hCs, hH⟩ := hJ
    split at h
    · cases h
    · rename_i j as rest hf
      obtain ⟨ha, hr, -⟩ := hCs.2 g j as rest rfl hf
      split at h
      · cases h
      · rename_i v h1 ho
        cases h
        obtain ⟨⟨o1, o2, o3, o4, o5⟩, hfr⟩ := hX j as g.2.2.2 _ ho (fun v hv => hg.2.1 v (ha v hv)) hg.2.2
        have hov : ∀ w ∈ v.toList ++ rest, q_ok h1.1.length w := by
          intro w hw
          rcases List.mem_append.mp hw with q | q
          · cases v with
            | none => cases q
            | some u => rw [List.mem_singleton.mp q]; exact o1 u rfl
          · exact (hg.2.1 w (hr w q)).le o3
        refine ⟨⟨⟨fun q hq => (hg.1 q hq).le o3, hov, o2⟩, o3, o4, o5⟩, fun β δ σ H hE => ?_⟩
        obtain ⟨β2, H2, e1, e2, e3⟩ := hfr β δ σ H hE
        refine ⟨β2, H2, ?_, e2, e3⟩
        unfold q_step
        rw [show (q_rg β g H).1 = g.1 from rfl, hx]
        dsimp only
        rw [hR β δ σ g j as rest H hf hE]
        dsimp only
        rw [show (q_rg β g H).2.2.2 = H from rfl, e1]
        have eL : q_l β g.2.1 = q_l β2 g.2.1 := (q_l_ag e3.1 hg.1).symm
        have er : rest.map (q_v β) = rest.map (q_v β2) := (q_vs_ag e3.1 fun w hw => hg.2.1 w (hr w hw)).symm
        show some (Sum.inl (nx, q_l β g.2.1, (v.map (q_v β2)).toList ++ rest.map (q_v β), H2)) = some (Sum.inl (nx, q_l β2 g.2.1, (v.toList ++ rest).map (q_v β2), H2))
        rw [eL, er]
        cases v <;> rfl
      · rename_i E h1 ho
        obtain ⟨⟨o1, o2, o3, o4, o5⟩, hfr⟩ := hX j as g.2.2.2 _ ho (fun v hv => hg.2.1 v (ha v hv)) hg.2.2
        cases hd with
        | none =>
          cases h
          refine ⟨⟨o1, o2, o3, o4, o5⟩, fun β δ σ H hE => ?_⟩
          obtain ⟨β2, H2, e1, e2, e3⟩ := hfr β δ σ H hE
          refine ⟨β2, H2, ?_, e2, e3⟩
          unfold q_step
          rw [show (q_rg β g H).1 = g.1 from rfl, hx]
          dsimp only
          rw [hR β δ σ g j as rest H hf hE]
          dsimp only
          rw [show (q_rg β g H).2.2.2 = H from rfl, e1]; rfl
        | some hf2 =>
          dsimp only at h
          split at h
          · cases h
          · rename_i tg i hti
            cases h
            refine ⟨⟨⟨fun q hq => (hg.1 q (List.mem_filter.mp hq).1).le o3, fun v hv => (by cases hv), o2⟩, o3, o4, o5⟩, fun β δ σ H hE => ?_⟩
            obtain ⟨β2, H2, e1, e2, e3⟩ := hfr β δ σ H hE
            refine ⟨β2, H2, ?_, e2, e3⟩
            unfold q_step
            rw [show (q_rg β g H).1 = g.1 from rfl, hx]
            dsimp only
            rw [hR β δ σ g j as rest H hf hE]
            dsimp only
            rw [show (q_rg β g H).2.2.2 = H from rfl, e1]
            show (match hf2 E with
              | none => none
              | some (tg, i) => some (Sum.inl (tg, q_drop (q_l β g.2.1) i, [], H2))) = some (Sum.inl (tg, q_l β2 (q_drop g.2.1 i), [], H2))
            rw [hti]
            have eL : q_l β g.2.1 = q_l β2 g.2.1 := (q_l_ag e3.1 hg.1).symm
            show some (Sum.inl (tg, q_drop (q_l β g.2.1) i, [], H2)) = _
            rw [eL, q_dropm]
theorem q_frame_loop {k : Nat} {ex : Nat → List Value → q_H → Option q_Out} {tb : Nat → Option q_E} (hX : q_FX ex) (hs : ∀ pc x, tb pc = some x → q_Snd WU cl tyl GF τ mt (mt k) pc x) (hrn : q_RnB tb) : ∀ (n : Nat) (g : q_G) (o : q_Out), q_loop ex tb n g = some o → q_okg g → q_oko g.2.2.2 o ∧ ∀ (β : Nat → Nat) (δ σ : Nat) (H : q_H), q_Em β δ σ g.2.2.2 H → ∃ β2 H2, q_loop ex tb n (q_rg β g H) = some (q_om β2 o.1, H2) ∧ q_Em β2 δ σ o.2 H2 ∧ q_Rs β β2 g.2.2.2 o.2 H H2 := by
  intro n
  induction n with
  | zero => intro g o h; cases h
  | succ n ih =>
    intro g o h hg
    rw [q_loop_s] at h
    cases hst : q_step ex tb g with
    | none => rw [hst] at h; cases h
    | some r =>
      rw [hst] at h
      have hF := q_frame_step hX hs hrn hst hg
      cases r with
      | inr o9 =>
        cases h
        obtain ⟨h1, h2⟩ := hF
        refine ⟨h1, fun β δ σ H hE => ?_⟩
        obtain ⟨β2, H2, e1, e2, e3⟩ := h2 β δ σ H hE
        refine ⟨β2, H2, ?_, e2, e3⟩
        rw [q_loop_s, e1]
      | inl g2 =>
        obtain ⟨⟨g1, l1, l2, l3⟩, h2⟩ := hF
        obtain ⟨⟨o1, o2, o3, o4, o5⟩, h4⟩ := ih g2 o h g1
        refine ⟨⟨o1, o2, Nat.le_trans l1 o3, Nat.le_trans l2 o4, Nat.le_trans l3 o5⟩, fun β δ σ H hE => ?_⟩
        obtain ⟨β2, H2, e1, e2, e3⟩ := h2 β δ σ H hE
        obtain ⟨β3, H3, f1, f2, f3⟩ := h4 β2 δ σ H2 e2
        refine ⟨β3, H3, ?_, f2, e3.tr f3⟩
        rw [q_loop_s, e1]
        exact f1
theorem q_frame {mtab : Nat → Nat → Option q_E} (hs : ∀ k pc x, mtab k pc = some x → q_Snd WU cl tyl GF τ mt (mt k) pc x) (hrn : ∀ k, q_RnB (mtab k)) (n : Nat) : ∀ d, q_FX (q_exec mt mtab n d) := by
  intro d
  induction d with
  | zero => intro k as h out e; cases e
  | succ d ih =>
    intro k as h out e ha hh
    have hw := q_exec_w e
    rw [q_exec_s hw] at e
    obtain ⟨h1, h2⟩ := q_frame_loop (k := k) ih (hs k) (hrn k) n _ out e ⟨q_args_ok as ha 0, fun v hv => (by cases hv), hh⟩
    refine ⟨h1, fun β δ σ H hE => ?_⟩
    obtain ⟨β2, H2, e1, e2, e3⟩ := h2 β δ σ H hE
    refine ⟨β2, H2, ?_, e2, e3⟩
    have hw2 : q_wd (as.map (q_v β)) ≤ (mt k).2.2.1 := by
      have q1 := q_wd_sl β as
      have q2 := q_wd_sl (fun a => a) (as.map (q_v β))
      have q3 : (as.map (q_v β)).map (q_v fun a => a) = as.map (q_v β) := by
        rw [List.map_map]
        exact List.map_congr_left fun v _ => by cases v <;> rfl
      rw [q3] at q2
      omega
    rw [q_exec_s hw2]
    have e9 : (0, lv_args 0 (as.map (q_v β)), ([] : List Value), H) = q_rg β (0, lv_args 0 as, [], h) H := by
      unfold q_rg
      rw [q_args_l]; rfl
    rw [e9]
    exact e1
end
