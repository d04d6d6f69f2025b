/-! ===== .. steps on the heap, branches, calls, ends; the run ===== -/
theorem q_fs_get {β : Nat → Nat} {fs : List Value} {k : Nat} {v : Value} (h : fs[k]? = some v) : (fs.map (q_v β))[k]? = some (q_v β v) := by
  rw [List.getElem?_map, h]; rfl
theorem q_Rn_gf {nx ci k : Nat} : q_RnJ (q_gf nx ci k) := by
  intro β δ σ g g2 H hf hg0 hE
  obtain ⟨pc, L, st, hp⟩ := g
  unfold q_gf at hf
  dsimp only at hf
  split at hf
  · rename_i a r
    split at hf
    · rename_i cj fs e1
      split at hf
      · rename_i hc
        split at hf
        · rename_i v hv
          cases hf
          obtain ⟨hb, e2⟩ := hE.at e1
          refine ⟨β, H, ?_, hE, q_Rs.rf⟩
          show (match q_at H (β a) with
            | some (.inr (cj, fs)) => if cj = ci then (match fs[k]? with
              | some v => some (nx, q_l β L, v :: r.map (q_v β), H)
              | none => none) else none
            | _ => none) = _
          rw [e2]
          show (if cj = ci then (match (fs.map (q_v β))[k]? with
              | some v => some (nx, q_l β L, v :: r.map (q_v β), H)
              | none => none) else none) = _
          rw [if_pos hc, q_fs_get hv]; rfl
        · cases hf
      · cases hf
    · cases hf
  · cases hf
def q_ckm (chk : Value → Bool) : Prop := ∀ β v, chk v = true → chk (q_v β v) = true
theorem q_ckm_i : q_ckm q_ck_i := fun β v h => by cases v <;> first | exact h | cases h
theorem q_ckm_l : q_ckm q_ck_l := fun β v h => by cases v <;> first | exact h | cases h
theorem q_ckm_z : q_ckm q_ck_z := fun β v h => by cases v <;> first | exact h | cases h
theorem q_ckm_b : q_ckm q_ck_b := fun β v h => by cases v <;> first | exact h | cases h
theorem q_ckm_r : q_ckm q_ck_r := fun β v h => by cases v <;> first | exact h | cases h | rfl
theorem q_Rn_pf {nx ci k : Nat} {chk : Value → Bool} (hck : q_ckm chk) : q_RnJ (q_pf nx ci k chk) := by
  intro β δ σ g g2 H hf hg0 hE
  obtain ⟨pc, L, st, hp⟩ := g
  unfold q_pf at hf
  dsimp only at hf
  split at hf
  · rename_i v a r
    split at hf
    · rename_i cj fs e1
      split at hf
      · rename_i hc
        cases hf
        obtain ⟨hb, e2⟩ := hE.at e1
        obtain ⟨hE2, hR⟩ := hE.set e1 (.inr (ci, fs.set k v))
        refine ⟨β, _, ?_, hE2, hR⟩
        show (match q_at H (β a) with
          | some (.inr (cj, fs)) => if cj = ci ∧ k < fs.length ∧ chk (q_v β v) = true then some (nx, q_l β L, r.map (q_v β), H.1.set (β a - 64) (.inr (ci, fs.set k (q_v β v))), H.2) else none
          | _ => none) = _
        rw [e2]
        show (if cj = ci ∧ k < (fs.map (q_v β)).length ∧ chk (q_v β v) = true then some (nx, q_l β L, r.map (q_v β), H.1.set (β a - 64) (.inr (ci, (fs.map (q_v β)).set k (q_v β v))), H.2) else none) = some (nx, q_l β L, r.map (q_v β), H.1.set (β a - 64) (.inr (ci, (fs.set k v).map (q_v β))), H.2)
        rw [if_pos ⟨hc.1, by rw [List.length_map]; exact hc.2.1, hck β v hc.2.2⟩, List.map_set]
      · cases hf
    · cases hf
  · cases hf
theorem q_Em.ar {TB : Nat → Option (Nat × Nat × (Nat → Int32))} {β : Nat → Nat} {δ σ : Nat} {h H : q_H} (hE : q_Em β δ σ h H) {a : Nat} {v : Nat × Nat × (Nat → Int32)} (e : q_ar TB h a = some v) : q_ar TB H (β a) = some v := by
  unfold q_ar at e
  split at e
  · rename_i hlt
    unfold q_ar
    rw [hE.1 a hlt, if_pos hlt]; exact e
  · rename_i hlt
    split at e
    · rename_i t n f h9
      cases e
      have e1 : q_at h a = some (.inl (t, n, .inl f)) := by unfold q_at; rw [if_neg hlt]; exact h9
      obtain ⟨hb, e2⟩ := hE.at e1
      unfold q_at at e2
      rw [if_neg (by omega)] at e2
      unfold q_ar
      rw [if_neg (by omega), e2]; rfl
    · cases e
theorem q_Rn_ald {TB : Nat → Option (Nat × Nat × (Nat → Int32))} {nx t : Nat} : q_RnJ (q_rs (q_ald TB nx t)) := by
  intro β δ σ g g2 H hf hg0 hE
  obtain ⟨pc, L, st, hp⟩ := g
  unfold q_rs q_ald at hf
  dsimp only at hf
  split at hf
  · cases hf
  · rename_i t9 g1 g3 hs
    split at hs
    · rename_i i a r
      split at hs
      · rename_i u n f e1
        split at hs
        · rename_i hu
          cases hs
          cases hq : q_in i n with
          | false => rw [hq] at hf; cases hf
          | true =>
            rw [hq] at hf
            cases hf
            refine ⟨β, H, ?_, hE, q_Rs.rf⟩
            unfold q_rs q_ald
            show (match (match q_ar TB H (β a) with
              | some (u, n, f) => if u = t then some (q_in i n, (nx, q_l β L, Value.int (f i.toNatClampNeg) :: r.map (q_v β), H), (none : Option q_G)) else none
              | none => none) with
              | none => none
              | some (t, g1, g2) => match t with
                | true => some g1
                | false => g2) = _
            rw [hE.ar e1]
            dsimp only
            rw [if_pos hu]
            dsimp only
            rw [hq]; rfl
        · cases hs
      · cases hs
    · cases hs
theorem q_Rn_ast {nx t : Nat} {nar : Int32 → Int32} : q_RnJ (q_rs (q_ast nx t nar)) := by
  intro β δ σ g g2 H hf hg0 hE
  obtain ⟨pc, L, st, hp⟩ := g
  unfold q_rs q_ast at hf
  dsimp only at hf
  split at hf
  · cases hf
  · rename_i t9 g1 g3 hs
    split at hs
    · rename_i x i a r
      split at hs
      · rename_i u n f e1
        split at hs
        · rename_i hu
          cases hs
          cases hq : q_in i n with
          | false => rw [hq] at hf; cases hf
          | true =>
            rw [hq] at hf
            cases hf
            obtain ⟨hb, e2⟩ := hE.at e1
            obtain ⟨hE2, hR⟩ := hE.set e1 (.inl (t, n, .inl (upd f i.toNatClampNeg (nar x))))
            refine ⟨β, _, ?_, hE2, hR⟩
            unfold q_rs q_ast
            show (match (match q_at H (β a) with
              | some (.inl (u, n, .inl f)) => if u = t then some (q_in i n, (nx, q_l β L, r.map (q_v β), H.1.set (β a - 64) (.inl (t, n, .inl (upd f i.toNatClampNeg (nar x)))), H.2), (none : Option q_G)) else none
              | _ => none) with
              | none => none
              | some (t, g1, g2) => match t with
                | true => some g1
                | false => g2) = _
            rw [e2]
            show (match (if u = t then some (q_in i n, (nx, q_l β L, r.map (q_v β), H.1.set (β a - 64) (.inl (t, n, .inl (upd f i.toNatClampNeg (nar x)))), H.2), (none : Option q_G)) else none) with
              | none => none
              | some (t, g1, g2) => match t with
                | true => some g1
                | false => g2) = _
            rw [if_pos hu]
            dsimp only
            rw [hq]; rfl
        · cases hs
      · cases hs
    · cases hs
theorem q_Rn_lld {nx t : Nat} : q_RnJ (q_rs (q_lld nx t)) := by
  intro β δ σ g g2 H hf hg0 hE
  obtain ⟨pc, L, st, hp⟩ := g
  unfold q_rs q_lld at hf
  dsimp only at hf
  split at hf
  · cases hf
  · rename_i t9 g1 g3 hs
    split at hs
    · rename_i i a r
      split at hs
      · rename_i u n f e1
        split at hs
        · rename_i hu
          cases hs
          cases hq : q_in i n with
          | false => rw [hq] at hf; cases hf
          | true =>
            rw [hq] at hf
            cases hf
            obtain ⟨hb, e2⟩ := hE.at e1
            refine ⟨β, H, ?_, hE, q_Rs.rf⟩
            unfold q_rs q_lld
            show (match (match q_at H (β a) with
              | some (.inl (u, n, .inr (.inl f))) => if u = t then some (q_in i n, (nx, q_l β L, Value.long (f i.toNatClampNeg) :: r.map (q_v β), H), (none : Option q_G)) else none
              | _ => none) with
              | none => none
              | some (t, g1, g2) => match t with
                | true => some g1
                | false => g2) = _
            rw [e2]
            show (match (if u = t then some (q_in i n, (nx, q_l β L, Value.long (f i.toNatClampNeg) :: r.map (q_v β), H), (none : Option q_G)) else none) with
              | none => none
              | some (t, g1, g2) => match t with
                | true => some g1
                | false => g2) = _
            rw [if_pos hu]
            dsimp only
            rw [hq]; rfl
        · cases hs
      · cases hs
    · cases hs
theorem q_Rn_lst {nx t : Nat} : q_RnJ (q_rs (q_lst nx t)) := by
  intro β δ σ g g2 H hf hg0 hE
  obtain ⟨pc, L, st, hp⟩ := g
  unfold q_rs q_lst at hf
  dsimp only at hf
  split at hf
  · cases hf
  · rename_i t9 g1 g3 hs
    split at hs
    · rename_i x i a r
      split at hs
      · rename_i u n f e1
        split at hs
        · rename_i hu
          cases hs
          cases hq : q_in i n with
          | false => rw [hq] at hf; cases hf
          | true =>
            rw [hq] at hf
            cases hf
            obtain ⟨hb, e2⟩ := hE.at e1
            obtain ⟨hE2, hR⟩ := hE.set e1 (.inl (t, n, .inr (.inl (vp_updL f i.toNatClampNeg x))))
            refine ⟨β, _, ?_, hE2, hR⟩
            unfold q_rs q_lst
            show (match (match q_at H (β a) with
              | some (.inl (u, n, .inr (.inl f))) => if u = t then some (q_in i n, (nx, q_l β L, r.map (q_v β), H.1.set (β a - 64) (.inl (t, n, .inr (.inl (vp_updL f i.toNatClampNeg x)))), H.2), (none : Option q_G)) else none
              | _ => none) with
              | none => none
              | some (t, g1, g2) => match t with
                | true => some g1
                | false => g2) = _
            rw [e2]
            show (match (if u = t then some (q_in i n, (nx, q_l β L, r.map (q_v β), H.1.set (β a - 64) (.inl (t, n, .inr (.inl (vp_updL f i.toNatClampNeg x)))), H.2), (none : Option q_G)) else none) with
              | none => none
              | some (t, g1, g2) => match t with
                | true => some g1
                | false => g2) = _
            rw [if_pos hu]
            dsimp only
            rw [hq]; rfl
        · cases hs
      · cases hs
    · cases hs
theorem q_rfm (β : Nat → Nat) (o : Option Nat) : va_rf (o.map β) = q_v β (va_rf o) := by cases o <;> rfl
theorem q_Rn_qld {nx t : Nat} : q_RnJ (q_rs (q_qld nx t)) := by
  intro β δ σ g g2 H hf hg0 hE
  obtain ⟨pc, L, st, hp⟩ := g
  unfold q_rs q_qld at hf
  dsimp only at hf
  split at hf
  · cases hf
  · rename_i t9 g1 g3 hs
    split at hs
    · rename_i i a r
      split at hs
      · rename_i u n f e1
        split at hs
        · rename_i hu
          cases hs
          cases hq : q_in i n with
          | false => rw [hq] at hf; cases hf
          | true =>
            rw [hq] at hf
            cases hf
            obtain ⟨hb, e2⟩ := hE.at e1
            refine ⟨β, H, ?_, hE, q_Rs.rf⟩
            unfold q_rs q_qld
            show (match (match q_at H (β a) with
              | some (.inl (u, n, .inr (.inr (.inr (.inr f))))) => if u = t then some (q_in i n, (nx, q_l β L, va_rf (f i.toNatClampNeg) :: r.map (q_v β), H), (none : Option q_G)) else none
              | _ => none) with
              | none => none
              | some (t, g1, g2) => match t with
                | true => some g1
                | false => g2) = _
            rw [e2]
            show (match (if u = t then some (q_in i n, (nx, q_l β L, va_rf ((f i.toNatClampNeg).map β) :: r.map (q_v β), H), (none : Option q_G)) else none) with
              | none => none
              | some (t, g1, g2) => match t with
                | true => some g1
                | false => g2) = _
            rw [if_pos hu]
            dsimp only
            rw [hq, q_rfm]; rfl
        · cases hs
      · cases hs
    · cases hs
theorem q_x_up (β : Nat → Nat) (f : Nat → Option Nat) (i v : Nat) : (fun j => (va_up f i (some v) j).map β) = va_up (fun j => (f j).map β) i (some (β v)) := by
  funext j
  unfold va_up
  split <;> rfl
theorem q_Rn_qst {nx t ci : Nat} : q_RnJ (q_rs (q_qst nx t ci)) := by
  intro β δ σ g g2 H hf hg0 hE
  obtain ⟨pc, L, st, hp⟩ := g
  unfold q_rs q_qst at hf
  dsimp only at hf
  split at hf
  · cases hf
  · rename_i t9 g1 g3 hs
    split at hs
    · rename_i v i a r
      split at hs
      · rename_i u n f cj fs e1 e9
        split at hs
        · rename_i hu
          cases hs
          cases hq : q_in i n with
          | false => rw [hq] at hf; cases hf
          | true =>
            rw [hq] at hf
            cases hf
            obtain ⟨hb, e2⟩ := hE.at e1
            obtain ⟨hb9, e29⟩ := hE.at e9
            obtain ⟨hE2, hR⟩ := hE.set e1 (.inl (t, n, .inr (.inr (.inr (.inr (va_up f i.toNatClampNeg (some v)))))))
            refine ⟨β, _, ?_, hE2, hR⟩
            unfold q_rs q_qst
            show (match (match q_at H (β a), q_at H (β v) with
              | some (.inl (u, n, .inr (.inr (.inr (.inr f))))), some (.inr (cj, _)) => if u = t ∧ cj = ci then some (q_in i n, (nx, q_l β L, r.map (q_v β), H.1.set (β a - 64) (.inl (t, n, .inr (.inr (.inr (.inr (va_up f i.toNatClampNeg (some (β v)))))))), H.2), (none : Option q_G)) else none
              | _, _ => none) with
              | none => none
              | some (t, g1, g2) => match t with
                | true => some g1
                | false => g2) = _
            rw [e2, e29]
            show (match (if u = t ∧ cj = ci then some (q_in i n, (nx, q_l β L, r.map (q_v β), H.1.set (β a - 64) (.inl (t, n, .inr (.inr (.inr (.inr (va_up (fun j => (f j).map β) i.toNatClampNeg (some (β v)))))))), H.2), (none : Option q_G)) else none) with
              | none => none
              | some (t, g1, g2) => match t with
                | true => some g1
                | false => g2) = some (nx, q_l β L, r.map (q_v β), H.1.set (β a - 64) (.inl (t, n, .inr (.inr (.inr (.inr (fun j => (va_up f i.toNatClampNeg (some v) j).map β)))))), H.2)
            rw [if_pos hu, q_x_up]
            dsimp only
            rw [hq]
        · cases hs
      · cases hs
    · cases hs
theorem q_Rn_aln {TB : Nat → Option (Nat × Nat × (Nat → Int32))} {nx t : Nat} : q_RnJ (q_aln TB nx t) := by
  intro β δ σ g g2 H hf hg0 hE
  obtain ⟨pc, L, st, hp⟩ := g
  unfold q_aln at hf
  dsimp only at hf
  split at hf
  · rename_i a r
    refine ⟨β, H, ?_, ?_, ?_⟩
    · by_cases hlt : a < 64
      · rw [if_pos hlt] at hf
        unfold q_aln
        show (if β a < 64 then (match TB (β a) with
          | some (u, n, _) => if u = t then some (nx, q_l β L, Value.int (Int32.ofNat n) :: r.map (q_v β), H) else none
          | none => none) else _) = _
        rw [hE.1 a hlt, if_pos hlt]
        split at hf
        · rename_i u n f hT
          rw [hT]
          split at hf
          · rename_i hu
            cases hf
            dsimp only
            rw [if_pos hu]; rfl
          · cases hf
        · cases hf
      · rw [if_neg hlt] at hf
        split at hf
        · rename_i u n x h9
          have e1 : q_at hp a = some (.inl (u, n, x)) := by unfold q_at; rw [if_neg hlt]; exact h9
          obtain ⟨hb, e2⟩ := hE.at e1
          unfold q_at at e2
          rw [if_neg (by omega)] at e2
          split at hf
          · rename_i hu
            cases hf
            unfold q_aln
            show (if β a < 64 then _ else (match H.1[β a - 64]? with
              | some (.inl (u, n, _)) => if u = t then some (nx, q_l β L, Value.int (Int32.ofNat n) :: r.map (q_v β), H) else none
              | _ => none)) = _
            rw [if_neg (by omega), e2]
            show (if u = t then some (nx, q_l β L, Value.int (Int32.ofNat n) :: r.map (q_v β), H) else none) = _
            rw [if_pos hu]; rfl
          · cases hf
        · cases hf
    · split at hf
      · split at hf
        · split at hf
          · cases hf; exact hE
          · cases hf
        · cases hf
      · split at hf
        · split at hf
          · cases hf; exact hE
          · cases hf
        · cases hf
    · split at hf
      · split at hf
        · split at hf
          · cases hf; exact q_Rs.rf
          · cases hf
        · cases hf
      · split at hf
        · split at hf
          · cases hf; exact q_Rs.rf
          · cases hf
        · cases hf
  · cases hf
