/-! ===== .. step by step ===== -/
def q_RnJ (f : q_G → Option q_G) : Prop := ∀ (β : Nat → Nat) (δ σ : Nat) (g g2 : q_G) (H : q_H), f g = some g2 → q_okg g → q_Em β δ σ g.2.2.2 H → ∃ β2 H2, f (q_rg β g H) = some (q_rg β2 g2 H2) ∧ q_Em β2 δ σ g2.2.2.2 H2 ∧ q_Rs β β2 g.2.2.2 g2.2.2.2 H H2
def q_RnS (s9 : q_L → List Value → Option (List Value)) : Prop := ∀ (β : Nat → Nat) (L : q_L) (st st2 : List Value), (∀ a, a < 64 → β a = a) → s9 L st = some st2 → s9 (q_l β L) (st.map (q_v β)) = some (st2.map (q_v β))
theorem q_Rn_st {nx : Nat} {s9 : q_L → List Value → Option (List Value)} (h : q_RnS s9) : q_RnJ (q_st nx s9) := by
  intro β δ σ g g2 H hf _ hE
  obtain ⟨pc, L, st, hp⟩ := g
  unfold q_st at hf
  dsimp only at hf
  cases hs : s9 L st with
  | none => rw [hs] at hf; cases hf
  | some st2 =>
    rw [hs] at hf
    cases hf
    refine ⟨β, H, ?_, hE, q_Rs.rf⟩
    show (match s9 (q_l β L) (st.map (q_v β)) with
      | none => none
      | some st3 => some (nx, q_l β L, st3, H)) = _
    rw [h β L st st2 hE.1 hs]
    rfl
def q_RnL (s9 : q_L → List Value → Option (q_L × List Value)) : Prop := ∀ (β : Nat → Nat) (L : q_L) (st : List Value) (L2 : q_L) (st2 : List Value), s9 L st = some (L2, st2) → s9 (q_l β L) (st.map (q_v β)) = some (q_l β L2, st2.map (q_v β))
theorem q_Rn_lo {nx : Nat} {s9 : q_L → List Value → Option (q_L × List Value)} (h : q_RnL s9) : q_RnJ (q_lo nx s9) := by
  intro β δ σ g g2 H hf _ hE
  obtain ⟨pc, L, st, hp⟩ := g
  unfold q_lo at hf
  dsimp only at hf
  cases hs : s9 L st with
  | none => rw [hs] at hf; cases hf
  | some v =>
    obtain ⟨L2, st2⟩ := v
    rw [hs] at hf
    cases hf
    refine ⟨β, H, ?_, hE, q_Rs.rf⟩
    show (match s9 (q_l β L) (st.map (q_v β)) with
      | none => none
      | some (L3, st3) => some (nx, L3, st3, H)) = _
    rw [h β L st L2 st2 hs]
    rfl
theorem q_ld_l (β : Nat → Nat) (L : q_L) (i : Nat) : q_ld (q_l β L) i = (q_ld L i).map (q_v β) := by
  induction L with
  | nil => rfl
  | cons q r ih =>
    show (if q.1 = i then some (q_v β q.2) else q_ld (q_l β r) i) = Option.map (q_v β) (if q.1 = i then some q.2 else q_ld r i)
    split
    · rfl
    · exact ih
theorem q_s1_m (β : Nat → Nat) (L : q_L) (i : Nat) (v : Value) : q_s1 (q_l β L) i (q_v β v) = q_l β (q_s1 L i v) := q_s1_l β L i v
theorem q_s2_m (β : Nat → Nat) (L : q_L) (i : Nat) (v : Value) : q_s2 (q_l β L) i (q_v β v) = q_l β (q_s2 L i v) := q_s2_l β L i v
theorem q_v_id {β : Nat → Nat} (h : ∀ a, a < 64 → β a = a) {v : Value} (hv : ∀ a, v = .ref a → a < 64) : q_v β v = v := by
  cases v <;> try rfl
  rename_i a
  show Value.ref (β a) = .ref a
  rw [h a (hv a rfl)]
theorem q_n_fk {v : Value} (hv : ∀ a, v = .ref a → a < 64) : q_RnS (q_fk v) := by
  intro β L st st2 h e
  cases e
  show some (v :: st.map (q_v β)) = some (q_v β v :: st.map (q_v β))
  rw [q_v_id h hv]
theorem q_n_fvS {TB : Nat → Option (Nat × Nat × (Nat → Int32))} : q_RnS (q_fvS TB) := by
  intro β L st st2 h e
  unfold q_fvS at e ⊢
  cases hT : TB 9 with
  | none => rw [hT] at e; cases e
  | some x =>
    rw [hT] at e
    cases e
    have h9 : ∀ b : Bool, q_v β (cond b (.ref 9) .null) = cond b (.ref 9) .null := fun b => by
      cases b with
      | true =>
        show Value.ref (β 9) = .ref 9
        rw [h 9 (Nat.le_of_ble_eq_true rfl)]
      | false => rfl
    show some (cond (Nat.beq x.1 99) (.ref 9) .null :: st.map (q_v β)) = some (q_v β (cond (Nat.beq x.1 99) (.ref 9) .null) :: st.map (q_v β))
    rw [h9]
theorem q_n_fil {i : Nat} : q_RnS (q_fil i) := by
  intro β L st st2 h e
  unfold q_fil at e ⊢
  rw [q_ld_l]
  split at e
  · rename_i x hx
    rw [hx]
    cases e
    rfl
  · cases e
theorem q_n_fll {i : Nat} : q_RnS (q_fll i) := by
  intro β L st st2 h e
  unfold q_fll at e ⊢
  rw [q_ld_l]
  split at e
  · rename_i x hx
    rw [hx]
    cases e
    rfl
  · cases e
theorem q_n_fdl {i : Nat} : q_RnS (q_fdl i) := by
  intro β L st st2 h e
  unfold q_fdl at e ⊢
  rw [q_ld_l]
  split at e
  · rename_i x hx
    rw [hx]
    cases e
    rfl
  · cases e
theorem q_n_fal {i : Nat} : q_RnS (q_fal i) := by
  intro β L st st2 h e
  unfold q_fal at e ⊢
  rw [q_ld_l]
  split at e
  · rename_i x hx
    rw [hx]
    cases e
    rfl
  · rename_i hx
    rw [hx]
    cases e
    rfl
  · cases e
theorem q_n_fii {o : Int32 → Int32 → Int32} : q_RnS (q_fii o) := by
  intro β L st st2 h e
  unfold q_fii at e
  split at e
  · cases e; rfl
  · cases e
theorem q_n_fiz {o : Int32 → Int32 → Int32} : q_RnS (q_fiz o) := by
  intro β L st st2 h e
  unfold q_fiz at e
  split at e
  · rename_i y x r
    split at e
    · cases e
    · rename_i hy
      cases e
      show (if y = 0 then none else some (Value.int (o x y) :: r.map (q_v β))) = _
      rw [if_neg hy]; rfl
  · cases e
theorem q_n_f1 {o : Value → Option Value} (ho : ∀ β v w, o v = some w → o (q_v β v) = some (q_v β w)) : q_RnS (q_f1 o) := by
  intro β L st st2 h e
  unfold q_f1 at e
  split at e
  · rename_i v r
    split at e
    · cases e
    · rename_i w hw
      cases e
      show (match o (q_v β v) with
        | none => none
        | some w => some (w :: r.map (q_v β))) = _
      rw [ho β v w hw]; rfl
  · cases e
theorem q_n_f2 {o : Value → Value → Option Value} (ho : ∀ β v w z, o v w = some z → o (q_v β v) (q_v β w) = some (q_v β z)) : q_RnS (q_f2 o) := by
  intro β L st st2 h e
  unfold q_f2 at e
  split at e
  · rename_i y x r
    split at e
    · cases e
    · rename_i w hw
      cases e
      show (match o (q_v β x) (q_v β y) with
        | none => none
        | some w => some (w :: r.map (q_v β))) = _
      rw [ho β x y w hw]; rfl
  · cases e
/-- what has no references, to what has none -/
theorem q_no1 {o : Value → Option Value} (h : ∀ v w, o v = some w → (∀ a, ¬ v = .ref a) ∧ ∀ a, ¬ w = .ref a) : ∀ β v w, o v = some w → o (q_v β v) = some (q_v β w) := by
  intro β v w e
  obtain ⟨h1, h2⟩ := h v w e
  have e1 : q_v β v = v := by cases v <;> first | rfl | exact absurd rfl (h1 _)
  have e2 : q_v β w = w := by cases w <;> first | rfl | exact absurd rfl (h2 _)
  rw [e1, e2, e]
theorem q_no2 {o : Value → Value → Option Value} (h : ∀ v w z, o v w = some z → (∀ a, ¬ v = .ref a) ∧ (∀ a, ¬ w = .ref a) ∧ ∀ a, ¬ z = .ref a) : ∀ β v w z, o v w = some z → o (q_v β v) (q_v β w) = some (q_v β z) := by
  intro β v w z e
  obtain ⟨h1, h2, h3⟩ := h v w z e
  have e1 : q_v β v = v := by cases v <;> first | rfl | exact absurd rfl (h1 _)
  have e2 : q_v β w = w := by cases w <;> first | rfl | exact absurd rfl (h2 _)
  have e3 : q_v β z = z := by cases z <;> first | rfl | exact absurd rfl (h3 _)
  rw [e1, e2, e3, e]
theorem q_no_i2l : q_RnS (q_f1 q_o_i2l) := q_n_f1 (q_no1 fun v w e => by cases v <;> cases e; exact ⟨fun _ h => (by cases h), fun _ h => (by cases h)⟩)
theorem q_no_l2i : q_RnS (q_f1 q_o_l2i) := q_n_f1 (q_no1 fun v w e => by cases v <;> cases e; exact ⟨fun _ h => (by cases h), fun _ h => (by cases h)⟩)
theorem q_no_i2c : q_RnS (q_f1 q_o_i2c) := q_n_f1 (q_no1 fun v w e => by cases v <;> cases e; exact ⟨fun _ h => (by cases h), fun _ h => (by cases h)⟩)
theorem q_no_i2b : q_RnS (q_f1 q_o_i2b) := q_n_f1 (q_no1 fun v w e => by cases v <;> cases e; exact ⟨fun _ h => (by cases h), fun _ h => (by cases h)⟩)
theorem q_no_ineg : q_RnS (q_f1 q_o_ineg) := q_n_f1 (q_no1 fun v w e => by cases v <;> cases e; exact ⟨fun _ h => (by cases h), fun _ h => (by cases h)⟩)
theorem q_no_i2f : q_RnS (q_f1 q_o_i2f) := q_n_f1 (q_no1 fun v w e => by cases v <;> cases e; exact ⟨fun _ h => (by cases h), fun _ h => (by cases h)⟩)
theorem q_no_i2d : q_RnS (q_f1 q_o_i2d) := q_n_f1 (q_no1 fun v w e => by cases v <;> cases e; exact ⟨fun _ h => (by cases h), fun _ h => (by cases h)⟩)
theorem q_no_f2d : q_RnS (q_f1 q_o_f2d) := q_n_f1 (q_no1 fun v w e => by
  unfold q_o_f2d at e
  split at e
  · split at e
    · cases e; exact ⟨fun _ h => (by cases h), fun _ h => (by cases h)⟩
    · cases e
  · cases e)
theorem q_no_ll {o : Int64 → Int64 → Int64} : q_RnS (q_f2 (q_o_ll o)) := q_n_f2 (q_no2 fun v w z e => by
  unfold q_o_ll at e
  split at e
  · cases e; exact ⟨fun _ h => (by cases h), fun _ h => (by cases h), fun _ h => (by cases h)⟩
  · cases e)
theorem q_no_lz {o : Int64 → Int64 → Int64} : q_RnS (q_f2 (q_o_lz o)) := q_n_f2 (q_no2 fun v w z e => by
  unfold q_o_lz at e
  split at e
  · split at e
    · cases e
    · cases e; exact ⟨fun _ h => (by cases h), fun _ h => (by cases h), fun _ h => (by cases h)⟩
  · cases e)
theorem q_no_lcmp : q_RnS (q_f2 q_o_lcmp) := q_n_f2 (q_no2 fun v w z e => by
  unfold q_o_lcmp at e
  split at e
  · cases e; exact ⟨fun _ h => (by cases h), fun _ h => (by cases h), fun _ h => (by cases h)⟩
  · cases e)
theorem q_no_dcmp {op : CmpOp} : q_RnS (q_f2 (q_o_dcmp op)) := q_n_f2 (q_no2 fun v w z e => by
  unfold q_o_dcmp at e
  split at e
  · cases e; exact ⟨fun _ h => (by cases h), fun _ h => (by cases h), fun _ h => (by cases h)⟩
  · cases e)
theorem q_no_fdiv : q_RnS (q_f2 q_o_fdiv) := q_n_f2 (q_no2 fun v w z e => by
  unfold q_o_fdiv at e
  split at e
  · split at e
    · cases e; exact ⟨fun _ h => (by cases h), fun _ h => (by cases h), fun _ h => (by cases h)⟩
    · cases e
  · cases e)
theorem q_no_ddiv : q_RnS (q_f2 q_o_ddiv) := q_n_f2 (q_no2 fun v w z e => by
  unfold q_o_ddiv at e
  split at e
  · split at e
    · cases e; exact ⟨fun _ h => (by cases h), fun _ h => (by cases h), fun _ h => (by cases h)⟩
    · cases e
  · cases e)
theorem q_c1_v (β : Nat → Nat) (v : Value) : q_c1 (q_v β v) = q_c1 v := by cases v <;> rfl
theorem q_n_fdup : q_RnS q_fdup := by
  intro β L st st2 h e
  unfold q_fdup at e
  split at e
  · rename_i v r
    split at e
    · rename_i hv
      cases e
      show (if q_c1 (q_v β v) = true then some (q_v β v :: q_v β v :: r.map (q_v β)) else none) = _
      rw [q_c1_v, if_pos hv]; rfl
    · cases e
  · cases e
theorem q_n_fpop : q_RnS q_fpop := by
  intro β L st st2 h e
  unfold q_fpop at e
  split at e
  · rename_i v r
    split at e
    · rename_i hv
      cases e
      show (if q_c1 (q_v β v) = true then some (st2.map (q_v β)) else none) = _
      rw [q_c1_v, if_pos hv]
    · cases e
  · cases e
theorem q_c2_v (β : Nat → Nat) (v : Value) : q_c2 (q_v β v) = q_c2 v := by cases v <;> rfl
theorem q_n_fpop2 : q_RnS q_fpop2 := by
  intro β L st st2 h e
  unfold q_fpop2 at e
  split at e
  · rename_i v r
    split at e
    · rename_i hv
      cases e
      show (if q_c2 (q_v β v) = true then some (st2.map (q_v β)) else none) = _
      rw [q_c2_v, if_pos hv]
    · cases e
  · cases e
theorem q_n_fdupx1 : q_RnS q_fdupx1 := by
  intro β L st st2 h e
  unfold q_fdupx1 at e
  split at e
  · rename_i v u r
    split at e
    · rename_i hv
      cases e
      show (if q_c1 (q_v β v) = true ∧ q_c1 (q_v β u) = true then some (q_v β v :: q_v β u :: q_v β v :: r.map (q_v β)) else none) = _
      rw [q_c1_v, q_c1_v, if_pos hv]; rfl
    · cases e
  · cases e
theorem q_n_fdup2 : q_RnS q_fdup2 := by
  intro β L st st2 h e
  unfold q_fdup2 at e
  split at e
  · rename_i v u r
    split at e
    · rename_i hv
      cases e
      show (if q_c1 (q_v β v) = true ∧ q_c1 (q_v β u) = true then some (q_v β v :: q_v β u :: q_v β v :: q_v β u :: r.map (q_v β)) else none) = _
      rw [q_c1_v, q_c1_v, if_pos hv]; rfl
    · cases e
  · cases e
theorem q_n_goto : q_RnS (fun _ st => some st) := fun β L st st2 h e => by cases e; rfl
theorem q_catm (β : Nat → Nat) (st : List Value) : ((st.map (q_v β)).map fun v => v.category) = st.map fun v => v.category := by
  rw [List.map_map]
  exact List.map_congr_left fun v _ => q_v_cat β v
theorem q_n_fm {o : Int32 → Int32 → Int32} : q_RnS (q_fm o) := by
  intro β L st st2 h e
  unfold q_fm at e
  split at e
  · rename_i y x r
    split at e
    · rename_i hs
      cases e
      show (if ((r.map (q_v β)).map fun v => v.category).sum ≤ 8 then some (Value.int (o x y) :: r.map (q_v β)) else none) = _
      rw [q_catm, if_pos hs]; rfl
    · cases e
  · cases e
theorem q_n_fog {t : List (Nat × Value)} (hlo : ∀ x ∈ t, x.1 < 64) (hok : ∀ x ∈ t, ∀ a, x.2 = .ref a → a < 64) : q_RnS (q_fog t) := by
  intro β L st st2 h e
  unfold q_fog at e
  split at e
  · rename_i b r
    split at e
    · rename_i v hv
      cases e
      have hm := q_lkv_mem hv
      show (match q_lkv t (β b) with
        | some v => some (v :: r.map (q_v β))
        | none => none) = some (q_v β v :: r.map (q_v β))
      rw [h b (hlo _ hm), hv, q_v_id h (hok _ hm)]
    · cases e
  · cases e
theorem q_l_fis {i : Nat} : q_RnL (q_fis i) := by
  intro β L st L2 st2 e
  unfold q_fis at e
  split at e
  · rename_i x r
    cases e
    show some (q_s1 (q_l β L) i (q_v β (.int x)), st2.map (q_v β)) = _
    rw [q_s1_m]
  · cases e
theorem q_l_fls {i : Nat} : q_RnL (q_fls i) := by
  intro β L st L2 st2 e
  unfold q_fls at e
  split at e
  · rename_i x r
    cases e
    show some (q_s2 (q_l β L) i (q_v β (.long x)), st2.map (q_v β)) = _
    rw [q_s2_m]
  · cases e
theorem q_l_fds {i : Nat} : q_RnL (q_fds i) := by
  intro β L st L2 st2 e
  unfold q_fds at e
  split at e
  · rename_i x r
    cases e
    show some (q_s2 (q_l β L) i (q_v β (.double x)), st2.map (q_v β)) = _
    rw [q_s2_m]
  · cases e
theorem q_l_fas {i : Nat} : q_RnL (q_fas i) := by
  intro β L st L2 st2 e
  unfold q_fas at e
  split at e
  · rename_i x r
    cases e
    show some (q_s1 (q_l β L) i (q_v β (.ref x)), st2.map (q_v β)) = _
    rw [q_s1_m]
  · cases e
    show some (q_s1 (q_l β L) i (q_v β .null), st2.map (q_v β)) = _
    rw [q_s1_m]
  · cases e
theorem q_l_finc {i : Nat} {d : Int32} : q_RnL (q_finc i d) := by
  intro β L st L2 st2 e
  unfold q_finc at e ⊢
  rw [q_ld_l]
  split at e
  · rename_i x hx
    rw [hx]
    cases e
    show some (q_s1 (q_l β L) i (q_v β (.int (x + d))), st.map (q_v β)) = _
    rw [q_s1_m]
  · cases e
