/-! ===== switches, copies, texts, throws, handlers ===== -/
def q_tsw (pc : Nat) (dflt lo hi : Int) (offs : Array Int) (g : q_G) : Option q_G := match g.2.2.1 with
  | .int x :: r => if x.toInt < lo ∨ hi < x.toInt then some ((pc + dflt).toNat, g.2.1, r, g.2.2.2) else match offs[(x.toInt - lo).toNat]? with
    | some o => some ((pc + o).toNat, g.2.1, r, g.2.2.2)
    | none => none
  | _ => none
def q_lsw (pc : Nat) (dflt : Int) (ps : Array (Int × Int)) (g : q_G) : Option q_G := match g.2.2.1 with
  | .int x :: r => some ((pc + Op.lookupswitch.offset ps.toList dflt x.toInt).toNat, g.2.1, r, g.2.2.2)
  | _ => none
section QX
variable {WU : List Cond} {cl : List vw_C} {tyl : List FieldType} {GF : (Nat → Prop) → State → Heap → Prop} {τ : Nat → Nat} {mt : Nat → q_M} {M : q_M} {own mname : String} {cc : ByteArray} {nL pc nx : Nat}
theorem q_tableswitch {dflt lo hi : Int} {offs : Array Int} {len : Nat} (hdg : decode cc pc = .ok (.tableswitch dflt lo hi offs, len)) (h0 : 0 ≤ (pc : Int) + dflt) (h1 : offs.toList.all (fun o => decide (0 ≤ (pc : Int) + o)) = true) : q_J WU cl tyl GF τ own mname cc nL pc (q_tsw pc dflt lo hi offs) := by
  intro g g' hpc hf hg
  obtain ⟨pc', L, st, h⟩ := g
  obtain rfl : pc' = pc := hpc
  unfold q_tsw at hf
  dsimp only at hf
  split at hf
  · rename_i x r
    split at hf
    · rename_i hx
      cases hf
      refine ⟨⟨⟨hg.1, q_ok1 hg.2.1, hg.2.2⟩, Nat.le_refl _, Nat.le_refl _, Nat.le_refl _⟩, ?_⟩
      intro p l e R s m args below meth c Q D cA A k0 n0 α hC hR1 hR2 hτ hk' hn kk H locs ls cells slots hP hD hS hl ek en
      exact lv_tableOut hC.1 hC.2.1 hdg hx (Int.toNat_of_nonneg h0).symm (kk α q_ag.rf H locs ls cells slots hP hD hS hl ek en)
    · rename_i hx
      split at hf
      · rename_i o ho
        cases hf
        refine ⟨⟨⟨hg.1, q_ok1 hg.2.1, hg.2.2⟩, Nat.le_refl _, Nat.le_refl _, Nat.le_refl _⟩, ?_⟩
        intro p l e R s m args below meth c Q D cA A k0 n0 α hC hR1 hR2 hτ hk' hn kk H locs ls cells slots hP hD hS hl ek en
        have ho2 : 0 ≤ (pc' : Int) + o := of_decide_eq_true (List.all_eq_true.mp h1 o (List.mem_of_getElem? (by rw [Array.getElem?_toList]; exact ho)))
        exact lv_tableIn hC.1 hC.2.1 hdg (fun q => hx (Or.inl q)) (fun q => hx (Or.inr q)) ho (Int.toNat_of_nonneg ho2).symm (kk α q_ag.rf H locs ls cells slots hP hD hS hl ek en)
      · cases hf
  · cases hf
theorem q_lsw_nn (pc : Int) (d : Int) (h0 : 0 ≤ pc + d) (x : Int) : ∀ ps : List (Int × Int), ps.all (fun q => decide (0 ≤ pc + q.2)) = true → 0 ≤ pc + Op.lookupswitch.offset ps d x := by
  intro ps
  induction ps with
  | nil => intro _; exact h0
  | cons q r ih =>
    intro h
    rw [List.all_cons, Bool.and_eq_true] at h
    obtain ⟨a, o⟩ := q
    rw [Op.lookupswitch.offset_cons]
    split
    · exact of_decide_eq_true h.1
    · exact ih h.2
theorem q_lookupswitch {dflt : Int} {ps : Array (Int × Int)} {len : Nat} (hdg : decode cc pc = .ok (.lookupswitch dflt ps, len)) (hp : (ps.toList.zip (ps.toList.drop 1)).all (fun (a, next) => a.1 < next.1) = true) (h0 : 0 ≤ (pc : Int) + dflt) (h1 : ps.toList.all (fun q => decide (0 ≤ (pc : Int) + q.2)) = true) : q_J WU cl tyl GF τ own mname cc nL pc (q_lsw pc dflt ps) := by
  intro g g' hpc hf hg
  obtain ⟨pc', L, st, h⟩ := g
  obtain rfl : pc' = pc := hpc
  unfold q_lsw at hf
  dsimp only at hf
  split at hf
  · rename_i x r
    cases hf
    refine ⟨⟨⟨hg.1, q_ok1 hg.2.1, hg.2.2⟩, Nat.le_refl _, Nat.le_refl _, Nat.le_refl _⟩, ?_⟩
    intro p l e R s m args below meth c Q D cA A k0 n0 α hC hR1 hR2 hτ hk' hn kk H locs ls cells slots hP hD hS hl ek en
    exact lv_lookup hC.1 hC.2.1 hdg hp rfl (Int.toNat_of_nonneg (q_lsw_nn _ _ h0 _ _ h1)).symm (kk α q_ag.rf H locs ls cells slots hP hD hS hl ek en)
  · cases hf
/-- System.arraycopy over rows of ints and bytes of the heap -/
def q_acp (nx t : Nat) (fit : Int32 → Bool) (g : q_G) : Option (Bool × q_G × Option q_G) := match g.2.2.1 with
  | .int n :: .int dp :: .ref a :: .int sp :: .ref b :: r => match q_at g.2.2.2 b, q_at g.2.2.2 a with
    | some (.inl (u, n0, .inl f)), some (.inl (v, n1, .inl f1)) => if u = t ∧ v = t ∧ (r.map fun v => v.category).sum ≤ 8 then some (!(decide (sp < 0)) && (!(decide (dp < 0)) && (!(decide (n < 0)) && (decide (sp.toNatClampNeg + n.toNatClampNeg ≤ n0) && (decide (dp.toNatClampNeg + n.toNatClampNeg ≤ n1) && (List.range n.toNatClampNeg).all fun i => fit (f (sp.toNatClampNeg + i)))))),
        (nx, g.2.1, r, g.2.2.2.1.set (a - 64) (.inl (t, n1, .inl (va_cpy f f1 sp.toNatClampNeg dp.toNatClampNeg n.toNatClampNeg))), g.2.2.2.2), none) else none
    | _, _ => none
  | _ => none
theorem q_nots {P : Prop} [Decidable P] (h : (!(decide P)) = true) : ¬ P := fun q => by rw [decide_eq_true q] at h; cases h
theorem q_arraycopy {idx t : Nat} {ty : FieldType} {fit : Int32 → Bool} (hdg : decode cc pc = .ok (.invokestatic idx, 3)) (ht : tyl[t]? = some ty) (hprim : refKind ty = false) (hfit : ∀ x, fit x = true → fits ty (.int x) = true) (hw1 : Cond.methodLink own idx arraycopyName ∈ WU) (hw2 : Cond.native arraycopyName ∈ WU) (hw3 : Cond.static arraycopyName ∈ WU) (hw4 : Cond.initialized "java/lang/System" ∈ WU) (hx : nx = pc + 3) : q_J WU cl tyl GF τ own mname cc nL pc (q_rs (q_acp nx t fit)) := by
  intro g g' hpc hf hg
  obtain ⟨pc', L, st, h⟩ := g
  obtain rfl : pc' = pc := hpc
  obtain ⟨b9, g1, g2, ef, hb⟩ := q_rs_ok hf
  unfold q_acp at ef
  dsimp only at ef
  split at ef
  · rename_i n dp a sp b r
    split at ef
    · rename_i u n0 f v n1 f1 e1 e2
      split at ef
      · rename_i eu
        cases ef
        obtain ⟨rfl, rfl, hsum⟩ := eu
        rcases hb with ⟨hb, rfl⟩ | ⟨-, hb⟩
        · simp only [Bool.and_eq_true] at hb
          obtain ⟨c1, c2, c3, c4, c5, c6⟩ := hb
          obtain ⟨ea, e3⟩ := q_at_in e2
          obtain ⟨eb, e4⟩ := q_at_in e1
          have hcell : q_okc h.1.length (.inl (v, n1, .inl (va_cpy f f1 sp.toNatClampNeg dp.toNatClampNeg n.toNatClampNeg)) : q_C) := trivial
          have hlen2 : (h.1.set (a - 64) (.inl (v, n1, .inl (va_cpy f f1 sp.toNatClampNeg dp.toNatClampNeg n.toNatClampNeg)) : q_C)).length = h.1.length := List.length_set
          refine ⟨⟨⟨?_, ?_, hg.2.2.set _ hcell⟩, by show _ ≤ (h.1.set _ _).length; rw [List.length_set]; exact Nat.le_refl _, Nat.le_refl _, Nat.le_refl _⟩, ?_⟩
          · show ∀ q ∈ L, q_ok (h.1.set (a - 64) (.inl (v, n1, .inl (va_cpy f f1 sp.toNatClampNeg dp.toNatClampNeg n.toNatClampNeg)) : q_C)).length q.2
            rw [hlen2]; exact hg.1
          · show ∀ v' ∈ r, q_ok (h.1.set (a - 64) (.inl (v, n1, .inl (va_cpy f f1 sp.toNatClampNeg dp.toNatClampNeg n.toNatClampNeg)) : q_C)).length v'
            rw [hlen2]; exact q_ok1 (q_ok2 (q_ok2 hg.2.1))
          intro p l e R s m args below meth c Q D cA A k0 n0' α hC hR1 hR2 hτ hk' hn kk H locs ls cells slots hP hD hS hl ek en
          have hw0 := q_w_get (cA := cA) (α := α) e3
          rw [← ea] at hw0
          have hw9 := q_w_get (cA := cA) (α := α) e4
          rw [← eb] at hw9
          subst hx
          have hset : (q_w cA α h.1).set (a - 64) (α a, q_e cA α (.inl (v, n1, .inl (va_cpy f f1 sp.toNatClampNeg dp.toNatClampNeg n.toNatClampNeg)) : q_C)) = q_w cA α (h.1.set (a - 64) (.inl (v, n1, .inl (va_cpy f f1 sp.toNatClampNeg dp.toNatClampNeg n.toNatClampNeg)) : q_C)) := by
            rw [← q_w_set, ← ea]
          have hloc : ((r.map (q_v α)).map fun v => v.category).sum + (nativeFrameWords "java/lang/System" "arraycopy" 5 + 11) ≤ R.locals := by
            rw [q_catsum]
            have e9 : nativeFrameWords "java/lang/System" "arraycopy" 5 + 11 ≤ 52 := by decide +kernel
            omega
          refine va_copyi hC.1 hC.2.1 (hC.2.2.2.1.trans hl.1.symm) hC.2.2.1 (hC.2.2.2.2.1 _ hw1) (hC.2.2.2.2.1 _ hw2) (hC.2.2.2.2.1 _ hw3) (hC.2.2.2.2.1 _ hw4) hC.2.2.2.2.2.1 hP hD hS _ _ v v hw9 hw0 (q_T_at ht) (q_T_at ht) hprim (q_nots c1) (q_nots c2) (q_nots c3) (of_decide_eq_true c4) (of_decide_eq_true c5) (fun i hi => hfit _ (List.all_eq_true.mp c6 i (List.mem_range.mpr hi))) (by omega) hloc hdg (fun H1 locs1 hP1 hD1 hS1 => ?_)
          have hP2 : va_P D cl ((q_w cA α h.1).set (a - 64) (α a, q_e cA α (.inl (v, n1, .inl (va_cpy f f1 sp.toNatClampNeg dp.toNatClampNeg n.toNatClampNeg)) : q_C))) H1 := hP1
          have hD2 : va_D A ((q_w cA α h.1).set (a - 64) (α a, q_e cA α (.inl (v, n1, .inl (va_cpy f f1 sp.toNatClampNeg dp.toNatClampNeg n.toNatClampNeg)) : q_C))) := hD1
          rw [hset] at hP2 hD2
          exact kk α q_ag.rf H1 locs1 ls cells slots hP2 hD2 hS1 hl ek en
        · cases hb
      · cases ef
    · cases ef
  · cases ef
/-- a text: a thing outside -/
theorem q_ldcS {idx a : Nat} {tx : String} (ha : a < 64) (hS9 : ∀ A U H, GF A U H → vk_R own idx tx (τ a) U) (hdg : decode cc pc = .ok (.ldc idx, 2)) (hx : nx = pc + 2) : q_J WU cl tyl GF τ own mname cc nL pc (q_st nx (q_fk (.ref a))) := by
  intro g g' hpc hf hg
  obtain ⟨pc', L, st, h⟩ := g
  obtain rfl : pc' = pc := hpc
  cases hf
  have hv2 : q_ok h.1.length (.ref a) := fun b hb => by cases hb; exact Nat.lt_of_lt_of_le ha (Nat.le_add_right _ _)
  refine ⟨⟨⟨hg.1, q_okcons hv2 hg.2.1, hg.2.2⟩, Nat.le_refl _, Nat.le_refl _, Nat.le_refl _⟩, ?_⟩
  intro p l e R s m args below meth c Q D cA A k0 n0 α hC hR1 hR2 hτ hk' hn kk H locs ls cells slots hP hD hS hl ek en
  subst hx
  have h9 := hS9 A s s.heap hC.2.2.2.2.2.2.2.1
  rw [← hτ a ha] at h9
  exact va_ldcS hC.1 hC.2.1 hC.2.2.1 h9 hdg (kk α q_ag.rf H locs ls cells slots hP hD hS hl ek en)
/-- throw new E(text) -/
def q_ft (E : String) (g : q_G) : Option String := if (g.2.2.1.map fun v => v.category).sum ≤ 8 then some E else none
theorem q_throwS {cls text : String} {names : List String} {ik is ic a : Nat} (hcls : Bundle.fit cls = true) (hnames : ∀ n ∈ names, Bundle.fit n = true) (hnl : names.length ≤ 3) (hw1 : Cond.classLink own ik cls ∈ WU) (hw2 : Cond.initialized cls ∈ WU) (hstr : ∀ A U H, GF A U H → vk_R own is text (τ a) U)
    (hat1 : ∀ w ∈ (vx_atS own ic cls names).filter goodWord, w ∈ WU) (hat2 : ∀ A U H, GF A U H → ∀ w ∈ (vx_atS own ic cls names).filter (fun w => !goodWord w), va_Nw w U) (hgood : ∀ w ∈ Cond.classLink own ik cls :: Cond.initialized cls :: vx_atS own ic cls names, vx_ot w = true) (hot : ∀ w ∈ (vx_atS own ic cls names).filter (fun w => !goodWord w), w.onTables = true)
    (hU : ∀ A U H, GF A U H → vx_Zq Bundle.tN "UNASSIGNED_STACK" Bundle.steD A U H) (hN : ∀ A U H, GF A U H → vx_Zq Bundle.tN "SUPPRESSED_SENTINEL" Bundle.listD A U H)
    (d0 : decode cc pc = .ok (.new ik, 3)) (d3 : decode cc (pc + 3) = .ok (.dup, 1)) (d4 : decode cc (pc + 4) = .ok (.ldc is, 2)) (d6 : decode cc (pc + 6) = .ok (.invokespecial ic, 3)) (d9 : decode cc (pc + 9) = .ok (.athrow, 1)) : q_Th WU GF own cc nL pc (q_ft cls) := by
  intro g E hpc hf
  obtain ⟨pc', L, st, h⟩ := g
  obtain rfl : pc' = pc := hpc
  unfold q_ft at hf
  split at hf
  · rename_i hsum
    cases hf
    intro p l e R s m args below meth c H locs cells slots mc ms Qc XC free A ls α he hb hlt hown hts hG hlocks hT hml hsz hS hRf hRl hRc hRs hx hfr hc hs
    have hat : ∀ w ∈ vx_atS own ic cls names, w.before args s = true := by
      intro w hw
      by_cases g : goodWord w = true
      · exact hts _ (hat1 w (List.mem_filter.mpr ⟨hw, g⟩))
      · have g2 : (!goodWord w) = true := by
          cases hgw : goodWord w
          · rfl
          · exact absurd hgw g
        have hm : w ∈ (vx_atS own ic cls names).filter (fun w => !goodWord w) := List.mem_filter.mpr ⟨hw, g2⟩
        exact va_Nw.use (hot w hm) (hat2 _ _ _ hG w hm)
    exact vx_throwS he hb hlt hown hcls hnames (hts _ hw1) (hts _ hw2) (hstr _ _ _ hG) hat hgood (hU _ _ _ hG) (hN _ _ _ hG) hS (hsz.trans hml.symm) d0 d3 d4 d6 d9 (fun x hx9 => absurd (hT x hx9) (fun h => h)) (by omega) (by rw [q_catsum]; have hsum : (st.map fun v => v.category).sum ≤ 8 := hsum; omega) hRc hRs hlocks hx hfr hc hs
  · cases hf
/-- handlers: told by a list; each: the class thrown, where it goes, the local that takes it -/
def q_hl (l : List (String × Nat × Nat)) (E : String) : Option (Nat × Nat) := match l with
  | [] => none
  | x :: r => if x.1 = E then some x.2 else q_hl r E
theorem q_hl_mem {l : List (String × Nat × Nat)} {E : String} {z : Nat × Nat} (h : q_hl l E = some z) : (E, z) ∈ l := by
  induction l with
  | nil => cases h
  | cons x r ih =>
    unfold q_hl at h
    split at h
    · rename_i e
      cases h
      obtain ⟨e0, z0⟩ := x
      cases e
      exact List.mem_cons_self
    · exact List.mem_cons_of_mem _ (ih h)
theorem q_hdl {l : List (String × Nat × Nat)} (h : ∀ x ∈ l, q_Hd WU GF M own nL pc (fun E => if x.1 = E then some x.2 else none)) : q_Hd WU GF M own nL pc (q_hl l) := by
  intro E tg i e
  exact h _ (q_hl_mem e) E tg i (if_pos rfl)
theorem q_hd1 {E0 name : String} {tg0 i0 : Nat} {kk9 : Fin 4} (pre : List (Nat × Nat × Nat × Nat)) (x : Nat × Nat × Nat × Nat) (suf : List (Nat × Nat × Nat × Nat)) (hsplit : M.2.2.2.2.1 = pre ++ x :: suf) (hpass : ∀ z ∈ pre, z.2.2.2 ≠ 0 ∧ ∃ nm : String, Cond.classLink own z.2.2.2 nm ∈ WU ∧ ∀ A U H, GF A U H → va_Nc E0 nm U)
    (hx1 : x.1 ≤ pc ∧ pc < x.2.1) (h0 : x.2.2.2 ≠ 0) (hlink : Cond.classLink own x.2.2.2 name ∈ WU) (hcast : ∀ A U H, GF A U H → va_Nw (.castable E0 name) U) (hdg : decode M.2.1 x.2.2.1 = .ok (.astore_n kk9, 1)) (hk9 : (kk9 : Nat) = i0) (hi0 : i0 < nL) (htg : tg0 = x.2.2.1 + 1) :
    q_Hd WU GF M own nL pc (fun E => if E0 = E then some (tg0, i0) else none) := by
  intro E tg i e
  dsimp only at e
  split at e
  · rename_i e0
    cases e; subst e0; subst htg
    intro p l e R s m args below meth c H locs cells slots Q A ls rest ce q lv he hb hown hts hG hT hl hce hcv hcl kk
    refine vx_catch hown (pre.map fun q => ⟨q.1, q.2.1, q.2.2.1, q.2.2.2⟩) ⟨x.1, x.2.1, x.2.2.1, x.2.2.2⟩ (suf.map fun q => ⟨q.1, q.2.1, q.2.2.1, q.2.2.2⟩) ?_ ?_ ?_ h0 (hts _ hlink) (va_Nw.use rfl (hcast _ _ _ hG)) hce hcv hcl ?_
    · rw [hT, hsplit]
      unfold tableOf
      rw [List.map_append, List.map_cons]
    · intro z hz
      obtain ⟨z0, hz0, rfl⟩ := List.mem_map.mp hz
      obtain ⟨hn0, nm, hw, hnc⟩ := hpass z0 hz0
      exact Or.inr ⟨hn0, nm, hts _ hw, hnc _ _ _ hG⟩
    · show (decide (x.1 ≤ pc) && decide (pc < x.2.1)) = true
      rw [decide_eq_true hx1.1, decide_eq_true hx1.2]
      rfl
    · refine lv_astore_n (lv' := (i0, .ref q) :: lv.filter (fun q => !(q.1 == i0) && !(q.1 + 1 == i0 && q.2.category == 2))) he hb hdg hk9 hl hi0 rfl (fun ls' hl' => ?_)
      exact kk ls' ⟨hl'.1, hl'.2.1, fun w hw => hl'.2.2 w (List.mem_cons_of_mem _ hw)⟩
  · cases e
end QX
