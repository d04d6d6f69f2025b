/-! ===== System.arraycopy out of a row outside (a text's bytes) ===== -/
section
variable {p : Program} {l : Launch} {e : Env} {R : Room} {s : State} {m : MethodId} {args : Array Value} {below : List Frame} {meth : Method} {c : Code} {H : Heap} {locs : List Loc} {cells slots : Nat} {Q : State → Prop}
variable {cc : ByteArray} {pc : Nat} {ls : Array Slot} {rest : List Value} {D : va_G} {cl : List vw_C} {A : Nat → Prop} {a : Nat} {tys : List (ClassId × FieldType)} {ws : va_W}
theorem q_copyT {cc : ByteArray} (hexec : p.tables.exec = Jvm.exec) (hb : c.code = cc) (hml : c.maxLocals = ls.size) {own : String} {index : Nat} (hown : s.vm.findClass own = some m.cls) (hlink : (Cond.methodLink own index arraycopyName).before args s = true) (hnat : (Cond.native arraycopyName).before args s = true) (hstat : (Cond.static arraycopyName).before args s = true) (hini : (Cond.initialized "java/lang/System").before args s = true)
    (hK : va_K D cl tys s) (hP : va_P D cl ws H) (hD : va_D A ws) (hS : va_S A s.heap H locs) {b0 n0 : Nat} {f : Nat → Int32} {ty : FieldType} (hX : va_T ty b0 n0 (fun j => .int (f j)) A s s.heap) (q1 t1 : Nat) {c1 : ClassId} {n1 : Nat} {g : Nat → Int32} (ha1 : ws[q1]? = some (a, .inl (c1, n1, .inl g))) (ht1 : tys[t1]? = some (c1, ty)) (hprim : refKind ty = false)
    {sp dp n : Int32} (h1 : ¬ sp < 0) (h2 : ¬ dp < 0) (h3 : ¬ n < 0) (h4 : sp.toNatClampNeg + n.toNatClampNeg ≤ n0) (h5 : dp.toNatClampNeg + n.toNatClampNeg ≤ n1) (hfit : ∀ i, i < n.toNatClampNeg → fits ty (.int (f (sp.toNatClampNeg + i))) = true)
    (hframes : 1 ≤ R.frames) (hlocals : (rest.map fun v => v.category).sum + (nativeFrameWords "java/lang/System" "arraycopy" 5 + 11) ≤ R.locals) (hdg : decode cc pc = .ok (.invokestatic index, 3))
    (kk : ∀ (H1 : Heap) (locs1 : List Loc), va_P D cl (ws.set q1 (a, .inl (c1, n1, .inl (va_cpy f g sp.toNatClampNeg dp.toNatClampNeg n.toNatClampNeg)))) H1 → va_D A (ws.set q1 (a, .inl (c1, n1, .inl (va_cpy f g sp.toNatClampNeg dp.toNatClampNeg n.toNatClampNeg)))) → va_S A s.heap H1 locs1 → W p l e R s m args below meth c H1 locs1 cells slots Q (F0 m (pc + 3) ls rest)) : W p l e R s m args below meth c H locs cells slots Q (F0 m pc ls (.int n :: .int dp :: .ref a :: .int sp :: .ref b0 :: rest)) := by
  have nn : ∀ z : Int32, ¬ z < 0 → z.toInt = (z.toNatClampNeg : Int) := by
    intro z hz
    have hz0 : (0 : Int) ≤ z.toInt := by
      have := Int32.not_lt.mp hz
      simpa using Int32.le_iff_toInt_le.mp this
    show z.toInt = ((z.toInt.toNat : Nat) : Int)
    omega
  intro T hT X
  obtain ⟨scr, hs1, hs2, hs3, hs4, -, hs5, hbA⟩ := hX
  have hbl : b0 < s.heap.size := (Array.getElem?_eq_some_iff.mp hs1).1
  have hc0 : H[b0]? = some scr := by rw [hS.2.1 b0 hbl hbA]; exact hs1
  have hc1 : H[a]? = some (vp_cell c1 (n1, .inl g)) := hP q1 _ ha1
  obtain ⟨hs6, k0, hk0, cm0, hkk0⟩ := hs2
  obtain ⟨-, k1, hk1, cm1, hkk1⟩ := (hK.2 t1 _ ht1).1 n1 (fun j => .int (g j))
  obtain ⟨vm', X', step⟩ := X.arraycopy hexec hown hlink hnat hstat hini (src := b0) (dst := a) (cs := scr) (cd := vp_cell c1 (n1, .inl g)) (srcPos := sp) (destPos := dp) (n := n) (by rw [hT]; exact hc0) (by rw [hT]; exact hc1)
    hs6 (fun _ h => by cases h) hs3 (fun h => by cases h) hk0 hk1 hkk0 hkk1 (by simp [hprim]) h1 h2 h3
    (by rw [nn sp h1, nn n h3]; omega)
    (by rw [nn dp h2, nn n h3]; show ¬ _ > ((arrV c1 n1 (fun j => .int (g j))).slots.size : Int); rw [arrV_size]; omega)
    (fun vm₁ _ i hi => by
      have e : scr.slots.getD (sp.toNatClampNeg + i) .null = .int (f (sp.toNatClampNeg + i)) := by
        rw [Array.getD_eq_getD_getElem?, hs5 _ (by omega)]
        rfl
      refine ⟨?_, ?_⟩
      · rw [e]
        exact hfit i hi
      · rw [e]
        exact trivial)
    (g := F0 m pc ls (.int n :: .int dp :: .ref a :: .int sp :: .ref b0 :: rest)) rfl (by rw [hml]) (rest := rest) rfl (by rw [hb]; exact hdg) hframes (by show 2 * 0 + _ + _ ≤ _; omega)
  have e1 : copied scr (vp_cell c1 (n1, .inl g)) sp dp n = vp_cell c1 (n1, .inl (va_cpy f g sp.toNatClampNeg dp.toNatClampNeg n.toNatClampNeg)) := va_copiedX (fun z => .int z) scr c1 f g hs5 h4
  rw [e1] at X' step
  have hl : a < H.size := (Array.getElem?_eq_some_iff.mp hc1).1
  have hheap : ((T.setVm vm').setCell a (vp_cell c1 (n1, .inl (va_cpy f g sp.toNatClampNeg dp.toNatClampNeg n.toNatClampNeg)))).heap = H.setIfInBounds a (vp_cell c1 (n1, .inl (va_cpy f g sp.toNatClampNeg dp.toNatClampNeg n.toNatClampNeg))) := by rw [← hT]; rfl
  have oq : ∀ q : Nat, q ≠ a → (H.setIfInBounds a (vp_cell c1 (n1, .inl (va_cpy f g sp.toNatClampNeg dp.toNatClampNeg n.toNatClampNeg))))[q]? = H[q]? := fun q hq => by simp [Array.getElem?_setIfInBounds, Ne.symm hq]
  obtain ⟨t, a1, b1⟩ := kk _ _ (hP.set hD ha1 (show (H.setIfInBounds a _)[a]? = some _ by simp [Array.getElem?_setIfInBounds, hl]) oq) (hD.set ha1) ⟨by simp; exact hS.1, fun q g1 g2 => by
      rw [oq q (fun e => g2 (by rw [e]; exact hD.2 q1 _ ha1))]
      exact hS.2.1 q g1 g2, fun q hq => by
      rcases List.mem_append.mp hq with h | h
      · exact hS.2.2 q h
      · obtain ⟨z, -, hz⟩ := List.mem_map.mp h
        rw [← hz]
        exact hD.2 q1 _ ha1⟩ _ hheap X'
  exact ⟨t, step t a1, b1⟩
end
def q_acpT (TB : Nat → Option (Nat × Nat × (Nat → Int32))) (nx t : Nat) (fit : Int32 → Bool) (g : q_G) : Option (Bool × q_G × Option q_G) := match g.2.2.1 with
  | .int n :: .int dp :: .ref a :: .int sp :: .ref b :: r => match q_ar TB g.2.2.2 b, q_at g.2.2.2 a with
    | some (u, n0, f), some (.inl (v, n1, .inl f1)) => if u = t ∧ v = t ∧ (r.map fun v => v.category).sum ≤ 8 then some (!(decide (sp < 0)) && (!(decide (dp < 0)) && (!(decide (n < 0)) && (decide (sp.toNatClampNeg + n.toNatClampNeg ≤ n0) && (decide (dp.toNatClampNeg + n.toNatClampNeg ≤ n1) && (List.range n.toNatClampNeg).all fun i => fit (f (sp.toNatClampNeg + i)))))),
        (nx, g.2.1, r, g.2.2.2.1.set (a - 64) (.inl (t, n1, .inl (va_cpy f f1 sp.toNatClampNeg dp.toNatClampNeg n.toNatClampNeg))), g.2.2.2.2), none) else none
    | _, _ => none
  | _ => none
section
variable {WU : List Cond} {cl : List vw_C} {tyl : List FieldType} {GF : (Nat → Prop) → State → Heap → Prop} {τ : Nat → Nat} {mt : Nat → q_M} {M : q_M} {own mname : String} {cc : ByteArray} {nL pc nx : Nat}
variable {TB : Nat → Option (Nat × Nat × (Nat → Int32))}
theorem q_arraycopyT {idx t : Nat} {ty : FieldType} {fit : Int32 → Bool} (hTB : q_TB TB tyl GF τ) (hdg : decode cc pc = .ok (.invokestatic idx, 3)) (ht : tyl[t]? = some ty) (hprim : refKind ty = false) (hfit : ∀ x, fit x = true → fits ty (.int x) = true) (hw1 : Cond.methodLink own idx arraycopyName ∈ WU) (hw2 : Cond.native arraycopyName ∈ WU) (hw3 : Cond.static arraycopyName ∈ WU) (hw4 : Cond.initialized "java/lang/System" ∈ WU) (hx : nx = pc + 3) : q_J WU cl tyl GF τ own mname cc nL pc (q_rs (q_acpT TB nx t fit)) := by
  intro g g' hpc hf hg
  obtain ⟨pc', L, st, h⟩ := g
  obtain rfl : pc' = pc := hpc
  obtain ⟨b9, g1, g2, ef, hb⟩ := q_rs_ok hf
  unfold q_acpT at ef
  dsimp only at ef
  split at ef
  · rename_i n dp a sp b r
    split at ef
    · rename_i u n0 f v n1 f1 e1 e2
      split at ef
      · rename_i eu
        cases ef
        obtain ⟨rfl, rfl, hsum⟩ := eu
        rcases hb with ⟨hb, rfl⟩ | ⟨-, hb⟩
        · simp only [Bool.and_eq_true] at hb
          obtain ⟨c1, c2, c3, c4, c5, c6⟩ := hb
          obtain ⟨ea, e3⟩ := q_at_in e2
          have hcell : q_okc h.1.length (.inl (v, n1, .inl (va_cpy f f1 sp.toNatClampNeg dp.toNatClampNeg n.toNatClampNeg)) : q_C) := trivial
          have hlen2 : (h.1.set (a - 64) (.inl (v, n1, .inl (va_cpy f f1 sp.toNatClampNeg dp.toNatClampNeg n.toNatClampNeg)) : q_C)).length = h.1.length := List.length_set
          refine ⟨⟨⟨?_, ?_, hg.2.2.set _ hcell⟩, by show _ ≤ (h.1.set _ _).length; rw [List.length_set]; exact Nat.le_refl _, Nat.le_refl _, Nat.le_refl _⟩, ?_⟩
          · show ∀ q ∈ L, q_ok (h.1.set (a - 64) (.inl (v, n1, .inl (va_cpy f f1 sp.toNatClampNeg dp.toNatClampNeg n.toNatClampNeg)) : q_C)).length q.2
            rw [hlen2]; exact hg.1
          · show ∀ v' ∈ r, q_ok (h.1.set (a - 64) (.inl (v, n1, .inl (va_cpy f f1 sp.toNatClampNeg dp.toNatClampNeg n.toNatClampNeg)) : q_C)).length v'
            rw [hlen2]; exact q_ok1 (q_ok2 (q_ok2 hg.2.1))
          intro p l e R s m args below meth c Q D cA A k0 n0' α hC hR1 hR2 hτ hk' hn kk H locs ls cells slots hP hD hS hl ek en
          have hw0 := q_w_get (cA := cA) (α := α) e3
          rw [← ea] at hw0
          subst hx
          have hset : (q_w cA α h.1).set (a - 64) (α a, q_e cA α (.inl (v, n1, .inl (va_cpy f f1 sp.toNatClampNeg dp.toNatClampNeg n.toNatClampNeg)) : q_C)) = q_w cA α (h.1.set (a - 64) (.inl (v, n1, .inl (va_cpy f f1 sp.toNatClampNeg dp.toNatClampNeg n.toNatClampNeg)) : q_C)) := by
            rw [← q_w_set, ← ea]
          have hloc : ((r.map (q_v α)).map fun v => v.category).sum + (nativeFrameWords "java/lang/System" "arraycopy" 5 + 11) ≤ R.locals := by
            rw [q_catsum]
            have e9 : nativeFrameWords "java/lang/System" "arraycopy" 5 + 11 ≤ 52 := by decide +kernel
            omega
          rcases q_ar_out e1 with ⟨hlt9, eT⟩ | ⟨eq9, e4⟩
          · have hT := hTB b _ n0 f _ A s s.heap eT ht hC.2.2.2.2.2.2.2.1
            rw [← hτ b hlt9] at hT
            refine q_copyT hC.1 hC.2.1 (hC.2.2.2.1.trans hl.1.symm) hC.2.2.1 (hC.2.2.2.2.1 _ hw1) (hC.2.2.2.2.1 _ hw2) (hC.2.2.2.2.1 _ hw3) (hC.2.2.2.2.1 _ hw4) hC.2.2.2.2.2.1 hP hD hS hT _ v hw0 (q_T_at ht) hprim (q_nots c1) (q_nots c2) (q_nots c3) (of_decide_eq_true c4) (of_decide_eq_true c5) (fun i hi => hfit _ (List.all_eq_true.mp c6 i (List.mem_range.mpr hi))) (by omega) hloc hdg (fun H1 locs1 hP1 hD1 hS1 => ?_)
            have hP2 : va_P D cl ((q_w cA α h.1).set (a - 64) (α a, q_e cA α (.inl (v, n1, .inl (va_cpy f f1 sp.toNatClampNeg dp.toNatClampNeg n.toNatClampNeg)) : q_C))) H1 := hP1
            have hD2 : va_D A ((q_w cA α h.1).set (a - 64) (α a, q_e cA α (.inl (v, n1, .inl (va_cpy f f1 sp.toNatClampNeg dp.toNatClampNeg n.toNatClampNeg)) : q_C))) := hD1
            rw [hset] at hP2 hD2
            exact kk α q_ag.rf H1 locs1 ls cells slots hP2 hD2 hS1 hl ek en
          · have hw9 := q_w_get (cA := cA) (α := α) e4
            rw [← eq9] at hw9
            refine va_copyi hC.1 hC.2.1 (hC.2.2.2.1.trans hl.1.symm) hC.2.2.1 (hC.2.2.2.2.1 _ hw1) (hC.2.2.2.2.1 _ hw2) (hC.2.2.2.2.1 _ hw3) (hC.2.2.2.2.1 _ hw4) hC.2.2.2.2.2.1 hP hD hS _ _ v v hw9 hw0 (q_T_at ht) (q_T_at ht) hprim (q_nots c1) (q_nots c2) (q_nots c3) (of_decide_eq_true c4) (of_decide_eq_true c5) (fun i hi => hfit _ (List.all_eq_true.mp c6 i (List.mem_range.mpr hi))) (by omega) hloc hdg (fun H1 locs1 hP1 hD1 hS1 => ?_)
            have hP2 : va_P D cl ((q_w cA α h.1).set (a - 64) (α a, q_e cA α (.inl (v, n1, .inl (va_cpy f f1 sp.toNatClampNeg dp.toNatClampNeg n.toNatClampNeg)) : q_C))) H1 := hP1
            have hD2 : va_D A ((q_w cA α h.1).set (a - 64) (α a, q_e cA α (.inl (v, n1, .inl (va_cpy f f1 sp.toNatClampNeg dp.toNatClampNeg n.toNatClampNeg)) : q_C))) := hD1
            rw [hset] at hP2 hD2
            exact kk α q_ag.rf H1 locs1 ls cells slots hP2 hD2 hS1 hl ek en
        · cases hb
      · cases ef
    · cases ef
  · cases ef
end
