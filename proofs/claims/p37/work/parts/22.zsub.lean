/-! ===== inherited calls, super calls, calls on things outside, their fields ===== -/
def q_fo (k nA : Nat) (ks : List Nat) (g : q_G) : Option (Nat × List Value × List Value) := match g.2.2.1.drop nA with
  | .ref b :: r => if ks.contains b = true ∧ (r.map fun v => v.category).sum ≤ 8 then some (k, .ref b :: (g.2.2.1.take nA).reverse, r) else none
  | _ => none
def q_lkv (t : List (Nat × Value)) (b : Nat) : Option Value := match t with
  | [] => none
  | x :: r => cond (Nat.beq b x.1) (some x.2) (q_lkv r b)
theorem q_lkv_mem {t : List (Nat × Value)} {b : Nat} {v : Value} (h : q_lkv t b = some v) : (b, v) ∈ t := by
  induction t with
  | nil => cases h
  | cons x r ih =>
    unfold q_lkv at h
    cases hb : Nat.beq b x.1 with
    | true =>
      rw [hb] at h
      obtain ⟨x1, x2⟩ := x
      have e : b = x1 := Nat.eq_of_beq_eq_true hb
      cases h
      rw [e]; exact List.mem_cons_self
    | false => rw [hb] at h; exact List.mem_cons_of_mem _ (ih h)
def q_fog (t : List (Nat × Value)) (_ : q_L) (st : List Value) : Option (List Value) := match st with
  | .ref b :: r => match q_lkv t b with
    | some v => some (v :: r)
    | none => none
  | _ => none
section
variable {WU : List Cond} {cl : List vw_C} {tyl : List FieldType} {GF : (Nat → Prop) → State → Heap → Prop} {τ : Nat → Nat} {mt : Nat → q_M} {own mname : String} {cc : ByteArray} {nL pc nx : Nat}
theorem q_callU {k nA idx ci n : Nat} {N : q_M} {C owner : String} {x : MethodName} {T : u_T} (hM : mt k = N) (hdg : decode cc pc = .ok (.invokevirtual idx, 3)) (hx : nx = pc + 3) (hc : cl[ci]? = some (C, T, n)) (hh : N.2.2.2.2.1 = []) (hml : N.2.2.1 ≤ 80) (hwl : Cond.methodLink own idx x ∈ WU) (hsm : Cond.sameMethod x.cls owner x.name x.desc ∈ WU) (hwe : Cond.selects C x N.1 ∈ WU) (hws : Cond.instanceMethod N.1 ∈ WU) (hwi : Cond.initialized N.1.cls ∈ WU) (hwc : q_cw N ∈ WU)
    (hyx : N.1 = ⟨owner, x.name, x.desc⟩) (hd : owner ≠ "java/lang/invoke/MethodHandle" ∧ owner ≠ "java/lang/invoke/VarHandle" ∧ (parseMethodDescriptor x.desc).map (fun d => d.parameters.length) = some nA) : q_Cs WU cl tyl GF τ mt own cc nL pc nx (q_fv k nA ci) := by
  subst hM
  refine ⟨hx, ?_⟩
  intro g k' as rest hpc hf
  obtain ⟨pc', L, st, h⟩ := g
  obtain rfl : pc' = pc := hpc
  unfold q_fv at hf
  dsimp only at hf
  split at hf
  · rename_i b r hst
    obtain ⟨hlen, hst2⟩ := q_split hst
    split at hf
    · rename_i cj fs e1
      split at hf
      · rename_i hcs
        cases hf
        obtain ⟨rfl, hsum⟩ := hcs
        obtain ⟨eb, e2⟩ := q_at_in e1
        refine ⟨fun v hv => ?_, fun v hv => by show v ∈ st; rw [hst2]; exact List.mem_append_right _ (List.mem_cons_of_mem _ hv), ?_⟩
        · show v ∈ st
          rcases List.mem_cons.mp hv with rfl | hv
          · rw [hst2]; exact List.mem_append_right _ List.mem_cons_self
          · exact List.mem_of_mem_take (List.mem_reverse.mp hv)
        intro p l e R s m args below meth c H locs cells slots mc ms rm Pc Qc XC free A ls D cA α he hb hm9 hown hts hgood hG hK hS9 hτ9 hM hrc hrs h1 h2 hbl hpre hk hn hP hsz
        have cw := va_cwU (R := R) (s := s) (args := args) (own := own) (C := C) (owner := owner) (index := idx) (x := x) (y := (mt k).1) (bytes := (mt k).2.1) (maxL := (mt k).2.2.1) (ret := (mt k).2.2.2.1) (Ts := WU) (ws := q_cw (mt k) :: WU) nA hts (q_goods hgood (fun w hw => by
          rcases List.mem_cons.mp hw with rfl | hw
          · exact hwl
          · rcases List.mem_cons.mp hw with rfl | hw
            · exact hsm
            · rcases List.mem_cons.mp hw with rfl | hw
              · exact hwe
              · rcases List.mem_cons.mp hw with rfl | hw
                · exact hws
                · rcases List.mem_cons.mp hw with rfl | hw
                  · exact hwi
                  · cases hw) (q_good hgood hwc)) (by rw [q_cw0 hh]) hrc hrs hyx hd (q_nR h1 h2 hml)
        have hw0 := q_w_get (cA := cA) (α := α) e2
        rw [← eb] at hw0
        have hrecv := va_recv hK hP hc hw0
        refine vx_runU (nL := nL) (C := C) (b := α b) (As := (st.take nA).reverse.map (q_v α)) ⟨he, hb, hm9, hown, hts⟩ hM cw ⟨hbl, hrecv, hpre⟩ rfl (by rw [List.length_map, List.length_reverse]; exact hlen) hsz ?_ (lv_room (by rw [q_catsum]; exact hsum)) hdg ⟨hk, hn⟩
        show st.map (q_v α) = ((st.take nA).reverse.map (q_v α)).reverse ++ q_v α (.ref b) :: rest.map (q_v α)
        rw [← List.map_reverse, List.reverse_reverse, ← List.map_cons, ← List.map_append, ← hst2]
      · cases hf
    · cases hf
  · cases hf
theorem q_callSU {k nA idx ci n N9 : Nat} {N : q_M} {C : String} {T : u_T} (hM : mt k = N) (hdg : decode cc pc = .ok (.invokespecial idx, 3)) (hx : nx = pc + 3) (hc : cl[ci]? = some (C, T, n)) (hh : N.2.2.2.2.1 = []) (hml : N.2.2.1 ≤ 80) (hwl : Cond.methodLink own idx N.1 ∈ WU) (hsm : Cond.sameMethod N.1.cls N.1.cls N.1.name N.1.desc ∈ WU) (hsc : Cond.superclass own N.1.cls ∈ WU) (hws : Cond.instanceMethod N.1 ∈ WU) (hwi : Cond.initialized N.1.cls ∈ WU) (hwc : q_cw N ∈ WU) (hins : Cond.instantiable C N9 ∈ WU)
    (hd : N.1.name ≠ "<init>" ∧ (parseMethodDescriptor N.1.desc).map (fun d => d.parameters.length) = some nA) : q_Cs WU cl tyl GF τ mt own cc nL pc nx (q_fv k nA ci) := by
  subst hM
  refine ⟨hx, ?_⟩
  intro g k' as rest hpc hf
  obtain ⟨pc', L, st, h⟩ := g
  obtain rfl : pc' = pc := hpc
  unfold q_fv at hf
  dsimp only at hf
  split at hf
  · rename_i b r hst
    obtain ⟨hlen, hst2⟩ := q_split hst
    split at hf
    · rename_i cj fs e1
      split at hf
      · rename_i hcs
        cases hf
        obtain ⟨rfl, hsum⟩ := hcs
        obtain ⟨eb, e2⟩ := q_at_in e1
        refine ⟨fun v hv => ?_, fun v hv => by show v ∈ st; rw [hst2]; exact List.mem_append_right _ (List.mem_cons_of_mem _ hv), ?_⟩
        · show v ∈ st
          rcases List.mem_cons.mp hv with rfl | hv
          · rw [hst2]; exact List.mem_append_right _ List.mem_cons_self
          · exact List.mem_of_mem_take (List.mem_reverse.mp hv)
        intro p l e R s m args below meth c H locs cells slots mc ms rm Pc Qc XC free A ls D cA α he hb hm9 hown hts hgood hG hK hS9 hτ9 hM hrc hrs h1 h2 hbl hpre hk hn hP hsz
        obtain ⟨cC, hat⟩ := classAt_of (hts _ hins)
        have cw := va_cwSU (R := R) (s := s) (args := args) (own := own) (index := idx) (y := (mt k).1) (bytes := (mt k).2.1) (maxL := (mt k).2.2.1) (ret := (mt k).2.2.2.1) (Ts := WU) (ws := q_cw (mt k) :: WU) nA hts (q_goods hgood (fun w hw => by
          rcases List.mem_cons.mp hw with rfl | hw
          · exact hwl
          · rcases List.mem_cons.mp hw with rfl | hw
            · exact hsm
            · rcases List.mem_cons.mp hw with rfl | hw
              · exact hsc
              · rcases List.mem_cons.mp hw with rfl | hw
                · exact hws
                · rcases List.mem_cons.mp hw with rfl | hw
                  · exact hwi
                  · cases hw) (q_good hgood hwc)) (by rw [q_cw0 hh]) hrc hrs hd (q_nR h1 h2 hml)
        have hw0 := q_w_get (cA := cA) (α := α) e2
        rw [← eb] at hw0
        have hrecv := va_recv hK hP hc hw0
        refine vx_runSU (nL := nL) (C := C) (b := α b) (As := (st.take nA).reverse.map (q_v α)) hat ⟨he, hb, hm9, hown, hts⟩ hM cw ⟨hbl, hrecv, hpre⟩ rfl (by rw [List.length_map, List.length_reverse]; exact hlen) hsz ?_ (lv_room (by rw [q_catsum]; exact hsum)) hdg ⟨hk, hn⟩
        show st.map (q_v α) = ((st.take nA).reverse.map (q_v α)).reverse ++ q_v α (.ref b) :: rest.map (q_v α)
        rw [← List.map_reverse, List.reverse_reverse, ← List.map_cons, ← List.map_append, ← hst2]
      · cases hf
    · cases hf
  · cases hf
theorem q_ogetf {idx : Nat} {o n d : String} {t : List (Nat × Value)} (hlo : ∀ x ∈ t, x.1 < 64) (hok : ∀ x ∈ t, ∀ a, x.2 = .ref a → a < 64) (hO : ∀ A U H, GF A U H → ∀ x ∈ t, va_OF o n d (q_v τ x.2) (τ x.1) A U H) (hdg : decode cc pc = .ok (.getfield idx, 3)) (hw : Cond.fieldLink own idx o n d ∈ WU) (hx : nx = pc + 3) :
    q_J WU cl tyl GF τ own mname cc nL pc (q_st nx (q_fog t)) := by
  intro g g' hpc hf hg
  obtain ⟨pc', L, st, h⟩ := g
  obtain rfl : pc' = pc := hpc
  unfold q_st q_fog at hf
  dsimp only at hf
  split at hf
  · cases hf
  · rename_i st' hs
    cases hf
    split at hs
    · rename_i b r
      split at hs
      · rename_i v hv
        cases hs
        have hm := q_lkv_mem hv
        refine ⟨⟨⟨hg.1, fun w hw9 => ?_, hg.2.2⟩, Nat.le_refl _, Nat.le_refl _, Nat.le_refl _⟩, ?_⟩
        · rcases List.mem_cons.mp hw9 with rfl | h9
          · exact fun a ha => Nat.lt_of_lt_of_le (hok _ hm a ha) (Nat.le_add_right _ _)
          · exact hg.2.1 w (List.mem_cons_of_mem _ h9)
        intro p l e R s m args below meth c Q D cA A k0 n0 α hC hR1 hR2 hτ hk' hn kk H locs ls cells slots hP hD hS hl ek en
        subst hx
        have h9 := hO A s s.heap hC.2.2.2.2.2.2.2.1 _ hm
        have e1 : q_v α v = q_v τ v := by
          cases v <;> try rfl
          rename_i a
          show Value.ref (α a) = Value.ref (τ a)
          rw [hτ a (hok _ hm a rfl)]
        rw [← hτ b (hlo _ hm)] at h9
        show W p l e R s m args below meth c H locs cells slots Q (F0 m pc' ls (.ref (α b) :: r.map (q_v α)))
        refine vk_getf hC.1 hC.2.1 h9 hS hC.2.2.1 (hC.2.2.2.2.1 _ hw) (fun x h => h) hdg ?_
        have h8 := kk α q_ag.rf H locs ls cells slots hP hD hS hl ek en
        rw [← e1]
        exact h8
      · cases hs
    · cases hs
theorem q_callO {k nA idx : Nat} {N : q_M} {C : String} {ks : List Nat} (hlo : ∀ x ∈ ks, x < 64) (hO : ∀ A U H, GF A U H → ∀ x ∈ ks, va_O C (τ x) A U H) (hM : mt k = N) (hdg : decode cc pc = .ok (.invokevirtual idx, 3)) (hx : nx = pc + 3) (hh : N.2.2.2.2.1 = []) (hml : N.2.2.1 ≤ 80) (hwl : Cond.methodLink own idx N.1 ∈ WU) (hws : Cond.instanceMethod N.1 ∈ WU) (hwe : Cond.selects C N.1 N.1 ∈ WU) (hwi : Cond.initialized C ∈ WU) (hwc : q_cw N ∈ WU)
    (hd : N.1.cls = C ∧ N.1.cls ≠ "java/lang/invoke/MethodHandle" ∧ N.1.cls ≠ "java/lang/invoke/VarHandle" ∧ (parseMethodDescriptor N.1.desc).map (fun d => d.parameters.length) = some nA) : q_Cs WU cl tyl GF τ mt own cc nL pc nx (q_fo k nA ks) := by
  subst hM
  refine ⟨hx, ?_⟩
  intro g k' as rest hpc hf
  obtain ⟨pc', L, st, h⟩ := g
  obtain rfl : pc' = pc := hpc
  unfold q_fo at hf
  dsimp only at hf
  split at hf
  · rename_i b r hst
    obtain ⟨hlen, hst2⟩ := q_split hst
    split at hf
    · rename_i hcs
      cases hf
      obtain ⟨hin, hsum⟩ := hcs
      have hb9 : b ∈ ks := List.contains_iff_mem.mp hin
      refine ⟨fun v hv => ?_, fun v hv => by show v ∈ st; rw [hst2]; exact List.mem_append_right _ (List.mem_cons_of_mem _ hv), ?_⟩
      · show v ∈ st
        rcases List.mem_cons.mp hv with rfl | hv
        · rw [hst2]; exact List.mem_append_right _ List.mem_cons_self
        · exact List.mem_of_mem_take (List.mem_reverse.mp hv)
      intro p l e R s m args below meth c H locs cells slots mc ms rm Pc Qc XC free A ls D cA α he hb hm9 hown hts hgood hG hK hS9 hτ9 hM hrc hrs h1 h2 hbl hpre hk hn hP hsz
      have cw := cwV (R := R) (s := s) (args := args) (own := own) (C := C) (index := idx) (y := (mt k).1) (bytes := (mt k).2.1) (maxL := (mt k).2.2.1) (ret := (mt k).2.2.2.1) (Ts := WU) (ws := q_cw (mt k) :: WU) nA hts (q_goods hgood (fun w hw => by
        rcases List.mem_cons.mp hw with rfl | hw
        · exact hwl
        · rcases List.mem_cons.mp hw with rfl | hw
          · exact hws
          · rcases List.mem_cons.mp hw with rfl | hw
            · exact hwe
            · rcases List.mem_cons.mp hw with rfl | hw
              · exact hwi
              · cases hw) (q_good hgood hwc)) (by rw [q_cw0 hh]) hrc hrs hd (q_nR h1 h2 hml)
      have hrecv : ∃ cellB : Cell, H[α b]? = some cellB ∧ cellB.vm.isStatics = false ∧ s.vm.findClass C = some cellB.cls := by
        rw [hτ9 b (hlo b hb9)]
        obtain ⟨cell, z1, z2, z3, -⟩ := (hO _ _ _ hG b hb9).kept hS9.2.1
        exact ⟨cell, z1, z2, z3⟩
      refine vx_runV (nL := nL) (C := C) (b := α b) (As := (st.take nA).reverse.map (q_v α)) ⟨he, hb, hm9, hown, hts⟩ hM cw ⟨hbl, hrecv, hpre⟩ rfl (by rw [List.length_map, List.length_reverse]; exact hlen) hsz ?_ (lv_room (by rw [q_catsum]; exact hsum)) hdg ⟨hk, hn⟩
      show st.map (q_v α) = ((st.take nA).reverse.map (q_v α)).reverse ++ q_v α (.ref b) :: rest.map (q_v α)
      rw [← List.map_reverse, List.reverse_reverse, ← List.map_cons, ← List.map_append, ← hst2]
    · cases hf
  · cases hf
end
