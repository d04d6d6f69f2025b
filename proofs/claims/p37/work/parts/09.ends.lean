/-! ===== returns, throws, calls, handlers: the entries of the table, one by one ===== -/
def q_ri (st : q_G) : Option (Option Value) := match st.2.2.1 with
  | [.int x] => some (some (.int x))
  | _ => none
def q_rz (st : q_G) : Option (Option Value) := match st.2.2.1 with
  | [.int x] => if x = 0 ∨ x = 1 then some (some (.int x)) else none
  | _ => none
def q_rl (st : q_G) : Option (Option Value) := match st.2.2.1 with
  | [.long x] => some (some (.long x))
  | _ => none
def q_rf (st : q_G) : Option (Option Value) := match st.2.2.1 with
  | [.float x] => some (some (.float x))
  | _ => none
def q_rd (st : q_G) : Option (Option Value) := match st.2.2.1 with
  | [.double x] => some (some (.double x))
  | _ => none
def q_ra (st : q_G) : Option (Option Value) := match st.2.2.1 with
  | [.ref a] => some (some (.ref a))
  | [.null] => some (some .null)
  | _ => none
def q_rv (st : q_G) : Option (Option Value) := match st.2.2.1 with
  | [] => some none
  | _ => none
section QR
variable {WU : List Cond} {cl : List vw_C} {tyl : List FieldType} {GF : (Nat → Prop) → State → Heap → Prop} {τ : Nat → Nat} {mt : Nat → q_M} {M : q_M} {own : String} {cc : ByteArray} {nL pc nx : Nat}
theorem q_ireturn (hdg : decode M.2.1 pc = .ok (.ireturn, 1)) (hr : M.2.2.2.1 = some .int) : q_Re M pc q_ri := by
  intro g v hpc hf
  obtain ⟨pc', L, st, h⟩ := g
  obtain rfl : pc' = pc := hpc
  unfold q_ri at hf
  dsimp only at hf
  split at hf
  · cases hf
    exact ⟨fun w hw => by cases hw; exact List.mem_cons_self, fun α he hb hr9 hlk hq hf9 => W.iret he hb (hr9.trans hr) hq hf9 hdg hlk⟩
  · cases hf
theorem q_zreturn {ty : FieldType} (hdg : decode M.2.1 pc = .ok (.ireturn, 1)) (hr : M.2.2.2.1 = some ty) (h0 : narrow ty (.int 0) = .int 0) (h1 : narrow ty (.int 1) = .int 1) : q_Re M pc q_rz := by
  intro g v hpc hf
  obtain ⟨pc', L, st, h⟩ := g
  obtain rfl : pc' = pc := hpc
  unfold q_rz at hf
  dsimp only at hf
  split at hf
  · split at hf
    · rename_i x hx
      cases hf
      refine ⟨fun w hw => by cases hw; exact List.mem_cons_self, fun α he hb hr9 hlk hq hf9 => W.zret he hb (hr9.trans hr) ?_ hq hf9 hdg hlk⟩
      rcases hx with rfl | rfl
      · exact h0
      · exact h1
    · cases hf
  · cases hf
theorem q_lreturn (hdg : decode M.2.1 pc = .ok (.lreturn, 1)) (hr : M.2.2.2.1 = some .long) : q_Re M pc q_rl := by
  intro g v hpc hf
  obtain ⟨pc', L, st, h⟩ := g
  obtain rfl : pc' = pc := hpc
  unfold q_rl at hf
  dsimp only at hf
  split at hf
  · cases hf
    exact ⟨fun w hw => by cases hw; exact List.mem_cons_self, fun α he hb hr9 hlk hq hf9 => W.lret he hb (hr9.trans hr) hq hf9 hdg hlk⟩
  · cases hf
theorem q_freturn (hdg : decode M.2.1 pc = .ok (.freturn, 1)) (hr : M.2.2.2.1 = some .float) : q_Re M pc q_rf := by
  intro g v hpc hf
  obtain ⟨pc', L, st, h⟩ := g
  obtain rfl : pc' = pc := hpc
  unfold q_rf at hf
  dsimp only at hf
  split at hf
  · cases hf
    exact ⟨fun w hw => by cases hw; exact List.mem_cons_self, fun α he hb hr9 hlk hq hf9 => W.fret he hb (hr9.trans hr) hq hf9 hdg hlk⟩
  · cases hf
theorem q_dreturn (hdg : decode M.2.1 pc = .ok (.dreturn, 1)) (hr : M.2.2.2.1 = some .double) : q_Re M pc q_rd := by
  intro g v hpc hf
  obtain ⟨pc', L, st, h⟩ := g
  obtain rfl : pc' = pc := hpc
  unfold q_rd at hf
  dsimp only at hf
  split at hf
  · cases hf
    exact ⟨fun w hw => by cases hw; exact List.mem_cons_self, fun α he hb hr9 hlk hq hf9 => W.dret he hb (hr9.trans hr) hq hf9 hdg hlk⟩
  · cases hf
theorem q_areturn {rt : FieldType} (hdg : decode M.2.1 pc = .ok (.areturn, 1)) (hr : M.2.2.2.1 = some rt) (hrt : (∃ n, rt = .object n) ∨ ∃ t, rt = .array t) : q_Re M pc q_ra := by
  intro g v hpc hf
  obtain ⟨pc', L, st, h⟩ := g
  obtain rfl : pc' = pc := hpc
  unfold q_ra at hf
  dsimp only at hf
  split at hf
  · cases hf
    exact ⟨fun w hw => by cases hw; exact List.mem_cons_self, fun α he hb hr9 hlk hq hf9 => W.aret he hb (hr9.trans hr) hrt (Or.inr ⟨_, rfl⟩) hq hf9 hdg hlk⟩
  · cases hf
    exact ⟨fun w hw => by cases hw; exact List.mem_cons_self, fun α he hb hr9 hlk hq hf9 => W.aret he hb (hr9.trans hr) hrt (Or.inl rfl) hq hf9 hdg hlk⟩
  · cases hf
theorem q_return (hdg : decode M.2.1 pc = .ok (.return_, 1)) (hr : M.2.2.2.1 = none) : q_Re M pc q_rv := by
  intro g v hpc hf
  obtain ⟨pc', L, st, h⟩ := g
  obtain rfl : pc' = pc := hpc
  unfold q_rv at hf
  dsimp only at hf
  split at hf
  · cases hf
    exact ⟨fun w hw => (by cases hw), fun α he hb hr9 hlk hq hf9 => W.vret he hb (hr9.trans hr) hq hf9 hdg hlk⟩
  · cases hf
/-- a call: the arguments, the rest -/
def q_fc (k nA : Nat) (g : q_G) : Option (Nat × List Value × List Value) := if nA ≤ g.2.2.1.length ∧ ((g.2.2.1.drop nA).map fun v => v.category).sum ≤ 8 then some (k, (g.2.2.1.take nA).reverse, g.2.2.1.drop nA) else none
def q_fv (k nA ci : Nat) (g : q_G) : Option (Nat × List Value × List Value) := match g.2.2.1.drop nA with
  | .ref b :: r => match q_at g.2.2.2 b with
    | some (.inr (cj, _)) => if cj = ci ∧ (r.map fun v => v.category).sum ≤ 8 then some (k, .ref b :: (g.2.2.1.take nA).reverse, r) else none
    | _ => none
  | _ => none
def q_fi (k nA : Nat) (g : q_G) : Option (Nat × List Value × List Value) := match g.2.2.1.drop nA with
  | .ref b :: r => if (r.map fun v => v.category).sum ≤ 8 then some (k, .ref b :: (g.2.2.1.take nA).reverse, r) else none
  | _ => none
theorem q_catsum (α : Nat → Nat) (r : List Value) : ((r.map (q_v α)).map fun v => v.category).sum = (r.map fun v => v.category).sum := by
  rw [List.map_map]
  congr 1
  exact List.map_congr_left fun v _ => q_v_cat α v
theorem q_cw0 {M : q_M} (h : M.2.2.2.2.1 = []) : q_cw M = .code M.1 M.2.1 M.2.2.1 M.2.2.2.1 := by
  unfold q_cw
  rw [h]
theorem q_good {WU : List Cond} {M : q_M} (hgood : ∀ w ∈ WU, goodWord w = true) (hwc : q_cw M ∈ WU) : GoodIn WU (q_cw M :: WU) := fun w hw => by
  rcases List.mem_cons.mp hw with rfl | h
  · exact ⟨hwc, good_of_word (hgood _ hwc)⟩
  · exact ⟨h, good_of_word (hgood _ h)⟩
theorem q_goods {WU ws xs : List Cond} (hgood : ∀ w ∈ WU, goodWord w = true) (hx : ∀ w ∈ xs, w ∈ WU) (hG : GoodIn WU ws) : GoodIn WU (xs ++ ws) := fun w hw => by
  rcases List.mem_append.mp hw with h | h
  · exact ⟨hx w h, good_of_word (hgood _ (hx w h))⟩
  · exact hG w h
theorem q_nR {R : Room} {rm : Room} {mL : Nat} (h1 : rm.frames + 1 ≤ R.frames) (h2 : 99 + rm.locals ≤ R.locals) (h3 : mL ≤ 80) : rm.frames + 1 ≤ R.frames ∧ 8 + (mL + 11) + rm.locals ≤ R.locals := ⟨h1, by omega⟩
theorem q_callS {k nA idx : Nat} (hdg : decode cc pc = .ok (.invokestatic idx, 3)) (hx : nx = pc + 3) (hh : (mt k).2.2.2.2.1 = []) (hml : (mt k).2.2.1 ≤ 80) (hwl : Cond.methodLink own idx (mt k).1 ∈ WU) (hws : Cond.static (mt k).1 ∈ WU) (hwi : Cond.initialized (mt k).1.cls ∈ WU) (hwc : q_cw (mt k) ∈ WU)
    (hd : (mt k).1.cls ≠ "java/lang/invoke/MethodHandle" ∧ (mt k).1.cls ≠ "java/lang/invoke/VarHandle" ∧ (parseMethodDescriptor (mt k).1.desc).map (fun d => d.parameters.length) = some nA) : q_Cs WU cl tyl GF τ mt own cc nL pc nx (q_fc k nA) := by
  refine ⟨hx, ?_⟩
  intro g k' as rest hpc hf
  obtain ⟨pc', L, st, h⟩ := g
  obtain rfl : pc' = pc := hpc
  unfold q_fc at hf
  split at hf
  · rename_i hlen
    cases hf
    obtain ⟨hlen, hsum⟩ := hlen
    refine ⟨fun v hv => List.mem_of_mem_take (List.mem_reverse.mp hv), fun v hv => List.mem_of_mem_drop hv, ?_⟩
    intro p l e R s m args below meth c H locs cells slots mc ms rm Pc Qc XC free A ls D cA α he hb hm9 hown hts hgood hG hK hS9 hτ9 hM hrc hrs h1 h2 hbl hpre hk hn hP hsz
    have cw := va_cwS (R := R) (s := s) (args := args) (own := own) (index := idx) (y := (mt k).1) (bytes := (mt k).2.1) (maxL := (mt k).2.2.1) (ret := (mt k).2.2.2.1) (Ts := WU) (ws := q_cw (mt k) :: WU) nA hts (q_goods hgood (fun w hw => by
      rcases List.mem_cons.mp hw with rfl | hw
      · exact hwl
      · rcases List.mem_cons.mp hw with rfl | hw
        · exact hws
        · rcases List.mem_cons.mp hw with rfl | hw
          · exact hwi
          · cases hw) (q_good hgood hwc)) (by rw [q_cw0 hh]) hrc hrs hd (q_nR h1 h2 hml)
    refine vx_runS (nL := nL) ⟨he, hb, hm9, hown, hts⟩ hM cw ⟨hbl, hpre⟩ rfl (by rw [List.length_map, List.length_reverse, List.length_take]; exact Nat.min_eq_left hlen) hsz ?_ (lv_room (by rw [q_catsum]; exact hsum)) hdg ⟨hk, hn⟩
    show st.map (q_v α) = ((st.take nA).reverse.map (q_v α)).reverse ++ (st.drop nA).map (q_v α)
    rw [← List.map_reverse, List.reverse_reverse, ← List.map_append, List.take_append_drop]
  · cases hf
theorem q_callSX {k nA idx : Nat} {x9 : Nat × Nat × Nat × Nat} {r9 : List (Nat × Nat × Nat × Nat)} (hdg : decode cc pc = .ok (.invokestatic idx, 3)) (hx : nx = pc + 3) (hh : (mt k).2.2.2.2.1 = x9 :: r9) (hml : (mt k).2.2.1 ≤ 80) (hwl : Cond.methodLink own idx (mt k).1 ∈ WU) (hws : Cond.static (mt k).1 ∈ WU) (hwi : Cond.initialized (mt k).1.cls ∈ WU) (hwc : q_cw (mt k) ∈ WU)
    (hd : (mt k).1.cls ≠ "java/lang/invoke/MethodHandle" ∧ (mt k).1.cls ≠ "java/lang/invoke/VarHandle" ∧ (parseMethodDescriptor (mt k).1.desc).map (fun d => d.parameters.length) = some nA) : q_Cs WU cl tyl GF τ mt own cc nL pc nx (q_fc k nA) := by
  refine ⟨hx, ?_⟩
  intro g k' as rest hpc hf
  obtain ⟨pc', L, st, h⟩ := g
  obtain rfl : pc' = pc := hpc
  unfold q_fc at hf
  split at hf
  · rename_i hlen
    cases hf
    obtain ⟨hlen, hsum⟩ := hlen
    refine ⟨fun v hv => List.mem_of_mem_take (List.mem_reverse.mp hv), fun v hv => List.mem_of_mem_drop hv, ?_⟩
    intro p l e R s m args below meth c H locs cells slots mc ms rm Pc Qc XC free A ls D cA α he hb hm9 hown hts hgood hG hK hS9 hτ9 hM hrc hrs h1 h2 hbl hpre hk hn hP hsz
    have ecw : q_cw (mt k) = .codeWith (mt k).1 (mt k).2.1 (mt k).2.2.1 (mt k).2.2.2.1 (x9 :: r9) := by
      unfold q_cw
      rw [hh]
    have cw := vx_cwSW (R := R) (s := s) (args := args) (own := own) (index := idx) (y := (mt k).1) (bytes := (mt k).2.1) (maxL := (mt k).2.2.1) (ret := (mt k).2.2.2.1) (hh := x9 :: r9) (Ts := WU) (ws := q_cw (mt k) :: WU) nA hts (q_goods hgood (fun w hw => by
      rcases List.mem_cons.mp hw with rfl | hw
      · exact hwl
      · rcases List.mem_cons.mp hw with rfl | hw
        · exact hws
        · rcases List.mem_cons.mp hw with rfl | hw
          · exact hwi
          · cases hw) (q_good hgood hwc)) (by rw [ecw]) hrc hrs hd (q_nR h1 h2 hml)
    refine vx_runSX (nL := nL) ⟨he, hb, hm9, hown, hts⟩ hM cw ⟨hbl, hpre⟩ rfl (by rw [List.length_map, List.length_reverse, List.length_take]; exact Nat.min_eq_left hlen) hsz ?_ (lv_room (by rw [q_catsum]; exact hsum)) hdg ⟨hk, hn⟩
    show st.map (q_v α) = ((st.take nA).reverse.map (q_v α)).reverse ++ (st.drop nA).map (q_v α)
    rw [← List.map_reverse, List.reverse_reverse, ← List.map_append, List.take_append_drop]
  · cases hf
theorem q_split {st r : List Value} {nA : Nat} {b : Value} (h : st.drop nA = b :: r) : (st.take nA).length = nA ∧ st = st.take nA ++ b :: r := by
  have h1 : nA < st.length := by
    rcases Nat.lt_or_ge nA st.length with q | q
    · exact q
    · rw [List.drop_eq_nil_of_le q] at h; cases h
  exact ⟨by rw [List.length_take]; omega, by rw [← h, List.take_append_drop]⟩
theorem q_callV {k nA idx ci N : Nat} {C : String} {T : u_T} (hdg : decode cc pc = .ok (.invokevirtual idx, 3)) (hx : nx = pc + 3) (hc : cl[ci]? = some (C, T, N)) (hh : (mt k).2.2.2.2.1 = []) (hml : (mt k).2.2.1 ≤ 80) (hwl : Cond.methodLink own idx (mt k).1 ∈ WU) (hws : Cond.instanceMethod (mt k).1 ∈ WU) (hwe : Cond.selects C (mt k).1 (mt k).1 ∈ WU) (hwi : Cond.initialized C ∈ WU) (hwc : q_cw (mt k) ∈ WU)
    (hd : (mt k).1.cls = C ∧ (mt k).1.cls ≠ "java/lang/invoke/MethodHandle" ∧ (mt k).1.cls ≠ "java/lang/invoke/VarHandle" ∧ (parseMethodDescriptor (mt k).1.desc).map (fun d => d.parameters.length) = some nA) : q_Cs WU cl tyl GF τ mt own cc nL pc nx (q_fv k nA ci) := by
  refine ⟨hx, ?_⟩
  intro g k' as rest hpc hf
  obtain ⟨pc', L, st, h⟩ := g
  obtain rfl : pc' = pc := hpc
  unfold q_fv at hf
  dsimp only at hf
  split at hf
  · rename_i b r hst
    obtain ⟨hlen, hst2⟩ := q_split hst
    split at hf
    · rename_i cj fs e1
      split at hf
      · rename_i hcs
        cases hf
        obtain ⟨rfl, hsum⟩ := hcs
        obtain ⟨eb, e2⟩ := q_at_in e1
        refine ⟨fun v hv => ?_, fun v hv => by show v ∈ st; rw [hst2]; exact List.mem_append_right _ (List.mem_cons_of_mem _ hv), ?_⟩
        · show v ∈ st
          rcases List.mem_cons.mp hv with rfl | hv
          · rw [hst2]; exact List.mem_append_right _ List.mem_cons_self
          · exact List.mem_of_mem_take (List.mem_reverse.mp hv)
        intro p l e R s m args below meth c H locs cells slots mc ms rm Pc Qc XC free A ls D cA α he hb hm9 hown hts hgood hG hK hS9 hτ9 hM hrc hrs h1 h2 hbl hpre hk hn hP hsz
        have cw := cwV (R := R) (s := s) (args := args) (own := own) (C := C) (index := idx) (y := (mt k).1) (bytes := (mt k).2.1) (maxL := (mt k).2.2.1) (ret := (mt k).2.2.2.1) (Ts := WU) (ws := q_cw (mt k) :: WU) nA hts (q_goods hgood (fun w hw => by
          rcases List.mem_cons.mp hw with rfl | hw
          · exact hwl
          · rcases List.mem_cons.mp hw with rfl | hw
            · exact hws
            · rcases List.mem_cons.mp hw with rfl | hw
              · exact hwe
              · rcases List.mem_cons.mp hw with rfl | hw
                · exact hwi
                · cases hw) (q_good hgood hwc)) (by rw [q_cw0 hh]) hrc hrs hd (q_nR h1 h2 hml)
        have hw0 := q_w_get (cA := cA) (α := α) e2
        rw [← eb] at hw0
        have hrecv := va_recv hK hP hc hw0
        refine vx_runV (nL := nL) (C := C) (b := α b) (As := (st.take nA).reverse.map (q_v α)) ⟨he, hb, hm9, hown, hts⟩ hM cw ⟨hbl, hrecv, hpre⟩ rfl (by rw [List.length_map, List.length_reverse]; exact hlen) hsz ?_ (lv_room (by rw [q_catsum]; exact hsum)) hdg ⟨hk, hn⟩
        show st.map (q_v α) = ((st.take nA).reverse.map (q_v α)).reverse ++ q_v α (.ref b) :: rest.map (q_v α)
        rw [← List.map_reverse, List.reverse_reverse, ← List.map_cons, ← List.map_append, ← hst2]
      · cases hf
    · cases hf
  · cases hf
theorem q_callI {k nA idx : Nat} (hdg : decode cc pc = .ok (.invokespecial idx, 3)) (hx : nx = pc + 3) (hh : (mt k).2.2.2.2.1 = []) (hml : (mt k).2.2.1 ≤ 80) (hret : (mt k).2.2.2.1 = none) (hwl : Cond.methodLink own idx (mt k).1 ∈ WU) (hws : Cond.instanceMethod (mt k).1 ∈ WU) (hwi : Cond.initialized (mt k).1.cls ∈ WU) (hwc : q_cw (mt k) ∈ WU) (hy1 : (mt k).1.name = "<init>")
    (hd : (mt k).1.cls ≠ "java/lang/invoke/MethodHandle" ∧ (mt k).1.cls ≠ "java/lang/invoke/VarHandle" ∧ (parseMethodDescriptor (mt k).1.desc).map (fun d => d.parameters.length) = some nA) : q_Cs WU cl tyl GF τ mt own cc nL pc nx (q_fi k nA) := by
  refine ⟨hx, ?_⟩
  intro g k' as rest hpc hf
  obtain ⟨pc', L, st, h⟩ := g
  obtain rfl : pc' = pc := hpc
  unfold q_fi at hf
  dsimp only at hf
  split at hf
  · rename_i b r hst
    obtain ⟨hlen, hst2⟩ := q_split hst
    split at hf
    · rename_i hsum
      cases hf
      refine ⟨fun v hv => ?_, fun v hv => by show v ∈ st; rw [hst2]; exact List.mem_append_right _ (List.mem_cons_of_mem _ hv), ?_⟩
      · show v ∈ st
        rcases List.mem_cons.mp hv with rfl | hv
        · rw [hst2]; exact List.mem_append_right _ List.mem_cons_self
        · exact List.mem_of_mem_take (List.mem_reverse.mp hv)
      intro p l e R s m args below meth c H locs cells slots mc ms rm Pc Qc XC free A ls D cA α he hb hm9 hown hts hgood hG hK hS9 hτ9 hM hrc hrs h1 h2 hbl hpre hk hn hP hsz
      have cw := cwI (R := R) (s := s) (args := args) (own := own) (index := idx) (y := (mt k).1) (bytes := (mt k).2.1) (maxL := (mt k).2.2.1) (Ts := WU) (ws := q_cw (mt k) :: WU) nA hts (q_good hgood hwc) (by rw [q_cw0 hh, hret]) hrc hrs (hts _ hwi) (hts _ hwl) (hts _ hws) hy1 hd (q_nR h1 h2 hml)
      refine vx_runI (nL := nL) (b := α b) (As := (st.take nA).reverse.map (q_v α)) ⟨he, hb, hm9, hown, hts⟩ hM cw ⟨hbl, hpre⟩ rfl (by rw [List.length_map, List.length_reverse]; exact hlen) hsz ?_ (lv_room (by rw [q_catsum]; exact hsum)) hdg ⟨hk, hn⟩
      show st.map (q_v α) = ((st.take nA).reverse.map (q_v α)).reverse ++ q_v α (.ref b) :: rest.map (q_v α)
      rw [← List.map_reverse, List.reverse_reverse, ← List.map_cons, ← List.map_append, ← hst2]
    · cases hf
  · cases hf
theorem q_callIN {k nA idx : Nat} {host : String} (hdg : decode cc pc = .ok (.invokespecial idx, 3)) (hx : nx = pc + 3) (hh : (mt k).2.2.2.2.1 = []) (hml : (mt k).2.2.1 ≤ 80) (hret : (mt k).2.2.2.1 = none) (hwl : ∀ A U H, GF A U H → va_Nw (.methodLinkNest own idx (mt k).1 host) U) (hws : Cond.instanceMethod (mt k).1 ∈ WU) (hwi : Cond.initialized (mt k).1.cls ∈ WU) (hwc : q_cw (mt k) ∈ WU) (hy1 : (mt k).1.name = "<init>")
    (hd : (mt k).1.cls ≠ "java/lang/invoke/MethodHandle" ∧ (mt k).1.cls ≠ "java/lang/invoke/VarHandle" ∧ (parseMethodDescriptor (mt k).1.desc).map (fun d => d.parameters.length) = some nA) : q_Cs WU cl tyl GF τ mt own cc nL pc nx (q_fi k nA) := by
  refine ⟨hx, ?_⟩
  intro g k' as rest hpc hf
  obtain ⟨pc', L, st, h⟩ := g
  obtain rfl : pc' = pc := hpc
  unfold q_fi at hf
  dsimp only at hf
  split at hf
  · rename_i b r hst
    obtain ⟨hlen, hst2⟩ := q_split hst
    split at hf
    · rename_i hsum
      cases hf
      refine ⟨fun v hv => ?_, fun v hv => by show v ∈ st; rw [hst2]; exact List.mem_append_right _ (List.mem_cons_of_mem _ hv), ?_⟩
      · show v ∈ st
        rcases List.mem_cons.mp hv with rfl | hv
        · rw [hst2]; exact List.mem_append_right _ List.mem_cons_self
        · exact List.mem_of_mem_take (List.mem_reverse.mp hv)
      intro p l e R s m args below meth c H locs cells slots mc ms rm Pc Qc XC free A ls D cA α he hb hm9 hown hts hgood hG hK hS9 hτ9 hM hrc hrs h1 h2 hbl hpre hk hn hP hsz
      have cw := va_cnB (R := R) (s := s) (args := args) (own := own) (host := host) (index := idx) (y := (mt k).1) (bytes := (mt k).2.1) (maxL := (mt k).2.2.1) (ret := none) (Ts := WU) (ws := q_cw (mt k) :: WU) nA hts (q_good hgood hwc) (by rw [q_cw0 hh, hret]) hrc hrs (hwl _ _ _ hG) (hts _ hwi) hd (q_nR h1 h2 hml)
      refine vx_runIN (nL := nL) (host := host) (b := α b) (As := (st.take nA).reverse.map (q_v α)) ⟨he, hb, hm9, hown, hts⟩ hM ⟨cw, hy1, hts _ hws⟩ ⟨hbl, hpre⟩ rfl (by rw [List.length_map, List.length_reverse]; exact hlen) hsz ?_ (lv_room (by rw [q_catsum]; exact hsum)) hdg ⟨hk, hn⟩
      show st.map (q_v α) = ((st.take nA).reverse.map (q_v α)).reverse ++ q_v α (.ref b) :: rest.map (q_v α)
      rw [← List.map_reverse, List.reverse_reverse, ← List.map_cons, ← List.map_append, ← hst2]
    · cases hf
  · cases hf
/-- Object() -/
def q_obj (nx : Nat) (g : q_G) : Option q_G := match g.2.2.1 with
  | .ref _ :: r => if (r.map fun v => v.category).sum ≤ 8 then some (nx, g.2.1, r, g.2.2.2) else none
  | _ => none
theorem q_objInit {mname : String} {idx : Nat} (hdg : decode cc pc = .ok (.invokespecial idx, 3)) (hx : nx = pc + 3) (hw1 : Cond.methodLink own idx objectInit ∈ WU) (hw2 : Cond.instanceMethod objectInit ∈ WU) (hw3 : Cond.code objectInit ⟨#[0xb1]⟩ 1 none ∈ WU) : q_J WU cl tyl GF τ own mname cc nL pc (q_obj nx) := by
  intro g g' hpc hf hg
  obtain ⟨pc', L, st, h⟩ := g
  obtain rfl : pc' = pc := hpc
  unfold q_obj at hf
  dsimp only at hf
  split at hf
  · rename_i a r
    split at hf
    · rename_i hsum
      cases hf
      refine ⟨⟨⟨hg.1, q_ok1 hg.2.1, hg.2.2⟩, Nat.le_refl _, Nat.le_refl _, Nat.le_refl _⟩, ?_⟩
      intro p l e R s m args below meth c Q D cA A k0 n0 α hC hR1 hR2 hτ hk' hn kk H locs ls cells slots hP hD hS hl ek en
      subst hx
      have hlocals : 2 * (F0 m pc' ls ((Value.ref a :: r).map (q_v α))).monitorRoom + ((r.map (q_v α)).map fun v => v.category).sum + 12 ≤ R.locals := by
        rw [q_catsum]
        have e9 : (F0 m pc' ls ((Value.ref a :: r).map (q_v α))).monitorRoom = 0 := rfl
        omega
      exact W.objInit hC.1 hC.2.1 hC.2.2.1 (hC.2.2.2.2.1 _ hw1) (hC.2.2.2.2.1 _ hw2) (hC.2.2.2.2.1 _ hw3) rfl (hl.1.trans hC.2.2.2.1.symm) rfl hdg (by omega) hlocals (W.eq rfl (kk α q_ag.rf H locs ls cells slots hP hD hS hl ek en))
    · cases hf
  · cases hf
end QR
