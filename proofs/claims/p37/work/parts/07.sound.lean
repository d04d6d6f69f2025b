/-! ===== a method that the small machine runs, the machine runs ===== -/
section QM
variable {WU : List Cond} {cl : List vw_C} {tyl : List FieldType} {GF : (Nat → Prop) → State → Heap → Prop} {τ : Nat → Nat} {mt : Nat → q_M} {l : Launch}
theorem q_args_l (α : Nat → Nat) (as : List Value) : ∀ i : Nat, lv_args i (as.map (q_v α)) = q_l α (lv_args i as) := by
  induction as with
  | nil => intro i; rfl
  | cons v vs ih =>
    intro i
    show (i, q_v α v) :: lv_args (if (q_v α v).category = 2 then i + 2 else i + 1) (vs.map (q_v α)) = (i, q_v α v) :: q_l α (lv_args (if v.category = 2 then i + 2 else i + 1) vs)
    rw [q_v_cat, ih]
theorem q_args_ok {L : Nat} (as : List Value) (h : ∀ v ∈ as, q_ok L v) : ∀ i : Nat, ∀ q ∈ lv_args i as, q_ok L q.2 := by
  induction as with
  | nil => intro i q hq; cases hq
  | cons v vs ih =>
    intro i q hq
    have hq : q ∈ (i, v) :: lv_args (if v.category = 2 then i + 2 else i + 1) vs := hq
    rcases List.mem_cons.mp hq with rfl | h1
    · exact h _ List.mem_cons_self
    · exact ih (fun w hw => h w (List.mem_cons_of_mem _ hw)) _ q h1
theorem q_wd_sl (α : Nat → Nat) (as : List Value) : (lg_sl (as.map (q_v α))).length = q_wd as := by
  induction as with
  | nil => rfl
  | cons v vs ih =>
    have e : lg_sl ((v :: vs).map (q_v α)) = (if (q_v α v).category = 2 then [Slot.val (q_v α v), .second] else [.val (q_v α v)]) ++ lg_sl (vs.map (q_v α)) := rfl
    rw [e, List.length_append, ih, q_v_cat]
    cases v <;> simp [Value.category, q_wd] <;> omega
theorem q_drop_l (α : Nat → Nat) (L : q_L) (i : Nat) : (q_l α L).filter (fun q => !(q.1 == i) && !(q.1 + 1 == i && q.2.category == 2)) = q_l α (q_drop L i) := by
  unfold q_drop q_l
  rw [List.filter_map]
  congr 2
  funext q
  show (_ : Bool) = _
  simp only [Function.comp, q_v_cat]
theorem q_blind {hGF : q_GFk GF} {D : va_G} {cA : Nat → ClassId} {α : Nat → Nat} {sz : Nat} {as : List Value} {h : q_H} : FrameBlind (q_Pc cl tyl GF D cA α sz as h) := by
  rintro a U g mk ⟨e0, e1, e2, e3, e4, e5⟩
  refine ⟨e0, e1, e2, va_K.moved (u := U) (U := U.calling g mk a) (Vm.Alike.refl U.vm) e3, e4, ?_⟩
  exact hGF _ _ U (U.calling g mk a) e5 (State.WarmedH.refl U) (fun _ h => h) (fun _ _ _ => rfl)
/-- what a step needs of the callees -/
def q_IH (WU : List Cond) (cl : List vw_C) (tyl : List FieldType) (GF : (Nat → Prop) → State → Heap → Prop) (τ : Nat → Nat) (mt : Nat → q_M) (l : Launch) (d : Nat) (ex : Nat → List Value → q_H → Option q_Out) : Prop :=
  ∀ (k : Nat) (as : List Value) (h : q_H) (out : q_Out), ex k as h = some out → (∀ v ∈ as, q_ok h.1.length v) → q_okh h.1 → q_oko h out ∧ q_Con WU cl tyl GF τ (mt k) l d as h out
theorem q_step_go {d k : Nat} {ex : Nat → List Value → q_H → Option q_Out} {tb : Nat → Option q_E} (hGF : q_GFk GF) (hgood : ∀ w ∈ WU, goodWord w = true) (hml : ∀ j, (mt j).2.2.1 ≤ 80) (hIH : q_IH WU cl tyl GF τ mt l d ex) (hs : ∀ pc x, tb pc = some x → q_Snd WU cl tyl GF τ mt (mt k) pc x)
    {g g' : q_G} (h : q_step ex tb g = some (.inl g')) (hg : q_okg g) : q_gr g g' ∧
      ∀ (p : Program) (e : Env) (R : Room) (s : State) (m : MethodId) (args : Array Value) (below : List Frame) (meth : Method) (c : Code) (Q : State → Prop) (D : va_G) (cA : Nat → ClassId) (A : Nat → Prop) (k0 n0 : Nat) (α : Nat → Nat),
        q_Ctx WU cl tyl GF (mt k).1.cls (mt k).1.name (mt k).2.1 (mt k).2.2.1 p l s m args meth c D cA A → c.exceptionTable.toList = tableOf (mt k).2.2.2.2.1 → d + 9 ≤ R.frames → 100 * d + 399 ≤ R.locals → (∀ a, a < 64 → α a = τ a) → g'.2.2.2.2.1 ≤ k0 + R.cells → g'.2.2.2.2.2 ≤ n0 + R.slots →
        (∀ β, q_ag α β g.2.2.2.1.length → q_W cl D cA A (mt k).2.2.1 p l e R s m args below meth c Q k0 n0 β g') → q_W cl D cA A (mt k).2.2.1 p l e R s m args below meth c Q k0 n0 α g := by
  unfold q_step at h
  split at h
  · cases h
  · rename_i f hx
    have hJ := hs _ _ hx
    split at h
    · cases h
    · rename_i g1 hf
      cases h
      obtain ⟨h1, h2⟩ := hJ g g' rfl hf hg
      exact ⟨h1, fun p e R s m args below meth c Q D cA A k0 n0 α hC _ hRf hRl => h2 p l e R s m args below meth c Q D cA A k0 n0 α hC (by omega) (by omega)⟩
  · rename_i f hx
    have hJ := hs _ _ hx
    split at h
    · cases h
    · rename_i g1 hf
      cases h
      obtain ⟨h1, h2⟩ := hJ g g' rfl hf hg
      exact ⟨h1, fun p e R s m args below meth c Q D cA A k0 n0 α hC _ hRf hRl => h2 p l e R s m args below meth c Q D cA A k0 n0 α hC (by omega) (by omega)⟩
  · split at h <;> cases h
  · split at h <;> cases h
  · rename_i nx f hd hx
    have hJ := hs _ _ hx
    obtain ⟨hCs, hH⟩ := hJ
    obtain ⟨pc, L, st, hp⟩ := g
    split at h
    · cases h
    · rename_i j as rest hf
      obtain ⟨hnx, hCs⟩ := hCs
      obtain ⟨ha, hr, hrun⟩ := hCs _ j as rest rfl hf
      have hoa : ∀ v ∈ as, q_ok hp.1.length v := fun v hv => hg.2.1 v (ha v hv)
      have hor : ∀ v ∈ rest, q_ok hp.1.length v := fun v hv => hg.2.1 v (hr v hv)
      dsimp only at h
      -- the run, common to both ends
      have key : ∀ (out : q_Out), ex j as hp = some out → q_oko hp out ∧
          ∀ (p : Program) (e : Env) (R : Room) (s : State) (m : MethodId) (args : Array Value) (below : List Frame) (meth : Method) (c : Code) (D : va_G) (cA : Nat → ClassId) (A : Nat → Prop) (α : Nat → Nat) (H : Heap) (locs : List Loc) (ls : Array Slot) (cells slots : Nat),
            q_Ctx WU cl tyl GF (mt k).1.cls (mt k).1.name (mt k).2.1 (mt k).2.2.1 p l s m args meth c D cA A → d + 9 ≤ R.frames → 100 * d + 399 ≤ R.locals → (∀ a, a < 64 → α a = τ a) → cells + (out.2.2.1 - hp.2.1) ≤ R.cells → slots + (out.2.2.2 - hp.2.2) ≤ R.slots → va_P D cl (q_w cA α hp.1) H → va_D A (q_w cA α hp.1) → va_S A s.heap H locs → ls.size = (mt k).2.2.1 →
            (∀ q, va_A (q_w cA α hp.1) H.size q → A q) ∧ vx_Run p l e R s m args below meth c H locs cells slots (out.2.2.1 - hp.2.1) (out.2.2.2 - hp.2.2) (F0 m pc ls (st.map (q_v α))) (rest.map (q_v α)) (q_Qc cl D cA α H.size hp out (as.map (q_v α)).toArray) (q_XC cl D cA α H.size hp out) (va_A (q_w cA α hp.1) H.size) := by
        intro out ho
        obtain ⟨o1, o2⟩ := hIH j as hp out ho hoa hg.2.2
        refine ⟨o1, ?_⟩
        intro p e R s m args below meth c D cA A α H locs ls cells slots hC hRf hRl hτ hk hn hP hD hS hsz
        have hfree : ∀ q, va_A (q_w cA α hp.1) H.size q → A q := by
          intro q hq
          rcases hq with ⟨i, x, hi⟩ | hq
          · exact hD.2 i _ hi
          · exact hC.2.2.2.2.2.2.1 q (Nat.le_trans hS.1 hq)
        have hM := o2 D cA α H.size hτ
        have f1 : (q_rm d (out.2.2.1 - hp.2.1) (out.2.2.2 - hp.2.2)).frames + 1 ≤ R.frames := by
          have e9 : (q_rm d (out.2.2.1 - hp.2.1) (out.2.2.2 - hp.2.2)).frames = d + 8 := rfl
          omega
        have f2 : 99 + (q_rm d (out.2.2.1 - hp.2.1) (out.2.2.2 - hp.2.2)).locals ≤ R.locals := by
          have e9 : (q_rm d (out.2.2.1 - hp.2.1) (out.2.2.2 - hp.2.2)).locals = 100 * d + 300 := rfl
          omega
        have hbl : FrameBlind (q_Pc cl tyl GF D cA α H.size as hp) := q_blind (hGF := hGF)
        refine ⟨hfree, hrun α hC.1 hC.2.1 hC.2.2.2.1 hC.2.2.1 hC.2.2.2.2.1 hgood hC.2.2.2.2.2.2.2.1 hC.2.2.2.2.2.1 hS hτ hM rfl rfl f1 f2 hbl ?_ hk hn hP hsz⟩
        intro U hU hW
        refine ⟨rfl, by rw [hU], by rw [hU]; exact hP, va_K.moved hW.alike hC.2.2.2.2.2.1, hD.weaken (fun _ _ _ _ => trivial), ?_⟩
        exact hGF A _ s U hC.2.2.2.2.2.2.2.1 hW hfree (fun a h1 h2 => by rw [hU]; exact hS.2.1 a h1 h2)
      split at h
      · cases h
      · rename_i v h1 ho
        cases h
        obtain ⟨⟨o1, o2, o3, o4, o5⟩, key⟩ := key _ ho
        have hov : ∀ w ∈ v.toList ++ rest, q_ok h1.1.length w := by
          intro w hw
          rcases List.mem_append.mp hw with q | q
          · cases v with
            | none => cases q
            | some u => rw [List.mem_singleton.mp q]; exact o1 u rfl
          · exact (hor w q).le o3
        refine ⟨⟨⟨fun q hq => (hg.1 q hq).le o3, hov, o2⟩, o3, o4, o5⟩, ?_⟩
        intro p e R s m args below meth c Q D cA A k0 n0 α hC hT hRf hRl hτ hk hn kk H locs ls cells slots hP hD hS hl ek en
        have ek : k0 + cells = hp.2.1 := ek
        have en : n0 + slots = hp.2.2 := en
        have hk : h1.2.1 ≤ k0 + R.cells := hk
        have hn : h1.2.2 ≤ n0 + R.slots := hn
        have o4 : hp.2.1 ≤ h1.2.1 := o4
        have o5 : hp.2.2 ≤ h1.2.2 := o5
        obtain ⟨hfree, hr⟩ := key p e R s m args below meth c D cA A α H locs ls cells slots hC hRf hRl hτ (by show cells + (h1.2.1 - hp.2.1) ≤ _; omega) (by show slots + (h1.2.2 - hp.2.2) ≤ _; omega) hP hD hS hl.1
        intro T hT9 X
        rcases hr T hT9 X with ⟨w, st₀, t, T', Ls, e0, X', hL, e1, e2, hq, st9⟩ | ⟨q9, st₀, t, T', Ls, E, ce, e0, X', hL, e1, e2, hq, -⟩
        · obtain ⟨⟨β, hag, hv, hP1, hD1⟩, hF⟩ := hq
          cases hv
          obtain ⟨z1, z2, z3⟩ := vx_keep e0 e1 hS (fun q _ hq => hfree q hq) hfree hL hF
          rw [← e1] at hP1
          have k2 := kk β hag T'.heap (locs ++ Ls) ls (cells + (h1.2.1 - hp.2.1)) (slots + (h1.2.2 - hp.2.2)) hP1 (hD1.weaken fun _ _ _ hq => hfree _ hq) z3 (by rw [q_l_ag hag hg.1]; exact hl) (by show k0 + _ = h1.2.1; omega) (by show n0 + _ = h1.2.2; omega)
          dsimp only at k2
          rw [List.map_append, q_vs_ag hag hor, show (v.toList.map (q_v β)) = (v.map (q_v β)).toList by cases v <;> rfl] at k2
          obtain ⟨t2, a1, b1⟩ := k2 T' rfl X'
          refine ⟨t2, st9 t2 ?_, b1⟩
          subst hnx
          exact a1
        · exact absurd hq (fun h => h)
      · rename_i E h1 ho
        cases hd with
        | none => cases h
        | some hf' =>
          dsimp only at h
          split at h
          · cases h
          · rename_i tg i etg
            cases h
            obtain ⟨⟨o1, o2, o3, o4, o5⟩, key⟩ := key _ ho
            have hH : q_Hd WU GF (mt k) (mt k).1.cls (mt k).2.2.1 pc hf' := hH
            refine ⟨⟨⟨fun q hq => (hg.1 q (List.mem_filter.mp hq).1).le o3, fun w hw => (by cases hw), o2⟩, o3, o4, o5⟩, ?_⟩
            intro p e R s m args below meth c Q D cA A k0 n0 α hC hT hRf hRl hτ hk hn kk H locs ls cells slots hP hD hS hl ek en
            have ek : k0 + cells = hp.2.1 := ek
            have en : n0 + slots = hp.2.2 := en
            have hk : h1.2.1 ≤ k0 + R.cells := hk
            have hn : h1.2.2 ≤ n0 + R.slots := hn
            have o4 : hp.2.1 ≤ h1.2.1 := o4
            have o5 : hp.2.2 ≤ h1.2.2 := o5
            obtain ⟨hfree, hr⟩ := key p e R s m args below meth c D cA A α H locs ls cells slots hC hRf hRl hτ (by show cells + (h1.2.1 - hp.2.1) ≤ _; omega) (by show slots + (h1.2.2 - hp.2.2) ≤ _; omega) hP hD hS hl.1
            intro T hT9 X
            rcases hr T hT9 X with ⟨w, st₀, t, T', Ls, e0, X', hL, e1, e2, hq, st9⟩ | ⟨q9, st₀, t, T', Ls, E', ce, e0, X', hL, e1, e2, hq, hce, hcv, hcl, st9⟩
            · exact absurd hq (fun h => h)
            · obtain ⟨eE, ⟨β, hag, hP1, hD1⟩, hF⟩ := hq
              subst eE
              obtain ⟨z1, z2, z3⟩ := vx_keep e0 e1 hS (fun q _ hq => hfree q hq) hfree hL hF
              rw [← e1] at hP1 hce
              have k3 := hH E' tg i etg (p := p) (l := l) (e := e) (R := R) (s := s) (m := m) (args := args) (below := below) (meth := meth) (c := c) (H := T'.heap) (locs := locs ++ Ls) (cells := cells + (h1.2.1 - hp.2.1)) (slots := slots + (h1.2.2 - hp.2.2)) (Q := Q) (A := A) (ls := ls) (rest := rest.map (q_v α)) (q_l α L) hC.1 hC.2.1 hC.2.2.1 hC.2.2.2.2.1 hC.2.2.2.2.2.2.2.1 hT hl hce hcv hcl (fun ls' hl' => by
                rw [q_drop_l] at hl'
                have hL9 : ∀ q ∈ q_drop L i, q_ok hp.1.length q.2 := fun q hq => hg.1 q (List.mem_filter.mp hq).1
                exact kk β hag T'.heap (locs ++ Ls) ls' (cells + (h1.2.1 - hp.2.1)) (slots + (h1.2.2 - hp.2.2)) hP1 (hD1.weaken fun _ _ _ hq => hfree _ hq) z3 (by show lv_has ls' _ (q_l β (q_drop L i)); rw [q_l_ag hag hL9]; exact hl') (by show k0 + _ = h1.2.1; omega) (by show n0 + _ = h1.2.2; omega))
              obtain ⟨t2, a1, b1⟩ := k3 T' rfl X'
              exact ⟨t2, st9.trans a1, b1⟩
end QM
