/-! ===== the ends of a method; the whole of it ===== -/
section QN
variable {WU : List Cond} {cl : List vw_C} {tyl : List FieldType} {GF : (Nat → Prop) → State → Heap → Prop} {τ : Nat → Nat} {mt : Nat → q_M} {l : Launch}
theorem q_step_end {d k : Nat} {ex : Nat → List Value → q_H → Option q_Out} {tb : Nat → Option q_E} (hlt : l.stackTraces = false) (hGF : q_GFk GF) (hgood : ∀ w ∈ WU, goodWord w = true) (hml : ∀ j, (mt j).2.2.1 ≤ 80) (hIH : q_IH WU cl tyl GF τ mt l d ex) (hs : ∀ pc x, tb pc = some x → q_Snd WU cl tyl GF τ mt (mt k) pc x)
    {g : q_G} {out : q_Out} (h : q_step ex tb g = some (.inr out)) (hg : q_okg g) : q_oko g.2.2.2 out ∧
      ∀ (p : Program) (e : Env) (R : Room) (s : State) (m : MethodId) (args : Array Value) (below : List Frame) (meth : Method) (c : Code) (D : va_G) (cA : Nat → ClassId) (A : Nat → Prop) (k0 n0 : Nat) (α α0 : Nat → Nat) (h0 : q_H),
        q_Ctx WU cl tyl GF (mt k).1.cls (mt k).1.name (mt k).2.1 (mt k).2.2.1 p l s m args meth c D cA A → meth.sig.returnType = (mt k).2.2.2.1 → c.exceptionTable.toList = tableOf (mt k).2.2.2.2.1 → d + 9 ≤ R.frames → 100 * d + 399 ≤ R.locals → (∀ a, a < 64 → α a = τ a) → A = va_A (q_w cA α0 h0.1) s.heap.size → q_ag α0 α h0.1.length → h0.1.length ≤ g.2.2.2.1.length → out.2.2.1 ≤ k0 + R.cells → out.2.2.2 ≤ n0 + R.slots →
        q_W cl D cA A (mt k).2.2.1 p l e R s m args below meth c (vx_MQ below (q_Qc cl D cA α0 s.heap.size h0 out) (q_XC cl D cA α0 s.heap.size h0 out) args s (out.2.2.1 - k0) (out.2.2.2 - n0) A) k0 n0 α g := by
  unfold q_step at h
  split at h
  · cases h
  · split at h <;> cases h
  · split at h <;> cases h
  · rename_i f hx
    have hR : q_Re (mt k) g.1 f := hs _ _ hx
    split at h
    · cases h
    · rename_i v hf
      cases h
      obtain ⟨h1, h2⟩ := hR g v rfl hf
      refine ⟨⟨fun w hw => ?_, hg.2.2, Nat.le_refl _, Nat.le_refl _, Nat.le_refl _⟩, ?_⟩
      · cases hw
        exact hg.2.1 w (h1 w rfl)
      intro p e R s m args below meth c D cA A k0 n0 α α0 h0 hC hret hT hRf hRl hτ hA hag hle hk hn H locs ls cells slots hP hD hS hl ek en
      have e1 : g.2.2.2.2.1 - k0 = cells := by omega
      have e2 : g.2.2.2.2.2 - n0 = slots := by omega
      show W p l e R s m args below meth c H locs cells slots (vx_MQ below _ _ args s (g.2.2.2.2.1 - k0) (g.2.2.2.2.2 - n0) A) _
      rw [e1, e2]
      refine vx_ret ?_
      refine h2 α hC.1 hC.2.1 hret hC.2.2.2.2.2.2.2.2.2.1 (fun t ht hW => ?_) hS.2.2
      refine ⟨⟨α, hag, rfl, by rw [ht]; exact hP, by rw [← hA]; exact hD⟩, ?_⟩
      rw [← hA]
      exact hS.F ht
  · rename_i f hx
    have hR : (mt k).2.2.2.2.1 = [] ∧ q_Th WU GF (mt k).1.cls (mt k).2.1 (mt k).2.2.1 g.1 f := hs _ _ hx
    obtain ⟨hR0, hR⟩ := hR
    split at h
    · cases h
    · rename_i E hf
      cases h
      refine ⟨⟨fun w hw => (by cases hw), hg.2.2, Nat.le_refl _, Nat.le_succ _, Nat.le_add_right _ _⟩, ?_⟩
      intro p e R s m args below meth c D cA A k0 n0 α α0 h0 hC hret hT hRf hRl hτ hA hag hle hk hn H locs ls cells slots hP hD hS hl ek en
      have hk : g.2.2.2.2.1 + 1 ≤ k0 + R.cells := hk
      have hn : g.2.2.2.2.2 + 6 ≤ n0 + R.slots := hn
      have hT2 : ∀ x ∈ c.exceptionTable.toList, False := by
        intro x hx9
        rw [hT, hR0] at hx9
        cases hx9
      refine hR g E rfl hf (A := A) α hC.1 hC.2.1 hC.2.2.2.2.2.2.2.2.1 hC.2.2.1 hC.2.2.2.2.1 hC.2.2.2.2.2.2.2.1 hC.2.2.2.2.2.2.2.2.2.1 hT2 hC.2.2.2.1 hl.1 hS (by omega) (by omega) (by omega) (by omega) (fun t hvm hz hq => ?_) hS.2.2 (by show _ ≤ g.2.2.2.2.1 + 1 - k0; omega) (by show _ ≤ g.2.2.2.2.2 + 6 - n0; omega)
      refine ⟨rfl, ⟨α, hag, hP.kept (fun i q hi => hq q.1 ((hP i q hi).lt)), by rw [← hA]; exact hD⟩, ?_⟩
      rw [← hA]
      exact ⟨Nat.le_trans hS.1 hz, fun q h1 h2 => (hq q (Nat.lt_of_lt_of_le h1 hS.1)).trans (hS.2.1 q h1 h2)⟩
  · rename_i nx f hd hx
    have hJ := hs _ _ hx
    obtain ⟨hCs, hH⟩ := hJ
    obtain ⟨pc, L, st, hp⟩ := g
    split at h
    · cases h
    · rename_i j as rest hf
      obtain ⟨hnx, hCs⟩ := hCs
      obtain ⟨ha, hr, hrun⟩ := hCs _ j as rest rfl hf
      have hoa : ∀ v ∈ as, q_ok hp.1.length v := fun v hv => hg.2.1 v (ha v hv)
      dsimp only at h
      split at h
      · cases h
      · cases h
      · rename_i E h1 ho
        cases hd with
        | some hf' =>
          dsimp only at h
          split at h <;> cases h
        | none =>
          cases h
          have hH : (mt k).2.2.2.2.1 = [] := hH
          obtain ⟨⟨o1, o2, o3, o4, o5⟩, ocon⟩ := hIH j as hp _ ho hoa hg.2.2
          refine ⟨⟨o1, o2, o3, o4, o5⟩, ?_⟩
          intro p e R s m args below meth c D cA A k0 n0 α α0 h0 hC hret hT hRf hRl hτ hA hag hle hk hn H locs ls cells slots hP hD hS hl ek en
          have ek : k0 + cells = hp.2.1 := ek
          have en : n0 + slots = hp.2.2 := en
          have hk : h1.2.1 ≤ k0 + R.cells := hk
          have hn : h1.2.2 ≤ n0 + R.slots := hn
          have o4 : hp.2.1 ≤ h1.2.1 := o4
          have o5 : hp.2.2 ≤ h1.2.2 := o5
          have hfree : ∀ q, va_A (q_w cA α hp.1) H.size q → A q := by
            intro q hq
            rcases hq with ⟨i, x, hi⟩ | hq
            · exact hD.2 i _ hi
            · exact hC.2.2.2.2.2.2.1 q (Nat.le_trans hS.1 hq)
          have hM := ocon D cA α H.size hτ
          have f1 : (q_rm d (h1.2.1 - hp.2.1) (h1.2.2 - hp.2.2)).frames + 1 ≤ R.frames := by
            have e9 : (q_rm d (h1.2.1 - hp.2.1) (h1.2.2 - hp.2.2)).frames = d + 8 := rfl
            omega
          have f2 : 99 + (q_rm d (h1.2.1 - hp.2.1) (h1.2.2 - hp.2.2)).locals ≤ R.locals := by
            have e9 : (q_rm d (h1.2.1 - hp.2.1) (h1.2.2 - hp.2.2)).locals = 100 * d + 300 := rfl
            omega
          have hbl : FrameBlind (q_Pc cl tyl GF D cA α H.size as hp) := q_blind (hGF := hGF)
          have hr9 := hrun α hC.1 hC.2.1 hC.2.2.2.1 hC.2.2.1 hC.2.2.2.2.1 hgood hC.2.2.2.2.2.2.2.1 hC.2.2.2.2.2.1 hS hτ hM rfl rfl f1 f2 hbl (fun U hU hW => ⟨rfl, by rw [hU], by rw [hU]; exact hP, va_K.moved hW.alike hC.2.2.2.2.2.1, hD.weaken (fun _ _ _ _ => trivial), hGF A _ s U hC.2.2.2.2.2.2.2.1 hW hfree (fun a h1 h2 => by rw [hU]; exact hS.2.1 a h1 h2)⟩) (locs := locs) (e := e) (below := below) (meth := meth) (cells := cells) (slots := slots) (by omega) (by omega) hP hl.1
          have hT2 : ∀ x ∈ c.exceptionTable.toList, covers x pc = false := by
            intro x hx9
            rw [hT, hH] at hx9
            cases hx9
          intro T hT9 X
          rcases hr9 T hT9 X with ⟨w, st₀, t, T', Ls, e0, X', hL, e1, e2, hq, st9⟩ | ⟨q9, st₀, t, T', Ls, E', ce, e0, X', hL, e1, e2, hq, hce, hcv, hcl, st9⟩
          · exact absurd hq (fun h => h)
          · obtain ⟨eE, ⟨β, hag2, hP1, hD1⟩, hF⟩ := hq
            subst eE
            obtain ⟨z1, z2, z3⟩ := vx_keep e0 e1 hS (fun q _ hq => hfree q hq) hfree hL hF
            rw [← e1] at hP1 hce
            have hag3 : q_ag α0 β h0.1.length := hag.tr hag2 hle
            have k3 : vx_W p l e R s m args below meth c T'.heap (locs ++ Ls) (cells + (h1.2.1 - hp.2.1)) (slots + (h1.2.2 - hp.2.2)) (vx_MQ below (q_Qc cl D cA α0 s.heap.size h0 (.inr E', h1)) (q_XC cl D cA α0 s.heap.size h0 (.inr E', h1)) args s (h1.2.1 - k0) (h1.2.2 - n0) A) (F0 m pc ls (rest.map (q_v α))) q9 :=
              vx_out hT2 hC.2.2.2.2.2.2.2.2.2.1 hce hcv hcl (fun t9 ht9 hvm9 => ⟨rfl, ⟨β, hag3, by rw [ht9]; exact hP1, by rw [← hA]; exact hD1.weaken fun _ _ _ hq => hfree _ hq⟩, by rw [← hA]; exact z3.F ht9⟩) z3.2.2 (by omega) (by omega)
            obtain ⟨t2, a1, b1⟩ := k3 T' rfl X'
            exact ⟨t2, st9.trans a1, b1⟩
theorem q_loop_W {d k : Nat} {ex : Nat → List Value → q_H → Option q_Out} {tb : Nat → Option q_E} (hlt : l.stackTraces = false) (hGF : q_GFk GF) (hgood : ∀ w ∈ WU, goodWord w = true) (hml : ∀ j, (mt j).2.2.1 ≤ 80) (hIH : q_IH WU cl tyl GF τ mt l d ex) (hs : ∀ pc x, tb pc = some x → q_Snd WU cl tyl GF τ mt (mt k) pc x) :
    ∀ (n : Nat) (g : q_G) (out : q_Out), q_loop ex tb n g = some out → q_okg g → q_oko g.2.2.2 out ∧
      ∀ (p : Program) (e : Env) (R : Room) (s : State) (m : MethodId) (args : Array Value) (below : List Frame) (meth : Method) (c : Code) (D : va_G) (cA : Nat → ClassId) (A : Nat → Prop) (k0 n0 : Nat) (α α0 : Nat → Nat) (h0 : q_H),
        q_Ctx WU cl tyl GF (mt k).1.cls (mt k).1.name (mt k).2.1 (mt k).2.2.1 p l s m args meth c D cA A → meth.sig.returnType = (mt k).2.2.2.1 → c.exceptionTable.toList = tableOf (mt k).2.2.2.2.1 → d + 9 ≤ R.frames → 100 * d + 399 ≤ R.locals → (∀ a, a < 64 → α a = τ a) → A = va_A (q_w cA α0 h0.1) s.heap.size → q_ag α0 α h0.1.length → h0.1.length ≤ g.2.2.2.1.length → out.2.2.1 ≤ k0 + R.cells → out.2.2.2 ≤ n0 + R.slots →
        q_W cl D cA A (mt k).2.2.1 p l e R s m args below meth c (vx_MQ below (q_Qc cl D cA α0 s.heap.size h0 out) (q_XC cl D cA α0 s.heap.size h0 out) args s (out.2.2.1 - k0) (out.2.2.2 - n0) A) k0 n0 α g := by
  intro n
  induction n with
  | zero => intro g out h; rw [q_loop_0] at h; cases h
  | succ n ih =>
    intro g out h hg
    rw [q_loop_s] at h
    cases hst : q_step ex tb g with
    | none => rw [hst] at h; cases h
    | some r =>
      rw [hst] at h
      cases r with
      | inr o =>
        cases h
        exact q_step_end hlt hGF hgood hml hIH hs hst hg
      | inl g' =>
        obtain ⟨⟨g1, g2, g3, g4⟩, hgo⟩ := q_step_go hGF hgood hml hIH hs hst hg
        obtain ⟨⟨o1, o2, o3, o4, o5⟩, hrest⟩ := ih g' out h g1
        refine ⟨⟨o1, o2, Nat.le_trans g2 o3, Nat.le_trans g3 o4, Nat.le_trans g4 o5⟩, ?_⟩
        intro p e R s m args below meth c D cA A k0 n0 α α0 h0 hC hret hT hRf hRl hτ hA hag hle hk hn
        refine hgo p e R s m args below meth c _ D cA A k0 n0 α hC hT hRf hRl hτ (Nat.le_trans o4 hk) (Nat.le_trans o5 hn) (fun β hβ => ?_)
        exact hrest p e R s m args below meth c D cA A k0 n0 β α0 h0 hC hret hT hRf hRl (fun a ha => (hβ a (Nat.lt_of_lt_of_le ha (Nat.le_add_right _ _))).trans (hτ a ha)) hA (hag.tr hβ hle) (Nat.le_trans hle g2) hk hn
theorem q_sound {mtab : Nat → Nat → Option q_E} (hlt : l.stackTraces = false) (hGF : q_GFk GF) (hgood : ∀ w ∈ WU, goodWord w = true) (hml : ∀ j, (mt j).2.2.1 ≤ 80) (hpl : ∀ j, plainName (mt j).1.cls = true) (hs : ∀ k pc x, mtab k pc = some x → q_Snd WU cl tyl GF τ mt (mt k) pc x) (n : Nat) :
    ∀ d, q_IH WU cl tyl GF τ mt l d (q_exec mt mtab n d) := by
  intro d
  induction d with
  | zero => intro k as h out e; cases e
  | succ d ih =>
    intro k as h out e hoa hh
    have hw := q_exec_w e
    rw [q_exec_s hw] at e
    have hg0 : q_okg (0, lv_args 0 as, [], h) := ⟨q_args_ok as hoa 0, fun v hv => (by cases hv), hh⟩
    obtain ⟨⟨o1, o2, o3, o4, o5⟩, hW⟩ := q_loop_W (d := d) (k := k) hlt hGF hgood hml ih (hs k) n _ out e hg0
    refine ⟨⟨o1, o2, o3, o4, o5⟩, ?_⟩
    intro D cA α sz hτ
    have o4 : h.2.1 ≤ out.2.2.1 := o4
    have o5 : h.2.2 ≤ out.2.2.2 := o5
    -- the body, common to methods with and without a table
    have body : ∀ (p : Program) (e : Env) (s : State) (m : MethodId) (args : Array Value) (below : List Frame) (meth : Method) (c : Code) (s₁ : State), BodyLoose p l (mt k).1 (headSpec (q_cw (mt k) :: WU) (q_rm (d + 1) (out.2.2.1 - h.2.1) (out.2.2.2 - h.2.2))) (mt k).2.1 (mt k).2.2.1 (mt k).2.2.2.1 e s m args below meth c s₁ → c.maxLocals = (mt k).2.2.1 → c.exceptionTable.toList = tableOf (mt k).2.2.2.2.1 → q_Pc cl tyl GF D cA α sz as h args s →
        W p l e (headSpec (q_cw (mt k) :: WU) (q_rm (d + 1) (out.2.2.1 - h.2.1) (out.2.2.2 - h.2.2))).room s m args below meth c s.heap [] 0 0 (vx_MQ below (q_Qc cl D cA α sz h out) (q_XC cl D cA α sz h out) args s (out.2.2.1 - h.2.1) (out.2.2.2 - h.2.2) (va_A (q_w cA α h.1) sz)) (entryFrame m args (mt k).2.2.1) := by
      rintro p e s m args below meth c s₁ B hml9 hT ⟨rfl, hsz, hP, hK, hD0, hG⟩
      subst hsz
      have hts : ∀ w ∈ q_cw (mt k) :: WU, w.before _ s = true := atoms_spec (ws := q_cw (mt k) :: WU) B.pre
      have hD : va_D (va_A (q_w cA α h.1) s.heap.size) (q_w cA α h.1) := hD0.self (sz := s.heap.size)
      have hA : ∀ q : Nat, s.heap.size ≤ q → va_A (q_w cA α h.1) s.heap.size q := fun q hq => Or.inr hq
      have hS : va_S (va_A (q_w cA α h.1) s.heap.size) s.heap s.heap [] := va_S.rf
      have hl := lv_entry (as.map (q_v α)) (n := (mt k).2.2.1) (by rw [q_wd_sl]; exact hw)
      rw [lg_entry_eq]
      rw [q_args_l] at hl
      have hC : q_Ctx WU cl tyl GF (mt k).1.cls (mt k).1.name (mt k).2.1 (mt k).2.2.1 p l s m (as.map (q_v α)).toArray meth c D cA (va_A (q_w cA α h.1) s.heap.size) :=
        ⟨B.exec, B.bytes, findClass_of_methodNamed B.named, hml9, fun w hw => hts w (List.mem_cons_of_mem _ hw), hK, hA, hG, hlt, B.notSynchronized, (name_of_methodNamed B.named B.method).1⟩
      have e1 : (headSpec (q_cw (mt k) :: WU) (q_rm (d + 1) (out.2.2.1 - h.2.1) (out.2.2.2 - h.2.2))).room = q_rm (d + 1) (out.2.2.1 - h.2.1) (out.2.2.2 - h.2.2) := rfl
      rw [e1]
      have hR1 : d + 9 ≤ (q_rm (d + 1) (out.2.2.1 - h.2.1) (out.2.2.2 - h.2.2)).frames := by
        have e9 : (q_rm (d + 1) (out.2.2.1 - h.2.1) (out.2.2.2 - h.2.2)).frames = d + 1 + 8 := rfl
        omega
      have hR2 : 100 * d + 399 ≤ (q_rm (d + 1) (out.2.2.1 - h.2.1) (out.2.2.2 - h.2.2)).locals := by
        have e9 : (q_rm (d + 1) (out.2.2.1 - h.2.1) (out.2.2.2 - h.2.2)).locals = 100 * (d + 1) + 300 := rfl
        omega
      have hR3 : out.2.2.1 ≤ h.2.1 + (q_rm (d + 1) (out.2.2.1 - h.2.1) (out.2.2.2 - h.2.2)).cells := by
        have e9 : (q_rm (d + 1) (out.2.2.1 - h.2.1) (out.2.2.2 - h.2.2)).cells = out.2.2.1 - h.2.1 := rfl
        omega
      have hR4 : out.2.2.2 ≤ h.2.2 + (q_rm (d + 1) (out.2.2.1 - h.2.1) (out.2.2.2 - h.2.2)).slots := by
        have e9 : (q_rm (d + 1) (out.2.2.1 - h.2.1) (out.2.2.2 - h.2.2)).slots = out.2.2.2 - h.2.2 := rfl
        omega
      exact hW p e _ s m _ below meth c D cA _ h.2.1 h.2.2 α α h hC B.returns hT hR1 hR2 hτ rfl q_ag.rf (Nat.le_refl _) hR3 hR4 s.heap [] _ 0 0 hP hD hS hl rfl rfl
    show vx_Met l (mt k).1 (q_cw (mt k) :: WU) _ _ _ _ _ _ _
    cases hh9 : (mt k).2.2.2.2.1 with
    | nil =>
      have ecw : q_cw (mt k) = .code (mt k).1 (mt k).2.1 (mt k).2.2.1 (mt k).2.2.2.1 := by
        unfold q_cw
        rw [hh9]
      refine vx_ofW (cc := (mt k).2.1) (maxL := (mt k).2.2.1) (ret := (mt k).2.2.2.1) (hpl k) (by rw [ecw]) ?_
      intro p e s m args below meth c s₁ B hml9 hx9 hPc
      refine body p e s m args below meth c s₁ B hml9 ?_ hPc
      rw [hh9]
      exact List.eq_nil_iff_forall_not_mem.mpr hx9
    | cons x9 r9 =>
      have ecw : q_cw (mt k) = .codeWith (mt k).1 (mt k).2.1 (mt k).2.2.1 (mt k).2.2.2.1 (x9 :: r9) := by
        unfold q_cw
        rw [hh9]
      refine vx_ofWH (cc := (mt k).2.1) (maxL := (mt k).2.2.1) (ret := (mt k).2.2.2.1) (hh := x9 :: r9) (hpl k) (by rw [ecw]) ?_
      intro p e s m args below meth c s₁ B hml9 hPc
      refine body p e s m args below meth c s₁ B hml9 ?_ hPc
      rw [hh9]
      have hts : ∀ w ∈ q_cw (mt k) :: WU, w.before args s = true := atoms_spec (ws := q_cw (mt k) :: WU) B.pre
      have h9 := hts _ List.mem_cons_self
      rw [ecw] at h9
      exact vx_table (x := (mt k).1) B h9
end QN
