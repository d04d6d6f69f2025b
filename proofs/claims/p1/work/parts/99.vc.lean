section
variable {s t y r : q_S} {c d u : Int} {g g2 : (Nat → Int32) × (Nat → Int32)} {e : Bool}
theorem q_moI {a b : Int32} (ha : q_rgz 0 31 a) (hb : q_rgz 0 31 b) : (q_mo a b).toInt = 24 * (b.toInt + 4) + (a.toInt / 2 + 4) := by
  obtain ⟨a0, a1⟩ := ha
  obtain ⟨b0, b1⟩ := hb
  have eb : (b + 4).toInt = b.toInt + 4 := q_addI ⟨by omega, by omega⟩ ⟨by decide, by decide⟩
  have e24 : (24 * (b + 4)).toInt = 24 * (b + 4).toInt := q_mulI (n := 24) rfl (by decide) (by decide) ⟨by omega, by omega⟩
  have ea : (a / 2).toInt = a.toInt / 2 := q_toInt_div (by omega) (by decide)
  have ea4 : (a / 2 + 4).toInt = (a / 2).toInt + 4 := q_addI ⟨by omega, by omega⟩ ⟨by decide, by decide⟩
  have et : ((24 * (b + 4)) + ((a / 2) + 4)).toInt = (24 * (b + 4)).toInt + ((a / 2) + 4).toInt := q_addI ⟨by omega, by omega⟩ ⟨by omega, by omega⟩
  show ((24 * (b + 4)) + ((a / 2) + 4)).toInt = _
  omega
theorem q_ixI {a b : Int32} (ha : q_rgz 0 31 a) (hb : q_rgz 0 31 b) : ((32 * b) + a).toNatClampNeg = (32 * b.toInt + a.toInt).toNat ∧ (((32 * b) + a) &&& 1023).toNatClampNeg = (32 * b.toInt + a.toInt).toNat := by
  obtain ⟨a0, a1⟩ := ha
  obtain ⟨b0, b1⟩ := hb
  have e32 : (32 * b).toInt = 32 * b.toInt := q_mulI (n := 32) rfl (by decide) (by decide) ⟨by omega, by omega⟩
  have es : ((32 * b) + a).toInt = (32 * b).toInt + a.toInt := q_addI ⟨by omega, by omega⟩ ⟨by omega, by omega⟩
  have em : (((32 * b) + a) &&& 1023).toInt = ((32 * b) + a).toInt % 2 ^ 10 := q_andI 10 (by decide) (l := 0) (u := 1023) ⟨by omega, by omega⟩ (by decide) (show (1023 : Int32).toInt = 2 ^ 10 - 1 by decide)
  constructor
  · show ((32 * b) + a).toInt.toNat = _
    omega
  · show (((32 * b) + a) &&& 1023).toInt.toNat = _
    omega
/-- all but row 31, the flags and the hits -/
def q_si (s t : q_S) : Prop := t.2 = s.2 ∧ (∀ i, (Nat.beq i 4 || Nat.beq i 31) = false → t.1 i = s.1 i) ∧ ∀ k, q_Dn k → t.1 4 k = s.1 4 k
theorem q_si_r (s : q_S) : q_si s s := ⟨rfl, fun _ _ => rfl, fun _ _ => rfl⟩
theorem q_si.trans (h : q_si s t) (h2 : q_si t y) : q_si s y := ⟨h2.1.trans h.1, fun i hi => (h2.2.1 i hi).trans (h.2.1 i hi), fun k hk => (h2.2.2 k hk).trans (h.2.2 k hk)⟩
theorem q_si4 {k : Nat} (v : Int32) (hk : ¬ q_Dn k) : q_si s (q_sA s 4 (upd (s.1 4) k v)) := ⟨rfl, fun i hi => q_uA_ne _ _ (by cases b : Nat.beq i 4 with | false => rfl | true => rw [b] at hi; cases hi), fun j dj => if_neg (fun z : j = k => hk (by rw [← z]; exact dj))⟩
theorem q_si31 (f : Nat → Int32) : q_si s (q_sA s 31 f) := ⟨rfl, fun i hi => q_uA_ne _ _ (by cases b : Nat.beq i 31 with | false => rfl | true => rw [b, Bool.or_true] at hi; cases hi), fun _ _ => rfl⟩
theorem q_si_sp (h : q_si s t) : q_sp q_Dn (t.1 3, t.1 4) (s.1 3, s.1 4) := ⟨fun k _ => congrFun (h.2.1 3 rfl) k, fun k _ dk => h.2.2 k dk⟩
theorem q_D29 : ¬ q_Dn 29 := by unfold q_Dn; decide
theorem q_D30 : ¬ q_Dn 30 := by unfold q_Dn; decide
theorem q_D10 : ¬ q_Dn 10 := by unfold q_Dn; decide
theorem q_124s (s : q_S) (a b : Int32) : q_si s (dz_N124_66 s a b) ∧ (dz_N124_66 s a b).1 31 = s.1 31 := by
  have G : ∀ s : q_S, q_si s (dz_N124_66_19 s a b) ∧ (dz_N124_66_19 s a b).1 31 = s.1 31 := fun s => by
    unfold dz_N124_66_19 q_let
    dsimp only
    cases dz_N121_66 s a with
    | true => exact ⟨q_si4 _ q_D30, rfl⟩
    | false => exact ⟨q_si_r s, rfl⟩
  unfold dz_N124_66 q_let
  dsimp only
  cases decide (1 < dz_N323 s b) with
  | true =>
    obtain ⟨h1, h2⟩ := G (q_sA s 4 (upd (s.1 4) 29 (((s.1 4) 29) ||| b)))
    exact ⟨(q_si4 _ q_D29).trans h1, h2⟩
  | false => exact G s
/-- one pixel -/
theorem q_draw1 {f : Nat} {v2 v4 v5 : Int32} (hv : v5.toInt ≤ v4.toInt + 1) (h4 : (v4 + 1).toInt = v4.toInt + 1) (h : dz_N103_65_95_47 (f + 1) s v2 v4 v5 = some y) : ∃ t p, q_si s t ∧ t.1 31 = upd (s.1 31) ((((32 * v2) + v5) &&& 1023).toNatClampNeg) p ∧ some p = q_col s v5 v2 ∧ dz_N103_65_95_47 f t v2 v4 (v5 + 1) = some y := by
  rw [dzs_N103_65_95_47] at h
  unfold q_let at h
  generalize hk : dz_N103_65_95_47 f = kk at h ⊢
  dsimp only at h
  rw [q_lt_F (show v5.toInt ≤ (v4 + 1).toInt by omega), cond_false] at h
  cases e1 : dz_N122_66 s v5 v2 with
  | none => rw [e1] at h; cases h
  | some r4 =>
    rw [e1, Option.bind_some] at h
    obtain ⟨g1, g2⟩ := q_124s s (dz_N119_66 s v5 v2) r4
    have e3 : dz_N123_66 (dz_N124_66 s (dz_N119_66 s v5 v2) r4) (dz_N119_66 s v5 v2) r4 = dz_N123_66 s (dz_N119_66 s v5 v2) r4 := q_c123 (q_si_sp g1) 5000 _ _ 0 (by decide) (by decide)
    rw [e3] at h
    have ec : q_col s v5 v2 = dz_N123_66 s (dz_N119_66 s v5 v2) r4 := by
      unfold q_col
      rw [e1]
      rfl
    cases e2 : dz_N123_66 s (dz_N119_66 s v5 v2) r4 with
    | none => rw [e2] at h; cases h
    | some p =>
      rw [e2, Option.bind_some] at h
      refine ⟨_, p, g1.trans (q_si31 _), ?_, (ec.trans e2).symm, h⟩
      show upd ((dz_N124_66 s (dz_N119_66 s v5 v2) r4).1 31) _ p = _
      rw [g2]
/-- all writes are before the present time: they all are done once more -/
theorem q_fRv {v v2 : Int32} {T : Int} (hw : ∀ i : Nat, (i : Int) < q_fN e s → ((q_fW e s i) >>> ((21 &&& 31) : Int32)).toInt ≤ T) (h1 : T ≤ v.toInt) (h2 : T ≤ v2.toInt) : q_fR e v s = q_fR e v2 s :=
  q_rp_v _ _ _ (fun i _ hi => q_nlt (by have := hw i (by omega); omega)) (fun i _ hi => q_nlt (by have := hw i (by omega); omega))
/-- what a drawing leaves: two pixels, or none -/
theorem q_iP_dr {d1 : Int} (hd : d1 = d + 1) (h2 : (∀ e, q_evb s = e → q_fT e t = q_fT e s + 1 ∧ q_fT (!e) t = q_fT (!e) s ∧ t.2.2 1 8 = s.2.2 1 8 ∧ ∀ e2, q_fN e2 t = q_fN e2 s)) (h1 : ∀ i, (Nat.beq i 4 || Nat.beq i 31) = false → t.1 i = s.1 i) (h4 : ∀ k, q_Dn k → t.1 4 k = s.1 4 k)
    (hO : ∀ a b : Int32, q_rgz 0 31 a → q_rgz 0 31 b → ¬ (q_mo a b).toInt = (s.2.2 1 8).toInt % 960 → t.1 31 ((32 * b) + a).toNatClampNeg = s.1 31 ((32 * b) + a).toNatClampNeg)
    (hN : ∀ a b : Int32, q_rgz 0 31 a → q_rgz 0 31 b → (q_mo a b).toInt = (s.2.2 1 8).toInt % 960 → some (t.1 31 ((32 * b) + a).toNatClampNeg) = q_col s a b)
    (hd0 : d = 0) (h : q_iP c d u s) : q_iP c d1 u t := fun hc hu => by
  obtain ⟨e, he, ⟨y0, y1⟩, ht, hn, hw, hcur, hot, hp⟩ := h hc hu
  obtain ⟨t1, t2, l8, tn⟩ := h2 e he
  have z2 : (2000 : Int32).toInt = 2000 := rfl
  have eS : ∀ e2, q_fS e2 t = q_fS e2 s := fun e2 => by
    unfold q_fS
    rw [h1 15 rfl, h1 16 rfl, h1 20 rfl, h1 21 rfl]
  have eW : ∀ e2, q_fW e2 t = q_fW e2 s := fun e2 => by
    unfold q_fW
    rw [h1 17 rfl, h1 22 rfl]
  have eR : ∀ e2 v, q_fR e2 v t = q_fR e2 v s := fun e2 v => by
    unfold q_fR
    rw [eS, eW, tn]
  refine ⟨e, by unfold q_evb; rw [l8]; exact he, by rw [l8]; exact ⟨y0, y1⟩, by rw [l8, t1]; omega, by rw [tn]; exact hn, fun i hi => ?_, ?_, by rw [tn]; exact hot, fun a b ha hb => ?_⟩
  · rw [tn] at hi
    rw [eW, t1]
    have := hw i hi
    omega
  · rw [eR]
    exact hcur.trans ⟨fun k _ => (congrFun (h1 3 rfl) k).symm, fun k _ dk => (h4 k dk).symm⟩
  · obtain ⟨p1, p2, p3⟩ := hp a b ha hb
    have o1 := hO a b ha hb
    refine ⟨fun hm => ?_, fun hm1 hm2 => ?_, fun hm1 hm2 => ?_⟩
    · rw [eR]
      rw [t1] at hm
      by_cases q : (q_mo a b).toInt = (s.2.2 1 8).toInt % 960
      · rw [hN a b ha hb q, q_cl_s, q_fRv (v2 := 2000) hw (by omega) (by omega)]
        exact (q_cl_c hcur a b).symm
      · rw [o1 q]
        exact p1 (by omega)
    · rw [eR]
      rw [t1] at hm1
      rw [t2] at hm2
      rw [o1 (by omega)]
      exact p2 (by omega) hm2
    · rw [t1] at hm1
      rw [t2] at hm2
      rw [o1 (by omega)]
      exact p3 (by omega) hm2
theorem q_tikk (s : q_S) (e : Bool) (he : q_evb s = e) (d : Int) (hT : q_fT e s = (s.2.2 1 8).toInt % 960 + d) (hd : 0 ≤ d ∧ d ≤ 1) : ∀ e2, q_evb s = e2 → q_fT e2 (cond e (q_sI s 13 3 ((s.2.1 13 3) + 1)) (q_sI s 18 3 ((s.2.1 18 3) + 1))) = q_fT e2 s + 1 ∧ q_fT (!e2) (cond e (q_sI s 13 3 ((s.2.1 13 3) + 1)) (q_sI s 18 3 ((s.2.1 18 3) + 1))) = q_fT (!e2) s ∧ (cond e (q_sI s 13 3 ((s.2.1 13 3) + 1)) (q_sI s 18 3 ((s.2.1 18 3) + 1))).2.2 1 8 = s.2.2 1 8 ∧ ∀ e3, q_fN e3 (cond e (q_sI s 13 3 ((s.2.1 13 3) + 1)) (q_sI s 18 3 ((s.2.1 18 3) + 1))) = q_fN e3 s := by
  intro e2 he2
  rw [he] at he2
  subst he2
  cases e with
  | true =>
    have hT : (s.2.1 13 3).toInt = (s.2.2 1 8).toInt % 960 + d := hT
    have a : ((s.2.1 13 3) + 1).toInt = (s.2.1 13 3).toInt + 1 := q_addI ⟨by omega, by omega⟩ ⟨by decide, by decide⟩
    exact ⟨a, rfl, rfl, fun e3 => by cases e3 <;> rfl⟩
  | false =>
    have hT : (s.2.1 18 3).toInt = (s.2.2 1 8).toInt % 960 + d := hT
    have a : ((s.2.1 18 3) + 1).toInt = (s.2.1 18 3).toInt + 1 := q_addI ⟨by omega, by omega⟩ ⟨by decide, by decide⟩
    exact ⟨a, rfl, rfl, fun e3 => by cases e3 <;> rfl⟩
theorem q_tikk_r (s : q_S) (e : Bool) : (cond e (q_sI s 13 3 ((s.2.1 13 3) + 1)) (q_sI s 18 3 ((s.2.1 18 3) + 1))).1 = s.1 := by cases e <;> rfl
theorem q_tikks (s : q_S) : cond (decide (lg_cmp (((s.2.2 1 8) / 960) - ((s.2.2 1 8) / 960) / 2 * 2) 0 = 0)) (some (q_sI s 13 3 ((s.2.1 13 3) + 1))) (some (q_sI s 18 3 ((s.2.1 18 3) + 1))) = some (cond (q_evb s) (q_sI s 13 3 ((s.2.1 13 3) + 1)) (q_sI s 18 3 ((s.2.1 18 3) + 1))) := by
  show cond (q_evb s) _ _ = _
  cases q_evb s <;> rfl
/-- no pixel stands at this time -/
theorem q_iP_out (hno : ∀ a b : Int32, q_rgz 0 31 a → q_rgz 0 31 b → ¬ (q_mo a b).toInt = (s.2.2 1 8).toInt % 960) (h : q_iP c 0 u s) : q_iP c 1 u (cond (q_evb s) (q_sI s 13 3 ((s.2.1 13 3) + 1)) (q_sI s 18 3 ((s.2.1 18 3) + 1))) := fun hc hu => by
  obtain ⟨e, q⟩ := h hc hu
  have he := q.1
  have hT := q.2.2.1
  refine q_iP_dr (s := s) (d := 0) rfl ?_ (fun i _ => by rw [q_tikk_r]) (fun k _ => by rw [q_tikk_r]) (fun _ _ _ _ _ => by rw [q_tikk_r]) (fun a b ha hb z => absurd z (hno a b ha hb)) rfl h hc hu
  rw [he]
  exact fun e2 h2 => q_tikk s e he 0 hT ⟨by decide, by decide⟩ e2 (he.trans h2)
theorem q_iP_103 (h : q_iP c 0 u s) (e1 : dz_N103_65_95 s = some y) : q_iP c 1 u y := by
  intro hc hu
  have h0 : 0 ≤ (s.2.2 1 8).toInt := by
    obtain ⟨e, q⟩ := h hc hu
    exact q.2.1.1
  have i86 := q_86I h0
  have i87 := q_87I h0
  have z0 : (0 : Int32).toInt = 0 := rfl
  have z4 : (4 : Int32).toInt = 4 := rfl
  have z32 : (32 : Int32).toInt = 32 := rfl
  have z19 : (19 : Int32).toInt = 19 := rfl
  have e24 : (dz_N86_65 s / 24).toInt = (dz_N86_65 s).toInt / 24 := q_toInt_div (by omega) (by decide)
  have ev2 : (dz_N86_65 s / 24 - 4).toInt = (dz_N86_65 s / 24).toInt - 4 := q_subI ⟨by omega, by omega⟩ ⟨by decide, by decide⟩
  unfold dz_N103_65_95 q_let at e1
  dsimp only at e1
  have out : (∀ a b : Int32, q_rgz 0 31 a → q_rgz 0 31 b → ¬ (q_mo a b).toInt = (s.2.2 1 8).toInt % 960) → some (cond (q_evb s) (q_sI s 13 3 ((s.2.1 13 3) + 1)) (q_sI s 18 3 ((s.2.1 18 3) + 1))) = some y → q_iP c 1 u y := fun hno q => by
    cases q
    exact q_iP_out hno h
  have geo : ∀ a b : Int32, q_rgz 0 31 a → q_rgz 0 31 b → (q_mo a b).toInt = (s.2.2 1 8).toInt % 960 → b.toInt = (dz_N86_65 s / 24 - 4).toInt ∧ a.toInt / 2 + 4 = (dz_N87_65 s).toInt := fun a b ha hb hq => by
    have e := q_moI ha hb
    obtain ⟨a0, a1⟩ := ha
    obtain ⟨b0, b1⟩ := hb
    omega
  by_cases l1 : (dz_N86_65 s / 24 - 4).toInt < 0
  · rw [q_lt_T (show (dz_N86_65 s / 24 - 4).toInt < (0 : Int32).toInt by omega), cond_true, q_tikks] at e1
    exact out (fun a b ha hb hq => by obtain ⟨q1, q2⟩ := geo a b ha hb hq; have := hb.1; omega) e1 hc hu
  rw [q_lt_F (show (0 : Int32).toInt ≤ (dz_N86_65 s / 24 - 4).toInt by omega), cond_false] at e1
  by_cases l2 : 32 ≤ (dz_N86_65 s / 24 - 4).toInt
  · rw [q_lt_F (show (32 : Int32).toInt ≤ (dz_N86_65 s / 24 - 4).toInt by omega), cond_false, q_tikks] at e1
    exact out (fun a b ha hb hq => by obtain ⟨q1, q2⟩ := geo a b ha hb hq; have := hb.2; omega) e1 hc hu
  rw [q_lt_T (show (dz_N86_65 s / 24 - 4).toInt < (32 : Int32).toInt by omega), cond_true] at e1
  by_cases l3 : (dz_N87_65 s).toInt < 4
  · rw [q_lt_T (show (dz_N87_65 s).toInt < (4 : Int32).toInt by omega), cond_true, q_tikks] at e1
    exact out (fun a b ha hb hq => by obtain ⟨q1, q2⟩ := geo a b ha hb hq; have := ha.1; omega) e1 hc hu
  rw [q_lt_F (show (4 : Int32).toInt ≤ (dz_N87_65 s).toInt by omega), cond_false] at e1
  by_cases l4 : 19 < (dz_N87_65 s).toInt
  · rw [q_lt_T (show (19 : Int32).toInt < (dz_N87_65 s).toInt by omega), cond_true, q_tikks] at e1
    exact out (fun a b ha hb hq => by obtain ⟨q1, q2⟩ := geo a b ha hb hq; have := ha.2; omega) e1 hc hu
  rw [q_lt_F (show (dz_N87_65 s).toInt ≤ (19 : Int32).toInt by omega), cond_false] at e1
  have ec4 : (dz_N87_65 s - 4).toInt = (dz_N87_65 s).toInt - 4 := q_subI ⟨by omega, by omega⟩ ⟨by decide, by decide⟩
  have ec2 : (2 * (dz_N87_65 s - 4)).toInt = 2 * (dz_N87_65 s - 4).toInt := q_mulI (n := 2) rfl (by decide) (by decide) ⟨by omega, by omega⟩
  generalize dz_N86_65 s / 24 - 4 = v2 at *
  generalize 2 * (dz_N87_65 s - 4) = v4 at *
  have e41 : (v4 + 1).toInt = v4.toInt + 1 := q_addI ⟨by omega, by omega⟩ ⟨by decide, by decide⟩
  have e411 : (v4 + 1 + 1).toInt = (v4 + 1).toInt + 1 := q_addI ⟨by omega, by omega⟩ ⟨by decide, by decide⟩
  obtain ⟨t1, p0, g1, x1, c1, e1⟩ := q_draw1 (by omega) e41 e1
  obtain ⟨t2, p1, g2, x2, c2, e1⟩ := q_draw1 (by omega) e41 e1
  rw [dzs_N103_65_95_47] at e1
  dsimp only at e1
  rw [q_lt_T (show (v4 + 1).toInt < (v4 + 1 + 1).toInt by omega), cond_true, q_tikks] at e1
  cases e1
  have G := g1.trans g2
  have c2 : some p1 = q_col s (v4 + 1) v2 := c2.trans (q_col_c (q_si_sp g1) _ _)
  obtain ⟨e, q⟩ := h hc hu
  have he := q.1
  have hT := q.2.2.1
  have he2 : q_evb t2 = e := by unfold q_evb; rw [G.1]; exact he
  have rv4 : q_rgz 0 31 v4 := ⟨by omega, by omega⟩
  have rv5 : q_rgz 0 31 (v4 + 1) := ⟨by omega, by omega⟩
  have rv2 : q_rgz 0 31 v2 := ⟨by omega, by omega⟩
  have i1 := (q_ixI rv4 rv2).2
  have i2 := (q_ixI rv5 rv2).2
  refine q_iP_dr (s := s) (d := 0) rfl ?_ (fun i hi => by rw [q_tikk_r]; exact G.2.1 i hi) (fun k dk => by rw [q_tikk_r]; exact G.2.2 k dk) (fun a b ha hb z => ?_) (fun a b ha hb z => ?_) rfl h hc hu
  · have k := q_tikk t2 e he2 0 (by unfold q_fT at hT ⊢; rw [G.1]; exact hT) ⟨by decide, by decide⟩
    rw [he2]
    unfold q_fT q_fN at k ⊢
    rw [G.1] at k ⊢
    intro e3 h3
    exact k e3 (by unfold q_evb at h3 ⊢; rw [G.1]; exact h3)
  · rw [q_tikk_r, x2, x1, (q_ixI ha hb).1, i1, i2]
    have em := q_moI ha hb
    obtain ⟨a0, a1⟩ := ha
    obtain ⟨b0, b1⟩ := hb
    unfold upd
    rw [if_neg (by omega), if_neg (by omega)]
  · obtain ⟨q1, q2⟩ := geo a b ha hb z
    obtain rfl : b = v2 := Int32.toInt_inj.mp q1
    rw [q_tikk_r, x2, x1, (q_ixI ha hb).1, i1, i2]
    have a0 := ha.1
    unfold upd
    by_cases k : a.toInt = v4.toInt
    · obtain rfl : a = v4 := Int32.toInt_inj.mp k
      rw [if_neg (by omega), if_pos rfl]
      exact c1
    · obtain rfl : a = v4 + 1 := Int32.toInt_inj.mp (by omega)
      rw [if_pos rfl]
      exact c2
theorem q_cpT {f k2 : Nat → Int32} {n k : Nat} (hk : k < n) : va_cpy f k2 0 0 n k = f k := by
  unfold va_cpy
  rw [if_pos ⟨Nat.zero_le _, by omega⟩, Nat.zero_add, Nat.sub_zero]
/-- a cycle's end -/
theorem q_iP_107 {c2 : Int} (hc : c < 3072) (h : q_iP c 1 u s) (h2 : 0 ≤ c2) (h3 : ((s.2.2 1 8).toInt + 1) % 960 = 0 ∨ c ≤ c2) : q_iP c2 0 (u + 1) (dz_N107_65 s) := fun _ hu => by
  obtain ⟨e, he, ⟨y0, y1⟩, ht, ⟨n0, n1⟩, hw, hcur, hot, hp⟩ := h hc (by omega)
  have h0 := y0
  have eJ : ((s.2.2 1 8) + 1).toInt = (s.2.2 1 8).toInt + 1 := by
    rw [Int64.toInt_add]
    exact Int.bmod_eq_of_le (by show -(2 ^ 64 / 2 : Int) ≤ _ + 1; omega) (by show _ + 1 < ((2 ^ 64 + 1) / 2 : Int); omega)
  have em : (((s.2.2 1 8) + 1) - ((s.2.2 1 8) + 1) / 960 * 960).toInt = ((s.2.2 1 8).toInt + 1) % 960 := by
    rw [q64_rem (by omega) (by decide), eJ]; rfl
  have ev := q_evI h0
  rw [he] at ev
  have ev2 : q_evb (q_sJ s 1 8 ((s.2.2 1 8) + 1)) = decide (((s.2.2 1 8).toInt + 1) / 960 % 2 = 0) := by
    rw [q_evI (by show 0 ≤ ((s.2.2 1 8) + 1).toInt; omega)]
    show decide (((s.2.2 1 8) + 1).toInt / 960 % 2 = 0) = _
    rw [eJ]
  have T0 : 0 ≤ (s.2.2 1 8).toInt % 960 := by omega
  unfold dz_N107_65
  rw [q_lgc, em]
  by_cases q : ((s.2.2 1 8).toInt + 1) % 960 = 0
  · rw [decide_eq_true q, cond_true]
    have fl : q_evb (q_sJ s 1 8 ((s.2.2 1 8) + 1)) = !e := by
      rw [ev2, ev]
      by_cases p : (s.2.2 1 8).toInt / 960 % 2 = 0
      · rw [decide_eq_true p, decide_eq_false (by omega)]; rfl
      · rw [decide_eq_false p, decide_eq_true (by omega)]; rfl
    have mo : ∀ a b : Int32, q_rgz 0 31 a → q_rgz 0 31 b → 0 ≤ (q_mo a b).toInt ∧ (q_mo a b).toInt < 960 := fun a b ha hb => by
      rw [q_moI ha hb]
      obtain ⟨a0, a1⟩ := ha
      obtain ⟨b0, b1⟩ := hb
      omega
    cases e with

    | true =>
      rw [show decide (lg_cmp ((((s.2.2 1 8) + 1) / 960) - (((s.2.2 1 8) + 1) / 960) / 2 * 2) 0 = 0) = false from fl, cond_false]
      have n0 : 0 ≤ (s.2.1 13 2).toInt := n0
      have n1 : (s.2.1 13 2).toInt ≤ c := n1
      have ht : (s.2.1 13 3).toInt = (s.2.2 1 8).toInt % 960 + 1 := ht
      have z0 : (0 : Int32).toInt = 0 := rfl
      refine ⟨false, fl, ⟨?_, ?_⟩, ?_, ⟨?_, ?_⟩, ?_, ?_, ⟨n0, by show (s.2.1 13 2).toInt < 3072; omega⟩, fun a b ha hb => ⟨?_, ?_, ?_⟩⟩
      · show 0 ≤ ((s.2.2 1 8) + 1).toInt
        omega
      · show ((s.2.2 1 8) + 1).toInt ≤ u + 1
        omega
      · show (0 : Int32).toInt = ((s.2.2 1 8) + 1).toInt % 960 + 0
        omega
      · exact Int.le_refl 0
      · show (0 : Int32).toInt ≤ c2
        omega
      · intro i hi
        have hi : (i : Int) < (0 : Int32).toInt := hi
        omega
      · exact ⟨fun k hk => q_cpT hk, fun k hk _ => q_cpT hk⟩
      · intro hm
        have hm : (q_mo a b).toInt < (0 : Int32).toInt := hm
        have := (mo a b ha hb).1
        omega
      · intro _ hm
        exact (hp a b ha hb).1 hm
      · intro _ hm
        have hm : (s.2.1 13 3).toInt ≤ (q_mo a b).toInt := hm
        have := (mo a b ha hb).2
        omega
    | false =>
      rw [show decide (lg_cmp ((((s.2.2 1 8) + 1) / 960) - (((s.2.2 1 8) + 1) / 960) / 2 * 2) 0 = 0) = true from fl, cond_true]
      have n0 : 0 ≤ (s.2.1 18 2).toInt := n0
      have n1 : (s.2.1 18 2).toInt ≤ c := n1
      have ht : (s.2.1 18 3).toInt = (s.2.2 1 8).toInt % 960 + 1 := ht
      have z0 : (0 : Int32).toInt = 0 := rfl
      refine ⟨true, fl, ⟨?_, ?_⟩, ?_, ⟨?_, ?_⟩, ?_, ?_, ⟨n0, by show (s.2.1 18 2).toInt < 3072; omega⟩, fun a b ha hb => ⟨?_, ?_, ?_⟩⟩
      · show 0 ≤ ((s.2.2 1 8) + 1).toInt
        omega
      · show ((s.2.2 1 8) + 1).toInt ≤ u + 1
        omega
      · show (0 : Int32).toInt = ((s.2.2 1 8) + 1).toInt % 960 + 0
        omega
      · exact Int.le_refl 0
      · show (0 : Int32).toInt ≤ c2
        omega
      · intro i hi
        have hi : (i : Int) < (0 : Int32).toInt := hi
        omega
      · exact ⟨fun k hk => q_cpT hk, fun k hk _ => q_cpT hk⟩
      · intro hm
        have hm : (q_mo a b).toInt < (0 : Int32).toInt := hm
        have := (mo a b ha hb).1
        omega
      · intro _ hm
        exact (hp a b ha hb).1 hm
      · intro _ hm
        have hm : (s.2.1 18 3).toInt ≤ (q_mo a b).toInt := hm
        have := (mo a b ha hb).2
        omega
  · rw [decide_eq_false q, cond_false]
    have fl : q_evb (q_sJ s 1 8 ((s.2.2 1 8) + 1)) = e := by
      rw [ev2, ev]
      by_cases p : (s.2.2 1 8).toInt / 960 % 2 = 0
      · rw [decide_eq_true p, decide_eq_true (by omega)]
      · rw [decide_eq_false p, decide_eq_false (by omega)]
    refine ⟨e, fl, ⟨?_, ?_⟩, ?_, ⟨n0, by show q_fN e s ≤ c2; omega⟩, hw, hcur, hot, hp⟩
    · show 0 ≤ ((s.2.2 1 8) + 1).toInt
      omega
    · show ((s.2.2 1 8) + 1).toInt ≤ u + 1
      omega
    · show q_fT e s = ((s.2.2 1 8) + 1).toInt % 960 + 0
      omega
theorem q_108t {a b v : Int32} (h : ((dz_N122_96 r a b).bind fun r4 => (dz_N123_96 r (dz_N119_96 r a b) r4).bind fun r5 => some (r, r5)) = some (y, v)) : q_cl (r.1 33, r.1 34) a b = some v := by
  rw [← q_col96]
  cases e1 : dz_N122_96 r a b with
  | none => rw [e1] at h; cases h
  | some r4 =>
    rw [e1, Option.bind_some] at h
    rw [Option.bind_some]
    cases e2 : dz_N123_96 r (dz_N119_96 r a b) r4 with
    | none => rw [e2] at h; cases h
    | some r5 => rw [e2] at h; cases h; rfl
/-- the answer is the pixel -/
theorem q_108P {a b v : Int32} (ha : q_rgz 0 31 a) (hb : q_rgz 0 31 b) (hc : c < 3072) (hu : u ≤ 1000000) (h : q_iP c 0 u s) (e1 : dz_N108_65_96 s a b = some (y, v)) : v = s.1 31 ((32 * b) + a).toNatClampNeg := by
  obtain ⟨e, he, -, -, ⟨n0, n1⟩, -, -, ⟨o0, o1⟩, hp⟩ := h hc hu
  obtain ⟨p1, p2, p3⟩ := hp a b ha hb
  unfold dz_N108_65_96 q_let at e1
  dsimp only at e1
  cases e with
  | true =>
    have n0 : 0 ≤ (s.2.1 13 2).toInt := n0
    have n1 : (s.2.1 13 2).toInt ≤ c := n1
    have o0 : 0 ≤ (s.2.1 18 2).toInt := o0
    have o1 : (s.2.1 18 2).toInt < 3072 := o1
    rw [show decide (lg_cmp (((s.2.2 1 8) / 960) - ((s.2.2 1 8) / 960) / 2 * 2) 0 = 0) = true from he, cond_true] at e1
    by_cases m1 : (q_mo a b).toInt < (s.2.1 13 3).toInt
    · rw [q_lt_T (show ((24 * (b + 4)) + ((a / 2) + 4)).toInt < (s.2.1 13 3).toInt from m1), cond_true] at e1
      cases e3 : dz_N129_77_96 s ((24 * (b + 4)) + ((a / 2) + 4)) with
      | none => rw [e3] at e1; cases e1
      | some r2 =>
        rw [e3, Option.bind_some] at e1
        have k := (q_cl_c (q_sp_le (fun _ _ => trivial) (q_rpl77 n0 (by omega) e3)) a b).symm.trans (q_108t e1)
        exact (Option.some.inj ((p1 m1).trans k)).symm
    rw [q_lt_F (show (s.2.1 13 3).toInt ≤ ((24 * (b + 4)) + ((a / 2) + 4)).toInt from Int.not_lt.mp m1), cond_false] at e1
    by_cases m2 : (q_mo a b).toInt < (s.2.1 18 3).toInt
    · rw [q_lt_T (show ((24 * (b + 4)) + ((a / 2) + 4)).toInt < (s.2.1 18 3).toInt from m2), cond_true] at e1
      cases e3 : dz_N129_82_96 s ((24 * (b + 4)) + ((a / 2) + 4)) with
      | none => rw [e3] at e1; cases e1
      | some r2 =>
        rw [e3, Option.bind_some] at e1
        have k := (q_cl_c (q_sp_le (fun _ _ => trivial) (q_rpl82 o0 (by omega) e3)) a b).symm.trans (q_108t e1)
        exact (Option.some.inj ((p2 (Int.not_lt.mp m1) m2).trans k)).symm
    rw [q_lt_F (show (s.2.1 18 3).toInt ≤ ((24 * (b + 4)) + ((a / 2) + 4)).toInt from Int.not_lt.mp m2), cond_false] at e1
    cases e1
    exact (p3 (Int.not_lt.mp m1) (Int.not_lt.mp m2)).symm
  | false =>
    have n0 : 0 ≤ (s.2.1 18 2).toInt := n0
    have n1 : (s.2.1 18 2).toInt ≤ c := n1
    have o0 : 0 ≤ (s.2.1 13 2).toInt := o0
    have o1 : (s.2.1 13 2).toInt < 3072 := o1
    rw [show decide (lg_cmp (((s.2.2 1 8) / 960) - ((s.2.2 1 8) / 960) / 2 * 2) 0 = 0) = false from he, cond_false] at e1
    by_cases m1 : (q_mo a b).toInt < (s.2.1 18 3).toInt
    · rw [q_lt_T (show ((24 * (b + 4)) + ((a / 2) + 4)).toInt < (s.2.1 18 3).toInt from m1), cond_true] at e1
      cases e3 : dz_N129_82_96 s ((24 * (b + 4)) + ((a / 2) + 4)) with
      | none => rw [e3] at e1; cases e1
      | some r2 =>
        rw [e3, Option.bind_some] at e1
        have k := (q_cl_c (q_sp_le (fun _ _ => trivial) (q_rpl82 n0 (by omega) e3)) a b).symm.trans (q_108t e1)
        exact (Option.some.inj ((p1 m1).trans k)).symm
    rw [q_lt_F (show (s.2.1 18 3).toInt ≤ ((24 * (b + 4)) + ((a / 2) + 4)).toInt from Int.not_lt.mp m1), cond_false] at e1
    by_cases m2 : (q_mo a b).toInt < (s.2.1 13 3).toInt
    · rw [q_lt_T (show ((24 * (b + 4)) + ((a / 2) + 4)).toInt < (s.2.1 13 3).toInt from m2), cond_true] at e1
      cases e3 : dz_N129_77_96 s ((24 * (b + 4)) + ((a / 2) + 4)) with
      | none => rw [e3] at e1; cases e1
      | some r2 =>
        rw [e3, Option.bind_some] at e1
        have k := (q_cl_c (q_sp_le (fun _ _ => trivial) (q_rpl77 o0 (by omega) e3)) a b).symm.trans (q_108t e1)
        exact (Option.some.inj ((p2 (Int.not_lt.mp m1) m2).trans k)).symm
    rw [q_lt_F (show (s.2.1 13 3).toInt ≤ ((24 * (b + 4)) + ((a / 2) + 4)).toInt from Int.not_lt.mp m2), cond_false] at e1
    cases e1
    exact (p3 (Int.not_lt.mp m1) (Int.not_lt.mp m2)).symm
end
